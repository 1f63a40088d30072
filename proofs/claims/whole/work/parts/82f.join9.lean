section IL
variable {amade bmade : Bool} {aquires athings aghosts aletter apage : Int32} {asizes acells akinds awords aquireOf aplaceOf : NF} {bquires bthings bghosts bletter bpage : Int32} {bsizes bcells bkinds bwords bquireOf bplaceOf : NF} {isThere mthings mquires fl fp sizeOf placed kindOf catchOf : NF}
theorem FrmAll_r : FrmAll isThere mthings mquires fl fp sizeOf placed kindOf catchOf isThere mthings mquires fl fp sizeOf placed kindOf catchOf := ⟨Frm_r _ _, Frm_r _ _, Frm_r _ _, Frm_r _ _, Frm_r _ _, Frm_r _ _, Frm_r _ _, Frm_r _ _, Frm_r _ _⟩
theorem op_ideal {i j : Nat} (hi : i < 4) (hj : j < 4) (hA : KepR i amade aquires athings aghosts aletter apage asizes acells akinds awords aquireOf aplaceOf isThere mthings mquires fl fp sizeOf placed kindOf catchOf) (hB : KepR j bmade bquires bthings bghosts bletter bpage bsizes bcells bkinds bwords bquireOf bplaceOf isThere mthings mquires fl fp sizeOf placed kindOf catchOf) (fm : Bool) (x1 x2 x3 x4 x5 : Int32) (z1 z2 z3 z4 z5 z6 : NF) (hC : CurR fm x1 x2 x3 x4 x5 z1 z2 z3 z4 z5 z6 isThere mthings mquires fl fp sizeOf placed kindOf catchOf) (gm : Bool) (g1 g2 g3 g4 g5 : Int32) (y1 y2 y3 y4 y5 y6 : NF) (g6 : Int32) (told made : Int32) (mk mp : NF) (v1 v2 : Int32) (ha : amade = true) (hb : bmade = true) : ∃ c1 c2, F_X7_ideal_ok_ok aquires athings aletter asizes acells akinds bquires bthings bletter bsizes bcells bkinds fm x1 x2 x3 x4 x5 z1 z2 z3 z4 z5 z6 gm g1 g2 g3 g4 g5 y1 y2 y3 y4 y5 y6 g6 v1 v2 = some c1 ∧ F_X8_ideal told isThere mthings mquires fl fp sizeOf placed kindOf catchOf made mk mp (nI i) (nI j) = some c2 ∧ c1.1 = c2.1 ∧ CurR c1.2.1 c1.2.2.1 c1.2.2.2.1 c1.2.2.2.2.1 c1.2.2.2.2.2.1 c1.2.2.2.2.2.2.1 c1.2.2.2.2.2.2.2.1 c1.2.2.2.2.2.2.2.2.1 c1.2.2.2.2.2.2.2.2.2.1 c1.2.2.2.2.2.2.2.2.2.2.1 c1.2.2.2.2.2.2.2.2.2.2.2.1 c1.2.2.2.2.2.2.2.2.2.2.2.2.1 c2.2.2.1 c2.2.2.2.1 c2.2.2.2.2.1 c2.2.2.2.2.2.1 c2.2.2.2.2.2.2.1 c2.2.2.2.2.2.2.2.1 c2.2.2.2.2.2.2.2.2.1 c2.2.2.2.2.2.2.2.2.2.1 c2.2.2.2.2.2.2.2.2.2.2.1 ∧ FrmAll isThere mthings mquires fl fp sizeOf placed kindOf catchOf c2.2.2.1 c2.2.2.2.1 c2.2.2.2.2.1 c2.2.2.2.2.2.1 c2.2.2.2.2.2.2.1 c2.2.2.2.2.2.2.2.1 c2.2.2.2.2.2.2.2.2.1 c2.2.2.2.2.2.2.2.2.2.1 c2.2.2.2.2.2.2.2.2.2.2.1 := by
  rcases hA with ⟨-, tA, A, wA, cA, mA⟩ | ⟨h, -⟩
  rotate_left
  · rw [ha] at h; cases h
  rcases hB with ⟨-, tB, B, wB, cB, mB⟩ | ⟨h, -⟩
  rotate_left
  · rw [hb] at h; cases h
  have hrA := wA.1
  have hrB := wB.1
  have e3 := areKept_z i j hi hj 1 1 tA tB (Or.inr rfl) (Or.inr rfl)
  rw [decide_eq_true (by omega)] at e3
  have lA := mA.1.2.2.1
  have lB := mB.1.2.2.1
  unfold F_X7_ideal_ok_ok F_X8_ideal F_X0_isFoldedLike
  rw [e3, Option.bind_some, cA.1.2.2.2.1, cB.1.2.2.2.1, nI_zI, nI_zI]
  by_cases hl : fL A = fL B
  · have hz : zI (fL A) = zI (fL B) := by rw [hl]
    have q1 : ¬ qb true = 0 := by decide
    rcases lik_first A B 8 with hk | ⟨t, t1, t2, t3, t4, t5, t6⟩
    · have hL : Lik A B := fun q a b c => hk q a (by omega) b c
      have k1 := like_b15_yes wA cA wB cB hL 8 FU 0 (by omega) (by omega) (by unfold FU; omega)
      obtain ⟨N, hN⟩ : ∃ N : Nat, (N : Int) = max (fQ A) (fQ B) := ⟨(max (fQ A) (fQ B)).toNat, by omega⟩
      obtain ⟨c, e1, c1, pc⟩ := join_z wA cA wB cB N hN gm g1 g2 g3 g4 g5 y1 y2 y3 y4 y5 y6 g6
      obtain ⟨hT1, hT2⟩ := jA_T wA wB (fL A) N hN
      have hwN := PW_jA wA wB (fL A) N (by omega)
      have hf := jA_f A B (fL A) N
      have hT0 := hwN.1.2.2.1
      have hll : 0 < fQ (jA A B (fL A) N) → jl A B N = fS (jA A B (fL A) N) (fQ (jA A B (fL A) N) - 1) := by
        intro h0
        rw [hf.1] at h0
        unfold jl
        rw [if_neg (by omega), hf.1, hf.2.1 _ (by omega) (by omega)]
      have b46 := ideal_b46_yes (isThere := isThere) wA mA wB mB (by omega) (by omega) (by omega) (by omega) 0 made mk mp hL (min (fQ A) (fQ B)).toNat FU 0 (by omega) (by omega) (by unfold FU; omega)
      have pk0 : PK (b0 (fL A) 0) 0 0 mk mp := ⟨rfl, fun q a b => by have : fT (b0 (fL A) 0) = 0 := rfl; omega, fun q p a b => by have : fQ (b0 (fL A) 0) = 0 := rfl; omega⟩
      obtain ⟨c', e4, -, pk1⟩ := makesExtras_z wA mA (by omega) (by omega) (-1) (by omega) (by omega) (Φ := b0 (fL A) 0) (by have : fT (b0 (fL A) 0) = 0 := rfl; omega) (PW_b0 _ _) pk0
      have eb : beh A (-1) = 0 := by unfold beh; rw [if_neg (by omega)]; rfl
      rw [eb, Int.sub_zero] at pk1
      have model (x5 : Int) (hx : 1 ≤ x5) (hx2 : x5 < 5) (hq : mquires x5.toNat = zI N) (hxs : ∀ q, 0 ≤ q → q < (N : Int) → sizeOf (8 * x5 + q).toNat = zI (jS A B q)) : ∃ c2, F_X8_ideal_b127 0 isThere mthings mquires fl fp sizeOf placed kindOf catchOf mk mp (zI ((i : Int) + 1)) (zI ((j : Int) + 1)) (zI x5) = some c2 ∧ ((fT (jA A B (fL A) N) ≤ 30 ∧ c2.1 = zI (fT (jA A B (fL A) N)) ∧ c2.2.2.1 0 = 1 ∧ FoldM 0 (jA A B (fL A) N) c2.2.2.2.1 c2.2.2.2.2.1 c2.2.2.2.2.2.1 c2.2.2.2.2.2.2.1 c2.2.2.2.2.2.2.2.1 c2.2.2.2.2.2.2.2.2.1 c2.2.2.2.2.2.2.2.2.2.1 c2.2.2.2.2.2.2.2.2.2.2.1 ∧ FrmAll isThere mthings mquires fl fp sizeOf placed kindOf catchOf c2.2.2.1 c2.2.2.2.1 c2.2.2.2.2.1 c2.2.2.2.2.2.1 c2.2.2.2.2.2.2.1 c2.2.2.2.2.2.2.2.1 c2.2.2.2.2.2.2.2.2.1 c2.2.2.2.2.2.2.2.2.2.1 c2.2.2.2.2.2.2.2.2.2.2.1) ∨ (30 < fT (jA A B (fL A) N) ∧ ∃ m' k' p', c2 = (-1, 0, isThere, mthings, mquires, fl, fp, sizeOf, placed, kindOf, catchOf, m', k', p'))) := by
        obtain ⟨m', k', p', e5, pk2⟩ := ideal_b143_z (isThere := isThere) wA mA wB mB (by omega) (by omega) (by omega) (by omega) tA tB 0 (fL A) x5 (by omega) hx2 N hN hq hxs (fun m hm p hp => by have := hT2 m hm p hp; omega) (by omega) N FU 0 c'.1 c'.2 mp (by omega) (by unfold FU; omega) pk1
        unfold F_X8_ideal_b127
        have e4' : F_X8_makesExtras mthings kindOf 0 mk (zI ((i : Int) + 1)) (-1) = some c' := e4
        have e5' : F_X8_ideal_b143 FU 0 isThere mthings mquires fl fp sizeOf placed kindOf catchOf c'.1 c'.2 mp (zI ((i : Int) + 1)) (zI ((j : Int) + 1)) (zI x5) 0 = _ := e5
        rw [e4', Option.bind_some, e5']
        by_cases h30 : fT (jA A B (fL A) N) ≤ 30
        · rw [if_pos h30]
          obtain ⟨c2, e6, e7, e8, e9, e10⟩ := ideal_fin (isThere := isThere) (mthings := mthings) (mquires := mquires) (firstLetter := fl) (firstPage := fp) (placed := placed) (kindOf := kindOf) (catchOf := catchOf) wA wB (fL A) N hN h30 0 x5 hx hx2 hxs m' k' p' pk2
          exact ⟨c2, e6, Or.inl ⟨h30, e7, e8, e9, e10⟩⟩
        · rw [if_neg h30]
          exact ⟨_, rfl, Or.inr ⟨by omega, m', k', p', rfl⟩⟩
      have model2 : ∃ c2, F_X8_ideal_b105 0 isThere mthings mquires fl fp sizeOf placed kindOf catchOf mk mp (zI ((i : Int) + 1)) (zI ((j : Int) + 1)) = some c2 ∧ ((fT (jA A B (fL A) N) ≤ 30 ∧ c2.1 = zI (fT (jA A B (fL A) N)) ∧ c2.2.2.1 0 = 1 ∧ FoldM 0 (jA A B (fL A) N) c2.2.2.2.1 c2.2.2.2.2.1 c2.2.2.2.2.2.1 c2.2.2.2.2.2.2.1 c2.2.2.2.2.2.2.2.1 c2.2.2.2.2.2.2.2.2.1 c2.2.2.2.2.2.2.2.2.2.1 c2.2.2.2.2.2.2.2.2.2.2.1 ∧ FrmAll isThere mthings mquires fl fp sizeOf placed kindOf catchOf c2.2.2.1 c2.2.2.2.1 c2.2.2.2.2.1 c2.2.2.2.2.2.1 c2.2.2.2.2.2.2.1 c2.2.2.2.2.2.2.2.1 c2.2.2.2.2.2.2.2.2.1 c2.2.2.2.2.2.2.2.2.2.1 c2.2.2.2.2.2.2.2.2.2.2.1) ∨ (30 < fT (jA A B (fL A) N) ∧ ∃ m' k' p', c2 = (-1, 0, isThere, mthings, mquires, fl, fp, sizeOf, placed, kindOf, catchOf, m', k', p'))) := by
        have qA := mA.1.1
        have qB := mB.1.1
        unfold F_X8_ideal_b105
        by_cases c : fQ A < fQ B
        · have g := model ((j : Int) + 1) (by omega) (by omega) (by rw [qB]; congr 1; omega) (fun q a b => by
            rw [mB.2.1 q a (by omega)]
            unfold jS
            by_cases c2 : q < fQ A
            · rw [if_pos c2, hL q a c2 (by omega)]
            · rw [if_neg c2])
          simp (disch := omega) only [zl_0, zl_1, zl_2, zl_3, zl_4, zl_5, zl_6, zl_7, zl_8, zl_9, zl_10, zl_11, zl_12, zl_13, zl_14, zl_15, zl_16, zl_17, zl_18, zl_19, zl_20, zl_21, zl_22, zl_23, zl_24, zl_25, zl_26, zl_27, zl_28, zl_29, zl_30, zl_31, zl_32, zl_33, zl_34, zl_35, zl_36, zl_37, zl_38, zl_39, zl_40, zl_41, zl_42, zl_43, zl_44, zl_45, zl_46, zl_47, zl_48, zl_49, zl_50, zl_51, zl_52, zl_53, zl_54, zl_55, zl_56, zl_57, zl_58, zl_59, zl_60, zl_61, zl_62, zl_63, zl_64, zl_65, zl_66, zl_80, zl_97, zl_99, zl_103, zl_107, zl_112, zl_115, zl_100, zl_180, zl_210, zl_238, zl_255, zl_256, zl_400, zl_1000, zl_1024, zl_1260, zl_2000, zl_7140, zl_7200, zl_18414, zl_65536, zl_131072, zl_9999, zl_999, zI_add, zI_sub, zI_mul, zI_neg, zI_lt, zI_le, zI_eq, zI_clamp, ck_z, ckp_z, qb_z, qb_z0, Option.bind_some, if_pos, if_neg, reduceIte, reduceCtorEq, Bool.false_eq_true, Bool.true_eq_false, qA, qB]
          exact g
        · have g := model ((i : Int) + 1) (by omega) (by omega) (by rw [qA]; congr 1; omega) (fun q a b => by
            rw [mA.2.1 q a (by omega)]
            unfold jS
            rw [if_pos (by omega)])
          simp (disch := omega) only [zl_0, zl_1, zl_2, zl_3, zl_4, zl_5, zl_6, zl_7, zl_8, zl_9, zl_10, zl_11, zl_12, zl_13, zl_14, zl_15, zl_16, zl_17, zl_18, zl_19, zl_20, zl_21, zl_22, zl_23, zl_24, zl_25, zl_26, zl_27, zl_28, zl_29, zl_30, zl_31, zl_32, zl_33, zl_34, zl_35, zl_36, zl_37, zl_38, zl_39, zl_40, zl_41, zl_42, zl_43, zl_44, zl_45, zl_46, zl_47, zl_48, zl_49, zl_50, zl_51, zl_52, zl_53, zl_54, zl_55, zl_56, zl_57, zl_58, zl_59, zl_60, zl_61, zl_62, zl_63, zl_64, zl_65, zl_66, zl_80, zl_97, zl_99, zl_103, zl_107, zl_112, zl_115, zl_100, zl_180, zl_210, zl_238, zl_255, zl_256, zl_400, zl_1000, zl_1024, zl_1260, zl_2000, zl_7140, zl_7200, zl_18414, zl_65536, zl_131072, zl_9999, zl_999, zI_add, zI_sub, zI_mul, zI_neg, zI_lt, zI_le, zI_eq, zI_clamp, ck_z, ckp_z, qb_z, qb_z0, Option.bind_some, if_pos, if_neg, reduceIte, reduceCtorEq, Bool.false_eq_true, Bool.true_eq_false, qA, qB]
          exact g
      obtain ⟨c2, m1, m2⟩ := model2
      have k1' : F_X0_isFoldedLike_b15 aquires asizes bquires bsizes FU 0 = some true := k1
      have b46' : F_X8_ideal_b46 FU 0 isThere mthings mquires fl fp sizeOf placed kindOf catchOf made mk mp (zI ((i : Int) + 1)) (zI ((j : Int) + 1)) 0 = some c2 := by rw [← m1]; exact b46
      rw [cA.1.2.2.2.1] at e1
      rw [← zl_0] at *
      have ez : zI (i : Int) + 1 = zI ((i : Int) + 1) := by rw [zl_1, zI_add]
      have ez2 : zI (j : Int) + 1 = zI ((j : Int) + 1) := by rw [zl_1, zI_add]
      rw [ez, ez2, zI_clamp (by omega) (by omega), zI_clamp (by omega) (by omega), lA, lB, ck_z (by omega) (by omega) (by omega), ck_z (by omega) (by omega) (by omega), if_neg q1, if_pos hz, if_pos hz, k1', b46', Option.bind_some, if_neg q1, e1, Option.bind_some]
      have et := pc.1.2.1
      rw [et]
      rcases m2 with ⟨h30, m3, m4, m5, m6⟩ | ⟨h30, m', k', p', rfl⟩
      · have l30 : zI (fT (jA A B (fL A) N)) ≤ 30 := by simp (disch := omega) only [zl_0, zl_1, zl_2, zl_3, zl_4, zl_5, zl_6, zl_7, zl_8, zl_9, zl_10, zl_11, zl_12, zl_13, zl_14, zl_15, zl_16, zl_17, zl_18, zl_19, zl_20, zl_21, zl_22, zl_23, zl_24, zl_25, zl_26, zl_27, zl_28, zl_29, zl_30, zl_31, zl_32, zl_33, zl_34, zl_35, zl_36, zl_37, zl_38, zl_39, zl_40, zl_41, zl_42, zl_43, zl_44, zl_45, zl_46, zl_47, zl_48, zl_49, zl_50, zl_51, zl_52, zl_53, zl_54, zl_55, zl_56, zl_57, zl_58, zl_59, zl_60, zl_61, zl_62, zl_63, zl_64, zl_65, zl_66, zl_80, zl_97, zl_99, zl_103, zl_107, zl_112, zl_115, zl_100, zl_180, zl_210, zl_238, zl_255, zl_256, zl_400, zl_1000, zl_1024, zl_1260, zl_2000, zl_7140, zl_7200, zl_18414, zl_65536, zl_131072, zl_9999, zl_999, zI_add, zI_sub, zI_mul, zI_neg, zI_lt, zI_le, zI_eq, zI_clamp, ck_z, ckp_z, qb_z, qb_z0, Option.bind_some]; exact h30
        rw [if_pos l30, become_eq, Option.bind_some]
        have hw := PW_end' hwN hll h30 (by rw [hf.2.2.2]; omega) (by rw [hf.2.2.1, hf.1]; omega)
        refine ⟨_, _, rfl, rfl, m3.symm, ⟨_, hw, ?_, Or.inl ⟨c1, m4, m5⟩⟩, m6⟩
        rw [← et]
        exact FoldC_cpy hw (PC_end' pc hll h30) _ _ _ _ _ _
      · have l30 : ¬ zI (fT (jA A B (fL A) N)) ≤ 30 := by simp (disch := omega) only [zl_0, zl_1, zl_2, zl_3, zl_4, zl_5, zl_6, zl_7, zl_8, zl_9, zl_10, zl_11, zl_12, zl_13, zl_14, zl_15, zl_16, zl_17, zl_18, zl_19, zl_20, zl_21, zl_22, zl_23, zl_24, zl_25, zl_26, zl_27, zl_28, zl_29, zl_30, zl_31, zl_32, zl_33, zl_34, zl_35, zl_36, zl_37, zl_38, zl_39, zl_40, zl_41, zl_42, zl_43, zl_44, zl_45, zl_46, zl_47, zl_48, zl_49, zl_50, zl_51, zl_52, zl_53, zl_54, zl_55, zl_56, zl_57, zl_58, zl_59, zl_60, zl_61, zl_62, zl_63, zl_64, zl_65, zl_66, zl_80, zl_97, zl_99, zl_103, zl_107, zl_112, zl_115, zl_100, zl_180, zl_210, zl_238, zl_255, zl_256, zl_400, zl_1000, zl_1024, zl_1260, zl_2000, zl_7140, zl_7200, zl_18414, zl_65536, zl_131072, zl_9999, zl_999, zI_add, zI_sub, zI_mul, zI_neg, zI_lt, zI_le, zI_eq, zI_clamp, ck_z, ckp_z, qb_z, qb_z0, Option.bind_some]; omega
        rw [if_neg l30]
        exact ⟨_, _, rfl, rfl, rfl, hC, FrmAll_r⟩
    · have k1 := like_b15_no wA cA wB cB t t1 t3 t4 t5 t6 t.toNat FU 0 (by omega) (by omega) (by unfold FU; omega)
      have b46 := ideal_b46_no (isThere := isThere) wA mA wB mB (by omega) (by omega) (by omega) (by omega) 0 made mk mp t t1 t3 t4 t5 t6 t.toNat FU 0 (by omega) (by omega) (by unfold FU; omega)
      rw [← zl_0] at k1 b46
      have ez : zI (i : Int) + 1 = zI ((i : Int) + 1) := by rw [zl_1, zI_add]
      have ez2 : zI (j : Int) + 1 = zI ((j : Int) + 1) := by rw [zl_1, zI_add]
      rw [ez, ez2, zI_clamp (by omega) (by omega), zI_clamp (by omega) (by omega), lA, lB, ck_z (by omega) (by omega) (by omega), ck_z (by omega) (by omega) (by omega), if_neg q1, if_pos hz, if_pos hz, k1, b46]
      exact ⟨_, _, rfl, rfl, rfl, hC, FrmAll_r⟩
  · have ez : zI (i : Int) + 1 = zI ((i : Int) + 1) := by rw [zl_1, zI_add]
    have ez2 : zI (j : Int) + 1 = zI ((j : Int) + 1) := by rw [zl_1, zI_add]
    have hne : ¬ zI (fL A) = zI (fL B) := by simp (disch := omega) only [zl_0, zl_1, zl_2, zl_3, zl_4, zl_5, zl_6, zl_7, zl_8, zl_9, zl_10, zl_11, zl_12, zl_13, zl_14, zl_15, zl_16, zl_17, zl_18, zl_19, zl_20, zl_21, zl_22, zl_23, zl_24, zl_25, zl_26, zl_27, zl_28, zl_29, zl_30, zl_31, zl_32, zl_33, zl_34, zl_35, zl_36, zl_37, zl_38, zl_39, zl_40, zl_41, zl_42, zl_43, zl_44, zl_45, zl_46, zl_47, zl_48, zl_49, zl_50, zl_51, zl_52, zl_53, zl_54, zl_55, zl_56, zl_57, zl_58, zl_59, zl_60, zl_61, zl_62, zl_63, zl_64, zl_65, zl_66, zl_80, zl_97, zl_99, zl_103, zl_107, zl_112, zl_115, zl_100, zl_180, zl_210, zl_238, zl_255, zl_256, zl_400, zl_1000, zl_1024, zl_1260, zl_2000, zl_7140, zl_7200, zl_18414, zl_65536, zl_131072, zl_9999, zl_999, zI_add, zI_sub, zI_mul, zI_neg, zI_lt, zI_le, zI_eq, zI_clamp, ck_z, ckp_z, qb_z, qb_z0, Option.bind_some]; exact hl
    rw [ez, ez2, zI_clamp (by omega) (by omega), zI_clamp (by omega) (by omega), lA, lB, ck_z (by omega) (by omega) (by omega), ck_z (by omega) (by omega) (by omega), if_neg hne, if_neg hne]
    exact ⟨_, _, rfl, rfl, rfl, hC, FrmAll_r⟩
end IL

section WR
variable {Φ : Fold} {quires things ghosts letter page : Int32} {sizes cells kinds words quireOf placeOf : NF} {mthings mquires firstLetter firstPage sizeOf placed kindOf catchOf isThere : NF}
theorem extras_z (hw : FoldW Φ) (hc : FoldC Φ quires things ghosts letter page sizes cells kinds words quireOf placeOf) (hm : FoldM 0 Φ mthings mquires firstLetter firstPage sizeOf placed kindOf catchOf) (x p : Int) (hx : -1 ≤ x) (hx2 : x < fT Φ) (hp : 0 ≤ p) (hp2 : p ≤ 8) {n it : Int} {b o : NF} (hn : 0 ≤ n) (hn2 : n + 3 * (fT Φ - beh Φ x) ≤ 400) (hi : 0 ≤ it) (hi2 : it < 800) (hE : TapE n b o) : ∃ b' o', F_X6_addLoose b (zI n) (zI it) things kinds (zI (beh Φ x)) (zI p) = some (b', zI (n + 3 * (lnd Φ x - beh Φ x)), zI (it + (lnd Φ x - beh Φ x))) ∧ F_X8_extras mthings kindOf o (zI n) (zI it) (zI x) (zI p) = some (o', zI (n + 3 * (lnd Φ x - beh Φ x)), zI (it + (lnd Φ x - beh Φ x))) ∧ TapE (n + 3 * (lnd Φ x - beh Φ x)) b' o' := by
  have hr := hw.1
  have hb := beh_b (Ξ := Φ) x hx2
  unfold F_X6_addLoose F_X8_extras lnd
  rw [zl_1, zI_add]
  by_cases h : 0 ≤ x ∧ x + 1 < fT Φ ∧ fK Φ x = 2 ∧ fK Φ (x + 1) = 4
  · have eb : beh Φ x = x + 2 := by unfold beh; rw [if_pos h]
    rw [eb] at hn2 ⊢
    obtain ⟨b', o', e1, e2, e3⟩ := loose_b3_z hw hc hm x p hx hx2 hp hp2 (fT Φ - (x + 2)).toNat FU 1048575 (x + 2) n it b o (by omega) (by omega) (by omega) (by omega) (by unfold FU; omega) (by omega) hn (by omega) hi (by omega) hE
    refine ⟨b', o', e1, ?_, e3⟩
    have t0 : mthings 0 = zI (fT Φ) := hm.1.2.1
    have hkm := hm.2.2.2.1 (x + 1) (by omega) (by omega)
    rw [show 30 * 0 + (x + 1) = x + 1 by omega] at hkm
    have e5 := isCancM_z hw hm (by omega) (by omega) x (by omega) hx2
    rw [decide_eq_true h] at e5
    have e6 := hangingM_z (fK Φ (x + 1)) (by omega) (by omega)
    rw [decide_eq_false (by omega)] at e6
    refine Eq.trans ?_ e2
    show F_X8_extras_b4 mthings kindOf (1048575 + 1) o (zI n) (zI it) (zI x) (zI p) (zI (x + 1)) = _
    rw [F_X8_extras_b4, show (0 : Int32).toNatClampNeg = 0 from rfl, t0]
    simp (disch := omega) only [zl_0, zl_1, zl_2, zl_3, zl_4, zl_5, zl_6, zl_7, zl_8, zl_9, zl_10, zl_11, zl_12, zl_13, zl_14, zl_15, zl_16, zl_17, zl_18, zl_19, zl_20, zl_21, zl_22, zl_23, zl_24, zl_25, zl_26, zl_27, zl_28, zl_29, zl_30, zl_31, zl_32, zl_33, zl_34, zl_35, zl_36, zl_37, zl_38, zl_39, zl_40, zl_41, zl_42, zl_43, zl_44, zl_45, zl_46, zl_47, zl_48, zl_49, zl_50, zl_51, zl_52, zl_53, zl_54, zl_55, zl_56, zl_57, zl_58, zl_59, zl_60, zl_61, zl_62, zl_63, zl_64, zl_65, zl_66, zl_80, zl_97, zl_99, zl_103, zl_107, zl_112, zl_115, zl_100, zl_180, zl_210, zl_238, zl_255, zl_256, zl_400, zl_1000, zl_1024, zl_1260, zl_2000, zl_7140, zl_7200, zl_18414, zl_65536, zl_131072, zl_9999, zl_999, zI_add, zI_sub, zI_mul, zI_neg, zI_lt, zI_le, zI_eq, zI_clamp, ck_z, ckp_z, qb_z, qb_z0, Option.bind_some, if_pos, if_neg, reduceIte, reduceCtorEq, Bool.false_eq_true, Bool.true_eq_false, hkm, e5, e6]
    rw [show x + 1 + 1 = x + 2 by omega]
  · have eb : beh Φ x = x + 1 := by unfold beh; rw [if_neg h]
    rw [eb] at hn2 ⊢
    exact loose_b3_z hw hc hm x p hx hx2 hp hp2 (fT Φ - (x + 1)).toNat FU FU (x + 1) n it b o (by omega) (by omega) (by omega) (fun _ => Or.inr h) (by unfold FU; omega) (by unfold FU; omega) hn (by omega) hi (by omega) hE
theorem items_b18_z (hw : FoldW Φ) (hc : FoldC Φ quires things ghosts letter page sizes cells kinds words quireOf placeOf) (hm : FoldM 0 Φ mthings mquires firstLetter firstPage sizeOf placed kindOf catchOf) (q : Int) (hq : 0 ≤ q) (hq2 : q < fQ Φ) (Bd : Int) (hB0 : 0 ≤ Bd) (hB : Bd ≤ 220) : ∀ (d m1 m2 : Nat) (p n it na : Int) (b o : NF), p + d = fS Φ q → 0 ≤ p → d < m1 → d < m2 → Rst Φ (8 * q + p) na → 0 ≤ n → n ≤ Bd + 3 * p + 3 * na → 0 ≤ it → it ≤ p + na → TapE n b o → ∃ b' o' n' it' na', F_X6_addItems_b18 quires things sizes cells kinds m1 b (zI n) (zI it) (zI q) (zI (p + 1)) = some (b', zI n', zI it') ∧ F_X8_items_b17 mthings sizeOf placed kindOf m2 o (zI n) (zI it) (zI q) (zI (p + 1)) = some (o', zI n', zI it') ∧ TapE n' b' o' ∧ Rst Φ (8 * q + fS Φ q) na' ∧ 0 ≤ n' ∧ n' ≤ Bd + 3 * fS Φ q + 3 * na' + 1
  | 0, m1 + 1, m2 + 1, p, n, it, na, b, o, hp, hp0, _, _, hR, hn, hn2, hi, hi2, hE => by
    have hr := hw.1
    have hS := hw.2.1 q hq hq2
    have hr2 := hR.2.1
    have s := hm.2.1 q hq hq2
    rw [show 8 * 0 + q = q by omega] at s
    have e1 := hasPlace_z hw hc q (p + 1) (by omega) (by omega) (by omega) (by omega)
    rw [decide_eq_false (by omega)] at e1
    rw [F_X6_addItems_b18, F_X8_items_b17]
    unfold F_X6_addItems_b110
    have ep : p = fS Φ q := by omega
    by_cases h0 : it ≤ 0
    · refine ⟨b, o, n, it, na, ?_, ?_, hE, by rw [← ep]; exact hR, hn, by omega⟩
      · by_cases h8 : 8 < p + 1
        · simp (disch := omega) only [zl_0, zl_1, zl_2, zl_3, zl_4, zl_5, zl_6, zl_7, zl_8, zl_9, zl_10, zl_11, zl_12, zl_13, zl_14, zl_15, zl_16, zl_17, zl_18, zl_19, zl_20, zl_21, zl_22, zl_23, zl_24, zl_25, zl_26, zl_27, zl_28, zl_29, zl_30, zl_31, zl_32, zl_33, zl_34, zl_35, zl_36, zl_37, zl_38, zl_39, zl_40, zl_41, zl_42, zl_43, zl_44, zl_45, zl_46, zl_47, zl_48, zl_49, zl_50, zl_51, zl_52, zl_53, zl_54, zl_55, zl_56, zl_57, zl_58, zl_59, zl_60, zl_61, zl_62, zl_63, zl_64, zl_65, zl_66, zl_80, zl_97, zl_99, zl_103, zl_107, zl_112, zl_115, zl_100, zl_180, zl_210, zl_238, zl_255, zl_256, zl_400, zl_1000, zl_1024, zl_1260, zl_2000, zl_7140, zl_7200, zl_18414, zl_65536, zl_131072, zl_9999, zl_999, zI_add, zI_sub, zI_mul, zI_neg, zI_lt, zI_le, zI_eq, zI_clamp, ck_z, ckp_z, qb_z, qb_z0, Option.bind_some, if_pos, if_neg, reduceIte, reduceCtorEq, Bool.false_eq_true, Bool.true_eq_false]
        · simp (disch := omega) only [zl_0, zl_1, zl_2, zl_3, zl_4, zl_5, zl_6, zl_7, zl_8, zl_9, zl_10, zl_11, zl_12, zl_13, zl_14, zl_15, zl_16, zl_17, zl_18, zl_19, zl_20, zl_21, zl_22, zl_23, zl_24, zl_25, zl_26, zl_27, zl_28, zl_29, zl_30, zl_31, zl_32, zl_33, zl_34, zl_35, zl_36, zl_37, zl_38, zl_39, zl_40, zl_41, zl_42, zl_43, zl_44, zl_45, zl_46, zl_47, zl_48, zl_49, zl_50, zl_51, zl_52, zl_53, zl_54, zl_55, zl_56, zl_57, zl_58, zl_59, zl_60, zl_61, zl_62, zl_63, zl_64, zl_65, zl_66, zl_80, zl_97, zl_99, zl_103, zl_107, zl_112, zl_115, zl_100, zl_180, zl_210, zl_238, zl_255, zl_256, zl_400, zl_1000, zl_1024, zl_1260, zl_2000, zl_7140, zl_7200, zl_18414, zl_65536, zl_131072, zl_9999, zl_999, zI_add, zI_sub, zI_mul, zI_neg, zI_lt, zI_le, zI_eq, zI_clamp, ck_z, ckp_z, qb_z, qb_z0, Option.bind_some, if_pos, if_neg, reduceIte, reduceCtorEq, Bool.false_eq_true, Bool.true_eq_false, e1]
      · simp (disch := omega) only [zl_0, zl_1, zl_2, zl_3, zl_4, zl_5, zl_6, zl_7, zl_8, zl_9, zl_10, zl_11, zl_12, zl_13, zl_14, zl_15, zl_16, zl_17, zl_18, zl_19, zl_20, zl_21, zl_22, zl_23, zl_24, zl_25, zl_26, zl_27, zl_28, zl_29, zl_30, zl_31, zl_32, zl_33, zl_34, zl_35, zl_36, zl_37, zl_38, zl_39, zl_40, zl_41, zl_42, zl_43, zl_44, zl_45, zl_46, zl_47, zl_48, zl_49, zl_50, zl_51, zl_52, zl_53, zl_54, zl_55, zl_56, zl_57, zl_58, zl_59, zl_60, zl_61, zl_62, zl_63, zl_64, zl_65, zl_66, zl_80, zl_97, zl_99, zl_103, zl_107, zl_112, zl_115, zl_100, zl_180, zl_210, zl_238, zl_255, zl_256, zl_400, zl_1000, zl_1024, zl_1260, zl_2000, zl_7140, zl_7200, zl_18414, zl_65536, zl_131072, zl_9999, zl_999, zI_add, zI_sub, zI_mul, zI_neg, zI_lt, zI_le, zI_eq, zI_clamp, ck_z, ckp_z, qb_z, qb_z0, Option.bind_some, if_pos, if_neg, reduceIte, reduceCtorEq, Bool.false_eq_true, Bool.true_eq_false, s]
    · obtain ⟨b1, o1, g1, g2, g3⟩ := as_z hn (by omega) hE 41 (by decide) (by decide)
      refine ⟨b1, o1, n + 1, it, na, ?_, ?_, g3, by rw [← ep]; exact hR, by omega, by omega⟩
      · rw [zl_41] at g1
        by_cases h8 : 8 < p + 1
        · simp (disch := omega) only [zl_0, zl_1, zl_2, zl_3, zl_4, zl_5, zl_6, zl_7, zl_8, zl_9, zl_10, zl_11, zl_12, zl_13, zl_14, zl_15, zl_16, zl_17, zl_18, zl_19, zl_20, zl_21, zl_22, zl_23, zl_24, zl_25, zl_26, zl_27, zl_28, zl_29, zl_30, zl_31, zl_32, zl_33, zl_34, zl_35, zl_36, zl_37, zl_38, zl_39, zl_40, zl_41, zl_42, zl_43, zl_44, zl_45, zl_46, zl_47, zl_48, zl_49, zl_50, zl_51, zl_52, zl_53, zl_54, zl_55, zl_56, zl_57, zl_58, zl_59, zl_60, zl_61, zl_62, zl_63, zl_64, zl_65, zl_66, zl_80, zl_97, zl_99, zl_103, zl_107, zl_112, zl_115, zl_100, zl_180, zl_210, zl_238, zl_255, zl_256, zl_400, zl_1000, zl_1024, zl_1260, zl_2000, zl_7140, zl_7200, zl_18414, zl_65536, zl_131072, zl_9999, zl_999, zI_add, zI_sub, zI_mul, zI_neg, zI_lt, zI_le, zI_eq, zI_clamp, ck_z, ckp_z, qb_z, qb_z0, Option.bind_some, if_pos, if_neg, reduceIte, reduceCtorEq, Bool.false_eq_true, Bool.true_eq_false, g1]
        · simp (disch := omega) only [zl_0, zl_1, zl_2, zl_3, zl_4, zl_5, zl_6, zl_7, zl_8, zl_9, zl_10, zl_11, zl_12, zl_13, zl_14, zl_15, zl_16, zl_17, zl_18, zl_19, zl_20, zl_21, zl_22, zl_23, zl_24, zl_25, zl_26, zl_27, zl_28, zl_29, zl_30, zl_31, zl_32, zl_33, zl_34, zl_35, zl_36, zl_37, zl_38, zl_39, zl_40, zl_41, zl_42, zl_43, zl_44, zl_45, zl_46, zl_47, zl_48, zl_49, zl_50, zl_51, zl_52, zl_53, zl_54, zl_55, zl_56, zl_57, zl_58, zl_59, zl_60, zl_61, zl_62, zl_63, zl_64, zl_65, zl_66, zl_80, zl_97, zl_99, zl_103, zl_107, zl_112, zl_115, zl_100, zl_180, zl_210, zl_238, zl_255, zl_256, zl_400, zl_1000, zl_1024, zl_1260, zl_2000, zl_7140, zl_7200, zl_18414, zl_65536, zl_131072, zl_9999, zl_999, zI_add, zI_sub, zI_mul, zI_neg, zI_lt, zI_le, zI_eq, zI_clamp, ck_z, ckp_z, qb_z, qb_z0, Option.bind_some, if_pos, if_neg, reduceIte, reduceCtorEq, Bool.false_eq_true, Bool.true_eq_false, e1, g1]
      · rw [zl_41] at g2
        simp (disch := omega) only [zl_0, zl_1, zl_2, zl_3, zl_4, zl_5, zl_6, zl_7, zl_8, zl_9, zl_10, zl_11, zl_12, zl_13, zl_14, zl_15, zl_16, zl_17, zl_18, zl_19, zl_20, zl_21, zl_22, zl_23, zl_24, zl_25, zl_26, zl_27, zl_28, zl_29, zl_30, zl_31, zl_32, zl_33, zl_34, zl_35, zl_36, zl_37, zl_38, zl_39, zl_40, zl_41, zl_42, zl_43, zl_44, zl_45, zl_46, zl_47, zl_48, zl_49, zl_50, zl_51, zl_52, zl_53, zl_54, zl_55, zl_56, zl_57, zl_58, zl_59, zl_60, zl_61, zl_62, zl_63, zl_64, zl_65, zl_66, zl_80, zl_97, zl_99, zl_103, zl_107, zl_112, zl_115, zl_100, zl_180, zl_210, zl_238, zl_255, zl_256, zl_400, zl_1000, zl_1024, zl_1260, zl_2000, zl_7140, zl_7200, zl_18414, zl_65536, zl_131072, zl_9999, zl_999, zI_add, zI_sub, zI_mul, zI_neg, zI_lt, zI_le, zI_eq, zI_clamp, ck_z, ckp_z, qb_z, qb_z0, Option.bind_some, if_pos, if_neg, reduceIte, reduceCtorEq, Bool.false_eq_true, Bool.true_eq_false, s, g2]
  | d + 1, m1 + 1, m2 + 1, p, n, it, na, b, o, hp, hp0, h1, h2, hR, hn, hn2, hi, hi2, hE => by
    have hr := hw.1
    have hS := hw.2.1 q hq hq2
    have hr2 := hR.2.1
    have hr3 := hR.1
    have s := hm.2.1 q hq hq2
    rw [show 8 * 0 + q = q by omega] at s
    have e1 := hasPlace_z hw hc q (p + 1) (by omega) (by omega) (by omega) (by omega)
    rw [decide_eq_true (by omega)] at e1
    have e2 := thingAt_z hw hc q (p + 1) (by omega) (by omega) (by omega) (by omega)
    rw [if_pos (by omega)] at e2
    have e3 := hm.2.2.1 q (p + 1) hq hq2 (by omega) (by omega)
    rw [show 64 * 0 + 8 * q + (p + 1) - 1 = 8 * q + (p + 1) - 1 by omega] at e3
    have g := hw.2.2.1 q (p + 1) hq hq2 (by omega) (by omega)
    have e4 := hangs_z hw hc (fC Φ q (p + 1)) (by omega) (by omega)
    rcases g with g | ⟨g1, g2, g3, g4, g5⟩
    · rw [g] at e2 e3 e4
      rw [decide_eq_false (by omega)] at e4
      obtain ⟨b1, o1, i1, i2, i3⟩ := item_z hn (by omega) hE hi (by omega) 45 (p + 1) (by omega) (by omega) (by omega) (by omega)
      have hR1 : Rst Φ (8 * q + (p + 1)) na := ⟨hR.1, hR.2.1, fun q' p' a b c d e => hR.2.2 q' p' a b c d (by omega)⟩
      obtain ⟨b', o', n', it', na', j1, j2, j3⟩ := items_b18_z hw hc hm q hq hq2 Bd hB0 hB d m1 m2 (p + 1) (n + 3) (it + 1) na b1 o1 (by omega) (by omega) (by omega) (by omega) hR1 (by omega) (by omega) (by omega) (by omega) i3
      refine ⟨b', o', n', it', na', ?_, ?_, j3⟩
      · rw [F_X6_addItems_b18]
        simp (disch := omega) only [zl_0, zl_1, zl_2, zl_3, zl_4, zl_5, zl_6, zl_7, zl_8, zl_9, zl_10, zl_11, zl_12, zl_13, zl_14, zl_15, zl_16, zl_17, zl_18, zl_19, zl_20, zl_21, zl_22, zl_23, zl_24, zl_25, zl_26, zl_27, zl_28, zl_29, zl_30, zl_31, zl_32, zl_33, zl_34, zl_35, zl_36, zl_37, zl_38, zl_39, zl_40, zl_41, zl_42, zl_43, zl_44, zl_45, zl_46, zl_47, zl_48, zl_49, zl_50, zl_51, zl_52, zl_53, zl_54, zl_55, zl_56, zl_57, zl_58, zl_59, zl_60, zl_61, zl_62, zl_63, zl_64, zl_65, zl_66, zl_80, zl_97, zl_99, zl_103, zl_107, zl_112, zl_115, zl_100, zl_180, zl_210, zl_238, zl_255, zl_256, zl_400, zl_1000, zl_1024, zl_1260, zl_2000, zl_7140, zl_7200, zl_18414, zl_65536, zl_131072, zl_9999, zl_999, zI_add, zI_sub, zI_mul, zI_neg, zI_lt, zI_le, zI_eq, zI_clamp, ck_z, ckp_z, qb_z, qb_z0, Option.bind_some, if_pos, if_neg, reduceIte, reduceCtorEq, Bool.false_eq_true, Bool.true_eq_false, e1, e2, e4, i1]
        exact j1
      · rw [F_X8_items_b17]
        simp (disch := omega) only [zl_0, zl_1, zl_2, zl_3, zl_4, zl_5, zl_6, zl_7, zl_8, zl_9, zl_10, zl_11, zl_12, zl_13, zl_14, zl_15, zl_16, zl_17, zl_18, zl_19, zl_20, zl_21, zl_22, zl_23, zl_24, zl_25, zl_26, zl_27, zl_28, zl_29, zl_30, zl_31, zl_32, zl_33, zl_34, zl_35, zl_36, zl_37, zl_38, zl_39, zl_40, zl_41, zl_42, zl_43, zl_44, zl_45, zl_46, zl_47, zl_48, zl_49, zl_50, zl_51, zl_52, zl_53, zl_54, zl_55, zl_56, zl_57, zl_58, zl_59, zl_60, zl_61, zl_62, zl_63, zl_64, zl_65, zl_66, zl_80, zl_97, zl_99, zl_103, zl_107, zl_112, zl_115, zl_100, zl_180, zl_210, zl_238, zl_255, zl_256, zl_400, zl_1000, zl_1024, zl_1260, zl_2000, zl_7140, zl_7200, zl_18414, zl_65536, zl_131072, zl_9999, zl_999, zI_add, zI_sub, zI_mul, zI_neg, zI_lt, zI_le, zI_eq, zI_clamp, ck_z, ckp_z, qb_z, qb_z0, Option.bind_some, if_pos, if_neg, reduceIte, reduceCtorEq, Bool.false_eq_true, Bool.true_eq_false, s, at_z, Int.mul_zero, Int.zero_add, e3, i2]
        exact j2
    · have hsc : 1 < sco Φ q (p + 1) := by
        unfold sco
        rw [if_pos (by omega), if_neg (by omega)]
        split
        · omega
        · split <;> omega
      obtain ⟨r1, r2⟩ := Rst_yes (na := na) hw hsc (by rw [show 8 * q + (p + 1) - 1 = 8 * q + p by omega]; exact hR)
      have hb := beh_b (Ξ := Φ) _ g2
      have hl := lnd_b (Ξ := Φ) _ g2
      rw [decide_eq_true ⟨g1, g2, g3⟩] at e4
      have hkc := hc.2.2.2.1 _ g1 g2
      have hkm := hm.2.2.2.1 _ g1 g2
      rw [show 30 * 0 + fC Φ q (p + 1) = fC Φ q (p + 1) by omega] at hkm
      have hk2 := hw.2.2.2.1 _ g1 g2
      have ebh : F_X0_behind things kinds (zI (fC Φ q (p + 1))) = some (zI (beh Φ (fC Φ q (p + 1)))) := behind_z hw hc _ (by omega) (by omega)
      have rest (n1 it1 : Int) (b1 o1 : NF) (hE1 : TapE n1 b1 o1) (hn1 : 0 ≤ n1) (hi1 : 0 ≤ it1) (hb1 : n1 ≤ n + 3 * (beh Φ (fC Φ q (p + 1)) - fC Φ q (p + 1))) (hb2 : it1 ≤ it + (beh Φ (fC Φ q (p + 1)) - fC Φ q (p + 1))) : ∃ b' o' n' it' na', F_X6_addItems_b92 quires things sizes cells kinds (fun t_bytes t_length t_items x2 x3 => F_X6_addItems_b18 quires things sizes cells kinds m1 t_bytes t_length t_items x2 x3) b1 (zI n1) (zI it1) (zI q) (zI (p + 1)) (zI (fC Φ q (p + 1))) = some (b', zI n', zI it') ∧ F_X8_items_b87 mthings sizeOf placed kindOf (fun m_out m_outs m_items x1 x2 => F_X8_items_b17 mthings sizeOf placed kindOf m2 m_out m_outs m_items x1 x2) o1 (zI n1) (zI it1) (zI q) (zI (p + 1)) (zI (fC Φ q (p + 1))) = some (o', zI n', zI it') ∧ TapE n' b' o' ∧ Rst Φ (8 * q + fS Φ q) na' ∧ 0 ≤ n' ∧ n' ≤ Bd + 3 * fS Φ q + 3 * na' + 1 := by
        obtain ⟨b2, o2, x1, x2, x3⟩ := extras_z hw hc hm (fC Φ q (p + 1)) (p + 1) (by omega) g2 (by omega) (by omega) hn1 (by omega) hi1 (by omega) hE1
        obtain ⟨b', o', n', it', na', j1, j2, j3⟩ := items_b18_z hw hc hm q hq hq2 Bd hB0 hB d m1 m2 (p + 1) (n1 + 3 * (lnd Φ (fC Φ q (p + 1)) - beh Φ (fC Φ q (p + 1)))) (it1 + (lnd Φ (fC Φ q (p + 1)) - beh Φ (fC Φ q (p + 1)))) (lnd Φ (fC Φ q (p + 1))) b2 o2 (by omega) (by omega) (by omega) (by omega) r1 (by omega) (by omega) (by omega) (by omega) x3
        unfold F_X6_addItems_b92 F_X8_items_b87
        rw [ebh, Option.bind_some, x1, x2, Option.bind_some, Option.bind_some, zl_1, zI_add]
        exact ⟨b', o', n', it', na', j1, j2, j3⟩
      by_cases hst : fK Φ (fC Φ q (p + 1)) = 2
      · have e5 := isCancM_z hw hm (by omega) (by omega) _ g1 g2
        have e6 := isCanc_z hw hc (fC Φ q (p + 1)) (by omega) (by omega)
        by_cases hcn : 0 ≤ fC Φ q (p + 1) ∧ fC Φ q (p + 1) + 1 < fT Φ ∧ fK Φ (fC Φ q (p + 1)) = 2 ∧ fK Φ (fC Φ q (p + 1) + 1) = 4
        · rw [decide_eq_true hcn] at e5 e6
          obtain ⟨b1, o1, i1, i2, i3⟩ := item_z hn (by omega) hE hi (by omega) 99 (p + 1) (by omega) (by omega) (by omega) (by omega)
          obtain ⟨b', o', n', it', na', j1, j2, j3⟩ := rest (n + 3) (it + 1) b1 o1 i3 (by omega) (by omega) (by omega) (by omega)
          refine ⟨b', o', n', it', na', ?_, ?_, j3⟩
          · rw [F_X6_addItems_b18]
            simp only [F_X6_addItems_b88]
            simp (disch := omega) only [zl_0, zl_1, zl_2, zl_3, zl_4, zl_5, zl_6, zl_7, zl_8, zl_9, zl_10, zl_11, zl_12, zl_13, zl_14, zl_15, zl_16, zl_17, zl_18, zl_19, zl_20, zl_21, zl_22, zl_23, zl_24, zl_25, zl_26, zl_27, zl_28, zl_29, zl_30, zl_31, zl_32, zl_33, zl_34, zl_35, zl_36, zl_37, zl_38, zl_39, zl_40, zl_41, zl_42, zl_43, zl_44, zl_45, zl_46, zl_47, zl_48, zl_49, zl_50, zl_51, zl_52, zl_53, zl_54, zl_55, zl_56, zl_57, zl_58, zl_59, zl_60, zl_61, zl_62, zl_63, zl_64, zl_65, zl_66, zl_80, zl_97, zl_99, zl_103, zl_107, zl_112, zl_115, zl_100, zl_180, zl_210, zl_238, zl_255, zl_256, zl_400, zl_1000, zl_1024, zl_1260, zl_2000, zl_7140, zl_7200, zl_18414, zl_65536, zl_131072, zl_9999, zl_999, zI_add, zI_sub, zI_mul, zI_neg, zI_lt, zI_le, zI_eq, zI_clamp, ck_z, ckp_z, qb_z, qb_z0, Option.bind_some, if_pos, if_neg, reduceIte, reduceCtorEq, Bool.false_eq_true, Bool.true_eq_false, e1, e2, e4, e6, hkc, i1]
            exact j1
          · rw [F_X8_items_b17]
            simp only [F_X8_items_b83]
            simp (disch := omega) only [zl_0, zl_1, zl_2, zl_3, zl_4, zl_5, zl_6, zl_7, zl_8, zl_9, zl_10, zl_11, zl_12, zl_13, zl_14, zl_15, zl_16, zl_17, zl_18, zl_19, zl_20, zl_21, zl_22, zl_23, zl_24, zl_25, zl_26, zl_27, zl_28, zl_29, zl_30, zl_31, zl_32, zl_33, zl_34, zl_35, zl_36, zl_37, zl_38, zl_39, zl_40, zl_41, zl_42, zl_43, zl_44, zl_45, zl_46, zl_47, zl_48, zl_49, zl_50, zl_51, zl_52, zl_53, zl_54, zl_55, zl_56, zl_57, zl_58, zl_59, zl_60, zl_61, zl_62, zl_63, zl_64, zl_65, zl_66, zl_80, zl_97, zl_99, zl_103, zl_107, zl_112, zl_115, zl_100, zl_180, zl_210, zl_238, zl_255, zl_256, zl_400, zl_1000, zl_1024, zl_1260, zl_2000, zl_7140, zl_7200, zl_18414, zl_65536, zl_131072, zl_9999, zl_999, zI_add, zI_sub, zI_mul, zI_neg, zI_lt, zI_le, zI_eq, zI_clamp, ck_z, ckp_z, qb_z, qb_z0, Option.bind_some, if_pos, if_neg, reduceIte, reduceCtorEq, Bool.false_eq_true, Bool.true_eq_false, s, at_z, Int.mul_zero, Int.zero_add, e3, e5, hkm, i2]
            exact j2
        · rw [decide_eq_false hcn] at e5 e6
          obtain ⟨b1, o1, i1, i2, i3⟩ := item_z hn (by omega) hE hi (by omega) 115 (p + 1) (by omega) (by omega) (by omega) (by omega)
          obtain ⟨b', o', n', it', na', j1, j2, j3⟩ := rest (n + 3) (it + 1) b1 o1 i3 (by omega) (by omega) (by omega) (by omega)
          refine ⟨b', o', n', it', na', ?_, ?_, j3⟩
          · rw [F_X6_addItems_b18]
            simp only [F_X6_addItems_b88]
            simp (disch := omega) only [zl_0, zl_1, zl_2, zl_3, zl_4, zl_5, zl_6, zl_7, zl_8, zl_9, zl_10, zl_11, zl_12, zl_13, zl_14, zl_15, zl_16, zl_17, zl_18, zl_19, zl_20, zl_21, zl_22, zl_23, zl_24, zl_25, zl_26, zl_27, zl_28, zl_29, zl_30, zl_31, zl_32, zl_33, zl_34, zl_35, zl_36, zl_37, zl_38, zl_39, zl_40, zl_41, zl_42, zl_43, zl_44, zl_45, zl_46, zl_47, zl_48, zl_49, zl_50, zl_51, zl_52, zl_53, zl_54, zl_55, zl_56, zl_57, zl_58, zl_59, zl_60, zl_61, zl_62, zl_63, zl_64, zl_65, zl_66, zl_80, zl_97, zl_99, zl_103, zl_107, zl_112, zl_115, zl_100, zl_180, zl_210, zl_238, zl_255, zl_256, zl_400, zl_1000, zl_1024, zl_1260, zl_2000, zl_7140, zl_7200, zl_18414, zl_65536, zl_131072, zl_9999, zl_999, zI_add, zI_sub, zI_mul, zI_neg, zI_lt, zI_le, zI_eq, zI_clamp, ck_z, ckp_z, qb_z, qb_z0, Option.bind_some, if_pos, if_neg, reduceIte, reduceCtorEq, Bool.false_eq_true, Bool.true_eq_false, e1, e2, e4, e6, hkc, i1]
            exact j1
          · rw [F_X8_items_b17]
            simp only [F_X8_items_b83]
            simp (disch := omega) only [zl_0, zl_1, zl_2, zl_3, zl_4, zl_5, zl_6, zl_7, zl_8, zl_9, zl_10, zl_11, zl_12, zl_13, zl_14, zl_15, zl_16, zl_17, zl_18, zl_19, zl_20, zl_21, zl_22, zl_23, zl_24, zl_25, zl_26, zl_27, zl_28, zl_29, zl_30, zl_31, zl_32, zl_33, zl_34, zl_35, zl_36, zl_37, zl_38, zl_39, zl_40, zl_41, zl_42, zl_43, zl_44, zl_45, zl_46, zl_47, zl_48, zl_49, zl_50, zl_51, zl_52, zl_53, zl_54, zl_55, zl_56, zl_57, zl_58, zl_59, zl_60, zl_61, zl_62, zl_63, zl_64, zl_65, zl_66, zl_80, zl_97, zl_99, zl_103, zl_107, zl_112, zl_115, zl_100, zl_180, zl_210, zl_238, zl_255, zl_256, zl_400, zl_1000, zl_1024, zl_1260, zl_2000, zl_7140, zl_7200, zl_18414, zl_65536, zl_131072, zl_9999, zl_999, zI_add, zI_sub, zI_mul, zI_neg, zI_lt, zI_le, zI_eq, zI_clamp, ck_z, ckp_z, qb_z, qb_z0, Option.bind_some, if_pos, if_neg, reduceIte, reduceCtorEq, Bool.false_eq_true, Bool.true_eq_false, s, at_z, Int.mul_zero, Int.zero_add, e3, e5, hkm, i2]
            exact j2
      · obtain ⟨b', o', n', it', na', j1, j2, j3⟩ := rest n it b o hE hn hi (by omega) (by omega)
        refine ⟨b', o', n', it', na', ?_, ?_, j3⟩
        · rw [F_X6_addItems_b18]
          simp (disch := omega) only [zl_0, zl_1, zl_2, zl_3, zl_4, zl_5, zl_6, zl_7, zl_8, zl_9, zl_10, zl_11, zl_12, zl_13, zl_14, zl_15, zl_16, zl_17, zl_18, zl_19, zl_20, zl_21, zl_22, zl_23, zl_24, zl_25, zl_26, zl_27, zl_28, zl_29, zl_30, zl_31, zl_32, zl_33, zl_34, zl_35, zl_36, zl_37, zl_38, zl_39, zl_40, zl_41, zl_42, zl_43, zl_44, zl_45, zl_46, zl_47, zl_48, zl_49, zl_50, zl_51, zl_52, zl_53, zl_54, zl_55, zl_56, zl_57, zl_58, zl_59, zl_60, zl_61, zl_62, zl_63, zl_64, zl_65, zl_66, zl_80, zl_97, zl_99, zl_103, zl_107, zl_112, zl_115, zl_100, zl_180, zl_210, zl_238, zl_255, zl_256, zl_400, zl_1000, zl_1024, zl_1260, zl_2000, zl_7140, zl_7200, zl_18414, zl_65536, zl_131072, zl_9999, zl_999, zI_add, zI_sub, zI_mul, zI_neg, zI_lt, zI_le, zI_eq, zI_clamp, ck_z, ckp_z, qb_z, qb_z0, Option.bind_some, if_pos, if_neg, reduceIte, reduceCtorEq, Bool.false_eq_true, Bool.true_eq_false, e1, e2, e4, hkc]
          exact j1
        · rw [F_X8_items_b17]
          simp (disch := omega) only [zl_0, zl_1, zl_2, zl_3, zl_4, zl_5, zl_6, zl_7, zl_8, zl_9, zl_10, zl_11, zl_12, zl_13, zl_14, zl_15, zl_16, zl_17, zl_18, zl_19, zl_20, zl_21, zl_22, zl_23, zl_24, zl_25, zl_26, zl_27, zl_28, zl_29, zl_30, zl_31, zl_32, zl_33, zl_34, zl_35, zl_36, zl_37, zl_38, zl_39, zl_40, zl_41, zl_42, zl_43, zl_44, zl_45, zl_46, zl_47, zl_48, zl_49, zl_50, zl_51, zl_52, zl_53, zl_54, zl_55, zl_56, zl_57, zl_58, zl_59, zl_60, zl_61, zl_62, zl_63, zl_64, zl_65, zl_66, zl_80, zl_97, zl_99, zl_103, zl_107, zl_112, zl_115, zl_100, zl_180, zl_210, zl_238, zl_255, zl_256, zl_400, zl_1000, zl_1024, zl_1260, zl_2000, zl_7140, zl_7200, zl_18414, zl_65536, zl_131072, zl_9999, zl_999, zI_add, zI_sub, zI_mul, zI_neg, zI_lt, zI_le, zI_eq, zI_clamp, ck_z, ckp_z, qb_z, qb_z0, Option.bind_some, if_pos, if_neg, reduceIte, reduceCtorEq, Bool.false_eq_true, Bool.true_eq_false, s, at_z, Int.mul_zero, Int.zero_add, e3, hkm]
          exact j2
end WR

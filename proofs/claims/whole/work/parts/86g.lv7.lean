section LF
variable {Λ : Book} {j : Int} {marks hangs cancels mz ms ml mp : NF}
theorem loadLv_z {n : Int} {κ : Int → Int} {μ : Int → Int → Int} {K M R : NF} {C : Int32} {sz sg lt pg : Int} (hw : RwW n κ μ) (hr : RwC n κ μ K M C) (hp : 0 ≤ pg) (hp2 : pg ≤ 999) (e2 : R 2 = zI sz) (e3 : R 3 = zI sg) (e4 : R 4 = zI lt) (e5 : R 5 = zI pg) (c0 : Int32) (letters numbers spots heads nexts waters sides ties : NF) (last a b c : Int32) : ∃ le nu sp he ne wa si ti la, F_X2_load c0 letters numbers spots heads nexts waters sides ties last a b c K M R C = some (zI (bkH (mkB n κ μ sz sg lt pg)), le, nu, sp, he, ne, wa, si, ti, la, zI sz, zI sg, zI lt) ∧ LvP (mkB n κ μ sz sg lt pg) (bkH (mkB n κ μ sz sg lt pg)) le nu sp he ne wa si ti la := by
  have h0 : LvP (mkB n κ μ sz sg lt pg) (hcn κ 0) letters numbers spots heads nexts waters sides ties (-1) := ⟨fun h a b => by unfold hcn at b; omega, -1, rfl, by omega, by unfold hcn; omega, fun x => by omega, fun k k1 k2 k3 => by unfold hcn at k3; omega⟩
  obtain ⟨le, nu, sp, he, ne, wa, si, ti, la, e6, I⟩ := load_b42_z (R := R) hw hr hp hp2 e5 (zI sz) (zI sg) (zI lt) n.toNat FU 0 letters numbers spots heads nexts waters sides ties (-1) (by have := hw.1; omega) (by have := hw.2.1; unfold FU; omega) h0
  refine ⟨le, nu, sp, he, ne, wa, si, ti, la, ?_, I⟩
  have f2 : R (2 : Int32).toNatClampNeg = zI sz := e2
  have f3 : R (3 : Int32).toNatClampNeg = zI sg := e3
  have f4 : R (4 : Int32).toNatClampNeg = zI lt := e4
  have k2 {α : Type} (o : Option α) : ck (inb 2 6) o = o := rfl
  have k3 {α : Type} (o : Option α) : ck (inb 3 6) o = o := rfl
  have k4 {α : Type} (o : Option α) : ck (inb 4 6) o = o := rfl
  have z0 : zI (hcn κ 0) = 0 := rfl
  have z1 : zI ((0 : Nat) : Int) = 0 := rfl
  rw [z0, z1] at e6
  unfold F_X2_load
  rw [f2, f3, f4, k2, k3, k4, e6]
/-- the rules of the row asked, in the model -/
def RuB (Λ : Book) (j : Int) (mz ms ml mp : NF) : Prop := 0 ≤ j ∧ j < 6 ∧ mz j.toNat = zI (bkZ Λ) ∧ ms j.toNat = zI (bkG Λ) ∧ ml j.toNat = zI (bkL Λ) ∧ mp j.toNat = zI (bkO Λ)
theorem known_z (marks : NF) (a q : Int) (h0 : 0 ≤ a) (h1 : a < 180) (q0 : 0 ≤ q) (q1 : q < 7) : F_X8_known marks (zI a) (zI q) = some (marks (7 * a + q).toNat) := by
  unfold F_X8_known
  have e : (7 : Int32) * zI a + zI q = zI (7 * a + q) := by rw [zl_7, zI_mul, zI_add]
  rw [e, ck_z (by omega) (by omega) (by omega), zI_clamp (by omega) (by omega)]
theorem fits_b130_z (hB : BkW Λ) (hL : LvM Λ marks hangs cancels) (h x v : Int) (h0 : 0 ≤ h) (h1 : h < bkH Λ) (hx : x = 0 ∨ x = 1) (v0 : 0 ≤ v) (v1 : v < 100000) : F_X8_fits_b130 marks cancels (zI h) (zI x) (zI v) = some (decide (x = 0 ∨ bkX Λ h = 0 ∨ bkP Λ h = 0 ∨ bkP Λ h = v)) := by
  obtain ⟨a, a0, a1, -, -, hc⟩ := hL h h0 h1
  have hh := hB.2.1
  have hk := (hB.2.2.2.2.2.2.2.2.2.2 h h0 h1).2
  unfold F_X8_fits_b130
  rw [ck_z h0 (by omega) (by omega), zI_clamp (by omega) (by omega)]
  rcases hc with ⟨c1, c2⟩ | ⟨c1, a', b0, b1, c2, c3, c4⟩
  · rw [c2, if_pos (by rfl), decide_eq_true (Or.inr (Or.inl c1))]
  · have e := known_z marks a' 2 b0 b1 (by omega) (by omega)
    have e' : F_X8_known marks (zI a') 2 = some (zI (bkP Λ h)) := by rw [← c3]; exact e
    have q1 : ¬ zI a' = -1 := by simp (disch := omega) only [zl_0, zl_1, zl_2, zl_3, zl_4, zl_5, zl_6, zl_7, zl_8, zl_9, zl_10, zl_11, zl_12, zl_13, zl_14, zl_15, zl_16, zl_17, zl_18, zl_19, zl_20, zl_21, zl_22, zl_23, zl_24, zl_25, zl_26, zl_27, zl_28, zl_29, zl_30, zl_31, zl_32, zl_33, zl_34, zl_35, zl_36, zl_37, zl_38, zl_39, zl_40, zl_41, zl_42, zl_43, zl_44, zl_45, zl_46, zl_47, zl_48, zl_49, zl_50, zl_51, zl_52, zl_53, zl_54, zl_55, zl_56, zl_57, zl_58, zl_59, zl_60, zl_61, zl_62, zl_63, zl_64, zl_65, zl_66, zl_80, zl_97, zl_99, zl_103, zl_107, zl_112, zl_115, zl_100, zl_180, zl_210, zl_238, zl_255, zl_256, zl_400, zl_1000, zl_1024, zl_1260, zl_2000, zl_7140, zl_7200, zl_18414, zl_65536, zl_131072, zl_9999, zl_999, zI_add, zI_sub, zI_mul, zI_neg, zI_lt, zI_le, zI_eq, zI_clamp, ck_z, ckp_z, qb_z, qb_z0, Option.bind_some]; omega
    rw [c2, if_neg q1, e', Option.bind_some, Option.bind_some]
    by_cases x0 : x = 0
    · have q2 : zI x = 0 := by rw [x0]; rfl
      rw [if_pos q2, decide_eq_true (Or.inl x0)]
    · have q2 : ¬ zI x = 0 := by simp (disch := omega) only [zl_0, zl_1, zl_2, zl_3, zl_4, zl_5, zl_6, zl_7, zl_8, zl_9, zl_10, zl_11, zl_12, zl_13, zl_14, zl_15, zl_16, zl_17, zl_18, zl_19, zl_20, zl_21, zl_22, zl_23, zl_24, zl_25, zl_26, zl_27, zl_28, zl_29, zl_30, zl_31, zl_32, zl_33, zl_34, zl_35, zl_36, zl_37, zl_38, zl_39, zl_40, zl_41, zl_42, zl_43, zl_44, zl_45, zl_46, zl_47, zl_48, zl_49, zl_50, zl_51, zl_52, zl_53, zl_54, zl_55, zl_56, zl_57, zl_58, zl_59, zl_60, zl_61, zl_62, zl_63, zl_64, zl_65, zl_66, zl_80, zl_97, zl_99, zl_103, zl_107, zl_112, zl_115, zl_100, zl_180, zl_210, zl_238, zl_255, zl_256, zl_400, zl_1000, zl_1024, zl_1260, zl_2000, zl_7140, zl_7200, zl_18414, zl_65536, zl_131072, zl_9999, zl_999, zI_add, zI_sub, zI_mul, zI_neg, zI_lt, zI_le, zI_eq, zI_clamp, ck_z, ckp_z, qb_z, qb_z0, Option.bind_some]; exact x0
      rw [if_neg q2]
      by_cases p0 : bkP Λ h = 0
      · have q3 : zI (bkP Λ h) = 0 := by rw [p0]; rfl
        rw [if_pos q3, decide_eq_true (Or.inr (Or.inr (Or.inl p0)))]
      · have q3 : ¬ zI (bkP Λ h) = 0 := by simp (disch := omega) only [zl_0, zl_1, zl_2, zl_3, zl_4, zl_5, zl_6, zl_7, zl_8, zl_9, zl_10, zl_11, zl_12, zl_13, zl_14, zl_15, zl_16, zl_17, zl_18, zl_19, zl_20, zl_21, zl_22, zl_23, zl_24, zl_25, zl_26, zl_27, zl_28, zl_29, zl_30, zl_31, zl_32, zl_33, zl_34, zl_35, zl_36, zl_37, zl_38, zl_39, zl_40, zl_41, zl_42, zl_43, zl_44, zl_45, zl_46, zl_47, zl_48, zl_49, zl_50, zl_51, zl_52, zl_53, zl_54, zl_55, zl_56, zl_57, zl_58, zl_59, zl_60, zl_61, zl_62, zl_63, zl_64, zl_65, zl_66, zl_80, zl_97, zl_99, zl_103, zl_107, zl_112, zl_115, zl_100, zl_180, zl_210, zl_238, zl_255, zl_256, zl_400, zl_1000, zl_1024, zl_1260, zl_2000, zl_7140, zl_7200, zl_18414, zl_65536, zl_131072, zl_9999, zl_999, zI_add, zI_sub, zI_mul, zI_neg, zI_lt, zI_le, zI_eq, zI_clamp, ck_z, ckp_z, qb_z, qb_z0, Option.bind_some]; exact p0
        rw [if_neg q3]
        by_cases p1 : bkP Λ h = v
        · rw [if_pos (by rw [p1]), decide_eq_true (Or.inr (Or.inr (Or.inr p1)))]
        · have q4 : ¬ zI (bkP Λ h) = zI v := by simp (disch := omega) only [zl_0, zl_1, zl_2, zl_3, zl_4, zl_5, zl_6, zl_7, zl_8, zl_9, zl_10, zl_11, zl_12, zl_13, zl_14, zl_15, zl_16, zl_17, zl_18, zl_19, zl_20, zl_21, zl_22, zl_23, zl_24, zl_25, zl_26, zl_27, zl_28, zl_29, zl_30, zl_31, zl_32, zl_33, zl_34, zl_35, zl_36, zl_37, zl_38, zl_39, zl_40, zl_41, zl_42, zl_43, zl_44, zl_45, zl_46, zl_47, zl_48, zl_49, zl_50, zl_51, zl_52, zl_53, zl_54, zl_55, zl_56, zl_57, zl_58, zl_59, zl_60, zl_61, zl_62, zl_63, zl_64, zl_65, zl_66, zl_80, zl_97, zl_99, zl_103, zl_107, zl_112, zl_115, zl_100, zl_180, zl_210, zl_238, zl_255, zl_256, zl_400, zl_1000, zl_1024, zl_1260, zl_2000, zl_7140, zl_7200, zl_18414, zl_65536, zl_131072, zl_9999, zl_999, zI_add, zI_sub, zI_mul, zI_neg, zI_lt, zI_le, zI_eq, zI_clamp, ck_z, ckp_z, qb_z, qb_z0, Option.bind_some]; exact p1
          rw [if_neg q4, decide_eq_false (by omega)]
/-- letter, number and page of the leaf h fit at the place p of the quire q, y places ahead -/
abbrev Fit (Λ : Book) (x h q p y : Int) : Prop := (bkM Λ 0 h = 0 ∨ bkM Λ 0 h = bkL Λ + q) ∧ (bkM Λ 1 h = 0 ∨ (bkM Λ 1 h = p ∧ p ≤ bkG Λ)) ∧ (bkO Λ = 0 ∨ ((bkM Λ 2 h = 0 ∨ bkM Λ 2 h = bkO Λ + 2 * y) ∧ (x = 0 ∨ bkX Λ h = 0 ∨ bkP Λ h = 0 ∨ bkP Λ h = bkO Λ + 2 * y)))
theorem fits_z (hB : BkW Λ) (hL : LvM Λ marks hangs cancels) (hR : RuB Λ j mz ms ml mp) (h q p y x : Int) (h0 : 0 ≤ h) (h1 : h < bkH Λ) (q0 : 0 ≤ q) (q1 : q < 8) (p0 : 1 ≤ p) (p1 : p ≤ 8) (y0 : 0 ≤ y) (y1 : y < 1000) (hx : x = 0 ∨ x = 1) : F_X8_fits marks ms ml mp (zI j) hangs cancels (zI h) (zI q) (zI p) (zI y) (zI x) = some (decide (Fit Λ x h q p y)) := by
  obtain ⟨j0, j1, rz, rs, rl, rp⟩ := hR
  obtain ⟨a, a0, a1, ea, hm, -⟩ := hL h h0 h1
  obtain ⟨b1, b2, b3, b4, b5, b6, b7, b8, b9, b10, hk⟩ := id hB
  have mb := (hk h h0 h1).1
  have m0 := mb 0 (by omega)
  have m1 := mb 1 (by omega)
  have m2 := mb 2 (by omega)
  have kn (q : Nat) (hq : q < 7) : F_X8_known marks (zI a) (zI q) = some (zI (bkM Λ q h)) := by rw [known_z marks a q a0 a1 (by omega) (by omega), hm q hq]
  have k0 : F_X8_known marks (zI a) 0 = some (zI (bkM Λ 0 h)) := kn 0 (by omega)
  have k1 : F_X8_known marks (zI a) 1 = some (zI (bkM Λ 1 h)) := kn 1 (by omega)
  have k2 : F_X8_known marks (zI a) 2 = some (zI (bkM Λ 2 h)) := kn 2 (by omega)
  have cj {α : Type} (o : Option α) : ck (inb (zI j) 6) o = o := ck_z j0 (by omega) (by omega)
  have f130 := fits_b130_z hB hL h x (bkO Λ + 2 * y) h0 h1 hx (by omega) (by omega)
  have e130 : zI (bkO Λ) + (2 : Int32) * zI y = zI (bkO Λ + 2 * y) := by rw [zl_2, zI_mul, zI_add]
  have f76 : F_X8_fits_b76 marks mp (zI j) cancels (zI h) (zI y) (zI x) (zI a) = some (decide (bkO Λ = 0 ∨ ((bkM Λ 2 h = 0 ∨ bkM Λ 2 h = bkO Λ + 2 * y) ∧ (x = 0 ∨ bkX Λ h = 0 ∨ bkP Λ h = 0 ∨ bkP Λ h = bkO Λ + 2 * y)))) := by
    unfold F_X8_fits_b76
    rw [cj, zI_clamp (by omega) (by omega), rp, cj, k2, Option.bind_some, Option.bind_some, e130, f130]
    by_cases o0 : bkO Λ = 0
    · have q : zI (bkO Λ) = 0 := by rw [o0]; rfl
      rw [if_pos q, decide_eq_true (Or.inl o0)]
    · have q : ¬ zI (bkO Λ) = 0 := by simp (disch := omega) only [zl_0, zl_1, zl_2, zl_3, zl_4, zl_5, zl_6, zl_7, zl_8, zl_9, zl_10, zl_11, zl_12, zl_13, zl_14, zl_15, zl_16, zl_17, zl_18, zl_19, zl_20, zl_21, zl_22, zl_23, zl_24, zl_25, zl_26, zl_27, zl_28, zl_29, zl_30, zl_31, zl_32, zl_33, zl_34, zl_35, zl_36, zl_37, zl_38, zl_39, zl_40, zl_41, zl_42, zl_43, zl_44, zl_45, zl_46, zl_47, zl_48, zl_49, zl_50, zl_51, zl_52, zl_53, zl_54, zl_55, zl_56, zl_57, zl_58, zl_59, zl_60, zl_61, zl_62, zl_63, zl_64, zl_65, zl_66, zl_80, zl_97, zl_99, zl_103, zl_107, zl_112, zl_115, zl_100, zl_180, zl_210, zl_238, zl_255, zl_256, zl_400, zl_1000, zl_1024, zl_1260, zl_2000, zl_7140, zl_7200, zl_18414, zl_65536, zl_131072, zl_9999, zl_999, zI_add, zI_sub, zI_mul, zI_neg, zI_lt, zI_le, zI_eq, zI_clamp, ck_z, ckp_z, qb_z, qb_z0, Option.bind_some]; exact o0
      rw [if_neg q]
      by_cases c : bkM Λ 2 h = 0
      · have q2 : zI (bkM Λ 2 h) = 0 := by rw [c]; rfl
        rw [if_pos q2]
        congr 1
        refine decide_eq_decide.mpr ⟨fun z => Or.inr ⟨Or.inl c, z⟩, fun z => ?_⟩
        rcases z with z | z
        · exact absurd z o0
        · exact z.2
      · have q2 : ¬ zI (bkM Λ 2 h) = 0 := by simp (disch := omega) only [zl_0, zl_1, zl_2, zl_3, zl_4, zl_5, zl_6, zl_7, zl_8, zl_9, zl_10, zl_11, zl_12, zl_13, zl_14, zl_15, zl_16, zl_17, zl_18, zl_19, zl_20, zl_21, zl_22, zl_23, zl_24, zl_25, zl_26, zl_27, zl_28, zl_29, zl_30, zl_31, zl_32, zl_33, zl_34, zl_35, zl_36, zl_37, zl_38, zl_39, zl_40, zl_41, zl_42, zl_43, zl_44, zl_45, zl_46, zl_47, zl_48, zl_49, zl_50, zl_51, zl_52, zl_53, zl_54, zl_55, zl_56, zl_57, zl_58, zl_59, zl_60, zl_61, zl_62, zl_63, zl_64, zl_65, zl_66, zl_80, zl_97, zl_99, zl_103, zl_107, zl_112, zl_115, zl_100, zl_180, zl_210, zl_238, zl_255, zl_256, zl_400, zl_1000, zl_1024, zl_1260, zl_2000, zl_7140, zl_7200, zl_18414, zl_65536, zl_131072, zl_9999, zl_999, zI_add, zI_sub, zI_mul, zI_neg, zI_lt, zI_le, zI_eq, zI_clamp, ck_z, ckp_z, qb_z, qb_z0, Option.bind_some]; exact c
        rw [if_neg q2]
        by_cases c2 : bkM Λ 2 h = bkO Λ + 2 * y
        · rw [if_pos (by rw [c2])]
          congr 1
          refine decide_eq_decide.mpr ⟨fun z => Or.inr ⟨Or.inr c2, z⟩, fun z => ?_⟩
          rcases z with z | z
          · exact absurd z o0
          · exact z.2
        · have q3 : ¬ zI (bkM Λ 2 h) = zI (bkO Λ + 2 * y) := by simp (disch := omega) only [zl_0, zl_1, zl_2, zl_3, zl_4, zl_5, zl_6, zl_7, zl_8, zl_9, zl_10, zl_11, zl_12, zl_13, zl_14, zl_15, zl_16, zl_17, zl_18, zl_19, zl_20, zl_21, zl_22, zl_23, zl_24, zl_25, zl_26, zl_27, zl_28, zl_29, zl_30, zl_31, zl_32, zl_33, zl_34, zl_35, zl_36, zl_37, zl_38, zl_39, zl_40, zl_41, zl_42, zl_43, zl_44, zl_45, zl_46, zl_47, zl_48, zl_49, zl_50, zl_51, zl_52, zl_53, zl_54, zl_55, zl_56, zl_57, zl_58, zl_59, zl_60, zl_61, zl_62, zl_63, zl_64, zl_65, zl_66, zl_80, zl_97, zl_99, zl_103, zl_107, zl_112, zl_115, zl_100, zl_180, zl_210, zl_238, zl_255, zl_256, zl_400, zl_1000, zl_1024, zl_1260, zl_2000, zl_7140, zl_7200, zl_18414, zl_65536, zl_131072, zl_9999, zl_999, zI_add, zI_sub, zI_mul, zI_neg, zI_lt, zI_le, zI_eq, zI_clamp, ck_z, ckp_z, qb_z, qb_z0, Option.bind_some]; exact c2
          rw [if_neg q3, decide_eq_false (by omega)]
  have f40 : F_X8_fits_b40 marks ms mp (zI j) cancels (zI h) (zI p) (zI y) (zI x) (zI a) = some (decide ((bkM Λ 1 h = 0 ∨ (bkM Λ 1 h = p ∧ p ≤ bkG Λ)) ∧ (bkO Λ = 0 ∨ ((bkM Λ 2 h = 0 ∨ bkM Λ 2 h = bkO Λ + 2 * y) ∧ (x = 0 ∨ bkX Λ h = 0 ∨ bkP Λ h = 0 ∨ bkP Λ h = bkO Λ + 2 * y))))) := by
    unfold F_X8_fits_b40
    rw [k1, Option.bind_some, f76, cj, zI_clamp (by omega) (by omega), rs]
    by_cases c : bkM Λ 1 h = 0
    · have q2 : zI (bkM Λ 1 h) = 0 := by rw [c]; rfl
      rw [if_pos q2]
      congr 1
      exact decide_eq_decide.mpr ⟨fun z => ⟨Or.inl c, z⟩, fun z => z.2⟩
    · have q2 : ¬ zI (bkM Λ 1 h) = 0 := by simp (disch := omega) only [zl_0, zl_1, zl_2, zl_3, zl_4, zl_5, zl_6, zl_7, zl_8, zl_9, zl_10, zl_11, zl_12, zl_13, zl_14, zl_15, zl_16, zl_17, zl_18, zl_19, zl_20, zl_21, zl_22, zl_23, zl_24, zl_25, zl_26, zl_27, zl_28, zl_29, zl_30, zl_31, zl_32, zl_33, zl_34, zl_35, zl_36, zl_37, zl_38, zl_39, zl_40, zl_41, zl_42, zl_43, zl_44, zl_45, zl_46, zl_47, zl_48, zl_49, zl_50, zl_51, zl_52, zl_53, zl_54, zl_55, zl_56, zl_57, zl_58, zl_59, zl_60, zl_61, zl_62, zl_63, zl_64, zl_65, zl_66, zl_80, zl_97, zl_99, zl_103, zl_107, zl_112, zl_115, zl_100, zl_180, zl_210, zl_238, zl_255, zl_256, zl_400, zl_1000, zl_1024, zl_1260, zl_2000, zl_7140, zl_7200, zl_18414, zl_65536, zl_131072, zl_9999, zl_999, zI_add, zI_sub, zI_mul, zI_neg, zI_lt, zI_le, zI_eq, zI_clamp, ck_z, ckp_z, qb_z, qb_z0, Option.bind_some]; exact c
      rw [if_neg q2]
      by_cases c2 : bkM Λ 1 h = p
      · rw [if_pos (by rw [c2])]
        by_cases c3 : p ≤ bkG Λ
        · have q3 : zI (bkM Λ 1 h) ≤ zI (bkG Λ) := by simp (disch := omega) only [zl_0, zl_1, zl_2, zl_3, zl_4, zl_5, zl_6, zl_7, zl_8, zl_9, zl_10, zl_11, zl_12, zl_13, zl_14, zl_15, zl_16, zl_17, zl_18, zl_19, zl_20, zl_21, zl_22, zl_23, zl_24, zl_25, zl_26, zl_27, zl_28, zl_29, zl_30, zl_31, zl_32, zl_33, zl_34, zl_35, zl_36, zl_37, zl_38, zl_39, zl_40, zl_41, zl_42, zl_43, zl_44, zl_45, zl_46, zl_47, zl_48, zl_49, zl_50, zl_51, zl_52, zl_53, zl_54, zl_55, zl_56, zl_57, zl_58, zl_59, zl_60, zl_61, zl_62, zl_63, zl_64, zl_65, zl_66, zl_80, zl_97, zl_99, zl_103, zl_107, zl_112, zl_115, zl_100, zl_180, zl_210, zl_238, zl_255, zl_256, zl_400, zl_1000, zl_1024, zl_1260, zl_2000, zl_7140, zl_7200, zl_18414, zl_65536, zl_131072, zl_9999, zl_999, zI_add, zI_sub, zI_mul, zI_neg, zI_lt, zI_le, zI_eq, zI_clamp, ck_z, ckp_z, qb_z, qb_z0, Option.bind_some]; omega
          rw [if_pos q3]
          congr 1
          exact decide_eq_decide.mpr ⟨fun z => ⟨Or.inr ⟨c2, c3⟩, z⟩, fun z => z.2⟩
        · have q3 : ¬ zI (bkM Λ 1 h) ≤ zI (bkG Λ) := by simp (disch := omega) only [zl_0, zl_1, zl_2, zl_3, zl_4, zl_5, zl_6, zl_7, zl_8, zl_9, zl_10, zl_11, zl_12, zl_13, zl_14, zl_15, zl_16, zl_17, zl_18, zl_19, zl_20, zl_21, zl_22, zl_23, zl_24, zl_25, zl_26, zl_27, zl_28, zl_29, zl_30, zl_31, zl_32, zl_33, zl_34, zl_35, zl_36, zl_37, zl_38, zl_39, zl_40, zl_41, zl_42, zl_43, zl_44, zl_45, zl_46, zl_47, zl_48, zl_49, zl_50, zl_51, zl_52, zl_53, zl_54, zl_55, zl_56, zl_57, zl_58, zl_59, zl_60, zl_61, zl_62, zl_63, zl_64, zl_65, zl_66, zl_80, zl_97, zl_99, zl_103, zl_107, zl_112, zl_115, zl_100, zl_180, zl_210, zl_238, zl_255, zl_256, zl_400, zl_1000, zl_1024, zl_1260, zl_2000, zl_7140, zl_7200, zl_18414, zl_65536, zl_131072, zl_9999, zl_999, zI_add, zI_sub, zI_mul, zI_neg, zI_lt, zI_le, zI_eq, zI_clamp, ck_z, ckp_z, qb_z, qb_z0, Option.bind_some]; omega
          rw [if_neg q3, decide_eq_false (by omega)]
      · have q3 : ¬ zI (bkM Λ 1 h) = zI p := by simp (disch := omega) only [zl_0, zl_1, zl_2, zl_3, zl_4, zl_5, zl_6, zl_7, zl_8, zl_9, zl_10, zl_11, zl_12, zl_13, zl_14, zl_15, zl_16, zl_17, zl_18, zl_19, zl_20, zl_21, zl_22, zl_23, zl_24, zl_25, zl_26, zl_27, zl_28, zl_29, zl_30, zl_31, zl_32, zl_33, zl_34, zl_35, zl_36, zl_37, zl_38, zl_39, zl_40, zl_41, zl_42, zl_43, zl_44, zl_45, zl_46, zl_47, zl_48, zl_49, zl_50, zl_51, zl_52, zl_53, zl_54, zl_55, zl_56, zl_57, zl_58, zl_59, zl_60, zl_61, zl_62, zl_63, zl_64, zl_65, zl_66, zl_80, zl_97, zl_99, zl_103, zl_107, zl_112, zl_115, zl_100, zl_180, zl_210, zl_238, zl_255, zl_256, zl_400, zl_1000, zl_1024, zl_1260, zl_2000, zl_7140, zl_7200, zl_18414, zl_65536, zl_131072, zl_9999, zl_999, zI_add, zI_sub, zI_mul, zI_neg, zI_lt, zI_le, zI_eq, zI_clamp, ck_z, ckp_z, qb_z, qb_z0, Option.bind_some]; exact c2
        rw [if_neg q3, decide_eq_false (by omega)]
  have e0 : zI (bkL Λ) + zI q = zI (bkL Λ + q) := zI_add _ _
  unfold F_X8_fits
  rw [ck_z h0 (by omega) (by omega), zI_clamp (by omega) (by omega), ea, k0, Option.bind_some, f40, cj, zI_clamp (by omega) (by omega), rl, e0]
  by_cases c : bkM Λ 0 h = 0
  · have q2 : zI (bkM Λ 0 h) = 0 := by rw [c]; rfl
    rw [if_pos q2]
    congr 1
    exact decide_eq_decide.mpr ⟨fun z => ⟨Or.inl c, z⟩, fun z => z.2⟩
  · have q2 : ¬ zI (bkM Λ 0 h) = 0 := by simp (disch := omega) only [zl_0, zl_1, zl_2, zl_3, zl_4, zl_5, zl_6, zl_7, zl_8, zl_9, zl_10, zl_11, zl_12, zl_13, zl_14, zl_15, zl_16, zl_17, zl_18, zl_19, zl_20, zl_21, zl_22, zl_23, zl_24, zl_25, zl_26, zl_27, zl_28, zl_29, zl_30, zl_31, zl_32, zl_33, zl_34, zl_35, zl_36, zl_37, zl_38, zl_39, zl_40, zl_41, zl_42, zl_43, zl_44, zl_45, zl_46, zl_47, zl_48, zl_49, zl_50, zl_51, zl_52, zl_53, zl_54, zl_55, zl_56, zl_57, zl_58, zl_59, zl_60, zl_61, zl_62, zl_63, zl_64, zl_65, zl_66, zl_80, zl_97, zl_99, zl_103, zl_107, zl_112, zl_115, zl_100, zl_180, zl_210, zl_238, zl_255, zl_256, zl_400, zl_1000, zl_1024, zl_1260, zl_2000, zl_7140, zl_7200, zl_18414, zl_65536, zl_131072, zl_9999, zl_999, zI_add, zI_sub, zI_mul, zI_neg, zI_lt, zI_le, zI_eq, zI_clamp, ck_z, ckp_z, qb_z, qb_z0, Option.bind_some]; exact c
    rw [if_neg q2]
    by_cases c2 : bkM Λ 0 h = bkL Λ + q
    · rw [if_pos (by rw [c2])]
      congr 1
      exact decide_eq_decide.mpr ⟨fun z => ⟨Or.inr c2, z⟩, fun z => z.2⟩
    · have q3 : ¬ zI (bkM Λ 0 h) = zI (bkL Λ + q) := by simp (disch := omega) only [zl_0, zl_1, zl_2, zl_3, zl_4, zl_5, zl_6, zl_7, zl_8, zl_9, zl_10, zl_11, zl_12, zl_13, zl_14, zl_15, zl_16, zl_17, zl_18, zl_19, zl_20, zl_21, zl_22, zl_23, zl_24, zl_25, zl_26, zl_27, zl_28, zl_29, zl_30, zl_31, zl_32, zl_33, zl_34, zl_35, zl_36, zl_37, zl_38, zl_39, zl_40, zl_41, zl_42, zl_43, zl_44, zl_45, zl_46, zl_47, zl_48, zl_49, zl_50, zl_51, zl_52, zl_53, zl_54, zl_55, zl_56, zl_57, zl_58, zl_59, zl_60, zl_61, zl_62, zl_63, zl_64, zl_65, zl_66, zl_80, zl_97, zl_99, zl_103, zl_107, zl_112, zl_115, zl_100, zl_180, zl_210, zl_238, zl_255, zl_256, zl_400, zl_1000, zl_1024, zl_1260, zl_2000, zl_7140, zl_7200, zl_18414, zl_65536, zl_131072, zl_9999, zl_999, zI_add, zI_sub, zI_mul, zI_neg, zI_lt, zI_le, zI_eq, zI_clamp, ck_z, ckp_z, qb_z, qb_z0, Option.bind_some]; exact c2
      have no : ¬ Fit Λ x h q p y := fun z => by rcases z.1 with z | z; exact c z; exact c2 z
      rw [if_neg q3, decide_eq_false no]
end LF

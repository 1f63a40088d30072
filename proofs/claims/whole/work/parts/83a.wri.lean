def plp (Φ : Fold) (q p : Int) : Prop := fC Φ q p ≠ -2 ∧ fK Φ (fC Φ q p) = 1 ∧ ¬ (fC Φ q p + 1 < fT Φ ∧ ¬ (fK Φ (fC Φ q p + 1) = 1 ∨ fK Φ (fC Φ q p + 1) = 2))
noncomputable def plb (Φ : Fold) (q : Int) : Nat → Int → Bool
  | 0, _ => true
  | d + 1, p => if fC Φ q p ≠ -2 ∧ fK Φ (fC Φ q p) = 1 ∧ ¬ (fC Φ q p + 1 < fT Φ ∧ ¬ (fK Φ (fC Φ q p + 1) = 1 ∨ fK Φ (fC Φ q p + 1) = 2)) then plb Φ q d (p + 1) else false
noncomputable def plain (Φ : Fold) (q : Int) : Bool := if q = 0 ∧ 0 < fT Φ ∧ ¬ (fK Φ 0 = 1 ∨ fK Φ 0 = 2) then false else plb Φ q (fS Φ q).toNat 1
noncomputable def rn (Φ : Fold) (q : Int) : Nat → Int → Int
  | 0, n => n
  | d + 1, n => if q + n < fQ Φ ∧ fS Φ (q + n) = fS Φ q ∧ plain Φ (q + n) = true then rn Φ q d (n + 1) else n
theorem plb_s {Φ : Fold} {q : Int} {d : Nat} {p : Int} (h : fC Φ q p ≠ -2 ∧ fK Φ (fC Φ q p) = 1 ∧ ¬ (fC Φ q p + 1 < fT Φ ∧ ¬ (fK Φ (fC Φ q p + 1) = 1 ∨ fK Φ (fC Φ q p + 1) = 2))) : plb Φ q (d + 1) p = plb Φ q d (p + 1) := by
  simp only [plb]
  rw [if_pos h]
theorem plb_f {Φ : Fold} {q : Int} {d : Nat} {p : Int} (h : ¬ (fC Φ q p ≠ -2 ∧ fK Φ (fC Φ q p) = 1 ∧ ¬ (fC Φ q p + 1 < fT Φ ∧ ¬ (fK Φ (fC Φ q p + 1) = 1 ∨ fK Φ (fC Φ q p + 1) = 2)))) : plb Φ q (d + 1) p = false := by
  simp only [plb]
  rw [if_neg h]
theorem plain_f {Φ : Fold} {q : Int} (h : q = 0 ∧ 0 < fT Φ ∧ ¬ (fK Φ 0 = 1 ∨ fK Φ 0 = 2)) : plain Φ q = false := by
  unfold plain
  rw [if_pos h]
theorem plain_s {Φ : Fold} {q : Int} (h : ¬ (q = 0 ∧ 0 < fT Φ ∧ ¬ (fK Φ 0 = 1 ∨ fK Φ 0 = 2))) : plain Φ q = plb Φ q (fS Φ q).toNat 1 := by
  unfold plain
  rw [if_neg h]
theorem rn_s {Φ : Fold} {q : Int} {d : Nat} {n : Int} (h : q + n < fQ Φ ∧ fS Φ (q + n) = fS Φ q ∧ plain Φ (q + n) = true) : rn Φ q (d + 1) n = rn Φ q d (n + 1) := by
  simp only [rn]
  rw [if_pos h]
theorem rn_f {Φ : Fold} {q : Int} {d : Nat} {n : Int} (h : ¬ (q + n < fQ Φ ∧ fS Φ (q + n) = fS Φ q ∧ plain Φ (q + n) = true)) : rn Φ q (d + 1) n = n := by
  simp only [rn]
  rw [if_neg h]
section WR
variable {Φ : Fold} {quires things ghosts letter page : Int32} {sizes cells kinds words quireOf placeOf : NF} {mthings mquires firstLetter firstPage sizeOf placed kindOf catchOf isThere : NF}
theorem plain_b24_z (hw : FoldW Φ) (hc : FoldC Φ quires things ghosts letter page sizes cells kinds words quireOf placeOf) (q : Int) (hq : 0 ≤ q) (hq2 : q < fQ Φ) : ∀ (d m : Nat) (p : Int), p + d = fS Φ q + 1 → 1 ≤ p → d < m → F_X6_isPlain_b24 quires things sizes cells kinds m (zI q) (zI p) = some (plb Φ q d p)
  | 0, m + 1, p, hp, _, _ => by
    have hr := hw.1
    have hS := hw.2.1 q hq hq2
    have s := hc.2.1 q hq hq2
    unfold F_X6_isPlain_b24
    simp (disch := omega) only [zl_0, zl_1, zl_2, zl_3, zl_4, zl_5, zl_6, zl_7, zl_8, zl_9, zl_10, zl_11, zl_12, zl_13, zl_14, zl_15, zl_16, zl_17, zl_18, zl_19, zl_20, zl_21, zl_22, zl_23, zl_24, zl_25, zl_26, zl_27, zl_28, zl_29, zl_30, zl_31, zl_32, zl_33, zl_34, zl_35, zl_36, zl_37, zl_38, zl_39, zl_40, zl_41, zl_42, zl_43, zl_44, zl_45, zl_46, zl_47, zl_48, zl_49, zl_50, zl_51, zl_52, zl_53, zl_54, zl_55, zl_56, zl_57, zl_58, zl_59, zl_60, zl_61, zl_62, zl_63, zl_64, zl_65, zl_66, zl_80, zl_97, zl_99, zl_103, zl_107, zl_112, zl_115, zl_100, zl_180, zl_210, zl_238, zl_255, zl_256, zl_400, zl_1000, zl_1024, zl_1260, zl_2000, zl_7140, zl_7200, zl_18414, zl_65536, zl_131072, zl_9999, zl_999, zI_add, zI_sub, zI_mul, zI_neg, zI_lt, zI_le, zI_eq, zI_clamp, ck_z, ckp_z, qb_z, qb_z0, Option.bind_some, if_pos, if_neg, reduceIte, reduceCtorEq, Bool.false_eq_true, Bool.true_eq_false, s]
    rfl
  | d + 1, m + 1, p, hp, hp1, hm => by
    have hr := hw.1
    have hS := hw.2.1 q hq hq2
    have s := hc.2.1 q hq hq2
    have ih := plain_b24_z hw hc q hq hq2 d m (p + 1) (by omega) (by omega) (by omega)
    have e1 := thingAt_z hw hc q p (by omega) (by omega) (by omega) (by omega)
    rw [if_pos (by omega)] at e1
    have g := hw.2.2.1 q p hq hq2 hp1 (by omega)
    have e2 := hangs_z hw hc (fC Φ q p) (by omega) (by omega)
    have e3 := isLoose_z hw hc (fC Φ q p + 1) (by omega) (by omega)
    rw [F_X6_isPlain_b24]
    rcases g with g | ⟨g1, g2, g3, -⟩
    · rw [plb_f (by omega)]
      rw [decide_eq_false (by omega)] at e2
      simp (disch := omega) only [zl_0, zl_1, zl_2, zl_3, zl_4, zl_5, zl_6, zl_7, zl_8, zl_9, zl_10, zl_11, zl_12, zl_13, zl_14, zl_15, zl_16, zl_17, zl_18, zl_19, zl_20, zl_21, zl_22, zl_23, zl_24, zl_25, zl_26, zl_27, zl_28, zl_29, zl_30, zl_31, zl_32, zl_33, zl_34, zl_35, zl_36, zl_37, zl_38, zl_39, zl_40, zl_41, zl_42, zl_43, zl_44, zl_45, zl_46, zl_47, zl_48, zl_49, zl_50, zl_51, zl_52, zl_53, zl_54, zl_55, zl_56, zl_57, zl_58, zl_59, zl_60, zl_61, zl_62, zl_63, zl_64, zl_65, zl_66, zl_80, zl_97, zl_99, zl_103, zl_107, zl_112, zl_115, zl_100, zl_180, zl_210, zl_238, zl_255, zl_256, zl_400, zl_1000, zl_1024, zl_1260, zl_2000, zl_7140, zl_7200, zl_18414, zl_65536, zl_131072, zl_9999, zl_999, zI_add, zI_sub, zI_mul, zI_neg, zI_lt, zI_le, zI_eq, zI_clamp, ck_z, ckp_z, qb_z, qb_z0, Option.bind_some, if_pos, if_neg, reduceIte, reduceCtorEq, Bool.false_eq_true, Bool.true_eq_false, s, e1, e2]
    · have hk := hc.2.2.2.1 _ g1 g2
      have hk2 := hw.2.2.2.1 _ g1 g2
      rw [decide_eq_true ⟨g1, g2, g3⟩] at e2
      by_cases h1 : fK Φ (fC Φ q p) = 1
      · by_cases h2 : fC Φ q p + 1 < fT Φ ∧ ¬ (fK Φ (fC Φ q p + 1) = 1 ∨ fK Φ (fC Φ q p + 1) = 2)
        · rw [decide_eq_true (by omega)] at e3
          rw [plb_f (fun x => x.2.2 h2)]
          simp (disch := omega) only [zl_0, zl_1, zl_2, zl_3, zl_4, zl_5, zl_6, zl_7, zl_8, zl_9, zl_10, zl_11, zl_12, zl_13, zl_14, zl_15, zl_16, zl_17, zl_18, zl_19, zl_20, zl_21, zl_22, zl_23, zl_24, zl_25, zl_26, zl_27, zl_28, zl_29, zl_30, zl_31, zl_32, zl_33, zl_34, zl_35, zl_36, zl_37, zl_38, zl_39, zl_40, zl_41, zl_42, zl_43, zl_44, zl_45, zl_46, zl_47, zl_48, zl_49, zl_50, zl_51, zl_52, zl_53, zl_54, zl_55, zl_56, zl_57, zl_58, zl_59, zl_60, zl_61, zl_62, zl_63, zl_64, zl_65, zl_66, zl_80, zl_97, zl_99, zl_103, zl_107, zl_112, zl_115, zl_100, zl_180, zl_210, zl_238, zl_255, zl_256, zl_400, zl_1000, zl_1024, zl_1260, zl_2000, zl_7140, zl_7200, zl_18414, zl_65536, zl_131072, zl_9999, zl_999, zI_add, zI_sub, zI_mul, zI_neg, zI_lt, zI_le, zI_eq, zI_clamp, ck_z, ckp_z, qb_z, qb_z0, Option.bind_some, if_pos, if_neg, reduceIte, reduceCtorEq, Bool.false_eq_true, Bool.true_eq_false, s, e1, e2, e3, hk]
        · rw [decide_eq_false (fun x => h2 x.2)] at e3
          rw [plb_s ⟨by omega, h1, h2⟩]
          simp (disch := omega) only [zl_0, zl_1, zl_2, zl_3, zl_4, zl_5, zl_6, zl_7, zl_8, zl_9, zl_10, zl_11, zl_12, zl_13, zl_14, zl_15, zl_16, zl_17, zl_18, zl_19, zl_20, zl_21, zl_22, zl_23, zl_24, zl_25, zl_26, zl_27, zl_28, zl_29, zl_30, zl_31, zl_32, zl_33, zl_34, zl_35, zl_36, zl_37, zl_38, zl_39, zl_40, zl_41, zl_42, zl_43, zl_44, zl_45, zl_46, zl_47, zl_48, zl_49, zl_50, zl_51, zl_52, zl_53, zl_54, zl_55, zl_56, zl_57, zl_58, zl_59, zl_60, zl_61, zl_62, zl_63, zl_64, zl_65, zl_66, zl_80, zl_97, zl_99, zl_103, zl_107, zl_112, zl_115, zl_100, zl_180, zl_210, zl_238, zl_255, zl_256, zl_400, zl_1000, zl_1024, zl_1260, zl_2000, zl_7140, zl_7200, zl_18414, zl_65536, zl_131072, zl_9999, zl_999, zI_add, zI_sub, zI_mul, zI_neg, zI_lt, zI_le, zI_eq, zI_clamp, ck_z, ckp_z, qb_z, qb_z0, Option.bind_some, if_pos, if_neg, reduceIte, reduceCtorEq, Bool.false_eq_true, Bool.true_eq_false, s, e1, e2, e3, hk]
          exact ih
      · rw [plb_f (fun x => h1 x.2.1)]
        simp (disch := omega) only [zl_0, zl_1, zl_2, zl_3, zl_4, zl_5, zl_6, zl_7, zl_8, zl_9, zl_10, zl_11, zl_12, zl_13, zl_14, zl_15, zl_16, zl_17, zl_18, zl_19, zl_20, zl_21, zl_22, zl_23, zl_24, zl_25, zl_26, zl_27, zl_28, zl_29, zl_30, zl_31, zl_32, zl_33, zl_34, zl_35, zl_36, zl_37, zl_38, zl_39, zl_40, zl_41, zl_42, zl_43, zl_44, zl_45, zl_46, zl_47, zl_48, zl_49, zl_50, zl_51, zl_52, zl_53, zl_54, zl_55, zl_56, zl_57, zl_58, zl_59, zl_60, zl_61, zl_62, zl_63, zl_64, zl_65, zl_66, zl_80, zl_97, zl_99, zl_103, zl_107, zl_112, zl_115, zl_100, zl_180, zl_210, zl_238, zl_255, zl_256, zl_400, zl_1000, zl_1024, zl_1260, zl_2000, zl_7140, zl_7200, zl_18414, zl_65536, zl_131072, zl_9999, zl_999, zI_add, zI_sub, zI_mul, zI_neg, zI_lt, zI_le, zI_eq, zI_clamp, ck_z, ckp_z, qb_z, qb_z0, Option.bind_some, if_pos, if_neg, reduceIte, reduceCtorEq, Bool.false_eq_true, Bool.true_eq_false, s, e1, e2, hk]
theorem plain_z (hw : FoldW Φ) (hc : FoldC Φ quires things ghosts letter page sizes cells kinds words quireOf placeOf) (q : Int) (hq : 0 ≤ q) (hq2 : q < 8) : F_X6_isPlain quires things sizes cells kinds (zI q) = some (if q < fQ Φ then plain Φ q else false) := by
  have hr := hw.1
  have e0 : F_X0_hasQuire quires (zI q) = some (decide (0 ≤ q ∧ q < fQ Φ)) := by rw [hc.1.1]; exact hasQuire_z _ _ (by omega) (by omega) (by omega) (by omega)
  unfold F_X6_isPlain
  rw [e0, Option.bind_some]
  by_cases h : q < fQ Φ
  · have hS := hw.2.1 q hq h
    have e1 := plain_b24_z hw hc q hq h (fS Φ q).toNat FU 1 (by omega) (by omega) (by unfold FU; omega)
    have e2 := isLoose_z hw hc 0 (by omega) (by omega)
    rw [decide_eq_true ⟨hq, h⟩, if_pos h]
    by_cases h0 : q = 0 ∧ 0 < fT Φ ∧ ¬ (fK Φ 0 = 1 ∨ fK Φ 0 = 2)
    · rw [plain_f h0]
      rw [decide_eq_true ⟨by omega, h0.2⟩] at e2
      simp (disch := omega) only [zl_0, zl_1, zl_2, zl_3, zl_4, zl_5, zl_6, zl_7, zl_8, zl_9, zl_10, zl_11, zl_12, zl_13, zl_14, zl_15, zl_16, zl_17, zl_18, zl_19, zl_20, zl_21, zl_22, zl_23, zl_24, zl_25, zl_26, zl_27, zl_28, zl_29, zl_30, zl_31, zl_32, zl_33, zl_34, zl_35, zl_36, zl_37, zl_38, zl_39, zl_40, zl_41, zl_42, zl_43, zl_44, zl_45, zl_46, zl_47, zl_48, zl_49, zl_50, zl_51, zl_52, zl_53, zl_54, zl_55, zl_56, zl_57, zl_58, zl_59, zl_60, zl_61, zl_62, zl_63, zl_64, zl_65, zl_66, zl_80, zl_97, zl_99, zl_103, zl_107, zl_112, zl_115, zl_100, zl_180, zl_210, zl_238, zl_255, zl_256, zl_400, zl_1000, zl_1024, zl_1260, zl_2000, zl_7140, zl_7200, zl_18414, zl_65536, zl_131072, zl_9999, zl_999, zI_add, zI_sub, zI_mul, zI_neg, zI_lt, zI_le, zI_eq, zI_clamp, ck_z, ckp_z, qb_z, qb_z0, Option.bind_some, if_pos, if_neg, reduceIte, reduceCtorEq, Bool.false_eq_true, Bool.true_eq_false, e2]
    · rw [plain_s h0]
      by_cases hz : q = 0
      · rw [decide_eq_false (fun x => h0 ⟨hz, x.2⟩)] at e2
        simp (disch := omega) only [zl_0, zl_1, zl_2, zl_3, zl_4, zl_5, zl_6, zl_7, zl_8, zl_9, zl_10, zl_11, zl_12, zl_13, zl_14, zl_15, zl_16, zl_17, zl_18, zl_19, zl_20, zl_21, zl_22, zl_23, zl_24, zl_25, zl_26, zl_27, zl_28, zl_29, zl_30, zl_31, zl_32, zl_33, zl_34, zl_35, zl_36, zl_37, zl_38, zl_39, zl_40, zl_41, zl_42, zl_43, zl_44, zl_45, zl_46, zl_47, zl_48, zl_49, zl_50, zl_51, zl_52, zl_53, zl_54, zl_55, zl_56, zl_57, zl_58, zl_59, zl_60, zl_61, zl_62, zl_63, zl_64, zl_65, zl_66, zl_80, zl_97, zl_99, zl_103, zl_107, zl_112, zl_115, zl_100, zl_180, zl_210, zl_238, zl_255, zl_256, zl_400, zl_1000, zl_1024, zl_1260, zl_2000, zl_7140, zl_7200, zl_18414, zl_65536, zl_131072, zl_9999, zl_999, zI_add, zI_sub, zI_mul, zI_neg, zI_lt, zI_le, zI_eq, zI_clamp, ck_z, ckp_z, qb_z, qb_z0, Option.bind_some, if_pos, if_neg, reduceIte, reduceCtorEq, Bool.false_eq_true, Bool.true_eq_false, e2]
        exact e1
      · simp (disch := omega) only [zl_0, zl_1, zl_2, zl_3, zl_4, zl_5, zl_6, zl_7, zl_8, zl_9, zl_10, zl_11, zl_12, zl_13, zl_14, zl_15, zl_16, zl_17, zl_18, zl_19, zl_20, zl_21, zl_22, zl_23, zl_24, zl_25, zl_26, zl_27, zl_28, zl_29, zl_30, zl_31, zl_32, zl_33, zl_34, zl_35, zl_36, zl_37, zl_38, zl_39, zl_40, zl_41, zl_42, zl_43, zl_44, zl_45, zl_46, zl_47, zl_48, zl_49, zl_50, zl_51, zl_52, zl_53, zl_54, zl_55, zl_56, zl_57, zl_58, zl_59, zl_60, zl_61, zl_62, zl_63, zl_64, zl_65, zl_66, zl_80, zl_97, zl_99, zl_103, zl_107, zl_112, zl_115, zl_100, zl_180, zl_210, zl_238, zl_255, zl_256, zl_400, zl_1000, zl_1024, zl_1260, zl_2000, zl_7140, zl_7200, zl_18414, zl_65536, zl_131072, zl_9999, zl_999, zI_add, zI_sub, zI_mul, zI_neg, zI_lt, zI_le, zI_eq, zI_clamp, ck_z, ckp_z, qb_z, qb_z0, Option.bind_some, if_pos, if_neg, reduceIte, reduceCtorEq, Bool.false_eq_true, Bool.true_eq_false]
        exact e1
  · rw [decide_eq_false (by omega), if_neg h]
    rfl
theorem plainM_b30_z (hw : FoldW Φ) (hm : FoldM 0 Φ mthings mquires firstLetter firstPage sizeOf placed kindOf catchOf) (q : Int) (hq : 0 ≤ q) (hq2 : q < fQ Φ) : ∀ (d m : Nat) (p : Int), p + d = fS Φ q + 1 → 1 ≤ p → d < m → F_X8_isPlain_b30 mthings sizeOf placed kindOf m (zI q) (zI p) = some (plb Φ q d p)
  | 0, m + 1, p, hp, _, _ => by
    have hr := hw.1
    have hS := hw.2.1 q hq hq2
    have s := hm.2.1 q hq hq2
    rw [show 8 * 0 + q = q by omega] at s
    unfold F_X8_isPlain_b30
    simp (disch := omega) only [zl_0, zl_1, zl_2, zl_3, zl_4, zl_5, zl_6, zl_7, zl_8, zl_9, zl_10, zl_11, zl_12, zl_13, zl_14, zl_15, zl_16, zl_17, zl_18, zl_19, zl_20, zl_21, zl_22, zl_23, zl_24, zl_25, zl_26, zl_27, zl_28, zl_29, zl_30, zl_31, zl_32, zl_33, zl_34, zl_35, zl_36, zl_37, zl_38, zl_39, zl_40, zl_41, zl_42, zl_43, zl_44, zl_45, zl_46, zl_47, zl_48, zl_49, zl_50, zl_51, zl_52, zl_53, zl_54, zl_55, zl_56, zl_57, zl_58, zl_59, zl_60, zl_61, zl_62, zl_63, zl_64, zl_65, zl_66, zl_80, zl_97, zl_99, zl_103, zl_107, zl_112, zl_115, zl_100, zl_180, zl_210, zl_238, zl_255, zl_256, zl_400, zl_1000, zl_1024, zl_1260, zl_2000, zl_7140, zl_7200, zl_18414, zl_65536, zl_131072, zl_9999, zl_999, zI_add, zI_sub, zI_mul, zI_neg, zI_lt, zI_le, zI_eq, zI_clamp, ck_z, ckp_z, qb_z, qb_z0, Option.bind_some, if_pos, if_neg, reduceIte, reduceCtorEq, Bool.false_eq_true, Bool.true_eq_false, s]
    rfl
  | d + 1, m + 1, p, hp, hp1, hmm => by
    have hr := hw.1
    have hS := hw.2.1 q hq hq2
    have s := hm.2.1 q hq hq2
    rw [show 8 * 0 + q = q by omega] at s
    have ih := plainM_b30_z hw hm q hq hq2 d m (p + 1) (by omega) (by omega) (by omega)
    have e1 := hm.2.2.1 q p hq hq2 hp1 (by omega)
    rw [show 64 * 0 + 8 * q + p - 1 = 8 * q + p - 1 by omega] at e1
    have g := hw.2.2.1 q p hq hq2 hp1 (by omega)
    have t0 : mthings 0 = zI (fT Φ) := hm.1.2.1
    rw [F_X8_isPlain_b30]
    rw [show (0 : Int32).toNatClampNeg = 0 from rfl, t0]
    rcases g with g | ⟨g1, g2, g3, -⟩
    · rw [plb_f (by omega)]
      simp (disch := omega) only [zl_0, zl_1, zl_2, zl_3, zl_4, zl_5, zl_6, zl_7, zl_8, zl_9, zl_10, zl_11, zl_12, zl_13, zl_14, zl_15, zl_16, zl_17, zl_18, zl_19, zl_20, zl_21, zl_22, zl_23, zl_24, zl_25, zl_26, zl_27, zl_28, zl_29, zl_30, zl_31, zl_32, zl_33, zl_34, zl_35, zl_36, zl_37, zl_38, zl_39, zl_40, zl_41, zl_42, zl_43, zl_44, zl_45, zl_46, zl_47, zl_48, zl_49, zl_50, zl_51, zl_52, zl_53, zl_54, zl_55, zl_56, zl_57, zl_58, zl_59, zl_60, zl_61, zl_62, zl_63, zl_64, zl_65, zl_66, zl_80, zl_97, zl_99, zl_103, zl_107, zl_112, zl_115, zl_100, zl_180, zl_210, zl_238, zl_255, zl_256, zl_400, zl_1000, zl_1024, zl_1260, zl_2000, zl_7140, zl_7200, zl_18414, zl_65536, zl_131072, zl_9999, zl_999, zI_add, zI_sub, zI_mul, zI_neg, zI_lt, zI_le, zI_eq, zI_clamp, ck_z, ckp_z, qb_z, qb_z0, Option.bind_some, if_pos, if_neg, reduceIte, reduceCtorEq, Bool.false_eq_true, Bool.true_eq_false, s, e1, at_z, Int.mul_zero, Int.zero_add]
    · have hk := hm.2.2.2.1 _ g1 g2
      rw [show 30 * 0 + fC Φ q p = fC Φ q p by omega] at hk
      have hk2 := hw.2.2.2.1 _ g1 g2
      by_cases h1 : fK Φ (fC Φ q p) = 1
      · by_cases h3 : fC Φ q p + 1 < fT Φ
        · have hk3 := hm.2.2.2.1 (fC Φ q p + 1) (by omega) h3
          rw [show 30 * 0 + (fC Φ q p + 1) = fC Φ q p + 1 by omega] at hk3
          have hk4 := hw.2.2.2.1 (fC Φ q p + 1) (by omega) h3
          have e4 := hangingM_z (fK Φ (fC Φ q p + 1)) (by omega) (by omega)
          by_cases h2 : fK Φ (fC Φ q p + 1) = 1 ∨ fK Φ (fC Φ q p + 1) = 2
          · rw [decide_eq_true h2] at e4
            rw [plb_s ⟨by omega, h1, fun x => x.2 h2⟩]
            simp (disch := omega) only [zl_0, zl_1, zl_2, zl_3, zl_4, zl_5, zl_6, zl_7, zl_8, zl_9, zl_10, zl_11, zl_12, zl_13, zl_14, zl_15, zl_16, zl_17, zl_18, zl_19, zl_20, zl_21, zl_22, zl_23, zl_24, zl_25, zl_26, zl_27, zl_28, zl_29, zl_30, zl_31, zl_32, zl_33, zl_34, zl_35, zl_36, zl_37, zl_38, zl_39, zl_40, zl_41, zl_42, zl_43, zl_44, zl_45, zl_46, zl_47, zl_48, zl_49, zl_50, zl_51, zl_52, zl_53, zl_54, zl_55, zl_56, zl_57, zl_58, zl_59, zl_60, zl_61, zl_62, zl_63, zl_64, zl_65, zl_66, zl_80, zl_97, zl_99, zl_103, zl_107, zl_112, zl_115, zl_100, zl_180, zl_210, zl_238, zl_255, zl_256, zl_400, zl_1000, zl_1024, zl_1260, zl_2000, zl_7140, zl_7200, zl_18414, zl_65536, zl_131072, zl_9999, zl_999, zI_add, zI_sub, zI_mul, zI_neg, zI_lt, zI_le, zI_eq, zI_clamp, ck_z, ckp_z, qb_z, qb_z0, Option.bind_some, if_pos, if_neg, reduceIte, reduceCtorEq, Bool.false_eq_true, Bool.true_eq_false, s, e1, at_z, Int.mul_zero, Int.zero_add, hk, hk3, e4]
            exact ih
          · rw [decide_eq_false h2] at e4
            rw [plb_f (fun x => x.2.2 ⟨h3, h2⟩)]
            simp (disch := omega) only [zl_0, zl_1, zl_2, zl_3, zl_4, zl_5, zl_6, zl_7, zl_8, zl_9, zl_10, zl_11, zl_12, zl_13, zl_14, zl_15, zl_16, zl_17, zl_18, zl_19, zl_20, zl_21, zl_22, zl_23, zl_24, zl_25, zl_26, zl_27, zl_28, zl_29, zl_30, zl_31, zl_32, zl_33, zl_34, zl_35, zl_36, zl_37, zl_38, zl_39, zl_40, zl_41, zl_42, zl_43, zl_44, zl_45, zl_46, zl_47, zl_48, zl_49, zl_50, zl_51, zl_52, zl_53, zl_54, zl_55, zl_56, zl_57, zl_58, zl_59, zl_60, zl_61, zl_62, zl_63, zl_64, zl_65, zl_66, zl_80, zl_97, zl_99, zl_103, zl_107, zl_112, zl_115, zl_100, zl_180, zl_210, zl_238, zl_255, zl_256, zl_400, zl_1000, zl_1024, zl_1260, zl_2000, zl_7140, zl_7200, zl_18414, zl_65536, zl_131072, zl_9999, zl_999, zI_add, zI_sub, zI_mul, zI_neg, zI_lt, zI_le, zI_eq, zI_clamp, ck_z, ckp_z, qb_z, qb_z0, Option.bind_some, if_pos, if_neg, reduceIte, reduceCtorEq, Bool.false_eq_true, Bool.true_eq_false, s, e1, at_z, Int.mul_zero, Int.zero_add, hk, hk3, e4]
        · rw [plb_s ⟨by omega, h1, fun x => h3 x.1⟩]
          simp (disch := omega) only [zl_0, zl_1, zl_2, zl_3, zl_4, zl_5, zl_6, zl_7, zl_8, zl_9, zl_10, zl_11, zl_12, zl_13, zl_14, zl_15, zl_16, zl_17, zl_18, zl_19, zl_20, zl_21, zl_22, zl_23, zl_24, zl_25, zl_26, zl_27, zl_28, zl_29, zl_30, zl_31, zl_32, zl_33, zl_34, zl_35, zl_36, zl_37, zl_38, zl_39, zl_40, zl_41, zl_42, zl_43, zl_44, zl_45, zl_46, zl_47, zl_48, zl_49, zl_50, zl_51, zl_52, zl_53, zl_54, zl_55, zl_56, zl_57, zl_58, zl_59, zl_60, zl_61, zl_62, zl_63, zl_64, zl_65, zl_66, zl_80, zl_97, zl_99, zl_103, zl_107, zl_112, zl_115, zl_100, zl_180, zl_210, zl_238, zl_255, zl_256, zl_400, zl_1000, zl_1024, zl_1260, zl_2000, zl_7140, zl_7200, zl_18414, zl_65536, zl_131072, zl_9999, zl_999, zI_add, zI_sub, zI_mul, zI_neg, zI_lt, zI_le, zI_eq, zI_clamp, ck_z, ckp_z, qb_z, qb_z0, Option.bind_some, if_pos, if_neg, reduceIte, reduceCtorEq, Bool.false_eq_true, Bool.true_eq_false, s, e1, at_z, Int.mul_zero, Int.zero_add, hk]
          exact ih
      · rw [plb_f (fun x => h1 x.2.1)]
        simp (disch := omega) only [zl_0, zl_1, zl_2, zl_3, zl_4, zl_5, zl_6, zl_7, zl_8, zl_9, zl_10, zl_11, zl_12, zl_13, zl_14, zl_15, zl_16, zl_17, zl_18, zl_19, zl_20, zl_21, zl_22, zl_23, zl_24, zl_25, zl_26, zl_27, zl_28, zl_29, zl_30, zl_31, zl_32, zl_33, zl_34, zl_35, zl_36, zl_37, zl_38, zl_39, zl_40, zl_41, zl_42, zl_43, zl_44, zl_45, zl_46, zl_47, zl_48, zl_49, zl_50, zl_51, zl_52, zl_53, zl_54, zl_55, zl_56, zl_57, zl_58, zl_59, zl_60, zl_61, zl_62, zl_63, zl_64, zl_65, zl_66, zl_80, zl_97, zl_99, zl_103, zl_107, zl_112, zl_115, zl_100, zl_180, zl_210, zl_238, zl_255, zl_256, zl_400, zl_1000, zl_1024, zl_1260, zl_2000, zl_7140, zl_7200, zl_18414, zl_65536, zl_131072, zl_9999, zl_999, zI_add, zI_sub, zI_mul, zI_neg, zI_lt, zI_le, zI_eq, zI_clamp, ck_z, ckp_z, qb_z, qb_z0, Option.bind_some, if_pos, if_neg, reduceIte, reduceCtorEq, Bool.false_eq_true, Bool.true_eq_false, s, e1, at_z, Int.mul_zero, Int.zero_add, hk]
theorem plainM_z (hw : FoldW Φ) (hm : FoldM 0 Φ mthings mquires firstLetter firstPage sizeOf placed kindOf catchOf) (q : Int) (hq : 0 ≤ q) (hq2 : q < fQ Φ) : F_X8_isPlain mthings sizeOf placed kindOf (zI q) = some (plain Φ q) := by
  have hr := hw.1
  have hS := hw.2.1 q hq hq2
  have e1 := plainM_b30_z hw hm q hq hq2 (fS Φ q).toNat FU 1 (by omega) (by omega) (by unfold FU; omega)
  have t0 : mthings 0 = zI (fT Φ) := hm.1.2.1
  unfold F_X8_isPlain
  rw [show (0 : Int32).toNatClampNeg = 0 from rfl, t0]
  by_cases hz : q = 0
  · by_cases ht : 0 < fT Φ
    · have hk := hm.2.2.2.1 0 (by omega) ht
      have hk' : kindOf 0 = zI (fK Φ 0) := hk
      have hk2 := hw.2.2.2.1 0 (by omega) ht
      have e4 := hangingM_z (fK Φ 0) (by omega) (by omega)
      rw [hk']
      by_cases h2 : fK Φ 0 = 1 ∨ fK Φ 0 = 2
      · rw [decide_eq_true h2] at e4
        rw [plain_s (fun x => x.2.2 h2)]
        simp (disch := omega) only [zl_0, zl_1, zl_2, zl_3, zl_4, zl_5, zl_6, zl_7, zl_8, zl_9, zl_10, zl_11, zl_12, zl_13, zl_14, zl_15, zl_16, zl_17, zl_18, zl_19, zl_20, zl_21, zl_22, zl_23, zl_24, zl_25, zl_26, zl_27, zl_28, zl_29, zl_30, zl_31, zl_32, zl_33, zl_34, zl_35, zl_36, zl_37, zl_38, zl_39, zl_40, zl_41, zl_42, zl_43, zl_44, zl_45, zl_46, zl_47, zl_48, zl_49, zl_50, zl_51, zl_52, zl_53, zl_54, zl_55, zl_56, zl_57, zl_58, zl_59, zl_60, zl_61, zl_62, zl_63, zl_64, zl_65, zl_66, zl_80, zl_97, zl_99, zl_103, zl_107, zl_112, zl_115, zl_100, zl_180, zl_210, zl_238, zl_255, zl_256, zl_400, zl_1000, zl_1024, zl_1260, zl_2000, zl_7140, zl_7200, zl_18414, zl_65536, zl_131072, zl_9999, zl_999, zI_add, zI_sub, zI_mul, zI_neg, zI_lt, zI_le, zI_eq, zI_clamp, ck_z, ckp_z, qb_z, qb_z0, Option.bind_some, if_pos, if_neg, reduceIte, reduceCtorEq, Bool.false_eq_true, Bool.true_eq_false, e4]
        exact e1
      · rw [decide_eq_false h2] at e4
        rw [plain_f ⟨hz, ht, h2⟩]
        simp (disch := omega) only [zl_0, zl_1, zl_2, zl_3, zl_4, zl_5, zl_6, zl_7, zl_8, zl_9, zl_10, zl_11, zl_12, zl_13, zl_14, zl_15, zl_16, zl_17, zl_18, zl_19, zl_20, zl_21, zl_22, zl_23, zl_24, zl_25, zl_26, zl_27, zl_28, zl_29, zl_30, zl_31, zl_32, zl_33, zl_34, zl_35, zl_36, zl_37, zl_38, zl_39, zl_40, zl_41, zl_42, zl_43, zl_44, zl_45, zl_46, zl_47, zl_48, zl_49, zl_50, zl_51, zl_52, zl_53, zl_54, zl_55, zl_56, zl_57, zl_58, zl_59, zl_60, zl_61, zl_62, zl_63, zl_64, zl_65, zl_66, zl_80, zl_97, zl_99, zl_103, zl_107, zl_112, zl_115, zl_100, zl_180, zl_210, zl_238, zl_255, zl_256, zl_400, zl_1000, zl_1024, zl_1260, zl_2000, zl_7140, zl_7200, zl_18414, zl_65536, zl_131072, zl_9999, zl_999, zI_add, zI_sub, zI_mul, zI_neg, zI_lt, zI_le, zI_eq, zI_clamp, ck_z, ckp_z, qb_z, qb_z0, Option.bind_some, if_pos, if_neg, reduceIte, reduceCtorEq, Bool.false_eq_true, Bool.true_eq_false, e4]
    · rw [plain_s (fun x => ht x.2.1)]
      simp (disch := omega) only [zl_0, zl_1, zl_2, zl_3, zl_4, zl_5, zl_6, zl_7, zl_8, zl_9, zl_10, zl_11, zl_12, zl_13, zl_14, zl_15, zl_16, zl_17, zl_18, zl_19, zl_20, zl_21, zl_22, zl_23, zl_24, zl_25, zl_26, zl_27, zl_28, zl_29, zl_30, zl_31, zl_32, zl_33, zl_34, zl_35, zl_36, zl_37, zl_38, zl_39, zl_40, zl_41, zl_42, zl_43, zl_44, zl_45, zl_46, zl_47, zl_48, zl_49, zl_50, zl_51, zl_52, zl_53, zl_54, zl_55, zl_56, zl_57, zl_58, zl_59, zl_60, zl_61, zl_62, zl_63, zl_64, zl_65, zl_66, zl_80, zl_97, zl_99, zl_103, zl_107, zl_112, zl_115, zl_100, zl_180, zl_210, zl_238, zl_255, zl_256, zl_400, zl_1000, zl_1024, zl_1260, zl_2000, zl_7140, zl_7200, zl_18414, zl_65536, zl_131072, zl_9999, zl_999, zI_add, zI_sub, zI_mul, zI_neg, zI_lt, zI_le, zI_eq, zI_clamp, ck_z, ckp_z, qb_z, qb_z0, Option.bind_some, if_pos, if_neg, reduceIte, reduceCtorEq, Bool.false_eq_true, Bool.true_eq_false]
      exact e1
  · rw [plain_s (fun x => hz x.1)]
    simp (disch := omega) only [zl_0, zl_1, zl_2, zl_3, zl_4, zl_5, zl_6, zl_7, zl_8, zl_9, zl_10, zl_11, zl_12, zl_13, zl_14, zl_15, zl_16, zl_17, zl_18, zl_19, zl_20, zl_21, zl_22, zl_23, zl_24, zl_25, zl_26, zl_27, zl_28, zl_29, zl_30, zl_31, zl_32, zl_33, zl_34, zl_35, zl_36, zl_37, zl_38, zl_39, zl_40, zl_41, zl_42, zl_43, zl_44, zl_45, zl_46, zl_47, zl_48, zl_49, zl_50, zl_51, zl_52, zl_53, zl_54, zl_55, zl_56, zl_57, zl_58, zl_59, zl_60, zl_61, zl_62, zl_63, zl_64, zl_65, zl_66, zl_80, zl_97, zl_99, zl_103, zl_107, zl_112, zl_115, zl_100, zl_180, zl_210, zl_238, zl_255, zl_256, zl_400, zl_1000, zl_1024, zl_1260, zl_2000, zl_7140, zl_7200, zl_18414, zl_65536, zl_131072, zl_9999, zl_999, zI_add, zI_sub, zI_mul, zI_neg, zI_lt, zI_le, zI_eq, zI_clamp, ck_z, ckp_z, qb_z, qb_z0, Option.bind_some, if_pos, if_neg, reduceIte, reduceCtorEq, Bool.false_eq_true, Bool.true_eq_false]
    exact e1
theorem rn_b (Φ : Fold) (q : Int) : ∀ (d : Nat) (n : Int), n ≤ rn Φ q d n ∧ rn Φ q d n ≤ n + d ∧ (q + n ≤ fQ Φ → q + rn Φ q d n ≤ fQ Φ)
  | 0, n => ⟨by simp only [rn]; omega, by simp only [rn]; omega, fun h => by simp only [rn]; omega⟩
  | d + 1, n => by
    have ih := rn_b Φ q d (n + 1)
    by_cases h : q + n < fQ Φ ∧ fS Φ (q + n) = fS Φ q ∧ plain Φ (q + n) = true
    · simp only [rn, if_pos h]
      exact ⟨by omega, by omega, fun _ => ih.2.2 (by omega)⟩
    · simp only [rn, if_neg h]
      exact ⟨by omega, by omega, fun h => h⟩
theorem plainRun_z (hw : FoldW Φ) (hc : FoldC Φ quires things ghosts letter page sizes cells kinds words quireOf placeOf) (q : Int) (hq : 0 ≤ q) (hq2 : q < fQ Φ) : ∀ (d m : Nat) (n : Int), q + n + d = 8 → 0 ≤ n → d < m → F_X6_plainRun_b2 quires things sizes cells kinds m (zI q) (zI n) = some (zI (rn Φ q d n))
  | 0, m + 1, n, hn, _, _ => by
    have hr := hw.1
    unfold F_X6_plainRun_b2
    simp (disch := omega) only [zl_0, zl_1, zl_2, zl_3, zl_4, zl_5, zl_6, zl_7, zl_8, zl_9, zl_10, zl_11, zl_12, zl_13, zl_14, zl_15, zl_16, zl_17, zl_18, zl_19, zl_20, zl_21, zl_22, zl_23, zl_24, zl_25, zl_26, zl_27, zl_28, zl_29, zl_30, zl_31, zl_32, zl_33, zl_34, zl_35, zl_36, zl_37, zl_38, zl_39, zl_40, zl_41, zl_42, zl_43, zl_44, zl_45, zl_46, zl_47, zl_48, zl_49, zl_50, zl_51, zl_52, zl_53, zl_54, zl_55, zl_56, zl_57, zl_58, zl_59, zl_60, zl_61, zl_62, zl_63, zl_64, zl_65, zl_66, zl_80, zl_97, zl_99, zl_103, zl_107, zl_112, zl_115, zl_100, zl_180, zl_210, zl_238, zl_255, zl_256, zl_400, zl_1000, zl_1024, zl_1260, zl_2000, zl_7140, zl_7200, zl_18414, zl_65536, zl_131072, zl_9999, zl_999, zI_add, zI_sub, zI_mul, zI_neg, zI_lt, zI_le, zI_eq, zI_clamp, ck_z, ckp_z, qb_z, qb_z0, Option.bind_some, if_pos, if_neg, reduceIte, reduceCtorEq, Bool.false_eq_true, Bool.true_eq_false]
    rfl
  | d + 1, m + 1, n, hn, hn0, hm => by
    have hr := hw.1
    have ih := plainRun_z hw hc q hq hq2 d m (n + 1) (by omega) (by omega) (by omega)
    have e1 := plain_z hw hc (q + n) (by omega) (by omega)
    have s0 := hc.2.1 q hq hq2
    have r0 := hw.2.1 q hq hq2
    rw [F_X6_plainRun_b2]
    by_cases h : q + n < fQ Φ
    · have s1 := hc.2.1 (q + n) (by omega) h
      have r1 := hw.2.1 (q + n) (by omega) h
      rw [if_pos h] at e1
      cases hp : plain Φ (q + n) with
      | false =>
        rw [hp] at e1
        rw [rn_f (fun x => by rw [hp] at x; cases x.2.2)]
        simp (disch := omega) only [zl_0, zl_1, zl_2, zl_3, zl_4, zl_5, zl_6, zl_7, zl_8, zl_9, zl_10, zl_11, zl_12, zl_13, zl_14, zl_15, zl_16, zl_17, zl_18, zl_19, zl_20, zl_21, zl_22, zl_23, zl_24, zl_25, zl_26, zl_27, zl_28, zl_29, zl_30, zl_31, zl_32, zl_33, zl_34, zl_35, zl_36, zl_37, zl_38, zl_39, zl_40, zl_41, zl_42, zl_43, zl_44, zl_45, zl_46, zl_47, zl_48, zl_49, zl_50, zl_51, zl_52, zl_53, zl_54, zl_55, zl_56, zl_57, zl_58, zl_59, zl_60, zl_61, zl_62, zl_63, zl_64, zl_65, zl_66, zl_80, zl_97, zl_99, zl_103, zl_107, zl_112, zl_115, zl_100, zl_180, zl_210, zl_238, zl_255, zl_256, zl_400, zl_1000, zl_1024, zl_1260, zl_2000, zl_7140, zl_7200, zl_18414, zl_65536, zl_131072, zl_9999, zl_999, zI_add, zI_sub, zI_mul, zI_neg, zI_lt, zI_le, zI_eq, zI_clamp, ck_z, ckp_z, qb_z, qb_z0, Option.bind_some, if_pos, if_neg, reduceIte, reduceCtorEq, Bool.false_eq_true, Bool.true_eq_false, e1]
      | true =>
        rw [hp] at e1
        by_cases hs : fS Φ (q + n) = fS Φ q
        · rw [rn_s ⟨h, hs, hp⟩]
          simp (disch := omega) only [zl_0, zl_1, zl_2, zl_3, zl_4, zl_5, zl_6, zl_7, zl_8, zl_9, zl_10, zl_11, zl_12, zl_13, zl_14, zl_15, zl_16, zl_17, zl_18, zl_19, zl_20, zl_21, zl_22, zl_23, zl_24, zl_25, zl_26, zl_27, zl_28, zl_29, zl_30, zl_31, zl_32, zl_33, zl_34, zl_35, zl_36, zl_37, zl_38, zl_39, zl_40, zl_41, zl_42, zl_43, zl_44, zl_45, zl_46, zl_47, zl_48, zl_49, zl_50, zl_51, zl_52, zl_53, zl_54, zl_55, zl_56, zl_57, zl_58, zl_59, zl_60, zl_61, zl_62, zl_63, zl_64, zl_65, zl_66, zl_80, zl_97, zl_99, zl_103, zl_107, zl_112, zl_115, zl_100, zl_180, zl_210, zl_238, zl_255, zl_256, zl_400, zl_1000, zl_1024, zl_1260, zl_2000, zl_7140, zl_7200, zl_18414, zl_65536, zl_131072, zl_9999, zl_999, zI_add, zI_sub, zI_mul, zI_neg, zI_lt, zI_le, zI_eq, zI_clamp, ck_z, ckp_z, qb_z, qb_z0, Option.bind_some, if_pos, if_neg, reduceIte, reduceCtorEq, Bool.false_eq_true, Bool.true_eq_false, e1, s0, s1]
          exact ih
        · rw [rn_f (fun x => hs x.2.1)]
          simp (disch := omega) only [zl_0, zl_1, zl_2, zl_3, zl_4, zl_5, zl_6, zl_7, zl_8, zl_9, zl_10, zl_11, zl_12, zl_13, zl_14, zl_15, zl_16, zl_17, zl_18, zl_19, zl_20, zl_21, zl_22, zl_23, zl_24, zl_25, zl_26, zl_27, zl_28, zl_29, zl_30, zl_31, zl_32, zl_33, zl_34, zl_35, zl_36, zl_37, zl_38, zl_39, zl_40, zl_41, zl_42, zl_43, zl_44, zl_45, zl_46, zl_47, zl_48, zl_49, zl_50, zl_51, zl_52, zl_53, zl_54, zl_55, zl_56, zl_57, zl_58, zl_59, zl_60, zl_61, zl_62, zl_63, zl_64, zl_65, zl_66, zl_80, zl_97, zl_99, zl_103, zl_107, zl_112, zl_115, zl_100, zl_180, zl_210, zl_238, zl_255, zl_256, zl_400, zl_1000, zl_1024, zl_1260, zl_2000, zl_7140, zl_7200, zl_18414, zl_65536, zl_131072, zl_9999, zl_999, zI_add, zI_sub, zI_mul, zI_neg, zI_lt, zI_le, zI_eq, zI_clamp, ck_z, ckp_z, qb_z, qb_z0, Option.bind_some, if_pos, if_neg, reduceIte, reduceCtorEq, Bool.false_eq_true, Bool.true_eq_false, e1, s0, s1]
    · rw [if_neg h] at e1
      rw [rn_f (fun x => h x.1)]
      simp (disch := omega) only [zl_0, zl_1, zl_2, zl_3, zl_4, zl_5, zl_6, zl_7, zl_8, zl_9, zl_10, zl_11, zl_12, zl_13, zl_14, zl_15, zl_16, zl_17, zl_18, zl_19, zl_20, zl_21, zl_22, zl_23, zl_24, zl_25, zl_26, zl_27, zl_28, zl_29, zl_30, zl_31, zl_32, zl_33, zl_34, zl_35, zl_36, zl_37, zl_38, zl_39, zl_40, zl_41, zl_42, zl_43, zl_44, zl_45, zl_46, zl_47, zl_48, zl_49, zl_50, zl_51, zl_52, zl_53, zl_54, zl_55, zl_56, zl_57, zl_58, zl_59, zl_60, zl_61, zl_62, zl_63, zl_64, zl_65, zl_66, zl_80, zl_97, zl_99, zl_103, zl_107, zl_112, zl_115, zl_100, zl_180, zl_210, zl_238, zl_255, zl_256, zl_400, zl_1000, zl_1024, zl_1260, zl_2000, zl_7140, zl_7200, zl_18414, zl_65536, zl_131072, zl_9999, zl_999, zI_add, zI_sub, zI_mul, zI_neg, zI_lt, zI_le, zI_eq, zI_clamp, ck_z, ckp_z, qb_z, qb_z0, Option.bind_some, if_pos, if_neg, reduceIte, reduceCtorEq, Bool.false_eq_true, Bool.true_eq_false, e1]
end WR

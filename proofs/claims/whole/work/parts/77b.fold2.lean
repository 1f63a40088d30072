def Cnc (Φ : Fold) (i : Int) : Prop := 0 ≤ i ∧ i + 1 < fT Φ ∧ fK Φ i = 2 ∧ fK Φ (i + 1) = 4
def Plc (Φ : Fold) (q p : Int) : Prop := 0 ≤ q ∧ q < fQ Φ ∧ 1 ≤ p ∧ p ≤ fS Φ q
def sco (Φ : Fold) (q p : Int) : Int := if 0 ≤ q ∧ q < fQ Φ ∧ 1 ≤ p ∧ p ≤ fS Φ q then (if fC Φ q p = -2 then 1 else if fK Φ (fC Φ q p) = 1 then 2 else if 0 ≤ fC Φ q p ∧ fC Φ q p + 1 < fT Φ ∧ fK Φ (fC Φ q p) = 2 ∧ fK Φ (fC Φ q p + 1) = 4 then 4 else 3) else 0
section FD
variable {Φ : Fold} {quires things ghosts letter page : Int32} {sizes cells kinds words quireOf placeOf : Nat → Int32} {f : Int} {mthings mquires firstLetter firstPage sizeOf placed kindOf catchOf isThere : Nat → Int32}
theorem isLoose_z (hw : FoldW Φ) (hc : FoldC Φ quires things ghosts letter page sizes cells kinds words quireOf placeOf) (i : Int) (h1 : -2147483648 ≤ i) (h2 : i < 2147483648) : F_X0_isLoose things kinds (zI i) = some (decide (0 ≤ i ∧ i < fT Φ ∧ ¬ (fK Φ i = 1 ∨ fK Φ i = 2))) := by
  obtain ⟨⟨rfl, rfl, rfl, rfl, rfl⟩, -, -, hk, -⟩ := hc
  obtain ⟨hr, -, -, hki, -⟩ := hw
  unfold F_X0_isLoose
  by_cases h : 0 ≤ i ∧ i < fT Φ
  · have h8 := hki i h.1 h.2
    simp (disch := omega) only [zl_0, zl_1, zl_2, zl_3, zl_4, zl_5, zl_6, zl_7, zl_8, zl_9, zl_10, zl_11, zl_12, zl_13, zl_14, zl_15, zl_16, zl_17, zl_18, zl_19, zl_20, zl_21, zl_22, zl_23, zl_24, zl_25, zl_26, zl_27, zl_28, zl_29, zl_30, zl_31, zl_32, zl_33, zl_34, zl_35, zl_36, zl_37, zl_38, zl_39, zl_40, zl_41, zl_42, zl_43, zl_44, zl_45, zl_46, zl_47, zl_48, zl_49, zl_50, zl_51, zl_52, zl_53, zl_54, zl_55, zl_56, zl_57, zl_58, zl_59, zl_60, zl_61, zl_62, zl_63, zl_64, zl_65, zl_66, zl_80, zl_97, zl_99, zl_103, zl_107, zl_112, zl_115, zl_100, zl_180, zl_210, zl_238, zl_255, zl_256, zl_400, zl_1000, zl_1024, zl_1260, zl_2000, zl_7140, zl_7200, zl_18414, zl_65536, zl_131072, zl_9999, zl_999, zI_add, zI_sub, zI_mul, zI_neg, zI_lt, zI_le, zI_eq, zI_clamp, ck_z, ckp_z, qb_z, qb_z0, Option.bind_some, hk, hanging_z]
    rw [if_neg (by omega), if_neg (by omega), if_neg (by omega)]
    by_cases hh : fK Φ i = 1 ∨ fK Φ i = 2
    · rw [decide_eq_true hh, decide_eq_false (fun c => c.2.2 hh)]; rfl
    · rw [decide_eq_false hh, decide_eq_true ⟨h.1, h.2, hh⟩]; rfl
  · rw [decide_eq_false (fun c => h ⟨c.1, c.2.1⟩)]
    simp (disch := omega) only [zl_0, zl_1, zl_2, zl_3, zl_4, zl_5, zl_6, zl_7, zl_8, zl_9, zl_10, zl_11, zl_12, zl_13, zl_14, zl_15, zl_16, zl_17, zl_18, zl_19, zl_20, zl_21, zl_22, zl_23, zl_24, zl_25, zl_26, zl_27, zl_28, zl_29, zl_30, zl_31, zl_32, zl_33, zl_34, zl_35, zl_36, zl_37, zl_38, zl_39, zl_40, zl_41, zl_42, zl_43, zl_44, zl_45, zl_46, zl_47, zl_48, zl_49, zl_50, zl_51, zl_52, zl_53, zl_54, zl_55, zl_56, zl_57, zl_58, zl_59, zl_60, zl_61, zl_62, zl_63, zl_64, zl_65, zl_66, zl_80, zl_97, zl_99, zl_103, zl_107, zl_112, zl_115, zl_100, zl_180, zl_210, zl_238, zl_255, zl_256, zl_400, zl_1000, zl_1024, zl_1260, zl_2000, zl_7140, zl_7200, zl_18414, zl_65536, zl_131072, zl_9999, zl_999, zI_add, zI_sub, zI_mul, zI_neg, zI_lt, zI_le, zI_eq, zI_clamp, ck_z, ckp_z, qb_z, qb_z0, Option.bind_some]
    (repeat' split) <;> first | rfl | (exfalso; omega)
theorem isCanc_z (hw : FoldW Φ) (hc : FoldC Φ quires things ghosts letter page sizes cells kinds words quireOf placeOf) (i : Int) (h1 : -2147483648 ≤ i) (h2 : i < 2147483647) : F_X0_isCancelled things kinds (zI i) = some (decide (0 ≤ i ∧ i + 1 < fT Φ ∧ fK Φ i = 2 ∧ fK Φ (i + 1) = 4)) := by
  unfold F_X0_isCancelled
  rw [hangs_z hw hc i h1 (by omega), Option.bind_some, zl_1, zI_add, isLoose_z hw hc (i + 1) (by omega) (by omega)]
  obtain ⟨⟨rfl, rfl, rfl, rfl, rfl⟩, -, -, hk, -⟩ := hc
  obtain ⟨hr, -, -, hki, -⟩ := hw
  by_cases h : 0 ≤ i ∧ i < fT Φ ∧ Hg (fK Φ i)
  · have h8 := hki i h.1 h.2.1
    rw [decide_eq_true h, if_neg (by decide)]
    simp (disch := omega) only [zl_0, zl_1, zl_2, zl_3, zl_4, zl_5, zl_6, zl_7, zl_8, zl_9, zl_10, zl_11, zl_12, zl_13, zl_14, zl_15, zl_16, zl_17, zl_18, zl_19, zl_20, zl_21, zl_22, zl_23, zl_24, zl_25, zl_26, zl_27, zl_28, zl_29, zl_30, zl_31, zl_32, zl_33, zl_34, zl_35, zl_36, zl_37, zl_38, zl_39, zl_40, zl_41, zl_42, zl_43, zl_44, zl_45, zl_46, zl_47, zl_48, zl_49, zl_50, zl_51, zl_52, zl_53, zl_54, zl_55, zl_56, zl_57, zl_58, zl_59, zl_60, zl_61, zl_62, zl_63, zl_64, zl_65, zl_66, zl_80, zl_97, zl_99, zl_103, zl_107, zl_112, zl_115, zl_100, zl_180, zl_210, zl_238, zl_255, zl_256, zl_400, zl_1000, zl_1024, zl_1260, zl_2000, zl_7140, zl_7200, zl_18414, zl_65536, zl_131072, zl_9999, zl_999, zI_add, zI_sub, zI_mul, zI_neg, zI_lt, zI_le, zI_eq, zI_clamp, ck_z, ckp_z, qb_z, qb_z0, Option.bind_some, hk]
    by_cases h3 : fK Φ i = 2
    · rw [if_pos h3]
      by_cases h4 : 0 ≤ i + 1 ∧ i + 1 < fT Φ ∧ ¬ (fK Φ (i + 1) = 1 ∨ fK Φ (i + 1) = 2)
      · have h9 := hki (i + 1) h4.1 h4.2.1
        rw [decide_eq_true h4]
        simp (disch := omega) only [zl_0, zl_1, zl_2, zl_3, zl_4, zl_5, zl_6, zl_7, zl_8, zl_9, zl_10, zl_11, zl_12, zl_13, zl_14, zl_15, zl_16, zl_17, zl_18, zl_19, zl_20, zl_21, zl_22, zl_23, zl_24, zl_25, zl_26, zl_27, zl_28, zl_29, zl_30, zl_31, zl_32, zl_33, zl_34, zl_35, zl_36, zl_37, zl_38, zl_39, zl_40, zl_41, zl_42, zl_43, zl_44, zl_45, zl_46, zl_47, zl_48, zl_49, zl_50, zl_51, zl_52, zl_53, zl_54, zl_55, zl_56, zl_57, zl_58, zl_59, zl_60, zl_61, zl_62, zl_63, zl_64, zl_65, zl_66, zl_80, zl_97, zl_99, zl_103, zl_107, zl_112, zl_115, zl_100, zl_180, zl_210, zl_238, zl_255, zl_256, zl_400, zl_1000, zl_1024, zl_1260, zl_2000, zl_7140, zl_7200, zl_18414, zl_65536, zl_131072, zl_9999, zl_999, zI_add, zI_sub, zI_mul, zI_neg, zI_lt, zI_le, zI_eq, zI_clamp, ck_z, ckp_z, qb_z, qb_z0, Option.bind_some, hk]
        rw [if_neg (by decide)]
        by_cases h5 : fK Φ (i + 1) = 4
        · rw [if_pos h5, decide_eq_true ⟨h.1, h4.2.1, h3, h5⟩]
        · rw [if_neg h5, decide_eq_false (fun c => h5 c.2.2.2)]
      · rw [decide_eq_false h4, if_pos (by decide), decide_eq_false (fun c => h4 ⟨by omega, c.2.1, by omega⟩)]
    · rw [if_neg h3, decide_eq_false (fun c => h3 c.2.2.1)]
  · rw [decide_eq_false h, if_pos (by decide), decide_eq_false (fun c => h ⟨c.1, by omega, Or.inr c.2.2.1⟩)]
theorem behind_z (hw : FoldW Φ) (hc : FoldC Φ quires things ghosts letter page sizes cells kinds words quireOf placeOf) (i : Int) (h1 : -2147483648 ≤ i) (h2 : i < 2147483646) : F_X0_behind things kinds (zI i) = some (zI (if 0 ≤ i ∧ i + 1 < fT Φ ∧ fK Φ i = 2 ∧ fK Φ (i + 1) = 4 then i + 2 else i + 1)) := by
  unfold F_X0_behind
  rw [isCanc_z hw hc i h1 (by omega), Option.bind_some]
  by_cases h : 0 ≤ i ∧ i + 1 < fT Φ ∧ fK Φ i = 2 ∧ fK Φ (i + 1) = 4
  · rw [decide_eq_true h, if_pos h, if_neg (by decide), zl_2, zI_add]
  · rw [decide_eq_false h, if_neg h, if_pos (by decide), zl_1, zI_add]
theorem stateOf_z (hw : FoldW Φ) (hc : FoldC Φ quires things ghosts letter page sizes cells kinds words quireOf placeOf) (s : Int) (h1 : 0 ≤ s) (h2 : s < 64) : F_X0_stateOf quires things sizes cells kinds (zI s) = some (zI (sco Φ (s / 8) (s % 8 + 1))) := by
  unfold F_X0_stateOf sco
  rw [zl_8, remz h1 (by omega) (by omega) (by omega), divz h1 (by omega) (by omega) (by omega), zl_1, zI_add, thingAt_z hw hc _ _ (by omega) (by omega) (by omega) (by omega), Option.bind_some]
  by_cases h : 0 ≤ s / 8 ∧ s / 8 < fQ Φ ∧ 1 ≤ s % 8 + 1 ∧ s % 8 + 1 ≤ fS Φ (s / 8)
  · rw [if_pos h, if_pos h]
    obtain ⟨hr, -, hce, hki, -⟩ := id hw
    have g := hce _ _ h.1 h.2.1 h.2.2.1 h.2.2.2
    rw [hangs_z hw hc _ (by omega) (by omega), isCanc_z hw hc _ (by omega) (by omega)]
    generalize fC Φ (s / 8) (s % 8 + 1) = c at *
    rcases g with g | ⟨g1, g2, g3, -⟩
    · subst g
      rw [decide_eq_false (by omega)]
      rfl
    · obtain ⟨-, -, -, hk, -⟩ := hc
      have g4 := hki _ g1 g2
      rw [decide_eq_true ⟨g1, g2, g3⟩]
      by_cases h5 : fK Φ c = 1
      · simp (disch := omega) only [zl_0, zl_1, zl_2, zl_3, zl_4, zl_5, zl_6, zl_7, zl_8, zl_9, zl_10, zl_11, zl_12, zl_13, zl_14, zl_15, zl_16, zl_17, zl_18, zl_19, zl_20, zl_21, zl_22, zl_23, zl_24, zl_25, zl_26, zl_27, zl_28, zl_29, zl_30, zl_31, zl_32, zl_33, zl_34, zl_35, zl_36, zl_37, zl_38, zl_39, zl_40, zl_41, zl_42, zl_43, zl_44, zl_45, zl_46, zl_47, zl_48, zl_49, zl_50, zl_51, zl_52, zl_53, zl_54, zl_55, zl_56, zl_57, zl_58, zl_59, zl_60, zl_61, zl_62, zl_63, zl_64, zl_65, zl_66, zl_80, zl_97, zl_99, zl_103, zl_107, zl_112, zl_115, zl_100, zl_180, zl_210, zl_238, zl_255, zl_256, zl_400, zl_1000, zl_1024, zl_1260, zl_2000, zl_7140, zl_7200, zl_18414, zl_65536, zl_131072, zl_9999, zl_999, zI_add, zI_sub, zI_mul, zI_neg, zI_lt, zI_le, zI_eq, zI_clamp, ck_z, ckp_z, qb_z, qb_z0, Option.bind_some, if_pos, if_neg, reduceIte, reduceCtorEq, Bool.false_eq_true, Bool.true_eq_false, hk]
      · by_cases h6 : 0 ≤ c ∧ c + 1 < fT Φ ∧ fK Φ c = 2 ∧ fK Φ (c + 1) = 4
        · rw [decide_eq_true h6, if_pos h6]
          simp (disch := omega) only [zl_0, zl_1, zl_2, zl_3, zl_4, zl_5, zl_6, zl_7, zl_8, zl_9, zl_10, zl_11, zl_12, zl_13, zl_14, zl_15, zl_16, zl_17, zl_18, zl_19, zl_20, zl_21, zl_22, zl_23, zl_24, zl_25, zl_26, zl_27, zl_28, zl_29, zl_30, zl_31, zl_32, zl_33, zl_34, zl_35, zl_36, zl_37, zl_38, zl_39, zl_40, zl_41, zl_42, zl_43, zl_44, zl_45, zl_46, zl_47, zl_48, zl_49, zl_50, zl_51, zl_52, zl_53, zl_54, zl_55, zl_56, zl_57, zl_58, zl_59, zl_60, zl_61, zl_62, zl_63, zl_64, zl_65, zl_66, zl_80, zl_97, zl_99, zl_103, zl_107, zl_112, zl_115, zl_100, zl_180, zl_210, zl_238, zl_255, zl_256, zl_400, zl_1000, zl_1024, zl_1260, zl_2000, zl_7140, zl_7200, zl_18414, zl_65536, zl_131072, zl_9999, zl_999, zI_add, zI_sub, zI_mul, zI_neg, zI_lt, zI_le, zI_eq, zI_clamp, ck_z, ckp_z, qb_z, qb_z0, Option.bind_some, if_pos, if_neg, reduceIte, reduceCtorEq, Bool.false_eq_true, Bool.true_eq_false, hk]
        · rw [decide_eq_false h6, if_neg h6]
          simp (disch := omega) only [zl_0, zl_1, zl_2, zl_3, zl_4, zl_5, zl_6, zl_7, zl_8, zl_9, zl_10, zl_11, zl_12, zl_13, zl_14, zl_15, zl_16, zl_17, zl_18, zl_19, zl_20, zl_21, zl_22, zl_23, zl_24, zl_25, zl_26, zl_27, zl_28, zl_29, zl_30, zl_31, zl_32, zl_33, zl_34, zl_35, zl_36, zl_37, zl_38, zl_39, zl_40, zl_41, zl_42, zl_43, zl_44, zl_45, zl_46, zl_47, zl_48, zl_49, zl_50, zl_51, zl_52, zl_53, zl_54, zl_55, zl_56, zl_57, zl_58, zl_59, zl_60, zl_61, zl_62, zl_63, zl_64, zl_65, zl_66, zl_80, zl_97, zl_99, zl_103, zl_107, zl_112, zl_115, zl_100, zl_180, zl_210, zl_238, zl_255, zl_256, zl_400, zl_1000, zl_1024, zl_1260, zl_2000, zl_7140, zl_7200, zl_18414, zl_65536, zl_131072, zl_9999, zl_999, zI_add, zI_sub, zI_mul, zI_neg, zI_lt, zI_le, zI_eq, zI_clamp, ck_z, ckp_z, qb_z, qb_z0, Option.bind_some, if_pos, if_neg, reduceIte, reduceCtorEq, Bool.false_eq_true, Bool.true_eq_false, hk]
  · rw [if_neg h, if_neg h]
    rfl
theorem at_z (f q p : Int) : F_X8_at (zI f) (zI q) (zI p) = some (zI (64 * f + 8 * q + p - 1)) := by
  unfold F_X8_at
  simp (disch := omega) only [zl_0, zl_1, zl_2, zl_3, zl_4, zl_5, zl_6, zl_7, zl_8, zl_9, zl_10, zl_11, zl_12, zl_13, zl_14, zl_15, zl_16, zl_17, zl_18, zl_19, zl_20, zl_21, zl_22, zl_23, zl_24, zl_25, zl_26, zl_27, zl_28, zl_29, zl_30, zl_31, zl_32, zl_33, zl_34, zl_35, zl_36, zl_37, zl_38, zl_39, zl_40, zl_41, zl_42, zl_43, zl_44, zl_45, zl_46, zl_47, zl_48, zl_49, zl_50, zl_51, zl_52, zl_53, zl_54, zl_55, zl_56, zl_57, zl_58, zl_59, zl_60, zl_61, zl_62, zl_63, zl_64, zl_65, zl_66, zl_80, zl_97, zl_99, zl_103, zl_107, zl_112, zl_115, zl_100, zl_180, zl_210, zl_238, zl_255, zl_256, zl_400, zl_1000, zl_1024, zl_1260, zl_2000, zl_7140, zl_7200, zl_18414, zl_65536, zl_131072, zl_9999, zl_999, zI_add, zI_sub, zI_mul, zI_neg, zI_lt, zI_le, zI_eq, zI_clamp, ck_z, ckp_z, qb_z, qb_z0, Option.bind_some]
theorem isQuireM_z (hm : FoldM f Φ mthings mquires firstLetter firstPage sizeOf placed kindOf catchOf) (hw : FoldW Φ) (hf : 0 ≤ f) (hf2 : f < 5) (ht : isThere f.toNat = 1) (q : Int) (h1 : -2147483648 ≤ q) (h2 : q < 2147483648) : F_X8_isQuire_ isThere mquires (zI f) (zI q) = some (decide (0 ≤ q ∧ q < fQ Φ)) := by
  obtain ⟨⟨hQ, -⟩, -⟩ := hm
  obtain ⟨hr, -⟩ := hw
  unfold F_X8_isQuire_
  simp (disch := omega) only [zl_0, zl_1, zl_2, zl_3, zl_4, zl_5, zl_6, zl_7, zl_8, zl_9, zl_10, zl_11, zl_12, zl_13, zl_14, zl_15, zl_16, zl_17, zl_18, zl_19, zl_20, zl_21, zl_22, zl_23, zl_24, zl_25, zl_26, zl_27, zl_28, zl_29, zl_30, zl_31, zl_32, zl_33, zl_34, zl_35, zl_36, zl_37, zl_38, zl_39, zl_40, zl_41, zl_42, zl_43, zl_44, zl_45, zl_46, zl_47, zl_48, zl_49, zl_50, zl_51, zl_52, zl_53, zl_54, zl_55, zl_56, zl_57, zl_58, zl_59, zl_60, zl_61, zl_62, zl_63, zl_64, zl_65, zl_66, zl_80, zl_97, zl_99, zl_103, zl_107, zl_112, zl_115, zl_100, zl_180, zl_210, zl_238, zl_255, zl_256, zl_400, zl_1000, zl_1024, zl_1260, zl_2000, zl_7140, zl_7200, zl_18414, zl_65536, zl_131072, zl_9999, zl_999, zI_add, zI_sub, zI_mul, zI_neg, zI_lt, zI_le, zI_eq, zI_clamp, ck_z, ckp_z, qb_z, qb_z0, Option.bind_some, ht, hQ]
  by_cases h : 0 ≤ q ∧ q < fQ Φ
  · rw [decide_eq_true h]; (repeat' split) <;> first | rfl | contradiction | (exfalso; omega)
  · rw [decide_eq_false h]; (repeat' split) <;> first | rfl | contradiction | (exfalso; omega)
theorem isPlace_z (hm : FoldM f Φ mthings mquires firstLetter firstPage sizeOf placed kindOf catchOf) (hw : FoldW Φ) (hf : 0 ≤ f) (hf2 : f < 5) (ht : isThere f.toNat = 1) (q p : Int) (h1 : -2147483648 ≤ q) (h2 : q < 2147483648) (h3 : -2147483648 ≤ p) (h4 : p < 2147483648) : F_X8_isPlace isThere mquires sizeOf (zI f) (zI q) (zI p) = some (decide (0 ≤ q ∧ q < fQ Φ ∧ 1 ≤ p ∧ p ≤ fS Φ q)) := by
  unfold F_X8_isPlace
  rw [isQuireM_z hm hw hf hf2 ht q h1 h2, Option.bind_some]
  obtain ⟨-, hs, -⟩ := hm
  obtain ⟨hr, hsz, -⟩ := hw
  by_cases hq : 0 ≤ q ∧ q < fQ Φ
  · have h8 := hsz q hq.1 hq.2
    rw [decide_eq_true hq]
    simp (disch := omega) only [zl_0, zl_1, zl_2, zl_3, zl_4, zl_5, zl_6, zl_7, zl_8, zl_9, zl_10, zl_11, zl_12, zl_13, zl_14, zl_15, zl_16, zl_17, zl_18, zl_19, zl_20, zl_21, zl_22, zl_23, zl_24, zl_25, zl_26, zl_27, zl_28, zl_29, zl_30, zl_31, zl_32, zl_33, zl_34, zl_35, zl_36, zl_37, zl_38, zl_39, zl_40, zl_41, zl_42, zl_43, zl_44, zl_45, zl_46, zl_47, zl_48, zl_49, zl_50, zl_51, zl_52, zl_53, zl_54, zl_55, zl_56, zl_57, zl_58, zl_59, zl_60, zl_61, zl_62, zl_63, zl_64, zl_65, zl_66, zl_80, zl_97, zl_99, zl_103, zl_107, zl_112, zl_115, zl_100, zl_180, zl_210, zl_238, zl_255, zl_256, zl_400, zl_1000, zl_1024, zl_1260, zl_2000, zl_7140, zl_7200, zl_18414, zl_65536, zl_131072, zl_9999, zl_999, zI_add, zI_sub, zI_mul, zI_neg, zI_lt, zI_le, zI_eq, zI_clamp, ck_z, ckp_z, qb_z, qb_z0, Option.bind_some, hs]
    by_cases h : 0 ≤ q ∧ q < fQ Φ ∧ 1 ≤ p ∧ p ≤ fS Φ q
    · rw [decide_eq_true h]; (repeat' split) <;> first | rfl | contradiction | (exfalso; omega)
    · rw [decide_eq_false h]; (repeat' split) <;> first | rfl | contradiction | (exfalso; omega)
  · rw [decide_eq_false hq, decide_eq_false (by omega)]
    rfl
theorem placesAhead_z (hw : FoldW Φ) (hc : FoldC Φ quires things ghosts letter page sizes cells kinds words quireOf placeOf) (q : Nat) (hq : (q : Int) ≤ fQ Φ) : ∀ (d n k : Nat), k + d = q → d < n → F_X0_placesAhead_b4 quires sizes n (zI q) (zI (fA Φ k)) (zI k) = some (zI (fA Φ q))
  | 0, n + 1, k, hk, _ => by
    obtain ⟨⟨rfl, rfl, rfl, rfl, rfl⟩, hs, -⟩ := hc
    obtain ⟨hr, hsz, -⟩ := hw
    unfold F_X0_placesAhead_b4
    simp (disch := omega) only [zl_0, zl_1, zl_2, zl_3, zl_4, zl_5, zl_6, zl_7, zl_8, zl_9, zl_10, zl_11, zl_12, zl_13, zl_14, zl_15, zl_16, zl_17, zl_18, zl_19, zl_20, zl_21, zl_22, zl_23, zl_24, zl_25, zl_26, zl_27, zl_28, zl_29, zl_30, zl_31, zl_32, zl_33, zl_34, zl_35, zl_36, zl_37, zl_38, zl_39, zl_40, zl_41, zl_42, zl_43, zl_44, zl_45, zl_46, zl_47, zl_48, zl_49, zl_50, zl_51, zl_52, zl_53, zl_54, zl_55, zl_56, zl_57, zl_58, zl_59, zl_60, zl_61, zl_62, zl_63, zl_64, zl_65, zl_66, zl_80, zl_97, zl_99, zl_103, zl_107, zl_112, zl_115, zl_100, zl_180, zl_210, zl_238, zl_255, zl_256, zl_400, zl_1000, zl_1024, zl_1260, zl_2000, zl_7140, zl_7200, zl_18414, zl_65536, zl_131072, zl_9999, zl_999, zI_add, zI_sub, zI_mul, zI_neg, zI_lt, zI_le, zI_eq, zI_clamp, ck_z, ckp_z, qb_z, qb_z0, Option.bind_some]
    rw [if_pos (by omega), show k = q by omega]
  | d + 1, n + 1, k, hk, hn => by
    have ih := placesAhead_z hw hc q hq d n (k + 1) (by omega) (by omega)
    obtain ⟨⟨rfl, rfl, rfl, rfl, rfl⟩, hs, -⟩ := hc
    obtain ⟨hr, hsz, -⟩ := hw
    have h8 := hs k (by omega) (by omega)
    unfold F_X0_placesAhead_b4
    simp (disch := omega) only [zl_0, zl_1, zl_2, zl_3, zl_4, zl_5, zl_6, zl_7, zl_8, zl_9, zl_10, zl_11, zl_12, zl_13, zl_14, zl_15, zl_16, zl_17, zl_18, zl_19, zl_20, zl_21, zl_22, zl_23, zl_24, zl_25, zl_26, zl_27, zl_28, zl_29, zl_30, zl_31, zl_32, zl_33, zl_34, zl_35, zl_36, zl_37, zl_38, zl_39, zl_40, zl_41, zl_42, zl_43, zl_44, zl_45, zl_46, zl_47, zl_48, zl_49, zl_50, zl_51, zl_52, zl_53, zl_54, zl_55, zl_56, zl_57, zl_58, zl_59, zl_60, zl_61, zl_62, zl_63, zl_64, zl_65, zl_66, zl_80, zl_97, zl_99, zl_103, zl_107, zl_112, zl_115, zl_100, zl_180, zl_210, zl_238, zl_255, zl_256, zl_400, zl_1000, zl_1024, zl_1260, zl_2000, zl_7140, zl_7200, zl_18414, zl_65536, zl_131072, zl_9999, zl_999, zI_add, zI_sub, zI_mul, zI_neg, zI_lt, zI_le, zI_eq, zI_clamp, ck_z, ckp_z, qb_z, qb_z0, Option.bind_some, h8]
    rw [if_neg (by omega), if_neg (by omega), if_neg (by omega)]
    exact ih
theorem placesAheadM_z (hw : FoldW Φ) (hm : FoldM f Φ mthings mquires firstLetter firstPage sizeOf placed kindOf catchOf) (hf : 0 ≤ f) (hf2 : f < 5) (q : Nat) (hq : (q : Int) ≤ fQ Φ) (p : Int) : ∀ (d n k : Nat), k + d = q → d < n → F_X8_placesAhead_b8 sizeOf n (zI f) (zI q) (zI (fA Φ k + p)) (zI k) = some (zI (fA Φ q + p))
  | 0, n + 1, k, hk, _ => by
    obtain ⟨hr, hsz, -⟩ := hw
    unfold F_X8_placesAhead_b8
    simp (disch := omega) only [zl_0, zl_1, zl_2, zl_3, zl_4, zl_5, zl_6, zl_7, zl_8, zl_9, zl_10, zl_11, zl_12, zl_13, zl_14, zl_15, zl_16, zl_17, zl_18, zl_19, zl_20, zl_21, zl_22, zl_23, zl_24, zl_25, zl_26, zl_27, zl_28, zl_29, zl_30, zl_31, zl_32, zl_33, zl_34, zl_35, zl_36, zl_37, zl_38, zl_39, zl_40, zl_41, zl_42, zl_43, zl_44, zl_45, zl_46, zl_47, zl_48, zl_49, zl_50, zl_51, zl_52, zl_53, zl_54, zl_55, zl_56, zl_57, zl_58, zl_59, zl_60, zl_61, zl_62, zl_63, zl_64, zl_65, zl_66, zl_80, zl_97, zl_99, zl_103, zl_107, zl_112, zl_115, zl_100, zl_180, zl_210, zl_238, zl_255, zl_256, zl_400, zl_1000, zl_1024, zl_1260, zl_2000, zl_7140, zl_7200, zl_18414, zl_65536, zl_131072, zl_9999, zl_999, zI_add, zI_sub, zI_mul, zI_neg, zI_lt, zI_le, zI_eq, zI_clamp, ck_z, ckp_z, qb_z, qb_z0, Option.bind_some]
    rw [if_pos (by omega), show k = q by omega]
  | d + 1, n + 1, k, hk, hn => by
    have ih := placesAheadM_z hw hm hf hf2 q hq p d n (k + 1) (by omega) (by omega)
    obtain ⟨-, hs, -⟩ := hm
    obtain ⟨hr, hsz, -⟩ := hw
    have h8 := hs k (by omega) (by omega)
    unfold F_X8_placesAhead_b8
    simp (disch := omega) only [zl_0, zl_1, zl_2, zl_3, zl_4, zl_5, zl_6, zl_7, zl_8, zl_9, zl_10, zl_11, zl_12, zl_13, zl_14, zl_15, zl_16, zl_17, zl_18, zl_19, zl_20, zl_21, zl_22, zl_23, zl_24, zl_25, zl_26, zl_27, zl_28, zl_29, zl_30, zl_31, zl_32, zl_33, zl_34, zl_35, zl_36, zl_37, zl_38, zl_39, zl_40, zl_41, zl_42, zl_43, zl_44, zl_45, zl_46, zl_47, zl_48, zl_49, zl_50, zl_51, zl_52, zl_53, zl_54, zl_55, zl_56, zl_57, zl_58, zl_59, zl_60, zl_61, zl_62, zl_63, zl_64, zl_65, zl_66, zl_80, zl_97, zl_99, zl_103, zl_107, zl_112, zl_115, zl_100, zl_180, zl_210, zl_238, zl_255, zl_256, zl_400, zl_1000, zl_1024, zl_1260, zl_2000, zl_7140, zl_7200, zl_18414, zl_65536, zl_131072, zl_9999, zl_999, zI_add, zI_sub, zI_mul, zI_neg, zI_lt, zI_le, zI_eq, zI_clamp, ck_z, ckp_z, qb_z, qb_z0, Option.bind_some, h8]
    rw [if_neg (by omega), show fA Φ k + p + fS Φ k = fA Φ (k + 1) + p by simp only [fA]; omega]
    exact ih
end FD

section FD
variable {Φ Ψ : Fold} {quires things ghosts letter page : Int32} {sizes cells kinds words quireOf placeOf : Nat → Int32} {quires2 things2 ghosts2 letter2 page2 : Int32} {sizes2 cells2 kinds2 words2 quireOf2 placeOf2 : Nat → Int32} {f g : Int} {mthings mquires firstLetter firstPage sizeOf placed kindOf catchOf isThere : Nat → Int32}
theorem op_where1 (hw : FoldW Φ) (hc : FoldC Φ quires things ghosts letter page sizes cells kinds words quireOf placeOf) (hm : FoldM 0 Φ mthings mquires firstLetter firstPage sizeOf placed kindOf catchOf) (ht : isThere 0 = 1) (told v1 v2 v3 : Int32) : ∃ c1 c2, F_X7_where quires things page sizes cells kinds words v1 v2 v3 = some c1 ∧ F_X8_where told isThere mquires firstPage sizeOf placed catchOf v1 v2 v3 = some c2 ∧ c1 = c2.1 := by
  obtain ⟨q, h1, h2, rfl⟩ := zI_of v1
  obtain ⟨p, h3, h4, rfl⟩ := zI_of v2
  obtain ⟨w, h5, h6, rfl⟩ := zI_of v3
  have hr := hw.1
  unfold F_X7_where F_X8_where
  rw [hasPlace_z hw hc q p h1 h2 h3 h4, zl_0, isPlace_z hm hw (by omega) (by omega) ht q p h1 h2 h3 h4, Option.bind_some, Option.bind_some]
  by_cases h : 0 ≤ q ∧ q < fQ Φ ∧ 1 ≤ p ∧ p ≤ fS Φ q
  · have hS := hw.2.1 q h.1 h.2.1
    rw [decide_eq_true h]
    by_cases w0 : w = 0
    · subst w0
      have e2 := placesAhead_z hw hc q.toNat (by omega) q.toNat FU 0 (by omega) (by unfold FU; omega)
      have e3 := placesAheadM_z hw hm (by omega) (by omega) q.toNat (by omega) (p - 1) q.toNat FU 0 (by omega) (by unfold FU; omega)
      rw [Int.toNat_of_nonneg (by omega)] at e2 e3
      have e5 : F_X0_placesAhead quires sizes (zI q) = some (zI (fA Φ q.toNat)) := e2
      have e6 : F_X8_placesAhead sizeOf (zI 0) (zI q) (zI p) = some (zI (fA Φ q.toNat + (p - 1))) := by
        unfold F_X8_placesAhead
        simp (disch := omega) only [zl_0, zl_1, zl_2, zl_3, zl_4, zl_5, zl_6, zl_7, zl_8, zl_9, zl_10, zl_11, zl_12, zl_13, zl_14, zl_15, zl_16, zl_17, zl_18, zl_19, zl_20, zl_21, zl_22, zl_23, zl_24, zl_25, zl_26, zl_27, zl_28, zl_29, zl_30, zl_31, zl_32, zl_33, zl_34, zl_35, zl_36, zl_37, zl_38, zl_39, zl_40, zl_41, zl_42, zl_43, zl_44, zl_45, zl_46, zl_47, zl_48, zl_49, zl_50, zl_51, zl_52, zl_53, zl_54, zl_55, zl_56, zl_57, zl_58, zl_59, zl_60, zl_61, zl_62, zl_63, zl_64, zl_65, zl_66, zl_80, zl_97, zl_99, zl_103, zl_107, zl_112, zl_115, zl_100, zl_180, zl_210, zl_238, zl_255, zl_256, zl_400, zl_1000, zl_1024, zl_1260, zl_2000, zl_7140, zl_7200, zl_18414, zl_65536, zl_131072, zl_9999, zl_999, zI_add, zI_sub, zI_mul, zI_neg, zI_lt, zI_le, zI_eq, zI_clamp, ck_z, ckp_z, qb_z, qb_z0, Option.bind_some]
        simp only [fA, Int.zero_add] at e3
        exact e3
      have t0 : firstPage 0 = zI (fP Φ) := hm.1.2.2.2
      unfold F_X0_pageAt
      rw [e5, e6]
      obtain ⟨⟨rfl, rfl, rfl, rfl, rfl⟩, -⟩ := hc
      by_cases hp : fP Φ = 0
      · simp (disch := omega) only [zl_0, zl_1, zl_2, zl_3, zl_4, zl_5, zl_6, zl_7, zl_8, zl_9, zl_10, zl_11, zl_12, zl_13, zl_14, zl_15, zl_16, zl_17, zl_18, zl_19, zl_20, zl_21, zl_22, zl_23, zl_24, zl_25, zl_26, zl_27, zl_28, zl_29, zl_30, zl_31, zl_32, zl_33, zl_34, zl_35, zl_36, zl_37, zl_38, zl_39, zl_40, zl_41, zl_42, zl_43, zl_44, zl_45, zl_46, zl_47, zl_48, zl_49, zl_50, zl_51, zl_52, zl_53, zl_54, zl_55, zl_56, zl_57, zl_58, zl_59, zl_60, zl_61, zl_62, zl_63, zl_64, zl_65, zl_66, zl_80, zl_97, zl_99, zl_103, zl_107, zl_112, zl_115, zl_100, zl_180, zl_210, zl_238, zl_255, zl_256, zl_400, zl_1000, zl_1024, zl_1260, zl_2000, zl_7140, zl_7200, zl_18414, zl_65536, zl_131072, zl_9999, zl_999, zI_add, zI_sub, zI_mul, zI_neg, zI_lt, zI_le, zI_eq, zI_clamp, ck_z, ckp_z, qb_z, qb_z0, Option.bind_some, if_pos, if_neg, reduceIte, reduceCtorEq, Bool.false_eq_true, Bool.true_eq_false, t0, Int.toNat_zero]
        exact ⟨_, _, rfl, rfl, rfl⟩
      · simp (disch := omega) only [zl_0, zl_1, zl_2, zl_3, zl_4, zl_5, zl_6, zl_7, zl_8, zl_9, zl_10, zl_11, zl_12, zl_13, zl_14, zl_15, zl_16, zl_17, zl_18, zl_19, zl_20, zl_21, zl_22, zl_23, zl_24, zl_25, zl_26, zl_27, zl_28, zl_29, zl_30, zl_31, zl_32, zl_33, zl_34, zl_35, zl_36, zl_37, zl_38, zl_39, zl_40, zl_41, zl_42, zl_43, zl_44, zl_45, zl_46, zl_47, zl_48, zl_49, zl_50, zl_51, zl_52, zl_53, zl_54, zl_55, zl_56, zl_57, zl_58, zl_59, zl_60, zl_61, zl_62, zl_63, zl_64, zl_65, zl_66, zl_80, zl_97, zl_99, zl_103, zl_107, zl_112, zl_115, zl_100, zl_180, zl_210, zl_238, zl_255, zl_256, zl_400, zl_1000, zl_1024, zl_1260, zl_2000, zl_7140, zl_7200, zl_18414, zl_65536, zl_131072, zl_9999, zl_999, zI_add, zI_sub, zI_mul, zI_neg, zI_lt, zI_le, zI_eq, zI_clamp, ck_z, ckp_z, qb_z, qb_z0, Option.bind_some, if_pos, if_neg, reduceIte, reduceCtorEq, Bool.false_eq_true, Bool.true_eq_false, t0, Int.toNat_zero]
        refine ⟨_, _, rfl, rfl, ?_⟩
        show zI _ = zI _
        congr 1
        omega
    · by_cases w1 : w = 1
      · subst w1
        unfold F_X0_wordBefore F_X8_where_b71
        have key (x : Int) (hx : x = -2 ∨ (0 ≤ x ∧ x < fT Φ ∧ Hg (fK Φ x))) : F_X0_wordBefore_b45 things kinds words (zI x) = some (zI (if x = -2 then 0 else fW Φ x)) ∧ F_X8_where_b114 catchOf (zI 0) (zI x) = some (zI (if x = -2 then 0 else fW Φ x), zI 0) := by
          unfold F_X0_wordBefore_b45 F_X8_where_b114
          rw [hangs_z hw hc x (by omega) (by omega)]
          rcases hx with hx | ⟨hx1, hx2, hx3⟩
          · subst hx
            rw [decide_eq_false (by omega)]
            simp (disch := omega) only [zl_0, zl_1, zl_2, zl_3, zl_4, zl_5, zl_6, zl_7, zl_8, zl_9, zl_10, zl_11, zl_12, zl_13, zl_14, zl_15, zl_16, zl_17, zl_18, zl_19, zl_20, zl_21, zl_22, zl_23, zl_24, zl_25, zl_26, zl_27, zl_28, zl_29, zl_30, zl_31, zl_32, zl_33, zl_34, zl_35, zl_36, zl_37, zl_38, zl_39, zl_40, zl_41, zl_42, zl_43, zl_44, zl_45, zl_46, zl_47, zl_48, zl_49, zl_50, zl_51, zl_52, zl_53, zl_54, zl_55, zl_56, zl_57, zl_58, zl_59, zl_60, zl_61, zl_62, zl_63, zl_64, zl_65, zl_66, zl_80, zl_97, zl_99, zl_103, zl_107, zl_112, zl_115, zl_100, zl_180, zl_210, zl_238, zl_255, zl_256, zl_400, zl_1000, zl_1024, zl_1260, zl_2000, zl_7140, zl_7200, zl_18414, zl_65536, zl_131072, zl_9999, zl_999, zI_add, zI_sub, zI_mul, zI_neg, zI_lt, zI_le, zI_eq, zI_clamp, ck_z, ckp_z, qb_z, qb_z0, Option.bind_some, if_pos, if_neg, reduceIte, reduceCtorEq, Bool.false_eq_true, Bool.true_eq_false]
            exact ⟨trivial, trivial⟩
          · have w1 := (hc.2.2.2.2 x hx1 hx2 hx3).1
            have w2 := hm.2.2.2.2 x hx1 hx2 hx3
            rw [show 30 * 0 + x = x by omega] at w2
            rw [decide_eq_true ⟨hx1, hx2, hx3⟩]
            simp (disch := omega) only [zl_0, zl_1, zl_2, zl_3, zl_4, zl_5, zl_6, zl_7, zl_8, zl_9, zl_10, zl_11, zl_12, zl_13, zl_14, zl_15, zl_16, zl_17, zl_18, zl_19, zl_20, zl_21, zl_22, zl_23, zl_24, zl_25, zl_26, zl_27, zl_28, zl_29, zl_30, zl_31, zl_32, zl_33, zl_34, zl_35, zl_36, zl_37, zl_38, zl_39, zl_40, zl_41, zl_42, zl_43, zl_44, zl_45, zl_46, zl_47, zl_48, zl_49, zl_50, zl_51, zl_52, zl_53, zl_54, zl_55, zl_56, zl_57, zl_58, zl_59, zl_60, zl_61, zl_62, zl_63, zl_64, zl_65, zl_66, zl_80, zl_97, zl_99, zl_103, zl_107, zl_112, zl_115, zl_100, zl_180, zl_210, zl_238, zl_255, zl_256, zl_400, zl_1000, zl_1024, zl_1260, zl_2000, zl_7140, zl_7200, zl_18414, zl_65536, zl_131072, zl_9999, zl_999, zI_add, zI_sub, zI_mul, zI_neg, zI_lt, zI_le, zI_eq, zI_clamp, ck_z, ckp_z, qb_z, qb_z0, Option.bind_some, if_pos, if_neg, reduceIte, reduceCtorEq, Bool.false_eq_true, Bool.true_eq_false, w1, w2]
            exact ⟨trivial, trivial⟩
        by_cases hp1 : p ≤ 1
        · by_cases hq0 : q = 0
          · have e1 : F_X0_hasQuire quires (zI (q - 1)) = some false := by
              obtain ⟨⟨rfl, rfl, rfl, rfl, rfl⟩, -⟩ := hc
              rw [hasQuire_z _ _ (by omega) (by omega) (by omega) (by omega), decide_eq_false (by omega)]
            have e2 : F_X0_wordBefore_b45 things kinds words (zI (-1)) = some (zI 0) := by
              unfold F_X0_wordBefore_b45
              rw [hangs_z hw hc (-1) (by omega) (by omega), decide_eq_false (by omega)]
              rfl
            simp (disch := omega) only [zl_0, zl_1, zl_2, zl_3, zl_4, zl_5, zl_6, zl_7, zl_8, zl_9, zl_10, zl_11, zl_12, zl_13, zl_14, zl_15, zl_16, zl_17, zl_18, zl_19, zl_20, zl_21, zl_22, zl_23, zl_24, zl_25, zl_26, zl_27, zl_28, zl_29, zl_30, zl_31, zl_32, zl_33, zl_34, zl_35, zl_36, zl_37, zl_38, zl_39, zl_40, zl_41, zl_42, zl_43, zl_44, zl_45, zl_46, zl_47, zl_48, zl_49, zl_50, zl_51, zl_52, zl_53, zl_54, zl_55, zl_56, zl_57, zl_58, zl_59, zl_60, zl_61, zl_62, zl_63, zl_64, zl_65, zl_66, zl_80, zl_97, zl_99, zl_103, zl_107, zl_112, zl_115, zl_100, zl_180, zl_210, zl_238, zl_255, zl_256, zl_400, zl_1000, zl_1024, zl_1260, zl_2000, zl_7140, zl_7200, zl_18414, zl_65536, zl_131072, zl_9999, zl_999, zI_add, zI_sub, zI_mul, zI_neg, zI_lt, zI_le, zI_eq, zI_clamp, ck_z, ckp_z, qb_z, qb_z0, Option.bind_some, if_pos, if_neg, reduceIte, reduceCtorEq, Bool.false_eq_true, Bool.true_eq_false, e1, e2]
            exact ⟨_, _, rfl, rfl, rfl⟩
          · have e1 : F_X0_hasQuire quires (zI (q - 1)) = some true := by
              obtain ⟨⟨rfl, rfl, rfl, rfl, rfl⟩, -⟩ := hc
              rw [hasQuire_z _ _ (by omega) (by omega) (by omega) (by omega), decide_eq_true (by omega)]
            have hS1 := hw.2.1 (q - 1) (by omega) (by omega)
            have e2 := hc.2.1 (q - 1) (by omega) (by omega)
            have e3 := hm.2.1 (q - 1) (by omega) (by omega)
            have e4 := hm.2.2.1 (q - 1) (fS Φ (q - 1)) (by omega) (by omega) (by omega) (by omega)
            have e5 := thingAt_z hw hc (q - 1) (fS Φ (q - 1)) (by omega) (by omega) (by omega) (by omega)
            rw [if_pos (by omega)] at e5
            rw [show 8 * 0 + (q - 1) = q - 1 by omega] at e3
            have hx := hw.2.2.1 (q - 1) (fS Φ (q - 1)) (by omega) (by omega) (by omega) (by omega)
            obtain ⟨k1, k2⟩ := key _ (by rcases hx with hx | hx; exact Or.inl hx; exact Or.inr ⟨hx.1, hx.2.1, hx.2.2.1⟩)
            simp (disch := omega) only [zl_0, zl_1, zl_2, zl_3, zl_4, zl_5, zl_6, zl_7, zl_8, zl_9, zl_10, zl_11, zl_12, zl_13, zl_14, zl_15, zl_16, zl_17, zl_18, zl_19, zl_20, zl_21, zl_22, zl_23, zl_24, zl_25, zl_26, zl_27, zl_28, zl_29, zl_30, zl_31, zl_32, zl_33, zl_34, zl_35, zl_36, zl_37, zl_38, zl_39, zl_40, zl_41, zl_42, zl_43, zl_44, zl_45, zl_46, zl_47, zl_48, zl_49, zl_50, zl_51, zl_52, zl_53, zl_54, zl_55, zl_56, zl_57, zl_58, zl_59, zl_60, zl_61, zl_62, zl_63, zl_64, zl_65, zl_66, zl_80, zl_97, zl_99, zl_103, zl_107, zl_112, zl_115, zl_100, zl_180, zl_210, zl_238, zl_255, zl_256, zl_400, zl_1000, zl_1024, zl_1260, zl_2000, zl_7140, zl_7200, zl_18414, zl_65536, zl_131072, zl_9999, zl_999, zI_add, zI_sub, zI_mul, zI_neg, zI_lt, zI_le, zI_eq, zI_clamp, ck_z, ckp_z, qb_z, qb_z0, Option.bind_some, if_pos, if_neg, reduceIte, reduceCtorEq, Bool.false_eq_true, Bool.true_eq_false, e1, e2, e3, e4, e5, at_z, k1, k2]
            exact ⟨_, _, rfl, rfl, rfl⟩
        · have e4 := hm.2.2.1 q (p - 1) (by omega) (by omega) (by omega) (by omega)
          have e5 := thingAt_z hw hc q (p - 1) (by omega) (by omega) (by omega) (by omega)
          rw [if_pos (by omega)] at e5
          have hx := hw.2.2.1 q (p - 1) (by omega) (by omega) (by omega) (by omega)
          obtain ⟨k1, k2⟩ := key _ (by rcases hx with hx | hx; exact Or.inl hx; exact Or.inr ⟨hx.1, hx.2.1, hx.2.2.1⟩)
          by_cases hq0 : q = 0
          · simp (disch := omega) only [zl_0, zl_1, zl_2, zl_3, zl_4, zl_5, zl_6, zl_7, zl_8, zl_9, zl_10, zl_11, zl_12, zl_13, zl_14, zl_15, zl_16, zl_17, zl_18, zl_19, zl_20, zl_21, zl_22, zl_23, zl_24, zl_25, zl_26, zl_27, zl_28, zl_29, zl_30, zl_31, zl_32, zl_33, zl_34, zl_35, zl_36, zl_37, zl_38, zl_39, zl_40, zl_41, zl_42, zl_43, zl_44, zl_45, zl_46, zl_47, zl_48, zl_49, zl_50, zl_51, zl_52, zl_53, zl_54, zl_55, zl_56, zl_57, zl_58, zl_59, zl_60, zl_61, zl_62, zl_63, zl_64, zl_65, zl_66, zl_80, zl_97, zl_99, zl_103, zl_107, zl_112, zl_115, zl_100, zl_180, zl_210, zl_238, zl_255, zl_256, zl_400, zl_1000, zl_1024, zl_1260, zl_2000, zl_7140, zl_7200, zl_18414, zl_65536, zl_131072, zl_9999, zl_999, zI_add, zI_sub, zI_mul, zI_neg, zI_lt, zI_le, zI_eq, zI_clamp, ck_z, ckp_z, qb_z, qb_z0, Option.bind_some, if_pos, if_neg, reduceIte, reduceCtorEq, Bool.false_eq_true, Bool.true_eq_false, e4, e5, at_z, k1, k2]
            exact ⟨_, _, rfl, rfl, rfl⟩
          · simp (disch := omega) only [zl_0, zl_1, zl_2, zl_3, zl_4, zl_5, zl_6, zl_7, zl_8, zl_9, zl_10, zl_11, zl_12, zl_13, zl_14, zl_15, zl_16, zl_17, zl_18, zl_19, zl_20, zl_21, zl_22, zl_23, zl_24, zl_25, zl_26, zl_27, zl_28, zl_29, zl_30, zl_31, zl_32, zl_33, zl_34, zl_35, zl_36, zl_37, zl_38, zl_39, zl_40, zl_41, zl_42, zl_43, zl_44, zl_45, zl_46, zl_47, zl_48, zl_49, zl_50, zl_51, zl_52, zl_53, zl_54, zl_55, zl_56, zl_57, zl_58, zl_59, zl_60, zl_61, zl_62, zl_63, zl_64, zl_65, zl_66, zl_80, zl_97, zl_99, zl_103, zl_107, zl_112, zl_115, zl_100, zl_180, zl_210, zl_238, zl_255, zl_256, zl_400, zl_1000, zl_1024, zl_1260, zl_2000, zl_7140, zl_7200, zl_18414, zl_65536, zl_131072, zl_9999, zl_999, zI_add, zI_sub, zI_mul, zI_neg, zI_lt, zI_le, zI_eq, zI_clamp, ck_z, ckp_z, qb_z, qb_z0, Option.bind_some, if_pos, if_neg, reduceIte, reduceCtorEq, Bool.false_eq_true, Bool.true_eq_false, e4, e5, at_z, k1, k2]
            exact ⟨_, _, rfl, rfl, rfl⟩
      · by_cases w2 : w < 0
        · simp (disch := omega) only [zl_0, zl_1, zl_2, zl_3, zl_4, zl_5, zl_6, zl_7, zl_8, zl_9, zl_10, zl_11, zl_12, zl_13, zl_14, zl_15, zl_16, zl_17, zl_18, zl_19, zl_20, zl_21, zl_22, zl_23, zl_24, zl_25, zl_26, zl_27, zl_28, zl_29, zl_30, zl_31, zl_32, zl_33, zl_34, zl_35, zl_36, zl_37, zl_38, zl_39, zl_40, zl_41, zl_42, zl_43, zl_44, zl_45, zl_46, zl_47, zl_48, zl_49, zl_50, zl_51, zl_52, zl_53, zl_54, zl_55, zl_56, zl_57, zl_58, zl_59, zl_60, zl_61, zl_62, zl_63, zl_64, zl_65, zl_66, zl_80, zl_97, zl_99, zl_103, zl_107, zl_112, zl_115, zl_100, zl_180, zl_210, zl_238, zl_255, zl_256, zl_400, zl_1000, zl_1024, zl_1260, zl_2000, zl_7140, zl_7200, zl_18414, zl_65536, zl_131072, zl_9999, zl_999, zI_add, zI_sub, zI_mul, zI_neg, zI_lt, zI_le, zI_eq, zI_clamp, ck_z, ckp_z, qb_z, qb_z0, Option.bind_some, if_pos, if_neg, reduceIte, reduceCtorEq, Bool.false_eq_true, Bool.true_eq_false]
          exact ⟨_, _, rfl, rfl, rfl⟩
        · simp (disch := omega) only [zl_0, zl_1, zl_2, zl_3, zl_4, zl_5, zl_6, zl_7, zl_8, zl_9, zl_10, zl_11, zl_12, zl_13, zl_14, zl_15, zl_16, zl_17, zl_18, zl_19, zl_20, zl_21, zl_22, zl_23, zl_24, zl_25, zl_26, zl_27, zl_28, zl_29, zl_30, zl_31, zl_32, zl_33, zl_34, zl_35, zl_36, zl_37, zl_38, zl_39, zl_40, zl_41, zl_42, zl_43, zl_44, zl_45, zl_46, zl_47, zl_48, zl_49, zl_50, zl_51, zl_52, zl_53, zl_54, zl_55, zl_56, zl_57, zl_58, zl_59, zl_60, zl_61, zl_62, zl_63, zl_64, zl_65, zl_66, zl_80, zl_97, zl_99, zl_103, zl_107, zl_112, zl_115, zl_100, zl_180, zl_210, zl_238, zl_255, zl_256, zl_400, zl_1000, zl_1024, zl_1260, zl_2000, zl_7140, zl_7200, zl_18414, zl_65536, zl_131072, zl_9999, zl_999, zI_add, zI_sub, zI_mul, zI_neg, zI_lt, zI_le, zI_eq, zI_clamp, ck_z, ckp_z, qb_z, qb_z0, Option.bind_some, if_pos, if_neg, reduceIte, reduceCtorEq, Bool.false_eq_true, Bool.true_eq_false]
          exact ⟨_, _, rfl, rfl, rfl⟩
  · rw [decide_eq_false h]
    exact ⟨_, _, rfl, rfl, rfl⟩
theorem isCancM_z (hw : FoldW Φ) (hm : FoldM f Φ mthings mquires firstLetter firstPage sizeOf placed kindOf catchOf) (hf : 0 ≤ f) (hf2 : f < 5) (i : Int) (h1 : 0 ≤ i) (h2 : i < fT Φ) : F_X8_isCancelled mthings kindOf (zI f) (zI i) = some (decide (0 ≤ i ∧ i + 1 < fT Φ ∧ fK Φ i = 2 ∧ fK Φ (i + 1) = 4)) := by
  have hr := hw.1
  have hT := hm.1.2.1
  have k1 := hm.2.2.2.1 i h1 h2
  have k3 := hw.2.2.2.1 i h1 h2
  unfold F_X8_isCancelled
  by_cases h : i + 1 < fT Φ
  · have k2 := hm.2.2.2.1 (i + 1) (by omega) h
    have k4 := hw.2.2.2.1 (i + 1) (by omega) h
    rw [← Int.add_assoc] at k2
    simp (disch := omega) only [zl_0, zl_1, zl_2, zl_3, zl_4, zl_5, zl_6, zl_7, zl_8, zl_9, zl_10, zl_11, zl_12, zl_13, zl_14, zl_15, zl_16, zl_17, zl_18, zl_19, zl_20, zl_21, zl_22, zl_23, zl_24, zl_25, zl_26, zl_27, zl_28, zl_29, zl_30, zl_31, zl_32, zl_33, zl_34, zl_35, zl_36, zl_37, zl_38, zl_39, zl_40, zl_41, zl_42, zl_43, zl_44, zl_45, zl_46, zl_47, zl_48, zl_49, zl_50, zl_51, zl_52, zl_53, zl_54, zl_55, zl_56, zl_57, zl_58, zl_59, zl_60, zl_61, zl_62, zl_63, zl_64, zl_65, zl_66, zl_80, zl_97, zl_99, zl_103, zl_107, zl_112, zl_115, zl_100, zl_180, zl_210, zl_238, zl_255, zl_256, zl_400, zl_1000, zl_1024, zl_1260, zl_2000, zl_7140, zl_7200, zl_18414, zl_65536, zl_131072, zl_9999, zl_999, zI_add, zI_sub, zI_mul, zI_neg, zI_lt, zI_le, zI_eq, zI_clamp, ck_z, ckp_z, qb_z, qb_z0, Option.bind_some, hT, k1, k2]
    by_cases hh : 0 ≤ i ∧ i + 1 < fT Φ ∧ fK Φ i = 2 ∧ fK Φ (i + 1) = 4
    · rw [decide_eq_true hh]; (repeat' split) <;> first | rfl | contradiction | (exfalso; omega)
    · rw [decide_eq_false hh]; (repeat' split) <;> first | rfl | contradiction | (exfalso; omega)
  · simp (disch := omega) only [zl_0, zl_1, zl_2, zl_3, zl_4, zl_5, zl_6, zl_7, zl_8, zl_9, zl_10, zl_11, zl_12, zl_13, zl_14, zl_15, zl_16, zl_17, zl_18, zl_19, zl_20, zl_21, zl_22, zl_23, zl_24, zl_25, zl_26, zl_27, zl_28, zl_29, zl_30, zl_31, zl_32, zl_33, zl_34, zl_35, zl_36, zl_37, zl_38, zl_39, zl_40, zl_41, zl_42, zl_43, zl_44, zl_45, zl_46, zl_47, zl_48, zl_49, zl_50, zl_51, zl_52, zl_53, zl_54, zl_55, zl_56, zl_57, zl_58, zl_59, zl_60, zl_61, zl_62, zl_63, zl_64, zl_65, zl_66, zl_80, zl_97, zl_99, zl_103, zl_107, zl_112, zl_115, zl_100, zl_180, zl_210, zl_238, zl_255, zl_256, zl_400, zl_1000, zl_1024, zl_1260, zl_2000, zl_7140, zl_7200, zl_18414, zl_65536, zl_131072, zl_9999, zl_999, zI_add, zI_sub, zI_mul, zI_neg, zI_lt, zI_le, zI_eq, zI_clamp, ck_z, ckp_z, qb_z, qb_z0, Option.bind_some, if_pos, if_neg, reduceIte, reduceCtorEq, Bool.false_eq_true, Bool.true_eq_false, hT, k1]
    rw [decide_eq_false (fun c => h c.2.1)]
    (repeat' split) <;> first | rfl | contradiction | (exfalso; omega)
theorem code_z (hw : FoldW Φ) (hm : FoldM f Φ mthings mquires firstLetter firstPage sizeOf placed kindOf catchOf) (hf : 0 ≤ f) (hf2 : f < 5) (ht : isThere f.toNat = 1) (q p : Int) (h1 : -2147483648 ≤ q) (h2 : q < 2147483648) (h3 : -2147483648 ≤ p) (h4 : p < 2147483648) : F_X8_code isThere mthings mquires sizeOf placed kindOf (zI f) (zI q) (zI p) = some (zI (sco Φ q p)) := by
  unfold F_X8_code sco
  rw [isPlace_z hm hw hf hf2 ht q p h1 h2 h3 h4, Option.bind_some, at_z]
  by_cases h : 0 ≤ q ∧ q < fQ Φ ∧ 1 ≤ p ∧ p ≤ fS Φ q
  · have hr := hw.1
    have hS := hw.2.1 q h.1 h.2.1
    have e1 := hm.2.2.1 q p h.1 h.2.1 h.2.2.1 h.2.2.2
    have g := hw.2.2.1 q p h.1 h.2.1 h.2.2.1 h.2.2.2
    rw [decide_eq_true h, if_pos h]
    generalize fC Φ q p = c at *
    rcases g with g | ⟨g1, g2, g3, -⟩
    · subst g
      simp (disch := omega) only [zl_0, zl_1, zl_2, zl_3, zl_4, zl_5, zl_6, zl_7, zl_8, zl_9, zl_10, zl_11, zl_12, zl_13, zl_14, zl_15, zl_16, zl_17, zl_18, zl_19, zl_20, zl_21, zl_22, zl_23, zl_24, zl_25, zl_26, zl_27, zl_28, zl_29, zl_30, zl_31, zl_32, zl_33, zl_34, zl_35, zl_36, zl_37, zl_38, zl_39, zl_40, zl_41, zl_42, zl_43, zl_44, zl_45, zl_46, zl_47, zl_48, zl_49, zl_50, zl_51, zl_52, zl_53, zl_54, zl_55, zl_56, zl_57, zl_58, zl_59, zl_60, zl_61, zl_62, zl_63, zl_64, zl_65, zl_66, zl_80, zl_97, zl_99, zl_103, zl_107, zl_112, zl_115, zl_100, zl_180, zl_210, zl_238, zl_255, zl_256, zl_400, zl_1000, zl_1024, zl_1260, zl_2000, zl_7140, zl_7200, zl_18414, zl_65536, zl_131072, zl_9999, zl_999, zI_add, zI_sub, zI_mul, zI_neg, zI_lt, zI_le, zI_eq, zI_clamp, ck_z, ckp_z, qb_z, qb_z0, Option.bind_some, if_pos, if_neg, reduceIte, reduceCtorEq, Bool.false_eq_true, Bool.true_eq_false, e1]
    · have k1 := hm.2.2.2.1 c g1 g2
      have k3 := hw.2.2.2.1 c g1 g2
      have e2 := isCancM_z hw hm hf hf2 c g1 g2
      by_cases h5 : fK Φ c = 1
      · simp (disch := omega) only [zl_0, zl_1, zl_2, zl_3, zl_4, zl_5, zl_6, zl_7, zl_8, zl_9, zl_10, zl_11, zl_12, zl_13, zl_14, zl_15, zl_16, zl_17, zl_18, zl_19, zl_20, zl_21, zl_22, zl_23, zl_24, zl_25, zl_26, zl_27, zl_28, zl_29, zl_30, zl_31, zl_32, zl_33, zl_34, zl_35, zl_36, zl_37, zl_38, zl_39, zl_40, zl_41, zl_42, zl_43, zl_44, zl_45, zl_46, zl_47, zl_48, zl_49, zl_50, zl_51, zl_52, zl_53, zl_54, zl_55, zl_56, zl_57, zl_58, zl_59, zl_60, zl_61, zl_62, zl_63, zl_64, zl_65, zl_66, zl_80, zl_97, zl_99, zl_103, zl_107, zl_112, zl_115, zl_100, zl_180, zl_210, zl_238, zl_255, zl_256, zl_400, zl_1000, zl_1024, zl_1260, zl_2000, zl_7140, zl_7200, zl_18414, zl_65536, zl_131072, zl_9999, zl_999, zI_add, zI_sub, zI_mul, zI_neg, zI_lt, zI_le, zI_eq, zI_clamp, ck_z, ckp_z, qb_z, qb_z0, Option.bind_some, if_pos, if_neg, reduceIte, reduceCtorEq, Bool.false_eq_true, Bool.true_eq_false, e1, k1]
      · by_cases h6 : 0 ≤ c ∧ c + 1 < fT Φ ∧ fK Φ c = 2 ∧ fK Φ (c + 1) = 4
        · rw [decide_eq_true h6] at e2
          rw [if_pos h6]
          simp (disch := omega) only [zl_0, zl_1, zl_2, zl_3, zl_4, zl_5, zl_6, zl_7, zl_8, zl_9, zl_10, zl_11, zl_12, zl_13, zl_14, zl_15, zl_16, zl_17, zl_18, zl_19, zl_20, zl_21, zl_22, zl_23, zl_24, zl_25, zl_26, zl_27, zl_28, zl_29, zl_30, zl_31, zl_32, zl_33, zl_34, zl_35, zl_36, zl_37, zl_38, zl_39, zl_40, zl_41, zl_42, zl_43, zl_44, zl_45, zl_46, zl_47, zl_48, zl_49, zl_50, zl_51, zl_52, zl_53, zl_54, zl_55, zl_56, zl_57, zl_58, zl_59, zl_60, zl_61, zl_62, zl_63, zl_64, zl_65, zl_66, zl_80, zl_97, zl_99, zl_103, zl_107, zl_112, zl_115, zl_100, zl_180, zl_210, zl_238, zl_255, zl_256, zl_400, zl_1000, zl_1024, zl_1260, zl_2000, zl_7140, zl_7200, zl_18414, zl_65536, zl_131072, zl_9999, zl_999, zI_add, zI_sub, zI_mul, zI_neg, zI_lt, zI_le, zI_eq, zI_clamp, ck_z, ckp_z, qb_z, qb_z0, Option.bind_some, if_pos, if_neg, reduceIte, reduceCtorEq, Bool.false_eq_true, Bool.true_eq_false, e1, k1, e2]
        · rw [decide_eq_false h6] at e2
          rw [if_neg h6]
          simp (disch := omega) only [zl_0, zl_1, zl_2, zl_3, zl_4, zl_5, zl_6, zl_7, zl_8, zl_9, zl_10, zl_11, zl_12, zl_13, zl_14, zl_15, zl_16, zl_17, zl_18, zl_19, zl_20, zl_21, zl_22, zl_23, zl_24, zl_25, zl_26, zl_27, zl_28, zl_29, zl_30, zl_31, zl_32, zl_33, zl_34, zl_35, zl_36, zl_37, zl_38, zl_39, zl_40, zl_41, zl_42, zl_43, zl_44, zl_45, zl_46, zl_47, zl_48, zl_49, zl_50, zl_51, zl_52, zl_53, zl_54, zl_55, zl_56, zl_57, zl_58, zl_59, zl_60, zl_61, zl_62, zl_63, zl_64, zl_65, zl_66, zl_80, zl_97, zl_99, zl_103, zl_107, zl_112, zl_115, zl_100, zl_180, zl_210, zl_238, zl_255, zl_256, zl_400, zl_1000, zl_1024, zl_1260, zl_2000, zl_7140, zl_7200, zl_18414, zl_65536, zl_131072, zl_9999, zl_999, zI_add, zI_sub, zI_mul, zI_neg, zI_lt, zI_le, zI_eq, zI_clamp, ck_z, ckp_z, qb_z, qb_z0, Option.bind_some, if_pos, if_neg, reduceIte, reduceCtorEq, Bool.false_eq_true, Bool.true_eq_false, e1, k1, e2]
  · rw [decide_eq_false h, if_neg h]
    rfl
theorem sco_r (hw : FoldW Φ) (q p : Int) : 0 ≤ sco Φ q p ∧ sco Φ q p ≤ 4 := by
  unfold sco
  (repeat' split) <;> omega
end FD
/-- where two differ: spot n -/
def dif (Φ Ψ : Fold) (n : Nat) : Prop := ¬ sco Φ ((n : Int) / 8) ((n : Int) % 8 + 1) = sco Ψ ((n : Int) / 8) ((n : Int) % 8 + 1)
def dct (Φ Ψ : Fold) : Nat → Int
  | 0 => 0
  | n + 1 => dct Φ Ψ n + (if sco Φ ((n : Int) / 8) ((n : Int) % 8 + 1) = sco Ψ ((n : Int) / 8) ((n : Int) % 8 + 1) then 0 else 1)
theorem dct_no {Φ Ψ : Fold} {n : Nat} (h : ¬ dif Φ Ψ n) : dct Φ Ψ (n + 1) = dct Φ Ψ n := by
  unfold dif at h
  simp only [dct, if_pos (Classical.not_not.mp h), Int.add_zero]
theorem dct_yes {Φ Ψ : Fold} {n : Nat} (h : dif Φ Ψ n) : dct Φ Ψ (n + 1) = dct Φ Ψ n + 1 := by
  unfold dif at h
  simp only [dct, if_neg h]
theorem dct_mono (Φ Ψ : Fold) (a : Nat) : ∀ d, dct Φ Ψ a ≤ dct Φ Ψ (a + d)
  | 0 => Int.le_refl _
  | d + 1 => by
    have ih := dct_mono Φ Ψ a d
    by_cases h : dif Φ Ψ (a + d)
    · have := dct_yes h
      rw [← Nat.add_assoc]
      omega
    · have := dct_no h
      rw [← Nat.add_assoc]
      omega
theorem dct_pos (Φ Ψ : Fold) (a : Nat) : 0 ≤ dct Φ Ψ a := by
  have h := dct_mono Φ Ψ 0 a
  rw [Nat.zero_add] at h
  exact h
theorem dct_b (Φ Ψ : Fold) : ∀ a : Nat, dct Φ Ψ a ≤ a
  | 0 => Int.le_refl _
  | d + 1 => by
    have ih := dct_b Φ Ψ d
    by_cases h : dif Φ Ψ d
    · have := dct_yes h
      omega
    · have := dct_no h
      omega
theorem dct_ivt (Φ Ψ : Fold) (i : Int) (hi : 0 ≤ i) : ∀ a : Nat, i < dct Φ Ψ a → ∃ s, s < a ∧ dif Φ Ψ s ∧ dct Φ Ψ s = i
  | 0, h => by
    exfalso
    simp only [dct] at h
    omega
  | a + 1, h => by
    by_cases h2 : i < dct Φ Ψ a
    · obtain ⟨s, h3, h4⟩ := dct_ivt Φ Ψ i hi a h2
      exact ⟨s, by omega, h4⟩
    · by_cases hd : dif Φ Ψ a
      · have := dct_yes hd
        exact ⟨a, by omega, hd, by omega⟩
      · have := dct_no hd
        omega

section LG
variable {Λ : Book} {marks hangs cancels : NF}
theorem goesOn_b72_z (c u : Int) (c0 : 0 ≤ c) (c1 : c ≤ 9999) (u0 : 0 ≤ u) (u1 : u ≤ 9999) : F_X8_goesOn_b72 (zI c) (zI u) = some (decide (u = 0 ∨ u = c)) := by
  unfold F_X8_goesOn_b72
  by_cases h : u = 0
  · have q : zI u = 0 := by rw [h]; rfl
    rw [if_pos q, decide_eq_true (Or.inl h)]
  · have q : ¬ zI u = 0 := by simp (disch := omega) only [zl_0, zl_1, zl_2, zl_3, zl_4, zl_5, zl_6, zl_7, zl_8, zl_9, zl_10, zl_11, zl_12, zl_13, zl_14, zl_15, zl_16, zl_17, zl_18, zl_19, zl_20, zl_21, zl_22, zl_23, zl_24, zl_25, zl_26, zl_27, zl_28, zl_29, zl_30, zl_31, zl_32, zl_33, zl_34, zl_35, zl_36, zl_37, zl_38, zl_39, zl_40, zl_41, zl_42, zl_43, zl_44, zl_45, zl_46, zl_47, zl_48, zl_49, zl_50, zl_51, zl_52, zl_53, zl_54, zl_55, zl_56, zl_57, zl_58, zl_59, zl_60, zl_61, zl_62, zl_63, zl_64, zl_65, zl_66, zl_80, zl_97, zl_99, zl_103, zl_107, zl_112, zl_115, zl_100, zl_180, zl_210, zl_238, zl_255, zl_256, zl_400, zl_1000, zl_1024, zl_1260, zl_2000, zl_7140, zl_7200, zl_18414, zl_65536, zl_131072, zl_9999, zl_999, zI_add, zI_sub, zI_mul, zI_neg, zI_lt, zI_le, zI_eq, zI_clamp, ck_z, ckp_z, qb_z, qb_z0, Option.bind_some]; exact h
    rw [if_neg q]
    by_cases h2 : u = c
    · rw [if_pos (by rw [h2]), decide_eq_true (Or.inr h2)]
    · have q2 : ¬ zI u = zI c := by simp (disch := omega) only [zl_0, zl_1, zl_2, zl_3, zl_4, zl_5, zl_6, zl_7, zl_8, zl_9, zl_10, zl_11, zl_12, zl_13, zl_14, zl_15, zl_16, zl_17, zl_18, zl_19, zl_20, zl_21, zl_22, zl_23, zl_24, zl_25, zl_26, zl_27, zl_28, zl_29, zl_30, zl_31, zl_32, zl_33, zl_34, zl_35, zl_36, zl_37, zl_38, zl_39, zl_40, zl_41, zl_42, zl_43, zl_44, zl_45, zl_46, zl_47, zl_48, zl_49, zl_50, zl_51, zl_52, zl_53, zl_54, zl_55, zl_56, zl_57, zl_58, zl_59, zl_60, zl_61, zl_62, zl_63, zl_64, zl_65, zl_66, zl_80, zl_97, zl_99, zl_103, zl_107, zl_112, zl_115, zl_100, zl_180, zl_210, zl_238, zl_255, zl_256, zl_400, zl_1000, zl_1024, zl_1260, zl_2000, zl_7140, zl_7200, zl_18414, zl_65536, zl_131072, zl_9999, zl_999, zI_add, zI_sub, zI_mul, zI_neg, zI_lt, zI_le, zI_eq, zI_clamp, ck_z, ckp_z, qb_z, qb_z0, Option.bind_some]; exact h2
      rw [if_neg q2, decide_eq_false (by omega)]
/-- the cancelling leaf of h, as far as it is seen -/
def see (Λ : Book) (x h : Int) : Int := if x = 0 then 0 else bkX Λ h
theorem goesOn_z (hB : BkW Λ) (hL : LvM Λ marks hangs cancels) (h x : Int) (h0 : 1 ≤ h) (h1 : h < bkH Λ) (hx : x = 0 ∨ x = 1) : F_X8_goesOn marks hangs cancels (zI (h - 1)) (zI x) = some (decide (bti Λ (see Λ x h) h ≠ 2)) := by
  obtain ⟨b1, b2, b3, b4, b5, b6, b7, b8, b9, b10, hk⟩ := id hB
  obtain ⟨a, a0, a1, ea, hm, -⟩ := hL (h - 1) (by omega) (by omega)
  obtain ⟨a', a0', a1', ea', hm', hc⟩ := hL h (by omega) h1
  have m4 := (hk (h - 1) (by omega) (by omega)).1 4 (by omega)
  have m3 := (hk h (by omega) h1).1 3 (by omega)
  have mx := (hk h (by omega) h1).2
  have k4 : F_X8_known marks (zI a) 4 = some (zI (bkM Λ 4 (h - 1))) := by
    rw [← hm 4 (by omega)]; exact known_z marks a 4 a0 a1 (by omega) (by omega)
  have k3 : F_X8_known marks (zI a') 3 = some (zI (bkM Λ 3 h)) := by
    rw [← hm' 3 (by omega)]; exact known_z marks a' 3 a0' a1' (by omega) (by omega)
  have ez : zI (h - 1) + 1 = zI h := by rw [zl_1, zI_add]; congr 1; omega
  have tie (y : Int) (hy : bkM Λ 4 (h - 1) ≠ 0) : decide (bti Λ y h ≠ 2) = decide (bhd Λ y h = 0 ∨ bhd Λ y h = bkM Λ 4 (h - 1)) := by
    unfold bti
    rw [if_neg (by omega), if_neg hy]
    refine decide_eq_decide.mpr ⟨fun z => ?_, fun z => ?_⟩
    · by_cases c : bhd Λ y h = 0
      · exact Or.inl c
      · rw [if_neg c] at z
        by_cases c2 : bkM Λ 4 (h - 1) = bhd Λ y h
        · exact Or.inr c2.symm
        · rw [if_neg c2] at z; exact absurd rfl z
    · rcases z with z | z
      · rw [if_pos z]; omega
      · by_cases c : bhd Λ y h = 0
        · rw [if_pos c]; omega
        · rw [if_neg c, if_pos z.symm]; omega
  have h30 : (0 : Int) = 0 := rfl
  have hd0 : bhd Λ 0 h = bkM Λ 3 h := by unfold bhd; rw [if_pos rfl]
  have g0 := goesOn_b72_z (bkM Λ 4 (h - 1)) (bkM Λ 3 h) m4.1 m4.2 m3.1 m3.2
  unfold F_X8_goesOn
  rw [ck_z (by omega) (by omega) (by omega), zI_clamp (by omega) (by omega), ea, k4, Option.bind_some, ez, ck_z (by omega) (by omega) (by omega), zI_clamp (by omega) (by omega), ea', k3, Option.bind_some, ck_z (by omega) (by omega) (by omega)]
  by_cases c4 : bkM Λ 4 (h - 1) = 0
  · have q : zI (bkM Λ 4 (h - 1)) = 0 := by rw [c4]; rfl
    have e : bti Λ (see Λ x h) h = 0 := by unfold bti; rw [if_neg (by omega), if_pos c4]
    rw [if_pos q, e, decide_eq_true (by omega)]
  · have q : ¬ zI (bkM Λ 4 (h - 1)) = 0 := by simp (disch := omega) only [zl_0, zl_1, zl_2, zl_3, zl_4, zl_5, zl_6, zl_7, zl_8, zl_9, zl_10, zl_11, zl_12, zl_13, zl_14, zl_15, zl_16, zl_17, zl_18, zl_19, zl_20, zl_21, zl_22, zl_23, zl_24, zl_25, zl_26, zl_27, zl_28, zl_29, zl_30, zl_31, zl_32, zl_33, zl_34, zl_35, zl_36, zl_37, zl_38, zl_39, zl_40, zl_41, zl_42, zl_43, zl_44, zl_45, zl_46, zl_47, zl_48, zl_49, zl_50, zl_51, zl_52, zl_53, zl_54, zl_55, zl_56, zl_57, zl_58, zl_59, zl_60, zl_61, zl_62, zl_63, zl_64, zl_65, zl_66, zl_80, zl_97, zl_99, zl_103, zl_107, zl_112, zl_115, zl_100, zl_180, zl_210, zl_238, zl_255, zl_256, zl_400, zl_1000, zl_1024, zl_1260, zl_2000, zl_7140, zl_7200, zl_18414, zl_65536, zl_131072, zl_9999, zl_999, zI_add, zI_sub, zI_mul, zI_neg, zI_lt, zI_le, zI_eq, zI_clamp, ck_z, ckp_z, qb_z, qb_z0, Option.bind_some]; exact c4
    rw [if_neg q, tie _ c4]
    rcases hc with ⟨c1, c2⟩ | ⟨c1, a2, d0, d1, c2, c3, c5⟩
    · have es : see Λ x h = 0 := by unfold see; rw [c1]; split <;> rfl
      rw [c2, if_pos (by rfl), g0, es, hd0]
    · have q1 : ¬ zI a2 = -1 := by simp (disch := omega) only [zl_0, zl_1, zl_2, zl_3, zl_4, zl_5, zl_6, zl_7, zl_8, zl_9, zl_10, zl_11, zl_12, zl_13, zl_14, zl_15, zl_16, zl_17, zl_18, zl_19, zl_20, zl_21, zl_22, zl_23, zl_24, zl_25, zl_26, zl_27, zl_28, zl_29, zl_30, zl_31, zl_32, zl_33, zl_34, zl_35, zl_36, zl_37, zl_38, zl_39, zl_40, zl_41, zl_42, zl_43, zl_44, zl_45, zl_46, zl_47, zl_48, zl_49, zl_50, zl_51, zl_52, zl_53, zl_54, zl_55, zl_56, zl_57, zl_58, zl_59, zl_60, zl_61, zl_62, zl_63, zl_64, zl_65, zl_66, zl_80, zl_97, zl_99, zl_103, zl_107, zl_112, zl_115, zl_100, zl_180, zl_210, zl_238, zl_255, zl_256, zl_400, zl_1000, zl_1024, zl_1260, zl_2000, zl_7140, zl_7200, zl_18414, zl_65536, zl_131072, zl_9999, zl_999, zI_add, zI_sub, zI_mul, zI_neg, zI_lt, zI_le, zI_eq, zI_clamp, ck_z, ckp_z, qb_z, qb_z0, Option.bind_some]; omega
      rw [c2, if_neg q1]
      rcases hx with rfl | rfl
      · have es : see Λ 0 h = 0 := by unfold see; rw [if_pos rfl]
        rw [if_pos (by rfl), g0, es, hd0]
      · have es : see Λ 1 h = 1 := by unfold see; rw [if_neg (by omega), c1]
        have bd : 0 ≤ bkD Λ h ∧ bkD Λ h ≤ 9999 := by
          rcases mx with mx | mx
          · omega
          · exact ⟨mx.2.2.2.1, mx.2.2.2.2⟩
        have kd : F_X8_known marks (zI a2) 3 = some (zI (bkD Λ h)) := by
          rw [← c5]; exact known_z marks a2 3 d0 d1 (by omega) (by omega)
        rw [if_neg (by decide), kd, Option.bind_some, Option.bind_some, es]
        have hd1 : bhd Λ 1 h = if bkD Λ h ≤ 0 then bkM Λ 3 h else bkD Λ h := by unfold bhd; rw [if_neg (by omega)]
        rw [hd1]
        by_cases cd : bkD Λ h = 0
        · have q3 : zI (bkD Λ h) = 0 := by rw [cd]; rfl
          rw [if_pos q3, g0, if_pos (by omega)]
        · have q3 : ¬ zI (bkD Λ h) = 0 := by simp (disch := omega) only [zl_0, zl_1, zl_2, zl_3, zl_4, zl_5, zl_6, zl_7, zl_8, zl_9, zl_10, zl_11, zl_12, zl_13, zl_14, zl_15, zl_16, zl_17, zl_18, zl_19, zl_20, zl_21, zl_22, zl_23, zl_24, zl_25, zl_26, zl_27, zl_28, zl_29, zl_30, zl_31, zl_32, zl_33, zl_34, zl_35, zl_36, zl_37, zl_38, zl_39, zl_40, zl_41, zl_42, zl_43, zl_44, zl_45, zl_46, zl_47, zl_48, zl_49, zl_50, zl_51, zl_52, zl_53, zl_54, zl_55, zl_56, zl_57, zl_58, zl_59, zl_60, zl_61, zl_62, zl_63, zl_64, zl_65, zl_66, zl_80, zl_97, zl_99, zl_103, zl_107, zl_112, zl_115, zl_100, zl_180, zl_210, zl_238, zl_255, zl_256, zl_400, zl_1000, zl_1024, zl_1260, zl_2000, zl_7140, zl_7200, zl_18414, zl_65536, zl_131072, zl_9999, zl_999, zI_add, zI_sub, zI_mul, zI_neg, zI_lt, zI_le, zI_eq, zI_clamp, ck_z, ckp_z, qb_z, qb_z0, Option.bind_some]; exact cd
          rw [if_neg q3, goesOn_b72_z _ _ m4.1 m4.2 bd.1 bd.2, if_neg (by omega)]
abbrev Han (Λ : Book) (a b : Int) : Prop := (bkM Λ 5 a = 0 ∨ bkM Λ 5 b = 0 ∨ bkM Λ 5 a = bkM Λ 5 b) ∧ (bkM Λ 6 a = 0 ∨ bkM Λ 6 b = 0 ∨ bkM Λ 6 a ≠ bkM Λ 6 b)
theorem hangTogether_z (hB : BkW Λ) (hL : LvM Λ marks hangs cancels) (a b : Int) (a0 : 0 ≤ a) (a1 : a < bkH Λ) (b0 : 0 ≤ b) (b1 : b < bkH Λ) : F_X8_hangTogether marks hangs (zI a) (zI b) = some (decide (Han Λ a b)) := by
  obtain ⟨_, b2, _, _, _, _, _, _, _, _, hk⟩ := id hB
  obtain ⟨x, x0, x1, ex, hx, -⟩ := hL a a0 a1
  obtain ⟨y, y0, y1, ey, hy, -⟩ := hL b b0 b1
  have w1 := (hk a a0 a1).1 5 (by omega)
  have w2 := (hk b b0 b1).1 5 (by omega)
  have s1 := (hk a a0 a1).1 6 (by omega)
  have s2 := (hk b b0 b1).1 6 (by omega)
  have k5 : F_X8_known marks (zI x) 5 = some (zI (bkM Λ 5 a)) := by
    rw [← hx 5 (by omega)]; exact known_z marks x 5 x0 x1 (by omega) (by omega)
  have l5 : F_X8_known marks (zI y) 5 = some (zI (bkM Λ 5 b)) := by
    rw [← hy 5 (by omega)]; exact known_z marks y 5 y0 y1 (by omega) (by omega)
  have k6 : F_X8_known marks (zI x) 6 = some (zI (bkM Λ 6 a)) := by
    rw [← hx 6 (by omega)]; exact known_z marks x 6 x0 x1 (by omega) (by omega)
  have l6 : F_X8_known marks (zI y) 6 = some (zI (bkM Λ 6 b)) := by
    rw [← hy 6 (by omega)]; exact known_z marks y 6 y0 y1 (by omega) (by omega)
  unfold F_X8_hangTogether F_X8_hangTogether_b52
  rw [ck_z a0 (by omega) (by omega), ck_z b0 (by omega) (by omega), zI_clamp (by omega) (by omega), zI_clamp (by omega) (by omega), ex, ey]
  by_cases hh : Han Λ a b
  · rw [decide_eq_true hh]
    have hh2 : ((bkM Λ 5 a = 0 ∨ bkM Λ 5 b = 0 ∨ bkM Λ 5 a = bkM Λ 5 b) ∧ (bkM Λ 6 a = 0 ∨ bkM Λ 6 b = 0 ∨ ¬ bkM Λ 6 a = bkM Λ 6 b)) := hh
    simp only [k5, l5, k6, l6, Option.bind_some]
    simp (disch := omega) only [zl_0, zl_1, zl_2, zl_3, zl_4, zl_5, zl_6, zl_7, zl_8, zl_9, zl_10, zl_11, zl_12, zl_13, zl_14, zl_15, zl_16, zl_17, zl_18, zl_19, zl_20, zl_21, zl_22, zl_23, zl_24, zl_25, zl_26, zl_27, zl_28, zl_29, zl_30, zl_31, zl_32, zl_33, zl_34, zl_35, zl_36, zl_37, zl_38, zl_39, zl_40, zl_41, zl_42, zl_43, zl_44, zl_45, zl_46, zl_47, zl_48, zl_49, zl_50, zl_51, zl_52, zl_53, zl_54, zl_55, zl_56, zl_57, zl_58, zl_59, zl_60, zl_61, zl_62, zl_63, zl_64, zl_65, zl_66, zl_80, zl_97, zl_99, zl_103, zl_107, zl_112, zl_115, zl_100, zl_180, zl_210, zl_238, zl_255, zl_256, zl_400, zl_1000, zl_1024, zl_1260, zl_2000, zl_7140, zl_7200, zl_18414, zl_65536, zl_131072, zl_9999, zl_999, zI_add, zI_sub, zI_mul, zI_neg, zI_lt, zI_le, zI_eq, zI_clamp, ck_z, ckp_z, qb_z, qb_z0, Option.bind_some]
    (repeat' split) <;> first | rfl | contradiction | (exfalso; omega)
  · rw [decide_eq_false hh]
    have hh2 : ¬ ((bkM Λ 5 a = 0 ∨ bkM Λ 5 b = 0 ∨ bkM Λ 5 a = bkM Λ 5 b) ∧ (bkM Λ 6 a = 0 ∨ bkM Λ 6 b = 0 ∨ ¬ bkM Λ 6 a = bkM Λ 6 b)) := hh
    simp only [k5, l5, k6, l6, Option.bind_some]
    simp (disch := omega) only [zl_0, zl_1, zl_2, zl_3, zl_4, zl_5, zl_6, zl_7, zl_8, zl_9, zl_10, zl_11, zl_12, zl_13, zl_14, zl_15, zl_16, zl_17, zl_18, zl_19, zl_20, zl_21, zl_22, zl_23, zl_24, zl_25, zl_26, zl_27, zl_28, zl_29, zl_30, zl_31, zl_32, zl_33, zl_34, zl_35, zl_36, zl_37, zl_38, zl_39, zl_40, zl_41, zl_42, zl_43, zl_44, zl_45, zl_46, zl_47, zl_48, zl_49, zl_50, zl_51, zl_52, zl_53, zl_54, zl_55, zl_56, zl_57, zl_58, zl_59, zl_60, zl_61, zl_62, zl_63, zl_64, zl_65, zl_66, zl_80, zl_97, zl_99, zl_103, zl_107, zl_112, zl_115, zl_100, zl_180, zl_210, zl_238, zl_255, zl_256, zl_400, zl_1000, zl_1024, zl_1260, zl_2000, zl_7140, zl_7200, zl_18414, zl_65536, zl_131072, zl_9999, zl_999, zI_add, zI_sub, zI_mul, zI_neg, zI_lt, zI_le, zI_eq, zI_clamp, ck_z, ckp_z, qb_z, qb_z0, Option.bind_some]
    (repeat' split) <;> first | rfl | contradiction | (exfalso; omega)
end LG

section FD
variable {Φ Ψ : Fold} {quires things ghosts letter page : Int32} {sizes cells kinds words quireOf placeOf : Nat → Int32} {quires2 things2 ghosts2 letter2 page2 : Int32} {sizes2 cells2 kinds2 words2 quireOf2 placeOf2 : Nat → Int32} {f g : Int} {mthings mquires firstLetter firstPage sizeOf placed kindOf catchOf isThere : Nat → Int32}
theorem against_b30_z (hw : FoldW Φ) (hc : FoldC Φ quires things ghosts letter page sizes cells kinds words quireOf placeOf) (hw2 : FoldW Ψ) (hc2 : FoldC Ψ quires2 things2 ghosts2 letter2 page2 sizes2 cells2 kinds2 words2 quireOf2 placeOf2) : ∀ (d n s : Nat), s + d = 64 → d < n → F_X7_against_ok_ok_b30 quires things sizes cells kinds quires2 things2 sizes2 cells2 kinds2 n (zI (dct Φ Ψ s)) (zI s) = some (zI (dct Φ Ψ 64))
  | 0, n + 1, s, hs, _ => by
    unfold F_X7_against_ok_ok_b30
    have : s = 64 := by omega
    subst this
    rfl
  | d + 1, n + 1, s, hs, hn => by
    have ih := against_b30_z hw hc hw2 hc2 d n (s + 1) (by omega) (by omega)
    have r1 := sco_r hw ((s : Int) / 8) ((s : Int) % 8 + 1)
    have r2 := sco_r hw2 ((s : Int) / 8) ((s : Int) % 8 + 1)
    unfold F_X7_against_ok_ok_b30
    rw [stateOf_z hw hc s (by omega) (by omega), stateOf_z hw2 hc2 s (by omega) (by omega), Option.bind_some, Option.bind_some]
    simp (disch := omega) only [zl_0, zl_1, zl_2, zl_3, zl_4, zl_5, zl_6, zl_7, zl_8, zl_9, zl_10, zl_11, zl_12, zl_13, zl_14, zl_15, zl_16, zl_17, zl_18, zl_19, zl_20, zl_21, zl_22, zl_23, zl_24, zl_25, zl_26, zl_27, zl_28, zl_29, zl_30, zl_31, zl_32, zl_33, zl_34, zl_35, zl_36, zl_37, zl_38, zl_39, zl_40, zl_41, zl_42, zl_43, zl_44, zl_45, zl_46, zl_47, zl_48, zl_49, zl_50, zl_51, zl_52, zl_53, zl_54, zl_55, zl_56, zl_57, zl_58, zl_59, zl_60, zl_61, zl_62, zl_63, zl_64, zl_65, zl_66, zl_80, zl_97, zl_99, zl_103, zl_107, zl_112, zl_115, zl_100, zl_180, zl_210, zl_238, zl_255, zl_256, zl_400, zl_1000, zl_1024, zl_1260, zl_2000, zl_7140, zl_7200, zl_18414, zl_65536, zl_131072, zl_9999, zl_999, zI_add, zI_sub, zI_mul, zI_neg, zI_lt, zI_le, zI_eq, zI_clamp, ck_z, ckp_z, qb_z, qb_z0, Option.bind_some]
    rw [if_neg (by omega)]
    by_cases h : dif Φ Ψ s
    · rw [if_neg h, ← dct_yes h]
      exact ih
    · rw [if_pos (Classical.not_not.mp h), ← dct_no h]
      exact ih
theorem nth_b5_yes (hw : FoldW Φ) (hc : FoldC Φ quires things ghosts letter page sizes cells kinds words quireOf placeOf) (hw2 : FoldW Ψ) (hc2 : FoldC Ψ quires2 things2 ghosts2 letter2 page2 sizes2 cells2 kinds2 words2 quireOf2 placeOf2) (i : Int) (h1 : -2147483648 ≤ i) (h2 : i < 2147483648) (t : Nat) (ht : t < 64) (hd : dif Φ Ψ t) (hi : dct Φ Ψ t = i) : ∀ (d n s : Nat), s + d = t → d < n → F_X7_nthUnlike_b5 quires things sizes cells kinds quires2 things2 sizes2 cells2 kinds2 n (zI i) (zI (dct Φ Ψ s)) (zI s) = some (zI t)
  | d, n + 1, s, hs, hn => by
    have r1 := sco_r hw ((s : Int) / 8) ((s : Int) % 8 + 1)
    have r2 := sco_r hw2 ((s : Int) / 8) ((s : Int) % 8 + 1)
    have r3 := dct_pos Φ Ψ s
    have r4 := dct_b Φ Ψ s
    unfold F_X7_nthUnlike_b5
    rw [stateOf_z hw hc s (by omega) (by omega), stateOf_z hw2 hc2 s (by omega) (by omega), Option.bind_some, Option.bind_some]
    simp (disch := omega) only [zl_0, zl_1, zl_2, zl_3, zl_4, zl_5, zl_6, zl_7, zl_8, zl_9, zl_10, zl_11, zl_12, zl_13, zl_14, zl_15, zl_16, zl_17, zl_18, zl_19, zl_20, zl_21, zl_22, zl_23, zl_24, zl_25, zl_26, zl_27, zl_28, zl_29, zl_30, zl_31, zl_32, zl_33, zl_34, zl_35, zl_36, zl_37, zl_38, zl_39, zl_40, zl_41, zl_42, zl_43, zl_44, zl_45, zl_46, zl_47, zl_48, zl_49, zl_50, zl_51, zl_52, zl_53, zl_54, zl_55, zl_56, zl_57, zl_58, zl_59, zl_60, zl_61, zl_62, zl_63, zl_64, zl_65, zl_66, zl_80, zl_97, zl_99, zl_103, zl_107, zl_112, zl_115, zl_100, zl_180, zl_210, zl_238, zl_255, zl_256, zl_400, zl_1000, zl_1024, zl_1260, zl_2000, zl_7140, zl_7200, zl_18414, zl_65536, zl_131072, zl_9999, zl_999, zI_add, zI_sub, zI_mul, zI_neg, zI_lt, zI_le, zI_eq, zI_clamp, ck_z, ckp_z, qb_z, qb_z0, Option.bind_some]
    rw [if_neg (by omega)]
    cases d with
    | zero =>
      have : s = t := by omega
      subst this
      rw [if_neg hd, if_pos hi]
    | succ d =>
      have ih := nth_b5_yes hw hc hw2 hc2 i h1 h2 t ht hd hi d n (s + 1) (by omega) (by omega)
      by_cases h : dif Φ Ψ s
      · have m := dct_mono Φ Ψ (s + 1) d
        rw [show s + 1 + d = t by omega] at m
        have y := dct_yes h
        rw [if_neg h, if_neg (by omega), ← y]
        exact ih
      · rw [if_pos (Classical.not_not.mp h), ← dct_no h]
        exact ih
theorem nth_b5_no (hw : FoldW Φ) (hc : FoldC Φ quires things ghosts letter page sizes cells kinds words quireOf placeOf) (hw2 : FoldW Ψ) (hc2 : FoldC Ψ quires2 things2 ghosts2 letter2 page2 sizes2 cells2 kinds2 words2 quireOf2 placeOf2) (i : Int) (h1 : -2147483648 ≤ i) (h2 : i < 2147483648) (hno : ∀ t, t < 64 → dif Φ Ψ t → dct Φ Ψ t ≠ i) : ∀ (d n s : Nat), s + d = 64 → d < n → F_X7_nthUnlike_b5 quires things sizes cells kinds quires2 things2 sizes2 cells2 kinds2 n (zI i) (zI (dct Φ Ψ s)) (zI s) = some (zI (-1))
  | 0, n + 1, s, hs, hn => by
    have : s = 64 := by omega
    subst this
    unfold F_X7_nthUnlike_b5
    rfl
  | d + 1, n + 1, s, hs, hn => by
    have r1 := sco_r hw ((s : Int) / 8) ((s : Int) % 8 + 1)
    have r2 := sco_r hw2 ((s : Int) / 8) ((s : Int) % 8 + 1)
    have r3 := dct_pos Φ Ψ s
    have r4 := dct_b Φ Ψ s
    have ih := nth_b5_no hw hc hw2 hc2 i h1 h2 hno d n (s + 1) (by omega) (by omega)
    unfold F_X7_nthUnlike_b5
    rw [stateOf_z hw hc s (by omega) (by omega), stateOf_z hw2 hc2 s (by omega) (by omega), Option.bind_some, Option.bind_some]
    simp (disch := omega) only [zl_0, zl_1, zl_2, zl_3, zl_4, zl_5, zl_6, zl_7, zl_8, zl_9, zl_10, zl_11, zl_12, zl_13, zl_14, zl_15, zl_16, zl_17, zl_18, zl_19, zl_20, zl_21, zl_22, zl_23, zl_24, zl_25, zl_26, zl_27, zl_28, zl_29, zl_30, zl_31, zl_32, zl_33, zl_34, zl_35, zl_36, zl_37, zl_38, zl_39, zl_40, zl_41, zl_42, zl_43, zl_44, zl_45, zl_46, zl_47, zl_48, zl_49, zl_50, zl_51, zl_52, zl_53, zl_54, zl_55, zl_56, zl_57, zl_58, zl_59, zl_60, zl_61, zl_62, zl_63, zl_64, zl_65, zl_66, zl_80, zl_97, zl_99, zl_103, zl_107, zl_112, zl_115, zl_100, zl_180, zl_210, zl_238, zl_255, zl_256, zl_400, zl_1000, zl_1024, zl_1260, zl_2000, zl_7140, zl_7200, zl_18414, zl_65536, zl_131072, zl_9999, zl_999, zI_add, zI_sub, zI_mul, zI_neg, zI_lt, zI_le, zI_eq, zI_clamp, ck_z, ckp_z, qb_z, qb_z0, Option.bind_some]
    rw [if_neg (by omega)]
    by_cases h : dif Φ Ψ s
    · rw [if_neg h, if_neg (hno s (by omega) h), ← dct_yes h]
      exact ih
    · rw [if_pos (Classical.not_not.mp h), ← dct_no h]
      exact ih
/-- what the model has found after s spots -/
def fnd (Φ Ψ : Fold) (i : Int) (q0 p0 : Int32) : Nat → Int32 × Int32
  | 0 => (q0, p0)
  | n + 1 => if dct Φ Ψ n = i ∧ ¬ sco Φ ((n : Int) / 8) ((n : Int) % 8 + 1) = sco Ψ ((n : Int) / 8) ((n : Int) % 8 + 1) then (zI ((n : Int) / 8), zI ((n : Int) % 8 + 1)) else fnd Φ Ψ i q0 p0 n
theorem fnd_at (Φ Ψ : Fold) (i : Int) (q0 p0 : Int32) (t : Nat) (hd : dif Φ Ψ t) (hi : dct Φ Ψ t = i) : ∀ d, fnd Φ Ψ i q0 p0 (t + 1 + d) = (zI ((t : Int) / 8), zI ((t : Int) % 8 + 1))
  | 0 => by
    show fnd Φ Ψ i q0 p0 (t + 1) = _
    simp only [fnd]
    rw [if_pos ⟨hi, hd⟩]
  | d + 1 => by
    have ih := fnd_at Φ Ψ i q0 p0 t hd hi d
    have m := dct_mono Φ Ψ (t + 1) d
    have y := dct_yes hd
    show fnd Φ Ψ i q0 p0 (t + 1 + d + 1) = _
    simp only [fnd]
    rw [if_neg (fun c => by omega)]
    exact ih
theorem diff_b16_z (hw : FoldW Φ) (hm : FoldM (f + 1) Φ mthings mquires firstLetter firstPage sizeOf placed kindOf catchOf) (hw2 : FoldW Ψ) (hm2 : FoldM (g + 1) Ψ mthings mquires firstLetter firstPage sizeOf placed kindOf catchOf) (hf : 0 ≤ f) (hf2 : f < 4) (hg : 0 ≤ g) (hg2 : g < 4) (ht : isThere (f + 1).toNat = 1) (ht2 : isThere (g + 1).toNat = 1) (i : Int) (h1 : -2147483648 ≤ i) (h2 : i < 2147483648) (q0 p0 : Int32) (k6 : Int32 → Int32 → Int32 → Int32 → Int32 → Int32 → Int32 → Option (Int32 × Int32 × Int32)) (q : Nat) (hq : q < 8) : ∀ (d n s : Nat), s + d = 8 * q + 8 → 8 * q ≤ s → d < n → F_X8_differences_b16 isThere mthings mquires sizeOf placed kindOf k6 n (fnd Φ Ψ i q0 p0 s).1 (fnd Φ Ψ i q0 p0 s).2 (zI f) (zI g) (zI i) (zI (dct Φ Ψ s)) (zI q) (zI ((s : Int) - 8 * q + 1)) = k6 (fnd Φ Ψ i q0 p0 (8 * q + 8)).1 (fnd Φ Ψ i q0 p0 (8 * q + 8)).2 (zI f) (zI g) (zI i) (zI (dct Φ Ψ (8 * q + 8))) (zI (q + 1))
  | 0, n + 1, s, hs, _, _ => by
    have : s = 8 * q + 8 := by omega
    subst this
    unfold F_X8_differences_b16
    simp (disch := omega) only [zl_0, zl_1, zl_2, zl_3, zl_4, zl_5, zl_6, zl_7, zl_8, zl_9, zl_10, zl_11, zl_12, zl_13, zl_14, zl_15, zl_16, zl_17, zl_18, zl_19, zl_20, zl_21, zl_22, zl_23, zl_24, zl_25, zl_26, zl_27, zl_28, zl_29, zl_30, zl_31, zl_32, zl_33, zl_34, zl_35, zl_36, zl_37, zl_38, zl_39, zl_40, zl_41, zl_42, zl_43, zl_44, zl_45, zl_46, zl_47, zl_48, zl_49, zl_50, zl_51, zl_52, zl_53, zl_54, zl_55, zl_56, zl_57, zl_58, zl_59, zl_60, zl_61, zl_62, zl_63, zl_64, zl_65, zl_66, zl_80, zl_97, zl_99, zl_103, zl_107, zl_112, zl_115, zl_100, zl_180, zl_210, zl_238, zl_255, zl_256, zl_400, zl_1000, zl_1024, zl_1260, zl_2000, zl_7140, zl_7200, zl_18414, zl_65536, zl_131072, zl_9999, zl_999, zI_add, zI_sub, zI_mul, zI_neg, zI_lt, zI_le, zI_eq, zI_clamp, ck_z, ckp_z, qb_z, qb_z0, Option.bind_some]
    rw [if_pos (by omega)]
  | d + 1, n + 1, s, hs, hs2, hn => by
    have ih := diff_b16_z hw hm hw2 hm2 hf hf2 hg hg2 ht ht2 i h1 h2 q0 p0 k6 q hq d n (s + 1) (by omega) (by omega) (by omega)
    have e1 : (s : Int) / 8 = q := by omega
    have e2 : (s : Int) % 8 + 1 = (s : Int) - 8 * q + 1 := by omega
    have r1 := sco_r hw ((s : Int) / 8) ((s : Int) % 8 + 1)
    have r2 := sco_r hw2 ((s : Int) / 8) ((s : Int) % 8 + 1)
    have r3 := dct_pos Φ Ψ s
    have r4 := dct_b Φ Ψ s
    have c1 := code_z (isThere := isThere) hw hm (by omega) (by omega) ht ((s : Int) / 8) ((s : Int) % 8 + 1) (by omega) (by omega) (by omega) (by omega)
    have c2 := code_z (isThere := isThere) hw2 hm2 (by omega) (by omega) ht2 ((s : Int) / 8) ((s : Int) % 8 + 1) (by omega) (by omega) (by omega) (by omega)
    rw [e1, e2] at c1 c2 r1 r2
    unfold F_X8_differences_b16
    simp only [F_X8_differences_b69]
    simp (disch := omega) only [zl_0, zl_1, zl_2, zl_3, zl_4, zl_5, zl_6, zl_7, zl_8, zl_9, zl_10, zl_11, zl_12, zl_13, zl_14, zl_15, zl_16, zl_17, zl_18, zl_19, zl_20, zl_21, zl_22, zl_23, zl_24, zl_25, zl_26, zl_27, zl_28, zl_29, zl_30, zl_31, zl_32, zl_33, zl_34, zl_35, zl_36, zl_37, zl_38, zl_39, zl_40, zl_41, zl_42, zl_43, zl_44, zl_45, zl_46, zl_47, zl_48, zl_49, zl_50, zl_51, zl_52, zl_53, zl_54, zl_55, zl_56, zl_57, zl_58, zl_59, zl_60, zl_61, zl_62, zl_63, zl_64, zl_65, zl_66, zl_80, zl_97, zl_99, zl_103, zl_107, zl_112, zl_115, zl_100, zl_180, zl_210, zl_238, zl_255, zl_256, zl_400, zl_1000, zl_1024, zl_1260, zl_2000, zl_7140, zl_7200, zl_18414, zl_65536, zl_131072, zl_9999, zl_999, zI_add, zI_sub, zI_mul, zI_neg, zI_lt, zI_le, zI_eq, zI_clamp, ck_z, ckp_z, qb_z, qb_z0, Option.bind_some, c1, c2]
    rw [← e2, ← e1]
    rw [show ((s + 1 : Nat) : Int) - 8 * (q : Int) + 1 = (s : Int) % 8 + 1 + 1 by omega, ← e1] at ih
    rw [if_neg (by omega)]
    by_cases h : dif Φ Ψ s
    · rw [if_neg h, ← dct_yes h]
      by_cases h3 : dct Φ Ψ s = i
      · rw [if_pos h3]
        have e3 : fnd Φ Ψ i q0 p0 (s + 1) = (zI ((s : Int) / 8), zI ((s : Int) % 8 + 1)) := by
          simp only [fnd]
          rw [if_pos ⟨h3, h⟩]
        rw [e3] at ih
        exact ih
      · rw [if_neg h3]
        have e3 : fnd Φ Ψ i q0 p0 (s + 1) = fnd Φ Ψ i q0 p0 s := by
          simp only [fnd]
          rw [if_neg (fun c => h3 c.1)]
        rw [e3] at ih
        exact ih
    · rw [if_pos (Classical.not_not.mp h), ← dct_no h]
      have e3 : fnd Φ Ψ i q0 p0 (s + 1) = fnd Φ Ψ i q0 p0 s := by
        simp only [fnd]
        rw [if_neg (fun c => h c.2)]
      rw [e3] at ih
      exact ih
theorem diff_b6_z (hw : FoldW Φ) (hm : FoldM (f + 1) Φ mthings mquires firstLetter firstPage sizeOf placed kindOf catchOf) (hw2 : FoldW Ψ) (hm2 : FoldM (g + 1) Ψ mthings mquires firstLetter firstPage sizeOf placed kindOf catchOf) (hf : 0 ≤ f) (hf2 : f < 4) (hg : 0 ≤ g) (hg2 : g < 4) (ht : isThere (f + 1).toNat = 1) (ht2 : isThere (g + 1).toNat = 1) (i : Int) (h1 : -2147483648 ≤ i) (h2 : i < 2147483648) (q0 p0 : Int32) : ∀ (d n q : Nat), q + d = 8 → d < n → F_X8_differences_b6 isThere mthings mquires sizeOf placed kindOf n (fnd Φ Ψ i q0 p0 (8 * q)).1 (fnd Φ Ψ i q0 p0 (8 * q)).2 (zI f) (zI g) (zI i) (zI (dct Φ Ψ (8 * q))) (zI q) = some (zI (dct Φ Ψ 64), (fnd Φ Ψ i q0 p0 64).1, (fnd Φ Ψ i q0 p0 64).2)
  | 0, n + 1, q, hs, _ => by
    have : q = 8 := by omega
    subst this
    unfold F_X8_differences_b6
    rfl
  | d + 1, n + 1, q, hs, hn => by
    have ih := diff_b6_z hw hm hw2 hm2 hf hf2 hg hg2 ht ht2 i h1 h2 q0 p0 d n (q + 1) (by omega) (by omega)
    have e := diff_b16_z hw hm hw2 hm2 hf hf2 hg hg2 ht ht2 i h1 h2 q0 p0 (fun m_foundQuire m_foundPlace x1 x2 x3 x4 x5 => F_X8_differences_b6 isThere mthings mquires sizeOf placed kindOf n m_foundQuire m_foundPlace x1 x2 x3 x4 x5) q (by omega) 8 FU (8 * q) (by omega) (by omega) (by unfold FU; omega)
    rw [show ((8 * q : Nat) : Int) - 8 * (q : Int) + 1 = 1 by omega] at e
    unfold F_X8_differences_b6
    simp (disch := omega) only [zl_0, zl_1, zl_2, zl_3, zl_4, zl_5, zl_6, zl_7, zl_8, zl_9, zl_10, zl_11, zl_12, zl_13, zl_14, zl_15, zl_16, zl_17, zl_18, zl_19, zl_20, zl_21, zl_22, zl_23, zl_24, zl_25, zl_26, zl_27, zl_28, zl_29, zl_30, zl_31, zl_32, zl_33, zl_34, zl_35, zl_36, zl_37, zl_38, zl_39, zl_40, zl_41, zl_42, zl_43, zl_44, zl_45, zl_46, zl_47, zl_48, zl_49, zl_50, zl_51, zl_52, zl_53, zl_54, zl_55, zl_56, zl_57, zl_58, zl_59, zl_60, zl_61, zl_62, zl_63, zl_64, zl_65, zl_66, zl_80, zl_97, zl_99, zl_103, zl_107, zl_112, zl_115, zl_100, zl_180, zl_210, zl_238, zl_255, zl_256, zl_400, zl_1000, zl_1024, zl_1260, zl_2000, zl_7140, zl_7200, zl_18414, zl_65536, zl_131072, zl_9999, zl_999, zI_add, zI_sub, zI_mul, zI_neg, zI_lt, zI_le, zI_eq, zI_clamp, ck_z, ckp_z, qb_z, qb_z0, Option.bind_some]
    rw [if_neg (by omega), e]
    rw [show 8 * (q + 1) = 8 * q + 8 by omega] at ih
    exact ih
theorem against_b30_al (a1 a2 : Int32) (a3 a4 a5 : Nat → Int32) : ∀ (n : Nat) (x y : Int32), F_X7_against_ok_al_b30 a1 a2 a3 a4 a5 n x y = F_X7_against_ok_ok_b30 a1 a2 a3 a4 a5 a1 a2 a3 a4 a5 n x y
  | 0, _, _ => rfl
  | n + 1, x, y => by
    unfold F_X7_against_ok_al_b30 F_X7_against_ok_ok_b30
    simp only [against_b30_al a1 a2 a3 a4 a5 n]
theorem nth_al (a1 a2 : Int32) (a3 a4 a5 : Nat → Int32) : ∀ (n : Nat) (x y z : Int32), F_X7_nthUnlike_s_b5 a1 a2 a3 a4 a5 n x y z = F_X7_nthUnlike_b5 a1 a2 a3 a4 a5 a1 a2 a3 a4 a5 n x y z
  | 0, _, _, _ => rfl
  | n + 1, x, y, z => by
    unfold F_X7_nthUnlike_s_b5 F_X7_nthUnlike_b5
    simp only [nth_al a1 a2 a3 a4 a5 n]
end FD

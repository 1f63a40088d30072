noncomputable def sgn (b : NF) (N p : Int) : Int := if 0 ≤ p ∧ p < N then (b p.toNat).toInt else -1
def lnum (c : Int32) : Nat → Nat → Int → Int
  | 0, _, a => a
  | d + 1, i, a => if s_abc i = c then lnum c d (i + 1) (i + 1) else lnum c d (i + 1) a
def fnum (c : Int32) : Nat → Nat → Int
  | 0, _ => -1
  | d + 1, i => if s_abc i = c then i + 1 else fnum c d (i + 1)
theorem abc_inj : ∀ i, i < 23 → ∀ j, j < 23 → s_abc i = s_abc j → i = j := by decide +kernel
theorem abc_big : ∀ i, i < 23 → 65 ≤ (s_abc i).toInt := by decide +kernel
theorem fnum_s {c : Int32} {d i : Nat} (h : s_abc i = c) : fnum c (d + 1) i = i + 1 := by
  simp only [fnum]
  rw [if_pos h]
theorem fnum_f {c : Int32} {d i : Nat} (h : ¬ s_abc i = c) : fnum c (d + 1) i = fnum c d (i + 1) := by
  simp only [fnum]
  rw [if_neg h]
theorem lnum_s {c : Int32} {d i : Nat} {a : Int} (h : s_abc i = c) : lnum c (d + 1) i a = lnum c d (i + 1) (i + 1) := by
  simp only [lnum]
  rw [if_pos h]
theorem lnum_f {c : Int32} {d i : Nat} {a : Int} (h : ¬ s_abc i = c) : lnum c (d + 1) i a = lnum c d (i + 1) a := by
  simp only [lnum]
  rw [if_neg h]
theorem fnum_no (c : Int32) : ∀ (d i : Nat), (∀ k, i ≤ k → k < i + d → s_abc k ≠ c) → fnum c d i = -1
  | 0, _, _ => rfl
  | d + 1, i, h => by
    simp only [fnum]
    rw [if_neg (h i (by omega) (by omega))]
    exact fnum_no c d (i + 1) (fun k a b => h k (by omega) (by omega))
theorem fnum_b (c : Int32) : ∀ (d i : Nat), fnum c d i = -1 ∨ ((i : Int) < fnum c d i ∧ fnum c d i ≤ i + d)
  | 0, _ => Or.inl rfl
  | d + 1, i => by
    simp only [fnum]
    by_cases h : s_abc i = c
    · rw [if_pos h]; right; omega
    · rw [if_neg h]
      have := fnum_b c d (i + 1)
      omega
theorem lnum_fnum (c : Int32) : ∀ (d i : Nat) (a : Int), i + d ≤ 23 → lnum c d i a = if fnum c d i = -1 then a else fnum c d i
  | 0, _, _, _ => rfl
  | d + 1, i, a, hi => by
    by_cases h : s_abc i = c
    · rw [lnum_s h, fnum_s h, lnum_fnum c d (i + 1) _ (by omega), if_pos (fnum_no c d (i + 1) (fun k x y z => by have := abc_inj i (by omega) k (by omega) (h.trans z.symm); omega)), if_neg (by omega)]
    · rw [lnum_f h, fnum_f h]
      exact lnum_fnum c d (i + 1) a (by omega)
/-- the number of a letter; 0: none -/
def num (c : Int) : Int := if fnum (zI c) 23 0 = -1 then 0 else fnum (zI c) 23 0
theorem num_b (c : Int) : 0 ≤ num c ∧ num c ≤ 23 := by
  have := fnum_b (zI c) 23 0
  unfold num
  split <;> omega
theorem num_m1 (c : Int) (h1 : -2147483648 ≤ c) (h : c < 65) : num c = 0 := by
  unfold num
  rw [if_pos (fnum_no _ _ _ (fun k a b e => by
    have h2 := abc_big k (by omega)
    rw [e, zI_toInt h1 (by omega)] at h2
    omega))]
noncomputable def rdv (b : NF) (N p : Int) : Int := if num (sgn b N p) = 0 then 0 else if sgn b N (p + 1) = sgn b N p then num (sgn b N p) + 23 else num (sgn b N p)
noncomputable def rdp (b : NF) (N p : Int) : Int := if num (sgn b N p) = 0 then p else if sgn b N (p + 1) = sgn b N p then p + 2 else p + 1
section RD
variable {b t : NF} {N : Int}
theorem sgn_r (hN : 0 ≤ N) (h : TapE N b t) (p : Int) : -1 ≤ sgn b N p ∧ sgn b N p ≤ 255 := by
  unfold sgn
  by_cases c : 0 ≤ p ∧ p < N
  · rw [if_pos c]
    have := h p c.1 c.2
    omega
  · rw [if_neg c]
    omega
theorem sgn_y {p : Int} (h : 0 ≤ p) (h2 : p < N) : zI (sgn b N p) = b p.toNat := by
  unfold sgn
  rw [if_pos ⟨h, h2⟩, ← tI_of]
theorem sgn_m {p : Int} (h : ¬ p < N) : sgn b N p = -1 := by
  unfold sgn
  rw [if_neg (by omega)]
theorem rdv_b (hN : 0 ≤ N) (h : TapE N b t) (p : Int) (hp : 0 ≤ p) : 0 ≤ rdv b N p ∧ rdv b N p ≤ 46 ∧ p ≤ rdp b N p ∧ rdp b N p ≤ p + 2 ∧ (rdv b N p = 0 → rdp b N p = p) ∧ (rdv b N p ≠ 0 → p < N ∧ rdp b N p ≤ N ∧ p < rdp b N p) := by
  have hb := num_b (sgn b N p)
  have hr := sgn_r hN h p
  have hr1 := sgn_r hN h (p + 1)
  unfold rdv rdp
  by_cases c : num (sgn b N p) = 0
  · rw [if_pos c, if_pos c]
    omega
  · have hpN : p < N := by
      rcases Int.lt_or_le p N with x | x
      · exact x
      · exfalso
        apply c
        rw [sgn_m (by omega)]
        exact num_m1 _ (by omega) (by omega)
    have hne : sgn b N p ≠ -1 := by
      intro x
      apply c
      rw [x]
      exact num_m1 _ (by omega) (by omega)
    rw [if_neg c, if_neg c]
    by_cases c2 : sgn b N (p + 1) = sgn b N p
    · rw [if_pos c2, if_pos c2]
      have : p + 1 < N := by
        rcases Int.lt_or_le (p + 1) N with x | x
        · exact x
        · exfalso
          rw [sgn_m (by omega)] at c2
          exact hne c2.symm
      omega
    · rw [if_neg c2, if_neg c2]
      omega
theorem sign_z (hN : 0 ≤ N) (hN2 : N ≤ 400) (p : Int) (hp : 0 ≤ p) (hp2 : p < 100000) : F_X3_sign (zI p) b (zI N) = some (zI (sgn b N p)) := by
  by_cases c : p < N
  · rw [sgn_y hp c]
    unfold F_X3_sign F_X6_signAt
    simp (disch := omega) only [zl_0, zl_1, zl_2, zl_3, zl_4, zl_5, zl_6, zl_7, zl_8, zl_9, zl_10, zl_11, zl_12, zl_13, zl_14, zl_15, zl_16, zl_17, zl_18, zl_19, zl_20, zl_21, zl_22, zl_23, zl_24, zl_25, zl_26, zl_27, zl_28, zl_29, zl_30, zl_31, zl_32, zl_33, zl_34, zl_35, zl_36, zl_37, zl_38, zl_39, zl_40, zl_41, zl_42, zl_43, zl_44, zl_45, zl_46, zl_47, zl_48, zl_49, zl_50, zl_51, zl_52, zl_53, zl_54, zl_55, zl_56, zl_57, zl_58, zl_59, zl_60, zl_61, zl_62, zl_63, zl_64, zl_65, zl_66, zl_80, zl_97, zl_99, zl_103, zl_107, zl_112, zl_115, zl_100, zl_180, zl_210, zl_238, zl_255, zl_256, zl_400, zl_1000, zl_1024, zl_1260, zl_2000, zl_7140, zl_7200, zl_18414, zl_65536, zl_131072, zl_9999, zl_999, zI_add, zI_sub, zI_mul, zI_neg, zI_lt, zI_le, zI_eq, zI_clamp, ck_z, ckp_z, qb_z, qb_z0, Option.bind_some, if_pos, if_neg, reduceIte, reduceCtorEq, Bool.false_eq_true, Bool.true_eq_false]
  · rw [sgn_m c]
    unfold F_X3_sign F_X6_signAt
    simp (disch := omega) only [zl_0, zl_1, zl_2, zl_3, zl_4, zl_5, zl_6, zl_7, zl_8, zl_9, zl_10, zl_11, zl_12, zl_13, zl_14, zl_15, zl_16, zl_17, zl_18, zl_19, zl_20, zl_21, zl_22, zl_23, zl_24, zl_25, zl_26, zl_27, zl_28, zl_29, zl_30, zl_31, zl_32, zl_33, zl_34, zl_35, zl_36, zl_37, zl_38, zl_39, zl_40, zl_41, zl_42, zl_43, zl_44, zl_45, zl_46, zl_47, zl_48, zl_49, zl_50, zl_51, zl_52, zl_53, zl_54, zl_55, zl_56, zl_57, zl_58, zl_59, zl_60, zl_61, zl_62, zl_63, zl_64, zl_65, zl_66, zl_80, zl_97, zl_99, zl_103, zl_107, zl_112, zl_115, zl_100, zl_180, zl_210, zl_238, zl_255, zl_256, zl_400, zl_1000, zl_1024, zl_1260, zl_2000, zl_7140, zl_7200, zl_18414, zl_65536, zl_131072, zl_9999, zl_999, zI_add, zI_sub, zI_mul, zI_neg, zI_lt, zI_le, zI_eq, zI_clamp, ck_z, ckp_z, qb_z, qb_z0, Option.bind_some, if_pos, if_neg, reduceIte, reduceCtorEq, Bool.false_eq_true, Bool.true_eq_false]
theorem raw_z (hN : 0 ≤ N) (hN2 : N ≤ 400) (h : TapE N b t) (p : Int) (hp : 0 ≤ p) (hp2 : p < 100000) : F_X8_raw t (zI N) (zI p) = some (zI (sgn b N p)) := by
  by_cases c : p < N
  · rw [sgn_y hp c, (h p hp c).1]
    unfold F_X8_raw
    simp (disch := omega) only [zl_0, zl_1, zl_2, zl_3, zl_4, zl_5, zl_6, zl_7, zl_8, zl_9, zl_10, zl_11, zl_12, zl_13, zl_14, zl_15, zl_16, zl_17, zl_18, zl_19, zl_20, zl_21, zl_22, zl_23, zl_24, zl_25, zl_26, zl_27, zl_28, zl_29, zl_30, zl_31, zl_32, zl_33, zl_34, zl_35, zl_36, zl_37, zl_38, zl_39, zl_40, zl_41, zl_42, zl_43, zl_44, zl_45, zl_46, zl_47, zl_48, zl_49, zl_50, zl_51, zl_52, zl_53, zl_54, zl_55, zl_56, zl_57, zl_58, zl_59, zl_60, zl_61, zl_62, zl_63, zl_64, zl_65, zl_66, zl_80, zl_97, zl_99, zl_103, zl_107, zl_112, zl_115, zl_100, zl_180, zl_210, zl_238, zl_255, zl_256, zl_400, zl_1000, zl_1024, zl_1260, zl_2000, zl_7140, zl_7200, zl_18414, zl_65536, zl_131072, zl_9999, zl_999, zI_add, zI_sub, zI_mul, zI_neg, zI_lt, zI_le, zI_eq, zI_clamp, ck_z, ckp_z, qb_z, qb_z0, Option.bind_some, if_pos, if_neg, reduceIte, reduceCtorEq, Bool.false_eq_true, Bool.true_eq_false]
  · rw [sgn_m c]
    unfold F_X8_raw
    simp (disch := omega) only [zl_0, zl_1, zl_2, zl_3, zl_4, zl_5, zl_6, zl_7, zl_8, zl_9, zl_10, zl_11, zl_12, zl_13, zl_14, zl_15, zl_16, zl_17, zl_18, zl_19, zl_20, zl_21, zl_22, zl_23, zl_24, zl_25, zl_26, zl_27, zl_28, zl_29, zl_30, zl_31, zl_32, zl_33, zl_34, zl_35, zl_36, zl_37, zl_38, zl_39, zl_40, zl_41, zl_42, zl_43, zl_44, zl_45, zl_46, zl_47, zl_48, zl_49, zl_50, zl_51, zl_52, zl_53, zl_54, zl_55, zl_56, zl_57, zl_58, zl_59, zl_60, zl_61, zl_62, zl_63, zl_64, zl_65, zl_66, zl_80, zl_97, zl_99, zl_103, zl_107, zl_112, zl_115, zl_100, zl_180, zl_210, zl_238, zl_255, zl_256, zl_400, zl_1000, zl_1024, zl_1260, zl_2000, zl_7140, zl_7200, zl_18414, zl_65536, zl_131072, zl_9999, zl_999, zI_add, zI_sub, zI_mul, zI_neg, zI_lt, zI_le, zI_eq, zI_clamp, ck_z, ckp_z, qb_z, qb_z0, Option.bind_some, if_pos, if_neg, reduceIte, reduceCtorEq, Bool.false_eq_true, Bool.true_eq_false]
theorem readLetters_b9_z (hN : 0 ≤ N) (hN2 : N ≤ 400) (h : TapE N b t) (p : Int) (hp : 0 ≤ p) (hp2 : p < 90000) : ∀ (d m i : Nat) (a : Int), i + d = 23 → d < m → 0 ≤ a → a ≤ 23 → lnum (zI (sgn b N p)) d i a = num (sgn b N p) → F_X3_readLetters_b9 b (zI N) m (zI p) (zI (sgn b N p)) (zI a) (zI i) = some (zI (rdv b N p), zI (rdp b N p))
  | 0, m + 1, i, a, hi, _, h0, h1, hl => by
    have r1 := sgn_r hN h (p + 1)
    have r0 := sgn_r hN h p
    have e := sign_z (b := b) hN hN2 (p + 1) (by omega) (by omega)
    have hl' : a = num (sgn b N p) := hl
    subst hl'
    rw [F_X3_readLetters_b9]
    unfold rdv rdp
    by_cases c : num (sgn b N p) = 0
    · rw [if_pos c, if_pos c]
      simp (disch := omega) only [zl_0, zl_1, zl_2, zl_3, zl_4, zl_5, zl_6, zl_7, zl_8, zl_9, zl_10, zl_11, zl_12, zl_13, zl_14, zl_15, zl_16, zl_17, zl_18, zl_19, zl_20, zl_21, zl_22, zl_23, zl_24, zl_25, zl_26, zl_27, zl_28, zl_29, zl_30, zl_31, zl_32, zl_33, zl_34, zl_35, zl_36, zl_37, zl_38, zl_39, zl_40, zl_41, zl_42, zl_43, zl_44, zl_45, zl_46, zl_47, zl_48, zl_49, zl_50, zl_51, zl_52, zl_53, zl_54, zl_55, zl_56, zl_57, zl_58, zl_59, zl_60, zl_61, zl_62, zl_63, zl_64, zl_65, zl_66, zl_80, zl_97, zl_99, zl_103, zl_107, zl_112, zl_115, zl_100, zl_180, zl_210, zl_238, zl_255, zl_256, zl_400, zl_1000, zl_1024, zl_1260, zl_2000, zl_7140, zl_7200, zl_18414, zl_65536, zl_131072, zl_9999, zl_999, zI_add, zI_sub, zI_mul, zI_neg, zI_lt, zI_le, zI_eq, zI_clamp, ck_z, ckp_z, qb_z, qb_z0, Option.bind_some, if_pos, if_neg, reduceIte, reduceCtorEq, Bool.false_eq_true, Bool.true_eq_false]
    · rw [if_neg c, if_neg c]
      by_cases c2 : sgn b N (p + 1) = sgn b N p
      · rw [if_pos c2, if_pos c2, show p + 2 = p + 1 + 1 by omega]
        simp (disch := omega) only [zl_0, zl_1, zl_2, zl_3, zl_4, zl_5, zl_6, zl_7, zl_8, zl_9, zl_10, zl_11, zl_12, zl_13, zl_14, zl_15, zl_16, zl_17, zl_18, zl_19, zl_20, zl_21, zl_22, zl_23, zl_24, zl_25, zl_26, zl_27, zl_28, zl_29, zl_30, zl_31, zl_32, zl_33, zl_34, zl_35, zl_36, zl_37, zl_38, zl_39, zl_40, zl_41, zl_42, zl_43, zl_44, zl_45, zl_46, zl_47, zl_48, zl_49, zl_50, zl_51, zl_52, zl_53, zl_54, zl_55, zl_56, zl_57, zl_58, zl_59, zl_60, zl_61, zl_62, zl_63, zl_64, zl_65, zl_66, zl_80, zl_97, zl_99, zl_103, zl_107, zl_112, zl_115, zl_100, zl_180, zl_210, zl_238, zl_255, zl_256, zl_400, zl_1000, zl_1024, zl_1260, zl_2000, zl_7140, zl_7200, zl_18414, zl_65536, zl_131072, zl_9999, zl_999, zI_add, zI_sub, zI_mul, zI_neg, zI_lt, zI_le, zI_eq, zI_clamp, ck_z, ckp_z, qb_z, qb_z0, Option.bind_some, if_pos, if_neg, reduceIte, reduceCtorEq, Bool.false_eq_true, Bool.true_eq_false, e]
      · rw [if_neg c2, if_neg c2]
        simp (disch := omega) only [zl_0, zl_1, zl_2, zl_3, zl_4, zl_5, zl_6, zl_7, zl_8, zl_9, zl_10, zl_11, zl_12, zl_13, zl_14, zl_15, zl_16, zl_17, zl_18, zl_19, zl_20, zl_21, zl_22, zl_23, zl_24, zl_25, zl_26, zl_27, zl_28, zl_29, zl_30, zl_31, zl_32, zl_33, zl_34, zl_35, zl_36, zl_37, zl_38, zl_39, zl_40, zl_41, zl_42, zl_43, zl_44, zl_45, zl_46, zl_47, zl_48, zl_49, zl_50, zl_51, zl_52, zl_53, zl_54, zl_55, zl_56, zl_57, zl_58, zl_59, zl_60, zl_61, zl_62, zl_63, zl_64, zl_65, zl_66, zl_80, zl_97, zl_99, zl_103, zl_107, zl_112, zl_115, zl_100, zl_180, zl_210, zl_238, zl_255, zl_256, zl_400, zl_1000, zl_1024, zl_1260, zl_2000, zl_7140, zl_7200, zl_18414, zl_65536, zl_131072, zl_9999, zl_999, zI_add, zI_sub, zI_mul, zI_neg, zI_lt, zI_le, zI_eq, zI_clamp, ck_z, ckp_z, qb_z, qb_z0, Option.bind_some, if_pos, if_neg, reduceIte, reduceCtorEq, Bool.false_eq_true, Bool.true_eq_false, e]
  | d + 1, m + 1, i, a, hi, hm, h0, h1, hl => by
    simp only [lnum] at hl
    rw [F_X3_readLetters_b9]
    have hi2 : (zI (i : Int)).toNatClampNeg = i := by rw [zI_clamp (by omega) (by omega)]; omega
    rw [hi2]
    by_cases c : s_abc i = zI (sgn b N p)
    · rw [if_pos c] at hl
      have ih := readLetters_b9_z hN hN2 h p hp hp2 d m (i + 1) (i + 1) (by omega) (by omega) (by omega) (by omega) hl
      rw [if_pos c]
      simp (disch := omega) only [zl_0, zl_1, zl_2, zl_3, zl_4, zl_5, zl_6, zl_7, zl_8, zl_9, zl_10, zl_11, zl_12, zl_13, zl_14, zl_15, zl_16, zl_17, zl_18, zl_19, zl_20, zl_21, zl_22, zl_23, zl_24, zl_25, zl_26, zl_27, zl_28, zl_29, zl_30, zl_31, zl_32, zl_33, zl_34, zl_35, zl_36, zl_37, zl_38, zl_39, zl_40, zl_41, zl_42, zl_43, zl_44, zl_45, zl_46, zl_47, zl_48, zl_49, zl_50, zl_51, zl_52, zl_53, zl_54, zl_55, zl_56, zl_57, zl_58, zl_59, zl_60, zl_61, zl_62, zl_63, zl_64, zl_65, zl_66, zl_80, zl_97, zl_99, zl_103, zl_107, zl_112, zl_115, zl_100, zl_180, zl_210, zl_238, zl_255, zl_256, zl_400, zl_1000, zl_1024, zl_1260, zl_2000, zl_7140, zl_7200, zl_18414, zl_65536, zl_131072, zl_9999, zl_999, zI_add, zI_sub, zI_mul, zI_neg, zI_lt, zI_le, zI_eq, zI_clamp, ck_z, ckp_z, qb_z, qb_z0, Option.bind_some, if_pos, if_neg, reduceIte, reduceCtorEq, Bool.false_eq_true, Bool.true_eq_false]
      exact ih
    · rw [if_neg c] at hl
      have ih := readLetters_b9_z hN hN2 h p hp hp2 d m (i + 1) a (by omega) (by omega) (by omega) (by omega) hl
      rw [if_neg c]
      simp (disch := omega) only [zl_0, zl_1, zl_2, zl_3, zl_4, zl_5, zl_6, zl_7, zl_8, zl_9, zl_10, zl_11, zl_12, zl_13, zl_14, zl_15, zl_16, zl_17, zl_18, zl_19, zl_20, zl_21, zl_22, zl_23, zl_24, zl_25, zl_26, zl_27, zl_28, zl_29, zl_30, zl_31, zl_32, zl_33, zl_34, zl_35, zl_36, zl_37, zl_38, zl_39, zl_40, zl_41, zl_42, zl_43, zl_44, zl_45, zl_46, zl_47, zl_48, zl_49, zl_50, zl_51, zl_52, zl_53, zl_54, zl_55, zl_56, zl_57, zl_58, zl_59, zl_60, zl_61, zl_62, zl_63, zl_64, zl_65, zl_66, zl_80, zl_97, zl_99, zl_103, zl_107, zl_112, zl_115, zl_100, zl_180, zl_210, zl_238, zl_255, zl_256, zl_400, zl_1000, zl_1024, zl_1260, zl_2000, zl_7140, zl_7200, zl_18414, zl_65536, zl_131072, zl_9999, zl_999, zI_add, zI_sub, zI_mul, zI_neg, zI_lt, zI_le, zI_eq, zI_clamp, ck_z, ckp_z, qb_z, qb_z0, Option.bind_some, if_pos, if_neg, reduceIte, reduceCtorEq, Bool.false_eq_true, Bool.true_eq_false]
      exact ih
theorem readLetters_z (hN : 0 ≤ N) (hN2 : N ≤ 400) (h : TapE N b t) (p : Int) (hp : 0 ≤ p) (hp2 : p < 90000) : F_X3_readLetters (zI p) b (zI N) = some (zI (rdv b N p), zI (rdp b N p)) := by
  unfold F_X3_readLetters
  rw [sign_z hN hN2 p hp (by omega), Option.bind_some]
  exact readLetters_b9_z hN hN2 h p hp hp2 23 FU 0 0 (by omega) (by unfold FU; omega) (by omega) (by omega) (by rw [lnum_fnum _ _ _ _ (by omega)]; rfl)
theorem numberOf_z (c : Int) : ∀ (d m i : Nat), i + d = 23 → d < m → F_X8_numberOf_b2 m (zI c) (zI i) = some (zI (fnum (zI c) d i))
  | 0, m + 1, i, hi, _ => by
    rw [F_X8_numberOf_b2]
    simp (disch := omega) only [zl_0, zl_1, zl_2, zl_3, zl_4, zl_5, zl_6, zl_7, zl_8, zl_9, zl_10, zl_11, zl_12, zl_13, zl_14, zl_15, zl_16, zl_17, zl_18, zl_19, zl_20, zl_21, zl_22, zl_23, zl_24, zl_25, zl_26, zl_27, zl_28, zl_29, zl_30, zl_31, zl_32, zl_33, zl_34, zl_35, zl_36, zl_37, zl_38, zl_39, zl_40, zl_41, zl_42, zl_43, zl_44, zl_45, zl_46, zl_47, zl_48, zl_49, zl_50, zl_51, zl_52, zl_53, zl_54, zl_55, zl_56, zl_57, zl_58, zl_59, zl_60, zl_61, zl_62, zl_63, zl_64, zl_65, zl_66, zl_80, zl_97, zl_99, zl_103, zl_107, zl_112, zl_115, zl_100, zl_180, zl_210, zl_238, zl_255, zl_256, zl_400, zl_1000, zl_1024, zl_1260, zl_2000, zl_7140, zl_7200, zl_18414, zl_65536, zl_131072, zl_9999, zl_999, zI_add, zI_sub, zI_mul, zI_neg, zI_lt, zI_le, zI_eq, zI_clamp, ck_z, ckp_z, qb_z, qb_z0, Option.bind_some, if_pos, if_neg, reduceIte, reduceCtorEq, Bool.false_eq_true, Bool.true_eq_false]
    rfl
  | d + 1, m + 1, i, hi, hm => by
    have ih := numberOf_z c d m (i + 1) (by omega) (by omega)
    have e := (abc_sign i (by omega)).1
    rw [nI_zI] at e
    rw [F_X8_numberOf_b2]
    simp only [fnum]
    by_cases h : s_abc i = zI c
    · rw [if_pos h]
      simp (disch := omega) only [zl_0, zl_1, zl_2, zl_3, zl_4, zl_5, zl_6, zl_7, zl_8, zl_9, zl_10, zl_11, zl_12, zl_13, zl_14, zl_15, zl_16, zl_17, zl_18, zl_19, zl_20, zl_21, zl_22, zl_23, zl_24, zl_25, zl_26, zl_27, zl_28, zl_29, zl_30, zl_31, zl_32, zl_33, zl_34, zl_35, zl_36, zl_37, zl_38, zl_39, zl_40, zl_41, zl_42, zl_43, zl_44, zl_45, zl_46, zl_47, zl_48, zl_49, zl_50, zl_51, zl_52, zl_53, zl_54, zl_55, zl_56, zl_57, zl_58, zl_59, zl_60, zl_61, zl_62, zl_63, zl_64, zl_65, zl_66, zl_80, zl_97, zl_99, zl_103, zl_107, zl_112, zl_115, zl_100, zl_180, zl_210, zl_238, zl_255, zl_256, zl_400, zl_1000, zl_1024, zl_1260, zl_2000, zl_7140, zl_7200, zl_18414, zl_65536, zl_131072, zl_9999, zl_999, zI_add, zI_sub, zI_mul, zI_neg, zI_lt, zI_le, zI_eq, zI_clamp, ck_z, ckp_z, qb_z, qb_z0, Option.bind_some, if_pos, if_neg, reduceIte, reduceCtorEq, Bool.false_eq_true, Bool.true_eq_false, e, h]
    · rw [if_neg h]
      rw [e, Option.bind_some, if_neg h]
      simp (disch := omega) only [zl_0, zl_1, zl_2, zl_3, zl_4, zl_5, zl_6, zl_7, zl_8, zl_9, zl_10, zl_11, zl_12, zl_13, zl_14, zl_15, zl_16, zl_17, zl_18, zl_19, zl_20, zl_21, zl_22, zl_23, zl_24, zl_25, zl_26, zl_27, zl_28, zl_29, zl_30, zl_31, zl_32, zl_33, zl_34, zl_35, zl_36, zl_37, zl_38, zl_39, zl_40, zl_41, zl_42, zl_43, zl_44, zl_45, zl_46, zl_47, zl_48, zl_49, zl_50, zl_51, zl_52, zl_53, zl_54, zl_55, zl_56, zl_57, zl_58, zl_59, zl_60, zl_61, zl_62, zl_63, zl_64, zl_65, zl_66, zl_80, zl_97, zl_99, zl_103, zl_107, zl_112, zl_115, zl_100, zl_180, zl_210, zl_238, zl_255, zl_256, zl_400, zl_1000, zl_1024, zl_1260, zl_2000, zl_7140, zl_7200, zl_18414, zl_65536, zl_131072, zl_9999, zl_999, zI_add, zI_sub, zI_mul, zI_neg, zI_lt, zI_le, zI_eq, zI_clamp, ck_z, ckp_z, qb_z, qb_z0, Option.bind_some, if_pos, if_neg, reduceIte, reduceCtorEq, Bool.false_eq_true, Bool.true_eq_false]
      exact ih
theorem readLettersM_z (hN : 0 ≤ N) (hN2 : N ≤ 400) (h : TapE N b t) (p : Int) (hp : 0 ≤ p) (hp2 : p < 90000) : F_X8_readLetters t (zI N) (zI p) = some (zI (if rdv b N p = 0 then -1 else rdv b N p), zI (rdp b N p)) := by
  have e0 : F_X8_numberOf (zI (sgn b N p)) = some (zI (fnum (zI (sgn b N p)) 23 0)) := numberOf_z _ 23 FU 0 (by omega) (by unfold FU; omega)
  have r1 := sgn_r hN h (p + 1)
  have r0 := sgn_r hN h p
  have nb := num_b (sgn b N p)
  have fb := fnum_b (zI (sgn b N p)) 23 0
  have e1 := raw_z hN hN2 h (p + 1) (by omega) (by omega)
  unfold F_X8_readLetters
  rw [raw_z hN hN2 h p hp (by omega), Option.bind_some, e0, Option.bind_some, Option.bind_some]
  unfold rdv rdp
  have en : num (sgn b N p) = if fnum (zI (sgn b N p)) 23 0 = -1 then 0 else fnum (zI (sgn b N p)) 23 0 := rfl
  generalize fnum (zI (sgn b N p)) 23 0 = f at *
  generalize num (sgn b N p) = nn at *
  by_cases c : f = -1
  · rw [if_pos c] at en
    subst en
    rw [if_pos rfl, if_pos rfl]
    simp (disch := omega) only [zl_0, zl_1, zl_2, zl_3, zl_4, zl_5, zl_6, zl_7, zl_8, zl_9, zl_10, zl_11, zl_12, zl_13, zl_14, zl_15, zl_16, zl_17, zl_18, zl_19, zl_20, zl_21, zl_22, zl_23, zl_24, zl_25, zl_26, zl_27, zl_28, zl_29, zl_30, zl_31, zl_32, zl_33, zl_34, zl_35, zl_36, zl_37, zl_38, zl_39, zl_40, zl_41, zl_42, zl_43, zl_44, zl_45, zl_46, zl_47, zl_48, zl_49, zl_50, zl_51, zl_52, zl_53, zl_54, zl_55, zl_56, zl_57, zl_58, zl_59, zl_60, zl_61, zl_62, zl_63, zl_64, zl_65, zl_66, zl_80, zl_97, zl_99, zl_103, zl_107, zl_112, zl_115, zl_100, zl_180, zl_210, zl_238, zl_255, zl_256, zl_400, zl_1000, zl_1024, zl_1260, zl_2000, zl_7140, zl_7200, zl_18414, zl_65536, zl_131072, zl_9999, zl_999, zI_add, zI_sub, zI_mul, zI_neg, zI_lt, zI_le, zI_eq, zI_clamp, ck_z, ckp_z, qb_z, qb_z0, Option.bind_some, if_pos, if_neg, reduceIte, reduceCtorEq, Bool.false_eq_true, Bool.true_eq_false]
  · rw [if_neg c] at en
    subst en
    rw [if_neg (show ¬ nn = 0 by omega), if_neg (show ¬ nn = 0 by omega)]
    by_cases c2 : sgn b N (p + 1) = sgn b N p
    · rw [if_pos c2, if_pos c2, if_neg (show ¬ nn + 23 = 0 by omega), show p + 2 = p + 1 + 1 by omega]
      simp (disch := omega) only [zl_0, zl_1, zl_2, zl_3, zl_4, zl_5, zl_6, zl_7, zl_8, zl_9, zl_10, zl_11, zl_12, zl_13, zl_14, zl_15, zl_16, zl_17, zl_18, zl_19, zl_20, zl_21, zl_22, zl_23, zl_24, zl_25, zl_26, zl_27, zl_28, zl_29, zl_30, zl_31, zl_32, zl_33, zl_34, zl_35, zl_36, zl_37, zl_38, zl_39, zl_40, zl_41, zl_42, zl_43, zl_44, zl_45, zl_46, zl_47, zl_48, zl_49, zl_50, zl_51, zl_52, zl_53, zl_54, zl_55, zl_56, zl_57, zl_58, zl_59, zl_60, zl_61, zl_62, zl_63, zl_64, zl_65, zl_66, zl_80, zl_97, zl_99, zl_103, zl_107, zl_112, zl_115, zl_100, zl_180, zl_210, zl_238, zl_255, zl_256, zl_400, zl_1000, zl_1024, zl_1260, zl_2000, zl_7140, zl_7200, zl_18414, zl_65536, zl_131072, zl_9999, zl_999, zI_add, zI_sub, zI_mul, zI_neg, zI_lt, zI_le, zI_eq, zI_clamp, ck_z, ckp_z, qb_z, qb_z0, Option.bind_some, if_pos, if_neg, reduceIte, reduceCtorEq, Bool.false_eq_true, Bool.true_eq_false, e1]
    · rw [if_neg c2, if_neg c2, if_neg (show ¬ nn = 0 by omega)]
      simp (disch := omega) only [zl_0, zl_1, zl_2, zl_3, zl_4, zl_5, zl_6, zl_7, zl_8, zl_9, zl_10, zl_11, zl_12, zl_13, zl_14, zl_15, zl_16, zl_17, zl_18, zl_19, zl_20, zl_21, zl_22, zl_23, zl_24, zl_25, zl_26, zl_27, zl_28, zl_29, zl_30, zl_31, zl_32, zl_33, zl_34, zl_35, zl_36, zl_37, zl_38, zl_39, zl_40, zl_41, zl_42, zl_43, zl_44, zl_45, zl_46, zl_47, zl_48, zl_49, zl_50, zl_51, zl_52, zl_53, zl_54, zl_55, zl_56, zl_57, zl_58, zl_59, zl_60, zl_61, zl_62, zl_63, zl_64, zl_65, zl_66, zl_80, zl_97, zl_99, zl_103, zl_107, zl_112, zl_115, zl_100, zl_180, zl_210, zl_238, zl_255, zl_256, zl_400, zl_1000, zl_1024, zl_1260, zl_2000, zl_7140, zl_7200, zl_18414, zl_65536, zl_131072, zl_9999, zl_999, zI_add, zI_sub, zI_mul, zI_neg, zI_lt, zI_le, zI_eq, zI_clamp, ck_z, ckp_z, qb_z, qb_z0, Option.bind_some, if_pos, if_neg, reduceIte, reduceCtorEq, Bool.false_eq_true, Bool.true_eq_false, e1]
end RD

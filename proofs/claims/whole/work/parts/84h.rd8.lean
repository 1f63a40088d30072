def PR (Φ : Fold) (l : Int) (nT : Int32) (nS nP nK : NF) : Prop := nT = zI (fT Φ) ∧ (∀ q, 0 ≤ q → q < fQ Φ → nS q.toNat = zI (fS Φ q)) ∧ (∀ q p, 0 ≤ q → q < fQ Φ → 1 ≤ p → p ≤ fS Φ q → (q = fQ Φ - 1 → p ≤ l) → nP (8 * q + p - 1).toNat = zI (fC Φ q p)) ∧ (∀ i, 0 ≤ i → i < fT Φ → i < 64 → nK i.toNat = zI (fK Φ i))
section RM
variable {κ π σ : Int → Int} {l : Int} {codes ep ek : NF}
theorem adds_z {Φ : Fold} {nT : Int32} {nS nP nK : NF} (hw : PW Φ l) (h : PR Φ l nT nS nP nK) (k : Int) (hT : fT Φ < 1000) : ∃ c, F_X8_adds nT nK (zI k) = some c ∧ PR (bT Φ k) l c.1 nS nP c.2 := by
  obtain ⟨rfl, h2, h3, h4⟩ := h
  have hr := hw.1
  unfold F_X8_adds
  by_cases c : 64 ≤ fT Φ
  · simp (disch := omega) only [zl_0, zl_1, zl_2, zl_3, zl_4, zl_5, zl_6, zl_7, zl_8, zl_9, zl_10, zl_11, zl_12, zl_13, zl_14, zl_15, zl_16, zl_17, zl_18, zl_19, zl_20, zl_21, zl_22, zl_23, zl_24, zl_25, zl_26, zl_27, zl_28, zl_29, zl_30, zl_31, zl_32, zl_33, zl_34, zl_35, zl_36, zl_37, zl_38, zl_39, zl_40, zl_41, zl_42, zl_43, zl_44, zl_45, zl_46, zl_47, zl_48, zl_49, zl_50, zl_51, zl_52, zl_53, zl_54, zl_55, zl_56, zl_57, zl_58, zl_59, zl_60, zl_61, zl_62, zl_63, zl_64, zl_65, zl_66, zl_80, zl_97, zl_99, zl_103, zl_107, zl_112, zl_115, zl_100, zl_180, zl_210, zl_238, zl_255, zl_256, zl_400, zl_1000, zl_1024, zl_1260, zl_2000, zl_7140, zl_7200, zl_18414, zl_65536, zl_131072, zl_9999, zl_999, zI_add, zI_sub, zI_mul, zI_neg, zI_lt, zI_le, zI_eq, zI_clamp, ck_z, ckp_z, qb_z, qb_z0, Option.bind_some, if_pos, if_neg, reduceIte, reduceCtorEq, Bool.false_eq_true, Bool.true_eq_false]
    refine ⟨_, rfl, rfl, h2, h3, fun i a b d => ?_⟩
    rw [bT_K, if_neg (by omega)]
    exact h4 i a (by omega) d
  · simp (disch := omega) only [zl_0, zl_1, zl_2, zl_3, zl_4, zl_5, zl_6, zl_7, zl_8, zl_9, zl_10, zl_11, zl_12, zl_13, zl_14, zl_15, zl_16, zl_17, zl_18, zl_19, zl_20, zl_21, zl_22, zl_23, zl_24, zl_25, zl_26, zl_27, zl_28, zl_29, zl_30, zl_31, zl_32, zl_33, zl_34, zl_35, zl_36, zl_37, zl_38, zl_39, zl_40, zl_41, zl_42, zl_43, zl_44, zl_45, zl_46, zl_47, zl_48, zl_49, zl_50, zl_51, zl_52, zl_53, zl_54, zl_55, zl_56, zl_57, zl_58, zl_59, zl_60, zl_61, zl_62, zl_63, zl_64, zl_65, zl_66, zl_80, zl_97, zl_99, zl_103, zl_107, zl_112, zl_115, zl_100, zl_180, zl_210, zl_238, zl_255, zl_256, zl_400, zl_1000, zl_1024, zl_1260, zl_2000, zl_7140, zl_7200, zl_18414, zl_65536, zl_131072, zl_9999, zl_999, zI_add, zI_sub, zI_mul, zI_neg, zI_lt, zI_le, zI_eq, zI_clamp, ck_z, ckp_z, qb_z, qb_z0, Option.bind_some, if_pos, if_neg, reduceIte, reduceCtorEq, Bool.false_eq_true, Bool.true_eq_false]
    refine ⟨_, rfl, rfl, h2, h3, fun i a b d => ?_⟩
    have b : i < fT Φ + 1 := b
    show upd nK (fT Φ).toNat (zI k) i.toNat = _
    rw [upd_z _ _ (by omega) a, bT_K]
    by_cases n : i = fT Φ
    · rw [if_pos n, if_pos n]
    · rw [if_neg n, if_neg n]
      exact h4 i a (by omega) d
theorem addsL_z {Φ : Fold} {nT : Int32} {nS nP nK : NF} (hw : PW Φ l) (h : PR Φ l nT nS nP nK) (k w : Int) (hQ : 0 < fQ Φ) (hl : l < fS Φ (fQ Φ - 1)) (hT : fT Φ < 1000) : ∃ c, F_X8_adds nT nK (zI k) = some c ∧ PR (bL Φ l k w) (l + 1) c.1 nS (upd nP (8 * (fQ Φ - 1) + (l + 1) - 1).toNat nT) c.2 := by
  obtain ⟨rfl, h2, h3, h4⟩ := h
  have hr := hw.1
  have hs := hw.2.1 (fQ Φ - 1) (by omega) (by omega)
  have hP : ∀ q p, 0 ≤ q → q < fQ Φ → 1 ≤ p → p ≤ fS Φ q → (q = fQ Φ - 1 → p ≤ l + 1) → upd nP (8 * (fQ Φ - 1) + (l + 1) - 1).toNat (zI (fT Φ)) (8 * q + p - 1).toNat = zI (fC (bL Φ l k w) q p) := by
    intro q p a b c d e
    have hs2 := hw.2.1 q a b
    rw [mp_up _ _ _ _ _ hQ (by omega) (by omega) a c (by omega), bL_C]
    by_cases n : q = fQ Φ - 1 ∧ p = l + 1
    · rw [if_pos n, if_pos n]
    · rw [if_neg n, if_neg n]
      exact h3 q p a b c d (by omega)
  unfold F_X8_adds
  by_cases c : 64 ≤ fT Φ
  · simp (disch := omega) only [zl_0, zl_1, zl_2, zl_3, zl_4, zl_5, zl_6, zl_7, zl_8, zl_9, zl_10, zl_11, zl_12, zl_13, zl_14, zl_15, zl_16, zl_17, zl_18, zl_19, zl_20, zl_21, zl_22, zl_23, zl_24, zl_25, zl_26, zl_27, zl_28, zl_29, zl_30, zl_31, zl_32, zl_33, zl_34, zl_35, zl_36, zl_37, zl_38, zl_39, zl_40, zl_41, zl_42, zl_43, zl_44, zl_45, zl_46, zl_47, zl_48, zl_49, zl_50, zl_51, zl_52, zl_53, zl_54, zl_55, zl_56, zl_57, zl_58, zl_59, zl_60, zl_61, zl_62, zl_63, zl_64, zl_65, zl_66, zl_80, zl_97, zl_99, zl_103, zl_107, zl_112, zl_115, zl_100, zl_180, zl_210, zl_238, zl_255, zl_256, zl_400, zl_1000, zl_1024, zl_1260, zl_2000, zl_7140, zl_7200, zl_18414, zl_65536, zl_131072, zl_9999, zl_999, zI_add, zI_sub, zI_mul, zI_neg, zI_lt, zI_le, zI_eq, zI_clamp, ck_z, ckp_z, qb_z, qb_z0, Option.bind_some, if_pos, if_neg, reduceIte, reduceCtorEq, Bool.false_eq_true, Bool.true_eq_false]
    refine ⟨_, rfl, rfl, h2, hP, fun i a b d => ?_⟩
    rw [bL_K, if_neg (by omega)]
    exact h4 i a (by omega) d
  · simp (disch := omega) only [zl_0, zl_1, zl_2, zl_3, zl_4, zl_5, zl_6, zl_7, zl_8, zl_9, zl_10, zl_11, zl_12, zl_13, zl_14, zl_15, zl_16, zl_17, zl_18, zl_19, zl_20, zl_21, zl_22, zl_23, zl_24, zl_25, zl_26, zl_27, zl_28, zl_29, zl_30, zl_31, zl_32, zl_33, zl_34, zl_35, zl_36, zl_37, zl_38, zl_39, zl_40, zl_41, zl_42, zl_43, zl_44, zl_45, zl_46, zl_47, zl_48, zl_49, zl_50, zl_51, zl_52, zl_53, zl_54, zl_55, zl_56, zl_57, zl_58, zl_59, zl_60, zl_61, zl_62, zl_63, zl_64, zl_65, zl_66, zl_80, zl_97, zl_99, zl_103, zl_107, zl_112, zl_115, zl_100, zl_180, zl_210, zl_238, zl_255, zl_256, zl_400, zl_1000, zl_1024, zl_1260, zl_2000, zl_7140, zl_7200, zl_18414, zl_65536, zl_131072, zl_9999, zl_999, zI_add, zI_sub, zI_mul, zI_neg, zI_lt, zI_le, zI_eq, zI_clamp, ck_z, ckp_z, qb_z, qb_z0, Option.bind_some, if_pos, if_neg, reduceIte, reduceCtorEq, Bool.false_eq_true, Bool.true_eq_false]
    refine ⟨_, rfl, rfl, h2, hP, fun i a b d => ?_⟩
    have b : i < fT Φ + 1 := b
    show upd nK (fT Φ).toNat (zI k) i.toNat = _
    rw [upd_z _ _ (by omega) a, bL_K]
    by_cases n : i = fT Φ
    · rw [if_pos n, if_pos n]
    · rw [if_neg n, if_neg n]
      exact h4 i a (by omega) d
theorem PR_bG {Φ : Fold} {nT : Int32} {nS nP nK : NF} (hw : PW Φ l) (h : PR Φ l nT nS nP nK) (hQ : 0 < fQ Φ) (hl : l < fS Φ (fQ Φ - 1)) : PR (bG Φ l) (l + 1) nT nS (upd nP (8 * (fQ Φ - 1) + (l + 1) - 1).toNat (-2)) nK := by
  obtain ⟨h1, h2, h3, h4⟩ := h
  have hr := hw.1
  have hs := hw.2.1 (fQ Φ - 1) (by omega) (by omega)
  refine ⟨h1, h2, fun q p a b c d e => ?_, h4⟩
  have b : q < fQ Φ := b
  have d : p ≤ fS Φ q := d
  have e : q = fQ Φ - 1 → p ≤ l + 1 := e
  have hs2 := hw.2.1 q a b
  rw [mp_up _ _ _ _ _ hQ (by omega) (by omega) a c (by omega), bG_C]
  by_cases n : q = fQ Φ - 1 ∧ p = l + 1
  · rw [if_pos n, if_pos n]
    rfl
  · rw [if_neg n, if_neg n]
    exact h3 q p a b c d (by omega)
theorem laid_b109_z (E : Int) (hs : ∀ j, 0 ≤ j → j < E → ek j.toNat = zI (κ j) ∧ ep j.toNat = zI (π j)) (hk : ∀ j, 0 ≤ j → j < E → 3 ≤ κ j ∧ κ j ≤ 5 ∧ 0 ≤ π j ∧ π j ≤ 8) (hE0 : 0 ≤ E) (hE : E ≤ 200) (p : Int) (hp : 0 ≤ p) (hp2 : p ≤ 8) (k14 : Int32 → NF → NF → NF → Int32 → Int32 → Int32 → Option (Int32 × Int32 × NF × NF × NF)) (nS nP : NF) (x1 x2 : Int32) : ∀ (d m : Nat) (i : Int) (Φ : Fold) (nT : Int32) (nK : NF), i + d = E → 0 ≤ i → d < m → fT Φ + d < 1000 → PW Φ l → PR Φ l nT nS nP nK → ∃ nT' nK', F_X8_laid_b109 codes ep ek (zI E) k14 m nT nS nP nK x1 x2 (zI p) (zI i) = k14 nT' nS nP nK' x1 x2 (zI (p + 1)) ∧ PW (rl κ π p d i Φ) l ∧ PR (rl κ π p d i Φ) l nT' nS nP nK'
  | 0, m + 1, i, Φ, nT, nK, hi, hi0, hm, hT, hw, hc => by
    rw [F_X8_laid_b109]
    simp (disch := omega) only [zl_0, zl_1, zl_2, zl_3, zl_4, zl_5, zl_6, zl_7, zl_8, zl_9, zl_10, zl_11, zl_12, zl_13, zl_14, zl_15, zl_16, zl_17, zl_18, zl_19, zl_20, zl_21, zl_22, zl_23, zl_24, zl_25, zl_26, zl_27, zl_28, zl_29, zl_30, zl_31, zl_32, zl_33, zl_34, zl_35, zl_36, zl_37, zl_38, zl_39, zl_40, zl_41, zl_42, zl_43, zl_44, zl_45, zl_46, zl_47, zl_48, zl_49, zl_50, zl_51, zl_52, zl_53, zl_54, zl_55, zl_56, zl_57, zl_58, zl_59, zl_60, zl_61, zl_62, zl_63, zl_64, zl_65, zl_66, zl_80, zl_97, zl_99, zl_103, zl_107, zl_112, zl_115, zl_100, zl_180, zl_210, zl_238, zl_255, zl_256, zl_400, zl_1000, zl_1024, zl_1260, zl_2000, zl_7140, zl_7200, zl_18414, zl_65536, zl_131072, zl_9999, zl_999, zI_add, zI_sub, zI_mul, zI_neg, zI_lt, zI_le, zI_eq, zI_clamp, ck_z, ckp_z, qb_z, qb_z0, Option.bind_some, if_pos, if_neg, reduceIte, reduceCtorEq, Bool.false_eq_true, Bool.true_eq_false]
    exact ⟨_, _, rfl, hw, hc⟩
  | d + 1, m + 1, i, Φ, nT, nK, hi, hi0, hm, hT, hw, hc => by
    have s := hs i hi0 (by omega)
    have k := hk i hi0 (by omega)
    rw [F_X8_laid_b109]
    simp only [rl]
    by_cases h : π i = p
    · rw [if_pos h]
      obtain ⟨c, e, hc2⟩ := adds_z hw hc (κ i) (by omega)
      have ih := laid_b109_z E hs hk hE0 hE p hp hp2 k14 nS nP x1 x2 d m (i + 1) (bT Φ (κ i)) c.1 c.2 (by omega) (by omega) (by omega) (by have : fT (bT Φ (κ i)) = fT Φ + 1 := rfl; omega) (PW_bT hw (by omega) (by omega)) hc2
      simp (disch := omega) only [zl_0, zl_1, zl_2, zl_3, zl_4, zl_5, zl_6, zl_7, zl_8, zl_9, zl_10, zl_11, zl_12, zl_13, zl_14, zl_15, zl_16, zl_17, zl_18, zl_19, zl_20, zl_21, zl_22, zl_23, zl_24, zl_25, zl_26, zl_27, zl_28, zl_29, zl_30, zl_31, zl_32, zl_33, zl_34, zl_35, zl_36, zl_37, zl_38, zl_39, zl_40, zl_41, zl_42, zl_43, zl_44, zl_45, zl_46, zl_47, zl_48, zl_49, zl_50, zl_51, zl_52, zl_53, zl_54, zl_55, zl_56, zl_57, zl_58, zl_59, zl_60, zl_61, zl_62, zl_63, zl_64, zl_65, zl_66, zl_80, zl_97, zl_99, zl_103, zl_107, zl_112, zl_115, zl_100, zl_180, zl_210, zl_238, zl_255, zl_256, zl_400, zl_1000, zl_1024, zl_1260, zl_2000, zl_7140, zl_7200, zl_18414, zl_65536, zl_131072, zl_9999, zl_999, zI_add, zI_sub, zI_mul, zI_neg, zI_lt, zI_le, zI_eq, zI_clamp, ck_z, ckp_z, qb_z, qb_z0, Option.bind_some, if_pos, if_neg, reduceIte, reduceCtorEq, Bool.false_eq_true, Bool.true_eq_false, s.1, s.2, e]
      exact ih
    · rw [if_neg h]
      have ih := laid_b109_z E hs hk hE0 hE p hp hp2 k14 nS nP x1 x2 d m (i + 1) Φ nT nK (by omega) (by omega) (by omega) (by omega) hw hc
      simp (disch := omega) only [zl_0, zl_1, zl_2, zl_3, zl_4, zl_5, zl_6, zl_7, zl_8, zl_9, zl_10, zl_11, zl_12, zl_13, zl_14, zl_15, zl_16, zl_17, zl_18, zl_19, zl_20, zl_21, zl_22, zl_23, zl_24, zl_25, zl_26, zl_27, zl_28, zl_29, zl_30, zl_31, zl_32, zl_33, zl_34, zl_35, zl_36, zl_37, zl_38, zl_39, zl_40, zl_41, zl_42, zl_43, zl_44, zl_45, zl_46, zl_47, zl_48, zl_49, zl_50, zl_51, zl_52, zl_53, zl_54, zl_55, zl_56, zl_57, zl_58, zl_59, zl_60, zl_61, zl_62, zl_63, zl_64, zl_65, zl_66, zl_80, zl_97, zl_99, zl_103, zl_107, zl_112, zl_115, zl_100, zl_180, zl_210, zl_238, zl_255, zl_256, zl_400, zl_1000, zl_1024, zl_1260, zl_2000, zl_7140, zl_7200, zl_18414, zl_65536, zl_131072, zl_9999, zl_999, zI_add, zI_sub, zI_mul, zI_neg, zI_lt, zI_le, zI_eq, zI_clamp, ck_z, ckp_z, qb_z, qb_z0, Option.bind_some, if_pos, if_neg, reduceIte, reduceCtorEq, Bool.false_eq_true, Bool.true_eq_false, s.1, s.2]
      exact ih
theorem laid_b14_z (hσ : StM σ codes) (hσw : StW σ) (n : Nat) (hs : ∀ j, 0 ≤ j → j < (n : Int) → ek j.toNat = zI (κ j) ∧ ep j.toNat = zI (π j)) (hk : ∀ j, 0 ≤ j → j < (n : Int) → 3 ≤ κ j ∧ κ j ≤ 5 ∧ 0 ≤ π j ∧ π j ≤ 8) (hn : n ≤ 200) (Φ : Fold) (hQ : 0 < fQ Φ) (hQ8 : fQ Φ ≤ 8) (size : Nat) (hsz : size ≤ 8) (hS : fS Φ (fQ Φ - 1) = size) (hT : fT Φ + 2 * size + n < 700) (hw0 : PW Φ 0) (hz0 : Wz Φ) (nS : NF) : ∀ (d m p : Nat) (nT : Int32) (nP nK : NF), p + d = size → d < m → PR (rq σ κ π n p Φ) p nT nS nP nK → ∃ c, F_X8_laid_b14 codes ep ek (zI n) m nT nS nP nK (zI size) (zI (fQ Φ - 1)) (zI (p + 1)) = some c ∧ c.2.1 = zI (fQ Φ) ∧ PR (rq σ κ π n size Φ) size c.1 c.2.2.1 c.2.2.2.1 c.2.2.2.2
  | 0, m + 1, p, nT, nP, nK, hp, _, hc => by
    have e : p = size := by omega
    subst e
    rw [F_X8_laid_b14]
    simp (disch := omega) only [zl_0, zl_1, zl_2, zl_3, zl_4, zl_5, zl_6, zl_7, zl_8, zl_9, zl_10, zl_11, zl_12, zl_13, zl_14, zl_15, zl_16, zl_17, zl_18, zl_19, zl_20, zl_21, zl_22, zl_23, zl_24, zl_25, zl_26, zl_27, zl_28, zl_29, zl_30, zl_31, zl_32, zl_33, zl_34, zl_35, zl_36, zl_37, zl_38, zl_39, zl_40, zl_41, zl_42, zl_43, zl_44, zl_45, zl_46, zl_47, zl_48, zl_49, zl_50, zl_51, zl_52, zl_53, zl_54, zl_55, zl_56, zl_57, zl_58, zl_59, zl_60, zl_61, zl_62, zl_63, zl_64, zl_65, zl_66, zl_80, zl_97, zl_99, zl_103, zl_107, zl_112, zl_115, zl_100, zl_180, zl_210, zl_238, zl_255, zl_256, zl_400, zl_1000, zl_1024, zl_1260, zl_2000, zl_7140, zl_7200, zl_18414, zl_65536, zl_131072, zl_9999, zl_999, zI_add, zI_sub, zI_mul, zI_neg, zI_lt, zI_le, zI_eq, zI_clamp, ck_z, ckp_z, qb_z, qb_z0, Option.bind_some, if_pos, if_neg, reduceIte, reduceCtorEq, Bool.false_eq_true, Bool.true_eq_false]
    exact ⟨_, rfl, by show zI (fQ Φ - 1 + 1) = _; congr 1; omega, hc⟩
  | d + 1, m + 1, p, nT, nP, nK, hp, hm, hc => by
    have hf := rq_f σ κ π n Φ p
    have hpw := PW_rq (σ := σ) (κ := κ) (π := π) n (fun j a b => ⟨(hk j a b).1, (hk j a b).2.1⟩) hw0 hz0 hQ p (by omega)
    have hTp := rq_T σ κ π n Φ p
    have cb := cle_b π (p : Int) n 0
    have cb0 := cle_b π 0 n 0
    have st := hσ (p + 1) (by omega) (by omega)
    have sw := hσw.2 (p + 1)
    have hQp : 0 < fQ (rq σ κ π n p Φ) := by rw [hf.1]; exact hQ
    have hlp : (p : Int) < fS (rq σ κ π n p Φ) (fQ (rq σ κ π n p Φ) - 1) := by rw [hf.1, hf.2.1, hS]; omega
    rw [F_X8_laid_b14]
    generalize hK : (fun m_newThings m_newSize m_newPlaced m_newKind x1 x2 x3 => F_X8_laid_b14 codes ep ek (zI n) m m_newThings m_newSize m_newPlaced m_newKind x1 x2 x3) = K
    have rest (Ψ : Fold) (hΨ : Ψ = rx σ (p + 1) p (rq σ κ π n p Φ)) (hwΨ : PW Ψ (p + 1)) (nT' : Int32) (nP' nK' : NF) (hc' : PR Ψ (p + 1) nT' nS nP' nK') : ∃ c, F_X8_laid_b109 codes ep ek (zI n) K FU nT' nS nP' nK' (zI size) (zI (fQ Φ - 1)) (zI (p + 1)) 0 = some c ∧ c.2.1 = zI (fQ Φ) ∧ PR (rq σ κ π n size Φ) size c.1 c.2.2.1 c.2.2.2.1 c.2.2.2.2 := by
      have tx := rx_T σ (p + 1) p (rq σ κ π n p Φ)
      rw [← hΨ] at tx
      obtain ⟨nT2, nK2, e1, e2, e3⟩ := laid_b109_z (codes := codes) n hs hk (by omega) (by omega) (p + 1) (by omega) (by omega) K nS nP' (zI size) (zI (fQ Φ - 1)) n FU 0 Ψ nT' nK' (by omega) (by omega) (by unfold FU; omega) (by omega) hwΨ hc'
      have er : rq σ κ π n (p + 1) Φ = rl κ π (p + 1) n 0 Ψ := by rw [hΨ]; rfl
      rw [← er] at e3
      have ih := laid_b14_z hσ hσw n hs hk hn Φ hQ hQ8 size hsz hS hT hw0 hz0 nS d m (p + 1) nT2 nP' nK2 (by omega) (by omega) e3
      have e1' : F_X8_laid_b109 codes ep ek (zI n) K FU nT' nS nP' nK' (zI size) (zI (fQ Φ - 1)) (zI (p + 1)) 0 = K nT2 nS nP' nK2 (zI size) (zI (fQ Φ - 1)) (zI (p + 1 + 1)) := e1
      rw [e1', ← hK]
      exact ih
    have l1 : ¬ zI (size : Int) < zI (p + 1) := by simp (disch := omega) only [zl_0, zl_1, zl_2, zl_3, zl_4, zl_5, zl_6, zl_7, zl_8, zl_9, zl_10, zl_11, zl_12, zl_13, zl_14, zl_15, zl_16, zl_17, zl_18, zl_19, zl_20, zl_21, zl_22, zl_23, zl_24, zl_25, zl_26, zl_27, zl_28, zl_29, zl_30, zl_31, zl_32, zl_33, zl_34, zl_35, zl_36, zl_37, zl_38, zl_39, zl_40, zl_41, zl_42, zl_43, zl_44, zl_45, zl_46, zl_47, zl_48, zl_49, zl_50, zl_51, zl_52, zl_53, zl_54, zl_55, zl_56, zl_57, zl_58, zl_59, zl_60, zl_61, zl_62, zl_63, zl_64, zl_65, zl_66, zl_80, zl_97, zl_99, zl_103, zl_107, zl_112, zl_115, zl_100, zl_180, zl_210, zl_238, zl_255, zl_256, zl_400, zl_1000, zl_1024, zl_1260, zl_2000, zl_7140, zl_7200, zl_18414, zl_65536, zl_131072, zl_9999, zl_999, zI_add, zI_sub, zI_mul, zI_neg, zI_lt, zI_le, zI_eq, zI_clamp, ck_z, ckp_z, qb_z, qb_z0, Option.bind_some]; omega
    have l2 : ¬ zI ((p : Int) + 1) ≤ 0 := by simp (disch := omega) only [zl_0, zl_1, zl_2, zl_3, zl_4, zl_5, zl_6, zl_7, zl_8, zl_9, zl_10, zl_11, zl_12, zl_13, zl_14, zl_15, zl_16, zl_17, zl_18, zl_19, zl_20, zl_21, zl_22, zl_23, zl_24, zl_25, zl_26, zl_27, zl_28, zl_29, zl_30, zl_31, zl_32, zl_33, zl_34, zl_35, zl_36, zl_37, zl_38, zl_39, zl_40, zl_41, zl_42, zl_43, zl_44, zl_45, zl_46, zl_47, zl_48, zl_49, zl_50, zl_51, zl_52, zl_53, zl_54, zl_55, zl_56, zl_57, zl_58, zl_59, zl_60, zl_61, zl_62, zl_63, zl_64, zl_65, zl_66, zl_80, zl_97, zl_99, zl_103, zl_107, zl_112, zl_115, zl_100, zl_180, zl_210, zl_238, zl_255, zl_256, zl_400, zl_1000, zl_1024, zl_1260, zl_2000, zl_7140, zl_7200, zl_18414, zl_65536, zl_131072, zl_9999, zl_999, zI_add, zI_sub, zI_mul, zI_neg, zI_lt, zI_le, zI_eq, zI_clamp, ck_z, ckp_z, qb_z, qb_z0, Option.bind_some]; omega
    have ix : (8 : Int32) * zI (fQ Φ - 1) + zI (p + 1) - 1 = zI (8 * (fQ Φ - 1) + (p + 1) - 1) := by rw [zl_8, zl_1, zI_mul, zI_add, zI_sub]
    have b91 (Ψ : Fold) (nT' : Int32) (nP' nK' : NF) (hne : σ (p + 1) ≠ 4) : F_X8_laid_b91 codes ep ek (zI n) K nT' nS nP' nK' (zI size) (zI (fQ Φ - 1)) (zI (p + 1)) = F_X8_laid_b109 codes ep ek (zI n) K FU nT' nS nP' nK' (zI size) (zI (fQ Φ - 1)) (zI (p + 1)) 0 := by
      unfold F_X8_laid_b91
      have x4 : ¬ zI (σ (p + 1)) = 4 := by simp (disch := omega) only [zl_0, zl_1, zl_2, zl_3, zl_4, zl_5, zl_6, zl_7, zl_8, zl_9, zl_10, zl_11, zl_12, zl_13, zl_14, zl_15, zl_16, zl_17, zl_18, zl_19, zl_20, zl_21, zl_22, zl_23, zl_24, zl_25, zl_26, zl_27, zl_28, zl_29, zl_30, zl_31, zl_32, zl_33, zl_34, zl_35, zl_36, zl_37, zl_38, zl_39, zl_40, zl_41, zl_42, zl_43, zl_44, zl_45, zl_46, zl_47, zl_48, zl_49, zl_50, zl_51, zl_52, zl_53, zl_54, zl_55, zl_56, zl_57, zl_58, zl_59, zl_60, zl_61, zl_62, zl_63, zl_64, zl_65, zl_66, zl_80, zl_97, zl_99, zl_103, zl_107, zl_112, zl_115, zl_100, zl_180, zl_210, zl_238, zl_255, zl_256, zl_400, zl_1000, zl_1024, zl_1260, zl_2000, zl_7140, zl_7200, zl_18414, zl_65536, zl_131072, zl_9999, zl_999, zI_add, zI_sub, zI_mul, zI_neg, zI_lt, zI_le, zI_eq, zI_clamp, ck_z, ckp_z, qb_z, qb_z0, Option.bind_some]; exact hne
      rw [ck_z (by omega) (by omega) (by omega), zI_clamp (by omega) (by omega), st, if_neg x4]
    rw [if_neg l1, if_neg l2, ck_z (by omega) (by omega) (by omega), zI_clamp (by omega) (by omega), st, ix]
    rw [← hf.1] at rest b91 ⊢
    have hQ8p : fQ (rq σ κ π n p Φ) ≤ 8 := by rw [hf.1]; exact hQ8
    rcases sw with h | h | h | h
    · have erx : rx σ (p + 1) p (rq σ κ π n p Φ) = bL (rq σ κ π n p Φ) p 1 0 := by
        unfold rx
        rw [if_neg (by omega), if_pos h]
      obtain ⟨c, e, hc2⟩ := addsL_z hpw.1 hc 1 0 hQp hlp (by omega)
      have g := rest _ erx.symm (PW_bL hpw.1 hQp hlp (Or.inl rfl)) _ _ _ hc2
      rw [h, if_neg (by decide)]
      unfold F_X8_laid_b55 F_X8_laid_b88
      rw [ck_z (by omega) (by omega) (by omega), ck_z (by omega) (by omega) (by omega), zI_clamp (by omega) (by omega), zI_clamp (by omega) (by omega), st, h, if_neg (by decide), ck_z (by omega) (by omega) (by omega), if_neg (by decide), ck_z (by omega) (by omega) (by omega), e, Option.bind_some, b91 Φ _ _ _ (by omega)]
      exact g
    · have erx : rx σ (p + 1) p (rq σ κ π n p Φ) = bL (rq σ κ π n p Φ) p 2 0 := by
        unfold rx
        rw [if_neg (by omega), if_neg (by omega), if_pos h]
      obtain ⟨c, e, hc2⟩ := addsL_z hpw.1 hc 2 0 hQp hlp (by omega)
      have g := rest _ erx.symm (PW_bL hpw.1 hQp hlp (Or.inr rfl)) _ _ _ hc2
      rw [h, if_neg (by decide)]
      unfold F_X8_laid_b55 F_X8_laid_b88
      rw [ck_z (by omega) (by omega) (by omega), ck_z (by omega) (by omega) (by omega), zI_clamp (by omega) (by omega), zI_clamp (by omega) (by omega), st, h, if_neg (by decide), ck_z (by omega) (by omega) (by omega), if_neg (by decide), ck_z (by omega) (by omega) (by omega), e, Option.bind_some, b91 Φ _ _ _ (by omega)]
      exact g
    · have erx : rx σ (p + 1) p (rq σ κ π n p Φ) = bT (bL (rq σ κ π n p Φ) p 2 0) 4 := by
        unfold rx
        rw [if_neg (by omega), if_neg (by omega), if_neg (by omega)]
      obtain ⟨c, e, hc2⟩ := addsL_z hpw.1 hc 2 0 hQp hlp (by omega)
      have hw2 : PW (bL (rq σ κ π n p Φ) p 2 0) (p + 1) := PW_bL hpw.1 hQp hlp (Or.inr rfl)
      obtain ⟨c', e2, hc3⟩ := adds_z hw2 hc2 4 (by have : fT (bL (rq σ κ π n p Φ) p 2 0) = fT (rq σ κ π n p Φ) + 1 := rfl; omega)
      have g := rest _ erx.symm (PW_bT hw2 (by decide) (by decide)) _ _ _ hc3
      rw [h, if_neg (by decide)]
      unfold F_X8_laid_b55 F_X8_laid_b88 F_X8_laid_b91
      have e' : F_X8_adds nT nK 2 = some c := e
      have e2' : F_X8_adds c.1 c.2 4 = some c' := e2
      rw [ck_z (by omega) (by omega) (by omega), ck_z (by omega) (by omega) (by omega), zI_clamp (by omega) (by omega), zI_clamp (by omega) (by omega), st, h, if_neg (by decide), ck_z (by omega) (by omega) (by omega), if_pos (by rfl), e', Option.bind_some, ck_z (by omega) (by omega) (by omega), if_pos (by rfl), e2', Option.bind_some]
      exact g
    · have erx : rx σ (p + 1) p (rq σ κ π n p Φ) = bG (rq σ κ π n p Φ) p := by
        unfold rx
        rw [if_pos h]
      have hc2 := PR_bG hpw.1 hc hQp hlp
      have g := rest _ erx.symm (PW_bG hpw.1 hQp hlp) _ _ _ hc2
      rw [h, if_pos (by rfl)]
      unfold F_X8_laid_b55
      rw [ck_z (by omega) (by omega) (by omega), ck_z (by omega) (by omega) (by omega), zI_clamp (by omega) (by omega), zI_clamp (by omega) (by omega), st, h, if_pos (by rfl), b91 Φ _ _ _ (by omega)]
      exact g
theorem laid_z (hσ : StM σ codes) (hσw : StW σ) (n : Nat) (hs : ∀ j, 0 ≤ j → j < (n : Int) → ek j.toNat = zI (κ j) ∧ ep j.toNat = zI (π j)) (hk : ∀ j, 0 ≤ j → j < (n : Int) → 3 ≤ κ j ∧ κ j ≤ 5 ∧ 0 ≤ π j ∧ π j ≤ 8) (hn : n ≤ 200) {Φ : Fold} (hQ : fQ Φ < 8) (size : Int) (hsz : 2 ≤ size ∧ size ≤ 8 ∧ size % 2 = 0) (hT : fT Φ < 200) (hw : PW Φ l) (hz : Wz Φ) (hl : 0 < fQ Φ → l = fS Φ (fQ Φ - 1)) {nT : Int32} {nS nP nK : NF} (hc : PR Φ l nT nS nP nK) : ∃ c, F_X8_laid nT (zI (fQ Φ)) nS nP nK codes ep ek (zI n) (zI size) = some c ∧ c.2.1 = zI (fQ Φ + 1) ∧ PR (rQ σ κ π n size Φ) size c.1 c.2.2.1 c.2.2.2.1 c.2.2.2.2 := by
  have h0 := hw.1
  have hc1 : PR Φ l nT (upd nS (fQ Φ).toNat (zI size)) nP nK := ⟨hc.1, fun q a b => by rw [upd_z _ _ (by omega) a, if_neg (by omega)]; exact hc.2.1 q a b, hc.2.2.1, hc.2.2.2⟩
  have hf := rl_f κ π 0 n 0 Φ
  have hT1 := rl_T κ π 0 n 0 Φ
  have hcl := cle_0 π n 0
  have hcb := cle_b π 0 n 0
  have hz1 := Wz_rl (π := π) (κ := κ) 0 n 0 Φ (fun j a b => ⟨(hk j a (by omega)).1, (hk j a (by omega)).2.1⟩) hz
  have hw1 := PW_rl (π := π) (κ := κ) (l := l) (fun _ => Or.inr trivial) 0 n 0 Φ (fun j a b => ⟨(hk j a (by omega)).1, (hk j a (by omega)).2.1⟩) hw
  have hb := PW_bQ (s := size) hw1 (by rw [hf.1, hf.2.1]; exact hl) (by rw [hf.1]; exact hQ) hsz
  have eb : fT (bQ (rl κ π 0 n 0 Φ) size) = fT (rl κ π 0 n 0 Φ) := rfl
  have eq : fQ (bQ (rl κ π 0 n 0 Φ) size) = fQ Φ + 1 := by show fQ (rl κ π 0 n 0 Φ) + 1 = _; rw [hf.1]
  unfold F_X8_laid
  rw [ck_z (by omega) (by omega) (by omega), zI_clamp (by omega) (by omega)]
  show ∃ c, F_X8_laid_b14 codes ep ek (zI n) (1048575 + 1) nT (upd nS (fQ Φ).toNat (zI size)) nP nK (zI size) (zI (fQ Φ)) 0 = some c ∧ _
  have l1 : ¬ zI size < 0 := by simp (disch := omega) only [zl_0, zl_1, zl_2, zl_3, zl_4, zl_5, zl_6, zl_7, zl_8, zl_9, zl_10, zl_11, zl_12, zl_13, zl_14, zl_15, zl_16, zl_17, zl_18, zl_19, zl_20, zl_21, zl_22, zl_23, zl_24, zl_25, zl_26, zl_27, zl_28, zl_29, zl_30, zl_31, zl_32, zl_33, zl_34, zl_35, zl_36, zl_37, zl_38, zl_39, zl_40, zl_41, zl_42, zl_43, zl_44, zl_45, zl_46, zl_47, zl_48, zl_49, zl_50, zl_51, zl_52, zl_53, zl_54, zl_55, zl_56, zl_57, zl_58, zl_59, zl_60, zl_61, zl_62, zl_63, zl_64, zl_65, zl_66, zl_80, zl_97, zl_99, zl_103, zl_107, zl_112, zl_115, zl_100, zl_180, zl_210, zl_238, zl_255, zl_256, zl_400, zl_1000, zl_1024, zl_1260, zl_2000, zl_7140, zl_7200, zl_18414, zl_65536, zl_131072, zl_9999, zl_999, zI_add, zI_sub, zI_mul, zI_neg, zI_lt, zI_le, zI_eq, zI_clamp, ck_z, ckp_z, qb_z, qb_z0, Option.bind_some]; omega
  rw [F_X8_laid_b14, if_neg l1, if_pos (by decide)]
  obtain ⟨nT2, nK2, e1, e2, e3⟩ := laid_b109_z (codes := codes) n hs hk (by omega) (by omega) 0 (by omega) (by omega) (fun m_newThings m_newSize m_newPlaced m_newKind x1 x2 x3 => F_X8_laid_b14 codes ep ek (zI n) 1048575 m_newThings m_newSize m_newPlaced m_newKind x1 x2 x3) (upd nS (fQ Φ).toNat (zI size)) nP (zI size) (zI (fQ Φ)) n FU 0 Φ nT nK (by omega) (by omega) (by unfold FU; omega) (by omega) hw hc1
  have hr2 : PR (bQ (rl κ π 0 n 0 Φ) size) 0 nT2 (upd nS (fQ Φ).toNat (zI size)) nP nK2 := by
    obtain ⟨p1, p2, p3, p4⟩ := e3
    refine ⟨p1, fun q a b => ?_, fun q p a b c d e => ?_, p4⟩
    · rw [eq] at b
      rw [bQ_S, hf.1, upd_z _ _ (by omega) a]
      by_cases x : q = fQ Φ
      · rw [if_pos x, if_pos x]
      · rw [if_neg x, if_neg x]
        have := p2 q a (by rw [hf.1]; omega)
        rw [upd_z _ _ (by omega) a, if_neg x] at this
        exact this
    · rw [eq] at b e
      rw [bQ_S, hf.1] at d
      have ne : ¬ q = fQ Φ := by intro x; have := e (by omega); omega
      rw [if_neg ne] at d
      refine p3 q p a (by rw [hf.1]; omega) c d (fun x => ?_)
      rw [hf.1] at x
      subst x
      have := hl (by omega)
      rw [hf.2.1] at d
      omega
  obtain ⟨c3, e6, e7, e8⟩ := laid_b14_z hσ hσw n hs hk hn (bQ (rl κ π 0 n 0 Φ) size) (by rw [eq]; omega) (by rw [eq]; omega) size.toNat (by omega) (by rw [show fQ (bQ (rl κ π 0 n 0 Φ) size) - 1 = fQ (rl κ π 0 n 0 Φ) by show fQ (rl κ π 0 n 0 Φ) + 1 - 1 = _; omega, bQ_S, if_pos rfl]; omega) (by omega) hb hz1 (upd nS (fQ Φ).toNat (zI size)) size.toNat 1048575 0 nT2 nP nK2 (by omega) (by omega) hr2
  rw [Int.toNat_of_nonneg (by omega)] at e6 e8
  rw [eq] at e6 e7
  refine ⟨c3, ?_, e7, e8⟩
  refine Eq.trans e1 ?_
  rw [show fQ Φ + 1 - 1 = fQ Φ by omega] at e6
  exact e6
end RM

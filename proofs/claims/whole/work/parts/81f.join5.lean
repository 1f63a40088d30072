abbrev NF : Type := Nat → Int32
abbrev IdR : Type := Int32 × Int32 × NF × NF × NF × NF × NF × NF × NF × NF × NF × Int32 × NF × NF
section JM
variable {A B Φ : Fold} {l f g : Int} {mthings mquires firstLetter firstPage sizeOf placed kindOf catchOf isThere : Nat → Int32} {made : Int32} {madeKind madePlaced : Nat → Int32}
theorem ideal_body (hA : FoldW A) (mA : FoldM f A mthings mquires firstLetter firstPage sizeOf placed kindOf catchOf) (hB : FoldW B) (mB : FoldM g B mthings mquires firstLetter firstPage sizeOf placed kindOf catchOf) (hf : 0 ≤ f) (hf2 : f < 5) (hg : 0 ≤ g) (hg2 : g < 5) (told : Int32) (k158 : Int32 → NF → NF → NF → NF → NF → NF → NF → NF → NF → Int32 → NF → NF → Int32 → Int32 → Int32 → Int32 → Int32 → Option IdR) (x5 : Int32) (q p : Int) (hq : q = fQ Φ - 1) (hp : p = l + 1) (hT : fT Φ ≤ 160) (hw : PW Φ l) (hc : PK Φ l made madeKind madePlaced) (hQ : 0 < fQ Φ) (hl : l < fS Φ (fQ Φ - 1)) : ∃ m' k' p', F_X8_ideal_b248 k158 told isThere mthings mquires firstLetter firstPage sizeOf placed kindOf catchOf made madeKind madePlaced (zI f) (zI g) x5 (zI q) (zI p) (zI (sco A q p)) (zI (if sco A q p = 2 ∨ sco B q p = 2 then 2 else if sco A q p = 4 ∨ sco B q p = 4 then 4 else if sco A q p = 3 ∨ sco B q p = 3 then 3 else 1)) = k158 told isThere mthings mquires firstLetter firstPage sizeOf placed kindOf catchOf m' k' p' (zI f) (zI g) x5 (zI q) (zI (p + 1)) ∧ PK (jP A B q p l Φ) (l + 1) m' k' p' := by
  have hr := hw.1
  have hs := hw.2.1 (fQ Φ - 1) (by omega) (by omega)
  have rA := sco_r hA q p
  have rB := sco_r hB q p
  have hq8 : 0 ≤ q ∧ q < 8 := by omega
  have hp8 : 1 ≤ p ∧ p ≤ 8 := by omega
  have eix : 8 * q + p - 1 = 8 * (fQ Φ - 1) + (l + 1) - 1 := by omega
  unfold F_X8_ideal_b248 jP jx
  by_cases h2 : sco A q p = 2 ∨ sco B q p = 2
  · rw [if_pos h2, if_pos h2]
    obtain ⟨c, e, hc2⟩ := makesL_z hw hc 1 0 hQ hl (by omega)
    obtain ⟨m', k', e2, hc3⟩ := ideal_b315_z (RT := Nat) (isThere := isThere) hA mA hB mB hf hf2 hg hg2 told k158 x5 q p hq8.1 hq8.2 hp8.1 hp8.2 (by have : fT (bL Φ l 1 0) = fT Φ + 1 := rfl; omega) (PW_bL (k := 1) (w := 0) hw hQ hl (Or.inl rfl)) hc2 (by omega)
    rw [← eix] at e2 hc3
    unfold F_X8_ideal_b279 F_X8_ideal_b301
    simp (disch := omega) only [zl_0, zl_1, zl_2, zl_3, zl_4, zl_5, zl_6, zl_7, zl_8, zl_9, zl_10, zl_11, zl_12, zl_13, zl_14, zl_15, zl_16, zl_17, zl_18, zl_19, zl_20, zl_21, zl_22, zl_23, zl_24, zl_25, zl_26, zl_27, zl_28, zl_29, zl_30, zl_31, zl_32, zl_33, zl_34, zl_35, zl_36, zl_37, zl_38, zl_39, zl_40, zl_41, zl_42, zl_43, zl_44, zl_45, zl_46, zl_47, zl_48, zl_49, zl_50, zl_51, zl_52, zl_53, zl_54, zl_55, zl_56, zl_57, zl_58, zl_59, zl_60, zl_61, zl_62, zl_63, zl_64, zl_65, zl_66, zl_80, zl_97, zl_99, zl_103, zl_107, zl_112, zl_115, zl_100, zl_180, zl_210, zl_238, zl_255, zl_256, zl_400, zl_1000, zl_1024, zl_1260, zl_2000, zl_7140, zl_7200, zl_18414, zl_65536, zl_131072, zl_9999, zl_999, zI_add, zI_sub, zI_mul, zI_neg, zI_lt, zI_le, zI_eq, zI_clamp, ck_z, ckp_z, qb_z, qb_z0, Option.bind_some, if_pos, if_neg, reduceIte, reduceCtorEq, Bool.false_eq_true, Bool.true_eq_false, e]
    rw [e2]
    exact ⟨_, _, _, rfl, hc3⟩
  · rw [if_neg h2, if_neg h2]
    by_cases h4 : sco A q p = 4 ∨ sco B q p = 4
    · rw [if_pos h4, if_pos h4]
      obtain ⟨c, e, hc2⟩ := makesL_z hw hc 2 0 hQ hl (by omega)
      have hw2 : PW (bL Φ l 2 0) (l + 1) := PW_bL hw hQ hl (Or.inr rfl)
      obtain ⟨c', e', hc2'⟩ := makes_z hw2 hc2 4 (by have : fT (bL Φ l 2 0) = fT Φ + 1 := rfl; omega)
      obtain ⟨m', k', e2, hc3⟩ := ideal_b315_z (RT := Nat) (isThere := isThere) hA mA hB mB hf hf2 hg hg2 told k158 x5 q p hq8.1 hq8.2 hp8.1 hp8.2 (by have : fT (bT (bL Φ l 2 0) 4) = fT Φ + 1 + 1 := rfl; omega) (PW_bT (k := 4) hw2 (by decide) (by decide)) hc2' (by omega)
      rw [← eix] at e2 hc3
      unfold F_X8_ideal_b279 F_X8_ideal_b301
      simp (disch := omega) only [zl_0, zl_1, zl_2, zl_3, zl_4, zl_5, zl_6, zl_7, zl_8, zl_9, zl_10, zl_11, zl_12, zl_13, zl_14, zl_15, zl_16, zl_17, zl_18, zl_19, zl_20, zl_21, zl_22, zl_23, zl_24, zl_25, zl_26, zl_27, zl_28, zl_29, zl_30, zl_31, zl_32, zl_33, zl_34, zl_35, zl_36, zl_37, zl_38, zl_39, zl_40, zl_41, zl_42, zl_43, zl_44, zl_45, zl_46, zl_47, zl_48, zl_49, zl_50, zl_51, zl_52, zl_53, zl_54, zl_55, zl_56, zl_57, zl_58, zl_59, zl_60, zl_61, zl_62, zl_63, zl_64, zl_65, zl_66, zl_80, zl_97, zl_99, zl_103, zl_107, zl_112, zl_115, zl_100, zl_180, zl_210, zl_238, zl_255, zl_256, zl_400, zl_1000, zl_1024, zl_1260, zl_2000, zl_7140, zl_7200, zl_18414, zl_65536, zl_131072, zl_9999, zl_999, zI_add, zI_sub, zI_mul, zI_neg, zI_lt, zI_le, zI_eq, zI_clamp, ck_z, ckp_z, qb_z, qb_z0, Option.bind_some, if_pos, if_neg, reduceIte, reduceCtorEq, Bool.false_eq_true, Bool.true_eq_false, e, e']
      rw [e2]
      exact ⟨_, _, _, rfl, hc3⟩
    · rw [if_neg h4, if_neg h4]
      by_cases h3 : sco A q p = 3 ∨ sco B q p = 3
      · rw [if_pos h3, if_pos h3]
        obtain ⟨c, e, hc2⟩ := makesL_z hw hc 2 0 hQ hl (by omega)
        obtain ⟨m', k', e2, hc3⟩ := ideal_b315_z (RT := Nat) (isThere := isThere) hA mA hB mB hf hf2 hg hg2 told k158 x5 q p hq8.1 hq8.2 hp8.1 hp8.2 (by have : fT (bL Φ l 2 0) = fT Φ + 1 := rfl; omega) (PW_bL (k := 2) (w := 0) hw hQ hl (Or.inr rfl)) hc2 (by omega)
        rw [← eix] at e2 hc3
        unfold F_X8_ideal_b279 F_X8_ideal_b301
        simp (disch := omega) only [zl_0, zl_1, zl_2, zl_3, zl_4, zl_5, zl_6, zl_7, zl_8, zl_9, zl_10, zl_11, zl_12, zl_13, zl_14, zl_15, zl_16, zl_17, zl_18, zl_19, zl_20, zl_21, zl_22, zl_23, zl_24, zl_25, zl_26, zl_27, zl_28, zl_29, zl_30, zl_31, zl_32, zl_33, zl_34, zl_35, zl_36, zl_37, zl_38, zl_39, zl_40, zl_41, zl_42, zl_43, zl_44, zl_45, zl_46, zl_47, zl_48, zl_49, zl_50, zl_51, zl_52, zl_53, zl_54, zl_55, zl_56, zl_57, zl_58, zl_59, zl_60, zl_61, zl_62, zl_63, zl_64, zl_65, zl_66, zl_80, zl_97, zl_99, zl_103, zl_107, zl_112, zl_115, zl_100, zl_180, zl_210, zl_238, zl_255, zl_256, zl_400, zl_1000, zl_1024, zl_1260, zl_2000, zl_7140, zl_7200, zl_18414, zl_65536, zl_131072, zl_9999, zl_999, zI_add, zI_sub, zI_mul, zI_neg, zI_lt, zI_le, zI_eq, zI_clamp, ck_z, ckp_z, qb_z, qb_z0, Option.bind_some, if_pos, if_neg, reduceIte, reduceCtorEq, Bool.false_eq_true, Bool.true_eq_false, e]
        rw [e2]
        exact ⟨_, _, _, rfl, hc3⟩
      · rw [if_neg h3, if_neg h3]
        have hc2 := PK_bG hw hc hQ hl
        rw [← eix] at hc2
        have ej : jy A B q p (bG Φ l) = bG Φ l := by
          unfold jy
          rw [if_neg (by omega), if_neg (by omega)]
        rw [ej]
        unfold F_X8_ideal_b279
        simp (disch := omega) only [zl_0, zl_1, zl_2, zl_3, zl_4, zl_5, zl_6, zl_7, zl_8, zl_9, zl_10, zl_11, zl_12, zl_13, zl_14, zl_15, zl_16, zl_17, zl_18, zl_19, zl_20, zl_21, zl_22, zl_23, zl_24, zl_25, zl_26, zl_27, zl_28, zl_29, zl_30, zl_31, zl_32, zl_33, zl_34, zl_35, zl_36, zl_37, zl_38, zl_39, zl_40, zl_41, zl_42, zl_43, zl_44, zl_45, zl_46, zl_47, zl_48, zl_49, zl_50, zl_51, zl_52, zl_53, zl_54, zl_55, zl_56, zl_57, zl_58, zl_59, zl_60, zl_61, zl_62, zl_63, zl_64, zl_65, zl_66, zl_80, zl_97, zl_99, zl_103, zl_107, zl_112, zl_115, zl_100, zl_180, zl_210, zl_238, zl_255, zl_256, zl_400, zl_1000, zl_1024, zl_1260, zl_2000, zl_7140, zl_7200, zl_18414, zl_65536, zl_131072, zl_9999, zl_999, zI_add, zI_sub, zI_mul, zI_neg, zI_lt, zI_le, zI_eq, zI_clamp, ck_z, ckp_z, qb_z, qb_z0, Option.bind_some, if_pos, if_neg, reduceIte, reduceCtorEq, Bool.false_eq_true, Bool.true_eq_false]
        exact ⟨_, _, _, rfl, hc2⟩
theorem ideal_b158_z (hA : FoldW A) (mA : FoldM f A mthings mquires firstLetter firstPage sizeOf placed kindOf catchOf) (hB : FoldW B) (mB : FoldM g B mthings mquires firstLetter firstPage sizeOf placed kindOf catchOf) (hf : 0 ≤ f) (hf2 : f < 5) (hg : 0 ≤ g) (hg2 : g < 5) (tA : isThere f.toNat = 1) (tB : isThere g.toNat = 1) (told : Int32) (k143 : Int32 → NF → NF → NF → NF → NF → NF → NF → NF → NF → Int32 → NF → NF → Int32 → Int32 → Int32 → Int32 → Option IdR) (x5 : Int) (hx : 0 ≤ x5) (hx2 : x5 < 5) (q : Int) (hq : q = fQ Φ - 1) (s : Nat) (hs : (s : Int) = fS Φ (fQ Φ - 1)) (hsz : sizeOf (8 * x5 + q).toNat = zI s) (hQ : 0 < fQ Φ) (hT : ∀ p, p ≤ s → fT (jQ A B q p Φ) ≤ 160) (hw0 : PW Φ 0) : ∀ (d m p : Nat) (made : Int32) (madeKind madePlaced : NF), p + d = s → d < m → PK (jQ A B q p Φ) p made madeKind madePlaced → ∃ m' k' p', F_X8_ideal_b158 k143 m told isThere mthings mquires firstLetter firstPage sizeOf placed kindOf catchOf made madeKind madePlaced (zI f) (zI g) (zI x5) (zI q) (zI (p + 1)) = k143 told isThere mthings mquires firstLetter firstPage sizeOf placed kindOf catchOf m' k' p' (zI f) (zI g) (zI x5) (zI (q + 1)) ∧ PK (jQ A B q s Φ) s m' k' p'
  | 0, m + 1, p, made, madeKind, madePlaced, hp, _, hc => by
    have hr := hw0.1
    have hS := hw0.2.1 (fQ Φ - 1) (by omega) (by omega)
    have e : p = s := by omega
    subst e
    unfold F_X8_ideal_b158
    simp (disch := omega) only [zl_0, zl_1, zl_2, zl_3, zl_4, zl_5, zl_6, zl_7, zl_8, zl_9, zl_10, zl_11, zl_12, zl_13, zl_14, zl_15, zl_16, zl_17, zl_18, zl_19, zl_20, zl_21, zl_22, zl_23, zl_24, zl_25, zl_26, zl_27, zl_28, zl_29, zl_30, zl_31, zl_32, zl_33, zl_34, zl_35, zl_36, zl_37, zl_38, zl_39, zl_40, zl_41, zl_42, zl_43, zl_44, zl_45, zl_46, zl_47, zl_48, zl_49, zl_50, zl_51, zl_52, zl_53, zl_54, zl_55, zl_56, zl_57, zl_58, zl_59, zl_60, zl_61, zl_62, zl_63, zl_64, zl_65, zl_66, zl_80, zl_97, zl_99, zl_103, zl_107, zl_112, zl_115, zl_100, zl_180, zl_210, zl_238, zl_255, zl_256, zl_400, zl_1000, zl_1024, zl_1260, zl_2000, zl_7140, zl_7200, zl_18414, zl_65536, zl_131072, zl_9999, zl_999, zI_add, zI_sub, zI_mul, zI_neg, zI_lt, zI_le, zI_eq, zI_clamp, ck_z, ckp_z, qb_z, qb_z0, Option.bind_some, if_pos, if_neg, reduceIte, reduceCtorEq, Bool.false_eq_true, Bool.true_eq_false, hsz]
    exact ⟨_, _, _, rfl, hc⟩
  | d + 1, m + 1, p, made, madeKind, madePlaced, hp, hm, hc => by
    have hr := hw0.1
    have hS := hw0.2.1 (fQ Φ - 1) (by omega) (by omega)
    have hfq := jQ_f A B q Φ p
    have hw := PW_jQ (q := q) hA hB hw0 hQ p (by omega)
    have rA := sco_r hA q (p + 1)
    have rB := sco_r hB q (p + 1)
    have cA := code_z (isThere := isThere) hA mA hf hf2 tA q (p + 1) (by omega) (by omega) (by omega) (by omega)
    have cB := code_z (isThere := isThere) hB mB hg hg2 tB q (p + 1) (by omega) (by omega) (by omega) (by omega)
    obtain ⟨m', k', p', e1, hc2⟩ := ideal_body (isThere := isThere) hA mA hB mB hf hf2 hg hg2 told (fun a0 a1 a2 a3 a4 a5 a6 a7 a8 a9 b0 b1 b2 x3 x4 x5 x6 x7 => F_X8_ideal_b158 k143 m a0 a1 a2 a3 a4 a5 a6 a7 a8 a9 b0 b1 b2 x3 x4 x5 x6 x7) (zI x5) q (p + 1) (by rw [hfq.1]; exact hq) rfl (hT p (by omega)) hw hc (by rw [hfq.1]; exact hQ) (by rw [hfq.1, hfq.2.1]; omega)
    obtain ⟨m2, k2, p2, e2, hc3⟩ := ideal_b158_z hA mA hB mB hf hf2 hg hg2 tA tB told k143 x5 hx hx2 q hq s hs hsz hQ hT hw0 d m (p + 1) m' k' p' (by omega) (by omega) hc2
    refine ⟨m2, k2, p2, ?_, hc3⟩
    rw [← e2]
    refine Eq.trans ?_ e1
    rw [F_X8_ideal_b158]
    by_cases h2a : sco A q (p + 1) = 2
    · simp (disch := omega) only [zl_0, zl_1, zl_2, zl_3, zl_4, zl_5, zl_6, zl_7, zl_8, zl_9, zl_10, zl_11, zl_12, zl_13, zl_14, zl_15, zl_16, zl_17, zl_18, zl_19, zl_20, zl_21, zl_22, zl_23, zl_24, zl_25, zl_26, zl_27, zl_28, zl_29, zl_30, zl_31, zl_32, zl_33, zl_34, zl_35, zl_36, zl_37, zl_38, zl_39, zl_40, zl_41, zl_42, zl_43, zl_44, zl_45, zl_46, zl_47, zl_48, zl_49, zl_50, zl_51, zl_52, zl_53, zl_54, zl_55, zl_56, zl_57, zl_58, zl_59, zl_60, zl_61, zl_62, zl_63, zl_64, zl_65, zl_66, zl_80, zl_97, zl_99, zl_103, zl_107, zl_112, zl_115, zl_100, zl_180, zl_210, zl_238, zl_255, zl_256, zl_400, zl_1000, zl_1024, zl_1260, zl_2000, zl_7140, zl_7200, zl_18414, zl_65536, zl_131072, zl_9999, zl_999, zI_add, zI_sub, zI_mul, zI_neg, zI_lt, zI_le, zI_eq, zI_clamp, ck_z, ckp_z, qb_z, qb_z0, Option.bind_some, if_pos, if_neg, reduceIte, reduceCtorEq, Bool.false_eq_true, Bool.true_eq_false, hsz, cA, cB, show sco A q (p + 1) = 2 ∨ sco B q (p + 1) = 2 from Or.inl h2a]
    · by_cases h2b : sco B q (p + 1) = 2
      · simp (disch := omega) only [zl_0, zl_1, zl_2, zl_3, zl_4, zl_5, zl_6, zl_7, zl_8, zl_9, zl_10, zl_11, zl_12, zl_13, zl_14, zl_15, zl_16, zl_17, zl_18, zl_19, zl_20, zl_21, zl_22, zl_23, zl_24, zl_25, zl_26, zl_27, zl_28, zl_29, zl_30, zl_31, zl_32, zl_33, zl_34, zl_35, zl_36, zl_37, zl_38, zl_39, zl_40, zl_41, zl_42, zl_43, zl_44, zl_45, zl_46, zl_47, zl_48, zl_49, zl_50, zl_51, zl_52, zl_53, zl_54, zl_55, zl_56, zl_57, zl_58, zl_59, zl_60, zl_61, zl_62, zl_63, zl_64, zl_65, zl_66, zl_80, zl_97, zl_99, zl_103, zl_107, zl_112, zl_115, zl_100, zl_180, zl_210, zl_238, zl_255, zl_256, zl_400, zl_1000, zl_1024, zl_1260, zl_2000, zl_7140, zl_7200, zl_18414, zl_65536, zl_131072, zl_9999, zl_999, zI_add, zI_sub, zI_mul, zI_neg, zI_lt, zI_le, zI_eq, zI_clamp, ck_z, ckp_z, qb_z, qb_z0, Option.bind_some, if_pos, if_neg, reduceIte, reduceCtorEq, Bool.false_eq_true, Bool.true_eq_false, hsz, cA, cB]
      · by_cases h4a : sco A q (p + 1) = 4
        · simp (disch := omega) only [zl_0, zl_1, zl_2, zl_3, zl_4, zl_5, zl_6, zl_7, zl_8, zl_9, zl_10, zl_11, zl_12, zl_13, zl_14, zl_15, zl_16, zl_17, zl_18, zl_19, zl_20, zl_21, zl_22, zl_23, zl_24, zl_25, zl_26, zl_27, zl_28, zl_29, zl_30, zl_31, zl_32, zl_33, zl_34, zl_35, zl_36, zl_37, zl_38, zl_39, zl_40, zl_41, zl_42, zl_43, zl_44, zl_45, zl_46, zl_47, zl_48, zl_49, zl_50, zl_51, zl_52, zl_53, zl_54, zl_55, zl_56, zl_57, zl_58, zl_59, zl_60, zl_61, zl_62, zl_63, zl_64, zl_65, zl_66, zl_80, zl_97, zl_99, zl_103, zl_107, zl_112, zl_115, zl_100, zl_180, zl_210, zl_238, zl_255, zl_256, zl_400, zl_1000, zl_1024, zl_1260, zl_2000, zl_7140, zl_7200, zl_18414, zl_65536, zl_131072, zl_9999, zl_999, zI_add, zI_sub, zI_mul, zI_neg, zI_lt, zI_le, zI_eq, zI_clamp, ck_z, ckp_z, qb_z, qb_z0, Option.bind_some, if_pos, if_neg, reduceIte, reduceCtorEq, Bool.false_eq_true, Bool.true_eq_false, hsz, cA, cB]
        · by_cases h4b : sco B q (p + 1) = 4
          · simp (disch := omega) only [zl_0, zl_1, zl_2, zl_3, zl_4, zl_5, zl_6, zl_7, zl_8, zl_9, zl_10, zl_11, zl_12, zl_13, zl_14, zl_15, zl_16, zl_17, zl_18, zl_19, zl_20, zl_21, zl_22, zl_23, zl_24, zl_25, zl_26, zl_27, zl_28, zl_29, zl_30, zl_31, zl_32, zl_33, zl_34, zl_35, zl_36, zl_37, zl_38, zl_39, zl_40, zl_41, zl_42, zl_43, zl_44, zl_45, zl_46, zl_47, zl_48, zl_49, zl_50, zl_51, zl_52, zl_53, zl_54, zl_55, zl_56, zl_57, zl_58, zl_59, zl_60, zl_61, zl_62, zl_63, zl_64, zl_65, zl_66, zl_80, zl_97, zl_99, zl_103, zl_107, zl_112, zl_115, zl_100, zl_180, zl_210, zl_238, zl_255, zl_256, zl_400, zl_1000, zl_1024, zl_1260, zl_2000, zl_7140, zl_7200, zl_18414, zl_65536, zl_131072, zl_9999, zl_999, zI_add, zI_sub, zI_mul, zI_neg, zI_lt, zI_le, zI_eq, zI_clamp, ck_z, ckp_z, qb_z, qb_z0, Option.bind_some, if_pos, if_neg, reduceIte, reduceCtorEq, Bool.false_eq_true, Bool.true_eq_false, hsz, cA, cB]
          · by_cases h3a : sco A q (p + 1) = 3
            · simp (disch := omega) only [zl_0, zl_1, zl_2, zl_3, zl_4, zl_5, zl_6, zl_7, zl_8, zl_9, zl_10, zl_11, zl_12, zl_13, zl_14, zl_15, zl_16, zl_17, zl_18, zl_19, zl_20, zl_21, zl_22, zl_23, zl_24, zl_25, zl_26, zl_27, zl_28, zl_29, zl_30, zl_31, zl_32, zl_33, zl_34, zl_35, zl_36, zl_37, zl_38, zl_39, zl_40, zl_41, zl_42, zl_43, zl_44, zl_45, zl_46, zl_47, zl_48, zl_49, zl_50, zl_51, zl_52, zl_53, zl_54, zl_55, zl_56, zl_57, zl_58, zl_59, zl_60, zl_61, zl_62, zl_63, zl_64, zl_65, zl_66, zl_80, zl_97, zl_99, zl_103, zl_107, zl_112, zl_115, zl_100, zl_180, zl_210, zl_238, zl_255, zl_256, zl_400, zl_1000, zl_1024, zl_1260, zl_2000, zl_7140, zl_7200, zl_18414, zl_65536, zl_131072, zl_9999, zl_999, zI_add, zI_sub, zI_mul, zI_neg, zI_lt, zI_le, zI_eq, zI_clamp, ck_z, ckp_z, qb_z, qb_z0, Option.bind_some, if_pos, if_neg, reduceIte, reduceCtorEq, Bool.false_eq_true, Bool.true_eq_false, hsz, cA, cB]
            · by_cases h3b : sco B q (p + 1) = 3
              · simp (disch := omega) only [zl_0, zl_1, zl_2, zl_3, zl_4, zl_5, zl_6, zl_7, zl_8, zl_9, zl_10, zl_11, zl_12, zl_13, zl_14, zl_15, zl_16, zl_17, zl_18, zl_19, zl_20, zl_21, zl_22, zl_23, zl_24, zl_25, zl_26, zl_27, zl_28, zl_29, zl_30, zl_31, zl_32, zl_33, zl_34, zl_35, zl_36, zl_37, zl_38, zl_39, zl_40, zl_41, zl_42, zl_43, zl_44, zl_45, zl_46, zl_47, zl_48, zl_49, zl_50, zl_51, zl_52, zl_53, zl_54, zl_55, zl_56, zl_57, zl_58, zl_59, zl_60, zl_61, zl_62, zl_63, zl_64, zl_65, zl_66, zl_80, zl_97, zl_99, zl_103, zl_107, zl_112, zl_115, zl_100, zl_180, zl_210, zl_238, zl_255, zl_256, zl_400, zl_1000, zl_1024, zl_1260, zl_2000, zl_7140, zl_7200, zl_18414, zl_65536, zl_131072, zl_9999, zl_999, zI_add, zI_sub, zI_mul, zI_neg, zI_lt, zI_le, zI_eq, zI_clamp, ck_z, ckp_z, qb_z, qb_z0, Option.bind_some, if_pos, if_neg, reduceIte, reduceCtorEq, Bool.false_eq_true, Bool.true_eq_false, hsz, cA, cB]
              · simp (disch := omega) only [zl_0, zl_1, zl_2, zl_3, zl_4, zl_5, zl_6, zl_7, zl_8, zl_9, zl_10, zl_11, zl_12, zl_13, zl_14, zl_15, zl_16, zl_17, zl_18, zl_19, zl_20, zl_21, zl_22, zl_23, zl_24, zl_25, zl_26, zl_27, zl_28, zl_29, zl_30, zl_31, zl_32, zl_33, zl_34, zl_35, zl_36, zl_37, zl_38, zl_39, zl_40, zl_41, zl_42, zl_43, zl_44, zl_45, zl_46, zl_47, zl_48, zl_49, zl_50, zl_51, zl_52, zl_53, zl_54, zl_55, zl_56, zl_57, zl_58, zl_59, zl_60, zl_61, zl_62, zl_63, zl_64, zl_65, zl_66, zl_80, zl_97, zl_99, zl_103, zl_107, zl_112, zl_115, zl_100, zl_180, zl_210, zl_238, zl_255, zl_256, zl_400, zl_1000, zl_1024, zl_1260, zl_2000, zl_7140, zl_7200, zl_18414, zl_65536, zl_131072, zl_9999, zl_999, zI_add, zI_sub, zI_mul, zI_neg, zI_lt, zI_le, zI_eq, zI_clamp, ck_z, ckp_z, qb_z, qb_z0, Option.bind_some, if_pos, if_neg, reduceIte, reduceCtorEq, Bool.false_eq_true, Bool.true_eq_false, hsz, cA, cB]
end JM

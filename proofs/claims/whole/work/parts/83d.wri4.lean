section WR
variable {Φ : Fold} {quires things ghosts letter page : Int32} {sizes cells kinds words quireOf placeOf : NF} {mthings mquires firstLetter firstPage sizeOf placed kindOf catchOf isThere : NF}
theorem Rst_0 (hw : FoldW Φ) : Rst Φ 0 0 := by
  have hr := hw.1
  refine ⟨by omega, by omega, fun q p a b c d e => ?_⟩
  rcases hw.2.2.1 q p a b c d with g | g
  · exact Or.inl g
  · exact Or.inr g.1
theorem Rst_l (hw : FoldW Φ) : Rst Φ 0 (lnd Φ (-1)) := by
  have hr := hw.1
  have hb := lnd_b (Ξ := Φ) (-1) (by omega)
  have e : beh Φ (-1) = 0 := by unfold beh; rw [if_neg (by omega)]; rfl
  refine ⟨by omega, by omega, fun q p a b c d e' => ?_⟩
  rcases hw.2.2.1 q p a b c d with g | g
  · exact Or.inl g
  · rcases Int.lt_or_le (fC Φ q p) (lnd Φ (-1)) with x | x
    · exact absurd g.2.2.1 (hb.2.2 _ (by omega) x)
    · exact Or.inr x
theorem items_z (hw : FoldW Φ) (hc : FoldC Φ quires things ghosts letter page sizes cells kinds words quireOf placeOf) (hm : FoldM 0 Φ mthings mquires firstLetter firstPage sizeOf placed kindOf catchOf) (q : Int) (hq : 0 ≤ q) (hq2 : q < fQ Φ) (Bd : Int) (hB0 : 0 ≤ Bd) (hB : Bd ≤ 220) {n na : Int} {b o : NF} (i1 i2 : Int32) (hR : Rst Φ (8 * q) na) (hn : 0 ≤ n) (hn2 : n ≤ Bd + 3 * na) (hz : q = 0 → n ≤ Bd) (hE : TapE n b o) : ∃ b' o' n' it' na', F_X6_addItems b (zI n) i1 quires things sizes cells kinds (zI q) = some (b', zI n', zI it') ∧ F_X8_items mthings sizeOf placed kindOf o (zI n) i2 (zI q) = some (o', zI n', zI it') ∧ TapE n' b' o' ∧ Rst Φ (8 * q + fS Φ q) na' ∧ 0 ≤ n' ∧ n' ≤ Bd + 3 * fS Φ q + 3 * na' + 1 := by
  have hr := hw.1
  have hS := hw.2.1 q hq hq2
  unfold F_X6_addItems F_X8_items
  by_cases h0 : q = 0
  · subst h0
    have hb := lnd_b (Ξ := Φ) (-1) (by omega)
    have eb : beh Φ (-1) = 0 := by unfold beh; rw [if_neg (by omega)]; rfl
    have hz' := hz rfl
    obtain ⟨b1, o1, e1, e2, e3⟩ := extras_z hw hc hm (-1) 0 (by omega) (by omega) (by omega) (by omega) (it := 0) hn (by omega) (by omega) (by omega) hE
    rw [eb] at e1 e2 e3
    have r := Rst_l hw
    obtain ⟨b', o', n', it', na', j1, j2, j3⟩ := items_b18_z hw hc hm 0 (by omega) hq2 Bd hB0 hB (fS Φ 0).toNat FU FU 0 (n + 3 * (lnd Φ (-1) - 0)) (0 + (lnd Φ (-1) - 0)) (lnd Φ (-1)) b1 o1 (by omega) (by omega) (by unfold FU; omega) (by unfold FU; omega) r (by omega) (by omega) (by omega) (by omega) e3
    refine ⟨b', o', n', it', na', ?_, ?_, j3⟩
    · simp (disch := omega) only [zl_0, zl_1, zl_2, zl_3, zl_4, zl_5, zl_6, zl_7, zl_8, zl_9, zl_10, zl_11, zl_12, zl_13, zl_14, zl_15, zl_16, zl_17, zl_18, zl_19, zl_20, zl_21, zl_22, zl_23, zl_24, zl_25, zl_26, zl_27, zl_28, zl_29, zl_30, zl_31, zl_32, zl_33, zl_34, zl_35, zl_36, zl_37, zl_38, zl_39, zl_40, zl_41, zl_42, zl_43, zl_44, zl_45, zl_46, zl_47, zl_48, zl_49, zl_50, zl_51, zl_52, zl_53, zl_54, zl_55, zl_56, zl_57, zl_58, zl_59, zl_60, zl_61, zl_62, zl_63, zl_64, zl_65, zl_66, zl_80, zl_97, zl_99, zl_103, zl_107, zl_112, zl_115, zl_100, zl_180, zl_210, zl_238, zl_255, zl_256, zl_400, zl_1000, zl_1024, zl_1260, zl_2000, zl_7140, zl_7200, zl_18414, zl_65536, zl_131072, zl_9999, zl_999, zI_add, zI_sub, zI_mul, zI_neg, zI_lt, zI_le, zI_eq, zI_clamp, ck_z, ckp_z, qb_z, qb_z0, Option.bind_some, if_pos, if_neg, reduceIte, reduceCtorEq, Bool.false_eq_true, Bool.true_eq_false, e1]
      exact j1
    · simp (disch := omega) only [zl_0, zl_1, zl_2, zl_3, zl_4, zl_5, zl_6, zl_7, zl_8, zl_9, zl_10, zl_11, zl_12, zl_13, zl_14, zl_15, zl_16, zl_17, zl_18, zl_19, zl_20, zl_21, zl_22, zl_23, zl_24, zl_25, zl_26, zl_27, zl_28, zl_29, zl_30, zl_31, zl_32, zl_33, zl_34, zl_35, zl_36, zl_37, zl_38, zl_39, zl_40, zl_41, zl_42, zl_43, zl_44, zl_45, zl_46, zl_47, zl_48, zl_49, zl_50, zl_51, zl_52, zl_53, zl_54, zl_55, zl_56, zl_57, zl_58, zl_59, zl_60, zl_61, zl_62, zl_63, zl_64, zl_65, zl_66, zl_80, zl_97, zl_99, zl_103, zl_107, zl_112, zl_115, zl_100, zl_180, zl_210, zl_238, zl_255, zl_256, zl_400, zl_1000, zl_1024, zl_1260, zl_2000, zl_7140, zl_7200, zl_18414, zl_65536, zl_131072, zl_9999, zl_999, zI_add, zI_sub, zI_mul, zI_neg, zI_lt, zI_le, zI_eq, zI_clamp, ck_z, ckp_z, qb_z, qb_z0, Option.bind_some, if_pos, if_neg, reduceIte, reduceCtorEq, Bool.false_eq_true, Bool.true_eq_false, e2]
      exact j2
  · obtain ⟨b', o', n', it', na', j1, j2, j3⟩ := items_b18_z hw hc hm q hq hq2 Bd hB0 hB (fS Φ q).toNat FU FU 0 n 0 na b o (by omega) (by omega) (by unfold FU; omega) (by unfold FU; omega) (by rw [show 8 * q + 0 = 8 * q by omega]; exact hR) hn (by omega) (by omega) (by have := hR.1; omega) hE
    refine ⟨b', o', n', it', na', ?_, ?_, j3⟩
    · simp (disch := omega) only [zl_0, zl_1, zl_2, zl_3, zl_4, zl_5, zl_6, zl_7, zl_8, zl_9, zl_10, zl_11, zl_12, zl_13, zl_14, zl_15, zl_16, zl_17, zl_18, zl_19, zl_20, zl_21, zl_22, zl_23, zl_24, zl_25, zl_26, zl_27, zl_28, zl_29, zl_30, zl_31, zl_32, zl_33, zl_34, zl_35, zl_36, zl_37, zl_38, zl_39, zl_40, zl_41, zl_42, zl_43, zl_44, zl_45, zl_46, zl_47, zl_48, zl_49, zl_50, zl_51, zl_52, zl_53, zl_54, zl_55, zl_56, zl_57, zl_58, zl_59, zl_60, zl_61, zl_62, zl_63, zl_64, zl_65, zl_66, zl_80, zl_97, zl_99, zl_103, zl_107, zl_112, zl_115, zl_100, zl_180, zl_210, zl_238, zl_255, zl_256, zl_400, zl_1000, zl_1024, zl_1260, zl_2000, zl_7140, zl_7200, zl_18414, zl_65536, zl_131072, zl_9999, zl_999, zI_add, zI_sub, zI_mul, zI_neg, zI_lt, zI_le, zI_eq, zI_clamp, ck_z, ckp_z, qb_z, qb_z0, Option.bind_some, if_pos, if_neg, reduceIte, reduceCtorEq, Bool.false_eq_true, Bool.true_eq_false]
      exact j1
    · simp (disch := omega) only [zl_0, zl_1, zl_2, zl_3, zl_4, zl_5, zl_6, zl_7, zl_8, zl_9, zl_10, zl_11, zl_12, zl_13, zl_14, zl_15, zl_16, zl_17, zl_18, zl_19, zl_20, zl_21, zl_22, zl_23, zl_24, zl_25, zl_26, zl_27, zl_28, zl_29, zl_30, zl_31, zl_32, zl_33, zl_34, zl_35, zl_36, zl_37, zl_38, zl_39, zl_40, zl_41, zl_42, zl_43, zl_44, zl_45, zl_46, zl_47, zl_48, zl_49, zl_50, zl_51, zl_52, zl_53, zl_54, zl_55, zl_56, zl_57, zl_58, zl_59, zl_60, zl_61, zl_62, zl_63, zl_64, zl_65, zl_66, zl_80, zl_97, zl_99, zl_103, zl_107, zl_112, zl_115, zl_100, zl_180, zl_210, zl_238, zl_255, zl_256, zl_400, zl_1000, zl_1024, zl_1260, zl_2000, zl_7140, zl_7200, zl_18414, zl_65536, zl_131072, zl_9999, zl_999, zI_add, zI_sub, zI_mul, zI_neg, zI_lt, zI_le, zI_eq, zI_clamp, ck_z, ckp_z, qb_z, qb_z0, Option.bind_some, if_pos, if_neg, reduceIte, reduceCtorEq, Bool.false_eq_true, Bool.true_eq_false]
      exact j2
theorem write_b45_z (hw : FoldW Φ) (hm : FoldM 0 Φ mthings mquires firstLetter firstPage sizeOf placed kindOf catchOf) (q : Int) (hq : 0 ≤ q) (hq2 : q < fQ Φ) (k23 : Int32 → NF → Int32 → Int32 → Int32 → Option (Int32 × Int32 × NF × Int32 × Int32)) (told : Int32) (o : NF) (on i : Int32) : ∀ (d m : Nat) (n : Int), q + n + d = 8 → 0 ≤ n → q + n ≤ fQ Φ → d < m → F_X8_write_b45 mthings mquires firstLetter sizeOf placed kindOf k23 m told o on i (zI q) (zI (q + n)) = F_X8_write_b85 mthings mquires firstLetter sizeOf placed kindOf k23 told o on i (zI q) (zI (q + rn Φ q d n))
  | 0, m + 1, n, hn, hn0, hnQ, _ => by
    have hr := hw.1
    have q0 : mquires 0 = zI (fQ Φ) := hm.1.1
    rw [F_X8_write_b45, show (0 : Int32).toNatClampNeg = 0 from rfl, q0]
    simp (disch := omega) only [zl_0, zl_1, zl_2, zl_3, zl_4, zl_5, zl_6, zl_7, zl_8, zl_9, zl_10, zl_11, zl_12, zl_13, zl_14, zl_15, zl_16, zl_17, zl_18, zl_19, zl_20, zl_21, zl_22, zl_23, zl_24, zl_25, zl_26, zl_27, zl_28, zl_29, zl_30, zl_31, zl_32, zl_33, zl_34, zl_35, zl_36, zl_37, zl_38, zl_39, zl_40, zl_41, zl_42, zl_43, zl_44, zl_45, zl_46, zl_47, zl_48, zl_49, zl_50, zl_51, zl_52, zl_53, zl_54, zl_55, zl_56, zl_57, zl_58, zl_59, zl_60, zl_61, zl_62, zl_63, zl_64, zl_65, zl_66, zl_80, zl_97, zl_99, zl_103, zl_107, zl_112, zl_115, zl_100, zl_180, zl_210, zl_238, zl_255, zl_256, zl_400, zl_1000, zl_1024, zl_1260, zl_2000, zl_7140, zl_7200, zl_18414, zl_65536, zl_131072, zl_9999, zl_999, zI_add, zI_sub, zI_mul, zI_neg, zI_lt, zI_le, zI_eq, zI_clamp, ck_z, ckp_z, qb_z, qb_z0, Option.bind_some, if_pos, if_neg, reduceIte, reduceCtorEq, Bool.false_eq_true, Bool.true_eq_false]
    rfl
  | d + 1, m + 1, n, hn, hn0, hnQ, hmm => by
    have hr := hw.1
    have q0 : mquires 0 = zI (fQ Φ) := hm.1.1
    have s0 := hm.2.1 q hq hq2
    have r0 := hw.2.1 q hq hq2
    rw [show 8 * 0 + q = q by omega] at s0
    rw [F_X8_write_b45, show (0 : Int32).toNatClampNeg = 0 from rfl, q0]
    by_cases h : q + n < fQ Φ
    · have ih := write_b45_z hw hm q hq hq2 k23 told o on i d m (n + 1) (by omega) (by omega) (by omega) (by omega)
      have s1 := hm.2.1 (q + n) (by omega) h
      have r1 := hw.2.1 (q + n) (by omega) h
      rw [show 8 * 0 + (q + n) = q + n by omega] at s1
      have e1 := plainM_z hw hm (q + n) (by omega) h
      by_cases hs : fS Φ (q + n) = fS Φ q
      · cases hp : plain Φ (q + n) with
        | false =>
          rw [hp] at e1
          rw [rn_f (fun x => by rw [hp] at x; cases x.2.2)]
          simp (disch := omega) only [zl_0, zl_1, zl_2, zl_3, zl_4, zl_5, zl_6, zl_7, zl_8, zl_9, zl_10, zl_11, zl_12, zl_13, zl_14, zl_15, zl_16, zl_17, zl_18, zl_19, zl_20, zl_21, zl_22, zl_23, zl_24, zl_25, zl_26, zl_27, zl_28, zl_29, zl_30, zl_31, zl_32, zl_33, zl_34, zl_35, zl_36, zl_37, zl_38, zl_39, zl_40, zl_41, zl_42, zl_43, zl_44, zl_45, zl_46, zl_47, zl_48, zl_49, zl_50, zl_51, zl_52, zl_53, zl_54, zl_55, zl_56, zl_57, zl_58, zl_59, zl_60, zl_61, zl_62, zl_63, zl_64, zl_65, zl_66, zl_80, zl_97, zl_99, zl_103, zl_107, zl_112, zl_115, zl_100, zl_180, zl_210, zl_238, zl_255, zl_256, zl_400, zl_1000, zl_1024, zl_1260, zl_2000, zl_7140, zl_7200, zl_18414, zl_65536, zl_131072, zl_9999, zl_999, zI_add, zI_sub, zI_mul, zI_neg, zI_lt, zI_le, zI_eq, zI_clamp, ck_z, ckp_z, qb_z, qb_z0, Option.bind_some, if_pos, if_neg, reduceIte, reduceCtorEq, Bool.false_eq_true, Bool.true_eq_false, e1, s0, s1]
        | true =>
          rw [hp] at e1
          rw [rn_s ⟨h, hs, hp⟩]
          simp (disch := omega) only [zl_0, zl_1, zl_2, zl_3, zl_4, zl_5, zl_6, zl_7, zl_8, zl_9, zl_10, zl_11, zl_12, zl_13, zl_14, zl_15, zl_16, zl_17, zl_18, zl_19, zl_20, zl_21, zl_22, zl_23, zl_24, zl_25, zl_26, zl_27, zl_28, zl_29, zl_30, zl_31, zl_32, zl_33, zl_34, zl_35, zl_36, zl_37, zl_38, zl_39, zl_40, zl_41, zl_42, zl_43, zl_44, zl_45, zl_46, zl_47, zl_48, zl_49, zl_50, zl_51, zl_52, zl_53, zl_54, zl_55, zl_56, zl_57, zl_58, zl_59, zl_60, zl_61, zl_62, zl_63, zl_64, zl_65, zl_66, zl_80, zl_97, zl_99, zl_103, zl_107, zl_112, zl_115, zl_100, zl_180, zl_210, zl_238, zl_255, zl_256, zl_400, zl_1000, zl_1024, zl_1260, zl_2000, zl_7140, zl_7200, zl_18414, zl_65536, zl_131072, zl_9999, zl_999, zI_add, zI_sub, zI_mul, zI_neg, zI_lt, zI_le, zI_eq, zI_clamp, ck_z, ckp_z, qb_z, qb_z0, Option.bind_some, if_pos, if_neg, reduceIte, reduceCtorEq, Bool.false_eq_true, Bool.true_eq_false, e1, s0, s1]
          rw [show q + n + 1 = q + (n + 1) by omega]
          exact ih
      · rw [rn_f (fun x => hs x.2.1)]
        simp (disch := omega) only [zl_0, zl_1, zl_2, zl_3, zl_4, zl_5, zl_6, zl_7, zl_8, zl_9, zl_10, zl_11, zl_12, zl_13, zl_14, zl_15, zl_16, zl_17, zl_18, zl_19, zl_20, zl_21, zl_22, zl_23, zl_24, zl_25, zl_26, zl_27, zl_28, zl_29, zl_30, zl_31, zl_32, zl_33, zl_34, zl_35, zl_36, zl_37, zl_38, zl_39, zl_40, zl_41, zl_42, zl_43, zl_44, zl_45, zl_46, zl_47, zl_48, zl_49, zl_50, zl_51, zl_52, zl_53, zl_54, zl_55, zl_56, zl_57, zl_58, zl_59, zl_60, zl_61, zl_62, zl_63, zl_64, zl_65, zl_66, zl_80, zl_97, zl_99, zl_103, zl_107, zl_112, zl_115, zl_100, zl_180, zl_210, zl_238, zl_255, zl_256, zl_400, zl_1000, zl_1024, zl_1260, zl_2000, zl_7140, zl_7200, zl_18414, zl_65536, zl_131072, zl_9999, zl_999, zI_add, zI_sub, zI_mul, zI_neg, zI_lt, zI_le, zI_eq, zI_clamp, ck_z, ckp_z, qb_z, qb_z0, Option.bind_some, if_pos, if_neg, reduceIte, reduceCtorEq, Bool.false_eq_true, Bool.true_eq_false, s0, s1]
    · rw [rn_f (fun x => h x.1)]
      simp (disch := omega) only [zl_0, zl_1, zl_2, zl_3, zl_4, zl_5, zl_6, zl_7, zl_8, zl_9, zl_10, zl_11, zl_12, zl_13, zl_14, zl_15, zl_16, zl_17, zl_18, zl_19, zl_20, zl_21, zl_22, zl_23, zl_24, zl_25, zl_26, zl_27, zl_28, zl_29, zl_30, zl_31, zl_32, zl_33, zl_34, zl_35, zl_36, zl_37, zl_38, zl_39, zl_40, zl_41, zl_42, zl_43, zl_44, zl_45, zl_46, zl_47, zl_48, zl_49, zl_50, zl_51, zl_52, zl_53, zl_54, zl_55, zl_56, zl_57, zl_58, zl_59, zl_60, zl_61, zl_62, zl_63, zl_64, zl_65, zl_66, zl_80, zl_97, zl_99, zl_103, zl_107, zl_112, zl_115, zl_100, zl_180, zl_210, zl_238, zl_255, zl_256, zl_400, zl_1000, zl_1024, zl_1260, zl_2000, zl_7140, zl_7200, zl_18414, zl_65536, zl_131072, zl_9999, zl_999, zI_add, zI_sub, zI_mul, zI_neg, zI_lt, zI_le, zI_eq, zI_clamp, ck_z, ckp_z, qb_z, qb_z0, Option.bind_some, if_pos, if_neg, reduceIte, reduceCtorEq, Bool.false_eq_true, Bool.true_eq_false]
theorem write_core (hw : FoldW Φ) (hc : FoldC Φ quires things ghosts letter page sizes cells kinds words quireOf placeOf) (hm : FoldM 0 Φ mthings mquires firstLetter firstPage sizeOf placed kindOf catchOf) (told : Int32) (K1 : NF → Int32 → Int32 → Int32 → Option (NF × Int32 × Int32)) (K2 : Int32 → NF → Int32 → Int32 → Int32 → Option (Int32 × Int32 × NF × Int32 × Int32)) (q n na : Int) (hq0 : 0 ≤ q) (hqQ : q < fQ Φ) (hR : Rst Φ (8 * q) na) (hn : 0 ≤ n) (hn2 : n ≤ 29 * q + 3 * na) (hz : q = 0 → n = 0) (i1 i2 : Int32)
    (ih : ∀ (q' n na : Int) (b o : NF) (i1 i2 : Int32), q < q' → q' ≤ fQ Φ → Rst Φ (8 * q') na → 0 ≤ n → n ≤ 29 * q' + 3 * na → TapE n b o → ∃ b' o' n' t1 t2, K1 b (zI n) i1 (zI q') = some (b', zI n', t1) ∧ K2 told o (zI n) i2 (zI q') = some (zI n', told, o', zI n', t2) ∧ TapE n' b' o' ∧ 0 ≤ n' ∧ n' ≤ 400)
    (n1 : Int) (b1 o1 : NF) (hE1 : TapE n1 b1 o1) (hn1 : 0 ≤ n1) (hb1 : n1 ≤ n + 1) (hb0 : q = 0 → n1 = 0) : ∃ b' o' n' t1 t2, F_X6_writeFormula_b31 quires things letter sizes cells kinds K1 b1 (zI n1) i1 (zI q) = some (b', zI n', t1) ∧ F_X8_write_b85 mthings mquires firstLetter sizeOf placed kindOf K2 told o1 (zI n1) i2 (zI q) (zI (q + rn Φ q (8 - q).toNat 0)) = some (zI n', told, o', zI n', t2) ∧ TapE n' b' o' ∧ 0 ≤ n' ∧ n' ≤ 400 := by
  have hr := hw.1
  have l0 : firstLetter 0 = zI (fL Φ) := hm.1.2.2.1
  have hna := hR.2.1
  have hna0 := hR.1
  have eL : letter = zI (fL Φ) := hc.1.2.2.2.1
  have hS := hw.2.1 q hq0 hqQ
  have sC := hc.2.1 q hq0 hqQ
  have sM := hm.2.1 q hq0 hqQ
  rw [show 8 * 0 + q = q by omega] at sM
  have er : F_X6_plainRun quires things sizes cells kinds (zI q) = some (zI (rn Φ q (8 - q).toNat 0)) := plainRun_z hw hc q hq0 (by omega) (8 - q).toNat FU 0 (by omega) (by omega) (by unfold FU; omega)
  have hrn := rn_b Φ q (8 - q).toNat 0
  generalize rn Φ q (8 - q).toNat 0 = r at *
  obtain ⟨b2, o2, n2, x1, x2, x3, x4, x5⟩ := letters_z hn1 (by omega) hE1 (fL Φ + q) (by omega) (by omega)
  unfold F_X6_writeFormula_b31 F_X8_write_b85
  rw [er, Option.bind_some, eL, show (0 : Int32).toNatClampNeg = 0 from rfl, l0, zI_add, x1, x2, Option.bind_some, Option.bind_some]
  by_cases h3 : r < 3
  · obtain ⟨b3, o3, y1, y2, y3⟩ := as_z (by omega) (by omega) x3 (zI (48 + fS Φ q)) (by rw [zI_toInt (by omega) (by omega)]; omega) (by rw [zI_toInt (by omega) (by omega)]; omega)
    obtain ⟨b4, o4, n4, it4, na4, z1, z2, z3, z4, z5, z6⟩ := items_z hw hc hm q hq0 (by omega) (29 * q + 4) (by omega) (by omega) i1 i2 hR (by omega) (by omega) (by omega) y3
    obtain ⟨b', o', n', t1, t2, w1, w2, w3⟩ := ih (q + 1) n4 na4 b4 o4 (zI it4) (zI it4) (by omega) (by omega) ⟨z4.1, z4.2.1, fun q' p' a b c d e => z4.2.2 q' p' a b c d (by omega)⟩ z5 (by omega) z3
    refine ⟨b', o', n', t1, t2, ?_, ?_, w3⟩
    · simp (disch := omega) only [zl_0, zl_1, zl_2, zl_3, zl_4, zl_5, zl_6, zl_7, zl_8, zl_9, zl_10, zl_11, zl_12, zl_13, zl_14, zl_15, zl_16, zl_17, zl_18, zl_19, zl_20, zl_21, zl_22, zl_23, zl_24, zl_25, zl_26, zl_27, zl_28, zl_29, zl_30, zl_31, zl_32, zl_33, zl_34, zl_35, zl_36, zl_37, zl_38, zl_39, zl_40, zl_41, zl_42, zl_43, zl_44, zl_45, zl_46, zl_47, zl_48, zl_49, zl_50, zl_51, zl_52, zl_53, zl_54, zl_55, zl_56, zl_57, zl_58, zl_59, zl_60, zl_61, zl_62, zl_63, zl_64, zl_65, zl_66, zl_80, zl_97, zl_99, zl_103, zl_107, zl_112, zl_115, zl_100, zl_180, zl_210, zl_238, zl_255, zl_256, zl_400, zl_1000, zl_1024, zl_1260, zl_2000, zl_7140, zl_7200, zl_18414, zl_65536, zl_131072, zl_9999, zl_999, zI_add, zI_sub, zI_mul, zI_neg, zI_lt, zI_le, zI_eq, zI_clamp, ck_z, ckp_z, qb_z, qb_z0, Option.bind_some, if_pos, if_neg, reduceIte, reduceCtorEq, Bool.false_eq_true, Bool.true_eq_false, sC, y1, z1]
      exact w1
    · simp (disch := omega) only [zl_0, zl_1, zl_2, zl_3, zl_4, zl_5, zl_6, zl_7, zl_8, zl_9, zl_10, zl_11, zl_12, zl_13, zl_14, zl_15, zl_16, zl_17, zl_18, zl_19, zl_20, zl_21, zl_22, zl_23, zl_24, zl_25, zl_26, zl_27, zl_28, zl_29, zl_30, zl_31, zl_32, zl_33, zl_34, zl_35, zl_36, zl_37, zl_38, zl_39, zl_40, zl_41, zl_42, zl_43, zl_44, zl_45, zl_46, zl_47, zl_48, zl_49, zl_50, zl_51, zl_52, zl_53, zl_54, zl_55, zl_56, zl_57, zl_58, zl_59, zl_60, zl_61, zl_62, zl_63, zl_64, zl_65, zl_66, zl_80, zl_97, zl_99, zl_103, zl_107, zl_112, zl_115, zl_100, zl_180, zl_210, zl_238, zl_255, zl_256, zl_400, zl_1000, zl_1024, zl_1260, zl_2000, zl_7140, zl_7200, zl_18414, zl_65536, zl_131072, zl_9999, zl_999, zI_add, zI_sub, zI_mul, zI_neg, zI_lt, zI_le, zI_eq, zI_clamp, ck_z, ckp_z, qb_z, qb_z0, Option.bind_some, if_pos, if_neg, reduceIte, reduceCtorEq, Bool.false_eq_true, Bool.true_eq_false, sM, y2, z2]
      exact w2
  · obtain ⟨b3, o3, y1, y2, y3⟩ := as_z (by omega) (by omega) x3 45 (by decide) (by decide)
    obtain ⟨b4, o4, n4, z1, z2, z3, z4, z5⟩ := letters_z (by omega) (by omega) y3 (fL Φ + q + r - 1) (by omega) (by omega)
    obtain ⟨b5, o5, u1, u2, u3⟩ := as_z (by omega) (by omega) z3 (zI (48 + fS Φ q)) (by rw [zI_toInt (by omega) (by omega)]; omega) (by rw [zI_toInt (by omega) (by omega)]; omega)
    obtain ⟨b', o', n', t1, t2, w1, w2, w3⟩ := ih (q + r) (n4 + 1) na b5 o5 i1 i2 (by omega) (by omega) ⟨hR.1, hR.2.1, fun q' p' a b c d e => hR.2.2 q' p' a b c d (by omega)⟩ (by omega) (by omega) u3
    rw [zl_45] at y1 y2
    rw [show fL Φ + q + r - 1 = fL Φ + (q + r) - 1 by omega] at z2
    refine ⟨b', o', n', t1, t2, ?_, ?_, w3⟩
    · simp (disch := omega) only [zl_0, zl_1, zl_2, zl_3, zl_4, zl_5, zl_6, zl_7, zl_8, zl_9, zl_10, zl_11, zl_12, zl_13, zl_14, zl_15, zl_16, zl_17, zl_18, zl_19, zl_20, zl_21, zl_22, zl_23, zl_24, zl_25, zl_26, zl_27, zl_28, zl_29, zl_30, zl_31, zl_32, zl_33, zl_34, zl_35, zl_36, zl_37, zl_38, zl_39, zl_40, zl_41, zl_42, zl_43, zl_44, zl_45, zl_46, zl_47, zl_48, zl_49, zl_50, zl_51, zl_52, zl_53, zl_54, zl_55, zl_56, zl_57, zl_58, zl_59, zl_60, zl_61, zl_62, zl_63, zl_64, zl_65, zl_66, zl_80, zl_97, zl_99, zl_103, zl_107, zl_112, zl_115, zl_100, zl_180, zl_210, zl_238, zl_255, zl_256, zl_400, zl_1000, zl_1024, zl_1260, zl_2000, zl_7140, zl_7200, zl_18414, zl_65536, zl_131072, zl_9999, zl_999, zI_add, zI_sub, zI_mul, zI_neg, zI_lt, zI_le, zI_eq, zI_clamp, ck_z, ckp_z, qb_z, qb_z0, Option.bind_some, if_pos, if_neg, reduceIte, reduceCtorEq, Bool.false_eq_true, Bool.true_eq_false, sC, y1, z1, u1]
      exact w1
    · simp (disch := omega) only [zl_0, zl_1, zl_2, zl_3, zl_4, zl_5, zl_6, zl_7, zl_8, zl_9, zl_10, zl_11, zl_12, zl_13, zl_14, zl_15, zl_16, zl_17, zl_18, zl_19, zl_20, zl_21, zl_22, zl_23, zl_24, zl_25, zl_26, zl_27, zl_28, zl_29, zl_30, zl_31, zl_32, zl_33, zl_34, zl_35, zl_36, zl_37, zl_38, zl_39, zl_40, zl_41, zl_42, zl_43, zl_44, zl_45, zl_46, zl_47, zl_48, zl_49, zl_50, zl_51, zl_52, zl_53, zl_54, zl_55, zl_56, zl_57, zl_58, zl_59, zl_60, zl_61, zl_62, zl_63, zl_64, zl_65, zl_66, zl_80, zl_97, zl_99, zl_103, zl_107, zl_112, zl_115, zl_100, zl_180, zl_210, zl_238, zl_255, zl_256, zl_400, zl_1000, zl_1024, zl_1260, zl_2000, zl_7140, zl_7200, zl_18414, zl_65536, zl_131072, zl_9999, zl_999, zI_add, zI_sub, zI_mul, zI_neg, zI_lt, zI_le, zI_eq, zI_clamp, ck_z, ckp_z, qb_z, qb_z0, Option.bind_some, if_pos, if_neg, reduceIte, reduceCtorEq, Bool.false_eq_true, Bool.true_eq_false, sM, y2, z2, u2]
      exact w2
theorem write_z (hw : FoldW Φ) (hc : FoldC Φ quires things ghosts letter page sizes cells kinds words quireOf placeOf) (hm : FoldM 0 Φ mthings mquires firstLetter firstPage sizeOf placed kindOf catchOf) (told : Int32) : ∀ (m1 m2 : Nat) (q n na : Int) (b o : NF) (i1 i2 : Int32), 0 ≤ q → q ≤ fQ Φ → fQ Φ - q < m1 → fQ Φ - q < m2 → Rst Φ (8 * q) na → 0 ≤ n → n ≤ 29 * q + 3 * na → (q = 0 → n = 0) → TapE n b o → ∃ b' o' n' t1 t2, F_X6_writeFormula_b7 quires things letter sizes cells kinds m1 b (zI n) i1 (zI q) = some (b', zI n', t1) ∧ F_X8_write_b23 mthings mquires firstLetter sizeOf placed kindOf m2 told o (zI n) i2 (zI q) = some (zI n', told, o', zI n', t2) ∧ TapE n' b' o' ∧ 0 ≤ n' ∧ n' ≤ 400
  | 0, _, q, n, na, b, o, i1, i2, hq0, hqQ, h1, h2, hR, hn, hn2, hz, hE => by omega
  | m1 + 1, 0, q, n, na, b, o, i1, i2, hq0, hqQ, h1, h2, hR, hn, hn2, hz, hE => by omega
  | m1 + 1, m2 + 1, q, n, na, b, o, i1, i2, hq0, hqQ, h1, h2, hR, hn, hn2, hz, hE => by
    have hr := hw.1
    have q0 : mquires 0 = zI (fQ Φ) := hm.1.1
    have hna := hR.2.1
    have hna0 := hR.1
    have eQ : quires = zI (fQ Φ) := hc.1.1
    rw [F_X6_writeFormula_b7, F_X8_write_b23, show (0 : Int32).toNatClampNeg = 0 from rfl, q0]
    have hfu : 8 < FU := by unfold FU; omega
    generalize FU = fu at hfu ⊢
    by_cases hd : q = fQ Φ
    · refine ⟨b, o, n, i1, i2, ?_, ?_, hE, hn, by omega⟩
      · rw [eQ]
        simp (disch := omega) only [zl_0, zl_1, zl_2, zl_3, zl_4, zl_5, zl_6, zl_7, zl_8, zl_9, zl_10, zl_11, zl_12, zl_13, zl_14, zl_15, zl_16, zl_17, zl_18, zl_19, zl_20, zl_21, zl_22, zl_23, zl_24, zl_25, zl_26, zl_27, zl_28, zl_29, zl_30, zl_31, zl_32, zl_33, zl_34, zl_35, zl_36, zl_37, zl_38, zl_39, zl_40, zl_41, zl_42, zl_43, zl_44, zl_45, zl_46, zl_47, zl_48, zl_49, zl_50, zl_51, zl_52, zl_53, zl_54, zl_55, zl_56, zl_57, zl_58, zl_59, zl_60, zl_61, zl_62, zl_63, zl_64, zl_65, zl_66, zl_80, zl_97, zl_99, zl_103, zl_107, zl_112, zl_115, zl_100, zl_180, zl_210, zl_238, zl_255, zl_256, zl_400, zl_1000, zl_1024, zl_1260, zl_2000, zl_7140, zl_7200, zl_18414, zl_65536, zl_131072, zl_9999, zl_999, zI_add, zI_sub, zI_mul, zI_neg, zI_lt, zI_le, zI_eq, zI_clamp, ck_z, ckp_z, qb_z, qb_z0, Option.bind_some, if_pos, if_neg, reduceIte, reduceCtorEq, Bool.false_eq_true, Bool.true_eq_false]
      · simp (disch := omega) only [zl_0, zl_1, zl_2, zl_3, zl_4, zl_5, zl_6, zl_7, zl_8, zl_9, zl_10, zl_11, zl_12, zl_13, zl_14, zl_15, zl_16, zl_17, zl_18, zl_19, zl_20, zl_21, zl_22, zl_23, zl_24, zl_25, zl_26, zl_27, zl_28, zl_29, zl_30, zl_31, zl_32, zl_33, zl_34, zl_35, zl_36, zl_37, zl_38, zl_39, zl_40, zl_41, zl_42, zl_43, zl_44, zl_45, zl_46, zl_47, zl_48, zl_49, zl_50, zl_51, zl_52, zl_53, zl_54, zl_55, zl_56, zl_57, zl_58, zl_59, zl_60, zl_61, zl_62, zl_63, zl_64, zl_65, zl_66, zl_80, zl_97, zl_99, zl_103, zl_107, zl_112, zl_115, zl_100, zl_180, zl_210, zl_238, zl_255, zl_256, zl_400, zl_1000, zl_1024, zl_1260, zl_2000, zl_7140, zl_7200, zl_18414, zl_65536, zl_131072, zl_9999, zl_999, zI_add, zI_sub, zI_mul, zI_neg, zI_lt, zI_le, zI_eq, zI_clamp, ck_z, ckp_z, qb_z, qb_z0, Option.bind_some, if_pos, if_neg, reduceIte, reduceCtorEq, Bool.false_eq_true, Bool.true_eq_false]
    · have core := write_core hw hc hm told (fun t_bytes t_length t_items x2 => F_X6_writeFormula_b7 quires things letter sizes cells kinds m1 t_bytes t_length t_items x2) (fun m_told m_out m_outs m_items x1 => F_X8_write_b23 mthings mquires firstLetter sizeOf placed kindOf m2 m_told m_out m_outs m_items x1) q n na hq0 (by omega) hR hn hn2 hz i1 i2 (fun q' n na b o i1 i2 a c d e f g => write_z hw hc hm told m1 m2 q' n na b o i1 i2 (by omega) c (by omega) (by omega) d e f (by omega) g)
      generalize hK1 : (fun t_bytes t_length t_items x2 => F_X6_writeFormula_b7 quires things letter sizes cells kinds m1 t_bytes t_length t_items x2) = K1 at *
      generalize hK2 : (fun m_told m_out m_outs m_items x1 => F_X8_write_b23 mthings mquires firstLetter sizeOf placed kindOf m2 m_told m_out m_outs m_items x1) = K2 at *
      have e45 (o : NF) (on : Int32) := write_b45_z hw hm q hq0 (by omega) K2 told o on i2 (8 - q).toNat fu 0 (by omega) (by omega) (by omega) (by omega)
      simp only [Int.add_zero] at e45
      have l1 : ¬ zI (fQ Φ) ≤ zI q := by simp (disch := omega) only [zl_0, zl_1, zl_2, zl_3, zl_4, zl_5, zl_6, zl_7, zl_8, zl_9, zl_10, zl_11, zl_12, zl_13, zl_14, zl_15, zl_16, zl_17, zl_18, zl_19, zl_20, zl_21, zl_22, zl_23, zl_24, zl_25, zl_26, zl_27, zl_28, zl_29, zl_30, zl_31, zl_32, zl_33, zl_34, zl_35, zl_36, zl_37, zl_38, zl_39, zl_40, zl_41, zl_42, zl_43, zl_44, zl_45, zl_46, zl_47, zl_48, zl_49, zl_50, zl_51, zl_52, zl_53, zl_54, zl_55, zl_56, zl_57, zl_58, zl_59, zl_60, zl_61, zl_62, zl_63, zl_64, zl_65, zl_66, zl_80, zl_97, zl_99, zl_103, zl_107, zl_112, zl_115, zl_100, zl_180, zl_210, zl_238, zl_255, zl_256, zl_400, zl_1000, zl_1024, zl_1260, zl_2000, zl_7140, zl_7200, zl_18414, zl_65536, zl_131072, zl_9999, zl_999, zI_add, zI_sub, zI_mul, zI_neg, zI_lt, zI_le, zI_eq, zI_clamp, ck_z, ckp_z, qb_z, qb_z0, Option.bind_some]; omega
      by_cases h0 : q ≤ 0
      · obtain ⟨b', o', n', t1, t2, w1, w2, w3⟩ := core n b o hE hn (by omega) (fun c => hz c)
        rw [← e45] at w2
        have l2 : zI q ≤ 0 := by simp (disch := omega) only [zl_0, zl_1, zl_2, zl_3, zl_4, zl_5, zl_6, zl_7, zl_8, zl_9, zl_10, zl_11, zl_12, zl_13, zl_14, zl_15, zl_16, zl_17, zl_18, zl_19, zl_20, zl_21, zl_22, zl_23, zl_24, zl_25, zl_26, zl_27, zl_28, zl_29, zl_30, zl_31, zl_32, zl_33, zl_34, zl_35, zl_36, zl_37, zl_38, zl_39, zl_40, zl_41, zl_42, zl_43, zl_44, zl_45, zl_46, zl_47, zl_48, zl_49, zl_50, zl_51, zl_52, zl_53, zl_54, zl_55, zl_56, zl_57, zl_58, zl_59, zl_60, zl_61, zl_62, zl_63, zl_64, zl_65, zl_66, zl_80, zl_97, zl_99, zl_103, zl_107, zl_112, zl_115, zl_100, zl_180, zl_210, zl_238, zl_255, zl_256, zl_400, zl_1000, zl_1024, zl_1260, zl_2000, zl_7140, zl_7200, zl_18414, zl_65536, zl_131072, zl_9999, zl_999, zI_add, zI_sub, zI_mul, zI_neg, zI_lt, zI_le, zI_eq, zI_clamp, ck_z, ckp_z, qb_z, qb_z0, Option.bind_some]; omega
        refine ⟨b', o', n', t1, t2, ?_, ?_, w3⟩
        · rw [eQ] at w1 ⊢
          simp (disch := omega) only [zl_0, zl_1, zl_2, zl_3, zl_4, zl_5, zl_6, zl_7, zl_8, zl_9, zl_10, zl_11, zl_12, zl_13, zl_14, zl_15, zl_16, zl_17, zl_18, zl_19, zl_20, zl_21, zl_22, zl_23, zl_24, zl_25, zl_26, zl_27, zl_28, zl_29, zl_30, zl_31, zl_32, zl_33, zl_34, zl_35, zl_36, zl_37, zl_38, zl_39, zl_40, zl_41, zl_42, zl_43, zl_44, zl_45, zl_46, zl_47, zl_48, zl_49, zl_50, zl_51, zl_52, zl_53, zl_54, zl_55, zl_56, zl_57, zl_58, zl_59, zl_60, zl_61, zl_62, zl_63, zl_64, zl_65, zl_66, zl_80, zl_97, zl_99, zl_103, zl_107, zl_112, zl_115, zl_100, zl_180, zl_210, zl_238, zl_255, zl_256, zl_400, zl_1000, zl_1024, zl_1260, zl_2000, zl_7140, zl_7200, zl_18414, zl_65536, zl_131072, zl_9999, zl_999, zI_add, zI_sub, zI_mul, zI_neg, zI_lt, zI_le, zI_eq, zI_clamp, ck_z, ckp_z, qb_z, qb_z0, Option.bind_some, if_pos, if_neg, reduceIte, reduceCtorEq, Bool.false_eq_true, Bool.true_eq_false]
          exact w1
        · rw [ck_t (show inb 0 5 = true from rfl), if_neg l1, if_pos l2]
          exact w2
      · obtain ⟨b3, o3, y1, y2, y3⟩ := as_z hn (by omega) hE 32 (by decide) (by decide)
        obtain ⟨b', o', n', t1, t2, w1, w2, w3⟩ := core (n + 1) b3 o3 y3 (by omega) (by omega) (by omega)
        rw [← e45] at w2
        have l2 : ¬ zI q ≤ 0 := by simp (disch := omega) only [zl_0, zl_1, zl_2, zl_3, zl_4, zl_5, zl_6, zl_7, zl_8, zl_9, zl_10, zl_11, zl_12, zl_13, zl_14, zl_15, zl_16, zl_17, zl_18, zl_19, zl_20, zl_21, zl_22, zl_23, zl_24, zl_25, zl_26, zl_27, zl_28, zl_29, zl_30, zl_31, zl_32, zl_33, zl_34, zl_35, zl_36, zl_37, zl_38, zl_39, zl_40, zl_41, zl_42, zl_43, zl_44, zl_45, zl_46, zl_47, zl_48, zl_49, zl_50, zl_51, zl_52, zl_53, zl_54, zl_55, zl_56, zl_57, zl_58, zl_59, zl_60, zl_61, zl_62, zl_63, zl_64, zl_65, zl_66, zl_80, zl_97, zl_99, zl_103, zl_107, zl_112, zl_115, zl_100, zl_180, zl_210, zl_238, zl_255, zl_256, zl_400, zl_1000, zl_1024, zl_1260, zl_2000, zl_7140, zl_7200, zl_18414, zl_65536, zl_131072, zl_9999, zl_999, zI_add, zI_sub, zI_mul, zI_neg, zI_lt, zI_le, zI_eq, zI_clamp, ck_z, ckp_z, qb_z, qb_z0, Option.bind_some]; omega
        rw [zl_32] at y1
        refine ⟨b', o', n', t1, t2, ?_, ?_, w3⟩
        · rw [eQ] at w1 ⊢
          simp (disch := omega) only [zl_0, zl_1, zl_2, zl_3, zl_4, zl_5, zl_6, zl_7, zl_8, zl_9, zl_10, zl_11, zl_12, zl_13, zl_14, zl_15, zl_16, zl_17, zl_18, zl_19, zl_20, zl_21, zl_22, zl_23, zl_24, zl_25, zl_26, zl_27, zl_28, zl_29, zl_30, zl_31, zl_32, zl_33, zl_34, zl_35, zl_36, zl_37, zl_38, zl_39, zl_40, zl_41, zl_42, zl_43, zl_44, zl_45, zl_46, zl_47, zl_48, zl_49, zl_50, zl_51, zl_52, zl_53, zl_54, zl_55, zl_56, zl_57, zl_58, zl_59, zl_60, zl_61, zl_62, zl_63, zl_64, zl_65, zl_66, zl_80, zl_97, zl_99, zl_103, zl_107, zl_112, zl_115, zl_100, zl_180, zl_210, zl_238, zl_255, zl_256, zl_400, zl_1000, zl_1024, zl_1260, zl_2000, zl_7140, zl_7200, zl_18414, zl_65536, zl_131072, zl_9999, zl_999, zI_add, zI_sub, zI_mul, zI_neg, zI_lt, zI_le, zI_eq, zI_clamp, ck_z, ckp_z, qb_z, qb_z0, Option.bind_some, if_pos, if_neg, reduceIte, reduceCtorEq, Bool.false_eq_true, Bool.true_eq_false, y1]
          exact w1
        · rw [ck_t (show inb 0 5 = true from rfl), if_neg l1, if_neg l2, y2, Option.bind_some]
          exact w2
theorem op_write {made : Bool} (h : CurR made quires things ghosts letter page sizes cells kinds words quireOf placeOf isThere mthings mquires firstLetter firstPage sizeOf placed kindOf catchOf) {b o : NF} {l ol : Int32} (ho : TapR b l o ol) (told i1 i2 : Int32) : ∃ c1 c2, F_X7_write made quires things letter sizes cells kinds b l i1 = some c1 ∧ F_X8_write told isThere mthings mquires firstLetter sizeOf placed kindOf o ol i2 = some c2 ∧ c1.1 = c2.1 ∧ TapR c1.2.1 c1.2.2.1 c2.2.2.1 c2.2.2.2.1 := by
  unfold F_X7_write F_X8_write F_X6_writeFormula
  rw [show (0 : Int32).toNatClampNeg = 0 from rfl]
  obtain ⟨Φ, hw, hc, ⟨hm0, ht, hm⟩ | ⟨hm0, ht, hQ, hT, hG, hL⟩⟩ := h
  · subst hm0
    have hr := hw.1
    obtain ⟨b', o', n', t1, t2, w1, w2, w3, w4, w5⟩ := write_z hw hc hm 0 FU FU 0 0 0 b o i1 i2 (by omega) (by omega) (by unfold FU; omega) (by unfold FU; omega) (Rst_0 hw) (by omega) (by omega) (fun _ => rfl) (fun i a b => by omega)
    have w1' : F_X6_writeFormula_b7 quires things letter sizes cells kinds FU b 0 i1 0 = some (b', zI n', t1) := w1
    have w2' : F_X8_write_b23 mthings mquires firstLetter sizeOf placed kindOf FU 0 o 0 i2 0 = some (zI n', 0, o', zI n', t2) := w2
    rw [ht, w1', w2']
    exact ⟨_, _, rfl, rfl, rfl, n', w4, w5, rfl, rfl, w3⟩
  · subst hm0
    rw [ht]
    exact ⟨_, _, rfl, rfl, rfl, ho⟩
end WR

section RA
variable {b t : NF} {N : Int} {fa fp fk fpl : Int32}
abbrev RfR : Type := Bool × Int32 × Int32 × Int32 × Int32 × NF × NF × NF × Int32 × Int32 × Int32 × Int32 × Int32 × Bool × Int32 × Int32 × Int32 × Int32 × Int32 × NF × NF × NF × NF × NF × NF × Int32
abbrev K33 : Type := Int32 → Int32 → Int32 → Int32 → NF → NF → NF → Int32 → Int32 → Int32 → Int32 → Int32 → Bool → Int32 → Int32 → Int32 → Int32 → Int32 → NF → NF → NF → NF → NF → NF → Int32 → Int32 → Option RfR
theorem blanks_z (hN : 0 ≤ N) (hN2 : N ≤ 400) (hT : TapE N b t) : ∀ (d : Nat) (p : Int), 0 ≤ p → p + d = N → ∃ p', p ≤ p' ∧ p' ≤ N ∧ (∀ (k33 : K33) (m : Nat) (fa fp la : Int32) (states lk lp : NF) (lc gh sz is ip : Int32) (made : Bool) (quires things ghosts letter page : Int32) (sizes cells kinds words quireOf placeOf : NF) (laid x3 : Int32), d < m → F_X3_readFormula_b84 b (zI N) k33 m fa fp (zI p) la states lk lp lc gh sz is ip made quires things ghosts letter page sizes cells kinds words quireOf placeOf laid x3 = k33 fa fp (zI p') la states lk lp lc gh sz is ip made quires things ghosts letter page sizes cells kinds words quireOf placeOf laid (x3 + 1)) ∧ (∀ m : Nat, d < m → F_X8_blanks_b0 t (zI N) m (zI p) = some (zI p'))
  | 0, p, hp, hd => by
    refine ⟨p, by omega, by omega, ?_, ?_⟩
    · intro k33 m fa fp la states lk lp lc gh sz is ip made quires things ghosts letter page sizes cells kinds words quireOf placeOf laid x3 hm
      obtain ⟨m, rfl⟩ : ∃ n, m = n + 1 := ⟨m - 1, by omega⟩
      have q : zI N ≤ zI p := by simp (disch := omega) only [zl_0, zl_1, zl_2, zl_3, zl_4, zl_5, zl_6, zl_7, zl_8, zl_9, zl_10, zl_11, zl_12, zl_13, zl_14, zl_15, zl_16, zl_17, zl_18, zl_19, zl_20, zl_21, zl_22, zl_23, zl_24, zl_25, zl_26, zl_27, zl_28, zl_29, zl_30, zl_31, zl_32, zl_33, zl_34, zl_35, zl_36, zl_37, zl_38, zl_39, zl_40, zl_41, zl_42, zl_43, zl_44, zl_45, zl_46, zl_47, zl_48, zl_49, zl_50, zl_51, zl_52, zl_53, zl_54, zl_55, zl_56, zl_57, zl_58, zl_59, zl_60, zl_61, zl_62, zl_63, zl_64, zl_65, zl_66, zl_80, zl_97, zl_99, zl_103, zl_107, zl_112, zl_115, zl_100, zl_180, zl_210, zl_238, zl_255, zl_256, zl_400, zl_1000, zl_1024, zl_1260, zl_2000, zl_7140, zl_7200, zl_18414, zl_65536, zl_131072, zl_9999, zl_999, zI_add, zI_sub, zI_mul, zI_neg, zI_lt, zI_le, zI_eq, zI_clamp, ck_z, ckp_z, qb_z, qb_z0, Option.bind_some]; omega
      rw [F_X3_readFormula_b84, if_pos q]
    · intro m hm
      obtain ⟨m, rfl⟩ : ∃ n, m = n + 1 := ⟨m - 1, by omega⟩
      have a := raw_z hN hN2 hT p hp (by omega)
      have s : sgn b N p = -1 := sgn_m (by omega)
      rw [F_X8_blanks_b0, a, s]
      rfl
  | d + 1, p, hp, hd => by
    have a := raw_z hN hN2 hT p hp (by omega)
    have s := sign_z (b := b) hN hN2 p hp (by omega)
    have r := sgn_r hN hT p
    by_cases h32 : sgn b N p = 32
    · obtain ⟨p', h1, h2, h3, h4⟩ := blanks_z hN hN2 hT d (p + 1) (by omega) (by omega)
      have ez : zI p + 1 = zI (p + 1) := by rw [zl_1, zI_add]
      refine ⟨p', by omega, h2, ?_, ?_⟩
      · intro k33 m fa fp la states lk lp lc gh sz is ip made quires things ghosts letter page sizes cells kinds words quireOf placeOf laid x3 hm
        obtain ⟨m, rfl⟩ : ∃ n, m = n + 1 := ⟨m - 1, by omega⟩
        have q : ¬ zI N ≤ zI p := by simp (disch := omega) only [zl_0, zl_1, zl_2, zl_3, zl_4, zl_5, zl_6, zl_7, zl_8, zl_9, zl_10, zl_11, zl_12, zl_13, zl_14, zl_15, zl_16, zl_17, zl_18, zl_19, zl_20, zl_21, zl_22, zl_23, zl_24, zl_25, zl_26, zl_27, zl_28, zl_29, zl_30, zl_31, zl_32, zl_33, zl_34, zl_35, zl_36, zl_37, zl_38, zl_39, zl_40, zl_41, zl_42, zl_43, zl_44, zl_45, zl_46, zl_47, zl_48, zl_49, zl_50, zl_51, zl_52, zl_53, zl_54, zl_55, zl_56, zl_57, zl_58, zl_59, zl_60, zl_61, zl_62, zl_63, zl_64, zl_65, zl_66, zl_80, zl_97, zl_99, zl_103, zl_107, zl_112, zl_115, zl_100, zl_180, zl_210, zl_238, zl_255, zl_256, zl_400, zl_1000, zl_1024, zl_1260, zl_2000, zl_7140, zl_7200, zl_18414, zl_65536, zl_131072, zl_9999, zl_999, zI_add, zI_sub, zI_mul, zI_neg, zI_lt, zI_le, zI_eq, zI_clamp, ck_z, ckp_z, qb_z, qb_z0, Option.bind_some]; omega
        have q2 : zI (sgn b N p) = 32 := by rw [h32]; rfl
        rw [F_X3_readFormula_b84, if_neg q, s, Option.bind_some, if_pos q2, ez]
        exact h3 k33 m fa fp la states lk lp lc gh sz is ip made quires things ghosts letter page sizes cells kinds words quireOf placeOf laid x3 (by omega)
      · intro m hm
        obtain ⟨m, rfl⟩ : ∃ n, m = n + 1 := ⟨m - 1, by omega⟩
        have e5 : F_X8_isBlank (zI (sgn b N p)) = some true := by rw [h32]; rfl
        rw [F_X8_blanks_b0, a, Option.bind_some, e5, Option.bind_some, if_neg (by decide), ez]
        exact h4 m (by omega)
    · refine ⟨p, by omega, by omega, ?_, ?_⟩
      · intro k33 m fa fp la states lk lp lc gh sz is ip made quires things ghosts letter page sizes cells kinds words quireOf placeOf laid x3 hm
        obtain ⟨m, rfl⟩ : ∃ n, m = n + 1 := ⟨m - 1, by omega⟩
        have q : ¬ zI N ≤ zI p := by simp (disch := omega) only [zl_0, zl_1, zl_2, zl_3, zl_4, zl_5, zl_6, zl_7, zl_8, zl_9, zl_10, zl_11, zl_12, zl_13, zl_14, zl_15, zl_16, zl_17, zl_18, zl_19, zl_20, zl_21, zl_22, zl_23, zl_24, zl_25, zl_26, zl_27, zl_28, zl_29, zl_30, zl_31, zl_32, zl_33, zl_34, zl_35, zl_36, zl_37, zl_38, zl_39, zl_40, zl_41, zl_42, zl_43, zl_44, zl_45, zl_46, zl_47, zl_48, zl_49, zl_50, zl_51, zl_52, zl_53, zl_54, zl_55, zl_56, zl_57, zl_58, zl_59, zl_60, zl_61, zl_62, zl_63, zl_64, zl_65, zl_66, zl_80, zl_97, zl_99, zl_103, zl_107, zl_112, zl_115, zl_100, zl_180, zl_210, zl_238, zl_255, zl_256, zl_400, zl_1000, zl_1024, zl_1260, zl_2000, zl_7140, zl_7200, zl_18414, zl_65536, zl_131072, zl_9999, zl_999, zI_add, zI_sub, zI_mul, zI_neg, zI_lt, zI_le, zI_eq, zI_clamp, ck_z, ckp_z, qb_z, qb_z0, Option.bind_some]; omega
        have q2 : ¬ zI (sgn b N p) = 32 := by simp (disch := omega) only [zl_0, zl_1, zl_2, zl_3, zl_4, zl_5, zl_6, zl_7, zl_8, zl_9, zl_10, zl_11, zl_12, zl_13, zl_14, zl_15, zl_16, zl_17, zl_18, zl_19, zl_20, zl_21, zl_22, zl_23, zl_24, zl_25, zl_26, zl_27, zl_28, zl_29, zl_30, zl_31, zl_32, zl_33, zl_34, zl_35, zl_36, zl_37, zl_38, zl_39, zl_40, zl_41, zl_42, zl_43, zl_44, zl_45, zl_46, zl_47, zl_48, zl_49, zl_50, zl_51, zl_52, zl_53, zl_54, zl_55, zl_56, zl_57, zl_58, zl_59, zl_60, zl_61, zl_62, zl_63, zl_64, zl_65, zl_66, zl_80, zl_97, zl_99, zl_103, zl_107, zl_112, zl_115, zl_100, zl_180, zl_210, zl_238, zl_255, zl_256, zl_400, zl_1000, zl_1024, zl_1260, zl_2000, zl_7140, zl_7200, zl_18414, zl_65536, zl_131072, zl_9999, zl_999, zI_add, zI_sub, zI_mul, zI_neg, zI_lt, zI_le, zI_eq, zI_clamp, ck_z, ckp_z, qb_z, qb_z0, Option.bind_some]; exact h32
        rw [F_X3_readFormula_b84, if_neg q, s, Option.bind_some, if_neg q2]
      · intro m hm
        obtain ⟨m, rfl⟩ : ∃ n, m = n + 1 := ⟨m - 1, by omega⟩
        have q2 : ¬ zI (sgn b N p) = 32 := by simp (disch := omega) only [zl_0, zl_1, zl_2, zl_3, zl_4, zl_5, zl_6, zl_7, zl_8, zl_9, zl_10, zl_11, zl_12, zl_13, zl_14, zl_15, zl_16, zl_17, zl_18, zl_19, zl_20, zl_21, zl_22, zl_23, zl_24, zl_25, zl_26, zl_27, zl_28, zl_29, zl_30, zl_31, zl_32, zl_33, zl_34, zl_35, zl_36, zl_37, zl_38, zl_39, zl_40, zl_41, zl_42, zl_43, zl_44, zl_45, zl_46, zl_47, zl_48, zl_49, zl_50, zl_51, zl_52, zl_53, zl_54, zl_55, zl_56, zl_57, zl_58, zl_59, zl_60, zl_61, zl_62, zl_63, zl_64, zl_65, zl_66, zl_80, zl_97, zl_99, zl_103, zl_107, zl_112, zl_115, zl_100, zl_180, zl_210, zl_238, zl_255, zl_256, zl_400, zl_1000, zl_1024, zl_1260, zl_2000, zl_7140, zl_7200, zl_18414, zl_65536, zl_131072, zl_9999, zl_999, zI_add, zI_sub, zI_mul, zI_neg, zI_lt, zI_le, zI_eq, zI_clamp, ck_z, ckp_z, qb_z, qb_z0, Option.bind_some]; exact h32
        have e5 : F_X8_isBlank (zI (sgn b N p)) = some false := by unfold F_X8_isBlank; rw [if_neg q2]
        rw [F_X8_blanks_b0, a, Option.bind_some, e5, Option.bind_some, if_pos (by decide)]
theorem formula_z (hN : 0 ≤ N) (hN2 : N ≤ 400) (hT : TapE N b t) : ∀ (d m1 m2 : Nat) (r : Int) (Φ : Fold) (l : Int) (p la : Int) (states lk lp : NF) (lc gh sz is ip : Int32) (quires things ghosts letter page laid : Int32) (sizes cells kinds words quireOf placeOf : NF) (nT nL : Int32) (nS nP nK codes ep ek : NF) (ex : Int32), fQ Φ + d = 9 → d < m1 → d + 1 < m2 → 0 ≤ r → r ≤ fQ Φ → PW Φ l → Wz Φ → (0 < fQ Φ → l = fS Φ (fQ Φ - 1)) → fT Φ ≤ 30 → 0 ≤ p → p ≤ N → ((la = 0 ∧ fQ Φ = 0) ∨ (la = fL Φ + fQ Φ - 1 ∧ 0 < fQ Φ ∧ 1 ≤ fL Φ ∧ fL Φ + fQ Φ ≤ 47)) → PC Φ l quires things ghosts letter page laid sizes cells kinds words quireOf placeOf → PR Φ l nT nS nP nK → (0 < fQ Φ → nL = zI (fL Φ)) →
    (∃ k a r1 r2, F_X3_readFormula_b33 b (zI N) m1 fa fp (zI p) (zI la) states lk lp lc gh sz is ip true quires things ghosts letter page sizes cells kinds words quireOf placeOf laid (zI r) = some (false, zI k, zI a, r1) ∧ F_X8_reading_b17 t (zI N) m2 fk fpl (zI p) nT (zI (fQ Φ)) nL nS nP nK codes ep ek ex 1 = some (-1, zI k, zI a, r2)) ∨
    (∃ Φ' y1 y2 s1 s2 s3 s4 s5 s6 s7 s8 quires' things' ghosts' laid' sizes' cells' kinds' words' quireOf' placeOf' y3 nS' nP' nK' cd' ep' ek' ex', F_X3_readFormula_b33 b (zI N) m1 fa fp (zI p) (zI la) states lk lp lc gh sz is ip true quires things ghosts letter page sizes cells kinds words quireOf placeOf laid (zI r) = some (true, fa, fp, y1, y2, s1, s2, s3, s4, s5, s6, s7, s8, true, quires', things', ghosts', zI (fL Φ'), page, sizes', cells', kinds', words', quireOf', placeOf', laid') ∧ F_X8_reading_b17 t (zI N) m2 fk fpl (zI p) nT (zI (fQ Φ)) nL nS nP nK codes ep ek ex 1 = some (zI (fT Φ'), fk, fpl, y3, zI (fT Φ'), zI (fQ Φ'), zI (fL Φ'), nS', nP', nK', cd', ep', ek', ex') ∧ PW Φ' (fS Φ' (fQ Φ' - 1)) ∧ Wz Φ' ∧ PC Φ' (fS Φ' (fQ Φ' - 1)) quires' things' ghosts' (zI (fL Φ')) page laid' sizes' cells' kinds' words' quireOf' placeOf' ∧ PR Φ' (fS Φ' (fQ Φ' - 1)) (zI (fT Φ')) nS' nP' nK' ∧ fT Φ' ≤ 30 ∧ 0 < fQ Φ' ∧ fQ Φ' ≤ 8 ∧ 1 ≤ fL Φ' ∧ fL Φ' + fQ Φ' ≤ 47 ∧ fP Φ' = fP Φ)
  | d, m1 + 1, m2 + 1, r, Φ, l, p, la, states, lk, lp, lc, gh, sz, is, ip, quires, things, ghosts, letter, page, laid, sizes, cells, kinds, words, quireOf, placeOf, nT, nL, nS, nP, nK, codes, ep, ek, ex, hd, hm1, hm2, hr0, hr1, hw, hz, hl, hT30, hp, hpN, hla, hc, hr, hnL => by
    have q8 : ¬ (8 : Int32) < zI r := by have := hw.1; simp (disch := omega) only [zl_0, zl_1, zl_2, zl_3, zl_4, zl_5, zl_6, zl_7, zl_8, zl_9, zl_10, zl_11, zl_12, zl_13, zl_14, zl_15, zl_16, zl_17, zl_18, zl_19, zl_20, zl_21, zl_22, zl_23, zl_24, zl_25, zl_26, zl_27, zl_28, zl_29, zl_30, zl_31, zl_32, zl_33, zl_34, zl_35, zl_36, zl_37, zl_38, zl_39, zl_40, zl_41, zl_42, zl_43, zl_44, zl_45, zl_46, zl_47, zl_48, zl_49, zl_50, zl_51, zl_52, zl_53, zl_54, zl_55, zl_56, zl_57, zl_58, zl_59, zl_60, zl_61, zl_62, zl_63, zl_64, zl_65, zl_66, zl_80, zl_97, zl_99, zl_103, zl_107, zl_112, zl_115, zl_100, zl_180, zl_210, zl_238, zl_255, zl_256, zl_400, zl_1000, zl_1024, zl_1260, zl_2000, zl_7140, zl_7200, zl_18414, zl_65536, zl_131072, zl_9999, zl_999, zI_add, zI_sub, zI_mul, zI_neg, zI_lt, zI_le, zI_eq, zI_clamp, ck_z, ckp_z, qb_z, qb_z0, Option.bind_some]; omega
    rw [F_X3_readFormula_b33, if_neg q8]
    rcases quire_z (fa := fa) (fp := fp) (fk := fk) (fpl := fpl) hN hN2 hT Φ l hw hz hl hT30 p hp hpN la hla states lk lp lc gh sz is ip quires things ghosts letter page laid sizes cells kinds words quireOf placeOf hc (fun a0 a1 a2 a3 a4 a5 a6 a7 a8 a9 b0 b1 b2 x1 => F_X8_reading_b17 t (zI N) m2 a0 a1 a2 a3 a4 a5 a6 a7 a8 a9 b0 b1 b2 x1) nT nL nS nP nK codes ep ek ex hr hnL m2 rfl with ⟨k, a, r1, r2, i1, i2⟩ | ⟨p', Φ', s1, s2, s3, s4, s5, s6, s7, s8, q', t', g', l', sz', ce', ki', wo', qo', po', nT', nS', nP', nK', cd', ep', ek', ex', i1, i2, i3, i4, i5, i6, i7, i8, i8', i9, i10, i11, i12, i13⟩
    · refine Or.inl ?_
      rw [i1, i2, Option.bind_some, if_pos (by rfl)]
      exact ⟨k, a, _, _, rfl, rfl⟩
    · rw [i1, i2, Option.bind_some, if_neg (show ¬ qb true = 0 by decide)]
      have eT := i6.1
      by_cases hlt : p' < N
      · have q1 : zI p' < zI N := by simp (disch := omega) only [zl_0, zl_1, zl_2, zl_3, zl_4, zl_5, zl_6, zl_7, zl_8, zl_9, zl_10, zl_11, zl_12, zl_13, zl_14, zl_15, zl_16, zl_17, zl_18, zl_19, zl_20, zl_21, zl_22, zl_23, zl_24, zl_25, zl_26, zl_27, zl_28, zl_29, zl_30, zl_31, zl_32, zl_33, zl_34, zl_35, zl_36, zl_37, zl_38, zl_39, zl_40, zl_41, zl_42, zl_43, zl_44, zl_45, zl_46, zl_47, zl_48, zl_49, zl_50, zl_51, zl_52, zl_53, zl_54, zl_55, zl_56, zl_57, zl_58, zl_59, zl_60, zl_61, zl_62, zl_63, zl_64, zl_65, zl_66, zl_80, zl_97, zl_99, zl_103, zl_107, zl_112, zl_115, zl_100, zl_180, zl_210, zl_238, zl_255, zl_256, zl_400, zl_1000, zl_1024, zl_1260, zl_2000, zl_7140, zl_7200, zl_18414, zl_65536, zl_131072, zl_9999, zl_999, zI_add, zI_sub, zI_mul, zI_neg, zI_lt, zI_le, zI_eq, zI_clamp, ck_z, ckp_z, qb_z, qb_z0, Option.bind_some]; exact hlt
        have q0 : ¬ zI (if N ≤ p' then 0 else 1) = 0 := by rw [if_neg (by omega)]; decide
        have s := sign_z (b := b) hN hN2 p' (by omega) (by omega)
        have a := raw_z hN hN2 hT p' (by omega) (by omega)
        have rg := sgn_r hN hT p'
        unfold F_X8_reading_b416
        rw [if_pos q1, s, Option.bind_some, if_neg q0, a, Option.bind_some]
        by_cases h32 : sgn b N p' = 32
        · have q2 : zI (sgn b N p') = 32 := by rw [h32]; rfl
          have e5 : F_X8_isBlank (zI (sgn b N p')) = some true := by rw [h32]; rfl
          rw [if_pos q2, e5, Option.bind_some, if_neg (by decide)]
          obtain ⟨p2, j1, j2, j3, j4⟩ := blanks_z hN hN2 hT (N - p').toNat p' (by omega) (by omega)
          rw [j3 _ FU _ _ _ _ _ _ _ _ _ _ _ _ _ _ _ _ _ _ _ _ _ _ _ _ _ (by unfold FU; omega)]
          unfold F_X8_reading_b442 F_X8_blanks
          rw [j4 FU (by unfold FU; omega), Option.bind_some]
          have ez : zI r + 1 = zI (r + 1) := by rw [zl_1, zI_add]
          have e1 : zI (if N ≤ p' then 0 else 1) = 1 := by rw [if_neg (by omega)]; rfl
          rw [ez, e1, ← i11]
          cases d with
          | zero => omega
          | succ d0 => exact formula_z hN hN2 hT (9 - fQ Φ').toNat m1 m2 (r + 1) Φ' (fS Φ' (fQ Φ' - 1)) p2 (fL Φ' + fQ Φ' - 1) s1 s2 s3 s4 s5 s6 s7 s8 q' t' g' (zI (fL Φ')) page l' sz' ce' ki' wo' qo' po' nT' (zI (fL Φ')) nS' nP' nK' cd' ep' ek' ex' (by omega) (by omega) (by omega) (by omega) (by omega) i3 i4 (fun _ => rfl) i7 (by omega) (by omega) (Or.inr ⟨rfl, by omega, i9, i10⟩) i5 i6 (fun _ => rfl)
        · refine Or.inl ?_
          have q2 : ¬ zI (sgn b N p') = 32 := by simp (disch := omega) only [zl_0, zl_1, zl_2, zl_3, zl_4, zl_5, zl_6, zl_7, zl_8, zl_9, zl_10, zl_11, zl_12, zl_13, zl_14, zl_15, zl_16, zl_17, zl_18, zl_19, zl_20, zl_21, zl_22, zl_23, zl_24, zl_25, zl_26, zl_27, zl_28, zl_29, zl_30, zl_31, zl_32, zl_33, zl_34, zl_35, zl_36, zl_37, zl_38, zl_39, zl_40, zl_41, zl_42, zl_43, zl_44, zl_45, zl_46, zl_47, zl_48, zl_49, zl_50, zl_51, zl_52, zl_53, zl_54, zl_55, zl_56, zl_57, zl_58, zl_59, zl_60, zl_61, zl_62, zl_63, zl_64, zl_65, zl_66, zl_80, zl_97, zl_99, zl_103, zl_107, zl_112, zl_115, zl_100, zl_180, zl_210, zl_238, zl_255, zl_256, zl_400, zl_1000, zl_1024, zl_1260, zl_2000, zl_7140, zl_7200, zl_18414, zl_65536, zl_131072, zl_9999, zl_999, zI_add, zI_sub, zI_mul, zI_neg, zI_lt, zI_le, zI_eq, zI_clamp, ck_z, ckp_z, qb_z, qb_z0, Option.bind_some]; exact h32
          have e5 : F_X8_isBlank (zI (sgn b N p')) = some false := by unfold F_X8_isBlank; rw [if_neg q2]
          rw [if_neg q2, e5, Option.bind_some, if_pos (by decide)]
          exact ⟨1, p', _, _, rfl, rfl⟩
      · refine Or.inr ?_
        have q1 : ¬ zI p' < zI N := by simp (disch := omega) only [zl_0, zl_1, zl_2, zl_3, zl_4, zl_5, zl_6, zl_7, zl_8, zl_9, zl_10, zl_11, zl_12, zl_13, zl_14, zl_15, zl_16, zl_17, zl_18, zl_19, zl_20, zl_21, zl_22, zl_23, zl_24, zl_25, zl_26, zl_27, zl_28, zl_29, zl_30, zl_31, zl_32, zl_33, zl_34, zl_35, zl_36, zl_37, zl_38, zl_39, zl_40, zl_41, zl_42, zl_43, zl_44, zl_45, zl_46, zl_47, zl_48, zl_49, zl_50, zl_51, zl_52, zl_53, zl_54, zl_55, zl_56, zl_57, zl_58, zl_59, zl_60, zl_61, zl_62, zl_63, zl_64, zl_65, zl_66, zl_80, zl_97, zl_99, zl_103, zl_107, zl_112, zl_115, zl_100, zl_180, zl_210, zl_238, zl_255, zl_256, zl_400, zl_1000, zl_1024, zl_1260, zl_2000, zl_7140, zl_7200, zl_18414, zl_65536, zl_131072, zl_9999, zl_999, zI_add, zI_sub, zI_mul, zI_neg, zI_lt, zI_le, zI_eq, zI_clamp, ck_z, ckp_z, qb_z, qb_z0, Option.bind_some]; exact hlt
        have q0 : zI (if N ≤ p' then 0 else 1) = 0 := by rw [if_pos (by omega)]; rfl
        rw [if_neg q1]
        obtain ⟨p2, j1, j2, j3, j4⟩ := blanks_z hN hN2 hT 0 p' (by omega) (by omega)
        obtain ⟨m3, rfl⟩ : ∃ n, m2 = n + 1 := ⟨m2 - 1, by omega⟩
        have eM : F_X8_reading_b416 t (zI N) (fun a0 a1 a2 a3 a4 a5 a6 a7 a8 a9 b0 b1 b2 x1 => F_X8_reading_b17 t (zI N) (m3 + 1) a0 a1 a2 a3 a4 a5 a6 a7 a8 a9 b0 b1 b2 x1) fk fpl (zI p') nT' (zI (fQ Φ')) (zI (fL Φ')) nS' nP' nK' cd' ep' ek' ex' (zI (if N ≤ p' then 0 else 1)) = some (nT', fk, fpl, zI p2, nT', zI (fQ Φ'), zI (fL Φ'), nS', nP', nK', cd', ep', ek', ex') := by
          rw [q0]
          unfold F_X8_reading_b416
          rw [if_pos rfl]
          unfold F_X8_reading_b442 F_X8_blanks
          rw [j4 FU (by unfold FU; omega), Option.bind_some]
          show F_X8_reading_b17 t (zI N) (m3 + 1) fk fpl (zI p2) nT' (zI (fQ Φ')) (zI (fL Φ')) nS' nP' nK' cd' ep' ek' ex' 0 = _
          rw [F_X8_reading_b17, if_pos rfl]
        rw [eM, eT]
        rw [eT] at i6
        exact ⟨Φ', _, _, s1, s2, s3, s4, s5, s6, s7, s8, q', t', g', l', sz', ce', ki', wo', qo', po', _, nS', nP', nK', cd', ep', ek', ex', rfl, rfl, i3, i4, i5, i6, i7, by omega, i8', i9, i10, i11⟩
end RA

section RA
variable {b t : NF} {N : Int} {fa fp fk fpl : Int32}
/-- from the size on -/
theorem size_on (hN : 0 ≤ N) (hN2 : N ≤ 400) (hT : TapE N b t) (Φ : Fold) (l : Int) (hw : PW Φ l) (hz : Wz Φ) (hl : 0 < fQ Φ → l = fS Φ (fQ Φ - 1)) (hT30 : fT Φ ≤ 30) (p : Int) (hp : 0 ≤ p) (hpN : p ≤ N) (at' first' last cnt la L : Int) (hf1 : 1 ≤ first') (hf2 : first' ≤ last) (hla : last < 100) (hcnt : cnt = last - first' + 1) (hQ : fQ Φ + cnt ≤ 8) (hla2 : (la = 0 ∧ fQ Φ = 0 ∧ L = first') ∨ (la ≠ 0 ∧ fQ Φ ≠ 0 ∧ L = fL Φ)) (hla3 : 0 ≤ la ∧ la < 100)
    (states lk lp : NF) (lc gh sz is ip : Int32) (quires things ghosts letter page laid : Int32) (sizes cells kinds words quireOf placeOf : NF) (hc : PC Φ l quires things ghosts letter page laid sizes cells kinds words quireOf placeOf) (k17 : K17) (nT : Int32) (nS nP nK codes ep ek : NF) (ex : Int32) (hr : PR Φ l nT nS nP nK) :
    (∃ k a r1 r2, F_X3_readQuire_b101 b (zI N) fa fp (zI p) (zI la) states lk lp lc gh sz is ip quires things ghosts letter sizes cells kinds words quireOf placeOf laid (zI at') (zI first') (zI last) = some (false, zI k, zI a, r1) ∧ F_X8_reading_b193 t (zI N) k17 fk fpl (zI p) nT (zI (fQ Φ)) (zI L) nS nP nK codes ep ek ex (zI at') (zI cnt) = some (-1, zI k, zI a, r2)) ∨
    (∃ p' Φ' s1 s2 s3 s4 s5 s6 s7 s8 quires' things' ghosts' laid' sizes' cells' kinds' words' quireOf' placeOf' nT' nS' nP' nK' cd' ep' ek' ex', F_X3_readQuire_b101 b (zI N) fa fp (zI p) (zI la) states lk lp lc gh sz is ip quires things ghosts letter sizes cells kinds words quireOf placeOf laid (zI at') (zI first') (zI last) = some (true, fa, fp, zI p', zI last, s1, s2, s3, s4, s5, s6, s7, s8, quires', things', ghosts', zI L, sizes', cells', kinds', words', quireOf', placeOf', laid') ∧ F_X8_reading_b193 t (zI N) k17 fk fpl (zI p) nT (zI (fQ Φ)) (zI L) nS nP nK codes ep ek ex (zI at') (zI cnt) = F_X8_reading_b416 t (zI N) k17 fk fpl (zI p') nT' (zI (fQ Φ')) (zI L) nS' nP' nK' cd' ep' ek' ex' (zI (if N ≤ p' then 0 else 1)) ∧ PW Φ' (fS Φ' (fQ Φ' - 1)) ∧ Wz Φ' ∧ PC Φ' (fS Φ' (fQ Φ' - 1)) quires' things' ghosts' (zI L) page laid' sizes' cells' kinds' words' quireOf' placeOf' ∧ PR Φ' (fS Φ' (fQ Φ' - 1)) nT' nS' nP' nK' ∧ fT Φ' ≤ 30 ∧ fQ Φ' = fQ Φ + cnt ∧ fL Φ' = L ∧ fP Φ' = fP Φ ∧ p < p' ∧ p' ≤ N) := by
  have h0 := hw.1
  have s0 := sign_z (b := b) hN hN2 p hp (by omega)
  have a0 := raw_z hN hN2 hT p hp (by omega)
  have r0 := sgn_r hN hT p
  have eQ : quires = zI (fQ Φ) := hc.1.1
  by_cases hsz : sgn b N p = 50 ∨ sgn b N p = 52 ∨ sgn b N p = 54 ∨ sgn b N p = 56
  · obtain ⟨size, hsize⟩ : ∃ size, sgn b N p = size + 48 := ⟨sgn b N p - 48, by omega⟩
    have hlt : p < N := by
      rcases Int.lt_or_le p N with x | x
      · exact x
      · exact absurd (sgn_m (b := b) (by omega : ¬ p < N)) (by omega)
    have hse : 2 ≤ size ∧ size ≤ 8 ∧ size % 2 = 0 := by omega
    have eS : F_X3_readSize fa fp (zI p) sz b (zI N) = some (true, fa, fp, zI (p + 1), zI size) := by
      unfold F_X3_readSize F_X3_readSize_b39
      rw [hsize] at s0
      have es : zI (size + 48) - 48 = zI size := by rw [zl_48, zI_sub]; congr 1; omega
      rw [s0, Option.bind_some, es]
      simp (disch := omega) only [zl_0, zl_1, zl_2, zl_3, zl_4, zl_5, zl_6, zl_7, zl_8, zl_9, zl_10, zl_11, zl_12, zl_13, zl_14, zl_15, zl_16, zl_17, zl_18, zl_19, zl_20, zl_21, zl_22, zl_23, zl_24, zl_25, zl_26, zl_27, zl_28, zl_29, zl_30, zl_31, zl_32, zl_33, zl_34, zl_35, zl_36, zl_37, zl_38, zl_39, zl_40, zl_41, zl_42, zl_43, zl_44, zl_45, zl_46, zl_47, zl_48, zl_49, zl_50, zl_51, zl_52, zl_53, zl_54, zl_55, zl_56, zl_57, zl_58, zl_59, zl_60, zl_61, zl_62, zl_63, zl_64, zl_65, zl_66, zl_80, zl_97, zl_99, zl_103, zl_107, zl_112, zl_115, zl_100, zl_180, zl_210, zl_238, zl_255, zl_256, zl_400, zl_1000, zl_1024, zl_1260, zl_2000, zl_7140, zl_7200, zl_18414, zl_65536, zl_131072, zl_9999, zl_999, zI_add, zI_sub, zI_mul, zI_neg, zI_lt, zI_le, zI_eq, zI_clamp, ck_z, ckp_z, qb_z, qb_z0, Option.bind_some]
      (repeat' split) <;> first | rfl | (exfalso; omega)
    have eM : F_X8_reading_b193 t (zI N) k17 fk fpl (zI p) nT (zI (fQ Φ)) (zI L) nS nP nK codes ep ek ex (zI at') (zI cnt) = F_X8_reading_b251 t (zI N) k17 FU fk fpl (zI (p + 1)) nT (zI (fQ Φ)) (zI L) nS nP nK codes ep ek (zI at') (zI cnt) (zI size) 0 := by
      unfold F_X8_reading_b193 F_X8_reading_b238
      rw [hsize] at a0
      have es : zI (size + 48) - 48 = zI size := by rw [zl_48, zI_sub]; congr 1; omega
      have ez : zI p + 1 = zI (p + 1) := by rw [zl_1, zI_add]
      rw [a0, Option.bind_some, es, ez]
      by_cases x2 : size = 2
      · rw [if_pos (by rw [x2]; rfl)]
      · have y2 : ¬ zI size = 2 := by simp (disch := omega) only [zl_0, zl_1, zl_2, zl_3, zl_4, zl_5, zl_6, zl_7, zl_8, zl_9, zl_10, zl_11, zl_12, zl_13, zl_14, zl_15, zl_16, zl_17, zl_18, zl_19, zl_20, zl_21, zl_22, zl_23, zl_24, zl_25, zl_26, zl_27, zl_28, zl_29, zl_30, zl_31, zl_32, zl_33, zl_34, zl_35, zl_36, zl_37, zl_38, zl_39, zl_40, zl_41, zl_42, zl_43, zl_44, zl_45, zl_46, zl_47, zl_48, zl_49, zl_50, zl_51, zl_52, zl_53, zl_54, zl_55, zl_56, zl_57, zl_58, zl_59, zl_60, zl_61, zl_62, zl_63, zl_64, zl_65, zl_66, zl_80, zl_97, zl_99, zl_103, zl_107, zl_112, zl_115, zl_100, zl_180, zl_210, zl_238, zl_255, zl_256, zl_400, zl_1000, zl_1024, zl_1260, zl_2000, zl_7140, zl_7200, zl_18414, zl_65536, zl_131072, zl_9999, zl_999, zI_add, zI_sub, zI_mul, zI_neg, zI_lt, zI_le, zI_eq, zI_clamp, ck_z, ckp_z, qb_z, qb_z0, Option.bind_some]; exact x2
        rw [if_neg y2]
        by_cases x4 : size = 4
        · rw [if_pos (by rw [x4]; rfl)]
        · have y4 : ¬ zI size = 4 := by simp (disch := omega) only [zl_0, zl_1, zl_2, zl_3, zl_4, zl_5, zl_6, zl_7, zl_8, zl_9, zl_10, zl_11, zl_12, zl_13, zl_14, zl_15, zl_16, zl_17, zl_18, zl_19, zl_20, zl_21, zl_22, zl_23, zl_24, zl_25, zl_26, zl_27, zl_28, zl_29, zl_30, zl_31, zl_32, zl_33, zl_34, zl_35, zl_36, zl_37, zl_38, zl_39, zl_40, zl_41, zl_42, zl_43, zl_44, zl_45, zl_46, zl_47, zl_48, zl_49, zl_50, zl_51, zl_52, zl_53, zl_54, zl_55, zl_56, zl_57, zl_58, zl_59, zl_60, zl_61, zl_62, zl_63, zl_64, zl_65, zl_66, zl_80, zl_97, zl_99, zl_103, zl_107, zl_112, zl_115, zl_100, zl_180, zl_210, zl_238, zl_255, zl_256, zl_400, zl_1000, zl_1024, zl_1260, zl_2000, zl_7140, zl_7200, zl_18414, zl_65536, zl_131072, zl_9999, zl_999, zI_add, zI_sub, zI_mul, zI_neg, zI_lt, zI_le, zI_eq, zI_clamp, ck_z, ckp_z, qb_z, qb_z0, Option.bind_some]; exact x4
          rw [if_neg y4]
          by_cases x6 : size = 6
          · rw [if_pos (by rw [x6]; rfl)]
          · have y6 : ¬ zI size = 6 := by simp (disch := omega) only [zl_0, zl_1, zl_2, zl_3, zl_4, zl_5, zl_6, zl_7, zl_8, zl_9, zl_10, zl_11, zl_12, zl_13, zl_14, zl_15, zl_16, zl_17, zl_18, zl_19, zl_20, zl_21, zl_22, zl_23, zl_24, zl_25, zl_26, zl_27, zl_28, zl_29, zl_30, zl_31, zl_32, zl_33, zl_34, zl_35, zl_36, zl_37, zl_38, zl_39, zl_40, zl_41, zl_42, zl_43, zl_44, zl_45, zl_46, zl_47, zl_48, zl_49, zl_50, zl_51, zl_52, zl_53, zl_54, zl_55, zl_56, zl_57, zl_58, zl_59, zl_60, zl_61, zl_62, zl_63, zl_64, zl_65, zl_66, zl_80, zl_97, zl_99, zl_103, zl_107, zl_112, zl_115, zl_100, zl_180, zl_210, zl_238, zl_255, zl_256, zl_400, zl_1000, zl_1024, zl_1260, zl_2000, zl_7140, zl_7200, zl_18414, zl_65536, zl_131072, zl_9999, zl_999, zI_add, zI_sub, zI_mul, zI_neg, zI_lt, zI_le, zI_eq, zI_clamp, ck_z, ckp_z, qb_z, qb_z0, Option.bind_some]; exact x6
            have y8 : zI size = 8 := by rw [show size = 8 by omega]; rfl
            rw [if_neg y6, if_pos y8]
    obtain ⟨fi, hfi⟩ : ∃ fi : Int, (fi = 1 ∧ fQ Φ = 0) ∨ (fi = 0 ∧ fQ Φ ≠ 0) := by
      by_cases x : fQ Φ = 0
      · exact ⟨1, Or.inl ⟨rfl, x⟩⟩
      · exact ⟨0, Or.inr ⟨rfl, x⟩⟩
    obtain ⟨many, hmany⟩ : ∃ many : Int, (many = 0 ∧ cnt = 1) ∨ (many = 1 ∧ 1 < cnt) := by
      by_cases x : cnt = 1
      · exact ⟨0, Or.inl ⟨rfl, x⟩⟩
      · exact ⟨1, Or.inr ⟨rfl, by omega⟩⟩
    have eC : F_X3_readQuire_b101 b (zI N) fa fp (zI p) (zI la) states lk lp lc gh sz is ip quires things ghosts letter sizes cells kinds words quireOf placeOf laid (zI at') (zI first') (zI last) = F_X3_readQuire_b132 b (zI N) fa fp (zI (p + 1)) (zI la) states lk lp lc gh (zI size) is ip quires things ghosts letter sizes cells kinds words quireOf placeOf laid (zI at') (zI first') (zI last) (zI many) (zI fi) := by
      unfold F_X3_readQuire_b101 F_X3_readQuire_b121
      have q1 : ¬ qb true = 0 := by decide
      rw [eS, Option.bind_some, if_neg q1, eQ]
      rcases hfi with ⟨x, y⟩ | ⟨x, y⟩
      · have z1 : zI (fQ Φ) = 0 := by rw [y]; rfl
        rw [if_pos z1, x]
        rcases hmany with ⟨u, v⟩ | ⟨u, v⟩
        · have z2 : zI last ≤ zI first' := by simp (disch := omega) only [zl_0, zl_1, zl_2, zl_3, zl_4, zl_5, zl_6, zl_7, zl_8, zl_9, zl_10, zl_11, zl_12, zl_13, zl_14, zl_15, zl_16, zl_17, zl_18, zl_19, zl_20, zl_21, zl_22, zl_23, zl_24, zl_25, zl_26, zl_27, zl_28, zl_29, zl_30, zl_31, zl_32, zl_33, zl_34, zl_35, zl_36, zl_37, zl_38, zl_39, zl_40, zl_41, zl_42, zl_43, zl_44, zl_45, zl_46, zl_47, zl_48, zl_49, zl_50, zl_51, zl_52, zl_53, zl_54, zl_55, zl_56, zl_57, zl_58, zl_59, zl_60, zl_61, zl_62, zl_63, zl_64, zl_65, zl_66, zl_80, zl_97, zl_99, zl_103, zl_107, zl_112, zl_115, zl_100, zl_180, zl_210, zl_238, zl_255, zl_256, zl_400, zl_1000, zl_1024, zl_1260, zl_2000, zl_7140, zl_7200, zl_18414, zl_65536, zl_131072, zl_9999, zl_999, zI_add, zI_sub, zI_mul, zI_neg, zI_lt, zI_le, zI_eq, zI_clamp, ck_z, ckp_z, qb_z, qb_z0, Option.bind_some]; omega
          rw [if_pos z2, u]
          rfl
        · have z2 : ¬ zI last ≤ zI first' := by simp (disch := omega) only [zl_0, zl_1, zl_2, zl_3, zl_4, zl_5, zl_6, zl_7, zl_8, zl_9, zl_10, zl_11, zl_12, zl_13, zl_14, zl_15, zl_16, zl_17, zl_18, zl_19, zl_20, zl_21, zl_22, zl_23, zl_24, zl_25, zl_26, zl_27, zl_28, zl_29, zl_30, zl_31, zl_32, zl_33, zl_34, zl_35, zl_36, zl_37, zl_38, zl_39, zl_40, zl_41, zl_42, zl_43, zl_44, zl_45, zl_46, zl_47, zl_48, zl_49, zl_50, zl_51, zl_52, zl_53, zl_54, zl_55, zl_56, zl_57, zl_58, zl_59, zl_60, zl_61, zl_62, zl_63, zl_64, zl_65, zl_66, zl_80, zl_97, zl_99, zl_103, zl_107, zl_112, zl_115, zl_100, zl_180, zl_210, zl_238, zl_255, zl_256, zl_400, zl_1000, zl_1024, zl_1260, zl_2000, zl_7140, zl_7200, zl_18414, zl_65536, zl_131072, zl_9999, zl_999, zI_add, zI_sub, zI_mul, zI_neg, zI_lt, zI_le, zI_eq, zI_clamp, ck_z, ckp_z, qb_z, qb_z0, Option.bind_some]; omega
          rw [if_neg z2, u]
          rfl
      · have z1 : ¬ zI (fQ Φ) = 0 := by simp (disch := omega) only [zl_0, zl_1, zl_2, zl_3, zl_4, zl_5, zl_6, zl_7, zl_8, zl_9, zl_10, zl_11, zl_12, zl_13, zl_14, zl_15, zl_16, zl_17, zl_18, zl_19, zl_20, zl_21, zl_22, zl_23, zl_24, zl_25, zl_26, zl_27, zl_28, zl_29, zl_30, zl_31, zl_32, zl_33, zl_34, zl_35, zl_36, zl_37, zl_38, zl_39, zl_40, zl_41, zl_42, zl_43, zl_44, zl_45, zl_46, zl_47, zl_48, zl_49, zl_50, zl_51, zl_52, zl_53, zl_54, zl_55, zl_56, zl_57, zl_58, zl_59, zl_60, zl_61, zl_62, zl_63, zl_64, zl_65, zl_66, zl_80, zl_97, zl_99, zl_103, zl_107, zl_112, zl_115, zl_100, zl_180, zl_210, zl_238, zl_255, zl_256, zl_400, zl_1000, zl_1024, zl_1260, zl_2000, zl_7140, zl_7200, zl_18414, zl_65536, zl_131072, zl_9999, zl_999, zI_add, zI_sub, zI_mul, zI_neg, zI_lt, zI_le, zI_eq, zI_clamp, ck_z, ckp_z, qb_z, qb_z0, Option.bind_some]; exact y
        rw [if_neg z1, x]
        rcases hmany with ⟨u, v⟩ | ⟨u, v⟩
        · have z2 : zI last ≤ zI first' := by simp (disch := omega) only [zl_0, zl_1, zl_2, zl_3, zl_4, zl_5, zl_6, zl_7, zl_8, zl_9, zl_10, zl_11, zl_12, zl_13, zl_14, zl_15, zl_16, zl_17, zl_18, zl_19, zl_20, zl_21, zl_22, zl_23, zl_24, zl_25, zl_26, zl_27, zl_28, zl_29, zl_30, zl_31, zl_32, zl_33, zl_34, zl_35, zl_36, zl_37, zl_38, zl_39, zl_40, zl_41, zl_42, zl_43, zl_44, zl_45, zl_46, zl_47, zl_48, zl_49, zl_50, zl_51, zl_52, zl_53, zl_54, zl_55, zl_56, zl_57, zl_58, zl_59, zl_60, zl_61, zl_62, zl_63, zl_64, zl_65, zl_66, zl_80, zl_97, zl_99, zl_103, zl_107, zl_112, zl_115, zl_100, zl_180, zl_210, zl_238, zl_255, zl_256, zl_400, zl_1000, zl_1024, zl_1260, zl_2000, zl_7140, zl_7200, zl_18414, zl_65536, zl_131072, zl_9999, zl_999, zI_add, zI_sub, zI_mul, zI_neg, zI_lt, zI_le, zI_eq, zI_clamp, ck_z, ckp_z, qb_z, qb_z0, Option.bind_some]; omega
          rw [if_pos z2, u]
          rfl
        · have z2 : ¬ zI last ≤ zI first' := by simp (disch := omega) only [zl_0, zl_1, zl_2, zl_3, zl_4, zl_5, zl_6, zl_7, zl_8, zl_9, zl_10, zl_11, zl_12, zl_13, zl_14, zl_15, zl_16, zl_17, zl_18, zl_19, zl_20, zl_21, zl_22, zl_23, zl_24, zl_25, zl_26, zl_27, zl_28, zl_29, zl_30, zl_31, zl_32, zl_33, zl_34, zl_35, zl_36, zl_37, zl_38, zl_39, zl_40, zl_41, zl_42, zl_43, zl_44, zl_45, zl_46, zl_47, zl_48, zl_49, zl_50, zl_51, zl_52, zl_53, zl_54, zl_55, zl_56, zl_57, zl_58, zl_59, zl_60, zl_61, zl_62, zl_63, zl_64, zl_65, zl_66, zl_80, zl_97, zl_99, zl_103, zl_107, zl_112, zl_115, zl_100, zl_180, zl_210, zl_238, zl_255, zl_256, zl_400, zl_1000, zl_1024, zl_1260, zl_2000, zl_7140, zl_7200, zl_18414, zl_65536, zl_131072, zl_9999, zl_999, zI_add, zI_sub, zI_mul, zI_neg, zI_lt, zI_le, zI_eq, zI_clamp, ck_z, ckp_z, qb_z, qb_z0, Option.bind_some]; omega
          rw [if_neg z2, u]
          rfl
    have br := bracket_z (fa := fa) (fp := fp) (fk := fk) (fpl := fpl) hN hN2 hT size fi (fQ Φ) hse.1 hse.2.1 (by omega) hfi (p + 1) (by omega) (by omega) cnt (by omega) (by omega) many hmany states lk lp lc gh is ip k17 nT (zI L) nS nP nK codes ep ek (zI at')
    rcases br with ⟨k, a, r1, r2, i1, i2⟩ | ⟨p', σ, κ, π, E, g, is', ip', bg, st', lk', lp', lc', cd', ep', ek', i1, i2, i3, i4, i5, i6, i7, i8, i9, i10, i11⟩
    · refine Or.inl ?_
      rw [eC, eM, i2]
      unfold F_X3_readQuire_b132
      rw [i1, Option.bind_some]
      exact ⟨k, a, _, _, rfl, rfl⟩
    · obtain ⟨w1, w2, w3, w4, w5, w6, w7, w8, w9⟩ := i3
      have hgb := gcn_b σ size.toNat
      -- the letter
      have eL : (if zI la = 0 then F_X3_readQuire_b152 fa fp (zI p') st' lk' lp' lc' (zI g) (zI size) (zI is') (zI ip') quires things ghosts (zI first') sizes cells kinds words quireOf placeOf laid (zI at') (zI first') (zI last) else F_X3_readQuire_b152 fa fp (zI p') st' lk' lp' lc' (zI g) (zI size) (zI is') (zI ip') quires things ghosts letter sizes cells kinds words quireOf placeOf laid (zI at') (zI first') (zI last)) = F_X3_readQuire_b152 fa fp (zI p') st' lk' lp' lc' (zI g) (zI size) (zI is') (zI ip') quires things ghosts (zI L) sizes cells kinds words quireOf placeOf laid (zI at') (zI first') (zI last) := by
        rcases hla2 with ⟨x, y, z⟩ | ⟨x, y, z⟩
        · rw [if_pos (by rw [x]; rfl), z]
        · have z1 : ¬ zI la = 0 := by simp (disch := omega) only [zl_0, zl_1, zl_2, zl_3, zl_4, zl_5, zl_6, zl_7, zl_8, zl_9, zl_10, zl_11, zl_12, zl_13, zl_14, zl_15, zl_16, zl_17, zl_18, zl_19, zl_20, zl_21, zl_22, zl_23, zl_24, zl_25, zl_26, zl_27, zl_28, zl_29, zl_30, zl_31, zl_32, zl_33, zl_34, zl_35, zl_36, zl_37, zl_38, zl_39, zl_40, zl_41, zl_42, zl_43, zl_44, zl_45, zl_46, zl_47, zl_48, zl_49, zl_50, zl_51, zl_52, zl_53, zl_54, zl_55, zl_56, zl_57, zl_58, zl_59, zl_60, zl_61, zl_62, zl_63, zl_64, zl_65, zl_66, zl_80, zl_97, zl_99, zl_103, zl_107, zl_112, zl_115, zl_100, zl_180, zl_210, zl_238, zl_255, zl_256, zl_400, zl_1000, zl_1024, zl_1260, zl_2000, zl_7140, zl_7200, zl_18414, zl_65536, zl_131072, zl_9999, zl_999, zI_add, zI_sub, zI_mul, zI_neg, zI_lt, zI_le, zI_eq, zI_clamp, ck_z, ckp_z, qb_z, qb_z0, Option.bind_some]; exact x
          have z2 : letter = zI L := by rw [z]; exact hc.1.2.2.2.1
          rw [if_neg z1, z2]
      have q1 : ¬ qb true = 0 := by decide
      have hPC := PC_bLet L hc
      have hPW := PW_bLet L hw
      -- the model's hanging
      obtain ⟨h', j1, j2, j3⟩ := b320_z (t := t) (N := N) (fk := fk) (fpl := fpl) i5 w1 k17 (zI p') nT (zI (fQ Φ)) (zI L) nS nP nK ep' ek' (zI E) (zI at') (zI cnt) size hse.2.1 size.toNat FU 1 0 (by omega) (by omega) (by unfold FU; omega) (Or.inl rfl)
      have hgh : h' = 0 ↔ size ≤ g := by
        rw [j3]
        refine ⟨fun x => ?_, fun x => ⟨rfl, fun k a c => ?_⟩⟩
        · have := hgb.2.2.mpr (fun k a c => x.2 k a (by omega))
          omega
        · exact hgb.2.2.mp (by omega) k a (by omega)
      obtain ⟨n, hn⟩ : ∃ n : Nat, (n : Int) = min E 31 := ⟨(min E 31).toNat, by omega⟩
      obtain ⟨En, hEn⟩ : ∃ En : Nat, (En : Int) = E := ⟨E.toNat, by omega⟩
      have hsC : ∀ j, 0 ≤ j → j < (n : Int) → lk' j.toNat = zI (κ j) ∧ lp' j.toNat = zI (π j) := fun j a c => i6.2 j a (by omega) (by omega)
      have hsM : ∀ j, 0 ≤ j → j < (En : Int) → ek' j.toNat = zI (κ j) ∧ ep' j.toNat = zI (π j) := fun j a c => i7.2 j a (by omega)
      have hkE : ∀ j, 0 ≤ j → j < (En : Int) → 3 ≤ κ j ∧ κ j ≤ 5 ∧ 0 ≤ π j ∧ π j ≤ 8 := fun j a c => by
        have := w9 j a (by omega)
        omega
      have hkn : ∀ j, 0 ≤ j → j < (n : Int) → 3 ≤ κ j ∧ κ j ≤ 5 ∧ 0 ≤ π j ∧ π j ≤ 8 := fun j a c => hkE j a (by omega)
      obtain ⟨cn, hcn⟩ : ∃ cn : Nat, (cn : Int) = cnt := ⟨cnt.toNat, by omega⟩
      have eT' : fT (bLet Φ L) = fT Φ := rfl
      have eQ' : fQ (bLet Φ L) = fQ Φ := rfl
      have hcnb : fT Φ + (cn : Int) * (16 + n) < 200 ∧ (1 < cnt → (n : Int) = 0) := by
        by_cases x : 1 < cnt
        · have e0 := i11 x
          have n0 : n = 0 := by omega
          subst n0
          exact ⟨by omega, fun _ => rfl⟩
        · have c1 : cn = 1 := by omega
          subst c1
          exact ⟨by omega, fun y => absurd y x⟩
      have cl := b161_z i4 w1 n hsC hkn (by omega) size hse fa fp (zI p') (zI last) (zI is') (zI ip') (zI L) page g (by omega) at' last hla (Or.inr trivial) cn FU first' (bLet Φ L) l quires things ghosts sizes cells kinds words quireOf placeOf laid (by omega) (by omega) (by unfold FU; omega) hPW hz hl (by omega) (by omega) (fun _ => Or.inr trivial) hPC
      have md := b360_z t hN hN2 i5 w1 En hsM hkE (by omega) size hse k17 fk fpl p' (by omega) (by omega) (zI L) at' h' j2 cnt (by omega) cn FU 0 (bLet Φ L) l nT nS nP nK (by omega) (by omega) (by unfold FU; omega) hPW hz hl (by omega) (by
          by_cases x : 1 < cnt
          · have e0 := i11 x
            have n0 : En = 0 := by omega
            subst n0
            exact Or.inl (by omega)
          · exact Or.inr ⟨by omega, by omega⟩) hr
      rw [hEn] at md
      have elc : lc' = zI (n : Int) := by rw [hn]; exact i6.1
      rw [← elc] at cl
      have eB : F_X3_readQuire_b101 b (zI N) fa fp (zI p) (zI la) states lk lp lc gh sz is ip quires things ghosts letter sizes cells kinds words quireOf placeOf laid (zI at') (zI first') (zI last) = F_X3_readQuire_b161 FU fa fp (zI p') (zI last) st' lk' lp' lc' (zI g) (zI size) (zI is') (zI ip') quires things ghosts (zI L) sizes cells kinds words quireOf placeOf laid (zI at') (zI last) (zI first') := by
        rw [eC]
        unfold F_X3_readQuire_b132
        rw [i1, Option.bind_some, if_neg q1]
        exact eL
      have eMm : F_X8_reading_b193 t (zI N) k17 fk fpl (zI p) nT (zI (fQ Φ)) (zI L) nS nP nK codes ep ek ex (zI at') (zI cnt) = F_X8_reading_b360 t (zI N) k17 FU fk fpl (zI p') nT (zI (fQ Φ)) (zI L) nS nP nK cd' ep' ek' (zI E) (zI at') (zI cnt) (zI size) (zI h') 0 := eM.trans (i2.trans j1)
      rw [eB, eMm]
      by_cases hE31 : E ≤ 31
      · have enn : n = En := by omega
        subst enn
        by_cases hbad : size ≤ g ∨ 30 < fT (rI σ κ π n size cn (bLet Φ L))
        · obtain ⟨r1, c1⟩ := cl.1 hbad
          obtain ⟨r2, m1⟩ := md.1 (by rcases hbad with x | x; exact Or.inl (hgh.mpr x); exact Or.inr x)
          exact Or.inl ⟨4, at', r1, r2, c1, m1⟩
        · obtain ⟨q', t', g', s', ce', k', w', qo', po', la', c1, c2⟩ := cl.2 hbad
          obtain ⟨nT', nS', nP', nK', m1, m2⟩ := md.2 (by intro x; rcases x with x | x; exact hbad (Or.inl (hgh.mp x)); exact hbad (Or.inr x))
          have rw' := rI_w (σ := σ) (π := π) n (fun j a c => ⟨(hkn j a c).1, (hkn j a c).2.1⟩) size hse cn (bLet Φ L) l hPW hz hl (by omega) (by omega)
          have rf := rI_f σ κ π n size cn (bLet Φ L)
          rw [if_neg (by omega)] at c2 m2
          refine Or.inr ⟨p', rI σ κ π n size cn (bLet Φ L), _, _, _, _, _, _, _, _, q', t', g', la', s', ce', k', w', qo', po', nT', nS', nP', nK', cd', ep', ek', zI E, c1, ?_, ?_, rw'.2.1, ?_, ?_, by omega, by rw [rf.1, eQ']; omega, rf.2.1, rf.2.2, by omega, i9⟩
          · rw [rf.1]
            exact m1
          · rw [rw'.2.2]; exact rw'.1
          · rw [rw'.2.2]; exact c2
          · rw [rw'.2.2]; exact m2
      · have c1' : cn = 1 := by
          by_cases x : 1 < cnt
          · have := i11 x
            omega
          · omega
        subst c1'
        have t1 := (rQ_T σ κ π n size (bLet Φ L) (by omega)).2 (fun j a c => ⟨(hkn j a c).2.2.1, (w9 j a (by omega)).2.2.2.1⟩)
        have t2 := (rQ_T σ κ π En size (bLet Φ L) (by omega)).2 (fun j a c => ⟨(hkE j a c).2.2.1, (w9 j a (by omega)).2.2.2.1⟩)
        have e1 : rI σ κ π n size 1 (bLet Φ L) = rQ σ κ π n size (bLet Φ L) := rfl
        have e2 : rI σ κ π En size 1 (bLet Φ L) = rQ σ κ π En size (bLet Φ L) := rfl
        obtain ⟨r1, c1⟩ := cl.1 (Or.inr (by rw [e1]; omega))
        obtain ⟨r2, m1⟩ := md.1 (Or.inr (by rw [e2]; omega))
        exact Or.inl ⟨4, at', r1, r2, c1, m1⟩
  · -- no size
    refine Or.inl ?_
    have eS : F_X3_readSize fa fp (zI p) sz b (zI N) = some (false, zI 1, zI p, zI p, sz) := by
      unfold F_X3_readSize F_X3_fail
      rw [s0, Option.bind_some]
      simp (disch := omega) only [zl_0, zl_1, zl_2, zl_3, zl_4, zl_5, zl_6, zl_7, zl_8, zl_9, zl_10, zl_11, zl_12, zl_13, zl_14, zl_15, zl_16, zl_17, zl_18, zl_19, zl_20, zl_21, zl_22, zl_23, zl_24, zl_25, zl_26, zl_27, zl_28, zl_29, zl_30, zl_31, zl_32, zl_33, zl_34, zl_35, zl_36, zl_37, zl_38, zl_39, zl_40, zl_41, zl_42, zl_43, zl_44, zl_45, zl_46, zl_47, zl_48, zl_49, zl_50, zl_51, zl_52, zl_53, zl_54, zl_55, zl_56, zl_57, zl_58, zl_59, zl_60, zl_61, zl_62, zl_63, zl_64, zl_65, zl_66, zl_80, zl_97, zl_99, zl_103, zl_107, zl_112, zl_115, zl_100, zl_180, zl_210, zl_238, zl_255, zl_256, zl_400, zl_1000, zl_1024, zl_1260, zl_2000, zl_7140, zl_7200, zl_18414, zl_65536, zl_131072, zl_9999, zl_999, zI_add, zI_sub, zI_mul, zI_neg, zI_lt, zI_le, zI_eq, zI_clamp, ck_z, ckp_z, qb_z, qb_z0, Option.bind_some]
      (repeat' split) <;> first | rfl | (exfalso; omega)
    have q1 : qb false = 0 := by decide
    obtain ⟨r1, e1⟩ : ∃ r, F_X3_readQuire_b101 b (zI N) fa fp (zI p) (zI la) states lk lp lc gh sz is ip quires things ghosts letter sizes cells kinds words quireOf placeOf laid (zI at') (zI first') (zI last) = some (false, zI 1, zI p, r) := by
      unfold F_X3_readQuire_b101
      rw [eS, Option.bind_some, if_pos q1]
      exact ⟨_, rfl⟩
    refine ⟨1, p, r1, (zI p, nT, zI (fQ Φ), zI L, nS, nP, nK, codes, ep, ek, ex), e1, ?_⟩
    · unfold F_X8_reading_b193 F_X8_fails
      rw [a0, Option.bind_some]
      have es : zI (sgn b N p) - 48 = zI (sgn b N p - 48) := by rw [zl_48, zI_sub]
      rw [es]
      have y2 : ¬ zI (sgn b N p - 48) = 2 := by simp (disch := omega) only [zl_0, zl_1, zl_2, zl_3, zl_4, zl_5, zl_6, zl_7, zl_8, zl_9, zl_10, zl_11, zl_12, zl_13, zl_14, zl_15, zl_16, zl_17, zl_18, zl_19, zl_20, zl_21, zl_22, zl_23, zl_24, zl_25, zl_26, zl_27, zl_28, zl_29, zl_30, zl_31, zl_32, zl_33, zl_34, zl_35, zl_36, zl_37, zl_38, zl_39, zl_40, zl_41, zl_42, zl_43, zl_44, zl_45, zl_46, zl_47, zl_48, zl_49, zl_50, zl_51, zl_52, zl_53, zl_54, zl_55, zl_56, zl_57, zl_58, zl_59, zl_60, zl_61, zl_62, zl_63, zl_64, zl_65, zl_66, zl_80, zl_97, zl_99, zl_103, zl_107, zl_112, zl_115, zl_100, zl_180, zl_210, zl_238, zl_255, zl_256, zl_400, zl_1000, zl_1024, zl_1260, zl_2000, zl_7140, zl_7200, zl_18414, zl_65536, zl_131072, zl_9999, zl_999, zI_add, zI_sub, zI_mul, zI_neg, zI_lt, zI_le, zI_eq, zI_clamp, ck_z, ckp_z, qb_z, qb_z0, Option.bind_some]; omega
      have y4 : ¬ zI (sgn b N p - 48) = 4 := by simp (disch := omega) only [zl_0, zl_1, zl_2, zl_3, zl_4, zl_5, zl_6, zl_7, zl_8, zl_9, zl_10, zl_11, zl_12, zl_13, zl_14, zl_15, zl_16, zl_17, zl_18, zl_19, zl_20, zl_21, zl_22, zl_23, zl_24, zl_25, zl_26, zl_27, zl_28, zl_29, zl_30, zl_31, zl_32, zl_33, zl_34, zl_35, zl_36, zl_37, zl_38, zl_39, zl_40, zl_41, zl_42, zl_43, zl_44, zl_45, zl_46, zl_47, zl_48, zl_49, zl_50, zl_51, zl_52, zl_53, zl_54, zl_55, zl_56, zl_57, zl_58, zl_59, zl_60, zl_61, zl_62, zl_63, zl_64, zl_65, zl_66, zl_80, zl_97, zl_99, zl_103, zl_107, zl_112, zl_115, zl_100, zl_180, zl_210, zl_238, zl_255, zl_256, zl_400, zl_1000, zl_1024, zl_1260, zl_2000, zl_7140, zl_7200, zl_18414, zl_65536, zl_131072, zl_9999, zl_999, zI_add, zI_sub, zI_mul, zI_neg, zI_lt, zI_le, zI_eq, zI_clamp, ck_z, ckp_z, qb_z, qb_z0, Option.bind_some]; omega
      have y6 : ¬ zI (sgn b N p - 48) = 6 := by simp (disch := omega) only [zl_0, zl_1, zl_2, zl_3, zl_4, zl_5, zl_6, zl_7, zl_8, zl_9, zl_10, zl_11, zl_12, zl_13, zl_14, zl_15, zl_16, zl_17, zl_18, zl_19, zl_20, zl_21, zl_22, zl_23, zl_24, zl_25, zl_26, zl_27, zl_28, zl_29, zl_30, zl_31, zl_32, zl_33, zl_34, zl_35, zl_36, zl_37, zl_38, zl_39, zl_40, zl_41, zl_42, zl_43, zl_44, zl_45, zl_46, zl_47, zl_48, zl_49, zl_50, zl_51, zl_52, zl_53, zl_54, zl_55, zl_56, zl_57, zl_58, zl_59, zl_60, zl_61, zl_62, zl_63, zl_64, zl_65, zl_66, zl_80, zl_97, zl_99, zl_103, zl_107, zl_112, zl_115, zl_100, zl_180, zl_210, zl_238, zl_255, zl_256, zl_400, zl_1000, zl_1024, zl_1260, zl_2000, zl_7140, zl_7200, zl_18414, zl_65536, zl_131072, zl_9999, zl_999, zI_add, zI_sub, zI_mul, zI_neg, zI_lt, zI_le, zI_eq, zI_clamp, ck_z, ckp_z, qb_z, qb_z0, Option.bind_some]; omega
      have y8 : ¬ zI (sgn b N p - 48) = 8 := by simp (disch := omega) only [zl_0, zl_1, zl_2, zl_3, zl_4, zl_5, zl_6, zl_7, zl_8, zl_9, zl_10, zl_11, zl_12, zl_13, zl_14, zl_15, zl_16, zl_17, zl_18, zl_19, zl_20, zl_21, zl_22, zl_23, zl_24, zl_25, zl_26, zl_27, zl_28, zl_29, zl_30, zl_31, zl_32, zl_33, zl_34, zl_35, zl_36, zl_37, zl_38, zl_39, zl_40, zl_41, zl_42, zl_43, zl_44, zl_45, zl_46, zl_47, zl_48, zl_49, zl_50, zl_51, zl_52, zl_53, zl_54, zl_55, zl_56, zl_57, zl_58, zl_59, zl_60, zl_61, zl_62, zl_63, zl_64, zl_65, zl_66, zl_80, zl_97, zl_99, zl_103, zl_107, zl_112, zl_115, zl_100, zl_180, zl_210, zl_238, zl_255, zl_256, zl_400, zl_1000, zl_1024, zl_1260, zl_2000, zl_7140, zl_7200, zl_18414, zl_65536, zl_131072, zl_9999, zl_999, zI_add, zI_sub, zI_mul, zI_neg, zI_lt, zI_le, zI_eq, zI_clamp, ck_z, ckp_z, qb_z, qb_z0, Option.bind_some]; omega
      rw [if_neg y2, if_neg y4, if_neg y6, if_neg y8]
      rfl
end RA

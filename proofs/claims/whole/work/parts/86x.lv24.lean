def Db (q : Nat) (t half last : Int) (q' : Nat) (a b c : Int) : Prop := q < q' ∨ (q' = q ∧ Dl t half last a b c)
section BL
variable {Λ : Book} {j : Int} {marks hangs cancels mz ms ml mp met : NF}
theorem bw177 (hB : BkW Λ) (hL : LvM Λ marks hangs cancels) (hR : RuB Λ j mz ms ml mp) (hM : MtT Λ met) (KK : KG3) (q : Nat) (t half : Int) (hq : q ≤ 8) (t0 : 0 ≤ t) (t1 : t ≤ bkH Λ) (a0 : 0 ≤ half) (a1 : half ≤ 4 * q) : ∀ (d m l : Nat) (ein : NF) (ways : Nat → Int64) (few : NF), l + d = 2 → d < m → TbW Λ ways few (Db q t half l) → ∃ e' ways' few', F_X8_goThrough_b177 marks mz ms ml mp KK m (zI j) (zI (bkH Λ)) hangs cancels ein met ways few (zI q) (zI t) (zI half) (zI l) = KK (zI j) (zI (bkH Λ)) hangs cancels e' met ways' few' (zI q) (zI t) (zI (half + 1)) ∧ TbW Λ ways' few' (Db q t half 2)
  | 0, m + 1, l, ein, ways, few, hl, _, hI => by
    have e : l = 2 := by omega
    subst e
    have ll : 2 ≤ zI ((2 : Nat) : Int) := by decide
    have eh : zI half + 1 = zI (half + 1) := by rw [zl_1, zI_add]
    rw [F_X8_goThrough_b177, if_pos ll, eh]
    exact ⟨ein, ways, few, rfl, hI⟩
  | d + 1, m + 1, l, ein, ways, few, hl, hm, hI => by
    have h30 := hB.2.1
    have ll : ¬ 2 ≤ zI (l : Int) := by simp (disch := omega) only [zl_0, zl_1, zl_2, zl_3, zl_4, zl_5, zl_6, zl_7, zl_8, zl_9, zl_10, zl_11, zl_12, zl_13, zl_14, zl_15, zl_16, zl_17, zl_18, zl_19, zl_20, zl_21, zl_22, zl_23, zl_24, zl_25, zl_26, zl_27, zl_28, zl_29, zl_30, zl_31, zl_32, zl_33, zl_34, zl_35, zl_36, zl_37, zl_38, zl_39, zl_40, zl_41, zl_42, zl_43, zl_44, zl_45, zl_46, zl_47, zl_48, zl_49, zl_50, zl_51, zl_52, zl_53, zl_54, zl_55, zl_56, zl_57, zl_58, zl_59, zl_60, zl_61, zl_62, zl_63, zl_64, zl_65, zl_66, zl_80, zl_97, zl_99, zl_103, zl_107, zl_112, zl_115, zl_100, zl_180, zl_210, zl_238, zl_255, zl_256, zl_400, zl_1000, zl_1024, zl_1260, zl_2000, zl_7140, zl_7200, zl_18414, zl_65536, zl_131072, zl_9999, zl_999, zI_add, zI_sub, zI_mul, zI_neg, zI_lt, zI_le, zI_eq, zI_clamp, ck_z, ckp_z, qb_z, qb_z0, Option.bind_some]; omega
    have el : zI (l : Int) + 1 = zI ((l + 1 : Nat) : Int) := by rw [zl_1, zI_add]; congr 1
    have hl2 : (l : Int) = 0 ∨ (l : Int) = 1 := by omega
    have sb := stn_b (q := (q : Int)) (t := t) (half := half) (last := (l : Int)) (by omega) (by omega) t0 (by omega) a0 (by omega) hl2
    obtain ⟨w1, w2⟩ := hM q t half l (by omega) t0 (by omega) a0 (by omega) hl2
    have dx : ∀ q' a b c, q' ≤ 8 → Mt Λ q' a b c → ((Db q t half (l : Int) q' a b c ∨ (q' = q ∧ a = t ∧ b = half ∧ c = (l : Int))) ↔ Db q t half ((l + 1 : Nat) : Int) q' a b c) := by
      intro q' a b c _ _
      unfold Db Dl
      omega
    rw [F_X8_goThrough_b177, if_neg ll, state_z, Option.bind_some, ck_z sb.1 sb.2 (by omega), zI_clamp (by omega) (by omega), el]
    by_cases c : Mt Λ q t half l
    · have e1 := w1 c
      obtain ⟨e', ways', few', he, hT⟩ := counts_z hB hL hR hI q t half l hq c (by unfold Db Dl; omega) (fun a b c _ => by unfold Db; omega) ein
      rw [e1, if_neg (by decide), he, Option.bind_some]
      exact bw177 hB hL hR hM KK q t half hq t0 t1 a0 a1 d m (l + 1) e' ways' few' (by omega) (by omega) (TbW_cg hT dx)
    · rw [w2 c, if_pos (by rfl)]
      refine bw177 hB hL hR hM KK q t half hq t0 t1 a0 a1 d m (l + 1) ein ways few (by omega) (by omega) (TbW_cg hI (fun q' a b c' hq' mm => ?_))
      rw [← dx q' a b c' hq' mm]
      refine ⟨Or.inl, fun x => ?_⟩
      rcases x with x | ⟨rfl, rfl, rfl, rfl⟩
      · exact x
      · exact absurd mm c
theorem bw166 (hB : BkW Λ) (hL : LvM Λ marks hangs cancels) (hR : RuB Λ j mz ms ml mp) (hM : MtT Λ met) (KK : KG2) (q : Nat) (t : Int) (hq : q ≤ 8) (t0 : 0 ≤ t) (t1 : t ≤ bkH Λ) : ∀ (d m h : Nat) (ein : NF) (ways : Nat → Int64) (few : NF), h + d = 4 * q + 1 → d < m → TbW Λ ways few (Db q t h 0) → ∃ e' ways' few', F_X8_goThrough_b166 marks mz ms ml mp KK m (zI j) (zI (bkH Λ)) hangs cancels ein met ways few (zI q) (zI t) (zI h) = KK (zI j) (zI (bkH Λ)) hangs cancels e' met ways' few' (zI q) (zI (t + 1)) ∧ TbW Λ ways' few' (Db q (t + 1) 0 0)
  | 0, m + 1, h, ein, ways, few, hh, _, hI => by
    have e4 : (4 : Int32) * zI (q : Int) = zI (4 * (q : Int)) := by rw [show (4 : Int32) = zI 4 from rfl, zI_mul]
    have ll : zI (4 * (q : Int)) < zI (h : Int) := by simp (disch := omega) only [zl_0, zl_1, zl_2, zl_3, zl_4, zl_5, zl_6, zl_7, zl_8, zl_9, zl_10, zl_11, zl_12, zl_13, zl_14, zl_15, zl_16, zl_17, zl_18, zl_19, zl_20, zl_21, zl_22, zl_23, zl_24, zl_25, zl_26, zl_27, zl_28, zl_29, zl_30, zl_31, zl_32, zl_33, zl_34, zl_35, zl_36, zl_37, zl_38, zl_39, zl_40, zl_41, zl_42, zl_43, zl_44, zl_45, zl_46, zl_47, zl_48, zl_49, zl_50, zl_51, zl_52, zl_53, zl_54, zl_55, zl_56, zl_57, zl_58, zl_59, zl_60, zl_61, zl_62, zl_63, zl_64, zl_65, zl_66, zl_80, zl_97, zl_99, zl_103, zl_107, zl_112, zl_115, zl_100, zl_180, zl_210, zl_238, zl_255, zl_256, zl_400, zl_1000, zl_1024, zl_1260, zl_2000, zl_7140, zl_7200, zl_18414, zl_65536, zl_131072, zl_9999, zl_999, zI_add, zI_sub, zI_mul, zI_neg, zI_lt, zI_le, zI_eq, zI_clamp, ck_z, ckp_z, qb_z, qb_z0, Option.bind_some]; omega
    have eh : zI t + 1 = zI (t + 1) := by rw [zl_1, zI_add]
    rw [F_X8_goThrough_b166, e4, if_pos ll, eh]
    refine ⟨ein, ways, few, rfl, TbW_cg hI (fun q' a b c hq' mm => ?_)⟩
    obtain ⟨m1, m2, m3, m4, m5, m6, m7, m8⟩ := Mt_b hB q' a b c mm
    unfold Db Dl
    omega
  | d + 1, m + 1, h, ein, ways, few, hh, hm, hI => by
    have e4 : (4 : Int32) * zI (q : Int) = zI (4 * (q : Int)) := by rw [show (4 : Int32) = zI 4 from rfl, zI_mul]
    have ll : ¬ zI (4 * (q : Int)) < zI (h : Int) := by simp (disch := omega) only [zl_0, zl_1, zl_2, zl_3, zl_4, zl_5, zl_6, zl_7, zl_8, zl_9, zl_10, zl_11, zl_12, zl_13, zl_14, zl_15, zl_16, zl_17, zl_18, zl_19, zl_20, zl_21, zl_22, zl_23, zl_24, zl_25, zl_26, zl_27, zl_28, zl_29, zl_30, zl_31, zl_32, zl_33, zl_34, zl_35, zl_36, zl_37, zl_38, zl_39, zl_40, zl_41, zl_42, zl_43, zl_44, zl_45, zl_46, zl_47, zl_48, zl_49, zl_50, zl_51, zl_52, zl_53, zl_54, zl_55, zl_56, zl_57, zl_58, zl_59, zl_60, zl_61, zl_62, zl_63, zl_64, zl_65, zl_66, zl_80, zl_97, zl_99, zl_103, zl_107, zl_112, zl_115, zl_100, zl_180, zl_210, zl_238, zl_255, zl_256, zl_400, zl_1000, zl_1024, zl_1260, zl_2000, zl_7140, zl_7200, zl_18414, zl_65536, zl_131072, zl_9999, zl_999, zI_add, zI_sub, zI_mul, zI_neg, zI_lt, zI_le, zI_eq, zI_clamp, ck_z, ckp_z, qb_z, qb_z0, Option.bind_some]; omega
    obtain ⟨K3, hK⟩ : ∃ K3 : KG3, K3 = fun m_asked m_hung m_hangs m_cancels m_in m_isMet m_ways m_fewest x2 x3 x4 => F_X8_goThrough_b166 marks mz ms ml mp KK m m_asked m_hung m_hangs m_cancels m_in m_isMet m_ways m_fewest x2 x3 x4 := ⟨_, rfl⟩
    rw [F_X8_goThrough_b166, e4, if_neg ll, ← hK]
    obtain ⟨e1, ways1, few1, r1, r2⟩ := bw177 hB hL hR hM K3 q t h hq t0 t1 (by omega) (by omega) 2 FU 0 ein ways few (by omega) (by unfold FU; omega) hI
    have r1' : F_X8_goThrough_b177 marks mz ms ml mp K3 FU (zI j) (zI (bkH Λ)) hangs cancels ein met ways few (zI q) (zI t) (zI h) 0 = K3 (zI j) (zI (bkH Λ)) hangs cancels e1 met ways1 few1 (zI q) (zI t) (zI ((h : Int) + 1)) := r1
    rw [r1', hK]
    have ec : ((h : Int) + 1) = ((h + 1 : Nat) : Int) := by omega
    rw [ec]
    refine bw166 hB hL hR hM KK q t hq t0 t1 d m (h + 1) e1 ways1 few1 (by omega) (by omega) (TbW_cg r2 (fun q' a b c hq' mm => ?_))
    obtain ⟨m1, m2, m3, m4, m5, m6, m7, m8⟩ := Mt_b hB q' a b c mm
    unfold Db Dl
    omega
theorem bw155 (hB : BkW Λ) (hL : LvM Λ marks hangs cancels) (hR : RuB Λ j mz ms ml mp) (hM : MtT Λ met) (KK : KG1) (q : Nat) (hq : q ≤ 8) : ∀ (d m : Nat) (t : Int) (ein : NF) (ways : Nat → Int64) (few : NF), 0 ≤ t → t + d = bkH Λ + 1 → d < m → TbW Λ ways few (Db q t 0 0) → ∃ e' ways' few', F_X8_goThrough_b155 marks mz ms ml mp KK m (zI j) (zI (bkH Λ)) hangs cancels ein met ways few (zI q) (zI t) = KK (zI j) (zI (bkH Λ)) hangs cancels e' met ways' few' (zI ((q : Int) - 1)) ∧ TbW Λ ways' few' (fun q' _ _ _ => q ≤ q')
  | 0, m + 1, t, ein, ways, few, t0, hh, _, hI => by
    have h00 := hB.1
    have h30 := hB.2.1
    have ll : zI (bkH Λ) < zI t := by simp (disch := omega) only [zl_0, zl_1, zl_2, zl_3, zl_4, zl_5, zl_6, zl_7, zl_8, zl_9, zl_10, zl_11, zl_12, zl_13, zl_14, zl_15, zl_16, zl_17, zl_18, zl_19, zl_20, zl_21, zl_22, zl_23, zl_24, zl_25, zl_26, zl_27, zl_28, zl_29, zl_30, zl_31, zl_32, zl_33, zl_34, zl_35, zl_36, zl_37, zl_38, zl_39, zl_40, zl_41, zl_42, zl_43, zl_44, zl_45, zl_46, zl_47, zl_48, zl_49, zl_50, zl_51, zl_52, zl_53, zl_54, zl_55, zl_56, zl_57, zl_58, zl_59, zl_60, zl_61, zl_62, zl_63, zl_64, zl_65, zl_66, zl_80, zl_97, zl_99, zl_103, zl_107, zl_112, zl_115, zl_100, zl_180, zl_210, zl_238, zl_255, zl_256, zl_400, zl_1000, zl_1024, zl_1260, zl_2000, zl_7140, zl_7200, zl_18414, zl_65536, zl_131072, zl_9999, zl_999, zI_add, zI_sub, zI_mul, zI_neg, zI_lt, zI_le, zI_eq, zI_clamp, ck_z, ckp_z, qb_z, qb_z0, Option.bind_some]; omega
    have eh : zI (q : Int) + -1 = zI ((q : Int) - 1) := by rw [show (-1 : Int32) = zI (-1) from rfl, zI_add]; congr 1
    rw [F_X8_goThrough_b155, if_pos ll, eh]
    refine ⟨ein, ways, few, rfl, TbW_cg hI (fun q' a b c hq' mm => ?_)⟩
    obtain ⟨m1, m2, m3, m4, m5, m6, m7, m8⟩ := Mt_b hB q' a b c mm
    unfold Db Dl
    omega
  | d + 1, m + 1, t, ein, ways, few, t0, hh, hm, hI => by
    have h00 := hB.1
    have h30 := hB.2.1
    have ll : ¬ zI (bkH Λ) < zI t := by simp (disch := omega) only [zl_0, zl_1, zl_2, zl_3, zl_4, zl_5, zl_6, zl_7, zl_8, zl_9, zl_10, zl_11, zl_12, zl_13, zl_14, zl_15, zl_16, zl_17, zl_18, zl_19, zl_20, zl_21, zl_22, zl_23, zl_24, zl_25, zl_26, zl_27, zl_28, zl_29, zl_30, zl_31, zl_32, zl_33, zl_34, zl_35, zl_36, zl_37, zl_38, zl_39, zl_40, zl_41, zl_42, zl_43, zl_44, zl_45, zl_46, zl_47, zl_48, zl_49, zl_50, zl_51, zl_52, zl_53, zl_54, zl_55, zl_56, zl_57, zl_58, zl_59, zl_60, zl_61, zl_62, zl_63, zl_64, zl_65, zl_66, zl_80, zl_97, zl_99, zl_103, zl_107, zl_112, zl_115, zl_100, zl_180, zl_210, zl_238, zl_255, zl_256, zl_400, zl_1000, zl_1024, zl_1260, zl_2000, zl_7140, zl_7200, zl_18414, zl_65536, zl_131072, zl_9999, zl_999, zI_add, zI_sub, zI_mul, zI_neg, zI_lt, zI_le, zI_eq, zI_clamp, ck_z, ckp_z, qb_z, qb_z0, Option.bind_some]; omega
    obtain ⟨K2, hK⟩ : ∃ K2 : KG2, K2 = fun m_asked m_hung m_hangs m_cancels m_in m_isMet m_ways m_fewest x2 x3 => F_X8_goThrough_b155 marks mz ms ml mp KK m m_asked m_hung m_hangs m_cancels m_in m_isMet m_ways m_fewest x2 x3 := ⟨_, rfl⟩
    rw [F_X8_goThrough_b155, if_neg ll, ← hK]
    obtain ⟨e1, ways1, few1, r1, r2⟩ := bw166 hB hL hR hM K2 q t hq t0 (by omega) (4 * q + 1) FU 0 ein ways few (by omega) (by unfold FU; omega) hI
    have r1' : F_X8_goThrough_b166 marks mz ms ml mp K2 FU (zI j) (zI (bkH Λ)) hangs cancels ein met ways few (zI q) (zI t) 0 = K2 (zI j) (zI (bkH Λ)) hangs cancels e1 met ways1 few1 (zI q) (zI (t + 1)) := r1
    rw [r1', hK]
    exact bw155 hB hL hR hM KK q hq d m (t + 1) e1 ways1 few1 (by omega) (by omega) (by omega) r2
theorem bw149 (hB : BkW Λ) (hL : LvM Λ marks hangs cancels) (hR : RuB Λ j mz ms ml mp) (hM : MtT Λ met) : ∀ (n m : Nat) (ein : NF) (ways : Nat → Int64) (few : NF), n ≤ 9 → n < m → TbW Λ ways few (fun q' _ _ _ => n ≤ q') → ∃ e' ways' few', F_X8_goThrough_b149 marks mz ms ml mp m (zI j) (zI (bkH Λ)) hangs cancels ein met ways few (zI ((n : Int) - 1)) = some (zI j, zI (bkH Λ), hangs, cancels, e', met, ways', few') ∧ TbW Λ ways' few' (fun _ _ _ _ => True)
  | 0, m + 1, ein, ways, few, _, _, hI => by
    have ll : zI (((0 : Nat) : Int) - 1) < 0 := by decide
    rw [F_X8_goThrough_b149, if_pos ll]
    exact ⟨ein, ways, few, rfl, TbW_cg hI (fun q' a b c hq' mm => ⟨fun _ => True.intro, fun _ => Nat.zero_le _⟩)⟩
  | n + 1, m + 1, ein, ways, few, hn, hm, hI => by
    have h00 := hB.1
    have h30 := hB.2.1
    have en : ((n + 1 : Nat) : Int) - 1 = (n : Int) := by omega
    have ll : ¬ zI (n : Int) < 0 := by simp (disch := omega) only [zl_0, zl_1, zl_2, zl_3, zl_4, zl_5, zl_6, zl_7, zl_8, zl_9, zl_10, zl_11, zl_12, zl_13, zl_14, zl_15, zl_16, zl_17, zl_18, zl_19, zl_20, zl_21, zl_22, zl_23, zl_24, zl_25, zl_26, zl_27, zl_28, zl_29, zl_30, zl_31, zl_32, zl_33, zl_34, zl_35, zl_36, zl_37, zl_38, zl_39, zl_40, zl_41, zl_42, zl_43, zl_44, zl_45, zl_46, zl_47, zl_48, zl_49, zl_50, zl_51, zl_52, zl_53, zl_54, zl_55, zl_56, zl_57, zl_58, zl_59, zl_60, zl_61, zl_62, zl_63, zl_64, zl_65, zl_66, zl_80, zl_97, zl_99, zl_103, zl_107, zl_112, zl_115, zl_100, zl_180, zl_210, zl_238, zl_255, zl_256, zl_400, zl_1000, zl_1024, zl_1260, zl_2000, zl_7140, zl_7200, zl_18414, zl_65536, zl_131072, zl_9999, zl_999, zI_add, zI_sub, zI_mul, zI_neg, zI_lt, zI_le, zI_eq, zI_clamp, ck_z, ckp_z, qb_z, qb_z0, Option.bind_some]; omega
    obtain ⟨K1, hK⟩ : ∃ K1 : KG1, K1 = fun m_asked m_hung m_hangs m_cancels m_in m_isMet m_ways m_fewest x2 => F_X8_goThrough_b149 marks mz ms ml mp m m_asked m_hung m_hangs m_cancels m_in m_isMet m_ways m_fewest x2 := ⟨_, rfl⟩
    rw [en, F_X8_goThrough_b149, if_neg ll, ← hK]
    obtain ⟨e1, ways1, few1, r1, r2⟩ := bw155 hB hL hR hM K1 n (by omega) (bkH Λ + 1).toNat FU 0 ein ways few (by omega) (by omega) (by unfold FU; omega) (TbW_cg hI (fun q' a b c hq' mm => by
      obtain ⟨m1, m2, m3, m4, m5, m6, m7, m8⟩ := Mt_b hB q' a b c mm
      unfold Db Dl
      omega))
    have r1' : F_X8_goThrough_b155 marks mz ms ml mp K1 FU (zI j) (zI (bkH Λ)) hangs cancels ein met ways few (zI n) 0 = K1 (zI j) (zI (bkH Λ)) hangs cancels e1 met ways1 few1 (zI ((n : Int) - 1)) := r1
    rw [r1', hK]
    exact bw149 hB hL hR hM n m e1 ways1 few1 (by omega) (by omega) r2
theorem go_b7 (hB : BkW Λ) (hL : LvM Λ marks hangs cancels) (hR : RuB Λ j mz ms ml mp) : ∀ (d m i : Nat) (ein met : NF) (ways : Nat → Int64) (few : NF), i + d = 18414 → d < m → (∀ r : Nat, r < i → met r = 0 ∧ ways r = wI 0 ∧ few r = zI 100) → ∃ e' met' ways' few', F_X8_goThrough_b7 marks mz ms ml mp m (zI j) (zI (bkH Λ)) hangs cancels ein met ways few (zI i) = some (zI j, zI (bkH Λ), hangs, cancels, e', met', ways', few') ∧ MtT Λ met' ∧ TbW Λ ways' few' (fun _ _ _ _ => True)
  | 0, m + 1, i, ein, met, ways, few, hi, _, hI => by
    have h30 := hB.2.1
    have e : i = 18414 := by omega
    have ll : 18414 ≤ zI (i : Int) := by rw [e]; decide
    have es : F_X8_state 0 0 0 0 = some (zI 0) := by decide
    rw [F_X8_goThrough_b7, if_pos ll, es, Option.bind_some, ck_z (by omega) (by omega) (by omega), zI_clamp (by omega) (by omega)]
    have f0 : FwI Λ (upd met (0 : Int).toNat 1) 0 (Dl 0 0 0) := by
      intro q' t half last i1 i2 i3 i4 i5 i6
      have sb := stn_b (q := (q' : Int)) (by omega) (by omega) i2 i3 i4 i5 i6
      by_cases c : q' = 0 ∧ t = 0 ∧ half = 0 ∧ last = 0
      · obtain ⟨rfl, rfl, rfl, rfl⟩ := c
        refine ⟨fun _ => upd_at _ _ _, fun w => absurd (Or.inl ⟨Nat.le_refl _, rfl, rfl, rfl⟩) w⟩
      · have ne : (stn q' t half last).toNat ≠ (0 : Int).toNat := by
          intro x
          have x2 : stn q' t half last = 0 := by omega
          unfold stn at x2
          apply c
          omega
        rw [upd_ne _ _ ne]
        refine ⟨fun w => ?_, fun _ => (hI _ (by omega)).1⟩
        rcases w with ⟨w1, w2⟩ | ⟨w1, a, b, l, x, w2, w3, _⟩
        · have e0 : q' = 0 := by omega
          subst e0
          exact absurd ⟨rfl, w2⟩ c
        · exfalso
          obtain ⟨y1, y2, y3⟩ := w3
          unfold Dl at w2
          omega
    obtain ⟨e1, met1, r1, r2⟩ := fw58 (ways := ways) (few := few) hB hL hR 8 FU 0 ein _ (by omega) (by unfold FU; omega) f0
    have r1' : F_X8_goThrough_b58 marks mz ms ml mp FU (zI j) (zI (bkH Λ)) hangs cancels ein (upd met (0 : Int).toNat 1) ways few 0 = F_X8_goThrough_b149 marks mz ms ml mp FU (zI j) (zI (bkH Λ)) hangs cancels e1 met1 ways few 8 := r1
    have t0 : TbW Λ ways few (fun q' _ _ _ => 9 ≤ q') := by
      intro q t half last hq mm
      obtain ⟨m1, m2, m3, m4, m5, m6, m7, m8⟩ := Mt_b hB q t half last mm
      have sb := stn_b (q := (q : Int)) (t := t) (half := half) (last := last) (by omega) (by omega) m1 (by omega) m3 (by omega) (by omega)
      exact ⟨fun x => by omega, fun _ => (hI _ (by omega)).2⟩
    obtain ⟨e2, ways2, few2, s1, s2⟩ := bw149 hB hL hR r2 9 FU e1 ways few (by omega) (by unfold FU; omega) t0
    have s1' : F_X8_goThrough_b149 marks mz ms ml mp FU (zI j) (zI (bkH Λ)) hangs cancels e1 met1 ways few 8 = some (zI j, zI (bkH Λ), hangs, cancels, e2, met1, ways2, few2) := s1
    exact ⟨e2, met1, ways2, few2, by rw [r1', s1'], r2, s2⟩
  | d + 1, m + 1, i, ein, met, ways, few, hi, hm, hI => by
    have ll : ¬ 18414 ≤ zI (i : Int) := by
      rw [show (18414 : Int32) = zI 18414 from rfl]
      simp (disch := omega) only [zl_0, zl_1, zl_2, zl_3, zl_4, zl_5, zl_6, zl_7, zl_8, zl_9, zl_10, zl_11, zl_12, zl_13, zl_14, zl_15, zl_16, zl_17, zl_18, zl_19, zl_20, zl_21, zl_22, zl_23, zl_24, zl_25, zl_26, zl_27, zl_28, zl_29, zl_30, zl_31, zl_32, zl_33, zl_34, zl_35, zl_36, zl_37, zl_38, zl_39, zl_40, zl_41, zl_42, zl_43, zl_44, zl_45, zl_46, zl_47, zl_48, zl_49, zl_50, zl_51, zl_52, zl_53, zl_54, zl_55, zl_56, zl_57, zl_58, zl_59, zl_60, zl_61, zl_62, zl_63, zl_64, zl_65, zl_66, zl_80, zl_97, zl_99, zl_103, zl_107, zl_112, zl_115, zl_100, zl_180, zl_210, zl_238, zl_255, zl_256, zl_400, zl_1000, zl_1024, zl_1260, zl_2000, zl_7140, zl_7200, zl_18414, zl_65536, zl_131072, zl_9999, zl_999, zI_add, zI_sub, zI_mul, zI_neg, zI_lt, zI_le, zI_eq, zI_clamp, ck_z, ckp_z, qb_z, qb_z0, Option.bind_some]; omega
    have cz {α : Type} (o : Option α) : ck (inb (zI (i : Int)) 18414) o = o := ck_z (by omega) (by omega) (by omega)
    have clz : (zI (i : Int)).toNatClampNeg = i := by rw [zI_clamp (by omega) (by omega)]; omega
    have ei : zI (i : Int) + 1 = zI ((i + 1 : Nat) : Int) := by rw [zl_1, zI_add]; congr 1
    rw [F_X8_goThrough_b7, if_neg ll, cz, cz, cz, clz, ei]
    refine go_b7 hB hL hR d m (i + 1) ein _ _ _ (by omega) (by omega) (fun r hr => ?_)
    by_cases e : r = i
    · subst e
      rw [upd_at, updL_at, upd_at]
      exact ⟨rfl, rfl, rfl⟩
    · rw [upd_ne _ _ e, updL_ne _ _ e, upd_ne _ _ e]
      exact hI r (by omega)
theorem goThrough_z {n : Int} {κ : Int → Int} {μ : Int → Int → Int} {many kk : NF} {sz sg lt pg : Int} (hw : RwW n κ μ) (hm : RwM n κ μ j many kk marks) (hΛ : Λ = mkB n κ μ sz sg lt pg) (hB : BkW Λ) (hR : RuB Λ j mz ms ml mp) (a0 a1 : Int32) (hg0 cn0 ein met0 : NF) (ways0 : Nat → Int64) (few0 : NF) : ∃ hg cn e' met' ways' few', F_X8_goThrough many kk marks mz ms ml mp a0 a1 hg0 cn0 ein met0 ways0 few0 (zI j) = some (zI j, zI (bkH Λ), hg, cn, e', met', ways', few') ∧ LvM Λ marks hg cn ∧ MtT Λ met' ∧ TbW Λ ways' few' (fun _ _ _ _ => True) := by
  obtain ⟨hg, cn, e1, hL⟩ := asks_z hw hm hR.1 hR.2.1 sz sg lt pg a0 a1 hg0 cn0
  rw [← hΛ] at e1 hL
  obtain ⟨e', met', ways', few', r1, r2, r3⟩ := go_b7 hB hL hR 18414 FU 0 ein met0 ways0 few0 (by omega) (by unfold FU; omega) (fun r hr => by omega)
  have r1' : F_X8_goThrough_b7 marks mz ms ml mp FU (zI j) (zI (bkH Λ)) hg cn ein met0 ways0 few0 0 = some (zI j, zI (bkH Λ), hg, cn, e', met', ways', few') := r1
  refine ⟨hg, cn, e', met', ways', few', ?_, hL, r2, r3⟩
  unfold F_X8_goThrough
  rw [e1, Option.bind_some]
  exact r1'
end BL

abbrev RB : Type := Option (Bool × NF)
section BM
variable {Λ : Book} {j : Int} {marks hangs cancels mz ms ml mp : NF}
theorem bf_49 (hB : BkW Λ) (hL : LvM Λ marks hangs cancels) (hR : RuB Λ j mz ms ml mp) (KK : NF → Int32 → Int32 → Int32 → Int32 → Int32 → Int32 → Int32 → Int32 → RB) (q t half last N f : Int) (s U : Nat) (q0 : 0 ≤ q) (q1 : q < 8) (t0 : 0 ≤ t) (htN : t < N) (hNH : N ≤ bkH Λ) (a0 : 0 ≤ half) (a1 : half ≤ 28) (hla : last = 0 ∨ (last = 1 ∧ 1 ≤ t)) (hf : f = 0 ∨ f = 1) (hs : s ≤ 8) (hU1 : N - t ≤ U) (hU2 : U ≤ s) (hU3 : (U : Int) ≤ N - t + 4) : ∀ (d m K : Nat) (ein : NF), K + 2 * d = 2 ^ U → K % 2 = 0 → d < m → ((∃ e', F_X8_beginsFrom_b49 marks mz ms ml mp (zI j) hangs cancels KK m ein (zI q) (zI t) (zI half) (zI last) (zI N) (zI f) (zI s) (zI U) (nI K) = some (true, e')) ∧ ∃ k, K ≤ k ∧ OpM Λ N f q t half last s U k) ∨ ((∃ e', F_X8_beginsFrom_b49 marks mz ms ml mp (zI j) hangs cancels KK m ein (zI q) (zI t) (zI half) (zI last) (zI N) (zI f) (zI s) (zI U) (nI K) = KK e' (zI q) (zI t) (zI half) (zI last) (zI N) (zI f) (zI s) (zI ((U + 1 : Nat) : Int))) ∧ ∀ k, K ≤ k → ¬ OpM Λ N f q t half last s U k)
  | 0, m + 1, K, ein, hK, _, _ => by
    have epw : (1 : Int32) <<< (zI (U : Int) &&& 31) = nI (2 ^ U) := by rw [← nI_zI]; exact pow_s U (by omega)
    have h256 : 2 ^ U ≤ 256 := show 2 ^ U ≤ 2 ^ 8 from Nat.pow_le_pow_right (by omega) (by omega)
    have l : nI (2 ^ U) ≤ nI K := by rw [nI_zI, nI_zI]; simp (disch := omega) only [zl_0, zl_1, zl_2, zl_3, zl_4, zl_5, zl_6, zl_7, zl_8, zl_9, zl_10, zl_11, zl_12, zl_13, zl_14, zl_15, zl_16, zl_17, zl_18, zl_19, zl_20, zl_21, zl_22, zl_23, zl_24, zl_25, zl_26, zl_27, zl_28, zl_29, zl_30, zl_31, zl_32, zl_33, zl_34, zl_35, zl_36, zl_37, zl_38, zl_39, zl_40, zl_41, zl_42, zl_43, zl_44, zl_45, zl_46, zl_47, zl_48, zl_49, zl_50, zl_51, zl_52, zl_53, zl_54, zl_55, zl_56, zl_57, zl_58, zl_59, zl_60, zl_61, zl_62, zl_63, zl_64, zl_65, zl_66, zl_80, zl_97, zl_99, zl_103, zl_107, zl_112, zl_115, zl_100, zl_180, zl_210, zl_238, zl_255, zl_256, zl_400, zl_1000, zl_1024, zl_1260, zl_2000, zl_7140, zl_7200, zl_18414, zl_65536, zl_131072, zl_9999, zl_999, zI_add, zI_sub, zI_mul, zI_neg, zI_lt, zI_le, zI_eq, zI_clamp, ck_z, ckp_z, qb_z, qb_z0, Option.bind_some]; omega
    have e2 : zI (U : Int) + 1 = zI ((U + 1 : Nat) : Int) := by rw [zl_1, zI_add]; congr 1
    rw [F_X8_beginsFrom_b49, epw, if_pos l, e2]
    refine Or.inr ⟨⟨ein, rfl⟩, fun k hk w => ?_⟩
    have := w.2.2.2.1
    omega
  | d + 1, m + 1, K, ein, hK, hK2, hm => by
    have h30 := hB.2.1
    have epw : (1 : Int32) <<< (zI (U : Int) &&& 31) = nI (2 ^ U) := by rw [← nI_zI]; exact pow_s U (by omega)
    have h256 : 2 ^ U ≤ 256 := show 2 ^ U ≤ 2 ^ 8 from Nat.pow_le_pow_right (by omega) (by omega)
    have l : ¬ nI (2 ^ U) ≤ nI K := by rw [nI_zI, nI_zI]; simp (disch := omega) only [zl_0, zl_1, zl_2, zl_3, zl_4, zl_5, zl_6, zl_7, zl_8, zl_9, zl_10, zl_11, zl_12, zl_13, zl_14, zl_15, zl_16, zl_17, zl_18, zl_19, zl_20, zl_21, zl_22, zl_23, zl_24, zl_25, zl_26, zl_27, zl_28, zl_29, zl_30, zl_31, zl_32, zl_33, zl_34, zl_35, zl_36, zl_37, zl_38, zl_39, zl_40, zl_41, zl_42, zl_43, zl_44, zl_45, zl_46, zl_47, zl_48, zl_49, zl_50, zl_51, zl_52, zl_53, zl_54, zl_55, zl_56, zl_57, zl_58, zl_59, zl_60, zl_61, zl_62, zl_63, zl_64, zl_65, zl_66, zl_80, zl_97, zl_99, zl_103, zl_107, zl_112, zl_115, zl_100, zl_180, zl_210, zl_238, zl_255, zl_256, zl_400, zl_1000, zl_1024, zl_1260, zl_2000, zl_7140, zl_7200, zl_18414, zl_65536, zl_131072, zl_9999, zl_999, zI_add, zI_sub, zI_mul, zI_neg, zI_lt, zI_le, zI_eq, zI_clamp, ck_z, ckp_z, qb_z, qb_z0, Option.bind_some]; omega
    have eK : nI K + 2 = nI (K + 2) := by rw [nI_zI, nI_zI, zl_2, zI_add]; congr 1
    have pb := popc_b K
    have ep : zI (U : Int) - zI (popc K : Int) = zI ((U : Int) - popc K) := zI_sub _ _
    have en : zI N - zI t = zI (N - t) := zI_sub _ _
    have ih (ein : NF) := bf_49 hB hL hR KK q t half last N f s U q0 q1 t0 htN hNH a0 a1 hla hf hs hU1 hU2 hU3 d m (K + 2) ein (by omega) (by omega) (by omega)
    -- on, if this mask is not one
    have on (hno : ¬ OpM Λ N f q t half last s U K) (X : RB) (ein : NF) (hX : X = F_X8_beginsFrom_b49 marks mz ms ml mp (zI j) hangs cancels KK m ein (zI q) (zI t) (zI half) (zI last) (zI N) (zI f) (zI s) (zI U) (nI (K + 2))) : ((∃ e', X = some (true, e')) ∧ ∃ k, K ≤ k ∧ OpM Λ N f q t half last s U k) ∨ ((∃ e', X = KK e' (zI q) (zI t) (zI half) (zI last) (zI N) (zI f) (zI s) (zI ((U + 1 : Nat) : Int))) ∧ ∀ k, K ≤ k → ¬ OpM Λ N f q t half last s U k) := by
      rw [hX]
      rcases ih ein with ⟨i1, k, k1, k2⟩ | ⟨i1, i2⟩
      · exact Or.inl ⟨i1, k, by omega, k2⟩
      · refine Or.inr ⟨i1, fun k hk w => ?_⟩
        by_cases e : k = K
        · subst e; exact hno w
        · have := w.2.2.2.2.1
          exact i2 k (by omega) w
    rw [F_X8_beginsFrom_b49, epw, if_neg l, ones_z K (by omega), Option.bind_some, ep, en]
    unfold F_X8_beginsFrom_b112
    rw [eK]
    by_cases c : (U : Int) - popc K = N - t
    · have q2 : zI ((U : Int) - popc K) = zI (N - t) := by rw [c]
      have tp := thg_popc U (by omega) K (by omega)
      obtain ⟨e', he⟩ := agrees_z hB hL hR q t (2 * half) last s U K N f q0 q1 t0 (by omega) (by omega) hla hs hU2 (by omega) (by omega) (by omega) hf (by omega) ein
      have eh : (2 : Int32) * zI half = zI (2 * half) := by rw [zl_2, zI_mul]
      have b94 (X : RB) (hX : X = F_X8_beginsFrom_b94 marks mz ms ml mp (zI j) hangs cancels (fun m_in x1 x2 x3 x4 x5 x6 x7 x8 x9 => F_X8_beginsFrom_b49 marks mz ms ml mp (zI j) hangs cancels KK m m_in x1 x2 x3 x4 x5 x6 x7 x8 x9) ein (zI q) (zI t) (zI half) (zI last) (zI N) (zI f) (zI s) (zI U) (nI K) (zI last) (zI (2 * half)) (zI t) (zI q)) : ((∃ e', X = some (true, e')) ∧ ∃ k, K ≤ k ∧ OpM Λ N f q t half last s U k) ∨ ((∃ e', X = KK e' (zI q) (zI t) (zI half) (zI last) (zI N) (zI f) (zI s) (zI ((U + 1 : Nat) : Int))) ∧ ∀ k, K ≤ k → ¬ OpM Λ N f q t half last s U k) := by
        unfold F_X8_beginsFrom_b94 F_X8_beginsFrom_b112 at hX
        rw [he, Option.bind_some, eK] at hX
        by_cases w : ∀ p : Nat, 1 ≤ p → p ≤ U → AgP Λ q t (2 * half) last s U K N f p
        · rw [bq_t w, if_neg (show ¬ qb true = 0 by decide)] at hX
          exact Or.inl ⟨⟨_, hX⟩, K, Nat.le_refl _, hU1, hU2, hU3, by omega, hK2, c, w⟩
        · rw [bq_f w, if_pos (show qb false = 0 from rfl)] at hX
          exact on (fun y => w y.2.2.2.2.2.2) X e' hX
      rw [if_pos q2, eh]
      rcases hla with rfl | ⟨rfl, _⟩
      · rw [if_neg (by decide)]
        exact b94 _ rfl
      · rw [if_pos (by rfl)]
        exact b94 _ rfl
    · have q2 : ¬ zI ((U : Int) - popc K) = zI (N - t) := by simp (disch := omega) only [zl_0, zl_1, zl_2, zl_3, zl_4, zl_5, zl_6, zl_7, zl_8, zl_9, zl_10, zl_11, zl_12, zl_13, zl_14, zl_15, zl_16, zl_17, zl_18, zl_19, zl_20, zl_21, zl_22, zl_23, zl_24, zl_25, zl_26, zl_27, zl_28, zl_29, zl_30, zl_31, zl_32, zl_33, zl_34, zl_35, zl_36, zl_37, zl_38, zl_39, zl_40, zl_41, zl_42, zl_43, zl_44, zl_45, zl_46, zl_47, zl_48, zl_49, zl_50, zl_51, zl_52, zl_53, zl_54, zl_55, zl_56, zl_57, zl_58, zl_59, zl_60, zl_61, zl_62, zl_63, zl_64, zl_65, zl_66, zl_80, zl_97, zl_99, zl_103, zl_107, zl_112, zl_115, zl_100, zl_180, zl_210, zl_238, zl_255, zl_256, zl_400, zl_1000, zl_1024, zl_1260, zl_2000, zl_7140, zl_7200, zl_18414, zl_65536, zl_131072, zl_9999, zl_999, zI_add, zI_sub, zI_mul, zI_neg, zI_lt, zI_le, zI_eq, zI_clamp, ck_z, ckp_z, qb_z, qb_z0, Option.bind_some]; exact c
      rw [if_neg q2]
      exact on (fun y => c y.2.2.2.2.2.1) _ ein rfl
theorem bf_28 (hB : BkW Λ) (hL : LvM Λ marks hangs cancels) (hR : RuB Λ j mz ms ml mp) (KK : NF → Int32 → Int32 → Int32 → Int32 → Int32 → Int32 → Int32 → RB) (q t half last N f : Int) (s : Nat) (q0 : 0 ≤ q) (q1 : q < 8) (t0 : 0 ≤ t) (htN : t < N) (hNH : N ≤ bkH Λ) (a0 : 0 ≤ half) (a1 : half ≤ 28) (hla : last = 0 ∨ (last = 1 ∧ 1 ≤ t)) (hf : f = 0 ∨ f = 1) (hs : s ≤ 8) : ∀ (d m U : Nat) (ein : NF), U + d = s + 1 + 30 → d < m → N - t ≤ U → ((∃ e', F_X8_beginsFrom_b28 marks mz ms ml mp (zI j) hangs cancels KK m ein (zI q) (zI t) (zI half) (zI last) (zI N) (zI f) (zI s) (zI U) = some (true, e')) ∧ ∃ U' k, U ≤ U' ∧ OpM Λ N f q t half last s U' k) ∨ ((∃ e', F_X8_beginsFrom_b28 marks mz ms ml mp (zI j) hangs cancels KK m ein (zI q) (zI t) (zI half) (zI last) (zI N) (zI f) (zI s) (zI U) = KK e' (zI q) (zI t) (zI half) (zI last) (zI N) (zI f) (zI ((s + 2 : Nat) : Int))) ∧ ∀ U' k, U ≤ U' → ¬ OpM Λ N f q t half last s U' k)
  | d, 0, U, ein, _, h, _ => absurd h (Nat.not_lt_zero _)
  | d, m + 1, U, ein, hd, hm, hU1 => by
    have h30 := hB.2.1
    have eS2 : zI (s : Int) + 2 = zI ((s + 2 : Nat) : Int) := by rw [zl_2, zI_add]; congr 1
    have en : zI N - zI t + 4 = zI (N - t + 4) := by rw [zI_sub, show (4 : Int32) = zI 4 from rfl, zI_add]
    rw [F_X8_beginsFrom_b28, en]
    unfold F_X8_beginsFrom_b127
    rw [eS2]
    by_cases c1 : U ≤ s
    · have l1 : ¬ zI (s : Int) < zI (U : Int) := by simp (disch := omega) only [zl_0, zl_1, zl_2, zl_3, zl_4, zl_5, zl_6, zl_7, zl_8, zl_9, zl_10, zl_11, zl_12, zl_13, zl_14, zl_15, zl_16, zl_17, zl_18, zl_19, zl_20, zl_21, zl_22, zl_23, zl_24, zl_25, zl_26, zl_27, zl_28, zl_29, zl_30, zl_31, zl_32, zl_33, zl_34, zl_35, zl_36, zl_37, zl_38, zl_39, zl_40, zl_41, zl_42, zl_43, zl_44, zl_45, zl_46, zl_47, zl_48, zl_49, zl_50, zl_51, zl_52, zl_53, zl_54, zl_55, zl_56, zl_57, zl_58, zl_59, zl_60, zl_61, zl_62, zl_63, zl_64, zl_65, zl_66, zl_80, zl_97, zl_99, zl_103, zl_107, zl_112, zl_115, zl_100, zl_180, zl_210, zl_238, zl_255, zl_256, zl_400, zl_1000, zl_1024, zl_1260, zl_2000, zl_7140, zl_7200, zl_18414, zl_65536, zl_131072, zl_9999, zl_999, zI_add, zI_sub, zI_mul, zI_neg, zI_lt, zI_le, zI_eq, zI_clamp, ck_z, ckp_z, qb_z, qb_z0, Option.bind_some]; omega
      rw [if_neg l1]
      by_cases c2 : (U : Int) ≤ N - t + 4
      · have l2 : ¬ zI (N - t + 4) < zI (U : Int) := by simp (disch := omega) only [zl_0, zl_1, zl_2, zl_3, zl_4, zl_5, zl_6, zl_7, zl_8, zl_9, zl_10, zl_11, zl_12, zl_13, zl_14, zl_15, zl_16, zl_17, zl_18, zl_19, zl_20, zl_21, zl_22, zl_23, zl_24, zl_25, zl_26, zl_27, zl_28, zl_29, zl_30, zl_31, zl_32, zl_33, zl_34, zl_35, zl_36, zl_37, zl_38, zl_39, zl_40, zl_41, zl_42, zl_43, zl_44, zl_45, zl_46, zl_47, zl_48, zl_49, zl_50, zl_51, zl_52, zl_53, zl_54, zl_55, zl_56, zl_57, zl_58, zl_59, zl_60, zl_61, zl_62, zl_63, zl_64, zl_65, zl_66, zl_80, zl_97, zl_99, zl_103, zl_107, zl_112, zl_115, zl_100, zl_180, zl_210, zl_238, zl_255, zl_256, zl_400, zl_1000, zl_1024, zl_1260, zl_2000, zl_7140, zl_7200, zl_18414, zl_65536, zl_131072, zl_9999, zl_999, zI_add, zI_sub, zI_mul, zI_neg, zI_lt, zI_le, zI_eq, zI_clamp, ck_z, ckp_z, qb_z, qb_z0, Option.bind_some]; omega
        rw [if_neg l2]
        have hev : 2 ^ U % 2 = 0 := by
          obtain ⟨u, rfl⟩ : ∃ u, U = u + 1 := ⟨U - 1, by omega⟩
          rw [Nat.pow_succ]
          omega
        have h256 : 2 ^ U ≤ 256 := show 2 ^ U ≤ 2 ^ 8 from Nat.pow_le_pow_right (by omega) (by omega)
        have b49 := bf_49 hB hL hR (fun m_in x1 x2 x3 x4 x5 x6 x7 x8 => F_X8_beginsFrom_b28 marks mz ms ml mp (zI j) hangs cancels KK m m_in x1 x2 x3 x4 x5 x6 x7 x8) q t half last N f s U q0 q1 t0 htN hNH a0 a1 hla hf hs hU1 c1 c2 (2 ^ U / 2) FU 0 ein (by omega) (by omega) (by unfold FU; omega)
        rcases b49 with ⟨i1, k, k1, k2⟩ | ⟨⟨e', i1⟩, i2⟩
        · exact Or.inl ⟨i1, U, k, Nat.le_refl _, k2⟩
        · have i1' : F_X8_beginsFrom_b49 marks mz ms ml mp (zI j) hangs cancels (fun m_in x1 x2 x3 x4 x5 x6 x7 x8 => F_X8_beginsFrom_b28 marks mz ms ml mp (zI j) hangs cancels KK m m_in x1 x2 x3 x4 x5 x6 x7 x8) FU ein (zI q) (zI t) (zI half) (zI last) (zI N) (zI f) (zI s) (zI U) 0 = F_X8_beginsFrom_b28 marks mz ms ml mp (zI j) hangs cancels KK m e' (zI q) (zI t) (zI half) (zI last) (zI N) (zI f) (zI s) (zI ((U + 1 : Nat) : Int)) := i1
          rw [i1']
          rcases bf_28 hB hL hR KK q t half last N f s q0 q1 t0 htN hNH a0 a1 hla hf hs (d - 1) m (U + 1) e' (by omega) (by omega) (by omega) with ⟨j1, U', k, j2, j3⟩ | ⟨j1, j2⟩
          · exact Or.inl ⟨j1, U', k, by omega, j3⟩
          · refine Or.inr ⟨j1, fun U' k hU' w => ?_⟩
            by_cases e : U' = U
            · subst e; exact i2 k (Nat.zero_le _) w
            · exact j2 U' k (by omega) w
      · have l2 : zI (N - t + 4) < zI (U : Int) := by simp (disch := omega) only [zl_0, zl_1, zl_2, zl_3, zl_4, zl_5, zl_6, zl_7, zl_8, zl_9, zl_10, zl_11, zl_12, zl_13, zl_14, zl_15, zl_16, zl_17, zl_18, zl_19, zl_20, zl_21, zl_22, zl_23, zl_24, zl_25, zl_26, zl_27, zl_28, zl_29, zl_30, zl_31, zl_32, zl_33, zl_34, zl_35, zl_36, zl_37, zl_38, zl_39, zl_40, zl_41, zl_42, zl_43, zl_44, zl_45, zl_46, zl_47, zl_48, zl_49, zl_50, zl_51, zl_52, zl_53, zl_54, zl_55, zl_56, zl_57, zl_58, zl_59, zl_60, zl_61, zl_62, zl_63, zl_64, zl_65, zl_66, zl_80, zl_97, zl_99, zl_103, zl_107, zl_112, zl_115, zl_100, zl_180, zl_210, zl_238, zl_255, zl_256, zl_400, zl_1000, zl_1024, zl_1260, zl_2000, zl_7140, zl_7200, zl_18414, zl_65536, zl_131072, zl_9999, zl_999, zI_add, zI_sub, zI_mul, zI_neg, zI_lt, zI_le, zI_eq, zI_clamp, ck_z, ckp_z, qb_z, qb_z0, Option.bind_some]; omega
        rw [if_pos l2]
        refine Or.inr ⟨⟨ein, rfl⟩, fun U' k hU' w => ?_⟩
        have := w.2.2.1
        omega
    · have l1 : zI (s : Int) < zI (U : Int) := by simp (disch := omega) only [zl_0, zl_1, zl_2, zl_3, zl_4, zl_5, zl_6, zl_7, zl_8, zl_9, zl_10, zl_11, zl_12, zl_13, zl_14, zl_15, zl_16, zl_17, zl_18, zl_19, zl_20, zl_21, zl_22, zl_23, zl_24, zl_25, zl_26, zl_27, zl_28, zl_29, zl_30, zl_31, zl_32, zl_33, zl_34, zl_35, zl_36, zl_37, zl_38, zl_39, zl_40, zl_41, zl_42, zl_43, zl_44, zl_45, zl_46, zl_47, zl_48, zl_49, zl_50, zl_51, zl_52, zl_53, zl_54, zl_55, zl_56, zl_57, zl_58, zl_59, zl_60, zl_61, zl_62, zl_63, zl_64, zl_65, zl_66, zl_80, zl_97, zl_99, zl_103, zl_107, zl_112, zl_115, zl_100, zl_180, zl_210, zl_238, zl_255, zl_256, zl_400, zl_1000, zl_1024, zl_1260, zl_2000, zl_7140, zl_7200, zl_18414, zl_65536, zl_131072, zl_9999, zl_999, zI_add, zI_sub, zI_mul, zI_neg, zI_lt, zI_le, zI_eq, zI_clamp, ck_z, ckp_z, qb_z, qb_z0, Option.bind_some]; omega
      rw [if_pos l1]
      refine Or.inr ⟨⟨ein, rfl⟩, fun U' k hU' w => ?_⟩
      have := w.2.1
      omega
/-- the model: some beginning goes on from that state -/
def BgM (Λ : Book) (N f q t half last : Int) : Prop := ∃ s : Nat, (s = 2 ∨ s = 4 ∨ s = 6 ∨ s = 8) ∧ alw (bkZ Λ) s = true ∧ ∃ U k, OpM Λ N f q t half last s U k
theorem bf_3 (hB : BkW Λ) (hL : LvM Λ marks hangs cancels) (hR : RuB Λ j mz ms ml mp) (q t half last N f : Int) (q0 : 0 ≤ q) (q1 : q < 8) (t0 : 0 ≤ t) (htN : t < N) (hNH : N ≤ bkH Λ) (a0 : 0 ≤ half) (a1 : half ≤ 28) (hla : last = 0 ∨ (last = 1 ∧ 1 ≤ t)) (hf : f = 0 ∨ f = 1) : ∀ (i m : Nat) (ein : NF), i ≤ 4 → i < m → ∃ e', F_X8_beginsFrom_b3 marks mz ms ml mp (zI j) hangs cancels m ein (zI q) (zI t) (zI half) (zI last) (zI N) (zI f) (zI ((10 - 2 * i : Nat) : Int)) = some (bq (∃ s : Nat, 10 - 2 * i ≤ s ∧ (s = 2 ∨ s = 4 ∨ s = 6 ∨ s = 8) ∧ alw (bkZ Λ) s = true ∧ ∃ U k, OpM Λ N f q t half last s U k), e')
  | 0, m + 1, ein, _, _ => by
    have l : 8 < zI ((10 - 2 * 0 : Nat) : Int) := by decide
    rw [F_X8_beginsFrom_b3, if_pos l, bq_f (fun ⟨s, s1, s2, _⟩ => by omega)]
    exact ⟨ein, rfl⟩
  | i + 1, m + 1, ein, hi, hm => by
    have h30 := hB.2.1
    obtain ⟨s, hs⟩ : ∃ s, s = 8 - 2 * i := ⟨_, rfl⟩
    have es : 10 - 2 * (i + 1) = s := by omega
    have es2 : s + 2 = 10 - 2 * i := by omega
    have hs4 : s = 2 ∨ s = 4 ∨ s = 6 ∨ s = 8 := by omega
    have l : ¬ 8 < zI (s : Int) := by simp (disch := omega) only [zl_0, zl_1, zl_2, zl_3, zl_4, zl_5, zl_6, zl_7, zl_8, zl_9, zl_10, zl_11, zl_12, zl_13, zl_14, zl_15, zl_16, zl_17, zl_18, zl_19, zl_20, zl_21, zl_22, zl_23, zl_24, zl_25, zl_26, zl_27, zl_28, zl_29, zl_30, zl_31, zl_32, zl_33, zl_34, zl_35, zl_36, zl_37, zl_38, zl_39, zl_40, zl_41, zl_42, zl_43, zl_44, zl_45, zl_46, zl_47, zl_48, zl_49, zl_50, zl_51, zl_52, zl_53, zl_54, zl_55, zl_56, zl_57, zl_58, zl_59, zl_60, zl_61, zl_62, zl_63, zl_64, zl_65, zl_66, zl_80, zl_97, zl_99, zl_103, zl_107, zl_112, zl_115, zl_100, zl_180, zl_210, zl_238, zl_255, zl_256, zl_400, zl_1000, zl_1024, zl_1260, zl_2000, zl_7140, zl_7200, zl_18414, zl_65536, zl_131072, zl_9999, zl_999, zI_add, zI_sub, zI_mul, zI_neg, zI_lt, zI_le, zI_eq, zI_clamp, ck_z, ckp_z, qb_z, qb_z0, Option.bind_some]; omega
    have eS2 : zI (s : Int) + 2 = zI ((s + 2 : Nat) : Int) := by rw [zl_2, zI_add]; congr 1
    have ih (ein : NF) := bf_3 hB hL hR q t half last N f q0 q1 t0 htN hNH a0 a1 hla hf i m ein (by omega) (by omega)
    have stp (hno : ¬ (alw (bkZ Λ) s = true ∧ ∃ U k, OpM Λ N f q t half last s U k)) : (∃ s' : Nat, s ≤ s' ∧ (s' = 2 ∨ s' = 4 ∨ s' = 6 ∨ s' = 8) ∧ alw (bkZ Λ) s' = true ∧ ∃ U k, OpM Λ N f q t half last s' U k) ↔ (∃ s' : Nat, 10 - 2 * i ≤ s' ∧ (s' = 2 ∨ s' = 4 ∨ s' = 6 ∨ s' = 8) ∧ alw (bkZ Λ) s' = true ∧ ∃ U k, OpM Λ N f q t half last s' U k) := by
      constructor
      · rintro ⟨s', a, b, c, d⟩
        by_cases e : s' = s
        · subst e; exact absurd ⟨c, d⟩ hno
        · exact ⟨s', by omega, b, c, d⟩
      · rintro ⟨s', a, b, c, d⟩
        exact ⟨s', by omega, b, c, d⟩
    rw [es, F_X8_beginsFrom_b3, if_neg l, hasSz hB hR s hs4, Option.bind_some]
    by_cases c : alw (bkZ Λ) s = true
    · rw [c, if_neg (show ¬ qb true = 0 by decide)]
      have en : zI N - zI t = zI ((N - t).toNat : Int) := by rw [zI_sub]; congr 1; omega
      rw [en]
      rcases bf_28 hB hL hR (fun m_in x1 x2 x3 x4 x5 x6 x7 => F_X8_beginsFrom_b3 marks mz ms ml mp (zI j) hangs cancels m m_in x1 x2 x3 x4 x5 x6 x7) q t half last N f s q0 q1 t0 htN hNH a0 a1 hla hf (by omega) (s + 1 + 30 - (N - t).toNat) FU (N - t).toNat ein (by omega) (by unfold FU; omega) (by omega) with ⟨⟨e', i1⟩, U', k, _, k2⟩ | ⟨⟨e', i1⟩, i2⟩
      · rw [i1, bq_t ⟨s, Nat.le_refl _, hs4, c, U', k, k2⟩]
        exact ⟨e', rfl⟩
      · rw [i1, bq_c (stp (fun ⟨_, U, k, w⟩ => i2 U k (by have := w.1; omega) w)), es2]
        exact ih e'
    · have c' : alw (bkZ Λ) s = false := by cases h : alw (bkZ Λ) s; rfl; exact absurd h c
      rw [c', if_pos (show qb false = 0 from rfl)]
      unfold F_X8_beginsFrom_b127
      rw [eS2, es2, bq_c (stp (fun w => c w.1))]
      exact ih ein
theorem beginsFrom_z (hB : BkW Λ) (hL : LvM Λ marks hangs cancels) (hR : RuB Λ j mz ms ml mp) (q t half last N f : Int) (q0 : 0 ≤ q) (q1 : q < 8) (t0 : 0 ≤ t) (htN : t < N) (hNH : N ≤ bkH Λ) (a0 : 0 ≤ half) (a1 : half ≤ 28) (hla : last = 0 ∨ (last = 1 ∧ 1 ≤ t)) (hf : f = 0 ∨ f = 1) (ein : NF) : ∃ e', F_X8_beginsFrom marks mz ms ml mp (zI j) hangs cancels ein (zI q) (zI t) (zI half) (zI last) (zI N) (zI f) = some (bq (BgM Λ N f q t half last), e') := by
  obtain ⟨e', h⟩ := bf_3 hB hL hR q t half last N f q0 q1 t0 htN hNH a0 a1 hla hf 4 FU ein (by omega) (by unfold FU; omega)
  refine ⟨e', ?_⟩
  have iff : (∃ s : Nat, 10 - 2 * 4 ≤ s ∧ (s = 2 ∨ s = 4 ∨ s = 6 ∨ s = 8) ∧ alw (bkZ Λ) s = true ∧ ∃ U k, OpM Λ N f q t half last s U k) ↔ BgM Λ N f q t half last := by
    constructor
    · rintro ⟨s, _, b⟩; exact ⟨s, b⟩
    · rintro ⟨s, b⟩; exact ⟨s, by omega, b⟩
  rw [bq_c iff] at h
  exact h
end BM

def spr1 (q t half : Int) (f : NF) (x : Nat × Nat) : NF := upd f (stn (q + 1) (xt t x) (xh half x) (enl x.2)).toNat 1
theorem spr_at {q t half : Int} (n : Nat) : ∀ (l : List (Nat × Nat)) (f : NF), ((∃ x, x ∈ l ∧ (stn (q + 1) (xt t x) (xh half x) (enl x.2)).toNat = n) → l.foldl (spr1 q t half) f n = 1) ∧ ((¬ ∃ x, x ∈ l ∧ (stn (q + 1) (xt t x) (xh half x) (enl x.2)).toNat = n) → l.foldl (spr1 q t half) f n = f n)
  | [], f => ⟨fun ⟨x, h, _⟩ => absurd h List.not_mem_nil, fun _ => rfl⟩
  | y :: l, f => by
    obtain ⟨i1, i2⟩ := spr_at (q := q) (t := t) (half := half) n l (spr1 q t half f y)
    rw [List.foldl_cons]
    by_cases c : ∃ x, x ∈ l ∧ (stn (q + 1) (xt t x) (xh half x) (enl x.2)).toNat = n
    · refine ⟨fun _ => i1 c, fun w => absurd ?_ w⟩
      obtain ⟨x, h1, h2⟩ := c
      exact ⟨x, List.mem_cons_of_mem _ h1, h2⟩
    · rw [i2 c]
      unfold spr1
      by_cases e : (stn (q + 1) (xt t y) (xh half y) (enl y.2)).toNat = n
      · rw [e, upd_at]
        exact ⟨fun _ => rfl, fun w => absurd ⟨y, List.mem_cons_self, e⟩ w⟩
      · rw [upd_ne _ _ (fun x => e x.symm)]
        refine ⟨fun ⟨x, h1, h2⟩ => ?_, fun _ => rfl⟩
        rcases List.mem_cons.mp h1 with w | w
        · rw [w] at h2; exact absurd h2 e
        · exact absurd ⟨x, w, h2⟩ c
section SP
variable {Λ : Book} {j : Int} {marks hangs cancels mz ms ml mp : NF}
abbrev KSp : Type := NF → NF → Int32 → Int32 → Int32 → Int32 → Int32 → Option (NF × NF)
theorem spreads_b25_z (hB : BkW Λ) (hL : LvM Λ marks hangs cancels) (hR : RuB Λ j mz ms ml mp) (KK : KSp) (q t half last : Int) (s : Nat) (q0 : 0 ≤ q) (q1 : q < 8) (t0 : 0 ≤ t) (t1 : t ≤ 30) (a0 : 0 ≤ half) (a1 : half ≤ 28) (hla : last = 0 ∨ (last = 1 ∧ 1 ≤ t)) (hs : s = 2 ∨ s = 4 ∨ s = 6 ∨ s = 8) (hA : alw (bkZ Λ) s = true) : ∀ (d m K : Nat) (ein met : NF), K + d = 2 ^ s → d < m → ∃ e', F_X8_spreads_b25 marks mz ms ml mp (zI j) (zI (bkH Λ)) hangs cancels KK m ein met (zI q) (zI t) (zI half) (zI last) (zI s) (nI K) = KK e' ((lsm (gdM Λ q t half last) s d K).foldl (spr1 q t half) met) (zI q) (zI t) (zI half) (zI last) (zI ((s + 2 : Nat) : Int))
  | 0, m + 1, K, ein, met, hK, _ => by
    have epw : (1 : Int32) <<< (zI (s : Int) &&& 31) = nI (2 ^ s) := by rw [← nI_zI]; exact pow_s s (by omega)
    have h256 : 2 ^ s ≤ 256 := show 2 ^ s ≤ 2 ^ 8 from Nat.pow_le_pow_right (by omega) (by omega)
    have l : nI (2 ^ s) ≤ nI K := by rw [nI_zI, nI_zI]; simp (disch := omega) only [zl_0, zl_1, zl_2, zl_3, zl_4, zl_5, zl_6, zl_7, zl_8, zl_9, zl_10, zl_11, zl_12, zl_13, zl_14, zl_15, zl_16, zl_17, zl_18, zl_19, zl_20, zl_21, zl_22, zl_23, zl_24, zl_25, zl_26, zl_27, zl_28, zl_29, zl_30, zl_31, zl_32, zl_33, zl_34, zl_35, zl_36, zl_37, zl_38, zl_39, zl_40, zl_41, zl_42, zl_43, zl_44, zl_45, zl_46, zl_47, zl_48, zl_49, zl_50, zl_51, zl_52, zl_53, zl_54, zl_55, zl_56, zl_57, zl_58, zl_59, zl_60, zl_61, zl_62, zl_63, zl_64, zl_65, zl_66, zl_80, zl_97, zl_99, zl_103, zl_107, zl_112, zl_115, zl_100, zl_180, zl_210, zl_238, zl_255, zl_256, zl_400, zl_1000, zl_1024, zl_1260, zl_2000, zl_7140, zl_7200, zl_18414, zl_65536, zl_131072, zl_9999, zl_999, zI_add, zI_sub, zI_mul, zI_neg, zI_lt, zI_le, zI_eq, zI_clamp, ck_z, ckp_z, qb_z, qb_z0, Option.bind_some]; omega
    have eS2 : zI (s : Int) + 2 = zI ((s + 2 : Nat) : Int) := by rw [zl_2, zI_add]; congr 1
    rw [F_X8_spreads_b25, epw, if_pos l]
    unfold F_X8_spreads_b73
    rw [eS2]
    exact ⟨ein, rfl⟩
  | d + 1, m + 1, K, ein, met, hK, hm => by
    have epw : (1 : Int32) <<< (zI (s : Int) &&& 31) = nI (2 ^ s) := by rw [← nI_zI]; exact pow_s s (by omega)
    have h256 : 2 ^ s ≤ 256 := show 2 ^ s ≤ 2 ^ 8 from Nat.pow_le_pow_right (by omega) (by omega)
    have l : ¬ nI (2 ^ s) ≤ nI K := by rw [nI_zI, nI_zI]; simp (disch := omega) only [zl_0, zl_1, zl_2, zl_3, zl_4, zl_5, zl_6, zl_7, zl_8, zl_9, zl_10, zl_11, zl_12, zl_13, zl_14, zl_15, zl_16, zl_17, zl_18, zl_19, zl_20, zl_21, zl_22, zl_23, zl_24, zl_25, zl_26, zl_27, zl_28, zl_29, zl_30, zl_31, zl_32, zl_33, zl_34, zl_35, zl_36, zl_37, zl_38, zl_39, zl_40, zl_41, zl_42, zl_43, zl_44, zl_45, zl_46, zl_47, zl_48, zl_49, zl_50, zl_51, zl_52, zl_53, zl_54, zl_55, zl_56, zl_57, zl_58, zl_59, zl_60, zl_61, zl_62, zl_63, zl_64, zl_65, zl_66, zl_80, zl_97, zl_99, zl_103, zl_107, zl_112, zl_115, zl_100, zl_180, zl_210, zl_238, zl_255, zl_256, zl_400, zl_1000, zl_1024, zl_1260, zl_2000, zl_7140, zl_7200, zl_18414, zl_65536, zl_131072, zl_9999, zl_999, zI_add, zI_sub, zI_mul, zI_neg, zI_lt, zI_le, zI_eq, zI_clamp, ck_z, ckp_z, qb_z, qb_z0, Option.bind_some]; omega
    have eK : nI K + 1 = nI (K + 1) := by rw [nI_zI, nI_zI, zl_1, zI_add]; congr 1
    obtain ⟨e1, he1⟩ := isQuire_z hB hL hR q t half last s K q0 q1 t0 t1 a0 (by omega) hla (by omega) (by omega) ein
    have h30 := hB.2.1
    rw [F_X8_spreads_b25, epw, if_neg l, he1, Option.bind_some, eK]
    by_cases c : QuM Λ q t half last s K
    · have tb := thg_b K s s
      have tH := c.2.2.1
      have sb := stn_b (q := q + 1) (t := t + thg K s s) (half := half + (s / 2 : Nat)) (last := enl K) (by omega) (by omega) (by omega) (by omega) (by omega) (by omega) (enl_b K)
      have eg : lsm (gdM Λ q t half last) s (d + 1) K = (s, K) :: lsm (gdM Λ q t half last) s d (K + 1) := by
        rw [lsm, if_pos]
        unfold gdM
        rw [hA, bq_t c]
        rfl
      rw [bq_t c, if_neg (show ¬ qb true = 0 by decide), behindQ_z q t half s K hs (by omega), Option.bind_some, ck_z sb.1 sb.2 (by omega), zI_clamp (by omega) (by omega), eg, List.foldl_cons]
      exact spreads_b25_z hB hL hR KK q t half last s q0 q1 t0 t1 a0 a1 hla hs hA d m (K + 1) e1 _ (by omega) (by omega)
    · have eg : lsm (gdM Λ q t half last) s (d + 1) K = lsm (gdM Λ q t half last) s d (K + 1) := by
        rw [lsm, if_neg]
        unfold gdM
        rw [hA, bq_f c]
        decide
      rw [bq_f c, if_pos (show qb false = 0 from rfl), eg]
      exact spreads_b25_z hB hL hR KK q t half last s q0 q1 t0 t1 a0 a1 hla hs hA d m (K + 1) e1 met (by omega) (by omega)
theorem lsm_na {q t half last : Int} {s : Nat} (hA : ¬ alw (bkZ Λ) s = true) (d K : Nat) : lsm (gdM Λ q t half last) s d K = [] := by
  refine lsm_no d K (fun k _ _ x => hA ?_)
  unfold gdM at x
  rw [Bool.and_eq_true] at x
  exact x.1
/-- the lists from a size on -/
def lsz (G : Nat → Nat → Bool) : Nat → List (Nat × Nat)
  | 0 => []
  | j + 1 => lst G j 0
theorem lsz_s (G : Nat → Nat → Bool) (i : Nat) : lsz G (i + 1) = lsm G (8 - 2 * i) (2 ^ (8 - 2 * i)) 0 ++ lsz G i := by
  cases i
  · show lst G 0 0 = lsm G (8 - 2 * 0) (2 ^ (8 - 2 * 0)) 0 ++ []
    rw [List.append_nil]
    rfl
  · rfl
theorem spreads_b3_z (hB : BkW Λ) (hL : LvM Λ marks hangs cancels) (hR : RuB Λ j mz ms ml mp) (q t half last : Int) (q0 : 0 ≤ q) (q1 : q < 8) (t0 : 0 ≤ t) (t1 : t ≤ 30) (a0 : 0 ≤ half) (a1 : half ≤ 28) (hla : last = 0 ∨ (last = 1 ∧ 1 ≤ t)) : ∀ (i m : Nat) (ein met : NF), i ≤ 4 → i < m → ∃ e', F_X8_spreads_b3 marks mz ms ml mp (zI j) (zI (bkH Λ)) hangs cancels m ein met (zI q) (zI t) (zI half) (zI last) (zI ((10 - 2 * i : Nat) : Int)) = some (e', (lsz (gdM Λ q t half last) i).foldl (spr1 q t half) met)
  | 0, m + 1, ein, met, _, _ => by
    have l : 8 < zI ((10 - 2 * 0 : Nat) : Int) := by decide
    rw [F_X8_spreads_b3, if_pos l]
    exact ⟨ein, rfl⟩
  | i + 1, m + 1, ein, met, hi, hm => by
    obtain ⟨s, hs⟩ : ∃ s, s = 8 - 2 * i := ⟨_, rfl⟩
    have es : 10 - 2 * (i + 1) = s := by omega
    have es2 : s + 2 = 10 - 2 * i := by omega
    have hs4 : s = 2 ∨ s = 4 ∨ s = 6 ∨ s = 8 := by omega
    have l : ¬ 8 < zI (s : Int) := by simp (disch := omega) only [zl_0, zl_1, zl_2, zl_3, zl_4, zl_5, zl_6, zl_7, zl_8, zl_9, zl_10, zl_11, zl_12, zl_13, zl_14, zl_15, zl_16, zl_17, zl_18, zl_19, zl_20, zl_21, zl_22, zl_23, zl_24, zl_25, zl_26, zl_27, zl_28, zl_29, zl_30, zl_31, zl_32, zl_33, zl_34, zl_35, zl_36, zl_37, zl_38, zl_39, zl_40, zl_41, zl_42, zl_43, zl_44, zl_45, zl_46, zl_47, zl_48, zl_49, zl_50, zl_51, zl_52, zl_53, zl_54, zl_55, zl_56, zl_57, zl_58, zl_59, zl_60, zl_61, zl_62, zl_63, zl_64, zl_65, zl_66, zl_80, zl_97, zl_99, zl_103, zl_107, zl_112, zl_115, zl_100, zl_180, zl_210, zl_238, zl_255, zl_256, zl_400, zl_1000, zl_1024, zl_1260, zl_2000, zl_7140, zl_7200, zl_18414, zl_65536, zl_131072, zl_9999, zl_999, zI_add, zI_sub, zI_mul, zI_neg, zI_lt, zI_le, zI_eq, zI_clamp, ck_z, ckp_z, qb_z, qb_z0, Option.bind_some]; omega
    have eS2 : zI (s : Int) + 2 = zI ((s + 2 : Nat) : Int) := by rw [zl_2, zI_add]; congr 1
    obtain ⟨KK, hKK⟩ : ∃ KK : KSp, KK = fun m_in m_isMet x1 x2 x3 x4 x5 => F_X8_spreads_b3 marks mz ms ml mp (zI j) (zI (bkH Λ)) hangs cancels m m_in m_isMet x1 x2 x3 x4 x5 := ⟨_, rfl⟩
    have ih (ein met : NF) := spreads_b3_z hB hL hR q t half last q0 q1 t0 t1 a0 a1 hla i m ein met (by omega) (by omega)
    rw [es, F_X8_spreads_b3, if_neg l, hasSz hB hR s hs4, Option.bind_some, ← hKK, lsz_s, ← hs, List.foldl_append]
    by_cases c : alw (bkZ Λ) s = true
    · rw [c, if_neg (show ¬ qb true = 0 by decide)]
      obtain ⟨e1, he1⟩ := spreads_b25_z hB hL hR KK q t half last s q0 q1 t0 t1 a0 a1 hla hs4 c (2 ^ s) FU 0 ein met (by omega) (by
        have h256 : 2 ^ s ≤ 256 := show 2 ^ s ≤ 2 ^ 8 from Nat.pow_le_pow_right (by omega) (by omega)
        unfold FU
        omega)
      have he2 : F_X8_spreads_b25 marks mz ms ml mp (zI j) (zI (bkH Λ)) hangs cancels KK FU ein met (zI q) (zI t) (zI half) (zI last) (zI s) 0 = KK e1 ((lsm (gdM Λ q t half last) s (2 ^ s) 0).foldl (spr1 q t half) met) (zI q) (zI t) (zI half) (zI last) (zI ((s + 2 : Nat) : Int)) := he1
      rw [he2, hKK, es2]
      exact ih e1 _
    · have c' : alw (bkZ Λ) s = false := by cases h : alw (bkZ Λ) s; rfl; exact absurd h c
      rw [c', if_pos (show qb false = 0 from rfl), lsm_na c]
      unfold F_X8_spreads_b73
      rw [eS2, hKK, es2]
      exact ih ein met
theorem spreads_z (hB : BkW Λ) (hL : LvM Λ marks hangs cancels) (hR : RuB Λ j mz ms ml mp) (q t half last : Int) (q0 : 0 ≤ q) (q1 : q < 8) (t0 : 0 ≤ t) (t1 : t ≤ 30) (a0 : 0 ≤ half) (a1 : half ≤ 28) (hla : last = 0 ∨ (last = 1 ∧ 1 ≤ t)) (ein met : NF) : ∃ e', F_X8_spreads marks mz ms ml mp (zI j) (zI (bkH Λ)) hangs cancels ein met (zI q) (zI t) (zI half) (zI last) = some (e', (lyM Λ q t half last).foldl (spr1 q t half) met) :=
  spreads_b3_z hB hL hR q t half last q0 q1 t0 t1 a0 a1 hla 4 FU ein met (by omega) (by unfold FU; omega)
end SP

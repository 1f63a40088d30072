def rmu (S K : Nat) : Nat := if S = 2 then 340 - K else if S = 4 then 336 - K else if S = 6 then 320 - K else if S = 8 then 256 - K else 0
theorem rmu_x {S K s k K' : Nat} (hx : Lex S K s k) (hS : S = 2 ∨ S = 4 ∨ S = 6 ∨ S = 8 ∨ S = 10) (hs : s = 2 ∨ s = 4 ∨ s = 6 ∨ s = 8) (hK : K ≤ 2 ^ S) (h1 : k < K') (h2 : K' ≤ 2 ^ s) : rmu s K' + 1 ≤ rmu S K := by
  rcases hs with rfl | rfl | rfl | rfl <;> rcases hS with rfl | rfl | rfl | rfl | rfl <;> rcases hx with x | ⟨x, y⟩ <;> first | (exfalso; omega) | (unfold rmu; simp only [reduceIte, Nat.reduceEqDiff]; omega)
theorem rmu_b (S K : Nat) : rmu S K ≤ 340 := by
  unfold rmu
  (repeat' split) <;> omega
abbrev RO : Type := Option (Bool × Int32 × Int32 × Int32 × Int32 × NF × NF × NF × Int32 × Int32 × Int32 × Int32 × Int32)
abbrev KO : Type := Int32 → Int32 → Int32 → Int32 → NF → NF → NF → Int32 → Int32 → Int32 → Int32 → Int32 → Int32 → Int32 → RO
def RCx (Λ : Book) (σ τ : Int → Int) (ld : Int) (bests : NF) (N t : Int) (s k : Nat) : Prop := ∃ p, Su Λ σ τ t (N - 1) s k p ∧ RCc Λ τ ld bests t s k (thg k s p) (ahc σ t k s p)
section OU
variable {Λ : Book} {σ τ : Int → Int} {letters numbers spots waters sides ties bests : NF} {ld N t : Int}
theorem Su_u {s k k2 p p2 : Nat} (hN : 0 ≤ N - 1) (hcg : Cg k k2 s p) (h1 : Su Λ σ τ t (N - 1) s k p) (h2 : Su Λ σ τ t (N - 1) s k2 p2) : p2 = p := by
  obtain ⟨a1, a2, a3, a4, a5, a6⟩ := Su_o hN h1
  obtain ⟨b1, b2, b3, b4, b5, b6⟩ := Su_o hN h2
  by_cases c : p2 < p
  · have := a6 p2 c
    rw [Cg_thg hcg p2 (by omega)] at this
    omega
  · by_cases c2 : p < p2
    · have := b6 p c2
      rw [← Cg_thg hcg p (Nat.le_refl _)] at this
      omega
    · omega
theorem ou_25 (hB : BkW Λ) (hT : TbC Λ σ τ numbers spots waters sides ties) (hn : ∀ h, 0 ≤ h → h < bkH Λ → letters h.toNat = zI (bkM Λ 0 h)) (KK : KO) (t0 : 0 ≤ t) (htN : t < N) (hNH : N ≤ bkH Λ) : ∀ (n m S K i : Nat) (seats nexts aheads : NF) (a b c d e : Int32), rmu S K ≤ n → n < m → i + n ≤ 341 → AdI Λ σ τ t (N - 1) S K seats nexts aheads → ((∃ (z3 z4 : Int32) (z5 z6 z7 : NF) (z8 z9 z10 z11 z12 : Int32), F_X4_opensUpTo_b25 (zI (bkH Λ)) letters numbers spots waters sides ties (zI (bkZ Λ)) (zI (bkG Λ)) (zI (bkL Λ)) (zI ld) bests KK m (zI t) (zI (N - 1)) (zI S) (nI K) seats nexts aheads a b c d e (zI (N - 1)) (zI t) (zI i) = some (true, zI t, zI (N - 1), z3, z4, z5, z6, z7, z8, z9, z10, z11, z12)) ∧ ∃ s k, Lex S K s k ∧ Sb Λ σ τ t (N - 1) s k ∧ RCx Λ σ τ ld bests N t s k) ∨ ((∃ (z3 z4 : Int32) (z5 z6 z7 : NF) (z8 z9 z10 z11 z12 : Int32), F_X4_opensUpTo_b25 (zI (bkH Λ)) letters numbers spots waters sides ties (zI (bkZ Λ)) (zI (bkG Λ)) (zI (bkL Λ)) (zI ld) bests KK m (zI t) (zI (N - 1)) (zI S) (nI K) seats nexts aheads a b c d e (zI (N - 1)) (zI t) (zI i) = KK (zI t) (zI (N - 1)) z3 z4 z5 z6 z7 z8 z9 z10 z11 z12 (zI (N - 1)) (zI (t - 1))) ∧ ∀ s k, Lex S K s k → Sb Λ σ τ t (N - 1) s k → ¬ RCx Λ σ τ ld bests N t s k)
  | n, 0, _, _, _, _, _, _, _, _, _, _, _, _, h, _, _ => absurd h (Nat.not_lt_zero _)
  | n, m + 1, S, K, i, seats, nexts, aheads, a, b, c, d, e, hr, hm, hi, hI => by
    have h30 := hB.2.1
    have l7 : ¬ 7200 ≤ zI (i : Int) := by rw [show (7200 : Int32) = zI 7200 from rfl]; simp (disch := omega) only [zl_0, zl_1, zl_2, zl_3, zl_4, zl_5, zl_6, zl_7, zl_8, zl_9, zl_10, zl_11, zl_12, zl_13, zl_14, zl_15, zl_16, zl_17, zl_18, zl_19, zl_20, zl_21, zl_22, zl_23, zl_24, zl_25, zl_26, zl_27, zl_28, zl_29, zl_30, zl_31, zl_32, zl_33, zl_34, zl_35, zl_36, zl_37, zl_38, zl_39, zl_40, zl_41, zl_42, zl_43, zl_44, zl_45, zl_46, zl_47, zl_48, zl_49, zl_50, zl_51, zl_52, zl_53, zl_54, zl_55, zl_56, zl_57, zl_58, zl_59, zl_60, zl_61, zl_62, zl_63, zl_64, zl_65, zl_66, zl_80, zl_97, zl_99, zl_103, zl_107, zl_112, zl_115, zl_100, zl_180, zl_210, zl_238, zl_255, zl_256, zl_400, zl_1000, zl_1024, zl_1260, zl_2000, zl_7140, zl_7200, zl_18414, zl_65536, zl_131072, zl_9999, zl_999, zI_add, zI_sub, zI_mul, zI_neg, zI_lt, zI_le, zI_eq, zI_clamp, ck_z, ckp_z, qb_z, qb_z0, Option.bind_some]; omega
    have em : zI t + -1 = zI (t - 1) := by rw [show (-1 : Int32) = zI (-1) from rfl, zI_add]; congr 1
    have ei : zI (i : Int) + 1 = zI ((i + 1 : Nat) : Int) := by rw [zl_1, zI_add]; congr 1
    have hS := hI.2.2.1
    have hK := hI.2.2.2.1
    rw [F_X4_opensUpTo_b25, if_neg l7, em]
    unfold F_X1_advance
    obtain ⟨S', K', se, ne, ah, r1, r2⟩ := advance_b2_z (last := N - 1) hB hT t0 (by omega) (by omega) (by omega) (Or.inr (by omega)) 344 FU S K seats nexts aheads a b c d e 0 0 (amv_b hS) (by unfold FU; omega) (by omega) rfl hI
    rcases r2 with ⟨s, k, th, gh, ap, q1, q2, q3, q4, p, q5, q6, q7, q8, q9, q10, q11⟩ | ⟨⟨a', b', c', d', e', q1⟩, q2⟩
    · obtain ⟨a1, a2, a3, a4, a5, a6⟩ := Su_o (by omega) q5
      have tb := thg_b k s p
      have s8 : s ≤ 8 := by have := q3.1; omega
      have ab := ahc_56 σ t k s p
      have al := ahc_lo p a3
      have wr := wasReached_z (x := (s, k)) (letters := letters) (bests := bests) (ld := ld) hB hn (fun h h0 h1 => ⟨(hT h h0 h1).2.2.2.2.1, (hT h h0 h1).2.2.2.2.2.2.2.1, (hT h h0 h1).2.2.2.2.2.2.2.2⟩) q3.1 q3.2.1 (thg k s p) t (ahc σ t k s p) t0 (by omega) (by omega) (by omega) (by omega) (by omega)
      rw [q8, q9, q10] at q1
      rw [q1, Option.bind_some, if_neg (show ¬ qb true = 0 by decide)]
      show (((∃ (z3 z4 : Int32) (z5 z6 z7 : NF) (z8 z9 z10 z11 z12 : Int32), (F_X4_wasReached (zI (bkH Λ)) letters ties (zI (bkL Λ)) (zI s) (nI k) (zI (thg k s p)) (zI (ahc σ t k s p)) (zI ld) bests (zI t)).bind _ = _)) ∧ _) ∨ ((∃ (z3 z4 : Int32) (z5 z6 z7 : NF) (z8 z9 z10 z11 z12 : Int32), (F_X4_wasReached (zI (bkH Λ)) letters ties (zI (bkL Λ)) (zI s) (nI k) (zI (thg k s p)) (zI (ahc σ t k s p)) (zI ld) bests (zI t)).bind _ = _) ∧ _)
      have wr' : F_X4_wasReached (zI (bkH Λ)) letters ties (zI (bkL Λ)) (zI s) (nI k) (zI (thg k s p)) (zI (ahc σ t k s p)) (zI ld) bests (zI t) = some (bq (RCc Λ τ ld bests t s k (thg k s p) (ahc σ t k s p))) := wr
      rw [wr', Option.bind_some, ei]
      by_cases w : RCc Λ τ ld bests t s k (thg k s p) (ahc σ t k s p)
      · rw [bq_t w, if_neg (show ¬ qb true = 0 by decide)]
        exact Or.inl ⟨⟨_, _, _, _, _, _, _, _, _, _, rfl⟩, s, k, q2, q3, p, q5, w⟩
      · rw [bq_f w, if_pos (show qb false = 0 from rfl)]
        have hE : 1 ≤ 2 ^ (s - p) := Nat.one_le_two_pow
        subst q4
        have hK' := r1.2.2.2.1
        have rm := rmu_x q2 hS q3.1 hK (show k < K' by omega) hK'
        rcases ou_25 hB hT hn KK t0 htN hNH (n - 1) m S' K' (i + 1) se ne ah (zI S') (nI k) (zI (thg k S' p)) (zI ((p : Int) - thg k S' p)) (zI (ahc σ t k S' p)) (by omega) (by omega) (by omega) r1 with ⟨i1, s2, k2, i2, i3, i4⟩ | ⟨i1, i2⟩
        · refine Or.inl ⟨i1, s2, k2, ?_, i3, i4⟩
          rcases i2 with x | ⟨x, y⟩
          · rcases q2 with z | z
            · exact Or.inl (by omega)
            · exact Or.inl (by omega)
          · rcases q2 with z | z
            · exact Or.inl (by omega)
            · exact Or.inr ⟨by omega, by omega⟩
        · refine Or.inr ⟨i1, fun s2 k2 x y z => ?_⟩
          have lx := q11 s2 k2 x y
          by_cases c2 : Lex S' K' s2 k2
          · exact i2 s2 k2 c2 y z
          · rcases lx with lx | ⟨lx, ly⟩
            · exact c2 (Or.inl lx)
            · subst lx
              have lt : k2 < K' := by
                by_cases g : K' ≤ k2
                · exact absurd (Or.inr ⟨rfl, g⟩) c2
                · omega
              have cg := Cg_mk a2 (div_rng hE q7 ly (by omega)).symm
              obtain ⟨p2, su2, rc2⟩ := z
              have ep := Su_u (by omega) cg q5 su2
              subst ep
              apply w
              rw [← Cg_thg cg p2 (Nat.le_refl _), ← Cg_ahc (σ := σ) (t := t) cg p2 (Nat.le_refl _)] at rc2
              obtain ⟨q, b1, b2, hc, b3, b4, b5⟩ := rc2
              refine ⟨q, b1, b2, hc, b3, b4, ?_⟩
              rcases b5 with b5 | ⟨b5, b6⟩
              · exact Or.inl b5
              · exact Or.inr ⟨fun v => b5 ⟨fun u => v.1 ((cg 1 (by omega) a1).mpr u), v.2⟩, b6⟩
    · rw [q1, Option.bind_some, if_pos (show qb false = 0 from rfl)]
      exact Or.inr ⟨⟨_, _, _, _, _, _, _, _, _, _, rfl⟩, fun s k x y _ => q2 s k x y⟩
theorem ou_2 (hB : BkW Λ) (hT : TbC Λ σ τ numbers spots waters sides ties) (hn : ∀ h, 0 ≤ h → h < bkH Λ → letters h.toNat = zI (bkM Λ 0 h)) (hN : 1 ≤ N) (hNH : N ≤ bkH Λ) : ∀ (d m : Nat) (t : Int) (s1 s2 s3 s4 : Int32) (s5 s6 s7 : NF) (s8 s9 s10 s11 s12 : Int32), t + 1 = d → d < m → t < N → ∃ (z1 z2 z3 z4 : Int32) (z5 z6 z7 : NF) (z8 z9 z10 z11 z12 : Int32), F_X4_opensUpTo_b2 (zI (bkH Λ)) letters numbers spots waters sides ties (zI (bkZ Λ)) (zI (bkG Λ)) (zI (bkL Λ)) (zI ld) bests m s1 s2 s3 s4 s5 s6 s7 s8 s9 s10 s11 s12 (zI (N - 1)) (zI t) = some (bq (∃ t', 0 ≤ t' ∧ N - 8 ≤ t' ∧ t' ≤ t ∧ ∃ s k, Sb Λ σ τ t' (N - 1) s k ∧ RCx Λ σ τ ld bests N t' s k), z1, z2, z3, z4, z5, z6, z7, z8, z9, z10, z11, z12)
  | 0, m + 1, t, s1, s2, s3, s4, s5, s6, s7, s8, s9, s10, s11, s12, ht, _, htN => by
    have ll : zI t < 0 := by simp (disch := omega) only [zl_0, zl_1, zl_2, zl_3, zl_4, zl_5, zl_6, zl_7, zl_8, zl_9, zl_10, zl_11, zl_12, zl_13, zl_14, zl_15, zl_16, zl_17, zl_18, zl_19, zl_20, zl_21, zl_22, zl_23, zl_24, zl_25, zl_26, zl_27, zl_28, zl_29, zl_30, zl_31, zl_32, zl_33, zl_34, zl_35, zl_36, zl_37, zl_38, zl_39, zl_40, zl_41, zl_42, zl_43, zl_44, zl_45, zl_46, zl_47, zl_48, zl_49, zl_50, zl_51, zl_52, zl_53, zl_54, zl_55, zl_56, zl_57, zl_58, zl_59, zl_60, zl_61, zl_62, zl_63, zl_64, zl_65, zl_66, zl_80, zl_97, zl_99, zl_103, zl_107, zl_112, zl_115, zl_100, zl_180, zl_210, zl_238, zl_255, zl_256, zl_400, zl_1000, zl_1024, zl_1260, zl_2000, zl_7140, zl_7200, zl_18414, zl_65536, zl_131072, zl_9999, zl_999, zI_add, zI_sub, zI_mul, zI_neg, zI_lt, zI_le, zI_eq, zI_clamp, ck_z, ckp_z, qb_z, qb_z0, Option.bind_some]; omega
    rw [F_X4_opensUpTo_b2, if_pos ll, bq_f (fun ⟨t', a, b, c, _⟩ => by omega)]
    exact ⟨_, _, _, _, _, _, _, _, _, _, _, _, rfl⟩
  | d + 1, m + 1, t, s1, s2, s3, s4, s5, s6, s7, s8, s9, s10, s11, s12, ht, hm, htN => by
    have h30 := hB.2.1
    have ll : ¬ zI t < 0 := by simp (disch := omega) only [zl_0, zl_1, zl_2, zl_3, zl_4, zl_5, zl_6, zl_7, zl_8, zl_9, zl_10, zl_11, zl_12, zl_13, zl_14, zl_15, zl_16, zl_17, zl_18, zl_19, zl_20, zl_21, zl_22, zl_23, zl_24, zl_25, zl_26, zl_27, zl_28, zl_29, zl_30, zl_31, zl_32, zl_33, zl_34, zl_35, zl_36, zl_37, zl_38, zl_39, zl_40, zl_41, zl_42, zl_43, zl_44, zl_45, zl_46, zl_47, zl_48, zl_49, zl_50, zl_51, zl_52, zl_53, zl_54, zl_55, zl_56, zl_57, zl_58, zl_59, zl_60, zl_61, zl_62, zl_63, zl_64, zl_65, zl_66, zl_80, zl_97, zl_99, zl_103, zl_107, zl_112, zl_115, zl_100, zl_180, zl_210, zl_238, zl_255, zl_256, zl_400, zl_1000, zl_1024, zl_1260, zl_2000, zl_7140, zl_7200, zl_18414, zl_65536, zl_131072, zl_9999, zl_999, zI_add, zI_sub, zI_mul, zI_neg, zI_lt, zI_le, zI_eq, zI_clamp, ck_z, ckp_z, qb_z, qb_z0, Option.bind_some]; omega
    have e8 : zI (N - 1) - 8 = zI (N - 1 - 8) := by rw [show (8 : Int32) = zI 8 from rfl, zI_sub]
    rw [F_X4_opensUpTo_b2, if_neg ll, e8]
    by_cases c : t ≤ N - 1 - 8
    · have l2 : zI t ≤ zI (N - 1 - 8) := by simp (disch := omega) only [zl_0, zl_1, zl_2, zl_3, zl_4, zl_5, zl_6, zl_7, zl_8, zl_9, zl_10, zl_11, zl_12, zl_13, zl_14, zl_15, zl_16, zl_17, zl_18, zl_19, zl_20, zl_21, zl_22, zl_23, zl_24, zl_25, zl_26, zl_27, zl_28, zl_29, zl_30, zl_31, zl_32, zl_33, zl_34, zl_35, zl_36, zl_37, zl_38, zl_39, zl_40, zl_41, zl_42, zl_43, zl_44, zl_45, zl_46, zl_47, zl_48, zl_49, zl_50, zl_51, zl_52, zl_53, zl_54, zl_55, zl_56, zl_57, zl_58, zl_59, zl_60, zl_61, zl_62, zl_63, zl_64, zl_65, zl_66, zl_80, zl_97, zl_99, zl_103, zl_107, zl_112, zl_115, zl_100, zl_180, zl_210, zl_238, zl_255, zl_256, zl_400, zl_1000, zl_1024, zl_1260, zl_2000, zl_7140, zl_7200, zl_18414, zl_65536, zl_131072, zl_9999, zl_999, zI_add, zI_sub, zI_mul, zI_neg, zI_lt, zI_le, zI_eq, zI_clamp, ck_z, ckp_z, qb_z, qb_z0, Option.bind_some]; exact c
      rw [if_pos l2, bq_f (fun ⟨t', a, b, c, _⟩ => by omega)]
      exact ⟨_, _, _, _, _, _, _, _, _, _, _, _, rfl⟩
    · have l2 : ¬ zI t ≤ zI (N - 1 - 8) := by simp (disch := omega) only [zl_0, zl_1, zl_2, zl_3, zl_4, zl_5, zl_6, zl_7, zl_8, zl_9, zl_10, zl_11, zl_12, zl_13, zl_14, zl_15, zl_16, zl_17, zl_18, zl_19, zl_20, zl_21, zl_22, zl_23, zl_24, zl_25, zl_26, zl_27, zl_28, zl_29, zl_30, zl_31, zl_32, zl_33, zl_34, zl_35, zl_36, zl_37, zl_38, zl_39, zl_40, zl_41, zl_42, zl_43, zl_44, zl_45, zl_46, zl_47, zl_48, zl_49, zl_50, zl_51, zl_52, zl_53, zl_54, zl_55, zl_56, zl_57, zl_58, zl_59, zl_60, zl_61, zl_62, zl_63, zl_64, zl_65, zl_66, zl_80, zl_97, zl_99, zl_103, zl_107, zl_112, zl_115, zl_100, zl_180, zl_210, zl_238, zl_255, zl_256, zl_400, zl_1000, zl_1024, zl_1260, zl_2000, zl_7140, zl_7200, zl_18414, zl_65536, zl_131072, zl_9999, zl_999, zI_add, zI_sub, zI_mul, zI_neg, zI_lt, zI_le, zI_eq, zI_clamp, ck_z, ckp_z, qb_z, qb_z0, Option.bind_some]; exact c
      have eo : F_X1_beginOpen s1 s2 s3 s4 s6 s7 (zI t) (zI (N - 1)) = some (zI t, zI (N - 1), 2, 0, upd s6 0 (zI t), upd s7 0 (-1)) := rfl
      rw [if_neg l2, eo, Option.bind_some]
      rcases ou_25 (bests := bests) (ld := ld) hB hT hn (fun s_first s_last s_nextSize s_nextMask s_seats s_nexts s_aheads s_size s_mask s_things s_ghosts s_ahead x1 x2 => F_X4_opensUpTo_b2 (zI (bkH Λ)) letters numbers spots waters sides ties (zI (bkZ Λ)) (zI (bkG Λ)) (zI (bkL Λ)) (zI ld) bests m s_first s_last s_nextSize s_nextMask s_seats s_nexts s_aheads s_size s_mask s_things s_ghosts s_ahead x1 x2) (by omega) htN hNH 340 FU 2 0 0 s5 (upd s6 0 (zI t)) (upd s7 0 (-1)) s8 s9 s10 s11 s12 (rmu_b _ _) (by unfold FU; omega) (by omega) (AdI_0 (Or.inr (by omega)) (upd_at _ _ _) (upd_at _ _ _) (by omega)) with ⟨⟨z3, z4, z5, z6, z7, z8, z9, z10, z11, z12, i1⟩, s, k, i2, i3, i4⟩ | ⟨⟨z3, z4, z5, z6, z7, z8, z9, z10, z11, z12, i1⟩, i2⟩
      · refine ⟨zI t, zI (N - 1), z3, z4, z5, z6, z7, z8, z9, z10, z11, z12, ?_⟩
        rw [bq_t ⟨t, by omega, by omega, Int.le_refl _, s, k, i3, i4⟩]
        exact i1
      · obtain ⟨y1, y2, y3, y4, y5, y6, y7, y8, y9, y10, y11, y12, r⟩ := ou_2 hB hT hn hN hNH d m (t - 1) (zI t) (zI (N - 1)) z3 z4 z5 z6 z7 z8 z9 z10 z11 z12 (by omega) (by omega) (by omega)
        refine ⟨y1, y2, y3, y4, y5, y6, y7, y8, y9, y10, y11, y12, ?_⟩
        have iff : (∃ t', 0 ≤ t' ∧ N - 8 ≤ t' ∧ t' ≤ t ∧ ∃ s k, Sb Λ σ τ t' (N - 1) s k ∧ RCx Λ σ τ ld bests N t' s k) ↔ (∃ t', 0 ≤ t' ∧ N - 8 ≤ t' ∧ t' ≤ t - 1 ∧ ∃ s k, Sb Λ σ τ t' (N - 1) s k ∧ RCx Λ σ τ ld bests N t' s k) := by
          constructor
          · rintro ⟨t', a, b, c, s, k, g, h⟩
            by_cases z : t' = t
            · subst z
              have hs := g.1
              refine absurd h (i2 s k ?_ g)
              by_cases z2 : s = 2
              · exact Or.inr ⟨z2.symm, Nat.zero_le _⟩
              · exact Or.inl (by omega)
            · exact ⟨t', a, b, by omega, s, k, g, h⟩
          · rintro ⟨t', a, b, c, r⟩
            exact ⟨t', a, b, by omega, r⟩
        rw [bq_c iff, ← r]
        exact i1
/-- the class: some beginning has the first N leaves -/
def BgC (Λ : Book) (σ τ : Int → Int) (ld : Int) (bests : NF) (N : Int) : Prop := ∃ t, 0 ≤ t ∧ N - 8 ≤ t ∧ t ≤ N - 1 ∧ ∃ s k, Sb Λ σ τ t (N - 1) s k ∧ RCx Λ σ τ ld bests N t s k
theorem opensUpTo_z (hB : BkW Λ) (hT : TbC Λ σ τ numbers spots waters sides ties) (hn : ∀ h, 0 ≤ h → h < bkH Λ → letters h.toNat = zI (bkM Λ 0 h)) (hN : 1 ≤ N) (hNH : N ≤ bkH Λ) (s1 s2 s3 s4 : Int32) (s5 s6 s7 : NF) (s8 s9 s10 s11 s12 : Int32) : ∃ (z1 z2 z3 z4 : Int32) (z5 z6 z7 : NF) (z8 z9 z10 z11 z12 : Int32), F_X4_opensUpTo (zI (bkH Λ)) letters numbers spots waters sides ties (zI (bkZ Λ)) (zI (bkG Λ)) (zI (bkL Λ)) s1 s2 s3 s4 s5 s6 s7 s8 s9 s10 s11 s12 (zI ld) bests (zI (N - 1)) = some (bq (BgC Λ σ τ ld bests N), z1, z2, z3, z4, z5, z6, z7, z8, z9, z10, z11, z12) := by
  have h30 := hB.2.1
  exact ou_2 hB hT hn hN hNH N.toNat FU (N - 1) s1 s2 s3 s4 s5 s6 s7 s8 s9 s10 s11 s12 (by omega) (by unfold FU; omega) (by omega)
end OU

section CT
variable {Λ : Book} {j : Int} {marks hangs cancels mz ms ml mp : NF}
abbrev KCt : Type := NF → (Nat → Int64) → NF → Int32 → Int32 → Int32 → Int32 → Int32 → Int32 → Option (NF × (Nat → Int64) × NF)
theorem counts_b85_z (hB : BkW Λ) (hL : LvM Λ marks hangs cancels) (hR : RuB Λ j mz ms ml mp) (KK : KCt) (W0 : Nat → Int64) (F0 : NF) (q t half last S : Int) (s : Nat) (q0 : 0 ≤ q) (q1 : q < 8) (t0 : 0 ≤ t) (t1 : t ≤ 30) (a0 : 0 ≤ half) (a1 : half ≤ 28) (hla : last = 0 ∨ (last = 1 ∧ 1 ≤ t)) (hS : S = stn q t half last) (hs : s = 2 ∨ s = 4 ∨ s = 6 ∨ s = 8) (hA : alw (bkZ Λ) s = true) : ∀ (d m K : Nat) (ein : NF) (A : Int64) (B : Int32), K + d = 2 ^ s → d < m → ∃ e' A' B', (A', B') = (lsm (gdM Λ q t half last) s d K).foldl (cst W0 F0 q t half) (A, B) ∧ F_X8_counts_b85 marks mz ms ml mp (zI j) (zI (bkH Λ)) hangs cancels KK m ein (vp_updL W0 S.toNat A) (upd F0 S.toNat B) (zI q) (zI t) (zI half) (zI last) (zI S) (zI s) (nI K) = KK e' (vp_updL W0 S.toNat A') (upd F0 S.toNat B') (zI q) (zI t) (zI half) (zI last) (zI S) (zI ((s + 2 : Nat) : Int))
  | 0, m + 1, K, ein, A, B, hK, _ => by
    have epw : (1 : Int32) <<< (zI (s : Int) &&& 31) = nI (2 ^ s) := by rw [← nI_zI]; exact pow_s s (by omega)
    have h256 : 2 ^ s ≤ 256 := show 2 ^ s ≤ 2 ^ 8 from Nat.pow_le_pow_right (by omega) (by omega)
    have l : nI (2 ^ s) ≤ nI K := by rw [nI_zI, nI_zI]; simp (disch := omega) only [zl_0, zl_1, zl_2, zl_3, zl_4, zl_5, zl_6, zl_7, zl_8, zl_9, zl_10, zl_11, zl_12, zl_13, zl_14, zl_15, zl_16, zl_17, zl_18, zl_19, zl_20, zl_21, zl_22, zl_23, zl_24, zl_25, zl_26, zl_27, zl_28, zl_29, zl_30, zl_31, zl_32, zl_33, zl_34, zl_35, zl_36, zl_37, zl_38, zl_39, zl_40, zl_41, zl_42, zl_43, zl_44, zl_45, zl_46, zl_47, zl_48, zl_49, zl_50, zl_51, zl_52, zl_53, zl_54, zl_55, zl_56, zl_57, zl_58, zl_59, zl_60, zl_61, zl_62, zl_63, zl_64, zl_65, zl_66, zl_80, zl_97, zl_99, zl_103, zl_107, zl_112, zl_115, zl_100, zl_180, zl_210, zl_238, zl_255, zl_256, zl_400, zl_1000, zl_1024, zl_1260, zl_2000, zl_7140, zl_7200, zl_18414, zl_65536, zl_131072, zl_9999, zl_999, zI_add, zI_sub, zI_mul, zI_neg, zI_lt, zI_le, zI_eq, zI_clamp, ck_z, ckp_z, qb_z, qb_z0, Option.bind_some]; omega
    have eS2 : zI (s : Int) + 2 = zI ((s + 2 : Nat) : Int) := by rw [zl_2, zI_add]; congr 1
    rw [F_X8_counts_b85, epw, if_pos l]
    unfold F_X8_counts_b203
    rw [eS2]
    exact ⟨ein, A, B, rfl, rfl⟩
  | d + 1, m + 1, K, ein, A, B, hK, hm => by
    have epw : (1 : Int32) <<< (zI (s : Int) &&& 31) = nI (2 ^ s) := by rw [← nI_zI]; exact pow_s s (by omega)
    have h256 : 2 ^ s ≤ 256 := show 2 ^ s ≤ 2 ^ 8 from Nat.pow_le_pow_right (by omega) (by omega)
    have l : ¬ nI (2 ^ s) ≤ nI K := by rw [nI_zI, nI_zI]; simp (disch := omega) only [zl_0, zl_1, zl_2, zl_3, zl_4, zl_5, zl_6, zl_7, zl_8, zl_9, zl_10, zl_11, zl_12, zl_13, zl_14, zl_15, zl_16, zl_17, zl_18, zl_19, zl_20, zl_21, zl_22, zl_23, zl_24, zl_25, zl_26, zl_27, zl_28, zl_29, zl_30, zl_31, zl_32, zl_33, zl_34, zl_35, zl_36, zl_37, zl_38, zl_39, zl_40, zl_41, zl_42, zl_43, zl_44, zl_45, zl_46, zl_47, zl_48, zl_49, zl_50, zl_51, zl_52, zl_53, zl_54, zl_55, zl_56, zl_57, zl_58, zl_59, zl_60, zl_61, zl_62, zl_63, zl_64, zl_65, zl_66, zl_80, zl_97, zl_99, zl_103, zl_107, zl_112, zl_115, zl_100, zl_180, zl_210, zl_238, zl_255, zl_256, zl_400, zl_1000, zl_1024, zl_1260, zl_2000, zl_7140, zl_7200, zl_18414, zl_65536, zl_131072, zl_9999, zl_999, zI_add, zI_sub, zI_mul, zI_neg, zI_lt, zI_le, zI_eq, zI_clamp, ck_z, ckp_z, qb_z, qb_z0, Option.bind_some]; omega
    have eK : nI K + 1 = nI (K + 1) := by rw [nI_zI, nI_zI, zl_1, zI_add]; congr 1
    have h30 := hB.2.1
    obtain ⟨e1, he1⟩ := isQuire_z hB hL hR q t half last s K q0 q1 t0 t1 a0 (by omega) hla (by omega) (by omega) ein
    rw [F_X8_counts_b85, epw, if_neg l, he1, Option.bind_some, eK]
    by_cases c : QuM Λ q t half last s K
    · have tb := thg_b K s s
      have tH := c.2.2.1
      have tp := thg_popc s (by omega) K (by omega)
      obtain ⟨n, hn⟩ : ∃ n, n = stn (q + 1) (t + thg K s s) (half + (s / 2 : Nat)) (enl K) := ⟨_, rfl⟩
      have sb := stn_b (q := q + 1) (t := t + thg K s s) (half := half + (s / 2 : Nat)) (last := enl K) (by omega) (by omega) (by omega) (by omega) (by omega) (by omega) (enl_b K)
      have hl2 : last = 0 ∨ last = 1 := by omega
      have sS := stn_b (q := q) (t := t) (half := half) (last := last) q0 (by omega) t0 t1 a0 (by omega) hl2
      rw [← hn] at sb
      rw [← hS] at sS
      have ne : n.toNat ≠ S.toNat := by
        intro e
        have e2 : n = S := by omega
        rw [hn, hS] at e2
        have := (stn_inj (by omega) (by omega) (by omega) (by omega) (enl_b K) t0 t1 a0 (by omega) hl2 e2).1
        omega
      have cn {α : Type} (o : Option α) : ck (inb (zI n) 18414) o = o := ck_z sb.1 sb.2 (by omega)
      have cS {α : Type} (o : Option α) : ck (inb (zI S) 18414) o = o := ck_z sS.1 sS.2 (by omega)
      have zn : (zI n).toNatClampNeg = n.toNat := zI_clamp (by omega) (by omega)
      have zS : (zI S).toNatClampNeg = S.toNat := zI_clamp (by omega) (by omega)
      have eg : lsm (gdM Λ q t half last) s (d + 1) K = (s, K) :: lsm (gdM Λ q t half last) s d (K + 1) := by
        rw [lsm, if_pos]
        unfold gdM
        rw [hA, bq_t c]
        rfl
      have ep : ((popc K : Nat) : Int) = xg (s, K) := by
        show ((popc K : Nat) : Int) = (s : Int) - thg K s s
        omega
      have ex : n = stn (q + 1) (xt t (s, K)) (xh half (s, K)) (enl (s, K).2) := hn
      rw [bq_t c, if_neg (show ¬ qb true = 0 by decide), behindQ_z q t half s K hs (by omega), Option.bind_some, ← hn, ones_z K (by omega), Option.bind_some]
      simp only [cn, cS, zn, zS, updL2, updL_at, updL_ne _ _ ne, upd_at, upd_ne _ _ ne, upd2]
      rw [eg, List.foldl_cons, ep]
      have es : cst W0 F0 q t half (A, B) (s, K) = (A + W0 n.toNat, if lg_cmp (W0 n.toNat) 0 ≤ 0 then B else if B ≤ F0 n.toNat + zI (xg (s, K)) then B else F0 n.toNat + zI (xg (s, K))) := by
        unfold cst
        rw [← ex]
      rw [es]
      by_cases g1 : lg_cmp (W0 n.toNat) 0 ≤ 0
      · rw [if_pos g1, if_pos g1]
        exact counts_b85_z hB hL hR KK W0 F0 q t half last S s q0 q1 t0 t1 a0 a1 hla hS hs hA d m (K + 1) e1 _ _ (by omega) (by omega)
      · rw [if_neg g1, if_neg g1]
        by_cases g2 : B ≤ F0 n.toNat + zI (xg (s, K))
        · rw [if_pos g2, if_pos g2]
          exact counts_b85_z hB hL hR KK W0 F0 q t half last S s q0 q1 t0 t1 a0 a1 hla hS hs hA d m (K + 1) e1 _ _ (by omega) (by omega)
        · rw [if_neg g2, if_neg g2]
          exact counts_b85_z hB hL hR KK W0 F0 q t half last S s q0 q1 t0 t1 a0 a1 hla hS hs hA d m (K + 1) e1 _ _ (by omega) (by omega)
    · have eg : lsm (gdM Λ q t half last) s (d + 1) K = lsm (gdM Λ q t half last) s d (K + 1) := by
        rw [lsm, if_neg]
        unfold gdM
        rw [hA, bq_f c]
        decide
      rw [bq_f c, if_pos (show qb false = 0 from rfl), eg]
      exact counts_b85_z hB hL hR KK W0 F0 q t half last S s q0 q1 t0 t1 a0 a1 hla hS hs hA d m (K + 1) e1 A B (by omega) (by omega)
theorem counts_b63_z (hB : BkW Λ) (hL : LvM Λ marks hangs cancels) (hR : RuB Λ j mz ms ml mp) (W0 : Nat → Int64) (F0 : NF) (q t half last S : Int) (q0 : 0 ≤ q) (q1 : q < 8) (t0 : 0 ≤ t) (t1 : t ≤ 30) (a0 : 0 ≤ half) (a1 : half ≤ 28) (hla : last = 0 ∨ (last = 1 ∧ 1 ≤ t)) (hS : S = stn q t half last) : ∀ (i m : Nat) (ein : NF) (A : Int64) (B : Int32), i ≤ 4 → i < m → ∃ e' A' B', (A', B') = (lsz (gdM Λ q t half last) i).foldl (cst W0 F0 q t half) (A, B) ∧ F_X8_counts_b63 marks mz ms ml mp (zI j) (zI (bkH Λ)) hangs cancels m ein (vp_updL W0 S.toNat A) (upd F0 S.toNat B) (zI q) (zI t) (zI half) (zI last) (zI S) (zI ((10 - 2 * i : Nat) : Int)) = some (e', vp_updL W0 S.toNat A', upd F0 S.toNat B')
  | 0, m + 1, ein, A, B, _, _ => by
    have l : 8 < zI ((10 - 2 * 0 : Nat) : Int) := by decide
    rw [F_X8_counts_b63, if_pos l]
    exact ⟨ein, A, B, rfl, rfl⟩
  | i + 1, m + 1, ein, A, B, hi, hm => by
    obtain ⟨s, hs⟩ : ∃ s, s = 8 - 2 * i := ⟨_, rfl⟩
    have es : 10 - 2 * (i + 1) = s := by omega
    have es2 : s + 2 = 10 - 2 * i := by omega
    have hs4 : s = 2 ∨ s = 4 ∨ s = 6 ∨ s = 8 := by omega
    have l : ¬ 8 < zI (s : Int) := by simp (disch := omega) only [zl_0, zl_1, zl_2, zl_3, zl_4, zl_5, zl_6, zl_7, zl_8, zl_9, zl_10, zl_11, zl_12, zl_13, zl_14, zl_15, zl_16, zl_17, zl_18, zl_19, zl_20, zl_21, zl_22, zl_23, zl_24, zl_25, zl_26, zl_27, zl_28, zl_29, zl_30, zl_31, zl_32, zl_33, zl_34, zl_35, zl_36, zl_37, zl_38, zl_39, zl_40, zl_41, zl_42, zl_43, zl_44, zl_45, zl_46, zl_47, zl_48, zl_49, zl_50, zl_51, zl_52, zl_53, zl_54, zl_55, zl_56, zl_57, zl_58, zl_59, zl_60, zl_61, zl_62, zl_63, zl_64, zl_65, zl_66, zl_80, zl_97, zl_99, zl_103, zl_107, zl_112, zl_115, zl_100, zl_180, zl_210, zl_238, zl_255, zl_256, zl_400, zl_1000, zl_1024, zl_1260, zl_2000, zl_7140, zl_7200, zl_18414, zl_65536, zl_131072, zl_9999, zl_999, zI_add, zI_sub, zI_mul, zI_neg, zI_lt, zI_le, zI_eq, zI_clamp, ck_z, ckp_z, qb_z, qb_z0, Option.bind_some]; omega
    have eS2 : zI (s : Int) + 2 = zI ((s + 2 : Nat) : Int) := by rw [zl_2, zI_add]; congr 1
    obtain ⟨KK, hKK⟩ : ∃ KK : KCt, KK = fun m_in m_ways m_fewest x1 x2 x3 x4 x5 x6 => F_X8_counts_b63 marks mz ms ml mp (zI j) (zI (bkH Λ)) hangs cancels m m_in m_ways m_fewest x1 x2 x3 x4 x5 x6 := ⟨_, rfl⟩
    have ih (ein : NF) (A : Int64) (B : Int32) := counts_b63_z hB hL hR W0 F0 q t half last S q0 q1 t0 t1 a0 a1 hla hS i m ein A B (by omega) (by omega)
    rw [es, F_X8_counts_b63, if_neg l, hasSz hB hR s hs4, Option.bind_some, ← hKK, lsz_s, ← hs, List.foldl_append]
    by_cases c : alw (bkZ Λ) s = true
    · rw [c, if_neg (show ¬ qb true = 0 by decide)]
      obtain ⟨e1, A1, B1, h1, he1⟩ := counts_b85_z hB hL hR KK W0 F0 q t half last S s q0 q1 t0 t1 a0 a1 hla hS hs4 c (2 ^ s) FU 0 ein A B (by omega) (by
        have h256 : 2 ^ s ≤ 256 := show 2 ^ s ≤ 2 ^ 8 from Nat.pow_le_pow_right (by omega) (by omega)
        unfold FU
        omega)
      have he2 : F_X8_counts_b85 marks mz ms ml mp (zI j) (zI (bkH Λ)) hangs cancels KK FU ein (vp_updL W0 S.toNat A) (upd F0 S.toNat B) (zI q) (zI t) (zI half) (zI last) (zI S) (zI s) 0 = KK e1 (vp_updL W0 S.toNat A1) (upd F0 S.toNat B1) (zI q) (zI t) (zI half) (zI last) (zI S) (zI ((s + 2 : Nat) : Int)) := he1
      rw [he2, hKK, es2, ← h1]
      exact ih e1 A1 B1
    · have c' : alw (bkZ Λ) s = false := by cases h : alw (bkZ Λ) s; rfl; exact absurd h c
      rw [c', if_pos (show qb false = 0 from rfl), lsm_na c]
      unfold F_X8_counts_b203
      rw [eS2, hKK, es2]
      exact ih ein A B
noncomputable def WQ (Λ : Book) (q : Nat) (t half last : Int) : Nat := if q = 0 ∧ bkH Λ = 0 then 0 else Wn Λ (8 - q) q t half last
noncomputable def FQ (Λ : Book) (q : Nat) (t half last : Int) : Int := if q = 0 ∧ bkH Λ = 0 then 100 else Fn Λ (8 - q) q t half last
def TbW (Λ : Book) (ways : Nat → Int64) (few : NF) (D : Nat → Int → Int → Int → Prop) : Prop := ∀ q t half last, q ≤ 8 → Mt Λ q t half last → (D q t half last → ways (stn q t half last).toNat = wI (WQ Λ q t half last) ∧ few (stn q t half last).toNat = zI (FQ Λ q t half last)) ∧ (¬ D q t half last → ways (stn q t half last).toNat = wI 0 ∧ few (stn q t half last).toNat = zI 100)
theorem TbW_st (hB : BkW Λ) {ways : Nat → Int64} {few : NF} {D : Nat → Int → Int → Int → Prop} (h : TbW Λ ways few D) (q : Nat) (t half last : Int) (hq : q ≤ 8) (hm : Mt Λ q t half last) (A : Int64) (B : Int32) (eA : A = wI (WQ Λ q t half last)) (eB : B = zI (FQ Λ q t half last)) : TbW Λ (vp_updL ways (stn q t half last).toNat A) (upd few (stn q t half last).toNat B) (fun q' a b c => D q' a b c ∨ (q' = q ∧ a = t ∧ b = half ∧ c = last)) := by
  intro q' t' half' last' hq' hm'
  obtain ⟨m1, m2, m3, m4, m5, m6, m7, m8⟩ := Mt_b hB q t half last hm
  obtain ⟨n1, n2, n3, n4, n5, n6, n7, n8⟩ := Mt_b hB q' t' half' last' hm'
  have h30 := hB.2.1
  by_cases e : q' = q ∧ t' = t ∧ half' = half ∧ last' = last
  · obtain ⟨rfl, rfl, rfl, rfl⟩ := e
    rw [updL_at, upd_at]
    exact ⟨fun _ => ⟨eA, eB⟩, fun w => absurd (Or.inr ⟨rfl, rfl, rfl, rfl⟩) w⟩
  · have sb1 := stn_b (q := (q : Int)) (t := t) (half := half) (last := last) (by omega) (by omega) m1 (by omega) m3 (by omega) (by omega)
    have sb2 := stn_b (q := (q' : Int)) (t := t') (half := half') (last := last') (by omega) (by omega) n1 (by omega) n3 (by omega) (by omega)
    have ne : (stn q' t' half' last').toNat ≠ (stn q t half last).toNat := by
      intro x
      have x2 : stn q' t' half' last' = stn q t half last := by omega
      obtain ⟨y1, y2, y3, y4⟩ := stn_inj n1 (by omega) n3 (by omega) (by omega) m1 (by omega) m3 (by omega) (by omega) x2
      exact e ⟨by omega, y2, y3, y4⟩
    rw [updL_ne _ _ ne, upd_ne _ _ ne]
    obtain ⟨w1, w2⟩ := h q' t' half' last' hq' hm'
    refine ⟨fun w => ?_, fun w => w2 (fun x => w (Or.inl x))⟩
    rcases w with w | w
    · exact w1 w
    · exact absurd w e
theorem TbW_cg {ways : Nat → Int64} {few : NF} {D E : Nat → Int → Int → Int → Prop} (h : TbW Λ ways few D) (w : ∀ q t half last, q ≤ 8 → Mt Λ q t half last → (D q t half last ↔ E q t half last)) : TbW Λ ways few E := by
  intro q t half last hq hm
  have := h q t half last hq hm
  rw [w q t half last hq hm] at this
  exact this
theorem counts_z (hB : BkW Λ) (hL : LvM Λ marks hangs cancels) (hR : RuB Λ j mz ms ml mp) {ways : Nat → Int64} {few : NF} {D : Nat → Int → Int → Int → Prop} (h : TbW Λ ways few D) (q : Nat) (t half last : Int) (hq : q ≤ 8) (hm : Mt Λ q t half last) (hD : ¬ D q t half last) (hN : ∀ t' half' last', Mt Λ (q + 1) t' half' last' → D (q + 1) t' half' last') (ein : NF) : ∃ e' ways' few', F_X8_counts marks mz ms ml mp (zI j) (zI (bkH Λ)) hangs cancels ein ways few (zI q) (zI t) (zI half) (zI last) = some (e', ways', few') ∧ TbW Λ ways' few' (fun q' a b c => D q' a b c ∨ (q' = q ∧ a = t ∧ b = half ∧ c = last)) := by
  obtain ⟨m1, m2, m3, m4, m5, m6, m7, m8⟩ := Mt_b hB q t half last hm
  obtain ⟨h00, h30, _⟩ := id hB
  obtain ⟨S, hS⟩ : ∃ S, S = stn q t half last := ⟨_, rfl⟩
  have sb := stn_b (q := (q : Int)) (t := t) (half := half) (last := last) (by omega) (by omega) m1 (by omega) m3 (by omega) (by omega)
  obtain ⟨w1, w2⟩ := (h q t half last hq hm).2 hD
  rw [← hS] at sb w1 w2
  have cS {α : Type} (o : Option α) : ck (inb (zI S) 18414) o = o := ck_z sb.1 sb.2 (by omega)
  have zS : (zI S).toNatClampNeg = S.toNat := zI_clamp (by omega) (by omega)
  have step (A : Int64) (B : Int32) (eA : A = wI (WQ Λ q t half last)) (eB : B = zI (FQ Λ q t half last)) : TbW Λ (vp_updL ways S.toNat A) (upd few S.toNat B) (fun q' a b c => D q' a b c ∨ (q' = q ∧ a = t ∧ b = half ∧ c = last)) := by
    rw [hS]
    exact TbW_st hB h q t half last hq hm A B eA eB
  unfold F_X8_counts F_X8_counts_b34
  rw [state_z, Option.bind_some, ← hS]
  simp only [cS, zS]
  by_cases c : t = bkH Λ
  · have q1 : zI t = zI (bkH Λ) := by rw [c]
    rw [if_pos q1]
    by_cases c2 : q = 0
    · have l : zI (q : Int) ≤ 0 := by simp (disch := omega) only [zl_0, zl_1, zl_2, zl_3, zl_4, zl_5, zl_6, zl_7, zl_8, zl_9, zl_10, zl_11, zl_12, zl_13, zl_14, zl_15, zl_16, zl_17, zl_18, zl_19, zl_20, zl_21, zl_22, zl_23, zl_24, zl_25, zl_26, zl_27, zl_28, zl_29, zl_30, zl_31, zl_32, zl_33, zl_34, zl_35, zl_36, zl_37, zl_38, zl_39, zl_40, zl_41, zl_42, zl_43, zl_44, zl_45, zl_46, zl_47, zl_48, zl_49, zl_50, zl_51, zl_52, zl_53, zl_54, zl_55, zl_56, zl_57, zl_58, zl_59, zl_60, zl_61, zl_62, zl_63, zl_64, zl_65, zl_66, zl_80, zl_97, zl_99, zl_103, zl_107, zl_112, zl_115, zl_100, zl_180, zl_210, zl_238, zl_255, zl_256, zl_400, zl_1000, zl_1024, zl_1260, zl_2000, zl_7140, zl_7200, zl_18414, zl_65536, zl_131072, zl_9999, zl_999, zI_add, zI_sub, zI_mul, zI_neg, zI_lt, zI_le, zI_eq, zI_clamp, ck_z, ckp_z, qb_z, qb_z0, Option.bind_some]; omega
      have hz : q = 0 ∧ bkH Λ = 0 := by subst c2; exact ⟨rfl, by have := hm.1; omega⟩
      rw [if_pos l, if_pos l]
      exact ⟨_, _, _, rfl, step 0 100 (by unfold WQ; rw [if_pos hz]; rfl) (by unfold FQ; rw [if_pos hz]; rfl)⟩
    · have l : ¬ zI (q : Int) ≤ 0 := by simp (disch := omega) only [zl_0, zl_1, zl_2, zl_3, zl_4, zl_5, zl_6, zl_7, zl_8, zl_9, zl_10, zl_11, zl_12, zl_13, zl_14, zl_15, zl_16, zl_17, zl_18, zl_19, zl_20, zl_21, zl_22, zl_23, zl_24, zl_25, zl_26, zl_27, zl_28, zl_29, zl_30, zl_31, zl_32, zl_33, zl_34, zl_35, zl_36, zl_37, zl_38, zl_39, zl_40, zl_41, zl_42, zl_43, zl_44, zl_45, zl_46, zl_47, zl_48, zl_49, zl_50, zl_51, zl_52, zl_53, zl_54, zl_55, zl_56, zl_57, zl_58, zl_59, zl_60, zl_61, zl_62, zl_63, zl_64, zl_65, zl_66, zl_80, zl_97, zl_99, zl_103, zl_107, zl_112, zl_115, zl_100, zl_180, zl_210, zl_238, zl_255, zl_256, zl_400, zl_1000, zl_1024, zl_1260, zl_2000, zl_7140, zl_7200, zl_18414, zl_65536, zl_131072, zl_9999, zl_999, zI_add, zI_sub, zI_mul, zI_neg, zI_lt, zI_le, zI_eq, zI_clamp, ck_z, ckp_z, qb_z, qb_z0, Option.bind_some]; omega
      have hz : ¬ (q = 0 ∧ bkH Λ = 0) := fun x => c2 x.1
      rw [if_neg l, if_neg l]
      refine ⟨_, _, _, rfl, step 1 0 ?_ ?_⟩
      · unfold WQ
        rw [if_neg hz]
        have : Wn Λ (8 - q) q t half last = 1 := by
          generalize 8 - q = n
          cases n <;> (rw [Wn, if_pos c])
        rw [this]
        rfl
      · unfold FQ
        rw [if_neg hz]
        have : Fn Λ (8 - q) q t half last = 0 := by
          generalize 8 - q = n
          cases n <;> (rw [Fn, if_pos c])
        rw [this]
        rfl
  · have q1 : ¬ zI t = zI (bkH Λ) := by simp (disch := omega) only [zl_0, zl_1, zl_2, zl_3, zl_4, zl_5, zl_6, zl_7, zl_8, zl_9, zl_10, zl_11, zl_12, zl_13, zl_14, zl_15, zl_16, zl_17, zl_18, zl_19, zl_20, zl_21, zl_22, zl_23, zl_24, zl_25, zl_26, zl_27, zl_28, zl_29, zl_30, zl_31, zl_32, zl_33, zl_34, zl_35, zl_36, zl_37, zl_38, zl_39, zl_40, zl_41, zl_42, zl_43, zl_44, zl_45, zl_46, zl_47, zl_48, zl_49, zl_50, zl_51, zl_52, zl_53, zl_54, zl_55, zl_56, zl_57, zl_58, zl_59, zl_60, zl_61, zl_62, zl_63, zl_64, zl_65, zl_66, zl_80, zl_97, zl_99, zl_103, zl_107, zl_112, zl_115, zl_100, zl_180, zl_210, zl_238, zl_255, zl_256, zl_400, zl_1000, zl_1024, zl_1260, zl_2000, zl_7140, zl_7200, zl_18414, zl_65536, zl_131072, zl_9999, zl_999, zI_add, zI_sub, zI_mul, zI_neg, zI_lt, zI_le, zI_eq, zI_clamp, ck_z, ckp_z, qb_z, qb_z0, Option.bind_some]; exact c
    have hz : ¬ (q = 0 ∧ bkH Λ = 0) := by
      rintro ⟨x, y⟩
      subst x
      have := hm.1
      omega
    rw [if_neg q1]
    by_cases c2 : q = 8
    · have l : zI (q : Int) = 8 := by rw [c2]; rfl
      rw [if_pos l]
      refine ⟨ein, ways, few, rfl, ?_⟩
      have e1 := step (ways S.toNat) (few S.toNat) (by
        rw [w1]; unfold WQ; rw [if_neg hz, c2, Nat.sub_self, Wn, if_neg c]) (by
        rw [w2]; unfold FQ; rw [if_neg hz, c2, Nat.sub_self, Fn, if_neg c])
      rw [updL_id, upd_id] at e1
      exact e1
    · have l : ¬ zI (q : Int) = 8 := by simp (disch := omega) only [zl_0, zl_1, zl_2, zl_3, zl_4, zl_5, zl_6, zl_7, zl_8, zl_9, zl_10, zl_11, zl_12, zl_13, zl_14, zl_15, zl_16, zl_17, zl_18, zl_19, zl_20, zl_21, zl_22, zl_23, zl_24, zl_25, zl_26, zl_27, zl_28, zl_29, zl_30, zl_31, zl_32, zl_33, zl_34, zl_35, zl_36, zl_37, zl_38, zl_39, zl_40, zl_41, zl_42, zl_43, zl_44, zl_45, zl_46, zl_47, zl_48, zl_49, zl_50, zl_51, zl_52, zl_53, zl_54, zl_55, zl_56, zl_57, zl_58, zl_59, zl_60, zl_61, zl_62, zl_63, zl_64, zl_65, zl_66, zl_80, zl_97, zl_99, zl_103, zl_107, zl_112, zl_115, zl_100, zl_180, zl_210, zl_238, zl_255, zl_256, zl_400, zl_1000, zl_1024, zl_1260, zl_2000, zl_7140, zl_7200, zl_18414, zl_65536, zl_131072, zl_9999, zl_999, zI_add, zI_sub, zI_mul, zI_neg, zI_lt, zI_le, zI_eq, zI_clamp, ck_z, ckp_z, qb_z, qb_z0, Option.bind_some]; omega
      rw [if_neg l]
      obtain ⟨e', A', B', hf, he⟩ := counts_b63_z hB hL hR ways few q t half last S (by omega) (by omega) m1 (by omega) m3 (by omega) m5 hS 4 FU ein (ways S.toNat) (few S.toNat) (by omega) (by unfold FU; omega)
      rw [updL_id, upd_id] at he
      have he2 : F_X8_counts_b63 marks mz ms ml mp (zI j) (zI (bkH Λ)) hangs cancels FU ein ways few (zI q) (zI t) (zI half) (zI last) (zI S) 2 = some (e', vp_updL ways S.toNat A', upd few S.toNat B') := he
      refine ⟨e', _, _, he2, ?_⟩
      have e8 : 8 - q = (8 - (q + 1)) + 1 := by omega
      have fo := cst_f (W0 := ways) (F0 := few) (q := q) (t := t) (half := half) (fun x => Wn Λ (8 - (q + 1)) ((q : Int) + 1) (xt t x) (xh half x) (enl x.2)) (fun x => Fn Λ (8 - (q + 1)) ((q : Int) + 1) (xt t x) (xh half x) (enl x.2)) (lyM Λ q t half last) 0 100 (by omega) (by omega) (fun x hx => by
        have mx : Mt Λ (q + 1) (xt t x) (xh half x) (enl x.2) := ⟨t, half, last, x, hm, by omega, hx, rfl, rfl, rfl⟩
        obtain ⟨y1, y2⟩ := (h (q + 1) _ _ _ (by omega) mx).1 (hN _ _ _ mx)
        have fb := Fn_b Λ (8 - (q + 1)) ((q : Int) + 1) (xt t x) (xh half x) (enl x.2)
        have gb := xg_b (lyM_mem.mp hx).1
        unfold WQ at y1
        unfold FQ at y2
        rw [if_neg (by omega)] at y1 y2
        exact ⟨y1, Wn_lt Λ _ (by omega) _ _ _ _, y2, fb.1, fb.2, gb.1, gb.2⟩)
      have hf2 : (A', B') = (lyM Λ q t half last).foldl (cst ways few q t half) (wI 0, zI 100) := by
        rw [← w1, ← w2]; exact hf
      rw [fo, Nat.zero_add, Prod.mk.injEq] at hf2
      refine step A' B' ?_ ?_
      · rw [hf2.1]
        unfold WQ
        rw [if_neg hz, e8, Wn, if_neg c]
      · rw [hf2.2]
        unfold FQ
        rw [if_neg hz, e8, Fn, if_neg c]
end CT

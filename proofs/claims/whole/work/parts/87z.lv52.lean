abbrev RWy : Type := Option (Int32 × Int32 × Int32 × Int32 × NF × NF × NF × NF × (Nat → Int64) × NF)
abbrev KWy : Type := Int32 → Int32 → Int32 → NF → NF → NF → NF → (Nat → Int64) → NF → Int32 → Int32 → Int32 → RWy
section YW
variable {n : Int} {κ : Int → Int} {μ : Int → Int → Int} {Λ : Book} {j : Int} {many kk marks hangs cancels mz ms ml mp met few : NF} {ways : Nat → Int64}
theorem why_b37_z (hw : RwW n κ μ) (hmm : RwM n κ μ j many kk marks) (hH : bkH Λ = hcn κ n.toNat) (hB : BkW Λ) (hL : LvM Λ marks hangs cancels) (hR : RuB Λ j mz ms ml mp) (hM : MtT Λ met) (hcc : ∀ k : Nat, (k : Int) < n → Hg (κ k) → cancels (hcn κ k).toNat = zI (if Can n κ k then 30 * j + k + 1 else -1)) (told : Int32) : ∀ (d m i : Nat) (ein : NF), (i : Int) + d = n → d < m → ∃ e', F_X8_why_b37 many kk marks mz ms ml mp m told (zI j) (zI (bkH Λ)) hangs cancels ein met ways few (zI j) (zI (hcn κ i)) (zI i) = some (zI (wy Λ n κ d i), told, zI j, zI (bkH Λ), hangs, cancels, e', met, ways, few)
  | 0, m + 1, i, ein, hi, _ => by
    have n1 := hw.2.1
    obtain ⟨j0, j1, _⟩ := id hR
    have ll : zI n ≤ zI (i : Int) := by simp (disch := omega) only [zl_0, zl_1, zl_2, zl_3, zl_4, zl_5, zl_6, zl_7, zl_8, zl_9, zl_10, zl_11, zl_12, zl_13, zl_14, zl_15, zl_16, zl_17, zl_18, zl_19, zl_20, zl_21, zl_22, zl_23, zl_24, zl_25, zl_26, zl_27, zl_28, zl_29, zl_30, zl_31, zl_32, zl_33, zl_34, zl_35, zl_36, zl_37, zl_38, zl_39, zl_40, zl_41, zl_42, zl_43, zl_44, zl_45, zl_46, zl_47, zl_48, zl_49, zl_50, zl_51, zl_52, zl_53, zl_54, zl_55, zl_56, zl_57, zl_58, zl_59, zl_60, zl_61, zl_62, zl_63, zl_64, zl_65, zl_66, zl_80, zl_97, zl_99, zl_103, zl_107, zl_112, zl_115, zl_100, zl_180, zl_210, zl_238, zl_255, zl_256, zl_400, zl_1000, zl_1024, zl_1260, zl_2000, zl_7140, zl_7200, zl_18414, zl_65536, zl_131072, zl_9999, zl_999, zI_add, zI_sub, zI_mul, zI_neg, zI_lt, zI_le, zI_eq, zI_clamp, ck_z, ckp_z, qb_z, qb_z0, Option.bind_some]; omega
    have e : n = i := by omega
    have cj {α : Type} (o : Option α) : ck (inb (zI j) 6) o = o := ck_z j0 (by omega) (by omega)
    rw [F_X8_why_b37, cj, zI_clamp (by omega) (by omega), hmm.1, if_pos ll, cj]
    refine ⟨ein, ?_⟩
    show some (zI n, told, zI j, zI (bkH Λ), hangs, cancels, ein, met, ways, few) = some (zI (i : Int), told, zI j, zI (bkH Λ), hangs, cancels, ein, met, ways, few)
    rw [e]
  | d + 1, m + 1, i, ein, hi, hm => by
    have n1 := hw.2.1
    have n0 := hw.1
    have h30 := hB.2.1
    obtain ⟨j0, j1, _⟩ := id hR
    have hb := hcn_b κ i
    have hmo := hcn_m κ i (n.toNat - i)
    rw [show i + (n.toNat - i) = n.toNat by omega] at hmo
    have ll : ¬ zI n ≤ zI (i : Int) := by simp (disch := omega) only [zl_0, zl_1, zl_2, zl_3, zl_4, zl_5, zl_6, zl_7, zl_8, zl_9, zl_10, zl_11, zl_12, zl_13, zl_14, zl_15, zl_16, zl_17, zl_18, zl_19, zl_20, zl_21, zl_22, zl_23, zl_24, zl_25, zl_26, zl_27, zl_28, zl_29, zl_30, zl_31, zl_32, zl_33, zl_34, zl_35, zl_36, zl_37, zl_38, zl_39, zl_40, zl_41, zl_42, zl_43, zl_44, zl_45, zl_46, zl_47, zl_48, zl_49, zl_50, zl_51, zl_52, zl_53, zl_54, zl_55, zl_56, zl_57, zl_58, zl_59, zl_60, zl_61, zl_62, zl_63, zl_64, zl_65, zl_66, zl_80, zl_97, zl_99, zl_103, zl_107, zl_112, zl_115, zl_100, zl_180, zl_210, zl_238, zl_255, zl_256, zl_400, zl_1000, zl_1024, zl_1260, zl_2000, zl_7140, zl_7200, zl_18414, zl_65536, zl_131072, zl_9999, zl_999, zI_add, zI_sub, zI_mul, zI_neg, zI_lt, zI_le, zI_eq, zI_clamp, ck_z, ckp_z, qb_z, qb_z0, Option.bind_some]; omega
    have ei : zI (i : Int) + 1 = zI ((i + 1 : Nat) : Int) := by rw [zl_1, zI_add]; congr 1
    have ex : (30 : Int32) * zI j + zI (i : Int) = zI (30 * j + i) := by rw [show (30 : Int32) = zI 30 from rfl, zI_mul, zI_add]
    have cj {α : Type} (o : Option α) : ck (inb (zI j) 6) o = o := ck_z j0 (by omega) (by omega)
    have ki := (hw.2.2 i (by omega) (by omega))
    obtain ⟨KK, hKK⟩ : ∃ KK : KWy, KK = fun m_told m_asked m_hung m_hangs m_cancels m_in m_isMet m_ways m_fewest x1 x2 x3 => F_X8_why_b37 many kk marks mz ms ml mp m m_told m_asked m_hung m_hangs m_cancels m_in m_isMet m_ways m_fewest x1 x2 x3 := ⟨_, rfl⟩
    have go (hO : Opn Λ n κ i) (e1 : NF) (x2 : Int32) (hx2 : x2 = zI (hcn κ (i + 1))) (X : RWy) (hX : X = KK told (zI j) (zI (bkH Λ)) hangs cancels e1 met ways few (zI j) x2 (zI (i : Int) + 1)) : ∃ e', X = some (zI (wy Λ n κ (d + 1) i), told, zI j, zI (bkH Λ), hangs, cancels, e', met, ways, few) := by
      have ew : wy Λ n κ (d + 1) i = wy Λ n κ d (i + 1) := by rw [wy, if_pos (bq_t hO)]
      rw [ew, hX, hKK, ei, hx2]
      exact why_b37_z hw hmm hH hB hL hR hM hcc told d m (i + 1) e1 (by omega) (by omega)
    have b108 (N f : Int) (hN : 1 ≤ N) (hNH : N ≤ bkH Λ) (hf : f = 0 ∨ f = 1) (hbo : BgA Λ N f ↔ Opn Λ n κ i) (hNx : zI N = zI (hcn κ (i + 1))) (X : RWy) (hX : X = F_X8_why_b108 many kk marks mz ms ml mp KK told (zI j) (zI (bkH Λ)) hangs cancels ein met ways few (zI j) (zI N) (zI i) (zI f)) : ∃ e', X = some (zI (wy Λ n κ (d + 1) i), told, zI j, zI (bkH Λ), hangs, cancels, e', met, ways, few) := by
      obtain ⟨e1, r⟩ := begins_z hB hL hR hM N f hN hNH hf ein
      unfold F_X8_why_b108 at hX
      rw [r, Option.bind_some, bq_c hbo] at hX
      by_cases w : Opn Λ n κ i
      · rw [bq_t w, if_neg (show ¬ qb true = 0 by decide)] at hX
        exact go w e1 _ hNx X hX
      · have ew : wy Λ n κ (d + 1) i = i := by rw [wy, if_neg (by rw [bq_f w]; decide)]
        rw [bq_f w, if_pos (show qb false = 0 from rfl)] at hX
        rw [ew]
        exact ⟨e1, hX⟩
    have b77 (t0 : Int) (ht : (t0 = 1 ∧ 1 ≤ i ∧ Can n κ ((i : Int) - 1)) ∨ (t0 = 0 ∧ ¬ (1 ≤ i ∧ Can n κ ((i : Int) - 1)))) (X : RWy) (hX : X = F_X8_why_b77 many kk marks mz ms ml mp KK told (zI j) (zI (bkH Λ)) hangs cancels ein met ways few (zI j) (zI (hcn κ i)) (zI i) (zI (30 * j + i)) (zI t0)) : ∃ e', X = some (zI (wy Λ n κ (d + 1) i), told, zI j, zI (bkH Λ), hangs, cancels, e', met, ways, few) := by
      unfold F_X8_why_b77 at hX
      have kz : kk (30 * j + i).toNat = zI (κ i) := (hmm.2 i (by omega) (by omega)).1
      rw [ck_z (by omega) (by omega) (by omega), zI_clamp (by omega) (by omega), kz, hangingM_z (κ i) (by omega) (by omega), Option.bind_some] at hX
      by_cases hg : Hg (κ i)
      · have hl := hcn_lt (n := n) (i := i) (by omega) hg
        have ec : hcn κ (i + 1) = hcn κ i + 1 := by rw [hcn, if_pos hg]
        have e1 : zI (hcn κ i) + 1 = zI (hcn κ i + 1) := by rw [zl_1, zI_add]
        have bO : BgA Λ (hcn κ i + 1) 0 ↔ Opn Λ n κ i := ⟨fun w => ⟨fun _ => w, fun x => absurd hg x⟩, fun w => w.1 hg⟩
        have t00 : t0 = 0 := by
          rcases ht with ⟨_, _, w⟩ | ⟨w, _⟩
          · exfalso
            have w3 := w.2.2
            rw [show (i : Int) - 1 + 1 = i by omega] at w3
            have hg' : κ i = 1 ∨ κ i = 2 := hg
            omega
          · exact w
        have dg : decide (κ i = 1 ∨ κ i = 2) = true := decide_eq_true hg
        rw [dg, if_neg (show ¬ qb true = 0 by decide), e1, t00] at hX
        exact b108 (hcn κ i + 1) 0 (by omega) (by omega) (Or.inl rfl) bO (by rw [ec]) X hX
      · have ec : hcn κ (i + 1) = hcn κ i := by rw [hcn, if_neg hg]; omega
        have dg : decide (κ i = 1 ∨ κ i = 2) = false := decide_eq_false hg
        rw [dg, if_pos (show qb false = 0 from rfl)] at hX
        rcases ht with ⟨rfl, w1, w2⟩ | ⟨rfl, w⟩
        · rw [if_neg (by decide)] at hX
          have hg1 : Hg (κ (((i - 1 : Nat) : Nat) : Int)) := by
            rw [show (((i - 1 : Nat) : Nat) : Int) = (i : Int) - 1 by omega]
            exact Or.inr w2.1
          have e1 : hcn κ i = hcn κ (i - 1) + 1 := by
            obtain ⟨i', rfl⟩ : ∃ i', i = i' + 1 := ⟨i - 1, by omega⟩
            rw [show i' + 1 - 1 = i' by omega] at hg1 ⊢
            rw [hcn, if_pos hg1]
          have hb1 := hcn_b κ (i - 1)
          have bO : BgA Λ (hcn κ i) 1 ↔ Opn Λ n κ i := ⟨fun v => ⟨fun x => absurd x hg, fun _ _ _ => v⟩, fun v => v.2 hg w1 w2⟩
          exact b108 (hcn κ i) 1 (by omega) (by omega) (Or.inr rfl) bO (by rw [ec]) X hX
        · rw [if_pos (show zI 0 = 0 from rfl)] at hX
          exact go ⟨fun x => absurd x hg, fun _ a b => absurd ⟨a, b⟩ w⟩ ein _ (by rw [ec]) X hX
    rw [F_X8_why_b37, cj, zI_clamp (by omega) (by omega), hmm.1, if_neg ll, ex, ← hKK]
    have hCan (w : 1 ≤ i ∧ Can n κ ((i : Int) - 1)) : hcn κ i = hcn κ (i - 1) + 1 ∧ Hg (κ (((i - 1 : Nat) : Nat) : Int)) := by
      have hg1 : Hg (κ (((i - 1 : Nat) : Nat) : Int)) := by
        rw [show (((i - 1 : Nat) : Nat) : Int) = (i : Int) - 1 by omega]
        exact Or.inr w.2.1
      refine ⟨?_, hg1⟩
      have hi1 := w.1
      obtain ⟨i', rfl⟩ : ∃ i', i = i' + 1 := ⟨i - 1, by omega⟩
      rw [show i' + 1 - 1 = i' by omega] at hg1 ⊢
      rw [hcn, if_pos hg1]
    by_cases c0 : hcn κ i ≤ 0
    · have l2 : zI (hcn κ i) ≤ 0 := by simp (disch := omega) only [zl_0, zl_1, zl_2, zl_3, zl_4, zl_5, zl_6, zl_7, zl_8, zl_9, zl_10, zl_11, zl_12, zl_13, zl_14, zl_15, zl_16, zl_17, zl_18, zl_19, zl_20, zl_21, zl_22, zl_23, zl_24, zl_25, zl_26, zl_27, zl_28, zl_29, zl_30, zl_31, zl_32, zl_33, zl_34, zl_35, zl_36, zl_37, zl_38, zl_39, zl_40, zl_41, zl_42, zl_43, zl_44, zl_45, zl_46, zl_47, zl_48, zl_49, zl_50, zl_51, zl_52, zl_53, zl_54, zl_55, zl_56, zl_57, zl_58, zl_59, zl_60, zl_61, zl_62, zl_63, zl_64, zl_65, zl_66, zl_80, zl_97, zl_99, zl_103, zl_107, zl_112, zl_115, zl_100, zl_180, zl_210, zl_238, zl_255, zl_256, zl_400, zl_1000, zl_1024, zl_1260, zl_2000, zl_7140, zl_7200, zl_18414, zl_65536, zl_131072, zl_9999, zl_999, zI_add, zI_sub, zI_mul, zI_neg, zI_lt, zI_le, zI_eq, zI_clamp, ck_z, ckp_z, qb_z, qb_z0, Option.bind_some]; omega
      rw [if_pos l2]
      refine b77 0 (Or.inr ⟨rfl, fun w => ?_⟩) _ rfl
      have := (hCan w).1
      have := hcn_b κ (i - 1)
      omega
    · have l2 : ¬ zI (hcn κ i) ≤ 0 := by simp (disch := omega) only [zl_0, zl_1, zl_2, zl_3, zl_4, zl_5, zl_6, zl_7, zl_8, zl_9, zl_10, zl_11, zl_12, zl_13, zl_14, zl_15, zl_16, zl_17, zl_18, zl_19, zl_20, zl_21, zl_22, zl_23, zl_24, zl_25, zl_26, zl_27, zl_28, zl_29, zl_30, zl_31, zl_32, zl_33, zl_34, zl_35, zl_36, zl_37, zl_38, zl_39, zl_40, zl_41, zl_42, zl_43, zl_44, zl_45, zl_46, zl_47, zl_48, zl_49, zl_50, zl_51, zl_52, zl_53, zl_54, zl_55, zl_56, zl_57, zl_58, zl_59, zl_60, zl_61, zl_62, zl_63, zl_64, zl_65, zl_66, zl_80, zl_97, zl_99, zl_103, zl_107, zl_112, zl_115, zl_100, zl_180, zl_210, zl_238, zl_255, zl_256, zl_400, zl_1000, zl_1024, zl_1260, zl_2000, zl_7140, zl_7200, zl_18414, zl_65536, zl_131072, zl_9999, zl_999, zI_add, zI_sub, zI_mul, zI_neg, zI_lt, zI_le, zI_eq, zI_clamp, ck_z, ckp_z, qb_z, qb_z0, Option.bind_some]; omega
      have em : zI (hcn κ i) - 1 = zI (hcn κ i - 1) := by rw [zl_1, zI_sub]
      obtain ⟨x0, x1, x2, x3⟩ := hix_b κ n.toNat (hcn κ i - 1) (by omega) (by omega)
      obtain ⟨k, hk⟩ : ∃ k : Nat, k = (hix κ n.toNat (hcn κ i - 1)).toNat := ⟨_, rfl⟩
      have ek : (k : Int) = hix κ n.toNat (hcn κ i - 1) := by omega
      rw [← hk] at x3
      rw [← ek] at x2
      have hc := hcc k (by omega) x2
      rw [x3] at hc
      rw [if_neg l2, em, ck_z (by omega) (by omega) (by omega), zI_clamp (by omega) (by omega), hc]
      by_cases w : 1 ≤ i ∧ Can n κ ((i : Int) - 1)
      · obtain ⟨y1, y2⟩ := hCan w
        have hx := hixn (n := n) (i := i - 1) (by omega) y2
        rw [show hcn κ (i - 1) = hcn κ i - 1 by omega, ← ek] at hx
        have ck1 : Can n κ (k : Int) := by rw [hx, show (((i - 1 : Nat) : Nat) : Int) = (i : Int) - 1 by omega]; exact w.2
        have q3 : zI (if Can n κ (k : Int) then 30 * j + k + 1 else -1) = zI (30 * j + i) := by
          rw [if_pos ck1]
          congr 1
          omega
        rw [if_pos q3]
        exact b77 1 (Or.inl ⟨rfl, w⟩) _ rfl
      · have q3 : ¬ zI (if Can n κ (k : Int) then 30 * j + k + 1 else -1) = zI (30 * j + i) := by
          by_cases ck1 : Can n κ (k : Int)
          · rw [if_pos ck1]
            simp (disch := omega) only [zl_0, zl_1, zl_2, zl_3, zl_4, zl_5, zl_6, zl_7, zl_8, zl_9, zl_10, zl_11, zl_12, zl_13, zl_14, zl_15, zl_16, zl_17, zl_18, zl_19, zl_20, zl_21, zl_22, zl_23, zl_24, zl_25, zl_26, zl_27, zl_28, zl_29, zl_30, zl_31, zl_32, zl_33, zl_34, zl_35, zl_36, zl_37, zl_38, zl_39, zl_40, zl_41, zl_42, zl_43, zl_44, zl_45, zl_46, zl_47, zl_48, zl_49, zl_50, zl_51, zl_52, zl_53, zl_54, zl_55, zl_56, zl_57, zl_58, zl_59, zl_60, zl_61, zl_62, zl_63, zl_64, zl_65, zl_66, zl_80, zl_97, zl_99, zl_103, zl_107, zl_112, zl_115, zl_100, zl_180, zl_210, zl_238, zl_255, zl_256, zl_400, zl_1000, zl_1024, zl_1260, zl_2000, zl_7140, zl_7200, zl_18414, zl_65536, zl_131072, zl_9999, zl_999, zI_add, zI_sub, zI_mul, zI_neg, zI_lt, zI_le, zI_eq, zI_clamp, ck_z, ckp_z, qb_z, qb_z0, Option.bind_some]
            intro e
            apply w
            refine ⟨by omega, ?_⟩
            rw [show (i : Int) - 1 = k by omega]
            exact ck1
          · rw [if_neg ck1]
            simp (disch := omega) only [zl_0, zl_1, zl_2, zl_3, zl_4, zl_5, zl_6, zl_7, zl_8, zl_9, zl_10, zl_11, zl_12, zl_13, zl_14, zl_15, zl_16, zl_17, zl_18, zl_19, zl_20, zl_21, zl_22, zl_23, zl_24, zl_25, zl_26, zl_27, zl_28, zl_29, zl_30, zl_31, zl_32, zl_33, zl_34, zl_35, zl_36, zl_37, zl_38, zl_39, zl_40, zl_41, zl_42, zl_43, zl_44, zl_45, zl_46, zl_47, zl_48, zl_49, zl_50, zl_51, zl_52, zl_53, zl_54, zl_55, zl_56, zl_57, zl_58, zl_59, zl_60, zl_61, zl_62, zl_63, zl_64, zl_65, zl_66, zl_80, zl_97, zl_99, zl_103, zl_107, zl_112, zl_115, zl_100, zl_180, zl_210, zl_238, zl_255, zl_256, zl_400, zl_1000, zl_1024, zl_1260, zl_2000, zl_7140, zl_7200, zl_18414, zl_65536, zl_131072, zl_9999, zl_999, zI_add, zI_sub, zI_mul, zI_neg, zI_lt, zI_le, zI_eq, zI_clamp, ck_z, ckp_z, qb_z, qb_z0, Option.bind_some]
            omega
        rw [if_neg q3]
        exact b77 0 (Or.inr ⟨rfl, w⟩) _ rfl
theorem asks_zA (hw : RwW n κ μ) (hm : RwM n κ μ j many kk marks) (hj : 0 ≤ j) (hj2 : j < 6) (a0 a1 : Int32) (hg0 cn0 : NF) : ∃ hg' cn' b0 b1, F_X8_asks many kk a0 a1 hg0 cn0 (zI j) = some (b0, b1, hg', cn') ∧ ∀ k : Nat, (k : Int) < n → Hg (κ k) → cn' (hcn κ k).toNat = zI (if Can n κ k then 30 * j + k + 1 else -1) := by
  obtain ⟨hg', cn', r1, r2⟩ := asks_b12_z hw hm hj hj2 n.toNat FU 0 hg0 cn0 (by have := hw.1; omega) (by have := hw.2.1; unfold FU; omega) (fun k hk => by omega)
  exact ⟨hg', cn', _, _, r1, fun k hk hgk => (r2 k (by have := hw.1; omega) hgk).2⟩
end YW
section YX
variable {j : Nat} {K W M R : NF} {C : Int32} {many kk tt mm sz sg lt pg : NF}
theorem go_zC (hj : j < 6) (hr : RowR j K W M C many kk tt mm) (hu : RulR j R sz sg lt pg) (a0 a1 : Int32) (hg0 cn0 ein met0 : NF) (ways0 : Nat → Int64) (few0 : NF) : ∃ hg cn e' met' ways' few', F_X8_goThrough many kk mm sz sg lt pg a0 a1 hg0 cn0 ein met0 ways0 few0 (nI j) = some (nI j, zI (bkH (bkC K M C R)), hg, cn, e', met', ways', few') ∧ LvM (bkC K M C R) mm hg cn ∧ MtT (bkC K M C R) met' ∧ TbW (bkC K M C R) ways' few' (fun _ _ _ _ => True) ∧ ∀ k : Nat, (k : Int) < C.toInt → Hg (rK K k) → cn (hcn (rK K) k).toNat = zI (if Can C.toInt (rK K) k then 30 * (j : Int) + k + 1 else -1) := by
  obtain ⟨hw, _, hm⟩ := RowR_c hr
  obtain ⟨hB, hR, _⟩ := RulR_c (K := K) (M := M) (C := C) hj hu hw
  obtain ⟨hg1, cn1, x0, x1, q1, q2⟩ := asks_zA hw hm (by omega) (by omega) a0 a1 hg0 cn0
  obtain ⟨hg, cn, e1, hL⟩ := asks_z hw hm (by omega) (by omega) (R 2).toInt (R 3).toInt (R 4).toInt (R 5).toInt a0 a1 hg0 cn0
  have hL2 : LvM (bkC K M C R) mm hg cn := hL
  have e1' : F_X8_asks many kk a0 a1 hg0 cn0 (zI (j : Int)) = some (zI (j : Int), zI (bkH (bkC K M C R)), hg, cn) := e1
  obtain ⟨e', met', ways', few', r1, r2, r3⟩ := go_b7 hB hL2 hR 18414 FU 0 ein met0 ways0 few0 (by omega) (by unfold FU; omega) (fun r hr => by omega)
  have r1' : F_X8_goThrough_b7 mm sz sg lt pg FU (zI (j : Int)) (zI (bkH (bkC K M C R))) hg cn ein met0 ways0 few0 0 = some (zI (j : Int), zI (bkH (bkC K M C R)), hg, cn, e', met', ways', few') := r1
  refine ⟨hg, cn, e', met', ways', few', ?_, hL2, r2, r3, ?_⟩
  · rw [nI_zI]
    unfold F_X8_goThrough
    rw [e1', Option.bind_some]
    exact r1'
  · have : cn = cn1 := by
      rw [e1'] at q1
      have := Option.some.inj q1
      exact congrArg (fun z => z.2.2.2) this
    rw [this]
    exact q2
theorem op_why_same (hj : j < 6) (hr : RowR j K W M C many kk tt mm) (hu : RulR j R sz sg lt pg) (chg : Bool) (l0 : Int32) (l1 l2 l3 l4 l5 l6 l7 l8 : NF) (l9 l10 l11 l12 : Int32) (y1 y2 y3 y4 : Int32) (y5 y6 y7 : NF) (y8 y9 y10 y11 y12 : Int32) (ld : Int) (groups gcs tally : NF) (counts : Nat → Int64) (bests : NF) (p0 : Int32) (hs : RkS ld bests) (hld : ld < 1000) (hV : chg = false → RkV (bkC K M C R) ld l0 l1 l2 l3 l4 l5 l6 l7 l8 l9 l10 l11 l12 groups gcs counts bests) (told a0 a1 : Int32) (hg0 cn0 ein met0 : NF) (ways0 : Nat → Int64) (few0 : NF) : ∃ (b : Int32) (le nu sp he ne wa si ti : NF) (la : Int32) (w1 w2 w3 w4 : Int32) (w5 w6 w7 : NF) (w8 w9 w10 w11 w12 : Int32) (ld' : Int) (groups' gcs' tally' : NF) (counts' : Nat → Int64) (bests' : NF) (a2 a3 : Int32) (hg cn e' met' : NF) (ways' : Nat → Int64) (few' : NF), F_X7_why_same K M R C chg l0 l1 l2 l3 l4 l5 l6 l7 l8 l9 l10 l11 l12 y1 y2 y3 y4 y5 y6 y7 y8 y9 y10 y11 y12 (zI ld) groups gcs tally counts bests p0 = some (b, false, zI (bkH (bkC K M C R)), le, nu, sp, he, ne, wa, si, ti, la, zI (bkZ (bkC K M C R)), zI (bkG (bkC K M C R)), zI (bkL (bkC K M C R)), w1, w2, w3, w4, w5, w6, w7, w8, w9, w10, w11, w12, zI ld', groups', gcs', tally', counts', bests') ∧ F_X8_why told many kk mm sz sg lt pg a0 a1 hg0 cn0 ein met0 ways0 few0 (nI j) = some (b, 0, a2, a3, hg, cn, e', met', ways', few') ∧ ld ≤ ld' ∧ ld' ≤ ld + 1 ∧ RkV (bkC K M C R) ld' (zI (bkH (bkC K M C R))) le nu sp he ne wa si ti la (zI (bkZ (bkC K M C R))) (zI (bkG (bkC K M C R))) (zI (bkL (bkC K M C R))) groups' gcs' counts' bests' := by
  obtain ⟨le, nu, sp, he, ne, wa, si, ti, la, z1, z2, z3, z4, z5, z6, z7, z8, z9, z10, z11, z12, ld', g1, c1, ta1, q1, q2, q3, q4⟩ := rdy_same hj hr hu chg l0 l1 l2 l3 l4 l5 l6 l7 l8 l9 l10 l11 l12 y1 y2 y3 y4 y5 y6 y7 y8 y9 y10 y11 y12 ld groups gcs tally counts bests hs hld hV
  obtain ⟨counts1, bests1, r1, r2, L0, eL0, hL0, hKn⟩ := RkV_tot q4
  obtain ⟨hg, cn, e', met', ways', few', g_1, g_2, g_3, g_4, g_5⟩ := go_zC hj hr hu a0 a1 hg0 cn0 ein met0 ways0 few0
  obtain ⟨hw, hc, hm⟩ := RowR_c hr
  obtain ⟨hB, hR, _, _, u4, u5⟩ := RulR_c (K := K) (M := M) (C := C) hj hu hw
  have wl : WQ (bkC K M C R) 0 0 0 0 < 9223372036854775808 := by
    unfold WQ
    split
    · omega
    · exact Wn_lt _ _ (by omega) _ _ _ _
  have w0 : ways' (0 : Int32).toNatClampNeg = wI (WQ (bkC K M C R) 0 0 0 0) := (TbW_0 g_4).1
  have c0 {α : Type} (o : Option α) : ck (inb 0 18414) o = o := rfl
  by_cases ck1 : WQ (bkC K M C R) 0 0 0 0 ≤ 0
  · obtain ⟨_, _, _, _, hP, L, eL, hK, hM⟩ := id r2
    have hLL : L0 = L := by
      have b1 := hK.2.2.1.1
      have b2 := hK.2.2.1.2.1
      have b3 := hL0.1
      have b4 := hL0.2.1
      have h30 := hB.2.1
      rw [eL, zI_eq (by omega) (by omega) (by omega) (by omega)] at eL0
      exact eL0.symm
    subst hLL
    obtain ⟨sp2, he2, ti2, w1, w2, w3, w4, w5, w6, w7, w8, w9, w10, w11, w12, f1, f2⟩ := fs_b4 (Λ := (bkC K M C R)) hw hc (hu.2.2.2.2.2.2.2.2.2.2.1) (hu.2.2.2.2.2.2.2.2.2.2.2) (tI_of (R 5)) rfl hB hK.2.2.1 hM hKn C.toInt.toNat FU 0 sp he ti z1 z2 z3 z4 z5 z6 z7 z8 z9 z10 z11 z12 (by have := hw.1; omega) (by have := hw.2.1; unfold FU; omega) hP
    have f1' : F_X4_firstStuck (zI (bkH (bkC K M C R))) le nu sp he ne wa si ti (zI (bkZ (bkC K M C R))) (zI (bkG (bkC K M C R))) (zI (bkL (bkC K M C R))) z1 z2 z3 z4 z5 z6 z7 z8 z9 z10 z11 z12 (zI ld') bests1 K M R C = some (zI (wy (bkC K M C R) C.toInt (rK K) C.toInt.toNat 0), sp2, he2, ti2, w1, w2, w3, w4, w5, w6, w7, w8, w9, w10, w11, w12) := f1
    obtain ⟨e2, y1⟩ := why_b37_z (ways := ways') (few := few') hw hm (show bkH (bkC K M C R) = hcn (rK K) C.toInt.toNat from rfl) hB g_2 hR g_3 g_5 0 C.toInt.toNat FU 0 e' (by have := hw.1; omega) (by have := hw.2.1; unfold FU; omega)
    have y1' : F_X8_why_b37 many kk mm sz sg lt pg FU 0 (nI j) (zI (bkH (bkC K M C R))) hg cn e' met' ways' few' (nI j) 0 0 = some (zI (wy (bkC K M C R) C.toInt (rK K) C.toInt.toNat 0), 0, nI j, zI (bkH (bkC K M C R)), hg, cn, e2, met', ways', few') := by rw [nI_zI]; exact y1
    have v2 : RkV (bkC K M C R) ld' (zI (bkH (bkC K M C R))) le nu sp2 he2 ne wa si ti2 la (zI (bkZ (bkC K M C R))) (zI (bkG (bkC K M C R))) (zI (bkL (bkC K M C R))) g1 c1 counts1 bests1 := ⟨rfl, rfl, rfl, rfl, f2, L0, eL, ⟨hB, TbC_l hB f2, hK.2.2.1, hK.2.2.2.1, hK.2.2.2.2.1, hK.2.2.2.2.2.1, hK.2.2.2.2.2.2⟩, hM⟩
    refine ⟨zI (wy (bkC K M C R) C.toInt (rK K) C.toInt.toNat 0), le, nu, sp2, he2, ne, wa, si, ti2, la, w1, w2, w3, w4, w5, w6, w7, w8, w9, w10, w11, w12, ld', g1, c1, ta1, counts1, bests1, nI j, zI (bkH (bkC K M C R)), hg, cn, e2, met', ways', few', ?_, ?_, q2, q3, v2⟩
    · unfold F_X7_why_same
      rw [q1, Option.bind_some]
      show (F_X4_total (zI (bkH (bkC K M C R))) le ti la (zI (bkL (bkC K M C R))) (zI ld') g1 c1 counts bests).bind _ = _
      rw [r1, Option.bind_some]
      show (if lg_cmp (wI (WQ (bkC K M C R) 0 0 0 0)) 0 ≤ 0 then (F_X4_firstStuck (zI (bkH (bkC K M C R))) le nu sp he ne wa si ti (zI (bkZ (bkC K M C R))) (zI (bkG (bkC K M C R))) (zI (bkL (bkC K M C R))) z1 z2 z3 z4 z5 z6 z7 z8 z9 z10 z11 z12 (zI ld') bests1 K M R C).bind _ else _) = _
      rw [if_pos ((lg_0 wl).mpr ck1), f1', Option.bind_some]
    · unfold F_X8_why
      rw [isRow_eq j hj, Option.bind_some, if_neg (show ¬ qb true = 0 by decide), g_1, Option.bind_some, c0]
      show (if lg_cmp (ways' (0 : Int32).toNatClampNeg) 0 ≤ 0 then F_X8_why_b37 many kk mm sz sg lt pg FU 0 (nI j) (zI (bkH (bkC K M C R))) hg cn e' met' ways' few' (nI j) 0 0 else _) = _
      rw [w0, if_pos ((lg_0 wl).mpr ck1), y1']
  · refine ⟨-1, le, nu, sp, he, ne, wa, si, ti, la, z1, z2, z3, z4, z5, z6, z7, z8, z9, z10, z11, z12, ld', g1, c1, ta1, counts1, bests1, nI j, zI (bkH (bkC K M C R)), hg, cn, e', met', ways', few', ?_, ?_, q2, q3, r2⟩
    · unfold F_X7_why_same
      rw [q1, Option.bind_some]
      show (F_X4_total (zI (bkH (bkC K M C R))) le ti la (zI (bkL (bkC K M C R))) (zI ld') g1 c1 counts bests).bind _ = _
      rw [r1, Option.bind_some]
      show (if lg_cmp (wI (WQ (bkC K M C R) 0 0 0 0)) 0 ≤ 0 then _ else _) = _
      rw [if_neg (fun w => ck1 ((lg_0 wl).mp w))]
    · unfold F_X8_why
      rw [isRow_eq j hj, Option.bind_some, if_neg (show ¬ qb true = 0 by decide), g_1, Option.bind_some, c0]
      show (if lg_cmp (ways' (0 : Int32).toNatClampNeg) 0 ≤ 0 then _ else _) = _
      rw [w0, if_neg (fun w => ck1 ((lg_0 wl).mp w))]
theorem op_why_other (hj : j < 6) (hr : RowR j K W M C many kk tt mm) (hu : RulR j R sz sg lt pg) (chg : Bool) (l0 : Int32) (l1 l2 l3 l4 l5 l6 l7 l8 : NF) (l9 l10 l11 l12 : Int32) (y1 y2 y3 y4 : Int32) (y5 y6 y7 : NF) (y8 y9 y10 y11 y12 : Int32) (ld : Int) (groups gcs tally : NF) (counts : Nat → Int64) (bests : NF) (p0 : Int32) (hs : RkS ld bests) (hld : ld < 1000) (told a0 a1 : Int32) (hg0 cn0 ein met0 : NF) (ways0 : Nat → Int64) (few0 : NF) : ∃ (b : Int32) (le nu sp he ne wa si ti : NF) (la : Int32) (w1 w2 w3 w4 : Int32) (w5 w6 w7 : NF) (w8 w9 w10 w11 w12 : Int32) (ld' : Int) (groups' gcs' tally' : NF) (counts' : Nat → Int64) (bests' : NF) (a2 a3 : Int32) (hg cn e' met' : NF) (ways' : Nat → Int64) (few' : NF), F_X7_why_other K M R C chg l0 l1 l2 l3 l4 l5 l6 l7 l8 l9 l10 l11 l12 y1 y2 y3 y4 y5 y6 y7 y8 y9 y10 y11 y12 (zI ld) groups gcs tally counts bests p0 = some (b, false, zI (bkH (bkC K M C R)), le, nu, sp, he, ne, wa, si, ti, la, zI (bkZ (bkC K M C R)), zI (bkG (bkC K M C R)), zI (bkL (bkC K M C R)), w1, w2, w3, w4, w5, w6, w7, w8, w9, w10, w11, w12, zI ld', groups', gcs', tally', counts', bests') ∧ F_X8_why told many kk mm sz sg lt pg a0 a1 hg0 cn0 ein met0 ways0 few0 (nI j) = some (b, 0, a2, a3, hg, cn, e', met', ways', few') ∧ ld ≤ ld' ∧ ld' ≤ ld + 1 ∧ RkV (bkC K M C R) ld' (zI (bkH (bkC K M C R))) le nu sp he ne wa si ti la (zI (bkZ (bkC K M C R))) (zI (bkG (bkC K M C R))) (zI (bkL (bkC K M C R))) groups' gcs' counts' bests' := by
  obtain ⟨le, nu, sp, he, ne, wa, si, ti, la, z1, z2, z3, z4, z5, z6, z7, z8, z9, z10, z11, z12, ld', g1, c1, ta1, q1, q2, q3, q4⟩ := rdy_other hj hr hu chg l0 l1 l2 l3 l4 l5 l6 l7 l8 l9 l10 l11 l12 y1 y2 y3 y4 y5 y6 y7 y8 y9 y10 y11 y12 ld groups gcs tally counts bests hs hld
  obtain ⟨counts1, bests1, r1, r2, L0, eL0, hL0, hKn⟩ := RkV_tot q4
  obtain ⟨hg, cn, e', met', ways', few', g_1, g_2, g_3, g_4, g_5⟩ := go_zC hj hr hu a0 a1 hg0 cn0 ein met0 ways0 few0
  obtain ⟨hw, hc, hm⟩ := RowR_c hr
  obtain ⟨hB, hR, _, _, u4, u5⟩ := RulR_c (K := K) (M := M) (C := C) hj hu hw
  have wl : WQ (bkC K M C R) 0 0 0 0 < 9223372036854775808 := by
    unfold WQ
    split
    · omega
    · exact Wn_lt _ _ (by omega) _ _ _ _
  have w0 : ways' (0 : Int32).toNatClampNeg = wI (WQ (bkC K M C R) 0 0 0 0) := (TbW_0 g_4).1
  have c0 {α : Type} (o : Option α) : ck (inb 0 18414) o = o := rfl
  by_cases ck1 : WQ (bkC K M C R) 0 0 0 0 ≤ 0
  · obtain ⟨_, _, _, _, hP, L, eL, hK, hM⟩ := id r2
    have hLL : L0 = L := by
      have b1 := hK.2.2.1.1
      have b2 := hK.2.2.1.2.1
      have b3 := hL0.1
      have b4 := hL0.2.1
      have h30 := hB.2.1
      rw [eL, zI_eq (by omega) (by omega) (by omega) (by omega)] at eL0
      exact eL0.symm
    subst hLL
    obtain ⟨sp2, he2, ti2, w1, w2, w3, w4, w5, w6, w7, w8, w9, w10, w11, w12, f1, f2⟩ := fs_b4 (Λ := (bkC K M C R)) hw hc (hu.2.2.2.2.2.2.2.2.2.2.1) (hu.2.2.2.2.2.2.2.2.2.2.2) (tI_of (R 5)) rfl hB hK.2.2.1 hM hKn C.toInt.toNat FU 0 sp he ti z1 z2 z3 z4 z5 z6 z7 z8 z9 z10 z11 z12 (by have := hw.1; omega) (by have := hw.2.1; unfold FU; omega) hP
    have f1' : F_X4_firstStuck (zI (bkH (bkC K M C R))) le nu sp he ne wa si ti (zI (bkZ (bkC K M C R))) (zI (bkG (bkC K M C R))) (zI (bkL (bkC K M C R))) z1 z2 z3 z4 z5 z6 z7 z8 z9 z10 z11 z12 (zI ld') bests1 K M R C = some (zI (wy (bkC K M C R) C.toInt (rK K) C.toInt.toNat 0), sp2, he2, ti2, w1, w2, w3, w4, w5, w6, w7, w8, w9, w10, w11, w12) := f1
    obtain ⟨e2, y1⟩ := why_b37_z (ways := ways') (few := few') hw hm (show bkH (bkC K M C R) = hcn (rK K) C.toInt.toNat from rfl) hB g_2 hR g_3 g_5 0 C.toInt.toNat FU 0 e' (by have := hw.1; omega) (by have := hw.2.1; unfold FU; omega)
    have y1' : F_X8_why_b37 many kk mm sz sg lt pg FU 0 (nI j) (zI (bkH (bkC K M C R))) hg cn e' met' ways' few' (nI j) 0 0 = some (zI (wy (bkC K M C R) C.toInt (rK K) C.toInt.toNat 0), 0, nI j, zI (bkH (bkC K M C R)), hg, cn, e2, met', ways', few') := by rw [nI_zI]; exact y1
    have v2 : RkV (bkC K M C R) ld' (zI (bkH (bkC K M C R))) le nu sp2 he2 ne wa si ti2 la (zI (bkZ (bkC K M C R))) (zI (bkG (bkC K M C R))) (zI (bkL (bkC K M C R))) g1 c1 counts1 bests1 := ⟨rfl, rfl, rfl, rfl, f2, L0, eL, ⟨hB, TbC_l hB f2, hK.2.2.1, hK.2.2.2.1, hK.2.2.2.2.1, hK.2.2.2.2.2.1, hK.2.2.2.2.2.2⟩, hM⟩
    refine ⟨zI (wy (bkC K M C R) C.toInt (rK K) C.toInt.toNat 0), le, nu, sp2, he2, ne, wa, si, ti2, la, w1, w2, w3, w4, w5, w6, w7, w8, w9, w10, w11, w12, ld', g1, c1, ta1, counts1, bests1, nI j, zI (bkH (bkC K M C R)), hg, cn, e2, met', ways', few', ?_, ?_, q2, q3, v2⟩
    · unfold F_X7_why_other
      rw [q1, Option.bind_some]
      show (F_X4_total (zI (bkH (bkC K M C R))) le ti la (zI (bkL (bkC K M C R))) (zI ld') g1 c1 counts bests).bind _ = _
      rw [r1, Option.bind_some]
      show (if lg_cmp (wI (WQ (bkC K M C R) 0 0 0 0)) 0 ≤ 0 then (F_X4_firstStuck (zI (bkH (bkC K M C R))) le nu sp he ne wa si ti (zI (bkZ (bkC K M C R))) (zI (bkG (bkC K M C R))) (zI (bkL (bkC K M C R))) z1 z2 z3 z4 z5 z6 z7 z8 z9 z10 z11 z12 (zI ld') bests1 K M R C).bind _ else _) = _
      rw [if_pos ((lg_0 wl).mpr ck1), f1', Option.bind_some]
    · unfold F_X8_why
      rw [isRow_eq j hj, Option.bind_some, if_neg (show ¬ qb true = 0 by decide), g_1, Option.bind_some, c0]
      show (if lg_cmp (ways' (0 : Int32).toNatClampNeg) 0 ≤ 0 then F_X8_why_b37 many kk mm sz sg lt pg FU 0 (nI j) (zI (bkH (bkC K M C R))) hg cn e' met' ways' few' (nI j) 0 0 else _) = _
      rw [w0, if_pos ((lg_0 wl).mpr ck1), y1']
  · refine ⟨-1, le, nu, sp, he, ne, wa, si, ti, la, z1, z2, z3, z4, z5, z6, z7, z8, z9, z10, z11, z12, ld', g1, c1, ta1, counts1, bests1, nI j, zI (bkH (bkC K M C R)), hg, cn, e', met', ways', few', ?_, ?_, q2, q3, r2⟩
    · unfold F_X7_why_other
      rw [q1, Option.bind_some]
      show (F_X4_total (zI (bkH (bkC K M C R))) le ti la (zI (bkL (bkC K M C R))) (zI ld') g1 c1 counts bests).bind _ = _
      rw [r1, Option.bind_some]
      show (if lg_cmp (wI (WQ (bkC K M C R) 0 0 0 0)) 0 ≤ 0 then _ else _) = _
      rw [if_neg (fun w => ck1 ((lg_0 wl).mp w))]
    · unfold F_X8_why
      rw [isRow_eq j hj, Option.bind_some, if_neg (show ¬ qb true = 0 by decide), g_1, Option.bind_some, c0]
      show (if lg_cmp (ways' (0 : Int32).toNatClampNeg) 0 ≤ 0 then _ else _) = _
      rw [w0, if_neg (fun w => ck1 ((lg_0 wl).mp w))]
end YX

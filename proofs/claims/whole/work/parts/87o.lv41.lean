abbrev R10 : Type := Option (NF × NF × NF × NF × NF × NF × NF × NF × NF × NF)
abbrev K235 : Type := NF → NF → NF → NF → NF → NF → NF → NF → NF → NF → Int32 → Int32 → Int32 → Int32 → Int64 → Int32 → Int32 → Int32 → Int32 → R10
abbrev K15 : Type := NF → NF → NF → NF → NF → NF → NF → NF → NF → NF → Int32 → Int32 → Int32 → Int32 → Int32 → Int32 → Int64 → R10
abbrev K47 : Type := NF → NF → NF → NF → NF → NF → NF → NF → NF → NF → Int32 → Int32 → Int32 → Int32 → Int32 → Int32 → Int64 → Int32 → Int32 → Int32 → Int32 → R10
section LS
variable {n : Int} {κ : Int → Int} {μ : Int → Int → Int} {lt pg : Int} {Λ : Book} {j : Int} {many kk marks hangs cancels mz ms ml mp few : NF} {ways : Nat → Int64}
theorem lm_235 (hB : BkW Λ) (hw : RwW n κ μ) (hH : bkH Λ = hcn κ n.toNat) (j0 : 0 ≤ j) (j1 : j < 6) (hh : ∀ h, 0 ≤ h → h < bkH Λ → hangs h.toNat = zI (30 * j + ixh κ n h)) (KK : K15) {Φ : Fold} {l t g half : Int} {q : Nat} {x : Nat × Nat} (hP : PI n κ μ lt pg Φ l t q g) (hl : 0 < (q : Int) → l = fS Φ ((q : Int) - 1)) (hQ : q < 8) (hs : x.1 = 2 ∨ x.1 = 4 ∨ x.1 = 6 ∨ x.1 = 8) (hk : x.2 < 2 ^ x.1) (t0 : 0 ≤ t) (hx : t + thg x.2 x.1 x.1 ≤ bkH Λ) (ein isT th qu fl fp ki ca sizeOf : NF) (fw : Int32) (k9 : Int64) : ∀ (d m p : Nat) (placed : NF), p + d = x.1 → d < m → PMp (plc κ μ n x p Φ) p sizeOf placed → ∃ placed', F_X8_lays_b235 many kk marks mz ms ml mp (zI j) (zI (bkH Λ)) hangs cancels ways few KK m ein isT th qu fl fp sizeOf placed ki ca (zI j) fw (zI q) (zI half) k9 (zI x.1) (nI x.2) (zI (t + thg x.2 x.1 p)) (zI ((p + 1 : Nat) : Int)) = KK ein isT th qu fl fp sizeOf placed' ki ca (zI j) fw (zI ((q + 1 : Nat) : Int)) (zI (xt t x)) (zI (xh half x)) (zI (enl x.2)) k9 ∧ PMp (plc κ μ n x x.1 Φ) x.1 sizeOf placed' ∧ Frm 64 placed placed'
  | 0, m + 1, p, placed, hp, _, hM => by
    have e : p = x.1 := by omega
    subst e
    have h256 : x.2 < 256 := Nat.lt_of_lt_of_le hk (show 2 ^ x.1 ≤ 2 ^ 8 from Nat.pow_le_pow_right (by omega) (by omega))
    have ll : zI (x.1 : Int) < zI ((x.1 + 1 : Nat) : Int) := by simp (disch := omega) only [zl_0, zl_1, zl_2, zl_3, zl_4, zl_5, zl_6, zl_7, zl_8, zl_9, zl_10, zl_11, zl_12, zl_13, zl_14, zl_15, zl_16, zl_17, zl_18, zl_19, zl_20, zl_21, zl_22, zl_23, zl_24, zl_25, zl_26, zl_27, zl_28, zl_29, zl_30, zl_31, zl_32, zl_33, zl_34, zl_35, zl_36, zl_37, zl_38, zl_39, zl_40, zl_41, zl_42, zl_43, zl_44, zl_45, zl_46, zl_47, zl_48, zl_49, zl_50, zl_51, zl_52, zl_53, zl_54, zl_55, zl_56, zl_57, zl_58, zl_59, zl_60, zl_61, zl_62, zl_63, zl_64, zl_65, zl_66, zl_80, zl_97, zl_99, zl_103, zl_107, zl_112, zl_115, zl_100, zl_180, zl_210, zl_238, zl_255, zl_256, zl_400, zl_1000, zl_1024, zl_1260, zl_2000, zl_7140, zl_7200, zl_18414, zl_65536, zl_131072, zl_9999, zl_999, zI_add, zI_sub, zI_mul, zI_neg, zI_lt, zI_le, zI_eq, zI_clamp, ck_z, ckp_z, qb_z, qb_z0, Option.bind_some]; omega
    have eq1 : zI (q : Int) + 1 = zI ((q + 1 : Nat) : Int) := by rw [zl_1, zI_add]; congr 1
    have e3 : zI (x.1 : Int) / 2 = zI ((x.1 / 2 : Nat) : Int) := by
      rw [zl_2, divz (by omega) (by omega) (by omega) (by omega)]; congr 1
    have e4 : zI half + zI ((x.1 / 2 : Nat) : Int) = zI (xh half x) := zI_add _ _
    have e5 : (1 : Int32) - (nI x.2 &&& 1) = zI (enl x.2) := by unfold enl; exact and1_m x.2 h256
    rw [F_X8_lays_b235, if_pos ll, eq1, e3, e4, e5]
    exact ⟨placed, rfl, hM, Frm_r _ _⟩
  | d + 1, m + 1, p, placed, hp, hm, hM => by
    have n0 := hw.1
    have h30 := hB.2.1
    have h256 : x.2 < 256 := Nat.lt_of_lt_of_le hk (show 2 ^ x.1 ≤ 2 ^ 8 from Nat.pow_le_pow_right (by omega) (by omega))
    obtain ⟨i1, i2⟩ := plc_PI hw hP hl (by omega) (by omega) hs t0 (by rw [← hH]; exact hx) p (by omega)
    obtain ⟨a1, a2, a3, a4, a5, a6, a7⟩ := id i1
    have tb := thg_b x.2 x.1 p
    have ll : ¬ zI (x.1 : Int) < zI ((p + 1 : Nat) : Int) := by simp (disch := omega) only [zl_0, zl_1, zl_2, zl_3, zl_4, zl_5, zl_6, zl_7, zl_8, zl_9, zl_10, zl_11, zl_12, zl_13, zl_14, zl_15, zl_16, zl_17, zl_18, zl_19, zl_20, zl_21, zl_22, zl_23, zl_24, zl_25, zl_26, zl_27, zl_28, zl_29, zl_30, zl_31, zl_32, zl_33, zl_34, zl_35, zl_36, zl_37, zl_38, zl_39, zl_40, zl_41, zl_42, zl_43, zl_44, zl_45, zl_46, zl_47, zl_48, zl_49, zl_50, zl_51, zl_52, zl_53, zl_54, zl_55, zl_56, zl_57, zl_58, zl_59, zl_60, zl_61, zl_62, zl_63, zl_64, zl_65, zl_66, zl_80, zl_97, zl_99, zl_103, zl_107, zl_112, zl_115, zl_100, zl_180, zl_210, zl_238, zl_255, zl_256, zl_400, zl_1000, zl_1024, zl_1260, zl_2000, zl_7140, zl_7200, zl_18414, zl_65536, zl_131072, zl_9999, zl_999, zI_add, zI_sub, zI_mul, zI_neg, zI_lt, zI_le, zI_eq, zI_clamp, ck_z, ckp_z, qb_z, qb_z0, Option.bind_some]; omega
    have ep : zI ((p + 1 : Nat) : Int) + 1 = zI ((p + 1 + 1 : Nat) : Int) := by rw [zl_1, zI_add]; congr 1
    have ebit := bit_z x.2 x.1 ((p + 1 : Nat) : Int) h256 (by omega) (by omega) (by omega)
    have lS : ((p : Nat) : Int) < fS (plc κ μ n x p Φ) (fQ (plc κ μ n x p Φ) - 1) := by rw [a6, show (q : Int) + 1 - 1 = q by omega, i2]; omega
    have eat : F_X8_at 0 (zI (q : Int)) (zI ((p + 1 : Nat) : Int)) = some (zI (8 * ((q : Int) + 1 - 1) + (p + 1) - 1)) := by
      unfold F_X8_at
      rw [zl_0, show (64 : Int32) = zI 64 from rfl, show (8 : Int32) = zI 8 from rfl, zl_1]
      simp only [zI_mul, zI_add, zI_sub]
      congr 2
      omega
    have cat {α : Type} (o : Option α) : ck (inb (zI (8 * ((q : Int) + 1 - 1) + (p + 1) - 1)) 320) o = o := ck_z (by omega) (by omega) (by omega)
    have clat : (zI (8 * ((q : Int) + 1 - 1) + ((p : Nat) + 1) - 1)).toNatClampNeg = (8 * ((q : Int) + 1 - 1) + ((p : Nat) + 1) - 1).toNat := zI_clamp (by omega) (by omega)
    rw [F_X8_lays_b235, if_neg ll, ebit]
    unfold F_X8_lays_b261 F_X8_lays_b298
    rw [eat, Option.bind_some, Option.bind_some, ep]
    simp only [cat, clat]
    by_cases c : Gh x.2 x.1 ((p + 1 : Nat) : Int)
    · have et := thg_g (p := p + 1) (by omega) c
      rw [show p + 1 - 1 = p by omega] at et
      have e1 : plc κ μ n x (p + 1) Φ = bG (plc κ μ n x p Φ) p := by rw [plc, if_pos c]
      have pm := PMp_C (v := -2) a1 (by omega) lS hM (Ψ := bG (plc κ μ n x p Φ) p) rfl (fun _ => rfl) (fun q p => bG_C _ _ _ _)
      rw [a6, ← e1] at pm
      rw [if_pos c, if_pos (by rfl), if_neg (by decide), if_neg (by decide)]
      have e0 : zI (t + thg x.2 x.1 p) + 0 = zI (t + thg x.2 x.1 (p + 1)) := by rw [zl_0, zI_add, et]; congr 1; omega
      rw [e0]
      obtain ⟨placed', r1, r2, r3⟩ := lm_235 hB hw hH j0 j1 hh KK hP hl hQ hs hk t0 hx ein isT th qu fl fp ki ca sizeOf fw k9 d m (p + 1) _ (by omega) (by omega) pm
      exact ⟨placed', r1, r2, Frm_t (Frm_u _ (by omega) (by omega)) r3⟩
    · have et := thg_t (p := p + 1) (by omega) c
      rw [show p + 1 - 1 = p by omega] at et
      have tm := (thg_le x.2 x.1 (show p + 1 ≤ x.1 by omega)).1
      have e1 : plc κ μ n x (p + 1) Φ = bLl κ μ n (plc κ μ n x p Φ) p := by rw [plc, if_neg c]
      obtain ⟨o1, o2, o3, o4, o5, o6⟩ := bLl_o (κ := κ) (μ := μ) (n := n) (plc κ μ n x p Φ) p
      have pm := PMp_C (v := fT (plc κ μ n x p Φ)) a1 (by omega) lS hM o1 o5 o6
      rw [a6, ← e1] at pm
      have hg := hh (t + thg x.2 x.1 p) (by omega) (by omega)
      have eh : zI (30 * j + ixh κ n (t + thg x.2 x.1 p)) - (30 : Int32) * zI j = zI (fT (plc κ μ n x p Φ)) := by
        rw [show (30 : Int32) = zI 30 from rfl, zI_mul, zI_sub, a2]; congr 1; omega
      rw [if_neg c, if_neg (by decide), if_pos True.intro, ck_z (by omega) (by omega) (by omega), if_pos True.intro, zI_clamp (by omega) (by omega), hg, eh]
      have e0 : zI (t + thg x.2 x.1 p) + 1 = zI (t + thg x.2 x.1 (p + 1)) := by rw [zl_1, zI_add, et]; congr 1; omega
      rw [e0]
      obtain ⟨placed', r1, r2, r3⟩ := lm_235 hB hw hH j0 j1 hh KK hP hl hQ hs hk t0 hx ein isT th qu fl fp ki ca sizeOf fw k9 d m (p + 1) _ (by omega) (by omega) pm
      exact ⟨placed', r1, r2, Frm_t (Frm_u _ (by omega) (by omega)) r3⟩
set_option maxRecDepth 8000 in
theorem lm_81 (hB : BkW Λ) (hL : LvM Λ marks hangs cancels) (hR : RuB Λ j mz ms ml mp) (hT : TbW Λ ways few (fun _ _ _ _ => True)) (KK : K15) (fb : Bool) {q : Nat} {t half last : Int} (hq : q < 8) (t1 : t < bkH Λ) (hm : Mt Λ q t half last) {x : Nat × Nat} {k' : Nat} (isT th qu fl fp sizeOf placed ki ca : NF) : ∀ (m nf S K k : Nat) (ein : NF), amu S K ≤ nf → nf < m → (S = 2 ∨ S = 4 ∨ S = 6 ∨ S = 8) → K < 2 ^ S → k < 9223372036854775808 → (fb = true → k = 0) → fwx (wt Λ fb (8 - (q + 1)) q t half last) (rst (gdM Λ q t half last) S K) k = some (x, k') → ∃ e', F_X8_lays_b81 many kk marks mz ms ml mp (zI j) (zI (bkH Λ)) hangs cancels ways few (fun m_in m_isThere m_things m_quires m_firstLetter m_firstPage m_sizeOf m_placed m_kindOf m_catchOf x1 x4 x5 x6 x7 x8 x9 x11 x12 x13 x14 => F_X8_lays_b47 many kk marks mz ms ml mp (zI j) (zI (bkH Λ)) hangs cancels ways few KK m m_in m_isThere m_things m_quires m_firstLetter m_firstPage m_sizeOf m_placed m_kindOf m_catchOf x1 x4 x5 x6 x7 x8 x9 x11 x12 x13 x14) ein isT th qu fl fp sizeOf placed ki ca (zI j) (qb fb) (zI q) (zI t) (zI half) (zI last) (wI k) (zI (stn q t half last)) (zI S) (nI K) 0 = F_X8_lays_b235 many kk marks mz ms ml mp (zI j) (zI (bkH Λ)) hangs cancels ways few KK FU e' isT th qu fl fp (upd sizeOf q (zI x.1)) placed ki ca (zI j) (qb fb) (zI q) (zI half) (wI k') (zI x.1) (nI x.2) (zI t) 1
  | 0, nf, S, K, k, ein, _, h, _, _, _, _, _ => absurd h (Nat.not_lt_zero _)
  | m + 1, nf, S, K, k, ein, hnf, hmm, hS, hK, hk9, hk0, hf => by
    have h30 := hB.2.1
    obtain ⟨m1, m2, m3, m4, m5, m6, m7, m8⟩ := Mt_b hB q t half last hm
    have h256 : 2 ^ S ≤ 256 := show 2 ^ S ≤ 2 ^ 8 from Nat.pow_le_pow_right (by omega) (by omega)
    have hz : ¬ (q = 0 ∧ bkH Λ = 0) := by
      rintro ⟨a, b⟩
      omega
    have cq {α : Type} (o : Option α) : ck (inb (zI (q : Int)) 40) o = o := ck_z (by omega) (by omega) (by omega)
    have clq : (zI (q : Int)).toNatClampNeg = q := by rw [zI_clamp (by omega) (by omega)]; omega
    -- on to the next
    have nxt (e1 : NF) (k1 : Nat) (hk1 : k1 < 9223372036854775808) (hk2 : fb = true → k1 = 0) (hg : fwx (wt Λ fb (8 - (q + 1)) q t half last) (if K + 1 = 2 ^ S then rst (gdM Λ q t half last) (S + 2) 0 else rst (gdM Λ q t half last) S (K + 1)) k1 = some (x, k')) : ∃ e', F_X8_lays_b47 many kk marks mz ms ml mp (zI j) (zI (bkH Λ)) hangs cancels ways few KK (m + 1) e1 isT th qu fl fp sizeOf placed ki ca (zI j) (qb fb) (zI q) (zI t) (zI half) (zI last) (wI k1) (zI (stn q t half last)) (zI S) (nI K) 0 = F_X8_lays_b235 many kk marks mz ms ml mp (zI j) (zI (bkH Λ)) hangs cancels ways few KK FU e' isT th qu fl fp (upd sizeOf q (zI x.1)) placed ki ca (zI j) (qb fb) (zI q) (zI half) (wI k') (zI x.1) (nI x.2) (zI t) 1 := by
      have epw : (1 : Int32) <<< (zI (S : Int) &&& 31) = nI (2 ^ S) := by rw [← nI_zI]; exact pow_s S (by omega)
      have eK : nI K + 1 = nI (K + 1) := by rw [nI_zI, nI_zI, zl_1, zI_add]; congr 1
      have eS2 : zI (S : Int) + 2 = zI ((S + 2 : Nat) : Int) := by rw [zl_2, zI_add]; congr 1
      have nS : ¬ zI (S : Int) = 0 := by simp (disch := omega) only [zl_0, zl_1, zl_2, zl_3, zl_4, zl_5, zl_6, zl_7, zl_8, zl_9, zl_10, zl_11, zl_12, zl_13, zl_14, zl_15, zl_16, zl_17, zl_18, zl_19, zl_20, zl_21, zl_22, zl_23, zl_24, zl_25, zl_26, zl_27, zl_28, zl_29, zl_30, zl_31, zl_32, zl_33, zl_34, zl_35, zl_36, zl_37, zl_38, zl_39, zl_40, zl_41, zl_42, zl_43, zl_44, zl_45, zl_46, zl_47, zl_48, zl_49, zl_50, zl_51, zl_52, zl_53, zl_54, zl_55, zl_56, zl_57, zl_58, zl_59, zl_60, zl_61, zl_62, zl_63, zl_64, zl_65, zl_66, zl_80, zl_97, zl_99, zl_103, zl_107, zl_112, zl_115, zl_100, zl_180, zl_210, zl_238, zl_255, zl_256, zl_400, zl_1000, zl_1024, zl_1260, zl_2000, zl_7140, zl_7200, zl_18414, zl_65536, zl_131072, zl_9999, zl_999, zI_add, zI_sub, zI_mul, zI_neg, zI_lt, zI_le, zI_eq, zI_clamp, ck_z, ckp_z, qb_z, qb_z0, Option.bind_some]; omega
      rw [F_X8_lays_b47, if_pos (show (0 : Int32) = 0 from rfl), if_neg nS, eK, epw]
      by_cases c : K + 1 = 2 ^ S
      · rw [if_pos c] at hg
        by_cases s8 : S = 8
        · subst s8
          have : rst (gdM Λ q t half last) (8 + 2) 0 = [] := by unfold rst; rw [if_pos rfl]
          rw [this, fwx] at hg
          cases hg
        · rw [if_pos (by rw [c])]
          unfold F_X8_lays_b72
          rw [eS2]
          have := amu_z hS K
          have h22 : 0 < 2 ^ (S + 2) := Nat.lt_of_lt_of_le Nat.zero_lt_one Nat.one_le_two_pow
          exact lm_81 hB hL hR hT KK fb hq t1 hm isT th qu fl fp sizeOf placed ki ca m (nf - 1) (S + 2) 0 k1 e1 (by omega) (by omega) (by omega) h22 hk1 hk2 hg
      · rw [if_neg c] at hg
        have nq : ¬ nI (K + 1) = nI (2 ^ S) := by rw [nI_zI, nI_zI]; simp (disch := omega) only [zl_0, zl_1, zl_2, zl_3, zl_4, zl_5, zl_6, zl_7, zl_8, zl_9, zl_10, zl_11, zl_12, zl_13, zl_14, zl_15, zl_16, zl_17, zl_18, zl_19, zl_20, zl_21, zl_22, zl_23, zl_24, zl_25, zl_26, zl_27, zl_28, zl_29, zl_30, zl_31, zl_32, zl_33, zl_34, zl_35, zl_36, zl_37, zl_38, zl_39, zl_40, zl_41, zl_42, zl_43, zl_44, zl_45, zl_46, zl_47, zl_48, zl_49, zl_50, zl_51, zl_52, zl_53, zl_54, zl_55, zl_56, zl_57, zl_58, zl_59, zl_60, zl_61, zl_62, zl_63, zl_64, zl_65, zl_66, zl_80, zl_97, zl_99, zl_103, zl_107, zl_112, zl_115, zl_100, zl_180, zl_210, zl_238, zl_255, zl_256, zl_400, zl_1000, zl_1024, zl_1260, zl_2000, zl_7140, zl_7200, zl_18414, zl_65536, zl_131072, zl_9999, zl_999, zI_add, zI_sub, zI_mul, zI_neg, zI_lt, zI_le, zI_eq, zI_clamp, ck_z, ckp_z, qb_z, qb_z0, Option.bind_some]; omega
        rw [if_neg nq]
        have := amu_k (S := S) (K := K) (K' := K + 1) (by omega) (by omega)
        exact lm_81 hB hL hR hT KK fb hq t1 hm isT th qu fl fp sizeOf placed ki ca m (nf - 1) S (K + 1) k1 e1 (by omega) (by omega) hS (by omega) hk1 hk2 hg
    rw [rst_N _ hS hK] at hf
    unfold F_X8_lays_b81
    rw [hasSz hB hR S hS, Option.bind_some]
    by_cases cA : alw (bkZ Λ) S = true
    · rw [cA, if_neg (show ¬ qb true = 0 by decide)]
      obtain ⟨e1, he1⟩ := isQuire_z hB hL hR q t half last S K (by omega) (by omega) m1 (by omega) m3 (by omega) m5 (by omega) hK ein
      rw [he1, Option.bind_some]
      by_cases c : QuM Λ q t half last S K
      · have gt : gdM Λ q t half last S K = true := by unfold gdM; rw [cA, bq_t c]; rfl
        have hy : (S, K) ∈ lyM Λ q t half last := lyM_mem.mpr ⟨hS, hK, cA, c⟩
        have mx : Mt Λ (q + 1) (xt t (S, K)) (xh half (S, K)) (enl K) := ⟨t, half, last, (S, K), hm, t1, hy, rfl, rfl, rfl⟩
        obtain ⟨y1, y2⟩ := (hT (q + 1) _ _ _ (by omega) mx).1 True.intro
        obtain ⟨y3, y4⟩ := (hT q _ _ _ (by omega) hm).1 True.intro
        unfold WQ at y1
        unfold FQ at y2 y4
        rw [if_neg (by omega)] at y1 y2
        rw [if_neg hz] at y4
        obtain ⟨b1, b2, b3, b4, b5, b6, b7, b8⟩ := Mt_b hB _ _ _ _ mx
        have sb := stn_b (q := ((q + 1 : Nat) : Int)) (t := xt t (S, K)) (half := xh half (S, K)) (last := enl K) (by omega) (by omega) b1 (by omega) b3 (by omega) (enl_b K)
        have sb2 := stn_b (q := (q : Int)) (t := t) (half := half) (last := last) (by omega) (by omega) m1 (by omega) m3 (by omega) (by omega)
        have ebh : F_X8_behind (zI q) (zI t) (zI half) (zI S) (nI K) = some (zI (stn ((q + 1 : Nat) : Int) (xt t (S, K)) (xh half (S, K)) (enl K))) := behindQ_z q t half S K hS hK
        have cn {α : Type} (o : Option α) : ck (inb (zI (stn ((q + 1 : Nat) : Int) (xt t (S, K)) (xh half (S, K)) (enl K))) 18414) o = o := ck_z sb.1 sb.2 (by omega)
        have cs {α : Type} (o : Option α) : ck (inb (zI (stn q t half last)) 18414) o = o := ck_z sb2.1 sb2.2 (by omega)
        have zn : (zI (stn ((q + 1 : Nat) : Int) (xt t (S, K)) (xh half (S, K)) (enl K))).toNatClampNeg = (stn ((q + 1 : Nat) : Int) (xt t (S, K)) (xh half (S, K)) (enl K)).toNat := zI_clamp (by omega) (by omega)
        have zs : (zI (stn q t half last)).toNatClampNeg = (stn q t half last).toNat := zI_clamp (by omega) (by omega)
        obtain ⟨W, hW⟩ : ∃ W, W = Wn Λ (8 - (q + 1)) ((q + 1 : Nat) : Int) (xt t (S, K)) (xh half (S, K)) (enl K) := ⟨_, rfl⟩
        obtain ⟨F, hF⟩ : ∃ F, F = Fn Λ (8 - (q + 1)) ((q + 1 : Nat) : Int) (xt t (S, K)) (xh half (S, K)) (enl K) := ⟨_, rfl⟩
        have wl : W < 9223372036854775808 := by rw [hW]; exact Wn_lt Λ _ (by omega) _ _ _ _
        have fb1 : 0 ≤ F ∧ F ≤ 100 := by rw [hF]; exact Fn_b Λ _ _ _ _ _
        have fb2 := Fn_b Λ (8 - q) q t half last
        have tp := thg_popc S (by omega) K hK
        have tb := thg_b K S S
        have ep : ((popc K : Nat) : Int) = xg (S, K) := by
          show ((popc K : Nat) : Int) = (S : Int) - thg K S S
          omega
        have xgb := xg_b (x := (S, K)) hS
        rw [← hW] at y1
        rw [← hF] at y2
        have ewt : wt Λ fb (8 - (q + 1)) q t half last (S, K) = if fb = true then (if 0 < W ∧ F + xg (S, K) = Fn Λ (8 - q) q t half last then W else 0) else W := by
          have e8 : 8 - (q + 1) + 1 = 8 - q := by omega
          have eq : ((q + 1 : Nat) : Int) = (q : Int) + 1 := by omega
          rw [hW, hF]
          unfold wt
          rw [e8, eq]
        -- it is found
        have fin (hfo : k < wt Λ fb (8 - (q + 1)) q t half last (S, K)) (e1 : NF) : ∃ e', F_X8_lays_b47 many kk marks mz ms ml mp (zI j) (zI (bkH Λ)) hangs cancels ways few KK (m + 1) e1 isT th qu fl fp sizeOf placed ki ca (zI j) (qb fb) (zI q) (zI t) (zI half) (zI last) (wI k) (zI (stn q t half last)) (zI S) (nI K) 1 = F_X8_lays_b235 many kk marks mz ms ml mp (zI j) (zI (bkH Λ)) hangs cancels ways few KK FU e' isT th qu fl fp (upd sizeOf q (zI x.1)) placed ki ca (zI j) (qb fb) (zI q) (zI half) (wI k') (zI x.1) (nI x.2) (zI t) 1 := by
          rw [if_pos gt, List.singleton_append, fwx, if_pos hfo] at hf
          have hfe := Option.some.inj hf
          have h1 : (S, K) = x := congrArg Prod.fst hfe
          have h2 : k = k' := congrArg Prod.snd hfe
          subst h1
          subst h2
          rw [F_X8_lays_b47, if_neg (by decide), cq, clq]
          exact ⟨e1, rfl⟩
        have go (hno : ¬ k < wt Λ fb (8 - (q + 1)) q t half last (S, K)) : fwx (wt Λ fb (8 - (q + 1)) q t half last) (if K + 1 = 2 ^ S then rst (gdM Λ q t half last) (S + 2) 0 else rst (gdM Λ q t half last) S (K + 1)) (k - wt Λ fb (8 - (q + 1)) q t half last (S, K)) = some (x, k') := by
          rw [if_pos gt, List.singleton_append, fwx, if_neg hno] at hf
          exact hf
        rw [bq_t c, if_neg (show ¬ qb true = 0 by decide), ebh, Option.bind_some]
        cases fb with
        | false =>
          have ewf : wt Λ false (8 - (q + 1)) q t half last (S, K) = W := by rw [ewt, if_neg (by decide)]
          rw [ewf] at fin go
          rw [if_pos (show qb false = 0 from rfl), cn, zn, y1]
          unfold F_X8_lays_b197
          by_cases cw : k < W
          · rw [if_neg (fun w => by have := (lg_ge0 hk9 wl).mp w; omega), if_neg (by decide)]
            exact fin cw e1
          · rw [if_pos ((lg_ge0 hk9 wl).mpr (by omega)), if_pos (show (0 : Int32) = 0 from rfl), cn, zn, y1, wI_sub (by omega)]
            exact nxt e1 (k - W) (by omega) (fun w => by cases w) (go cw)
        | true =>
          rw [if_neg (show ¬ qb true = 0 by decide), cn, zn, y1]
          by_cases c0 : W ≤ 0
          · have ewf : wt Λ true (8 - (q + 1)) q t half last (S, K) = 0 := by rw [ewt, if_pos rfl, if_neg (by omega)]
            rw [ewf] at go
            rw [if_pos ((lg_0 wl).mpr c0)]
            exact nxt e1 k hk9 hk0 (go (by omega))
          · rw [if_neg (fun w => c0 ((lg_0 wl).mp w)), cn, ones_z K (by omega), Option.bind_some, cs, y2, zs, y4, ep, zI_add]
            by_cases cF : F + xg (S, K) = Fn Λ (8 - q) q t half last
            · have ewf : wt Λ true (8 - (q + 1)) q t half last (S, K) = W := by rw [ewt, if_pos rfl, if_pos ⟨by omega, cF⟩]
              have q3 : zI (F + xg (S, K)) = zI (Fn Λ (8 - q) q t half last) := by rw [cF]
              rw [ewf] at fin go
              rw [if_pos q3]
              by_cases cw : k < W
              · exact fin cw e1
              · have := hk0 rfl
                omega
            · have ewf : wt Λ true (8 - (q + 1)) q t half last (S, K) = 0 := by rw [ewt, if_pos rfl, if_neg (fun w => cF w.2)]
              have q3 : ¬ zI (F + xg (S, K)) = zI (Fn Λ (8 - q) q t half last) := by simp (disch := omega) only [zl_0, zl_1, zl_2, zl_3, zl_4, zl_5, zl_6, zl_7, zl_8, zl_9, zl_10, zl_11, zl_12, zl_13, zl_14, zl_15, zl_16, zl_17, zl_18, zl_19, zl_20, zl_21, zl_22, zl_23, zl_24, zl_25, zl_26, zl_27, zl_28, zl_29, zl_30, zl_31, zl_32, zl_33, zl_34, zl_35, zl_36, zl_37, zl_38, zl_39, zl_40, zl_41, zl_42, zl_43, zl_44, zl_45, zl_46, zl_47, zl_48, zl_49, zl_50, zl_51, zl_52, zl_53, zl_54, zl_55, zl_56, zl_57, zl_58, zl_59, zl_60, zl_61, zl_62, zl_63, zl_64, zl_65, zl_66, zl_80, zl_97, zl_99, zl_103, zl_107, zl_112, zl_115, zl_100, zl_180, zl_210, zl_238, zl_255, zl_256, zl_400, zl_1000, zl_1024, zl_1260, zl_2000, zl_7140, zl_7200, zl_18414, zl_65536, zl_131072, zl_9999, zl_999, zI_add, zI_sub, zI_mul, zI_neg, zI_lt, zI_le, zI_eq, zI_clamp, ck_z, ckp_z, qb_z, qb_z0, Option.bind_some]; exact cF
              rw [ewf] at go
              rw [if_neg q3]
              exact nxt e1 k hk9 hk0 (go (by omega))
      · have gf : ¬ gdM Λ q t half last S K = true := by unfold gdM; rw [cA, bq_f c]; decide
        rw [if_neg gf, List.nil_append] at hf
        rw [bq_f c, if_pos (show qb false = 0 from rfl)]
        exact nxt e1 k hk9 hk0 hf
    · have cA' : alw (bkZ Λ) S = false := by cases h : alw (bkZ Λ) S; rfl; exact absurd h cA
      have gf : ¬ gdM Λ q t half last S K = true := by
        unfold gdM
        rw [Bool.and_eq_true]
        exact fun w => cA w.1
      rw [if_neg gf, List.nil_append] at hf
      rw [cA', if_pos (show qb false = 0 from rfl)]
      exact nxt ein k hk9 hk0 hf
end LS

theorem lsm_1 (G : Nat → Nat → Bool) (s d K : Nat) : lsm G s (d + 1) K = (if G s K = true then [(s, K)] else []) ++ lsm G s d (K + 1) := by
  rw [lsm]
  by_cases c : G s K = true
  · rw [if_pos c, if_pos c]; rfl
  · rw [if_neg c, if_neg c]; rfl
theorem rst_N (G : Nat → Nat → Bool) {S K : Nat} (hS : S = 2 ∨ S = 4 ∨ S = 6 ∨ S = 8) (hK : K < 2 ^ S) : rst G S K = (if G S K = true then [(S, K)] else []) ++ (if K + 1 = 2 ^ S then rst G (S + 2) 0 else rst G S (K + 1)) := by
  have l0 (s : Nat) : lsm G s 0 (K + 1) = [] := rfl
  have e : rst G S K = (if G S K = true then [(S, K)] else []) ++ rst G S (K + 1) := by
    have r (K' : Nat) : rst G S K' = lst G ((8 - S) / 2) K' := by unfold rst; rw [if_neg (by omega)]
    rw [r, r]
    obtain ⟨d, hd⟩ : ∃ d, 2 ^ S - K = d + 1 := ⟨2 ^ S - K - 1, by omega⟩
    have hd2 : 2 ^ S - (K + 1) = d := by omega
    rcases hS with rfl | rfl | rfl | rfl
    · show lsm G 2 (2 ^ 2 - K) K ++ lst G 2 0 = _ ++ (lsm G 2 (2 ^ 2 - (K + 1)) (K + 1) ++ lst G 2 0)
      rw [hd, hd2, lsm_1, List.append_assoc]
    · show lsm G 4 (2 ^ 4 - K) K ++ lst G 1 0 = _ ++ (lsm G 4 (2 ^ 4 - (K + 1)) (K + 1) ++ lst G 1 0)
      rw [hd, hd2, lsm_1, List.append_assoc]
    · show lsm G 6 (2 ^ 6 - K) K ++ lst G 0 0 = _ ++ (lsm G 6 (2 ^ 6 - (K + 1)) (K + 1) ++ lst G 0 0)
      rw [hd, hd2, lsm_1, List.append_assoc]
    · show lsm G 8 (2 ^ 8 - K) K = _ ++ lsm G 8 (2 ^ 8 - (K + 1)) (K + 1)
      rw [hd, hd2, lsm_1]
  rw [e]
  by_cases c : K + 1 = 2 ^ S
  · rw [if_pos c]
    congr 1
    rw [c]
    rcases hS with rfl | rfl | rfl | rfl <;> rfl
  · rw [if_neg c]
/-- the model's rows of the picture under way -/
def PMp (Φ : Fold) (l : Int) (sizeOf placed : NF) : Prop := (∀ q, 0 ≤ q → q < fQ Φ → sizeOf q.toNat = zI (fS Φ q)) ∧ (∀ q p, 0 ≤ q → q < fQ Φ → 1 ≤ p → p ≤ fS Φ q → (q = fQ Φ - 1 → p ≤ l) → placed (8 * q + p - 1).toNat = zI (fC Φ q p))
theorem PMp_bQ {Φ : Fold} {l s : Int} {sizeOf placed : NF} (hw : PW Φ l) (hl : 0 < fQ Φ → l = fS Φ (fQ Φ - 1)) (h : PMp Φ l sizeOf placed) : PMp (bQ Φ s) 0 (upd sizeOf (fQ Φ).toNat (zI s)) placed := by
  have e : fQ (bQ Φ s) = fQ Φ + 1 := rfl
  have q0 := hw.1.1
  refine ⟨fun q h0 h1 => ?_, fun q p h0 h1 p0 p1 p2 => ?_⟩
  · rw [e] at h1
    rw [bQ_S]
    by_cases c : q = fQ Φ
    · rw [if_pos c, c, upd_at]
    · rw [if_neg c, upd_ne _ _ (by omega)]
      exact h.1 q h0 (by omega)
  · rw [e] at h1 p2
    rw [bQ_S] at p1
    by_cases c : q = fQ Φ
    · have := p2 (by omega); omega
    · rw [if_neg c] at p1
      have ec : fC (bQ Φ s) q p = fC Φ q p := rfl
      rw [ec]
      refine h.2 q p h0 (by omega) p0 p1 (fun w => ?_)
      have := hl (by omega)
      rw [this, ← w]
      exact p1
theorem plc_up {placed : NF} (v : Int32) (Q l q p : Int) (hQ : 0 < Q) (hl : 0 ≤ l) (hl8 : l < 8) (h1 : 0 ≤ q) (h3 : 1 ≤ p) (h4 : p ≤ 8) : upd placed (8 * (Q - 1) + (l + 1) - 1).toNat v (8 * q + p - 1).toNat = if q = Q - 1 ∧ p = l + 1 then v else placed (8 * q + p - 1).toNat := by
  by_cases c : q = Q - 1 ∧ p = l + 1
  · rw [if_pos c, c.1, c.2, upd_at]
  · rw [if_neg c, upd_ne _ _ (by omega)]
theorem PMp_C {Φ Ψ : Fold} {l v : Int} {sizeOf placed : NF} (hw : PW Φ l) (hQ : 0 < fQ Φ) (hl : l < fS Φ (fQ Φ - 1)) (h : PMp Φ l sizeOf placed) (e1 : fQ Ψ = fQ Φ) (e2 : ∀ q, fS Ψ q = fS Φ q) (e3 : ∀ q p, fC Ψ q p = if q = fQ Φ - 1 ∧ p = l + 1 then v else fC Φ q p) : PMp Ψ (l + 1) sizeOf (upd placed (8 * (fQ Φ - 1) + (l + 1) - 1).toNat (zI v)) := by
  have s8 := hw.2.1 (fQ Φ - 1) (by omega) (by omega)
  have l0 := hw.1.2.2.2.1
  refine ⟨fun q h0 h1 => ?_, fun q p h0 h1 p0 p1 p2 => ?_⟩
  · rw [e1] at h1
    rw [e2]
    exact h.1 q h0 h1
  · rw [e1] at h1 p2
    rw [e2] at p1
    have sq := hw.2.1 q h0 h1
    rw [plc_up _ (fQ Φ) l q p hQ l0 (by omega) h0 p0 (by omega), e3]
    by_cases c : q = fQ Φ - 1 ∧ p = l + 1
    · rw [if_pos c, if_pos c]
    · rw [if_neg c, if_neg c]
      exact h.2 q p h0 h1 p0 p1 (fun w => by have := p2 w; omega)
theorem asks_zH {n : Int} {κ : Int → Int} {μ : Int → Int → Int} {j : Int} {many kk mm : NF} (hw : RwW n κ μ) (hm : RwM n κ μ j many kk mm) (hj : 0 ≤ j) (hj2 : j < 6) (a0 a1 : Int32) (hangs cancels : NF) : ∃ hg' cn' b0 b1, F_X8_asks many kk a0 a1 hangs cancels (zI j) = some (b0, b1, hg', cn') ∧ ∀ h, 0 ≤ h → h < hcn κ n.toNat → hg' h.toNat = zI (30 * j + ixh κ n h) := by
  obtain ⟨hg', cn', r1, r2⟩ := asks_b12_z hw hm hj hj2 n.toNat FU 0 hangs cancels (by have := hw.1; omega) (by have := hw.2.1; unfold FU; omega) (fun k hk => by omega)
  refine ⟨hg', cn', _, _, r1, fun h h0 h1 => ?_⟩
  obtain ⟨i0, i1, i2, i3⟩ := ixh_b κ n h hw.1 h0 h1
  have hg : Hg (κ ((ixh κ n h).toNat : Int)) := by rw [Int.toNat_of_nonneg i0]; exact i2
  have := (r2 (ixh κ n h).toNat (by omega) hg).1
  rw [i3] at this
  rw [this, Int.toNat_of_nonneg i0]

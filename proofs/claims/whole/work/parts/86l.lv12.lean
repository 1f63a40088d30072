theorem spo_iff {p P y : Int} (h0 : 0 ≤ p) (h1 : 0 ≤ P) (h2 : 0 ≤ y) : (spo p P = -1 ∨ spo p P = y) ↔ (P = 0 ∨ p = 0 ∨ p = P + 2 * y) := by
  unfold spo
  by_cases c : p ≤ 0 ∨ P ≤ 0
  · rw [if_pos c]; omega
  · rw [if_neg c]
    by_cases c2 : p - P < 0
    · rw [if_pos c2]; omega
    · rw [if_neg c2]
      by_cases c3 : (p - P) % 2 = 0
      · rw [if_pos c3]; omega
      · rw [if_neg c3]; omega
theorem tog_iff {a b y : Int} (h2 : 0 ≤ y) : (tog a b = -1 ∨ tog a b = y) ↔ ((a = -1 ∨ a = y) ∧ (b = -1 ∨ b = y)) := by
  unfold tog
  by_cases c : a = -1
  · rw [if_pos c]; omega
  · rw [if_neg c]
    by_cases c2 : a = b
    · rw [if_pos c2]; omega
    · rw [if_neg c2]
      by_cases c3 : b = -1
      · rw [if_pos c3]; omega
      · rw [if_neg c3]; omega
theorem page_iff {Λ : Book} (hB : BkW Λ) (x h y : Int) (h0 : 0 ≤ h) (h1 : h < bkH Λ) (hy : 0 ≤ y) : (bkO Λ = 0 ∨ ((bkM Λ 2 h = 0 ∨ bkM Λ 2 h = bkO Λ + 2 * y) ∧ (x = 0 ∨ bkX Λ h = 0 ∨ bkP Λ h = 0 ∨ bkP Λ h = bkO Λ + 2 * y))) ↔ (bsp Λ (see Λ x h) h = -1 ∨ bsp Λ (see Λ x h) h = y) := by
  obtain ⟨_, _, _, _, _, _, _, _, o0, _, hk⟩ := hB
  obtain ⟨m, hx⟩ := hk h h0 h1
  have m2 := m 2 (by omega)
  have s1 := spo_iff (p := bkM Λ 2 h) (P := bkO Λ) m2.1 o0 hy
  unfold bsp see
  by_cases c : x = 0
  · rw [if_pos c, if_pos rfl, s1]; omega
  · rw [if_neg c]
    rcases hx with e | ⟨e, p0, _⟩
    · rw [e, if_pos rfl, s1]; omega
    · have s2 := spo_iff (p := bkP Λ h) (P := bkO Λ) p0 o0 hy
      rw [e, if_neg (by omega), tog_iff hy, s1, s2]; omega

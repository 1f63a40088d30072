theorem spo_iff {p P y : Int} (h0 : 0 ≤ p) (h1 : 0 ≤ P) (h2 : 0 ≤ y) : (spo p P = -1 ∨ spo p P = y) ↔ (P = 0 ∨ p = 0 ∨ p = P + 2 * y) := by
  unfold spo
  by_cases c : p ≤ 0 ∨ P ≤ 0
  · rw [if_pos c]; omega
  · rw [if_neg c]
    by_cases c2 : p - P < 0
    · rw [if_pos c2]; omega
    · rw [if_neg c2]
      by_cases c3 : (p - P) % 2 = 0
      · rw [if_pos c3]; omega
      · rw [if_neg c3]; omega
theorem tog_iff {a b y : Int} (h2 : 0 ≤ y) : (tog a b = -1 ∨ tog a b = y) ↔ ((a = -1 ∨ a = y) ∧ (b = -1 ∨ b = y)) := by
  unfold tog
  by_cases c : a = -1
  · rw [if_pos c]; omega
  · rw [if_neg c]
    by_cases c2 : a = b
    · rw [if_pos c2]; omega
    · rw [if_neg c2]
      by_cases c3 : b = -1
      · rw [if_pos c3]; omega
      · rw [if_neg c3]; omega

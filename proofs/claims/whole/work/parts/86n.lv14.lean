/-- how many places the leaves at the first p places want ahead of the quire -/
def ahc (σ : Int → Int) (t : Int) (k s : Nat) : Nat → Int
  | 0 => -1
  | p + 1 => if Gh k s ((p + 1 : Nat) : Int) then ahc σ t k s p else tog (ahc σ t k s p) (abh (σ (t + thg k s p)) ((p + 1 : Nat) : Int))
/-- the place p lays in itself: the first leaf t, s places, the mask k -/
def LyP (Λ : Book) (σ τ : Int → Int) (t : Int) (s k p : Nat) : Prop := (Gh k s p → (p : Int) - thg k s p ≤ 4) ∧ (¬ Gh k s p → t + thg k s (p - 1) < bkH Λ ∧ (bkM Λ 1 (t + thg k s (p - 1)) = 0 ∨ (bkM Λ 1 (t + thg k s (p - 1)) = p ∧ (p : Int) ≤ bkG Λ)) ∧ ahc σ t k s p ≠ -2 ∧ (1 < p → ¬ Gh k s ((p - 1 : Nat) : Int) → τ (t + thg k s (p - 1)) ≠ 2) ∧ (s + 1 - p < p → ¬ Gh k s ((s + 1 - p : Nat) : Int) → Han Λ (t + thg k s (p - 1)) (t + thg k s (s - p))))
theorem thg_t {k s p : Nat} (h : 1 ≤ p) (g : ¬ Gh k s p) : thg k s p = thg k s (p - 1) + 1 := by
  obtain ⟨p', rfl⟩ : ∃ p', p = p' + 1 := ⟨p - 1, by omega⟩
  rw [thg, if_neg g]
  rfl
theorem thg_g {k s p : Nat} (h : 1 ≤ p) (g : Gh k s p) : thg k s p = thg k s (p - 1) := by
  obtain ⟨p', rfl⟩ : ∃ p', p = p' + 1 := ⟨p - 1, by omega⟩
  rw [thg, if_pos g]
  exact Int.add_zero _
theorem thg_l (k s p : Nat) : ∀ d : Nat, thg k s (p + d) ≤ thg k s p + d
  | 0 => by rw [Nat.add_zero]; omega
  | d + 1 => by
    have := thg_l k s p d
    rw [show p + (d + 1) = (p + d) + 1 by omega, thg]
    split <;> omega
theorem thg_le (k s : Nat) {p r : Nat} (h : p ≤ r) : thg k s p ≤ thg k s r ∧ thg k s r ≤ thg k s p + ((r - p : Nat) : Int) := by
  have h1 := thg_m k s p (r - p)
  have h2 := thg_l k s p (r - p)
  rw [show p + (r - p) = r by omega] at h1 h2
  exact ⟨h1, h2⟩
theorem gho_le {k s : Nat} : ∀ U : Nat, (∀ p : Nat, 1 ≤ p → p ≤ U → Gh k s p → (p : Int) - thg k s p ≤ 4) → (U : Int) - thg k s U ≤ 4
  | 0, _ => by have : thg k s 0 = 0 := rfl; omega
  | U + 1, h => by
    by_cases g : Gh k s ((U + 1 : Nat) : Int)
    · exact h (U + 1) (by omega) (by omega) g
    · have e := thg_t (p := U + 1) (by omega) g
      have := gho_le U (fun p p1 p2 => h p p1 (by omega))
      rw [show U + 1 - 1 = U by omega] at e
      omega
theorem thg_sur {k s : Nat} : ∀ (U : Nat) (i : Int), 0 ≤ i → i < thg k s U → ∃ p : Nat, 1 ≤ p ∧ p ≤ U ∧ ¬ Gh k s p ∧ thg k s (p - 1) = i
  | 0, i, h0, h1 => by have : thg k s 0 = 0 := rfl; omega
  | U + 1, i, h0, h1 => by
    by_cases c : i < thg k s U
    · obtain ⟨p, p1, p2, p3⟩ := thg_sur U i h0 c
      exact ⟨p, p1, by omega, p3⟩
    · by_cases g : Gh k s ((U + 1 : Nat) : Int)
      · have e := thg_g (p := U + 1) (by omega) g
        rw [show U + 1 - 1 = U by omega] at e
        omega
      · have e := thg_t (p := U + 1) (by omega) g
        rw [show U + 1 - 1 = U by omega] at e
        exact ⟨U + 1, by omega, by omega, g, by rw [show U + 1 - 1 = U by omega]; omega⟩
theorem ahc_iff {σ : Int → Int} {t a : Int} {k s : Nat} (a0 : 0 ≤ a) : ∀ U : Nat, (ahc σ t k s U = -1 ∨ ahc σ t k s U = a) ↔ ∀ p : Nat, 1 ≤ p → p ≤ U → ¬ Gh k s p → (abh (σ (t + thg k s (p - 1))) p = -1 ∨ abh (σ (t + thg k s (p - 1))) p = a)
  | 0 => ⟨fun _ p p1 p2 => by omega, fun _ => Or.inl rfl⟩
  | U + 1 => by
    have ih := ahc_iff (σ := σ) (t := t) (k := k) (s := s) a0 U
    by_cases g : Gh k s ((U + 1 : Nat) : Int)
    · rw [ahc, if_pos g, ih]
      constructor
      · intro w p p1 p2 p3
        by_cases e : p = U + 1
        · subst e; exact absurd g p3
        · exact w p p1 (by omega) p3
      · intro w p p1 p2 p3
        exact w p p1 (by omega) p3
    · rw [ahc, if_neg g, tog_iff a0, ih]
      constructor
      · intro w p p1 p2 p3
        by_cases e : p = U + 1
        · subst e; exact w.2
        · exact w.1 p p1 (by omega) p3
      · intro w
        exact ⟨fun p p1 p2 p3 => w p p1 (by omega) p3, w (U + 1) (by omega) (Nat.le_refl _) g⟩
theorem ahc_dn {σ : Int → Int} {t a : Int} {k s U : Nat} (a0 : 0 ≤ a) (h : ahc σ t k s U = -1 ∨ ahc σ t k s U = a) (p : Nat) (hp : p ≤ U) : ahc σ t k s p ≠ -2 := by
  have := (ahc_iff a0 p).mpr (fun r r1 r2 r3 => (ahc_iff a0 U).mp h r r1 (by omega) r3)
  omega
theorem abh_iff {S p a : Int} (a0 : 0 ≤ a) (a1 : a ≤ 56) (ae : a % 2 = 0) (p1 : 1 ≤ p) (hS : -2 ≤ S) : (abh S p = -1 ∨ abh S p = a) ↔ (S = -1 ∨ S = a + p - 1) := by
  unfold abh
  by_cases c1 : S = -1
  · rw [if_pos c1]; omega
  · rw [if_neg c1]
    by_cases c2 : S - (p - 1) < 0
    · rw [if_pos c2]; omega
    · rw [if_neg c2]
      by_cases c3 : 56 < S - (p - 1)
      · rw [if_pos c3]; omega
      · rw [if_neg c3]
        by_cases c4 : (S - (p - 1)) % 2 = 0
        · rw [if_pos c4]; omega
        · rw [if_neg c4]; omega
theorem abh_b {S p : Int} (h : -2 ≤ S ∧ S ≤ 9999) (p1 : 1 ≤ p) : -2 ≤ abh S p ∧ abh S p ≤ 9999 := by
  unfold abh
  by_cases c1 : S = -1
  · rw [if_pos c1]; omega
  · rw [if_neg c1]
    by_cases c2 : S - (p - 1) < 0
    · rw [if_pos c2]; omega
    · rw [if_neg c2]
      by_cases c3 : 56 < S - (p - 1)
      · rw [if_pos c3]; omega
      · rw [if_neg c3]
        by_cases c4 : (S - (p - 1)) % 2 = 0
        · rw [if_pos c4]; omega
        · rw [if_neg c4]; omega
theorem bsp_b {Λ : Book} (hB : BkW Λ) (x h : Int) (h0 : 0 ≤ h) (h1 : h < bkH Λ) : -2 ≤ bsp Λ (see Λ x h) h ∧ bsp Λ (see Λ x h) h ≤ 9999 := by
  obtain ⟨_, _, _, _, _, _, _, _, _, _, hk⟩ := hB
  obtain ⟨m, hx⟩ := hk h h0 h1
  have m2 := m 2 (by omega)
  have s1 := spo_b (P := bkO Λ) m2.2
  unfold bsp
  by_cases c : see Λ x h = 0
  · rw [if_pos c]; exact s1
  · rw [if_neg c]
    have e : bkX Λ h ≠ 0 := by
      intro e; apply c; unfold see; rw [e]; split <;> rfl
    rcases hx with e2 | ⟨_, p0, p1, _⟩
    · exact absurd e2 e
    · exact tog_b s1 (spo_b p1)
section AL
variable {Λ : Book} {σ τ : Int → Int} {q t a last c f : Int} {s U k : Nat}
theorem AgLy1 (hB : BkW Λ) (t0 : 0 ≤ t) (a0 : 0 ≤ a) (a1 : a ≤ 56) (ae : a % 2 = 0) (hU : 1 ≤ U) (hUs : U ≤ s) (hσ : ∀ h, t ≤ h → h < bkH Λ → σ h = bsp Λ (see Λ (sen c f h) h) h ∧ τ h = bti Λ (see Λ (sen c f h) h) h) (h1 : (U : Int) - thg k s U ≤ 4) (h2 : t + thg k s U ≤ bkH Λ) (h3 : ∀ p : Nat, 1 ≤ p → p ≤ U → AgP Λ q t a last s s k c f p) : (∀ p : Nat, 1 ≤ p → p ≤ U → LyP Λ σ τ t s k p) ∧ (ahc σ t k s U = -1 ∨ ahc σ t k s U = a) ∧ Rch Λ t q (thg k s U) ∧ (last ≠ 0 → ¬ Gh k s ((1 : Nat) : Int) → τ t ≠ 2) := by
  have hlt (p : Nat) (p1 : 1 ≤ p) (p2 : p ≤ U) (g : ¬ Gh k s p) : t ≤ t + thg k s (p - 1) ∧ t + thg k s (p - 1) < bkH Λ := by
    have e := thg_t p1 g
    have e2 := (thg_le k s p2).1
    have e3 := thg_b k s (p - 1)
    omega
  have hah : ahc σ t k s U = -1 ∨ ahc σ t k s U = a := by
    refine (ahc_iff a0 U).mpr (fun p p1 p2 g => ?_)
    obtain ⟨l1, l2⟩ := hlt p p1 p2 g
    have ag := (h3 p p1 p2 g).1.2.2
    rw [page_iff hB _ _ _ (by omega) l2 (by omega), ← (hσ _ l1 l2).1] at ag
    have sb := bsp_b hB (sen c f (t + thg k s (p - 1))) _ (by omega) l2
    rw [← (hσ _ l1 l2).1] at sb
    exact (abh_iff a0 a1 ae (by omega) sb.1).mpr ag
  refine ⟨fun p p1 p2 => ⟨fun g => ?_, fun g => ?_⟩, hah, fun i i0 i1 => ?_, fun l g => ?_⟩
  · have := (thg_le k s p2).2
    omega
  · obtain ⟨l1, l2⟩ := hlt p p1 p2 g
    obtain ⟨f1, f2, f3⟩ := h3 p p1 p2 g
    refine ⟨l2, f1.2.1, ahc_dn a0 hah p p2, fun w g' => ?_, fun w g' => Han_s.mp (f3 w g')⟩
    rw [(hσ _ l1 l2).2]
    refine f2 ?_
    unfold pvt
    rw [if_neg (by omega), if_neg g']
    omega
  · obtain ⟨p, p1, p2, g, e⟩ := thg_sur U i i0 i1
    rw [← e]
    exact ⟨(hlt p p1 p2 g).2, (h3 p p1 p2 g).1.1⟩
  · obtain ⟨l1, l2⟩ := hlt 1 (by omega) hU g
    have z : thg k s (1 - 1) = 0 := rfl
    have w := (h3 1 (by omega) hU g).2.1 (by unfold pvt; rw [if_pos rfl]; exact l)
    rw [z, Int.add_zero] at l1 l2 w
    rw [(hσ t l1 l2).2]
    exact w
theorem AgLy2 (hB : BkW Λ) (t0 : 0 ≤ t) (a0 : 0 ≤ a) (a1 : a ≤ 56) (ae : a % 2 = 0) (hUs : U ≤ s) (hσ : ∀ h, t ≤ h → h < bkH Λ → σ h = bsp Λ (see Λ (sen c f h) h) h ∧ τ h = bti Λ (see Λ (sen c f h) h) h) (h1 : ∀ p : Nat, 1 ≤ p → p ≤ U → LyP Λ σ τ t s k p) (h2 : ahc σ t k s U = -1 ∨ ahc σ t k s U = a) (h3 : Rch Λ t q (thg k s U)) (h4 : last ≠ 0 → ¬ Gh k s ((1 : Nat) : Int) → τ t ≠ 2) (h5 : t ≤ bkH Λ) : (U : Int) - thg k s U ≤ 4 ∧ t + thg k s U ≤ bkH Λ ∧ ∀ p : Nat, 1 ≤ p → p ≤ U → AgP Λ q t a last s s k c f p := by
  refine ⟨gho_le U (fun p p1 p2 => (h1 p p1 p2).1), ?_, fun p p1 p2 g => ?_⟩
  · have b := thg_b k s U
    by_cases z : thg k s U = 0
    · omega
    · have := (h3 (thg k s U - 1) (by omega) (by omega)).1
      omega
  · obtain ⟨l2, f2, f3, f4, f5⟩ := (h1 p p1 p2).2 g
    have e := thg_t p1 g
    have e2 := (thg_le k s p2).1
    have e3 := thg_b k s (p - 1)
    have l1 : t ≤ t + thg k s (p - 1) := by omega
    have sb := bsp_b hB (sen c f (t + thg k s (p - 1))) _ (by omega) l2
    have pg := (ahc_iff a0 U).mp h2 p p1 p2 g
    rw [← (hσ _ l1 l2).1] at sb
    rw [abh_iff a0 a1 ae (by omega) sb.1, (hσ _ l1 l2).1] at pg
    refine ⟨⟨(h3 _ (by omega) (by omega)).2, f2, (page_iff hB _ _ _ (by omega) l2 (by omega)).mpr pg⟩, fun w => ?_, fun w g' => Han_s.mp (f5 w g')⟩
    rw [← (hσ _ l1 l2).2]
    by_cases o : p = 1
    · subst o
      have z : thg k s (1 - 1) = 0 := rfl
      rw [z, Int.add_zero]
      refine h4 ?_ g
      intro l
      apply w
      unfold pvt
      rw [if_pos rfl]
      exact l
    · refine f4 (by omega) (fun g' => w ?_)
      unfold pvt
      rw [if_neg (by omega), if_pos g']
end AL

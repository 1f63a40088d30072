/-- the lays of s places from the mask K on that are taken -/
def lsm (G : Nat → Nat → Bool) (s : Nat) : Nat → Nat → List (Nat × Nat)
  | 0, _ => []
  | d + 1, K => if G s K = true then (s, K) :: lsm G s d (K + 1) else lsm G s d (K + 1)
/-- all lays that are taken, in their order, from the mask K of 8 - 2 j places on -/
def lst (G : Nat → Nat → Bool) : Nat → Nat → List (Nat × Nat)
  | 0, K => lsm G 8 (2 ^ 8 - K) K
  | j + 1, K => lsm G (8 - 2 * (j + 1)) (2 ^ (8 - 2 * (j + 1)) - K) K ++ lst G j 0
def rst (G : Nat → Nat → Bool) (S K : Nat) : List (Nat × Nat) := if S = 10 then [] else lst G ((8 - S) / 2) K
theorem lsm_no {G : Nat → Nat → Bool} {s : Nat} : ∀ (d K : Nat), (∀ k, K ≤ k → k < K + d → ¬ G s k = true) → lsm G s d K = []
  | 0, K, _ => rfl
  | d + 1, K, h => by rw [lsm, if_neg (h K (Nat.le_refl _) (by omega)), lsm_no d (K + 1) (fun k k1 k2 => h k (by omega) (by omega))]
theorem lsm_at {G : Nat → Nat → Bool} {s k : Nat} (g : G s k = true) : ∀ (d K : Nat), K ≤ k → k < K + d → (∀ k2, K ≤ k2 → k2 < k → ¬ G s k2 = true) → lsm G s d K = (s, k) :: lsm G s (K + d - (k + 1)) (k + 1)
  | 0, K, h1, h2, _ => by omega
  | d + 1, K, h1, h2, h => by
    by_cases e : K = k
    · subst e
      rw [lsm, if_pos g, show K + (d + 1) - (K + 1) = d by omega]
    · rw [lsm, if_neg (h K (Nat.le_refl _) (by omega)), lsm_at g d (K + 1) (by omega) (by omega) (fun k2 x y => h k2 (by omega) y), show K + 1 + d - (k + 1) = K + (d + 1) - (k + 1) by omega]
theorem lst_no {G : Nat → Nat → Bool} : ∀ (j K : Nat), K ≤ 2 ^ (8 - 2 * j) → j ≤ 3 → (∀ s k, Lex (8 - 2 * j) K s k → k < 2 ^ s → (s = 2 ∨ s = 4 ∨ s = 6 ∨ s = 8) → ¬ G s k = true) → lst G j K = []
  | 0, K, hK, hj, h => by
    have e : 8 - 2 * 0 = 8 := rfl
    rw [e] at hK h
    rw [lst]
    exact lsm_no _ _ (fun k k1 k2 => h 8 k (Or.inr ⟨rfl, k1⟩) (by omega) (by omega))
  | j + 1, K, hK, hj, h => by
    have p : (2 : Nat) ^ (8 - 2 * (j + 1)) = 2 ^ (8 - 2 * (j + 1)) := rfl
    rw [lst, lsm_no _ _ (fun k k1 k2 => h (8 - 2 * (j + 1)) k (Or.inr ⟨rfl, k1⟩) (by omega) (by omega)), List.nil_append]
    refine lst_no j 0 (Nat.zero_le _) (by omega) (fun s k x => h s k ?_)
    rcases x with x | x
    · exact Or.inl (by omega)
    · exact Or.inl (by omega)
theorem lst_at {G : Nat → Nat → Bool} {s k : Nat} (g : G s k = true) (hs : s = 2 ∨ s = 4 ∨ s = 6 ∨ s = 8) (hk : k < 2 ^ s) : ∀ (j K : Nat), K ≤ 2 ^ (8 - 2 * j) → j ≤ 3 → Lex (8 - 2 * j) K s k → (∀ s2 k2, Lex (8 - 2 * j) K s2 k2 → k2 < 2 ^ s2 → (s2 = 2 ∨ s2 = 4 ∨ s2 = 6 ∨ s2 = 8) → G s2 k2 = true → Lex s k s2 k2) → lst G j K = (s, k) :: lst G ((8 - s) / 2) (k + 1)
  | 0, K, hK, hj, hx, h => by
    have e : 8 - 2 * 0 = 8 := rfl
    rw [e] at hK hx h
    have es : s = 8 := by rcases hx with x | x <;> omega
    subst es
    have hKk : K ≤ k := by rcases hx with x | x <;> omega
    rw [lst, lsm_at g _ _ hKk (by omega) (fun k2 x y w => by
      have := h 8 k2 (Or.inr ⟨rfl, x⟩) (by omega) (by omega) w
      rcases this with z | z <;> omega)]
    rw [show (8 - 8) / 2 = 0 by omega, lst, show K + (2 ^ 8 - K) - (k + 1) = 2 ^ 8 - (k + 1) by omega]
  | j + 1, K, hK, hj, hx, h => by
    by_cases es : s = 8 - 2 * (j + 1)
    · have hKk : K ≤ k := by rcases hx with x | x <;> omega
      have ej : (8 - s) / 2 = j + 1 := by omega
      subst es
      rw [ej, lst, lsm_at g _ _ hKk (by omega) (fun k2 x y w => by
        have := h _ k2 (Or.inr ⟨rfl, x⟩) (by omega) (by omega) w
        rcases this with z | z <;> omega), lst, List.cons_append]
      rw [show K + (2 ^ (8 - 2 * (j + 1)) - K) - (k + 1) = 2 ^ (8 - 2 * (j + 1)) - (k + 1) by omega]
    · have hlt : 8 - 2 * (j + 1) < s := by rcases hx with x | x <;> omega
      rw [lst, lsm_no _ _ (fun k2 k1 k3 w => by
        have := h (8 - 2 * (j + 1)) k2 (Or.inr ⟨rfl, k1⟩) (by omega) (by omega) w
        rcases this with z | z <;> omega), List.nil_append]
      refine lst_at g hs hk j 0 (Nat.zero_le _) (by omega) ?_ (fun s2 k2 x => h s2 k2 ?_)
      · by_cases w : 8 - 2 * j = s
        · exact Or.inr ⟨w, Nat.zero_le _⟩
        · exact Or.inl (by omega)
      · rcases x with x | x
        · exact Or.inl (by omega)
        · exact Or.inl (by omega)
theorem lsm_mem {G : Nat → Nat → Bool} {s : Nat} : ∀ (d K : Nat) (x : Nat × Nat), x ∈ lsm G s d K ↔ (x.1 = s ∧ K ≤ x.2 ∧ x.2 < K + d ∧ G x.1 x.2 = true)
  | 0, K, x => by
    rw [lsm]
    exact ⟨fun h => absurd h (List.not_mem_nil), fun h => by omega⟩
  | d + 1, K, x => by
    have ih := lsm_mem (G := G) (s := s) d (K + 1) x
    rw [lsm]
    by_cases g : G s K = true
    · rw [if_pos g, List.mem_cons, ih]
      constructor
      · rintro (e | e)
        · subst e; exact ⟨rfl, Nat.le_refl _, by show K < K + (d + 1); omega, g⟩
        · exact ⟨e.1, by omega, by omega, e.2.2.2⟩
      · rintro ⟨e1, e2, e3, e4⟩
        by_cases c : x.2 = K
        · exact Or.inl (Prod.ext e1 c)
        · exact Or.inr ⟨e1, by omega, by omega, e4⟩
    · rw [if_neg g, ih]
      constructor
      · rintro ⟨e1, e2, e3, e4⟩
        exact ⟨e1, by omega, by omega, e4⟩
      · rintro ⟨e1, e2, e3, e4⟩
        by_cases c : x.2 = K
        · rw [e1, c] at e4; exact absurd e4 g
        · exact ⟨e1, by omega, by omega, e4⟩
theorem lst_mem {G : Nat → Nat → Bool} : ∀ (j : Nat) (x : Nat × Nat), j ≤ 3 → (x ∈ lst G j 0 ↔ ((x.1 = 2 ∨ x.1 = 4 ∨ x.1 = 6 ∨ x.1 = 8) ∧ 8 - 2 * j ≤ x.1 ∧ x.2 < 2 ^ x.1 ∧ G x.1 x.2 = true))
  | 0, x, _ => by
    rw [lst, lsm_mem]
    constructor
    · rintro ⟨e1, e2, e3, e4⟩
      exact ⟨by omega, by omega, by rw [e1]; omega, e4⟩
    · rintro ⟨e1, e2, e3, e4⟩
      have e : x.1 = 8 := by omega
      rw [e] at e3
      exact ⟨e, by omega, by omega, e4⟩
  | j + 1, x, hj => by
    rw [lst, List.mem_append, lsm_mem, lst_mem j x (by omega)]
    constructor
    · rintro (⟨e1, e2, e3, e4⟩ | ⟨e1, e2, e3, e4⟩)
      · exact ⟨by omega, by omega, by rw [e1]; omega, e4⟩
      · exact ⟨e1, by omega, e3, e4⟩
    · rintro ⟨e1, e2, e3, e4⟩
      by_cases c : x.1 = 8 - 2 * (j + 1)
      · rw [c] at e3
        exact Or.inl ⟨c, by omega, by omega, e4⟩
      · exact Or.inr ⟨e1, by omega, e3, e4⟩
theorem lsm_fil {G F : Nat → Nat → Bool} {s : Nat} : ∀ (d K : Nat), lsm (fun s k => G s k && F s k) s d K = (lsm G s d K).filter (fun x => F x.1 x.2)
  | 0, K => rfl
  | d + 1, K => by
    have ih := lsm_fil (G := G) (F := F) (s := s) d (K + 1)
    unfold lsm
    cases g : G s K
    · cases f : F s K
      · exact ih
      · exact ih
    · cases f : F s K
      · show lsm _ _ _ _ = List.filter _ ((s, K) :: lsm G s d (K + 1))
        rw [List.filter_cons_of_neg (by rw [f]; decide)]
        exact ih
      · show (s, K) :: lsm _ _ _ _ = List.filter _ ((s, K) :: lsm G s d (K + 1))
        rw [List.filter_cons_of_pos (by exact f), ih]
theorem lst_fil {G F : Nat → Nat → Bool} : ∀ (j K : Nat), lst (fun s k => G s k && F s k) j K = (lst G j K).filter (fun x => F x.1 x.2)
  | 0, K => by unfold lst; exact lsm_fil _ _
  | j + 1, K => by
    unfold lst
    rw [List.filter_append, lsm_fil, lst_fil j 0]
theorem lsm_cg {G F : Nat → Nat → Bool} {s : Nat} : ∀ (d K : Nat), (∀ k, K ≤ k → k < K + d → G s k = F s k) → lsm G s d K = lsm F s d K
  | 0, K, _ => rfl
  | d + 1, K, h => by
    unfold lsm
    rw [h K (Nat.le_refl _) (by omega), lsm_cg d (K + 1) (fun k k1 k2 => h k (by omega) (by omega))]
theorem lst_cg {G F : Nat → Nat → Bool} : ∀ (j K : Nat), j ≤ 3 → K ≤ 2 ^ (8 - 2 * j) → (∀ s k, (s = 2 ∨ s = 4 ∨ s = 6 ∨ s = 8) → k < 2 ^ s → G s k = F s k) → lst G j K = lst F j K
  | 0, K, _, hK, h => by
    have e : 8 - 2 * 0 = 8 := rfl
    rw [e] at hK
    unfold lst
    exact lsm_cg _ _ (fun k k1 k2 => h 8 k (by omega) (by omega))
  | j + 1, K, hj, hK, h => by
    unfold lst
    rw [lsm_cg _ _ (fun k k1 k2 => h (8 - 2 * (j + 1)) k (by omega) (by omega)), lst_cg j 0 (by omega) (Nat.zero_le _) h]
section AV
variable {Λ : Book} {σ τ : Int → Int} {numbers spots waters sides ties : NF} {t : Int}
/-- the lays from the leaf t on that agree in themselves -/
noncomputable def gdC (Λ : Book) (σ τ : Int → Int) (t : Int) (s k : Nat) : Bool := bq (Sb Λ σ τ t (-1) s k)
theorem Su_w {s k p : Nat} (h : Su Λ σ τ t (-1) s k p) : p = s ∧ 1 ≤ thg k s s ∧ LyA Λ σ τ t s k s := by
  obtain ⟨a, b, c, d⟩ := h
  rcases d with ⟨_, e, f⟩ | ⟨e, _⟩
  · subst e; exact ⟨rfl, f, c⟩
  · exact absurd rfl e
theorem advance_z (hB : BkW Λ) (hT : TbC Λ σ τ numbers spots waters sides ties) (t0 : 0 ≤ t) (t1 : t ≤ 30) (S K : Nat) (seats nexts aheads : NF) (a b c d e : Int32) (hI : AdI Λ σ τ t (-1) S K seats nexts aheads) : (∃ s k se ne ah, rst (gdC Λ σ τ t) S K = (s, k) :: rst (gdC Λ σ τ t) s (k + 1) ∧ F_X1_advance (zI (bkH Λ)) numbers spots waters sides ties (zI (bkZ Λ)) (zI (bkG Λ)) (zI t) (-1) (zI S) (nI K) seats nexts aheads a b c d e = some (true, zI s, nI (k + 1), se, ne, ah, zI s, nI k, zI (thg k s s), zI ((s : Int) - thg k s s), zI (ahc σ t k s s)) ∧ AdI Λ σ τ t (-1) s (k + 1) se ne ah ∧ Sb Λ σ τ t (-1) s k) ∨ (rst (gdC Λ σ τ t) S K = [] ∧ ∃ S' K' se ne ah a' b' c' d' e', F_X1_advance (zI (bkH Λ)) numbers spots waters sides ties (zI (bkZ Λ)) (zI (bkG Λ)) (zI t) (-1) (zI S) (nI K) seats nexts aheads a b c d e = some (false, zI S', nI K', se, ne, ah, a', b', c', d', e')) := by
  have hS := hI.2.2.1
  have hK := hI.2.2.2.1
  have hn : amv S K ≤ 344 := amv_b hS
  obtain ⟨S', K', se, ne, ah, r1, r2⟩ := advance_b2_z (last := -1) hB hT t0 t1 (by omega) (by omega) (Or.inl rfl) 344 FU S K seats nexts aheads a b c d e 0 0 hn (by unfold FU; omega) (by omega) rfl hI
  rcases r2 with ⟨s, k, th, gh, ap, q1, q2, q3, q4, p, q5, q6, q7, q8, q9, q10, q11⟩ | ⟨⟨a', b', c', d', e', q1⟩, q2⟩
  · obtain ⟨w1, w2, w3⟩ := Su_w q5
    subst w1
    subst q4
    rw [Nat.sub_self, Nat.pow_zero] at q6
    subst q6
    refine Or.inl ⟨_, k, se, ne, ah, ?_, ?_, r1, q3⟩
    · have sN : S ≠ 10 := by intro x; have := q3.1; rcases q2 with y | y <;> omega
      have sN' : S' ≠ 10 := by have := q3.1; omega
      unfold rst
      rw [if_neg sN, if_neg sN']
      have eS : 8 - 2 * ((8 - S) / 2) = S := by omega
      refine lst_at (bq_t q3) q3.1 q3.2.1 ((8 - S) / 2) K (by rw [eS]; exact hK) (by omega) (by rw [eS]; exact q2) (fun s2 k2 x _ _ y => ?_)
      rw [eS] at x
      exact q11 s2 k2 x (bq_iff.mp y)
    · rw [q8, q9, q10] at q1
      exact q1
  · refine Or.inr ⟨?_, S', K', se, ne, ah, a', b', c', d', e', q1⟩
    unfold rst
    by_cases x : S = 10
    · rw [if_pos x]
    · rw [if_neg x]
      have eS : 8 - 2 * ((8 - S) / 2) = S := by omega
      refine lst_no _ _ (by rw [eS]; exact hK) (by omega) (fun s k y _ _ z => ?_)
      rw [eS] at y
      exact q2 s k y (bq_iff.mp z)
end AV

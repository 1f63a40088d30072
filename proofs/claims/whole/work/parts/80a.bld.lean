/-! a folding that is being built -/
def bQ (Φ : Fold) (s : Int) : Fold := fun n a b => if n = 0 then fQ Φ + 1 else if n = 5 ∧ a = fQ Φ then s else Φ n a b
def bG (Φ : Fold) (l : Int) : Fold := fun n a b => if n = 2 then fG Φ + 1 else if n = 6 ∧ a = fQ Φ - 1 ∧ b = l + 1 then -2 else Φ n a b
def bT (Φ : Fold) (k : Int) : Fold := fun n a b => if n = 1 then fT Φ + 1 else if n = 7 ∧ a = fT Φ then k else Φ n a b
def bL (Φ : Fold) (l k w : Int) : Fold := fun n a b => if n = 1 then fT Φ + 1 else if n = 6 ∧ a = fQ Φ - 1 ∧ b = l + 1 then fT Φ else if n = 7 ∧ a = fT Φ then k else if n = 8 ∧ a = fT Φ then w else if n = 9 ∧ a = fT Φ then fQ Φ - 1 else if n = 10 ∧ a = fT Φ then l + 1 else Φ n a b
def b0 (L P : Int) : Fold := fun n _ _ => if n = 3 then L else if n = 4 then P else 0
def bLet (Φ : Fold) (L : Int) : Fold := fun n a b => if n = 3 then L else Φ n a b
theorem bQ_S (Φ : Fold) (s q : Int) : fS (bQ Φ s) q = if q = fQ Φ then s else fS Φ q := by
  unfold fS bQ
  by_cases h : q = fQ Φ
  · rw [if_pos h, if_neg (by decide), if_pos ⟨rfl, h⟩]
  · rw [if_neg h, if_neg (by decide), if_neg (fun c => h c.2)]
theorem bG_C (Φ : Fold) (l q p : Int) : fC (bG Φ l) q p = if q = fQ Φ - 1 ∧ p = l + 1 then -2 else fC Φ q p := by
  unfold fC bG
  by_cases h : q = fQ Φ - 1 ∧ p = l + 1
  · rw [if_pos h, if_neg (by decide), if_pos ⟨rfl, h⟩]
  · rw [if_neg h, if_neg (by decide), if_neg (fun c => h c.2)]
theorem bT_K (Φ : Fold) (k i : Int) : fK (bT Φ k) i = if i = fT Φ then k else fK Φ i := by
  unfold fK bT
  by_cases h : i = fT Φ
  · rw [if_pos h, if_neg (by decide), if_pos ⟨rfl, h⟩]
  · rw [if_neg h, if_neg (by decide), if_neg (fun c => h c.2)]
theorem bL_C (Φ : Fold) (l k w q p : Int) : fC (bL Φ l k w) q p = if q = fQ Φ - 1 ∧ p = l + 1 then fT Φ else fC Φ q p := by
  unfold fC bL
  by_cases h : q = fQ Φ - 1 ∧ p = l + 1
  · rw [if_pos h, if_neg (by decide), if_pos ⟨rfl, h⟩]
  · rw [if_neg h, if_neg (by decide), if_neg (fun c => h c.2)]
    simp
theorem bL_K (Φ : Fold) (l k w i : Int) : fK (bL Φ l k w) i = if i = fT Φ then k else fK Φ i := by
  unfold fK bL
  by_cases h : i = fT Φ
  · simp [h]
  · simp [h]
theorem bL_W (Φ : Fold) (l k w i : Int) : fW (bL Φ l k w) i = if i = fT Φ then w else fW Φ i := by
  unfold fW bL
  by_cases h : i = fT Φ
  · simp [h]
  · simp [h]
theorem bL_qo (Φ : Fold) (l k w i : Int) : fqo (bL Φ l k w) i = if i = fT Φ then fQ Φ - 1 else fqo Φ i := by
  unfold fqo bL
  by_cases h : i = fT Φ
  · simp [h]
  · simp [h]
theorem bL_po (Φ : Fold) (l k w i : Int) : fpo (bL Φ l k w) i = if i = fT Φ then l + 1 else fpo Φ i := by
  unfold fpo bL
  by_cases h : i = fT Φ
  · simp [h]
  · simp [h]
theorem fgp_congr (Φ Ψ : Fold) (q : Int) : ∀ n : Nat, (∀ p, 1 ≤ p → p ≤ (n : Int) → fC Φ q p = fC Ψ q p) → fgp Φ q n = fgp Ψ q n
  | 0, _ => rfl
  | n + 1, h => by
    simp only [fgp]
    rw [fgp_congr Φ Ψ q n (fun p h1 h2 => h p h1 (by omega)), h (n + 1) (by omega) (by omega)]
theorem fgq_congr (Φ Ψ : Fold) : ∀ n : Nat, (∀ q, 0 ≤ q → q < (n : Int) → fS Φ q = fS Ψ q ∧ ∀ p, 1 ≤ p → p ≤ fS Ψ q → fC Φ q p = fC Ψ q p) → fgq Φ n = fgq Ψ n
  | 0, _ => rfl
  | n + 1, h => by
    simp only [fgq]
    have g := h n (by omega) (by omega)
    rw [fgq_congr Φ Ψ n (fun q h1 h2 => h q h1 (by omega)), g.1, fgp_congr Φ Ψ n (fS Ψ n).toNat (fun p h1 h2 => g.2 p h1 (by omega))]
def PW (Φ : Fold) (l : Int) : Prop :=
  (0 ≤ fQ Φ ∧ fQ Φ ≤ 8 ∧ 0 ≤ fT Φ ∧ 0 ≤ l ∧ (fQ Φ = 0 → l = 0) ∧ (0 < fQ Φ → l ≤ fS Φ (fQ Φ - 1))) ∧
  (∀ q, 0 ≤ q → q < fQ Φ → 2 ≤ fS Φ q ∧ fS Φ q ≤ 8 ∧ fS Φ q % 2 = 0) ∧
  (∀ q p, 0 ≤ q → q < fQ Φ → 1 ≤ p → p ≤ fS Φ q → (q = fQ Φ - 1 → p ≤ l) → fC Φ q p = -2 ∨ (0 ≤ fC Φ q p ∧ fC Φ q p < fT Φ ∧ Hg (fK Φ (fC Φ q p)) ∧ fqo Φ (fC Φ q p) = q ∧ fpo Φ (fC Φ q p) = p)) ∧
  (∀ i, 0 ≤ i → i < fT Φ → 1 ≤ fK Φ i ∧ fK Φ i ≤ 5 ∧ (Hg (fK Φ i) → 0 ≤ fqo Φ i ∧ fqo Φ i < fQ Φ ∧ 1 ≤ fpo Φ i ∧ fpo Φ i ≤ fS Φ (fqo Φ i) ∧ (fqo Φ i = fQ Φ - 1 → fpo Φ i ≤ l) ∧ fC Φ (fqo Φ i) (fpo Φ i) = i)) ∧
  (∀ i i', 0 ≤ i → i < i' → i' < fT Φ → Hg (fK Φ i) → Hg (fK Φ i') → 8 * fqo Φ i + fpo Φ i < 8 * fqo Φ i' + fpo Φ i') ∧
  fG Φ = fgq Φ (fQ Φ - 1).toNat + fgp Φ (fQ Φ - 1) l.toNat
theorem PW_end {Φ : Fold} {l : Int} (h : PW Φ l) (hl : l = fS Φ (fQ Φ - 1)) (hQ : 1 ≤ fQ Φ) (hT : fT Φ ≤ 30) (hP : 0 ≤ fP Φ ∧ fP Φ ≤ 999) (hL : 1 ≤ fL Φ ∧ fL Φ + fQ Φ ≤ 47) : FoldW Φ := by
  obtain ⟨h1, h2, h3, h4, h5, h6⟩ := h
  have h7 := h2 (fQ Φ - 1) (by omega) (by omega)
  refine ⟨by omega, h2, fun q p a b c d => h3 q p a b c d (fun e => by subst e; omega), fun i a b => ⟨(h4 i a b).1, (h4 i a b).2.1, fun c => ?_⟩, h5, ?_⟩
  · have := (h4 i a b).2.2 c
    exact ⟨this.1, this.2.1, this.2.2.1, this.2.2.2.1, this.2.2.2.2.2⟩
  · obtain ⟨n, hn⟩ : ∃ n : Nat, (fQ Φ).toNat = n + 1 := ⟨(fQ Φ).toNat - 1, by omega⟩
    rw [hn, h6, hl]
    simp only [fgq]
    rw [show (fQ Φ - 1).toNat = n by omega, show (n : Int) = fQ Φ - 1 by omega]
theorem PW_b0 (L P : Int) : PW (b0 L P) 0 := by
  have e0 : fQ (b0 L P) = 0 := rfl
  have e1 : fT (b0 L P) = 0 := rfl
  refine ⟨by omega, fun q a b => by omega, fun q p a b => by omega, fun i a b => by omega, fun i j a b c => by omega, rfl⟩
theorem PW_bQ {Φ : Fold} {l s : Int} (h : PW Φ l) (hl : 0 < fQ Φ → l = fS Φ (fQ Φ - 1)) (hQ : fQ Φ < 8) (hs : 2 ≤ s ∧ s ≤ 8 ∧ s % 2 = 0) : PW (bQ Φ s) 0 := by
  obtain ⟨h1, h2, h3, h4, h5, h6⟩ := h
  have e0 : fQ (bQ Φ s) = fQ Φ + 1 := rfl
  have e1 : fT (bQ Φ s) = fT Φ := rfl
  have e2 : fG (bQ Φ s) = fG Φ := rfl
  have eC (q p : Int) : fC (bQ Φ s) q p = fC Φ q p := rfl
  have eK (i : Int) : fK (bQ Φ s) i = fK Φ i := rfl
  have eq (i : Int) : fqo (bQ Φ s) i = fqo Φ i := rfl
  have ep (i : Int) : fpo (bQ Φ s) i = fpo Φ i := rfl
  refine ⟨?_, fun q a b => ?_, fun q p a b c d e => ?_, fun i a b => ?_, h5, ?_⟩
  · rw [e0, e1, bQ_S]
    refine ⟨by omega, by omega, by omega, by omega, by omega, fun _ => ?_⟩
    rw [if_pos (by omega)]
    omega
  · rw [bQ_S]
    by_cases e : q = fQ Φ
    · rw [if_pos e]; exact hs
    · rw [if_neg e]; exact h2 q a (by omega)
  · rw [bQ_S] at d
    have ne : ¬ q = fQ Φ := by intro c2; have := e (by omega); omega
    rw [if_neg ne] at d
    rw [e1, eC, eK, eq, ep]
    refine h3 q p a (by omega) c d (fun c2 => ?_)
    subst c2
    have := hl (by omega)
    omega
  · rw [e1] at b
    have g := h4 i a b
    rw [eK]
    refine ⟨g.1, g.2.1, fun c => ?_⟩
    have g2 := g.2.2 c
    rw [eq, ep, bQ_S, eC, if_neg (by omega)]
    refine ⟨g2.1, by omega, g2.2.2.1, g2.2.2.2.1, by omega, g2.2.2.2.2.2⟩
  · rw [e2, h6, e0, show fQ Φ + 1 - 1 = fQ Φ by omega]
    have c1 : fgq (bQ Φ s) (fQ Φ).toNat = fgq Φ (fQ Φ).toNat := fgq_congr _ _ _ (fun q a b => ⟨by rw [bQ_S, if_neg (by omega)], fun _ _ _ => rfl⟩)
    rw [c1]
    simp only [Int.toNat_zero, fgp, Int.add_zero]
    by_cases hz : fQ Φ = 0
    · rw [hz, h1.2.2.2.2.1 hz]
      rfl
    · obtain ⟨n, hn⟩ : ∃ n : Nat, (fQ Φ).toNat = n + 1 := ⟨(fQ Φ).toNat - 1, by omega⟩
      rw [hn, hl (by omega)]
      simp only [fgq]
      rw [show (fQ Φ - 1).toNat = n by omega, show (n : Int) = fQ Φ - 1 by omega]
theorem PW_bG {Φ : Fold} {l : Int} (h : PW Φ l) (hQ : 0 < fQ Φ) (hl : l < fS Φ (fQ Φ - 1)) : PW (bG Φ l) (l + 1) := by
  obtain ⟨h1, h2, h3, h4, h5, h6⟩ := h
  have e0 : fQ (bG Φ l) = fQ Φ := rfl
  have e1 : fT (bG Φ l) = fT Φ := rfl
  have e2 : fG (bG Φ l) = fG Φ + 1 := rfl
  have eS (q : Int) : fS (bG Φ l) q = fS Φ q := rfl
  have eK (i : Int) : fK (bG Φ l) i = fK Φ i := rfl
  have eq (i : Int) : fqo (bG Φ l) i = fqo Φ i := rfl
  have ep (i : Int) : fpo (bG Φ l) i = fpo Φ i := rfl
  refine ⟨?_, h2, fun q p a b c d e => ?_, fun i a b => ?_, h5, ?_⟩
  · rw [e0, e1, eS]
    omega
  · rw [bG_C, e1]
    rw [eS] at d
    rw [e0] at b e
    by_cases n : q = fQ Φ - 1 ∧ p = l + 1
    · rw [if_pos n]; exact Or.inl rfl
    · rw [if_neg n]
      exact h3 q p a b c d (fun c2 => by have := e c2; omega)
  · rw [e1] at b
    have g := h4 i a b
    rw [eK]
    refine ⟨g.1, g.2.1, fun c => ?_⟩
    have g2 := g.2.2 c
    rw [eq, ep, eS, e0, bG_C, if_neg (by omega)]
    exact ⟨g2.1, g2.2.1, g2.2.2.1, g2.2.2.2.1, by omega, g2.2.2.2.2.2⟩
  · have c1 : fgq (bG Φ l) (fQ Φ - 1).toNat = fgq Φ (fQ Φ - 1).toNat := fgq_congr _ _ _ (fun q a b => ⟨rfl, fun p _ _ => by rw [bG_C, if_neg (by omega)]⟩)
    have c2 : fgp (bG Φ l) (fQ Φ - 1) l.toNat = fgp Φ (fQ Φ - 1) l.toNat := fgp_congr _ _ _ _ (fun p a b => by rw [bG_C, if_neg (by omega)])
    rw [e2, h6, e0, c1, show (l + 1).toNat = l.toNat + 1 by omega]
    simp only [fgp]
    rw [c2, bG_C, if_pos (by omega)]
    omega
theorem PW_bT {Φ : Fold} {l k : Int} (h : PW Φ l) (hk : 1 ≤ k ∧ k ≤ 5) (hh : ¬ Hg k) : PW (bT Φ k) l := by
  obtain ⟨h1, h2, h3, h4, h5, h6⟩ := h
  have e1 : fT (bT Φ k) = fT Φ + 1 := rfl
  have e0 : fQ (bT Φ k) = fQ Φ := rfl
  have eS (q : Int) : fS (bT Φ k) q = fS Φ q := rfl
  have eC (q p : Int) : fC (bT Φ k) q p = fC Φ q p := rfl
  have eq (i : Int) : fqo (bT Φ k) i = fqo Φ i := rfl
  have ep (i : Int) : fpo (bT Φ k) i = fpo Φ i := rfl
  have eG : fG (bT Φ k) = fG Φ := rfl
  refine ⟨?_, h2, fun q p a b c d e => ?_, fun i a b => ?_, fun i i' a b c d e => ?_, ?_⟩
  · rw [e1, e0, eS]; omega
  · rw [eC, e1, eq, ep, bT_K]
    rcases h3 q p a b c d e with g | g
    · exact Or.inl g
    · rw [if_neg (by omega)]
      exact Or.inr ⟨g.1, by omega, g.2.2⟩
  · rw [e1] at b
    rw [bT_K, eq, ep, e0, eS, eC]
    by_cases n : i = fT Φ
    · rw [if_pos n]
      exact ⟨hk.1, hk.2, fun c => absurd c hh⟩
    · rw [if_neg n]
      exact h4 i a (by omega)
  · rw [e1] at c
    rw [bT_K] at d e
    have n1 : ¬ i = fT Φ := by intro n; rw [if_pos n] at d; exact hh d
    have n2 : ¬ i' = fT Φ := by intro n; rw [if_pos n] at e; exact hh e
    rw [if_neg n1] at d
    rw [if_neg n2] at e
    exact h5 i i' a b (by omega) d e
  · rw [eG, e0, h6]
    rw [fgq_congr (bT Φ k) Φ _ (fun q a b => ⟨rfl, fun _ _ _ => rfl⟩), fgp_congr (bT Φ k) Φ _ _ (fun _ _ _ => rfl)]
theorem PW_bL {Φ : Fold} {l k w : Int} (h : PW Φ l) (hQ : 0 < fQ Φ) (hl : l < fS Φ (fQ Φ - 1)) (hh : Hg k) : PW (bL Φ l k w) (l + 1) := by
  obtain ⟨h1, h2, h3, h4, h5, h6⟩ := h
  have e0 : fQ (bL Φ l k w) = fQ Φ := rfl
  have e1 : fT (bL Φ l k w) = fT Φ + 1 := rfl
  have e2 : fG (bL Φ l k w) = fG Φ := rfl
  have eS (q : Int) : fS (bL Φ l k w) q = fS Φ q := rfl
  refine ⟨?_, h2, fun q p a b c d e => ?_, fun i a b => ?_, fun i i' a b c d e => ?_, ?_⟩
  · rw [e0, e1, eS]
    omega
  · rw [eS] at d
    rw [e0] at b e
    by_cases n : q = fQ Φ - 1 ∧ p = l + 1
    · rw [bL_C, if_pos n, bL_K, bL_qo, bL_po, if_pos rfl, if_pos rfl, if_pos rfl, e1]
      exact Or.inr ⟨by omega, by omega, hh, n.1.symm, n.2.symm⟩
    · rw [bL_C, if_neg n]
      rcases h3 q p a b c d (fun c2 => by have := e c2; omega) with g | g
      · exact Or.inl g
      · rw [bL_K, bL_qo, bL_po, if_neg (by omega), if_neg (by omega), if_neg (by omega), e1]
        exact Or.inr ⟨g.1, by omega, g.2.2⟩
  · rw [e1] at b
    by_cases n : i = fT Φ
    · rw [bL_K, bL_qo, bL_po, if_pos n, if_pos n, if_pos n, e0, eS, bL_C, if_pos ⟨rfl, rfl⟩]
      refine ⟨by rcases hh with c | c <;> omega, by rcases hh with c | c <;> omega, fun _ => ⟨by omega, by omega, by omega, by omega, by omega, n.symm⟩⟩
    · have g := h4 i a (by omega)
      rw [bL_K, bL_qo, bL_po, if_neg n, if_neg n, if_neg n, e0, eS]
      refine ⟨g.1, g.2.1, fun c => ?_⟩
      have g2 := g.2.2 c
      rw [bL_C, if_neg (by omega)]
      exact ⟨g2.1, g2.2.1, g2.2.2.1, g2.2.2.2.1, by omega, g2.2.2.2.2.2⟩
  · rw [e1] at c
    rw [bL_K, if_neg (by omega)] at d
    have g := (h4 i a (by omega)).2.2 d
    have gs := h2 (fqo Φ i) g.1 g.2.1
    rw [bL_qo, bL_po, bL_qo, bL_po, if_neg (show ¬ i = fT Φ by omega), if_neg (show ¬ i = fT Φ by omega)]
    by_cases n : i' = fT Φ
    · rw [if_pos n, if_pos n]
      omega
    · rw [if_neg n, if_neg n]
      rw [bL_K, if_neg n] at e
      exact h5 i i' a b (by omega) d e
  · have c1 : fgq (bL Φ l k w) (fQ Φ - 1).toNat = fgq Φ (fQ Φ - 1).toNat := fgq_congr _ _ _ (fun q a b => ⟨rfl, fun p _ _ => by rw [bL_C, if_neg (by omega)]⟩)
    have c2 : fgp (bL Φ l k w) (fQ Φ - 1) l.toNat = fgp Φ (fQ Φ - 1) l.toNat := fgp_congr _ _ _ _ (fun p a b => by rw [bL_C, if_neg (by omega)])
    rw [e2, h6, e0, c1, show (l + 1).toNat = l.toNat + 1 by omega]
    simp only [fgp]
    rw [c2, bL_C, if_pos (show fQ Φ - 1 = fQ Φ - 1 ∧ ((l.toNat : Nat) : Int) + 1 = l + 1 by omega), if_neg (by omega)]
    omega

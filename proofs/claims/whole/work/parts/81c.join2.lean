def jS (A B : Fold) (q : Int) : Int := if q < fQ A then fS A q else fS B q
def jQ (A B : Fold) (q : Int) : Nat → Fold → Fold
  | 0, Φ => Φ
  | p + 1, Φ => jP A B q (p + 1) p (jQ A B q p Φ)
def jA (A B : Fold) (L : Int) : Nat → Fold
  | 0 => lr (fK A) (fT A) (fT A).toNat 0 (b0 L 0)
  | q + 1 => jQ A B q (jS A B q).toNat (bQ (jA A B L q) (jS A B q))
def lnd (Ξ : Fold) (c : Int) : Int := lend (fK Ξ) (fT Ξ) (fT Ξ - beh Ξ c).toNat (beh Ξ c)
theorem lnd_b {Ξ : Fold} (c : Int) (hc : c < fT Ξ) : beh Ξ c ≤ lnd Ξ c ∧ lnd Ξ c ≤ fT Ξ ∧ ∀ i, beh Ξ c ≤ i → i < lnd Ξ c → ¬ Hg (fK Ξ i) := by
  have h1 := beh_b c hc
  obtain ⟨h2, h3, h4⟩ := lend_b (fK Ξ) (fT Ξ) (fT Ξ - beh Ξ c).toNat (beh Ξ c)
  exact ⟨h2, by unfold lnd; omega, fun i a b => (h4 i a b).1⟩
theorem th_later {Ξ : Fold} (hw : FoldW Ξ) {c c' : Int} (h0 : 0 ≤ c) (h1 : c < fT Ξ) (h2 : Hg (fK Ξ c)) (h0' : 0 ≤ c') (h1' : c' < fT Ξ) (h2' : Hg (fK Ξ c')) (hp : 8 * fqo Ξ c + fpo Ξ c < 8 * fqo Ξ c' + fpo Ξ c') : lnd Ξ c ≤ c' := by
  have hlt : c < c' := by
    rcases Int.lt_trichotomy c c' with g | g | g
    · exact g
    · subst g
      omega
    · have := hw.2.2.2.2.1 c' c h0' g h1 h2' h2
      omega
  obtain ⟨g1, g2, g3⟩ := lnd_b (Ξ := Ξ) c h1
  have hb : beh Ξ c ≤ c' := by
    unfold beh
    by_cases e : 0 ≤ c ∧ c + 1 < fT Ξ ∧ fK Ξ c = 2 ∧ fK Ξ (c + 1) = 4
    · rw [if_pos e]
      by_cases e2 : c' = c + 1
      · subst e2
        omega
      · omega
    · rw [if_neg e]
      omega
  rcases Int.lt_or_le c' (lnd Ξ c) with g | g
  · exact absurd h2' (g3 c' hb g)
  · exact g
/-- things from na on are still to come in A, behind place pos -/
def Rst (A : Fold) (pos na : Int) : Prop := 0 ≤ na ∧ na ≤ fT A ∧ ∀ q p, 0 ≤ q → q < fQ A → 1 ≤ p → p ≤ fS A q → pos < 8 * q + p → fC A q p = -2 ∨ na ≤ fC A q p
theorem Rst_no {A : Fold} (hw : FoldW A) {q p na : Int} (hp : 1 ≤ p) (hp2 : p ≤ 8) (h : Rst A (8 * q + p - 1) na) : Rst A (8 * q + p) na :=
  ⟨h.1, h.2.1, fun q' p' a b c d e => h.2.2 q' p' a b c d (by omega)⟩
theorem Rst_yes {A : Fold} (hw : FoldW A) {q p na : Int} (hx : 1 < sco A q p) (h : Rst A (8 * q + p - 1) na) : Rst A (8 * q + p) (lnd A (fC A q p)) ∧ na ≤ fC A q p := by
  have g := sco_th hw hx
  have hb := lnd_b (Ξ := A) (fC A q p) g.2.2.1
  have hb2 := beh_b (Ξ := A) (fC A q p) g.2.2.1
  refine ⟨⟨by omega, by omega, fun q' p' a b c d e => ?_⟩, ?_⟩
  · rcases hw.2.2.1 q' p' a b c d with g2 | g2
    · exact Or.inl g2
    · exact Or.inr (th_later hw g.2.1 g.2.2.1 g.2.2.2.1 g2.1 g2.2.1 g2.2.2.1 (by omega))
  · rcases h.2.2 q p g.1.1 g.1.2.1 g.1.2.2.1 g.1.2.2.2 (by omega) with g2 | g2
    · omega
    · exact g2
theorem je_T (Ξ : Fold) (q p : Int) (Φ : Fold) : fT (je Ξ q p Φ) = fT Φ + (lnd Ξ (fC Ξ q p) - beh Ξ (fC Ξ q p)) := lr_T _ _ _ _ _
theorem jP_INV {A B Φ : Fold} (hA : FoldW A) (hB : FoldW B) {q p l : Int} (hp : 1 ≤ p) (hp2 : p ≤ 8) (h : ∃ na nb, fT Φ ≤ na + nb ∧ Rst A (8 * q + p - 1) na ∧ Rst B (8 * q + p - 1) nb) : ∃ na nb, fT (jP A B q p l Φ) ≤ na + nb ∧ Rst A (8 * q + p) na ∧ Rst B (8 * q + p) nb := by
  obtain ⟨na, nb, h1, h2, h3⟩ := h
  have rA := sco_r hA q p
  have rB := sco_r hB q p
  have eL (k w : Int) : fT (bL Φ l k w) = fT Φ + 1 := rfl
  have eT : fT (bT (bL Φ l 2 0) 4) = fT Φ + 1 + 1 := rfl
  have eG : fT (bG Φ l) = fT Φ := rfl
  have ex : fT (jx A B q p l Φ) = fT Φ + (if sco A q p = 2 ∨ sco B q p = 2 then 1 else if sco A q p = 4 ∨ sco B q p = 4 then 2 else if sco A q p = 3 ∨ sco B q p = 3 then 1 else 0) := by
    unfold jx
    (repeat' split) <;> first | (rw [eL]; done) | (rw [eT]; omega) | (rw [eG]; omega)
  unfold jP jy
  by_cases ha : 1 < sco A q p
  · have g := sco_th hA ha
    have g4 := sco_4 hA ha
    have gb := lnd_b (Ξ := A) (fC A q p) g.2.2.1
    obtain ⟨r1, r2⟩ := Rst_yes hA ha h2
    rw [if_pos ha, je_T, ex]
    by_cases hb : 1 < sco B q p
    · have k := sco_th hB hb
      have k4 := sco_4 hB hb
      have kb := lnd_b (Ξ := B) (fC B q p) k.2.2.1
      obtain ⟨r3, r4⟩ := Rst_yes hB hb h3
      refine ⟨_, _, ?_, r1, r3⟩
      (repeat' split) <;> omega
    · refine ⟨_, _, ?_, r1, Rst_no hB hp hp2 h3⟩
      (repeat' split) <;> omega
  · rw [if_neg ha]
    by_cases hb : 1 < sco B q p
    · have k := sco_th hB hb
      have k4 := sco_4 hB hb
      have kb := lnd_b (Ξ := B) (fC B q p) k.2.2.1
      obtain ⟨r3, r4⟩ := Rst_yes hB hb h3
      rw [if_pos hb, je_T, ex]
      refine ⟨_, _, ?_, Rst_no hA hp hp2 h2, r3⟩
      (repeat' split) <;> omega
    · rw [if_neg hb, ex]
      refine ⟨_, _, ?_, Rst_no hA hp hp2 h2, Rst_no hB hp hp2 h3⟩
      (repeat' split) <;> omega
theorem lr_f (κ : Int → Int) (n : Int) (d : Nat) (k : Int) (Φ : Fold) : fQ (lr κ n d k Φ) = fQ Φ ∧ (∀ q, fS (lr κ n d k Φ) q = fS Φ q) ∧ fL (lr κ n d k Φ) = fL Φ ∧ fP (lr κ n d k Φ) = fP Φ ∧ (∀ q p, fC (lr κ n d k Φ) q p = fC Φ q p) ∧ (∀ i, fW (lr κ n d k Φ) i = fW Φ i) := by
  have h := (lr_o κ n d k Φ).1
  exact ⟨h 0 0 0 (by decide) (by decide), fun q => h 5 q 0 (by decide) (by decide), h 3 0 0 (by decide) (by decide), h 4 0 0 (by decide) (by decide), fun q p => h 6 q p (by decide) (by decide), fun i => h 8 i 0 (by decide) (by decide)⟩
theorem jx_f (A B : Fold) (q p l : Int) (Φ : Fold) : fQ (jx A B q p l Φ) = fQ Φ ∧ (∀ q', fS (jx A B q p l Φ) q' = fS Φ q') ∧ fL (jx A B q p l Φ) = fL Φ ∧ fP (jx A B q p l Φ) = fP Φ := by
  unfold jx
  (repeat' split) <;> exact ⟨rfl, fun _ => rfl, rfl, rfl⟩
theorem jP_f (A B : Fold) (q p l : Int) (Φ : Fold) : fQ (jP A B q p l Φ) = fQ Φ ∧ (∀ q', fS (jP A B q p l Φ) q' = fS Φ q') ∧ fL (jP A B q p l Φ) = fL Φ ∧ fP (jP A B q p l Φ) = fP Φ := by
  have h := jx_f A B q p l Φ
  unfold jP jy
  split
  · have h2 := lr_f (fK A) (fT A) (fT A - beh A (fC A q p)).toNat (beh A (fC A q p)) (jx A B q p l Φ)
    exact ⟨h2.1.trans h.1, fun q' => (h2.2.1 q').trans (h.2.1 q'), h2.2.2.1.trans h.2.2.1, h2.2.2.2.1.trans h.2.2.2⟩
  · split
    · have h2 := lr_f (fK B) (fT B) (fT B - beh B (fC B q p)).toNat (beh B (fC B q p)) (jx A B q p l Φ)
      exact ⟨h2.1.trans h.1, fun q' => (h2.2.1 q').trans (h.2.1 q'), h2.2.2.1.trans h.2.2.1, h2.2.2.2.1.trans h.2.2.2⟩
    · exact h
theorem jQ_f (A B : Fold) (q : Int) (Φ : Fold) : ∀ p : Nat, fQ (jQ A B q p Φ) = fQ Φ ∧ (∀ q', fS (jQ A B q p Φ) q' = fS Φ q') ∧ fL (jQ A B q p Φ) = fL Φ ∧ fP (jQ A B q p Φ) = fP Φ
  | 0 => ⟨rfl, fun _ => rfl, rfl, rfl⟩
  | p + 1 => by
    have ih := jQ_f A B q Φ p
    have h := jP_f A B q (p + 1) p (jQ A B q p Φ)
    exact ⟨h.1.trans ih.1, fun q' => (h.2.1 q').trans (ih.2.1 q'), h.2.2.1.trans ih.2.2.1, h.2.2.2.trans ih.2.2.2⟩
theorem jA_f (A B : Fold) (L : Int) : ∀ n : Nat, fQ (jA A B L n) = n ∧ (∀ q, 0 ≤ q → q < (n : Int) → fS (jA A B L n) q = jS A B q) ∧ fL (jA A B L n) = L ∧ fP (jA A B L n) = 0
  | 0 => by
    have h := lr_f (fK A) (fT A) (fT A).toNat 0 (b0 L 0)
    exact ⟨h.1, fun q a b => by omega, h.2.2.1, h.2.2.2.1⟩
  | n + 1 => by
    have ih := jA_f A B L n
    have h := jQ_f A B n (bQ (jA A B L n) (jS A B n)) (jS A B n).toNat
    have e : fQ (bQ (jA A B L n) (jS A B n)) = fQ (jA A B L n) + 1 := rfl
    refine ⟨?_, fun q a b => ?_, h.2.2.1.trans ih.2.2.1, h.2.2.2.trans ih.2.2.2⟩
    · show fQ (jQ A B n (jS A B n).toNat _) = _
      rw [h.1, e, ih.1]
      omega
    · show fS (jQ A B n (jS A B n).toNat _) q = _
      rw [h.2.1, bQ_S, ih.1]
      by_cases c : q = n
      · rw [if_pos c, c]
      · rw [if_neg c]
        exact ih.2.1 q a (by omega)
theorem jA_INV {A B : Fold} (hA : FoldW A) (hB : FoldW B) (L : Int) : ∀ n : Nat, n ≤ 8 → (∀ q, 0 ≤ q → q < (n : Int) → jS A B q ≤ 8) → (∃ na nb, fT (jA A B L n) ≤ na + nb ∧ Rst A (8 * n) na ∧ Rst B (8 * n) nb) ∧ ∀ m : Nat, m < n → ∀ p : Nat, p ≤ (jS A B m).toNat → ∃ na nb, fT (jQ A B m p (bQ (jA A B L m) (jS A B m))) ≤ na + nb ∧ Rst A (8 * m + p) na ∧ Rst B (8 * m + p) nb
  | 0, _, _ => by
    refine ⟨⟨lend (fK A) (fT A) (fT A).toNat 0, 0, ?_, ?_, ?_⟩, fun m h => absurd h (by omega)⟩
    · show fT (lr (fK A) (fT A) (fT A).toNat 0 (b0 L 0)) ≤ _
      rw [lr_T, show fT (b0 L 0) = 0 from rfl]
      omega
    · have hr := hA.1
      have g := lend_b (fK A) (fT A) (fT A).toNat 0
      refine ⟨by omega, by omega, fun q p a b c d e => ?_⟩
      rcases hA.2.2.1 q p a b c d with g2 | g2
      · exact Or.inl g2
      · rcases Int.lt_or_le (fC A q p) (lend (fK A) (fT A) (fT A).toNat 0) with g3 | g3
        · exact absurd g2.2.2.1 (g.2.2 _ g2.1 g3).1
        · exact Or.inr g3
    · have hr := hB.1
      refine ⟨by omega, by omega, fun q p a b c d e => ?_⟩
      rcases hB.2.2.1 q p a b c d with g2 | g2
      · exact Or.inl g2
      · exact Or.inr g2.1
  | n + 1, hn, hS => by
    have ih := jA_INV hA hB L n (by omega) (fun q a b => hS q a (by omega))
    have hs := hS n (by omega) (by omega)
    have key : ∀ p : Nat, p ≤ (jS A B n).toNat → ∃ na nb, fT (jQ A B n p (bQ (jA A B L n) (jS A B n))) ≤ na + nb ∧ Rst A (8 * n + p) na ∧ Rst B (8 * n + p) nb := by
      intro p
      induction p with
      | zero =>
        intro _
        obtain ⟨na, nb, h1, h2, h3⟩ := ih.1
        refine ⟨na, nb, h1, ?_, ?_⟩
        · simpa using h2
        · simpa using h3
      | succ p ihp =>
        intro hp
        obtain ⟨na, nb, h1, h2, h3⟩ := ihp (by omega)
        have g := jP_INV (l := p) (q := n) (p := p + 1) hA hB (by omega) (by omega) ⟨na, nb, h1, by rw [show 8 * (n : Int) + (p + 1) - 1 = 8 * n + p by omega]; exact h2, by rw [show 8 * (n : Int) + (p + 1) - 1 = 8 * n + p by omega]; exact h3⟩
        exact g
    refine ⟨?_, fun m hm p hp => ?_⟩
    · obtain ⟨na, nb, h1, h2, h3⟩ := key (jS A B n).toNat (Nat.le_refl _)
      refine ⟨na, nb, h1, ⟨h2.1, h2.2.1, fun q p a b c d e => h2.2.2 q p a b c d (by omega)⟩, ⟨h3.1, h3.2.1, fun q p a b c d e => h3.2.2 q p a b c d (by omega)⟩⟩
    · by_cases e : m = n
      · subst e
        exact key p hp
      · exact ih.2 m (by omega) p hp

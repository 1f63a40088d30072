/-- where the h-th that hangs lies, or the end -/
def ixh (κ : Int → Int) (n h : Int) : Int := if h < hcn κ n.toNat then hix κ n.toNat h else n
theorem hcn_s (κ : Int → Int) : ∀ (d a : Nat), (∀ i : Nat, a ≤ i → i < a + d → ¬ Hg (κ i)) → hcn κ (a + d) = hcn κ a
  | 0, a, _ => rfl
  | d + 1, a, h => by
    rw [show a + (d + 1) = (a + d) + 1 by omega, hcn, if_neg (h (a + d) (by omega) (by omega)), hcn_s κ d a (fun i i1 i2 => h i i1 (by omega))]
    omega
theorem lend_x (κ : Int → Int) (n k : Int) (k0 : 0 ≤ k) (k1 : k ≤ n) : lend κ n (n - k).toNat k = ixh κ n (hcn κ k.toNat) := by
  obtain ⟨e1, e2, e3⟩ := lend_b κ n (n - k).toNat k
  have e4 := lend_s κ n (n - k).toNat k (by omega)
  obtain ⟨e, he⟩ : ∃ e, e = lend κ n (n - k).toNat k := ⟨_, rfl⟩
  rw [← he] at e1 e2 e3 e4 ⊢
  have hc : hcn κ e.toNat = hcn κ k.toNat := by
    have := hcn_s κ (e.toNat - k.toNat) k.toNat (fun i i1 i2 => (e3 i (by omega) (by omega)).1)
    rw [show k.toNat + (e.toNat - k.toNat) = e.toNat by omega] at this
    exact this
  unfold ixh
  by_cases c : e = n
  · have : hcn κ k.toNat = hcn κ n.toNat := by rw [← hc, c]
    rw [if_neg (by omega), c]
  · have hg : Hg (κ e) := by
      rcases e4 with x | x
      · exact absurd x c
      · exact x
    have hg' : Hg (κ (e.toNat : Int)) := by rw [Int.toNat_of_nonneg (by omega)]; exact hg
    have hm := hcn_m κ (e.toNat + 1) (n.toNat - (e.toNat + 1))
    rw [show e.toNat + 1 + (n.toNat - (e.toNat + 1)) = n.toNat by omega, hcn, if_pos hg'] at hm
    have hx := hix_at κ e.toNat hg' (n.toNat - (e.toNat + 1))
    rw [show e.toNat + 1 + (n.toNat - (e.toNat + 1)) = n.toNat by omega, hc] at hx
    rw [if_pos (by omega), hx]
    omega
theorem ixh_b (κ : Int → Int) (n h : Int) (n0 : 0 ≤ n) (h0 : 0 ≤ h) (h1 : h < hcn κ n.toNat) : 0 ≤ ixh κ n h ∧ ixh κ n h < n ∧ Hg (κ (ixh κ n h)) ∧ hcn κ (ixh κ n h).toNat = h := by
  unfold ixh
  rw [if_pos h1]
  have := hix_b κ n.toNat h h0 h1
  exact ⟨this.1, by omega, this.2.2⟩
/-- a picture under way: what is laid up to the leaf h -/
def PI (n : Int) (κ : Int → Int) (μ : Int → Int → Int) (lt pg : Int) (Φ : Fold) (l h Q g : Int) : Prop := PW Φ l ∧ fT Φ = ixh κ n h ∧ (∀ i, 0 ≤ i → i < fT Φ → fK Φ i = κ i ∧ (Hg (κ i) → fW Φ i = μ i 4)) ∧ fL Φ = lt ∧ fP Φ = pg ∧ fQ Φ = Q ∧ fG Φ = g
section PP
variable {n : Int} {κ : Int → Int} {μ : Int → Int → Int} {lt pg : Int}
theorem PI_bQ {Φ : Fold} {l h Q g : Int} (s : Int) (hP : PI n κ μ lt pg Φ l h Q g) (hl : 0 < Q → l = fS Φ (Q - 1)) (hQ : Q < 8) (hs : 2 ≤ s ∧ s ≤ 8 ∧ s % 2 = 0) : PI n κ μ lt pg (bQ Φ s) 0 h (Q + 1) g := by
  obtain ⟨h1, h2, h3, h4, h5, h6, h7⟩ := hP
  refine ⟨PW_bQ h1 (by rw [h6]; exact hl) (by omega) hs, h2, h3, h4, h5, ?_, h7⟩
  show fQ Φ + 1 = Q + 1
  rw [h6]
theorem PI_bG {Φ : Fold} {l h Q g : Int} (hP : PI n κ μ lt pg Φ l h Q g) (hQ : 0 < Q) (hl : l < fS Φ (Q - 1)) : PI n κ μ lt pg (bG Φ l) (l + 1) h Q (g + 1) := by
  obtain ⟨h1, h2, h3, h4, h5, h6, h7⟩ := hP
  refine ⟨PW_bG h1 (by omega) (by rw [h6]; exact hl), h2, h3, h4, h5, h6, ?_⟩
  show fG Φ + 1 = g + 1
  rw [h7]
/-- a leaf, and what comes loose behind it -/
def bLl (κ : Int → Int) (μ : Int → Int → Int) (n : Int) (Φ : Fold) (l : Int) : Fold := lr κ n (n - (fT Φ + 1)).toNat (fT Φ + 1) (bL Φ l (κ (fT Φ)) (μ (fT Φ) 4))
theorem bLl_o (Φ : Fold) (l : Int) : fQ (bLl κ μ n Φ l) = fQ Φ ∧ fL (bLl κ μ n Φ l) = fL Φ ∧ fP (bLl κ μ n Φ l) = fP Φ ∧ fG (bLl κ μ n Φ l) = fG Φ ∧ (∀ q, fS (bLl κ μ n Φ l) q = fS Φ q) ∧ (∀ q p, fC (bLl κ μ n Φ l) q p = if q = fQ Φ - 1 ∧ p = l + 1 then fT Φ else fC Φ q p) := by
  obtain ⟨o, _, _⟩ := lr_o κ n (n - (fT Φ + 1)).toNat (fT Φ + 1) (bL Φ l (κ (fT Φ)) (μ (fT Φ) 4))
  refine ⟨o 0 0 0 (by omega) (by omega), o 3 0 0 (by omega) (by omega), o 4 0 0 (by omega) (by omega), o 2 0 0 (by omega) (by omega), fun q => ?_, fun q p => ?_⟩
  · have := o 5 q 0 (by omega) (by omega)
    exact this
  · rw [← bL_C]
    exact o 6 q p (by omega) (by omega)
theorem PI_bL {Φ : Fold} {l h Q g : Int} (hw : RwW n κ μ) (hP : PI n κ μ lt pg Φ l h Q g) (hQ : 0 < Q) (hl : l < fS Φ (Q - 1)) (h0 : 0 ≤ h) (hh : h < hcn κ n.toNat) : PI n κ μ lt pg (bLl κ μ n Φ l) (l + 1) (h + 1) Q g := by
  obtain ⟨h1, h2, h3, h4, h5, h6, h7⟩ := hP
  obtain ⟨i0, i1, i2, i3⟩ := ixh_b κ n h hw.1 h0 hh
  rw [← h2] at i0 i1 i2 i3
  obtain ⟨o1, o2, o3, o4, o5, o6⟩ := bLl_o (κ := κ) (μ := μ) (n := n) Φ l
  have eT : fT (bL Φ l (κ (fT Φ)) (μ (fT Φ) 4)) = fT Φ + 1 := rfl
  have eT2 : fT (bLl κ μ n Φ l) = lend κ n (n - (fT Φ + 1)).toNat (fT Φ + 1) := by
    unfold bLl
    rw [lr_T, eT]
    omega
  have hc : hcn κ (fT Φ + 1).toNat = h + 1 := by
    have e : (fT Φ + 1).toNat = (fT Φ).toNat + 1 := by omega
    have hg' : Hg (κ ((fT Φ).toNat : Int)) := by rw [Int.toNat_of_nonneg i0]; exact i2
    rw [e, hcn, if_pos hg', i3]
  refine ⟨?_, ?_, fun i j0 j1 => ?_, by rw [o2, h4], by rw [o3, h5], by rw [o1, h6], by rw [o4, h7]⟩
  · exact PW_lr κ n (fun i j0 j1 => ⟨(hw.2.2 i j0 j1).1, (hw.2.2 i j0 j1).2.1⟩) _ _ _ (by omega) (PW_bL h1 (by omega) (by rw [h6]; exact hl) i2)
  · rw [eT2, lend_x κ n (fT Φ + 1) (by omega) (by omega), hc]
  · obtain ⟨p1, p2, p3⟩ := lr_o κ n (n - (fT Φ + 1)).toNat (fT Φ + 1) (bL Φ l (κ (fT Φ)) (μ (fT Φ) 4))
    rw [eT2] at j1
    have eW : fW (bLl κ μ n Φ l) i = fW (bL Φ l (κ (fT Φ)) (μ (fT Φ) 4)) i := p1 8 i 0 (by omega) (by omega)
    by_cases c : i < fT Φ + 1
    · have eK : fK (bLl κ μ n Φ l) i = fK (bL Φ l (κ (fT Φ)) (μ (fT Φ) 4)) i := p2 i (by rw [eT]; exact c)
      rw [eK, eW, bL_K, bL_W]
      by_cases c2 : i = fT Φ
      · rw [if_pos c2, if_pos c2, c2]; exact ⟨rfl, fun _ => rfl⟩
      · rw [if_neg c2, if_neg c2]; exact h3 i j0 (by omega)
    · have eK : fK (bLl κ μ n Φ l) i = κ (fT Φ + 1 + (i - (fT Φ + 1))) := p3 i (by rw [eT]; omega) (by rw [eT]; omega)
      rw [eK, show fT Φ + 1 + (i - (fT Φ + 1)) = i by omega]
      exact ⟨rfl, fun w => absurd w ((lend_b κ n (n - (fT Φ + 1)).toNat (fT Φ + 1)).2.2 i (by omega) (by omega)).1⟩
/-- the first p places of a quire with the lay x -/
def plc (κ : Int → Int) (μ : Int → Int → Int) (n : Int) (x : Nat × Nat) : Nat → Fold → Fold
  | 0, Φ => bQ Φ x.1
  | p + 1, Φ => if Gh x.2 x.1 ((p + 1 : Nat) : Int) then bG (plc κ μ n x p Φ) p else bLl κ μ n (plc κ μ n x p Φ) p
def lyt (κ : Int → Int) (μ : Int → Int → Int) (n : Int) : List (Nat × Nat) → Fold → Fold
  | [], Φ => Φ
  | x :: l, Φ => lyt κ μ n l (plc κ μ n x x.1 Φ)
theorem plc_PI {Φ : Fold} {l h Q g : Int} (hw : RwW n κ μ) {x : Nat × Nat} (hP : PI n κ μ lt pg Φ l h Q g) (hl : 0 < Q → l = fS Φ (Q - 1)) (hQ0 : 0 ≤ Q) (hQ : Q < 8) (hs : x.1 = 2 ∨ x.1 = 4 ∨ x.1 = 6 ∨ x.1 = 8) (h0 : 0 ≤ h) (hh : h + thg x.2 x.1 x.1 ≤ hcn κ n.toNat) : ∀ p : Nat, p ≤ x.1 → PI n κ μ lt pg (plc κ μ n x p Φ) p (h + thg x.2 x.1 p) (Q + 1) (g + (p - thg x.2 x.1 p)) ∧ fS (plc κ μ n x p Φ) Q = x.1
  | 0, _ => by
    have e : thg x.2 x.1 0 = 0 := rfl
    have hb := PI_bQ (x.1 : Int) hP hl hQ (by omega)
    rw [e, Int.add_zero]
    refine ⟨?_, ?_⟩
    · have e2 : g + (((0 : Nat) : Int) - 0) = g := by omega
      rw [e2]
      exact hb
    · show fS (bQ Φ x.1) Q = x.1
      rw [bQ_S, if_pos (by rw [hP.2.2.2.2.2.1])]
  | p + 1, hp => by
    obtain ⟨i1, i2⟩ := plc_PI hw hP hl hQ0 hQ hs h0 hh p (by omega)
    have tb := thg_b x.2 x.1 p
    have e1 : ((p : Nat) : Int) + 1 = ((p + 1 : Nat) : Int) := by omega
    have eq : Q + 1 - 1 = Q := by omega
    unfold plc
    by_cases c : Gh x.2 x.1 ((p + 1 : Nat) : Int)
    · have et := thg_g (p := p + 1) (by omega) c
      rw [show p + 1 - 1 = p by omega] at et
      rw [if_pos c, et]
      have b := PI_bG i1 (by omega) (by rw [eq, i2]; omega)
      rw [e1, show g + (((p : Nat) : Int) - thg x.2 x.1 p) + 1 = g + (((p + 1 : Nat) : Int) - thg x.2 x.1 p) by omega] at b
      exact ⟨b, i2⟩
    · have et := thg_t (p := p + 1) (by omega) c
      rw [show p + 1 - 1 = p by omega] at et
      have tm := (thg_le x.2 x.1 hp).1
      rw [if_neg c, et]
      have b := PI_bL hw i1 (by omega) (by rw [eq, i2]; omega) (by omega) (by omega)
      rw [e1, show h + thg x.2 x.1 p + 1 = h + (thg x.2 x.1 p + 1) by omega, show g + (((p : Nat) : Int) - thg x.2 x.1 p) = g + (((p + 1 : Nat) : Int) - (thg x.2 x.1 p + 1)) by omega] at b
      refine ⟨b, ?_⟩
      rw [(bLl_o _ _).2.2.2.2.1, i2]
end PP

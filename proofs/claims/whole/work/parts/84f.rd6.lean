def rl (κ π : Int → Int) (p : Int) : Nat → Int → Fold → Fold
  | 0, _, Φ => Φ
  | d + 1, i, Φ => rl κ π p d (i + 1) (if π i = p then bT Φ (κ i) else Φ)
def cntp (π : Int → Int) (p : Int) : Nat → Int → Int
  | 0, _ => 0
  | d + 1, i => (if π i = p then 1 else 0) + cntp π p d (i + 1)
def rx (σ : Int → Int) (p l : Int) (Φ : Fold) : Fold := if σ p = -2 then bG Φ l else if σ p = 1 then bL Φ l 1 0 else if σ p = 2 then bL Φ l 2 0 else bT (bL Φ l 2 0) 4
def rq (σ κ π : Int → Int) (n : Nat) : Nat → Fold → Fold
  | 0, Φ => Φ
  | p + 1, Φ => rl κ π (p + 1) n 0 (rx σ (p + 1) p (rq σ κ π n p Φ))
def rQ (σ κ π : Int → Int) (n : Nat) (size : Int) (Φ : Fold) : Fold := rq σ κ π n size.toNat (bQ (rl κ π 0 n 0 Φ) size)
def scn (π : Int → Int) (n : Nat) : Nat → Int
  | 0 => cntp π 0 n 0
  | p + 1 => scn π n p + cntp π (p + 1) n 0
theorem rl_T (κ π : Int → Int) (p : Int) : ∀ (d : Nat) (i : Int) (Φ : Fold), fT (rl κ π p d i Φ) = fT Φ + cntp π p d i
  | 0, _, Φ => by simp only [rl, cntp]; omega
  | d + 1, i, Φ => by
    simp only [rl, cntp]
    rw [rl_T κ π p d (i + 1)]
    by_cases h : π i = p
    · rw [if_pos h, if_pos h, show fT (bT Φ (κ i)) = fT Φ + 1 from rfl]; omega
    · rw [if_neg h, if_neg h]; omega
theorem cntp_pos (π : Int → Int) (p : Int) : ∀ (d : Nat) (i : Int), 0 ≤ cntp π p d i
  | 0, _ => Int.le_refl _
  | d + 1, i => by
    have := cntp_pos π p d (i + 1)
    simp only [cntp]
    split <;> omega
/-- how many have a place up to P -/
def cle (π : Int → Int) (P : Int) : Nat → Int → Int
  | 0, _ => 0
  | d + 1, i => (if 0 ≤ π i ∧ π i ≤ P then 1 else 0) + cle π P d (i + 1)
theorem cle_b (π : Int → Int) (P : Int) : ∀ (d : Nat) (i : Int), 0 ≤ cle π P d i ∧ cle π P d i ≤ d ∧ ((∀ j, i ≤ j → j < i + d → 0 ≤ π j ∧ π j ≤ P) → cle π P d i = d)
  | 0, _ => ⟨Int.le_refl _, Int.le_refl _, fun _ => rfl⟩
  | d + 1, i => by
    have ih := cle_b π P d (i + 1)
    simp only [cle]
    refine ⟨by split <;> omega, by split <;> omega, fun h => ?_⟩
    rw [if_pos (h i (by omega) (by omega)), ih.2.2 (fun j a b => h j (by omega) (by omega))]
    omega
theorem cle_s (π : Int → Int) (P : Int) (hP : 0 ≤ P) : ∀ (d : Nat) (i : Int), cle π (P + 1) d i = cle π P d i + cntp π (P + 1) d i
  | 0, _ => rfl
  | d + 1, i => by
    have ih := cle_s π P hP d (i + 1)
    simp only [cle, cntp]
    by_cases h1 : 0 ≤ π i ∧ π i ≤ P
    · rw [if_pos h1, if_pos (show 0 ≤ π i ∧ π i ≤ P + 1 by omega), if_neg (by omega)]; omega
    · by_cases h2 : π i = P + 1
      · rw [if_neg h1, if_pos (show 0 ≤ π i ∧ π i ≤ P + 1 by omega), if_pos h2]; omega
      · rw [if_neg h1, if_neg (show ¬ (0 ≤ π i ∧ π i ≤ P + 1) by omega), if_neg h2]; omega
theorem cle_0 (π : Int → Int) : ∀ (d : Nat) (i : Int), cle π 0 d i = cntp π 0 d i
  | 0, _ => rfl
  | d + 1, i => by
    have ih := cle_0 π d (i + 1)
    simp only [cle, cntp]
    by_cases h1 : π i = 0
    · rw [if_pos h1, if_pos (by omega)]; omega
    · rw [if_neg h1, if_neg (by omega)]; omega
theorem scn_cle (π : Int → Int) (n : Nat) : ∀ p : Nat, scn π n p = cle π p n 0
  | 0 => (cle_0 π n 0).symm
  | p + 1 => by
    simp only [scn]
    rw [scn_cle π n p]
    exact (cle_s π p (by omega) n 0).symm
theorem rx_T (σ : Int → Int) (p l : Int) (Φ : Fold) : fT Φ ≤ fT (rx σ p l Φ) ∧ fT (rx σ p l Φ) ≤ fT Φ + 2 := by
  have eL (k w : Int) : fT (bL Φ l k w) = fT Φ + 1 := rfl
  have eT : fT (bT (bL Φ l 2 0) 4) = fT Φ + 1 + 1 := rfl
  have eG : fT (bG Φ l) = fT Φ := rfl
  unfold rx
  (repeat' split) <;> first | (rw [eL]; omega) | (rw [eT]; omega) | (rw [eG]; omega)
theorem rq_T (σ κ π : Int → Int) (n : Nat) (Φ : Fold) : ∀ p : Nat, fT Φ + (cle π p n 0 - cle π 0 n 0) ≤ fT (rq σ κ π n p Φ) ∧ fT (rq σ κ π n p Φ) ≤ fT Φ + 2 * p + (cle π p n 0 - cle π 0 n 0)
  | 0 => ⟨by simp only [rq]; show fT Φ + (cle π 0 n 0 - cle π 0 n 0) ≤ fT Φ; omega, by simp only [rq]; show fT Φ ≤ fT Φ + 2 * 0 + (cle π 0 n 0 - cle π 0 n 0); omega⟩
  | p + 1 => by
    have ih := rq_T σ κ π n Φ p
    have h := rx_T σ (p + 1) p (rq σ κ π n p Φ)
    have hs := cle_s π p (by omega) n 0
    simp only [rq]
    rw [rl_T]
    have e : ((p + 1 : Nat) : Int) = (p : Int) + 1 := rfl
    rw [e]
    omega
theorem rQ_T (σ κ π : Int → Int) (n : Nat) (size : Int) (Φ : Fold) (hs : 0 ≤ size) : (fT (rQ σ κ π n size Φ) ≤ fT Φ + 2 * size + n) ∧ ((∀ j, 0 ≤ j → j < (n : Int) → 0 ≤ π j ∧ π j ≤ size) → fT Φ + n ≤ fT (rQ σ κ π n size Φ)) := by
  have h := rq_T σ κ π n (bQ (rl κ π 0 n 0 Φ) size) size.toNat
  have e : fT (bQ (rl κ π 0 n 0 Φ) size) = fT Φ + cntp π 0 n 0 := rl_T κ π 0 n 0 Φ
  have e0 := cle_0 π n 0
  have b := cle_b π (size.toNat : Int) n 0
  rw [e] at h
  unfold rQ
  refine ⟨by omega, fun hp => ?_⟩
  have := b.2.2 (fun j x y => by have := hp j x (by omega); omega)
  omega
section RB
variable {κ π σ : Int → Int} {l : Int}
theorem rl_o (κ π : Int → Int) (p : Int) : ∀ (d : Nat) (i : Int) (Φ : Fold) (m : Nat) (a b : Int), m ≠ 1 → m ≠ 7 → rl κ π p d i Φ m a b = Φ m a b
  | 0, _, _, _, _, _, _, _ => rfl
  | d + 1, i, Φ, m, a, b, h1, h7 => by
    simp only [rl]
    rw [rl_o κ π p d (i + 1) _ m a b h1 h7]
    split
    · unfold bT
      rw [if_neg h1, if_neg (fun c => h7 c.1)]
    · rfl
theorem rl_f (κ π : Int → Int) (p : Int) (d : Nat) (i : Int) (Φ : Fold) : fQ (rl κ π p d i Φ) = fQ Φ ∧ (∀ q, fS (rl κ π p d i Φ) q = fS Φ q) ∧ fL (rl κ π p d i Φ) = fL Φ ∧ fP (rl κ π p d i Φ) = fP Φ := by
  have h := rl_o κ π p d i Φ
  exact ⟨h 0 0 0 (by decide) (by decide), fun q => h 5 q 0 (by decide) (by decide), h 3 0 0 (by decide) (by decide), h 4 0 0 (by decide) (by decide)⟩
theorem rx_f (σ : Int → Int) (p l : Int) (Φ : Fold) : fQ (rx σ p l Φ) = fQ Φ ∧ (∀ q, fS (rx σ p l Φ) q = fS Φ q) ∧ fL (rx σ p l Φ) = fL Φ ∧ fP (rx σ p l Φ) = fP Φ := by
  unfold rx
  (repeat' split) <;> exact ⟨rfl, fun _ => rfl, rfl, rfl⟩
theorem rq_f (σ κ π : Int → Int) (n : Nat) (Φ : Fold) : ∀ p : Nat, fQ (rq σ κ π n p Φ) = fQ Φ ∧ (∀ q, fS (rq σ κ π n p Φ) q = fS Φ q) ∧ fL (rq σ κ π n p Φ) = fL Φ ∧ fP (rq σ κ π n p Φ) = fP Φ
  | 0 => ⟨rfl, fun _ => rfl, rfl, rfl⟩
  | p + 1 => by
    have ih := rq_f σ κ π n Φ p
    have h := rx_f σ (p + 1) p (rq σ κ π n p Φ)
    have h2 := rl_f κ π (p + 1) n 0 (rx σ (p + 1) p (rq σ κ π n p Φ))
    exact ⟨h2.1.trans (h.1.trans ih.1), fun q => (h2.2.1 q).trans ((h.2.1 q).trans (ih.2.1 q)), h2.2.2.1.trans (h.2.2.1.trans ih.2.2.1), h2.2.2.2.trans (h.2.2.2.trans ih.2.2.2)⟩
theorem rQ_f (σ κ π : Int → Int) (n : Nat) (size : Int) (Φ : Fold) : fQ (rQ σ κ π n size Φ) = fQ Φ + 1 ∧ (∀ q, fS (rQ σ κ π n size Φ) q = if q = fQ Φ then size else fS Φ q) ∧ fL (rQ σ κ π n size Φ) = fL Φ ∧ fP (rQ σ κ π n size Φ) = fP Φ := by
  have h := rq_f σ κ π n (bQ (rl κ π 0 n 0 Φ) size) size.toNat
  have h2 := rl_f κ π 0 n 0 Φ
  have e : fQ (bQ (rl κ π 0 n 0 Φ) size) = fQ (rl κ π 0 n 0 Φ) + 1 := rfl
  refine ⟨by unfold rQ; rw [h.1, e, h2.1], fun q => by unfold rQ; rw [h.2.1, bQ_S, h2.1, h2.2.1], h.2.2.1.trans h2.2.2.1, h.2.2.2.trans h2.2.2.2⟩
theorem PW_rl (hκ : ∀ i, 3 ≤ κ i ∧ κ i ≤ 5 ∨ True) (p : Int) : ∀ (d : Nat) (i : Int) (Φ : Fold), (∀ j, i ≤ j → j < i + d → 3 ≤ κ j ∧ κ j ≤ 5) → PW Φ l → PW (rl κ π p d i Φ) l
  | 0, _, _, _, h => h
  | d + 1, i, Φ, hk, h => by
    simp only [rl]
    have k := hk i (by omega) (by omega)
    refine PW_rl hκ p d (i + 1) _ (fun j a b => hk j (by omega) (by omega)) ?_
    split
    · exact PW_bT h (by omega) (by omega)
    · exact h
theorem Wz_rl (p : Int) : ∀ (d : Nat) (i : Int) (Φ : Fold), (∀ j, i ≤ j → j < i + d → 3 ≤ κ j ∧ κ j ≤ 5) → Wz Φ → Wz (rl κ π p d i Φ)
  | 0, _, _, _, h => h
  | d + 1, i, Φ, hk, h => by
    simp only [rl]
    have k := hk i (by omega) (by omega)
    refine Wz_rl p d (i + 1) _ (fun j a b => hk j (by omega) (by omega)) ?_
    split
    · exact Wz_bT h (by omega)
    · exact h
theorem PW_rx {Φ : Fold} (p : Int) (h : PW Φ l) (hQ : 0 < fQ Φ) (hl : l < fS Φ (fQ Φ - 1)) : PW (rx σ p l Φ) (l + 1) := by
  unfold rx
  (repeat' split) <;> first | exact PW_bG h hQ hl | exact PW_bT (PW_bL h hQ hl (Or.inr rfl)) (by decide) (by decide) | exact PW_bL h hQ hl (Or.inl rfl) | exact PW_bL h hQ hl (Or.inr rfl)
theorem Wz_rx {Φ : Fold} (p : Int) (h : Wz Φ) : Wz (rx σ p l Φ) := by
  unfold rx
  (repeat' split) <;> first | exact Wz_bL h | exact Wz_bT (Wz_bL h) (by decide) | exact h
theorem PW_rq {Φ : Fold} (n : Nat) (hk : ∀ j, 0 ≤ j → j < (n : Int) → 3 ≤ κ j ∧ κ j ≤ 5) (h : PW Φ 0) (hz : Wz Φ) (hQ : 0 < fQ Φ) : ∀ p : Nat, (p : Int) ≤ fS Φ (fQ Φ - 1) → PW (rq σ κ π n p Φ) p ∧ Wz (rq σ κ π n p Φ)
  | 0, _ => ⟨h, hz⟩
  | p + 1, hp => by
    have ih := PW_rq n hk h hz hQ p (by omega)
    have hf := rq_f σ κ π n Φ p
    simp only [rq]
    exact ⟨PW_rl (fun _ => Or.inr trivial) _ _ _ _ (fun j a b => hk j a (by omega)) (PW_rx _ ih.1 (by rw [hf.1]; exact hQ) (by rw [hf.1, hf.2.1]; omega)), Wz_rl _ _ _ _ (fun j a b => hk j a (by omega)) (Wz_rx _ ih.2)⟩
theorem PW_rQ {Φ : Fold} (n : Nat) (size : Int) (hk : ∀ j, 0 ≤ j → j < (n : Int) → 3 ≤ κ j ∧ κ j ≤ 5) (h : PW Φ l) (hz : Wz Φ) (hl : 0 < fQ Φ → l = fS Φ (fQ Φ - 1)) (hQ : fQ Φ < 8) (hs : 2 ≤ size ∧ size ≤ 8 ∧ size % 2 = 0) : PW (rQ σ κ π n size Φ) size ∧ Wz (rQ σ κ π n size Φ) := by
  have h0 := h.1
  have hf := rl_f κ π 0 n 0 Φ
  have hw := PW_rl (π := π) (l := l) (fun _ => Or.inr trivial) 0 n 0 Φ (fun j a b => hk j a (by omega)) h
  have hz' := Wz_rl (π := π) 0 n 0 Φ (fun j a b => hk j a (by omega)) hz
  have hb := PW_bQ hw (by rw [hf.1, hf.2.1]; exact hl) (by rw [hf.1]; exact hQ) hs
  have g := PW_rq (σ := σ) (κ := κ) (π := π) n hk hb hz' (by show 0 < fQ (rl κ π 0 n 0 Φ) + 1; rw [hf.1]; omega) size.toNat (by rw [show fQ (bQ (rl κ π 0 n 0 Φ) size) - 1 = fQ (rl κ π 0 n 0 Φ) by show fQ (rl κ π 0 n 0 Φ) + 1 - 1 = _; omega, bQ_S, if_pos rfl]; omega)
  rw [Int.toNat_of_nonneg (by omega)] at g
  exact g
end RB

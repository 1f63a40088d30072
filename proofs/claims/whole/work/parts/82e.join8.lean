theorem PW_end' {Φ : Fold} {l : Int} (h : PW Φ l) (hl : 0 < fQ Φ → l = fS Φ (fQ Φ - 1)) (hT : fT Φ ≤ 30) (hP : 0 ≤ fP Φ ∧ fP Φ ≤ 999) (hL : 0 ≤ fL Φ ∧ fL Φ + fQ Φ ≤ 47 ∧ (0 < fQ Φ → 1 ≤ fL Φ)) : FoldW Φ := by
  by_cases hQ : 0 < fQ Φ
  · exact PW_end h (hl hQ) (by omega) hT hP ⟨hL.2.2 hQ, hL.2.1⟩
  · obtain ⟨h1, h2, h3, h4, h5, h6⟩ := h
    have hQ0 : fQ Φ = 0 := by omega
    refine ⟨by omega, h2, fun q p a b => by omega, fun i a b => ⟨(h4 i a b).1, (h4 i a b).2.1, fun c => ?_⟩, h5, ?_⟩
    · have := (h4 i a b).2.2 c
      omega
    · rw [h6, h1.2.2.2.2.1 hQ0, hQ0]
      rfl
section IL
variable {A B : Fold} {aquires athings aghosts aletter apage : Int32} {asizes acells akinds awords aquireOf aplaceOf : NF} {bquires bthings bghosts bletter bpage : Int32} {bsizes bcells bkinds bwords bquireOf bplaceOf : NF} {f g : Int} {mthings mquires firstLetter firstPage sizeOf placed kindOf catchOf isThere : NF}
theorem PC_end' {Φ : Fold} {l : Int} {quires things ghosts letter page laid : Int32} {sizes cells kinds words quireOf placeOf : NF} (h : PC Φ l quires things ghosts letter page laid sizes cells kinds words quireOf placeOf) (hl : 0 < fQ Φ → l = fS Φ (fQ Φ - 1)) (hT : fT Φ ≤ 30) : FoldC Φ quires things ghosts letter page sizes cells kinds words quireOf placeOf := by
  obtain ⟨h1, h2, h3, h4, h5⟩ := h
  refine ⟨⟨h1.1, h1.2.1, h1.2.2.1, h1.2.2.2.1, h1.2.2.2.2.1⟩, h2, fun q p a b c d => h3 q p a b c d (fun e => by subst e; have := hl (by omega); omega), fun i a b => h4 i a b (by omega), fun i a b => h5 i a b (by omega)⟩
theorem jA_T {A B : Fold} (hA : FoldW A) (hB : FoldW B) (L : Int) (N : Nat) (hN : (N : Int) = max (fQ A) (fQ B)) : fT (jA A B L N) ≤ 60 ∧ ∀ m : Nat, m < N → ∀ p : Nat, p ≤ (jS A B m).toNat → fT (jQ A B m p (bQ (jA A B L m) (jS A B m))) ≤ 60 := by
  have hrA := hA.1
  have hrB := hB.1
  obtain ⟨⟨na, nb, h1, h2, h3⟩, h4⟩ := jA_INV hA hB L N (by omega) (fun q a b => (jS_b hA hB q a (by omega)).2.1)
  refine ⟨?_, fun m hm p hp => ?_⟩
  · have := h2.2.1
    have := h3.2.1
    omega
  · obtain ⟨na, nb, h1, h2, h3⟩ := h4 m hm p hp
    have := h2.2.1
    have := h3.2.1
    omega
theorem join_z (hA : FoldW A) (cA : FoldC A aquires athings aghosts aletter apage asizes acells akinds awords aquireOf aplaceOf) (hB : FoldW B) (cB : FoldC B bquires bthings bghosts bletter bpage bsizes bcells bkinds bwords bquireOf bplaceOf) (N : Nat) (hN : (N : Int) = max (fQ A) (fQ B)) (gm : Bool) (g1 g2 g3 g4 g5 : Int32) (y1 y2 y3 y4 y5 y6 : NF) (g6 : Int32) : ∃ c, F_X0_join gm g1 g2 g3 g4 g5 y1 y2 y3 y4 y5 y6 g6 aquires athings aletter asizes acells akinds bquires bthings bsizes bcells bkinds = some c ∧ c.1 = true ∧ PC (jA A B (fL A) N) (jl A B N) c.2.1 c.2.2.1 c.2.2.2.1 c.2.2.2.2.1 c.2.2.2.2.2.1 c.2.2.2.2.2.2.2.2.2.2.2.2 c.2.2.2.2.2.2.1 c.2.2.2.2.2.2.2.1 c.2.2.2.2.2.2.2.2.1 c.2.2.2.2.2.2.2.2.2.1 c.2.2.2.2.2.2.2.2.2.2.1 c.2.2.2.2.2.2.2.2.2.2.2.1 := by
  have hrA := hA.1
  obtain ⟨hT1, hT2⟩ := jA_T hA hB (fL A) N hN
  unfold F_X0_join F_X0_start
  rw [Option.bind_some]
  obtain ⟨c, e1, e2, e3, e4⟩ := addLoose_z (l := 0) (quires := 0) (things := 0) (ghosts := 0) (letter := zI (fL A)) (page := zI 0) (laid := 0) (sizes := y1) (cells := y2) (kinds := y3) (words := y4) (quireOf := y5) (placeOf := y6) (fK A) (fT A) 0 (by omega) akinds cA.2.2.2.1 (fun i a b => ⟨(hA.2.2.2.1 i a b).1, (hA.2.2.2.1 i a b).2.1⟩) (Φ := b0 (fL A) 0) (by omega) (by omega) (by have : fT (b0 (fL A) 0) = 0 := rfl; omega) (PW_b0 _ _) (PC_b0 _ _)
  rw [Int.sub_zero] at e3 e4
  have e1' : F_X0_addLoose 0 y3 akinds athings 0 = some c := by rw [cA.1.2.1]; exact e1
  show ∃ c, (F_X0_addLoose 0 y3 akinds athings 0).bind _ = some c ∧ _
  rw [e1', Option.bind_some, cA.1.2.2.2.1]
  obtain ⟨c', e5, e6, e7, e8⟩ := join_b25_z hA cA hB cB (fL A) N hN (fun m hm p hp => by have := hT2 m hm p hp; omega) true 8 FU 0 0 c.2.1 0 (zI (fL A)) (zI 0) y1 y2 c.2.2 y4 y5 y6 0 (by omega) (by unfold FU; omega) (by rw [Nat.zero_min]; exact e3) (by rw [Nat.zero_min]; exact e4)
  exact ⟨c', e5, e6, e8⟩
theorem ideal_fin (hA : FoldW A) (hB : FoldW B) (L : Int) (N : Nat) (hN : (N : Int) = max (fQ A) (fQ B)) (hT : fT (jA A B L N) ≤ 30) (told : Int32) (x5 : Int) (hx : 1 ≤ x5) (hx2 : x5 < 5) (hxs : ∀ q, 0 ≤ q → q < (N : Int) → sizeOf (8 * x5 + q).toNat = zI (jS A B q)) (made : Int32) (mk mp : NF) (hc : PK (jA A B L N) (jl A B N) made mk mp) : ∃ c2, F_X8_ideal_b439 FU told (upd isThere 0 1) (upd mthings 0 (zI (fT (jA A B L N)))) (upd mquires 0 (zI N)) (upd firstLetter 0 (zI L)) (upd firstPage 0 0) sizeOf placed kindOf catchOf made mk mp (zI x5) 0 = some c2 ∧ c2.1 = zI (fT (jA A B L N)) ∧ c2.2.2.1 0 = 1 ∧ FoldM 0 (jA A B L N) c2.2.2.2.1 c2.2.2.2.2.1 c2.2.2.2.2.2.1 c2.2.2.2.2.2.2.1 c2.2.2.2.2.2.2.2.1 c2.2.2.2.2.2.2.2.2.1 c2.2.2.2.2.2.2.2.2.2.1 c2.2.2.2.2.2.2.2.2.2.2.1 ∧ FrmAll isThere mthings mquires firstLetter firstPage sizeOf placed kindOf catchOf c2.2.2.1 c2.2.2.2.1 c2.2.2.2.2.1 c2.2.2.2.2.2.1 c2.2.2.2.2.2.2.1 c2.2.2.2.2.2.2.2.1 c2.2.2.2.2.2.2.2.2.1 c2.2.2.2.2.2.2.2.2.2.1 c2.2.2.2.2.2.2.2.2.2.2.1 := by
  have hrA := hA.1
  have hrB := hB.1
  have hw := PW_jA hA hB L N (by omega)
  have hf := jA_f A B L N
  have hT0 := hw.1.2.2.1
  obtain ⟨sz', pl', e1, f1, f2, -, -, f5⟩ := ideal_b439_z told (upd isThere 0 1) (upd mthings 0 (zI (fT (jA A B L N)))) (upd mquires 0 (zI N)) (upd firstLetter 0 (zI L)) (upd firstPage 0 0) kindOf catchOf made mk mp (jS A B) x5 hx hx2 N (by omega) (upd_at _ _ _) (fun q a b => by have := jS_b hA hB q a (by omega); omega) N FU 0 sizeOf placed (by omega) (by unfold FU; omega) hxs
  obtain ⟨ki', ca', e2, k1, k2, -, k4⟩ := ideal_b529_z told (upd isThere 0 1) (upd mthings 0 (zI (fT (jA A B L N)))) (upd mquires 0 (zI N)) (upd firstLetter 0 (zI L)) (upd firstPage 0 0) sz' pl' (fT (jA A B L N)).toNat (by omega) mk mp (fT (jA A B L N)).toNat FU 0 kindOf catchOf (by omega) (by unfold FU; omega)
  have em : made = zI (((fT (jA A B L N)).toNat : Nat) : Int) := by rw [Int.toNat_of_nonneg hT0]; exact hc.1
  have u1 (X : NF) (x : Int32) : Frm 1 X (upd X 0 x) := Frm_u (a := 0) x (by omega) (by omega)
  have e1' : F_X8_ideal_b439 FU told (upd isThere 0 1) (upd mthings 0 (zI (fT (jA A B L N)))) (upd mquires 0 (zI N)) (upd firstLetter 0 (zI L)) (upd firstPage 0 0) sizeOf placed kindOf catchOf made mk mp (zI x5) 0 = some (zI (((fT (jA A B L N)).toNat : Nat) : Int), told, upd isThere 0 1, upd mthings 0 (zI (fT (jA A B L N))), upd mquires 0 (zI N), upd firstLetter 0 (zI L), upd firstPage 0 0, sz', pl', ki', ca', zI (((fT (jA A B L N)).toNat : Nat) : Int), mk, mp) := by
    refine Eq.trans e1 ?_
    rw [em]
    exact e2
  refine ⟨_, e1', by rw [Int.toNat_of_nonneg hT0], upd_at isThere 0 1, ?_, u1 _ _, u1 _ _, u1 _ _, u1 _ _, u1 _ _, f1, f2, k1, k2⟩
  show FoldM 0 (jA A B L N) (upd mthings 0 (zI (fT (jA A B L N)))) (upd mquires 0 (zI N)) (upd firstLetter 0 (zI L)) (upd firstPage 0 0) sz' pl' ki' ca'
  refine ⟨⟨?_, upd_at _ _ _, ?_, ?_⟩, fun q a b => ?_, fun q p a b c d => ?_, fun i a b => ?_, fun i a b c => ?_⟩
  · rw [hf.1]; exact upd_at _ _ _
  · rw [hf.2.2.1]; exact upd_at _ _ _
  · rw [hf.2.2.2]; exact upd_at _ _ _
  · rw [hf.1] at b
    rw [hf.2.1 q a b, show 8 * 0 + q = q by omega]
    exact (f5 q (by omega) b).1
  · rw [hf.1] at b
    rw [hf.2.1 q a b] at d
    rw [show 64 * 0 + 8 * q + p - 1 = 8 * q + p - 1 by omega, (f5 q (by omega) b).2 p c d]
    refine hc.2.2 q p a (by rw [hf.1]; exact b) c (by rw [hf.2.1 q a b]; exact d) (fun e => ?_)
    rw [hf.1] at e
    unfold jl
    rw [if_neg (by omega), ← e]
    exact d
  · rw [show 30 * 0 + i = i by omega, (k4 i (by omega) (by omega)).1]
    exact hc.2.1 i a b
  · rw [show 30 * 0 + i = i by omega, (k4 i (by omega) (by omega)).2, Wz_jA N i a b c]
    rfl
end IL

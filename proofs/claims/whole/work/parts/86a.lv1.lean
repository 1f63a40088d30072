/-- a row read as numbers: the kinds κ, the marks μ -/
def RwC (n : Int) (κ : Int → Int) (μ : Int → Int → Int) (K M : NF) (C : Int32) : Prop := C = zI n ∧ ∀ i, 0 ≤ i → i < n → K i.toNat = zI (κ i) ∧ ∀ q, 0 ≤ q → q < 7 → M (i * 7 + q).toNat = zI (μ i q)
def RwM (n : Int) (κ : Int → Int) (μ : Int → Int → Int) (j : Int) (many kk mm : NF) : Prop := many j.toNat = zI n ∧ ∀ i, 0 ≤ i → i < n → kk (30 * j + i).toNat = zI (κ i) ∧ ∀ q, 0 ≤ q → q < 7 → mm (7 * (30 * j + i) + q).toNat = zI (μ i q)
def RwW (n : Int) (κ : Int → Int) (μ : Int → Int → Int) : Prop := 0 ≤ n ∧ n ≤ 30 ∧ ∀ i, 0 ≤ i → i < n → 1 ≤ κ i ∧ κ i ≤ 5 ∧ ∀ q, 0 ≤ q → q < 7 → 0 ≤ μ i q ∧ μ i q ≤ 9999
theorem RowR_z {j : Nat} {K W M : NF} {C : Int32} {many kk tt mm : NF} (h : RowR j K W M C many kk tt mm) : ∃ n κ μ, RwW n κ μ ∧ RwC n κ μ K M C ∧ RwM n κ μ j many kk mm := by
  obtain ⟨c, hc, hC, hm, hR, hW⟩ := h
  refine ⟨c, fun i => (K i.toNat).toInt, fun i q => (M (i * 7 + q).toNat).toInt, ⟨by omega, by omega, fun i h0 h1 => ?_⟩, ⟨by rw [hC, nI_zI], fun i h0 h1 => ?_⟩, ⟨by rw [show ((j : Int)).toNat = j by omega, hm, nI_zI], fun i h0 h1 => ?_⟩⟩
  · obtain ⟨a, b, -, -, e⟩ := hW i.toNat (by omega)
    refine ⟨a, b, fun q q0 q1 => ?_⟩
    have := e q.toNat (by omega)
    rw [show i.toNat * 7 + q.toNat = (i * 7 + q).toNat by omega] at this
    exact ⟨this.1, this.2.1⟩
  · exact ⟨tI_of _, fun q q0 q1 => tI_of _⟩
  · obtain ⟨a, -, e⟩ := hR i.toNat (by omega)
    refine ⟨?_, fun q q0 q1 => ?_⟩
    · rw [show (30 * (j : Int) + i).toNat = 30 * j + i.toNat by omega, ← a]
      exact tI_of _
    · have := e q.toNat (by omega)
      rw [show (7 * (30 * (j : Int) + i) + q).toNat = 7 * (30 * j + i.toNat) + q.toNat by omega, ← this, show i.toNat * 7 + q.toNat = (i * 7 + q).toNat by omega]
      exact tI_of _
/-- how many of the first i hang -/
def hcn (κ : Int → Int) : Nat → Int
  | 0 => 0
  | i + 1 => hcn κ i + (if Hg (κ i) then 1 else 0)
/-- the h-th that hangs, among the first i -/
def hix (κ : Int → Int) : Nat → Int → Int
  | 0, _ => -1
  | i + 1, h => if Hg (κ i) ∧ hcn κ i = h then i else hix κ i h
theorem hcn_b (κ : Int → Int) : ∀ i : Nat, 0 ≤ hcn κ i ∧ hcn κ i ≤ i
  | 0 => by unfold hcn; omega
  | i + 1 => by
    have := hcn_b κ i
    unfold hcn
    split <;> omega
theorem hcn_m (κ : Int → Int) (i : Nat) : ∀ d : Nat, hcn κ i ≤ hcn κ (i + d)
  | 0 => Int.le_refl _
  | d + 1 => by
    have := hcn_m κ i d
    rw [show i + (d + 1) = (i + d) + 1 by omega, hcn]
    split <;> omega
theorem hix_at (κ : Int → Int) (i : Nat) (h : Hg (κ i)) : ∀ d : Nat, hix κ (i + 1 + d) (hcn κ i) = i
  | 0 => by
    show (if Hg (κ i) ∧ hcn κ i = hcn κ i then (i : Int) else _) = _
    rw [if_pos ⟨h, rfl⟩]
  | d + 1 => by
    have ih := hix_at κ i h d
    have m := hcn_m κ (i + 1) d
    have e : hcn κ (i + 1) = hcn κ i + 1 := by rw [hcn, if_pos h]
    rw [show i + 1 + (d + 1) = (i + 1 + d) + 1 by omega, hix, if_neg (by intro c; omega)]
    exact ih
theorem hix_b (κ : Int → Int) : ∀ (i : Nat) (h : Int), 0 ≤ h → h < hcn κ i → 0 ≤ hix κ i h ∧ hix κ i h < i ∧ Hg (κ (hix κ i h)) ∧ hcn κ (hix κ i h).toNat = h
  | 0, h, h0, h1 => by unfold hcn at h1; omega
  | i + 1, h, h0, h1 => by
    unfold hix
    by_cases c : Hg (κ i) ∧ hcn κ i = h
    · rw [if_pos c]
      exact ⟨by omega, by omega, c.1, by rw [show ((i : Int)).toNat = i by omega]; exact c.2⟩
    · rw [if_neg c]
      have hlt : h < hcn κ i := by
        rw [hcn] at h1
        by_cases e : Hg (κ i)
        · rw [if_pos e] at h1
          have : ¬ hcn κ i = h := fun x => c ⟨e, x⟩
          omega
        · rw [if_neg e] at h1; omega
      obtain ⟨a, b, d, e⟩ := hix_b κ i h h0 hlt
      exact ⟨a, by omega, d, e⟩
/-- the book of a row's leaves: 0 how many, 1 letter 2 number 3 page 4 head 5 catch 6 water 7 side, 8 cancelled, 9 10 page and head of what cancels it, 11 sizes 12 signed 13 letter 14 page -/
abbrev Book : Type := Nat → Int → Int
def bkH (Λ : Book) : Int := Λ 0 0
def bkM (Λ : Book) (q : Nat) (h : Int) : Int := Λ (q + 1) h
def bkX (Λ : Book) (h : Int) : Int := Λ 8 h
def bkP (Λ : Book) (h : Int) : Int := Λ 9 h
def bkD (Λ : Book) (h : Int) : Int := Λ 10 h
def bkZ (Λ : Book) : Int := Λ 11 0
def bkG (Λ : Book) : Int := Λ 12 0
def bkL (Λ : Book) : Int := Λ 13 0
def bkO (Λ : Book) : Int := Λ 14 0
abbrev Can (n : Int) (κ : Int → Int) (i : Int) : Prop := κ i = 2 ∧ i + 1 < n ∧ κ (i + 1) = 4
def mkB (n : Int) (κ : Int → Int) (μ : Int → Int → Int) (sz sg lt pg : Int) : Book := fun f h =>
  if f = 0 then hcn κ n.toNat
  else if f ≤ 7 then μ (hix κ n.toNat h) ((f : Int) - 1)
  else if f = 8 then (if Can n κ (hix κ n.toNat h) then 1 else 0)
  else if f = 9 then μ (hix κ n.toNat h + 1) 2
  else if f = 10 then μ (hix κ n.toNat h + 1) 3
  else if f = 11 then sz else if f = 12 then sg else if f = 13 then lt else pg
def BkW (Λ : Book) : Prop := 0 ≤ bkH Λ ∧ bkH Λ ≤ 30 ∧ 1 ≤ bkZ Λ ∧ bkZ Λ ≤ 15 ∧ 0 ≤ bkG Λ ∧ bkG Λ ≤ 8 ∧ 1 ≤ bkL Λ ∧ bkL Λ ≤ 39 ∧ 0 ≤ bkO Λ ∧ bkO Λ ≤ 999 ∧ ∀ h, 0 ≤ h → h < bkH Λ → (∀ q : Nat, q < 7 → 0 ≤ bkM Λ q h ∧ bkM Λ q h ≤ 9999) ∧ (bkX Λ h = 0 ∨ (bkX Λ h = 1 ∧ 0 ≤ bkP Λ h ∧ bkP Λ h ≤ 9999 ∧ 0 ≤ bkD Λ h ∧ bkD Λ h ≤ 9999))
theorem bkM_mk (n : Int) (κ : Int → Int) (μ : Int → Int → Int) (sz sg lt pg : Int) (q : Nat) (k : Int) (hq : q < 7) : bkM (mkB n κ μ sz sg lt pg) q k = μ (hix κ n.toNat k) q := by
  unfold bkM mkB
  rw [if_neg (by omega), if_pos (by omega), show ((q + 1 : Nat) : Int) - 1 = q by omega]
theorem BkW_mk {n : Int} {κ : Int → Int} {μ : Int → Int → Int} {sz sg lt pg : Int} (h : RwW n κ μ) (h1 : 1 ≤ sz ∧ sz ≤ 15) (h2 : 0 ≤ sg ∧ sg ≤ 8) (h3 : 1 ≤ lt ∧ lt ≤ 39) (h4 : 0 ≤ pg ∧ pg ≤ 999) : BkW (mkB n κ μ sz sg lt pg) := by
  obtain ⟨n0, n1, hm⟩ := h
  have hb := hcn_b κ n.toNat
  have eH : bkH (mkB n κ μ sz sg lt pg) = hcn κ n.toNat := rfl
  refine ⟨by omega, by omega, h1.1, h1.2, h2.1, h2.2, h3.1, h3.2, h4.1, h4.2, fun k k0 k1 => ?_⟩
  obtain ⟨a, b, -, -⟩ := hix_b κ n.toNat k k0 k1
  refine ⟨fun q hq => ?_, ?_⟩
  · have := (hm (hix κ n.toNat k) a (by omega)).2.2 q (by omega) (by omega)
    rw [bkM_mk n κ μ sz sg lt pg q k hq]
    exact this
  · have eX : bkX (mkB n κ μ sz sg lt pg) k = if Can n κ (hix κ n.toNat k) then 1 else 0 := rfl
    by_cases c : Can n κ (hix κ n.toNat k)
    · refine Or.inr ⟨by rw [eX, if_pos c], ?_⟩
      have p2 := (hm (hix κ n.toNat k + 1) (by omega) c.2.1).2.2 2 (by omega) (by omega)
      have p3 := (hm (hix κ n.toNat k + 1) (by omega) c.2.1).2.2 3 (by omega) (by omega)
      exact ⟨p2.1, p2.2, p3.1, p3.2⟩
    · exact Or.inl (by rw [eX, if_neg c])

/-- longs that are numbers -/
def wI (n : Nat) : Int64 := Int64.ofNat n
theorem wI_add (a b : Nat) : wI a + wI b = wI (a + b) := (Int64.ofNat_add a b).symm
theorem wI_mul (a b : Nat) : wI a * wI b = wI (a * b) := (Int64.ofNat_mul a b).symm
theorem wI_sub {a b : Nat} (h : b ≤ a) : wI a - wI b = wI (a - b) := by
  have : wI a = wI (a - b) + wI b := by rw [wI_add]; congr 1; omega
  rw [this, Int64.add_sub_cancel]
theorem wI_toInt {a : Nat} (h : a < 9223372036854775808) : (wI a).toInt = a := Int64.toInt_ofNat_of_lt h
theorem wI_lt {a b : Nat} (h1 : a < 9223372036854775808) (h2 : b < 9223372036854775808) : (wI a < wI b) ↔ a < b := by
  rw [Int64.lt_iff_toInt_lt, wI_toInt h1, wI_toInt h2]
  omega
theorem wI_inj {a b : Nat} (h1 : a < 9223372036854775808) (h2 : b < 9223372036854775808) (e : wI a = wI b) : a = b := by
  have := congrArg Int64.toInt e
  rw [wI_toInt h1, wI_toInt h2] at this
  omega
theorem lg_le0 {a b : Nat} (h1 : a < 9223372036854775808) (h2 : b < 9223372036854775808) : (lg_cmp (wI a) (wI b) ≤ 0) ↔ a ≤ b := by
  unfold lg_cmp
  by_cases c : wI a > wI b
  · rw [if_pos c]
    have := (wI_lt h2 h1).mp c
    exact ⟨fun x => absurd x (by decide), fun x => by omega⟩
  · rw [if_neg c]
    have : ¬ b < a := fun x => c ((wI_lt h2 h1).mpr x)
    refine ⟨fun _ => by omega, fun _ => ?_⟩
    split
    · decide
    · decide
theorem lg_ge0 {a b : Nat} (h1 : a < 9223372036854775808) (h2 : b < 9223372036854775808) : (0 ≤ lg_cmp (wI a) (wI b)) ↔ b ≤ a := by
  unfold lg_cmp
  by_cases c : wI a > wI b
  · rw [if_pos c]
    have := (wI_lt h2 h1).mp c
    exact ⟨fun x => by omega, fun x => by decide⟩
  · rw [if_neg c]
    have c' : ¬ b < a := fun x => c ((wI_lt h2 h1).mpr x)
    by_cases e : wI a = wI b
    · rw [if_pos e]
      have := wI_inj h1 h2 e
      exact ⟨fun _ => by omega, fun _ => by decide⟩
    · rw [if_neg e]
      have : a ≠ b := fun x => e (by rw [x])
      exact ⟨fun x => absurd x (by decide), fun x => by omega⟩
theorem updL2 (f : Nat → Int64) (a : Nat) (x y : Int64) : vp_updL (vp_updL f a x) a y = vp_updL f a y := by
  funext i
  unfold vp_updL
  by_cases h : i = a
  · rw [if_pos h, if_pos h]
  · rw [if_neg h, if_neg h, if_neg h]
theorem updL_at (f : Nat → Int64) (a : Nat) (x : Int64) : vp_updL f a x a = x := if_pos rfl
theorem updL_ne (f : Nat → Int64) {a b : Nat} (x : Int64) (h : b ≠ a) : vp_updL f a x b = f b := if_neg h
theorem updL_id (f : Nat → Int64) (a : Nat) : vp_updL f a (f a) = f := by
  funext i
  unfold vp_updL
  by_cases h : i = a
  · rw [if_pos h, h]
  · rw [if_neg h]
theorem upd_id (f : NF) (a : Nat) : upd f a (f a) = f := by
  funext i
  unfold upd
  by_cases h : i = a
  · rw [if_pos h, h]
  · rw [if_neg h]
/-- the lays that may stand there -/
noncomputable def gdM (Λ : Book) (q t half last : Int) (s k : Nat) : Bool := alw (bkZ Λ) s && bq (QuM Λ q t half last s k)
noncomputable def lyM (Λ : Book) (q t half last : Int) : List (Nat × Nat) := lst (gdM Λ q t half last) 3 0
/-- what stands behind the lay x -/
def xt (t : Int) (x : Nat × Nat) : Int := t + thg x.2 x.1 x.1
def xh (half : Int) (x : Nat × Nat) : Int := half + ((x.1 / 2 : Nat) : Int)
def xg (x : Nat × Nat) : Int := (x.1 : Int) - thg x.2 x.1 x.1
/-- the number of ways from there on, n quires at the most -/
noncomputable def Wn (Λ : Book) : Nat → Int → Int → Int → Int → Nat
  | 0, _, t, _, _ => if t = bkH Λ then 1 else 0
  | n + 1, q, t, half, last => if t = bkH Λ then 1 else ((lyM Λ q t half last).map (fun x => Wn Λ n (q + 1) (xt t x) (xh half x) (enl x.2))).sum
/-- one step of the fewest -/
noncomputable def fst1 (w : Nat × Nat → Nat) (f : Nat × Nat → Int) (b : Int) (x : Nat × Nat) : Int := if 0 < w x ∧ f x + xg x < b then f x + xg x else b
noncomputable def Fn (Λ : Book) : Nat → Int → Int → Int → Int → Int
  | 0, _, t, _, _ => if t = bkH Λ then 0 else 100
  | n + 1, q, t, half, last => if t = bkH Λ then 0 else (lyM Λ q t half last).foldl (fst1 (fun x => Wn Λ n (q + 1) (xt t x) (xh half x) (enl x.2)) (fun x => Fn Λ n (q + 1) (xt t x) (xh half x) (enl x.2))) 100
/-- the states that are met -/
def Mt (Λ : Book) : Nat → Int → Int → Int → Prop
  | 0, t, half, last => t = 0 ∧ half = 0 ∧ last = 0
  | q + 1, t', half', last' => ∃ t half last x, Mt Λ q t half last ∧ t < bkH Λ ∧ x ∈ lyM Λ q t half last ∧ t' = xt t x ∧ half' = xh half x ∧ last' = enl x.2
theorem lyM_mem {Λ : Book} {q t half last : Int} {x : Nat × Nat} : x ∈ lyM Λ q t half last ↔ ((x.1 = 2 ∨ x.1 = 4 ∨ x.1 = 6 ∨ x.1 = 8) ∧ x.2 < 2 ^ x.1 ∧ alw (bkZ Λ) x.1 = true ∧ QuM Λ q t half last x.1 x.2) := by
  unfold lyM
  rw [lst_mem 3 x (by omega)]
  unfold gdM
  rw [Bool.and_eq_true, bq_iff]
  constructor
  · rintro ⟨a, b, c, d, e⟩
    exact ⟨a, c, d, e⟩
  · rintro ⟨a, c, d, e⟩
    exact ⟨a, by omega, c, d, e⟩
theorem enl_b (k : Nat) : enl k = 0 ∨ enl k = 1 := by
  unfold enl
  split
  · exact Or.inl rfl
  · exact Or.inr rfl
theorem Mt_b {Λ : Book} (hB : BkW Λ) : ∀ (q : Nat) (t half last : Int), Mt Λ q t half last → 0 ≤ t ∧ t ≤ bkH Λ ∧ 0 ≤ half ∧ half ≤ 4 * q ∧ (last = 0 ∨ (last = 1 ∧ 1 ≤ t)) ∧ t ≤ 2 * half ∧ 2 * half - t ≤ 4 * q ∧ (q : Int) ≤ t
  | 0, t, half, last, h => by
    have h0 := hB.1
    obtain ⟨rfl, rfl, rfl⟩ := h
    exact ⟨by omega, by omega, by omega, by omega, Or.inl rfl, by omega, by omega, by omega⟩
  | q + 1, t', half', last', h => by
    obtain ⟨t, half, last, x, h1, h2, h3, rfl, rfl, rfl⟩ := h
    obtain ⟨a1, a2, a3, a4, a5, a6, a7, a8⟩ := Mt_b hB q t half last h1
    obtain ⟨b1, b2, b3, c1, c2, c3, _⟩ := lyM_mem.mp h3
    have tb := thg_b x.2 x.1 x.1
    have el := enl_b x.2
    unfold xt xh
    refine ⟨by omega, by omega, by omega, by omega, by omega, by omega, by omega, by omega⟩
theorem stn_inj {q t half last q' t' half' last' : Int} (t0 : 0 ≤ t) (t1 : t ≤ 30) (a0 : 0 ≤ half) (a1 : half ≤ 32) (l : last = 0 ∨ last = 1) (t0' : 0 ≤ t') (t1' : t' ≤ 30) (a0' : 0 ≤ half') (a1' : half' ≤ 32) (l' : last' = 0 ∨ last' = 1) (e : stn q t half last = stn q' t' half' last') : q = q' ∧ t = t' ∧ half = half' ∧ last = last' := by
  unfold stn at e
  omega
theorem stn_b {q t half last : Int} (q0 : 0 ≤ q) (q1 : q ≤ 8) (t0 : 0 ≤ t) (t1 : t ≤ 30) (a0 : 0 ≤ half) (a1 : half ≤ 32) (l : last = 0 ∨ last = 1) : 0 ≤ stn q t half last ∧ stn q t half last < 18414 := by
  unfold stn
  omega

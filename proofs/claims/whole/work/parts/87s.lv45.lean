section AO
variable {Λ : Book} {σ τ : Int → Int} {q t a last c f : Int} {s U k : Nat}
theorem AgO1 (hB : BkW Λ) (t0 : 0 ≤ t) (a0 : 0 ≤ a) (a1 : a ≤ 56) (ae : a % 2 = 0) (hU : 1 ≤ U) (hUs : U ≤ s) (hσ : ∀ h, t ≤ h → h < t + thg k s U → σ h = bsp Λ (see Λ (sen c f h) h) h ∧ τ h = bti Λ (see Λ (sen c f h) h) h) (h1 : (U : Int) - thg k s U ≤ 4) (h2 : t + thg k s U ≤ bkH Λ) (h3 : ∀ p : Nat, 1 ≤ p → p ≤ U → AgP Λ q t a last s s k c f p) : (∀ p : Nat, 1 ≤ p → p ≤ U → LyP Λ σ τ t s k p) ∧ (ahc σ t k s U = -1 ∨ ahc σ t k s U = a) ∧ Rch Λ t q (thg k s U) ∧ (last ≠ 0 → ¬ Gh k s ((1 : Nat) : Int) → τ t ≠ 2) := by
  have hlt (p : Nat) (p1 : 1 ≤ p) (p2 : p ≤ U) (g : ¬ Gh k s p) : t ≤ t + thg k s (p - 1) ∧ t + thg k s (p - 1) < t + thg k s U := by
    have e := thg_t p1 g
    have e2 := (thg_le k s p2).1
    have e3 := thg_b k s (p - 1)
    omega
  have hah : ahc σ t k s U = -1 ∨ ahc σ t k s U = a := by
    refine (ahc_iff a0 U).mpr (fun p p1 p2 g => ?_)
    obtain ⟨l1, l2⟩ := hlt p p1 p2 g
    have ag := (h3 p p1 p2 g).1.2.2
    rw [page_iff hB _ _ _ (by omega) (by omega) (by omega), ← (hσ _ l1 l2).1] at ag
    have sb := bsp_b hB (sen c f (t + thg k s (p - 1))) (t + thg k s (p - 1)) (by omega) (by omega)
    rw [← (hσ _ l1 l2).1] at sb
    exact (abh_iff a0 a1 ae (by omega) sb.1).mpr ag
  refine ⟨fun p p1 p2 => ⟨fun g => ?_, fun g => ?_⟩, hah, fun i i0 i1 => ?_, fun l g => ?_⟩
  · have := (thg_le k s p2).2
    omega
  · obtain ⟨l1, l2⟩ := hlt p p1 p2 g
    obtain ⟨f1, f2, f3⟩ := h3 p p1 p2 g
    refine ⟨by omega, f1.2.1, ahc_dn a0 hah p p2, fun w g' => ?_, fun w g' => Han_s.mp (f3 w g')⟩
    rw [(hσ _ l1 l2).2]
    refine f2 ?_
    unfold pvt
    rw [if_neg (by omega), if_neg g']
    omega
  · obtain ⟨p, p1, p2, g, e⟩ := thg_sur U i i0 i1
    rw [← e]
    have := (hlt p p1 p2 g).2
    exact ⟨by omega, (h3 p p1 p2 g).1.1⟩
  · obtain ⟨l1, l2⟩ := hlt 1 (by omega) hU g
    have z : thg k s (1 - 1) = 0 := rfl
    have w := (h3 1 (by omega) hU g).2.1 (by unfold pvt; rw [if_pos rfl]; exact l)
    rw [z, Int.add_zero] at l1 l2 w
    rw [(hσ t l1 l2).2]
    exact w
theorem AgO2 (hB : BkW Λ) (t0 : 0 ≤ t) (a0 : 0 ≤ a) (a1 : a ≤ 56) (ae : a % 2 = 0) (hUs : U ≤ s) (hσ : ∀ h, t ≤ h → h < t + thg k s U → σ h = bsp Λ (see Λ (sen c f h) h) h ∧ τ h = bti Λ (see Λ (sen c f h) h) h) (h1 : ∀ p : Nat, 1 ≤ p → p ≤ U → LyP Λ σ τ t s k p) (h2 : ahc σ t k s U = -1 ∨ ahc σ t k s U = a) (h3 : Rch Λ t q (thg k s U)) (h4 : last ≠ 0 → ¬ Gh k s ((1 : Nat) : Int) → τ t ≠ 2) : (U : Int) - thg k s U ≤ 4 ∧ ∀ p : Nat, 1 ≤ p → p ≤ U → AgP Λ q t a last s s k c f p := by
  refine ⟨gho_le U (fun p p1 p2 => (h1 p p1 p2).1), fun p p1 p2 g => ?_⟩
  obtain ⟨l2, f2, f3, f4, f5⟩ := (h1 p p1 p2).2 g
  have e := thg_t p1 g
  have e2 := (thg_le k s p2).1
  have e3 := thg_b k s (p - 1)
  have l1 : t ≤ t + thg k s (p - 1) := by omega
  have l3 : t + thg k s (p - 1) < t + thg k s U := by omega
  have sb := bsp_b hB (sen c f (t + thg k s (p - 1))) _ (by omega) l2
  have pg := (ahc_iff a0 U).mp h2 p p1 p2 g
  rw [← (hσ _ l1 l3).1] at sb
  rw [abh_iff a0 a1 ae (by omega) sb.1, (hσ _ l1 l3).1] at pg
  refine ⟨⟨(h3 _ (by omega) (by omega)).2, f2, (page_iff hB _ _ _ (by omega) l2 (by omega)).mpr pg⟩, fun w => ?_, fun w g' => Han_s.mp (f5 w g')⟩
  rw [← (hσ _ l1 l3).2]
  by_cases o : p = 1
  · subst o
    have z : thg k s (1 - 1) = 0 := rfl
    rw [z, Int.add_zero]
    refine h4 ?_ g
    intro l
    apply w
    unfold pvt
    rw [if_pos rfl]
    exact l
  · refine f4 (by omega) (fun g' => w ?_)
    unfold pvt
    rw [if_neg (by omega), if_pos g']
end AO
/-- the mask k of s places, and what it says of the first U -/
theorem Gh_U {k κ s U : Nat} (hU : U ≤ s) (e : k / 2 ^ (s - U) = κ) (r : Nat) (h1 : r ≤ U) : Gh k s r ↔ Gh κ U r := by
  show k / 2 ^ (s - ((r : Nat) : Int).toNat) % 2 = 1 ↔ κ / 2 ^ (U - ((r : Nat) : Int).toNat) % 2 = 1
  rw [Int.toNat_natCast, ← e, Nat.div_div_eq_div_mul, ← Nat.pow_add, show s - U + (U - r) = s - r by omega]
theorem thg_U {k κ s U : Nat} (hU : U ≤ s) (e : k / 2 ^ (s - U) = κ) : ∀ r : Nat, r ≤ U → thg k s r = thg κ U r
  | 0, _ => rfl
  | r + 1, h => by
    have g := Gh_U hU e (r + 1) h
    unfold thg
    rw [thg_U hU e r (by omega)]
    by_cases c : Gh k s ((r + 1 : Nat) : Int)
    · rw [if_pos c, if_pos (g.mp c)]
    · rw [if_neg c, if_neg (fun x => c (g.mpr x))]
theorem AgP_U {Λ : Book} {q t a last c f : Int} {k κ s U p : Nat} (hU : U ≤ s) (e : k / 2 ^ (s - U) = κ) (p1 : 1 ≤ p) (p2 : p ≤ U) : AgP Λ q t a last s s k c f p ↔ AgP Λ q t a last s U κ c f p := by
  have g := Gh_U hU e p p2
  have t1 := thg_U hU e (p - 1) (by omega)
  have pv : pvt k s last (p - 1) = pvt κ U last (p - 1) := by
    unfold pvt
    by_cases z : p - 1 = 0
    · rw [if_pos z, if_pos z]
    · rw [if_neg z, if_neg z]
      have g1 := Gh_U hU e (p - 1) (by omega)
      by_cases c : Gh k s ((p - 1 : Nat) : Int)
      · rw [if_pos c, if_pos (g1.mp c)]
      · rw [if_neg c, if_neg (fun x => c (g1.mpr x))]
  unfold AgP
  rw [g, t1, pv]
  by_cases m : s + 1 - p < p
  · have g2 := Gh_U hU e (s + 1 - p) (by omega)
    rw [g2, thg_U hU e (s - p) (by omega)]
  · constructor
    · intro w x
      exact ⟨(w x).1, (w x).2.1, fun y => absurd y m⟩
    · intro w x
      exact ⟨(w x).1, (w x).2.1, fun y => absurd y m⟩
/-- an open lay of the leaves t to N - 1 that may stand behind that state -/
def OpC (Λ : Book) (σ τ : Int → Int) (N t : Int) (q half last : Int) (s k p : Nat) : Prop := Su Λ σ τ t (N - 1) s k p ∧ Rch Λ t q (N - t) ∧ (ahc σ t k s p = -1 ∨ ahc σ t k s p = 2 * half) ∧ (last ≠ 0 → ¬ Gh k s ((1 : Nat) : Int) → τ t ≠ 2)
def OpM (Λ : Book) (N f q t half last : Int) (s U k : Nat) : Prop := N - t ≤ U ∧ U ≤ s ∧ (U : Int) ≤ N - t + 4 ∧ k < 2 ^ U ∧ k % 2 = 0 ∧ (U : Int) - popc k = N - t ∧ ∀ p : Nat, 1 ≤ p → p ≤ U → AgP Λ q t (2 * half) last s U k N f p
section OE
variable {Λ : Book} {σ τ : Int → Int} {N f q t half last : Int} {s : Nat}
theorem Su_o {k p : Nat} (hN : 0 ≤ N - 1) (h : Su Λ σ τ t (N - 1) s k p) : 1 ≤ p ∧ p ≤ s ∧ LyA Λ σ τ t s k p ∧ t + thg k s p = N ∧ ¬ Gh k s p ∧ ∀ r : Nat, r < p → t + thg k s r ≤ N - 1 := by
  obtain ⟨a, b, c, d⟩ := h
  rcases d with ⟨d, _⟩ | ⟨_, d, e⟩
  · omega
  · have e1 := e (p - 1) (by omega)
    have g : ¬ Gh k s p := by
      intro g
      have := thg_g a g
      omega
    have e2 := thg_t a g
    exact ⟨a, b, c, by omega, g, e⟩
theorem Op_C (hB : BkW Λ) (t0 : 0 ≤ t) (htN : t < N) (hNH : N ≤ bkH Λ) (a0 : 0 ≤ half) (a1 : half ≤ 28) (hs : s ≤ 8) (hσ : ∀ h, 0 ≤ h → h < N → σ h = bsp Λ (see Λ (sen N f h) h) h ∧ τ h = bti Λ (see Λ (sen N f h) h) h) : (∃ k p, k < 2 ^ s ∧ OpC Λ σ τ N t q half last s k p) ↔ ∃ U k, OpM Λ N f q t half last s U k := by
  constructor
  · rintro ⟨k, p, hk, hsu, hr, ha, hl⟩
    obtain ⟨p1, p2, ly, en, g, lt⟩ := Su_o (by omega) hsu
    have tb := thg_b k s p
    have ek : k / 2 ^ (s - p) = k / 2 ^ (s - p) := rfl
    have hr2 : Rch Λ t q (thg k s p) := by rw [show thg k s p = N - t by omega]; exact hr
    obtain ⟨g4, ag⟩ := AgO2 (c := N) (f := f) (last := last) hB t0 (by omega) (by omega) (by omega) p2 (fun h h0 h1 => hσ h (by omega) (by omega)) ly ha hr2 hl
    have hkm : k / 2 ^ (s - p) < 2 ^ p := by
      rw [Nat.div_lt_iff_lt_mul (Nat.lt_of_lt_of_le Nat.zero_lt_one Nat.one_le_two_pow), ← Nat.pow_add, show p + (s - p) = s by omega]
      exact hk
    have gm := Gh_U p2 ek p (Nat.le_refl _)
    have ev : k / 2 ^ (s - p) % 2 = 0 := by
      have : ¬ Gh (k / 2 ^ (s - p)) p p := fun x => g (gm.mpr x)
      have this' : ¬ k / 2 ^ (s - p) / 2 ^ (p - ((p : Nat) : Int).toNat) % 2 = 1 := this
      rw [Int.toNat_natCast, Nat.sub_self, Nat.pow_zero, Nat.div_one] at this'
      omega
    have tp := thg_popc p (by omega) (k / 2 ^ (s - p)) hkm
    have tu := thg_U p2 ek p (Nat.le_refl _)
    refine ⟨p, k / 2 ^ (s - p), by omega, p2, by omega, hkm, ev, by omega, fun r r1 r2 => (AgP_U p2 ek r1 r2).mp (ag r r1 r2)⟩
  · rintro ⟨U, km, o1, o2, o3, o4, o5, o6, o7⟩
    have hE : 0 < 2 ^ (s - U) := Nat.lt_of_lt_of_le Nat.zero_lt_one Nat.one_le_two_pow
    have ek : km * 2 ^ (s - U) / 2 ^ (s - U) = km := Nat.mul_div_cancel _ hE
    have hk : km * 2 ^ (s - U) < 2 ^ s := by
      have := Nat.mul_lt_mul_of_pos_right o4 hE
      rw [← Nat.pow_add, show U + (s - U) = s by omega] at this
      exact this
    have tu := thg_U o2 ek U (Nat.le_refl _)
    have tp := thg_popc U (by omega) km o4
    have en : t + thg (km * 2 ^ (s - U)) s U = N := by omega
    obtain ⟨l1, l2, l3, l4⟩ := AgO1 (σ := σ) (τ := τ) (c := N) (f := f) (last := last) (q := q) hB t0 (show 0 ≤ 2 * half by omega) (by omega) (by omega) (by omega) o2 (fun h h0 h1 => hσ h (by omega) (by omega)) (by omega) (by omega) (fun p p1 p2 => (AgP_U o2 ek p1 p2).mpr (o7 p p1 p2))
    have gU : ¬ Gh (km * 2 ^ (s - U)) s U := by
      intro x
      have := (Gh_U o2 ek U (Nat.le_refl _)).mp x
      have this' : km / 2 ^ (U - ((U : Nat) : Int).toNat) % 2 = 1 := this
      rw [Int.toNat_natCast, Nat.sub_self, Nat.pow_zero, Nat.div_one] at this'
      omega
    have tt := thg_t (k := km * 2 ^ (s - U)) (s := s) (p := U) (by omega) gU
    refine ⟨km * 2 ^ (s - U), U, hk, ⟨by omega, o2, l1, Or.inr ⟨by omega, by omega, fun r r1 => ?_⟩⟩, ?_, l2, l4⟩
    · have := (thg_le (km * 2 ^ (s - U)) s (show r ≤ U - 1 by omega)).1
      omega
    · rw [show N - t = thg (km * 2 ^ (s - U)) s U by omega]
      exact l3
end OE

def σC (Λ : Book) (h : Int) : Int := bsp Λ (bkX Λ h) h
def τC (Λ : Book) (h : Int) : Int := bti Λ (bkX Λ h) h
noncomputable def lyC (Λ : Book) (t : Int) : List (Nat × Nat) := lst (gdC Λ (σC Λ) (τC Λ) t) 3 0
def xa (Λ : Book) (t : Int) (x : Nat × Nat) : Int := ahc (σC Λ) t x.2 x.1 x.1
/-- the lay x may stand there, if it agrees in itself -/
def Cn (Λ : Book) (q t half last : Int) (x : Nat × Nat) : Prop := (xa Λ t x = -1 ∨ xa Λ t x = 2 * half) ∧ Rch Λ t q (thg x.2 x.1 x.1) ∧ (last ≠ 0 → ¬ Gh x.2 x.1 ((1 : Nat) : Int) → τC Λ t ≠ 2)
section CK
variable {Λ : Book}
theorem sen1 (c h : Int) : sen c 1 h = 1 := by unfold sen; rw [if_neg (by omega)]
theorem see1 (h : Int) : see Λ 1 h = bkX Λ h := by unfold see; rw [if_neg (by omega)]
theorem tab1 (t : Int) : ∀ h, t ≤ h → h < bkH Λ → σC Λ h = bsp Λ (see Λ (sen (bkH Λ) 1 h) h) h ∧ τC Λ h = bti Λ (see Λ (sen (bkH Λ) 1 h) h) h := by
  intro h _ _
  rw [sen1, see1]
  exact ⟨rfl, rfl⟩
theorem Sb_iff {σ τ : Int → Int} {t : Int} {s k : Nat} : Sb Λ σ τ t (-1) s k ↔ ((s = 2 ∨ s = 4 ∨ s = 6 ∨ s = 8) ∧ k < 2 ^ s ∧ alw (bkZ Λ) s = true ∧ 1 ≤ thg k s s ∧ LyA Λ σ τ t s k s) := by
  constructor
  · rintro ⟨a, b, c, p, d⟩
    obtain ⟨_, e, f⟩ := Su_w d
    exact ⟨a, b, c, e, f⟩
  · rintro ⟨a, b, c, e, f⟩
    exact ⟨a, b, c, s, by omega, Nat.le_refl _, f, Or.inl ⟨rfl, rfl, e⟩⟩
theorem QuM_iff (hB : BkW Λ) {q t half last : Int} {s k : Nat} (t0 : 0 ≤ t) (t1 : t ≤ bkH Λ) (a0 : 0 ≤ half) (a1 : half ≤ 28) (hs : 1 ≤ s) : QuM Λ q t half last s k ↔ (1 ≤ thg k s s ∧ LyA Λ (σC Λ) (τC Λ) t s k s ∧ Cn Λ q t half last (s, k)) := by
  constructor
  · rintro ⟨h1, h2, h3, h4⟩
    obtain ⟨g1, g2, g3, g4⟩ := AgLy1 hB t0 (by omega) (by omega) (by omega) hs (Nat.le_refl s) (tab1 t) h2 h3 h4
    exact ⟨h1, g1, g2, g3, g4⟩
  · rintro ⟨h1, h2, h3, h4, h5⟩
    obtain ⟨g1, g2, g3⟩ := AgLy2 (last := last) hB t0 (by omega) (by omega) (by omega) (Nat.le_refl s) (tab1 t) h2 h3 h4 h5 t1
    exact ⟨h1, g1, g2, g3⟩
theorem lyM_C (hB : BkW Λ) {q t half last : Int} (t0 : 0 ≤ t) (t1 : t ≤ bkH Λ) (a0 : 0 ≤ half) (a1 : half ≤ 28) : lyM Λ q t half last = (lyC Λ t).filter (fun x => bq (Cn Λ q t half last x)) := by
  unfold lyM lyC
  rw [← lst_fil (F := fun s k => bq (Cn Λ q t half last (s, k)))]
  refine lst_cg 3 0 (by omega) (Nat.zero_le _) (fun s k hs hk => ?_)
  show gdM Λ q t half last s k = (gdC Λ (σC Λ) (τC Λ) t s k && bq (Cn Λ q t half last (s, k)))
  have iff := QuM_iff hB (q := q) (last := last) (s := s) (k := k) t0 t1 a0 a1 (by omega)
  unfold gdM gdC
  rw [Bool.eq_iff_iff, Bool.and_eq_true, Bool.and_eq_true, bq_iff, bq_iff, bq_iff, iff, Sb_iff]
  constructor
  · rintro ⟨a, b, c, d⟩
    exact ⟨⟨hs, hk, a, b, c⟩, d⟩
  · rintro ⟨⟨_, _, a, b, c⟩, d⟩
    exact ⟨a, b, c, d⟩
theorem lyC_mem {t : Int} {x : Nat × Nat} : x ∈ lyC Λ t ↔ Sb Λ (σC Λ) (τC Λ) t (-1) x.1 x.2 := by
  unfold lyC
  rw [lst_mem 3 x (by omega)]
  unfold gdC
  rw [bq_iff]
  constructor
  · rintro ⟨_, _, _, d⟩
    exact d
  · intro d
    have := d.1
    exact ⟨d.1, by omega, d.2.1, d⟩
theorem ahc_lo {σ τ : Int → Int} {t : Int} {s k : Nat} : ∀ p : Nat, LyA Λ σ τ t s k p → ahc σ t k s p ≠ -2
  | 0, _ => by unfold ahc; omega
  | p + 1, h => by
    by_cases g : Gh k s ((p + 1 : Nat) : Int)
    · rw [ahc, if_pos g]
      exact ahc_lo p (fun r r1 r2 => h r r1 (by omega))
    · exact ((h (p + 1) (by omega) (by omega)).2 g).2.2.1
theorem abh_56 (S p : Int) : -2 ≤ abh S p ∧ abh S p ≤ 56 ∧ (0 ≤ abh S p → S = abh S p + (p - 1)) := by
  unfold abh
  by_cases c1 : S = -1
  · rw [if_pos c1]; omega
  · rw [if_neg c1]
    by_cases c2 : S - (p - 1) < 0
    · rw [if_pos c2]; omega
    · rw [if_neg c2]
      by_cases c3 : 56 < S - (p - 1)
      · rw [if_pos c3]; omega
      · rw [if_neg c3]
        by_cases c4 : (S - (p - 1)) % 2 = 0
        · rw [if_pos c4]; omega
        · rw [if_neg c4]; omega
theorem tog_56 {a b : Int} (h1 : -2 ≤ a ∧ a ≤ 56) (h2 : -2 ≤ b ∧ b ≤ 56) : -2 ≤ tog a b ∧ tog a b ≤ 56 := by
  unfold tog
  by_cases c1 : a = -1
  · rw [if_pos c1]; exact h2
  · rw [if_neg c1]
    by_cases c2 : a = b
    · rw [if_pos c2]; exact h2
    · rw [if_neg c2]
      by_cases c3 : b = -1
      · rw [if_pos c3]; exact h1
      · rw [if_neg c3]; omega
theorem ahc_56 (σ : Int → Int) (t : Int) (k s : Nat) : ∀ p : Nat, -2 ≤ ahc σ t k s p ∧ ahc σ t k s p ≤ 56
  | 0 => by unfold ahc; omega
  | p + 1 => by
    have ih := ahc_56 σ t k s p
    unfold ahc
    by_cases g : Gh k s ((p + 1 : Nat) : Int)
    · rw [if_pos g]; exact ih
    · rw [if_neg g]
      have := abh_56 (σ (t + thg k s p)) ((p + 1 : Nat) : Int)
      exact tog_56 ih ⟨this.1, this.2.1⟩
theorem xa_b {t : Int} {x : Nat × Nat} (h : x ∈ lyC Λ t) : -1 ≤ xa Λ t x ∧ xa Λ t x ≤ 56 := by
  have l := (Sb_iff.mp (lyC_mem.mp h)).2.2.2.2
  have b := ahc_56 (σC Λ) t x.2 x.1 x.1
  have n := ahc_lo _ l
  unfold xa
  omega
theorem lyC_b {t : Int} {x : Nat × Nat} (t0 : 0 ≤ t) (t1 : t ≤ bkH Λ) (h : x ∈ lyC Λ t) : (x.1 = 2 ∨ x.1 = 4 ∨ x.1 = 6 ∨ x.1 = 8) ∧ x.2 < 2 ^ x.1 ∧ 1 ≤ thg x.2 x.1 x.1 ∧ thg x.2 x.1 x.1 ≤ x.1 ∧ 0 ≤ xg x ∧ xg x ≤ 4 ∧ xt t x ≤ bkH Λ ∧ t < xt t x := by
  obtain ⟨a, b, c, d, e⟩ := Sb_iff.mp (lyC_mem.mp h)
  have tb := thg_b x.2 x.1 x.1
  have g := gho_le x.1 (fun p p1 p2 => (e p p1 p2).1)
  obtain ⟨p, p1, p2, p3, p4⟩ := thg_sur (k := x.2) (s := x.1) x.1 (thg x.2 x.1 x.1 - 1) (by omega) (by omega)
  have l := ((e p p1 p2).2 p3).1
  rw [p4] at l
  unfold xg xt
  exact ⟨a, b, d, tb.2, by omega, g, by omega, by omega⟩
theorem lyC_len (Λ : Book) (t : Int) : (lyC Λ t).length ≤ 238 := by
  have e : lyC Λ t = ly0.filter (fun x => gdC Λ (σC Λ) (τC Λ) t x.1 x.2) := by
    unfold lyC ly0
    rw [← lst_fil]
    refine lst_cg 3 0 (by omega) (Nat.zero_le _) (fun s k _ _ => ?_)
    show gdC Λ (σC Λ) (τC Λ) t s k = (gd0 s k && gdC Λ (σC Λ) (τC Λ) t s k)
    cases h : gdC Λ (σC Λ) (τC Λ) t s k
    · rw [Bool.and_false]
    · unfold gdC at h
      rw [bq_iff, Sb_iff] at h
      have g := gho_le s (fun p p1 p2 => (h.2.2.2.2 p p1 p2).1)
      have : gd0 s k = true := by
        unfold gd0
        rw [decide_eq_true h.2.2.2.1, decide_eq_true g]
        rfl
      rw [this]
      rfl
  rw [e, ← ly0_len]
  exact List.length_filter_le _ _
/-- the last leaf with a spot -/
def Lsp (Λ : Book) (L : Int) : Prop := -1 ≤ L ∧ L < bkH Λ ∧ ∀ h, L < h → 0 ≤ h → h < bkH Λ → σC Λ h = -1
theorem ahc_no {t L : Int} (hL : Lsp Λ L) (t0 : 0 ≤ t) (ht : L < t) {s k : Nat} : ∀ p : Nat, LyA Λ (σC Λ) (τC Λ) t s k p → ahc (σC Λ) t k s p = -1
  | 0, _ => rfl
  | p + 1, h => by
    have ih := ahc_no hL t0 ht p (fun r r1 r2 => h r r1 (by omega))
    by_cases g : Gh k s ((p + 1 : Nat) : Int)
    · rw [ahc, if_pos g]; exact ih
    · have l := ((h (p + 1) (by omega) (by omega)).2 g).1
      rw [show p + 1 - 1 = p by omega] at l
      have tb := thg_b k s p
      rw [ahc, if_neg g, ih, hL.2.2 _ (by omega) (by omega) l]
      rfl
/-- the states that weigh alike -/
def Eqv (Λ : Book) (L t half last half' last' : Int) : Prop := (t ≤ L → half = half') ∧ ((last ≠ 0 ∧ τC Λ t ≠ 0) ↔ (last' ≠ 0 ∧ τC Λ t ≠ 0))
theorem Eqv_ly (hB : BkW Λ) {L q t half last half' last' : Int} (hL : Lsp Λ L) (t0 : 0 ≤ t) (t1 : t ≤ bkH Λ) (a0 : 0 ≤ half) (a1 : half ≤ 28) (a0' : 0 ≤ half') (a1' : half' ≤ 28) (e : Eqv Λ L t half last half' last') : lyM Λ q t half last = lyM Λ q t half' last' := by
  rw [lyM_C hB t0 t1 a0 a1, lyM_C hB t0 t1 a0' a1']
  refine List.filter_congr (fun x hx => bq_c ?_)
  unfold Cn
  have i1 : (xa Λ t x = -1 ∨ xa Λ t x = 2 * half) ↔ (xa Λ t x = -1 ∨ xa Λ t x = 2 * half') := by
    by_cases c : t ≤ L
    · rw [e.1 c]
    · have := ahc_no hL t0 (by omega) x.1 (Sb_iff.mp (lyC_mem.mp hx)).2.2.2.2
      have n : xa Λ t x = -1 := this
      exact ⟨fun _ => Or.inl n, fun _ => Or.inl n⟩
  have i2 : (last ≠ 0 → ¬ Gh x.2 x.1 ((1 : Nat) : Int) → τC Λ t ≠ 2) ↔ (last' ≠ 0 → ¬ Gh x.2 x.1 ((1 : Nat) : Int) → τC Λ t ≠ 2) := by
    constructor
    · intro w l g z
      have := e.2.mpr ⟨l, by omega⟩
      exact w this.1 g z
    · intro w l g z
      have := e.2.mp ⟨l, by omega⟩
      exact w this.1 g z
  rw [i1, i2]
theorem xt_b {q t half last : Int} {x : Nat × Nat} (hx : x ∈ lyM Λ q t half last) : t + 1 ≤ xt t x ∧ xt t x ≤ bkH Λ ∧ xh half x ≤ half + 4 ∧ half ≤ xh half x ∧ 0 ≤ xg x ∧ xg x ≤ 4 := by
  obtain ⟨b1, b2, b3, c1, c2, c3, _⟩ := lyM_mem.mp hx
  have tb := thg_b x.2 x.1 x.1
  unfold xt xh xg
  omega
theorem Eqv_nx {L q t half last half' last' : Int} {x : Nat × Nat} (hx : x ∈ lyM Λ q t half last) (e : Eqv Λ L t half last half' last') : Eqv Λ L (xt t x) (xh half x) (enl x.2) (xh half' x) (enl x.2) := by
  have := xt_b hx
  refine ⟨fun c => ?_, Iff.rfl⟩
  rw [e.1 (by omega)]
theorem Eqv_W (hB : BkW Λ) {L : Int} (hL : Lsp Λ L) : ∀ (n : Nat) (q t half last half' last' : Int), 0 ≤ t → t ≤ bkH Λ → 0 ≤ half → half + 4 * n ≤ 32 → 0 ≤ half' → half' + 4 * n ≤ 32 → (t < bkH Λ → Eqv Λ L t half last half' last') → Wn Λ n q t half last = Wn Λ n q t half' last' ∧ Fn Λ n q t half last = Fn Λ n q t half' last'
  | 0, q, t, half, last, half', last', t0, t1, a0, a1, a0', a1', e => by
    unfold Wn Fn
    exact ⟨rfl, rfl⟩
  | n + 1, q, t, half, last, half', last', t0, t1, a0, a1, a0', a1', e => by
    by_cases c : t = bkH Λ
    · unfold Wn Fn
      rw [if_pos c, if_pos c, if_pos c, if_pos c]
      exact ⟨rfl, rfl⟩
    · have e' := e (by omega)
      have el := Eqv_ly hB (q := q) hL t0 t1 a0 (by omega) a0' (by omega) e'
      have st (x : Nat × Nat) (hx : x ∈ lyM Λ q t half last) := by
        have b := xt_b hx
        have hx' := hx
        rw [el] at hx'
        have b' := xt_b hx'
        exact Eqv_W hB hL n (q + 1) (xt t x) (xh half x) (enl x.2) (xh half' x) (enl x.2) (by omega) b.2.1 (by omega) (by omega) (by omega) (by omega) (fun _ => Eqv_nx hx e')
      have fo : ∀ (l : List (Nat × Nat)) (b : Int), (∀ x, x ∈ l → x ∈ lyM Λ q t half last) → l.foldl (fst1 (fun x => Wn Λ n (q + 1) (xt t x) (xh half x) (enl x.2)) (fun x => Fn Λ n (q + 1) (xt t x) (xh half x) (enl x.2))) b = l.foldl (fst1 (fun x => Wn Λ n (q + 1) (xt t x) (xh half' x) (enl x.2)) (fun x => Fn Λ n (q + 1) (xt t x) (xh half' x) (enl x.2))) b := by
        intro l
        induction l with
        | nil => intro b _; rfl
        | cons y l ih =>
          intro b h
          have sy := st y (h y List.mem_cons_self)
          rw [List.foldl_cons, List.foldl_cons, ih _ (fun x hx => h x (List.mem_cons_of_mem _ hx))]
          congr 1
          unfold fst1
          simp only [sy.1, sy.2]
      unfold Wn Fn
      rw [if_neg c, if_neg c, if_neg c, if_neg c, fo _ _ (fun x hx => hx), ← el]
      refine ⟨?_, rfl⟩
      congr 1
      exact List.map_congr_left (fun x hx => (st x hx).1)
end CK

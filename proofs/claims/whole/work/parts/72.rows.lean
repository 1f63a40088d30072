/-- row j of the class (k kinds, w whole, m marks, c things) and the model's rows say the same -/
def RR (j c : Nat) (k w m kk tt mm : Nat → Int32) : Prop := ∀ i, i < c → k i = kk (30 * j + i) ∧ w i = tt (30 * j + i) ∧ ∀ q, q < 7 → m (i * 7 + q) = mm (7 * (30 * j + i) + q)
theorem RR_put {j c p : Nat} {k w m kk tt mm : Nat → Int32} {x : Int32} (h : RR j c k w m kk tt mm) (hp : p ≤ c) : RR j (c + 1) (upd (opn 1 p c k) p x) (upd (opn 1 p c w) p 7) (mz (opn 7 p c m) (p * 7) 0) (upd (opm 1 (30 * j) p c kk) (30 * j + p) x) (upd (opm 1 (30 * j) p c tt) (30 * j + p) 7) (mz (opm 7 (30 * j) p c mm) (7 * (30 * j + p)) 0) := by
  intro i hi
  unfold upd opn opm mz
  simp only [Nat.mul_one]
  by_cases h1 : i = p
  · subst h1
    refine ⟨by rw [if_pos rfl, if_pos rfl], by rw [if_pos rfl, if_pos rfl], fun q hq => ?_⟩
    rw [if_pos (by omega), if_pos (by omega)]
  · rw [if_neg h1, if_neg h1, if_neg (show ¬ 30 * j + i = 30 * j + p by omega), if_neg (show ¬ 30 * j + i = 30 * j + p by omega)]
    by_cases h2 : i < p
    · rw [if_neg (by omega), if_neg (by omega), if_neg (by omega), if_neg (by omega)]
      refine ⟨(h i (by omega)).1, (h i (by omega)).2.1, fun q hq => ?_⟩
      rw [if_neg (by omega), if_neg (by omega), if_neg (by omega), if_neg (by omega)]
      exact (h i (by omega)).2.2 q hq
    · have g := h (i - 1) (by omega)
      rw [if_pos (by omega), if_pos (by omega), if_pos (by omega), if_pos (by omega)]
      have e : 30 * j + i - 1 = 30 * j + (i - 1) := by omega
      rw [e]
      refine ⟨g.1, g.2.1, fun q hq => ?_⟩
      rw [if_neg (by omega), if_pos (by omega), if_neg (by omega), if_pos (by omega)]
      have e1 : i * 7 + q - 7 = (i - 1) * 7 + q := by omega
      have e2 : 7 * (30 * j + i) + q - 7 = 7 * (30 * j + (i - 1)) + q := by omega
      rw [e1, e2]
      exact g.2.2 q hq
/-- the other rows stay -/
theorem RR_put_other {j j' c c' p : Nat} {k w m kk tt mm : Nat → Int32} {x : Int32} (h : RR j' c' k w m kk tt mm) (hne : j' ≠ j) (hc' : c' ≤ 30) (hc : c < 30) (hp : p ≤ c) : RR j' c' k w m (upd (opm 1 (30 * j) p c kk) (30 * j + p) x) (upd (opm 1 (30 * j) p c tt) (30 * j + p) 7) (mz (opm 7 (30 * j) p c mm) (7 * (30 * j + p)) 0) := by
  intro i hi
  unfold upd opm mz
  simp only [Nat.mul_one]
  have g := h i hi
  rw [if_neg (show ¬ 30 * j' + i = 30 * j + p by omega), if_neg (show ¬ 30 * j' + i = 30 * j + p by omega), if_neg (by omega), if_neg (by omega)]
  refine ⟨g.1, g.2.1, fun q hq => ?_⟩
  rw [if_neg (by omega), if_neg (by omega)]
  exact g.2.2 q hq
theorem put_eq (told x : Int32) (many k t m : Nat → Int32) (j p c : Nat) (hj : j < 6) (hm : many j = nI c) (hc : c < 30) (hp : p ≤ c) (h1 : ¬ x < 1) (h5 : x ≤ 5) : F_X8_put told many k t m (nI j) (nI p) x = some (nI (c + 1), 0, upd many j (nI (c + 1)), upd (opm 1 (30 * j) p c k) (30 * j + p) x, upd (opm 1 (30 * j) p c t) (30 * j + p) 7, mz (opm 7 (30 * j) p c m) (7 * (30 * j + p)) 0) := by
  unfold F_X8_put F_X8_isRow
  rw [if_neg (nI_pos (by omega)), if_neg (by rw [nI_6]; exact nI_ge hj (by omega))]
  rw [Option.bind_some, if_neg (show ¬ qb true = 0 by decide), if_neg (nI_pos (by omega)), ck_t (inb_nI hj (by omega)), nI_clamp (by omega), hm, if_neg (nI_nlt hp (by omega)), if_neg h1, if_neg (Int32.not_lt.mpr h5), ck_t (inb_nI hj (by omega)), if_neg (by rw [nI_30]; intro q; have := (nI_eq (by omega) (by omega)).mp q; omega), ck_t (inb_nI hj (by omega)), put_b58_eq 0 x many j p hj (by omega) (c - p) FU c k t m (by omega) hc (by unfold FU; omega), hm, nI_1]

theorem cpy_0 (m : Nat → Int32) (a b : Nat) : va_cpy m m a b 0 = m := by
  funext i
  unfold va_cpy
  rw [if_neg (by omega)]
theorem cpy_step (m : Nat → Int32) (a b q d : Nat) (hd : q + (d + 1) = 7) (h : a ≠ b) : va_cpy (upd m (7 * b + q) (m (7 * a + q))) (upd m (7 * b + q) (m (7 * a + q))) (7 * a + (q + 1)) (7 * b + (q + 1)) d = va_cpy m m (7 * a + q) (7 * b + q) (d + 1) := by
  funext i
  unfold va_cpy upd
  by_cases h1 : 7 * b + (q + 1) ≤ i ∧ i < 7 * b + (q + 1) + d
  · rw [if_pos h1, if_neg (by omega), if_pos (by omega)]
    congr 1
    omega
  · rw [if_neg h1]
    by_cases h2 : i = 7 * b + q
    · rw [if_pos h2, if_pos (by omega)]
      congr 1
      omega
    · rw [if_neg h2, if_neg (by omega)]
theorem move_b26_eq (k t : Nat → Int32) (a b : Nat) (ha : a < 180) (hb : b < 180) (hab : a ≠ b) : ∀ (d n q : Nat) (m : Nat → Int32), q + d = 7 → d < n →
    F_X8_move_b26 n k t m (nI a) (nI b) (nI q) = some (k, t, va_cpy m m (7 * a + q) (7 * b + q) d)
  | 0, n + 1, q, m, hq, _ => by
    have : q = 7 := by omega
    subst this
    unfold F_X8_move_b26
    rw [if_pos (by decide), cpy_0]
  | d + 1, n + 1, q, m, hq, hn => by
    unfold F_X8_move_b26
    rw [if_neg (by rw [nI_7]; exact nI_ge (by omega) (by omega)), nI_7, nI_mul, nI_mul, nI_add, nI_add, ck_t (inb_nI (by omega) (by omega)), ck_t (inb_nI (by omega) (by omega)), nI_clamp (by omega), nI_clamp (by omega), nI_1, move_b26_eq k t a b ha hb hab d n (q + 1) _ (by omega) (by omega), cpy_step m a b q d hq hab]
theorem move_eq (k t m : Nat → Int32) (a b : Nat) (ha : a < 180) (hb : b < 180) (hab : a ≠ b) : F_X8_move k t m (nI a) (nI b) = some (upd k b (k a), upd t b (t a), va_cpy m m (7 * a) (7 * b) 7) := by
  unfold F_X8_move
  rw [ck_t (inb_nI ha (by omega)), ck_t (inb_nI hb (by omega)), ck_t (inb_nI ha (by omega)), ck_t (inb_nI hb (by omega)), nI_clamp (by omega), nI_clamp (by omega), ← nI_0, move_b26_eq _ _ a b ha hb hab 7 FU 0 m rfl (by unfold FU; omega)]
  rfl
/-- the model's rows lie one behind the other: place p of row j opened -/
theorem put_b118_eq (told : Int32) (many k t : Nat → Int32) (j a : Nat) (hj : j < 6) (ha : a < 180) : ∀ (d n q : Nat) (m : Nat → Int32), q + d = 7 → d < n →
    F_X8_put_b118 n told many k t m (nI j) (nI a) (nI q) = some (many j + 1, told, upd many j (many j + 1), k, t, mz m (7 * a) q)
  | 0, n + 1, q, m, hq, _ => by
    have : q = 7 := by omega
    subst this
    unfold F_X8_put_b118
    rw [if_pos (by decide), ck_t (inb_nI hj (by omega)), ck_t (inb_nI hj (by omega)), ck_t (inb_nI hj (by omega)), nI_clamp (by omega), mz_7]
    simp only [upd, if_pos]
  | d + 1, n + 1, q, m, hq, hn => by
    unfold F_X8_put_b118
    rw [if_neg (by rw [nI_7]; exact nI_ge (by omega) (by omega)), nI_7, nI_mul, nI_add, ck_t (inb_nI (by omega) (by omega)), nI_clamp (by omega), nI_1, put_b118_eq told many k t j a hj ha d n (q + 1) _ (by omega) (by omega), mz_up m (7 * a) q (by omega)]
/-- cells p..c-1 behind base g stand one further -/
def opm (s g p c : Nat) (f : Nat → Int32) : Nat → Int32 := fun i => if (g + p + 1) * s ≤ i ∧ i < (g + c + 1) * s then f (i - s) else f i
theorem opm_0 (s g p : Nat) (f : Nat → Int32) : opm s g p p f = f := by
  funext i
  unfold opm
  rw [if_neg (by omega)]
theorem opm_upd (g p c : Nat) (f : Nat → Int32) (h : p ≤ c) : opm 1 g p c (upd f (g + (c + 1)) (f (g + c))) = opm 1 g p (c + 1) f := by
  funext i
  unfold opm upd
  simp only [Nat.mul_one]
  by_cases h1 : g + p + 1 ≤ i ∧ i < g + c + 1
  · rw [if_pos h1, if_neg (by omega), if_pos (by omega)]
  · rw [if_neg h1]
    by_cases h2 : i = g + (c + 1)
    · rw [if_pos h2, if_pos (by omega)]
      congr 1
      omega
    · rw [if_neg h2, if_neg (by omega)]
theorem opm_cpy (g p c : Nat) (f : Nat → Int32) (h : p ≤ c) : opm 7 g p c (va_cpy f f (7 * (g + c)) (7 * (g + (c + 1))) 7) = opm 7 g p (c + 1) f := by
  funext i
  unfold opm va_cpy
  by_cases h1 : (g + p + 1) * 7 ≤ i ∧ i < (g + c + 1) * 7
  · rw [if_pos h1, if_neg (by omega), if_pos (by omega)]
  · rw [if_neg h1]
    by_cases h2 : 7 * (g + (c + 1)) ≤ i ∧ i < 7 * (g + (c + 1)) + 7
    · rw [if_pos h2, if_pos (by omega)]
      congr 1
      omega
    · rw [if_neg h2, if_neg (by omega)]
theorem put_b58_eq (told x : Int32) (many : Nat → Int32) (j p : Nat) (hj : j < 6) (hp : p < 30) : ∀ (d n q : Nat) (k t m : Nat → Int32), p + d = q → q < 30 → d < n →
    F_X8_put_b58 n told many k t m (nI j) (nI p) x (nI q) = some (many j + 1, told, upd many j (many j + 1), upd (opm 1 (30 * j) p q k) (30 * j + p) x, upd (opm 1 (30 * j) p q t) (30 * j + p) 7, mz (opm 7 (30 * j) p q m) (7 * (30 * j + p)) 0)
  | 0, n + 1, q, k, t, m, hq, h30, _ => by
    have : q = p := by omega
    subst this
    unfold F_X8_put_b58
    rw [if_pos (nI_le (Nat.le_refl _) (by omega)), nI_30, nI_mul, nI_add, ck_t (inb_nI (by omega) (by omega)), ck_t (inb_nI (by omega) (by omega)), nI_clamp (by omega), ← nI_0, put_b118_eq told many _ _ j (30 * j + q) hj (by omega) 7 FU 0 m rfl (by unfold FU; omega), opm_0, opm_0, opm_0]
  | d + 1, n + 1, q + 1, k, t, m, hq, h30, hn => by
    unfold F_X8_put_b58
    rw [if_neg (nI_ge (by omega) (by omega)), nI_30, nI_mul, nI_add, show 30 * j + (q + 1) = (30 * j + q) + 1 by omega, nI_pred, move_eq k t m (30 * j + q) (30 * j + q + 1) (by omega) (by omega) (by omega)]
    show F_X8_put_b58 n told many _ _ _ (nI j) (nI p) x (nI (q + 1) + (-1)) = _
    rw [nI_m1, put_b58_eq told x many j p hj hp d n q _ _ _ (by omega) (by omega) (by omega)]
    rw [show 30 * j + q + 1 = 30 * j + (q + 1) by omega, opm_upd (30 * j) p q k (by omega), opm_upd (30 * j) p q t (by omega), opm_cpy (30 * j) p q m (by omega)]

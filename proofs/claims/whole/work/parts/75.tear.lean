theorem tear_b16_eq (w : Nat → Int32) (p : Nat) (x : Int32) (hp : p < 30) : ∀ (d n q : Nat) (m : Nat → Int32), q + d = 7 → d < n →
    F_X5_tearTo_b16 n w m (nI p) x (nI q) = some (if x < w p then x else w p, upd w p (if x < w p then x else w p), mz m (p * 7) q, true)
  | 0, n + 1, q, m, hq, _ => by
    have : q = 7 := by omega
    subst this
    unfold F_X5_tearTo_b16
    rw [if_pos (by decide), ck_t (inb_nI hp (by omega)), ck_t (inb_nI hp (by omega)), ck_t (inb_nI hp (by omega)), nI_clamp (by omega), mz_7]
    simp only [upd, if_pos]
  | d + 1, n + 1, q, m, hq, hn => by
    unfold F_X5_tearTo_b16
    rw [if_neg (by rw [nI_7]; exact nI_ge (by omega) (by omega)), nI_7, nI_mul, nI_add, ck_t (inb_nI (by omega) (by omega)), nI_clamp (by omega), nI_1, tear_b16_eq w p x hp d n (q + 1) _ (by omega) (by omega), mz_up m (p * 7) q (by omega)]
theorem tear_b56_eq (told : Int32) (t : Nat → Int32) (a : Nat) (ha : a < 180) : ∀ (d n q : Nat) (m : Nat → Int32), q + d = 7 → d < n →
    F_X8_tear_b56 n told t m (nI a) (nI q) = some (t a, told, t, mz m (7 * a) q)
  | 0, n + 1, q, m, hq, _ => by
    have : q = 7 := by omega
    subst this
    unfold F_X8_tear_b56
    rw [if_pos (by decide), ck_t (inb_nI ha (by omega)), nI_clamp (by omega), mz_7]
  | d + 1, n + 1, q, m, hq, hn => by
    unfold F_X8_tear_b56
    rw [if_neg (by rw [nI_7]; exact nI_ge (by omega) (by omega)), nI_7, nI_mul, nI_add, ck_t (inb_nI (by omega) (by omega)), nI_clamp (by omega), nI_1, tear_b56_eq told t a ha d n (q + 1) _ (by omega) (by omega), mz_up m (7 * a) q (by omega)]

theorem ck_t {α : Type} {b : Bool} {o : Option α} (h : b = true) : ck b o = o := by rw [h]; rfl
theorem inb_nI {n N : Nat} (h : n < N) (hN : N < 2 ^ 31) : inb (nI n) N = true := by
  unfold inb
  rw [nI_clamp (by omega), decide_eq_true (nI_pos' (show n < 2 ^ 31 by omega)), decide_eq_true h]
  rfl
theorem nI_mul (a b : Nat) : nI a * nI b = nI (a * b) := (Int32.ofNat_mul a b).symm
theorem nI_m1 (a : Nat) : nI (a + 1) + (-1) = nI a := by
  rw [nI_succ, Int32.add_assoc, show (1 : Int32) + (-1) = 0 by decide, Int32.add_zero]
theorem nI_7 : (7 : Int32) = nI 7 := by decide
theorem nI_30 : (30 : Int32) = nI 30 := by decide
theorem nI_6 : (6 : Int32) = nI 6 := by decide
/-- zeros behind an insertion -/
def mz (m : Nat → Int32) (a q : Nat) : Nat → Int32 := fun i => if a + q ≤ i ∧ i < a + 7 then 0 else m i
theorem mz_7 (m : Nat → Int32) (a : Nat) : mz m a 7 = m := by
  funext i
  unfold mz
  rw [if_neg (by omega)]
theorem mz_up (m : Nat → Int32) (a q : Nat) (hq : q < 7) : mz (upd m (a + q) 0) a (q + 1) = mz m a q := by
  funext i
  unfold mz upd
  by_cases h1 : a + q ≤ i ∧ i < a + 7
  · rw [if_pos h1]
    by_cases h2 : i = a + q
    · rw [if_neg (by omega), if_pos h2]
    · rw [if_pos (by omega)]
  · rw [if_neg h1, if_neg (by omega), if_neg (by omega)]
theorem insert_b74_eq (k w : Nat → Int32) (c : Int32) (a : Nat) (ha : a < 30) : ∀ (d n q : Nat) (m : Nat → Int32), q + d = 7 → d < n →
    F_X5_insert_b74 n k w m c (nI a) (nI q) = some (c + 1, k, w, mz m (a * 7) q, c + 1, true)
  | 0, n + 1, q, m, hq, _ => by
    have : q = 7 := by omega
    subst this
    unfold F_X5_insert_b74
    rw [if_pos (by decide), mz_7]
  | d + 1, n + 1, q, m, hq, hn => by
    unfold F_X5_insert_b74
    rw [if_neg (by rw [nI_7]; exact nI_ge (by omega) (by omega)), nI_7, nI_mul, nI_add, ck_t (inb_nI (by omega) (by omega)), nI_clamp (by omega), nI_1, insert_b74_eq k w c a ha d n (q + 1) _ (by omega) (by omega), mz_up m (a * 7) q (by omega)]
theorem cpok_nI {a b n N M : Nat} (h1 : a + n ≤ N) (h2 : b + n ≤ M) (hN : N < 2 ^ 31) (hM : M < 2 ^ 31) : cpok (nI a) (nI b) (nI n) N M = true := by
  unfold cpok
  rw [nI_clamp (by omega), nI_clamp (by omega), nI_clamp (by omega), decide_eq_true (nI_pos' (show a < 2 ^ 31 by omega)), decide_eq_true (nI_pos' (show b < 2 ^ 31 by omega)), decide_eq_true (nI_pos' (show n < 2 ^ 31 by omega)), decide_eq_true h1, decide_eq_true h2]
  rfl
theorem shift_eq (k w m : Nat → Int32) (a b : Nat) (ha : a < 30) (hb : b < 30) : F_X5_shift k w m (nI a) (nI b) = some (upd k b (k a), upd w b (w a), va_cpy m m (a * 7) (b * 7) 7) := by
  unfold F_X5_shift
  rw [ck_t (inb_nI ha (by omega)), ck_t (inb_nI hb (by omega)), ck_t (inb_nI ha (by omega)), ck_t (inb_nI hb (by omega)), nI_7, nI_mul, nI_mul, ck_t (cpok_nI (by omega) (by omega) (by omega) (by omega)), nI_clamp (by omega), nI_clamp (by omega), nI_clamp (by omega), nI_clamp (by omega), nI_clamp (by omega)]
/-- a row with place p opened: cells p..c-1 stand one further -/
def opn (s p c : Nat) (f : Nat → Int32) : Nat → Int32 := fun i => if (p + 1) * s ≤ i ∧ i < (c + 1) * s then f (i - s) else f i
theorem opn_0 (s p : Nat) (f : Nat → Int32) : opn s p p f = f := by
  funext i
  unfold opn
  rw [if_neg (by omega)]
theorem opn_upd (p c : Nat) (f : Nat → Int32) (h : p ≤ c) : opn 1 p c (upd f (c + 1) (f c)) = opn 1 p (c + 1) f := by
  funext i
  unfold opn upd
  simp only [Nat.mul_one]
  by_cases h1 : p + 1 ≤ i ∧ i < c + 1
  · rw [if_pos h1, if_neg (by omega), if_pos (by omega)]
  · rw [if_neg h1]
    by_cases h2 : i = c + 1
    · subst h2
      rw [if_pos rfl, if_pos (by omega)]
      rfl
    · rw [if_neg h2, if_neg (by omega)]
theorem opn_cpy (p c : Nat) (f : Nat → Int32) (h : p ≤ c) : opn 7 p c (va_cpy f f (c * 7) ((c + 1) * 7) 7) = opn 7 p (c + 1) f := by
  funext i
  unfold opn va_cpy
  by_cases h1 : (p + 1) * 7 ≤ i ∧ i < (c + 1) * 7
  · rw [if_pos h1, if_neg (by omega), if_pos (by omega)]
  · rw [if_neg h1]
    by_cases h2 : (c + 1) * 7 ≤ i ∧ i < (c + 1) * 7 + 7
    · rw [if_pos h2, if_pos (by omega)]
      congr 1
      omega
    · rw [if_neg h2, if_neg (by omega)]
theorem insert_b38_eq (c x2 : Int32) (p : Nat) (hp : p < 30) : ∀ (d n q : Nat) (k w m : Nat → Int32), p + d = q → q < 30 → d < n →
    F_X5_insert_b38 n k w m c (nI p) x2 (nI q) = some (c + 1, upd (opn 1 p q k) p x2, upd (opn 1 p q w) p 7, mz (opn 7 p q m) (p * 7) 0, c + 1, true)
  | 0, n + 1, q, k, w, m, hq, h30, _ => by
    have : q = p := by omega
    subst this
    unfold F_X5_insert_b38
    rw [if_pos (nI_le (Nat.le_refl _) (by omega)), ck_t (inb_nI hp (by omega)), ck_t (inb_nI hp (by omega)), nI_clamp (by omega), ← nI_0, insert_b74_eq _ _ c q hp 7 FU 0 m rfl (by unfold FU; omega), opn_0, opn_0, opn_0]
  | d + 1, n + 1, q + 1, k, w, m, hq, h30, hn => by
    unfold F_X5_insert_b38
    rw [if_neg (nI_ge (by omega) (by omega)), nI_pred, shift_eq k w m q (q + 1) (by omega) (by omega)]
    show F_X5_insert_b38 n _ _ _ c (nI p) x2 (nI (q + 1) + (-1)) = _
    rw [nI_m1, insert_b38_eq c x2 p hp d n q _ _ _ (by omega) (by omega) (by omega), opn_upd p q k (by omega), opn_upd p q w (by omega), opn_cpy p q m (by omega)]
/-- the class's insertion, whole -/
theorem insert_eq (k w m : Nat → Int32) (c : Nat) (chg : Bool) (p : Nat) (x : Int32) (hc : c < 30) (hp : p ≤ c) (h1 : ¬ x < 1) (h5 : x ≤ 5) : F_X5_insert k w m (nI c) chg (nI p) x = some (nI (c + 1), upd (opn 1 p c k) p x, upd (opn 1 p c w) p 7, mz (opn 7 p c m) (p * 7) 0, nI (c + 1), true) := by
  unfold F_X5_insert
  rw [if_neg (nI_pos (by omega)), if_neg (nI_nlt hp (by omega)), if_neg (by rw [nI_30]; exact nI_ge hc (by omega)), if_neg h1, if_pos h5, insert_b38_eq _ x p (by omega) (c - p) FU c k w m (by omega) hc (by unfold FU; omega), nI_1]

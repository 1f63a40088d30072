/-- behind base g: cells b+1..e stand one nearer -/
def clm (s g b e : Nat) (f : Nat → Int32) : Nat → Int32 := fun i => if (g + b) * s ≤ i ∧ i < (g + e) * s then f (i + s) else f i
theorem clm_0 (s g b : Nat) (f : Nat → Int32) : clm s g b b f = f := by
  funext i
  unfold clm
  rw [if_neg (by omega)]
theorem clm_upd (g b e : Nat) (f : Nat → Int32) (h : b < e) : clm 1 g (b + 1) e (upd f (g + b) (f (g + b + 1))) = clm 1 g b e f := by
  funext i
  unfold clm upd
  simp only [Nat.mul_one]
  by_cases h1 : g + (b + 1) ≤ i ∧ i < g + e
  · rw [if_pos h1, if_neg (by omega), if_pos (by omega)]
  · rw [if_neg h1]
    by_cases h2 : i = g + b
    · subst h2
      rw [if_pos rfl, if_pos (by omega)]
    · rw [if_neg h2, if_neg (by omega)]
theorem clm_cpy (g b e : Nat) (f : Nat → Int32) (h : b < e) : clm 7 g (b + 1) e (va_cpy f f (7 * (g + b + 1)) (7 * (g + b)) 7) = clm 7 g b e f := by
  funext i
  unfold clm va_cpy
  by_cases h1 : (g + (b + 1)) * 7 ≤ i ∧ i < (g + e) * 7
  · rw [if_pos h1, if_neg (by omega), if_pos (by omega)]
  · rw [if_neg h1]
    by_cases h2 : 7 * (g + b) ≤ i ∧ i < 7 * (g + b) + 7
    · rw [if_pos h2, if_pos (by omega)]
      congr 1
      omega
    · rw [if_neg h2, if_neg (by omega)]
theorem remove_b14_eq (e : Nat) (he : e < 30) : ∀ (d n b : Nat) (k w m : Nat → Int32), b + d = e → d < n →
    F_X5_remove_b14 n k w m (nI (e + 1)) (nI (b + 1)) = some (nI e, clm 1 0 b e k, clm 1 0 b e w, clm 7 0 b e m, nI e, true)
  | 0, n + 1, b, k, w, m, hb, _ => by
    have : b = e := by omega
    subst this
    unfold F_X5_remove_b14
    rw [if_pos (nI_le (Nat.le_refl _) (by omega)), nI_pred, clm_0, clm_0, clm_0]
  | d + 1, n + 1, b, k, w, m, hb, hn => by
    unfold F_X5_remove_b14
    rw [if_neg (nI_ge (by omega) (by omega)), nI_pred, shift_eq k w m (b + 1) b (by omega) (by omega), Option.bind_some, nI_1, remove_b14_eq e he d n (b + 1) _ _ _ (by omega) (by omega)]
    have h1 := fun f => clm_upd 0 b e f (by omega)
    have h2 := fun f => clm_cpy 0 b e f (by omega)
    simp only [Nat.zero_add] at h1 h2
    rw [h1, h1, Nat.mul_comm (b + 1) 7, Nat.mul_comm b 7, h2]
theorem remove_eq (k w m : Nat → Int32) (e b : Nat) (chg : Bool) (he : e < 30) (hb : b ≤ e) : F_X5_remove k w m (nI (e + 1)) chg (nI b) = some (nI e, clm 1 0 b e k, clm 1 0 b e w, clm 7 0 b e m, nI e, true) := by
  unfold F_X5_remove F_X5_has
  rw [if_neg (nI_pos (by omega)), if_neg (nI_ge (by omega) (by omega)), Option.bind_some, if_neg (show ¬ qb true = 0 by decide), nI_1, remove_b14_eq e he (e - b) FU b k w m (by omega) (by unfold FU; omega)]
theorem gone_b32_eq (told : Int32) (many : Nat → Int32) (j e : Nat) (hj : j < 6) (hm : many j = nI e) (he : e < 30) : ∀ (d n b : Nat) (k t m : Nat → Int32), b + d = e → d < n →
    F_X8_gone_b32 n told many k t m (nI j) (nI b) = some (nI e, told, many, clm 1 (30 * j) b e k, clm 1 (30 * j) b e t, clm 7 (30 * j) b e m)
  | 0, n + 1, b, k, t, m, hb, _ => by
    have : b = e := by omega
    subst this
    unfold F_X8_gone_b32
    rw [ck_t (inb_nI hj (by omega)), nI_clamp (by omega), hm, if_pos (nI_le (Nat.le_refl _) (by omega)), ck_t (inb_nI hj (by omega)), clm_0, clm_0, clm_0]
  | d + 1, n + 1, b, k, t, m, hb, hn => by
    unfold F_X8_gone_b32
    rw [ck_t (inb_nI hj (by omega)), nI_clamp (by omega), hm, if_neg (nI_ge (by omega) (by omega)), nI_30, nI_mul, nI_add, nI_1, move_eq k t m (30 * j + b + 1) (30 * j + b) (by omega) (by omega) (by omega), Option.bind_some, nI_1, gone_b32_eq told many j e hj hm he d n (b + 1) _ _ _ (by omega) (by omega), clm_upd _ _ _ _ (by omega), clm_upd _ _ _ _ (by omega), clm_cpy _ _ _ _ (by omega)]
theorem RR_gone {j e b : Nat} {k w m kk tt mm : Nat → Int32} (h : RR j (e + 1) k w m kk tt mm) (hb : b ≤ e) : RR j e (clm 1 0 b e k) (clm 1 0 b e w) (clm 7 0 b e m) (clm 1 (30 * j) b e kk) (clm 1 (30 * j) b e tt) (clm 7 (30 * j) b e mm) := by
  intro i hi
  unfold clm
  simp only [Nat.mul_one, Nat.zero_add]
  by_cases h1 : b ≤ i
  · have g := h (i + 1) (by omega)
    rw [if_pos (by omega), if_pos (by omega), if_pos (by omega), if_pos (by omega)]
    refine ⟨g.1, g.2.1, fun q hq => ?_⟩
    rw [if_pos (by omega), if_pos (by omega)]
    have e1 : i * 7 + q + 7 = (i + 1) * 7 + q := by omega
    have e2 : 7 * (30 * j + i) + q + 7 = 7 * (30 * j + (i + 1)) + q := by omega
    rw [e1, e2]
    exact g.2.2 q hq
  · have g := h i (by omega)
    rw [if_neg (by omega), if_neg (by omega), if_neg (by omega), if_neg (by omega)]
    refine ⟨g.1, g.2.1, fun q hq => ?_⟩
    rw [if_neg (by omega), if_neg (by omega)]
    exact g.2.2 q hq
theorem RR_gone_other {j j' e c' b : Nat} {k w m kk tt mm : Nat → Int32} (h : RR j' c' k w m kk tt mm) (hne : j' ≠ j) (hc' : c' ≤ 30) (he : e < 30) : RR j' c' k w m (clm 1 (30 * j) b e kk) (clm 1 (30 * j) b e tt) (clm 7 (30 * j) b e mm) := by
  intro i hi
  unfold clm
  simp only [Nat.mul_one]
  have g := h i hi
  rw [if_neg (by omega), if_neg (by omega)]
  refine ⟨g.1, g.2.1, fun q hq => ?_⟩
  rw [if_neg (by omega)]
  exact g.2.2 q hq
theorem isThing_eq (many : Nat → Int32) (j c p : Nat) (hj : j < 6) (hm : many j = nI c) (hc : c ≤ 30) (hp : p < c) : F_X8_isThing many (nI j) (nI p) = some true := by
  unfold F_X8_isThing F_X8_isRow
  rw [if_neg (nI_pos (by omega)), if_neg (by rw [nI_6]; exact nI_ge hj (by omega)), Option.bind_some, if_neg (show ¬ qb true = 0 by decide), if_neg (nI_pos (by omega)), ck_t (inb_nI hj (by omega)), nI_clamp (by omega), hm, if_neg (nI_ge hp (by omega))]
theorem gone_eq (told : Int32) (many k t m : Nat → Int32) (j e b : Nat) (hj : j < 6) (hm : many j = nI (e + 1)) (he : e < 30) (hb : b ≤ e) : F_X8_gone told many k t m (nI j) (nI b) = some (nI e, 0, upd many j (nI e), clm 1 (30 * j) b e k, clm 1 (30 * j) b e t, clm 7 (30 * j) b e m) := by
  unfold F_X8_gone
  rw [isThing_eq many j (e + 1) b hj hm (by omega) (by omega), Option.bind_some, if_neg (show ¬ qb true = 0 by decide), ck_t (inb_nI hj (by omega)), ck_t (inb_nI hj (by omega)), nI_clamp (by omega), hm, nI_pred, gone_b32_eq 0 _ j e hj (by unfold upd; rw [if_pos rfl]) he (e - b) FU b k t m (by omega) (by unfold FU; omega)]

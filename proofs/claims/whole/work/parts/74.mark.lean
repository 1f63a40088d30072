theorem most_eq : ∀ q, q < 7 → F_X8_most (nI q) = some (s_mark q) := by decide +kernel
theorem has_eq (c p : Nat) (hc : c ≤ 30) (hp : p < c) : F_X5_has (nI c) (nI p) = some true := by
  unfold F_X5_has
  rw [if_neg (nI_pos (by omega)), if_neg (nI_ge hp (by omega))]
theorem setMark_eq (w m : Nat → Int32) (c p q v : Nat) (chg : Bool) (x : Int32) (hc : c ≤ 30) (hp : p < c) (hw : w p = nI v) (hv : v ≤ 7) (hq : q < v) (hx : ¬ x < 0) (hx2 : x ≤ s_mark q) : F_X5_setMark w m (nI c) chg (nI p) (nI q) x = some (true, upd m (p * 7 + q) x, true) := by
  unfold F_X5_setMark
  rw [has_eq c p hc hp, Option.bind_some, if_neg (show ¬ qb true = 0 by decide), if_neg (nI_pos (by omega)), ck_t (inb_nI (by omega) (by omega)), nI_clamp (by omega), hw, if_neg (nI_ge hq (by omega)), if_pos (by rw [nI_7]; exact nI_lt (by omega) (by omega)), if_neg hx, ck_t (inb_nI (by omega) (by omega)), nI_clamp (by omega), if_pos hx2, nI_7, nI_mul, nI_add, ck_t (inb_nI (by omega) (by omega)), nI_clamp (by omega)]
theorem mark_eq (told : Int32) (many t mm : Nat → Int32) (j c p q v : Nat) (x : Int32) (hj : j < 6) (hm : many j = nI c) (hc : c ≤ 30) (hp : p < c) (hw : t (30 * j + p) = nI v) (hv : v ≤ 7) (hq : q < v) (hx : ¬ x < 0) (hx2 : x ≤ s_mark q) : F_X8_mark told many t mm (nI j) (nI p) (nI q) x = some (true, 0, upd mm (7 * (30 * j + p) + q) x) := by
  unfold F_X8_mark
  rw [isThing_eq many j c p hj hm hc hp, Option.bind_some, if_neg (show ¬ qb true = 0 by decide), if_neg (nI_pos (by omega)), if_neg (by rw [nI_6]; exact nI_nlt (by omega) (by omega)), if_neg hx, most_eq q (by omega), Option.bind_some, if_neg (Int32.not_lt.mpr hx2), nI_30, nI_mul, nI_add, ck_t (inb_nI (by omega) (by omega)), nI_clamp (by omega), hw, if_pos (nI_lt hq (by omega)), nI_7, nI_mul, nI_add, ck_t (inb_nI (by omega) (by omega)), nI_clamp (by omega)]
theorem RR_mark {j c p q : Nat} {k w m kk tt mm : Nat → Int32} {x : Int32} (h : RR j c k w m kk tt mm) (hp : p < c) (hq : q < 7) : RR j c k w (upd m (p * 7 + q) x) kk tt (upd mm (7 * (30 * j + p) + q) x) := by
  intro i hi
  have g := h i hi
  refine ⟨g.1, g.2.1, fun r hr => ?_⟩
  unfold upd
  by_cases e : i = p ∧ r = q
  · rw [if_pos (by omega), if_pos (by omega)]
  · rw [if_neg (by omega), if_neg (by omega)]
    exact g.2.2 r hr
theorem RR_mark_other {j j' c' p q : Nat} {k w m kk tt mm : Nat → Int32} {x : Int32} (h : RR j' c' k w m kk tt mm) (hne : j' ≠ j) (hc' : c' ≤ 30) (hp : p < 30) (hq : q < 7) : RR j' c' k w m kk tt (upd mm (7 * (30 * j + p) + q) x) := by
  intro i hi
  have g := h i hi
  refine ⟨g.1, g.2.1, fun r hr => ?_⟩
  unfold upd
  rw [if_neg (by omega)]
  exact g.2.2 r hr

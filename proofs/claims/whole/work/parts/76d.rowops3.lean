section OPS
variable {j : Nat} {K W M R : Nat → Int32} {C : Int32} {many kk tt mm sz sg lt pg : Nat → Int32}
theorem tear_b16_any (w m : Nat → Int32) (p n : Nat) (hp : p < 30) (hn : n < 2147483648) : F_X5_tearTo_b16 FU w m (nI p) (nI n) (nI n) = some (if nI n < w p then nI n else w p, upd w p (if nI n < w p then nI n else w p), mz m (p * 7) n, true) := by
  by_cases h : n ≤ 7
  · exact tear_b16_eq w p (nI n) hp (7 - n) FU n m (by omega) (by unfold FU; omega)
  · show F_X5_tearTo_b16 (1048575 + 1) w m (nI p) (nI n) (nI n) = _
    unfold F_X5_tearTo_b16
    rw [if_pos (by rw [nI_7]; exact nI_le (by omega) (by omega)), ck_t (inb_nI hp (by omega)), ck_t (inb_nI hp (by omega)), ck_t (inb_nI hp (by omega)), nI_clamp (by omega)]
    have e : mz m (p * 7) n = m := by
      funext i
      unfold mz
      rw [if_neg (by omega)]
    rw [e]
    simp only [upd, if_pos]
theorem RR_tear {c p n : Nat} {x : Int32} (h : RR j c K W M kk tt mm) (hW : RowW c K W M) (hp : p < c) (hx : x.toInt = n) (t' : Nat → Int32) (n' : Nat) (ht : t' = upd tt (30 * j + p) (if x < W p then x else W p)) (hn : n' = n ∨ ((W p).toInt ≤ n ∧ n' = (W p).toInt.toNat)) : RR j c K (upd W p (if x < W p then x else W p)) (mz M (p * 7) n) kk t' (mz mm (7 * (30 * j + p)) n') := by
  intro i hi
  have g := h i hi
  subst ht
  refine ⟨g.1, ?_, fun r hr => ?_⟩
  · unfold upd
    by_cases e : i = p
    · rw [if_pos e, if_pos (show 30 * j + i = 30 * j + p by omega)]
    · rw [if_neg e, if_neg (show ¬ 30 * j + i = 30 * j + p by omega)]
      exact g.2.1
  · unfold mz
    by_cases e : i = p
    · subst e
      have w := hW i hi
      have w2 := w.2.2.2.2 r hr
      rcases hn with hn | ⟨hn1, hn2⟩
      · subst hn
        by_cases e2 : n' ≤ r
        · rw [if_pos (by omega), if_pos (by omega)]
        · rw [if_neg (by omega), if_neg (by omega)]
          exact g.2.2 r hr
      · by_cases e2 : n' ≤ r
        · rw [if_pos (show 7 * (30 * j + i) + n' ≤ 7 * (30 * j + i) + r ∧ 7 * (30 * j + i) + r < 7 * (30 * j + i) + 7 by omega)]
          by_cases e3 : i * 7 + n ≤ i * 7 + r ∧ i * 7 + r < i * 7 + 7
          · rw [if_pos e3]
          · rw [if_neg e3]
            exact w2.2.2 (by omega)
        · rw [if_neg (by omega), if_neg (by omega)]
          exact g.2.2 r hr
    · rw [if_neg (by omega), if_neg (by omega)]
      exact g.2.2 r hr
theorem RR_tear_other {j' c' p n : Nat} {x : Int32} (h : RR j' c' K W M kk tt mm) (hne : j' ≠ j) (hc' : c' ≤ 30) (hp : p < 30) : RR j' c' K W M kk (upd tt (30 * j + p) x) (mz mm (7 * (30 * j + p)) n) := by
  intro i hi
  have g := h i hi
  unfold upd mz
  refine ⟨g.1, by rw [if_neg (by omega)]; exact g.2.1, fun r hr => ?_⟩
  rw [if_neg (by omega)]
  exact g.2.2 r hr
theorem upd_same (f : Nat → Int32) (a : Nat) (x : Int32) (h : f a = x) : upd f a x = f := by
  funext i
  unfold upd
  by_cases e : i = a
  · rw [if_pos e, e, h]
  · rw [if_neg e]
theorem tear_eq (told : Int32) (c p n : Nat) (hj : j < 6) (hm : many j = nI c) (hc : c ≤ 30) (hp : p < c) (hn : n < 2147483648) (hw : 0 ≤ (tt (30 * j + p)).toInt ∧ (tt (30 * j + p)).toInt ≤ 7) : ∃ n', F_X8_tear told many tt mm (nI j) (nI p) (nI n) = some ((if nI n < tt (30 * j + p) then nI n else tt (30 * j + p)), 0, upd tt (30 * j + p) (if nI n < tt (30 * j + p) then nI n else tt (30 * j + p)), mz mm (7 * (30 * j + p)) n') ∧ (n' = n ∨ ((tt (30 * j + p)).toInt ≤ n ∧ n' = (tt (30 * j + p)).toInt.toNat)) := by
  obtain ⟨w, hw', hw7, hwi⟩ : ∃ w : Nat, tt (30 * j + p) = nI w ∧ w ≤ 7 ∧ (tt (30 * j + p)).toInt = w := ⟨(tt (30 * j + p)).toInt.toNat, by rw [nI_zI, Int.toNat_of_nonneg hw.1]; exact tI_of _, by omega, by omega⟩
  unfold F_X8_tear
  rw [isThing_eq many j c p hj hm hc hp, Option.bind_some, if_neg (show ¬ qb true = 0 by decide), if_pos (nI_pos' (by omega)), nI_30, nI_mul, nI_add, ck_t (inb_nI (by omega) (by omega)), nI_clamp (by omega), hwi, hw']
  by_cases h : w ≤ n
  · rw [if_pos (nI_le h (by omega))]
    unfold F_X8_tear_b47
    rw [ck_t (inb_nI (by omega) (by omega)), nI_clamp (by omega), hw', tear_b56_eq 0 tt (30 * j + p) (by omega) (7 - w) FU w mm (by omega) (by unfold FU; omega)]
    refine ⟨w, ?_, Or.inr ⟨by omega, by omega⟩⟩
    rw [if_neg (nI_nlt h (by omega)), upd_same _ _ _ hw', hw']
  · rw [if_neg (nI_ge (by omega) (by omega)), ck_t (inb_nI (by omega) (by omega))]
    unfold F_X8_tear_b47
    have e : upd tt (30 * j + p) (nI n) (30 * j + p) = nI n := by unfold upd; rw [if_pos rfl]
    rw [ck_t (inb_nI (by omega) (by omega)), nI_clamp (by omega), e, tear_b56_eq 0 _ (30 * j + p) (by omega) (7 - n) FU n mm (by omega) (by unfold FU; omega), e]
    refine ⟨n, ?_, Or.inl rfl⟩
    rw [if_pos (nI_lt (by omega) (by omega))]
theorem op_tear (hj : j < 6) (hr : RowR j K W M C many kk tt mm) (told : Int32) (chg : Bool) (v2 v3 : Int32) : ∃ c1 c2, F_X7_tear_ok W M C chg (nI j) v2 v3 = some c1 ∧ F_X8_tear told many tt mm (nI j) v2 v3 = some c2 ∧ c1.1 = c2.1 ∧ RowR j K c1.2.1 c1.2.2.1 C many kk c2.2.2.1 c2.2.2.2 ∧ (∀ j' K' W' M' C', j' ≠ j → RowR j' K' W' M' C' many kk tt mm → RowR j' K' W' M' C' many kk c2.2.2.1 c2.2.2.2) ∧ (c1.2.2.2 = true ∨ c1.2 = (W, M, chg)) := by
  obtain ⟨c, hc, rfl, hm, hRR, hW⟩ := hr
  obtain ⟨a, ha1, ha2, rfl⟩ := zI_of v2
  obtain ⟨n, hn1, hn2, rfl⟩ := zI_of v3
  unfold F_X7_tear_ok
  by_cases h : 0 ≤ a ∧ a < c ∧ 0 ≤ n
  · have g := hRR a.toNat (by omega)
    have w := hW a.toNat (by omega)
    obtain ⟨n', e, hn'⟩ := tear_eq (tt := tt) (mm := mm) told c a.toNat n.toNat hj hm hc (by omega) (by omega) (by rw [← g.2.1]; exact ⟨w.2.2.1, w.2.2.2.1⟩)
    rw [← g.2.1] at e hn'
    have hx : (nI n.toNat).toInt = n.toNat := by rw [nI_zI, zI_toInt (by omega) (by omega)]
    have e5 : F_X5_tearTo W M (nI c) chg (nI a.toNat) (nI n.toNat) = some (if nI n.toNat < W a.toNat then nI n.toNat else W a.toNat, upd W a.toNat (if nI n.toNat < W a.toNat then nI n.toNat else W a.toNat), mz M (a.toNat * 7) n.toNat, true) := by
      unfold F_X5_tearTo
      rw [has_eq c a.toNat hc (by omega), Option.bind_some, if_neg (show ¬ qb true = 0 by decide), if_pos (nI_pos' (by omega)), tear_b16_any W M a.toNat n.toNat (by omega) (by omega)]
    rw [zI_nI h.1, zI_nI h.2.2, e5, e]
    refine ⟨_, _, rfl, rfl, rfl, ⟨c, hc, rfl, hm, RR_tear hRR hW (by omega) hx _ n' rfl hn', RowW_tear hW (by omega) (by omega) hx⟩, ?_, Or.inl rfl⟩
    rintro j' K' W' M' C' hne ⟨c', hc', rfl, hm', hRR', hW'⟩
    exact ⟨c', hc', rfl, hm', RR_tear_other hRR' hne hc' (by omega), hW'⟩
  · rw [nI_zI c, tear_no1 c a n chg (by omega) (by omega) ha1 ha2 hn1 hn2 h, tear_no2 told c a n hj hm hc ha1 ha2 hn1 hn2 h]
    exact ⟨_, _, rfl, rfl, rfl, ⟨c, hc, (nI_zI c).symm, hm, hRR, hW⟩, fun _ _ _ _ _ _ h => h, Or.inr rfl⟩
/-- how many hang among things b .. -/
def hcnt (K : Nat → Int32) : Nat → Nat → Int
  | _, 0 => 0
  | b, d + 1 => (if K b = 1 ∨ K b = 2 then 1 else 0) + hcnt K (b + 1) d
theorem hanging_b4_eq (c : Nat) (hc : c ≤ 30) (hW : RowW c K W M) : ∀ (d n b : Nat) (x : Int), b + d = c → d < n → F_X5_hanging_b4 K (nI c) n (zI x) (nI b) = some (zI (x + hcnt K b d))
  | 0, n + 1, b, x, hb, _ => by
    unfold F_X5_hanging_b4
    rw [if_pos (nI_le (by omega) (by omega))]
    simp only [hcnt, Int.add_zero]
  | d + 1, n + 1, b, x, hb, hn => by
    unfold F_X5_hanging_b4
    rw [if_neg (nI_ge (by omega) (by omega)), ck_t (inb_nI (by omega) (by omega)), nI_clamp (by omega), nI_1]
    unfold F_X7_isHanging
    by_cases h1 : K b = 1
    · rw [if_pos h1, Option.bind_some, if_neg (by decide), zl_1, zI_add, hanging_b4_eq c hc hW d n (b + 1) _ (by omega) (by omega)]
      simp only [hcnt, if_pos (show K b = 1 ∨ K b = 2 from Or.inl h1)]
      congr 2
      omega
    · rw [if_neg h1]
      by_cases h2 : K b = 2
      · rw [if_pos h2, Option.bind_some, if_neg (by decide), zl_1, zI_add, hanging_b4_eq c hc hW d n (b + 1) _ (by omega) (by omega)]
        simp only [hcnt, if_pos (show K b = 1 ∨ K b = 2 from Or.inr h2)]
        congr 2
        omega
      · rw [if_neg h2, Option.bind_some, if_pos (by decide), hanging_b4_eq c hc hW d n (b + 1) _ (by omega) (by omega)]
        simp only [hcnt, if_neg (show ¬ (K b = 1 ∨ K b = 2) from fun h => h.elim h1 h2)]
        congr 2
        omega
theorem about_b36_eq (c : Nat) (hc : c ≤ 30) (hj : j < 6) (hm : many j = nI c) (hRR : RR j c K W M kk tt mm) (told : Int32) : ∀ (d n b : Nat) (x : Int), b + d = c → d < n → F_X8_about_b36 many kk n told (nI j) (zI x) (nI b) = some (zI (x + hcnt K b d), told)
  | 0, n + 1, b, x, hb, _ => by
    unfold F_X8_about_b36
    rw [ck_t (inb_nI hj (by omega)), nI_clamp (by omega), hm, if_pos (nI_le (by omega) (by omega))]
    simp only [hcnt, Int.add_zero]
  | d + 1, n + 1, b, x, hb, hn => by
    unfold F_X8_about_b36
    have g := (hRR b (by omega)).1
    rw [ck_t (inb_nI hj (by omega)), nI_clamp (by omega), hm, if_neg (nI_ge (by omega) (by omega)), nI_30, nI_mul, nI_add, ck_t (inb_nI (by omega) (by omega)), nI_clamp (by omega), nI_1, ← g]
    unfold F_X8_isHanging
    by_cases h1 : K b = 1
    · rw [if_pos h1, Option.bind_some, if_neg (by decide), zl_1, zI_add, about_b36_eq c hc hj hm hRR told d n (b + 1) _ (by omega) (by omega)]
      simp only [hcnt, if_pos (show K b = 1 ∨ K b = 2 from Or.inl h1)]
      congr 3
      omega
    · rw [if_neg h1]
      by_cases h2 : K b = 2
      · rw [if_pos h2, Option.bind_some, if_neg (by decide), zl_1, zI_add, about_b36_eq c hc hj hm hRR told d n (b + 1) _ (by omega) (by omega)]
        simp only [hcnt, if_pos (show K b = 1 ∨ K b = 2 from Or.inr h2)]
        congr 3
        omega
      · rw [if_neg h2, Option.bind_some, if_pos (by decide), zl_0, zI_add, about_b36_eq c hc hj hm hRR told d n (b + 1) _ (by omega) (by omega)]
        simp only [hcnt, if_neg (show ¬ (K b = 1 ∨ K b = 2) from fun h => h.elim h1 h2)]
        congr 3
        omega
theorem op_about (hj : j < 6) (hr : RowR j K W M C many kk tt mm) (hu : RulR j R sz sg lt pg) (told : Int32) (v2 : Int32) : ∃ c1 c2, F_X7_about_ok K R C (nI j) v2 = some c1 ∧ F_X8_about told many kk sz sg lt pg (nI j) v2 = some c2 ∧ c1 = c2.1 := by
  obtain ⟨c, hc, rfl, hm, hRR, hW⟩ := hr
  obtain ⟨hu2, hu3, hu4, hu5, -⟩ := hu
  obtain ⟨a, ha1, ha2, rfl⟩ := zI_of v2
  unfold F_X7_about_ok F_X8_about F_X5_hanging F_X5_ruleOf
  have eh : F_X5_hanging_b4 K (nI c) FU 0 0 = some (zI (0 + hcnt K 0 c)) := hanging_b4_eq c hc hW c FU 0 0 (by omega) (by unfold FU; omega)
  have em : F_X8_about_b36 many kk FU 0 (nI j) 0 0 = some (zI (0 + hcnt K 0 c), 0) := about_b36_eq c hc hj hm hRR 0 c FU 0 0 (by omega) (by unfold FU; omega)
  rw [isRow_eq j hj, Option.bind_some, if_neg (show ¬ qb true = 0 by decide), eh, em, Option.bind_some, ck_t (inb_nI hj (by omega)), ck_t (inb_nI hj (by omega)), ck_t (inb_nI hj (by omega)), ck_t (inb_nI hj (by omega)), ck_t (inb_nI hj (by omega)), nI_clamp (by omega), hm, ← hu2, ← hu3, ← hu4, ← hu5]
  by_cases h0 : a = 0
  · subst h0
    exact ⟨_, _, rfl, rfl, rfl⟩
  by_cases h1 : a = 1
  · subst h1
    exact ⟨_, _, rfl, rfl, rfl⟩
  by_cases h2 : a = 2
  · subst h2
    exact ⟨_, _, rfl, rfl, rfl⟩
  by_cases h3 : a = 3
  · subst h3
    exact ⟨_, _, rfl, rfl, rfl⟩
  by_cases h4 : a = 4
  · subst h4
    exact ⟨_, _, rfl, rfl, rfl⟩
  by_cases h5 : a = 5
  · subst h5
    exact ⟨_, _, rfl, rfl, rfl⟩
  simp (disch := omega) only [zl_0, zl_1, zl_2, zl_3, zl_4, zl_5, zl_6, zl_7, zl_8, zl_9, zl_10, zl_11, zl_12, zl_13, zl_14, zl_15, zl_16, zl_17, zl_18, zl_19, zl_20, zl_21, zl_22, zl_23, zl_24, zl_25, zl_26, zl_27, zl_28, zl_29, zl_30, zl_31, zl_32, zl_33, zl_34, zl_35, zl_36, zl_37, zl_38, zl_39, zl_40, zl_41, zl_42, zl_43, zl_44, zl_45, zl_46, zl_47, zl_48, zl_49, zl_50, zl_51, zl_52, zl_53, zl_54, zl_55, zl_56, zl_57, zl_58, zl_59, zl_60, zl_61, zl_62, zl_63, zl_64, zl_65, zl_66, zl_80, zl_97, zl_99, zl_103, zl_107, zl_112, zl_115, zl_100, zl_180, zl_210, zl_238, zl_255, zl_256, zl_400, zl_1000, zl_1024, zl_1260, zl_2000, zl_7140, zl_7200, zl_18414, zl_65536, zl_131072, zl_9999, zl_999, zI_add, zI_sub, zI_mul, zI_neg, zI_lt, zI_le, zI_eq, zI_clamp, ck_z, ckp_z, qb_z, qb_z0, Option.bind_some]
  rw [if_neg h0, if_neg h1, if_neg h0, if_neg h1, if_neg h2, if_neg h3, if_neg h4, if_neg h5]
  by_cases h6 : a < 2
  · rw [if_pos h6]
    exact ⟨_, _, rfl, rfl, rfl⟩
  · rw [if_neg h6, if_pos (by omega)]
    exact ⟨_, _, rfl, rfl, rfl⟩
end OPS

theorem RowW_put {c p : Nat} {K W M : Nat → Int32} {x : Int32} (h : RowW c K W M) (hp : p ≤ c) (h1 : 1 ≤ x.toInt) (h5 : x.toInt ≤ 5) : RowW (c + 1) (upd (opn 1 p c K) p x) (upd (opn 1 p c W) p 7) (mz (opn 7 p c M) (p * 7) 0) := by
  intro i hi
  unfold upd opn mz
  simp only [Nat.mul_one]
  by_cases e1 : i = p
  · subst e1
    rw [if_pos rfl, if_pos rfl]
    refine ⟨h1, h5, by decide, by decide, fun q hq => ?_⟩
    rw [if_pos (by omega)]
    exact ⟨by decide, by decide, fun _ => rfl⟩
  · rw [if_neg e1, if_neg e1]
    by_cases e2 : i < p
    · rw [if_neg (by omega), if_neg (by omega)]
      have g := h i (by omega)
      refine ⟨g.1, g.2.1, g.2.2.1, g.2.2.2.1, fun q hq => ?_⟩
      rw [if_neg (by omega), if_neg (by omega)]
      exact g.2.2.2.2 q hq
    · rw [if_pos (by omega), if_pos (by omega)]
      have g := h (i - 1) (by omega)
      refine ⟨g.1, g.2.1, g.2.2.1, g.2.2.2.1, fun q hq => ?_⟩
      rw [if_neg (by omega), if_pos (by omega), show i * 7 + q - 7 = (i - 1) * 7 + q by omega]
      exact g.2.2.2.2 q hq
theorem RowW_gone {e b : Nat} {K W M : Nat → Int32} (h : RowW (e + 1) K W M) : RowW e (clm 1 0 b e K) (clm 1 0 b e W) (clm 7 0 b e M) := by
  intro i hi
  unfold clm
  simp only [Nat.mul_one, Nat.zero_add]
  by_cases h1 : b ≤ i
  · have g := h (i + 1) (by omega)
    rw [if_pos (by omega), if_pos (by omega)]
    refine ⟨g.1, g.2.1, g.2.2.1, g.2.2.2.1, fun q hq => ?_⟩
    rw [if_pos (by omega), show i * 7 + q + 7 = (i + 1) * 7 + q by omega]
    exact g.2.2.2.2 q hq
  · have g := h i (by omega)
    rw [if_neg (by omega), if_neg (by omega)]
    refine ⟨g.1, g.2.1, g.2.2.1, g.2.2.2.1, fun q hq => ?_⟩
    rw [if_neg (by omega)]
    exact g.2.2.2.2 q hq
theorem RowW_mark {c p q : Nat} {K W M : Nat → Int32} {x : Int32} (h : RowW c K W M) (hp : p < c) (hq : q < 7) (hw : q < (W p).toInt) (h0 : 0 ≤ x.toInt) (h9 : x.toInt ≤ 9999) : RowW c K W (upd M (p * 7 + q) x) := by
  intro i hi
  have g := h i hi
  refine ⟨g.1, g.2.1, g.2.2.1, g.2.2.2.1, fun r hr => ?_⟩
  unfold upd
  by_cases e : i = p ∧ r = q
  · rw [if_pos (by omega)]
    refine ⟨h0, h9, fun c => ?_⟩
    rw [e.1, e.2] at c
    omega
  · rw [if_neg (by omega)]
    exact g.2.2.2.2 r hr
theorem RowW_tear {c p : Nat} {K W M : Nat → Int32} {x : Int32} {n : Nat} (h : RowW c K W M) (hp : p < c) (hx0 : 0 ≤ x.toInt) (hxn : x.toInt = n) : RowW c K (upd W p (if x < W p then x else W p)) (mz M (p * 7) n) := by
  intro i hi
  have g := h i hi
  unfold upd mz
  by_cases e : i = p
  · subst e
    rw [if_pos rfl]
    have hl : (x < W i) = (x.toInt < (W i).toInt) := propext Int32.lt_iff_toInt_lt
    by_cases hx : x < W i
    · rw [if_pos hx]
      rw [hl] at hx
      refine ⟨g.1, g.2.1, hx0, by omega, fun r hr => ?_⟩
      by_cases e2 : i * 7 + n ≤ i * 7 + r ∧ i * 7 + r < i * 7 + 7
      · rw [if_pos e2]
        exact ⟨by decide, by decide, fun _ => rfl⟩
      · rw [if_neg e2]
        have g2 := g.2.2.2.2 r hr
        exact ⟨g2.1, g2.2.1, fun c => absurd c (by omega)⟩
    · rw [if_neg hx]
      refine ⟨g.1, g.2.1, g.2.2.1, g.2.2.2.1, fun r hr => ?_⟩
      by_cases e2 : i * 7 + n ≤ i * 7 + r ∧ i * 7 + r < i * 7 + 7
      · rw [if_pos e2]
        exact ⟨by decide, by decide, fun _ => rfl⟩
      · rw [if_neg e2]
        exact g.2.2.2.2 r hr
  · rw [if_neg e]
    refine ⟨g.1, g.2.1, g.2.2.1, g.2.2.2.1, fun r hr => ?_⟩
    rw [if_neg (by omega)]
    exact g.2.2.2.2 r hr
section OPS
variable {j : Nat} {K W M R : Nat → Int32} {C : Int32} {many kk tt mm sz sg lt pg : Nat → Int32}
theorem op_put (hj : j < 6) (hr : RowR j K W M C many kk tt mm) (told : Int32) (chg : Bool) (v2 v3 : Int32) : ∃ c1 c2, F_X7_put_ok K W M C chg (nI j) v2 v3 = some c1 ∧ F_X8_put told many kk tt mm (nI j) v2 v3 = some c2 ∧ c1.1 = c2.1 ∧ RowR j c1.2.1 c1.2.2.1 c1.2.2.2.1 c1.2.2.2.2.1 c2.2.2.1 c2.2.2.2.1 c2.2.2.2.2.1 c2.2.2.2.2.2 ∧ (∀ j' K' W' M' C', j' ≠ j → RowR j' K' W' M' C' many kk tt mm → RowR j' K' W' M' C' c2.2.2.1 c2.2.2.2.1 c2.2.2.2.2.1 c2.2.2.2.2.2) ∧ (c1.2.2.2.2.2 = true ∨ c1.2 = (K, W, M, C, chg)) := by
  obtain ⟨c, hc, rfl, hm, hRR, hW⟩ := hr
  obtain ⟨a, ha1, ha2, rfl⟩ := zI_of v2
  obtain ⟨b, hb1, hb2, rfl⟩ := zI_of v3
  unfold F_X7_put_ok
  by_cases h : 0 ≤ a ∧ a ≤ c ∧ c < 30 ∧ 1 ≤ b ∧ b ≤ 5
  · have e1 : ¬ zI b < 1 := by simp (disch := omega) only [zl_0, zl_1, zl_2, zl_3, zl_4, zl_5, zl_6, zl_7, zl_8, zl_9, zl_10, zl_11, zl_12, zl_13, zl_14, zl_15, zl_16, zl_17, zl_18, zl_19, zl_20, zl_21, zl_22, zl_23, zl_24, zl_25, zl_26, zl_27, zl_28, zl_29, zl_30, zl_31, zl_32, zl_33, zl_34, zl_35, zl_36, zl_37, zl_38, zl_39, zl_40, zl_41, zl_42, zl_43, zl_44, zl_45, zl_46, zl_47, zl_48, zl_49, zl_50, zl_51, zl_52, zl_53, zl_54, zl_55, zl_56, zl_57, zl_58, zl_59, zl_60, zl_61, zl_62, zl_63, zl_64, zl_65, zl_66, zl_80, zl_97, zl_99, zl_103, zl_107, zl_112, zl_115, zl_100, zl_180, zl_210, zl_238, zl_255, zl_256, zl_400, zl_1000, zl_1024, zl_1260, zl_2000, zl_7140, zl_7200, zl_18414, zl_65536, zl_131072, zl_9999, zl_999, zI_add, zI_sub, zI_mul, zI_neg, zI_lt, zI_le, zI_eq, zI_clamp, ck_z, ckp_z, qb_z, qb_z0, Option.bind_some]; omega
    have e2 : zI b ≤ 5 := by simp (disch := omega) only [zl_0, zl_1, zl_2, zl_3, zl_4, zl_5, zl_6, zl_7, zl_8, zl_9, zl_10, zl_11, zl_12, zl_13, zl_14, zl_15, zl_16, zl_17, zl_18, zl_19, zl_20, zl_21, zl_22, zl_23, zl_24, zl_25, zl_26, zl_27, zl_28, zl_29, zl_30, zl_31, zl_32, zl_33, zl_34, zl_35, zl_36, zl_37, zl_38, zl_39, zl_40, zl_41, zl_42, zl_43, zl_44, zl_45, zl_46, zl_47, zl_48, zl_49, zl_50, zl_51, zl_52, zl_53, zl_54, zl_55, zl_56, zl_57, zl_58, zl_59, zl_60, zl_61, zl_62, zl_63, zl_64, zl_65, zl_66, zl_80, zl_97, zl_99, zl_103, zl_107, zl_112, zl_115, zl_100, zl_180, zl_210, zl_238, zl_255, zl_256, zl_400, zl_1000, zl_1024, zl_1260, zl_2000, zl_7140, zl_7200, zl_18414, zl_65536, zl_131072, zl_9999, zl_999, zI_add, zI_sub, zI_mul, zI_neg, zI_lt, zI_le, zI_eq, zI_clamp, ck_z, ckp_z, qb_z, qb_z0, Option.bind_some]; omega
    rw [zI_nI h.1, insert_eq K W M c chg a.toNat (zI b) h.2.2.1 (by omega) e1 e2, put_eq told (zI b) many kk tt mm j a.toNat c hj hm h.2.2.1 (by omega) e1 e2]
    refine ⟨_, _, rfl, rfl, rfl, ⟨c + 1, by omega, rfl, upd_at _ _ _, RR_put hRR (by omega), RowW_put hW (by omega) (by rw [zI_toInt hb1 hb2]; omega) (by rw [zI_toInt hb1 hb2]; omega)⟩, ?_, Or.inl rfl⟩
    rintro j' K' W' M' C' hne ⟨c', hc', rfl, hm', hRR', hW'⟩
    exact ⟨c', hc', rfl, (upd_ne _ _ hne).trans hm', RR_put_other hRR' hne hc' h.2.2.1 (by omega), hW'⟩
  · rw [nI_zI c, insert_no K W M chg c a b (by omega) (by omega) ha1 ha2 hb1 hb2 (by omega), put_no told many kk tt mm j c a b hj hm hc ha1 ha2 hb1 hb2 (by omega)]
    exact ⟨_, _, rfl, rfl, rfl, ⟨c, hc, (nI_zI c).symm, hm, hRR, hW⟩, fun _ _ _ _ _ _ h => h, Or.inr rfl⟩
theorem remove_no (K W M : Nat → Int32) (chg : Bool) (c a : Int) (hc : 0 ≤ c) (hc2 : c ≤ 30) (h1 : -2147483648 ≤ a) (h2 : a < 2147483648) (h : ¬ (0 ≤ a ∧ a < c)) : F_X5_remove K W M (zI c) chg (zI a) = some (-1, K, W, M, zI c, chg) := by
  unfold F_X5_remove
  rw [has_z c a hc (by omega) h1 h2, decide_eq_false h]
  rfl
theorem op_gone (hj : j < 6) (hr : RowR j K W M C many kk tt mm) (told : Int32) (chg : Bool) (v2 : Int32) : ∃ c1 c2, F_X7_gone_ok K W M C chg (nI j) v2 = some c1 ∧ F_X8_gone told many kk tt mm (nI j) v2 = some c2 ∧ c1.1 = c2.1 ∧ RowR j c1.2.1 c1.2.2.1 c1.2.2.2.1 c1.2.2.2.2.1 c2.2.2.1 c2.2.2.2.1 c2.2.2.2.2.1 c2.2.2.2.2.2 ∧ (∀ j' K' W' M' C', j' ≠ j → RowR j' K' W' M' C' many kk tt mm → RowR j' K' W' M' C' c2.2.2.1 c2.2.2.2.1 c2.2.2.2.2.1 c2.2.2.2.2.2) ∧ (c1.2.2.2.2.2 = true ∨ c1.2 = (K, W, M, C, chg)) := by
  obtain ⟨c, hc, rfl, hm, hRR, hW⟩ := hr
  obtain ⟨a, ha1, ha2, rfl⟩ := zI_of v2
  unfold F_X7_gone_ok
  by_cases h : 0 ≤ a ∧ a < c
  · obtain ⟨e, rfl⟩ : ∃ e, c = e + 1 := ⟨c - 1, by omega⟩
    rw [zI_nI h.1, remove_eq K W M e a.toNat chg (by omega) (by omega), gone_eq told many kk tt mm j e a.toNat hj hm (by omega) (by omega)]
    refine ⟨_, _, rfl, rfl, rfl, ⟨e, by omega, rfl, upd_at _ _ _, RR_gone hRR (by omega), RowW_gone hW⟩, ?_, Or.inl rfl⟩
    rintro j' K' W' M' C' hne ⟨c', hc', rfl, hm', hRR', hW'⟩
    exact ⟨c', hc', rfl, (upd_ne _ _ hne).trans hm', RR_gone_other hRR' hne hc' (by omega), hW'⟩
  · rw [nI_zI c, remove_no K W M chg c a (by omega) (by omega) ha1 ha2 (by omega)]
    unfold F_X8_gone
    rw [isThing_z many j c a hj hm hc ha1 ha2, decide_eq_false h]
    exact ⟨_, _, rfl, rfl, rfl, ⟨c, hc, (nI_zI c).symm, hm, hRR, hW⟩, fun _ _ _ _ _ _ h => h, Or.inr rfl⟩
end OPS

theorem smark_b : ∀ n, n < 7 → 0 ≤ (s_mark n).toInt ∧ (s_mark n).toInt ≤ 9999 := by decide +kernel
section OPS
variable {j : Nat} {K W M R : Nat → Int32} {C : Int32} {many kk tt mm sz sg lt pg : Nat → Int32}
theorem setMark_no (c a q v w s : Int) (chg : Bool) (hc : 0 ≤ c) (hc2 : c ≤ 30) (h1 : -2147483648 ≤ a) (h2 : a < 2147483648) (h3 : -2147483648 ≤ q) (h4 : q < 2147483648) (h5 : -2147483648 ≤ v) (h6 : v < 2147483648) (hw : 0 ≤ a → a < c → W a.toNat = zI w) (hw2 : 0 ≤ w ∧ w ≤ 7) (hs : 0 ≤ q → q < 7 → s_mark q.toNat = zI s) (hs2 : 0 ≤ s ∧ s ≤ 9999) (h : ¬ (0 ≤ a ∧ a < c ∧ 0 ≤ q ∧ q < w ∧ 0 ≤ v ∧ v ≤ s)) : F_X5_setMark W M (zI c) chg (zI a) (zI q) (zI v) = some (false, M, chg) := by
  unfold F_X5_setMark
  rw [has_z c a hc (by omega) h1 h2, Option.bind_some]
  by_cases ha : 0 ≤ a ∧ a < c
  · rw [decide_eq_true ha]
    by_cases hq : 0 ≤ q ∧ q < 7
    · have hw' := hw ha.1 ha.2
      have hs' := hs hq.1 hq.2
      simp (disch := omega) only [zl_0, zl_1, zl_2, zl_3, zl_4, zl_5, zl_6, zl_7, zl_8, zl_9, zl_10, zl_11, zl_12, zl_13, zl_14, zl_15, zl_16, zl_17, zl_18, zl_19, zl_20, zl_21, zl_22, zl_23, zl_24, zl_25, zl_26, zl_27, zl_28, zl_29, zl_30, zl_31, zl_32, zl_33, zl_34, zl_35, zl_36, zl_37, zl_38, zl_39, zl_40, zl_41, zl_42, zl_43, zl_44, zl_45, zl_46, zl_47, zl_48, zl_49, zl_50, zl_51, zl_52, zl_53, zl_54, zl_55, zl_56, zl_57, zl_58, zl_59, zl_60, zl_61, zl_62, zl_63, zl_64, zl_65, zl_66, zl_80, zl_97, zl_99, zl_103, zl_107, zl_112, zl_115, zl_100, zl_180, zl_210, zl_238, zl_255, zl_256, zl_400, zl_1000, zl_1024, zl_1260, zl_2000, zl_7140, zl_7200, zl_18414, zl_65536, zl_131072, zl_9999, zl_999, zI_add, zI_sub, zI_mul, zI_neg, zI_lt, zI_le, zI_eq, zI_clamp, ck_z, ckp_z, qb_z, qb_z0, Option.bind_some, hw', hs']
      (repeat' split) <;> first | rfl | contradiction | (exfalso; omega)
    · by_cases hq0 : q < 0
      · simp (disch := omega) only [zl_0, zl_1, zl_2, zl_3, zl_4, zl_5, zl_6, zl_7, zl_8, zl_9, zl_10, zl_11, zl_12, zl_13, zl_14, zl_15, zl_16, zl_17, zl_18, zl_19, zl_20, zl_21, zl_22, zl_23, zl_24, zl_25, zl_26, zl_27, zl_28, zl_29, zl_30, zl_31, zl_32, zl_33, zl_34, zl_35, zl_36, zl_37, zl_38, zl_39, zl_40, zl_41, zl_42, zl_43, zl_44, zl_45, zl_46, zl_47, zl_48, zl_49, zl_50, zl_51, zl_52, zl_53, zl_54, zl_55, zl_56, zl_57, zl_58, zl_59, zl_60, zl_61, zl_62, zl_63, zl_64, zl_65, zl_66, zl_80, zl_97, zl_99, zl_103, zl_107, zl_112, zl_115, zl_100, zl_180, zl_210, zl_238, zl_255, zl_256, zl_400, zl_1000, zl_1024, zl_1260, zl_2000, zl_7140, zl_7200, zl_18414, zl_65536, zl_131072, zl_9999, zl_999, zI_add, zI_sub, zI_mul, zI_neg, zI_lt, zI_le, zI_eq, zI_clamp, ck_z, ckp_z, qb_z, qb_z0, Option.bind_some]
        rw [if_neg (by decide), if_pos hq0]
      · have hw' := hw ha.1 ha.2
        simp (disch := omega) only [zl_0, zl_1, zl_2, zl_3, zl_4, zl_5, zl_6, zl_7, zl_8, zl_9, zl_10, zl_11, zl_12, zl_13, zl_14, zl_15, zl_16, zl_17, zl_18, zl_19, zl_20, zl_21, zl_22, zl_23, zl_24, zl_25, zl_26, zl_27, zl_28, zl_29, zl_30, zl_31, zl_32, zl_33, zl_34, zl_35, zl_36, zl_37, zl_38, zl_39, zl_40, zl_41, zl_42, zl_43, zl_44, zl_45, zl_46, zl_47, zl_48, zl_49, zl_50, zl_51, zl_52, zl_53, zl_54, zl_55, zl_56, zl_57, zl_58, zl_59, zl_60, zl_61, zl_62, zl_63, zl_64, zl_65, zl_66, zl_80, zl_97, zl_99, zl_103, zl_107, zl_112, zl_115, zl_100, zl_180, zl_210, zl_238, zl_255, zl_256, zl_400, zl_1000, zl_1024, zl_1260, zl_2000, zl_7140, zl_7200, zl_18414, zl_65536, zl_131072, zl_9999, zl_999, zI_add, zI_sub, zI_mul, zI_neg, zI_lt, zI_le, zI_eq, zI_clamp, ck_z, ckp_z, qb_z, qb_z0, Option.bind_some, hw']
        rw [if_neg (by decide), if_neg hq0, if_pos (by omega)]
  · rw [decide_eq_false ha]
    rfl
theorem mark_no (told : Int32) (c : Nat) (a q v w s : Int) (hj : j < 6) (hm : many j = nI c) (hc2 : c ≤ 30) (h1 : -2147483648 ≤ a) (h2 : a < 2147483648) (h3 : -2147483648 ≤ q) (h4 : q < 2147483648) (h5 : -2147483648 ≤ v) (h6 : v < 2147483648) (hw : 0 ≤ a → a < c → tt (30 * (j : Int) + a).toNat = zI w) (hw2 : 0 ≤ w ∧ w ≤ 7) (hs : 0 ≤ q → q < 7 → s_mark q.toNat = zI s) (hs2 : 0 ≤ s ∧ s ≤ 9999) (h : ¬ (0 ≤ a ∧ a < c ∧ 0 ≤ q ∧ q < w ∧ 0 ≤ v ∧ v ≤ s)) : F_X8_mark told many tt mm (nI j) (zI a) (zI q) (zI v) = some (false, 0, mm) := by
  unfold F_X8_mark
  rw [isThing_z many j c a hj hm hc2 h1 h2, Option.bind_some]
  by_cases ha : 0 ≤ a ∧ a < c
  · rw [decide_eq_true ha]
    by_cases hq : 0 ≤ q ∧ q < 7
    · have hw' := hw ha.1 ha.2
      have hs' := hs hq.1 hq.2
      have hmost : F_X8_most (zI q) = some (zI s) := by rw [zI_nI hq.1, most_eq _ (by omega), hs']
      rw [hmost, nI_zI j]
      simp (disch := omega) only [zl_0, zl_1, zl_2, zl_3, zl_4, zl_5, zl_6, zl_7, zl_8, zl_9, zl_10, zl_11, zl_12, zl_13, zl_14, zl_15, zl_16, zl_17, zl_18, zl_19, zl_20, zl_21, zl_22, zl_23, zl_24, zl_25, zl_26, zl_27, zl_28, zl_29, zl_30, zl_31, zl_32, zl_33, zl_34, zl_35, zl_36, zl_37, zl_38, zl_39, zl_40, zl_41, zl_42, zl_43, zl_44, zl_45, zl_46, zl_47, zl_48, zl_49, zl_50, zl_51, zl_52, zl_53, zl_54, zl_55, zl_56, zl_57, zl_58, zl_59, zl_60, zl_61, zl_62, zl_63, zl_64, zl_65, zl_66, zl_80, zl_97, zl_99, zl_103, zl_107, zl_112, zl_115, zl_100, zl_180, zl_210, zl_238, zl_255, zl_256, zl_400, zl_1000, zl_1024, zl_1260, zl_2000, zl_7140, zl_7200, zl_18414, zl_65536, zl_131072, zl_9999, zl_999, zI_add, zI_sub, zI_mul, zI_neg, zI_lt, zI_le, zI_eq, zI_clamp, ck_z, ckp_z, qb_z, qb_z0, Option.bind_some, hw', hs']
      (repeat' split) <;> first | rfl | contradiction | (exfalso; omega)
    · rw [if_neg (by decide)]
      simp (disch := omega) only [zl_0, zl_1, zl_2, zl_3, zl_4, zl_5, zl_6, zl_7, zl_8, zl_9, zl_10, zl_11, zl_12, zl_13, zl_14, zl_15, zl_16, zl_17, zl_18, zl_19, zl_20, zl_21, zl_22, zl_23, zl_24, zl_25, zl_26, zl_27, zl_28, zl_29, zl_30, zl_31, zl_32, zl_33, zl_34, zl_35, zl_36, zl_37, zl_38, zl_39, zl_40, zl_41, zl_42, zl_43, zl_44, zl_45, zl_46, zl_47, zl_48, zl_49, zl_50, zl_51, zl_52, zl_53, zl_54, zl_55, zl_56, zl_57, zl_58, zl_59, zl_60, zl_61, zl_62, zl_63, zl_64, zl_65, zl_66, zl_80, zl_97, zl_99, zl_103, zl_107, zl_112, zl_115, zl_100, zl_180, zl_210, zl_238, zl_255, zl_256, zl_400, zl_1000, zl_1024, zl_1260, zl_2000, zl_7140, zl_7200, zl_18414, zl_65536, zl_131072, zl_9999, zl_999, zI_add, zI_sub, zI_mul, zI_neg, zI_lt, zI_le, zI_eq, zI_clamp, ck_z, ckp_z, qb_z, qb_z0, Option.bind_some]
      by_cases hq0 : q < 0
      · rw [if_pos hq0]
      · rw [if_neg hq0, if_pos (by omega)]
  · rw [decide_eq_false ha]
    rfl
theorem op_mark (hj : j < 6) (hr : RowR j K W M C many kk tt mm) (told : Int32) (chg : Bool) (v2 v3 v4 : Int32) : ∃ c1 c2, F_X7_mark_ok W M C chg (nI j) v2 v3 v4 = some c1 ∧ F_X8_mark told many tt mm (nI j) v2 v3 v4 = some c2 ∧ c1.1 = c2.1 ∧ RowR j K W c1.2.1 C many kk tt c2.2.2 ∧ (∀ j' K' W' M' C', j' ≠ j → RowR j' K' W' M' C' many kk tt mm → RowR j' K' W' M' C' many kk tt c2.2.2) ∧ (c1.2.2 = true ∨ c1.2 = (M, chg)) := by
  obtain ⟨c, hc, rfl, hm, hRR, hW⟩ := hr
  obtain ⟨a, ha1, ha2, rfl⟩ := zI_of v2
  obtain ⟨q, hq1, hq2, rfl⟩ := zI_of v3
  obtain ⟨v, hv1, hv2, rfl⟩ := zI_of v4
  unfold F_X7_mark_ok
  obtain ⟨w, hw, hw2⟩ : ∃ w : Int, (0 ≤ a → a < c → W a.toNat = zI w) ∧ 0 ≤ w ∧ w ≤ 7 := by
    by_cases ha : 0 ≤ a ∧ a < c
    · have g := hW a.toNat (by omega)
      exact ⟨(W a.toNat).toInt, fun _ _ => tI_of _, g.2.2.1, g.2.2.2.1⟩
    · exact ⟨0, fun h1 h2 => absurd ⟨h1, h2⟩ ha, by omega, by omega⟩
  obtain ⟨s, hs, hs2⟩ : ∃ s : Int, (0 ≤ q → q < 7 → s_mark q.toNat = zI s) ∧ 0 ≤ s ∧ s ≤ 9999 := by
    by_cases ha : 0 ≤ q ∧ q < 7
    · have g := smark_b q.toNat (by omega)
      exact ⟨(s_mark q.toNat).toInt, fun _ _ => tI_of _, g.1, g.2⟩
    · exact ⟨0, fun h1 h2 => absurd ⟨h1, h2⟩ ha, by omega, by omega⟩
  by_cases h : 0 ≤ a ∧ a < c ∧ 0 ≤ q ∧ q < w ∧ 0 ≤ v ∧ v ≤ s
  · have hwa := hw h.1 h.2.1
    have hsa := hs h.2.2.1 (by omega)
    have e1 : ¬ zI v < 0 := by simp (disch := omega) only [zl_0, zl_1, zl_2, zl_3, zl_4, zl_5, zl_6, zl_7, zl_8, zl_9, zl_10, zl_11, zl_12, zl_13, zl_14, zl_15, zl_16, zl_17, zl_18, zl_19, zl_20, zl_21, zl_22, zl_23, zl_24, zl_25, zl_26, zl_27, zl_28, zl_29, zl_30, zl_31, zl_32, zl_33, zl_34, zl_35, zl_36, zl_37, zl_38, zl_39, zl_40, zl_41, zl_42, zl_43, zl_44, zl_45, zl_46, zl_47, zl_48, zl_49, zl_50, zl_51, zl_52, zl_53, zl_54, zl_55, zl_56, zl_57, zl_58, zl_59, zl_60, zl_61, zl_62, zl_63, zl_64, zl_65, zl_66, zl_80, zl_97, zl_99, zl_103, zl_107, zl_112, zl_115, zl_100, zl_180, zl_210, zl_238, zl_255, zl_256, zl_400, zl_1000, zl_1024, zl_1260, zl_2000, zl_7140, zl_7200, zl_18414, zl_65536, zl_131072, zl_9999, zl_999, zI_add, zI_sub, zI_mul, zI_neg, zI_lt, zI_le, zI_eq, zI_clamp, ck_z, ckp_z, qb_z, qb_z0, Option.bind_some]; omega
    have e2 : zI v ≤ s_mark q.toNat := by rw [hsa]; simp (disch := omega) only [zl_0, zl_1, zl_2, zl_3, zl_4, zl_5, zl_6, zl_7, zl_8, zl_9, zl_10, zl_11, zl_12, zl_13, zl_14, zl_15, zl_16, zl_17, zl_18, zl_19, zl_20, zl_21, zl_22, zl_23, zl_24, zl_25, zl_26, zl_27, zl_28, zl_29, zl_30, zl_31, zl_32, zl_33, zl_34, zl_35, zl_36, zl_37, zl_38, zl_39, zl_40, zl_41, zl_42, zl_43, zl_44, zl_45, zl_46, zl_47, zl_48, zl_49, zl_50, zl_51, zl_52, zl_53, zl_54, zl_55, zl_56, zl_57, zl_58, zl_59, zl_60, zl_61, zl_62, zl_63, zl_64, zl_65, zl_66, zl_80, zl_97, zl_99, zl_103, zl_107, zl_112, zl_115, zl_100, zl_180, zl_210, zl_238, zl_255, zl_256, zl_400, zl_1000, zl_1024, zl_1260, zl_2000, zl_7140, zl_7200, zl_18414, zl_65536, zl_131072, zl_9999, zl_999, zI_add, zI_sub, zI_mul, zI_neg, zI_lt, zI_le, zI_eq, zI_clamp, ck_z, ckp_z, qb_z, qb_z0, Option.bind_some]; omega
    have hta : tt (30 * j + a.toNat) = nI w.toNat := by rw [← (hRR a.toNat (by omega)).2.1, hwa, zI_nI (by omega)]
    rw [zI_nI h.1, zI_nI h.2.2.1, setMark_eq W M c a.toNat q.toNat w.toNat chg (zI v) hc (by omega) (by rw [hwa, zI_nI (by omega)]) (by omega) (by omega) e1 e2, mark_eq told many tt mm j c a.toNat q.toNat w.toNat (zI v) hj hm hc (by omega) hta (by omega) (by omega) e1 e2]
    refine ⟨_, _, rfl, rfl, rfl, ⟨c, hc, rfl, hm, RR_mark hRR (by omega) (by omega), RowW_mark hW (by omega) (by omega) ?_ (by rw [zI_toInt hv1 hv2]; omega) (by rw [zI_toInt hv1 hv2]; omega)⟩, ?_, Or.inl rfl⟩
    · rw [hwa, zI_toInt (by omega) (by omega)]
      omega
    · rintro j' K' W' M' C' hne ⟨c', hc', rfl, hm', hRR', hW'⟩
      exact ⟨c', hc', rfl, hm', RR_mark_other hRR' hne hc' (by omega) (by omega), hW'⟩
  · rw [nI_zI c, setMark_no c a q v w s chg (by omega) (by omega) ha1 ha2 hq1 hq2 hv1 hv2 hw hw2 hs hs2 (by omega), mark_no told c a q v w s hj hm hc ha1 ha2 hq1 hq2 hv1 hv2 ?_ hw2 hs hs2 (by omega)]
    · exact ⟨_, _, rfl, rfl, rfl, ⟨c, hc, (nI_zI c).symm, hm, hRR, hW⟩, fun _ _ _ _ _ _ h => h, Or.inr rfl⟩
    · intro h1 h2
      rw [← hw h1 h2, (hRR a.toNat (by omega)).2.1]
      congr 1
      omega
theorem op_look (hj : j < 6) (hr : RowR j K W M C many kk tt mm) (told : Int32) (v2 v3 : Int32) : ∃ c1 c2, F_X7_look_ok K M C (nI j) v2 v3 = some c1 ∧ F_X8_look told many kk mm (nI j) v2 v3 = some c2 ∧ c1 = c2.1 := by
  obtain ⟨c, hc, rfl, hm, hRR, hW⟩ := hr
  obtain ⟨a, ha1, ha2, rfl⟩ := zI_of v2
  obtain ⟨q, hq1, hq2, rfl⟩ := zI_of v3
  unfold F_X7_look_ok F_X8_look F_X5_kindOf F_X5_markOf
  rw [isThing_z many j c a hj hm hc ha1 ha2, nI_zI c, has_z c a (by omega) (by omega) ha1 ha2, Option.bind_some, Option.bind_some, Option.bind_some, Option.bind_some]
  by_cases ha : 0 ≤ a ∧ a < c
  · have g := hRR a.toNat (by omega)
    rw [decide_eq_true ha, nI_zI j]
    have e1 : (30 * (j : Int) + a).toNat = 30 * j + a.toNat := by omega
    by_cases hq : 0 ≤ q ∧ q < 7
    · have g2 := g.2.2 q.toNat (by omega)
      have e2 : (7 * (30 * (j : Int) + a) + q).toNat = 7 * (30 * j + a.toNat) + q.toNat := by omega
      have e3 : (a * 7 + q).toNat = a.toNat * 7 + q.toNat := by omega
      simp (disch := omega) only [zl_0, zl_1, zl_2, zl_3, zl_4, zl_5, zl_6, zl_7, zl_8, zl_9, zl_10, zl_11, zl_12, zl_13, zl_14, zl_15, zl_16, zl_17, zl_18, zl_19, zl_20, zl_21, zl_22, zl_23, zl_24, zl_25, zl_26, zl_27, zl_28, zl_29, zl_30, zl_31, zl_32, zl_33, zl_34, zl_35, zl_36, zl_37, zl_38, zl_39, zl_40, zl_41, zl_42, zl_43, zl_44, zl_45, zl_46, zl_47, zl_48, zl_49, zl_50, zl_51, zl_52, zl_53, zl_54, zl_55, zl_56, zl_57, zl_58, zl_59, zl_60, zl_61, zl_62, zl_63, zl_64, zl_65, zl_66, zl_80, zl_97, zl_99, zl_103, zl_107, zl_112, zl_115, zl_100, zl_180, zl_210, zl_238, zl_255, zl_256, zl_400, zl_1000, zl_1024, zl_1260, zl_2000, zl_7140, zl_7200, zl_18414, zl_65536, zl_131072, zl_9999, zl_999, zI_add, zI_sub, zI_mul, zI_neg, zI_lt, zI_le, zI_eq, zI_clamp, ck_z, ckp_z, qb_z, qb_z0, Option.bind_some, if_pos, if_neg, reduceIte, reduceCtorEq, Bool.false_eq_true, Bool.true_eq_false, e2, e3, g2]
      exact ⟨_, _, rfl, rfl, rfl⟩
    · by_cases hq0 : q = -1
      · subst hq0
        simp (disch := omega) only [zl_0, zl_1, zl_2, zl_3, zl_4, zl_5, zl_6, zl_7, zl_8, zl_9, zl_10, zl_11, zl_12, zl_13, zl_14, zl_15, zl_16, zl_17, zl_18, zl_19, zl_20, zl_21, zl_22, zl_23, zl_24, zl_25, zl_26, zl_27, zl_28, zl_29, zl_30, zl_31, zl_32, zl_33, zl_34, zl_35, zl_36, zl_37, zl_38, zl_39, zl_40, zl_41, zl_42, zl_43, zl_44, zl_45, zl_46, zl_47, zl_48, zl_49, zl_50, zl_51, zl_52, zl_53, zl_54, zl_55, zl_56, zl_57, zl_58, zl_59, zl_60, zl_61, zl_62, zl_63, zl_64, zl_65, zl_66, zl_80, zl_97, zl_99, zl_103, zl_107, zl_112, zl_115, zl_100, zl_180, zl_210, zl_238, zl_255, zl_256, zl_400, zl_1000, zl_1024, zl_1260, zl_2000, zl_7140, zl_7200, zl_18414, zl_65536, zl_131072, zl_9999, zl_999, zI_add, zI_sub, zI_mul, zI_neg, zI_lt, zI_le, zI_eq, zI_clamp, ck_z, ckp_z, qb_z, qb_z0, Option.bind_some, if_pos, if_neg, reduceIte, reduceCtorEq, Bool.false_eq_true, Bool.true_eq_false, e1, g.1]
        exact ⟨_, _, rfl, rfl, rfl⟩
      · by_cases hq3 : q < 0
        · simp (disch := omega) only [zl_0, zl_1, zl_2, zl_3, zl_4, zl_5, zl_6, zl_7, zl_8, zl_9, zl_10, zl_11, zl_12, zl_13, zl_14, zl_15, zl_16, zl_17, zl_18, zl_19, zl_20, zl_21, zl_22, zl_23, zl_24, zl_25, zl_26, zl_27, zl_28, zl_29, zl_30, zl_31, zl_32, zl_33, zl_34, zl_35, zl_36, zl_37, zl_38, zl_39, zl_40, zl_41, zl_42, zl_43, zl_44, zl_45, zl_46, zl_47, zl_48, zl_49, zl_50, zl_51, zl_52, zl_53, zl_54, zl_55, zl_56, zl_57, zl_58, zl_59, zl_60, zl_61, zl_62, zl_63, zl_64, zl_65, zl_66, zl_80, zl_97, zl_99, zl_103, zl_107, zl_112, zl_115, zl_100, zl_180, zl_210, zl_238, zl_255, zl_256, zl_400, zl_1000, zl_1024, zl_1260, zl_2000, zl_7140, zl_7200, zl_18414, zl_65536, zl_131072, zl_9999, zl_999, zI_add, zI_sub, zI_mul, zI_neg, zI_lt, zI_le, zI_eq, zI_clamp, ck_z, ckp_z, qb_z, qb_z0, Option.bind_some, if_pos, if_neg, reduceIte, reduceCtorEq, Bool.false_eq_true, Bool.true_eq_false]
          exact ⟨_, _, rfl, rfl, rfl⟩
        · simp (disch := omega) only [zl_0, zl_1, zl_2, zl_3, zl_4, zl_5, zl_6, zl_7, zl_8, zl_9, zl_10, zl_11, zl_12, zl_13, zl_14, zl_15, zl_16, zl_17, zl_18, zl_19, zl_20, zl_21, zl_22, zl_23, zl_24, zl_25, zl_26, zl_27, zl_28, zl_29, zl_30, zl_31, zl_32, zl_33, zl_34, zl_35, zl_36, zl_37, zl_38, zl_39, zl_40, zl_41, zl_42, zl_43, zl_44, zl_45, zl_46, zl_47, zl_48, zl_49, zl_50, zl_51, zl_52, zl_53, zl_54, zl_55, zl_56, zl_57, zl_58, zl_59, zl_60, zl_61, zl_62, zl_63, zl_64, zl_65, zl_66, zl_80, zl_97, zl_99, zl_103, zl_107, zl_112, zl_115, zl_100, zl_180, zl_210, zl_238, zl_255, zl_256, zl_400, zl_1000, zl_1024, zl_1260, zl_2000, zl_7140, zl_7200, zl_18414, zl_65536, zl_131072, zl_9999, zl_999, zI_add, zI_sub, zI_mul, zI_neg, zI_lt, zI_le, zI_eq, zI_clamp, ck_z, ckp_z, qb_z, qb_z0, Option.bind_some, if_pos, if_neg, reduceIte, reduceCtorEq, Bool.false_eq_true, Bool.true_eq_false]
          exact ⟨_, _, rfl, rfl, rfl⟩
  · rw [decide_eq_false ha]
    exact ⟨_, _, rfl, rfl, rfl⟩
theorem tear_no1 (c a n : Int) (chg : Bool) (hc : 0 ≤ c) (hc2 : c ≤ 30) (h1 : -2147483648 ≤ a) (h2 : a < 2147483648) (h3 : -2147483648 ≤ n) (h4 : n < 2147483648) (h : ¬ (0 ≤ a ∧ a < c ∧ 0 ≤ n)) : F_X5_tearTo W M (zI c) chg (zI a) (zI n) = some (-1, W, M, chg) := by
  unfold F_X5_tearTo
  rw [has_z c a hc (by omega) h1 h2, Option.bind_some]
  by_cases ha : 0 ≤ a ∧ a < c
  · rw [decide_eq_true ha, if_neg (by decide)]
    simp (disch := omega) only [zl_0, zl_1, zl_2, zl_3, zl_4, zl_5, zl_6, zl_7, zl_8, zl_9, zl_10, zl_11, zl_12, zl_13, zl_14, zl_15, zl_16, zl_17, zl_18, zl_19, zl_20, zl_21, zl_22, zl_23, zl_24, zl_25, zl_26, zl_27, zl_28, zl_29, zl_30, zl_31, zl_32, zl_33, zl_34, zl_35, zl_36, zl_37, zl_38, zl_39, zl_40, zl_41, zl_42, zl_43, zl_44, zl_45, zl_46, zl_47, zl_48, zl_49, zl_50, zl_51, zl_52, zl_53, zl_54, zl_55, zl_56, zl_57, zl_58, zl_59, zl_60, zl_61, zl_62, zl_63, zl_64, zl_65, zl_66, zl_80, zl_97, zl_99, zl_103, zl_107, zl_112, zl_115, zl_100, zl_180, zl_210, zl_238, zl_255, zl_256, zl_400, zl_1000, zl_1024, zl_1260, zl_2000, zl_7140, zl_7200, zl_18414, zl_65536, zl_131072, zl_9999, zl_999, zI_add, zI_sub, zI_mul, zI_neg, zI_lt, zI_le, zI_eq, zI_clamp, ck_z, ckp_z, qb_z, qb_z0, Option.bind_some]
    rw [if_neg (by omega)]
  · rw [decide_eq_false ha]
    rfl
theorem tear_no2 (told : Int32) (c : Nat) (a n : Int) (hj : j < 6) (hm : many j = nI c) (hc2 : c ≤ 30) (h1 : -2147483648 ≤ a) (h2 : a < 2147483648) (h3 : -2147483648 ≤ n) (h4 : n < 2147483648) (h : ¬ (0 ≤ a ∧ a < c ∧ 0 ≤ n)) : F_X8_tear told many tt mm (nI j) (zI a) (zI n) = some (-1, 0, tt, mm) := by
  unfold F_X8_tear
  rw [isThing_z many j c a hj hm hc2 h1 h2, Option.bind_some]
  by_cases ha : 0 ≤ a ∧ a < c
  · rw [decide_eq_true ha, if_neg (by decide)]
    simp (disch := omega) only [zl_0, zl_1, zl_2, zl_3, zl_4, zl_5, zl_6, zl_7, zl_8, zl_9, zl_10, zl_11, zl_12, zl_13, zl_14, zl_15, zl_16, zl_17, zl_18, zl_19, zl_20, zl_21, zl_22, zl_23, zl_24, zl_25, zl_26, zl_27, zl_28, zl_29, zl_30, zl_31, zl_32, zl_33, zl_34, zl_35, zl_36, zl_37, zl_38, zl_39, zl_40, zl_41, zl_42, zl_43, zl_44, zl_45, zl_46, zl_47, zl_48, zl_49, zl_50, zl_51, zl_52, zl_53, zl_54, zl_55, zl_56, zl_57, zl_58, zl_59, zl_60, zl_61, zl_62, zl_63, zl_64, zl_65, zl_66, zl_80, zl_97, zl_99, zl_103, zl_107, zl_112, zl_115, zl_100, zl_180, zl_210, zl_238, zl_255, zl_256, zl_400, zl_1000, zl_1024, zl_1260, zl_2000, zl_7140, zl_7200, zl_18414, zl_65536, zl_131072, zl_9999, zl_999, zI_add, zI_sub, zI_mul, zI_neg, zI_lt, zI_le, zI_eq, zI_clamp, ck_z, ckp_z, qb_z, qb_z0, Option.bind_some]
    rw [if_neg (by omega)]
  · rw [decide_eq_false ha]
    rfl
end OPS

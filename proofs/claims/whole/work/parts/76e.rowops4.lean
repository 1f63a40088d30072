section OPS
variable {j : Nat} {K W M R : Nat → Int32} {C : Int32} {many kk tt mm sz sg lt pg : Nat → Int32}
theorem op_rule (hj : j < 6) (hu : RulR j R sz sg lt pg) (told : Int32) (chg : Bool) (v2 v3 : Int32) : ∃ c1 c2, F_X7_rule_ok R chg (nI j) v2 v3 = some c1 ∧ F_X8_rule told sz sg lt pg (nI j) v2 v3 = some c2 ∧ c1.1 = c2.1 ∧ RulR j c1.2.1 c2.2.2.1 c2.2.2.2.1 c2.2.2.2.2.1 c2.2.2.2.2.2 ∧ (∀ j' R', j' ≠ j → RulR j' R' sz sg lt pg → RulR j' R' c2.2.2.1 c2.2.2.2.1 c2.2.2.2.2.1 c2.2.2.2.2.2) ∧ (c1.2.2 = true ∨ c1.2 = (R, chg)) := by
  obtain ⟨a, ha1, ha2, rfl⟩ := zI_of v2
  obtain ⟨b, hb1, hb2, rfl⟩ := zI_of v3
  have hbt := zI_toInt hb1 hb2
  unfold F_X7_rule_ok F_X8_rule F_X5_setRule
  rw [isRow_eq j hj, Option.bind_some, if_neg (show ¬ qb true = 0 by decide)]
  by_cases h : a < 2 ∨ 5 < a
  · simp (disch := omega) only [zl_0, zl_1, zl_2, zl_3, zl_4, zl_5, zl_6, zl_7, zl_8, zl_9, zl_10, zl_11, zl_12, zl_13, zl_14, zl_15, zl_16, zl_17, zl_18, zl_19, zl_20, zl_21, zl_22, zl_23, zl_24, zl_25, zl_26, zl_27, zl_28, zl_29, zl_30, zl_31, zl_32, zl_33, zl_34, zl_35, zl_36, zl_37, zl_38, zl_39, zl_40, zl_41, zl_42, zl_43, zl_44, zl_45, zl_46, zl_47, zl_48, zl_49, zl_50, zl_51, zl_52, zl_53, zl_54, zl_55, zl_56, zl_57, zl_58, zl_59, zl_60, zl_61, zl_62, zl_63, zl_64, zl_65, zl_66, zl_80, zl_97, zl_99, zl_103, zl_107, zl_112, zl_115, zl_100, zl_180, zl_210, zl_238, zl_255, zl_256, zl_400, zl_1000, zl_1024, zl_1260, zl_2000, zl_7140, zl_7200, zl_18414, zl_65536, zl_131072, zl_9999, zl_999, zI_add, zI_sub, zI_mul, zI_neg, zI_lt, zI_le, zI_eq, zI_clamp, ck_z, ckp_z, qb_z, Option.bind_some]
    by_cases h2 : a < 2
    · rw [if_pos h2, if_pos h2]
      exact ⟨_, _, rfl, rfl, rfl, hu, fun _ _ _ h => h, Or.inr rfl⟩
    · rw [if_neg h2, if_neg h2, if_pos (by omega), if_neg (by omega)]
      exact ⟨_, _, rfl, rfl, rfl, hu, fun _ _ _ h => h, Or.inr rfl⟩
  by_cases h2 : a = 2
  · subst h2
    obtain ⟨u2, u3, u4, u5, u6⟩ := hu
    rw [show (zI 2).toNatClampNeg = 2 from rfl, show s_low 2 = zI 1 from rfl, show s_top 2 = zI 15 from rfl]
    unfold F_X8_rule_b40 F_X8_rule_b75
    rw [nI_zI j]
    simp (disch := omega) only [zl_0, zl_1, zl_2, zl_3, zl_4, zl_5, zl_6, zl_7, zl_8, zl_9, zl_10, zl_11, zl_12, zl_13, zl_14, zl_15, zl_16, zl_17, zl_18, zl_19, zl_20, zl_21, zl_22, zl_23, zl_24, zl_25, zl_26, zl_27, zl_28, zl_29, zl_30, zl_31, zl_32, zl_33, zl_34, zl_35, zl_36, zl_37, zl_38, zl_39, zl_40, zl_41, zl_42, zl_43, zl_44, zl_45, zl_46, zl_47, zl_48, zl_49, zl_50, zl_51, zl_52, zl_53, zl_54, zl_55, zl_56, zl_57, zl_58, zl_59, zl_60, zl_61, zl_62, zl_63, zl_64, zl_65, zl_66, zl_80, zl_97, zl_99, zl_103, zl_107, zl_112, zl_115, zl_100, zl_180, zl_210, zl_238, zl_255, zl_256, zl_400, zl_1000, zl_1024, zl_1260, zl_2000, zl_7140, zl_7200, zl_18414, zl_65536, zl_131072, zl_9999, zl_999, zI_add, zI_sub, zI_mul, zI_neg, zI_lt, zI_le, zI_eq, zI_clamp, ck_z, ckp_z, qb_z, Option.bind_some]
    by_cases hb : 1 ≤ b ∧ b ≤ 15
    · simp (disch := omega) only [if_pos, if_neg, Option.bind_some, Int.toNat_natCast, reduceIte]
      refine ⟨_, _, rfl, rfl, rfl, ?_, ?_, Or.inl rfl⟩
      · simp only [RulR, upd, reduceIte, Nat.reduceEqDiff, hbt]
        refine ⟨?_, ?_, ?_, ?_, ?_⟩ <;> first | rfl | assumption | omega
      · rintro j' R' hne ⟨w2, w3, w4, w5, w6⟩
        simp only [RulR, upd, if_neg hne]
        exact ⟨w2, w3, w4, w5, w6⟩
    · by_cases hl : b < 1
      · simp (disch := omega) only [if_pos, if_neg, Option.bind_some, reduceIte]
        exact ⟨_, _, rfl, rfl, rfl, ⟨u2, u3, u4, u5, u6⟩, fun _ _ _ h => h, Or.inr rfl⟩
      · simp (disch := omega) only [if_pos, if_neg, Option.bind_some, reduceIte]
        exact ⟨_, _, rfl, rfl, rfl, ⟨u2, u3, u4, u5, u6⟩, fun _ _ _ h => h, Or.inr rfl⟩
  by_cases h3 : a = 3
  · subst h3
    obtain ⟨u2, u3, u4, u5, u6⟩ := hu
    rw [show (zI 3).toNatClampNeg = 3 from rfl, show s_low 3 = zI 0 from rfl, show s_top 3 = zI 8 from rfl]
    unfold F_X8_rule_b40 F_X8_rule_b75
    rw [nI_zI j]
    simp (disch := omega) only [zl_0, zl_1, zl_2, zl_3, zl_4, zl_5, zl_6, zl_7, zl_8, zl_9, zl_10, zl_11, zl_12, zl_13, zl_14, zl_15, zl_16, zl_17, zl_18, zl_19, zl_20, zl_21, zl_22, zl_23, zl_24, zl_25, zl_26, zl_27, zl_28, zl_29, zl_30, zl_31, zl_32, zl_33, zl_34, zl_35, zl_36, zl_37, zl_38, zl_39, zl_40, zl_41, zl_42, zl_43, zl_44, zl_45, zl_46, zl_47, zl_48, zl_49, zl_50, zl_51, zl_52, zl_53, zl_54, zl_55, zl_56, zl_57, zl_58, zl_59, zl_60, zl_61, zl_62, zl_63, zl_64, zl_65, zl_66, zl_80, zl_97, zl_99, zl_103, zl_107, zl_112, zl_115, zl_100, zl_180, zl_210, zl_238, zl_255, zl_256, zl_400, zl_1000, zl_1024, zl_1260, zl_2000, zl_7140, zl_7200, zl_18414, zl_65536, zl_131072, zl_9999, zl_999, zI_add, zI_sub, zI_mul, zI_neg, zI_lt, zI_le, zI_eq, zI_clamp, ck_z, ckp_z, qb_z, Option.bind_some]
    by_cases hb : 0 ≤ b ∧ b ≤ 8
    · simp (disch := omega) only [if_pos, if_neg, Option.bind_some, Int.toNat_natCast, reduceIte]
      refine ⟨_, _, rfl, rfl, rfl, ?_, ?_, Or.inl rfl⟩
      · simp only [RulR, upd, reduceIte, Nat.reduceEqDiff, hbt]
        refine ⟨?_, ?_, ?_, ?_, ?_⟩ <;> first | rfl | assumption | omega
      · rintro j' R' hne ⟨w2, w3, w4, w5, w6⟩
        simp only [RulR, upd, if_neg hne]
        exact ⟨w2, w3, w4, w5, w6⟩
    · by_cases hl : b < 0
      · simp (disch := omega) only [if_pos, if_neg, Option.bind_some, reduceIte]
        exact ⟨_, _, rfl, rfl, rfl, ⟨u2, u3, u4, u5, u6⟩, fun _ _ _ h => h, Or.inr rfl⟩
      · simp (disch := omega) only [if_pos, if_neg, Option.bind_some, reduceIte]
        exact ⟨_, _, rfl, rfl, rfl, ⟨u2, u3, u4, u5, u6⟩, fun _ _ _ h => h, Or.inr rfl⟩
  by_cases h4 : a = 4
  · subst h4
    obtain ⟨u2, u3, u4, u5, u6⟩ := hu
    rw [show (zI 4).toNatClampNeg = 4 from rfl, show s_low 4 = zI 1 from rfl, show s_top 4 = zI 39 from rfl]
    unfold F_X8_rule_b40 F_X8_rule_b75
    rw [nI_zI j]
    simp (disch := omega) only [zl_0, zl_1, zl_2, zl_3, zl_4, zl_5, zl_6, zl_7, zl_8, zl_9, zl_10, zl_11, zl_12, zl_13, zl_14, zl_15, zl_16, zl_17, zl_18, zl_19, zl_20, zl_21, zl_22, zl_23, zl_24, zl_25, zl_26, zl_27, zl_28, zl_29, zl_30, zl_31, zl_32, zl_33, zl_34, zl_35, zl_36, zl_37, zl_38, zl_39, zl_40, zl_41, zl_42, zl_43, zl_44, zl_45, zl_46, zl_47, zl_48, zl_49, zl_50, zl_51, zl_52, zl_53, zl_54, zl_55, zl_56, zl_57, zl_58, zl_59, zl_60, zl_61, zl_62, zl_63, zl_64, zl_65, zl_66, zl_80, zl_97, zl_99, zl_103, zl_107, zl_112, zl_115, zl_100, zl_180, zl_210, zl_238, zl_255, zl_256, zl_400, zl_1000, zl_1024, zl_1260, zl_2000, zl_7140, zl_7200, zl_18414, zl_65536, zl_131072, zl_9999, zl_999, zI_add, zI_sub, zI_mul, zI_neg, zI_lt, zI_le, zI_eq, zI_clamp, ck_z, ckp_z, qb_z, Option.bind_some]
    by_cases hb : 1 ≤ b ∧ b ≤ 39
    · simp (disch := omega) only [if_pos, if_neg, Option.bind_some, Int.toNat_natCast, reduceIte]
      refine ⟨_, _, rfl, rfl, rfl, ?_, ?_, Or.inl rfl⟩
      · simp only [RulR, upd, reduceIte, Nat.reduceEqDiff, hbt]
        refine ⟨?_, ?_, ?_, ?_, ?_⟩ <;> first | rfl | assumption | omega
      · rintro j' R' hne ⟨w2, w3, w4, w5, w6⟩
        simp only [RulR, upd, if_neg hne]
        exact ⟨w2, w3, w4, w5, w6⟩
    · by_cases hl : b < 1
      · simp (disch := omega) only [if_pos, if_neg, Option.bind_some, reduceIte]
        exact ⟨_, _, rfl, rfl, rfl, ⟨u2, u3, u4, u5, u6⟩, fun _ _ _ h => h, Or.inr rfl⟩
      · simp (disch := omega) only [if_pos, if_neg, Option.bind_some, reduceIte]
        exact ⟨_, _, rfl, rfl, rfl, ⟨u2, u3, u4, u5, u6⟩, fun _ _ _ h => h, Or.inr rfl⟩
  by_cases h5 : a = 5
  · subst h5
    obtain ⟨u2, u3, u4, u5, u6⟩ := hu
    rw [show (zI 5).toNatClampNeg = 5 from rfl, show s_low 5 = zI 0 from rfl, show s_top 5 = zI 999 from rfl]
    unfold F_X8_rule_b40 F_X8_rule_b75
    rw [nI_zI j]
    simp (disch := omega) only [zl_0, zl_1, zl_2, zl_3, zl_4, zl_5, zl_6, zl_7, zl_8, zl_9, zl_10, zl_11, zl_12, zl_13, zl_14, zl_15, zl_16, zl_17, zl_18, zl_19, zl_20, zl_21, zl_22, zl_23, zl_24, zl_25, zl_26, zl_27, zl_28, zl_29, zl_30, zl_31, zl_32, zl_33, zl_34, zl_35, zl_36, zl_37, zl_38, zl_39, zl_40, zl_41, zl_42, zl_43, zl_44, zl_45, zl_46, zl_47, zl_48, zl_49, zl_50, zl_51, zl_52, zl_53, zl_54, zl_55, zl_56, zl_57, zl_58, zl_59, zl_60, zl_61, zl_62, zl_63, zl_64, zl_65, zl_66, zl_80, zl_97, zl_99, zl_103, zl_107, zl_112, zl_115, zl_100, zl_180, zl_210, zl_238, zl_255, zl_256, zl_400, zl_1000, zl_1024, zl_1260, zl_2000, zl_7140, zl_7200, zl_18414, zl_65536, zl_131072, zl_9999, zl_999, zI_add, zI_sub, zI_mul, zI_neg, zI_lt, zI_le, zI_eq, zI_clamp, ck_z, ckp_z, qb_z, Option.bind_some]
    by_cases hb : 0 ≤ b ∧ b ≤ 999
    · simp (disch := omega) only [if_pos, if_neg, Option.bind_some, Int.toNat_natCast, reduceIte]
      refine ⟨_, _, rfl, rfl, rfl, ?_, ?_, Or.inl rfl⟩
      · simp only [RulR, upd, reduceIte, Nat.reduceEqDiff, hbt]
        refine ⟨?_, ?_, ?_, ?_, ?_⟩ <;> first | rfl | assumption | omega
      · rintro j' R' hne ⟨w2, w3, w4, w5, w6⟩
        simp only [RulR, upd, if_neg hne]
        exact ⟨w2, w3, w4, w5, w6⟩
    · by_cases hl : b < 0
      · simp (disch := omega) only [if_pos, if_neg, Option.bind_some, reduceIte]
        exact ⟨_, _, rfl, rfl, rfl, ⟨u2, u3, u4, u5, u6⟩, fun _ _ _ h => h, Or.inr rfl⟩
      · simp (disch := omega) only [if_pos, if_neg, Option.bind_some, reduceIte]
        exact ⟨_, _, rfl, rfl, rfl, ⟨u2, u3, u4, u5, u6⟩, fun _ _ _ h => h, Or.inr rfl⟩
  exact absurd rfl (by omega)
end OPS

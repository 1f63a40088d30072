section KP
variable (isThere things quires fl fp : NF)
/-- rows w..w+n-1 of the first slot are copied to the slot that begins at b -/
def Cpd (b n : Int) (X X' : NF) : Prop := (∀ j : Int, 0 ≤ j → j < n → X' (b + j).toNat = X j.toNat) ∧ ∀ j : Int, 0 ≤ j → (j < b ∨ b + n ≤ j) → X' j.toNat = X j.toNat
theorem keep_b129_z (t : Int) (ht : 1 ≤ t) (ht2 : t < 5) (sizeOf placed : NF) : ∀ (d m i : Nat) (ki ca : NF), i + d = 30 → d < m → ∃ ki' ca', F_X8_keep_b129 m isThere things quires fl fp sizeOf placed ki ca (zI 0) (zI t) (zI i) = some (isThere, things, quires, fl, fp, sizeOf, placed, ki', ca') ∧ ((∀ j : Int, (i : Int) ≤ j → j < 30 → ki' (30 * t + j).toNat = ki j.toNat) ∧ ∀ j : Int, 0 ≤ j → (j < 30 * t + i ∨ 30 * t + 30 ≤ j) → ki' j.toNat = ki j.toNat) ∧ ((∀ j : Int, (i : Int) ≤ j → j < 30 → ca' (30 * t + j).toNat = ca j.toNat) ∧ ∀ j : Int, 0 ≤ j → (j < 30 * t + i ∨ 30 * t + 30 ≤ j) → ca' j.toNat = ca j.toNat)
  | 0, m + 1, i, ki, ca, hi, _ => by
    unfold F_X8_keep_b129
    simp (disch := omega) only [zl_0, zl_1, zl_2, zl_3, zl_4, zl_5, zl_6, zl_7, zl_8, zl_9, zl_10, zl_11, zl_12, zl_13, zl_14, zl_15, zl_16, zl_17, zl_18, zl_19, zl_20, zl_21, zl_22, zl_23, zl_24, zl_25, zl_26, zl_27, zl_28, zl_29, zl_30, zl_31, zl_32, zl_33, zl_34, zl_35, zl_36, zl_37, zl_38, zl_39, zl_40, zl_41, zl_42, zl_43, zl_44, zl_45, zl_46, zl_47, zl_48, zl_49, zl_50, zl_51, zl_52, zl_53, zl_54, zl_55, zl_56, zl_57, zl_58, zl_59, zl_60, zl_61, zl_62, zl_63, zl_64, zl_65, zl_66, zl_80, zl_97, zl_99, zl_103, zl_107, zl_112, zl_115, zl_100, zl_180, zl_210, zl_238, zl_255, zl_256, zl_400, zl_1000, zl_1024, zl_1260, zl_2000, zl_7140, zl_7200, zl_18414, zl_65536, zl_131072, zl_9999, zl_999, zI_add, zI_sub, zI_mul, zI_neg, zI_lt, zI_le, zI_eq, zI_clamp, ck_z, ckp_z, qb_z, qb_z0, Option.bind_some, if_pos, if_neg, reduceIte, reduceCtorEq, Bool.false_eq_true, Bool.true_eq_false]
    exact ⟨_, _, rfl, ⟨fun j a b => by omega, fun _ _ _ => rfl⟩, ⟨fun j a b => by omega, fun _ _ _ => rfl⟩⟩
  | d + 1, m + 1, i, ki, ca, hi, hm => by
    obtain ⟨ki', ca', e, ⟨f1, f2⟩, ⟨f3, f4⟩⟩ := keep_b129_z t ht ht2 sizeOf placed d m (i + 1) (upd ki (30 * t + i).toNat (ki (i : Int).toNat)) (upd ca (30 * t + i).toNat (ca (i : Int).toNat)) (by omega) (by omega)
    refine ⟨ki', ca', ?_, ⟨fun j a b => ?_, fun j a b => ?_⟩, ⟨fun j a b => ?_, fun j a b => ?_⟩⟩
    · refine Eq.trans ?_ e
      rw [F_X8_keep_b129]
      simp (disch := omega) only [zl_0, zl_1, zl_2, zl_3, zl_4, zl_5, zl_6, zl_7, zl_8, zl_9, zl_10, zl_11, zl_12, zl_13, zl_14, zl_15, zl_16, zl_17, zl_18, zl_19, zl_20, zl_21, zl_22, zl_23, zl_24, zl_25, zl_26, zl_27, zl_28, zl_29, zl_30, zl_31, zl_32, zl_33, zl_34, zl_35, zl_36, zl_37, zl_38, zl_39, zl_40, zl_41, zl_42, zl_43, zl_44, zl_45, zl_46, zl_47, zl_48, zl_49, zl_50, zl_51, zl_52, zl_53, zl_54, zl_55, zl_56, zl_57, zl_58, zl_59, zl_60, zl_61, zl_62, zl_63, zl_64, zl_65, zl_66, zl_80, zl_97, zl_99, zl_103, zl_107, zl_112, zl_115, zl_100, zl_180, zl_210, zl_238, zl_255, zl_256, zl_400, zl_1000, zl_1024, zl_1260, zl_2000, zl_7140, zl_7200, zl_18414, zl_65536, zl_131072, zl_9999, zl_999, zI_add, zI_sub, zI_mul, zI_neg, zI_lt, zI_le, zI_eq, zI_clamp, ck_z, ckp_z, qb_z, qb_z0, Option.bind_some, if_pos, if_neg, reduceIte, reduceCtorEq, Bool.false_eq_true, Bool.true_eq_false, Int.mul_zero, Int.zero_add]
      rfl
    · by_cases c : j = i
      · subst c
        rw [f2 _ (by omega) (by omega), upd_z _ _ (by omega) (by omega), if_pos rfl]
      · rw [f1 j (by omega) b, upd_z _ _ (by omega) (by omega), if_neg (by omega)]
    · rw [f2 j a (by omega), upd_z _ _ (by omega) (by omega), if_neg (by omega)]
    · by_cases c : j = i
      · subst c
        rw [f4 _ (by omega) (by omega), upd_z _ _ (by omega) (by omega), if_pos rfl]
      · rw [f3 j (by omega) b, upd_z _ _ (by omega) (by omega), if_neg (by omega)]
    · rw [f4 j a (by omega), upd_z _ _ (by omega) (by omega), if_neg (by omega)]
theorem keep_b93_z (t : Int) (ht : 1 ≤ t) (ht2 : t < 5) (sizeOf ki ca : NF) : ∀ (d m i : Nat) (pl : NF), i + d = 64 → d < m → ∃ pl', F_X8_keep_b93 m isThere things quires fl fp sizeOf pl ki ca (zI 0) (zI t) (zI i) = F_X8_keep_b129 FU isThere things quires fl fp sizeOf pl' ki ca (zI 0) (zI t) (zI 0) ∧ ((∀ j : Int, (i : Int) ≤ j → j < 64 → pl' (64 * t + j).toNat = pl j.toNat) ∧ ∀ j : Int, 0 ≤ j → (j < 64 * t + i ∨ 64 * t + 64 ≤ j) → pl' j.toNat = pl j.toNat)
  | 0, m + 1, i, pl, hi, _ => by
    unfold F_X8_keep_b93
    simp (disch := omega) only [zl_0, zl_1, zl_2, zl_3, zl_4, zl_5, zl_6, zl_7, zl_8, zl_9, zl_10, zl_11, zl_12, zl_13, zl_14, zl_15, zl_16, zl_17, zl_18, zl_19, zl_20, zl_21, zl_22, zl_23, zl_24, zl_25, zl_26, zl_27, zl_28, zl_29, zl_30, zl_31, zl_32, zl_33, zl_34, zl_35, zl_36, zl_37, zl_38, zl_39, zl_40, zl_41, zl_42, zl_43, zl_44, zl_45, zl_46, zl_47, zl_48, zl_49, zl_50, zl_51, zl_52, zl_53, zl_54, zl_55, zl_56, zl_57, zl_58, zl_59, zl_60, zl_61, zl_62, zl_63, zl_64, zl_65, zl_66, zl_80, zl_97, zl_99, zl_103, zl_107, zl_112, zl_115, zl_100, zl_180, zl_210, zl_238, zl_255, zl_256, zl_400, zl_1000, zl_1024, zl_1260, zl_2000, zl_7140, zl_7200, zl_18414, zl_65536, zl_131072, zl_9999, zl_999, zI_add, zI_sub, zI_mul, zI_neg, zI_lt, zI_le, zI_eq, zI_clamp, ck_z, ckp_z, qb_z, qb_z0, Option.bind_some, if_pos, if_neg, reduceIte, reduceCtorEq, Bool.false_eq_true, Bool.true_eq_false]
    exact ⟨_, rfl, ⟨fun j a b => by omega, fun _ _ _ => rfl⟩⟩
  | d + 1, m + 1, i, pl, hi, hm => by
    obtain ⟨pl', e, ⟨f1, f2⟩⟩ := keep_b93_z t ht ht2 sizeOf ki ca d m (i + 1) (upd pl (64 * t + i).toNat (pl (i : Int).toNat)) (by omega) (by omega)
    refine ⟨pl', ?_, ⟨fun j a b => ?_, fun j a b => ?_⟩⟩
    · refine Eq.trans ?_ e
      rw [F_X8_keep_b93]
      simp (disch := omega) only [zl_0, zl_1, zl_2, zl_3, zl_4, zl_5, zl_6, zl_7, zl_8, zl_9, zl_10, zl_11, zl_12, zl_13, zl_14, zl_15, zl_16, zl_17, zl_18, zl_19, zl_20, zl_21, zl_22, zl_23, zl_24, zl_25, zl_26, zl_27, zl_28, zl_29, zl_30, zl_31, zl_32, zl_33, zl_34, zl_35, zl_36, zl_37, zl_38, zl_39, zl_40, zl_41, zl_42, zl_43, zl_44, zl_45, zl_46, zl_47, zl_48, zl_49, zl_50, zl_51, zl_52, zl_53, zl_54, zl_55, zl_56, zl_57, zl_58, zl_59, zl_60, zl_61, zl_62, zl_63, zl_64, zl_65, zl_66, zl_80, zl_97, zl_99, zl_103, zl_107, zl_112, zl_115, zl_100, zl_180, zl_210, zl_238, zl_255, zl_256, zl_400, zl_1000, zl_1024, zl_1260, zl_2000, zl_7140, zl_7200, zl_18414, zl_65536, zl_131072, zl_9999, zl_999, zI_add, zI_sub, zI_mul, zI_neg, zI_lt, zI_le, zI_eq, zI_clamp, ck_z, ckp_z, qb_z, qb_z0, Option.bind_some, if_pos, if_neg, reduceIte, reduceCtorEq, Bool.false_eq_true, Bool.true_eq_false, Int.mul_zero, Int.zero_add]
      rfl
    · by_cases c : j = i
      · subst c
        rw [f2 _ (by omega) (by omega), upd_z _ _ (by omega) (by omega), if_pos rfl]
      · rw [f1 j (by omega) b, upd_z _ _ (by omega) (by omega), if_neg (by omega)]
    · rw [f2 j a (by omega), upd_z _ _ (by omega) (by omega), if_neg (by omega)]
theorem keep_b57_z (t : Int) (ht : 1 ≤ t) (ht2 : t < 5) (pl ki ca : NF) : ∀ (d m i : Nat) (sz : NF), i + d = 8 → d < m → ∃ sz', F_X8_keep_b57 m isThere things quires fl fp sz pl ki ca (zI 0) (zI t) (zI i) = F_X8_keep_b93 FU isThere things quires fl fp sz' pl ki ca (zI 0) (zI t) (zI 0) ∧ ((∀ j : Int, (i : Int) ≤ j → j < 8 → sz' (8 * t + j).toNat = sz j.toNat) ∧ ∀ j : Int, 0 ≤ j → (j < 8 * t + i ∨ 8 * t + 8 ≤ j) → sz' j.toNat = sz j.toNat)
  | 0, m + 1, i, pl, hi, _ => by
    unfold F_X8_keep_b57
    simp (disch := omega) only [zl_0, zl_1, zl_2, zl_3, zl_4, zl_5, zl_6, zl_7, zl_8, zl_9, zl_10, zl_11, zl_12, zl_13, zl_14, zl_15, zl_16, zl_17, zl_18, zl_19, zl_20, zl_21, zl_22, zl_23, zl_24, zl_25, zl_26, zl_27, zl_28, zl_29, zl_30, zl_31, zl_32, zl_33, zl_34, zl_35, zl_36, zl_37, zl_38, zl_39, zl_40, zl_41, zl_42, zl_43, zl_44, zl_45, zl_46, zl_47, zl_48, zl_49, zl_50, zl_51, zl_52, zl_53, zl_54, zl_55, zl_56, zl_57, zl_58, zl_59, zl_60, zl_61, zl_62, zl_63, zl_64, zl_65, zl_66, zl_80, zl_97, zl_99, zl_103, zl_107, zl_112, zl_115, zl_100, zl_180, zl_210, zl_238, zl_255, zl_256, zl_400, zl_1000, zl_1024, zl_1260, zl_2000, zl_7140, zl_7200, zl_18414, zl_65536, zl_131072, zl_9999, zl_999, zI_add, zI_sub, zI_mul, zI_neg, zI_lt, zI_le, zI_eq, zI_clamp, ck_z, ckp_z, qb_z, qb_z0, Option.bind_some, if_pos, if_neg, reduceIte, reduceCtorEq, Bool.false_eq_true, Bool.true_eq_false]
    exact ⟨_, rfl, ⟨fun j a b => by omega, fun _ _ _ => rfl⟩⟩
  | d + 1, m + 1, i, sz, hi, hm => by
    obtain ⟨sz', e, ⟨f1, f2⟩⟩ := keep_b57_z t ht ht2 pl ki ca d m (i + 1) (upd sz (8 * t + i).toNat (sz (i : Int).toNat)) (by omega) (by omega)
    refine ⟨sz', ?_, ⟨fun j a b => ?_, fun j a b => ?_⟩⟩
    · refine Eq.trans ?_ e
      rw [F_X8_keep_b57]
      simp (disch := omega) only [zl_0, zl_1, zl_2, zl_3, zl_4, zl_5, zl_6, zl_7, zl_8, zl_9, zl_10, zl_11, zl_12, zl_13, zl_14, zl_15, zl_16, zl_17, zl_18, zl_19, zl_20, zl_21, zl_22, zl_23, zl_24, zl_25, zl_26, zl_27, zl_28, zl_29, zl_30, zl_31, zl_32, zl_33, zl_34, zl_35, zl_36, zl_37, zl_38, zl_39, zl_40, zl_41, zl_42, zl_43, zl_44, zl_45, zl_46, zl_47, zl_48, zl_49, zl_50, zl_51, zl_52, zl_53, zl_54, zl_55, zl_56, zl_57, zl_58, zl_59, zl_60, zl_61, zl_62, zl_63, zl_64, zl_65, zl_66, zl_80, zl_97, zl_99, zl_103, zl_107, zl_112, zl_115, zl_100, zl_180, zl_210, zl_238, zl_255, zl_256, zl_400, zl_1000, zl_1024, zl_1260, zl_2000, zl_7140, zl_7200, zl_18414, zl_65536, zl_131072, zl_9999, zl_999, zI_add, zI_sub, zI_mul, zI_neg, zI_lt, zI_le, zI_eq, zI_clamp, ck_z, ckp_z, qb_z, qb_z0, Option.bind_some, if_pos, if_neg, reduceIte, reduceCtorEq, Bool.false_eq_true, Bool.true_eq_false, Int.mul_zero, Int.zero_add]
      rfl
    · by_cases c : j = i
      · subst c
        rw [f2 _ (by omega) (by omega), upd_z _ _ (by omega) (by omega), if_pos rfl]
      · rw [f1 j (by omega) b, upd_z _ _ (by omega) (by omega), if_neg (by omega)]
    · rw [f2 j a (by omega), upd_z _ _ (by omega) (by omega), if_neg (by omega)]
theorem keep_z (t : Int) (ht : 1 ≤ t) (ht2 : t < 5) (sz pl ki ca : NF) : ∃ sz' pl' ki' ca', F_X8_keep isThere things quires fl fp sz pl ki ca 0 (zI t) = some (upd isThere t.toNat 1, upd things t.toNat (things 0), upd quires t.toNat (quires 0), upd fl t.toNat (fl 0), upd fp t.toNat (fp 0), sz', pl', ki', ca') ∧ Cpd (8 * t) 8 sz sz' ∧ Cpd (64 * t) 64 pl pl' ∧ Cpd (30 * t) 30 ki ki' ∧ Cpd (30 * t) 30 ca ca' := by
  obtain ⟨sz', e1, f1, f2⟩ := keep_b57_z (upd isThere t.toNat 1) (upd things t.toNat (things 0)) (upd quires t.toNat (quires 0)) (upd fl t.toNat (fl 0)) (upd fp t.toNat (fp 0)) t ht ht2 pl ki ca 8 FU 0 sz (by omega) (by unfold FU; omega)
  obtain ⟨pl', e2, f3, f4⟩ := keep_b93_z (upd isThere t.toNat 1) (upd things t.toNat (things 0)) (upd quires t.toNat (quires 0)) (upd fl t.toNat (fl 0)) (upd fp t.toNat (fp 0)) t ht ht2 sz' ki ca 64 FU 0 pl (by omega) (by unfold FU; omega)
  obtain ⟨ki', ca', e3, ⟨f5, f6⟩, ⟨f7, f8⟩⟩ := keep_b129_z (upd isThere t.toNat 1) (upd things t.toNat (things 0)) (upd quires t.toNat (quires 0)) (upd fl t.toNat (fl 0)) (upd fp t.toNat (fp 0)) t ht ht2 sz' pl' 30 FU 0 ki ca (by omega) (by unfold FU; omega)
  refine ⟨sz', pl', ki', ca', ?_, ⟨fun j a b => f1 j (by omega) b, fun j a b => f2 j a (by omega)⟩, ⟨fun j a b => f3 j (by omega) b, fun j a b => f4 j a (by omega)⟩, ⟨fun j a b => f5 j (by omega) b, fun j a b => f6 j a (by omega)⟩, ⟨fun j a b => f7 j (by omega) b, fun j a b => f8 j a (by omega)⟩⟩
  refine Eq.trans ?_ e3
  refine Eq.trans ?_ e2
  refine Eq.trans ?_ e1
  unfold F_X8_keep
  rw [show (0 : Int32).toNatClampNeg = 0 from rfl, zl_0, zl_1]
  simp (disch := omega) only [zl_0, zl_1, zl_2, zl_3, zl_4, zl_5, zl_6, zl_7, zl_8, zl_9, zl_10, zl_11, zl_12, zl_13, zl_14, zl_15, zl_16, zl_17, zl_18, zl_19, zl_20, zl_21, zl_22, zl_23, zl_24, zl_25, zl_26, zl_27, zl_28, zl_29, zl_30, zl_31, zl_32, zl_33, zl_34, zl_35, zl_36, zl_37, zl_38, zl_39, zl_40, zl_41, zl_42, zl_43, zl_44, zl_45, zl_46, zl_47, zl_48, zl_49, zl_50, zl_51, zl_52, zl_53, zl_54, zl_55, zl_56, zl_57, zl_58, zl_59, zl_60, zl_61, zl_62, zl_63, zl_64, zl_65, zl_66, zl_80, zl_97, zl_99, zl_103, zl_107, zl_112, zl_115, zl_100, zl_180, zl_210, zl_238, zl_255, zl_256, zl_400, zl_1000, zl_1024, zl_1260, zl_2000, zl_7140, zl_7200, zl_18414, zl_65536, zl_131072, zl_9999, zl_999, zI_add, zI_sub, zI_mul, zI_neg, zI_lt, zI_le, zI_eq, zI_clamp, ck_z, ckp_z, qb_z, qb_z0, Option.bind_some, if_pos, if_neg, reduceIte, reduceCtorEq, Bool.false_eq_true, Bool.true_eq_false]
  rfl
end KP
section CU
variable {made : Bool} {quires things ghosts letter page : Int32} {sizes cells kinds words quireOf placeOf : NF} {isThere mthings mquires fl fp sizeOf placed kindOf catchOf : NF}
theorem isCopy_z (a : Int) (h1 : -2147483648 ≤ a) (h2 : a < 2147483648) : F_X8_isCopy (zI a) = some (decide (0 ≤ a ∧ a < 4)) := by
  unfold F_X8_isCopy
  simp (disch := omega) only [zl_0, zl_1, zl_2, zl_3, zl_4, zl_5, zl_6, zl_7, zl_8, zl_9, zl_10, zl_11, zl_12, zl_13, zl_14, zl_15, zl_16, zl_17, zl_18, zl_19, zl_20, zl_21, zl_22, zl_23, zl_24, zl_25, zl_26, zl_27, zl_28, zl_29, zl_30, zl_31, zl_32, zl_33, zl_34, zl_35, zl_36, zl_37, zl_38, zl_39, zl_40, zl_41, zl_42, zl_43, zl_44, zl_45, zl_46, zl_47, zl_48, zl_49, zl_50, zl_51, zl_52, zl_53, zl_54, zl_55, zl_56, zl_57, zl_58, zl_59, zl_60, zl_61, zl_62, zl_63, zl_64, zl_65, zl_66, zl_80, zl_97, zl_99, zl_103, zl_107, zl_112, zl_115, zl_100, zl_180, zl_210, zl_238, zl_255, zl_256, zl_400, zl_1000, zl_1024, zl_1260, zl_2000, zl_7140, zl_7200, zl_18414, zl_65536, zl_131072, zl_9999, zl_999, zI_add, zI_sub, zI_mul, zI_neg, zI_lt, zI_le, zI_eq, zI_clamp, ck_z, ckp_z, qb_z, qb_z0, Option.bind_some]
  by_cases h : 0 ≤ a ∧ a < 4
  · rw [decide_eq_true h]; (repeat' split) <;> first | rfl | contradiction | (exfalso; omega)
  · rw [decide_eq_false h]; (repeat' split) <;> first | rfl | contradiction | (exfalso; omega)
theorem op_copy {j : Nat} (hj : j < 4) (h : CurR made quires things ghosts letter page sizes cells kinds words quireOf placeOf isThere mthings mquires fl fp sizeOf placed kindOf catchOf) (told : Int32) (am : Bool) (a1 a2 a3 a4 a5 : Int32) (b1 b2 b3 b4 b5 b6 : NF) (hk : KepR j am a1 a2 a3 a4 a5 b1 b2 b3 b4 b5 b6 isThere mthings mquires fl fp sizeOf placed kindOf catchOf) : ∃ c1 c2, F_X7_copy_ok made quires things ghosts letter page sizes cells kinds words quireOf placeOf am a1 a2 a3 a4 a5 b1 b2 b3 b4 b5 b6 (nI j) = some c1 ∧ F_X8_copy told isThere mthings mquires fl fp sizeOf placed kindOf catchOf (nI j) = some c2 ∧ c1.1 = c2.1 ∧ CurR made quires things ghosts letter page sizes cells kinds words quireOf placeOf c2.2.2.1 c2.2.2.2.1 c2.2.2.2.2.1 c2.2.2.2.2.2.1 c2.2.2.2.2.2.2.1 c2.2.2.2.2.2.2.2.1 c2.2.2.2.2.2.2.2.2.1 c2.2.2.2.2.2.2.2.2.2.1 c2.2.2.2.2.2.2.2.2.2.2 ∧ KepR j c1.2.1 c1.2.2.1 c1.2.2.2.1 c1.2.2.2.2.1 c1.2.2.2.2.2.1 c1.2.2.2.2.2.2.1 c1.2.2.2.2.2.2.2.1 c1.2.2.2.2.2.2.2.2.1 c1.2.2.2.2.2.2.2.2.2.1 c1.2.2.2.2.2.2.2.2.2.2.1 c1.2.2.2.2.2.2.2.2.2.2.2.1 c1.2.2.2.2.2.2.2.2.2.2.2.2 c2.2.2.1 c2.2.2.2.1 c2.2.2.2.2.1 c2.2.2.2.2.2.1 c2.2.2.2.2.2.2.1 c2.2.2.2.2.2.2.2.1 c2.2.2.2.2.2.2.2.2.1 c2.2.2.2.2.2.2.2.2.2.1 c2.2.2.2.2.2.2.2.2.2.2 ∧ (∀ (j' : Nat) m' x1 x2 x3 x4 x5 y1 y2 y3 y4 y5 y6, j' ≠ j → KepR j' m' x1 x2 x3 x4 x5 y1 y2 y3 y4 y5 y6 isThere mthings mquires fl fp sizeOf placed kindOf catchOf → KepR j' m' x1 x2 x3 x4 x5 y1 y2 y3 y4 y5 y6 c2.2.2.1 c2.2.2.2.1 c2.2.2.2.2.1 c2.2.2.2.2.2.1 c2.2.2.2.2.2.2.1 c2.2.2.2.2.2.2.2.1 c2.2.2.2.2.2.2.2.2.1 c2.2.2.2.2.2.2.2.2.2.1 c2.2.2.2.2.2.2.2.2.2.2) := by
  have ec := isCopy_z j (by omega) (by omega)
  rw [decide_eq_true (by omega)] at ec
  unfold F_X7_copy_ok F_X8_copy
  rw [become_eq, nI_zI, ec, Option.bind_some, show (0 : Int32).toNatClampNeg = 0 from rfl]
  obtain ⟨Φ, hw, hc, ⟨hm0, ht, hm⟩ | ⟨hm0, ht, hQ, hT, hG, hL⟩⟩ := id h
  · subst hm0
    obtain ⟨sz', pl', ki', ca', e, ⟨f1, f1'⟩, ⟨f2, f2'⟩, ⟨f3, f3'⟩, ⟨f4, f4'⟩⟩ := keep_z isThere mthings mquires fl fp ((j : Int) + 1) (by omega) (by omega) sizeOf placed kindOf catchOf
    have hr := hw.1
    have hup (X : NF) (x : Int32) (i : Int) (h0 : 0 ≤ i) (h1 : i ≠ j + 1) : upd X ((j : Int) + 1).toNat x i.toNat = X i.toNat := by rw [upd_z _ _ (by omega) h0, if_neg h1]
    rw [ht]
    have ez : zI (j : Int) + 1 = zI ((j : Int) + 1) := by rw [zl_1, zI_add]
    rw [ez, e]
    have c0 : (qb true = 0) = False := by decide
    have l1 : ¬ zI (j : Int) < 0 := by simp (disch := omega) only [zl_0, zl_1, zl_2, zl_3, zl_4, zl_5, zl_6, zl_7, zl_8, zl_9, zl_10, zl_11, zl_12, zl_13, zl_14, zl_15, zl_16, zl_17, zl_18, zl_19, zl_20, zl_21, zl_22, zl_23, zl_24, zl_25, zl_26, zl_27, zl_28, zl_29, zl_30, zl_31, zl_32, zl_33, zl_34, zl_35, zl_36, zl_37, zl_38, zl_39, zl_40, zl_41, zl_42, zl_43, zl_44, zl_45, zl_46, zl_47, zl_48, zl_49, zl_50, zl_51, zl_52, zl_53, zl_54, zl_55, zl_56, zl_57, zl_58, zl_59, zl_60, zl_61, zl_62, zl_63, zl_64, zl_65, zl_66, zl_80, zl_97, zl_99, zl_103, zl_107, zl_112, zl_115, zl_100, zl_180, zl_210, zl_238, zl_255, zl_256, zl_400, zl_1000, zl_1024, zl_1260, zl_2000, zl_7140, zl_7200, zl_18414, zl_65536, zl_131072, zl_9999, zl_999, zI_add, zI_sub, zI_mul, zI_neg, zI_lt, zI_le, zI_eq, zI_clamp, ck_z, ckp_z, qb_z, qb_z0, Option.bind_some]; omega
    have l2 : zI (j : Int) < 4 := by simp (disch := omega) only [zl_0, zl_1, zl_2, zl_3, zl_4, zl_5, zl_6, zl_7, zl_8, zl_9, zl_10, zl_11, zl_12, zl_13, zl_14, zl_15, zl_16, zl_17, zl_18, zl_19, zl_20, zl_21, zl_22, zl_23, zl_24, zl_25, zl_26, zl_27, zl_28, zl_29, zl_30, zl_31, zl_32, zl_33, zl_34, zl_35, zl_36, zl_37, zl_38, zl_39, zl_40, zl_41, zl_42, zl_43, zl_44, zl_45, zl_46, zl_47, zl_48, zl_49, zl_50, zl_51, zl_52, zl_53, zl_54, zl_55, zl_56, zl_57, zl_58, zl_59, zl_60, zl_61, zl_62, zl_63, zl_64, zl_65, zl_66, zl_80, zl_97, zl_99, zl_103, zl_107, zl_112, zl_115, zl_100, zl_180, zl_210, zl_238, zl_255, zl_256, zl_400, zl_1000, zl_1024, zl_1260, zl_2000, zl_7140, zl_7200, zl_18414, zl_65536, zl_131072, zl_9999, zl_999, zI_add, zI_sub, zI_mul, zI_neg, zI_lt, zI_le, zI_eq, zI_clamp, ck_z, ckp_z, qb_z, qb_z0, Option.bind_some]; omega
    rw [if_neg (by decide), if_neg l1, if_pos l2, if_neg (by decide), Option.bind_some, Option.bind_some]
    refine ⟨_, _, rfl, rfl, rfl, ⟨Φ, hw, hc, Or.inl ⟨rfl, ?_, ?_⟩⟩, Or.inl ⟨rfl, ?_, Φ, hw, FoldC_cpy hw hc _ _ _ _ _ _, ?_⟩, ?_⟩
    · exact (hup isThere 1 0 (by omega) (by omega)).trans ht
    · show FoldM 0 Φ (upd mthings ((j : Int) + 1).toNat (mthings 0)) (upd mquires ((j : Int) + 1).toNat (mquires 0)) (upd fl ((j : Int) + 1).toNat (fl 0)) (upd fp ((j : Int) + 1).toNat (fp 0)) sz' pl' ki' ca'
      obtain ⟨⟨h1, h2, h3, h4⟩, h5, h6, h7, h8⟩ := hm
      exact ⟨⟨(hup _ _ 0 (by omega) (by omega)).trans h1, (hup _ _ 0 (by omega) (by omega)).trans h2, (hup _ _ 0 (by omega) (by omega)).trans h3, (hup _ _ 0 (by omega) (by omega)).trans h4⟩, fun q a b => (f1' _ (by omega) (by omega)).trans (h5 q a b), fun q p a b c d => by have hs := hw.2.1 q a b; exact (f2' _ (by omega) (by omega)).trans (h6 q p a b c d), fun i a b => (f3' _ (by omega) (by omega)).trans (h7 i a b), fun i a b c => (f4' _ (by omega) (by omega)).trans (h8 i a b c)⟩
    · exact upd_at _ _ _
    · show FoldM ((j : Int) + 1) Φ (upd mthings ((j : Int) + 1).toNat (mthings 0)) (upd mquires ((j : Int) + 1).toNat (mquires 0)) (upd fl ((j : Int) + 1).toNat (fl 0)) (upd fp ((j : Int) + 1).toNat (fp 0)) sz' pl' ki' ca'
      obtain ⟨⟨h1, h2, h3, h4⟩, h5, h6, h7, h8⟩ := hm
      refine ⟨⟨(upd_at _ _ _).trans h1, (upd_at _ _ _).trans h2, (upd_at _ _ _).trans h3, (upd_at _ _ _).trans h4⟩, fun q a b => ?_, fun q p a b c d => ?_, fun i a b => ?_, fun i a b c => ?_⟩
      · rw [f1 q a (by omega)]
        have := h5 q a b
        rw [show 8 * 0 + q = q by omega] at this
        exact this
      · have hs := hw.2.1 q a b
        have g := f2 (8 * q + p - 1) (by omega) (by omega)
        have := h6 q p a b c d
        rw [show 64 * 0 + 8 * q + p - 1 = 8 * q + p - 1 by omega] at this
        rw [show 64 * ((j : Int) + 1) + 8 * q + p - 1 = 64 * ((j : Int) + 1) + (8 * q + p - 1) by omega, g]
        exact this
      · rw [f3 i a (by omega)]
        have := h7 i a b
        rw [show 30 * 0 + i = i by omega] at this
        exact this
      · rw [f4 i a (by omega)]
        have := h8 i a b c
        rw [show 30 * 0 + i = i by omega] at this
        exact this
    · intro j' m' x1 x2 x3 x4 x5 y1 y2 y3 y4 y5 y6 hne hk'
      have hn : (j' : Int) + 1 ≠ (j : Int) + 1 := by omega
      show KepR j' m' x1 x2 x3 x4 x5 y1 y2 y3 y4 y5 y6 (upd isThere ((j : Int) + 1).toNat 1) (upd mthings ((j : Int) + 1).toNat (mthings 0)) (upd mquires ((j : Int) + 1).toNat (mquires 0)) (upd fl ((j : Int) + 1).toNat (fl 0)) (upd fp ((j : Int) + 1).toNat (fp 0)) sz' pl' ki' ca'
      rcases hk' with ⟨g1, g2, Ψ, g3, g4, g5⟩ | ⟨g1, g2⟩
      · refine Or.inl ⟨g1, (hup _ _ _ (by omega) hn).trans g2, Ψ, g3, g4, ?_⟩
        have hr' := g3.1
        obtain ⟨⟨h1, h2, h3, h4⟩, h5, h6, h7, h8⟩ := g5
        exact ⟨⟨(hup _ _ _ (by omega) hn).trans h1, (hup _ _ _ (by omega) hn).trans h2, (hup _ _ _ (by omega) hn).trans h3, (hup _ _ _ (by omega) hn).trans h4⟩, fun q a b => (f1' _ (by omega) (by omega)).trans (h5 q a b), fun q p a b c d => by have hs := g3.2.1 q a b; exact (f2' _ (by omega) (by omega)).trans (h6 q p a b c d), fun i a b => (f3' _ (by omega) (by omega)).trans (h7 i a b), fun i a b c => (f4' _ (by omega) (by omega)).trans (h8 i a b c)⟩
      · exact Or.inr ⟨g1, (hup _ _ _ (by omega) hn).trans g2⟩
  · subst hm0
    rw [ht]
    exact ⟨_, _, rfl, rfl, rfl, h, hk, fun _ _ _ _ _ _ _ _ _ _ _ _ _ _ h => h⟩
theorem op_copy_no (h : CurR made quires things ghosts letter page sizes cells kinds words quireOf placeOf isThere mthings mquires fl fp sizeOf placed kindOf catchOf) (told v1 : Int32) (hv : v1 < 0 ∨ 4 ≤ v1) : ∃ c2, F_X7_copy_no made v1 = some false ∧ F_X8_copy told isThere mthings mquires fl fp sizeOf placed kindOf catchOf v1 = some c2 ∧ false = c2.1 ∧ c2.2.2 = (isThere, mthings, mquires, fl, fp, sizeOf, placed, kindOf, catchOf) := by
  obtain ⟨a, ha1, ha2, rfl⟩ := zI_of v1
  simp (disch := omega) only [zl_0, zl_1, zl_2, zl_3, zl_4, zl_5, zl_6, zl_7, zl_8, zl_9, zl_10, zl_11, zl_12, zl_13, zl_14, zl_15, zl_16, zl_17, zl_18, zl_19, zl_20, zl_21, zl_22, zl_23, zl_24, zl_25, zl_26, zl_27, zl_28, zl_29, zl_30, zl_31, zl_32, zl_33, zl_34, zl_35, zl_36, zl_37, zl_38, zl_39, zl_40, zl_41, zl_42, zl_43, zl_44, zl_45, zl_46, zl_47, zl_48, zl_49, zl_50, zl_51, zl_52, zl_53, zl_54, zl_55, zl_56, zl_57, zl_58, zl_59, zl_60, zl_61, zl_62, zl_63, zl_64, zl_65, zl_66, zl_80, zl_97, zl_99, zl_103, zl_107, zl_112, zl_115, zl_100, zl_180, zl_210, zl_238, zl_255, zl_256, zl_400, zl_1000, zl_1024, zl_1260, zl_2000, zl_7140, zl_7200, zl_18414, zl_65536, zl_131072, zl_9999, zl_999, zI_add, zI_sub, zI_mul, zI_neg, zI_lt, zI_le, zI_eq, zI_clamp, ck_z, ckp_z, qb_z, qb_z0, Option.bind_some] at hv
  have ec := isCopy_z a (by omega) (by omega)
  rw [decide_eq_false (by omega)] at ec
  unfold F_X7_copy_no F_X8_copy
  rw [ec, Option.bind_some]
  refine ⟨_, ?_, rfl, rfl, rfl⟩
  cases made with
  | false => rfl
  | true =>
    rw [if_neg (by decide)]
    simp (disch := omega) only [zl_0, zl_1, zl_2, zl_3, zl_4, zl_5, zl_6, zl_7, zl_8, zl_9, zl_10, zl_11, zl_12, zl_13, zl_14, zl_15, zl_16, zl_17, zl_18, zl_19, zl_20, zl_21, zl_22, zl_23, zl_24, zl_25, zl_26, zl_27, zl_28, zl_29, zl_30, zl_31, zl_32, zl_33, zl_34, zl_35, zl_36, zl_37, zl_38, zl_39, zl_40, zl_41, zl_42, zl_43, zl_44, zl_45, zl_46, zl_47, zl_48, zl_49, zl_50, zl_51, zl_52, zl_53, zl_54, zl_55, zl_56, zl_57, zl_58, zl_59, zl_60, zl_61, zl_62, zl_63, zl_64, zl_65, zl_66, zl_80, zl_97, zl_99, zl_103, zl_107, zl_112, zl_115, zl_100, zl_180, zl_210, zl_238, zl_255, zl_256, zl_400, zl_1000, zl_1024, zl_1260, zl_2000, zl_7140, zl_7200, zl_18414, zl_65536, zl_131072, zl_9999, zl_999, zI_add, zI_sub, zI_mul, zI_neg, zI_lt, zI_le, zI_eq, zI_clamp, ck_z, ckp_z, qb_z, qb_z0, Option.bind_some]
    (repeat' split) <;> first | rfl | contradiction | (exfalso; omega)
end CU

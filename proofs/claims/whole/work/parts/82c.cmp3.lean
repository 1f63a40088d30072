section CM
variable {amade bmade : Bool} {aquires athings aghosts aletter apage : Int32} {asizes acells akinds awords aquireOf aplaceOf : NF} {bquires bthings bghosts bletter bpage : Int32} {bsizes bcells bkinds bwords bquireOf bplaceOf : NF} {isThere mthings mquires fl fp sizeOf placed kindOf catchOf : NF}
theorem areKept_no1 (v1 v2 : Int32) (h : v1 < 0 ∨ 4 ≤ v1) : F_X8_areKept isThere v1 v2 = some false := by
  obtain ⟨a, ha1, ha2, rfl⟩ := zI_of v1
  simp (disch := omega) only [zl_0, zl_1, zl_2, zl_3, zl_4, zl_5, zl_6, zl_7, zl_8, zl_9, zl_10, zl_11, zl_12, zl_13, zl_14, zl_15, zl_16, zl_17, zl_18, zl_19, zl_20, zl_21, zl_22, zl_23, zl_24, zl_25, zl_26, zl_27, zl_28, zl_29, zl_30, zl_31, zl_32, zl_33, zl_34, zl_35, zl_36, zl_37, zl_38, zl_39, zl_40, zl_41, zl_42, zl_43, zl_44, zl_45, zl_46, zl_47, zl_48, zl_49, zl_50, zl_51, zl_52, zl_53, zl_54, zl_55, zl_56, zl_57, zl_58, zl_59, zl_60, zl_61, zl_62, zl_63, zl_64, zl_65, zl_66, zl_80, zl_97, zl_99, zl_103, zl_107, zl_112, zl_115, zl_100, zl_180, zl_210, zl_238, zl_255, zl_256, zl_400, zl_1000, zl_1024, zl_1260, zl_2000, zl_7140, zl_7200, zl_18414, zl_65536, zl_131072, zl_9999, zl_999, zI_add, zI_sub, zI_mul, zI_neg, zI_lt, zI_le, zI_eq, zI_clamp, ck_z, ckp_z, qb_z, qb_z0, Option.bind_some] at h
  unfold F_X8_areKept
  rw [isCopy_z a ha1 ha2, decide_eq_false (by omega)]
  rfl
theorem areKept_no2 (v1 v2 : Int32) (h : v2 < 0 ∨ 4 ≤ v2) : F_X8_areKept isThere v1 v2 = some false := by
  obtain ⟨a, ha1, ha2, rfl⟩ := zI_of v1
  obtain ⟨b, hb1, hb2, rfl⟩ := zI_of v2
  simp (disch := omega) only [zl_0, zl_1, zl_2, zl_3, zl_4, zl_5, zl_6, zl_7, zl_8, zl_9, zl_10, zl_11, zl_12, zl_13, zl_14, zl_15, zl_16, zl_17, zl_18, zl_19, zl_20, zl_21, zl_22, zl_23, zl_24, zl_25, zl_26, zl_27, zl_28, zl_29, zl_30, zl_31, zl_32, zl_33, zl_34, zl_35, zl_36, zl_37, zl_38, zl_39, zl_40, zl_41, zl_42, zl_43, zl_44, zl_45, zl_46, zl_47, zl_48, zl_49, zl_50, zl_51, zl_52, zl_53, zl_54, zl_55, zl_56, zl_57, zl_58, zl_59, zl_60, zl_61, zl_62, zl_63, zl_64, zl_65, zl_66, zl_80, zl_97, zl_99, zl_103, zl_107, zl_112, zl_115, zl_100, zl_180, zl_210, zl_238, zl_255, zl_256, zl_400, zl_1000, zl_1024, zl_1260, zl_2000, zl_7140, zl_7200, zl_18414, zl_65536, zl_131072, zl_9999, zl_999, zI_add, zI_sub, zI_mul, zI_neg, zI_lt, zI_le, zI_eq, zI_clamp, ck_z, ckp_z, qb_z, qb_z0, Option.bind_some] at h
  unfold F_X8_areKept
  rw [isCopy_z a ha1 ha2, isCopy_z b hb1 hb2, decide_eq_false (show ¬ (0 ≤ b ∧ b < 4) by omega), Option.bind_some, Option.bind_some, if_pos (show qb false = 0 by decide)]
  split <;> rfl
theorem areKept_z (i j : Nat) (hi : i < 4) (hj : j < 4) (x y : Int) (hx : isThere ((i : Int) + 1).toNat = zI x) (hy : isThere ((j : Int) + 1).toNat = zI y) (hx2 : x = 0 ∨ x = 1) (hy2 : y = 0 ∨ y = 1) : F_X8_areKept isThere (nI i) (nI j) = some (decide (x = 1 ∧ y = 1)) := by
  unfold F_X8_areKept
  rw [nI_zI, nI_zI, isCopy_z i (by omega) (by omega), isCopy_z j (by omega) (by omega), decide_eq_true (show 0 ≤ (i : Int) ∧ (i : Int) < 4 by omega), decide_eq_true (show 0 ≤ (j : Int) ∧ (j : Int) < 4 by omega), Option.bind_some, Option.bind_some]
  simp (disch := omega) only [zl_0, zl_1, zl_2, zl_3, zl_4, zl_5, zl_6, zl_7, zl_8, zl_9, zl_10, zl_11, zl_12, zl_13, zl_14, zl_15, zl_16, zl_17, zl_18, zl_19, zl_20, zl_21, zl_22, zl_23, zl_24, zl_25, zl_26, zl_27, zl_28, zl_29, zl_30, zl_31, zl_32, zl_33, zl_34, zl_35, zl_36, zl_37, zl_38, zl_39, zl_40, zl_41, zl_42, zl_43, zl_44, zl_45, zl_46, zl_47, zl_48, zl_49, zl_50, zl_51, zl_52, zl_53, zl_54, zl_55, zl_56, zl_57, zl_58, zl_59, zl_60, zl_61, zl_62, zl_63, zl_64, zl_65, zl_66, zl_80, zl_97, zl_99, zl_103, zl_107, zl_112, zl_115, zl_100, zl_180, zl_210, zl_238, zl_255, zl_256, zl_400, zl_1000, zl_1024, zl_1260, zl_2000, zl_7140, zl_7200, zl_18414, zl_65536, zl_131072, zl_9999, zl_999, zI_add, zI_sub, zI_mul, zI_neg, zI_lt, zI_le, zI_eq, zI_clamp, ck_z, ckp_z, qb_z, qb_z0, Option.bind_some, hx, hy]
  by_cases h : x = 1 ∧ y = 1
  · rw [decide_eq_true h]; (repeat' split) <;> first | rfl | contradiction | (exfalso; omega)
  · rw [decide_eq_false h]; (repeat' split) <;> first | rfl | contradiction | (exfalso; omega)
theorem differences_z {Φ Ψ : Fold} {f g : Nat} (hw : FoldW Φ) (hm : FoldM ((f : Int) + 1) Φ mthings mquires fl fp sizeOf placed kindOf catchOf) (hw2 : FoldW Ψ) (hm2 : FoldM ((g : Int) + 1) Ψ mthings mquires fl fp sizeOf placed kindOf catchOf) (hf : f < 4) (hg : g < 4) (ht : isThere ((f : Int) + 1).toNat = 1) (ht2 : isThere ((g : Int) + 1).toNat = 1) (i : Int) (h1 : -2147483648 ≤ i) (h2 : i < 2147483648) (q0 p0 : Int32) : F_X8_differences isThere mthings mquires sizeOf placed kindOf q0 p0 (nI f) (nI g) (zI i) = some (zI (dct Φ Ψ 64), (fnd Φ Ψ i q0 p0 64).1, (fnd Φ Ψ i q0 p0 64).2) := by
  have e := diff_b6_z hw hm hw2 hm2 (by omega) (by omega) (by omega) (by omega) ht ht2 i h1 h2 q0 p0 8 FU 0 (by omega) (by unfold FU; omega)
  rw [nI_zI, nI_zI]
  exact e
theorem op_against {i j : Nat} (hi : i < 4) (hj : j < 4) (hA : KepR i amade aquires athings aghosts aletter apage asizes acells akinds awords aquireOf aplaceOf isThere mthings mquires fl fp sizeOf placed kindOf catchOf) (hB : KepR j bmade bquires bthings bghosts bletter bpage bsizes bcells bkinds bwords bquireOf bplaceOf isThere mthings mquires fl fp sizeOf placed kindOf catchOf) (told q0 p0 v1 v2 : Int32) (ha : amade = true) (hb : bmade = true) : ∃ c1 c2, F_X7_against_ok_ok aquires athings asizes acells akinds bquires bthings bsizes bcells bkinds v1 v2 = some c1 ∧ F_X8_against told isThere mthings mquires sizeOf placed kindOf q0 p0 (nI i) (nI j) = some c2 ∧ c1 = c2.1 := by
  rcases hA with ⟨-, tA, Φ, hw, hc, hm⟩ | ⟨h, -⟩
  rotate_left
  · rw [ha] at h; cases h
  rcases hB with ⟨-, tB, Ψ, hw2, hc2, hm2⟩ | ⟨h, -⟩
  rotate_left
  · rw [hb] at h; cases h
  have e1 := against_b30_z hw hc hw2 hc2 64 FU 0 (by omega) (by unfold FU; omega)
  have e2 := differences_z hw hm hw2 hm2 hi hj tA tB (-1) (by omega) (by omega) q0 p0
  have e3 := areKept_z i j hi hj 1 1 tA tB (Or.inr rfl) (Or.inr rfl)
  have e1' : F_X7_against_ok_ok aquires athings asizes acells akinds bquires bthings bsizes bcells bkinds v1 v2 = some (zI (dct Φ Ψ 64)) := e1
  have e2' : F_X8_differences isThere mthings mquires sizeOf placed kindOf q0 p0 (nI i) (nI j) (-1) = some (zI (dct Φ Ψ 64), (fnd Φ Ψ (-1) q0 p0 64).1, (fnd Φ Ψ (-1) q0 p0 64).2) := e2
  unfold F_X8_against
  rw [e1', e2', e3]
  exact ⟨_, _, rfl, rfl, rfl⟩
theorem op_differs {i j : Nat} (hi : i < 4) (hj : j < 4) (hA : KepR i amade aquires athings aghosts aletter apage asizes acells akinds awords aquireOf aplaceOf isThere mthings mquires fl fp sizeOf placed kindOf catchOf) (hB : KepR j bmade bquires bthings bghosts bletter bpage bsizes bcells bkinds bwords bquireOf bplaceOf isThere mthings mquires fl fp sizeOf placed kindOf catchOf) (told q0 p0 v1 v2 v3 v4 : Int32) (ha : amade = true) (hb : bmade = true) : ∃ c1 c2, F_X7_differs_ok_ok aquires athings asizes acells akinds bquires bthings bsizes bcells bkinds v1 v2 v3 v4 = some c1 ∧ F_X8_differs told isThere mthings mquires sizeOf placed kindOf q0 p0 (nI i) (nI j) v3 v4 = some c2 ∧ c1 = c2.1 := by
  rcases hA with ⟨-, tA, Φ, hw, hc, hm⟩ | ⟨h, -⟩
  rotate_left
  · rw [ha] at h; cases h
  rcases hB with ⟨-, tB, Ψ, hw2, hc2, hm2⟩ | ⟨h, -⟩
  rotate_left
  · rw [hb] at h; cases h
  obtain ⟨n, hn1, hn2, rfl⟩ := zI_of v3
  obtain ⟨w, hw1, hww2, rfl⟩ := zI_of v4
  have e2 := differences_z hw hm hw2 hm2 hi hj tA tB n hn1 hn2 q0 p0
  have e3 := areKept_z i j hi hj 1 1 tA tB (Or.inr rfl) (Or.inr rfl)
  have r1 := dct_pos Φ Ψ 64
  have r2 := dct_b Φ Ψ 64
  unfold F_X7_differs_ok_ok F_X8_differs
  rw [e2, e3, Option.bind_some, Option.bind_some]
  by_cases hex : ∃ t, t < 64 ∧ dif Φ Ψ t ∧ dct Φ Ψ t = n
  · obtain ⟨t, ht, hd, hdn⟩ := hex
    have e1 := nth_b5_yes hw hc hw2 hc2 n hn1 hn2 t ht hd hdn t FU 0 (by omega) (by unfold FU; omega)
    have e1' : F_X7_nthUnlike aquires athings asizes acells akinds bquires bthings bsizes bcells bkinds (zI n) = some (zI t) := e1
    have ef := fnd_at Φ Ψ n q0 p0 t hd hdn (64 - (t + 1))
    rw [show t + 1 + (64 - (t + 1)) = 64 by omega] at ef
    have y := dct_yes hd
    have mo := dct_mono Φ Ψ (t + 1) (64 - (t + 1))
    rw [show t + 1 + (64 - (t + 1)) = 64 by omega] at mo
    have p0' := dct_pos Φ Ψ t
    have sA := stateOf_z hw hc t (by omega) (by omega)
    have sB := stateOf_z hw2 hc2 t (by omega) (by omega)
    have kA := code_z (isThere := isThere) hw hm (by omega) (by omega) tA ((t : Int) / 8) ((t : Int) % 8 + 1) (by omega) (by omega) (by omega) (by omega)
    have kB := code_z (isThere := isThere) hw2 hm2 (by omega) (by omega) tB ((t : Int) / 8) ((t : Int) % 8 + 1) (by omega) (by omega) (by omega) (by omega)
    have dv : zI (t : Int) / 8 = zI ((t : Int) / 8) := by rw [zl_8]; exact divz (by omega) (by omega) (by omega) (by omega)
    have rm : zI (t : Int) - zI (t : Int) / 8 * 8 + 1 = zI ((t : Int) % 8 + 1) := by
      have := remz (a := t) (b := 8) (by omega) (by omega) (by omega) (by omega)
      rw [zl_8, this, zl_1, zI_add]
    rw [e1', Option.bind_some, rm, dv, sA, sB, ef]
    unfold F_X8_differs_b75
    rw [nI_zI, nI_zI]
    by_cases w0 : w = 0
    · simp (disch := omega) only [zl_0, zl_1, zl_2, zl_3, zl_4, zl_5, zl_6, zl_7, zl_8, zl_9, zl_10, zl_11, zl_12, zl_13, zl_14, zl_15, zl_16, zl_17, zl_18, zl_19, zl_20, zl_21, zl_22, zl_23, zl_24, zl_25, zl_26, zl_27, zl_28, zl_29, zl_30, zl_31, zl_32, zl_33, zl_34, zl_35, zl_36, zl_37, zl_38, zl_39, zl_40, zl_41, zl_42, zl_43, zl_44, zl_45, zl_46, zl_47, zl_48, zl_49, zl_50, zl_51, zl_52, zl_53, zl_54, zl_55, zl_56, zl_57, zl_58, zl_59, zl_60, zl_61, zl_62, zl_63, zl_64, zl_65, zl_66, zl_80, zl_97, zl_99, zl_103, zl_107, zl_112, zl_115, zl_100, zl_180, zl_210, zl_238, zl_255, zl_256, zl_400, zl_1000, zl_1024, zl_1260, zl_2000, zl_7140, zl_7200, zl_18414, zl_65536, zl_131072, zl_9999, zl_999, zI_add, zI_sub, zI_mul, zI_neg, zI_lt, zI_le, zI_eq, zI_clamp, ck_z, ckp_z, qb_z, qb_z0, Option.bind_some, if_pos, if_neg, reduceIte, reduceCtorEq, Bool.false_eq_true, Bool.true_eq_false]
      exact ⟨_, _, rfl, rfl, rfl⟩
    by_cases w1 : w = 1
    · simp (disch := omega) only [zl_0, zl_1, zl_2, zl_3, zl_4, zl_5, zl_6, zl_7, zl_8, zl_9, zl_10, zl_11, zl_12, zl_13, zl_14, zl_15, zl_16, zl_17, zl_18, zl_19, zl_20, zl_21, zl_22, zl_23, zl_24, zl_25, zl_26, zl_27, zl_28, zl_29, zl_30, zl_31, zl_32, zl_33, zl_34, zl_35, zl_36, zl_37, zl_38, zl_39, zl_40, zl_41, zl_42, zl_43, zl_44, zl_45, zl_46, zl_47, zl_48, zl_49, zl_50, zl_51, zl_52, zl_53, zl_54, zl_55, zl_56, zl_57, zl_58, zl_59, zl_60, zl_61, zl_62, zl_63, zl_64, zl_65, zl_66, zl_80, zl_97, zl_99, zl_103, zl_107, zl_112, zl_115, zl_100, zl_180, zl_210, zl_238, zl_255, zl_256, zl_400, zl_1000, zl_1024, zl_1260, zl_2000, zl_7140, zl_7200, zl_18414, zl_65536, zl_131072, zl_9999, zl_999, zI_add, zI_sub, zI_mul, zI_neg, zI_lt, zI_le, zI_eq, zI_clamp, ck_z, ckp_z, qb_z, qb_z0, Option.bind_some, if_pos, if_neg, reduceIte, reduceCtorEq, Bool.false_eq_true, Bool.true_eq_false]
      exact ⟨_, _, rfl, rfl, rfl⟩
    by_cases w2 : w = 2
    · simp (disch := omega) only [zl_0, zl_1, zl_2, zl_3, zl_4, zl_5, zl_6, zl_7, zl_8, zl_9, zl_10, zl_11, zl_12, zl_13, zl_14, zl_15, zl_16, zl_17, zl_18, zl_19, zl_20, zl_21, zl_22, zl_23, zl_24, zl_25, zl_26, zl_27, zl_28, zl_29, zl_30, zl_31, zl_32, zl_33, zl_34, zl_35, zl_36, zl_37, zl_38, zl_39, zl_40, zl_41, zl_42, zl_43, zl_44, zl_45, zl_46, zl_47, zl_48, zl_49, zl_50, zl_51, zl_52, zl_53, zl_54, zl_55, zl_56, zl_57, zl_58, zl_59, zl_60, zl_61, zl_62, zl_63, zl_64, zl_65, zl_66, zl_80, zl_97, zl_99, zl_103, zl_107, zl_112, zl_115, zl_100, zl_180, zl_210, zl_238, zl_255, zl_256, zl_400, zl_1000, zl_1024, zl_1260, zl_2000, zl_7140, zl_7200, zl_18414, zl_65536, zl_131072, zl_9999, zl_999, zI_add, zI_sub, zI_mul, zI_neg, zI_lt, zI_le, zI_eq, zI_clamp, ck_z, ckp_z, qb_z, qb_z0, Option.bind_some, if_pos, if_neg, reduceIte, reduceCtorEq, Bool.false_eq_true, Bool.true_eq_false, kA]
      exact ⟨_, _, rfl, rfl, rfl⟩
    by_cases w3 : w = 3
    · simp (disch := omega) only [zl_0, zl_1, zl_2, zl_3, zl_4, zl_5, zl_6, zl_7, zl_8, zl_9, zl_10, zl_11, zl_12, zl_13, zl_14, zl_15, zl_16, zl_17, zl_18, zl_19, zl_20, zl_21, zl_22, zl_23, zl_24, zl_25, zl_26, zl_27, zl_28, zl_29, zl_30, zl_31, zl_32, zl_33, zl_34, zl_35, zl_36, zl_37, zl_38, zl_39, zl_40, zl_41, zl_42, zl_43, zl_44, zl_45, zl_46, zl_47, zl_48, zl_49, zl_50, zl_51, zl_52, zl_53, zl_54, zl_55, zl_56, zl_57, zl_58, zl_59, zl_60, zl_61, zl_62, zl_63, zl_64, zl_65, zl_66, zl_80, zl_97, zl_99, zl_103, zl_107, zl_112, zl_115, zl_100, zl_180, zl_210, zl_238, zl_255, zl_256, zl_400, zl_1000, zl_1024, zl_1260, zl_2000, zl_7140, zl_7200, zl_18414, zl_65536, zl_131072, zl_9999, zl_999, zI_add, zI_sub, zI_mul, zI_neg, zI_lt, zI_le, zI_eq, zI_clamp, ck_z, ckp_z, qb_z, qb_z0, Option.bind_some, if_pos, if_neg, reduceIte, reduceCtorEq, Bool.false_eq_true, Bool.true_eq_false, kB]
      exact ⟨_, _, rfl, rfl, rfl⟩
    by_cases w4 : w < 0
    · simp (disch := omega) only [zl_0, zl_1, zl_2, zl_3, zl_4, zl_5, zl_6, zl_7, zl_8, zl_9, zl_10, zl_11, zl_12, zl_13, zl_14, zl_15, zl_16, zl_17, zl_18, zl_19, zl_20, zl_21, zl_22, zl_23, zl_24, zl_25, zl_26, zl_27, zl_28, zl_29, zl_30, zl_31, zl_32, zl_33, zl_34, zl_35, zl_36, zl_37, zl_38, zl_39, zl_40, zl_41, zl_42, zl_43, zl_44, zl_45, zl_46, zl_47, zl_48, zl_49, zl_50, zl_51, zl_52, zl_53, zl_54, zl_55, zl_56, zl_57, zl_58, zl_59, zl_60, zl_61, zl_62, zl_63, zl_64, zl_65, zl_66, zl_80, zl_97, zl_99, zl_103, zl_107, zl_112, zl_115, zl_100, zl_180, zl_210, zl_238, zl_255, zl_256, zl_400, zl_1000, zl_1024, zl_1260, zl_2000, zl_7140, zl_7200, zl_18414, zl_65536, zl_131072, zl_9999, zl_999, zI_add, zI_sub, zI_mul, zI_neg, zI_lt, zI_le, zI_eq, zI_clamp, ck_z, ckp_z, qb_z, qb_z0, Option.bind_some, if_pos, if_neg, reduceIte, reduceCtorEq, Bool.false_eq_true, Bool.true_eq_false]
      exact ⟨_, _, rfl, rfl, rfl⟩
    · simp (disch := omega) only [zl_0, zl_1, zl_2, zl_3, zl_4, zl_5, zl_6, zl_7, zl_8, zl_9, zl_10, zl_11, zl_12, zl_13, zl_14, zl_15, zl_16, zl_17, zl_18, zl_19, zl_20, zl_21, zl_22, zl_23, zl_24, zl_25, zl_26, zl_27, zl_28, zl_29, zl_30, zl_31, zl_32, zl_33, zl_34, zl_35, zl_36, zl_37, zl_38, zl_39, zl_40, zl_41, zl_42, zl_43, zl_44, zl_45, zl_46, zl_47, zl_48, zl_49, zl_50, zl_51, zl_52, zl_53, zl_54, zl_55, zl_56, zl_57, zl_58, zl_59, zl_60, zl_61, zl_62, zl_63, zl_64, zl_65, zl_66, zl_80, zl_97, zl_99, zl_103, zl_107, zl_112, zl_115, zl_100, zl_180, zl_210, zl_238, zl_255, zl_256, zl_400, zl_1000, zl_1024, zl_1260, zl_2000, zl_7140, zl_7200, zl_18414, zl_65536, zl_131072, zl_9999, zl_999, zI_add, zI_sub, zI_mul, zI_neg, zI_lt, zI_le, zI_eq, zI_clamp, ck_z, ckp_z, qb_z, qb_z0, Option.bind_some, if_pos, if_neg, reduceIte, reduceCtorEq, Bool.false_eq_true, Bool.true_eq_false]
      exact ⟨_, _, rfl, rfl, rfl⟩
  · have hno : ∀ t, t < 64 → dif Φ Ψ t → dct Φ Ψ t ≠ n := fun t a b c => hex ⟨t, a, b, c⟩
    have e1 := nth_b5_no hw hc hw2 hc2 n hn1 hn2 hno 64 FU 0 (by omega) (by unfold FU; omega)
    have e1' : F_X7_nthUnlike aquires athings asizes acells akinds bquires bthings bsizes bcells bkinds (zI n) = some (zI (-1)) := e1
    rw [e1', Option.bind_some]
    by_cases n0 : n < 0
    · simp (disch := omega) only [zl_0, zl_1, zl_2, zl_3, zl_4, zl_5, zl_6, zl_7, zl_8, zl_9, zl_10, zl_11, zl_12, zl_13, zl_14, zl_15, zl_16, zl_17, zl_18, zl_19, zl_20, zl_21, zl_22, zl_23, zl_24, zl_25, zl_26, zl_27, zl_28, zl_29, zl_30, zl_31, zl_32, zl_33, zl_34, zl_35, zl_36, zl_37, zl_38, zl_39, zl_40, zl_41, zl_42, zl_43, zl_44, zl_45, zl_46, zl_47, zl_48, zl_49, zl_50, zl_51, zl_52, zl_53, zl_54, zl_55, zl_56, zl_57, zl_58, zl_59, zl_60, zl_61, zl_62, zl_63, zl_64, zl_65, zl_66, zl_80, zl_97, zl_99, zl_103, zl_107, zl_112, zl_115, zl_100, zl_180, zl_210, zl_238, zl_255, zl_256, zl_400, zl_1000, zl_1024, zl_1260, zl_2000, zl_7140, zl_7200, zl_18414, zl_65536, zl_131072, zl_9999, zl_999, zI_add, zI_sub, zI_mul, zI_neg, zI_lt, zI_le, zI_eq, zI_clamp, ck_z, ckp_z, qb_z, qb_z0, Option.bind_some, if_pos, if_neg, reduceIte, reduceCtorEq, Bool.false_eq_true, Bool.true_eq_false]
      exact ⟨_, _, rfl, rfl, rfl⟩
    · have hge : ¬ n < dct Φ Ψ 64 := fun c => by
        obtain ⟨s, a, b, d⟩ := dct_ivt Φ Ψ n (by omega) 64 c
        exact hno s a b d
      by_cases w4 : w < 0
      · simp (disch := omega) only [zl_0, zl_1, zl_2, zl_3, zl_4, zl_5, zl_6, zl_7, zl_8, zl_9, zl_10, zl_11, zl_12, zl_13, zl_14, zl_15, zl_16, zl_17, zl_18, zl_19, zl_20, zl_21, zl_22, zl_23, zl_24, zl_25, zl_26, zl_27, zl_28, zl_29, zl_30, zl_31, zl_32, zl_33, zl_34, zl_35, zl_36, zl_37, zl_38, zl_39, zl_40, zl_41, zl_42, zl_43, zl_44, zl_45, zl_46, zl_47, zl_48, zl_49, zl_50, zl_51, zl_52, zl_53, zl_54, zl_55, zl_56, zl_57, zl_58, zl_59, zl_60, zl_61, zl_62, zl_63, zl_64, zl_65, zl_66, zl_80, zl_97, zl_99, zl_103, zl_107, zl_112, zl_115, zl_100, zl_180, zl_210, zl_238, zl_255, zl_256, zl_400, zl_1000, zl_1024, zl_1260, zl_2000, zl_7140, zl_7200, zl_18414, zl_65536, zl_131072, zl_9999, zl_999, zI_add, zI_sub, zI_mul, zI_neg, zI_lt, zI_le, zI_eq, zI_clamp, ck_z, ckp_z, qb_z, qb_z0, Option.bind_some, if_pos, if_neg, reduceIte, reduceCtorEq, Bool.false_eq_true, Bool.true_eq_false]
        exact ⟨_, _, rfl, rfl, rfl⟩
      · by_cases w5 : 3 < w
        · simp (disch := omega) only [zl_0, zl_1, zl_2, zl_3, zl_4, zl_5, zl_6, zl_7, zl_8, zl_9, zl_10, zl_11, zl_12, zl_13, zl_14, zl_15, zl_16, zl_17, zl_18, zl_19, zl_20, zl_21, zl_22, zl_23, zl_24, zl_25, zl_26, zl_27, zl_28, zl_29, zl_30, zl_31, zl_32, zl_33, zl_34, zl_35, zl_36, zl_37, zl_38, zl_39, zl_40, zl_41, zl_42, zl_43, zl_44, zl_45, zl_46, zl_47, zl_48, zl_49, zl_50, zl_51, zl_52, zl_53, zl_54, zl_55, zl_56, zl_57, zl_58, zl_59, zl_60, zl_61, zl_62, zl_63, zl_64, zl_65, zl_66, zl_80, zl_97, zl_99, zl_103, zl_107, zl_112, zl_115, zl_100, zl_180, zl_210, zl_238, zl_255, zl_256, zl_400, zl_1000, zl_1024, zl_1260, zl_2000, zl_7140, zl_7200, zl_18414, zl_65536, zl_131072, zl_9999, zl_999, zI_add, zI_sub, zI_mul, zI_neg, zI_lt, zI_le, zI_eq, zI_clamp, ck_z, ckp_z, qb_z, qb_z0, Option.bind_some, if_pos, if_neg, reduceIte, reduceCtorEq, Bool.false_eq_true, Bool.true_eq_false]
          exact ⟨_, _, rfl, rfl, rfl⟩
        · simp (disch := omega) only [zl_0, zl_1, zl_2, zl_3, zl_4, zl_5, zl_6, zl_7, zl_8, zl_9, zl_10, zl_11, zl_12, zl_13, zl_14, zl_15, zl_16, zl_17, zl_18, zl_19, zl_20, zl_21, zl_22, zl_23, zl_24, zl_25, zl_26, zl_27, zl_28, zl_29, zl_30, zl_31, zl_32, zl_33, zl_34, zl_35, zl_36, zl_37, zl_38, zl_39, zl_40, zl_41, zl_42, zl_43, zl_44, zl_45, zl_46, zl_47, zl_48, zl_49, zl_50, zl_51, zl_52, zl_53, zl_54, zl_55, zl_56, zl_57, zl_58, zl_59, zl_60, zl_61, zl_62, zl_63, zl_64, zl_65, zl_66, zl_80, zl_97, zl_99, zl_103, zl_107, zl_112, zl_115, zl_100, zl_180, zl_210, zl_238, zl_255, zl_256, zl_400, zl_1000, zl_1024, zl_1260, zl_2000, zl_7140, zl_7200, zl_18414, zl_65536, zl_131072, zl_9999, zl_999, zI_add, zI_sub, zI_mul, zI_neg, zI_lt, zI_le, zI_eq, zI_clamp, ck_z, ckp_z, qb_z, qb_z0, Option.bind_some, if_pos, if_neg, reduceIte, reduceCtorEq, Bool.false_eq_true, Bool.true_eq_false]
          exact ⟨_, _, rfl, rfl, rfl⟩
theorem against_al (a1 a2 : Int32) (a3 a4 a5 : NF) (v1 v2 : Int32) : F_X7_against_ok_al a1 a2 a3 a4 a5 v1 v2 = F_X7_against_ok_ok a1 a2 a3 a4 a5 a1 a2 a3 a4 a5 v1 v2 := against_b30_al a1 a2 a3 a4 a5 FU 0 0
theorem differs_al (a1 a2 : Int32) (a3 a4 a5 : NF) (v1 v2 v3 v4 : Int32) : F_X7_differs_ok_al a1 a2 a3 a4 a5 v1 v2 v3 v4 = F_X7_differs_ok_ok a1 a2 a3 a4 a5 a1 a2 a3 a4 a5 v1 v2 v3 v4 := by
  unfold F_X7_differs_ok_al F_X7_differs_ok_ok F_X7_nthUnlike_s F_X7_nthUnlike
  rw [nth_al]
theorem KepR_x {i : Nat} (h : KepR i amade aquires athings aghosts aletter apage asizes acells akinds awords aquireOf aplaceOf isThere mthings mquires fl fp sizeOf placed kindOf catchOf) : ∃ x : Int, isThere ((i : Int) + 1).toNat = zI x ∧ (x = 0 ∨ x = 1) ∧ (amade = true ↔ x = 1) := by
  rcases h with ⟨h1, h2, -⟩ | ⟨h1, h2⟩
  · exact ⟨1, h2, Or.inr rfl, by rw [h1]; simp⟩
  · exact ⟨0, h2, Or.inl rfl, by rw [h1]; simp⟩
theorem areKept_un {i j : Nat} (hi : i < 4) (hj : j < 4) (hA : KepR i amade aquires athings aghosts aletter apage asizes acells akinds awords aquireOf aplaceOf isThere mthings mquires fl fp sizeOf placed kindOf catchOf) (hB : KepR j bmade bquires bthings bghosts bletter bpage bsizes bcells bkinds bwords bquireOf bplaceOf isThere mthings mquires fl fp sizeOf placed kindOf catchOf) (h : amade = false ∨ bmade = false) : F_X8_areKept isThere (nI i) (nI j) = some false := by
  obtain ⟨x, x1, x2, x3⟩ := KepR_x hA
  obtain ⟨y, y1, y2, y3⟩ := KepR_x hB
  rw [areKept_z i j hi hj x y x1 y1 x2 y2, decide_eq_false]
  rintro ⟨c1, c2⟩
  rcases h with h | h
  · rw [x3.mpr c1] at h; cases h
  · rw [y3.mpr c2] at h; cases h
end CM

section IL
variable {A B : Fold} {aquires athings aghosts aletter apage : Int32} {asizes acells akinds awords aquireOf aplaceOf : NF} {bquires bthings bghosts bletter bpage : Int32} {bsizes bcells bkinds bwords bquireOf bplaceOf : NF} {f g : Int} {mthings mquires firstLetter firstPage sizeOf placed kindOf catchOf isThere : NF}
def Lik (A B : Fold) : Prop := ∀ q, 0 ≤ q → q < fQ A → q < fQ B → fS A q = fS B q
theorem like_b15_yes (hA : FoldW A) (cA : FoldC A aquires athings aghosts aletter apage asizes acells akinds awords aquireOf aplaceOf) (hB : FoldW B) (cB : FoldC B bquires bthings bghosts bletter bpage bsizes bcells bkinds bwords bquireOf bplaceOf) (hL : Lik A B) : ∀ (d m : Nat) (q : Int), q + d = 8 → 0 ≤ q → d < m → F_X0_isFoldedLike_b15 aquires asizes bquires bsizes m (zI q) = some true
  | 0, m + 1, q, hq, _, _ => by
    unfold F_X0_isFoldedLike_b15
    simp (disch := omega) only [zl_0, zl_1, zl_2, zl_3, zl_4, zl_5, zl_6, zl_7, zl_8, zl_9, zl_10, zl_11, zl_12, zl_13, zl_14, zl_15, zl_16, zl_17, zl_18, zl_19, zl_20, zl_21, zl_22, zl_23, zl_24, zl_25, zl_26, zl_27, zl_28, zl_29, zl_30, zl_31, zl_32, zl_33, zl_34, zl_35, zl_36, zl_37, zl_38, zl_39, zl_40, zl_41, zl_42, zl_43, zl_44, zl_45, zl_46, zl_47, zl_48, zl_49, zl_50, zl_51, zl_52, zl_53, zl_54, zl_55, zl_56, zl_57, zl_58, zl_59, zl_60, zl_61, zl_62, zl_63, zl_64, zl_65, zl_66, zl_80, zl_97, zl_99, zl_103, zl_107, zl_112, zl_115, zl_100, zl_180, zl_210, zl_238, zl_255, zl_256, zl_400, zl_1000, zl_1024, zl_1260, zl_2000, zl_7140, zl_7200, zl_18414, zl_65536, zl_131072, zl_9999, zl_999, zI_add, zI_sub, zI_mul, zI_neg, zI_lt, zI_le, zI_eq, zI_clamp, ck_z, ckp_z, qb_z, qb_z0, Option.bind_some, if_pos, if_neg, reduceIte, reduceCtorEq, Bool.false_eq_true, Bool.true_eq_false]
  | d + 1, m + 1, q, hq, hq0, hm => by
    have hrA := hA.1
    have hrB := hB.1
    have ih := like_b15_yes hA cA hB cB hL d m (q + 1) (by omega) (by omega) (by omega)
    have eA : F_X0_hasQuire aquires (zI q) = some (decide (0 ≤ q ∧ q < fQ A)) := by rw [cA.1.1]; exact hasQuire_z _ _ (by omega) (by omega) (by omega) (by omega)
    have eB : F_X0_hasQuire bquires (zI q) = some (decide (0 ≤ q ∧ q < fQ B)) := by rw [cB.1.1]; exact hasQuire_z _ _ (by omega) (by omega) (by omega) (by omega)
    unfold F_X0_isFoldedLike_b15
    rw [eA, eB]
    by_cases ha : 0 ≤ q ∧ q < fQ A
    · rw [decide_eq_true ha]
      by_cases hb : 0 ≤ q ∧ q < fQ B
      · rw [decide_eq_true hb]
        have e := hL q hq0 ha.2 hb.2
        have sA := cA.2.1 q ha.1 ha.2
        have sB := cB.2.1 q hb.1 hb.2
        have rA := hA.2.1 q ha.1 ha.2
        simp (disch := omega) only [zl_0, zl_1, zl_2, zl_3, zl_4, zl_5, zl_6, zl_7, zl_8, zl_9, zl_10, zl_11, zl_12, zl_13, zl_14, zl_15, zl_16, zl_17, zl_18, zl_19, zl_20, zl_21, zl_22, zl_23, zl_24, zl_25, zl_26, zl_27, zl_28, zl_29, zl_30, zl_31, zl_32, zl_33, zl_34, zl_35, zl_36, zl_37, zl_38, zl_39, zl_40, zl_41, zl_42, zl_43, zl_44, zl_45, zl_46, zl_47, zl_48, zl_49, zl_50, zl_51, zl_52, zl_53, zl_54, zl_55, zl_56, zl_57, zl_58, zl_59, zl_60, zl_61, zl_62, zl_63, zl_64, zl_65, zl_66, zl_80, zl_97, zl_99, zl_103, zl_107, zl_112, zl_115, zl_100, zl_180, zl_210, zl_238, zl_255, zl_256, zl_400, zl_1000, zl_1024, zl_1260, zl_2000, zl_7140, zl_7200, zl_18414, zl_65536, zl_131072, zl_9999, zl_999, zI_add, zI_sub, zI_mul, zI_neg, zI_lt, zI_le, zI_eq, zI_clamp, ck_z, ckp_z, qb_z, qb_z0, Option.bind_some, if_pos, if_neg, reduceIte, reduceCtorEq, Bool.false_eq_true, Bool.true_eq_false, sA, sB, ih, e]
      · rw [decide_eq_false hb]
        simp (disch := omega) only [zl_0, zl_1, zl_2, zl_3, zl_4, zl_5, zl_6, zl_7, zl_8, zl_9, zl_10, zl_11, zl_12, zl_13, zl_14, zl_15, zl_16, zl_17, zl_18, zl_19, zl_20, zl_21, zl_22, zl_23, zl_24, zl_25, zl_26, zl_27, zl_28, zl_29, zl_30, zl_31, zl_32, zl_33, zl_34, zl_35, zl_36, zl_37, zl_38, zl_39, zl_40, zl_41, zl_42, zl_43, zl_44, zl_45, zl_46, zl_47, zl_48, zl_49, zl_50, zl_51, zl_52, zl_53, zl_54, zl_55, zl_56, zl_57, zl_58, zl_59, zl_60, zl_61, zl_62, zl_63, zl_64, zl_65, zl_66, zl_80, zl_97, zl_99, zl_103, zl_107, zl_112, zl_115, zl_100, zl_180, zl_210, zl_238, zl_255, zl_256, zl_400, zl_1000, zl_1024, zl_1260, zl_2000, zl_7140, zl_7200, zl_18414, zl_65536, zl_131072, zl_9999, zl_999, zI_add, zI_sub, zI_mul, zI_neg, zI_lt, zI_le, zI_eq, zI_clamp, ck_z, ckp_z, qb_z, qb_z0, Option.bind_some, if_pos, if_neg, reduceIte, reduceCtorEq, Bool.false_eq_true, Bool.true_eq_false, ih]
    · rw [decide_eq_false ha]
      simp (disch := omega) only [zl_0, zl_1, zl_2, zl_3, zl_4, zl_5, zl_6, zl_7, zl_8, zl_9, zl_10, zl_11, zl_12, zl_13, zl_14, zl_15, zl_16, zl_17, zl_18, zl_19, zl_20, zl_21, zl_22, zl_23, zl_24, zl_25, zl_26, zl_27, zl_28, zl_29, zl_30, zl_31, zl_32, zl_33, zl_34, zl_35, zl_36, zl_37, zl_38, zl_39, zl_40, zl_41, zl_42, zl_43, zl_44, zl_45, zl_46, zl_47, zl_48, zl_49, zl_50, zl_51, zl_52, zl_53, zl_54, zl_55, zl_56, zl_57, zl_58, zl_59, zl_60, zl_61, zl_62, zl_63, zl_64, zl_65, zl_66, zl_80, zl_97, zl_99, zl_103, zl_107, zl_112, zl_115, zl_100, zl_180, zl_210, zl_238, zl_255, zl_256, zl_400, zl_1000, zl_1024, zl_1260, zl_2000, zl_7140, zl_7200, zl_18414, zl_65536, zl_131072, zl_9999, zl_999, zI_add, zI_sub, zI_mul, zI_neg, zI_lt, zI_le, zI_eq, zI_clamp, ck_z, ckp_z, qb_z, qb_z0, Option.bind_some, if_pos, if_neg, reduceIte, reduceCtorEq, Bool.false_eq_true, Bool.true_eq_false, ih]
theorem like_b15_no (hA : FoldW A) (cA : FoldC A aquires athings aghosts aletter apage asizes acells akinds awords aquireOf aplaceOf) (hB : FoldW B) (cB : FoldC B bquires bthings bghosts bletter bpage bsizes bcells bkinds bwords bquireOf bplaceOf) (t : Int) (ht : 0 ≤ t) (htA : t < fQ A) (htB : t < fQ B) (hne : fS A t ≠ fS B t) (hfst : ∀ q, 0 ≤ q → q < t → fS A q = fS B q) : ∀ (d m : Nat) (q : Int), q + d = t → 0 ≤ q → d < m → F_X0_isFoldedLike_b15 aquires asizes bquires bsizes m (zI q) = some false
  | d, m + 1, q, hq, hq0, hm => by
    have hrA := hA.1
    have hrB := hB.1
    have eA : F_X0_hasQuire aquires (zI q) = some true := by rw [cA.1.1, hasQuire_z _ _ (by omega) (by omega) (by omega) (by omega), decide_eq_true (by omega)]
    have eB : F_X0_hasQuire bquires (zI q) = some true := by rw [cB.1.1, hasQuire_z _ _ (by omega) (by omega) (by omega) (by omega), decide_eq_true (by omega)]
    have sA := cA.2.1 q hq0 (by omega)
    have sB := cB.2.1 q hq0 (by omega)
    have rA := hA.2.1 q hq0 (by omega)
    have rB := hB.2.1 q hq0 (by omega)
    unfold F_X0_isFoldedLike_b15
    cases d with
    | zero =>
      have e : q = t := by omega
      subst e
      simp (disch := omega) only [zl_0, zl_1, zl_2, zl_3, zl_4, zl_5, zl_6, zl_7, zl_8, zl_9, zl_10, zl_11, zl_12, zl_13, zl_14, zl_15, zl_16, zl_17, zl_18, zl_19, zl_20, zl_21, zl_22, zl_23, zl_24, zl_25, zl_26, zl_27, zl_28, zl_29, zl_30, zl_31, zl_32, zl_33, zl_34, zl_35, zl_36, zl_37, zl_38, zl_39, zl_40, zl_41, zl_42, zl_43, zl_44, zl_45, zl_46, zl_47, zl_48, zl_49, zl_50, zl_51, zl_52, zl_53, zl_54, zl_55, zl_56, zl_57, zl_58, zl_59, zl_60, zl_61, zl_62, zl_63, zl_64, zl_65, zl_66, zl_80, zl_97, zl_99, zl_103, zl_107, zl_112, zl_115, zl_100, zl_180, zl_210, zl_238, zl_255, zl_256, zl_400, zl_1000, zl_1024, zl_1260, zl_2000, zl_7140, zl_7200, zl_18414, zl_65536, zl_131072, zl_9999, zl_999, zI_add, zI_sub, zI_mul, zI_neg, zI_lt, zI_le, zI_eq, zI_clamp, ck_z, ckp_z, qb_z, qb_z0, Option.bind_some, if_pos, if_neg, reduceIte, reduceCtorEq, Bool.false_eq_true, Bool.true_eq_false, eA, eB, sA, sB]
    | succ d =>
      have ih := like_b15_no hA cA hB cB t ht htA htB hne hfst d m (q + 1) (by omega) (by omega) (by omega)
      have e := hfst q hq0 (by omega)
      simp (disch := omega) only [zl_0, zl_1, zl_2, zl_3, zl_4, zl_5, zl_6, zl_7, zl_8, zl_9, zl_10, zl_11, zl_12, zl_13, zl_14, zl_15, zl_16, zl_17, zl_18, zl_19, zl_20, zl_21, zl_22, zl_23, zl_24, zl_25, zl_26, zl_27, zl_28, zl_29, zl_30, zl_31, zl_32, zl_33, zl_34, zl_35, zl_36, zl_37, zl_38, zl_39, zl_40, zl_41, zl_42, zl_43, zl_44, zl_45, zl_46, zl_47, zl_48, zl_49, zl_50, zl_51, zl_52, zl_53, zl_54, zl_55, zl_56, zl_57, zl_58, zl_59, zl_60, zl_61, zl_62, zl_63, zl_64, zl_65, zl_66, zl_80, zl_97, zl_99, zl_103, zl_107, zl_112, zl_115, zl_100, zl_180, zl_210, zl_238, zl_255, zl_256, zl_400, zl_1000, zl_1024, zl_1260, zl_2000, zl_7140, zl_7200, zl_18414, zl_65536, zl_131072, zl_9999, zl_999, zI_add, zI_sub, zI_mul, zI_neg, zI_lt, zI_le, zI_eq, zI_clamp, ck_z, ckp_z, qb_z, qb_z0, Option.bind_some, if_pos, if_neg, reduceIte, reduceCtorEq, Bool.false_eq_true, Bool.true_eq_false, eA, eB, sA, sB, ih, e]
theorem lik_first (A B : Fold) : ∀ n : Nat, (∀ q, 0 ≤ q → q < (n : Int) → q < fQ A → q < fQ B → fS A q = fS B q) ∨ ∃ t, 0 ≤ t ∧ t < (n : Int) ∧ t < fQ A ∧ t < fQ B ∧ fS A t ≠ fS B t ∧ ∀ q, 0 ≤ q → q < t → fS A q = fS B q
  | 0 => Or.inl (fun q a b => by omega)
  | n + 1 => by
    rcases lik_first A B n with h | ⟨t, h1, h2, h3⟩
    · by_cases c : (n : Int) < fQ A ∧ (n : Int) < fQ B ∧ fS A n ≠ fS B n
      · exact Or.inr ⟨n, by omega, by omega, c.1, c.2.1, c.2.2, fun q a b => h q a b (by omega) (by omega)⟩
      · refine Or.inl (fun q a b ha hb => ?_)
        by_cases e : q = n
        · subst e
          exact Classical.not_not.mp (fun x => c ⟨ha, hb, x⟩)
        · exact h q a (by omega) ha hb
    · exact Or.inr ⟨t, h1, by omega, h3⟩
theorem ideal_b46_yes (hA : FoldW A) (mA : FoldM f A mthings mquires firstLetter firstPage sizeOf placed kindOf catchOf) (hB : FoldW B) (mB : FoldM g B mthings mquires firstLetter firstPage sizeOf placed kindOf catchOf) (hf : 0 ≤ f) (hf2 : f < 5) (hg : 0 ≤ g) (hg2 : g < 5) (told made : Int32) (mk mp : NF) (hL : Lik A B) : ∀ (d m : Nat) (q : Int), q + d = min (fQ A) (fQ B) → 0 ≤ q → d < m → F_X8_ideal_b46 m told isThere mthings mquires firstLetter firstPage sizeOf placed kindOf catchOf made mk mp (zI f) (zI g) (zI q) = F_X8_ideal_b105 told isThere mthings mquires firstLetter firstPage sizeOf placed kindOf catchOf mk mp (zI f) (zI g)
  | 0, m + 1, q, hq, hq0, _ => by
    have hrA := hA.1
    have hrB := hB.1
    have qA := mA.1.1
    have qB := mB.1.1
    unfold F_X8_ideal_b46
    by_cases c : fQ A ≤ q
    · simp (disch := omega) only [zl_0, zl_1, zl_2, zl_3, zl_4, zl_5, zl_6, zl_7, zl_8, zl_9, zl_10, zl_11, zl_12, zl_13, zl_14, zl_15, zl_16, zl_17, zl_18, zl_19, zl_20, zl_21, zl_22, zl_23, zl_24, zl_25, zl_26, zl_27, zl_28, zl_29, zl_30, zl_31, zl_32, zl_33, zl_34, zl_35, zl_36, zl_37, zl_38, zl_39, zl_40, zl_41, zl_42, zl_43, zl_44, zl_45, zl_46, zl_47, zl_48, zl_49, zl_50, zl_51, zl_52, zl_53, zl_54, zl_55, zl_56, zl_57, zl_58, zl_59, zl_60, zl_61, zl_62, zl_63, zl_64, zl_65, zl_66, zl_80, zl_97, zl_99, zl_103, zl_107, zl_112, zl_115, zl_100, zl_180, zl_210, zl_238, zl_255, zl_256, zl_400, zl_1000, zl_1024, zl_1260, zl_2000, zl_7140, zl_7200, zl_18414, zl_65536, zl_131072, zl_9999, zl_999, zI_add, zI_sub, zI_mul, zI_neg, zI_lt, zI_le, zI_eq, zI_clamp, ck_z, ckp_z, qb_z, qb_z0, Option.bind_some, if_pos, if_neg, reduceIte, reduceCtorEq, Bool.false_eq_true, Bool.true_eq_false, qA]
    · simp (disch := omega) only [zl_0, zl_1, zl_2, zl_3, zl_4, zl_5, zl_6, zl_7, zl_8, zl_9, zl_10, zl_11, zl_12, zl_13, zl_14, zl_15, zl_16, zl_17, zl_18, zl_19, zl_20, zl_21, zl_22, zl_23, zl_24, zl_25, zl_26, zl_27, zl_28, zl_29, zl_30, zl_31, zl_32, zl_33, zl_34, zl_35, zl_36, zl_37, zl_38, zl_39, zl_40, zl_41, zl_42, zl_43, zl_44, zl_45, zl_46, zl_47, zl_48, zl_49, zl_50, zl_51, zl_52, zl_53, zl_54, zl_55, zl_56, zl_57, zl_58, zl_59, zl_60, zl_61, zl_62, zl_63, zl_64, zl_65, zl_66, zl_80, zl_97, zl_99, zl_103, zl_107, zl_112, zl_115, zl_100, zl_180, zl_210, zl_238, zl_255, zl_256, zl_400, zl_1000, zl_1024, zl_1260, zl_2000, zl_7140, zl_7200, zl_18414, zl_65536, zl_131072, zl_9999, zl_999, zI_add, zI_sub, zI_mul, zI_neg, zI_lt, zI_le, zI_eq, zI_clamp, ck_z, ckp_z, qb_z, qb_z0, Option.bind_some, if_pos, if_neg, reduceIte, reduceCtorEq, Bool.false_eq_true, Bool.true_eq_false, qA, qB]
  | d + 1, m + 1, q, hq, hq0, hm => by
    have hrA := hA.1
    have hrB := hB.1
    have qA := mA.1.1
    have qB := mB.1.1
    have ih := ideal_b46_yes hA mA hB mB hf hf2 hg hg2 told made mk mp hL d m (q + 1) (by omega) (by omega) (by omega)
    have sA := mA.2.1 q hq0 (by omega)
    have sB := mB.2.1 q hq0 (by omega)
    have e := hL q hq0 (by omega) (by omega)
    have rA := hA.2.1 q hq0 (by omega)
    have rB := hB.2.1 q hq0 (by omega)
    rw [F_X8_ideal_b46]
    simp (disch := omega) only [zl_0, zl_1, zl_2, zl_3, zl_4, zl_5, zl_6, zl_7, zl_8, zl_9, zl_10, zl_11, zl_12, zl_13, zl_14, zl_15, zl_16, zl_17, zl_18, zl_19, zl_20, zl_21, zl_22, zl_23, zl_24, zl_25, zl_26, zl_27, zl_28, zl_29, zl_30, zl_31, zl_32, zl_33, zl_34, zl_35, zl_36, zl_37, zl_38, zl_39, zl_40, zl_41, zl_42, zl_43, zl_44, zl_45, zl_46, zl_47, zl_48, zl_49, zl_50, zl_51, zl_52, zl_53, zl_54, zl_55, zl_56, zl_57, zl_58, zl_59, zl_60, zl_61, zl_62, zl_63, zl_64, zl_65, zl_66, zl_80, zl_97, zl_99, zl_103, zl_107, zl_112, zl_115, zl_100, zl_180, zl_210, zl_238, zl_255, zl_256, zl_400, zl_1000, zl_1024, zl_1260, zl_2000, zl_7140, zl_7200, zl_18414, zl_65536, zl_131072, zl_9999, zl_999, zI_add, zI_sub, zI_mul, zI_neg, zI_lt, zI_le, zI_eq, zI_clamp, ck_z, ckp_z, qb_z, qb_z0, Option.bind_some, if_pos, if_neg, reduceIte, reduceCtorEq, Bool.false_eq_true, Bool.true_eq_false, qA, qB, sA, sB, e]
    exact ih
theorem ideal_b46_no (hA : FoldW A) (mA : FoldM f A mthings mquires firstLetter firstPage sizeOf placed kindOf catchOf) (hB : FoldW B) (mB : FoldM g B mthings mquires firstLetter firstPage sizeOf placed kindOf catchOf) (hf : 0 ≤ f) (hf2 : f < 5) (hg : 0 ≤ g) (hg2 : g < 5) (told made : Int32) (mk mp : NF) (t : Int) (ht : 0 ≤ t) (htA : t < fQ A) (htB : t < fQ B) (hne : fS A t ≠ fS B t) (hfst : ∀ q, 0 ≤ q → q < t → fS A q = fS B q) : ∀ (d m : Nat) (q : Int), q + d = t → 0 ≤ q → d < m → F_X8_ideal_b46 m told isThere mthings mquires firstLetter firstPage sizeOf placed kindOf catchOf made mk mp (zI f) (zI g) (zI q) = some (-1, told, isThere, mthings, mquires, firstLetter, firstPage, sizeOf, placed, kindOf, catchOf, made, mk, mp)
  | d, m + 1, q, hq, hq0, hm => by
    have hrA := hA.1
    have hrB := hB.1
    have qA := mA.1.1
    have qB := mB.1.1
    have sA := mA.2.1 q hq0 (by omega)
    have sB := mB.2.1 q hq0 (by omega)
    have rA := hA.2.1 q hq0 (by omega)
    have rB := hB.2.1 q hq0 (by omega)
    rw [F_X8_ideal_b46]
    cases d with
    | zero =>
      have e : q = t := by omega
      subst e
      simp (disch := omega) only [zl_0, zl_1, zl_2, zl_3, zl_4, zl_5, zl_6, zl_7, zl_8, zl_9, zl_10, zl_11, zl_12, zl_13, zl_14, zl_15, zl_16, zl_17, zl_18, zl_19, zl_20, zl_21, zl_22, zl_23, zl_24, zl_25, zl_26, zl_27, zl_28, zl_29, zl_30, zl_31, zl_32, zl_33, zl_34, zl_35, zl_36, zl_37, zl_38, zl_39, zl_40, zl_41, zl_42, zl_43, zl_44, zl_45, zl_46, zl_47, zl_48, zl_49, zl_50, zl_51, zl_52, zl_53, zl_54, zl_55, zl_56, zl_57, zl_58, zl_59, zl_60, zl_61, zl_62, zl_63, zl_64, zl_65, zl_66, zl_80, zl_97, zl_99, zl_103, zl_107, zl_112, zl_115, zl_100, zl_180, zl_210, zl_238, zl_255, zl_256, zl_400, zl_1000, zl_1024, zl_1260, zl_2000, zl_7140, zl_7200, zl_18414, zl_65536, zl_131072, zl_9999, zl_999, zI_add, zI_sub, zI_mul, zI_neg, zI_lt, zI_le, zI_eq, zI_clamp, ck_z, ckp_z, qb_z, qb_z0, Option.bind_some, if_pos, if_neg, reduceIte, reduceCtorEq, Bool.false_eq_true, Bool.true_eq_false, qA, qB, sA, sB]
    | succ d =>
      have ih := ideal_b46_no hA mA hB mB hf hf2 hg hg2 told made mk mp t ht htA htB hne hfst d m (q + 1) (by omega) (by omega) (by omega)
      have e := hfst q hq0 (by omega)
      simp (disch := omega) only [zl_0, zl_1, zl_2, zl_3, zl_4, zl_5, zl_6, zl_7, zl_8, zl_9, zl_10, zl_11, zl_12, zl_13, zl_14, zl_15, zl_16, zl_17, zl_18, zl_19, zl_20, zl_21, zl_22, zl_23, zl_24, zl_25, zl_26, zl_27, zl_28, zl_29, zl_30, zl_31, zl_32, zl_33, zl_34, zl_35, zl_36, zl_37, zl_38, zl_39, zl_40, zl_41, zl_42, zl_43, zl_44, zl_45, zl_46, zl_47, zl_48, zl_49, zl_50, zl_51, zl_52, zl_53, zl_54, zl_55, zl_56, zl_57, zl_58, zl_59, zl_60, zl_61, zl_62, zl_63, zl_64, zl_65, zl_66, zl_80, zl_97, zl_99, zl_103, zl_107, zl_112, zl_115, zl_100, zl_180, zl_210, zl_238, zl_255, zl_256, zl_400, zl_1000, zl_1024, zl_1260, zl_2000, zl_7140, zl_7200, zl_18414, zl_65536, zl_131072, zl_9999, zl_999, zI_add, zI_sub, zI_mul, zI_neg, zI_lt, zI_le, zI_eq, zI_clamp, ck_z, ckp_z, qb_z, qb_z0, Option.bind_some, if_pos, if_neg, reduceIte, reduceCtorEq, Bool.false_eq_true, Bool.true_eq_false, qA, qB, sA, sB, e]
      exact ih
end IL

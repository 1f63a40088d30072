def jx (A B : Fold) (q p l : Int) (Φ : Fold) : Fold := if sco A q p = 2 ∨ sco B q p = 2 then bL Φ l 1 0 else if sco A q p = 4 ∨ sco B q p = 4 then bT (bL Φ l 2 0) 4 else if sco A q p = 3 ∨ sco B q p = 3 then bL Φ l 2 0 else bG Φ l
def je (Ξ : Fold) (q p : Int) (Φ : Fold) : Fold := lr (fK Ξ) (fT Ξ) (fT Ξ - beh Ξ (fC Ξ q p)).toNat (beh Ξ (fC Ξ q p)) Φ
def jy (A B : Fold) (q p : Int) (Φ : Fold) : Fold := if 1 < sco A q p then je A q p Φ else if 1 < sco B q p then je B q p Φ else Φ
def jP (A B : Fold) (q p l : Int) (Φ : Fold) : Fold := jy A B q p (jx A B q p l Φ)
theorem sco_th {Ξ : Fold} (hw : FoldW Ξ) {q p : Int} (h : 1 < sco Ξ q p) : (0 ≤ q ∧ q < fQ Ξ ∧ 1 ≤ p ∧ p ≤ fS Ξ q) ∧ 0 ≤ fC Ξ q p ∧ fC Ξ q p < fT Ξ ∧ Hg (fK Ξ (fC Ξ q p)) ∧ fqo Ξ (fC Ξ q p) = q ∧ fpo Ξ (fC Ξ q p) = p := by
  unfold sco at h
  by_cases c : 0 ≤ q ∧ q < fQ Ξ ∧ 1 ≤ p ∧ p ≤ fS Ξ q
  · rw [if_pos c] at h
    by_cases c2 : fC Ξ q p = -2
    · rw [if_pos c2] at h
      omega
    · rcases hw.2.2.1 q p c.1 c.2.1 c.2.2.1 c.2.2.2 with g | g
      · exact absurd g c2
      · exact ⟨c, g⟩
  · rw [if_neg c] at h
    omega
theorem sco_no {Ξ : Fold} {q p : Int} (h : ¬ 1 < sco Ξ q p) : (if 0 ≤ q ∧ q < fQ Ξ ∧ 1 ≤ p ∧ p ≤ fS Ξ q then fC Ξ q p else -1) = -1 ∨ (if 0 ≤ q ∧ q < fQ Ξ ∧ 1 ≤ p ∧ p ≤ fS Ξ q then fC Ξ q p else -1) = -2 := by
  unfold sco at h
  by_cases c : 0 ≤ q ∧ q < fQ Ξ ∧ 1 ≤ p ∧ p ≤ fS Ξ q
  · rw [if_pos c] at h
    by_cases c2 : fC Ξ q p = -2
    · rw [if_pos c]
      exact Or.inr c2
    · rw [if_neg c2] at h
      exfalso
      split at h
      · omega
      · split at h <;> omega
  · rw [if_neg c]
    exact Or.inl rfl
theorem sco_4 {Ξ : Fold} (hw : FoldW Ξ) {q p : Int} (h : 1 < sco Ξ q p) : (sco Ξ q p = 4 → beh Ξ (fC Ξ q p) = fC Ξ q p + 2) ∧ (sco Ξ q p = 3 → beh Ξ (fC Ξ q p) = fC Ξ q p + 1) ∧ (sco Ξ q p = 2 → beh Ξ (fC Ξ q p) = fC Ξ q p + 1) := by
  have g := sco_th hw h
  unfold sco beh
  rw [if_pos g.1, if_neg (by omega)]
  by_cases c1 : fK Ξ (fC Ξ q p) = 1
  · rw [if_pos c1, if_neg (by omega)]
    omega
  · rw [if_neg c1]
    by_cases c2 : 0 ≤ fC Ξ q p ∧ fC Ξ q p + 1 < fT Ξ ∧ fK Ξ (fC Ξ q p) = 2 ∧ fK Ξ (fC Ξ q p + 1) = 4
    · rw [if_pos c2, if_pos c2]
      omega
    · rw [if_neg c2, if_neg c2]
      omega
section JN
variable {A B Φ : Fold} {l : Int} {quires things ghosts letter page laid : Int32} {sizes cells kinds words quireOf placeOf : Nat → Int32} {aquires athings aghosts aletter apage : Int32} {asizes acells akinds awords aquireOf aplaceOf : Nat → Int32} {bquires bthings bghosts bletter bpage : Int32} {bsizes bcells bkinds bwords bquireOf bplaceOf : Nat → Int32} {mthings mquires firstLetter firstPage sizeOf placed kindOf catchOf isThere : Nat → Int32}
theorem jpb110_z (hA : FoldW A) (cA : FoldC A aquires athings aghosts aletter apage asizes acells akinds awords aquireOf aplaceOf) (hw : PW Φ l) (hc : PC Φ l quires things ghosts letter page laid sizes cells kinds words quireOf placeOf) (q p : Int) (hq : 0 ≤ q) (hq2 : q < 8) (hp : 1 ≤ p) (hp2 : p ≤ 8) (hT : fT Φ < 900) : ∃ c, F_X0_joinPlace_b110 aquires athings asizes acells akinds things ghosts cells kinds words quireOf placeOf laid (zI q) (zI p) = some c ∧ PW (if 1 < sco A q p then je A q p Φ else Φ) l ∧ PC (if 1 < sco A q p then je A q p Φ else Φ) l quires c.1 c.2.1 letter page c.2.2.2.2.2.2.2 sizes c.2.2.1 c.2.2.2.1 c.2.2.2.2.1 c.2.2.2.2.2.1 c.2.2.2.2.2.2.1 := by
  unfold F_X0_joinPlace_b110
  rw [thingAt_z hA cA q p (by omega) (by omega) (by omega) (by omega), Option.bind_some]
  by_cases h : 1 < sco A q p
  · have g := sco_th hA h
    have hr := hA.1
    have hb := beh_b (Ξ := A) (fC A q p) g.2.2.1
    rw [if_pos g.1, if_pos h, behind_z hA cA (fC A q p) (by omega) (by omega)]
    have hkA := cA.2.2.2.1
    obtain ⟨c, e1, e2, e3, e4⟩ := addLoose_z (fK A) (fT A) (beh A (fC A q p)) (by omega) akinds hkA (fun i a b => ⟨(hA.2.2.2.1 i a b).1, (hA.2.2.2.1 i a b).2.1⟩) (by omega) hb.2 hT hw hc
    have eT : athings = zI (fT A) := cA.1.2.1
    rw [← eT] at e1
    have e1' : F_X0_addLoose things kinds akinds athings (zI (if 0 ≤ fC A q p ∧ fC A q p + 1 < fT A ∧ fK A (fC A q p) = 2 ∧ fK A (fC A q p + 1) = 4 then fC A q p + 2 else fC A q p + 1)) = some c := e1
    rw [Option.bind_some, e1', Option.bind_some]
    simp (disch := omega) only [zl_0, zl_1, zl_2, zl_3, zl_4, zl_5, zl_6, zl_7, zl_8, zl_9, zl_10, zl_11, zl_12, zl_13, zl_14, zl_15, zl_16, zl_17, zl_18, zl_19, zl_20, zl_21, zl_22, zl_23, zl_24, zl_25, zl_26, zl_27, zl_28, zl_29, zl_30, zl_31, zl_32, zl_33, zl_34, zl_35, zl_36, zl_37, zl_38, zl_39, zl_40, zl_41, zl_42, zl_43, zl_44, zl_45, zl_46, zl_47, zl_48, zl_49, zl_50, zl_51, zl_52, zl_53, zl_54, zl_55, zl_56, zl_57, zl_58, zl_59, zl_60, zl_61, zl_62, zl_63, zl_64, zl_65, zl_66, zl_80, zl_97, zl_99, zl_103, zl_107, zl_112, zl_115, zl_100, zl_180, zl_210, zl_238, zl_255, zl_256, zl_400, zl_1000, zl_1024, zl_1260, zl_2000, zl_7140, zl_7200, zl_18414, zl_65536, zl_131072, zl_9999, zl_999, zI_add, zI_sub, zI_mul, zI_neg, zI_lt, zI_le, zI_eq, zI_clamp, ck_z, ckp_z, qb_z, qb_z0, Option.bind_some, if_pos, if_neg, reduceIte, reduceCtorEq, Bool.false_eq_true, Bool.true_eq_false]
    exact ⟨_, rfl, e3, e4⟩
  · have g := sco_no h
    rw [if_neg h]
    generalize (if 0 ≤ q ∧ q < fQ A ∧ 1 ≤ p ∧ p ≤ fS A q then fC A q p else -1) = x at *
    simp (disch := omega) only [zl_0, zl_1, zl_2, zl_3, zl_4, zl_5, zl_6, zl_7, zl_8, zl_9, zl_10, zl_11, zl_12, zl_13, zl_14, zl_15, zl_16, zl_17, zl_18, zl_19, zl_20, zl_21, zl_22, zl_23, zl_24, zl_25, zl_26, zl_27, zl_28, zl_29, zl_30, zl_31, zl_32, zl_33, zl_34, zl_35, zl_36, zl_37, zl_38, zl_39, zl_40, zl_41, zl_42, zl_43, zl_44, zl_45, zl_46, zl_47, zl_48, zl_49, zl_50, zl_51, zl_52, zl_53, zl_54, zl_55, zl_56, zl_57, zl_58, zl_59, zl_60, zl_61, zl_62, zl_63, zl_64, zl_65, zl_66, zl_80, zl_97, zl_99, zl_103, zl_107, zl_112, zl_115, zl_100, zl_180, zl_210, zl_238, zl_255, zl_256, zl_400, zl_1000, zl_1024, zl_1260, zl_2000, zl_7140, zl_7200, zl_18414, zl_65536, zl_131072, zl_9999, zl_999, zI_add, zI_sub, zI_mul, zI_neg, zI_lt, zI_le, zI_eq, zI_clamp, ck_z, ckp_z, qb_z, qb_z0, Option.bind_some, if_pos, if_neg, reduceIte, reduceCtorEq, Bool.false_eq_true, Bool.true_eq_false]
    exact ⟨_, rfl, hw, hc⟩
theorem jpb110_2 (a1 a2 : Int32) (a3 a4 a5 : Nat → Int32) (x1 x2 : Int32) (x3 x4 x5 x6 x7 : Nat → Int32) (x8 y z : Int32) : F_X0_joinPlace_b110_2 a1 a2 a3 a4 a5 x1 x2 x3 x4 x5 x6 x7 x8 y z = F_X0_joinPlace_b110 a1 a2 a3 a4 a5 x1 x2 x3 x4 x5 x6 x7 x8 y z := rfl
theorem jpb99_z (hA : FoldW A) (cA : FoldC A aquires athings aghosts aletter apage asizes acells akinds awords aquireOf aplaceOf) (hB : FoldW B) (cB : FoldC B bquires bthings bghosts bletter bpage bsizes bcells bkinds bwords bquireOf bplaceOf) (hw : PW Φ l) (hc : PC Φ l quires things ghosts letter page laid sizes cells kinds words quireOf placeOf) (q p : Int) (hq : 0 ≤ q) (hq2 : q < 8) (hp : 1 ≤ p) (hp2 : p ≤ 8) (hT : fT Φ < 900) : ∃ c, F_X0_joinPlace_b99 aquires athings asizes acells akinds bquires bthings bsizes bcells bkinds things ghosts cells kinds words quireOf placeOf laid (zI q) (zI p) (zI (sco A q p)) = some c ∧ PW (jy A B q p Φ) l ∧ PC (jy A B q p Φ) l quires c.1 c.2.1 letter page c.2.2.2.2.2.2.2 sizes c.2.2.1 c.2.2.2.1 c.2.2.2.2.1 c.2.2.2.2.2.1 c.2.2.2.2.2.2.1 := by
  have r := sco_r hA q p
  unfold F_X0_joinPlace_b99 jy
  by_cases h : 1 < sco A q p
  · have g := jpb110_z hA cA hw hc q p hq hq2 hp hp2 hT
    rw [if_pos h, jpb110_2]
    rw [if_pos h] at g
    simp (disch := omega) only [zl_0, zl_1, zl_2, zl_3, zl_4, zl_5, zl_6, zl_7, zl_8, zl_9, zl_10, zl_11, zl_12, zl_13, zl_14, zl_15, zl_16, zl_17, zl_18, zl_19, zl_20, zl_21, zl_22, zl_23, zl_24, zl_25, zl_26, zl_27, zl_28, zl_29, zl_30, zl_31, zl_32, zl_33, zl_34, zl_35, zl_36, zl_37, zl_38, zl_39, zl_40, zl_41, zl_42, zl_43, zl_44, zl_45, zl_46, zl_47, zl_48, zl_49, zl_50, zl_51, zl_52, zl_53, zl_54, zl_55, zl_56, zl_57, zl_58, zl_59, zl_60, zl_61, zl_62, zl_63, zl_64, zl_65, zl_66, zl_80, zl_97, zl_99, zl_103, zl_107, zl_112, zl_115, zl_100, zl_180, zl_210, zl_238, zl_255, zl_256, zl_400, zl_1000, zl_1024, zl_1260, zl_2000, zl_7140, zl_7200, zl_18414, zl_65536, zl_131072, zl_9999, zl_999, zI_add, zI_sub, zI_mul, zI_neg, zI_lt, zI_le, zI_eq, zI_clamp, ck_z, ckp_z, qb_z, qb_z0, Option.bind_some, if_pos, if_neg, reduceIte, reduceCtorEq, Bool.false_eq_true, Bool.true_eq_false]
    exact g
  · have g := jpb110_z hB cB hw hc q p hq hq2 hp hp2 hT
    rw [if_neg h]
    simp (disch := omega) only [zl_0, zl_1, zl_2, zl_3, zl_4, zl_5, zl_6, zl_7, zl_8, zl_9, zl_10, zl_11, zl_12, zl_13, zl_14, zl_15, zl_16, zl_17, zl_18, zl_19, zl_20, zl_21, zl_22, zl_23, zl_24, zl_25, zl_26, zl_27, zl_28, zl_29, zl_30, zl_31, zl_32, zl_33, zl_34, zl_35, zl_36, zl_37, zl_38, zl_39, zl_40, zl_41, zl_42, zl_43, zl_44, zl_45, zl_46, zl_47, zl_48, zl_49, zl_50, zl_51, zl_52, zl_53, zl_54, zl_55, zl_56, zl_57, zl_58, zl_59, zl_60, zl_61, zl_62, zl_63, zl_64, zl_65, zl_66, zl_80, zl_97, zl_99, zl_103, zl_107, zl_112, zl_115, zl_100, zl_180, zl_210, zl_238, zl_255, zl_256, zl_400, zl_1000, zl_1024, zl_1260, zl_2000, zl_7140, zl_7200, zl_18414, zl_65536, zl_131072, zl_9999, zl_999, zI_add, zI_sub, zI_mul, zI_neg, zI_lt, zI_le, zI_eq, zI_clamp, ck_z, ckp_z, qb_z, qb_z0, Option.bind_some, if_pos, if_neg, reduceIte, reduceCtorEq, Bool.false_eq_true, Bool.true_eq_false]
    exact g
theorem joinPlace_z (hA : FoldW A) (cA : FoldC A aquires athings aghosts aletter apage asizes acells akinds awords aquireOf aplaceOf) (hB : FoldW B) (cB : FoldC B bquires bthings bghosts bletter bpage bsizes bcells bkinds bwords bquireOf bplaceOf) (hw : PW Φ l) (hc : PC Φ l quires things ghosts letter page laid sizes cells kinds words quireOf placeOf) (q p : Int) (hq : 0 ≤ q) (hq2 : q < 8) (hp : 1 ≤ p) (hp2 : p ≤ 8) (hT : fT Φ < 800) (hQ : 0 < fQ Φ) (hl : l < fS Φ (fQ Φ - 1)) : ∃ c, F_X0_joinPlace quires things ghosts cells kinds words quireOf placeOf laid aquires athings asizes acells akinds bquires bthings bsizes bcells bkinds (zI q) (zI p) = some c ∧ PW (jP A B q p l Φ) (l + 1) ∧ PC (jP A B q p l Φ) (l + 1) quires c.1 c.2.1 letter page c.2.2.2.2.2.2.2 sizes c.2.2.1 c.2.2.2.1 c.2.2.2.2.1 c.2.2.2.2.2.1 c.2.2.2.2.2.2.1 := by
  have rA := sco_r hA q p
  have rB := sco_r hB q p
  have sA := stateOf_z hA cA (q * 8 + p - 1) (by omega) (by omega)
  have sB := stateOf_z hB cB (q * 8 + p - 1) (by omega) (by omega)
  rw [show (q * 8 + p - 1) / 8 = q by omega, show (q * 8 + p - 1) % 8 + 1 = p by omega] at sA sB
  unfold F_X0_joinPlace jP jx
  by_cases h2 : sco A q p = 2 ∨ sco B q p = 2
  · rw [if_pos h2]
    obtain ⟨c, e, hc2⟩ := addLeaf_z hw hc 1 0 hQ hl (by omega)
    have g := jpb99_z hA cA hB cB (PW_bL (k := 1) (w := 0) hw hQ hl (Or.inl rfl)) hc2 q p hq hq2 hp hp2 (by have : fT (bL Φ l 1 0) = fT Φ + 1 := rfl; omega)
    by_cases h2a : sco A q p = 2
    · simp (disch := omega) only [zl_0, zl_1, zl_2, zl_3, zl_4, zl_5, zl_6, zl_7, zl_8, zl_9, zl_10, zl_11, zl_12, zl_13, zl_14, zl_15, zl_16, zl_17, zl_18, zl_19, zl_20, zl_21, zl_22, zl_23, zl_24, zl_25, zl_26, zl_27, zl_28, zl_29, zl_30, zl_31, zl_32, zl_33, zl_34, zl_35, zl_36, zl_37, zl_38, zl_39, zl_40, zl_41, zl_42, zl_43, zl_44, zl_45, zl_46, zl_47, zl_48, zl_49, zl_50, zl_51, zl_52, zl_53, zl_54, zl_55, zl_56, zl_57, zl_58, zl_59, zl_60, zl_61, zl_62, zl_63, zl_64, zl_65, zl_66, zl_80, zl_97, zl_99, zl_103, zl_107, zl_112, zl_115, zl_100, zl_180, zl_210, zl_238, zl_255, zl_256, zl_400, zl_1000, zl_1024, zl_1260, zl_2000, zl_7140, zl_7200, zl_18414, zl_65536, zl_131072, zl_9999, zl_999, zI_add, zI_sub, zI_mul, zI_neg, zI_lt, zI_le, zI_eq, zI_clamp, ck_z, ckp_z, qb_z, qb_z0, Option.bind_some, if_pos, if_neg, reduceIte, reduceCtorEq, Bool.false_eq_true, Bool.true_eq_false, sA, sB]
      unfold F_X0_joinPlace_b39
      simp (disch := omega) only [zl_0, zl_1, zl_2, zl_3, zl_4, zl_5, zl_6, zl_7, zl_8, zl_9, zl_10, zl_11, zl_12, zl_13, zl_14, zl_15, zl_16, zl_17, zl_18, zl_19, zl_20, zl_21, zl_22, zl_23, zl_24, zl_25, zl_26, zl_27, zl_28, zl_29, zl_30, zl_31, zl_32, zl_33, zl_34, zl_35, zl_36, zl_37, zl_38, zl_39, zl_40, zl_41, zl_42, zl_43, zl_44, zl_45, zl_46, zl_47, zl_48, zl_49, zl_50, zl_51, zl_52, zl_53, zl_54, zl_55, zl_56, zl_57, zl_58, zl_59, zl_60, zl_61, zl_62, zl_63, zl_64, zl_65, zl_66, zl_80, zl_97, zl_99, zl_103, zl_107, zl_112, zl_115, zl_100, zl_180, zl_210, zl_238, zl_255, zl_256, zl_400, zl_1000, zl_1024, zl_1260, zl_2000, zl_7140, zl_7200, zl_18414, zl_65536, zl_131072, zl_9999, zl_999, zI_add, zI_sub, zI_mul, zI_neg, zI_lt, zI_le, zI_eq, zI_clamp, ck_z, ckp_z, qb_z, qb_z0, Option.bind_some, if_pos, if_neg, reduceIte, reduceCtorEq, Bool.false_eq_true, Bool.true_eq_false, e]
      exact g
    · simp (disch := omega) only [zl_0, zl_1, zl_2, zl_3, zl_4, zl_5, zl_6, zl_7, zl_8, zl_9, zl_10, zl_11, zl_12, zl_13, zl_14, zl_15, zl_16, zl_17, zl_18, zl_19, zl_20, zl_21, zl_22, zl_23, zl_24, zl_25, zl_26, zl_27, zl_28, zl_29, zl_30, zl_31, zl_32, zl_33, zl_34, zl_35, zl_36, zl_37, zl_38, zl_39, zl_40, zl_41, zl_42, zl_43, zl_44, zl_45, zl_46, zl_47, zl_48, zl_49, zl_50, zl_51, zl_52, zl_53, zl_54, zl_55, zl_56, zl_57, zl_58, zl_59, zl_60, zl_61, zl_62, zl_63, zl_64, zl_65, zl_66, zl_80, zl_97, zl_99, zl_103, zl_107, zl_112, zl_115, zl_100, zl_180, zl_210, zl_238, zl_255, zl_256, zl_400, zl_1000, zl_1024, zl_1260, zl_2000, zl_7140, zl_7200, zl_18414, zl_65536, zl_131072, zl_9999, zl_999, zI_add, zI_sub, zI_mul, zI_neg, zI_lt, zI_le, zI_eq, zI_clamp, ck_z, ckp_z, qb_z, qb_z0, Option.bind_some, if_pos, if_neg, reduceIte, reduceCtorEq, Bool.false_eq_true, Bool.true_eq_false, sA, sB]
      unfold F_X0_joinPlace_b39
      simp (disch := omega) only [zl_0, zl_1, zl_2, zl_3, zl_4, zl_5, zl_6, zl_7, zl_8, zl_9, zl_10, zl_11, zl_12, zl_13, zl_14, zl_15, zl_16, zl_17, zl_18, zl_19, zl_20, zl_21, zl_22, zl_23, zl_24, zl_25, zl_26, zl_27, zl_28, zl_29, zl_30, zl_31, zl_32, zl_33, zl_34, zl_35, zl_36, zl_37, zl_38, zl_39, zl_40, zl_41, zl_42, zl_43, zl_44, zl_45, zl_46, zl_47, zl_48, zl_49, zl_50, zl_51, zl_52, zl_53, zl_54, zl_55, zl_56, zl_57, zl_58, zl_59, zl_60, zl_61, zl_62, zl_63, zl_64, zl_65, zl_66, zl_80, zl_97, zl_99, zl_103, zl_107, zl_112, zl_115, zl_100, zl_180, zl_210, zl_238, zl_255, zl_256, zl_400, zl_1000, zl_1024, zl_1260, zl_2000, zl_7140, zl_7200, zl_18414, zl_65536, zl_131072, zl_9999, zl_999, zI_add, zI_sub, zI_mul, zI_neg, zI_lt, zI_le, zI_eq, zI_clamp, ck_z, ckp_z, qb_z, qb_z0, Option.bind_some, if_pos, if_neg, reduceIte, reduceCtorEq, Bool.false_eq_true, Bool.true_eq_false, e]
      exact g
  · rw [if_neg h2]
    by_cases h4 : sco A q p = 4 ∨ sco B q p = 4
    · rw [if_pos h4]
      obtain ⟨c, e, hc2⟩ := addLeaf_z hw hc 2 0 hQ hl (by omega)
      have hw2 : PW (bL Φ l 2 0) (l + 1) := PW_bL hw hQ hl (Or.inr rfl)
      obtain ⟨c', e', hc3⟩ := addThing_z hw2 hc2 4 (by decide) (by have : fT (bL Φ l 2 0) = fT Φ + 1 := rfl; omega)
      have g := jpb99_z hA cA hB cB (PW_bT (k := 4) hw2 (by decide) (by decide)) hc3 q p hq hq2 hp hp2 (by have : fT (bT (bL Φ l 2 0) 4) = fT Φ + 1 + 1 := rfl; omega)
      by_cases h4a : sco A q p = 4
      · simp (disch := omega) only [zl_0, zl_1, zl_2, zl_3, zl_4, zl_5, zl_6, zl_7, zl_8, zl_9, zl_10, zl_11, zl_12, zl_13, zl_14, zl_15, zl_16, zl_17, zl_18, zl_19, zl_20, zl_21, zl_22, zl_23, zl_24, zl_25, zl_26, zl_27, zl_28, zl_29, zl_30, zl_31, zl_32, zl_33, zl_34, zl_35, zl_36, zl_37, zl_38, zl_39, zl_40, zl_41, zl_42, zl_43, zl_44, zl_45, zl_46, zl_47, zl_48, zl_49, zl_50, zl_51, zl_52, zl_53, zl_54, zl_55, zl_56, zl_57, zl_58, zl_59, zl_60, zl_61, zl_62, zl_63, zl_64, zl_65, zl_66, zl_80, zl_97, zl_99, zl_103, zl_107, zl_112, zl_115, zl_100, zl_180, zl_210, zl_238, zl_255, zl_256, zl_400, zl_1000, zl_1024, zl_1260, zl_2000, zl_7140, zl_7200, zl_18414, zl_65536, zl_131072, zl_9999, zl_999, zI_add, zI_sub, zI_mul, zI_neg, zI_lt, zI_le, zI_eq, zI_clamp, ck_z, ckp_z, qb_z, qb_z0, Option.bind_some, if_pos, if_neg, reduceIte, reduceCtorEq, Bool.false_eq_true, Bool.true_eq_false, sA, sB]
        unfold F_X0_joinPlace_b60
        simp (disch := omega) only [zl_0, zl_1, zl_2, zl_3, zl_4, zl_5, zl_6, zl_7, zl_8, zl_9, zl_10, zl_11, zl_12, zl_13, zl_14, zl_15, zl_16, zl_17, zl_18, zl_19, zl_20, zl_21, zl_22, zl_23, zl_24, zl_25, zl_26, zl_27, zl_28, zl_29, zl_30, zl_31, zl_32, zl_33, zl_34, zl_35, zl_36, zl_37, zl_38, zl_39, zl_40, zl_41, zl_42, zl_43, zl_44, zl_45, zl_46, zl_47, zl_48, zl_49, zl_50, zl_51, zl_52, zl_53, zl_54, zl_55, zl_56, zl_57, zl_58, zl_59, zl_60, zl_61, zl_62, zl_63, zl_64, zl_65, zl_66, zl_80, zl_97, zl_99, zl_103, zl_107, zl_112, zl_115, zl_100, zl_180, zl_210, zl_238, zl_255, zl_256, zl_400, zl_1000, zl_1024, zl_1260, zl_2000, zl_7140, zl_7200, zl_18414, zl_65536, zl_131072, zl_9999, zl_999, zI_add, zI_sub, zI_mul, zI_neg, zI_lt, zI_le, zI_eq, zI_clamp, ck_z, ckp_z, qb_z, qb_z0, Option.bind_some, if_pos, if_neg, reduceIte, reduceCtorEq, Bool.false_eq_true, Bool.true_eq_false, e, e']
        exact g
      · simp (disch := omega) only [zl_0, zl_1, zl_2, zl_3, zl_4, zl_5, zl_6, zl_7, zl_8, zl_9, zl_10, zl_11, zl_12, zl_13, zl_14, zl_15, zl_16, zl_17, zl_18, zl_19, zl_20, zl_21, zl_22, zl_23, zl_24, zl_25, zl_26, zl_27, zl_28, zl_29, zl_30, zl_31, zl_32, zl_33, zl_34, zl_35, zl_36, zl_37, zl_38, zl_39, zl_40, zl_41, zl_42, zl_43, zl_44, zl_45, zl_46, zl_47, zl_48, zl_49, zl_50, zl_51, zl_52, zl_53, zl_54, zl_55, zl_56, zl_57, zl_58, zl_59, zl_60, zl_61, zl_62, zl_63, zl_64, zl_65, zl_66, zl_80, zl_97, zl_99, zl_103, zl_107, zl_112, zl_115, zl_100, zl_180, zl_210, zl_238, zl_255, zl_256, zl_400, zl_1000, zl_1024, zl_1260, zl_2000, zl_7140, zl_7200, zl_18414, zl_65536, zl_131072, zl_9999, zl_999, zI_add, zI_sub, zI_mul, zI_neg, zI_lt, zI_le, zI_eq, zI_clamp, ck_z, ckp_z, qb_z, qb_z0, Option.bind_some, if_pos, if_neg, reduceIte, reduceCtorEq, Bool.false_eq_true, Bool.true_eq_false, sA, sB]
        unfold F_X0_joinPlace_b60
        simp (disch := omega) only [zl_0, zl_1, zl_2, zl_3, zl_4, zl_5, zl_6, zl_7, zl_8, zl_9, zl_10, zl_11, zl_12, zl_13, zl_14, zl_15, zl_16, zl_17, zl_18, zl_19, zl_20, zl_21, zl_22, zl_23, zl_24, zl_25, zl_26, zl_27, zl_28, zl_29, zl_30, zl_31, zl_32, zl_33, zl_34, zl_35, zl_36, zl_37, zl_38, zl_39, zl_40, zl_41, zl_42, zl_43, zl_44, zl_45, zl_46, zl_47, zl_48, zl_49, zl_50, zl_51, zl_52, zl_53, zl_54, zl_55, zl_56, zl_57, zl_58, zl_59, zl_60, zl_61, zl_62, zl_63, zl_64, zl_65, zl_66, zl_80, zl_97, zl_99, zl_103, zl_107, zl_112, zl_115, zl_100, zl_180, zl_210, zl_238, zl_255, zl_256, zl_400, zl_1000, zl_1024, zl_1260, zl_2000, zl_7140, zl_7200, zl_18414, zl_65536, zl_131072, zl_9999, zl_999, zI_add, zI_sub, zI_mul, zI_neg, zI_lt, zI_le, zI_eq, zI_clamp, ck_z, ckp_z, qb_z, qb_z0, Option.bind_some, if_pos, if_neg, reduceIte, reduceCtorEq, Bool.false_eq_true, Bool.true_eq_false, e, e']
        exact g
    · rw [if_neg h4]
      by_cases h3 : sco A q p = 3 ∨ sco B q p = 3
      · rw [if_pos h3]
        obtain ⟨c, e, hc2⟩ := addLeaf_z hw hc 2 0 hQ hl (by omega)
        have g := jpb99_z hA cA hB cB (PW_bL (k := 2) (w := 0) hw hQ hl (Or.inr rfl)) hc2 q p hq hq2 hp hp2 (by have : fT (bL Φ l 2 0) = fT Φ + 1 := rfl; omega)
        by_cases h3a : sco A q p = 3
        · simp (disch := omega) only [zl_0, zl_1, zl_2, zl_3, zl_4, zl_5, zl_6, zl_7, zl_8, zl_9, zl_10, zl_11, zl_12, zl_13, zl_14, zl_15, zl_16, zl_17, zl_18, zl_19, zl_20, zl_21, zl_22, zl_23, zl_24, zl_25, zl_26, zl_27, zl_28, zl_29, zl_30, zl_31, zl_32, zl_33, zl_34, zl_35, zl_36, zl_37, zl_38, zl_39, zl_40, zl_41, zl_42, zl_43, zl_44, zl_45, zl_46, zl_47, zl_48, zl_49, zl_50, zl_51, zl_52, zl_53, zl_54, zl_55, zl_56, zl_57, zl_58, zl_59, zl_60, zl_61, zl_62, zl_63, zl_64, zl_65, zl_66, zl_80, zl_97, zl_99, zl_103, zl_107, zl_112, zl_115, zl_100, zl_180, zl_210, zl_238, zl_255, zl_256, zl_400, zl_1000, zl_1024, zl_1260, zl_2000, zl_7140, zl_7200, zl_18414, zl_65536, zl_131072, zl_9999, zl_999, zI_add, zI_sub, zI_mul, zI_neg, zI_lt, zI_le, zI_eq, zI_clamp, ck_z, ckp_z, qb_z, qb_z0, Option.bind_some, if_pos, if_neg, reduceIte, reduceCtorEq, Bool.false_eq_true, Bool.true_eq_false, sA, sB]
          unfold F_X0_joinPlace_b86
          simp (disch := omega) only [zl_0, zl_1, zl_2, zl_3, zl_4, zl_5, zl_6, zl_7, zl_8, zl_9, zl_10, zl_11, zl_12, zl_13, zl_14, zl_15, zl_16, zl_17, zl_18, zl_19, zl_20, zl_21, zl_22, zl_23, zl_24, zl_25, zl_26, zl_27, zl_28, zl_29, zl_30, zl_31, zl_32, zl_33, zl_34, zl_35, zl_36, zl_37, zl_38, zl_39, zl_40, zl_41, zl_42, zl_43, zl_44, zl_45, zl_46, zl_47, zl_48, zl_49, zl_50, zl_51, zl_52, zl_53, zl_54, zl_55, zl_56, zl_57, zl_58, zl_59, zl_60, zl_61, zl_62, zl_63, zl_64, zl_65, zl_66, zl_80, zl_97, zl_99, zl_103, zl_107, zl_112, zl_115, zl_100, zl_180, zl_210, zl_238, zl_255, zl_256, zl_400, zl_1000, zl_1024, zl_1260, zl_2000, zl_7140, zl_7200, zl_18414, zl_65536, zl_131072, zl_9999, zl_999, zI_add, zI_sub, zI_mul, zI_neg, zI_lt, zI_le, zI_eq, zI_clamp, ck_z, ckp_z, qb_z, qb_z0, Option.bind_some, if_pos, if_neg, reduceIte, reduceCtorEq, Bool.false_eq_true, Bool.true_eq_false, e]
          exact g
        · simp (disch := omega) only [zl_0, zl_1, zl_2, zl_3, zl_4, zl_5, zl_6, zl_7, zl_8, zl_9, zl_10, zl_11, zl_12, zl_13, zl_14, zl_15, zl_16, zl_17, zl_18, zl_19, zl_20, zl_21, zl_22, zl_23, zl_24, zl_25, zl_26, zl_27, zl_28, zl_29, zl_30, zl_31, zl_32, zl_33, zl_34, zl_35, zl_36, zl_37, zl_38, zl_39, zl_40, zl_41, zl_42, zl_43, zl_44, zl_45, zl_46, zl_47, zl_48, zl_49, zl_50, zl_51, zl_52, zl_53, zl_54, zl_55, zl_56, zl_57, zl_58, zl_59, zl_60, zl_61, zl_62, zl_63, zl_64, zl_65, zl_66, zl_80, zl_97, zl_99, zl_103, zl_107, zl_112, zl_115, zl_100, zl_180, zl_210, zl_238, zl_255, zl_256, zl_400, zl_1000, zl_1024, zl_1260, zl_2000, zl_7140, zl_7200, zl_18414, zl_65536, zl_131072, zl_9999, zl_999, zI_add, zI_sub, zI_mul, zI_neg, zI_lt, zI_le, zI_eq, zI_clamp, ck_z, ckp_z, qb_z, qb_z0, Option.bind_some, if_pos, if_neg, reduceIte, reduceCtorEq, Bool.false_eq_true, Bool.true_eq_false, sA, sB]
          unfold F_X0_joinPlace_b86
          simp (disch := omega) only [zl_0, zl_1, zl_2, zl_3, zl_4, zl_5, zl_6, zl_7, zl_8, zl_9, zl_10, zl_11, zl_12, zl_13, zl_14, zl_15, zl_16, zl_17, zl_18, zl_19, zl_20, zl_21, zl_22, zl_23, zl_24, zl_25, zl_26, zl_27, zl_28, zl_29, zl_30, zl_31, zl_32, zl_33, zl_34, zl_35, zl_36, zl_37, zl_38, zl_39, zl_40, zl_41, zl_42, zl_43, zl_44, zl_45, zl_46, zl_47, zl_48, zl_49, zl_50, zl_51, zl_52, zl_53, zl_54, zl_55, zl_56, zl_57, zl_58, zl_59, zl_60, zl_61, zl_62, zl_63, zl_64, zl_65, zl_66, zl_80, zl_97, zl_99, zl_103, zl_107, zl_112, zl_115, zl_100, zl_180, zl_210, zl_238, zl_255, zl_256, zl_400, zl_1000, zl_1024, zl_1260, zl_2000, zl_7140, zl_7200, zl_18414, zl_65536, zl_131072, zl_9999, zl_999, zI_add, zI_sub, zI_mul, zI_neg, zI_lt, zI_le, zI_eq, zI_clamp, ck_z, ckp_z, qb_z, qb_z0, Option.bind_some, if_pos, if_neg, reduceIte, reduceCtorEq, Bool.false_eq_true, Bool.true_eq_false, e]
          exact g
      · rw [if_neg h3]
        obtain ⟨c, e, hc2⟩ := addGhost_z hw hc hQ hl
        have g := jpb99_z hA cA hB cB (PW_bG hw hQ hl) hc2 q p hq hq2 hp hp2 (by have : fT (bG Φ l) = fT Φ := rfl; omega)
        simp (disch := omega) only [zl_0, zl_1, zl_2, zl_3, zl_4, zl_5, zl_6, zl_7, zl_8, zl_9, zl_10, zl_11, zl_12, zl_13, zl_14, zl_15, zl_16, zl_17, zl_18, zl_19, zl_20, zl_21, zl_22, zl_23, zl_24, zl_25, zl_26, zl_27, zl_28, zl_29, zl_30, zl_31, zl_32, zl_33, zl_34, zl_35, zl_36, zl_37, zl_38, zl_39, zl_40, zl_41, zl_42, zl_43, zl_44, zl_45, zl_46, zl_47, zl_48, zl_49, zl_50, zl_51, zl_52, zl_53, zl_54, zl_55, zl_56, zl_57, zl_58, zl_59, zl_60, zl_61, zl_62, zl_63, zl_64, zl_65, zl_66, zl_80, zl_97, zl_99, zl_103, zl_107, zl_112, zl_115, zl_100, zl_180, zl_210, zl_238, zl_255, zl_256, zl_400, zl_1000, zl_1024, zl_1260, zl_2000, zl_7140, zl_7200, zl_18414, zl_65536, zl_131072, zl_9999, zl_999, zI_add, zI_sub, zI_mul, zI_neg, zI_lt, zI_le, zI_eq, zI_clamp, ck_z, ckp_z, qb_z, qb_z0, Option.bind_some, if_pos, if_neg, reduceIte, reduceCtorEq, Bool.false_eq_true, Bool.true_eq_false, sA, sB, e]
        exact g
end JN

theorem PW_jP {A B Φ : Fold} (hA : FoldW A) (hB : FoldW B) {q p l : Int} (hw : PW Φ l) (hQ : 0 < fQ Φ) (hl : l < fS Φ (fQ Φ - 1)) : PW (jP A B q p l Φ) (l + 1) := by
  have h1 : PW (jx A B q p l Φ) (l + 1) := by
    unfold jx
    (repeat' split) <;> first | exact PW_bL hw hQ hl (Or.inl rfl) | exact PW_bT (PW_bL hw hQ hl (Or.inr rfl)) (by decide) (by decide) | exact PW_bL hw hQ hl (Or.inr rfl) | exact PW_bG hw hQ hl
  unfold jP jy
  split
  · rename_i h
    have g := sco_th hA h
    have hb := beh_b (Ξ := A) (fC A q p) g.2.2.1
    exact PW_lr _ _ (fun i a b => ⟨(hA.2.2.2.1 i a b).1, (hA.2.2.2.1 i a b).2.1⟩) _ _ _ (by omega) h1
  · split
    · rename_i h
      have g := sco_th hB h
      have hb := beh_b (Ξ := B) (fC B q p) g.2.2.1
      exact PW_lr _ _ (fun i a b => ⟨(hB.2.2.2.1 i a b).1, (hB.2.2.2.1 i a b).2.1⟩) _ _ _ (by omega) h1
    · exact h1
theorem PW_jQ {A B Φ : Fold} (hA : FoldW A) (hB : FoldW B) {q : Int} (hw : PW Φ 0) (hQ : 0 < fQ Φ) : ∀ p : Nat, (p : Int) ≤ fS Φ (fQ Φ - 1) → PW (jQ A B q p Φ) p
  | 0, _ => hw
  | p + 1, hp => by
    have hf := jQ_f A B q Φ p
    exact PW_jP hA hB (PW_jQ hA hB hw hQ p (by omega)) (by rw [hf.1]; exact hQ) (by rw [hf.1, hf.2.1]; omega)
theorem jS_b {A B : Fold} (hA : FoldW A) (hB : FoldW B) (q : Int) (h0 : 0 ≤ q) (h1 : q < max (fQ A) (fQ B)) : 2 ≤ jS A B q ∧ jS A B q ≤ 8 ∧ jS A B q % 2 = 0 := by
  unfold jS
  by_cases c : q < fQ A
  · rw [if_pos c]; exact hA.2.1 q h0 c
  · rw [if_neg c]; exact hB.2.1 q h0 (by omega)
theorem PW_jA {A B : Fold} (hA : FoldW A) (hB : FoldW B) (L : Int) : ∀ n : Nat, (n : Int) ≤ max (fQ A) (fQ B) → PW (jA A B L n) (jl A B n)
  | 0, _ => PW_lr _ _ (fun i a b => ⟨(hA.2.2.2.1 i a b).1, (hA.2.2.2.1 i a b).2.1⟩) _ _ _ (by omega) (PW_b0 L 0)
  | n + 1, hn => by
    have hrA := hA.1
    have hrB := hB.1
    have ih := PW_jA hA hB L n (by omega)
    have hf := jA_f A B L n
    have hs := jS_b hA hB n (by omega) (by omega)
    have hll : 0 < fQ (jA A B L n) → jl A B n = fS (jA A B L n) (fQ (jA A B L n) - 1) := by
      intro h0
      rw [hf.1] at h0
      unfold jl
      rw [if_neg (by omega), hf.1, hf.2.1 _ (by omega) (by omega)]
    have hw2 := PW_bQ ih hll (by rw [hf.1]; omega) hs
    have g := PW_jQ (q := n) hA hB hw2 (by show 0 < fQ (jA A B L n) + 1; rw [hf.1]; omega) (jS A B n).toNat (by rw [show fQ (bQ (jA A B L n) (jS A B n)) - 1 = fQ (jA A B L n) by show fQ (jA A B L n) + 1 - 1 = _; omega, bQ_S, if_pos rfl]; omega)
    have ej : jl A B (n + 1) = jS A B n := by
      unfold jl
      rw [if_neg (by omega)]
      congr 1
      omega
    rw [ej]
    rw [Int.toNat_of_nonneg (by omega)] at g
    exact g
section JM
variable {A B Φ : Fold} {l f g : Int} {mthings mquires firstLetter firstPage sizeOf placed kindOf catchOf isThere : Nat → Int32} {made : Int32} {madeKind madePlaced : Nat → Int32}
theorem mp_up {mp : Nat → Int32} (x : Int32) (Q l q p : Int) (hQ : 0 < Q) (hl : 0 ≤ l) (hl8 : l < 8) (h1 : 0 ≤ q) (h3 : 1 ≤ p) (h4 : p ≤ 8) : upd mp (8 * (Q - 1) + (l + 1) - 1).toNat x (8 * q + p - 1).toNat = if q = Q - 1 ∧ p = l + 1 then x else mp (8 * q + p - 1).toNat := by
  rw [upd_z _ _ (by omega) (by omega)]
  by_cases e : q = Q - 1 ∧ p = l + 1
  · rw [if_pos e, if_pos (by omega)]
  · rw [if_neg e, if_neg (by omega)]
theorem PK_bG (hw : PW Φ l) (hc : PK Φ l made madeKind madePlaced) (hQ : 0 < fQ Φ) (hl : l < fS Φ (fQ Φ - 1)) : PK (bG Φ l) (l + 1) made madeKind (upd madePlaced (8 * (fQ Φ - 1) + (l + 1) - 1).toNat (-2)) := by
  obtain ⟨h1, h2, h3⟩ := hc
  have hr := hw.1
  have hs := hw.2.1 (fQ Φ - 1) (by omega) (by omega)
  refine ⟨h1, h2, fun q p a b c d e => ?_⟩
  have b : q < fQ Φ := b
  have d : p ≤ fS Φ q := d
  have e : q = fQ Φ - 1 → p ≤ l + 1 := e
  have hs2 := hw.2.1 q a b
  rw [mp_up _ _ _ _ _ hQ (by omega) (by omega) a c (by omega), bG_C]
  by_cases n : q = fQ Φ - 1 ∧ p = l + 1
  · rw [if_pos n, if_pos n]
    rfl
  · rw [if_neg n, if_neg n]
    exact h3 q p a b c d (by omega)
theorem makesL_z (hw : PW Φ l) (hc : PK Φ l made madeKind madePlaced) (k w : Int) (hQ : 0 < fQ Φ) (hl : l < fS Φ (fQ Φ - 1)) (hT : fT Φ < 200) : ∃ c, F_X8_makes made madeKind (zI k) = some c ∧ PK (bL Φ l k w) (l + 1) c.1 c.2 (upd madePlaced (8 * (fQ Φ - 1) + (l + 1) - 1).toNat made) := by
  obtain ⟨rfl, h2, h3⟩ := hc
  have hr := hw.1
  have hs := hw.2.1 (fQ Φ - 1) (by omega) (by omega)
  unfold F_X8_makes
  simp (disch := omega) only [zl_0, zl_1, zl_2, zl_3, zl_4, zl_5, zl_6, zl_7, zl_8, zl_9, zl_10, zl_11, zl_12, zl_13, zl_14, zl_15, zl_16, zl_17, zl_18, zl_19, zl_20, zl_21, zl_22, zl_23, zl_24, zl_25, zl_26, zl_27, zl_28, zl_29, zl_30, zl_31, zl_32, zl_33, zl_34, zl_35, zl_36, zl_37, zl_38, zl_39, zl_40, zl_41, zl_42, zl_43, zl_44, zl_45, zl_46, zl_47, zl_48, zl_49, zl_50, zl_51, zl_52, zl_53, zl_54, zl_55, zl_56, zl_57, zl_58, zl_59, zl_60, zl_61, zl_62, zl_63, zl_64, zl_65, zl_66, zl_80, zl_97, zl_99, zl_103, zl_107, zl_112, zl_115, zl_100, zl_180, zl_210, zl_238, zl_255, zl_256, zl_400, zl_1000, zl_1024, zl_1260, zl_2000, zl_7140, zl_7200, zl_18414, zl_65536, zl_131072, zl_9999, zl_999, zI_add, zI_sub, zI_mul, zI_neg, zI_lt, zI_le, zI_eq, zI_clamp, ck_z, ckp_z, qb_z, qb_z0, Option.bind_some, if_pos, if_neg, reduceIte, reduceCtorEq, Bool.false_eq_true, Bool.true_eq_false]
  refine ⟨_, rfl, rfl, fun i a b => ?_, fun q p a b c d e => ?_⟩
  · have b : i < fT Φ + 1 := b
    show upd madeKind (fT Φ).toNat (zI k) i.toNat = _
    rw [upd_z _ _ (by omega) a, bL_K]
    by_cases n : i = fT Φ
    · rw [if_pos n, if_pos n]
    · rw [if_neg n, if_neg n]
      exact h2 i a (by omega)
  · have b : q < fQ Φ := b
    have d : p ≤ fS Φ q := d
    have e : q = fQ Φ - 1 → p ≤ l + 1 := e
    have hs2 := hw.2.1 q a b
    rw [mp_up _ _ _ _ _ hQ (by omega) (by omega) a c (by omega), bL_C]
    by_cases n : q = fQ Φ - 1 ∧ p = l + 1
    · rw [if_pos n, if_pos n]
    · rw [if_neg n, if_neg n]
      exact h3 q p a b c d (by omega)
theorem ideal_b315_z {RT : Type} (hA : FoldW A) (mA : FoldM f A mthings mquires firstLetter firstPage sizeOf placed kindOf catchOf) (hB : FoldW B) (mB : FoldM g B mthings mquires firstLetter firstPage sizeOf placed kindOf catchOf) (hf : 0 ≤ f) (hf2 : f < 5) (hg : 0 ≤ g) (hg2 : g < 5) (told : Int32) (k158 : Int32 → (Nat → Int32) → (Nat → Int32) → (Nat → Int32) → (Nat → Int32) → (Nat → Int32) → (Nat → Int32) → (Nat → Int32) → (Nat → Int32) → (Nat → Int32) → Int32 → (Nat → Int32) → (Nat → Int32) → Int32 → Int32 → Int32 → Int32 → Int32 → Option (Int32 × Int32 × (Nat → Int32) × (Nat → Int32) × (Nat → Int32) × (Nat → Int32) × (Nat → Int32) × (Nat → Int32) × (Nat → Int32) × (Nat → Int32) × (Nat → Int32) × Int32 × (Nat → Int32) × (Nat → Int32))) (x5 : Int32) (q p : Int) (hq : 0 ≤ q) (hq2 : q < 8) (hp : 1 ≤ p) (hp2 : p ≤ 8) (hT : fT Φ ≤ 170) (hw : PW Φ l) (hc : PK Φ l made madeKind madePlaced) (hne : 1 < sco A q p ∨ 1 < sco B q p) : ∃ m' k', F_X8_ideal_b315 k158 told isThere mthings mquires firstLetter firstPage sizeOf placed kindOf catchOf made madeKind madePlaced (zI f) (zI g) x5 (zI q) (zI p) (zI (sco A q p)) = k158 told isThere mthings mquires firstLetter firstPage sizeOf placed kindOf catchOf m' k' madePlaced (zI f) (zI g) x5 (zI q) (zI (p + 1)) ∧ PK (jy A B q p Φ) l m' k' madePlaced := by
  have r := sco_r hA q p
  unfold F_X8_ideal_b315 jy
  by_cases h : 1 < sco A q p
  · have t := sco_th hA h
    have hr := hA.1
    have hS := hA.2.1 q t.1.1 t.1.2.1
    have pl := mA.2.2.1 q p t.1.1 t.1.2.1 t.1.2.2.1 t.1.2.2.2
    obtain ⟨c, e, -, hc2⟩ := makesExtras_z hA mA hf hf2 (fC A q p) (by omega) t.2.2.1 hT hw hc
    rw [if_pos h]
    simp (disch := omega) only [zl_0, zl_1, zl_2, zl_3, zl_4, zl_5, zl_6, zl_7, zl_8, zl_9, zl_10, zl_11, zl_12, zl_13, zl_14, zl_15, zl_16, zl_17, zl_18, zl_19, zl_20, zl_21, zl_22, zl_23, zl_24, zl_25, zl_26, zl_27, zl_28, zl_29, zl_30, zl_31, zl_32, zl_33, zl_34, zl_35, zl_36, zl_37, zl_38, zl_39, zl_40, zl_41, zl_42, zl_43, zl_44, zl_45, zl_46, zl_47, zl_48, zl_49, zl_50, zl_51, zl_52, zl_53, zl_54, zl_55, zl_56, zl_57, zl_58, zl_59, zl_60, zl_61, zl_62, zl_63, zl_64, zl_65, zl_66, zl_80, zl_97, zl_99, zl_103, zl_107, zl_112, zl_115, zl_100, zl_180, zl_210, zl_238, zl_255, zl_256, zl_400, zl_1000, zl_1024, zl_1260, zl_2000, zl_7140, zl_7200, zl_18414, zl_65536, zl_131072, zl_9999, zl_999, zI_add, zI_sub, zI_mul, zI_neg, zI_lt, zI_le, zI_eq, zI_clamp, ck_z, ckp_z, qb_z, qb_z0, Option.bind_some, if_pos, if_neg, reduceIte, reduceCtorEq, Bool.false_eq_true, Bool.true_eq_false, at_z, pl, e]
    exact ⟨_, _, rfl, hc2⟩
  · have h2 : 1 < sco B q p := by omega
    have t := sco_th hB h2
    have hr := hB.1
    have hS := hB.2.1 q t.1.1 t.1.2.1
    have pl := mB.2.2.1 q p t.1.1 t.1.2.1 t.1.2.2.1 t.1.2.2.2
    obtain ⟨c, e, -, hc2⟩ := makesExtras_z hB mB hg hg2 (fC B q p) (by omega) t.2.2.1 hT hw hc
    rw [if_neg h, if_pos h2]
    simp (disch := omega) only [zl_0, zl_1, zl_2, zl_3, zl_4, zl_5, zl_6, zl_7, zl_8, zl_9, zl_10, zl_11, zl_12, zl_13, zl_14, zl_15, zl_16, zl_17, zl_18, zl_19, zl_20, zl_21, zl_22, zl_23, zl_24, zl_25, zl_26, zl_27, zl_28, zl_29, zl_30, zl_31, zl_32, zl_33, zl_34, zl_35, zl_36, zl_37, zl_38, zl_39, zl_40, zl_41, zl_42, zl_43, zl_44, zl_45, zl_46, zl_47, zl_48, zl_49, zl_50, zl_51, zl_52, zl_53, zl_54, zl_55, zl_56, zl_57, zl_58, zl_59, zl_60, zl_61, zl_62, zl_63, zl_64, zl_65, zl_66, zl_80, zl_97, zl_99, zl_103, zl_107, zl_112, zl_115, zl_100, zl_180, zl_210, zl_238, zl_255, zl_256, zl_400, zl_1000, zl_1024, zl_1260, zl_2000, zl_7140, zl_7200, zl_18414, zl_65536, zl_131072, zl_9999, zl_999, zI_add, zI_sub, zI_mul, zI_neg, zI_lt, zI_le, zI_eq, zI_clamp, ck_z, ckp_z, qb_z, qb_z0, Option.bind_some, if_pos, if_neg, reduceIte, reduceCtorEq, Bool.false_eq_true, Bool.true_eq_false, at_z, pl, e]
    exact ⟨_, _, rfl, hc2⟩
end JM

def PC (Φ : Fold) (l : Int) (quires things ghosts letter page laid : Int32) (sizes cells kinds words quireOf placeOf : Nat → Int32) : Prop :=
  (quires = zI (fQ Φ) ∧ things = zI (fT Φ) ∧ ghosts = zI (fG Φ) ∧ letter = zI (fL Φ) ∧ page = zI (fP Φ) ∧ laid = zI l) ∧
  (∀ q, 0 ≤ q → q < fQ Φ → sizes q.toNat = zI (fS Φ q)) ∧
  (∀ q p, 0 ≤ q → q < fQ Φ → 1 ≤ p → p ≤ fS Φ q → (q = fQ Φ - 1 → p ≤ l) → cells (q * 8 + p - 1).toNat = zI (fC Φ q p)) ∧
  (∀ i, 0 ≤ i → i < fT Φ → i < 30 → kinds i.toNat = zI (fK Φ i)) ∧
  (∀ i, 0 ≤ i → i < fT Φ → i < 30 → Hg (fK Φ i) → words i.toNat = zI (fW Φ i) ∧ quireOf i.toNat = zI (fqo Φ i) ∧ placeOf i.toNat = zI (fpo Φ i))
section BD
variable {Φ : Fold} {l : Int} {quires things ghosts letter page laid : Int32} {sizes cells kinds words quireOf placeOf : Nat → Int32}
theorem PC_end (h : PC Φ l quires things ghosts letter page laid sizes cells kinds words quireOf placeOf) (hl : l = fS Φ (fQ Φ - 1)) (hT : fT Φ ≤ 30) : FoldC Φ quires things ghosts letter page sizes cells kinds words quireOf placeOf := by
  obtain ⟨h1, h2, h3, h4, h5⟩ := h
  refine ⟨⟨h1.1, h1.2.1, h1.2.2.1, h1.2.2.2.1, h1.2.2.2.2.1⟩, h2, fun q p a b c d => h3 q p a b c d (fun e => by subst e; omega), fun i a b => h4 i a b (by omega), fun i a b => h5 i a b (by omega)⟩
theorem PC_b0 (L P : Int) : PC (b0 L P) 0 0 0 0 (zI L) (zI P) 0 sizes cells kinds words quireOf placeOf := by
  have e0 : fQ (b0 L P) = 0 := rfl
  have e1 : fT (b0 L P) = 0 := rfl
  exact ⟨⟨rfl, rfl, rfl, rfl, rfl, rfl⟩, fun q a b => by omega, fun q p a b => by omega, fun i a b => by omega, fun i a b => by omega⟩
theorem addQuire_z (hw : PW Φ l) (h : PC Φ l quires things ghosts letter page laid sizes cells kinds words quireOf placeOf) (s : Int) (hl : 0 < fQ Φ → l = fS Φ (fQ Φ - 1)) (hQ : fQ Φ < 8) : ∃ c, F_X0_addQuire quires sizes laid (zI s) = some c ∧ PC (bQ Φ s) 0 c.1 things ghosts letter page c.2.2 c.2.1 cells kinds words quireOf placeOf := by
  obtain ⟨⟨rfl, rfl, rfl, rfl, rfl, rfl⟩, h2, h3, h4, h5⟩ := h
  have hr := hw.1
  unfold F_X0_addQuire
  simp (disch := omega) only [zl_0, zl_1, zl_2, zl_3, zl_4, zl_5, zl_6, zl_7, zl_8, zl_9, zl_10, zl_11, zl_12, zl_13, zl_14, zl_15, zl_16, zl_17, zl_18, zl_19, zl_20, zl_21, zl_22, zl_23, zl_24, zl_25, zl_26, zl_27, zl_28, zl_29, zl_30, zl_31, zl_32, zl_33, zl_34, zl_35, zl_36, zl_37, zl_38, zl_39, zl_40, zl_41, zl_42, zl_43, zl_44, zl_45, zl_46, zl_47, zl_48, zl_49, zl_50, zl_51, zl_52, zl_53, zl_54, zl_55, zl_56, zl_57, zl_58, zl_59, zl_60, zl_61, zl_62, zl_63, zl_64, zl_65, zl_66, zl_80, zl_97, zl_99, zl_103, zl_107, zl_112, zl_115, zl_100, zl_180, zl_210, zl_238, zl_255, zl_256, zl_400, zl_1000, zl_1024, zl_1260, zl_2000, zl_7140, zl_7200, zl_18414, zl_65536, zl_131072, zl_9999, zl_999, zI_add, zI_sub, zI_mul, zI_neg, zI_lt, zI_le, zI_eq, zI_clamp, ck_z, ckp_z, qb_z, qb_z0, Option.bind_some, if_pos, if_neg, reduceIte, reduceCtorEq, Bool.false_eq_true, Bool.true_eq_false]
  refine ⟨_, rfl, ⟨rfl, rfl, rfl, rfl, rfl, rfl⟩, fun q a b => ?_, fun q p a b c d e => ?_, h4, h5⟩
  · have b : q < fQ Φ + 1 := b
    show upd sizes (fQ Φ).toNat (zI s) q.toNat = _
    rw [upd_z _ _ (by omega) a, bQ_S]
    by_cases e : q = fQ Φ
    · rw [if_pos e, if_pos e]
    · rw [if_neg e, if_neg e]
      exact h2 q a (by omega)
  · have b : q < fQ Φ + 1 := b
    have e : q = fQ Φ + 1 - 1 → p ≤ 0 := e
    rw [bQ_S] at d
    have ne : ¬ q = fQ Φ := by intro c2; have := e (by omega); omega
    rw [if_neg ne] at d
    refine h3 q p a (by omega) c d (fun c2 => ?_)
    subst c2
    have := hl (by omega)
    omega
theorem addCell_z (hw : PW Φ l) (x : Int32) (hQ : 0 < fQ Φ) (hl : l < 8) : F_X0_addCell (zI (fQ Φ)) cells (zI l) x = some (upd cells ((fQ Φ - 1) * 8 + l).toNat x, zI (l + 1)) := by
  have hr := hw.1
  unfold F_X0_addCell
  simp (disch := omega) only [zl_0, zl_1, zl_2, zl_3, zl_4, zl_5, zl_6, zl_7, zl_8, zl_9, zl_10, zl_11, zl_12, zl_13, zl_14, zl_15, zl_16, zl_17, zl_18, zl_19, zl_20, zl_21, zl_22, zl_23, zl_24, zl_25, zl_26, zl_27, zl_28, zl_29, zl_30, zl_31, zl_32, zl_33, zl_34, zl_35, zl_36, zl_37, zl_38, zl_39, zl_40, zl_41, zl_42, zl_43, zl_44, zl_45, zl_46, zl_47, zl_48, zl_49, zl_50, zl_51, zl_52, zl_53, zl_54, zl_55, zl_56, zl_57, zl_58, zl_59, zl_60, zl_61, zl_62, zl_63, zl_64, zl_65, zl_66, zl_80, zl_97, zl_99, zl_103, zl_107, zl_112, zl_115, zl_100, zl_180, zl_210, zl_238, zl_255, zl_256, zl_400, zl_1000, zl_1024, zl_1260, zl_2000, zl_7140, zl_7200, zl_18414, zl_65536, zl_131072, zl_9999, zl_999, zI_add, zI_sub, zI_mul, zI_neg, zI_lt, zI_le, zI_eq, zI_clamp, ck_z, ckp_z, qb_z, qb_z0, Option.bind_some, if_pos, if_neg, reduceIte, reduceCtorEq, Bool.false_eq_true, Bool.true_eq_false]
theorem cells_up {cells : Nat → Int32} (x : Int32) (Q l q p : Int) (hQ : 0 < Q) (hl : 0 ≤ l) (hl8 : l < 8) (h1 : 0 ≤ q) (h3 : 1 ≤ p) (h4 : p ≤ 8) : upd cells ((Q - 1) * 8 + l).toNat x (q * 8 + p - 1).toNat = if q = Q - 1 ∧ p = l + 1 then x else cells (q * 8 + p - 1).toNat := by
  rw [upd_z _ _ (by omega) (by omega)]
  by_cases e : q = Q - 1 ∧ p = l + 1
  · rw [if_pos e, if_pos (by omega)]
  · rw [if_neg e, if_neg (by omega)]
theorem addGhost_z (hw : PW Φ l) (h : PC Φ l quires things ghosts letter page laid sizes cells kinds words quireOf placeOf) (hQ : 0 < fQ Φ) (hl : l < fS Φ (fQ Φ - 1)) : ∃ c, F_X0_addGhost quires ghosts cells laid = some c ∧ PC (bG Φ l) (l + 1) quires things c.1 letter page c.2.2 sizes c.2.1 kinds words quireOf placeOf := by
  obtain ⟨⟨rfl, rfl, rfl, rfl, rfl, rfl⟩, h2, h3, h4, h5⟩ := h
  have hr := hw.1
  have hs := hw.2.1 (fQ Φ - 1) (by omega) (by omega)
  unfold F_X0_addGhost
  rw [addCell_z hw _ hQ (by omega), Option.bind_some]
  refine ⟨_, rfl, ⟨rfl, rfl, ?_, rfl, rfl, rfl⟩, h2, fun q p a b c d e => ?_, h4, h5⟩
  · show zI (fG Φ) + 1 = zI (fG Φ + 1)
    rw [zl_1, zI_add]
  · have b : q < fQ Φ := b
    have d : p ≤ fS Φ q := d
    have e : q = fQ Φ - 1 → p ≤ l + 1 := e
    have hs2 := hw.2.1 q a b
    show upd cells ((fQ Φ - 1) * 8 + l).toNat (-2) (q * 8 + p - 1).toNat = _
    rw [cells_up _ _ _ _ _ hQ (by omega) (by omega) a c (by omega), bG_C]
    by_cases n : q = fQ Φ - 1 ∧ p = l + 1
    · rw [if_pos n, if_pos n]
      rfl
    · rw [if_neg n, if_neg n]
      exact h3 q p a b c d (by omega)
theorem addThing_z (hw : PW Φ l) (h : PC Φ l quires things ghosts letter page laid sizes cells kinds words quireOf placeOf) (k : Int) (hh : ¬ Hg k) (hT : fT Φ < 1000) : ∃ c, F_X0_addThing things kinds (zI k) = some c ∧ PC (bT Φ k) l quires c.1 ghosts letter page laid sizes cells c.2 words quireOf placeOf := by
  obtain ⟨⟨rfl, rfl, rfl, rfl, rfl, rfl⟩, h2, h3, h4, h5⟩ := h
  have hr := hw.1
  unfold F_X0_addThing
  by_cases h30 : 30 ≤ fT Φ
  · simp (disch := omega) only [zl_0, zl_1, zl_2, zl_3, zl_4, zl_5, zl_6, zl_7, zl_8, zl_9, zl_10, zl_11, zl_12, zl_13, zl_14, zl_15, zl_16, zl_17, zl_18, zl_19, zl_20, zl_21, zl_22, zl_23, zl_24, zl_25, zl_26, zl_27, zl_28, zl_29, zl_30, zl_31, zl_32, zl_33, zl_34, zl_35, zl_36, zl_37, zl_38, zl_39, zl_40, zl_41, zl_42, zl_43, zl_44, zl_45, zl_46, zl_47, zl_48, zl_49, zl_50, zl_51, zl_52, zl_53, zl_54, zl_55, zl_56, zl_57, zl_58, zl_59, zl_60, zl_61, zl_62, zl_63, zl_64, zl_65, zl_66, zl_80, zl_97, zl_99, zl_103, zl_107, zl_112, zl_115, zl_100, zl_180, zl_210, zl_238, zl_255, zl_256, zl_400, zl_1000, zl_1024, zl_1260, zl_2000, zl_7140, zl_7200, zl_18414, zl_65536, zl_131072, zl_9999, zl_999, zI_add, zI_sub, zI_mul, zI_neg, zI_lt, zI_le, zI_eq, zI_clamp, ck_z, ckp_z, qb_z, qb_z0, Option.bind_some, if_pos, if_neg, reduceIte, reduceCtorEq, Bool.false_eq_true, Bool.true_eq_false]
    refine ⟨_, rfl, ⟨rfl, rfl, rfl, rfl, rfl, rfl⟩, h2, h3, fun i a b c => ?_, fun i a b c d => ?_⟩
    · rw [bT_K, if_neg (by omega)]
      exact h4 i a (by omega) c
    · rw [bT_K, if_neg (by omega)] at d
      exact h5 i a (by omega) c d
  · simp (disch := omega) only [zl_0, zl_1, zl_2, zl_3, zl_4, zl_5, zl_6, zl_7, zl_8, zl_9, zl_10, zl_11, zl_12, zl_13, zl_14, zl_15, zl_16, zl_17, zl_18, zl_19, zl_20, zl_21, zl_22, zl_23, zl_24, zl_25, zl_26, zl_27, zl_28, zl_29, zl_30, zl_31, zl_32, zl_33, zl_34, zl_35, zl_36, zl_37, zl_38, zl_39, zl_40, zl_41, zl_42, zl_43, zl_44, zl_45, zl_46, zl_47, zl_48, zl_49, zl_50, zl_51, zl_52, zl_53, zl_54, zl_55, zl_56, zl_57, zl_58, zl_59, zl_60, zl_61, zl_62, zl_63, zl_64, zl_65, zl_66, zl_80, zl_97, zl_99, zl_103, zl_107, zl_112, zl_115, zl_100, zl_180, zl_210, zl_238, zl_255, zl_256, zl_400, zl_1000, zl_1024, zl_1260, zl_2000, zl_7140, zl_7200, zl_18414, zl_65536, zl_131072, zl_9999, zl_999, zI_add, zI_sub, zI_mul, zI_neg, zI_lt, zI_le, zI_eq, zI_clamp, ck_z, ckp_z, qb_z, qb_z0, Option.bind_some, if_pos, if_neg, reduceIte, reduceCtorEq, Bool.false_eq_true, Bool.true_eq_false]
    refine ⟨_, rfl, ⟨rfl, rfl, rfl, rfl, rfl, rfl⟩, h2, h3, fun i a b c => ?_, fun i a b c d => ?_⟩
    · have b : i < fT Φ + 1 := b
      show upd kinds (fT Φ).toNat (zI k) i.toNat = _
      rw [upd_z _ _ (by omega) a, bT_K]
      by_cases n : i = fT Φ
      · rw [if_pos n, if_pos n]
      · rw [if_neg n, if_neg n]
        exact h4 i a (by omega) c
    · have b : i < fT Φ + 1 := b
      rw [bT_K] at d
      have n : ¬ i = fT Φ := by intro n; rw [if_pos n] at d; exact hh d
      rw [if_neg n] at d
      exact h5 i a (by omega) c d
theorem addLeaf_z (hw : PW Φ l) (h : PC Φ l quires things ghosts letter page laid sizes cells kinds words quireOf placeOf) (k w : Int) (hQ : 0 < fQ Φ) (hl : l < fS Φ (fQ Φ - 1)) (hT : fT Φ < 1000) : ∃ c, F_X0_addLeaf quires things cells kinds words quireOf placeOf laid (zI k) (zI w) = some c ∧ PC (bL Φ l k w) (l + 1) quires c.1 ghosts letter page c.2.2.2.2.2.2 sizes c.2.1 c.2.2.1 c.2.2.2.1 c.2.2.2.2.1 c.2.2.2.2.2.1 := by
  obtain ⟨⟨rfl, rfl, rfl, rfl, rfl, rfl⟩, h2, h3, h4, h5⟩ := h
  have hr := hw.1
  have hs := hw.2.1 (fQ Φ - 1) (by omega) (by omega)
  have hcell : ∀ q p, 0 ≤ q → q < fQ Φ → 1 ≤ p → p ≤ fS Φ q → (q = fQ Φ - 1 → p ≤ l + 1) → upd cells ((fQ Φ - 1) * 8 + l).toNat (zI (fT Φ)) (q * 8 + p - 1).toNat = zI (fC (bL Φ l k w) q p) := by
    intro q p a b c d e
    have hs2 := hw.2.1 q a b
    rw [cells_up _ _ _ _ _ hQ (by omega) (by omega) a c (by omega), bL_C]
    by_cases n : q = fQ Φ - 1 ∧ p = l + 1
    · rw [if_pos n, if_pos n]
    · rw [if_neg n, if_neg n]
      exact h3 q p a b c d (by omega)
  unfold F_X0_addLeaf F_X0_addLeaf_b55 F_X0_addThing
  rw [addCell_z hw _ hQ (by omega), Option.bind_some]
  by_cases h30 : 30 ≤ fT Φ
  · simp (disch := omega) only [zl_0, zl_1, zl_2, zl_3, zl_4, zl_5, zl_6, zl_7, zl_8, zl_9, zl_10, zl_11, zl_12, zl_13, zl_14, zl_15, zl_16, zl_17, zl_18, zl_19, zl_20, zl_21, zl_22, zl_23, zl_24, zl_25, zl_26, zl_27, zl_28, zl_29, zl_30, zl_31, zl_32, zl_33, zl_34, zl_35, zl_36, zl_37, zl_38, zl_39, zl_40, zl_41, zl_42, zl_43, zl_44, zl_45, zl_46, zl_47, zl_48, zl_49, zl_50, zl_51, zl_52, zl_53, zl_54, zl_55, zl_56, zl_57, zl_58, zl_59, zl_60, zl_61, zl_62, zl_63, zl_64, zl_65, zl_66, zl_80, zl_97, zl_99, zl_103, zl_107, zl_112, zl_115, zl_100, zl_180, zl_210, zl_238, zl_255, zl_256, zl_400, zl_1000, zl_1024, zl_1260, zl_2000, zl_7140, zl_7200, zl_18414, zl_65536, zl_131072, zl_9999, zl_999, zI_add, zI_sub, zI_mul, zI_neg, zI_lt, zI_le, zI_eq, zI_clamp, ck_z, ckp_z, qb_z, qb_z0, Option.bind_some, if_pos, if_neg, reduceIte, reduceCtorEq, Bool.false_eq_true, Bool.true_eq_false]
    refine ⟨_, rfl, ⟨rfl, rfl, rfl, rfl, rfl, rfl⟩, h2, hcell, fun i a b c => ?_, fun i a b c d => ?_⟩
    · rw [bL_K, if_neg (by omega)]
      exact h4 i a (by omega) c
    · rw [bL_K, if_neg (by omega)] at d
      rw [bL_W, bL_qo, bL_po, if_neg (by omega), if_neg (by omega), if_neg (by omega)]
      exact h5 i a (by omega) c d
  · simp (disch := omega) only [zl_0, zl_1, zl_2, zl_3, zl_4, zl_5, zl_6, zl_7, zl_8, zl_9, zl_10, zl_11, zl_12, zl_13, zl_14, zl_15, zl_16, zl_17, zl_18, zl_19, zl_20, zl_21, zl_22, zl_23, zl_24, zl_25, zl_26, zl_27, zl_28, zl_29, zl_30, zl_31, zl_32, zl_33, zl_34, zl_35, zl_36, zl_37, zl_38, zl_39, zl_40, zl_41, zl_42, zl_43, zl_44, zl_45, zl_46, zl_47, zl_48, zl_49, zl_50, zl_51, zl_52, zl_53, zl_54, zl_55, zl_56, zl_57, zl_58, zl_59, zl_60, zl_61, zl_62, zl_63, zl_64, zl_65, zl_66, zl_80, zl_97, zl_99, zl_103, zl_107, zl_112, zl_115, zl_100, zl_180, zl_210, zl_238, zl_255, zl_256, zl_400, zl_1000, zl_1024, zl_1260, zl_2000, zl_7140, zl_7200, zl_18414, zl_65536, zl_131072, zl_9999, zl_999, zI_add, zI_sub, zI_mul, zI_neg, zI_lt, zI_le, zI_eq, zI_clamp, ck_z, ckp_z, qb_z, qb_z0, Option.bind_some, if_pos, if_neg, reduceIte, reduceCtorEq, Bool.false_eq_true, Bool.true_eq_false]
    refine ⟨_, rfl, ⟨rfl, rfl, rfl, rfl, rfl, rfl⟩, h2, hcell, fun i a b c => ?_, fun i a b c d => ?_⟩
    · have b : i < fT Φ + 1 := b
      show upd kinds (fT Φ).toNat (zI k) i.toNat = _
      rw [upd_z _ _ (by omega) a, bL_K]
      by_cases n : i = fT Φ
      · rw [if_pos n, if_pos n]
      · rw [if_neg n, if_neg n]
        exact h4 i a (by omega) c
    · have b : i < fT Φ + 1 := b
      show upd words (fT Φ).toNat (zI w) i.toNat = _ ∧ upd quireOf (fT Φ).toNat (zI (fQ Φ - 1)) i.toNat = _ ∧ upd placeOf (fT Φ).toNat (zI (l + 1)) i.toNat = _
      rw [upd_z _ _ (by omega) a, upd_z _ _ (by omega) a, upd_z _ _ (by omega) a, bL_W, bL_qo, bL_po]
      rw [bL_K] at d
      by_cases n : i = fT Φ
      · rw [if_pos n, if_pos n, if_pos n, if_pos n, if_pos n, if_pos n]
        exact ⟨rfl, rfl, rfl⟩
      · rw [if_neg n] at d
        rw [if_neg n, if_neg n, if_neg n, if_neg n, if_neg n, if_neg n]
        exact h5 i a (by omega) c d
end BD

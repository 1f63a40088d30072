/-- the end of a run that does not hang -/
def lend (κ : Int → Int) (n : Int) : Nat → Int → Int
  | 0, k => k
  | d + 1, k => if k < n ∧ ¬ (κ k = 1 ∨ κ k = 2) then lend κ n d (k + 1) else k
def lr (κ : Int → Int) (n : Int) : Nat → Int → Fold → Fold
  | 0, _, Φ => Φ
  | d + 1, k, Φ => if k < n ∧ ¬ (κ k = 1 ∨ κ k = 2) then lr κ n d (k + 1) (bT Φ (κ k)) else Φ
theorem lend_b (κ : Int → Int) (n : Int) : ∀ (d : Nat) (k : Int), k ≤ lend κ n d k ∧ lend κ n d k ≤ k + d ∧ ∀ i, k ≤ i → i < lend κ n d k → ¬ Hg (κ i) ∧ i < n
  | 0, k => ⟨by simp only [lend]; omega, by simp only [lend]; omega, fun i a b => by simp only [lend] at b; omega⟩
  | d + 1, k => by
    have ih := lend_b κ n d (k + 1)
    by_cases h : k < n ∧ ¬ (κ k = 1 ∨ κ k = 2)
    · simp only [lend, if_pos h]
      refine ⟨by omega, by omega, fun i a b => ?_⟩
      by_cases e : i = k
      · subst e
        exact ⟨h.2, h.1⟩
      · exact ih.2.2 i (by omega) b
    · simp only [lend, if_neg h]
      exact ⟨by omega, by omega, fun i a b => by omega⟩
/-- and behind it one hangs, or all are through -/
theorem lend_s (κ : Int → Int) (n : Int) : ∀ (d : Nat) (k : Int), k + d = n → lend κ n d k = n ∨ Hg (κ (lend κ n d k))
  | 0, k, h => Or.inl (by simp only [lend]; omega)
  | d + 1, k, h => by
    have ih := lend_s κ n d (k + 1) (by omega)
    by_cases h1 : k < n ∧ ¬ (κ k = 1 ∨ κ k = 2)
    · simp only [lend, if_pos h1]
      exact ih
    · simp only [lend, if_neg h1]
      refine Or.inr ?_
      have : ¬ ¬ (κ k = 1 ∨ κ k = 2) := fun c => h1 ⟨by omega, c⟩
      exact Classical.not_not.mp this
theorem lr_T (κ : Int → Int) (n : Int) : ∀ (d : Nat) (k : Int) (Φ : Fold), fT (lr κ n d k Φ) = fT Φ + (lend κ n d k - k)
  | 0, k, Φ => by simp only [lr, lend]; omega
  | d + 1, k, Φ => by
    by_cases h : k < n ∧ ¬ (κ k = 1 ∨ κ k = 2)
    · simp only [lr, lend, if_pos h]
      rw [lr_T κ n d (k + 1), show fT (bT Φ (κ k)) = fT Φ + 1 from rfl]
      omega
    · simp only [lr, lend, if_neg h]
      omega
theorem lr_o (κ : Int → Int) (n : Int) : ∀ (d : Nat) (k : Int) (Φ : Fold), (∀ m a b, m ≠ 1 → m ≠ 7 → lr κ n d k Φ m a b = Φ m a b) ∧ (∀ i, i < fT Φ → fK (lr κ n d k Φ) i = fK Φ i) ∧ (∀ i, fT Φ ≤ i → i < fT Φ + (lend κ n d k - k) → fK (lr κ n d k Φ) i = κ (k + (i - fT Φ)))
  | 0, k, Φ => ⟨fun _ _ _ _ _ => rfl, fun _ _ => rfl, fun i a b => by simp only [lend] at b; omega⟩
  | d + 1, k, Φ => by
    by_cases h : k < n ∧ ¬ (κ k = 1 ∨ κ k = 2)
    · simp only [lr, lend, if_pos h]
      obtain ⟨i1, i2, i3⟩ := lr_o κ n d (k + 1) (bT Φ (κ k))
      have eT : fT (bT Φ (κ k)) = fT Φ + 1 := rfl
      refine ⟨fun m a b h1 h7 => ?_, fun i hi => ?_, fun i a b => ?_⟩
      · rw [i1 m a b h1 h7]
        unfold bT
        rw [if_neg h1, if_neg (fun c => h7 c.1)]
      · rw [i2 i (by omega), bT_K, if_neg (by omega)]
      · by_cases e : i = fT Φ
        · rw [i2 i (by omega), bT_K, if_pos e]
          congr 1
          omega
        · rw [i3 i (by omega) (by omega)]
          congr 1
          omega
    · simp only [lr, lend, if_neg h]
      exact ⟨fun _ _ _ _ _ => trivial, fun _ _ => trivial, fun i a b => by omega⟩
section LR
variable {l : Int} {quires things ghosts letter page laid : Int32} {sizes cells kinds words quireOf placeOf : Nat → Int32} {mthings mquires firstLetter firstPage sizeOf placed kindOf catchOf isThere : Nat → Int32}
theorem PW_lr (κ : Int → Int) (n : Int) (hκ : ∀ i, 0 ≤ i → i < n → 1 ≤ κ i ∧ κ i ≤ 5) : ∀ (d : Nat) (k : Int) (Φ : Fold), 0 ≤ k → PW Φ l → PW (lr κ n d k Φ) l
  | 0, _, _, _, h => h
  | d + 1, k, Φ, hk, h => by
    by_cases h1 : k < n ∧ ¬ (κ k = 1 ∨ κ k = 2)
    · simp only [lr, if_pos h1]
      exact PW_lr κ n hκ d (k + 1) _ (by omega) (PW_bT h (hκ k hk h1.1) h1.2)
    · simp only [lr, if_neg h1]
      exact h
theorem addLoose_b7_z (κ : Int → Int) (n : Int) (hn : n ≤ 30) (src : Nat → Int32) (hs : ∀ i, 0 ≤ i → i < n → src i.toNat = zI (κ i)) (hκ : ∀ i, 0 ≤ i → i < n → 1 ≤ κ i ∧ κ i ≤ 5) : ∀ (d m : Nat) (k : Int) (Φ : Fold) (things : Int32) (kinds : Nat → Int32), k + d = n → 0 ≤ k → d < m → fT Φ + d < 1000 → PW Φ l → PC Φ l quires things ghosts letter page laid sizes cells kinds words quireOf placeOf → ∃ c, F_X0_addLoose_b7 src m things kinds (zI n) (zI k) = some c ∧ c.1 = zI (lend κ n d k) ∧ PW (lr κ n d k Φ) l ∧ PC (lr κ n d k Φ) l quires c.2.1 ghosts letter page laid sizes cells c.2.2 words quireOf placeOf
  | 0, m + 1, k, Φ, things, kinds, hk, hk0, hm, hT, hw, hc => by
    unfold F_X0_addLoose_b7
    simp (disch := omega) only [zl_0, zl_1, zl_2, zl_3, zl_4, zl_5, zl_6, zl_7, zl_8, zl_9, zl_10, zl_11, zl_12, zl_13, zl_14, zl_15, zl_16, zl_17, zl_18, zl_19, zl_20, zl_21, zl_22, zl_23, zl_24, zl_25, zl_26, zl_27, zl_28, zl_29, zl_30, zl_31, zl_32, zl_33, zl_34, zl_35, zl_36, zl_37, zl_38, zl_39, zl_40, zl_41, zl_42, zl_43, zl_44, zl_45, zl_46, zl_47, zl_48, zl_49, zl_50, zl_51, zl_52, zl_53, zl_54, zl_55, zl_56, zl_57, zl_58, zl_59, zl_60, zl_61, zl_62, zl_63, zl_64, zl_65, zl_66, zl_80, zl_97, zl_99, zl_103, zl_107, zl_112, zl_115, zl_100, zl_180, zl_210, zl_238, zl_255, zl_256, zl_400, zl_1000, zl_1024, zl_1260, zl_2000, zl_7140, zl_7200, zl_18414, zl_65536, zl_131072, zl_9999, zl_999, zI_add, zI_sub, zI_mul, zI_neg, zI_lt, zI_le, zI_eq, zI_clamp, ck_z, ckp_z, qb_z, qb_z0, Option.bind_some, if_pos, if_neg, reduceIte, reduceCtorEq, Bool.false_eq_true, Bool.true_eq_false]
    exact ⟨_, rfl, rfl, hw, hc⟩
  | d + 1, m + 1, k, Φ, things, kinds, hk, hk0, hm, hT, hw, hc => by
    have hk1 := hκ k hk0 (by omega)
    have hk2 := hs k hk0 (by omega)
    unfold F_X0_addLoose_b7
    by_cases h : k < n ∧ ¬ (κ k = 1 ∨ κ k = 2)
    · obtain ⟨c, e, hc2⟩ := addThing_z hw hc (κ k) h.2 (by omega)
      have ih := addLoose_b7_z κ n hn src hs hκ d m (k + 1) (bT Φ (κ k)) c.1 c.2 (by omega) (by omega) (by omega) (by have : fT (bT Φ (κ k)) = fT Φ + 1 := rfl; omega) (PW_bT hw hk1 h.2) hc2
      simp only [lr, lend, if_pos h]
      have hh : F_X7_isHanging (zI (κ k)) = some false := by rw [hanging_z _ (by omega) (by omega), decide_eq_false h.2]
      simp (disch := omega) only [zl_0, zl_1, zl_2, zl_3, zl_4, zl_5, zl_6, zl_7, zl_8, zl_9, zl_10, zl_11, zl_12, zl_13, zl_14, zl_15, zl_16, zl_17, zl_18, zl_19, zl_20, zl_21, zl_22, zl_23, zl_24, zl_25, zl_26, zl_27, zl_28, zl_29, zl_30, zl_31, zl_32, zl_33, zl_34, zl_35, zl_36, zl_37, zl_38, zl_39, zl_40, zl_41, zl_42, zl_43, zl_44, zl_45, zl_46, zl_47, zl_48, zl_49, zl_50, zl_51, zl_52, zl_53, zl_54, zl_55, zl_56, zl_57, zl_58, zl_59, zl_60, zl_61, zl_62, zl_63, zl_64, zl_65, zl_66, zl_80, zl_97, zl_99, zl_103, zl_107, zl_112, zl_115, zl_100, zl_180, zl_210, zl_238, zl_255, zl_256, zl_400, zl_1000, zl_1024, zl_1260, zl_2000, zl_7140, zl_7200, zl_18414, zl_65536, zl_131072, zl_9999, zl_999, zI_add, zI_sub, zI_mul, zI_neg, zI_lt, zI_le, zI_eq, zI_clamp, ck_z, ckp_z, qb_z, qb_z0, Option.bind_some, if_pos, if_neg, reduceIte, reduceCtorEq, Bool.false_eq_true, Bool.true_eq_false, hk2, hh, e]
      exact ih
    · simp only [lr, lend, if_neg h]
      have h3 : κ k = 1 ∨ κ k = 2 := by omega
      have hh : F_X7_isHanging (zI (κ k)) = some true := by rw [hanging_z _ (by omega) (by omega), decide_eq_true h3]
      simp (disch := omega) only [zl_0, zl_1, zl_2, zl_3, zl_4, zl_5, zl_6, zl_7, zl_8, zl_9, zl_10, zl_11, zl_12, zl_13, zl_14, zl_15, zl_16, zl_17, zl_18, zl_19, zl_20, zl_21, zl_22, zl_23, zl_24, zl_25, zl_26, zl_27, zl_28, zl_29, zl_30, zl_31, zl_32, zl_33, zl_34, zl_35, zl_36, zl_37, zl_38, zl_39, zl_40, zl_41, zl_42, zl_43, zl_44, zl_45, zl_46, zl_47, zl_48, zl_49, zl_50, zl_51, zl_52, zl_53, zl_54, zl_55, zl_56, zl_57, zl_58, zl_59, zl_60, zl_61, zl_62, zl_63, zl_64, zl_65, zl_66, zl_80, zl_97, zl_99, zl_103, zl_107, zl_112, zl_115, zl_100, zl_180, zl_210, zl_238, zl_255, zl_256, zl_400, zl_1000, zl_1024, zl_1260, zl_2000, zl_7140, zl_7200, zl_18414, zl_65536, zl_131072, zl_9999, zl_999, zI_add, zI_sub, zI_mul, zI_neg, zI_lt, zI_le, zI_eq, zI_clamp, ck_z, ckp_z, qb_z, qb_z0, Option.bind_some, if_pos, if_neg, reduceIte, reduceCtorEq, Bool.false_eq_true, Bool.true_eq_false, hk2, hh]
      exact ⟨_, rfl, rfl, hw, hc⟩
theorem addLoose_z (κ : Int → Int) (n k : Int) (hn : n ≤ 30) (src : Nat → Int32) (hs : ∀ i, 0 ≤ i → i < n → src i.toNat = zI (κ i)) (hκ : ∀ i, 0 ≤ i → i < n → 1 ≤ κ i ∧ κ i ≤ 5) {Φ : Fold} (hk0 : 0 ≤ k) (hk : k ≤ n) (hT : fT Φ < 900) (hw : PW Φ l) (hc : PC Φ l quires things ghosts letter page laid sizes cells kinds words quireOf placeOf) : ∃ c, F_X0_addLoose things kinds src (zI n) (zI k) = some c ∧ c.1 = zI (lend κ n (n - k).toNat k) ∧ PW (lr κ n (n - k).toNat k Φ) l ∧ PC (lr κ n (n - k).toNat k Φ) l quires c.2.1 ghosts letter page laid sizes cells c.2.2 words quireOf placeOf := by
  unfold F_X0_addLoose
  have e : (if zI k < 0 then (0 : Int32) else zI k) = zI k := by
    rw [if_neg]
    simp (disch := omega) only [zl_0, zl_1, zl_2, zl_3, zl_4, zl_5, zl_6, zl_7, zl_8, zl_9, zl_10, zl_11, zl_12, zl_13, zl_14, zl_15, zl_16, zl_17, zl_18, zl_19, zl_20, zl_21, zl_22, zl_23, zl_24, zl_25, zl_26, zl_27, zl_28, zl_29, zl_30, zl_31, zl_32, zl_33, zl_34, zl_35, zl_36, zl_37, zl_38, zl_39, zl_40, zl_41, zl_42, zl_43, zl_44, zl_45, zl_46, zl_47, zl_48, zl_49, zl_50, zl_51, zl_52, zl_53, zl_54, zl_55, zl_56, zl_57, zl_58, zl_59, zl_60, zl_61, zl_62, zl_63, zl_64, zl_65, zl_66, zl_80, zl_97, zl_99, zl_103, zl_107, zl_112, zl_115, zl_100, zl_180, zl_210, zl_238, zl_255, zl_256, zl_400, zl_1000, zl_1024, zl_1260, zl_2000, zl_7140, zl_7200, zl_18414, zl_65536, zl_131072, zl_9999, zl_999, zI_add, zI_sub, zI_mul, zI_neg, zI_lt, zI_le, zI_eq, zI_clamp, ck_z, ckp_z, qb_z, qb_z0, Option.bind_some]
    omega
  rw [e]
  exact addLoose_b7_z κ n hn src hs hκ (n - k).toNat FU k Φ things kinds (by omega) hk0 (by unfold FU; omega) (by omega) hw hc
/-- the model's own made one -/
def PK (Φ : Fold) (l : Int) (made : Int32) (madeKind madePlaced : Nat → Int32) : Prop :=
  made = zI (fT Φ) ∧ (∀ i, 0 ≤ i → i < fT Φ → madeKind i.toNat = zI (fK Φ i)) ∧ (∀ q p, 0 ≤ q → q < fQ Φ → 1 ≤ p → p ≤ fS Φ q → (q = fQ Φ - 1 → p ≤ l) → madePlaced (8 * q + p - 1).toNat = zI (fC Φ q p))
theorem makes_z {Φ : Fold} {made : Int32} {madeKind madePlaced : Nat → Int32} (hw : PW Φ l) (hc : PK Φ l made madeKind madePlaced) (k : Int) (hT : fT Φ < 200) : ∃ c, F_X8_makes made madeKind (zI k) = some c ∧ PK (bT Φ k) l c.1 c.2 madePlaced := by
  obtain ⟨rfl, h1, h2⟩ := hc
  have hr := hw.1
  unfold F_X8_makes
  simp (disch := omega) only [zl_0, zl_1, zl_2, zl_3, zl_4, zl_5, zl_6, zl_7, zl_8, zl_9, zl_10, zl_11, zl_12, zl_13, zl_14, zl_15, zl_16, zl_17, zl_18, zl_19, zl_20, zl_21, zl_22, zl_23, zl_24, zl_25, zl_26, zl_27, zl_28, zl_29, zl_30, zl_31, zl_32, zl_33, zl_34, zl_35, zl_36, zl_37, zl_38, zl_39, zl_40, zl_41, zl_42, zl_43, zl_44, zl_45, zl_46, zl_47, zl_48, zl_49, zl_50, zl_51, zl_52, zl_53, zl_54, zl_55, zl_56, zl_57, zl_58, zl_59, zl_60, zl_61, zl_62, zl_63, zl_64, zl_65, zl_66, zl_80, zl_97, zl_99, zl_103, zl_107, zl_112, zl_115, zl_100, zl_180, zl_210, zl_238, zl_255, zl_256, zl_400, zl_1000, zl_1024, zl_1260, zl_2000, zl_7140, zl_7200, zl_18414, zl_65536, zl_131072, zl_9999, zl_999, zI_add, zI_sub, zI_mul, zI_neg, zI_lt, zI_le, zI_eq, zI_clamp, ck_z, ckp_z, qb_z, qb_z0, Option.bind_some, if_pos, if_neg, reduceIte, reduceCtorEq, Bool.false_eq_true, Bool.true_eq_false]
  refine ⟨_, rfl, rfl, fun i a b => ?_, h2⟩
  have b : i < fT Φ + 1 := b
  show upd madeKind (fT Φ).toNat (zI k) i.toNat = _
  rw [upd_z _ _ (by omega) a, bT_K]
  by_cases n : i = fT Φ
  · rw [if_pos n, if_pos n]
  · rw [if_neg n, if_neg n]
    exact h1 i a (by omega)
theorem makesExtras_b4_z {Ξ : Fold} {f : Int} (hwx : FoldW Ξ) (hm : FoldM f Ξ mthings mquires firstLetter firstPage sizeOf placed kindOf catchOf) (hf : 0 ≤ f) (hf2 : f < 5) (x : Int) (hx : -1 ≤ x) (hx2 : x < fT Ξ) {madePlaced : Nat → Int32} : ∀ (d m : Nat) (k : Int) (Φ : Fold) (made : Int32) (madeKind : Nat → Int32), k + d = fT Ξ → 0 ≤ k → d < m → (k = x + 1 → x < 0 ∨ ¬ (0 ≤ x ∧ x + 1 < fT Ξ ∧ fK Ξ x = 2 ∧ fK Ξ (x + 1) = 4)) → x + 1 ≤ k → fT Φ + d ≤ 200 → PW Φ l → PK Φ l made madeKind madePlaced → ∃ c, F_X8_makesExtras_b4 mthings kindOf m made madeKind (zI f) (zI x) (zI k) = some c ∧ PW (lr (fK Ξ) (fT Ξ) d k Φ) l ∧ PK (lr (fK Ξ) (fT Ξ) d k Φ) l c.1 c.2 madePlaced
  | 0, m + 1, k, Φ, made, madeKind, hk, hk0, hmm, hx3, hxk, hT, hw, hc => by
    have hr := hwx.1
    have hTt := hm.1.2.1
    unfold F_X8_makesExtras_b4
    simp (disch := omega) only [zl_0, zl_1, zl_2, zl_3, zl_4, zl_5, zl_6, zl_7, zl_8, zl_9, zl_10, zl_11, zl_12, zl_13, zl_14, zl_15, zl_16, zl_17, zl_18, zl_19, zl_20, zl_21, zl_22, zl_23, zl_24, zl_25, zl_26, zl_27, zl_28, zl_29, zl_30, zl_31, zl_32, zl_33, zl_34, zl_35, zl_36, zl_37, zl_38, zl_39, zl_40, zl_41, zl_42, zl_43, zl_44, zl_45, zl_46, zl_47, zl_48, zl_49, zl_50, zl_51, zl_52, zl_53, zl_54, zl_55, zl_56, zl_57, zl_58, zl_59, zl_60, zl_61, zl_62, zl_63, zl_64, zl_65, zl_66, zl_80, zl_97, zl_99, zl_103, zl_107, zl_112, zl_115, zl_100, zl_180, zl_210, zl_238, zl_255, zl_256, zl_400, zl_1000, zl_1024, zl_1260, zl_2000, zl_7140, zl_7200, zl_18414, zl_65536, zl_131072, zl_9999, zl_999, zI_add, zI_sub, zI_mul, zI_neg, zI_lt, zI_le, zI_eq, zI_clamp, ck_z, ckp_z, qb_z, qb_z0, Option.bind_some, if_pos, if_neg, reduceIte, reduceCtorEq, Bool.false_eq_true, Bool.true_eq_false, hTt]
    exact ⟨_, rfl, hw, hc⟩
  | d + 1, m + 1, k, Φ, made, madeKind, hk, hk0, hmm, hx3, hxk, hT, hw, hc => by
    have hr := hwx.1
    have hTt := hm.1.2.1
    have hk1 := hwx.2.2.2.1 k hk0 (by omega)
    have hk2 := hm.2.2.2.1 k hk0 (by omega)
    unfold F_X8_makesExtras_b4
    by_cases h : k < fT Ξ ∧ ¬ (fK Ξ k = 1 ∨ fK Ξ k = 2)
    · obtain ⟨c, e, hc2⟩ := makes_z hw hc (fK Ξ k) (by omega)
      have ih := makesExtras_b4_z hwx hm hf hf2 x hx hx2 d m (k + 1) (bT Φ (fK Ξ k)) c.1 c.2 (by omega) (by omega) (by omega) (by omega) (by omega) (by have : fT (bT Φ (fK Ξ k)) = fT Φ + 1 := rfl; omega) (PW_bT hw ⟨hk1.1, hk1.2.1⟩ h.2) hc2
      simp only [lr, if_pos h, F_X8_makesExtras_b52]
      have hh : F_X8_isHanging (zI (fK Ξ k)) = some false := by rw [hangingM_z _ (by omega) (by omega), decide_eq_false h.2]
      by_cases e1 : k = x + 1
      · by_cases e2 : x < 0
        · simp (disch := omega) only [zl_0, zl_1, zl_2, zl_3, zl_4, zl_5, zl_6, zl_7, zl_8, zl_9, zl_10, zl_11, zl_12, zl_13, zl_14, zl_15, zl_16, zl_17, zl_18, zl_19, zl_20, zl_21, zl_22, zl_23, zl_24, zl_25, zl_26, zl_27, zl_28, zl_29, zl_30, zl_31, zl_32, zl_33, zl_34, zl_35, zl_36, zl_37, zl_38, zl_39, zl_40, zl_41, zl_42, zl_43, zl_44, zl_45, zl_46, zl_47, zl_48, zl_49, zl_50, zl_51, zl_52, zl_53, zl_54, zl_55, zl_56, zl_57, zl_58, zl_59, zl_60, zl_61, zl_62, zl_63, zl_64, zl_65, zl_66, zl_80, zl_97, zl_99, zl_103, zl_107, zl_112, zl_115, zl_100, zl_180, zl_210, zl_238, zl_255, zl_256, zl_400, zl_1000, zl_1024, zl_1260, zl_2000, zl_7140, zl_7200, zl_18414, zl_65536, zl_131072, zl_9999, zl_999, zI_add, zI_sub, zI_mul, zI_neg, zI_lt, zI_le, zI_eq, zI_clamp, ck_z, ckp_z, qb_z, qb_z0, Option.bind_some, if_pos, if_neg, reduceIte, reduceCtorEq, Bool.false_eq_true, Bool.true_eq_false, hTt, hk2, hh, e]
          exact ih
        · have hcc := isCancM_z hwx hm hf hf2 x (by omega) hx2
          rw [decide_eq_false (by have := hx3 e1; omega)] at hcc
          simp (disch := omega) only [zl_0, zl_1, zl_2, zl_3, zl_4, zl_5, zl_6, zl_7, zl_8, zl_9, zl_10, zl_11, zl_12, zl_13, zl_14, zl_15, zl_16, zl_17, zl_18, zl_19, zl_20, zl_21, zl_22, zl_23, zl_24, zl_25, zl_26, zl_27, zl_28, zl_29, zl_30, zl_31, zl_32, zl_33, zl_34, zl_35, zl_36, zl_37, zl_38, zl_39, zl_40, zl_41, zl_42, zl_43, zl_44, zl_45, zl_46, zl_47, zl_48, zl_49, zl_50, zl_51, zl_52, zl_53, zl_54, zl_55, zl_56, zl_57, zl_58, zl_59, zl_60, zl_61, zl_62, zl_63, zl_64, zl_65, zl_66, zl_80, zl_97, zl_99, zl_103, zl_107, zl_112, zl_115, zl_100, zl_180, zl_210, zl_238, zl_255, zl_256, zl_400, zl_1000, zl_1024, zl_1260, zl_2000, zl_7140, zl_7200, zl_18414, zl_65536, zl_131072, zl_9999, zl_999, zI_add, zI_sub, zI_mul, zI_neg, zI_lt, zI_le, zI_eq, zI_clamp, ck_z, ckp_z, qb_z, qb_z0, Option.bind_some, if_pos, if_neg, reduceIte, reduceCtorEq, Bool.false_eq_true, Bool.true_eq_false, hTt, hk2, hh, e, hcc]
          exact ih
      · simp (disch := omega) only [zl_0, zl_1, zl_2, zl_3, zl_4, zl_5, zl_6, zl_7, zl_8, zl_9, zl_10, zl_11, zl_12, zl_13, zl_14, zl_15, zl_16, zl_17, zl_18, zl_19, zl_20, zl_21, zl_22, zl_23, zl_24, zl_25, zl_26, zl_27, zl_28, zl_29, zl_30, zl_31, zl_32, zl_33, zl_34, zl_35, zl_36, zl_37, zl_38, zl_39, zl_40, zl_41, zl_42, zl_43, zl_44, zl_45, zl_46, zl_47, zl_48, zl_49, zl_50, zl_51, zl_52, zl_53, zl_54, zl_55, zl_56, zl_57, zl_58, zl_59, zl_60, zl_61, zl_62, zl_63, zl_64, zl_65, zl_66, zl_80, zl_97, zl_99, zl_103, zl_107, zl_112, zl_115, zl_100, zl_180, zl_210, zl_238, zl_255, zl_256, zl_400, zl_1000, zl_1024, zl_1260, zl_2000, zl_7140, zl_7200, zl_18414, zl_65536, zl_131072, zl_9999, zl_999, zI_add, zI_sub, zI_mul, zI_neg, zI_lt, zI_le, zI_eq, zI_clamp, ck_z, ckp_z, qb_z, qb_z0, Option.bind_some, if_pos, if_neg, reduceIte, reduceCtorEq, Bool.false_eq_true, Bool.true_eq_false, hTt, hk2, hh, e]
        exact ih
    · simp only [lr, if_neg h]
      have h3 : fK Ξ k = 1 ∨ fK Ξ k = 2 := by omega
      have hh : F_X8_isHanging (zI (fK Ξ k)) = some true := by rw [hangingM_z _ (by omega) (by omega), decide_eq_true h3]
      simp (disch := omega) only [zl_0, zl_1, zl_2, zl_3, zl_4, zl_5, zl_6, zl_7, zl_8, zl_9, zl_10, zl_11, zl_12, zl_13, zl_14, zl_15, zl_16, zl_17, zl_18, zl_19, zl_20, zl_21, zl_22, zl_23, zl_24, zl_25, zl_26, zl_27, zl_28, zl_29, zl_30, zl_31, zl_32, zl_33, zl_34, zl_35, zl_36, zl_37, zl_38, zl_39, zl_40, zl_41, zl_42, zl_43, zl_44, zl_45, zl_46, zl_47, zl_48, zl_49, zl_50, zl_51, zl_52, zl_53, zl_54, zl_55, zl_56, zl_57, zl_58, zl_59, zl_60, zl_61, zl_62, zl_63, zl_64, zl_65, zl_66, zl_80, zl_97, zl_99, zl_103, zl_107, zl_112, zl_115, zl_100, zl_180, zl_210, zl_238, zl_255, zl_256, zl_400, zl_1000, zl_1024, zl_1260, zl_2000, zl_7140, zl_7200, zl_18414, zl_65536, zl_131072, zl_9999, zl_999, zI_add, zI_sub, zI_mul, zI_neg, zI_lt, zI_le, zI_eq, zI_clamp, ck_z, ckp_z, qb_z, qb_z0, Option.bind_some, if_pos, if_neg, reduceIte, reduceCtorEq, Bool.false_eq_true, Bool.true_eq_false, hTt, hk2, hh]
      exact ⟨_, rfl, hw, hc⟩
/-- behind a thing, but for its cancel -/
def beh (Ξ : Fold) (i : Int) : Int := if 0 ≤ i ∧ i + 1 < fT Ξ ∧ fK Ξ i = 2 ∧ fK Ξ (i + 1) = 4 then i + 2 else i + 1
theorem beh_b {Ξ : Fold} (i : Int) (hi2 : i < fT Ξ) : i + 1 ≤ beh Ξ i ∧ beh Ξ i ≤ fT Ξ := by
  unfold beh
  split <;> omega
theorem makesExtras_z {Ξ Φ : Fold} {f : Int} (hwx : FoldW Ξ) (hm : FoldM f Ξ mthings mquires firstLetter firstPage sizeOf placed kindOf catchOf) (hf : 0 ≤ f) (hf2 : f < 5) (x : Int) (hx : -1 ≤ x) (hx2 : x < fT Ξ) {madePlaced : Nat → Int32} {made : Int32} {madeKind : Nat → Int32} (hT : fT Φ ≤ 170) (hw : PW Φ l) (hc : PK Φ l made madeKind madePlaced) : ∃ c, F_X8_makesExtras mthings kindOf made madeKind (zI f) (zI x) = some c ∧ PW (lr (fK Ξ) (fT Ξ) (fT Ξ - beh Ξ x).toNat (beh Ξ x) Φ) l ∧ PK (lr (fK Ξ) (fT Ξ) (fT Ξ - beh Ξ x).toNat (beh Ξ x) Φ) l c.1 c.2 madePlaced := by
  have hr := hwx.1
  unfold F_X8_makesExtras
  simp (disch := omega) only [zl_0, zl_1, zl_2, zl_3, zl_4, zl_5, zl_6, zl_7, zl_8, zl_9, zl_10, zl_11, zl_12, zl_13, zl_14, zl_15, zl_16, zl_17, zl_18, zl_19, zl_20, zl_21, zl_22, zl_23, zl_24, zl_25, zl_26, zl_27, zl_28, zl_29, zl_30, zl_31, zl_32, zl_33, zl_34, zl_35, zl_36, zl_37, zl_38, zl_39, zl_40, zl_41, zl_42, zl_43, zl_44, zl_45, zl_46, zl_47, zl_48, zl_49, zl_50, zl_51, zl_52, zl_53, zl_54, zl_55, zl_56, zl_57, zl_58, zl_59, zl_60, zl_61, zl_62, zl_63, zl_64, zl_65, zl_66, zl_80, zl_97, zl_99, zl_103, zl_107, zl_112, zl_115, zl_100, zl_180, zl_210, zl_238, zl_255, zl_256, zl_400, zl_1000, zl_1024, zl_1260, zl_2000, zl_7140, zl_7200, zl_18414, zl_65536, zl_131072, zl_9999, zl_999, zI_add, zI_sub, zI_mul, zI_neg, zI_lt, zI_le, zI_eq, zI_clamp, ck_z, ckp_z, qb_z, qb_z0, Option.bind_some]
  by_cases h : 0 ≤ x ∧ x + 1 < fT Ξ ∧ fK Ξ x = 2 ∧ fK Ξ (x + 1) = 4
  · have eb : beh Ξ x = x + 2 := by unfold beh; rw [if_pos h]
    rw [eb]
    have ih := makesExtras_b4_z hwx hm hf hf2 x hx hx2 (fT Ξ - (x + 2)).toNat 1048575 (x + 2) Φ made madeKind (by omega) (by omega) (by omega) (by omega) (by omega) (by omega) hw hc
    have hTt := hm.1.2.1
    have hk2 := hm.2.2.2.1 (x + 1) (by omega) (by omega)
    have hcc := isCancM_z hwx hm hf hf2 x (by omega) hx2
    rw [decide_eq_true h] at hcc
    have hh : F_X8_isHanging (zI (fK Ξ (x + 1))) = some false := by rw [hangingM_z _ (by omega) (by omega), decide_eq_false (by omega)]
    show ∃ c, F_X8_makesExtras_b4 mthings kindOf (1048575 + 1) made madeKind (zI f) (zI x) (zI (x + 1)) = some c ∧ _
    rw [show x + 2 = x + 1 + 1 by omega] at ih
    unfold F_X8_makesExtras_b4
    simp (disch := omega) only [zl_0, zl_1, zl_2, zl_3, zl_4, zl_5, zl_6, zl_7, zl_8, zl_9, zl_10, zl_11, zl_12, zl_13, zl_14, zl_15, zl_16, zl_17, zl_18, zl_19, zl_20, zl_21, zl_22, zl_23, zl_24, zl_25, zl_26, zl_27, zl_28, zl_29, zl_30, zl_31, zl_32, zl_33, zl_34, zl_35, zl_36, zl_37, zl_38, zl_39, zl_40, zl_41, zl_42, zl_43, zl_44, zl_45, zl_46, zl_47, zl_48, zl_49, zl_50, zl_51, zl_52, zl_53, zl_54, zl_55, zl_56, zl_57, zl_58, zl_59, zl_60, zl_61, zl_62, zl_63, zl_64, zl_65, zl_66, zl_80, zl_97, zl_99, zl_103, zl_107, zl_112, zl_115, zl_100, zl_180, zl_210, zl_238, zl_255, zl_256, zl_400, zl_1000, zl_1024, zl_1260, zl_2000, zl_7140, zl_7200, zl_18414, zl_65536, zl_131072, zl_9999, zl_999, zI_add, zI_sub, zI_mul, zI_neg, zI_lt, zI_le, zI_eq, zI_clamp, ck_z, ckp_z, qb_z, qb_z0, Option.bind_some, if_pos, if_neg, reduceIte, reduceCtorEq, Bool.false_eq_true, Bool.true_eq_false, hTt, hk2, hh, hcc]
    rw [show x + 2 = x + 1 + 1 by omega]
    exact ih
  · have eb : beh Ξ x = x + 1 := by unfold beh; rw [if_neg h]
    rw [eb]
    exact makesExtras_b4_z hwx hm hf hf2 x hx hx2 (fT Ξ - (x + 1)).toNat FU (x + 1) Φ made madeKind (by omega) (by omega) (by unfold FU; omega) (fun _ => Or.inr h) (by omega) (by omega) hw hc
end LR

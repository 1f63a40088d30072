/-! foldings: one picture for class and model -/
abbrev Fold : Type := Nat → Int → Int → Int
def fQ (Φ : Fold) : Int := Φ 0 0 0
def fT (Φ : Fold) : Int := Φ 1 0 0
def fG (Φ : Fold) : Int := Φ 2 0 0
def fL (Φ : Fold) : Int := Φ 3 0 0
def fP (Φ : Fold) : Int := Φ 4 0 0
def fS (Φ : Fold) (q : Int) : Int := Φ 5 q 0
def fC (Φ : Fold) (q p : Int) : Int := Φ 6 q p
def fK (Φ : Fold) (i : Int) : Int := Φ 7 i 0
def fW (Φ : Fold) (i : Int) : Int := Φ 8 i 0
def fqo (Φ : Fold) (i : Int) : Int := Φ 9 i 0
def fpo (Φ : Fold) (i : Int) : Int := Φ 10 i 0
abbrev Hg (k : Int) : Prop := k = 1 ∨ k = 2
/-- places ahead of quire q -/
def fA (Φ : Fold) : Nat → Int
  | 0 => 0
  | n + 1 => fA Φ n + fS Φ n
/-- ghosts in the first p places of a quire -/
def fgp (Φ : Fold) (q : Int) : Nat → Int
  | 0 => 0
  | n + 1 => fgp Φ q n + (if fC Φ q (n + 1) = -2 then 1 else 0)
def fgq (Φ : Fold) : Nat → Int
  | 0 => 0
  | n + 1 => fgq Φ n + fgp Φ n (fS Φ n).toNat
def FoldW (Φ : Fold) : Prop :=
  (0 ≤ fQ Φ ∧ fQ Φ ≤ 8 ∧ 0 ≤ fT Φ ∧ fT Φ ≤ 30 ∧ 0 ≤ fP Φ ∧ fP Φ ≤ 999 ∧ 0 ≤ fL Φ ∧ fL Φ + fQ Φ ≤ 47 ∧ (0 < fQ Φ → 1 ≤ fL Φ)) ∧
  (∀ q, 0 ≤ q → q < fQ Φ → 2 ≤ fS Φ q ∧ fS Φ q ≤ 8 ∧ fS Φ q % 2 = 0) ∧
  (∀ q p, 0 ≤ q → q < fQ Φ → 1 ≤ p → p ≤ fS Φ q → fC Φ q p = -2 ∨ (0 ≤ fC Φ q p ∧ fC Φ q p < fT Φ ∧ Hg (fK Φ (fC Φ q p)) ∧ fqo Φ (fC Φ q p) = q ∧ fpo Φ (fC Φ q p) = p)) ∧
  (∀ i, 0 ≤ i → i < fT Φ → 1 ≤ fK Φ i ∧ fK Φ i ≤ 5 ∧ (Hg (fK Φ i) → 0 ≤ fqo Φ i ∧ fqo Φ i < fQ Φ ∧ 1 ≤ fpo Φ i ∧ fpo Φ i ≤ fS Φ (fqo Φ i) ∧ fC Φ (fqo Φ i) (fpo Φ i) = i)) ∧
  (∀ i i', 0 ≤ i → i < i' → i' < fT Φ → Hg (fK Φ i) → Hg (fK Φ i') → 8 * fqo Φ i + fpo Φ i < 8 * fqo Φ i' + fpo Φ i') ∧
  fG Φ = fgq Φ (fQ Φ).toNat
def FoldC (Φ : Fold) (quires things ghosts letter page : Int32) (sizes cells kinds words quireOf placeOf : Nat → Int32) : Prop :=
  (quires = zI (fQ Φ) ∧ things = zI (fT Φ) ∧ ghosts = zI (fG Φ) ∧ letter = zI (fL Φ) ∧ page = zI (fP Φ)) ∧
  (∀ q, 0 ≤ q → q < fQ Φ → sizes q.toNat = zI (fS Φ q)) ∧
  (∀ q p, 0 ≤ q → q < fQ Φ → 1 ≤ p → p ≤ fS Φ q → cells (q * 8 + p - 1).toNat = zI (fC Φ q p)) ∧
  (∀ i, 0 ≤ i → i < fT Φ → kinds i.toNat = zI (fK Φ i)) ∧
  (∀ i, 0 ≤ i → i < fT Φ → Hg (fK Φ i) → words i.toNat = zI (fW Φ i) ∧ quireOf i.toNat = zI (fqo Φ i) ∧ placeOf i.toNat = zI (fpo Φ i))
def FoldM (f : Int) (Φ : Fold) (things quires firstLetter firstPage sizeOf placed kindOf catchOf : Nat → Int32) : Prop :=
  (quires f.toNat = zI (fQ Φ) ∧ things f.toNat = zI (fT Φ) ∧ firstLetter f.toNat = zI (fL Φ) ∧ firstPage f.toNat = zI (fP Φ)) ∧
  (∀ q, 0 ≤ q → q < fQ Φ → sizeOf (8 * f + q).toNat = zI (fS Φ q)) ∧
  (∀ q p, 0 ≤ q → q < fQ Φ → 1 ≤ p → p ≤ fS Φ q → placed (64 * f + 8 * q + p - 1).toNat = zI (fC Φ q p)) ∧
  (∀ i, 0 ≤ i → i < fT Φ → kindOf (30 * f + i).toNat = zI (fK Φ i)) ∧
  (∀ i, 0 ≤ i → i < fT Φ → Hg (fK Φ i) → catchOf (30 * f + i).toNat = zI (fW Φ i))
theorem hanging_z (k : Int) (h1 : -2147483648 ≤ k) (h2 : k < 2147483648) : F_X7_isHanging (zI k) = some (decide (k = 1 ∨ k = 2)) := by
  unfold F_X7_isHanging
  simp (disch := omega) only [zl_0, zl_1, zl_2, zl_3, zl_4, zl_5, zl_6, zl_7, zl_8, zl_9, zl_10, zl_11, zl_12, zl_13, zl_14, zl_15, zl_16, zl_17, zl_18, zl_19, zl_20, zl_21, zl_22, zl_23, zl_24, zl_25, zl_26, zl_27, zl_28, zl_29, zl_30, zl_31, zl_32, zl_33, zl_34, zl_35, zl_36, zl_37, zl_38, zl_39, zl_40, zl_41, zl_42, zl_43, zl_44, zl_45, zl_46, zl_47, zl_48, zl_49, zl_50, zl_51, zl_52, zl_53, zl_54, zl_55, zl_56, zl_57, zl_58, zl_59, zl_60, zl_61, zl_62, zl_63, zl_64, zl_65, zl_66, zl_80, zl_97, zl_99, zl_103, zl_107, zl_112, zl_115, zl_100, zl_180, zl_210, zl_238, zl_255, zl_256, zl_400, zl_1000, zl_1024, zl_1260, zl_2000, zl_7140, zl_7200, zl_18414, zl_65536, zl_131072, zl_9999, zl_999, zI_add, zI_sub, zI_mul, zI_neg, zI_lt, zI_le, zI_eq, zI_clamp, ck_z, ckp_z, qb_z, qb_z0, Option.bind_some]
  by_cases h : k = 1 ∨ k = 2
  · rw [decide_eq_true h]; (repeat' split) <;> first | rfl | contradiction | (exfalso; omega)
  · rw [decide_eq_false h]; (repeat' split) <;> first | rfl | contradiction | (exfalso; omega)
theorem hangingM_z (k : Int) (h1 : -2147483648 ≤ k) (h2 : k < 2147483648) : F_X8_isHanging (zI k) = some (decide (k = 1 ∨ k = 2)) := by
  unfold F_X8_isHanging
  simp (disch := omega) only [zl_0, zl_1, zl_2, zl_3, zl_4, zl_5, zl_6, zl_7, zl_8, zl_9, zl_10, zl_11, zl_12, zl_13, zl_14, zl_15, zl_16, zl_17, zl_18, zl_19, zl_20, zl_21, zl_22, zl_23, zl_24, zl_25, zl_26, zl_27, zl_28, zl_29, zl_30, zl_31, zl_32, zl_33, zl_34, zl_35, zl_36, zl_37, zl_38, zl_39, zl_40, zl_41, zl_42, zl_43, zl_44, zl_45, zl_46, zl_47, zl_48, zl_49, zl_50, zl_51, zl_52, zl_53, zl_54, zl_55, zl_56, zl_57, zl_58, zl_59, zl_60, zl_61, zl_62, zl_63, zl_64, zl_65, zl_66, zl_80, zl_97, zl_99, zl_103, zl_107, zl_112, zl_115, zl_100, zl_180, zl_210, zl_238, zl_255, zl_256, zl_400, zl_1000, zl_1024, zl_1260, zl_2000, zl_7140, zl_7200, zl_18414, zl_65536, zl_131072, zl_9999, zl_999, zI_add, zI_sub, zI_mul, zI_neg, zI_lt, zI_le, zI_eq, zI_clamp, ck_z, ckp_z, qb_z, qb_z0, Option.bind_some]
  by_cases h : k = 1 ∨ k = 2
  · rw [decide_eq_true h]; (repeat' split) <;> first | rfl | contradiction | (exfalso; omega)
  · rw [decide_eq_false h]; (repeat' split) <;> first | rfl | contradiction | (exfalso; omega)
theorem hasQuire_z (Q q : Int) (hQ : 0 ≤ Q) (hQ2 : Q ≤ 8) (h1 : -2147483648 ≤ q) (h2 : q < 2147483648) : F_X0_hasQuire (zI Q) (zI q) = some (decide (0 ≤ q ∧ q < Q)) := by
  unfold F_X0_hasQuire
  simp (disch := omega) only [zl_0, zl_1, zl_2, zl_3, zl_4, zl_5, zl_6, zl_7, zl_8, zl_9, zl_10, zl_11, zl_12, zl_13, zl_14, zl_15, zl_16, zl_17, zl_18, zl_19, zl_20, zl_21, zl_22, zl_23, zl_24, zl_25, zl_26, zl_27, zl_28, zl_29, zl_30, zl_31, zl_32, zl_33, zl_34, zl_35, zl_36, zl_37, zl_38, zl_39, zl_40, zl_41, zl_42, zl_43, zl_44, zl_45, zl_46, zl_47, zl_48, zl_49, zl_50, zl_51, zl_52, zl_53, zl_54, zl_55, zl_56, zl_57, zl_58, zl_59, zl_60, zl_61, zl_62, zl_63, zl_64, zl_65, zl_66, zl_80, zl_97, zl_99, zl_103, zl_107, zl_112, zl_115, zl_100, zl_180, zl_210, zl_238, zl_255, zl_256, zl_400, zl_1000, zl_1024, zl_1260, zl_2000, zl_7140, zl_7200, zl_18414, zl_65536, zl_131072, zl_9999, zl_999, zI_add, zI_sub, zI_mul, zI_neg, zI_lt, zI_le, zI_eq, zI_clamp, ck_z, ckp_z, qb_z, qb_z0, Option.bind_some]
  by_cases h : 0 ≤ q ∧ q < Q
  · rw [decide_eq_true h]; (repeat' split) <;> first | rfl | contradiction | (exfalso; omega)
  · rw [decide_eq_false h]; (repeat' split) <;> first | rfl | contradiction | (exfalso; omega)
section FD
variable {Φ : Fold} {quires things ghosts letter page : Int32} {sizes cells kinds words quireOf placeOf : Nat → Int32} {f : Int} {mthings mquires firstLetter firstPage sizeOf placed kindOf catchOf : Nat → Int32}
theorem hasPlace_z (hw : FoldW Φ) (hc : FoldC Φ quires things ghosts letter page sizes cells kinds words quireOf placeOf) (q p : Int) (h1 : -2147483648 ≤ q) (h2 : q < 2147483648) (h3 : -2147483648 ≤ p) (h4 : p < 2147483648) : F_X0_hasPlace quires sizes (zI q) (zI p) = some (decide (0 ≤ q ∧ q < fQ Φ ∧ 1 ≤ p ∧ p ≤ fS Φ q)) := by
  obtain ⟨⟨rfl, rfl, rfl, rfl, rfl⟩, hs, -⟩ := hc
  obtain ⟨hr, hsz, -⟩ := hw
  unfold F_X0_hasPlace
  rw [hasQuire_z _ _ (by omega) (by omega) h1 h2, Option.bind_some]
  by_cases hq : 0 ≤ q ∧ q < fQ Φ
  · have h8 := hsz q hq.1 hq.2
    rw [decide_eq_true hq]
    simp (disch := omega) only [zl_0, zl_1, zl_2, zl_3, zl_4, zl_5, zl_6, zl_7, zl_8, zl_9, zl_10, zl_11, zl_12, zl_13, zl_14, zl_15, zl_16, zl_17, zl_18, zl_19, zl_20, zl_21, zl_22, zl_23, zl_24, zl_25, zl_26, zl_27, zl_28, zl_29, zl_30, zl_31, zl_32, zl_33, zl_34, zl_35, zl_36, zl_37, zl_38, zl_39, zl_40, zl_41, zl_42, zl_43, zl_44, zl_45, zl_46, zl_47, zl_48, zl_49, zl_50, zl_51, zl_52, zl_53, zl_54, zl_55, zl_56, zl_57, zl_58, zl_59, zl_60, zl_61, zl_62, zl_63, zl_64, zl_65, zl_66, zl_80, zl_97, zl_99, zl_103, zl_107, zl_112, zl_115, zl_100, zl_180, zl_210, zl_238, zl_255, zl_256, zl_400, zl_1000, zl_1024, zl_1260, zl_2000, zl_7140, zl_7200, zl_18414, zl_65536, zl_131072, zl_9999, zl_999, zI_add, zI_sub, zI_mul, zI_neg, zI_lt, zI_le, zI_eq, zI_clamp, ck_z, ckp_z, qb_z, qb_z0, Option.bind_some, hs]
    by_cases h : 0 ≤ q ∧ q < fQ Φ ∧ 1 ≤ p ∧ p ≤ fS Φ q
    · rw [decide_eq_true h]; (repeat' split) <;> first | rfl | contradiction | (exfalso; omega)
    · rw [decide_eq_false h]; (repeat' split) <;> first | rfl | contradiction | (exfalso; omega)
  · rw [decide_eq_false hq, decide_eq_false (by omega)]
    rfl
theorem thingAt_z (hw : FoldW Φ) (hc : FoldC Φ quires things ghosts letter page sizes cells kinds words quireOf placeOf) (q p : Int) (h1 : -2147483648 ≤ q) (h2 : q < 2147483648) (h3 : -2147483648 ≤ p) (h4 : p < 2147483648) : F_X0_thingAt quires sizes cells (zI q) (zI p) = some (zI (if 0 ≤ q ∧ q < fQ Φ ∧ 1 ≤ p ∧ p ≤ fS Φ q then fC Φ q p else -1)) := by
  unfold F_X0_thingAt
  rw [hasPlace_z hw hc q p h1 h2 h3 h4, Option.bind_some]
  obtain ⟨-, hs, hce, -⟩ := hc
  obtain ⟨hr, hsz, -⟩ := hw
  by_cases h : 0 ≤ q ∧ q < fQ Φ ∧ 1 ≤ p ∧ p ≤ fS Φ q
  · have h8 := hsz q h.1 h.2.1
    rw [decide_eq_true h, if_pos h]
    simp (disch := omega) only [zl_0, zl_1, zl_2, zl_3, zl_4, zl_5, zl_6, zl_7, zl_8, zl_9, zl_10, zl_11, zl_12, zl_13, zl_14, zl_15, zl_16, zl_17, zl_18, zl_19, zl_20, zl_21, zl_22, zl_23, zl_24, zl_25, zl_26, zl_27, zl_28, zl_29, zl_30, zl_31, zl_32, zl_33, zl_34, zl_35, zl_36, zl_37, zl_38, zl_39, zl_40, zl_41, zl_42, zl_43, zl_44, zl_45, zl_46, zl_47, zl_48, zl_49, zl_50, zl_51, zl_52, zl_53, zl_54, zl_55, zl_56, zl_57, zl_58, zl_59, zl_60, zl_61, zl_62, zl_63, zl_64, zl_65, zl_66, zl_80, zl_97, zl_99, zl_103, zl_107, zl_112, zl_115, zl_100, zl_180, zl_210, zl_238, zl_255, zl_256, zl_400, zl_1000, zl_1024, zl_1260, zl_2000, zl_7140, zl_7200, zl_18414, zl_65536, zl_131072, zl_9999, zl_999, zI_add, zI_sub, zI_mul, zI_neg, zI_lt, zI_le, zI_eq, zI_clamp, ck_z, ckp_z, qb_z, qb_z0, Option.bind_some, hce]
    rfl
  · rw [decide_eq_false h, if_neg h]
    rfl
theorem hangs_z (hw : FoldW Φ) (hc : FoldC Φ quires things ghosts letter page sizes cells kinds words quireOf placeOf) (i : Int) (h1 : -2147483648 ≤ i) (h2 : i < 2147483648) : F_X0_hangs things kinds (zI i) = some (decide (0 ≤ i ∧ i < fT Φ ∧ Hg (fK Φ i))) := by
  obtain ⟨⟨rfl, rfl, rfl, rfl, rfl⟩, -, -, hk, -⟩ := hc
  obtain ⟨hr, -, -, hki, -⟩ := hw
  unfold F_X0_hangs
  by_cases h : 0 ≤ i ∧ i < fT Φ
  · have h8 := hki i h.1 h.2
    simp (disch := omega) only [zl_0, zl_1, zl_2, zl_3, zl_4, zl_5, zl_6, zl_7, zl_8, zl_9, zl_10, zl_11, zl_12, zl_13, zl_14, zl_15, zl_16, zl_17, zl_18, zl_19, zl_20, zl_21, zl_22, zl_23, zl_24, zl_25, zl_26, zl_27, zl_28, zl_29, zl_30, zl_31, zl_32, zl_33, zl_34, zl_35, zl_36, zl_37, zl_38, zl_39, zl_40, zl_41, zl_42, zl_43, zl_44, zl_45, zl_46, zl_47, zl_48, zl_49, zl_50, zl_51, zl_52, zl_53, zl_54, zl_55, zl_56, zl_57, zl_58, zl_59, zl_60, zl_61, zl_62, zl_63, zl_64, zl_65, zl_66, zl_80, zl_97, zl_99, zl_103, zl_107, zl_112, zl_115, zl_100, zl_180, zl_210, zl_238, zl_255, zl_256, zl_400, zl_1000, zl_1024, zl_1260, zl_2000, zl_7140, zl_7200, zl_18414, zl_65536, zl_131072, zl_9999, zl_999, zI_add, zI_sub, zI_mul, zI_neg, zI_lt, zI_le, zI_eq, zI_clamp, ck_z, ckp_z, qb_z, qb_z0, Option.bind_some, hk, hanging_z]
    rw [if_neg (by omega), if_neg (by omega), if_neg (by omega)]
    by_cases hh : fK Φ i = 1 ∨ fK Φ i = 2
    · rw [decide_eq_true hh, decide_eq_true ⟨h.1, h.2, hh⟩]; rfl
    · rw [decide_eq_false hh, decide_eq_false (fun c => hh c.2.2)]; rfl
  · rw [decide_eq_false (fun c => h ⟨c.1, c.2.1⟩)]
    simp (disch := omega) only [zl_0, zl_1, zl_2, zl_3, zl_4, zl_5, zl_6, zl_7, zl_8, zl_9, zl_10, zl_11, zl_12, zl_13, zl_14, zl_15, zl_16, zl_17, zl_18, zl_19, zl_20, zl_21, zl_22, zl_23, zl_24, zl_25, zl_26, zl_27, zl_28, zl_29, zl_30, zl_31, zl_32, zl_33, zl_34, zl_35, zl_36, zl_37, zl_38, zl_39, zl_40, zl_41, zl_42, zl_43, zl_44, zl_45, zl_46, zl_47, zl_48, zl_49, zl_50, zl_51, zl_52, zl_53, zl_54, zl_55, zl_56, zl_57, zl_58, zl_59, zl_60, zl_61, zl_62, zl_63, zl_64, zl_65, zl_66, zl_80, zl_97, zl_99, zl_103, zl_107, zl_112, zl_115, zl_100, zl_180, zl_210, zl_238, zl_255, zl_256, zl_400, zl_1000, zl_1024, zl_1260, zl_2000, zl_7140, zl_7200, zl_18414, zl_65536, zl_131072, zl_9999, zl_999, zI_add, zI_sub, zI_mul, zI_neg, zI_lt, zI_le, zI_eq, zI_clamp, ck_z, ckp_z, qb_z, qb_z0, Option.bind_some]
    (repeat' split) <;> first | rfl | (exfalso; omega)
end FD

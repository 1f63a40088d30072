def ReR (A V : Nat → Nat → Int32) (j : Nat) : Prop := RowR j (A (47 + 5 * j)) (A (48 + 5 * j)) (A (49 + 5 * j)) (V (46 + 5 * j) 4) (A 105) (A 106) (A 107) (A 108) ∧ RulR j (A (50 + 5 * j)) (A 109) (A 110) (A 111) (A 112)
def ReC (A V : Nat → Nat → Int32) (B : Nat → Bool) : Prop := CurR (B 23) (V 23 1) (V 23 2) (V 23 3) (V 23 4) (V 23 5) (A 24) (A 25) (A 26) (A 27) (A 28) (A 29) (A 119) (A 120) (A 121) (A 122) (A 123) (A 124) (A 125) (A 126) (A 127)
def ReK (A V : Nat → Nat → Int32) (B : Nat → Bool) (k : Nat) : Prop := KepR k (B (76 + 7 * k)) (V (76 + 7 * k) 1) (V (76 + 7 * k) 2) (V (76 + 7 * k) 3) (V (76 + 7 * k) 4) (V (76 + 7 * k) 5) (A (77 + 7 * k)) (A (78 + 7 * k)) (A (79 + 7 * k)) (A (80 + 7 * k)) (A (81 + 7 * k)) (A (82 + 7 * k)) (A 119) (A 120) (A 121) (A 122) (A 123) (A 124) (A 125) (A 126) (A 127)
def ReT (A V : Nat → Nat → Int32) : Prop := TapR (A 39) (V 38 1) (A 129) (V 104 30) ∧ TapR (A 41) (V 40 1) (A 128) (V 104 27) ∧ V 42 0 = V 104 31 ∧ V 42 1 = V 104 32
def bkJ (A V : Nat → Nat → Int32) (j : Nat) : Book := bkC (A (47 + 5 * j)) (A (49 + 5 * j)) (V (46 + 5 * j) 4) (A (50 + 5 * j))
def ReV (A V : Nat → Nat → Int32) (L : Nat → Int64) (ld : Int) (j : Nat) : Prop := RkV (bkJ A V j) ld (V 4 0) (A 5) (A 6) (A 7) (A 8) (A 9) (A 10) (A 11) (A 12) (V 4 9) (V 4 10) (V 4 11) (V 4 12) (A 16) (A 17) L (A 20)
def ReL (A V : Nat → Nat → Int32) (B : Nat → Bool) (L : Nat → Int64) (z : Option Nat) (ld : Int) : Prop := V 2 3 = zI ld ∧ RkS ld (A 20) ∧ (z = none ∨ ∃ j, j < 6 ∧ z = some (46 + 5 * j)) ∧ ∀ j, j < 6 → z = some (46 + 5 * j) → B (46 + 5 * j) = false → ReV A V L ld j
/-- what holds between two calls -/
def Rel (A V : Nat → Nat → Int32) (B : Nat → Bool) (L : Nat → Int64) (z tx : Option Nat) (ld : Int) : Prop := (∀ j, j < 6 → ReR A V j) ∧ ReC A V B ∧ (∀ k, k < 4 → ReK A V B k) ∧ ReT A V ∧ ReL A V B L z ld ∧ (tx = none ∨ tx = some 38)
theorem lt6 {P : Nat → Prop} (h0 : P 0) (h1 : P 1) (h2 : P 2) (h3 : P 3) (h4 : P 4) (h5 : P 5) : ∀ j, j < 6 → P j
  | 0, _ => h0
  | 1, _ => h1
  | 2, _ => h2
  | 3, _ => h3
  | 4, _ => h4
  | 5, _ => h5
  | j + 6, h => absurd h (by omega)
theorem lt4 {P : Nat → Prop} (h0 : P 0) (h1 : P 1) (h2 : P 2) (h3 : P 3) : ∀ j, j < 4 → P j
  | 0, _ => h0
  | 1, _ => h1
  | 2, _ => h2
  | 3, _ => h3
  | j + 4, h => absurd h (by omega)
theorem zlt {z : Option Nat} (h : z = none ∨ ∃ j, j < 6 ∧ z = some (46 + 5 * j)) : ∀ k, z = some k → k < 138 := by
  intro k hk
  rcases h with h | ⟨j, hj, h⟩
  · rw [h] at hk; cases hk
  · rw [h] at hk; have := Option.some.inj hk; omega
theorem in6 (v : Int32) : (v < 0 ∨ 6 ≤ v) ∨ ∃ j, j < 6 ∧ v = nI j := by
  obtain ⟨a, h1, h2, rfl⟩ := zI_of v
  by_cases c : a < 0
  · exact Or.inl (Or.inl (by simp (disch := omega) only [zl_0, zl_1, zl_2, zl_3, zl_4, zl_5, zl_6, zl_7, zl_8, zl_9, zl_10, zl_11, zl_12, zl_13, zl_14, zl_15, zl_16, zl_17, zl_18, zl_19, zl_20, zl_21, zl_22, zl_23, zl_24, zl_25, zl_26, zl_27, zl_28, zl_29, zl_30, zl_31, zl_32, zl_33, zl_34, zl_35, zl_36, zl_37, zl_38, zl_39, zl_40, zl_41, zl_42, zl_43, zl_44, zl_45, zl_46, zl_47, zl_48, zl_49, zl_50, zl_51, zl_52, zl_53, zl_54, zl_55, zl_56, zl_57, zl_58, zl_59, zl_60, zl_61, zl_62, zl_63, zl_64, zl_65, zl_66, zl_80, zl_97, zl_99, zl_103, zl_107, zl_112, zl_115, zl_100, zl_180, zl_210, zl_238, zl_255, zl_256, zl_400, zl_1000, zl_1024, zl_1260, zl_2000, zl_7140, zl_7200, zl_18414, zl_65536, zl_131072, zl_9999, zl_999, zI_add, zI_sub, zI_mul, zI_neg, zI_lt, zI_le, zI_eq, zI_clamp, ck_z, ckp_z, qb_z, qb_z0, Option.bind_some]; exact c))
  · by_cases c2 : 6 ≤ a
    · exact Or.inl (Or.inr (by simp (disch := omega) only [zl_0, zl_1, zl_2, zl_3, zl_4, zl_5, zl_6, zl_7, zl_8, zl_9, zl_10, zl_11, zl_12, zl_13, zl_14, zl_15, zl_16, zl_17, zl_18, zl_19, zl_20, zl_21, zl_22, zl_23, zl_24, zl_25, zl_26, zl_27, zl_28, zl_29, zl_30, zl_31, zl_32, zl_33, zl_34, zl_35, zl_36, zl_37, zl_38, zl_39, zl_40, zl_41, zl_42, zl_43, zl_44, zl_45, zl_46, zl_47, zl_48, zl_49, zl_50, zl_51, zl_52, zl_53, zl_54, zl_55, zl_56, zl_57, zl_58, zl_59, zl_60, zl_61, zl_62, zl_63, zl_64, zl_65, zl_66, zl_80, zl_97, zl_99, zl_103, zl_107, zl_112, zl_115, zl_100, zl_180, zl_210, zl_238, zl_255, zl_256, zl_400, zl_1000, zl_1024, zl_1260, zl_2000, zl_7140, zl_7200, zl_18414, zl_65536, zl_131072, zl_9999, zl_999, zI_add, zI_sub, zI_mul, zI_neg, zI_lt, zI_le, zI_eq, zI_clamp, ck_z, ckp_z, qb_z, qb_z0, Option.bind_some]; exact c2))
    · exact Or.inr ⟨a.toNat, by omega, zI_nI (by omega)⟩
theorem in4 (v : Int32) : (v < 0 ∨ 4 ≤ v) ∨ ∃ j, j < 4 ∧ v = nI j := by
  obtain ⟨a, h1, h2, rfl⟩ := zI_of v
  by_cases c : a < 0
  · exact Or.inl (Or.inl (by simp (disch := omega) only [zl_0, zl_1, zl_2, zl_3, zl_4, zl_5, zl_6, zl_7, zl_8, zl_9, zl_10, zl_11, zl_12, zl_13, zl_14, zl_15, zl_16, zl_17, zl_18, zl_19, zl_20, zl_21, zl_22, zl_23, zl_24, zl_25, zl_26, zl_27, zl_28, zl_29, zl_30, zl_31, zl_32, zl_33, zl_34, zl_35, zl_36, zl_37, zl_38, zl_39, zl_40, zl_41, zl_42, zl_43, zl_44, zl_45, zl_46, zl_47, zl_48, zl_49, zl_50, zl_51, zl_52, zl_53, zl_54, zl_55, zl_56, zl_57, zl_58, zl_59, zl_60, zl_61, zl_62, zl_63, zl_64, zl_65, zl_66, zl_80, zl_97, zl_99, zl_103, zl_107, zl_112, zl_115, zl_100, zl_180, zl_210, zl_238, zl_255, zl_256, zl_400, zl_1000, zl_1024, zl_1260, zl_2000, zl_7140, zl_7200, zl_18414, zl_65536, zl_131072, zl_9999, zl_999, zI_add, zI_sub, zI_mul, zI_neg, zI_lt, zI_le, zI_eq, zI_clamp, ck_z, ckp_z, qb_z, qb_z0, Option.bind_some]; exact c))
  · by_cases c2 : 4 ≤ a
    · exact Or.inl (Or.inr (by simp (disch := omega) only [zl_0, zl_1, zl_2, zl_3, zl_4, zl_5, zl_6, zl_7, zl_8, zl_9, zl_10, zl_11, zl_12, zl_13, zl_14, zl_15, zl_16, zl_17, zl_18, zl_19, zl_20, zl_21, zl_22, zl_23, zl_24, zl_25, zl_26, zl_27, zl_28, zl_29, zl_30, zl_31, zl_32, zl_33, zl_34, zl_35, zl_36, zl_37, zl_38, zl_39, zl_40, zl_41, zl_42, zl_43, zl_44, zl_45, zl_46, zl_47, zl_48, zl_49, zl_50, zl_51, zl_52, zl_53, zl_54, zl_55, zl_56, zl_57, zl_58, zl_59, zl_60, zl_61, zl_62, zl_63, zl_64, zl_65, zl_66, zl_80, zl_97, zl_99, zl_103, zl_107, zl_112, zl_115, zl_100, zl_180, zl_210, zl_238, zl_255, zl_256, zl_400, zl_1000, zl_1024, zl_1260, zl_2000, zl_7140, zl_7200, zl_18414, zl_65536, zl_131072, zl_9999, zl_999, zI_add, zI_sub, zI_mul, zI_neg, zI_lt, zI_le, zI_eq, zI_clamp, ck_z, ckp_z, qb_z, qb_z0, Option.bind_some]; exact c2))
    · exact Or.inr ⟨a.toNat, by omega, zI_nI (by omega)⟩

section FD
variable {Φ : Fold} {quires things ghosts letter page : Int32} {sizes cells kinds words quireOf placeOf : Nat → Int32} {f : Int} {mthings mquires firstLetter firstPage sizeOf placed kindOf catchOf isThere : Nat → Int32}
theorem ghosts_b17_z (hw : FoldW Φ) (hm : FoldM f Φ mthings mquires firstLetter firstPage sizeOf placed kindOf catchOf) (hf : 0 ≤ f) (hf2 : f < 5) (q : Int) (hq : 0 ≤ q) (hq2 : q < fQ Φ) (k4 : Int32 → Int32 → Int32 → Option Int32) (x : Int) : ∀ (d n p : Nat), (p : Int) + d = fS Φ q → d < n → F_X8_ghosts_b17 mquires sizeOf placed k4 n (zI f) (zI (x + fgp Φ q p)) (zI q) (zI (p + 1)) = k4 (zI f) (zI (x + fgp Φ q (fS Φ q).toNat)) (zI (q + 1))
  | 0, n + 1, p, hp, _ => by
    obtain ⟨hr, hsz, -⟩ := hw
    obtain ⟨-, hs, -⟩ := hm
    have h8 := hs q hq hq2
    have h9 := hsz q hq hq2
    unfold F_X8_ghosts_b17
    simp (disch := omega) only [zl_0, zl_1, zl_2, zl_3, zl_4, zl_5, zl_6, zl_7, zl_8, zl_9, zl_10, zl_11, zl_12, zl_13, zl_14, zl_15, zl_16, zl_17, zl_18, zl_19, zl_20, zl_21, zl_22, zl_23, zl_24, zl_25, zl_26, zl_27, zl_28, zl_29, zl_30, zl_31, zl_32, zl_33, zl_34, zl_35, zl_36, zl_37, zl_38, zl_39, zl_40, zl_41, zl_42, zl_43, zl_44, zl_45, zl_46, zl_47, zl_48, zl_49, zl_50, zl_51, zl_52, zl_53, zl_54, zl_55, zl_56, zl_57, zl_58, zl_59, zl_60, zl_61, zl_62, zl_63, zl_64, zl_65, zl_66, zl_80, zl_97, zl_99, zl_103, zl_107, zl_112, zl_115, zl_100, zl_180, zl_210, zl_238, zl_255, zl_256, zl_400, zl_1000, zl_1024, zl_1260, zl_2000, zl_7140, zl_7200, zl_18414, zl_65536, zl_131072, zl_9999, zl_999, zI_add, zI_sub, zI_mul, zI_neg, zI_lt, zI_le, zI_eq, zI_clamp, ck_z, ckp_z, qb_z, qb_z0, Option.bind_some, h8]
    rw [if_pos (by omega), show (fS Φ q).toNat = p by omega]
  | d + 1, n + 1, p, hp, hn => by
    have ih := ghosts_b17_z hw hm hf hf2 q hq hq2 k4 x d n (p + 1) (by omega) (by omega)
    obtain ⟨hr, hsz, hce, -⟩ := hw
    obtain ⟨-, hs, hpl, -⟩ := hm
    have h8 := hs q hq hq2
    have h9 := hsz q hq hq2
    have h10 := hpl q (p + 1) hq hq2 (by omega) (by omega)
    have h11 := hce q (p + 1) hq hq2 (by omega) (by omega)
    unfold F_X8_ghosts_b17
    simp (disch := omega) only [zl_0, zl_1, zl_2, zl_3, zl_4, zl_5, zl_6, zl_7, zl_8, zl_9, zl_10, zl_11, zl_12, zl_13, zl_14, zl_15, zl_16, zl_17, zl_18, zl_19, zl_20, zl_21, zl_22, zl_23, zl_24, zl_25, zl_26, zl_27, zl_28, zl_29, zl_30, zl_31, zl_32, zl_33, zl_34, zl_35, zl_36, zl_37, zl_38, zl_39, zl_40, zl_41, zl_42, zl_43, zl_44, zl_45, zl_46, zl_47, zl_48, zl_49, zl_50, zl_51, zl_52, zl_53, zl_54, zl_55, zl_56, zl_57, zl_58, zl_59, zl_60, zl_61, zl_62, zl_63, zl_64, zl_65, zl_66, zl_80, zl_97, zl_99, zl_103, zl_107, zl_112, zl_115, zl_100, zl_180, zl_210, zl_238, zl_255, zl_256, zl_400, zl_1000, zl_1024, zl_1260, zl_2000, zl_7140, zl_7200, zl_18414, zl_65536, zl_131072, zl_9999, zl_999, zI_add, zI_sub, zI_mul, zI_neg, zI_lt, zI_le, zI_eq, zI_clamp, ck_z, ckp_z, qb_z, qb_z0, Option.bind_some, h8, at_z, h10]
    rw [if_neg (by omega)]
    by_cases h : fC Φ q (p + 1) = -2
    · rw [if_pos h, show x + fgp Φ q p + 1 = x + fgp Φ q (p + 1) by simp only [fgp, if_pos h]; omega]
      exact ih
    · rw [if_neg h, show x + fgp Φ q p + 0 = x + fgp Φ q (p + 1) by simp only [fgp, if_neg h]; omega]
      exact ih
theorem ghosts_b4_z (hw : FoldW Φ) (hm : FoldM f Φ mthings mquires firstLetter firstPage sizeOf placed kindOf catchOf) (hf : 0 ≤ f) (hf2 : f < 5) : ∀ (d n q : Nat), (q : Int) + d = fQ Φ → d < n → F_X8_ghosts_b4 mquires sizeOf placed n (zI f) (zI (fgq Φ q)) (zI q) = some (zI (fgq Φ (fQ Φ).toNat))
  | 0, n + 1, q, hp, _ => by
    obtain ⟨hr, hsz, -⟩ := hw
    obtain ⟨⟨hQ, -⟩, -⟩ := hm
    unfold F_X8_ghosts_b4
    simp (disch := omega) only [zl_0, zl_1, zl_2, zl_3, zl_4, zl_5, zl_6, zl_7, zl_8, zl_9, zl_10, zl_11, zl_12, zl_13, zl_14, zl_15, zl_16, zl_17, zl_18, zl_19, zl_20, zl_21, zl_22, zl_23, zl_24, zl_25, zl_26, zl_27, zl_28, zl_29, zl_30, zl_31, zl_32, zl_33, zl_34, zl_35, zl_36, zl_37, zl_38, zl_39, zl_40, zl_41, zl_42, zl_43, zl_44, zl_45, zl_46, zl_47, zl_48, zl_49, zl_50, zl_51, zl_52, zl_53, zl_54, zl_55, zl_56, zl_57, zl_58, zl_59, zl_60, zl_61, zl_62, zl_63, zl_64, zl_65, zl_66, zl_80, zl_97, zl_99, zl_103, zl_107, zl_112, zl_115, zl_100, zl_180, zl_210, zl_238, zl_255, zl_256, zl_400, zl_1000, zl_1024, zl_1260, zl_2000, zl_7140, zl_7200, zl_18414, zl_65536, zl_131072, zl_9999, zl_999, zI_add, zI_sub, zI_mul, zI_neg, zI_lt, zI_le, zI_eq, zI_clamp, ck_z, ckp_z, qb_z, qb_z0, Option.bind_some, hQ]
    rw [if_pos (by omega), show (fQ Φ).toNat = q by omega]
  | d + 1, n + 1, q, hp, hn => by
    have ih := ghosts_b4_z hw hm hf hf2 d n (q + 1) (by omega) (by omega)
    have h1 := ghosts_b17_z hw hm hf hf2 q (by omega) (by omega) (fun x1 x2 x3 => F_X8_ghosts_b4 mquires sizeOf placed n x1 x2 x3) (fgq Φ q) (fS Φ q).toNat FU 0 (by have := hw.2.1 q (by omega) (by omega); omega) (by have := hw.2.1 q (by omega) (by omega); unfold FU; omega)
    have hr := hw.1
    have hQ := hm.1.1
    unfold F_X8_ghosts_b4
    simp (disch := omega) only [zl_0, zl_1, zl_2, zl_3, zl_4, zl_5, zl_6, zl_7, zl_8, zl_9, zl_10, zl_11, zl_12, zl_13, zl_14, zl_15, zl_16, zl_17, zl_18, zl_19, zl_20, zl_21, zl_22, zl_23, zl_24, zl_25, zl_26, zl_27, zl_28, zl_29, zl_30, zl_31, zl_32, zl_33, zl_34, zl_35, zl_36, zl_37, zl_38, zl_39, zl_40, zl_41, zl_42, zl_43, zl_44, zl_45, zl_46, zl_47, zl_48, zl_49, zl_50, zl_51, zl_52, zl_53, zl_54, zl_55, zl_56, zl_57, zl_58, zl_59, zl_60, zl_61, zl_62, zl_63, zl_64, zl_65, zl_66, zl_80, zl_97, zl_99, zl_103, zl_107, zl_112, zl_115, zl_100, zl_180, zl_210, zl_238, zl_255, zl_256, zl_400, zl_1000, zl_1024, zl_1260, zl_2000, zl_7140, zl_7200, zl_18414, zl_65536, zl_131072, zl_9999, zl_999, zI_add, zI_sub, zI_mul, zI_neg, zI_lt, zI_le, zI_eq, zI_clamp, ck_z, ckp_z, qb_z, qb_z0, Option.bind_some, hQ]
    rw [if_neg (by omega)]
    simp only [fgp, Int.add_zero] at h1
    refine Eq.trans h1 ?_
    exact ih
theorem op_folding1 (hw : FoldW Φ) (hc : FoldC Φ quires things ghosts letter page sizes cells kinds words quireOf placeOf) (hm : FoldM 0 Φ mthings mquires firstLetter firstPage sizeOf placed kindOf catchOf) (ht : isThere 0 = 1) (told v1 : Int32) : ∃ c1 c2, F_X7_folding quires things ghosts letter sizes v1 = some c1 ∧ F_X8_folding told isThere mthings mquires firstLetter sizeOf placed v1 = some c2 ∧ c1 = c2.1 := by
  obtain ⟨a, ha1, ha2, rfl⟩ := zI_of v1
  have hr := hw.1
  have e1 := ghosts_b4_z hw hm (by omega) (by omega) (fQ Φ).toNat FU 0 (by omega) (by unfold FU; omega)
  have e2 := placesAhead_z hw hc (fQ Φ).toNat (by omega) (fQ Φ).toNat FU 0 (by omega) (by unfold FU; omega)
  have e3 := placesAheadM_z hw hm (by omega) (by omega) (fQ Φ).toNat (by omega) 0 (fQ Φ).toNat FU 0 (by omega) (by unfold FU; omega)
  rw [Int.toNat_of_nonneg (by omega)] at e2 e3
  have hG := hw.2.2.2.2.2
  obtain ⟨⟨rfl, rfl, rfl, rfl, rfl⟩, -⟩ := hc
  obtain ⟨⟨hQ, hT, hL, hP⟩, -⟩ := hm
  have e4 : F_X8_ghosts mquires sizeOf placed 0 = some (zI (fG Φ)) := by rw [hG]; exact e1
  have e5 : F_X0_placesAhead (zI (fQ Φ)) sizes (zI (fQ Φ)) = some (zI (fA Φ (fQ Φ).toNat)) := e2
  have e6 : F_X8_placesAhead sizeOf 0 (zI (fQ Φ)) 1 = some (zI (fA Φ (fQ Φ).toNat + 0)) := e3
  have t0 : mquires 0 = zI (fQ Φ) := hQ
  have t1 : mthings 0 = zI (fT Φ) := hT
  have t2 : firstLetter 0 = zI (fL Φ) := hL
  unfold F_X7_folding F_X8_folding
  rw [show (0 : Int32).toNatClampNeg = 0 from rfl, ht, t0, t1, t2, e4, e5, e6, Int.add_zero]
  by_cases h0 : a = 0
  · subst h0; exact ⟨_, _, rfl, rfl, rfl⟩
  by_cases h1 : a = 1
  · subst h1; exact ⟨_, _, rfl, rfl, rfl⟩
  by_cases h2 : a = 2
  · subst h2; exact ⟨_, _, rfl, rfl, rfl⟩
  by_cases h3 : a = 3
  · subst h3; exact ⟨_, _, rfl, rfl, rfl⟩
  by_cases h4 : a = 4
  · subst h4; exact ⟨_, _, rfl, rfl, rfl⟩
  simp (disch := omega) only [zl_0, zl_1, zl_2, zl_3, zl_4, zl_5, zl_6, zl_7, zl_8, zl_9, zl_10, zl_11, zl_12, zl_13, zl_14, zl_15, zl_16, zl_17, zl_18, zl_19, zl_20, zl_21, zl_22, zl_23, zl_24, zl_25, zl_26, zl_27, zl_28, zl_29, zl_30, zl_31, zl_32, zl_33, zl_34, zl_35, zl_36, zl_37, zl_38, zl_39, zl_40, zl_41, zl_42, zl_43, zl_44, zl_45, zl_46, zl_47, zl_48, zl_49, zl_50, zl_51, zl_52, zl_53, zl_54, zl_55, zl_56, zl_57, zl_58, zl_59, zl_60, zl_61, zl_62, zl_63, zl_64, zl_65, zl_66, zl_80, zl_97, zl_99, zl_103, zl_107, zl_112, zl_115, zl_100, zl_180, zl_210, zl_238, zl_255, zl_256, zl_400, zl_1000, zl_1024, zl_1260, zl_2000, zl_7140, zl_7200, zl_18414, zl_65536, zl_131072, zl_9999, zl_999, zI_add, zI_sub, zI_mul, zI_neg, zI_lt, zI_le, zI_eq, zI_clamp, ck_z, ckp_z, qb_z, qb_z0, Option.bind_some]
  rw [if_neg h0, if_neg h1, if_neg h2, if_neg h3, if_neg h4]
  by_cases h5 : a < 0
  · rw [if_pos h5]; exact ⟨_, _, rfl, rfl, rfl⟩
  · rw [if_neg h5, if_neg (by omega)]; exact ⟨_, _, rfl, rfl, rfl⟩
theorem op_size1 (hw : FoldW Φ) (hc : FoldC Φ quires things ghosts letter page sizes cells kinds words quireOf placeOf) (hm : FoldM 0 Φ mthings mquires firstLetter firstPage sizeOf placed kindOf catchOf) (ht : isThere 0 = 1) (told v1 : Int32) : ∃ c1 c2, F_X7_size quires sizes v1 = some c1 ∧ F_X8_size told isThere mquires sizeOf v1 = some c2 ∧ c1 = c2.1 := by
  obtain ⟨q, h1, h2, rfl⟩ := zI_of v1
  have hr := hw.1
  have e := isQuireM_z (isThere := isThere) hm hw (by omega) (by omega) ht q h1 h2
  have hs := hc.2.1
  have hs2 := hm.2.1
  obtain ⟨⟨rfl, rfl, rfl, rfl, rfl⟩, -⟩ := hc
  have e2 := hasQuire_z (fQ Φ) q (by omega) (by omega) h1 h2
  unfold F_X7_size F_X8_size
  rw [zl_0, e, e2, Option.bind_some, Option.bind_some]
  by_cases h : 0 ≤ q ∧ q < fQ Φ
  · have s1 := hs q h.1 h.2
    have s2 := hs2 q h.1 h.2
    rw [show 8 * 0 + q = q by omega] at s2
    rw [decide_eq_true h, if_neg (by decide), if_neg (by decide)]
    simp (disch := omega) only [zl_0, zl_1, zl_2, zl_3, zl_4, zl_5, zl_6, zl_7, zl_8, zl_9, zl_10, zl_11, zl_12, zl_13, zl_14, zl_15, zl_16, zl_17, zl_18, zl_19, zl_20, zl_21, zl_22, zl_23, zl_24, zl_25, zl_26, zl_27, zl_28, zl_29, zl_30, zl_31, zl_32, zl_33, zl_34, zl_35, zl_36, zl_37, zl_38, zl_39, zl_40, zl_41, zl_42, zl_43, zl_44, zl_45, zl_46, zl_47, zl_48, zl_49, zl_50, zl_51, zl_52, zl_53, zl_54, zl_55, zl_56, zl_57, zl_58, zl_59, zl_60, zl_61, zl_62, zl_63, zl_64, zl_65, zl_66, zl_80, zl_97, zl_99, zl_103, zl_107, zl_112, zl_115, zl_100, zl_180, zl_210, zl_238, zl_255, zl_256, zl_400, zl_1000, zl_1024, zl_1260, zl_2000, zl_7140, zl_7200, zl_18414, zl_65536, zl_131072, zl_9999, zl_999, zI_add, zI_sub, zI_mul, zI_neg, zI_lt, zI_le, zI_eq, zI_clamp, ck_z, ckp_z, qb_z, qb_z0, Option.bind_some, s1, s2]
    exact ⟨_, _, rfl, rfl, rfl⟩
  · rw [decide_eq_false h]
    exact ⟨_, _, rfl, rfl, rfl⟩
theorem op_place1 (hw : FoldW Φ) (hc : FoldC Φ quires things ghosts letter page sizes cells kinds words quireOf placeOf) (hm : FoldM 0 Φ mthings mquires firstLetter firstPage sizeOf placed kindOf catchOf) (ht : isThere 0 = 1) (told v1 v2 : Int32) : ∃ c1 c2, F_X7_place quires sizes cells v1 v2 = some c1 ∧ F_X8_place told isThere mquires sizeOf placed v1 v2 = some c2 ∧ c1 = c2.1 := by
  obtain ⟨q, h1, h2, rfl⟩ := zI_of v1
  obtain ⟨p, h3, h4, rfl⟩ := zI_of v2
  have hr := hw.1
  have hsz := hw.2.1
  have hpl := hm.2.2.1
  unfold F_X7_place F_X8_place
  rw [thingAt_z hw hc q p h1 h2 h3 h4, zl_0, isPlace_z hm hw (by omega) (by omega) ht q p h1 h2 h3 h4, Option.bind_some, Option.bind_some, at_z]
  by_cases h : 0 ≤ q ∧ q < fQ Φ ∧ 1 ≤ p ∧ p ≤ fS Φ q
  · have s := hsz q h.1 h.2.1
    have g := hpl q p h.1 h.2.1 h.2.2.1 h.2.2.2
    rw [decide_eq_true h, if_pos h, if_neg (by decide)]
    simp (disch := omega) only [zl_0, zl_1, zl_2, zl_3, zl_4, zl_5, zl_6, zl_7, zl_8, zl_9, zl_10, zl_11, zl_12, zl_13, zl_14, zl_15, zl_16, zl_17, zl_18, zl_19, zl_20, zl_21, zl_22, zl_23, zl_24, zl_25, zl_26, zl_27, zl_28, zl_29, zl_30, zl_31, zl_32, zl_33, zl_34, zl_35, zl_36, zl_37, zl_38, zl_39, zl_40, zl_41, zl_42, zl_43, zl_44, zl_45, zl_46, zl_47, zl_48, zl_49, zl_50, zl_51, zl_52, zl_53, zl_54, zl_55, zl_56, zl_57, zl_58, zl_59, zl_60, zl_61, zl_62, zl_63, zl_64, zl_65, zl_66, zl_80, zl_97, zl_99, zl_103, zl_107, zl_112, zl_115, zl_100, zl_180, zl_210, zl_238, zl_255, zl_256, zl_400, zl_1000, zl_1024, zl_1260, zl_2000, zl_7140, zl_7200, zl_18414, zl_65536, zl_131072, zl_9999, zl_999, zI_add, zI_sub, zI_mul, zI_neg, zI_lt, zI_le, zI_eq, zI_clamp, ck_z, ckp_z, qb_z, qb_z0, Option.bind_some, g]
    exact ⟨_, _, rfl, rfl, rfl⟩
  · rw [decide_eq_false h, if_neg h]
    exact ⟨_, _, rfl, rfl, rfl⟩
end FD

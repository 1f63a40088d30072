section FD
variable {Φ : Fold} {quires things ghosts letter page : Int32} {sizes cells kinds words quireOf placeOf : Nat → Int32} {f : Int} {mthings mquires firstLetter firstPage sizeOf placed kindOf catchOf isThere : Nat → Int32}
def thAns (Φ : Fold) (i what : Int) : Int := if what = 0 then fqo Φ i else if what = 1 then fpo Φ i else fC Φ (fqo Φ i) (fS Φ (fqo Φ i) + 1 - fpo Φ i)
theorem thing_b54_yes (hw : FoldW Φ) (hm : FoldM 0 Φ mthings mquires firstLetter firstPage sizeOf placed kindOf catchOf) (i what : Int) (hi : 0 ≤ i) (hi2 : i < fT Φ) (hh : Hg (fK Φ i)) (h0 : 0 ≤ what) (h2 : what ≤ 2) (told : Int32) (k41 : Int32 → Int32 → Int32 → Int32 → Option (Int32 × Int32)) : ∀ (d n : Nat) (p : Int), p + d = fpo Φ i → 1 ≤ p → d < n → F_X8_thing_b54 mquires sizeOf placed k41 n told (zI i) (zI what) (zI (fqo Φ i)) (zI p) = some (zI (thAns Φ i what), told)
  | d, n + 1, p, hp, hp1, hn => by
    have hr := hw.1
    have g := (hw.2.2.2.1 i hi hi2).2.2 hh
    have h8 := hm.2.1 (fqo Φ i) g.1 g.2.1
    have h9 := hw.2.1 (fqo Φ i) g.1 g.2.1
    have h10 := hm.2.2.1 (fqo Φ i) p g.1 g.2.1 hp1 (by omega)
    have h11 := hw.2.2.1 (fqo Φ i) p g.1 g.2.1 hp1 (by omega)
    have h12 := hm.2.2.1 (fqo Φ i) (fS Φ (fqo Φ i) + 1 - p) g.1 g.2.1 (by omega) (by omega)
    rw [show 8 * 0 + fqo Φ i = fqo Φ i by omega] at h8
    rw [show 64 * 0 + 8 * fqo Φ i + p - 1 = 8 * fqo Φ i + p - 1 by omega] at h10
    rw [show 64 * 0 + 8 * fqo Φ i + (fS Φ (fqo Φ i) + 1 - p) - 1 = 8 * fqo Φ i + (fS Φ (fqo Φ i) + 1 - p) - 1 by omega] at h12
    unfold F_X8_thing_b54
    cases d with
    | zero =>
      have hp' : p = fpo Φ i := by omega
      have e : fC Φ (fqo Φ i) p = i := by rw [hp']; exact g.2.2.2.2
      rw [e] at h10
      rw [zl_0]
      simp (disch := omega) only [zl_0, zl_1, zl_2, zl_3, zl_4, zl_5, zl_6, zl_7, zl_8, zl_9, zl_10, zl_11, zl_12, zl_13, zl_14, zl_15, zl_16, zl_17, zl_18, zl_19, zl_20, zl_21, zl_22, zl_23, zl_24, zl_25, zl_26, zl_27, zl_28, zl_29, zl_30, zl_31, zl_32, zl_33, zl_34, zl_35, zl_36, zl_37, zl_38, zl_39, zl_40, zl_41, zl_42, zl_43, zl_44, zl_45, zl_46, zl_47, zl_48, zl_49, zl_50, zl_51, zl_52, zl_53, zl_54, zl_55, zl_56, zl_57, zl_58, zl_59, zl_60, zl_61, zl_62, zl_63, zl_64, zl_65, zl_66, zl_80, zl_97, zl_99, zl_103, zl_107, zl_112, zl_115, zl_100, zl_180, zl_210, zl_238, zl_255, zl_256, zl_400, zl_1000, zl_1024, zl_1260, zl_2000, zl_7140, zl_7200, zl_18414, zl_65536, zl_131072, zl_9999, zl_999, zI_add, zI_sub, zI_mul, zI_neg, zI_lt, zI_le, zI_eq, zI_clamp, ck_z, ckp_z, qb_z, qb_z0, Option.bind_some, if_pos, if_neg, reduceIte, reduceCtorEq, Bool.false_eq_true, Bool.true_eq_false, h8, at_z, Int.mul_zero, Int.zero_add, h10, h12]
      unfold thAns
      by_cases w0 : what = 0
      · rw [if_pos w0, if_pos w0]
      · rw [if_neg w0, if_neg w0]
        by_cases w1 : what = 1
        · rw [if_pos w1, if_pos w1, hp']
        · rw [if_neg w1, if_neg w1, hp']
    | succ d =>
      have ih := thing_b54_yes hw hm i what hi hi2 hh h0 h2 told k41 d n (p + 1) (by omega) (by omega) (by omega)
      have hne : ¬ fC Φ (fqo Φ i) p = i := by
        intro c
        rcases h11 with h11 | h11
        · omega
        · rw [c] at h11
          omega
      simp (disch := omega) only [zl_0, zl_1, zl_2, zl_3, zl_4, zl_5, zl_6, zl_7, zl_8, zl_9, zl_10, zl_11, zl_12, zl_13, zl_14, zl_15, zl_16, zl_17, zl_18, zl_19, zl_20, zl_21, zl_22, zl_23, zl_24, zl_25, zl_26, zl_27, zl_28, zl_29, zl_30, zl_31, zl_32, zl_33, zl_34, zl_35, zl_36, zl_37, zl_38, zl_39, zl_40, zl_41, zl_42, zl_43, zl_44, zl_45, zl_46, zl_47, zl_48, zl_49, zl_50, zl_51, zl_52, zl_53, zl_54, zl_55, zl_56, zl_57, zl_58, zl_59, zl_60, zl_61, zl_62, zl_63, zl_64, zl_65, zl_66, zl_80, zl_97, zl_99, zl_103, zl_107, zl_112, zl_115, zl_100, zl_180, zl_210, zl_238, zl_255, zl_256, zl_400, zl_1000, zl_1024, zl_1260, zl_2000, zl_7140, zl_7200, zl_18414, zl_65536, zl_131072, zl_9999, zl_999, zI_add, zI_sub, zI_mul, zI_neg, zI_lt, zI_le, zI_eq, zI_clamp, ck_z, ckp_z, qb_z, qb_z0, Option.bind_some, h8, at_z, Int.mul_zero, Int.zero_add, h10]
      rw [if_neg (by omega), if_neg (by omega)]
      exact ih
theorem thing_b54_no (hw : FoldW Φ) (hm : FoldM 0 Φ mthings mquires firstLetter firstPage sizeOf placed kindOf catchOf) (i what q : Int) (hq : 0 ≤ q) (hq2 : q < fQ Φ) (hi : 0 ≤ i) (hi2 : i < fT Φ) (hh : ¬ (Hg (fK Φ i) ∧ fqo Φ i = q)) (told : Int32) (k41 : Int32 → Int32 → Int32 → Int32 → Option (Int32 × Int32)) : ∀ (d n : Nat) (p : Int), p + d = fS Φ q + 1 → 1 ≤ p → d < n → F_X8_thing_b54 mquires sizeOf placed k41 n told (zI i) (zI what) (zI q) (zI p) = k41 told (zI i) (zI what) (zI (q + 1))
  | d, n + 1, p, hp, hp1, hn => by
    have hr := hw.1
    have h8 := hm.2.1 q hq hq2
    have h9 := hw.2.1 q hq hq2
    rw [show 8 * 0 + q = q by omega] at h8
    unfold F_X8_thing_b54
    cases d with
    | zero =>
      simp (disch := omega) only [zl_0, zl_1, zl_2, zl_3, zl_4, zl_5, zl_6, zl_7, zl_8, zl_9, zl_10, zl_11, zl_12, zl_13, zl_14, zl_15, zl_16, zl_17, zl_18, zl_19, zl_20, zl_21, zl_22, zl_23, zl_24, zl_25, zl_26, zl_27, zl_28, zl_29, zl_30, zl_31, zl_32, zl_33, zl_34, zl_35, zl_36, zl_37, zl_38, zl_39, zl_40, zl_41, zl_42, zl_43, zl_44, zl_45, zl_46, zl_47, zl_48, zl_49, zl_50, zl_51, zl_52, zl_53, zl_54, zl_55, zl_56, zl_57, zl_58, zl_59, zl_60, zl_61, zl_62, zl_63, zl_64, zl_65, zl_66, zl_80, zl_97, zl_99, zl_103, zl_107, zl_112, zl_115, zl_100, zl_180, zl_210, zl_238, zl_255, zl_256, zl_400, zl_1000, zl_1024, zl_1260, zl_2000, zl_7140, zl_7200, zl_18414, zl_65536, zl_131072, zl_9999, zl_999, zI_add, zI_sub, zI_mul, zI_neg, zI_lt, zI_le, zI_eq, zI_clamp, ck_z, ckp_z, qb_z, qb_z0, Option.bind_some, h8]
      rw [if_pos (by omega)]
    | succ d =>
      have ih := thing_b54_no hw hm i what q hq hq2 hi hi2 hh told k41 d n (p + 1) (by omega) (by omega) (by omega)
      have h10 := hm.2.2.1 q p hq hq2 hp1 (by omega)
      have h11 := hw.2.2.1 q p hq hq2 hp1 (by omega)
      rw [show 64 * 0 + 8 * q + p - 1 = 8 * q + p - 1 by omega] at h10
      have hne : ¬ fC Φ q p = i := by
        intro c
        rcases h11 with h11 | h11
        · omega
        · rw [c] at h11
          exact hh ⟨h11.2.2.1, h11.2.2.2.1⟩
      simp (disch := omega) only [zl_0, zl_1, zl_2, zl_3, zl_4, zl_5, zl_6, zl_7, zl_8, zl_9, zl_10, zl_11, zl_12, zl_13, zl_14, zl_15, zl_16, zl_17, zl_18, zl_19, zl_20, zl_21, zl_22, zl_23, zl_24, zl_25, zl_26, zl_27, zl_28, zl_29, zl_30, zl_31, zl_32, zl_33, zl_34, zl_35, zl_36, zl_37, zl_38, zl_39, zl_40, zl_41, zl_42, zl_43, zl_44, zl_45, zl_46, zl_47, zl_48, zl_49, zl_50, zl_51, zl_52, zl_53, zl_54, zl_55, zl_56, zl_57, zl_58, zl_59, zl_60, zl_61, zl_62, zl_63, zl_64, zl_65, zl_66, zl_80, zl_97, zl_99, zl_103, zl_107, zl_112, zl_115, zl_100, zl_180, zl_210, zl_238, zl_255, zl_256, zl_400, zl_1000, zl_1024, zl_1260, zl_2000, zl_7140, zl_7200, zl_18414, zl_65536, zl_131072, zl_9999, zl_999, zI_add, zI_sub, zI_mul, zI_neg, zI_lt, zI_le, zI_eq, zI_clamp, ck_z, ckp_z, qb_z, qb_z0, Option.bind_some, h8, at_z, Int.mul_zero, Int.zero_add, h10]
      rw [if_neg (by omega), if_neg (by omega)]
      exact ih
theorem thing_b41_yes (hw : FoldW Φ) (hm : FoldM 0 Φ mthings mquires firstLetter firstPage sizeOf placed kindOf catchOf) (i what : Int) (hi : 0 ≤ i) (hi2 : i < fT Φ) (hh : Hg (fK Φ i)) (h0 : 0 ≤ what) (h2 : what ≤ 2) (told : Int32) : ∀ (d n : Nat) (q : Int), q + d = fqo Φ i → 0 ≤ q → d < n → F_X8_thing_b41 mquires sizeOf placed n told (zI i) (zI what) (zI q) = some (zI (thAns Φ i what), told)
  | d, n + 1, q, hp, hp1, hn => by
    have hr := hw.1
    have g := (hw.2.2.2.1 i hi hi2).2.2 hh
    have hQ := hm.1.1
    have h9 := hw.2.1 q (by omega) (by omega)
    have hQ0 : mquires 0 = zI (fQ Φ) := hQ
    unfold F_X8_thing_b41
    rw [show (0 : Int32).toNatClampNeg = 0 from rfl, hQ0]
    simp (disch := omega) only [zl_0, zl_1, zl_2, zl_3, zl_4, zl_5, zl_6, zl_7, zl_8, zl_9, zl_10, zl_11, zl_12, zl_13, zl_14, zl_15, zl_16, zl_17, zl_18, zl_19, zl_20, zl_21, zl_22, zl_23, zl_24, zl_25, zl_26, zl_27, zl_28, zl_29, zl_30, zl_31, zl_32, zl_33, zl_34, zl_35, zl_36, zl_37, zl_38, zl_39, zl_40, zl_41, zl_42, zl_43, zl_44, zl_45, zl_46, zl_47, zl_48, zl_49, zl_50, zl_51, zl_52, zl_53, zl_54, zl_55, zl_56, zl_57, zl_58, zl_59, zl_60, zl_61, zl_62, zl_63, zl_64, zl_65, zl_66, zl_80, zl_97, zl_99, zl_103, zl_107, zl_112, zl_115, zl_100, zl_180, zl_210, zl_238, zl_255, zl_256, zl_400, zl_1000, zl_1024, zl_1260, zl_2000, zl_7140, zl_7200, zl_18414, zl_65536, zl_131072, zl_9999, zl_999, zI_add, zI_sub, zI_mul, zI_neg, zI_lt, zI_le, zI_eq, zI_clamp, ck_z, ckp_z, qb_z, qb_z0, Option.bind_some]
    rw [if_neg (by omega)]
    cases d with
    | zero =>
      have e := thing_b54_yes hw hm i what hi hi2 hh h0 h2 told (fun m_told x1 x2 x3 => F_X8_thing_b41 mquires sizeOf placed n m_told x1 x2 x3) (fpo Φ i - 1).toNat FU 1 (by omega) (by omega) (by have := hw.2.1 (fqo Φ i) g.1 g.2.1; unfold FU; omega)
      rw [show q = fqo Φ i by omega]
      exact e
    | succ d =>
      have e := thing_b54_no hw hm i what q (by omega) (by omega) hi hi2 (fun c => by omega) told (fun m_told x1 x2 x3 => F_X8_thing_b41 mquires sizeOf placed n m_told x1 x2 x3) (fS Φ q).toNat FU 1 (by omega) (by omega) (by unfold FU; omega)
      refine Eq.trans e ?_
      exact thing_b41_yes hw hm i what hi hi2 hh h0 h2 told d n (q + 1) (by omega) (by omega) (by omega)
theorem thing_b41_no (hw : FoldW Φ) (hm : FoldM 0 Φ mthings mquires firstLetter firstPage sizeOf placed kindOf catchOf) (i what : Int) (hi : 0 ≤ i) (hi2 : i < fT Φ) (hh : ¬ Hg (fK Φ i)) (told : Int32) : ∀ (d n : Nat) (q : Int), q + d = fQ Φ → 0 ≤ q → d < n → F_X8_thing_b41 mquires sizeOf placed n told (zI i) (zI what) (zI q) = some (zI (-1), told)
  | d, n + 1, q, hp, hp1, hn => by
    have hr := hw.1
    have hQ0 : mquires 0 = zI (fQ Φ) := hm.1.1
    unfold F_X8_thing_b41
    rw [show (0 : Int32).toNatClampNeg = 0 from rfl, hQ0]
    simp (disch := omega) only [zl_0, zl_1, zl_2, zl_3, zl_4, zl_5, zl_6, zl_7, zl_8, zl_9, zl_10, zl_11, zl_12, zl_13, zl_14, zl_15, zl_16, zl_17, zl_18, zl_19, zl_20, zl_21, zl_22, zl_23, zl_24, zl_25, zl_26, zl_27, zl_28, zl_29, zl_30, zl_31, zl_32, zl_33, zl_34, zl_35, zl_36, zl_37, zl_38, zl_39, zl_40, zl_41, zl_42, zl_43, zl_44, zl_45, zl_46, zl_47, zl_48, zl_49, zl_50, zl_51, zl_52, zl_53, zl_54, zl_55, zl_56, zl_57, zl_58, zl_59, zl_60, zl_61, zl_62, zl_63, zl_64, zl_65, zl_66, zl_80, zl_97, zl_99, zl_103, zl_107, zl_112, zl_115, zl_100, zl_180, zl_210, zl_238, zl_255, zl_256, zl_400, zl_1000, zl_1024, zl_1260, zl_2000, zl_7140, zl_7200, zl_18414, zl_65536, zl_131072, zl_9999, zl_999, zI_add, zI_sub, zI_mul, zI_neg, zI_lt, zI_le, zI_eq, zI_clamp, ck_z, ckp_z, qb_z, qb_z0, Option.bind_some]
    cases d with
    | zero => rw [if_pos (by omega)]
    | succ d =>
      have h9 := hw.2.1 q (by omega) (by omega)
      rw [if_neg (by omega)]
      have e := thing_b54_no hw hm i what q (by omega) (by omega) hi hi2 (fun c => hh c.1) told (fun m_told x1 x2 x3 => F_X8_thing_b41 mquires sizeOf placed n m_told x1 x2 x3) (fS Φ q).toNat FU 1 (by omega) (by omega) (by unfold FU; omega)
      refine Eq.trans e ?_
      exact thing_b41_no hw hm i what hi hi2 hh told d n (q + 1) (by omega) (by omega) (by omega)
theorem op_thing1 (hw : FoldW Φ) (hc : FoldC Φ quires things ghosts letter page sizes cells kinds words quireOf placeOf) (hm : FoldM 0 Φ mthings mquires firstLetter firstPage sizeOf placed kindOf catchOf) (ht : isThere 0 = 1) (told v1 v2 : Int32) : ∃ c1 c2, F_X7_thing quires things sizes cells kinds quireOf placeOf v1 v2 = some c1 ∧ F_X8_thing told isThere mthings mquires sizeOf placed v1 v2 = some c2 ∧ c1 = c2.1 := by
  obtain ⟨i, h1, h2, rfl⟩ := zI_of v1
  obtain ⟨w, h3, h4, rfl⟩ := zI_of v2
  have hr := hw.1
  have hT0 : mthings 0 = zI (fT Φ) := hm.1.2.1
  unfold F_X7_thing F_X8_thing
  rw [hangs_z hw hc i h1 h2, Option.bind_some, show (0 : Int32).toNatClampNeg = 0 from rfl, hT0, ht]
  by_cases h : 0 ≤ i ∧ i < fT Φ
  · by_cases hh : Hg (fK Φ i)
    · have g := (hw.2.2.2.1 i h.1 h.2).2.2 hh
      have hS := hw.2.1 (fqo Φ i) g.1 g.2.1
      have gc := hc.2.2.2.2 i h.1 h.2 hh
      have e1 := hasQuire_z (fQ Φ) (fqo Φ i) (by omega) (by omega) (by omega) (by omega)
      have e2 := thingAt_z hw hc (fqo Φ i) (fS Φ (fqo Φ i) + 1 - fpo Φ i) (by omega) (by omega) (by omega) (by omega)
      have e3 := hc.2.1 (fqo Φ i) g.1 g.2.1
      rw [if_pos (by omega)] at e2
      rw [decide_eq_true ⟨h.1, h.2, hh⟩, if_neg (by decide)]
      by_cases hwh : 0 ≤ w ∧ w ≤ 2
      · have e4 := thing_b41_yes hw hm i w h.1 h.2 hh hwh.1 hwh.2 0 (fqo Φ i).toNat FU 0 (by omega) (by omega) (by unfold FU; omega)
        rw [← zl_0] at e4
        obtain ⟨⟨rfl, rfl, rfl, rfl, rfl⟩, -⟩ := hc
        rw [decide_eq_true ⟨g.1, g.2.1⟩] at e1
        refine ⟨zI (thAns Φ i w), (zI (thAns Φ i w), 0), ?_, ?_, rfl⟩
        · unfold thAns
          by_cases w0 : w = 0
          · simp (disch := omega) only [zl_0, zl_1, zl_2, zl_3, zl_4, zl_5, zl_6, zl_7, zl_8, zl_9, zl_10, zl_11, zl_12, zl_13, zl_14, zl_15, zl_16, zl_17, zl_18, zl_19, zl_20, zl_21, zl_22, zl_23, zl_24, zl_25, zl_26, zl_27, zl_28, zl_29, zl_30, zl_31, zl_32, zl_33, zl_34, zl_35, zl_36, zl_37, zl_38, zl_39, zl_40, zl_41, zl_42, zl_43, zl_44, zl_45, zl_46, zl_47, zl_48, zl_49, zl_50, zl_51, zl_52, zl_53, zl_54, zl_55, zl_56, zl_57, zl_58, zl_59, zl_60, zl_61, zl_62, zl_63, zl_64, zl_65, zl_66, zl_80, zl_97, zl_99, zl_103, zl_107, zl_112, zl_115, zl_100, zl_180, zl_210, zl_238, zl_255, zl_256, zl_400, zl_1000, zl_1024, zl_1260, zl_2000, zl_7140, zl_7200, zl_18414, zl_65536, zl_131072, zl_9999, zl_999, zI_add, zI_sub, zI_mul, zI_neg, zI_lt, zI_le, zI_eq, zI_clamp, ck_z, ckp_z, qb_z, qb_z0, Option.bind_some, if_pos, if_neg, reduceIte, reduceCtorEq, Bool.false_eq_true, Bool.true_eq_false, gc.1, gc.2.1, gc.2.2, e1, e3, e2]
          · by_cases w1 : w = 1
            · simp (disch := omega) only [zl_0, zl_1, zl_2, zl_3, zl_4, zl_5, zl_6, zl_7, zl_8, zl_9, zl_10, zl_11, zl_12, zl_13, zl_14, zl_15, zl_16, zl_17, zl_18, zl_19, zl_20, zl_21, zl_22, zl_23, zl_24, zl_25, zl_26, zl_27, zl_28, zl_29, zl_30, zl_31, zl_32, zl_33, zl_34, zl_35, zl_36, zl_37, zl_38, zl_39, zl_40, zl_41, zl_42, zl_43, zl_44, zl_45, zl_46, zl_47, zl_48, zl_49, zl_50, zl_51, zl_52, zl_53, zl_54, zl_55, zl_56, zl_57, zl_58, zl_59, zl_60, zl_61, zl_62, zl_63, zl_64, zl_65, zl_66, zl_80, zl_97, zl_99, zl_103, zl_107, zl_112, zl_115, zl_100, zl_180, zl_210, zl_238, zl_255, zl_256, zl_400, zl_1000, zl_1024, zl_1260, zl_2000, zl_7140, zl_7200, zl_18414, zl_65536, zl_131072, zl_9999, zl_999, zI_add, zI_sub, zI_mul, zI_neg, zI_lt, zI_le, zI_eq, zI_clamp, ck_z, ckp_z, qb_z, qb_z0, Option.bind_some, if_pos, if_neg, reduceIte, reduceCtorEq, Bool.false_eq_true, Bool.true_eq_false, gc.1, gc.2.1, gc.2.2, e1, e3, e2]
            · simp (disch := omega) only [zl_0, zl_1, zl_2, zl_3, zl_4, zl_5, zl_6, zl_7, zl_8, zl_9, zl_10, zl_11, zl_12, zl_13, zl_14, zl_15, zl_16, zl_17, zl_18, zl_19, zl_20, zl_21, zl_22, zl_23, zl_24, zl_25, zl_26, zl_27, zl_28, zl_29, zl_30, zl_31, zl_32, zl_33, zl_34, zl_35, zl_36, zl_37, zl_38, zl_39, zl_40, zl_41, zl_42, zl_43, zl_44, zl_45, zl_46, zl_47, zl_48, zl_49, zl_50, zl_51, zl_52, zl_53, zl_54, zl_55, zl_56, zl_57, zl_58, zl_59, zl_60, zl_61, zl_62, zl_63, zl_64, zl_65, zl_66, zl_80, zl_97, zl_99, zl_103, zl_107, zl_112, zl_115, zl_100, zl_180, zl_210, zl_238, zl_255, zl_256, zl_400, zl_1000, zl_1024, zl_1260, zl_2000, zl_7140, zl_7200, zl_18414, zl_65536, zl_131072, zl_9999, zl_999, zI_add, zI_sub, zI_mul, zI_neg, zI_lt, zI_le, zI_eq, zI_clamp, ck_z, ckp_z, qb_z, qb_z0, Option.bind_some, if_pos, if_neg, reduceIte, reduceCtorEq, Bool.false_eq_true, Bool.true_eq_false, gc.1, gc.2.1, gc.2.2, e1, e3, e2]
        · rw [if_neg (by decide), e4]
          simp (disch := omega) only [zl_0, zl_1, zl_2, zl_3, zl_4, zl_5, zl_6, zl_7, zl_8, zl_9, zl_10, zl_11, zl_12, zl_13, zl_14, zl_15, zl_16, zl_17, zl_18, zl_19, zl_20, zl_21, zl_22, zl_23, zl_24, zl_25, zl_26, zl_27, zl_28, zl_29, zl_30, zl_31, zl_32, zl_33, zl_34, zl_35, zl_36, zl_37, zl_38, zl_39, zl_40, zl_41, zl_42, zl_43, zl_44, zl_45, zl_46, zl_47, zl_48, zl_49, zl_50, zl_51, zl_52, zl_53, zl_54, zl_55, zl_56, zl_57, zl_58, zl_59, zl_60, zl_61, zl_62, zl_63, zl_64, zl_65, zl_66, zl_80, zl_97, zl_99, zl_103, zl_107, zl_112, zl_115, zl_100, zl_180, zl_210, zl_238, zl_255, zl_256, zl_400, zl_1000, zl_1024, zl_1260, zl_2000, zl_7140, zl_7200, zl_18414, zl_65536, zl_131072, zl_9999, zl_999, zI_add, zI_sub, zI_mul, zI_neg, zI_lt, zI_le, zI_eq, zI_clamp, ck_z, ckp_z, qb_z, qb_z0, Option.bind_some, if_pos, if_neg, reduceIte, reduceCtorEq, Bool.false_eq_true, Bool.true_eq_false]
      · simp (disch := omega) only [zl_0, zl_1, zl_2, zl_3, zl_4, zl_5, zl_6, zl_7, zl_8, zl_9, zl_10, zl_11, zl_12, zl_13, zl_14, zl_15, zl_16, zl_17, zl_18, zl_19, zl_20, zl_21, zl_22, zl_23, zl_24, zl_25, zl_26, zl_27, zl_28, zl_29, zl_30, zl_31, zl_32, zl_33, zl_34, zl_35, zl_36, zl_37, zl_38, zl_39, zl_40, zl_41, zl_42, zl_43, zl_44, zl_45, zl_46, zl_47, zl_48, zl_49, zl_50, zl_51, zl_52, zl_53, zl_54, zl_55, zl_56, zl_57, zl_58, zl_59, zl_60, zl_61, zl_62, zl_63, zl_64, zl_65, zl_66, zl_80, zl_97, zl_99, zl_103, zl_107, zl_112, zl_115, zl_100, zl_180, zl_210, zl_238, zl_255, zl_256, zl_400, zl_1000, zl_1024, zl_1260, zl_2000, zl_7140, zl_7200, zl_18414, zl_65536, zl_131072, zl_9999, zl_999, zI_add, zI_sub, zI_mul, zI_neg, zI_lt, zI_le, zI_eq, zI_clamp, ck_z, ckp_z, qb_z, qb_z0, Option.bind_some]
        rw [if_neg (by omega), if_neg (by omega), if_neg (by omega)]
        refine ⟨zI (-1), (zI (-1), zI 0), rfl, ?_, rfl⟩
        (repeat' split) <;> first | rfl | contradiction | (exfalso; omega)
    · rw [decide_eq_false (fun c => hh c.2.2), if_pos (by decide)]
      have e4 := thing_b41_no hw hm i w h.1 h.2 hh 0 (fQ Φ).toNat FU 0 (by omega) (by omega) (by unfold FU; omega)
      rw [← zl_0] at e4
      rw [e4]
      simp (disch := omega) only [zl_0, zl_1, zl_2, zl_3, zl_4, zl_5, zl_6, zl_7, zl_8, zl_9, zl_10, zl_11, zl_12, zl_13, zl_14, zl_15, zl_16, zl_17, zl_18, zl_19, zl_20, zl_21, zl_22, zl_23, zl_24, zl_25, zl_26, zl_27, zl_28, zl_29, zl_30, zl_31, zl_32, zl_33, zl_34, zl_35, zl_36, zl_37, zl_38, zl_39, zl_40, zl_41, zl_42, zl_43, zl_44, zl_45, zl_46, zl_47, zl_48, zl_49, zl_50, zl_51, zl_52, zl_53, zl_54, zl_55, zl_56, zl_57, zl_58, zl_59, zl_60, zl_61, zl_62, zl_63, zl_64, zl_65, zl_66, zl_80, zl_97, zl_99, zl_103, zl_107, zl_112, zl_115, zl_100, zl_180, zl_210, zl_238, zl_255, zl_256, zl_400, zl_1000, zl_1024, zl_1260, zl_2000, zl_7140, zl_7200, zl_18414, zl_65536, zl_131072, zl_9999, zl_999, zI_add, zI_sub, zI_mul, zI_neg, zI_lt, zI_le, zI_eq, zI_clamp, ck_z, ckp_z, qb_z, qb_z0, Option.bind_some]
      refine ⟨zI (-1), (zI (-1), zI 0), rfl, ?_, rfl⟩
      (repeat' split) <;> first | rfl | contradiction | (exfalso; omega)
  · rw [decide_eq_false (fun c => h ⟨c.1, c.2.1⟩), if_pos (by decide)]
    simp (disch := omega) only [zl_0, zl_1, zl_2, zl_3, zl_4, zl_5, zl_6, zl_7, zl_8, zl_9, zl_10, zl_11, zl_12, zl_13, zl_14, zl_15, zl_16, zl_17, zl_18, zl_19, zl_20, zl_21, zl_22, zl_23, zl_24, zl_25, zl_26, zl_27, zl_28, zl_29, zl_30, zl_31, zl_32, zl_33, zl_34, zl_35, zl_36, zl_37, zl_38, zl_39, zl_40, zl_41, zl_42, zl_43, zl_44, zl_45, zl_46, zl_47, zl_48, zl_49, zl_50, zl_51, zl_52, zl_53, zl_54, zl_55, zl_56, zl_57, zl_58, zl_59, zl_60, zl_61, zl_62, zl_63, zl_64, zl_65, zl_66, zl_80, zl_97, zl_99, zl_103, zl_107, zl_112, zl_115, zl_100, zl_180, zl_210, zl_238, zl_255, zl_256, zl_400, zl_1000, zl_1024, zl_1260, zl_2000, zl_7140, zl_7200, zl_18414, zl_65536, zl_131072, zl_9999, zl_999, zI_add, zI_sub, zI_mul, zI_neg, zI_lt, zI_le, zI_eq, zI_clamp, ck_z, ckp_z, qb_z, qb_z0, Option.bind_some]
    refine ⟨zI (-1), (zI (-1), zI 0), rfl, ?_, rfl⟩
    (repeat' split) <;> first | rfl | contradiction | (exfalso; omega)
end FD

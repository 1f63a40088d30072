def TapE (n : Int) (b t : Nat → Int32) : Prop := ∀ i, 0 ≤ i → i < n → b i.toNat = t i.toNat ∧ 0 ≤ (b i.toNat).toInt ∧ (b i.toNat).toInt ≤ 255
def TapR (b : Nat → Int32) (l : Int32) (t : Nat → Int32) (tl : Int32) : Prop := ∃ n : Int, 0 ≤ n ∧ n ≤ 400 ∧ l = zI n ∧ tl = zI n ∧ TapE n b t
theorem TapE_add {n : Int} {b t : Nat → Int32} (hn : 0 ≤ n) (h : TapE n b t) (x : Int32) (h0 : 0 ≤ x.toInt) (h1 : x.toInt ≤ 255) : TapE (n + 1) (upd b n.toNat x) (upd t n.toNat x) := by
  intro i hi hi2
  rw [upd_z b x hn hi, upd_z t x hn hi]
  by_cases e : i = n
  · rw [if_pos e, if_pos e]
    exact ⟨rfl, h0, h1⟩
  · rw [if_neg e, if_neg e]
    exact h i hi (by omega)
theorem and255 (x : Int32) : x &&& 255 = nI (x.toBitVec.toNat % 256) := pk_and x 8 (by decide)
theorem tn_ti (x : Int32) : x.toInt = if 2 * x.toBitVec.toNat < 4294967296 then (x.toBitVec.toNat : Int) else (x.toBitVec.toNat : Int) - 4294967296 := BitVec.toInt_eq_toNat_cond x.toBitVec
theorem and255b (x : Int32) : 0 ≤ (x &&& 255).toInt ∧ (x &&& 255).toInt ≤ 255 := by
  rw [and255, nI_zI, zI_toInt (by omega) (by omega)]
  omega
theorem by24 (x : Int32) : ((x.toUInt32 >>> ((24 : Int32).toUInt32 &&& Int32.toUInt32 31)).toInt32) &&& 255 = (x >>> ((24 : Int32) &&& 31)) &&& 255 := by
  rw [and255, and255, pk_ushr x 24 24 (by decide)]
  have h := pk_shr x ((24 : Int32) &&& 31) 24 (by decide)
  rw [Int.shiftRight_eq_div_pow, tn_ti x, tn_ti (x >>> ((24 : Int32) &&& 31))] at h
  congr 1
  have h1 := x.toBitVec.isLt
  have h2 := (x >>> ((24 : Int32) &&& 31)).toBitVec.isLt
  simp only [Int.reducePow, Nat.reducePow, Int.natCast_pow] at *
  split at h <;> split at h <;> omega
theorem by16 (x : Int32) : ((x.toUInt32 >>> ((16 : Int32).toUInt32 &&& Int32.toUInt32 31)).toInt32) &&& 255 = (x >>> ((16 : Int32) &&& 31)) &&& 255 := by
  rw [and255, and255, pk_ushr x 16 16 (by decide)]
  have h := pk_shr x ((16 : Int32) &&& 31) 16 (by decide)
  rw [Int.shiftRight_eq_div_pow, tn_ti x, tn_ti (x >>> ((16 : Int32) &&& 31))] at h
  congr 1
  have h1 := x.toBitVec.isLt
  have h2 := (x >>> ((16 : Int32) &&& 31)).toBitVec.isLt
  simp only [Int.reducePow, Nat.reducePow, Int.natCast_pow] at *
  split at h <;> split at h <;> omega
theorem by8 (x : Int32) : ((x.toUInt32 >>> ((8 : Int32).toUInt32 &&& Int32.toUInt32 31)).toInt32) &&& 255 = (x >>> ((8 : Int32) &&& 31)) &&& 255 := by
  rw [and255, and255, pk_ushr x 8 8 (by decide)]
  have h := pk_shr x ((8 : Int32) &&& 31) 8 (by decide)
  rw [Int.shiftRight_eq_div_pow, tn_ti x, tn_ti (x >>> ((8 : Int32) &&& 31))] at h
  congr 1
  have h1 := x.toBitVec.isLt
  have h2 := (x >>> ((8 : Int32) &&& 31)).toBitVec.isLt
  simp only [Int.reducePow, Nat.reducePow, Int.natCast_pow] at *
  split at h <;> split at h <;> omega
theorem by0 (x : Int32) : x &&& 255 = (x >>> ((0 : Int32) &&& 31)) &&& 255 := by
  have h := pk_shr x ((0 : Int32) &&& 31) 0 (by decide)
  rw [Int.shiftRight_zero] at h
  have e : x >>> ((0 : Int32) &&& 31) = x := Int32.toInt_inj.mp h
  rw [e]
theorem add_z (b : Nat → Int32) (n : Int) (x : Int32) (h0 : 0 ≤ n) (h1 : n < 400) : F_X6_add b (zI n) x = some (upd b n.toNat x, zI (n + 1)) := by
  unfold F_X6_add
  simp (disch := omega) only [zl_0, zl_1, zl_2, zl_3, zl_4, zl_5, zl_6, zl_7, zl_8, zl_9, zl_10, zl_11, zl_12, zl_13, zl_14, zl_15, zl_16, zl_17, zl_18, zl_19, zl_20, zl_21, zl_22, zl_23, zl_24, zl_25, zl_26, zl_27, zl_28, zl_29, zl_30, zl_31, zl_32, zl_33, zl_34, zl_35, zl_36, zl_37, zl_38, zl_39, zl_40, zl_41, zl_42, zl_43, zl_44, zl_45, zl_46, zl_47, zl_48, zl_49, zl_50, zl_51, zl_52, zl_53, zl_54, zl_55, zl_56, zl_57, zl_58, zl_59, zl_60, zl_61, zl_62, zl_63, zl_64, zl_65, zl_66, zl_80, zl_97, zl_99, zl_103, zl_107, zl_112, zl_115, zl_100, zl_180, zl_210, zl_238, zl_255, zl_256, zl_400, zl_1000, zl_1024, zl_1260, zl_2000, zl_7140, zl_7200, zl_18414, zl_65536, zl_131072, zl_9999, zl_999, zI_add, zI_sub, zI_mul, zI_neg, zI_lt, zI_le, zI_eq, zI_clamp, ck_z, ckp_z, qb_z, qb_z0, Option.bind_some]
  rw [if_neg (by omega), if_neg (by omega)]
theorem puts_z (t : Nat → Int32) (n : Int) (x : Int32) (h0 : 0 ≤ n) (h1 : n + 4 ≤ 400) : F_X8_puts t (zI n) x = some (upd (upd (upd (upd t n.toNat ((x >>> ((24 : Int32) &&& 31)) &&& 255)) (n + 1).toNat ((x >>> ((16 : Int32) &&& 31)) &&& 255)) (n + 1 + 1).toNat ((x >>> ((8 : Int32) &&& 31)) &&& 255)) (n + 1 + 1 + 1).toNat ((x >>> ((0 : Int32) &&& 31)) &&& 255), zI (n + 4)) := by
  have e (m : Nat) (t : Nat → Int32) (l z : Int32) : F_X8_puts_b3 (m + 1) t l x z = if z < 0 then some (t, l) else ck (inb l 400) <| F_X8_puts_b3 m (upd t l.toNatClampNeg ((x >>> (z &&& 31)) &&& 255)) (l + 1) x (z + (-8)) := rfl
  unfold F_X8_puts
  show F_X8_puts_b3 (1048571 + 1 + 1 + 1 + 1 + 1) t (zI n) x 24 = _
  rw [e, if_neg (by decide), ck_z (by omega) (by omega) (by omega), zI_clamp (by omega) (by omega), zl_1, zI_add, show (24 : Int32) + (-8) = 16 by decide,
    e, if_neg (by decide), ck_z (by omega) (by omega) (by omega), zI_clamp (by omega) (by omega), zl_1, zI_add, show (16 : Int32) + (-8) = 8 by decide,
    e, if_neg (by decide), ck_z (by omega) (by omega) (by omega), zI_clamp (by omega) (by omega), zl_1, zI_add, show (8 : Int32) + (-8) = 0 by decide,
    e, if_neg (by decide), ck_z (by omega) (by omega) (by omega), zI_clamp (by omega) (by omega), zl_1, zI_add, show (0 : Int32) + (-8) = -8 by decide,
    e, if_pos (by decide), show n + 1 + 1 + 1 + 1 = n + 4 by omega]
theorem addInt_puts {n : Int} {b t : Nat → Int32} (h0 : 0 ≤ n) (h1 : n + 4 ≤ 400) (h : TapE n b t) (x : Int32) : ∃ b' t', F_X6_addInt b (zI n) x = some (b', zI (n + 4)) ∧ F_X8_puts t (zI n) x = some (t', zI (n + 4)) ∧ TapE (n + 4) b' t' := by
  refine ⟨upd (upd (upd (upd b n.toNat ((x >>> ((24 : Int32) &&& 31)) &&& 255)) (n + 1).toNat ((x >>> ((16 : Int32) &&& 31)) &&& 255)) (n + 1 + 1).toNat ((x >>> ((8 : Int32) &&& 31)) &&& 255)) (n + 1 + 1 + 1).toNat ((x >>> ((0 : Int32) &&& 31)) &&& 255), _, ?_, puts_z t n x h0 h1, ?_⟩
  · unfold F_X6_addInt
    rw [add_z b n _ h0 (by omega), Option.bind_some, add_z _ (n + 1) _ (by omega) (by omega), Option.bind_some, add_z _ (n + 1 + 1) _ (by omega) (by omega), Option.bind_some, add_z _ (n + 1 + 1 + 1) _ (by omega) (by omega), Option.bind_some, by24, by16, by8, show n + 1 + 1 + 1 + 1 = n + 4 by omega, ← by0]
  · have g1 := TapE_add h0 h ((x >>> ((24 : Int32) &&& 31)) &&& 255) (and255b _).1 (and255b _).2
    have g2 := TapE_add (by omega) g1 ((x >>> ((16 : Int32) &&& 31)) &&& 255) (and255b _).1 (and255b _).2
    have g3 := TapE_add (by omega) g2 ((x >>> ((8 : Int32) &&& 31)) &&& 255) (and255b _).1 (and255b _).2
    have g4 := TapE_add (by omega) g3 ((x >>> ((0 : Int32) &&& 31)) &&& 255) (and255b _).1 (and255b _).2
    rw [show n + 1 + 1 + 1 + 1 = n + 4 by omega] at g4
    exact g4
theorem op_feed {b t : Nat → Int32} {l tl : Int32} (h : TapR b l t tl) (told v1 v2 v3 v4 v5 : Int32) : ∃ c1 c2, F_X7_feed b l v1 v2 v3 v4 v5 = some c1 ∧ F_X8_feed told t tl v1 v2 v3 v4 v5 = some c2 ∧ c1.1 = c2.1 ∧ TapR c1.2.1 c1.2.2 c2.2.2.1 c2.2.2.2 := by
  obtain ⟨n, h0, h1, rfl, rfl, hE⟩ := h
  unfold F_X7_feed F_X8_feed
  by_cases hn : n + 20 ≤ 400
  · have e : zI n + 20 ≤ 400 := by simp (disch := omega) only [zl_0, zl_1, zl_2, zl_3, zl_4, zl_5, zl_6, zl_7, zl_8, zl_9, zl_10, zl_11, zl_12, zl_13, zl_14, zl_15, zl_16, zl_17, zl_18, zl_19, zl_20, zl_21, zl_22, zl_23, zl_24, zl_25, zl_26, zl_27, zl_28, zl_29, zl_30, zl_31, zl_32, zl_33, zl_34, zl_35, zl_36, zl_37, zl_38, zl_39, zl_40, zl_41, zl_42, zl_43, zl_44, zl_45, zl_46, zl_47, zl_48, zl_49, zl_50, zl_51, zl_52, zl_53, zl_54, zl_55, zl_56, zl_57, zl_58, zl_59, zl_60, zl_61, zl_62, zl_63, zl_64, zl_65, zl_66, zl_80, zl_97, zl_99, zl_103, zl_107, zl_112, zl_115, zl_100, zl_180, zl_210, zl_238, zl_255, zl_256, zl_400, zl_1000, zl_1024, zl_1260, zl_2000, zl_7140, zl_7200, zl_18414, zl_65536, zl_131072, zl_9999, zl_999, zI_add, zI_sub, zI_mul, zI_neg, zI_lt, zI_le, zI_eq, zI_clamp, ck_z, ckp_z, qb_z, qb_z0, Option.bind_some]; exact hn
    rw [if_pos e, if_pos e]
    obtain ⟨b1, t1, p1, q1, E1⟩ := addInt_puts h0 (by omega) hE v1
    obtain ⟨b2, t2, p2, q2, E2⟩ := addInt_puts (by omega) (by omega) E1 v2
    obtain ⟨b3, t3, p3, q3, E3⟩ := addInt_puts (by omega) (by omega) E2 v3
    obtain ⟨b4, t4, p4, q4, E4⟩ := addInt_puts (by omega) (by omega) E3 v4
    obtain ⟨b5, t5, p5, q5, E5⟩ := addInt_puts (by omega) (by omega) E4 v5
    rw [p1, q1, Option.bind_some, Option.bind_some, p2, q2, Option.bind_some, Option.bind_some, p3, q3, Option.bind_some, Option.bind_some, p4, q4, Option.bind_some, Option.bind_some, p5, q5]
    exact ⟨_, _, rfl, rfl, rfl, _, by omega, by omega, rfl, rfl, E5⟩
  · have e : ¬ zI n + 20 ≤ 400 := by simp (disch := omega) only [zl_0, zl_1, zl_2, zl_3, zl_4, zl_5, zl_6, zl_7, zl_8, zl_9, zl_10, zl_11, zl_12, zl_13, zl_14, zl_15, zl_16, zl_17, zl_18, zl_19, zl_20, zl_21, zl_22, zl_23, zl_24, zl_25, zl_26, zl_27, zl_28, zl_29, zl_30, zl_31, zl_32, zl_33, zl_34, zl_35, zl_36, zl_37, zl_38, zl_39, zl_40, zl_41, zl_42, zl_43, zl_44, zl_45, zl_46, zl_47, zl_48, zl_49, zl_50, zl_51, zl_52, zl_53, zl_54, zl_55, zl_56, zl_57, zl_58, zl_59, zl_60, zl_61, zl_62, zl_63, zl_64, zl_65, zl_66, zl_80, zl_97, zl_99, zl_103, zl_107, zl_112, zl_115, zl_100, zl_180, zl_210, zl_238, zl_255, zl_256, zl_400, zl_1000, zl_1024, zl_1260, zl_2000, zl_7140, zl_7200, zl_18414, zl_65536, zl_131072, zl_9999, zl_999, zI_add, zI_sub, zI_mul, zI_neg, zI_lt, zI_le, zI_eq, zI_clamp, ck_z, ckp_z, qb_z, qb_z0, Option.bind_some]; exact hn
    rw [if_neg e, if_neg e]
    exact ⟨_, _, rfl, rfl, rfl, n, h0, h1, rfl, rfl, hE⟩
theorem op_end {b t : Nat → Int32} {l tl : Int32} (h : TapR b l t tl) (told v1 : Int32) : ∃ c1 c2, F_X7_end l v1 = some c1 ∧ F_X8_end told tl v1 = some c2 ∧ c1.1 = c2.1 ∧ TapR b c1.2 t c2.2.2 := by
  obtain ⟨n, h0, h1, rfl, rfl, hE⟩ := h
  obtain ⟨a, ha1, ha2, rfl⟩ := zI_of v1
  unfold F_X7_end F_X8_end
  simp (disch := omega) only [zl_0, zl_1, zl_2, zl_3, zl_4, zl_5, zl_6, zl_7, zl_8, zl_9, zl_10, zl_11, zl_12, zl_13, zl_14, zl_15, zl_16, zl_17, zl_18, zl_19, zl_20, zl_21, zl_22, zl_23, zl_24, zl_25, zl_26, zl_27, zl_28, zl_29, zl_30, zl_31, zl_32, zl_33, zl_34, zl_35, zl_36, zl_37, zl_38, zl_39, zl_40, zl_41, zl_42, zl_43, zl_44, zl_45, zl_46, zl_47, zl_48, zl_49, zl_50, zl_51, zl_52, zl_53, zl_54, zl_55, zl_56, zl_57, zl_58, zl_59, zl_60, zl_61, zl_62, zl_63, zl_64, zl_65, zl_66, zl_80, zl_97, zl_99, zl_103, zl_107, zl_112, zl_115, zl_100, zl_180, zl_210, zl_238, zl_255, zl_256, zl_400, zl_1000, zl_1024, zl_1260, zl_2000, zl_7140, zl_7200, zl_18414, zl_65536, zl_131072, zl_9999, zl_999, zI_add, zI_sub, zI_mul, zI_neg, zI_lt, zI_le, zI_eq, zI_clamp, ck_z, ckp_z, qb_z, qb_z0, Option.bind_some]
  by_cases h2 : a < 0
  · rw [if_pos h2, if_pos h2]
    exact ⟨_, _, rfl, rfl, rfl, n, h0, h1, rfl, rfl, hE⟩
  · rw [if_neg h2, if_neg h2]
    by_cases h3 : a ≤ n
    · rw [if_pos h3, if_pos h3]
      exact ⟨_, _, rfl, rfl, rfl, a, by omega, by omega, rfl, rfl, fun i hi hi2 => hE i hi (by omega)⟩
    · rw [if_neg h3, if_neg h3]
      exact ⟨_, _, rfl, rfl, rfl, n, h0, h1, rfl, rfl, hE⟩
theorem op_out {b t : Nat → Int32} {l tl : Int32} (h : TapR b l t tl) (told v1 : Int32) : ∃ c1 c2, F_X7_out b l v1 = some c1 ∧ F_X8_out told t tl v1 = some c2 ∧ c1 = c2.1 := by
  obtain ⟨n, h0, h1, rfl, rfl, hE⟩ := h
  obtain ⟨a, ha1, ha2, rfl⟩ := zI_of v1
  unfold F_X7_out F_X8_out F_X6_signAt
  by_cases h2 : 0 ≤ a ∧ a < n
  · have g := (hE a h2.1 h2.2).1
    simp (disch := omega) only [zl_0, zl_1, zl_2, zl_3, zl_4, zl_5, zl_6, zl_7, zl_8, zl_9, zl_10, zl_11, zl_12, zl_13, zl_14, zl_15, zl_16, zl_17, zl_18, zl_19, zl_20, zl_21, zl_22, zl_23, zl_24, zl_25, zl_26, zl_27, zl_28, zl_29, zl_30, zl_31, zl_32, zl_33, zl_34, zl_35, zl_36, zl_37, zl_38, zl_39, zl_40, zl_41, zl_42, zl_43, zl_44, zl_45, zl_46, zl_47, zl_48, zl_49, zl_50, zl_51, zl_52, zl_53, zl_54, zl_55, zl_56, zl_57, zl_58, zl_59, zl_60, zl_61, zl_62, zl_63, zl_64, zl_65, zl_66, zl_80, zl_97, zl_99, zl_103, zl_107, zl_112, zl_115, zl_100, zl_180, zl_210, zl_238, zl_255, zl_256, zl_400, zl_1000, zl_1024, zl_1260, zl_2000, zl_7140, zl_7200, zl_18414, zl_65536, zl_131072, zl_9999, zl_999, zI_add, zI_sub, zI_mul, zI_neg, zI_lt, zI_le, zI_eq, zI_clamp, ck_z, ckp_z, qb_z, qb_z0, Option.bind_some]
    rw [if_neg (by omega), if_neg (by omega), if_neg (by omega), if_neg (by omega), if_neg (by omega), g]
    exact ⟨_, _, rfl, rfl, rfl⟩
  · simp (disch := omega) only [zl_0, zl_1, zl_2, zl_3, zl_4, zl_5, zl_6, zl_7, zl_8, zl_9, zl_10, zl_11, zl_12, zl_13, zl_14, zl_15, zl_16, zl_17, zl_18, zl_19, zl_20, zl_21, zl_22, zl_23, zl_24, zl_25, zl_26, zl_27, zl_28, zl_29, zl_30, zl_31, zl_32, zl_33, zl_34, zl_35, zl_36, zl_37, zl_38, zl_39, zl_40, zl_41, zl_42, zl_43, zl_44, zl_45, zl_46, zl_47, zl_48, zl_49, zl_50, zl_51, zl_52, zl_53, zl_54, zl_55, zl_56, zl_57, zl_58, zl_59, zl_60, zl_61, zl_62, zl_63, zl_64, zl_65, zl_66, zl_80, zl_97, zl_99, zl_103, zl_107, zl_112, zl_115, zl_100, zl_180, zl_210, zl_238, zl_255, zl_256, zl_400, zl_1000, zl_1024, zl_1260, zl_2000, zl_7140, zl_7200, zl_18414, zl_65536, zl_131072, zl_9999, zl_999, zI_add, zI_sub, zI_mul, zI_neg, zI_lt, zI_le, zI_eq, zI_clamp, ck_z, ckp_z, qb_z, qb_z0, Option.bind_some]
    by_cases h3 : a < 0
    · rw [if_pos h3, if_pos h3]
      exact ⟨_, _, rfl, rfl, rfl⟩
    · rw [if_neg h3, if_neg h3, if_pos (by omega), if_pos (by omega)]
      exact ⟨_, _, rfl, rfl, rfl⟩
theorem take_b31_z (o : Nat → Int32) (told : Int32) (n : Int) (hn : n ≤ 400) : ∀ (d m : Nat) (q : Int) (t : Nat → Int32), q + d = n → 0 ≤ q → d < m → ∃ t', F_X8_take__b31 o m told t (zI n) (zI q) = some (zI n, told, t', zI n) ∧ (∀ i, 0 ≤ i → i < q → t' i.toNat = t i.toNat) ∧ ∀ i, q ≤ i → i < n → t' i.toNat = o i.toNat
  | 0, m + 1, q, t, hq, h0, _ => by
    unfold F_X8_take__b31
    simp (disch := omega) only [zl_0, zl_1, zl_2, zl_3, zl_4, zl_5, zl_6, zl_7, zl_8, zl_9, zl_10, zl_11, zl_12, zl_13, zl_14, zl_15, zl_16, zl_17, zl_18, zl_19, zl_20, zl_21, zl_22, zl_23, zl_24, zl_25, zl_26, zl_27, zl_28, zl_29, zl_30, zl_31, zl_32, zl_33, zl_34, zl_35, zl_36, zl_37, zl_38, zl_39, zl_40, zl_41, zl_42, zl_43, zl_44, zl_45, zl_46, zl_47, zl_48, zl_49, zl_50, zl_51, zl_52, zl_53, zl_54, zl_55, zl_56, zl_57, zl_58, zl_59, zl_60, zl_61, zl_62, zl_63, zl_64, zl_65, zl_66, zl_80, zl_97, zl_99, zl_103, zl_107, zl_112, zl_115, zl_100, zl_180, zl_210, zl_238, zl_255, zl_256, zl_400, zl_1000, zl_1024, zl_1260, zl_2000, zl_7140, zl_7200, zl_18414, zl_65536, zl_131072, zl_9999, zl_999, zI_add, zI_sub, zI_mul, zI_neg, zI_lt, zI_le, zI_eq, zI_clamp, ck_z, ckp_z, qb_z, qb_z0, Option.bind_some]
    rw [if_pos (by omega)]
    exact ⟨t, rfl, fun _ _ _ => rfl, fun i h1 h2 => by exfalso; omega⟩
  | d + 1, m + 1, q, t, hq, h0, hm => by
    obtain ⟨t', e, g1, g2⟩ := take_b31_z o told n hn d m (q + 1) (upd t q.toNat (o q.toNat)) (by omega) (by omega) (by omega)
    unfold F_X8_take__b31
    simp (disch := omega) only [zl_0, zl_1, zl_2, zl_3, zl_4, zl_5, zl_6, zl_7, zl_8, zl_9, zl_10, zl_11, zl_12, zl_13, zl_14, zl_15, zl_16, zl_17, zl_18, zl_19, zl_20, zl_21, zl_22, zl_23, zl_24, zl_25, zl_26, zl_27, zl_28, zl_29, zl_30, zl_31, zl_32, zl_33, zl_34, zl_35, zl_36, zl_37, zl_38, zl_39, zl_40, zl_41, zl_42, zl_43, zl_44, zl_45, zl_46, zl_47, zl_48, zl_49, zl_50, zl_51, zl_52, zl_53, zl_54, zl_55, zl_56, zl_57, zl_58, zl_59, zl_60, zl_61, zl_62, zl_63, zl_64, zl_65, zl_66, zl_80, zl_97, zl_99, zl_103, zl_107, zl_112, zl_115, zl_100, zl_180, zl_210, zl_238, zl_255, zl_256, zl_400, zl_1000, zl_1024, zl_1260, zl_2000, zl_7140, zl_7200, zl_18414, zl_65536, zl_131072, zl_9999, zl_999, zI_add, zI_sub, zI_mul, zI_neg, zI_lt, zI_le, zI_eq, zI_clamp, ck_z, ckp_z, qb_z, qb_z0, Option.bind_some]
    rw [if_neg (by omega), e]
    refine ⟨t', rfl, fun i hi hi2 => ?_, fun i hi hi2 => ?_⟩
    · rw [g1 i hi (by omega), upd_z t _ h0 hi, if_neg (by omega)]
    · by_cases e2 : i = q
      · rw [g1 i (by omega) (by omega), upd_z t _ h0 (by omega), if_pos e2, e2]
      · exact g2 i (by omega) hi2
theorem op_take {b t o m : Nat → Int32} {l tl ol ml : Int32} (ho : TapR o ol m ml) (told : Int32) : ∃ c1 c2, F_X7_take b l o ol = some c1 ∧ F_X8_take_ told m ml t tl = some c2 ∧ c1.1 = c2.1 ∧ TapR c1.2.1 c1.2.2 c2.2.2.1 c2.2.2.2 := by
  obtain ⟨n, h0, h1, rfl, rfl, hE⟩ := ho
  unfold F_X7_take F_X8_take_ F_X6_become
  obtain ⟨t', e, -, g⟩ := take_b31_z m 0 n h1 n.toNat FU 0 t (by omega) (by omega) (by unfold FU; omega)
  have e2 : (if (400 : Int32) ≤ zI n then F_X8_take__b31 m FU 0 t 400 0 else F_X8_take__b31 m FU 0 t (zI n) 0) = some (zI n, 0, t', zI n) := by
    by_cases hn : n = 400
    · subst hn
      rw [if_pos (by decide)]
      exact e
    · rw [if_neg (by simp (disch := omega) only [zl_0, zl_1, zl_2, zl_3, zl_4, zl_5, zl_6, zl_7, zl_8, zl_9, zl_10, zl_11, zl_12, zl_13, zl_14, zl_15, zl_16, zl_17, zl_18, zl_19, zl_20, zl_21, zl_22, zl_23, zl_24, zl_25, zl_26, zl_27, zl_28, zl_29, zl_30, zl_31, zl_32, zl_33, zl_34, zl_35, zl_36, zl_37, zl_38, zl_39, zl_40, zl_41, zl_42, zl_43, zl_44, zl_45, zl_46, zl_47, zl_48, zl_49, zl_50, zl_51, zl_52, zl_53, zl_54, zl_55, zl_56, zl_57, zl_58, zl_59, zl_60, zl_61, zl_62, zl_63, zl_64, zl_65, zl_66, zl_80, zl_97, zl_99, zl_103, zl_107, zl_112, zl_115, zl_100, zl_180, zl_210, zl_238, zl_255, zl_256, zl_400, zl_1000, zl_1024, zl_1260, zl_2000, zl_7140, zl_7200, zl_18414, zl_65536, zl_131072, zl_9999, zl_999, zI_add, zI_sub, zI_mul, zI_neg, zI_lt, zI_le, zI_eq, zI_clamp, ck_z, ckp_z, qb_z, qb_z0, Option.bind_some]; omega)]
      exact e
  rw [e2]
  refine ⟨_, _, rfl, rfl, rfl, n, h0, h1, rfl, rfl, fun i hi hi2 => ?_⟩
  show va_cpy o b 0 0 400 i.toNat = _ ∧ _
  have e3 : va_cpy o b 0 0 400 i.toNat = o i.toNat := by
    unfold va_cpy
    rw [if_pos (by omega)]
    congr 1
    omega
  have e4 : va_cpy o b (0 : Int32).toNatClampNeg (0 : Int32).toNatClampNeg (400 : Int32).toNatClampNeg i.toNat = o i.toNat := e3
  have g5 := hE i hi hi2
  refine ⟨?_, ?_⟩
  · show va_cpy o b 0 0 400 i.toNat = t' i.toNat
    rw [e3, g i hi hi2, g5.1]
  · show 0 ≤ (va_cpy o b 0 0 400 i.toNat).toInt ∧ (va_cpy o b 0 0 400 i.toNat).toInt ≤ 255
    rw [e3]
    exact g5.2

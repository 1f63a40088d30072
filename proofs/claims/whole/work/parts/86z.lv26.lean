theorem nI_or (a b : Nat) : nI a ||| nI b = nI (a ||| b) := by
  apply Int32.toBitVec_inj.mp
  apply BitVec.eq_of_toNat_eq
  show (BitVec.ofNat 32 a ||| BitVec.ofNat 32 b).toNat = (BitVec.ofNat 32 (a ||| b)).toNat
  rw [BitVec.toNat_or, BitVec.toNat_ofNat, BitVec.toNat_ofNat, BitVec.toNat_ofNat, Nat.or_mod_two_pow]
theorem nI_and (a b : Nat) : nI a &&& nI b = nI (a &&& b) := by
  apply Int32.toBitVec_inj.mp
  apply BitVec.eq_of_toNat_eq
  show (BitVec.ofNat 32 a &&& BitVec.ofNat 32 b).toNat = (BitVec.ofNat 32 (a &&& b)).toNat
  rw [BitVec.toNat_and, BitVec.toNat_ofNat, BitVec.toNat_ofNat, BitVec.toNat_ofNat, Nat.and_mod_two_pow]
theorem nI_bit (G i : Nat) (hi : i ≤ 30) : (nI G &&& nI (2 ^ i) = 0) ↔ G / 2 ^ i % 2 = 0 := by
  have hp : 2 ^ i < 2147483648 := Nat.lt_of_le_of_lt (Nat.pow_le_pow_right (by omega) hi) (by decide : 2 ^ 30 < 2147483648)
  have hle : G &&& 2 ^ i ≤ 2 ^ i := Nat.and_le_right
  have z : (nI (G &&& 2 ^ i) = 0) ↔ G &&& 2 ^ i = 0 := by
    rw [nI_zI]
    generalize hx : G &&& 2 ^ i = x at *
    have : (zI (x : Int) = 0) = ((x : Int) = 0) := by rw [zl_0]; exact zI_eq (by omega) (by omega) (by omega) (by omega)
    rw [this]
    omega
  have tb : G.testBit i = decide (G / 2 ^ i % 2 = 1) := Nat.testBit_eq_decide_div_mod_eq
  rw [nI_and, z]
  by_cases c : G / 2 ^ i % 2 = 1
  · rw [decide_eq_true c] at tb
    refine ⟨fun x => ?_, fun x => by omega⟩
    have : (G &&& 2 ^ i).testBit i = true := by rw [Nat.testBit_and, tb, Nat.testBit_two_pow_self]; rfl
    rw [x, Nat.zero_testBit] at this
    exact absurd this (by decide)
  · rw [decide_eq_false c] at tb
    refine ⟨fun _ => by omega, fun _ => ?_⟩
    apply Nat.eq_of_testBit_eq
    intro k
    rw [Nat.testBit_and, Nat.zero_testBit]
    by_cases e : i = k
    · rw [← e, tb]; rfl
    · rw [Nat.testBit_two_pow_of_ne e, Bool.and_false]
/-- what a sort tells: lost, things -/
def slo (p : Nat) : Nat := p / 4 % 5
def sth (p : Nat) : Nat := 2 * (p / 4 / 5) + 2 - p / 4 % 5
def gcode (p a n : Nat) : Nat := a * 262144 + (p % 2) * 131072 + (p / 2 % 2) * 65536 + slo p * 4096 + sth p * 256 + n
theorem or_pw (a b i : Nat) (h : b < 2 ^ i) : 2 ^ i * a ||| b = 2 ^ i * a + b := (Nat.two_pow_add_eq_or_of_lt h a).symm
theorem gor (a l m n : Nat) (hl : l ≤ 4) (hm : m ≤ 8) (hn : n < 256) : ((a * 262144 ||| l * 4096) ||| m * 256) ||| n = a * 262144 + l * 4096 + m * 256 + n := by
  rw [show a * 262144 = 2 ^ 18 * a by omega, or_pw a (l * 4096) 18 (by omega), show 2 ^ 18 * a + l * 4096 = 2 ^ 12 * (64 * a + l) by omega, or_pw _ (m * 256) 12 (by omega), show 2 ^ 12 * (64 * a + l) + m * 256 = 2 ^ 8 * (16 * (64 * a + l) + m) by omega, or_pw _ n 8 (by omega)]
theorem gor16 (a y : Nat) (hy : y < 65536) : (a * 262144 + y) ||| 65536 = a * 262144 + 65536 + y := by
  rw [show a * 262144 + y = 2 ^ 18 * a + y by omega, ← or_pw a y 18 (by omega), Nat.or_assoc, Nat.or_comm y, show 65536 ||| y = 2 ^ 16 * 1 ||| y from rfl, or_pw 1 y 16 (by omega), or_pw a _ 18 (by omega)]
  omega
theorem gor17 (a y : Nat) (hy : y < 131072) : (a * 262144 + y) ||| 131072 = a * 262144 + 131072 + y := by
  rw [show a * 262144 + y = 2 ^ 18 * a + y by omega, ← or_pw a y 18 (by omega), Nat.or_assoc, Nat.or_comm y, show 131072 ||| y = 2 ^ 17 * 1 ||| y from rfl, or_pw 1 y 17 (by omega), or_pw a _ 18 (by omega)]
  omega
theorem srt_d : ∀ p, p < 80 → (nI p / 4 - nI p / 4 / 5 * 5 = nI (slo p)) ∧ (slo p < 2 * (p / 4 / 5) + 2 → ((2 : Int32) * (nI p / 4 / 5) + 2) - (nI p / 4 - nI p / 4 / 5 * 5) = nI (sth p)) ∧ ((nI p &&& 2 = 0) ↔ p / 2 % 2 = 0) ∧ ((nI p &&& 1 = 0) ↔ p % 2 = 0) := by decide +kernel
theorem slo_b (p : Nat) : slo p ≤ 4 := by unfold slo; omega
theorem sth_b {p : Nat} (h : p < 80) : sth p ≤ 8 := by unfold sth; omega
theorem gcode_b {p a n : Nat} (hp : p < 80) (ha : a ≤ 57) (hn : n < 256) : gcode p a n < 2147483648 := by
  have := slo_b p
  have := sth_b hp
  unfold gcode
  omega
theorem shl_d18 : ∀ a, a < 58 → nI a <<< ((18 : Int32) &&& 31) = nI (a * 262144) := by decide +kernel
theorem shl_d12 : ∀ a, a < 5 → nI a <<< ((12 : Int32) &&& 31) = nI (a * 4096) := by decide +kernel
theorem shl_d8 : ∀ a, a < 9 → nI a <<< ((8 : Int32) &&& 31) = nI (a * 256) := by decide +kernel
/-- the sort is that of some lay -/
def sok (p : Nat) : Prop := p < 80 ∧ slo p < 2 * (p / 4 / 5) + 2
theorem addGroup_z (groups gcs : NF) (t ah : Int) (p n k : Nat) (t0 : 0 ≤ t) (t1 : t < 30) (hp : sok p) (a0 : -1 ≤ ah) (a1 : ah ≤ 56) (hn : n < 256) (hk : gcs t.toNat = nI k) (hk2 : k < 238) : F_X4_addGroup groups gcs (zI t) (nI p) (zI ah) (nI n) = some (upd groups (t * 238 + k).toNat (nI (gcode p (ah + 1).toNat n)), upd gcs t.toNat (nI (k + 1))) := by
  obtain ⟨d1, d2, d3, d4⟩ := srt_d p hp.1
  have d2' := d2 hp.2
  have l1 : ¬ nI k < 0 := by rw [nI_zI]; simp (disch := omega) only [zl_0, zl_1, zl_2, zl_3, zl_4, zl_5, zl_6, zl_7, zl_8, zl_9, zl_10, zl_11, zl_12, zl_13, zl_14, zl_15, zl_16, zl_17, zl_18, zl_19, zl_20, zl_21, zl_22, zl_23, zl_24, zl_25, zl_26, zl_27, zl_28, zl_29, zl_30, zl_31, zl_32, zl_33, zl_34, zl_35, zl_36, zl_37, zl_38, zl_39, zl_40, zl_41, zl_42, zl_43, zl_44, zl_45, zl_46, zl_47, zl_48, zl_49, zl_50, zl_51, zl_52, zl_53, zl_54, zl_55, zl_56, zl_57, zl_58, zl_59, zl_60, zl_61, zl_62, zl_63, zl_64, zl_65, zl_66, zl_80, zl_97, zl_99, zl_103, zl_107, zl_112, zl_115, zl_100, zl_180, zl_210, zl_238, zl_255, zl_256, zl_400, zl_1000, zl_1024, zl_1260, zl_2000, zl_7140, zl_7200, zl_18414, zl_65536, zl_131072, zl_9999, zl_999, zI_add, zI_sub, zI_mul, zI_neg, zI_lt, zI_le, zI_eq, zI_clamp, ck_z, ckp_z, qb_z, qb_z0, Option.bind_some]; omega
  have l2 : nI k < 238 := by rw [nI_zI, show (238 : Int32) = zI 238 from rfl]; simp (disch := omega) only [zl_0, zl_1, zl_2, zl_3, zl_4, zl_5, zl_6, zl_7, zl_8, zl_9, zl_10, zl_11, zl_12, zl_13, zl_14, zl_15, zl_16, zl_17, zl_18, zl_19, zl_20, zl_21, zl_22, zl_23, zl_24, zl_25, zl_26, zl_27, zl_28, zl_29, zl_30, zl_31, zl_32, zl_33, zl_34, zl_35, zl_36, zl_37, zl_38, zl_39, zl_40, zl_41, zl_42, zl_43, zl_44, zl_45, zl_46, zl_47, zl_48, zl_49, zl_50, zl_51, zl_52, zl_53, zl_54, zl_55, zl_56, zl_57, zl_58, zl_59, zl_60, zl_61, zl_62, zl_63, zl_64, zl_65, zl_66, zl_80, zl_97, zl_99, zl_103, zl_107, zl_112, zl_115, zl_100, zl_180, zl_210, zl_238, zl_255, zl_256, zl_400, zl_1000, zl_1024, zl_1260, zl_2000, zl_7140, zl_7200, zl_18414, zl_65536, zl_131072, zl_9999, zl_999, zI_add, zI_sub, zI_mul, zI_neg, zI_lt, zI_le, zI_eq, zI_clamp, ck_z, ckp_z, qb_z, qb_z0, Option.bind_some]; omega
  have ea : zI ah + 1 = nI (ah + 1).toNat := by rw [zl_1, zI_add, zI_nI (by omega)]
  have hl := slo_b p
  have hm := sth_b hp.1
  have e0 : (((nI (ah + 1).toNat <<< ((18 : Int32) &&& 31)) ||| (nI (slo p) <<< ((12 : Int32) &&& 31))) ||| (nI (sth p) <<< ((8 : Int32) &&& 31))) ||| nI n = nI ((ah + 1).toNat * 262144 + (slo p * 4096 + sth p * 256 + n)) := by
    rw [shl_d18 _ (by omega), shl_d12 _ (by omega), shl_d8 _ (by omega), nI_or, nI_or, nI_or, gor _ _ _ _ hl hm hn, show (ah + 1).toNat * 262144 + slo p * 4096 + sth p * 256 + n = (ah + 1).toNat * 262144 + (slo p * 4096 + sth p * 256 + n) by omega]
  have ei : zI t * 238 + nI k = zI (t * 238 + k) := by rw [show (238 : Int32) = zI 238 from rfl, nI_zI, zI_mul, zI_add]
  have ek : nI k + 1 = nI (k + 1) := by rw [nI_zI, nI_zI, zl_1, zI_add]; congr 1
  have b92 (G : Nat) : F_X4_addGroup_b92 groups gcs (zI t) (nI k) (nI G) = some (upd groups (t * 238 + k).toNat (nI G), upd gcs t.toNat (nI (k + 1))) := by
    unfold F_X4_addGroup_b92
    rw [ei, ck_z (by omega) (by omega) (by omega), ck_z t0 (by omega) (by omega), zI_clamp (by omega) (by omega), zI_clamp (by omega) (by omega), ek]
  have e16 : (65536 : Int32) = nI 65536 := rfl
  have e17 : (131072 : Int32) = nI 131072 := rfl
  unfold F_X4_addGroup
  rw [ck_z t0 (by omega) (by omega), zI_clamp (by omega) (by omega), hk, if_neg l1, if_pos l2, d2', d1, ea, e0]
  unfold F_X4_addGroup_b79
  by_cases c1 : p / 2 % 2 = 0
  · rw [if_pos (d3.mpr c1)]
    by_cases c2 : p % 2 = 0
    · have eg : gcode p (ah + 1).toNat n = (ah + 1).toNat * 262144 + (slo p * 4096 + sth p * 256 + n) := by unfold gcode; rw [c1, c2]; omega
      rw [if_pos (d4.mpr c2), b92, eg]
    · have eg : gcode p (ah + 1).toNat n = (ah + 1).toNat * 262144 + 131072 + (slo p * 4096 + sth p * 256 + n) := by unfold gcode; rw [c1, show p % 2 = 1 by omega]; omega
      rw [if_neg (fun x => c2 (d4.mp x)), e17, nI_or, gor17 _ _ (by omega), b92, eg]
  · rw [if_neg (fun x => c1 (d3.mp x)), e16, nI_or, gor16 _ _ (by omega)]
    by_cases c2 : p % 2 = 0
    · have eg : gcode p (ah + 1).toNat n = (ah + 1).toNat * 262144 + 65536 + (slo p * 4096 + sth p * 256 + n) := by unfold gcode; rw [show p / 2 % 2 = 1 by omega, c2]; omega
      rw [if_pos (d4.mpr c2), b92, eg]
    · have eg : gcode p (ah + 1).toNat n = (ah + 1).toNat * 262144 + 131072 + (65536 + (slo p * 4096 + sth p * 256 + n)) := by unfold gcode; rw [show p / 2 % 2 = 1 by omega, show p % 2 = 1 by omega]; omega
      rw [if_neg (fun x => c2 (d4.mp x)), e17, nI_or, Nat.add_assoc, gor17 _ _ (by omega), b92, eg]
theorem gdec (p a n : Nat) (hp : p < 80) (ha : a ≤ 57) (hn : n < 256) : (nI (gcode p a n) >>> ((8 : Int32) &&& 31)) &&& 15 = nI (sth p) ∧ (nI (gcode p a n) >>> ((18 : Int32) &&& 31)) - 1 = zI ((a : Int) - 1) ∧ (nI (gcode p a n) >>> ((12 : Int32) &&& 31)) &&& 15 = nI (slo p) ∧ nI (gcode p a n) &&& 255 = nI n ∧ ((nI (gcode p a n) &&& 65536 = 0) ↔ p / 2 % 2 = 0) ∧ ((nI (gcode p a n) &&& 131072 = 0) ↔ p % 2 = 0) := by
  have hb := gcode_b hp ha hn
  have hl := slo_b p
  have hm := sth_b hp
  have s8 : nI (gcode p a n) >>> ((8 : Int32) &&& 31) = nI (gcode p a n / 2 ^ 8) := pk_shrN (by omega) _ 8 (by decide)
  have s12 : nI (gcode p a n) >>> ((12 : Int32) &&& 31) = nI (gcode p a n / 2 ^ 12) := pk_shrN (by omega) _ 12 (by decide)
  have s18 : nI (gcode p a n) >>> ((18 : Int32) &&& 31) = nI (gcode p a n / 2 ^ 18) := pk_shrN (by omega) _ 18 (by decide)
  have m15 (g : Nat) (hg : g < 2147483648) : nI g &&& 15 = nI (g % 2 ^ 4) := pk_andN (by omega) 4 (by decide)
  have m255 (g : Nat) (hg : g < 2147483648) : nI g &&& 255 = nI (g % 2 ^ 8) := pk_andN (by omega) 8 (by decide)
  have b16 := nI_bit (gcode p a n) 16 (by omega)
  have b17 := nI_bit (gcode p a n) 17 (by omega)
  rw [s8, s12, s18, m15 _ (by omega), m15 _ (by omega), m255 _ hb]
  refine ⟨?_, ?_, ?_, ?_, ?_, ?_⟩
  · congr 1
    unfold gcode
    omega
  · rw [nI_zI, zl_1, zI_sub]
    congr 1
    unfold gcode
    omega
  · congr 1
    unfold gcode
    omega
  · congr 1
    unfold gcode
    omega
  · rw [show (65536 : Int32) = nI (2 ^ 16) from rfl, b16]
    unfold gcode
    omega
  · rw [show (131072 : Int32) = nI (2 ^ 17) from rfl, b17]
    unfold gcode
    omega

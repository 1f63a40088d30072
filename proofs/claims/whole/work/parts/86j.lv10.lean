def popc (k : Nat) : Nat := k % 2 + k / 2 % 2 + k / 4 % 2 + k / 8 % 2 + k / 16 % 2 + k / 32 % 2 + k / 64 % 2 + k / 128 % 2
theorem popc_s : ∀ k, k < 256 → k ≠ 0 → nI k &&& (nI k - 1) = nI (k &&& (k - 1)) ∧ popc (k &&& (k - 1)) + 1 = popc k ∧ (k &&& (k - 1)) < 256 := by decide +kernel
theorem popc_0 : ∀ k, k < 256 → popc k = 0 → k = 0 := by decide +kernel
theorem popc_b (k : Nat) : popc k ≤ 8 := by unfold popc; omega
theorem ones_b4_z : ∀ (d m k : Nat) (x : Int), popc k = d → k < 256 → d < m → F_X8_ones_b4 m (zI x) (nI k) = some (zI (x + d))
  | 0, m + 1, k, x, hd, hk, _ => by
    have e := popc_0 k hk hd
    subst e
    rw [F_X8_ones_b4, if_pos (by rfl), show x + ((0 : Nat) : Int) = x by omega]
  | d + 1, m + 1, k, x, hd, hk, hm => by
    have k0 : k ≠ 0 := by intro e; subst e; have : popc 0 = 0 := rfl; omega
    obtain ⟨e1, e2, e3⟩ := popc_s k hk k0
    have q : ¬ nI k = 0 := by rw [nI_zI]; simp (disch := omega) only [zl_0, zl_1, zl_2, zl_3, zl_4, zl_5, zl_6, zl_7, zl_8, zl_9, zl_10, zl_11, zl_12, zl_13, zl_14, zl_15, zl_16, zl_17, zl_18, zl_19, zl_20, zl_21, zl_22, zl_23, zl_24, zl_25, zl_26, zl_27, zl_28, zl_29, zl_30, zl_31, zl_32, zl_33, zl_34, zl_35, zl_36, zl_37, zl_38, zl_39, zl_40, zl_41, zl_42, zl_43, zl_44, zl_45, zl_46, zl_47, zl_48, zl_49, zl_50, zl_51, zl_52, zl_53, zl_54, zl_55, zl_56, zl_57, zl_58, zl_59, zl_60, zl_61, zl_62, zl_63, zl_64, zl_65, zl_66, zl_80, zl_97, zl_99, zl_103, zl_107, zl_112, zl_115, zl_100, zl_180, zl_210, zl_238, zl_255, zl_256, zl_400, zl_1000, zl_1024, zl_1260, zl_2000, zl_7140, zl_7200, zl_18414, zl_65536, zl_131072, zl_9999, zl_999, zI_add, zI_sub, zI_mul, zI_neg, zI_lt, zI_le, zI_eq, zI_clamp, ck_z, ckp_z, qb_z, qb_z0, Option.bind_some]; omega
    have ez : zI x + 1 = zI (x + 1) := by rw [zl_1, zI_add]
    rw [F_X8_ones_b4, if_neg q, e1, ez, ones_b4_z d m _ (x + 1) (by omega) e3 (by omega), show x + 1 + (d : Int) = x + ((d + 1 : Nat) : Int) by omega]
theorem ones_z (k : Nat) (hk : k < 256) : F_X8_ones (nI k) = some (zI (popc k)) := by
  have e := ones_b4_z (popc k) FU k 0 rfl hk (by have := popc_b k; unfold FU; omega)
  unfold F_X8_ones
  rw [zl_0, e, Int.zero_add]
theorem bit_s : ∀ k, k < 256 → ∀ s, s < 8 → (nI k >>> (nI s &&& 31)) &&& 1 = nI (k / 2 ^ s % 2) := by decide +kernel
theorem pow_s : ∀ s, s < 9 → (1 : Int32) <<< (nI s &&& 31) = nI (2 ^ s) := by decide +kernel
/-- the place p of a quire of s leaves is a ghost, by the mask k -/
abbrev Gh (k s : Nat) (p : Int) : Prop := k / 2 ^ (s - p.toNat) % 2 = 1
theorem bit_z (k s : Nat) (p : Int) (hk : k < 256) (hs : s ≤ 8) (p0 : 1 ≤ p) (p1 : p ≤ s) : (nI k >>> ((zI s - zI p) &&& 31)) &&& 1 = zI (if Gh k s p then 1 else 0) := by
  have e : zI (s : Int) - zI p = nI (s - p.toNat) := by
    rw [zI_sub, nI_zI]
    congr 1
    omega
  rw [e, bit_s k hk (s - p.toNat) (by omega), nI_zI]
  congr 1
  by_cases c : Gh k s p
  · rw [if_pos c]
    have c' : k / 2 ^ (s - p.toNat) % 2 = 1 := c
    omega
  · rw [if_neg c]
    have c' : ¬ k / 2 ^ (s - p.toNat) % 2 = 1 := c
    omega
theorem isGhost_z (k s : Nat) (p : Int) (hk : k < 256) (hs : s ≤ 8) (p0 : 1 ≤ p) (p1 : p ≤ s) : F_X7_isGhost (nI k) (zI s) (zI p) = some (decide (Gh k s p)) := by
  unfold F_X7_isGhost
  rw [bit_z k s p hk hs p0 p1]
  by_cases c : Gh k s p
  · rw [if_pos c, if_neg (by decide), decide_eq_true c]
  · rw [if_neg c, if_pos (by rfl), decide_eq_false c]
/-- the zeros behind the last one of the mask -/
def tz (k : Nat) : Nat := if k % 2 = 1 then 0 else if k / 2 % 2 = 1 then 1 else if k / 4 % 2 = 1 then 2 else if k / 8 % 2 = 1 then 3 else if k / 16 % 2 = 1 then 4 else if k / 32 % 2 = 1 then 5 else if k / 64 % 2 = 1 then 6 else 7
theorem ntz_z : ∀ k, k < 256 → k ≠ 0 → F_J6_numberOfTrailingZeros_0f7a4 (nI k) = some (nI (tz k)) := by decide +kernel
/-- the mask's last ghost stands at s - tz: itself a ghost, none behind it; the masks from k on up to the next that differs there share what lies ahead -/
theorem tz_g : ∀ k, k < 256 → k ≠ 0 → k / 2 ^ (tz k) % 2 = 1 ∧ k % 2 ^ (tz k) = 0 ∧ tz k ≤ 7 := by decide +kernel
/-- things among the first p places -/
def thg (k s : Nat) : Nat → Int
  | 0 => 0
  | p + 1 => thg k s p + (if Gh k s ((p + 1 : Nat) : Int) then 0 else 1)
theorem thg_b (k s : Nat) : ∀ p : Nat, 0 ≤ thg k s p ∧ thg k s p ≤ p
  | 0 => by unfold thg; omega
  | p + 1 => by
    have := thg_b k s p
    unfold thg
    split <;> omega
theorem thg_popc : ∀ s, s < 9 → ∀ k, k < 2 ^ s → thg k s s + popc k = s := by decide +kernel

def rI (σ κ π : Int → Int) (n : Nat) (size : Int) : Nat → Fold → Fold
  | 0, Φ => Φ
  | k + 1, Φ => rI σ κ π n size k (rQ σ κ π n size Φ)
theorem rI_f (σ κ π : Int → Int) (n : Nat) (size : Int) : ∀ (k : Nat) (Φ : Fold), fQ (rI σ κ π n size k Φ) = fQ Φ + k ∧ fL (rI σ κ π n size k Φ) = fL Φ ∧ fP (rI σ κ π n size k Φ) = fP Φ
  | 0, Φ => ⟨by simp only [rI]; omega, rfl, rfl⟩
  | k + 1, Φ => by
    have h := rQ_f σ κ π n size Φ
    have ih := rI_f σ κ π n size k (rQ σ κ π n size Φ)
    simp only [rI]
    rw [ih.1, ih.2.1, ih.2.2, h.1, h.2.2.1, h.2.2.2]
    exact ⟨by omega, rfl, rfl⟩
section RQ
variable {σ κ π : Int → Int} {states lk lp codes ep ek : NF}
theorem rI_w (n : Nat) (hk : ∀ j, 0 ≤ j → j < (n : Int) → 3 ≤ κ j ∧ κ j ≤ 5) (size : Int) (hsz : 2 ≤ size ∧ size ≤ 8 ∧ size % 2 = 0) : ∀ (k : Nat) (Φ : Fold) (l : Int), PW Φ l → Wz Φ → (0 < fQ Φ → l = fS Φ (fQ Φ - 1)) → fQ Φ + k ≤ 8 → 0 < k → PW (rI σ κ π n size k Φ) size ∧ Wz (rI σ κ π n size k Φ) ∧ fS (rI σ κ π n size k Φ) (fQ (rI σ κ π n size k Φ) - 1) = size
  | 0, _, _, _, _, _, _, h => absurd h (by omega)
  | k + 1, Φ, l, hw, hz, hl, hQ, _ => by
    have h1 := PW_rQ (σ := σ) (π := π) n size hk hw hz hl (by omega) hsz
    have hf := rQ_f σ κ π n size Φ
    have hl1 : fS (rQ σ κ π n size Φ) (fQ (rQ σ κ π n size Φ) - 1) = size := by rw [hf.2.1, hf.1, if_pos (by omega)]
    simp only [rI]
    cases k with
    | zero => exact ⟨h1.1, h1.2, hl1⟩
    | succ k => exact rI_w n hk size hsz (k + 1) _ size h1.1 h1.2 (fun _ => hl1.symm) (by rw [hf.1]; omega) (by omega)
theorem rI_T (n : Nat) (size : Int) (hs : 0 ≤ size) (hs8 : size ≤ 8) : ∀ (k : Nat) (Φ : Fold), fT (rI σ κ π n size k Φ) ≤ fT Φ + k * (16 + n)
  | 0, Φ => by simp only [rI]; omega
  | k + 1, Φ => by
    have h := (rQ_T σ κ π n size Φ hs).1
    have ih := rI_T n size hs hs8 k (rQ σ κ π n size Φ)
    simp only [rI]
    have e : ((k + 1 : Nat) : Int) * (16 + n) = k * (16 + n) + (16 + n) := by
      rw [show ((k + 1 : Nat) : Int) = (k : Int) + 1 from rfl, Int.add_mul, Int.one_mul]
    omega
/-- the class lays its quires -/
theorem b161_z (hσ : StC σ states) (hσw : StW σ) (n : Nat) (hs : ∀ j, 0 ≤ j → j < (n : Int) → lk j.toNat = zI (κ j) ∧ lp j.toNat = zI (π j)) (hk : ∀ j, 0 ≤ j → j < (n : Int) → 3 ≤ κ j ∧ κ j ≤ 5 ∧ 0 ≤ π j ∧ π j ≤ 8) (hn : n ≤ 31) (size : Int) (hsz : 2 ≤ size ∧ size ≤ 8 ∧ size % 2 = 0) (fa fp pos la is ip letter page : Int32) (g : Int) (hg : 0 ≤ g ∧ g ≤ 100) (at' last : Int) (hlast : last < 100) (n0 : n = 0 ∨ True) : ∀ (d m : Nat) (q : Int) (Φ : Fold) (l : Int) (quires things ghosts : Int32) (sizes cells kinds words quireOf placeOf : NF) (laid : Int32), q + d = last + 1 → 0 ≤ q → d < m → PW Φ l → Wz Φ → (0 < fQ Φ → l = fS Φ (fQ Φ - 1)) → fQ Φ + d ≤ 8 → fT Φ + d * (16 + n) < 500 → (d = 0 → l = fS Φ (fQ Φ - 1) ∨ True) → PC Φ l quires things ghosts letter page laid sizes cells kinds words quireOf placeOf →
    ((size ≤ g ∨ 30 < fT (rI σ κ π n size d Φ)) → ∃ r, F_X3_readQuire_b161 m fa fp pos la states lk lp (zI n) (zI g) (zI size) is ip quires things ghosts letter sizes cells kinds words quireOf placeOf laid (zI at') (zI last) (zI q) = some (false, zI 4, zI at', r)) ∧
    (¬ (size ≤ g ∨ 30 < fT (rI σ κ π n size d Φ)) → ∃ quires' things' ghosts' sizes' cells' kinds' words' quireOf' placeOf' laid', F_X3_readQuire_b161 m fa fp pos la states lk lp (zI n) (zI g) (zI size) is ip quires things ghosts letter sizes cells kinds words quireOf placeOf laid (zI at') (zI last) (zI q) = some (true, fa, fp, pos, la, states, lk, lp, zI n, zI g, zI size, is, ip, quires', things', ghosts', letter, sizes', cells', kinds', words', quireOf', placeOf', laid') ∧ PC (rI σ κ π n size d Φ) (if d = 0 then l else size) quires' things' ghosts' letter page laid' sizes' cells' kinds' words' quireOf' placeOf')
  | 0, m + 1, q, Φ, l, quires, things, ghosts, sizes, cells, kinds, words, quireOf, placeOf, laid, hq, hq0, _, hw, hz, hl, hQ, hT, _, hc => by
    have hr := hw.1
    have eT := hc.1.2.1
    have er : rI σ κ π n size 0 Φ = Φ := rfl
    rw [er, F_X3_readQuire_b161]
    have l1 : zI last < zI q := by simp (disch := omega) only [zl_0, zl_1, zl_2, zl_3, zl_4, zl_5, zl_6, zl_7, zl_8, zl_9, zl_10, zl_11, zl_12, zl_13, zl_14, zl_15, zl_16, zl_17, zl_18, zl_19, zl_20, zl_21, zl_22, zl_23, zl_24, zl_25, zl_26, zl_27, zl_28, zl_29, zl_30, zl_31, zl_32, zl_33, zl_34, zl_35, zl_36, zl_37, zl_38, zl_39, zl_40, zl_41, zl_42, zl_43, zl_44, zl_45, zl_46, zl_47, zl_48, zl_49, zl_50, zl_51, zl_52, zl_53, zl_54, zl_55, zl_56, zl_57, zl_58, zl_59, zl_60, zl_61, zl_62, zl_63, zl_64, zl_65, zl_66, zl_80, zl_97, zl_99, zl_103, zl_107, zl_112, zl_115, zl_100, zl_180, zl_210, zl_238, zl_255, zl_256, zl_400, zl_1000, zl_1024, zl_1260, zl_2000, zl_7140, zl_7200, zl_18414, zl_65536, zl_131072, zl_9999, zl_999, zI_add, zI_sub, zI_mul, zI_neg, zI_lt, zI_le, zI_eq, zI_clamp, ck_z, ckp_z, qb_z, qb_z0, Option.bind_some]; omega
    rw [if_pos l1]
    unfold F_X3_readQuire_b199 F_X3_fail
    refine ⟨fun h => ?_, fun h => ?_⟩
    · by_cases h1 : size ≤ g
      · have l2 : zI size ≤ zI g := by simp (disch := omega) only [zl_0, zl_1, zl_2, zl_3, zl_4, zl_5, zl_6, zl_7, zl_8, zl_9, zl_10, zl_11, zl_12, zl_13, zl_14, zl_15, zl_16, zl_17, zl_18, zl_19, zl_20, zl_21, zl_22, zl_23, zl_24, zl_25, zl_26, zl_27, zl_28, zl_29, zl_30, zl_31, zl_32, zl_33, zl_34, zl_35, zl_36, zl_37, zl_38, zl_39, zl_40, zl_41, zl_42, zl_43, zl_44, zl_45, zl_46, zl_47, zl_48, zl_49, zl_50, zl_51, zl_52, zl_53, zl_54, zl_55, zl_56, zl_57, zl_58, zl_59, zl_60, zl_61, zl_62, zl_63, zl_64, zl_65, zl_66, zl_80, zl_97, zl_99, zl_103, zl_107, zl_112, zl_115, zl_100, zl_180, zl_210, zl_238, zl_255, zl_256, zl_400, zl_1000, zl_1024, zl_1260, zl_2000, zl_7140, zl_7200, zl_18414, zl_65536, zl_131072, zl_9999, zl_999, zI_add, zI_sub, zI_mul, zI_neg, zI_lt, zI_le, zI_eq, zI_clamp, ck_z, ckp_z, qb_z, qb_z0, Option.bind_some]; exact h1
        rw [if_pos l2]
        exact ⟨_, rfl⟩
      · have l2 : ¬ zI size ≤ zI g := by simp (disch := omega) only [zl_0, zl_1, zl_2, zl_3, zl_4, zl_5, zl_6, zl_7, zl_8, zl_9, zl_10, zl_11, zl_12, zl_13, zl_14, zl_15, zl_16, zl_17, zl_18, zl_19, zl_20, zl_21, zl_22, zl_23, zl_24, zl_25, zl_26, zl_27, zl_28, zl_29, zl_30, zl_31, zl_32, zl_33, zl_34, zl_35, zl_36, zl_37, zl_38, zl_39, zl_40, zl_41, zl_42, zl_43, zl_44, zl_45, zl_46, zl_47, zl_48, zl_49, zl_50, zl_51, zl_52, zl_53, zl_54, zl_55, zl_56, zl_57, zl_58, zl_59, zl_60, zl_61, zl_62, zl_63, zl_64, zl_65, zl_66, zl_80, zl_97, zl_99, zl_103, zl_107, zl_112, zl_115, zl_100, zl_180, zl_210, zl_238, zl_255, zl_256, zl_400, zl_1000, zl_1024, zl_1260, zl_2000, zl_7140, zl_7200, zl_18414, zl_65536, zl_131072, zl_9999, zl_999, zI_add, zI_sub, zI_mul, zI_neg, zI_lt, zI_le, zI_eq, zI_clamp, ck_z, ckp_z, qb_z, qb_z0, Option.bind_some]; exact h1
        have l3 : ¬ things ≤ 30 := by rw [eT]; simp (disch := omega) only [zl_0, zl_1, zl_2, zl_3, zl_4, zl_5, zl_6, zl_7, zl_8, zl_9, zl_10, zl_11, zl_12, zl_13, zl_14, zl_15, zl_16, zl_17, zl_18, zl_19, zl_20, zl_21, zl_22, zl_23, zl_24, zl_25, zl_26, zl_27, zl_28, zl_29, zl_30, zl_31, zl_32, zl_33, zl_34, zl_35, zl_36, zl_37, zl_38, zl_39, zl_40, zl_41, zl_42, zl_43, zl_44, zl_45, zl_46, zl_47, zl_48, zl_49, zl_50, zl_51, zl_52, zl_53, zl_54, zl_55, zl_56, zl_57, zl_58, zl_59, zl_60, zl_61, zl_62, zl_63, zl_64, zl_65, zl_66, zl_80, zl_97, zl_99, zl_103, zl_107, zl_112, zl_115, zl_100, zl_180, zl_210, zl_238, zl_255, zl_256, zl_400, zl_1000, zl_1024, zl_1260, zl_2000, zl_7140, zl_7200, zl_18414, zl_65536, zl_131072, zl_9999, zl_999, zI_add, zI_sub, zI_mul, zI_neg, zI_lt, zI_le, zI_eq, zI_clamp, ck_z, ckp_z, qb_z, qb_z0, Option.bind_some]; omega
        rw [if_neg l2, if_neg l3]
        exact ⟨_, rfl⟩
    · have l2 : ¬ zI size ≤ zI g := by simp (disch := omega) only [zl_0, zl_1, zl_2, zl_3, zl_4, zl_5, zl_6, zl_7, zl_8, zl_9, zl_10, zl_11, zl_12, zl_13, zl_14, zl_15, zl_16, zl_17, zl_18, zl_19, zl_20, zl_21, zl_22, zl_23, zl_24, zl_25, zl_26, zl_27, zl_28, zl_29, zl_30, zl_31, zl_32, zl_33, zl_34, zl_35, zl_36, zl_37, zl_38, zl_39, zl_40, zl_41, zl_42, zl_43, zl_44, zl_45, zl_46, zl_47, zl_48, zl_49, zl_50, zl_51, zl_52, zl_53, zl_54, zl_55, zl_56, zl_57, zl_58, zl_59, zl_60, zl_61, zl_62, zl_63, zl_64, zl_65, zl_66, zl_80, zl_97, zl_99, zl_103, zl_107, zl_112, zl_115, zl_100, zl_180, zl_210, zl_238, zl_255, zl_256, zl_400, zl_1000, zl_1024, zl_1260, zl_2000, zl_7140, zl_7200, zl_18414, zl_65536, zl_131072, zl_9999, zl_999, zI_add, zI_sub, zI_mul, zI_neg, zI_lt, zI_le, zI_eq, zI_clamp, ck_z, ckp_z, qb_z, qb_z0, Option.bind_some]; omega
      have l3 : things ≤ 30 := by rw [eT]; simp (disch := omega) only [zl_0, zl_1, zl_2, zl_3, zl_4, zl_5, zl_6, zl_7, zl_8, zl_9, zl_10, zl_11, zl_12, zl_13, zl_14, zl_15, zl_16, zl_17, zl_18, zl_19, zl_20, zl_21, zl_22, zl_23, zl_24, zl_25, zl_26, zl_27, zl_28, zl_29, zl_30, zl_31, zl_32, zl_33, zl_34, zl_35, zl_36, zl_37, zl_38, zl_39, zl_40, zl_41, zl_42, zl_43, zl_44, zl_45, zl_46, zl_47, zl_48, zl_49, zl_50, zl_51, zl_52, zl_53, zl_54, zl_55, zl_56, zl_57, zl_58, zl_59, zl_60, zl_61, zl_62, zl_63, zl_64, zl_65, zl_66, zl_80, zl_97, zl_99, zl_103, zl_107, zl_112, zl_115, zl_100, zl_180, zl_210, zl_238, zl_255, zl_256, zl_400, zl_1000, zl_1024, zl_1260, zl_2000, zl_7140, zl_7200, zl_18414, zl_65536, zl_131072, zl_9999, zl_999, zI_add, zI_sub, zI_mul, zI_neg, zI_lt, zI_le, zI_eq, zI_clamp, ck_z, ckp_z, qb_z, qb_z0, Option.bind_some]; omega
      rw [if_neg l2, if_pos l3]
      exact ⟨_, _, _, _, _, _, _, _, _, _, rfl, hc⟩
  | d + 1, m + 1, q, Φ, l, quires, things, ghosts, sizes, cells, kinds, words, quireOf, placeOf, laid, hq, hq0, hm, hw, hz, hl, hQ, hT, _, hc => by
    have hr := hw.1
    have e16 : ((d + 1 : Nat) : Int) * (16 + n) = d * (16 + n) + (16 + n) := by
      rw [show ((d + 1 : Nat) : Int) = (d : Int) + 1 from rfl, Int.add_mul, Int.one_mul]
    have hd0 : 0 ≤ (d : Int) * (16 + n) := Int.mul_nonneg (by omega) (by omega)
    obtain ⟨c, e, hc2⟩ := addQuireR_z hσ hσw n hs hk hn (by omega) size hsz (by omega) hw hz hl hc
    have h1 := PW_rQ (σ := σ) (π := π) n size (fun j a b => ⟨(hk j a b).1, (hk j a b).2.1⟩) hw hz hl (by omega) hsz
    have hf := rQ_f σ κ π n size Φ
    have hl1 : fS (rQ σ κ π n size Φ) (fQ (rQ σ κ π n size Φ) - 1) = size := by rw [hf.2.1, hf.1, if_pos (by omega)]
    have hT1 := (rQ_T σ κ π n size Φ (by omega)).1
    have ih := b161_z hσ hσw n hs hk hn size hsz fa fp pos la is ip letter page g hg at' last hlast n0 d m (q + 1) (rQ σ κ π n size Φ) size c.1 c.2.1 c.2.2.1 c.2.2.2.1 c.2.2.2.2.1 c.2.2.2.2.2.1 c.2.2.2.2.2.2.1 c.2.2.2.2.2.2.2.1 c.2.2.2.2.2.2.2.2.1 c.2.2.2.2.2.2.2.2.2 (by omega) (by omega) (by omega) h1.1 h1.2 (fun _ => hl1.symm) (by rw [hf.1]; omega) (by omega) (fun _ => Or.inr trivial) hc2
    have l1 : ¬ zI last < zI q := by simp (disch := omega) only [zl_0, zl_1, zl_2, zl_3, zl_4, zl_5, zl_6, zl_7, zl_8, zl_9, zl_10, zl_11, zl_12, zl_13, zl_14, zl_15, zl_16, zl_17, zl_18, zl_19, zl_20, zl_21, zl_22, zl_23, zl_24, zl_25, zl_26, zl_27, zl_28, zl_29, zl_30, zl_31, zl_32, zl_33, zl_34, zl_35, zl_36, zl_37, zl_38, zl_39, zl_40, zl_41, zl_42, zl_43, zl_44, zl_45, zl_46, zl_47, zl_48, zl_49, zl_50, zl_51, zl_52, zl_53, zl_54, zl_55, zl_56, zl_57, zl_58, zl_59, zl_60, zl_61, zl_62, zl_63, zl_64, zl_65, zl_66, zl_80, zl_97, zl_99, zl_103, zl_107, zl_112, zl_115, zl_100, zl_180, zl_210, zl_238, zl_255, zl_256, zl_400, zl_1000, zl_1024, zl_1260, zl_2000, zl_7140, zl_7200, zl_18414, zl_65536, zl_131072, zl_9999, zl_999, zI_add, zI_sub, zI_mul, zI_neg, zI_lt, zI_le, zI_eq, zI_clamp, ck_z, ckp_z, qb_z, qb_z0, Option.bind_some]; omega
    have eu : F_X3_readQuire_b161 (m + 1) fa fp pos la states lk lp (zI n) (zI g) (zI size) is ip quires things ghosts letter sizes cells kinds words quireOf placeOf laid (zI at') (zI last) (zI q) = F_X3_readQuire_b161 m fa fp pos la states lk lp (zI n) (zI g) (zI size) is ip c.1 c.2.1 c.2.2.1 letter c.2.2.2.1 c.2.2.2.2.1 c.2.2.2.2.2.1 c.2.2.2.2.2.2.1 c.2.2.2.2.2.2.2.1 c.2.2.2.2.2.2.2.2.1 c.2.2.2.2.2.2.2.2.2 (zI at') (zI last) (zI (q + 1)) := by
      rw [F_X3_readQuire_b161, if_neg l1, e, Option.bind_some, zl_1, zI_add]
    rw [eu]
    refine ⟨ih.1, fun h => ?_⟩
    obtain ⟨q', t', g', s', ce', k', w', qo', po', la', i1, i2⟩ := ih.2 h
    refine ⟨q', t', g', s', ce', k', w', qo', po', la', i1, ?_⟩
    rw [if_neg (by omega)]
    have e0 : (if d = 0 then size else size) = size := by split <;> rfl
    rw [e0] at i2
    exact i2
/-- the model lays its quires -/
theorem b360_z (t : NF) {N : Int} (hN : 0 ≤ N) (hN2 : N ≤ 400) (hσ : StM σ codes) (hσw : StW σ) (n : Nat) (hs : ∀ j, 0 ≤ j → j < (n : Int) → ek j.toNat = zI (κ j) ∧ ep j.toNat = zI (π j)) (hk : ∀ j, 0 ≤ j → j < (n : Int) → 3 ≤ κ j ∧ κ j ≤ 5 ∧ 0 ≤ π j ∧ π j ≤ 8) (hn : n ≤ 200) (size : Int) (hsz : 2 ≤ size ∧ size ≤ 8 ∧ size % 2 = 0) (k17 : Int32 → Int32 → Int32 → Int32 → Int32 → Int32 → NF → NF → NF → NF → NF → NF → Int32 → Int32 → Option (Int32 × Int32 × Int32 × Int32 × Int32 × Int32 × Int32 × NF × NF × NF × NF × NF × NF × Int32)) (fk fpl : Int32) (p : Int) (hp : 0 ≤ p) (hp2 : p < 80000) (nL : Int32) (at' hang : Int) (hh : hang = 0 ∨ hang = 1) (cnt : Int) (hcnt : cnt < 100) : ∀ (d m : Nat) (x7 : Int) (Φ : Fold) (l : Int) (nT : Int32) (nS nP nK : NF), x7 + d = cnt → 0 ≤ x7 → d < m → PW Φ l → Wz Φ → (0 < fQ Φ → l = fS Φ (fQ Φ - 1)) → fQ Φ + d ≤ 8 → (fT Φ + d * (16 + n) < 200 ∨ (d ≤ 1 ∧ fT Φ ≤ 30)) → PR Φ l nT nS nP nK →
    ((hang = 0 ∨ 30 < fT (rI σ κ π n size d Φ)) → ∃ r, F_X8_reading_b360 t (zI N) k17 m fk fpl (zI p) nT (zI (fQ Φ)) nL nS nP nK codes ep ek (zI n) (zI at') (zI cnt) (zI size) (zI hang) (zI x7) = some (-1, zI 4, zI at', r)) ∧
    (¬ (hang = 0 ∨ 30 < fT (rI σ κ π n size d Φ)) → ∃ nT' nS' nP' nK', F_X8_reading_b360 t (zI N) k17 m fk fpl (zI p) nT (zI (fQ Φ)) nL nS nP nK codes ep ek (zI n) (zI at') (zI cnt) (zI size) (zI hang) (zI x7) = F_X8_reading_b416 t (zI N) k17 fk fpl (zI p) nT' (zI (fQ Φ + d)) nL nS' nP' nK' codes ep ek (zI n) (zI (if N ≤ p then 0 else 1)) ∧ PR (rI σ κ π n size d Φ) (if d = 0 then l else size) nT' nS' nP' nK')
  | 0, m + 1, x7, Φ, l, nT, nS, nP, nK, hq, hq0, _, hw, hz, hl, hQ, hT, hc => by
    have hr := hw.1
    have eT := hc.1
    have er : rI σ κ π n size 0 Φ = Φ := rfl
    rw [er, F_X8_reading_b360]
    have l1 : zI cnt ≤ zI x7 := by simp (disch := omega) only [zl_0, zl_1, zl_2, zl_3, zl_4, zl_5, zl_6, zl_7, zl_8, zl_9, zl_10, zl_11, zl_12, zl_13, zl_14, zl_15, zl_16, zl_17, zl_18, zl_19, zl_20, zl_21, zl_22, zl_23, zl_24, zl_25, zl_26, zl_27, zl_28, zl_29, zl_30, zl_31, zl_32, zl_33, zl_34, zl_35, zl_36, zl_37, zl_38, zl_39, zl_40, zl_41, zl_42, zl_43, zl_44, zl_45, zl_46, zl_47, zl_48, zl_49, zl_50, zl_51, zl_52, zl_53, zl_54, zl_55, zl_56, zl_57, zl_58, zl_59, zl_60, zl_61, zl_62, zl_63, zl_64, zl_65, zl_66, zl_80, zl_97, zl_99, zl_103, zl_107, zl_112, zl_115, zl_100, zl_180, zl_210, zl_238, zl_255, zl_256, zl_400, zl_1000, zl_1024, zl_1260, zl_2000, zl_7140, zl_7200, zl_18414, zl_65536, zl_131072, zl_9999, zl_999, zI_add, zI_sub, zI_mul, zI_neg, zI_lt, zI_le, zI_eq, zI_clamp, ck_z, ckp_z, qb_z, qb_z0, Option.bind_some]; omega
    rw [if_pos l1]
    unfold F_X8_reading_b393 F_X8_fails
    refine ⟨fun h => ?_, fun h => ?_⟩
    · by_cases h1 : hang = 0
      · rw [h1, if_pos (by rfl)]
        exact ⟨_, rfl⟩
      · have l2 : ¬ zI hang = 0 := by simp (disch := omega) only [zl_0, zl_1, zl_2, zl_3, zl_4, zl_5, zl_6, zl_7, zl_8, zl_9, zl_10, zl_11, zl_12, zl_13, zl_14, zl_15, zl_16, zl_17, zl_18, zl_19, zl_20, zl_21, zl_22, zl_23, zl_24, zl_25, zl_26, zl_27, zl_28, zl_29, zl_30, zl_31, zl_32, zl_33, zl_34, zl_35, zl_36, zl_37, zl_38, zl_39, zl_40, zl_41, zl_42, zl_43, zl_44, zl_45, zl_46, zl_47, zl_48, zl_49, zl_50, zl_51, zl_52, zl_53, zl_54, zl_55, zl_56, zl_57, zl_58, zl_59, zl_60, zl_61, zl_62, zl_63, zl_64, zl_65, zl_66, zl_80, zl_97, zl_99, zl_103, zl_107, zl_112, zl_115, zl_100, zl_180, zl_210, zl_238, zl_255, zl_256, zl_400, zl_1000, zl_1024, zl_1260, zl_2000, zl_7140, zl_7200, zl_18414, zl_65536, zl_131072, zl_9999, zl_999, zI_add, zI_sub, zI_mul, zI_neg, zI_lt, zI_le, zI_eq, zI_clamp, ck_z, ckp_z, qb_z, qb_z0, Option.bind_some]; exact h1
        have l3 : ¬ nT ≤ 30 := by rw [eT]; simp (disch := omega) only [zl_0, zl_1, zl_2, zl_3, zl_4, zl_5, zl_6, zl_7, zl_8, zl_9, zl_10, zl_11, zl_12, zl_13, zl_14, zl_15, zl_16, zl_17, zl_18, zl_19, zl_20, zl_21, zl_22, zl_23, zl_24, zl_25, zl_26, zl_27, zl_28, zl_29, zl_30, zl_31, zl_32, zl_33, zl_34, zl_35, zl_36, zl_37, zl_38, zl_39, zl_40, zl_41, zl_42, zl_43, zl_44, zl_45, zl_46, zl_47, zl_48, zl_49, zl_50, zl_51, zl_52, zl_53, zl_54, zl_55, zl_56, zl_57, zl_58, zl_59, zl_60, zl_61, zl_62, zl_63, zl_64, zl_65, zl_66, zl_80, zl_97, zl_99, zl_103, zl_107, zl_112, zl_115, zl_100, zl_180, zl_210, zl_238, zl_255, zl_256, zl_400, zl_1000, zl_1024, zl_1260, zl_2000, zl_7140, zl_7200, zl_18414, zl_65536, zl_131072, zl_9999, zl_999, zI_add, zI_sub, zI_mul, zI_neg, zI_lt, zI_le, zI_eq, zI_clamp, ck_z, ckp_z, qb_z, qb_z0, Option.bind_some]; omega
        rw [if_neg l2, if_neg l3]
        exact ⟨_, rfl⟩
    · have l2 : ¬ zI hang = 0 := by simp (disch := omega) only [zl_0, zl_1, zl_2, zl_3, zl_4, zl_5, zl_6, zl_7, zl_8, zl_9, zl_10, zl_11, zl_12, zl_13, zl_14, zl_15, zl_16, zl_17, zl_18, zl_19, zl_20, zl_21, zl_22, zl_23, zl_24, zl_25, zl_26, zl_27, zl_28, zl_29, zl_30, zl_31, zl_32, zl_33, zl_34, zl_35, zl_36, zl_37, zl_38, zl_39, zl_40, zl_41, zl_42, zl_43, zl_44, zl_45, zl_46, zl_47, zl_48, zl_49, zl_50, zl_51, zl_52, zl_53, zl_54, zl_55, zl_56, zl_57, zl_58, zl_59, zl_60, zl_61, zl_62, zl_63, zl_64, zl_65, zl_66, zl_80, zl_97, zl_99, zl_103, zl_107, zl_112, zl_115, zl_100, zl_180, zl_210, zl_238, zl_255, zl_256, zl_400, zl_1000, zl_1024, zl_1260, zl_2000, zl_7140, zl_7200, zl_18414, zl_65536, zl_131072, zl_9999, zl_999, zI_add, zI_sub, zI_mul, zI_neg, zI_lt, zI_le, zI_eq, zI_clamp, ck_z, ckp_z, qb_z, qb_z0, Option.bind_some]; omega
      have l3 : nT ≤ 30 := by rw [eT]; simp (disch := omega) only [zl_0, zl_1, zl_2, zl_3, zl_4, zl_5, zl_6, zl_7, zl_8, zl_9, zl_10, zl_11, zl_12, zl_13, zl_14, zl_15, zl_16, zl_17, zl_18, zl_19, zl_20, zl_21, zl_22, zl_23, zl_24, zl_25, zl_26, zl_27, zl_28, zl_29, zl_30, zl_31, zl_32, zl_33, zl_34, zl_35, zl_36, zl_37, zl_38, zl_39, zl_40, zl_41, zl_42, zl_43, zl_44, zl_45, zl_46, zl_47, zl_48, zl_49, zl_50, zl_51, zl_52, zl_53, zl_54, zl_55, zl_56, zl_57, zl_58, zl_59, zl_60, zl_61, zl_62, zl_63, zl_64, zl_65, zl_66, zl_80, zl_97, zl_99, zl_103, zl_107, zl_112, zl_115, zl_100, zl_180, zl_210, zl_238, zl_255, zl_256, zl_400, zl_1000, zl_1024, zl_1260, zl_2000, zl_7140, zl_7200, zl_18414, zl_65536, zl_131072, zl_9999, zl_999, zI_add, zI_sub, zI_mul, zI_neg, zI_lt, zI_le, zI_eq, zI_clamp, ck_z, ckp_z, qb_z, qb_z0, Option.bind_some]; omega
      rw [if_neg l2, if_pos l3]
      refine ⟨nT, nS, nP, nK, ?_, hc⟩
      rw [show fQ Φ + ((0 : Nat) : Int) = fQ Φ by omega]
      by_cases h4 : N ≤ p
      · have l4 : zI N ≤ zI p := by simp (disch := omega) only [zl_0, zl_1, zl_2, zl_3, zl_4, zl_5, zl_6, zl_7, zl_8, zl_9, zl_10, zl_11, zl_12, zl_13, zl_14, zl_15, zl_16, zl_17, zl_18, zl_19, zl_20, zl_21, zl_22, zl_23, zl_24, zl_25, zl_26, zl_27, zl_28, zl_29, zl_30, zl_31, zl_32, zl_33, zl_34, zl_35, zl_36, zl_37, zl_38, zl_39, zl_40, zl_41, zl_42, zl_43, zl_44, zl_45, zl_46, zl_47, zl_48, zl_49, zl_50, zl_51, zl_52, zl_53, zl_54, zl_55, zl_56, zl_57, zl_58, zl_59, zl_60, zl_61, zl_62, zl_63, zl_64, zl_65, zl_66, zl_80, zl_97, zl_99, zl_103, zl_107, zl_112, zl_115, zl_100, zl_180, zl_210, zl_238, zl_255, zl_256, zl_400, zl_1000, zl_1024, zl_1260, zl_2000, zl_7140, zl_7200, zl_18414, zl_65536, zl_131072, zl_9999, zl_999, zI_add, zI_sub, zI_mul, zI_neg, zI_lt, zI_le, zI_eq, zI_clamp, ck_z, ckp_z, qb_z, qb_z0, Option.bind_some]; exact h4
        rw [if_pos l4, if_pos h4]
        rfl
      · have l4 : ¬ zI N ≤ zI p := by simp (disch := omega) only [zl_0, zl_1, zl_2, zl_3, zl_4, zl_5, zl_6, zl_7, zl_8, zl_9, zl_10, zl_11, zl_12, zl_13, zl_14, zl_15, zl_16, zl_17, zl_18, zl_19, zl_20, zl_21, zl_22, zl_23, zl_24, zl_25, zl_26, zl_27, zl_28, zl_29, zl_30, zl_31, zl_32, zl_33, zl_34, zl_35, zl_36, zl_37, zl_38, zl_39, zl_40, zl_41, zl_42, zl_43, zl_44, zl_45, zl_46, zl_47, zl_48, zl_49, zl_50, zl_51, zl_52, zl_53, zl_54, zl_55, zl_56, zl_57, zl_58, zl_59, zl_60, zl_61, zl_62, zl_63, zl_64, zl_65, zl_66, zl_80, zl_97, zl_99, zl_103, zl_107, zl_112, zl_115, zl_100, zl_180, zl_210, zl_238, zl_255, zl_256, zl_400, zl_1000, zl_1024, zl_1260, zl_2000, zl_7140, zl_7200, zl_18414, zl_65536, zl_131072, zl_9999, zl_999, zI_add, zI_sub, zI_mul, zI_neg, zI_lt, zI_le, zI_eq, zI_clamp, ck_z, ckp_z, qb_z, qb_z0, Option.bind_some]; exact h4
        rw [if_neg l4, if_neg h4]
        rfl
  | d + 1, m + 1, x7, Φ, l, nT, nS, nP, nK, hq, hq0, hm, hw, hz, hl, hQ, hT, hc => by
    have hr := hw.1
    have e16 : ((d + 1 : Nat) : Int) * (16 + n) = d * (16 + n) + (16 + n) := by
      rw [show ((d + 1 : Nat) : Int) = (d : Int) + 1 from rfl, Int.add_mul, Int.one_mul]
    have hd0 : 0 ≤ (d : Int) * (16 + n) := Int.mul_nonneg (by omega) (by omega)
    obtain ⟨c, e, ec, hc2⟩ := laid_z hσ hσw n hs hk hn (by omega) size hsz (by omega) hw hz hl hc
    have h1 := PW_rQ (σ := σ) (π := π) n size (fun j a b => ⟨(hk j a b).1, (hk j a b).2.1⟩) hw hz hl (by omega) hsz
    have hf := rQ_f σ κ π n size Φ
    have hl1 : fS (rQ σ κ π n size Φ) (fQ (rQ σ κ π n size Φ) - 1) = size := by rw [hf.2.1, hf.1, if_pos (by omega)]
    have hT1 := (rQ_T σ κ π n size Φ (by omega)).1
    have l1 : ¬ zI cnt ≤ zI x7 := by simp (disch := omega) only [zl_0, zl_1, zl_2, zl_3, zl_4, zl_5, zl_6, zl_7, zl_8, zl_9, zl_10, zl_11, zl_12, zl_13, zl_14, zl_15, zl_16, zl_17, zl_18, zl_19, zl_20, zl_21, zl_22, zl_23, zl_24, zl_25, zl_26, zl_27, zl_28, zl_29, zl_30, zl_31, zl_32, zl_33, zl_34, zl_35, zl_36, zl_37, zl_38, zl_39, zl_40, zl_41, zl_42, zl_43, zl_44, zl_45, zl_46, zl_47, zl_48, zl_49, zl_50, zl_51, zl_52, zl_53, zl_54, zl_55, zl_56, zl_57, zl_58, zl_59, zl_60, zl_61, zl_62, zl_63, zl_64, zl_65, zl_66, zl_80, zl_97, zl_99, zl_103, zl_107, zl_112, zl_115, zl_100, zl_180, zl_210, zl_238, zl_255, zl_256, zl_400, zl_1000, zl_1024, zl_1260, zl_2000, zl_7140, zl_7200, zl_18414, zl_65536, zl_131072, zl_9999, zl_999, zI_add, zI_sub, zI_mul, zI_neg, zI_lt, zI_le, zI_eq, zI_clamp, ck_z, ckp_z, qb_z, qb_z0, Option.bind_some]; omega
    have eu : F_X8_reading_b360 t (zI N) k17 (m + 1) fk fpl (zI p) nT (zI (fQ Φ)) nL nS nP nK codes ep ek (zI n) (zI at') (zI cnt) (zI size) (zI hang) (zI x7) = F_X8_reading_b360 t (zI N) k17 m fk fpl (zI p) c.1 (zI (fQ Φ + 1)) nL c.2.2.1 c.2.2.2.1 c.2.2.2.2 codes ep ek (zI n) (zI at') (zI cnt) (zI size) (zI hang) (zI (x7 + 1)) := by
      rw [F_X8_reading_b360, if_neg l1, e, Option.bind_some, ec, zl_1, zI_add]
    rw [eu]
    rcases Nat.eq_zero_or_pos d with hd | hd
    · subst hd
      have er : rI σ κ π n size (0 + 1) Φ = rQ σ κ π n size Φ := rfl
      have hcnt0 : zI cnt ≤ zI (x7 + 1) := by simp (disch := omega) only [zl_0, zl_1, zl_2, zl_3, zl_4, zl_5, zl_6, zl_7, zl_8, zl_9, zl_10, zl_11, zl_12, zl_13, zl_14, zl_15, zl_16, zl_17, zl_18, zl_19, zl_20, zl_21, zl_22, zl_23, zl_24, zl_25, zl_26, zl_27, zl_28, zl_29, zl_30, zl_31, zl_32, zl_33, zl_34, zl_35, zl_36, zl_37, zl_38, zl_39, zl_40, zl_41, zl_42, zl_43, zl_44, zl_45, zl_46, zl_47, zl_48, zl_49, zl_50, zl_51, zl_52, zl_53, zl_54, zl_55, zl_56, zl_57, zl_58, zl_59, zl_60, zl_61, zl_62, zl_63, zl_64, zl_65, zl_66, zl_80, zl_97, zl_99, zl_103, zl_107, zl_112, zl_115, zl_100, zl_180, zl_210, zl_238, zl_255, zl_256, zl_400, zl_1000, zl_1024, zl_1260, zl_2000, zl_7140, zl_7200, zl_18414, zl_65536, zl_131072, zl_9999, zl_999, zI_add, zI_sub, zI_mul, zI_neg, zI_lt, zI_le, zI_eq, zI_clamp, ck_z, ckp_z, qb_z, qb_z0, Option.bind_some]; omega
      have hr2 := h1.1.1
      have eT := hc2.1
      have hTT : fT (rQ σ κ π n size Φ) < 1000 := by omega
      rw [er]
      obtain ⟨m', hm'⟩ : ∃ m', m = m' + 1 := ⟨m - 1, by omega⟩
      subst hm'
      rw [F_X8_reading_b360, if_pos hcnt0]
      unfold F_X8_reading_b393 F_X8_fails
      refine ⟨fun h => ?_, fun h => ?_⟩
      · by_cases h1 : hang = 0
        · rw [h1, if_pos (by rfl)]
          exact ⟨_, rfl⟩
        · have l2 : ¬ zI hang = 0 := by simp (disch := omega) only [zl_0, zl_1, zl_2, zl_3, zl_4, zl_5, zl_6, zl_7, zl_8, zl_9, zl_10, zl_11, zl_12, zl_13, zl_14, zl_15, zl_16, zl_17, zl_18, zl_19, zl_20, zl_21, zl_22, zl_23, zl_24, zl_25, zl_26, zl_27, zl_28, zl_29, zl_30, zl_31, zl_32, zl_33, zl_34, zl_35, zl_36, zl_37, zl_38, zl_39, zl_40, zl_41, zl_42, zl_43, zl_44, zl_45, zl_46, zl_47, zl_48, zl_49, zl_50, zl_51, zl_52, zl_53, zl_54, zl_55, zl_56, zl_57, zl_58, zl_59, zl_60, zl_61, zl_62, zl_63, zl_64, zl_65, zl_66, zl_80, zl_97, zl_99, zl_103, zl_107, zl_112, zl_115, zl_100, zl_180, zl_210, zl_238, zl_255, zl_256, zl_400, zl_1000, zl_1024, zl_1260, zl_2000, zl_7140, zl_7200, zl_18414, zl_65536, zl_131072, zl_9999, zl_999, zI_add, zI_sub, zI_mul, zI_neg, zI_lt, zI_le, zI_eq, zI_clamp, ck_z, ckp_z, qb_z, qb_z0, Option.bind_some]; exact h1
          have l3 : ¬ c.1 ≤ 30 := by rw [eT]; simp (disch := omega) only [zl_0, zl_1, zl_2, zl_3, zl_4, zl_5, zl_6, zl_7, zl_8, zl_9, zl_10, zl_11, zl_12, zl_13, zl_14, zl_15, zl_16, zl_17, zl_18, zl_19, zl_20, zl_21, zl_22, zl_23, zl_24, zl_25, zl_26, zl_27, zl_28, zl_29, zl_30, zl_31, zl_32, zl_33, zl_34, zl_35, zl_36, zl_37, zl_38, zl_39, zl_40, zl_41, zl_42, zl_43, zl_44, zl_45, zl_46, zl_47, zl_48, zl_49, zl_50, zl_51, zl_52, zl_53, zl_54, zl_55, zl_56, zl_57, zl_58, zl_59, zl_60, zl_61, zl_62, zl_63, zl_64, zl_65, zl_66, zl_80, zl_97, zl_99, zl_103, zl_107, zl_112, zl_115, zl_100, zl_180, zl_210, zl_238, zl_255, zl_256, zl_400, zl_1000, zl_1024, zl_1260, zl_2000, zl_7140, zl_7200, zl_18414, zl_65536, zl_131072, zl_9999, zl_999, zI_add, zI_sub, zI_mul, zI_neg, zI_lt, zI_le, zI_eq, zI_clamp, ck_z, ckp_z, qb_z, qb_z0, Option.bind_some]; omega
          rw [if_neg l2, if_neg l3]
          exact ⟨_, rfl⟩
      · have l2 : ¬ zI hang = 0 := by simp (disch := omega) only [zl_0, zl_1, zl_2, zl_3, zl_4, zl_5, zl_6, zl_7, zl_8, zl_9, zl_10, zl_11, zl_12, zl_13, zl_14, zl_15, zl_16, zl_17, zl_18, zl_19, zl_20, zl_21, zl_22, zl_23, zl_24, zl_25, zl_26, zl_27, zl_28, zl_29, zl_30, zl_31, zl_32, zl_33, zl_34, zl_35, zl_36, zl_37, zl_38, zl_39, zl_40, zl_41, zl_42, zl_43, zl_44, zl_45, zl_46, zl_47, zl_48, zl_49, zl_50, zl_51, zl_52, zl_53, zl_54, zl_55, zl_56, zl_57, zl_58, zl_59, zl_60, zl_61, zl_62, zl_63, zl_64, zl_65, zl_66, zl_80, zl_97, zl_99, zl_103, zl_107, zl_112, zl_115, zl_100, zl_180, zl_210, zl_238, zl_255, zl_256, zl_400, zl_1000, zl_1024, zl_1260, zl_2000, zl_7140, zl_7200, zl_18414, zl_65536, zl_131072, zl_9999, zl_999, zI_add, zI_sub, zI_mul, zI_neg, zI_lt, zI_le, zI_eq, zI_clamp, ck_z, ckp_z, qb_z, qb_z0, Option.bind_some]; omega
        have l3 : c.1 ≤ 30 := by rw [eT]; simp (disch := omega) only [zl_0, zl_1, zl_2, zl_3, zl_4, zl_5, zl_6, zl_7, zl_8, zl_9, zl_10, zl_11, zl_12, zl_13, zl_14, zl_15, zl_16, zl_17, zl_18, zl_19, zl_20, zl_21, zl_22, zl_23, zl_24, zl_25, zl_26, zl_27, zl_28, zl_29, zl_30, zl_31, zl_32, zl_33, zl_34, zl_35, zl_36, zl_37, zl_38, zl_39, zl_40, zl_41, zl_42, zl_43, zl_44, zl_45, zl_46, zl_47, zl_48, zl_49, zl_50, zl_51, zl_52, zl_53, zl_54, zl_55, zl_56, zl_57, zl_58, zl_59, zl_60, zl_61, zl_62, zl_63, zl_64, zl_65, zl_66, zl_80, zl_97, zl_99, zl_103, zl_107, zl_112, zl_115, zl_100, zl_180, zl_210, zl_238, zl_255, zl_256, zl_400, zl_1000, zl_1024, zl_1260, zl_2000, zl_7140, zl_7200, zl_18414, zl_65536, zl_131072, zl_9999, zl_999, zI_add, zI_sub, zI_mul, zI_neg, zI_lt, zI_le, zI_eq, zI_clamp, ck_z, ckp_z, qb_z, qb_z0, Option.bind_some]; omega
        rw [if_neg l2, if_pos l3]
        refine ⟨_, _, _, _, ?_, hc2⟩
        rw [show fQ Φ + ((0 + 1 : Nat) : Int) = fQ Φ + 1 by omega]
        by_cases h4 : N ≤ p
        · have l4 : zI N ≤ zI p := by simp (disch := omega) only [zl_0, zl_1, zl_2, zl_3, zl_4, zl_5, zl_6, zl_7, zl_8, zl_9, zl_10, zl_11, zl_12, zl_13, zl_14, zl_15, zl_16, zl_17, zl_18, zl_19, zl_20, zl_21, zl_22, zl_23, zl_24, zl_25, zl_26, zl_27, zl_28, zl_29, zl_30, zl_31, zl_32, zl_33, zl_34, zl_35, zl_36, zl_37, zl_38, zl_39, zl_40, zl_41, zl_42, zl_43, zl_44, zl_45, zl_46, zl_47, zl_48, zl_49, zl_50, zl_51, zl_52, zl_53, zl_54, zl_55, zl_56, zl_57, zl_58, zl_59, zl_60, zl_61, zl_62, zl_63, zl_64, zl_65, zl_66, zl_80, zl_97, zl_99, zl_103, zl_107, zl_112, zl_115, zl_100, zl_180, zl_210, zl_238, zl_255, zl_256, zl_400, zl_1000, zl_1024, zl_1260, zl_2000, zl_7140, zl_7200, zl_18414, zl_65536, zl_131072, zl_9999, zl_999, zI_add, zI_sub, zI_mul, zI_neg, zI_lt, zI_le, zI_eq, zI_clamp, ck_z, ckp_z, qb_z, qb_z0, Option.bind_some]; exact h4
          rw [if_pos l4, if_pos h4]
          rfl
        · have l4 : ¬ zI N ≤ zI p := by simp (disch := omega) only [zl_0, zl_1, zl_2, zl_3, zl_4, zl_5, zl_6, zl_7, zl_8, zl_9, zl_10, zl_11, zl_12, zl_13, zl_14, zl_15, zl_16, zl_17, zl_18, zl_19, zl_20, zl_21, zl_22, zl_23, zl_24, zl_25, zl_26, zl_27, zl_28, zl_29, zl_30, zl_31, zl_32, zl_33, zl_34, zl_35, zl_36, zl_37, zl_38, zl_39, zl_40, zl_41, zl_42, zl_43, zl_44, zl_45, zl_46, zl_47, zl_48, zl_49, zl_50, zl_51, zl_52, zl_53, zl_54, zl_55, zl_56, zl_57, zl_58, zl_59, zl_60, zl_61, zl_62, zl_63, zl_64, zl_65, zl_66, zl_80, zl_97, zl_99, zl_103, zl_107, zl_112, zl_115, zl_100, zl_180, zl_210, zl_238, zl_255, zl_256, zl_400, zl_1000, zl_1024, zl_1260, zl_2000, zl_7140, zl_7200, zl_18414, zl_65536, zl_131072, zl_9999, zl_999, zI_add, zI_sub, zI_mul, zI_neg, zI_lt, zI_le, zI_eq, zI_clamp, ck_z, ckp_z, qb_z, qb_z0, Option.bind_some]; exact h4
          rw [if_neg l4, if_neg h4]
          rfl
    · have ih := b360_z t hN hN2 hσ hσw n hs hk hn size hsz k17 fk fpl p hp hp2 nL at' hang hh cnt hcnt d m (x7 + 1) (rQ σ κ π n size Φ) size c.1 c.2.2.1 c.2.2.2.1 c.2.2.2.2 (by omega) (by omega) (by omega) h1.1 h1.2 (fun _ => hl1.symm) (by rw [hf.1]; omega) (by omega) hc2
      rw [hf.1] at ih
      refine ⟨ih.1, fun h => ?_⟩
      obtain ⟨t', s', p', k', i1, i2⟩ := ih.2 h
      refine ⟨t', s', p', k', ?_, ?_⟩
      · rw [show fQ Φ + ((d + 1 : Nat) : Int) = fQ Φ + 1 + d by omega]
        exact i1
      · rw [if_neg (by omega)]
        have e0 : (if d = 0 then size else size) = size := by split <;> rfl
        rw [e0] at i2
        exact i2
end RQ

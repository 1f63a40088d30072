abbrev RmR : Type := Int32 × Int32 × NF × NF × NF × NF × NF × NF × NF × NF × NF × Int32 × Int32 × Int32 × Int32 × Int32 × Int32 × Int32 × NF × NF × NF × NF × NF × NF × Int32
section RF
variable (told : Int32) (isThere things quires fl fp : NF) (taped fk fpl rd : Int32) (nL : Int32) (nS nP nK cd ep ek : NF) (ex : Int32)
theorem read_b149_z (sizeOf placed : NF) (nQ : Int32) (T : Nat) (hT : T ≤ 30) : ∀ (d m i : Nat) (kindOf catchOf : NF), i + d = T → d < m → ∃ ki' ca', F_X8_read_b149 m told isThere things quires fl fp sizeOf placed kindOf catchOf taped fk fpl rd (zI T) nQ nL nS nP nK cd ep ek ex (zI i) = some (zI T, told, isThere, things, quires, fl, fp, sizeOf, placed, ki', ca', taped, fk, fpl, rd, zI T, nQ, nL, nS, nP, nK, cd, ep, ek, ex) ∧ Frm 30 kindOf ki' ∧ Frm 30 catchOf ca' ∧ (∀ j : Int, 0 ≤ j → j < i → ki' j.toNat = kindOf j.toNat ∧ ca' j.toNat = catchOf j.toNat) ∧ (∀ j : Int, (i : Int) ≤ j → j < T → ki' j.toNat = nK j.toNat ∧ ca' j.toNat = 0)
  | 0, m + 1, i, kindOf, catchOf, hi, _ => by
    unfold F_X8_read_b149
    simp (disch := omega) only [zl_0, zl_1, zl_2, zl_3, zl_4, zl_5, zl_6, zl_7, zl_8, zl_9, zl_10, zl_11, zl_12, zl_13, zl_14, zl_15, zl_16, zl_17, zl_18, zl_19, zl_20, zl_21, zl_22, zl_23, zl_24, zl_25, zl_26, zl_27, zl_28, zl_29, zl_30, zl_31, zl_32, zl_33, zl_34, zl_35, zl_36, zl_37, zl_38, zl_39, zl_40, zl_41, zl_42, zl_43, zl_44, zl_45, zl_46, zl_47, zl_48, zl_49, zl_50, zl_51, zl_52, zl_53, zl_54, zl_55, zl_56, zl_57, zl_58, zl_59, zl_60, zl_61, zl_62, zl_63, zl_64, zl_65, zl_66, zl_80, zl_97, zl_99, zl_103, zl_107, zl_112, zl_115, zl_100, zl_180, zl_210, zl_238, zl_255, zl_256, zl_400, zl_1000, zl_1024, zl_1260, zl_2000, zl_7140, zl_7200, zl_18414, zl_65536, zl_131072, zl_9999, zl_999, zI_add, zI_sub, zI_mul, zI_neg, zI_lt, zI_le, zI_eq, zI_clamp, ck_z, ckp_z, qb_z, qb_z0, Option.bind_some, if_pos, if_neg, reduceIte, reduceCtorEq, Bool.false_eq_true, Bool.true_eq_false]
    exact ⟨_, _, rfl, Frm_r _ _, Frm_r _ _, fun _ _ _ => ⟨rfl, rfl⟩, fun j a b => by omega⟩
  | d + 1, m + 1, i, kindOf, catchOf, hi, hm => by
    obtain ⟨ki', ca', e, f1, f2, f3, f4⟩ := read_b149_z sizeOf placed nQ T hT d m (i + 1) (upd kindOf (i : Int).toNat (nK (i : Int).toNat)) (upd catchOf (i : Int).toNat 0) (by omega) (by omega)
    refine ⟨ki', ca', ?_, Frm_t (Frm_u _ (by omega) (by omega)) f1, Frm_t (Frm_u _ (by omega) (by omega)) f2, fun j a b => ?_, fun j a b => ?_⟩
    · refine Eq.trans ?_ e
      rw [F_X8_read_b149]
      simp (disch := omega) only [zl_0, zl_1, zl_2, zl_3, zl_4, zl_5, zl_6, zl_7, zl_8, zl_9, zl_10, zl_11, zl_12, zl_13, zl_14, zl_15, zl_16, zl_17, zl_18, zl_19, zl_20, zl_21, zl_22, zl_23, zl_24, zl_25, zl_26, zl_27, zl_28, zl_29, zl_30, zl_31, zl_32, zl_33, zl_34, zl_35, zl_36, zl_37, zl_38, zl_39, zl_40, zl_41, zl_42, zl_43, zl_44, zl_45, zl_46, zl_47, zl_48, zl_49, zl_50, zl_51, zl_52, zl_53, zl_54, zl_55, zl_56, zl_57, zl_58, zl_59, zl_60, zl_61, zl_62, zl_63, zl_64, zl_65, zl_66, zl_80, zl_97, zl_99, zl_103, zl_107, zl_112, zl_115, zl_100, zl_180, zl_210, zl_238, zl_255, zl_256, zl_400, zl_1000, zl_1024, zl_1260, zl_2000, zl_7140, zl_7200, zl_18414, zl_65536, zl_131072, zl_9999, zl_999, zI_add, zI_sub, zI_mul, zI_neg, zI_lt, zI_le, zI_eq, zI_clamp, ck_z, ckp_z, qb_z, qb_z0, Option.bind_some, if_pos, if_neg, reduceIte, reduceCtorEq, Bool.false_eq_true, Bool.true_eq_false]
      rfl
    · have := f3 j a (by omega)
      rw [this.1, this.2, upd_z _ _ (by omega) a, upd_z _ _ (by omega) a, if_neg (by omega), if_neg (by omega)]
      exact ⟨rfl, rfl⟩
    · by_cases c : j = i
      · subst c
        have := f3 i (by omega) (by omega)
        rw [this.1, this.2, upd_z _ _ (by omega) (by omega), upd_z _ _ (by omega) (by omega), if_pos rfl, if_pos rfl]
        exact ⟨rfl, rfl⟩
      · exact f4 j (by omega) b
theorem read_b100_z (sizeOf kindOf catchOf : NF) (nT nQ : Int32) (k78 : Int32 → NF → NF → NF → NF → NF → NF → NF → NF → NF → Int32 → Int32 → Int32 → Int32 → Int32 → Int32 → Int32 → NF → NF → NF → NF → NF → NF → Int32 → Int32 → Option RmR) (q : Int) (hq : 0 ≤ q) (hq2 : q < 8) (s : Nat) (hs : s ≤ 8) (hsz : nS q.toNat = zI s) : ∀ (d m p : Nat) (placed : NF), p + d = s → d < m → ∃ pl', F_X8_read_b100 k78 m told isThere things quires fl fp sizeOf placed kindOf catchOf taped fk fpl rd nT nQ nL nS nP nK cd ep ek ex (zI q) (zI (p + 1)) = k78 told isThere things quires fl fp sizeOf pl' kindOf catchOf taped fk fpl rd nT nQ nL nS nP nK cd ep ek ex (zI (q + 1)) ∧ (∀ i : Int, 0 ≤ i → (i < 8 * q + p ∨ 8 * q + 8 ≤ i) → pl' i.toNat = placed i.toNat) ∧ (∀ p' : Int, (p : Int) < p' → p' ≤ s → pl' (8 * q + p' - 1).toNat = nP (8 * q + p' - 1).toNat)
  | 0, m + 1, p, placed, hp, _ => by
    unfold F_X8_read_b100
    simp (disch := omega) only [zl_0, zl_1, zl_2, zl_3, zl_4, zl_5, zl_6, zl_7, zl_8, zl_9, zl_10, zl_11, zl_12, zl_13, zl_14, zl_15, zl_16, zl_17, zl_18, zl_19, zl_20, zl_21, zl_22, zl_23, zl_24, zl_25, zl_26, zl_27, zl_28, zl_29, zl_30, zl_31, zl_32, zl_33, zl_34, zl_35, zl_36, zl_37, zl_38, zl_39, zl_40, zl_41, zl_42, zl_43, zl_44, zl_45, zl_46, zl_47, zl_48, zl_49, zl_50, zl_51, zl_52, zl_53, zl_54, zl_55, zl_56, zl_57, zl_58, zl_59, zl_60, zl_61, zl_62, zl_63, zl_64, zl_65, zl_66, zl_80, zl_97, zl_99, zl_103, zl_107, zl_112, zl_115, zl_100, zl_180, zl_210, zl_238, zl_255, zl_256, zl_400, zl_1000, zl_1024, zl_1260, zl_2000, zl_7140, zl_7200, zl_18414, zl_65536, zl_131072, zl_9999, zl_999, zI_add, zI_sub, zI_mul, zI_neg, zI_lt, zI_le, zI_eq, zI_clamp, ck_z, ckp_z, qb_z, qb_z0, Option.bind_some, if_pos, if_neg, reduceIte, reduceCtorEq, Bool.false_eq_true, Bool.true_eq_false, hsz]
    exact ⟨_, rfl, fun _ _ _ => rfl, fun p' a b => by omega⟩
  | d + 1, m + 1, p, placed, hp, hm => by
    obtain ⟨pl', e, g1, g2⟩ := read_b100_z sizeOf kindOf catchOf nT nQ k78 q hq hq2 s hs hsz d m (p + 1) (upd placed (8 * q + (p + 1) - 1).toNat (nP (8 * q + (p + 1) - 1).toNat)) (by omega) (by omega)
    refine ⟨pl', ?_, fun i h0 h1 => ?_, fun p' h1 h2 => ?_⟩
    · refine Eq.trans ?_ e
      rw [F_X8_read_b100]
      simp (disch := omega) only [zl_0, zl_1, zl_2, zl_3, zl_4, zl_5, zl_6, zl_7, zl_8, zl_9, zl_10, zl_11, zl_12, zl_13, zl_14, zl_15, zl_16, zl_17, zl_18, zl_19, zl_20, zl_21, zl_22, zl_23, zl_24, zl_25, zl_26, zl_27, zl_28, zl_29, zl_30, zl_31, zl_32, zl_33, zl_34, zl_35, zl_36, zl_37, zl_38, zl_39, zl_40, zl_41, zl_42, zl_43, zl_44, zl_45, zl_46, zl_47, zl_48, zl_49, zl_50, zl_51, zl_52, zl_53, zl_54, zl_55, zl_56, zl_57, zl_58, zl_59, zl_60, zl_61, zl_62, zl_63, zl_64, zl_65, zl_66, zl_80, zl_97, zl_99, zl_103, zl_107, zl_112, zl_115, zl_100, zl_180, zl_210, zl_238, zl_255, zl_256, zl_400, zl_1000, zl_1024, zl_1260, zl_2000, zl_7140, zl_7200, zl_18414, zl_65536, zl_131072, zl_9999, zl_999, zI_add, zI_sub, zI_mul, zI_neg, zI_lt, zI_le, zI_eq, zI_clamp, ck_z, ckp_z, qb_z, qb_z0, Option.bind_some, if_pos, if_neg, reduceIte, reduceCtorEq, Bool.false_eq_true, Bool.true_eq_false, hsz, at_z, Int.mul_zero, Int.zero_add]
      rfl
    · rw [g1 i h0 (by omega), upd_z _ _ (by omega) h0, if_neg (by omega)]
    · by_cases c : p' = p + 1
      · subst c
        rw [g1 _ (by omega) (by omega), upd_z _ _ (by omega) (by omega), if_pos rfl]
      · exact g2 p' (by omega) h2
theorem read_b78_z (kindOf catchOf : NF) (nT : Int32) (S : Int → Int) (N : Nat) (hN : N ≤ 8) (hS : ∀ q, 0 ≤ q → q < (N : Int) → 0 ≤ S q ∧ S q ≤ 8) (hs : ∀ q', 0 ≤ q' → q' < (N : Int) → nS q'.toNat = zI (S q')) : ∀ (d m q : Nat) (sizeOf placed : NF), q + d = N → d < m → ∃ sz' pl', F_X8_read_b78 m told isThere things quires fl fp sizeOf placed kindOf catchOf taped fk fpl rd nT (zI N) nL nS nP nK cd ep ek ex (zI q) = F_X8_read_b149 FU told isThere things quires fl fp sz' pl' kindOf catchOf taped fk fpl rd nT (zI N) nL nS nP nK cd ep ek ex 0 ∧ Frm 8 sizeOf sz' ∧ Frm 64 placed pl' ∧ (∀ i : Int, 0 ≤ i → i < q → sz' i.toNat = sizeOf i.toNat) ∧ (∀ i : Int, 0 ≤ i → i < 8 * q → pl' i.toNat = placed i.toNat) ∧ (∀ q' : Int, (q : Int) ≤ q' → q' < N → sz' q'.toNat = zI (S q') ∧ ∀ p', 1 ≤ p' → p' ≤ S q' → pl' (8 * q' + p' - 1).toNat = nP (8 * q' + p' - 1).toNat)
  | 0, m + 1, q, sizeOf, placed, hq, _ => by
    have l : zI N ≤ zI q := by simp (disch := omega) only [zl_0, zl_1, zl_2, zl_3, zl_4, zl_5, zl_6, zl_7, zl_8, zl_9, zl_10, zl_11, zl_12, zl_13, zl_14, zl_15, zl_16, zl_17, zl_18, zl_19, zl_20, zl_21, zl_22, zl_23, zl_24, zl_25, zl_26, zl_27, zl_28, zl_29, zl_30, zl_31, zl_32, zl_33, zl_34, zl_35, zl_36, zl_37, zl_38, zl_39, zl_40, zl_41, zl_42, zl_43, zl_44, zl_45, zl_46, zl_47, zl_48, zl_49, zl_50, zl_51, zl_52, zl_53, zl_54, zl_55, zl_56, zl_57, zl_58, zl_59, zl_60, zl_61, zl_62, zl_63, zl_64, zl_65, zl_66, zl_80, zl_97, zl_99, zl_103, zl_107, zl_112, zl_115, zl_100, zl_180, zl_210, zl_238, zl_255, zl_256, zl_400, zl_1000, zl_1024, zl_1260, zl_2000, zl_7140, zl_7200, zl_18414, zl_65536, zl_131072, zl_9999, zl_999, zI_add, zI_sub, zI_mul, zI_neg, zI_lt, zI_le, zI_eq, zI_clamp, ck_z, ckp_z, qb_z, qb_z0, Option.bind_some]; omega
    unfold F_X8_read_b78
    rw [if_pos l]
    exact ⟨_, _, rfl, Frm_r _ _, Frm_r _ _, fun _ _ _ => rfl, fun _ _ _ => rfl, fun q' a b => by omega⟩
  | d + 1, m + 1, q, sizeOf, placed, hq, hm => by
    have hS1 := hS q (by omega) (by omega)
    have hs1 := hs q (by omega) (by omega)
    obtain ⟨pl1, e1, g1, g2⟩ := read_b100_z told isThere things quires fl fp taped fk fpl rd nL nS nP nK cd ep ek ex (upd sizeOf (q : Int).toNat (zI (S q))) kindOf catchOf nT (zI N) (fun a0 a1 a2 a3 a4 a5 a6 a7 a8 a9 b0 b1 b2 b3 b4 b5 b6 b7 b8 b9 c0 c1 c2 c3 c4 => F_X8_read_b78 m a0 a1 a2 a3 a4 a5 a6 a7 a8 a9 b0 b1 b2 b3 b4 b5 b6 b7 b8 b9 c0 c1 c2 c3 c4) q (by omega) (by omega) (S q).toNat (by omega) (by rw [hs1, Int.toNat_of_nonneg hS1.1]) (S q).toNat FU 0 placed (by omega) (by unfold FU; omega)
    obtain ⟨sz', pl', e2, f1, f2, f3, f4, f5⟩ := read_b78_z kindOf catchOf nT S N hN hS hs d m (q + 1) (upd sizeOf (q : Int).toNat (zI (S q))) pl1 (by omega) (by omega)
    refine ⟨sz', pl', ?_, Frm_t (Frm_u _ (by omega) (by omega)) f1, Frm_t (fun i hi => g1 i (by omega) (by omega)) f2, fun i a b => ?_, fun i a b => ?_, fun q' a b => ?_⟩
    · refine Eq.trans ?_ e2
      refine Eq.trans ?_ e1
      have l : ¬ zI N ≤ zI q := by simp (disch := omega) only [zl_0, zl_1, zl_2, zl_3, zl_4, zl_5, zl_6, zl_7, zl_8, zl_9, zl_10, zl_11, zl_12, zl_13, zl_14, zl_15, zl_16, zl_17, zl_18, zl_19, zl_20, zl_21, zl_22, zl_23, zl_24, zl_25, zl_26, zl_27, zl_28, zl_29, zl_30, zl_31, zl_32, zl_33, zl_34, zl_35, zl_36, zl_37, zl_38, zl_39, zl_40, zl_41, zl_42, zl_43, zl_44, zl_45, zl_46, zl_47, zl_48, zl_49, zl_50, zl_51, zl_52, zl_53, zl_54, zl_55, zl_56, zl_57, zl_58, zl_59, zl_60, zl_61, zl_62, zl_63, zl_64, zl_65, zl_66, zl_80, zl_97, zl_99, zl_103, zl_107, zl_112, zl_115, zl_100, zl_180, zl_210, zl_238, zl_255, zl_256, zl_400, zl_1000, zl_1024, zl_1260, zl_2000, zl_7140, zl_7200, zl_18414, zl_65536, zl_131072, zl_9999, zl_999, zI_add, zI_sub, zI_mul, zI_neg, zI_lt, zI_le, zI_eq, zI_clamp, ck_z, ckp_z, qb_z, qb_z0, Option.bind_some]; omega
      rw [F_X8_read_b78, if_neg l, zI_clamp (by omega) (by omega), hs1, ck_z (by omega) (by omega) (by omega), ck_z (by omega) (by omega) (by omega)]
      rfl
    · rw [f3 i a (by omega), upd_z _ _ (by omega) a, if_neg (by omega)]
    · rw [f4 i a (by omega), g1 i a (by omega)]
    · by_cases c : q' = q
      · subst c
        refine ⟨?_, fun p' h1 h2 => ?_⟩
        · rw [f3 _ (by omega) (by omega), upd_z _ _ (by omega) (by omega), if_pos rfl]
        · rw [f4 _ (by omega) (by omega), g2 p' (by omega) (by omega)]
      · exact f5 q' (by omega) b
theorem read_fin {Φ : Fold} (hw : FoldW Φ) (hz : Wz Φ) (hP : fP Φ = 0) (hr : PR Φ (fS Φ (fQ Φ - 1)) (zI (fT Φ)) nS nP nK) (sizeOf placed kindOf catchOf : NF) : ∃ it' th' qu' fl' fp' sz' pl' ki' ca', F_X8_read_b78 FU told (upd isThere 0 1) (upd things 0 (zI (fT Φ))) (upd quires 0 (zI (fQ Φ))) (upd fl 0 (zI (fL Φ))) (upd fp 0 0) sizeOf placed kindOf catchOf taped fk fpl rd (zI (fT Φ)) (zI (fQ Φ)) (zI (fL Φ)) nS nP nK cd ep ek ex 0 = some (zI (fT Φ), told, it', th', qu', fl', fp', sz', pl', ki', ca', taped, fk, fpl, rd, zI (fT Φ), zI (fQ Φ), zI (fL Φ), nS, nP, nK, cd, ep, ek, ex) ∧ it' 0 = 1 ∧ FoldM 0 Φ th' qu' fl' fp' sz' pl' ki' ca' ∧ FrmAll isThere things quires fl fp sizeOf placed kindOf catchOf it' th' qu' fl' fp' sz' pl' ki' ca' := by
  have h0 := hw.1
  obtain ⟨Q, hQ⟩ : ∃ Q : Nat, (Q : Int) = fQ Φ := ⟨(fQ Φ).toNat, by omega⟩
  obtain ⟨T, hT⟩ : ∃ T : Nat, (T : Int) = fT Φ := ⟨(fT Φ).toNat, by omega⟩
  obtain ⟨-, r2, r3, r4⟩ := hr
  obtain ⟨sz', pl', e1, f1, f2, -, -, f5⟩ := read_b78_z told (upd isThere 0 1) (upd things 0 (zI (fT Φ))) (upd quires 0 (zI (fQ Φ))) (upd fl 0 (zI (fL Φ))) (upd fp 0 0) taped fk fpl rd (zI (fL Φ)) nS nP nK cd ep ek ex kindOf catchOf (zI (fT Φ)) (fS Φ) Q (by omega) (fun q a b => by have := hw.2.1 q a (by omega); omega) (fun q a b => r2 q a (by omega)) Q FU 0 sizeOf placed (by omega) (by unfold FU; omega)
  obtain ⟨ki', ca', e2, k1, k2, -, k4⟩ := read_b149_z told (upd isThere 0 1) (upd things 0 (zI (fT Φ))) (upd quires 0 (zI (fQ Φ))) (upd fl 0 (zI (fL Φ))) (upd fp 0 0) taped fk fpl rd (zI (fL Φ)) nS nP nK cd ep ek ex sz' pl' (zI (fQ Φ)) T (by omega) T FU 0 kindOf catchOf (by omega) (by unfold FU; omega)
  have u1 (X : NF) (x : Int32) : Frm 1 X (upd X 0 x) := Frm_u (a := 0) x (by omega) (by omega)
  rw [hT] at e2
  rw [hQ] at e1
  refine ⟨_, _, _, _, _, sz', pl', ki', ca', Eq.trans e1 e2, upd_at isThere 0 1, ?_, u1 _ _, u1 _ _, u1 _ _, u1 _ _, u1 _ _, f1, f2, k1, k2⟩
  refine ⟨⟨upd_at _ _ _, upd_at _ _ _, upd_at _ _ _, ?_⟩, fun q a b => ?_, fun q p a b c d => ?_, fun i a b => ?_, fun i a b c => ?_⟩
  · rw [hP]; exact upd_at _ _ _
  · rw [show 8 * 0 + q = q by omega]
    exact (f5 q (by omega) (by omega)).1
  · rw [show 64 * 0 + 8 * q + p - 1 = 8 * q + p - 1 by omega, (f5 q (by omega) (by omega)).2 p c d]
    exact r3 q p a b c d (fun e => by rw [← e]; exact d)
  · rw [show 30 * 0 + i = i by omega, (k4 i (by omega) (by omega)).1]
    exact r4 i a b (by omega)
  · rw [show 30 * 0 + i = i by omega, (k4 i (by omega) (by omega)).2, hz i a b c]
    rfl
end RF

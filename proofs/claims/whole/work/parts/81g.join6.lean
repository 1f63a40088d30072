def Frm (n : Int) (X X' : NF) : Prop := ∀ i : Int, n ≤ i → X' i.toNat = X i.toNat
theorem Frm_r (n : Int) (X : NF) : Frm n X X := fun _ _ => rfl
theorem Frm_t {n : Int} {X Y Z : NF} (h1 : Frm n X Y) (h2 : Frm n Y Z) : Frm n X Z := fun i h => (h2 i h).trans (h1 i h)
theorem Frm_u {n a : Int} {X : NF} (x : Int32) (h0 : 0 ≤ a) (h : a < n) : Frm n X (upd X a.toNat x) := fun i hi => by
  rw [upd_z _ _ h0 (by omega), if_neg (by omega)]
theorem PK_bQ {Φ : Fold} {l s : Int} {made : Int32} {madeKind madePlaced : NF} (hw : PW Φ l) (hc : PK Φ l made madeKind madePlaced) (hl : 0 < fQ Φ → l = fS Φ (fQ Φ - 1)) : PK (bQ Φ s) 0 made madeKind madePlaced := by
  obtain ⟨h1, h2, h3⟩ := hc
  have hr := hw.1
  refine ⟨h1, h2, fun q p a b c d e => ?_⟩
  have b : q < fQ Φ + 1 := b
  have e : q = fQ Φ + 1 - 1 → p ≤ 0 := e
  rw [bQ_S] at d
  have ne : ¬ q = fQ Φ := by intro c2; have := e (by omega); omega
  rw [if_neg ne] at d
  exact h3 q p a (by omega) c d (fun c2 => by subst c2; have := hl (by omega); omega)
section JM
variable {A B Φ : Fold} {l f g : Int} {mthings mquires firstLetter firstPage sizeOf placed kindOf catchOf isThere : Nat → Int32} {made : Int32} {madeKind madePlaced : Nat → Int32}
theorem ideal_b143_z (hA : FoldW A) (mA : FoldM f A mthings mquires firstLetter firstPage sizeOf placed kindOf catchOf) (hB : FoldW B) (mB : FoldM g B mthings mquires firstLetter firstPage sizeOf placed kindOf catchOf) (hf : 0 ≤ f) (hf2 : f < 5) (hg : 0 ≤ g) (hg2 : g < 5) (tA : isThere f.toNat = 1) (tB : isThere g.toNat = 1) (told : Int32) (L x5 : Int) (hx : 0 ≤ x5) (hx2 : x5 < 5) (N : Nat) (hN : (N : Int) = max (fQ A) (fQ B)) (hxq : mquires x5.toNat = zI N) (hxs : ∀ q, 0 ≤ q → q < (N : Int) → sizeOf (8 * x5 + q).toNat = zI (jS A B q)) (hT : ∀ m : Nat, m < N → ∀ p : Nat, p ≤ (jS A B m).toNat → fT (jQ A B m p (bQ (jA A B L m) (jS A B m))) ≤ 160) (hTN : fT (jA A B L N) ≤ 160) : ∀ (d m q : Nat) (made : Int32) (madeKind madePlaced : NF), q + d = N → d < m → PK (jA A B L q) (jl A B q) made madeKind madePlaced → ∃ m' k' p', F_X8_ideal_b143 m told isThere mthings mquires firstLetter firstPage sizeOf placed kindOf catchOf made madeKind madePlaced (zI f) (zI g) (zI x5) (zI q) = (if fT (jA A B L N) ≤ 30 then F_X8_ideal_b439 FU told (upd isThere 0 1) (upd mthings 0 (zI (fT (jA A B L N)))) (upd mquires 0 (zI N)) (upd firstLetter 0 (zI (fL A))) (upd firstPage 0 0) sizeOf placed kindOf catchOf m' k' p' (zI x5) 0 else some (-1, told, isThere, mthings, mquires, firstLetter, firstPage, sizeOf, placed, kindOf, catchOf, m', k', p')) ∧ PK (jA A B L N) (jl A B N) m' k' p'
  | 0, m + 1, q, made, madeKind, madePlaced, hq, _, hc => by
    have hrA := hA.1
    have hrB := hB.1
    have e : q = N := by omega
    subst e
    have hl := mA.1.2.2.1
    have hwN := (PW_jA hA hB L q (by omega)).1
    have hm := hc.1
    refine ⟨made, madeKind, madePlaced, ?_, hc⟩
    unfold F_X8_ideal_b143
    by_cases h : fT (jA A B L q) ≤ 30
    · rw [if_pos h, zl_0, zl_1, show ((zI 0).toNatClampNeg) = 0 from rfl]
      rw [hm]
      simp (disch := omega) only [zl_0, zl_1, zl_2, zl_3, zl_4, zl_5, zl_6, zl_7, zl_8, zl_9, zl_10, zl_11, zl_12, zl_13, zl_14, zl_15, zl_16, zl_17, zl_18, zl_19, zl_20, zl_21, zl_22, zl_23, zl_24, zl_25, zl_26, zl_27, zl_28, zl_29, zl_30, zl_31, zl_32, zl_33, zl_34, zl_35, zl_36, zl_37, zl_38, zl_39, zl_40, zl_41, zl_42, zl_43, zl_44, zl_45, zl_46, zl_47, zl_48, zl_49, zl_50, zl_51, zl_52, zl_53, zl_54, zl_55, zl_56, zl_57, zl_58, zl_59, zl_60, zl_61, zl_62, zl_63, zl_64, zl_65, zl_66, zl_80, zl_97, zl_99, zl_103, zl_107, zl_112, zl_115, zl_100, zl_180, zl_210, zl_238, zl_255, zl_256, zl_400, zl_1000, zl_1024, zl_1260, zl_2000, zl_7140, zl_7200, zl_18414, zl_65536, zl_131072, zl_9999, zl_999, zI_add, zI_sub, zI_mul, zI_neg, zI_lt, zI_le, zI_eq, zI_clamp, ck_z, ckp_z, qb_z, qb_z0, Option.bind_some, if_pos, if_neg, reduceIte, reduceCtorEq, Bool.false_eq_true, Bool.true_eq_false, hxq, hl]
    · rw [if_neg h, hm]
      simp (disch := omega) only [zl_0, zl_1, zl_2, zl_3, zl_4, zl_5, zl_6, zl_7, zl_8, zl_9, zl_10, zl_11, zl_12, zl_13, zl_14, zl_15, zl_16, zl_17, zl_18, zl_19, zl_20, zl_21, zl_22, zl_23, zl_24, zl_25, zl_26, zl_27, zl_28, zl_29, zl_30, zl_31, zl_32, zl_33, zl_34, zl_35, zl_36, zl_37, zl_38, zl_39, zl_40, zl_41, zl_42, zl_43, zl_44, zl_45, zl_46, zl_47, zl_48, zl_49, zl_50, zl_51, zl_52, zl_53, zl_54, zl_55, zl_56, zl_57, zl_58, zl_59, zl_60, zl_61, zl_62, zl_63, zl_64, zl_65, zl_66, zl_80, zl_97, zl_99, zl_103, zl_107, zl_112, zl_115, zl_100, zl_180, zl_210, zl_238, zl_255, zl_256, zl_400, zl_1000, zl_1024, zl_1260, zl_2000, zl_7140, zl_7200, zl_18414, zl_65536, zl_131072, zl_9999, zl_999, zI_add, zI_sub, zI_mul, zI_neg, zI_lt, zI_le, zI_eq, zI_clamp, ck_z, ckp_z, qb_z, qb_z0, Option.bind_some, if_pos, if_neg, reduceIte, reduceCtorEq, Bool.false_eq_true, Bool.true_eq_false, hxq]
  | d + 1, m + 1, q, made, madeKind, madePlaced, hq, hm, hc => by
    have hrA := hA.1
    have hrB := hB.1
    have hf' := jA_f A B L q
    have hs := jS_b hA hB q (by omega) (by omega)
    have hw := PW_jA hA hB L q (by omega)
    have hll : 0 < fQ (jA A B L q) → jl A B q = fS (jA A B L q) (fQ (jA A B L q) - 1) := by
      intro h0
      rw [hf'.1] at h0
      unfold jl
      rw [if_neg (by omega), hf'.1, hf'.2.1 _ (by omega) (by omega)]
    have hw2 := PW_bQ hw hll (by rw [hf'.1]; omega) hs
    have eQ : fQ (bQ (jA A B L q) (jS A B q)) = (q : Int) + 1 := by show fQ (jA A B L q) + 1 = _; rw [hf'.1]
    obtain ⟨m', k', p', e1, hc2⟩ := ideal_b158_z (isThere := isThere) (Φ := bQ (jA A B L q) (jS A B q)) hA mA hB mB hf hf2 hg hg2 tA tB told (fun a0 a1 a2 a3 a4 a5 a6 a7 a8 a9 b0 b1 b2 x3 x4 x5 x6 => F_X8_ideal_b143 m a0 a1 a2 a3 a4 a5 a6 a7 a8 a9 b0 b1 b2 x3 x4 x5 x6) x5 hx hx2 q (by rw [eQ]; omega) (jS A B q).toNat (by rw [eQ, show (q : Int) + 1 - 1 = q by omega, bQ_S, if_pos (by rw [hf'.1])]; omega) (by rw [hxs q (by omega) (by omega)]; congr 1; omega) (by rw [eQ]; omega) (hT q (by omega)) hw2 (jS A B q).toNat FU 0 made madeKind madePlaced (by omega) (by unfold FU; omega) (PK_bQ hw hc hll)
    have ej : jl A B (q + 1) = jS A B q := by
      unfold jl
      rw [if_neg (by omega)]
      congr 1
      omega
    rw [Int.toNat_of_nonneg (by omega)] at hc2
    obtain ⟨m2, k2, p2, e2, hc3⟩ := ideal_b143_z hA mA hB mB hf hf2 hg hg2 tA tB told L x5 hx hx2 N hN hxq hxs hT hTN d m (q + 1) m' k' p' (by omega) (by omega) (by rw [ej]; exact hc2)
    refine ⟨m2, k2, p2, ?_, hc3⟩
    refine Eq.trans ?_ e2
    refine Eq.trans ?_ e1
    rw [F_X8_ideal_b143]
    simp (disch := omega) only [zl_0, zl_1, zl_2, zl_3, zl_4, zl_5, zl_6, zl_7, zl_8, zl_9, zl_10, zl_11, zl_12, zl_13, zl_14, zl_15, zl_16, zl_17, zl_18, zl_19, zl_20, zl_21, zl_22, zl_23, zl_24, zl_25, zl_26, zl_27, zl_28, zl_29, zl_30, zl_31, zl_32, zl_33, zl_34, zl_35, zl_36, zl_37, zl_38, zl_39, zl_40, zl_41, zl_42, zl_43, zl_44, zl_45, zl_46, zl_47, zl_48, zl_49, zl_50, zl_51, zl_52, zl_53, zl_54, zl_55, zl_56, zl_57, zl_58, zl_59, zl_60, zl_61, zl_62, zl_63, zl_64, zl_65, zl_66, zl_80, zl_97, zl_99, zl_103, zl_107, zl_112, zl_115, zl_100, zl_180, zl_210, zl_238, zl_255, zl_256, zl_400, zl_1000, zl_1024, zl_1260, zl_2000, zl_7140, zl_7200, zl_18414, zl_65536, zl_131072, zl_9999, zl_999, zI_add, zI_sub, zI_mul, zI_neg, zI_lt, zI_le, zI_eq, zI_clamp, ck_z, ckp_z, qb_z, qb_z0, Option.bind_some, if_pos, if_neg, reduceIte, reduceCtorEq, Bool.false_eq_true, Bool.true_eq_false, hxq]
    rfl
theorem ideal_b473_z (told : Int32) (isThere things quires fl fp sizeOf kindOf catchOf : NF) (made : Int32) (mk mp : NF) (k439 : Int32 → NF → NF → NF → NF → NF → NF → NF → NF → NF → Int32 → NF → NF → Int32 → Int32 → Option IdR) (x5 : Int32) (q : Int) (hq : 0 ≤ q) (hq2 : q < 8) (s : Nat) (hs : s ≤ 8) (hsz : sizeOf q.toNat = zI s) : ∀ (d m p : Nat) (placed : NF), p + d = s → d < m → ∃ pl', F_X8_ideal_b473 k439 m told isThere things quires fl fp sizeOf placed kindOf catchOf made mk mp x5 (zI q) (zI (p + 1)) = k439 told isThere things quires fl fp sizeOf pl' kindOf catchOf made mk mp x5 (zI (q + 1)) ∧ (∀ i : Int, 0 ≤ i → (i < 8 * q + p ∨ 8 * q + 8 ≤ i) → pl' i.toNat = placed i.toNat) ∧ (∀ p' : Int, (p : Int) < p' → p' ≤ s → pl' (8 * q + p' - 1).toNat = mp (8 * q + p' - 1).toNat)
  | 0, m + 1, p, placed, hp, _ => by
    unfold F_X8_ideal_b473
    simp (disch := omega) only [zl_0, zl_1, zl_2, zl_3, zl_4, zl_5, zl_6, zl_7, zl_8, zl_9, zl_10, zl_11, zl_12, zl_13, zl_14, zl_15, zl_16, zl_17, zl_18, zl_19, zl_20, zl_21, zl_22, zl_23, zl_24, zl_25, zl_26, zl_27, zl_28, zl_29, zl_30, zl_31, zl_32, zl_33, zl_34, zl_35, zl_36, zl_37, zl_38, zl_39, zl_40, zl_41, zl_42, zl_43, zl_44, zl_45, zl_46, zl_47, zl_48, zl_49, zl_50, zl_51, zl_52, zl_53, zl_54, zl_55, zl_56, zl_57, zl_58, zl_59, zl_60, zl_61, zl_62, zl_63, zl_64, zl_65, zl_66, zl_80, zl_97, zl_99, zl_103, zl_107, zl_112, zl_115, zl_100, zl_180, zl_210, zl_238, zl_255, zl_256, zl_400, zl_1000, zl_1024, zl_1260, zl_2000, zl_7140, zl_7200, zl_18414, zl_65536, zl_131072, zl_9999, zl_999, zI_add, zI_sub, zI_mul, zI_neg, zI_lt, zI_le, zI_eq, zI_clamp, ck_z, ckp_z, qb_z, qb_z0, Option.bind_some, if_pos, if_neg, reduceIte, reduceCtorEq, Bool.false_eq_true, Bool.true_eq_false, hsz]
    exact ⟨_, rfl, fun _ _ _ => rfl, fun p' a b => by omega⟩
  | d + 1, m + 1, p, placed, hp, hm => by
    obtain ⟨pl', e, g1, g2⟩ := ideal_b473_z told isThere things quires fl fp sizeOf kindOf catchOf made mk mp k439 x5 q hq hq2 s hs hsz d m (p + 1) (upd placed (8 * q + (p + 1) - 1).toNat (mp (8 * q + (p + 1) - 1).toNat)) (by omega) (by omega)
    refine ⟨pl', ?_, fun i h0 h1 => ?_, fun p' h1 h2 => ?_⟩
    · refine Eq.trans ?_ e
      rw [F_X8_ideal_b473]
      simp (disch := omega) only [zl_0, zl_1, zl_2, zl_3, zl_4, zl_5, zl_6, zl_7, zl_8, zl_9, zl_10, zl_11, zl_12, zl_13, zl_14, zl_15, zl_16, zl_17, zl_18, zl_19, zl_20, zl_21, zl_22, zl_23, zl_24, zl_25, zl_26, zl_27, zl_28, zl_29, zl_30, zl_31, zl_32, zl_33, zl_34, zl_35, zl_36, zl_37, zl_38, zl_39, zl_40, zl_41, zl_42, zl_43, zl_44, zl_45, zl_46, zl_47, zl_48, zl_49, zl_50, zl_51, zl_52, zl_53, zl_54, zl_55, zl_56, zl_57, zl_58, zl_59, zl_60, zl_61, zl_62, zl_63, zl_64, zl_65, zl_66, zl_80, zl_97, zl_99, zl_103, zl_107, zl_112, zl_115, zl_100, zl_180, zl_210, zl_238, zl_255, zl_256, zl_400, zl_1000, zl_1024, zl_1260, zl_2000, zl_7140, zl_7200, zl_18414, zl_65536, zl_131072, zl_9999, zl_999, zI_add, zI_sub, zI_mul, zI_neg, zI_lt, zI_le, zI_eq, zI_clamp, ck_z, ckp_z, qb_z, qb_z0, Option.bind_some, if_pos, if_neg, reduceIte, reduceCtorEq, Bool.false_eq_true, Bool.true_eq_false, hsz, at_z, Int.mul_zero, Int.zero_add]
      rfl
    · rw [g1 i h0 (by omega), upd_z _ _ (by omega) h0, if_neg (by omega)]
    · by_cases c : p' = p + 1
      · subst c
        rw [g1 _ (by omega) (by omega), upd_z _ _ (by omega) (by omega), if_pos rfl]
      · exact g2 p' (by omega) h2
theorem ideal_b439_z (told : Int32) (isThere things quires fl fp kindOf catchOf : NF) (made : Int32) (mk mp : NF) (S : Int → Int) (x5 : Int) (hx : 1 ≤ x5) (hx2 : x5 < 5) (N : Nat) (hN : N ≤ 8) (hQ : quires 0 = zI N) (hS : ∀ q, 0 ≤ q → q < (N : Int) → 0 ≤ S q ∧ S q ≤ 8) : ∀ (d m q : Nat) (sizeOf placed : NF), q + d = N → d < m → (∀ q', 0 ≤ q' → q' < (N : Int) → sizeOf (8 * x5 + q').toNat = zI (S q')) → ∃ sz' pl', F_X8_ideal_b439 m told isThere things quires fl fp sizeOf placed kindOf catchOf made mk mp (zI x5) (zI q) = F_X8_ideal_b529 FU told isThere things quires fl fp sz' pl' kindOf catchOf made mk mp 0 ∧ Frm 8 sizeOf sz' ∧ Frm 64 placed pl' ∧ (∀ i : Int, 0 ≤ i → i < q → sz' i.toNat = sizeOf i.toNat) ∧ (∀ i : Int, 0 ≤ i → i < 8 * q → pl' i.toNat = placed i.toNat) ∧ (∀ q' : Int, (q : Int) ≤ q' → q' < N → sz' q'.toNat = zI (S q') ∧ ∀ p', 1 ≤ p' → p' ≤ S q' → pl' (8 * q' + p' - 1).toNat = mp (8 * q' + p' - 1).toNat)
  | 0, m + 1, q, sizeOf, placed, hq, _, hs => by
    unfold F_X8_ideal_b439
    rw [show (0 : Int32).toNatClampNeg = 0 from rfl, hQ]
    simp (disch := omega) only [zl_0, zl_1, zl_2, zl_3, zl_4, zl_5, zl_6, zl_7, zl_8, zl_9, zl_10, zl_11, zl_12, zl_13, zl_14, zl_15, zl_16, zl_17, zl_18, zl_19, zl_20, zl_21, zl_22, zl_23, zl_24, zl_25, zl_26, zl_27, zl_28, zl_29, zl_30, zl_31, zl_32, zl_33, zl_34, zl_35, zl_36, zl_37, zl_38, zl_39, zl_40, zl_41, zl_42, zl_43, zl_44, zl_45, zl_46, zl_47, zl_48, zl_49, zl_50, zl_51, zl_52, zl_53, zl_54, zl_55, zl_56, zl_57, zl_58, zl_59, zl_60, zl_61, zl_62, zl_63, zl_64, zl_65, zl_66, zl_80, zl_97, zl_99, zl_103, zl_107, zl_112, zl_115, zl_100, zl_180, zl_210, zl_238, zl_255, zl_256, zl_400, zl_1000, zl_1024, zl_1260, zl_2000, zl_7140, zl_7200, zl_18414, zl_65536, zl_131072, zl_9999, zl_999, zI_add, zI_sub, zI_mul, zI_neg, zI_lt, zI_le, zI_eq, zI_clamp, ck_z, ckp_z, qb_z, qb_z0, Option.bind_some, if_pos, if_neg, reduceIte, reduceCtorEq, Bool.false_eq_true, Bool.true_eq_false]
    exact ⟨_, _, rfl, Frm_r _ _, Frm_r _ _, fun _ _ _ => rfl, fun _ _ _ => rfl, fun q' a b => by omega⟩
  | d + 1, m + 1, q, sizeOf, placed, hq, hm, hs => by
    have hS1 := hS q (by omega) (by omega)
    have hs1 := hs q (by omega) (by omega)
    obtain ⟨pl1, e1, g1, g2⟩ := ideal_b473_z told isThere things quires fl fp (upd sizeOf (q : Int).toNat (zI (S q))) kindOf catchOf made mk mp (fun a0 a1 a2 a3 a4 a5 a6 a7 a8 a9 b0 b1 b2 x5 x6 => F_X8_ideal_b439 m a0 a1 a2 a3 a4 a5 a6 a7 a8 a9 b0 b1 b2 x5 x6) (zI x5) q (by omega) (by omega) (S q).toNat (by omega) (by rw [upd_z _ _ (by omega) (by omega), if_pos rfl, Int.toNat_of_nonneg hS1.1]) (S q).toNat FU 0 placed (by omega) (by unfold FU; omega)
    obtain ⟨sz', pl', e2, f1, f2, f3, f4, f5⟩ := ideal_b439_z told isThere things quires fl fp kindOf catchOf made mk mp S x5 hx hx2 N hN hQ hS d m (q + 1) (upd sizeOf (q : Int).toNat (zI (S q))) pl1 (by omega) (by omega) (fun q' a b => by rw [upd_z _ _ (by omega) (by omega), if_neg (by omega)]; exact hs q' a b)
    refine ⟨sz', pl', ?_, Frm_t (Frm_u _ (by omega) (by omega)) f1, Frm_t (fun i hi => g1 i (by omega) (by omega)) f2, fun i a b => ?_, fun i a b => ?_, fun q' a b => ?_⟩
    · refine Eq.trans ?_ e2
      refine Eq.trans ?_ e1
      rw [F_X8_ideal_b439]
      rw [show (0 : Int32).toNatClampNeg = 0 from rfl, hQ]
      simp (disch := omega) only [zl_0, zl_1, zl_2, zl_3, zl_4, zl_5, zl_6, zl_7, zl_8, zl_9, zl_10, zl_11, zl_12, zl_13, zl_14, zl_15, zl_16, zl_17, zl_18, zl_19, zl_20, zl_21, zl_22, zl_23, zl_24, zl_25, zl_26, zl_27, zl_28, zl_29, zl_30, zl_31, zl_32, zl_33, zl_34, zl_35, zl_36, zl_37, zl_38, zl_39, zl_40, zl_41, zl_42, zl_43, zl_44, zl_45, zl_46, zl_47, zl_48, zl_49, zl_50, zl_51, zl_52, zl_53, zl_54, zl_55, zl_56, zl_57, zl_58, zl_59, zl_60, zl_61, zl_62, zl_63, zl_64, zl_65, zl_66, zl_80, zl_97, zl_99, zl_103, zl_107, zl_112, zl_115, zl_100, zl_180, zl_210, zl_238, zl_255, zl_256, zl_400, zl_1000, zl_1024, zl_1260, zl_2000, zl_7140, zl_7200, zl_18414, zl_65536, zl_131072, zl_9999, zl_999, zI_add, zI_sub, zI_mul, zI_neg, zI_lt, zI_le, zI_eq, zI_clamp, ck_z, ckp_z, qb_z, qb_z0, Option.bind_some, if_pos, if_neg, reduceIte, reduceCtorEq, Bool.false_eq_true, Bool.true_eq_false, hs1]
      rfl
    · rw [f3 i a (by omega), upd_z _ _ (by omega) a, if_neg (by omega)]
    · rw [f4 i a (by omega), g1 i a (by omega)]
    · by_cases c : q' = q
      · subst c
        refine ⟨?_, fun p' h1 h2 => ?_⟩
        · rw [f3 _ (by omega) (by omega), upd_z _ _ (by omega) (by omega), if_pos rfl]
        · rw [f4 _ (by omega) (by omega), g2 p' (by omega) (by omega)]
      · exact f5 q' (by omega) b
theorem ideal_b529_z (told : Int32) (isThere things quires fl fp sizeOf placed : NF) (T : Nat) (hT : T ≤ 30) (mk mp : NF) : ∀ (d m i : Nat) (kindOf catchOf : NF), i + d = T → d < m → ∃ ki' ca', F_X8_ideal_b529 m told isThere things quires fl fp sizeOf placed kindOf catchOf (zI T) mk mp (zI i) = some (zI T, told, isThere, things, quires, fl, fp, sizeOf, placed, ki', ca', zI T, mk, mp) ∧ Frm 30 kindOf ki' ∧ Frm 30 catchOf ca' ∧ (∀ j : Int, 0 ≤ j → j < i → ki' j.toNat = kindOf j.toNat ∧ ca' j.toNat = catchOf j.toNat) ∧ (∀ j : Int, (i : Int) ≤ j → j < T → ki' j.toNat = mk j.toNat ∧ ca' j.toNat = 0)
  | 0, m + 1, i, kindOf, catchOf, hi, _ => by
    unfold F_X8_ideal_b529
    simp (disch := omega) only [zl_0, zl_1, zl_2, zl_3, zl_4, zl_5, zl_6, zl_7, zl_8, zl_9, zl_10, zl_11, zl_12, zl_13, zl_14, zl_15, zl_16, zl_17, zl_18, zl_19, zl_20, zl_21, zl_22, zl_23, zl_24, zl_25, zl_26, zl_27, zl_28, zl_29, zl_30, zl_31, zl_32, zl_33, zl_34, zl_35, zl_36, zl_37, zl_38, zl_39, zl_40, zl_41, zl_42, zl_43, zl_44, zl_45, zl_46, zl_47, zl_48, zl_49, zl_50, zl_51, zl_52, zl_53, zl_54, zl_55, zl_56, zl_57, zl_58, zl_59, zl_60, zl_61, zl_62, zl_63, zl_64, zl_65, zl_66, zl_80, zl_97, zl_99, zl_103, zl_107, zl_112, zl_115, zl_100, zl_180, zl_210, zl_238, zl_255, zl_256, zl_400, zl_1000, zl_1024, zl_1260, zl_2000, zl_7140, zl_7200, zl_18414, zl_65536, zl_131072, zl_9999, zl_999, zI_add, zI_sub, zI_mul, zI_neg, zI_lt, zI_le, zI_eq, zI_clamp, ck_z, ckp_z, qb_z, qb_z0, Option.bind_some, if_pos, if_neg, reduceIte, reduceCtorEq, Bool.false_eq_true, Bool.true_eq_false]
    exact ⟨_, _, rfl, Frm_r _ _, Frm_r _ _, fun _ _ _ => ⟨rfl, rfl⟩, fun j a b => by omega⟩
  | d + 1, m + 1, i, kindOf, catchOf, hi, hm => by
    obtain ⟨ki', ca', e, f1, f2, f3, f4⟩ := ideal_b529_z told isThere things quires fl fp sizeOf placed T hT mk mp d m (i + 1) (upd kindOf (i : Int).toNat (mk (i : Int).toNat)) (upd catchOf (i : Int).toNat 0) (by omega) (by omega)
    refine ⟨ki', ca', ?_, Frm_t (Frm_u _ (by omega) (by omega)) f1, Frm_t (Frm_u _ (by omega) (by omega)) f2, fun j a b => ?_, fun j a b => ?_⟩
    · refine Eq.trans ?_ e
      rw [F_X8_ideal_b529]
      simp (disch := omega) only [zl_0, zl_1, zl_2, zl_3, zl_4, zl_5, zl_6, zl_7, zl_8, zl_9, zl_10, zl_11, zl_12, zl_13, zl_14, zl_15, zl_16, zl_17, zl_18, zl_19, zl_20, zl_21, zl_22, zl_23, zl_24, zl_25, zl_26, zl_27, zl_28, zl_29, zl_30, zl_31, zl_32, zl_33, zl_34, zl_35, zl_36, zl_37, zl_38, zl_39, zl_40, zl_41, zl_42, zl_43, zl_44, zl_45, zl_46, zl_47, zl_48, zl_49, zl_50, zl_51, zl_52, zl_53, zl_54, zl_55, zl_56, zl_57, zl_58, zl_59, zl_60, zl_61, zl_62, zl_63, zl_64, zl_65, zl_66, zl_80, zl_97, zl_99, zl_103, zl_107, zl_112, zl_115, zl_100, zl_180, zl_210, zl_238, zl_255, zl_256, zl_400, zl_1000, zl_1024, zl_1260, zl_2000, zl_7140, zl_7200, zl_18414, zl_65536, zl_131072, zl_9999, zl_999, zI_add, zI_sub, zI_mul, zI_neg, zI_lt, zI_le, zI_eq, zI_clamp, ck_z, ckp_z, qb_z, qb_z0, Option.bind_some, if_pos, if_neg, reduceIte, reduceCtorEq, Bool.false_eq_true, Bool.true_eq_false]
      rfl
    · have := f3 j a (by omega)
      rw [this.1, this.2, upd_z _ _ (by omega) a, upd_z _ _ (by omega) a, if_neg (by omega), if_neg (by omega)]
      exact ⟨rfl, rfl⟩
    · by_cases c : j = i
      · subst c
        have := f3 i (by omega) (by omega)
        rw [this.1, this.2, upd_z _ _ (by omega) (by omega), upd_z _ _ (by omega) (by omega), if_pos rfl, if_pos rfl]
        exact ⟨rfl, rfl⟩
      · exact f4 j (by omega) b
end JM

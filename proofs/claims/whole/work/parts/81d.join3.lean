def jl (A B : Fold) (n : Nat) : Int := if n = 0 then 0 else jS A B (n - 1)
def Wz (Φ : Fold) : Prop := ∀ i, 0 ≤ i → i < fT Φ → Hg (fK Φ i) → fW Φ i = 0
theorem Wz_b0 (L P : Int) : Wz (b0 L P) := fun i a b => by have : fT (b0 L P) = 0 := rfl; omega
theorem Wz_bT {Φ : Fold} {k : Int} (h : Wz Φ) (hk : ¬ Hg k) : Wz (bT Φ k) := by
  intro i a b c
  have b : i < fT Φ + 1 := b
  rw [bT_K] at c
  by_cases e : i = fT Φ
  · rw [if_pos e] at c
    exact absurd c hk
  · rw [if_neg e] at c
    exact h i a (by omega) c
theorem Wz_bL {Φ : Fold} {l k : Int} (h : Wz Φ) : Wz (bL Φ l k 0) := by
  intro i a b c
  have b : i < fT Φ + 1 := b
  rw [bL_K] at c
  rw [bL_W]
  by_cases e : i = fT Φ
  · rw [if_pos e]
  · rw [if_neg e] at c
    rw [if_neg e]
    exact h i a (by omega) c
theorem Wz_lr (κ : Int → Int) (n : Int) : ∀ (d : Nat) (k : Int) (Φ : Fold), Wz Φ → Wz (lr κ n d k Φ)
  | 0, _, _, h => h
  | d + 1, k, Φ, h => by
    by_cases h1 : k < n ∧ ¬ (κ k = 1 ∨ κ k = 2)
    · simp only [lr, if_pos h1]
      exact Wz_lr κ n d (k + 1) _ (Wz_bT h h1.2)
    · simp only [lr, if_neg h1]
      exact h
theorem Wz_jP {A B Φ : Fold} {q p l : Int} (h : Wz Φ) : Wz (jP A B q p l Φ) := by
  have h1 : Wz (jx A B q p l Φ) := by
    unfold jx
    (repeat' split) <;> first | exact Wz_bL h | exact Wz_bT (Wz_bL h) (by decide) | exact h
  unfold jP jy
  (repeat' split) <;> first | exact Wz_lr _ _ _ _ _ h1 | exact h1
theorem Wz_jQ {A B Φ : Fold} {q : Int} (h : Wz Φ) : ∀ p : Nat, Wz (jQ A B q p Φ)
  | 0 => h
  | p + 1 => Wz_jP (Wz_jQ h p)
theorem Wz_jA {A B : Fold} {L : Int} : ∀ n : Nat, Wz (jA A B L n)
  | 0 => Wz_lr _ _ _ _ _ (Wz_b0 L 0)
  | n + 1 => Wz_jQ (Φ := bQ (jA A B L n) (jS A B n)) (Wz_jA n) _
section JN
variable {A B Φ : Fold} {l : Int} {quires things ghosts letter page laid : Int32} {sizes cells kinds words quireOf placeOf : Nat → Int32} {aquires athings aghosts aletter apage : Int32} {asizes acells akinds awords aquireOf aplaceOf : Nat → Int32} {bquires bthings bghosts bletter bpage : Int32} {bsizes bcells bkinds bwords bquireOf bplaceOf : Nat → Int32} {mthings mquires firstLetter firstPage sizeOf placed kindOf catchOf isThere : Nat → Int32}
theorem join_b81_z (hA : FoldW A) (cA : FoldC A aquires athings aghosts aletter apage asizes acells akinds awords aquireOf aplaceOf) (hB : FoldW B) (cB : FoldC B bquires bthings bghosts bletter bpage bsizes bcells bkinds bwords bquireOf bplaceOf) (k25 : Bool → Int32 → Int32 → Int32 → Int32 → Int32 → (Nat → Int32) → (Nat → Int32) → (Nat → Int32) → (Nat → Int32) → (Nat → Int32) → (Nat → Int32) → Int32 → Int32 → Option (Bool × Int32 × Int32 × Int32 × Int32 × Int32 × (Nat → Int32) × (Nat → Int32) × (Nat → Int32) × (Nat → Int32) × (Nat → Int32) × (Nat → Int32) × Int32)) (made : Bool) (q : Int) (hq : 0 ≤ q) (hq2 : q < 8) (s : Nat) (hs : s ≤ 8) (hQ : 0 < fQ Φ) (hS : fS Φ (fQ Φ - 1) = s) (hT : ∀ p, p ≤ s → fT (jQ A B q p Φ) < 800) : ∀ (d m p : Nat) (things ghosts : Int32) (cells kinds words quireOf placeOf : Nat → Int32) (laid : Int32), p + d = s → d < m → PW (jQ A B q p Φ) p → PC (jQ A B q p Φ) p quires things ghosts letter page laid sizes cells kinds words quireOf placeOf → ∃ th gh ce ki wo qo po la, F_X0_join_b81 aquires athings asizes acells akinds bquires bthings bsizes bcells bkinds k25 m made quires things ghosts letter page sizes cells kinds words quireOf placeOf laid (zI q) (zI s) (zI (p + 1)) = k25 made quires th gh letter page sizes ce ki wo qo po la (zI (q + 1)) ∧ PW (jQ A B q s Φ) s ∧ PC (jQ A B q s Φ) s quires th gh letter page la sizes ce ki wo qo po
  | 0, m + 1, p, things, ghosts, cells, kinds, words, quireOf, placeOf, laid, hp, _, hw, hc => by
    have e : p = s := by omega
    subst e
    unfold F_X0_join_b81
    simp (disch := omega) only [zl_0, zl_1, zl_2, zl_3, zl_4, zl_5, zl_6, zl_7, zl_8, zl_9, zl_10, zl_11, zl_12, zl_13, zl_14, zl_15, zl_16, zl_17, zl_18, zl_19, zl_20, zl_21, zl_22, zl_23, zl_24, zl_25, zl_26, zl_27, zl_28, zl_29, zl_30, zl_31, zl_32, zl_33, zl_34, zl_35, zl_36, zl_37, zl_38, zl_39, zl_40, zl_41, zl_42, zl_43, zl_44, zl_45, zl_46, zl_47, zl_48, zl_49, zl_50, zl_51, zl_52, zl_53, zl_54, zl_55, zl_56, zl_57, zl_58, zl_59, zl_60, zl_61, zl_62, zl_63, zl_64, zl_65, zl_66, zl_80, zl_97, zl_99, zl_103, zl_107, zl_112, zl_115, zl_100, zl_180, zl_210, zl_238, zl_255, zl_256, zl_400, zl_1000, zl_1024, zl_1260, zl_2000, zl_7140, zl_7200, zl_18414, zl_65536, zl_131072, zl_9999, zl_999, zI_add, zI_sub, zI_mul, zI_neg, zI_lt, zI_le, zI_eq, zI_clamp, ck_z, ckp_z, qb_z, qb_z0, Option.bind_some, if_pos, if_neg, reduceIte, reduceCtorEq, Bool.false_eq_true, Bool.true_eq_false]
    exact ⟨_, _, _, _, _, _, _, _, rfl, hw, hc⟩
  | d + 1, m + 1, p, things, ghosts, cells, kinds, words, quireOf, placeOf, laid, hp, hm, hw, hc => by
    have hf := jQ_f A B q Φ p
    obtain ⟨c, e1, hw2, hc2⟩ := joinPlace_z hA cA hB cB hw hc q (p + 1) hq hq2 (by omega) (by omega) (hT p (by omega)) (by rw [hf.1]; exact hQ) (by rw [hf.1, hf.2.1, hS]; omega)
    unfold F_X0_join_b81
    simp (disch := omega) only [zl_0, zl_1, zl_2, zl_3, zl_4, zl_5, zl_6, zl_7, zl_8, zl_9, zl_10, zl_11, zl_12, zl_13, zl_14, zl_15, zl_16, zl_17, zl_18, zl_19, zl_20, zl_21, zl_22, zl_23, zl_24, zl_25, zl_26, zl_27, zl_28, zl_29, zl_30, zl_31, zl_32, zl_33, zl_34, zl_35, zl_36, zl_37, zl_38, zl_39, zl_40, zl_41, zl_42, zl_43, zl_44, zl_45, zl_46, zl_47, zl_48, zl_49, zl_50, zl_51, zl_52, zl_53, zl_54, zl_55, zl_56, zl_57, zl_58, zl_59, zl_60, zl_61, zl_62, zl_63, zl_64, zl_65, zl_66, zl_80, zl_97, zl_99, zl_103, zl_107, zl_112, zl_115, zl_100, zl_180, zl_210, zl_238, zl_255, zl_256, zl_400, zl_1000, zl_1024, zl_1260, zl_2000, zl_7140, zl_7200, zl_18414, zl_65536, zl_131072, zl_9999, zl_999, zI_add, zI_sub, zI_mul, zI_neg, zI_lt, zI_le, zI_eq, zI_clamp, ck_z, ckp_z, qb_z, qb_z0, Option.bind_some, if_pos, if_neg, reduceIte, reduceCtorEq, Bool.false_eq_true, Bool.true_eq_false, e1]
    exact join_b81_z hA cA hB cB k25 made q hq hq2 s hs hQ hS hT d m (p + 1) _ _ _ _ _ _ _ _ (by omega) (by omega) hw2 hc2
theorem join_b25_z (hA : FoldW A) (cA : FoldC A aquires athings aghosts aletter apage asizes acells akinds awords aquireOf aplaceOf) (hB : FoldW B) (cB : FoldC B bquires bthings bghosts bletter bpage bsizes bcells bkinds bwords bquireOf bplaceOf) (L : Int) (N : Nat) (hN : (N : Int) = max (fQ A) (fQ B)) (hT : ∀ m : Nat, m < N → ∀ p : Nat, p ≤ (jS A B m).toNat → fT (jQ A B m p (bQ (jA A B L m) (jS A B m))) < 800) (made : Bool) : ∀ (d m q : Nat) (quires things ghosts letter page : Int32) (sizes cells kinds words quireOf placeOf : Nat → Int32) (laid : Int32), q + d = 8 → d < m → PW (jA A B L (min q N)) (jl A B (min q N)) → PC (jA A B L (min q N)) (jl A B (min q N)) quires things ghosts letter page laid sizes cells kinds words quireOf placeOf → ∃ c, F_X0_join_b25 aquires athings asizes acells akinds bquires bthings bsizes bcells bkinds m made quires things ghosts letter page sizes cells kinds words quireOf placeOf laid (zI q) = some c ∧ c.1 = made ∧ PW (jA A B L N) (jl A B N) ∧ PC (jA A B L N) (jl A B N) c.2.1 c.2.2.1 c.2.2.2.1 c.2.2.2.2.1 c.2.2.2.2.2.1 c.2.2.2.2.2.2.2.2.2.2.2.2 c.2.2.2.2.2.2.1 c.2.2.2.2.2.2.2.1 c.2.2.2.2.2.2.2.2.1 c.2.2.2.2.2.2.2.2.2.1 c.2.2.2.2.2.2.2.2.2.2.1 c.2.2.2.2.2.2.2.2.2.2.2.1
  | 0, m + 1, q, quires, things, ghosts, letter, page, sizes, cells, kinds, words, quireOf, placeOf, laid, hq, _, hw, hc => by
    have hrA := hA.1
    have hrB := hB.1
    have e : min q N = N := by omega
    rw [e] at hw hc
    unfold F_X0_join_b25
    simp (disch := omega) only [zl_0, zl_1, zl_2, zl_3, zl_4, zl_5, zl_6, zl_7, zl_8, zl_9, zl_10, zl_11, zl_12, zl_13, zl_14, zl_15, zl_16, zl_17, zl_18, zl_19, zl_20, zl_21, zl_22, zl_23, zl_24, zl_25, zl_26, zl_27, zl_28, zl_29, zl_30, zl_31, zl_32, zl_33, zl_34, zl_35, zl_36, zl_37, zl_38, zl_39, zl_40, zl_41, zl_42, zl_43, zl_44, zl_45, zl_46, zl_47, zl_48, zl_49, zl_50, zl_51, zl_52, zl_53, zl_54, zl_55, zl_56, zl_57, zl_58, zl_59, zl_60, zl_61, zl_62, zl_63, zl_64, zl_65, zl_66, zl_80, zl_97, zl_99, zl_103, zl_107, zl_112, zl_115, zl_100, zl_180, zl_210, zl_238, zl_255, zl_256, zl_400, zl_1000, zl_1024, zl_1260, zl_2000, zl_7140, zl_7200, zl_18414, zl_65536, zl_131072, zl_9999, zl_999, zI_add, zI_sub, zI_mul, zI_neg, zI_lt, zI_le, zI_eq, zI_clamp, ck_z, ckp_z, qb_z, qb_z0, Option.bind_some, if_pos, if_neg, reduceIte, reduceCtorEq, Bool.false_eq_true, Bool.true_eq_false]
    exact ⟨_, rfl, rfl, hw, hc⟩
  | d + 1, m + 1, q, quires, things, ghosts, letter, page, sizes, cells, kinds, words, quireOf, placeOf, laid, hq, hm, hw, hc => by
    have hrA := hA.1
    have hrB := hB.1
    have eA : F_X0_hasQuire aquires (zI q) = some (decide (0 ≤ (q : Int) ∧ (q : Int) < fQ A)) := by rw [cA.1.1]; exact hasQuire_z _ _ (by omega) (by omega) (by omega) (by omega)
    have eB : F_X0_hasQuire bquires (zI q) = some (decide (0 ≤ (q : Int) ∧ (q : Int) < fQ B)) := by rw [cB.1.1]; exact hasQuire_z _ _ (by omega) (by omega) (by omega) (by omega)
    unfold F_X0_join_b25
    rw [eA, eB]
    by_cases hn : q < N
    · have e0 : min q N = q := by omega
      rw [e0] at hw hc
      have hf := jA_f A B L q
      have hs : 2 ≤ jS A B q ∧ jS A B q ≤ 8 ∧ jS A B q % 2 = 0 := by
        unfold jS
        by_cases c : (q : Int) < fQ A
        · rw [if_pos c]; exact hA.2.1 q (by omega) c
        · rw [if_neg c]; exact hB.2.1 q (by omega) (by omega)
      have hll : 0 < fQ (jA A B L q) → jl A B q = fS (jA A B L q) (fQ (jA A B L q) - 1) := by
        intro h0
        rw [hf.1] at h0
        unfold jl
        rw [if_neg (by omega), hf.1, hf.2.1 _ (by omega) (by omega)]
      obtain ⟨c, e1, hc2⟩ := addQuire_z hw hc (jS A B q) hll (by rw [hf.1]; omega)
      have hw2 := PW_bQ hw hll (by rw [hf.1]; omega) hs
      have hT2 := hT q hn
      have key := join_b81_z (sizes := c.2.1) (quires := c.1) (letter := letter) (page := page) hA cA hB cB (fun f_made f_quires f_things f_ghosts f_letter f_page f_sizes f_cells f_kinds f_words f_quireOf f_placeOf f_laid x3 => F_X0_join_b25 aquires athings asizes acells akinds bquires bthings bsizes bcells bkinds m f_made f_quires f_things f_ghosts f_letter f_page f_sizes f_cells f_kinds f_words f_quireOf f_placeOf f_laid x3) made q (by omega) (by omega) (jS A B q).toNat (by omega) (Φ := bQ (jA A B L q) (jS A B q)) (by show 0 < fQ (jA A B L q) + 1; rw [hf.1]; omega) (by rw [show fQ (bQ (jA A B L q) (jS A B q)) - 1 = fQ (jA A B L q) by show fQ (jA A B L q) + 1 - 1 = _; omega, bQ_S, if_pos rfl]; omega) hT2 (jS A B q).toNat FU 0 things ghosts cells kinds words quireOf placeOf c.2.2 (by omega) (by unfold FU; omega) hw2 hc2
      obtain ⟨th, gh, ce, ki, wo, qo, po, la, e2, hw3, hc3⟩ := key
      rw [Int.toNat_of_nonneg (by omega)] at e2 hw3 hc3
      have ej : jl A B (q + 1) = jS A B q := by
        unfold jl
        rw [if_neg (by omega)]
        congr 1
        omega
      have em : min (q + 1) N = q + 1 := by omega
      have ih := join_b25_z hA cA hB cB L N hN hT made d m (q + 1) c.1 th gh letter page c.2.1 ce ki wo qo po la (by omega) (by omega) (by rw [em, ej]; exact hw3) (by rw [em, ej]; exact hc3)
      have body : ∃ c, F_X0_join_b47 aquires athings asizes acells akinds bquires bthings bsizes bcells bkinds (fun f_made f_quires f_things f_ghosts f_letter f_page f_sizes f_cells f_kinds f_words f_quireOf f_placeOf f_laid x3 => F_X0_join_b25 aquires athings asizes acells akinds bquires bthings bsizes bcells bkinds m f_made f_quires f_things f_ghosts f_letter f_page f_sizes f_cells f_kinds f_words f_quireOf f_placeOf f_laid x3) made quires things ghosts letter page sizes cells kinds words quireOf placeOf laid (zI q) = some c ∧ c.1 = made ∧ PW (jA A B L N) (jl A B N) ∧ PC (jA A B L N) (jl A B N) c.2.1 c.2.2.1 c.2.2.2.1 c.2.2.2.2.1 c.2.2.2.2.2.1 c.2.2.2.2.2.2.2.2.2.2.2.2 c.2.2.2.2.2.2.1 c.2.2.2.2.2.2.2.1 c.2.2.2.2.2.2.2.2.1 c.2.2.2.2.2.2.2.2.2.1 c.2.2.2.2.2.2.2.2.2.2.1 c.2.2.2.2.2.2.2.2.2.2.2.1 := by
        have e3 : F_X0_join_b70 aquires athings asizes acells akinds bquires bthings bsizes bcells bkinds (fun f_made f_quires f_things f_ghosts f_letter f_page f_sizes f_cells f_kinds f_words f_quireOf f_placeOf f_laid x3 => F_X0_join_b25 aquires athings asizes acells akinds bquires bthings bsizes bcells bkinds m f_made f_quires f_things f_ghosts f_letter f_page f_sizes f_cells f_kinds f_words f_quireOf f_placeOf f_laid x3) made quires things ghosts letter page sizes cells kinds words quireOf placeOf laid (zI q) (zI (jS A B q)) = F_X0_join_b25 aquires athings asizes acells akinds bquires bthings bsizes bcells bkinds m made c.1 th gh letter page c.2.1 ce ki wo qo po la (zI (q + 1)) := by
          unfold F_X0_join_b70
          rw [e1, Option.bind_some]
          exact e2
        unfold F_X0_join_b47
        rw [eA, Option.bind_some]
        by_cases ca : (q : Int) < fQ A
        · have sz := cA.2.1 q (by omega) ca
          rw [decide_eq_true ⟨by omega, ca⟩]
          have ejs : jS A B q = fS A q := by unfold jS; rw [if_pos ca]
          rw [← ejs] at sz
          simp (disch := omega) only [zl_0, zl_1, zl_2, zl_3, zl_4, zl_5, zl_6, zl_7, zl_8, zl_9, zl_10, zl_11, zl_12, zl_13, zl_14, zl_15, zl_16, zl_17, zl_18, zl_19, zl_20, zl_21, zl_22, zl_23, zl_24, zl_25, zl_26, zl_27, zl_28, zl_29, zl_30, zl_31, zl_32, zl_33, zl_34, zl_35, zl_36, zl_37, zl_38, zl_39, zl_40, zl_41, zl_42, zl_43, zl_44, zl_45, zl_46, zl_47, zl_48, zl_49, zl_50, zl_51, zl_52, zl_53, zl_54, zl_55, zl_56, zl_57, zl_58, zl_59, zl_60, zl_61, zl_62, zl_63, zl_64, zl_65, zl_66, zl_80, zl_97, zl_99, zl_103, zl_107, zl_112, zl_115, zl_100, zl_180, zl_210, zl_238, zl_255, zl_256, zl_400, zl_1000, zl_1024, zl_1260, zl_2000, zl_7140, zl_7200, zl_18414, zl_65536, zl_131072, zl_9999, zl_999, zI_add, zI_sub, zI_mul, zI_neg, zI_lt, zI_le, zI_eq, zI_clamp, ck_z, ckp_z, qb_z, qb_z0, Option.bind_some, if_pos, if_neg, reduceIte, reduceCtorEq, Bool.false_eq_true, Bool.true_eq_false, sz, e3]
          exact ih
        · have sz := cB.2.1 q (by omega) (by omega)
          rw [decide_eq_false (by omega)]
          have ejs : jS A B q = fS B q := by unfold jS; rw [if_neg ca]
          rw [← ejs] at sz
          simp (disch := omega) only [zl_0, zl_1, zl_2, zl_3, zl_4, zl_5, zl_6, zl_7, zl_8, zl_9, zl_10, zl_11, zl_12, zl_13, zl_14, zl_15, zl_16, zl_17, zl_18, zl_19, zl_20, zl_21, zl_22, zl_23, zl_24, zl_25, zl_26, zl_27, zl_28, zl_29, zl_30, zl_31, zl_32, zl_33, zl_34, zl_35, zl_36, zl_37, zl_38, zl_39, zl_40, zl_41, zl_42, zl_43, zl_44, zl_45, zl_46, zl_47, zl_48, zl_49, zl_50, zl_51, zl_52, zl_53, zl_54, zl_55, zl_56, zl_57, zl_58, zl_59, zl_60, zl_61, zl_62, zl_63, zl_64, zl_65, zl_66, zl_80, zl_97, zl_99, zl_103, zl_107, zl_112, zl_115, zl_100, zl_180, zl_210, zl_238, zl_255, zl_256, zl_400, zl_1000, zl_1024, zl_1260, zl_2000, zl_7140, zl_7200, zl_18414, zl_65536, zl_131072, zl_9999, zl_999, zI_add, zI_sub, zI_mul, zI_neg, zI_lt, zI_le, zI_eq, zI_clamp, ck_z, ckp_z, qb_z, qb_z0, Option.bind_some, if_pos, if_neg, reduceIte, reduceCtorEq, Bool.false_eq_true, Bool.true_eq_false, sz, e3]
          exact ih
      by_cases ca : (q : Int) < fQ A
      · rw [decide_eq_true (show 0 ≤ (q : Int) ∧ (q : Int) < fQ A by omega)]
        simp (disch := omega) only [zl_0, zl_1, zl_2, zl_3, zl_4, zl_5, zl_6, zl_7, zl_8, zl_9, zl_10, zl_11, zl_12, zl_13, zl_14, zl_15, zl_16, zl_17, zl_18, zl_19, zl_20, zl_21, zl_22, zl_23, zl_24, zl_25, zl_26, zl_27, zl_28, zl_29, zl_30, zl_31, zl_32, zl_33, zl_34, zl_35, zl_36, zl_37, zl_38, zl_39, zl_40, zl_41, zl_42, zl_43, zl_44, zl_45, zl_46, zl_47, zl_48, zl_49, zl_50, zl_51, zl_52, zl_53, zl_54, zl_55, zl_56, zl_57, zl_58, zl_59, zl_60, zl_61, zl_62, zl_63, zl_64, zl_65, zl_66, zl_80, zl_97, zl_99, zl_103, zl_107, zl_112, zl_115, zl_100, zl_180, zl_210, zl_238, zl_255, zl_256, zl_400, zl_1000, zl_1024, zl_1260, zl_2000, zl_7140, zl_7200, zl_18414, zl_65536, zl_131072, zl_9999, zl_999, zI_add, zI_sub, zI_mul, zI_neg, zI_lt, zI_le, zI_eq, zI_clamp, ck_z, ckp_z, qb_z, qb_z0, Option.bind_some, if_pos, if_neg, reduceIte, reduceCtorEq, Bool.false_eq_true, Bool.true_eq_false]
        exact body
      · rw [decide_eq_false (show ¬ (0 ≤ (q : Int) ∧ (q : Int) < fQ A) by omega), decide_eq_true (show 0 ≤ (q : Int) ∧ (q : Int) < fQ B by omega)]
        simp (disch := omega) only [zl_0, zl_1, zl_2, zl_3, zl_4, zl_5, zl_6, zl_7, zl_8, zl_9, zl_10, zl_11, zl_12, zl_13, zl_14, zl_15, zl_16, zl_17, zl_18, zl_19, zl_20, zl_21, zl_22, zl_23, zl_24, zl_25, zl_26, zl_27, zl_28, zl_29, zl_30, zl_31, zl_32, zl_33, zl_34, zl_35, zl_36, zl_37, zl_38, zl_39, zl_40, zl_41, zl_42, zl_43, zl_44, zl_45, zl_46, zl_47, zl_48, zl_49, zl_50, zl_51, zl_52, zl_53, zl_54, zl_55, zl_56, zl_57, zl_58, zl_59, zl_60, zl_61, zl_62, zl_63, zl_64, zl_65, zl_66, zl_80, zl_97, zl_99, zl_103, zl_107, zl_112, zl_115, zl_100, zl_180, zl_210, zl_238, zl_255, zl_256, zl_400, zl_1000, zl_1024, zl_1260, zl_2000, zl_7140, zl_7200, zl_18414, zl_65536, zl_131072, zl_9999, zl_999, zI_add, zI_sub, zI_mul, zI_neg, zI_lt, zI_le, zI_eq, zI_clamp, ck_z, ckp_z, qb_z, qb_z0, Option.bind_some, if_pos, if_neg, reduceIte, reduceCtorEq, Bool.false_eq_true, Bool.true_eq_false]
        exact body
    · have e0 : min q N = N := by omega
      have e0' : min (q + 1) N = N := by omega
      rw [e0] at hw hc
      have ih := join_b25_z hA cA hB cB L N hN hT made d m (q + 1) quires things ghosts letter page sizes cells kinds words quireOf placeOf laid (by omega) (by omega) (by rw [e0']; exact hw) (by rw [e0']; exact hc)
      rw [decide_eq_false (show ¬ (0 ≤ (q : Int) ∧ (q : Int) < fQ A) by omega), decide_eq_false (show ¬ (0 ≤ (q : Int) ∧ (q : Int) < fQ B) by omega)]
      simp (disch := omega) only [zl_0, zl_1, zl_2, zl_3, zl_4, zl_5, zl_6, zl_7, zl_8, zl_9, zl_10, zl_11, zl_12, zl_13, zl_14, zl_15, zl_16, zl_17, zl_18, zl_19, zl_20, zl_21, zl_22, zl_23, zl_24, zl_25, zl_26, zl_27, zl_28, zl_29, zl_30, zl_31, zl_32, zl_33, zl_34, zl_35, zl_36, zl_37, zl_38, zl_39, zl_40, zl_41, zl_42, zl_43, zl_44, zl_45, zl_46, zl_47, zl_48, zl_49, zl_50, zl_51, zl_52, zl_53, zl_54, zl_55, zl_56, zl_57, zl_58, zl_59, zl_60, zl_61, zl_62, zl_63, zl_64, zl_65, zl_66, zl_80, zl_97, zl_99, zl_103, zl_107, zl_112, zl_115, zl_100, zl_180, zl_210, zl_238, zl_255, zl_256, zl_400, zl_1000, zl_1024, zl_1260, zl_2000, zl_7140, zl_7200, zl_18414, zl_65536, zl_131072, zl_9999, zl_999, zI_add, zI_sub, zI_mul, zI_neg, zI_lt, zI_le, zI_eq, zI_clamp, ck_z, ckp_z, qb_z, qb_z0, Option.bind_some, if_pos, if_neg, reduceIte, reduceCtorEq, Bool.false_eq_true, Bool.true_eq_false]
      exact ih
end JN

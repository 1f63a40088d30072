section RC
variable {κ π σ : Int → Int} {l E : Int} {quires ghosts letter page laid : Int32} {sizes cells words quireOf placeOf : NF} {states lk lp : NF}
theorem looseOf_z (hs : ∀ j, 0 ≤ j → j < E → lk j.toNat = zI (κ j) ∧ lp j.toNat = zI (π j)) (hk : ∀ j, 0 ≤ j → j < E → 3 ≤ κ j ∧ κ j ≤ 5 ∧ 0 ≤ π j ∧ π j ≤ 8) (hE0 : 0 ≤ E) (hE : E ≤ 31) (p : Int) (hp : 0 ≤ p) (hp2 : p ≤ 8) : ∀ (d m : Nat) (i : Int) (Φ : Fold) (things : Int32) (kinds : NF), i + d = E → 0 ≤ i → d < m → fT Φ + d < 1000 → PW Φ l → PC Φ l quires things ghosts letter page laid sizes cells kinds words quireOf placeOf → ∃ c, F_X3_addLooseOf_b2 lk lp (zI E) m things kinds (zI p) (zI i) = some c ∧ PW (rl κ π p d i Φ) l ∧ PC (rl κ π p d i Φ) l quires c.1 ghosts letter page laid sizes cells c.2 words quireOf placeOf
  | 0, m + 1, i, Φ, things, kinds, hi, hi0, hm, hT, hw, hc => by
    rw [F_X3_addLooseOf_b2]
    simp (disch := omega) only [zl_0, zl_1, zl_2, zl_3, zl_4, zl_5, zl_6, zl_7, zl_8, zl_9, zl_10, zl_11, zl_12, zl_13, zl_14, zl_15, zl_16, zl_17, zl_18, zl_19, zl_20, zl_21, zl_22, zl_23, zl_24, zl_25, zl_26, zl_27, zl_28, zl_29, zl_30, zl_31, zl_32, zl_33, zl_34, zl_35, zl_36, zl_37, zl_38, zl_39, zl_40, zl_41, zl_42, zl_43, zl_44, zl_45, zl_46, zl_47, zl_48, zl_49, zl_50, zl_51, zl_52, zl_53, zl_54, zl_55, zl_56, zl_57, zl_58, zl_59, zl_60, zl_61, zl_62, zl_63, zl_64, zl_65, zl_66, zl_80, zl_97, zl_99, zl_103, zl_107, zl_112, zl_115, zl_100, zl_180, zl_210, zl_238, zl_255, zl_256, zl_400, zl_1000, zl_1024, zl_1260, zl_2000, zl_7140, zl_7200, zl_18414, zl_65536, zl_131072, zl_9999, zl_999, zI_add, zI_sub, zI_mul, zI_neg, zI_lt, zI_le, zI_eq, zI_clamp, ck_z, ckp_z, qb_z, qb_z0, Option.bind_some, if_pos, if_neg, reduceIte, reduceCtorEq, Bool.false_eq_true, Bool.true_eq_false]
    exact ⟨_, rfl, hw, hc⟩
  | d + 1, m + 1, i, Φ, things, kinds, hi, hi0, hm, hT, hw, hc => by
    have s := hs i hi0 (by omega)
    have k := hk i hi0 (by omega)
    rw [F_X3_addLooseOf_b2]
    simp only [rl]
    by_cases h : π i = p
    · rw [if_pos h]
      obtain ⟨c, e, hc2⟩ := addThing_z hw hc (κ i) (by omega) (by omega)
      have ih := looseOf_z hs hk hE0 hE p hp hp2 d m (i + 1) (bT Φ (κ i)) c.1 c.2 (by omega) (by omega) (by omega) (by have : fT (bT Φ (κ i)) = fT Φ + 1 := rfl; omega) (PW_bT hw (by omega) (by omega)) hc2
      simp (disch := omega) only [zl_0, zl_1, zl_2, zl_3, zl_4, zl_5, zl_6, zl_7, zl_8, zl_9, zl_10, zl_11, zl_12, zl_13, zl_14, zl_15, zl_16, zl_17, zl_18, zl_19, zl_20, zl_21, zl_22, zl_23, zl_24, zl_25, zl_26, zl_27, zl_28, zl_29, zl_30, zl_31, zl_32, zl_33, zl_34, zl_35, zl_36, zl_37, zl_38, zl_39, zl_40, zl_41, zl_42, zl_43, zl_44, zl_45, zl_46, zl_47, zl_48, zl_49, zl_50, zl_51, zl_52, zl_53, zl_54, zl_55, zl_56, zl_57, zl_58, zl_59, zl_60, zl_61, zl_62, zl_63, zl_64, zl_65, zl_66, zl_80, zl_97, zl_99, zl_103, zl_107, zl_112, zl_115, zl_100, zl_180, zl_210, zl_238, zl_255, zl_256, zl_400, zl_1000, zl_1024, zl_1260, zl_2000, zl_7140, zl_7200, zl_18414, zl_65536, zl_131072, zl_9999, zl_999, zI_add, zI_sub, zI_mul, zI_neg, zI_lt, zI_le, zI_eq, zI_clamp, ck_z, ckp_z, qb_z, qb_z0, Option.bind_some, if_pos, if_neg, reduceIte, reduceCtorEq, Bool.false_eq_true, Bool.true_eq_false, s.1, s.2, e]
      exact ih
    · rw [if_neg h]
      have ih := looseOf_z hs hk hE0 hE p hp hp2 d m (i + 1) Φ things kinds (by omega) (by omega) (by omega) (by omega) hw hc
      simp (disch := omega) only [zl_0, zl_1, zl_2, zl_3, zl_4, zl_5, zl_6, zl_7, zl_8, zl_9, zl_10, zl_11, zl_12, zl_13, zl_14, zl_15, zl_16, zl_17, zl_18, zl_19, zl_20, zl_21, zl_22, zl_23, zl_24, zl_25, zl_26, zl_27, zl_28, zl_29, zl_30, zl_31, zl_32, zl_33, zl_34, zl_35, zl_36, zl_37, zl_38, zl_39, zl_40, zl_41, zl_42, zl_43, zl_44, zl_45, zl_46, zl_47, zl_48, zl_49, zl_50, zl_51, zl_52, zl_53, zl_54, zl_55, zl_56, zl_57, zl_58, zl_59, zl_60, zl_61, zl_62, zl_63, zl_64, zl_65, zl_66, zl_80, zl_97, zl_99, zl_103, zl_107, zl_112, zl_115, zl_100, zl_180, zl_210, zl_238, zl_255, zl_256, zl_400, zl_1000, zl_1024, zl_1260, zl_2000, zl_7140, zl_7200, zl_18414, zl_65536, zl_131072, zl_9999, zl_999, zI_add, zI_sub, zI_mul, zI_neg, zI_lt, zI_le, zI_eq, zI_clamp, ck_z, ckp_z, qb_z, qb_z0, Option.bind_some, if_pos, if_neg, reduceIte, reduceCtorEq, Bool.false_eq_true, Bool.true_eq_false, s.1, s.2]
      exact ih
theorem addQuire_b16_z (hσ : StC σ states) (hσw : StW σ) (n : Nat) (hs : ∀ j, 0 ≤ j → j < (n : Int) → lk j.toNat = zI (κ j) ∧ lp j.toNat = zI (π j)) (hk : ∀ j, 0 ≤ j → j < (n : Int) → 3 ≤ κ j ∧ κ j ≤ 5 ∧ 0 ≤ π j ∧ π j ≤ 8) (hn : n ≤ 31) (Φ : Fold) (hQ : 0 < fQ Φ) (size : Nat) (hsz : size ≤ 8) (hS : fS Φ (fQ Φ - 1) = size) (hT : fT Φ + 2 * size + n < 900) (hw0 : PW Φ 0) (hz0 : Wz Φ) : ∀ (d m p : Nat) (quires things ghosts : Int32) (sizes cells kinds words quireOf placeOf : NF) (laid : Int32), p + d = size → d < m → PC (rq σ κ π n p Φ) p quires things ghosts letter page laid sizes cells kinds words quireOf placeOf → ∃ c, F_X3_addQuire_b16 states lk lp (zI n) (zI size) m quires things ghosts sizes cells kinds words quireOf placeOf laid (zI (p + 1)) = some c ∧ PC (rq σ κ π n size Φ) size c.1 c.2.1 c.2.2.1 letter page c.2.2.2.2.2.2.2.2.2 c.2.2.2.1 c.2.2.2.2.1 c.2.2.2.2.2.1 c.2.2.2.2.2.2.1 c.2.2.2.2.2.2.2.1 c.2.2.2.2.2.2.2.2.1
  | 0, m + 1, p, quires, things, ghosts, sizes, cells, kinds, words, quireOf, placeOf, laid, hp, _, hc => by
    have e : p = size := by omega
    subst e
    rw [F_X3_addQuire_b16]
    simp (disch := omega) only [zl_0, zl_1, zl_2, zl_3, zl_4, zl_5, zl_6, zl_7, zl_8, zl_9, zl_10, zl_11, zl_12, zl_13, zl_14, zl_15, zl_16, zl_17, zl_18, zl_19, zl_20, zl_21, zl_22, zl_23, zl_24, zl_25, zl_26, zl_27, zl_28, zl_29, zl_30, zl_31, zl_32, zl_33, zl_34, zl_35, zl_36, zl_37, zl_38, zl_39, zl_40, zl_41, zl_42, zl_43, zl_44, zl_45, zl_46, zl_47, zl_48, zl_49, zl_50, zl_51, zl_52, zl_53, zl_54, zl_55, zl_56, zl_57, zl_58, zl_59, zl_60, zl_61, zl_62, zl_63, zl_64, zl_65, zl_66, zl_80, zl_97, zl_99, zl_103, zl_107, zl_112, zl_115, zl_100, zl_180, zl_210, zl_238, zl_255, zl_256, zl_400, zl_1000, zl_1024, zl_1260, zl_2000, zl_7140, zl_7200, zl_18414, zl_65536, zl_131072, zl_9999, zl_999, zI_add, zI_sub, zI_mul, zI_neg, zI_lt, zI_le, zI_eq, zI_clamp, ck_z, ckp_z, qb_z, qb_z0, Option.bind_some, if_pos, if_neg, reduceIte, reduceCtorEq, Bool.false_eq_true, Bool.true_eq_false]
    exact ⟨_, rfl, hc⟩
  | d + 1, m + 1, p, quires, things, ghosts, sizes, cells, kinds, words, quireOf, placeOf, laid, hp, hm, hc => by
    have hf := rq_f σ κ π n Φ p
    have hpw := PW_rq (σ := σ) (κ := κ) (π := π) n (fun j a b => ⟨(hk j a b).1, (hk j a b).2.1⟩) hw0 hz0 hQ p (by omega)
    have hTp := rq_T σ κ π n Φ p
    have cb := cle_b π (p : Int) n 0
    have cb0 := cle_b π 0 n 0
    have st := hσ (p + 1) (by omega) (by omega)
    have sw := hσw.2 (p + 1)
    have c1 := cls_1 sw
    have hQp : 0 < fQ (rq σ κ π n p Φ) := by rw [hf.1]; exact hQ
    have hlp : (p : Int) < fS (rq σ κ π n p Φ) (fQ (rq σ κ π n p Φ) - 1) := by rw [hf.1, hf.2.1, hS]; omega
    rw [F_X3_addQuire_b16]
    generalize hK : (fun f_quires f_things f_ghosts f_sizes f_cells f_kinds f_words f_quireOf f_placeOf f_laid x2 => F_X3_addQuire_b16 states lk lp (zI n) (zI size) m f_quires f_things f_ghosts f_sizes f_cells f_kinds f_words f_quireOf f_placeOf f_laid x2) = K
    -- behind the place
    have rest (Ψ : Fold) (hΨ : Ψ = rx σ (p + 1) p (rq σ κ π n p Φ)) (hwΨ : PW Ψ (p + 1)) (things' : Int32) (ghosts' : Int32) (cells' kinds' words' quireOf' placeOf' : NF) (laid' : Int32) (hc' : PC Ψ (p + 1) quires things' ghosts' letter page laid' sizes cells' kinds' words' quireOf' placeOf') : ∃ c, F_X3_addQuire_b82 states lk lp (zI n) (zI size) K quires things' ghosts' sizes cells' kinds' words' quireOf' placeOf' laid' (zI (p + 1)) = some c ∧ PC (rq σ κ π n size Φ) size c.1 c.2.1 c.2.2.1 letter page c.2.2.2.2.2.2.2.2.2 c.2.2.2.1 c.2.2.2.2.1 c.2.2.2.2.2.1 c.2.2.2.2.2.2.1 c.2.2.2.2.2.2.2.1 c.2.2.2.2.2.2.2.2.1 := by
      have tx := rx_T σ (p + 1) p (rq σ κ π n p Φ)
      rw [← hΨ] at tx
      obtain ⟨c, e1, e2, e3⟩ := looseOf_z (E := n) hs hk (by omega) (by omega) (p + 1) (by omega) (by omega) n FU 0 Ψ things' kinds' (by omega) (by omega) (by unfold FU; omega) (by omega) hwΨ hc'
      have er : rq σ κ π n (p + 1) Φ = rl κ π (p + 1) n 0 Ψ := by rw [hΨ]; rfl
      rw [← er] at e3
      have ih := addQuire_b16_z hσ hσw n hs hk hn Φ hQ size hsz hS hT hw0 hz0 d m (p + 1) quires c.1 ghosts' sizes cells' c.2 words' quireOf' placeOf' laid' (by omega) (by omega) e3
      have e1' : F_X3_addLooseOf lk lp (zI n) things' kinds' (zI (p + 1)) = some c := e1
      unfold F_X3_addQuire_b82
      rw [e1', Option.bind_some, ← hK, zl_1, zI_add]
      exact ih
    have l1 : ¬ zI (size : Int) < zI (p + 1) := by simp (disch := omega) only [zl_0, zl_1, zl_2, zl_3, zl_4, zl_5, zl_6, zl_7, zl_8, zl_9, zl_10, zl_11, zl_12, zl_13, zl_14, zl_15, zl_16, zl_17, zl_18, zl_19, zl_20, zl_21, zl_22, zl_23, zl_24, zl_25, zl_26, zl_27, zl_28, zl_29, zl_30, zl_31, zl_32, zl_33, zl_34, zl_35, zl_36, zl_37, zl_38, zl_39, zl_40, zl_41, zl_42, zl_43, zl_44, zl_45, zl_46, zl_47, zl_48, zl_49, zl_50, zl_51, zl_52, zl_53, zl_54, zl_55, zl_56, zl_57, zl_58, zl_59, zl_60, zl_61, zl_62, zl_63, zl_64, zl_65, zl_66, zl_80, zl_97, zl_99, zl_103, zl_107, zl_112, zl_115, zl_100, zl_180, zl_210, zl_238, zl_255, zl_256, zl_400, zl_1000, zl_1024, zl_1260, zl_2000, zl_7140, zl_7200, zl_18414, zl_65536, zl_131072, zl_9999, zl_999, zI_add, zI_sub, zI_mul, zI_neg, zI_lt, zI_le, zI_eq, zI_clamp, ck_z, ckp_z, qb_z, qb_z0, Option.bind_some]; omega
    have l2 : ¬ (8 : Int32) < zI (p + 1) := by simp (disch := omega) only [zl_0, zl_1, zl_2, zl_3, zl_4, zl_5, zl_6, zl_7, zl_8, zl_9, zl_10, zl_11, zl_12, zl_13, zl_14, zl_15, zl_16, zl_17, zl_18, zl_19, zl_20, zl_21, zl_22, zl_23, zl_24, zl_25, zl_26, zl_27, zl_28, zl_29, zl_30, zl_31, zl_32, zl_33, zl_34, zl_35, zl_36, zl_37, zl_38, zl_39, zl_40, zl_41, zl_42, zl_43, zl_44, zl_45, zl_46, zl_47, zl_48, zl_49, zl_50, zl_51, zl_52, zl_53, zl_54, zl_55, zl_56, zl_57, zl_58, zl_59, zl_60, zl_61, zl_62, zl_63, zl_64, zl_65, zl_66, zl_80, zl_97, zl_99, zl_103, zl_107, zl_112, zl_115, zl_100, zl_180, zl_210, zl_238, zl_255, zl_256, zl_400, zl_1000, zl_1024, zl_1260, zl_2000, zl_7140, zl_7200, zl_18414, zl_65536, zl_131072, zl_9999, zl_999, zI_add, zI_sub, zI_mul, zI_neg, zI_lt, zI_le, zI_eq, zI_clamp, ck_z, ckp_z, qb_z, qb_z0, Option.bind_some]; omega
    rw [if_neg l1, if_neg l2, ck_z (by omega) (by omega) (by omega), zI_clamp (by omega) (by omega), st]
    rcases sw with h | h | h | h
    · -- a leaf
      have ecl : cls (σ (p + 1)) = 2 := by rw [h]; rfl
      have erx : rx σ (p + 1) p (rq σ κ π n p Φ) = bL (rq σ κ π n p Φ) p 1 0 := by
        unfold rx
        rw [if_neg (by omega), if_pos h]
      obtain ⟨c, e, hc2⟩ := addLeaf_z hpw.1 hc 1 0 hQp hlp (by omega)
      have g := rest _ erx.symm (PW_bL hpw.1 hQp hlp (Or.inl rfl)) _ _ _ _ _ _ _ _ hc2
      rw [ecl]
      unfold F_X3_addQuire_b63
      have e' : F_X0_addLeaf quires things cells kinds words quireOf placeOf laid 1 0 = some c := e
      rw [if_neg (by decide), ck_z (by omega) (by omega) (by omega), if_pos (by rfl), e', Option.bind_some, zI_clamp (by omega) (by omega), st, ecl, if_neg (by decide)]
      rw [ck_z (by omega) (by omega) (by omega)]
      exact g
    · -- a stub
      have ecl : cls (σ (p + 1)) = 3 := by rw [h]; rfl
      have erx : rx σ (p + 1) p (rq σ κ π n p Φ) = bL (rq σ κ π n p Φ) p 2 0 := by
        unfold rx
        rw [if_neg (by omega), if_neg (by omega), if_pos h]
      obtain ⟨c, e, hc2⟩ := addLeaf_z hpw.1 hc 2 0 hQp hlp (by omega)
      have g := rest _ erx.symm (PW_bL hpw.1 hQp hlp (Or.inr rfl)) _ _ _ _ _ _ _ _ hc2
      rw [ecl]
      unfold F_X3_addQuire_b63
      have e' : F_X0_addLeaf quires things cells kinds words quireOf placeOf laid 2 0 = some c := e
      rw [if_neg (by decide), ck_z (by omega) (by omega) (by omega), if_neg (by decide), e', Option.bind_some, zI_clamp (by omega) (by omega), st, ecl, if_neg (by decide)]
      rw [ck_z (by omega) (by omega) (by omega)]
      exact g
    · -- a stub with its cancel
      have ecl : cls (σ (p + 1)) = 4 := by rw [h]; rfl
      have erx : rx σ (p + 1) p (rq σ κ π n p Φ) = bT (bL (rq σ κ π n p Φ) p 2 0) 4 := by
        unfold rx
        rw [if_neg (by omega), if_neg (by omega), if_neg (by omega)]
      obtain ⟨c, e, hc2⟩ := addLeaf_z hpw.1 hc 2 0 hQp hlp (by omega)
      have hw2 : PW (bL (rq σ κ π n p Φ) p 2 0) (p + 1) := PW_bL hpw.1 hQp hlp (Or.inr rfl)
      obtain ⟨c', e2, hc3⟩ := addThing_z hw2 hc2 4 (by decide) (by have : fT (bL (rq σ κ π n p Φ) p 2 0) = fT (rq σ κ π n p Φ) + 1 := rfl; omega)
      have g := rest _ erx.symm (PW_bT hw2 (by decide) (by decide)) _ _ _ _ _ _ _ _ hc3
      rw [ecl]
      unfold F_X3_addQuire_b63
      have e' : F_X0_addLeaf quires things cells kinds words quireOf placeOf laid 2 0 = some c := e
      have e2' : F_X0_addThing c.1 c.2.2.1 4 = some c' := e2
      rw [if_neg (by decide), ck_z (by omega) (by omega) (by omega), if_neg (by decide), e', Option.bind_some, zI_clamp (by omega) (by omega), st, ecl, if_pos (by rfl)]
      rw [ck_z (by omega) (by omega) (by omega), e2', Option.bind_some]
      exact g
    · -- a ghost
      have ecl : cls (σ (p + 1)) = 1 := by rw [h]; rfl
      have erx : rx σ (p + 1) p (rq σ κ π n p Φ) = bG (rq σ κ π n p Φ) p := by
        unfold rx
        rw [if_pos h]
      obtain ⟨c, e, hc2⟩ := addGhost_z hpw.1 hc hQp hlp
      have g := rest _ erx.symm (PW_bG hpw.1 hQp hlp) _ _ _ _ _ _ _ _ hc2
      rw [ecl, if_pos (by rfl), e, Option.bind_some]
      exact g
theorem addQuireR_z (hσ : StC σ states) (hσw : StW σ) (n : Nat) (hs : ∀ j, 0 ≤ j → j < (n : Int) → lk j.toNat = zI (κ j) ∧ lp j.toNat = zI (π j)) (hk : ∀ j, 0 ≤ j → j < (n : Int) → 3 ≤ κ j ∧ κ j ≤ 5 ∧ 0 ≤ π j ∧ π j ≤ 8) (hn : n ≤ 31) {Φ : Fold} (hQ : fQ Φ < 8) (size : Int) (hsz : 2 ≤ size ∧ size ≤ 8 ∧ size % 2 = 0) (hT : fT Φ < 600) (hw : PW Φ l) (hz : Wz Φ) (hl : 0 < fQ Φ → l = fS Φ (fQ Φ - 1)) {things : Int32} {kinds : NF} (hc : PC Φ l quires things ghosts letter page laid sizes cells kinds words quireOf placeOf) : ∃ c, F_X3_addQuire states lk lp (zI n) (zI size) quires things ghosts sizes cells kinds words quireOf placeOf laid = some c ∧ PC (rQ σ κ π n size Φ) size c.1 c.2.1 c.2.2.1 letter page c.2.2.2.2.2.2.2.2.2 c.2.2.2.1 c.2.2.2.2.1 c.2.2.2.2.2.1 c.2.2.2.2.2.2.1 c.2.2.2.2.2.2.2.1 c.2.2.2.2.2.2.2.2.1 := by
  have h0 := hw.1
  obtain ⟨c, e1, e2, e3⟩ := looseOf_z (E := n) hs hk (by omega) (by omega) 0 (by omega) (by omega) n FU 0 Φ things kinds (by omega) (by omega) (by unfold FU; omega) (by omega) hw hc
  have hf := rl_f κ π 0 n 0 Φ
  have hT1 := rl_T κ π 0 n 0 Φ
  have hcl := cle_0 π n 0
  have hcb := cle_b π 0 n 0
  have hz1 := Wz_rl (π := π) (κ := κ) 0 n 0 Φ (fun j a b => ⟨(hk j a (by omega)).1, (hk j a (by omega)).2.1⟩) hz
  obtain ⟨c2, e4, e5⟩ := addQuire_z e2 e3 size (by rw [hf.1, hf.2.1]; exact hl) (by rw [hf.1]; exact hQ)
  have hb := PW_bQ (s := size) e2 (by rw [hf.1, hf.2.1]; exact hl) (by rw [hf.1]; exact hQ) hsz
  have eb : fT (bQ (rl κ π 0 n 0 Φ) size) = fT (rl κ π 0 n 0 Φ) := rfl
  obtain ⟨c3, e6, e7⟩ := addQuire_b16_z (letter := letter) (page := page) hσ hσw n hs hk hn (bQ (rl κ π 0 n 0 Φ) size) (by show 0 < fQ (rl κ π 0 n 0 Φ) + 1; rw [hf.1]; omega) size.toNat (by omega) (by rw [show fQ (bQ (rl κ π 0 n 0 Φ) size) - 1 = fQ (rl κ π 0 n 0 Φ) by show fQ (rl κ π 0 n 0 Φ) + 1 - 1 = _; omega, bQ_S, if_pos rfl]; omega) (by omega) hb hz1 size.toNat FU 0 c2.1 c.1 ghosts c2.2.1 cells c.2 words quireOf placeOf c2.2.2 (by omega) (by unfold FU; omega) e5
  rw [Int.toNat_of_nonneg (by omega)] at e6 e7
  have e1' : F_X3_addLooseOf lk lp (zI n) things kinds 0 = some c := e1
  unfold F_X3_addQuire
  rw [e1', Option.bind_some, e4, Option.bind_some]
  exact ⟨c3, e6, e7⟩
end RC

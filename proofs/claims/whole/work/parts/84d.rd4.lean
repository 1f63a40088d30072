def updI (f : Int → Int) (a v : Int) : Int → Int := fun i => if i = a then v else f i
theorem updI_at (f : Int → Int) (a v : Int) : updI f a v a = v := by unfold updI; rw [if_pos rfl]
theorem updI_ne (f : Int → Int) {a i : Int} (v : Int) (h : i ≠ a) : updI f a v i = f i := by unfold updI; rw [if_neg h]
def LsC (κ π : Int → Int) (E : Int) (lk lp : NF) (lc : Int32) : Prop := lc = zI (min E 31) ∧ ∀ i, 0 ≤ i → i < E → i < 31 → lk i.toNat = zI (κ i) ∧ lp i.toNat = zI (π i)
def LsM (κ π : Int → Int) (E : Int) (ep ek : NF) (ex : Int32) : Prop := ex = zI E ∧ ∀ i, 0 ≤ i → i < E → ek i.toNat = zI (κ i) ∧ ep i.toNat = zI (π i)
def LsW (κ π : Int → Int) (E size first : Int) : Prop := ∀ i, 0 ≤ i → i < E → 3 ≤ κ i ∧ κ i ≤ 5 ∧ 0 ≤ π i ∧ π i ≤ size ∧ (π i = 0 → first = 1)
/-- ghosts among places 1 .. n -/
def gcn (σ : Int → Int) : Nat → Int
  | 0 => 0
  | n + 1 => gcn σ n + (if σ (n + 1) = -2 then 1 else 0)
theorem gcn_b (σ : Int → Int) : ∀ n : Nat, 0 ≤ gcn σ n ∧ gcn σ n ≤ n ∧ (gcn σ n = n ↔ ∀ k, 1 ≤ k → k ≤ (n : Int) → σ k = -2)
  | 0 => ⟨by simp only [gcn]; omega, by simp only [gcn]; omega, fun _ k a b => by omega, fun _ => rfl⟩
  | n + 1 => by
    have ih := gcn_b σ n
    simp only [gcn]
    by_cases h : σ (n + 1) = -2
    · rw [if_pos h]
      refine ⟨by omega, by omega, fun e k a b => ?_, fun e => ?_⟩
      · by_cases c : k = n + 1
        · rw [c]; exact h
        · exact ih.2.2.mp (by omega) k a (by omega)
      · have := ih.2.2.mpr (fun k a b => e k a (by omega))
        omega
    · rw [if_neg h]
      refine ⟨by omega, by omega, fun e => by omega, fun e => ?_⟩
      exact absurd (e (n + 1) (by omega) (by omega)) h
theorem gcn_u (σ : Int → Int) (a v : Int) (ha : σ a ≠ -2) : ∀ n : Nat, gcn (updI σ a v) n = gcn σ n + (if 1 ≤ a ∧ a ≤ (n : Int) ∧ v = -2 then 1 else 0)
  | 0 => by
    simp only [gcn]
    rw [if_neg (by omega)]
    rfl
  | n + 1 => by
    have ih := gcn_u σ a v ha n
    simp only [gcn]
    rw [ih]
    by_cases c : (n : Int) + 1 = a
    · subst c
      rw [updI_at, if_neg ha, if_neg (show ¬ (1 ≤ (n : Int) + 1 ∧ (n : Int) + 1 ≤ (n : Int) ∧ v = -2) by omega)]
      by_cases c2 : v = -2
      · rw [if_pos c2, if_pos (by omega)]
      · rw [if_neg c2, if_neg (by omega)]
    · rw [updI_ne σ v c]
      by_cases c2 : 1 ≤ a ∧ a ≤ (n : Int) ∧ v = -2
      · rw [if_pos c2, if_pos (show 1 ≤ a ∧ a ≤ ((n + 1 : Nat) : Int) ∧ v = -2 by omega)]; omega
      · rw [if_neg c2, if_neg (show ¬ (1 ≤ a ∧ a ≤ ((n + 1 : Nat) : Int) ∧ v = -2) by omega)]; omega
section RI
variable {σ κ π : Int → Int} {E : Int} {states lk lp codes ep ek : NF} {lc ex fa fp : Int32}
theorem StC_u (h : StC σ states) (a v : Int) (ha : 0 ≤ a) : StC (updI σ a v) (upd states a.toNat (zI (cls v))) := by
  intro k h0 h8
  rw [upd_z _ _ ha h0]
  by_cases c : k = a
  · rw [if_pos c, c, updI_at]
  · rw [if_neg c, updI_ne σ v c]
    exact h k h0 h8
theorem StM_u (h : StM σ codes) (a v : Int) (ha : 0 ≤ a) : StM (updI σ a v) (upd codes a.toNat (zI v)) := by
  intro k h0 h8
  rw [upd_z _ _ ha h0]
  by_cases c : k = a
  · rw [if_pos c, c, updI_at]
  · rw [if_neg c, updI_ne σ v c]
    exact h k h0 h8
theorem keepH_z (hσ : StC σ states) (p : Int) (g is ip c dg : Int) (hH : isH c) (hd : 1 ≤ dg) (hd2 : dg ≤ 8) : F_X3_readItem_b202 fa fp (zI p) states lk lp lc (zI g) (zI is) (zI ip) (zI c) (zI dg) = some (true, fa, fp, zI (p + 1), upd states dg.toNat (zI (cls (hcd c))), lk, lp, lc, zI (if c = 45 then g + 1 else g), zI c, zI dg) := by
  unfold F_X3_readItem_b202 F_X3_keepItem
  rcases hH with h | h | h
  · subst h
    simp (disch := omega) only [zl_0, zl_1, zl_2, zl_3, zl_4, zl_5, zl_6, zl_7, zl_8, zl_9, zl_10, zl_11, zl_12, zl_13, zl_14, zl_15, zl_16, zl_17, zl_18, zl_19, zl_20, zl_21, zl_22, zl_23, zl_24, zl_25, zl_26, zl_27, zl_28, zl_29, zl_30, zl_31, zl_32, zl_33, zl_34, zl_35, zl_36, zl_37, zl_38, zl_39, zl_40, zl_41, zl_42, zl_43, zl_44, zl_45, zl_46, zl_47, zl_48, zl_49, zl_50, zl_51, zl_52, zl_53, zl_54, zl_55, zl_56, zl_57, zl_58, zl_59, zl_60, zl_61, zl_62, zl_63, zl_64, zl_65, zl_66, zl_80, zl_97, zl_99, zl_103, zl_107, zl_112, zl_115, zl_100, zl_180, zl_210, zl_238, zl_255, zl_256, zl_400, zl_1000, zl_1024, zl_1260, zl_2000, zl_7140, zl_7200, zl_18414, zl_65536, zl_131072, zl_9999, zl_999, zI_add, zI_sub, zI_mul, zI_neg, zI_lt, zI_le, zI_eq, zI_clamp, ck_z, ckp_z, qb_z, qb_z0, Option.bind_some, if_pos, if_neg, reduceIte, reduceCtorEq, Bool.false_eq_true, Bool.true_eq_false]
    rfl
  · subst h
    simp (disch := omega) only [zl_0, zl_1, zl_2, zl_3, zl_4, zl_5, zl_6, zl_7, zl_8, zl_9, zl_10, zl_11, zl_12, zl_13, zl_14, zl_15, zl_16, zl_17, zl_18, zl_19, zl_20, zl_21, zl_22, zl_23, zl_24, zl_25, zl_26, zl_27, zl_28, zl_29, zl_30, zl_31, zl_32, zl_33, zl_34, zl_35, zl_36, zl_37, zl_38, zl_39, zl_40, zl_41, zl_42, zl_43, zl_44, zl_45, zl_46, zl_47, zl_48, zl_49, zl_50, zl_51, zl_52, zl_53, zl_54, zl_55, zl_56, zl_57, zl_58, zl_59, zl_60, zl_61, zl_62, zl_63, zl_64, zl_65, zl_66, zl_80, zl_97, zl_99, zl_103, zl_107, zl_112, zl_115, zl_100, zl_180, zl_210, zl_238, zl_255, zl_256, zl_400, zl_1000, zl_1024, zl_1260, zl_2000, zl_7140, zl_7200, zl_18414, zl_65536, zl_131072, zl_9999, zl_999, zI_add, zI_sub, zI_mul, zI_neg, zI_lt, zI_le, zI_eq, zI_clamp, ck_z, ckp_z, qb_z, qb_z0, Option.bind_some, if_pos, if_neg, reduceIte, reduceCtorEq, Bool.false_eq_true, Bool.true_eq_false]
    rfl
  · subst h
    simp (disch := omega) only [zl_0, zl_1, zl_2, zl_3, zl_4, zl_5, zl_6, zl_7, zl_8, zl_9, zl_10, zl_11, zl_12, zl_13, zl_14, zl_15, zl_16, zl_17, zl_18, zl_19, zl_20, zl_21, zl_22, zl_23, zl_24, zl_25, zl_26, zl_27, zl_28, zl_29, zl_30, zl_31, zl_32, zl_33, zl_34, zl_35, zl_36, zl_37, zl_38, zl_39, zl_40, zl_41, zl_42, zl_43, zl_44, zl_45, zl_46, zl_47, zl_48, zl_49, zl_50, zl_51, zl_52, zl_53, zl_54, zl_55, zl_56, zl_57, zl_58, zl_59, zl_60, zl_61, zl_62, zl_63, zl_64, zl_65, zl_66, zl_80, zl_97, zl_99, zl_103, zl_107, zl_112, zl_115, zl_100, zl_180, zl_210, zl_238, zl_255, zl_256, zl_400, zl_1000, zl_1024, zl_1260, zl_2000, zl_7140, zl_7200, zl_18414, zl_65536, zl_131072, zl_9999, zl_999, zI_add, zI_sub, zI_mul, zI_neg, zI_lt, zI_le, zI_eq, zI_clamp, ck_z, ckp_z, qb_z, qb_z0, Option.bind_some, if_pos, if_neg, reduceIte, reduceCtorEq, Bool.false_eq_true, Bool.true_eq_false]
    rfl
theorem keepL_z (hl : LsC κ π E lk lp lc) (hE : 0 ≤ E) (hE2 : E < 1000) (p : Int) (g is ip c dg : Int) (hL : isL c) (hd : 0 ≤ dg) (hd2 : dg ≤ 8) : ∃ lk' lp' lc', F_X3_readItem_b202 fa fp (zI p) states lk lp lc (zI g) (zI is) (zI ip) (zI c) (zI dg) = some (true, fa, fp, zI (p + 1), states, lk', lp', lc', zI g, zI c, zI dg) ∧ LsC (updI κ E (lkd c)) (updI π E dg) (E + 1) lk' lp' lc' := by
  obtain ⟨rfl, h2⟩ := hl
  have key : ∃ lk' lp' lc', F_X3_keepLoose lk lp (zI (min E 31)) (zI (lkd c)) (zI dg) = some (lk', lp', lc') ∧ LsC (updI κ E (lkd c)) (updI π E dg) (E + 1) lk' lp' lc' := by
    unfold F_X3_keepLoose
    by_cases c1 : 31 ≤ E
    · simp (disch := omega) only [zl_0, zl_1, zl_2, zl_3, zl_4, zl_5, zl_6, zl_7, zl_8, zl_9, zl_10, zl_11, zl_12, zl_13, zl_14, zl_15, zl_16, zl_17, zl_18, zl_19, zl_20, zl_21, zl_22, zl_23, zl_24, zl_25, zl_26, zl_27, zl_28, zl_29, zl_30, zl_31, zl_32, zl_33, zl_34, zl_35, zl_36, zl_37, zl_38, zl_39, zl_40, zl_41, zl_42, zl_43, zl_44, zl_45, zl_46, zl_47, zl_48, zl_49, zl_50, zl_51, zl_52, zl_53, zl_54, zl_55, zl_56, zl_57, zl_58, zl_59, zl_60, zl_61, zl_62, zl_63, zl_64, zl_65, zl_66, zl_80, zl_97, zl_99, zl_103, zl_107, zl_112, zl_115, zl_100, zl_180, zl_210, zl_238, zl_255, zl_256, zl_400, zl_1000, zl_1024, zl_1260, zl_2000, zl_7140, zl_7200, zl_18414, zl_65536, zl_131072, zl_9999, zl_999, zI_add, zI_sub, zI_mul, zI_neg, zI_lt, zI_le, zI_eq, zI_clamp, ck_z, ckp_z, qb_z, qb_z0, Option.bind_some, if_pos, if_neg, reduceIte, reduceCtorEq, Bool.false_eq_true, Bool.true_eq_false]
      refine ⟨_, _, _, rfl, by congr 1; omega, fun i a b d => ?_⟩
      rw [updI_ne _ _ (by omega), updI_ne _ _ (by omega)]
      exact h2 i a (by omega) d
    · have em : min E 31 = E := by omega
      rw [em]
      simp (disch := omega) only [zl_0, zl_1, zl_2, zl_3, zl_4, zl_5, zl_6, zl_7, zl_8, zl_9, zl_10, zl_11, zl_12, zl_13, zl_14, zl_15, zl_16, zl_17, zl_18, zl_19, zl_20, zl_21, zl_22, zl_23, zl_24, zl_25, zl_26, zl_27, zl_28, zl_29, zl_30, zl_31, zl_32, zl_33, zl_34, zl_35, zl_36, zl_37, zl_38, zl_39, zl_40, zl_41, zl_42, zl_43, zl_44, zl_45, zl_46, zl_47, zl_48, zl_49, zl_50, zl_51, zl_52, zl_53, zl_54, zl_55, zl_56, zl_57, zl_58, zl_59, zl_60, zl_61, zl_62, zl_63, zl_64, zl_65, zl_66, zl_80, zl_97, zl_99, zl_103, zl_107, zl_112, zl_115, zl_100, zl_180, zl_210, zl_238, zl_255, zl_256, zl_400, zl_1000, zl_1024, zl_1260, zl_2000, zl_7140, zl_7200, zl_18414, zl_65536, zl_131072, zl_9999, zl_999, zI_add, zI_sub, zI_mul, zI_neg, zI_lt, zI_le, zI_eq, zI_clamp, ck_z, ckp_z, qb_z, qb_z0, Option.bind_some, if_pos, if_neg, reduceIte, reduceCtorEq, Bool.false_eq_true, Bool.true_eq_false]
      refine ⟨_, _, _, rfl, by congr 1; omega, fun i a b d => ?_⟩
      rw [upd_z _ _ hE a, upd_z _ _ hE a]
      by_cases c2 : i = E
      · rw [if_pos c2, if_pos c2, c2, updI_at, updI_at]
        exact ⟨rfl, rfl⟩
      · rw [if_neg c2, if_neg c2, updI_ne _ _ c2, updI_ne _ _ c2]
        exact h2 i a (by omega) d
  obtain ⟨lk', lp', lc', e, hl⟩ := key
  refine ⟨lk', lp', lc', ?_, hl⟩
  unfold F_X3_readItem_b202 F_X3_keepItem F_X3_keepItem_b118
  rcases hL with h | h | h
  · subst h
    have e' : F_X3_keepLoose lk lp (zI (min E 31)) (zI 3) (zI dg) = some (lk', lp', lc') := e
    simp (disch := omega) only [zl_0, zl_1, zl_2, zl_3, zl_4, zl_5, zl_6, zl_7, zl_8, zl_9, zl_10, zl_11, zl_12, zl_13, zl_14, zl_15, zl_16, zl_17, zl_18, zl_19, zl_20, zl_21, zl_22, zl_23, zl_24, zl_25, zl_26, zl_27, zl_28, zl_29, zl_30, zl_31, zl_32, zl_33, zl_34, zl_35, zl_36, zl_37, zl_38, zl_39, zl_40, zl_41, zl_42, zl_43, zl_44, zl_45, zl_46, zl_47, zl_48, zl_49, zl_50, zl_51, zl_52, zl_53, zl_54, zl_55, zl_56, zl_57, zl_58, zl_59, zl_60, zl_61, zl_62, zl_63, zl_64, zl_65, zl_66, zl_80, zl_97, zl_99, zl_103, zl_107, zl_112, zl_115, zl_100, zl_180, zl_210, zl_238, zl_255, zl_256, zl_400, zl_1000, zl_1024, zl_1260, zl_2000, zl_7140, zl_7200, zl_18414, zl_65536, zl_131072, zl_9999, zl_999, zI_add, zI_sub, zI_mul, zI_neg, zI_lt, zI_le, zI_eq, zI_clamp, ck_z, ckp_z, qb_z, qb_z0, Option.bind_some, if_pos, if_neg, reduceIte, reduceCtorEq, Bool.false_eq_true, Bool.true_eq_false, e']
  · subst h
    have e' : F_X3_keepLoose lk lp (zI (min E 31)) (zI 4) (zI dg) = some (lk', lp', lc') := e
    simp (disch := omega) only [zl_0, zl_1, zl_2, zl_3, zl_4, zl_5, zl_6, zl_7, zl_8, zl_9, zl_10, zl_11, zl_12, zl_13, zl_14, zl_15, zl_16, zl_17, zl_18, zl_19, zl_20, zl_21, zl_22, zl_23, zl_24, zl_25, zl_26, zl_27, zl_28, zl_29, zl_30, zl_31, zl_32, zl_33, zl_34, zl_35, zl_36, zl_37, zl_38, zl_39, zl_40, zl_41, zl_42, zl_43, zl_44, zl_45, zl_46, zl_47, zl_48, zl_49, zl_50, zl_51, zl_52, zl_53, zl_54, zl_55, zl_56, zl_57, zl_58, zl_59, zl_60, zl_61, zl_62, zl_63, zl_64, zl_65, zl_66, zl_80, zl_97, zl_99, zl_103, zl_107, zl_112, zl_115, zl_100, zl_180, zl_210, zl_238, zl_255, zl_256, zl_400, zl_1000, zl_1024, zl_1260, zl_2000, zl_7140, zl_7200, zl_18414, zl_65536, zl_131072, zl_9999, zl_999, zI_add, zI_sub, zI_mul, zI_neg, zI_lt, zI_le, zI_eq, zI_clamp, ck_z, ckp_z, qb_z, qb_z0, Option.bind_some, if_pos, if_neg, reduceIte, reduceCtorEq, Bool.false_eq_true, Bool.true_eq_false, e']
  · subst h
    have e' : F_X3_keepLoose lk lp (zI (min E 31)) (zI 5) (zI dg) = some (lk', lp', lc') := e
    simp (disch := omega) only [zl_0, zl_1, zl_2, zl_3, zl_4, zl_5, zl_6, zl_7, zl_8, zl_9, zl_10, zl_11, zl_12, zl_13, zl_14, zl_15, zl_16, zl_17, zl_18, zl_19, zl_20, zl_21, zl_22, zl_23, zl_24, zl_25, zl_26, zl_27, zl_28, zl_29, zl_30, zl_31, zl_32, zl_33, zl_34, zl_35, zl_36, zl_37, zl_38, zl_39, zl_40, zl_41, zl_42, zl_43, zl_44, zl_45, zl_46, zl_47, zl_48, zl_49, zl_50, zl_51, zl_52, zl_53, zl_54, zl_55, zl_56, zl_57, zl_58, zl_59, zl_60, zl_61, zl_62, zl_63, zl_64, zl_65, zl_66, zl_80, zl_97, zl_99, zl_103, zl_107, zl_112, zl_115, zl_100, zl_180, zl_210, zl_238, zl_255, zl_256, zl_400, zl_1000, zl_1024, zl_1260, zl_2000, zl_7140, zl_7200, zl_18414, zl_65536, zl_131072, zl_9999, zl_999, zI_add, zI_sub, zI_mul, zI_neg, zI_lt, zI_le, zI_eq, zI_clamp, ck_z, ckp_z, qb_z, qb_z0, Option.bind_some, if_pos, if_neg, reduceIte, reduceCtorEq, Bool.false_eq_true, Bool.true_eq_false, e']
end RI
section RM
variable {b t : NF} {N : Int} {σ κ π : Int → Int} {E : Int} {codes ep ek : NF} {fk fpl : Int32} {nq : Int32} {K : Int32 → Int32 → Int32 → NF → NF → NF → Int32 → Int32 → Int32 → Int32 → Int32 → Int32 → Option ItR} {tl ex x8 : Int32}
theorem b302H_z (hσ : StM σ codes) (rd size g c dg : Int) (hH : isH c) (hd : 1 ≤ dg) (hd2 : dg ≤ 8) : F_X8_readItems_b302 t tl nq K fk fpl (zI rd) codes ep ek ex (zI size) (zI g) (zI c) x8 (zI dg) (zI 1) (zI 1) = F_X8_readItems_b421 t tl nq K fk fpl (zI rd) (upd codes dg.toNat (zI (hcd c))) ep ek ex (zI size) (zI c) (zI dg) (zI (if c = 45 then 1 else 0)) (zI g) := by
  unfold F_X8_readItems_b302 F_X8_readItems_b407
  rcases hH with h | h | h
  · subst h
    simp (disch := omega) only [zl_0, zl_1, zl_2, zl_3, zl_4, zl_5, zl_6, zl_7, zl_8, zl_9, zl_10, zl_11, zl_12, zl_13, zl_14, zl_15, zl_16, zl_17, zl_18, zl_19, zl_20, zl_21, zl_22, zl_23, zl_24, zl_25, zl_26, zl_27, zl_28, zl_29, zl_30, zl_31, zl_32, zl_33, zl_34, zl_35, zl_36, zl_37, zl_38, zl_39, zl_40, zl_41, zl_42, zl_43, zl_44, zl_45, zl_46, zl_47, zl_48, zl_49, zl_50, zl_51, zl_52, zl_53, zl_54, zl_55, zl_56, zl_57, zl_58, zl_59, zl_60, zl_61, zl_62, zl_63, zl_64, zl_65, zl_66, zl_80, zl_97, zl_99, zl_103, zl_107, zl_112, zl_115, zl_100, zl_180, zl_210, zl_238, zl_255, zl_256, zl_400, zl_1000, zl_1024, zl_1260, zl_2000, zl_7140, zl_7200, zl_18414, zl_65536, zl_131072, zl_9999, zl_999, zI_add, zI_sub, zI_mul, zI_neg, zI_lt, zI_le, zI_eq, zI_clamp, ck_z, ckp_z, qb_z, qb_z0, Option.bind_some, if_pos, if_neg, reduceIte, reduceCtorEq, Bool.false_eq_true, Bool.true_eq_false]
    rfl
  · subst h
    simp (disch := omega) only [zl_0, zl_1, zl_2, zl_3, zl_4, zl_5, zl_6, zl_7, zl_8, zl_9, zl_10, zl_11, zl_12, zl_13, zl_14, zl_15, zl_16, zl_17, zl_18, zl_19, zl_20, zl_21, zl_22, zl_23, zl_24, zl_25, zl_26, zl_27, zl_28, zl_29, zl_30, zl_31, zl_32, zl_33, zl_34, zl_35, zl_36, zl_37, zl_38, zl_39, zl_40, zl_41, zl_42, zl_43, zl_44, zl_45, zl_46, zl_47, zl_48, zl_49, zl_50, zl_51, zl_52, zl_53, zl_54, zl_55, zl_56, zl_57, zl_58, zl_59, zl_60, zl_61, zl_62, zl_63, zl_64, zl_65, zl_66, zl_80, zl_97, zl_99, zl_103, zl_107, zl_112, zl_115, zl_100, zl_180, zl_210, zl_238, zl_255, zl_256, zl_400, zl_1000, zl_1024, zl_1260, zl_2000, zl_7140, zl_7200, zl_18414, zl_65536, zl_131072, zl_9999, zl_999, zI_add, zI_sub, zI_mul, zI_neg, zI_lt, zI_le, zI_eq, zI_clamp, ck_z, ckp_z, qb_z, qb_z0, Option.bind_some, if_pos, if_neg, reduceIte, reduceCtorEq, Bool.false_eq_true, Bool.true_eq_false]
    rfl
  · subst h
    simp (disch := omega) only [zl_0, zl_1, zl_2, zl_3, zl_4, zl_5, zl_6, zl_7, zl_8, zl_9, zl_10, zl_11, zl_12, zl_13, zl_14, zl_15, zl_16, zl_17, zl_18, zl_19, zl_20, zl_21, zl_22, zl_23, zl_24, zl_25, zl_26, zl_27, zl_28, zl_29, zl_30, zl_31, zl_32, zl_33, zl_34, zl_35, zl_36, zl_37, zl_38, zl_39, zl_40, zl_41, zl_42, zl_43, zl_44, zl_45, zl_46, zl_47, zl_48, zl_49, zl_50, zl_51, zl_52, zl_53, zl_54, zl_55, zl_56, zl_57, zl_58, zl_59, zl_60, zl_61, zl_62, zl_63, zl_64, zl_65, zl_66, zl_80, zl_97, zl_99, zl_103, zl_107, zl_112, zl_115, zl_100, zl_180, zl_210, zl_238, zl_255, zl_256, zl_400, zl_1000, zl_1024, zl_1260, zl_2000, zl_7140, zl_7200, zl_18414, zl_65536, zl_131072, zl_9999, zl_999, zI_add, zI_sub, zI_mul, zI_neg, zI_lt, zI_le, zI_eq, zI_clamp, ck_z, ckp_z, qb_z, qb_z0, Option.bind_some, if_pos, if_neg, reduceIte, reduceCtorEq, Bool.false_eq_true, Bool.true_eq_false]
    rfl
theorem b302L_z (hl : LsM κ π E ep ek ex) (hE : 0 ≤ E) (hE2 : E < 200) (rd size g c dg : Int) (hL : isL c) (hd : 0 ≤ dg) (hd2 : dg ≤ 8) : ∃ ep' ek' ex', F_X8_readItems_b302 t tl nq K fk fpl (zI rd) codes ep ek ex (zI size) (zI g) (zI c) x8 (zI dg) (zI 0) (zI 1) = F_X8_readItems_b421 t tl nq K fk fpl (zI rd) codes ep' ek' ex' (zI size) (zI c) (zI dg) (zI 0) (zI g) ∧ LsM (updI κ E (lkd c)) (updI π E dg) (E + 1) ep' ek' ex' := by
  obtain ⟨rfl, h2⟩ := hl
  refine ⟨upd ep E.toNat (zI dg), upd ek E.toNat (zI (lkd c)), zI (E + 1), ?_, rfl, fun i a bb => ?_⟩
  · unfold F_X8_readItems_b302 F_X8_readItems_b396 F_X8_readItems_b407
    rcases hL with h | h | h
    · subst h
      simp (disch := omega) only [zl_0, zl_1, zl_2, zl_3, zl_4, zl_5, zl_6, zl_7, zl_8, zl_9, zl_10, zl_11, zl_12, zl_13, zl_14, zl_15, zl_16, zl_17, zl_18, zl_19, zl_20, zl_21, zl_22, zl_23, zl_24, zl_25, zl_26, zl_27, zl_28, zl_29, zl_30, zl_31, zl_32, zl_33, zl_34, zl_35, zl_36, zl_37, zl_38, zl_39, zl_40, zl_41, zl_42, zl_43, zl_44, zl_45, zl_46, zl_47, zl_48, zl_49, zl_50, zl_51, zl_52, zl_53, zl_54, zl_55, zl_56, zl_57, zl_58, zl_59, zl_60, zl_61, zl_62, zl_63, zl_64, zl_65, zl_66, zl_80, zl_97, zl_99, zl_103, zl_107, zl_112, zl_115, zl_100, zl_180, zl_210, zl_238, zl_255, zl_256, zl_400, zl_1000, zl_1024, zl_1260, zl_2000, zl_7140, zl_7200, zl_18414, zl_65536, zl_131072, zl_9999, zl_999, zI_add, zI_sub, zI_mul, zI_neg, zI_lt, zI_le, zI_eq, zI_clamp, ck_z, ckp_z, qb_z, qb_z0, Option.bind_some, if_pos, if_neg, reduceIte, reduceCtorEq, Bool.false_eq_true, Bool.true_eq_false]
      rfl
    · subst h
      simp (disch := omega) only [zl_0, zl_1, zl_2, zl_3, zl_4, zl_5, zl_6, zl_7, zl_8, zl_9, zl_10, zl_11, zl_12, zl_13, zl_14, zl_15, zl_16, zl_17, zl_18, zl_19, zl_20, zl_21, zl_22, zl_23, zl_24, zl_25, zl_26, zl_27, zl_28, zl_29, zl_30, zl_31, zl_32, zl_33, zl_34, zl_35, zl_36, zl_37, zl_38, zl_39, zl_40, zl_41, zl_42, zl_43, zl_44, zl_45, zl_46, zl_47, zl_48, zl_49, zl_50, zl_51, zl_52, zl_53, zl_54, zl_55, zl_56, zl_57, zl_58, zl_59, zl_60, zl_61, zl_62, zl_63, zl_64, zl_65, zl_66, zl_80, zl_97, zl_99, zl_103, zl_107, zl_112, zl_115, zl_100, zl_180, zl_210, zl_238, zl_255, zl_256, zl_400, zl_1000, zl_1024, zl_1260, zl_2000, zl_7140, zl_7200, zl_18414, zl_65536, zl_131072, zl_9999, zl_999, zI_add, zI_sub, zI_mul, zI_neg, zI_lt, zI_le, zI_eq, zI_clamp, ck_z, ckp_z, qb_z, qb_z0, Option.bind_some, if_pos, if_neg, reduceIte, reduceCtorEq, Bool.false_eq_true, Bool.true_eq_false]
      rfl
    · subst h
      simp (disch := omega) only [zl_0, zl_1, zl_2, zl_3, zl_4, zl_5, zl_6, zl_7, zl_8, zl_9, zl_10, zl_11, zl_12, zl_13, zl_14, zl_15, zl_16, zl_17, zl_18, zl_19, zl_20, zl_21, zl_22, zl_23, zl_24, zl_25, zl_26, zl_27, zl_28, zl_29, zl_30, zl_31, zl_32, zl_33, zl_34, zl_35, zl_36, zl_37, zl_38, zl_39, zl_40, zl_41, zl_42, zl_43, zl_44, zl_45, zl_46, zl_47, zl_48, zl_49, zl_50, zl_51, zl_52, zl_53, zl_54, zl_55, zl_56, zl_57, zl_58, zl_59, zl_60, zl_61, zl_62, zl_63, zl_64, zl_65, zl_66, zl_80, zl_97, zl_99, zl_103, zl_107, zl_112, zl_115, zl_100, zl_180, zl_210, zl_238, zl_255, zl_256, zl_400, zl_1000, zl_1024, zl_1260, zl_2000, zl_7140, zl_7200, zl_18414, zl_65536, zl_131072, zl_9999, zl_999, zI_add, zI_sub, zI_mul, zI_neg, zI_lt, zI_le, zI_eq, zI_clamp, ck_z, ckp_z, qb_z, qb_z0, Option.bind_some, if_pos, if_neg, reduceIte, reduceCtorEq, Bool.false_eq_true, Bool.true_eq_false]
      rfl
  · rw [upd_z _ _ hE a, upd_z _ _ hE a]
    by_cases c2 : i = E
    · rw [if_pos c2, if_pos c2, c2, updI_at, updI_at]
      exact ⟨rfl, rfl⟩
    · rw [if_neg c2, if_neg c2, updI_ne _ _ c2, updI_ne _ _ c2]
      exact h2 i a (by omega)
end RM

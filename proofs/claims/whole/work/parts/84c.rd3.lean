abbrev ItR : Type := Int32 × Int32 × Int32 × Int32 × NF × NF × NF × Int32
section RM
variable {b t : NF} {N : Int} {σ : Int → Int} {codes ep ek : NF} {fk fpl : Int32} {nq : Int32} {K : Int32 → Int32 → Int32 → NF → NF → NF → Int32 → Int32 → Int32 → Int32 → Int32 → Int32 → Option ItR} {tl rd ex g x6 x8 : Int32}
theorem b225_z (hσ : StM σ codes) (hσw : StW σ) (size at' is c dg x10 t0 : Int) (hs : 2 ≤ size) (hs2 : size ≤ 8) (his : 0 ≤ is ∧ is ≤ 255) (hip : 0 ≤ at' ∧ at' ≤ 8) (hc : -1 ≤ c ∧ c ≤ 255) (hd : 0 ≤ dg) (hd2 : dg ≤ 9) (hx : x10 = 0 ∨ x10 = 1) (ht : t0 = 0 ∨ t0 = 1) (y : Int) (hy : (y = 1 ∧ t0 = 1 ∧ (x10 = 0 → 0 < dg → dg ≤ size → σ dg ≠ -2) ∧ ¬ (c = 107 ∧ is = 115 ∧ dg = at')) ∨ (y = 0 ∧ ¬ (t0 = 1 ∧ (x10 = 0 → 0 < dg → dg ≤ size → σ dg ≠ -2) ∧ ¬ (c = 107 ∧ is = 115 ∧ dg = at')))) : F_X8_readItems_b225 t tl nq K fk fpl rd codes ep ek ex (zI size) (zI at') g (zI is) x6 (zI c) x8 (zI dg) (zI x10) (zI t0) = F_X8_readItems_b281 t tl nq K fk fpl rd codes ep ek ex (zI size) g x6 (zI c) x8 (zI dg) (zI x10) (zI y) := by
  have e258 (z : Int) (hz : z = 0 ∨ z = 1) (y : Int) (hy : (y = 1 ∧ z = 1 ∧ ¬ (c = 107 ∧ is = 115 ∧ dg = at')) ∨ (y = 0 ∧ ¬ (z = 1 ∧ ¬ (c = 107 ∧ is = 115 ∧ dg = at')))) : F_X8_readItems_b258 t tl nq K fk fpl rd codes ep ek ex (zI size) (zI at') g (zI is) x6 (zI c) x8 (zI dg) (zI x10) (zI z) = F_X8_readItems_b281 t tl nq K fk fpl rd codes ep ek ex (zI size) g x6 (zI c) x8 (zI dg) (zI x10) (zI y) := by
    unfold F_X8_readItems_b258
    by_cases h : c = 107 ∧ is = 115 ∧ dg = at'
    · have : y = 0 := by omega
      subst this
      simp (disch := omega) only [zl_0, zl_1, zl_2, zl_3, zl_4, zl_5, zl_6, zl_7, zl_8, zl_9, zl_10, zl_11, zl_12, zl_13, zl_14, zl_15, zl_16, zl_17, zl_18, zl_19, zl_20, zl_21, zl_22, zl_23, zl_24, zl_25, zl_26, zl_27, zl_28, zl_29, zl_30, zl_31, zl_32, zl_33, zl_34, zl_35, zl_36, zl_37, zl_38, zl_39, zl_40, zl_41, zl_42, zl_43, zl_44, zl_45, zl_46, zl_47, zl_48, zl_49, zl_50, zl_51, zl_52, zl_53, zl_54, zl_55, zl_56, zl_57, zl_58, zl_59, zl_60, zl_61, zl_62, zl_63, zl_64, zl_65, zl_66, zl_80, zl_97, zl_99, zl_103, zl_107, zl_112, zl_115, zl_100, zl_180, zl_210, zl_238, zl_255, zl_256, zl_400, zl_1000, zl_1024, zl_1260, zl_2000, zl_7140, zl_7200, zl_18414, zl_65536, zl_131072, zl_9999, zl_999, zI_add, zI_sub, zI_mul, zI_neg, zI_lt, zI_le, zI_eq, zI_clamp, ck_z, ckp_z, qb_z, qb_z0, Option.bind_some, if_pos, if_neg, reduceIte, reduceCtorEq, Bool.false_eq_true, Bool.true_eq_false]
    · have : y = z := by omega
      subst this
      simp (disch := omega) only [zl_0, zl_1, zl_2, zl_3, zl_4, zl_5, zl_6, zl_7, zl_8, zl_9, zl_10, zl_11, zl_12, zl_13, zl_14, zl_15, zl_16, zl_17, zl_18, zl_19, zl_20, zl_21, zl_22, zl_23, zl_24, zl_25, zl_26, zl_27, zl_28, zl_29, zl_30, zl_31, zl_32, zl_33, zl_34, zl_35, zl_36, zl_37, zl_38, zl_39, zl_40, zl_41, zl_42, zl_43, zl_44, zl_45, zl_46, zl_47, zl_48, zl_49, zl_50, zl_51, zl_52, zl_53, zl_54, zl_55, zl_56, zl_57, zl_58, zl_59, zl_60, zl_61, zl_62, zl_63, zl_64, zl_65, zl_66, zl_80, zl_97, zl_99, zl_103, zl_107, zl_112, zl_115, zl_100, zl_180, zl_210, zl_238, zl_255, zl_256, zl_400, zl_1000, zl_1024, zl_1260, zl_2000, zl_7140, zl_7200, zl_18414, zl_65536, zl_131072, zl_9999, zl_999, zI_add, zI_sub, zI_mul, zI_neg, zI_lt, zI_le, zI_eq, zI_clamp, ck_z, ckp_z, qb_z, qb_z0, Option.bind_some]
      (repeat' split) <;> first | rfl | contradiction | (exfalso; omega)
  unfold F_X8_readItems_b225
  by_cases h0 : x10 = 0
  · by_cases h1 : 0 < dg
    · by_cases h2 : dg ≤ size
      · have st := hσ dg (by omega) (by omega)
        have sw := hσw.2 dg
        by_cases h3 : σ dg = -2
        · simp (disch := omega) only [zl_0, zl_1, zl_2, zl_3, zl_4, zl_5, zl_6, zl_7, zl_8, zl_9, zl_10, zl_11, zl_12, zl_13, zl_14, zl_15, zl_16, zl_17, zl_18, zl_19, zl_20, zl_21, zl_22, zl_23, zl_24, zl_25, zl_26, zl_27, zl_28, zl_29, zl_30, zl_31, zl_32, zl_33, zl_34, zl_35, zl_36, zl_37, zl_38, zl_39, zl_40, zl_41, zl_42, zl_43, zl_44, zl_45, zl_46, zl_47, zl_48, zl_49, zl_50, zl_51, zl_52, zl_53, zl_54, zl_55, zl_56, zl_57, zl_58, zl_59, zl_60, zl_61, zl_62, zl_63, zl_64, zl_65, zl_66, zl_80, zl_97, zl_99, zl_103, zl_107, zl_112, zl_115, zl_100, zl_180, zl_210, zl_238, zl_255, zl_256, zl_400, zl_1000, zl_1024, zl_1260, zl_2000, zl_7140, zl_7200, zl_18414, zl_65536, zl_131072, zl_9999, zl_999, zI_add, zI_sub, zI_mul, zI_neg, zI_lt, zI_le, zI_eq, zI_clamp, ck_z, ckp_z, qb_z, qb_z0, Option.bind_some, if_pos, if_neg, reduceIte, reduceCtorEq, Bool.false_eq_true, Bool.true_eq_false, st]
          refine e258 0 (Or.inl rfl) y ?_
          rcases hy with hy | hy
          · exact absurd h3 (hy.2.2.1 h0 h1 h2)
          · exact Or.inr ⟨hy.1, by omega⟩
        · simp (disch := omega) only [zl_0, zl_1, zl_2, zl_3, zl_4, zl_5, zl_6, zl_7, zl_8, zl_9, zl_10, zl_11, zl_12, zl_13, zl_14, zl_15, zl_16, zl_17, zl_18, zl_19, zl_20, zl_21, zl_22, zl_23, zl_24, zl_25, zl_26, zl_27, zl_28, zl_29, zl_30, zl_31, zl_32, zl_33, zl_34, zl_35, zl_36, zl_37, zl_38, zl_39, zl_40, zl_41, zl_42, zl_43, zl_44, zl_45, zl_46, zl_47, zl_48, zl_49, zl_50, zl_51, zl_52, zl_53, zl_54, zl_55, zl_56, zl_57, zl_58, zl_59, zl_60, zl_61, zl_62, zl_63, zl_64, zl_65, zl_66, zl_80, zl_97, zl_99, zl_103, zl_107, zl_112, zl_115, zl_100, zl_180, zl_210, zl_238, zl_255, zl_256, zl_400, zl_1000, zl_1024, zl_1260, zl_2000, zl_7140, zl_7200, zl_18414, zl_65536, zl_131072, zl_9999, zl_999, zI_add, zI_sub, zI_mul, zI_neg, zI_lt, zI_le, zI_eq, zI_clamp, ck_z, ckp_z, qb_z, qb_z0, Option.bind_some, if_pos, if_neg, reduceIte, reduceCtorEq, Bool.false_eq_true, Bool.true_eq_false, st]
          refine e258 t0 ht y ?_
          rcases hy with hy | hy
          · exact Or.inl ⟨hy.1, hy.2.1, hy.2.2.2⟩
          · exact Or.inr ⟨hy.1, fun x => hy.2 ⟨x.1, fun _ _ _ => h3, x.2⟩⟩
      · simp (disch := omega) only [zl_0, zl_1, zl_2, zl_3, zl_4, zl_5, zl_6, zl_7, zl_8, zl_9, zl_10, zl_11, zl_12, zl_13, zl_14, zl_15, zl_16, zl_17, zl_18, zl_19, zl_20, zl_21, zl_22, zl_23, zl_24, zl_25, zl_26, zl_27, zl_28, zl_29, zl_30, zl_31, zl_32, zl_33, zl_34, zl_35, zl_36, zl_37, zl_38, zl_39, zl_40, zl_41, zl_42, zl_43, zl_44, zl_45, zl_46, zl_47, zl_48, zl_49, zl_50, zl_51, zl_52, zl_53, zl_54, zl_55, zl_56, zl_57, zl_58, zl_59, zl_60, zl_61, zl_62, zl_63, zl_64, zl_65, zl_66, zl_80, zl_97, zl_99, zl_103, zl_107, zl_112, zl_115, zl_100, zl_180, zl_210, zl_238, zl_255, zl_256, zl_400, zl_1000, zl_1024, zl_1260, zl_2000, zl_7140, zl_7200, zl_18414, zl_65536, zl_131072, zl_9999, zl_999, zI_add, zI_sub, zI_mul, zI_neg, zI_lt, zI_le, zI_eq, zI_clamp, ck_z, ckp_z, qb_z, qb_z0, Option.bind_some, if_pos, if_neg, reduceIte, reduceCtorEq, Bool.false_eq_true, Bool.true_eq_false]
        refine e258 t0 ht y ?_
        rcases hy with hy | hy
        · exact Or.inl ⟨hy.1, hy.2.1, hy.2.2.2⟩
        · exact Or.inr ⟨hy.1, fun x => hy.2 ⟨x.1, fun _ _ a => absurd a h2, x.2⟩⟩
    · simp (disch := omega) only [zl_0, zl_1, zl_2, zl_3, zl_4, zl_5, zl_6, zl_7, zl_8, zl_9, zl_10, zl_11, zl_12, zl_13, zl_14, zl_15, zl_16, zl_17, zl_18, zl_19, zl_20, zl_21, zl_22, zl_23, zl_24, zl_25, zl_26, zl_27, zl_28, zl_29, zl_30, zl_31, zl_32, zl_33, zl_34, zl_35, zl_36, zl_37, zl_38, zl_39, zl_40, zl_41, zl_42, zl_43, zl_44, zl_45, zl_46, zl_47, zl_48, zl_49, zl_50, zl_51, zl_52, zl_53, zl_54, zl_55, zl_56, zl_57, zl_58, zl_59, zl_60, zl_61, zl_62, zl_63, zl_64, zl_65, zl_66, zl_80, zl_97, zl_99, zl_103, zl_107, zl_112, zl_115, zl_100, zl_180, zl_210, zl_238, zl_255, zl_256, zl_400, zl_1000, zl_1024, zl_1260, zl_2000, zl_7140, zl_7200, zl_18414, zl_65536, zl_131072, zl_9999, zl_999, zI_add, zI_sub, zI_mul, zI_neg, zI_lt, zI_le, zI_eq, zI_clamp, ck_z, ckp_z, qb_z, qb_z0, Option.bind_some, if_pos, if_neg, reduceIte, reduceCtorEq, Bool.false_eq_true, Bool.true_eq_false]
      refine e258 t0 ht y ?_
      rcases hy with hy | hy
      · exact Or.inl ⟨hy.1, hy.2.1, hy.2.2.2⟩
      · exact Or.inr ⟨hy.1, fun x => hy.2 ⟨x.1, fun _ a _ => absurd a h1, x.2⟩⟩
  · simp (disch := omega) only [zl_0, zl_1, zl_2, zl_3, zl_4, zl_5, zl_6, zl_7, zl_8, zl_9, zl_10, zl_11, zl_12, zl_13, zl_14, zl_15, zl_16, zl_17, zl_18, zl_19, zl_20, zl_21, zl_22, zl_23, zl_24, zl_25, zl_26, zl_27, zl_28, zl_29, zl_30, zl_31, zl_32, zl_33, zl_34, zl_35, zl_36, zl_37, zl_38, zl_39, zl_40, zl_41, zl_42, zl_43, zl_44, zl_45, zl_46, zl_47, zl_48, zl_49, zl_50, zl_51, zl_52, zl_53, zl_54, zl_55, zl_56, zl_57, zl_58, zl_59, zl_60, zl_61, zl_62, zl_63, zl_64, zl_65, zl_66, zl_80, zl_97, zl_99, zl_103, zl_107, zl_112, zl_115, zl_100, zl_180, zl_210, zl_238, zl_255, zl_256, zl_400, zl_1000, zl_1024, zl_1260, zl_2000, zl_7140, zl_7200, zl_18414, zl_65536, zl_131072, zl_9999, zl_999, zI_add, zI_sub, zI_mul, zI_neg, zI_lt, zI_le, zI_eq, zI_clamp, ck_z, ckp_z, qb_z, qb_z0, Option.bind_some, if_pos, if_neg, reduceIte, reduceCtorEq, Bool.false_eq_true, Bool.true_eq_false]
    refine e258 t0 ht y ?_
    rcases hy with hy | hy
    · exact Or.inl ⟨hy.1, hy.2.1, hy.2.2.2⟩
    · exact Or.inr ⟨hy.1, fun x => hy.2 ⟨x.1, fun a => absurd a h0, x.2⟩⟩
theorem b157_z (hσ : StM σ codes) (hσw : StW σ) (nqv size ip is bg c dg first : Int) (hnq : 0 ≤ nqv ∧ nqv ≤ 8) (hfi : (first = 1 ∧ nqv = 0) ∨ (first = 0 ∧ nqv ≠ 0)) (hs : 2 ≤ size) (hs2 : size ≤ 8) (his : 0 ≤ is ∧ is ≤ 255) (hip : 0 ≤ ip ∧ ip ≤ 8) (hbg : (bg = 0 ∧ ip = 0) ∨ bg = 1) (hd : 0 ≤ dg) (hd2 : dg ≤ 9) (x10 : Int) (hset : (isL c ∧ x10 = 0) ∨ (isH c ∧ x10 = 1)) (y : Int) (hy : (y = 1 ∧ can σ size first is ip c dg) ∨ (y = 0 ∧ ¬ can σ size first is ip c dg)) : F_X8_readItems_b157 t tl (zI nqv) K fk fpl rd codes ep ek ex (zI size) (zI ip) (zI bg) g (zI is) x6 (zI c) x8 (zI dg) (zI x10) = F_X8_readItems_b281 t tl (zI nqv) K fk fpl rd codes ep ek ex (zI size) g x6 (zI c) x8 (zI dg) (zI x10) (zI y) := by
  have hcr : -1 ≤ c ∧ c ≤ 255 := by
    unfold isL isH at hset
    omega
  have hLH : isL c → ¬ isH c := by
    unfold isL isH
    omega
  have hx : x10 = 0 ∨ x10 = 1 := by rcases hset with h | h; exact Or.inl h.2; exact Or.inr h.2
  have k225 := fun t0 ht y hy => b225_z (t := t) (K := K) (nq := zI nqv) (fk := fk) (fpl := fpl) (ep := ep) (ek := ek) (tl := tl) (rd := rd) (ex := ex) (g := g) (x6 := x6) (x8 := x8) hσ hσw size ip is c dg x10 t0 hs hs2 his hip hcr hd hd2 hx ht y hy
  have e199 (hdz : dg ≤ size) (hdp : 0 < dg ∨ (isL c ∧ first = 1)) : F_X8_readItems_b199 t tl (zI nqv) K fk fpl rd codes ep ek ex (zI size) (zI ip) (zI bg) g (zI is) x6 (zI c) x8 (zI dg) (zI x10) = F_X8_readItems_b281 t tl (zI nqv) K fk fpl rd codes ep ek ex (zI size) g x6 (zI c) x8 (zI dg) (zI x10) (zI y) := by
    unfold F_X8_readItems_b199
    have f0 (hno : ¬ can σ size first is ip c dg) : F_X8_readItems_b225 t tl (zI nqv) K fk fpl rd codes ep ek ex (zI size) (zI ip) g (zI is) x6 (zI c) x8 (zI dg) (zI x10) (zI 0) = F_X8_readItems_b281 t tl (zI nqv) K fk fpl rd codes ep ek ex (zI size) g x6 (zI c) x8 (zI dg) (zI x10) (zI y) := by
      refine k225 0 (Or.inl rfl) y (Or.inr ⟨?_, by omega⟩)
      rcases hy with hy | hy
      · exact absurd hy.2 hno
      · exact hy.1
    by_cases a1 : dg < ip
    · simp (disch := omega) only [zl_0, zl_1, zl_2, zl_3, zl_4, zl_5, zl_6, zl_7, zl_8, zl_9, zl_10, zl_11, zl_12, zl_13, zl_14, zl_15, zl_16, zl_17, zl_18, zl_19, zl_20, zl_21, zl_22, zl_23, zl_24, zl_25, zl_26, zl_27, zl_28, zl_29, zl_30, zl_31, zl_32, zl_33, zl_34, zl_35, zl_36, zl_37, zl_38, zl_39, zl_40, zl_41, zl_42, zl_43, zl_44, zl_45, zl_46, zl_47, zl_48, zl_49, zl_50, zl_51, zl_52, zl_53, zl_54, zl_55, zl_56, zl_57, zl_58, zl_59, zl_60, zl_61, zl_62, zl_63, zl_64, zl_65, zl_66, zl_80, zl_97, zl_99, zl_103, zl_107, zl_112, zl_115, zl_100, zl_180, zl_210, zl_238, zl_255, zl_256, zl_400, zl_1000, zl_1024, zl_1260, zl_2000, zl_7140, zl_7200, zl_18414, zl_65536, zl_131072, zl_9999, zl_999, zI_add, zI_sub, zI_mul, zI_neg, zI_lt, zI_le, zI_eq, zI_clamp, ck_z, ckp_z, qb_z, qb_z0, Option.bind_some, if_pos, if_neg, reduceIte, reduceCtorEq, Bool.false_eq_true, Bool.true_eq_false]
      refine f0 (fun h => ?_)
      rcases hset with hs' | hs'
      · have := (h.2.2.1 hs'.1).1
        omega
      · have := h.2.2.2 (fun x => hLH x hs'.1)
        omega
    · rcases hset with ⟨hL, rfl⟩ | ⟨hH, rfl⟩
      · simp (disch := omega) only [zl_0, zl_1, zl_2, zl_3, zl_4, zl_5, zl_6, zl_7, zl_8, zl_9, zl_10, zl_11, zl_12, zl_13, zl_14, zl_15, zl_16, zl_17, zl_18, zl_19, zl_20, zl_21, zl_22, zl_23, zl_24, zl_25, zl_26, zl_27, zl_28, zl_29, zl_30, zl_31, zl_32, zl_33, zl_34, zl_35, zl_36, zl_37, zl_38, zl_39, zl_40, zl_41, zl_42, zl_43, zl_44, zl_45, zl_46, zl_47, zl_48, zl_49, zl_50, zl_51, zl_52, zl_53, zl_54, zl_55, zl_56, zl_57, zl_58, zl_59, zl_60, zl_61, zl_62, zl_63, zl_64, zl_65, zl_66, zl_80, zl_97, zl_99, zl_103, zl_107, zl_112, zl_115, zl_100, zl_180, zl_210, zl_238, zl_255, zl_256, zl_400, zl_1000, zl_1024, zl_1260, zl_2000, zl_7140, zl_7200, zl_18414, zl_65536, zl_131072, zl_9999, zl_999, zI_add, zI_sub, zI_mul, zI_neg, zI_lt, zI_le, zI_eq, zI_clamp, ck_z, ckp_z, qb_z, qb_z0, Option.bind_some, if_pos, if_neg, reduceIte, reduceCtorEq, Bool.false_eq_true, Bool.true_eq_false]
        refine k225 1 (Or.inr rfl) y ?_
        rcases hy with hy | hy
        · refine Or.inl ⟨hy.1, rfl, fun _ _ _ => (hy.2.2.2.1 hL).2.1, (hy.2.2.2.1 hL).2.2⟩
        · refine Or.inr ⟨hy.1, fun x => hy.2 ⟨hdz, hdp, fun _ => ⟨by omega, ?_, x.2.2⟩, fun z => absurd hL z⟩⟩
          by_cases a2 : 0 < dg
          · exact x.2.1 rfl a2 hdz
          · have : dg = 0 := by omega
            rw [this, hσw.1]
            omega
      · have hnL : ¬ isL c := fun z => hLH z hH
        have hc107 : c ≠ 107 := fun z => hnL (Or.inr (Or.inl z))
        by_cases a3 : bg = 1 ∧ dg = ip
        · simp (disch := omega) only [zl_0, zl_1, zl_2, zl_3, zl_4, zl_5, zl_6, zl_7, zl_8, zl_9, zl_10, zl_11, zl_12, zl_13, zl_14, zl_15, zl_16, zl_17, zl_18, zl_19, zl_20, zl_21, zl_22, zl_23, zl_24, zl_25, zl_26, zl_27, zl_28, zl_29, zl_30, zl_31, zl_32, zl_33, zl_34, zl_35, zl_36, zl_37, zl_38, zl_39, zl_40, zl_41, zl_42, zl_43, zl_44, zl_45, zl_46, zl_47, zl_48, zl_49, zl_50, zl_51, zl_52, zl_53, zl_54, zl_55, zl_56, zl_57, zl_58, zl_59, zl_60, zl_61, zl_62, zl_63, zl_64, zl_65, zl_66, zl_80, zl_97, zl_99, zl_103, zl_107, zl_112, zl_115, zl_100, zl_180, zl_210, zl_238, zl_255, zl_256, zl_400, zl_1000, zl_1024, zl_1260, zl_2000, zl_7140, zl_7200, zl_18414, zl_65536, zl_131072, zl_9999, zl_999, zI_add, zI_sub, zI_mul, zI_neg, zI_lt, zI_le, zI_eq, zI_clamp, ck_z, ckp_z, qb_z, qb_z0, Option.bind_some, if_pos, if_neg, reduceIte, reduceCtorEq, Bool.false_eq_true, Bool.true_eq_false]
          exact f0 (fun h => by have := h.2.2.2 hnL; omega)
        · have tailc : F_X8_readItems_b225 t tl (zI nqv) K fk fpl rd codes ep ek ex (zI size) (zI ip) g (zI is) x6 (zI c) x8 (zI dg) (zI 1) (zI 1) = F_X8_readItems_b281 t tl (zI nqv) K fk fpl rd codes ep ek ex (zI size) g x6 (zI c) x8 (zI dg) (zI 1) (zI y) := by
            refine k225 1 (Or.inr rfl) y (Or.inl ⟨?_, rfl, fun z => absurd z (by omega), fun z => hc107 z.1⟩)
            rcases hy with hy | hy
            · exact hy.1
            · exfalso
              refine hy.2 ⟨hdz, hdp, fun z => absurd z hnL, fun _ => ?_⟩
              rcases hdp with z | z
              · omega
              · exact absurd z.1 hnL
          by_cases a4 : bg = 0
          · simp (disch := omega) only [zl_0, zl_1, zl_2, zl_3, zl_4, zl_5, zl_6, zl_7, zl_8, zl_9, zl_10, zl_11, zl_12, zl_13, zl_14, zl_15, zl_16, zl_17, zl_18, zl_19, zl_20, zl_21, zl_22, zl_23, zl_24, zl_25, zl_26, zl_27, zl_28, zl_29, zl_30, zl_31, zl_32, zl_33, zl_34, zl_35, zl_36, zl_37, zl_38, zl_39, zl_40, zl_41, zl_42, zl_43, zl_44, zl_45, zl_46, zl_47, zl_48, zl_49, zl_50, zl_51, zl_52, zl_53, zl_54, zl_55, zl_56, zl_57, zl_58, zl_59, zl_60, zl_61, zl_62, zl_63, zl_64, zl_65, zl_66, zl_80, zl_97, zl_99, zl_103, zl_107, zl_112, zl_115, zl_100, zl_180, zl_210, zl_238, zl_255, zl_256, zl_400, zl_1000, zl_1024, zl_1260, zl_2000, zl_7140, zl_7200, zl_18414, zl_65536, zl_131072, zl_9999, zl_999, zI_add, zI_sub, zI_mul, zI_neg, zI_lt, zI_le, zI_eq, zI_clamp, ck_z, ckp_z, qb_z, qb_z0, Option.bind_some, if_pos, if_neg, reduceIte, reduceCtorEq, Bool.false_eq_true, Bool.true_eq_false]
            exact tailc
          · simp (disch := omega) only [zl_0, zl_1, zl_2, zl_3, zl_4, zl_5, zl_6, zl_7, zl_8, zl_9, zl_10, zl_11, zl_12, zl_13, zl_14, zl_15, zl_16, zl_17, zl_18, zl_19, zl_20, zl_21, zl_22, zl_23, zl_24, zl_25, zl_26, zl_27, zl_28, zl_29, zl_30, zl_31, zl_32, zl_33, zl_34, zl_35, zl_36, zl_37, zl_38, zl_39, zl_40, zl_41, zl_42, zl_43, zl_44, zl_45, zl_46, zl_47, zl_48, zl_49, zl_50, zl_51, zl_52, zl_53, zl_54, zl_55, zl_56, zl_57, zl_58, zl_59, zl_60, zl_61, zl_62, zl_63, zl_64, zl_65, zl_66, zl_80, zl_97, zl_99, zl_103, zl_107, zl_112, zl_115, zl_100, zl_180, zl_210, zl_238, zl_255, zl_256, zl_400, zl_1000, zl_1024, zl_1260, zl_2000, zl_7140, zl_7200, zl_18414, zl_65536, zl_131072, zl_9999, zl_999, zI_add, zI_sub, zI_mul, zI_neg, zI_lt, zI_le, zI_eq, zI_clamp, ck_z, ckp_z, qb_z, qb_z0, Option.bind_some, if_pos, if_neg, reduceIte, reduceCtorEq, Bool.false_eq_true, Bool.true_eq_false]
            exact tailc
  have hno0 (h : ¬ (dg ≤ size ∧ (0 < dg ∨ (isL c ∧ first = 1)))) : F_X8_readItems_b225 t tl (zI nqv) K fk fpl rd codes ep ek ex (zI size) (zI ip) g (zI is) x6 (zI c) x8 (zI dg) (zI x10) (zI 0) = F_X8_readItems_b281 t tl (zI nqv) K fk fpl rd codes ep ek ex (zI size) g x6 (zI c) x8 (zI dg) (zI x10) (zI y) := by
    refine k225 0 (Or.inl rfl) y (Or.inr ⟨?_, by omega⟩)
    rcases hy with hy | hy
    · exact absurd ⟨hy.2.1, hy.2.2.1⟩ h
    · exact hy.1
  unfold F_X8_readItems_b157 F_X8_readItems_b181
  by_cases a1 : size < dg
  · have g0 := hno0 (fun z => by omega)
    by_cases a2 : dg = 0
    · omega
    · simp (disch := omega) only [zl_0, zl_1, zl_2, zl_3, zl_4, zl_5, zl_6, zl_7, zl_8, zl_9, zl_10, zl_11, zl_12, zl_13, zl_14, zl_15, zl_16, zl_17, zl_18, zl_19, zl_20, zl_21, zl_22, zl_23, zl_24, zl_25, zl_26, zl_27, zl_28, zl_29, zl_30, zl_31, zl_32, zl_33, zl_34, zl_35, zl_36, zl_37, zl_38, zl_39, zl_40, zl_41, zl_42, zl_43, zl_44, zl_45, zl_46, zl_47, zl_48, zl_49, zl_50, zl_51, zl_52, zl_53, zl_54, zl_55, zl_56, zl_57, zl_58, zl_59, zl_60, zl_61, zl_62, zl_63, zl_64, zl_65, zl_66, zl_80, zl_97, zl_99, zl_103, zl_107, zl_112, zl_115, zl_100, zl_180, zl_210, zl_238, zl_255, zl_256, zl_400, zl_1000, zl_1024, zl_1260, zl_2000, zl_7140, zl_7200, zl_18414, zl_65536, zl_131072, zl_9999, zl_999, zI_add, zI_sub, zI_mul, zI_neg, zI_lt, zI_le, zI_eq, zI_clamp, ck_z, ckp_z, qb_z, qb_z0, Option.bind_some, if_pos, if_neg, reduceIte, reduceCtorEq, Bool.false_eq_true, Bool.true_eq_false]
      exact g0
  · by_cases a2 : 0 < dg
    · have g1 := e199 (by omega) (Or.inl a2)
      simp (disch := omega) only [zl_0, zl_1, zl_2, zl_3, zl_4, zl_5, zl_6, zl_7, zl_8, zl_9, zl_10, zl_11, zl_12, zl_13, zl_14, zl_15, zl_16, zl_17, zl_18, zl_19, zl_20, zl_21, zl_22, zl_23, zl_24, zl_25, zl_26, zl_27, zl_28, zl_29, zl_30, zl_31, zl_32, zl_33, zl_34, zl_35, zl_36, zl_37, zl_38, zl_39, zl_40, zl_41, zl_42, zl_43, zl_44, zl_45, zl_46, zl_47, zl_48, zl_49, zl_50, zl_51, zl_52, zl_53, zl_54, zl_55, zl_56, zl_57, zl_58, zl_59, zl_60, zl_61, zl_62, zl_63, zl_64, zl_65, zl_66, zl_80, zl_97, zl_99, zl_103, zl_107, zl_112, zl_115, zl_100, zl_180, zl_210, zl_238, zl_255, zl_256, zl_400, zl_1000, zl_1024, zl_1260, zl_2000, zl_7140, zl_7200, zl_18414, zl_65536, zl_131072, zl_9999, zl_999, zI_add, zI_sub, zI_mul, zI_neg, zI_lt, zI_le, zI_eq, zI_clamp, ck_z, ckp_z, qb_z, qb_z0, Option.bind_some, if_pos, if_neg, reduceIte, reduceCtorEq, Bool.false_eq_true, Bool.true_eq_false]
      exact g1
    · rcases hset with ⟨hL, rfl⟩ | ⟨hH, rfl⟩
      · by_cases a3 : nqv = 0
        · have g1 := e199 (by omega) (Or.inr ⟨hL, by omega⟩)
          simp (disch := omega) only [zl_0, zl_1, zl_2, zl_3, zl_4, zl_5, zl_6, zl_7, zl_8, zl_9, zl_10, zl_11, zl_12, zl_13, zl_14, zl_15, zl_16, zl_17, zl_18, zl_19, zl_20, zl_21, zl_22, zl_23, zl_24, zl_25, zl_26, zl_27, zl_28, zl_29, zl_30, zl_31, zl_32, zl_33, zl_34, zl_35, zl_36, zl_37, zl_38, zl_39, zl_40, zl_41, zl_42, zl_43, zl_44, zl_45, zl_46, zl_47, zl_48, zl_49, zl_50, zl_51, zl_52, zl_53, zl_54, zl_55, zl_56, zl_57, zl_58, zl_59, zl_60, zl_61, zl_62, zl_63, zl_64, zl_65, zl_66, zl_80, zl_97, zl_99, zl_103, zl_107, zl_112, zl_115, zl_100, zl_180, zl_210, zl_238, zl_255, zl_256, zl_400, zl_1000, zl_1024, zl_1260, zl_2000, zl_7140, zl_7200, zl_18414, zl_65536, zl_131072, zl_9999, zl_999, zI_add, zI_sub, zI_mul, zI_neg, zI_lt, zI_le, zI_eq, zI_clamp, ck_z, ckp_z, qb_z, qb_z0, Option.bind_some, if_pos, if_neg, reduceIte, reduceCtorEq, Bool.false_eq_true, Bool.true_eq_false]
          exact g1
        · have g0 := hno0 (fun z => by rcases z.2 with z | z; omega; omega)
          simp (disch := omega) only [zl_0, zl_1, zl_2, zl_3, zl_4, zl_5, zl_6, zl_7, zl_8, zl_9, zl_10, zl_11, zl_12, zl_13, zl_14, zl_15, zl_16, zl_17, zl_18, zl_19, zl_20, zl_21, zl_22, zl_23, zl_24, zl_25, zl_26, zl_27, zl_28, zl_29, zl_30, zl_31, zl_32, zl_33, zl_34, zl_35, zl_36, zl_37, zl_38, zl_39, zl_40, zl_41, zl_42, zl_43, zl_44, zl_45, zl_46, zl_47, zl_48, zl_49, zl_50, zl_51, zl_52, zl_53, zl_54, zl_55, zl_56, zl_57, zl_58, zl_59, zl_60, zl_61, zl_62, zl_63, zl_64, zl_65, zl_66, zl_80, zl_97, zl_99, zl_103, zl_107, zl_112, zl_115, zl_100, zl_180, zl_210, zl_238, zl_255, zl_256, zl_400, zl_1000, zl_1024, zl_1260, zl_2000, zl_7140, zl_7200, zl_18414, zl_65536, zl_131072, zl_9999, zl_999, zI_add, zI_sub, zI_mul, zI_neg, zI_lt, zI_le, zI_eq, zI_clamp, ck_z, ckp_z, qb_z, qb_z0, Option.bind_some, if_pos, if_neg, reduceIte, reduceCtorEq, Bool.false_eq_true, Bool.true_eq_false]
          exact g0
      · have g0 := hno0 (fun z => by rcases z.2 with z | z; omega; exact hLH z.1 hH)
        simp (disch := omega) only [zl_0, zl_1, zl_2, zl_3, zl_4, zl_5, zl_6, zl_7, zl_8, zl_9, zl_10, zl_11, zl_12, zl_13, zl_14, zl_15, zl_16, zl_17, zl_18, zl_19, zl_20, zl_21, zl_22, zl_23, zl_24, zl_25, zl_26, zl_27, zl_28, zl_29, zl_30, zl_31, zl_32, zl_33, zl_34, zl_35, zl_36, zl_37, zl_38, zl_39, zl_40, zl_41, zl_42, zl_43, zl_44, zl_45, zl_46, zl_47, zl_48, zl_49, zl_50, zl_51, zl_52, zl_53, zl_54, zl_55, zl_56, zl_57, zl_58, zl_59, zl_60, zl_61, zl_62, zl_63, zl_64, zl_65, zl_66, zl_80, zl_97, zl_99, zl_103, zl_107, zl_112, zl_115, zl_100, zl_180, zl_210, zl_238, zl_255, zl_256, zl_400, zl_1000, zl_1024, zl_1260, zl_2000, zl_7140, zl_7200, zl_18414, zl_65536, zl_131072, zl_9999, zl_999, zI_add, zI_sub, zI_mul, zI_neg, zI_lt, zI_le, zI_eq, zI_clamp, ck_z, ckp_z, qb_z, qb_z0, Option.bind_some, if_pos, if_neg, reduceIte, reduceCtorEq, Bool.false_eq_true, Bool.true_eq_false]
        exact g0
end RM

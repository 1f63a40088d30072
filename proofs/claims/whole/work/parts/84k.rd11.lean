section RA
variable {b t : NF} {N : Int} {fa fp fk fpl : Int32}
/-- from the bracket on: what both have read of a quire -/
theorem bracket_z (hN : 0 ≤ N) (hN2 : N ≤ 400) (hT : TapE N b t) (size first nqv : Int) (hs : 2 ≤ size) (hs2 : size ≤ 8) (hnq : 0 ≤ nqv ∧ nqv ≤ 8) (hfi : (first = 1 ∧ nqv = 0) ∨ (first = 0 ∧ nqv ≠ 0)) (p : Int) (hp : 0 ≤ p) (hpN : p ≤ N) (cnt : Int) (hcnt : 1 ≤ cnt) (hcnt2 : cnt < 100) (many : Int) (hmany : (many = 0 ∧ cnt = 1) ∨ (many = 1 ∧ 1 < cnt)) (states lk lp : NF) (lc gh is ip : Int32) (k17 : K17) (nT nL : Int32) (nS nP nK codes ep ek : NF) (x2 : Int32) :
    (∃ k a r1 r2, F_X3_readBracket fa fp (zI p) states lk lp lc gh (zI size) is ip b (zI N) (zI first) (zI many) = some (false, zI k, zI a, r1) ∧ F_X8_reading_b251 t (zI N) k17 FU fk fpl (zI p) nT (zI nqv) nL nS nP nK codes ep ek x2 (zI cnt) (zI size) 0 = some (-1, zI k, zI a, r2)) ∨
    (∃ p' σ κ π E g is' ip' bg states' lk' lp' lc' codes' ep' ek', F_X3_readBracket fa fp (zI p) states lk lp lc gh (zI size) is ip b (zI N) (zI first) (zI many) = some (true, fa, fp, zI p', states', lk', lp', lc', zI g, zI is', zI ip') ∧ F_X8_reading_b251 t (zI N) k17 FU fk fpl (zI p) nT (zI nqv) nL nS nP nK codes ep ek x2 (zI cnt) (zI size) 0 = F_X8_reading_b320 t (zI N) k17 FU fk fpl (zI p') nT (zI nqv) nL nS nP nK codes' ep' ek' (zI E) x2 (zI cnt) (zI size) 0 1 ∧ RIW σ κ π E g is' ip' bg size first ∧ StC σ states' ∧ StM σ codes' ∧ LsC κ π E lk' lp' lc' ∧ LsM κ π E ep' ek' (zI E) ∧ p ≤ p' ∧ p' ≤ N ∧ E < 200 ∧ (1 < cnt → E = 0)) := by
  obtain ⟨st', c1, c2⟩ := b22_init (b := b) (N := N) (fa := fa) (fp := fp) (zI size) (zI p) 0 0 0 0 (zI first) (zI many) lk lp 9 FU 0 states (by omega) (by omega) (by unfold FU; omega) (fun j a bb => by omega)
  obtain ⟨cd', d1, d2⟩ := b251_init (t := t) (N := N) (fk := fk) (fpl := fpl) k17 (zI p) nT (zI nqv) nL nS nP nK ep ek x2 (zI cnt) (zI size) 9 FU 0 codes (by omega) (by omega) (by unfold FU; omega) (fun j a bb => by omega)
  have c1' : F_X3_readBracket fa fp (zI p) states lk lp lc gh (zI size) is ip b (zI N) (zI first) (zI many) = F_X3_readBracket_b22 (zI size) b (zI N) 1 fa fp (zI p) st' lk lp 0 0 0 0 (zI first) (zI many) (zI 9) := c1
  have d1' : F_X8_reading_b251 t (zI N) k17 FU fk fpl (zI p) nT (zI nqv) nL nS nP nK codes ep ek x2 (zI cnt) (zI size) 0 = F_X8_reading_b251 t (zI N) k17 1 fk fpl (zI p) nT (zI nqv) nL nS nP nK cd' ep ek x2 (zI cnt) (zI size) (zI 9) := d1
  have l9 : (8 : Int32) < zI 9 := by decide
  have s0 := sign_z (b := b) hN hN2 p hp (by omega)
  have a0 := raw_z hN hN2 hT p hp (by omega)
  have r0 := sgn_r hN hT p
  rw [c1', d1', F_X3_readBracket_b22, F_X8_reading_b251, if_pos l9, if_pos l9, s0, a0, Option.bind_some, Option.bind_some]
  have w0 : RIW (fun _ => 1) (fun _ => 0) (fun _ => 0) 0 0 0 0 0 size first := by
    refine ⟨⟨rfl, fun _ => Or.inl rfl⟩, fun _ _ => rfl, ?_, by omega, by omega, by omega, Or.inl ⟨rfl, rfl⟩, by omega, fun i a bb => by omega⟩
    have : ∀ n : Nat, gcn (fun _ => 1) n = 0 := by
      intro n
      induction n with
      | zero => rfl
      | succ n ih => simp only [gcn]; rw [ih]; rfl
    rw [this]
  have wC : StC (fun _ => 1) st' := fun k a bb => c2 k a bb
  have wM : StM (fun _ => 1) cd' := fun k a bb => d2 k a bb
  have lC : LsC (fun _ => 0) (fun _ => 0) 0 lk lp 0 := ⟨rfl, fun i a bb => by omega⟩
  have lM : LsM (fun _ => 0) (fun _ => 0) 0 ep ek 0 := ⟨rfl, fun i a bb => by omega⟩
  by_cases h40 : sgn b N p = 40
  · have hlt : p < N := by
      rcases Int.lt_or_le p N with x | x
      · exact x
      · exact absurd (sgn_m (b := b) (by omega : ¬ p < N)) (by omega)
    have q40 : zI (sgn b N p) = 40 := by rw [h40]; rfl
    rw [if_pos q40, if_pos q40]
    rcases hmany with ⟨hm, hc1⟩ | ⟨hm, hc1⟩
    · have lc1 : zI cnt ≤ 1 := by simp (disch := omega) only [zl_0, zl_1, zl_2, zl_3, zl_4, zl_5, zl_6, zl_7, zl_8, zl_9, zl_10, zl_11, zl_12, zl_13, zl_14, zl_15, zl_16, zl_17, zl_18, zl_19, zl_20, zl_21, zl_22, zl_23, zl_24, zl_25, zl_26, zl_27, zl_28, zl_29, zl_30, zl_31, zl_32, zl_33, zl_34, zl_35, zl_36, zl_37, zl_38, zl_39, zl_40, zl_41, zl_42, zl_43, zl_44, zl_45, zl_46, zl_47, zl_48, zl_49, zl_50, zl_51, zl_52, zl_53, zl_54, zl_55, zl_56, zl_57, zl_58, zl_59, zl_60, zl_61, zl_62, zl_63, zl_64, zl_65, zl_66, zl_80, zl_97, zl_99, zl_103, zl_107, zl_112, zl_115, zl_100, zl_180, zl_210, zl_238, zl_255, zl_256, zl_400, zl_1000, zl_1024, zl_1260, zl_2000, zl_7140, zl_7200, zl_18414, zl_65536, zl_131072, zl_9999, zl_999, zI_add, zI_sub, zI_mul, zI_neg, zI_lt, zI_le, zI_eq, zI_clamp, ck_z, ckp_z, qb_z, qb_z0, Option.bind_some]; omega
      have qm : zI many = 0 := by rw [hm]; rfl
      rw [if_pos qm, if_pos lc1]
      have il := items_loop (fa := fa) (fp := fp) (fk := fk) (fpl := fpl) hN hN2 hT size first nqv hs hs2 hnq hfi FU FU p 0 (fun _ => 1) (fun _ => 0) (fun _ => 0) 0 0 0 0 0 st' lk lp 0 cd' ep ek 0 (by unfold FU; omega) (by unfold FU; omega) hp hlt (by omega) (by omega) (by omega) w0 wC wM lC lM
      unfold F_X8_readItems
      rcases il with ⟨k, a, r1, r2, i1, i2⟩ | ⟨p', σ', κ', π', E', g', is', ip', s', l1', l2', l3', c', e1', e2', e3', i1, i2, i3, i4, i5, i6, i7, i8, i9, i10⟩
      · refine Or.inl ?_
        have i1' : F_X3_readBracket_b88 (zI size) b (zI N) FU fa fp (zI p) st' lk lp 0 0 0 0 (zI first) (zI N) 0 = some (false, zI k, zI a, r1) := i1
        have i2' : F_X8_readItems_b10 t (zI N) (zI nqv) FU fk fpl (zI p) cd' ep ek 0 (zI size) 0 0 0 0 = some (-1, zI k, zI a, r2) := i2
        rw [i1', i2', Option.bind_some]
        exact ⟨k, a, _, _, rfl, rfl⟩
      · refine Or.inr ?_
        have i1' : F_X3_readBracket_b88 (zI size) b (zI N) FU fa fp (zI p) st' lk lp 0 0 0 0 (zI first) (zI N) 0 = some (true, fa, fp, zI p', s', l1', l2', l3', zI g', zI is', zI ip') := i1
        have i2' : F_X8_readItems_b10 t (zI N) (zI nqv) FU fk fpl (zI p) cd' ep ek 0 (zI size) 0 0 0 0 = some (0, fk, fpl, zI p', c', e1', e2', e3') := i2
        rw [i1', i2', Option.bind_some]
        refine ⟨p', σ', κ', π', E', g', is', ip', 1, s', l1', l2', l3', c', e1', e2', rfl, ?_, i3, i4, i5, i6, ?_, by omega, i9, i10, by omega⟩
        · rw [← i7.1]
          exact if_neg (by show ¬ (0 : Int32) = -1; decide)
        · exact ⟨rfl, i7.2⟩
    · have lc1 : ¬ zI cnt ≤ 1 := by simp (disch := omega) only [zl_0, zl_1, zl_2, zl_3, zl_4, zl_5, zl_6, zl_7, zl_8, zl_9, zl_10, zl_11, zl_12, zl_13, zl_14, zl_15, zl_16, zl_17, zl_18, zl_19, zl_20, zl_21, zl_22, zl_23, zl_24, zl_25, zl_26, zl_27, zl_28, zl_29, zl_30, zl_31, zl_32, zl_33, zl_34, zl_35, zl_36, zl_37, zl_38, zl_39, zl_40, zl_41, zl_42, zl_43, zl_44, zl_45, zl_46, zl_47, zl_48, zl_49, zl_50, zl_51, zl_52, zl_53, zl_54, zl_55, zl_56, zl_57, zl_58, zl_59, zl_60, zl_61, zl_62, zl_63, zl_64, zl_65, zl_66, zl_80, zl_97, zl_99, zl_103, zl_107, zl_112, zl_115, zl_100, zl_180, zl_210, zl_238, zl_255, zl_256, zl_400, zl_1000, zl_1024, zl_1260, zl_2000, zl_7140, zl_7200, zl_18414, zl_65536, zl_131072, zl_9999, zl_999, zI_add, zI_sub, zI_mul, zI_neg, zI_lt, zI_le, zI_eq, zI_clamp, ck_z, ckp_z, qb_z, qb_z0, Option.bind_some]; omega
      have qm : ¬ zI many = 0 := by rw [hm]; decide
      rw [if_neg qm, if_neg lc1]
      exact Or.inl ⟨2, p, _, _, rfl, rfl⟩
  · have l40 : ¬ zI (sgn b N p) = 40 := by simp (disch := omega) only [zl_0, zl_1, zl_2, zl_3, zl_4, zl_5, zl_6, zl_7, zl_8, zl_9, zl_10, zl_11, zl_12, zl_13, zl_14, zl_15, zl_16, zl_17, zl_18, zl_19, zl_20, zl_21, zl_22, zl_23, zl_24, zl_25, zl_26, zl_27, zl_28, zl_29, zl_30, zl_31, zl_32, zl_33, zl_34, zl_35, zl_36, zl_37, zl_38, zl_39, zl_40, zl_41, zl_42, zl_43, zl_44, zl_45, zl_46, zl_47, zl_48, zl_49, zl_50, zl_51, zl_52, zl_53, zl_54, zl_55, zl_56, zl_57, zl_58, zl_59, zl_60, zl_61, zl_62, zl_63, zl_64, zl_65, zl_66, zl_80, zl_97, zl_99, zl_103, zl_107, zl_112, zl_115, zl_100, zl_180, zl_210, zl_238, zl_255, zl_256, zl_400, zl_1000, zl_1024, zl_1260, zl_2000, zl_7140, zl_7200, zl_18414, zl_65536, zl_131072, zl_9999, zl_999, zI_add, zI_sub, zI_mul, zI_neg, zI_lt, zI_le, zI_eq, zI_clamp, ck_z, ckp_z, qb_z, qb_z0, Option.bind_some]; exact h40
    rw [if_neg l40, if_neg l40]
    exact Or.inr ⟨p, (fun _ => 1), (fun _ => 0), (fun _ => 0), 0, 0, 0, 0, 0, st', lk, lp, 0, cd', ep, ek, rfl, rfl, w0, wC, wM, lC, lM, by omega, hpN, by omega, fun _ => rfl⟩
end RA

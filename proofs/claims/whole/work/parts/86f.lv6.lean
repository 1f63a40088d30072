section LE
variable {n : Int} {κ : Int → Int} {μ : Int → Int → Int} {K M R : NF} {C : Int32} {sz sg lt pg : Int}
theorem hixn {i : Nat} (hi : (i : Int) < n) (hg : Hg (κ i)) : hix κ n.toNat (hcn κ i) = i := by
  have := hix_at κ i hg (n.toNat - (i + 1))
  rw [show i + 1 + (n.toNat - (i + 1)) = n.toNat by omega] at this
  exact this
theorem addLv_z (hw : RwW n κ μ) (hr : RwC n κ μ K M C) (hp : 0 ≤ pg) (hp2 : pg ≤ 999) (eR : R 5 = zI pg) (i : Nat) (hi : (i : Int) < n) (hg : Hg (κ i)) (letters numbers spots heads nexts waters sides ties : NF) (last : Int32) (h : LvP (mkB n κ μ sz sg lt pg) (hcn κ i) letters numbers spots heads nexts waters sides ties last) : ∃ c, F_X2_add (zI (hcn κ i)) letters numbers spots heads nexts waters sides ties last K M R C (zI i) = some (zI (hcn κ i + 1), c) ∧ LvP (mkB n κ μ sz sg lt pg) (hcn κ i + 1) c.1 c.2.1 c.2.2.1 c.2.2.2.1 c.2.2.2.2.1 c.2.2.2.2.2.1 c.2.2.2.2.2.2.1 c.2.2.2.2.2.2.2.1 c.2.2.2.2.2.2.2.2 := by
  obtain ⟨n0, n1, hk⟩ := id hw
  have hb := hcn_b κ i
  have hx := hixn hi hg
  have mk (q : Nat) (hq : q < 7) : bkM (mkB n κ μ sz sg lt pg) q (hcn κ i) = μ i q := by rw [bkM_mk n κ μ sz sg lt pg q _ hq, hx]
  have eX : bkX (mkB n κ μ sz sg lt pg) (hcn κ i) = if Can n κ i then 1 else 0 := by
    show (if Can n κ (hix κ n.toNat (hcn κ i)) then (1 : Int) else 0) = _
    rw [hx]
  have eP : bkP (mkB n κ μ sz sg lt pg) (hcn κ i) = μ ((i : Int) + 1) 2 := by
    show μ (hix κ n.toNat (hcn κ i) + 1) 2 = _
    rw [hx]
  have eD : bkD (mkB n κ μ sz sg lt pg) (hcn κ i) = μ ((i : Int) + 1) 3 := by
    show μ (hix κ n.toNat (hcn κ i) + 1) 3 = _
    rw [hx]
  have eO : bkO (mkB n κ μ sz sg lt pg) = pg := rfl
  have ad := LvP_add hb.1 h
  have nb : 0 < hcn κ i → 0 ≤ bkM (mkB n κ μ sz sg lt pg) 4 (hcn κ i - 1) ∧ bkM (mkB n κ μ sz sg lt pg) 4 (hcn κ i - 1) ≤ 9999 := by
    intro h0
    have hm := hcn_m κ i (n.toNat - i)
    rw [show i + (n.toNat - i) = n.toNat by omega] at hm
    obtain ⟨a, b, -, -⟩ := hix_b κ n.toNat (hcn κ i - 1) (by omega) (by omega)
    rw [bkM_mk n κ μ sz sg lt pg 4 _ (by omega)]
    exact (hk _ a (by omega)).2.2 4 (by omega) (by omega)
  obtain ⟨c, hc1, hc2, hc3⟩ : ∃ c : Int, 0 ≤ c ∧ c ≤ 9999 ∧ (0 < hcn κ i → c = bkM (mkB n κ μ sz sg lt pg) 4 (hcn κ i - 1)) := by
    by_cases h0 : 0 < hcn κ i
    · exact ⟨_, (nb h0).1, (nb h0).2, fun _ => rfl⟩
    · exact ⟨0, by omega, by omega, fun x => absurd x h0⟩
  have mq (q : Int) (q0 : 0 ≤ q) (q1 : q < 7) : F_X5_markOf M C (zI i) (zI q) = some (zI (μ i q)) := markOf_z hw hr i q (by omega) hi q0 q1
  have e0 : F_X5_markOf M C (zI i) 0 = some (zI (μ i 0)) := mq 0 (by omega) (by omega)
  have e1 : F_X5_markOf M C (zI i) 1 = some (zI (μ i 1)) := mq 1 (by omega) (by omega)
  have e4 : F_X5_markOf M C (zI i) 4 = some (zI (μ i 4)) := mq 4 (by omega) (by omega)
  have e5 : F_X5_markOf M C (zI i) 5 = some (zI (μ i 5)) := mq 5 (by omega) (by omega)
  have e6 : F_X5_markOf M C (zI i) 6 = some (zI (μ i 6)) := mq 6 (by omega) (by omega)
  have ez : zI (hcn κ i) + 1 = zI (hcn κ i + 1) := by rw [zl_1, zI_add]
  have eq : qb (decide (Can n κ i)) = zI (bkX (mkB n κ μ sz sg lt pg) (hcn κ i)) := by
    rw [eX]
    by_cases x : Can n κ i
    · rw [decide_eq_true x, if_pos x]; rfl
    · rw [decide_eq_false x, if_neg x]; rfl
  have jd := judge_z (R := R) hw hr pg hp hp2 eR (hcn κ i + 1) (by omega) spots heads (upd nexts (hcn κ i).toNat (zI (μ i 4))) ties (hcn κ i) i (bkX (mkB n κ μ sz sg lt pg) (hcn κ i)) c hb.1 (by omega) (by omega) hi (by
    rw [eX]
    by_cases x : Can n κ i
    · rw [if_pos x]; exact Or.inr ⟨rfl, x.2.1⟩
    · rw [if_neg x]; exact Or.inl rfl) hc1 hc2 (fun h0 => by
    rw [upd_z _ _ (by omega) (by omega), if_neg (by omega), hc3 h0]
    exact (h.1 (hcn κ i - 1) (by omega) (by omega)).2.2.2.2.1)
  have esp : (if bkX (mkB n κ μ sz sg lt pg) (hcn κ i) = 0 then spo (μ i 2) pg else tog (spo (μ i 2) pg) (spo (μ ((i : Int) + 1) 2) pg)) = bsp (mkB n κ μ sz sg lt pg) (bkX (mkB n κ μ sz sg lt pg) (hcn κ i)) (hcn κ i) := by
    unfold bsp
    rw [mk 2 (by omega), eP, eO]
    rfl
  have ehd : (if bkX (mkB n κ μ sz sg lt pg) (hcn κ i) = 0 then μ i 3 else if μ ((i : Int) + 1) 3 ≤ 0 then μ i 3 else μ ((i : Int) + 1) 3) = bhd (mkB n κ μ sz sg lt pg) (bkX (mkB n κ μ sz sg lt pg) (hcn κ i)) (hcn κ i) := by
    unfold bhd
    rw [mk 3 (by omega), eD]
    rfl
  have eti : (if hcn κ i ≤ 0 then 0 else if c = 0 then 0 else if bhd (mkB n κ μ sz sg lt pg) (bkX (mkB n κ μ sz sg lt pg) (hcn κ i)) (hcn κ i) = 0 then 0 else if c = bhd (mkB n κ μ sz sg lt pg) (bkX (mkB n κ μ sz sg lt pg) (hcn κ i)) (hcn κ i) then (1 : Int) else 2) = bti (mkB n κ μ sz sg lt pg) (bkX (mkB n κ μ sz sg lt pg) (hcn κ i)) (hcn κ i) := by
    unfold bti
    by_cases x : hcn κ i ≤ 0
    · rw [if_pos x, if_pos x]
    · rw [if_neg x, if_neg x, hc3 (by omega)]
  rw [esp, ehd, eti] at jd
  have sb : -2 ≤ bsp (mkB n κ μ sz sg lt pg) (bkX (mkB n κ μ sz sg lt pg) (hcn κ i)) (hcn κ i) ∧ bsp (mkB n κ μ sz sg lt pg) (bkX (mkB n κ μ sz sg lt pg) (hcn κ i)) (hcn κ i) ≤ 9999 := by
    have m2 := (hk i (by omega) hi).2.2 2 (by omega) (by omega)
    rw [← esp]
    by_cases x : Can n κ i
    · have n2 := (hk (i + 1) (by omega) x.2.1).2.2 2 (by omega) (by omega)
      rw [eX, if_pos x, if_neg (by omega)]
      exact tog_b (spo_b m2.2) (spo_b n2.2)
    · rw [eX, if_neg x, if_pos rfl]
      exact spo_b m2.2
  have k0 : bkM (mkB n κ μ sz sg lt pg) 0 (hcn κ i) = μ i 0 := mk 0 (by omega)
  have k1 : bkM (mkB n κ μ sz sg lt pg) 1 (hcn κ i) = μ i 1 := mk 1 (by omega)
  have k4 : bkM (mkB n κ μ sz sg lt pg) 4 (hcn κ i) = μ i 4 := mk 4 (by omega)
  have k5 : bkM (mkB n κ μ sz sg lt pg) 5 (hcn κ i) = μ i 5 := mk 5 (by omega)
  have k6 : bkM (mkB n κ μ sz sg lt pg) 6 (hcn κ i) = μ i 6 := mk 6 (by omega)
  rw [k0, k1, k4, k5, k6] at ad
  have cz {α : Type} (o : Option α) : ck (inb (zI (hcn κ i)) 30) o = o := ck_z hb.1 (by omega) (by omega)
  unfold F_X2_add
  rw [e0, Option.bind_some, e1, Option.bind_some, e4, Option.bind_some, e5, Option.bind_some, e6, Option.bind_some, canc_zr hw hr i (by omega) hi, Option.bind_some, ez, eq, cz, cz, cz, cz, cz, zI_clamp (by omega) (by omega), jd, Option.bind_some, cz]
  by_cases x : bsp (mkB n κ μ sz sg lt pg) (bkX (mkB n κ μ sz sg lt pg) (hcn κ i)) (hcn κ i) = -1
  · rw [if_pos x] at ad
    have q : (upd spots (hcn κ i).toNat (zI (bsp (mkB n κ μ sz sg lt pg) (bkX (mkB n κ μ sz sg lt pg) (hcn κ i)) (hcn κ i)))) (hcn κ i).toNat = -1 := by rw [upd_at, x]; rfl
    rw [if_pos q]
    exact ⟨_, rfl, ad⟩
  · rw [if_neg x] at ad
    have q : ¬ (upd spots (hcn κ i).toNat (zI (bsp (mkB n κ μ sz sg lt pg) (bkX (mkB n κ μ sz sg lt pg) (hcn κ i)) (hcn κ i)))) (hcn κ i).toNat = -1 := by rw [upd_at]; simp (disch := omega) only [zl_0, zl_1, zl_2, zl_3, zl_4, zl_5, zl_6, zl_7, zl_8, zl_9, zl_10, zl_11, zl_12, zl_13, zl_14, zl_15, zl_16, zl_17, zl_18, zl_19, zl_20, zl_21, zl_22, zl_23, zl_24, zl_25, zl_26, zl_27, zl_28, zl_29, zl_30, zl_31, zl_32, zl_33, zl_34, zl_35, zl_36, zl_37, zl_38, zl_39, zl_40, zl_41, zl_42, zl_43, zl_44, zl_45, zl_46, zl_47, zl_48, zl_49, zl_50, zl_51, zl_52, zl_53, zl_54, zl_55, zl_56, zl_57, zl_58, zl_59, zl_60, zl_61, zl_62, zl_63, zl_64, zl_65, zl_66, zl_80, zl_97, zl_99, zl_103, zl_107, zl_112, zl_115, zl_100, zl_180, zl_210, zl_238, zl_255, zl_256, zl_400, zl_1000, zl_1024, zl_1260, zl_2000, zl_7140, zl_7200, zl_18414, zl_65536, zl_131072, zl_9999, zl_999, zI_add, zI_sub, zI_mul, zI_neg, zI_lt, zI_le, zI_eq, zI_clamp, ck_z, ckp_z, qb_z, qb_z0, Option.bind_some]; exact x
    rw [if_neg q]
    exact ⟨_, rfl, ad⟩
theorem load_b42_z (hw : RwW n κ μ) (hr : RwC n κ μ K M C) (hp : 0 ≤ pg) (hp2 : pg ≤ 999) (eR : R 5 = zI pg) (a b c : Int32) : ∀ (d m i : Nat) (letters numbers spots heads nexts waters sides ties : NF) (last : Int32), (i : Int) + d = n → d < m → LvP (mkB n κ μ sz sg lt pg) (hcn κ i) letters numbers spots heads nexts waters sides ties last → ∃ le nu sp he ne wa si ti la, F_X2_load_b42 K M R C m (zI (hcn κ i)) letters numbers spots heads nexts waters sides ties last a b c (zI i) = some (zI (bkH (mkB n κ μ sz sg lt pg)), le, nu, sp, he, ne, wa, si, ti, la, a, b, c) ∧ LvP (mkB n κ μ sz sg lt pg) (bkH (mkB n κ μ sz sg lt pg)) le nu sp he ne wa si ti la
  | 0, m + 1, i, letters, numbers, spots, heads, nexts, waters, sides, ties, last, hi, _, h => by
    obtain ⟨n0, n1, hk⟩ := hw
    have e : i = n.toNat := by omega
    subst e
    have l : zI n ≤ zI ((n.toNat : Nat) : Int) := by simp (disch := omega) only [zl_0, zl_1, zl_2, zl_3, zl_4, zl_5, zl_6, zl_7, zl_8, zl_9, zl_10, zl_11, zl_12, zl_13, zl_14, zl_15, zl_16, zl_17, zl_18, zl_19, zl_20, zl_21, zl_22, zl_23, zl_24, zl_25, zl_26, zl_27, zl_28, zl_29, zl_30, zl_31, zl_32, zl_33, zl_34, zl_35, zl_36, zl_37, zl_38, zl_39, zl_40, zl_41, zl_42, zl_43, zl_44, zl_45, zl_46, zl_47, zl_48, zl_49, zl_50, zl_51, zl_52, zl_53, zl_54, zl_55, zl_56, zl_57, zl_58, zl_59, zl_60, zl_61, zl_62, zl_63, zl_64, zl_65, zl_66, zl_80, zl_97, zl_99, zl_103, zl_107, zl_112, zl_115, zl_100, zl_180, zl_210, zl_238, zl_255, zl_256, zl_400, zl_1000, zl_1024, zl_1260, zl_2000, zl_7140, zl_7200, zl_18414, zl_65536, zl_131072, zl_9999, zl_999, zI_add, zI_sub, zI_mul, zI_neg, zI_lt, zI_le, zI_eq, zI_clamp, ck_z, ckp_z, qb_z, qb_z0, Option.bind_some]; omega
    rw [F_X2_load_b42, hr.1, if_pos l]
    exact ⟨_, _, _, _, _, _, _, _, _, rfl, h⟩
  | d + 1, m + 1, i, letters, numbers, spots, heads, nexts, waters, sides, ties, last, hi, hm, h => by
    obtain ⟨n0, n1, hk⟩ := id hw
    have hb := hcn_b κ i
    have l : ¬ zI n ≤ zI i := by simp (disch := omega) only [zl_0, zl_1, zl_2, zl_3, zl_4, zl_5, zl_6, zl_7, zl_8, zl_9, zl_10, zl_11, zl_12, zl_13, zl_14, zl_15, zl_16, zl_17, zl_18, zl_19, zl_20, zl_21, zl_22, zl_23, zl_24, zl_25, zl_26, zl_27, zl_28, zl_29, zl_30, zl_31, zl_32, zl_33, zl_34, zl_35, zl_36, zl_37, zl_38, zl_39, zl_40, zl_41, zl_42, zl_43, zl_44, zl_45, zl_46, zl_47, zl_48, zl_49, zl_50, zl_51, zl_52, zl_53, zl_54, zl_55, zl_56, zl_57, zl_58, zl_59, zl_60, zl_61, zl_62, zl_63, zl_64, zl_65, zl_66, zl_80, zl_97, zl_99, zl_103, zl_107, zl_112, zl_115, zl_100, zl_180, zl_210, zl_238, zl_255, zl_256, zl_400, zl_1000, zl_1024, zl_1260, zl_2000, zl_7140, zl_7200, zl_18414, zl_65536, zl_131072, zl_9999, zl_999, zI_add, zI_sub, zI_mul, zI_neg, zI_lt, zI_le, zI_eq, zI_clamp, ck_z, ckp_z, qb_z, qb_z0, Option.bind_some]; omega
    have ez : zI (i : Int) + 1 = zI ((i + 1 : Nat) : Int) := by rw [zl_1, zI_add]; rfl
    have eh := hangs_zr hw hr i (by omega) (by omega)
    rw [F_X2_load_b42, eh, hr.1, if_neg l, Option.bind_some, ez]
    by_cases x : Hg (κ i)
    · have e3 : hcn κ (i + 1) = hcn κ i + 1 := by rw [hcn, if_pos x]
      have l2 : ¬ 30 ≤ zI (hcn κ i) := by simp (disch := omega) only [zl_0, zl_1, zl_2, zl_3, zl_4, zl_5, zl_6, zl_7, zl_8, zl_9, zl_10, zl_11, zl_12, zl_13, zl_14, zl_15, zl_16, zl_17, zl_18, zl_19, zl_20, zl_21, zl_22, zl_23, zl_24, zl_25, zl_26, zl_27, zl_28, zl_29, zl_30, zl_31, zl_32, zl_33, zl_34, zl_35, zl_36, zl_37, zl_38, zl_39, zl_40, zl_41, zl_42, zl_43, zl_44, zl_45, zl_46, zl_47, zl_48, zl_49, zl_50, zl_51, zl_52, zl_53, zl_54, zl_55, zl_56, zl_57, zl_58, zl_59, zl_60, zl_61, zl_62, zl_63, zl_64, zl_65, zl_66, zl_80, zl_97, zl_99, zl_103, zl_107, zl_112, zl_115, zl_100, zl_180, zl_210, zl_238, zl_255, zl_256, zl_400, zl_1000, zl_1024, zl_1260, zl_2000, zl_7140, zl_7200, zl_18414, zl_65536, zl_131072, zl_9999, zl_999, zI_add, zI_sub, zI_mul, zI_neg, zI_lt, zI_le, zI_eq, zI_clamp, ck_z, ckp_z, qb_z, qb_z0, Option.bind_some]; omega
      obtain ⟨cc, e4, I4⟩ := addLv_z (R := R) hw hr hp hp2 eR i (by omega) x letters numbers spots heads nexts waters sides ties last h
      rw [hr.1] at e4
      rw [if_neg (by rw [decide_eq_true x]; decide), if_neg l2, e4, Option.bind_some]
      rw [← e3] at I4
      obtain ⟨le, nu, sp, he, ne, wa, si, ti, la, e5, I5⟩ := load_b42_z hw hr hp hp2 eR a b c d m (i + 1) _ _ _ _ _ _ _ _ _ (by omega) (by omega) I4
      rw [hr.1, e3] at e5
      exact ⟨le, nu, sp, he, ne, wa, si, ti, la, e5, I5⟩
    · have e3 : hcn κ (i + 1) = hcn κ i := by rw [hcn, if_neg x]; omega
      rw [← e3] at h
      obtain ⟨le, nu, sp, he, ne, wa, si, ti, la, e5, I5⟩ := load_b42_z hw hr hp hp2 eR a b c d m (i + 1) letters numbers spots heads nexts waters sides ties last (by omega) (by omega) h
      rw [hr.1, e3] at e5
      rw [if_pos (by rw [decide_eq_false x]; rfl)]
      exact ⟨le, nu, sp, he, ne, wa, si, ti, la, e5, I5⟩
end LE

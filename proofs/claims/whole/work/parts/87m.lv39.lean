theorem bkH_mk (n : Int) (κ : Int → Int) (μ : Int → Int → Int) (sz sg lt pg : Int) : bkH (mkB n κ μ sz sg lt pg) = hcn κ n.toNat := rfl
theorem kindOf_zr {n : Int} {κ : Int → Int} {μ : Int → Int → Int} {K M : NF} {C : Int32} (hw : RwW n κ μ) (h : RwC n κ μ K M C) (i : Int) (h0 : 0 ≤ i) (h1 : i < n) : F_X5_kindOf K C (zI i) = some (zI (κ i)) := by
  obtain ⟨n0, n1, hk⟩ := hw
  have e := (h.2 i h0 h1).1
  have e0 := has_z n i n0 (by omega) (by omega) (by omega)
  rw [decide_eq_true ⟨h0, h1⟩] at e0
  unfold F_X5_kindOf
  rw [h.1, e0, Option.bind_some, if_neg (by decide), ck_z (by omega) (by omega) (by omega), zI_clamp (by omega) (by omega), e]
abbrev RLo : Type := Option (Bool × Int32 × Int32 × Int32 × Int32 × Int32 × NF × NF × NF × NF × NF × NF × Int32)
abbrev KLo : Type := Bool → Int32 → Int32 → Int32 → Int32 → Int32 → NF → NF → NF → NF → NF → NF → Int32 → Int32 → Int32 → RLo
section LO
variable {n : Int} {κ : Int → Int} {μ : Int → Int → Int} {lt pg : Int} {K M : NF} {C : Int32}
theorem lo_b76 (hw : RwW n κ μ) (hr : RwC n κ μ K M C) (cs cm : NF) (ch : Int32) (KK : KLo) {Φ : Fold} {l h Q g : Int} {x : Nat × Nat} (hP : PI n κ μ lt pg Φ l h Q g) (hl : 0 < Q → l = fS Φ (Q - 1)) (hQ0 : 0 ≤ Q) (hQ : Q < 8) (hs : x.1 = 2 ∨ x.1 = 4 ∨ x.1 = 6 ∨ x.1 = 8) (hk : x.2 < 2 ^ x.1) (h0 : 0 ≤ h) (hh : h + thg x.2 x.1 x.1 ≤ hcn κ n.toNat) (x4 : Int32) (made : Bool) : ∀ (d m p : Nat) (qu th gh le pa la : Int32) (sz ce ki wo qo po : NF), p + d = x.1 → d < m → PC (plc κ μ n x p Φ) p qu th gh le pa la sz ce ki wo qo po → ∃ (qu' th' gh' le' pa' la' : Int32) (sz' ce' ki' wo' qo' po' : NF), F_X0_layOut_b76 K M C cs cm ch KK m made qu th gh le pa sz ce ki wo qo po la (zI (fT (plc κ μ n x p Φ))) x4 (zI x.1) (nI x.2) (zI ((p + 1 : Nat) : Int)) = KK made qu' th' gh' le' pa' sz' ce' ki' wo' qo' po' la' (zI (fT (plc κ μ n x x.1 Φ))) (x4 + 1) ∧ PC (plc κ μ n x x.1 Φ) x.1 qu' th' gh' le' pa' la' sz' ce' ki' wo' qo' po'
  | 0, m + 1, p, qu, th, gh, le, pa, la, sz, ce, ki, wo, qo, po, hp, _, hc => by
    have e : p = x.1 := by omega
    subst e
    have ll : zI (x.1 : Int) < zI ((x.1 + 1 : Nat) : Int) := by simp (disch := omega) only [zl_0, zl_1, zl_2, zl_3, zl_4, zl_5, zl_6, zl_7, zl_8, zl_9, zl_10, zl_11, zl_12, zl_13, zl_14, zl_15, zl_16, zl_17, zl_18, zl_19, zl_20, zl_21, zl_22, zl_23, zl_24, zl_25, zl_26, zl_27, zl_28, zl_29, zl_30, zl_31, zl_32, zl_33, zl_34, zl_35, zl_36, zl_37, zl_38, zl_39, zl_40, zl_41, zl_42, zl_43, zl_44, zl_45, zl_46, zl_47, zl_48, zl_49, zl_50, zl_51, zl_52, zl_53, zl_54, zl_55, zl_56, zl_57, zl_58, zl_59, zl_60, zl_61, zl_62, zl_63, zl_64, zl_65, zl_66, zl_80, zl_97, zl_99, zl_103, zl_107, zl_112, zl_115, zl_100, zl_180, zl_210, zl_238, zl_255, zl_256, zl_400, zl_1000, zl_1024, zl_1260, zl_2000, zl_7140, zl_7200, zl_18414, zl_65536, zl_131072, zl_9999, zl_999, zI_add, zI_sub, zI_mul, zI_neg, zI_lt, zI_le, zI_eq, zI_clamp, ck_z, ckp_z, qb_z, qb_z0, Option.bind_some]; omega
    rw [F_X0_layOut_b76, if_pos ll]
    exact ⟨_, _, _, _, _, _, _, _, _, _, _, _, rfl, hc⟩
  | d + 1, m + 1, p, qu, th, gh, le, pa, la, sz, ce, ki, wo, qo, po, hp, hm, hc => by
    have n0 := hw.1
    have n1 := hw.2.1
    have h256 : x.2 < 256 := Nat.lt_of_lt_of_le hk (show 2 ^ x.1 ≤ 2 ^ 8 from Nat.pow_le_pow_right (by omega) (by omega))
    obtain ⟨i1, i2⟩ := plc_PI hw hP hl hQ0 hQ hs h0 hh p (by omega)
    obtain ⟨j1, j2, j3, j4, j5, j6, j7⟩ := id i1
    have tb := thg_b x.2 x.1 p
    have ll : ¬ zI (x.1 : Int) < zI ((p + 1 : Nat) : Int) := by simp (disch := omega) only [zl_0, zl_1, zl_2, zl_3, zl_4, zl_5, zl_6, zl_7, zl_8, zl_9, zl_10, zl_11, zl_12, zl_13, zl_14, zl_15, zl_16, zl_17, zl_18, zl_19, zl_20, zl_21, zl_22, zl_23, zl_24, zl_25, zl_26, zl_27, zl_28, zl_29, zl_30, zl_31, zl_32, zl_33, zl_34, zl_35, zl_36, zl_37, zl_38, zl_39, zl_40, zl_41, zl_42, zl_43, zl_44, zl_45, zl_46, zl_47, zl_48, zl_49, zl_50, zl_51, zl_52, zl_53, zl_54, zl_55, zl_56, zl_57, zl_58, zl_59, zl_60, zl_61, zl_62, zl_63, zl_64, zl_65, zl_66, zl_80, zl_97, zl_99, zl_103, zl_107, zl_112, zl_115, zl_100, zl_180, zl_210, zl_238, zl_255, zl_256, zl_400, zl_1000, zl_1024, zl_1260, zl_2000, zl_7140, zl_7200, zl_18414, zl_65536, zl_131072, zl_9999, zl_999, zI_add, zI_sub, zI_mul, zI_neg, zI_lt, zI_le, zI_eq, zI_clamp, ck_z, ckp_z, qb_z, qb_z0, Option.bind_some]; omega
    have ep : zI ((p + 1 : Nat) : Int) + 1 = zI ((p + 1 + 1 : Nat) : Int) := by rw [zl_1, zI_add]; congr 1
    have eg := isGhost_z x.2 x.1 ((p + 1 : Nat) : Int) h256 (by omega) (by omega) (by omega)
    rw [F_X0_layOut_b76, if_neg ll, eg, Option.bind_some, ep]
    have lS : ((p : Nat) : Int) < fS (plc κ μ n x p Φ) (fQ (plc κ μ n x p Φ) - 1) := by rw [j6, show Q + 1 - 1 = Q by omega, i2]; omega
    by_cases c : Gh x.2 x.1 ((p + 1 : Nat) : Int)
    · have e1 : plc κ μ n x (p + 1) Φ = bG (plc κ μ n x p Φ) p := by rw [plc, if_pos c]
      obtain ⟨c1, r1, r2⟩ := addGhost_z j1 hc (by omega) lS
      rw [decide_eq_true c, if_neg (show ¬ qb true = 0 by decide), r1, Option.bind_some]
      have eT : fT (plc κ μ n x (p + 1) Φ) = fT (plc κ μ n x p Φ) := by rw [e1]; rfl
      rw [← eT]
      refine lo_b76 hw hr cs cm ch KK hP hl hQ0 hQ hs hk h0 hh x4 made d m (p + 1) _ _ _ _ _ _ _ _ _ _ _ _ (by omega) (by omega) ?_
      rw [e1]
      exact r2
    · have tt := thg_t (p := p + 1) (by omega) c
      rw [show p + 1 - 1 = p by omega] at tt
      have tm := (thg_le x.2 x.1 (show p + 1 ≤ x.1 by omega)).1
      obtain ⟨k0, k1, k2, k3⟩ := ixh_b κ n (h + thg x.2 x.1 p) n0 (by omega) (by omega)
      rw [← j2] at k0 k1 k2 k3
      have e1 : plc κ μ n x (p + 1) Φ = bLl κ μ n (plc κ μ n x p Φ) p := by rw [plc, if_neg c]
      have em : F_X5_markOf M C (zI (fT (plc κ μ n x p Φ))) 4 = some (zI (μ (fT (plc κ μ n x p Φ)) 4)) := markOf_z hw hr (fT (plc κ μ n x p Φ)) 4 k0 k1 (by omega) (by omega)
      obtain ⟨c1, r1, r2⟩ := addLeaf_z j1 hc (κ (fT (plc κ μ n x p Φ))) (μ (fT (plc κ μ n x p Φ)) 4) (by omega) lS (by omega)
      have pw := PW_bL (w := μ (fT (plc κ μ n x p Φ)) 4) j1 (by omega) lS k2
      have et : fT (bL (plc κ μ n x p Φ) p (κ (fT (plc κ μ n x p Φ))) (μ (fT (plc κ μ n x p Φ)) 4)) = fT (plc κ μ n x p Φ) + 1 := rfl
      obtain ⟨c2, q1, q2, q3, q4⟩ := addLoose_z κ n (fT (plc κ μ n x p Φ) + 1) n1 K (fun i i0 i1 => (hr.2 i i0 i1).1) (fun i i0 i1 => ⟨(hw.2.2 i i0 i1).1, (hw.2.2 i i0 i1).2.1⟩) (by omega) (by omega) (by rw [et]; omega) pw r2
      have e3 : zI (fT (plc κ μ n x p Φ)) + 1 = zI (fT (plc κ μ n x p Φ) + 1) := by rw [zl_1, zI_add]
      have q1' : F_X0_addLoose c1.1 c1.2.2.1 K C (zI (fT (plc κ μ n x p Φ) + 1)) = some c2 := by rw [hr.1]; exact q1
      rw [decide_eq_false c, if_pos (show qb false = 0 from rfl), kindOf_zr hw hr _ k0 k1, Option.bind_some, em, Option.bind_some, r1, Option.bind_some, e3, q1', Option.bind_some]
      have eT : fT (plc κ μ n x (p + 1) Φ) = lend κ n (n - (fT (plc κ μ n x p Φ) + 1)).toNat (fT (plc κ μ n x p Φ) + 1) := by
        rw [e1]
        unfold bLl
        rw [lr_T, et]
        omega
      rw [q2, ← eT]
      refine lo_b76 hw hr cs cm ch KK hP hl hQ0 hQ hs hk h0 hh x4 made d m (p + 1) _ _ _ _ _ _ _ _ _ _ _ _ (by omega) (by omega) ?_
      rw [e1]
      exact q4
theorem lo_b33 (hw : RwW n κ μ) (hr : RwC n κ μ K M C) {Λ : Book} (hH : bkH Λ = hcn κ n.toNat) (cs cm : NF) (made : Bool) : ∀ (ls : List (Nat × Nat)) (m q : Nat) (t half last : Int) (Φ : Fold) (l g : Int) (qu th gh le pa la : Int32) (sz ce ki wo qo po : NF), ls.length < m → q + ls.length ≤ 8 → 0 ≤ t → Way Λ ls q t half last → ChI cs cm q ls → PI n κ μ lt pg Φ l t q g → (0 < q → l = fS Φ ((q : Int) - 1)) → PC Φ l qu th gh le pa la sz ce ki wo qo po → ∃ (qu' th' gh' le' pa' la' : Int32) (sz' ce' ki' wo' qo' po' : NF) (l' : Int), F_X0_layOut_b33 K M C cs cm (zI ((q + ls.length : Nat) : Int)) m made qu th gh le pa sz ce ki wo qo po la (zI (fT Φ)) (zI q) = some (made, qu', th', gh', le', pa', sz', ce', ki', wo', qo', po', la') ∧ PC (lyt κ μ n ls Φ) l' qu' th' gh' le' pa' la' sz' ce' ki' wo' qo' po' ∧ PI n κ μ lt pg (lyt κ μ n ls Φ) l' (bkH Λ) ((q + ls.length : Nat) : Int) (g + gsm ls) ∧ (0 < q + ls.length → l' = fS (lyt κ μ n ls Φ) (((q + ls.length : Nat) : Int) - 1))
  | [], m + 1, q, t, half, last, Φ, l, g, qu, th, gh, le, pa, la, sz, ce, ki, wo, qo, po, _, hq, t0, hW, _, hP, hl, hc => by
    have e0 : q + ([] : List (Nat × Nat)).length = q := rfl
    rw [e0] at hq ⊢
    have ll : zI ((q : Nat) : Int) ≤ zI (q : Int) := by simp (disch := omega) only [zl_0, zl_1, zl_2, zl_3, zl_4, zl_5, zl_6, zl_7, zl_8, zl_9, zl_10, zl_11, zl_12, zl_13, zl_14, zl_15, zl_16, zl_17, zl_18, zl_19, zl_20, zl_21, zl_22, zl_23, zl_24, zl_25, zl_26, zl_27, zl_28, zl_29, zl_30, zl_31, zl_32, zl_33, zl_34, zl_35, zl_36, zl_37, zl_38, zl_39, zl_40, zl_41, zl_42, zl_43, zl_44, zl_45, zl_46, zl_47, zl_48, zl_49, zl_50, zl_51, zl_52, zl_53, zl_54, zl_55, zl_56, zl_57, zl_58, zl_59, zl_60, zl_61, zl_62, zl_63, zl_64, zl_65, zl_66, zl_80, zl_97, zl_99, zl_103, zl_107, zl_112, zl_115, zl_100, zl_180, zl_210, zl_238, zl_255, zl_256, zl_400, zl_1000, zl_1024, zl_1260, zl_2000, zl_7140, zl_7200, zl_18414, zl_65536, zl_131072, zl_9999, zl_999, zI_add, zI_sub, zI_mul, zI_neg, zI_lt, zI_le, zI_eq, zI_clamp, ck_z, ckp_z, qb_z, qb_z0, Option.bind_some]; omega
    rw [F_X0_layOut_b33, if_pos ll]
    have e : t = bkH Λ := hW
    refine ⟨qu, th, gh, le, pa, la, sz, ce, ki, wo, qo, po, l, rfl, hc, ?_, hl⟩
    rw [← e]
    show PI n κ μ lt pg Φ l t ((q : Nat) : Int) (g + 0)
    rw [Int.add_zero]
    exact hP
  | x :: ls, m + 1, q, t, half, last, Φ, l, g, qu, th, gh, le, pa, la, sz, ce, ki, wo, qo, po, hm, hq, t0, hW, hC, hP, hl, hc => by
    obtain ⟨w1, w2, w3⟩ := hW
    obtain ⟨c1, c2, c3⟩ := hC
    rw [List.length_cons] at hm hq
    obtain ⟨b1, b2, _⟩ := lyM_mem.mp w2
    have xb := xt_b w2
    have hx : t + thg x.2 x.1 x.1 ≤ hcn κ n.toNat := by rw [← hH]; exact xb.2.1
    have ll : ¬ zI ((q + (x :: ls).length : Nat) : Int) ≤ zI (q : Int) := by
      rw [List.length_cons]
      simp (disch := omega) only [zl_0, zl_1, zl_2, zl_3, zl_4, zl_5, zl_6, zl_7, zl_8, zl_9, zl_10, zl_11, zl_12, zl_13, zl_14, zl_15, zl_16, zl_17, zl_18, zl_19, zl_20, zl_21, zl_22, zl_23, zl_24, zl_25, zl_26, zl_27, zl_28, zl_29, zl_30, zl_31, zl_32, zl_33, zl_34, zl_35, zl_36, zl_37, zl_38, zl_39, zl_40, zl_41, zl_42, zl_43, zl_44, zl_45, zl_46, zl_47, zl_48, zl_49, zl_50, zl_51, zl_52, zl_53, zl_54, zl_55, zl_56, zl_57, zl_58, zl_59, zl_60, zl_61, zl_62, zl_63, zl_64, zl_65, zl_66, zl_80, zl_97, zl_99, zl_103, zl_107, zl_112, zl_115, zl_100, zl_180, zl_210, zl_238, zl_255, zl_256, zl_400, zl_1000, zl_1024, zl_1260, zl_2000, zl_7140, zl_7200, zl_18414, zl_65536, zl_131072, zl_9999, zl_999, zI_add, zI_sub, zI_mul, zI_neg, zI_lt, zI_le, zI_eq, zI_clamp, ck_z, ckp_z, qb_z, qb_z0, Option.bind_some]; omega
    have l8 : ¬ 8 ≤ zI (q : Int) := by simp (disch := omega) only [zl_0, zl_1, zl_2, zl_3, zl_4, zl_5, zl_6, zl_7, zl_8, zl_9, zl_10, zl_11, zl_12, zl_13, zl_14, zl_15, zl_16, zl_17, zl_18, zl_19, zl_20, zl_21, zl_22, zl_23, zl_24, zl_25, zl_26, zl_27, zl_28, zl_29, zl_30, zl_31, zl_32, zl_33, zl_34, zl_35, zl_36, zl_37, zl_38, zl_39, zl_40, zl_41, zl_42, zl_43, zl_44, zl_45, zl_46, zl_47, zl_48, zl_49, zl_50, zl_51, zl_52, zl_53, zl_54, zl_55, zl_56, zl_57, zl_58, zl_59, zl_60, zl_61, zl_62, zl_63, zl_64, zl_65, zl_66, zl_80, zl_97, zl_99, zl_103, zl_107, zl_112, zl_115, zl_100, zl_180, zl_210, zl_238, zl_255, zl_256, zl_400, zl_1000, zl_1024, zl_1260, zl_2000, zl_7140, zl_7200, zl_18414, zl_65536, zl_131072, zl_9999, zl_999, zI_add, zI_sub, zI_mul, zI_neg, zI_lt, zI_le, zI_eq, zI_clamp, ck_z, ckp_z, qb_z, qb_z0, Option.bind_some]; omega
    have cq {α : Type} (o : Option α) : ck (inb (zI (q : Int)) 8) o = o := ck_z (by omega) (by omega) (by omega)
    have clq : (zI (q : Int)).toNatClampNeg = q := by rw [zI_clamp (by omega) (by omega)]; omega
    obtain ⟨KK, hKK⟩ : ∃ KK : KLo, KK = fun f_made f_quires f_things f_ghosts f_letter f_page f_sizes f_cells f_kinds f_words f_quireOf f_placeOf f_laid x3 x4 => F_X0_layOut_b33 K M C cs cm (zI ((q + (x :: ls).length : Nat) : Int)) m f_made f_quires f_things f_ghosts f_letter f_page f_sizes f_cells f_kinds f_words f_quireOf f_placeOf f_laid x3 x4 := ⟨_, rfl⟩
    have hl' : 0 < fQ Φ → l = fS Φ (fQ Φ - 1) := by rw [hP.2.2.2.2.2.1]; intro w; exact hl (by omega)
    obtain ⟨a1, r1, r2⟩ := addQuire_z hP.1 hc (x.1 : Int) hl' (by rw [hP.2.2.2.2.2.1]; omega)
    obtain ⟨qu', th', gh', le', pa', la', sz', ce', ki', wo', qo', po', q1, q2⟩ := lo_b76 (M := M) hw hr cs cm (zI ((q + (x :: ls).length : Nat) : Int)) KK hP (by intro w; exact hl (by omega)) (by omega) (by omega) b1 b2 t0 hx (zI q) made x.1 FU 0 _ _ _ _ _ _ _ _ _ _ _ _ (by omega) (by unfold FU; omega) r2
    obtain ⟨p1, p2⟩ := plc_PI hw hP (by intro w; exact hl (by omega)) (by omega) (by omega) b1 t0 hx x.1 (Nat.le_refl _)
    have eg : g + (((x.1 : Nat) : Int) - thg x.2 x.1 x.1) = g + xg x := rfl
    have eQ : (q : Int) + 1 = ((q + 1 : Nat) : Int) := by omega
    rw [eg, eQ] at p1
    obtain ⟨qu2, th2, gh2, le2, pa2, la2, sz2, ce2, ki2, wo2, qo2, po2, l2, s1, s2, s3, s4⟩ := lo_b33 hw hr hH cs cm made ls m (q + 1) (xt t x) (xh half x) (enl x.2) (plc κ μ n x x.1 Φ) x.1 (g + xg x) qu' th' gh' le' pa' la' sz' ce' ki' wo' qo' po' (by omega) (by omega) (by omega) w3 c3 p1 (fun _ => by rw [show ((q + 1 : Nat) : Int) - 1 = (q : Int) by omega, p2]) q2
    have elen : q + 1 + ls.length = q + (x :: ls).length := by rw [List.length_cons]; omega
    rw [elen] at s1 s3 s4
    refine ⟨qu2, th2, gh2, le2, pa2, la2, sz2, ce2, ki2, wo2, qo2, po2, l2, ?_, s2, ?_, s4⟩
    · have eq1 : zI (q : Int) + 1 = zI ((q + 1 : Nat) : Int) := by rw [zl_1, zI_add]; congr 1
      have eT : fT (plc κ μ n x 0 Φ) = fT Φ := rfl
      rw [eT, eq1] at q1
      have q1' : F_X0_layOut_b76 K M C cs cm (zI ((q + (x :: ls).length : Nat) : Int)) KK FU made a1.1 th gh le pa a1.2.1 ce ki wo qo po a1.2.2 (zI (fT Φ)) (zI q) (zI x.1) (nI x.2) 1 = KK made qu' th' gh' le' pa' sz' ce' ki' wo' qo' po' la' (zI (fT (plc κ μ n x x.1 Φ))) (zI ((q + 1 : Nat) : Int)) := q1
      rw [F_X0_layOut_b33, if_neg ll, if_neg l8, cq, cq, clq, c1, c2, r1, Option.bind_some, ← hKK, q1', hKK]
      exact s1
    · have : g + gsm (x :: ls) = g + xg x + gsm ls := by rw [gsm]; omega
      rw [this]
      exact s3
theorem layOut_z (hw : RwW n κ μ) (hr : RwC n κ μ K M C) {Λ : Book} (hH : bkH Λ = hcn κ n.toNat) (R : NF) (e4 : R 4 = zI lt) (e5 : R 5 = zI pg) (cs cm : NF) (ls : List (Nat × Nat)) (hlen : ls.length ≤ 8) (hW : Way Λ ls 0 0 0 0) (hC : ChI cs cm 0 ls) (made : Bool) (qu th gh le pa la : Int32) (sz ce ki wo qo po : NF) : ∃ (qu' th' gh' le' pa' la' : Int32) (sz' ce' ki' wo' qo' po' : NF) (l' : Int), F_X0_layOut made qu th gh le pa sz ce ki wo qo po la K M R C cs cm (zI (ls.length : Nat)) = some (true, qu', th', gh', le', pa', sz', ce', ki', wo', qo', po', la') ∧ PC (lyt κ μ n ls (lr κ n n.toNat 0 (b0 lt pg))) l' qu' th' gh' le' pa' la' sz' ce' ki' wo' qo' po' ∧ PI n κ μ lt pg (lyt κ μ n ls (lr κ n n.toNat 0 (b0 lt pg))) l' (bkH Λ) (ls.length : Nat) (gsm ls) ∧ (0 < ls.length → l' = fS (lyt κ μ n ls (lr κ n n.toNat 0 (b0 lt pg))) (((ls.length : Nat) : Int) - 1)) := by
  have n0 := hw.1
  have n1 := hw.2.1
  have pc0 : PC (b0 lt pg) 0 0 0 0 (zI lt) (zI pg) 0 sz ce ki wo qo po := PC_b0 lt pg
  obtain ⟨c1, r1, r2, r3, r4⟩ := addLoose_z κ n 0 n1 K (fun i i0 i1 => (hr.2 i i0 i1).1) (fun i i0 i1 => ⟨(hw.2.2 i i0 i1).1, (hw.2.2 i i0 i1).2.1⟩) (by omega) n0 (show fT (b0 lt pg) < 900 by show (0 : Int) < 900; omega) (PW_b0 lt pg) pc0
  have ed : (n - 0).toNat = n.toNat := by omega
  rw [ed] at r2 r3 r4
  obtain ⟨o1, o2, o3⟩ := lr_o κ n n.toNat 0 (b0 lt pg)
  have eT : fT (lr κ n n.toNat 0 (b0 lt pg)) = lend κ n n.toNat 0 := by
    rw [lr_T]
    show (0 : Int) + (lend κ n n.toNat 0 - 0) = _
    omega
  have hl0 := lend_x κ n 0 (by omega) n0
  rw [ed] at hl0
  have p0 : PI n κ μ lt pg (lr κ n n.toNat 0 (b0 lt pg)) 0 0 ((0 : Nat) : Int) 0 := by
    refine ⟨r3, by rw [eT, hl0]; rfl, fun i i0 i1 => ?_, o1 3 0 0 (by omega) (by omega), o1 4 0 0 (by omega) (by omega), o1 0 0 0 (by omega) (by omega), o1 2 0 0 (by omega) (by omega)⟩
    rw [eT] at i1
    have ez : fT (b0 lt pg) = 0 := rfl
    have := o3 i (by rw [ez]; exact i0) (by rw [ez]; omega)
    rw [ez] at this
    rw [this, show (0 : Int) + (i - 0) = i by omega]
    exact ⟨rfl, fun w => absurd w ((lend_b κ n n.toNat 0).2.2 i i0 i1).1⟩
  obtain ⟨qu', th', gh', le', pa', la', sz', ce', ki', wo', qo', po', l', s1, s2, s3, s4⟩ := lo_b33 hw hr hH cs cm true ls FU 0 0 0 0 (lr κ n n.toNat 0 (b0 lt pg)) 0 0 _ _ _ _ _ _ _ _ _ _ _ _ (by unfold FU; omega) (by omega) (by omega) hW hC p0 (fun w => by omega) r4
  rw [Nat.zero_add] at s1 s3 s4
  rw [Int.zero_add] at s3
  refine ⟨qu', th', gh', le', pa', la', sz', ce', ki', wo', qo', po', l', ?_, s2, s3, s4⟩
  have r1' : F_X0_addLoose 0 ki K C 0 = some c1 := by rw [hr.1]; exact r1
  have es : F_X0_start made qu th gh le pa la (zI lt) (zI pg) = some (true, 0, 0, 0, zI lt, zI pg, 0) := rfl
  unfold F_X0_layOut
  have e4' : R (4 : Int32).toNatClampNeg = zI lt := e4
  have e5' : R (5 : Int32).toNatClampNeg = zI pg := e5
  rw [e4', e5', es]
  show ck (inb 4 6) (ck (inb 5 6) ((F_X0_addLoose 0 ki K C 0).bind _)) = _
  rw [r1', Option.bind_some, r2, ← eT]
  exact s1
end LO

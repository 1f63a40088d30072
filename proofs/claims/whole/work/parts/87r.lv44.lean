section PK
variable {j : Nat} {K W M R : NF} {C : Int32} {many kk tt mm sz sg lt pg : NF}
theorem pk_core (hj : j < 6) (hr : RowR j K W M C many kk tt mm) (hu : RulR j R sz sg lt pg) (few : Bool) (k : Nat) {le nu sp he ne wa si ti : NF} {la : Int32} {ld : Int} {groups gcs bests : NF} {counts : Nat → Int64} (hV : RkV (bkC K M C R) ld (zI (bkH (bkC K M C R))) le nu sp he ne wa si ti la (zI (bkZ (bkC K M C R))) (zI (bkG (bkC K M C R))) (zI (bkL (bkC K M C R))) groups gcs counts bests) (hKn : ∃ L, la = zI L ∧ Lsp (bkC K M C R) L ∧ (0 < bkH (bkC K M C R) → Kn ld bests (nm (bkC K M C R) L 0 0 0 0))) (hk : k < WQ (bkC K M C R) 0 0 0 0) (hf : few = true → k = 0) (s1 s2 s3 s4 : Int32) (s5 s6 s7 : NF) (s8 s9 s10 s11 s12 : Int32) (cs cm : NF) (ch : Int32) (made : Bool) (fq ft fg fl fp : Int32) (fsz fce fki fwo fqo fpo : NF) (fla : Int32) {hg cn fewT : NF} {ways : Nat → Int64} (ein : NF) (hL : LvM (bkC K M C R) mm hg cn) (hT : TbW (bkC K M C R) ways fewT (fun _ _ _ _ => True)) (hh : ∀ h, 0 ≤ h → h < bkH (bkC K M C R) → hg h.toNat = zI (30 * (j : Int) + ixh (rK K) C.toInt h)) (isT mth mqu mfl mfp mso mpl mki mca : NF) : ∃ (w1 w2 w3 w4 : Int32) (w5 w6 w7 : NF) (w8 w9 w10 w11 w12 : Int32) (counts' : Nat → Int64) (bests' cs' cm' : NF) (ch' : Int32) (gq gt gg gl gp : Int32) (gsz gce gki gwo gqo gpo : NF) (gla : Int32) (e' isT2 mth2 mqu2 mfl2 mfp2 mso2 mpl2 mki2 mca2 : NF), F_X4_chooseWay (zI (bkH (bkC K M C R))) le nu sp wa si ti la (zI (bkZ (bkC K M C R))) (zI (bkG (bkC K M C R))) (zI (bkL (bkC K M C R))) s1 s2 s3 s4 s5 s6 s7 s8 s9 s10 s11 s12 (zI ld) groups gcs counts bests cs cm ch (wI k) (qb few) = some (true, w1, w2, w3, w4, w5, w6, w7, w8, w9, w10, w11, w12, counts', bests', cs', cm', ch') ∧ F_X0_layOut made fq ft fg fl fp fsz fce fki fwo fqo fpo fla K M R C cs' cm' ch' = some (true, gq, gt, gg, gl, gp, gsz, gce, gki, gwo, gqo, gpo, gla) ∧ F_X8_lays many kk mm sz sg lt pg (nI j) (zI (bkH (bkC K M C R))) hg cn ein ways fewT isT mth mqu mfl mfp mso mpl mki mca (nI j) (wI k) (qb few) = some (e', isT2, mth2, mqu2, mfl2, mfp2, mso2, mpl2, mki2, mca2) ∧ RkV (bkC K M C R) ld (zI (bkH (bkC K M C R))) le nu sp he ne wa si ti la (zI (bkZ (bkC K M C R))) (zI (bkG (bkC K M C R))) (zI (bkL (bkC K M C R))) groups gcs counts' bests' ∧ CurR true gq gt gg gl gp gsz gce gki gwo gqo gpo isT2 mth2 mqu2 mfl2 mfp2 mso2 mpl2 mki2 mca2 ∧ FrmAll isT mth mqu mfl mfp mso mpl mki mca isT2 mth2 mqu2 mfl2 mfp2 mso2 mpl2 mki2 mca2 ∧ (few = true → gg = zI (FQ (bkC K M C R) 0 0 0 0)) := by
  obtain ⟨e1, e2, e3, e4, hP, L, eL, hK, hM⟩ := hV
  obtain ⟨L', eL', hL', hKn'⟩ := hKn
  have hLL : L' = L := by
    have b := hK.2.2.1
    have h30 := hK.1.2.1
    have b1 := b.1
    have b2 := b.2.1
    have b3 := hL'.1
    have b4 := hL'.2.1
    rw [eL, zI_eq (by omega) (by omega) (by omega) (by omega)] at eL'
    exact eL'.symm
  subst hLL
  obtain ⟨hw, hc, hm⟩ := RowR_c hr
  obtain ⟨hB, hR, _, _, u4, u5⟩ := RulR_c (K := K) (M := M) (C := C) hj hu hw
  have hH : bkH (bkC K M C R) = hcn (rK K) C.toInt.toNat := rfl
  have hz : ¬ (0 = 0 ∧ bkH (bkC K M C R) = 0) := by
    intro w
    unfold WQ at hk
    rw [if_pos w] at hk
    omega
  have hk8 : k < Wn (bkC K M C R) 8 0 0 0 0 := by
    unfold WQ at hk
    rw [if_neg hz] at hk
    exact hk
  obtain ⟨w1, w2, w3, w4, w5, w6, w7, w8, w9, w10, w11, w12, c2, b2, cs2, cm2, r1, r2, r3⟩ := chooseWay_z hK few k hk hf s1 s2 s3 s4 s5 s6 s7 s8 s9 s10 s11 s12 counts bests cs cm ch hM hKn'
  obtain ⟨way, len, gs⟩ := chs_way few 8 0 0 0 0 k (by omega) hB.1 hk8 hf
  obtain ⟨gq, gt, gg, gl, gp, gla, gsz, gce, gki, gwo, gqo, gpo, l', q1, q2, q3, q4⟩ := layOut_z (lt := bkL (bkC K M C R)) (pg := bkO (bkC K M C R)) hw hc hH R u4 u5 cs2 cm2 (chs (bkC K M C R) few 8 0 0 0 0 k) len way r3 made fq ft fg fl fp fla fsz fce fki fwo fqo fpo
  obtain ⟨e', so2, pl2, ki2, ca2, l2, t1, t2, t3, t4, t5, t6, t7, t8⟩ := lays_z (lt := bkL (bkC K M C R)) (pg := bkO (bkC K M C R)) hB hw hH hm hL hR hT hh hR.2.2.2.2.1 hR.2.2.2.2.2 few k hk8 hf ein isT mth mqu mfl mfp mso mpl mki mca
  obtain ⟨cu, eg⟩ := cur_z (isT := isT) (mth := mth) (mqu := mqu) (fl := mfl) (fp := mfp) hw ⟨hB.2.2.2.2.2.2.1, hB.2.2.2.2.2.2.2.1⟩ ⟨hB.2.2.2.2.2.2.2.2.1, hB.2.2.2.2.2.2.2.2.2.1⟩ len rfl (by rw [hH]; exact Int.le_refl _) q3 q4 q2 t2 t3 t4
  rw [eL]
  refine ⟨w1, w2, w3, w4, w5, w6, w7, w8, w9, w10, w11, w12, c2, b2, cs2, cm2, _, gq, gt, gg, gl, gp, gsz, gce, gki, gwo, gqo, gpo, gla, e', _, _, _, _, _, so2, pl2, ki2, ca2, r1, q1, ?_, ⟨rfl, rfl, rfl, rfl, eL ▸ hP, L', rfl, hK, r2⟩, cu, ⟨fun i hi => upd_ne _ _ (by omega), fun i hi => upd_ne _ _ (by omega), fun i hi => upd_ne _ _ (by omega), fun i hi => upd_ne _ _ (by omega), fun i hi => upd_ne _ _ (by omega), t5, t6, t7, t8⟩, fun e => ?_⟩
  · rw [nI_zI]
    exact t1
  · rw [eg, gs e]
    unfold FQ
    rw [if_neg hz]
    rfl
theorem op_pick_same (hj : j < 6) (hr : RowR j K W M C many kk tt mm) (hu : RulR j R sz sg lt pg) (chg : Bool) (l0 : Int32) (l1 l2 l3 l4 l5 l6 l7 l8 : NF) (l9 l10 l11 l12 : Int32) (y1 y2 y3 y4 : Int32) (y5 y6 y7 : NF) (y8 y9 y10 y11 y12 : Int32) (ld : Int) (groups gcs tally : NF) (counts : Nat → Int64) (bests cs cm : NF) (ch : Int32) (made : Bool) (fq ft fg fl fp : Int32) (fsz fce fki fwo fqo fpo : NF) (fla : Int32) (p0 : Int32) (p1 : Int64) (hs : RkS ld bests) (hld : ld < 1000) (hV : chg = false → RkV (bkC K M C R) ld l0 l1 l2 l3 l4 l5 l6 l7 l8 l9 l10 l11 l12 groups gcs counts bests) (told a0 a1 : Int32) (hg0 cn0 ein met0 : NF) (ways0 : Nat → Int64) (few0 isT mth mqu mfl mfp mso mpl mki mca : NF) (hC : CurR made fq ft fg fl fp fsz fce fki fwo fqo fpo isT mth mqu mfl mfp mso mpl mki mca) : ∃ (b : Bool) (le nu sp he ne wa si ti : NF) (la : Int32) (w1 w2 w3 w4 : Int32) (w5 w6 w7 : NF) (w8 w9 w10 w11 w12 : Int32) (ld' : Int) (groups' gcs' tally' : NF) (counts' : Nat → Int64) (bests' cs' cm' : NF) (ch' : Int32) (made' : Bool) (gq gt gg gl gp : Int32) (gsz gce gki gwo gqo gpo : NF) (gla : Int32) (a2 a3 : Int32) (hg cn e' met' : NF) (ways' : Nat → Int64) (few' isT2 mth2 mqu2 mfl2 mfp2 mso2 mpl2 mki2 mca2 : NF), F_X7_pick_same K M R C chg l0 l1 l2 l3 l4 l5 l6 l7 l8 l9 l10 l11 l12 y1 y2 y3 y4 y5 y6 y7 y8 y9 y10 y11 y12 (zI ld) groups gcs tally counts bests cs cm ch made fq ft fg fl fp fsz fce fki fwo fqo fpo fla p0 p1 = some (b, false, zI (bkH (bkC K M C R)), le, nu, sp, he, ne, wa, si, ti, la, zI (bkZ (bkC K M C R)), zI (bkG (bkC K M C R)), zI (bkL (bkC K M C R)), w1, w2, w3, w4, w5, w6, w7, w8, w9, w10, w11, w12, zI ld', groups', gcs', tally', counts', bests', cs', cm', ch', made', gq, gt, gg, gl, gp, gsz, gce, gki, gwo, gqo, gpo, gla) ∧ F_X8_pick told many kk mm sz sg lt pg a0 a1 hg0 cn0 ein met0 ways0 few0 isT mth mqu mfl mfp mso mpl mki mca (nI j) p1 = some (b, 0, a2, a3, hg, cn, e', met', ways', few', isT2, mth2, mqu2, mfl2, mfp2, mso2, mpl2, mki2, mca2) ∧ ld ≤ ld' ∧ ld' ≤ ld + 1 ∧ RkV (bkC K M C R) ld' (zI (bkH (bkC K M C R))) le nu sp he ne wa si ti la (zI (bkZ (bkC K M C R))) (zI (bkG (bkC K M C R))) (zI (bkL (bkC K M C R))) groups' gcs' counts' bests' ∧ CurR made' gq gt gg gl gp gsz gce gki gwo gqo gpo isT2 mth2 mqu2 mfl2 mfp2 mso2 mpl2 mki2 mca2 ∧ FrmAll isT mth mqu mfl mfp mso mpl mki mca isT2 mth2 mqu2 mfl2 mfp2 mso2 mpl2 mki2 mca2 := by
  obtain ⟨le, nu, sp, he, ne, wa, si, ti, la, z1, z2, z3, z4, z5, z6, z7, z8, z9, z10, z11, z12, ld', g1, c1, ta1, q1, q2, q3, q4⟩ := rdy_same hj hr hu chg l0 l1 l2 l3 l4 l5 l6 l7 l8 l9 l10 l11 l12 y1 y2 y3 y4 y5 y6 y7 y8 y9 y10 y11 y12 ld groups gcs tally counts bests hs hld hV
  by_cases cn1 : p1.toInt < 0
  · refine ⟨false, le, nu, sp, he, ne, wa, si, ti, la, z1, z2, z3, z4, z5, z6, z7, z8, z9, z10, z11, z12, ld', g1, c1, ta1, counts, bests, cs, cm, ch, made, fq, ft, fg, fl, fp, fsz, fce, fki, fwo, fqo, fpo, fla, a0, a1, hg0, cn0, ein, met0, ways0, few0, isT, mth, mqu, mfl, mfp, mso, mpl, mki, mca, ?_, ?_, q2, q3, q4, hC, FrmAll_r⟩
    · unfold F_X7_pick_same
      rw [q1, Option.bind_some, if_pos (lg_n.1.mpr cn1)]
    · unfold F_X8_pick
      rw [isRow_eq j hj, Option.bind_some, if_neg (show ¬ qb true = 0 by decide), if_neg (fun w => by have := lg_n.2.mp w; omega)]
  obtain ⟨k, k9, rfl⟩ := wI_of (p := p1) (by omega)
  obtain ⟨counts1, bests1, r1, r2, r3⟩ := RkV_tot q4
  obtain ⟨hg, cn, e', met', ways', few', g_1, g_2, g_3, g_4, g_5⟩ := go_zH hj hr hu a0 a1 hg0 cn0 ein met0 ways0 few0
  have wl : WQ (bkC K M C R) 0 0 0 0 < 9223372036854775808 := by
    unfold WQ
    split
    · omega
    · exact Wn_lt _ _ (by omega) _ _ _ _
  have w0 : ways' (0 : Int32).toNatClampNeg = wI (WQ (bkC K M C R) 0 0 0 0) := (TbW_0 g_4).1
  have f0 : few' (0 : Int32).toNatClampNeg = zI (FQ (bkC K M C R) 0 0 0 0) := (TbW_0 g_4).2
  have c0 {α : Type} (o : Option α) : ck (inb 0 18414) o = o := rfl
  have ng : ¬ lg_cmp (wI k) 0 < 0 := fun w => cn1 (lg_n.1.mp w)
  have pg0 : 0 ≤ lg_cmp (wI k) 0 := lg_n.2.mpr (by omega)
  by_cases ck1 : k < WQ (bkC K M C R) 0 0 0 0
  · obtain ⟨w1, w2, w3, w4, w5, w6, w7, w8, w9, w10, w11, w12, counts', bests', cs', cm', ch', gq, gt, gg, gl, gp, gsz, gce, gki, gwo, gqo, gpo, gla, e2, isT2, mth2, mqu2, mfl2, mfp2, mso2, mpl2, mki2, mca2, t1, t2, t3, t4, t5, t6, t7⟩ := pk_core hj hr hu false k r2 r3 ck1 (fun w => by cases w) z1 z2 z3 z4 z5 z6 z7 z8 z9 z10 z11 z12 cs cm ch made fq ft fg fl fp fsz fce fki fwo fqo fpo fla e' g_2 g_4 g_5 isT mth mqu mfl mfp mso mpl mki mca
    refine ⟨true, le, nu, sp, he, ne, wa, si, ti, la, w1, w2, w3, w4, w5, w6, w7, w8, w9, w10, w11, w12, ld', g1, c1, ta1, counts', bests', cs', cm', ch', true, gq, gt, gg, gl, gp, gsz, gce, gki, gwo, gqo, gpo, gla, nI j, zI (bkH (bkC K M C R)), hg, cn, e2, met', ways', few', isT2, mth2, mqu2, mfl2, mfp2, mso2, mpl2, mki2, mca2, ?_, ?_, q2, q3, t4, t5, t6⟩
    · unfold F_X7_pick_same
      rw [q1, Option.bind_some, if_neg ng]
      show (F_X4_total (zI (bkH (bkC K M C R))) le ti la (zI (bkL (bkC K M C R))) (zI ld') g1 c1 counts bests).bind _ = _
      rw [r1, Option.bind_some]
      show (if 0 ≤ lg_cmp (wI k) (wI (WQ (bkC K M C R) 0 0 0 0)) then _ else (F_X4_chooseWay (zI (bkH (bkC K M C R))) le nu sp wa si ti la (zI (bkZ (bkC K M C R))) (zI (bkG (bkC K M C R))) (zI (bkL (bkC K M C R))) z1 z2 z3 z4 z5 z6 z7 z8 z9 z10 z11 z12 (zI ld') g1 c1 counts1 bests1 cs cm ch (wI k) (qb false)).bind _) = _
      rw [if_neg (fun w => by have := (lg_ge0 k9 wl).mp w; omega), t1, Option.bind_some, if_neg (show ¬ qb true = 0 by decide)]
      show (F_X0_layOut made fq ft fg fl fp fsz fce fki fwo fqo fpo fla K M R C cs' cm' ch').bind _ = _
      rw [t2, Option.bind_some]
    · unfold F_X8_pick
      rw [isRow_eq j hj, Option.bind_some, if_neg (show ¬ qb true = 0 by decide), if_pos pg0, g_1, Option.bind_some, c0]
      show (if lg_cmp (wI k) (ways' (0 : Int32).toNatClampNeg) < 0 then (F_X8_lays many kk mm sz sg lt pg (nI j) (zI (bkH (bkC K M C R))) hg cn e' ways' few' isT mth mqu mfl mfp mso mpl mki mca (nI j) (wI k) (qb false)).bind _ else _) = _
      rw [w0, if_pos ((lg_lt0 k9 wl).mpr ck1), t3, Option.bind_some]
  · refine ⟨false, le, nu, sp, he, ne, wa, si, ti, la, z1, z2, z3, z4, z5, z6, z7, z8, z9, z10, z11, z12, ld', g1, c1, ta1, counts1, bests1, cs, cm, ch, made, fq, ft, fg, fl, fp, fsz, fce, fki, fwo, fqo, fpo, fla, nI j, zI (bkH (bkC K M C R)), hg, cn, e', met', ways', few', isT, mth, mqu, mfl, mfp, mso, mpl, mki, mca, ?_, ?_, q2, q3, r2, hC, FrmAll_r⟩
    · unfold F_X7_pick_same
      rw [q1, Option.bind_some, if_neg ng]
      show (F_X4_total (zI (bkH (bkC K M C R))) le ti la (zI (bkL (bkC K M C R))) (zI ld') g1 c1 counts bests).bind _ = _
      rw [r1, Option.bind_some]
      show (if 0 ≤ lg_cmp (wI k) (wI (WQ (bkC K M C R) 0 0 0 0)) then _ else _) = _
      rw [if_pos ((lg_ge0 k9 wl).mpr (by omega))]
    · unfold F_X8_pick
      rw [isRow_eq j hj, Option.bind_some, if_neg (show ¬ qb true = 0 by decide), if_pos pg0, g_1, Option.bind_some, c0]
      show (if lg_cmp (wI k) (ways' (0 : Int32).toNatClampNeg) < 0 then _ else _) = _
      rw [w0, if_neg (fun w => ck1 ((lg_lt0 k9 wl).mp w))]
theorem op_fewest_same (hj : j < 6) (hr : RowR j K W M C many kk tt mm) (hu : RulR j R sz sg lt pg) (chg : Bool) (l0 : Int32) (l1 l2 l3 l4 l5 l6 l7 l8 : NF) (l9 l10 l11 l12 : Int32) (y1 y2 y3 y4 : Int32) (y5 y6 y7 : NF) (y8 y9 y10 y11 y12 : Int32) (ld : Int) (groups gcs tally : NF) (counts : Nat → Int64) (bests cs cm : NF) (ch : Int32) (made : Bool) (fq ft fg fl fp : Int32) (fsz fce fki fwo fqo fpo : NF) (fla : Int32) (p0 : Int32) (hs : RkS ld bests) (hld : ld < 1000) (hV : chg = false → RkV (bkC K M C R) ld l0 l1 l2 l3 l4 l5 l6 l7 l8 l9 l10 l11 l12 groups gcs counts bests) (told a0 a1 : Int32) (hg0 cn0 ein met0 : NF) (ways0 : Nat → Int64) (few0 isT mth mqu mfl mfp mso mpl mki mca : NF) (hC : CurR made fq ft fg fl fp fsz fce fki fwo fqo fpo isT mth mqu mfl mfp mso mpl mki mca) : ∃ (b : Int32) (le nu sp he ne wa si ti : NF) (la : Int32) (w1 w2 w3 w4 : Int32) (w5 w6 w7 : NF) (w8 w9 w10 w11 w12 : Int32) (ld' : Int) (groups' gcs' tally' : NF) (counts' : Nat → Int64) (bests' cs' cm' : NF) (ch' : Int32) (made' : Bool) (gq gt gg gl gp : Int32) (gsz gce gki gwo gqo gpo : NF) (gla : Int32) (a2 a3 : Int32) (hg cn e' met' : NF) (ways' : Nat → Int64) (few' isT2 mth2 mqu2 mfl2 mfp2 mso2 mpl2 mki2 mca2 : NF), F_X7_fewest_same K M R C chg l0 l1 l2 l3 l4 l5 l6 l7 l8 l9 l10 l11 l12 y1 y2 y3 y4 y5 y6 y7 y8 y9 y10 y11 y12 (zI ld) groups gcs tally counts bests cs cm ch made fq ft fg fl fp fsz fce fki fwo fqo fpo fla p0 = some (b, false, zI (bkH (bkC K M C R)), le, nu, sp, he, ne, wa, si, ti, la, zI (bkZ (bkC K M C R)), zI (bkG (bkC K M C R)), zI (bkL (bkC K M C R)), w1, w2, w3, w4, w5, w6, w7, w8, w9, w10, w11, w12, zI ld', groups', gcs', tally', counts', bests', cs', cm', ch', made', gq, gt, gg, gl, gp, gsz, gce, gki, gwo, gqo, gpo, gla) ∧ F_X8_fewest told many kk mm sz sg lt pg a0 a1 hg0 cn0 ein met0 ways0 few0 isT mth mqu mfl mfp mso mpl mki mca (nI j) = some (b, 0, a2, a3, hg, cn, e', met', ways', few', isT2, mth2, mqu2, mfl2, mfp2, mso2, mpl2, mki2, mca2) ∧ ld ≤ ld' ∧ ld' ≤ ld + 1 ∧ RkV (bkC K M C R) ld' (zI (bkH (bkC K M C R))) le nu sp he ne wa si ti la (zI (bkZ (bkC K M C R))) (zI (bkG (bkC K M C R))) (zI (bkL (bkC K M C R))) groups' gcs' counts' bests' ∧ CurR made' gq gt gg gl gp gsz gce gki gwo gqo gpo isT2 mth2 mqu2 mfl2 mfp2 mso2 mpl2 mki2 mca2 ∧ FrmAll isT mth mqu mfl mfp mso mpl mki mca isT2 mth2 mqu2 mfl2 mfp2 mso2 mpl2 mki2 mca2 := by
  obtain ⟨le, nu, sp, he, ne, wa, si, ti, la, z1, z2, z3, z4, z5, z6, z7, z8, z9, z10, z11, z12, ld', g1, c1, ta1, q1, q2, q3, q4⟩ := rdy_same hj hr hu chg l0 l1 l2 l3 l4 l5 l6 l7 l8 l9 l10 l11 l12 y1 y2 y3 y4 y5 y6 y7 y8 y9 y10 y11 y12 ld groups gcs tally counts bests hs hld hV
  obtain ⟨counts1, bests1, r1, r2, r3⟩ := RkV_tot q4
  obtain ⟨hg, cn, e', met', ways', few', g_1, g_2, g_3, g_4, g_5⟩ := go_zH hj hr hu a0 a1 hg0 cn0 ein met0 ways0 few0
  have wl : WQ (bkC K M C R) 0 0 0 0 < 9223372036854775808 := by
    unfold WQ
    split
    · omega
    · exact Wn_lt _ _ (by omega) _ _ _ _
  have w0 : ways' (0 : Int32).toNatClampNeg = wI (WQ (bkC K M C R) 0 0 0 0) := (TbW_0 g_4).1
  have f0 : few' (0 : Int32).toNatClampNeg = zI (FQ (bkC K M C R) 0 0 0 0) := (TbW_0 g_4).2
  have c0 {α : Type} (o : Option α) : ck (inb 0 18414) o = o := rfl
  by_cases ck1 : 0 < WQ (bkC K M C R) 0 0 0 0
  · obtain ⟨w1, w2, w3, w4, w5, w6, w7, w8, w9, w10, w11, w12, counts', bests', cs', cm', ch', gq, gt, gg, gl, gp, gsz, gce, gki, gwo, gqo, gpo, gla, e2, isT2, mth2, mqu2, mfl2, mfp2, mso2, mpl2, mki2, mca2, t1, t2, t3, t4, t5, t6, t7⟩ := pk_core hj hr hu true 0 r2 r3 ck1 (fun _ => rfl) z1 z2 z3 z4 z5 z6 z7 z8 z9 z10 z11 z12 cs cm ch made fq ft fg fl fp fsz fce fki fwo fqo fpo fla e' g_2 g_4 g_5 isT mth mqu mfl mfp mso mpl mki mca
    refine ⟨zI (FQ (bkC K M C R) 0 0 0 0), le, nu, sp, he, ne, wa, si, ti, la, w1, w2, w3, w4, w5, w6, w7, w8, w9, w10, w11, w12, ld', g1, c1, ta1, counts', bests', cs', cm', ch', true, gq, gt, gg, gl, gp, gsz, gce, gki, gwo, gqo, gpo, gla, nI j, zI (bkH (bkC K M C R)), hg, cn, e2, met', ways', few', isT2, mth2, mqu2, mfl2, mfp2, mso2, mpl2, mki2, mca2, ?_, ?_, q2, q3, t4, t5, t6⟩
    · unfold F_X7_fewest_same
      rw [q1, Option.bind_some]
      show (F_X4_total (zI (bkH (bkC K M C R))) le ti la (zI (bkL (bkC K M C R))) (zI ld') g1 c1 counts bests).bind _ = _
      rw [r1, Option.bind_some]
      show (if lg_cmp (wI (WQ (bkC K M C R) 0 0 0 0)) 0 ≤ 0 then _ else (F_X4_chooseWay (zI (bkH (bkC K M C R))) le nu sp wa si ti la (zI (bkZ (bkC K M C R))) (zI (bkG (bkC K M C R))) (zI (bkL (bkC K M C R))) z1 z2 z3 z4 z5 z6 z7 z8 z9 z10 z11 z12 (zI ld') g1 c1 counts1 bests1 cs cm ch (wI 0) (qb true)).bind _) = _
      rw [if_neg (fun w => by have := (lg_0 wl).mp w; omega), t1, Option.bind_some, if_neg (show ¬ qb true = 0 by decide)]
      show (F_X0_layOut made fq ft fg fl fp fsz fce fki fwo fqo fpo fla K M R C cs' cm' ch').bind _ = _
      rw [t2, Option.bind_some, ← t7 rfl]
    · unfold F_X8_fewest
      rw [isRow_eq j hj, Option.bind_some, if_neg (show ¬ qb true = 0 by decide), g_1, Option.bind_some, c0]
      show (if lg_cmp (ways' (0 : Int32).toNatClampNeg) 0 = 0 then _ else (F_X8_lays many kk mm sz sg lt pg (nI j) (zI (bkH (bkC K M C R))) hg cn e' ways' few' isT mth mqu mfl mfp mso mpl mki mca (nI j) (wI 0) (qb true)).bind _) = _
      rw [w0, if_neg (fun w => by have := (lg_e0 wl).mp w; omega), t3, Option.bind_some, c0, ← f0]
  · refine ⟨-1, le, nu, sp, he, ne, wa, si, ti, la, z1, z2, z3, z4, z5, z6, z7, z8, z9, z10, z11, z12, ld', g1, c1, ta1, counts1, bests1, cs, cm, ch, made, fq, ft, fg, fl, fp, fsz, fce, fki, fwo, fqo, fpo, fla, nI j, zI (bkH (bkC K M C R)), hg, cn, e', met', ways', few', isT, mth, mqu, mfl, mfp, mso, mpl, mki, mca, ?_, ?_, q2, q3, r2, hC, FrmAll_r⟩
    · unfold F_X7_fewest_same
      rw [q1, Option.bind_some]
      show (F_X4_total (zI (bkH (bkC K M C R))) le ti la (zI (bkL (bkC K M C R))) (zI ld') g1 c1 counts bests).bind _ = _
      rw [r1, Option.bind_some]
      show (if lg_cmp (wI (WQ (bkC K M C R) 0 0 0 0)) 0 ≤ 0 then _ else _) = _
      rw [if_pos ((lg_0 wl).mpr (by omega))]
    · unfold F_X8_fewest
      rw [isRow_eq j hj, Option.bind_some, if_neg (show ¬ qb true = 0 by decide), g_1, Option.bind_some, c0]
      show (if lg_cmp (ways' (0 : Int32).toNatClampNeg) 0 = 0 then _ else _) = _
      rw [w0, if_pos ((lg_e0 wl).mpr (by omega))]
theorem op_pick_other (hj : j < 6) (hr : RowR j K W M C many kk tt mm) (hu : RulR j R sz sg lt pg) (chg : Bool) (l0 : Int32) (l1 l2 l3 l4 l5 l6 l7 l8 : NF) (l9 l10 l11 l12 : Int32) (y1 y2 y3 y4 : Int32) (y5 y6 y7 : NF) (y8 y9 y10 y11 y12 : Int32) (ld : Int) (groups gcs tally : NF) (counts : Nat → Int64) (bests cs cm : NF) (ch : Int32) (made : Bool) (fq ft fg fl fp : Int32) (fsz fce fki fwo fqo fpo : NF) (fla : Int32) (p0 : Int32) (p1 : Int64) (hs : RkS ld bests) (hld : ld < 1000) (told a0 a1 : Int32) (hg0 cn0 ein met0 : NF) (ways0 : Nat → Int64) (few0 isT mth mqu mfl mfp mso mpl mki mca : NF) (hC : CurR made fq ft fg fl fp fsz fce fki fwo fqo fpo isT mth mqu mfl mfp mso mpl mki mca) : ∃ (b : Bool) (le nu sp he ne wa si ti : NF) (la : Int32) (w1 w2 w3 w4 : Int32) (w5 w6 w7 : NF) (w8 w9 w10 w11 w12 : Int32) (ld' : Int) (groups' gcs' tally' : NF) (counts' : Nat → Int64) (bests' cs' cm' : NF) (ch' : Int32) (made' : Bool) (gq gt gg gl gp : Int32) (gsz gce gki gwo gqo gpo : NF) (gla : Int32) (a2 a3 : Int32) (hg cn e' met' : NF) (ways' : Nat → Int64) (few' isT2 mth2 mqu2 mfl2 mfp2 mso2 mpl2 mki2 mca2 : NF), F_X7_pick_other K M R C chg l0 l1 l2 l3 l4 l5 l6 l7 l8 l9 l10 l11 l12 y1 y2 y3 y4 y5 y6 y7 y8 y9 y10 y11 y12 (zI ld) groups gcs tally counts bests cs cm ch made fq ft fg fl fp fsz fce fki fwo fqo fpo fla p0 p1 = some (b, false, zI (bkH (bkC K M C R)), le, nu, sp, he, ne, wa, si, ti, la, zI (bkZ (bkC K M C R)), zI (bkG (bkC K M C R)), zI (bkL (bkC K M C R)), w1, w2, w3, w4, w5, w6, w7, w8, w9, w10, w11, w12, zI ld', groups', gcs', tally', counts', bests', cs', cm', ch', made', gq, gt, gg, gl, gp, gsz, gce, gki, gwo, gqo, gpo, gla) ∧ F_X8_pick told many kk mm sz sg lt pg a0 a1 hg0 cn0 ein met0 ways0 few0 isT mth mqu mfl mfp mso mpl mki mca (nI j) p1 = some (b, 0, a2, a3, hg, cn, e', met', ways', few', isT2, mth2, mqu2, mfl2, mfp2, mso2, mpl2, mki2, mca2) ∧ ld ≤ ld' ∧ ld' ≤ ld + 1 ∧ RkV (bkC K M C R) ld' (zI (bkH (bkC K M C R))) le nu sp he ne wa si ti la (zI (bkZ (bkC K M C R))) (zI (bkG (bkC K M C R))) (zI (bkL (bkC K M C R))) groups' gcs' counts' bests' ∧ CurR made' gq gt gg gl gp gsz gce gki gwo gqo gpo isT2 mth2 mqu2 mfl2 mfp2 mso2 mpl2 mki2 mca2 ∧ FrmAll isT mth mqu mfl mfp mso mpl mki mca isT2 mth2 mqu2 mfl2 mfp2 mso2 mpl2 mki2 mca2 := by
  obtain ⟨le, nu, sp, he, ne, wa, si, ti, la, z1, z2, z3, z4, z5, z6, z7, z8, z9, z10, z11, z12, ld', g1, c1, ta1, q1, q2, q3, q4⟩ := rdy_other hj hr hu chg l0 l1 l2 l3 l4 l5 l6 l7 l8 l9 l10 l11 l12 y1 y2 y3 y4 y5 y6 y7 y8 y9 y10 y11 y12 ld groups gcs tally counts bests hs hld
  by_cases cn1 : p1.toInt < 0
  · refine ⟨false, le, nu, sp, he, ne, wa, si, ti, la, z1, z2, z3, z4, z5, z6, z7, z8, z9, z10, z11, z12, ld', g1, c1, ta1, counts, bests, cs, cm, ch, made, fq, ft, fg, fl, fp, fsz, fce, fki, fwo, fqo, fpo, fla, a0, a1, hg0, cn0, ein, met0, ways0, few0, isT, mth, mqu, mfl, mfp, mso, mpl, mki, mca, ?_, ?_, q2, q3, q4, hC, FrmAll_r⟩
    · unfold F_X7_pick_other
      rw [q1, Option.bind_some, if_pos (lg_n.1.mpr cn1)]
    · unfold F_X8_pick
      rw [isRow_eq j hj, Option.bind_some, if_neg (show ¬ qb true = 0 by decide), if_neg (fun w => by have := lg_n.2.mp w; omega)]
  obtain ⟨k, k9, rfl⟩ := wI_of (p := p1) (by omega)
  obtain ⟨counts1, bests1, r1, r2, r3⟩ := RkV_tot q4
  obtain ⟨hg, cn, e', met', ways', few', g_1, g_2, g_3, g_4, g_5⟩ := go_zH hj hr hu a0 a1 hg0 cn0 ein met0 ways0 few0
  have wl : WQ (bkC K M C R) 0 0 0 0 < 9223372036854775808 := by
    unfold WQ
    split
    · omega
    · exact Wn_lt _ _ (by omega) _ _ _ _
  have w0 : ways' (0 : Int32).toNatClampNeg = wI (WQ (bkC K M C R) 0 0 0 0) := (TbW_0 g_4).1
  have f0 : few' (0 : Int32).toNatClampNeg = zI (FQ (bkC K M C R) 0 0 0 0) := (TbW_0 g_4).2
  have c0 {α : Type} (o : Option α) : ck (inb 0 18414) o = o := rfl
  have ng : ¬ lg_cmp (wI k) 0 < 0 := fun w => cn1 (lg_n.1.mp w)
  have pg0 : 0 ≤ lg_cmp (wI k) 0 := lg_n.2.mpr (by omega)
  by_cases ck1 : k < WQ (bkC K M C R) 0 0 0 0
  · obtain ⟨w1, w2, w3, w4, w5, w6, w7, w8, w9, w10, w11, w12, counts', bests', cs', cm', ch', gq, gt, gg, gl, gp, gsz, gce, gki, gwo, gqo, gpo, gla, e2, isT2, mth2, mqu2, mfl2, mfp2, mso2, mpl2, mki2, mca2, t1, t2, t3, t4, t5, t6, t7⟩ := pk_core hj hr hu false k r2 r3 ck1 (fun w => by cases w) z1 z2 z3 z4 z5 z6 z7 z8 z9 z10 z11 z12 cs cm ch made fq ft fg fl fp fsz fce fki fwo fqo fpo fla e' g_2 g_4 g_5 isT mth mqu mfl mfp mso mpl mki mca
    refine ⟨true, le, nu, sp, he, ne, wa, si, ti, la, w1, w2, w3, w4, w5, w6, w7, w8, w9, w10, w11, w12, ld', g1, c1, ta1, counts', bests', cs', cm', ch', true, gq, gt, gg, gl, gp, gsz, gce, gki, gwo, gqo, gpo, gla, nI j, zI (bkH (bkC K M C R)), hg, cn, e2, met', ways', few', isT2, mth2, mqu2, mfl2, mfp2, mso2, mpl2, mki2, mca2, ?_, ?_, q2, q3, t4, t5, t6⟩
    · unfold F_X7_pick_other
      rw [q1, Option.bind_some, if_neg ng]
      show (F_X4_total (zI (bkH (bkC K M C R))) le ti la (zI (bkL (bkC K M C R))) (zI ld') g1 c1 counts bests).bind _ = _
      rw [r1, Option.bind_some]
      show (if 0 ≤ lg_cmp (wI k) (wI (WQ (bkC K M C R) 0 0 0 0)) then _ else (F_X4_chooseWay (zI (bkH (bkC K M C R))) le nu sp wa si ti la (zI (bkZ (bkC K M C R))) (zI (bkG (bkC K M C R))) (zI (bkL (bkC K M C R))) z1 z2 z3 z4 z5 z6 z7 z8 z9 z10 z11 z12 (zI ld') g1 c1 counts1 bests1 cs cm ch (wI k) (qb false)).bind _) = _
      rw [if_neg (fun w => by have := (lg_ge0 k9 wl).mp w; omega), t1, Option.bind_some, if_neg (show ¬ qb true = 0 by decide)]
      show (F_X0_layOut made fq ft fg fl fp fsz fce fki fwo fqo fpo fla K M R C cs' cm' ch').bind _ = _
      rw [t2, Option.bind_some]
    · unfold F_X8_pick
      rw [isRow_eq j hj, Option.bind_some, if_neg (show ¬ qb true = 0 by decide), if_pos pg0, g_1, Option.bind_some, c0]
      show (if lg_cmp (wI k) (ways' (0 : Int32).toNatClampNeg) < 0 then (F_X8_lays many kk mm sz sg lt pg (nI j) (zI (bkH (bkC K M C R))) hg cn e' ways' few' isT mth mqu mfl mfp mso mpl mki mca (nI j) (wI k) (qb false)).bind _ else _) = _
      rw [w0, if_pos ((lg_lt0 k9 wl).mpr ck1), t3, Option.bind_some]
  · refine ⟨false, le, nu, sp, he, ne, wa, si, ti, la, z1, z2, z3, z4, z5, z6, z7, z8, z9, z10, z11, z12, ld', g1, c1, ta1, counts1, bests1, cs, cm, ch, made, fq, ft, fg, fl, fp, fsz, fce, fki, fwo, fqo, fpo, fla, nI j, zI (bkH (bkC K M C R)), hg, cn, e', met', ways', few', isT, mth, mqu, mfl, mfp, mso, mpl, mki, mca, ?_, ?_, q2, q3, r2, hC, FrmAll_r⟩
    · unfold F_X7_pick_other
      rw [q1, Option.bind_some, if_neg ng]
      show (F_X4_total (zI (bkH (bkC K M C R))) le ti la (zI (bkL (bkC K M C R))) (zI ld') g1 c1 counts bests).bind _ = _
      rw [r1, Option.bind_some]
      show (if 0 ≤ lg_cmp (wI k) (wI (WQ (bkC K M C R) 0 0 0 0)) then _ else _) = _
      rw [if_pos ((lg_ge0 k9 wl).mpr (by omega))]
    · unfold F_X8_pick
      rw [isRow_eq j hj, Option.bind_some, if_neg (show ¬ qb true = 0 by decide), if_pos pg0, g_1, Option.bind_some, c0]
      show (if lg_cmp (wI k) (ways' (0 : Int32).toNatClampNeg) < 0 then _ else _) = _
      rw [w0, if_neg (fun w => ck1 ((lg_lt0 k9 wl).mp w))]
theorem op_fewest_other (hj : j < 6) (hr : RowR j K W M C many kk tt mm) (hu : RulR j R sz sg lt pg) (chg : Bool) (l0 : Int32) (l1 l2 l3 l4 l5 l6 l7 l8 : NF) (l9 l10 l11 l12 : Int32) (y1 y2 y3 y4 : Int32) (y5 y6 y7 : NF) (y8 y9 y10 y11 y12 : Int32) (ld : Int) (groups gcs tally : NF) (counts : Nat → Int64) (bests cs cm : NF) (ch : Int32) (made : Bool) (fq ft fg fl fp : Int32) (fsz fce fki fwo fqo fpo : NF) (fla : Int32) (p0 : Int32) (hs : RkS ld bests) (hld : ld < 1000) (told a0 a1 : Int32) (hg0 cn0 ein met0 : NF) (ways0 : Nat → Int64) (few0 isT mth mqu mfl mfp mso mpl mki mca : NF) (hC : CurR made fq ft fg fl fp fsz fce fki fwo fqo fpo isT mth mqu mfl mfp mso mpl mki mca) : ∃ (b : Int32) (le nu sp he ne wa si ti : NF) (la : Int32) (w1 w2 w3 w4 : Int32) (w5 w6 w7 : NF) (w8 w9 w10 w11 w12 : Int32) (ld' : Int) (groups' gcs' tally' : NF) (counts' : Nat → Int64) (bests' cs' cm' : NF) (ch' : Int32) (made' : Bool) (gq gt gg gl gp : Int32) (gsz gce gki gwo gqo gpo : NF) (gla : Int32) (a2 a3 : Int32) (hg cn e' met' : NF) (ways' : Nat → Int64) (few' isT2 mth2 mqu2 mfl2 mfp2 mso2 mpl2 mki2 mca2 : NF), F_X7_fewest_other K M R C chg l0 l1 l2 l3 l4 l5 l6 l7 l8 l9 l10 l11 l12 y1 y2 y3 y4 y5 y6 y7 y8 y9 y10 y11 y12 (zI ld) groups gcs tally counts bests cs cm ch made fq ft fg fl fp fsz fce fki fwo fqo fpo fla p0 = some (b, false, zI (bkH (bkC K M C R)), le, nu, sp, he, ne, wa, si, ti, la, zI (bkZ (bkC K M C R)), zI (bkG (bkC K M C R)), zI (bkL (bkC K M C R)), w1, w2, w3, w4, w5, w6, w7, w8, w9, w10, w11, w12, zI ld', groups', gcs', tally', counts', bests', cs', cm', ch', made', gq, gt, gg, gl, gp, gsz, gce, gki, gwo, gqo, gpo, gla) ∧ F_X8_fewest told many kk mm sz sg lt pg a0 a1 hg0 cn0 ein met0 ways0 few0 isT mth mqu mfl mfp mso mpl mki mca (nI j) = some (b, 0, a2, a3, hg, cn, e', met', ways', few', isT2, mth2, mqu2, mfl2, mfp2, mso2, mpl2, mki2, mca2) ∧ ld ≤ ld' ∧ ld' ≤ ld + 1 ∧ RkV (bkC K M C R) ld' (zI (bkH (bkC K M C R))) le nu sp he ne wa si ti la (zI (bkZ (bkC K M C R))) (zI (bkG (bkC K M C R))) (zI (bkL (bkC K M C R))) groups' gcs' counts' bests' ∧ CurR made' gq gt gg gl gp gsz gce gki gwo gqo gpo isT2 mth2 mqu2 mfl2 mfp2 mso2 mpl2 mki2 mca2 ∧ FrmAll isT mth mqu mfl mfp mso mpl mki mca isT2 mth2 mqu2 mfl2 mfp2 mso2 mpl2 mki2 mca2 := by
  obtain ⟨le, nu, sp, he, ne, wa, si, ti, la, z1, z2, z3, z4, z5, z6, z7, z8, z9, z10, z11, z12, ld', g1, c1, ta1, q1, q2, q3, q4⟩ := rdy_other hj hr hu chg l0 l1 l2 l3 l4 l5 l6 l7 l8 l9 l10 l11 l12 y1 y2 y3 y4 y5 y6 y7 y8 y9 y10 y11 y12 ld groups gcs tally counts bests hs hld
  obtain ⟨counts1, bests1, r1, r2, r3⟩ := RkV_tot q4
  obtain ⟨hg, cn, e', met', ways', few', g_1, g_2, g_3, g_4, g_5⟩ := go_zH hj hr hu a0 a1 hg0 cn0 ein met0 ways0 few0
  have wl : WQ (bkC K M C R) 0 0 0 0 < 9223372036854775808 := by
    unfold WQ
    split
    · omega
    · exact Wn_lt _ _ (by omega) _ _ _ _
  have w0 : ways' (0 : Int32).toNatClampNeg = wI (WQ (bkC K M C R) 0 0 0 0) := (TbW_0 g_4).1
  have f0 : few' (0 : Int32).toNatClampNeg = zI (FQ (bkC K M C R) 0 0 0 0) := (TbW_0 g_4).2
  have c0 {α : Type} (o : Option α) : ck (inb 0 18414) o = o := rfl
  by_cases ck1 : 0 < WQ (bkC K M C R) 0 0 0 0
  · obtain ⟨w1, w2, w3, w4, w5, w6, w7, w8, w9, w10, w11, w12, counts', bests', cs', cm', ch', gq, gt, gg, gl, gp, gsz, gce, gki, gwo, gqo, gpo, gla, e2, isT2, mth2, mqu2, mfl2, mfp2, mso2, mpl2, mki2, mca2, t1, t2, t3, t4, t5, t6, t7⟩ := pk_core hj hr hu true 0 r2 r3 ck1 (fun _ => rfl) z1 z2 z3 z4 z5 z6 z7 z8 z9 z10 z11 z12 cs cm ch made fq ft fg fl fp fsz fce fki fwo fqo fpo fla e' g_2 g_4 g_5 isT mth mqu mfl mfp mso mpl mki mca
    refine ⟨zI (FQ (bkC K M C R) 0 0 0 0), le, nu, sp, he, ne, wa, si, ti, la, w1, w2, w3, w4, w5, w6, w7, w8, w9, w10, w11, w12, ld', g1, c1, ta1, counts', bests', cs', cm', ch', true, gq, gt, gg, gl, gp, gsz, gce, gki, gwo, gqo, gpo, gla, nI j, zI (bkH (bkC K M C R)), hg, cn, e2, met', ways', few', isT2, mth2, mqu2, mfl2, mfp2, mso2, mpl2, mki2, mca2, ?_, ?_, q2, q3, t4, t5, t6⟩
    · unfold F_X7_fewest_other
      rw [q1, Option.bind_some]
      show (F_X4_total (zI (bkH (bkC K M C R))) le ti la (zI (bkL (bkC K M C R))) (zI ld') g1 c1 counts bests).bind _ = _
      rw [r1, Option.bind_some]
      show (if lg_cmp (wI (WQ (bkC K M C R) 0 0 0 0)) 0 ≤ 0 then _ else (F_X4_chooseWay (zI (bkH (bkC K M C R))) le nu sp wa si ti la (zI (bkZ (bkC K M C R))) (zI (bkG (bkC K M C R))) (zI (bkL (bkC K M C R))) z1 z2 z3 z4 z5 z6 z7 z8 z9 z10 z11 z12 (zI ld') g1 c1 counts1 bests1 cs cm ch (wI 0) (qb true)).bind _) = _
      rw [if_neg (fun w => by have := (lg_0 wl).mp w; omega), t1, Option.bind_some, if_neg (show ¬ qb true = 0 by decide)]
      show (F_X0_layOut made fq ft fg fl fp fsz fce fki fwo fqo fpo fla K M R C cs' cm' ch').bind _ = _
      rw [t2, Option.bind_some, ← t7 rfl]
    · unfold F_X8_fewest
      rw [isRow_eq j hj, Option.bind_some, if_neg (show ¬ qb true = 0 by decide), g_1, Option.bind_some, c0]
      show (if lg_cmp (ways' (0 : Int32).toNatClampNeg) 0 = 0 then _ else (F_X8_lays many kk mm sz sg lt pg (nI j) (zI (bkH (bkC K M C R))) hg cn e' ways' few' isT mth mqu mfl mfp mso mpl mki mca (nI j) (wI 0) (qb true)).bind _) = _
      rw [w0, if_neg (fun w => by have := (lg_e0 wl).mp w; omega), t3, Option.bind_some, c0, ← f0]
  · refine ⟨-1, le, nu, sp, he, ne, wa, si, ti, la, z1, z2, z3, z4, z5, z6, z7, z8, z9, z10, z11, z12, ld', g1, c1, ta1, counts1, bests1, cs, cm, ch, made, fq, ft, fg, fl, fp, fsz, fce, fki, fwo, fqo, fpo, fla, nI j, zI (bkH (bkC K M C R)), hg, cn, e', met', ways', few', isT, mth, mqu, mfl, mfp, mso, mpl, mki, mca, ?_, ?_, q2, q3, r2, hC, FrmAll_r⟩
    · unfold F_X7_fewest_other
      rw [q1, Option.bind_some]
      show (F_X4_total (zI (bkH (bkC K M C R))) le ti la (zI (bkL (bkC K M C R))) (zI ld') g1 c1 counts bests).bind _ = _
      rw [r1, Option.bind_some]
      show (if lg_cmp (wI (WQ (bkC K M C R) 0 0 0 0)) 0 ≤ 0 then _ else _) = _
      rw [if_pos ((lg_0 wl).mpr (by omega))]
    · unfold F_X8_fewest
      rw [isRow_eq j hj, Option.bind_some, if_neg (show ¬ qb true = 0 by decide), g_1, Option.bind_some, c0]
      show (if lg_cmp (ways' (0 : Int32).toNatClampNeg) 0 = 0 then _ else _) = _
      rw [w0, if_pos ((lg_e0 wl).mpr (by omega))]
end PK

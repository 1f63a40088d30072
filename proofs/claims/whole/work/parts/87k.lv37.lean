/-- the lays stand in the rows of the choice -/
def ChI (cs cm : NF) : Nat → List (Nat × Nat) → Prop
  | _, [] => True
  | q, x :: l => cs q = zI x.1 ∧ cm q = nI x.2 ∧ ChI cs cm (q + 1) l
theorem ChI_k {cs cm cs' cm' : NF} : ∀ (l : List (Nat × Nat)) (q : Nat), (∀ i, q ≤ i → cs' i = cs i ∧ cm' i = cm i) → ChI cs cm q l → ChI cs' cm' q l
  | [], _, _, _ => True.intro
  | x :: l, q, h, hc => ⟨by rw [(h q (Nat.le_refl _)).1]; exact hc.1, by rw [(h q (Nat.le_refl _)).2]; exact hc.2.1, ChI_k l (q + 1) (fun i hi => h i (by omega)) hc.2.2⟩
section CX
variable {Λ : Book} {L ld : Int} {letters numbers spots waters sides ties groups gcs : NF}
theorem cw_b20 (hK : Rky Λ L ld letters numbers spots waters sides ties groups gcs) (few : Bool) : ∀ (n m q k : Nat) (t half last : Int) (s1 s2 s3 s4 : Int32) (s5 s6 s7 : NF) (s8 s9 s10 s11 s12 : Int32) (counts : Nat → Int64) (bests cs cm : NF), q + n = 8 → n < m → Mt Λ q t half last → k < Wn Λ n q t half last → (few = true → k = 0) → Mem Λ L ld counts bests → (t < bkH Λ → q < 8 → Kn ld bests (nm Λ L q t half last)) → ∃ (z1 z2 z3 z4 : Int32) (z5 z6 z7 : NF) (z8 z9 z10 z11 z12 : Int32) (counts' : Nat → Int64) (bests' cs' cm' : NF), F_X4_chooseWay_b20 (zI (bkH Λ)) letters numbers spots waters sides ties (zI L) (zI (bkZ Λ)) (zI (bkG Λ)) (zI (bkL Λ)) (zI ld) groups gcs m s1 s2 s3 s4 s5 s6 s7 s8 s9 s10 s11 s12 counts bests cs cm (zI q) (qb few) (wI k) (zI t) (zI (2 * half - t)) (zI last) (zI q) = some (true, z1, z2, z3, z4, z5, z6, z7, z8, z9, z10, z11, z12, counts', bests', cs', cm', zI ((q + (chs Λ few n q t half last k).length : Nat) : Int)) ∧ Mem Λ L ld counts' bests' ∧ (∀ i, i < q → cs' i = cs i ∧ cm' i = cm i) ∧ ChI cs' cm' q (chs Λ few n q t half last k)
  | n, 0, _, _, _, _, _, _, _, _, _, _, _, _, _, _, _, _, _, _, _, _, _, _, hm, _, _, _, _, _ => absurd hm (Nat.not_lt_zero _)
  | n, m + 1, q, k, t, half, last, s1, s2, s3, s4, s5, s6, s7, s8, s9, s10, s11, s12, counts, bests, cs, cm, hq, hn, hm, hk, hf, hM, hKn => by
    obtain ⟨hB, hT, hL, hLt, hG, l0, l1⟩ := id hK
    obtain ⟨h00, h30, _⟩ := id hB
    obtain ⟨m1, m2, m3, m4, m5, m6, m7, m8⟩ := Mt_b hB q t half last hm
    by_cases c : t = bkH Λ
    · have ec : chs Λ few n q t half last k = [] := by
        cases n with
        | zero => rfl
        | succ n => rw [chs, if_pos c]
      have l2 : ¬ zI t < zI (bkH Λ) := by rw [c]; simp (disch := omega) only [zl_0, zl_1, zl_2, zl_3, zl_4, zl_5, zl_6, zl_7, zl_8, zl_9, zl_10, zl_11, zl_12, zl_13, zl_14, zl_15, zl_16, zl_17, zl_18, zl_19, zl_20, zl_21, zl_22, zl_23, zl_24, zl_25, zl_26, zl_27, zl_28, zl_29, zl_30, zl_31, zl_32, zl_33, zl_34, zl_35, zl_36, zl_37, zl_38, zl_39, zl_40, zl_41, zl_42, zl_43, zl_44, zl_45, zl_46, zl_47, zl_48, zl_49, zl_50, zl_51, zl_52, zl_53, zl_54, zl_55, zl_56, zl_57, zl_58, zl_59, zl_60, zl_61, zl_62, zl_63, zl_64, zl_65, zl_66, zl_80, zl_97, zl_99, zl_103, zl_107, zl_112, zl_115, zl_100, zl_180, zl_210, zl_238, zl_255, zl_256, zl_400, zl_1000, zl_1024, zl_1260, zl_2000, zl_7140, zl_7200, zl_18414, zl_65536, zl_131072, zl_9999, zl_999, zI_add, zI_sub, zI_mul, zI_neg, zI_lt, zI_le, zI_eq, zI_clamp, ck_z, ckp_z, qb_z, qb_z0, Option.bind_some]; omega
      have l3 : zI (bkH Λ) ≤ zI t := by rw [c]; simp (disch := omega) only [zl_0, zl_1, zl_2, zl_3, zl_4, zl_5, zl_6, zl_7, zl_8, zl_9, zl_10, zl_11, zl_12, zl_13, zl_14, zl_15, zl_16, zl_17, zl_18, zl_19, zl_20, zl_21, zl_22, zl_23, zl_24, zl_25, zl_26, zl_27, zl_28, zl_29, zl_30, zl_31, zl_32, zl_33, zl_34, zl_35, zl_36, zl_37, zl_38, zl_39, zl_40, zl_41, zl_42, zl_43, zl_44, zl_45, zl_46, zl_47, zl_48, zl_49, zl_50, zl_51, zl_52, zl_53, zl_54, zl_55, zl_56, zl_57, zl_58, zl_59, zl_60, zl_61, zl_62, zl_63, zl_64, zl_65, zl_66, zl_80, zl_97, zl_99, zl_103, zl_107, zl_112, zl_115, zl_100, zl_180, zl_210, zl_238, zl_255, zl_256, zl_400, zl_1000, zl_1024, zl_1260, zl_2000, zl_7140, zl_7200, zl_18414, zl_65536, zl_131072, zl_9999, zl_999, zI_add, zI_sub, zI_mul, zI_neg, zI_lt, zI_le, zI_eq, zI_clamp, ck_z, ckp_z, qb_z, qb_z0, Option.bind_some]; omega
      rw [ec, F_X4_chooseWay_b20]
      unfold F_X4_chooseWay_b223
      rw [if_neg l2, if_pos l3]
      by_cases c8 : 8 ≤ zI (q : Int)
      · rw [if_pos c8]
        exact ⟨_, _, _, _, _, _, _, _, _, _, _, _, _, _, _, _, rfl, hM, fun i _ => ⟨rfl, rfl⟩, True.intro⟩
      · rw [if_neg c8]
        exact ⟨_, _, _, _, _, _, _, _, _, _, _, _, _, _, _, _, rfl, hM, fun i _ => ⟨rfl, rfl⟩, True.intro⟩
    · cases n with
      | zero =>
        rw [Wn, if_neg c] at hk
        omega
      | succ n =>
        have e8 : 8 - q = n + 1 := by omega
        have e8' : 8 - (q + 1) = n := by omega
        have l8 : ¬ 8 ≤ zI (q : Int) := by simp (disch := omega) only [zl_0, zl_1, zl_2, zl_3, zl_4, zl_5, zl_6, zl_7, zl_8, zl_9, zl_10, zl_11, zl_12, zl_13, zl_14, zl_15, zl_16, zl_17, zl_18, zl_19, zl_20, zl_21, zl_22, zl_23, zl_24, zl_25, zl_26, zl_27, zl_28, zl_29, zl_30, zl_31, zl_32, zl_33, zl_34, zl_35, zl_36, zl_37, zl_38, zl_39, zl_40, zl_41, zl_42, zl_43, zl_44, zl_45, zl_46, zl_47, zl_48, zl_49, zl_50, zl_51, zl_52, zl_53, zl_54, zl_55, zl_56, zl_57, zl_58, zl_59, zl_60, zl_61, zl_62, zl_63, zl_64, zl_65, zl_66, zl_80, zl_97, zl_99, zl_103, zl_107, zl_112, zl_115, zl_100, zl_180, zl_210, zl_238, zl_255, zl_256, zl_400, zl_1000, zl_1024, zl_1260, zl_2000, zl_7140, zl_7200, zl_18414, zl_65536, zl_131072, zl_9999, zl_999, zI_add, zI_sub, zI_mul, zI_neg, zI_lt, zI_le, zI_eq, zI_clamp, ck_z, ckp_z, qb_z, qb_z0, Option.bind_some]; omega
        have l3 : ¬ zI (bkH Λ) ≤ zI t := by simp (disch := omega) only [zl_0, zl_1, zl_2, zl_3, zl_4, zl_5, zl_6, zl_7, zl_8, zl_9, zl_10, zl_11, zl_12, zl_13, zl_14, zl_15, zl_16, zl_17, zl_18, zl_19, zl_20, zl_21, zl_22, zl_23, zl_24, zl_25, zl_26, zl_27, zl_28, zl_29, zl_30, zl_31, zl_32, zl_33, zl_34, zl_35, zl_36, zl_37, zl_38, zl_39, zl_40, zl_41, zl_42, zl_43, zl_44, zl_45, zl_46, zl_47, zl_48, zl_49, zl_50, zl_51, zl_52, zl_53, zl_54, zl_55, zl_56, zl_57, zl_58, zl_59, zl_60, zl_61, zl_62, zl_63, zl_64, zl_65, zl_66, zl_80, zl_97, zl_99, zl_103, zl_107, zl_112, zl_115, zl_100, zl_180, zl_210, zl_238, zl_255, zl_256, zl_400, zl_1000, zl_1024, zl_1260, zl_2000, zl_7140, zl_7200, zl_18414, zl_65536, zl_131072, zl_9999, zl_999, zI_add, zI_sub, zI_mul, zI_neg, zI_lt, zI_le, zI_eq, zI_clamp, ck_z, ckp_z, qb_z, qb_z0, Option.bind_some]; omega
        have hl2 : last = 0 ∨ last = 1 := by omega
        have hkn := hKn (by omega) (by omega)
        have le := least_z hB hT hL l0 l1 hM (by omega) m1 (by omega) m3 m4 (by omega) m7 hl2 hkn
        have hWp : 0 < Wn Λ (8 - q) q t half last := by rw [e8]; omega
        have le2 : bst (Wn Λ (8 - q) q t half last) (Fn Λ (8 - q) q t half last) = Fn Λ (8 - q) q t half last := by unfold bst; rw [if_pos hWp]
        rw [le2] at le
        have k9 : k < 9223372036854775808 := by have := Wn_lt Λ (n + 1) (by omega) q t half last; omega
        obtain ⟨x, k', f1, f2, f3, f4⟩ := fwx_wt few c hk (fun e => ⟨hf e, by omega⟩)
        have f1C : fwx (wC Λ few q t half last) (lyC Λ t) k = some (x, k') := by
          rw [← f1, lyM_C hB m1 m2 m3 (by omega), ← fwx_fil]
          refine fwx_cg _ _ (fun y _ => ?_)
          unfold wC
          rw [e8']
        obtain ⟨KK, hKK⟩ : ∃ KK : KC2, KK = fun s_first s_last s_nextSize s_nextMask s_seats s_nexts s_aheads s_size s_mask s_things s_ghosts s_ahead k_counts k_bests k_chosenSizes k_chosenMasks k_chosen x3 x4 x6 x7 x8 x9 => F_X4_chooseWay_b20 (zI (bkH Λ)) letters numbers spots waters sides ties (zI L) (zI (bkZ Λ)) (zI (bkG Λ)) (zI (bkL Λ)) (zI ld) groups gcs m s_first s_last s_nextSize s_nextMask s_seats s_nexts s_aheads s_size s_mask s_things s_ghosts s_ahead k_counts k_bests k_chosenSizes k_chosenMasks k_chosen x3 x4 x6 x7 x8 x9 := ⟨_, rfl⟩
        obtain ⟨ns, nk, se, ne, ah, ap, c1, b1, r1, r2, r3, r4⟩ := cw_b68 hK KK few (by omega) m1 (by omega) m3 m4 (by omega) m7 hl2 hm hWp f2 cs cm (zI q) (lyC Λ t) FU 0 2 0 k s5 (upd s6 0 (zI t)) (upd s7 0 (-1)) s8 s9 s10 s11 s12 counts bests [] rfl (by have := lyC_len Λ t; unfold FU; omega) rfl rfl (AdI_0 (Or.inl rfl) (upd_at _ _ _) (upd_at _ _ _) (by omega)) hM k9 f1C
        have r1' : F_X4_chooseWay_b68 (zI (bkH Λ)) letters numbers spots waters sides ties (zI L) (zI (bkZ Λ)) (zI (bkG Λ)) (zI (bkL Λ)) (zI ld) groups gcs KK FU (zI t) (-1) 2 0 s5 (upd s6 0 (zI t)) (upd s7 0 (-1)) s8 s9 s10 s11 s12 counts bests cs cm (zI q) (qb few) (wI k) (zI t) (zI (2 * half - t)) (zI last) (zI q) 0 (zI (Fn Λ (8 - q) q t half last)) 0 = _ := r1
        have hmx : Mt Λ (q + 1) (xt t x) (xh half x) (enl x.2) := ⟨t, half, last, x, hm, by omega, f2, rfl, rfl, rfl⟩
        obtain ⟨z1, z2, z3, z4, z5, z6, z7, z8, z9, z10, z11, z12, c2, b2, cs2, cm2, i1, i2, i3, i4⟩ := cw_b20 hK few n m (q + 1) k' (xt t x) (xh half x) (enl x.2) (zI t) (-1) ns nk se ne ah (zI x.1) (nI x.2) (zI (thg x.2 x.1 x.1)) (zI (xg x)) ap c1 b1 (upd cs q (zI x.1)) (upd cm q (nI x.2)) (by omega) (by omega) hmx f3 (fun e => (f4 e).1) r2 r4
        have ecs := chs_s few c f1
        have elen : q + (chs Λ few (n + 1) q t half last k).length = q + 1 + (chs Λ few n ((q : Int) + 1) (xt t x) (xh half x) (enl x.2) k').length := by rw [ecs, List.length_cons]; omega
        refine ⟨z1, z2, z3, z4, z5, z6, z7, z8, z9, z10, z11, z12, c2, b2, cs2, cm2, ?_, i2, fun i hi => ?_, ?_⟩
        · rw [F_X4_chooseWay_b20, if_neg l8, if_neg l3, le, Option.bind_some, beginWhole_z, Option.bind_some, ← hKK, elen]
          show F_X4_chooseWay_b68 (zI (bkH Λ)) letters numbers spots waters sides ties (zI L) (zI (bkZ Λ)) (zI (bkG Λ)) (zI (bkL Λ)) (zI ld) groups gcs KK FU (zI t) (-1) 2 0 s5 (upd s6 0 (zI t)) (upd s7 0 (-1)) s8 s9 s10 s11 s12 counts bests cs cm (zI q) (qb few) (wI k) (zI t) (zI (2 * half - t)) (zI last) (zI q) 0 (zI (Fn Λ (8 - q) q t half last)) 0 = _
          rw [r1', hKK]
          exact i1
        · obtain ⟨j1, j2⟩ := i3 i (by omega)
          rw [j1, j2, upd_ne _ _ (by omega), upd_ne _ _ (by omega)]
          exact ⟨rfl, rfl⟩
        · rw [ecs]
          obtain ⟨j1, j2⟩ := i3 q (by omega)
          exact ⟨by rw [j1, upd_at], by rw [j2, upd_at], i4⟩
theorem chooseWay_z (hK : Rky Λ L ld letters numbers spots waters sides ties groups gcs) (few : Bool) (k : Nat) (hk : k < WQ Λ 0 0 0 0) (hf : few = true → k = 0) (s1 s2 s3 s4 : Int32) (s5 s6 s7 : NF) (s8 s9 s10 s11 s12 : Int32) (counts : Nat → Int64) (bests cs cm : NF) (ch : Int32) (hM : Mem Λ L ld counts bests) (hKn : 0 < bkH Λ → Kn ld bests (nm Λ L 0 0 0 0)) : ∃ (z1 z2 z3 z4 : Int32) (z5 z6 z7 : NF) (z8 z9 z10 z11 z12 : Int32) (counts' : Nat → Int64) (bests' cs' cm' : NF), F_X4_chooseWay (zI (bkH Λ)) letters numbers spots waters sides ties (zI L) (zI (bkZ Λ)) (zI (bkG Λ)) (zI (bkL Λ)) s1 s2 s3 s4 s5 s6 s7 s8 s9 s10 s11 s12 (zI ld) groups gcs counts bests cs cm ch (wI k) (qb few) = some (true, z1, z2, z3, z4, z5, z6, z7, z8, z9, z10, z11, z12, counts', bests', cs', cm', zI ((chs Λ few 8 0 0 0 0 k).length : Nat)) ∧ Mem Λ L ld counts' bests' ∧ ChI cs' cm' 0 (chs Λ few 8 0 0 0 0 k) := by
  have hk2 : k < Wn Λ 8 0 0 0 0 := by
    unfold WQ at hk
    by_cases c : 0 = 0 ∧ bkH Λ = 0
    · rw [if_pos c] at hk; omega
    · rw [if_neg c] at hk; exact hk
  obtain ⟨z1, z2, z3, z4, z5, z6, z7, z8, z9, z10, z11, z12, c2, b2, cs2, cm2, i1, i2, i3, i4⟩ := cw_b20 hK few 8 FU 0 k 0 0 0 s1 s2 s3 s4 s5 s6 s7 s8 s9 s10 s11 s12 counts bests cs cm (by omega) (by unfold FU; omega) ⟨rfl, rfl, rfl⟩ hk2 hf hM (fun h _ => hKn h)
  refine ⟨z1, z2, z3, z4, z5, z6, z7, z8, z9, z10, z11, z12, c2, b2, cs2, cm2, ?_, i2, i4⟩
  unfold F_X4_chooseWay
  have i1' : F_X4_chooseWay_b20 (zI (bkH Λ)) letters numbers spots waters sides ties (zI L) (zI (bkZ Λ)) (zI (bkG Λ)) (zI (bkL Λ)) (zI ld) groups gcs FU s1 s2 s3 s4 s5 s6 s7 s8 s9 s10 s11 s12 counts bests cs cm 0 (qb few) (wI k) 0 0 0 0 = some (true, z1, z2, z3, z4, z5, z6, z7, z8, z9, z10, z11, z12, c2, b2, cs2, cm2, zI ((0 + (chs Λ few 8 0 0 0 0 k).length : Nat) : Int)) := i1
  rw [Nat.zero_add] at i1'
  exact i1'
end CX

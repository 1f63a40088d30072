section TK
variable {n : Int} {κ : Int → Int} {μ : Int → Int → Int} {lt pg : Int} {Λ : Book} {j : Int} {many kk marks hangs cancels mz ms ml mp few : NF} {ways : Nat → Int64}
theorem take_b45_z (hw : RwW n κ μ) (hm : RwM n κ μ j many kk marks) (j0 : 0 ≤ j) (j1 : j < 6) (isT th fl fp : NF) : ∀ (d m i : Nat) (ki ca : NF), (i : Int) + d = n → d < m → (∀ r : Int, 0 ≤ r → r < i → ki r.toNat = zI (κ r) ∧ ca r.toNat = zI (μ r 4)) → ∃ ki' ca', F_X8_take_b45 many kk marks m isT th fl fp ki ca (zI j) (zI i) = some (isT, th, fl, fp, ki', ca') ∧ (∀ r : Int, 0 ≤ r → r < n → ki' r.toNat = zI (κ r) ∧ ca' r.toNat = zI (μ r 4)) ∧ Frm 30 ki ki' ∧ Frm 30 ca ca'
  | 0, m + 1, i, ki, ca, hi, _, hI => by
    have n1 := hw.2.1
    have n0 := hw.1
    have l : zI n ≤ zI (i : Int) := by simp (disch := omega) only [zl_0, zl_1, zl_2, zl_3, zl_4, zl_5, zl_6, zl_7, zl_8, zl_9, zl_10, zl_11, zl_12, zl_13, zl_14, zl_15, zl_16, zl_17, zl_18, zl_19, zl_20, zl_21, zl_22, zl_23, zl_24, zl_25, zl_26, zl_27, zl_28, zl_29, zl_30, zl_31, zl_32, zl_33, zl_34, zl_35, zl_36, zl_37, zl_38, zl_39, zl_40, zl_41, zl_42, zl_43, zl_44, zl_45, zl_46, zl_47, zl_48, zl_49, zl_50, zl_51, zl_52, zl_53, zl_54, zl_55, zl_56, zl_57, zl_58, zl_59, zl_60, zl_61, zl_62, zl_63, zl_64, zl_65, zl_66, zl_80, zl_97, zl_99, zl_103, zl_107, zl_112, zl_115, zl_100, zl_180, zl_210, zl_238, zl_255, zl_256, zl_400, zl_1000, zl_1024, zl_1260, zl_2000, zl_7140, zl_7200, zl_18414, zl_65536, zl_131072, zl_9999, zl_999, zI_add, zI_sub, zI_mul, zI_neg, zI_lt, zI_le, zI_eq, zI_clamp, ck_z, ckp_z, qb_z, qb_z0, Option.bind_some]; omega
    rw [F_X8_take_b45, ck_z j0 (by omega) (by omega), zI_clamp (by omega) (by omega), hm.1, if_pos l]
    exact ⟨ki, ca, rfl, fun r r0 r1 => hI r r0 (by omega), Frm_r _ _, Frm_r _ _⟩
  | d + 1, m + 1, i, ki, ca, hi, hmm, hI => by
    have n1 := hw.2.1
    have n0 := hw.1
    have l : ¬ zI n ≤ zI (i : Int) := by simp (disch := omega) only [zl_0, zl_1, zl_2, zl_3, zl_4, zl_5, zl_6, zl_7, zl_8, zl_9, zl_10, zl_11, zl_12, zl_13, zl_14, zl_15, zl_16, zl_17, zl_18, zl_19, zl_20, zl_21, zl_22, zl_23, zl_24, zl_25, zl_26, zl_27, zl_28, zl_29, zl_30, zl_31, zl_32, zl_33, zl_34, zl_35, zl_36, zl_37, zl_38, zl_39, zl_40, zl_41, zl_42, zl_43, zl_44, zl_45, zl_46, zl_47, zl_48, zl_49, zl_50, zl_51, zl_52, zl_53, zl_54, zl_55, zl_56, zl_57, zl_58, zl_59, zl_60, zl_61, zl_62, zl_63, zl_64, zl_65, zl_66, zl_80, zl_97, zl_99, zl_103, zl_107, zl_112, zl_115, zl_100, zl_180, zl_210, zl_238, zl_255, zl_256, zl_400, zl_1000, zl_1024, zl_1260, zl_2000, zl_7140, zl_7200, zl_18414, zl_65536, zl_131072, zl_9999, zl_999, zI_add, zI_sub, zI_mul, zI_neg, zI_lt, zI_le, zI_eq, zI_clamp, ck_z, ckp_z, qb_z, qb_z0, Option.bind_some]; omega
    have ei : zI (i : Int) + 1 = zI ((i + 1 : Nat) : Int) := by rw [zl_1, zI_add]; congr 1
    have ea : (30 : Int32) * zI j + zI (i : Int) = zI (30 * j + i) := by rw [show (30 : Int32) = zI 30 from rfl, zI_mul, zI_add]
    obtain ⟨k1, k2⟩ := hm.2 i (by omega) (by omega)
    have k3 := k2 4 (by omega) (by omega)
    have ek : F_X8_known marks (zI (30 * j + i)) 4 = some (zI (μ i 4)) := by
      rw [← k3]
      exact known_z marks (30 * j + i) 4 (by omega) (by omega) (by omega) (by omega)
    have cli : (zI (i : Int)).toNatClampNeg = (i : Int).toNat := zI_clamp (by omega) (by omega)
    have ci {α : Type} (o : Option α) : ck (inb (zI (i : Int)) 150) o = o := ck_z (by omega) (by omega) (by omega)
    rw [F_X8_take_b45, ck_z j0 (by omega) (by omega), zI_clamp (by omega) (by omega), hm.1, if_neg l, ea, ck_z (by omega) (by omega) (by omega), ci, ek, Option.bind_some, ci, cli, zI_clamp (by omega) (by omega), k1, ei]
    obtain ⟨ki', ca', r1, r2, r3, r4⟩ := take_b45_z hw hm j0 j1 isT th fl fp d m (i + 1) (upd ki (i : Int).toNat (zI (κ i))) (upd ca (i : Int).toNat (zI (μ i 4))) (by omega) (by omega) (fun r r0 r1 => by
      by_cases e : r = i
      · rw [e, upd_at, upd_at]; exact ⟨rfl, rfl⟩
      · rw [upd_ne _ _ (by omega), upd_ne _ _ (by omega)]; exact hI r r0 (by omega))
    exact ⟨ki', ca', r1, r2, Frm_t (Frm_u _ (by omega) (by omega)) r3, Frm_t (Frm_u _ (by omega) (by omega)) r4⟩
theorem take_z (hw : RwW n κ μ) (hm : RwM n κ μ j many kk marks) (j0 : 0 ≤ j) (j1 : j < 6) (e4 : ml j.toNat = zI lt) (e5 : mp j.toNat = zI pg) (isT th fl fp ki ca : NF) : ∃ ki' ca', F_X8_take many kk marks ml mp isT th fl fp ki ca (zI j) = some (upd isT 0 1, upd th 0 (zI n), upd fl 0 (zI lt), upd fp 0 (zI pg), ki', ca') ∧ (∀ r : Int, 0 ≤ r → r < n → ki' r.toNat = zI (κ r) ∧ ca' r.toNat = zI (μ r 4)) ∧ Frm 30 ki ki' ∧ Frm 30 ca ca' := by
  have n1 := hw.2.1
  have n0 := hw.1
  obtain ⟨ki', ca', r1, r2⟩ := take_b45_z hw hm j0 j1 (upd isT 0 1) (upd th 0 (zI n)) (upd fl 0 (zI lt)) (upd fp 0 (zI pg)) n.toNat FU 0 ki ca (by omega) (by unfold FU; omega) (fun r r0 r1 => by omega)
  refine ⟨ki', ca', ?_, r2⟩
  have cj {α : Type} (o : Option α) : ck (inb (zI j) 6) o = o := ck_z j0 (by omega) (by omega)
  have c0 {α : Type} (o : Option α) : ck (inb 0 5) o = o := rfl
  have clj : (zI j).toNatClampNeg = j.toNat := zI_clamp (by omega) (by omega)
  unfold F_X8_take
  rw [c0, cj, c0, cj, c0, cj, c0, clj, hm.1, e4, e5]
  exact r1
theorem lays_b15_z (hB : BkW Λ) (hw : RwW n κ μ) (hH : bkH Λ = hcn κ n.toNat) (hmm : RwM n κ μ j many kk marks) (hL : LvM Λ marks hangs cancels) (hR : RuB Λ j mz ms ml mp) (hT : TbW Λ ways few (fun _ _ _ _ => True)) (hh : ∀ h, 0 ≤ h → h < bkH Λ → hangs h.toNat = zI (30 * j + ixh κ n h)) (e4 : ml j.toNat = zI lt) (e5 : mp j.toNat = zI pg) (fb : Bool) : ∀ (m ns q k : Nat) (t half last : Int) (Φ : Fold) (l g : Int) (ein isT th qu fl fp sizeOf placed ki ca : NF), q + ns = 8 → ns < m → Mt Λ q t half last → k < Wn Λ ns q t half last → (fb = true → k = 0) → PI n κ μ lt pg Φ l t q g → (0 < (q : Int) → l = fS Φ ((q : Int) - 1)) → PMp Φ l sizeOf placed → ∃ (e' sizeOf' placed' ki' ca' : NF) (l' : Int), F_X8_lays_b15 many kk marks mz ms ml mp (zI j) (zI (bkH Λ)) hangs cancels ways few m ein isT th qu fl fp sizeOf placed ki ca (zI j) (qb fb) (zI q) (zI t) (zI half) (zI last) (wI k) = some (e', upd isT 0 1, upd th 0 (zI n), upd qu 0 (zI ((q + (chs Λ fb ns q t half last k).length : Nat) : Int)), upd fl 0 (zI lt), upd fp 0 (zI pg), sizeOf', placed', ki', ca') ∧ PMp (lyt κ μ n (chs Λ fb ns q t half last k) Φ) l' sizeOf' placed' ∧ (0 < q + (chs Λ fb ns q t half last k).length → l' = fS (lyt κ μ n (chs Λ fb ns q t half last k) Φ) (((q + (chs Λ fb ns q t half last k).length : Nat) : Int) - 1)) ∧ (∀ r : Int, 0 ≤ r → r < n → ki' r.toNat = zI (κ r) ∧ ca' r.toNat = zI (μ r 4)) ∧ Frm 8 sizeOf sizeOf' ∧ Frm 64 placed placed' ∧ Frm 30 ki ki' ∧ Frm 30 ca ca'
  | 0, _, _, _, _, _, _, _, _, _, _, _, _, _, _, _, _, _, _, _, _, h, _, _, _, _, _, _ => absurd h (Nat.not_lt_zero _)
  | m + 1, ns, q, k, t, half, last, Φ, l, g, ein, isT, th, qu, fl, fp, sizeOf, placed, ki, ca, hq, hn, hm, hk, hk0, hP, hl, hM => by
    obtain ⟨h00, h30, _⟩ := id hB
    obtain ⟨j0, j1, _⟩ := id hR
    obtain ⟨m1, m2, m3, m4, m5, m6, m7, m8⟩ := Mt_b hB q t half last hm
    by_cases c : t = bkH Λ
    · have ec : chs Λ fb ns q t half last k = [] := by
        cases ns with
        | zero => rfl
        | succ ns => rw [chs, if_pos c]
      have l3 : zI (bkH Λ) ≤ zI t := by rw [c]; simp (disch := omega) only [zl_0, zl_1, zl_2, zl_3, zl_4, zl_5, zl_6, zl_7, zl_8, zl_9, zl_10, zl_11, zl_12, zl_13, zl_14, zl_15, zl_16, zl_17, zl_18, zl_19, zl_20, zl_21, zl_22, zl_23, zl_24, zl_25, zl_26, zl_27, zl_28, zl_29, zl_30, zl_31, zl_32, zl_33, zl_34, zl_35, zl_36, zl_37, zl_38, zl_39, zl_40, zl_41, zl_42, zl_43, zl_44, zl_45, zl_46, zl_47, zl_48, zl_49, zl_50, zl_51, zl_52, zl_53, zl_54, zl_55, zl_56, zl_57, zl_58, zl_59, zl_60, zl_61, zl_62, zl_63, zl_64, zl_65, zl_66, zl_80, zl_97, zl_99, zl_103, zl_107, zl_112, zl_115, zl_100, zl_180, zl_210, zl_238, zl_255, zl_256, zl_400, zl_1000, zl_1024, zl_1260, zl_2000, zl_7140, zl_7200, zl_18414, zl_65536, zl_131072, zl_9999, zl_999, zI_add, zI_sub, zI_mul, zI_neg, zI_lt, zI_le, zI_eq, zI_clamp, ck_z, ckp_z, qb_z, qb_z0, Option.bind_some]; omega
      obtain ⟨ki', ca', r1, r2, r3, r4⟩ := take_z hw hmm j0 j1 e4 e5 isT th fl fp ki ca
      have c0 {α : Type} (o : Option α) : ck (inb 0 5) o = o := rfl
      rw [ec, F_X8_lays_b15, if_pos l3, c0, r1, Option.bind_some]
      exact ⟨ein, sizeOf, placed, ki', ca', l, rfl, hM, fun w => hl (by have e0 : q + ([] : List (Nat × Nat)).length = q := rfl; omega), r2, Frm_r _ _, Frm_r _ _, r3, r4⟩
    · cases ns with
      | zero =>
        rw [Wn, if_neg c] at hk
        omega
      | succ ns =>
        have l3 : ¬ zI (bkH Λ) ≤ zI t := by simp (disch := omega) only [zl_0, zl_1, zl_2, zl_3, zl_4, zl_5, zl_6, zl_7, zl_8, zl_9, zl_10, zl_11, zl_12, zl_13, zl_14, zl_15, zl_16, zl_17, zl_18, zl_19, zl_20, zl_21, zl_22, zl_23, zl_24, zl_25, zl_26, zl_27, zl_28, zl_29, zl_30, zl_31, zl_32, zl_33, zl_34, zl_35, zl_36, zl_37, zl_38, zl_39, zl_40, zl_41, zl_42, zl_43, zl_44, zl_45, zl_46, zl_47, zl_48, zl_49, zl_50, zl_51, zl_52, zl_53, zl_54, zl_55, zl_56, zl_57, zl_58, zl_59, zl_60, zl_61, zl_62, zl_63, zl_64, zl_65, zl_66, zl_80, zl_97, zl_99, zl_103, zl_107, zl_112, zl_115, zl_100, zl_180, zl_210, zl_238, zl_255, zl_256, zl_400, zl_1000, zl_1024, zl_1260, zl_2000, zl_7140, zl_7200, zl_18414, zl_65536, zl_131072, zl_9999, zl_999, zI_add, zI_sub, zI_mul, zI_neg, zI_lt, zI_le, zI_eq, zI_clamp, ck_z, ckp_z, qb_z, qb_z0, Option.bind_some]; omega
        have e8 : 8 - (q + 1) = ns := by omega
        obtain ⟨x, k', f1, f2, f3, f4⟩ := fwx_wt fb c hk (fun e => ⟨hk0 e, by omega⟩)
        have k9 : k < 9223372036854775808 := by have := Wn_lt Λ (ns + 1) (by omega) q t half last; omega
        obtain ⟨KK, hKK⟩ : ∃ KK : K15, KK = fun m_in m_isThere m_things m_quires m_firstLetter m_firstPage m_sizeOf m_placed m_kindOf m_catchOf x1 x4 x5 x6 x7 x8 x9 => F_X8_lays_b15 many kk marks mz ms ml mp (zI j) (zI (bkH Λ)) hangs cancels ways few m m_in m_isThere m_things m_quires m_firstLetter m_firstPage m_sizeOf m_placed m_kindOf m_catchOf x1 x4 x5 x6 x7 x8 x9 := ⟨_, rfl⟩
        have f1' : fwx (wt Λ fb (8 - (q + 1)) q t half last) (rst (gdM Λ q t half last) 2 0) k = some (x, k') := by rw [e8]; exact f1
        obtain ⟨b1, b2, _⟩ := lyM_mem.mp f2
        have xb := xt_b f2
        obtain ⟨F1, hF1⟩ : ∃ F1, FU = F1 + 1 := ⟨1048575, rfl⟩
        have hF2 : 40000 < F1 := by unfold FU at hF1; omega
        obtain ⟨e1, s1⟩ := lm_81 (many := many) (kk := kk) hB hL hR hT KK fb (by omega) (by omega) hm isT th qu fl fp sizeOf placed ki ca F1 30000 2 0 k ein (amu_b (by omega)) (by omega) (by omega) (by omega) k9 hk0 f1'
        have fQq : fQ Φ = q := hP.2.2.2.2.2.1
        have pm0 : PMp (plc κ μ n x 0 Φ) ((0 : Nat) : Int) (upd sizeOf q (zI x.1)) placed := by
          have := PMp_bQ (s := (x.1 : Int)) hP.1 (by rw [fQq]; exact hl) hM
          rw [fQq, Int.toNat_natCast] at this
          exact this
        obtain ⟨placed', t1, t2, t3⟩ := lm_235 (many := many) (kk := kk) (marks := marks) (cancels := cancels) (mz := mz) (ms := ms) (ml := ml) (mp := mp) (few := few) (ways := ways) (half := half) hB hw hH j0 j1 hh KK hP hl (by omega) b1 b2 m1 xb.2.1 e1 isT th qu fl fp ki ca (upd sizeOf q (zI x.1)) (qb fb) (wI k') x.1 FU 0 placed (by omega) (by unfold FU; omega) pm0
        have ez : t + thg x.2 x.1 0 = t := by show t + 0 = t; omega
        rw [ez] at t1
        have t1' : F_X8_lays_b235 many kk marks mz ms ml mp (zI j) (zI (bkH Λ)) hangs cancels ways few KK FU e1 isT th qu fl fp (upd sizeOf q (zI x.1)) placed ki ca (zI j) (qb fb) (zI q) (zI half) (wI k') (zI x.1) (nI x.2) (zI t) 1 = KK e1 isT th qu fl fp (upd sizeOf q (zI x.1)) placed' ki ca (zI j) (qb fb) (zI ((q + 1 : Nat) : Int)) (zI (xt t x)) (zI (xh half x)) (zI (enl x.2)) (wI k') := t1
        obtain ⟨p1, p2⟩ := plc_PI hw hP hl (by omega) (by omega) b1 m1 (by rw [← hH]; exact xb.2.1) x.1 (Nat.le_refl _)
        have eQ : (q : Int) + 1 = ((q + 1 : Nat) : Int) := by omega
        rw [eQ] at p1
        have hmx : Mt Λ (q + 1) (xt t x) (xh half x) (enl x.2) := ⟨t, half, last, x, hm, by omega, f2, rfl, rfl, rfl⟩
        obtain ⟨e', sizeOf', placed2, ki', ca', l', u1, u2, u3, u4, u5, u6, u7, u8⟩ := lays_b15_z hB hw hH hmm hL hR hT hh e4 e5 fb m ns (q + 1) k' (xt t x) (xh half x) (enl x.2) (plc κ μ n x x.1 Φ) x.1 (g + ((x.1 : Nat) - thg x.2 x.1 x.1)) e1 isT th qu fl fp (upd sizeOf q (zI x.1)) placed' ki ca (by omega) (by omega) hmx f3 (fun e => (f4 e).1) p1 (fun _ => by rw [show ((q + 1 : Nat) : Int) - 1 = (q : Int) by omega, p2]) t2
        have ecs := chs_s fb c f1
        have elen : q + 1 + (chs Λ fb ns ((q : Int) + 1) (xt t x) (xh half x) (enl x.2) k').length = q + (chs Λ fb (ns + 1) q t half last k).length := by rw [ecs, List.length_cons]; omega
        have ely : lyt κ μ n (chs Λ fb (ns + 1) q t half last k) Φ = lyt κ μ n (chs Λ fb ns ((q : Int) + 1) (xt t x) (xh half x) (enl x.2) k') (plc κ μ n x x.1 Φ) := by rw [ecs, lyt]
        have u1' : F_X8_lays_b15 many kk marks mz ms ml mp (zI j) (zI (bkH Λ)) hangs cancels ways few m e1 isT th qu fl fp (upd sizeOf q (zI x.1)) placed' ki ca (zI j) (qb fb) (zI ((q + 1 : Nat) : Int)) (zI (xt t x)) (zI (xh half x)) (zI (enl x.2)) (wI k') = some (e', upd isT 0 1, upd th 0 (zI n), upd qu 0 (zI ((q + 1 + (chs Λ fb ns ((q : Int) + 1) (xt t x) (xh half x) (enl x.2) k').length : Nat) : Int)), upd fl 0 (zI lt), upd fp 0 (zI pg), sizeOf', placed2, ki', ca') := u1
        have u2' : PMp (lyt κ μ n (chs Λ fb ns ((q : Int) + 1) (xt t x) (xh half x) (enl x.2) k') (plc κ μ n x x.1 Φ)) l' sizeOf' placed2 := u2
        have u3' : 0 < q + 1 + (chs Λ fb ns ((q : Int) + 1) (xt t x) (xh half x) (enl x.2) k').length → l' = fS (lyt κ μ n (chs Λ fb ns ((q : Int) + 1) (xt t x) (xh half x) (enl x.2) k') (plc κ μ n x x.1 Φ)) (((q + 1 + (chs Λ fb ns ((q : Int) + 1) (xt t x) (xh half x) (enl x.2) k').length : Nat) : Int) - 1) := u3
        rw [← ely] at u2' u3'
        rw [elen] at u1' u3'
        refine ⟨e', sizeOf', placed2, ki', ca', l', ?_, u2', u3', u4, Frm_t ?_ u5, Frm_t t3 u6, u7, u8⟩
        · have n20 : (2 : Int32) = zI ((2 : Nat) : Int) := rfl
          rw [F_X8_lays_b15, if_neg l3, state_z, Option.bind_some, hF1, F_X8_lays_b47, if_pos (show (0 : Int32) = 0 from rfl), if_pos (show (0 : Int32) = 0 from rfl), ← hKK]
          unfold F_X8_lays_b72
          have s1' : F_X8_lays_b81 many kk marks mz ms ml mp (zI j) (zI (bkH Λ)) hangs cancels ways few (fun m_in m_isThere m_things m_quires m_firstLetter m_firstPage m_sizeOf m_placed m_kindOf m_catchOf x1 x4 x5 x6 x7 x8 x9 x11 x12 x13 x14 => F_X8_lays_b47 many kk marks mz ms ml mp (zI j) (zI (bkH Λ)) hangs cancels ways few KK F1 m_in m_isThere m_things m_quires m_firstLetter m_firstPage m_sizeOf m_placed m_kindOf m_catchOf x1 x4 x5 x6 x7 x8 x9 x11 x12 x13 x14) ein isT th qu fl fp sizeOf placed ki ca (zI j) (qb fb) (zI q) (zI t) (zI half) (zI last) (wI k) (zI (stn q t half last)) (0 + 2) 0 0 = F_X8_lays_b235 many kk marks mz ms ml mp (zI j) (zI (bkH Λ)) hangs cancels ways few KK FU e1 isT th qu fl fp (upd sizeOf q (zI x.1)) placed ki ca (zI j) (qb fb) (zI q) (zI half) (wI k') (zI x.1) (nI x.2) (zI t) 1 := s1
          rw [s1', t1', hKK]
          exact u1'
        · have := Frm_u (n := 8) (a := (q : Int)) (X := sizeOf) (zI x.1) (by omega) (by omega)
          rw [Int.toNat_natCast] at this
          exact this
end TK

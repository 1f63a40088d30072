theorem wI_of {p : Int64} (h : 0 ≤ p.toInt) : ∃ k : Nat, k < 9223372036854775808 ∧ p = wI k := by
  refine ⟨p.toInt.toNat, by have := Int64.toInt_lt p; omega, ?_⟩
  unfold wI
  rw [← Int64.ofInt_eq_ofNat, Int.toNat_of_nonneg h, Int64.ofInt_toInt]
theorem lg_n {p : Int64} : (lg_cmp p 0 < 0 ↔ p.toInt < 0) ∧ (0 ≤ lg_cmp p 0 ↔ 0 ≤ p.toInt) := by
  have z : (0 : Int64).toInt = 0 := rfl
  have g : p > 0 ↔ 0 < p.toInt := by
    show (0 : Int64) < p ↔ _
    rw [Int64.lt_iff_toInt_lt, z]
  have e : p = 0 ↔ p.toInt = 0 := by
    constructor
    · intro w; rw [w]; rfl
    · intro w; exact Int64.toInt_inj.mp (by rw [w, z])
  unfold lg_cmp
  by_cases c : p > 0
  · rw [if_pos c]
    have := g.mp c
    exact ⟨⟨fun w => absurd w (by decide), fun w => by omega⟩, ⟨fun _ => by omega, fun _ => by decide⟩⟩
  · rw [if_neg c]
    have c' : ¬ 0 < p.toInt := fun w => c (g.mpr w)
    by_cases c2 : p = 0
    · rw [if_pos c2]
      have := e.mp c2
      exact ⟨⟨fun w => absurd w (by decide), fun w => by omega⟩, ⟨fun _ => by omega, fun _ => by decide⟩⟩
    · rw [if_neg c2]
      have : p.toInt ≠ 0 := fun w => c2 (e.mpr w)
      exact ⟨⟨fun _ => by omega, fun _ => by decide⟩, ⟨fun w => absurd w (by decide), fun w => by omega⟩⟩
theorem lg_lt0 {a b : Nat} (h1 : a < 9223372036854775808) (h2 : b < 9223372036854775808) : (lg_cmp (wI a) (wI b) < 0) ↔ a < b := by
  unfold lg_cmp
  by_cases c : wI a > wI b
  · rw [if_pos c]
    have := (wI_lt h2 h1).mp c
    exact ⟨fun w => absurd w (by decide), fun w => by omega⟩
  · rw [if_neg c]
    have c' : ¬ b < a := fun x => c ((wI_lt h2 h1).mpr x)
    by_cases e : wI a = wI b
    · rw [if_pos e]
      have := wI_inj h1 h2 e
      exact ⟨fun w => absurd w (by decide), fun w => by omega⟩
    · rw [if_neg e]
      have : a ≠ b := fun x => e (by rw [x])
      exact ⟨fun _ => by omega, fun _ => by decide⟩
theorem lg_e0 {a : Nat} (h1 : a < 9223372036854775808) : (lg_cmp (wI a) 0 = 0) ↔ a = 0 := by
  unfold lg_cmp
  by_cases c : wI a > 0
  · rw [if_pos c]
    have := (wI_lt (a := 0) (by omega) h1).mp c
    exact ⟨fun w => absurd w (by decide), fun w => by omega⟩
  · rw [if_neg c]
    have c' : ¬ 0 < a := fun x => c ((wI_lt (a := 0) (by omega) h1).mpr x)
    have e : wI a = 0 := by rw [show a = 0 by omega]; rfl
    rw [if_pos e]
    exact ⟨fun _ => by omega, fun _ => rfl⟩
theorem PI_0 {n : Int} {κ : Int → Int} {μ : Int → Int → Int} (hw : RwW n κ μ) (lt pg : Int) : PI n κ μ lt pg (lr κ n n.toNat 0 (b0 lt pg)) 0 0 ((0 : Nat) : Int) 0 := by
  have n0 := hw.1
  have ed : (n - 0).toNat = n.toNat := by omega
  obtain ⟨o1, o2, o3⟩ := lr_o κ n n.toNat 0 (b0 lt pg)
  have eT : fT (lr κ n n.toNat 0 (b0 lt pg)) = lend κ n n.toNat 0 := by
    rw [lr_T]
    show (0 : Int) + (lend κ n n.toNat 0 - 0) = _
    omega
  have hl0 := lend_x κ n 0 (by omega) n0
  rw [ed] at hl0
  refine ⟨PW_lr κ n (fun i i0 i1 => ⟨(hw.2.2 i i0 i1).1, (hw.2.2 i i0 i1).2.1⟩) _ _ _ (by omega) (PW_b0 lt pg), by rw [eT, hl0]; rfl, fun i i0 i1 => ?_, o1 3 0 0 (by omega) (by omega), o1 4 0 0 (by omega) (by omega), o1 0 0 0 (by omega) (by omega), o1 2 0 0 (by omega) (by omega)⟩
  rw [eT] at i1
  have ez : fT (b0 lt pg) = 0 := rfl
  have := o3 i (by rw [ez]; exact i0) (by rw [ez]; omega)
  rw [ez] at this
  rw [this, show (0 : Int) + (i - 0) = i by omega]
  exact ⟨rfl, fun w => absurd w ((lend_b κ n n.toNat 0).2.2 i i0 i1).1⟩
theorem lays_z {n : Int} {κ : Int → Int} {μ : Int → Int → Int} {lt pg : Int} {Λ : Book} {j : Int} {many kk marks hangs cancels mz ms ml mp few : NF} {ways : Nat → Int64} (hB : BkW Λ) (hw : RwW n κ μ) (hH : bkH Λ = hcn κ n.toNat) (hmm : RwM n κ μ j many kk marks) (hL : LvM Λ marks hangs cancels) (hR : RuB Λ j mz ms ml mp) (hT : TbW Λ ways few (fun _ _ _ _ => True)) (hh : ∀ h, 0 ≤ h → h < bkH Λ → hangs h.toNat = zI (30 * j + ixh κ n h)) (e4 : ml j.toNat = zI lt) (e5 : mp j.toNat = zI pg) (fb : Bool) (k : Nat) (hk : k < Wn Λ 8 0 0 0 0) (hk0 : fb = true → k = 0) (ein isT th qu fl fp sizeOf placed ki ca : NF) : ∃ (e' sizeOf' placed' ki' ca' : NF) (l' : Int), F_X8_lays many kk marks mz ms ml mp (zI j) (zI (bkH Λ)) hangs cancels ein ways few isT th qu fl fp sizeOf placed ki ca (zI j) (wI k) (qb fb) = some (e', upd isT 0 1, upd th 0 (zI n), upd qu 0 (zI ((chs Λ fb 8 0 0 0 0 k).length : Nat)), upd fl 0 (zI lt), upd fp 0 (zI pg), sizeOf', placed', ki', ca') ∧ PMp (lyt κ μ n (chs Λ fb 8 0 0 0 0 k) (lr κ n n.toNat 0 (b0 lt pg))) l' sizeOf' placed' ∧ (0 < (chs Λ fb 8 0 0 0 0 k).length → l' = fS (lyt κ μ n (chs Λ fb 8 0 0 0 0 k) (lr κ n n.toNat 0 (b0 lt pg))) (((chs Λ fb 8 0 0 0 0 k).length : Int) - 1)) ∧ (∀ r : Int, 0 ≤ r → r < n → ki' r.toNat = zI (κ r) ∧ ca' r.toNat = zI (μ r 4)) ∧ Frm 8 sizeOf sizeOf' ∧ Frm 64 placed placed' ∧ Frm 30 ki ki' ∧ Frm 30 ca ca' := by
  have p0 := PI_0 hw lt pg
  have q0 : fQ (lr κ n n.toNat 0 (b0 lt pg)) = 0 := p0.2.2.2.2.2.1
  obtain ⟨e', sizeOf', placed', ki', ca', l', r1, r2, r3, r4⟩ := lays_b15_z hB hw hH hmm hL hR hT hh e4 e5 fb FU 8 0 k 0 0 0 (lr κ n n.toNat 0 (b0 lt pg)) 0 0 ein isT th qu fl fp sizeOf placed ki ca (by omega) (by unfold FU; omega) ⟨rfl, rfl, rfl⟩ hk hk0 p0 (fun w => by omega) ⟨fun q h0 h1 => by omega, fun q p h0 h1 => by omega⟩
  rw [Nat.zero_add] at r1 r3
  exact ⟨e', sizeOf', placed', ki', ca', l', r1, r2, r3, r4⟩
theorem cur_z {n : Int} {κ : Int → Int} {μ : Int → Int → Int} {lt pg : Int} (hw : RwW n κ μ) (hlt : 1 ≤ lt ∧ lt ≤ 39) (hpg : 0 ≤ pg ∧ pg ≤ 999) {Φ : Fold} {l l' h Q g : Int} {N : Nat} (hN : N ≤ 8) (hQ : Q = N) (hh : hcn κ n.toNat ≤ h) {qu th gh le pa la : Int32} {sz ce ki wo qo po : NF} (hP : PI n κ μ lt pg Φ l h Q g) (hl : 0 < N → l = fS Φ ((N : Int) - 1)) (hC : PC Φ l qu th gh le pa la sz ce ki wo qo po) {isT mth mqu fl fp sizeOf placed kindOf catchOf : NF} (hM : PMp Φ l' sizeOf placed) (hl' : 0 < N → l' = fS Φ ((N : Int) - 1)) (hk : ∀ r : Int, 0 ≤ r → r < n → kindOf r.toNat = zI (κ r) ∧ catchOf r.toNat = zI (μ r 4)) : CurR true qu th gh le pa sz ce ki wo qo po (upd isT 0 1) (upd mth 0 (zI n)) (upd mqu 0 (zI N)) (upd fl 0 (zI lt)) (upd fp 0 (zI pg)) sizeOf placed kindOf catchOf ∧ gh = zI g := by
  obtain ⟨h1, h2, h3, h4, h5, h6, h7⟩ := hP
  have n1 := hw.2.1
  have n0 := hw.1
  have eT : fT Φ = n := by rw [h2]; unfold ixh; rw [if_neg (by omega)]
  have hwf : FoldW Φ := PW_end' h1 (by rw [h6, hQ]; intro w; exact hl (by omega)) (by omega) (by rw [h5]; exact hpg) (by rw [h4, h6]; omega)
  have hfc : FoldC Φ qu th gh le pa sz ce ki wo qo po := PC_end' hC (by rw [h6, hQ]; intro w; exact hl (by omega)) (by omega)
  refine ⟨⟨Φ, hwf, hfc, Or.inl ⟨rfl, upd_at _ _ _, ⟨?_, ?_, ?_, ?_⟩, fun q h0 h1 => ?_, fun q p h0 h1 p0 p1 => ?_, fun i i0 i1 => ?_, fun i i0 i1 i2 => ?_⟩⟩, by rw [hfc.1.2.2.1, h7]⟩
  · rw [h6, hQ]; exact upd_at _ _ _
  · rw [eT]; exact upd_at _ _ _
  · rw [h4]; exact upd_at _ _ _
  · rw [h5]; exact upd_at _ _ _
  · have := hM.1 q h0 h1
    rw [show 8 * (0 : Int) + q = q by omega]
    exact this
  · have := hM.2 q p h0 h1 p0 p1 (fun w => by rw [h6, hQ] at w h1; rw [hl' (by omega), ← w]; exact p1)
    rw [show 64 * (0 : Int) + 8 * q + p - 1 = 8 * q + p - 1 by omega]
    exact this
  · rw [show 30 * (0 : Int) + i = i by omega, (hk i i0 (by omega)).1, (h3 i i0 i1).1]
  · have e := h3 i i0 i1
    rw [show 30 * (0 : Int) + i = i by omega, (hk i i0 (by omega)).2, e.2 (by rw [← e.1]; exact i2)]
theorem go_zH {j : Nat} {K W M R : NF} {C : Int32} {many kk tt mm sz sg lt pg : NF} (hj : j < 6) (hr : RowR j K W M C many kk tt mm) (hu : RulR j R sz sg lt pg) (a0 a1 : Int32) (hg0 cn0 ein met0 : NF) (ways0 : Nat → Int64) (few0 : NF) : ∃ hg cn e' met' ways' few', F_X8_goThrough many kk mm sz sg lt pg a0 a1 hg0 cn0 ein met0 ways0 few0 (nI j) = some (nI j, zI (bkH (bkC K M C R)), hg, cn, e', met', ways', few') ∧ LvM (bkC K M C R) mm hg cn ∧ MtT (bkC K M C R) met' ∧ TbW (bkC K M C R) ways' few' (fun _ _ _ _ => True) ∧ ∀ h, 0 ≤ h → h < bkH (bkC K M C R) → hg h.toNat = zI (30 * (j : Int) + ixh (rK K) C.toInt h) := by
  obtain ⟨hw, _, hm⟩ := RowR_c hr
  obtain ⟨hB, hR, _⟩ := RulR_c (K := K) (M := M) (C := C) hj hu hw
  obtain ⟨hg1, cn1, x0, x1, q1, q2⟩ := asks_zH hw hm (by omega) (by omega) a0 a1 hg0 cn0
  obtain ⟨hg, cn, e1, hL⟩ := asks_z hw hm (by omega) (by omega) (R 2).toInt (R 3).toInt (R 4).toInt (R 5).toInt a0 a1 hg0 cn0
  have hL2 : LvM (bkC K M C R) mm hg cn := hL
  have e1' : F_X8_asks many kk a0 a1 hg0 cn0 (zI (j : Int)) = some (zI (j : Int), zI (bkH (bkC K M C R)), hg, cn) := e1
  obtain ⟨e', met', ways', few', r1, r2, r3⟩ := go_b7 hB hL2 hR 18414 FU 0 ein met0 ways0 few0 (by omega) (by unfold FU; omega) (fun r hr => by omega)
  have r1' : F_X8_goThrough_b7 mm sz sg lt pg FU (zI (j : Int)) (zI (bkH (bkC K M C R))) hg cn ein met0 ways0 few0 0 = some (zI (j : Int), zI (bkH (bkC K M C R)), hg, cn, e', met', ways', few') := r1
  refine ⟨hg, cn, e', met', ways', few', ?_, hL2, r2, r3, fun h h0 h1 => ?_⟩
  · rw [nI_zI]
    unfold F_X8_goThrough
    rw [e1', Option.bind_some]
    exact r1'
  · have : hg = hg1 := by
      rw [e1'] at q1
      have := Option.some.inj q1
      exact congrArg (fun z => z.2.2.1) this
    rw [this]
    exact q2 h h0 h1

theorem and31 (x : Int32) : ∃ j, j < 32 ∧ x &&& 31 = nI j := ⟨x.toBitVec.toNat % 32, Nat.mod_lt _ (by decide), pk_and x 5 (by decide)⟩
theorem lp_in {k LL : Nat} (j : Nat) {v : Int32} (hv : v = nI j) (hL : LL ≤ 3072) (h : 6 * k + j < LL) : vp_in (nI (6 * k) + v) LL := by
  subst hv
  rw [nI_add]
  exact inb_vp (inb_nI h (by omega))
theorem lp_go {k LL : Nat} (hL : LL ≤ 3072) (hk : 6 * k ≤ LL) (hc : ¬ nI LL - 6 < nI (6 * k)) : 6 * k + 6 ≤ LL := by
  rw [nI_zI, nI_zI] at hc
  simp (disch := omega) only [zl_0, zl_1, zl_2, zl_3, zl_4, zl_5, zl_6, zl_7, zl_8, zl_9, zl_10, zl_11, zl_12, zl_13, zl_14, zl_15, zl_16, zl_17, zl_18, zl_19, zl_20, zl_21, zl_22, zl_23, zl_24, zl_25, zl_26, zl_27, zl_28, zl_29, zl_30, zl_31, zl_32, zl_33, zl_34, zl_35, zl_36, zl_37, zl_38, zl_39, zl_40, zl_41, zl_42, zl_43, zl_44, zl_45, zl_46, zl_47, zl_48, zl_49, zl_50, zl_51, zl_52, zl_53, zl_54, zl_55, zl_56, zl_57, zl_58, zl_59, zl_60, zl_61, zl_62, zl_63, zl_64, zl_65, zl_66, zl_80, zl_97, zl_99, zl_103, zl_107, zl_112, zl_115, zl_100, zl_180, zl_210, zl_238, zl_255, zl_256, zl_400, zl_1000, zl_1024, zl_1260, zl_2000, zl_7140, zl_7200, zl_18414, zl_65536, zl_131072, zl_9999, zl_999, zI_add, zI_sub, zI_mul, zI_neg, zI_lt, zI_le, zI_eq, zI_clamp, ck_z, ckp_z, qb_z, qb_z0, Option.bind_some] at hc
  omega
set_option maxRecDepth 100000 in
theorem lp_next {X : QX} (hX : qok X code RL 4 (some .boolean) 1000) {Q : Unit → State → Prop} {ad : Nat → Nat} {cells slots : Nat} {Wd : List AC} {k : Nat} (K : QG X 4 Q (some ()) 18 [(0, .float (UInt32.ofNat 100)), (1, .ref 0), (2, .ref 104), (3, .int (nI (6 * (k + 1))))] [] Wd ad cells slots) : QG X 4 Q (some ()) 1048 [(0, .float (UInt32.ofNat 100)), (1, .ref 0), (2, .ref 104), (3, .int (nI (6 * k)))] [] Wd ad cells slots := by
  refine QG.iinc (lv' := [(3, .int (nI (6 * k) + 6)), (0, .float (UInt32.ofNat 100)), (1, .ref 0), (2, .ref 104)]) hX (qd K_L_law18 26 rfl) rfl (by decide) rfl ki_6 rfl ?_
  refine QG.goto (tgt := 18) hX (qd K_L_law18 27 rfl) rfl (by decide) ?_
  rw [show nI (6 * k) + 6 = nI (6 * (k + 1)) from nI_add (6 * k) 6]
  exact QG.jmp rfl K
set_option maxRecDepth 100000 in
set_option maxHeartbeats 4000000 in
theorem law_loop {X : QX} (hX : qok X code RL 4 (some .boolean) 1000) {Q : Unit → State → Prop} {b LL : Nat} {xs : Nat → Int32} (hs0 : va_X b LL xs X.s X.s.heap) (hsl : b < X.s.heap.size) (hsA : ¬ X.A b) (hsb : X.sA 100 = b) (hLL : LL ≤ 3072) {ad : Nat → Nat} {cells slots : Nat} (hcs : cells ≤ X.R.cells ∧ slots ≤ X.R.slots) (hend : ∀ (Wd : List AC) (lv : LV), QG X 4 Q (some ()) 1055 lv [.int 1] Wd ad cells slots) :
    ∀ (n k : Nat), LL < 6 * k + n → 6 * k ≤ LL → ∀ (A V : Nat → Nat → Int32) (B : Nat → Bool) (L M : Nat → Int64) (z tx : Option Nat) (ld : Int), ld ≤ k → Rel A V B L z tx ld → QG X 4 Q (some ()) 18 [(0, .float (UInt32.ofNat 100)), (1, .ref 0), (2, .ref 104), (3, .int (nI (6 * k)))] [] (wLx rfB kfB (va_rf z) (va_rf tx) A V B L M) ad cells slots := by
  intro n
  induction n with
  | zero => exact fun k h1 h2 => absurd h2 (by omega)
  | succ n ih =>
    intro k h1 h2 A V B L M z tx ld hld hR
    refine QG.iload_n hX (qd K_L_law0 10 rfl) rfl rfl ?_
    refine QG.aload_ns hX (qd K_L_law0 11 rfl) rfl rfl ?_
    refine QG.sclen hX hs0 hsl hsA hsb (qd K_L_law0 12 rfl) rfl ?_
    refine QG.bipush hX (qd K_L_law0 13 rfl) rfl kb_6 ?_
    refine QG.isub hX (qd K_L_law0 14 rfl) rfl ?_
    by_cases hc : nI LL - 6 < nI (6 * k)
    · refine QG.ifT hc (QG.icmp_gt (tgt := 1054) (oF := none) hX (qd K_L_law0 15 rfl) rfl (by decide) ?_ QG.nothing)
      refine QG.iconst hX (qd K_L_law18 28 rfl) rfl ki_1 ?_
      exact hend _ _
    · refine QG.ifF hc (QG.icmp_gt (tgt := 1054) (oT := none) hX (qd K_L_law0 15 rfl) rfl (by decide) QG.nothing ?_)
      have h6 := lp_go hLL h2 hc
      have hi0 : vp_in (nI (6 * k)) LL := inb_vp (inb_nI (by omega) (by omega))
      refine QG.aload_ns hX (qd K_L_law0 16 rfl) rfl rfl ?_
      refine QG.iload_n hX (qd K_L_law0 17 rfl) rfl rfl ?_
      refine QG.scld hX hs0 hsl hsA hsb (qd K_L_law0 18 rfl) rfl hi0 rfl ?_
      refine QG.bipush hX (qd K_L_law0 19 rfl) rfl kb_31 ?_
      refine QG.iand hX (qd K_L_law0 20 rfl) rfl ?_
      obtain ⟨j, hj, e⟩ := and31 (xs (nI (6 * k)).toNatClampNeg)
      rw [e]
      have nx : ∀ (A' V' : Nat → Nat → Int32) (B' : Nat → Bool) (L' M' : Nat → Int64) (z' tx' : Option Nat) (ld' : Int), ld' ≤ ld + 1 → Rel A' V' B' L' z' tx' ld' → QG X 4 Q (some ()) 1048 [(0, .float (UInt32.ofNat 100)), (1, .ref 0), (2, .ref 104), (3, .int (nI (6 * k)))] [] (wLx rfB kfB (va_rf z') (va_rf tx') A' V' B' L' M') ad cells slots := fun A' V' B' L' M' z' tx' ld' hl hR' => lp_next hX (ih (k + 1) (by omega) (by omega) A' V' B' L' M' z' tx' ld' (by omega) hR')
      have hl : ld < 1000 := by omega
      have p1 : vp_in (nI (6 * k) + 1) LL := lp_in 1 (by decide) hLL (by omega)
      have p2 : vp_in (nI (6 * k) + 2) LL := lp_in 2 (by decide) hLL (by omega)
      have p3 : vp_in (nI (6 * k) + 3) LL := lp_in 3 (by decide) hLL (by omega)
      have p4 : vp_in (nI (6 * k) + 4) LL := lp_in 4 (by decide) hLL (by omega)
      have p5 : vp_in (nI (6 * k) + 5) LL := lp_in 5 (by decide) hLL (by omega)
      clear ih
      obtain rfl | rfl | rfl | rfl | rfl | rfl | rfl | rfl | rfl | rfl | rfl | rfl | rfl | rfl | rfl | rfl | rfl | rfl | rfl | rfl | rfl | rfl | rfl | rfl | rfl | rfl | rfl | rfl | rfl | rfl | rfl | rfl : j = 0 ∨ j = 1 ∨ j = 2 ∨ j = 3 ∨ j = 4 ∨ j = 5 ∨ j = 6 ∨ j = 7 ∨ j = 8 ∨ j = 9 ∨ j = 10 ∨ j = 11 ∨ j = 12 ∨ j = 13 ∨ j = 14 ∨ j = 15 ∨ j = 16 ∨ j = 17 ∨ j = 18 ∨ j = 19 ∨ j = 20 ∨ j = 21 ∨ j = 22 ∨ j = 23 ∨ j = 24 ∨ j = 25 ∨ j = 26 ∨ j = 27 ∨ j = 28 ∨ j = 29 ∨ j = 30 ∨ j = 31 := by omega
      · exact QG.tswIn (off := 123) (tgt := 156) hX (qd K_L_law0 21 rfl) (by decide) (by decide) (by decide) (by decide) (D_put hX hs0 hsl hsA hsb hcs p1 rfl p2 rfl p3 rfl hl hR nx)
      · exact QG.tswIn (off := 166) (tgt := 199) hX (qd K_L_law0 21 rfl) (by decide) (by decide) (by decide) (by decide) (D_gone hX hs0 hsl hsA hsb hcs p1 rfl p2 rfl hl hR nx)
      · exact QG.tswIn (off := 199) (tgt := 232) hX (qd K_L_law0 21 rfl) (by decide) (by decide) (by decide) (by decide) (D_mark hX hs0 hsl hsA hsb hcs p1 rfl p2 rfl p3 rfl p4 rfl hl hR nx)
      · exact QG.tswIn (off := 252) (tgt := 285) hX (qd K_L_law0 21 rfl) (by decide) (by decide) (by decide) (by decide) (D_tear hX hs0 hsl hsA hsb hcs p1 rfl p2 rfl p3 rfl hl hR nx)
      · exact QG.tswIn (off := 295) (tgt := 328) hX (qd K_L_law0 21 rfl) (by decide) (by decide) (by decide) (by decide) (D_look hX hs0 hsl hsA hsb hcs p1 rfl p2 rfl p3 rfl hl hR nx)
      · exact QG.tswIn (off := 338) (tgt := 371) hX (qd K_L_law0 21 rfl) (by decide) (by decide) (by decide) (by decide) (D_about hX hs0 hsl hsA hsb hcs p1 rfl p2 rfl hl hR nx)
      · exact QG.tswIn (off := 371) (tgt := 404) hX (qd K_L_law0 21 rfl) (by decide) (by decide) (by decide) (by decide) (D_rule hX hs0 hsl hsA hsb hcs p1 rfl p2 rfl p3 rfl hl hR nx)
      · exact QG.tswIn (off := 414) (tgt := 447) hX (qd K_L_law0 21 rfl) (by decide) (by decide) (by decide) (by decide) (D_ways hX hs0 hsl hsA hsb hcs p1 rfl hl hR nx)
      · exact QG.tswIn (off := 438) (tgt := 471) hX (qd K_L_law0 21 rfl) (by decide) (by decide) (by decide) (by decide) (D_pick hX hs0 hsl hsA hsb hcs p1 rfl p2 rfl p3 rfl hl hR nx)
      · exact QG.tswIn (off := 501) (tgt := 534) hX (qd K_L_law0 21 rfl) (by decide) (by decide) (by decide) (by decide) (D_fewest hX hs0 hsl hsA hsb hcs p1 rfl hl hR nx)
      · exact QG.tswIn (off := 524) (tgt := 557) hX (qd K_L_law0 21 rfl) (by decide) (by decide) (by decide) (by decide) (D_why hX hs0 hsl hsA hsb hcs p1 rfl hl hR nx)
      · exact QG.tswIn (off := 547) (tgt := 580) hX (qd K_L_law0 21 rfl) (by decide) (by decide) (by decide) (by decide) (D_folding hX hs0 hsl hsA hsb hcs p1 rfl hl hR nx)
      · exact QG.tswIn (off := 570) (tgt := 603) hX (qd K_L_law0 21 rfl) (by decide) (by decide) (by decide) (by decide) (D_size hX hs0 hsl hsA hsb hcs p1 rfl hl hR nx)
      · exact QG.tswIn (off := 593) (tgt := 626) hX (qd K_L_law0 21 rfl) (by decide) (by decide) (by decide) (by decide) (D_place hX hs0 hsl hsA hsb hcs p1 rfl p2 rfl hl hR nx)
      · exact QG.tswIn (off := 626) (tgt := 659) hX (qd K_L_law0 21 rfl) (by decide) (by decide) (by decide) (by decide) (D_thing hX hs0 hsl hsA hsb hcs p1 rfl p2 rfl hl hR nx)
      · exact QG.tswIn (off := 659) (tgt := 692) hX (qd K_L_law0 21 rfl) (by decide) (by decide) (by decide) (by decide) (D_where hX hs0 hsl hsA hsb hcs p1 rfl p2 rfl p3 rfl hl hR nx)
      · exact QG.tswIn (off := 702) (tgt := 735) hX (qd K_L_law0 21 rfl) (by decide) (by decide) (by decide) (by decide) (D_write hX hs0 hsl hsA hsb hcs hl hR nx)
      · exact QG.tswIn (off := 715) (tgt := 748) hX (qd K_L_law0 21 rfl) (by decide) (by decide) (by decide) (by decide) (D_out hX hs0 hsl hsA hsb hcs p1 rfl hl hR nx)
      · exact QG.tswIn (off := 738) (tgt := 771) hX (qd K_L_law0 21 rfl) (by decide) (by decide) (by decide) (by decide) (D_feed hX hs0 hsl hsA hsb hcs p1 rfl p2 rfl p3 rfl p4 rfl p5 rfl hl hR nx)
      · exact QG.tswIn (off := 801) (tgt := 834) hX (qd K_L_law0 21 rfl) (by decide) (by decide) (by decide) (by decide) (D_end hX hs0 hsl hsA hsb hcs p1 rfl hl hR nx)
      · exact QG.tswIn (off := 824) (tgt := 857) hX (qd K_L_law0 21 rfl) (by decide) (by decide) (by decide) (by decide) (D_take hX hs0 hsl hsA hsb hcs hl hR nx)
      · exact QG.tswIn (off := 837) (tgt := 870) hX (qd K_L_law0 21 rfl) (by decide) (by decide) (by decide) (by decide) (D_read hX hs0 hsl hsA hsb hcs hl hR nx)
      · exact QG.tswIn (off := 850) (tgt := 883) hX (qd K_L_law0 21 rfl) (by decide) (by decide) (by decide) (by decide) (D_fault hX hs0 hsl hsA hsb hcs p1 rfl hl hR nx)
      · exact QG.tswIn (off := 873) (tgt := 906) hX (qd K_L_law0 21 rfl) (by decide) (by decide) (by decide) (by decide) (D_copy hX hs0 hsl hsA hsb hcs p1 rfl hl hR nx)
      · exact QG.tswIn (off := 896) (tgt := 929) hX (qd K_L_law0 21 rfl) (by decide) (by decide) (by decide) (by decide) (D_against hX hs0 hsl hsA hsb hcs p1 rfl p2 rfl hl hR nx)
      · exact QG.tswIn (off := 929) (tgt := 962) hX (qd K_L_law0 21 rfl) (by decide) (by decide) (by decide) (by decide) (D_differs hX hs0 hsl hsA hsb hcs p1 rfl p2 rfl p3 rfl p4 rfl hl hR nx)
      · exact QG.tswIn (off := 982) (tgt := 1015) hX (qd K_L_law0 21 rfl) (by decide) (by decide) (by decide) (by decide) (D_ideal hX hs0 hsl hsA hsb hcs p1 rfl p2 rfl hl hR nx)
      · exact QG.tswOut (tgt := 1048) hX (qd K_L_law0 21 rfl) (Or.inr (by decide)) (by decide) (nx A V B L M z tx ld (by omega) hR)
      · exact QG.tswOut (tgt := 1048) hX (qd K_L_law0 21 rfl) (Or.inr (by decide)) (by decide) (nx A V B L M z tx ld (by omega) hR)
      · exact QG.tswOut (tgt := 1048) hX (qd K_L_law0 21 rfl) (Or.inr (by decide)) (by decide) (nx A V B L M z tx ld (by omega) hR)
      · exact QG.tswOut (tgt := 1048) hX (qd K_L_law0 21 rfl) (Or.inr (by decide)) (by decide) (nx A V B L M z tx ld (by omega) hR)
      · exact QG.tswOut (tgt := 1048) hX (qd K_L_law0 21 rfl) (Or.inr (by decide)) (by decide) (nx A V B L M z tx ld (by omega) hR)

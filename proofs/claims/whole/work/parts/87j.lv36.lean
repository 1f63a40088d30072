abbrev RCh : Type := Option (Bool × Int32 × Int32 × Int32 × Int32 × NF × NF × NF × Int32 × Int32 × Int32 × Int32 × Int32 × (Nat → Int64) × NF × NF × NF × Int32)
abbrev KC2 : Type := Int32 → Int32 → Int32 → Int32 → NF → NF → NF → Int32 → Int32 → Int32 → Int32 → Int32 → (Nat → Int64) → NF → NF → NF → Int32 → Int32 → Int64 → Int32 → Int32 → Int32 → Int32 → RCh
abbrev KC6 : Type := Int32 → Int32 → Int32 → Int32 → NF → NF → NF → Int32 → Int32 → Int32 → Int32 → Int32 → (Nat → Int64) → NF → NF → NF → Int32 → Int32 → Int64 → Int32 → Int32 → Int32 → Int32 → Int32 → Int32 → Int32 → RCh
section CW
variable {Λ : Book} {L ld : Int} {letters numbers spots waters sides ties groups gcs : NF}
theorem leastBehind_z (hK : Rky Λ L ld letters numbers spots waters sides ties groups gcs) {q : Nat} {t half last : Int} (hq : q < 8) (t0 : 0 ≤ t) (t1 : t < bkH Λ) (a0 : 0 ≤ half) (a1 : half ≤ 4 * q) (g0 : 0 ≤ 2 * half - t) (g1 : 2 * half - t ≤ 4 * q) {x : Nat × Nat} (hx : x ∈ lyM Λ q t half last) (hw : 0 < Wn Λ (8 - (q + 1)) ((q : Int) + 1) (xt t x) (xh half x) (enl x.2)) {counts : Nat → Int64} {bests : NF} (hM : Mem Λ L ld counts bests) (hk : xt t x < bkH Λ → q + 1 < 8 → Kn ld bests (nm Λ L ((q + 1 : Nat) : Int) (xt t x) (xh half x) (enl x.2))) : F_X4_leastBehind (zI (bkH Λ)) ties (zI L) (zI x.1) (nI x.2) (zI (thg x.2 x.1 x.1)) (zI ((x.1 : Int) - thg x.2 x.1 x.1)) (zI ld) bests (zI q) (zI t) (zI (2 * half - t)) = some (zI (xg x + Fn Λ (8 - (q + 1)) ((q : Int) + 1) (xt t x) (xh half x) (enl x.2))) := by
  obtain ⟨hB, hT, hL, hLt, hG, l0, l1⟩ := id hK
  have h30 := hB.2.1
  obtain ⟨b1, b2, _⟩ := lyM_mem.mp hx
  obtain ⟨be, ee, eb⟩ := ends_z b1 b2
  have xb2 := xt_b hx
  have exg : (x.1 : Int) - thg x.2 x.1 x.1 = xg x := rfl
  have sz : (2 : Int) * xh half x - xt t x = 2 * half - t + xg x := by unfold xh xt xg; omega
  have eq1 : zI (q : Int) + 1 = zI ((q + 1 : Nat) : Int) := by rw [zl_1, zI_add]; congr 1
  have et : zI t + zI (thg x.2 x.1 x.1) = zI (xt t x) := zI_add _ _
  have eg : zI (2 * half - t) + zI (xg x) = zI (2 * xh half x - xt t x) := by rw [zI_add, sz]
  have le : F_X4_leastFrom (zI (bkH Λ)) ties (zI L) (zI ld) bests (zI ((q + 1 : Nat) : Int)) (zI (xt t x)) (zI (2 * xh half x - xt t x)) (zI (enl x.2)) = some (zI (Fn Λ (8 - (q + 1)) ((q : Int) + 1) (xt t x) (xh half x) (enl x.2))) := by
    by_cases z : xt t x < bkH Λ
    · have q8 : q + 1 < 8 := by
        by_cases w : q + 1 < 8
        · exact w
        · exfalso
          rw [show 8 - (q + 1) = 0 by omega, Wn, if_neg (by omega)] at hw
          omega
      have := least_z hB hT hL l0 l1 hM (q := q + 1) q8 (by omega) z (by omega) (by omega) (by omega) (by omega) (enl_b x.2) (hk z q8)
      rw [this]
      unfold bst
      have hw' : 0 < Wn Λ (8 - (q + 1)) ((q + 1 : Nat) : Int) (xt t x) (xh half x) (enl x.2) := hw
      rw [if_pos hw']
      rfl
    · have z2 : xt t x = bkH Λ := by omega
      have l2 : ¬ zI (xt t x) < zI (bkH Λ) := by rw [z2]; simp (disch := omega) only [zl_0, zl_1, zl_2, zl_3, zl_4, zl_5, zl_6, zl_7, zl_8, zl_9, zl_10, zl_11, zl_12, zl_13, zl_14, zl_15, zl_16, zl_17, zl_18, zl_19, zl_20, zl_21, zl_22, zl_23, zl_24, zl_25, zl_26, zl_27, zl_28, zl_29, zl_30, zl_31, zl_32, zl_33, zl_34, zl_35, zl_36, zl_37, zl_38, zl_39, zl_40, zl_41, zl_42, zl_43, zl_44, zl_45, zl_46, zl_47, zl_48, zl_49, zl_50, zl_51, zl_52, zl_53, zl_54, zl_55, zl_56, zl_57, zl_58, zl_59, zl_60, zl_61, zl_62, zl_63, zl_64, zl_65, zl_66, zl_80, zl_97, zl_99, zl_103, zl_107, zl_112, zl_115, zl_100, zl_180, zl_210, zl_238, zl_255, zl_256, zl_400, zl_1000, zl_1024, zl_1260, zl_2000, zl_7140, zl_7200, zl_18414, zl_65536, zl_131072, zl_9999, zl_999, zI_add, zI_sub, zI_mul, zI_neg, zI_lt, zI_le, zI_eq, zI_clamp, ck_z, ckp_z, qb_z, qb_z0, Option.bind_some]; omega
      unfold F_X4_leastFrom
      rw [if_neg l2]
      have : Fn Λ (8 - (q + 1)) ((q : Int) + 1) (xt t x) (xh half x) (enl x.2) = 0 := by
        generalize 8 - (q + 1) = m
        cases m <;> (rw [Fn, if_pos z2])
      rw [this]
      rfl
  unfold F_X4_leastBehind
  rw [ee, Option.bind_some, eq1, et, exg, eg, eb, le, Option.bind_some, zI_add]
/-- how a lay counts in the class's choice -/
noncomputable def wC (Λ : Book) (few : Bool) (q : Nat) (t half last : Int) (x : Nat × Nat) : Nat := if bq (Cn Λ q t half last x) = true then wt Λ few (8 - (q + 1)) q t half last x else 0
theorem cw_b68 (hK : Rky Λ L ld letters numbers spots waters sides ties groups gcs) (KK : KC2) (few : Bool) {q : Nat} {t half last : Int} (hq : q < 8) (t0 : 0 ≤ t) (t1 : t < bkH Λ) (a0 : 0 ≤ half) (a1 : half ≤ 4 * q) (g0 : 0 ≤ 2 * half - t) (g1 : 2 * half - t ≤ 4 * q) (hl : last = 0 ∨ last = 1) (hm : Mt Λ q t half last) (hW : 0 < Wn Λ (8 - q) q t half last) {x : Nat × Nat} {k' : Nat} (hx : x ∈ lyM Λ q t half last) (cs cm : NF) (ch : Int32) : ∀ (rest : List (Nat × Nat)) (m i S K k : Nat) (seats nexts aheads : NF) (a b c d e : Int32) (counts : Nat → Int64) (bests : NF) (l : List (Nat × Nat)), rst (gdC Λ (σC Λ) (τC Λ) t) S K = rest → rest.length + 2 < m → l.length = i → l ++ rest = lyC Λ t → AdI Λ (σC Λ) (τC Λ) t (-1) S K seats nexts aheads → Mem Λ L ld counts bests → k < 9223372036854775808 → fwx (wC Λ few q t half last) rest k = some (x, k') → ∃ (ns nk : Int32) (se ne ah : NF) (ap : Int32) (counts' : Nat → Int64) (bests' : NF), F_X4_chooseWay_b68 (zI (bkH Λ)) letters numbers spots waters sides ties (zI L) (zI (bkZ Λ)) (zI (bkG Λ)) (zI (bkL Λ)) (zI ld) groups gcs KK m (zI t) (-1) (zI S) (nI K) seats nexts aheads a b c d e counts bests cs cm ch (qb few) (wI k) (zI t) (zI (2 * half - t)) (zI last) (zI q) 0 (zI (Fn Λ (8 - q) q t half last)) (zI i) = KK (zI t) (-1) ns nk se ne ah (zI x.1) (nI x.2) (zI (thg x.2 x.1 x.1)) (zI (xg x)) ap counts' bests' (upd cs q (zI x.1)) (upd cm q (nI x.2)) (zI ((q + 1 : Nat) : Int)) (qb few) (wI k') (zI (xt t x)) (zI (2 * xh half x - xt t x)) (zI (enl x.2)) (zI ((q + 1 : Nat) : Int)) ∧ Mem Λ L ld counts' bests' ∧ KnM ld bests bests' ∧ (xt t x < bkH Λ → q + 1 < 8 → Kn ld bests' (nm Λ L ((q + 1 : Nat) : Int) (xt t x) (xh half x) (enl x.2)))
  | [], m, i, S, K, k, seats, nexts, aheads, a, b, c, d, e, counts, bests, l, hr, hmm, hi, hl2, hI, hM, hk9, hf => by
    rw [fwx] at hf
    cases hf
  | y :: rest, 0, i, S, K, k, seats, nexts, aheads, a, b, c, d, e, counts, bests, l, hr, hmm, hi, hl2, hI, hM, hk9, hf => absurd hmm (Nat.not_lt_zero _)
  | y :: rest, m + 1, i, S, K, k, seats, nexts, aheads, a, b, c, d, e, counts, bests, l, hr, hmm, hi, hl2, hI, hM, hk9, hf => by
    obtain ⟨hB, hT, hL, hLt, hG, l0, l1⟩ := id hK
    have h30 := hB.2.1
    have len : l.length + (y :: rest).length ≤ 238 := by
      have := lyC_len Λ t
      rw [← hl2, List.length_append] at this
      exact this
    rw [List.length_cons] at len hmm
    have l8 : ¬ 238 ≤ zI (i : Int) := by rw [show (238 : Int32) = zI 238 from rfl]; simp (disch := omega) only [zl_0, zl_1, zl_2, zl_3, zl_4, zl_5, zl_6, zl_7, zl_8, zl_9, zl_10, zl_11, zl_12, zl_13, zl_14, zl_15, zl_16, zl_17, zl_18, zl_19, zl_20, zl_21, zl_22, zl_23, zl_24, zl_25, zl_26, zl_27, zl_28, zl_29, zl_30, zl_31, zl_32, zl_33, zl_34, zl_35, zl_36, zl_37, zl_38, zl_39, zl_40, zl_41, zl_42, zl_43, zl_44, zl_45, zl_46, zl_47, zl_48, zl_49, zl_50, zl_51, zl_52, zl_53, zl_54, zl_55, zl_56, zl_57, zl_58, zl_59, zl_60, zl_61, zl_62, zl_63, zl_64, zl_65, zl_66, zl_80, zl_97, zl_99, zl_103, zl_107, zl_112, zl_115, zl_100, zl_180, zl_210, zl_238, zl_255, zl_256, zl_400, zl_1000, zl_1024, zl_1260, zl_2000, zl_7140, zl_7200, zl_18414, zl_65536, zl_131072, zl_9999, zl_999, zI_add, zI_sub, zI_mul, zI_neg, zI_lt, zI_le, zI_eq, zI_clamp, ck_z, ckp_z, qb_z, qb_z0, Option.bind_some]; omega
    have ei : zI (i : Int) + 1 = zI ((i + 1 : Nat) : Int) := by rw [zl_1, zI_add]; congr 1
    rcases advance_z hB hT t0 (by omega) S K seats nexts aheads a b c d e hI with ⟨s, kk, se, ne, ah, r1, r2, r3, r4⟩ | ⟨r1, S', K', se, ne, ah, a', b', c', d', e', r2⟩
    · rw [hr, List.cons.injEq] at r1
      have hC : y ∈ lyC Λ t := by rw [← hl2]; exact List.mem_append_right _ List.mem_cons_self
      obtain ⟨c1, b1, e1, e2, e3, e4⟩ := countBehind_z hK hq t0 t1 a0 a1 g0 g1 hl hm hC hM
      rw [F_X4_chooseWay_b68, if_neg l8, if_pos (show (0 : Int32) = 0 from rfl), r2, Option.bind_some, if_neg (show ¬ qb true = 0 by decide)]
      obtain ⟨ey, er⟩ := r1
      have es : s = y.1 := by rw [ey]
      have ek : kk = y.2 := by rw [ey]
      subst es
      subst ek
      obtain ⟨K6, hK6⟩ : ∃ K6 : KC6, K6 = fun s_first s_last s_nextSize s_nextMask s_seats s_nexts s_aheads s_size s_mask s_things s_ghosts s_ahead k_counts k_bests k_chosenSizes k_chosenMasks k_chosen x3 x4 x6 x7 x8 x9 x10 x11 x12 => F_X4_chooseWay_b68 (zI (bkH Λ)) letters numbers spots waters sides ties (zI L) (zI (bkZ Λ)) (zI (bkG Λ)) (zI (bkL Λ)) (zI ld) groups gcs KK m s_first s_last s_nextSize s_nextMask s_seats s_nexts s_aheads s_size s_mask s_things s_ghosts s_ahead k_counts k_bests k_chosenSizes k_chosenMasks k_chosen x3 x4 x6 x7 x8 x9 x10 x11 x12 := ⟨_, rfl⟩
      rw [← hK6]
      show ∃ (ns nk : Int32) (se ne ah : NF) (ap : Int32) (counts' : Nat → Int64) (bests' : NF), (F_X4_countBehind (zI (bkH Λ)) letters ties (zI L) (zI (bkL Λ)) (zI y.1) (nI y.2) (zI (thg y.2 y.1 y.1)) (zI ((y.1 : Int) - thg y.2 y.1 y.1)) (zI (ahc (σC Λ) t y.2 y.1 y.1)) (zI ld) groups gcs counts bests (zI q) (zI t) (zI (2 * half - t)) (zI last)).bind _ = _ ∧ _
      rw [e1, Option.bind_some]
      -- what it weighs
      have b134 (X : RCh) (hX : X = F_X4_chooseWay_b134 (zI (bkH Λ)) letters numbers spots waters sides ties (zI L) (zI (bkZ Λ)) (zI (bkG Λ)) (zI (bkL Λ)) (zI ld) groups gcs K6 (zI t) (-1) (zI y.1) (nI (y.2 + 1)) se ne ah (zI y.1) (nI y.2) (zI (thg y.2 y.1 y.1)) (zI ((y.1 : Int) - thg y.2 y.1 y.1)) (zI (ahc (σC Λ) t y.2 y.1 y.1)) c1 b1 cs cm ch (qb few) (wI k) (zI t) (zI (2 * half - t)) (zI last) (zI q) (zI (Fn Λ (8 - q) q t half last)) (zI i) (wI (wC Λ few q t half last y))) : ∃ (ns nk : Int32) (se ne ah : NF) (ap : Int32) (counts' : Nat → Int64) (bests' : NF), X = KK (zI t) (-1) ns nk se ne ah (zI x.1) (nI x.2) (zI (thg x.2 x.1 x.1)) (zI (xg x)) ap counts' bests' (upd cs q (zI x.1)) (upd cm q (nI x.2)) (zI ((q + 1 : Nat) : Int)) (qb few) (wI k') (zI (xt t x)) (zI (2 * xh half x - xt t x)) (zI (enl x.2)) (zI ((q + 1 : Nat) : Int)) ∧ Mem Λ L ld counts' bests' ∧ KnM ld bests bests' ∧ (xt t x < bkH Λ → q + 1 < 8 → Kn ld bests' (nm Λ L ((q + 1 : Nat) : Int) (xt t x) (xh half x) (enl x.2))) := by
        have wl : wC Λ few q t half last y < 9223372036854775808 := by
          have w := Wn_lt Λ (8 - (q + 1)) (by omega) ((q : Int) + 1) (xt t y) (xh half y) (enl y.2)
          unfold wC wt
          (repeat' split) <;> omega
        unfold F_X4_chooseWay_b134 F_X4_chooseWay_b147 at hX
        rw [fwx] at hf
        by_cases c : k < wC Λ few q t half last y
        · rw [if_pos c] at hf
          have l2 : ¬ 0 ≤ lg_cmp (wI k) (wI (wC Λ few q t half last y)) := fun w => by have := (lg_ge0 hk9 wl).mp w; omega
          rw [if_neg l2, if_neg (by decide), ei, hK6] at hX
          have hfe := Option.some.inj hf
          have hyx : y = x := congrArg Prod.fst hfe
          have hkk : k = k' := congrArg Prod.snd hfe
          subst hyx
          subst hkk
          have hmm2 : 1 ≤ m := by omega
          obtain ⟨m', rfl⟩ : ∃ m', m = m' + 1 := ⟨m - 1, by omega⟩
          have l0' : wI k - 0 = wI k := Int64.sub_zero _
          rw [l0'] at hX
          obtain ⟨a1', a2', _⟩ := lyM_mem.mp hx
          obtain ⟨be, ee, eb⟩ := ends_z a1' a2'
          have eb171 : F_X4_chooseWay_b171 (zI (bkH Λ)) letters numbers spots waters sides ties (zI L) (zI (bkZ Λ)) (zI (bkG Λ)) (zI (bkL Λ)) (zI ld) groups gcs KK (zI t) (-1) (zI y.1) (nI (y.2 + 1)) se ne ah (zI y.1) (nI y.2) (zI (thg y.2 y.1 y.1)) (zI ((y.1 : Int) - thg y.2 y.1 y.1)) (zI (ahc (σC Λ) t y.2 y.1 y.1)) c1 b1 cs cm ch (qb few) (wI k) (zI t) (zI (2 * half - t)) (zI q) 1 = KK (zI t) (-1) (zI y.1) (nI (y.2 + 1)) se ne ah (zI y.1) (nI y.2) (zI (thg y.2 y.1 y.1)) (zI (xg y)) (zI (ahc (σC Λ) t y.2 y.1 y.1)) c1 b1 (upd cs q (zI y.1)) (upd cm q (nI y.2)) (zI ((q + 1 : Nat) : Int)) (qb few) (wI k) (zI (xt t y)) (zI (2 * xh half y - xt t y)) (zI (enl y.2)) (zI ((q + 1 : Nat) : Int)) := by
            have cq {α : Type} (o : Option α) : ck (inb (zI (q : Int)) 8) o = o := ck_z (by omega) (by omega) (by omega)
            have clq : (zI (q : Int)).toNatClampNeg = q := by rw [zI_clamp (by omega) (by omega)]; omega
            have eq1 : zI (q : Int) + 1 = zI ((q + 1 : Nat) : Int) := by rw [zl_1, zI_add]; congr 1
            have et : zI t + zI (thg y.2 y.1 y.1) = zI (xt t y) := zI_add _ _
            have sz : (2 : Int) * xh half y - xt t y = 2 * half - t + xg y := by unfold xh xt xg; omega
            have exg : (y.1 : Int) - thg y.2 y.1 y.1 = xg y := rfl
            have eg : zI (2 * half - t) + zI (xg y) = zI (2 * xh half y - xt t y) := by rw [zI_add, sz]
            unfold F_X4_chooseWay_b171 F_X4_choose
            rw [if_neg (by decide), cq, cq, clq, Option.bind_some, ee, Option.bind_some, eq1, et, exg, eg, eb]
          refine ⟨zI y.1, nI (y.2 + 1), se, ne, ah, zI (ahc (σC Λ) t y.2 y.1 y.1), c1, b1, ?_, e2, e3, e4 ?_⟩
          · have hX2 : X = F_X4_chooseWay_b68 (zI (bkH Λ)) letters numbers spots waters sides ties (zI L) (zI (bkZ Λ)) (zI (bkG Λ)) (zI (bkL Λ)) (zI ld) groups gcs KK (m' + 1) (zI t) (-1) (zI y.1) (nI (y.2 + 1)) se ne ah (zI y.1) (nI y.2) (zI (thg y.2 y.1 y.1)) (zI ((y.1 : Int) - thg y.2 y.1 y.1)) (zI (ahc (σC Λ) t y.2 y.1 y.1)) c1 b1 cs cm ch (qb few) (wI k) (zI t) (zI (2 * half - t)) (zI last) (zI q) 1 (zI (Fn Λ (8 - q) q t half last)) (zI ((i + 1 : Nat) : Int)) := hX
            rw [hX2, F_X4_chooseWay_b68]
            by_cases c8 : i + 1 = 238
            · have l9 : 238 ≤ zI ((i + 1 : Nat) : Int) := by rw [c8]; decide
              rw [if_pos l9]
              exact eb171
            · have l9 : ¬ 238 ≤ zI ((i + 1 : Nat) : Int) := by rw [show (238 : Int32) = zI 238 from rfl]; simp (disch := omega) only [zl_0, zl_1, zl_2, zl_3, zl_4, zl_5, zl_6, zl_7, zl_8, zl_9, zl_10, zl_11, zl_12, zl_13, zl_14, zl_15, zl_16, zl_17, zl_18, zl_19, zl_20, zl_21, zl_22, zl_23, zl_24, zl_25, zl_26, zl_27, zl_28, zl_29, zl_30, zl_31, zl_32, zl_33, zl_34, zl_35, zl_36, zl_37, zl_38, zl_39, zl_40, zl_41, zl_42, zl_43, zl_44, zl_45, zl_46, zl_47, zl_48, zl_49, zl_50, zl_51, zl_52, zl_53, zl_54, zl_55, zl_56, zl_57, zl_58, zl_59, zl_60, zl_61, zl_62, zl_63, zl_64, zl_65, zl_66, zl_80, zl_97, zl_99, zl_103, zl_107, zl_112, zl_115, zl_100, zl_180, zl_210, zl_238, zl_255, zl_256, zl_400, zl_1000, zl_1024, zl_1260, zl_2000, zl_7140, zl_7200, zl_18414, zl_65536, zl_131072, zl_9999, zl_999, zI_add, zI_sub, zI_mul, zI_neg, zI_lt, zI_le, zI_eq, zI_clamp, ck_z, ckp_z, qb_z, qb_z0, Option.bind_some]; omega
              rw [if_neg l9, if_neg (by decide)]
              exact eb171
          · have := hx
            rw [lyM_C hB t0 (by omega) a0 (by omega), List.mem_filter] at this
            exact bq_iff.mp this.2
        · rw [if_neg c] at hf
          have l2 : 0 ≤ lg_cmp (wI k) (wI (wC Λ few q t half last y)) := (lg_ge0 hk9 wl).mpr (by omega)
          rw [if_pos l2, if_pos (show (0 : Int32) = 0 from rfl), wI_sub (by omega), ei, hK6] at hX
          obtain ⟨ns, nk, se', ne', ah', ap, c2, b2, f1, f2, f3, f4⟩ := cw_b68 hK KK few hq t0 t1 a0 a1 g0 g1 hl hm hW hx cs cm ch rest m (i + 1) y.1 (y.2 + 1) (k - wC Λ few q t half last y) se ne ah (zI y.1) (nI y.2) (zI (thg y.2 y.1 y.1)) (zI ((y.1 : Int) - thg y.2 y.1 y.1)) (zI (ahc (σC Λ) t y.2 y.1 y.1)) c1 b1 (l ++ [y]) er.symm (by omega) (by rw [List.length_append]; show l.length + 1 = i + 1; omega) (by rw [List.append_assoc, List.singleton_append]; exact hl2) r3 e2 (by omega) hf
          exact ⟨ns, nk, se', ne', ah', ap, c2, b2, by rw [hX]; exact f1, f2, KnM_t e3 f3, f4⟩
      have ew : ∀ (W : Nat), W = wC Λ few q t half last y → wI W = wI (wC Λ few q t half last y) := fun W h => by rw [h]
      have wnl := Wn_lt Λ (8 - (q + 1)) (by omega) ((q : Int) + 1) (xt t y) (xh half y) (enl y.2)
      cases few with
      | false =>
        rw [if_pos (show qb false = 0 from rfl)]
        refine b134 _ ?_
        rfl
      | true =>
        rw [if_neg (show ¬ qb true = 0 by decide)]
        by_cases cC : Cn Λ q t half last y
        · have hyM : y ∈ lyM Λ q t half last := by
            rw [lyM_C hB t0 (by omega) a0 (by omega), List.mem_filter]
            exact ⟨hC, bq_t cC⟩
          have eif : (if bq (Cn Λ q t half last y) = true then Wn Λ (8 - (q + 1)) ((q : Int) + 1) (xt t y) (xh half y) (enl y.2) else 0) = Wn Λ (8 - (q + 1)) ((q : Int) + 1) (xt t y) (xh half y) (enl y.2) := by rw [bq_t cC, if_pos rfl]
          have ewC : wC Λ true q t half last y = if 0 < Wn Λ (8 - (q + 1)) ((q : Int) + 1) (xt t y) (xh half y) (enl y.2) ∧ Fn Λ (8 - (q + 1)) ((q : Int) + 1) (xt t y) (xh half y) (enl y.2) + xg y = Fn Λ (8 - (q + 1) + 1) q t half last then Wn Λ (8 - (q + 1)) ((q : Int) + 1) (xt t y) (xh half y) (enl y.2) else 0 := by
            unfold wC wt
            rw [bq_t cC, if_pos rfl, if_pos rfl]
          have e8 : 8 - (q + 1) + 1 = 8 - q := by omega
          rw [e8] at ewC
          rw [eif]
          by_cases c0 : Wn Λ (8 - (q + 1)) ((q : Int) + 1) (xt t y) (xh half y) (enl y.2) ≤ 0
          · rw [if_pos ((lg_0 wnl).mpr c0)]
            refine b134 _ ?_
            rw [ewC, if_neg (by omega), show Wn Λ (8 - (q + 1)) ((q : Int) + 1) (xt t y) (xh half y) (enl y.2) = 0 by omega]
          · have fb := Fn_b Λ (8 - (q + 1)) ((q : Int) + 1) (xt t y) (xh half y) (enl y.2)
            have fb2 := Fn_b Λ (8 - q) q t half last
            have xgb := xt_b hyM
            rw [if_neg (fun w => c0 ((lg_0 wnl).mp w))]
            show ∃ (ns nk : Int32) (se ne ah : NF) (ap : Int32) (counts' : Nat → Int64) (bests' : NF), (F_X4_leastBehind (zI (bkH Λ)) ties (zI L) (zI y.1) (nI y.2) (zI (thg y.2 y.1 y.1)) (zI ((y.1 : Int) - thg y.2 y.1 y.1)) (zI ld) b1 (zI q) (zI t) (zI (2 * half - t))).bind _ = _ ∧ _
            rw [leastBehind_z hK hq t0 t1 a0 a1 g0 g1 hyM (by omega) e2 (e4 cC), Option.bind_some]
            by_cases cF : Fn Λ (8 - (q + 1)) ((q : Int) + 1) (xt t y) (xh half y) (enl y.2) + xg y = Fn Λ (8 - q) q t half last
            · have q3 : zI (xg y + Fn Λ (8 - (q + 1)) ((q : Int) + 1) (xt t y) (xh half y) (enl y.2)) = zI (Fn Λ (8 - q) q t half last) := by rw [← cF]; congr 1; omega
              rw [if_pos q3]
              refine b134 _ ?_
              rw [ewC, if_pos ⟨by omega, cF⟩]
            · have q3 : ¬ zI (xg y + Fn Λ (8 - (q + 1)) ((q : Int) + 1) (xt t y) (xh half y) (enl y.2)) = zI (Fn Λ (8 - q) q t half last) := by simp (disch := omega) only [zl_0, zl_1, zl_2, zl_3, zl_4, zl_5, zl_6, zl_7, zl_8, zl_9, zl_10, zl_11, zl_12, zl_13, zl_14, zl_15, zl_16, zl_17, zl_18, zl_19, zl_20, zl_21, zl_22, zl_23, zl_24, zl_25, zl_26, zl_27, zl_28, zl_29, zl_30, zl_31, zl_32, zl_33, zl_34, zl_35, zl_36, zl_37, zl_38, zl_39, zl_40, zl_41, zl_42, zl_43, zl_44, zl_45, zl_46, zl_47, zl_48, zl_49, zl_50, zl_51, zl_52, zl_53, zl_54, zl_55, zl_56, zl_57, zl_58, zl_59, zl_60, zl_61, zl_62, zl_63, zl_64, zl_65, zl_66, zl_80, zl_97, zl_99, zl_103, zl_107, zl_112, zl_115, zl_100, zl_180, zl_210, zl_238, zl_255, zl_256, zl_400, zl_1000, zl_1024, zl_1260, zl_2000, zl_7140, zl_7200, zl_18414, zl_65536, zl_131072, zl_9999, zl_999, zI_add, zI_sub, zI_mul, zI_neg, zI_lt, zI_le, zI_eq, zI_clamp, ck_z, ckp_z, qb_z, qb_z0, Option.bind_some]; omega
              rw [if_neg q3]
              refine b134 _ ?_
              rw [ewC, if_neg (fun w => cF w.2)]
              rfl
        · have ewC : wC Λ true q t half last y = 0 := by unfold wC; rw [bq_f cC, if_neg (by decide)]
          rw [bq_f cC, if_neg (show ¬ false = true by decide), if_pos ((lg_0 (a := 0) (by omega)).mpr (Nat.le_refl 0))]
          refine b134 _ ?_
          rw [ewC]
    · rw [hr] at r1
      cases r1
end CW

section RM
variable {Λ : Book} {L ld : Int} {letters numbers spots waters sides ties groups gcs : NF}
theorem bsG_le (q : Nat) (t half last : Int) (γ : Nat → Nat × Nat × Nat) : ∀ i : Nat, (∀ i', i' < i → 0 < gf Λ q t half last (γ i').1 (γ i').2.1 → bsG Λ q t half last γ i ≤ (slo (γ i').1 : Nat) + ff Λ q t half (γ i').1) ∧ (bsG Λ q t half last γ i = 1000 ∨ ∃ i', i' < i ∧ 0 < gf Λ q t half last (γ i').1 (γ i').2.1 ∧ bsG Λ q t half last γ i = (slo (γ i').1 : Nat) + ff Λ q t half (γ i').1)
  | 0 => ⟨fun i' h => by omega, Or.inl rfl⟩
  | i + 1 => by
    obtain ⟨h1, h2⟩ := bsG_le q t half last γ i
    by_cases c : 0 < gf Λ q t half last (γ i).1 (γ i).2.1 ∧ (slo (γ i).1 : Nat) + ff Λ q t half (γ i).1 < bsG Λ q t half last γ i
    · have e : bsG Λ q t half last γ (i + 1) = (slo (γ i).1 : Nat) + ff Λ q t half (γ i).1 := by rw [bsG, if_pos c]
      rw [e]
      refine ⟨fun i' hi' hg => ?_, Or.inr ⟨i, by omega, c.1, rfl⟩⟩
      by_cases z : i' = i
      · rw [z]; omega
      · have := h1 i' (by omega) hg
        omega
    · have e : bsG Λ q t half last γ (i + 1) = bsG Λ q t half last γ i := by rw [bsG, if_neg c]
      rw [e]
      refine ⟨fun i' hi' hg => ?_, ?_⟩
      · by_cases z : i' = i
        · subst z; omega
        · exact h1 i' (by omega) hg
      · rcases h2 with h2 | ⟨i', j1, j2⟩
        · exact Or.inl h2
        · exact Or.inr ⟨i', by omega, j2⟩
theorem gf_x (hB : BkW Λ) (hL : Lsp Λ L) {q : Nat} {t half last : Int} (hq : q < 8) (t0 : 0 ≤ t) (t1 : t < bkH Λ) (a0 : 0 ≤ half) (a1 : half ≤ 4 * q) {x : Nat × Nat} (hC : x ∈ lyC Λ t) : gf Λ q t half last (srt Λ t x) (acd Λ t x) = if bq (Cn Λ q t half last x) = true then Wn Λ (8 - (q + 1)) ((q : Int) + 1) (xt t x) (xh half x) (enl x.2) else 0 := by
  unfold gf
  rw [bq_c (cnC t0 t1 hC)]
  by_cases c : Cn Λ q t half last x
  · have hx : x ∈ lyM Λ q t half last := by
      rw [lyM_C hB t0 (by omega) a0 (by omega), List.mem_filter]
      exact ⟨hC, bq_t c⟩
    rw [bq_t c, if_pos rfl, if_pos rfl, (nxW hB hL hq t0 t1 a0 a1 hx hC).1]
  · rw [bq_f c, if_neg (by decide), if_neg (by decide)]
theorem rk_sum (hB : BkW Λ) (hL : Lsp Λ L) {q : Nat} {t half last : Int} (hq : q < 8) (t0 : 0 ≤ t) (t1 : t < bkH Λ) (a0 : 0 ≤ half) (a1 : half ≤ 4 * q) {N : Nat} {γ : Nat → Nat × Nat × Nat} (hS : ∀ f : Nat → Nat → Nat, smG γ (fun g => g.2.2 * f g.1 g.2.1) N = ((lyC Λ t).map (fun x => f (srt Λ t x) (acd Λ t x))).sum) : smG γ (fun g => g.2.2 * gf Λ q t half last g.1 g.2.1) N = Wn Λ (8 - q) q t half last := by
  have e8 : 8 - q = (8 - (q + 1)) + 1 := by omega
  rw [hS (gf Λ q t half last), e8, Wn, if_neg (by omega), lyM_C hB t0 (by omega) a0 (by omega), ← fil_sum]
  congr 1
  exact List.map_congr_left (fun x hx => gf_x hB hL hq t0 t1 a0 a1 hx)
theorem rk_bst (hB : BkW Λ) (hL : Lsp Λ L) {q : Nat} {t half last : Int} (hq : q < 8) (t0 : 0 ≤ t) (t1 : t < bkH Λ) (a0 : 0 ≤ half) (a1 : half ≤ 4 * q) {N : Nat} {γ : Nat → Nat × Nat × Nat} (hI : GrI groups gcs t N γ) (hS : ∀ f : Nat → Nat → Nat, smG γ (fun g => g.2.2 * f g.1 g.2.1) N = ((lyC Λ t).map (fun x => f (srt Λ t x) (acd Λ t x))).sum) : bsG Λ q t half last γ N = bst (Wn Λ (8 - q) q t half last) (Fn Λ (8 - q) q t half last) := by
  obtain ⟨h1, h2⟩ := bsG_le (Λ := Λ) q t half last γ N
  have e8 : 8 - q = (8 - (q + 1)) + 1 := by omega
  obtain ⟨w, hw⟩ : ∃ w : Nat × Nat → Nat, w = fun x => Wn Λ (8 - (q + 1)) ((q : Int) + 1) (xt t x) (xh half x) (enl x.2) := ⟨_, rfl⟩
  obtain ⟨f, hf⟩ : ∃ f : Nat × Nat → Int, f = fun x => Fn Λ (8 - (q + 1)) ((q : Int) + 1) (xt t x) (xh half x) (enl x.2) := ⟨_, rfl⟩
  have eW : Wn Λ (8 - q) q t half last = ((lyM Λ q t half last).map w).sum := by rw [e8, Wn, if_neg (by omega), hw]
  have eF : Fn Λ (8 - q) q t half last = (lyM Λ q t half last).foldl (fst1 w f) 100 := by rw [e8, Fn, if_neg (by omega), hw, hf]
  obtain ⟨f1, f2, f3⟩ := fst1_le w f (lyM Λ q t half last) 100
  rw [← eF] at f1 f2 f3
  -- lays and groups
  have lg {x : Nat × Nat} (hx : x ∈ lyM Λ q t half last) (hwx : 0 < w x) : ∃ i, i < N ∧ 0 < gf Λ q t half last (γ i).1 (γ i).2.1 ∧ (slo (γ i).1 : Nat) + ff Λ q t half (γ i).1 = f x + xg x := by
    have hx2 := hx
    rw [lyM_C hB t0 (by omega) a0 (by omega), List.mem_filter] at hx2
    obtain ⟨i, i1, i2, i3⟩ := GrF_x hS hx2.1
    refine ⟨i, i1, ?_, ?_⟩
    · rw [i2, i3, gf_x hB hL hq t0 t1 a0 a1 hx2.1, if_pos hx2.2]
      rw [hw] at hwx
      exact hwx
    · rw [i2, (nxC (half := half) t0 t1 hx2.1).2.2.1, (nxW hB hL hq t0 t1 a0 a1 hx hx2.1).2, hf, Int.add_comm]
  have gl {i : Nat} (hi : i < N) (hg : 0 < gf Λ q t half last (γ i).1 (γ i).2.1) : ∃ x, x ∈ lyM Λ q t half last ∧ 0 < w x ∧ (slo (γ i).1 : Nat) + ff Λ q t half (γ i).1 = f x + xg x := by
    obtain ⟨x, x1, x2, x3⟩ := GrF_g hS hi (hI.2 i hi).2.2.2.1
    rw [x2, x3, gf_x hB hL hq t0 t1 a0 a1 x1] at hg
    by_cases c : bq (Cn Λ q t half last x) = true
    · rw [if_pos c] at hg
      have hx : x ∈ lyM Λ q t half last := by
        rw [lyM_C hB t0 (by omega) a0 (by omega), List.mem_filter]
        exact ⟨x1, c⟩
      refine ⟨x, hx, by rw [hw]; exact hg, ?_⟩
      rw [x2, (nxC (half := half) t0 t1 x1).2.2.1, (nxW hB hL hq t0 t1 a0 a1 hx x1).2, hf, Int.add_comm]
    · rw [if_neg c] at hg
      omega
  unfold bst
  by_cases c : 0 < Wn Λ (8 - q) q t half last
  · have fs := Fn_s Λ (8 - q) q t half last c
    rw [if_pos c]
    rw [eW] at c
    obtain ⟨x, x1, x2⟩ := sum_mem (fun _ _ => 0) c
    obtain ⟨i, i1, i2, i3⟩ := lg x1 x2
    have hle : bsG Λ q t half last γ N ≤ Fn Λ (8 - q) q t half last := by
      rcases f3 with z | ⟨y, y1, y2, y3⟩
      · omega
      · obtain ⟨k, k1, k2, k3⟩ := lg y1 y2
        have := h1 k k1 k2
        omega
    have hge : Fn Λ (8 - q) q t half last ≤ bsG Λ q t half last γ N := by
      rcases h2 with z | ⟨k, k1, k2, k3⟩
      · omega
      · obtain ⟨y, y1, y2, y3⟩ := gl k1 k2
        have := f2 y y1 y2
        omega
    omega
  · rw [if_neg c]
    rcases h2 with z | ⟨k, k1, k2, k3⟩
    · exact z
    · exfalso
      obtain ⟨y, y1, y2, y3⟩ := gl k1 k2
      apply c
      rw [eW]
      have := mem_sum (g := w) y1
      omega
theorem Kn_up {bests : NF} {i1 v : Int} (l0 : 0 ≤ ld) (l1 : ld ≤ 1000000) (v0 : 0 ≤ v) (v1 : v < 1024) {i : Int} (h : Kn ld bests i) : Kn ld (upd bests i1.toNat (zI (ld * 1024 + v))) i := by
  by_cases c : i.toNat = i1.toNat
  · refine Kn_w l0 l1 v0 v1 ?_
    rw [c, upd_at]
  · unfold Kn
    rw [upd_ne _ _ c]
    exact h
theorem reckon_z (hK : Rky Λ L ld letters numbers spots waters sides ties groups gcs) (kc : Kc) {q : Nat} (hkc : CfS Λ L ld kc (q + 1)) {t half last half0 last0 : Int} (hq : q < 8) (t0 : 0 ≤ t) (t1 : t < bkH Λ) (a0 : 0 ≤ half) (a1 : half ≤ 4 * q) (g0 : 0 ≤ 2 * half - t) (g1 : 2 * half - t ≤ 4 * q) (hl : last = 0 ∨ last = 1) (hm : Mt Λ q t half0 last0) (he : Eqv Λ L t half last half0 last0) {counts : Nat → Int64} {bests : NF} (hM : Mem Λ L ld counts bests) : ∃ counts' bests', F_X4_reckon (zI (bkH Λ)) letters ties (zI L) (zI (bkL Λ)) (zI ld) groups gcs counts bests kc (zI (nm Λ L q t half last)) (zI q) (zI t) (zI (2 * half - t)) (zI last) = some (counts', bests') ∧ Mem Λ L ld counts' bests' ∧ KnM ld bests bests' ∧ Kn ld bests' (nm Λ L q t half last) ∧ counts' (nm Λ L q t half last).toNat = wI (Wn Λ (8 - q) q t half last) := by
  obtain ⟨hB, hT, hL, hLt, hG, l0, l1⟩ := hK
  have h30 := hB.2.1
  obtain ⟨N, γ, hN, hI, hS⟩ := hG t t0 t1
  obtain ⟨m1, m2, m3, m4, m5, m6, m7, m8⟩ := Mt_b hB q t half0 last0 hm
  have nb := nm_b (Λ := Λ) (L := L) (q := (q : Int)) (t := t) (half := half) (last := last) (by omega) (by omega) t0 (by omega) g0 (by omega)
  obtain ⟨rc, e1, r0, r1, hr⟩ := reach_z hB hLt t q t0 (by omega) (by omega) (by omega)
  have ecl := clashes_z (ties := ties) hB.1 h30 (τC Λ) (fun h h0 h1 => ⟨(hT h h0 h1).2.2.2.2.1, (hT h h0 h1).2.2.2.2.2.2.2.1, (hT h h0 h1).2.2.2.2.2.2.2.2⟩) t t0 (by omega)
  have b0 := bsG_b (Λ := Λ) q t half last γ N
  have fin (cut : Int) (hcut : (cut = 1 ∧ last ≠ 0 ∧ τC Λ t = 2) ∨ (cut = 0 ∧ ¬ (last ≠ 0 ∧ τC Λ t = 2))) (X : Option ((Nat → Int64) × NF)) (hX : X = F_X4_reckon_b50 (zI (bkH Λ)) ties (zI L) (zI ld) groups kc counts bests (zI (nm Λ L q t half last)) (zI q) (zI t) (zI (2 * half - t)) (zI (t * 238)) (zI (t * 238 + N)) (zI rc) (zI cut)) : ∃ counts' bests', X = some (counts', bests') ∧ Mem Λ L ld counts' bests' ∧ KnM ld bests bests' ∧ Kn ld bests' (nm Λ L q t half last) ∧ counts' (nm Λ L q t half last).toNat = wI (Wn Λ (8 - q) q t half last) := by
    obtain ⟨c1, b1, q1, q2, q3, q4⟩ := rk_b64 hB hT hL l0 l1 kc hkc hq t0 t1 a0 a1 g0 g1 hm he hN hI hS rc cut (nm Λ L q t half last) r0 r1 hr hcut nb.1 nb.2 N FU 0 counts bests (by omega) (by unfold FU; omega) hM (fun i' hi' => by omega)
    have q1' : F_X4_reckon_b64 (zI (bkH Λ)) ties (zI L) (zI ld) groups kc FU counts bests (zI (nm Λ L q t half last)) (zI q) (zI t) (zI (2 * half - t)) (zI (t * 238 + N)) (zI rc) (zI cut) 0 1000 (zI (t * 238 + ((0 : Nat) : Int))) = some (vp_updL c1 (nm Λ L q t half last).toNat (wI (smG γ (fun g => g.2.2 * gf Λ q t half last g.1 g.2.1) N)), upd b1 (nm Λ L q t half last).toNat (zI (ld * 1024 + bsG Λ q t half last γ N))) := q1
    have ez : t * 238 + ((0 : Nat) : Int) = t * 238 := by omega
    rw [ez] at q1'
    have hX2 : X = some (vp_updL c1 (nm Λ L q t half last).toNat (wI (smG γ (fun g => g.2.2 * gf Λ q t half last g.1 g.2.1) N)), upd b1 (nm Λ L q t half last).toNat (zI (ld * 1024 + bsG Λ q t half last γ N))) := by
      rw [hX]
      unfold F_X4_reckon_b50
      exact q1'
    rw [rk_sum hB hL hq t0 t1 a0 a1 hS] at hX2
    have eb := rk_bst hB hL (last := last) hq t0 t1 a0 a1 hI hS
    have kself : Kn ld (upd b1 (nm Λ L q t half last).toNat (zI (ld * 1024 + bsG Λ q t half last γ N))) (nm Λ L q t half last) := Kn_w l0 l1 b0.1 (by omega) (upd_at _ _ _)
    refine ⟨_, _, hX2, ⟨fun i i0 i1 => ?_, fun i i0 i1 hk => ?_⟩, fun i i0 i1 hk => Kn_up l0 l1 b0.1 (by omega) (q3 i i0 i1 hk), kself, updL_at _ _ _⟩
    · by_cases c : i.toNat = (nm Λ L q t half last).toNat
      · refine ⟨ld * 1024 + bsG Λ q t half last γ N, ?_, by omega, by omega⟩
        rw [c, upd_at]
      · rw [upd_ne _ _ c]
        exact q2.1 i i0 i1
    · by_cases c : i = nm Λ L q t half last
      · subst c
        have ew := Eqv_W hB hL (8 - q) q t half last half0 last0 t0 (by omega) a0 (by omega) m3 (by omega) (fun _ => he)
        have el := Eqv_ly hB (q := (q : Int)) hL t0 (by omega) a0 (by omega) m3 (by omega) he
        refine ⟨q, t, half0, last0, hq, hm, t1, nm_eq he, ?_, ?_, fun x hx h1 h2 => ?_⟩
        · rw [updL_at, ew.1]
        · rw [upd_at, eb, ew.1, ew.2]
        · rw [← el] at hx
          have hx2 := hx
          rw [lyM_C hB t0 (by omega) a0 (by omega), List.mem_filter] at hx2
          obtain ⟨i, i1, i2, i3⟩ := GrF_x hS hx2.1
          obtain ⟨n1, n2, n3, n4⟩ := nxC (half := half) t0 t1 hx2.1
          have hkn := q4 i i1 (by rw [i2, i3, cnC t0 t1 hx2.1]; exact bq_iff.mp hx2.2) (by rw [i2, n1]; exact h1) h2
          rw [i2, n1, n2] at hkn
          have hE : Eqv Λ L (xt t x) (xh half x) (nl (srt Λ t x)) (xh half0 x) (enl x.2) := ⟨fun z => by rw [he.1 (by have := xt_b hx; omega)], n4 h1⟩
          rw [nm_eq hE] at hkn
          exact Kn_up l0 l1 b0.1 (by omega) hkn
      · have ne : i.toNat ≠ (nm Λ L q t half last).toNat := by omega
        have hk1 : Kn ld b1 i := by
          unfold Kn at hk ⊢
          rw [upd_ne _ _ ne] at hk
          exact hk
        obtain ⟨q', t', half', last', e1, e2, e3, e4, e5, e6, e7⟩ := q2.2 i i0 i1 hk1
        refine ⟨q', t', half', last', e1, e2, e3, e4, ?_, ?_, fun x hx h1 h2 => Kn_up l0 l1 b0.1 (by omega) (e7 x hx h1 h2)⟩
        · rw [updL_ne _ _ ne]; exact e5
        · rw [upd_ne _ _ ne]; exact e6
  have em : zI t * 238 = zI (t * 238) := by rw [show (238 : Int32) = zI 238 from rfl, zI_mul]
  have em2 : zI (t * 238) + nI N = zI (t * 238 + N) := by rw [nI_zI, zI_add]
  unfold F_X4_reckon
  rw [ck_z t0 (by omega) (by omega), e1, Option.bind_some, em, zI_clamp (by omega) (by omega), hI.1, em2]
  rcases hl with rfl | rfl
  · rw [if_pos (show zI 0 = 0 from rfl)]
    exact fin 0 (Or.inr ⟨rfl, fun x => x.1 rfl⟩) _ rfl
  · rw [if_neg (by decide), ecl, Option.bind_some]
    by_cases c : τC Λ t = 2
    · rw [decide_eq_true ⟨t1, c⟩, if_neg (show ¬ qb true = 0 by decide)]
      exact fin 1 (Or.inl ⟨rfl, by omega, c⟩) _ rfl
    · rw [decide_eq_false (fun x => c x.2), if_pos (show qb false = 0 from rfl)]
      exact fin 0 (Or.inr ⟨rfl, fun x => c x.2⟩) _ rfl
theorem countFrom_z (hK : Rky Λ L ld letters numbers spots waters sides ties groups gcs) : ∀ (n m q : Nat), q + n = 8 → n < m → CfS Λ L ld (fun k_counts k_bests p0 p1 p2 p3 => F_X4_countFrom (zI (bkH Λ)) letters ties (zI L) (zI (bkL Λ)) (zI ld) groups gcs m k_counts k_bests p0 p1 p2 p3) q
  | n, m + 1, q, hq, hn => by
    intro counts bests t half last t0 t1 a0 a1 g0 g1 hl hs hM
    obtain ⟨hB, hT, hL, hLt, hG, l0, l1⟩ := id hK
    have h30 := hB.2.1
    show ∃ counts' bests', F_X4_countFrom (zI (bkH Λ)) letters ties (zI L) (zI (bkL Λ)) (zI ld) groups gcs (m + 1) counts bests (zI q) (zI t) (zI (2 * half - t)) (zI last) = _ ∧ _
    rw [F_X4_countFrom]
    unfold F_X4_countFrom_o
    by_cases c : t < bkH Λ
    · have l : zI t < zI (bkH Λ) := by simp (disch := omega) only [zl_0, zl_1, zl_2, zl_3, zl_4, zl_5, zl_6, zl_7, zl_8, zl_9, zl_10, zl_11, zl_12, zl_13, zl_14, zl_15, zl_16, zl_17, zl_18, zl_19, zl_20, zl_21, zl_22, zl_23, zl_24, zl_25, zl_26, zl_27, zl_28, zl_29, zl_30, zl_31, zl_32, zl_33, zl_34, zl_35, zl_36, zl_37, zl_38, zl_39, zl_40, zl_41, zl_42, zl_43, zl_44, zl_45, zl_46, zl_47, zl_48, zl_49, zl_50, zl_51, zl_52, zl_53, zl_54, zl_55, zl_56, zl_57, zl_58, zl_59, zl_60, zl_61, zl_62, zl_63, zl_64, zl_65, zl_66, zl_80, zl_97, zl_99, zl_103, zl_107, zl_112, zl_115, zl_100, zl_180, zl_210, zl_238, zl_255, zl_256, zl_400, zl_1000, zl_1024, zl_1260, zl_2000, zl_7140, zl_7200, zl_18414, zl_65536, zl_131072, zl_9999, zl_999, zI_add, zI_sub, zI_mul, zI_neg, zI_lt, zI_le, zI_eq, zI_clamp, ck_z, ckp_z, qb_z, qb_z0, Option.bind_some]; exact c
      rw [if_pos l]
      by_cases q8 : q = 8
      · rw [stateOf_e hB hT (zI q) hL t0 c g0 (by omega) hl, numberOf_8 _ _ _ (q : Int) (by omega) (by omega), Option.bind_some, if_pos rfl]
        refine ⟨counts, bests, ?_, hM, KnM_r _ _, fun _ h => by omega⟩
        have : Wn Λ (8 - q) q t half last = 0 := by rw [q8, Nat.sub_self, Wn, if_neg (by omega)]
        rw [this]
        rfl
      · have nb := nm_b (Λ := Λ) (L := L) (q := (q : Int)) (t := t) (half := half) (last := last) (by omega) (by omega) t0 (by omega) g0 (by omega)
        have ne : ¬ zI (nm Λ L q t half last) = -1 := by simp (disch := omega) only [zl_0, zl_1, zl_2, zl_3, zl_4, zl_5, zl_6, zl_7, zl_8, zl_9, zl_10, zl_11, zl_12, zl_13, zl_14, zl_15, zl_16, zl_17, zl_18, zl_19, zl_20, zl_21, zl_22, zl_23, zl_24, zl_25, zl_26, zl_27, zl_28, zl_29, zl_30, zl_31, zl_32, zl_33, zl_34, zl_35, zl_36, zl_37, zl_38, zl_39, zl_40, zl_41, zl_42, zl_43, zl_44, zl_45, zl_46, zl_47, zl_48, zl_49, zl_50, zl_51, zl_52, zl_53, zl_54, zl_55, zl_56, zl_57, zl_58, zl_59, zl_60, zl_61, zl_62, zl_63, zl_64, zl_65, zl_66, zl_80, zl_97, zl_99, zl_103, zl_107, zl_112, zl_115, zl_100, zl_180, zl_210, zl_238, zl_255, zl_256, zl_400, zl_1000, zl_1024, zl_1260, zl_2000, zl_7140, zl_7200, zl_18414, zl_65536, zl_131072, zl_9999, zl_999, zI_add, zI_sub, zI_mul, zI_neg, zI_lt, zI_le, zI_eq, zI_clamp, ck_z, ckp_z, qb_z, qb_z0, Option.bind_some]; omega
        have cz {α : Type} (o : Option α) : ck (inb (zI (nm Λ L q t half last)) 7200) o = o := ck_z nb.1 nb.2 (by omega)
        have clz : (zI (nm Λ L q t half last)).toNatClampNeg = (nm Λ L q t half last).toNat := zI_clamp (by omega) (by omega)
        rw [sttOf_z hB hT hL (by omega) (by omega) t0 c g0 (by omega) hl, Option.bind_some, if_neg ne, isKnown_z ld bests _ nb.1 nb.2, Option.bind_some]
        by_cases k : Kn ld bests (nm Λ L q t half last)
        · rw [bq_t k, if_neg (show ¬ qb true = 0 by decide), cz, clz]
          have := (Mem_at hB hL hM (by omega) t0 c a0 a1 g0 g1 k).1
          rw [this]
          exact ⟨counts, bests, rfl, hM, KnM_r _ _, fun _ _ => k⟩
        · obtain ⟨half0, last0, hm, he⟩ := hs c
          have ih : CfS Λ L ld (fun k_counts k_bests p0 p1 p2 p3 => F_X4_countFrom (zI (bkH Λ)) letters ties (zI L) (zI (bkL Λ)) (zI ld) groups gcs m k_counts k_bests p0 p1 p2 p3) (q + 1) := by
            cases n with
            | zero => omega
            | succ n => exact countFrom_z hK n m (q + 1) (by omega) (by omega)
          obtain ⟨counts', bests', r1, r2, r3, r4, r5⟩ := reckon_z hK _ ih (by omega) t0 c a0 a1 g0 g1 hl hm he hM
          rw [bq_f k, if_pos (show qb false = 0 from rfl), r1, Option.bind_some, cz, clz]
          show ∃ c' b', some (counts' (nm Λ L q t half last).toNat, counts', bests') = _ ∧ _
          rw [r5]
          exact ⟨counts', bests', rfl, r2, r3, fun _ _ => r4⟩
    · have l : ¬ zI t < zI (bkH Λ) := by simp (disch := omega) only [zl_0, zl_1, zl_2, zl_3, zl_4, zl_5, zl_6, zl_7, zl_8, zl_9, zl_10, zl_11, zl_12, zl_13, zl_14, zl_15, zl_16, zl_17, zl_18, zl_19, zl_20, zl_21, zl_22, zl_23, zl_24, zl_25, zl_26, zl_27, zl_28, zl_29, zl_30, zl_31, zl_32, zl_33, zl_34, zl_35, zl_36, zl_37, zl_38, zl_39, zl_40, zl_41, zl_42, zl_43, zl_44, zl_45, zl_46, zl_47, zl_48, zl_49, zl_50, zl_51, zl_52, zl_53, zl_54, zl_55, zl_56, zl_57, zl_58, zl_59, zl_60, zl_61, zl_62, zl_63, zl_64, zl_65, zl_66, zl_80, zl_97, zl_99, zl_103, zl_107, zl_112, zl_115, zl_100, zl_180, zl_210, zl_238, zl_255, zl_256, zl_400, zl_1000, zl_1024, zl_1260, zl_2000, zl_7140, zl_7200, zl_18414, zl_65536, zl_131072, zl_9999, zl_999, zI_add, zI_sub, zI_mul, zI_neg, zI_lt, zI_le, zI_eq, zI_clamp, ck_z, ckp_z, qb_z, qb_z0, Option.bind_some]; exact c
      have et : t = bkH Λ := by omega
      rw [if_neg l]
      refine ⟨counts, bests, ?_, hM, KnM_r _ _, fun h => absurd h c⟩
      have : Wn Λ (8 - q) q t half last = 1 := by
        generalize 8 - q = k
        cases k <;> (rw [Wn, if_pos et])
      rw [this]
      rfl
theorem total_z (hK : Rky Λ L ld letters numbers spots waters sides ties groups gcs) {counts : Nat → Int64} {bests : NF} (hM : Mem Λ L ld counts bests) : ∃ counts' bests', F_X4_total (zI (bkH Λ)) letters ties (zI L) (zI (bkL Λ)) (zI ld) groups gcs counts bests = some (wI (WQ Λ 0 0 0 0), counts', bests') ∧ Mem Λ L ld counts' bests' ∧ KnM ld bests bests' ∧ (0 < bkH Λ → Kn ld bests' (nm Λ L 0 0 0 0)) := by
  obtain ⟨h00, h30, _⟩ := id hK.1
  unfold F_X4_total
  by_cases c : bkH Λ = 0
  · have q : zI (bkH Λ) = 0 := by rw [c]; rfl
    rw [if_pos q]
    refine ⟨counts, bests, ?_, hM, KnM_r _ _, fun h => by omega⟩
    unfold WQ
    rw [if_pos ⟨rfl, c⟩]
    rfl
  · have q : ¬ zI (bkH Λ) = 0 := by simp (disch := omega) only [zl_0, zl_1, zl_2, zl_3, zl_4, zl_5, zl_6, zl_7, zl_8, zl_9, zl_10, zl_11, zl_12, zl_13, zl_14, zl_15, zl_16, zl_17, zl_18, zl_19, zl_20, zl_21, zl_22, zl_23, zl_24, zl_25, zl_26, zl_27, zl_28, zl_29, zl_30, zl_31, zl_32, zl_33, zl_34, zl_35, zl_36, zl_37, zl_38, zl_39, zl_40, zl_41, zl_42, zl_43, zl_44, zl_45, zl_46, zl_47, zl_48, zl_49, zl_50, zl_51, zl_52, zl_53, zl_54, zl_55, zl_56, zl_57, zl_58, zl_59, zl_60, zl_61, zl_62, zl_63, zl_64, zl_65, zl_66, zl_80, zl_97, zl_99, zl_103, zl_107, zl_112, zl_115, zl_100, zl_180, zl_210, zl_238, zl_255, zl_256, zl_400, zl_1000, zl_1024, zl_1260, zl_2000, zl_7140, zl_7200, zl_18414, zl_65536, zl_131072, zl_9999, zl_999, zI_add, zI_sub, zI_mul, zI_neg, zI_lt, zI_le, zI_eq, zI_clamp, ck_z, ckp_z, qb_z, qb_z0, Option.bind_some]; exact c
    obtain ⟨counts', bests', r1, r2, r3, r4⟩ := countFrom_z hK 8 10 0 (by omega) (by omega) counts bests 0 0 0 (by omega) (by omega) (by omega) (by omega) (by omega) (by omega) (Or.inl rfl) (fun _ => ⟨0, 0, ⟨rfl, rfl, rfl⟩, fun _ => rfl, Iff.rfl⟩) hM
    have r1' : F_X4_countFrom (zI (bkH Λ)) letters ties (zI L) (zI (bkL Λ)) (zI ld) groups gcs 10 counts bests 0 0 0 0 = some (wI (Wn Λ 8 0 0 0 0), counts', bests') := r1
    rw [if_neg q, r1', Option.bind_some]
    refine ⟨counts', bests', ?_, r2, r3, fun h => r4 h (by omega)⟩
    unfold WQ
    rw [if_neg (fun x => c x.2)]
    rfl
end RM

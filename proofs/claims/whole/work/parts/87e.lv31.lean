abbrev KR : Type := (Nat → Int64) → NF → Int32 → Int32 → Int32 → Int32 → Int32 → Int32 → Int32 → Int64 → Int32 → Int32 → Option ((Nat → Int64) × NF)
theorem lg_0 {a : Nat} (h : a < 9223372036854775808) : (lg_cmp (wI a) 0 ≤ 0) ↔ a ≤ 0 := lg_le0 h (b := 0) (by omega)
section RL
variable {Λ : Book} {L ld : Int} {letters numbers spots waters sides ties groups gcs : NF}
theorem rk_146 (hB : BkW Λ) (hT : TbC Λ (σC Λ) (τC Λ) numbers spots waters sides ties) (hL : Lsp Λ L) (l0 : 0 ≤ ld) (l1 : ld ≤ 1000000) (kc : Kc) (KK : KR) {q : Nat} (hkc : CfS Λ L ld kc (q + 1)) {t half last half0 last0 : Int} (hq : q < 8) (t0 : 0 ≤ t) (t1 : t < bkH Λ) (a0 : 0 ≤ half) (a1 : half ≤ 4 * q) (g0 : 0 ≤ 2 * half - t) (g1 : 2 * half - t ≤ 4 * q) (hm : Mt Λ q t half0 last0) (he : Eqv Λ L t half last half0 last0) {x : Nat × Nat} (hx : x ∈ lyM Λ q t half last) (hC : x ∈ lyC Λ t) {p a n : Nat} (hp : p = srt Λ t x) (hk : sok p) (ha : a ≤ 57) (hn : n < 256) {counts : Nat → Int64} {bests : NF} (hM : Mem Λ L ld counts bests) (S : Nat) (bb : Int) (b0 : 0 ≤ bb) (b1 : bb ≤ 1000) (x1 x7 x8 x9 x13 : Int32) : ∃ counts' bests', F_X4_reckon_b146 (zI (bkH Λ)) ties (zI L) (zI ld) groups kc KK counts bests x1 (zI q) (zI t) (zI (2 * half - t)) x7 x8 x9 (wI S) (zI bb) x13 (nI (gcode p a n)) (nI (sth p)) = KK counts' bests' x1 (zI q) (zI t) (zI (2 * half - t)) x7 x8 x9 (wI (S + n * wf Λ q t half p)) (zI (if 0 < wf Λ q t half p ∧ (slo p : Nat) + ff Λ q t half p < bb then (slo p : Nat) + ff Λ q t half p else bb)) (x13 + 1) ∧ Mem Λ L ld counts' bests' ∧ KnM ld bests bests' ∧ (nt t p < bkH Λ → q + 1 < 8 → Kn ld bests' (nm Λ L ((q + 1 : Nat) : Int) (nt t p) (nh half p) (nl p))) := by
  have h30 := hB.2.1
  obtain ⟨d1, d2, d3, d4, d5, d6⟩ := gdec p a n hk.1 ha hn
  obtain ⟨n1, n2, n3, n4⟩ := nxC (half := half) t0 t1 hC
  rw [← hp] at n1 n2 n3 n4
  have xb := xt_b hx
  obtain ⟨m1, m2, m3, m4, m5, m6, m7, m8⟩ := Mt_b hB q t half0 last0 hm
  have hs := hk.2
  have hsum : (2 : Int) * nh half p - nt t p = 2 * half - t + (slo p : Nat) := by
    unfold nh nt
    unfold sth slo at *
    omega
  have hlo := slo_b p
  have el := Eqv_ly hB (q := (q : Int)) hL t0 (by omega) a0 (by omega) m3 (by omega) he
  have hx0 : x ∈ lyM Λ q t half0 last0 := by rw [← el]; exact hx
  have hl2 : nl p = 0 ∨ nl p = 1 := by unfold nl; omega
  obtain ⟨counts', bests', r1, r2, r3, r4⟩ := hkc counts bests (nt t p) (nh half p) (nl p) (by rw [n1]; omega) (by rw [n1]; exact xb.2.1) (by rw [n2]; omega) (by rw [n2]; omega) (by omega) (by omega) hl2 (fun h => by
    refine ⟨xh half0 x, enl x.2, ?_, ?_⟩
    · rw [n1]
      exact ⟨t, half0, last0, x, hm, t1, hx0, rfl, rfl, rfl⟩
    · rw [n1] at h ⊢
      refine ⟨fun c => ?_, n4 h⟩
      rw [n2, he.1 (by omega)]) hM
  have ew : Wn Λ (8 - (q + 1)) ((q + 1 : Nat) : Int) (nt t p) (nh half p) (nl p) = wf Λ q t half p := rfl
  have ef : Fn Λ (8 - (q + 1)) ((q + 1 : Nat) : Int) (nt t p) (nh half p) (nl p) = ff Λ q t half p := rfl
  rw [ew] at r1
  have fb := Fn_b Λ (8 - (q + 1)) ((q + 1 : Nat) : Int) (nt t p) (nh half p) (nl p)
  rw [ef] at fb
  have wl : wf Λ q t half p < 9223372036854775808 := Wn_lt Λ _ (by omega) _ _ _ _
  have eq1 : zI (q : Int) + 1 = zI ((q + 1 : Nat) : Int) := by rw [zl_1, zI_add]; congr 1
  have et : zI t + nI (sth p) = zI (nt t p) := by rw [nI_zI, zI_add]; rfl
  have eg : zI (2 * half - t) + nI (slo p) = zI (2 * nh half p - nt t p) := by rw [nI_zI, zI_add, hsum]
  have ke (c' : Nat → Int64) (b' : NF) (Y Y' : Int64) (Z Z' : Int32) (eY : Y = Y') (eZ : Z = Z') : KK c' b' x1 (zI q) (zI t) (zI (2 * half - t)) x7 x8 x9 Y Z (x13 + 1) = KK c' b' x1 (zI q) (zI t) (zI (2 * half - t)) x7 x8 x9 Y' Z' (x13 + 1) := by rw [eY, eZ]
  -- the call
  have c169 (X : Option ((Nat → Int64) × NF)) (hX : X = F_X4_reckon_b169 (zI (bkH Λ)) ties (zI L) (zI ld) groups kc KK counts bests x1 (zI q) (zI t) (zI (2 * half - t)) x7 x8 x9 (wI S) (zI bb) x13 (nI (gcode p a n)) (nI (sth p)) (nI (slo p)) (zI (nl p))) : ∃ counts' bests', X = KK counts' bests' x1 (zI q) (zI t) (zI (2 * half - t)) x7 x8 x9 (wI (S + n * wf Λ q t half p)) (zI (if 0 < wf Λ q t half p ∧ (slo p : Nat) + ff Λ q t half p < bb then (slo p : Nat) + ff Λ q t half p else bb)) (x13 + 1) ∧ Mem Λ L ld counts' bests' ∧ KnM ld bests bests' ∧ (nt t p < bkH Λ → q + 1 < 8 → Kn ld bests' (nm Λ L ((q + 1 : Nat) : Int) (nt t p) (nh half p) (nl p))) := by
    subst hX
    refine ⟨counts', bests', ?_, r2, r3, r4⟩
    unfold F_X4_reckon_b169
    rw [eq1, et, eg, r1, Option.bind_some]
    by_cases c : wf Λ q t half p ≤ 0
    · have l : lg_cmp (wI (wf Λ q t half p)) 0 ≤ 0 := (lg_0 wl).mpr c
      have c0 : wf Λ q t half p = 0 := by omega
      rw [if_pos l]
      refine ke _ _ _ _ _ _ ?_ ?_
      · rw [c0, Nat.mul_zero, Nat.add_zero]
      · rw [if_neg (by omega)]
    · have l : ¬ lg_cmp (wI (wf Λ q t half p)) 0 ≤ 0 := fun z => c ((lg_0 wl).mp z)
      have le : F_X4_leastFrom (zI (bkH Λ)) ties (zI L) (zI ld) bests' (zI ((q + 1 : Nat) : Int)) (zI (nt t p)) (zI (2 * nh half p - nt t p)) (zI (nl p)) = some (zI (ff Λ q t half p)) := by
        by_cases z : nt t p < bkH Λ
        · have q8 : q + 1 < 8 := by
            by_cases w : q + 1 < 8
            · exact w
            · exfalso
              apply c
              have : wf Λ q t half p = 0 := by
                unfold wf
                rw [show 8 - (q + 1) = 0 by omega, Wn, if_neg (by omega)]
              omega
          have := least_z hB hT hL l0 l1 r2 (q := q + 1) q8 (by rw [n1]; omega) z (by rw [n2]; omega) (by rw [n2]; omega) (by omega) (by omega) hl2 (r4 z q8)
          rw [this, ew, ef]
          unfold bst
          rw [if_pos (by omega)]
        · have z2 : nt t p = bkH Λ := by rw [n1] at z ⊢; omega
          have l2 : ¬ zI (nt t p) < zI (bkH Λ) := by rw [z2]; simp (disch := omega) only [zl_0, zl_1, zl_2, zl_3, zl_4, zl_5, zl_6, zl_7, zl_8, zl_9, zl_10, zl_11, zl_12, zl_13, zl_14, zl_15, zl_16, zl_17, zl_18, zl_19, zl_20, zl_21, zl_22, zl_23, zl_24, zl_25, zl_26, zl_27, zl_28, zl_29, zl_30, zl_31, zl_32, zl_33, zl_34, zl_35, zl_36, zl_37, zl_38, zl_39, zl_40, zl_41, zl_42, zl_43, zl_44, zl_45, zl_46, zl_47, zl_48, zl_49, zl_50, zl_51, zl_52, zl_53, zl_54, zl_55, zl_56, zl_57, zl_58, zl_59, zl_60, zl_61, zl_62, zl_63, zl_64, zl_65, zl_66, zl_80, zl_97, zl_99, zl_103, zl_107, zl_112, zl_115, zl_100, zl_180, zl_210, zl_238, zl_255, zl_256, zl_400, zl_1000, zl_1024, zl_1260, zl_2000, zl_7140, zl_7200, zl_18414, zl_65536, zl_131072, zl_9999, zl_999, zI_add, zI_sub, zI_mul, zI_neg, zI_lt, zI_le, zI_eq, zI_clamp, ck_z, ckp_z, qb_z, qb_z0, Option.bind_some]; omega
          unfold F_X4_leastFrom
          rw [if_neg l2]
          have : ff Λ q t half p = 0 := by
            unfold ff
            generalize 8 - (q + 1) = m
            cases m <;> (rw [Fn, if_pos z2])
          rw [this]
          rfl
      rw [if_neg l]
      show (F_X4_leastFrom (zI (bkH Λ)) ties (zI L) (zI ld) bests' (zI ((q + 1 : Nat) : Int)) (zI (nt t p)) (zI (2 * nh half p - nt t p)) (zI (nl p))).bind _ = _
      rw [le, Option.bind_some, d4, i64_n n hn, nI_zI (slo p), zI_add]
      refine ke _ _ _ _ _ _ ?_ ?_
      · show wI S + wI (wf Λ q t half p) * wI n = _
        rw [wI_mul, wI_add, Nat.mul_comm]
      · by_cases z : (slo p : Nat) + ff Λ q t half p < bb
        · have l3 : zI ((slo p : Nat) + ff Λ q t half p) < zI bb := by simp (disch := omega) only [zl_0, zl_1, zl_2, zl_3, zl_4, zl_5, zl_6, zl_7, zl_8, zl_9, zl_10, zl_11, zl_12, zl_13, zl_14, zl_15, zl_16, zl_17, zl_18, zl_19, zl_20, zl_21, zl_22, zl_23, zl_24, zl_25, zl_26, zl_27, zl_28, zl_29, zl_30, zl_31, zl_32, zl_33, zl_34, zl_35, zl_36, zl_37, zl_38, zl_39, zl_40, zl_41, zl_42, zl_43, zl_44, zl_45, zl_46, zl_47, zl_48, zl_49, zl_50, zl_51, zl_52, zl_53, zl_54, zl_55, zl_56, zl_57, zl_58, zl_59, zl_60, zl_61, zl_62, zl_63, zl_64, zl_65, zl_66, zl_80, zl_97, zl_99, zl_103, zl_107, zl_112, zl_115, zl_100, zl_180, zl_210, zl_238, zl_255, zl_256, zl_400, zl_1000, zl_1024, zl_1260, zl_2000, zl_7140, zl_7200, zl_18414, zl_65536, zl_131072, zl_9999, zl_999, zI_add, zI_sub, zI_mul, zI_neg, zI_lt, zI_le, zI_eq, zI_clamp, ck_z, ckp_z, qb_z, qb_z0, Option.bind_some]; exact z
          rw [if_pos l3, if_pos ⟨by omega, z⟩]
        · have l3 : ¬ zI ((slo p : Nat) + ff Λ q t half p) < zI bb := by simp (disch := omega) only [zl_0, zl_1, zl_2, zl_3, zl_4, zl_5, zl_6, zl_7, zl_8, zl_9, zl_10, zl_11, zl_12, zl_13, zl_14, zl_15, zl_16, zl_17, zl_18, zl_19, zl_20, zl_21, zl_22, zl_23, zl_24, zl_25, zl_26, zl_27, zl_28, zl_29, zl_30, zl_31, zl_32, zl_33, zl_34, zl_35, zl_36, zl_37, zl_38, zl_39, zl_40, zl_41, zl_42, zl_43, zl_44, zl_45, zl_46, zl_47, zl_48, zl_49, zl_50, zl_51, zl_52, zl_53, zl_54, zl_55, zl_56, zl_57, zl_58, zl_59, zl_60, zl_61, zl_62, zl_63, zl_64, zl_65, zl_66, zl_80, zl_97, zl_99, zl_103, zl_107, zl_112, zl_115, zl_100, zl_180, zl_210, zl_238, zl_255, zl_256, zl_400, zl_1000, zl_1024, zl_1260, zl_2000, zl_7140, zl_7200, zl_18414, zl_65536, zl_131072, zl_9999, zl_999, zI_add, zI_sub, zI_mul, zI_neg, zI_lt, zI_le, zI_eq, zI_clamp, ck_z, ckp_z, qb_z, qb_z0, Option.bind_some]; exact z
          rw [if_neg l3, if_neg (fun w => z w.2)]
  unfold F_X4_reckon_b146
  rw [d3]
  by_cases c : p % 2 = 0
  · rw [if_pos (d6.mpr c)]
    refine c169 _ ?_
    unfold nl
    rw [c]
    rfl
  · rw [if_neg (fun w => c (d6.mp w))]
    refine c169 _ ?_
    unfold nl
    rw [show p % 2 = 1 by omega]
    rfl
theorem rk_b64 (hB : BkW Λ) (hT : TbC Λ (σC Λ) (τC Λ) numbers spots waters sides ties) (hL : Lsp Λ L) (l0 : 0 ≤ ld) (l1 : ld ≤ 1000000) (kc : Kc) {q : Nat} (hkc : CfS Λ L ld kc (q + 1)) {t half last half0 last0 : Int} (hq : q < 8) (t0 : 0 ≤ t) (t1 : t < bkH Λ) (a0 : 0 ≤ half) (a1 : half ≤ 4 * q) (g0 : 0 ≤ 2 * half - t) (g1 : 2 * half - t ≤ 4 * q) (hm : Mt Λ q t half0 last0) (he : Eqv Λ L t half last half0 last0) {N : Nat} {γ : Nat → Nat × Nat × Nat} (hN : N ≤ 238) (hI : GrI groups gcs t N γ) (hS : ∀ f : Nat → Nat → Nat, smG γ (fun g => g.2.2 * f g.1 g.2.1) N = ((lyC Λ t).map (fun x => f (srt Λ t x) (acd Λ t x))).sum) (rc cut i1 : Int) (r0 : 0 ≤ rc) (r1 : rc ≤ 8) (hr : ∀ m, 0 ≤ m → m ≤ 8 → (m ≤ rc ↔ Rch Λ t q m)) (hcut : (cut = 1 ∧ last ≠ 0 ∧ τC Λ t = 2) ∨ (cut = 0 ∧ ¬ (last ≠ 0 ∧ τC Λ t = 2))) (j0 : 0 ≤ i1) (j1 : i1 < 7200) : ∀ (d m i : Nat) (counts : Nat → Int64) (bests : NF), i + d = N → d < m → Mem Λ L ld counts bests → (∀ i', i' < i → cnd Λ q t half last (γ i').1 (γ i').2.1 → nt t (γ i').1 < bkH Λ → q + 1 < 8 → Kn ld bests (nm Λ L ((q + 1 : Nat) : Int) (nt t (γ i').1) (nh half (γ i').1) (nl (γ i').1))) → ∃ counts' bests', F_X4_reckon_b64 (zI (bkH Λ)) ties (zI L) (zI ld) groups kc m counts bests (zI i1) (zI q) (zI t) (zI (2 * half - t)) (zI (t * 238 + N)) (zI rc) (zI cut) (wI (smG γ (fun g => g.2.2 * gf Λ q t half last g.1 g.2.1) i)) (zI (bsG Λ q t half last γ i)) (zI (t * 238 + i)) = some (vp_updL counts' i1.toNat (wI (smG γ (fun g => g.2.2 * gf Λ q t half last g.1 g.2.1) N)), upd bests' i1.toNat (zI (ld * 1024 + bsG Λ q t half last γ N))) ∧ Mem Λ L ld counts' bests' ∧ KnM ld bests bests' ∧ (∀ i', i' < N → cnd Λ q t half last (γ i').1 (γ i').2.1 → nt t (γ i').1 < bkH Λ → q + 1 < 8 → Kn ld bests' (nm Λ L ((q + 1 : Nat) : Int) (nt t (γ i').1) (nh half (γ i').1) (nl (γ i').1)))
  | 0, m + 1, i, counts, bests, hi, _, hM, hk => by
    have h30 := hB.2.1
    have e : i = N := by omega
    subst e
    have l : zI (t * 238 + i) ≤ zI (t * 238 + i) := by simp (disch := omega) only [zl_0, zl_1, zl_2, zl_3, zl_4, zl_5, zl_6, zl_7, zl_8, zl_9, zl_10, zl_11, zl_12, zl_13, zl_14, zl_15, zl_16, zl_17, zl_18, zl_19, zl_20, zl_21, zl_22, zl_23, zl_24, zl_25, zl_26, zl_27, zl_28, zl_29, zl_30, zl_31, zl_32, zl_33, zl_34, zl_35, zl_36, zl_37, zl_38, zl_39, zl_40, zl_41, zl_42, zl_43, zl_44, zl_45, zl_46, zl_47, zl_48, zl_49, zl_50, zl_51, zl_52, zl_53, zl_54, zl_55, zl_56, zl_57, zl_58, zl_59, zl_60, zl_61, zl_62, zl_63, zl_64, zl_65, zl_66, zl_80, zl_97, zl_99, zl_103, zl_107, zl_112, zl_115, zl_100, zl_180, zl_210, zl_238, zl_255, zl_256, zl_400, zl_1000, zl_1024, zl_1260, zl_2000, zl_7140, zl_7200, zl_18414, zl_65536, zl_131072, zl_9999, zl_999, zI_add, zI_sub, zI_mul, zI_neg, zI_lt, zI_le, zI_eq, zI_clamp, ck_z, ckp_z, qb_z, qb_z0, Option.bind_some]; omega
    have cz {α : Type} (o : Option α) : ck (inb (zI i1) 7200) o = o := ck_z j0 (by omega) (by omega)
    have clz : (zI i1).toNatClampNeg = i1.toNat := zI_clamp (by omega) (by omega)
    rw [F_X4_reckon_b64, if_pos l, cz, cz, clz, show (1024 : Int32) = zI 1024 from rfl, zI_mul, zI_add]
    exact ⟨counts, bests, rfl, hM, KnM_r _ _, hk⟩
  | d + 1, m + 1, i, counts, bests, hi, hmm, hM, hk => by
    have h30 := hB.2.1
    have l : ¬ zI (t * 238 + N) ≤ zI (t * 238 + i) := by simp (disch := omega) only [zl_0, zl_1, zl_2, zl_3, zl_4, zl_5, zl_6, zl_7, zl_8, zl_9, zl_10, zl_11, zl_12, zl_13, zl_14, zl_15, zl_16, zl_17, zl_18, zl_19, zl_20, zl_21, zl_22, zl_23, zl_24, zl_25, zl_26, zl_27, zl_28, zl_29, zl_30, zl_31, zl_32, zl_33, zl_34, zl_35, zl_36, zl_37, zl_38, zl_39, zl_40, zl_41, zl_42, zl_43, zl_44, zl_45, zl_46, zl_47, zl_48, zl_49, zl_50, zl_51, zl_52, zl_53, zl_54, zl_55, zl_56, zl_57, zl_58, zl_59, zl_60, zl_61, zl_62, zl_63, zl_64, zl_65, zl_66, zl_80, zl_97, zl_99, zl_103, zl_107, zl_112, zl_115, zl_100, zl_180, zl_210, zl_238, zl_255, zl_256, zl_400, zl_1000, zl_1024, zl_1260, zl_2000, zl_7140, zl_7200, zl_18414, zl_65536, zl_131072, zl_9999, zl_999, zI_add, zI_sub, zI_mul, zI_neg, zI_lt, zI_le, zI_eq, zI_clamp, ck_z, ckp_z, qb_z, qb_z0, Option.bind_some]; omega
    have cz {α : Type} (o : Option α) : ck (inb (zI (t * 238 + i)) 7140) o = o := ck_z (by omega) (by omega) (by omega)
    have clz : (zI (t * 238 + i)).toNatClampNeg = (t * 238 + i).toNat := zI_clamp (by omega) (by omega)
    obtain ⟨p, hp⟩ : ∃ p, p = (γ i).1 := ⟨_, rfl⟩
    obtain ⟨a, ha⟩ : ∃ a, a = (γ i).2.1 := ⟨_, rfl⟩
    obtain ⟨n, hn⟩ : ∃ n, n = (γ i).2.2 := ⟨_, rfl⟩
    obtain ⟨k1, k2, k3, k4, k5⟩ := hI.2 i (by omega)
    rw [← hp, ← ha, ← hn] at k1
    rw [← hp] at k2
    rw [← ha] at k3
    rw [← hn] at k4 k5
    obtain ⟨d1, d2, d3, d4, d5, d6⟩ := gdec p a n k2.1 k3 k5
    obtain ⟨x, x1, x2, x3⟩ := GrF_g hS (i := i) (by omega) (by rw [← hn]; exact k4)
    rw [← hp] at x2
    rw [← ha] at x3
    have sb := sth_b k2.1
    have bb := bsG_b (Λ := Λ) q t half last γ i
    have ei : zI (t * 238 + (i : Int)) + 1 = zI (t * 238 + ((i + 1 : Nat) : Int)) := by rw [zl_1, zI_add]; congr 1; omega
    have es : smG γ (fun g => g.2.2 * gf Λ q t half last g.1 g.2.1) (i + 1) = smG γ (fun g => g.2.2 * gf Λ q t half last g.1 g.2.1) i + n * gf Λ q t half last p a := by
      rw [smG, ← hp, ← ha, ← hn]
    have eb : bsG Λ q t half last γ (i + 1) = if 0 < gf Λ q t half last p a ∧ (slo p : Nat) + ff Λ q t half p < bsG Λ q t half last γ i then (slo p : Nat) + ff Λ q t half p else bsG Λ q t half last γ i := by
      rw [bsG, ← hp, ← ha]
    obtain ⟨KK, hKK⟩ : ∃ KK : KR, KK = fun k_counts k_bests x1 x2 x3 x4 x7 x8 x9 x10 x12 x13 => F_X4_reckon_b64 (zI (bkH Λ)) ties (zI L) (zI ld) groups kc m k_counts k_bests x1 x2 x3 x4 x7 x8 x9 x10 x12 x13 := ⟨_, rfl⟩
    -- nothing of this group
    have no (hc : ¬ cnd Λ q t half last p a) (X : Option ((Nat → Int64) × NF)) (hX : X = KK counts bests (zI i1) (zI q) (zI t) (zI (2 * half - t)) (zI (t * 238 + N)) (zI rc) (zI cut) (wI (smG γ (fun g => g.2.2 * gf Λ q t half last g.1 g.2.1) i)) (zI (bsG Λ q t half last γ i)) (zI (t * 238 + i) + 1)) : ∃ counts' bests', X = some (vp_updL counts' i1.toNat (wI (smG γ (fun g => g.2.2 * gf Λ q t half last g.1 g.2.1) N)), upd bests' i1.toNat (zI (ld * 1024 + bsG Λ q t half last γ N))) ∧ Mem Λ L ld counts' bests' ∧ KnM ld bests bests' ∧ (∀ i', i' < N → cnd Λ q t half last (γ i').1 (γ i').2.1 → nt t (γ i').1 < bkH Λ → q + 1 < 8 → Kn ld bests' (nm Λ L ((q + 1 : Nat) : Int) (nt t (γ i').1) (nh half (γ i').1) (nl (γ i').1))) := by
      have gz : gf Λ q t half last p a = 0 := by unfold gf; rw [bq_f hc, if_neg (by decide)]
      rw [hX, hKK, ei]
      have ih := rk_b64 hB hT hL l0 l1 kc hkc hq t0 t1 a0 a1 g0 g1 hm he hN hI hS rc cut i1 r0 r1 hr hcut j0 j1 d m (i + 1) counts bests (by omega) (by omega) hM (fun i' hi' c' => by
        by_cases e : i' = i
        · subst e; rw [← hp, ← ha] at c'; exact absurd c' hc
        · exact hk i' (by omega) c')
      rw [es, eb, gz, Nat.mul_zero, Nat.add_zero, if_neg (by omega)] at ih
      exact ih
    -- this group
    have yes (hc : cnd Λ q t half last p a) (X : Option ((Nat → Int64) × NF)) (hX : X = F_X4_reckon_b146 (zI (bkH Λ)) ties (zI L) (zI ld) groups kc KK counts bests (zI i1) (zI q) (zI t) (zI (2 * half - t)) (zI (t * 238 + N)) (zI rc) (zI cut) (wI (smG γ (fun g => g.2.2 * gf Λ q t half last g.1 g.2.1) i)) (zI (bsG Λ q t half last γ i)) (zI (t * 238 + i)) (nI (gcode p a n)) (nI (sth p))) : ∃ counts' bests', X = some (vp_updL counts' i1.toNat (wI (smG γ (fun g => g.2.2 * gf Λ q t half last g.1 g.2.1) N)), upd bests' i1.toNat (zI (ld * 1024 + bsG Λ q t half last γ N))) ∧ Mem Λ L ld counts' bests' ∧ KnM ld bests bests' ∧ (∀ i', i' < N → cnd Λ q t half last (γ i').1 (γ i').2.1 → nt t (γ i').1 < bkH Λ → q + 1 < 8 → Kn ld bests' (nm Λ L ((q + 1 : Nat) : Int) (nt t (γ i').1) (nh half (γ i').1) (nl (γ i').1))) := by
      have gw : gf Λ q t half last p a = wf Λ q t half p := by unfold gf; rw [bq_t hc, if_pos rfl]
      have hxM : x ∈ lyM Λ q t half last := by
        rw [lyM_C hB t0 (by omega) a0 (by omega), List.mem_filter]
        refine ⟨x1, bq_t ?_⟩
        rw [← cnC t0 t1 x1, ← x2, ← x3]
        exact hc
      obtain ⟨c1, b1, e1, e2, e3, e4⟩ := rk_146 (groups := groups) hB hT hL l0 l1 kc KK hkc hq t0 t1 a0 a1 g0 g1 hm he hxM x1 x2 k2 k3 k5 hM (smG γ (fun g => g.2.2 * gf Λ q t half last g.1 g.2.1) i) (bsG Λ q t half last γ i) bb.1 bb.2 (zI i1) (zI (t * 238 + N)) (zI rc) (zI cut) (zI (t * 238 + i))
      have ih := rk_b64 hB hT hL l0 l1 kc hkc hq t0 t1 a0 a1 g0 g1 hm he hN hI hS rc cut i1 r0 r1 hr hcut j0 j1 d m (i + 1) c1 b1 (by omega) (by omega) e2 (fun i' hi' c' h1 h2 => by
        by_cases e : i' = i
        · subst e; rw [← hp] at h1 ⊢; exact e4 h1 h2
        · have hkk := hk i' (by omega) c' h1 h2
          have nb : 0 ≤ nm Λ L ((q + 1 : Nat) : Int) (nt t (γ i').1) (nh half (γ i').1) (nl (γ i').1) ∧ nm Λ L ((q + 1 : Nat) : Int) (nt t (γ i').1) (nh half (γ i').1) (nl (γ i').1) < 7200 := by
            have w := hI.2 i' (by omega)
            have ws := w.2.1.2
            have wl := slo_b (γ i').1
            have hsum : (2 : Int) * nh half (γ i').1 - nt t (γ i').1 = 2 * half - t + (slo (γ i').1 : Nat) := by
              unfold nh nt
              unfold sth slo at *
              omega
            exact nm_b (by omega) (by omega) (by unfold nt; omega) (by omega) (by omega) (by omega)
          exact e3 _ nb.1 nb.2 hkk)
      rw [es, eb, gw] at ih
      obtain ⟨c2, b2, f1, f2, f3, f4⟩ := ih
      refine ⟨c2, b2, ?_, f2, KnM_t e3 f3, f4⟩
      rw [hX, e1, hKK, ei]
      exact f1
    rw [F_X4_reckon_b64, if_neg l, cz, clz, k1, d1, d2, ← hKK]
    -- the conditions
    have c117 (hf : last ≠ 0 ∧ τC Λ t = 2 → p / 2 % 2 = 0) (X : Option ((Nat → Int64) × NF)) (hX : X = F_X4_reckon_b117 (zI (bkH Λ)) ties (zI L) (zI ld) groups kc KK counts bests (zI i1) (zI q) (zI t) (zI (2 * half - t)) (zI (t * 238 + N)) (zI rc) (zI cut) (wI (smG γ (fun g => g.2.2 * gf Λ q t half last g.1 g.2.1) i)) (zI (bsG Λ q t half last γ i)) (zI (t * 238 + i)) (nI (gcode p a n)) (nI (sth p)) (zI ((a : Int) - 1)) 1) : ∃ counts' bests', X = some (vp_updL counts' i1.toNat (wI (smG γ (fun g => g.2.2 * gf Λ q t half last g.1 g.2.1) N)), upd bests' i1.toNat (zI (ld * 1024 + bsG Λ q t half last γ N))) ∧ Mem Λ L ld counts' bests' ∧ KnM ld bests bests' ∧ (∀ i', i' < N → cnd Λ q t half last (γ i').1 (γ i').2.1 → nt t (γ i').1 < bkH Λ → q + 1 < 8 → Kn ld bests' (nm Λ L ((q + 1 : Nat) : Int) (nt t (γ i').1) (nh half (γ i').1) (nl (γ i').1))) := by
      unfold F_X4_reckon_b117 at hX
      rw [if_neg (by decide)] at hX
      have hrr := hr ((sth p : Nat) : Int) (by omega) (by omega)
      by_cases c1 : ((sth p : Nat) : Int) ≤ rc
      · have l2 : ¬ zI rc < nI (sth p) := by rw [nI_zI]; simp (disch := omega) only [zl_0, zl_1, zl_2, zl_3, zl_4, zl_5, zl_6, zl_7, zl_8, zl_9, zl_10, zl_11, zl_12, zl_13, zl_14, zl_15, zl_16, zl_17, zl_18, zl_19, zl_20, zl_21, zl_22, zl_23, zl_24, zl_25, zl_26, zl_27, zl_28, zl_29, zl_30, zl_31, zl_32, zl_33, zl_34, zl_35, zl_36, zl_37, zl_38, zl_39, zl_40, zl_41, zl_42, zl_43, zl_44, zl_45, zl_46, zl_47, zl_48, zl_49, zl_50, zl_51, zl_52, zl_53, zl_54, zl_55, zl_56, zl_57, zl_58, zl_59, zl_60, zl_61, zl_62, zl_63, zl_64, zl_65, zl_66, zl_80, zl_97, zl_99, zl_103, zl_107, zl_112, zl_115, zl_100, zl_180, zl_210, zl_238, zl_255, zl_256, zl_400, zl_1000, zl_1024, zl_1260, zl_2000, zl_7140, zl_7200, zl_18414, zl_65536, zl_131072, zl_9999, zl_999, zI_add, zI_sub, zI_mul, zI_neg, zI_lt, zI_le, zI_eq, zI_clamp, ck_z, ckp_z, qb_z, qb_z0, Option.bind_some]; omega
        rw [if_neg l2] at hX
        have e34 : zI t + zI (2 * half - t) = zI (2 * half) := by rw [zI_add]; congr 1; omega
        rw [e34] at hX
        by_cases c2 : a = 0
        · have q1 : zI ((a : Int) - 1) = -1 := by rw [c2]; rfl
          rw [if_pos q1] at hX
          exact yes ⟨hf, hrr.mp c1, Or.inl c2⟩ X hX
        · have q1 : ¬ zI ((a : Int) - 1) = -1 := by simp (disch := omega) only [zl_0, zl_1, zl_2, zl_3, zl_4, zl_5, zl_6, zl_7, zl_8, zl_9, zl_10, zl_11, zl_12, zl_13, zl_14, zl_15, zl_16, zl_17, zl_18, zl_19, zl_20, zl_21, zl_22, zl_23, zl_24, zl_25, zl_26, zl_27, zl_28, zl_29, zl_30, zl_31, zl_32, zl_33, zl_34, zl_35, zl_36, zl_37, zl_38, zl_39, zl_40, zl_41, zl_42, zl_43, zl_44, zl_45, zl_46, zl_47, zl_48, zl_49, zl_50, zl_51, zl_52, zl_53, zl_54, zl_55, zl_56, zl_57, zl_58, zl_59, zl_60, zl_61, zl_62, zl_63, zl_64, zl_65, zl_66, zl_80, zl_97, zl_99, zl_103, zl_107, zl_112, zl_115, zl_100, zl_180, zl_210, zl_238, zl_255, zl_256, zl_400, zl_1000, zl_1024, zl_1260, zl_2000, zl_7140, zl_7200, zl_18414, zl_65536, zl_131072, zl_9999, zl_999, zI_add, zI_sub, zI_mul, zI_neg, zI_lt, zI_le, zI_eq, zI_clamp, ck_z, ckp_z, qb_z, qb_z0, Option.bind_some]; omega
          rw [if_neg q1] at hX
          by_cases c3 : (a : Int) - 1 = 2 * half
          · have q2 : zI ((a : Int) - 1) = zI (2 * half) := by rw [c3]
            rw [if_pos q2] at hX
            exact yes ⟨hf, hrr.mp c1, Or.inr c3⟩ X hX
          · have q2 : ¬ zI ((a : Int) - 1) = zI (2 * half) := by simp (disch := omega) only [zl_0, zl_1, zl_2, zl_3, zl_4, zl_5, zl_6, zl_7, zl_8, zl_9, zl_10, zl_11, zl_12, zl_13, zl_14, zl_15, zl_16, zl_17, zl_18, zl_19, zl_20, zl_21, zl_22, zl_23, zl_24, zl_25, zl_26, zl_27, zl_28, zl_29, zl_30, zl_31, zl_32, zl_33, zl_34, zl_35, zl_36, zl_37, zl_38, zl_39, zl_40, zl_41, zl_42, zl_43, zl_44, zl_45, zl_46, zl_47, zl_48, zl_49, zl_50, zl_51, zl_52, zl_53, zl_54, zl_55, zl_56, zl_57, zl_58, zl_59, zl_60, zl_61, zl_62, zl_63, zl_64, zl_65, zl_66, zl_80, zl_97, zl_99, zl_103, zl_107, zl_112, zl_115, zl_100, zl_180, zl_210, zl_238, zl_255, zl_256, zl_400, zl_1000, zl_1024, zl_1260, zl_2000, zl_7140, zl_7200, zl_18414, zl_65536, zl_131072, zl_9999, zl_999, zI_add, zI_sub, zI_mul, zI_neg, zI_lt, zI_le, zI_eq, zI_clamp, ck_z, ckp_z, qb_z, qb_z0, Option.bind_some]; exact c3
            rw [if_neg q2] at hX
            exact no (fun w => by rcases w.2.2 with w | w; exact c2 w; exact c3 w) X hX
      · have l2 : zI rc < nI (sth p) := by rw [nI_zI]; simp (disch := omega) only [zl_0, zl_1, zl_2, zl_3, zl_4, zl_5, zl_6, zl_7, zl_8, zl_9, zl_10, zl_11, zl_12, zl_13, zl_14, zl_15, zl_16, zl_17, zl_18, zl_19, zl_20, zl_21, zl_22, zl_23, zl_24, zl_25, zl_26, zl_27, zl_28, zl_29, zl_30, zl_31, zl_32, zl_33, zl_34, zl_35, zl_36, zl_37, zl_38, zl_39, zl_40, zl_41, zl_42, zl_43, zl_44, zl_45, zl_46, zl_47, zl_48, zl_49, zl_50, zl_51, zl_52, zl_53, zl_54, zl_55, zl_56, zl_57, zl_58, zl_59, zl_60, zl_61, zl_62, zl_63, zl_64, zl_65, zl_66, zl_80, zl_97, zl_99, zl_103, zl_107, zl_112, zl_115, zl_100, zl_180, zl_210, zl_238, zl_255, zl_256, zl_400, zl_1000, zl_1024, zl_1260, zl_2000, zl_7140, zl_7200, zl_18414, zl_65536, zl_131072, zl_9999, zl_999, zI_add, zI_sub, zI_mul, zI_neg, zI_lt, zI_le, zI_eq, zI_clamp, ck_z, ckp_z, qb_z, qb_z0, Option.bind_some]; omega
        rw [if_pos l2] at hX
        exact no (fun w => c1 (hrr.mpr w.2.1)) X hX
    rcases hcut with ⟨rfl, hc1, hc2⟩ | ⟨rfl, hc⟩
    · rw [if_neg (by decide)]
      by_cases c : p / 2 % 2 = 0
      · rw [if_pos (d5.mpr c)]
        exact c117 (fun _ => c) _ rfl
      · rw [if_neg (fun w => c (d5.mp w))]
        refine no (fun w => c (w.1 ⟨hc1, hc2⟩)) _ ?_
        unfold F_X4_reckon_b117
        rw [if_pos (show (0 : Int32) = 0 from rfl)]
    · rw [if_pos (show zI 0 = 0 from rfl)]
      exact c117 (fun w => absurd w hc) _ rfl
end RL

def rK (K : NF) (i : Int) : Int := (K i.toNat).toInt
def rM (M : NF) (i q : Int) : Int := (M (i * 7 + q).toNat).toInt
/-- the book of a row of the class -/
def bkC (K M : NF) (C : Int32) (R : NF) : Book := mkB C.toInt (rK K) (rM M) (R 2).toInt (R 3).toInt (R 4).toInt (R 5).toInt
theorem RowR_c {j : Nat} {K W M : NF} {C : Int32} {many kk tt mm : NF} (h : RowR j K W M C many kk tt mm) : RwW C.toInt (rK K) (rM M) ∧ RwC C.toInt (rK K) (rM M) K M C ∧ RwM C.toInt (rK K) (rM M) j many kk mm := by
  obtain ⟨n, κ, μ, ⟨w1, w2, w3⟩, ⟨c1, c2⟩, ⟨m1, m2⟩⟩ := RowR_z h
  have en : C.toInt = n := by rw [c1]; exact zI_toInt (by omega) (by omega)
  have ek (i : Int) (i0 : 0 ≤ i) (i1 : i < n) : rK K i = κ i := by
    have := w3 i i0 i1
    unfold rK
    rw [(c2 i i0 i1).1]
    exact zI_toInt (by omega) (by omega)
  have em (i q : Int) (i0 : 0 ≤ i) (i1 : i < n) (q0 : 0 ≤ q) (q1 : q < 7) : rM M i q = μ i q := by
    have := (w3 i i0 i1).2.2 q q0 q1
    unfold rM
    rw [(c2 i i0 i1).2 q q0 q1]
    exact zI_toInt (by omega) (by omega)
  rw [en]
  refine ⟨⟨w1, w2, fun i i0 i1 => ?_⟩, ⟨c1, fun i i0 i1 => ?_⟩, ⟨m1, fun i i0 i1 => ?_⟩⟩
  · rw [ek i i0 i1]
    refine ⟨(w3 i i0 i1).1, (w3 i i0 i1).2.1, fun q q0 q1 => ?_⟩
    rw [em i q i0 i1 q0 q1]
    exact (w3 i i0 i1).2.2 q q0 q1
  · rw [ek i i0 i1]
    refine ⟨(c2 i i0 i1).1, fun q q0 q1 => ?_⟩
    rw [em i q i0 i1 q0 q1]
    exact (c2 i i0 i1).2 q q0 q1
  · rw [ek i i0 i1]
    refine ⟨(m2 i i0 i1).1, fun q q0 q1 => ?_⟩
    rw [em i q i0 i1 q0 q1]
    exact (m2 i i0 i1).2 q q0 q1
theorem RulR_c {j : Nat} {K M R : NF} {C : Int32} {sz sg lt pg : NF} (hj : j < 6) (hu : RulR j R sz sg lt pg) (hw : RwW C.toInt (rK K) (rM M)) : BkW (bkC K M C R) ∧ RuB (bkC K M C R) j sz sg lt pg ∧ R 2 = zI (bkZ (bkC K M C R)) ∧ R 3 = zI (bkG (bkC K M C R)) ∧ R 4 = zI (bkL (bkC K M C R)) ∧ R 5 = zI (bkO (bkC K M C R)) := by
  obtain ⟨e2, e3, e4, e5, r⟩ := hu
  have t2 := tI_of (R 2)
  have t3 := tI_of (R 3)
  have t4 := tI_of (R 4)
  have t5 := tI_of (R 5)
  refine ⟨BkW_mk hw ⟨r.1, r.2.1⟩ ⟨r.2.2.1, r.2.2.2.1⟩ ⟨r.2.2.2.2.1, r.2.2.2.2.2.1⟩ ⟨r.2.2.2.2.2.2.1, r.2.2.2.2.2.2.2⟩, ⟨by omega, by omega, ?_, ?_, ?_, ?_⟩, t2, t3, t4, t5⟩
  · rw [Int.toNat_natCast, ← e2]; exact t2
  · rw [Int.toNat_natCast, ← e3]; exact t3
  · rw [Int.toNat_natCast, ← e4]; exact t4
  · rw [Int.toNat_natCast, ← e5]; exact t5
theorem GrF_k {Λ : Book} {t t' : Int} {g c g' c' : NF} (hk : GrK t g c g' c') (t0 : 0 ≤ t) (t0' : 0 ≤ t') (ne : t' ≠ t) (h : GrF Λ t' g c) : GrF Λ t' g' c' := by
  obtain ⟨N, γ, h1, h2, h3⟩ := h
  refine ⟨N, γ, h1, ⟨?_, fun i hi => ?_⟩, h3⟩
  · rw [hk.2 _ (by omega)]; exact h2.1
  · rw [hk.1 _ (by omega)]
    exact h2.2 i hi
theorem TbC_l {Λ : Book} (hB : BkW Λ) {le nu sp he ne wa si ti : NF} {la : Int32} (h : LvP Λ (bkH Λ) le nu sp he ne wa si ti la) : TbC Λ (σC Λ) (τC Λ) nu sp wa si ti := by
  intro k k0 k1
  obtain ⟨a1, a2, a3, a4, a5, a6, a7, a8⟩ := h.1 k k0 k1
  have sb := bsp_b hB 1 k k0 k1
  rw [see1] at sb
  refine ⟨a2, a3, a6, a7, a8, sb.1, sb.2, ?_, ?_⟩
  · unfold τC bti
    (repeat' split) <;> omega
  · unfold τC bti
    (repeat' split) <;> omega
/-- the reckoner holds the book -/
def RkV (Λ : Book) (ld : Int) (cnt : Int32) (le nu sp he ne wa si ti : NF) (la sz sg lt : Int32) (groups gcs : NF) (counts : Nat → Int64) (bests : NF) : Prop := cnt = zI (bkH Λ) ∧ sz = zI (bkZ Λ) ∧ sg = zI (bkG Λ) ∧ lt = zI (bkL Λ) ∧ LvP Λ (bkH Λ) le nu sp he ne wa si ti la ∧ ∃ L, la = zI L ∧ Rky Λ L ld le nu sp wa si ti groups gcs ∧ Mem Λ L ld counts bests
/-- the reckoner's stamps are sound -/
def RkS (ld : Int) (bests : NF) : Prop := 0 ≤ ld ∧ ∀ i : Int, 0 ≤ i → i < 7200 → ∃ b, bests i.toNat = zI b ∧ 0 ≤ b ∧ b < (ld + 1) * 1024
section LD
variable {Λ : Book} {le nu sp he ne wa si ti : NF}
theorem load_b60_z (hB : BkW Λ) (hT : TbC Λ (σC Λ) (τC Λ) nu sp wa si ti) (la lt : Int32) (kl : Int32) (be : NF) (chg : Bool) : ∀ (d m : Nat) (t : Int) (y1 y2 y3 y4 : Int32) (y5 y6 y7 : NF) (y8 y9 y10 y11 y12 : Int32) (groups gcs tally : NF), 0 ≤ t → t + d = bkH Λ → d < m → (∀ t', 0 ≤ t' → t' < t → GrF Λ t' groups gcs) → ∃ (z1 z2 z3 z4 : Int32) (z5 z6 z7 : NF) (z8 z9 z10 z11 z12 : Int32) (groups' gcs' tally' : NF), F_X4_load_b60 m (zI (bkH Λ)) le nu sp he ne wa si ti la (zI (bkZ Λ)) (zI (bkG Λ)) lt y1 y2 y3 y4 y5 y6 y7 y8 y9 y10 y11 y12 kl groups gcs tally be chg (zI t) = some (zI (bkH Λ), le, nu, sp, he, ne, wa, si, ti, la, zI (bkZ Λ), zI (bkG Λ), lt, z1, z2, z3, z4, z5, z6, z7, z8, z9, z10, z11, z12, kl, groups', gcs', tally', be, chg) ∧ ∀ t', 0 ≤ t' → t' < bkH Λ → GrF Λ t' groups' gcs'
  | 0, m + 1, t, y1, y2, y3, y4, y5, y6, y7, y8, y9, y10, y11, y12, groups, gcs, tally, t0, ht, _, hG => by
    have h30 := hB.2.1
    have l : zI (bkH Λ) ≤ zI t := by simp (disch := omega) only [zl_0, zl_1, zl_2, zl_3, zl_4, zl_5, zl_6, zl_7, zl_8, zl_9, zl_10, zl_11, zl_12, zl_13, zl_14, zl_15, zl_16, zl_17, zl_18, zl_19, zl_20, zl_21, zl_22, zl_23, zl_24, zl_25, zl_26, zl_27, zl_28, zl_29, zl_30, zl_31, zl_32, zl_33, zl_34, zl_35, zl_36, zl_37, zl_38, zl_39, zl_40, zl_41, zl_42, zl_43, zl_44, zl_45, zl_46, zl_47, zl_48, zl_49, zl_50, zl_51, zl_52, zl_53, zl_54, zl_55, zl_56, zl_57, zl_58, zl_59, zl_60, zl_61, zl_62, zl_63, zl_64, zl_65, zl_66, zl_80, zl_97, zl_99, zl_103, zl_107, zl_112, zl_115, zl_100, zl_180, zl_210, zl_238, zl_255, zl_256, zl_400, zl_1000, zl_1024, zl_1260, zl_2000, zl_7140, zl_7200, zl_18414, zl_65536, zl_131072, zl_9999, zl_999, zI_add, zI_sub, zI_mul, zI_neg, zI_lt, zI_le, zI_eq, zI_clamp, ck_z, ckp_z, qb_z, qb_z0, Option.bind_some]; omega
    rw [F_X4_load_b60, if_pos l]
    exact ⟨_, _, _, _, _, _, _, _, _, _, _, _, _, _, _, rfl, fun t' h0 h1 => hG t' h0 (by omega)⟩
  | d + 1, m + 1, t, y1, y2, y3, y4, y5, y6, y7, y8, y9, y10, y11, y12, groups, gcs, tally, t0, ht, hm, hG => by
    have h30 := hB.2.1
    have l : ¬ zI (bkH Λ) ≤ zI t := by simp (disch := omega) only [zl_0, zl_1, zl_2, zl_3, zl_4, zl_5, zl_6, zl_7, zl_8, zl_9, zl_10, zl_11, zl_12, zl_13, zl_14, zl_15, zl_16, zl_17, zl_18, zl_19, zl_20, zl_21, zl_22, zl_23, zl_24, zl_25, zl_26, zl_27, zl_28, zl_29, zl_30, zl_31, zl_32, zl_33, zl_34, zl_35, zl_36, zl_37, zl_38, zl_39, zl_40, zl_41, zl_42, zl_43, zl_44, zl_45, zl_46, zl_47, zl_48, zl_49, zl_50, zl_51, zl_52, zl_53, zl_54, zl_55, zl_56, zl_57, zl_58, zl_59, zl_60, zl_61, zl_62, zl_63, zl_64, zl_65, zl_66, zl_80, zl_97, zl_99, zl_103, zl_107, zl_112, zl_115, zl_100, zl_180, zl_210, zl_238, zl_255, zl_256, zl_400, zl_1000, zl_1024, zl_1260, zl_2000, zl_7140, zl_7200, zl_18414, zl_65536, zl_131072, zl_9999, zl_999, zI_add, zI_sub, zI_mul, zI_neg, zI_lt, zI_le, zI_eq, zI_clamp, ck_z, ckp_z, qb_z, qb_z0, Option.bind_some]; omega
    have et : zI t + 1 = zI (t + 1) := by rw [zl_1, zI_add]
    obtain ⟨z1, z2, z3, z4, z5, z6, z7, z8, z9, z10, z11, z12, g1, c1, ta1, r1, r2, r3⟩ := groupLays_z hB hT t0 (by omega) y1 y2 y3 y4 y5 y6 y7 y8 y9 y10 y11 y12 groups gcs tally
    rw [F_X4_load_b60, if_neg l, r1, Option.bind_some, et]
    exact load_b60_z hB hT la lt kl be chg d m (t + 1) z1 z2 z3 z4 z5 z6 z7 z8 z9 z10 z11 z12 g1 c1 ta1 (by omega) (by omega) (by omega) (fun t' h0 h1 => by
      by_cases e : t' = t
      · rw [e]; exact r2
      · exact GrF_k r3 t0 h0 e (hG t' h0 (by omega)))
end LD
theorem load_s_b60 : ∀ (m : Nat) (x1 : Int32) (a b c d e f g h : NF) (i x2 x3 x4 y1 y2 y3 y4 : Int32) (y5 y6 y7 : NF) (y8 y9 y10 y11 y12 kl : Int32) (gr gc ta be : NF) (ch : Bool) (t : Int32), F_X4_load_s_b60 m x1 a b c d e f g h i x2 x3 x4 y1 y2 y3 y4 y5 y6 y7 y8 y9 y10 y11 y12 kl gr gc ta be ch t = F_X4_load_b60 m x1 a b c d e f g h i x2 x3 x4 y1 y2 y3 y4 y5 y6 y7 y8 y9 y10 y11 y12 kl gr gc ta be ch t
  | 0, _, _, _, _, _, _, _, _, _, _, _, _, _, _, _, _, _, _, _, _, _, _, _, _, _, _, _, _, _, _, _, _ => rfl
  | m + 1, x1, a, b, c, d, e, f, g, h, i, x2, x3, x4, y1, y2, y3, y4, y5, y6, y7, y8, y9, y10, y11, y12, kl, gr, gc, ta, be, ch, t => by
    rw [F_X4_load_s_b60, F_X4_load_b60]
    simp only [load_s_b60 m]
section LE
variable {j : Nat} {K W M R : NF} {C : Int32} {many kk tt mm sz sg lt pg : NF}
theorem load_z (hj : j < 6) (hr : RowR j K W M C many kk tt mm) (hu : RulR j R sz sg lt pg) (l0 : Int32) (l1 l2 l3 l4 l5 l6 l7 l8 : NF) (l9 l10 l11 l12 y1 y2 y3 y4 : Int32) (y5 y6 y7 : NF) (y8 y9 y10 y11 y12 : Int32) (ld : Int) (groups gcs tally : NF) (counts : Nat → Int64) (bests : NF) (hs : RkS ld bests) (hld : ld < 1000) : ∃ (le nu sp he ne wa si ti : NF) (la z1 z2 z3 z4 : Int32) (z5 z6 z7 : NF) (z8 z9 z10 z11 z12 : Int32) (groups' gcs' tally' : NF), F_X4_load_b16 K M R C l0 l1 l2 l3 l4 l5 l6 l7 l8 l9 l10 l11 l12 y1 y2 y3 y4 y5 y6 y7 y8 y9 y10 y11 y12 (zI ld) groups gcs tally bests = some (zI (bkH (bkC K M C R)), le, nu, sp, he, ne, wa, si, ti, la, zI (bkZ (bkC K M C R)), zI (bkG (bkC K M C R)), zI (bkL (bkC K M C R)), z1, z2, z3, z4, z5, z6, z7, z8, z9, z10, z11, z12, zI (ld + 1), groups', gcs', tally', bests, false) ∧ RkV (bkC K M C R) (ld + 1) (zI (bkH (bkC K M C R))) le nu sp he ne wa si ti la (zI (bkZ (bkC K M C R))) (zI (bkG (bkC K M C R))) (zI (bkL (bkC K M C R))) groups' gcs' counts bests := by
  obtain ⟨hw, hc, _⟩ := RowR_c hr
  obtain ⟨hB, hR, e2, e3, e4, e5⟩ := RulR_c (K := K) (M := M) (C := C) hj hu hw
  have h30 := hB.2.1
  obtain ⟨le, nu, sp, he, ne, wa, si, ti, la, r1, r2⟩ := loadLv_z (sz := (R 2).toInt) (sg := (R 3).toInt) (lt := (R 4).toInt) (pg := (R 5).toInt) hw hc (hu.2.2.2.2.2.2.2.2.2.2.1) (hu.2.2.2.2.2.2.2.2.2.2.2) (tI_of _) (tI_of _) (tI_of _) (tI_of _) l0 l1 l2 l3 l4 l5 l6 l7 l8 l9 l10 l11 l12
  have hT := TbC_l hB r2
  obtain ⟨z1, z2, z3, z4, z5, z6, z7, z8, z9, z10, z11, z12, g1, c1, ta1, q1, q2⟩ := load_b60_z (le := le) (he := he) (ne := ne) hB hT la (zI (bkL (bkC K M C R))) (zI (ld + 1)) bests false (bkH (bkC K M C R)).toNat FU 0 y1 y2 y3 y4 y5 y6 y7 y8 y9 y10 y11 y12 groups gcs tally (by omega) (by have := hB.1; omega) (by unfold FU; omega) (fun t' h0 h1 => by omega)
  refine ⟨le, nu, sp, he, ne, wa, si, ti, la, z1, z2, z3, z4, z5, z6, z7, z8, z9, z10, z11, z12, g1, c1, ta1, ?_, rfl, rfl, rfl, rfl, r2, ?_⟩
  · have hs1 := hs.1
    have l : zI (ld + 1) ≤ 1000 := by
      rw [show (1000 : Int32) = zI 1000 from rfl, zI_le (by omega) (by omega) (by omega) (by omega)]
      omega
    unfold F_X4_load_b16
    rw [show zI ld + 1 = zI (ld + 1) by rw [zl_1, zI_add], if_pos l]
    unfold F_X4_load_b50
    rw [r1, Option.bind_some]
    exact q1
  · obtain ⟨L, eL, L1, L2, L3, L4⟩ := r2.2
    have hs2 : ∀ i : Int, 0 ≤ i → i < 7200 → ∃ b, bests i.toNat = zI b ∧ 0 ≤ b ∧ b < (ld + 1) * 1024 := hs.2
    refine ⟨L, eL, ⟨hB, hT, ⟨L1, L2, fun h h0 h1 h2 => L4 h h0 h1 h2⟩, fun h h0 h1 => (r2.1 h h0 h1).1, q2, by have := hs.1; omega, by omega⟩, fun i i0 i1 => ?_, fun i i0 i1 hk => ?_⟩
    · obtain ⟨b, b1, b2, b3⟩ := hs2 i i0 i1
      exact ⟨b, b1, b2, by omega⟩
    · exfalso
      obtain ⟨b, b1, b2, b3⟩ := hs2 i i0 i1
      have := hs.1
      unfold Kn at hk
      rw [b1, show (1024 : Int32) = zI 1024 from rfl, divz (by omega) (by omega) (by omega) (by omega), zI_eq (by omega) (by omega) (by omega) (by omega)] at hk
      omega
end LE

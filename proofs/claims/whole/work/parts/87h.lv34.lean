abbrev TLd : Type := Int32 × NF × NF × NF × NF × NF × NF × NF × NF × Int32 × Int32 × Int32 × Int32 × Int32 × Int32 × Int32 × Int32 × NF × NF × NF × Int32 × Int32 × Int32 × Int32 × Int32 × Int32 × NF × NF × NF × NF × Bool
/-- after the load the reckoner holds the book -/
def LdP (Λ : Book) (ld : Int) (counts : Nat → Int64) (bests : NF) (X : Option TLd) : Prop := ∃ (le nu sp he ne wa si ti : NF) (la z1 z2 z3 z4 : Int32) (z5 z6 z7 : NF) (z8 z9 z10 z11 z12 : Int32) (ld' : Int) (groups' gcs' tally' : NF), X = some (zI (bkH Λ), le, nu, sp, he, ne, wa, si, ti, la, zI (bkZ Λ), zI (bkG Λ), zI (bkL Λ), z1, z2, z3, z4, z5, z6, z7, z8, z9, z10, z11, z12, zI ld', groups', gcs', tally', bests, false) ∧ ld ≤ ld' ∧ ld' ≤ ld + 1 ∧ RkV Λ ld' (zI (bkH Λ)) le nu sp he ne wa si ti la (zI (bkZ Λ)) (zI (bkG Λ)) (zI (bkL Λ)) groups' gcs' counts bests
theorem RkV_S {Λ : Book} {ld : Int} {cnt : Int32} {le nu sp he ne wa si ti : NF} {la sz sg lt : Int32} {groups gcs : NF} {counts : Nat → Int64} {bests : NF} (h : RkV Λ ld cnt le nu sp he ne wa si ti la sz sg lt groups gcs counts bests) : RkS ld bests := by
  obtain ⟨_, _, _, _, _, L, _, hK, hM⟩ := h
  exact ⟨hK.2.2.2.2.2.1, hM.1⟩
section RD
variable {j : Nat} {K W M R : NF} {C : Int32} {many kk tt mm sz sg lt pg : NF}
theorem rdy_other (hj : j < 6) (hr : RowR j K W M C many kk tt mm) (hu : RulR j R sz sg lt pg) (chg : Bool) (l0 : Int32) (l1 l2 l3 l4 l5 l6 l7 l8 : NF) (l9 l10 l11 l12 y1 y2 y3 y4 : Int32) (y5 y6 y7 : NF) (y8 y9 y10 y11 y12 : Int32) (ld : Int) (groups gcs tally : NF) (counts : Nat → Int64) (bests : NF) (hs : RkS ld bests) (hld : ld < 1000) : LdP (bkC K M C R) ld counts bests (F_X4_load l0 l1 l2 l3 l4 l5 l6 l7 l8 l9 l10 l11 l12 y1 y2 y3 y4 y5 y6 y7 y8 y9 y10 y11 y12 (zI ld) groups gcs tally bests K M R C chg) := by
  obtain ⟨le, nu, sp, he, ne, wa, si, ti, la, z1, z2, z3, z4, z5, z6, z7, z8, z9, z10, z11, z12, g1, c1, ta1, q1, q2⟩ := load_z hj hr hu l0 l1 l2 l3 l4 l5 l6 l7 l8 l9 l10 l11 l12 y1 y2 y3 y4 y5 y6 y7 y8 y9 y10 y11 y12 ld groups gcs tally counts bests hs hld
  unfold F_X4_load
  exact ⟨le, nu, sp, he, ne, wa, si, ti, la, z1, z2, z3, z4, z5, z6, z7, z8, z9, z10, z11, z12, ld + 1, g1, c1, ta1, q1, by omega, by omega, q2⟩
theorem rdy_same (hj : j < 6) (hr : RowR j K W M C many kk tt mm) (hu : RulR j R sz sg lt pg) (chg : Bool) (l0 : Int32) (l1 l2 l3 l4 l5 l6 l7 l8 : NF) (l9 l10 l11 l12 y1 y2 y3 y4 : Int32) (y5 y6 y7 : NF) (y8 y9 y10 y11 y12 : Int32) (ld : Int) (groups gcs tally : NF) (counts : Nat → Int64) (bests : NF) (hs : RkS ld bests) (hld : ld < 1000) (hV : chg = false → RkV (bkC K M C R) ld l0 l1 l2 l3 l4 l5 l6 l7 l8 l9 l10 l11 l12 groups gcs counts bests) : LdP (bkC K M C R) ld counts bests (F_X4_load_s l0 l1 l2 l3 l4 l5 l6 l7 l8 l9 l10 l11 l12 y1 y2 y3 y4 y5 y6 y7 y8 y9 y10 y11 y12 (zI ld) groups gcs tally bests K M R C chg) := by
  unfold F_X4_load_s
  cases chg with
  | false =>
    have v := hV rfl
    obtain ⟨e1, e2, e3, e4, _⟩ := id v
    rw [if_pos (show qb false = 0 from rfl)]
    rw [e1, e2, e3, e4] at v ⊢
    exact ⟨l1, l2, l3, l4, l5, l6, l7, l8, l9, y1, y2, y3, y4, y5, y6, y7, y8, y9, y10, y11, y12, ld, groups, gcs, tally, rfl, by omega, by omega, v⟩
  | true =>
    rw [if_neg (show ¬ qb true = 0 by decide)]
    have e : F_X4_load_s_b16 K M R C l0 l1 l2 l3 l4 l5 l6 l7 l8 l9 l10 l11 l12 y1 y2 y3 y4 y5 y6 y7 y8 y9 y10 y11 y12 (zI ld) groups gcs tally bests = F_X4_load_b16 K M R C l0 l1 l2 l3 l4 l5 l6 l7 l8 l9 l10 l11 l12 y1 y2 y3 y4 y5 y6 y7 y8 y9 y10 y11 y12 (zI ld) groups gcs tally bests := by
      unfold F_X4_load_s_b16 F_X4_load_b16 F_X4_load_s_b50 F_X4_load_b50
      simp only [load_s_b60]
    rw [e]
    exact rdy_other hj hr hu true l0 l1 l2 l3 l4 l5 l6 l7 l8 l9 l10 l11 l12 y1 y2 y3 y4 y5 y6 y7 y8 y9 y10 y11 y12 ld groups gcs tally counts bests hs hld
abbrev TWy : Type := Int64 × Bool × Int32 × NF × NF × NF × NF × NF × NF × NF × NF × Int32 × Int32 × Int32 × Int32 × Int32 × Int32 × Int32 × Int32 × NF × NF × NF × Int32 × Int32 × Int32 × Int32 × Int32 × Int32 × NF × NF × NF × (Nat → Int64) × NF
def WyP (Λ : Book) (ld : Int) (X : Option TWy) : Prop := ∃ (le nu sp he ne wa si ti : NF) (la z1 z2 z3 z4 : Int32) (z5 z6 z7 : NF) (z8 z9 z10 z11 z12 : Int32) (ld' : Int) (groups' gcs' tally' : NF) (counts' : Nat → Int64) (bests' : NF), X = some (wI (WQ Λ 0 0 0 0), false, zI (bkH Λ), le, nu, sp, he, ne, wa, si, ti, la, zI (bkZ Λ), zI (bkG Λ), zI (bkL Λ), z1, z2, z3, z4, z5, z6, z7, z8, z9, z10, z11, z12, zI ld', groups', gcs', tally', counts', bests') ∧ ld ≤ ld' ∧ ld' ≤ ld + 1 ∧ RkV Λ ld' (zI (bkH Λ)) le nu sp he ne wa si ti la (zI (bkZ Λ)) (zI (bkG Λ)) (zI (bkL Λ)) groups' gcs' counts' bests'
theorem RkV_tot {Λ : Book} {ld : Int} {cnt : Int32} {le nu sp he ne wa si ti : NF} {la sz sg lt : Int32} {groups gcs : NF} {counts : Nat → Int64} {bests : NF} (h : RkV Λ ld cnt le nu sp he ne wa si ti la sz sg lt groups gcs counts bests) : ∃ counts' bests', F_X4_total cnt le ti la lt (zI ld) groups gcs counts bests = some (wI (WQ Λ 0 0 0 0), counts', bests') ∧ RkV Λ ld cnt le nu sp he ne wa si ti la sz sg lt groups gcs counts' bests' ∧ ∃ L, la = zI L ∧ Lsp Λ L ∧ (0 < bkH Λ → Kn ld bests' (nm Λ L 0 0 0 0)) := by
  obtain ⟨e1, e2, e3, e4, hP, L, eL, hK, hM⟩ := h
  obtain ⟨counts', bests', r1, r2, r3, r4⟩ := total_z hK hM
  rw [e1, e4, eL]
  exact ⟨counts', bests', r1, ⟨rfl, e2, e3, rfl, eL ▸ hP, L, rfl, hK, r2⟩, L, rfl, hK.2.2.1, r4⟩
theorem op_ways_same (hj : j < 6) (hr : RowR j K W M C many kk tt mm) (hu : RulR j R sz sg lt pg) (chg : Bool) (l0 : Int32) (l1 l2 l3 l4 l5 l6 l7 l8 : NF) (l9 l10 l11 l12 y1 y2 y3 y4 : Int32) (y5 y6 y7 : NF) (y8 y9 y10 y11 y12 : Int32) (ld : Int) (groups gcs tally : NF) (counts : Nat → Int64) (bests : NF) (p0 : Int32) (hs : RkS ld bests) (hld : ld < 1000) (hV : chg = false → RkV (bkC K M C R) ld l0 l1 l2 l3 l4 l5 l6 l7 l8 l9 l10 l11 l12 groups gcs counts bests) : WyP (bkC K M C R) ld (F_X7_ways_same K M R C chg l0 l1 l2 l3 l4 l5 l6 l7 l8 l9 l10 l11 l12 y1 y2 y3 y4 y5 y6 y7 y8 y9 y10 y11 y12 (zI ld) groups gcs tally counts bests p0) := by
  obtain ⟨le, nu, sp, he, ne, wa, si, ti, la, z1, z2, z3, z4, z5, z6, z7, z8, z9, z10, z11, z12, ld', g1, c1, ta1, q1, q2, q3, q4⟩ := rdy_same hj hr hu chg l0 l1 l2 l3 l4 l5 l6 l7 l8 l9 l10 l11 l12 y1 y2 y3 y4 y5 y6 y7 y8 y9 y10 y11 y12 ld groups gcs tally counts bests hs hld hV
  obtain ⟨counts', bests', r1, r2, _⟩ := RkV_tot q4
  refine ⟨le, nu, sp, he, ne, wa, si, ti, la, z1, z2, z3, z4, z5, z6, z7, z8, z9, z10, z11, z12, ld', g1, c1, ta1, counts', bests', ?_, q2, q3, r2⟩
  unfold F_X7_ways_same
  rw [q1, Option.bind_some]
  show (F_X4_total (zI (bkH (bkC K M C R))) le ti la (zI (bkL (bkC K M C R))) (zI ld') g1 c1 counts bests).bind _ = _
  rw [r1, Option.bind_some]
theorem op_ways_other (hj : j < 6) (hr : RowR j K W M C many kk tt mm) (hu : RulR j R sz sg lt pg) (chg : Bool) (l0 : Int32) (l1 l2 l3 l4 l5 l6 l7 l8 : NF) (l9 l10 l11 l12 y1 y2 y3 y4 : Int32) (y5 y6 y7 : NF) (y8 y9 y10 y11 y12 : Int32) (ld : Int) (groups gcs tally : NF) (counts : Nat → Int64) (bests : NF) (p0 : Int32) (hs : RkS ld bests) (hld : ld < 1000) : WyP (bkC K M C R) ld (F_X7_ways_other K M R C chg l0 l1 l2 l3 l4 l5 l6 l7 l8 l9 l10 l11 l12 y1 y2 y3 y4 y5 y6 y7 y8 y9 y10 y11 y12 (zI ld) groups gcs tally counts bests p0) := by
  obtain ⟨le, nu, sp, he, ne, wa, si, ti, la, z1, z2, z3, z4, z5, z6, z7, z8, z9, z10, z11, z12, ld', g1, c1, ta1, q1, q2, q3, q4⟩ := rdy_other hj hr hu chg l0 l1 l2 l3 l4 l5 l6 l7 l8 l9 l10 l11 l12 y1 y2 y3 y4 y5 y6 y7 y8 y9 y10 y11 y12 ld groups gcs tally counts bests hs hld
  obtain ⟨counts', bests', r1, r2, _⟩ := RkV_tot q4
  refine ⟨le, nu, sp, he, ne, wa, si, ti, la, z1, z2, z3, z4, z5, z6, z7, z8, z9, z10, z11, z12, ld', g1, c1, ta1, counts', bests', ?_, q2, q3, r2⟩
  unfold F_X7_ways_other
  rw [q1, Option.bind_some]
  show (F_X4_total (zI (bkH (bkC K M C R))) le ti la (zI (bkL (bkC K M C R))) (zI ld') g1 c1 counts bests).bind _ = _
  rw [r1, Option.bind_some]
theorem TbW_0 {Λ : Book} {ways : Nat → Int64} {few : NF} (h : TbW Λ ways few (fun _ _ _ _ => True)) : ways 0 = wI (WQ Λ 0 0 0 0) ∧ few 0 = zI (FQ Λ 0 0 0 0) := by
  have := (h 0 0 0 0 (by omega) ⟨rfl, rfl, rfl⟩).1 True.intro
  exact this
theorem go_z (hj : j < 6) (hr : RowR j K W M C many kk tt mm) (hu : RulR j R sz sg lt pg) (a0 a1 : Int32) (hg0 cn0 ein met0 : NF) (ways0 : Nat → Int64) (few0 : NF) : ∃ hg cn e' met' ways' few', F_X8_goThrough many kk mm sz sg lt pg a0 a1 hg0 cn0 ein met0 ways0 few0 (nI j) = some (nI j, zI (bkH (bkC K M C R)), hg, cn, e', met', ways', few') ∧ LvM (bkC K M C R) mm hg cn ∧ MtT (bkC K M C R) met' ∧ TbW (bkC K M C R) ways' few' (fun _ _ _ _ => True) := by
  obtain ⟨hw, _, hm⟩ := RowR_c hr
  obtain ⟨hB, hR, _⟩ := RulR_c (K := K) (M := M) (C := C) hj hu hw
  rw [nI_zI]
  exact goThrough_z hw hm rfl hB hR a0 a1 hg0 cn0 ein met0 ways0 few0
theorem op_ways_m (hj : j < 6) (hr : RowR j K W M C many kk tt mm) (hu : RulR j R sz sg lt pg) (told a0 a1 : Int32) (hg0 cn0 ein met0 : NF) (ways0 : Nat → Int64) (few0 : NF) : ∃ c2, F_X8_ways told many kk mm sz sg lt pg a0 a1 hg0 cn0 ein met0 ways0 few0 (nI j) = some (wI (WQ (bkC K M C R) 0 0 0 0), 0, c2) := by
  obtain ⟨hg, cn, e', met', ways', few', r1, r2, r3, r4⟩ := go_z hj hr hu a0 a1 hg0 cn0 ein met0 ways0 few0
  unfold F_X8_ways
  rw [isRow_eq j hj, Option.bind_some, if_neg (show ¬ qb true = 0 by decide), r1, Option.bind_some, ← (TbW_0 r4).1]
  exact ⟨_, rfl⟩
end RD

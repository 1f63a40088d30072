section JD
variable {n : Int} {κ : Int → Int} {μ : Int → Int → Int} {K M R : NF} {C : Int32} {sz sg lt pg : Int}
theorem bk_at {i : Nat} (hi : (i : Int) < n) (hg : Hg (κ i)) : (∀ q : Nat, q < 7 → bkM (mkB n κ μ sz sg lt pg) q (hcn κ i) = μ i q) ∧ bkX (mkB n κ μ sz sg lt pg) (hcn κ i) = (if Can n κ i then 1 else 0) ∧ bkP (mkB n κ μ sz sg lt pg) (hcn κ i) = μ ((i : Int) + 1) 2 ∧ bkD (mkB n κ μ sz sg lt pg) (hcn κ i) = μ ((i : Int) + 1) 3 := by
  have hx := hixn hi hg
  refine ⟨fun q hq => by rw [bkM_mk n κ μ sz sg lt pg q _ hq, hx], ?_, ?_, ?_⟩
  · show (if Can n κ (hix κ n.toNat (hcn κ i)) then (1 : Int) else 0) = _
    rw [hx]
  · show μ (hix κ n.toNat (hcn κ i) + 1) 2 = _
    rw [hx]
  · show μ (hix κ n.toNat (hcn κ i) + 1) 3 = _
    rw [hx]
theorem hcn_lt {i : Nat} (hi : (i : Int) < n) (hg : Hg (κ i)) : hcn κ i < hcn κ n.toNat := by
  have hm := hcn_m κ (i + 1) (n.toNat - (i + 1))
  rw [show i + 1 + (n.toNat - (i + 1)) = n.toNat by omega, hcn, if_pos hg] at hm
  omega
theorem jdg_z (hw : RwW n κ μ) (hr : RwC n κ μ K M C) (hp : 0 ≤ pg) (hp2 : pg ≤ 999) (eR : R 5 = zI pg) (hB : BkW (mkB n κ μ sz sg lt pg)) (spots heads nexts ties : NF) (hnx : ∀ h, 0 ≤ h → h < bkH (mkB n κ μ sz sg lt pg) → nexts h.toNat = zI (bkM (mkB n κ μ sz sg lt pg) 4 h)) {i : Nat} (hi : (i : Int) < n) (hg : Hg (κ i)) (x : Int) (hx : x = 0 ∨ x = bkX (mkB n κ μ sz sg lt pg) (hcn κ i)) : F_X2_judge (zI (bkH (mkB n κ μ sz sg lt pg))) spots heads nexts ties M R C (zI (hcn κ i)) (zI i) (zI x) = some (upd spots (hcn κ i).toNat (zI (bsp (mkB n κ μ sz sg lt pg) x (hcn κ i))), upd heads (hcn κ i).toNat (zI (bhd (mkB n κ μ sz sg lt pg) x (hcn κ i))), upd ties (hcn κ i).toNat (zI (bti (mkB n κ μ sz sg lt pg) x (hcn κ i)))) := by
  obtain ⟨mk, eX, eP, eD⟩ := bk_at (μ := μ) (sz := sz) (sg := sg) (lt := lt) (pg := pg) hi hg
  have hb := hcn_b κ i
  have hl := hcn_lt hi hg
  have hH : bkH (mkB n κ μ sz sg lt pg) = hcn κ n.toNat := rfl
  have h30 := hB.2.1
  have eO : bkO (mkB n κ μ sz sg lt pg) = pg := rfl
  obtain ⟨c, hc1, hc2, hc3⟩ : ∃ c : Int, 0 ≤ c ∧ c ≤ 9999 ∧ (0 < hcn κ i → c = bkM (mkB n κ μ sz sg lt pg) 4 (hcn κ i - 1)) := by
    by_cases h0 : 0 < hcn κ i
    · have := (hB.2.2.2.2.2.2.2.2.2.2 (hcn κ i - 1) (by omega) (by omega)).1 4 (by omega)
      exact ⟨_, this.1, this.2, fun _ => rfl⟩
    · exact ⟨0, by omega, by omega, fun x => absurd x h0⟩
  have hx2 : x = 0 ∨ (x = 1 ∧ (i : Int) + 1 < n) := by
    rcases hx with hx | hx
    · exact Or.inl hx
    · rw [eX] at hx
      by_cases w : Can n κ i
      · rw [if_pos w] at hx; exact Or.inr ⟨hx, w.2.1⟩
      · rw [if_neg w] at hx; exact Or.inl hx
  have jd := judge_z (R := R) hw hr pg hp hp2 eR (bkH (mkB n κ μ sz sg lt pg)) h30 spots heads nexts ties (hcn κ i) i x c hb.1 (by omega) (by omega) hi hx2 hc1 hc2 (fun h0 => by rw [hc3 h0]; exact hnx _ (by omega) (by omega))
  have esp : (if x = 0 then spo (μ i 2) pg else tog (spo (μ i 2) pg) (spo (μ ((i : Int) + 1) 2) pg)) = bsp (mkB n κ μ sz sg lt pg) x (hcn κ i) := by
    unfold bsp
    rw [mk 2 (by omega), eP, eO]
    rfl
  have ehd : (if x = 0 then μ i 3 else if μ ((i : Int) + 1) 3 ≤ 0 then μ i 3 else μ ((i : Int) + 1) 3) = bhd (mkB n κ μ sz sg lt pg) x (hcn κ i) := by
    unfold bhd
    rw [mk 3 (by omega), eD]
    rfl
  have eti : (if hcn κ i ≤ 0 then 0 else if c = 0 then 0 else if bhd (mkB n κ μ sz sg lt pg) x (hcn κ i) = 0 then 0 else if c = bhd (mkB n κ μ sz sg lt pg) x (hcn κ i) then 1 else 2) = bti (mkB n κ μ sz sg lt pg) x (hcn κ i) := by
    unfold bti
    by_cases h0 : hcn κ i ≤ 0
    · rw [if_pos h0, if_pos h0]
    · rw [if_neg h0, if_neg h0, hc3 (by omega)]
  rw [esp, ehd, eti] at jd
  exact jd
theorem canc_m1 (hw : RwW n κ μ) (hr : RwC n κ μ K M C) : F_X5_isCancelled K C (zI (-1)) = some false := by
  obtain ⟨n0, n1, _⟩ := hw
  have e0 := has_z n (-1) n0 (by omega) (by omega) (by omega)
  rw [decide_eq_false (by omega)] at e0
  unfold F_X5_isCancelled
  rw [hr.1, e0, Option.bind_some, if_pos (show qb false = 0 from rfl)]
/-- up to the thing i some beginning is left -/
def Opn (Λ : Book) (n : Int) (κ : Int → Int) (i : Nat) : Prop := (Hg (κ i) → BgA Λ (hcn κ i + 1) 0) ∧ (¬ Hg (κ i) → 1 ≤ i → Can n κ ((i : Int) - 1) → BgA Λ (hcn κ i) 1)
noncomputable def wy (Λ : Book) (n : Int) (κ : Int → Int) : Nat → Nat → Int
  | 0, i => i
  | d + 1, i => if bq (Opn Λ n κ i) = true then wy Λ n κ d (i + 1) else i
abbrev RFs : Type := Option (Int32 × NF × NF × NF × Int32 × Int32 × Int32 × Int32 × NF × NF × NF × Int32 × Int32 × Int32 × Int32 × Int32)
abbrev KFs : Type := NF → NF → NF → Int32 → Int32 → Int32 → Int32 → NF → NF → NF → Int32 → Int32 → Int32 → Int32 → Int32 → Int32 → Int32 → RFs
theorem fs_b4 (hw : RwW n κ μ) (hr : RwC n κ μ K M C) (hp : 0 ≤ pg) (hp2 : pg ≤ 999) (eR : R 5 = zI pg) {Λ : Book} (hΛ : Λ = mkB n κ μ sz sg lt pg) (hB : BkW Λ) {L ld : Int} {counts : Nat → Int64} {bests letters numbers nexts waters sides : NF} {la : Int32} (hL : Lsp Λ L) (hM : Mem Λ L ld counts bests) (hK0 : 0 < bkH Λ → Kn ld bests (nm Λ L 0 0 0 0)) : ∀ (d m i : Nat) (spots heads ties : NF) (s1 s2 s3 s4 : Int32) (s5 s6 s7 : NF) (s8 s9 s10 s11 s12 : Int32), (i : Int) + d = n → d < m → LvP Λ (bkH Λ) letters numbers spots heads nexts waters sides ties la → ∃ (spots' heads' ties' : NF) (z1 z2 z3 z4 : Int32) (z5 z6 z7 : NF) (z8 z9 z10 z11 z12 : Int32), F_X4_firstStuck_b4 (zI (bkH Λ)) letters numbers nexts waters sides (zI (bkZ Λ)) (zI (bkG Λ)) (zI (bkL Λ)) (zI ld) bests K M R C m spots heads ties s1 s2 s3 s4 s5 s6 s7 s8 s9 s10 s11 s12 (zI (hcn κ i - 1)) (zI i) = some (zI (wy Λ n κ d i), spots', heads', ties', z1, z2, z3, z4, z5, z6, z7, z8, z9, z10, z11, z12) ∧ LvP Λ (bkH Λ) letters numbers spots' heads' nexts waters sides ties' la
  | 0, m + 1, i, spots, heads, ties, s1, s2, s3, s4, s5, s6, s7, s8, s9, s10, s11, s12, hi, _, hP => by
    have n1 := hw.2.1
    have ll : zI n ≤ zI (i : Int) := by simp (disch := omega) only [zl_0, zl_1, zl_2, zl_3, zl_4, zl_5, zl_6, zl_7, zl_8, zl_9, zl_10, zl_11, zl_12, zl_13, zl_14, zl_15, zl_16, zl_17, zl_18, zl_19, zl_20, zl_21, zl_22, zl_23, zl_24, zl_25, zl_26, zl_27, zl_28, zl_29, zl_30, zl_31, zl_32, zl_33, zl_34, zl_35, zl_36, zl_37, zl_38, zl_39, zl_40, zl_41, zl_42, zl_43, zl_44, zl_45, zl_46, zl_47, zl_48, zl_49, zl_50, zl_51, zl_52, zl_53, zl_54, zl_55, zl_56, zl_57, zl_58, zl_59, zl_60, zl_61, zl_62, zl_63, zl_64, zl_65, zl_66, zl_80, zl_97, zl_99, zl_103, zl_107, zl_112, zl_115, zl_100, zl_180, zl_210, zl_238, zl_255, zl_256, zl_400, zl_1000, zl_1024, zl_1260, zl_2000, zl_7140, zl_7200, zl_18414, zl_65536, zl_131072, zl_9999, zl_999, zI_add, zI_sub, zI_mul, zI_neg, zI_lt, zI_le, zI_eq, zI_clamp, ck_z, ckp_z, qb_z, qb_z0, Option.bind_some]; omega
    rw [F_X4_firstStuck_b4, hr.1, if_pos ll]
    have e : n = i := by omega
    refine ⟨spots, heads, ties, s1, s2, s3, s4, s5, s6, s7, s8, s9, s10, s11, s12, ?_, hP⟩
    show some (zI n, spots, heads, ties, s1, s2, s3, s4, s5, s6, s7, s8, s9, s10, s11, s12) = some (zI (i : Int), spots, heads, ties, s1, s2, s3, s4, s5, s6, s7, s8, s9, s10, s11, s12)
    rw [e]
  | d + 1, m + 1, i, spots, heads, ties, s1, s2, s3, s4, s5, s6, s7, s8, s9, s10, s11, s12, hi, hm, hP => by
    have n1 := hw.2.1
    have n0 := hw.1
    have h30 := hB.2.1
    have hb := hcn_b κ i
    have hH : bkH Λ = hcn κ n.toNat := by rw [hΛ]; rfl
    have hmo := hcn_m κ i (n.toNat - i)
    rw [show i + (n.toNat - i) = n.toNat by omega] at hmo
    have ll : ¬ C ≤ zI (i : Int) := by rw [hr.1]; simp (disch := omega) only [zl_0, zl_1, zl_2, zl_3, zl_4, zl_5, zl_6, zl_7, zl_8, zl_9, zl_10, zl_11, zl_12, zl_13, zl_14, zl_15, zl_16, zl_17, zl_18, zl_19, zl_20, zl_21, zl_22, zl_23, zl_24, zl_25, zl_26, zl_27, zl_28, zl_29, zl_30, zl_31, zl_32, zl_33, zl_34, zl_35, zl_36, zl_37, zl_38, zl_39, zl_40, zl_41, zl_42, zl_43, zl_44, zl_45, zl_46, zl_47, zl_48, zl_49, zl_50, zl_51, zl_52, zl_53, zl_54, zl_55, zl_56, zl_57, zl_58, zl_59, zl_60, zl_61, zl_62, zl_63, zl_64, zl_65, zl_66, zl_80, zl_97, zl_99, zl_103, zl_107, zl_112, zl_115, zl_100, zl_180, zl_210, zl_238, zl_255, zl_256, zl_400, zl_1000, zl_1024, zl_1260, zl_2000, zl_7140, zl_7200, zl_18414, zl_65536, zl_131072, zl_9999, zl_999, zI_add, zI_sub, zI_mul, zI_neg, zI_lt, zI_le, zI_eq, zI_clamp, ck_z, ckp_z, qb_z, qb_z0, Option.bind_some]; omega
    have ei : zI (i : Int) + 1 = zI ((i + 1 : Nat) : Int) := by rw [zl_1, zI_add]; congr 1
    have hn : ∀ h, 0 ≤ h → h < bkH Λ → letters h.toNat = zI (bkM Λ 0 h) := fun h h0 h1 => (hP.1 h h0 h1).1
    have hT := TbC_l hB hP
    obtain ⟨KK, hKK⟩ : ∃ KK : KFs, KK = fun l_spots l_heads l_ties s_first s_last s_nextSize s_nextMask s_seats s_nexts s_aheads s_size s_mask s_things s_ghosts s_ahead x2 x3 => F_X4_firstStuck_b4 (zI (bkH Λ)) letters numbers nexts waters sides (zI (bkZ Λ)) (zI (bkG Λ)) (zI (bkL Λ)) (zI ld) bests K M R C m l_spots l_heads l_ties s_first s_last s_nextSize s_nextMask s_seats s_nexts s_aheads s_size s_mask s_things s_ghosts s_ahead x2 x3 := ⟨_, rfl⟩
    -- the end of a step
    have b79 (b : Bool) (hbq : b = bq (Opn Λ n κ i)) (sp he ti : NF) (hP' : LvP Λ (bkH Λ) letters numbers sp he nexts waters sides ti la) (x2 : Int32) (hx2 : x2 = zI (hcn κ (i + 1) - 1)) (t1 t2 t3 t4 : Int32) (t5 t6 t7 : NF) (t8 t9 t10 t11 t12 : Int32) (X : RFs) (hX : X = F_X4_firstStuck_b79 (zI (bkH Λ)) letters numbers nexts waters sides (zI (bkZ Λ)) (zI (bkG Λ)) (zI (bkL Λ)) (zI ld) bests K M R C KK sp he ti t1 t2 t3 t4 t5 t6 t7 t8 t9 t10 t11 t12 x2 (zI i) (qb b)) : ∃ (spots' heads' ties' : NF) (z1 z2 z3 z4 : Int32) (z5 z6 z7 : NF) (z8 z9 z10 z11 z12 : Int32), X = some (zI (wy Λ n κ (d + 1) i), spots', heads', ties', z1, z2, z3, z4, z5, z6, z7, z8, z9, z10, z11, z12) ∧ LvP Λ (bkH Λ) letters numbers spots' heads' nexts waters sides ties' la := by
      unfold F_X4_firstStuck_b79 at hX
      by_cases w : Opn Λ n κ i
      · have ew : wy Λ n κ (d + 1) i = wy Λ n κ d (i + 1) := by rw [wy, if_pos (bq_t w)]
        rw [hbq, bq_t w, if_neg (show ¬ qb true = 0 by decide), ei, hx2, hKK] at hX
        rw [ew, hX]
        exact fs_b4 hw hr hp hp2 eR hΛ hB hL hM hK0 d m (i + 1) sp he ti t1 t2 t3 t4 t5 t6 t7 t8 t9 t10 t11 t12 (by omega) (by omega) hP'
      · have ew : wy Λ n κ (d + 1) i = i := by rw [wy, if_neg (by rw [bq_f w]; decide)]
        rw [hbq, bq_f w, if_pos (show qb false = 0 from rfl)] at hX
        rw [ew]
        exact ⟨_, _, _, _, _, _, _, _, _, _, _, _, _, _, _, hX, hP'⟩
    rw [F_X4_firstStuck_b4, if_neg ll, hangs_zr hw hr i (by omega) (by omega), Option.bind_some, ← hKK]
    by_cases hg : Hg (κ i)
    · have hl := hcn_lt (n := n) (i := i) (by omega) hg
      have e1 : zI (hcn κ i - 1) + 1 = zI (hcn κ i) := by rw [zl_1, zI_add]; congr 1; omega
      have ec : hcn κ (i + 1) = hcn κ i + 1 := by rw [hcn, if_pos hg]
      have hnx : ∀ h, 0 ≤ h → h < bkH Λ → nexts h.toNat = zI (bkM Λ 4 h) := fun h h0 h1 => (hP.1 h h0 h1).2.2.2.2.1
      have jd0 : F_X2_judge (zI (bkH Λ)) spots heads nexts ties M R C (zI (hcn κ i)) (zI i) 0 = some (upd spots (hcn κ i).toNat (zI (bsp Λ 0 (hcn κ i))), upd heads (hcn κ i).toNat (zI (bhd Λ 0 (hcn κ i))), upd ties (hcn κ i).toNat (zI (bti Λ 0 (hcn κ i)))) := by
        rw [hΛ]
        exact jdg_z hw hr hp hp2 eR (hΛ ▸ hB) spots heads nexts ties (hΛ ▸ hnx) (by omega) hg 0 (Or.inl rfl)
      have eqx : qb (decide (Can n κ i)) = zI (bkX Λ (hcn κ i)) := by
        rw [hΛ, (bk_at (by omega) hg).2.1]
        by_cases x : Can n κ i
        · rw [decide_eq_true x, if_pos x]; rfl
        · rw [decide_eq_false x, if_neg x]; rfl
      have jd1 (sp he ti : NF) : F_X2_judge (zI (bkH Λ)) sp he nexts ti M R C (zI (hcn κ i)) (zI i) (zI (bkX Λ (hcn κ i))) = some (upd sp (hcn κ i).toNat (zI (bsp Λ (bkX Λ (hcn κ i)) (hcn κ i))), upd he (hcn κ i).toNat (zI (bhd Λ (bkX Λ (hcn κ i)) (hcn κ i))), upd ti (hcn κ i).toNat (zI (bti Λ (bkX Λ (hcn κ i)) (hcn κ i)))) := by
        rw [hΛ]
        exact jdg_z hw hr hp hp2 eR (hΛ ▸ hB) sp he nexts ti (hΛ ▸ hnx) (by omega) hg _ (Or.inr rfl)
      have hT0 : TbC Λ (σ0 Λ (hcn κ i + 1 - 1)) (τ0 Λ (hcn κ i + 1 - 1)) numbers (upd spots (hcn κ i).toNat (zI (bsp Λ 0 (hcn κ i)))) waters sides (upd ties (hcn κ i).toNat (zI (bti Λ 0 (hcn κ i)))) := by
        intro h h0 h1
        obtain ⟨a1, a2, a3, a4, a5, a6, a7, a8, a9⟩ := hT h h0 h1
        have ez : hcn κ i + 1 - 1 = hcn κ i := by omega
        rw [ez]
        unfold σ0 τ0
        by_cases c : h = hcn κ i
        · have sb := bsp_b hB 0 h h0 h1
          have es : see Λ 0 h = 0 := by unfold see; rw [if_pos rfl]
          rw [es] at sb
          have tb := bti_b (Λ := Λ) 0 h
          rw [if_pos c, if_pos c, c, upd_at, upd_at]
          rw [c] at a1 a3 a4 sb tb
          exact ⟨a1, rfl, a3, a4, rfl, sb.1, sb.2, tb.1, tb.2⟩
        · rw [if_neg c, if_neg c, upd_ne _ _ (by omega), upd_ne _ _ (by omega)]
          exact ⟨a1, a2, a3, a4, a5, a6, a7, a8, a9⟩
      obtain ⟨z1, z2, z3, z4, z5, z6, z7, z8, z9, z10, z11, z12, ou⟩ := opensUpTo_z (bests := bests) (ld := ld) (N := hcn κ i + 1) hB hT0 hn (by omega) (by omega) s1 s2 s3 s4 s5 s6 s7 s8 s9 s10 s11 s12
      rw [show hcn κ i + 1 - 1 = hcn κ i by omega] at ou
      have b0 := Bg_0 (N := hcn κ i + 1) hB hL hM hK0 (by omega) (by omega)
      rw [show hcn κ i + 1 - 1 = hcn κ i by omega] at b0
      have bO : BgA Λ (hcn κ i + 1) 0 ↔ Opn Λ n κ i := ⟨fun w => ⟨fun _ => w, fun x => absurd hg x⟩, fun w => w.1 hg⟩
      rw [bq_c (b0.trans bO)] at ou
      rw [decide_eq_true hg, if_neg (show ¬ qb true = 0 by decide), e1, jd0, Option.bind_some]
      show ∃ (spots' heads' ties' : NF) (z1 z2 z3 z4 : Int32) (z5 z6 z7 : NF) (z8 z9 z10 z11 z12 : Int32), (F_X4_opensUpTo (zI (bkH Λ)) letters numbers (upd spots (hcn κ i).toNat (zI (bsp Λ 0 (hcn κ i)))) waters sides (upd ties (hcn κ i).toNat (zI (bti Λ 0 (hcn κ i)))) (zI (bkZ Λ)) (zI (bkG Λ)) (zI (bkL Λ)) s1 s2 s3 s4 s5 s6 s7 s8 s9 s10 s11 s12 (zI ld) bests (zI (hcn κ i))).bind _ = _ ∧ _
      rw [ou, Option.bind_some, canc_zr hw hr i (by omega) (by omega), Option.bind_some, eqx]
      show ∃ (spots' heads' ties' : NF) (z1 z2 z3 z4 : Int32) (z5 z6 z7 : NF) (z8 z9 z10 z11 z12 : Int32), (F_X2_judge (zI (bkH Λ)) (upd spots (hcn κ i).toNat (zI (bsp Λ 0 (hcn κ i)))) (upd heads (hcn κ i).toNat (zI (bhd Λ 0 (hcn κ i)))) nexts (upd ties (hcn κ i).toNat (zI (bti Λ 0 (hcn κ i)))) M R C (zI (hcn κ i)) (zI i) (zI (bkX Λ (hcn κ i)))).bind _ = _ ∧ _
      have hPn : LvP Λ (bkH Λ) letters numbers (upd spots (hcn κ i).toNat (zI (bsp Λ (bkX Λ (hcn κ i)) (hcn κ i)))) (upd heads (hcn κ i).toNat (zI (bhd Λ (bkX Λ (hcn κ i)) (hcn κ i)))) nexts waters sides (upd ties (hcn κ i).toNat (zI (bti Λ (bkX Λ (hcn κ i)) (hcn κ i)))) la := by
        refine ⟨fun h h0 h1 => ?_, hP.2⟩
        obtain ⟨a1, a2, a3, a4, a5, a6, a7, a8⟩ := hP.1 h h0 h1
        by_cases c : h = hcn κ i
        · rw [c] at a1 a2 a3 a4 a5 a6 a7 a8 ⊢
          rw [upd_at, upd_at, upd_at]
          exact ⟨a1, a2, rfl, rfl, a5, a6, a7, rfl⟩
        · rw [upd_ne _ _ (by omega), upd_ne _ _ (by omega), upd_ne _ _ (by omega)]
          exact ⟨a1, a2, a3, a4, a5, a6, a7, a8⟩
      rw [jd1, Option.bind_some, upd2, upd2, upd2]
      exact b79 (bq (Opn Λ n κ i)) rfl _ _ _ hPn (zI (hcn κ i)) (by rw [ec, show hcn κ i + 1 - 1 = hcn κ i by omega]) z1 z2 z3 z4 z5 z6 z7 z8 z9 z10 z11 z12 _ rfl
    · have ec : hcn κ (i + 1) = hcn κ i := by rw [hcn, if_neg hg]; omega
      have em : zI (i : Int) - 1 = zI ((i : Int) - 1) := by rw [zl_1, zI_sub]
      rw [decide_eq_false hg, if_pos (show qb false = 0 from rfl), em]
      have ecn : F_X5_isCancelled K C (zI ((i : Int) - 1)) = some (decide (1 ≤ i ∧ Can n κ ((i : Int) - 1))) := by
        by_cases z : i = 0
        · subst z
          rw [decide_eq_false (by omega)]
          exact canc_m1 hw hr
        · rw [canc_zr hw hr ((i : Int) - 1) (by omega) (by omega)]
          by_cases w : Can n κ ((i : Int) - 1)
          · rw [decide_eq_true w, decide_eq_true ⟨by omega, w⟩]
          · rw [decide_eq_false w, decide_eq_false (fun x => w x.2)]
      rw [ecn, Option.bind_some]
      by_cases w : 1 ≤ i ∧ Can n κ ((i : Int) - 1)
      · have hg1 : Hg (κ (((i - 1 : Nat) : Nat) : Int)) := by
          rw [show (((i - 1 : Nat) : Nat) : Int) = (i : Int) - 1 by omega]
          exact Or.inr w.2.1
        have e1 : hcn κ i = hcn κ (i - 1) + 1 := by
          obtain ⟨i', rfl⟩ : ∃ i', i = i' + 1 := ⟨i - 1, by omega⟩
          rw [show i' + 1 - 1 = i' by omega] at hg1 ⊢
          rw [hcn, if_pos hg1]
        have hb1 := hcn_b κ (i - 1)
        obtain ⟨z1, z2, z3, z4, z5, z6, z7, z8, z9, z10, z11, z12, ou⟩ := opensUpTo_z (bests := bests) (ld := ld) (N := hcn κ i) hB hT hn (by omega) (by omega) s1 s2 s3 s4 s5 s6 s7 s8 s9 s10 s11 s12
        have b1 := Bg_1 (N := hcn κ i) hB hL hM hK0 (by omega) (by omega)
        have bO : BgA Λ (hcn κ i) 1 ↔ Opn Λ n κ i := ⟨fun v => ⟨fun x => absurd x hg, fun _ _ _ => v⟩, fun v => v.2 hg w.1 w.2⟩
        rw [bq_c (b1.trans bO)] at ou
        rw [decide_eq_true w, if_neg (show ¬ qb true = 0 by decide), ou, Option.bind_some]
        exact b79 (bq (Opn Λ n κ i)) rfl _ _ _ hP _ (by rw [ec]) z1 z2 z3 z4 z5 z6 z7 z8 z9 z10 z11 z12 _ rfl
      · have hO : Opn Λ n κ i := ⟨fun x => absurd x hg, fun _ a b => absurd ⟨a, b⟩ w⟩
        rw [decide_eq_false w, if_pos (show qb false = 0 from rfl)]
        exact b79 true (bq_t hO).symm _ _ _ hP _ (by rw [ec]) s1 s2 s3 s4 s5 s6 s7 s8 s9 s10 s11 s12 _ rfl
end JD

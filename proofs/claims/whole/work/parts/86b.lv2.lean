section LM
variable {n : Int} {κ : Int → Int} {μ : Int → Int → Int} {j : Int} {many kk mm : NF}
def LvM (Λ : Book) (marks hangs cancels : NF) : Prop := ∀ h, 0 ≤ h → h < bkH Λ → ∃ a, 0 ≤ a ∧ a < 180 ∧ hangs h.toNat = zI a ∧ (∀ q : Nat, q < 7 → marks (7 * a + q).toNat = zI (bkM Λ q h)) ∧ ((bkX Λ h = 0 ∧ cancels h.toNat = zI (-1)) ∨ (bkX Λ h = 1 ∧ ∃ a', 0 ≤ a' ∧ a' < 180 ∧ cancels h.toNat = zI a' ∧ marks (7 * a' + 2).toNat = zI (bkP Λ h) ∧ marks (7 * a' + 3).toNat = zI (bkD Λ h)))
def AsI (n : Int) (κ : Int → Int) (j : Int) (i : Nat) (hangs cancels : NF) : Prop := ∀ k : Nat, k < i → Hg (κ k) → hangs (hcn κ k).toNat = zI (30 * j + k) ∧ cancels (hcn κ k).toNat = zI (if Can n κ k then 30 * j + k + 1 else -1)
theorem asks_b12_z (hw : RwW n κ μ) (hm : RwM n κ μ j many kk mm) (hj : 0 ≤ j) (hj2 : j < 6) : ∀ (d m i : Nat) (hangs cancels : NF), (i : Int) + d = n → d < m → AsI n κ j i hangs cancels → ∃ hg' cn', F_X8_asks_b12 many kk m (zI j) (zI (hcn κ i)) hangs cancels (zI j) (zI i) = some (zI j, zI (hcn κ n.toNat), hg', cn') ∧ AsI n κ j n.toNat hg' cn'
  | 0, m + 1, i, hangs, cancels, hi, _, hI => by
    obtain ⟨n0, n1, hk⟩ := hw
    have e : i = n.toNat := by omega
    subst e
    have e1 := hm.1
    refine ⟨hangs, cancels, ?_, hI⟩
    rw [F_X8_asks_b12]
    simp (disch := omega) only [zl_0, zl_1, zl_2, zl_3, zl_4, zl_5, zl_6, zl_7, zl_8, zl_9, zl_10, zl_11, zl_12, zl_13, zl_14, zl_15, zl_16, zl_17, zl_18, zl_19, zl_20, zl_21, zl_22, zl_23, zl_24, zl_25, zl_26, zl_27, zl_28, zl_29, zl_30, zl_31, zl_32, zl_33, zl_34, zl_35, zl_36, zl_37, zl_38, zl_39, zl_40, zl_41, zl_42, zl_43, zl_44, zl_45, zl_46, zl_47, zl_48, zl_49, zl_50, zl_51, zl_52, zl_53, zl_54, zl_55, zl_56, zl_57, zl_58, zl_59, zl_60, zl_61, zl_62, zl_63, zl_64, zl_65, zl_66, zl_80, zl_97, zl_99, zl_103, zl_107, zl_112, zl_115, zl_100, zl_180, zl_210, zl_238, zl_255, zl_256, zl_400, zl_1000, zl_1024, zl_1260, zl_2000, zl_7140, zl_7200, zl_18414, zl_65536, zl_131072, zl_9999, zl_999, zI_add, zI_sub, zI_mul, zI_neg, zI_lt, zI_le, zI_eq, zI_clamp, ck_z, ckp_z, qb_z, qb_z0, Option.bind_some, if_pos, if_neg, reduceIte, reduceCtorEq, Bool.false_eq_true, Bool.true_eq_false, e1]
  | d + 1, m + 1, i, hangs, cancels, hi, hmm, hI => by
    obtain ⟨n0, n1, hk⟩ := id hw
    have e1 := hm.1
    have e2 := (hm.2 i (by omega) (by omega)).1
    have k1 := hk i (by omega) (by omega)
    have hb := hcn_b κ i
    have hg : F_X8_isHanging (zI (κ i)) = some (decide (Hg (κ i))) := hangingM_z (κ i) (by omega) (by omega)
    have ez : zI (i : Int) + 1 = zI ((i + 1 : Nat) : Int) := by rw [zl_1, zI_add]; rfl
    have l1 : ¬ zI n ≤ zI i := by simp (disch := omega) only [zl_0, zl_1, zl_2, zl_3, zl_4, zl_5, zl_6, zl_7, zl_8, zl_9, zl_10, zl_11, zl_12, zl_13, zl_14, zl_15, zl_16, zl_17, zl_18, zl_19, zl_20, zl_21, zl_22, zl_23, zl_24, zl_25, zl_26, zl_27, zl_28, zl_29, zl_30, zl_31, zl_32, zl_33, zl_34, zl_35, zl_36, zl_37, zl_38, zl_39, zl_40, zl_41, zl_42, zl_43, zl_44, zl_45, zl_46, zl_47, zl_48, zl_49, zl_50, zl_51, zl_52, zl_53, zl_54, zl_55, zl_56, zl_57, zl_58, zl_59, zl_60, zl_61, zl_62, zl_63, zl_64, zl_65, zl_66, zl_80, zl_97, zl_99, zl_103, zl_107, zl_112, zl_115, zl_100, zl_180, zl_210, zl_238, zl_255, zl_256, zl_400, zl_1000, zl_1024, zl_1260, zl_2000, zl_7140, zl_7200, zl_18414, zl_65536, zl_131072, zl_9999, zl_999, zI_add, zI_sub, zI_mul, zI_neg, zI_lt, zI_le, zI_eq, zI_clamp, ck_z, ckp_z, qb_z, qb_z0, Option.bind_some]; omega
    have ea : ((30 : Int32) * zI j) + zI i = zI (30 * j + i) := by rw [zl_30, zI_mul, zI_add]
    rw [F_X8_asks_b12, ck_z hj (by omega) (by omega), zI_clamp (by omega) (by omega), e1, if_neg l1, ea, ck_z (by omega) (by omega) (by omega), zI_clamp (by omega) (by omega), e2, hg, Option.bind_some]
    by_cases c : Hg (κ i)
    · have e3 : hcn κ (i + 1) = hcn κ i + 1 := by rw [hcn, if_pos c]
      have hI2 : AsI n κ j (i + 1) (upd hangs (hcn κ i).toNat (zI (30 * j + i))) (upd cancels (hcn κ i).toNat (zI (if Can n κ i then 30 * j + i + 1 else -1))) := by
        intro k hk2 hg2
        have hb2 := hcn_b κ k
        rw [upd_z _ _ (by omega) (by omega), upd_z _ _ (by omega) (by omega)]
        by_cases x : k = i
        · subst x
          rw [if_pos rfl, if_pos rfl]
          exact ⟨rfl, rfl⟩
        · have m1 := hcn_m κ (k + 1) (i - (k + 1))
          have m2 : hcn κ (k + 1) = hcn κ k + 1 := by rw [hcn, if_pos hg2]
          rw [show k + 1 + (i - (k + 1)) = i by omega] at m1
          rw [if_neg (by omega), if_neg (by omega)]
          exact hI k (by omega) hg2
      obtain ⟨hg', cn', e4, I4⟩ := asks_b12_z hw hm hj hj2 d m (i + 1) _ _ (by omega) (by omega) hI2
      refine ⟨hg', cn', ?_, I4⟩
      have wr (x : Int) (hx : x = if Can n κ i then 30 * j + i + 1 else -1) : F_X8_asks_b104 many kk (fun a0 a1 a2 a3 x1 x2 => F_X8_asks_b12 many kk m a0 a1 a2 a3 x1 x2) (zI j) (zI (hcn κ i)) (upd hangs (hcn κ i).toNat (zI (30 * j + i))) cancels (zI j) (zI i) (zI x) (zI (hcn κ i)) = some (zI j, zI (hcn κ n.toNat), hg', cn') := by
        subst hx
        unfold F_X8_asks_b104
        rw [ck_z (by omega) (by omega) (by omega), zI_clamp (by omega) (by omega), ez, zl_1, zI_add, ← e3]
        exact e4
      rw [if_neg (by rw [decide_eq_true c]; decide), ck_z (by omega) (by omega) (by omega), zI_clamp (by omega) (by omega)]
      by_cases c2 : κ i = 2
      · have q2 : zI (κ i) = 2 := by rw [c2]; rfl
        rw [if_pos q2, ez]
        by_cases c3 : (i : Int) + 1 < n
        · have l2 : ¬ zI n ≤ zI ((i + 1 : Nat) : Int) := by simp (disch := omega) only [zl_0, zl_1, zl_2, zl_3, zl_4, zl_5, zl_6, zl_7, zl_8, zl_9, zl_10, zl_11, zl_12, zl_13, zl_14, zl_15, zl_16, zl_17, zl_18, zl_19, zl_20, zl_21, zl_22, zl_23, zl_24, zl_25, zl_26, zl_27, zl_28, zl_29, zl_30, zl_31, zl_32, zl_33, zl_34, zl_35, zl_36, zl_37, zl_38, zl_39, zl_40, zl_41, zl_42, zl_43, zl_44, zl_45, zl_46, zl_47, zl_48, zl_49, zl_50, zl_51, zl_52, zl_53, zl_54, zl_55, zl_56, zl_57, zl_58, zl_59, zl_60, zl_61, zl_62, zl_63, zl_64, zl_65, zl_66, zl_80, zl_97, zl_99, zl_103, zl_107, zl_112, zl_115, zl_100, zl_180, zl_210, zl_238, zl_255, zl_256, zl_400, zl_1000, zl_1024, zl_1260, zl_2000, zl_7140, zl_7200, zl_18414, zl_65536, zl_131072, zl_9999, zl_999, zI_add, zI_sub, zI_mul, zI_neg, zI_lt, zI_le, zI_eq, zI_clamp, ck_z, ckp_z, qb_z, qb_z0, Option.bind_some]; omega
          have eb : zI (30 * j + i) + 1 = zI (30 * j + i + 1) := by rw [zl_1, zI_add]
          have e5 := (hm.2 (i + 1) (by omega) c3).1
          have k2 := hk (i + 1) (by omega) c3
          rw [if_neg l2, eb, ck_z (by omega) (by omega) (by omega), zI_clamp (by omega) (by omega), show 30 * j + (i : Int) + 1 = 30 * j + ((i : Int) + 1) by omega, e5]
          by_cases c4 : κ (i + 1) = 4
          · have q4 : zI (κ (i + 1)) = 4 := by rw [c4]; rfl
            rw [if_pos q4, ck_z (by omega) (by omega) (by omega), ck_z (by omega) (by omega) (by omega), show 30 * j + ((i : Int) + 1) = 30 * j + (i : Int) + 1 by omega]
            exact wr _ (by rw [if_pos ⟨c2, c3, c4⟩])
          · have q4 : ¬ zI (κ (i + 1)) = 4 := by simp (disch := omega) only [zl_0, zl_1, zl_2, zl_3, zl_4, zl_5, zl_6, zl_7, zl_8, zl_9, zl_10, zl_11, zl_12, zl_13, zl_14, zl_15, zl_16, zl_17, zl_18, zl_19, zl_20, zl_21, zl_22, zl_23, zl_24, zl_25, zl_26, zl_27, zl_28, zl_29, zl_30, zl_31, zl_32, zl_33, zl_34, zl_35, zl_36, zl_37, zl_38, zl_39, zl_40, zl_41, zl_42, zl_43, zl_44, zl_45, zl_46, zl_47, zl_48, zl_49, zl_50, zl_51, zl_52, zl_53, zl_54, zl_55, zl_56, zl_57, zl_58, zl_59, zl_60, zl_61, zl_62, zl_63, zl_64, zl_65, zl_66, zl_80, zl_97, zl_99, zl_103, zl_107, zl_112, zl_115, zl_100, zl_180, zl_210, zl_238, zl_255, zl_256, zl_400, zl_1000, zl_1024, zl_1260, zl_2000, zl_7140, zl_7200, zl_18414, zl_65536, zl_131072, zl_9999, zl_999, zI_add, zI_sub, zI_mul, zI_neg, zI_lt, zI_le, zI_eq, zI_clamp, ck_z, ckp_z, qb_z, qb_z0, Option.bind_some]; exact c4
            rw [if_neg q4, ck_z (by omega) (by omega) (by omega), ck_z (by omega) (by omega) (by omega)]
            exact wr (-1) (by rw [if_neg (fun x => c4 x.2.2)])
        · have l2 : zI n ≤ zI ((i + 1 : Nat) : Int) := by simp (disch := omega) only [zl_0, zl_1, zl_2, zl_3, zl_4, zl_5, zl_6, zl_7, zl_8, zl_9, zl_10, zl_11, zl_12, zl_13, zl_14, zl_15, zl_16, zl_17, zl_18, zl_19, zl_20, zl_21, zl_22, zl_23, zl_24, zl_25, zl_26, zl_27, zl_28, zl_29, zl_30, zl_31, zl_32, zl_33, zl_34, zl_35, zl_36, zl_37, zl_38, zl_39, zl_40, zl_41, zl_42, zl_43, zl_44, zl_45, zl_46, zl_47, zl_48, zl_49, zl_50, zl_51, zl_52, zl_53, zl_54, zl_55, zl_56, zl_57, zl_58, zl_59, zl_60, zl_61, zl_62, zl_63, zl_64, zl_65, zl_66, zl_80, zl_97, zl_99, zl_103, zl_107, zl_112, zl_115, zl_100, zl_180, zl_210, zl_238, zl_255, zl_256, zl_400, zl_1000, zl_1024, zl_1260, zl_2000, zl_7140, zl_7200, zl_18414, zl_65536, zl_131072, zl_9999, zl_999, zI_add, zI_sub, zI_mul, zI_neg, zI_lt, zI_le, zI_eq, zI_clamp, ck_z, ckp_z, qb_z, qb_z0, Option.bind_some]; omega
          rw [if_pos l2, ck_z (by omega) (by omega) (by omega), ck_z (by omega) (by omega) (by omega)]
          exact wr (-1) (by rw [if_neg (fun x => c3 x.2.1)])
      · have q2 : ¬ zI (κ i) = 2 := by simp (disch := omega) only [zl_0, zl_1, zl_2, zl_3, zl_4, zl_5, zl_6, zl_7, zl_8, zl_9, zl_10, zl_11, zl_12, zl_13, zl_14, zl_15, zl_16, zl_17, zl_18, zl_19, zl_20, zl_21, zl_22, zl_23, zl_24, zl_25, zl_26, zl_27, zl_28, zl_29, zl_30, zl_31, zl_32, zl_33, zl_34, zl_35, zl_36, zl_37, zl_38, zl_39, zl_40, zl_41, zl_42, zl_43, zl_44, zl_45, zl_46, zl_47, zl_48, zl_49, zl_50, zl_51, zl_52, zl_53, zl_54, zl_55, zl_56, zl_57, zl_58, zl_59, zl_60, zl_61, zl_62, zl_63, zl_64, zl_65, zl_66, zl_80, zl_97, zl_99, zl_103, zl_107, zl_112, zl_115, zl_100, zl_180, zl_210, zl_238, zl_255, zl_256, zl_400, zl_1000, zl_1024, zl_1260, zl_2000, zl_7140, zl_7200, zl_18414, zl_65536, zl_131072, zl_9999, zl_999, zI_add, zI_sub, zI_mul, zI_neg, zI_lt, zI_le, zI_eq, zI_clamp, ck_z, ckp_z, qb_z, qb_z0, Option.bind_some]; exact c2
        rw [if_neg q2, ck_z (by omega) (by omega) (by omega)]
        exact wr (-1) (by rw [if_neg (fun x => c2 x.1)])
    · have e3 : hcn κ (i + 1) = hcn κ i := by rw [hcn, if_neg c]; omega
      have hI2 : AsI n κ j (i + 1) hangs cancels := by
        intro k hk2 hg2
        by_cases x : k = i
        · subst x; exact absurd hg2 c
        · exact hI k (by omega) hg2
      obtain ⟨hg', cn', e4, I4⟩ := asks_b12_z hw hm hj hj2 d m (i + 1) hangs cancels (by omega) (by omega) hI2
      refine ⟨hg', cn', ?_, I4⟩
      rw [if_pos (by rw [decide_eq_false c]; rfl), ez, ← e3]
      exact e4
theorem asks_z (hw : RwW n κ μ) (hm : RwM n κ μ j many kk mm) (hj : 0 ≤ j) (hj2 : j < 6) (sz sg lt pg : Int) (a0 a1 : Int32) (hangs cancels : NF) : ∃ hg' cn', F_X8_asks many kk a0 a1 hangs cancels (zI j) = some (zI j, zI (bkH (mkB n κ μ sz sg lt pg)), hg', cn') ∧ LvM (mkB n κ μ sz sg lt pg) mm hg' cn' := by
  obtain ⟨n0, n1, hk⟩ := id hw
  obtain ⟨hg', cn', e, I⟩ := asks_b12_z hw hm hj hj2 n.toNat FU 0 hangs cancels (by omega) (by unfold FU; omega) (fun k hk2 => by omega)
  refine ⟨hg', cn', e, fun h h0 h1 => ?_⟩
  obtain ⟨a, b, c, d⟩ := hix_b κ n.toNat h h0 h1
  have ix : (((hix κ n.toNat h).toNat : Nat) : Int) = hix κ n.toNat h := by omega
  have g := I (hix κ n.toNat h).toNat (by omega) (by rw [ix]; exact c)
  rw [d, ix] at g
  have eX : bkX (mkB n κ μ sz sg lt pg) h = if Can n κ (hix κ n.toNat h) then 1 else 0 := rfl
  refine ⟨30 * j + hix κ n.toNat h, by omega, by omega, g.1, fun q hq => ?_, ?_⟩
  · rw [bkM_mk n κ μ sz sg lt pg q h hq]
    exact (hm.2 _ a (by omega)).2 q (by omega) (by omega)
  · by_cases x : Can n κ (hix κ n.toNat h)
    · rw [if_pos x] at g
      refine Or.inr ⟨by rw [eX, if_pos x], 30 * j + hix κ n.toNat h + 1, by omega, by omega, g.2, ?_, ?_⟩
      · have := (hm.2 (hix κ n.toNat h + 1) (by omega) x.2.1).2 2 (by omega) (by omega)
        rw [show 30 * j + (hix κ n.toNat h + 1) = 30 * j + hix κ n.toNat h + 1 by omega] at this
        exact this
      · have := (hm.2 (hix κ n.toNat h + 1) (by omega) x.2.1).2 3 (by omega) (by omega)
        rw [show 30 * j + (hix κ n.toNat h + 1) = 30 * j + hix κ n.toNat h + 1 by omega] at this
        exact this
    · rw [if_neg x] at g
      exact Or.inl ⟨by rw [eX, if_neg x], g.2⟩
end LM

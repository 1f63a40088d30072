section AG
variable {Λ : Book} {j : Int} {marks hangs cancels mz ms ml mp : NF}
/-- was the place p (or, at 0, the quire before's end) a leaf -/
def pvt (k U : Nat) (last : Int) (p : Nat) : Int := if p = 0 then last else if Gh k U p then 0 else 1
/-- is what cancels the leaf h seen -/
def sen (c f h : Int) : Int := if f = 0 ∧ c - 1 ≤ h then 0 else 1
/-- the place p agrees: quire q, t leaves and a places ahead of it, s places, the mask k of the first U -/
def AgP (Λ : Book) (q t a last : Int) (s U k : Nat) (c f : Int) (p : Nat) : Prop := ¬ Gh k U p → (Fit Λ (sen c f (t + thg k U (p - 1))) (t + thg k U (p - 1)) q p (a + p - 1) ∧ (pvt k U last (p - 1) ≠ 0 → bti Λ (see Λ (sen c f (t + thg k U (p - 1))) (t + thg k U (p - 1))) (t + thg k U (p - 1)) ≠ 2) ∧ (s + 1 - p < p → ¬ Gh k U ((s + 1 - p : Nat) : Int) → Han Λ (t + thg k U (s - p)) (t + thg k U (p - 1))))
theorem pvt_b {k U : Nat} {last : Int} (h : last = 0 ∨ last = 1) (p : Nat) : pvt k U last p = 0 ∨ pvt k U last p = 1 := by
  unfold pvt
  split
  · exact h
  · split
    · exact Or.inl rfl
    · exact Or.inr rfl
theorem thg_m (k s : Nat) (p : Nat) : ∀ d : Nat, thg k s p ≤ thg k s (p + d)
  | 0 => Int.le_refl _
  | d + 1 => by
    have := thg_m k s p d
    rw [show p + (d + 1) = (p + d) + 1 by omega, thg]
    split <;> omega
theorem pv_h1 {k U : Nat} {last t : Int} (hla : last = 0 ∨ (last = 1 ∧ 1 ≤ t)) (t0 : 0 ≤ t) : ∀ p : Nat, pvt k U last p ≠ 0 → 1 ≤ t + thg k U p
  | 0, pv => by
    have e : pvt k U last 0 = last := by unfold pvt; rw [if_pos rfl]
    have e2 : thg k U 0 = 0 := rfl
    omega
  | p + 1, pv => by
    have g' : ¬ Gh k U ((p + 1 : Nat) : Int) := by
      intro w
      apply pv
      unfold pvt
      rw [if_neg (by omega), if_pos w]
    have e : thg k U (p + 1) = thg k U p + 1 := by rw [thg, if_neg g']
    have := thg_b k U p
    omega
abbrev KAg : Type := NF → Int32 → Int32 → Int32 → Int32 → Int32 → Int32 → Int32 → Int32 → Int32 → Int32 → Option (Bool × NF)
theorem agrees_b108_z (hB : BkW Λ) (hL : LvM Λ marks hangs cancels) (KK : KAg) (ein : NF) (q t a c f h : Int) (s U k p : Nat) (t0 : 0 ≤ t) (hs : s ≤ 8) (hU : U ≤ s) (hp : p + 1 ≤ U) (hh0 : h = t + thg k U p) (hge : 0 ≤ h) (hlt : h < bkH Λ) (hI : ∀ r : Nat, 1 ≤ r → r ≤ p → ein r = zI (if Gh k U r then -1 else t + thg k U (r - 1))) : (F_X8_agrees_b108 marks ms ml mp (zI j) hangs cancels KK (upd ein (p + 1) (-1)) (zI q) (zI a) (zI s) (zI U) (nI k) (zI c) (zI f) (zI h) (zI ((p + 1 : Nat) : Int)) = F_X8_agrees_b162 marks ms ml mp (zI j) hangs cancels KK (upd ein (p + 1) (zI h)) (zI q) (zI a) (zI s) (zI U) (nI k) (zI c) (zI f) (zI h) (zI ((p + 1 : Nat) : Int)) ∧ (s + 1 - (p + 1) < p + 1 → ¬ Gh k U ((s + 1 - (p + 1) : Nat) : Int) → Han Λ (t + thg k U (s - (p + 1))) h)) ∨ ((∃ e', F_X8_agrees_b108 marks ms ml mp (zI j) hangs cancels KK (upd ein (p + 1) (-1)) (zI q) (zI a) (zI s) (zI U) (nI k) (zI c) (zI f) (zI h) (zI ((p + 1 : Nat) : Int)) = some (false, e')) ∧ ¬ (s + 1 - (p + 1) < p + 1 → ¬ Gh k U ((s + 1 - (p + 1) : Nat) : Int) → Han Λ (t + thg k U (s - (p + 1))) h)) := by
  have hh := hB.2.1
  have up (v : Int32) (r : Nat) : upd ein (p + 1) v r = if r = p + 1 then v else ein r := rfl
  have cz {α : Type} (o : Option α) : ck (inb (zI ((p + 1 : Nat) : Int)) 9) o = o := ck_z (by omega) (by omega) (by omega)
  have clz : (zI ((p + 1 : Nat) : Int)).toNatClampNeg = p + 1 := by rw [zI_clamp (by omega) (by omega)]; omega
  have ew : (zI s + 1) - zI ((p + 1 : Nat) : Int) = zI ((s + 1 - (p + 1) : Nat) : Int) := by rw [zl_1, zI_add, zI_sub]; congr 1; omega
  unfold F_X8_agrees_b108
  rw [cz, clz, upd2, ew]
  by_cases y : p + 1 ≤ s + 1 - (p + 1)
  · have q2 : zI ((p + 1 : Nat) : Int) ≤ zI ((s + 1 - (p + 1) : Nat) : Int) := by simp (disch := omega) only [zl_0, zl_1, zl_2, zl_3, zl_4, zl_5, zl_6, zl_7, zl_8, zl_9, zl_10, zl_11, zl_12, zl_13, zl_14, zl_15, zl_16, zl_17, zl_18, zl_19, zl_20, zl_21, zl_22, zl_23, zl_24, zl_25, zl_26, zl_27, zl_28, zl_29, zl_30, zl_31, zl_32, zl_33, zl_34, zl_35, zl_36, zl_37, zl_38, zl_39, zl_40, zl_41, zl_42, zl_43, zl_44, zl_45, zl_46, zl_47, zl_48, zl_49, zl_50, zl_51, zl_52, zl_53, zl_54, zl_55, zl_56, zl_57, zl_58, zl_59, zl_60, zl_61, zl_62, zl_63, zl_64, zl_65, zl_66, zl_80, zl_97, zl_99, zl_103, zl_107, zl_112, zl_115, zl_100, zl_180, zl_210, zl_238, zl_255, zl_256, zl_400, zl_1000, zl_1024, zl_1260, zl_2000, zl_7140, zl_7200, zl_18414, zl_65536, zl_131072, zl_9999, zl_999, zI_add, zI_sub, zI_mul, zI_neg, zI_lt, zI_le, zI_eq, zI_clamp, ck_z, ckp_z, qb_z, qb_z0, Option.bind_some]; omega
    rw [if_pos q2]
    exact Or.inl ⟨rfl, fun z => by omega⟩
  · have q2 : ¬ zI ((p + 1 : Nat) : Int) ≤ zI ((s + 1 - (p + 1) : Nat) : Int) := by simp (disch := omega) only [zl_0, zl_1, zl_2, zl_3, zl_4, zl_5, zl_6, zl_7, zl_8, zl_9, zl_10, zl_11, zl_12, zl_13, zl_14, zl_15, zl_16, zl_17, zl_18, zl_19, zl_20, zl_21, zl_22, zl_23, zl_24, zl_25, zl_26, zl_27, zl_28, zl_29, zl_30, zl_31, zl_32, zl_33, zl_34, zl_35, zl_36, zl_37, zl_38, zl_39, zl_40, zl_41, zl_42, zl_43, zl_44, zl_45, zl_46, zl_47, zl_48, zl_49, zl_50, zl_51, zl_52, zl_53, zl_54, zl_55, zl_56, zl_57, zl_58, zl_59, zl_60, zl_61, zl_62, zl_63, zl_64, zl_65, zl_66, zl_80, zl_97, zl_99, zl_103, zl_107, zl_112, zl_115, zl_100, zl_180, zl_210, zl_238, zl_255, zl_256, zl_400, zl_1000, zl_1024, zl_1260, zl_2000, zl_7140, zl_7200, zl_18414, zl_65536, zl_131072, zl_9999, zl_999, zI_add, zI_sub, zI_mul, zI_neg, zI_lt, zI_le, zI_eq, zI_clamp, ck_z, ckp_z, qb_z, qb_z0, Option.bind_some]; omega
    have clr : (zI ((s + 1 - (p + 1) : Nat) : Int)).toNatClampNeg = s + 1 - (p + 1) := by rw [zI_clamp (by omega) (by omega)]; omega
    have er : upd ein (p + 1) (zI h) (s + 1 - (p + 1)) = zI (if Gh k U ((s + 1 - (p + 1) : Nat) : Int) then -1 else t + thg k U (s + 1 - (p + 1) - 1)) := by
      rw [up, if_neg (by omega)]
      exact hI (s + 1 - (p + 1)) (by omega) (by omega)
    rw [if_neg q2, ck_z (by omega) (by omega) (by omega), ck_z (by omega) (by omega) (by omega), clr, er]
    by_cases gr : Gh k U ((s + 1 - (p + 1) : Nat) : Int)
    · rw [if_pos gr, if_pos (by rfl)]
      exact Or.inl ⟨rfl, fun _ z => absurd gr z⟩
    · have tb2 := thg_b k U (s + 1 - (p + 1) - 1)
      have tm2 := thg_m k U (s + 1 - (p + 1) - 1) (p - (s + 1 - (p + 1) - 1))
      rw [show s + 1 - (p + 1) - 1 + (p - (s + 1 - (p + 1) - 1)) = p by omega] at tm2
      have q3 : ¬ zI (t + thg k U (s + 1 - (p + 1) - 1)) = -1 := by simp (disch := omega) only [zl_0, zl_1, zl_2, zl_3, zl_4, zl_5, zl_6, zl_7, zl_8, zl_9, zl_10, zl_11, zl_12, zl_13, zl_14, zl_15, zl_16, zl_17, zl_18, zl_19, zl_20, zl_21, zl_22, zl_23, zl_24, zl_25, zl_26, zl_27, zl_28, zl_29, zl_30, zl_31, zl_32, zl_33, zl_34, zl_35, zl_36, zl_37, zl_38, zl_39, zl_40, zl_41, zl_42, zl_43, zl_44, zl_45, zl_46, zl_47, zl_48, zl_49, zl_50, zl_51, zl_52, zl_53, zl_54, zl_55, zl_56, zl_57, zl_58, zl_59, zl_60, zl_61, zl_62, zl_63, zl_64, zl_65, zl_66, zl_80, zl_97, zl_99, zl_103, zl_107, zl_112, zl_115, zl_100, zl_180, zl_210, zl_238, zl_255, zl_256, zl_400, zl_1000, zl_1024, zl_1260, zl_2000, zl_7140, zl_7200, zl_18414, zl_65536, zl_131072, zl_9999, zl_999, zI_add, zI_sub, zI_mul, zI_neg, zI_lt, zI_le, zI_eq, zI_clamp, ck_z, ckp_z, qb_z, qb_z0, Option.bind_some]; omega
      have ht := hangTogether_z hB hL (t + thg k U (s + 1 - (p + 1) - 1)) h (by omega) (by omega) hge hlt
      rw [if_neg gr, if_neg q3, ht, Option.bind_some, show s + 1 - (p + 1) - 1 = s - (p + 1) by omega]
      by_cases z : Han Λ (t + thg k U (s - (p + 1))) h
      · rw [decide_eq_true z, if_neg (by decide)]
        exact Or.inl ⟨rfl, fun _ _ => z⟩
      · rw [decide_eq_false z, if_pos (by rfl)]
        exact Or.inr ⟨⟨_, rfl⟩, fun w => z (w (by omega) gr)⟩
theorem agrees_b10_z (hB : BkW Λ) (hL : LvM Λ marks hangs cancels) (hR : RuB Λ j mz ms ml mp) (q t a last : Int) (s U k : Nat) (c f : Int) (q0 : 0 ≤ q) (q1 : q < 8) (t0 : 0 ≤ t) (a0 : 0 ≤ a) (a1 : a ≤ 100) (hla : last = 0 ∨ (last = 1 ∧ 1 ≤ t)) (hs : s ≤ 8) (hU : U ≤ s) (hk : k < 256) (c0 : 0 ≤ c) (c1 : c ≤ 100) (hf : f = 0 ∨ f = 1) (hH : t + thg k U U ≤ bkH Λ) : ∀ (d m p : Nat) (ein : NF), p + d = U → d < m → (∀ r : Nat, 1 ≤ r → r ≤ p → ein r = zI (if Gh k U r then -1 else t + thg k U (r - 1))) → ((∃ e', F_X8_agrees_b10 marks ms ml mp (zI j) hangs cancels m ein (zI q) (zI a) (zI s) (zI U) (nI k) (zI c) (zI f) (zI (t + thg k U p)) (zI (pvt k U last p)) (zI ((p + 1 : Nat) : Int)) = some (true, e')) ∧ ∀ r : Nat, p < r → r ≤ U → AgP Λ q t a last s U k c f r) ∨ ((∃ e', F_X8_agrees_b10 marks ms ml mp (zI j) hangs cancels m ein (zI q) (zI a) (zI s) (zI U) (nI k) (zI c) (zI f) (zI (t + thg k U p)) (zI (pvt k U last p)) (zI ((p + 1 : Nat) : Int)) = some (false, e')) ∧ ∃ r : Nat, p < r ∧ r ≤ U ∧ ¬ AgP Λ q t a last s U k c f r)
  | 0, m + 1, p, ein, hp, _, _ => by
    refine Or.inl ⟨?_, fun r h1 h2 => by omega⟩
    have l : zI U < zI ((p + 1 : Nat) : Int) := by simp (disch := omega) only [zl_0, zl_1, zl_2, zl_3, zl_4, zl_5, zl_6, zl_7, zl_8, zl_9, zl_10, zl_11, zl_12, zl_13, zl_14, zl_15, zl_16, zl_17, zl_18, zl_19, zl_20, zl_21, zl_22, zl_23, zl_24, zl_25, zl_26, zl_27, zl_28, zl_29, zl_30, zl_31, zl_32, zl_33, zl_34, zl_35, zl_36, zl_37, zl_38, zl_39, zl_40, zl_41, zl_42, zl_43, zl_44, zl_45, zl_46, zl_47, zl_48, zl_49, zl_50, zl_51, zl_52, zl_53, zl_54, zl_55, zl_56, zl_57, zl_58, zl_59, zl_60, zl_61, zl_62, zl_63, zl_64, zl_65, zl_66, zl_80, zl_97, zl_99, zl_103, zl_107, zl_112, zl_115, zl_100, zl_180, zl_210, zl_238, zl_255, zl_256, zl_400, zl_1000, zl_1024, zl_1260, zl_2000, zl_7140, zl_7200, zl_18414, zl_65536, zl_131072, zl_9999, zl_999, zI_add, zI_sub, zI_mul, zI_neg, zI_lt, zI_le, zI_eq, zI_clamp, ck_z, ckp_z, qb_z, qb_z0, Option.bind_some]; omega
    rw [F_X8_agrees_b10, if_pos l]
    exact ⟨_, rfl⟩
  | d + 1, m + 1, p, ein, hp, hm, hI => by
    have hh := hB.2.1
    have tb := thg_b k U p
    have tm := thg_m k U (p + 1) d
    rw [show p + 1 + d = U by omega] at tm
    have l : ¬ zI U < zI ((p + 1 : Nat) : Int) := by simp (disch := omega) only [zl_0, zl_1, zl_2, zl_3, zl_4, zl_5, zl_6, zl_7, zl_8, zl_9, zl_10, zl_11, zl_12, zl_13, zl_14, zl_15, zl_16, zl_17, zl_18, zl_19, zl_20, zl_21, zl_22, zl_23, zl_24, zl_25, zl_26, zl_27, zl_28, zl_29, zl_30, zl_31, zl_32, zl_33, zl_34, zl_35, zl_36, zl_37, zl_38, zl_39, zl_40, zl_41, zl_42, zl_43, zl_44, zl_45, zl_46, zl_47, zl_48, zl_49, zl_50, zl_51, zl_52, zl_53, zl_54, zl_55, zl_56, zl_57, zl_58, zl_59, zl_60, zl_61, zl_62, zl_63, zl_64, zl_65, zl_66, zl_80, zl_97, zl_99, zl_103, zl_107, zl_112, zl_115, zl_100, zl_180, zl_210, zl_238, zl_255, zl_256, zl_400, zl_1000, zl_1024, zl_1260, zl_2000, zl_7140, zl_7200, zl_18414, zl_65536, zl_131072, zl_9999, zl_999, zI_add, zI_sub, zI_mul, zI_neg, zI_lt, zI_le, zI_eq, zI_clamp, ck_z, ckp_z, qb_z, qb_z0, Option.bind_some]; omega
    have ez : zI ((p + 1 : Nat) : Int) + 1 = zI ((p + 1 + 1 : Nat) : Int) := by rw [zl_1, zI_add]; congr 1
    have eb := bit_z k U ((p + 1 : Nat) : Int) hk (by omega) (by omega) (by omega)
    have up (v : Int32) (r : Nat) : upd ein (p + 1) v r = if r = p + 1 then v else ein r := rfl
    have cz {α : Type} (o : Option α) : ck (inb (zI ((p + 1 : Nat) : Int)) 9) o = o := ck_z (by omega) (by omega) (by omega)
    have clz : (zI ((p + 1 : Nat) : Int)).toNatClampNeg = p + 1 := by rw [zI_clamp (by omega) (by omega)]; omega
    have psub : p + 1 - 1 = p := by omega
    by_cases g : Gh k U ((p + 1 : Nat) : Int)
    · have et : thg k U (p + 1) = thg k U p := by rw [thg, if_pos g]; omega
      have ev : pvt k U last (p + 1) = 0 := by unfold pvt; rw [if_neg (by omega), if_pos g]
      have ih := agrees_b10_z hB hL hR q t a last s U k c f q0 q1 t0 a0 a1 hla hs hU hk c0 c1 hf hH d m (p + 1) (upd ein (p + 1) (-1)) (by omega) (by omega) (fun r r1 r2 => by
        rw [up]
        by_cases e : r = p + 1
        · subst e
          rw [if_pos rfl, if_pos g]
          rfl
        · rw [if_neg e]; exact hI r r1 (by omega))
      have eq : F_X8_agrees_b10 marks ms ml mp (zI j) hangs cancels (m + 1) ein (zI q) (zI a) (zI s) (zI U) (nI k) (zI c) (zI f) (zI (t + thg k U p)) (zI (pvt k U last p)) (zI ((p + 1 : Nat) : Int)) = F_X8_agrees_b10 marks ms ml mp (zI j) hangs cancels m (upd ein (p + 1) (-1)) (zI q) (zI a) (zI s) (zI U) (nI k) (zI c) (zI f) (zI (t + thg k U (p + 1))) (zI (pvt k U last (p + 1))) (zI ((p + 1 + 1 : Nat) : Int)) := by
        rw [F_X8_agrees_b10, if_neg l, cz, eb, if_pos g, if_pos (by rfl), clz, ez, et, ev]
        rfl
      rw [eq]
      rcases ih with ⟨i1, i2⟩ | ⟨i1, r, r1, r2, r3⟩
      · refine Or.inl ⟨i1, fun r r1 r2 => ?_⟩
        by_cases e : r = p + 1
        · subst e
          intro x
          exact absurd g x
        · exact i2 r (by omega) r2
      · exact Or.inr ⟨i1, r, by omega, r2, r3⟩
    · have hpU : p + 1 ≤ U := by omega
      have hpp : p < p + 1 := Nat.lt_succ_self p
      have et : thg k U (p + 1) = thg k U p + 1 := by rw [thg, if_neg g]
      have ev : pvt k U last (p + 1) = 1 := by unfold pvt; rw [if_neg (by omega), if_neg g]
      obtain ⟨h, hh0⟩ : ∃ h, h = t + thg k U p := ⟨_, rfl⟩
      obtain ⟨x, hx0⟩ : ∃ x, x = sen c f h := ⟨_, rfl⟩
      have hx : x = 0 ∨ x = 1 := by rw [hx0]; unfold sen; split; exact Or.inl rfl; exact Or.inr rfl
      have hlt : h < bkH Λ := by omega
      have hge : 0 ≤ h := by omega
      have ih := agrees_b10_z hB hL hR q t a last s U k c f q0 q1 t0 a0 a1 hla hs hU hk c0 c1 hf hH d m (p + 1) (upd ein (p + 1) (zI h)) (by omega) (by omega) (fun r r1 r2 => by
        rw [up]
        by_cases e : r = p + 1
        · subst e
          rw [if_pos rfl, if_neg g, psub, hh0]
        · rw [if_neg e]; exact hI r r1 (by omega))
      have agp : AgP Λ q t a last s U k c f (p + 1) ↔ (Fit Λ x h q ((p + 1 : Nat) : Int) (a + ((p + 1 : Nat) : Int) - 1) ∧ (pvt k U last p ≠ 0 → bti Λ (see Λ x h) h ≠ 2) ∧ (s + 1 - (p + 1) < p + 1 → ¬ Gh k U ((s + 1 - (p + 1) : Nat) : Int) → Han Λ (t + thg k U (s - (p + 1))) h)) := by
        unfold AgP
        rw [psub, ← hh0, ← hx0]
        exact ⟨fun z => z g, fun z _ => z⟩
      have eh : zI h + 1 = zI (t + thg k U (p + 1)) := by rw [zl_1, zI_add]; congr 1; omega
      have eh1 : zI h - 1 = zI (h - 1) := by rw [zl_1, zI_sub]
      have ey : zI a + zI ((p + 1 : Nat) : Int) - 1 = zI (a + ((p + 1 : Nat) : Int) - 1) := by rw [zl_1, zI_add, zI_sub]
      have ew : (zI s + 1) - zI ((p + 1 : Nat) : Int) = zI ((s + 1 - (p + 1) : Nat) : Int) := by rw [zl_1, zI_add, zI_sub]; congr 1; omega
      have ft := fits_z hB hL hR h q ((p + 1 : Nat) : Int) (a + ((p + 1 : Nat) : Int) - 1) x hge hlt q0 q1 (by omega) (by omega) (by omega) (by omega) hx
      obtain ⟨KK, hKK⟩ : ∃ KK : NF → Int32 → Int32 → Int32 → Int32 → Int32 → Int32 → Int32 → Int32 → Int32 → Int32 → Option (Bool × NF), KK = fun m_in x1 x3 x5 x6 x7 x8 x9 x10 x11 x12 => F_X8_agrees_b10 marks ms ml mp (zI j) hangs cancels m m_in x1 x3 x5 x6 x7 x8 x9 x10 x11 x12 := ⟨_, rfl⟩
      have start : F_X8_agrees_b10 marks ms ml mp (zI j) hangs cancels (m + 1) ein (zI q) (zI a) (zI s) (zI U) (nI k) (zI c) (zI f) (zI (t + thg k U p)) (zI (pvt k U last p)) (zI ((p + 1 : Nat) : Int)) = F_X8_agrees_b64 marks ms ml mp (zI j) hangs cancels KK (upd ein (p + 1) (-1)) (zI q) (zI a) (zI s) (zI U) (nI k) (zI c) (zI f) (zI h) (zI (pvt k U last p)) (zI ((p + 1 : Nat) : Int)) (zI x) := by
        rw [F_X8_agrees_b10, if_neg l, cz, eb, if_neg g, if_neg (by decide), clz, ← hKK, ← hh0, hx0]
        unfold sen
        rcases hf with rfl | rfl
        · rw [if_pos (by rfl)]
          by_cases y : c - 1 ≤ h
          · have q2 : zI c - 1 ≤ zI h := by simp (disch := omega) only [zl_0, zl_1, zl_2, zl_3, zl_4, zl_5, zl_6, zl_7, zl_8, zl_9, zl_10, zl_11, zl_12, zl_13, zl_14, zl_15, zl_16, zl_17, zl_18, zl_19, zl_20, zl_21, zl_22, zl_23, zl_24, zl_25, zl_26, zl_27, zl_28, zl_29, zl_30, zl_31, zl_32, zl_33, zl_34, zl_35, zl_36, zl_37, zl_38, zl_39, zl_40, zl_41, zl_42, zl_43, zl_44, zl_45, zl_46, zl_47, zl_48, zl_49, zl_50, zl_51, zl_52, zl_53, zl_54, zl_55, zl_56, zl_57, zl_58, zl_59, zl_60, zl_61, zl_62, zl_63, zl_64, zl_65, zl_66, zl_80, zl_97, zl_99, zl_103, zl_107, zl_112, zl_115, zl_100, zl_180, zl_210, zl_238, zl_255, zl_256, zl_400, zl_1000, zl_1024, zl_1260, zl_2000, zl_7140, zl_7200, zl_18414, zl_65536, zl_131072, zl_9999, zl_999, zI_add, zI_sub, zI_mul, zI_neg, zI_lt, zI_le, zI_eq, zI_clamp, ck_z, ckp_z, qb_z, qb_z0, Option.bind_some]; exact y
            rw [if_pos q2, if_pos ⟨rfl, y⟩]
            rfl
          · have q2 : ¬ zI c - 1 ≤ zI h := by simp (disch := omega) only [zl_0, zl_1, zl_2, zl_3, zl_4, zl_5, zl_6, zl_7, zl_8, zl_9, zl_10, zl_11, zl_12, zl_13, zl_14, zl_15, zl_16, zl_17, zl_18, zl_19, zl_20, zl_21, zl_22, zl_23, zl_24, zl_25, zl_26, zl_27, zl_28, zl_29, zl_30, zl_31, zl_32, zl_33, zl_34, zl_35, zl_36, zl_37, zl_38, zl_39, zl_40, zl_41, zl_42, zl_43, zl_44, zl_45, zl_46, zl_47, zl_48, zl_49, zl_50, zl_51, zl_52, zl_53, zl_54, zl_55, zl_56, zl_57, zl_58, zl_59, zl_60, zl_61, zl_62, zl_63, zl_64, zl_65, zl_66, zl_80, zl_97, zl_99, zl_103, zl_107, zl_112, zl_115, zl_100, zl_180, zl_210, zl_238, zl_255, zl_256, zl_400, zl_1000, zl_1024, zl_1260, zl_2000, zl_7140, zl_7200, zl_18414, zl_65536, zl_131072, zl_9999, zl_999, zI_add, zI_sub, zI_mul, zI_neg, zI_lt, zI_le, zI_eq, zI_clamp, ck_z, ckp_z, qb_z, qb_z0, Option.bind_some]; exact y
            rw [if_neg q2, if_neg (fun z => y z.2)]
            rfl
        · rw [if_neg (by decide), if_neg (by omega)]
          rfl
      have e162 (ei : NF) : F_X8_agrees_b162 marks ms ml mp (zI j) hangs cancels KK ei (zI q) (zI a) (zI s) (zI U) (nI k) (zI c) (zI f) (zI h) (zI ((p + 1 : Nat) : Int)) = F_X8_agrees_b10 marks ms ml mp (zI j) hangs cancels m ei (zI q) (zI a) (zI s) (zI U) (nI k) (zI c) (zI f) (zI (t + thg k U (p + 1))) (zI (pvt k U last (p + 1))) (zI ((p + 1 + 1 : Nat) : Int)) := by
        unfold F_X8_agrees_b162
        rw [ez, eh, ev, hKK]
        rfl
      have e108 := agrees_b108_z (j := j) (ms := ms) (ml := ml) (mp := mp) hB hL KK ein q t a c f h s U k p t0 hs hU (by omega) hh0 hge hlt hI
      rw [e162] at e108
      -- put together
      have fin (hA : Fit Λ x h q ((p + 1 : Nat) : Int) (a + ((p + 1 : Nat) : Int) - 1)) (hT2 : pvt k U last p ≠ 0 → bti Λ (see Λ x h) h ≠ 2) (X : Option (Bool × NF)) (hX : X = F_X8_agrees_b108 marks ms ml mp (zI j) hangs cancels KK (upd ein (p + 1) (-1)) (zI q) (zI a) (zI s) (zI U) (nI k) (zI c) (zI f) (zI h) (zI ((p + 1 : Nat) : Int))) : ((∃ e', X = some (true, e')) ∧ ∀ r : Nat, p < r → r ≤ U → AgP Λ q t a last s U k c f r) ∨ ((∃ e', X = some (false, e')) ∧ ∃ r : Nat, p < r ∧ r ≤ U ∧ ¬ AgP Λ q t a last s U k c f r) := by
        subst hX
        rcases e108 with ⟨e1, e2⟩ | ⟨e1, e2⟩
        · rw [e1]
          rcases ih with ⟨i1, i2⟩ | ⟨i1, r, r1, r2, r3⟩
          · refine Or.inl ⟨i1, fun r r1 r2 => ?_⟩
            by_cases e : r = p + 1
            · rw [e]; exact agp.mpr ⟨hA, hT2, e2⟩
            · exact i2 r (Nat.lt_of_le_of_ne r1 (Ne.symm e)) r2
          · exact Or.inr ⟨i1, r, Nat.lt_of_succ_lt r1, r2, r3⟩
        · exact Or.inr ⟨e1, p + 1, hpp, hpU, fun w => e2 (agp.mp w).2.2⟩
      rw [start]
      unfold F_X8_agrees_b64
      rw [ey, ft, Option.bind_some]
      by_cases hA : Fit Λ x h q ((p + 1 : Nat) : Int) (a + ((p + 1 : Nat) : Int) - 1)
      · rw [decide_eq_true hA, if_neg (by decide)]
        by_cases pv : pvt k U last p = 0
        · have q2 : zI (pvt k U last p) = 0 := by rw [pv]; rfl
          rw [if_pos q2]
          exact fin hA (fun w => absurd pv w) _ rfl
        · have hpb := pvt_b (k := k) (U := U) (last := last) (by rcases hla with w | w; exact Or.inl w; exact Or.inr w.1) p
          have q2 : ¬ zI (pvt k U last p) = 0 := by simp (disch := omega) only [zl_0, zl_1, zl_2, zl_3, zl_4, zl_5, zl_6, zl_7, zl_8, zl_9, zl_10, zl_11, zl_12, zl_13, zl_14, zl_15, zl_16, zl_17, zl_18, zl_19, zl_20, zl_21, zl_22, zl_23, zl_24, zl_25, zl_26, zl_27, zl_28, zl_29, zl_30, zl_31, zl_32, zl_33, zl_34, zl_35, zl_36, zl_37, zl_38, zl_39, zl_40, zl_41, zl_42, zl_43, zl_44, zl_45, zl_46, zl_47, zl_48, zl_49, zl_50, zl_51, zl_52, zl_53, zl_54, zl_55, zl_56, zl_57, zl_58, zl_59, zl_60, zl_61, zl_62, zl_63, zl_64, zl_65, zl_66, zl_80, zl_97, zl_99, zl_103, zl_107, zl_112, zl_115, zl_100, zl_180, zl_210, zl_238, zl_255, zl_256, zl_400, zl_1000, zl_1024, zl_1260, zl_2000, zl_7140, zl_7200, zl_18414, zl_65536, zl_131072, zl_9999, zl_999, zI_add, zI_sub, zI_mul, zI_neg, zI_lt, zI_le, zI_eq, zI_clamp, ck_z, ckp_z, qb_z, qb_z0, Option.bind_some]; exact pv
          have h1 : 1 ≤ h := by rw [hh0]; exact pv_h1 hla t0 p pv
          rw [if_neg q2, eh1, goesOn_z hB hL h x h1 hlt hx, Option.bind_some]
          by_cases hT2 : bti Λ (see Λ x h) h ≠ 2
          · rw [decide_eq_true hT2, if_neg (by decide)]
            exact fin hA (fun _ => hT2) _ rfl
          · rw [decide_eq_false hT2, if_pos (by rfl)]
            exact Or.inr ⟨⟨_, rfl⟩, p + 1, hpp, hpU, fun w => hT2 ((agp.mp w).2.1 pv)⟩
      · rw [decide_eq_false hA, if_pos (by rfl)]
        exact Or.inr ⟨⟨_, rfl⟩, p + 1, hpp, hpU, fun w => hA (agp.mp w).1⟩
end AG

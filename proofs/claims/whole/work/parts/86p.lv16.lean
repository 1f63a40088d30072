/-- the masks k and k2 have the same first p places -/
def Cg (k k2 s p : Nat) : Prop := ∀ r : Nat, 1 ≤ r → r ≤ p → (Gh k s r ↔ Gh k2 s r)
theorem Cg_mk {k k2 s p : Nat} (hp : p ≤ s) (e : k / 2 ^ (s - p) = k2 / 2 ^ (s - p)) : Cg k k2 s p := by
  intro r r1 r2
  have x : 2 ^ (s - r) = 2 ^ (s - p) * 2 ^ (p - r) := by rw [← Nat.pow_add]; congr 1; omega
  have d (a : Nat) : a / 2 ^ (s - r) = a / 2 ^ (s - p) / 2 ^ (p - r) := by rw [x, Nat.div_div_eq_div_mul]
  show k / 2 ^ (s - ((r : Nat) : Int).toNat) % 2 = 1 ↔ k2 / 2 ^ (s - ((r : Nat) : Int).toNat) % 2 = 1
  rw [Int.toNat_natCast, d k, d k2, e]
theorem Cg_thg {k k2 s p : Nat} (h : Cg k k2 s p) : ∀ r : Nat, r ≤ p → thg k s r = thg k2 s r
  | 0, _ => rfl
  | r + 1, hr => by
    have ih := Cg_thg h r (by omega)
    have g := h (r + 1) (by omega) hr
    unfold thg
    rw [ih]
    by_cases c : Gh k s ((r + 1 : Nat) : Int)
    · rw [if_pos c, if_pos (g.mp c)]
    · rw [if_neg c, if_neg (fun x => c (g.mpr x))]
theorem Cg_ahc {σ : Int → Int} {t : Int} {k k2 s p : Nat} (h : Cg k k2 s p) : ∀ r : Nat, r ≤ p → ahc σ t k s r = ahc σ t k2 s r
  | 0, _ => rfl
  | r + 1, hr => by
    have ih := Cg_ahc (σ := σ) (t := t) h r (by omega)
    have et := Cg_thg h r (by omega)
    have g := h (r + 1) (by omega) hr
    unfold ahc
    rw [ih, et]
    by_cases c : Gh k s ((r + 1 : Nat) : Int)
    · rw [if_pos c, if_pos (g.mp c)]
    · rw [if_neg c, if_neg (fun x => c (g.mpr x))]
theorem Cg_sym {k k2 s p : Nat} (h : Cg k k2 s p) : Cg k2 k s p := fun r r1 r2 => (h r r1 r2).symm
theorem Cg_LyP1 {Λ : Book} {σ τ : Int → Int} {t : Int} {k k2 s p : Nat} (hp : p ≤ s) (h : Cg k k2 s p) (r : Nat) (r1 : 1 ≤ r) (r2 : r ≤ p) (w : LyP Λ σ τ t s k r) : LyP Λ σ τ t s k2 r := by
  have g := h r r1 r2
  have e1 := Cg_thg h r r2
  have e2 := Cg_thg h (r - 1) (by omega)
  have e3 := Cg_ahc (σ := σ) (t := t) h r r2
  refine ⟨fun x => ?_, fun x => ?_⟩
  · rw [← e1]; exact w.1 (g.mpr x)
  · obtain ⟨a, b, c, d, e⟩ := w.2 (fun y => x (g.mp y))
    rw [← e2, ← e3]
    refine ⟨a, b, c, fun o y => d o (fun z => y ((h (r - 1) (by omega) (by omega)).mp z)), fun o y => ?_⟩
    have e4 := Cg_thg h (s - r) (by omega)
    rw [← e4]
    exact e o (fun z => y ((h (s + 1 - r) (by omega) (by omega)).mp z))
def LyA (Λ : Book) (σ τ : Int → Int) (t : Int) (s k p : Nat) : Prop := ∀ r : Nat, 1 ≤ r → r ≤ p → LyP Λ σ τ t s k r
/-- the lay is found good at place p -/
def Su (Λ : Book) (σ τ : Int → Int) (t last : Int) (s k p : Nat) : Prop := 1 ≤ p ∧ p ≤ s ∧ LyA Λ σ τ t s k p ∧ ((last = -1 ∧ p = s ∧ 1 ≤ thg k s s) ∨ (last ≠ -1 ∧ last < t + thg k s p ∧ ∀ r : Nat, r < p → t + thg k s r ≤ last))
/-- the lay is found bad at place p, and so are all that begin so -/
def Fa (Λ : Book) (σ τ : Int → Int) (t last : Int) (s k p : Nat) : Prop := 1 ≤ p ∧ p ≤ s ∧ (∀ k2 p2, k2 / 2 ^ (s - p) = k / 2 ^ (s - p) → ¬ Su Λ σ τ t last s k2 p2) ∧ ∀ r : Nat, r < p → last = -1 ∨ t + thg k s r ≤ last
section LM
variable {Λ : Book} {σ τ : Int → Int} {numbers spots waters sides ties : NF} {t last : Int} {s k : Nat}
theorem Fa_p {p : Nat} (hp : 1 ≤ p) (hp2 : p ≤ s) (hn : ¬ LyP Λ σ τ t s k p) (hl : ∀ r : Nat, r < p → last = -1 ∨ t + thg k s r ≤ last) : Fa Λ σ τ t last s k p := by
  refine ⟨hp, hp2, fun k2 p2 e x => ?_, hl⟩
  have cg := Cg_mk hp2 e
  obtain ⟨x1, x2, x3, x4⟩ := x
  by_cases c : p ≤ p2
  · exact hn (Cg_LyP1 hp2 cg p hp (Nat.le_refl _) (x3 p hp c))
  · rcases x4 with ⟨_, y, _⟩ | ⟨y1, y2, _⟩
    · omega
    · have := hl p2 (by omega)
      rw [Cg_thg cg p2 (by omega)] at y2
      omega
theorem Fa_s (hs : 1 ≤ s) (hl : (last = -1 ∧ thg k s s = 0) ∨ (last ≠ -1 ∧ ∀ r : Nat, r ≤ s → t + thg k s r ≤ last)) : Fa Λ σ τ t last s k s := by
  refine ⟨hs, Nat.le_refl _, fun k2 p2 e x => ?_, fun r r2 => by
    rcases hl with hl | hl
    · exact Or.inl hl.1
    · exact Or.inr (hl.2 r (by omega))⟩
  have cg := Cg_mk (Nat.le_refl s) e
  obtain ⟨x1, x2, x3, x4⟩ := x
  rcases x4 with ⟨y1, y2, y3⟩ | ⟨y1, y2, _⟩
  · rw [Cg_thg cg s (Nat.le_refl _)] at y3
    rcases hl with hl | hl
    · omega
    · exact hl.1 y1
  · rw [Cg_thg cg p2 x2] at y2
    rcases hl with hl | hl
    · exact y1 hl.1
    · have := hl.2 p2 x2
      omega
theorem layMask_b26_z (hB : BkW Λ) (hT : TbC Λ σ τ numbers spots waters sides ties) (t0 : 0 ≤ t) (t1 : t ≤ 30) (hs0 : 1 ≤ s) (hs : s ≤ 8) (hk : k < 256) (hl0 : -1 ≤ last) (hl1 : last ≤ 30) (hlt : last = -1 ∨ t ≤ last) : ∀ (d m P : Nat) (seats nexts aheads : NF), P + d = s → d < m → PfA Λ σ τ t s k P seats nexts aheads → (∀ r : Nat, r ≤ P → last = -1 ∨ t + thg k s r ≤ last) → ∃ v p se ne ah, F_X1_layMask_b26 (zI (bkH Λ)) numbers spots waters sides ties (zI (bkG Λ)) (zI t) (zI last) (zI s) (nI k) m seats nexts aheads (zI ((P + 1 : Nat) : Int)) = some (zI v, se, ne, ah) ∧ (P ≤ p ∧ (P < s → P < p)) ∧ ((v = (p : Nat) ∧ Su Λ σ τ t last s k p ∧ PfA Λ σ τ t s k p se ne ah) ∨ (v = -((p : Nat) : Int) ∧ Fa Λ σ τ t last s k p ∧ PfA Λ σ τ t s k (p - 1) se ne ah))
  | 0, m + 1, P, seats, nexts, aheads, hP, _, h, hl => by
    have e : P = s := by omega
    subst e
    have tb := thg_b k P P
    have l : zI (P : Int) < zI ((P + 1 : Nat) : Int) := by simp (disch := omega) only [zl_0, zl_1, zl_2, zl_3, zl_4, zl_5, zl_6, zl_7, zl_8, zl_9, zl_10, zl_11, zl_12, zl_13, zl_14, zl_15, zl_16, zl_17, zl_18, zl_19, zl_20, zl_21, zl_22, zl_23, zl_24, zl_25, zl_26, zl_27, zl_28, zl_29, zl_30, zl_31, zl_32, zl_33, zl_34, zl_35, zl_36, zl_37, zl_38, zl_39, zl_40, zl_41, zl_42, zl_43, zl_44, zl_45, zl_46, zl_47, zl_48, zl_49, zl_50, zl_51, zl_52, zl_53, zl_54, zl_55, zl_56, zl_57, zl_58, zl_59, zl_60, zl_61, zl_62, zl_63, zl_64, zl_65, zl_66, zl_80, zl_97, zl_99, zl_103, zl_107, zl_112, zl_115, zl_100, zl_180, zl_210, zl_238, zl_255, zl_256, zl_400, zl_1000, zl_1024, zl_1260, zl_2000, zl_7140, zl_7200, zl_18414, zl_65536, zl_131072, zl_9999, zl_999, zI_add, zI_sub, zI_mul, zI_neg, zI_lt, zI_le, zI_eq, zI_clamp, ck_z, ckp_z, qb_z, qb_z0, Option.bind_some]; omega
    have clz : (zI (P : Int)).toNatClampNeg = P := by rw [zI_clamp (by omega) (by omega)]; omega
    obtain ⟨en, ea⟩ := PfA_n h
    have hA : LyA Λ σ τ t P k P := fun r r1 r2 => (h.2.2 r r1 r2).2.2.2
    have hd : PfA Λ σ τ t P k (P - 1) seats nexts aheads := ⟨h.1, h.2.1, fun r r1 r2 => h.2.2 r r1 (by omega)⟩
    rw [F_X1_layMask_b26, if_pos l]
    by_cases c : last = -1
    · have q : zI last = -1 := by rw [c]; rfl
      rw [if_pos q, ck_z (by omega) (by omega) (by omega), clz, en]
      by_cases c2 : 1 ≤ thg k P P
      · have l2 : ¬ zI (t + thg k P P) ≤ zI t := by simp (disch := omega) only [zl_0, zl_1, zl_2, zl_3, zl_4, zl_5, zl_6, zl_7, zl_8, zl_9, zl_10, zl_11, zl_12, zl_13, zl_14, zl_15, zl_16, zl_17, zl_18, zl_19, zl_20, zl_21, zl_22, zl_23, zl_24, zl_25, zl_26, zl_27, zl_28, zl_29, zl_30, zl_31, zl_32, zl_33, zl_34, zl_35, zl_36, zl_37, zl_38, zl_39, zl_40, zl_41, zl_42, zl_43, zl_44, zl_45, zl_46, zl_47, zl_48, zl_49, zl_50, zl_51, zl_52, zl_53, zl_54, zl_55, zl_56, zl_57, zl_58, zl_59, zl_60, zl_61, zl_62, zl_63, zl_64, zl_65, zl_66, zl_80, zl_97, zl_99, zl_103, zl_107, zl_112, zl_115, zl_100, zl_180, zl_210, zl_238, zl_255, zl_256, zl_400, zl_1000, zl_1024, zl_1260, zl_2000, zl_7140, zl_7200, zl_18414, zl_65536, zl_131072, zl_9999, zl_999, zI_add, zI_sub, zI_mul, zI_neg, zI_lt, zI_le, zI_eq, zI_clamp, ck_z, ckp_z, qb_z, qb_z0, Option.bind_some]; omega
        rw [if_neg l2]
        exact ⟨P, P, _, _, _, rfl, ⟨Nat.le_refl _, fun w => w⟩, Or.inl ⟨rfl, ⟨hs0, Nat.le_refl _, hA, Or.inl ⟨c, rfl, c2⟩⟩, h⟩⟩
      · have l2 : zI (t + thg k P P) ≤ zI t := by simp (disch := omega) only [zl_0, zl_1, zl_2, zl_3, zl_4, zl_5, zl_6, zl_7, zl_8, zl_9, zl_10, zl_11, zl_12, zl_13, zl_14, zl_15, zl_16, zl_17, zl_18, zl_19, zl_20, zl_21, zl_22, zl_23, zl_24, zl_25, zl_26, zl_27, zl_28, zl_29, zl_30, zl_31, zl_32, zl_33, zl_34, zl_35, zl_36, zl_37, zl_38, zl_39, zl_40, zl_41, zl_42, zl_43, zl_44, zl_45, zl_46, zl_47, zl_48, zl_49, zl_50, zl_51, zl_52, zl_53, zl_54, zl_55, zl_56, zl_57, zl_58, zl_59, zl_60, zl_61, zl_62, zl_63, zl_64, zl_65, zl_66, zl_80, zl_97, zl_99, zl_103, zl_107, zl_112, zl_115, zl_100, zl_180, zl_210, zl_238, zl_255, zl_256, zl_400, zl_1000, zl_1024, zl_1260, zl_2000, zl_7140, zl_7200, zl_18414, zl_65536, zl_131072, zl_9999, zl_999, zI_add, zI_sub, zI_mul, zI_neg, zI_lt, zI_le, zI_eq, zI_clamp, ck_z, ckp_z, qb_z, qb_z0, Option.bind_some]; omega
        rw [if_pos l2, zI_neg]
        exact ⟨-(P : Int), P, _, _, _, rfl, ⟨Nat.le_refl _, fun w => w⟩, Or.inr ⟨rfl, Fa_s hs0 (Or.inl ⟨c, by omega⟩), hd⟩⟩
    · have q : ¬ zI last = -1 := by simp (disch := omega) only [zl_0, zl_1, zl_2, zl_3, zl_4, zl_5, zl_6, zl_7, zl_8, zl_9, zl_10, zl_11, zl_12, zl_13, zl_14, zl_15, zl_16, zl_17, zl_18, zl_19, zl_20, zl_21, zl_22, zl_23, zl_24, zl_25, zl_26, zl_27, zl_28, zl_29, zl_30, zl_31, zl_32, zl_33, zl_34, zl_35, zl_36, zl_37, zl_38, zl_39, zl_40, zl_41, zl_42, zl_43, zl_44, zl_45, zl_46, zl_47, zl_48, zl_49, zl_50, zl_51, zl_52, zl_53, zl_54, zl_55, zl_56, zl_57, zl_58, zl_59, zl_60, zl_61, zl_62, zl_63, zl_64, zl_65, zl_66, zl_80, zl_97, zl_99, zl_103, zl_107, zl_112, zl_115, zl_100, zl_180, zl_210, zl_238, zl_255, zl_256, zl_400, zl_1000, zl_1024, zl_1260, zl_2000, zl_7140, zl_7200, zl_18414, zl_65536, zl_131072, zl_9999, zl_999, zI_add, zI_sub, zI_mul, zI_neg, zI_lt, zI_le, zI_eq, zI_clamp, ck_z, ckp_z, qb_z, qb_z0, Option.bind_some]; exact c
      rw [if_neg q, zI_neg]
      refine ⟨-(P : Int), P, _, _, _, rfl, ⟨Nat.le_refl _, fun w => w⟩, Or.inr ⟨rfl, Fa_s hs0 (Or.inr ⟨c, fun r r2 => ?_⟩), hd⟩⟩
      rcases hl r r2 with x | x
      · exact absurd x c
      · exact x
  | d + 1, m + 1, P, seats, nexts, aheads, hP, hm, h, hl => by
    have tb := thg_b k s (P + 1)
    have l : ¬ zI (s : Int) < zI ((P + 1 : Nat) : Int) := by simp (disch := omega) only [zl_0, zl_1, zl_2, zl_3, zl_4, zl_5, zl_6, zl_7, zl_8, zl_9, zl_10, zl_11, zl_12, zl_13, zl_14, zl_15, zl_16, zl_17, zl_18, zl_19, zl_20, zl_21, zl_22, zl_23, zl_24, zl_25, zl_26, zl_27, zl_28, zl_29, zl_30, zl_31, zl_32, zl_33, zl_34, zl_35, zl_36, zl_37, zl_38, zl_39, zl_40, zl_41, zl_42, zl_43, zl_44, zl_45, zl_46, zl_47, zl_48, zl_49, zl_50, zl_51, zl_52, zl_53, zl_54, zl_55, zl_56, zl_57, zl_58, zl_59, zl_60, zl_61, zl_62, zl_63, zl_64, zl_65, zl_66, zl_80, zl_97, zl_99, zl_103, zl_107, zl_112, zl_115, zl_100, zl_180, zl_210, zl_238, zl_255, zl_256, zl_400, zl_1000, zl_1024, zl_1260, zl_2000, zl_7140, zl_7200, zl_18414, zl_65536, zl_131072, zl_9999, zl_999, zI_add, zI_sub, zI_mul, zI_neg, zI_lt, zI_le, zI_eq, zI_clamp, ck_z, ckp_z, qb_z, qb_z0, Option.bind_some]; omega
    obtain ⟨b, se, ne, ah, eq, hb⟩ := layPlace_z hB hT t0 t1 hs hk (show P + 1 ≤ s by omega) h
    rw [F_X1_layMask_b26, if_neg l, eq, Option.bind_some]
    rcases hb with ⟨rfl, hb⟩ | ⟨rfl, hb1, hb2⟩
    · have ez : zI ((P + 1 : Nat) : Int) + 1 = zI ((P + 1 + 1 : Nat) : Int) := by rw [zl_1, zI_add]; congr 1
      have clz : (zI ((P + 1 : Nat) : Int)).toNatClampNeg = P + 1 := by rw [zI_clamp (by omega) (by omega)]; omega
      obtain ⟨en, ea⟩ := PfA_n hb
      rw [if_neg (show ¬ qb true = 0 by decide), ez]
      have ih (x : last = -1 ∨ t + thg k s (P + 1) ≤ last) := layMask_b26_z hB hT t0 t1 hs0 hs hk hl0 hl1 hlt d m (P + 1) se ne ah (by omega) (by omega) hb (fun r r2 => by
        by_cases e : r = P + 1
        · rw [e]; exact x
        · exact hl r (by omega))
      by_cases c : last = -1
      · have q : zI last = -1 := by rw [c]; rfl
        obtain ⟨v, p, se', ne', ah', i1, i2, i3⟩ := ih (Or.inl c)
        rw [if_pos q]
        exact ⟨v, p, se', ne', ah', i1, ⟨by omega, fun _ => by omega⟩, i3⟩
      · have q : ¬ zI last = -1 := by simp (disch := omega) only [zl_0, zl_1, zl_2, zl_3, zl_4, zl_5, zl_6, zl_7, zl_8, zl_9, zl_10, zl_11, zl_12, zl_13, zl_14, zl_15, zl_16, zl_17, zl_18, zl_19, zl_20, zl_21, zl_22, zl_23, zl_24, zl_25, zl_26, zl_27, zl_28, zl_29, zl_30, zl_31, zl_32, zl_33, zl_34, zl_35, zl_36, zl_37, zl_38, zl_39, zl_40, zl_41, zl_42, zl_43, zl_44, zl_45, zl_46, zl_47, zl_48, zl_49, zl_50, zl_51, zl_52, zl_53, zl_54, zl_55, zl_56, zl_57, zl_58, zl_59, zl_60, zl_61, zl_62, zl_63, zl_64, zl_65, zl_66, zl_80, zl_97, zl_99, zl_103, zl_107, zl_112, zl_115, zl_100, zl_180, zl_210, zl_238, zl_255, zl_256, zl_400, zl_1000, zl_1024, zl_1260, zl_2000, zl_7140, zl_7200, zl_18414, zl_65536, zl_131072, zl_9999, zl_999, zI_add, zI_sub, zI_mul, zI_neg, zI_lt, zI_le, zI_eq, zI_clamp, ck_z, ckp_z, qb_z, qb_z0, Option.bind_some]; exact c
        have en' : (some (true, se, ne, ah)).isSome = true := rfl
        rw [if_neg q, ck_z (by omega) (by omega) (by omega), clz]
        show ∃ v p se' ne' ah', (if ne (P + 1) ≤ zI last then _ else _) = _ ∧ _
        rw [en]
        by_cases c2 : t + thg k s (P + 1) ≤ last
        · have l2 : zI (t + thg k s (P + 1)) ≤ zI last := by simp (disch := omega) only [zl_0, zl_1, zl_2, zl_3, zl_4, zl_5, zl_6, zl_7, zl_8, zl_9, zl_10, zl_11, zl_12, zl_13, zl_14, zl_15, zl_16, zl_17, zl_18, zl_19, zl_20, zl_21, zl_22, zl_23, zl_24, zl_25, zl_26, zl_27, zl_28, zl_29, zl_30, zl_31, zl_32, zl_33, zl_34, zl_35, zl_36, zl_37, zl_38, zl_39, zl_40, zl_41, zl_42, zl_43, zl_44, zl_45, zl_46, zl_47, zl_48, zl_49, zl_50, zl_51, zl_52, zl_53, zl_54, zl_55, zl_56, zl_57, zl_58, zl_59, zl_60, zl_61, zl_62, zl_63, zl_64, zl_65, zl_66, zl_80, zl_97, zl_99, zl_103, zl_107, zl_112, zl_115, zl_100, zl_180, zl_210, zl_238, zl_255, zl_256, zl_400, zl_1000, zl_1024, zl_1260, zl_2000, zl_7140, zl_7200, zl_18414, zl_65536, zl_131072, zl_9999, zl_999, zI_add, zI_sub, zI_mul, zI_neg, zI_lt, zI_le, zI_eq, zI_clamp, ck_z, ckp_z, qb_z, qb_z0, Option.bind_some]; exact c2
          obtain ⟨v, p, se', ne', ah', i1, i2, i3⟩ := ih (Or.inr c2)
          rw [if_pos l2]
          exact ⟨v, p, se', ne', ah', i1, ⟨by omega, fun _ => by omega⟩, i3⟩
        · have l2 : ¬ zI (t + thg k s (P + 1)) ≤ zI last := by simp (disch := omega) only [zl_0, zl_1, zl_2, zl_3, zl_4, zl_5, zl_6, zl_7, zl_8, zl_9, zl_10, zl_11, zl_12, zl_13, zl_14, zl_15, zl_16, zl_17, zl_18, zl_19, zl_20, zl_21, zl_22, zl_23, zl_24, zl_25, zl_26, zl_27, zl_28, zl_29, zl_30, zl_31, zl_32, zl_33, zl_34, zl_35, zl_36, zl_37, zl_38, zl_39, zl_40, zl_41, zl_42, zl_43, zl_44, zl_45, zl_46, zl_47, zl_48, zl_49, zl_50, zl_51, zl_52, zl_53, zl_54, zl_55, zl_56, zl_57, zl_58, zl_59, zl_60, zl_61, zl_62, zl_63, zl_64, zl_65, zl_66, zl_80, zl_97, zl_99, zl_103, zl_107, zl_112, zl_115, zl_100, zl_180, zl_210, zl_238, zl_255, zl_256, zl_400, zl_1000, zl_1024, zl_1260, zl_2000, zl_7140, zl_7200, zl_18414, zl_65536, zl_131072, zl_9999, zl_999, zI_add, zI_sub, zI_mul, zI_neg, zI_lt, zI_le, zI_eq, zI_clamp, ck_z, ckp_z, qb_z, qb_z0, Option.bind_some]; exact c2
          rw [if_neg l2]
          refine ⟨((P + 1 : Nat) : Int), P + 1, se, ne, ah, rfl, ⟨by omega, fun _ => by omega⟩, Or.inl ⟨rfl, ⟨by omega, by omega, fun r r1 r2 => (hb.2.2 r r1 r2).2.2.2, Or.inr ⟨c, by omega, fun r r2 => ?_⟩⟩, hb⟩⟩
          rcases hl r (by omega) with x | x
          · exact absurd x c
          · exact x
    · rw [if_pos (show qb false = 0 from rfl), zI_neg]
      exact ⟨-((P + 1 : Nat) : Int), P + 1, se, ne, ah, rfl, ⟨by omega, fun _ => by omega⟩, Or.inr ⟨rfl, Fa_p (by omega) (by omega) hb1 (fun r r2 => hl r (by omega)), by rw [show P + 1 - 1 = P by omega]; exact hb2⟩⟩
/-- the place from which the mask k is laid -/
def frm (s k : Nat) : Nat := if k = 0 then 1 else s - tz k
theorem frm_b : ∀ s, s < 9 → ∀ k, k < 2 ^ s → 1 ≤ s → 1 ≤ frm s k ∧ frm s k ≤ s ∧ (k ≠ 0 → tz k < s) := by decide +kernel
theorem layMask_z (hB : BkW Λ) (hT : TbC Λ σ τ numbers spots waters sides ties) (t0 : 0 ≤ t) (t1 : t ≤ 30) (hs0 : 1 ≤ s) (hs : s ≤ 8) (hk : k < 2 ^ s) (hl0 : -1 ≤ last) (hl1 : last ≤ 30) (hlt : last = -1 ∨ t ≤ last) (seats nexts aheads : NF) (h : PfA Λ σ τ t s k (frm s k - 1) seats nexts aheads) (hl : ∀ r : Nat, r < frm s k → last = -1 ∨ t + thg k s r ≤ last) : ∃ v p se ne ah, F_X1_layMask (zI (bkH Λ)) numbers spots waters sides ties (zI (bkG Λ)) (zI t) (zI last) seats nexts aheads (zI s) (nI k) = some (zI v, se, ne, ah) ∧ frm s k ≤ p ∧ ((v = (p : Nat) ∧ Su Λ σ τ t last s k p ∧ PfA Λ σ τ t s k p se ne ah) ∨ (v = -((p : Nat) : Int) ∧ Fa Λ σ τ t last s k p ∧ PfA Λ σ τ t s k (p - 1) se ne ah)) := by
  have hk8 : k < 256 := Nat.lt_of_lt_of_le hk (show 2 ^ s ≤ 2 ^ 8 from Nat.pow_le_pow_right (by omega) hs)
  obtain ⟨f1, f2, f3⟩ := frm_b s (by omega) k hk hs0
  obtain ⟨v, p, se, ne, ah, e1, e2, e3⟩ := layMask_b26_z hB hT t0 t1 hs0 hs hk8 hl0 hl1 hlt (s - (frm s k - 1)) FU (frm s k - 1) seats nexts aheads (by omega) (by unfold FU; omega) h (fun r r2 => hl r (by omega))
  have e4 : frm s k ≤ p := by have := e2.2 (by omega); omega
  refine ⟨v, p, se, ne, ah, ?_, e4, e3⟩
  rw [show frm s k - 1 + 1 = frm s k by omega] at e1
  unfold F_X1_layMask
  by_cases z : k = 0
  · have q : nI k = 0 := by rw [z]; rfl
    have ef : frm s k = 1 := by unfold frm; rw [if_pos z]
    rw [ef] at e1
    rw [if_pos q]
    exact e1
  · have q : ¬ nI k = 0 := by rw [nI_zI]; simp (disch := omega) only [zl_0, zl_1, zl_2, zl_3, zl_4, zl_5, zl_6, zl_7, zl_8, zl_9, zl_10, zl_11, zl_12, zl_13, zl_14, zl_15, zl_16, zl_17, zl_18, zl_19, zl_20, zl_21, zl_22, zl_23, zl_24, zl_25, zl_26, zl_27, zl_28, zl_29, zl_30, zl_31, zl_32, zl_33, zl_34, zl_35, zl_36, zl_37, zl_38, zl_39, zl_40, zl_41, zl_42, zl_43, zl_44, zl_45, zl_46, zl_47, zl_48, zl_49, zl_50, zl_51, zl_52, zl_53, zl_54, zl_55, zl_56, zl_57, zl_58, zl_59, zl_60, zl_61, zl_62, zl_63, zl_64, zl_65, zl_66, zl_80, zl_97, zl_99, zl_103, zl_107, zl_112, zl_115, zl_100, zl_180, zl_210, zl_238, zl_255, zl_256, zl_400, zl_1000, zl_1024, zl_1260, zl_2000, zl_7140, zl_7200, zl_18414, zl_65536, zl_131072, zl_9999, zl_999, zI_add, zI_sub, zI_mul, zI_neg, zI_lt, zI_le, zI_eq, zI_clamp, ck_z, ckp_z, qb_z, qb_z0, Option.bind_some]; omega
    have ef : frm s k = s - tz k := by unfold frm; rw [if_neg z]
    have t3 := f3 z
    have ez : zI (s : Int) - nI (tz k) = zI ((frm s k : Nat) : Int) := by rw [nI_zI, zI_sub, ef]; congr 1; omega
    rw [if_neg q, ntz_z k hk8 z, Option.bind_some, ez]
    exact e1
end LM

/-- the class's tables of the leaves -/
def TbC (Λ : Book) (σ τ : Int → Int) (numbers spots waters sides ties : NF) : Prop := ∀ h, 0 ≤ h → h < bkH Λ → numbers h.toNat = zI (bkM Λ 1 h) ∧ spots h.toNat = zI (σ h) ∧ waters h.toNat = zI (bkM Λ 5 h) ∧ sides h.toNat = zI (bkM Λ 6 h) ∧ ties h.toNat = zI (τ h) ∧ -2 ≤ σ h ∧ σ h ≤ 9999 ∧ 0 ≤ τ h ∧ τ h ≤ 2
/-- the first n places are laid -/
def PfA (Λ : Book) (σ τ : Int → Int) (t : Int) (s k n : Nat) (seats nexts aheads : NF) : Prop := nexts 0 = zI t ∧ aheads 0 = zI (-1) ∧ ∀ r : Nat, 1 ≤ r → r ≤ n → seats r = zI (if Gh k s r then -2 else t + thg k s (r - 1)) ∧ nexts r = zI (t + thg k s r) ∧ aheads r = zI (ahc σ t k s r) ∧ LyP Λ σ τ t s k r
section LP
variable {Λ : Book} {σ τ : Int → Int} {numbers spots waters sides ties seats nexts aheads : NF} {t : Int} {s k P : Nat}
theorem ahc_b (hT : TbC Λ σ τ numbers spots waters sides ties) (t0 : 0 ≤ t) : ∀ P : Nat, (∀ r : Nat, 1 ≤ r → r ≤ P → LyP Λ σ τ t s k r) → -2 ≤ ahc σ t k s P ∧ ahc σ t k s P ≤ 9999
  | 0, _ => by unfold ahc; omega
  | P + 1, h => by
    have ih := ahc_b hT t0 P (fun r r1 r2 => h r r1 (by omega))
    by_cases g : Gh k s ((P + 1 : Nat) : Int)
    · rw [ahc, if_pos g]; exact ih
    · have l := ((h (P + 1) (by omega) (by omega)).2 g).1
      rw [show P + 1 - 1 = P by omega] at l
      have tb := thg_b k s P
      have sb := hT (t + thg k s P) (by omega) l
      rw [ahc, if_neg g]
      exact tog_b ih (abh_b ⟨sb.2.2.2.2.2.1, sb.2.2.2.2.2.2.1⟩ (by omega))
theorem PfA_keep (h : PfA Λ σ τ t s k P seats nexts aheads) (u v w : Int32) : PfA Λ σ τ t s k P (upd seats (P + 1) u) (upd nexts (P + 1) v) (upd aheads (P + 1) w) := by
  refine ⟨?_, ?_, fun r r1 r2 => ?_⟩
  · rw [upd_ne _ _ (by omega)]; exact h.1
  · rw [upd_ne _ _ (by omega)]; exact h.2.1
  · rw [upd_ne _ _ (by omega), upd_ne _ _ (by omega), upd_ne _ _ (by omega)]; exact h.2.2 r r1 r2
theorem PfA_ext (h : PfA Λ σ τ t s k P seats nexts aheads) (u v w : Int32) (e1 : u = zI (if Gh k s ((P + 1 : Nat) : Int) then -2 else t + thg k s P)) (e2 : v = zI (t + thg k s (P + 1))) (e3 : w = zI (ahc σ t k s (P + 1))) (hl : LyP Λ σ τ t s k (P + 1)) : PfA Λ σ τ t s k (P + 1) (upd seats (P + 1) u) (upd nexts (P + 1) v) (upd aheads (P + 1) w) := by
  obtain ⟨a, b, c⟩ := PfA_keep h u v w
  refine ⟨a, b, fun r r1 r2 => ?_⟩
  by_cases e : r = P + 1
  · subst e
    rw [upd_at, upd_at, upd_at]
    exact ⟨e1, e2, e3, hl⟩
  · exact c r r1 (by omega)
theorem PfA_n (h : PfA Λ σ τ t s k P seats nexts aheads) : nexts P = zI (t + thg k s P) ∧ aheads P = zI (ahc σ t k s P) := by
  by_cases z : P = 0
  · subst z
    have e1 : thg k s 0 = 0 := rfl
    rw [e1, Int.add_zero]
    exact ⟨h.1, h.2.1⟩
  · have := h.2.2 P (by omega) (Nat.le_refl _)
    exact ⟨this.2.1, this.2.2.1⟩
theorem lp_b182_z (hB : BkW Λ) (hT : TbC Λ σ τ numbers spots waters sides ties) (t0 : 0 ≤ t) (hs : s ≤ 8) (hP : P + 1 ≤ s) (h : PfA Λ σ τ t s k P seats nexts aheads) (g : ¬ Gh k s ((P + 1 : Nat) : Int)) (hlt : t + thg k s P < bkH Λ) (u v w : Int32) : ∃ b, F_X1_layPlace_b182 (zI (bkH Λ)) waters sides (zI s) (upd seats (P + 1) u) (upd nexts (P + 1) v) (upd aheads (P + 1) w) (zI ((P + 1 : Nat) : Int)) (zI (t + thg k s P)) = some (b, upd seats (P + 1) u, upd nexts (P + 1) v, upd aheads (P + 1) w) ∧ (b = true ↔ (s + 1 - (P + 1) < P + 1 → ¬ Gh k s ((s + 1 - (P + 1) : Nat) : Int) → Han Λ (t + thg k s P) (t + thg k s (s - (P + 1))))) := by
  have ew : (zI s + 1) - zI ((P + 1 : Nat) : Int) = zI ((s + 1 - (P + 1) : Nat) : Int) := by rw [zl_1, zI_add, zI_sub]; congr 1; omega
  have tb := thg_b k s P
  have h30 := hB.2.1
  unfold F_X1_layPlace_b182
  rw [ew]
  have l1 : ¬ zI ((s + 1 - (P + 1) : Nat) : Int) < 1 := by simp (disch := omega) only [zl_0, zl_1, zl_2, zl_3, zl_4, zl_5, zl_6, zl_7, zl_8, zl_9, zl_10, zl_11, zl_12, zl_13, zl_14, zl_15, zl_16, zl_17, zl_18, zl_19, zl_20, zl_21, zl_22, zl_23, zl_24, zl_25, zl_26, zl_27, zl_28, zl_29, zl_30, zl_31, zl_32, zl_33, zl_34, zl_35, zl_36, zl_37, zl_38, zl_39, zl_40, zl_41, zl_42, zl_43, zl_44, zl_45, zl_46, zl_47, zl_48, zl_49, zl_50, zl_51, zl_52, zl_53, zl_54, zl_55, zl_56, zl_57, zl_58, zl_59, zl_60, zl_61, zl_62, zl_63, zl_64, zl_65, zl_66, zl_80, zl_97, zl_99, zl_103, zl_107, zl_112, zl_115, zl_100, zl_180, zl_210, zl_238, zl_255, zl_256, zl_400, zl_1000, zl_1024, zl_1260, zl_2000, zl_7140, zl_7200, zl_18414, zl_65536, zl_131072, zl_9999, zl_999, zI_add, zI_sub, zI_mul, zI_neg, zI_lt, zI_le, zI_eq, zI_clamp, ck_z, ckp_z, qb_z, qb_z0, Option.bind_some]; omega
  rw [if_neg l1]
  by_cases c : P + 1 ≤ s + 1 - (P + 1)
  · have l2 : zI ((P + 1 : Nat) : Int) ≤ zI ((s + 1 - (P + 1) : Nat) : Int) := by simp (disch := omega) only [zl_0, zl_1, zl_2, zl_3, zl_4, zl_5, zl_6, zl_7, zl_8, zl_9, zl_10, zl_11, zl_12, zl_13, zl_14, zl_15, zl_16, zl_17, zl_18, zl_19, zl_20, zl_21, zl_22, zl_23, zl_24, zl_25, zl_26, zl_27, zl_28, zl_29, zl_30, zl_31, zl_32, zl_33, zl_34, zl_35, zl_36, zl_37, zl_38, zl_39, zl_40, zl_41, zl_42, zl_43, zl_44, zl_45, zl_46, zl_47, zl_48, zl_49, zl_50, zl_51, zl_52, zl_53, zl_54, zl_55, zl_56, zl_57, zl_58, zl_59, zl_60, zl_61, zl_62, zl_63, zl_64, zl_65, zl_66, zl_80, zl_97, zl_99, zl_103, zl_107, zl_112, zl_115, zl_100, zl_180, zl_210, zl_238, zl_255, zl_256, zl_400, zl_1000, zl_1024, zl_1260, zl_2000, zl_7140, zl_7200, zl_18414, zl_65536, zl_131072, zl_9999, zl_999, zI_add, zI_sub, zI_mul, zI_neg, zI_lt, zI_le, zI_eq, zI_clamp, ck_z, ckp_z, qb_z, qb_z0, Option.bind_some]; omega
    rw [if_pos l2]
    exact ⟨true, rfl, fun _ x => by omega, fun _ => rfl⟩
  · have l2 : ¬ zI ((P + 1 : Nat) : Int) ≤ zI ((s + 1 - (P + 1) : Nat) : Int) := by simp (disch := omega) only [zl_0, zl_1, zl_2, zl_3, zl_4, zl_5, zl_6, zl_7, zl_8, zl_9, zl_10, zl_11, zl_12, zl_13, zl_14, zl_15, zl_16, zl_17, zl_18, zl_19, zl_20, zl_21, zl_22, zl_23, zl_24, zl_25, zl_26, zl_27, zl_28, zl_29, zl_30, zl_31, zl_32, zl_33, zl_34, zl_35, zl_36, zl_37, zl_38, zl_39, zl_40, zl_41, zl_42, zl_43, zl_44, zl_45, zl_46, zl_47, zl_48, zl_49, zl_50, zl_51, zl_52, zl_53, zl_54, zl_55, zl_56, zl_57, zl_58, zl_59, zl_60, zl_61, zl_62, zl_63, zl_64, zl_65, zl_66, zl_80, zl_97, zl_99, zl_103, zl_107, zl_112, zl_115, zl_100, zl_180, zl_210, zl_238, zl_255, zl_256, zl_400, zl_1000, zl_1024, zl_1260, zl_2000, zl_7140, zl_7200, zl_18414, zl_65536, zl_131072, zl_9999, zl_999, zI_add, zI_sub, zI_mul, zI_neg, zI_lt, zI_le, zI_eq, zI_clamp, ck_z, ckp_z, qb_z, qb_z0, Option.bind_some]; omega
    have clr : (zI ((s + 1 - (P + 1) : Nat) : Int)).toNatClampNeg = s + 1 - (P + 1) := by rw [zI_clamp (by omega) (by omega)]; omega
    have es := (h.2.2 (s + 1 - (P + 1)) (by omega) (by omega)).1
    rw [if_neg l2, ck_z (by omega) (by omega) (by omega), clr, upd_ne _ _ (by omega), es]
    have em : s + 1 - (P + 1) - 1 = s - (P + 1) := by omega
    have tb2 := thg_b k s (s - (P + 1))
    have tl := (thg_le k s (show s - (P + 1) ≤ P by omega)).1
    have mh (b : Int) (b0 : -2 ≤ b) (b1 : b < bkH Λ) := mayHang_z (waters := waters) (sides := sides) hB (fun h h0 h1 => ⟨(hT h h0 h1).2.2.1, (hT h h0 h1).2.2.2.1⟩) (t + thg k s P) b (by omega) hlt b0 b1
    rw [em]
    by_cases gr : Gh k s ((s + 1 - (P + 1) : Nat) : Int)
    · rw [if_pos gr, mh (-2) (by omega) (by omega), Option.bind_some, decide_eq_true (Or.inl (by omega)), if_neg (by decide)]
      exact ⟨true, rfl, fun _ _ x => absurd gr x, fun _ => rfl⟩
    · rw [if_neg gr, mh _ (by omega) (by omega), Option.bind_some]
      by_cases z : Han Λ (t + thg k s P) (t + thg k s (s - (P + 1)))
      · rw [decide_eq_true (Or.inr z), if_neg (by decide)]
        exact ⟨true, rfl, fun _ _ _ => z, fun _ => rfl⟩
      · rw [decide_eq_false (fun x => by rcases x with x | x; omega; exact z x), if_pos (by rfl)]
        exact ⟨false, rfl, fun x => absurd x (by decide), fun x => absurd (x (by omega) gr) z⟩
theorem layPlace_z (hB : BkW Λ) (hT : TbC Λ σ τ numbers spots waters sides ties) (t0 : 0 ≤ t) (t1 : t ≤ 30) (hs : s ≤ 8) (hk : k < 256) (hP : P + 1 ≤ s) (h : PfA Λ σ τ t s k P seats nexts aheads) : ∃ b se ne ah, F_X1_layPlace (zI (bkH Λ)) numbers spots waters sides ties (zI (bkG Λ)) (zI t) seats nexts aheads (zI s) (nI k) (zI ((P + 1 : Nat) : Int)) = some (b, se, ne, ah) ∧ ((b = true ∧ PfA Λ σ τ t s k (P + 1) se ne ah) ∨ (b = false ∧ ¬ LyP Λ σ τ t s k (P + 1) ∧ PfA Λ σ τ t s k P se ne ah)) := by
  have tb := thg_b k s P
  obtain ⟨_, h30, _, _, g0, g1, _⟩ := id hB
  obtain ⟨en, ea⟩ := PfA_n h
  have ab := ahc_b hT t0 P (fun r r1 r2 => (h.2.2 r r1 r2).2.2.2)
  have psub : P + 1 - 1 = P := by omega
  have e1 : zI ((P + 1 : Nat) : Int) - 1 = zI (P : Int) := by rw [zl_1, zI_sub]; congr 1; omega
  have cz {α : Type} (o : Option α) : ck (inb (zI ((P + 1 : Nat) : Int)) 9) o = o := ck_z (by omega) (by omega) (by omega)
  have cz1 {α : Type} (o : Option α) : ck (inb (zI (P : Int)) 9) o = o := ck_z (by omega) (by omega) (by omega)
  have clz : (zI ((P + 1 : Nat) : Int)).toNatClampNeg = P + 1 := by rw [zI_clamp (by omega) (by omega)]; omega
  have clz1 : (zI (P : Int)).toNatClampNeg = P := by rw [zI_clamp (by omega) (by omega)]; omega
  have l1 : ¬ zI ((P + 1 : Nat) : Int) < 1 := by simp (disch := omega) only [zl_0, zl_1, zl_2, zl_3, zl_4, zl_5, zl_6, zl_7, zl_8, zl_9, zl_10, zl_11, zl_12, zl_13, zl_14, zl_15, zl_16, zl_17, zl_18, zl_19, zl_20, zl_21, zl_22, zl_23, zl_24, zl_25, zl_26, zl_27, zl_28, zl_29, zl_30, zl_31, zl_32, zl_33, zl_34, zl_35, zl_36, zl_37, zl_38, zl_39, zl_40, zl_41, zl_42, zl_43, zl_44, zl_45, zl_46, zl_47, zl_48, zl_49, zl_50, zl_51, zl_52, zl_53, zl_54, zl_55, zl_56, zl_57, zl_58, zl_59, zl_60, zl_61, zl_62, zl_63, zl_64, zl_65, zl_66, zl_80, zl_97, zl_99, zl_103, zl_107, zl_112, zl_115, zl_100, zl_180, zl_210, zl_238, zl_255, zl_256, zl_400, zl_1000, zl_1024, zl_1260, zl_2000, zl_7140, zl_7200, zl_18414, zl_65536, zl_131072, zl_9999, zl_999, zI_add, zI_sub, zI_mul, zI_neg, zI_lt, zI_le, zI_eq, zI_clamp, ck_z, ckp_z, qb_z, qb_z0, Option.bind_some]; omega
  have l2 : zI ((P + 1 : Nat) : Int) ≤ 8 := by simp (disch := omega) only [zl_0, zl_1, zl_2, zl_3, zl_4, zl_5, zl_6, zl_7, zl_8, zl_9, zl_10, zl_11, zl_12, zl_13, zl_14, zl_15, zl_16, zl_17, zl_18, zl_19, zl_20, zl_21, zl_22, zl_23, zl_24, zl_25, zl_26, zl_27, zl_28, zl_29, zl_30, zl_31, zl_32, zl_33, zl_34, zl_35, zl_36, zl_37, zl_38, zl_39, zl_40, zl_41, zl_42, zl_43, zl_44, zl_45, zl_46, zl_47, zl_48, zl_49, zl_50, zl_51, zl_52, zl_53, zl_54, zl_55, zl_56, zl_57, zl_58, zl_59, zl_60, zl_61, zl_62, zl_63, zl_64, zl_65, zl_66, zl_80, zl_97, zl_99, zl_103, zl_107, zl_112, zl_115, zl_100, zl_180, zl_210, zl_238, zl_255, zl_256, zl_400, zl_1000, zl_1024, zl_1260, zl_2000, zl_7140, zl_7200, zl_18414, zl_65536, zl_131072, zl_9999, zl_999, zI_add, zI_sub, zI_mul, zI_neg, zI_lt, zI_le, zI_eq, zI_clamp, ck_z, ckp_z, qb_z, qb_z0, Option.bind_some]; omega
  have eg := isGhost_z k s ((P + 1 : Nat) : Int) hk hs (by omega) (by omega)
  unfold F_X1_layPlace
  rw [if_neg l1, if_pos l2, e1, eg, Option.bind_some]
  simp only [cz, cz1, clz, clz1, en, ea, upd_at]
  by_cases g : Gh k s ((P + 1 : Nat) : Int)
  · have et := thg_g (p := P + 1) (by omega) g
    rw [psub] at et
    rw [decide_eq_true g, if_neg (by decide)]
    have ex : zI ((P + 1 : Nat) : Int) - (zI (t + thg k s P) - zI t) = zI (((P + 1 : Nat) : Int) - thg k s P) := by rw [zI_sub, zI_sub]; congr 1; omega
    rw [ex]
    by_cases c : ((P + 1 : Nat) : Int) - thg k s P ≤ 4
    · have l3 : ¬ 4 < zI (((P + 1 : Nat) : Int) - thg k s P) := by simp (disch := omega) only [zl_0, zl_1, zl_2, zl_3, zl_4, zl_5, zl_6, zl_7, zl_8, zl_9, zl_10, zl_11, zl_12, zl_13, zl_14, zl_15, zl_16, zl_17, zl_18, zl_19, zl_20, zl_21, zl_22, zl_23, zl_24, zl_25, zl_26, zl_27, zl_28, zl_29, zl_30, zl_31, zl_32, zl_33, zl_34, zl_35, zl_36, zl_37, zl_38, zl_39, zl_40, zl_41, zl_42, zl_43, zl_44, zl_45, zl_46, zl_47, zl_48, zl_49, zl_50, zl_51, zl_52, zl_53, zl_54, zl_55, zl_56, zl_57, zl_58, zl_59, zl_60, zl_61, zl_62, zl_63, zl_64, zl_65, zl_66, zl_80, zl_97, zl_99, zl_103, zl_107, zl_112, zl_115, zl_100, zl_180, zl_210, zl_238, zl_255, zl_256, zl_400, zl_1000, zl_1024, zl_1260, zl_2000, zl_7140, zl_7200, zl_18414, zl_65536, zl_131072, zl_9999, zl_999, zI_add, zI_sub, zI_mul, zI_neg, zI_lt, zI_le, zI_eq, zI_clamp, ck_z, ckp_z, qb_z, qb_z0, Option.bind_some]; omega
      rw [if_neg l3]
      refine ⟨true, _, _, _, rfl, Or.inl ⟨rfl, PfA_ext h _ _ _ ?_ ?_ ?_ ⟨fun _ => by rw [et]; exact c, fun x => absurd g x⟩⟩⟩
      · rw [if_pos g]; rfl
      · rw [et]
      · rw [ahc, if_pos g]
    · have l3 : 4 < zI (((P + 1 : Nat) : Int) - thg k s P) := by simp (disch := omega) only [zl_0, zl_1, zl_2, zl_3, zl_4, zl_5, zl_6, zl_7, zl_8, zl_9, zl_10, zl_11, zl_12, zl_13, zl_14, zl_15, zl_16, zl_17, zl_18, zl_19, zl_20, zl_21, zl_22, zl_23, zl_24, zl_25, zl_26, zl_27, zl_28, zl_29, zl_30, zl_31, zl_32, zl_33, zl_34, zl_35, zl_36, zl_37, zl_38, zl_39, zl_40, zl_41, zl_42, zl_43, zl_44, zl_45, zl_46, zl_47, zl_48, zl_49, zl_50, zl_51, zl_52, zl_53, zl_54, zl_55, zl_56, zl_57, zl_58, zl_59, zl_60, zl_61, zl_62, zl_63, zl_64, zl_65, zl_66, zl_80, zl_97, zl_99, zl_103, zl_107, zl_112, zl_115, zl_100, zl_180, zl_210, zl_238, zl_255, zl_256, zl_400, zl_1000, zl_1024, zl_1260, zl_2000, zl_7140, zl_7200, zl_18414, zl_65536, zl_131072, zl_9999, zl_999, zI_add, zI_sub, zI_mul, zI_neg, zI_lt, zI_le, zI_eq, zI_clamp, ck_z, ckp_z, qb_z, qb_z0, Option.bind_some]; omega
      rw [if_pos l3]
      exact ⟨false, _, _, _, rfl, Or.inr ⟨rfl, fun x => c (by have := x.1 g; rw [et] at this; exact this), PfA_keep h _ _ _⟩⟩
  · have et := thg_t (p := P + 1) (by omega) g
    rw [psub] at et
    have e2 : zI (t + thg k s P) + 1 = zI (t + thg k s (P + 1)) := by rw [zl_1, zI_add, et]; congr 1; omega
    have eby := aheadBy_z (spots := spots) hB.1 h30 σ (fun h h0 h1 => ⟨(hT h h0 h1).2.1, (hT h h0 h1).2.2.2.2.2.1, (hT h h0 h1).2.2.2.2.2.2.1⟩) (t + thg k s P) ((P + 1 : Nat) : Int) (by omega) (by omega) (by omega) (by omega)
    have emb := mayBeAt_z (numbers := numbers) hB.1 h30 (bkM Λ 1) (bkG Λ) ⟨g0, g1⟩ (fun h h0 h1 => ⟨(hT h h0 h1).1, ((hB.2.2.2.2.2.2.2.2.2.2 h h0 h1).1 1 (by omega)).1, ((hB.2.2.2.2.2.2.2.2.2.2 h h0 h1).1 1 (by omega)).2⟩) (t + thg k s P) ((P + 1 : Nat) : Int) (by omega) (by omega) (by omega) (by omega)
    have ecl := clashes_z (ties := ties) hB.1 h30 τ (fun h h0 h1 => ⟨(hT h h0 h1).2.2.2.2.1, (hT h h0 h1).2.2.2.2.2.2.2.1, (hT h h0 h1).2.2.2.2.2.2.2.2⟩) (t + thg k s P) (by omega) (by omega)
    rw [decide_eq_false g, if_pos (by rfl), eby, Option.bind_some, emb, e2]
    -- what lies ahead
    have abb : -2 ≤ (if t + thg k s P < bkH Λ then abh (σ (t + thg k s P)) ((P + 1 : Nat) : Int) else -1) ∧ (if t + thg k s P < bkH Λ then abh (σ (t + thg k s P)) ((P + 1 : Nat) : Int) else -1) ≤ 9999 := by
      by_cases c : t + thg k s P < bkH Λ
      · rw [if_pos c]
        have sb := hT (t + thg k s P) (by omega) c
        exact abh_b ⟨sb.2.2.2.2.2.1, sb.2.2.2.2.2.2.1⟩ (by omega)
      · rw [if_neg c]; omega
    rw [together_z ab abb, Option.bind_some, Option.bind_some]
    have lyi : LyP Λ σ τ t s k (P + 1) ↔ (t + thg k s P < bkH Λ ∧ (bkM Λ 1 (t + thg k s P) = 0 ∨ (bkM Λ 1 (t + thg k s P) = ((P + 1 : Nat) : Int) ∧ ((P + 1 : Nat) : Int) ≤ bkG Λ)) ∧ ahc σ t k s (P + 1) ≠ -2 ∧ (1 < P + 1 → ¬ Gh k s ((P : Nat) : Int) → τ (t + thg k s P) ≠ 2) ∧ (s + 1 - (P + 1) < P + 1 → ¬ Gh k s ((s + 1 - (P + 1) : Nat) : Int) → Han Λ (t + thg k s P) (t + thg k s (s - (P + 1))))) := by
      unfold LyP
      rw [psub]
      exact ⟨fun x => x.2 g, fun x => ⟨fun y => absurd y g, fun _ => x⟩⟩
    by_cases c : t + thg k s P < bkH Λ
    · rw [if_pos c] at abb ⊢
      have ehc : tog (ahc σ t k s P) (abh (σ (t + thg k s P)) ((P + 1 : Nat) : Int)) = ahc σ t k s (P + 1) := by rw [ahc, if_neg g]
      rw [ehc]
      have ahb : -2 ≤ ahc σ t k s (P + 1) ∧ ahc σ t k s (P + 1) ≤ 9999 := by rw [← ehc]; exact tog_b ab abb
      by_cases c2 : ahc σ t k s (P + 1) = -2
      · have q : zI (ahc σ t k s (P + 1)) = -2 := by rw [c2]; rfl
        rw [if_pos q]
        exact ⟨false, _, _, _, rfl, Or.inr ⟨rfl, fun x => (lyi.mp x).2.2.1 c2, PfA_keep h _ _ _⟩⟩
      · have q : ¬ zI (ahc σ t k s (P + 1)) = -2 := by simp (disch := omega) only [zl_0, zl_1, zl_2, zl_3, zl_4, zl_5, zl_6, zl_7, zl_8, zl_9, zl_10, zl_11, zl_12, zl_13, zl_14, zl_15, zl_16, zl_17, zl_18, zl_19, zl_20, zl_21, zl_22, zl_23, zl_24, zl_25, zl_26, zl_27, zl_28, zl_29, zl_30, zl_31, zl_32, zl_33, zl_34, zl_35, zl_36, zl_37, zl_38, zl_39, zl_40, zl_41, zl_42, zl_43, zl_44, zl_45, zl_46, zl_47, zl_48, zl_49, zl_50, zl_51, zl_52, zl_53, zl_54, zl_55, zl_56, zl_57, zl_58, zl_59, zl_60, zl_61, zl_62, zl_63, zl_64, zl_65, zl_66, zl_80, zl_97, zl_99, zl_103, zl_107, zl_112, zl_115, zl_100, zl_180, zl_210, zl_238, zl_255, zl_256, zl_400, zl_1000, zl_1024, zl_1260, zl_2000, zl_7140, zl_7200, zl_18414, zl_65536, zl_131072, zl_9999, zl_999, zI_add, zI_sub, zI_mul, zI_neg, zI_lt, zI_le, zI_eq, zI_clamp, ck_z, ckp_z, qb_z, qb_z0, Option.bind_some]; exact c2
        rw [if_neg q]
        by_cases c3 : t + thg k s P < bkH Λ ∧ (bkM Λ 1 (t + thg k s P) = 0 ∨ (bkM Λ 1 (t + thg k s P) = ((P + 1 : Nat) : Int) ∧ ((P + 1 : Nat) : Int) ≤ bkG Λ))
        · rw [decide_eq_true c3, if_neg (by decide)]
          obtain ⟨b, eb, hb⟩ := lp_b182_z (seats := seats) (nexts := nexts) (aheads := aheads) hB hT t0 hs hP h g c (zI (t + thg k s P)) (zI (t + thg k s (P + 1))) (zI (ahc σ t k s (P + 1)))
          have fin (hcl : 1 < P + 1 → ¬ Gh k s ((P : Nat) : Int) → τ (t + thg k s P) ≠ 2) : ∃ b se ne ah, F_X1_layPlace_b182 (zI (bkH Λ)) waters sides (zI s) (upd seats (P + 1) (zI (t + thg k s P))) (upd nexts (P + 1) (zI (t + thg k s (P + 1)))) (upd aheads (P + 1) (zI (ahc σ t k s (P + 1)))) (zI ((P + 1 : Nat) : Int)) (zI (t + thg k s P)) = some (b, se, ne, ah) ∧ ((b = true ∧ PfA Λ σ τ t s k (P + 1) se ne ah) ∨ (b = false ∧ ¬ LyP Λ σ τ t s k (P + 1) ∧ PfA Λ σ τ t s k P se ne ah)) := by
            refine ⟨b, _, _, _, eb, ?_⟩
            cases b
            · exact Or.inr ⟨rfl, fun x => absurd (hb.mpr (lyi.mp x).2.2.2.2) (by decide), PfA_keep h _ _ _⟩
            · exact Or.inl ⟨rfl, PfA_ext h _ _ _ (by rw [if_neg g]) rfl rfl (lyi.mpr ⟨c, c3.2, c2, hcl, hb.mp rfl⟩)⟩
          by_cases o : P = 0
          · have l3 : zI ((P + 1 : Nat) : Int) ≤ 1 := by simp (disch := omega) only [zl_0, zl_1, zl_2, zl_3, zl_4, zl_5, zl_6, zl_7, zl_8, zl_9, zl_10, zl_11, zl_12, zl_13, zl_14, zl_15, zl_16, zl_17, zl_18, zl_19, zl_20, zl_21, zl_22, zl_23, zl_24, zl_25, zl_26, zl_27, zl_28, zl_29, zl_30, zl_31, zl_32, zl_33, zl_34, zl_35, zl_36, zl_37, zl_38, zl_39, zl_40, zl_41, zl_42, zl_43, zl_44, zl_45, zl_46, zl_47, zl_48, zl_49, zl_50, zl_51, zl_52, zl_53, zl_54, zl_55, zl_56, zl_57, zl_58, zl_59, zl_60, zl_61, zl_62, zl_63, zl_64, zl_65, zl_66, zl_80, zl_97, zl_99, zl_103, zl_107, zl_112, zl_115, zl_100, zl_180, zl_210, zl_238, zl_255, zl_256, zl_400, zl_1000, zl_1024, zl_1260, zl_2000, zl_7140, zl_7200, zl_18414, zl_65536, zl_131072, zl_9999, zl_999, zI_add, zI_sub, zI_mul, zI_neg, zI_lt, zI_le, zI_eq, zI_clamp, ck_z, ckp_z, qb_z, qb_z0, Option.bind_some]; omega
            rw [if_pos l3]
            exact fin (fun x => by omega)
          · have l3 : ¬ zI ((P + 1 : Nat) : Int) ≤ 1 := by simp (disch := omega) only [zl_0, zl_1, zl_2, zl_3, zl_4, zl_5, zl_6, zl_7, zl_8, zl_9, zl_10, zl_11, zl_12, zl_13, zl_14, zl_15, zl_16, zl_17, zl_18, zl_19, zl_20, zl_21, zl_22, zl_23, zl_24, zl_25, zl_26, zl_27, zl_28, zl_29, zl_30, zl_31, zl_32, zl_33, zl_34, zl_35, zl_36, zl_37, zl_38, zl_39, zl_40, zl_41, zl_42, zl_43, zl_44, zl_45, zl_46, zl_47, zl_48, zl_49, zl_50, zl_51, zl_52, zl_53, zl_54, zl_55, zl_56, zl_57, zl_58, zl_59, zl_60, zl_61, zl_62, zl_63, zl_64, zl_65, zl_66, zl_80, zl_97, zl_99, zl_103, zl_107, zl_112, zl_115, zl_100, zl_180, zl_210, zl_238, zl_255, zl_256, zl_400, zl_1000, zl_1024, zl_1260, zl_2000, zl_7140, zl_7200, zl_18414, zl_65536, zl_131072, zl_9999, zl_999, zI_add, zI_sub, zI_mul, zI_neg, zI_lt, zI_le, zI_eq, zI_clamp, ck_z, ckp_z, qb_z, qb_z0, Option.bind_some]; omega
            have es := (h.2.2 P (by omega) (Nat.le_refl _)).1
            rw [if_neg l3, upd_ne _ _ (by omega), es]
            by_cases gp : Gh k s ((P : Nat) : Int)
            · rw [if_pos gp, if_pos (by rfl)]
              exact fin (fun _ x => absurd gp x)
            · have tb2 := thg_b k s (P - 1)
              have q2 : ¬ zI (t + thg k s (P - 1)) = -2 := by simp (disch := omega) only [zl_0, zl_1, zl_2, zl_3, zl_4, zl_5, zl_6, zl_7, zl_8, zl_9, zl_10, zl_11, zl_12, zl_13, zl_14, zl_15, zl_16, zl_17, zl_18, zl_19, zl_20, zl_21, zl_22, zl_23, zl_24, zl_25, zl_26, zl_27, zl_28, zl_29, zl_30, zl_31, zl_32, zl_33, zl_34, zl_35, zl_36, zl_37, zl_38, zl_39, zl_40, zl_41, zl_42, zl_43, zl_44, zl_45, zl_46, zl_47, zl_48, zl_49, zl_50, zl_51, zl_52, zl_53, zl_54, zl_55, zl_56, zl_57, zl_58, zl_59, zl_60, zl_61, zl_62, zl_63, zl_64, zl_65, zl_66, zl_80, zl_97, zl_99, zl_103, zl_107, zl_112, zl_115, zl_100, zl_180, zl_210, zl_238, zl_255, zl_256, zl_400, zl_1000, zl_1024, zl_1260, zl_2000, zl_7140, zl_7200, zl_18414, zl_65536, zl_131072, zl_9999, zl_999, zI_add, zI_sub, zI_mul, zI_neg, zI_lt, zI_le, zI_eq, zI_clamp, ck_z, ckp_z, qb_z, qb_z0, Option.bind_some]; omega
              rw [if_neg gp, if_neg q2, ecl, Option.bind_some]
              by_cases z : τ (t + thg k s P) = 2
              · rw [decide_eq_true ⟨c, z⟩, if_neg (by decide)]
                exact ⟨false, _, _, _, rfl, Or.inr ⟨rfl, fun x => (lyi.mp x).2.2.2.1 (by omega) gp z, PfA_keep h _ _ _⟩⟩
              · rw [decide_eq_false (fun x => z x.2), if_pos (by rfl)]
                exact fin (fun _ _ => z)
        · rw [decide_eq_false c3, if_pos (by rfl)]
          exact ⟨false, _, _, _, rfl, Or.inr ⟨rfl, fun x => c3 ⟨(lyi.mp x).1, (lyi.mp x).2.1⟩, PfA_keep h _ _ _⟩⟩
    · have hn : ¬ LyP Λ σ τ t s k (P + 1) := fun x => c (lyi.mp x).1
      rw [decide_eq_false (fun x => c x.1), if_pos (show qb false = 0 from rfl), ite_self]
      exact ⟨false, _, _, _, rfl, Or.inr ⟨rfl, hn, PfA_keep h _ _ _⟩⟩
end LP

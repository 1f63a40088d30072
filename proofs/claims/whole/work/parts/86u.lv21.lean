def FwS (Λ : Book) (q : Nat) (D : Int → Int → Int → Prop) (q' : Nat) (t half last : Int) : Prop := (q' ≤ q ∧ Mt Λ q' t half last) ∨ (q' = q + 1 ∧ ∃ t0 h0 l0 x, D t0 h0 l0 ∧ Mt Λ q t0 h0 l0 ∧ t0 < bkH Λ ∧ x ∈ lyM Λ q t0 h0 l0 ∧ t = xt t0 x ∧ half = xh h0 x ∧ last = enl x.2)
def FwI (Λ : Book) (met : NF) (q : Nat) (D : Int → Int → Int → Prop) : Prop := ∀ (q' : Nat) (t half last : Int), q' ≤ 8 → 0 ≤ t → t ≤ 30 → 0 ≤ half → half ≤ 32 → (last = 0 ∨ last = 1) → (FwS Λ q D q' t half last → met (stn q' t half last).toNat = 1) ∧ (¬ FwS Λ q D q' t half last → met (stn q' t half last).toNat = 0)
def Dl (t half last a b c : Int) : Prop := a < t ∨ (a = t ∧ (b < half ∨ (b = half ∧ c < last)))
section FW
variable {Λ : Book} {met : NF}
theorem FwS_cg {q : Nat} {D E : Int → Int → Int → Prop} (h : ∀ a b c, Mt Λ q a b c → a < bkH Λ → (D a b c ↔ E a b c)) {q' : Nat} {t half last : Int} : FwS Λ q D q' t half last ↔ FwS Λ q E q' t half last := by
  unfold FwS
  constructor
  · rintro (w | ⟨e, t0, h0, l0, x, d, m, lt, r⟩)
    · exact Or.inl w
    · exact Or.inr ⟨e, t0, h0, l0, x, (h _ _ _ m lt).mp d, m, lt, r⟩
  · rintro (w | ⟨e, t0, h0, l0, x, d, m, lt, r⟩)
    · exact Or.inl w
    · exact Or.inr ⟨e, t0, h0, l0, x, (h _ _ _ m lt).mpr d, m, lt, r⟩
theorem FwI_cg {q : Nat} {D E : Int → Int → Int → Prop} (h : ∀ a b c, Mt Λ q a b c → a < bkH Λ → (D a b c ↔ E a b c)) (w : FwI Λ met q D) : FwI Λ met q E := by
  intro q' t half last h1 h2 h3 h4 h5 h6
  have := w q' t half last h1 h2 h3 h4 h5 h6
  rw [FwS_cg h] at this
  exact this
theorem FwI_st (hB : BkW Λ) {q : Nat} (hq : q < 8) {D : Int → Int → Int → Prop} {t0 h0 l0 : Int} (hm : Mt Λ q t0 h0 l0) (hlt : t0 < bkH Λ) (w : FwI Λ met q D) : FwI Λ ((lyM Λ q t0 h0 l0).foldl (spr1 q t0 h0) met) q (fun a b c => D a b c ∨ (a = t0 ∧ b = h0 ∧ c = l0)) := by
  intro q' t half last i1 i2 i3 i4 i5 i6
  obtain ⟨s1, s2⟩ := spr_at (q := q) (t := t0) (half := h0) (stn q' t half last).toNat (lyM Λ q t0 h0 l0) met
  obtain ⟨w1, w2⟩ := w q' t half last i1 i2 i3 i4 i5 i6
  obtain ⟨m1, m2, m3, m4, m5, m6, m7, m8⟩ := Mt_b hB q t0 h0 l0 hm
  have h30 := hB.2.1
  by_cases c : ∃ x, x ∈ lyM Λ q t0 h0 l0 ∧ (stn ((q : Int) + 1) (xt t0 x) (xh h0 x) (enl x.2)).toNat = (stn q' t half last).toNat
  · refine ⟨fun _ => s1 c, fun n => absurd ?_ n⟩
    obtain ⟨x, x1, x2⟩ := c
    obtain ⟨b1, b2, b3, c1, c2, c3, _⟩ := lyM_mem.mp x1
    have tb := thg_b x.2 x.1 x.1
    have xtb : 0 ≤ xt t0 x ∧ xt t0 x ≤ 30 := by unfold xt; omega
    have xhb : 0 ≤ xh h0 x ∧ xh h0 x ≤ 32 := by unfold xh; omega
    have sb1 := stn_b (q := (q : Int) + 1) (by omega) (by omega) xtb.1 xtb.2 xhb.1 xhb.2 (enl_b x.2)
    have sb2 := stn_b (q := (q' : Int)) (by omega) (by omega) i2 i3 i4 i5 i6
    have e : stn ((q : Int) + 1) (xt t0 x) (xh h0 x) (enl x.2) = stn q' t half last := by omega
    obtain ⟨e1, e2, e3, e4⟩ := stn_inj xtb.1 xtb.2 xhb.1 xhb.2 (enl_b x.2) i2 i3 i4 i5 i6 e
    exact Or.inr ⟨by omega, t0, h0, l0, x, Or.inr ⟨rfl, rfl, rfl⟩, hm, hlt, x1, e2.symm, e3.symm, e4.symm⟩
  · rw [s2 c]
    have iff : FwS Λ q (fun a b c => D a b c ∨ (a = t0 ∧ b = h0 ∧ c = l0)) q' t half last ↔ FwS Λ q D q' t half last := by
      constructor
      · rintro (x | ⟨e, a, b, l, x, d, m, lt, x1, e1, e2, e3⟩)
        · exact Or.inl x
        · rcases d with d | ⟨rfl, rfl, rfl⟩
          · exact Or.inr ⟨e, a, b, l, x, d, m, lt, x1, e1, e2, e3⟩
          · refine absurd ⟨x, x1, ?_⟩ c
            rw [e, e1, e2, e3]
            rfl
      · rintro (x | ⟨e, a, b, l, x, d, r⟩)
        · exact Or.inl x
        · exact Or.inr ⟨e, a, b, l, x, Or.inl d, r⟩
    rw [iff]
    exact ⟨w1, w2⟩
theorem FwI_nx {q : Nat} (w : FwI Λ met q (Dl (bkH Λ) 0 0)) (hB : BkW Λ) : FwI Λ met (q + 1) (Dl 0 0 0) := by
  intro q' t half last i1 i2 i3 i4 i5 i6
  have iff : FwS Λ (q + 1) (Dl 0 0 0) q' t half last ↔ FwS Λ q (Dl (bkH Λ) 0 0) q' t half last := by
    constructor
    · rintro (⟨a, b⟩ | ⟨e, a, b, l, x, d, m, _⟩)
      · by_cases c : q' ≤ q
        · exact Or.inl ⟨c, b⟩
        · have e : q' = q + 1 := by omega
          subst e
          obtain ⟨t0, h0, l0, x, m, lt, r⟩ := b
          exact Or.inr ⟨rfl, t0, h0, l0, x, Or.inl lt, m, lt, r⟩
      · exfalso
        obtain ⟨m1, m2, m3, m4, m5, m6, m7, m8⟩ := Mt_b hB _ _ _ _ m
        rcases d with d | ⟨d1, d2 | ⟨d2, d3⟩⟩
        · omega
        · omega
        · omega
    · rintro (⟨a, b⟩ | ⟨e, a, b, l, x, d, m, lt, r⟩)
      · exact Or.inl ⟨by omega, b⟩
      · refine Or.inl ⟨by omega, ?_⟩
        subst e
        exact ⟨a, b, l, x, m, lt, r⟩
  rw [iff]
  exact w q' t half last i1 i2 i3 i4 i5 i6
end FW
abbrev RGo : Type := Option (Int32 × Int32 × NF × NF × NF × NF × (Nat → Int64) × NF)
abbrev KG3 : Type := Int32 → Int32 → NF → NF → NF → NF → (Nat → Int64) → NF → Int32 → Int32 → Int32 → RGo
abbrev KG2 : Type := Int32 → Int32 → NF → NF → NF → NF → (Nat → Int64) → NF → Int32 → Int32 → RGo
abbrev KG1 : Type := Int32 → Int32 → NF → NF → NF → NF → (Nat → Int64) → NF → Int32 → RGo
section FL
variable {Λ : Book} {j : Int} {marks hangs cancels mz ms ml mp : NF} {ways : Nat → Int64} {few : NF}
theorem fw88 (hB : BkW Λ) (hL : LvM Λ marks hangs cancels) (hR : RuB Λ j mz ms ml mp) (KK : KG3) (q : Nat) (t half : Int) (hq : q < 8) (t0 : 0 ≤ t) (t1 : t < bkH Λ) (a0 : 0 ≤ half) (a1 : half ≤ 4 * q) : ∀ (d m l : Nat) (ein met : NF), l + d = 2 → d < m → FwI Λ met q (Dl t half l) → ∃ e' met', F_X8_goThrough_b88 marks mz ms ml mp KK m (zI j) (zI (bkH Λ)) hangs cancels ein met ways few (zI q) (zI t) (zI half) (zI l) = KK (zI j) (zI (bkH Λ)) hangs cancels e' met' ways few (zI q) (zI t) (zI (half + 1)) ∧ FwI Λ met' q (Dl t half 2)
  | 0, m + 1, l, ein, met, hl, _, hI => by
    have e : l = 2 := by omega
    subst e
    have ll : 2 ≤ zI ((2 : Nat) : Int) := by decide
    have eh : zI half + 1 = zI (half + 1) := by rw [zl_1, zI_add]
    rw [F_X8_goThrough_b88, if_pos ll, eh]
    exact ⟨ein, met, rfl, hI⟩
  | d + 1, m + 1, l, ein, met, hl, hm, hI => by
    have h30 := hB.2.1
    have ll : ¬ 2 ≤ zI (l : Int) := by simp (disch := omega) only [zl_0, zl_1, zl_2, zl_3, zl_4, zl_5, zl_6, zl_7, zl_8, zl_9, zl_10, zl_11, zl_12, zl_13, zl_14, zl_15, zl_16, zl_17, zl_18, zl_19, zl_20, zl_21, zl_22, zl_23, zl_24, zl_25, zl_26, zl_27, zl_28, zl_29, zl_30, zl_31, zl_32, zl_33, zl_34, zl_35, zl_36, zl_37, zl_38, zl_39, zl_40, zl_41, zl_42, zl_43, zl_44, zl_45, zl_46, zl_47, zl_48, zl_49, zl_50, zl_51, zl_52, zl_53, zl_54, zl_55, zl_56, zl_57, zl_58, zl_59, zl_60, zl_61, zl_62, zl_63, zl_64, zl_65, zl_66, zl_80, zl_97, zl_99, zl_103, zl_107, zl_112, zl_115, zl_100, zl_180, zl_210, zl_238, zl_255, zl_256, zl_400, zl_1000, zl_1024, zl_1260, zl_2000, zl_7140, zl_7200, zl_18414, zl_65536, zl_131072, zl_9999, zl_999, zI_add, zI_sub, zI_mul, zI_neg, zI_lt, zI_le, zI_eq, zI_clamp, ck_z, ckp_z, qb_z, qb_z0, Option.bind_some]; omega
    have el : zI (l : Int) + 1 = zI ((l + 1 : Nat) : Int) := by rw [zl_1, zI_add]; congr 1
    have hl2 : (l : Int) = 0 ∨ (l : Int) = 1 := by omega
    have sb := stn_b (q := (q : Int)) (t := t) (half := half) (last := (l : Int)) (by omega) (by omega) t0 (by omega) a0 (by omega) hl2
    obtain ⟨w1, w2⟩ := hI q t half l (by omega) t0 (by omega) a0 (by omega) hl2
    have dx : ∀ a b c, Mt Λ q a b c → a < bkH Λ → ((Dl t half (l : Int) a b c ∨ (a = t ∧ b = half ∧ c = (l : Int))) ↔ Dl t half ((l + 1 : Nat) : Int) a b c) := by
      intro a b c _ _
      unfold Dl
      omega
    rw [F_X8_goThrough_b88, if_neg ll, state_z, Option.bind_some, ck_z sb.1 sb.2 (by omega), zI_clamp (by omega) (by omega), el]
    by_cases c : Mt Λ q t half l
    · have e1 := w1 (Or.inl ⟨Nat.le_refl _, c⟩)
      obtain ⟨m1, m2, m3, m4, m5, m6, m7, m8⟩ := Mt_b hB q t half l c
      obtain ⟨e', he⟩ := spreads_z hB hL hR q t half l (by omega) (by omega) t0 (by omega) a0 (by omega) m5 ein met
      rw [e1, if_neg (by decide), he, Option.bind_some]
      exact fw88 hB hL hR KK q t half hq t0 t1 a0 a1 d m (l + 1) e' _ (by omega) (by omega) (FwI_cg dx (FwI_st hB hq c t1 hI))
    · have e1 := w2 (fun x => by
        rcases x with x | x
        · exact c x.2
        · omega)
      rw [e1, if_pos (by rfl)]
      refine fw88 hB hL hR KK q t half hq t0 t1 a0 a1 d m (l + 1) ein met (by omega) (by omega) (FwI_cg (fun a b c' mm lt => ?_) hI)
      rw [← dx a b c' mm lt]
      refine ⟨Or.inl, fun x => ?_⟩
      rcases x with x | ⟨rfl, rfl, rfl⟩
      · exact x
      · exact absurd mm c
theorem fw77 (hB : BkW Λ) (hL : LvM Λ marks hangs cancels) (hR : RuB Λ j mz ms ml mp) (KK : KG2) (q : Nat) (t : Int) (hq : q < 8) (t0 : 0 ≤ t) (t1 : t < bkH Λ) : ∀ (d m h : Nat) (ein met : NF), h + d = 4 * q + 1 → d < m → FwI Λ met q (Dl t h 0) → ∃ e' met', F_X8_goThrough_b77 marks mz ms ml mp KK m (zI j) (zI (bkH Λ)) hangs cancels ein met ways few (zI q) (zI t) (zI h) = KK (zI j) (zI (bkH Λ)) hangs cancels e' met' ways few (zI q) (zI (t + 1)) ∧ FwI Λ met' q (Dl (t + 1) 0 0)
  | 0, m + 1, h, ein, met, hh, _, hI => by
    have e4 : (4 : Int32) * zI (q : Int) = zI (4 * (q : Int)) := by rw [show (4 : Int32) = zI 4 from rfl, zI_mul]
    have ll : zI (4 * (q : Int)) < zI (h : Int) := by simp (disch := omega) only [zl_0, zl_1, zl_2, zl_3, zl_4, zl_5, zl_6, zl_7, zl_8, zl_9, zl_10, zl_11, zl_12, zl_13, zl_14, zl_15, zl_16, zl_17, zl_18, zl_19, zl_20, zl_21, zl_22, zl_23, zl_24, zl_25, zl_26, zl_27, zl_28, zl_29, zl_30, zl_31, zl_32, zl_33, zl_34, zl_35, zl_36, zl_37, zl_38, zl_39, zl_40, zl_41, zl_42, zl_43, zl_44, zl_45, zl_46, zl_47, zl_48, zl_49, zl_50, zl_51, zl_52, zl_53, zl_54, zl_55, zl_56, zl_57, zl_58, zl_59, zl_60, zl_61, zl_62, zl_63, zl_64, zl_65, zl_66, zl_80, zl_97, zl_99, zl_103, zl_107, zl_112, zl_115, zl_100, zl_180, zl_210, zl_238, zl_255, zl_256, zl_400, zl_1000, zl_1024, zl_1260, zl_2000, zl_7140, zl_7200, zl_18414, zl_65536, zl_131072, zl_9999, zl_999, zI_add, zI_sub, zI_mul, zI_neg, zI_lt, zI_le, zI_eq, zI_clamp, ck_z, ckp_z, qb_z, qb_z0, Option.bind_some]; omega
    have eh : zI t + 1 = zI (t + 1) := by rw [zl_1, zI_add]
    rw [F_X8_goThrough_b77, e4, if_pos ll, eh]
    refine ⟨ein, met, rfl, FwI_cg (fun a b c mm lt => ?_) hI⟩
    obtain ⟨m1, m2, m3, m4, m5, m6, m7, m8⟩ := Mt_b hB q a b c mm
    unfold Dl
    omega
  | d + 1, m + 1, h, ein, met, hh, hm, hI => by
    have e4 : (4 : Int32) * zI (q : Int) = zI (4 * (q : Int)) := by rw [show (4 : Int32) = zI 4 from rfl, zI_mul]
    have ll : ¬ zI (4 * (q : Int)) < zI (h : Int) := by simp (disch := omega) only [zl_0, zl_1, zl_2, zl_3, zl_4, zl_5, zl_6, zl_7, zl_8, zl_9, zl_10, zl_11, zl_12, zl_13, zl_14, zl_15, zl_16, zl_17, zl_18, zl_19, zl_20, zl_21, zl_22, zl_23, zl_24, zl_25, zl_26, zl_27, zl_28, zl_29, zl_30, zl_31, zl_32, zl_33, zl_34, zl_35, zl_36, zl_37, zl_38, zl_39, zl_40, zl_41, zl_42, zl_43, zl_44, zl_45, zl_46, zl_47, zl_48, zl_49, zl_50, zl_51, zl_52, zl_53, zl_54, zl_55, zl_56, zl_57, zl_58, zl_59, zl_60, zl_61, zl_62, zl_63, zl_64, zl_65, zl_66, zl_80, zl_97, zl_99, zl_103, zl_107, zl_112, zl_115, zl_100, zl_180, zl_210, zl_238, zl_255, zl_256, zl_400, zl_1000, zl_1024, zl_1260, zl_2000, zl_7140, zl_7200, zl_18414, zl_65536, zl_131072, zl_9999, zl_999, zI_add, zI_sub, zI_mul, zI_neg, zI_lt, zI_le, zI_eq, zI_clamp, ck_z, ckp_z, qb_z, qb_z0, Option.bind_some]; omega
    obtain ⟨K3, hK⟩ : ∃ K3 : KG3, K3 = fun m_asked m_hung m_hangs m_cancels m_in m_isMet m_ways m_fewest x2 x3 x4 => F_X8_goThrough_b77 marks mz ms ml mp KK m m_asked m_hung m_hangs m_cancels m_in m_isMet m_ways m_fewest x2 x3 x4 := ⟨_, rfl⟩
    rw [F_X8_goThrough_b77, e4, if_neg ll, ← hK]
    obtain ⟨e1, met1, r1, r2⟩ := fw88 (ways := ways) (few := few) hB hL hR K3 q t h hq t0 t1 (by omega) (by omega) 2 FU 0 ein met (by omega) (by unfold FU; omega) hI
    have r1' : F_X8_goThrough_b88 marks mz ms ml mp K3 FU (zI j) (zI (bkH Λ)) hangs cancels ein met ways few (zI q) (zI t) (zI h) 0 = K3 (zI j) (zI (bkH Λ)) hangs cancels e1 met1 ways few (zI q) (zI t) (zI ((h : Int) + 1)) := r1
    rw [r1', hK]
    have ec : ((h : Int) + 1) = ((h + 1 : Nat) : Int) := by omega
    rw [ec]
    refine fw77 hB hL hR KK q t hq t0 t1 d m (h + 1) e1 met1 (by omega) (by omega) (FwI_cg (fun a b c mm lt => ?_) r2)
    obtain ⟨m1, m2, m3, m4, m5, m6, m7, m8⟩ := Mt_b hB q a b c mm
    unfold Dl
    omega
theorem fw66 (hB : BkW Λ) (hL : LvM Λ marks hangs cancels) (hR : RuB Λ j mz ms ml mp) (KK : KG1) (q : Nat) (hq : q < 8) : ∀ (d m : Nat) (t : Int) (ein met : NF), 0 ≤ t → t + d = bkH Λ → d < m → FwI Λ met q (Dl t 0 0) → ∃ e' met', F_X8_goThrough_b66 marks mz ms ml mp KK m (zI j) (zI (bkH Λ)) hangs cancels ein met ways few (zI q) (zI t) = KK (zI j) (zI (bkH Λ)) hangs cancels e' met' ways few (zI ((q + 1 : Nat) : Int)) ∧ FwI Λ met' q (Dl (bkH Λ) 0 0)
  | 0, m + 1, t, ein, met, t0, hh, _, hI => by
    have h30 := hB.2.1
    have e : t = bkH Λ := by omega
    have ll : zI (bkH Λ) ≤ zI t := by simp (disch := omega) only [zl_0, zl_1, zl_2, zl_3, zl_4, zl_5, zl_6, zl_7, zl_8, zl_9, zl_10, zl_11, zl_12, zl_13, zl_14, zl_15, zl_16, zl_17, zl_18, zl_19, zl_20, zl_21, zl_22, zl_23, zl_24, zl_25, zl_26, zl_27, zl_28, zl_29, zl_30, zl_31, zl_32, zl_33, zl_34, zl_35, zl_36, zl_37, zl_38, zl_39, zl_40, zl_41, zl_42, zl_43, zl_44, zl_45, zl_46, zl_47, zl_48, zl_49, zl_50, zl_51, zl_52, zl_53, zl_54, zl_55, zl_56, zl_57, zl_58, zl_59, zl_60, zl_61, zl_62, zl_63, zl_64, zl_65, zl_66, zl_80, zl_97, zl_99, zl_103, zl_107, zl_112, zl_115, zl_100, zl_180, zl_210, zl_238, zl_255, zl_256, zl_400, zl_1000, zl_1024, zl_1260, zl_2000, zl_7140, zl_7200, zl_18414, zl_65536, zl_131072, zl_9999, zl_999, zI_add, zI_sub, zI_mul, zI_neg, zI_lt, zI_le, zI_eq, zI_clamp, ck_z, ckp_z, qb_z, qb_z0, Option.bind_some]; omega
    have eh : zI (q : Int) + 1 = zI ((q + 1 : Nat) : Int) := by rw [zl_1, zI_add]; congr 1
    rw [F_X8_goThrough_b66, if_pos ll, eh]
    rw [e] at hI
    exact ⟨ein, met, rfl, hI⟩
  | d + 1, m + 1, t, ein, met, t0, hh, hm, hI => by
    have h30 := hB.2.1
    have ll : ¬ zI (bkH Λ) ≤ zI t := by simp (disch := omega) only [zl_0, zl_1, zl_2, zl_3, zl_4, zl_5, zl_6, zl_7, zl_8, zl_9, zl_10, zl_11, zl_12, zl_13, zl_14, zl_15, zl_16, zl_17, zl_18, zl_19, zl_20, zl_21, zl_22, zl_23, zl_24, zl_25, zl_26, zl_27, zl_28, zl_29, zl_30, zl_31, zl_32, zl_33, zl_34, zl_35, zl_36, zl_37, zl_38, zl_39, zl_40, zl_41, zl_42, zl_43, zl_44, zl_45, zl_46, zl_47, zl_48, zl_49, zl_50, zl_51, zl_52, zl_53, zl_54, zl_55, zl_56, zl_57, zl_58, zl_59, zl_60, zl_61, zl_62, zl_63, zl_64, zl_65, zl_66, zl_80, zl_97, zl_99, zl_103, zl_107, zl_112, zl_115, zl_100, zl_180, zl_210, zl_238, zl_255, zl_256, zl_400, zl_1000, zl_1024, zl_1260, zl_2000, zl_7140, zl_7200, zl_18414, zl_65536, zl_131072, zl_9999, zl_999, zI_add, zI_sub, zI_mul, zI_neg, zI_lt, zI_le, zI_eq, zI_clamp, ck_z, ckp_z, qb_z, qb_z0, Option.bind_some]; omega
    obtain ⟨K2, hK⟩ : ∃ K2 : KG2, K2 = fun m_asked m_hung m_hangs m_cancels m_in m_isMet m_ways m_fewest x2 x3 => F_X8_goThrough_b66 marks mz ms ml mp KK m m_asked m_hung m_hangs m_cancels m_in m_isMet m_ways m_fewest x2 x3 := ⟨_, rfl⟩
    rw [F_X8_goThrough_b66, if_neg ll, ← hK]
    obtain ⟨e1, met1, r1, r2⟩ := fw77 (ways := ways) (few := few) hB hL hR K2 q t hq t0 (by omega) (4 * q + 1) FU 0 ein met (by omega) (by unfold FU; omega) hI
    have r1' : F_X8_goThrough_b77 marks mz ms ml mp K2 FU (zI j) (zI (bkH Λ)) hangs cancels ein met ways few (zI q) (zI t) 0 = K2 (zI j) (zI (bkH Λ)) hangs cancels e1 met1 ways few (zI q) (zI (t + 1)) := r1
    rw [r1', hK]
    exact fw66 hB hL hR KK q hq d m (t + 1) e1 met1 (by omega) (by omega) (by omega) r2
/-- the table of what is met -/
def MtT (Λ : Book) (met : NF) : Prop := ∀ (q : Nat) (t half last : Int), q ≤ 8 → 0 ≤ t → t ≤ 30 → 0 ≤ half → half ≤ 32 → (last = 0 ∨ last = 1) → (Mt Λ q t half last → met (stn q t half last).toNat = 1) ∧ (¬ Mt Λ q t half last → met (stn q t half last).toNat = 0)
theorem fw58 (hB : BkW Λ) (hL : LvM Λ marks hangs cancels) (hR : RuB Λ j mz ms ml mp) : ∀ (d m q : Nat) (ein met : NF), q + d = 8 → d < m → FwI Λ met q (Dl 0 0 0) → ∃ e' met', F_X8_goThrough_b58 marks mz ms ml mp m (zI j) (zI (bkH Λ)) hangs cancels ein met ways few (zI q) = F_X8_goThrough_b149 marks mz ms ml mp FU (zI j) (zI (bkH Λ)) hangs cancels e' met' ways few 8 ∧ MtT Λ met'
  | 0, m + 1, q, ein, met, hq, _, hI => by
    have e : q = 8 := by omega
    subst e
    have ll : 8 ≤ zI ((8 : Nat) : Int) := by decide
    rw [F_X8_goThrough_b58, if_pos ll]
    refine ⟨ein, met, rfl, fun q t half last i1 i2 i3 i4 i5 i6 => ?_⟩
    obtain ⟨w1, w2⟩ := hI q t half last i1 i2 i3 i4 i5 i6
    refine ⟨fun x => w1 (Or.inl ⟨i1, x⟩), fun x => w2 (fun y => ?_)⟩
    rcases y with y | y
    · exact x y.2
    · omega
  | d + 1, m + 1, q, ein, met, hq, hm, hI => by
    have h0 := hB.1
    have h30 := hB.2.1
    have ll : ¬ 8 ≤ zI (q : Int) := by simp (disch := omega) only [zl_0, zl_1, zl_2, zl_3, zl_4, zl_5, zl_6, zl_7, zl_8, zl_9, zl_10, zl_11, zl_12, zl_13, zl_14, zl_15, zl_16, zl_17, zl_18, zl_19, zl_20, zl_21, zl_22, zl_23, zl_24, zl_25, zl_26, zl_27, zl_28, zl_29, zl_30, zl_31, zl_32, zl_33, zl_34, zl_35, zl_36, zl_37, zl_38, zl_39, zl_40, zl_41, zl_42, zl_43, zl_44, zl_45, zl_46, zl_47, zl_48, zl_49, zl_50, zl_51, zl_52, zl_53, zl_54, zl_55, zl_56, zl_57, zl_58, zl_59, zl_60, zl_61, zl_62, zl_63, zl_64, zl_65, zl_66, zl_80, zl_97, zl_99, zl_103, zl_107, zl_112, zl_115, zl_100, zl_180, zl_210, zl_238, zl_255, zl_256, zl_400, zl_1000, zl_1024, zl_1260, zl_2000, zl_7140, zl_7200, zl_18414, zl_65536, zl_131072, zl_9999, zl_999, zI_add, zI_sub, zI_mul, zI_neg, zI_lt, zI_le, zI_eq, zI_clamp, ck_z, ckp_z, qb_z, qb_z0, Option.bind_some]; omega
    obtain ⟨K1, hK⟩ : ∃ K1 : KG1, K1 = fun m_asked m_hung m_hangs m_cancels m_in m_isMet m_ways m_fewest x2 => F_X8_goThrough_b58 marks mz ms ml mp m m_asked m_hung m_hangs m_cancels m_in m_isMet m_ways m_fewest x2 := ⟨_, rfl⟩
    rw [F_X8_goThrough_b58, if_neg ll, ← hK]
    obtain ⟨e1, met1, r1, r2⟩ := fw66 (ways := ways) (few := few) hB hL hR K1 q (by omega) (bkH Λ).toNat FU 0 ein met (by omega) (by omega) (by unfold FU; omega) hI
    have r1' : F_X8_goThrough_b66 marks mz ms ml mp K1 FU (zI j) (zI (bkH Λ)) hangs cancels ein met ways few (zI q) 0 = K1 (zI j) (zI (bkH Λ)) hangs cancels e1 met1 ways few (zI ((q + 1 : Nat) : Int)) := r1
    rw [r1', hK]
    exact fw58 hB hL hR d m (q + 1) e1 met1 (by omega) (by omega) (FwI_nx r2 hB)
end FL

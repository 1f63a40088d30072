/-- the model: some beginning has the first N leaves -/
def BgA (Λ : Book) (N f : Int) : Prop := ∃ (q : Nat) (t half last : Int), q < 8 ∧ 0 ≤ t ∧ N - 8 ≤ t ∧ t < N ∧ Mt Λ q t half last ∧ BgM Λ N f q t half last
section BN
variable {Λ : Book} {j : Int} {marks hangs cancels mz ms ml mp met : NF}
theorem bg_44 (hB : BkW Λ) (hL : LvM Λ marks hangs cancels) (hR : RuB Λ j mz ms ml mp) (hM : MtT Λ met) (KK : NF → Int32 → Int32 → Int32 → Int32 → Int32 → RB) (q : Nat) (t half N f : Int) (hq : q < 8) (t0 : 0 ≤ t) (htN : t < N) (hNH : N ≤ bkH Λ) (a0 : 0 ≤ half) (a1 : half ≤ 4 * q) (hf : f = 0 ∨ f = 1) : ∀ (d m l : Nat) (ein : NF), l + d = 2 → d < m → ((∃ e', F_X8_begins_b44 marks mz ms ml mp (zI j) hangs cancels met KK m ein (zI N) (zI f) (zI q) (zI t) (zI half) (zI l) = some (true, e')) ∧ ∃ l' : Int, (l : Int) ≤ l' ∧ Mt Λ q t half l' ∧ BgM Λ N f q t half l') ∨ ((∃ e', F_X8_begins_b44 marks mz ms ml mp (zI j) hangs cancels met KK m ein (zI N) (zI f) (zI q) (zI t) (zI half) (zI l) = KK e' (zI N) (zI f) (zI q) (zI t) (zI (half + 1))) ∧ ∀ l' : Int, (l : Int) ≤ l' → ¬ (Mt Λ q t half l' ∧ BgM Λ N f q t half l'))
  | 0, m + 1, l, ein, hl, _ => by
    have e : l = 2 := by omega
    subst e
    have ll : 2 ≤ zI ((2 : Nat) : Int) := by decide
    have eh : zI half + 1 = zI (half + 1) := by rw [zl_1, zI_add]
    rw [F_X8_begins_b44, if_pos ll, eh]
    refine Or.inr ⟨⟨ein, rfl⟩, fun l' h w => ?_⟩
    obtain ⟨m1, m2, m3, m4, m5, m6, m7, m8⟩ := Mt_b hB q t half l' w.1
    omega
  | d + 1, m + 1, l, ein, hl, hm => by
    have h30 := hB.2.1
    have ll : ¬ 2 ≤ zI (l : Int) := by simp (disch := omega) only [zl_0, zl_1, zl_2, zl_3, zl_4, zl_5, zl_6, zl_7, zl_8, zl_9, zl_10, zl_11, zl_12, zl_13, zl_14, zl_15, zl_16, zl_17, zl_18, zl_19, zl_20, zl_21, zl_22, zl_23, zl_24, zl_25, zl_26, zl_27, zl_28, zl_29, zl_30, zl_31, zl_32, zl_33, zl_34, zl_35, zl_36, zl_37, zl_38, zl_39, zl_40, zl_41, zl_42, zl_43, zl_44, zl_45, zl_46, zl_47, zl_48, zl_49, zl_50, zl_51, zl_52, zl_53, zl_54, zl_55, zl_56, zl_57, zl_58, zl_59, zl_60, zl_61, zl_62, zl_63, zl_64, zl_65, zl_66, zl_80, zl_97, zl_99, zl_103, zl_107, zl_112, zl_115, zl_100, zl_180, zl_210, zl_238, zl_255, zl_256, zl_400, zl_1000, zl_1024, zl_1260, zl_2000, zl_7140, zl_7200, zl_18414, zl_65536, zl_131072, zl_9999, zl_999, zI_add, zI_sub, zI_mul, zI_neg, zI_lt, zI_le, zI_eq, zI_clamp, ck_z, ckp_z, qb_z, qb_z0, Option.bind_some]; omega
    have el : zI (l : Int) + 1 = zI ((l + 1 : Nat) : Int) := by rw [zl_1, zI_add]; congr 1
    have hl2 : (l : Int) = 0 ∨ (l : Int) = 1 := by omega
    have sb := stn_b (q := (q : Int)) (t := t) (half := half) (last := (l : Int)) (by omega) (by omega) t0 (by omega) a0 (by omega) hl2
    obtain ⟨w1, w2⟩ := hM q t half l (by omega) t0 (by omega) a0 (by omega) hl2
    have on (hno : ¬ (Mt Λ q t half l ∧ BgM Λ N f q t half l)) (e1 : NF) (X : RB) (hX : X = F_X8_begins_b44 marks mz ms ml mp (zI j) hangs cancels met KK m e1 (zI N) (zI f) (zI q) (zI t) (zI half) (zI ((l + 1 : Nat) : Int))) : ((∃ e', X = some (true, e')) ∧ ∃ l' : Int, (l : Int) ≤ l' ∧ Mt Λ q t half l' ∧ BgM Λ N f q t half l') ∨ ((∃ e', X = KK e' (zI N) (zI f) (zI q) (zI t) (zI (half + 1))) ∧ ∀ l' : Int, (l : Int) ≤ l' → ¬ (Mt Λ q t half l' ∧ BgM Λ N f q t half l')) := by
      rw [hX]
      rcases bg_44 hB hL hR hM KK q t half N f hq t0 htN hNH a0 a1 hf d m (l + 1) e1 (by omega) (by omega) with ⟨i1, l', i2, i3⟩ | ⟨i1, i2⟩
      · exact Or.inl ⟨i1, l', by omega, i3⟩
      · refine Or.inr ⟨i1, fun l' h w => ?_⟩
        by_cases e : l' = l
        · subst e; exact hno w
        · exact i2 l' (by omega) w
    rw [F_X8_begins_b44, if_neg ll, state_z, Option.bind_some, ck_z sb.1 sb.2 (by omega), zI_clamp (by omega) (by omega), el]
    by_cases c : Mt Λ q t half l
    · obtain ⟨m1, m2, m3, m4, m5, m6, m7, m8⟩ := Mt_b hB q t half l c
      obtain ⟨e', he⟩ := beginsFrom_z hB hL hR q t half l N f (by omega) (by omega) t0 htN hNH a0 (by omega) m5 hf ein
      rw [w1 c, if_neg (by decide), he, Option.bind_some]
      by_cases b : BgM Λ N f q t half l
      · rw [bq_t b, if_neg (show ¬ qb true = 0 by decide)]
        exact Or.inl ⟨⟨e', rfl⟩, l, Int.le_refl _, c, b⟩
      · rw [bq_f b, if_pos (show qb false = 0 from rfl)]
        exact on (fun w => b w.2) e' _ rfl
    · rw [w2 c, if_pos (by rfl)]
      exact on (fun w => c w.1) ein _ rfl
theorem bg_33 (hB : BkW Λ) (hL : LvM Λ marks hangs cancels) (hR : RuB Λ j mz ms ml mp) (hM : MtT Λ met) (KK : NF → Int32 → Int32 → Int32 → Int32 → RB) (q : Nat) (t N f : Int) (hq : q < 8) (t0 : 0 ≤ t) (htN : t < N) (hNH : N ≤ bkH Λ) (hf : f = 0 ∨ f = 1) : ∀ (d m h : Nat) (ein : NF), h + d = 4 * q + 1 → d < m → ((∃ e', F_X8_begins_b33 marks mz ms ml mp (zI j) hangs cancels met KK m ein (zI N) (zI f) (zI q) (zI t) (zI h) = some (true, e')) ∧ ∃ half l : Int, (h : Int) ≤ half ∧ Mt Λ q t half l ∧ BgM Λ N f q t half l) ∨ ((∃ e', F_X8_begins_b33 marks mz ms ml mp (zI j) hangs cancels met KK m ein (zI N) (zI f) (zI q) (zI t) (zI h) = KK e' (zI N) (zI f) (zI q) (zI (t + 1))) ∧ ∀ half l : Int, (h : Int) ≤ half → ¬ (Mt Λ q t half l ∧ BgM Λ N f q t half l))
  | 0, m + 1, h, ein, hh, _ => by
    have e4 : (4 : Int32) * zI (q : Int) = zI (4 * (q : Int)) := by rw [show (4 : Int32) = zI 4 from rfl, zI_mul]
    have ll : zI (4 * (q : Int)) < zI (h : Int) := by simp (disch := omega) only [zl_0, zl_1, zl_2, zl_3, zl_4, zl_5, zl_6, zl_7, zl_8, zl_9, zl_10, zl_11, zl_12, zl_13, zl_14, zl_15, zl_16, zl_17, zl_18, zl_19, zl_20, zl_21, zl_22, zl_23, zl_24, zl_25, zl_26, zl_27, zl_28, zl_29, zl_30, zl_31, zl_32, zl_33, zl_34, zl_35, zl_36, zl_37, zl_38, zl_39, zl_40, zl_41, zl_42, zl_43, zl_44, zl_45, zl_46, zl_47, zl_48, zl_49, zl_50, zl_51, zl_52, zl_53, zl_54, zl_55, zl_56, zl_57, zl_58, zl_59, zl_60, zl_61, zl_62, zl_63, zl_64, zl_65, zl_66, zl_80, zl_97, zl_99, zl_103, zl_107, zl_112, zl_115, zl_100, zl_180, zl_210, zl_238, zl_255, zl_256, zl_400, zl_1000, zl_1024, zl_1260, zl_2000, zl_7140, zl_7200, zl_18414, zl_65536, zl_131072, zl_9999, zl_999, zI_add, zI_sub, zI_mul, zI_neg, zI_lt, zI_le, zI_eq, zI_clamp, ck_z, ckp_z, qb_z, qb_z0, Option.bind_some]; omega
    have eh : zI t + 1 = zI (t + 1) := by rw [zl_1, zI_add]
    rw [F_X8_begins_b33, e4, if_pos ll, eh]
    refine Or.inr ⟨⟨ein, rfl⟩, fun half l g w => ?_⟩
    obtain ⟨m1, m2, m3, m4, m5, m6, m7, m8⟩ := Mt_b hB q t half l w.1
    omega
  | d + 1, m + 1, h, ein, hh, hm => by
    have e4 : (4 : Int32) * zI (q : Int) = zI (4 * (q : Int)) := by rw [show (4 : Int32) = zI 4 from rfl, zI_mul]
    have ll : ¬ zI (4 * (q : Int)) < zI (h : Int) := by simp (disch := omega) only [zl_0, zl_1, zl_2, zl_3, zl_4, zl_5, zl_6, zl_7, zl_8, zl_9, zl_10, zl_11, zl_12, zl_13, zl_14, zl_15, zl_16, zl_17, zl_18, zl_19, zl_20, zl_21, zl_22, zl_23, zl_24, zl_25, zl_26, zl_27, zl_28, zl_29, zl_30, zl_31, zl_32, zl_33, zl_34, zl_35, zl_36, zl_37, zl_38, zl_39, zl_40, zl_41, zl_42, zl_43, zl_44, zl_45, zl_46, zl_47, zl_48, zl_49, zl_50, zl_51, zl_52, zl_53, zl_54, zl_55, zl_56, zl_57, zl_58, zl_59, zl_60, zl_61, zl_62, zl_63, zl_64, zl_65, zl_66, zl_80, zl_97, zl_99, zl_103, zl_107, zl_112, zl_115, zl_100, zl_180, zl_210, zl_238, zl_255, zl_256, zl_400, zl_1000, zl_1024, zl_1260, zl_2000, zl_7140, zl_7200, zl_18414, zl_65536, zl_131072, zl_9999, zl_999, zI_add, zI_sub, zI_mul, zI_neg, zI_lt, zI_le, zI_eq, zI_clamp, ck_z, ckp_z, qb_z, qb_z0, Option.bind_some]; omega
    rw [F_X8_begins_b33, e4, if_neg ll]
    rcases bg_44 hB hL hR hM (fun m_in x1 x2 x3 x4 x5 => F_X8_begins_b33 marks mz ms ml mp (zI j) hangs cancels met KK m m_in x1 x2 x3 x4 x5) q t h N f hq t0 htN hNH (by omega) (by omega) hf 2 FU 0 ein (by omega) (by unfold FU; omega) with ⟨i1, l', i2, i3⟩ | ⟨⟨e', i1⟩, i2⟩
    · exact Or.inl ⟨i1, h, l', Int.le_refl _, i3⟩
    · have i1' : F_X8_begins_b44 marks mz ms ml mp (zI j) hangs cancels met (fun m_in x1 x2 x3 x4 x5 => F_X8_begins_b33 marks mz ms ml mp (zI j) hangs cancels met KK m m_in x1 x2 x3 x4 x5) FU ein (zI N) (zI f) (zI q) (zI t) (zI h) 0 = F_X8_begins_b33 marks mz ms ml mp (zI j) hangs cancels met KK m e' (zI N) (zI f) (zI q) (zI t) (zI ((h + 1 : Nat) : Int)) := i1
      rw [i1']
      rcases bg_33 hB hL hR hM KK q t N f hq t0 htN hNH hf d m (h + 1) e' (by omega) (by omega) with ⟨j1, half, l, j2, j3⟩ | ⟨j1, j2⟩
      · exact Or.inl ⟨j1, half, l, by omega, j3⟩
      · refine Or.inr ⟨j1, fun half l g w => ?_⟩
        by_cases e : half = h
        · subst e
          obtain ⟨m1, m2, m3, m4, m5, m6, m7, m8⟩ := Mt_b hB q t _ l w.1
          exact i2 l (by omega) w
        · exact j2 half l (by omega) w
theorem bg_24 (hB : BkW Λ) (hL : LvM Λ marks hangs cancels) (hR : RuB Λ j mz ms ml mp) (hM : MtT Λ met) (KK : NF → Int32 → Int32 → Int32 → RB) (q : Nat) (N f : Int) (hq : q < 8) (hNH : N ≤ bkH Λ) (hf : f = 0 ∨ f = 1) : ∀ (d m : Nat) (t : Int) (ein : NF), 0 ≤ t → t + d = N → d < m → ((∃ e', F_X8_begins_b24 marks mz ms ml mp (zI j) hangs cancels met KK m ein (zI N) (zI f) (zI q) (zI t) = some (true, e')) ∧ ∃ t' half l : Int, t ≤ t' ∧ t' < N ∧ Mt Λ q t' half l ∧ BgM Λ N f q t' half l) ∨ ((∃ e', F_X8_begins_b24 marks mz ms ml mp (zI j) hangs cancels met KK m ein (zI N) (zI f) (zI q) (zI t) = KK e' (zI N) (zI f) (zI ((q + 1 : Nat) : Int))) ∧ ∀ t' half l : Int, t ≤ t' → t' < N → ¬ (Mt Λ q t' half l ∧ BgM Λ N f q t' half l))
  | 0, m + 1, t, ein, t0, ht, _ => by
    have h30 := hB.2.1
    have ll : zI N ≤ zI t := by simp (disch := omega) only [zl_0, zl_1, zl_2, zl_3, zl_4, zl_5, zl_6, zl_7, zl_8, zl_9, zl_10, zl_11, zl_12, zl_13, zl_14, zl_15, zl_16, zl_17, zl_18, zl_19, zl_20, zl_21, zl_22, zl_23, zl_24, zl_25, zl_26, zl_27, zl_28, zl_29, zl_30, zl_31, zl_32, zl_33, zl_34, zl_35, zl_36, zl_37, zl_38, zl_39, zl_40, zl_41, zl_42, zl_43, zl_44, zl_45, zl_46, zl_47, zl_48, zl_49, zl_50, zl_51, zl_52, zl_53, zl_54, zl_55, zl_56, zl_57, zl_58, zl_59, zl_60, zl_61, zl_62, zl_63, zl_64, zl_65, zl_66, zl_80, zl_97, zl_99, zl_103, zl_107, zl_112, zl_115, zl_100, zl_180, zl_210, zl_238, zl_255, zl_256, zl_400, zl_1000, zl_1024, zl_1260, zl_2000, zl_7140, zl_7200, zl_18414, zl_65536, zl_131072, zl_9999, zl_999, zI_add, zI_sub, zI_mul, zI_neg, zI_lt, zI_le, zI_eq, zI_clamp, ck_z, ckp_z, qb_z, qb_z0, Option.bind_some]; omega
    have eq1 : zI (q : Int) + 1 = zI ((q + 1 : Nat) : Int) := by rw [zl_1, zI_add]; congr 1
    rw [F_X8_begins_b24, if_pos ll, eq1]
    exact Or.inr ⟨⟨ein, rfl⟩, fun t' half l h1 h2 => by omega⟩
  | d + 1, m + 1, t, ein, t0, ht, hm => by
    have h30 := hB.2.1
    have ll : ¬ zI N ≤ zI t := by simp (disch := omega) only [zl_0, zl_1, zl_2, zl_3, zl_4, zl_5, zl_6, zl_7, zl_8, zl_9, zl_10, zl_11, zl_12, zl_13, zl_14, zl_15, zl_16, zl_17, zl_18, zl_19, zl_20, zl_21, zl_22, zl_23, zl_24, zl_25, zl_26, zl_27, zl_28, zl_29, zl_30, zl_31, zl_32, zl_33, zl_34, zl_35, zl_36, zl_37, zl_38, zl_39, zl_40, zl_41, zl_42, zl_43, zl_44, zl_45, zl_46, zl_47, zl_48, zl_49, zl_50, zl_51, zl_52, zl_53, zl_54, zl_55, zl_56, zl_57, zl_58, zl_59, zl_60, zl_61, zl_62, zl_63, zl_64, zl_65, zl_66, zl_80, zl_97, zl_99, zl_103, zl_107, zl_112, zl_115, zl_100, zl_180, zl_210, zl_238, zl_255, zl_256, zl_400, zl_1000, zl_1024, zl_1260, zl_2000, zl_7140, zl_7200, zl_18414, zl_65536, zl_131072, zl_9999, zl_999, zI_add, zI_sub, zI_mul, zI_neg, zI_lt, zI_le, zI_eq, zI_clamp, ck_z, ckp_z, qb_z, qb_z0, Option.bind_some]; omega
    rw [F_X8_begins_b24, if_neg ll]
    rcases bg_33 hB hL hR hM (fun m_in x1 x2 x3 x4 => F_X8_begins_b24 marks mz ms ml mp (zI j) hangs cancels met KK m m_in x1 x2 x3 x4) q t N f hq t0 (by omega) hNH hf (4 * q + 1) FU 0 ein (by omega) (by unfold FU; omega) with ⟨i1, half, l, i2, i3⟩ | ⟨⟨e', i1⟩, i2⟩
    · exact Or.inl ⟨i1, t, half, l, Int.le_refl _, by omega, i3⟩
    · have i1' : F_X8_begins_b33 marks mz ms ml mp (zI j) hangs cancels met (fun m_in x1 x2 x3 x4 => F_X8_begins_b24 marks mz ms ml mp (zI j) hangs cancels met KK m m_in x1 x2 x3 x4) FU ein (zI N) (zI f) (zI q) (zI t) 0 = F_X8_begins_b24 marks mz ms ml mp (zI j) hangs cancels met KK m e' (zI N) (zI f) (zI q) (zI (t + 1)) := i1
      rw [i1']
      rcases bg_24 hB hL hR hM KK q N f hq hNH hf d m (t + 1) e' (by omega) (by omega) (by omega) with ⟨j1, t', half, l, j2, j3, j4⟩ | ⟨j1, j2⟩
      · exact Or.inl ⟨j1, t', half, l, by omega, j3, j4⟩
      · refine Or.inr ⟨j1, fun t' half l h1 h2 w => ?_⟩
        by_cases e : t' = t
        · subst e
          obtain ⟨m1, m2, m3, m4, m5, m6, m7, m8⟩ := Mt_b hB q _ half l w.1
          exact i2 half l (by omega) w
        · exact j2 t' half l (by omega) h2 w
theorem bg_2 (hB : BkW Λ) (hL : LvM Λ marks hangs cancels) (hR : RuB Λ j mz ms ml mp) (hM : MtT Λ met) (N f : Int) (hN : 1 ≤ N) (hNH : N ≤ bkH Λ) (hf : f = 0 ∨ f = 1) : ∀ (d m q : Nat) (ein : NF), q + d = 8 → d < m → ∃ e', F_X8_begins_b2 marks mz ms ml mp (zI j) hangs cancels met m ein (zI N) (zI f) (zI q) = some (bq (∃ (q' : Nat) (t half last : Int), q ≤ q' ∧ q' < 8 ∧ 0 ≤ t ∧ N - 8 ≤ t ∧ t < N ∧ Mt Λ q' t half last ∧ BgM Λ N f q' t half last), e')
  | 0, m + 1, q, ein, hq, _ => by
    have e : q = 8 := by omega
    subst e
    have ll : 8 ≤ zI ((8 : Nat) : Int) := by decide
    rw [F_X8_begins_b2, if_pos ll, bq_f (fun ⟨q', t, half, last, a, b, _⟩ => by omega)]
    exact ⟨ein, rfl⟩
  | d + 1, m + 1, q, ein, hq, hm => by
    have h30 := hB.2.1
    have ll : ¬ 8 ≤ zI (q : Int) := by simp (disch := omega) only [zl_0, zl_1, zl_2, zl_3, zl_4, zl_5, zl_6, zl_7, zl_8, zl_9, zl_10, zl_11, zl_12, zl_13, zl_14, zl_15, zl_16, zl_17, zl_18, zl_19, zl_20, zl_21, zl_22, zl_23, zl_24, zl_25, zl_26, zl_27, zl_28, zl_29, zl_30, zl_31, zl_32, zl_33, zl_34, zl_35, zl_36, zl_37, zl_38, zl_39, zl_40, zl_41, zl_42, zl_43, zl_44, zl_45, zl_46, zl_47, zl_48, zl_49, zl_50, zl_51, zl_52, zl_53, zl_54, zl_55, zl_56, zl_57, zl_58, zl_59, zl_60, zl_61, zl_62, zl_63, zl_64, zl_65, zl_66, zl_80, zl_97, zl_99, zl_103, zl_107, zl_112, zl_115, zl_100, zl_180, zl_210, zl_238, zl_255, zl_256, zl_400, zl_1000, zl_1024, zl_1260, zl_2000, zl_7140, zl_7200, zl_18414, zl_65536, zl_131072, zl_9999, zl_999, zI_add, zI_sub, zI_mul, zI_neg, zI_lt, zI_le, zI_eq, zI_clamp, ck_z, ckp_z, qb_z, qb_z0, Option.bind_some]; omega
    have e8 : zI N - 8 = zI (N - 8) := by rw [show (8 : Int32) = zI 8 from rfl, zI_sub]
    have fin (t0 : Int) (ht : t0 = if N ≤ 8 then 0 else N - 8) (X : RB) (hX : X = F_X8_begins_b24 marks mz ms ml mp (zI j) hangs cancels met (fun m_in x1 x2 x3 => F_X8_begins_b2 marks mz ms ml mp (zI j) hangs cancels met m m_in x1 x2 x3) FU ein (zI N) (zI f) (zI q) (zI t0)) : ∃ e', X = some (bq (∃ (q' : Nat) (t half last : Int), q ≤ q' ∧ q' < 8 ∧ 0 ≤ t ∧ N - 8 ≤ t ∧ t < N ∧ Mt Λ q' t half last ∧ BgM Λ N f q' t half last), e') := by
      have htb : 0 ≤ t0 ∧ N - 8 ≤ t0 ∧ t0 < N ∧ ∀ t, 0 ≤ t → N - 8 ≤ t → t0 ≤ t := by
        rw [ht]
        by_cases c : N ≤ 8
        · rw [if_pos c]; exact ⟨by omega, by omega, by omega, fun t h1 h2 => h1⟩
        · rw [if_neg c]; exact ⟨by omega, by omega, by omega, fun t h1 h2 => h2⟩
      rcases bg_24 hB hL hR hM (fun m_in x1 x2 x3 => F_X8_begins_b2 marks mz ms ml mp (zI j) hangs cancels met m m_in x1 x2 x3) q N f (by omega) hNH hf (N - t0).toNat FU t0 ein htb.1 (by omega) (by unfold FU; omega) with ⟨⟨e', i1⟩, t', half, l, i2, i3, i4, i5⟩ | ⟨⟨e', i1⟩, i2⟩
      · rw [hX, i1, bq_t ⟨q, t', half, l, Nat.le_refl _, by omega, by omega, by omega, i3, i4, i5⟩]
        exact ⟨e', rfl⟩
      · obtain ⟨e2, r⟩ := bg_2 hB hL hR hM N f hN hNH hf d m (q + 1) e' (by omega) (by omega)
        refine ⟨e2, ?_⟩
        rw [hX, i1]
        have iff : (∃ (q' : Nat) (t half last : Int), q ≤ q' ∧ q' < 8 ∧ 0 ≤ t ∧ N - 8 ≤ t ∧ t < N ∧ Mt Λ q' t half last ∧ BgM Λ N f q' t half last) ↔ (∃ (q' : Nat) (t half last : Int), q + 1 ≤ q' ∧ q' < 8 ∧ 0 ≤ t ∧ N - 8 ≤ t ∧ t < N ∧ Mt Λ q' t half last ∧ BgM Λ N f q' t half last) := by
          constructor
          · rintro ⟨q', t, half, l, a, b, c, d, e, g, h⟩
            by_cases z : q' = q
            · subst z
              exact absurd ⟨g, h⟩ (i2 t half l (htb.2.2.2 t c d) e)
            · exact ⟨q', t, half, l, by omega, b, c, d, e, g, h⟩
          · rintro ⟨q', t, half, l, a, r⟩
            exact ⟨q', t, half, l, by omega, r⟩
        rw [bq_c iff]
        exact r
    rw [F_X8_begins_b2, if_neg ll]
    by_cases c : N ≤ 8
    · have l2 : zI N ≤ 8 := by simp (disch := omega) only [zl_0, zl_1, zl_2, zl_3, zl_4, zl_5, zl_6, zl_7, zl_8, zl_9, zl_10, zl_11, zl_12, zl_13, zl_14, zl_15, zl_16, zl_17, zl_18, zl_19, zl_20, zl_21, zl_22, zl_23, zl_24, zl_25, zl_26, zl_27, zl_28, zl_29, zl_30, zl_31, zl_32, zl_33, zl_34, zl_35, zl_36, zl_37, zl_38, zl_39, zl_40, zl_41, zl_42, zl_43, zl_44, zl_45, zl_46, zl_47, zl_48, zl_49, zl_50, zl_51, zl_52, zl_53, zl_54, zl_55, zl_56, zl_57, zl_58, zl_59, zl_60, zl_61, zl_62, zl_63, zl_64, zl_65, zl_66, zl_80, zl_97, zl_99, zl_103, zl_107, zl_112, zl_115, zl_100, zl_180, zl_210, zl_238, zl_255, zl_256, zl_400, zl_1000, zl_1024, zl_1260, zl_2000, zl_7140, zl_7200, zl_18414, zl_65536, zl_131072, zl_9999, zl_999, zI_add, zI_sub, zI_mul, zI_neg, zI_lt, zI_le, zI_eq, zI_clamp, ck_z, ckp_z, qb_z, qb_z0, Option.bind_some]; omega
      rw [if_pos l2]
      exact fin 0 (by rw [if_pos c]) _ rfl
    · have l2 : ¬ zI N ≤ 8 := by simp (disch := omega) only [zl_0, zl_1, zl_2, zl_3, zl_4, zl_5, zl_6, zl_7, zl_8, zl_9, zl_10, zl_11, zl_12, zl_13, zl_14, zl_15, zl_16, zl_17, zl_18, zl_19, zl_20, zl_21, zl_22, zl_23, zl_24, zl_25, zl_26, zl_27, zl_28, zl_29, zl_30, zl_31, zl_32, zl_33, zl_34, zl_35, zl_36, zl_37, zl_38, zl_39, zl_40, zl_41, zl_42, zl_43, zl_44, zl_45, zl_46, zl_47, zl_48, zl_49, zl_50, zl_51, zl_52, zl_53, zl_54, zl_55, zl_56, zl_57, zl_58, zl_59, zl_60, zl_61, zl_62, zl_63, zl_64, zl_65, zl_66, zl_80, zl_97, zl_99, zl_103, zl_107, zl_112, zl_115, zl_100, zl_180, zl_210, zl_238, zl_255, zl_256, zl_400, zl_1000, zl_1024, zl_1260, zl_2000, zl_7140, zl_7200, zl_18414, zl_65536, zl_131072, zl_9999, zl_999, zI_add, zI_sub, zI_mul, zI_neg, zI_lt, zI_le, zI_eq, zI_clamp, ck_z, ckp_z, qb_z, qb_z0, Option.bind_some]; omega
      rw [if_neg l2, e8]
      exact fin (N - 8) (by rw [if_neg c]) _ rfl
theorem begins_z (hB : BkW Λ) (hL : LvM Λ marks hangs cancels) (hR : RuB Λ j mz ms ml mp) (hM : MtT Λ met) (N f : Int) (hN : 1 ≤ N) (hNH : N ≤ bkH Λ) (hf : f = 0 ∨ f = 1) (ein : NF) : ∃ e', F_X8_begins marks mz ms ml mp (zI j) hangs cancels ein met (zI N) (zI f) = some (bq (BgA Λ N f), e') := by
  obtain ⟨e', r⟩ := bg_2 hB hL hR hM N f hN hNH hf 8 FU 0 ein (by omega) (by unfold FU; omega)
  refine ⟨e', ?_⟩
  have iff : (∃ (q' : Nat) (t half last : Int), 0 ≤ q' ∧ q' < 8 ∧ 0 ≤ t ∧ N - 8 ≤ t ∧ t < N ∧ Mt Λ q' t half last ∧ BgM Λ N f q' t half last) ↔ BgA Λ N f := by
    constructor
    · rintro ⟨q', t, half, l, _, r⟩; exact ⟨q', t, half, l, r⟩
    · rintro ⟨q', t, half, l, r⟩; exact ⟨q', t, half, l, Nat.zero_le _, r⟩
  rw [bq_c iff] at r
  exact r
end BN

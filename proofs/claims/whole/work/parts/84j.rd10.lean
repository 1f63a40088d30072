abbrev RdR : Type := Int32 × Int32 × Int32 × Int32 × Int32 × Int32 × Int32 × NF × NF × NF × NF × NF × NF × Int32
abbrev K17 : Type := Int32 → Int32 → Int32 → Int32 → Int32 → Int32 → NF → NF → NF → NF → NF → NF → Int32 → Int32 → Option RdR
theorem PW_bLet {Φ : Fold} {l : Int} (L : Int) (h : PW Φ l) : PW (bLet Φ L) l := by
  obtain ⟨h1, h2, h3, h4, h5, h6⟩ := h
  refine ⟨h1, h2, h3, h4, h5, ?_⟩
  show fG Φ = _
  rw [h6]
  congr 1
  · exact (fgq_congr (bLet Φ L) Φ _ (fun q a b => ⟨rfl, fun _ _ _ => rfl⟩)).symm
  · exact (fgp_congr (bLet Φ L) Φ _ _ (fun _ _ _ => rfl)).symm
theorem Wz_bLet {Φ : Fold} (L : Int) (h : Wz Φ) : Wz (bLet Φ L) := h
theorem PC_bLet {Φ : Fold} {l : Int} (L : Int) {quires things ghosts letter page laid : Int32} {sizes cells kinds words quireOf placeOf : NF} (h : PC Φ l quires things ghosts letter page laid sizes cells kinds words quireOf placeOf) : PC (bLet Φ L) l quires things ghosts (zI L) page laid sizes cells kinds words quireOf placeOf := by
  obtain ⟨h1, h2, h3, h4, h5⟩ := h
  exact ⟨⟨h1.1, h1.2.1, h1.2.2.1, rfl, h1.2.2.2.2.1, h1.2.2.2.2.2⟩, h2, h3, h4, h5⟩
theorem PR_bLet {Φ : Fold} {l : Int} (L : Int) {nT : Int32} {nS nP nK : NF} (h : PR Φ l nT nS nP nK) : PR (bLet Φ L) l nT nS nP nK := h
section RA
variable {b t : NF} {N : Int} {fa fp fk fpl : Int32}
theorem b22_init (size : Int32) (pos lc gh is ip x1 x2 : Int32) (lk lp : NF) : ∀ (d m : Nat) (k : Int) (states : NF), k + d = 9 → 0 ≤ k → d < m → (∀ j, 0 ≤ j → j < k → states j.toNat = zI 2) → ∃ st', F_X3_readBracket_b22 size b (zI N) m fa fp pos states lk lp lc gh is ip x1 x2 (zI k) = F_X3_readBracket_b22 size b (zI N) 1 fa fp pos st' lk lp lc gh is ip x1 x2 (zI 9) ∧ ∀ j : Int, 0 ≤ j → j ≤ 8 → st' j.toNat = zI 2
  | 0, m + 1, k, states, hk, hk0, _, h => by
    have e : k = 9 := by omega
    subst e
    refine ⟨states, ?_, fun j a bb => h j a (by omega)⟩
    rw [F_X3_readBracket_b22, F_X3_readBracket_b22]
    have l9 : (8 : Int32) < zI 9 := by decide
    rw [if_pos l9, if_pos l9]
  | d + 1, m + 1, k, states, hk, hk0, hm, h => by
    obtain ⟨st', e, g⟩ := b22_init size pos lc gh is ip x1 x2 lk lp d m (k + 1) (upd states k.toNat (zI 2)) (by omega) (by omega) (by omega) (fun j a bb => by
      rw [upd_z _ _ hk0 a]
      by_cases x : j = k
      · rw [if_pos x]
      · rw [if_neg x]; exact h j a (by omega))
    refine ⟨st', ?_, g⟩
    refine Eq.trans ?_ e
    have l1 : ¬ (8 : Int32) < zI k := by simp (disch := omega) only [zl_0, zl_1, zl_2, zl_3, zl_4, zl_5, zl_6, zl_7, zl_8, zl_9, zl_10, zl_11, zl_12, zl_13, zl_14, zl_15, zl_16, zl_17, zl_18, zl_19, zl_20, zl_21, zl_22, zl_23, zl_24, zl_25, zl_26, zl_27, zl_28, zl_29, zl_30, zl_31, zl_32, zl_33, zl_34, zl_35, zl_36, zl_37, zl_38, zl_39, zl_40, zl_41, zl_42, zl_43, zl_44, zl_45, zl_46, zl_47, zl_48, zl_49, zl_50, zl_51, zl_52, zl_53, zl_54, zl_55, zl_56, zl_57, zl_58, zl_59, zl_60, zl_61, zl_62, zl_63, zl_64, zl_65, zl_66, zl_80, zl_97, zl_99, zl_103, zl_107, zl_112, zl_115, zl_100, zl_180, zl_210, zl_238, zl_255, zl_256, zl_400, zl_1000, zl_1024, zl_1260, zl_2000, zl_7140, zl_7200, zl_18414, zl_65536, zl_131072, zl_9999, zl_999, zI_add, zI_sub, zI_mul, zI_neg, zI_lt, zI_le, zI_eq, zI_clamp, ck_z, ckp_z, qb_z, qb_z0, Option.bind_some]; omega
    rw [F_X3_readBracket_b22, if_neg l1, ck_z (by omega) (by omega) (by omega), zI_clamp (by omega) (by omega), zl_1, zI_add, zl_2]
theorem b251_init (k17 : K17) (p nT nQ nL : Int32) (nS nP nK ep ek : NF) (x2 x4 x5 : Int32) : ∀ (d m : Nat) (k : Int) (codes : NF), k + d = 9 → 0 ≤ k → d < m → (∀ j, 0 ≤ j → j < k → codes j.toNat = zI 1) → ∃ cd', F_X8_reading_b251 t (zI N) k17 m fk fpl p nT nQ nL nS nP nK codes ep ek x2 x4 x5 (zI k) = F_X8_reading_b251 t (zI N) k17 1 fk fpl p nT nQ nL nS nP nK cd' ep ek x2 x4 x5 (zI 9) ∧ ∀ j : Int, 0 ≤ j → j ≤ 8 → cd' j.toNat = zI 1
  | 0, m + 1, k, codes, hk, hk0, _, h => by
    have e : k = 9 := by omega
    subst e
    refine ⟨codes, ?_, fun j a bb => h j a (by omega)⟩
    rw [F_X8_reading_b251, F_X8_reading_b251]
    have l9 : (8 : Int32) < zI 9 := by decide
    rw [if_pos l9, if_pos l9]
  | d + 1, m + 1, k, codes, hk, hk0, hm, h => by
    obtain ⟨cd', e, g⟩ := b251_init k17 p nT nQ nL nS nP nK ep ek x2 x4 x5 d m (k + 1) (upd codes k.toNat (zI 1)) (by omega) (by omega) (by omega) (fun j a bb => by
      rw [upd_z _ _ hk0 a]
      by_cases x : j = k
      · rw [if_pos x]
      · rw [if_neg x]; exact h j a (by omega))
    refine ⟨cd', ?_, g⟩
    refine Eq.trans ?_ e
    have l1 : ¬ (8 : Int32) < zI k := by simp (disch := omega) only [zl_0, zl_1, zl_2, zl_3, zl_4, zl_5, zl_6, zl_7, zl_8, zl_9, zl_10, zl_11, zl_12, zl_13, zl_14, zl_15, zl_16, zl_17, zl_18, zl_19, zl_20, zl_21, zl_22, zl_23, zl_24, zl_25, zl_26, zl_27, zl_28, zl_29, zl_30, zl_31, zl_32, zl_33, zl_34, zl_35, zl_36, zl_37, zl_38, zl_39, zl_40, zl_41, zl_42, zl_43, zl_44, zl_45, zl_46, zl_47, zl_48, zl_49, zl_50, zl_51, zl_52, zl_53, zl_54, zl_55, zl_56, zl_57, zl_58, zl_59, zl_60, zl_61, zl_62, zl_63, zl_64, zl_65, zl_66, zl_80, zl_97, zl_99, zl_103, zl_107, zl_112, zl_115, zl_100, zl_180, zl_210, zl_238, zl_255, zl_256, zl_400, zl_1000, zl_1024, zl_1260, zl_2000, zl_7140, zl_7200, zl_18414, zl_65536, zl_131072, zl_9999, zl_999, zI_add, zI_sub, zI_mul, zI_neg, zI_lt, zI_le, zI_eq, zI_clamp, ck_z, ckp_z, qb_z, qb_z0, Option.bind_some]; omega
    rw [F_X8_reading_b251, if_neg l1, ck_z (by omega) (by omega) (by omega), zI_clamp (by omega) (by omega), zl_1, zI_add]
theorem b320_z {σ : Int → Int} {codes : NF} (hσ : StM σ codes) (hσw : StW σ) (k17 : K17) (p nT nQ nL : Int32) (nS nP nK ep ek : NF) (ex x2 x4 : Int32) (size : Int) (hs : size ≤ 8) : ∀ (d m : Nat) (x7 hang : Int), x7 + d = size + 1 → 1 ≤ x7 → d < m → (hang = 0 ∨ hang = 1) → ∃ h' : Int, F_X8_reading_b320 t (zI N) k17 m fk fpl p nT nQ nL nS nP nK codes ep ek ex x2 x4 (zI size) (zI hang) (zI x7) = F_X8_reading_b360 t (zI N) k17 FU fk fpl p nT nQ nL nS nP nK codes ep ek ex x2 x4 (zI size) (zI h') 0 ∧ (h' = 0 ∨ h' = 1) ∧ (h' = 0 ↔ (hang = 0 ∧ ∀ k, x7 ≤ k → k ≤ size → σ k = -2))
  | 0, m + 1, x7, hang, hx, hx1, _, hh => by
    have l1 : zI size < zI x7 := by simp (disch := omega) only [zl_0, zl_1, zl_2, zl_3, zl_4, zl_5, zl_6, zl_7, zl_8, zl_9, zl_10, zl_11, zl_12, zl_13, zl_14, zl_15, zl_16, zl_17, zl_18, zl_19, zl_20, zl_21, zl_22, zl_23, zl_24, zl_25, zl_26, zl_27, zl_28, zl_29, zl_30, zl_31, zl_32, zl_33, zl_34, zl_35, zl_36, zl_37, zl_38, zl_39, zl_40, zl_41, zl_42, zl_43, zl_44, zl_45, zl_46, zl_47, zl_48, zl_49, zl_50, zl_51, zl_52, zl_53, zl_54, zl_55, zl_56, zl_57, zl_58, zl_59, zl_60, zl_61, zl_62, zl_63, zl_64, zl_65, zl_66, zl_80, zl_97, zl_99, zl_103, zl_107, zl_112, zl_115, zl_100, zl_180, zl_210, zl_238, zl_255, zl_256, zl_400, zl_1000, zl_1024, zl_1260, zl_2000, zl_7140, zl_7200, zl_18414, zl_65536, zl_131072, zl_9999, zl_999, zI_add, zI_sub, zI_mul, zI_neg, zI_lt, zI_le, zI_eq, zI_clamp, ck_z, ckp_z, qb_z, qb_z0, Option.bind_some]; omega
    refine ⟨hang, ?_, hh, fun h => ⟨h, fun k a c => by omega⟩, fun h => h.1⟩
    rw [F_X8_reading_b320, if_pos l1]
  | d + 1, m + 1, x7, hang, hx, hx1, hm, hh => by
    have l1 : ¬ zI size < zI x7 := by simp (disch := omega) only [zl_0, zl_1, zl_2, zl_3, zl_4, zl_5, zl_6, zl_7, zl_8, zl_9, zl_10, zl_11, zl_12, zl_13, zl_14, zl_15, zl_16, zl_17, zl_18, zl_19, zl_20, zl_21, zl_22, zl_23, zl_24, zl_25, zl_26, zl_27, zl_28, zl_29, zl_30, zl_31, zl_32, zl_33, zl_34, zl_35, zl_36, zl_37, zl_38, zl_39, zl_40, zl_41, zl_42, zl_43, zl_44, zl_45, zl_46, zl_47, zl_48, zl_49, zl_50, zl_51, zl_52, zl_53, zl_54, zl_55, zl_56, zl_57, zl_58, zl_59, zl_60, zl_61, zl_62, zl_63, zl_64, zl_65, zl_66, zl_80, zl_97, zl_99, zl_103, zl_107, zl_112, zl_115, zl_100, zl_180, zl_210, zl_238, zl_255, zl_256, zl_400, zl_1000, zl_1024, zl_1260, zl_2000, zl_7140, zl_7200, zl_18414, zl_65536, zl_131072, zl_9999, zl_999, zI_add, zI_sub, zI_mul, zI_neg, zI_lt, zI_le, zI_eq, zI_clamp, ck_z, ckp_z, qb_z, qb_z0, Option.bind_some]; omega
    have st := hσ x7 (by omega) (by omega)
    have sw := hσw.2 x7
    have ez : zI x7 + 1 = zI (x7 + 1) := by rw [zl_1, zI_add]
    rw [F_X8_reading_b320, if_neg l1, ez]
    unfold F_X8_reading_b344
    rcases hh with h0 | h0
    · subst h0
      by_cases hg : σ x7 = -2
      · obtain ⟨h', e, h1, h2⟩ := b320_z hσ hσw k17 p nT nQ nL nS nP nK ep ek ex x2 x4 size hs d m (x7 + 1) 0 (by omega) (by omega) (by omega) (Or.inl rfl)
        refine ⟨h', ?_, h1, ?_⟩
        · refine Eq.trans ?_ e
          rw [if_pos (by rfl), ck_z (by omega) (by omega) (by omega), zI_clamp (by omega) (by omega), st, hg, if_pos (by rfl)]
          rfl
        · rw [h2]
          refine ⟨fun x => ⟨rfl, fun k a c => ?_⟩, fun x => ⟨rfl, fun k a c => x.2 k (by omega) c⟩⟩
          by_cases y : k = x7
          · rw [y]; exact hg
          · exact x.2 k (by omega) c
      · obtain ⟨h', e, h1, h2⟩ := b320_z hσ hσw k17 p nT nQ nL nS nP nK ep ek ex x2 x4 size hs d m (x7 + 1) 1 (by omega) (by omega) (by omega) (Or.inr rfl)
        refine ⟨h', ?_, h1, ?_⟩
        · refine Eq.trans ?_ e
          have lg : ¬ zI (σ x7) = -2 := by simp (disch := omega) only [zl_0, zl_1, zl_2, zl_3, zl_4, zl_5, zl_6, zl_7, zl_8, zl_9, zl_10, zl_11, zl_12, zl_13, zl_14, zl_15, zl_16, zl_17, zl_18, zl_19, zl_20, zl_21, zl_22, zl_23, zl_24, zl_25, zl_26, zl_27, zl_28, zl_29, zl_30, zl_31, zl_32, zl_33, zl_34, zl_35, zl_36, zl_37, zl_38, zl_39, zl_40, zl_41, zl_42, zl_43, zl_44, zl_45, zl_46, zl_47, zl_48, zl_49, zl_50, zl_51, zl_52, zl_53, zl_54, zl_55, zl_56, zl_57, zl_58, zl_59, zl_60, zl_61, zl_62, zl_63, zl_64, zl_65, zl_66, zl_80, zl_97, zl_99, zl_103, zl_107, zl_112, zl_115, zl_100, zl_180, zl_210, zl_238, zl_255, zl_256, zl_400, zl_1000, zl_1024, zl_1260, zl_2000, zl_7140, zl_7200, zl_18414, zl_65536, zl_131072, zl_9999, zl_999, zI_add, zI_sub, zI_mul, zI_neg, zI_lt, zI_le, zI_eq, zI_clamp, ck_z, ckp_z, qb_z, qb_z0, Option.bind_some]; exact hg
          rw [if_pos (by rfl), ck_z (by omega) (by omega) (by omega), zI_clamp (by omega) (by omega), st, if_neg lg, ez]
          rfl
        · rw [h2]
          exact ⟨fun x => absurd x.1 (by omega), fun x => absurd (x.2 x7 (by omega) (by omega)) hg⟩
    · subst h0
      obtain ⟨h', e, h1, h2⟩ := b320_z hσ hσw k17 p nT nQ nL nS nP nK ep ek ex x2 x4 size hs d m (x7 + 1) 1 (by omega) (by omega) (by omega) (Or.inr rfl)
      refine ⟨h', ?_, h1, ?_⟩
      · refine Eq.trans ?_ e
        rw [if_neg (by decide), ez]
        rfl
      · rw [h2]
        exact ⟨fun x => absurd x.1 (by omega), fun x => absurd x.1 (by omega)⟩
end RA

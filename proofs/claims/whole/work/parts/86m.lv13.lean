noncomputable def bq (p : Prop) : Bool := @decide p (Classical.propDecidable p)
theorem bq_t {p : Prop} (h : p) : bq p = true := by unfold bq; exact @decide_eq_true p (Classical.propDecidable p) h
theorem bq_f {p : Prop} (h : ¬ p) : bq p = false := by unfold bq; exact @decide_eq_false p (Classical.propDecidable p) h
theorem bq_iff {p : Prop} : bq p = true ↔ p := ⟨fun h => by
  by_cases c : p
  · exact c
  · rw [bq_f c] at h; exact absurd h (by decide), bq_t⟩
theorem bq_c {p q : Prop} (h : p ↔ q) : bq p = bq q := by rw [propext h]
/-- the size s is allowed by the sizes z -/
def alw (z : Int) (s : Nat) : Bool := decide (z.toNat / 2 ^ (s / 2 - 1) % 2 = 1)
theorem alw_d : ∀ z, z < 16 → ∀ i, i < 4 → (nI z >>> (((nI (2 * i + 2) / 2) - 1) &&& 31)) &&& 1 = nI (z / 2 ^ i % 2) := by decide +kernel
theorem alw_e (z : Int) (s : Nat) (z0 : 0 ≤ z) (z1 : z ≤ 15) (hs : s = 2 ∨ s = 4 ∨ s = 6 ∨ s = 8) : (zI z >>> (((zI s / 2) - 1) &&& 31)) &&& 1 = zI (if alw z s then 1 else 0) := by
  obtain ⟨i, hi, rfl⟩ : ∃ i, i < 4 ∧ s = 2 * i + 2 := by
    rcases hs with rfl | rfl | rfl | rfl
    · exact ⟨0, by omega, by omega⟩
    · exact ⟨1, by omega, by omega⟩
    · exact ⟨2, by omega, by omega⟩
    · exact ⟨3, by omega, by omega⟩
  rw [← nI_zI (2 * i + 2), zI_nI z0, alw_d z.toNat (by omega) i hi, nI_zI]
  congr 1
  unfold alw
  rw [show (2 * i + 2) / 2 - 1 = i by omega]
  by_cases c : z.toNat / 2 ^ i % 2 = 1
  · rw [decide_eq_true c, if_pos rfl]; omega
  · rw [decide_eq_false c, if_neg (by decide)]; omega
theorem allows_z (z : Int) (s : Nat) (z0 : 0 ≤ z) (z1 : z ≤ 15) (hs : s = 2 ∨ s = 4 ∨ s = 6 ∨ s = 8) : F_X2_allows (zI z) (zI s) = some (alw z s) := by
  unfold F_X2_allows
  rw [alw_e z s z0 z1 hs]
  by_cases c : alw z s = true
  · rw [c, if_pos rfl, if_neg (by decide)]
  · rw [if_neg c, if_pos (by rfl)]
    cases e : alw z s
    · rfl
    · exact absurd e c
theorem hasSz {Λ : Book} {j : Int} {mz ms ml mp : NF} (hB : BkW Λ) (hR : RuB Λ j mz ms ml mp) (s : Nat) (hs : s = 2 ∨ s = 4 ∨ s = 6 ∨ s = 8) : F_X8_has mz (zI j) (zI s) = some (alw (bkZ Λ) s) := by
  have z0 := hB.2.2.1
  have z1 := hB.2.2.2.1
  obtain ⟨j0, j1, e, _⟩ := hR
  unfold F_X8_has
  rw [ck_z j0 (by omega) (by omega), zI_clamp (by omega) (by omega), e, alw_e _ s (by omega) z1 hs]
  by_cases c : alw (bkZ Λ) s = true
  · rw [c, if_pos rfl, if_pos (by rfl)]
  · rw [if_neg c, if_neg (by decide)]
    cases e : alw (bkZ Λ) s
    · rfl
    · exact absurd e c
/-- a quire of s places with the mask k may stand behind q quires that end with last, t leaves, half pairs of places -/
def QuM (Λ : Book) (q t half last : Int) (s k : Nat) : Prop := 1 ≤ thg k s s ∧ (s : Int) - thg k s s ≤ 4 ∧ t + thg k s s ≤ bkH Λ ∧ ∀ p : Nat, 1 ≤ p → p ≤ s → AgP Λ q t (2 * half) last s s k (bkH Λ) 1 p
theorem agrees_z {Λ : Book} {j : Int} {marks hangs cancels mz ms ml mp : NF} (hB : BkW Λ) (hL : LvM Λ marks hangs cancels) (hR : RuB Λ j mz ms ml mp) (q t a last : Int) (s U k : Nat) (c f : Int) (q0 : 0 ≤ q) (q1 : q < 8) (t0 : 0 ≤ t) (a0 : 0 ≤ a) (a1 : a ≤ 100) (hla : last = 0 ∨ (last = 1 ∧ 1 ≤ t)) (hs : s ≤ 8) (hU : U ≤ s) (hk : k < 256) (c0 : 0 ≤ c) (c1 : c ≤ 100) (hf : f = 0 ∨ f = 1) (hH : t + thg k U U ≤ bkH Λ) (ein : NF) : ∃ e', F_X8_agrees marks ms ml mp (zI j) hangs cancels ein (zI q) (zI t) (zI a) (zI last) (zI s) (zI U) (nI k) (zI c) (zI f) = some (bq (∀ p : Nat, 1 ≤ p → p ≤ U → AgP Λ q t a last s U k c f p), e') := by
  have e := agrees_b10_z hB hL hR q t a last s U k c f q0 q1 t0 a0 a1 hla hs hU hk c0 c1 hf hH U FU 0 ein (by omega) (by unfold FU; omega) (fun r r1 r2 => by omega)
  have h0 : thg k U 0 = 0 := rfl
  have p0 : pvt k U last 0 = last := by unfold pvt; rw [if_pos rfl]
  rw [h0, p0, Int.add_zero] at e
  unfold F_X8_agrees
  rcases e with ⟨⟨e', e1⟩, e2⟩ | ⟨⟨e', e1⟩, r, r1, r2, r3⟩
  · exact ⟨e', by rw [bq_t (fun p p1 p2 => e2 p (by omega) p2)]; exact e1⟩
  · exact ⟨e', by rw [bq_f (fun w => r3 (w r (by omega) r2))]; exact e1⟩
theorem isQuire_z {Λ : Book} {j : Int} {marks hangs cancels mz ms ml mp : NF} (hB : BkW Λ) (hL : LvM Λ marks hangs cancels) (hR : RuB Λ j mz ms ml mp) (q t half last : Int) (s k : Nat) (q0 : 0 ≤ q) (q1 : q < 8) (t0 : 0 ≤ t) (t1 : t ≤ 30) (a0 : 0 ≤ half) (a1 : half ≤ 50) (hla : last = 0 ∨ (last = 1 ∧ 1 ≤ t)) (hs : s ≤ 8) (hk : k < 2 ^ s) (ein : NF) : ∃ e', F_X8_isQuire marks ms ml mp (zI j) (zI (bkH Λ)) hangs cancels ein (zI q) (zI t) (zI half) (zI last) (zI s) (nI k) = some (bq (QuM Λ q t half last s k), e') := by
  have hk8 : k < 256 := Nat.lt_of_lt_of_le hk (show 2 ^ s ≤ 2 ^ 8 from Nat.pow_le_pow_right (by omega) hs)
  have tp := thg_popc s (by omega) k hk
  have tb := thg_b k s s
  have h30 := hB.2.1
  have h00 := hB.1
  have ep : zI (s : Int) - zI (popc k : Int) = zI (thg k s s) := by rw [zI_sub]; congr 1; omega
  have eg : zI (s : Int) - zI (thg k s s) = zI ((s : Int) - thg k s s) := by rw [zI_sub]
  have et : zI t + zI (thg k s s) = zI (t + thg k s s) := by rw [zI_add]
  have eh : (2 : Int32) * zI half = zI (2 * half) := by rw [zl_2, zI_mul]
  unfold F_X8_isQuire
  rw [ones_z k hk8, Option.bind_some, ep, eg, et, eh]
  by_cases c1 : 1 ≤ thg k s s
  · have l1 : ¬ zI (thg k s s) < 1 := by simp (disch := omega) only [zl_0, zl_1, zl_2, zl_3, zl_4, zl_5, zl_6, zl_7, zl_8, zl_9, zl_10, zl_11, zl_12, zl_13, zl_14, zl_15, zl_16, zl_17, zl_18, zl_19, zl_20, zl_21, zl_22, zl_23, zl_24, zl_25, zl_26, zl_27, zl_28, zl_29, zl_30, zl_31, zl_32, zl_33, zl_34, zl_35, zl_36, zl_37, zl_38, zl_39, zl_40, zl_41, zl_42, zl_43, zl_44, zl_45, zl_46, zl_47, zl_48, zl_49, zl_50, zl_51, zl_52, zl_53, zl_54, zl_55, zl_56, zl_57, zl_58, zl_59, zl_60, zl_61, zl_62, zl_63, zl_64, zl_65, zl_66, zl_80, zl_97, zl_99, zl_103, zl_107, zl_112, zl_115, zl_100, zl_180, zl_210, zl_238, zl_255, zl_256, zl_400, zl_1000, zl_1024, zl_1260, zl_2000, zl_7140, zl_7200, zl_18414, zl_65536, zl_131072, zl_9999, zl_999, zI_add, zI_sub, zI_mul, zI_neg, zI_lt, zI_le, zI_eq, zI_clamp, ck_z, ckp_z, qb_z, qb_z0, Option.bind_some]; omega
    rw [if_neg l1]
    by_cases c2 : (s : Int) - thg k s s ≤ 4
    · have l2 : ¬ 4 < zI ((s : Int) - thg k s s) := by simp (disch := omega) only [zl_0, zl_1, zl_2, zl_3, zl_4, zl_5, zl_6, zl_7, zl_8, zl_9, zl_10, zl_11, zl_12, zl_13, zl_14, zl_15, zl_16, zl_17, zl_18, zl_19, zl_20, zl_21, zl_22, zl_23, zl_24, zl_25, zl_26, zl_27, zl_28, zl_29, zl_30, zl_31, zl_32, zl_33, zl_34, zl_35, zl_36, zl_37, zl_38, zl_39, zl_40, zl_41, zl_42, zl_43, zl_44, zl_45, zl_46, zl_47, zl_48, zl_49, zl_50, zl_51, zl_52, zl_53, zl_54, zl_55, zl_56, zl_57, zl_58, zl_59, zl_60, zl_61, zl_62, zl_63, zl_64, zl_65, zl_66, zl_80, zl_97, zl_99, zl_103, zl_107, zl_112, zl_115, zl_100, zl_180, zl_210, zl_238, zl_255, zl_256, zl_400, zl_1000, zl_1024, zl_1260, zl_2000, zl_7140, zl_7200, zl_18414, zl_65536, zl_131072, zl_9999, zl_999, zI_add, zI_sub, zI_mul, zI_neg, zI_lt, zI_le, zI_eq, zI_clamp, ck_z, ckp_z, qb_z, qb_z0, Option.bind_some]; omega
      rw [if_neg l2]
      by_cases c3 : t + thg k s s ≤ bkH Λ
      · have l3 : zI (t + thg k s s) ≤ zI (bkH Λ) := by simp (disch := omega) only [zl_0, zl_1, zl_2, zl_3, zl_4, zl_5, zl_6, zl_7, zl_8, zl_9, zl_10, zl_11, zl_12, zl_13, zl_14, zl_15, zl_16, zl_17, zl_18, zl_19, zl_20, zl_21, zl_22, zl_23, zl_24, zl_25, zl_26, zl_27, zl_28, zl_29, zl_30, zl_31, zl_32, zl_33, zl_34, zl_35, zl_36, zl_37, zl_38, zl_39, zl_40, zl_41, zl_42, zl_43, zl_44, zl_45, zl_46, zl_47, zl_48, zl_49, zl_50, zl_51, zl_52, zl_53, zl_54, zl_55, zl_56, zl_57, zl_58, zl_59, zl_60, zl_61, zl_62, zl_63, zl_64, zl_65, zl_66, zl_80, zl_97, zl_99, zl_103, zl_107, zl_112, zl_115, zl_100, zl_180, zl_210, zl_238, zl_255, zl_256, zl_400, zl_1000, zl_1024, zl_1260, zl_2000, zl_7140, zl_7200, zl_18414, zl_65536, zl_131072, zl_9999, zl_999, zI_add, zI_sub, zI_mul, zI_neg, zI_lt, zI_le, zI_eq, zI_clamp, ck_z, ckp_z, qb_z, qb_z0, Option.bind_some]; exact c3
        obtain ⟨e', he⟩ := agrees_z hB hL hR q t (2 * half) last s s k (bkH Λ) 1 q0 q1 t0 (by omega) (by omega) hla hs (Nat.le_refl s) hk8 hB.1 (by omega) (Or.inr rfl) c3 ein
        have eq : (∀ p : Nat, 1 ≤ p → p ≤ s → AgP Λ q t (2 * half) last s s k (bkH Λ) 1 p) ↔ QuM Λ q t half last s k := ⟨fun w => ⟨c1, c2, c3, w⟩, fun w => w.2.2.2⟩
        rw [bq_c eq] at he
        refine ⟨e', ?_⟩
        unfold F_X8_isQuire_b56
        rw [if_pos l3]
        rcases hla with rfl | ⟨rfl, _⟩
        · rw [if_neg (by decide)]
          have he2 : F_X8_agrees marks ms ml mp (zI j) hangs cancels ein (zI q) (zI t) (zI (2 * half)) 0 (zI s) (zI s) (nI k) (zI (bkH Λ)) 1 = some (bq (QuM Λ q t half 0 s k), e') := he
          rw [he2]; rfl
        · rw [if_pos (by rfl)]
          have he2 : F_X8_agrees marks ms ml mp (zI j) hangs cancels ein (zI q) (zI t) (zI (2 * half)) 1 (zI s) (zI s) (nI k) (zI (bkH Λ)) 1 = some (bq (QuM Λ q t half 1 s k), e') := he
          rw [he2]; rfl
      · have l3 : ¬ zI (t + thg k s s) ≤ zI (bkH Λ) := by simp (disch := omega) only [zl_0, zl_1, zl_2, zl_3, zl_4, zl_5, zl_6, zl_7, zl_8, zl_9, zl_10, zl_11, zl_12, zl_13, zl_14, zl_15, zl_16, zl_17, zl_18, zl_19, zl_20, zl_21, zl_22, zl_23, zl_24, zl_25, zl_26, zl_27, zl_28, zl_29, zl_30, zl_31, zl_32, zl_33, zl_34, zl_35, zl_36, zl_37, zl_38, zl_39, zl_40, zl_41, zl_42, zl_43, zl_44, zl_45, zl_46, zl_47, zl_48, zl_49, zl_50, zl_51, zl_52, zl_53, zl_54, zl_55, zl_56, zl_57, zl_58, zl_59, zl_60, zl_61, zl_62, zl_63, zl_64, zl_65, zl_66, zl_80, zl_97, zl_99, zl_103, zl_107, zl_112, zl_115, zl_100, zl_180, zl_210, zl_238, zl_255, zl_256, zl_400, zl_1000, zl_1024, zl_1260, zl_2000, zl_7140, zl_7200, zl_18414, zl_65536, zl_131072, zl_9999, zl_999, zI_add, zI_sub, zI_mul, zI_neg, zI_lt, zI_le, zI_eq, zI_clamp, ck_z, ckp_z, qb_z, qb_z0, Option.bind_some]; exact c3
        rw [if_neg l3, bq_f (fun w => c3 w.2.2.1)]
        exact ⟨_, rfl⟩
    · have l2 : 4 < zI ((s : Int) - thg k s s) := by simp (disch := omega) only [zl_0, zl_1, zl_2, zl_3, zl_4, zl_5, zl_6, zl_7, zl_8, zl_9, zl_10, zl_11, zl_12, zl_13, zl_14, zl_15, zl_16, zl_17, zl_18, zl_19, zl_20, zl_21, zl_22, zl_23, zl_24, zl_25, zl_26, zl_27, zl_28, zl_29, zl_30, zl_31, zl_32, zl_33, zl_34, zl_35, zl_36, zl_37, zl_38, zl_39, zl_40, zl_41, zl_42, zl_43, zl_44, zl_45, zl_46, zl_47, zl_48, zl_49, zl_50, zl_51, zl_52, zl_53, zl_54, zl_55, zl_56, zl_57, zl_58, zl_59, zl_60, zl_61, zl_62, zl_63, zl_64, zl_65, zl_66, zl_80, zl_97, zl_99, zl_103, zl_107, zl_112, zl_115, zl_100, zl_180, zl_210, zl_238, zl_255, zl_256, zl_400, zl_1000, zl_1024, zl_1260, zl_2000, zl_7140, zl_7200, zl_18414, zl_65536, zl_131072, zl_9999, zl_999, zI_add, zI_sub, zI_mul, zI_neg, zI_lt, zI_le, zI_eq, zI_clamp, ck_z, ckp_z, qb_z, qb_z0, Option.bind_some]; omega
      rw [if_pos l2, bq_f (fun w => c2 w.2.1)]
      exact ⟨_, rfl⟩
  · have l1 : zI (thg k s s) < 1 := by simp (disch := omega) only [zl_0, zl_1, zl_2, zl_3, zl_4, zl_5, zl_6, zl_7, zl_8, zl_9, zl_10, zl_11, zl_12, zl_13, zl_14, zl_15, zl_16, zl_17, zl_18, zl_19, zl_20, zl_21, zl_22, zl_23, zl_24, zl_25, zl_26, zl_27, zl_28, zl_29, zl_30, zl_31, zl_32, zl_33, zl_34, zl_35, zl_36, zl_37, zl_38, zl_39, zl_40, zl_41, zl_42, zl_43, zl_44, zl_45, zl_46, zl_47, zl_48, zl_49, zl_50, zl_51, zl_52, zl_53, zl_54, zl_55, zl_56, zl_57, zl_58, zl_59, zl_60, zl_61, zl_62, zl_63, zl_64, zl_65, zl_66, zl_80, zl_97, zl_99, zl_103, zl_107, zl_112, zl_115, zl_100, zl_180, zl_210, zl_238, zl_255, zl_256, zl_400, zl_1000, zl_1024, zl_1260, zl_2000, zl_7140, zl_7200, zl_18414, zl_65536, zl_131072, zl_9999, zl_999, zI_add, zI_sub, zI_mul, zI_neg, zI_lt, zI_le, zI_eq, zI_clamp, ck_z, ckp_z, qb_z, qb_z0, Option.bind_some]; omega
    rw [if_pos l1, bq_f (fun w => c1 w.1)]
    exact ⟨_, rfl⟩
/-- the number of a state -/
def stn (q t half last : Int) : Int := 2 * (33 * (31 * q + t) + half) + last
theorem state_z (q t half last : Int) : F_X8_state (zI q) (zI t) (zI half) (zI last) = some (zI (stn q t half last)) := by
  unfold F_X8_state stn
  rw [zl_2, show (33 : Int32) = zI 33 from rfl, show (31 : Int32) = zI 31 from rfl]
  simp only [zI_mul, zI_add]
theorem and1_m : ∀ k, k < 256 → (1 : Int32) - (nI k &&& 1) = zI (if k % 2 = 1 then 0 else 1) := by decide +kernel
/-- whether the mask's last place is a leaf -/
def enl (k : Nat) : Int := if k % 2 = 1 then 0 else 1
theorem behindQ_z (q t half : Int) (s k : Nat) (hs : s = 2 ∨ s = 4 ∨ s = 6 ∨ s = 8) (hk : k < 2 ^ s) : F_X8_behind (zI q) (zI t) (zI half) (zI s) (nI k) = some (zI (stn (q + 1) (t + thg k s s) (half + (s / 2 : Nat)) (enl k))) := by
  have hk8 : k < 256 := Nat.lt_of_lt_of_le hk (show 2 ^ s ≤ 2 ^ 8 from Nat.pow_le_pow_right (by omega) (by omega))
  have tp := thg_popc s (by omega) k hk
  unfold F_X8_behind
  have e1 : zI q + 1 = zI (q + 1) := by rw [zl_1, zI_add]
  have e2 : zI t + zI (s : Int) - zI (popc k : Int) = zI (t + thg k s s) := by rw [zI_add, zI_sub]; congr 1; omega
  have e3 : zI (s : Int) / 2 = zI ((s / 2 : Nat) : Int) := by
    rw [zl_2, divz (by omega) (by omega) (by omega) (by omega)]; congr 1
  rw [ones_z k hk8, Option.bind_some, e1, e2, e3, zI_add, and1_m k hk8]
  have := state_z (q + 1) (t + thg k s s) (half + (s / 2 : Nat)) (enl k)
  unfold enl at this ⊢
  rw [this]
  rfl
theorem Han_s {Λ : Book} {a b : Int} : Han Λ a b ↔ Han Λ b a := by
  constructor
  · intro ⟨h1, h2⟩
    exact ⟨by omega, by omega⟩
  · intro ⟨h1, h2⟩
    exact ⟨by omega, by omega⟩
/-- the leaf h may stand in quire q by its letter -/
abbrev LtO (Λ : Book) (q h : Int) : Prop := bkM Λ 0 h = 0 ∨ bkM Λ 0 h = bkL Λ + q
theorem reach_b2_z {Λ : Book} {letters : NF} (hB : BkW Λ) (hn : ∀ h, 0 ≤ h → h < bkH Λ → letters h.toNat = zI (bkM Λ 0 h)) (t q : Int) (t0 : 0 ≤ t) (t1 : t ≤ 30) (q0 : 0 ≤ q) (q1 : q ≤ 8) : ∀ (d m n : Nat), n + d = 8 → d < m → (∀ i : Int, 0 ≤ i → i < n → t + i < bkH Λ ∧ LtO Λ q (t + i)) → ∃ n' : Nat, F_X2_reach_b2 (zI (bkH Λ)) letters (zI (bkL Λ)) m (zI t) (zI q) (zI n) = some (zI n') ∧ n' ≤ 8 ∧ (∀ i : Int, 0 ≤ i → i < n' → t + i < bkH Λ ∧ LtO Λ q (t + i)) ∧ (n' < 8 → ¬ (t + n' < bkH Λ ∧ LtO Λ q (t + n')))
  | 0, m + 1, n, hd, _, hI => by
    have l : 8 ≤ zI (n : Int) := by simp (disch := omega) only [zl_0, zl_1, zl_2, zl_3, zl_4, zl_5, zl_6, zl_7, zl_8, zl_9, zl_10, zl_11, zl_12, zl_13, zl_14, zl_15, zl_16, zl_17, zl_18, zl_19, zl_20, zl_21, zl_22, zl_23, zl_24, zl_25, zl_26, zl_27, zl_28, zl_29, zl_30, zl_31, zl_32, zl_33, zl_34, zl_35, zl_36, zl_37, zl_38, zl_39, zl_40, zl_41, zl_42, zl_43, zl_44, zl_45, zl_46, zl_47, zl_48, zl_49, zl_50, zl_51, zl_52, zl_53, zl_54, zl_55, zl_56, zl_57, zl_58, zl_59, zl_60, zl_61, zl_62, zl_63, zl_64, zl_65, zl_66, zl_80, zl_97, zl_99, zl_103, zl_107, zl_112, zl_115, zl_100, zl_180, zl_210, zl_238, zl_255, zl_256, zl_400, zl_1000, zl_1024, zl_1260, zl_2000, zl_7140, zl_7200, zl_18414, zl_65536, zl_131072, zl_9999, zl_999, zI_add, zI_sub, zI_mul, zI_neg, zI_lt, zI_le, zI_eq, zI_clamp, ck_z, ckp_z, qb_z, qb_z0, Option.bind_some]; omega
    rw [F_X2_reach_b2, if_pos l]
    exact ⟨n, rfl, by omega, hI, fun w => by omega⟩
  | d + 1, m + 1, n, hd, hm, hI => by
    obtain ⟨_, b2, _, _, _, _, l0, l1, _, _, hk⟩ := id hB
    have l : ¬ 8 ≤ zI (n : Int) := by simp (disch := omega) only [zl_0, zl_1, zl_2, zl_3, zl_4, zl_5, zl_6, zl_7, zl_8, zl_9, zl_10, zl_11, zl_12, zl_13, zl_14, zl_15, zl_16, zl_17, zl_18, zl_19, zl_20, zl_21, zl_22, zl_23, zl_24, zl_25, zl_26, zl_27, zl_28, zl_29, zl_30, zl_31, zl_32, zl_33, zl_34, zl_35, zl_36, zl_37, zl_38, zl_39, zl_40, zl_41, zl_42, zl_43, zl_44, zl_45, zl_46, zl_47, zl_48, zl_49, zl_50, zl_51, zl_52, zl_53, zl_54, zl_55, zl_56, zl_57, zl_58, zl_59, zl_60, zl_61, zl_62, zl_63, zl_64, zl_65, zl_66, zl_80, zl_97, zl_99, zl_103, zl_107, zl_112, zl_115, zl_100, zl_180, zl_210, zl_238, zl_255, zl_256, zl_400, zl_1000, zl_1024, zl_1260, zl_2000, zl_7140, zl_7200, zl_18414, zl_65536, zl_131072, zl_9999, zl_999, zI_add, zI_sub, zI_mul, zI_neg, zI_lt, zI_le, zI_eq, zI_clamp, ck_z, ckp_z, qb_z, qb_z0, Option.bind_some]; omega
    have l2 : ¬ zI t < 0 := by simp (disch := omega) only [zl_0, zl_1, zl_2, zl_3, zl_4, zl_5, zl_6, zl_7, zl_8, zl_9, zl_10, zl_11, zl_12, zl_13, zl_14, zl_15, zl_16, zl_17, zl_18, zl_19, zl_20, zl_21, zl_22, zl_23, zl_24, zl_25, zl_26, zl_27, zl_28, zl_29, zl_30, zl_31, zl_32, zl_33, zl_34, zl_35, zl_36, zl_37, zl_38, zl_39, zl_40, zl_41, zl_42, zl_43, zl_44, zl_45, zl_46, zl_47, zl_48, zl_49, zl_50, zl_51, zl_52, zl_53, zl_54, zl_55, zl_56, zl_57, zl_58, zl_59, zl_60, zl_61, zl_62, zl_63, zl_64, zl_65, zl_66, zl_80, zl_97, zl_99, zl_103, zl_107, zl_112, zl_115, zl_100, zl_180, zl_210, zl_238, zl_255, zl_256, zl_400, zl_1000, zl_1024, zl_1260, zl_2000, zl_7140, zl_7200, zl_18414, zl_65536, zl_131072, zl_9999, zl_999, zI_add, zI_sub, zI_mul, zI_neg, zI_lt, zI_le, zI_eq, zI_clamp, ck_z, ckp_z, qb_z, qb_z0, Option.bind_some]; omega
    have ea : zI t + zI (n : Int) = zI (t + n) := zI_add _ _
    have eb : zI (n : Int) + 1 = zI ((n + 1 : Nat) : Int) := by rw [zl_1, zI_add]; congr 1
    have eq : zI (bkL Λ) + zI q = zI (bkL Λ + q) := zI_add _ _
    rw [F_X2_reach_b2, if_neg l, if_neg l2, ea, eb, eq]
    by_cases c : t + n < bkH Λ
    · have l3 : ¬ zI (bkH Λ) ≤ zI (t + n) := by simp (disch := omega) only [zl_0, zl_1, zl_2, zl_3, zl_4, zl_5, zl_6, zl_7, zl_8, zl_9, zl_10, zl_11, zl_12, zl_13, zl_14, zl_15, zl_16, zl_17, zl_18, zl_19, zl_20, zl_21, zl_22, zl_23, zl_24, zl_25, zl_26, zl_27, zl_28, zl_29, zl_30, zl_31, zl_32, zl_33, zl_34, zl_35, zl_36, zl_37, zl_38, zl_39, zl_40, zl_41, zl_42, zl_43, zl_44, zl_45, zl_46, zl_47, zl_48, zl_49, zl_50, zl_51, zl_52, zl_53, zl_54, zl_55, zl_56, zl_57, zl_58, zl_59, zl_60, zl_61, zl_62, zl_63, zl_64, zl_65, zl_66, zl_80, zl_97, zl_99, zl_103, zl_107, zl_112, zl_115, zl_100, zl_180, zl_210, zl_238, zl_255, zl_256, zl_400, zl_1000, zl_1024, zl_1260, zl_2000, zl_7140, zl_7200, zl_18414, zl_65536, zl_131072, zl_9999, zl_999, zI_add, zI_sub, zI_mul, zI_neg, zI_lt, zI_le, zI_eq, zI_clamp, ck_z, ckp_z, qb_z, qb_z0, Option.bind_some]; omega
      have e := hn (t + n) (by omega) c
      have m0 := (hk (t + n) (by omega) c).1 0 (by omega)
      have cz {α : Type} (o : Option α) : ck (inb (zI (t + n)) 30) o = o := ck_z (by omega) (by omega) (by omega)
      have clz : (zI (t + n)).toNatClampNeg = (t + n).toNat := zI_clamp (by omega) (by omega)
      have nxt (g : LtO Λ q (t + n)) := reach_b2_z hB hn t q t0 t1 q0 q1 d m (n + 1) (by omega) (by omega) (fun i i0 i1 => by
        by_cases x : i = n
        · rw [x]; exact ⟨c, g⟩
        · exact hI i i0 (by omega))
      rw [if_neg l3, cz, cz, clz, e]
      by_cases g1 : bkM Λ 0 (t + n) = 0
      · have q2 : zI (bkM Λ 0 (t + n)) = 0 := by rw [g1]; rfl
        rw [if_pos q2]
        exact nxt (Or.inl g1)
      · have q2 : ¬ zI (bkM Λ 0 (t + n)) = 0 := by simp (disch := omega) only [zl_0, zl_1, zl_2, zl_3, zl_4, zl_5, zl_6, zl_7, zl_8, zl_9, zl_10, zl_11, zl_12, zl_13, zl_14, zl_15, zl_16, zl_17, zl_18, zl_19, zl_20, zl_21, zl_22, zl_23, zl_24, zl_25, zl_26, zl_27, zl_28, zl_29, zl_30, zl_31, zl_32, zl_33, zl_34, zl_35, zl_36, zl_37, zl_38, zl_39, zl_40, zl_41, zl_42, zl_43, zl_44, zl_45, zl_46, zl_47, zl_48, zl_49, zl_50, zl_51, zl_52, zl_53, zl_54, zl_55, zl_56, zl_57, zl_58, zl_59, zl_60, zl_61, zl_62, zl_63, zl_64, zl_65, zl_66, zl_80, zl_97, zl_99, zl_103, zl_107, zl_112, zl_115, zl_100, zl_180, zl_210, zl_238, zl_255, zl_256, zl_400, zl_1000, zl_1024, zl_1260, zl_2000, zl_7140, zl_7200, zl_18414, zl_65536, zl_131072, zl_9999, zl_999, zI_add, zI_sub, zI_mul, zI_neg, zI_lt, zI_le, zI_eq, zI_clamp, ck_z, ckp_z, qb_z, qb_z0, Option.bind_some]; exact g1
        rw [if_neg q2]
        by_cases g2 : bkM Λ 0 (t + n) = bkL Λ + q
        · have q3 : zI (bkM Λ 0 (t + n)) = zI (bkL Λ + q) := by rw [g2]
          rw [if_pos q3]
          exact nxt (Or.inr g2)
        · have q3 : ¬ zI (bkM Λ 0 (t + n)) = zI (bkL Λ + q) := by simp (disch := omega) only [zl_0, zl_1, zl_2, zl_3, zl_4, zl_5, zl_6, zl_7, zl_8, zl_9, zl_10, zl_11, zl_12, zl_13, zl_14, zl_15, zl_16, zl_17, zl_18, zl_19, zl_20, zl_21, zl_22, zl_23, zl_24, zl_25, zl_26, zl_27, zl_28, zl_29, zl_30, zl_31, zl_32, zl_33, zl_34, zl_35, zl_36, zl_37, zl_38, zl_39, zl_40, zl_41, zl_42, zl_43, zl_44, zl_45, zl_46, zl_47, zl_48, zl_49, zl_50, zl_51, zl_52, zl_53, zl_54, zl_55, zl_56, zl_57, zl_58, zl_59, zl_60, zl_61, zl_62, zl_63, zl_64, zl_65, zl_66, zl_80, zl_97, zl_99, zl_103, zl_107, zl_112, zl_115, zl_100, zl_180, zl_210, zl_238, zl_255, zl_256, zl_400, zl_1000, zl_1024, zl_1260, zl_2000, zl_7140, zl_7200, zl_18414, zl_65536, zl_131072, zl_9999, zl_999, zI_add, zI_sub, zI_mul, zI_neg, zI_lt, zI_le, zI_eq, zI_clamp, ck_z, ckp_z, qb_z, qb_z0, Option.bind_some]; exact g2
          rw [if_neg q3]
          exact ⟨n, rfl, by omega, hI, fun _ w => by rcases w.2 with w2 | w2; exact g1 w2; exact g2 w2⟩
    · have l3 : zI (bkH Λ) ≤ zI (t + n) := by simp (disch := omega) only [zl_0, zl_1, zl_2, zl_3, zl_4, zl_5, zl_6, zl_7, zl_8, zl_9, zl_10, zl_11, zl_12, zl_13, zl_14, zl_15, zl_16, zl_17, zl_18, zl_19, zl_20, zl_21, zl_22, zl_23, zl_24, zl_25, zl_26, zl_27, zl_28, zl_29, zl_30, zl_31, zl_32, zl_33, zl_34, zl_35, zl_36, zl_37, zl_38, zl_39, zl_40, zl_41, zl_42, zl_43, zl_44, zl_45, zl_46, zl_47, zl_48, zl_49, zl_50, zl_51, zl_52, zl_53, zl_54, zl_55, zl_56, zl_57, zl_58, zl_59, zl_60, zl_61, zl_62, zl_63, zl_64, zl_65, zl_66, zl_80, zl_97, zl_99, zl_103, zl_107, zl_112, zl_115, zl_100, zl_180, zl_210, zl_238, zl_255, zl_256, zl_400, zl_1000, zl_1024, zl_1260, zl_2000, zl_7140, zl_7200, zl_18414, zl_65536, zl_131072, zl_9999, zl_999, zI_add, zI_sub, zI_mul, zI_neg, zI_lt, zI_le, zI_eq, zI_clamp, ck_z, ckp_z, qb_z, qb_z0, Option.bind_some]; omega
      rw [if_pos l3]
      exact ⟨n, rfl, by omega, hI, fun _ w => c w.1⟩
/-- the first m from t on may stand in quire q by their letters -/
def Rch (Λ : Book) (t q m : Int) : Prop := ∀ i : Int, 0 ≤ i → i < m → t + i < bkH Λ ∧ LtO Λ q (t + i)
theorem reach_z {Λ : Book} {letters : NF} (hB : BkW Λ) (hn : ∀ h, 0 ≤ h → h < bkH Λ → letters h.toNat = zI (bkM Λ 0 h)) (t q : Int) (t0 : 0 ≤ t) (t1 : t ≤ 30) (q0 : 0 ≤ q) (q1 : q ≤ 8) : ∃ n : Int, F_X2_reach (zI (bkH Λ)) letters (zI (bkL Λ)) (zI t) (zI q) = some (zI n) ∧ 0 ≤ n ∧ n ≤ 8 ∧ ∀ m, 0 ≤ m → m ≤ 8 → (m ≤ n ↔ Rch Λ t q m) := by
  obtain ⟨n, e, n8, h1, h2⟩ := reach_b2_z hB hn t q t0 t1 q0 q1 8 FU 0 (by omega) (by unfold FU; omega) (fun i i0 i1 => by omega)
  refine ⟨n, e, by omega, by omega, fun m m0 m1 => ⟨fun w i i0 i1 => h1 i i0 (by omega), fun w => ?_⟩⟩
  by_cases c : m ≤ n
  · exact c
  · exact absurd (w n (by omega) (by omega)) (h2 (by omega))

def nr (q hc t jb : Int) : Int := ((q * 15 + hc) * 30 + t) * 2 + jb
theorem nr_b {q hc t jb : Int} (q0 : 0 ≤ q) (q1 : q < 8) (h0 : 0 ≤ hc) (h1 : hc < 15) (t0 : 0 ≤ t) (t1 : t < 30) (hj : jb = 0 ∨ jb = 1) : 0 ≤ nr q hc t jb ∧ nr q hc t jb < 7200 := by
  unfold nr
  omega
/-- some state of that quire, leaf and half is known -/
def WI (ld : Int) (bests : NF) (q t hc cut : Int) : Prop := Kn ld bests (nr q hc t 0) ∨ (cut = 0 ∧ Kn ld bests (nr q hc t 1))
theorem wasIn_z (ld : Int) (bests : NF) (q t hc cut : Int) (q0 : 0 ≤ q) (q1 : q < 8) (h0 : 0 ≤ hc) (h1 : hc < 15) (t0 : 0 ≤ t) (t1 : t < 30) (hcut : cut = 0 ∨ cut = 1) : F_X4_wasIn (zI ld) bests (zI q) (zI t) (zI hc) (zI cut) = some (bq (WI ld bests q t hc cut)) := by
  have b0 := nr_b (jb := 0) q0 q1 h0 h1 t0 t1 (Or.inl rfl)
  have b1 := nr_b (jb := 1) q0 q1 h0 h1 t0 t1 (Or.inr rfl)
  have n0 : F_X4_numberOf (zI q) (zI t) (zI hc) 0 = some (zI (nr q hc t 0)) := nbrOf_z q t hc 0 q0 q1 t0 t1 h0 h1 (Or.inl rfl)
  have n1 : F_X4_numberOf (zI q) (zI t) (zI hc) 1 = some (zI (nr q hc t 1)) := nbrOf_z q t hc 1 q0 q1 t0 t1 h0 h1 (Or.inr rfl)
  unfold F_X4_wasIn
  rw [n0, Option.bind_some, isKnown_z ld bests _ b0.1 b0.2, Option.bind_some]
  by_cases k0 : Kn ld bests (nr q hc t 0)
  · rw [bq_t k0, if_neg (show ¬ qb true = 0 by decide), bq_t (show WI ld bests q t hc cut from Or.inl k0)]
  · rw [bq_f k0, if_pos (show qb false = 0 from rfl)]
    rcases hcut with rfl | rfl
    · rw [if_pos (show zI 0 = 0 from rfl), n1, Option.bind_some, isKnown_z ld bests _ b1.1 b1.2, Option.bind_some]
      by_cases k1 : Kn ld bests (nr q hc t 1)
      · rw [bq_t k1, if_neg (show ¬ qb true = 0 by decide), bq_t (show WI ld bests q t hc 0 from Or.inr ⟨rfl, k1⟩)]
      · rw [bq_f k1, if_pos (show qb false = 0 from rfl), bq_f (fun w => by rcases w with w | w; exact k0 w; exact k1 w.2)]
    · rw [if_neg (by decide), bq_f (fun w => by rcases w with w | w; exact k0 w; exact absurd w.1 (by omega))]
section WR
variable {Λ : Book} {letters bests : NF} {ld : Int}
theorem wr_57 (KK : Int32 → Int32 → Int32 → Option Bool) (x0 : Int32) (th : Int32) (t cut ah : Int) (q : Nat) (hq : q < 8) (t0 : 0 ≤ t) (t1 : t < 30) (hcut : cut = 0 ∨ cut = 1) (ha0 : -1 ≤ ah) (ha1 : ah ≤ 9999) (y0 : Int32) : ∀ (d m hc : Nat), hc + d = 15 → d < m → (F_X4_wasReached_b57 x0 letters y0 th (zI ah) (zI ld) bests KK m (zI t) (zI cut) (zI q) (zI hc) = some true ∧ ∃ hc' : Nat, hc ≤ hc' ∧ hc' < 15 ∧ (ah = -1 ∨ ah = t + 2 * hc' + t % 2) ∧ WI ld bests q t hc' cut) ∨ (F_X4_wasReached_b57 x0 letters y0 th (zI ah) (zI ld) bests KK m (zI t) (zI cut) (zI q) (zI hc) = KK (zI t) (zI cut) (zI ((q + 1 : Nat) : Int)) ∧ ∀ hc' : Nat, hc ≤ hc' → hc' < 15 → ¬ ((ah = -1 ∨ ah = t + 2 * hc' + t % 2) ∧ WI ld bests q t hc' cut))
  | 0, m + 1, hc, hh, _ => by
    have ll : 15 ≤ zI (hc : Int) := by simp (disch := omega) only [zl_0, zl_1, zl_2, zl_3, zl_4, zl_5, zl_6, zl_7, zl_8, zl_9, zl_10, zl_11, zl_12, zl_13, zl_14, zl_15, zl_16, zl_17, zl_18, zl_19, zl_20, zl_21, zl_22, zl_23, zl_24, zl_25, zl_26, zl_27, zl_28, zl_29, zl_30, zl_31, zl_32, zl_33, zl_34, zl_35, zl_36, zl_37, zl_38, zl_39, zl_40, zl_41, zl_42, zl_43, zl_44, zl_45, zl_46, zl_47, zl_48, zl_49, zl_50, zl_51, zl_52, zl_53, zl_54, zl_55, zl_56, zl_57, zl_58, zl_59, zl_60, zl_61, zl_62, zl_63, zl_64, zl_65, zl_66, zl_80, zl_97, zl_99, zl_103, zl_107, zl_112, zl_115, zl_100, zl_180, zl_210, zl_238, zl_255, zl_256, zl_400, zl_1000, zl_1024, zl_1260, zl_2000, zl_7140, zl_7200, zl_18414, zl_65536, zl_131072, zl_9999, zl_999, zI_add, zI_sub, zI_mul, zI_neg, zI_lt, zI_le, zI_eq, zI_clamp, ck_z, ckp_z, qb_z, qb_z0, Option.bind_some]; omega
    have eq1 : zI (q : Int) + 1 = zI ((q + 1 : Nat) : Int) := by rw [zl_1, zI_add]; congr 1
    rw [F_X4_wasReached_b57, if_pos ll, eq1]
    exact Or.inr ⟨rfl, fun hc' a b => by omega⟩
  | d + 1, m + 1, hc, hh, hm => by
    have ll : ¬ 15 ≤ zI (hc : Int) := by simp (disch := omega) only [zl_0, zl_1, zl_2, zl_3, zl_4, zl_5, zl_6, zl_7, zl_8, zl_9, zl_10, zl_11, zl_12, zl_13, zl_14, zl_15, zl_16, zl_17, zl_18, zl_19, zl_20, zl_21, zl_22, zl_23, zl_24, zl_25, zl_26, zl_27, zl_28, zl_29, zl_30, zl_31, zl_32, zl_33, zl_34, zl_35, zl_36, zl_37, zl_38, zl_39, zl_40, zl_41, zl_42, zl_43, zl_44, zl_45, zl_46, zl_47, zl_48, zl_49, zl_50, zl_51, zl_52, zl_53, zl_54, zl_55, zl_56, zl_57, zl_58, zl_59, zl_60, zl_61, zl_62, zl_63, zl_64, zl_65, zl_66, zl_80, zl_97, zl_99, zl_103, zl_107, zl_112, zl_115, zl_100, zl_180, zl_210, zl_238, zl_255, zl_256, zl_400, zl_1000, zl_1024, zl_1260, zl_2000, zl_7140, zl_7200, zl_18414, zl_65536, zl_131072, zl_9999, zl_999, zI_add, zI_sub, zI_mul, zI_neg, zI_lt, zI_le, zI_eq, zI_clamp, ck_z, ckp_z, qb_z, qb_z0, Option.bind_some]; omega
    have eh : zI (hc : Int) + 1 = zI ((hc + 1 : Nat) : Int) := by rw [zl_1, zI_add]; congr 1
    have ep : zI t + (2 : Int32) * zI (hc : Int) + (zI t &&& 1) = zI (t + 2 * hc + t % 2) := by
      rw [and1_z t0 (by omega), zl_2, zI_mul, zI_add, zI_add]
    have on (hno : ¬ ((ah = -1 ∨ ah = t + 2 * (hc : Int) + t % 2) ∧ WI ld bests q t hc cut)) : (F_X4_wasReached_b57 x0 letters y0 th (zI ah) (zI ld) bests KK m (zI t) (zI cut) (zI q) (zI ((hc + 1 : Nat) : Int)) = some true ∧ ∃ hc' : Nat, hc ≤ hc' ∧ hc' < 15 ∧ (ah = -1 ∨ ah = t + 2 * hc' + t % 2) ∧ WI ld bests q t hc' cut) ∨ (F_X4_wasReached_b57 x0 letters y0 th (zI ah) (zI ld) bests KK m (zI t) (zI cut) (zI q) (zI ((hc + 1 : Nat) : Int)) = KK (zI t) (zI cut) (zI ((q + 1 : Nat) : Int)) ∧ ∀ hc' : Nat, hc ≤ hc' → hc' < 15 → ¬ ((ah = -1 ∨ ah = t + 2 * hc' + t % 2) ∧ WI ld bests q t hc' cut)) := by
      rcases wr_57 KK x0 th t cut ah q hq t0 t1 hcut ha0 ha1 y0 d m (hc + 1) (by omega) (by omega) with ⟨i1, hc', i2, i3⟩ | ⟨i1, i2⟩
      · exact Or.inl ⟨i1, hc', by omega, i3⟩
      · refine Or.inr ⟨i1, fun hc' a b w => ?_⟩
        by_cases e : hc' = hc
        · subst e; exact hno w
        · exact i2 hc' (by omega) b w
    have b99 (ha : ah = -1 ∨ ah = t + 2 * (hc : Int) + t % 2) (X : Option Bool) (hX : X = F_X4_wasReached_b99 x0 letters y0 th (zI ah) (zI ld) bests (fun x1 x2 x3 x4 => F_X4_wasReached_b57 x0 letters y0 th (zI ah) (zI ld) bests KK m x1 x2 x3 x4) (zI t) (zI cut) (zI q) (zI hc)) : (X = some true ∧ ∃ hc' : Nat, hc ≤ hc' ∧ hc' < 15 ∧ (ah = -1 ∨ ah = t + 2 * hc' + t % 2) ∧ WI ld bests q t hc' cut) ∨ (X = KK (zI t) (zI cut) (zI ((q + 1 : Nat) : Int)) ∧ ∀ hc' : Nat, hc ≤ hc' → hc' < 15 → ¬ ((ah = -1 ∨ ah = t + 2 * hc' + t % 2) ∧ WI ld bests q t hc' cut)) := by
      unfold F_X4_wasReached_b99 at hX
      rw [wasIn_z ld bests q t hc cut (by omega) (by omega) (by omega) (by omega) t0 t1 hcut, Option.bind_some, eh] at hX
      by_cases w : WI ld bests q t hc cut
      · rw [bq_t w, if_neg (show ¬ qb true = 0 by decide)] at hX
        exact Or.inl ⟨hX, hc, Nat.le_refl _, by omega, ha, w⟩
      · rw [bq_f w, if_pos (show qb false = 0 from rfl)] at hX
        rw [hX]
        exact on (fun y => w y.2)
    rw [F_X4_wasReached_b57, if_neg ll, ep, eh]
    by_cases c1 : ah = -1
    · have q1 : zI ah = -1 := by rw [c1]; rfl
      rw [if_pos q1]
      exact b99 (Or.inl c1) _ rfl
    · have q1 : ¬ zI ah = -1 := by simp (disch := omega) only [zl_0, zl_1, zl_2, zl_3, zl_4, zl_5, zl_6, zl_7, zl_8, zl_9, zl_10, zl_11, zl_12, zl_13, zl_14, zl_15, zl_16, zl_17, zl_18, zl_19, zl_20, zl_21, zl_22, zl_23, zl_24, zl_25, zl_26, zl_27, zl_28, zl_29, zl_30, zl_31, zl_32, zl_33, zl_34, zl_35, zl_36, zl_37, zl_38, zl_39, zl_40, zl_41, zl_42, zl_43, zl_44, zl_45, zl_46, zl_47, zl_48, zl_49, zl_50, zl_51, zl_52, zl_53, zl_54, zl_55, zl_56, zl_57, zl_58, zl_59, zl_60, zl_61, zl_62, zl_63, zl_64, zl_65, zl_66, zl_80, zl_97, zl_99, zl_103, zl_107, zl_112, zl_115, zl_100, zl_180, zl_210, zl_238, zl_255, zl_256, zl_400, zl_1000, zl_1024, zl_1260, zl_2000, zl_7140, zl_7200, zl_18414, zl_65536, zl_131072, zl_9999, zl_999, zI_add, zI_sub, zI_mul, zI_neg, zI_lt, zI_le, zI_eq, zI_clamp, ck_z, ckp_z, qb_z, qb_z0, Option.bind_some]; exact c1
      rw [if_neg q1]
      by_cases c2 : ah = t + 2 * (hc : Int) + t % 2
      · have q2 : zI ah = zI (t + 2 * (hc : Int) + t % 2) := by rw [← c2]
        rw [if_pos q2]
        exact b99 (Or.inr c2) _ rfl
      · have q2 : ¬ zI ah = zI (t + 2 * (hc : Int) + t % 2) := by simp (disch := omega) only [zl_0, zl_1, zl_2, zl_3, zl_4, zl_5, zl_6, zl_7, zl_8, zl_9, zl_10, zl_11, zl_12, zl_13, zl_14, zl_15, zl_16, zl_17, zl_18, zl_19, zl_20, zl_21, zl_22, zl_23, zl_24, zl_25, zl_26, zl_27, zl_28, zl_29, zl_30, zl_31, zl_32, zl_33, zl_34, zl_35, zl_36, zl_37, zl_38, zl_39, zl_40, zl_41, zl_42, zl_43, zl_44, zl_45, zl_46, zl_47, zl_48, zl_49, zl_50, zl_51, zl_52, zl_53, zl_54, zl_55, zl_56, zl_57, zl_58, zl_59, zl_60, zl_61, zl_62, zl_63, zl_64, zl_65, zl_66, zl_80, zl_97, zl_99, zl_103, zl_107, zl_112, zl_115, zl_100, zl_180, zl_210, zl_238, zl_255, zl_256, zl_400, zl_1000, zl_1024, zl_1260, zl_2000, zl_7140, zl_7200, zl_18414, zl_65536, zl_131072, zl_9999, zl_999, zI_add, zI_sub, zI_mul, zI_neg, zI_lt, zI_le, zI_eq, zI_clamp, ck_z, ckp_z, qb_z, qb_z0, Option.bind_some]; exact c2
        rw [if_neg q2]
        exact on (fun y => by rcases y.1 with y | y; exact c1 y; exact c2 y)
theorem wr_29 (hB : BkW Λ) (hn : ∀ h, 0 ≤ h → h < bkH Λ → letters h.toNat = zI (bkM Λ 0 h)) (th t cut ah : Int) (t0 : 0 ≤ t) (t1 : t < 30) (th0 : 0 ≤ th) (th1 : th ≤ 8) (hcut : cut = 0 ∨ cut = 1) (ha0 : -1 ≤ ah) (ha1 : ah ≤ 9999) : ∀ (d m q : Nat), q + d = 8 → d < m → F_X4_wasReached_b29 (zI (bkH Λ)) letters (zI (bkL Λ)) (zI th) (zI ah) (zI ld) bests m (zI t) (zI cut) (zI q) = some (bq (∃ q' : Nat, q ≤ q' ∧ q' < 8 ∧ Rch Λ t q' th ∧ ∃ hc' : Nat, hc' < 15 ∧ (ah = -1 ∨ ah = t + 2 * hc' + t % 2) ∧ WI ld bests q' t hc' cut))
  | 0, m + 1, q, hq, _ => by
    have ll : 8 ≤ zI (q : Int) := by simp (disch := omega) only [zl_0, zl_1, zl_2, zl_3, zl_4, zl_5, zl_6, zl_7, zl_8, zl_9, zl_10, zl_11, zl_12, zl_13, zl_14, zl_15, zl_16, zl_17, zl_18, zl_19, zl_20, zl_21, zl_22, zl_23, zl_24, zl_25, zl_26, zl_27, zl_28, zl_29, zl_30, zl_31, zl_32, zl_33, zl_34, zl_35, zl_36, zl_37, zl_38, zl_39, zl_40, zl_41, zl_42, zl_43, zl_44, zl_45, zl_46, zl_47, zl_48, zl_49, zl_50, zl_51, zl_52, zl_53, zl_54, zl_55, zl_56, zl_57, zl_58, zl_59, zl_60, zl_61, zl_62, zl_63, zl_64, zl_65, zl_66, zl_80, zl_97, zl_99, zl_103, zl_107, zl_112, zl_115, zl_100, zl_180, zl_210, zl_238, zl_255, zl_256, zl_400, zl_1000, zl_1024, zl_1260, zl_2000, zl_7140, zl_7200, zl_18414, zl_65536, zl_131072, zl_9999, zl_999, zI_add, zI_sub, zI_mul, zI_neg, zI_lt, zI_le, zI_eq, zI_clamp, ck_z, ckp_z, qb_z, qb_z0, Option.bind_some]; omega
    rw [F_X4_wasReached_b29, if_pos ll, bq_f (fun ⟨q', a, b, _⟩ => by omega)]
  | d + 1, m + 1, q, hq, hm => by
    have ll : ¬ 8 ≤ zI (q : Int) := by simp (disch := omega) only [zl_0, zl_1, zl_2, zl_3, zl_4, zl_5, zl_6, zl_7, zl_8, zl_9, zl_10, zl_11, zl_12, zl_13, zl_14, zl_15, zl_16, zl_17, zl_18, zl_19, zl_20, zl_21, zl_22, zl_23, zl_24, zl_25, zl_26, zl_27, zl_28, zl_29, zl_30, zl_31, zl_32, zl_33, zl_34, zl_35, zl_36, zl_37, zl_38, zl_39, zl_40, zl_41, zl_42, zl_43, zl_44, zl_45, zl_46, zl_47, zl_48, zl_49, zl_50, zl_51, zl_52, zl_53, zl_54, zl_55, zl_56, zl_57, zl_58, zl_59, zl_60, zl_61, zl_62, zl_63, zl_64, zl_65, zl_66, zl_80, zl_97, zl_99, zl_103, zl_107, zl_112, zl_115, zl_100, zl_180, zl_210, zl_238, zl_255, zl_256, zl_400, zl_1000, zl_1024, zl_1260, zl_2000, zl_7140, zl_7200, zl_18414, zl_65536, zl_131072, zl_9999, zl_999, zI_add, zI_sub, zI_mul, zI_neg, zI_lt, zI_le, zI_eq, zI_clamp, ck_z, ckp_z, qb_z, qb_z0, Option.bind_some]; omega
    have eq1 : zI (q : Int) + 1 = zI ((q + 1 : Nat) : Int) := by rw [zl_1, zI_add]; congr 1
    obtain ⟨n, e1, r0, r1, hr⟩ := reach_z hB hn t q t0 (by omega) (by omega) (by omega)
    have ih := wr_29 hB hn th t cut ah t0 t1 th0 th1 hcut ha0 ha1 d m (q + 1) (by omega) (by omega)
    have stp (hno : ¬ (Rch Λ t q th ∧ ∃ hc' : Nat, hc' < 15 ∧ (ah = -1 ∨ ah = t + 2 * hc' + t % 2) ∧ WI ld bests q t hc' cut)) : (∃ q' : Nat, q ≤ q' ∧ q' < 8 ∧ Rch Λ t q' th ∧ ∃ hc' : Nat, hc' < 15 ∧ (ah = -1 ∨ ah = t + 2 * hc' + t % 2) ∧ WI ld bests q' t hc' cut) ↔ (∃ q' : Nat, q + 1 ≤ q' ∧ q' < 8 ∧ Rch Λ t q' th ∧ ∃ hc' : Nat, hc' < 15 ∧ (ah = -1 ∨ ah = t + 2 * hc' + t % 2) ∧ WI ld bests q' t hc' cut) := by
      constructor
      · rintro ⟨q', a, b, c⟩
        by_cases e : q' = q
        · subst e; exact absurd c hno
        · exact ⟨q', by omega, b, c⟩
      · rintro ⟨q', a, b, c⟩
        exact ⟨q', by omega, b, c⟩
    rw [F_X4_wasReached_b29, if_neg ll, e1, Option.bind_some, eq1]
    by_cases c : th ≤ n
    · have l2 : ¬ zI n < zI th := by simp (disch := omega) only [zl_0, zl_1, zl_2, zl_3, zl_4, zl_5, zl_6, zl_7, zl_8, zl_9, zl_10, zl_11, zl_12, zl_13, zl_14, zl_15, zl_16, zl_17, zl_18, zl_19, zl_20, zl_21, zl_22, zl_23, zl_24, zl_25, zl_26, zl_27, zl_28, zl_29, zl_30, zl_31, zl_32, zl_33, zl_34, zl_35, zl_36, zl_37, zl_38, zl_39, zl_40, zl_41, zl_42, zl_43, zl_44, zl_45, zl_46, zl_47, zl_48, zl_49, zl_50, zl_51, zl_52, zl_53, zl_54, zl_55, zl_56, zl_57, zl_58, zl_59, zl_60, zl_61, zl_62, zl_63, zl_64, zl_65, zl_66, zl_80, zl_97, zl_99, zl_103, zl_107, zl_112, zl_115, zl_100, zl_180, zl_210, zl_238, zl_255, zl_256, zl_400, zl_1000, zl_1024, zl_1260, zl_2000, zl_7140, zl_7200, zl_18414, zl_65536, zl_131072, zl_9999, zl_999, zI_add, zI_sub, zI_mul, zI_neg, zI_lt, zI_le, zI_eq, zI_clamp, ck_z, ckp_z, qb_z, qb_z0, Option.bind_some]; omega
      rw [if_neg l2]
      rcases wr_57 (letters := letters) (bests := bests) (ld := ld) (fun x1 x2 x3 => F_X4_wasReached_b29 (zI (bkH Λ)) letters (zI (bkL Λ)) (zI th) (zI ah) (zI ld) bests m x1 x2 x3) (zI (bkH Λ)) (zI th) t cut ah q (by omega) t0 t1 hcut ha0 ha1 (zI (bkL Λ)) 15 FU 0 (by omega) (by unfold FU; omega) with ⟨i1, hc', i2, i3, i4⟩ | ⟨i1, i2⟩
      · have i1' : F_X4_wasReached_b57 (zI (bkH Λ)) letters (zI (bkL Λ)) (zI th) (zI ah) (zI ld) bests (fun x1 x2 x3 => F_X4_wasReached_b29 (zI (bkH Λ)) letters (zI (bkL Λ)) (zI th) (zI ah) (zI ld) bests m x1 x2 x3) FU (zI t) (zI cut) (zI q) 0 = some true := i1
        rw [i1', bq_t ⟨q, Nat.le_refl _, by omega, (hr th th0 th1).mp c, hc', i3, i4⟩]
      · have i1' : F_X4_wasReached_b57 (zI (bkH Λ)) letters (zI (bkL Λ)) (zI th) (zI ah) (zI ld) bests (fun x1 x2 x3 => F_X4_wasReached_b29 (zI (bkH Λ)) letters (zI (bkL Λ)) (zI th) (zI ah) (zI ld) bests m x1 x2 x3) FU (zI t) (zI cut) (zI q) 0 = F_X4_wasReached_b29 (zI (bkH Λ)) letters (zI (bkL Λ)) (zI th) (zI ah) (zI ld) bests m (zI t) (zI cut) (zI ((q + 1 : Nat) : Int)) := i1
        rw [i1', ih, bq_c (stp (fun ⟨_, hc', w1, w2⟩ => i2 hc' (Nat.zero_le _) w1 w2))]
    · have l2 : zI n < zI th := by simp (disch := omega) only [zl_0, zl_1, zl_2, zl_3, zl_4, zl_5, zl_6, zl_7, zl_8, zl_9, zl_10, zl_11, zl_12, zl_13, zl_14, zl_15, zl_16, zl_17, zl_18, zl_19, zl_20, zl_21, zl_22, zl_23, zl_24, zl_25, zl_26, zl_27, zl_28, zl_29, zl_30, zl_31, zl_32, zl_33, zl_34, zl_35, zl_36, zl_37, zl_38, zl_39, zl_40, zl_41, zl_42, zl_43, zl_44, zl_45, zl_46, zl_47, zl_48, zl_49, zl_50, zl_51, zl_52, zl_53, zl_54, zl_55, zl_56, zl_57, zl_58, zl_59, zl_60, zl_61, zl_62, zl_63, zl_64, zl_65, zl_66, zl_80, zl_97, zl_99, zl_103, zl_107, zl_112, zl_115, zl_100, zl_180, zl_210, zl_238, zl_255, zl_256, zl_400, zl_1000, zl_1024, zl_1260, zl_2000, zl_7140, zl_7200, zl_18414, zl_65536, zl_131072, zl_9999, zl_999, zI_add, zI_sub, zI_mul, zI_neg, zI_lt, zI_le, zI_eq, zI_clamp, ck_z, ckp_z, qb_z, qb_z0, Option.bind_some]; omega
      rw [if_pos l2, ih, bq_c (stp (fun w => c ((hr th th0 th1).mpr w.1)))]
/-- the lay, as far as the place p, stands behind states that are known -/
def RCc (Λ : Book) (τ : Int → Int) (ld : Int) (bests : NF) (t : Int) (s k : Nat) (th ah : Int) : Prop := ∃ q : Nat, q < 8 ∧ Rch Λ t q th ∧ ∃ hc : Nat, hc < 15 ∧ (ah = -1 ∨ ah = t + 2 * hc + t % 2) ∧ (Kn ld bests (nr q hc t 0) ∨ (¬ (¬ Gh k s ((1 : Nat) : Int) ∧ τ t = 2) ∧ Kn ld bests (nr q hc t 1)))
theorem wasReached_z {τ : Int → Int} {ties : NF} (hB : BkW Λ) (hn : ∀ h, 0 ≤ h → h < bkH Λ → letters h.toNat = zI (bkM Λ 0 h)) (hti : ∀ h, 0 ≤ h → h < bkH Λ → ties h.toNat = zI (τ h) ∧ 0 ≤ τ h ∧ τ h ≤ 2) {x : Nat × Nat} (hs : x.1 = 2 ∨ x.1 = 4 ∨ x.1 = 6 ∨ x.1 = 8) (hk : x.2 < 2 ^ x.1) (th t ah : Int) (t0 : 0 ≤ t) (t1 : t < bkH Λ) (th0 : 0 ≤ th) (th1 : th ≤ 8) (ha0 : -1 ≤ ah) (ha1 : ah ≤ 9999) : F_X4_wasReached (zI (bkH Λ)) letters ties (zI (bkL Λ)) (zI x.1) (nI x.2) (zI th) (zI ah) (zI ld) bests (zI t) = some (bq (RCc Λ τ ld bests t x.1 x.2 th ah)) := by
  have h30 := hB.2.1
  have est := starts_z hs hk
  have ecl := clashes_z (ties := ties) hB.1 h30 τ hti t t0 (by omega)
  have fin (cut : Int) (hcut : cut = 0 ∨ cut = 1) (hc : cut = 0 ↔ ¬ (¬ Gh x.2 x.1 ((1 : Nat) : Int) ∧ τ t = 2)) : F_X4_wasReached_b29 (zI (bkH Λ)) letters (zI (bkL Λ)) (zI th) (zI ah) (zI ld) bests FU (zI t) (zI cut) 0 = some (bq (RCc Λ τ ld bests t x.1 x.2 th ah)) := by
    have r := wr_29 (bests := bests) (ld := ld) hB hn th t cut ah t0 (by omega) th0 th1 hcut ha0 ha1 8 FU 0 (by omega) (by unfold FU; omega)
    have r' : F_X4_wasReached_b29 (zI (bkH Λ)) letters (zI (bkL Λ)) (zI th) (zI ah) (zI ld) bests FU (zI t) (zI cut) 0 = _ := r
    rw [r']
    congr 1
    refine bq_c ⟨?_, ?_⟩
    · rintro ⟨q, _, a, b, hc', c, d, e⟩
      refine ⟨q, a, b, hc', c, d, ?_⟩
      rcases e with e | e
      · exact Or.inl e
      · exact Or.inr ⟨hc.mp e.1, e.2⟩
    · rintro ⟨q, a, b, hc', c, d, e⟩
      refine ⟨q, Nat.zero_le _, a, b, hc', c, d, ?_⟩
      rcases e with e | e
      · exact Or.inl e
      · exact Or.inr ⟨hc.mpr e.1, e.2⟩
  unfold F_X4_wasReached
  rw [est, Option.bind_some]
  by_cases c2 : Gh x.2 x.1 ((1 : Nat) : Int)
  · rw [decide_eq_false (fun y => y c2), if_pos (show qb false = 0 from rfl)]
    exact fin 0 (Or.inl rfl) ⟨fun _ w => w.1 c2, fun _ => rfl⟩
  · rw [decide_eq_true c2, if_neg (show ¬ qb true = 0 by decide), ecl, Option.bind_some]
    by_cases c3 : τ t = 2
    · rw [decide_eq_true ⟨t1, c3⟩, if_neg (show ¬ qb true = 0 by decide)]
      exact fin 1 (Or.inr rfl) ⟨fun w => by omega, fun w => absurd ⟨c2, c3⟩ w⟩
    · rw [decide_eq_false (fun y => c3 y.2), if_pos (show qb false = 0 from rfl)]
      exact fin 0 (Or.inl rfl) ⟨fun _ w => c3 w.2, fun _ => rfl⟩
end WR

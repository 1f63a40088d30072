def hcf (L t half : Int) : Int := if t ≤ L then (2 * half - t) / 2 else 0
def jbf (Λ : Book) (t last : Int) : Int := if last ≠ 0 ∧ τC Λ t ≠ 0 then 1 else 0
/-- the class's number of a state -/
def nm (Λ : Book) (L q t half last : Int) : Int := ((q * 15 + hcf L t half) * 30 + t) * 2 + jbf Λ t last
section NM
variable {Λ : Book} {numbers spots waters sides ties : NF} {L : Int}
theorem jbf_b (t last : Int) : jbf Λ t last = 0 ∨ jbf Λ t last = 1 := by
  unfold jbf; split; exact Or.inr rfl; exact Or.inl rfl
theorem hcf_b {t half : Int} (h0 : 0 ≤ 2 * half - t) (h1 : 2 * half - t ≤ 28) : 0 ≤ hcf L t half ∧ hcf L t half ≤ 14 := by
  unfold hcf; split <;> omega
theorem nm_b {q t half last : Int} (q0 : 0 ≤ q) (q1 : q < 8) (t0 : 0 ≤ t) (t1 : t < 30) (h0 : 0 ≤ 2 * half - t) (h1 : 2 * half - t ≤ 28) : 0 ≤ nm Λ L q t half last ∧ nm Λ L q t half last < 7200 := by
  have := hcf_b (L := L) h0 h1
  have := jbf_b (Λ := Λ) t last
  unfold nm
  omega
theorem nm_inj {q t half last q' t' half' last' : Int} (t0 : 0 ≤ t) (t1 : t < 30) (h0 : 0 ≤ 2 * half - t) (h1 : 2 * half - t ≤ 28) (t0' : 0 ≤ t') (t1' : t' < 30) (h0' : 0 ≤ 2 * half' - t') (h1' : 2 * half' - t' ≤ 28) (e : nm Λ L q t half last = nm Λ L q' t' half' last') : q = q' ∧ t = t' ∧ Eqv Λ L t half last half' last' := by
  have b1 := hcf_b (L := L) h0 h1
  have b2 := hcf_b (L := L) h0' h1'
  have c1 := jbf_b (Λ := Λ) t last
  have c2 := jbf_b (Λ := Λ) t' last'
  unfold nm at e
  have e1 : q = q' := by omega
  have e2 : t = t' := by omega
  have e3 : hcf L t half = hcf L t' half' := by omega
  have e4 : jbf Λ t last = jbf Λ t' last' := by omega
  subst e1
  subst e2
  refine ⟨rfl, rfl, fun c => ?_, ?_⟩
  · unfold hcf at e3
    rw [if_pos c, if_pos c] at e3
    omega
  · unfold jbf at e4
    by_cases x : last ≠ 0 ∧ τC Λ t ≠ 0
    · by_cases y : last' ≠ 0 ∧ τC Λ t ≠ 0
      · exact ⟨fun _ => y, fun _ => x⟩
      · rw [if_pos x, if_neg y] at e4; omega
    · by_cases y : last' ≠ 0 ∧ τC Λ t ≠ 0
      · rw [if_neg x, if_pos y] at e4; omega
      · exact ⟨fun z => absurd z x, fun z => absurd z y⟩
theorem nm_eq {q t half last half' last' : Int} (e : Eqv Λ L t half last half' last') : nm Λ L q t half last = nm Λ L q t half' last' := by
  have e1 : hcf L t half = hcf L t half' := by
    unfold hcf
    by_cases c : t ≤ L
    · rw [if_pos c, if_pos c, e.1 c]
    · rw [if_neg c, if_neg c]
  have e2 : jbf Λ t last = jbf Λ t last' := by
    unfold jbf
    by_cases x : last ≠ 0 ∧ τC Λ t ≠ 0
    · rw [if_pos x, if_pos (e.2.mp x)]
    · rw [if_neg x, if_neg (fun y => x (e.2.mpr y))]
  unfold nm
  rw [e1, e2]
theorem nbrOf_z (q t hc jb : Int) (q0 : 0 ≤ q) (q1 : q < 8) (t0 : 0 ≤ t) (t1 : t < 30) (h0 : 0 ≤ hc) (h1 : hc < 15) (hj : jb = 0 ∨ jb = 1) : F_X4_numberOf (zI q) (zI t) (zI hc) (zI jb) = some (zI (((q * 15 + hc) * 30 + t) * 2 + jb)) := by
  have l1 : ¬ zI q < 0 := by simp (disch := omega) only [zl_0, zl_1, zl_2, zl_3, zl_4, zl_5, zl_6, zl_7, zl_8, zl_9, zl_10, zl_11, zl_12, zl_13, zl_14, zl_15, zl_16, zl_17, zl_18, zl_19, zl_20, zl_21, zl_22, zl_23, zl_24, zl_25, zl_26, zl_27, zl_28, zl_29, zl_30, zl_31, zl_32, zl_33, zl_34, zl_35, zl_36, zl_37, zl_38, zl_39, zl_40, zl_41, zl_42, zl_43, zl_44, zl_45, zl_46, zl_47, zl_48, zl_49, zl_50, zl_51, zl_52, zl_53, zl_54, zl_55, zl_56, zl_57, zl_58, zl_59, zl_60, zl_61, zl_62, zl_63, zl_64, zl_65, zl_66, zl_80, zl_97, zl_99, zl_103, zl_107, zl_112, zl_115, zl_100, zl_180, zl_210, zl_238, zl_255, zl_256, zl_400, zl_1000, zl_1024, zl_1260, zl_2000, zl_7140, zl_7200, zl_18414, zl_65536, zl_131072, zl_9999, zl_999, zI_add, zI_sub, zI_mul, zI_neg, zI_lt, zI_le, zI_eq, zI_clamp, ck_z, ckp_z, qb_z, qb_z0, Option.bind_some]; omega
  have l2 : ¬ 8 ≤ zI q := by simp (disch := omega) only [zl_0, zl_1, zl_2, zl_3, zl_4, zl_5, zl_6, zl_7, zl_8, zl_9, zl_10, zl_11, zl_12, zl_13, zl_14, zl_15, zl_16, zl_17, zl_18, zl_19, zl_20, zl_21, zl_22, zl_23, zl_24, zl_25, zl_26, zl_27, zl_28, zl_29, zl_30, zl_31, zl_32, zl_33, zl_34, zl_35, zl_36, zl_37, zl_38, zl_39, zl_40, zl_41, zl_42, zl_43, zl_44, zl_45, zl_46, zl_47, zl_48, zl_49, zl_50, zl_51, zl_52, zl_53, zl_54, zl_55, zl_56, zl_57, zl_58, zl_59, zl_60, zl_61, zl_62, zl_63, zl_64, zl_65, zl_66, zl_80, zl_97, zl_99, zl_103, zl_107, zl_112, zl_115, zl_100, zl_180, zl_210, zl_238, zl_255, zl_256, zl_400, zl_1000, zl_1024, zl_1260, zl_2000, zl_7140, zl_7200, zl_18414, zl_65536, zl_131072, zl_9999, zl_999, zI_add, zI_sub, zI_mul, zI_neg, zI_lt, zI_le, zI_eq, zI_clamp, ck_z, ckp_z, qb_z, qb_z0, Option.bind_some]; omega
  have l3 : ¬ zI t < 0 := by simp (disch := omega) only [zl_0, zl_1, zl_2, zl_3, zl_4, zl_5, zl_6, zl_7, zl_8, zl_9, zl_10, zl_11, zl_12, zl_13, zl_14, zl_15, zl_16, zl_17, zl_18, zl_19, zl_20, zl_21, zl_22, zl_23, zl_24, zl_25, zl_26, zl_27, zl_28, zl_29, zl_30, zl_31, zl_32, zl_33, zl_34, zl_35, zl_36, zl_37, zl_38, zl_39, zl_40, zl_41, zl_42, zl_43, zl_44, zl_45, zl_46, zl_47, zl_48, zl_49, zl_50, zl_51, zl_52, zl_53, zl_54, zl_55, zl_56, zl_57, zl_58, zl_59, zl_60, zl_61, zl_62, zl_63, zl_64, zl_65, zl_66, zl_80, zl_97, zl_99, zl_103, zl_107, zl_112, zl_115, zl_100, zl_180, zl_210, zl_238, zl_255, zl_256, zl_400, zl_1000, zl_1024, zl_1260, zl_2000, zl_7140, zl_7200, zl_18414, zl_65536, zl_131072, zl_9999, zl_999, zI_add, zI_sub, zI_mul, zI_neg, zI_lt, zI_le, zI_eq, zI_clamp, ck_z, ckp_z, qb_z, qb_z0, Option.bind_some]; omega
  have l4 : zI t < 30 := by simp (disch := omega) only [zl_0, zl_1, zl_2, zl_3, zl_4, zl_5, zl_6, zl_7, zl_8, zl_9, zl_10, zl_11, zl_12, zl_13, zl_14, zl_15, zl_16, zl_17, zl_18, zl_19, zl_20, zl_21, zl_22, zl_23, zl_24, zl_25, zl_26, zl_27, zl_28, zl_29, zl_30, zl_31, zl_32, zl_33, zl_34, zl_35, zl_36, zl_37, zl_38, zl_39, zl_40, zl_41, zl_42, zl_43, zl_44, zl_45, zl_46, zl_47, zl_48, zl_49, zl_50, zl_51, zl_52, zl_53, zl_54, zl_55, zl_56, zl_57, zl_58, zl_59, zl_60, zl_61, zl_62, zl_63, zl_64, zl_65, zl_66, zl_80, zl_97, zl_99, zl_103, zl_107, zl_112, zl_115, zl_100, zl_180, zl_210, zl_238, zl_255, zl_256, zl_400, zl_1000, zl_1024, zl_1260, zl_2000, zl_7140, zl_7200, zl_18414, zl_65536, zl_131072, zl_9999, zl_999, zI_add, zI_sub, zI_mul, zI_neg, zI_lt, zI_le, zI_eq, zI_clamp, ck_z, ckp_z, qb_z, qb_z0, Option.bind_some]; omega
  have l5 : ¬ zI hc < 0 := by simp (disch := omega) only [zl_0, zl_1, zl_2, zl_3, zl_4, zl_5, zl_6, zl_7, zl_8, zl_9, zl_10, zl_11, zl_12, zl_13, zl_14, zl_15, zl_16, zl_17, zl_18, zl_19, zl_20, zl_21, zl_22, zl_23, zl_24, zl_25, zl_26, zl_27, zl_28, zl_29, zl_30, zl_31, zl_32, zl_33, zl_34, zl_35, zl_36, zl_37, zl_38, zl_39, zl_40, zl_41, zl_42, zl_43, zl_44, zl_45, zl_46, zl_47, zl_48, zl_49, zl_50, zl_51, zl_52, zl_53, zl_54, zl_55, zl_56, zl_57, zl_58, zl_59, zl_60, zl_61, zl_62, zl_63, zl_64, zl_65, zl_66, zl_80, zl_97, zl_99, zl_103, zl_107, zl_112, zl_115, zl_100, zl_180, zl_210, zl_238, zl_255, zl_256, zl_400, zl_1000, zl_1024, zl_1260, zl_2000, zl_7140, zl_7200, zl_18414, zl_65536, zl_131072, zl_9999, zl_999, zI_add, zI_sub, zI_mul, zI_neg, zI_lt, zI_le, zI_eq, zI_clamp, ck_z, ckp_z, qb_z, qb_z0, Option.bind_some]; omega
  have l6 : zI hc < 15 := by simp (disch := omega) only [zl_0, zl_1, zl_2, zl_3, zl_4, zl_5, zl_6, zl_7, zl_8, zl_9, zl_10, zl_11, zl_12, zl_13, zl_14, zl_15, zl_16, zl_17, zl_18, zl_19, zl_20, zl_21, zl_22, zl_23, zl_24, zl_25, zl_26, zl_27, zl_28, zl_29, zl_30, zl_31, zl_32, zl_33, zl_34, zl_35, zl_36, zl_37, zl_38, zl_39, zl_40, zl_41, zl_42, zl_43, zl_44, zl_45, zl_46, zl_47, zl_48, zl_49, zl_50, zl_51, zl_52, zl_53, zl_54, zl_55, zl_56, zl_57, zl_58, zl_59, zl_60, zl_61, zl_62, zl_63, zl_64, zl_65, zl_66, zl_80, zl_97, zl_99, zl_103, zl_107, zl_112, zl_115, zl_100, zl_180, zl_210, zl_238, zl_255, zl_256, zl_400, zl_1000, zl_1024, zl_1260, zl_2000, zl_7140, zl_7200, zl_18414, zl_65536, zl_131072, zl_9999, zl_999, zI_add, zI_sub, zI_mul, zI_neg, zI_lt, zI_le, zI_eq, zI_clamp, ck_z, ckp_z, qb_z, qb_z0, Option.bind_some]; omega
  have e : ((zI q * 15 + zI hc) * 30 + zI t) * 2 = zI (((q * 15 + hc) * 30 + t) * 2) := by
    rw [show (15 : Int32) = zI 15 from rfl, show (30 : Int32) = zI 30 from rfl, zl_2]
    simp only [zI_mul, zI_add]
  unfold F_X4_numberOf
  rw [if_neg l1, if_neg l2, if_neg l3, if_pos l4, if_neg l5, if_pos l6, e]
  rcases hj with rfl | rfl
  · rw [if_pos (show zI 0 = 0 from rfl), zl_0, zI_add]
  · rw [if_neg (by decide), zl_1, zI_add]
theorem numberOf_8 (t hc jb : Int32) (q : Int) (hq : 8 ≤ q) (hq2 : q < 100) : F_X4_numberOf (zI q) t hc jb = some (-1) := by
  have l1 : ¬ zI q < 0 := by simp (disch := omega) only [zl_0, zl_1, zl_2, zl_3, zl_4, zl_5, zl_6, zl_7, zl_8, zl_9, zl_10, zl_11, zl_12, zl_13, zl_14, zl_15, zl_16, zl_17, zl_18, zl_19, zl_20, zl_21, zl_22, zl_23, zl_24, zl_25, zl_26, zl_27, zl_28, zl_29, zl_30, zl_31, zl_32, zl_33, zl_34, zl_35, zl_36, zl_37, zl_38, zl_39, zl_40, zl_41, zl_42, zl_43, zl_44, zl_45, zl_46, zl_47, zl_48, zl_49, zl_50, zl_51, zl_52, zl_53, zl_54, zl_55, zl_56, zl_57, zl_58, zl_59, zl_60, zl_61, zl_62, zl_63, zl_64, zl_65, zl_66, zl_80, zl_97, zl_99, zl_103, zl_107, zl_112, zl_115, zl_100, zl_180, zl_210, zl_238, zl_255, zl_256, zl_400, zl_1000, zl_1024, zl_1260, zl_2000, zl_7140, zl_7200, zl_18414, zl_65536, zl_131072, zl_9999, zl_999, zI_add, zI_sub, zI_mul, zI_neg, zI_lt, zI_le, zI_eq, zI_clamp, ck_z, ckp_z, qb_z, qb_z0, Option.bind_some]; omega
  have l2 : 8 ≤ zI q := by simp (disch := omega) only [zl_0, zl_1, zl_2, zl_3, zl_4, zl_5, zl_6, zl_7, zl_8, zl_9, zl_10, zl_11, zl_12, zl_13, zl_14, zl_15, zl_16, zl_17, zl_18, zl_19, zl_20, zl_21, zl_22, zl_23, zl_24, zl_25, zl_26, zl_27, zl_28, zl_29, zl_30, zl_31, zl_32, zl_33, zl_34, zl_35, zl_36, zl_37, zl_38, zl_39, zl_40, zl_41, zl_42, zl_43, zl_44, zl_45, zl_46, zl_47, zl_48, zl_49, zl_50, zl_51, zl_52, zl_53, zl_54, zl_55, zl_56, zl_57, zl_58, zl_59, zl_60, zl_61, zl_62, zl_63, zl_64, zl_65, zl_66, zl_80, zl_97, zl_99, zl_103, zl_107, zl_112, zl_115, zl_100, zl_180, zl_210, zl_238, zl_255, zl_256, zl_400, zl_1000, zl_1024, zl_1260, zl_2000, zl_7140, zl_7200, zl_18414, zl_65536, zl_131072, zl_9999, zl_999, zI_add, zI_sub, zI_mul, zI_neg, zI_lt, zI_le, zI_eq, zI_clamp, ck_z, ckp_z, qb_z, qb_z0, Option.bind_some]; omega
  unfold F_X4_numberOf
  rw [if_neg l1, if_pos l2]
theorem stateOf_e (hB : BkW Λ) (hT : TbC Λ (σC Λ) (τC Λ) numbers spots waters sides ties) {t half last : Int} (q : Int32) (hL : Lsp Λ L) (t0 : 0 ≤ t) (t1 : t < bkH Λ) (h0 : 0 ≤ 2 * half - t) (h1 : 2 * half - t ≤ 32) (hl : last = 0 ∨ last = 1) : F_X4_stateOf (zI (bkH Λ)) ties (zI L) q (zI t) (zI (2 * half - t)) (zI last) = F_X4_numberOf q (zI t) (zI (hcf L t half)) (zI (jbf Λ t last)) := by
  have h30 := hB.2.1
  have hL1 := hL.1
  have hL2 := hL.2.1
  have ejo := joins_z (ties := ties) hB.1 h30 (τC Λ) (fun h h0 h1 => ⟨(hT h h0 h1).2.2.2.2.1, (hT h h0 h1).2.2.2.2.2.2.2.1, (hT h h0 h1).2.2.2.2.2.2.2.2⟩) t t0 (by omega)
  have b18 (hc : Int) : F_X4_stateOf_b18 (zI (bkH Λ)) ties q (zI t) (zI last) (zI hc) = F_X4_numberOf q (zI t) (zI hc) (zI (jbf Λ t last)) := by
    unfold F_X4_stateOf_b18 F_X4_stateOf_b45 jbf
    rcases hl with rfl | rfl
    · rw [if_pos (show zI 0 = 0 from rfl), if_neg (fun x => x.1 rfl), bind_id]; rfl
    · rw [if_neg (by decide), ejo, Option.bind_some, bind_id, bind_id]
      by_cases c : τC Λ t ≠ 0
      · rw [decide_eq_true ⟨t1, c⟩, if_neg (show ¬ qb true = 0 by decide), if_pos ⟨by omega, c⟩]; rfl
      · rw [decide_eq_false (fun x => c x.2), if_pos (show qb false = 0 from rfl), if_neg (fun x => c x.2)]; rfl
  unfold F_X4_stateOf hcf
  by_cases c : t ≤ L
  · have l : ¬ zI L < zI t := by simp (disch := omega) only [zl_0, zl_1, zl_2, zl_3, zl_4, zl_5, zl_6, zl_7, zl_8, zl_9, zl_10, zl_11, zl_12, zl_13, zl_14, zl_15, zl_16, zl_17, zl_18, zl_19, zl_20, zl_21, zl_22, zl_23, zl_24, zl_25, zl_26, zl_27, zl_28, zl_29, zl_30, zl_31, zl_32, zl_33, zl_34, zl_35, zl_36, zl_37, zl_38, zl_39, zl_40, zl_41, zl_42, zl_43, zl_44, zl_45, zl_46, zl_47, zl_48, zl_49, zl_50, zl_51, zl_52, zl_53, zl_54, zl_55, zl_56, zl_57, zl_58, zl_59, zl_60, zl_61, zl_62, zl_63, zl_64, zl_65, zl_66, zl_80, zl_97, zl_99, zl_103, zl_107, zl_112, zl_115, zl_100, zl_180, zl_210, zl_238, zl_255, zl_256, zl_400, zl_1000, zl_1024, zl_1260, zl_2000, zl_7140, zl_7200, zl_18414, zl_65536, zl_131072, zl_9999, zl_999, zI_add, zI_sub, zI_mul, zI_neg, zI_lt, zI_le, zI_eq, zI_clamp, ck_z, ckp_z, qb_z, qb_z0, Option.bind_some]; omega
    rw [if_neg l, shr1_z h0 (by omega), b18, if_pos c]
  · have l : zI L < zI t := by simp (disch := omega) only [zl_0, zl_1, zl_2, zl_3, zl_4, zl_5, zl_6, zl_7, zl_8, zl_9, zl_10, zl_11, zl_12, zl_13, zl_14, zl_15, zl_16, zl_17, zl_18, zl_19, zl_20, zl_21, zl_22, zl_23, zl_24, zl_25, zl_26, zl_27, zl_28, zl_29, zl_30, zl_31, zl_32, zl_33, zl_34, zl_35, zl_36, zl_37, zl_38, zl_39, zl_40, zl_41, zl_42, zl_43, zl_44, zl_45, zl_46, zl_47, zl_48, zl_49, zl_50, zl_51, zl_52, zl_53, zl_54, zl_55, zl_56, zl_57, zl_58, zl_59, zl_60, zl_61, zl_62, zl_63, zl_64, zl_65, zl_66, zl_80, zl_97, zl_99, zl_103, zl_107, zl_112, zl_115, zl_100, zl_180, zl_210, zl_238, zl_255, zl_256, zl_400, zl_1000, zl_1024, zl_1260, zl_2000, zl_7140, zl_7200, zl_18414, zl_65536, zl_131072, zl_9999, zl_999, zI_add, zI_sub, zI_mul, zI_neg, zI_lt, zI_le, zI_eq, zI_clamp, ck_z, ckp_z, qb_z, qb_z0, Option.bind_some]; omega
    rw [if_pos l, if_neg c]
    exact b18 0
theorem sttOf_z (hB : BkW Λ) (hT : TbC Λ (σC Λ) (τC Λ) numbers spots waters sides ties) {q t half last : Int} (hL : Lsp Λ L) (q0 : 0 ≤ q) (q1 : q < 8) (t0 : 0 ≤ t) (t1 : t < bkH Λ) (h0 : 0 ≤ 2 * half - t) (h1 : 2 * half - t ≤ 28) (hl : last = 0 ∨ last = 1) : F_X4_stateOf (zI (bkH Λ)) ties (zI L) (zI q) (zI t) (zI (2 * half - t)) (zI last) = some (zI (nm Λ L q t half last)) := by
  have h30 := hB.2.1
  have hb := hcf_b (L := L) h0 h1
  rw [stateOf_e hB hT (zI q) hL t0 t1 h0 (by omega) hl, nbrOf_z q t _ _ q0 q1 t0 (by omega) hb.1 (by omega) (jbf_b t last)]
  rfl
/-- a state is known -/
def Kn (ld : Int) (bests : NF) (i : Int) : Prop := bests i.toNat / 1024 = zI ld
theorem isKnown_z (ld : Int) (bests : NF) (i : Int) (i0 : 0 ≤ i) (i1 : i < 7200) : F_X4_isKnown (zI ld) bests (zI i) = some (bq (Kn ld bests i)) := by
  have l1 : ¬ zI i < 0 := by simp (disch := omega) only [zl_0, zl_1, zl_2, zl_3, zl_4, zl_5, zl_6, zl_7, zl_8, zl_9, zl_10, zl_11, zl_12, zl_13, zl_14, zl_15, zl_16, zl_17, zl_18, zl_19, zl_20, zl_21, zl_22, zl_23, zl_24, zl_25, zl_26, zl_27, zl_28, zl_29, zl_30, zl_31, zl_32, zl_33, zl_34, zl_35, zl_36, zl_37, zl_38, zl_39, zl_40, zl_41, zl_42, zl_43, zl_44, zl_45, zl_46, zl_47, zl_48, zl_49, zl_50, zl_51, zl_52, zl_53, zl_54, zl_55, zl_56, zl_57, zl_58, zl_59, zl_60, zl_61, zl_62, zl_63, zl_64, zl_65, zl_66, zl_80, zl_97, zl_99, zl_103, zl_107, zl_112, zl_115, zl_100, zl_180, zl_210, zl_238, zl_255, zl_256, zl_400, zl_1000, zl_1024, zl_1260, zl_2000, zl_7140, zl_7200, zl_18414, zl_65536, zl_131072, zl_9999, zl_999, zI_add, zI_sub, zI_mul, zI_neg, zI_lt, zI_le, zI_eq, zI_clamp, ck_z, ckp_z, qb_z, qb_z0, Option.bind_some]; omega
  have l2 : ¬ 7200 ≤ zI i := by rw [show (7200 : Int32) = zI 7200 from rfl]; simp (disch := omega) only [zl_0, zl_1, zl_2, zl_3, zl_4, zl_5, zl_6, zl_7, zl_8, zl_9, zl_10, zl_11, zl_12, zl_13, zl_14, zl_15, zl_16, zl_17, zl_18, zl_19, zl_20, zl_21, zl_22, zl_23, zl_24, zl_25, zl_26, zl_27, zl_28, zl_29, zl_30, zl_31, zl_32, zl_33, zl_34, zl_35, zl_36, zl_37, zl_38, zl_39, zl_40, zl_41, zl_42, zl_43, zl_44, zl_45, zl_46, zl_47, zl_48, zl_49, zl_50, zl_51, zl_52, zl_53, zl_54, zl_55, zl_56, zl_57, zl_58, zl_59, zl_60, zl_61, zl_62, zl_63, zl_64, zl_65, zl_66, zl_80, zl_97, zl_99, zl_103, zl_107, zl_112, zl_115, zl_100, zl_180, zl_210, zl_238, zl_255, zl_256, zl_400, zl_1000, zl_1024, zl_1260, zl_2000, zl_7140, zl_7200, zl_18414, zl_65536, zl_131072, zl_9999, zl_999, zI_add, zI_sub, zI_mul, zI_neg, zI_lt, zI_le, zI_eq, zI_clamp, ck_z, ckp_z, qb_z, qb_z0, Option.bind_some]; omega
  unfold F_X4_isKnown
  rw [if_neg l1, if_neg l2, ck_z i0 (by omega) (by omega), zI_clamp (by omega) (by omega)]
  by_cases c : bests i.toNat / 1024 = zI ld
  · rw [if_pos c, bq_t (show Kn ld bests i from c)]
  · rw [if_neg c, bq_f (show ¬ Kn ld bests i from c)]
theorem Kn_w {ld b : Int} {bests : NF} {i : Int} (l0 : 0 ≤ ld) (l1 : ld ≤ 1000000) (b0 : 0 ≤ b) (b1 : b < 1024) (e : bests i.toNat = zI (ld * 1024 + b)) : Kn ld bests i := by
  unfold Kn
  rw [e, show (1024 : Int32) = zI 1024 from rfl, divz (by omega) (by omega) (by omega) (by omega)]
  congr 1
  omega
theorem sum_mem (f : Nat → Nat → Nat) {l : List (Nat × Nat)} {g : Nat × Nat → Nat} (h : 1 ≤ (l.map g).sum) : ∃ x, x ∈ l ∧ 1 ≤ g x := by
  induction l with
  | nil => rw [List.map_nil, List.sum_nil] at h; omega
  | cons y l ih =>
    by_cases c : 1 ≤ g y
    · exact ⟨y, List.mem_cons_self, c⟩
    · rw [List.map_cons, List.sum_cons] at h
      obtain ⟨x, h1, h2⟩ := ih (by omega)
      exact ⟨x, List.mem_cons_of_mem _ h1, h2⟩
theorem mem_sum {l : List (Nat × Nat)} {g : Nat × Nat → Nat} {x : Nat × Nat} (hx : x ∈ l) : g x ≤ (l.map g).sum := by
  induction l with
  | nil => exact absurd hx List.not_mem_nil
  | cons y l ih =>
    rw [List.map_cons, List.sum_cons]
    rcases List.mem_cons.mp hx with e | e
    · rw [e]; omega
    · have := ih e; omega
theorem smG_mem {γ : Nat → Nat × Nat × Nat} {F : Nat × Nat × Nat → Nat} : ∀ n : Nat, 1 ≤ smG γ F n → ∃ i, i < n ∧ 1 ≤ F (γ i)
  | 0, h => by unfold smG at h; omega
  | n + 1, h => by
    by_cases c : 1 ≤ F (γ n)
    · exact ⟨n, by omega, c⟩
    · unfold smG at h
      obtain ⟨i, h1, h2⟩ := smG_mem n (show 1 ≤ smG γ F n by omega)
      exact ⟨i, by omega, h2⟩
theorem smG_le {γ : Nat → Nat × Nat × Nat} {F : Nat × Nat × Nat → Nat} {i : Nat} : ∀ n : Nat, i < n → F (γ i) ≤ smG γ F n
  | 0, h => by omega
  | n + 1, h => by
    unfold smG
    by_cases c : i = n
    · subst c; omega
    · have := smG_le (γ := γ) (F := F) n (show i < n by omega)
      omega
theorem GrF_x {t : Int} {N : Nat} {γ : Nat → Nat × Nat × Nat} (h : ∀ f : Nat → Nat → Nat, smG γ (fun g => g.2.2 * f g.1 g.2.1) N = ((lyC Λ t).map (fun x => f (srt Λ t x) (acd Λ t x))).sum) {x : Nat × Nat} (hx : x ∈ lyC Λ t) : ∃ i, i < N ∧ (γ i).1 = srt Λ t x ∧ (γ i).2.1 = acd Λ t x := by
  have e := h (fun p a => if p = srt Λ t x ∧ a = acd Λ t x then 1 else 0)
  have m := mem_sum (g := fun x' => if srt Λ t x' = srt Λ t x ∧ acd Λ t x' = acd Λ t x then 1 else 0) hx
  have o : (if srt Λ t x = srt Λ t x ∧ acd Λ t x = acd Λ t x then 1 else 0) = 1 := if_pos ⟨rfl, rfl⟩
  rw [o, ← e] at m
  obtain ⟨i, i1, i2⟩ := smG_mem N m
  refine ⟨i, i1, ?_⟩
  by_cases c : (γ i).1 = srt Λ t x ∧ (γ i).2.1 = acd Λ t x
  · exact c
  · have i2' : 1 ≤ (γ i).2.2 * (if (γ i).1 = srt Λ t x ∧ (γ i).2.1 = acd Λ t x then 1 else 0) := i2
    rw [if_neg c, Nat.mul_zero] at i2'
    omega
theorem GrF_g {t : Int} {N : Nat} {γ : Nat → Nat × Nat × Nat} (h : ∀ f : Nat → Nat → Nat, smG γ (fun g => g.2.2 * f g.1 g.2.1) N = ((lyC Λ t).map (fun x => f (srt Λ t x) (acd Λ t x))).sum) {i : Nat} (hi : i < N) (hn : 1 ≤ (γ i).2.2) : ∃ x, x ∈ lyC Λ t ∧ (γ i).1 = srt Λ t x ∧ (γ i).2.1 = acd Λ t x := by
  have e := h (fun p a => if (γ i).1 = p ∧ (γ i).2.1 = a then 1 else 0)
  have m := smG_le (γ := γ) (F := fun g => g.2.2 * (if (γ i).1 = g.1 ∧ (γ i).2.1 = g.2.1 then 1 else 0)) N hi
  have o : (γ i).2.2 * (if (γ i).1 = (γ i).1 ∧ (γ i).2.1 = (γ i).2.1 then 1 else 0) = (γ i).2.2 := by
    rw [if_pos ⟨rfl, rfl⟩, Nat.mul_one]
  rw [o] at m
  rw [e] at m
  obtain ⟨x, x1, x2⟩ := sum_mem (fun _ _ => 0) (Nat.le_trans hn m)
  refine ⟨x, x1, ?_⟩
  by_cases c : (γ i).1 = srt Λ t x ∧ (γ i).2.1 = acd Λ t x
  · exact c
  · rw [if_neg c] at x2
    omega
theorem fil_sum {w : Nat × Nat → Nat} {p : Nat × Nat → Bool} : ∀ l : List (Nat × Nat), (l.map (fun x => if p x = true then w x else 0)).sum = ((l.filter p).map w).sum
  | [] => rfl
  | y :: l => by
    rw [List.map_cons, List.sum_cons, fil_sum l]
    by_cases c : p y = true
    · rw [if_pos c, List.filter_cons_of_pos c, List.map_cons, List.sum_cons]
    · rw [if_neg c, List.filter_cons_of_neg c, Nat.zero_add]
theorem fst1_le (w : Nat × Nat → Nat) (f : Nat × Nat → Int) : ∀ (l : List (Nat × Nat)) (b : Int), l.foldl (fst1 w f) b ≤ b ∧ (∀ x, x ∈ l → 0 < w x → l.foldl (fst1 w f) b ≤ f x + xg x) ∧ (l.foldl (fst1 w f) b = b ∨ ∃ x, x ∈ l ∧ 0 < w x ∧ l.foldl (fst1 w f) b = f x + xg x)
  | [], b => ⟨Int.le_refl _, fun x hx => absurd hx List.not_mem_nil, Or.inl rfl⟩
  | y :: l, b => by
    obtain ⟨i1, i2, i3⟩ := fst1_le w f l (fst1 w f b y)
    have e : fst1 w f b y ≤ b ∧ (0 < w y → fst1 w f b y ≤ f y + xg y) ∧ (fst1 w f b y = b ∨ (0 < w y ∧ fst1 w f b y = f y + xg y)) := by
      unfold fst1
      by_cases c : 0 < w y ∧ f y + xg y < b
      · rw [if_pos c]; exact ⟨by omega, fun _ => Int.le_refl _, Or.inr ⟨c.1, rfl⟩⟩
      · rw [if_neg c]; exact ⟨Int.le_refl _, fun z => by omega, Or.inl rfl⟩
    rw [List.foldl_cons]
    refine ⟨by omega, fun x hx hw => ?_, ?_⟩
    · rcases List.mem_cons.mp hx with z | z
      · subst z; have := e.2.1 hw; omega
      · exact i2 x z hw
    · rcases i3 with z | ⟨x, x1, x2, x3⟩
      · rcases e.2.2 with y1 | ⟨y1, y2⟩
        · exact Or.inl (by rw [z, y1])
        · exact Or.inr ⟨y, List.mem_cons_self, y1, by rw [z, y2]⟩
      · exact Or.inr ⟨x, List.mem_cons_of_mem _ x1, x2, x3⟩
theorem Fn_s (Λ : Book) : ∀ (n : Nat) (q t half last : Int), 0 < Wn Λ n q t half last → Fn Λ n q t half last ≤ 4 * n
  | 0, q, t, half, last, h => by
    unfold Wn at h
    unfold Fn
    by_cases c : t = bkH Λ
    · rw [if_pos c]; omega
    · rw [if_neg c] at h; omega
  | n + 1, q, t, half, last, h => by
    unfold Wn at h
    unfold Fn
    by_cases c : t = bkH Λ
    · rw [if_pos c]; omega
    · rw [if_neg c] at h ⊢
      obtain ⟨x, x1, x2⟩ := sum_mem (fun _ _ => 0) h
      have ih := Fn_s Λ n _ _ _ _ x2
      have := (fst1_le (fun x => Wn Λ n (q + 1) (xt t x) (xh half x) (enl x.2)) (fun x => Fn Λ n (q + 1) (xt t x) (xh half x) (enl x.2)) (lyM Λ q t half last) 100).2.1 x x1 x2
      have b := xt_b x1
      have this' : List.foldl (fst1 (fun x => Wn Λ n (q + 1) (xt t x) (xh half x) (enl x.2)) (fun x => Fn Λ n (q + 1) (xt t x) (xh half x) (enl x.2))) 100 (lyM Λ q t half last) ≤ Fn Λ n (q + 1) (xt t x) (xh half x) (enl x.2) + xg x := this
      omega
end NM

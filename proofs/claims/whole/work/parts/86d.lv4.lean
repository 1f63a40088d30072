section LC
variable {n : Int} {κ : Int → Int} {μ : Int → Int → Int} {K M R : NF} {C : Int32}
/-- spot, head and tie of the leaf h, its cancelling leaf seen (x = 1) or not (x = 0) -/
def bsp (Λ : Book) (x h : Int) : Int := if x = 0 then spo (bkM Λ 2 h) (bkO Λ) else tog (spo (bkM Λ 2 h) (bkO Λ)) (spo (bkP Λ h) (bkO Λ))
def bhd (Λ : Book) (x h : Int) : Int := if x = 0 then bkM Λ 3 h else if bkD Λ h ≤ 0 then bkM Λ 3 h else bkD Λ h
def bti (Λ : Book) (x h : Int) : Int := if h ≤ 0 then 0 else if bkM Λ 4 (h - 1) = 0 then 0 else if bhd Λ x h = 0 then 0 else if bkM Λ 4 (h - 1) = bhd Λ x h then 1 else 2
theorem judge_b106_z (nexts spots heads ties : NF) (h c u : Int) (h0 : 0 ≤ h) (h1 : h < 30) (hc : 0 ≤ c) (hc2 : c ≤ 9999) (hu : 0 ≤ u) (hu2 : u ≤ 9999) (en : 0 < h → nexts (h - 1).toNat = zI c) (eh : heads h.toNat = zI u) : F_X2_judge_b106 nexts spots heads ties (zI h) = some (spots, heads, upd ties h.toNat (zI (if h ≤ 0 then 0 else if c = 0 then 0 else if u = 0 then 0 else if c = u then 1 else 2))) := by
  unfold F_X2_judge_b106
  have es : zI h - 1 = zI (h - 1) := by rw [zl_1, zI_sub]
  rw [ck_z h0 (by omega) (by omega), zI_clamp (by omega) (by omega), es]
  by_cases c1 : h ≤ 0
  · have q : zI h ≤ 0 := by simp (disch := omega) only [zl_0, zl_1, zl_2, zl_3, zl_4, zl_5, zl_6, zl_7, zl_8, zl_9, zl_10, zl_11, zl_12, zl_13, zl_14, zl_15, zl_16, zl_17, zl_18, zl_19, zl_20, zl_21, zl_22, zl_23, zl_24, zl_25, zl_26, zl_27, zl_28, zl_29, zl_30, zl_31, zl_32, zl_33, zl_34, zl_35, zl_36, zl_37, zl_38, zl_39, zl_40, zl_41, zl_42, zl_43, zl_44, zl_45, zl_46, zl_47, zl_48, zl_49, zl_50, zl_51, zl_52, zl_53, zl_54, zl_55, zl_56, zl_57, zl_58, zl_59, zl_60, zl_61, zl_62, zl_63, zl_64, zl_65, zl_66, zl_80, zl_97, zl_99, zl_103, zl_107, zl_112, zl_115, zl_100, zl_180, zl_210, zl_238, zl_255, zl_256, zl_400, zl_1000, zl_1024, zl_1260, zl_2000, zl_7140, zl_7200, zl_18414, zl_65536, zl_131072, zl_9999, zl_999, zI_add, zI_sub, zI_mul, zI_neg, zI_lt, zI_le, zI_eq, zI_clamp, ck_z, ckp_z, qb_z, qb_z0, Option.bind_some]; exact c1
    rw [if_pos q, if_pos c1]
    rfl
  · have q : ¬ zI h ≤ 0 := by simp (disch := omega) only [zl_0, zl_1, zl_2, zl_3, zl_4, zl_5, zl_6, zl_7, zl_8, zl_9, zl_10, zl_11, zl_12, zl_13, zl_14, zl_15, zl_16, zl_17, zl_18, zl_19, zl_20, zl_21, zl_22, zl_23, zl_24, zl_25, zl_26, zl_27, zl_28, zl_29, zl_30, zl_31, zl_32, zl_33, zl_34, zl_35, zl_36, zl_37, zl_38, zl_39, zl_40, zl_41, zl_42, zl_43, zl_44, zl_45, zl_46, zl_47, zl_48, zl_49, zl_50, zl_51, zl_52, zl_53, zl_54, zl_55, zl_56, zl_57, zl_58, zl_59, zl_60, zl_61, zl_62, zl_63, zl_64, zl_65, zl_66, zl_80, zl_97, zl_99, zl_103, zl_107, zl_112, zl_115, zl_100, zl_180, zl_210, zl_238, zl_255, zl_256, zl_400, zl_1000, zl_1024, zl_1260, zl_2000, zl_7140, zl_7200, zl_18414, zl_65536, zl_131072, zl_9999, zl_999, zI_add, zI_sub, zI_mul, zI_neg, zI_lt, zI_le, zI_eq, zI_clamp, ck_z, ckp_z, qb_z, qb_z0, Option.bind_some]; exact c1
    rw [if_neg q, if_neg c1, ck_z (by omega) (by omega) (by omega), zI_clamp (by omega) (by omega), en (by omega)]
    by_cases c2 : c = 0
    · have q2 : zI c = 0 := by rw [c2]; rfl
      rw [if_pos q2, if_pos c2]
      rfl
    · have q2 : ¬ zI c = 0 := by simp (disch := omega) only [zl_0, zl_1, zl_2, zl_3, zl_4, zl_5, zl_6, zl_7, zl_8, zl_9, zl_10, zl_11, zl_12, zl_13, zl_14, zl_15, zl_16, zl_17, zl_18, zl_19, zl_20, zl_21, zl_22, zl_23, zl_24, zl_25, zl_26, zl_27, zl_28, zl_29, zl_30, zl_31, zl_32, zl_33, zl_34, zl_35, zl_36, zl_37, zl_38, zl_39, zl_40, zl_41, zl_42, zl_43, zl_44, zl_45, zl_46, zl_47, zl_48, zl_49, zl_50, zl_51, zl_52, zl_53, zl_54, zl_55, zl_56, zl_57, zl_58, zl_59, zl_60, zl_61, zl_62, zl_63, zl_64, zl_65, zl_66, zl_80, zl_97, zl_99, zl_103, zl_107, zl_112, zl_115, zl_100, zl_180, zl_210, zl_238, zl_255, zl_256, zl_400, zl_1000, zl_1024, zl_1260, zl_2000, zl_7140, zl_7200, zl_18414, zl_65536, zl_131072, zl_9999, zl_999, zI_add, zI_sub, zI_mul, zI_neg, zI_lt, zI_le, zI_eq, zI_clamp, ck_z, ckp_z, qb_z, qb_z0, Option.bind_some]; exact c2
      rw [if_neg q2, if_neg c2, ck_z h0 (by omega) (by omega), eh]
      by_cases c3 : u = 0
      · have q3 : zI u = 0 := by rw [c3]; rfl
        rw [if_pos q3, if_pos c3]
        rfl
      · have q3 : ¬ zI u = 0 := by simp (disch := omega) only [zl_0, zl_1, zl_2, zl_3, zl_4, zl_5, zl_6, zl_7, zl_8, zl_9, zl_10, zl_11, zl_12, zl_13, zl_14, zl_15, zl_16, zl_17, zl_18, zl_19, zl_20, zl_21, zl_22, zl_23, zl_24, zl_25, zl_26, zl_27, zl_28, zl_29, zl_30, zl_31, zl_32, zl_33, zl_34, zl_35, zl_36, zl_37, zl_38, zl_39, zl_40, zl_41, zl_42, zl_43, zl_44, zl_45, zl_46, zl_47, zl_48, zl_49, zl_50, zl_51, zl_52, zl_53, zl_54, zl_55, zl_56, zl_57, zl_58, zl_59, zl_60, zl_61, zl_62, zl_63, zl_64, zl_65, zl_66, zl_80, zl_97, zl_99, zl_103, zl_107, zl_112, zl_115, zl_100, zl_180, zl_210, zl_238, zl_255, zl_256, zl_400, zl_1000, zl_1024, zl_1260, zl_2000, zl_7140, zl_7200, zl_18414, zl_65536, zl_131072, zl_9999, zl_999, zI_add, zI_sub, zI_mul, zI_neg, zI_lt, zI_le, zI_eq, zI_clamp, ck_z, ckp_z, qb_z, qb_z0, Option.bind_some]; exact c3
        rw [if_neg q3, if_neg c3, ck_z (by omega) (by omega) (by omega), ck_z h0 (by omega) (by omega), ck_z h0 (by omega) (by omega), upd2, upd2]
        by_cases c4 : c = u
        · have q4 : zI c = zI u := by rw [c4]
          rw [if_pos q4, if_pos c4]
          rfl
        · have q4 : ¬ zI c = zI u := by simp (disch := omega) only [zl_0, zl_1, zl_2, zl_3, zl_4, zl_5, zl_6, zl_7, zl_8, zl_9, zl_10, zl_11, zl_12, zl_13, zl_14, zl_15, zl_16, zl_17, zl_18, zl_19, zl_20, zl_21, zl_22, zl_23, zl_24, zl_25, zl_26, zl_27, zl_28, zl_29, zl_30, zl_31, zl_32, zl_33, zl_34, zl_35, zl_36, zl_37, zl_38, zl_39, zl_40, zl_41, zl_42, zl_43, zl_44, zl_45, zl_46, zl_47, zl_48, zl_49, zl_50, zl_51, zl_52, zl_53, zl_54, zl_55, zl_56, zl_57, zl_58, zl_59, zl_60, zl_61, zl_62, zl_63, zl_64, zl_65, zl_66, zl_80, zl_97, zl_99, zl_103, zl_107, zl_112, zl_115, zl_100, zl_180, zl_210, zl_238, zl_255, zl_256, zl_400, zl_1000, zl_1024, zl_1260, zl_2000, zl_7140, zl_7200, zl_18414, zl_65536, zl_131072, zl_9999, zl_999, zI_add, zI_sub, zI_mul, zI_neg, zI_lt, zI_le, zI_eq, zI_clamp, ck_z, ckp_z, qb_z, qb_z0, Option.bind_some]; exact c4
          rw [if_neg q4, if_neg c4, ck_z h0 (by omega) (by omega)]
          rfl
theorem judge_z (hw : RwW n κ μ) (hr : RwC n κ μ K M C) (pg : Int) (hp : 0 ≤ pg) (hp2 : pg ≤ 999) (eR : R 5 = zI pg) (count : Int) (hco : count ≤ 30) (spots heads nexts ties : NF) (h i x c : Int) (h0 : 0 ≤ h) (h1 : h < count) (i0 : 0 ≤ i) (i1 : i < n) (hx : x = 0 ∨ (x = 1 ∧ i + 1 < n)) (hc : 0 ≤ c) (hc2 : c ≤ 9999) (en : 0 < h → nexts (h - 1).toNat = zI c) : F_X2_judge (zI count) spots heads nexts ties M R C (zI h) (zI i) (zI x) = some (upd spots h.toNat (zI (if x = 0 then spo (μ i 2) pg else tog (spo (μ i 2) pg) (spo (μ (i + 1) 2) pg))), upd heads h.toNat (zI (if x = 0 then μ i 3 else if μ (i + 1) 3 ≤ 0 then μ i 3 else μ (i + 1) 3)), upd ties h.toNat (zI (if h ≤ 0 then 0 else if c = 0 then 0 else if (if x = 0 then μ i 3 else if μ (i + 1) 3 ≤ 0 then μ i 3 else μ (i + 1) 3) = 0 then 0 else if c = (if x = 0 then μ i 3 else if μ (i + 1) 3 ≤ 0 then μ i 3 else μ (i + 1) 3) then 1 else 2))) := by
  obtain ⟨n0, n1, hk⟩ := id hw
  have m2 := (hk i i0 i1).2.2 2 (by omega) (by omega)
  have m3 := (hk i i0 i1).2.2 3 (by omega) (by omega)
  have e2 : F_X5_markOf M C (zI i) 2 = some (zI (μ i 2)) := markOf_z hw hr i 2 i0 i1 (by omega) (by omega)
  have e3 : F_X5_markOf M C (zI i) 3 = some (zI (μ i 3)) := markOf_z hw hr i 3 i0 i1 (by omega) (by omega)
  have l1 : ¬ zI h < 0 := by simp (disch := omega) only [zl_0, zl_1, zl_2, zl_3, zl_4, zl_5, zl_6, zl_7, zl_8, zl_9, zl_10, zl_11, zl_12, zl_13, zl_14, zl_15, zl_16, zl_17, zl_18, zl_19, zl_20, zl_21, zl_22, zl_23, zl_24, zl_25, zl_26, zl_27, zl_28, zl_29, zl_30, zl_31, zl_32, zl_33, zl_34, zl_35, zl_36, zl_37, zl_38, zl_39, zl_40, zl_41, zl_42, zl_43, zl_44, zl_45, zl_46, zl_47, zl_48, zl_49, zl_50, zl_51, zl_52, zl_53, zl_54, zl_55, zl_56, zl_57, zl_58, zl_59, zl_60, zl_61, zl_62, zl_63, zl_64, zl_65, zl_66, zl_80, zl_97, zl_99, zl_103, zl_107, zl_112, zl_115, zl_100, zl_180, zl_210, zl_238, zl_255, zl_256, zl_400, zl_1000, zl_1024, zl_1260, zl_2000, zl_7140, zl_7200, zl_18414, zl_65536, zl_131072, zl_9999, zl_999, zI_add, zI_sub, zI_mul, zI_neg, zI_lt, zI_le, zI_eq, zI_clamp, ck_z, ckp_z, qb_z, qb_z0, Option.bind_some]; omega
  have l2 : zI h < zI count := by simp (disch := omega) only [zl_0, zl_1, zl_2, zl_3, zl_4, zl_5, zl_6, zl_7, zl_8, zl_9, zl_10, zl_11, zl_12, zl_13, zl_14, zl_15, zl_16, zl_17, zl_18, zl_19, zl_20, zl_21, zl_22, zl_23, zl_24, zl_25, zl_26, zl_27, zl_28, zl_29, zl_30, zl_31, zl_32, zl_33, zl_34, zl_35, zl_36, zl_37, zl_38, zl_39, zl_40, zl_41, zl_42, zl_43, zl_44, zl_45, zl_46, zl_47, zl_48, zl_49, zl_50, zl_51, zl_52, zl_53, zl_54, zl_55, zl_56, zl_57, zl_58, zl_59, zl_60, zl_61, zl_62, zl_63, zl_64, zl_65, zl_66, zl_80, zl_97, zl_99, zl_103, zl_107, zl_112, zl_115, zl_100, zl_180, zl_210, zl_238, zl_255, zl_256, zl_400, zl_1000, zl_1024, zl_1260, zl_2000, zl_7140, zl_7200, zl_18414, zl_65536, zl_131072, zl_9999, zl_999, zI_add, zI_sub, zI_mul, zI_neg, zI_lt, zI_le, zI_eq, zI_clamp, ck_z, ckp_z, qb_z, qb_z0, Option.bind_some]; omega
  have ei : zI i + 1 = zI (i + 1) := by rw [zl_1, zI_add]
  have e5 : R (5 : Int32).toNatClampNeg = zI pg := eR
  unfold F_X2_judge
  rw [if_neg l1, if_pos l2, e3, e2, Option.bind_some, Option.bind_some, e5, spotOf_z m2.1 m2.2 hp hp2, Option.bind_some, zI_clamp (by omega) (by omega), ck_z h0 (by omega) (by omega), ck_z h0 (by omega) (by omega), ei, show ck (inb 5 6) = fun o : Option (NF × NF × NF) => o from rfl]
  rcases hx with rfl | ⟨rfl, hx⟩
  · rw [if_pos (show zI 0 = 0 from rfl), judge_b106_z nexts _ _ ties h c (μ i 3) h0 (by omega) hc hc2 m3.1 m3.2 en (upd_at _ _ _)]
    rfl
  · have n2 := (hk (i + 1) (by omega) hx).2.2 2 (by omega) (by omega)
    have n3 := (hk (i + 1) (by omega) hx).2.2 3 (by omega) (by omega)
    have f2 : F_X5_markOf M C (zI (i + 1)) 2 = some (zI (μ (i + 1) 2)) := markOf_z hw hr (i + 1) 2 (by omega) hx (by omega) (by omega)
    have f3 : F_X5_markOf M C (zI (i + 1)) 3 = some (zI (μ (i + 1) 3)) := markOf_z hw hr (i + 1) 3 (by omega) hx (by omega) (by omega)
    rw [if_neg (show ¬ zI 1 = 0 by decide), f3, Option.bind_some]
    unfold F_X2_judge_b78
    rw [ei, f2, Option.bind_some, spotOf_z n2.1 n2.2 hp hp2, Option.bind_some, zI_clamp (by omega) (by omega), upd_at, together_z (spo_b m2.2) (spo_b n2.2), Option.bind_some, upd2]
    have one : ¬ (1 : Int) = 0 := by omega
    rw [if_neg one, if_neg one]
    by_cases c3 : μ (i + 1) 3 ≤ 0
    · have q3 : zI (μ (i + 1) 3) ≤ 0 := by simp (disch := omega) only [zl_0, zl_1, zl_2, zl_3, zl_4, zl_5, zl_6, zl_7, zl_8, zl_9, zl_10, zl_11, zl_12, zl_13, zl_14, zl_15, zl_16, zl_17, zl_18, zl_19, zl_20, zl_21, zl_22, zl_23, zl_24, zl_25, zl_26, zl_27, zl_28, zl_29, zl_30, zl_31, zl_32, zl_33, zl_34, zl_35, zl_36, zl_37, zl_38, zl_39, zl_40, zl_41, zl_42, zl_43, zl_44, zl_45, zl_46, zl_47, zl_48, zl_49, zl_50, zl_51, zl_52, zl_53, zl_54, zl_55, zl_56, zl_57, zl_58, zl_59, zl_60, zl_61, zl_62, zl_63, zl_64, zl_65, zl_66, zl_80, zl_97, zl_99, zl_103, zl_107, zl_112, zl_115, zl_100, zl_180, zl_210, zl_238, zl_255, zl_256, zl_400, zl_1000, zl_1024, zl_1260, zl_2000, zl_7140, zl_7200, zl_18414, zl_65536, zl_131072, zl_9999, zl_999, zI_add, zI_sub, zI_mul, zI_neg, zI_lt, zI_le, zI_eq, zI_clamp, ck_z, ckp_z, qb_z, qb_z0, Option.bind_some]; exact c3
      rw [if_pos q3, if_pos c3, ck_z h0 (by omega) (by omega), ck_z h0 (by omega) (by omega), judge_b106_z nexts _ _ ties h c (μ i 3) h0 (by omega) hc hc2 m3.1 m3.2 en (upd_at _ _ _)]
    · have q3 : ¬ zI (μ (i + 1) 3) ≤ 0 := by simp (disch := omega) only [zl_0, zl_1, zl_2, zl_3, zl_4, zl_5, zl_6, zl_7, zl_8, zl_9, zl_10, zl_11, zl_12, zl_13, zl_14, zl_15, zl_16, zl_17, zl_18, zl_19, zl_20, zl_21, zl_22, zl_23, zl_24, zl_25, zl_26, zl_27, zl_28, zl_29, zl_30, zl_31, zl_32, zl_33, zl_34, zl_35, zl_36, zl_37, zl_38, zl_39, zl_40, zl_41, zl_42, zl_43, zl_44, zl_45, zl_46, zl_47, zl_48, zl_49, zl_50, zl_51, zl_52, zl_53, zl_54, zl_55, zl_56, zl_57, zl_58, zl_59, zl_60, zl_61, zl_62, zl_63, zl_64, zl_65, zl_66, zl_80, zl_97, zl_99, zl_103, zl_107, zl_112, zl_115, zl_100, zl_180, zl_210, zl_238, zl_255, zl_256, zl_400, zl_1000, zl_1024, zl_1260, zl_2000, zl_7140, zl_7200, zl_18414, zl_65536, zl_131072, zl_9999, zl_999, zI_add, zI_sub, zI_mul, zI_neg, zI_lt, zI_le, zI_eq, zI_clamp, ck_z, ckp_z, qb_z, qb_z0, Option.bind_some]; exact c3
      rw [if_neg q3, if_neg c3, ck_z h0 (by omega) (by omega), upd2, Option.bind_some, spotOf_z n2.1 n2.2 hp hp2, Option.bind_some, together_z (spo_b m2.2) (spo_b n2.2), Option.bind_some, ck_z h0 (by omega) (by omega), upd2, judge_b106_z nexts _ _ ties h c (μ (i + 1) 3) h0 (by omega) hc hc2 n3.1 n3.2 en (upd_at _ _ _), ck_z h0 (by omega) (by omega)]
end LC

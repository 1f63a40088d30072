section LD
variable {n : Int} {κ : Int → Int} {μ : Int → Int → Int} {K M R : NF} {C : Int32}
theorem hangs_zr (hw : RwW n κ μ) (hr : RwC n κ μ K M C) (i : Int) (i0 : 0 ≤ i) (i1 : i < n) : F_X5_hangs K C (zI i) = some (decide (Hg (κ i))) := by
  obtain ⟨n0, n1, hk⟩ := hw
  have k1 := hk i i0 i1
  have e0 := has_z n i n0 (by omega) (by omega) (by omega)
  rw [decide_eq_true ⟨i0, i1⟩] at e0
  unfold F_X5_hangs
  rw [hr.1, e0, Option.bind_some, if_neg (by decide), ck_z i0 (by omega) (by omega), zI_clamp (by omega) (by omega), (hr.2 i i0 i1).1, hanging_z (κ i) (by omega) (by omega), Option.bind_some]
  by_cases c : Hg (κ i)
  · rw [decide_eq_true c]; rfl
  · rw [decide_eq_false c]; rfl
theorem canc_zr (hw : RwW n κ μ) (hr : RwC n κ μ K M C) (i : Int) (i0 : 0 ≤ i) (i1 : i < n) : F_X5_isCancelled K C (zI i) = some (decide (Can n κ i)) := by
  obtain ⟨n0, n1, hk⟩ := hw
  have k1 := hk i i0 i1
  have e0 := has_z n i n0 (by omega) (by omega) (by omega)
  have e1 := has_z n (i + 1) n0 (by omega) (by omega) (by omega)
  have ei : zI i + 1 = zI (i + 1) := by rw [zl_1, zI_add]
  rw [decide_eq_true ⟨i0, i1⟩] at e0
  unfold F_X5_isCancelled
  rw [hr.1, e0, Option.bind_some, if_neg (by decide), ei, e1, Option.bind_some]
  by_cases c : i + 1 < n
  · rw [decide_eq_true ⟨by omega, c⟩, if_neg (by decide), ck_z i0 (by omega) (by omega), zI_clamp (by omega) (by omega), (hr.2 i i0 i1).1]
    by_cases c2 : κ i = 2
    · have q2 : zI (κ i) = 2 := by rw [c2]; rfl
      have k2 := hk (i + 1) (by omega) c
      rw [if_pos q2, ck_z (by omega) (by omega) (by omega), zI_clamp (by omega) (by omega), (hr.2 (i + 1) (by omega) c).1]
      by_cases c3 : κ (i + 1) = 4
      · have q3 : zI (κ (i + 1)) = 4 := by rw [c3]; rfl
        rw [if_pos q3, decide_eq_true ⟨c2, c, c3⟩]
      · have q3 : ¬ zI (κ (i + 1)) = 4 := by simp (disch := omega) only [zl_0, zl_1, zl_2, zl_3, zl_4, zl_5, zl_6, zl_7, zl_8, zl_9, zl_10, zl_11, zl_12, zl_13, zl_14, zl_15, zl_16, zl_17, zl_18, zl_19, zl_20, zl_21, zl_22, zl_23, zl_24, zl_25, zl_26, zl_27, zl_28, zl_29, zl_30, zl_31, zl_32, zl_33, zl_34, zl_35, zl_36, zl_37, zl_38, zl_39, zl_40, zl_41, zl_42, zl_43, zl_44, zl_45, zl_46, zl_47, zl_48, zl_49, zl_50, zl_51, zl_52, zl_53, zl_54, zl_55, zl_56, zl_57, zl_58, zl_59, zl_60, zl_61, zl_62, zl_63, zl_64, zl_65, zl_66, zl_80, zl_97, zl_99, zl_103, zl_107, zl_112, zl_115, zl_100, zl_180, zl_210, zl_238, zl_255, zl_256, zl_400, zl_1000, zl_1024, zl_1260, zl_2000, zl_7140, zl_7200, zl_18414, zl_65536, zl_131072, zl_9999, zl_999, zI_add, zI_sub, zI_mul, zI_neg, zI_lt, zI_le, zI_eq, zI_clamp, ck_z, ckp_z, qb_z, qb_z0, Option.bind_some]; exact c3
        rw [if_neg q3, decide_eq_false (fun x => c3 x.2.2)]
    · have q2 : ¬ zI (κ i) = 2 := by simp (disch := omega) only [zl_0, zl_1, zl_2, zl_3, zl_4, zl_5, zl_6, zl_7, zl_8, zl_9, zl_10, zl_11, zl_12, zl_13, zl_14, zl_15, zl_16, zl_17, zl_18, zl_19, zl_20, zl_21, zl_22, zl_23, zl_24, zl_25, zl_26, zl_27, zl_28, zl_29, zl_30, zl_31, zl_32, zl_33, zl_34, zl_35, zl_36, zl_37, zl_38, zl_39, zl_40, zl_41, zl_42, zl_43, zl_44, zl_45, zl_46, zl_47, zl_48, zl_49, zl_50, zl_51, zl_52, zl_53, zl_54, zl_55, zl_56, zl_57, zl_58, zl_59, zl_60, zl_61, zl_62, zl_63, zl_64, zl_65, zl_66, zl_80, zl_97, zl_99, zl_103, zl_107, zl_112, zl_115, zl_100, zl_180, zl_210, zl_238, zl_255, zl_256, zl_400, zl_1000, zl_1024, zl_1260, zl_2000, zl_7140, zl_7200, zl_18414, zl_65536, zl_131072, zl_9999, zl_999, zI_add, zI_sub, zI_mul, zI_neg, zI_lt, zI_le, zI_eq, zI_clamp, ck_z, ckp_z, qb_z, qb_z0, Option.bind_some]; exact c2
      rw [if_neg q2, decide_eq_false (fun x => c2 x.1)]
  · rw [decide_eq_false (by omega), if_pos (by decide), decide_eq_false (fun x => c x.2.1)]
/-- the class's leaves, those below m -/
def LvP (Λ : Book) (m : Int) (letters numbers spots heads nexts waters sides ties : NF) (last : Int32) : Prop :=
  (∀ h, 0 ≤ h → h < m → letters h.toNat = zI (bkM Λ 0 h) ∧ numbers h.toNat = zI (bkM Λ 1 h) ∧ spots h.toNat = zI (bsp Λ (bkX Λ h) h) ∧ heads h.toNat = zI (bhd Λ (bkX Λ h) h) ∧ nexts h.toNat = zI (bkM Λ 4 h) ∧ waters h.toNat = zI (bkM Λ 5 h) ∧ sides h.toNat = zI (bkM Λ 6 h) ∧ ties h.toNat = zI (bti Λ (bkX Λ h) h)) ∧
  ∃ L : Int, last = zI L ∧ -1 ≤ L ∧ L < m ∧ (0 ≤ L → bsp Λ (bkX Λ L) L ≠ -1) ∧ ∀ h, L < h → 0 ≤ h → h < m → bsp Λ (bkX Λ h) h = -1
theorem LvP_add {Λ : Book} {m : Int} {letters numbers spots heads nexts waters sides ties : NF} {last : Int32} (hm : 0 ≤ m) (h : LvP Λ m letters numbers spots heads nexts waters sides ties last) : LvP Λ (m + 1) (upd letters m.toNat (zI (bkM Λ 0 m))) (upd numbers m.toNat (zI (bkM Λ 1 m))) (upd spots m.toNat (zI (bsp Λ (bkX Λ m) m))) (upd heads m.toNat (zI (bhd Λ (bkX Λ m) m))) (upd nexts m.toNat (zI (bkM Λ 4 m))) (upd waters m.toNat (zI (bkM Λ 5 m))) (upd sides m.toNat (zI (bkM Λ 6 m))) (upd ties m.toNat (zI (bti Λ (bkX Λ m) m))) (if bsp Λ (bkX Λ m) m = -1 then last else zI m) := by
  obtain ⟨h1, L, l1, l2, l3, l4, l5⟩ := h
  refine ⟨fun k k0 k1 => ?_, ?_⟩
  · rw [upd_z _ _ hm k0, upd_z _ _ hm k0, upd_z _ _ hm k0, upd_z _ _ hm k0, upd_z _ _ hm k0, upd_z _ _ hm k0, upd_z _ _ hm k0, upd_z _ _ hm k0]
    by_cases e : k = m
    · subst e
      rw [if_pos rfl, if_pos rfl, if_pos rfl, if_pos rfl, if_pos rfl, if_pos rfl, if_pos rfl, if_pos rfl]
      exact ⟨rfl, rfl, rfl, rfl, rfl, rfl, rfl, rfl⟩
    · rw [if_neg e, if_neg e, if_neg e, if_neg e, if_neg e, if_neg e, if_neg e, if_neg e]
      exact h1 k k0 (by omega)
  · by_cases c : bsp Λ (bkX Λ m) m = -1
    · rw [if_pos c]
      refine ⟨L, l1, l2, by omega, l4, fun k k1 k2 k3 => ?_⟩
      by_cases e : k = m
      · rw [e]; exact c
      · exact l5 k k1 k2 (by omega)
    · rw [if_neg c]
      exact ⟨m, rfl, by omega, by omega, fun _ => c, fun k k1 k2 k3 => by omega⟩
end LD

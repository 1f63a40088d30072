def FrmAll (isThere mthings mquires fl fp sizeOf placed kindOf catchOf isThere' mthings' mquires' fl' fp' sizeOf' placed' kindOf' catchOf' : NF) : Prop := Frm 1 isThere isThere' ∧ Frm 1 mthings mthings' ∧ Frm 1 mquires mquires' ∧ Frm 1 fl fl' ∧ Frm 1 fp fp' ∧ Frm 8 sizeOf sizeOf' ∧ Frm 64 placed placed' ∧ Frm 30 kindOf kindOf' ∧ Frm 30 catchOf catchOf'
def CurR (made : Bool) (quires things ghosts letter page : Int32) (sizes cells kinds words quireOf placeOf : NF) (isThere mthings mquires fl fp sizeOf placed kindOf catchOf : NF) : Prop :=
  ∃ Φ, FoldW Φ ∧ FoldC Φ quires things ghosts letter page sizes cells kinds words quireOf placeOf ∧ ((made = true ∧ isThere 0 = 1 ∧ FoldM 0 Φ mthings mquires fl fp sizeOf placed kindOf catchOf) ∨ (made = false ∧ isThere 0 = 0 ∧ fQ Φ = 0 ∧ fT Φ = 0 ∧ fG Φ = 0 ∧ fL Φ = 0))
def KepR (k : Int) (made : Bool) (quires things ghosts letter page : Int32) (sizes cells kinds words quireOf placeOf : NF) (isThere mthings mquires fl fp sizeOf placed kindOf catchOf : NF) : Prop :=
  (made = true ∧ isThere (k + 1).toNat = 1 ∧ ∃ Φ, FoldW Φ ∧ FoldC Φ quires things ghosts letter page sizes cells kinds words quireOf placeOf ∧ FoldM (k + 1) Φ mthings mquires fl fp sizeOf placed kindOf catchOf) ∨ (made = false ∧ isThere (k + 1).toNat = 0)
section CU
variable {made : Bool} {quires things ghosts letter page : Int32} {sizes cells kinds words quireOf placeOf : NF} {isThere mthings mquires fl fp sizeOf placed kindOf catchOf : NF} {isThere' mthings' mquires' fl' fp' sizeOf' placed' kindOf' catchOf' : NF}
theorem FoldM_frm {f : Int} {Φ : Fold} (hf : 1 ≤ f) (hw : FoldW Φ) (h : FoldM f Φ mthings mquires fl fp sizeOf placed kindOf catchOf) (hF : FrmAll isThere mthings mquires fl fp sizeOf placed kindOf catchOf isThere' mthings' mquires' fl' fp' sizeOf' placed' kindOf' catchOf') : FoldM f Φ mthings' mquires' fl' fp' sizeOf' placed' kindOf' catchOf' := by
  obtain ⟨f1, f2, f3, f4, f5, f6, f7, f8, f9⟩ := hF
  obtain ⟨⟨h1, h2, h3, h4⟩, h5, h6, h7, h8⟩ := h
  refine ⟨⟨(f3 f hf).trans h1, (f2 f hf).trans h2, (f4 f hf).trans h3, (f5 f hf).trans h4⟩, fun q a b => (f6 _ (by omega)).trans (h5 q a b), fun q p a b c d => (f7 _ (by omega)).trans (h6 q p a b c d), fun i a b => (f8 _ (by omega)).trans (h7 i a b), fun i a b c => (f9 _ (by omega)).trans (h8 i a b c)⟩
theorem KepR_frm {k : Int} (hk : 0 ≤ k) (h : KepR k made quires things ghosts letter page sizes cells kinds words quireOf placeOf isThere mthings mquires fl fp sizeOf placed kindOf catchOf) (hF : FrmAll isThere mthings mquires fl fp sizeOf placed kindOf catchOf isThere' mthings' mquires' fl' fp' sizeOf' placed' kindOf' catchOf') : KepR k made quires things ghosts letter page sizes cells kinds words quireOf placeOf isThere' mthings' mquires' fl' fp' sizeOf' placed' kindOf' catchOf' := by
  rcases h with ⟨h1, h2, Φ, h3, h4, h5⟩ | ⟨h1, h2⟩
  · exact Or.inl ⟨h1, (hF.1 _ (by omega)).trans h2, Φ, h3, h4, FoldM_frm (by omega) h3 h5 hF⟩
  · exact Or.inr ⟨h1, (hF.1 _ (by omega)).trans h2⟩
theorem op_folding (h : CurR made quires things ghosts letter page sizes cells kinds words quireOf placeOf isThere mthings mquires fl fp sizeOf placed kindOf catchOf) (told v1 : Int32) : ∃ c1 c2, F_X7_folding quires things ghosts letter sizes v1 = some c1 ∧ F_X8_folding told isThere mthings mquires fl sizeOf placed v1 = some c2 ∧ c1 = c2.1 := by
  obtain ⟨Φ, hw, hc, ⟨-, ht, hm⟩ | ⟨-, ht, hQ, hT, hG, hL⟩⟩ := h
  · exact op_folding1 hw hc hm ht told v1
  · obtain ⟨a, ha1, ha2, rfl⟩ := zI_of v1
    have e5 := placesAhead_z hw hc 0 (by omega) 0 FU 0 (by omega) (by unfold FU; omega)
    have eq : quires = zI 0 := by rw [hc.1.1, hQ]
    have et : things = zI 0 := by rw [hc.1.2.1, hT]
    have eg : ghosts = zI 0 := by rw [hc.1.2.2.1, hG]
    have el : letter = zI 0 := by rw [hc.1.2.2.2.1, hL]
    have e6 : F_X0_placesAhead quires sizes (zI 0) = some (zI 0) := e5
    unfold F_X7_folding F_X8_folding
    rw [show (0 : Int32).toNatClampNeg = 0 from rfl, ht]
    rw [eq, et, eg, el]
    rw [eq] at e6
    rw [e6]
    by_cases h : 0 ≤ a ∧ a ≤ 4
    · refine ⟨zI 0, (zI 0, zI 0), ?_, ?_, rfl⟩
      · simp (disch := omega) only [zl_0, zl_1, zl_2, zl_3, zl_4, zl_5, zl_6, zl_7, zl_8, zl_9, zl_10, zl_11, zl_12, zl_13, zl_14, zl_15, zl_16, zl_17, zl_18, zl_19, zl_20, zl_21, zl_22, zl_23, zl_24, zl_25, zl_26, zl_27, zl_28, zl_29, zl_30, zl_31, zl_32, zl_33, zl_34, zl_35, zl_36, zl_37, zl_38, zl_39, zl_40, zl_41, zl_42, zl_43, zl_44, zl_45, zl_46, zl_47, zl_48, zl_49, zl_50, zl_51, zl_52, zl_53, zl_54, zl_55, zl_56, zl_57, zl_58, zl_59, zl_60, zl_61, zl_62, zl_63, zl_64, zl_65, zl_66, zl_80, zl_97, zl_99, zl_103, zl_107, zl_112, zl_115, zl_100, zl_180, zl_210, zl_238, zl_255, zl_256, zl_400, zl_1000, zl_1024, zl_1260, zl_2000, zl_7140, zl_7200, zl_18414, zl_65536, zl_131072, zl_9999, zl_999, zI_add, zI_sub, zI_mul, zI_neg, zI_lt, zI_le, zI_eq, zI_clamp, ck_z, ckp_z, qb_z, qb_z0, Option.bind_some]
        (repeat' split) <;> first | rfl | contradiction | (exfalso; omega)
      · simp (disch := omega) only [zl_0, zl_1, zl_2, zl_3, zl_4, zl_5, zl_6, zl_7, zl_8, zl_9, zl_10, zl_11, zl_12, zl_13, zl_14, zl_15, zl_16, zl_17, zl_18, zl_19, zl_20, zl_21, zl_22, zl_23, zl_24, zl_25, zl_26, zl_27, zl_28, zl_29, zl_30, zl_31, zl_32, zl_33, zl_34, zl_35, zl_36, zl_37, zl_38, zl_39, zl_40, zl_41, zl_42, zl_43, zl_44, zl_45, zl_46, zl_47, zl_48, zl_49, zl_50, zl_51, zl_52, zl_53, zl_54, zl_55, zl_56, zl_57, zl_58, zl_59, zl_60, zl_61, zl_62, zl_63, zl_64, zl_65, zl_66, zl_80, zl_97, zl_99, zl_103, zl_107, zl_112, zl_115, zl_100, zl_180, zl_210, zl_238, zl_255, zl_256, zl_400, zl_1000, zl_1024, zl_1260, zl_2000, zl_7140, zl_7200, zl_18414, zl_65536, zl_131072, zl_9999, zl_999, zI_add, zI_sub, zI_mul, zI_neg, zI_lt, zI_le, zI_eq, zI_clamp, ck_z, ckp_z, qb_z, qb_z0, Option.bind_some]
        (repeat' split) <;> first | rfl | contradiction | (exfalso; omega)
    · refine ⟨zI (-1), (zI (-1), zI 0), ?_, ?_, rfl⟩
      · simp (disch := omega) only [zl_0, zl_1, zl_2, zl_3, zl_4, zl_5, zl_6, zl_7, zl_8, zl_9, zl_10, zl_11, zl_12, zl_13, zl_14, zl_15, zl_16, zl_17, zl_18, zl_19, zl_20, zl_21, zl_22, zl_23, zl_24, zl_25, zl_26, zl_27, zl_28, zl_29, zl_30, zl_31, zl_32, zl_33, zl_34, zl_35, zl_36, zl_37, zl_38, zl_39, zl_40, zl_41, zl_42, zl_43, zl_44, zl_45, zl_46, zl_47, zl_48, zl_49, zl_50, zl_51, zl_52, zl_53, zl_54, zl_55, zl_56, zl_57, zl_58, zl_59, zl_60, zl_61, zl_62, zl_63, zl_64, zl_65, zl_66, zl_80, zl_97, zl_99, zl_103, zl_107, zl_112, zl_115, zl_100, zl_180, zl_210, zl_238, zl_255, zl_256, zl_400, zl_1000, zl_1024, zl_1260, zl_2000, zl_7140, zl_7200, zl_18414, zl_65536, zl_131072, zl_9999, zl_999, zI_add, zI_sub, zI_mul, zI_neg, zI_lt, zI_le, zI_eq, zI_clamp, ck_z, ckp_z, qb_z, qb_z0, Option.bind_some]
        (repeat' split) <;> first | rfl | contradiction | (exfalso; omega)
      · simp (disch := omega) only [zl_0, zl_1, zl_2, zl_3, zl_4, zl_5, zl_6, zl_7, zl_8, zl_9, zl_10, zl_11, zl_12, zl_13, zl_14, zl_15, zl_16, zl_17, zl_18, zl_19, zl_20, zl_21, zl_22, zl_23, zl_24, zl_25, zl_26, zl_27, zl_28, zl_29, zl_30, zl_31, zl_32, zl_33, zl_34, zl_35, zl_36, zl_37, zl_38, zl_39, zl_40, zl_41, zl_42, zl_43, zl_44, zl_45, zl_46, zl_47, zl_48, zl_49, zl_50, zl_51, zl_52, zl_53, zl_54, zl_55, zl_56, zl_57, zl_58, zl_59, zl_60, zl_61, zl_62, zl_63, zl_64, zl_65, zl_66, zl_80, zl_97, zl_99, zl_103, zl_107, zl_112, zl_115, zl_100, zl_180, zl_210, zl_238, zl_255, zl_256, zl_400, zl_1000, zl_1024, zl_1260, zl_2000, zl_7140, zl_7200, zl_18414, zl_65536, zl_131072, zl_9999, zl_999, zI_add, zI_sub, zI_mul, zI_neg, zI_lt, zI_le, zI_eq, zI_clamp, ck_z, ckp_z, qb_z, qb_z0, Option.bind_some]
        (repeat' split) <;> first | rfl | contradiction | (exfalso; omega)
theorem isQuireM_no (ht : isThere 0 = 0) (v : Int32) : F_X8_isQuire_ isThere mquires 0 v = some false := by
  unfold F_X8_isQuire_
  rw [show (0 : Int32).toNatClampNeg = 0 from rfl, ht]
  rfl
theorem isPlaceM_no (ht : isThere 0 = 0) (v w : Int32) : F_X8_isPlace isThere mquires sizeOf 0 v w = some false := by
  unfold F_X8_isPlace
  rw [isQuireM_no ht]
  rfl
theorem op_size (h : CurR made quires things ghosts letter page sizes cells kinds words quireOf placeOf isThere mthings mquires fl fp sizeOf placed kindOf catchOf) (told v1 : Int32) : ∃ c1 c2, F_X7_size quires sizes v1 = some c1 ∧ F_X8_size told isThere mquires sizeOf v1 = some c2 ∧ c1 = c2.1 := by
  obtain ⟨Φ, hw, hc, ⟨-, ht, hm⟩ | ⟨-, ht, hQ, hT, hG, hL⟩⟩ := h
  · exact op_size1 hw hc hm ht told v1
  · obtain ⟨a, ha1, ha2, rfl⟩ := zI_of v1
    unfold F_X7_size F_X8_size
    rw [isQuireM_no ht, hc.1.1, hasQuire_z _ _ (by omega) (by omega) ha1 ha2, decide_eq_false (by omega)]
    exact ⟨_, _, rfl, rfl, rfl⟩
theorem op_place (h : CurR made quires things ghosts letter page sizes cells kinds words quireOf placeOf isThere mthings mquires fl fp sizeOf placed kindOf catchOf) (told v1 v2 : Int32) : ∃ c1 c2, F_X7_place quires sizes cells v1 v2 = some c1 ∧ F_X8_place told isThere mquires sizeOf placed v1 v2 = some c2 ∧ c1 = c2.1 := by
  obtain ⟨Φ, hw, hc, ⟨-, ht, hm⟩ | ⟨-, ht, hQ, hT, hG, hL⟩⟩ := h
  · exact op_place1 hw hc hm ht told v1 v2
  · obtain ⟨a, ha1, ha2, rfl⟩ := zI_of v1
    obtain ⟨b, hb1, hb2, rfl⟩ := zI_of v2
    unfold F_X7_place F_X8_place
    rw [isPlaceM_no ht, thingAt_z hw hc a b ha1 ha2 hb1 hb2, if_neg (by omega)]
    exact ⟨_, _, rfl, rfl, rfl⟩
theorem op_thing (h : CurR made quires things ghosts letter page sizes cells kinds words quireOf placeOf isThere mthings mquires fl fp sizeOf placed kindOf catchOf) (told v1 v2 : Int32) : ∃ c1 c2, F_X7_thing quires things sizes cells kinds quireOf placeOf v1 v2 = some c1 ∧ F_X8_thing told isThere mthings mquires sizeOf placed v1 v2 = some c2 ∧ c1 = c2.1 := by
  obtain ⟨Φ, hw, hc, ⟨-, ht, hm⟩ | ⟨-, ht, hQ, hT, hG, hL⟩⟩ := h
  · exact op_thing1 hw hc hm ht told v1 v2
  · obtain ⟨a, ha1, ha2, rfl⟩ := zI_of v1
    unfold F_X7_thing F_X8_thing
    rw [hangs_z hw hc a ha1 ha2, decide_eq_false (by omega), show (0 : Int32).toNatClampNeg = 0 from rfl, ht]
    exact ⟨_, _, rfl, rfl, rfl⟩
theorem op_where (h : CurR made quires things ghosts letter page sizes cells kinds words quireOf placeOf isThere mthings mquires fl fp sizeOf placed kindOf catchOf) (told v1 v2 v3 : Int32) : ∃ c1 c2, F_X7_where quires things page sizes cells kinds words v1 v2 v3 = some c1 ∧ F_X8_where told isThere mquires fp sizeOf placed catchOf v1 v2 v3 = some c2 ∧ c1 = c2.1 := by
  obtain ⟨Φ, hw, hc, ⟨-, ht, hm⟩ | ⟨-, ht, hQ, hT, hG, hL⟩⟩ := h
  · exact op_where1 hw hc hm ht told v1 v2 v3
  · obtain ⟨a, ha1, ha2, rfl⟩ := zI_of v1
    obtain ⟨b, hb1, hb2, rfl⟩ := zI_of v2
    unfold F_X7_where F_X8_where
    rw [isPlaceM_no ht, hasPlace_z hw hc a b ha1 ha2 hb1 hb2, decide_eq_false (by omega)]
    exact ⟨_, _, rfl, rfl, rfl⟩
theorem cpy0 (a b : NF) (n : Nat) (i : Int) (h0 : 0 ≤ i) (h1 : i < n) : va_cpy a b 0 0 n i.toNat = a i.toNat := by
  unfold va_cpy
  rw [if_pos (by omega)]
  congr 1
  omega
theorem FoldC_cpy {Φ : Fold} (hw : FoldW Φ) (h : FoldC Φ quires things ghosts letter page sizes cells kinds words quireOf placeOf) (s2 c2 k2 w2 q2 p2 : NF) : FoldC Φ quires things ghosts letter page (va_cpy sizes s2 0 0 8) (va_cpy cells c2 0 0 64) (va_cpy kinds k2 0 0 30) (va_cpy words w2 0 0 30) (va_cpy quireOf q2 0 0 30) (va_cpy placeOf p2 0 0 30) := by
  have hr := hw.1
  obtain ⟨h1, h2, h3, h4, h5⟩ := h
  refine ⟨h1, fun q a b => ?_, fun q p a b c d => ?_, fun i a b => ?_, fun i a b c => ?_⟩
  · rw [cpy0 _ _ _ _ a (by omega)]; exact h2 q a b
  · have hs := hw.2.1 q a b
    rw [cpy0 _ _ _ _ (by omega) (by omega)]; exact h3 q p a b c d
  · rw [cpy0 _ _ _ _ a (by omega)]; exact h4 i a b
  · rw [cpy0 _ _ _ _ a (by omega), cpy0 _ _ _ _ a (by omega), cpy0 _ _ _ _ a (by omega)]; exact h5 i a b c
theorem become_eq (m1 : Bool) (x1 x2 x3 x4 x5 : Int32) (y1 y2 y3 y4 y5 y6 : NF) (m2 : Bool) (a1 a2 a3 a4 a5 : Int32) (b1 b2 b3 b4 b5 b6 : NF) : F_X0_become m1 x1 x2 x3 x4 x5 y1 y2 y3 y4 y5 y6 m2 a1 a2 a3 a4 a5 b1 b2 b3 b4 b5 b6 = some (m2, a1, a2, a3, a4, a5, va_cpy b1 y1 0 0 8, va_cpy b2 y2 0 0 64, va_cpy b3 y3 0 0 30, va_cpy b4 y4 0 0 30, va_cpy b5 y5 0 0 30, va_cpy b6 y6 0 0 30) := rfl
end CU

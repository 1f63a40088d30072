section RO
variable {isThere mthings mquires fl fp sizeOf placed kindOf catchOf : NF} {b t : NF} {bl tl : Int32}
theorem op_read_n (fm : Bool) (x1 x2 x3 x4 x5 : Int32) (z1 z2 z3 z4 z5 z6 : NF) (hC : CurR fm x1 x2 x3 x4 x5 z1 z2 z3 z4 z5 z6 isThere mthings mquires fl fp sizeOf placed kindOf catchOf) (hT : TapR b bl t tl) (gm : Bool) (g1 g2 g3 g4 g5 : Int32) (y1 y2 y3 y4 y5 y6 : NF) (g6 : Int32) (d1 d2 d3 d4 : Int32) (d5 d6 d7 : NF) (d8 d9 d10 d11 d12 : Int32) (told fk fpl rd nT nQ nL : Int32) (nS nP nK cd ep ek : NF) (ex : Int32) :
    ∃ c1 c2, F_X7_read_n fm x1 x2 x3 x4 x5 z1 z2 z3 z4 z5 z6 gm g1 g2 g3 g4 g5 y1 y2 y3 y4 y5 y6 g6 b bl d1 d2 d3 d4 d5 d6 d7 d8 d9 d10 d11 d12 = some c1 ∧ F_X8_read told isThere mthings mquires fl fp sizeOf placed kindOf catchOf t tl fk fpl rd nT nQ nL nS nP nK cd ep ek ex = some c2 ∧ c1.1 = c2.1 ∧ CurR c1.2.1 c1.2.2.1 c1.2.2.2.1 c1.2.2.2.2.1 c1.2.2.2.2.2.1 c1.2.2.2.2.2.2.1 c1.2.2.2.2.2.2.2.1 c1.2.2.2.2.2.2.2.2.1 c1.2.2.2.2.2.2.2.2.2.1 c1.2.2.2.2.2.2.2.2.2.2.1 c1.2.2.2.2.2.2.2.2.2.2.2.1 c1.2.2.2.2.2.2.2.2.2.2.2.2.1 c2.2.2.1 c2.2.2.2.1 c2.2.2.2.2.1 c2.2.2.2.2.2.1 c2.2.2.2.2.2.2.1 c2.2.2.2.2.2.2.2.1 c2.2.2.2.2.2.2.2.2.1 c2.2.2.2.2.2.2.2.2.2.1 c2.2.2.2.2.2.2.2.2.2.2.1 ∧ FrmAll isThere mthings mquires fl fp sizeOf placed kindOf catchOf c2.2.2.1 c2.2.2.2.1 c2.2.2.2.2.1 c2.2.2.2.2.2.1 c2.2.2.2.2.2.2.1 c2.2.2.2.2.2.2.2.1 c2.2.2.2.2.2.2.2.2.1 c2.2.2.2.2.2.2.2.2.2.1 c2.2.2.2.2.2.2.2.2.2.2.1 ∧ c1.2.2.2.2.2.2.2.2.2.2.2.2.2.2.2.2.2.2.2.2.2.2.2.2.2.2.1 = 0 ∧ c2.2.2.2.2.2.2.2.2.2.2.2.1 = 0 ∧ c1.2.2.2.2.2.2.2.2.2.2.2.2.2.2.2.2.2.2.2.2.2.2.2.2.2.2.2.1 = c2.2.2.2.2.2.2.2.2.2.2.2.2.1 ∧ c1.2.2.2.2.2.2.2.2.2.2.2.2.2.2.2.2.2.2.2.2.2.2.2.2.2.2.2.2.1 = c2.2.2.2.2.2.2.2.2.2.2.2.2.2.1 := by
  obtain ⟨N, hN, hN2, rfl, rfl, hE⟩ := hT
  have hQ0 : fQ (b0 0 0) = 0 := rfl
  have hT0 : fT (b0 0 0) = 0 := rfl
  have pc0 : PC (b0 0 0) 0 0 0 0 0 0 0 y1 y2 y3 y4 y5 y6 := PC_b0 0 0
  have pr0 : PR (b0 0 0) 0 0 nS nP nK := ⟨rfl, fun q a b => by omega, fun q p a b => by omega, fun i a b => by omega⟩
  have st : F_X0_start gm g1 g2 g3 g4 g5 g6 0 0 = some (true, 0, 0, 0, 0, 0, 0) := rfl
  unfold F_X7_read_n F_X8_read F_X3_readFormula F_X8_reading
  rw [st, Option.bind_some]
  rcases formula_z (fa := 0) (fp := -1) (fk := fk) (fpl := fpl) hN hN2 hE 9 FU FU 0 (b0 0 0) 0 0 0 d5 d6 d7 d8 d9 d10 d11 d12 0 0 0 0 0 0 y1 y2 y3 y4 y5 y6 0 nL nS nP nK cd ep ek ex (by omega) (by unfold FU; omega) (by unfold FU; omega) (by omega) (by omega) (PW_b0 0 0) (Wz_b0 0 0) (by omega) (by omega) (by omega) hN (Or.inl ⟨rfl, rfl⟩) pc0 pr0 (by omega) with ⟨k, a, r1, r2, i1, i2⟩ | ⟨Φ, v1, v2, s1, s2, s3, s4, s5, s6, s7, s8, q', t', g', l', sz', ce', ki', wo', qo', po', v3, nS', nP', nK', cd', ep', ek', ex', i1, i2, i3, i4, i5, i6, i7, i8, i9, i10, i11, i12⟩
  · have i1' : F_X3_readFormula_b33 b (zI N) FU 0 (-1) 0 0 d5 d6 d7 d8 d9 d10 d11 d12 true 0 0 0 0 0 y1 y2 y3 y4 y5 y6 0 0 = some (false, zI k, zI a, r1) := i1
    have i2' : F_X8_reading_b17 t (zI N) FU fk fpl 0 0 0 nL nS nP nK cd ep ek ex 1 = some (-1, zI k, zI a, r2) := i2
    rw [i1', i2', Option.bind_some, Option.bind_some, if_pos (show qb false = 0 from rfl), if_pos (show (-1 : Int32) = -1 from rfl)]
    exact ⟨_, _, rfl, rfl, rfl, hC, FrmAll_r, rfl, rfl, rfl, rfl⟩
  · have i1' : F_X3_readFormula_b33 b (zI N) FU 0 (-1) 0 0 d5 d6 d7 d8 d9 d10 d11 d12 true 0 0 0 0 0 y1 y2 y3 y4 y5 y6 0 0 = _ := i1
    have i2' : F_X8_reading_b17 t (zI N) FU fk fpl 0 0 0 nL nS nP nK cd ep ek ex 1 = _ := i2
    have hp := i3.1
    have hP0 : fP Φ = 0 := i12
    have hw := PW_end' i3 (fun _ => rfl) i7 (by omega) (by omega)
    have q1 : ¬ zI (fT Φ) = -1 := by simp (disch := omega) only [zl_0, zl_1, zl_2, zl_3, zl_4, zl_5, zl_6, zl_7, zl_8, zl_9, zl_10, zl_11, zl_12, zl_13, zl_14, zl_15, zl_16, zl_17, zl_18, zl_19, zl_20, zl_21, zl_22, zl_23, zl_24, zl_25, zl_26, zl_27, zl_28, zl_29, zl_30, zl_31, zl_32, zl_33, zl_34, zl_35, zl_36, zl_37, zl_38, zl_39, zl_40, zl_41, zl_42, zl_43, zl_44, zl_45, zl_46, zl_47, zl_48, zl_49, zl_50, zl_51, zl_52, zl_53, zl_54, zl_55, zl_56, zl_57, zl_58, zl_59, zl_60, zl_61, zl_62, zl_63, zl_64, zl_65, zl_66, zl_80, zl_97, zl_99, zl_103, zl_107, zl_112, zl_115, zl_100, zl_180, zl_210, zl_238, zl_255, zl_256, zl_400, zl_1000, zl_1024, zl_1260, zl_2000, zl_7140, zl_7200, zl_18414, zl_65536, zl_131072, zl_9999, zl_999, zI_add, zI_sub, zI_mul, zI_neg, zI_lt, zI_le, zI_eq, zI_clamp, ck_z, ckp_z, qb_z, qb_z0, Option.bind_some]; omega
    have et := i5.1.2.1
    obtain ⟨it', th', qu', fl', fp', sz2, pl', ki2, ca', e1, e2, e3, e4⟩ := read_fin 0 isThere mthings mquires fl fp 0 0 (-1) v3 nS' nP' nK' cd' ep' ek' ex' hw i4 hP0 i6 sizeOf placed kindOf catchOf
    have c5 : inb (0 : Int32) 5 = true := rfl
    rw [i1', i2', Option.bind_some, Option.bind_some, if_neg (show ¬ qb true = 0 by decide), if_neg q1, become_eq, Option.bind_some]
    refine ⟨_, _, rfl, e1, et, ⟨Φ, hw, ?_, Or.inl ⟨rfl, e2, e3⟩⟩, e4, rfl, rfl, rfl, rfl⟩
    exact FoldC_cpy hw (PC_end' i5 (fun _ => rfl) i7) _ _ _ _ _ _
theorem read_tn : @F_X7_read_t = @F_X7_read_n := rfl
theorem op_fault_n (fk fpl told v : Int32) : ∃ c1 c2, F_X7_fault_n fk fpl v = some c1 ∧ F_X8_fault told fk fpl v = some c2 ∧ c1 = c2.1 := by
  unfold F_X7_fault_n F_X8_fault
  by_cases h0 : v = 0
  · rw [if_pos h0, if_pos h0]; exact ⟨_, _, rfl, rfl, rfl⟩
  · rw [if_neg h0, if_neg h0]
    by_cases h1 : v = 1
    · rw [if_pos h1, if_pos h1]; exact ⟨_, _, rfl, rfl, rfl⟩
    · rw [if_neg h1, if_neg h1]; exact ⟨_, _, rfl, rfl, rfl⟩
theorem fault_tn : @F_X7_fault_t = @F_X7_fault_n := rfl
end RO

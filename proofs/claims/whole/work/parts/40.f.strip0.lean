def P_X6_signAt (t_bytes : Nat → Int32) (t_length : Int32) (t_items : Int32) : Int32 → Option Value × List AC := fun z => (some (.int z), [.inr (6, [.ref 1, .int t_length, .int t_items]), .inl (0, 400, .inl t_bytes)])
set_option maxRecDepth 100000 in
theorem M_X6_signAt (l : Launch)  (t_bytes : Nat → Int32) (t_length : Int32) (t_items : Int32) (p0 : Int32) : QM l yX6_signAt cX6_signAt 2 (some .int) 0 0 0 (fun _ => True) [.ref 0, .int p0] [.inr (6, [.ref 1, .int t_length, .int t_items]), .inl (0, 400, .inl t_bytes)] (F_X6_signAt t_bytes t_length p0) (P_X6_signAt t_bytes t_length t_items) := by
  refine QM.of (by decide +kernel) (Nat.le_of_ble_eq_true rfl) ?_
  rintro X ad hX _ _ _ _
  refine QG.iload_n hX (qd K_X6_signAt 0 rfl) rfl rfl ?_
  refine QG.if_lt (tgt := 28) hX (qd K_X6_signAt 1 rfl) rfl (by decide) ?_ ?_
  · refine QG.iconst hX (qd K_X6_signAt 14 rfl) rfl ki_m1 ?_
    exact QG.iret hX (qd K_X6_signAt 15 rfl) rfl rfl (fun _ _ => rfl)
  · refine QG.iload_n hX (qd K_X6_signAt 2 rfl) rfl rfl ?_
    refine QG.aload_n hX (qd K_X6_signAt 3 rfl) rfl rfl ?_
    refine QG.getf hX fl_X6_15 (qd K_X6_signAt 4 rfl) rfl rfl rfl ?_
    refine QG.icmp_ge (tgt := 28) hX (qd K_X6_signAt 5 rfl) rfl (by decide) ?_ ?_
    · refine QG.iconst hX (qd K_X6_signAt 14 rfl) rfl ki_m1 ?_
      exact QG.iret hX (qd K_X6_signAt 15 rfl) rfl rfl (fun _ _ => rfl)
    · refine QG.iload_n hX (qd K_X6_signAt 6 rfl) rfl rfl ?_
      refine QG.sipush hX (qd K_X6_signAt 7 rfl) rfl ks_400 ?_
      refine QG.icmp_ge (tgt := 28) hX (qd K_X6_signAt 8 rfl) rfl (by decide) ?_ ?_
      · refine QG.iconst hX (qd K_X6_signAt 14 rfl) rfl ki_m1 ?_
        exact QG.iret hX (qd K_X6_signAt 15 rfl) rfl rfl (fun _ _ => rfl)
      · refine QG.aload_n hX (qd K_X6_signAt 9 rfl) rfl rfl ?_
        refine QG.getf hX fl_X6_9 (qd K_X6_signAt 10 rfl) rfl rfl rfl ?_
        refine QG.iload_n hX (qd K_X6_signAt 11 rfl) rfl rfl ?_
        refine QG.iald hX (qd K_X6_signAt 12 rfl) rfl rfl ?_
        refine QG.goto (tgt := 29) hX (qd K_X6_signAt 13 rfl) rfl (by decide) ?_
        exact QG.iret hX (qd K_X6_signAt 15 rfl) rfl rfl (fun _ _ => rfl)

def P_X6_add (t_items : Int32) : (Nat → Int32) × Int32 → Option Value × List AC := fun z => (none, [.inr (6, [.ref 1, .int z.2, .int t_items]), .inl (0, 400, .inl z.1)])
set_option maxRecDepth 100000 in
theorem M_X6_add (l : Launch)  (t_bytes : Nat → Int32) (t_length : Int32) (t_items : Int32) (p0 : Int32) : QM l yX6_add cX6_add 2 none 0 0 0 (fun _ => True) [.ref 0, .int p0] [.inr (6, [.ref 1, .int t_length, .int t_items]), .inl (0, 400, .inl t_bytes)] (F_X6_add t_bytes t_length p0) (P_X6_add t_items) := by
  refine QM.of (by decide +kernel) (Nat.le_of_ble_eq_true rfl) ?_
  rintro X ad hX _ _ _ _
  refine QG.aload_n hX (qd K_X6_add 0 rfl) rfl rfl ?_
  refine QG.getf hX fl_X6_15 (qd K_X6_add 1 rfl) rfl rfl rfl ?_
  refine QG.if_lt (tgt := 37) hX (qd K_X6_add 2 rfl) rfl (by decide) ?_ ?_
  · exact QG.vret hX (qd K_X6_add 19 rfl) rfl rfl (fun _ _ => rfl)
  · refine QG.aload_n hX (qd K_X6_add 3 rfl) rfl rfl ?_
    refine QG.getf hX fl_X6_15 (qd K_X6_add 4 rfl) rfl rfl rfl ?_
    refine QG.sipush hX (qd K_X6_add 5 rfl) rfl ks_400 ?_
    refine QG.icmp_ge (tgt := 37) hX (qd K_X6_add 6 rfl) rfl (by decide) ?_ ?_
    · exact QG.vret hX (qd K_X6_add 19 rfl) rfl rfl (fun _ _ => rfl)
    · refine QG.aload_n hX (qd K_X6_add 7 rfl) rfl rfl ?_
      refine QG.getf hX fl_X6_9 (qd K_X6_add 8 rfl) rfl rfl rfl ?_
      refine QG.aload_n hX (qd K_X6_add 9 rfl) rfl rfl ?_
      refine QG.getf hX fl_X6_15 (qd K_X6_add 10 rfl) rfl rfl rfl ?_
      refine QG.iload_n hX (qd K_X6_add 11 rfl) rfl rfl ?_
      refine QG.iast (Wd' := [.inr (6, [.ref 1, .int t_length, .int t_items]), .inl (0, 400, .inl (upd t_bytes t_length.toNatClampNeg p0))]) hX (qd K_X6_add 12 rfl) rfl rfl rfl ?_
      refine QG.aload_n hX (qd K_X6_add 13 rfl) rfl rfl ?_
      refine QG.dup hX (qd K_X6_add 14 rfl) rfl rfl ?_
      refine QG.getf hX fl_X6_15 (qd K_X6_add 15 rfl) rfl rfl rfl ?_
      refine QG.iconst hX (qd K_X6_add 16 rfl) rfl ki_1 ?_
      refine QG.iadd hX (qd K_X6_add 17 rfl) rfl ?_
      refine QG.putf (Wd' := [.inr (6, [.ref 1, .int (t_length + 1), .int t_items]), .inl (0, 400, .inl (upd t_bytes t_length.toNatClampNeg p0))]) hX fl_X6_15 fp_6_1 (qd K_X6_add 18 rfl) rfl rfl (Nat.le_of_ble_eq_true rfl) (qfit_i _) rfl ?_
      exact QG.vret hX (qd K_X6_add 19 rfl) rfl rfl (fun _ _ => rfl)

def P_X6_addInt (t_items : Int32) : (Nat → Int32) × Int32 → Option Value × List AC := fun z => (none, [.inr (6, [.ref 1, .int z.2, .int t_items]), .inl (0, 400, .inl z.1)])
set_option maxRecDepth 100000 in
theorem M_X6_addInt (l : Launch)  (t_bytes : Nat → Int32) (t_length : Int32) (t_items : Int32) (p0 : Int32) : QM l yX6_addInt cX6_addInt 2 none 1 0 0 (fun _ => True) [.ref 0, .int p0] [.inr (6, [.ref 1, .int t_length, .int t_items]), .inl (0, 400, .inl t_bytes)] (F_X6_addInt t_bytes t_length p0) (P_X6_addInt t_items) := by
  refine QM.of (by decide +kernel) (Nat.le_of_ble_eq_true rfl) ?_
  rintro X ad hX _ _ _ _
  refine QG.aload_n hX (qd K_X6_addInt 0 rfl) rfl rfl ?_
  refine QG.iload_n hX (qd K_X6_addInt 1 rfl) rfl rfl ?_
  refine QG.bipush hX (qd K_X6_addInt 2 rfl) rfl kb_24 ?_
  refine QG.iushr hX (qd K_X6_addInt 3 rfl) rfl ?_
  refine QG.sipush hX (qd K_X6_addInt 4 rfl) rfl ks_255 ?_
  refine QG.iand hX (qd K_X6_addInt 5 rfl) rfl ?_
  refine QG.callV0 (rest := []) hX cw_X6_22 (M_X6_add X.l t_bytes t_length t_items (((p0.toUInt32 >>> ((24 : Int32).toUInt32 &&& Int32.toUInt32 31)).toInt32) &&& 255)) trivial (by decide) (by decide) (qd K_X6_addInt 6 rfl) rfl ⟨Nat.zero_le _, Nat.zero_le _⟩ rfl rfl rfl rfl (Nat.le_of_ble_eq_true rfl) (fun _ => rfl) (fun c9 => ?_)
  show QG X 2 _ _ 12 _ [] [.inr (6, [.ref 1, .int c9.2, .int t_items]), .inl (0, 400, .inl c9.1)] ad 0 0
  refine QG.aload_n hX (qd K_X6_addInt 7 rfl) rfl rfl ?_
  refine QG.iload_n hX (qd K_X6_addInt 8 rfl) rfl rfl ?_
  refine QG.bipush hX (qd K_X6_addInt 9 rfl) rfl kb_16 ?_
  refine QG.iushr hX (qd K_X6_addInt 10 rfl) rfl ?_
  refine QG.sipush hX (qd K_X6_addInt 11 rfl) rfl ks_255 ?_
  refine QG.iand hX (qd K_X6_addInt 12 rfl) rfl ?_
  refine QG.callV0 (rest := []) hX cw_X6_22 (M_X6_add X.l c9.1 c9.2 t_items (((p0.toUInt32 >>> ((16 : Int32).toUInt32 &&& Int32.toUInt32 31)).toInt32) &&& 255)) trivial (by decide) (by decide) (qd K_X6_addInt 13 rfl) rfl ⟨Nat.zero_le _, Nat.zero_le _⟩ rfl rfl rfl rfl (Nat.le_of_ble_eq_true rfl) (fun _ => rfl) (fun c21 => ?_)
  show QG X 2 _ _ 24 _ [] [.inr (6, [.ref 1, .int c21.2, .int t_items]), .inl (0, 400, .inl c21.1)] ad 0 0
  refine QG.aload_n hX (qd K_X6_addInt 14 rfl) rfl rfl ?_
  refine QG.iload_n hX (qd K_X6_addInt 15 rfl) rfl rfl ?_
  refine QG.bipush hX (qd K_X6_addInt 16 rfl) rfl kb_8 ?_
  refine QG.iushr hX (qd K_X6_addInt 17 rfl) rfl ?_
  refine QG.sipush hX (qd K_X6_addInt 18 rfl) rfl ks_255 ?_
  refine QG.iand hX (qd K_X6_addInt 19 rfl) rfl ?_
  refine QG.callV0 (rest := []) hX cw_X6_22 (M_X6_add X.l c21.1 c21.2 t_items (((p0.toUInt32 >>> ((8 : Int32).toUInt32 &&& Int32.toUInt32 31)).toInt32) &&& 255)) trivial (by decide) (by decide) (qd K_X6_addInt 20 rfl) rfl ⟨Nat.zero_le _, Nat.zero_le _⟩ rfl rfl rfl rfl (Nat.le_of_ble_eq_true rfl) (fun _ => rfl) (fun c33 => ?_)
  show QG X 2 _ _ 36 _ [] [.inr (6, [.ref 1, .int c33.2, .int t_items]), .inl (0, 400, .inl c33.1)] ad 0 0
  refine QG.aload_n hX (qd K_X6_addInt 21 rfl) rfl rfl ?_
  refine QG.iload_n hX (qd K_X6_addInt 22 rfl) rfl rfl ?_
  refine QG.sipush hX (qd K_X6_addInt 23 rfl) rfl ks_255 ?_
  refine QG.iand hX (qd K_X6_addInt 24 rfl) rfl ?_
  refine QG.callV0 (rest := []) hX cw_X6_22 (M_X6_add X.l c33.1 c33.2 t_items (p0 &&& 255)) trivial (by decide) (by decide) (qd K_X6_addInt 25 rfl) rfl ⟨Nat.zero_le _, Nat.zero_le _⟩ rfl rfl rfl rfl (Nat.le_of_ble_eq_true rfl) (fun _ => rfl) (fun c42 => ?_)
  show QG X 2 _ _ 45 _ [] [.inr (6, [.ref 1, .int c42.2, .int t_items]), .inl (0, 400, .inl c42.1)] ad 0 0
  exact QG.vret hX (qd K_X6_addInt 26 rfl) rfl rfl (fun _ _ => rfl)

def P_X6_become (t_items : Int32) (o_bytes : Nat → Int32) (o_length : Int32) (o_items : Int32) : (Nat → Int32) × Int32 → Option Value × List AC := fun z => (none, [.inr (6, [.ref 1, .int z.2, .int t_items]), .inl (0, 400, .inl z.1), .inr (6, [.ref 3, .int o_length, .int o_items]), .inl (0, 400, .inl o_bytes)])
set_option maxRecDepth 100000 in
theorem M_X6_become (l : Launch)  (t_bytes : Nat → Int32) (t_length : Int32) (t_items : Int32) (o_bytes : Nat → Int32) (o_length : Int32) (o_items : Int32) : QM l yX6_become cX6_become 2 none 1 0 0 (fun _ => True) [.ref 0, .ref 2] [.inr (6, [.ref 1, .int t_length, .int t_items]), .inl (0, 400, .inl t_bytes), .inr (6, [.ref 3, .int o_length, .int o_items]), .inl (0, 400, .inl o_bytes)] (F_X6_become t_bytes t_length o_bytes o_length) (P_X6_become t_items o_bytes o_length o_items) := by
  refine QM.of (by decide +kernel) (Nat.le_of_ble_eq_true rfl) ?_
  rintro X ad hX _ _ _ _
  refine QG.aload_n hX (qd K_X6_become 0 rfl) rfl rfl ?_
  refine QG.aload_n hX (qd K_X6_become 1 rfl) rfl rfl ?_
  refine QG.getf hX fl_X6_15 (qd K_X6_become 2 rfl) rfl rfl rfl ?_
  refine QG.putf (Wd' := [.inr (6, [.ref 1, .int o_length, .int t_items]), .inl (0, 400, .inl t_bytes), .inr (6, [.ref 3, .int o_length, .int o_items]), .inl (0, 400, .inl o_bytes)]) hX fl_X6_15 fp_6_1 (qd K_X6_become 3 rfl) rfl rfl (Nat.le_of_ble_eq_true rfl) (qfit_i _) rfl ?_
  refine QG.aload_n hX (qd K_X6_become 4 rfl) rfl rfl ?_
  refine QG.getf hX fl_X6_9 (qd K_X6_become 5 rfl) rfl rfl rfl ?_
  refine QG.iconst hX (qd K_X6_become 6 rfl) rfl ki_0 ?_
  refine QG.aload_n hX (qd K_X6_become 7 rfl) rfl rfl ?_
  refine QG.getf hX fl_X6_9 (qd K_X6_become 8 rfl) rfl rfl rfl ?_
  refine QG.iconst hX (qd K_X6_become 9 rfl) rfl ki_0 ?_
  refine QG.sipush hX (qd K_X6_become 10 rfl) rfl ks_400 ?_
  refine QG.acopy (Wd' := [.inr (6, [.ref 1, .int o_length, .int t_items]), .inl (0, 400, .inl (va_cpy o_bytes t_bytes (0 : Int32).toNatClampNeg (0 : Int32).toNatClampNeg (400 : Int32).toNatClampNeg)), .inr (6, [.ref 3, .int o_length, .int o_items]), .inl (0, 400, .inl o_bytes)]) hX cw_X6_26 (by decide) (qd K_X6_become 11 rfl) rfl (Nat.le_of_ble_eq_true rfl) rfl rfl rfl ?_
  exact QG.vret hX (qd K_X6_become 12 rfl) rfl rfl (fun _ _ => rfl)

def P_X6_isPlain (f_made : Bool) (f_quires : Int32) (f_things : Int32) (f_ghosts : Int32) (f_letter : Int32) (f_page : Int32) (f_sizes : Nat → Int32) (f_cells : Nat → Int32) (f_kinds : Nat → Int32) (f_words : Nat → Int32) (f_quireOf : Nat → Int32) (f_placeOf : Nat → Int32) (f_laid : Int32) : Bool → Option Value × List AC := fun z => (some (.int (qb z)), [.inr (0, [.int (qb f_made), .int f_quires, .int f_things, .int f_ghosts, .int f_letter, .int f_page, .ref 1, .ref 2, .ref 3, .ref 4, .ref 5, .ref 6, .int f_laid]), .inl (0, 8, .inl f_sizes), .inl (0, 64, .inl f_cells), .inl (0, 30, .inl f_kinds), .inl (0, 30, .inl f_words), .inl (0, 30, .inl f_quireOf), .inl (0, 30, .inl f_placeOf)])
set_option maxRecDepth 100000 in
theorem G_X6_isPlain_b24 (X : QX) (hX : qok X cX6_isPlain RX6 4 (some .boolean) 3) (ad : Nat → Nat) (f_made : Bool) (f_quires : Int32) (f_things : Int32) (f_ghosts : Int32) (f_letter : Int32) (f_page : Int32) (f_sizes : Nat → Int32) (f_cells : Nat → Int32) (f_kinds : Nat → Int32) (f_words : Nat → Int32) (f_quireOf : Nat → Int32) (f_placeOf : Nat → Int32) (f_laid : Int32) : ∀ (n : Nat) (x1 : Int32) (x2 : Int32), QG X 4 (qQ X ad 7 (P_X6_isPlain f_made f_quires f_things f_ghosts f_letter f_page f_sizes f_cells f_kinds f_words f_quireOf f_placeOf f_laid) 0 0) (F_X6_isPlain_b24 f_quires f_things f_sizes f_cells f_kinds n x1 x2) 24 [(0, .ref 0), (1, .int x1), (2, .int x2)] [] [.inr (0, [.int (qb f_made), .int f_quires, .int f_things, .int f_ghosts, .int f_letter, .int f_page, .ref 1, .ref 2, .ref 3, .ref 4, .ref 5, .ref 6, .int f_laid]), .inl (0, 8, .inl f_sizes), .inl (0, 64, .inl f_cells), .inl (0, 30, .inl f_kinds), .inl (0, 30, .inl f_words), .inl (0, 30, .inl f_quireOf), .inl (0, 30, .inl f_placeOf)] ad 0 0 := by
  intro n
  induction n with
  | zero => intros; exact QG.nothing
  | succ n ih =>
    intro x1 x2
    refine QG.iload_n hX (qd K_X6_isPlain 14 rfl) rfl rfl ?_
    refine QG.aload_n hX (qd K_X6_isPlain 15 rfl) rfl rfl ?_
    refine QG.getf hX fl_X6_47 (qd K_X6_isPlain 16 rfl) rfl rfl rfl ?_
    refine QG.iload_n hX (qd K_X6_isPlain 17 rfl) rfl rfl ?_
    refine QG.iald hX (qd K_X6_isPlain 18 rfl) rfl rfl ?_
    refine QG.icmp_gt (tgt := 77) hX (qd K_X6_isPlain 19 rfl) rfl (by decide) ?_ ?_
    · refine QG.iconst hX (qd K_X6_isPlain 45 rfl) rfl ki_1 ?_
      exact QG.zret hX (qd K_X6_isPlain 46 rfl) rfl (qb_nar true) rfl (fun _ _ => rfl)
    · refine QG.aload_n hX (qd K_X6_isPlain 20 rfl) rfl rfl ?_
      refine QG.iload_n hX (qd K_X6_isPlain 21 rfl) rfl rfl ?_
      refine QG.iload_n hX (qd K_X6_isPlain 22 rfl) rfl rfl ?_
      refine QG.callV0 (rest := []) hX cw_X6_65 (M_X0_thingAt X.l f_made f_quires f_things f_ghosts f_letter f_page f_sizes f_cells f_kinds f_words f_quireOf f_placeOf f_laid x1 x2) trivial (by decide) (by decide) (qd K_X6_isPlain 23 rfl) rfl ⟨Nat.zero_le _, Nat.zero_le _⟩ rfl rfl rfl rfl (Nat.le_of_ble_eq_true rfl) (fun _ => rfl) (fun c37 => ?_)
      show QG X 4 _ _ 40 _ [.int c37] [.inr (0, [.int (qb f_made), .int f_quires, .int f_things, .int f_ghosts, .int f_letter, .int f_page, .ref 1, .ref 2, .ref 3, .ref 4, .ref 5, .ref 6, .int f_laid]), .inl (0, 8, .inl f_sizes), .inl (0, 64, .inl f_cells), .inl (0, 30, .inl f_kinds), .inl (0, 30, .inl f_words), .inl (0, 30, .inl f_quireOf), .inl (0, 30, .inl f_placeOf)] ad 0 0
      refine QG.istore_n (lv' := [(3, .int c37), (0, .ref 0), (1, .int x1), (2, .int x2)]) hX (qd K_X6_isPlain 24 rfl) rfl (by decide) rfl ?_
      refine QG.aload_n hX (qd K_X6_isPlain 25 rfl) rfl rfl ?_
      refine QG.iload_n hX (qd K_X6_isPlain 26 rfl) rfl rfl ?_
      refine QG.callV0 (rest := []) hX cw_X6_69 (M_X0_hangs X.l f_made f_quires f_things f_ghosts f_letter f_page f_sizes f_cells f_kinds f_words f_quireOf f_placeOf f_laid c37) trivial (by decide) (by decide) (qd K_X6_isPlain 27 rfl) rfl ⟨Nat.zero_le _, Nat.zero_le _⟩ rfl rfl rfl rfl (Nat.le_of_ble_eq_true rfl) (fun _ => rfl) (fun c43 => ?_)
      show QG X 4 _ _ 46 _ [.int (qb c43)] [.inr (0, [.int (qb f_made), .int f_quires, .int f_things, .int f_ghosts, .int f_letter, .int f_page, .ref 1, .ref 2, .ref 3, .ref 4, .ref 5, .ref 6, .int f_laid]), .inl (0, 8, .inl f_sizes), .inl (0, 64, .inl f_cells), .inl (0, 30, .inl f_kinds), .inl (0, 30, .inl f_words), .inl (0, 30, .inl f_quireOf), .inl (0, 30, .inl f_placeOf)] ad 0 0
      refine QG.if_eq (tgt := 69) hX (qd K_X6_isPlain 28 rfl) rfl (by decide) ?_ ?_
      · refine QG.iconst hX (qd K_X6_isPlain 41 rfl) rfl ki_0 ?_
        exact QG.zret hX (qd K_X6_isPlain 42 rfl) rfl (qb_nar false) rfl (fun _ _ => rfl)
      · refine QG.aload_n hX (qd K_X6_isPlain 29 rfl) rfl rfl ?_
        refine QG.getf hX fl_X6_72 (qd K_X6_isPlain 30 rfl) rfl rfl rfl ?_
        refine QG.iload_n hX (qd K_X6_isPlain 31 rfl) rfl rfl ?_
        refine QG.iald hX (qd K_X6_isPlain 32 rfl) rfl rfl ?_
        refine QG.iconst hX (qd K_X6_isPlain 33 rfl) rfl ki_1 ?_
        refine QG.icmp_ne (tgt := 69) hX (qd K_X6_isPlain 34 rfl) rfl (by decide) ?_ ?_
        · refine QG.iconst hX (qd K_X6_isPlain 41 rfl) rfl ki_0 ?_
          exact QG.zret hX (qd K_X6_isPlain 42 rfl) rfl (qb_nar false) rfl (fun _ _ => rfl)
        · refine QG.aload_n hX (qd K_X6_isPlain 35 rfl) rfl rfl ?_
          refine QG.iload_n hX (qd K_X6_isPlain 36 rfl) rfl rfl ?_
          refine QG.iconst hX (qd K_X6_isPlain 37 rfl) rfl ki_1 ?_
          refine QG.iadd hX (qd K_X6_isPlain 38 rfl) rfl ?_
          refine QG.callV0 (rest := []) hX cw_X6_62 (M_X0_isLoose X.l f_made f_quires f_things f_ghosts f_letter f_page f_sizes f_cells f_kinds f_words f_quireOf f_placeOf f_laid (c37 + 1)) trivial (by decide) (by decide) (qd K_X6_isPlain 39 rfl) rfl ⟨Nat.zero_le _, Nat.zero_le _⟩ rfl rfl rfl rfl (Nat.le_of_ble_eq_true rfl) (fun _ => rfl) (fun c63 => ?_)
          show QG X 4 _ _ 66 _ [.int (qb c63)] [.inr (0, [.int (qb f_made), .int f_quires, .int f_things, .int f_ghosts, .int f_letter, .int f_page, .ref 1, .ref 2, .ref 3, .ref 4, .ref 5, .ref 6, .int f_laid]), .inl (0, 8, .inl f_sizes), .inl (0, 64, .inl f_cells), .inl (0, 30, .inl f_kinds), .inl (0, 30, .inl f_words), .inl (0, 30, .inl f_quireOf), .inl (0, 30, .inl f_placeOf)] ad 0 0
          refine QG.if_eq (tgt := 71) hX (qd K_X6_isPlain 40 rfl) rfl (by decide) ?_ ?_
          · refine QG.iinc (lv' := [(2, .int (x2 + 1)), (3, .int c37), (0, .ref 0), (1, .int x1)]) hX (qd K_X6_isPlain 43 rfl) rfl (by decide) rfl ki_1 rfl ?_
            refine QG.goto (tgt := 24) hX (qd K_X6_isPlain 44 rfl) rfl (by decide) ?_
            exact QG.jmp (lv' := [(0, .ref 0), (1, .int x1), (2, .int (x2 + 1))]) rfl (ih x1 (x2 + 1))
          · refine QG.iconst hX (qd K_X6_isPlain 41 rfl) rfl ki_0 ?_
            exact QG.zret hX (qd K_X6_isPlain 42 rfl) rfl (qb_nar false) rfl (fun _ _ => rfl)

set_option maxRecDepth 100000 in
theorem M_X6_isPlain (l : Launch)  (f_made : Bool) (f_quires : Int32) (f_things : Int32) (f_ghosts : Int32) (f_letter : Int32) (f_page : Int32) (f_sizes : Nat → Int32) (f_cells : Nat → Int32) (f_kinds : Nat → Int32) (f_words : Nat → Int32) (f_quireOf : Nat → Int32) (f_placeOf : Nat → Int32) (f_laid : Int32) (p1 : Int32) : QM l yX6_isPlain cX6_isPlain 4 (some .boolean) 3 0 0 (fun _ => True) [.ref 0, .int p1] [.inr (0, [.int (qb f_made), .int f_quires, .int f_things, .int f_ghosts, .int f_letter, .int f_page, .ref 1, .ref 2, .ref 3, .ref 4, .ref 5, .ref 6, .int f_laid]), .inl (0, 8, .inl f_sizes), .inl (0, 64, .inl f_cells), .inl (0, 30, .inl f_kinds), .inl (0, 30, .inl f_words), .inl (0, 30, .inl f_quireOf), .inl (0, 30, .inl f_placeOf)] (F_X6_isPlain f_quires f_things f_sizes f_cells f_kinds p1) (P_X6_isPlain f_made f_quires f_things f_ghosts f_letter f_page f_sizes f_cells f_kinds f_words f_quireOf f_placeOf f_laid) := by
  refine QM.of (by decide +kernel) (Nat.le_of_ble_eq_true rfl) ?_
  rintro X ad hX _ _ _ _
  refine QG.aload_n hX (qd K_X6_isPlain 0 rfl) rfl rfl ?_
  refine QG.iload_n hX (qd K_X6_isPlain 1 rfl) rfl rfl ?_
  refine QG.callV0 (rest := []) hX cw_X6_58 (M_X0_hasQuire X.l f_made f_quires f_things f_ghosts f_letter f_page f_sizes f_cells f_kinds f_words f_quireOf f_placeOf f_laid p1) trivial (by decide) (by decide) (qd K_X6_isPlain 2 rfl) rfl ⟨Nat.zero_le _, Nat.zero_le _⟩ rfl rfl rfl rfl (Nat.le_of_ble_eq_true rfl) (fun _ => rfl) (fun c2 => ?_)
  show QG X 4 _ _ 5 _ [.int (qb c2)] [.inr (0, [.int (qb f_made), .int f_quires, .int f_things, .int f_ghosts, .int f_letter, .int f_page, .ref 1, .ref 2, .ref 3, .ref 4, .ref 5, .ref 6, .int f_laid]), .inl (0, 8, .inl f_sizes), .inl (0, 64, .inl f_cells), .inl (0, 30, .inl f_kinds), .inl (0, 30, .inl f_words), .inl (0, 30, .inl f_quireOf), .inl (0, 30, .inl f_placeOf)] ad 0 0
  refine QG.if_eq (tgt := 20) hX (qd K_X6_isPlain 3 rfl) rfl (by decide) ?_ ?_
  · refine QG.iconst hX (qd K_X6_isPlain 10 rfl) rfl ki_0 ?_
    exact QG.zret hX (qd K_X6_isPlain 11 rfl) rfl (qb_nar false) rfl (fun _ _ => rfl)
  · refine QG.iload_n hX (qd K_X6_isPlain 4 rfl) rfl rfl ?_
    refine QG.if_ne (tgt := 22) hX (qd K_X6_isPlain 5 rfl) rfl (by decide) ?_ ?_
    · refine QG.iconst hX (qd K_X6_isPlain 12 rfl) rfl ki_1 ?_
      refine QG.istore_n (lv' := [(2, .int 1), (0, .ref 0), (1, .int p1)]) hX (qd K_X6_isPlain 13 rfl) rfl (by decide) rfl ?_
      exact QG.jmp (lv' := [(0, .ref 0), (1, .int p1), (2, .int 1)]) rfl (G_X6_isPlain_b24 X hX ad f_made f_quires f_things f_ghosts f_letter f_page f_sizes f_cells f_kinds f_words f_quireOf f_placeOf f_laid FU p1 1)
    · refine QG.aload_n hX (qd K_X6_isPlain 6 rfl) rfl rfl ?_
      refine QG.iconst hX (qd K_X6_isPlain 7 rfl) rfl ki_0 ?_
      refine QG.callV0 (rest := []) hX cw_X6_62 (M_X0_isLoose X.l f_made f_quires f_things f_ghosts f_letter f_page f_sizes f_cells f_kinds f_words f_quireOf f_placeOf f_laid 0) trivial (by decide) (by decide) (qd K_X6_isPlain 8 rfl) rfl ⟨Nat.zero_le _, Nat.zero_le _⟩ rfl rfl rfl rfl (Nat.le_of_ble_eq_true rfl) (fun _ => rfl) (fun c14 => ?_)
      show QG X 4 _ _ 17 _ [.int (qb c14)] [.inr (0, [.int (qb f_made), .int f_quires, .int f_things, .int f_ghosts, .int f_letter, .int f_page, .ref 1, .ref 2, .ref 3, .ref 4, .ref 5, .ref 6, .int f_laid]), .inl (0, 8, .inl f_sizes), .inl (0, 64, .inl f_cells), .inl (0, 30, .inl f_kinds), .inl (0, 30, .inl f_words), .inl (0, 30, .inl f_quireOf), .inl (0, 30, .inl f_placeOf)] ad 0 0
      refine QG.if_eq (tgt := 22) hX (qd K_X6_isPlain 9 rfl) rfl (by decide) ?_ ?_
      · refine QG.iconst hX (qd K_X6_isPlain 12 rfl) rfl ki_1 ?_
        refine QG.istore_n (lv' := [(2, .int 1), (0, .ref 0), (1, .int p1)]) hX (qd K_X6_isPlain 13 rfl) rfl (by decide) rfl ?_
        exact QG.jmp (lv' := [(0, .ref 0), (1, .int p1), (2, .int 1)]) rfl (G_X6_isPlain_b24 X hX ad f_made f_quires f_things f_ghosts f_letter f_page f_sizes f_cells f_kinds f_words f_quireOf f_placeOf f_laid FU p1 1)
      · refine QG.iconst hX (qd K_X6_isPlain 10 rfl) rfl ki_0 ?_
        exact QG.zret hX (qd K_X6_isPlain 11 rfl) rfl (qb_nar false) rfl (fun _ _ => rfl)

def P_X6_plainRun (f_made : Bool) (f_quires : Int32) (f_things : Int32) (f_ghosts : Int32) (f_letter : Int32) (f_page : Int32) (f_sizes : Nat → Int32) (f_cells : Nat → Int32) (f_kinds : Nat → Int32) (f_words : Nat → Int32) (f_quireOf : Nat → Int32) (f_placeOf : Nat → Int32) (f_laid : Int32) : Int32 → Option Value × List AC := fun z => (some (.int z), [.inr (0, [.int (qb f_made), .int f_quires, .int f_things, .int f_ghosts, .int f_letter, .int f_page, .ref 1, .ref 2, .ref 3, .ref 4, .ref 5, .ref 6, .int f_laid]), .inl (0, 8, .inl f_sizes), .inl (0, 64, .inl f_cells), .inl (0, 30, .inl f_kinds), .inl (0, 30, .inl f_words), .inl (0, 30, .inl f_quireOf), .inl (0, 30, .inl f_placeOf)])
set_option maxRecDepth 100000 in
theorem G_X6_plainRun_b2 (X : QX) (hX : qok X cX6_plainRun RX6 3 (some .int) 4) (ad : Nat → Nat) (f_made : Bool) (f_quires : Int32) (f_things : Int32) (f_ghosts : Int32) (f_letter : Int32) (f_page : Int32) (f_sizes : Nat → Int32) (f_cells : Nat → Int32) (f_kinds : Nat → Int32) (f_words : Nat → Int32) (f_quireOf : Nat → Int32) (f_placeOf : Nat → Int32) (f_laid : Int32) : ∀ (n : Nat) (x1 : Int32) (x2 : Int32), QG X 3 (qQ X ad 7 (P_X6_plainRun f_made f_quires f_things f_ghosts f_letter f_page f_sizes f_cells f_kinds f_words f_quireOf f_placeOf f_laid) 0 0) (F_X6_plainRun_b2 f_quires f_things f_sizes f_cells f_kinds n x1 x2) 2 [(0, .ref 0), (1, .int x1), (2, .int x2)] [] [.inr (0, [.int (qb f_made), .int f_quires, .int f_things, .int f_ghosts, .int f_letter, .int f_page, .ref 1, .ref 2, .ref 3, .ref 4, .ref 5, .ref 6, .int f_laid]), .inl (0, 8, .inl f_sizes), .inl (0, 64, .inl f_cells), .inl (0, 30, .inl f_kinds), .inl (0, 30, .inl f_words), .inl (0, 30, .inl f_quireOf), .inl (0, 30, .inl f_placeOf)] ad 0 0 := by
  intro n
  induction n with
  | zero => intros; exact QG.nothing
  | succ n ih =>
    intro x1 x2
    refine QG.iload_n hX (qd K_X6_plainRun 2 rfl) rfl rfl ?_
    refine QG.iload_n hX (qd K_X6_plainRun 3 rfl) rfl rfl ?_
    refine QG.iadd hX (qd K_X6_plainRun 4 rfl) rfl ?_
    refine QG.bipush hX (qd K_X6_plainRun 5 rfl) rfl kb_8 ?_
    refine QG.icmp_ge (tgt := 43) hX (qd K_X6_plainRun 6 rfl) rfl (by decide) ?_ ?_
    · refine QG.iload_n hX (qd K_X6_plainRun 26 rfl) rfl rfl ?_
      exact QG.iret hX (qd K_X6_plainRun 27 rfl) rfl rfl (fun _ _ => rfl)
    · refine QG.aload_n hX (qd K_X6_plainRun 7 rfl) rfl rfl ?_
      refine QG.iload_n hX (qd K_X6_plainRun 8 rfl) rfl rfl ?_
      refine QG.iload_n hX (qd K_X6_plainRun 9 rfl) rfl rfl ?_
      refine QG.iadd hX (qd K_X6_plainRun 10 rfl) rfl ?_
      refine QG.callS (rest := []) [0, 1, 2, 3, 4, 5, 6] hX cw_X6_54 (M_X6_isPlain X.l f_made f_quires f_things f_ghosts f_letter f_page f_sizes f_cells f_kinds f_words f_quireOf f_placeOf f_laid (x1 + x2)) trivial (by decide) (by decide) (qd K_X6_plainRun 11 rfl) rfl ⟨Nat.zero_le _, Nat.zero_le _⟩ rfl rfl (Nat.le_of_ble_eq_true rfl) rfl rfl (fun _ => rfl) (fun c14 => ?_)
      show QG X 3 _ _ 17 _ [.int (qb c14)] [.inr (0, [.int (qb f_made), .int f_quires, .int f_things, .int f_ghosts, .int f_letter, .int f_page, .ref 1, .ref 2, .ref 3, .ref 4, .ref 5, .ref 6, .int f_laid]), .inl (0, 8, .inl f_sizes), .inl (0, 64, .inl f_cells), .inl (0, 30, .inl f_kinds), .inl (0, 30, .inl f_words), .inl (0, 30, .inl f_quireOf), .inl (0, 30, .inl f_placeOf)] ad 0 0
      refine QG.if_eq (tgt := 43) hX (qd K_X6_plainRun 12 rfl) rfl (by decide) ?_ ?_
      · refine QG.iload_n hX (qd K_X6_plainRun 26 rfl) rfl rfl ?_
        exact QG.iret hX (qd K_X6_plainRun 27 rfl) rfl rfl (fun _ _ => rfl)
      · refine QG.aload_n hX (qd K_X6_plainRun 13 rfl) rfl rfl ?_
        refine QG.getf hX fl_X6_47 (qd K_X6_plainRun 14 rfl) rfl rfl rfl ?_
        refine QG.iload_n hX (qd K_X6_plainRun 15 rfl) rfl rfl ?_
        refine QG.iload_n hX (qd K_X6_plainRun 16 rfl) rfl rfl ?_
        refine QG.iadd hX (qd K_X6_plainRun 17 rfl) rfl ?_
        refine QG.iald hX (qd K_X6_plainRun 18 rfl) rfl rfl ?_
        refine QG.aload_n hX (qd K_X6_plainRun 19 rfl) rfl rfl ?_
        refine QG.getf hX fl_X6_47 (qd K_X6_plainRun 20 rfl) rfl rfl rfl ?_
        refine QG.iload_n hX (qd K_X6_plainRun 21 rfl) rfl rfl ?_
        refine QG.iald hX (qd K_X6_plainRun 22 rfl) rfl rfl ?_
        refine QG.icmp_ne (tgt := 43) hX (qd K_X6_plainRun 23 rfl) rfl (by decide) ?_ ?_
        · refine QG.iload_n hX (qd K_X6_plainRun 26 rfl) rfl rfl ?_
          exact QG.iret hX (qd K_X6_plainRun 27 rfl) rfl rfl (fun _ _ => rfl)
        · refine QG.iinc (lv' := [(2, .int (x2 + 1)), (0, .ref 0), (1, .int x1)]) hX (qd K_X6_plainRun 24 rfl) rfl (by decide) rfl ki_1 rfl ?_
          refine QG.goto (tgt := 2) hX (qd K_X6_plainRun 25 rfl) rfl (by decide) ?_
          exact QG.jmp (lv' := [(0, .ref 0), (1, .int x1), (2, .int (x2 + 1))]) rfl (ih x1 (x2 + 1))

set_option maxRecDepth 100000 in
theorem M_X6_plainRun (l : Launch)  (f_made : Bool) (f_quires : Int32) (f_things : Int32) (f_ghosts : Int32) (f_letter : Int32) (f_page : Int32) (f_sizes : Nat → Int32) (f_cells : Nat → Int32) (f_kinds : Nat → Int32) (f_words : Nat → Int32) (f_quireOf : Nat → Int32) (f_placeOf : Nat → Int32) (f_laid : Int32) (p1 : Int32) : QM l yX6_plainRun cX6_plainRun 3 (some .int) 4 0 0 (fun _ => True) [.ref 0, .int p1] [.inr (0, [.int (qb f_made), .int f_quires, .int f_things, .int f_ghosts, .int f_letter, .int f_page, .ref 1, .ref 2, .ref 3, .ref 4, .ref 5, .ref 6, .int f_laid]), .inl (0, 8, .inl f_sizes), .inl (0, 64, .inl f_cells), .inl (0, 30, .inl f_kinds), .inl (0, 30, .inl f_words), .inl (0, 30, .inl f_quireOf), .inl (0, 30, .inl f_placeOf)] (F_X6_plainRun f_quires f_things f_sizes f_cells f_kinds p1) (P_X6_plainRun f_made f_quires f_things f_ghosts f_letter f_page f_sizes f_cells f_kinds f_words f_quireOf f_placeOf f_laid) := by
  refine QM.of (by decide +kernel) (Nat.le_of_ble_eq_true rfl) ?_
  rintro X ad hX _ _ _ _
  refine QG.iconst hX (qd K_X6_plainRun 0 rfl) rfl ki_0 ?_
  refine QG.istore_n (lv' := [(2, .int 0), (0, .ref 0), (1, .int p1)]) hX (qd K_X6_plainRun 1 rfl) rfl (by decide) rfl ?_
  exact QG.jmp (lv' := [(0, .ref 0), (1, .int p1), (2, .int 0)]) rfl (G_X6_plainRun_b2 X hX ad f_made f_quires f_things f_ghosts f_letter f_page f_sizes f_cells f_kinds f_words f_quireOf f_placeOf f_laid FU p1 0)

def P_X6_addLetters (t_items : Int32) : (Nat → Int32) × Int32 → Option Value × List AC := fun z => (none, [.inr (6, [.ref 1, .int z.2, .int t_items]), .inl (0, 400, .inl z.1)])
set_option maxRecDepth 100000 in
theorem M_X6_addLetters (l : Launch)  (t_bytes : Nat → Int32) (t_length : Int32) (t_items : Int32) (p0 : Int32) : QM l yX6_addLetters cX6_addLetters 3 none 1 0 0 (fun _ => True) [.ref 0, .int p0] [.inr (6, [.ref 1, .int t_length, .int t_items]), .inl (0, 400, .inl t_bytes)] (F_X6_addLetters t_bytes t_length p0) (P_X6_addLetters t_items) := by
  refine QM.of (by decide +kernel) (Nat.le_of_ble_eq_true rfl) ?_
  rintro X ad hX _ _ _ _
  refine QG.iload_n hX (qd K_X6_addLetters 0 rfl) rfl rfl ?_
  refine QG.iconst hX (qd K_X6_addLetters 1 rfl) rfl ki_1 ?_
  refine QG.icmp_lt (tgt := 11) hX (qd K_X6_addLetters 2 rfl) rfl (by decide) ?_ ?_
  · exact QG.vret hX (qd K_X6_addLetters 6 rfl) rfl rfl (fun _ _ => rfl)
  · refine QG.iload_n hX (qd K_X6_addLetters 3 rfl) rfl rfl ?_
    refine QG.bipush hX (qd K_X6_addLetters 4 rfl) rfl kb_46 ?_
    refine QG.icmp_le (tgt := 12) hX (qd K_X6_addLetters 5 rfl) rfl (by decide) ?_ ?_
    · refine QG.gets hX (fun _ _ _ h => h.2.2.2.1) kn_X6_75 (by decide) (qd K_X6_addLetters 7 rfl) rfl ?_
      refine QG.iload_n hX (qd K_X6_addLetters 8 rfl) rfl rfl ?_
      refine QG.iconst hX (qd K_X6_addLetters 9 rfl) rfl ki_1 ?_
      refine QG.isub hX (qd K_X6_addLetters 10 rfl) rfl ?_
      refine QG.bipush hX (qd K_X6_addLetters 11 rfl) rfl kb_23 ?_
      refine QG.iremK hX (qd K_X6_addLetters 12 rfl) rfl (by decide) ?_
      refine QG.cld hX (fun _ _ _ h => h.2.2.2.1) (by decide) (qd K_X6_addLetters 13 rfl) rfl ?_
      refine QG.istore_n (lv' := [(2, .int (s_abc ((p0 - 1) - (p0 - 1) / 23 * 23).toNatClampNeg)), (0, .ref 0), (1, .int p0)]) hX (qd K_X6_addLetters 14 rfl) rfl (by decide) rfl ?_
      refine QG.aload_n hX (qd K_X6_addLetters 15 rfl) rfl rfl ?_
      refine QG.iload_n hX (qd K_X6_addLetters 16 rfl) rfl rfl ?_
      refine QG.callV0 (rest := []) hX cw_X6_22 (M_X6_add X.l t_bytes t_length t_items (s_abc ((p0 - 1) - (p0 - 1) / 23 * 23).toNatClampNeg)) trivial (by decide) (by decide) (qd K_X6_addLetters 17 rfl) rfl ⟨Nat.zero_le _, Nat.zero_le _⟩ rfl rfl rfl rfl (Nat.le_of_ble_eq_true rfl) (fun _ => rfl) (fun c25 => ?_)
      show QG X 3 _ _ 28 _ [] [.inr (6, [.ref 1, .int c25.2, .int t_items]), .inl (0, 400, .inl c25.1)] ad 0 0
      refine QG.iload_n hX (qd K_X6_addLetters 18 rfl) rfl rfl ?_
      refine QG.bipush hX (qd K_X6_addLetters 19 rfl) rfl kb_23 ?_
      refine QG.icmp_le (tgt := 39) hX (qd K_X6_addLetters 20 rfl) rfl (by decide) ?_ ?_
      · exact QG.vret hX (qd K_X6_addLetters 24 rfl) rfl rfl (fun _ _ => rfl)
      · refine QG.aload_n hX (qd K_X6_addLetters 21 rfl) rfl rfl ?_
        refine QG.iload_n hX (qd K_X6_addLetters 22 rfl) rfl rfl ?_
        refine QG.callV0 (rest := []) hX cw_X6_22 (M_X6_add X.l c25.1 c25.2 t_items (s_abc ((p0 - 1) - (p0 - 1) / 23 * 23).toNatClampNeg)) trivial (by decide) (by decide) (qd K_X6_addLetters 23 rfl) rfl ⟨Nat.zero_le _, Nat.zero_le _⟩ rfl rfl rfl rfl (Nat.le_of_ble_eq_true rfl) (fun _ => rfl) (fun c36 => ?_)
        show QG X 3 _ _ 39 _ [] [.inr (6, [.ref 1, .int c36.2, .int t_items]), .inl (0, 400, .inl c36.1)] ad 0 0
        exact QG.vret hX (qd K_X6_addLetters 24 rfl) rfl rfl (fun _ _ => rfl)
    · exact QG.vret hX (qd K_X6_addLetters 6 rfl) rfl rfl (fun _ _ => rfl)

def P_X6_addItem : (Nat → Int32) × Int32 × Int32 → Option Value × List AC := fun z => (none, [.inr (6, [.ref 1, .int z.2.1, .int z.2.2]), .inl (0, 400, .inl z.1)])
set_option maxRecDepth 100000 in
theorem G_X6_addItem_b15 (X : QX) (hX : qok X cX6_addItem RX6 3 none 1) (ad : Nat → Nat) (t_bytes : Nat → Int32) (t_length : Int32) (t_items : Int32) (x1 : Int32) (x2 : Int32) (t0 : Int32) : QG X 3 (qQ X ad 2 (P_X6_addItem) 0 0) (F_X6_addItem_b15 t_bytes t_length t_items x1 x2 t0) 15 [(0, .ref 0), (1, .int x1), (2, .int x2)] [.int t0, .ref 0] [.inr (6, [.ref 1, .int t_length, .int t_items]), .inl (0, 400, .inl t_bytes)] ad 0 0 := by
  refine QG.callV0 (rest := []) hX cw_X6_22 (M_X6_add X.l t_bytes t_length t_items t0) trivial (by decide) (by decide) (qd K_X6_addItem 7 rfl) rfl ⟨Nat.zero_le _, Nat.zero_le _⟩ rfl rfl rfl rfl (Nat.le_of_ble_eq_true rfl) (fun _ => rfl) (fun c15 => ?_)
  show QG X 3 _ _ 18 _ [] [.inr (6, [.ref 1, .int c15.2, .int t_items]), .inl (0, 400, .inl c15.1)] ad 0 0
  refine QG.aload_n hX (qd K_X6_addItem 8 rfl) rfl rfl ?_
  refine QG.iload_n hX (qd K_X6_addItem 9 rfl) rfl rfl ?_
  refine QG.callV0 (rest := []) hX cw_X6_22 (M_X6_add X.l c15.1 c15.2 t_items x1) trivial (by decide) (by decide) (qd K_X6_addItem 10 rfl) rfl ⟨Nat.zero_le _, Nat.zero_le _⟩ rfl rfl rfl rfl (Nat.le_of_ble_eq_true rfl) (fun _ => rfl) (fun c20 => ?_)
  show QG X 3 _ _ 23 _ [] [.inr (6, [.ref 1, .int c20.2, .int t_items]), .inl (0, 400, .inl c20.1)] ad 0 0
  refine QG.aload_n hX (qd K_X6_addItem 11 rfl) rfl rfl ?_
  refine QG.bipush hX (qd K_X6_addItem 12 rfl) rfl kb_48 ?_
  refine QG.iload_n hX (qd K_X6_addItem 13 rfl) rfl rfl ?_
  refine QG.iadd hX (qd K_X6_addItem 14 rfl) rfl ?_
  refine QG.callV0 (rest := []) hX cw_X6_22 (M_X6_add X.l c20.1 c20.2 t_items ((48 : Int32) + x2)) trivial (by decide) (by decide) (qd K_X6_addItem 15 rfl) rfl ⟨Nat.zero_le _, Nat.zero_le _⟩ rfl rfl rfl rfl (Nat.le_of_ble_eq_true rfl) (fun _ => rfl) (fun c28 => ?_)
  show QG X 3 _ _ 31 _ [] [.inr (6, [.ref 1, .int c28.2, .int t_items]), .inl (0, 400, .inl c28.1)] ad 0 0
  refine QG.aload_n hX (qd K_X6_addItem 16 rfl) rfl rfl ?_
  refine QG.dup hX (qd K_X6_addItem 17 rfl) rfl rfl ?_
  refine QG.getf hX fl_X6_19 (qd K_X6_addItem 18 rfl) rfl rfl rfl ?_
  refine QG.iconst hX (qd K_X6_addItem 19 rfl) rfl ki_1 ?_
  refine QG.iadd hX (qd K_X6_addItem 20 rfl) rfl ?_
  refine QG.putf (Wd' := [.inr (6, [.ref 1, .int c28.2, .int (t_items + 1)]), .inl (0, 400, .inl c28.1)]) hX fl_X6_19 fp_6_2 (qd K_X6_addItem 21 rfl) rfl rfl (Nat.le_of_ble_eq_true rfl) (qfit_i _) rfl ?_
  exact QG.vret hX (qd K_X6_addItem 22 rfl) rfl rfl (fun _ _ => rfl)

set_option maxRecDepth 100000 in
theorem M_X6_addItem (l : Launch)  (t_bytes : Nat → Int32) (t_length : Int32) (t_items : Int32) (p0 : Int32) (p1 : Int32) : QM l yX6_addItem cX6_addItem 3 none 1 0 0 (fun _ => True) [.ref 0, .int p0, .int p1] [.inr (6, [.ref 1, .int t_length, .int t_items]), .inl (0, 400, .inl t_bytes)] (F_X6_addItem t_bytes t_length t_items p0 p1) (P_X6_addItem) := by
  refine QM.of (by decide +kernel) (Nat.le_of_ble_eq_true rfl) ?_
  rintro X ad hX _ _ _ _
  refine QG.aload_n hX (qd K_X6_addItem 0 rfl) rfl rfl ?_
  refine QG.aload_n hX (qd K_X6_addItem 1 rfl) rfl rfl ?_
  refine QG.getf hX fl_X6_19 (qd K_X6_addItem 2 rfl) rfl rfl rfl ?_
  refine QG.if_ne (tgt := 13) hX (qd K_X6_addItem 3 rfl) rfl (by decide) ?_ ?_
  · refine QG.bipush hX (qd K_X6_addItem 6 rfl) rfl kb_44 ?_
    exact QG.jmp (lv' := [(0, .ref 0), (1, .int p0), (2, .int p1)]) rfl (G_X6_addItem_b15 X hX ad t_bytes t_length t_items p0 p1 44)
  · refine QG.bipush hX (qd K_X6_addItem 4 rfl) rfl kb_40 ?_
    refine QG.goto (tgt := 15) hX (qd K_X6_addItem 5 rfl) rfl (by decide) ?_
    exact QG.jmp (lv' := [(0, .ref 0), (1, .int p0), (2, .int p1)]) rfl (G_X6_addItem_b15 X hX ad t_bytes t_length t_items p0 p1 40)

def P_X6_addLoose (f_made : Bool) (f_quires : Int32) (f_things : Int32) (f_ghosts : Int32) (f_letter : Int32) (f_page : Int32) (f_sizes : Nat → Int32) (f_cells : Nat → Int32) (f_kinds : Nat → Int32) (f_words : Nat → Int32) (f_quireOf : Nat → Int32) (f_placeOf : Nat → Int32) (f_laid : Int32) : (Nat → Int32) × Int32 × Int32 → Option Value × List AC := fun z => (none, [.inr (6, [.ref 1, .int z.2.1, .int z.2.2]), .inl (0, 400, .inl z.1), .inr (0, [.int (qb f_made), .int f_quires, .int f_things, .int f_ghosts, .int f_letter, .int f_page, .ref 3, .ref 4, .ref 5, .ref 6, .ref 7, .ref 8, .int f_laid]), .inl (0, 8, .inl f_sizes), .inl (0, 64, .inl f_cells), .inl (0, 30, .inl f_kinds), .inl (0, 30, .inl f_words), .inl (0, 30, .inl f_quireOf), .inl (0, 30, .inl f_placeOf)])
set_option maxRecDepth 100000 in
theorem G_X6_addLoose_b53 (X : QX) (hX : qok X cX6_addLoose RX6 6 none 2) (ad : Nat → Nat) (f_made : Bool) (f_quires : Int32) (f_things : Int32) (f_ghosts : Int32) (f_letter : Int32) (f_page : Int32) (f_sizes : Nat → Int32) (f_cells : Nat → Int32) (f_kinds : Nat → Int32) (f_words : Nat → Int32) (f_quireOf : Nat → Int32) (f_placeOf : Nat → Int32) (f_laid : Int32) (k3 : (Nat → Int32) → Int32 → Int32 → Int32 → Int32 → Option ((Nat → Int32) × Int32 × Int32)) (hk3 : ∀ (t_bytes : Nat → Int32) (t_length : Int32) (t_items : Int32) (x3 : Int32) (x4 : Int32), QG X 6 (qQ X ad 9 (P_X6_addLoose f_made f_quires f_things f_ghosts f_letter f_page f_sizes f_cells f_kinds f_words f_quireOf f_placeOf f_laid) 0 0) (k3 t_bytes t_length t_items x3 x4) 3 [(0, .ref 0), (1, .ref 2), (3, .int x3), (4, .int x4)] [] [.inr (6, [.ref 1, .int t_length, .int t_items]), .inl (0, 400, .inl t_bytes), .inr (0, [.int (qb f_made), .int f_quires, .int f_things, .int f_ghosts, .int f_letter, .int f_page, .ref 3, .ref 4, .ref 5, .ref 6, .ref 7, .ref 8, .int f_laid]), .inl (0, 8, .inl f_sizes), .inl (0, 64, .inl f_cells), .inl (0, 30, .inl f_kinds), .inl (0, 30, .inl f_words), .inl (0, 30, .inl f_quireOf), .inl (0, 30, .inl f_placeOf)] ad 0 0) (t_bytes : Nat → Int32) (t_length : Int32) (t_items : Int32) (x3 : Int32) (x4 : Int32) (t0 : Int32) : QG X 6 (qQ X ad 9 (P_X6_addLoose f_made f_quires f_things f_ghosts f_letter f_page f_sizes f_cells f_kinds f_words f_quireOf f_placeOf f_laid) 0 0) (F_X6_addLoose_b53 f_things f_kinds k3 t_bytes t_length t_items x3 x4 t0) 53 [(0, .ref 0), (1, .ref 2), (3, .int x3), (4, .int x4)] [.int t0, .ref 0] [.inr (6, [.ref 1, .int t_length, .int t_items]), .inl (0, 400, .inl t_bytes), .inr (0, [.int (qb f_made), .int f_quires, .int f_things, .int f_ghosts, .int f_letter, .int f_page, .ref 3, .ref 4, .ref 5, .ref 6, .ref 7, .ref 8, .int f_laid]), .inl (0, 8, .inl f_sizes), .inl (0, 64, .inl f_cells), .inl (0, 30, .inl f_kinds), .inl (0, 30, .inl f_words), .inl (0, 30, .inl f_quireOf), .inl (0, 30, .inl f_placeOf)] ad 0 0 := by
  refine QG.iload_n hX (qd K_X6_addLoose 26 rfl) rfl rfl ?_
  refine QG.callV (rest := []) [0, 1] hX cw_X6_87 (M_X6_addItem X.l t_bytes t_length t_items t0 x3) trivial (by decide) (by decide) (qd K_X6_addLoose 27 rfl) rfl ⟨Nat.zero_le _, Nat.zero_le _⟩ rfl rfl rfl rfl (Nat.le_of_ble_eq_true rfl) rfl rfl (fun _ => rfl) (fun c54 => ?_)
  show QG X 6 _ _ 57 _ [] [.inr (6, [.ref 1, .int c54.2.1, .int c54.2.2]), .inl (0, 400, .inl c54.1), .inr (0, [.int (qb f_made), .int f_quires, .int f_things, .int f_ghosts, .int f_letter, .int f_page, .ref 3, .ref 4, .ref 5, .ref 6, .ref 7, .ref 8, .int f_laid]), .inl (0, 8, .inl f_sizes), .inl (0, 64, .inl f_cells), .inl (0, 30, .inl f_kinds), .inl (0, 30, .inl f_words), .inl (0, 30, .inl f_quireOf), .inl (0, 30, .inl f_placeOf)] ad 0 0
  refine QG.iinc (lv' := [(4, .int (x4 + 1)), (0, .ref 0), (1, .ref 2), (3, .int x3)]) hX (qd K_X6_addLoose 28 rfl) rfl (by decide) rfl ki_1 rfl ?_
  refine QG.goto (tgt := 3) hX (qd K_X6_addLoose 29 rfl) rfl (by decide) ?_
  exact QG.jmp (lv' := [(0, .ref 0), (1, .ref 2), (3, .int x3), (4, .int (x4 + 1))]) rfl (hk3 c54.1 c54.2.1 c54.2.2 x3 (x4 + 1))

set_option maxRecDepth 100000 in
theorem G_X6_addLoose_b3 (X : QX) (hX : qok X cX6_addLoose RX6 6 none 2) (ad : Nat → Nat) (f_made : Bool) (f_quires : Int32) (f_things : Int32) (f_ghosts : Int32) (f_letter : Int32) (f_page : Int32) (f_sizes : Nat → Int32) (f_cells : Nat → Int32) (f_kinds : Nat → Int32) (f_words : Nat → Int32) (f_quireOf : Nat → Int32) (f_placeOf : Nat → Int32) (f_laid : Int32) : ∀ (n : Nat) (t_bytes : Nat → Int32) (t_length : Int32) (t_items : Int32) (x3 : Int32) (x4 : Int32), QG X 6 (qQ X ad 9 (P_X6_addLoose f_made f_quires f_things f_ghosts f_letter f_page f_sizes f_cells f_kinds f_words f_quireOf f_placeOf f_laid) 0 0) (F_X6_addLoose_b3 f_things f_kinds n t_bytes t_length t_items x3 x4) 3 [(0, .ref 0), (1, .ref 2), (3, .int x3), (4, .int x4)] [] [.inr (6, [.ref 1, .int t_length, .int t_items]), .inl (0, 400, .inl t_bytes), .inr (0, [.int (qb f_made), .int f_quires, .int f_things, .int f_ghosts, .int f_letter, .int f_page, .ref 3, .ref 4, .ref 5, .ref 6, .ref 7, .ref 8, .int f_laid]), .inl (0, 8, .inl f_sizes), .inl (0, 64, .inl f_cells), .inl (0, 30, .inl f_kinds), .inl (0, 30, .inl f_words), .inl (0, 30, .inl f_quireOf), .inl (0, 30, .inl f_placeOf)] ad 0 0 := by
  intro n
  induction n with
  | zero => intros; exact QG.nothing
  | succ n ih =>
    intro t_bytes t_length t_items x3 x4
    refine QG.iload hX (qd K_X6_addLoose 2 rfl) rfl rfl ?_
    refine QG.bipush hX (qd K_X6_addLoose 3 rfl) rfl kb_30 ?_
    refine QG.icmp_ge (tgt := 63) hX (qd K_X6_addLoose 4 rfl) rfl (by decide) ?_ ?_
    · exact QG.vret hX (qd K_X6_addLoose 30 rfl) rfl rfl (fun _ _ => rfl)
    · refine QG.aload_n hX (qd K_X6_addLoose 5 rfl) rfl rfl ?_
      refine QG.iload hX (qd K_X6_addLoose 6 rfl) rfl rfl ?_
      refine QG.callV (rest := []) [2, 3, 4, 5, 6, 7, 8] hX cw_X6_62 (M_X0_isLoose X.l f_made f_quires f_things f_ghosts f_letter f_page f_sizes f_cells f_kinds f_words f_quireOf f_placeOf f_laid x4) trivial (by decide) (by decide) (qd K_X6_addLoose 7 rfl) rfl ⟨Nat.zero_le _, Nat.zero_le _⟩ rfl rfl rfl rfl (Nat.le_of_ble_eq_true rfl) rfl rfl (fun _ => rfl) (fun c13 => ?_)
      show QG X 6 _ _ 16 _ [.int (qb c13)] [.inr (6, [.ref 1, .int t_length, .int t_items]), .inl (0, 400, .inl t_bytes), .inr (0, [.int (qb f_made), .int f_quires, .int f_things, .int f_ghosts, .int f_letter, .int f_page, .ref 3, .ref 4, .ref 5, .ref 6, .ref 7, .ref 8, .int f_laid]), .inl (0, 8, .inl f_sizes), .inl (0, 64, .inl f_cells), .inl (0, 30, .inl f_kinds), .inl (0, 30, .inl f_words), .inl (0, 30, .inl f_quireOf), .inl (0, 30, .inl f_placeOf)] ad 0 0
      refine QG.if_eq (tgt := 63) hX (qd K_X6_addLoose 8 rfl) rfl (by decide) ?_ ?_
      · exact QG.vret hX (qd K_X6_addLoose 30 rfl) rfl rfl (fun _ _ => rfl)
      · refine QG.aload_n hX (qd K_X6_addLoose 9 rfl) rfl rfl ?_
        refine QG.getf hX fl_X6_72 (qd K_X6_addLoose 10 rfl) rfl rfl rfl ?_
        refine QG.iload hX (qd K_X6_addLoose 11 rfl) rfl rfl ?_
        refine QG.iald hX (qd K_X6_addLoose 12 rfl) rfl rfl ?_
        refine QG.istore (lv' := [(5, .int (f_kinds x4.toNatClampNeg)), (0, .ref 0), (1, .ref 2), (3, .int x3), (4, .int x4)]) hX (qd K_X6_addLoose 13 rfl) rfl (by decide) rfl ?_
        refine QG.aload_n hX (qd K_X6_addLoose 14 rfl) rfl rfl ?_
        refine QG.iload hX (qd K_X6_addLoose 15 rfl) rfl rfl ?_
        refine QG.iconst hX (qd K_X6_addLoose 16 rfl) rfl ki_3 ?_
        refine QG.icmp_ne (tgt := 40) hX (qd K_X6_addLoose 17 rfl) rfl (by decide) ?_ ?_
        · refine QG.iload hX (qd K_X6_addLoose 20 rfl) rfl rfl ?_
          refine QG.iconst hX (qd K_X6_addLoose 21 rfl) rfl ki_4 ?_
          refine QG.icmp_ne (tgt := 51) hX (qd K_X6_addLoose 22 rfl) rfl (by decide) ?_ ?_
          · refine QG.bipush hX (qd K_X6_addLoose 25 rfl) rfl kb_112 ?_
            exact QG.jmp (lv' := [(0, .ref 0), (1, .ref 2), (3, .int x3), (4, .int x4)]) rfl (G_X6_addLoose_b53 X hX ad f_made f_quires f_things f_ghosts f_letter f_page f_sizes f_cells f_kinds f_words f_quireOf f_placeOf f_laid (fun t_bytes t_length t_items x3 x4 => F_X6_addLoose_b3 f_things f_kinds n t_bytes t_length t_items x3 x4) ih t_bytes t_length t_items x3 x4 112)
          · refine QG.bipush hX (qd K_X6_addLoose 23 rfl) rfl kb_107 ?_
            refine QG.goto (tgt := 53) hX (qd K_X6_addLoose 24 rfl) rfl (by decide) ?_
            exact QG.jmp (lv' := [(0, .ref 0), (1, .ref 2), (3, .int x3), (4, .int x4)]) rfl (G_X6_addLoose_b53 X hX ad f_made f_quires f_things f_ghosts f_letter f_page f_sizes f_cells f_kinds f_words f_quireOf f_placeOf f_laid (fun t_bytes t_length t_items x3 x4 => F_X6_addLoose_b3 f_things f_kinds n t_bytes t_length t_items x3 x4) ih t_bytes t_length t_items x3 x4 107)
        · refine QG.bipush hX (qd K_X6_addLoose 18 rfl) rfl kb_103 ?_
          refine QG.goto (tgt := 53) hX (qd K_X6_addLoose 19 rfl) rfl (by decide) ?_
          exact QG.jmp (lv' := [(0, .ref 0), (1, .ref 2), (3, .int x3), (4, .int x4)]) rfl (G_X6_addLoose_b53 X hX ad f_made f_quires f_things f_ghosts f_letter f_page f_sizes f_cells f_kinds f_words f_quireOf f_placeOf f_laid (fun t_bytes t_length t_items x3 x4 => F_X6_addLoose_b3 f_things f_kinds n t_bytes t_length t_items x3 x4) ih t_bytes t_length t_items x3 x4 103)

set_option maxRecDepth 100000 in
theorem M_X6_addLoose (l : Launch)  (t_bytes : Nat → Int32) (t_length : Int32) (t_items : Int32) (f_made : Bool) (f_quires : Int32) (f_things : Int32) (f_ghosts : Int32) (f_letter : Int32) (f_page : Int32) (f_sizes : Nat → Int32) (f_cells : Nat → Int32) (f_kinds : Nat → Int32) (f_words : Nat → Int32) (f_quireOf : Nat → Int32) (f_placeOf : Nat → Int32) (f_laid : Int32) (p1 : Int32) (p2 : Int32) : QM l yX6_addLoose cX6_addLoose 6 none 2 0 0 (fun _ => True) [.ref 0, .ref 2, .int p1, .int p2] [.inr (6, [.ref 1, .int t_length, .int t_items]), .inl (0, 400, .inl t_bytes), .inr (0, [.int (qb f_made), .int f_quires, .int f_things, .int f_ghosts, .int f_letter, .int f_page, .ref 3, .ref 4, .ref 5, .ref 6, .ref 7, .ref 8, .int f_laid]), .inl (0, 8, .inl f_sizes), .inl (0, 64, .inl f_cells), .inl (0, 30, .inl f_kinds), .inl (0, 30, .inl f_words), .inl (0, 30, .inl f_quireOf), .inl (0, 30, .inl f_placeOf)] (F_X6_addLoose t_bytes t_length t_items f_things f_kinds p1 p2) (P_X6_addLoose f_made f_quires f_things f_ghosts f_letter f_page f_sizes f_cells f_kinds f_words f_quireOf f_placeOf f_laid) := by
  refine QM.of (by decide +kernel) (Nat.le_of_ble_eq_true rfl) ?_
  rintro X ad hX _ _ _ _
  refine QG.iload_n hX (qd K_X6_addLoose 0 rfl) rfl rfl ?_
  refine QG.istore (lv' := [(4, .int p1), (0, .ref 0), (1, .ref 2), (2, .int p1), (3, .int p2)]) hX (qd K_X6_addLoose 1 rfl) rfl (by decide) rfl ?_
  exact QG.jmp (lv' := [(0, .ref 0), (1, .ref 2), (3, .int p2), (4, .int p1)]) rfl (G_X6_addLoose_b3 X hX ad f_made f_quires f_things f_ghosts f_letter f_page f_sizes f_cells f_kinds f_words f_quireOf f_placeOf f_laid FU t_bytes t_length t_items p2 p1)

def P_X6_addItems (f_made : Bool) (f_quires : Int32) (f_things : Int32) (f_ghosts : Int32) (f_letter : Int32) (f_page : Int32) (f_sizes : Nat → Int32) (f_cells : Nat → Int32) (f_kinds : Nat → Int32) (f_words : Nat → Int32) (f_quireOf : Nat → Int32) (f_placeOf : Nat → Int32) (f_laid : Int32) : (Nat → Int32) × Int32 × Int32 → Option Value × List AC := fun z => (none, [.inr (6, [.ref 1, .int z.2.1, .int z.2.2]), .inl (0, 400, .inl z.1), .inr (0, [.int (qb f_made), .int f_quires, .int f_things, .int f_ghosts, .int f_letter, .int f_page, .ref 3, .ref 4, .ref 5, .ref 6, .ref 7, .ref 8, .int f_laid]), .inl (0, 8, .inl f_sizes), .inl (0, 64, .inl f_cells), .inl (0, 30, .inl f_kinds), .inl (0, 30, .inl f_words), .inl (0, 30, .inl f_quireOf), .inl (0, 30, .inl f_placeOf)])
set_option maxRecDepth 100000 in
theorem G_X6_addItems_b110 (X : QX) (hX : qok X cX6_addItems RX6 5 none 4) (ad : Nat → Nat) (f_made : Bool) (f_quires : Int32) (f_things : Int32) (f_ghosts : Int32) (f_letter : Int32) (f_page : Int32) (f_sizes : Nat → Int32) (f_cells : Nat → Int32) (f_kinds : Nat → Int32) (f_words : Nat → Int32) (f_quireOf : Nat → Int32) (f_placeOf : Nat → Int32) (f_laid : Int32) (t_bytes : Nat → Int32) (t_length : Int32) (t_items : Int32) : QG X 5 (qQ X ad 9 (P_X6_addItems f_made f_quires f_things f_ghosts f_letter f_page f_sizes f_cells f_kinds f_words f_quireOf f_placeOf f_laid) 0 0) (F_X6_addItems_b110 t_bytes t_length t_items) 110 [(0, .ref 0)] [] [.inr (6, [.ref 1, .int t_length, .int t_items]), .inl (0, 400, .inl t_bytes), .inr (0, [.int (qb f_made), .int f_quires, .int f_things, .int f_ghosts, .int f_letter, .int f_page, .ref 3, .ref 4, .ref 5, .ref 6, .ref 7, .ref 8, .int f_laid]), .inl (0, 8, .inl f_sizes), .inl (0, 64, .inl f_cells), .inl (0, 30, .inl f_kinds), .inl (0, 30, .inl f_words), .inl (0, 30, .inl f_quireOf), .inl (0, 30, .inl f_placeOf)] ad 0 0 := by
  refine QG.aload_n hX (qd K_X6_addItems 59 rfl) rfl rfl ?_
  refine QG.getf hX fl_X6_19 (qd K_X6_addItems 60 rfl) rfl rfl rfl ?_
  refine QG.if_le (tgt := 123) hX (qd K_X6_addItems 61 rfl) rfl (by decide) ?_ ?_
  · exact QG.vret hX (qd K_X6_addItems 65 rfl) rfl rfl (fun _ _ => rfl)
  · refine QG.aload_n hX (qd K_X6_addItems 62 rfl) rfl rfl ?_
    refine QG.bipush hX (qd K_X6_addItems 63 rfl) rfl kb_41 ?_
    refine QG.callV (rest := []) [0, 1] hX cw_X6_22 (M_X6_add X.l t_bytes t_length t_items 41) trivial (by decide) (by decide) (qd K_X6_addItems 64 rfl) rfl ⟨Nat.zero_le _, Nat.zero_le _⟩ rfl rfl rfl rfl (Nat.le_of_ble_eq_true rfl) rfl rfl (fun _ => rfl) (fun c120 => ?_)
    show QG X 5 _ _ 123 _ [] [.inr (6, [.ref 1, .int c120.2, .int t_items]), .inl (0, 400, .inl c120.1), .inr (0, [.int (qb f_made), .int f_quires, .int f_things, .int f_ghosts, .int f_letter, .int f_page, .ref 3, .ref 4, .ref 5, .ref 6, .ref 7, .ref 8, .int f_laid]), .inl (0, 8, .inl f_sizes), .inl (0, 64, .inl f_cells), .inl (0, 30, .inl f_kinds), .inl (0, 30, .inl f_words), .inl (0, 30, .inl f_quireOf), .inl (0, 30, .inl f_placeOf)] ad 0 0
    exact QG.vret hX (qd K_X6_addItems 65 rfl) rfl rfl (fun _ _ => rfl)

set_option maxRecDepth 100000 in
theorem G_X6_addItems_b92 (X : QX) (hX : qok X cX6_addItems RX6 5 none 4) (ad : Nat → Nat) (f_made : Bool) (f_quires : Int32) (f_things : Int32) (f_ghosts : Int32) (f_letter : Int32) (f_page : Int32) (f_sizes : Nat → Int32) (f_cells : Nat → Int32) (f_kinds : Nat → Int32) (f_words : Nat → Int32) (f_quireOf : Nat → Int32) (f_placeOf : Nat → Int32) (f_laid : Int32) (k18 : (Nat → Int32) → Int32 → Int32 → Int32 → Int32 → Option ((Nat → Int32) × Int32 × Int32)) (hk18 : ∀ (t_bytes : Nat → Int32) (t_length : Int32) (t_items : Int32) (x2 : Int32) (x3 : Int32), QG X 5 (qQ X ad 9 (P_X6_addItems f_made f_quires f_things f_ghosts f_letter f_page f_sizes f_cells f_kinds f_words f_quireOf f_placeOf f_laid) 0 0) (k18 t_bytes t_length t_items x2 x3) 18 [(0, .ref 0), (1, .ref 2), (2, .int x2), (3, .int x3)] [] [.inr (6, [.ref 1, .int t_length, .int t_items]), .inl (0, 400, .inl t_bytes), .inr (0, [.int (qb f_made), .int f_quires, .int f_things, .int f_ghosts, .int f_letter, .int f_page, .ref 3, .ref 4, .ref 5, .ref 6, .ref 7, .ref 8, .int f_laid]), .inl (0, 8, .inl f_sizes), .inl (0, 64, .inl f_cells), .inl (0, 30, .inl f_kinds), .inl (0, 30, .inl f_words), .inl (0, 30, .inl f_quireOf), .inl (0, 30, .inl f_placeOf)] ad 0 0) (t_bytes : Nat → Int32) (t_length : Int32) (t_items : Int32) (x2 : Int32) (x3 : Int32) (x4 : Int32) : QG X 5 (qQ X ad 9 (P_X6_addItems f_made f_quires f_things f_ghosts f_letter f_page f_sizes f_cells f_kinds f_words f_quireOf f_placeOf f_laid) 0 0) (F_X6_addItems_b92 f_quires f_things f_sizes f_cells f_kinds k18 t_bytes t_length t_items x2 x3 x4) 92 [(0, .ref 0), (1, .ref 2), (2, .int x2), (3, .int x3), (4, .int x4)] [] [.inr (6, [.ref 1, .int t_length, .int t_items]), .inl (0, 400, .inl t_bytes), .inr (0, [.int (qb f_made), .int f_quires, .int f_things, .int f_ghosts, .int f_letter, .int f_page, .ref 3, .ref 4, .ref 5, .ref 6, .ref 7, .ref 8, .int f_laid]), .inl (0, 8, .inl f_sizes), .inl (0, 64, .inl f_cells), .inl (0, 30, .inl f_kinds), .inl (0, 30, .inl f_words), .inl (0, 30, .inl f_quireOf), .inl (0, 30, .inl f_placeOf)] ad 0 0 := by
  refine QG.aload_n hX (qd K_X6_addItems 50 rfl) rfl rfl ?_
  refine QG.aload_n hX (qd K_X6_addItems 51 rfl) rfl rfl ?_
  refine QG.aload_n hX (qd K_X6_addItems 52 rfl) rfl rfl ?_
  refine QG.iload hX (qd K_X6_addItems 53 rfl) rfl rfl ?_
  refine QG.callV (rest := [.ref 2, .ref 0]) [2, 3, 4, 5, 6, 7, 8] hX cw_X6_94 (M_X0_behind X.l f_made f_quires f_things f_ghosts f_letter f_page f_sizes f_cells f_kinds f_words f_quireOf f_placeOf f_laid x4) trivial (by decide) (by decide) (qd K_X6_addItems 54 rfl) rfl ⟨Nat.zero_le _, Nat.zero_le _⟩ rfl rfl rfl rfl (Nat.le_of_ble_eq_true rfl) rfl rfl (fun _ => rfl) (fun c97 => ?_)
  show QG X 5 _ _ 100 _ [.int c97, .ref 2, .ref 0] [.inr (6, [.ref 1, .int t_length, .int t_items]), .inl (0, 400, .inl t_bytes), .inr (0, [.int (qb f_made), .int f_quires, .int f_things, .int f_ghosts, .int f_letter, .int f_page, .ref 3, .ref 4, .ref 5, .ref 6, .ref 7, .ref 8, .int f_laid]), .inl (0, 8, .inl f_sizes), .inl (0, 64, .inl f_cells), .inl (0, 30, .inl f_kinds), .inl (0, 30, .inl f_words), .inl (0, 30, .inl f_quireOf), .inl (0, 30, .inl f_placeOf)] ad 0 0
  refine QG.iload_n hX (qd K_X6_addItems 55 rfl) rfl rfl ?_
  refine QG.callV0 (rest := []) hX cw_X6_79 (M_X6_addLoose X.l t_bytes t_length t_items f_made f_quires f_things f_ghosts f_letter f_page f_sizes f_cells f_kinds f_words f_quireOf f_placeOf f_laid c97 x3) trivial (by decide) (by decide) (qd K_X6_addItems 56 rfl) rfl ⟨Nat.zero_le _, Nat.zero_le _⟩ rfl rfl rfl rfl (Nat.le_of_ble_eq_true rfl) (fun _ => rfl) (fun c101 => ?_)
  show QG X 5 _ _ 104 _ [] [.inr (6, [.ref 1, .int c101.2.1, .int c101.2.2]), .inl (0, 400, .inl c101.1), .inr (0, [.int (qb f_made), .int f_quires, .int f_things, .int f_ghosts, .int f_letter, .int f_page, .ref 3, .ref 4, .ref 5, .ref 6, .ref 7, .ref 8, .int f_laid]), .inl (0, 8, .inl f_sizes), .inl (0, 64, .inl f_cells), .inl (0, 30, .inl f_kinds), .inl (0, 30, .inl f_words), .inl (0, 30, .inl f_quireOf), .inl (0, 30, .inl f_placeOf)] ad 0 0
  refine QG.iinc (lv' := [(3, .int (x3 + 1)), (0, .ref 0), (1, .ref 2), (2, .int x2), (4, .int x4)]) hX (qd K_X6_addItems 57 rfl) rfl (by decide) rfl ki_1 rfl ?_
  refine QG.goto (tgt := 18) hX (qd K_X6_addItems 58 rfl) rfl (by decide) ?_
  exact QG.jmp (lv' := [(0, .ref 0), (1, .ref 2), (2, .int x2), (3, .int (x3 + 1))]) rfl (hk18 c101.1 c101.2.1 c101.2.2 x2 (x3 + 1))

set_option maxRecDepth 100000 in
theorem G_X6_addItems_b88 (X : QX) (hX : qok X cX6_addItems RX6 5 none 4) (ad : Nat → Nat) (f_made : Bool) (f_quires : Int32) (f_things : Int32) (f_ghosts : Int32) (f_letter : Int32) (f_page : Int32) (f_sizes : Nat → Int32) (f_cells : Nat → Int32) (f_kinds : Nat → Int32) (f_words : Nat → Int32) (f_quireOf : Nat → Int32) (f_placeOf : Nat → Int32) (f_laid : Int32) (k18 : (Nat → Int32) → Int32 → Int32 → Int32 → Int32 → Option ((Nat → Int32) × Int32 × Int32)) (hk18 : ∀ (t_bytes : Nat → Int32) (t_length : Int32) (t_items : Int32) (x2 : Int32) (x3 : Int32), QG X 5 (qQ X ad 9 (P_X6_addItems f_made f_quires f_things f_ghosts f_letter f_page f_sizes f_cells f_kinds f_words f_quireOf f_placeOf f_laid) 0 0) (k18 t_bytes t_length t_items x2 x3) 18 [(0, .ref 0), (1, .ref 2), (2, .int x2), (3, .int x3)] [] [.inr (6, [.ref 1, .int t_length, .int t_items]), .inl (0, 400, .inl t_bytes), .inr (0, [.int (qb f_made), .int f_quires, .int f_things, .int f_ghosts, .int f_letter, .int f_page, .ref 3, .ref 4, .ref 5, .ref 6, .ref 7, .ref 8, .int f_laid]), .inl (0, 8, .inl f_sizes), .inl (0, 64, .inl f_cells), .inl (0, 30, .inl f_kinds), .inl (0, 30, .inl f_words), .inl (0, 30, .inl f_quireOf), .inl (0, 30, .inl f_placeOf)] ad 0 0) (t_bytes : Nat → Int32) (t_length : Int32) (t_items : Int32) (x2 : Int32) (x3 : Int32) (x4 : Int32) (t0 : Int32) : QG X 5 (qQ X ad 9 (P_X6_addItems f_made f_quires f_things f_ghosts f_letter f_page f_sizes f_cells f_kinds f_words f_quireOf f_placeOf f_laid) 0 0) (F_X6_addItems_b88 f_quires f_things f_sizes f_cells f_kinds k18 t_bytes t_length t_items x2 x3 x4 t0) 88 [(0, .ref 0), (1, .ref 2), (2, .int x2), (3, .int x3), (4, .int x4)] [.int t0, .ref 0] [.inr (6, [.ref 1, .int t_length, .int t_items]), .inl (0, 400, .inl t_bytes), .inr (0, [.int (qb f_made), .int f_quires, .int f_things, .int f_ghosts, .int f_letter, .int f_page, .ref 3, .ref 4, .ref 5, .ref 6, .ref 7, .ref 8, .int f_laid]), .inl (0, 8, .inl f_sizes), .inl (0, 64, .inl f_cells), .inl (0, 30, .inl f_kinds), .inl (0, 30, .inl f_words), .inl (0, 30, .inl f_quireOf), .inl (0, 30, .inl f_placeOf)] ad 0 0 := by
  refine QG.iload_n hX (qd K_X6_addItems 48 rfl) rfl rfl ?_
  refine QG.callV (rest := []) [0, 1] hX cw_X6_87 (M_X6_addItem X.l t_bytes t_length t_items t0 x3) trivial (by decide) (by decide) (qd K_X6_addItems 49 rfl) rfl ⟨Nat.zero_le _, Nat.zero_le _⟩ rfl rfl rfl rfl (Nat.le_of_ble_eq_true rfl) rfl rfl (fun _ => rfl) (fun c89 => ?_)
  show QG X 5 _ _ 92 _ [] [.inr (6, [.ref 1, .int c89.2.1, .int c89.2.2]), .inl (0, 400, .inl c89.1), .inr (0, [.int (qb f_made), .int f_quires, .int f_things, .int f_ghosts, .int f_letter, .int f_page, .ref 3, .ref 4, .ref 5, .ref 6, .ref 7, .ref 8, .int f_laid]), .inl (0, 8, .inl f_sizes), .inl (0, 64, .inl f_cells), .inl (0, 30, .inl f_kinds), .inl (0, 30, .inl f_words), .inl (0, 30, .inl f_quireOf), .inl (0, 30, .inl f_placeOf)] ad 0 0
  exact QG.jmp (lv' := [(0, .ref 0), (1, .ref 2), (2, .int x2), (3, .int x3), (4, .int x4)]) rfl (G_X6_addItems_b92 X hX ad f_made f_quires f_things f_ghosts f_letter f_page f_sizes f_cells f_kinds f_words f_quireOf f_placeOf f_laid k18 hk18 c89.1 c89.2.1 c89.2.2 x2 x3 x4)

set_option maxRecDepth 100000 in
theorem G_X6_addItems_b18 (X : QX) (hX : qok X cX6_addItems RX6 5 none 4) (ad : Nat → Nat) (f_made : Bool) (f_quires : Int32) (f_things : Int32) (f_ghosts : Int32) (f_letter : Int32) (f_page : Int32) (f_sizes : Nat → Int32) (f_cells : Nat → Int32) (f_kinds : Nat → Int32) (f_words : Nat → Int32) (f_quireOf : Nat → Int32) (f_placeOf : Nat → Int32) (f_laid : Int32) : ∀ (n : Nat) (t_bytes : Nat → Int32) (t_length : Int32) (t_items : Int32) (x2 : Int32) (x3 : Int32), QG X 5 (qQ X ad 9 (P_X6_addItems f_made f_quires f_things f_ghosts f_letter f_page f_sizes f_cells f_kinds f_words f_quireOf f_placeOf f_laid) 0 0) (F_X6_addItems_b18 f_quires f_things f_sizes f_cells f_kinds n t_bytes t_length t_items x2 x3) 18 [(0, .ref 0), (1, .ref 2), (2, .int x2), (3, .int x3)] [] [.inr (6, [.ref 1, .int t_length, .int t_items]), .inl (0, 400, .inl t_bytes), .inr (0, [.int (qb f_made), .int f_quires, .int f_things, .int f_ghosts, .int f_letter, .int f_page, .ref 3, .ref 4, .ref 5, .ref 6, .ref 7, .ref 8, .int f_laid]), .inl (0, 8, .inl f_sizes), .inl (0, 64, .inl f_cells), .inl (0, 30, .inl f_kinds), .inl (0, 30, .inl f_words), .inl (0, 30, .inl f_quireOf), .inl (0, 30, .inl f_placeOf)] ad 0 0 := by
  intro n
  induction n with
  | zero => intros; exact QG.nothing
  | succ n ih =>
    intro t_bytes t_length t_items x2 x3
    refine QG.iload_n hX (qd K_X6_addItems 12 rfl) rfl rfl ?_
    refine QG.bipush hX (qd K_X6_addItems 13 rfl) rfl kb_8 ?_
    refine QG.icmp_gt (tgt := 110) hX (qd K_X6_addItems 14 rfl) rfl (by decide) ?_ ?_
    · exact QG.jmp (lv' := [(0, .ref 0)]) rfl (G_X6_addItems_b110 X hX ad f_made f_quires f_things f_ghosts f_letter f_page f_sizes f_cells f_kinds f_words f_quireOf f_placeOf f_laid t_bytes t_length t_items)
    · refine QG.aload_n hX (qd K_X6_addItems 15 rfl) rfl rfl ?_
      refine QG.iload_n hX (qd K_X6_addItems 16 rfl) rfl rfl ?_
      refine QG.iload_n hX (qd K_X6_addItems 17 rfl) rfl rfl ?_
      refine QG.callV (rest := []) [2, 3, 4, 5, 6, 7, 8] hX cw_X6_83 (M_X0_hasPlace X.l f_made f_quires f_things f_ghosts f_letter f_page f_sizes f_cells f_kinds f_words f_quireOf f_placeOf f_laid x2 x3) trivial (by decide) (by decide) (qd K_X6_addItems 18 rfl) rfl ⟨Nat.zero_le _, Nat.zero_le _⟩ rfl rfl rfl rfl (Nat.le_of_ble_eq_true rfl) rfl rfl (fun _ => rfl) (fun c27 => ?_)
      show QG X 5 _ _ 30 _ [.int (qb c27)] [.inr (6, [.ref 1, .int t_length, .int t_items]), .inl (0, 400, .inl t_bytes), .inr (0, [.int (qb f_made), .int f_quires, .int f_things, .int f_ghosts, .int f_letter, .int f_page, .ref 3, .ref 4, .ref 5, .ref 6, .ref 7, .ref 8, .int f_laid]), .inl (0, 8, .inl f_sizes), .inl (0, 64, .inl f_cells), .inl (0, 30, .inl f_kinds), .inl (0, 30, .inl f_words), .inl (0, 30, .inl f_quireOf), .inl (0, 30, .inl f_placeOf)] ad 0 0
      refine QG.if_eq (tgt := 110) hX (qd K_X6_addItems 19 rfl) rfl (by decide) ?_ ?_
      · exact QG.jmp (lv' := [(0, .ref 0)]) rfl (G_X6_addItems_b110 X hX ad f_made f_quires f_things f_ghosts f_letter f_page f_sizes f_cells f_kinds f_words f_quireOf f_placeOf f_laid t_bytes t_length t_items)
      · refine QG.aload_n hX (qd K_X6_addItems 20 rfl) rfl rfl ?_
        refine QG.iload_n hX (qd K_X6_addItems 21 rfl) rfl rfl ?_
        refine QG.iload_n hX (qd K_X6_addItems 22 rfl) rfl rfl ?_
        refine QG.callV (rest := []) [2, 3, 4, 5, 6, 7, 8] hX cw_X6_65 (M_X0_thingAt X.l f_made f_quires f_things f_ghosts f_letter f_page f_sizes f_cells f_kinds f_words f_quireOf f_placeOf f_laid x2 x3) trivial (by decide) (by decide) (qd K_X6_addItems 23 rfl) rfl ⟨Nat.zero_le _, Nat.zero_le _⟩ rfl rfl rfl rfl (Nat.le_of_ble_eq_true rfl) rfl rfl (fun _ => rfl) (fun c36 => ?_)
        show QG X 5 _ _ 39 _ [.int c36] [.inr (6, [.ref 1, .int t_length, .int t_items]), .inl (0, 400, .inl t_bytes), .inr (0, [.int (qb f_made), .int f_quires, .int f_things, .int f_ghosts, .int f_letter, .int f_page, .ref 3, .ref 4, .ref 5, .ref 6, .ref 7, .ref 8, .int f_laid]), .inl (0, 8, .inl f_sizes), .inl (0, 64, .inl f_cells), .inl (0, 30, .inl f_kinds), .inl (0, 30, .inl f_words), .inl (0, 30, .inl f_quireOf), .inl (0, 30, .inl f_placeOf)] ad 0 0
        refine QG.istore (lv' := [(4, .int c36), (0, .ref 0), (1, .ref 2), (2, .int x2), (3, .int x3)]) hX (qd K_X6_addItems 24 rfl) rfl (by decide) rfl ?_
        refine QG.aload_n hX (qd K_X6_addItems 25 rfl) rfl rfl ?_
        refine QG.iload hX (qd K_X6_addItems 26 rfl) rfl rfl ?_
        refine QG.callV (rest := []) [2, 3, 4, 5, 6, 7, 8] hX cw_X6_69 (M_X0_hangs X.l f_made f_quires f_things f_ghosts f_letter f_page f_sizes f_cells f_kinds f_words f_quireOf f_placeOf f_laid c36) trivial (by decide) (by decide) (qd K_X6_addItems 27 rfl) rfl ⟨Nat.zero_le _, Nat.zero_le _⟩ rfl rfl rfl rfl (Nat.le_of_ble_eq_true rfl) rfl rfl (fun _ => rfl) (fun c44 => ?_)
        show QG X 5 _ _ 47 _ [.int (qb c44)] [.inr (6, [.ref 1, .int t_length, .int t_items]), .inl (0, 400, .inl t_bytes), .inr (0, [.int (qb f_made), .int f_quires, .int f_things, .int f_ghosts, .int f_letter, .int f_page, .ref 3, .ref 4, .ref 5, .ref 6, .ref 7, .ref 8, .int f_laid]), .inl (0, 8, .inl f_sizes), .inl (0, 64, .inl f_cells), .inl (0, 30, .inl f_kinds), .inl (0, 30, .inl f_words), .inl (0, 30, .inl f_quireOf), .inl (0, 30, .inl f_placeOf)] ad 0 0
        refine QG.if_ne (tgt := 60) hX (qd K_X6_addItems 28 rfl) rfl (by decide) ?_ ?_
        · refine QG.aload_n hX (qd K_X6_addItems 34 rfl) rfl rfl ?_
          refine QG.getf hX fl_X6_72 (qd K_X6_addItems 35 rfl) rfl rfl rfl ?_
          refine QG.iload hX (qd K_X6_addItems 36 rfl) rfl rfl ?_
          refine QG.iald hX (qd K_X6_addItems 37 rfl) rfl rfl ?_
          refine QG.iconst hX (qd K_X6_addItems 38 rfl) rfl ki_2 ?_
          refine QG.icmp_ne (tgt := 92) hX (qd K_X6_addItems 39 rfl) rfl (by decide) ?_ ?_
          · exact QG.jmp (lv' := [(0, .ref 0), (1, .ref 2), (2, .int x2), (3, .int x3), (4, .int c36)]) rfl (G_X6_addItems_b92 X hX ad f_made f_quires f_things f_ghosts f_letter f_page f_sizes f_cells f_kinds f_words f_quireOf f_placeOf f_laid (fun t_bytes t_length t_items x2 x3 => F_X6_addItems_b18 f_quires f_things f_sizes f_cells f_kinds n t_bytes t_length t_items x2 x3) ih t_bytes t_length t_items x2 x3 c36)
          · refine QG.aload_n hX (qd K_X6_addItems 40 rfl) rfl rfl ?_
            refine QG.aload_n hX (qd K_X6_addItems 41 rfl) rfl rfl ?_
            refine QG.iload hX (qd K_X6_addItems 42 rfl) rfl rfl ?_
            refine QG.callV (rest := [.ref 0]) [2, 3, 4, 5, 6, 7, 8] hX cw_X6_91 (M_X0_isCancelled X.l f_made f_quires f_things f_ghosts f_letter f_page f_sizes f_cells f_kinds f_words f_quireOf f_placeOf f_laid c36) trivial (by decide) (by decide) (qd K_X6_addItems 43 rfl) rfl ⟨Nat.zero_le _, Nat.zero_le _⟩ rfl rfl rfl rfl (Nat.le_of_ble_eq_true rfl) rfl rfl (fun _ => rfl) (fun c75 => ?_)
            show QG X 5 _ _ 78 _ [.int (qb c75), .ref 0] [.inr (6, [.ref 1, .int t_length, .int t_items]), .inl (0, 400, .inl t_bytes), .inr (0, [.int (qb f_made), .int f_quires, .int f_things, .int f_ghosts, .int f_letter, .int f_page, .ref 3, .ref 4, .ref 5, .ref 6, .ref 7, .ref 8, .int f_laid]), .inl (0, 8, .inl f_sizes), .inl (0, 64, .inl f_cells), .inl (0, 30, .inl f_kinds), .inl (0, 30, .inl f_words), .inl (0, 30, .inl f_quireOf), .inl (0, 30, .inl f_placeOf)] ad 0 0
            refine QG.if_eq (tgt := 86) hX (qd K_X6_addItems 44 rfl) rfl (by decide) ?_ ?_
            · refine QG.bipush hX (qd K_X6_addItems 47 rfl) rfl kb_115 ?_
              exact QG.jmp (lv' := [(0, .ref 0), (1, .ref 2), (2, .int x2), (3, .int x3), (4, .int c36)]) rfl (G_X6_addItems_b88 X hX ad f_made f_quires f_things f_ghosts f_letter f_page f_sizes f_cells f_kinds f_words f_quireOf f_placeOf f_laid (fun t_bytes t_length t_items x2 x3 => F_X6_addItems_b18 f_quires f_things f_sizes f_cells f_kinds n t_bytes t_length t_items x2 x3) ih t_bytes t_length t_items x2 x3 c36 115)
            · refine QG.bipush hX (qd K_X6_addItems 45 rfl) rfl kb_99 ?_
              refine QG.goto (tgt := 88) hX (qd K_X6_addItems 46 rfl) rfl (by decide) ?_
              exact QG.jmp (lv' := [(0, .ref 0), (1, .ref 2), (2, .int x2), (3, .int x3), (4, .int c36)]) rfl (G_X6_addItems_b88 X hX ad f_made f_quires f_things f_ghosts f_letter f_page f_sizes f_cells f_kinds f_words f_quireOf f_placeOf f_laid (fun t_bytes t_length t_items x2 x3 => F_X6_addItems_b18 f_quires f_things f_sizes f_cells f_kinds n t_bytes t_length t_items x2 x3) ih t_bytes t_length t_items x2 x3 c36 99)
        · refine QG.aload_n hX (qd K_X6_addItems 29 rfl) rfl rfl ?_
          refine QG.bipush hX (qd K_X6_addItems 30 rfl) rfl kb_45 ?_
          refine QG.iload_n hX (qd K_X6_addItems 31 rfl) rfl rfl ?_
          refine QG.callV (rest := []) [0, 1] hX cw_X6_87 (M_X6_addItem X.l t_bytes t_length t_items 45 x3) trivial (by decide) (by decide) (qd K_X6_addItems 32 rfl) rfl ⟨Nat.zero_le _, Nat.zero_le _⟩ rfl rfl rfl rfl (Nat.le_of_ble_eq_true rfl) rfl rfl (fun _ => rfl) (fun c54 => ?_)
          show QG X 5 _ _ 57 _ [] [.inr (6, [.ref 1, .int c54.2.1, .int c54.2.2]), .inl (0, 400, .inl c54.1), .inr (0, [.int (qb f_made), .int f_quires, .int f_things, .int f_ghosts, .int f_letter, .int f_page, .ref 3, .ref 4, .ref 5, .ref 6, .ref 7, .ref 8, .int f_laid]), .inl (0, 8, .inl f_sizes), .inl (0, 64, .inl f_cells), .inl (0, 30, .inl f_kinds), .inl (0, 30, .inl f_words), .inl (0, 30, .inl f_quireOf), .inl (0, 30, .inl f_placeOf)] ad 0 0
          refine QG.goto (tgt := 104) hX (qd K_X6_addItems 33 rfl) rfl (by decide) ?_
          refine QG.iinc (lv' := [(3, .int (x3 + 1)), (4, .int c36), (0, .ref 0), (1, .ref 2), (2, .int x2)]) hX (qd K_X6_addItems 57 rfl) rfl (by decide) rfl ki_1 rfl ?_
          refine QG.goto (tgt := 18) hX (qd K_X6_addItems 58 rfl) rfl (by decide) ?_
          exact QG.jmp (lv' := [(0, .ref 0), (1, .ref 2), (2, .int x2), (3, .int (x3 + 1))]) rfl (ih c54.1 c54.2.1 c54.2.2 x2 (x3 + 1))

set_option maxRecDepth 100000 in
theorem M_X6_addItems (l : Launch)  (t_bytes : Nat → Int32) (t_length : Int32) (t_items : Int32) (f_made : Bool) (f_quires : Int32) (f_things : Int32) (f_ghosts : Int32) (f_letter : Int32) (f_page : Int32) (f_sizes : Nat → Int32) (f_cells : Nat → Int32) (f_kinds : Nat → Int32) (f_words : Nat → Int32) (f_quireOf : Nat → Int32) (f_placeOf : Nat → Int32) (f_laid : Int32) (p1 : Int32) : QM l yX6_addItems cX6_addItems 5 none 4 0 0 (fun _ => True) [.ref 0, .ref 2, .int p1] [.inr (6, [.ref 1, .int t_length, .int t_items]), .inl (0, 400, .inl t_bytes), .inr (0, [.int (qb f_made), .int f_quires, .int f_things, .int f_ghosts, .int f_letter, .int f_page, .ref 3, .ref 4, .ref 5, .ref 6, .ref 7, .ref 8, .int f_laid]), .inl (0, 8, .inl f_sizes), .inl (0, 64, .inl f_cells), .inl (0, 30, .inl f_kinds), .inl (0, 30, .inl f_words), .inl (0, 30, .inl f_quireOf), .inl (0, 30, .inl f_placeOf)] (F_X6_addItems t_bytes t_length t_items f_quires f_things f_sizes f_cells f_kinds p1) (P_X6_addItems f_made f_quires f_things f_ghosts f_letter f_page f_sizes f_cells f_kinds f_words f_quireOf f_placeOf f_laid) := by
  refine QM.of (by decide +kernel) (Nat.le_of_ble_eq_true rfl) ?_
  rintro X ad hX _ _ _ _
  refine QG.aload_n hX (qd K_X6_addItems 0 rfl) rfl rfl ?_
  refine QG.iconst hX (qd K_X6_addItems 1 rfl) rfl ki_0 ?_
  refine QG.putf (Wd' := [.inr (6, [.ref 1, .int t_length, .int 0]), .inl (0, 400, .inl t_bytes), .inr (0, [.int (qb f_made), .int f_quires, .int f_things, .int f_ghosts, .int f_letter, .int f_page, .ref 3, .ref 4, .ref 5, .ref 6, .ref 7, .ref 8, .int f_laid]), .inl (0, 8, .inl f_sizes), .inl (0, 64, .inl f_cells), .inl (0, 30, .inl f_kinds), .inl (0, 30, .inl f_words), .inl (0, 30, .inl f_quireOf), .inl (0, 30, .inl f_placeOf)]) hX fl_X6_19 fp_6_2 (qd K_X6_addItems 2 rfl) rfl rfl (Nat.le_of_ble_eq_true rfl) (qfit_i _) rfl ?_
  refine QG.iload_n hX (qd K_X6_addItems 3 rfl) rfl rfl ?_
  refine QG.if_ne (tgt := 16) hX (qd K_X6_addItems 4 rfl) rfl (by decide) ?_ ?_
  · refine QG.iconst hX (qd K_X6_addItems 10 rfl) rfl ki_1 ?_
    refine QG.istore_n (lv' := [(3, .int 1), (0, .ref 0), (1, .ref 2), (2, .int p1)]) hX (qd K_X6_addItems 11 rfl) rfl (by decide) rfl ?_
    exact QG.jmp (lv' := [(0, .ref 0), (1, .ref 2), (2, .int p1), (3, .int 1)]) rfl (G_X6_addItems_b18 X hX ad f_made f_quires f_things f_ghosts f_letter f_page f_sizes f_cells f_kinds f_words f_quireOf f_placeOf f_laid FU t_bytes t_length 0 p1 1)
  · refine QG.aload_n hX (qd K_X6_addItems 5 rfl) rfl rfl ?_
    refine QG.aload_n hX (qd K_X6_addItems 6 rfl) rfl rfl ?_
    refine QG.iconst hX (qd K_X6_addItems 7 rfl) rfl ki_0 ?_
    refine QG.iconst hX (qd K_X6_addItems 8 rfl) rfl ki_0 ?_
    refine QG.callV0 (rest := []) hX cw_X6_79 (M_X6_addLoose X.l t_bytes t_length 0 f_made f_quires f_things f_ghosts f_letter f_page f_sizes f_cells f_kinds f_words f_quireOf f_placeOf f_laid 0 0) trivial (by decide) (by decide) (qd K_X6_addItems 9 rfl) rfl ⟨Nat.zero_le _, Nat.zero_le _⟩ rfl rfl rfl rfl (Nat.le_of_ble_eq_true rfl) (fun _ => rfl) (fun c13 => ?_)
    show QG X 5 _ _ 16 _ [] [.inr (6, [.ref 1, .int c13.2.1, .int c13.2.2]), .inl (0, 400, .inl c13.1), .inr (0, [.int (qb f_made), .int f_quires, .int f_things, .int f_ghosts, .int f_letter, .int f_page, .ref 3, .ref 4, .ref 5, .ref 6, .ref 7, .ref 8, .int f_laid]), .inl (0, 8, .inl f_sizes), .inl (0, 64, .inl f_cells), .inl (0, 30, .inl f_kinds), .inl (0, 30, .inl f_words), .inl (0, 30, .inl f_quireOf), .inl (0, 30, .inl f_placeOf)] ad 0 0
    refine QG.iconst hX (qd K_X6_addItems 10 rfl) rfl ki_1 ?_
    refine QG.istore_n (lv' := [(3, .int 1), (0, .ref 0), (1, .ref 2), (2, .int p1)]) hX (qd K_X6_addItems 11 rfl) rfl (by decide) rfl ?_
    exact QG.jmp (lv' := [(0, .ref 0), (1, .ref 2), (2, .int p1), (3, .int 1)]) rfl (G_X6_addItems_b18 X hX ad f_made f_quires f_things f_ghosts f_letter f_page f_sizes f_cells f_kinds f_words f_quireOf f_placeOf f_laid FU c13.1 c13.2.1 c13.2.2 p1 1)

def P_X6_writeFormula (f_made : Bool) (f_quires : Int32) (f_things : Int32) (f_ghosts : Int32) (f_letter : Int32) (f_page : Int32) (f_sizes : Nat → Int32) (f_cells : Nat → Int32) (f_kinds : Nat → Int32) (f_words : Nat → Int32) (f_quireOf : Nat → Int32) (f_placeOf : Nat → Int32) (f_laid : Int32) : (Nat → Int32) × Int32 × Int32 → Option Value × List AC := fun z => (none, [.inr (6, [.ref 1, .int z.2.1, .int z.2.2]), .inl (0, 400, .inl z.1), .inr (0, [.int (qb f_made), .int f_quires, .int f_things, .int f_ghosts, .int f_letter, .int f_page, .ref 3, .ref 4, .ref 5, .ref 6, .ref 7, .ref 8, .int f_laid]), .inl (0, 8, .inl f_sizes), .inl (0, 64, .inl f_cells), .inl (0, 30, .inl f_kinds), .inl (0, 30, .inl f_words), .inl (0, 30, .inl f_quireOf), .inl (0, 30, .inl f_placeOf)])
set_option maxRecDepth 100000 in
theorem G_X6_writeFormula_b31 (X : QX) (hX : qok X cX6_writeFormula RX6 4 none 5) (ad : Nat → Nat) (f_made : Bool) (f_quires : Int32) (f_things : Int32) (f_ghosts : Int32) (f_letter : Int32) (f_page : Int32) (f_sizes : Nat → Int32) (f_cells : Nat → Int32) (f_kinds : Nat → Int32) (f_words : Nat → Int32) (f_quireOf : Nat → Int32) (f_placeOf : Nat → Int32) (f_laid : Int32) (k7 : (Nat → Int32) → Int32 → Int32 → Int32 → Option ((Nat → Int32) × Int32 × Int32)) (hk7 : ∀ (t_bytes : Nat → Int32) (t_length : Int32) (t_items : Int32) (x2 : Int32), QG X 4 (qQ X ad 9 (P_X6_writeFormula f_made f_quires f_things f_ghosts f_letter f_page f_sizes f_cells f_kinds f_words f_quireOf f_placeOf f_laid) 0 0) (k7 t_bytes t_length t_items x2) 7 [(0, .ref 0), (1, .ref 2), (2, .int x2)] [] [.inr (6, [.ref 1, .int t_length, .int t_items]), .inl (0, 400, .inl t_bytes), .inr (0, [.int (qb f_made), .int f_quires, .int f_things, .int f_ghosts, .int f_letter, .int f_page, .ref 3, .ref 4, .ref 5, .ref 6, .ref 7, .ref 8, .int f_laid]), .inl (0, 8, .inl f_sizes), .inl (0, 64, .inl f_cells), .inl (0, 30, .inl f_kinds), .inl (0, 30, .inl f_words), .inl (0, 30, .inl f_quireOf), .inl (0, 30, .inl f_placeOf)] ad 0 0) (t_bytes : Nat → Int32) (t_length : Int32) (t_items : Int32) (x2 : Int32) : QG X 4 (qQ X ad 9 (P_X6_writeFormula f_made f_quires f_things f_ghosts f_letter f_page f_sizes f_cells f_kinds f_words f_quireOf f_placeOf f_laid) 0 0) (F_X6_writeFormula_b31 f_quires f_things f_letter f_sizes f_cells f_kinds k7 t_bytes t_length t_items x2) 31 [(0, .ref 0), (1, .ref 2), (2, .int x2)] [] [.inr (6, [.ref 1, .int t_length, .int t_items]), .inl (0, 400, .inl t_bytes), .inr (0, [.int (qb f_made), .int f_quires, .int f_things, .int f_ghosts, .int f_letter, .int f_page, .ref 3, .ref 4, .ref 5, .ref 6, .ref 7, .ref 8, .int f_laid]), .inl (0, 8, .inl f_sizes), .inl (0, 64, .inl f_cells), .inl (0, 30, .inl f_kinds), .inl (0, 30, .inl f_words), .inl (0, 30, .inl f_quireOf), .inl (0, 30, .inl f_placeOf)] ad 0 0 := by
  refine QG.aload_n hX (qd K_X6_writeFormula 17 rfl) rfl rfl ?_
  refine QG.iload_n hX (qd K_X6_writeFormula 18 rfl) rfl rfl ?_
  refine QG.callS (rest := []) [2, 3, 4, 5, 6, 7, 8] hX cw_X6_37 (M_X6_plainRun X.l f_made f_quires f_things f_ghosts f_letter f_page f_sizes f_cells f_kinds f_words f_quireOf f_placeOf f_laid x2) trivial (by decide) (by decide) (qd K_X6_writeFormula 19 rfl) rfl ⟨Nat.zero_le _, Nat.zero_le _⟩ rfl rfl (Nat.le_of_ble_eq_true rfl) rfl rfl (fun _ => rfl) (fun c33 => ?_)
  show QG X 4 _ _ 36 _ [.int c33] [.inr (6, [.ref 1, .int t_length, .int t_items]), .inl (0, 400, .inl t_bytes), .inr (0, [.int (qb f_made), .int f_quires, .int f_things, .int f_ghosts, .int f_letter, .int f_page, .ref 3, .ref 4, .ref 5, .ref 6, .ref 7, .ref 8, .int f_laid]), .inl (0, 8, .inl f_sizes), .inl (0, 64, .inl f_cells), .inl (0, 30, .inl f_kinds), .inl (0, 30, .inl f_words), .inl (0, 30, .inl f_quireOf), .inl (0, 30, .inl f_placeOf)] ad 0 0
  refine QG.istore_n (lv' := [(3, .int c33), (0, .ref 0), (1, .ref 2), (2, .int x2)]) hX (qd K_X6_writeFormula 20 rfl) rfl (by decide) rfl ?_
  refine QG.aload_n hX (qd K_X6_writeFormula 21 rfl) rfl rfl ?_
  refine QG.aload_n hX (qd K_X6_writeFormula 22 rfl) rfl rfl ?_
  refine QG.getf hX fl_X6_41 (qd K_X6_writeFormula 23 rfl) rfl rfl rfl ?_
  refine QG.iload_n hX (qd K_X6_writeFormula 24 rfl) rfl rfl ?_
  refine QG.iadd hX (qd K_X6_writeFormula 25 rfl) rfl ?_
  refine QG.callV (rest := []) [0, 1] hX cw_X6_44 (M_X6_addLetters X.l t_bytes t_length t_items (f_letter + x2)) trivial (by decide) (by decide) (qd K_X6_writeFormula 26 rfl) rfl ⟨Nat.zero_le _, Nat.zero_le _⟩ rfl rfl rfl rfl (Nat.le_of_ble_eq_true rfl) rfl rfl (fun _ => rfl) (fun c44 => ?_)
  show QG X 4 _ _ 47 _ [] [.inr (6, [.ref 1, .int c44.2, .int t_items]), .inl (0, 400, .inl c44.1), .inr (0, [.int (qb f_made), .int f_quires, .int f_things, .int f_ghosts, .int f_letter, .int f_page, .ref 3, .ref 4, .ref 5, .ref 6, .ref 7, .ref 8, .int f_laid]), .inl (0, 8, .inl f_sizes), .inl (0, 64, .inl f_cells), .inl (0, 30, .inl f_kinds), .inl (0, 30, .inl f_words), .inl (0, 30, .inl f_quireOf), .inl (0, 30, .inl f_placeOf)] ad 0 0
  refine QG.iload_n hX (qd K_X6_writeFormula 27 rfl) rfl rfl ?_
  refine QG.iconst hX (qd K_X6_writeFormula 28 rfl) rfl ki_3 ?_
  refine QG.icmp_lt (tgt := 92) hX (qd K_X6_writeFormula 29 rfl) rfl (by decide) ?_ ?_
  · refine QG.aload_n hX (qd K_X6_writeFormula 56 rfl) rfl rfl ?_
    refine QG.bipush hX (qd K_X6_writeFormula 57 rfl) rfl kb_48 ?_
    refine QG.aload_n hX (qd K_X6_writeFormula 58 rfl) rfl rfl ?_
    refine QG.getf hX fl_X6_47 (qd K_X6_writeFormula 59 rfl) rfl rfl rfl ?_
    refine QG.iload_n hX (qd K_X6_writeFormula 60 rfl) rfl rfl ?_
    refine QG.iald hX (qd K_X6_writeFormula 61 rfl) rfl rfl ?_
    refine QG.iadd hX (qd K_X6_writeFormula 62 rfl) rfl ?_
    refine QG.callV (rest := []) [0, 1] hX cw_X6_22 (M_X6_add X.l c44.1 c44.2 t_items ((48 : Int32) + (f_sizes x2.toNatClampNeg))) trivial (by decide) (by decide) (qd K_X6_writeFormula 63 rfl) rfl ⟨Nat.zero_le _, Nat.zero_le _⟩ rfl rfl rfl rfl (Nat.le_of_ble_eq_true rfl) rfl rfl (fun _ => rfl) (fun c102 => ?_)
    show QG X 4 _ _ 105 _ [] [.inr (6, [.ref 1, .int c102.2, .int t_items]), .inl (0, 400, .inl c102.1), .inr (0, [.int (qb f_made), .int f_quires, .int f_things, .int f_ghosts, .int f_letter, .int f_page, .ref 3, .ref 4, .ref 5, .ref 6, .ref 7, .ref 8, .int f_laid]), .inl (0, 8, .inl f_sizes), .inl (0, 64, .inl f_cells), .inl (0, 30, .inl f_kinds), .inl (0, 30, .inl f_words), .inl (0, 30, .inl f_quireOf), .inl (0, 30, .inl f_placeOf)] ad 0 0
    refine QG.aload_n hX (qd K_X6_writeFormula 64 rfl) rfl rfl ?_
    refine QG.aload_n hX (qd K_X6_writeFormula 65 rfl) rfl rfl ?_
    refine QG.iload_n hX (qd K_X6_writeFormula 66 rfl) rfl rfl ?_
    refine QG.callV0 (rest := []) hX cw_X6_50 (M_X6_addItems X.l c102.1 c102.2 t_items f_made f_quires f_things f_ghosts f_letter f_page f_sizes f_cells f_kinds f_words f_quireOf f_placeOf f_laid x2) trivial (by decide) (by decide) (qd K_X6_writeFormula 67 rfl) rfl ⟨Nat.zero_le _, Nat.zero_le _⟩ rfl rfl rfl rfl (Nat.le_of_ble_eq_true rfl) (fun _ => rfl) (fun c108 => ?_)
    show QG X 4 _ _ 111 _ [] [.inr (6, [.ref 1, .int c108.2.1, .int c108.2.2]), .inl (0, 400, .inl c108.1), .inr (0, [.int (qb f_made), .int f_quires, .int f_things, .int f_ghosts, .int f_letter, .int f_page, .ref 3, .ref 4, .ref 5, .ref 6, .ref 7, .ref 8, .int f_laid]), .inl (0, 8, .inl f_sizes), .inl (0, 64, .inl f_cells), .inl (0, 30, .inl f_kinds), .inl (0, 30, .inl f_words), .inl (0, 30, .inl f_quireOf), .inl (0, 30, .inl f_placeOf)] ad 0 0
    refine QG.iinc (lv' := [(2, .int (x2 + 1)), (3, .int c33), (0, .ref 0), (1, .ref 2)]) hX (qd K_X6_writeFormula 68 rfl) rfl (by decide) rfl ki_1 rfl ?_
    refine QG.goto (tgt := 7) hX (qd K_X6_writeFormula 69 rfl) rfl (by decide) ?_
    exact QG.jmp (lv' := [(0, .ref 0), (1, .ref 2), (2, .int (x2 + 1))]) rfl (hk7 c108.1 c108.2.1 c108.2.2 (x2 + 1))
  · refine QG.aload_n hX (qd K_X6_writeFormula 30 rfl) rfl rfl ?_
    refine QG.bipush hX (qd K_X6_writeFormula 31 rfl) rfl kb_45 ?_
    refine QG.callV (rest := []) [0, 1] hX cw_X6_22 (M_X6_add X.l c44.1 c44.2 t_items 45) trivial (by decide) (by decide) (qd K_X6_writeFormula 32 rfl) rfl ⟨Nat.zero_le _, Nat.zero_le _⟩ rfl rfl rfl rfl (Nat.le_of_ble_eq_true rfl) rfl rfl (fun _ => rfl) (fun c55 => ?_)
    show QG X 4 _ _ 58 _ [] [.inr (6, [.ref 1, .int c55.2, .int t_items]), .inl (0, 400, .inl c55.1), .inr (0, [.int (qb f_made), .int f_quires, .int f_things, .int f_ghosts, .int f_letter, .int f_page, .ref 3, .ref 4, .ref 5, .ref 6, .ref 7, .ref 8, .int f_laid]), .inl (0, 8, .inl f_sizes), .inl (0, 64, .inl f_cells), .inl (0, 30, .inl f_kinds), .inl (0, 30, .inl f_words), .inl (0, 30, .inl f_quireOf), .inl (0, 30, .inl f_placeOf)] ad 0 0
    refine QG.aload_n hX (qd K_X6_writeFormula 33 rfl) rfl rfl ?_
    refine QG.aload_n hX (qd K_X6_writeFormula 34 rfl) rfl rfl ?_
    refine QG.getf hX fl_X6_41 (qd K_X6_writeFormula 35 rfl) rfl rfl rfl ?_
    refine QG.iload_n hX (qd K_X6_writeFormula 36 rfl) rfl rfl ?_
    refine QG.iadd hX (qd K_X6_writeFormula 37 rfl) rfl ?_
    refine QG.iload_n hX (qd K_X6_writeFormula 38 rfl) rfl rfl ?_
    refine QG.iadd hX (qd K_X6_writeFormula 39 rfl) rfl ?_
    refine QG.iconst hX (qd K_X6_writeFormula 40 rfl) rfl ki_1 ?_
    refine QG.isub hX (qd K_X6_writeFormula 41 rfl) rfl ?_
    refine QG.callV (rest := []) [0, 1] hX cw_X6_44 (M_X6_addLetters X.l c55.1 c55.2 t_items (((f_letter + x2) + c33) - 1)) trivial (by decide) (by decide) (qd K_X6_writeFormula 42 rfl) rfl ⟨Nat.zero_le _, Nat.zero_le _⟩ rfl rfl rfl rfl (Nat.le_of_ble_eq_true rfl) rfl rfl (fun _ => rfl) (fun c69 => ?_)
    show QG X 4 _ _ 72 _ [] [.inr (6, [.ref 1, .int c69.2, .int t_items]), .inl (0, 400, .inl c69.1), .inr (0, [.int (qb f_made), .int f_quires, .int f_things, .int f_ghosts, .int f_letter, .int f_page, .ref 3, .ref 4, .ref 5, .ref 6, .ref 7, .ref 8, .int f_laid]), .inl (0, 8, .inl f_sizes), .inl (0, 64, .inl f_cells), .inl (0, 30, .inl f_kinds), .inl (0, 30, .inl f_words), .inl (0, 30, .inl f_quireOf), .inl (0, 30, .inl f_placeOf)] ad 0 0
    refine QG.aload_n hX (qd K_X6_writeFormula 43 rfl) rfl rfl ?_
    refine QG.bipush hX (qd K_X6_writeFormula 44 rfl) rfl kb_48 ?_
    refine QG.aload_n hX (qd K_X6_writeFormula 45 rfl) rfl rfl ?_
    refine QG.getf hX fl_X6_47 (qd K_X6_writeFormula 46 rfl) rfl rfl rfl ?_
    refine QG.iload_n hX (qd K_X6_writeFormula 47 rfl) rfl rfl ?_
    refine QG.iald hX (qd K_X6_writeFormula 48 rfl) rfl rfl ?_
    refine QG.iadd hX (qd K_X6_writeFormula 49 rfl) rfl ?_
    refine QG.callV (rest := []) [0, 1] hX cw_X6_22 (M_X6_add X.l c69.1 c69.2 t_items ((48 : Int32) + (f_sizes x2.toNatClampNeg))) trivial (by decide) (by decide) (qd K_X6_writeFormula 50 rfl) rfl ⟨Nat.zero_le _, Nat.zero_le _⟩ rfl rfl rfl rfl (Nat.le_of_ble_eq_true rfl) rfl rfl (fun _ => rfl) (fun c82 => ?_)
    show QG X 4 _ _ 85 _ [] [.inr (6, [.ref 1, .int c82.2, .int t_items]), .inl (0, 400, .inl c82.1), .inr (0, [.int (qb f_made), .int f_quires, .int f_things, .int f_ghosts, .int f_letter, .int f_page, .ref 3, .ref 4, .ref 5, .ref 6, .ref 7, .ref 8, .int f_laid]), .inl (0, 8, .inl f_sizes), .inl (0, 64, .inl f_cells), .inl (0, 30, .inl f_kinds), .inl (0, 30, .inl f_words), .inl (0, 30, .inl f_quireOf), .inl (0, 30, .inl f_placeOf)] ad 0 0
    refine QG.iload_n hX (qd K_X6_writeFormula 51 rfl) rfl rfl ?_
    refine QG.iload_n hX (qd K_X6_writeFormula 52 rfl) rfl rfl ?_
    refine QG.iadd hX (qd K_X6_writeFormula 53 rfl) rfl ?_
    refine QG.istore_n (lv' := [(2, .int (x2 + c33)), (3, .int c33), (0, .ref 0), (1, .ref 2)]) hX (qd K_X6_writeFormula 54 rfl) rfl (by decide) rfl ?_
    refine QG.goto (tgt := 114) hX (qd K_X6_writeFormula 55 rfl) rfl (by decide) ?_
    refine QG.goto (tgt := 7) hX (qd K_X6_writeFormula 69 rfl) rfl (by decide) ?_
    exact QG.jmp (lv' := [(0, .ref 0), (1, .ref 2), (2, .int (x2 + c33))]) rfl (hk7 c82.1 c82.2 t_items (x2 + c33))

set_option maxRecDepth 100000 in
theorem G_X6_writeFormula_b7 (X : QX) (hX : qok X cX6_writeFormula RX6 4 none 5) (ad : Nat → Nat) (f_made : Bool) (f_quires : Int32) (f_things : Int32) (f_ghosts : Int32) (f_letter : Int32) (f_page : Int32) (f_sizes : Nat → Int32) (f_cells : Nat → Int32) (f_kinds : Nat → Int32) (f_words : Nat → Int32) (f_quireOf : Nat → Int32) (f_placeOf : Nat → Int32) (f_laid : Int32) : ∀ (n : Nat) (t_bytes : Nat → Int32) (t_length : Int32) (t_items : Int32) (x2 : Int32), QG X 4 (qQ X ad 9 (P_X6_writeFormula f_made f_quires f_things f_ghosts f_letter f_page f_sizes f_cells f_kinds f_words f_quireOf f_placeOf f_laid) 0 0) (F_X6_writeFormula_b7 f_quires f_things f_letter f_sizes f_cells f_kinds n t_bytes t_length t_items x2) 7 [(0, .ref 0), (1, .ref 2), (2, .int x2)] [] [.inr (6, [.ref 1, .int t_length, .int t_items]), .inl (0, 400, .inl t_bytes), .inr (0, [.int (qb f_made), .int f_quires, .int f_things, .int f_ghosts, .int f_letter, .int f_page, .ref 3, .ref 4, .ref 5, .ref 6, .ref 7, .ref 8, .int f_laid]), .inl (0, 8, .inl f_sizes), .inl (0, 64, .inl f_cells), .inl (0, 30, .inl f_kinds), .inl (0, 30, .inl f_words), .inl (0, 30, .inl f_quireOf), .inl (0, 30, .inl f_placeOf)] ad 0 0 := by
  intro n
  induction n with
  | zero => intros; exact QG.nothing
  | succ n ih =>
    intro t_bytes t_length t_items x2
    refine QG.iload_n hX (qd K_X6_writeFormula 5 rfl) rfl rfl ?_
    refine QG.aload_n hX (qd K_X6_writeFormula 6 rfl) rfl rfl ?_
    refine QG.getf hX fl_X6_32 (qd K_X6_writeFormula 7 rfl) rfl rfl rfl ?_
    refine QG.icmp_ge (tgt := 117) hX (qd K_X6_writeFormula 8 rfl) rfl (by decide) ?_ ?_
    · exact QG.vret hX (qd K_X6_writeFormula 70 rfl) rfl rfl (fun _ _ => rfl)
    · refine QG.iload_n hX (qd K_X6_writeFormula 9 rfl) rfl rfl ?_
      refine QG.bipush hX (qd K_X6_writeFormula 10 rfl) rfl kb_8 ?_
      refine QG.icmp_ge (tgt := 117) hX (qd K_X6_writeFormula 11 rfl) rfl (by decide) ?_ ?_
      · exact QG.vret hX (qd K_X6_writeFormula 70 rfl) rfl rfl (fun _ _ => rfl)
      · refine QG.iload_n hX (qd K_X6_writeFormula 12 rfl) rfl rfl ?_
        refine QG.if_le (tgt := 31) hX (qd K_X6_writeFormula 13 rfl) rfl (by decide) ?_ ?_
        · exact QG.jmp (lv' := [(0, .ref 0), (1, .ref 2), (2, .int x2)]) rfl (G_X6_writeFormula_b31 X hX ad f_made f_quires f_things f_ghosts f_letter f_page f_sizes f_cells f_kinds f_words f_quireOf f_placeOf f_laid (fun t_bytes t_length t_items x2 => F_X6_writeFormula_b7 f_quires f_things f_letter f_sizes f_cells f_kinds n t_bytes t_length t_items x2) ih t_bytes t_length t_items x2)
        · refine QG.aload_n hX (qd K_X6_writeFormula 14 rfl) rfl rfl ?_
          refine QG.bipush hX (qd K_X6_writeFormula 15 rfl) rfl kb_32 ?_
          refine QG.callV (rest := []) [0, 1] hX cw_X6_22 (M_X6_add X.l t_bytes t_length t_items 32) trivial (by decide) (by decide) (qd K_X6_writeFormula 16 rfl) rfl ⟨Nat.zero_le _, Nat.zero_le _⟩ rfl rfl rfl rfl (Nat.le_of_ble_eq_true rfl) rfl rfl (fun _ => rfl) (fun c28 => ?_)
          show QG X 4 _ _ 31 _ [] [.inr (6, [.ref 1, .int c28.2, .int t_items]), .inl (0, 400, .inl c28.1), .inr (0, [.int (qb f_made), .int f_quires, .int f_things, .int f_ghosts, .int f_letter, .int f_page, .ref 3, .ref 4, .ref 5, .ref 6, .ref 7, .ref 8, .int f_laid]), .inl (0, 8, .inl f_sizes), .inl (0, 64, .inl f_cells), .inl (0, 30, .inl f_kinds), .inl (0, 30, .inl f_words), .inl (0, 30, .inl f_quireOf), .inl (0, 30, .inl f_placeOf)] ad 0 0
          exact QG.jmp (lv' := [(0, .ref 0), (1, .ref 2), (2, .int x2)]) rfl (G_X6_writeFormula_b31 X hX ad f_made f_quires f_things f_ghosts f_letter f_page f_sizes f_cells f_kinds f_words f_quireOf f_placeOf f_laid (fun t_bytes t_length t_items x2 => F_X6_writeFormula_b7 f_quires f_things f_letter f_sizes f_cells f_kinds n t_bytes t_length t_items x2) ih c28.1 c28.2 t_items x2)

set_option maxRecDepth 100000 in
theorem M_X6_writeFormula (l : Launch)  (t_bytes : Nat → Int32) (t_length : Int32) (t_items : Int32) (f_made : Bool) (f_quires : Int32) (f_things : Int32) (f_ghosts : Int32) (f_letter : Int32) (f_page : Int32) (f_sizes : Nat → Int32) (f_cells : Nat → Int32) (f_kinds : Nat → Int32) (f_words : Nat → Int32) (f_quireOf : Nat → Int32) (f_placeOf : Nat → Int32) (f_laid : Int32) : QM l yX6_writeFormula cX6_writeFormula 4 none 5 0 0 (fun _ => True) [.ref 0, .ref 2] [.inr (6, [.ref 1, .int t_length, .int t_items]), .inl (0, 400, .inl t_bytes), .inr (0, [.int (qb f_made), .int f_quires, .int f_things, .int f_ghosts, .int f_letter, .int f_page, .ref 3, .ref 4, .ref 5, .ref 6, .ref 7, .ref 8, .int f_laid]), .inl (0, 8, .inl f_sizes), .inl (0, 64, .inl f_cells), .inl (0, 30, .inl f_kinds), .inl (0, 30, .inl f_words), .inl (0, 30, .inl f_quireOf), .inl (0, 30, .inl f_placeOf)] (F_X6_writeFormula t_bytes t_length t_items f_quires f_things f_letter f_sizes f_cells f_kinds) (P_X6_writeFormula f_made f_quires f_things f_ghosts f_letter f_page f_sizes f_cells f_kinds f_words f_quireOf f_placeOf f_laid) := by
  refine QM.of (by decide +kernel) (Nat.le_of_ble_eq_true rfl) ?_
  rintro X ad hX _ _ _ _
  refine QG.aload_n hX (qd K_X6_writeFormula 0 rfl) rfl rfl ?_
  refine QG.iconst hX (qd K_X6_writeFormula 1 rfl) rfl ki_0 ?_
  refine QG.putf (Wd' := [.inr (6, [.ref 1, .int 0, .int t_items]), .inl (0, 400, .inl t_bytes), .inr (0, [.int (qb f_made), .int f_quires, .int f_things, .int f_ghosts, .int f_letter, .int f_page, .ref 3, .ref 4, .ref 5, .ref 6, .ref 7, .ref 8, .int f_laid]), .inl (0, 8, .inl f_sizes), .inl (0, 64, .inl f_cells), .inl (0, 30, .inl f_kinds), .inl (0, 30, .inl f_words), .inl (0, 30, .inl f_quireOf), .inl (0, 30, .inl f_placeOf)]) hX fl_X6_15 fp_6_1 (qd K_X6_writeFormula 2 rfl) rfl rfl (Nat.le_of_ble_eq_true rfl) (qfit_i _) rfl ?_
  refine QG.iconst hX (qd K_X6_writeFormula 3 rfl) rfl ki_0 ?_
  refine QG.istore_n (lv' := [(2, .int 0), (0, .ref 0), (1, .ref 2)]) hX (qd K_X6_writeFormula 4 rfl) rfl (by decide) rfl ?_
  exact QG.jmp (lv' := [(0, .ref 0), (1, .ref 2), (2, .int 0)]) rfl (G_X6_writeFormula_b7 X hX ad f_made f_quires f_things f_ghosts f_letter f_page f_sizes f_cells f_kinds f_words f_quireOf f_placeOf f_laid FU t_bytes 0 t_items 0)


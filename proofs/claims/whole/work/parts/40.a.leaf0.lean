def P_X7_isHanging : Bool → Option Value × List AC := fun z => (some (.int (qb z)), [])
set_option maxRecDepth 100000 in
theorem M_X7_isHanging (l : Launch)  (p0 : Int32) : QM l yX7_isHanging cX7_isHanging 1 (some .boolean) 0 0 0 (fun _ => True) [.int p0] [] (F_X7_isHanging p0) (P_X7_isHanging) := by
  refine QM.of (by decide +kernel) (Nat.le_of_ble_eq_true rfl) ?_
  rintro X ad hX _ _ _ _
  refine QG.iload_n hX (qd K_X7_isHanging 0 rfl) rfl rfl ?_
  refine QG.iconst hX (qd K_X7_isHanging 1 rfl) rfl ki_1 ?_
  refine QG.icmp_eq (tgt := 10) hX (qd K_X7_isHanging 2 rfl) rfl (by decide) ?_ ?_
  · refine QG.iconst hX (qd K_X7_isHanging 6 rfl) rfl ki_1 ?_
    refine QG.goto (tgt := 15) hX (qd K_X7_isHanging 7 rfl) rfl (by decide) ?_
    exact QG.zret hX (qd K_X7_isHanging 9 rfl) rfl (qb_nar true) rfl (fun _ _ => rfl)
  · refine QG.iload_n hX (qd K_X7_isHanging 3 rfl) rfl rfl ?_
    refine QG.iconst hX (qd K_X7_isHanging 4 rfl) rfl ki_2 ?_
    refine QG.icmp_ne (tgt := 14) hX (qd K_X7_isHanging 5 rfl) rfl (by decide) ?_ ?_
    · refine QG.iconst hX (qd K_X7_isHanging 8 rfl) rfl ki_0 ?_
      exact QG.zret hX (qd K_X7_isHanging 9 rfl) rfl (qb_nar false) rfl (fun _ _ => rfl)
    · refine QG.iconst hX (qd K_X7_isHanging 6 rfl) rfl ki_1 ?_
      refine QG.goto (tgt := 15) hX (qd K_X7_isHanging 7 rfl) rfl (by decide) ?_
      exact QG.zret hX (qd K_X7_isHanging 9 rfl) rfl (qb_nar true) rfl (fun _ _ => rfl)

def P_X7_isGhost : Bool → Option Value × List AC := fun z => (some (.int (qb z)), [])
set_option maxRecDepth 100000 in
theorem M_X7_isGhost (l : Launch)  (p0 : Int32) (p1 : Int32) (p2 : Int32) : QM l yX7_isGhost cX7_isGhost 3 (some .boolean) 0 0 0 (fun _ => True) [.int p0, .int p1, .int p2] [] (F_X7_isGhost p0 p1 p2) (P_X7_isGhost) := by
  refine QM.of (by decide +kernel) (Nat.le_of_ble_eq_true rfl) ?_
  rintro X ad hX _ _ _ _
  refine QG.iload_n hX (qd K_X7_isGhost 0 rfl) rfl rfl ?_
  refine QG.iload_n hX (qd K_X7_isGhost 1 rfl) rfl rfl ?_
  refine QG.iload_n hX (qd K_X7_isGhost 2 rfl) rfl rfl ?_
  refine QG.isub hX (qd K_X7_isGhost 3 rfl) rfl ?_
  refine QG.ishr hX (qd K_X7_isGhost 4 rfl) rfl ?_
  refine QG.iconst hX (qd K_X7_isGhost 5 rfl) rfl ki_1 ?_
  refine QG.iand hX (qd K_X7_isGhost 6 rfl) rfl ?_
  refine QG.if_eq (tgt := 14) hX (qd K_X7_isGhost 7 rfl) rfl (by decide) ?_ ?_
  · refine QG.iconst hX (qd K_X7_isGhost 10 rfl) rfl ki_0 ?_
    exact QG.zret hX (qd K_X7_isGhost 11 rfl) rfl (qb_nar false) rfl (fun _ _ => rfl)
  · refine QG.iconst hX (qd K_X7_isGhost 8 rfl) rfl ki_1 ?_
    refine QG.goto (tgt := 15) hX (qd K_X7_isGhost 9 rfl) rfl (by decide) ?_
    exact QG.zret hX (qd K_X7_isGhost 11 rfl) rfl (qb_nar true) rfl (fun _ _ => rfl)

def P_X5_has (r_kinds : Nat → Int32) (r_whole : Nat → Int32) (r_marks : Nat → Int32) (r_rules : Nat → Int32) (r_count : Int32) (r_changed : Bool) : Bool → Option Value × List AC := fun z => (some (.int (qb z)), [.inr (5, [.ref 1, .ref 2, .ref 3, .ref 4, .int r_count, .int (qb r_changed)]), .inl (0, 30, .inl r_kinds), .inl (0, 30, .inl r_whole), .inl (0, 210, .inl r_marks), .inl (0, 6, .inl r_rules)])
set_option maxRecDepth 100000 in
theorem M_X5_has (l : Launch)  (r_kinds : Nat → Int32) (r_whole : Nat → Int32) (r_marks : Nat → Int32) (r_rules : Nat → Int32) (r_count : Int32) (r_changed : Bool) (p0 : Int32) : QM l yX5_has cX5_has 2 (some .boolean) 0 0 0 (fun _ => True) [.ref 0, .int p0] [.inr (5, [.ref 1, .ref 2, .ref 3, .ref 4, .int r_count, .int (qb r_changed)]), .inl (0, 30, .inl r_kinds), .inl (0, 30, .inl r_whole), .inl (0, 210, .inl r_marks), .inl (0, 6, .inl r_rules)] (F_X5_has r_count p0) (P_X5_has r_kinds r_whole r_marks r_rules r_count r_changed) := by
  refine QM.of (by decide +kernel) (Nat.le_of_ble_eq_true rfl) ?_
  rintro X ad hX _ _ _ _
  refine QG.iload_n hX (qd K_X5_has 0 rfl) rfl rfl ?_
  refine QG.if_lt (tgt := 16) hX (qd K_X5_has 1 rfl) rfl (by decide) ?_ ?_
  · refine QG.iconst hX (qd K_X5_has 8 rfl) rfl ki_0 ?_
    exact QG.zret hX (qd K_X5_has 9 rfl) rfl (qb_nar false) rfl (fun _ _ => rfl)
  · refine QG.iload_n hX (qd K_X5_has 2 rfl) rfl rfl ?_
    refine QG.aload_n hX (qd K_X5_has 3 rfl) rfl rfl ?_
    refine QG.getf hX fl_X5_24 (qd K_X5_has 4 rfl) rfl rfl rfl ?_
    refine QG.icmp_ge (tgt := 16) hX (qd K_X5_has 5 rfl) rfl (by decide) ?_ ?_
    · refine QG.iconst hX (qd K_X5_has 8 rfl) rfl ki_0 ?_
      exact QG.zret hX (qd K_X5_has 9 rfl) rfl (qb_nar false) rfl (fun _ _ => rfl)
    · refine QG.iconst hX (qd K_X5_has 6 rfl) rfl ki_1 ?_
      refine QG.goto (tgt := 17) hX (qd K_X5_has 7 rfl) rfl (by decide) ?_
      exact QG.zret hX (qd K_X5_has 9 rfl) rfl (qb_nar true) rfl (fun _ _ => rfl)

def P_X5_kindOf (r_kinds : Nat → Int32) (r_whole : Nat → Int32) (r_marks : Nat → Int32) (r_rules : Nat → Int32) (r_count : Int32) (r_changed : Bool) : Int32 → Option Value × List AC := fun z => (some (.int z), [.inr (5, [.ref 1, .ref 2, .ref 3, .ref 4, .int r_count, .int (qb r_changed)]), .inl (0, 30, .inl r_kinds), .inl (0, 30, .inl r_whole), .inl (0, 210, .inl r_marks), .inl (0, 6, .inl r_rules)])
set_option maxRecDepth 100000 in
theorem M_X5_kindOf (l : Launch)  (r_kinds : Nat → Int32) (r_whole : Nat → Int32) (r_marks : Nat → Int32) (r_rules : Nat → Int32) (r_count : Int32) (r_changed : Bool) (p0 : Int32) : QM l yX5_kindOf cX5_kindOf 2 (some .int) 1 0 0 (fun _ => True) [.ref 0, .int p0] [.inr (5, [.ref 1, .ref 2, .ref 3, .ref 4, .int r_count, .int (qb r_changed)]), .inl (0, 30, .inl r_kinds), .inl (0, 30, .inl r_whole), .inl (0, 210, .inl r_marks), .inl (0, 6, .inl r_rules)] (F_X5_kindOf r_kinds r_count p0) (P_X5_kindOf r_kinds r_whole r_marks r_rules r_count r_changed) := by
  refine QM.of (by decide +kernel) (Nat.le_of_ble_eq_true rfl) ?_
  rintro X ad hX _ _ _ _
  refine QG.aload_n hX (qd K_X5_kindOf 0 rfl) rfl rfl ?_
  refine QG.iload_n hX (qd K_X5_kindOf 1 rfl) rfl rfl ?_
  refine QG.callV0 (rest := []) hX cw_X5_36 (M_X5_has X.l r_kinds r_whole r_marks r_rules r_count r_changed p0) trivial (by decide) (by decide) (qd K_X5_kindOf 2 rfl) rfl ⟨Nat.zero_le _, Nat.zero_le _⟩ rfl rfl rfl rfl (Nat.le_of_ble_eq_true rfl) (fun _ => rfl) (fun c2 => ?_)
  show QG X 2 _ _ 5 _ [.int (qb c2)] [.inr (5, [.ref 1, .ref 2, .ref 3, .ref 4, .int r_count, .int (qb r_changed)]), .inl (0, 30, .inl r_kinds), .inl (0, 30, .inl r_whole), .inl (0, 210, .inl r_marks), .inl (0, 6, .inl r_rules)] ad 0 0
  refine QG.if_eq (tgt := 17) hX (qd K_X5_kindOf 3 rfl) rfl (by decide) ?_ ?_
  · refine QG.iconst hX (qd K_X5_kindOf 9 rfl) rfl ki_m1 ?_
    exact QG.iret hX (qd K_X5_kindOf 10 rfl) rfl rfl (fun _ _ => rfl)
  · refine QG.aload_n hX (qd K_X5_kindOf 4 rfl) rfl rfl ?_
    refine QG.getf hX fl_X5_9 (qd K_X5_kindOf 5 rfl) rfl rfl rfl ?_
    refine QG.iload_n hX (qd K_X5_kindOf 6 rfl) rfl rfl ?_
    refine QG.iald hX (qd K_X5_kindOf 7 rfl) rfl rfl ?_
    refine QG.goto (tgt := 18) hX (qd K_X5_kindOf 8 rfl) rfl (by decide) ?_
    exact QG.iret hX (qd K_X5_kindOf 10 rfl) rfl rfl (fun _ _ => rfl)

def P_X5_markOf (r_kinds : Nat → Int32) (r_whole : Nat → Int32) (r_marks : Nat → Int32) (r_rules : Nat → Int32) (r_count : Int32) (r_changed : Bool) : Int32 → Option Value × List AC := fun z => (some (.int z), [.inr (5, [.ref 1, .ref 2, .ref 3, .ref 4, .int r_count, .int (qb r_changed)]), .inl (0, 30, .inl r_kinds), .inl (0, 30, .inl r_whole), .inl (0, 210, .inl r_marks), .inl (0, 6, .inl r_rules)])
set_option maxRecDepth 100000 in
theorem M_X5_markOf (l : Launch)  (r_kinds : Nat → Int32) (r_whole : Nat → Int32) (r_marks : Nat → Int32) (r_rules : Nat → Int32) (r_count : Int32) (r_changed : Bool) (p0 : Int32) (p1 : Int32) : QM l yX5_markOf cX5_markOf 3 (some .int) 1 0 0 (fun _ => True) [.ref 0, .int p0, .int p1] [.inr (5, [.ref 1, .ref 2, .ref 3, .ref 4, .int r_count, .int (qb r_changed)]), .inl (0, 30, .inl r_kinds), .inl (0, 30, .inl r_whole), .inl (0, 210, .inl r_marks), .inl (0, 6, .inl r_rules)] (F_X5_markOf r_marks r_count p0 p1) (P_X5_markOf r_kinds r_whole r_marks r_rules r_count r_changed) := by
  refine QM.of (by decide +kernel) (Nat.le_of_ble_eq_true rfl) ?_
  rintro X ad hX _ _ _ _
  refine QG.aload_n hX (qd K_X5_markOf 0 rfl) rfl rfl ?_
  refine QG.iload_n hX (qd K_X5_markOf 1 rfl) rfl rfl ?_
  refine QG.callV0 (rest := []) hX cw_X5_36 (M_X5_has X.l r_kinds r_whole r_marks r_rules r_count r_changed p0) trivial (by decide) (by decide) (qd K_X5_markOf 2 rfl) rfl ⟨Nat.zero_le _, Nat.zero_le _⟩ rfl rfl rfl rfl (Nat.le_of_ble_eq_true rfl) (fun _ => rfl) (fun c2 => ?_)
  show QG X 3 _ _ 5 _ [.int (qb c2)] [.inr (5, [.ref 1, .ref 2, .ref 3, .ref 4, .int r_count, .int (qb r_changed)]), .inl (0, 30, .inl r_kinds), .inl (0, 30, .inl r_whole), .inl (0, 210, .inl r_marks), .inl (0, 6, .inl r_rules)] ad 0 0
  refine QG.if_eq (tgt := 32) hX (qd K_X5_markOf 3 rfl) rfl (by decide) ?_ ?_
  · refine QG.iconst hX (qd K_X5_markOf 18 rfl) rfl ki_m1 ?_
    exact QG.iret hX (qd K_X5_markOf 19 rfl) rfl rfl (fun _ _ => rfl)
  · refine QG.iload_n hX (qd K_X5_markOf 4 rfl) rfl rfl ?_
    refine QG.if_lt (tgt := 32) hX (qd K_X5_markOf 5 rfl) rfl (by decide) ?_ ?_
    · refine QG.iconst hX (qd K_X5_markOf 18 rfl) rfl ki_m1 ?_
      exact QG.iret hX (qd K_X5_markOf 19 rfl) rfl rfl (fun _ _ => rfl)
    · refine QG.iload_n hX (qd K_X5_markOf 6 rfl) rfl rfl ?_
      refine QG.bipush hX (qd K_X5_markOf 7 rfl) rfl kb_7 ?_
      refine QG.icmp_ge (tgt := 32) hX (qd K_X5_markOf 8 rfl) rfl (by decide) ?_ ?_
      · refine QG.iconst hX (qd K_X5_markOf 18 rfl) rfl ki_m1 ?_
        exact QG.iret hX (qd K_X5_markOf 19 rfl) rfl rfl (fun _ _ => rfl)
      · refine QG.aload_n hX (qd K_X5_markOf 9 rfl) rfl rfl ?_
        refine QG.getf hX fl_X5_18 (qd K_X5_markOf 10 rfl) rfl rfl rfl ?_
        refine QG.iload_n hX (qd K_X5_markOf 11 rfl) rfl rfl ?_
        refine QG.bipush hX (qd K_X5_markOf 12 rfl) rfl kb_7 ?_
        refine QG.imul hX (qd K_X5_markOf 13 rfl) rfl ?_
        refine QG.iload_n hX (qd K_X5_markOf 14 rfl) rfl rfl ?_
        refine QG.iadd hX (qd K_X5_markOf 15 rfl) rfl ?_
        refine QG.iald hX (qd K_X5_markOf 16 rfl) rfl rfl ?_
        refine QG.goto (tgt := 33) hX (qd K_X5_markOf 17 rfl) rfl (by decide) ?_
        exact QG.iret hX (qd K_X5_markOf 19 rfl) rfl rfl (fun _ _ => rfl)

def P_J6_numberOfTrailingZeros_0f7a4 : Int32 → Option Value × List AC := fun z => (some (.int z), [])
set_option maxRecDepth 100000 in
theorem G_J6_numberOfTrailingZeros_0f7a4_b62 (X : QX) (hX : qok X cJ6_numberOfTrailingZeros_0f7a4 RJ6 2 (some .int) 0) (ad : Nat → Nat) (x0 : Int32) (x1 : Int32) : QG X 2 (qQ X ad 0 (P_J6_numberOfTrailingZeros_0f7a4) 0 0) (F_J6_numberOfTrailingZeros_0f7a4_b62 x0 x1) 62 [(0, .int x0), (1, .int x1)] [] [] ad 0 0 := by
  refine QG.iload_n hX (qd K_J6_numberOfTrailingZeros_0f7a4 40 rfl) rfl rfl ?_
  refine QG.iconst hX (qd K_J6_numberOfTrailingZeros_0f7a4 41 rfl) rfl ki_4 ?_
  refine QG.icmp_le (tgt := 74) hX (qd K_J6_numberOfTrailingZeros_0f7a4 42 rfl) rfl (by decide) ?_ ?_
  · refine QG.iload_n hX (qd K_J6_numberOfTrailingZeros_0f7a4 48 rfl) rfl rfl ?_
    refine QG.iload_n hX (qd K_J6_numberOfTrailingZeros_0f7a4 49 rfl) rfl rfl ?_
    refine QG.iconst hX (qd K_J6_numberOfTrailingZeros_0f7a4 50 rfl) rfl ki_1 ?_
    refine QG.iushr hX (qd K_J6_numberOfTrailingZeros_0f7a4 51 rfl) rfl ?_
    refine QG.iadd hX (qd K_J6_numberOfTrailingZeros_0f7a4 52 rfl) rfl ?_
    exact QG.iret hX (qd K_J6_numberOfTrailingZeros_0f7a4 53 rfl) rfl rfl (fun _ _ => rfl)
  · refine QG.iinc (lv' := [(1, .int (x1 + 2)), (0, .int x0)]) hX (qd K_J6_numberOfTrailingZeros_0f7a4 43 rfl) rfl (by decide) rfl ki_2 rfl ?_
    refine QG.iload_n hX (qd K_J6_numberOfTrailingZeros_0f7a4 44 rfl) rfl rfl ?_
    refine QG.iconst hX (qd K_J6_numberOfTrailingZeros_0f7a4 45 rfl) rfl ki_2 ?_
    refine QG.iushr hX (qd K_J6_numberOfTrailingZeros_0f7a4 46 rfl) rfl ?_
    refine QG.istore_n (lv' := [(0, .int ((x0.toUInt32 >>> ((2 : Int32).toUInt32 &&& Int32.toUInt32 31)).toInt32)), (1, .int (x1 + 2))]) hX (qd K_J6_numberOfTrailingZeros_0f7a4 47 rfl) rfl (by decide) rfl ?_
    refine QG.iload_n hX (qd K_J6_numberOfTrailingZeros_0f7a4 48 rfl) rfl rfl ?_
    refine QG.iload_n hX (qd K_J6_numberOfTrailingZeros_0f7a4 49 rfl) rfl rfl ?_
    refine QG.iconst hX (qd K_J6_numberOfTrailingZeros_0f7a4 50 rfl) rfl ki_1 ?_
    refine QG.iushr hX (qd K_J6_numberOfTrailingZeros_0f7a4 51 rfl) rfl ?_
    refine QG.iadd hX (qd K_J6_numberOfTrailingZeros_0f7a4 52 rfl) rfl ?_
    exact QG.iret hX (qd K_J6_numberOfTrailingZeros_0f7a4 53 rfl) rfl rfl (fun _ _ => rfl)

set_option maxRecDepth 100000 in
theorem G_J6_numberOfTrailingZeros_0f7a4_b49 (X : QX) (hX : qok X cJ6_numberOfTrailingZeros_0f7a4 RJ6 2 (some .int) 0) (ad : Nat → Nat) (x0 : Int32) (x1 : Int32) : QG X 2 (qQ X ad 0 (P_J6_numberOfTrailingZeros_0f7a4) 0 0) (F_J6_numberOfTrailingZeros_0f7a4_b49 x0 x1) 49 [(0, .int x0), (1, .int x1)] [] [] ad 0 0 := by
  refine QG.iload_n hX (qd K_J6_numberOfTrailingZeros_0f7a4 32 rfl) rfl rfl ?_
  refine QG.bipush hX (qd K_J6_numberOfTrailingZeros_0f7a4 33 rfl) rfl kb_16 ?_
  refine QG.icmp_le (tgt := 62) hX (qd K_J6_numberOfTrailingZeros_0f7a4 34 rfl) rfl (by decide) ?_ ?_
  · exact QG.jmp (lv' := [(0, .int x0), (1, .int x1)]) rfl (G_J6_numberOfTrailingZeros_0f7a4_b62 X hX ad x0 x1)
  · refine QG.iinc (lv' := [(1, .int (x1 + 4)), (0, .int x0)]) hX (qd K_J6_numberOfTrailingZeros_0f7a4 35 rfl) rfl (by decide) rfl ki_4 rfl ?_
    refine QG.iload_n hX (qd K_J6_numberOfTrailingZeros_0f7a4 36 rfl) rfl rfl ?_
    refine QG.iconst hX (qd K_J6_numberOfTrailingZeros_0f7a4 37 rfl) rfl ki_4 ?_
    refine QG.iushr hX (qd K_J6_numberOfTrailingZeros_0f7a4 38 rfl) rfl ?_
    refine QG.istore_n (lv' := [(0, .int ((x0.toUInt32 >>> ((4 : Int32).toUInt32 &&& Int32.toUInt32 31)).toInt32)), (1, .int (x1 + 4))]) hX (qd K_J6_numberOfTrailingZeros_0f7a4 39 rfl) rfl (by decide) rfl ?_
    exact QG.jmp (lv' := [(0, .int ((x0.toUInt32 >>> ((4 : Int32).toUInt32 &&& Int32.toUInt32 31)).toInt32)), (1, .int (x1 + 4))]) rfl (G_J6_numberOfTrailingZeros_0f7a4_b62 X hX ad ((x0.toUInt32 >>> ((4 : Int32).toUInt32 &&& Int32.toUInt32 31)).toInt32) (x1 + 4))

set_option maxRecDepth 100000 in
theorem G_J6_numberOfTrailingZeros_0f7a4_b34 (X : QX) (hX : qok X cJ6_numberOfTrailingZeros_0f7a4 RJ6 2 (some .int) 0) (ad : Nat → Nat) (x0 : Int32) (x1 : Int32) : QG X 2 (qQ X ad 0 (P_J6_numberOfTrailingZeros_0f7a4) 0 0) (F_J6_numberOfTrailingZeros_0f7a4_b34 x0 x1) 34 [(0, .int x0), (1, .int x1)] [] [] ad 0 0 := by
  refine QG.iload_n hX (qd K_J6_numberOfTrailingZeros_0f7a4 24 rfl) rfl rfl ?_
  refine QG.sipush hX (qd K_J6_numberOfTrailingZeros_0f7a4 25 rfl) rfl ks_256 ?_
  refine QG.icmp_le (tgt := 49) hX (qd K_J6_numberOfTrailingZeros_0f7a4 26 rfl) rfl (by decide) ?_ ?_
  · exact QG.jmp (lv' := [(0, .int x0), (1, .int x1)]) rfl (G_J6_numberOfTrailingZeros_0f7a4_b49 X hX ad x0 x1)
  · refine QG.iinc (lv' := [(1, .int (x1 + 8)), (0, .int x0)]) hX (qd K_J6_numberOfTrailingZeros_0f7a4 27 rfl) rfl (by decide) rfl ki_8 rfl ?_
    refine QG.iload_n hX (qd K_J6_numberOfTrailingZeros_0f7a4 28 rfl) rfl rfl ?_
    refine QG.bipush hX (qd K_J6_numberOfTrailingZeros_0f7a4 29 rfl) rfl kb_8 ?_
    refine QG.iushr hX (qd K_J6_numberOfTrailingZeros_0f7a4 30 rfl) rfl ?_
    refine QG.istore_n (lv' := [(0, .int ((x0.toUInt32 >>> ((8 : Int32).toUInt32 &&& Int32.toUInt32 31)).toInt32)), (1, .int (x1 + 8))]) hX (qd K_J6_numberOfTrailingZeros_0f7a4 31 rfl) rfl (by decide) rfl ?_
    exact QG.jmp (lv' := [(0, .int ((x0.toUInt32 >>> ((8 : Int32).toUInt32 &&& Int32.toUInt32 31)).toInt32)), (1, .int (x1 + 8))]) rfl (G_J6_numberOfTrailingZeros_0f7a4_b49 X hX ad ((x0.toUInt32 >>> ((8 : Int32).toUInt32 &&& Int32.toUInt32 31)).toInt32) (x1 + 8))

set_option maxRecDepth 100000 in
theorem M_J6_numberOfTrailingZeros_0f7a4 (l : Launch)  (p0 : Int32) : QM l yJ6_numberOfTrailingZeros_0f7a4 cJ6_numberOfTrailingZeros_0f7a4 2 (some .int) 0 0 0 (fun _ => True) [.int p0] [] (F_J6_numberOfTrailingZeros_0f7a4 p0) (P_J6_numberOfTrailingZeros_0f7a4) := by
  refine QM.of (by decide +kernel) (Nat.le_of_ble_eq_true rfl) ?_
  rintro X ad hX _ _ _ _
  refine QG.iload_n hX (qd K_J6_numberOfTrailingZeros_0f7a4 0 rfl) rfl rfl ?_
  refine QG.iconst hX (qd K_J6_numberOfTrailingZeros_0f7a4 1 rfl) rfl ki_m1 ?_
  refine QG.ixor hX (qd K_J6_numberOfTrailingZeros_0f7a4 2 rfl) rfl ?_
  refine QG.iload_n hX (qd K_J6_numberOfTrailingZeros_0f7a4 3 rfl) rfl rfl ?_
  refine QG.iconst hX (qd K_J6_numberOfTrailingZeros_0f7a4 4 rfl) rfl ki_1 ?_
  refine QG.isub hX (qd K_J6_numberOfTrailingZeros_0f7a4 5 rfl) rfl ?_
  refine QG.iand hX (qd K_J6_numberOfTrailingZeros_0f7a4 6 rfl) rfl ?_
  refine QG.istore_n (lv' := [(0, .int ((p0 ^^^ (-1)) &&& (p0 - 1)))]) hX (qd K_J6_numberOfTrailingZeros_0f7a4 7 rfl) rfl (by decide) rfl ?_
  refine QG.iload_n hX (qd K_J6_numberOfTrailingZeros_0f7a4 8 rfl) rfl rfl ?_
  refine QG.if_gt (tgt := 17) hX (qd K_J6_numberOfTrailingZeros_0f7a4 9 rfl) rfl (by decide) ?_ ?_
  · refine QG.iconst hX (qd K_J6_numberOfTrailingZeros_0f7a4 14 rfl) rfl ki_1 ?_
    refine QG.istore_n (lv' := [(1, .int 1), (0, .int ((p0 ^^^ (-1)) &&& (p0 - 1)))]) hX (qd K_J6_numberOfTrailingZeros_0f7a4 15 rfl) rfl (by decide) rfl ?_
    refine QG.iload_n hX (qd K_J6_numberOfTrailingZeros_0f7a4 16 rfl) rfl rfl ?_
    refine QG.ldcw hX kc_J6_264 (qd K_J6_numberOfTrailingZeros_0f7a4 17 rfl) rfl ?_
    refine QG.icmp_le (tgt := 34) hX (qd K_J6_numberOfTrailingZeros_0f7a4 18 rfl) rfl (by decide) ?_ ?_
    · exact QG.jmp (lv' := [(0, .int ((p0 ^^^ (-1)) &&& (p0 - 1))), (1, .int 1)]) rfl (G_J6_numberOfTrailingZeros_0f7a4_b34 X hX ad ((p0 ^^^ (-1)) &&& (p0 - 1)) 1)
    · refine QG.iinc (lv' := [(1, .int (1 + 16)), (0, .int ((p0 ^^^ (-1)) &&& (p0 - 1)))]) hX (qd K_J6_numberOfTrailingZeros_0f7a4 19 rfl) rfl (by decide) rfl ki_16 rfl ?_
      refine QG.iload_n hX (qd K_J6_numberOfTrailingZeros_0f7a4 20 rfl) rfl rfl ?_
      refine QG.bipush hX (qd K_J6_numberOfTrailingZeros_0f7a4 21 rfl) rfl kb_16 ?_
      refine QG.iushr hX (qd K_J6_numberOfTrailingZeros_0f7a4 22 rfl) rfl ?_
      refine QG.istore_n (lv' := [(0, .int ((((p0 ^^^ (-1)) &&& (p0 - 1)).toUInt32 >>> ((16 : Int32).toUInt32 &&& Int32.toUInt32 31)).toInt32)), (1, .int (1 + 16))]) hX (qd K_J6_numberOfTrailingZeros_0f7a4 23 rfl) rfl (by decide) rfl ?_
      exact QG.jmp (lv' := [(0, .int ((((p0 ^^^ (-1)) &&& (p0 - 1)).toUInt32 >>> ((16 : Int32).toUInt32 &&& Int32.toUInt32 31)).toInt32)), (1, .int (1 + 16))]) rfl (G_J6_numberOfTrailingZeros_0f7a4_b34 X hX ad ((((p0 ^^^ (-1)) &&& (p0 - 1)).toUInt32 >>> ((16 : Int32).toUInt32 &&& Int32.toUInt32 31)).toInt32) (1 + 16))
  · refine QG.iload_n hX (qd K_J6_numberOfTrailingZeros_0f7a4 10 rfl) rfl rfl ?_
    refine QG.bipush hX (qd K_J6_numberOfTrailingZeros_0f7a4 11 rfl) rfl kb_32 ?_
    refine QG.iand hX (qd K_J6_numberOfTrailingZeros_0f7a4 12 rfl) rfl ?_
    exact QG.iret hX (qd K_J6_numberOfTrailingZeros_0f7a4 13 rfl) rfl rfl (fun _ _ => rfl)

def P_X7_together : Int32 → Option Value × List AC := fun z => (some (.int z), [])
set_option maxRecDepth 100000 in
theorem M_X7_together (l : Launch)  (p0 : Int32) (p1 : Int32) : QM l yX7_together cX7_together 2 (some .int) 0 0 0 (fun _ => True) [.int p0, .int p1] [] (F_X7_together p0 p1) (P_X7_together) := by
  refine QM.of (by decide +kernel) (Nat.le_of_ble_eq_true rfl) ?_
  rintro X ad hX _ _ _ _
  refine QG.iload_n hX (qd K_X7_together 0 rfl) rfl rfl ?_
  refine QG.iconst hX (qd K_X7_together 1 rfl) rfl ki_m1 ?_
  refine QG.icmp_eq (tgt := 10) hX (qd K_X7_together 2 rfl) rfl (by decide) ?_ ?_
  · refine QG.iload_n hX (qd K_X7_together 6 rfl) rfl rfl ?_
    exact QG.iret hX (qd K_X7_together 7 rfl) rfl rfl (fun _ _ => rfl)
  · refine QG.iload_n hX (qd K_X7_together 3 rfl) rfl rfl ?_
    refine QG.iload_n hX (qd K_X7_together 4 rfl) rfl rfl ?_
    refine QG.icmp_ne (tgt := 12) hX (qd K_X7_together 5 rfl) rfl (by decide) ?_ ?_
    · refine QG.iload_n hX (qd K_X7_together 8 rfl) rfl rfl ?_
      refine QG.iconst hX (qd K_X7_together 9 rfl) rfl ki_m1 ?_
      refine QG.icmp_ne (tgt := 21) hX (qd K_X7_together 10 rfl) rfl (by decide) ?_ ?_
      · refine QG.bipush hX (qd K_X7_together 13 rfl) rfl kb_m2 ?_
        exact QG.iret hX (qd K_X7_together 14 rfl) rfl rfl (fun _ _ => rfl)
      · refine QG.iload_n hX (qd K_X7_together 11 rfl) rfl rfl ?_
        refine QG.goto (tgt := 23) hX (qd K_X7_together 12 rfl) rfl (by decide) ?_
        exact QG.iret hX (qd K_X7_together 14 rfl) rfl rfl (fun _ _ => rfl)
    · refine QG.iload_n hX (qd K_X7_together 6 rfl) rfl rfl ?_
      exact QG.iret hX (qd K_X7_together 7 rfl) rfl rfl (fun _ _ => rfl)

def P_X5_hangs (r_kinds : Nat → Int32) (r_whole : Nat → Int32) (r_marks : Nat → Int32) (r_rules : Nat → Int32) (r_count : Int32) (r_changed : Bool) : Bool → Option Value × List AC := fun z => (some (.int (qb z)), [.inr (5, [.ref 1, .ref 2, .ref 3, .ref 4, .int r_count, .int (qb r_changed)]), .inl (0, 30, .inl r_kinds), .inl (0, 30, .inl r_whole), .inl (0, 210, .inl r_marks), .inl (0, 6, .inl r_rules)])
set_option maxRecDepth 100000 in
theorem M_X5_hangs (l : Launch)  (r_kinds : Nat → Int32) (r_whole : Nat → Int32) (r_marks : Nat → Int32) (r_rules : Nat → Int32) (r_count : Int32) (r_changed : Bool) (p0 : Int32) : QM l yX5_hangs cX5_hangs 2 (some .boolean) 1 0 0 (fun _ => True) [.ref 0, .int p0] [.inr (5, [.ref 1, .ref 2, .ref 3, .ref 4, .int r_count, .int (qb r_changed)]), .inl (0, 30, .inl r_kinds), .inl (0, 30, .inl r_whole), .inl (0, 210, .inl r_marks), .inl (0, 6, .inl r_rules)] (F_X5_hangs r_kinds r_count p0) (P_X5_hangs r_kinds r_whole r_marks r_rules r_count r_changed) := by
  refine QM.of (by decide +kernel) (Nat.le_of_ble_eq_true rfl) ?_
  rintro X ad hX _ _ _ _
  refine QG.aload_n hX (qd K_X5_hangs 0 rfl) rfl rfl ?_
  refine QG.iload_n hX (qd K_X5_hangs 1 rfl) rfl rfl ?_
  refine QG.callV0 (rest := []) hX cw_X5_36 (M_X5_has X.l r_kinds r_whole r_marks r_rules r_count r_changed p0) trivial (by decide) (by decide) (qd K_X5_hangs 2 rfl) rfl ⟨Nat.zero_le _, Nat.zero_le _⟩ rfl rfl rfl rfl (Nat.le_of_ble_eq_true rfl) (fun _ => rfl) (fun c2 => ?_)
  show QG X 2 _ _ 5 _ [.int (qb c2)] [.inr (5, [.ref 1, .ref 2, .ref 3, .ref 4, .int r_count, .int (qb r_changed)]), .inl (0, 30, .inl r_kinds), .inl (0, 30, .inl r_whole), .inl (0, 210, .inl r_marks), .inl (0, 6, .inl r_rules)] ad 0 0
  refine QG.if_eq (tgt := 24) hX (qd K_X5_hangs 3 rfl) rfl (by decide) ?_ ?_
  · refine QG.iconst hX (qd K_X5_hangs 12 rfl) rfl ki_0 ?_
    exact QG.zret hX (qd K_X5_hangs 13 rfl) rfl (qb_nar false) rfl (fun _ _ => rfl)
  · refine QG.aload_n hX (qd K_X5_hangs 4 rfl) rfl rfl ?_
    refine QG.getf hX fl_X5_9 (qd K_X5_hangs 5 rfl) rfl rfl rfl ?_
    refine QG.iload_n hX (qd K_X5_hangs 6 rfl) rfl rfl ?_
    refine QG.iald hX (qd K_X5_hangs 7 rfl) rfl rfl ?_
    refine QG.callN (rest := []) [] hX cw_X5_55 (M_X7_isHanging X.l (r_kinds p0.toNatClampNeg)) trivial (by decide) (by decide) (qd K_X5_hangs 8 rfl) rfl ⟨Nat.zero_le _, Nat.zero_le _⟩ rfl rfl (Nat.le_of_ble_eq_true rfl) rfl rfl (fun _ => rfl) (fun c14 => ?_)
    show QG X 2 _ _ 17 _ [.int (qb c14)] [.inr (5, [.ref 1, .ref 2, .ref 3, .ref 4, .int r_count, .int (qb r_changed)]), .inl (0, 30, .inl r_kinds), .inl (0, 30, .inl r_whole), .inl (0, 210, .inl r_marks), .inl (0, 6, .inl r_rules)] ad 0 0
    refine QG.if_eq (tgt := 24) hX (qd K_X5_hangs 9 rfl) rfl (by decide) ?_ ?_
    · refine QG.iconst hX (qd K_X5_hangs 12 rfl) rfl ki_0 ?_
      exact QG.zret hX (qd K_X5_hangs 13 rfl) rfl (qb_nar false) rfl (fun _ _ => rfl)
    · refine QG.iconst hX (qd K_X5_hangs 10 rfl) rfl ki_1 ?_
      refine QG.goto (tgt := 25) hX (qd K_X5_hangs 11 rfl) rfl (by decide) ?_
      exact QG.zret hX (qd K_X5_hangs 13 rfl) rfl (qb_nar true) rfl (fun _ _ => rfl)

def P_X5_isCancelled (r_kinds : Nat → Int32) (r_whole : Nat → Int32) (r_marks : Nat → Int32) (r_rules : Nat → Int32) (r_count : Int32) (r_changed : Bool) : Bool → Option Value × List AC := fun z => (some (.int (qb z)), [.inr (5, [.ref 1, .ref 2, .ref 3, .ref 4, .int r_count, .int (qb r_changed)]), .inl (0, 30, .inl r_kinds), .inl (0, 30, .inl r_whole), .inl (0, 210, .inl r_marks), .inl (0, 6, .inl r_rules)])
set_option maxRecDepth 100000 in
theorem M_X5_isCancelled (l : Launch)  (r_kinds : Nat → Int32) (r_whole : Nat → Int32) (r_marks : Nat → Int32) (r_rules : Nat → Int32) (r_count : Int32) (r_changed : Bool) (p0 : Int32) : QM l yX5_isCancelled cX5_isCancelled 2 (some .boolean) 1 0 0 (fun _ => True) [.ref 0, .int p0] [.inr (5, [.ref 1, .ref 2, .ref 3, .ref 4, .int r_count, .int (qb r_changed)]), .inl (0, 30, .inl r_kinds), .inl (0, 30, .inl r_whole), .inl (0, 210, .inl r_marks), .inl (0, 6, .inl r_rules)] (F_X5_isCancelled r_kinds r_count p0) (P_X5_isCancelled r_kinds r_whole r_marks r_rules r_count r_changed) := by
  refine QM.of (by decide +kernel) (Nat.le_of_ble_eq_true rfl) ?_
  rintro X ad hX _ _ _ _
  refine QG.aload_n hX (qd K_X5_isCancelled 0 rfl) rfl rfl ?_
  refine QG.iload_n hX (qd K_X5_isCancelled 1 rfl) rfl rfl ?_
  refine QG.callV0 (rest := []) hX cw_X5_36 (M_X5_has X.l r_kinds r_whole r_marks r_rules r_count r_changed p0) trivial (by decide) (by decide) (qd K_X5_isCancelled 2 rfl) rfl ⟨Nat.zero_le _, Nat.zero_le _⟩ rfl rfl rfl rfl (Nat.le_of_ble_eq_true rfl) (fun _ => rfl) (fun c2 => ?_)
  show QG X 2 _ _ 5 _ [.int (qb c2)] [.inr (5, [.ref 1, .ref 2, .ref 3, .ref 4, .int r_count, .int (qb r_changed)]), .inl (0, 30, .inl r_kinds), .inl (0, 30, .inl r_whole), .inl (0, 210, .inl r_marks), .inl (0, 6, .inl r_rules)] ad 0 0
  refine QG.if_eq (tgt := 44) hX (qd K_X5_isCancelled 3 rfl) rfl (by decide) ?_ ?_
  · refine QG.iconst hX (qd K_X5_isCancelled 26 rfl) rfl ki_0 ?_
    exact QG.zret hX (qd K_X5_isCancelled 27 rfl) rfl (qb_nar false) rfl (fun _ _ => rfl)
  · refine QG.aload_n hX (qd K_X5_isCancelled 4 rfl) rfl rfl ?_
    refine QG.iload_n hX (qd K_X5_isCancelled 5 rfl) rfl rfl ?_
    refine QG.iconst hX (qd K_X5_isCancelled 6 rfl) rfl ki_1 ?_
    refine QG.iadd hX (qd K_X5_isCancelled 7 rfl) rfl ?_
    refine QG.callV0 (rest := []) hX cw_X5_36 (M_X5_has X.l r_kinds r_whole r_marks r_rules r_count r_changed (p0 + 1)) trivial (by decide) (by decide) (qd K_X5_isCancelled 8 rfl) rfl ⟨Nat.zero_le _, Nat.zero_le _⟩ rfl rfl rfl rfl (Nat.le_of_ble_eq_true rfl) (fun _ => rfl) (fun c12 => ?_)
    show QG X 2 _ _ 15 _ [.int (qb c12)] [.inr (5, [.ref 1, .ref 2, .ref 3, .ref 4, .int r_count, .int (qb r_changed)]), .inl (0, 30, .inl r_kinds), .inl (0, 30, .inl r_whole), .inl (0, 210, .inl r_marks), .inl (0, 6, .inl r_rules)] ad 0 0
    refine QG.if_eq (tgt := 44) hX (qd K_X5_isCancelled 9 rfl) rfl (by decide) ?_ ?_
    · refine QG.iconst hX (qd K_X5_isCancelled 26 rfl) rfl ki_0 ?_
      exact QG.zret hX (qd K_X5_isCancelled 27 rfl) rfl (qb_nar false) rfl (fun _ _ => rfl)
    · refine QG.aload_n hX (qd K_X5_isCancelled 10 rfl) rfl rfl ?_
      refine QG.getf hX fl_X5_9 (qd K_X5_isCancelled 11 rfl) rfl rfl rfl ?_
      refine QG.iload_n hX (qd K_X5_isCancelled 12 rfl) rfl rfl ?_
      refine QG.iald hX (qd K_X5_isCancelled 13 rfl) rfl rfl ?_
      refine QG.iconst hX (qd K_X5_isCancelled 14 rfl) rfl ki_2 ?_
      refine QG.icmp_ne (tgt := 44) hX (qd K_X5_isCancelled 15 rfl) rfl (by decide) ?_ ?_
      · refine QG.iconst hX (qd K_X5_isCancelled 26 rfl) rfl ki_0 ?_
        exact QG.zret hX (qd K_X5_isCancelled 27 rfl) rfl (qb_nar false) rfl (fun _ _ => rfl)
      · refine QG.aload_n hX (qd K_X5_isCancelled 16 rfl) rfl rfl ?_
        refine QG.getf hX fl_X5_9 (qd K_X5_isCancelled 17 rfl) rfl rfl rfl ?_
        refine QG.iload_n hX (qd K_X5_isCancelled 18 rfl) rfl rfl ?_
        refine QG.iconst hX (qd K_X5_isCancelled 19 rfl) rfl ki_1 ?_
        refine QG.iadd hX (qd K_X5_isCancelled 20 rfl) rfl ?_
        refine QG.iald hX (qd K_X5_isCancelled 21 rfl) rfl rfl ?_
        refine QG.iconst hX (qd K_X5_isCancelled 22 rfl) rfl ki_4 ?_
        refine QG.icmp_ne (tgt := 44) hX (qd K_X5_isCancelled 23 rfl) rfl (by decide) ?_ ?_
        · refine QG.iconst hX (qd K_X5_isCancelled 26 rfl) rfl ki_0 ?_
          exact QG.zret hX (qd K_X5_isCancelled 27 rfl) rfl (qb_nar false) rfl (fun _ _ => rfl)
        · refine QG.iconst hX (qd K_X5_isCancelled 24 rfl) rfl ki_1 ?_
          refine QG.goto (tgt := 45) hX (qd K_X5_isCancelled 25 rfl) rfl (by decide) ?_
          exact QG.zret hX (qd K_X5_isCancelled 27 rfl) rfl (qb_nar true) rfl (fun _ _ => rfl)

def P_X5_shift (r_rules : Nat → Int32) (r_count : Int32) (r_changed : Bool) : (Nat → Int32) × (Nat → Int32) × (Nat → Int32) → Option Value × List AC := fun z => (none, [.inr (5, [.ref 1, .ref 2, .ref 3, .ref 4, .int r_count, .int (qb r_changed)]), .inl (0, 30, .inl z.1), .inl (0, 30, .inl z.2.1), .inl (0, 210, .inl z.2.2), .inl (0, 6, .inl r_rules)])
set_option maxRecDepth 100000 in
theorem M_X5_shift (l : Launch)  (r_kinds : Nat → Int32) (r_whole : Nat → Int32) (r_marks : Nat → Int32) (r_rules : Nat → Int32) (r_count : Int32) (r_changed : Bool) (p0 : Int32) (p1 : Int32) : QM l yX5_shift cX5_shift 3 none 1 0 0 (fun _ => True) [.ref 0, .int p0, .int p1] [.inr (5, [.ref 1, .ref 2, .ref 3, .ref 4, .int r_count, .int (qb r_changed)]), .inl (0, 30, .inl r_kinds), .inl (0, 30, .inl r_whole), .inl (0, 210, .inl r_marks), .inl (0, 6, .inl r_rules)] (F_X5_shift r_kinds r_whole r_marks p0 p1) (P_X5_shift r_rules r_count r_changed) := by
  refine QM.of (by decide +kernel) (Nat.le_of_ble_eq_true rfl) ?_
  rintro X ad hX _ _ _ _
  refine QG.aload_n hX (qd K_X5_shift 0 rfl) rfl rfl ?_
  refine QG.getf hX fl_X5_9 (qd K_X5_shift 1 rfl) rfl rfl rfl ?_
  refine QG.iload_n hX (qd K_X5_shift 2 rfl) rfl rfl ?_
  refine QG.aload_n hX (qd K_X5_shift 3 rfl) rfl rfl ?_
  refine QG.getf hX fl_X5_9 (qd K_X5_shift 4 rfl) rfl rfl rfl ?_
  refine QG.iload_n hX (qd K_X5_shift 5 rfl) rfl rfl ?_
  refine QG.iald hX (qd K_X5_shift 6 rfl) rfl rfl ?_
  refine QG.iast (Wd' := [.inr (5, [.ref 1, .ref 2, .ref 3, .ref 4, .int r_count, .int (qb r_changed)]), .inl (0, 30, .inl (upd r_kinds p1.toNatClampNeg (r_kinds p0.toNatClampNeg))), .inl (0, 30, .inl r_whole), .inl (0, 210, .inl r_marks), .inl (0, 6, .inl r_rules)]) hX (qd K_X5_shift 7 rfl) rfl rfl rfl ?_
  refine QG.aload_n hX (qd K_X5_shift 8 rfl) rfl rfl ?_
  refine QG.getf hX fl_X5_15 (qd K_X5_shift 9 rfl) rfl rfl rfl ?_
  refine QG.iload_n hX (qd K_X5_shift 10 rfl) rfl rfl ?_
  refine QG.aload_n hX (qd K_X5_shift 11 rfl) rfl rfl ?_
  refine QG.getf hX fl_X5_15 (qd K_X5_shift 12 rfl) rfl rfl rfl ?_
  refine QG.iload_n hX (qd K_X5_shift 13 rfl) rfl rfl ?_
  refine QG.iald hX (qd K_X5_shift 14 rfl) rfl rfl ?_
  refine QG.iast (Wd' := [.inr (5, [.ref 1, .ref 2, .ref 3, .ref 4, .int r_count, .int (qb r_changed)]), .inl (0, 30, .inl (upd r_kinds p1.toNatClampNeg (r_kinds p0.toNatClampNeg))), .inl (0, 30, .inl (upd r_whole p1.toNatClampNeg (r_whole p0.toNatClampNeg))), .inl (0, 210, .inl r_marks), .inl (0, 6, .inl r_rules)]) hX (qd K_X5_shift 15 rfl) rfl rfl rfl ?_
  refine QG.aload_n hX (qd K_X5_shift 16 rfl) rfl rfl ?_
  refine QG.getf hX fl_X5_18 (qd K_X5_shift 17 rfl) rfl rfl rfl ?_
  refine QG.iload_n hX (qd K_X5_shift 18 rfl) rfl rfl ?_
  refine QG.bipush hX (qd K_X5_shift 19 rfl) rfl kb_7 ?_
  refine QG.imul hX (qd K_X5_shift 20 rfl) rfl ?_
  refine QG.aload_n hX (qd K_X5_shift 21 rfl) rfl rfl ?_
  refine QG.getf hX fl_X5_18 (qd K_X5_shift 22 rfl) rfl rfl rfl ?_
  refine QG.iload_n hX (qd K_X5_shift 23 rfl) rfl rfl ?_
  refine QG.bipush hX (qd K_X5_shift 24 rfl) rfl kb_7 ?_
  refine QG.imul hX (qd K_X5_shift 25 rfl) rfl ?_
  refine QG.bipush hX (qd K_X5_shift 26 rfl) rfl kb_7 ?_
  refine QG.acopy (Wd' := [.inr (5, [.ref 1, .ref 2, .ref 3, .ref 4, .int r_count, .int (qb r_changed)]), .inl (0, 30, .inl (upd r_kinds p1.toNatClampNeg (r_kinds p0.toNatClampNeg))), .inl (0, 30, .inl (upd r_whole p1.toNatClampNeg (r_whole p0.toNatClampNeg))), .inl (0, 210, .inl (va_cpy r_marks r_marks (p0 * 7).toNatClampNeg (p1 * 7).toNatClampNeg (7 : Int32).toNatClampNeg)), .inl (0, 6, .inl r_rules)]) hX cw_X5_40 (by decide) (qd K_X5_shift 27 rfl) rfl (Nat.le_of_ble_eq_true rfl) rfl rfl rfl ?_
  exact QG.vret hX (qd K_X5_shift 28 rfl) rfl rfl (fun _ _ => rfl)

def P_X5_insert (r_rules : Nat → Int32) : Int32 × (Nat → Int32) × (Nat → Int32) × (Nat → Int32) × Int32 × Bool → Option Value × List AC := fun z => (some (.int z.1), [.inr (5, [.ref 1, .ref 2, .ref 3, .ref 4, .int z.2.2.2.2.1, .int (qb z.2.2.2.2.2)]), .inl (0, 30, .inl z.2.1), .inl (0, 30, .inl z.2.2.1), .inl (0, 210, .inl z.2.2.2.1), .inl (0, 6, .inl r_rules)])
set_option maxRecDepth 100000 in
theorem G_X5_insert_b74 (X : QX) (hX : qok X cX5_insert RX5 4 (some .int) 2) (ad : Nat → Nat) (r_rules : Nat → Int32) : ∀ (n : Nat) (r_kinds : Nat → Int32) (r_whole : Nat → Int32) (r_marks : Nat → Int32) (r_count : Int32) (r_changed : Bool) (x1 : Int32) (x3 : Int32), QG X 4 (qQ X ad 5 (P_X5_insert r_rules) 0 0) (F_X5_insert_b74 n r_kinds r_whole r_marks r_count x1 x3) 74 [(0, .ref 0), (1, .int x1), (3, .int x3)] [] [.inr (5, [.ref 1, .ref 2, .ref 3, .ref 4, .int r_count, .int (qb r_changed)]), .inl (0, 30, .inl r_kinds), .inl (0, 30, .inl r_whole), .inl (0, 210, .inl r_marks), .inl (0, 6, .inl r_rules)] ad 0 0 := by
  intro n
  induction n with
  | zero => intros; exact QG.nothing
  | succ n ih =>
    intro r_kinds r_whole r_marks r_count r_changed x1 x3
    refine QG.iload_n hX (qd K_X5_insert 44 rfl) rfl rfl ?_
    refine QG.bipush hX (qd K_X5_insert 45 rfl) rfl kb_7 ?_
    refine QG.icmp_ge (tgt := 98) hX (qd K_X5_insert 46 rfl) rfl (by decide) ?_ ?_
    · refine QG.aload_n hX (qd K_X5_insert 58 rfl) rfl rfl ?_
      refine QG.dup hX (qd K_X5_insert 59 rfl) rfl rfl ?_
      refine QG.getf hX fl_X5_24 (qd K_X5_insert 60 rfl) rfl rfl rfl ?_
      refine QG.iconst hX (qd K_X5_insert 61 rfl) rfl ki_1 ?_
      refine QG.iadd hX (qd K_X5_insert 62 rfl) rfl ?_
      refine QG.putf (Wd' := [.inr (5, [.ref 1, .ref 2, .ref 3, .ref 4, .int (r_count + 1), .int (qb r_changed)]), .inl (0, 30, .inl r_kinds), .inl (0, 30, .inl r_whole), .inl (0, 210, .inl r_marks), .inl (0, 6, .inl r_rules)]) hX fl_X5_24 fp_5_4 (qd K_X5_insert 63 rfl) rfl rfl (Nat.le_of_ble_eq_true rfl) (qfit_i _) rfl ?_
      refine QG.aload_n hX (qd K_X5_insert 64 rfl) rfl rfl ?_
      refine QG.iconst hX (qd K_X5_insert 65 rfl) rfl ki_1 ?_
      refine QG.putf (Wd' := [.inr (5, [.ref 1, .ref 2, .ref 3, .ref 4, .int (r_count + 1), .int (qb true)]), .inl (0, 30, .inl r_kinds), .inl (0, 30, .inl r_whole), .inl (0, 210, .inl r_marks), .inl (0, 6, .inl r_rules)]) hX fl_X5_28 fp_5_5 (qd K_X5_insert 66 rfl) rfl rfl (Nat.le_of_ble_eq_true rfl) qfit_z1 rfl ?_
      refine QG.aload_n hX (qd K_X5_insert 67 rfl) rfl rfl ?_
      refine QG.getf hX fl_X5_24 (qd K_X5_insert 68 rfl) rfl rfl rfl ?_
      exact QG.iret hX (qd K_X5_insert 69 rfl) rfl rfl (fun _ _ => rfl)
    · refine QG.aload_n hX (qd K_X5_insert 47 rfl) rfl rfl ?_
      refine QG.getf hX fl_X5_18 (qd K_X5_insert 48 rfl) rfl rfl rfl ?_
      refine QG.iload_n hX (qd K_X5_insert 49 rfl) rfl rfl ?_
      refine QG.bipush hX (qd K_X5_insert 50 rfl) rfl kb_7 ?_
      refine QG.imul hX (qd K_X5_insert 51 rfl) rfl ?_
      refine QG.iload_n hX (qd K_X5_insert 52 rfl) rfl rfl ?_
      refine QG.iadd hX (qd K_X5_insert 53 rfl) rfl ?_
      refine QG.iconst hX (qd K_X5_insert 54 rfl) rfl ki_0 ?_
      refine QG.iast (Wd' := [.inr (5, [.ref 1, .ref 2, .ref 3, .ref 4, .int r_count, .int (qb r_changed)]), .inl (0, 30, .inl r_kinds), .inl (0, 30, .inl r_whole), .inl (0, 210, .inl (upd r_marks ((x1 * 7) + x3).toNatClampNeg 0)), .inl (0, 6, .inl r_rules)]) hX (qd K_X5_insert 55 rfl) rfl rfl rfl ?_
      refine QG.iinc (lv' := [(3, .int (x3 + 1)), (0, .ref 0), (1, .int x1)]) hX (qd K_X5_insert 56 rfl) rfl (by decide) rfl ki_1 rfl ?_
      refine QG.goto (tgt := 74) hX (qd K_X5_insert 57 rfl) rfl (by decide) ?_
      exact QG.jmp (lv' := [(0, .ref 0), (1, .int x1), (3, .int (x3 + 1))]) rfl (ih r_kinds r_whole (upd r_marks ((x1 * 7) + x3).toNatClampNeg 0) r_count r_changed x1 (x3 + 1))

set_option maxRecDepth 100000 in
theorem G_X5_insert_b38 (X : QX) (hX : qok X cX5_insert RX5 4 (some .int) 2) (ad : Nat → Nat) (r_rules : Nat → Int32) : ∀ (n : Nat) (r_kinds : Nat → Int32) (r_whole : Nat → Int32) (r_marks : Nat → Int32) (r_count : Int32) (r_changed : Bool) (x1 : Int32) (x2 : Int32) (x3 : Int32), QG X 4 (qQ X ad 5 (P_X5_insert r_rules) 0 0) (F_X5_insert_b38 n r_kinds r_whole r_marks r_count x1 x2 x3) 38 [(0, .ref 0), (1, .int x1), (2, .int x2), (3, .int x3)] [] [.inr (5, [.ref 1, .ref 2, .ref 3, .ref 4, .int r_count, .int (qb r_changed)]), .inl (0, 30, .inl r_kinds), .inl (0, 30, .inl r_whole), .inl (0, 210, .inl r_marks), .inl (0, 6, .inl r_rules)] ad 0 0 := by
  intro n
  induction n with
  | zero => intros; exact QG.nothing
  | succ n ih =>
    intro r_kinds r_whole r_marks r_count r_changed x1 x2 x3
    refine QG.iload_n hX (qd K_X5_insert 21 rfl) rfl rfl ?_
    refine QG.iload_n hX (qd K_X5_insert 22 rfl) rfl rfl ?_
    refine QG.icmp_le (tgt := 57) hX (qd K_X5_insert 23 rfl) rfl (by decide) ?_ ?_
    · refine QG.aload_n hX (qd K_X5_insert 32 rfl) rfl rfl ?_
      refine QG.getf hX fl_X5_9 (qd K_X5_insert 33 rfl) rfl rfl rfl ?_
      refine QG.iload_n hX (qd K_X5_insert 34 rfl) rfl rfl ?_
      refine QG.iload_n hX (qd K_X5_insert 35 rfl) rfl rfl ?_
      refine QG.iast (Wd' := [.inr (5, [.ref 1, .ref 2, .ref 3, .ref 4, .int r_count, .int (qb r_changed)]), .inl (0, 30, .inl (upd r_kinds x1.toNatClampNeg x2)), .inl (0, 30, .inl r_whole), .inl (0, 210, .inl r_marks), .inl (0, 6, .inl r_rules)]) hX (qd K_X5_insert 36 rfl) rfl rfl rfl ?_
      refine QG.aload_n hX (qd K_X5_insert 37 rfl) rfl rfl ?_
      refine QG.getf hX fl_X5_15 (qd K_X5_insert 38 rfl) rfl rfl rfl ?_
      refine QG.iload_n hX (qd K_X5_insert 39 rfl) rfl rfl ?_
      refine QG.bipush hX (qd K_X5_insert 40 rfl) rfl kb_7 ?_
      refine QG.iast (Wd' := [.inr (5, [.ref 1, .ref 2, .ref 3, .ref 4, .int r_count, .int (qb r_changed)]), .inl (0, 30, .inl (upd r_kinds x1.toNatClampNeg x2)), .inl (0, 30, .inl (upd r_whole x1.toNatClampNeg 7)), .inl (0, 210, .inl r_marks), .inl (0, 6, .inl r_rules)]) hX (qd K_X5_insert 41 rfl) rfl rfl rfl ?_
      refine QG.iconst hX (qd K_X5_insert 42 rfl) rfl ki_0 ?_
      refine QG.istore_n (lv' := [(3, .int 0), (0, .ref 0), (1, .int x1), (2, .int x2)]) hX (qd K_X5_insert 43 rfl) rfl (by decide) rfl ?_
      exact QG.jmp (lv' := [(0, .ref 0), (1, .int x1), (3, .int 0)]) rfl (G_X5_insert_b74 X hX ad r_rules FU (upd r_kinds x1.toNatClampNeg x2) (upd r_whole x1.toNatClampNeg 7) r_marks r_count r_changed x1 0)
    · refine QG.aload_n hX (qd K_X5_insert 24 rfl) rfl rfl ?_
      refine QG.iload_n hX (qd K_X5_insert 25 rfl) rfl rfl ?_
      refine QG.iconst hX (qd K_X5_insert 26 rfl) rfl ki_1 ?_
      refine QG.isub hX (qd K_X5_insert 27 rfl) rfl ?_
      refine QG.iload_n hX (qd K_X5_insert 28 rfl) rfl rfl ?_
      refine QG.callV0 (rest := []) hX cw_X5_32 (M_X5_shift X.l r_kinds r_whole r_marks r_rules r_count r_changed (x3 - 1) x3) trivial (by decide) (by decide) (qd K_X5_insert 29 rfl) rfl ⟨Nat.zero_le _, Nat.zero_le _⟩ rfl rfl rfl rfl (Nat.le_of_ble_eq_true rfl) (fun _ => rfl) (fun c48 => ?_)
      show QG X 4 _ _ 51 _ [] [.inr (5, [.ref 1, .ref 2, .ref 3, .ref 4, .int r_count, .int (qb r_changed)]), .inl (0, 30, .inl c48.1), .inl (0, 30, .inl c48.2.1), .inl (0, 210, .inl c48.2.2), .inl (0, 6, .inl r_rules)] ad 0 0
      refine QG.iinc (lv' := [(3, .int (x3 + (-1))), (0, .ref 0), (1, .int x1), (2, .int x2)]) hX (qd K_X5_insert 30 rfl) rfl (by decide) rfl ki_m1 rfl ?_
      refine QG.goto (tgt := 38) hX (qd K_X5_insert 31 rfl) rfl (by decide) ?_
      exact QG.jmp (lv' := [(0, .ref 0), (1, .int x1), (2, .int x2), (3, .int (x3 + (-1)))]) rfl (ih c48.1 c48.2.1 c48.2.2 r_count r_changed x1 x2 (x3 + (-1)))

set_option maxRecDepth 100000 in
theorem M_X5_insert (l : Launch)  (r_kinds : Nat → Int32) (r_whole : Nat → Int32) (r_marks : Nat → Int32) (r_rules : Nat → Int32) (r_count : Int32) (r_changed : Bool) (p0 : Int32) (p1 : Int32) : QM l yX5_insert cX5_insert 4 (some .int) 2 0 0 (fun _ => True) [.ref 0, .int p0, .int p1] [.inr (5, [.ref 1, .ref 2, .ref 3, .ref 4, .int r_count, .int (qb r_changed)]), .inl (0, 30, .inl r_kinds), .inl (0, 30, .inl r_whole), .inl (0, 210, .inl r_marks), .inl (0, 6, .inl r_rules)] (F_X5_insert r_kinds r_whole r_marks r_count r_changed p0 p1) (P_X5_insert r_rules) := by
  refine QM.of (by decide +kernel) (Nat.le_of_ble_eq_true rfl) ?_
  rintro X ad hX _ _ _ _
  refine QG.iload_n hX (qd K_X5_insert 0 rfl) rfl rfl ?_
  refine QG.if_lt (tgt := 31) hX (qd K_X5_insert 1 rfl) rfl (by decide) ?_ ?_
  · refine QG.iconst hX (qd K_X5_insert 16 rfl) rfl ki_m1 ?_
    exact QG.iret hX (qd K_X5_insert 17 rfl) rfl rfl (fun _ _ => rfl)
  · refine QG.iload_n hX (qd K_X5_insert 2 rfl) rfl rfl ?_
    refine QG.aload_n hX (qd K_X5_insert 3 rfl) rfl rfl ?_
    refine QG.getf hX fl_X5_24 (qd K_X5_insert 4 rfl) rfl rfl rfl ?_
    refine QG.icmp_gt (tgt := 31) hX (qd K_X5_insert 5 rfl) rfl (by decide) ?_ ?_
    · refine QG.iconst hX (qd K_X5_insert 16 rfl) rfl ki_m1 ?_
      exact QG.iret hX (qd K_X5_insert 17 rfl) rfl rfl (fun _ _ => rfl)
    · refine QG.aload_n hX (qd K_X5_insert 6 rfl) rfl rfl ?_
      refine QG.getf hX fl_X5_24 (qd K_X5_insert 7 rfl) rfl rfl rfl ?_
      refine QG.bipush hX (qd K_X5_insert 8 rfl) rfl kb_30 ?_
      refine QG.icmp_ge (tgt := 31) hX (qd K_X5_insert 9 rfl) rfl (by decide) ?_ ?_
      · refine QG.iconst hX (qd K_X5_insert 16 rfl) rfl ki_m1 ?_
        exact QG.iret hX (qd K_X5_insert 17 rfl) rfl rfl (fun _ _ => rfl)
      · refine QG.iload_n hX (qd K_X5_insert 10 rfl) rfl rfl ?_
        refine QG.iconst hX (qd K_X5_insert 11 rfl) rfl ki_1 ?_
        refine QG.icmp_lt (tgt := 31) hX (qd K_X5_insert 12 rfl) rfl (by decide) ?_ ?_
        · refine QG.iconst hX (qd K_X5_insert 16 rfl) rfl ki_m1 ?_
          exact QG.iret hX (qd K_X5_insert 17 rfl) rfl rfl (fun _ _ => rfl)
        · refine QG.iload_n hX (qd K_X5_insert 13 rfl) rfl rfl ?_
          refine QG.iconst hX (qd K_X5_insert 14 rfl) rfl ki_5 ?_
          refine QG.icmp_le (tgt := 33) hX (qd K_X5_insert 15 rfl) rfl (by decide) ?_ ?_
          · refine QG.aload_n hX (qd K_X5_insert 18 rfl) rfl rfl ?_
            refine QG.getf hX fl_X5_24 (qd K_X5_insert 19 rfl) rfl rfl rfl ?_
            refine QG.istore_n (lv' := [(3, .int r_count), (0, .ref 0), (1, .int p0), (2, .int p1)]) hX (qd K_X5_insert 20 rfl) rfl (by decide) rfl ?_
            exact QG.jmp (lv' := [(0, .ref 0), (1, .int p0), (2, .int p1), (3, .int r_count)]) rfl (G_X5_insert_b38 X hX ad r_rules FU r_kinds r_whole r_marks r_count r_changed p0 p1 r_count)
          · refine QG.iconst hX (qd K_X5_insert 16 rfl) rfl ki_m1 ?_
            exact QG.iret hX (qd K_X5_insert 17 rfl) rfl rfl (fun _ _ => rfl)

def P_X5_remove (r_rules : Nat → Int32) : Int32 × (Nat → Int32) × (Nat → Int32) × (Nat → Int32) × Int32 × Bool → Option Value × List AC := fun z => (some (.int z.1), [.inr (5, [.ref 1, .ref 2, .ref 3, .ref 4, .int z.2.2.2.2.1, .int (qb z.2.2.2.2.2)]), .inl (0, 30, .inl z.2.1), .inl (0, 30, .inl z.2.2.1), .inl (0, 210, .inl z.2.2.2.1), .inl (0, 6, .inl r_rules)])
set_option maxRecDepth 100000 in
theorem G_X5_remove_b14 (X : QX) (hX : qok X cX5_remove RX5 3 (some .int) 2) (ad : Nat → Nat) (r_rules : Nat → Int32) : ∀ (n : Nat) (r_kinds : Nat → Int32) (r_whole : Nat → Int32) (r_marks : Nat → Int32) (r_count : Int32) (r_changed : Bool) (x2 : Int32), QG X 3 (qQ X ad 5 (P_X5_remove r_rules) 0 0) (F_X5_remove_b14 n r_kinds r_whole r_marks r_count x2) 14 [(0, .ref 0), (2, .int x2)] [] [.inr (5, [.ref 1, .ref 2, .ref 3, .ref 4, .int r_count, .int (qb r_changed)]), .inl (0, 30, .inl r_kinds), .inl (0, 30, .inl r_whole), .inl (0, 210, .inl r_marks), .inl (0, 6, .inl r_rules)] ad 0 0 := by
  intro n
  induction n with
  | zero => intros; exact QG.nothing
  | succ n ih =>
    intro r_kinds r_whole r_marks r_count r_changed x2
    refine QG.iload_n hX (qd K_X5_remove 10 rfl) rfl rfl ?_
    refine QG.aload_n hX (qd K_X5_remove 11 rfl) rfl rfl ?_
    refine QG.getf hX fl_X5_24 (qd K_X5_remove 12 rfl) rfl rfl rfl ?_
    refine QG.icmp_ge (tgt := 36) hX (qd K_X5_remove 13 rfl) rfl (by decide) ?_ ?_
    · refine QG.aload_n hX (qd K_X5_remove 22 rfl) rfl rfl ?_
      refine QG.dup hX (qd K_X5_remove 23 rfl) rfl rfl ?_
      refine QG.getf hX fl_X5_24 (qd K_X5_remove 24 rfl) rfl rfl rfl ?_
      refine QG.iconst hX (qd K_X5_remove 25 rfl) rfl ki_1 ?_
      refine QG.isub hX (qd K_X5_remove 26 rfl) rfl ?_
      refine QG.putf (Wd' := [.inr (5, [.ref 1, .ref 2, .ref 3, .ref 4, .int (r_count - 1), .int (qb r_changed)]), .inl (0, 30, .inl r_kinds), .inl (0, 30, .inl r_whole), .inl (0, 210, .inl r_marks), .inl (0, 6, .inl r_rules)]) hX fl_X5_24 fp_5_4 (qd K_X5_remove 27 rfl) rfl rfl (Nat.le_of_ble_eq_true rfl) (qfit_i _) rfl ?_
      refine QG.aload_n hX (qd K_X5_remove 28 rfl) rfl rfl ?_
      refine QG.iconst hX (qd K_X5_remove 29 rfl) rfl ki_1 ?_
      refine QG.putf (Wd' := [.inr (5, [.ref 1, .ref 2, .ref 3, .ref 4, .int (r_count - 1), .int (qb true)]), .inl (0, 30, .inl r_kinds), .inl (0, 30, .inl r_whole), .inl (0, 210, .inl r_marks), .inl (0, 6, .inl r_rules)]) hX fl_X5_28 fp_5_5 (qd K_X5_remove 30 rfl) rfl rfl (Nat.le_of_ble_eq_true rfl) qfit_z1 rfl ?_
      refine QG.aload_n hX (qd K_X5_remove 31 rfl) rfl rfl ?_
      refine QG.getf hX fl_X5_24 (qd K_X5_remove 32 rfl) rfl rfl rfl ?_
      exact QG.iret hX (qd K_X5_remove 33 rfl) rfl rfl (fun _ _ => rfl)
    · refine QG.aload_n hX (qd K_X5_remove 14 rfl) rfl rfl ?_
      refine QG.iload_n hX (qd K_X5_remove 15 rfl) rfl rfl ?_
      refine QG.iload_n hX (qd K_X5_remove 16 rfl) rfl rfl ?_
      refine QG.iconst hX (qd K_X5_remove 17 rfl) rfl ki_1 ?_
      refine QG.isub hX (qd K_X5_remove 18 rfl) rfl ?_
      refine QG.callV0 (rest := []) hX cw_X5_32 (M_X5_shift X.l r_kinds r_whole r_marks r_rules r_count r_changed x2 (x2 - 1)) trivial (by decide) (by decide) (qd K_X5_remove 19 rfl) rfl ⟨Nat.zero_le _, Nat.zero_le _⟩ rfl rfl rfl rfl (Nat.le_of_ble_eq_true rfl) (fun _ => rfl) (fun c27 => ?_)
      show QG X 3 _ _ 30 _ [] [.inr (5, [.ref 1, .ref 2, .ref 3, .ref 4, .int r_count, .int (qb r_changed)]), .inl (0, 30, .inl c27.1), .inl (0, 30, .inl c27.2.1), .inl (0, 210, .inl c27.2.2), .inl (0, 6, .inl r_rules)] ad 0 0
      refine QG.iinc (lv' := [(2, .int (x2 + 1)), (0, .ref 0)]) hX (qd K_X5_remove 20 rfl) rfl (by decide) rfl ki_1 rfl ?_
      refine QG.goto (tgt := 14) hX (qd K_X5_remove 21 rfl) rfl (by decide) ?_
      exact QG.jmp (lv' := [(0, .ref 0), (2, .int (x2 + 1))]) rfl (ih c27.1 c27.2.1 c27.2.2 r_count r_changed (x2 + 1))

set_option maxRecDepth 100000 in
theorem M_X5_remove (l : Launch)  (r_kinds : Nat → Int32) (r_whole : Nat → Int32) (r_marks : Nat → Int32) (r_rules : Nat → Int32) (r_count : Int32) (r_changed : Bool) (p0 : Int32) : QM l yX5_remove cX5_remove 3 (some .int) 2 0 0 (fun _ => True) [.ref 0, .int p0] [.inr (5, [.ref 1, .ref 2, .ref 3, .ref 4, .int r_count, .int (qb r_changed)]), .inl (0, 30, .inl r_kinds), .inl (0, 30, .inl r_whole), .inl (0, 210, .inl r_marks), .inl (0, 6, .inl r_rules)] (F_X5_remove r_kinds r_whole r_marks r_count r_changed p0) (P_X5_remove r_rules) := by
  refine QM.of (by decide +kernel) (Nat.le_of_ble_eq_true rfl) ?_
  rintro X ad hX _ _ _ _
  refine QG.aload_n hX (qd K_X5_remove 0 rfl) rfl rfl ?_
  refine QG.iload_n hX (qd K_X5_remove 1 rfl) rfl rfl ?_
  refine QG.callV0 (rest := []) hX cw_X5_36 (M_X5_has X.l r_kinds r_whole r_marks r_rules r_count r_changed p0) trivial (by decide) (by decide) (qd K_X5_remove 2 rfl) rfl ⟨Nat.zero_le _, Nat.zero_le _⟩ rfl rfl rfl rfl (Nat.le_of_ble_eq_true rfl) (fun _ => rfl) (fun c2 => ?_)
  show QG X 3 _ _ 5 _ [.int (qb c2)] [.inr (5, [.ref 1, .ref 2, .ref 3, .ref 4, .int r_count, .int (qb r_changed)]), .inl (0, 30, .inl r_kinds), .inl (0, 30, .inl r_whole), .inl (0, 210, .inl r_marks), .inl (0, 6, .inl r_rules)] ad 0 0
  refine QG.if_ne (tgt := 10) hX (qd K_X5_remove 3 rfl) rfl (by decide) ?_ ?_
  · refine QG.iload_n hX (qd K_X5_remove 6 rfl) rfl rfl ?_
    refine QG.iconst hX (qd K_X5_remove 7 rfl) rfl ki_1 ?_
    refine QG.iadd hX (qd K_X5_remove 8 rfl) rfl ?_
    refine QG.istore_n (lv' := [(2, .int (p0 + 1)), (0, .ref 0), (1, .int p0)]) hX (qd K_X5_remove 9 rfl) rfl (by decide) rfl ?_
    exact QG.jmp (lv' := [(0, .ref 0), (2, .int (p0 + 1))]) rfl (G_X5_remove_b14 X hX ad r_rules FU r_kinds r_whole r_marks r_count r_changed (p0 + 1))
  · refine QG.iconst hX (qd K_X5_remove 4 rfl) rfl ki_m1 ?_
    exact QG.iret hX (qd K_X5_remove 5 rfl) rfl rfl (fun _ _ => rfl)

def P_X5_setMark (r_kinds : Nat → Int32) (r_whole : Nat → Int32) (r_rules : Nat → Int32) (r_count : Int32) : Bool × (Nat → Int32) × Bool → Option Value × List AC := fun z => (some (.int (qb z.1)), [.inr (5, [.ref 1, .ref 2, .ref 3, .ref 4, .int r_count, .int (qb z.2.2)]), .inl (0, 30, .inl r_kinds), .inl (0, 30, .inl r_whole), .inl (0, 210, .inl z.2.1), .inl (0, 6, .inl r_rules)])
set_option maxRecDepth 100000 in
theorem M_X5_setMark (l : Launch)  (r_kinds : Nat → Int32) (r_whole : Nat → Int32) (r_marks : Nat → Int32) (r_rules : Nat → Int32) (r_count : Int32) (r_changed : Bool) (p0 : Int32) (p1 : Int32) (p2 : Int32) : QM l yX5_setMark cX5_setMark 4 (some .boolean) 1 0 0 (fun _ => True) [.ref 0, .int p0, .int p1, .int p2] [.inr (5, [.ref 1, .ref 2, .ref 3, .ref 4, .int r_count, .int (qb r_changed)]), .inl (0, 30, .inl r_kinds), .inl (0, 30, .inl r_whole), .inl (0, 210, .inl r_marks), .inl (0, 6, .inl r_rules)] (F_X5_setMark r_whole r_marks r_count r_changed p0 p1 p2) (P_X5_setMark r_kinds r_whole r_rules r_count) := by
  refine QM.of (by decide +kernel) (Nat.le_of_ble_eq_true rfl) ?_
  rintro X ad hX _ _ _ _
  refine QG.aload_n hX (qd K_X5_setMark 0 rfl) rfl rfl ?_
  refine QG.iload_n hX (qd K_X5_setMark 1 rfl) rfl rfl ?_
  refine QG.callV0 (rest := []) hX cw_X5_36 (M_X5_has X.l r_kinds r_whole r_marks r_rules r_count r_changed p0) trivial (by decide) (by decide) (qd K_X5_setMark 2 rfl) rfl ⟨Nat.zero_le _, Nat.zero_le _⟩ rfl rfl rfl rfl (Nat.le_of_ble_eq_true rfl) (fun _ => rfl) (fun c2 => ?_)
  show QG X 4 _ _ 5 _ [.int (qb c2)] [.inr (5, [.ref 1, .ref 2, .ref 3, .ref 4, .int r_count, .int (qb r_changed)]), .inl (0, 30, .inl r_kinds), .inl (0, 30, .inl r_whole), .inl (0, 210, .inl r_marks), .inl (0, 6, .inl r_rules)] ad 0 0
  refine QG.if_eq (tgt := 28) hX (qd K_X5_setMark 3 rfl) rfl (by decide) ?_ ?_
  · refine QG.iconst hX (qd K_X5_setMark 15 rfl) rfl ki_0 ?_
    exact QG.zret hX (qd K_X5_setMark 16 rfl) rfl (qb_nar false) rfl (fun _ _ => rfl)
  · refine QG.iload_n hX (qd K_X5_setMark 4 rfl) rfl rfl ?_
    refine QG.if_lt (tgt := 28) hX (qd K_X5_setMark 5 rfl) rfl (by decide) ?_ ?_
    · refine QG.iconst hX (qd K_X5_setMark 15 rfl) rfl ki_0 ?_
      exact QG.zret hX (qd K_X5_setMark 16 rfl) rfl (qb_nar false) rfl (fun _ _ => rfl)
    · refine QG.iload_n hX (qd K_X5_setMark 6 rfl) rfl rfl ?_
      refine QG.aload_n hX (qd K_X5_setMark 7 rfl) rfl rfl ?_
      refine QG.getf hX fl_X5_15 (qd K_X5_setMark 8 rfl) rfl rfl rfl ?_
      refine QG.iload_n hX (qd K_X5_setMark 9 rfl) rfl rfl ?_
      refine QG.iald hX (qd K_X5_setMark 10 rfl) rfl rfl ?_
      refine QG.icmp_ge (tgt := 28) hX (qd K_X5_setMark 11 rfl) rfl (by decide) ?_ ?_
      · refine QG.iconst hX (qd K_X5_setMark 15 rfl) rfl ki_0 ?_
        exact QG.zret hX (qd K_X5_setMark 16 rfl) rfl (qb_nar false) rfl (fun _ _ => rfl)
      · refine QG.iload_n hX (qd K_X5_setMark 12 rfl) rfl rfl ?_
        refine QG.bipush hX (qd K_X5_setMark 13 rfl) rfl kb_7 ?_
        refine QG.icmp_lt (tgt := 30) hX (qd K_X5_setMark 14 rfl) rfl (by decide) ?_ ?_
        · refine QG.iload_n hX (qd K_X5_setMark 17 rfl) rfl rfl ?_
          refine QG.if_lt (tgt := 43) hX (qd K_X5_setMark 18 rfl) rfl (by decide) ?_ ?_
          · refine QG.iconst hX (qd K_X5_setMark 24 rfl) rfl ki_0 ?_
            exact QG.zret hX (qd K_X5_setMark 25 rfl) rfl (qb_nar false) rfl (fun _ _ => rfl)
          · refine QG.iload_n hX (qd K_X5_setMark 19 rfl) rfl rfl ?_
            refine QG.gets hX (fun _ _ _ h => h.1) kn_X5_46 (by decide) (qd K_X5_setMark 20 rfl) rfl ?_
            refine QG.iload_n hX (qd K_X5_setMark 21 rfl) rfl rfl ?_
            refine QG.sld hX (fun _ _ _ h => h.1) (by decide) (qd K_X5_setMark 22 rfl) rfl ?_
            refine QG.icmp_le (tgt := 45) hX (qd K_X5_setMark 23 rfl) rfl (by decide) ?_ ?_
            · refine QG.aload_n hX (qd K_X5_setMark 26 rfl) rfl rfl ?_
              refine QG.getf hX fl_X5_18 (qd K_X5_setMark 27 rfl) rfl rfl rfl ?_
              refine QG.iload_n hX (qd K_X5_setMark 28 rfl) rfl rfl ?_
              refine QG.bipush hX (qd K_X5_setMark 29 rfl) rfl kb_7 ?_
              refine QG.imul hX (qd K_X5_setMark 30 rfl) rfl ?_
              refine QG.iload_n hX (qd K_X5_setMark 31 rfl) rfl rfl ?_
              refine QG.iadd hX (qd K_X5_setMark 32 rfl) rfl ?_
              refine QG.iload_n hX (qd K_X5_setMark 33 rfl) rfl rfl ?_
              refine QG.iast (Wd' := [.inr (5, [.ref 1, .ref 2, .ref 3, .ref 4, .int r_count, .int (qb r_changed)]), .inl (0, 30, .inl r_kinds), .inl (0, 30, .inl r_whole), .inl (0, 210, .inl (upd r_marks ((p0 * 7) + p1).toNatClampNeg p2)), .inl (0, 6, .inl r_rules)]) hX (qd K_X5_setMark 34 rfl) rfl rfl rfl ?_
              refine QG.aload_n hX (qd K_X5_setMark 35 rfl) rfl rfl ?_
              refine QG.iconst hX (qd K_X5_setMark 36 rfl) rfl ki_1 ?_
              refine QG.putf (Wd' := [.inr (5, [.ref 1, .ref 2, .ref 3, .ref 4, .int r_count, .int (qb true)]), .inl (0, 30, .inl r_kinds), .inl (0, 30, .inl r_whole), .inl (0, 210, .inl (upd r_marks ((p0 * 7) + p1).toNatClampNeg p2)), .inl (0, 6, .inl r_rules)]) hX fl_X5_28 fp_5_5 (qd K_X5_setMark 37 rfl) rfl rfl (Nat.le_of_ble_eq_true rfl) qfit_z1 rfl ?_
              refine QG.iconst hX (qd K_X5_setMark 38 rfl) rfl ki_1 ?_
              exact QG.zret hX (qd K_X5_setMark 39 rfl) rfl (qb_nar true) rfl (fun _ _ => rfl)
            · refine QG.iconst hX (qd K_X5_setMark 24 rfl) rfl ki_0 ?_
              exact QG.zret hX (qd K_X5_setMark 25 rfl) rfl (qb_nar false) rfl (fun _ _ => rfl)
        · refine QG.iconst hX (qd K_X5_setMark 15 rfl) rfl ki_0 ?_
          exact QG.zret hX (qd K_X5_setMark 16 rfl) rfl (qb_nar false) rfl (fun _ _ => rfl)

def P_X5_tearTo (r_kinds : Nat → Int32) (r_rules : Nat → Int32) (r_count : Int32) : Int32 × (Nat → Int32) × (Nat → Int32) × Bool → Option Value × List AC := fun z => (some (.int z.1), [.inr (5, [.ref 1, .ref 2, .ref 3, .ref 4, .int r_count, .int (qb z.2.2.2)]), .inl (0, 30, .inl r_kinds), .inl (0, 30, .inl z.2.1), .inl (0, 210, .inl z.2.2.1), .inl (0, 6, .inl r_rules)])
set_option maxRecDepth 100000 in
theorem G_X5_tearTo_b16 (X : QX) (hX : qok X cX5_tearTo RX5 4 (some .int) 1) (ad : Nat → Nat) (r_kinds : Nat → Int32) (r_rules : Nat → Int32) (r_count : Int32) : ∀ (n : Nat) (r_whole : Nat → Int32) (r_marks : Nat → Int32) (r_changed : Bool) (x1 : Int32) (x2 : Int32) (x3 : Int32), QG X 4 (qQ X ad 5 (P_X5_tearTo r_kinds r_rules r_count) 0 0) (F_X5_tearTo_b16 n r_whole r_marks x1 x2 x3) 16 [(0, .ref 0), (1, .int x1), (2, .int x2), (3, .int x3)] [] [.inr (5, [.ref 1, .ref 2, .ref 3, .ref 4, .int r_count, .int (qb r_changed)]), .inl (0, 30, .inl r_kinds), .inl (0, 30, .inl r_whole), .inl (0, 210, .inl r_marks), .inl (0, 6, .inl r_rules)] ad 0 0 := by
  intro n
  induction n with
  | zero => intros; exact QG.nothing
  | succ n ih =>
    intro r_whole r_marks r_changed x1 x2 x3
    refine QG.iload_n hX (qd K_X5_tearTo 10 rfl) rfl rfl ?_
    refine QG.bipush hX (qd K_X5_tearTo 11 rfl) rfl kb_7 ?_
    refine QG.icmp_ge (tgt := 40) hX (qd K_X5_tearTo 12 rfl) rfl (by decide) ?_ ?_
    · refine QG.aload_n hX (qd K_X5_tearTo 24 rfl) rfl rfl ?_
      refine QG.getf hX fl_X5_15 (qd K_X5_tearTo 25 rfl) rfl rfl rfl ?_
      refine QG.iload_n hX (qd K_X5_tearTo 26 rfl) rfl rfl ?_
      refine QG.aload_n hX (qd K_X5_tearTo 27 rfl) rfl rfl ?_
      refine QG.getf hX fl_X5_15 (qd K_X5_tearTo 28 rfl) rfl rfl rfl ?_
      refine QG.iload_n hX (qd K_X5_tearTo 29 rfl) rfl rfl ?_
      refine QG.iald hX (qd K_X5_tearTo 30 rfl) rfl rfl ?_
      refine QG.iload_n hX (qd K_X5_tearTo 31 rfl) rfl rfl ?_
      refine QG.mmin hX cw_X5_49 (by decide) (qd K_X5_tearTo 32 rfl) rfl ⟨Nat.zero_le _, Nat.zero_le _⟩ (Nat.le_of_ble_eq_true rfl) ?_
      refine QG.iast (Wd' := [.inr (5, [.ref 1, .ref 2, .ref 3, .ref 4, .int r_count, .int (qb r_changed)]), .inl (0, 30, .inl r_kinds), .inl (0, 30, .inl (upd r_whole x1.toNatClampNeg (if x2 < (r_whole x1.toNatClampNeg) then x2 else (r_whole x1.toNatClampNeg)))), .inl (0, 210, .inl r_marks), .inl (0, 6, .inl r_rules)]) hX (qd K_X5_tearTo 33 rfl) rfl rfl rfl ?_
      refine QG.aload_n hX (qd K_X5_tearTo 34 rfl) rfl rfl ?_
      refine QG.iconst hX (qd K_X5_tearTo 35 rfl) rfl ki_1 ?_
      refine QG.putf (Wd' := [.inr (5, [.ref 1, .ref 2, .ref 3, .ref 4, .int r_count, .int (qb true)]), .inl (0, 30, .inl r_kinds), .inl (0, 30, .inl (upd r_whole x1.toNatClampNeg (if x2 < (r_whole x1.toNatClampNeg) then x2 else (r_whole x1.toNatClampNeg)))), .inl (0, 210, .inl r_marks), .inl (0, 6, .inl r_rules)]) hX fl_X5_28 fp_5_5 (qd K_X5_tearTo 36 rfl) rfl rfl (Nat.le_of_ble_eq_true rfl) qfit_z1 rfl ?_
      refine QG.aload_n hX (qd K_X5_tearTo 37 rfl) rfl rfl ?_
      refine QG.getf hX fl_X5_15 (qd K_X5_tearTo 38 rfl) rfl rfl rfl ?_
      refine QG.iload_n hX (qd K_X5_tearTo 39 rfl) rfl rfl ?_
      refine QG.iald hX (qd K_X5_tearTo 40 rfl) rfl rfl ?_
      exact QG.iret hX (qd K_X5_tearTo 41 rfl) rfl rfl (fun _ _ => rfl)
    · refine QG.aload_n hX (qd K_X5_tearTo 13 rfl) rfl rfl ?_
      refine QG.getf hX fl_X5_18 (qd K_X5_tearTo 14 rfl) rfl rfl rfl ?_
      refine QG.iload_n hX (qd K_X5_tearTo 15 rfl) rfl rfl ?_
      refine QG.bipush hX (qd K_X5_tearTo 16 rfl) rfl kb_7 ?_
      refine QG.imul hX (qd K_X5_tearTo 17 rfl) rfl ?_
      refine QG.iload_n hX (qd K_X5_tearTo 18 rfl) rfl rfl ?_
      refine QG.iadd hX (qd K_X5_tearTo 19 rfl) rfl ?_
      refine QG.iconst hX (qd K_X5_tearTo 20 rfl) rfl ki_0 ?_
      refine QG.iast (Wd' := [.inr (5, [.ref 1, .ref 2, .ref 3, .ref 4, .int r_count, .int (qb r_changed)]), .inl (0, 30, .inl r_kinds), .inl (0, 30, .inl r_whole), .inl (0, 210, .inl (upd r_marks ((x1 * 7) + x3).toNatClampNeg 0)), .inl (0, 6, .inl r_rules)]) hX (qd K_X5_tearTo 21 rfl) rfl rfl rfl ?_
      refine QG.iinc (lv' := [(3, .int (x3 + 1)), (0, .ref 0), (1, .int x1), (2, .int x2)]) hX (qd K_X5_tearTo 22 rfl) rfl (by decide) rfl ki_1 rfl ?_
      refine QG.goto (tgt := 16) hX (qd K_X5_tearTo 23 rfl) rfl (by decide) ?_
      exact QG.jmp (lv' := [(0, .ref 0), (1, .int x1), (2, .int x2), (3, .int (x3 + 1))]) rfl (ih r_whole (upd r_marks ((x1 * 7) + x3).toNatClampNeg 0) r_changed x1 x2 (x3 + 1))

set_option maxRecDepth 100000 in
theorem M_X5_tearTo (l : Launch)  (r_kinds : Nat → Int32) (r_whole : Nat → Int32) (r_marks : Nat → Int32) (r_rules : Nat → Int32) (r_count : Int32) (r_changed : Bool) (p0 : Int32) (p1 : Int32) : QM l yX5_tearTo cX5_tearTo 4 (some .int) 1 0 0 (fun _ => True) [.ref 0, .int p0, .int p1] [.inr (5, [.ref 1, .ref 2, .ref 3, .ref 4, .int r_count, .int (qb r_changed)]), .inl (0, 30, .inl r_kinds), .inl (0, 30, .inl r_whole), .inl (0, 210, .inl r_marks), .inl (0, 6, .inl r_rules)] (F_X5_tearTo r_whole r_marks r_count r_changed p0 p1) (P_X5_tearTo r_kinds r_rules r_count) := by
  refine QM.of (by decide +kernel) (Nat.le_of_ble_eq_true rfl) ?_
  rintro X ad hX _ _ _ _
  refine QG.aload_n hX (qd K_X5_tearTo 0 rfl) rfl rfl ?_
  refine QG.iload_n hX (qd K_X5_tearTo 1 rfl) rfl rfl ?_
  refine QG.callV0 (rest := []) hX cw_X5_36 (M_X5_has X.l r_kinds r_whole r_marks r_rules r_count r_changed p0) trivial (by decide) (by decide) (qd K_X5_tearTo 2 rfl) rfl ⟨Nat.zero_le _, Nat.zero_le _⟩ rfl rfl rfl rfl (Nat.le_of_ble_eq_true rfl) (fun _ => rfl) (fun c2 => ?_)
  show QG X 4 _ _ 5 _ [.int (qb c2)] [.inr (5, [.ref 1, .ref 2, .ref 3, .ref 4, .int r_count, .int (qb r_changed)]), .inl (0, 30, .inl r_kinds), .inl (0, 30, .inl r_whole), .inl (0, 210, .inl r_marks), .inl (0, 6, .inl r_rules)] ad 0 0
  refine QG.if_eq (tgt := 12) hX (qd K_X5_tearTo 3 rfl) rfl (by decide) ?_ ?_
  · refine QG.iconst hX (qd K_X5_tearTo 6 rfl) rfl ki_m1 ?_
    exact QG.iret hX (qd K_X5_tearTo 7 rfl) rfl rfl (fun _ _ => rfl)
  · refine QG.iload_n hX (qd K_X5_tearTo 4 rfl) rfl rfl ?_
    refine QG.if_ge (tgt := 14) hX (qd K_X5_tearTo 5 rfl) rfl (by decide) ?_ ?_
    · refine QG.iload_n hX (qd K_X5_tearTo 8 rfl) rfl rfl ?_
      refine QG.istore_n (lv' := [(3, .int p1), (0, .ref 0), (1, .int p0), (2, .int p1)]) hX (qd K_X5_tearTo 9 rfl) rfl (by decide) rfl ?_
      exact QG.jmp (lv' := [(0, .ref 0), (1, .int p0), (2, .int p1), (3, .int p1)]) rfl (G_X5_tearTo_b16 X hX ad r_kinds r_rules r_count FU r_whole r_marks r_changed p0 p1 p1)
    · refine QG.iconst hX (qd K_X5_tearTo 6 rfl) rfl ki_m1 ?_
      exact QG.iret hX (qd K_X5_tearTo 7 rfl) rfl rfl (fun _ _ => rfl)

def P_X5_hanging (r_kinds : Nat → Int32) (r_whole : Nat → Int32) (r_marks : Nat → Int32) (r_rules : Nat → Int32) (r_count : Int32) (r_changed : Bool) : Int32 → Option Value × List AC := fun z => (some (.int z), [.inr (5, [.ref 1, .ref 2, .ref 3, .ref 4, .int r_count, .int (qb r_changed)]), .inl (0, 30, .inl r_kinds), .inl (0, 30, .inl r_whole), .inl (0, 210, .inl r_marks), .inl (0, 6, .inl r_rules)])
set_option maxRecDepth 100000 in
theorem G_X5_hanging_b4 (X : QX) (hX : qok X cX5_hanging RX5 3 (some .int) 1) (ad : Nat → Nat) (r_kinds : Nat → Int32) (r_whole : Nat → Int32) (r_marks : Nat → Int32) (r_rules : Nat → Int32) (r_count : Int32) (r_changed : Bool) : ∀ (n : Nat) (x1 : Int32) (x2 : Int32), QG X 3 (qQ X ad 5 (P_X5_hanging r_kinds r_whole r_marks r_rules r_count r_changed) 0 0) (F_X5_hanging_b4 r_kinds r_count n x1 x2) 4 [(0, .ref 0), (1, .int x1), (2, .int x2)] [] [.inr (5, [.ref 1, .ref 2, .ref 3, .ref 4, .int r_count, .int (qb r_changed)]), .inl (0, 30, .inl r_kinds), .inl (0, 30, .inl r_whole), .inl (0, 210, .inl r_marks), .inl (0, 6, .inl r_rules)] ad 0 0 := by
  intro n
  induction n with
  | zero => intros; exact QG.nothing
  | succ n ih =>
    intro x1 x2
    refine QG.iload_n hX (qd K_X5_hanging 4 rfl) rfl rfl ?_
    refine QG.aload_n hX (qd K_X5_hanging 5 rfl) rfl rfl ?_
    refine QG.getf hX fl_X5_24 (qd K_X5_hanging 6 rfl) rfl rfl rfl ?_
    refine QG.icmp_ge (tgt := 33) hX (qd K_X5_hanging 7 rfl) rfl (by decide) ?_ ?_
    · refine QG.iload_n hX (qd K_X5_hanging 17 rfl) rfl rfl ?_
      exact QG.iret hX (qd K_X5_hanging 18 rfl) rfl rfl (fun _ _ => rfl)
    · refine QG.aload_n hX (qd K_X5_hanging 8 rfl) rfl rfl ?_
      refine QG.getf hX fl_X5_9 (qd K_X5_hanging 9 rfl) rfl rfl rfl ?_
      refine QG.iload_n hX (qd K_X5_hanging 10 rfl) rfl rfl ?_
      refine QG.iald hX (qd K_X5_hanging 11 rfl) rfl rfl ?_
      refine QG.callN (rest := []) [] hX cw_X5_55 (M_X7_isHanging X.l (r_kinds x2.toNatClampNeg)) trivial (by decide) (by decide) (qd K_X5_hanging 12 rfl) rfl ⟨Nat.zero_le _, Nat.zero_le _⟩ rfl rfl (Nat.le_of_ble_eq_true rfl) rfl rfl (fun _ => rfl) (fun c18 => ?_)
      show QG X 3 _ _ 21 _ [.int (qb c18)] [.inr (5, [.ref 1, .ref 2, .ref 3, .ref 4, .int r_count, .int (qb r_changed)]), .inl (0, 30, .inl r_kinds), .inl (0, 30, .inl r_whole), .inl (0, 210, .inl r_marks), .inl (0, 6, .inl r_rules)] ad 0 0
      refine QG.if_eq (tgt := 27) hX (qd K_X5_hanging 13 rfl) rfl (by decide) ?_ ?_
      · refine QG.iinc (lv' := [(2, .int (x2 + 1)), (0, .ref 0), (1, .int x1)]) hX (qd K_X5_hanging 15 rfl) rfl (by decide) rfl ki_1 rfl ?_
        refine QG.goto (tgt := 4) hX (qd K_X5_hanging 16 rfl) rfl (by decide) ?_
        exact QG.jmp (lv' := [(0, .ref 0), (1, .int x1), (2, .int (x2 + 1))]) rfl (ih x1 (x2 + 1))
      · refine QG.iinc (lv' := [(1, .int (x1 + 1)), (0, .ref 0), (2, .int x2)]) hX (qd K_X5_hanging 14 rfl) rfl (by decide) rfl ki_1 rfl ?_
        refine QG.iinc (lv' := [(2, .int (x2 + 1)), (1, .int (x1 + 1)), (0, .ref 0)]) hX (qd K_X5_hanging 15 rfl) rfl (by decide) rfl ki_1 rfl ?_
        refine QG.goto (tgt := 4) hX (qd K_X5_hanging 16 rfl) rfl (by decide) ?_
        exact QG.jmp (lv' := [(0, .ref 0), (1, .int (x1 + 1)), (2, .int (x2 + 1))]) rfl (ih (x1 + 1) (x2 + 1))

set_option maxRecDepth 100000 in
theorem M_X5_hanging (l : Launch)  (r_kinds : Nat → Int32) (r_whole : Nat → Int32) (r_marks : Nat → Int32) (r_rules : Nat → Int32) (r_count : Int32) (r_changed : Bool) : QM l yX5_hanging cX5_hanging 3 (some .int) 1 0 0 (fun _ => True) [.ref 0] [.inr (5, [.ref 1, .ref 2, .ref 3, .ref 4, .int r_count, .int (qb r_changed)]), .inl (0, 30, .inl r_kinds), .inl (0, 30, .inl r_whole), .inl (0, 210, .inl r_marks), .inl (0, 6, .inl r_rules)] (F_X5_hanging r_kinds r_count) (P_X5_hanging r_kinds r_whole r_marks r_rules r_count r_changed) := by
  refine QM.of (by decide +kernel) (Nat.le_of_ble_eq_true rfl) ?_
  rintro X ad hX _ _ _ _
  refine QG.iconst hX (qd K_X5_hanging 0 rfl) rfl ki_0 ?_
  refine QG.istore_n (lv' := [(1, .int 0), (0, .ref 0)]) hX (qd K_X5_hanging 1 rfl) rfl (by decide) rfl ?_
  refine QG.iconst hX (qd K_X5_hanging 2 rfl) rfl ki_0 ?_
  refine QG.istore_n (lv' := [(2, .int 0), (1, .int 0), (0, .ref 0)]) hX (qd K_X5_hanging 3 rfl) rfl (by decide) rfl ?_
  exact QG.jmp (lv' := [(0, .ref 0), (1, .int 0), (2, .int 0)]) rfl (G_X5_hanging_b4 X hX ad r_kinds r_whole r_marks r_rules r_count r_changed FU 0 0)

def P_X5_ruleOf (r_kinds : Nat → Int32) (r_whole : Nat → Int32) (r_marks : Nat → Int32) (r_rules : Nat → Int32) (r_count : Int32) (r_changed : Bool) : Int32 → Option Value × List AC := fun z => (some (.int z), [.inr (5, [.ref 1, .ref 2, .ref 3, .ref 4, .int r_count, .int (qb r_changed)]), .inl (0, 30, .inl r_kinds), .inl (0, 30, .inl r_whole), .inl (0, 210, .inl r_marks), .inl (0, 6, .inl r_rules)])
set_option maxRecDepth 100000 in
theorem M_X5_ruleOf (l : Launch)  (r_kinds : Nat → Int32) (r_whole : Nat → Int32) (r_marks : Nat → Int32) (r_rules : Nat → Int32) (r_count : Int32) (r_changed : Bool) (p0 : Int32) : QM l yX5_ruleOf cX5_ruleOf 2 (some .int) 0 0 0 (fun _ => True) [.ref 0, .int p0] [.inr (5, [.ref 1, .ref 2, .ref 3, .ref 4, .int r_count, .int (qb r_changed)]), .inl (0, 30, .inl r_kinds), .inl (0, 30, .inl r_whole), .inl (0, 210, .inl r_marks), .inl (0, 6, .inl r_rules)] (F_X5_ruleOf r_rules p0) (P_X5_ruleOf r_kinds r_whole r_marks r_rules r_count r_changed) := by
  refine QM.of (by decide +kernel) (Nat.le_of_ble_eq_true rfl) ?_
  rintro X ad hX _ _ _ _
  refine QG.iload_n hX (qd K_X5_ruleOf 0 rfl) rfl rfl ?_
  refine QG.iconst hX (qd K_X5_ruleOf 1 rfl) rfl ki_2 ?_
  refine QG.icmp_lt (tgt := 19) hX (qd K_X5_ruleOf 2 rfl) rfl (by decide) ?_ ?_
  · refine QG.iconst hX (qd K_X5_ruleOf 11 rfl) rfl ki_m1 ?_
    exact QG.iret hX (qd K_X5_ruleOf 12 rfl) rfl rfl (fun _ _ => rfl)
  · refine QG.iload_n hX (qd K_X5_ruleOf 3 rfl) rfl rfl ?_
    refine QG.iconst hX (qd K_X5_ruleOf 4 rfl) rfl ki_5 ?_
    refine QG.icmp_gt (tgt := 19) hX (qd K_X5_ruleOf 5 rfl) rfl (by decide) ?_ ?_
    · refine QG.iconst hX (qd K_X5_ruleOf 11 rfl) rfl ki_m1 ?_
      exact QG.iret hX (qd K_X5_ruleOf 12 rfl) rfl rfl (fun _ _ => rfl)
    · refine QG.aload_n hX (qd K_X5_ruleOf 6 rfl) rfl rfl ?_
      refine QG.getf hX fl_X5_21 (qd K_X5_ruleOf 7 rfl) rfl rfl rfl ?_
      refine QG.iload_n hX (qd K_X5_ruleOf 8 rfl) rfl rfl ?_
      refine QG.iald hX (qd K_X5_ruleOf 9 rfl) rfl rfl ?_
      refine QG.goto (tgt := 20) hX (qd K_X5_ruleOf 10 rfl) rfl (by decide) ?_
      exact QG.iret hX (qd K_X5_ruleOf 12 rfl) rfl rfl (fun _ _ => rfl)

def P_X5_setRule (r_kinds : Nat → Int32) (r_whole : Nat → Int32) (r_marks : Nat → Int32) (r_count : Int32) : Bool × (Nat → Int32) × Bool → Option Value × List AC := fun z => (some (.int (qb z.1)), [.inr (5, [.ref 1, .ref 2, .ref 3, .ref 4, .int r_count, .int (qb z.2.2)]), .inl (0, 30, .inl r_kinds), .inl (0, 30, .inl r_whole), .inl (0, 210, .inl r_marks), .inl (0, 6, .inl z.2.1)])
set_option maxRecDepth 100000 in
theorem M_X5_setRule (l : Launch)  (r_kinds : Nat → Int32) (r_whole : Nat → Int32) (r_marks : Nat → Int32) (r_rules : Nat → Int32) (r_count : Int32) (r_changed : Bool) (p0 : Int32) (p1 : Int32) : QM l yX5_setRule cX5_setRule 3 (some .boolean) 0 0 0 (fun _ => True) [.ref 0, .int p0, .int p1] [.inr (5, [.ref 1, .ref 2, .ref 3, .ref 4, .int r_count, .int (qb r_changed)]), .inl (0, 30, .inl r_kinds), .inl (0, 30, .inl r_whole), .inl (0, 210, .inl r_marks), .inl (0, 6, .inl r_rules)] (F_X5_setRule r_rules r_changed p0 p1) (P_X5_setRule r_kinds r_whole r_marks r_count) := by
  refine QM.of (by decide +kernel) (Nat.le_of_ble_eq_true rfl) ?_
  rintro X ad hX _ _ _ _
  refine QG.iload_n hX (qd K_X5_setRule 0 rfl) rfl rfl ?_
  refine QG.iconst hX (qd K_X5_setRule 1 rfl) rfl ki_2 ?_
  refine QG.icmp_lt (tgt := 28) hX (qd K_X5_setRule 2 rfl) rfl (by decide) ?_ ?_
  · refine QG.iconst hX (qd K_X5_setRule 16 rfl) rfl ki_0 ?_
    exact QG.zret hX (qd K_X5_setRule 17 rfl) rfl (qb_nar false) rfl (fun _ _ => rfl)
  · refine QG.iload_n hX (qd K_X5_setRule 3 rfl) rfl rfl ?_
    refine QG.iconst hX (qd K_X5_setRule 4 rfl) rfl ki_5 ?_
    refine QG.icmp_gt (tgt := 28) hX (qd K_X5_setRule 5 rfl) rfl (by decide) ?_ ?_
    · refine QG.iconst hX (qd K_X5_setRule 16 rfl) rfl ki_0 ?_
      exact QG.zret hX (qd K_X5_setRule 17 rfl) rfl (qb_nar false) rfl (fun _ _ => rfl)
    · refine QG.iload_n hX (qd K_X5_setRule 6 rfl) rfl rfl ?_
      refine QG.gets hX (fun _ _ _ h => h.2.1) kn_X5_58 (by decide) (qd K_X5_setRule 7 rfl) rfl ?_
      refine QG.iload_n hX (qd K_X5_setRule 8 rfl) rfl rfl ?_
      refine QG.sld hX (fun _ _ _ h => h.2.1) (by decide) (qd K_X5_setRule 9 rfl) rfl ?_
      refine QG.icmp_lt (tgt := 28) hX (qd K_X5_setRule 10 rfl) rfl (by decide) ?_ ?_
      · refine QG.iconst hX (qd K_X5_setRule 16 rfl) rfl ki_0 ?_
        exact QG.zret hX (qd K_X5_setRule 17 rfl) rfl (qb_nar false) rfl (fun _ _ => rfl)
      · refine QG.iload_n hX (qd K_X5_setRule 11 rfl) rfl rfl ?_
        refine QG.gets hX (fun _ _ _ h => h.2.2.1) kn_X5_61 (by decide) (qd K_X5_setRule 12 rfl) rfl ?_
        refine QG.iload_n hX (qd K_X5_setRule 13 rfl) rfl rfl ?_
        refine QG.sld hX (fun _ _ _ h => h.2.2.1) (by decide) (qd K_X5_setRule 14 rfl) rfl ?_
        refine QG.icmp_le (tgt := 30) hX (qd K_X5_setRule 15 rfl) rfl (by decide) ?_ ?_
        · refine QG.aload_n hX (qd K_X5_setRule 18 rfl) rfl rfl ?_
          refine QG.getf hX fl_X5_21 (qd K_X5_setRule 19 rfl) rfl rfl rfl ?_
          refine QG.iload_n hX (qd K_X5_setRule 20 rfl) rfl rfl ?_
          refine QG.iload_n hX (qd K_X5_setRule 21 rfl) rfl rfl ?_
          refine QG.iast (Wd' := [.inr (5, [.ref 1, .ref 2, .ref 3, .ref 4, .int r_count, .int (qb r_changed)]), .inl (0, 30, .inl r_kinds), .inl (0, 30, .inl r_whole), .inl (0, 210, .inl r_marks), .inl (0, 6, .inl (upd r_rules p0.toNatClampNeg p1))]) hX (qd K_X5_setRule 22 rfl) rfl rfl rfl ?_
          refine QG.aload_n hX (qd K_X5_setRule 23 rfl) rfl rfl ?_
          refine QG.iconst hX (qd K_X5_setRule 24 rfl) rfl ki_1 ?_
          refine QG.putf (Wd' := [.inr (5, [.ref 1, .ref 2, .ref 3, .ref 4, .int r_count, .int (qb true)]), .inl (0, 30, .inl r_kinds), .inl (0, 30, .inl r_whole), .inl (0, 210, .inl r_marks), .inl (0, 6, .inl (upd r_rules p0.toNatClampNeg p1))]) hX fl_X5_28 fp_5_5 (qd K_X5_setRule 25 rfl) rfl rfl (Nat.le_of_ble_eq_true rfl) qfit_z1 rfl ?_
          refine QG.iconst hX (qd K_X5_setRule 26 rfl) rfl ki_1 ?_
          exact QG.zret hX (qd K_X5_setRule 27 rfl) rfl (qb_nar true) rfl (fun _ _ => rfl)
        · refine QG.iconst hX (qd K_X5_setRule 16 rfl) rfl ki_0 ?_
          exact QG.zret hX (qd K_X5_setRule 17 rfl) rfl (qb_nar false) rfl (fun _ _ => rfl)


def P_X2_allows (l_count : Int32) (l_letters : Nat → Int32) (l_numbers : Nat → Int32) (l_spots : Nat → Int32) (l_heads : Nat → Int32) (l_nexts : Nat → Int32) (l_waters : Nat → Int32) (l_sides : Nat → Int32) (l_ties : Nat → Int32) (l_lastSpotted : Int32) (l_sizes : Int32) (l_signed : Int32) (l_letter : Int32) : Bool → Option Value × List AC := fun z => (some (.int (qb z)), [.inr (2, [.int l_count, .ref 1, .ref 2, .ref 3, .ref 4, .ref 5, .ref 6, .ref 7, .ref 8, .int l_lastSpotted, .int l_sizes, .int l_signed, .int l_letter]), .inl (0, 30, .inl l_letters), .inl (0, 30, .inl l_numbers), .inl (0, 30, .inl l_spots), .inl (0, 30, .inl l_heads), .inl (0, 30, .inl l_nexts), .inl (0, 30, .inl l_waters), .inl (0, 30, .inl l_sides), .inl (0, 30, .inl l_ties)])
set_option maxRecDepth 100000 in
theorem M_X2_allows (l : Launch)  (l_count : Int32) (l_letters : Nat → Int32) (l_numbers : Nat → Int32) (l_spots : Nat → Int32) (l_heads : Nat → Int32) (l_nexts : Nat → Int32) (l_waters : Nat → Int32) (l_sides : Nat → Int32) (l_ties : Nat → Int32) (l_lastSpotted : Int32) (l_sizes : Int32) (l_signed : Int32) (l_letter : Int32) (p0 : Int32) : QM l yX2_allows cX2_allows 2 (some .boolean) 0 0 0 (fun _ => True) [.ref 0, .int p0] [.inr (2, [.int l_count, .ref 1, .ref 2, .ref 3, .ref 4, .ref 5, .ref 6, .ref 7, .ref 8, .int l_lastSpotted, .int l_sizes, .int l_signed, .int l_letter]), .inl (0, 30, .inl l_letters), .inl (0, 30, .inl l_numbers), .inl (0, 30, .inl l_spots), .inl (0, 30, .inl l_heads), .inl (0, 30, .inl l_nexts), .inl (0, 30, .inl l_waters), .inl (0, 30, .inl l_sides), .inl (0, 30, .inl l_ties)] (F_X2_allows l_sizes p0) (P_X2_allows l_count l_letters l_numbers l_spots l_heads l_nexts l_waters l_sides l_ties l_lastSpotted l_sizes l_signed l_letter) := by
  refine QM.of (by decide +kernel) (Nat.le_of_ble_eq_true rfl) ?_
  rintro X ad hX _ _ _ _
  refine QG.aload_n hX (qd K_X2_allows 0 rfl) rfl rfl ?_
  refine QG.getf hX fl_X2_43 (qd K_X2_allows 1 rfl) rfl rfl rfl ?_
  refine QG.iload_n hX (qd K_X2_allows 2 rfl) rfl rfl ?_
  refine QG.iconst hX (qd K_X2_allows 3 rfl) rfl ki_2 ?_
  refine QG.idivK hX (qd K_X2_allows 4 rfl) rfl (by decide) ?_
  refine QG.iconst hX (qd K_X2_allows 5 rfl) rfl ki_1 ?_
  refine QG.isub hX (qd K_X2_allows 6 rfl) rfl ?_
  refine QG.ishr hX (qd K_X2_allows 7 rfl) rfl ?_
  refine QG.iconst hX (qd K_X2_allows 8 rfl) rfl ki_1 ?_
  refine QG.iand hX (qd K_X2_allows 9 rfl) rfl ?_
  refine QG.if_eq (tgt := 19) hX (qd K_X2_allows 10 rfl) rfl (by decide) ?_ ?_
  · refine QG.iconst hX (qd K_X2_allows 13 rfl) rfl ki_0 ?_
    exact QG.zret hX (qd K_X2_allows 14 rfl) rfl (qb_nar false) rfl (fun _ _ => rfl)
  · refine QG.iconst hX (qd K_X2_allows 11 rfl) rfl ki_1 ?_
    refine QG.goto (tgt := 20) hX (qd K_X2_allows 12 rfl) rfl (by decide) ?_
    exact QG.zret hX (qd K_X2_allows 14 rfl) rfl (qb_nar true) rfl (fun _ _ => rfl)

def P_X2_aheadBy (l_count : Int32) (l_letters : Nat → Int32) (l_numbers : Nat → Int32) (l_spots : Nat → Int32) (l_heads : Nat → Int32) (l_nexts : Nat → Int32) (l_waters : Nat → Int32) (l_sides : Nat → Int32) (l_ties : Nat → Int32) (l_lastSpotted : Int32) (l_sizes : Int32) (l_signed : Int32) (l_letter : Int32) : Int32 → Option Value × List AC := fun z => (some (.int z), [.inr (2, [.int l_count, .ref 1, .ref 2, .ref 3, .ref 4, .ref 5, .ref 6, .ref 7, .ref 8, .int l_lastSpotted, .int l_sizes, .int l_signed, .int l_letter]), .inl (0, 30, .inl l_letters), .inl (0, 30, .inl l_numbers), .inl (0, 30, .inl l_spots), .inl (0, 30, .inl l_heads), .inl (0, 30, .inl l_nexts), .inl (0, 30, .inl l_waters), .inl (0, 30, .inl l_sides), .inl (0, 30, .inl l_ties)])
set_option maxRecDepth 100000 in
theorem M_X2_aheadBy (l : Launch)  (l_count : Int32) (l_letters : Nat → Int32) (l_numbers : Nat → Int32) (l_spots : Nat → Int32) (l_heads : Nat → Int32) (l_nexts : Nat → Int32) (l_waters : Nat → Int32) (l_sides : Nat → Int32) (l_ties : Nat → Int32) (l_lastSpotted : Int32) (l_sizes : Int32) (l_signed : Int32) (l_letter : Int32) (p0 : Int32) (p1 : Int32) : QM l yX2_aheadBy cX2_aheadBy 4 (some .int) 0 0 0 (fun _ => True) [.ref 0, .int p0, .int p1] [.inr (2, [.int l_count, .ref 1, .ref 2, .ref 3, .ref 4, .ref 5, .ref 6, .ref 7, .ref 8, .int l_lastSpotted, .int l_sizes, .int l_signed, .int l_letter]), .inl (0, 30, .inl l_letters), .inl (0, 30, .inl l_numbers), .inl (0, 30, .inl l_spots), .inl (0, 30, .inl l_heads), .inl (0, 30, .inl l_nexts), .inl (0, 30, .inl l_waters), .inl (0, 30, .inl l_sides), .inl (0, 30, .inl l_ties)] (F_X2_aheadBy l_count l_spots p0 p1) (P_X2_aheadBy l_count l_letters l_numbers l_spots l_heads l_nexts l_waters l_sides l_ties l_lastSpotted l_sizes l_signed l_letter) := by
  refine QM.of (by decide +kernel) (Nat.le_of_ble_eq_true rfl) ?_
  rintro X ad hX _ _ _ _
  refine QG.iload_n hX (qd K_X2_aheadBy 0 rfl) rfl rfl ?_
  refine QG.if_lt (tgt := 22) hX (qd K_X2_aheadBy 1 rfl) rfl (by decide) ?_ ?_
  · refine QG.iconst hX (qd K_X2_aheadBy 12 rfl) rfl ki_m1 ?_
    exact QG.iret hX (qd K_X2_aheadBy 13 rfl) rfl rfl (fun _ _ => rfl)
  · refine QG.iload_n hX (qd K_X2_aheadBy 2 rfl) rfl rfl ?_
    refine QG.aload_n hX (qd K_X2_aheadBy 3 rfl) rfl rfl ?_
    refine QG.getf hX fl_X2_9 (qd K_X2_aheadBy 4 rfl) rfl rfl rfl ?_
    refine QG.icmp_ge (tgt := 22) hX (qd K_X2_aheadBy 5 rfl) rfl (by decide) ?_ ?_
    · refine QG.iconst hX (qd K_X2_aheadBy 12 rfl) rfl ki_m1 ?_
      exact QG.iret hX (qd K_X2_aheadBy 13 rfl) rfl rfl (fun _ _ => rfl)
    · refine QG.aload_n hX (qd K_X2_aheadBy 6 rfl) rfl rfl ?_
      refine QG.getf hX fl_X2_22 (qd K_X2_aheadBy 7 rfl) rfl rfl rfl ?_
      refine QG.iload_n hX (qd K_X2_aheadBy 8 rfl) rfl rfl ?_
      refine QG.iald hX (qd K_X2_aheadBy 9 rfl) rfl rfl ?_
      refine QG.iconst hX (qd K_X2_aheadBy 10 rfl) rfl ki_m1 ?_
      refine QG.icmp_ne (tgt := 24) hX (qd K_X2_aheadBy 11 rfl) rfl (by decide) ?_ ?_
      · refine QG.aload_n hX (qd K_X2_aheadBy 14 rfl) rfl rfl ?_
        refine QG.getf hX fl_X2_22 (qd K_X2_aheadBy 15 rfl) rfl rfl rfl ?_
        refine QG.iload_n hX (qd K_X2_aheadBy 16 rfl) rfl rfl ?_
        refine QG.iald hX (qd K_X2_aheadBy 17 rfl) rfl rfl ?_
        refine QG.iload_n hX (qd K_X2_aheadBy 18 rfl) rfl rfl ?_
        refine QG.iconst hX (qd K_X2_aheadBy 19 rfl) rfl ki_1 ?_
        refine QG.isub hX (qd K_X2_aheadBy 20 rfl) rfl ?_
        refine QG.isub hX (qd K_X2_aheadBy 21 rfl) rfl ?_
        refine QG.istore_n (lv' := [(3, .int ((l_spots p0.toNatClampNeg) - (p1 - 1))), (0, .ref 0), (1, .int p0), (2, .int p1)]) hX (qd K_X2_aheadBy 22 rfl) rfl (by decide) rfl ?_
        refine QG.iload_n hX (qd K_X2_aheadBy 23 rfl) rfl rfl ?_
        refine QG.if_lt (tgt := 51) hX (qd K_X2_aheadBy 24 rfl) rfl (by decide) ?_ ?_
        · refine QG.bipush hX (qd K_X2_aheadBy 32 rfl) rfl kb_m2 ?_
          refine QG.goto (tgt := 57) hX (qd K_X2_aheadBy 33 rfl) rfl (by decide) ?_
          exact QG.iret hX (qd K_X2_aheadBy 35 rfl) rfl rfl (fun _ _ => rfl)
        · refine QG.iload_n hX (qd K_X2_aheadBy 25 rfl) rfl rfl ?_
          refine QG.bipush hX (qd K_X2_aheadBy 26 rfl) rfl kb_56 ?_
          refine QG.icmp_gt (tgt := 51) hX (qd K_X2_aheadBy 27 rfl) rfl (by decide) ?_ ?_
          · refine QG.bipush hX (qd K_X2_aheadBy 32 rfl) rfl kb_m2 ?_
            refine QG.goto (tgt := 57) hX (qd K_X2_aheadBy 33 rfl) rfl (by decide) ?_
            exact QG.iret hX (qd K_X2_aheadBy 35 rfl) rfl rfl (fun _ _ => rfl)
          · refine QG.iload_n hX (qd K_X2_aheadBy 28 rfl) rfl rfl ?_
            refine QG.iconst hX (qd K_X2_aheadBy 29 rfl) rfl ki_1 ?_
            refine QG.iand hX (qd K_X2_aheadBy 30 rfl) rfl ?_
            refine QG.if_eq (tgt := 56) hX (qd K_X2_aheadBy 31 rfl) rfl (by decide) ?_ ?_
            · refine QG.iload_n hX (qd K_X2_aheadBy 34 rfl) rfl rfl ?_
              exact QG.iret hX (qd K_X2_aheadBy 35 rfl) rfl rfl (fun _ _ => rfl)
            · refine QG.bipush hX (qd K_X2_aheadBy 32 rfl) rfl kb_m2 ?_
              refine QG.goto (tgt := 57) hX (qd K_X2_aheadBy 33 rfl) rfl (by decide) ?_
              exact QG.iret hX (qd K_X2_aheadBy 35 rfl) rfl rfl (fun _ _ => rfl)
      · refine QG.iconst hX (qd K_X2_aheadBy 12 rfl) rfl ki_m1 ?_
        exact QG.iret hX (qd K_X2_aheadBy 13 rfl) rfl rfl (fun _ _ => rfl)

def P_X2_mayBeAt (l_count : Int32) (l_letters : Nat → Int32) (l_numbers : Nat → Int32) (l_spots : Nat → Int32) (l_heads : Nat → Int32) (l_nexts : Nat → Int32) (l_waters : Nat → Int32) (l_sides : Nat → Int32) (l_ties : Nat → Int32) (l_lastSpotted : Int32) (l_sizes : Int32) (l_signed : Int32) (l_letter : Int32) : Bool → Option Value × List AC := fun z => (some (.int (qb z)), [.inr (2, [.int l_count, .ref 1, .ref 2, .ref 3, .ref 4, .ref 5, .ref 6, .ref 7, .ref 8, .int l_lastSpotted, .int l_sizes, .int l_signed, .int l_letter]), .inl (0, 30, .inl l_letters), .inl (0, 30, .inl l_numbers), .inl (0, 30, .inl l_spots), .inl (0, 30, .inl l_heads), .inl (0, 30, .inl l_nexts), .inl (0, 30, .inl l_waters), .inl (0, 30, .inl l_sides), .inl (0, 30, .inl l_ties)])
set_option maxRecDepth 100000 in
theorem M_X2_mayBeAt (l : Launch)  (l_count : Int32) (l_letters : Nat → Int32) (l_numbers : Nat → Int32) (l_spots : Nat → Int32) (l_heads : Nat → Int32) (l_nexts : Nat → Int32) (l_waters : Nat → Int32) (l_sides : Nat → Int32) (l_ties : Nat → Int32) (l_lastSpotted : Int32) (l_sizes : Int32) (l_signed : Int32) (l_letter : Int32) (p0 : Int32) (p1 : Int32) : QM l yX2_mayBeAt cX2_mayBeAt 3 (some .boolean) 0 0 0 (fun _ => True) [.ref 0, .int p0, .int p1] [.inr (2, [.int l_count, .ref 1, .ref 2, .ref 3, .ref 4, .ref 5, .ref 6, .ref 7, .ref 8, .int l_lastSpotted, .int l_sizes, .int l_signed, .int l_letter]), .inl (0, 30, .inl l_letters), .inl (0, 30, .inl l_numbers), .inl (0, 30, .inl l_spots), .inl (0, 30, .inl l_heads), .inl (0, 30, .inl l_nexts), .inl (0, 30, .inl l_waters), .inl (0, 30, .inl l_sides), .inl (0, 30, .inl l_ties)] (F_X2_mayBeAt l_count l_numbers l_signed p0 p1) (P_X2_mayBeAt l_count l_letters l_numbers l_spots l_heads l_nexts l_waters l_sides l_ties l_lastSpotted l_sizes l_signed l_letter) := by
  refine QM.of (by decide +kernel) (Nat.le_of_ble_eq_true rfl) ?_
  rintro X ad hX _ _ _ _
  refine QG.iload_n hX (qd K_X2_mayBeAt 0 rfl) rfl rfl ?_
  refine QG.if_lt (tgt := 12) hX (qd K_X2_mayBeAt 1 rfl) rfl (by decide) ?_ ?_
  · refine QG.iconst hX (qd K_X2_mayBeAt 6 rfl) rfl ki_0 ?_
    exact QG.zret hX (qd K_X2_mayBeAt 7 rfl) rfl (qb_nar false) rfl (fun _ _ => rfl)
  · refine QG.iload_n hX (qd K_X2_mayBeAt 2 rfl) rfl rfl ?_
    refine QG.aload_n hX (qd K_X2_mayBeAt 3 rfl) rfl rfl ?_
    refine QG.getf hX fl_X2_9 (qd K_X2_mayBeAt 4 rfl) rfl rfl rfl ?_
    refine QG.icmp_lt (tgt := 14) hX (qd K_X2_mayBeAt 5 rfl) rfl (by decide) ?_ ?_
    · refine QG.aload_n hX (qd K_X2_mayBeAt 8 rfl) rfl rfl ?_
      refine QG.getf hX fl_X2_19 (qd K_X2_mayBeAt 9 rfl) rfl rfl rfl ?_
      refine QG.iload_n hX (qd K_X2_mayBeAt 10 rfl) rfl rfl ?_
      refine QG.iald hX (qd K_X2_mayBeAt 11 rfl) rfl rfl ?_
      refine QG.if_eq (tgt := 41) hX (qd K_X2_mayBeAt 12 rfl) rfl (by decide) ?_ ?_
      · refine QG.iconst hX (qd K_X2_mayBeAt 23 rfl) rfl ki_1 ?_
        refine QG.goto (tgt := 46) hX (qd K_X2_mayBeAt 24 rfl) rfl (by decide) ?_
        exact QG.zret hX (qd K_X2_mayBeAt 26 rfl) rfl (qb_nar true) rfl (fun _ _ => rfl)
      · refine QG.aload_n hX (qd K_X2_mayBeAt 13 rfl) rfl rfl ?_
        refine QG.getf hX fl_X2_19 (qd K_X2_mayBeAt 14 rfl) rfl rfl rfl ?_
        refine QG.iload_n hX (qd K_X2_mayBeAt 15 rfl) rfl rfl ?_
        refine QG.iald hX (qd K_X2_mayBeAt 16 rfl) rfl rfl ?_
        refine QG.iload_n hX (qd K_X2_mayBeAt 17 rfl) rfl rfl ?_
        refine QG.icmp_ne (tgt := 45) hX (qd K_X2_mayBeAt 18 rfl) rfl (by decide) ?_ ?_
        · refine QG.iconst hX (qd K_X2_mayBeAt 25 rfl) rfl ki_0 ?_
          exact QG.zret hX (qd K_X2_mayBeAt 26 rfl) rfl (qb_nar false) rfl (fun _ _ => rfl)
        · refine QG.iload_n hX (qd K_X2_mayBeAt 19 rfl) rfl rfl ?_
          refine QG.aload_n hX (qd K_X2_mayBeAt 20 rfl) rfl rfl ?_
          refine QG.getf hX fl_X2_46 (qd K_X2_mayBeAt 21 rfl) rfl rfl rfl ?_
          refine QG.icmp_gt (tgt := 45) hX (qd K_X2_mayBeAt 22 rfl) rfl (by decide) ?_ ?_
          · refine QG.iconst hX (qd K_X2_mayBeAt 25 rfl) rfl ki_0 ?_
            exact QG.zret hX (qd K_X2_mayBeAt 26 rfl) rfl (qb_nar false) rfl (fun _ _ => rfl)
          · refine QG.iconst hX (qd K_X2_mayBeAt 23 rfl) rfl ki_1 ?_
            refine QG.goto (tgt := 46) hX (qd K_X2_mayBeAt 24 rfl) rfl (by decide) ?_
            exact QG.zret hX (qd K_X2_mayBeAt 26 rfl) rfl (qb_nar true) rfl (fun _ _ => rfl)
    · refine QG.iconst hX (qd K_X2_mayBeAt 6 rfl) rfl ki_0 ?_
      exact QG.zret hX (qd K_X2_mayBeAt 7 rfl) rfl (qb_nar false) rfl (fun _ _ => rfl)

def P_X2_clashes (l_count : Int32) (l_letters : Nat → Int32) (l_numbers : Nat → Int32) (l_spots : Nat → Int32) (l_heads : Nat → Int32) (l_nexts : Nat → Int32) (l_waters : Nat → Int32) (l_sides : Nat → Int32) (l_ties : Nat → Int32) (l_lastSpotted : Int32) (l_sizes : Int32) (l_signed : Int32) (l_letter : Int32) : Bool → Option Value × List AC := fun z => (some (.int (qb z)), [.inr (2, [.int l_count, .ref 1, .ref 2, .ref 3, .ref 4, .ref 5, .ref 6, .ref 7, .ref 8, .int l_lastSpotted, .int l_sizes, .int l_signed, .int l_letter]), .inl (0, 30, .inl l_letters), .inl (0, 30, .inl l_numbers), .inl (0, 30, .inl l_spots), .inl (0, 30, .inl l_heads), .inl (0, 30, .inl l_nexts), .inl (0, 30, .inl l_waters), .inl (0, 30, .inl l_sides), .inl (0, 30, .inl l_ties)])
set_option maxRecDepth 100000 in
theorem M_X2_clashes (l : Launch)  (l_count : Int32) (l_letters : Nat → Int32) (l_numbers : Nat → Int32) (l_spots : Nat → Int32) (l_heads : Nat → Int32) (l_nexts : Nat → Int32) (l_waters : Nat → Int32) (l_sides : Nat → Int32) (l_ties : Nat → Int32) (l_lastSpotted : Int32) (l_sizes : Int32) (l_signed : Int32) (l_letter : Int32) (p0 : Int32) : QM l yX2_clashes cX2_clashes 2 (some .boolean) 0 0 0 (fun _ => True) [.ref 0, .int p0] [.inr (2, [.int l_count, .ref 1, .ref 2, .ref 3, .ref 4, .ref 5, .ref 6, .ref 7, .ref 8, .int l_lastSpotted, .int l_sizes, .int l_signed, .int l_letter]), .inl (0, 30, .inl l_letters), .inl (0, 30, .inl l_numbers), .inl (0, 30, .inl l_spots), .inl (0, 30, .inl l_heads), .inl (0, 30, .inl l_nexts), .inl (0, 30, .inl l_waters), .inl (0, 30, .inl l_sides), .inl (0, 30, .inl l_ties)] (F_X2_clashes l_count l_ties p0) (P_X2_clashes l_count l_letters l_numbers l_spots l_heads l_nexts l_waters l_sides l_ties l_lastSpotted l_sizes l_signed l_letter) := by
  refine QM.of (by decide +kernel) (Nat.le_of_ble_eq_true rfl) ?_
  rintro X ad hX _ _ _ _
  refine QG.iload_n hX (qd K_X2_clashes 0 rfl) rfl rfl ?_
  refine QG.if_lt (tgt := 26) hX (qd K_X2_clashes 1 rfl) rfl (by decide) ?_ ?_
  · refine QG.iconst hX (qd K_X2_clashes 14 rfl) rfl ki_0 ?_
    exact QG.zret hX (qd K_X2_clashes 15 rfl) rfl (qb_nar false) rfl (fun _ _ => rfl)
  · refine QG.iload_n hX (qd K_X2_clashes 2 rfl) rfl rfl ?_
    refine QG.aload_n hX (qd K_X2_clashes 3 rfl) rfl rfl ?_
    refine QG.getf hX fl_X2_9 (qd K_X2_clashes 4 rfl) rfl rfl rfl ?_
    refine QG.icmp_ge (tgt := 26) hX (qd K_X2_clashes 5 rfl) rfl (by decide) ?_ ?_
    · refine QG.iconst hX (qd K_X2_clashes 14 rfl) rfl ki_0 ?_
      exact QG.zret hX (qd K_X2_clashes 15 rfl) rfl (qb_nar false) rfl (fun _ _ => rfl)
    · refine QG.aload_n hX (qd K_X2_clashes 6 rfl) rfl rfl ?_
      refine QG.getf hX fl_X2_37 (qd K_X2_clashes 7 rfl) rfl rfl rfl ?_
      refine QG.iload_n hX (qd K_X2_clashes 8 rfl) rfl rfl ?_
      refine QG.iald hX (qd K_X2_clashes 9 rfl) rfl rfl ?_
      refine QG.iconst hX (qd K_X2_clashes 10 rfl) rfl ki_2 ?_
      refine QG.icmp_ne (tgt := 26) hX (qd K_X2_clashes 11 rfl) rfl (by decide) ?_ ?_
      · refine QG.iconst hX (qd K_X2_clashes 14 rfl) rfl ki_0 ?_
        exact QG.zret hX (qd K_X2_clashes 15 rfl) rfl (qb_nar false) rfl (fun _ _ => rfl)
      · refine QG.iconst hX (qd K_X2_clashes 12 rfl) rfl ki_1 ?_
        refine QG.goto (tgt := 27) hX (qd K_X2_clashes 13 rfl) rfl (by decide) ?_
        exact QG.zret hX (qd K_X2_clashes 15 rfl) rfl (qb_nar true) rfl (fun _ _ => rfl)

def P_X2_mayHang (l_count : Int32) (l_letters : Nat → Int32) (l_numbers : Nat → Int32) (l_spots : Nat → Int32) (l_heads : Nat → Int32) (l_nexts : Nat → Int32) (l_waters : Nat → Int32) (l_sides : Nat → Int32) (l_ties : Nat → Int32) (l_lastSpotted : Int32) (l_sizes : Int32) (l_signed : Int32) (l_letter : Int32) : Bool → Option Value × List AC := fun z => (some (.int (qb z)), [.inr (2, [.int l_count, .ref 1, .ref 2, .ref 3, .ref 4, .ref 5, .ref 6, .ref 7, .ref 8, .int l_lastSpotted, .int l_sizes, .int l_signed, .int l_letter]), .inl (0, 30, .inl l_letters), .inl (0, 30, .inl l_numbers), .inl (0, 30, .inl l_spots), .inl (0, 30, .inl l_heads), .inl (0, 30, .inl l_nexts), .inl (0, 30, .inl l_waters), .inl (0, 30, .inl l_sides), .inl (0, 30, .inl l_ties)])
set_option maxRecDepth 100000 in
theorem G_X2_mayHang_b61 (X : QX) (hX : qok X cX2_mayHang RX2 3 (some .boolean) 0) (ad : Nat → Nat) (l_count : Int32) (l_letters : Nat → Int32) (l_numbers : Nat → Int32) (l_spots : Nat → Int32) (l_heads : Nat → Int32) (l_nexts : Nat → Int32) (l_waters : Nat → Int32) (l_sides : Nat → Int32) (l_ties : Nat → Int32) (l_lastSpotted : Int32) (l_sizes : Int32) (l_signed : Int32) (l_letter : Int32) (x1 : Int32) (x2 : Int32) : QG X 3 (qQ X ad 9 (P_X2_mayHang l_count l_letters l_numbers l_spots l_heads l_nexts l_waters l_sides l_ties l_lastSpotted l_sizes l_signed l_letter) 0 0) (F_X2_mayHang_b61 l_sides x1 x2) 61 [(0, .ref 0), (1, .int x1), (2, .int x2)] [] [.inr (2, [.int l_count, .ref 1, .ref 2, .ref 3, .ref 4, .ref 5, .ref 6, .ref 7, .ref 8, .int l_lastSpotted, .int l_sizes, .int l_signed, .int l_letter]), .inl (0, 30, .inl l_letters), .inl (0, 30, .inl l_numbers), .inl (0, 30, .inl l_spots), .inl (0, 30, .inl l_heads), .inl (0, 30, .inl l_nexts), .inl (0, 30, .inl l_waters), .inl (0, 30, .inl l_sides), .inl (0, 30, .inl l_ties)] ad 0 0 := by
  refine QG.aload_n hX (qd K_X2_mayHang 35 rfl) rfl rfl ?_
  refine QG.getf hX fl_X2_34 (qd K_X2_mayHang 36 rfl) rfl rfl rfl ?_
  refine QG.iload_n hX (qd K_X2_mayHang 37 rfl) rfl rfl ?_
  refine QG.iald hX (qd K_X2_mayHang 38 rfl) rfl rfl ?_
  refine QG.if_eq (tgt := 85) hX (qd K_X2_mayHang 39 rfl) rfl (by decide) ?_ ?_
  · refine QG.iconst hX (qd K_X2_mayHang 49 rfl) rfl ki_1 ?_
    refine QG.goto (tgt := 90) hX (qd K_X2_mayHang 50 rfl) rfl (by decide) ?_
    exact QG.zret hX (qd K_X2_mayHang 52 rfl) rfl (qb_nar true) rfl (fun _ _ => rfl)
  · refine QG.aload_n hX (qd K_X2_mayHang 40 rfl) rfl rfl ?_
    refine QG.getf hX fl_X2_34 (qd K_X2_mayHang 41 rfl) rfl rfl rfl ?_
    refine QG.iload_n hX (qd K_X2_mayHang 42 rfl) rfl rfl ?_
    refine QG.iald hX (qd K_X2_mayHang 43 rfl) rfl rfl ?_
    refine QG.aload_n hX (qd K_X2_mayHang 44 rfl) rfl rfl ?_
    refine QG.getf hX fl_X2_34 (qd K_X2_mayHang 45 rfl) rfl rfl rfl ?_
    refine QG.iload_n hX (qd K_X2_mayHang 46 rfl) rfl rfl ?_
    refine QG.iald hX (qd K_X2_mayHang 47 rfl) rfl rfl ?_
    refine QG.icmp_eq (tgt := 89) hX (qd K_X2_mayHang 48 rfl) rfl (by decide) ?_ ?_
    · refine QG.iconst hX (qd K_X2_mayHang 51 rfl) rfl ki_0 ?_
      exact QG.zret hX (qd K_X2_mayHang 52 rfl) rfl (qb_nar false) rfl (fun _ _ => rfl)
    · refine QG.iconst hX (qd K_X2_mayHang 49 rfl) rfl ki_1 ?_
      refine QG.goto (tgt := 90) hX (qd K_X2_mayHang 50 rfl) rfl (by decide) ?_
      exact QG.zret hX (qd K_X2_mayHang 52 rfl) rfl (qb_nar true) rfl (fun _ _ => rfl)

set_option maxRecDepth 100000 in
theorem M_X2_mayHang (l : Launch)  (l_count : Int32) (l_letters : Nat → Int32) (l_numbers : Nat → Int32) (l_spots : Nat → Int32) (l_heads : Nat → Int32) (l_nexts : Nat → Int32) (l_waters : Nat → Int32) (l_sides : Nat → Int32) (l_ties : Nat → Int32) (l_lastSpotted : Int32) (l_sizes : Int32) (l_signed : Int32) (l_letter : Int32) (p0 : Int32) (p1 : Int32) : QM l yX2_mayHang cX2_mayHang 3 (some .boolean) 0 0 0 (fun _ => True) [.ref 0, .int p0, .int p1] [.inr (2, [.int l_count, .ref 1, .ref 2, .ref 3, .ref 4, .ref 5, .ref 6, .ref 7, .ref 8, .int l_lastSpotted, .int l_sizes, .int l_signed, .int l_letter]), .inl (0, 30, .inl l_letters), .inl (0, 30, .inl l_numbers), .inl (0, 30, .inl l_spots), .inl (0, 30, .inl l_heads), .inl (0, 30, .inl l_nexts), .inl (0, 30, .inl l_waters), .inl (0, 30, .inl l_sides), .inl (0, 30, .inl l_ties)] (F_X2_mayHang l_count l_waters l_sides p0 p1) (P_X2_mayHang l_count l_letters l_numbers l_spots l_heads l_nexts l_waters l_sides l_ties l_lastSpotted l_sizes l_signed l_letter) := by
  refine QM.of (by decide +kernel) (Nat.le_of_ble_eq_true rfl) ?_
  rintro X ad hX _ _ _ _
  refine QG.iload_n hX (qd K_X2_mayHang 0 rfl) rfl rfl ?_
  refine QG.if_lt (tgt := 24) hX (qd K_X2_mayHang 1 rfl) rfl (by decide) ?_ ?_
  · refine QG.iconst hX (qd K_X2_mayHang 12 rfl) rfl ki_1 ?_
    exact QG.zret hX (qd K_X2_mayHang 13 rfl) rfl (qb_nar true) rfl (fun _ _ => rfl)
  · refine QG.iload_n hX (qd K_X2_mayHang 2 rfl) rfl rfl ?_
    refine QG.aload_n hX (qd K_X2_mayHang 3 rfl) rfl rfl ?_
    refine QG.getf hX fl_X2_9 (qd K_X2_mayHang 4 rfl) rfl rfl rfl ?_
    refine QG.icmp_ge (tgt := 24) hX (qd K_X2_mayHang 5 rfl) rfl (by decide) ?_ ?_
    · refine QG.iconst hX (qd K_X2_mayHang 12 rfl) rfl ki_1 ?_
      exact QG.zret hX (qd K_X2_mayHang 13 rfl) rfl (qb_nar true) rfl (fun _ _ => rfl)
    · refine QG.iload_n hX (qd K_X2_mayHang 6 rfl) rfl rfl ?_
      refine QG.if_lt (tgt := 24) hX (qd K_X2_mayHang 7 rfl) rfl (by decide) ?_ ?_
      · refine QG.iconst hX (qd K_X2_mayHang 12 rfl) rfl ki_1 ?_
        exact QG.zret hX (qd K_X2_mayHang 13 rfl) rfl (qb_nar true) rfl (fun _ _ => rfl)
      · refine QG.iload_n hX (qd K_X2_mayHang 8 rfl) rfl rfl ?_
        refine QG.aload_n hX (qd K_X2_mayHang 9 rfl) rfl rfl ?_
        refine QG.getf hX fl_X2_9 (qd K_X2_mayHang 10 rfl) rfl rfl rfl ?_
        refine QG.icmp_lt (tgt := 26) hX (qd K_X2_mayHang 11 rfl) rfl (by decide) ?_ ?_
        · refine QG.aload_n hX (qd K_X2_mayHang 14 rfl) rfl rfl ?_
          refine QG.getf hX fl_X2_31 (qd K_X2_mayHang 15 rfl) rfl rfl rfl ?_
          refine QG.iload_n hX (qd K_X2_mayHang 16 rfl) rfl rfl ?_
          refine QG.iald hX (qd K_X2_mayHang 17 rfl) rfl rfl ?_
          refine QG.if_eq (tgt := 61) hX (qd K_X2_mayHang 18 rfl) rfl (by decide) ?_ ?_
          · exact QG.jmp (lv' := [(0, .ref 0), (1, .int p0), (2, .int p1)]) rfl (G_X2_mayHang_b61 X hX ad l_count l_letters l_numbers l_spots l_heads l_nexts l_waters l_sides l_ties l_lastSpotted l_sizes l_signed l_letter p0 p1)
          · refine QG.aload_n hX (qd K_X2_mayHang 19 rfl) rfl rfl ?_
            refine QG.getf hX fl_X2_31 (qd K_X2_mayHang 20 rfl) rfl rfl rfl ?_
            refine QG.iload_n hX (qd K_X2_mayHang 21 rfl) rfl rfl ?_
            refine QG.iald hX (qd K_X2_mayHang 22 rfl) rfl rfl ?_
            refine QG.if_eq (tgt := 61) hX (qd K_X2_mayHang 23 rfl) rfl (by decide) ?_ ?_
            · exact QG.jmp (lv' := [(0, .ref 0), (1, .int p0), (2, .int p1)]) rfl (G_X2_mayHang_b61 X hX ad l_count l_letters l_numbers l_spots l_heads l_nexts l_waters l_sides l_ties l_lastSpotted l_sizes l_signed l_letter p0 p1)
            · refine QG.aload_n hX (qd K_X2_mayHang 24 rfl) rfl rfl ?_
              refine QG.getf hX fl_X2_31 (qd K_X2_mayHang 25 rfl) rfl rfl rfl ?_
              refine QG.iload_n hX (qd K_X2_mayHang 26 rfl) rfl rfl ?_
              refine QG.iald hX (qd K_X2_mayHang 27 rfl) rfl rfl ?_
              refine QG.aload_n hX (qd K_X2_mayHang 28 rfl) rfl rfl ?_
              refine QG.getf hX fl_X2_31 (qd K_X2_mayHang 29 rfl) rfl rfl rfl ?_
              refine QG.iload_n hX (qd K_X2_mayHang 30 rfl) rfl rfl ?_
              refine QG.iald hX (qd K_X2_mayHang 31 rfl) rfl rfl ?_
              refine QG.icmp_eq (tgt := 61) hX (qd K_X2_mayHang 32 rfl) rfl (by decide) ?_ ?_
              · exact QG.jmp (lv' := [(0, .ref 0), (1, .int p0), (2, .int p1)]) rfl (G_X2_mayHang_b61 X hX ad l_count l_letters l_numbers l_spots l_heads l_nexts l_waters l_sides l_ties l_lastSpotted l_sizes l_signed l_letter p0 p1)
              · refine QG.iconst hX (qd K_X2_mayHang 33 rfl) rfl ki_0 ?_
                exact QG.zret hX (qd K_X2_mayHang 34 rfl) rfl (qb_nar false) rfl (fun _ _ => rfl)
        · refine QG.iconst hX (qd K_X2_mayHang 12 rfl) rfl ki_1 ?_
          exact QG.zret hX (qd K_X2_mayHang 13 rfl) rfl (qb_nar true) rfl (fun _ _ => rfl)

def P_X2_spotOf : Int32 → Option Value × List AC := fun z => (some (.int z), [])
set_option maxRecDepth 100000 in
theorem M_X2_spotOf (l : Launch)  (p0 : Int32) (p1 : Int32) : QM l yX2_spotOf cX2_spotOf 3 (some .int) 0 0 0 (fun _ => True) [.int p0, .int p1] [] (F_X2_spotOf p0 p1) (P_X2_spotOf) := by
  refine QM.of (by decide +kernel) (Nat.le_of_ble_eq_true rfl) ?_
  rintro X ad hX _ _ _ _
  refine QG.iload_n hX (qd K_X2_spotOf 0 rfl) rfl rfl ?_
  refine QG.if_le (tgt := 8) hX (qd K_X2_spotOf 1 rfl) rfl (by decide) ?_ ?_
  · refine QG.iconst hX (qd K_X2_spotOf 4 rfl) rfl ki_m1 ?_
    exact QG.iret hX (qd K_X2_spotOf 5 rfl) rfl rfl (fun _ _ => rfl)
  · refine QG.iload_n hX (qd K_X2_spotOf 2 rfl) rfl rfl ?_
    refine QG.if_gt (tgt := 10) hX (qd K_X2_spotOf 3 rfl) rfl (by decide) ?_ ?_
    · refine QG.iload_n hX (qd K_X2_spotOf 6 rfl) rfl rfl ?_
      refine QG.iload_n hX (qd K_X2_spotOf 7 rfl) rfl rfl ?_
      refine QG.isub hX (qd K_X2_spotOf 8 rfl) rfl ?_
      refine QG.istore_n (lv' := [(2, .int (p0 - p1)), (0, .int p0), (1, .int p1)]) hX (qd K_X2_spotOf 9 rfl) rfl (by decide) rfl ?_
      refine QG.iload_n hX (qd K_X2_spotOf 10 rfl) rfl rfl ?_
      refine QG.if_lt (tgt := 24) hX (qd K_X2_spotOf 11 rfl) rfl (by decide) ?_ ?_
      · refine QG.bipush hX (qd K_X2_spotOf 16 rfl) rfl kb_m2 ?_
        refine QG.goto (tgt := 32) hX (qd K_X2_spotOf 17 rfl) rfl (by decide) ?_
        exact QG.iret hX (qd K_X2_spotOf 21 rfl) rfl rfl (fun _ _ => rfl)
      · refine QG.iload_n hX (qd K_X2_spotOf 12 rfl) rfl rfl ?_
        refine QG.iconst hX (qd K_X2_spotOf 13 rfl) rfl ki_1 ?_
        refine QG.iand hX (qd K_X2_spotOf 14 rfl) rfl ?_
        refine QG.if_eq (tgt := 29) hX (qd K_X2_spotOf 15 rfl) rfl (by decide) ?_ ?_
        · refine QG.iload_n hX (qd K_X2_spotOf 18 rfl) rfl rfl ?_
          refine QG.iconst hX (qd K_X2_spotOf 19 rfl) rfl ki_1 ?_
          refine QG.ishr hX (qd K_X2_spotOf 20 rfl) rfl ?_
          exact QG.iret hX (qd K_X2_spotOf 21 rfl) rfl rfl (fun _ _ => rfl)
        · refine QG.bipush hX (qd K_X2_spotOf 16 rfl) rfl kb_m2 ?_
          refine QG.goto (tgt := 32) hX (qd K_X2_spotOf 17 rfl) rfl (by decide) ?_
          exact QG.iret hX (qd K_X2_spotOf 21 rfl) rfl rfl (fun _ _ => rfl)
    · refine QG.iconst hX (qd K_X2_spotOf 4 rfl) rfl ki_m1 ?_
      exact QG.iret hX (qd K_X2_spotOf 5 rfl) rfl rfl (fun _ _ => rfl)

def P_X2_judge (l_count : Int32) (l_letters : Nat → Int32) (l_numbers : Nat → Int32) (l_nexts : Nat → Int32) (l_waters : Nat → Int32) (l_sides : Nat → Int32) (l_lastSpotted : Int32) (l_sizes : Int32) (l_signed : Int32) (l_letter : Int32) (r_kinds : Nat → Int32) (r_whole : Nat → Int32) (r_marks : Nat → Int32) (r_rules : Nat → Int32) (r_count : Int32) (r_changed : Bool) : (Nat → Int32) × (Nat → Int32) × (Nat → Int32) → Option Value × List AC := fun z => (none, [.inr (2, [.int l_count, .ref 1, .ref 2, .ref 3, .ref 4, .ref 5, .ref 6, .ref 7, .ref 8, .int l_lastSpotted, .int l_sizes, .int l_signed, .int l_letter]), .inl (0, 30, .inl l_letters), .inl (0, 30, .inl l_numbers), .inl (0, 30, .inl z.1), .inl (0, 30, .inl z.2.1), .inl (0, 30, .inl l_nexts), .inl (0, 30, .inl l_waters), .inl (0, 30, .inl l_sides), .inl (0, 30, .inl z.2.2), .inr (5, [.ref 10, .ref 11, .ref 12, .ref 13, .int r_count, .int (qb r_changed)]), .inl (0, 30, .inl r_kinds), .inl (0, 30, .inl r_whole), .inl (0, 210, .inl r_marks), .inl (0, 6, .inl r_rules)])
set_option maxRecDepth 100000 in
theorem G_X2_judge_b106 (X : QX) (hX : qok X cX2_judge RX2 7 none 2) (ad : Nat → Nat) (l_count : Int32) (l_letters : Nat → Int32) (l_numbers : Nat → Int32) (l_nexts : Nat → Int32) (l_waters : Nat → Int32) (l_sides : Nat → Int32) (l_lastSpotted : Int32) (l_sizes : Int32) (l_signed : Int32) (l_letter : Int32) (r_kinds : Nat → Int32) (r_whole : Nat → Int32) (r_marks : Nat → Int32) (r_rules : Nat → Int32) (r_count : Int32) (r_changed : Bool) (l_spots : Nat → Int32) (l_heads : Nat → Int32) (l_ties : Nat → Int32) (x1 : Int32) : QG X 7 (qQ X ad 14 (P_X2_judge l_count l_letters l_numbers l_nexts l_waters l_sides l_lastSpotted l_sizes l_signed l_letter r_kinds r_whole r_marks r_rules r_count r_changed) 0 0) (F_X2_judge_b106 l_nexts l_spots l_heads l_ties x1) 106 [(0, .ref 0), (1, .int x1)] [] [.inr (2, [.int l_count, .ref 1, .ref 2, .ref 3, .ref 4, .ref 5, .ref 6, .ref 7, .ref 8, .int l_lastSpotted, .int l_sizes, .int l_signed, .int l_letter]), .inl (0, 30, .inl l_letters), .inl (0, 30, .inl l_numbers), .inl (0, 30, .inl l_spots), .inl (0, 30, .inl l_heads), .inl (0, 30, .inl l_nexts), .inl (0, 30, .inl l_waters), .inl (0, 30, .inl l_sides), .inl (0, 30, .inl l_ties), .inr (5, [.ref 10, .ref 11, .ref 12, .ref 13, .int r_count, .int (qb r_changed)]), .inl (0, 30, .inl r_kinds), .inl (0, 30, .inl r_whole), .inl (0, 210, .inl r_marks), .inl (0, 6, .inl r_rules)] ad 0 0 := by
  refine QG.aload_n hX (qd K_X2_judge 63 rfl) rfl rfl ?_
  refine QG.getf hX fl_X2_37 (qd K_X2_judge 64 rfl) rfl rfl rfl ?_
  refine QG.iload_n hX (qd K_X2_judge 65 rfl) rfl rfl ?_
  refine QG.iconst hX (qd K_X2_judge 66 rfl) rfl ki_0 ?_
  refine QG.iast (Wd' := [.inr (2, [.int l_count, .ref 1, .ref 2, .ref 3, .ref 4, .ref 5, .ref 6, .ref 7, .ref 8, .int l_lastSpotted, .int l_sizes, .int l_signed, .int l_letter]), .inl (0, 30, .inl l_letters), .inl (0, 30, .inl l_numbers), .inl (0, 30, .inl l_spots), .inl (0, 30, .inl l_heads), .inl (0, 30, .inl l_nexts), .inl (0, 30, .inl l_waters), .inl (0, 30, .inl l_sides), .inl (0, 30, .inl (upd l_ties x1.toNatClampNeg 0)), .inr (5, [.ref 10, .ref 11, .ref 12, .ref 13, .int r_count, .int (qb r_changed)]), .inl (0, 30, .inl r_kinds), .inl (0, 30, .inl r_whole), .inl (0, 210, .inl r_marks), .inl (0, 6, .inl r_rules)]) hX (qd K_X2_judge 67 rfl) rfl rfl rfl ?_
  refine QG.iload_n hX (qd K_X2_judge 68 rfl) rfl rfl ?_
  refine QG.if_le (tgt := 165) hX (qd K_X2_judge 69 rfl) rfl (by decide) ?_ ?_
  · exact QG.vret hX (qd K_X2_judge 100 rfl) rfl rfl (fun _ _ => rfl)
  · refine QG.aload_n hX (qd K_X2_judge 70 rfl) rfl rfl ?_
    refine QG.getf hX fl_X2_28 (qd K_X2_judge 71 rfl) rfl rfl rfl ?_
    refine QG.iload_n hX (qd K_X2_judge 72 rfl) rfl rfl ?_
    refine QG.iconst hX (qd K_X2_judge 73 rfl) rfl ki_1 ?_
    refine QG.isub hX (qd K_X2_judge 74 rfl) rfl ?_
    refine QG.iald hX (qd K_X2_judge 75 rfl) rfl rfl ?_
    refine QG.if_eq (tgt := 165) hX (qd K_X2_judge 76 rfl) rfl (by decide) ?_ ?_
    · exact QG.vret hX (qd K_X2_judge 100 rfl) rfl rfl (fun _ _ => rfl)
    · refine QG.aload_n hX (qd K_X2_judge 77 rfl) rfl rfl ?_
      refine QG.getf hX fl_X2_25 (qd K_X2_judge 78 rfl) rfl rfl rfl ?_
      refine QG.iload_n hX (qd K_X2_judge 79 rfl) rfl rfl ?_
      refine QG.iald hX (qd K_X2_judge 80 rfl) rfl rfl ?_
      refine QG.if_eq (tgt := 165) hX (qd K_X2_judge 81 rfl) rfl (by decide) ?_ ?_
      · exact QG.vret hX (qd K_X2_judge 100 rfl) rfl rfl (fun _ _ => rfl)
      · refine QG.aload_n hX (qd K_X2_judge 82 rfl) rfl rfl ?_
        refine QG.getf hX fl_X2_37 (qd K_X2_judge 83 rfl) rfl rfl rfl ?_
        refine QG.iload_n hX (qd K_X2_judge 84 rfl) rfl rfl ?_
        refine QG.aload_n hX (qd K_X2_judge 85 rfl) rfl rfl ?_
        refine QG.getf hX fl_X2_28 (qd K_X2_judge 86 rfl) rfl rfl rfl ?_
        refine QG.iload_n hX (qd K_X2_judge 87 rfl) rfl rfl ?_
        refine QG.iconst hX (qd K_X2_judge 88 rfl) rfl ki_1 ?_
        refine QG.isub hX (qd K_X2_judge 89 rfl) rfl ?_
        refine QG.iald hX (qd K_X2_judge 90 rfl) rfl rfl ?_
        refine QG.aload_n hX (qd K_X2_judge 91 rfl) rfl rfl ?_
        refine QG.getf hX fl_X2_25 (qd K_X2_judge 92 rfl) rfl rfl rfl ?_
        refine QG.iload_n hX (qd K_X2_judge 93 rfl) rfl rfl ?_
        refine QG.iald hX (qd K_X2_judge 94 rfl) rfl rfl ?_
        refine QG.icmp_ne (tgt := 163) hX (qd K_X2_judge 95 rfl) rfl (by decide) ?_ ?_
        · refine QG.iconst hX (qd K_X2_judge 98 rfl) rfl ki_2 ?_
          refine QG.iast (Wd' := [.inr (2, [.int l_count, .ref 1, .ref 2, .ref 3, .ref 4, .ref 5, .ref 6, .ref 7, .ref 8, .int l_lastSpotted, .int l_sizes, .int l_signed, .int l_letter]), .inl (0, 30, .inl l_letters), .inl (0, 30, .inl l_numbers), .inl (0, 30, .inl l_spots), .inl (0, 30, .inl l_heads), .inl (0, 30, .inl l_nexts), .inl (0, 30, .inl l_waters), .inl (0, 30, .inl l_sides), .inl (0, 30, .inl (upd (upd l_ties x1.toNatClampNeg 0) x1.toNatClampNeg 2)), .inr (5, [.ref 10, .ref 11, .ref 12, .ref 13, .int r_count, .int (qb r_changed)]), .inl (0, 30, .inl r_kinds), .inl (0, 30, .inl r_whole), .inl (0, 210, .inl r_marks), .inl (0, 6, .inl r_rules)]) hX (qd K_X2_judge 99 rfl) rfl rfl rfl ?_
          exact QG.vret hX (qd K_X2_judge 100 rfl) rfl rfl (fun _ _ => rfl)
        · refine QG.iconst hX (qd K_X2_judge 96 rfl) rfl ki_1 ?_
          refine QG.goto (tgt := 164) hX (qd K_X2_judge 97 rfl) rfl (by decide) ?_
          refine QG.iast (Wd' := [.inr (2, [.int l_count, .ref 1, .ref 2, .ref 3, .ref 4, .ref 5, .ref 6, .ref 7, .ref 8, .int l_lastSpotted, .int l_sizes, .int l_signed, .int l_letter]), .inl (0, 30, .inl l_letters), .inl (0, 30, .inl l_numbers), .inl (0, 30, .inl l_spots), .inl (0, 30, .inl l_heads), .inl (0, 30, .inl l_nexts), .inl (0, 30, .inl l_waters), .inl (0, 30, .inl l_sides), .inl (0, 30, .inl (upd (upd l_ties x1.toNatClampNeg 0) x1.toNatClampNeg 1)), .inr (5, [.ref 10, .ref 11, .ref 12, .ref 13, .int r_count, .int (qb r_changed)]), .inl (0, 30, .inl r_kinds), .inl (0, 30, .inl r_whole), .inl (0, 210, .inl r_marks), .inl (0, 6, .inl r_rules)]) hX (qd K_X2_judge 99 rfl) rfl rfl rfl ?_
          exact QG.vret hX (qd K_X2_judge 100 rfl) rfl rfl (fun _ _ => rfl)

set_option maxRecDepth 100000 in
theorem G_X2_judge_b78 (X : QX) (hX : qok X cX2_judge RX2 7 none 2) (ad : Nat → Nat) (l_count : Int32) (l_letters : Nat → Int32) (l_numbers : Nat → Int32) (l_nexts : Nat → Int32) (l_waters : Nat → Int32) (l_sides : Nat → Int32) (l_lastSpotted : Int32) (l_sizes : Int32) (l_signed : Int32) (l_letter : Int32) (r_kinds : Nat → Int32) (r_whole : Nat → Int32) (r_marks : Nat → Int32) (r_rules : Nat → Int32) (r_count : Int32) (r_changed : Bool) (l_spots : Nat → Int32) (l_heads : Nat → Int32) (l_ties : Nat → Int32) (x1 : Int32) (x3 : Int32) (x5 : Int32) : QG X 7 (qQ X ad 14 (P_X2_judge l_count l_letters l_numbers l_nexts l_waters l_sides l_lastSpotted l_sizes l_signed l_letter r_kinds r_whole r_marks r_rules r_count r_changed) 0 0) (F_X2_judge_b78 l_nexts r_marks r_count l_spots l_heads l_ties x1 x3 x5) 78 [(0, .ref 0), (1, .int x1), (2, .ref 9), (3, .int x3), (5, .int x5)] [] [.inr (2, [.int l_count, .ref 1, .ref 2, .ref 3, .ref 4, .ref 5, .ref 6, .ref 7, .ref 8, .int l_lastSpotted, .int l_sizes, .int l_signed, .int l_letter]), .inl (0, 30, .inl l_letters), .inl (0, 30, .inl l_numbers), .inl (0, 30, .inl l_spots), .inl (0, 30, .inl l_heads), .inl (0, 30, .inl l_nexts), .inl (0, 30, .inl l_waters), .inl (0, 30, .inl l_sides), .inl (0, 30, .inl l_ties), .inr (5, [.ref 10, .ref 11, .ref 12, .ref 13, .int r_count, .int (qb r_changed)]), .inl (0, 30, .inl r_kinds), .inl (0, 30, .inl r_whole), .inl (0, 210, .inl r_marks), .inl (0, 6, .inl r_rules)] ad 0 0 := by
  refine QG.aload_n hX (qd K_X2_judge 46 rfl) rfl rfl ?_
  refine QG.getf hX fl_X2_22 (qd K_X2_judge 47 rfl) rfl rfl rfl ?_
  refine QG.iload_n hX (qd K_X2_judge 48 rfl) rfl rfl ?_
  refine QG.aload_n hX (qd K_X2_judge 49 rfl) rfl rfl ?_
  refine QG.getf hX fl_X2_22 (qd K_X2_judge 50 rfl) rfl rfl rfl ?_
  refine QG.iload_n hX (qd K_X2_judge 51 rfl) rfl rfl ?_
  refine QG.iald hX (qd K_X2_judge 52 rfl) rfl rfl ?_
  refine QG.aload_n hX (qd K_X2_judge 53 rfl) rfl rfl ?_
  refine QG.iload_n hX (qd K_X2_judge 54 rfl) rfl rfl ?_
  refine QG.iconst hX (qd K_X2_judge 55 rfl) rfl ki_1 ?_
  refine QG.iadd hX (qd K_X2_judge 56 rfl) rfl ?_
  refine QG.iconst hX (qd K_X2_judge 57 rfl) rfl ki_2 ?_
  refine QG.callV (rest := [.int (l_spots x1.toNatClampNeg), .int x1, .ref 3]) [9, 10, 11, 12, 13] hX cw_X2_66 (M_X5_markOf X.l r_kinds r_whole r_marks r_rules r_count r_changed (x3 + 1) 2) trivial (by decide) (by decide) (qd K_X2_judge 58 rfl) rfl ⟨Nat.zero_le _, Nat.zero_le _⟩ rfl rfl rfl rfl (Nat.le_of_ble_eq_true rfl) rfl rfl (fun _ => rfl) (fun c94 => ?_)
  show QG X 7 _ _ 97 _ [.int c94, .int (l_spots x1.toNatClampNeg), .int x1, .ref 3] [.inr (2, [.int l_count, .ref 1, .ref 2, .ref 3, .ref 4, .ref 5, .ref 6, .ref 7, .ref 8, .int l_lastSpotted, .int l_sizes, .int l_signed, .int l_letter]), .inl (0, 30, .inl l_letters), .inl (0, 30, .inl l_numbers), .inl (0, 30, .inl l_spots), .inl (0, 30, .inl l_heads), .inl (0, 30, .inl l_nexts), .inl (0, 30, .inl l_waters), .inl (0, 30, .inl l_sides), .inl (0, 30, .inl l_ties), .inr (5, [.ref 10, .ref 11, .ref 12, .ref 13, .int r_count, .int (qb r_changed)]), .inl (0, 30, .inl r_kinds), .inl (0, 30, .inl r_whole), .inl (0, 210, .inl r_marks), .inl (0, 6, .inl r_rules)] ad 0 0
  refine QG.iload hX (qd K_X2_judge 59 rfl) rfl rfl ?_
  refine QG.callS (rest := [.int (l_spots x1.toNatClampNeg), .int x1, .ref 3]) [] hX cw_X2_77 (M_X2_spotOf X.l c94 x5) trivial (by decide) (by decide) (qd K_X2_judge 60 rfl) rfl ⟨Nat.zero_le _, Nat.zero_le _⟩ rfl rfl (Nat.le_of_ble_eq_true rfl) rfl rfl (fun _ => rfl) (fun c99 => ?_)
  show QG X 7 _ _ 102 _ [.int c99, .int (l_spots x1.toNatClampNeg), .int x1, .ref 3] [.inr (2, [.int l_count, .ref 1, .ref 2, .ref 3, .ref 4, .ref 5, .ref 6, .ref 7, .ref 8, .int l_lastSpotted, .int l_sizes, .int l_signed, .int l_letter]), .inl (0, 30, .inl l_letters), .inl (0, 30, .inl l_numbers), .inl (0, 30, .inl l_spots), .inl (0, 30, .inl l_heads), .inl (0, 30, .inl l_nexts), .inl (0, 30, .inl l_waters), .inl (0, 30, .inl l_sides), .inl (0, 30, .inl l_ties), .inr (5, [.ref 10, .ref 11, .ref 12, .ref 13, .int r_count, .int (qb r_changed)]), .inl (0, 30, .inl r_kinds), .inl (0, 30, .inl r_whole), .inl (0, 210, .inl r_marks), .inl (0, 6, .inl r_rules)] ad 0 0
  refine QG.callN (rest := [.int x1, .ref 3]) [] hX cw_X2_80 (M_X7_together X.l (l_spots x1.toNatClampNeg) c99) trivial (by decide) (by decide) (qd K_X2_judge 61 rfl) rfl ⟨Nat.zero_le _, Nat.zero_le _⟩ rfl rfl (Nat.le_of_ble_eq_true rfl) rfl rfl (fun _ => rfl) (fun c102 => ?_)
  show QG X 7 _ _ 105 _ [.int c102, .int x1, .ref 3] [.inr (2, [.int l_count, .ref 1, .ref 2, .ref 3, .ref 4, .ref 5, .ref 6, .ref 7, .ref 8, .int l_lastSpotted, .int l_sizes, .int l_signed, .int l_letter]), .inl (0, 30, .inl l_letters), .inl (0, 30, .inl l_numbers), .inl (0, 30, .inl l_spots), .inl (0, 30, .inl l_heads), .inl (0, 30, .inl l_nexts), .inl (0, 30, .inl l_waters), .inl (0, 30, .inl l_sides), .inl (0, 30, .inl l_ties), .inr (5, [.ref 10, .ref 11, .ref 12, .ref 13, .int r_count, .int (qb r_changed)]), .inl (0, 30, .inl r_kinds), .inl (0, 30, .inl r_whole), .inl (0, 210, .inl r_marks), .inl (0, 6, .inl r_rules)] ad 0 0
  refine QG.iast (Wd' := [.inr (2, [.int l_count, .ref 1, .ref 2, .ref 3, .ref 4, .ref 5, .ref 6, .ref 7, .ref 8, .int l_lastSpotted, .int l_sizes, .int l_signed, .int l_letter]), .inl (0, 30, .inl l_letters), .inl (0, 30, .inl l_numbers), .inl (0, 30, .inl (upd l_spots x1.toNatClampNeg c102)), .inl (0, 30, .inl l_heads), .inl (0, 30, .inl l_nexts), .inl (0, 30, .inl l_waters), .inl (0, 30, .inl l_sides), .inl (0, 30, .inl l_ties), .inr (5, [.ref 10, .ref 11, .ref 12, .ref 13, .int r_count, .int (qb r_changed)]), .inl (0, 30, .inl r_kinds), .inl (0, 30, .inl r_whole), .inl (0, 210, .inl r_marks), .inl (0, 6, .inl r_rules)]) hX (qd K_X2_judge 62 rfl) rfl rfl rfl ?_
  exact QG.jmp (lv' := [(0, .ref 0), (1, .int x1)]) rfl (G_X2_judge_b106 X hX ad l_count l_letters l_numbers l_nexts l_waters l_sides l_lastSpotted l_sizes l_signed l_letter r_kinds r_whole r_marks r_rules r_count r_changed (upd l_spots x1.toNatClampNeg c102) l_heads l_ties x1)

set_option maxRecDepth 100000 in
theorem M_X2_judge (l : Launch)  (l_count : Int32) (l_letters : Nat → Int32) (l_numbers : Nat → Int32) (l_spots : Nat → Int32) (l_heads : Nat → Int32) (l_nexts : Nat → Int32) (l_waters : Nat → Int32) (l_sides : Nat → Int32) (l_ties : Nat → Int32) (l_lastSpotted : Int32) (l_sizes : Int32) (l_signed : Int32) (l_letter : Int32) (r_kinds : Nat → Int32) (r_whole : Nat → Int32) (r_marks : Nat → Int32) (r_rules : Nat → Int32) (r_count : Int32) (r_changed : Bool) (p0 : Int32) (p2 : Int32) (p3 : Int32) : QM l yX2_judge cX2_judge 7 none 2 0 0 (fun _ => True) [.ref 0, .int p0, .ref 9, .int p2, .int p3] [.inr (2, [.int l_count, .ref 1, .ref 2, .ref 3, .ref 4, .ref 5, .ref 6, .ref 7, .ref 8, .int l_lastSpotted, .int l_sizes, .int l_signed, .int l_letter]), .inl (0, 30, .inl l_letters), .inl (0, 30, .inl l_numbers), .inl (0, 30, .inl l_spots), .inl (0, 30, .inl l_heads), .inl (0, 30, .inl l_nexts), .inl (0, 30, .inl l_waters), .inl (0, 30, .inl l_sides), .inl (0, 30, .inl l_ties), .inr (5, [.ref 10, .ref 11, .ref 12, .ref 13, .int r_count, .int (qb r_changed)]), .inl (0, 30, .inl r_kinds), .inl (0, 30, .inl r_whole), .inl (0, 210, .inl r_marks), .inl (0, 6, .inl r_rules)] (F_X2_judge l_count l_spots l_heads l_nexts l_ties r_marks r_rules r_count p0 p2 p3) (P_X2_judge l_count l_letters l_numbers l_nexts l_waters l_sides l_lastSpotted l_sizes l_signed l_letter r_kinds r_whole r_marks r_rules r_count r_changed) := by
  refine QM.of (by decide +kernel) (Nat.le_of_ble_eq_true rfl) ?_
  rintro X ad hX _ _ _ _
  refine QG.iload_n hX (qd K_X2_judge 0 rfl) rfl rfl ?_
  refine QG.if_lt (tgt := 12) hX (qd K_X2_judge 1 rfl) rfl (by decide) ?_ ?_
  · exact QG.vret hX (qd K_X2_judge 6 rfl) rfl rfl (fun _ _ => rfl)
  · refine QG.iload_n hX (qd K_X2_judge 2 rfl) rfl rfl ?_
    refine QG.aload_n hX (qd K_X2_judge 3 rfl) rfl rfl ?_
    refine QG.getf hX fl_X2_9 (qd K_X2_judge 4 rfl) rfl rfl rfl ?_
    refine QG.icmp_lt (tgt := 13) hX (qd K_X2_judge 5 rfl) rfl (by decide) ?_ ?_
    · refine QG.aload_n hX (qd K_X2_judge 7 rfl) rfl rfl ?_
      refine QG.getf hX fl_X2_52 (qd K_X2_judge 8 rfl) rfl rfl rfl ?_
      refine QG.iconst hX (qd K_X2_judge 9 rfl) rfl ki_5 ?_
      refine QG.iald hX (qd K_X2_judge 10 rfl) rfl rfl ?_
      refine QG.istore (lv' := [(5, .int (r_rules (5 : Int32).toNatClampNeg)), (0, .ref 0), (1, .int p0), (2, .ref 9), (3, .int p2), (4, .int p3)]) hX (qd K_X2_judge 11 rfl) rfl (by decide) rfl ?_
      refine QG.aload_n hX (qd K_X2_judge 12 rfl) rfl rfl ?_
      refine QG.getf hX fl_X2_25 (qd K_X2_judge 13 rfl) rfl rfl rfl ?_
      refine QG.iload_n hX (qd K_X2_judge 14 rfl) rfl rfl ?_
      refine QG.aload_n hX (qd K_X2_judge 15 rfl) rfl rfl ?_
      refine QG.iload_n hX (qd K_X2_judge 16 rfl) rfl rfl ?_
      refine QG.iconst hX (qd K_X2_judge 17 rfl) rfl ki_3 ?_
      refine QG.callV (rest := [.int p0, .ref 4]) [9, 10, 11, 12, 13] hX cw_X2_66 (M_X5_markOf X.l r_kinds r_whole r_marks r_rules r_count r_changed p2 3) trivial (by decide) (by decide) (qd K_X2_judge 18 rfl) rfl ⟨Nat.zero_le _, Nat.zero_le _⟩ rfl rfl rfl rfl (Nat.le_of_ble_eq_true rfl) rfl rfl (fun _ => rfl) (fun c29 => ?_)
      show QG X 7 _ _ 32 _ [.int c29, .int p0, .ref 4] [.inr (2, [.int l_count, .ref 1, .ref 2, .ref 3, .ref 4, .ref 5, .ref 6, .ref 7, .ref 8, .int l_lastSpotted, .int l_sizes, .int l_signed, .int l_letter]), .inl (0, 30, .inl l_letters), .inl (0, 30, .inl l_numbers), .inl (0, 30, .inl l_spots), .inl (0, 30, .inl l_heads), .inl (0, 30, .inl l_nexts), .inl (0, 30, .inl l_waters), .inl (0, 30, .inl l_sides), .inl (0, 30, .inl l_ties), .inr (5, [.ref 10, .ref 11, .ref 12, .ref 13, .int r_count, .int (qb r_changed)]), .inl (0, 30, .inl r_kinds), .inl (0, 30, .inl r_whole), .inl (0, 210, .inl r_marks), .inl (0, 6, .inl r_rules)] ad 0 0
      refine QG.iast (Wd' := [.inr (2, [.int l_count, .ref 1, .ref 2, .ref 3, .ref 4, .ref 5, .ref 6, .ref 7, .ref 8, .int l_lastSpotted, .int l_sizes, .int l_signed, .int l_letter]), .inl (0, 30, .inl l_letters), .inl (0, 30, .inl l_numbers), .inl (0, 30, .inl l_spots), .inl (0, 30, .inl (upd l_heads p0.toNatClampNeg c29)), .inl (0, 30, .inl l_nexts), .inl (0, 30, .inl l_waters), .inl (0, 30, .inl l_sides), .inl (0, 30, .inl l_ties), .inr (5, [.ref 10, .ref 11, .ref 12, .ref 13, .int r_count, .int (qb r_changed)]), .inl (0, 30, .inl r_kinds), .inl (0, 30, .inl r_whole), .inl (0, 210, .inl r_marks), .inl (0, 6, .inl r_rules)]) hX (qd K_X2_judge 19 rfl) rfl rfl rfl ?_
      refine QG.aload_n hX (qd K_X2_judge 20 rfl) rfl rfl ?_
      refine QG.getf hX fl_X2_22 (qd K_X2_judge 21 rfl) rfl rfl rfl ?_
      refine QG.iload_n hX (qd K_X2_judge 22 rfl) rfl rfl ?_
      refine QG.aload_n hX (qd K_X2_judge 23 rfl) rfl rfl ?_
      refine QG.iload_n hX (qd K_X2_judge 24 rfl) rfl rfl ?_
      refine QG.iconst hX (qd K_X2_judge 25 rfl) rfl ki_2 ?_
      refine QG.callV (rest := [.int p0, .ref 3]) [9, 10, 11, 12, 13] hX cw_X2_66 (M_X5_markOf X.l r_kinds r_whole r_marks r_rules r_count r_changed p2 2) trivial (by decide) (by decide) (qd K_X2_judge 26 rfl) rfl ⟨Nat.zero_le _, Nat.zero_le _⟩ rfl rfl rfl rfl (Nat.le_of_ble_eq_true rfl) rfl rfl (fun _ => rfl) (fun c41 => ?_)
      show QG X 7 _ _ 44 _ [.int c41, .int p0, .ref 3] [.inr (2, [.int l_count, .ref 1, .ref 2, .ref 3, .ref 4, .ref 5, .ref 6, .ref 7, .ref 8, .int l_lastSpotted, .int l_sizes, .int l_signed, .int l_letter]), .inl (0, 30, .inl l_letters), .inl (0, 30, .inl l_numbers), .inl (0, 30, .inl l_spots), .inl (0, 30, .inl (upd l_heads p0.toNatClampNeg c29)), .inl (0, 30, .inl l_nexts), .inl (0, 30, .inl l_waters), .inl (0, 30, .inl l_sides), .inl (0, 30, .inl l_ties), .inr (5, [.ref 10, .ref 11, .ref 12, .ref 13, .int r_count, .int (qb r_changed)]), .inl (0, 30, .inl r_kinds), .inl (0, 30, .inl r_whole), .inl (0, 210, .inl r_marks), .inl (0, 6, .inl r_rules)] ad 0 0
      refine QG.iload hX (qd K_X2_judge 27 rfl) rfl rfl ?_
      refine QG.callS (rest := [.int p0, .ref 3]) [] hX cw_X2_77 (M_X2_spotOf X.l c41 (r_rules (5 : Int32).toNatClampNeg)) trivial (by decide) (by decide) (qd K_X2_judge 28 rfl) rfl ⟨Nat.zero_le _, Nat.zero_le _⟩ rfl rfl (Nat.le_of_ble_eq_true rfl) rfl rfl (fun _ => rfl) (fun c46 => ?_)
      show QG X 7 _ _ 49 _ [.int c46, .int p0, .ref 3] [.inr (2, [.int l_count, .ref 1, .ref 2, .ref 3, .ref 4, .ref 5, .ref 6, .ref 7, .ref 8, .int l_lastSpotted, .int l_sizes, .int l_signed, .int l_letter]), .inl (0, 30, .inl l_letters), .inl (0, 30, .inl l_numbers), .inl (0, 30, .inl l_spots), .inl (0, 30, .inl (upd l_heads p0.toNatClampNeg c29)), .inl (0, 30, .inl l_nexts), .inl (0, 30, .inl l_waters), .inl (0, 30, .inl l_sides), .inl (0, 30, .inl l_ties), .inr (5, [.ref 10, .ref 11, .ref 12, .ref 13, .int r_count, .int (qb r_changed)]), .inl (0, 30, .inl r_kinds), .inl (0, 30, .inl r_whole), .inl (0, 210, .inl r_marks), .inl (0, 6, .inl r_rules)] ad 0 0
      refine QG.iast (Wd' := [.inr (2, [.int l_count, .ref 1, .ref 2, .ref 3, .ref 4, .ref 5, .ref 6, .ref 7, .ref 8, .int l_lastSpotted, .int l_sizes, .int l_signed, .int l_letter]), .inl (0, 30, .inl l_letters), .inl (0, 30, .inl l_numbers), .inl (0, 30, .inl (upd l_spots p0.toNatClampNeg c46)), .inl (0, 30, .inl (upd l_heads p0.toNatClampNeg c29)), .inl (0, 30, .inl l_nexts), .inl (0, 30, .inl l_waters), .inl (0, 30, .inl l_sides), .inl (0, 30, .inl l_ties), .inr (5, [.ref 10, .ref 11, .ref 12, .ref 13, .int r_count, .int (qb r_changed)]), .inl (0, 30, .inl r_kinds), .inl (0, 30, .inl r_whole), .inl (0, 210, .inl r_marks), .inl (0, 6, .inl r_rules)]) hX (qd K_X2_judge 29 rfl) rfl rfl rfl ?_
      refine QG.iload hX (qd K_X2_judge 30 rfl) rfl rfl ?_
      refine QG.if_eq (tgt := 106) hX (qd K_X2_judge 31 rfl) rfl (by decide) ?_ ?_
      · exact QG.jmp (lv' := [(0, .ref 0), (1, .int p0)]) rfl (G_X2_judge_b106 X hX ad l_count l_letters l_numbers l_nexts l_waters l_sides l_lastSpotted l_sizes l_signed l_letter r_kinds r_whole r_marks r_rules r_count r_changed (upd l_spots p0.toNatClampNeg c46) (upd l_heads p0.toNatClampNeg c29) l_ties p0)
      · refine QG.aload_n hX (qd K_X2_judge 32 rfl) rfl rfl ?_
        refine QG.iload_n hX (qd K_X2_judge 33 rfl) rfl rfl ?_
        refine QG.iconst hX (qd K_X2_judge 34 rfl) rfl ki_1 ?_
        refine QG.iadd hX (qd K_X2_judge 35 rfl) rfl ?_
        refine QG.iconst hX (qd K_X2_judge 36 rfl) rfl ki_3 ?_
        refine QG.callV (rest := []) [9, 10, 11, 12, 13] hX cw_X2_66 (M_X5_markOf X.l r_kinds r_whole r_marks r_rules r_count r_changed (p2 + 1) 3) trivial (by decide) (by decide) (qd K_X2_judge 37 rfl) rfl ⟨Nat.zero_le _, Nat.zero_le _⟩ rfl rfl rfl rfl (Nat.le_of_ble_eq_true rfl) rfl rfl (fun _ => rfl) (fun c60 => ?_)
        show QG X 7 _ _ 63 _ [.int c60] [.inr (2, [.int l_count, .ref 1, .ref 2, .ref 3, .ref 4, .ref 5, .ref 6, .ref 7, .ref 8, .int l_lastSpotted, .int l_sizes, .int l_signed, .int l_letter]), .inl (0, 30, .inl l_letters), .inl (0, 30, .inl l_numbers), .inl (0, 30, .inl (upd l_spots p0.toNatClampNeg c46)), .inl (0, 30, .inl (upd l_heads p0.toNatClampNeg c29)), .inl (0, 30, .inl l_nexts), .inl (0, 30, .inl l_waters), .inl (0, 30, .inl l_sides), .inl (0, 30, .inl l_ties), .inr (5, [.ref 10, .ref 11, .ref 12, .ref 13, .int r_count, .int (qb r_changed)]), .inl (0, 30, .inl r_kinds), .inl (0, 30, .inl r_whole), .inl (0, 210, .inl r_marks), .inl (0, 6, .inl r_rules)] ad 0 0
        refine QG.istore (lv' := [(6, .int c60), (5, .int (r_rules (5 : Int32).toNatClampNeg)), (0, .ref 0), (1, .int p0), (2, .ref 9), (3, .int p2), (4, .int p3)]) hX (qd K_X2_judge 38 rfl) rfl (by decide) rfl ?_
        refine QG.iload hX (qd K_X2_judge 39 rfl) rfl rfl ?_
        refine QG.if_le (tgt := 78) hX (qd K_X2_judge 40 rfl) rfl (by decide) ?_ ?_
        · exact QG.jmp (lv' := [(0, .ref 0), (1, .int p0), (2, .ref 9), (3, .int p2), (5, .int (r_rules (5 : Int32).toNatClampNeg))]) rfl (G_X2_judge_b78 X hX ad l_count l_letters l_numbers l_nexts l_waters l_sides l_lastSpotted l_sizes l_signed l_letter r_kinds r_whole r_marks r_rules r_count r_changed (upd l_spots p0.toNatClampNeg c46) (upd l_heads p0.toNatClampNeg c29) l_ties p0 p2 (r_rules (5 : Int32).toNatClampNeg))
        · refine QG.aload_n hX (qd K_X2_judge 41 rfl) rfl rfl ?_
          refine QG.getf hX fl_X2_25 (qd K_X2_judge 42 rfl) rfl rfl rfl ?_
          refine QG.iload_n hX (qd K_X2_judge 43 rfl) rfl rfl ?_
          refine QG.iload hX (qd K_X2_judge 44 rfl) rfl rfl ?_
          refine QG.iast (Wd' := [.inr (2, [.int l_count, .ref 1, .ref 2, .ref 3, .ref 4, .ref 5, .ref 6, .ref 7, .ref 8, .int l_lastSpotted, .int l_sizes, .int l_signed, .int l_letter]), .inl (0, 30, .inl l_letters), .inl (0, 30, .inl l_numbers), .inl (0, 30, .inl (upd l_spots p0.toNatClampNeg c46)), .inl (0, 30, .inl (upd (upd l_heads p0.toNatClampNeg c29) p0.toNatClampNeg c60)), .inl (0, 30, .inl l_nexts), .inl (0, 30, .inl l_waters), .inl (0, 30, .inl l_sides), .inl (0, 30, .inl l_ties), .inr (5, [.ref 10, .ref 11, .ref 12, .ref 13, .int r_count, .int (qb r_changed)]), .inl (0, 30, .inl r_kinds), .inl (0, 30, .inl r_whole), .inl (0, 210, .inl r_marks), .inl (0, 6, .inl r_rules)]) hX (qd K_X2_judge 45 rfl) rfl rfl rfl ?_
          exact QG.jmp (lv' := [(0, .ref 0), (1, .int p0), (2, .ref 9), (3, .int p2), (5, .int (r_rules (5 : Int32).toNatClampNeg))]) rfl (G_X2_judge_b78 X hX ad l_count l_letters l_numbers l_nexts l_waters l_sides l_lastSpotted l_sizes l_signed l_letter r_kinds r_whole r_marks r_rules r_count r_changed (upd l_spots p0.toNatClampNeg c46) (upd (upd l_heads p0.toNatClampNeg c29) p0.toNatClampNeg c60) l_ties p0 p2 (r_rules (5 : Int32).toNatClampNeg))
    · exact QG.vret hX (qd K_X2_judge 6 rfl) rfl rfl (fun _ _ => rfl)

def P_X2_add (l_sizes : Int32) (l_signed : Int32) (l_letter : Int32) (r_kinds : Nat → Int32) (r_whole : Nat → Int32) (r_marks : Nat → Int32) (r_rules : Nat → Int32) (r_count : Int32) (r_changed : Bool) : Int32 × (Nat → Int32) × (Nat → Int32) × (Nat → Int32) × (Nat → Int32) × (Nat → Int32) × (Nat → Int32) × (Nat → Int32) × (Nat → Int32) × Int32 → Option Value × List AC := fun z => (none, [.inr (2, [.int z.1, .ref 1, .ref 2, .ref 3, .ref 4, .ref 5, .ref 6, .ref 7, .ref 8, .int z.2.2.2.2.2.2.2.2.2, .int l_sizes, .int l_signed, .int l_letter]), .inl (0, 30, .inl z.2.1), .inl (0, 30, .inl z.2.2.1), .inl (0, 30, .inl z.2.2.2.1), .inl (0, 30, .inl z.2.2.2.2.1), .inl (0, 30, .inl z.2.2.2.2.2.1), .inl (0, 30, .inl z.2.2.2.2.2.2.1), .inl (0, 30, .inl z.2.2.2.2.2.2.2.1), .inl (0, 30, .inl z.2.2.2.2.2.2.2.2.1), .inr (5, [.ref 10, .ref 11, .ref 12, .ref 13, .int r_count, .int (qb r_changed)]), .inl (0, 30, .inl r_kinds), .inl (0, 30, .inl r_whole), .inl (0, 210, .inl r_marks), .inl (0, 6, .inl r_rules)])
set_option maxRecDepth 100000 in
theorem M_X2_add (l : Launch)  (l_count : Int32) (l_letters : Nat → Int32) (l_numbers : Nat → Int32) (l_spots : Nat → Int32) (l_heads : Nat → Int32) (l_nexts : Nat → Int32) (l_waters : Nat → Int32) (l_sides : Nat → Int32) (l_ties : Nat → Int32) (l_lastSpotted : Int32) (l_sizes : Int32) (l_signed : Int32) (l_letter : Int32) (r_kinds : Nat → Int32) (r_whole : Nat → Int32) (r_marks : Nat → Int32) (r_rules : Nat → Int32) (r_count : Int32) (r_changed : Bool) (p1 : Int32) : QM l yX2_add cX2_add 4 none 3 0 0 (fun _ => True) [.ref 0, .ref 9, .int p1] [.inr (2, [.int l_count, .ref 1, .ref 2, .ref 3, .ref 4, .ref 5, .ref 6, .ref 7, .ref 8, .int l_lastSpotted, .int l_sizes, .int l_signed, .int l_letter]), .inl (0, 30, .inl l_letters), .inl (0, 30, .inl l_numbers), .inl (0, 30, .inl l_spots), .inl (0, 30, .inl l_heads), .inl (0, 30, .inl l_nexts), .inl (0, 30, .inl l_waters), .inl (0, 30, .inl l_sides), .inl (0, 30, .inl l_ties), .inr (5, [.ref 10, .ref 11, .ref 12, .ref 13, .int r_count, .int (qb r_changed)]), .inl (0, 30, .inl r_kinds), .inl (0, 30, .inl r_whole), .inl (0, 210, .inl r_marks), .inl (0, 6, .inl r_rules)] (F_X2_add l_count l_letters l_numbers l_spots l_heads l_nexts l_waters l_sides l_ties l_lastSpotted r_kinds r_marks r_rules r_count p1) (P_X2_add l_sizes l_signed l_letter r_kinds r_whole r_marks r_rules r_count r_changed) := by
  refine QM.of (by decide +kernel) (Nat.le_of_ble_eq_true rfl) ?_
  rintro X ad hX _ _ _ _
  refine QG.aload_n hX (qd K_X2_add 0 rfl) rfl rfl ?_
  refine QG.getf hX fl_X2_9 (qd K_X2_add 1 rfl) rfl rfl rfl ?_
  refine QG.istore_n (lv' := [(3, .int l_count), (0, .ref 0), (1, .ref 9), (2, .int p1)]) hX (qd K_X2_add 2 rfl) rfl (by decide) rfl ?_
  refine QG.aload_n hX (qd K_X2_add 3 rfl) rfl rfl ?_
  refine QG.dup hX (qd K_X2_add 4 rfl) rfl rfl ?_
  refine QG.getf hX fl_X2_9 (qd K_X2_add 5 rfl) rfl rfl rfl ?_
  refine QG.iconst hX (qd K_X2_add 6 rfl) rfl ki_1 ?_
  refine QG.iadd hX (qd K_X2_add 7 rfl) rfl ?_
  refine QG.putf (Wd' := [.inr (2, [.int (l_count + 1), .ref 1, .ref 2, .ref 3, .ref 4, .ref 5, .ref 6, .ref 7, .ref 8, .int l_lastSpotted, .int l_sizes, .int l_signed, .int l_letter]), .inl (0, 30, .inl l_letters), .inl (0, 30, .inl l_numbers), .inl (0, 30, .inl l_spots), .inl (0, 30, .inl l_heads), .inl (0, 30, .inl l_nexts), .inl (0, 30, .inl l_waters), .inl (0, 30, .inl l_sides), .inl (0, 30, .inl l_ties), .inr (5, [.ref 10, .ref 11, .ref 12, .ref 13, .int r_count, .int (qb r_changed)]), .inl (0, 30, .inl r_kinds), .inl (0, 30, .inl r_whole), .inl (0, 210, .inl r_marks), .inl (0, 6, .inl r_rules)]) hX fl_X2_9 fp_2_0 (qd K_X2_add 8 rfl) rfl rfl (Nat.le_of_ble_eq_true rfl) (qfit_i _) rfl ?_
  refine QG.aload_n hX (qd K_X2_add 9 rfl) rfl rfl ?_
  refine QG.getf hX fl_X2_15 (qd K_X2_add 10 rfl) rfl rfl rfl ?_
  refine QG.iload_n hX (qd K_X2_add 11 rfl) rfl rfl ?_
  refine QG.aload_n hX (qd K_X2_add 12 rfl) rfl rfl ?_
  refine QG.iload_n hX (qd K_X2_add 13 rfl) rfl rfl ?_
  refine QG.iconst hX (qd K_X2_add 14 rfl) rfl ki_0 ?_
  refine QG.callV (rest := [.int l_count, .ref 1]) [9, 10, 11, 12, 13] hX cw_X2_66 (M_X5_markOf X.l r_kinds r_whole r_marks r_rules r_count r_changed p1 0) trivial (by decide) (by decide) (qd K_X2_add 15 rfl) rfl ⟨Nat.zero_le _, Nat.zero_le _⟩ rfl rfl rfl rfl (Nat.le_of_ble_eq_true rfl) rfl rfl (fun _ => rfl) (fun c23 => ?_)
  show QG X 4 _ _ 26 _ [.int c23, .int l_count, .ref 1] [.inr (2, [.int (l_count + 1), .ref 1, .ref 2, .ref 3, .ref 4, .ref 5, .ref 6, .ref 7, .ref 8, .int l_lastSpotted, .int l_sizes, .int l_signed, .int l_letter]), .inl (0, 30, .inl l_letters), .inl (0, 30, .inl l_numbers), .inl (0, 30, .inl l_spots), .inl (0, 30, .inl l_heads), .inl (0, 30, .inl l_nexts), .inl (0, 30, .inl l_waters), .inl (0, 30, .inl l_sides), .inl (0, 30, .inl l_ties), .inr (5, [.ref 10, .ref 11, .ref 12, .ref 13, .int r_count, .int (qb r_changed)]), .inl (0, 30, .inl r_kinds), .inl (0, 30, .inl r_whole), .inl (0, 210, .inl r_marks), .inl (0, 6, .inl r_rules)] ad 0 0
  refine QG.iast (Wd' := [.inr (2, [.int (l_count + 1), .ref 1, .ref 2, .ref 3, .ref 4, .ref 5, .ref 6, .ref 7, .ref 8, .int l_lastSpotted, .int l_sizes, .int l_signed, .int l_letter]), .inl (0, 30, .inl (upd l_letters l_count.toNatClampNeg c23)), .inl (0, 30, .inl l_numbers), .inl (0, 30, .inl l_spots), .inl (0, 30, .inl l_heads), .inl (0, 30, .inl l_nexts), .inl (0, 30, .inl l_waters), .inl (0, 30, .inl l_sides), .inl (0, 30, .inl l_ties), .inr (5, [.ref 10, .ref 11, .ref 12, .ref 13, .int r_count, .int (qb r_changed)]), .inl (0, 30, .inl r_kinds), .inl (0, 30, .inl r_whole), .inl (0, 210, .inl r_marks), .inl (0, 6, .inl r_rules)]) hX (qd K_X2_add 16 rfl) rfl rfl rfl ?_
  refine QG.aload_n hX (qd K_X2_add 17 rfl) rfl rfl ?_
  refine QG.getf hX fl_X2_19 (qd K_X2_add 18 rfl) rfl rfl rfl ?_
  refine QG.iload_n hX (qd K_X2_add 19 rfl) rfl rfl ?_
  refine QG.aload_n hX (qd K_X2_add 20 rfl) rfl rfl ?_
  refine QG.iload_n hX (qd K_X2_add 21 rfl) rfl rfl ?_
  refine QG.iconst hX (qd K_X2_add 22 rfl) rfl ki_1 ?_
  refine QG.callV (rest := [.int l_count, .ref 2]) [9, 10, 11, 12, 13] hX cw_X2_66 (M_X5_markOf X.l r_kinds r_whole r_marks r_rules r_count r_changed p1 1) trivial (by decide) (by decide) (qd K_X2_add 23 rfl) rfl ⟨Nat.zero_le _, Nat.zero_le _⟩ rfl rfl rfl rfl (Nat.le_of_ble_eq_true rfl) rfl rfl (fun _ => rfl) (fun c35 => ?_)
  show QG X 4 _ _ 38 _ [.int c35, .int l_count, .ref 2] [.inr (2, [.int (l_count + 1), .ref 1, .ref 2, .ref 3, .ref 4, .ref 5, .ref 6, .ref 7, .ref 8, .int l_lastSpotted, .int l_sizes, .int l_signed, .int l_letter]), .inl (0, 30, .inl (upd l_letters l_count.toNatClampNeg c23)), .inl (0, 30, .inl l_numbers), .inl (0, 30, .inl l_spots), .inl (0, 30, .inl l_heads), .inl (0, 30, .inl l_nexts), .inl (0, 30, .inl l_waters), .inl (0, 30, .inl l_sides), .inl (0, 30, .inl l_ties), .inr (5, [.ref 10, .ref 11, .ref 12, .ref 13, .int r_count, .int (qb r_changed)]), .inl (0, 30, .inl r_kinds), .inl (0, 30, .inl r_whole), .inl (0, 210, .inl r_marks), .inl (0, 6, .inl r_rules)] ad 0 0
  refine QG.iast (Wd' := [.inr (2, [.int (l_count + 1), .ref 1, .ref 2, .ref 3, .ref 4, .ref 5, .ref 6, .ref 7, .ref 8, .int l_lastSpotted, .int l_sizes, .int l_signed, .int l_letter]), .inl (0, 30, .inl (upd l_letters l_count.toNatClampNeg c23)), .inl (0, 30, .inl (upd l_numbers l_count.toNatClampNeg c35)), .inl (0, 30, .inl l_spots), .inl (0, 30, .inl l_heads), .inl (0, 30, .inl l_nexts), .inl (0, 30, .inl l_waters), .inl (0, 30, .inl l_sides), .inl (0, 30, .inl l_ties), .inr (5, [.ref 10, .ref 11, .ref 12, .ref 13, .int r_count, .int (qb r_changed)]), .inl (0, 30, .inl r_kinds), .inl (0, 30, .inl r_whole), .inl (0, 210, .inl r_marks), .inl (0, 6, .inl r_rules)]) hX (qd K_X2_add 24 rfl) rfl rfl rfl ?_
  refine QG.aload_n hX (qd K_X2_add 25 rfl) rfl rfl ?_
  refine QG.getf hX fl_X2_28 (qd K_X2_add 26 rfl) rfl rfl rfl ?_
  refine QG.iload_n hX (qd K_X2_add 27 rfl) rfl rfl ?_
  refine QG.aload_n hX (qd K_X2_add 28 rfl) rfl rfl ?_
  refine QG.iload_n hX (qd K_X2_add 29 rfl) rfl rfl ?_
  refine QG.iconst hX (qd K_X2_add 30 rfl) rfl ki_4 ?_
  refine QG.callV (rest := [.int l_count, .ref 5]) [9, 10, 11, 12, 13] hX cw_X2_66 (M_X5_markOf X.l r_kinds r_whole r_marks r_rules r_count r_changed p1 4) trivial (by decide) (by decide) (qd K_X2_add 31 rfl) rfl ⟨Nat.zero_le _, Nat.zero_le _⟩ rfl rfl rfl rfl (Nat.le_of_ble_eq_true rfl) rfl rfl (fun _ => rfl) (fun c47 => ?_)
  show QG X 4 _ _ 50 _ [.int c47, .int l_count, .ref 5] [.inr (2, [.int (l_count + 1), .ref 1, .ref 2, .ref 3, .ref 4, .ref 5, .ref 6, .ref 7, .ref 8, .int l_lastSpotted, .int l_sizes, .int l_signed, .int l_letter]), .inl (0, 30, .inl (upd l_letters l_count.toNatClampNeg c23)), .inl (0, 30, .inl (upd l_numbers l_count.toNatClampNeg c35)), .inl (0, 30, .inl l_spots), .inl (0, 30, .inl l_heads), .inl (0, 30, .inl l_nexts), .inl (0, 30, .inl l_waters), .inl (0, 30, .inl l_sides), .inl (0, 30, .inl l_ties), .inr (5, [.ref 10, .ref 11, .ref 12, .ref 13, .int r_count, .int (qb r_changed)]), .inl (0, 30, .inl r_kinds), .inl (0, 30, .inl r_whole), .inl (0, 210, .inl r_marks), .inl (0, 6, .inl r_rules)] ad 0 0
  refine QG.iast (Wd' := [.inr (2, [.int (l_count + 1), .ref 1, .ref 2, .ref 3, .ref 4, .ref 5, .ref 6, .ref 7, .ref 8, .int l_lastSpotted, .int l_sizes, .int l_signed, .int l_letter]), .inl (0, 30, .inl (upd l_letters l_count.toNatClampNeg c23)), .inl (0, 30, .inl (upd l_numbers l_count.toNatClampNeg c35)), .inl (0, 30, .inl l_spots), .inl (0, 30, .inl l_heads), .inl (0, 30, .inl (upd l_nexts l_count.toNatClampNeg c47)), .inl (0, 30, .inl l_waters), .inl (0, 30, .inl l_sides), .inl (0, 30, .inl l_ties), .inr (5, [.ref 10, .ref 11, .ref 12, .ref 13, .int r_count, .int (qb r_changed)]), .inl (0, 30, .inl r_kinds), .inl (0, 30, .inl r_whole), .inl (0, 210, .inl r_marks), .inl (0, 6, .inl r_rules)]) hX (qd K_X2_add 32 rfl) rfl rfl rfl ?_
  refine QG.aload_n hX (qd K_X2_add 33 rfl) rfl rfl ?_
  refine QG.getf hX fl_X2_31 (qd K_X2_add 34 rfl) rfl rfl rfl ?_
  refine QG.iload_n hX (qd K_X2_add 35 rfl) rfl rfl ?_
  refine QG.aload_n hX (qd K_X2_add 36 rfl) rfl rfl ?_
  refine QG.iload_n hX (qd K_X2_add 37 rfl) rfl rfl ?_
  refine QG.iconst hX (qd K_X2_add 38 rfl) rfl ki_5 ?_
  refine QG.callV (rest := [.int l_count, .ref 6]) [9, 10, 11, 12, 13] hX cw_X2_66 (M_X5_markOf X.l r_kinds r_whole r_marks r_rules r_count r_changed p1 5) trivial (by decide) (by decide) (qd K_X2_add 39 rfl) rfl ⟨Nat.zero_le _, Nat.zero_le _⟩ rfl rfl rfl rfl (Nat.le_of_ble_eq_true rfl) rfl rfl (fun _ => rfl) (fun c59 => ?_)
  show QG X 4 _ _ 62 _ [.int c59, .int l_count, .ref 6] [.inr (2, [.int (l_count + 1), .ref 1, .ref 2, .ref 3, .ref 4, .ref 5, .ref 6, .ref 7, .ref 8, .int l_lastSpotted, .int l_sizes, .int l_signed, .int l_letter]), .inl (0, 30, .inl (upd l_letters l_count.toNatClampNeg c23)), .inl (0, 30, .inl (upd l_numbers l_count.toNatClampNeg c35)), .inl (0, 30, .inl l_spots), .inl (0, 30, .inl l_heads), .inl (0, 30, .inl (upd l_nexts l_count.toNatClampNeg c47)), .inl (0, 30, .inl l_waters), .inl (0, 30, .inl l_sides), .inl (0, 30, .inl l_ties), .inr (5, [.ref 10, .ref 11, .ref 12, .ref 13, .int r_count, .int (qb r_changed)]), .inl (0, 30, .inl r_kinds), .inl (0, 30, .inl r_whole), .inl (0, 210, .inl r_marks), .inl (0, 6, .inl r_rules)] ad 0 0
  refine QG.iast (Wd' := [.inr (2, [.int (l_count + 1), .ref 1, .ref 2, .ref 3, .ref 4, .ref 5, .ref 6, .ref 7, .ref 8, .int l_lastSpotted, .int l_sizes, .int l_signed, .int l_letter]), .inl (0, 30, .inl (upd l_letters l_count.toNatClampNeg c23)), .inl (0, 30, .inl (upd l_numbers l_count.toNatClampNeg c35)), .inl (0, 30, .inl l_spots), .inl (0, 30, .inl l_heads), .inl (0, 30, .inl (upd l_nexts l_count.toNatClampNeg c47)), .inl (0, 30, .inl (upd l_waters l_count.toNatClampNeg c59)), .inl (0, 30, .inl l_sides), .inl (0, 30, .inl l_ties), .inr (5, [.ref 10, .ref 11, .ref 12, .ref 13, .int r_count, .int (qb r_changed)]), .inl (0, 30, .inl r_kinds), .inl (0, 30, .inl r_whole), .inl (0, 210, .inl r_marks), .inl (0, 6, .inl r_rules)]) hX (qd K_X2_add 40 rfl) rfl rfl rfl ?_
  refine QG.aload_n hX (qd K_X2_add 41 rfl) rfl rfl ?_
  refine QG.getf hX fl_X2_34 (qd K_X2_add 42 rfl) rfl rfl rfl ?_
  refine QG.iload_n hX (qd K_X2_add 43 rfl) rfl rfl ?_
  refine QG.aload_n hX (qd K_X2_add 44 rfl) rfl rfl ?_
  refine QG.iload_n hX (qd K_X2_add 45 rfl) rfl rfl ?_
  refine QG.bipush hX (qd K_X2_add 46 rfl) rfl kb_6 ?_
  refine QG.callV (rest := [.int l_count, .ref 7]) [9, 10, 11, 12, 13] hX cw_X2_66 (M_X5_markOf X.l r_kinds r_whole r_marks r_rules r_count r_changed p1 6) trivial (by decide) (by decide) (qd K_X2_add 47 rfl) rfl ⟨Nat.zero_le _, Nat.zero_le _⟩ rfl rfl rfl rfl (Nat.le_of_ble_eq_true rfl) rfl rfl (fun _ => rfl) (fun c72 => ?_)
  show QG X 4 _ _ 75 _ [.int c72, .int l_count, .ref 7] [.inr (2, [.int (l_count + 1), .ref 1, .ref 2, .ref 3, .ref 4, .ref 5, .ref 6, .ref 7, .ref 8, .int l_lastSpotted, .int l_sizes, .int l_signed, .int l_letter]), .inl (0, 30, .inl (upd l_letters l_count.toNatClampNeg c23)), .inl (0, 30, .inl (upd l_numbers l_count.toNatClampNeg c35)), .inl (0, 30, .inl l_spots), .inl (0, 30, .inl l_heads), .inl (0, 30, .inl (upd l_nexts l_count.toNatClampNeg c47)), .inl (0, 30, .inl (upd l_waters l_count.toNatClampNeg c59)), .inl (0, 30, .inl l_sides), .inl (0, 30, .inl l_ties), .inr (5, [.ref 10, .ref 11, .ref 12, .ref 13, .int r_count, .int (qb r_changed)]), .inl (0, 30, .inl r_kinds), .inl (0, 30, .inl r_whole), .inl (0, 210, .inl r_marks), .inl (0, 6, .inl r_rules)] ad 0 0
  refine QG.iast (Wd' := [.inr (2, [.int (l_count + 1), .ref 1, .ref 2, .ref 3, .ref 4, .ref 5, .ref 6, .ref 7, .ref 8, .int l_lastSpotted, .int l_sizes, .int l_signed, .int l_letter]), .inl (0, 30, .inl (upd l_letters l_count.toNatClampNeg c23)), .inl (0, 30, .inl (upd l_numbers l_count.toNatClampNeg c35)), .inl (0, 30, .inl l_spots), .inl (0, 30, .inl l_heads), .inl (0, 30, .inl (upd l_nexts l_count.toNatClampNeg c47)), .inl (0, 30, .inl (upd l_waters l_count.toNatClampNeg c59)), .inl (0, 30, .inl (upd l_sides l_count.toNatClampNeg c72)), .inl (0, 30, .inl l_ties), .inr (5, [.ref 10, .ref 11, .ref 12, .ref 13, .int r_count, .int (qb r_changed)]), .inl (0, 30, .inl r_kinds), .inl (0, 30, .inl r_whole), .inl (0, 210, .inl r_marks), .inl (0, 6, .inl r_rules)]) hX (qd K_X2_add 48 rfl) rfl rfl rfl ?_
  refine QG.aload_n hX (qd K_X2_add 49 rfl) rfl rfl ?_
  refine QG.iload_n hX (qd K_X2_add 50 rfl) rfl rfl ?_
  refine QG.aload_n hX (qd K_X2_add 51 rfl) rfl rfl ?_
  refine QG.iload_n hX (qd K_X2_add 52 rfl) rfl rfl ?_
  refine QG.aload_n hX (qd K_X2_add 53 rfl) rfl rfl ?_
  refine QG.iload_n hX (qd K_X2_add 54 rfl) rfl rfl ?_
  refine QG.callV (rest := [.int p1, .ref 9, .int l_count, .ref 0]) [9, 10, 11, 12, 13] hX cw_X2_70 (M_X5_isCancelled X.l r_kinds r_whole r_marks r_rules r_count r_changed p1) trivial (by decide) (by decide) (qd K_X2_add 55 rfl) rfl ⟨Nat.zero_le _, Nat.zero_le _⟩ rfl rfl rfl rfl (Nat.le_of_ble_eq_true rfl) rfl rfl (fun _ => rfl) (fun c82 => ?_)
  show QG X 4 _ _ 85 _ [.int (qb c82), .int p1, .ref 9, .int l_count, .ref 0] [.inr (2, [.int (l_count + 1), .ref 1, .ref 2, .ref 3, .ref 4, .ref 5, .ref 6, .ref 7, .ref 8, .int l_lastSpotted, .int l_sizes, .int l_signed, .int l_letter]), .inl (0, 30, .inl (upd l_letters l_count.toNatClampNeg c23)), .inl (0, 30, .inl (upd l_numbers l_count.toNatClampNeg c35)), .inl (0, 30, .inl l_spots), .inl (0, 30, .inl l_heads), .inl (0, 30, .inl (upd l_nexts l_count.toNatClampNeg c47)), .inl (0, 30, .inl (upd l_waters l_count.toNatClampNeg c59)), .inl (0, 30, .inl (upd l_sides l_count.toNatClampNeg c72)), .inl (0, 30, .inl l_ties), .inr (5, [.ref 10, .ref 11, .ref 12, .ref 13, .int r_count, .int (qb r_changed)]), .inl (0, 30, .inl r_kinds), .inl (0, 30, .inl r_whole), .inl (0, 210, .inl r_marks), .inl (0, 6, .inl r_rules)] ad 0 0
  refine QG.callV0 (rest := []) hX cw_X2_73 (M_X2_judge X.l (l_count + 1) (upd l_letters l_count.toNatClampNeg c23) (upd l_numbers l_count.toNatClampNeg c35) l_spots l_heads (upd l_nexts l_count.toNatClampNeg c47) (upd l_waters l_count.toNatClampNeg c59) (upd l_sides l_count.toNatClampNeg c72) l_ties l_lastSpotted l_sizes l_signed l_letter r_kinds r_whole r_marks r_rules r_count r_changed l_count p1 (qb c82)) trivial (by decide) (by decide) (qd K_X2_add 56 rfl) rfl ⟨Nat.zero_le _, Nat.zero_le _⟩ rfl rfl rfl rfl (Nat.le_of_ble_eq_true rfl) (fun _ => rfl) (fun c85 => ?_)
  show QG X 4 _ _ 88 _ [] [.inr (2, [.int (l_count + 1), .ref 1, .ref 2, .ref 3, .ref 4, .ref 5, .ref 6, .ref 7, .ref 8, .int l_lastSpotted, .int l_sizes, .int l_signed, .int l_letter]), .inl (0, 30, .inl (upd l_letters l_count.toNatClampNeg c23)), .inl (0, 30, .inl (upd l_numbers l_count.toNatClampNeg c35)), .inl (0, 30, .inl c85.1), .inl (0, 30, .inl c85.2.1), .inl (0, 30, .inl (upd l_nexts l_count.toNatClampNeg c47)), .inl (0, 30, .inl (upd l_waters l_count.toNatClampNeg c59)), .inl (0, 30, .inl (upd l_sides l_count.toNatClampNeg c72)), .inl (0, 30, .inl c85.2.2), .inr (5, [.ref 10, .ref 11, .ref 12, .ref 13, .int r_count, .int (qb r_changed)]), .inl (0, 30, .inl r_kinds), .inl (0, 30, .inl r_whole), .inl (0, 210, .inl r_marks), .inl (0, 6, .inl r_rules)] ad 0 0
  refine QG.aload_n hX (qd K_X2_add 57 rfl) rfl rfl ?_
  refine QG.getf hX fl_X2_22 (qd K_X2_add 58 rfl) rfl rfl rfl ?_
  refine QG.iload_n hX (qd K_X2_add 59 rfl) rfl rfl ?_
  refine QG.iald hX (qd K_X2_add 60 rfl) rfl rfl ?_
  refine QG.iconst hX (qd K_X2_add 61 rfl) rfl ki_m1 ?_
  refine QG.icmp_eq (tgt := 103) hX (qd K_X2_add 62 rfl) rfl (by decide) ?_ ?_
  · exact QG.vret hX (qd K_X2_add 66 rfl) rfl rfl (fun _ _ => rfl)
  · refine QG.aload_n hX (qd K_X2_add 63 rfl) rfl rfl ?_
    refine QG.iload_n hX (qd K_X2_add 64 rfl) rfl rfl ?_
    refine QG.putf (Wd' := [.inr (2, [.int (l_count + 1), .ref 1, .ref 2, .ref 3, .ref 4, .ref 5, .ref 6, .ref 7, .ref 8, .int l_count, .int l_sizes, .int l_signed, .int l_letter]), .inl (0, 30, .inl (upd l_letters l_count.toNatClampNeg c23)), .inl (0, 30, .inl (upd l_numbers l_count.toNatClampNeg c35)), .inl (0, 30, .inl c85.1), .inl (0, 30, .inl c85.2.1), .inl (0, 30, .inl (upd l_nexts l_count.toNatClampNeg c47)), .inl (0, 30, .inl (upd l_waters l_count.toNatClampNeg c59)), .inl (0, 30, .inl (upd l_sides l_count.toNatClampNeg c72)), .inl (0, 30, .inl c85.2.2), .inr (5, [.ref 10, .ref 11, .ref 12, .ref 13, .int r_count, .int (qb r_changed)]), .inl (0, 30, .inl r_kinds), .inl (0, 30, .inl r_whole), .inl (0, 210, .inl r_marks), .inl (0, 6, .inl r_rules)]) hX fl_X2_40 fp_2_9 (qd K_X2_add 65 rfl) rfl rfl (Nat.le_of_ble_eq_true rfl) (qfit_i _) rfl ?_
    exact QG.vret hX (qd K_X2_add 66 rfl) rfl rfl (fun _ _ => rfl)

def P_X2_load (r_kinds : Nat → Int32) (r_whole : Nat → Int32) (r_marks : Nat → Int32) (r_rules : Nat → Int32) (r_count : Int32) (r_changed : Bool) : Int32 × (Nat → Int32) × (Nat → Int32) × (Nat → Int32) × (Nat → Int32) × (Nat → Int32) × (Nat → Int32) × (Nat → Int32) × (Nat → Int32) × Int32 × Int32 × Int32 × Int32 → Option Value × List AC := fun z => (none, [.inr (2, [.int z.1, .ref 1, .ref 2, .ref 3, .ref 4, .ref 5, .ref 6, .ref 7, .ref 8, .int z.2.2.2.2.2.2.2.2.2.1, .int z.2.2.2.2.2.2.2.2.2.2.1, .int z.2.2.2.2.2.2.2.2.2.2.2.1, .int z.2.2.2.2.2.2.2.2.2.2.2.2]), .inl (0, 30, .inl z.2.1), .inl (0, 30, .inl z.2.2.1), .inl (0, 30, .inl z.2.2.2.1), .inl (0, 30, .inl z.2.2.2.2.1), .inl (0, 30, .inl z.2.2.2.2.2.1), .inl (0, 30, .inl z.2.2.2.2.2.2.1), .inl (0, 30, .inl z.2.2.2.2.2.2.2.1), .inl (0, 30, .inl z.2.2.2.2.2.2.2.2.1), .inr (5, [.ref 10, .ref 11, .ref 12, .ref 13, .int r_count, .int (qb r_changed)]), .inl (0, 30, .inl r_kinds), .inl (0, 30, .inl r_whole), .inl (0, 210, .inl r_marks), .inl (0, 6, .inl r_rules)])
set_option maxRecDepth 100000 in
theorem G_X2_load_b42 (X : QX) (hX : qok X cX2_load RX2 3 none 4) (ad : Nat → Nat) (r_kinds : Nat → Int32) (r_whole : Nat → Int32) (r_marks : Nat → Int32) (r_rules : Nat → Int32) (r_count : Int32) (r_changed : Bool) : ∀ (n : Nat) (l_count : Int32) (l_letters : Nat → Int32) (l_numbers : Nat → Int32) (l_spots : Nat → Int32) (l_heads : Nat → Int32) (l_nexts : Nat → Int32) (l_waters : Nat → Int32) (l_sides : Nat → Int32) (l_ties : Nat → Int32) (l_lastSpotted : Int32) (l_sizes : Int32) (l_signed : Int32) (l_letter : Int32) (x2 : Int32), QG X 3 (qQ X ad 14 (P_X2_load r_kinds r_whole r_marks r_rules r_count r_changed) 0 0) (F_X2_load_b42 r_kinds r_marks r_rules r_count n l_count l_letters l_numbers l_spots l_heads l_nexts l_waters l_sides l_ties l_lastSpotted l_sizes l_signed l_letter x2) 42 [(0, .ref 0), (1, .ref 9), (2, .int x2)] [] [.inr (2, [.int l_count, .ref 1, .ref 2, .ref 3, .ref 4, .ref 5, .ref 6, .ref 7, .ref 8, .int l_lastSpotted, .int l_sizes, .int l_signed, .int l_letter]), .inl (0, 30, .inl l_letters), .inl (0, 30, .inl l_numbers), .inl (0, 30, .inl l_spots), .inl (0, 30, .inl l_heads), .inl (0, 30, .inl l_nexts), .inl (0, 30, .inl l_waters), .inl (0, 30, .inl l_sides), .inl (0, 30, .inl l_ties), .inr (5, [.ref 10, .ref 11, .ref 12, .ref 13, .int r_count, .int (qb r_changed)]), .inl (0, 30, .inl r_kinds), .inl (0, 30, .inl r_whole), .inl (0, 210, .inl r_marks), .inl (0, 6, .inl r_rules)] ad 0 0 := by
  intro n
  induction n with
  | zero => intros; exact QG.nothing
  | succ n ih =>
    intro l_count l_letters l_numbers l_spots l_heads l_nexts l_waters l_sides l_ties l_lastSpotted l_sizes l_signed l_letter x2
    refine QG.iload_n hX (qd K_X2_load 26 rfl) rfl rfl ?_
    refine QG.aload_n hX (qd K_X2_load 27 rfl) rfl rfl ?_
    refine QG.getf hX fl_X2_57 (qd K_X2_load 28 rfl) rfl rfl rfl ?_
    refine QG.icmp_ge (tgt := 79) hX (qd K_X2_load 29 rfl) rfl (by decide) ?_ ?_
    · exact QG.vret hX (qd K_X2_load 44 rfl) rfl rfl (fun _ _ => rfl)
    · refine QG.aload_n hX (qd K_X2_load 30 rfl) rfl rfl ?_
      refine QG.iload_n hX (qd K_X2_load 31 rfl) rfl rfl ?_
      refine QG.callV (rest := []) [9, 10, 11, 12, 13] hX cw_X2_58 (M_X5_hangs X.l r_kinds r_whole r_marks r_rules r_count r_changed x2) trivial (by decide) (by decide) (qd K_X2_load 32 rfl) rfl ⟨Nat.zero_le _, Nat.zero_le _⟩ rfl rfl rfl rfl (Nat.le_of_ble_eq_true rfl) rfl rfl (fun _ => rfl) (fun c52 => ?_)
      show QG X 3 _ _ 55 _ [.int (qb c52)] [.inr (2, [.int l_count, .ref 1, .ref 2, .ref 3, .ref 4, .ref 5, .ref 6, .ref 7, .ref 8, .int l_lastSpotted, .int l_sizes, .int l_signed, .int l_letter]), .inl (0, 30, .inl l_letters), .inl (0, 30, .inl l_numbers), .inl (0, 30, .inl l_spots), .inl (0, 30, .inl l_heads), .inl (0, 30, .inl l_nexts), .inl (0, 30, .inl l_waters), .inl (0, 30, .inl l_sides), .inl (0, 30, .inl l_ties), .inr (5, [.ref 10, .ref 11, .ref 12, .ref 13, .int r_count, .int (qb r_changed)]), .inl (0, 30, .inl r_kinds), .inl (0, 30, .inl r_whole), .inl (0, 210, .inl r_marks), .inl (0, 6, .inl r_rules)] ad 0 0
      refine QG.if_eq (tgt := 73) hX (qd K_X2_load 33 rfl) rfl (by decide) ?_ ?_
      · refine QG.iinc (lv' := [(2, .int (x2 + 1)), (0, .ref 0), (1, .ref 9)]) hX (qd K_X2_load 42 rfl) rfl (by decide) rfl ki_1 rfl ?_
        refine QG.goto (tgt := 42) hX (qd K_X2_load 43 rfl) rfl (by decide) ?_
        exact QG.jmp (lv' := [(0, .ref 0), (1, .ref 9), (2, .int (x2 + 1))]) rfl (ih l_count l_letters l_numbers l_spots l_heads l_nexts l_waters l_sides l_ties l_lastSpotted l_sizes l_signed l_letter (x2 + 1))
      · refine QG.aload_n hX (qd K_X2_load 34 rfl) rfl rfl ?_
        refine QG.getf hX fl_X2_9 (qd K_X2_load 35 rfl) rfl rfl rfl ?_
        refine QG.bipush hX (qd K_X2_load 36 rfl) rfl kb_30 ?_
        refine QG.icmp_ge (tgt := 73) hX (qd K_X2_load 37 rfl) rfl (by decide) ?_ ?_
        · refine QG.iinc (lv' := [(2, .int (x2 + 1)), (0, .ref 0), (1, .ref 9)]) hX (qd K_X2_load 42 rfl) rfl (by decide) rfl ki_1 rfl ?_
          refine QG.goto (tgt := 42) hX (qd K_X2_load 43 rfl) rfl (by decide) ?_
          exact QG.jmp (lv' := [(0, .ref 0), (1, .ref 9), (2, .int (x2 + 1))]) rfl (ih l_count l_letters l_numbers l_spots l_heads l_nexts l_waters l_sides l_ties l_lastSpotted l_sizes l_signed l_letter (x2 + 1))
        · refine QG.aload_n hX (qd K_X2_load 38 rfl) rfl rfl ?_
          refine QG.aload_n hX (qd K_X2_load 39 rfl) rfl rfl ?_
          refine QG.iload_n hX (qd K_X2_load 40 rfl) rfl rfl ?_
          refine QG.callV0 (rest := []) hX cw_X2_62 (M_X2_add X.l l_count l_letters l_numbers l_spots l_heads l_nexts l_waters l_sides l_ties l_lastSpotted l_sizes l_signed l_letter r_kinds r_whole r_marks r_rules r_count r_changed x2) trivial (by decide) (by decide) (qd K_X2_load 41 rfl) rfl ⟨Nat.zero_le _, Nat.zero_le _⟩ rfl rfl rfl rfl (Nat.le_of_ble_eq_true rfl) (fun _ => rfl) (fun c70 => ?_)
          show QG X 3 _ _ 73 _ [] [.inr (2, [.int c70.1, .ref 1, .ref 2, .ref 3, .ref 4, .ref 5, .ref 6, .ref 7, .ref 8, .int c70.2.2.2.2.2.2.2.2.2, .int l_sizes, .int l_signed, .int l_letter]), .inl (0, 30, .inl c70.2.1), .inl (0, 30, .inl c70.2.2.1), .inl (0, 30, .inl c70.2.2.2.1), .inl (0, 30, .inl c70.2.2.2.2.1), .inl (0, 30, .inl c70.2.2.2.2.2.1), .inl (0, 30, .inl c70.2.2.2.2.2.2.1), .inl (0, 30, .inl c70.2.2.2.2.2.2.2.1), .inl (0, 30, .inl c70.2.2.2.2.2.2.2.2.1), .inr (5, [.ref 10, .ref 11, .ref 12, .ref 13, .int r_count, .int (qb r_changed)]), .inl (0, 30, .inl r_kinds), .inl (0, 30, .inl r_whole), .inl (0, 210, .inl r_marks), .inl (0, 6, .inl r_rules)] ad 0 0
          refine QG.iinc (lv' := [(2, .int (x2 + 1)), (0, .ref 0), (1, .ref 9)]) hX (qd K_X2_load 42 rfl) rfl (by decide) rfl ki_1 rfl ?_
          refine QG.goto (tgt := 42) hX (qd K_X2_load 43 rfl) rfl (by decide) ?_
          exact QG.jmp (lv' := [(0, .ref 0), (1, .ref 9), (2, .int (x2 + 1))]) rfl (ih c70.1 c70.2.1 c70.2.2.1 c70.2.2.2.1 c70.2.2.2.2.1 c70.2.2.2.2.2.1 c70.2.2.2.2.2.2.1 c70.2.2.2.2.2.2.2.1 c70.2.2.2.2.2.2.2.2.1 c70.2.2.2.2.2.2.2.2.2 l_sizes l_signed l_letter (x2 + 1))

set_option maxRecDepth 100000 in
theorem M_X2_load (l : Launch)  (l_count : Int32) (l_letters : Nat → Int32) (l_numbers : Nat → Int32) (l_spots : Nat → Int32) (l_heads : Nat → Int32) (l_nexts : Nat → Int32) (l_waters : Nat → Int32) (l_sides : Nat → Int32) (l_ties : Nat → Int32) (l_lastSpotted : Int32) (l_sizes : Int32) (l_signed : Int32) (l_letter : Int32) (r_kinds : Nat → Int32) (r_whole : Nat → Int32) (r_marks : Nat → Int32) (r_rules : Nat → Int32) (r_count : Int32) (r_changed : Bool) : QM l yX2_load cX2_load 3 none 4 0 0 (fun _ => True) [.ref 0, .ref 9] [.inr (2, [.int l_count, .ref 1, .ref 2, .ref 3, .ref 4, .ref 5, .ref 6, .ref 7, .ref 8, .int l_lastSpotted, .int l_sizes, .int l_signed, .int l_letter]), .inl (0, 30, .inl l_letters), .inl (0, 30, .inl l_numbers), .inl (0, 30, .inl l_spots), .inl (0, 30, .inl l_heads), .inl (0, 30, .inl l_nexts), .inl (0, 30, .inl l_waters), .inl (0, 30, .inl l_sides), .inl (0, 30, .inl l_ties), .inr (5, [.ref 10, .ref 11, .ref 12, .ref 13, .int r_count, .int (qb r_changed)]), .inl (0, 30, .inl r_kinds), .inl (0, 30, .inl r_whole), .inl (0, 210, .inl r_marks), .inl (0, 6, .inl r_rules)] (F_X2_load l_count l_letters l_numbers l_spots l_heads l_nexts l_waters l_sides l_ties l_lastSpotted l_sizes l_signed l_letter r_kinds r_marks r_rules r_count) (P_X2_load r_kinds r_whole r_marks r_rules r_count r_changed) := by
  refine QM.of (by decide +kernel) (Nat.le_of_ble_eq_true rfl) ?_
  rintro X ad hX _ _ _ _
  refine QG.aload_n hX (qd K_X2_load 0 rfl) rfl rfl ?_
  refine QG.iconst hX (qd K_X2_load 1 rfl) rfl ki_0 ?_
  refine QG.putf (Wd' := [.inr (2, [.int 0, .ref 1, .ref 2, .ref 3, .ref 4, .ref 5, .ref 6, .ref 7, .ref 8, .int l_lastSpotted, .int l_sizes, .int l_signed, .int l_letter]), .inl (0, 30, .inl l_letters), .inl (0, 30, .inl l_numbers), .inl (0, 30, .inl l_spots), .inl (0, 30, .inl l_heads), .inl (0, 30, .inl l_nexts), .inl (0, 30, .inl l_waters), .inl (0, 30, .inl l_sides), .inl (0, 30, .inl l_ties), .inr (5, [.ref 10, .ref 11, .ref 12, .ref 13, .int r_count, .int (qb r_changed)]), .inl (0, 30, .inl r_kinds), .inl (0, 30, .inl r_whole), .inl (0, 210, .inl r_marks), .inl (0, 6, .inl r_rules)]) hX fl_X2_9 fp_2_0 (qd K_X2_load 2 rfl) rfl rfl (Nat.le_of_ble_eq_true rfl) (qfit_i _) rfl ?_
  refine QG.aload_n hX (qd K_X2_load 3 rfl) rfl rfl ?_
  refine QG.iconst hX (qd K_X2_load 4 rfl) rfl ki_m1 ?_
  refine QG.putf (Wd' := [.inr (2, [.int 0, .ref 1, .ref 2, .ref 3, .ref 4, .ref 5, .ref 6, .ref 7, .ref 8, .int (-1), .int l_sizes, .int l_signed, .int l_letter]), .inl (0, 30, .inl l_letters), .inl (0, 30, .inl l_numbers), .inl (0, 30, .inl l_spots), .inl (0, 30, .inl l_heads), .inl (0, 30, .inl l_nexts), .inl (0, 30, .inl l_waters), .inl (0, 30, .inl l_sides), .inl (0, 30, .inl l_ties), .inr (5, [.ref 10, .ref 11, .ref 12, .ref 13, .int r_count, .int (qb r_changed)]), .inl (0, 30, .inl r_kinds), .inl (0, 30, .inl r_whole), .inl (0, 210, .inl r_marks), .inl (0, 6, .inl r_rules)]) hX fl_X2_40 fp_2_9 (qd K_X2_load 5 rfl) rfl rfl (Nat.le_of_ble_eq_true rfl) (qfit_i _) rfl ?_
  refine QG.aload_n hX (qd K_X2_load 6 rfl) rfl rfl ?_
  refine QG.aload_n hX (qd K_X2_load 7 rfl) rfl rfl ?_
  refine QG.getf hX fl_X2_52 (qd K_X2_load 8 rfl) rfl rfl rfl ?_
  refine QG.iconst hX (qd K_X2_load 9 rfl) rfl ki_2 ?_
  refine QG.iald hX (qd K_X2_load 10 rfl) rfl rfl ?_
  refine QG.putf (Wd' := [.inr (2, [.int 0, .ref 1, .ref 2, .ref 3, .ref 4, .ref 5, .ref 6, .ref 7, .ref 8, .int (-1), .int (r_rules (2 : Int32).toNatClampNeg), .int l_signed, .int l_letter]), .inl (0, 30, .inl l_letters), .inl (0, 30, .inl l_numbers), .inl (0, 30, .inl l_spots), .inl (0, 30, .inl l_heads), .inl (0, 30, .inl l_nexts), .inl (0, 30, .inl l_waters), .inl (0, 30, .inl l_sides), .inl (0, 30, .inl l_ties), .inr (5, [.ref 10, .ref 11, .ref 12, .ref 13, .int r_count, .int (qb r_changed)]), .inl (0, 30, .inl r_kinds), .inl (0, 30, .inl r_whole), .inl (0, 210, .inl r_marks), .inl (0, 6, .inl r_rules)]) hX fl_X2_43 fp_2_10 (qd K_X2_load 11 rfl) rfl rfl (Nat.le_of_ble_eq_true rfl) (qfit_i _) rfl ?_
  refine QG.aload_n hX (qd K_X2_load 12 rfl) rfl rfl ?_
  refine QG.aload_n hX (qd K_X2_load 13 rfl) rfl rfl ?_
  refine QG.getf hX fl_X2_52 (qd K_X2_load 14 rfl) rfl rfl rfl ?_
  refine QG.iconst hX (qd K_X2_load 15 rfl) rfl ki_3 ?_
  refine QG.iald hX (qd K_X2_load 16 rfl) rfl rfl ?_
  refine QG.putf (Wd' := [.inr (2, [.int 0, .ref 1, .ref 2, .ref 3, .ref 4, .ref 5, .ref 6, .ref 7, .ref 8, .int (-1), .int (r_rules (2 : Int32).toNatClampNeg), .int (r_rules (3 : Int32).toNatClampNeg), .int l_letter]), .inl (0, 30, .inl l_letters), .inl (0, 30, .inl l_numbers), .inl (0, 30, .inl l_spots), .inl (0, 30, .inl l_heads), .inl (0, 30, .inl l_nexts), .inl (0, 30, .inl l_waters), .inl (0, 30, .inl l_sides), .inl (0, 30, .inl l_ties), .inr (5, [.ref 10, .ref 11, .ref 12, .ref 13, .int r_count, .int (qb r_changed)]), .inl (0, 30, .inl r_kinds), .inl (0, 30, .inl r_whole), .inl (0, 210, .inl r_marks), .inl (0, 6, .inl r_rules)]) hX fl_X2_46 fp_2_11 (qd K_X2_load 17 rfl) rfl rfl (Nat.le_of_ble_eq_true rfl) (qfit_i _) rfl ?_
  refine QG.aload_n hX (qd K_X2_load 18 rfl) rfl rfl ?_
  refine QG.aload_n hX (qd K_X2_load 19 rfl) rfl rfl ?_
  refine QG.getf hX fl_X2_52 (qd K_X2_load 20 rfl) rfl rfl rfl ?_
  refine QG.iconst hX (qd K_X2_load 21 rfl) rfl ki_4 ?_
  refine QG.iald hX (qd K_X2_load 22 rfl) rfl rfl ?_
  refine QG.putf (Wd' := [.inr (2, [.int 0, .ref 1, .ref 2, .ref 3, .ref 4, .ref 5, .ref 6, .ref 7, .ref 8, .int (-1), .int (r_rules (2 : Int32).toNatClampNeg), .int (r_rules (3 : Int32).toNatClampNeg), .int (r_rules (4 : Int32).toNatClampNeg)]), .inl (0, 30, .inl l_letters), .inl (0, 30, .inl l_numbers), .inl (0, 30, .inl l_spots), .inl (0, 30, .inl l_heads), .inl (0, 30, .inl l_nexts), .inl (0, 30, .inl l_waters), .inl (0, 30, .inl l_sides), .inl (0, 30, .inl l_ties), .inr (5, [.ref 10, .ref 11, .ref 12, .ref 13, .int r_count, .int (qb r_changed)]), .inl (0, 30, .inl r_kinds), .inl (0, 30, .inl r_whole), .inl (0, 210, .inl r_marks), .inl (0, 6, .inl r_rules)]) hX fl_X2_49 fp_2_12 (qd K_X2_load 23 rfl) rfl rfl (Nat.le_of_ble_eq_true rfl) (qfit_i _) rfl ?_
  refine QG.iconst hX (qd K_X2_load 24 rfl) rfl ki_0 ?_
  refine QG.istore_n (lv' := [(2, .int 0), (0, .ref 0), (1, .ref 9)]) hX (qd K_X2_load 25 rfl) rfl (by decide) rfl ?_
  exact QG.jmp (lv' := [(0, .ref 0), (1, .ref 9), (2, .int 0)]) rfl (G_X2_load_b42 X hX ad r_kinds r_whole r_marks r_rules r_count r_changed FU 0 l_letters l_numbers l_spots l_heads l_nexts l_waters l_sides l_ties (-1) (r_rules (2 : Int32).toNatClampNeg) (r_rules (3 : Int32).toNatClampNeg) (r_rules (4 : Int32).toNatClampNeg) 0)

def P_X2_reach (l_count : Int32) (l_letters : Nat → Int32) (l_numbers : Nat → Int32) (l_spots : Nat → Int32) (l_heads : Nat → Int32) (l_nexts : Nat → Int32) (l_waters : Nat → Int32) (l_sides : Nat → Int32) (l_ties : Nat → Int32) (l_lastSpotted : Int32) (l_sizes : Int32) (l_signed : Int32) (l_letter : Int32) : Int32 → Option Value × List AC := fun z => (some (.int z), [.inr (2, [.int l_count, .ref 1, .ref 2, .ref 3, .ref 4, .ref 5, .ref 6, .ref 7, .ref 8, .int l_lastSpotted, .int l_sizes, .int l_signed, .int l_letter]), .inl (0, 30, .inl l_letters), .inl (0, 30, .inl l_numbers), .inl (0, 30, .inl l_spots), .inl (0, 30, .inl l_heads), .inl (0, 30, .inl l_nexts), .inl (0, 30, .inl l_waters), .inl (0, 30, .inl l_sides), .inl (0, 30, .inl l_ties)])
set_option maxRecDepth 100000 in
theorem G_X2_reach_b2 (X : QX) (hX : qok X cX2_reach RX2 4 (some .int) 0) (ad : Nat → Nat) (l_count : Int32) (l_letters : Nat → Int32) (l_numbers : Nat → Int32) (l_spots : Nat → Int32) (l_heads : Nat → Int32) (l_nexts : Nat → Int32) (l_waters : Nat → Int32) (l_sides : Nat → Int32) (l_ties : Nat → Int32) (l_lastSpotted : Int32) (l_sizes : Int32) (l_signed : Int32) (l_letter : Int32) : ∀ (n : Nat) (x1 : Int32) (x2 : Int32) (x3 : Int32), QG X 4 (qQ X ad 9 (P_X2_reach l_count l_letters l_numbers l_spots l_heads l_nexts l_waters l_sides l_ties l_lastSpotted l_sizes l_signed l_letter) 0 0) (F_X2_reach_b2 l_count l_letters l_letter n x1 x2 x3) 2 [(0, .ref 0), (1, .int x1), (2, .int x2), (3, .int x3)] [] [.inr (2, [.int l_count, .ref 1, .ref 2, .ref 3, .ref 4, .ref 5, .ref 6, .ref 7, .ref 8, .int l_lastSpotted, .int l_sizes, .int l_signed, .int l_letter]), .inl (0, 30, .inl l_letters), .inl (0, 30, .inl l_numbers), .inl (0, 30, .inl l_spots), .inl (0, 30, .inl l_heads), .inl (0, 30, .inl l_nexts), .inl (0, 30, .inl l_waters), .inl (0, 30, .inl l_sides), .inl (0, 30, .inl l_ties)] ad 0 0 := by
  intro n
  induction n with
  | zero => intros; exact QG.nothing
  | succ n ih =>
    intro x1 x2 x3
    refine QG.iload_n hX (qd K_X2_reach 2 rfl) rfl rfl ?_
    refine QG.bipush hX (qd K_X2_reach 3 rfl) rfl kb_8 ?_
    refine QG.icmp_ge (tgt := 56) hX (qd K_X2_reach 4 rfl) rfl (by decide) ?_ ?_
    · refine QG.iload_n hX (qd K_X2_reach 33 rfl) rfl rfl ?_
      exact QG.iret hX (qd K_X2_reach 34 rfl) rfl rfl (fun _ _ => rfl)
    · refine QG.iload_n hX (qd K_X2_reach 5 rfl) rfl rfl ?_
      refine QG.if_lt (tgt := 56) hX (qd K_X2_reach 6 rfl) rfl (by decide) ?_ ?_
      · refine QG.iload_n hX (qd K_X2_reach 33 rfl) rfl rfl ?_
        exact QG.iret hX (qd K_X2_reach 34 rfl) rfl rfl (fun _ _ => rfl)
      · refine QG.iload_n hX (qd K_X2_reach 7 rfl) rfl rfl ?_
        refine QG.iload_n hX (qd K_X2_reach 8 rfl) rfl rfl ?_
        refine QG.iadd hX (qd K_X2_reach 9 rfl) rfl ?_
        refine QG.aload_n hX (qd K_X2_reach 10 rfl) rfl rfl ?_
        refine QG.getf hX fl_X2_9 (qd K_X2_reach 11 rfl) rfl rfl rfl ?_
        refine QG.icmp_ge (tgt := 56) hX (qd K_X2_reach 12 rfl) rfl (by decide) ?_ ?_
        · refine QG.iload_n hX (qd K_X2_reach 33 rfl) rfl rfl ?_
          exact QG.iret hX (qd K_X2_reach 34 rfl) rfl rfl (fun _ _ => rfl)
        · refine QG.aload_n hX (qd K_X2_reach 13 rfl) rfl rfl ?_
          refine QG.getf hX fl_X2_15 (qd K_X2_reach 14 rfl) rfl rfl rfl ?_
          refine QG.iload_n hX (qd K_X2_reach 15 rfl) rfl rfl ?_
          refine QG.iload_n hX (qd K_X2_reach 16 rfl) rfl rfl ?_
          refine QG.iadd hX (qd K_X2_reach 17 rfl) rfl ?_
          refine QG.iald hX (qd K_X2_reach 18 rfl) rfl rfl ?_
          refine QG.if_eq (tgt := 50) hX (qd K_X2_reach 19 rfl) rfl (by decide) ?_ ?_
          · refine QG.iinc (lv' := [(3, .int (x3 + 1)), (0, .ref 0), (1, .int x1), (2, .int x2)]) hX (qd K_X2_reach 31 rfl) rfl (by decide) rfl ki_1 rfl ?_
            refine QG.goto (tgt := 2) hX (qd K_X2_reach 32 rfl) rfl (by decide) ?_
            exact QG.jmp (lv' := [(0, .ref 0), (1, .int x1), (2, .int x2), (3, .int (x3 + 1))]) rfl (ih x1 x2 (x3 + 1))
          · refine QG.aload_n hX (qd K_X2_reach 20 rfl) rfl rfl ?_
            refine QG.getf hX fl_X2_15 (qd K_X2_reach 21 rfl) rfl rfl rfl ?_
            refine QG.iload_n hX (qd K_X2_reach 22 rfl) rfl rfl ?_
            refine QG.iload_n hX (qd K_X2_reach 23 rfl) rfl rfl ?_
            refine QG.iadd hX (qd K_X2_reach 24 rfl) rfl ?_
            refine QG.iald hX (qd K_X2_reach 25 rfl) rfl rfl ?_
            refine QG.aload_n hX (qd K_X2_reach 26 rfl) rfl rfl ?_
            refine QG.getf hX fl_X2_49 (qd K_X2_reach 27 rfl) rfl rfl rfl ?_
            refine QG.iload_n hX (qd K_X2_reach 28 rfl) rfl rfl ?_
            refine QG.iadd hX (qd K_X2_reach 29 rfl) rfl ?_
            refine QG.icmp_ne (tgt := 56) hX (qd K_X2_reach 30 rfl) rfl (by decide) ?_ ?_
            · refine QG.iload_n hX (qd K_X2_reach 33 rfl) rfl rfl ?_
              exact QG.iret hX (qd K_X2_reach 34 rfl) rfl rfl (fun _ _ => rfl)
            · refine QG.iinc (lv' := [(3, .int (x3 + 1)), (0, .ref 0), (1, .int x1), (2, .int x2)]) hX (qd K_X2_reach 31 rfl) rfl (by decide) rfl ki_1 rfl ?_
              refine QG.goto (tgt := 2) hX (qd K_X2_reach 32 rfl) rfl (by decide) ?_
              exact QG.jmp (lv' := [(0, .ref 0), (1, .int x1), (2, .int x2), (3, .int (x3 + 1))]) rfl (ih x1 x2 (x3 + 1))

set_option maxRecDepth 100000 in
theorem M_X2_reach (l : Launch)  (l_count : Int32) (l_letters : Nat → Int32) (l_numbers : Nat → Int32) (l_spots : Nat → Int32) (l_heads : Nat → Int32) (l_nexts : Nat → Int32) (l_waters : Nat → Int32) (l_sides : Nat → Int32) (l_ties : Nat → Int32) (l_lastSpotted : Int32) (l_sizes : Int32) (l_signed : Int32) (l_letter : Int32) (p0 : Int32) (p1 : Int32) : QM l yX2_reach cX2_reach 4 (some .int) 0 0 0 (fun _ => True) [.ref 0, .int p0, .int p1] [.inr (2, [.int l_count, .ref 1, .ref 2, .ref 3, .ref 4, .ref 5, .ref 6, .ref 7, .ref 8, .int l_lastSpotted, .int l_sizes, .int l_signed, .int l_letter]), .inl (0, 30, .inl l_letters), .inl (0, 30, .inl l_numbers), .inl (0, 30, .inl l_spots), .inl (0, 30, .inl l_heads), .inl (0, 30, .inl l_nexts), .inl (0, 30, .inl l_waters), .inl (0, 30, .inl l_sides), .inl (0, 30, .inl l_ties)] (F_X2_reach l_count l_letters l_letter p0 p1) (P_X2_reach l_count l_letters l_numbers l_spots l_heads l_nexts l_waters l_sides l_ties l_lastSpotted l_sizes l_signed l_letter) := by
  refine QM.of (by decide +kernel) (Nat.le_of_ble_eq_true rfl) ?_
  rintro X ad hX _ _ _ _
  refine QG.iconst hX (qd K_X2_reach 0 rfl) rfl ki_0 ?_
  refine QG.istore_n (lv' := [(3, .int 0), (0, .ref 0), (1, .int p0), (2, .int p1)]) hX (qd K_X2_reach 1 rfl) rfl (by decide) rfl ?_
  exact QG.jmp (lv' := [(0, .ref 0), (1, .int p0), (2, .int p1), (3, .int 0)]) rfl (G_X2_reach_b2 X hX ad l_count l_letters l_numbers l_spots l_heads l_nexts l_waters l_sides l_ties l_lastSpotted l_sizes l_signed l_letter FU p0 p1 0)

def P_X2_joins (l_count : Int32) (l_letters : Nat → Int32) (l_numbers : Nat → Int32) (l_spots : Nat → Int32) (l_heads : Nat → Int32) (l_nexts : Nat → Int32) (l_waters : Nat → Int32) (l_sides : Nat → Int32) (l_ties : Nat → Int32) (l_lastSpotted : Int32) (l_sizes : Int32) (l_signed : Int32) (l_letter : Int32) : Bool → Option Value × List AC := fun z => (some (.int (qb z)), [.inr (2, [.int l_count, .ref 1, .ref 2, .ref 3, .ref 4, .ref 5, .ref 6, .ref 7, .ref 8, .int l_lastSpotted, .int l_sizes, .int l_signed, .int l_letter]), .inl (0, 30, .inl l_letters), .inl (0, 30, .inl l_numbers), .inl (0, 30, .inl l_spots), .inl (0, 30, .inl l_heads), .inl (0, 30, .inl l_nexts), .inl (0, 30, .inl l_waters), .inl (0, 30, .inl l_sides), .inl (0, 30, .inl l_ties)])
set_option maxRecDepth 100000 in
theorem M_X2_joins (l : Launch)  (l_count : Int32) (l_letters : Nat → Int32) (l_numbers : Nat → Int32) (l_spots : Nat → Int32) (l_heads : Nat → Int32) (l_nexts : Nat → Int32) (l_waters : Nat → Int32) (l_sides : Nat → Int32) (l_ties : Nat → Int32) (l_lastSpotted : Int32) (l_sizes : Int32) (l_signed : Int32) (l_letter : Int32) (p0 : Int32) : QM l yX2_joins cX2_joins 2 (some .boolean) 0 0 0 (fun _ => True) [.ref 0, .int p0] [.inr (2, [.int l_count, .ref 1, .ref 2, .ref 3, .ref 4, .ref 5, .ref 6, .ref 7, .ref 8, .int l_lastSpotted, .int l_sizes, .int l_signed, .int l_letter]), .inl (0, 30, .inl l_letters), .inl (0, 30, .inl l_numbers), .inl (0, 30, .inl l_spots), .inl (0, 30, .inl l_heads), .inl (0, 30, .inl l_nexts), .inl (0, 30, .inl l_waters), .inl (0, 30, .inl l_sides), .inl (0, 30, .inl l_ties)] (F_X2_joins l_count l_ties p0) (P_X2_joins l_count l_letters l_numbers l_spots l_heads l_nexts l_waters l_sides l_ties l_lastSpotted l_sizes l_signed l_letter) := by
  refine QM.of (by decide +kernel) (Nat.le_of_ble_eq_true rfl) ?_
  rintro X ad hX _ _ _ _
  refine QG.iload_n hX (qd K_X2_joins 0 rfl) rfl rfl ?_
  refine QG.if_lt (tgt := 25) hX (qd K_X2_joins 1 rfl) rfl (by decide) ?_ ?_
  · refine QG.iconst hX (qd K_X2_joins 13 rfl) rfl ki_0 ?_
    exact QG.zret hX (qd K_X2_joins 14 rfl) rfl (qb_nar false) rfl (fun _ _ => rfl)
  · refine QG.iload_n hX (qd K_X2_joins 2 rfl) rfl rfl ?_
    refine QG.aload_n hX (qd K_X2_joins 3 rfl) rfl rfl ?_
    refine QG.getf hX fl_X2_9 (qd K_X2_joins 4 rfl) rfl rfl rfl ?_
    refine QG.icmp_ge (tgt := 25) hX (qd K_X2_joins 5 rfl) rfl (by decide) ?_ ?_
    · refine QG.iconst hX (qd K_X2_joins 13 rfl) rfl ki_0 ?_
      exact QG.zret hX (qd K_X2_joins 14 rfl) rfl (qb_nar false) rfl (fun _ _ => rfl)
    · refine QG.aload_n hX (qd K_X2_joins 6 rfl) rfl rfl ?_
      refine QG.getf hX fl_X2_37 (qd K_X2_joins 7 rfl) rfl rfl rfl ?_
      refine QG.iload_n hX (qd K_X2_joins 8 rfl) rfl rfl ?_
      refine QG.iald hX (qd K_X2_joins 9 rfl) rfl rfl ?_
      refine QG.if_eq (tgt := 25) hX (qd K_X2_joins 10 rfl) rfl (by decide) ?_ ?_
      · refine QG.iconst hX (qd K_X2_joins 13 rfl) rfl ki_0 ?_
        exact QG.zret hX (qd K_X2_joins 14 rfl) rfl (qb_nar false) rfl (fun _ _ => rfl)
      · refine QG.iconst hX (qd K_X2_joins 11 rfl) rfl ki_1 ?_
        refine QG.goto (tgt := 26) hX (qd K_X2_joins 12 rfl) rfl (by decide) ?_
        exact QG.zret hX (qd K_X2_joins 14 rfl) rfl (qb_nar true) rfl (fun _ _ => rfl)


def F_X0_start (f_made : Bool) (f_quires : Int32) (f_things : Int32) (f_ghosts : Int32) (f_letter : Int32) (f_page : Int32) (f_laid : Int32) (p0 : Int32) (p1 : Int32) : Option (Bool × Int32 × Int32 × Int32 × Int32 × Int32 × Int32) :=
  some (true, 0, 0, 0, p0, p1, 0)
def F_X0_addQuire (f_quires : Int32) (f_sizes : Nat → Int32) (f_laid : Int32) (p0 : Int32) : Option (Int32 × (Nat → Int32) × Int32) :=
  if 8 ≤ f_quires then
    some (f_quires, f_sizes, f_laid)
  else
    ck (inb f_quires 8) <|
    some (f_quires + 1, upd f_sizes f_quires.toNatClampNeg p0, 0)
def F_X0_addCell (f_quires : Int32) (f_cells : Nat → Int32) (f_laid : Int32) (p0 : Int32) : Option ((Nat → Int32) × Int32) :=
  if f_quires ≤ 0 then
    some (f_cells, f_laid)
  else
    if 8 ≤ f_laid then
      some (f_cells, f_laid)
    else
      ck (inb (((f_quires - 1) * 8) + f_laid) 64) <|
      some (upd f_cells (((f_quires - 1) * 8) + f_laid).toNatClampNeg p0, f_laid + 1)
def F_X0_addGhost (f_quires : Int32) (f_ghosts : Int32) (f_cells : Nat → Int32) (f_laid : Int32) : Option (Int32 × (Nat → Int32) × Int32) :=
  (F_X0_addCell f_quires f_cells f_laid (-2)).bind fun c13 =>
  some (f_ghosts + 1, c13.1, c13.2)
def F_X0_addThing (f_things : Int32) (f_kinds : Nat → Int32) (p0 : Int32) : Option (Int32 × (Nat → Int32)) :=
  if 30 ≤ f_things then
    some (f_things + 1, f_kinds)
  else
    ck (inb f_things 30) <|
    some (f_things + 1, upd f_kinds f_things.toNatClampNeg p0)
def F_X0_addLeaf_b55 (f_things : Int32) (f_cells : Nat → Int32) (f_kinds : Nat → Int32) (f_words : Nat → Int32) (f_quireOf : Nat → Int32) (f_placeOf : Nat → Int32) (f_laid : Int32) (x1 : Int32) : Option (Int32 × (Nat → Int32) × (Nat → Int32) × (Nat → Int32) × (Nat → Int32) × (Nat → Int32) × Int32) :=
  (F_X0_addThing f_things f_kinds x1).bind fun c57 =>
  some (c57.1, f_cells, c57.2, f_words, f_quireOf, f_placeOf, f_laid)
def F_X0_addLeaf (f_quires : Int32) (f_things : Int32) (f_cells : Nat → Int32) (f_kinds : Nat → Int32) (f_words : Nat → Int32) (f_quireOf : Nat → Int32) (f_placeOf : Nat → Int32) (f_laid : Int32) (p0 : Int32) (p1 : Int32) : Option (Int32 × (Nat → Int32) × (Nat → Int32) × (Nat → Int32) × (Nat → Int32) × (Nat → Int32) × Int32) :=
  (F_X0_addCell f_quires f_cells f_laid f_things).bind fun c5 =>
  if 30 ≤ f_things then
    F_X0_addLeaf_b55 f_things c5.1 f_kinds f_words f_quireOf f_placeOf c5.2 p0
  else
    ck (inb f_things 30) <|
    ck (inb f_things 30) <|
    ck (inb f_things 30) <|
    F_X0_addLeaf_b55 f_things c5.1 f_kinds (upd f_words f_things.toNatClampNeg p1) (upd f_quireOf f_things.toNatClampNeg (f_quires - 1)) (upd f_placeOf f_things.toNatClampNeg c5.2) c5.2 p0
def F_X0_addLoose_b7 (q_from : Nat → Int32) : Nat → Int32 → (Nat → Int32) → Int32 → Int32 → Option (Int32 × Int32 × (Nat → Int32))
  | 0, _, _, _, _ => none
  | n + 1, f_things, f_kinds, x2, x4 =>
    if x2 ≤ x4 then
      some (x4, f_things, f_kinds)
    else
      if 30 ≤ x4 then
        some (x4, f_things, f_kinds)
      else
        ck (inb x4 30) <|
        (F_X7_isHanging (q_from x4.toNatClampNeg)).bind fun c24 =>
        if (qb c24) = 0 then
          ck (inb x4 30) <|
          (F_X0_addThing f_things f_kinds (q_from x4.toNatClampNeg)).bind fun c35 =>
          F_X0_addLoose_b7 q_from n c35.1 c35.2 x2 (x4 + 1)
        else
          some (x4, f_things, f_kinds)
def F_X0_addLoose (f_things : Int32) (f_kinds : Nat → Int32) (q_from : Nat → Int32) (p1 : Int32) (p2 : Int32) : Option (Int32 × Int32 × (Nat → Int32)) :=
  F_X0_addLoose_b7 q_from FU f_things f_kinds p1 (if p2 < 0 then 0 else p2)
def F_X0_layOut_b76 (r_kinds : Nat → Int32) (r_marks : Nat → Int32) (r_count : Int32) (k_chosenSizes : Nat → Int32) (k_chosenMasks : Nat → Int32) (k_chosen : Int32) (k33 : Bool → Int32 → Int32 → Int32 → Int32 → Int32 → (Nat → Int32) → (Nat → Int32) → (Nat → Int32) → (Nat → Int32) → (Nat → Int32) → (Nat → Int32) → Int32 → Int32 → Int32 → Option (Bool × Int32 × Int32 × Int32 × Int32 × Int32 × (Nat → Int32) × (Nat → Int32) × (Nat → Int32) × (Nat → Int32) × (Nat → Int32) × (Nat → Int32) × Int32)) : Nat → Bool → Int32 → Int32 → Int32 → Int32 → Int32 → (Nat → Int32) → (Nat → Int32) → (Nat → Int32) → (Nat → Int32) → (Nat → Int32) → (Nat → Int32) → Int32 → Int32 → Int32 → Int32 → Int32 → Int32 → Option (Bool × Int32 × Int32 × Int32 × Int32 × Int32 × (Nat → Int32) × (Nat → Int32) × (Nat → Int32) × (Nat → Int32) × (Nat → Int32) × (Nat → Int32) × Int32)
  | 0, _, _, _, _, _, _, _, _, _, _, _, _, _, _, _, _, _, _ => none
  | n + 1, f_made, f_quires, f_things, f_ghosts, f_letter, f_page, f_sizes, f_cells, f_kinds, f_words, f_quireOf, f_placeOf, f_laid, x3, x4, x5, x6, x7 =>
    if x5 < x7 then
      k33 f_made f_quires f_things f_ghosts f_letter f_page f_sizes f_cells f_kinds f_words f_quireOf f_placeOf f_laid x3 (x4 + 1)
    else
      (F_X7_isGhost x6 x5 x7).bind fun c89 =>
      if (qb c89) = 0 then
        (F_X5_kindOf r_kinds r_count x3).bind fun c105 =>
        (F_X5_markOf r_marks r_count x3 4).bind fun c111 =>
        (F_X0_addLeaf f_quires f_things f_cells f_kinds f_words f_quireOf f_placeOf f_laid c105 c111).bind fun c114 =>
        (F_X0_addLoose c114.1 c114.2.2.1 r_kinds r_count (x3 + 1)).bind fun c129 =>
        F_X0_layOut_b76 r_kinds r_marks r_count k_chosenSizes k_chosenMasks k_chosen k33 n f_made f_quires c129.2.1 f_ghosts f_letter f_page f_sizes c114.2.1 c129.2.2 c114.2.2.2.1 c114.2.2.2.2.1 c114.2.2.2.2.2.1 c114.2.2.2.2.2.2 c129.1 x4 x5 x6 (x7 + 1)
      else
        (F_X0_addGhost f_quires f_ghosts f_cells f_laid).bind fun c96 =>
        F_X0_layOut_b76 r_kinds r_marks r_count k_chosenSizes k_chosenMasks k_chosen k33 n f_made f_quires f_things c96.1 f_letter f_page f_sizes c96.2.1 f_kinds f_words f_quireOf f_placeOf c96.2.2 x3 x4 x5 x6 (x7 + 1)
def F_X0_layOut_b33 (r_kinds : Nat → Int32) (r_marks : Nat → Int32) (r_count : Int32) (k_chosenSizes : Nat → Int32) (k_chosenMasks : Nat → Int32) (k_chosen : Int32) : Nat → Bool → Int32 → Int32 → Int32 → Int32 → Int32 → (Nat → Int32) → (Nat → Int32) → (Nat → Int32) → (Nat → Int32) → (Nat → Int32) → (Nat → Int32) → Int32 → Int32 → Int32 → Option (Bool × Int32 × Int32 × Int32 × Int32 × Int32 × (Nat → Int32) × (Nat → Int32) × (Nat → Int32) × (Nat → Int32) × (Nat → Int32) × (Nat → Int32) × Int32)
  | 0, _, _, _, _, _, _, _, _, _, _, _, _, _, _, _ => none
  | n + 1, f_made, f_quires, f_things, f_ghosts, f_letter, f_page, f_sizes, f_cells, f_kinds, f_words, f_quireOf, f_placeOf, f_laid, x3, x4 =>
    if k_chosen ≤ x4 then
      some (f_made, f_quires, f_things, f_ghosts, f_letter, f_page, f_sizes, f_cells, f_kinds, f_words, f_quireOf, f_placeOf, f_laid)
    else
      if 8 ≤ x4 then
        some (f_made, f_quires, f_things, f_ghosts, f_letter, f_page, f_sizes, f_cells, f_kinds, f_words, f_quireOf, f_placeOf, f_laid)
      else
        ck (inb x4 8) <|
        ck (inb x4 8) <|
        (F_X0_addQuire f_quires f_sizes f_laid (k_chosenSizes x4.toNatClampNeg)).bind fun c70 =>
        F_X0_layOut_b76 r_kinds r_marks r_count k_chosenSizes k_chosenMasks k_chosen (fun f_made f_quires f_things f_ghosts f_letter f_page f_sizes f_cells f_kinds f_words f_quireOf f_placeOf f_laid x3 x4 => F_X0_layOut_b33 r_kinds r_marks r_count k_chosenSizes k_chosenMasks k_chosen n f_made f_quires f_things f_ghosts f_letter f_page f_sizes f_cells f_kinds f_words f_quireOf f_placeOf f_laid x3 x4) FU f_made c70.1 f_things f_ghosts f_letter f_page c70.2.1 f_cells f_kinds f_words f_quireOf f_placeOf c70.2.2 x3 x4 (k_chosenSizes x4.toNatClampNeg) (k_chosenMasks x4.toNatClampNeg) 1
def F_X0_layOut (f_made : Bool) (f_quires : Int32) (f_things : Int32) (f_ghosts : Int32) (f_letter : Int32) (f_page : Int32) (f_sizes : Nat → Int32) (f_cells : Nat → Int32) (f_kinds : Nat → Int32) (f_words : Nat → Int32) (f_quireOf : Nat → Int32) (f_placeOf : Nat → Int32) (f_laid : Int32) (r_kinds : Nat → Int32) (r_marks : Nat → Int32) (r_rules : Nat → Int32) (r_count : Int32) (k_chosenSizes : Nat → Int32) (k_chosenMasks : Nat → Int32) (k_chosen : Int32) : Option (Bool × Int32 × Int32 × Int32 × Int32 × Int32 × (Nat → Int32) × (Nat → Int32) × (Nat → Int32) × (Nat → Int32) × (Nat → Int32) × (Nat → Int32) × Int32) :=
  ck (inb 4 6) <|
  ck (inb 5 6) <|
  (F_X0_start f_made f_quires f_things f_ghosts f_letter f_page f_laid (r_rules (4 : Int32).toNatClampNeg) (r_rules (5 : Int32).toNatClampNeg)).bind fun c13 =>
  (F_X0_addLoose c13.2.2.1 f_kinds r_kinds r_count 0).bind fun c26 =>
  F_X0_layOut_b33 r_kinds r_marks r_count k_chosenSizes k_chosenMasks k_chosen FU c13.1 c13.2.1 c26.2.1 c13.2.2.2.1 c13.2.2.2.2.1 c13.2.2.2.2.2.1 f_sizes f_cells c26.2.2 f_words f_quireOf f_placeOf c13.2.2.2.2.2.2 c26.1 0
def F_X0_become (f_made : Bool) (f_quires : Int32) (f_things : Int32) (f_ghosts : Int32) (f_letter : Int32) (f_page : Int32) (f_sizes : Nat → Int32) (f_cells : Nat → Int32) (f_kinds : Nat → Int32) (f_words : Nat → Int32) (f_quireOf : Nat → Int32) (f_placeOf : Nat → Int32) (a_made : Bool) (a_quires : Int32) (a_things : Int32) (a_ghosts : Int32) (a_letter : Int32) (a_page : Int32) (a_sizes : Nat → Int32) (a_cells : Nat → Int32) (a_kinds : Nat → Int32) (a_words : Nat → Int32) (a_quireOf : Nat → Int32) (a_placeOf : Nat → Int32) : Option (Bool × Int32 × Int32 × Int32 × Int32 × Int32 × (Nat → Int32) × (Nat → Int32) × (Nat → Int32) × (Nat → Int32) × (Nat → Int32) × (Nat → Int32)) :=
  ck (cpok 0 0 8 8 8) <|
  ck (cpok 0 0 64 64 64) <|
  ck (cpok 0 0 30 30 30) <|
  ck (cpok 0 0 30 30 30) <|
  ck (cpok 0 0 30 30 30) <|
  ck (cpok 0 0 30 30 30) <|
  some (a_made, a_quires, a_things, a_ghosts, a_letter, a_page, va_cpy a_sizes f_sizes (0 : Int32).toNatClampNeg (0 : Int32).toNatClampNeg (8 : Int32).toNatClampNeg, va_cpy a_cells f_cells (0 : Int32).toNatClampNeg (0 : Int32).toNatClampNeg (64 : Int32).toNatClampNeg, va_cpy a_kinds f_kinds (0 : Int32).toNatClampNeg (0 : Int32).toNatClampNeg (30 : Int32).toNatClampNeg, va_cpy a_words f_words (0 : Int32).toNatClampNeg (0 : Int32).toNatClampNeg (30 : Int32).toNatClampNeg, va_cpy a_quireOf f_quireOf (0 : Int32).toNatClampNeg (0 : Int32).toNatClampNeg (30 : Int32).toNatClampNeg, va_cpy a_placeOf f_placeOf (0 : Int32).toNatClampNeg (0 : Int32).toNatClampNeg (30 : Int32).toNatClampNeg)
def F_X0_hasQuire (f_quires : Int32) (p0 : Int32) : Option (Bool) :=
  if p0 < 0 then
    some false
  else
    if f_quires ≤ p0 then
      some false
    else
      if 8 ≤ p0 then
        some false
      else
        some true
def F_X0_hasPlace (f_quires : Int32) (f_sizes : Nat → Int32) (p0 : Int32) (p1 : Int32) : Option (Bool) :=
  (F_X0_hasQuire f_quires p0).bind fun c2 =>
  if (qb c2) = 0 then
    some false
  else
    if p1 < 1 then
      some false
    else
      ck (inb p0 8) <|
      if (f_sizes p0.toNatClampNeg) < p1 then
        some false
      else
        if 8 < p1 then
          some false
        else
          some true
def F_X0_thingAt (f_quires : Int32) (f_sizes : Nat → Int32) (f_cells : Nat → Int32) (p0 : Int32) (p1 : Int32) : Option (Int32) :=
  (F_X0_hasPlace f_quires f_sizes p0 p1).bind fun c3 =>
  if (qb c3) = 0 then
    some (-1)
  else
    ck (inb (((p0 * 8) + p1) - 1) 64) <|
    some (f_cells (((p0 * 8) + p1) - 1).toNatClampNeg)
def F_X0_hangs (f_things : Int32) (f_kinds : Nat → Int32) (p0 : Int32) : Option (Bool) :=
  if p0 < 0 then
    some false
  else
    if f_things ≤ p0 then
      some false
    else
      if 30 ≤ p0 then
        some false
      else
        ck (inb p0 30) <|
        (F_X7_isHanging (f_kinds p0.toNatClampNeg)).bind fun c24 =>
        if (qb c24) = 0 then
          some false
        else
          some true
def F_X0_isLoose (f_things : Int32) (f_kinds : Nat → Int32) (p0 : Int32) : Option (Bool) :=
  if p0 < 0 then
    some false
  else
    if f_things ≤ p0 then
      some false
    else
      if 30 ≤ p0 then
        some false
      else
        ck (inb p0 30) <|
        (F_X7_isHanging (f_kinds p0.toNatClampNeg)).bind fun c24 =>
        if (qb c24) = 0 then
          some true
        else
          some false
def F_X0_isCancelled (f_things : Int32) (f_kinds : Nat → Int32) (p0 : Int32) : Option (Bool) :=
  (F_X0_hangs f_things f_kinds p0).bind fun c2 =>
  if (qb c2) = 0 then
    some false
  else
    ck (inb p0 30) <|
    if (f_kinds p0.toNatClampNeg) = 2 then
      (F_X0_isLoose f_things f_kinds (p0 + 1)).bind fun c22 =>
      if (qb c22) = 0 then
        some false
      else
        ck (inb (p0 + 1) 30) <|
        if (f_kinds (p0 + 1).toNatClampNeg) = 4 then
          some true
        else
          some false
    else
      some false
def F_X0_behind (f_things : Int32) (f_kinds : Nat → Int32) (p0 : Int32) : Option (Int32) :=
  (F_X0_isCancelled f_things f_kinds p0).bind fun c2 =>
  if (qb c2) = 0 then
    some (p0 + 1)
  else
    some (p0 + 2)
def F_X0_placesAhead_b4 (f_quires : Int32) (f_sizes : Nat → Int32) : Nat → Int32 → Int32 → Int32 → Option (Int32)
  | 0, _, _, _ => none
  | n + 1, x1, x2, x3 =>
    if x1 ≤ x3 then
      some x2
    else
      if f_quires ≤ x3 then
        some x2
      else
        if 8 ≤ x3 then
          some x2
        else
          ck (inb x3 8) <|
          F_X0_placesAhead_b4 f_quires f_sizes n x1 (x2 + (f_sizes x3.toNatClampNeg)) (x3 + 1)
def F_X0_placesAhead (f_quires : Int32) (f_sizes : Nat → Int32) (p0 : Int32) : Option (Int32) :=
  F_X0_placesAhead_b4 f_quires f_sizes FU p0 0 0
def F_X0_pageAt (f_quires : Int32) (f_page : Int32) (f_sizes : Nat → Int32) (p0 : Int32) (p1 : Int32) : Option (Int32) :=
  if f_page = 0 then
    some 0
  else
    (F_X0_placesAhead f_quires f_sizes p0).bind fun c18 =>
    some (f_page + ((2 : Int32) * ((c18 + p1) - 1)))
def F_X0_wordBefore_b45 (f_things : Int32) (f_kinds : Nat → Int32) (f_words : Nat → Int32) (x3 : Int32) : Option (Int32) :=
  (F_X0_hangs f_things f_kinds x3).bind fun c47 =>
  if (qb c47) = 0 then
    some 0
  else
    ck (inb x3 30) <|
    some (f_words x3.toNatClampNeg)
def F_X0_wordBefore (f_quires : Int32) (f_things : Int32) (f_sizes : Nat → Int32) (f_cells : Nat → Int32) (f_kinds : Nat → Int32) (f_words : Nat → Int32) (p0 : Int32) (p1 : Int32) : Option (Int32) :=
  if p1 ≤ 1 then
    (F_X0_hasQuire f_quires (p0 - 1)).bind fun c23 =>
    if (qb c23) = 0 then
      F_X0_wordBefore_b45 f_things f_kinds f_words (-1)
    else
      ck (inb (p0 - 1) 8) <|
      (F_X0_thingAt f_quires f_sizes f_cells (p0 - 1) (f_sizes (p0 - 1).toNatClampNeg)).bind fun c41 =>
      F_X0_wordBefore_b45 f_things f_kinds f_words c41
  else
    (F_X0_thingAt f_quires f_sizes f_cells p0 (p1 - 1)).bind fun c12 =>
    F_X0_wordBefore_b45 f_things f_kinds f_words c12
def F_X0_stateOf (f_quires : Int32) (f_things : Int32) (f_sizes : Nat → Int32) (f_cells : Nat → Int32) (f_kinds : Nat → Int32) (p0 : Int32) : Option (Int32) :=
  (F_X0_thingAt f_quires f_sizes f_cells (p0 / 8) ((p0 - p0 / 8 * 8) + 1)).bind fun c11 =>
  if c11 = (-1) then
    some 0
  else
    (F_X0_hangs f_things f_kinds c11).bind fun c24 =>
    if (qb c24) = 0 then
      some 1
    else
      ck (inb c11 30) <|
      if (f_kinds c11.toNatClampNeg) = 1 then
        some 2
      else
        (F_X0_isCancelled f_things f_kinds c11).bind fun c46 =>
        if (qb c46) = 0 then
          some 3
        else
          some 4
def F_X0_isFoldedLike_b15 (f_quires : Int32) (f_sizes : Nat → Int32) (a_quires : Int32) (a_sizes : Nat → Int32) : Nat → Int32 → Option (Bool)
  | 0, _ => none
  | n + 1, x2 =>
    if 8 ≤ x2 then
      some true
    else
      (F_X0_hasQuire f_quires x2).bind fun c23 =>
      if (qb c23) = 0 then
        F_X0_isFoldedLike_b15 f_quires f_sizes a_quires a_sizes n (x2 + 1)
      else
        (F_X0_hasQuire a_quires x2).bind fun c31 =>
        if (qb c31) = 0 then
          F_X0_isFoldedLike_b15 f_quires f_sizes a_quires a_sizes n (x2 + 1)
        else
          ck (inb x2 8) <|
          ck (inb x2 8) <|
          if (f_sizes x2.toNatClampNeg) = (a_sizes x2.toNatClampNeg) then
            F_X0_isFoldedLike_b15 f_quires f_sizes a_quires a_sizes n (x2 + 1)
          else
            some false
def F_X0_isFoldedLike (f_quires : Int32) (f_letter : Int32) (f_sizes : Nat → Int32) (a_quires : Int32) (a_letter : Int32) (a_sizes : Nat → Int32) : Option (Bool) :=
  if f_letter = a_letter then
    F_X0_isFoldedLike_b15 f_quires f_sizes a_quires a_sizes FU 0
  else
    some false
def F_X0_isFoldedLike_s_b15 (f_quires : Int32) (f_sizes : Nat → Int32) : Nat → Int32 → Option (Bool)
  | 0, _ => none
  | n + 1, x2 =>
    if 8 ≤ x2 then
      some true
    else
      (F_X0_hasQuire f_quires x2).bind fun c23 =>
      if (qb c23) = 0 then
        F_X0_isFoldedLike_s_b15 f_quires f_sizes n (x2 + 1)
      else
        (F_X0_hasQuire f_quires x2).bind fun c31 =>
        if (qb c31) = 0 then
          F_X0_isFoldedLike_s_b15 f_quires f_sizes n (x2 + 1)
        else
          ck (inb x2 8) <|
          ck (inb x2 8) <|
          if (f_sizes x2.toNatClampNeg) = (f_sizes x2.toNatClampNeg) then
            F_X0_isFoldedLike_s_b15 f_quires f_sizes n (x2 + 1)
          else
            some false
def F_X0_isFoldedLike_s (f_quires : Int32) (f_letter : Int32) (f_sizes : Nat → Int32) : Option (Bool) :=
  if f_letter = f_letter then
    F_X0_isFoldedLike_s_b15 f_quires f_sizes FU 0
  else
    some false
def F_X0_joinPlace_b110 (b_quires : Int32) (b_things : Int32) (b_sizes : Nat → Int32) (b_cells : Nat → Int32) (b_kinds : Nat → Int32) (f_things : Int32) (f_ghosts : Int32) (f_cells : Nat → Int32) (f_kinds : Nat → Int32) (f_words : Nat → Int32) (f_quireOf : Nat → Int32) (f_placeOf : Nat → Int32) (f_laid : Int32) (x3 : Int32) (x4 : Int32) : Option (Int32 × Int32 × (Nat → Int32) × (Nat → Int32) × (Nat → Int32) × (Nat → Int32) × (Nat → Int32) × Int32) :=
  (F_X0_thingAt b_quires b_sizes b_cells x3 x4).bind fun c117 =>
  if c117 < 0 then
    some (f_things, f_ghosts, f_cells, f_kinds, f_words, f_quireOf, f_placeOf, f_laid)
  else
    (F_X0_behind b_things b_kinds c117).bind fun c142 =>
    (F_X0_addLoose f_things f_kinds b_kinds b_things c142).bind fun c145 =>
    some (c145.2.1, f_ghosts, f_cells, c145.2.2, f_words, f_quireOf, f_placeOf, f_laid)
def F_X0_joinPlace_b110_2 (a_quires : Int32) (a_things : Int32) (a_sizes : Nat → Int32) (a_cells : Nat → Int32) (a_kinds : Nat → Int32) (f_things : Int32) (f_ghosts : Int32) (f_cells : Nat → Int32) (f_kinds : Nat → Int32) (f_words : Nat → Int32) (f_quireOf : Nat → Int32) (f_placeOf : Nat → Int32) (f_laid : Int32) (x3 : Int32) (x4 : Int32) : Option (Int32 × Int32 × (Nat → Int32) × (Nat → Int32) × (Nat → Int32) × (Nat → Int32) × (Nat → Int32) × Int32) :=
  (F_X0_thingAt a_quires a_sizes a_cells x3 x4).bind fun c117 =>
  if c117 < 0 then
    some (f_things, f_ghosts, f_cells, f_kinds, f_words, f_quireOf, f_placeOf, f_laid)
  else
    (F_X0_behind a_things a_kinds c117).bind fun c142 =>
    (F_X0_addLoose f_things f_kinds a_kinds a_things c142).bind fun c145 =>
    some (c145.2.1, f_ghosts, f_cells, c145.2.2, f_words, f_quireOf, f_placeOf, f_laid)
def F_X0_joinPlace_b99 (a_quires : Int32) (a_things : Int32) (a_sizes : Nat → Int32) (a_cells : Nat → Int32) (a_kinds : Nat → Int32) (b_quires : Int32) (b_things : Int32) (b_sizes : Nat → Int32) (b_cells : Nat → Int32) (b_kinds : Nat → Int32) (f_things : Int32) (f_ghosts : Int32) (f_cells : Nat → Int32) (f_kinds : Nat → Int32) (f_words : Nat → Int32) (f_quireOf : Nat → Int32) (f_placeOf : Nat → Int32) (f_laid : Int32) (x3 : Int32) (x4 : Int32) (x6 : Int32) : Option (Int32 × Int32 × (Nat → Int32) × (Nat → Int32) × (Nat → Int32) × (Nat → Int32) × (Nat → Int32) × Int32) :=
  if x6 ≤ 1 then
    F_X0_joinPlace_b110 b_quires b_things b_sizes b_cells b_kinds f_things f_ghosts f_cells f_kinds f_words f_quireOf f_placeOf f_laid x3 x4
  else
    F_X0_joinPlace_b110_2 a_quires a_things a_sizes a_cells a_kinds f_things f_ghosts f_cells f_kinds f_words f_quireOf f_placeOf f_laid x3 x4
def F_X0_joinPlace_b39 (f_quires : Int32) (a_quires : Int32) (a_things : Int32) (a_sizes : Nat → Int32) (a_cells : Nat → Int32) (a_kinds : Nat → Int32) (b_quires : Int32) (b_things : Int32) (b_sizes : Nat → Int32) (b_cells : Nat → Int32) (b_kinds : Nat → Int32) (f_things : Int32) (f_ghosts : Int32) (f_cells : Nat → Int32) (f_kinds : Nat → Int32) (f_words : Nat → Int32) (f_quireOf : Nat → Int32) (f_placeOf : Nat → Int32) (f_laid : Int32) (x3 : Int32) (x4 : Int32) (x6 : Int32) : Option (Int32 × Int32 × (Nat → Int32) × (Nat → Int32) × (Nat → Int32) × (Nat → Int32) × (Nat → Int32) × Int32) :=
  (F_X0_addLeaf f_quires f_things f_cells f_kinds f_words f_quireOf f_placeOf f_laid 1 0).bind fun c42 =>
  F_X0_joinPlace_b99 a_quires a_things a_sizes a_cells a_kinds b_quires b_things b_sizes b_cells b_kinds c42.1 f_ghosts c42.2.1 c42.2.2.1 c42.2.2.2.1 c42.2.2.2.2.1 c42.2.2.2.2.2.1 c42.2.2.2.2.2.2 x3 x4 x6
def F_X0_joinPlace_b60 (f_quires : Int32) (a_quires : Int32) (a_things : Int32) (a_sizes : Nat → Int32) (a_cells : Nat → Int32) (a_kinds : Nat → Int32) (b_quires : Int32) (b_things : Int32) (b_sizes : Nat → Int32) (b_cells : Nat → Int32) (b_kinds : Nat → Int32) (f_things : Int32) (f_ghosts : Int32) (f_cells : Nat → Int32) (f_kinds : Nat → Int32) (f_words : Nat → Int32) (f_quireOf : Nat → Int32) (f_placeOf : Nat → Int32) (f_laid : Int32) (x3 : Int32) (x4 : Int32) (x6 : Int32) : Option (Int32 × Int32 × (Nat → Int32) × (Nat → Int32) × (Nat → Int32) × (Nat → Int32) × (Nat → Int32) × Int32) :=
  (F_X0_addLeaf f_quires f_things f_cells f_kinds f_words f_quireOf f_placeOf f_laid 2 0).bind fun c63 =>
  (F_X0_addThing c63.1 c63.2.2.1 4).bind fun c68 =>
  F_X0_joinPlace_b99 a_quires a_things a_sizes a_cells a_kinds b_quires b_things b_sizes b_cells b_kinds c68.1 f_ghosts c63.2.1 c68.2 c63.2.2.2.1 c63.2.2.2.2.1 c63.2.2.2.2.2.1 c63.2.2.2.2.2.2 x3 x4 x6
def F_X0_joinPlace_b86 (f_quires : Int32) (a_quires : Int32) (a_things : Int32) (a_sizes : Nat → Int32) (a_cells : Nat → Int32) (a_kinds : Nat → Int32) (b_quires : Int32) (b_things : Int32) (b_sizes : Nat → Int32) (b_cells : Nat → Int32) (b_kinds : Nat → Int32) (f_things : Int32) (f_ghosts : Int32) (f_cells : Nat → Int32) (f_kinds : Nat → Int32) (f_words : Nat → Int32) (f_quireOf : Nat → Int32) (f_placeOf : Nat → Int32) (f_laid : Int32) (x3 : Int32) (x4 : Int32) (x6 : Int32) : Option (Int32 × Int32 × (Nat → Int32) × (Nat → Int32) × (Nat → Int32) × (Nat → Int32) × (Nat → Int32) × Int32) :=
  (F_X0_addLeaf f_quires f_things f_cells f_kinds f_words f_quireOf f_placeOf f_laid 2 0).bind fun c89 =>
  F_X0_joinPlace_b99 a_quires a_things a_sizes a_cells a_kinds b_quires b_things b_sizes b_cells b_kinds c89.1 f_ghosts c89.2.1 c89.2.2.1 c89.2.2.2.1 c89.2.2.2.2.1 c89.2.2.2.2.2.1 c89.2.2.2.2.2.2 x3 x4 x6
def F_X0_joinPlace (f_quires : Int32) (f_things : Int32) (f_ghosts : Int32) (f_cells : Nat → Int32) (f_kinds : Nat → Int32) (f_words : Nat → Int32) (f_quireOf : Nat → Int32) (f_placeOf : Nat → Int32) (f_laid : Int32) (a_quires : Int32) (a_things : Int32) (a_sizes : Nat → Int32) (a_cells : Nat → Int32) (a_kinds : Nat → Int32) (b_quires : Int32) (b_things : Int32) (b_sizes : Nat → Int32) (b_cells : Nat → Int32) (b_kinds : Nat → Int32) (p2 : Int32) (p3 : Int32) : Option (Int32 × Int32 × (Nat → Int32) × (Nat → Int32) × (Nat → Int32) × (Nat → Int32) × (Nat → Int32) × Int32) :=
  (F_X0_stateOf a_quires a_things a_sizes a_cells a_kinds (((p2 * 8) + p3) - 1)).bind fun c14 =>
  (F_X0_stateOf b_quires b_things b_sizes b_cells b_kinds (((p2 * 8) + p3) - 1)).bind fun c22 =>
  if c14 = 2 then
    F_X0_joinPlace_b39 f_quires a_quires a_things a_sizes a_cells a_kinds b_quires b_things b_sizes b_cells b_kinds f_things f_ghosts f_cells f_kinds f_words f_quireOf f_placeOf f_laid p2 p3 c14
  else
    if c22 = 2 then
      F_X0_joinPlace_b39 f_quires a_quires a_things a_sizes a_cells a_kinds b_quires b_things b_sizes b_cells b_kinds f_things f_ghosts f_cells f_kinds f_words f_quireOf f_placeOf f_laid p2 p3 c14
    else
      if c14 = 4 then
        F_X0_joinPlace_b60 f_quires a_quires a_things a_sizes a_cells a_kinds b_quires b_things b_sizes b_cells b_kinds f_things f_ghosts f_cells f_kinds f_words f_quireOf f_placeOf f_laid p2 p3 c14
      else
        if c22 = 4 then
          F_X0_joinPlace_b60 f_quires a_quires a_things a_sizes a_cells a_kinds b_quires b_things b_sizes b_cells b_kinds f_things f_ghosts f_cells f_kinds f_words f_quireOf f_placeOf f_laid p2 p3 c14
        else
          if c14 = 3 then
            F_X0_joinPlace_b86 f_quires a_quires a_things a_sizes a_cells a_kinds b_quires b_things b_sizes b_cells b_kinds f_things f_ghosts f_cells f_kinds f_words f_quireOf f_placeOf f_laid p2 p3 c14
          else
            if c22 = 3 then
              F_X0_joinPlace_b86 f_quires a_quires a_things a_sizes a_cells a_kinds b_quires b_things b_sizes b_cells b_kinds f_things f_ghosts f_cells f_kinds f_words f_quireOf f_placeOf f_laid p2 p3 c14
            else
              (F_X0_addGhost f_quires f_ghosts f_cells f_laid).bind fun c96 =>
              F_X0_joinPlace_b99 a_quires a_things a_sizes a_cells a_kinds b_quires b_things b_sizes b_cells b_kinds f_things c96.1 c96.2.1 f_kinds f_words f_quireOf f_placeOf c96.2.2 p2 p3 c14
def F_X0_joinPlace_s_b110 (a_quires : Int32) (a_things : Int32) (a_sizes : Nat → Int32) (a_cells : Nat → Int32) (a_kinds : Nat → Int32) (f_things : Int32) (f_ghosts : Int32) (f_cells : Nat → Int32) (f_kinds : Nat → Int32) (f_words : Nat → Int32) (f_quireOf : Nat → Int32) (f_placeOf : Nat → Int32) (f_laid : Int32) (x3 : Int32) (x4 : Int32) : Option (Int32 × Int32 × (Nat → Int32) × (Nat → Int32) × (Nat → Int32) × (Nat → Int32) × (Nat → Int32) × Int32) :=
  (F_X0_thingAt a_quires a_sizes a_cells x3 x4).bind fun c117 =>
  if c117 < 0 then
    some (f_things, f_ghosts, f_cells, f_kinds, f_words, f_quireOf, f_placeOf, f_laid)
  else
    (F_X0_behind a_things a_kinds c117).bind fun c142 =>
    (F_X0_addLoose f_things f_kinds a_kinds a_things c142).bind fun c145 =>
    some (c145.2.1, f_ghosts, f_cells, c145.2.2, f_words, f_quireOf, f_placeOf, f_laid)
def F_X0_joinPlace_s_b99 (a_quires : Int32) (a_things : Int32) (a_sizes : Nat → Int32) (a_cells : Nat → Int32) (a_kinds : Nat → Int32) (f_things : Int32) (f_ghosts : Int32) (f_cells : Nat → Int32) (f_kinds : Nat → Int32) (f_words : Nat → Int32) (f_quireOf : Nat → Int32) (f_placeOf : Nat → Int32) (f_laid : Int32) (x3 : Int32) (x4 : Int32) (x6 : Int32) : Option (Int32 × Int32 × (Nat → Int32) × (Nat → Int32) × (Nat → Int32) × (Nat → Int32) × (Nat → Int32) × Int32) :=
  if x6 ≤ 1 then
    F_X0_joinPlace_s_b110 a_quires a_things a_sizes a_cells a_kinds f_things f_ghosts f_cells f_kinds f_words f_quireOf f_placeOf f_laid x3 x4
  else
    F_X0_joinPlace_s_b110 a_quires a_things a_sizes a_cells a_kinds f_things f_ghosts f_cells f_kinds f_words f_quireOf f_placeOf f_laid x3 x4
def F_X0_joinPlace_s_b39 (f_quires : Int32) (a_quires : Int32) (a_things : Int32) (a_sizes : Nat → Int32) (a_cells : Nat → Int32) (a_kinds : Nat → Int32) (f_things : Int32) (f_ghosts : Int32) (f_cells : Nat → Int32) (f_kinds : Nat → Int32) (f_words : Nat → Int32) (f_quireOf : Nat → Int32) (f_placeOf : Nat → Int32) (f_laid : Int32) (x3 : Int32) (x4 : Int32) (x6 : Int32) : Option (Int32 × Int32 × (Nat → Int32) × (Nat → Int32) × (Nat → Int32) × (Nat → Int32) × (Nat → Int32) × Int32) :=
  (F_X0_addLeaf f_quires f_things f_cells f_kinds f_words f_quireOf f_placeOf f_laid 1 0).bind fun c42 =>
  F_X0_joinPlace_s_b99 a_quires a_things a_sizes a_cells a_kinds c42.1 f_ghosts c42.2.1 c42.2.2.1 c42.2.2.2.1 c42.2.2.2.2.1 c42.2.2.2.2.2.1 c42.2.2.2.2.2.2 x3 x4 x6
def F_X0_joinPlace_s_b60 (f_quires : Int32) (a_quires : Int32) (a_things : Int32) (a_sizes : Nat → Int32) (a_cells : Nat → Int32) (a_kinds : Nat → Int32) (f_things : Int32) (f_ghosts : Int32) (f_cells : Nat → Int32) (f_kinds : Nat → Int32) (f_words : Nat → Int32) (f_quireOf : Nat → Int32) (f_placeOf : Nat → Int32) (f_laid : Int32) (x3 : Int32) (x4 : Int32) (x6 : Int32) : Option (Int32 × Int32 × (Nat → Int32) × (Nat → Int32) × (Nat → Int32) × (Nat → Int32) × (Nat → Int32) × Int32) :=
  (F_X0_addLeaf f_quires f_things f_cells f_kinds f_words f_quireOf f_placeOf f_laid 2 0).bind fun c63 =>
  (F_X0_addThing c63.1 c63.2.2.1 4).bind fun c68 =>
  F_X0_joinPlace_s_b99 a_quires a_things a_sizes a_cells a_kinds c68.1 f_ghosts c63.2.1 c68.2 c63.2.2.2.1 c63.2.2.2.2.1 c63.2.2.2.2.2.1 c63.2.2.2.2.2.2 x3 x4 x6
def F_X0_joinPlace_s_b86 (f_quires : Int32) (a_quires : Int32) (a_things : Int32) (a_sizes : Nat → Int32) (a_cells : Nat → Int32) (a_kinds : Nat → Int32) (f_things : Int32) (f_ghosts : Int32) (f_cells : Nat → Int32) (f_kinds : Nat → Int32) (f_words : Nat → Int32) (f_quireOf : Nat → Int32) (f_placeOf : Nat → Int32) (f_laid : Int32) (x3 : Int32) (x4 : Int32) (x6 : Int32) : Option (Int32 × Int32 × (Nat → Int32) × (Nat → Int32) × (Nat → Int32) × (Nat → Int32) × (Nat → Int32) × Int32) :=
  (F_X0_addLeaf f_quires f_things f_cells f_kinds f_words f_quireOf f_placeOf f_laid 2 0).bind fun c89 =>
  F_X0_joinPlace_s_b99 a_quires a_things a_sizes a_cells a_kinds c89.1 f_ghosts c89.2.1 c89.2.2.1 c89.2.2.2.1 c89.2.2.2.2.1 c89.2.2.2.2.2.1 c89.2.2.2.2.2.2 x3 x4 x6
def F_X0_joinPlace_s (f_quires : Int32) (f_things : Int32) (f_ghosts : Int32) (f_cells : Nat → Int32) (f_kinds : Nat → Int32) (f_words : Nat → Int32) (f_quireOf : Nat → Int32) (f_placeOf : Nat → Int32) (f_laid : Int32) (a_quires : Int32) (a_things : Int32) (a_sizes : Nat → Int32) (a_cells : Nat → Int32) (a_kinds : Nat → Int32) (p2 : Int32) (p3 : Int32) : Option (Int32 × Int32 × (Nat → Int32) × (Nat → Int32) × (Nat → Int32) × (Nat → Int32) × (Nat → Int32) × Int32) :=
  (F_X0_stateOf a_quires a_things a_sizes a_cells a_kinds (((p2 * 8) + p3) - 1)).bind fun c14 =>
  (F_X0_stateOf a_quires a_things a_sizes a_cells a_kinds (((p2 * 8) + p3) - 1)).bind fun c22 =>
  if c14 = 2 then
    F_X0_joinPlace_s_b39 f_quires a_quires a_things a_sizes a_cells a_kinds f_things f_ghosts f_cells f_kinds f_words f_quireOf f_placeOf f_laid p2 p3 c14
  else
    if c22 = 2 then
      F_X0_joinPlace_s_b39 f_quires a_quires a_things a_sizes a_cells a_kinds f_things f_ghosts f_cells f_kinds f_words f_quireOf f_placeOf f_laid p2 p3 c14
    else
      if c14 = 4 then
        F_X0_joinPlace_s_b60 f_quires a_quires a_things a_sizes a_cells a_kinds f_things f_ghosts f_cells f_kinds f_words f_quireOf f_placeOf f_laid p2 p3 c14
      else
        if c22 = 4 then
          F_X0_joinPlace_s_b60 f_quires a_quires a_things a_sizes a_cells a_kinds f_things f_ghosts f_cells f_kinds f_words f_quireOf f_placeOf f_laid p2 p3 c14
        else
          if c14 = 3 then
            F_X0_joinPlace_s_b86 f_quires a_quires a_things a_sizes a_cells a_kinds f_things f_ghosts f_cells f_kinds f_words f_quireOf f_placeOf f_laid p2 p3 c14
          else
            if c22 = 3 then
              F_X0_joinPlace_s_b86 f_quires a_quires a_things a_sizes a_cells a_kinds f_things f_ghosts f_cells f_kinds f_words f_quireOf f_placeOf f_laid p2 p3 c14
            else
              (F_X0_addGhost f_quires f_ghosts f_cells f_laid).bind fun c96 =>
              F_X0_joinPlace_s_b99 a_quires a_things a_sizes a_cells a_kinds f_things c96.1 c96.2.1 f_kinds f_words f_quireOf f_placeOf c96.2.2 p2 p3 c14
def F_X0_join_b81 (a_quires : Int32) (a_things : Int32) (a_sizes : Nat → Int32) (a_cells : Nat → Int32) (a_kinds : Nat → Int32) (b_quires : Int32) (b_things : Int32) (b_sizes : Nat → Int32) (b_cells : Nat → Int32) (b_kinds : Nat → Int32) (k25 : Bool → Int32 → Int32 → Int32 → Int32 → Int32 → (Nat → Int32) → (Nat → Int32) → (Nat → Int32) → (Nat → Int32) → (Nat → Int32) → (Nat → Int32) → Int32 → Int32 → Option (Bool × Int32 × Int32 × Int32 × Int32 × Int32 × (Nat → Int32) × (Nat → Int32) × (Nat → Int32) × (Nat → Int32) × (Nat → Int32) × (Nat → Int32) × Int32)) : Nat → Bool → Int32 → Int32 → Int32 → Int32 → Int32 → (Nat → Int32) → (Nat → Int32) → (Nat → Int32) → (Nat → Int32) → (Nat → Int32) → (Nat → Int32) → Int32 → Int32 → Int32 → Int32 → Option (Bool × Int32 × Int32 × Int32 × Int32 × Int32 × (Nat → Int32) × (Nat → Int32) × (Nat → Int32) × (Nat → Int32) × (Nat → Int32) × (Nat → Int32) × Int32)
  | 0, _, _, _, _, _, _, _, _, _, _, _, _, _, _, _, _ => none
  | n + 1, f_made, f_quires, f_things, f_ghosts, f_letter, f_page, f_sizes, f_cells, f_kinds, f_words, f_quireOf, f_placeOf, f_laid, x3, x4, x5 =>
    if x4 < x5 then
      k25 f_made f_quires f_things f_ghosts f_letter f_page f_sizes f_cells f_kinds f_words f_quireOf f_placeOf f_laid (x3 + 1)
    else
      (F_X0_joinPlace f_quires f_things f_ghosts f_cells f_kinds f_words f_quireOf f_placeOf f_laid a_quires a_things a_sizes a_cells a_kinds b_quires b_things b_sizes b_cells b_kinds x3 x5).bind fun c94 =>
      F_X0_join_b81 a_quires a_things a_sizes a_cells a_kinds b_quires b_things b_sizes b_cells b_kinds k25 n f_made f_quires c94.1 c94.2.1 f_letter f_page f_sizes c94.2.2.1 c94.2.2.2.1 c94.2.2.2.2.1 c94.2.2.2.2.2.1 c94.2.2.2.2.2.2.1 c94.2.2.2.2.2.2.2 x3 x4 (x5 + 1)
def F_X0_join_b70 (a_quires : Int32) (a_things : Int32) (a_sizes : Nat → Int32) (a_cells : Nat → Int32) (a_kinds : Nat → Int32) (b_quires : Int32) (b_things : Int32) (b_sizes : Nat → Int32) (b_cells : Nat → Int32) (b_kinds : Nat → Int32) (k25 : Bool → Int32 → Int32 → Int32 → Int32 → Int32 → (Nat → Int32) → (Nat → Int32) → (Nat → Int32) → (Nat → Int32) → (Nat → Int32) → (Nat → Int32) → Int32 → Int32 → Option (Bool × Int32 × Int32 × Int32 × Int32 × Int32 × (Nat → Int32) × (Nat → Int32) × (Nat → Int32) × (Nat → Int32) × (Nat → Int32) × (Nat → Int32) × Int32)) (f_made : Bool) (f_quires : Int32) (f_things : Int32) (f_ghosts : Int32) (f_letter : Int32) (f_page : Int32) (f_sizes : Nat → Int32) (f_cells : Nat → Int32) (f_kinds : Nat → Int32) (f_words : Nat → Int32) (f_quireOf : Nat → Int32) (f_placeOf : Nat → Int32) (f_laid : Int32) (x3 : Int32) (t0 : Int32) : Option (Bool × Int32 × Int32 × Int32 × Int32 × Int32 × (Nat → Int32) × (Nat → Int32) × (Nat → Int32) × (Nat → Int32) × (Nat → Int32) × (Nat → Int32) × Int32) :=
  (F_X0_addQuire f_quires f_sizes f_laid t0).bind fun c75 =>
  F_X0_join_b81 a_quires a_things a_sizes a_cells a_kinds b_quires b_things b_sizes b_cells b_kinds k25 FU f_made c75.1 f_things f_ghosts f_letter f_page c75.2.1 f_cells f_kinds f_words f_quireOf f_placeOf c75.2.2 x3 t0 1
def F_X0_join_b47 (a_quires : Int32) (a_things : Int32) (a_sizes : Nat → Int32) (a_cells : Nat → Int32) (a_kinds : Nat → Int32) (b_quires : Int32) (b_things : Int32) (b_sizes : Nat → Int32) (b_cells : Nat → Int32) (b_kinds : Nat → Int32) (k25 : Bool → Int32 → Int32 → Int32 → Int32 → Int32 → (Nat → Int32) → (Nat → Int32) → (Nat → Int32) → (Nat → Int32) → (Nat → Int32) → (Nat → Int32) → Int32 → Int32 → Option (Bool × Int32 × Int32 × Int32 × Int32 × Int32 × (Nat → Int32) × (Nat → Int32) × (Nat → Int32) × (Nat → Int32) × (Nat → Int32) × (Nat → Int32) × Int32)) (f_made : Bool) (f_quires : Int32) (f_things : Int32) (f_ghosts : Int32) (f_letter : Int32) (f_page : Int32) (f_sizes : Nat → Int32) (f_cells : Nat → Int32) (f_kinds : Nat → Int32) (f_words : Nat → Int32) (f_quireOf : Nat → Int32) (f_placeOf : Nat → Int32) (f_laid : Int32) (x3 : Int32) : Option (Bool × Int32 × Int32 × Int32 × Int32 × Int32 × (Nat → Int32) × (Nat → Int32) × (Nat → Int32) × (Nat → Int32) × (Nat → Int32) × (Nat → Int32) × Int32) :=
  (F_X0_hasQuire a_quires x3).bind fun c49 =>
  if (qb c49) = 0 then
    ck (inb x3 8) <|
    F_X0_join_b70 a_quires a_things a_sizes a_cells a_kinds b_quires b_things b_sizes b_cells b_kinds k25 f_made f_quires f_things f_ghosts f_letter f_page f_sizes f_cells f_kinds f_words f_quireOf f_placeOf f_laid x3 (b_sizes x3.toNatClampNeg)
  else
    ck (inb x3 8) <|
    F_X0_join_b70 a_quires a_things a_sizes a_cells a_kinds b_quires b_things b_sizes b_cells b_kinds k25 f_made f_quires f_things f_ghosts f_letter f_page f_sizes f_cells f_kinds f_words f_quireOf f_placeOf f_laid x3 (a_sizes x3.toNatClampNeg)
def F_X0_join_b25 (a_quires : Int32) (a_things : Int32) (a_sizes : Nat → Int32) (a_cells : Nat → Int32) (a_kinds : Nat → Int32) (b_quires : Int32) (b_things : Int32) (b_sizes : Nat → Int32) (b_cells : Nat → Int32) (b_kinds : Nat → Int32) : Nat → Bool → Int32 → Int32 → Int32 → Int32 → Int32 → (Nat → Int32) → (Nat → Int32) → (Nat → Int32) → (Nat → Int32) → (Nat → Int32) → (Nat → Int32) → Int32 → Int32 → Option (Bool × Int32 × Int32 × Int32 × Int32 × Int32 × (Nat → Int32) × (Nat → Int32) × (Nat → Int32) × (Nat → Int32) × (Nat → Int32) × (Nat → Int32) × Int32)
  | 0, _, _, _, _, _, _, _, _, _, _, _, _, _, _ => none
  | n + 1, f_made, f_quires, f_things, f_ghosts, f_letter, f_page, f_sizes, f_cells, f_kinds, f_words, f_quireOf, f_placeOf, f_laid, x3 =>
    if 8 ≤ x3 then
      some (f_made, f_quires, f_things, f_ghosts, f_letter, f_page, f_sizes, f_cells, f_kinds, f_words, f_quireOf, f_placeOf, f_laid)
    else
      (F_X0_hasQuire a_quires x3).bind fun c33 =>
      if (qb c33) = 0 then
        (F_X0_hasQuire b_quires x3).bind fun c41 =>
        if (qb c41) = 0 then
          F_X0_join_b25 a_quires a_things a_sizes a_cells a_kinds b_quires b_things b_sizes b_cells b_kinds n f_made f_quires f_things f_ghosts f_letter f_page f_sizes f_cells f_kinds f_words f_quireOf f_placeOf f_laid (x3 + 1)
        else
          F_X0_join_b47 a_quires a_things a_sizes a_cells a_kinds b_quires b_things b_sizes b_cells b_kinds (fun f_made f_quires f_things f_ghosts f_letter f_page f_sizes f_cells f_kinds f_words f_quireOf f_placeOf f_laid x3 => F_X0_join_b25 a_quires a_things a_sizes a_cells a_kinds b_quires b_things b_sizes b_cells b_kinds n f_made f_quires f_things f_ghosts f_letter f_page f_sizes f_cells f_kinds f_words f_quireOf f_placeOf f_laid x3) f_made f_quires f_things f_ghosts f_letter f_page f_sizes f_cells f_kinds f_words f_quireOf f_placeOf f_laid x3
      else
        F_X0_join_b47 a_quires a_things a_sizes a_cells a_kinds b_quires b_things b_sizes b_cells b_kinds (fun f_made f_quires f_things f_ghosts f_letter f_page f_sizes f_cells f_kinds f_words f_quireOf f_placeOf f_laid x3 => F_X0_join_b25 a_quires a_things a_sizes a_cells a_kinds b_quires b_things b_sizes b_cells b_kinds n f_made f_quires f_things f_ghosts f_letter f_page f_sizes f_cells f_kinds f_words f_quireOf f_placeOf f_laid x3) f_made f_quires f_things f_ghosts f_letter f_page f_sizes f_cells f_kinds f_words f_quireOf f_placeOf f_laid x3
def F_X0_join (f_made : Bool) (f_quires : Int32) (f_things : Int32) (f_ghosts : Int32) (f_letter : Int32) (f_page : Int32) (f_sizes : Nat → Int32) (f_cells : Nat → Int32) (f_kinds : Nat → Int32) (f_words : Nat → Int32) (f_quireOf : Nat → Int32) (f_placeOf : Nat → Int32) (f_laid : Int32) (a_quires : Int32) (a_things : Int32) (a_letter : Int32) (a_sizes : Nat → Int32) (a_cells : Nat → Int32) (a_kinds : Nat → Int32) (b_quires : Int32) (b_things : Int32) (b_sizes : Nat → Int32) (b_cells : Nat → Int32) (b_kinds : Nat → Int32) : Option (Bool × Int32 × Int32 × Int32 × Int32 × Int32 × (Nat → Int32) × (Nat → Int32) × (Nat → Int32) × (Nat → Int32) × (Nat → Int32) × (Nat → Int32) × Int32) :=
  (F_X0_start f_made f_quires f_things f_ghosts f_letter f_page f_laid a_letter 0).bind fun c6 =>
  (F_X0_addLoose c6.2.2.1 f_kinds a_kinds a_things 0).bind fun c19 =>
  F_X0_join_b25 a_quires a_things a_sizes a_cells a_kinds b_quires b_things b_sizes b_cells b_kinds FU c6.1 c6.2.1 c19.2.1 c6.2.2.2.1 c6.2.2.2.2.1 c6.2.2.2.2.2.1 f_sizes f_cells c19.2.2 f_words f_quireOf f_placeOf c6.2.2.2.2.2.2 0
def F_X0_join_s_b81 (a_quires : Int32) (a_things : Int32) (a_sizes : Nat → Int32) (a_cells : Nat → Int32) (a_kinds : Nat → Int32) (k25 : Bool → Int32 → Int32 → Int32 → Int32 → Int32 → (Nat → Int32) → (Nat → Int32) → (Nat → Int32) → (Nat → Int32) → (Nat → Int32) → (Nat → Int32) → Int32 → Int32 → Option (Bool × Int32 × Int32 × Int32 × Int32 × Int32 × (Nat → Int32) × (Nat → Int32) × (Nat → Int32) × (Nat → Int32) × (Nat → Int32) × (Nat → Int32) × Int32)) : Nat → Bool → Int32 → Int32 → Int32 → Int32 → Int32 → (Nat → Int32) → (Nat → Int32) → (Nat → Int32) → (Nat → Int32) → (Nat → Int32) → (Nat → Int32) → Int32 → Int32 → Int32 → Int32 → Option (Bool × Int32 × Int32 × Int32 × Int32 × Int32 × (Nat → Int32) × (Nat → Int32) × (Nat → Int32) × (Nat → Int32) × (Nat → Int32) × (Nat → Int32) × Int32)
  | 0, _, _, _, _, _, _, _, _, _, _, _, _, _, _, _, _ => none
  | n + 1, f_made, f_quires, f_things, f_ghosts, f_letter, f_page, f_sizes, f_cells, f_kinds, f_words, f_quireOf, f_placeOf, f_laid, x3, x4, x5 =>
    if x4 < x5 then
      k25 f_made f_quires f_things f_ghosts f_letter f_page f_sizes f_cells f_kinds f_words f_quireOf f_placeOf f_laid (x3 + 1)
    else
      (F_X0_joinPlace_s f_quires f_things f_ghosts f_cells f_kinds f_words f_quireOf f_placeOf f_laid a_quires a_things a_sizes a_cells a_kinds x3 x5).bind fun c94 =>
      F_X0_join_s_b81 a_quires a_things a_sizes a_cells a_kinds k25 n f_made f_quires c94.1 c94.2.1 f_letter f_page f_sizes c94.2.2.1 c94.2.2.2.1 c94.2.2.2.2.1 c94.2.2.2.2.2.1 c94.2.2.2.2.2.2.1 c94.2.2.2.2.2.2.2 x3 x4 (x5 + 1)
def F_X0_join_s_b70 (a_quires : Int32) (a_things : Int32) (a_sizes : Nat → Int32) (a_cells : Nat → Int32) (a_kinds : Nat → Int32) (k25 : Bool → Int32 → Int32 → Int32 → Int32 → Int32 → (Nat → Int32) → (Nat → Int32) → (Nat → Int32) → (Nat → Int32) → (Nat → Int32) → (Nat → Int32) → Int32 → Int32 → Option (Bool × Int32 × Int32 × Int32 × Int32 × Int32 × (Nat → Int32) × (Nat → Int32) × (Nat → Int32) × (Nat → Int32) × (Nat → Int32) × (Nat → Int32) × Int32)) (f_made : Bool) (f_quires : Int32) (f_things : Int32) (f_ghosts : Int32) (f_letter : Int32) (f_page : Int32) (f_sizes : Nat → Int32) (f_cells : Nat → Int32) (f_kinds : Nat → Int32) (f_words : Nat → Int32) (f_quireOf : Nat → Int32) (f_placeOf : Nat → Int32) (f_laid : Int32) (x3 : Int32) (t0 : Int32) : Option (Bool × Int32 × Int32 × Int32 × Int32 × Int32 × (Nat → Int32) × (Nat → Int32) × (Nat → Int32) × (Nat → Int32) × (Nat → Int32) × (Nat → Int32) × Int32) :=
  (F_X0_addQuire f_quires f_sizes f_laid t0).bind fun c75 =>
  F_X0_join_s_b81 a_quires a_things a_sizes a_cells a_kinds k25 FU f_made c75.1 f_things f_ghosts f_letter f_page c75.2.1 f_cells f_kinds f_words f_quireOf f_placeOf c75.2.2 x3 t0 1
def F_X0_join_s_b47 (a_quires : Int32) (a_things : Int32) (a_sizes : Nat → Int32) (a_cells : Nat → Int32) (a_kinds : Nat → Int32) (k25 : Bool → Int32 → Int32 → Int32 → Int32 → Int32 → (Nat → Int32) → (Nat → Int32) → (Nat → Int32) → (Nat → Int32) → (Nat → Int32) → (Nat → Int32) → Int32 → Int32 → Option (Bool × Int32 × Int32 × Int32 × Int32 × Int32 × (Nat → Int32) × (Nat → Int32) × (Nat → Int32) × (Nat → Int32) × (Nat → Int32) × (Nat → Int32) × Int32)) (f_made : Bool) (f_quires : Int32) (f_things : Int32) (f_ghosts : Int32) (f_letter : Int32) (f_page : Int32) (f_sizes : Nat → Int32) (f_cells : Nat → Int32) (f_kinds : Nat → Int32) (f_words : Nat → Int32) (f_quireOf : Nat → Int32) (f_placeOf : Nat → Int32) (f_laid : Int32) (x3 : Int32) : Option (Bool × Int32 × Int32 × Int32 × Int32 × Int32 × (Nat → Int32) × (Nat → Int32) × (Nat → Int32) × (Nat → Int32) × (Nat → Int32) × (Nat → Int32) × Int32) :=
  (F_X0_hasQuire a_quires x3).bind fun c49 =>
  if (qb c49) = 0 then
    ck (inb x3 8) <|
    F_X0_join_s_b70 a_quires a_things a_sizes a_cells a_kinds k25 f_made f_quires f_things f_ghosts f_letter f_page f_sizes f_cells f_kinds f_words f_quireOf f_placeOf f_laid x3 (a_sizes x3.toNatClampNeg)
  else
    ck (inb x3 8) <|
    F_X0_join_s_b70 a_quires a_things a_sizes a_cells a_kinds k25 f_made f_quires f_things f_ghosts f_letter f_page f_sizes f_cells f_kinds f_words f_quireOf f_placeOf f_laid x3 (a_sizes x3.toNatClampNeg)
def F_X0_join_s_b25 (a_quires : Int32) (a_things : Int32) (a_sizes : Nat → Int32) (a_cells : Nat → Int32) (a_kinds : Nat → Int32) : Nat → Bool → Int32 → Int32 → Int32 → Int32 → Int32 → (Nat → Int32) → (Nat → Int32) → (Nat → Int32) → (Nat → Int32) → (Nat → Int32) → (Nat → Int32) → Int32 → Int32 → Option (Bool × Int32 × Int32 × Int32 × Int32 × Int32 × (Nat → Int32) × (Nat → Int32) × (Nat → Int32) × (Nat → Int32) × (Nat → Int32) × (Nat → Int32) × Int32)
  | 0, _, _, _, _, _, _, _, _, _, _, _, _, _, _ => none
  | n + 1, f_made, f_quires, f_things, f_ghosts, f_letter, f_page, f_sizes, f_cells, f_kinds, f_words, f_quireOf, f_placeOf, f_laid, x3 =>
    if 8 ≤ x3 then
      some (f_made, f_quires, f_things, f_ghosts, f_letter, f_page, f_sizes, f_cells, f_kinds, f_words, f_quireOf, f_placeOf, f_laid)
    else
      (F_X0_hasQuire a_quires x3).bind fun c33 =>
      if (qb c33) = 0 then
        (F_X0_hasQuire a_quires x3).bind fun c41 =>
        if (qb c41) = 0 then
          F_X0_join_s_b25 a_quires a_things a_sizes a_cells a_kinds n f_made f_quires f_things f_ghosts f_letter f_page f_sizes f_cells f_kinds f_words f_quireOf f_placeOf f_laid (x3 + 1)
        else
          F_X0_join_s_b47 a_quires a_things a_sizes a_cells a_kinds (fun f_made f_quires f_things f_ghosts f_letter f_page f_sizes f_cells f_kinds f_words f_quireOf f_placeOf f_laid x3 => F_X0_join_s_b25 a_quires a_things a_sizes a_cells a_kinds n f_made f_quires f_things f_ghosts f_letter f_page f_sizes f_cells f_kinds f_words f_quireOf f_placeOf f_laid x3) f_made f_quires f_things f_ghosts f_letter f_page f_sizes f_cells f_kinds f_words f_quireOf f_placeOf f_laid x3
      else
        F_X0_join_s_b47 a_quires a_things a_sizes a_cells a_kinds (fun f_made f_quires f_things f_ghosts f_letter f_page f_sizes f_cells f_kinds f_words f_quireOf f_placeOf f_laid x3 => F_X0_join_s_b25 a_quires a_things a_sizes a_cells a_kinds n f_made f_quires f_things f_ghosts f_letter f_page f_sizes f_cells f_kinds f_words f_quireOf f_placeOf f_laid x3) f_made f_quires f_things f_ghosts f_letter f_page f_sizes f_cells f_kinds f_words f_quireOf f_placeOf f_laid x3
def F_X0_join_s (f_made : Bool) (f_quires : Int32) (f_things : Int32) (f_ghosts : Int32) (f_letter : Int32) (f_page : Int32) (f_sizes : Nat → Int32) (f_cells : Nat → Int32) (f_kinds : Nat → Int32) (f_words : Nat → Int32) (f_quireOf : Nat → Int32) (f_placeOf : Nat → Int32) (f_laid : Int32) (a_quires : Int32) (a_things : Int32) (a_letter : Int32) (a_sizes : Nat → Int32) (a_cells : Nat → Int32) (a_kinds : Nat → Int32) : Option (Bool × Int32 × Int32 × Int32 × Int32 × Int32 × (Nat → Int32) × (Nat → Int32) × (Nat → Int32) × (Nat → Int32) × (Nat → Int32) × (Nat → Int32) × Int32) :=
  (F_X0_start f_made f_quires f_things f_ghosts f_letter f_page f_laid a_letter 0).bind fun c6 =>
  (F_X0_addLoose c6.2.2.1 f_kinds a_kinds a_things 0).bind fun c19 =>
  F_X0_join_s_b25 a_quires a_things a_sizes a_cells a_kinds FU c6.1 c6.2.1 c19.2.1 c6.2.2.2.1 c6.2.2.2.2.1 c6.2.2.2.2.2.1 f_sizes f_cells c19.2.2 f_words f_quireOf f_placeOf c6.2.2.2.2.2.2 0
def F_X7_nthUnlike_b5 (a_quires : Int32) (a_things : Int32) (a_sizes : Nat → Int32) (a_cells : Nat → Int32) (a_kinds : Nat → Int32) (b_quires : Int32) (b_things : Int32) (b_sizes : Nat → Int32) (b_cells : Nat → Int32) (b_kinds : Nat → Int32) : Nat → Int32 → Int32 → Int32 → Option (Int32)
  | 0, _, _, _ => none
  | n + 1, x2, x3, x4 =>
    if 64 ≤ x4 then
      some (-1)
    else
      (F_X0_stateOf a_quires a_things a_sizes a_cells a_kinds x4).bind fun c15 =>
      (F_X0_stateOf b_quires b_things b_sizes b_cells b_kinds x4).bind fun c21 =>
      if c15 = c21 then
        F_X7_nthUnlike_b5 a_quires a_things a_sizes a_cells a_kinds b_quires b_things b_sizes b_cells b_kinds n x2 x3 (x4 + 1)
      else
        if x3 = x2 then
          some x4
        else
          F_X7_nthUnlike_b5 a_quires a_things a_sizes a_cells a_kinds b_quires b_things b_sizes b_cells b_kinds n x2 (x3 + 1) (x4 + 1)
def F_X7_nthUnlike (a_quires : Int32) (a_things : Int32) (a_sizes : Nat → Int32) (a_cells : Nat → Int32) (a_kinds : Nat → Int32) (b_quires : Int32) (b_things : Int32) (b_sizes : Nat → Int32) (b_cells : Nat → Int32) (b_kinds : Nat → Int32) (p2 : Int32) : Option (Int32) :=
  F_X7_nthUnlike_b5 a_quires a_things a_sizes a_cells a_kinds b_quires b_things b_sizes b_cells b_kinds FU p2 0 0
def F_X7_nthUnlike_s_b5 (a_quires : Int32) (a_things : Int32) (a_sizes : Nat → Int32) (a_cells : Nat → Int32) (a_kinds : Nat → Int32) : Nat → Int32 → Int32 → Int32 → Option (Int32)
  | 0, _, _, _ => none
  | n + 1, x2, x3, x4 =>
    if 64 ≤ x4 then
      some (-1)
    else
      (F_X0_stateOf a_quires a_things a_sizes a_cells a_kinds x4).bind fun c15 =>
      (F_X0_stateOf a_quires a_things a_sizes a_cells a_kinds x4).bind fun c21 =>
      if c15 = c21 then
        F_X7_nthUnlike_s_b5 a_quires a_things a_sizes a_cells a_kinds n x2 x3 (x4 + 1)
      else
        if x3 = x2 then
          some x4
        else
          F_X7_nthUnlike_s_b5 a_quires a_things a_sizes a_cells a_kinds n x2 (x3 + 1) (x4 + 1)
def F_X7_nthUnlike_s (a_quires : Int32) (a_things : Int32) (a_sizes : Nat → Int32) (a_cells : Nat → Int32) (a_kinds : Nat → Int32) (p2 : Int32) : Option (Int32) :=
  F_X7_nthUnlike_s_b5 a_quires a_things a_sizes a_cells a_kinds FU p2 0 0

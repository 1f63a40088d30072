def F_X4_forgetLoads_b2 : Nat → (Nat → Int32) → Int32 → Option (Int32 × (Nat → Int32))
  | 0, _, _ => none
  | n + 1, k_bests, x1 =>
    if 7200 ≤ x1 then
      some (1, k_bests)
    else
      ck (inb x1 7200) <|
      F_X4_forgetLoads_b2 n (upd k_bests x1.toNatClampNeg 0) (x1 + 1)
def F_X4_forgetLoads (k_loads : Int32) (k_bests : Nat → Int32) : Option (Int32 × (Nat → Int32)) :=
  F_X4_forgetLoads_b2 FU k_bests 0
def F_X4_addGroup_b92 (k_groups : Nat → Int32) (k_groupCounts : Nat → Int32) (x1 : Int32) (x5 : Int32) (x8 : Int32) : Option ((Nat → Int32) × (Nat → Int32)) :=
  ck (inb ((x1 * 238) + x5) 7140) <|
  ck (inb x1 30) <|
  some (upd k_groups ((x1 * 238) + x5).toNatClampNeg x8, upd k_groupCounts x1.toNatClampNeg (x5 + 1))
def F_X4_addGroup_b79 (k_groups : Nat → Int32) (k_groupCounts : Nat → Int32) (x1 : Int32) (x2 : Int32) (x5 : Int32) (x8 : Int32) : Option ((Nat → Int32) × (Nat → Int32)) :=
  if (x2 &&& 1) = 0 then
    F_X4_addGroup_b92 k_groups k_groupCounts x1 x5 x8
  else
    F_X4_addGroup_b92 k_groups k_groupCounts x1 x5 (x8 ||| 131072)
def F_X4_addGroup (k_groups : Nat → Int32) (k_groupCounts : Nat → Int32) (p0 : Int32) (p1 : Int32) (p2 : Int32) (p3 : Int32) : Option ((Nat → Int32) × (Nat → Int32)) :=
  ck (inb p0 30) <|
  if (k_groupCounts p0.toNatClampNeg) < 0 then
    some (k_groups, k_groupCounts)
  else
    if (k_groupCounts p0.toNatClampNeg) < 238 then
      if (p1 &&& 2) = 0 then
        F_X4_addGroup_b79 k_groups k_groupCounts p0 p1 (k_groupCounts p0.toNatClampNeg) (((((p2 + 1) <<< ((18 : Int32) &&& 31)) ||| (((p1 / 4) - (p1 / 4) / 5 * 5) <<< ((12 : Int32) &&& 31))) ||| (((((2 : Int32) * ((p1 / 4) / 5)) + 2) - ((p1 / 4) - (p1 / 4) / 5 * 5)) <<< ((8 : Int32) &&& 31))) ||| p3)
      else
        F_X4_addGroup_b79 k_groups k_groupCounts p0 p1 (k_groupCounts p0.toNatClampNeg) ((((((p2 + 1) <<< ((18 : Int32) &&& 31)) ||| (((p1 / 4) - (p1 / 4) / 5 * 5) <<< ((12 : Int32) &&& 31))) ||| (((((2 : Int32) * ((p1 / 4) / 5)) + 2) - ((p1 / 4) - (p1 / 4) / 5 * 5)) <<< ((8 : Int32) &&& 31))) ||| p3) ||| 65536)
    else
      some (k_groups, k_groupCounts)
def F_X4_addLay_b80 (y_ahead : Int32) (k_groups : Nat → Int32) (k_groupCounts : Nat → Int32) (k_tally : Nat → Int32) (x1 : Int32) (x2 : Int32) : Option ((Nat → Int32) × (Nat → Int32) × (Nat → Int32)) :=
  if y_ahead = (-1) then
    if x2 < 0 then
      some (k_groups, k_groupCounts, k_tally)
    else
      if 80 ≤ x2 then
        some (k_groups, k_groupCounts, k_tally)
      else
        ck (inb x2 80) <|
        ck (inb x2 80) <|
        some (k_groups, k_groupCounts, upd k_tally x2.toNatClampNeg ((k_tally x2.toNatClampNeg) + 1))
  else
    (F_X4_addGroup k_groups k_groupCounts x1 x2 y_ahead 1).bind fun c102 =>
    some (c102.1, c102.2, k_tally)
def F_X4_addLay_b48 (l_count : Int32) (l_ties : Nat → Int32) (y_size : Int32) (y_mask : Int32) (y_things : Int32) (y_ahead : Int32) (k_groups : Nat → Int32) (k_groupCounts : Nat → Int32) (k_tally : Nat → Int32) (x1 : Int32) (x2 : Int32) : Option ((Nat → Int32) × (Nat → Int32) × (Nat → Int32)) :=
  (F_X1_endsWithLeaf y_size y_mask).bind fun c52 =>
  if (qb c52) = 0 then
    F_X4_addLay_b80 y_ahead k_groups k_groupCounts k_tally x1 x2
  else
    (F_X2_joins l_count l_ties (x1 + y_things)).bind fun c71 =>
    if (qb c71) = 0 then
      F_X4_addLay_b80 y_ahead k_groups k_groupCounts k_tally x1 x2
    else
      F_X4_addLay_b80 y_ahead k_groups k_groupCounts k_tally x1 (x2 + 1)
def F_X4_addLay (l_count : Int32) (l_ties : Nat → Int32) (y_size : Int32) (y_mask : Int32) (y_things : Int32) (y_ghosts : Int32) (y_ahead : Int32) (k_groups : Nat → Int32) (k_groupCounts : Nat → Int32) (k_tally : Nat → Int32) (p0 : Int32) : Option ((Nat → Int32) × (Nat → Int32) × (Nat → Int32)) :=
  (F_X1_startsWithLeaf y_size y_mask).bind fun c28 =>
  if (qb c28) = 0 then
    F_X4_addLay_b48 l_count l_ties y_size y_mask y_things y_ahead k_groups k_groupCounts k_tally p0 (((((y_size / 2) - 1) * 5) + y_ghosts) * 4)
  else
    (F_X2_clashes l_count l_ties p0).bind fun c39 =>
    if (qb c39) = 0 then
      F_X4_addLay_b48 l_count l_ties y_size y_mask y_things y_ahead k_groups k_groupCounts k_tally p0 (((((y_size / 2) - 1) * 5) + y_ghosts) * 4)
    else
      F_X4_addLay_b48 l_count l_ties y_size y_mask y_things y_ahead k_groups k_groupCounts k_tally p0 ((((((y_size / 2) - 1) * 5) + y_ghosts) * 4) + 2)
def F_X4_groupLays_b68 : Nat → Int32 → Int32 → Int32 → Int32 → (Nat → Int32) → (Nat → Int32) → (Nat → Int32) → Int32 → Int32 → Int32 → Int32 → Int32 → (Nat → Int32) → (Nat → Int32) → (Nat → Int32) → Int32 → Int32 → Option (Int32 × Int32 × Int32 × Int32 × (Nat → Int32) × (Nat → Int32) × (Nat → Int32) × Int32 × Int32 × Int32 × Int32 × Int32 × (Nat → Int32) × (Nat → Int32) × (Nat → Int32))
  | 0, _, _, _, _, _, _, _, _, _, _, _, _, _, _, _, _, _ => none
  | n + 1, y_first, y_last, y_nextSize, y_nextMask, y_seats, y_nexts, y_aheads, y_size, y_mask, y_things, y_ghosts, y_ahead, k_groups, k_groupCounts, k_tally, x1, x2 =>
    if 80 ≤ x2 then
      some (y_first, y_last, y_nextSize, y_nextMask, y_seats, y_nexts, y_aheads, y_size, y_mask, y_things, y_ghosts, y_ahead, k_groups, k_groupCounts, k_tally)
    else
      ck (inb x2 80) <|
      if (k_tally x2.toNatClampNeg) ≤ 0 then
        F_X4_groupLays_b68 n y_first y_last y_nextSize y_nextMask y_seats y_nexts y_aheads y_size y_mask y_things y_ghosts y_ahead k_groups k_groupCounts k_tally x1 (x2 + 1)
      else
        ck (inb x2 80) <|
        (F_X4_addGroup k_groups k_groupCounts x1 x2 (-1) (k_tally x2.toNatClampNeg)).bind fun c93 =>
        F_X4_groupLays_b68 n y_first y_last y_nextSize y_nextMask y_seats y_nexts y_aheads y_size y_mask y_things y_ghosts y_ahead c93.1 c93.2 k_tally x1 (x2 + 1)
def F_X4_groupLays_b38 (l_count : Int32) (l_numbers : Nat → Int32) (l_spots : Nat → Int32) (l_waters : Nat → Int32) (l_sides : Nat → Int32) (l_ties : Nat → Int32) (l_sizes : Int32) (l_signed : Int32) : Nat → Int32 → Int32 → Int32 → Int32 → (Nat → Int32) → (Nat → Int32) → (Nat → Int32) → Int32 → Int32 → Int32 → Int32 → Int32 → (Nat → Int32) → (Nat → Int32) → (Nat → Int32) → Int32 → Int32 → Option (Int32 × Int32 × Int32 × Int32 × (Nat → Int32) × (Nat → Int32) × (Nat → Int32) × Int32 × Int32 × Int32 × Int32 × Int32 × (Nat → Int32) × (Nat → Int32) × (Nat → Int32))
  | 0, _, _, _, _, _, _, _, _, _, _, _, _, _, _, _, _, _ => none
  | n + 1, y_first, y_last, y_nextSize, y_nextMask, y_seats, y_nexts, y_aheads, y_size, y_mask, y_things, y_ghosts, y_ahead, k_groups, k_groupCounts, k_tally, x1, x2 =>
    if 238 ≤ x2 then
      F_X4_groupLays_b68 FU y_first y_last y_nextSize y_nextMask y_seats y_nexts y_aheads y_size y_mask y_things y_ghosts y_ahead k_groups k_groupCounts k_tally x1 0
    else
      (F_X1_advance l_count l_numbers l_spots l_waters l_sides l_ties l_sizes l_signed y_first y_last y_nextSize y_nextMask y_seats y_nexts y_aheads y_size y_mask y_things y_ghosts y_ahead).bind fun c49 =>
      if (qb c49.1) = 0 then
        F_X4_groupLays_b68 FU y_first y_last c49.2.1 c49.2.2.1 c49.2.2.2.1 c49.2.2.2.2.1 c49.2.2.2.2.2.1 c49.2.2.2.2.2.2.1 c49.2.2.2.2.2.2.2.1 c49.2.2.2.2.2.2.2.2.1 c49.2.2.2.2.2.2.2.2.2.1 c49.2.2.2.2.2.2.2.2.2.2 k_groups k_groupCounts k_tally x1 0
      else
        (F_X4_addLay l_count l_ties c49.2.2.2.2.2.2.1 c49.2.2.2.2.2.2.2.1 c49.2.2.2.2.2.2.2.2.1 c49.2.2.2.2.2.2.2.2.2.1 c49.2.2.2.2.2.2.2.2.2.2 k_groups k_groupCounts k_tally x1).bind fun c57 =>
        F_X4_groupLays_b38 l_count l_numbers l_spots l_waters l_sides l_ties l_sizes l_signed n y_first y_last c49.2.1 c49.2.2.1 c49.2.2.2.1 c49.2.2.2.2.1 c49.2.2.2.2.2.1 c49.2.2.2.2.2.2.1 c49.2.2.2.2.2.2.2.1 c49.2.2.2.2.2.2.2.2.1 c49.2.2.2.2.2.2.2.2.2.1 c49.2.2.2.2.2.2.2.2.2.2 c57.1 c57.2.1 c57.2.2 x1 (x2 + 1)
def F_X4_groupLays_b9 (l_count : Int32) (l_numbers : Nat → Int32) (l_spots : Nat → Int32) (l_waters : Nat → Int32) (l_sides : Nat → Int32) (l_ties : Nat → Int32) (l_sizes : Int32) (l_signed : Int32) : Nat → Int32 → Int32 → Int32 → Int32 → (Nat → Int32) → (Nat → Int32) → (Nat → Int32) → Int32 → Int32 → Int32 → Int32 → Int32 → (Nat → Int32) → (Nat → Int32) → (Nat → Int32) → Int32 → Int32 → Option (Int32 × Int32 × Int32 × Int32 × (Nat → Int32) × (Nat → Int32) × (Nat → Int32) × Int32 × Int32 × Int32 × Int32 × Int32 × (Nat → Int32) × (Nat → Int32) × (Nat → Int32))
  | 0, _, _, _, _, _, _, _, _, _, _, _, _, _, _, _, _, _ => none
  | n + 1, y_first, y_last, y_nextSize, y_nextMask, y_seats, y_nexts, y_aheads, y_size, y_mask, y_things, y_ghosts, y_ahead, k_groups, k_groupCounts, k_tally, x1, x2 =>
    if 80 ≤ x2 then
      (F_X1_beginWhole y_first y_last y_nextSize y_nextMask y_nexts y_aheads x1).bind fun c33 =>
      F_X4_groupLays_b38 l_count l_numbers l_spots l_waters l_sides l_ties l_sizes l_signed FU c33.1 c33.2.1 c33.2.2.1 c33.2.2.2.1 y_seats c33.2.2.2.2.1 c33.2.2.2.2.2 y_size y_mask y_things y_ghosts y_ahead k_groups k_groupCounts k_tally x1 0
    else
      ck (inb x2 80) <|
      F_X4_groupLays_b9 l_count l_numbers l_spots l_waters l_sides l_ties l_sizes l_signed n y_first y_last y_nextSize y_nextMask y_seats y_nexts y_aheads y_size y_mask y_things y_ghosts y_ahead k_groups k_groupCounts (upd k_tally x2.toNatClampNeg 0) x1 (x2 + 1)
def F_X4_groupLays (l_count : Int32) (l_numbers : Nat → Int32) (l_spots : Nat → Int32) (l_waters : Nat → Int32) (l_sides : Nat → Int32) (l_ties : Nat → Int32) (l_sizes : Int32) (l_signed : Int32) (y_first : Int32) (y_last : Int32) (y_nextSize : Int32) (y_nextMask : Int32) (y_seats : Nat → Int32) (y_nexts : Nat → Int32) (y_aheads : Nat → Int32) (y_size : Int32) (y_mask : Int32) (y_things : Int32) (y_ghosts : Int32) (y_ahead : Int32) (k_groups : Nat → Int32) (k_groupCounts : Nat → Int32) (k_tally : Nat → Int32) (p0 : Int32) : Option (Int32 × Int32 × Int32 × Int32 × (Nat → Int32) × (Nat → Int32) × (Nat → Int32) × Int32 × Int32 × Int32 × Int32 × Int32 × (Nat → Int32) × (Nat → Int32) × (Nat → Int32)) :=
  ck (inb p0 30) <|
  F_X4_groupLays_b9 l_count l_numbers l_spots l_waters l_sides l_ties l_sizes l_signed FU y_first y_last y_nextSize y_nextMask y_seats y_nexts y_aheads y_size y_mask y_things y_ghosts y_ahead k_groups (upd k_groupCounts p0.toNatClampNeg 0) k_tally p0 0
def F_X4_load_b60 : Nat → Int32 → (Nat → Int32) → (Nat → Int32) → (Nat → Int32) → (Nat → Int32) → (Nat → Int32) → (Nat → Int32) → (Nat → Int32) → (Nat → Int32) → Int32 → Int32 → Int32 → Int32 → Int32 → Int32 → Int32 → Int32 → (Nat → Int32) → (Nat → Int32) → (Nat → Int32) → Int32 → Int32 → Int32 → Int32 → Int32 → Int32 → (Nat → Int32) → (Nat → Int32) → (Nat → Int32) → (Nat → Int32) → Bool → Int32 → Option (Int32 × (Nat → Int32) × (Nat → Int32) × (Nat → Int32) × (Nat → Int32) × (Nat → Int32) × (Nat → Int32) × (Nat → Int32) × (Nat → Int32) × Int32 × Int32 × Int32 × Int32 × Int32 × Int32 × Int32 × Int32 × (Nat → Int32) × (Nat → Int32) × (Nat → Int32) × Int32 × Int32 × Int32 × Int32 × Int32 × Int32 × (Nat → Int32) × (Nat → Int32) × (Nat → Int32) × (Nat → Int32) × Bool)
  | 0, _, _, _, _, _, _, _, _, _, _, _, _, _, _, _, _, _, _, _, _, _, _, _, _, _, _, _, _, _, _, _, _ => none
  | n + 1, l_count, l_letters, l_numbers, l_spots, l_heads, l_nexts, l_waters, l_sides, l_ties, l_lastSpotted, l_sizes, l_signed, l_letter, y_first, y_last, y_nextSize, y_nextMask, y_seats, y_nexts, y_aheads, y_size, y_mask, y_things, y_ghosts, y_ahead, k_loads, k_groups, k_groupCounts, k_tally, k_bests, r_changed, x2 =>
    if l_count ≤ x2 then
      some (l_count, l_letters, l_numbers, l_spots, l_heads, l_nexts, l_waters, l_sides, l_ties, l_lastSpotted, l_sizes, l_signed, l_letter, y_first, y_last, y_nextSize, y_nextMask, y_seats, y_nexts, y_aheads, y_size, y_mask, y_things, y_ghosts, y_ahead, k_loads, k_groups, k_groupCounts, k_tally, k_bests, r_changed)
    else
      (F_X4_groupLays l_count l_numbers l_spots l_waters l_sides l_ties l_sizes l_signed y_first y_last y_nextSize y_nextMask y_seats y_nexts y_aheads y_size y_mask y_things y_ghosts y_ahead k_groups k_groupCounts k_tally x2).bind fun c73 =>
      F_X4_load_b60 n l_count l_letters l_numbers l_spots l_heads l_nexts l_waters l_sides l_ties l_lastSpotted l_sizes l_signed l_letter c73.1 c73.2.1 c73.2.2.1 c73.2.2.2.1 c73.2.2.2.2.1 c73.2.2.2.2.2.1 c73.2.2.2.2.2.2.1 c73.2.2.2.2.2.2.2.1 c73.2.2.2.2.2.2.2.2.1 c73.2.2.2.2.2.2.2.2.2.1 c73.2.2.2.2.2.2.2.2.2.2.1 c73.2.2.2.2.2.2.2.2.2.2.2.1 k_loads c73.2.2.2.2.2.2.2.2.2.2.2.2.1 c73.2.2.2.2.2.2.2.2.2.2.2.2.2.1 c73.2.2.2.2.2.2.2.2.2.2.2.2.2.2 k_bests r_changed (x2 + 1)
def F_X4_load_b50 (r_kinds : Nat → Int32) (r_marks : Nat → Int32) (r_rules : Nat → Int32) (r_count : Int32) (l_count : Int32) (l_letters : Nat → Int32) (l_numbers : Nat → Int32) (l_spots : Nat → Int32) (l_heads : Nat → Int32) (l_nexts : Nat → Int32) (l_waters : Nat → Int32) (l_sides : Nat → Int32) (l_ties : Nat → Int32) (l_lastSpotted : Int32) (l_sizes : Int32) (l_signed : Int32) (l_letter : Int32) (y_first : Int32) (y_last : Int32) (y_nextSize : Int32) (y_nextMask : Int32) (y_seats : Nat → Int32) (y_nexts : Nat → Int32) (y_aheads : Nat → Int32) (y_size : Int32) (y_mask : Int32) (y_things : Int32) (y_ghosts : Int32) (y_ahead : Int32) (k_loads : Int32) (k_groups : Nat → Int32) (k_groupCounts : Nat → Int32) (k_tally : Nat → Int32) (k_bests : Nat → Int32) (r_changed : Bool) : Option (Int32 × (Nat → Int32) × (Nat → Int32) × (Nat → Int32) × (Nat → Int32) × (Nat → Int32) × (Nat → Int32) × (Nat → Int32) × (Nat → Int32) × Int32 × Int32 × Int32 × Int32 × Int32 × Int32 × Int32 × Int32 × (Nat → Int32) × (Nat → Int32) × (Nat → Int32) × Int32 × Int32 × Int32 × Int32 × Int32 × Int32 × (Nat → Int32) × (Nat → Int32) × (Nat → Int32) × (Nat → Int32) × Bool) :=
  (F_X2_load l_count l_letters l_numbers l_spots l_heads l_nexts l_waters l_sides l_ties l_lastSpotted l_sizes l_signed l_letter r_kinds r_marks r_rules r_count).bind fun c55 =>
  F_X4_load_b60 FU c55.1 c55.2.1 c55.2.2.1 c55.2.2.2.1 c55.2.2.2.2.1 c55.2.2.2.2.2.1 c55.2.2.2.2.2.2.1 c55.2.2.2.2.2.2.2.1 c55.2.2.2.2.2.2.2.2.1 c55.2.2.2.2.2.2.2.2.2.1 c55.2.2.2.2.2.2.2.2.2.2.1 c55.2.2.2.2.2.2.2.2.2.2.2.1 c55.2.2.2.2.2.2.2.2.2.2.2.2 y_first y_last y_nextSize y_nextMask y_seats y_nexts y_aheads y_size y_mask y_things y_ghosts y_ahead k_loads k_groups k_groupCounts k_tally k_bests r_changed 0
def F_X4_load_b16 (r_kinds : Nat → Int32) (r_marks : Nat → Int32) (r_rules : Nat → Int32) (r_count : Int32) (l_count : Int32) (l_letters : Nat → Int32) (l_numbers : Nat → Int32) (l_spots : Nat → Int32) (l_heads : Nat → Int32) (l_nexts : Nat → Int32) (l_waters : Nat → Int32) (l_sides : Nat → Int32) (l_ties : Nat → Int32) (l_lastSpotted : Int32) (l_sizes : Int32) (l_signed : Int32) (l_letter : Int32) (y_first : Int32) (y_last : Int32) (y_nextSize : Int32) (y_nextMask : Int32) (y_seats : Nat → Int32) (y_nexts : Nat → Int32) (y_aheads : Nat → Int32) (y_size : Int32) (y_mask : Int32) (y_things : Int32) (y_ghosts : Int32) (y_ahead : Int32) (k_loads : Int32) (k_groups : Nat → Int32) (k_groupCounts : Nat → Int32) (k_tally : Nat → Int32) (k_bests : Nat → Int32) : Option (Int32 × (Nat → Int32) × (Nat → Int32) × (Nat → Int32) × (Nat → Int32) × (Nat → Int32) × (Nat → Int32) × (Nat → Int32) × (Nat → Int32) × Int32 × Int32 × Int32 × Int32 × Int32 × Int32 × Int32 × Int32 × (Nat → Int32) × (Nat → Int32) × (Nat → Int32) × Int32 × Int32 × Int32 × Int32 × Int32 × Int32 × (Nat → Int32) × (Nat → Int32) × (Nat → Int32) × (Nat → Int32) × Bool) :=
  if (k_loads + 1) ≤ 1000 then
    F_X4_load_b50 r_kinds r_marks r_rules r_count l_count l_letters l_numbers l_spots l_heads l_nexts l_waters l_sides l_ties l_lastSpotted l_sizes l_signed l_letter y_first y_last y_nextSize y_nextMask y_seats y_nexts y_aheads y_size y_mask y_things y_ghosts y_ahead (k_loads + 1) k_groups k_groupCounts k_tally k_bests false
  else
    (F_X4_forgetLoads (k_loads + 1) k_bests).bind fun c47 =>
    F_X4_load_b50 r_kinds r_marks r_rules r_count l_count l_letters l_numbers l_spots l_heads l_nexts l_waters l_sides l_ties l_lastSpotted l_sizes l_signed l_letter y_first y_last y_nextSize y_nextMask y_seats y_nexts y_aheads y_size y_mask y_things y_ghosts y_ahead c47.1 k_groups k_groupCounts k_tally c47.2 false
def F_X4_load (l_count : Int32) (l_letters : Nat → Int32) (l_numbers : Nat → Int32) (l_spots : Nat → Int32) (l_heads : Nat → Int32) (l_nexts : Nat → Int32) (l_waters : Nat → Int32) (l_sides : Nat → Int32) (l_ties : Nat → Int32) (l_lastSpotted : Int32) (l_sizes : Int32) (l_signed : Int32) (l_letter : Int32) (y_first : Int32) (y_last : Int32) (y_nextSize : Int32) (y_nextMask : Int32) (y_seats : Nat → Int32) (y_nexts : Nat → Int32) (y_aheads : Nat → Int32) (y_size : Int32) (y_mask : Int32) (y_things : Int32) (y_ghosts : Int32) (y_ahead : Int32) (k_loads : Int32) (k_groups : Nat → Int32) (k_groupCounts : Nat → Int32) (k_tally : Nat → Int32) (k_bests : Nat → Int32) (r_kinds : Nat → Int32) (r_marks : Nat → Int32) (r_rules : Nat → Int32) (r_count : Int32) (r_changed : Bool) : Option (Int32 × (Nat → Int32) × (Nat → Int32) × (Nat → Int32) × (Nat → Int32) × (Nat → Int32) × (Nat → Int32) × (Nat → Int32) × (Nat → Int32) × Int32 × Int32 × Int32 × Int32 × Int32 × Int32 × Int32 × Int32 × (Nat → Int32) × (Nat → Int32) × (Nat → Int32) × Int32 × Int32 × Int32 × Int32 × Int32 × Int32 × (Nat → Int32) × (Nat → Int32) × (Nat → Int32) × (Nat → Int32) × Bool) :=
  F_X4_load_b16 r_kinds r_marks r_rules r_count l_count l_letters l_numbers l_spots l_heads l_nexts l_waters l_sides l_ties l_lastSpotted l_sizes l_signed l_letter y_first y_last y_nextSize y_nextMask y_seats y_nexts y_aheads y_size y_mask y_things y_ghosts y_ahead k_loads k_groups k_groupCounts k_tally k_bests
def F_X4_load_s_b60 : Nat → Int32 → (Nat → Int32) → (Nat → Int32) → (Nat → Int32) → (Nat → Int32) → (Nat → Int32) → (Nat → Int32) → (Nat → Int32) → (Nat → Int32) → Int32 → Int32 → Int32 → Int32 → Int32 → Int32 → Int32 → Int32 → (Nat → Int32) → (Nat → Int32) → (Nat → Int32) → Int32 → Int32 → Int32 → Int32 → Int32 → Int32 → (Nat → Int32) → (Nat → Int32) → (Nat → Int32) → (Nat → Int32) → Bool → Int32 → Option (Int32 × (Nat → Int32) × (Nat → Int32) × (Nat → Int32) × (Nat → Int32) × (Nat → Int32) × (Nat → Int32) × (Nat → Int32) × (Nat → Int32) × Int32 × Int32 × Int32 × Int32 × Int32 × Int32 × Int32 × Int32 × (Nat → Int32) × (Nat → Int32) × (Nat → Int32) × Int32 × Int32 × Int32 × Int32 × Int32 × Int32 × (Nat → Int32) × (Nat → Int32) × (Nat → Int32) × (Nat → Int32) × Bool)
  | 0, _, _, _, _, _, _, _, _, _, _, _, _, _, _, _, _, _, _, _, _, _, _, _, _, _, _, _, _, _, _, _, _ => none
  | n + 1, l_count, l_letters, l_numbers, l_spots, l_heads, l_nexts, l_waters, l_sides, l_ties, l_lastSpotted, l_sizes, l_signed, l_letter, y_first, y_last, y_nextSize, y_nextMask, y_seats, y_nexts, y_aheads, y_size, y_mask, y_things, y_ghosts, y_ahead, k_loads, k_groups, k_groupCounts, k_tally, k_bests, r_changed, x2 =>
    if l_count ≤ x2 then
      some (l_count, l_letters, l_numbers, l_spots, l_heads, l_nexts, l_waters, l_sides, l_ties, l_lastSpotted, l_sizes, l_signed, l_letter, y_first, y_last, y_nextSize, y_nextMask, y_seats, y_nexts, y_aheads, y_size, y_mask, y_things, y_ghosts, y_ahead, k_loads, k_groups, k_groupCounts, k_tally, k_bests, r_changed)
    else
      (F_X4_groupLays l_count l_numbers l_spots l_waters l_sides l_ties l_sizes l_signed y_first y_last y_nextSize y_nextMask y_seats y_nexts y_aheads y_size y_mask y_things y_ghosts y_ahead k_groups k_groupCounts k_tally x2).bind fun c73 =>
      F_X4_load_s_b60 n l_count l_letters l_numbers l_spots l_heads l_nexts l_waters l_sides l_ties l_lastSpotted l_sizes l_signed l_letter c73.1 c73.2.1 c73.2.2.1 c73.2.2.2.1 c73.2.2.2.2.1 c73.2.2.2.2.2.1 c73.2.2.2.2.2.2.1 c73.2.2.2.2.2.2.2.1 c73.2.2.2.2.2.2.2.2.1 c73.2.2.2.2.2.2.2.2.2.1 c73.2.2.2.2.2.2.2.2.2.2.1 c73.2.2.2.2.2.2.2.2.2.2.2.1 k_loads c73.2.2.2.2.2.2.2.2.2.2.2.2.1 c73.2.2.2.2.2.2.2.2.2.2.2.2.2.1 c73.2.2.2.2.2.2.2.2.2.2.2.2.2.2 k_bests r_changed (x2 + 1)
def F_X4_load_s_b50 (r_kinds : Nat → Int32) (r_marks : Nat → Int32) (r_rules : Nat → Int32) (r_count : Int32) (l_count : Int32) (l_letters : Nat → Int32) (l_numbers : Nat → Int32) (l_spots : Nat → Int32) (l_heads : Nat → Int32) (l_nexts : Nat → Int32) (l_waters : Nat → Int32) (l_sides : Nat → Int32) (l_ties : Nat → Int32) (l_lastSpotted : Int32) (l_sizes : Int32) (l_signed : Int32) (l_letter : Int32) (y_first : Int32) (y_last : Int32) (y_nextSize : Int32) (y_nextMask : Int32) (y_seats : Nat → Int32) (y_nexts : Nat → Int32) (y_aheads : Nat → Int32) (y_size : Int32) (y_mask : Int32) (y_things : Int32) (y_ghosts : Int32) (y_ahead : Int32) (k_loads : Int32) (k_groups : Nat → Int32) (k_groupCounts : Nat → Int32) (k_tally : Nat → Int32) (k_bests : Nat → Int32) (r_changed : Bool) : Option (Int32 × (Nat → Int32) × (Nat → Int32) × (Nat → Int32) × (Nat → Int32) × (Nat → Int32) × (Nat → Int32) × (Nat → Int32) × (Nat → Int32) × Int32 × Int32 × Int32 × Int32 × Int32 × Int32 × Int32 × Int32 × (Nat → Int32) × (Nat → Int32) × (Nat → Int32) × Int32 × Int32 × Int32 × Int32 × Int32 × Int32 × (Nat → Int32) × (Nat → Int32) × (Nat → Int32) × (Nat → Int32) × Bool) :=
  (F_X2_load l_count l_letters l_numbers l_spots l_heads l_nexts l_waters l_sides l_ties l_lastSpotted l_sizes l_signed l_letter r_kinds r_marks r_rules r_count).bind fun c55 =>
  F_X4_load_s_b60 FU c55.1 c55.2.1 c55.2.2.1 c55.2.2.2.1 c55.2.2.2.2.1 c55.2.2.2.2.2.1 c55.2.2.2.2.2.2.1 c55.2.2.2.2.2.2.2.1 c55.2.2.2.2.2.2.2.2.1 c55.2.2.2.2.2.2.2.2.2.1 c55.2.2.2.2.2.2.2.2.2.2.1 c55.2.2.2.2.2.2.2.2.2.2.2.1 c55.2.2.2.2.2.2.2.2.2.2.2.2 y_first y_last y_nextSize y_nextMask y_seats y_nexts y_aheads y_size y_mask y_things y_ghosts y_ahead k_loads k_groups k_groupCounts k_tally k_bests r_changed 0
def F_X4_load_s_b16 (r_kinds : Nat → Int32) (r_marks : Nat → Int32) (r_rules : Nat → Int32) (r_count : Int32) (l_count : Int32) (l_letters : Nat → Int32) (l_numbers : Nat → Int32) (l_spots : Nat → Int32) (l_heads : Nat → Int32) (l_nexts : Nat → Int32) (l_waters : Nat → Int32) (l_sides : Nat → Int32) (l_ties : Nat → Int32) (l_lastSpotted : Int32) (l_sizes : Int32) (l_signed : Int32) (l_letter : Int32) (y_first : Int32) (y_last : Int32) (y_nextSize : Int32) (y_nextMask : Int32) (y_seats : Nat → Int32) (y_nexts : Nat → Int32) (y_aheads : Nat → Int32) (y_size : Int32) (y_mask : Int32) (y_things : Int32) (y_ghosts : Int32) (y_ahead : Int32) (k_loads : Int32) (k_groups : Nat → Int32) (k_groupCounts : Nat → Int32) (k_tally : Nat → Int32) (k_bests : Nat → Int32) : Option (Int32 × (Nat → Int32) × (Nat → Int32) × (Nat → Int32) × (Nat → Int32) × (Nat → Int32) × (Nat → Int32) × (Nat → Int32) × (Nat → Int32) × Int32 × Int32 × Int32 × Int32 × Int32 × Int32 × Int32 × Int32 × (Nat → Int32) × (Nat → Int32) × (Nat → Int32) × Int32 × Int32 × Int32 × Int32 × Int32 × Int32 × (Nat → Int32) × (Nat → Int32) × (Nat → Int32) × (Nat → Int32) × Bool) :=
  if (k_loads + 1) ≤ 1000 then
    F_X4_load_s_b50 r_kinds r_marks r_rules r_count l_count l_letters l_numbers l_spots l_heads l_nexts l_waters l_sides l_ties l_lastSpotted l_sizes l_signed l_letter y_first y_last y_nextSize y_nextMask y_seats y_nexts y_aheads y_size y_mask y_things y_ghosts y_ahead (k_loads + 1) k_groups k_groupCounts k_tally k_bests false
  else
    (F_X4_forgetLoads (k_loads + 1) k_bests).bind fun c47 =>
    F_X4_load_s_b50 r_kinds r_marks r_rules r_count l_count l_letters l_numbers l_spots l_heads l_nexts l_waters l_sides l_ties l_lastSpotted l_sizes l_signed l_letter y_first y_last y_nextSize y_nextMask y_seats y_nexts y_aheads y_size y_mask y_things y_ghosts y_ahead c47.1 k_groups k_groupCounts k_tally c47.2 false
def F_X4_load_s (l_count : Int32) (l_letters : Nat → Int32) (l_numbers : Nat → Int32) (l_spots : Nat → Int32) (l_heads : Nat → Int32) (l_nexts : Nat → Int32) (l_waters : Nat → Int32) (l_sides : Nat → Int32) (l_ties : Nat → Int32) (l_lastSpotted : Int32) (l_sizes : Int32) (l_signed : Int32) (l_letter : Int32) (y_first : Int32) (y_last : Int32) (y_nextSize : Int32) (y_nextMask : Int32) (y_seats : Nat → Int32) (y_nexts : Nat → Int32) (y_aheads : Nat → Int32) (y_size : Int32) (y_mask : Int32) (y_things : Int32) (y_ghosts : Int32) (y_ahead : Int32) (k_loads : Int32) (k_groups : Nat → Int32) (k_groupCounts : Nat → Int32) (k_tally : Nat → Int32) (k_bests : Nat → Int32) (r_kinds : Nat → Int32) (r_marks : Nat → Int32) (r_rules : Nat → Int32) (r_count : Int32) (r_changed : Bool) : Option (Int32 × (Nat → Int32) × (Nat → Int32) × (Nat → Int32) × (Nat → Int32) × (Nat → Int32) × (Nat → Int32) × (Nat → Int32) × (Nat → Int32) × Int32 × Int32 × Int32 × Int32 × Int32 × Int32 × Int32 × Int32 × (Nat → Int32) × (Nat → Int32) × (Nat → Int32) × Int32 × Int32 × Int32 × Int32 × Int32 × Int32 × (Nat → Int32) × (Nat → Int32) × (Nat → Int32) × (Nat → Int32) × Bool) :=
  if (qb r_changed) = 0 then
    some (l_count, l_letters, l_numbers, l_spots, l_heads, l_nexts, l_waters, l_sides, l_ties, l_lastSpotted, l_sizes, l_signed, l_letter, y_first, y_last, y_nextSize, y_nextMask, y_seats, y_nexts, y_aheads, y_size, y_mask, y_things, y_ghosts, y_ahead, k_loads, k_groups, k_groupCounts, k_tally, k_bests, r_changed)
  else
    F_X4_load_s_b16 r_kinds r_marks r_rules r_count l_count l_letters l_numbers l_spots l_heads l_nexts l_waters l_sides l_ties l_lastSpotted l_sizes l_signed l_letter y_first y_last y_nextSize y_nextMask y_seats y_nexts y_aheads y_size y_mask y_things y_ghosts y_ahead k_loads k_groups k_groupCounts k_tally k_bests
def F_X4_numberOf (p0 : Int32) (p1 : Int32) (p2 : Int32) (p3 : Int32) : Option (Int32) :=
  if p0 < 0 then
    some (-1)
  else
    if 8 ≤ p0 then
      some (-1)
    else
      if p1 < 0 then
        some (-1)
      else
        if p1 < 30 then
          if p2 < 0 then
            some (-1)
          else
            if p2 < 15 then
              if p3 = 0 then
                some ((((((p0 * 15) + p2) * 30) + p1) * 2) + 0)
              else
                some ((((((p0 * 15) + p2) * 30) + p1) * 2) + 1)
            else
              some (-1)
        else
          some (-1)
def F_X4_stateOf_b45 (t0 : Int32) (t1 : Int32) (t2 : Int32) (t3 : Int32) : Option (Int32) :=
  (F_X4_numberOf t3 t2 t1 t0).bind fun c45 =>
  some c45
def F_X4_stateOf_b18 (l_count : Int32) (l_ties : Nat → Int32) (x1 : Int32) (x2 : Int32) (x4 : Int32) (t0 : Int32) : Option (Int32) :=
  if x4 = 0 then
    F_X4_stateOf_b45 0 t0 x2 x1
  else
    (F_X2_joins l_count l_ties x2).bind fun c34 =>
    if (qb c34) = 0 then
      F_X4_stateOf_b45 0 t0 x2 x1
    else
      F_X4_stateOf_b45 1 t0 x2 x1
def F_X4_stateOf (l_count : Int32) (l_ties : Nat → Int32) (l_lastSpotted : Int32) (p0 : Int32) (p1 : Int32) (p2 : Int32) (p3 : Int32) : Option (Int32) :=
  if l_lastSpotted < p1 then
    F_X4_stateOf_b18 l_count l_ties p0 p1 p3 0
  else
    F_X4_stateOf_b18 l_count l_ties p0 p1 p3 (p2 >>> ((1 : Int32) &&& 31))
def F_X4_isKnown (k_loads : Int32) (k_bests : Nat → Int32) (p0 : Int32) : Option (Bool) :=
  if p0 < 0 then
    some false
  else
    if 7200 ≤ p0 then
      some false
    else
      ck (inb p0 7200) <|
      if ((k_bests p0.toNatClampNeg) / 1024) = k_loads then
        some true
      else
        some false
def F_X4_leastFrom (l_count : Int32) (l_ties : Nat → Int32) (l_lastSpotted : Int32) (k_loads : Int32) (k_bests : Nat → Int32) (p0 : Int32) (p1 : Int32) (p2 : Int32) (p3 : Int32) : Option (Int32) :=
  if p1 < l_count then
    (F_X4_stateOf l_count l_ties l_lastSpotted p0 p1 p2 p3).bind fun c19 =>
    (F_X4_isKnown k_loads k_bests c19).bind fun c27 =>
    if (qb c27) = 0 then
      some 1000
    else
      ck (inb c19 7200) <|
      some ((k_bests c19.toNatClampNeg) - (k_bests c19.toNatClampNeg) / 1024 * 1024)
  else
    some 0
def F_X4_reckon_b169 (l_count : Int32) (l_ties : Nat → Int32) (l_lastSpotted : Int32) (k_loads : Int32) (k_groups : Nat → Int32) (kc : (Nat → Int64) → (Nat → Int32) → Int32 → Int32 → Int32 → Int32 → Option (Int64 × (Nat → Int64) × (Nat → Int32))) (k64 : (Nat → Int64) → (Nat → Int32) → Int32 → Int32 → Int32 → Int32 → Int32 → Int32 → Int32 → Int64 → Int32 → Int32 → Option ((Nat → Int64) × (Nat → Int32))) (k_counts : Nat → Int64) (k_bests : Nat → Int32) (x1 : Int32) (x2 : Int32) (x3 : Int32) (x4 : Int32) (x7 : Int32) (x8 : Int32) (x9 : Int32) (x10 : Int64) (x12 : Int32) (x13 : Int32) (x14 : Int32) (x15 : Int32) (x18 : Int32) (t0 : Int32) : Option ((Nat → Int64) × (Nat → Int32)) :=
  (kc k_counts k_bests (x2 + 1) (x3 + x15) (x4 + x18) t0).bind fun c186 =>
  if (lg_cmp c186.1 0) ≤ 0 then
    k64 c186.2.1 c186.2.2 x1 x2 x3 x4 x7 x8 x9 x10 x12 (x13 + 1)
  else
    (F_X4_leastFrom l_count l_ties l_lastSpotted k_loads c186.2.2 (x2 + 1) (x3 + x15) (x4 + x18) t0).bind fun c228 =>
    k64 c186.2.1 c186.2.2 x1 x2 x3 x4 x7 x8 x9 (x10 + (c186.1 * ((x14 &&& 255).toInt64))) (if (x18 + c228) < x12 then (x18 + c228) else x12) (x13 + 1)
def F_X4_reckon_b146 (l_count : Int32) (l_ties : Nat → Int32) (l_lastSpotted : Int32) (k_loads : Int32) (k_groups : Nat → Int32) (kc : (Nat → Int64) → (Nat → Int32) → Int32 → Int32 → Int32 → Int32 → Option (Int64 × (Nat → Int64) × (Nat → Int32))) (k64 : (Nat → Int64) → (Nat → Int32) → Int32 → Int32 → Int32 → Int32 → Int32 → Int32 → Int32 → Int64 → Int32 → Int32 → Option ((Nat → Int64) × (Nat → Int32))) (k_counts : Nat → Int64) (k_bests : Nat → Int32) (x1 : Int32) (x2 : Int32) (x3 : Int32) (x4 : Int32) (x7 : Int32) (x8 : Int32) (x9 : Int32) (x10 : Int64) (x12 : Int32) (x13 : Int32) (x14 : Int32) (x15 : Int32) : Option ((Nat → Int64) × (Nat → Int32)) :=
  if (x14 &&& 131072) = 0 then
    F_X4_reckon_b169 l_count l_ties l_lastSpotted k_loads k_groups kc k64 k_counts k_bests x1 x2 x3 x4 x7 x8 x9 x10 x12 x13 x14 x15 ((x14 >>> ((12 : Int32) &&& 31)) &&& 15) 0
  else
    F_X4_reckon_b169 l_count l_ties l_lastSpotted k_loads k_groups kc k64 k_counts k_bests x1 x2 x3 x4 x7 x8 x9 x10 x12 x13 x14 x15 ((x14 >>> ((12 : Int32) &&& 31)) &&& 15) 1
def F_X4_reckon_b117 (l_count : Int32) (l_ties : Nat → Int32) (l_lastSpotted : Int32) (k_loads : Int32) (k_groups : Nat → Int32) (kc : (Nat → Int64) → (Nat → Int32) → Int32 → Int32 → Int32 → Int32 → Option (Int64 × (Nat → Int64) × (Nat → Int32))) (k64 : (Nat → Int64) → (Nat → Int32) → Int32 → Int32 → Int32 → Int32 → Int32 → Int32 → Int32 → Int64 → Int32 → Int32 → Option ((Nat → Int64) × (Nat → Int32))) (k_counts : Nat → Int64) (k_bests : Nat → Int32) (x1 : Int32) (x2 : Int32) (x3 : Int32) (x4 : Int32) (x7 : Int32) (x8 : Int32) (x9 : Int32) (x10 : Int64) (x12 : Int32) (x13 : Int32) (x14 : Int32) (x15 : Int32) (x16 : Int32) (t0 : Int32) : Option ((Nat → Int64) × (Nat → Int32)) :=
  if t0 = 0 then
    k64 k_counts k_bests x1 x2 x3 x4 x7 x8 x9 x10 x12 (x13 + 1)
  else
    if x8 < x15 then
      k64 k_counts k_bests x1 x2 x3 x4 x7 x8 x9 x10 x12 (x13 + 1)
    else
      if x16 = (-1) then
        F_X4_reckon_b146 l_count l_ties l_lastSpotted k_loads k_groups kc k64 k_counts k_bests x1 x2 x3 x4 x7 x8 x9 x10 x12 x13 x14 x15
      else
        if x16 = (x3 + x4) then
          F_X4_reckon_b146 l_count l_ties l_lastSpotted k_loads k_groups kc k64 k_counts k_bests x1 x2 x3 x4 x7 x8 x9 x10 x12 x13 x14 x15
        else
          k64 k_counts k_bests x1 x2 x3 x4 x7 x8 x9 x10 x12 (x13 + 1)
def F_X4_reckon_b64 (l_count : Int32) (l_ties : Nat → Int32) (l_lastSpotted : Int32) (k_loads : Int32) (k_groups : Nat → Int32) (kc : (Nat → Int64) → (Nat → Int32) → Int32 → Int32 → Int32 → Int32 → Option (Int64 × (Nat → Int64) × (Nat → Int32))) : Nat → (Nat → Int64) → (Nat → Int32) → Int32 → Int32 → Int32 → Int32 → Int32 → Int32 → Int32 → Int64 → Int32 → Int32 → Option ((Nat → Int64) × (Nat → Int32))
  | 0, _, _, _, _, _, _, _, _, _, _, _, _ => none
  | n + 1, k_counts, k_bests, x1, x2, x3, x4, x7, x8, x9, x10, x12, x13 =>
    if x7 ≤ x13 then
      ck (inb x1 7200) <|
      ck (inb x1 7200) <|
      some (vp_updL k_counts x1.toNatClampNeg x10, upd k_bests x1.toNatClampNeg ((k_loads * 1024) + x12))
    else
      ck (inb x13 7140) <|
      if x9 = 0 then
        F_X4_reckon_b117 l_count l_ties l_lastSpotted k_loads k_groups kc (fun k_counts k_bests x1 x2 x3 x4 x7 x8 x9 x10 x12 x13 => F_X4_reckon_b64 l_count l_ties l_lastSpotted k_loads k_groups kc n k_counts k_bests x1 x2 x3 x4 x7 x8 x9 x10 x12 x13) k_counts k_bests x1 x2 x3 x4 x7 x8 x9 x10 x12 x13 (k_groups x13.toNatClampNeg) (((k_groups x13.toNatClampNeg) >>> ((8 : Int32) &&& 31)) &&& 15) (((k_groups x13.toNatClampNeg) >>> ((18 : Int32) &&& 31)) - 1) 1
      else
        if ((k_groups x13.toNatClampNeg) &&& 65536) = 0 then
          F_X4_reckon_b117 l_count l_ties l_lastSpotted k_loads k_groups kc (fun k_counts k_bests x1 x2 x3 x4 x7 x8 x9 x10 x12 x13 => F_X4_reckon_b64 l_count l_ties l_lastSpotted k_loads k_groups kc n k_counts k_bests x1 x2 x3 x4 x7 x8 x9 x10 x12 x13) k_counts k_bests x1 x2 x3 x4 x7 x8 x9 x10 x12 x13 (k_groups x13.toNatClampNeg) (((k_groups x13.toNatClampNeg) >>> ((8 : Int32) &&& 31)) &&& 15) (((k_groups x13.toNatClampNeg) >>> ((18 : Int32) &&& 31)) - 1) 1
        else
          F_X4_reckon_b117 l_count l_ties l_lastSpotted k_loads k_groups kc (fun k_counts k_bests x1 x2 x3 x4 x7 x8 x9 x10 x12 x13 => F_X4_reckon_b64 l_count l_ties l_lastSpotted k_loads k_groups kc n k_counts k_bests x1 x2 x3 x4 x7 x8 x9 x10 x12 x13) k_counts k_bests x1 x2 x3 x4 x7 x8 x9 x10 x12 x13 (k_groups x13.toNatClampNeg) (((k_groups x13.toNatClampNeg) >>> ((8 : Int32) &&& 31)) &&& 15) (((k_groups x13.toNatClampNeg) >>> ((18 : Int32) &&& 31)) - 1) 0
def F_X4_reckon_b50 (l_count : Int32) (l_ties : Nat → Int32) (l_lastSpotted : Int32) (k_loads : Int32) (k_groups : Nat → Int32) (kc : (Nat → Int64) → (Nat → Int32) → Int32 → Int32 → Int32 → Int32 → Option (Int64 × (Nat → Int64) × (Nat → Int32))) (k_counts : Nat → Int64) (k_bests : Nat → Int32) (x1 : Int32) (x2 : Int32) (x3 : Int32) (x4 : Int32) (x6 : Int32) (x7 : Int32) (x8 : Int32) (t0 : Int32) : Option ((Nat → Int64) × (Nat → Int32)) :=
  F_X4_reckon_b64 l_count l_ties l_lastSpotted k_loads k_groups kc FU k_counts k_bests x1 x2 x3 x4 x7 x8 t0 0 1000 x6
def F_X4_reckon (l_count : Int32) (l_letters : Nat → Int32) (l_ties : Nat → Int32) (l_lastSpotted : Int32) (l_letter : Int32) (k_loads : Int32) (k_groups : Nat → Int32) (k_groupCounts : Nat → Int32) (k_counts : Nat → Int64) (k_bests : Nat → Int32) (kc : (Nat → Int64) → (Nat → Int32) → Int32 → Int32 → Int32 → Int32 → Option (Int64 × (Nat → Int64) × (Nat → Int32))) (p0 : Int32) (p1 : Int32) (p2 : Int32) (p3 : Int32) (p4 : Int32) : Option ((Nat → Int64) × (Nat → Int32)) :=
  ck (inb p2 30) <|
  (F_X2_reach l_count l_letters l_letter p2 p1).bind fun c24 =>
  if p4 = 0 then
    F_X4_reckon_b50 l_count l_ties l_lastSpotted k_loads k_groups kc k_counts k_bests p0 p1 p2 p3 (p2 * 238) ((p2 * 238) + (k_groupCounts p2.toNatClampNeg)) c24 0
  else
    (F_X2_clashes l_count l_ties p2).bind fun c39 =>
    if (qb c39) = 0 then
      F_X4_reckon_b50 l_count l_ties l_lastSpotted k_loads k_groups kc k_counts k_bests p0 p1 p2 p3 (p2 * 238) ((p2 * 238) + (k_groupCounts p2.toNatClampNeg)) c24 0
    else
      F_X4_reckon_b50 l_count l_ties l_lastSpotted k_loads k_groups kc k_counts k_bests p0 p1 p2 p3 (p2 * 238) ((p2 * 238) + (k_groupCounts p2.toNatClampNeg)) c24 1
def F_X4_countFrom_o (l_count : Int32) (l_letters : Nat → Int32) (l_ties : Nat → Int32) (l_lastSpotted : Int32) (l_letter : Int32) (k_loads : Int32) (k_groups : Nat → Int32) (k_groupCounts : Nat → Int32) (k_counts : Nat → Int64) (k_bests : Nat → Int32) (kc : (Nat → Int64) → (Nat → Int32) → Int32 → Int32 → Int32 → Int32 → Option (Int64 × (Nat → Int64) × (Nat → Int32))) (p0 : Int32) (p1 : Int32) (p2 : Int32) (p3 : Int32) : Option (Int64 × (Nat → Int64) × (Nat → Int32)) :=
  if p1 < l_count then
    (F_X4_stateOf l_count l_ties l_lastSpotted p0 p1 p2 p3).bind fun c19 =>
    if c19 = (-1) then
      some (0, k_counts, k_bests)
    else
      (F_X4_isKnown k_loads k_bests c19).bind fun c35 =>
      if (qb c35) = 0 then
        (F_X4_reckon l_count l_letters l_ties l_lastSpotted l_letter k_loads k_groups k_groupCounts k_counts k_bests kc c19 p0 p1 p2 p3).bind fun c49 =>
        ck (inb c19 7200) <|
        some (c49.1 c19.toNatClampNeg, c49.1, c49.2)
      else
        ck (inb c19 7200) <|
        some (k_counts c19.toNatClampNeg, k_counts, k_bests)
  else
    some (1, k_counts, k_bests)
def F_X4_countFrom (l_count : Int32) (l_letters : Nat → Int32) (l_ties : Nat → Int32) (l_lastSpotted : Int32) (l_letter : Int32) (k_loads : Int32) (k_groups : Nat → Int32) (k_groupCounts : Nat → Int32) : Nat → (Nat → Int64) → (Nat → Int32) → Int32 → Int32 → Int32 → Int32 → Option (Int64 × (Nat → Int64) × (Nat → Int32))
  | 0, _, _, _, _, _, _ => none
  | n + 1, k_counts, k_bests, p0, p1, p2, p3 => F_X4_countFrom_o l_count l_letters l_ties l_lastSpotted l_letter k_loads k_groups k_groupCounts k_counts k_bests (fun k_counts k_bests p0 p1 p2 p3 => F_X4_countFrom l_count l_letters l_ties l_lastSpotted l_letter k_loads k_groups k_groupCounts n k_counts k_bests p0 p1 p2 p3) p0 p1 p2 p3
def F_X4_total (l_count : Int32) (l_letters : Nat → Int32) (l_ties : Nat → Int32) (l_lastSpotted : Int32) (l_letter : Int32) (k_loads : Int32) (k_groups : Nat → Int32) (k_groupCounts : Nat → Int32) (k_counts : Nat → Int64) (k_bests : Nat → Int32) : Option (Int64 × (Nat → Int64) × (Nat → Int32)) :=
  if l_count = 0 then
    some (0, k_counts, k_bests)
  else
    (F_X4_countFrom l_count l_letters l_ties l_lastSpotted l_letter k_loads k_groups k_groupCounts 10 k_counts k_bests 0 0 0 0).bind fun c19 =>
    some (c19.1, c19.2.1, c19.2.2)
def F_X4_countBehind_b75 (l_count : Int32) (l_letters : Nat → Int32) (l_ties : Nat → Int32) (l_lastSpotted : Int32) (l_letter : Int32) (y_size : Int32) (y_mask : Int32) (y_things : Int32) (y_ghosts : Int32) (k_loads : Int32) (k_groups : Nat → Int32) (k_groupCounts : Nat → Int32) (k_counts : Nat → Int64) (k_bests : Nat → Int32) (x1 : Int32) (x2 : Int32) (x3 : Int32) : Option (Int64 × (Nat → Int64) × (Nat → Int32)) :=
  (F_X1_endsWithLeaf y_size y_mask).bind fun c105 =>
  (F_X4_countFrom l_count l_letters l_ties l_lastSpotted l_letter k_loads k_groups k_groupCounts 10 k_counts k_bests (x1 + 1) (x2 + y_things) (x3 + y_ghosts) (qb c105)).bind fun c108 =>
  some (c108.1, c108.2.1, c108.2.2)
def F_X4_countBehind_b26 (l_count : Int32) (l_letters : Nat → Int32) (l_ties : Nat → Int32) (l_lastSpotted : Int32) (l_letter : Int32) (y_size : Int32) (y_mask : Int32) (y_things : Int32) (y_ghosts : Int32) (k_loads : Int32) (k_groups : Nat → Int32) (k_groupCounts : Nat → Int32) (k_counts : Nat → Int64) (k_bests : Nat → Int32) (x1 : Int32) (x2 : Int32) (x3 : Int32) (x4 : Int32) : Option (Int64 × (Nat → Int64) × (Nat → Int32)) :=
  (F_X2_reach l_count l_letters l_letter x2 x1).bind fun c39 =>
  if y_things ≤ c39 then
    if x4 = 0 then
      F_X4_countBehind_b75 l_count l_letters l_ties l_lastSpotted l_letter y_size y_mask y_things y_ghosts k_loads k_groups k_groupCounts k_counts k_bests x1 x2 x3
    else
      (F_X1_startsWithLeaf y_size y_mask).bind fun c56 =>
      if (qb c56) = 0 then
        F_X4_countBehind_b75 l_count l_letters l_ties l_lastSpotted l_letter y_size y_mask y_things y_ghosts k_loads k_groups k_groupCounts k_counts k_bests x1 x2 x3
      else
        (F_X2_clashes l_count l_ties x2).bind fun c67 =>
        if (qb c67) = 0 then
          F_X4_countBehind_b75 l_count l_letters l_ties l_lastSpotted l_letter y_size y_mask y_things y_ghosts k_loads k_groups k_groupCounts k_counts k_bests x1 x2 x3
        else
          some (0, k_counts, k_bests)
  else
    some (0, k_counts, k_bests)
def F_X4_countBehind (l_count : Int32) (l_letters : Nat → Int32) (l_ties : Nat → Int32) (l_lastSpotted : Int32) (l_letter : Int32) (y_size : Int32) (y_mask : Int32) (y_things : Int32) (y_ghosts : Int32) (y_ahead : Int32) (k_loads : Int32) (k_groups : Nat → Int32) (k_groupCounts : Nat → Int32) (k_counts : Nat → Int64) (k_bests : Nat → Int32) (p0 : Int32) (p1 : Int32) (p2 : Int32) (p3 : Int32) : Option (Int64 × (Nat → Int64) × (Nat → Int32)) :=
  if y_ahead = (-1) then
    F_X4_countBehind_b26 l_count l_letters l_ties l_lastSpotted l_letter y_size y_mask y_things y_ghosts k_loads k_groups k_groupCounts k_counts k_bests p0 p1 p2 p3
  else
    if y_ahead = (p1 + p2) then
      F_X4_countBehind_b26 l_count l_letters l_ties l_lastSpotted l_letter y_size y_mask y_things y_ghosts k_loads k_groups k_groupCounts k_counts k_bests p0 p1 p2 p3
    else
      some (0, k_counts, k_bests)
def F_X4_leastBehind (l_count : Int32) (l_ties : Nat → Int32) (l_lastSpotted : Int32) (y_size : Int32) (y_mask : Int32) (y_things : Int32) (y_ghosts : Int32) (k_loads : Int32) (k_bests : Nat → Int32) (p0 : Int32) (p1 : Int32) (p2 : Int32) : Option (Int32) :=
  (F_X1_endsWithLeaf y_size y_mask).bind fun c30 =>
  (F_X4_leastFrom l_count l_ties l_lastSpotted k_loads k_bests (p0 + 1) (p1 + y_things) (p2 + y_ghosts) (qb c30)).bind fun c33 =>
  some (y_ghosts + c33)
def F_X4_choose (y_size : Int32) (y_mask : Int32) (k_chosenSizes : Nat → Int32) (k_chosenMasks : Nat → Int32) (k_chosen : Int32) (p0 : Int32) : Option ((Nat → Int32) × (Nat → Int32) × Int32) :=
  ck (inb p0 8) <|
  ck (inb p0 8) <|
  some (upd k_chosenSizes p0.toNatClampNeg y_size, upd k_chosenMasks p0.toNatClampNeg y_mask, p0 + 1)
def F_X4_chooseWay_b223 (l_count : Int32) (y_first : Int32) (y_last : Int32) (y_nextSize : Int32) (y_nextMask : Int32) (y_seats : Nat → Int32) (y_nexts : Nat → Int32) (y_aheads : Nat → Int32) (y_size : Int32) (y_mask : Int32) (y_things : Int32) (y_ghosts : Int32) (y_ahead : Int32) (k_counts : Nat → Int64) (k_bests : Nat → Int32) (k_chosenSizes : Nat → Int32) (k_chosenMasks : Nat → Int32) (k_chosen : Int32) (x6 : Int32) : Option (Bool × Int32 × Int32 × Int32 × Int32 × (Nat → Int32) × (Nat → Int32) × (Nat → Int32) × Int32 × Int32 × Int32 × Int32 × Int32 × (Nat → Int64) × (Nat → Int32) × (Nat → Int32) × (Nat → Int32) × Int32) :=
  if x6 < l_count then
    some (false, y_first, y_last, y_nextSize, y_nextMask, y_seats, y_nexts, y_aheads, y_size, y_mask, y_things, y_ghosts, y_ahead, k_counts, k_bests, k_chosenSizes, k_chosenMasks, k_chosen)
  else
    some (true, y_first, y_last, y_nextSize, y_nextMask, y_seats, y_nexts, y_aheads, y_size, y_mask, y_things, y_ghosts, y_ahead, k_counts, k_bests, k_chosenSizes, k_chosenMasks, k_chosen)
def F_X4_chooseWay_b171 (l_count : Int32) (l_letters : Nat → Int32) (l_numbers : Nat → Int32) (l_spots : Nat → Int32) (l_waters : Nat → Int32) (l_sides : Nat → Int32) (l_ties : Nat → Int32) (l_lastSpotted : Int32) (l_sizes : Int32) (l_signed : Int32) (l_letter : Int32) (k_loads : Int32) (k_groups : Nat → Int32) (k_groupCounts : Nat → Int32) (k20 : Int32 → Int32 → Int32 → Int32 → (Nat → Int32) → (Nat → Int32) → (Nat → Int32) → Int32 → Int32 → Int32 → Int32 → Int32 → (Nat → Int64) → (Nat → Int32) → (Nat → Int32) → (Nat → Int32) → Int32 → Int32 → Int64 → Int32 → Int32 → Int32 → Int32 → Option (Bool × Int32 × Int32 × Int32 × Int32 × (Nat → Int32) × (Nat → Int32) × (Nat → Int32) × Int32 × Int32 × Int32 × Int32 × Int32 × (Nat → Int64) × (Nat → Int32) × (Nat → Int32) × (Nat → Int32) × Int32)) (y_first : Int32) (y_last : Int32) (y_nextSize : Int32) (y_nextMask : Int32) (y_seats : Nat → Int32) (y_nexts : Nat → Int32) (y_aheads : Nat → Int32) (y_size : Int32) (y_mask : Int32) (y_things : Int32) (y_ghosts : Int32) (y_ahead : Int32) (k_counts : Nat → Int64) (k_bests : Nat → Int32) (k_chosenSizes : Nat → Int32) (k_chosenMasks : Nat → Int32) (k_chosen : Int32) (x3 : Int32) (x4 : Int64) (x6 : Int32) (x7 : Int32) (x9 : Int32) (x10 : Int32) : Option (Bool × Int32 × Int32 × Int32 × Int32 × (Nat → Int32) × (Nat → Int32) × (Nat → Int32) × Int32 × Int32 × Int32 × Int32 × Int32 × (Nat → Int64) × (Nat → Int32) × (Nat → Int32) × (Nat → Int32) × Int32) :=
  if x10 = 0 then
    some (false, y_first, y_last, y_nextSize, y_nextMask, y_seats, y_nexts, y_aheads, y_size, y_mask, y_things, y_ghosts, y_ahead, k_counts, k_bests, k_chosenSizes, k_chosenMasks, k_chosen)
  else
    (F_X4_choose y_size y_mask k_chosenSizes k_chosenMasks k_chosen x9).bind fun c181 =>
    (F_X1_endsWithLeaf y_size y_mask).bind fun c212 =>
    k20 y_first y_last y_nextSize y_nextMask y_seats y_nexts y_aheads y_size y_mask y_things y_ghosts y_ahead k_counts k_bests c181.1 c181.2.1 c181.2.2 x3 x4 (x6 + y_things) (x7 + y_ghosts) (qb c212) (x9 + 1)
def F_X4_chooseWay_b147 (l_count : Int32) (l_letters : Nat → Int32) (l_numbers : Nat → Int32) (l_spots : Nat → Int32) (l_waters : Nat → Int32) (l_sides : Nat → Int32) (l_ties : Nat → Int32) (l_lastSpotted : Int32) (l_sizes : Int32) (l_signed : Int32) (l_letter : Int32) (k_loads : Int32) (k_groups : Nat → Int32) (k_groupCounts : Nat → Int32) (k68 : Int32 → Int32 → Int32 → Int32 → (Nat → Int32) → (Nat → Int32) → (Nat → Int32) → Int32 → Int32 → Int32 → Int32 → Int32 → (Nat → Int64) → (Nat → Int32) → (Nat → Int32) → (Nat → Int32) → Int32 → Int32 → Int64 → Int32 → Int32 → Int32 → Int32 → Int32 → Int32 → Int32 → Option (Bool × Int32 × Int32 × Int32 × Int32 × (Nat → Int32) × (Nat → Int32) × (Nat → Int32) × Int32 × Int32 × Int32 × Int32 × Int32 × (Nat → Int64) × (Nat → Int32) × (Nat → Int32) × (Nat → Int32) × Int32)) (y_first : Int32) (y_last : Int32) (y_nextSize : Int32) (y_nextMask : Int32) (y_seats : Nat → Int32) (y_nexts : Nat → Int32) (y_aheads : Nat → Int32) (y_size : Int32) (y_mask : Int32) (y_things : Int32) (y_ghosts : Int32) (y_ahead : Int32) (k_counts : Nat → Int64) (k_bests : Nat → Int32) (k_chosenSizes : Nat → Int32) (k_chosenMasks : Nat → Int32) (k_chosen : Int32) (x3 : Int32) (x4 : Int64) (x6 : Int32) (x7 : Int32) (x8 : Int32) (x9 : Int32) (x11 : Int32) (x12 : Int32) (x13 : Int64) (t0 : Int32) : Option (Bool × Int32 × Int32 × Int32 × Int32 × (Nat → Int32) × (Nat → Int32) × (Nat → Int32) × Int32 × Int32 × Int32 × Int32 × Int32 × (Nat → Int64) × (Nat → Int32) × (Nat → Int32) × (Nat → Int32) × Int32) :=
  if t0 = 0 then
    k68 y_first y_last y_nextSize y_nextMask y_seats y_nexts y_aheads y_size y_mask y_things y_ghosts y_ahead k_counts k_bests k_chosenSizes k_chosenMasks k_chosen x3 (x4 - x13) x6 x7 x8 x9 t0 x11 (x12 + 1)
  else
    k68 y_first y_last y_nextSize y_nextMask y_seats y_nexts y_aheads y_size y_mask y_things y_ghosts y_ahead k_counts k_bests k_chosenSizes k_chosenMasks k_chosen x3 (x4 - 0) x6 x7 x8 x9 t0 x11 (x12 + 1)
def F_X4_chooseWay_b134 (l_count : Int32) (l_letters : Nat → Int32) (l_numbers : Nat → Int32) (l_spots : Nat → Int32) (l_waters : Nat → Int32) (l_sides : Nat → Int32) (l_ties : Nat → Int32) (l_lastSpotted : Int32) (l_sizes : Int32) (l_signed : Int32) (l_letter : Int32) (k_loads : Int32) (k_groups : Nat → Int32) (k_groupCounts : Nat → Int32) (k68 : Int32 → Int32 → Int32 → Int32 → (Nat → Int32) → (Nat → Int32) → (Nat → Int32) → Int32 → Int32 → Int32 → Int32 → Int32 → (Nat → Int64) → (Nat → Int32) → (Nat → Int32) → (Nat → Int32) → Int32 → Int32 → Int64 → Int32 → Int32 → Int32 → Int32 → Int32 → Int32 → Int32 → Option (Bool × Int32 × Int32 × Int32 × Int32 × (Nat → Int32) × (Nat → Int32) × (Nat → Int32) × Int32 × Int32 × Int32 × Int32 × Int32 × (Nat → Int64) × (Nat → Int32) × (Nat → Int32) × (Nat → Int32) × Int32)) (y_first : Int32) (y_last : Int32) (y_nextSize : Int32) (y_nextMask : Int32) (y_seats : Nat → Int32) (y_nexts : Nat → Int32) (y_aheads : Nat → Int32) (y_size : Int32) (y_mask : Int32) (y_things : Int32) (y_ghosts : Int32) (y_ahead : Int32) (k_counts : Nat → Int64) (k_bests : Nat → Int32) (k_chosenSizes : Nat → Int32) (k_chosenMasks : Nat → Int32) (k_chosen : Int32) (x3 : Int32) (x4 : Int64) (x6 : Int32) (x7 : Int32) (x8 : Int32) (x9 : Int32) (x11 : Int32) (x12 : Int32) (x13 : Int64) : Option (Bool × Int32 × Int32 × Int32 × Int32 × (Nat → Int32) × (Nat → Int32) × (Nat → Int32) × Int32 × Int32 × Int32 × Int32 × Int32 × (Nat → Int64) × (Nat → Int32) × (Nat → Int32) × (Nat → Int32) × Int32) :=
  if 0 ≤ (lg_cmp x4 x13) then
    F_X4_chooseWay_b147 l_count l_letters l_numbers l_spots l_waters l_sides l_ties l_lastSpotted l_sizes l_signed l_letter k_loads k_groups k_groupCounts k68 y_first y_last y_nextSize y_nextMask y_seats y_nexts y_aheads y_size y_mask y_things y_ghosts y_ahead k_counts k_bests k_chosenSizes k_chosenMasks k_chosen x3 x4 x6 x7 x8 x9 x11 x12 x13 0
  else
    F_X4_chooseWay_b147 l_count l_letters l_numbers l_spots l_waters l_sides l_ties l_lastSpotted l_sizes l_signed l_letter k_loads k_groups k_groupCounts k68 y_first y_last y_nextSize y_nextMask y_seats y_nexts y_aheads y_size y_mask y_things y_ghosts y_ahead k_counts k_bests k_chosenSizes k_chosenMasks k_chosen x3 x4 x6 x7 x8 x9 x11 x12 x13 1
def F_X4_chooseWay_b68 (l_count : Int32) (l_letters : Nat → Int32) (l_numbers : Nat → Int32) (l_spots : Nat → Int32) (l_waters : Nat → Int32) (l_sides : Nat → Int32) (l_ties : Nat → Int32) (l_lastSpotted : Int32) (l_sizes : Int32) (l_signed : Int32) (l_letter : Int32) (k_loads : Int32) (k_groups : Nat → Int32) (k_groupCounts : Nat → Int32) (k20 : Int32 → Int32 → Int32 → Int32 → (Nat → Int32) → (Nat → Int32) → (Nat → Int32) → Int32 → Int32 → Int32 → Int32 → Int32 → (Nat → Int64) → (Nat → Int32) → (Nat → Int32) → (Nat → Int32) → Int32 → Int32 → Int64 → Int32 → Int32 → Int32 → Int32 → Option (Bool × Int32 × Int32 × Int32 × Int32 × (Nat → Int32) × (Nat → Int32) × (Nat → Int32) × Int32 × Int32 × Int32 × Int32 × Int32 × (Nat → Int64) × (Nat → Int32) × (Nat → Int32) × (Nat → Int32) × Int32)) : Nat → Int32 → Int32 → Int32 → Int32 → (Nat → Int32) → (Nat → Int32) → (Nat → Int32) → Int32 → Int32 → Int32 → Int32 → Int32 → (Nat → Int64) → (Nat → Int32) → (Nat → Int32) → (Nat → Int32) → Int32 → Int32 → Int64 → Int32 → Int32 → Int32 → Int32 → Int32 → Int32 → Int32 → Option (Bool × Int32 × Int32 × Int32 × Int32 × (Nat → Int32) × (Nat → Int32) × (Nat → Int32) × Int32 × Int32 × Int32 × Int32 × Int32 × (Nat → Int64) × (Nat → Int32) × (Nat → Int32) × (Nat → Int32) × Int32)
  | 0, _, _, _, _, _, _, _, _, _, _, _, _, _, _, _, _, _, _, _, _, _, _, _, _, _, _ => none
  | n + 1, y_first, y_last, y_nextSize, y_nextMask, y_seats, y_nexts, y_aheads, y_size, y_mask, y_things, y_ghosts, y_ahead, k_counts, k_bests, k_chosenSizes, k_chosenMasks, k_chosen, x3, x4, x6, x7, x8, x9, x10, x11, x12 =>
    if 238 ≤ x12 then
      F_X4_chooseWay_b171 l_count l_letters l_numbers l_spots l_waters l_sides l_ties l_lastSpotted l_sizes l_signed l_letter k_loads k_groups k_groupCounts k20 y_first y_last y_nextSize y_nextMask y_seats y_nexts y_aheads y_size y_mask y_things y_ghosts y_ahead k_counts k_bests k_chosenSizes k_chosenMasks k_chosen x3 x4 x6 x7 x9 x10
    else
      if x10 = 0 then
        (F_X1_advance l_count l_numbers l_spots l_waters l_sides l_ties l_sizes l_signed y_first y_last y_nextSize y_nextMask y_seats y_nexts y_aheads y_size y_mask y_things y_ghosts y_ahead).bind fun c85 =>
        if (qb c85.1) = 0 then
          F_X4_chooseWay_b171 l_count l_letters l_numbers l_spots l_waters l_sides l_ties l_lastSpotted l_sizes l_signed l_letter k_loads k_groups k_groupCounts k20 y_first y_last c85.2.1 c85.2.2.1 c85.2.2.2.1 c85.2.2.2.2.1 c85.2.2.2.2.2.1 c85.2.2.2.2.2.2.1 c85.2.2.2.2.2.2.2.1 c85.2.2.2.2.2.2.2.2.1 c85.2.2.2.2.2.2.2.2.2.1 c85.2.2.2.2.2.2.2.2.2.2 k_counts k_bests k_chosenSizes k_chosenMasks k_chosen x3 x4 x6 x7 x9 x10
        else
          (F_X4_countBehind l_count l_letters l_ties l_lastSpotted l_letter c85.2.2.2.2.2.2.1 c85.2.2.2.2.2.2.2.1 c85.2.2.2.2.2.2.2.2.1 c85.2.2.2.2.2.2.2.2.2.1 c85.2.2.2.2.2.2.2.2.2.2 k_loads k_groups k_groupCounts k_counts k_bests x9 x6 x7 x8).bind fun c100 =>
          if x3 = 0 then
            F_X4_chooseWay_b134 l_count l_letters l_numbers l_spots l_waters l_sides l_ties l_lastSpotted l_sizes l_signed l_letter k_loads k_groups k_groupCounts (fun y_first y_last y_nextSize y_nextMask y_seats y_nexts y_aheads y_size y_mask y_things y_ghosts y_ahead k_counts k_bests k_chosenSizes k_chosenMasks k_chosen x3 x4 x6 x7 x8 x9 x10 x11 x12 => F_X4_chooseWay_b68 l_count l_letters l_numbers l_spots l_waters l_sides l_ties l_lastSpotted l_sizes l_signed l_letter k_loads k_groups k_groupCounts k20 n y_first y_last y_nextSize y_nextMask y_seats y_nexts y_aheads y_size y_mask y_things y_ghosts y_ahead k_counts k_bests k_chosenSizes k_chosenMasks k_chosen x3 x4 x6 x7 x8 x9 x10 x11 x12) y_first y_last c85.2.1 c85.2.2.1 c85.2.2.2.1 c85.2.2.2.2.1 c85.2.2.2.2.2.1 c85.2.2.2.2.2.2.1 c85.2.2.2.2.2.2.2.1 c85.2.2.2.2.2.2.2.2.1 c85.2.2.2.2.2.2.2.2.2.1 c85.2.2.2.2.2.2.2.2.2.2 c100.2.1 c100.2.2 k_chosenSizes k_chosenMasks k_chosen x3 x4 x6 x7 x8 x9 x11 x12 c100.1
          else
            if (lg_cmp c100.1 0) ≤ 0 then
              F_X4_chooseWay_b134 l_count l_letters l_numbers l_spots l_waters l_sides l_ties l_lastSpotted l_sizes l_signed l_letter k_loads k_groups k_groupCounts (fun y_first y_last y_nextSize y_nextMask y_seats y_nexts y_aheads y_size y_mask y_things y_ghosts y_ahead k_counts k_bests k_chosenSizes k_chosenMasks k_chosen x3 x4 x6 x7 x8 x9 x10 x11 x12 => F_X4_chooseWay_b68 l_count l_letters l_numbers l_spots l_waters l_sides l_ties l_lastSpotted l_sizes l_signed l_letter k_loads k_groups k_groupCounts k20 n y_first y_last y_nextSize y_nextMask y_seats y_nexts y_aheads y_size y_mask y_things y_ghosts y_ahead k_counts k_bests k_chosenSizes k_chosenMasks k_chosen x3 x4 x6 x7 x8 x9 x10 x11 x12) y_first y_last c85.2.1 c85.2.2.1 c85.2.2.2.1 c85.2.2.2.2.1 c85.2.2.2.2.2.1 c85.2.2.2.2.2.2.1 c85.2.2.2.2.2.2.2.1 c85.2.2.2.2.2.2.2.2.1 c85.2.2.2.2.2.2.2.2.2.1 c85.2.2.2.2.2.2.2.2.2.2 c100.2.1 c100.2.2 k_chosenSizes k_chosenMasks k_chosen x3 x4 x6 x7 x8 x9 x11 x12 c100.1
            else
              (F_X4_leastBehind l_count l_ties l_lastSpotted c85.2.2.2.2.2.2.1 c85.2.2.2.2.2.2.2.1 c85.2.2.2.2.2.2.2.2.1 c85.2.2.2.2.2.2.2.2.2.1 k_loads c100.2.2 x9 x6 x7).bind fun c123 =>
              if c123 = x11 then
                F_X4_chooseWay_b134 l_count l_letters l_numbers l_spots l_waters l_sides l_ties l_lastSpotted l_sizes l_signed l_letter k_loads k_groups k_groupCounts (fun y_first y_last y_nextSize y_nextMask y_seats y_nexts y_aheads y_size y_mask y_things y_ghosts y_ahead k_counts k_bests k_chosenSizes k_chosenMasks k_chosen x3 x4 x6 x7 x8 x9 x10 x11 x12 => F_X4_chooseWay_b68 l_count l_letters l_numbers l_spots l_waters l_sides l_ties l_lastSpotted l_sizes l_signed l_letter k_loads k_groups k_groupCounts k20 n y_first y_last y_nextSize y_nextMask y_seats y_nexts y_aheads y_size y_mask y_things y_ghosts y_ahead k_counts k_bests k_chosenSizes k_chosenMasks k_chosen x3 x4 x6 x7 x8 x9 x10 x11 x12) y_first y_last c85.2.1 c85.2.2.1 c85.2.2.2.1 c85.2.2.2.2.1 c85.2.2.2.2.2.1 c85.2.2.2.2.2.2.1 c85.2.2.2.2.2.2.2.1 c85.2.2.2.2.2.2.2.2.1 c85.2.2.2.2.2.2.2.2.2.1 c85.2.2.2.2.2.2.2.2.2.2 c100.2.1 c100.2.2 k_chosenSizes k_chosenMasks k_chosen x3 x4 x6 x7 x8 x9 x11 x12 c100.1
              else
                F_X4_chooseWay_b134 l_count l_letters l_numbers l_spots l_waters l_sides l_ties l_lastSpotted l_sizes l_signed l_letter k_loads k_groups k_groupCounts (fun y_first y_last y_nextSize y_nextMask y_seats y_nexts y_aheads y_size y_mask y_things y_ghosts y_ahead k_counts k_bests k_chosenSizes k_chosenMasks k_chosen x3 x4 x6 x7 x8 x9 x10 x11 x12 => F_X4_chooseWay_b68 l_count l_letters l_numbers l_spots l_waters l_sides l_ties l_lastSpotted l_sizes l_signed l_letter k_loads k_groups k_groupCounts k20 n y_first y_last y_nextSize y_nextMask y_seats y_nexts y_aheads y_size y_mask y_things y_ghosts y_ahead k_counts k_bests k_chosenSizes k_chosenMasks k_chosen x3 x4 x6 x7 x8 x9 x10 x11 x12) y_first y_last c85.2.1 c85.2.2.1 c85.2.2.2.1 c85.2.2.2.2.1 c85.2.2.2.2.2.1 c85.2.2.2.2.2.2.1 c85.2.2.2.2.2.2.2.1 c85.2.2.2.2.2.2.2.2.1 c85.2.2.2.2.2.2.2.2.2.1 c85.2.2.2.2.2.2.2.2.2.2 c100.2.1 c100.2.2 k_chosenSizes k_chosenMasks k_chosen x3 x4 x6 x7 x8 x9 x11 x12 0
      else
        F_X4_chooseWay_b171 l_count l_letters l_numbers l_spots l_waters l_sides l_ties l_lastSpotted l_sizes l_signed l_letter k_loads k_groups k_groupCounts k20 y_first y_last y_nextSize y_nextMask y_seats y_nexts y_aheads y_size y_mask y_things y_ghosts y_ahead k_counts k_bests k_chosenSizes k_chosenMasks k_chosen x3 x4 x6 x7 x9 x10
def F_X4_chooseWay_b20 (l_count : Int32) (l_letters : Nat → Int32) (l_numbers : Nat → Int32) (l_spots : Nat → Int32) (l_waters : Nat → Int32) (l_sides : Nat → Int32) (l_ties : Nat → Int32) (l_lastSpotted : Int32) (l_sizes : Int32) (l_signed : Int32) (l_letter : Int32) (k_loads : Int32) (k_groups : Nat → Int32) (k_groupCounts : Nat → Int32) : Nat → Int32 → Int32 → Int32 → Int32 → (Nat → Int32) → (Nat → Int32) → (Nat → Int32) → Int32 → Int32 → Int32 → Int32 → Int32 → (Nat → Int64) → (Nat → Int32) → (Nat → Int32) → (Nat → Int32) → Int32 → Int32 → Int64 → Int32 → Int32 → Int32 → Int32 → Option (Bool × Int32 × Int32 × Int32 × Int32 × (Nat → Int32) × (Nat → Int32) × (Nat → Int32) × Int32 × Int32 × Int32 × Int32 × Int32 × (Nat → Int64) × (Nat → Int32) × (Nat → Int32) × (Nat → Int32) × Int32)
  | 0, _, _, _, _, _, _, _, _, _, _, _, _, _, _, _, _, _, _, _, _, _, _, _ => none
  | n + 1, y_first, y_last, y_nextSize, y_nextMask, y_seats, y_nexts, y_aheads, y_size, y_mask, y_things, y_ghosts, y_ahead, k_counts, k_bests, k_chosenSizes, k_chosenMasks, k_chosen, x3, x4, x6, x7, x8, x9 =>
    if 8 ≤ x9 then
      F_X4_chooseWay_b223 l_count y_first y_last y_nextSize y_nextMask y_seats y_nexts y_aheads y_size y_mask y_things y_ghosts y_ahead k_counts k_bests k_chosenSizes k_chosenMasks k_chosen x6
    else
      if l_count ≤ x6 then
        F_X4_chooseWay_b223 l_count y_first y_last y_nextSize y_nextMask y_seats y_nexts y_aheads y_size y_mask y_things y_ghosts y_ahead k_counts k_bests k_chosenSizes k_chosenMasks k_chosen x6
      else
        (F_X4_leastFrom l_count l_ties l_lastSpotted k_loads k_bests x9 x6 x7 x8).bind fun c51 =>
        (F_X1_beginWhole y_first y_last y_nextSize y_nextMask y_nexts y_aheads x6).bind fun c62 =>
        F_X4_chooseWay_b68 l_count l_letters l_numbers l_spots l_waters l_sides l_ties l_lastSpotted l_sizes l_signed l_letter k_loads k_groups k_groupCounts (fun y_first y_last y_nextSize y_nextMask y_seats y_nexts y_aheads y_size y_mask y_things y_ghosts y_ahead k_counts k_bests k_chosenSizes k_chosenMasks k_chosen x3 x4 x6 x7 x8 x9 => F_X4_chooseWay_b20 l_count l_letters l_numbers l_spots l_waters l_sides l_ties l_lastSpotted l_sizes l_signed l_letter k_loads k_groups k_groupCounts n y_first y_last y_nextSize y_nextMask y_seats y_nexts y_aheads y_size y_mask y_things y_ghosts y_ahead k_counts k_bests k_chosenSizes k_chosenMasks k_chosen x3 x4 x6 x7 x8 x9) FU c62.1 c62.2.1 c62.2.2.1 c62.2.2.2.1 y_seats c62.2.2.2.2.1 c62.2.2.2.2.2 y_size y_mask y_things y_ghosts y_ahead k_counts k_bests k_chosenSizes k_chosenMasks k_chosen x3 x4 x6 x7 x8 x9 0 c51 0
def F_X4_chooseWay (l_count : Int32) (l_letters : Nat → Int32) (l_numbers : Nat → Int32) (l_spots : Nat → Int32) (l_waters : Nat → Int32) (l_sides : Nat → Int32) (l_ties : Nat → Int32) (l_lastSpotted : Int32) (l_sizes : Int32) (l_signed : Int32) (l_letter : Int32) (y_first : Int32) (y_last : Int32) (y_nextSize : Int32) (y_nextMask : Int32) (y_seats : Nat → Int32) (y_nexts : Nat → Int32) (y_aheads : Nat → Int32) (y_size : Int32) (y_mask : Int32) (y_things : Int32) (y_ghosts : Int32) (y_ahead : Int32) (k_loads : Int32) (k_groups : Nat → Int32) (k_groupCounts : Nat → Int32) (k_counts : Nat → Int64) (k_bests : Nat → Int32) (k_chosenSizes : Nat → Int32) (k_chosenMasks : Nat → Int32) (k_chosen : Int32) (p0 : Int64) (p1 : Int32) : Option (Bool × Int32 × Int32 × Int32 × Int32 × (Nat → Int32) × (Nat → Int32) × (Nat → Int32) × Int32 × Int32 × Int32 × Int32 × Int32 × (Nat → Int64) × (Nat → Int32) × (Nat → Int32) × (Nat → Int32) × Int32) :=
  F_X4_chooseWay_b20 l_count l_letters l_numbers l_spots l_waters l_sides l_ties l_lastSpotted l_sizes l_signed l_letter k_loads k_groups k_groupCounts FU y_first y_last y_nextSize y_nextMask y_seats y_nexts y_aheads y_size y_mask y_things y_ghosts y_ahead k_counts k_bests k_chosenSizes k_chosenMasks 0 p1 p0 0 0 0 0
def F_X4_wasIn (k_loads : Int32) (k_bests : Nat → Int32) (p0 : Int32) (p1 : Int32) (p2 : Int32) (p3 : Int32) : Option (Bool) :=
  (F_X4_numberOf p0 p1 p2 0).bind fun c5 =>
  (F_X4_isKnown k_loads k_bests c5).bind fun c8 =>
  if (qb c8) = 0 then
    if p3 = 0 then
      (F_X4_numberOf p0 p1 p2 1).bind fun c24 =>
      (F_X4_isKnown k_loads k_bests c24).bind fun c27 =>
      if (qb c27) = 0 then
        some false
      else
        some true
    else
      some false
  else
    some true
def F_X4_wasReached_b99 (l_count : Int32) (l_letters : Nat → Int32) (l_letter : Int32) (y_things : Int32) (y_ahead : Int32) (k_loads : Int32) (k_bests : Nat → Int32) (k57 : Int32 → Int32 → Int32 → Int32 → Option (Bool)) (x1 : Int32) (x2 : Int32) (x3 : Int32) (x4 : Int32) : Option (Bool) :=
  (F_X4_wasIn k_loads k_bests x3 x1 x4 x2).bind fun c105 =>
  if (qb c105) = 0 then
    k57 x1 x2 x3 (x4 + 1)
  else
    some true
def F_X4_wasReached_b57 (l_count : Int32) (l_letters : Nat → Int32) (l_letter : Int32) (y_things : Int32) (y_ahead : Int32) (k_loads : Int32) (k_bests : Nat → Int32) (k29 : Int32 → Int32 → Int32 → Option (Bool)) : Nat → Int32 → Int32 → Int32 → Int32 → Option (Bool)
  | 0, _, _, _, _ => none
  | n + 1, x1, x2, x3, x4 =>
    if 15 ≤ x4 then
      k29 x1 x2 (x3 + 1)
    else
      if y_ahead = (-1) then
        F_X4_wasReached_b99 l_count l_letters l_letter y_things y_ahead k_loads k_bests (fun x1 x2 x3 x4 => F_X4_wasReached_b57 l_count l_letters l_letter y_things y_ahead k_loads k_bests k29 n x1 x2 x3 x4) x1 x2 x3 x4
      else
        if y_ahead = ((x1 + ((2 : Int32) * x4)) + (x1 &&& 1)) then
          F_X4_wasReached_b99 l_count l_letters l_letter y_things y_ahead k_loads k_bests (fun x1 x2 x3 x4 => F_X4_wasReached_b57 l_count l_letters l_letter y_things y_ahead k_loads k_bests k29 n x1 x2 x3 x4) x1 x2 x3 x4
        else
          F_X4_wasReached_b57 l_count l_letters l_letter y_things y_ahead k_loads k_bests k29 n x1 x2 x3 (x4 + 1)
def F_X4_wasReached_b29 (l_count : Int32) (l_letters : Nat → Int32) (l_letter : Int32) (y_things : Int32) (y_ahead : Int32) (k_loads : Int32) (k_bests : Nat → Int32) : Nat → Int32 → Int32 → Int32 → Option (Bool)
  | 0, _, _, _ => none
  | n + 1, x1, x2, x3 =>
    if 8 ≤ x3 then
      some false
    else
      (F_X2_reach l_count l_letters l_letter x1 x3).bind fun c41 =>
      if c41 < y_things then
        F_X4_wasReached_b29 l_count l_letters l_letter y_things y_ahead k_loads k_bests n x1 x2 (x3 + 1)
      else
        F_X4_wasReached_b57 l_count l_letters l_letter y_things y_ahead k_loads k_bests (fun x1 x2 x3 => F_X4_wasReached_b29 l_count l_letters l_letter y_things y_ahead k_loads k_bests n x1 x2 x3) FU x1 x2 x3 0
def F_X4_wasReached (l_count : Int32) (l_letters : Nat → Int32) (l_ties : Nat → Int32) (l_letter : Int32) (y_size : Int32) (y_mask : Int32) (y_things : Int32) (y_ahead : Int32) (k_loads : Int32) (k_bests : Nat → Int32) (p0 : Int32) : Option (Bool) :=
  (F_X1_startsWithLeaf y_size y_mask).bind fun c4 =>
  if (qb c4) = 0 then
    F_X4_wasReached_b29 l_count l_letters l_letter y_things y_ahead k_loads k_bests FU p0 0 0
  else
    (F_X2_clashes l_count l_ties p0).bind fun c15 =>
    if (qb c15) = 0 then
      F_X4_wasReached_b29 l_count l_letters l_letter y_things y_ahead k_loads k_bests FU p0 0 0
    else
      F_X4_wasReached_b29 l_count l_letters l_letter y_things y_ahead k_loads k_bests FU p0 1 0
def F_X4_opensUpTo_b25 (l_count : Int32) (l_letters : Nat → Int32) (l_numbers : Nat → Int32) (l_spots : Nat → Int32) (l_waters : Nat → Int32) (l_sides : Nat → Int32) (l_ties : Nat → Int32) (l_sizes : Int32) (l_signed : Int32) (l_letter : Int32) (k_loads : Int32) (k_bests : Nat → Int32) (k2 : Int32 → Int32 → Int32 → Int32 → (Nat → Int32) → (Nat → Int32) → (Nat → Int32) → Int32 → Int32 → Int32 → Int32 → Int32 → Int32 → Int32 → Option (Bool × Int32 × Int32 × Int32 × Int32 × (Nat → Int32) × (Nat → Int32) × (Nat → Int32) × Int32 × Int32 × Int32 × Int32 × Int32)) : Nat → Int32 → Int32 → Int32 → Int32 → (Nat → Int32) → (Nat → Int32) → (Nat → Int32) → Int32 → Int32 → Int32 → Int32 → Int32 → Int32 → Int32 → Int32 → Option (Bool × Int32 × Int32 × Int32 × Int32 × (Nat → Int32) × (Nat → Int32) × (Nat → Int32) × Int32 × Int32 × Int32 × Int32 × Int32)
  | 0, _, _, _, _, _, _, _, _, _, _, _, _, _, _, _ => none
  | n + 1, y_first, y_last, y_nextSize, y_nextMask, y_seats, y_nexts, y_aheads, y_size, y_mask, y_things, y_ghosts, y_ahead, x1, x2, x3 =>
    if 7200 ≤ x3 then
      k2 y_first y_last y_nextSize y_nextMask y_seats y_nexts y_aheads y_size y_mask y_things y_ghosts y_ahead x1 (x2 + (-1))
    else
      (F_X1_advance l_count l_numbers l_spots l_waters l_sides l_ties l_sizes l_signed y_first y_last y_nextSize y_nextMask y_seats y_nexts y_aheads y_size y_mask y_things y_ghosts y_ahead).bind fun c36 =>
      if (qb c36.1) = 0 then
        k2 y_first y_last c36.2.1 c36.2.2.1 c36.2.2.2.1 c36.2.2.2.2.1 c36.2.2.2.2.2.1 c36.2.2.2.2.2.2.1 c36.2.2.2.2.2.2.2.1 c36.2.2.2.2.2.2.2.2.1 c36.2.2.2.2.2.2.2.2.2.1 c36.2.2.2.2.2.2.2.2.2.2 x1 (x2 + (-1))
      else
        (F_X4_wasReached l_count l_letters l_ties l_letter c36.2.2.2.2.2.2.1 c36.2.2.2.2.2.2.2.1 c36.2.2.2.2.2.2.2.2.1 c36.2.2.2.2.2.2.2.2.2.2 k_loads k_bests x2).bind fun c44 =>
        if (qb c44) = 0 then
          F_X4_opensUpTo_b25 l_count l_letters l_numbers l_spots l_waters l_sides l_ties l_sizes l_signed l_letter k_loads k_bests k2 n y_first y_last c36.2.1 c36.2.2.1 c36.2.2.2.1 c36.2.2.2.2.1 c36.2.2.2.2.2.1 c36.2.2.2.2.2.2.1 c36.2.2.2.2.2.2.2.1 c36.2.2.2.2.2.2.2.2.1 c36.2.2.2.2.2.2.2.2.2.1 c36.2.2.2.2.2.2.2.2.2.2 x1 x2 (x3 + 1)
        else
          some (true, y_first, y_last, c36.2.1, c36.2.2.1, c36.2.2.2.1, c36.2.2.2.2.1, c36.2.2.2.2.2.1, c36.2.2.2.2.2.2.1, c36.2.2.2.2.2.2.2.1, c36.2.2.2.2.2.2.2.2.1, c36.2.2.2.2.2.2.2.2.2.1, c36.2.2.2.2.2.2.2.2.2.2)
def F_X4_opensUpTo_b2 (l_count : Int32) (l_letters : Nat → Int32) (l_numbers : Nat → Int32) (l_spots : Nat → Int32) (l_waters : Nat → Int32) (l_sides : Nat → Int32) (l_ties : Nat → Int32) (l_sizes : Int32) (l_signed : Int32) (l_letter : Int32) (k_loads : Int32) (k_bests : Nat → Int32) : Nat → Int32 → Int32 → Int32 → Int32 → (Nat → Int32) → (Nat → Int32) → (Nat → Int32) → Int32 → Int32 → Int32 → Int32 → Int32 → Int32 → Int32 → Option (Bool × Int32 × Int32 × Int32 × Int32 × (Nat → Int32) × (Nat → Int32) × (Nat → Int32) × Int32 × Int32 × Int32 × Int32 × Int32)
  | 0, _, _, _, _, _, _, _, _, _, _, _, _, _, _ => none
  | n + 1, y_first, y_last, y_nextSize, y_nextMask, y_seats, y_nexts, y_aheads, y_size, y_mask, y_things, y_ghosts, y_ahead, x1, x2 =>
    if x2 < 0 then
      some (false, y_first, y_last, y_nextSize, y_nextMask, y_seats, y_nexts, y_aheads, y_size, y_mask, y_things, y_ghosts, y_ahead)
    else
      if x2 ≤ (x1 - 8) then
        some (false, y_first, y_last, y_nextSize, y_nextMask, y_seats, y_nexts, y_aheads, y_size, y_mask, y_things, y_ghosts, y_ahead)
      else
        (F_X1_beginOpen y_first y_last y_nextSize y_nextMask y_nexts y_aheads x2 x1).bind fun c20 =>
        F_X4_opensUpTo_b25 l_count l_letters l_numbers l_spots l_waters l_sides l_ties l_sizes l_signed l_letter k_loads k_bests (fun y_first y_last y_nextSize y_nextMask y_seats y_nexts y_aheads y_size y_mask y_things y_ghosts y_ahead x1 x2 => F_X4_opensUpTo_b2 l_count l_letters l_numbers l_spots l_waters l_sides l_ties l_sizes l_signed l_letter k_loads k_bests n y_first y_last y_nextSize y_nextMask y_seats y_nexts y_aheads y_size y_mask y_things y_ghosts y_ahead x1 x2) FU c20.1 c20.2.1 c20.2.2.1 c20.2.2.2.1 y_seats c20.2.2.2.2.1 c20.2.2.2.2.2 y_size y_mask y_things y_ghosts y_ahead x1 x2 0
def F_X4_opensUpTo (l_count : Int32) (l_letters : Nat → Int32) (l_numbers : Nat → Int32) (l_spots : Nat → Int32) (l_waters : Nat → Int32) (l_sides : Nat → Int32) (l_ties : Nat → Int32) (l_sizes : Int32) (l_signed : Int32) (l_letter : Int32) (y_first : Int32) (y_last : Int32) (y_nextSize : Int32) (y_nextMask : Int32) (y_seats : Nat → Int32) (y_nexts : Nat → Int32) (y_aheads : Nat → Int32) (y_size : Int32) (y_mask : Int32) (y_things : Int32) (y_ghosts : Int32) (y_ahead : Int32) (k_loads : Int32) (k_bests : Nat → Int32) (p0 : Int32) : Option (Bool × Int32 × Int32 × Int32 × Int32 × (Nat → Int32) × (Nat → Int32) × (Nat → Int32) × Int32 × Int32 × Int32 × Int32 × Int32) :=
  F_X4_opensUpTo_b2 l_count l_letters l_numbers l_spots l_waters l_sides l_ties l_sizes l_signed l_letter k_loads k_bests FU y_first y_last y_nextSize y_nextMask y_seats y_nexts y_aheads y_size y_mask y_things y_ghosts y_ahead p0 p0
def F_X4_firstStuck_b79 (l_count : Int32) (l_letters : Nat → Int32) (l_numbers : Nat → Int32) (l_nexts : Nat → Int32) (l_waters : Nat → Int32) (l_sides : Nat → Int32) (l_sizes : Int32) (l_signed : Int32) (l_letter : Int32) (k_loads : Int32) (k_bests : Nat → Int32) (r_kinds : Nat → Int32) (r_marks : Nat → Int32) (r_rules : Nat → Int32) (r_count : Int32) (k4 : (Nat → Int32) → (Nat → Int32) → (Nat → Int32) → Int32 → Int32 → Int32 → Int32 → (Nat → Int32) → (Nat → Int32) → (Nat → Int32) → Int32 → Int32 → Int32 → Int32 → Int32 → Int32 → Int32 → Option (Int32 × (Nat → Int32) × (Nat → Int32) × (Nat → Int32) × Int32 × Int32 × Int32 × Int32 × (Nat → Int32) × (Nat → Int32) × (Nat → Int32) × Int32 × Int32 × Int32 × Int32 × Int32)) (l_spots : Nat → Int32) (l_heads : Nat → Int32) (l_ties : Nat → Int32) (y_first : Int32) (y_last : Int32) (y_nextSize : Int32) (y_nextMask : Int32) (y_seats : Nat → Int32) (y_nexts : Nat → Int32) (y_aheads : Nat → Int32) (y_size : Int32) (y_mask : Int32) (y_things : Int32) (y_ghosts : Int32) (y_ahead : Int32) (x2 : Int32) (x3 : Int32) (x4 : Int32) : Option (Int32 × (Nat → Int32) × (Nat → Int32) × (Nat → Int32) × Int32 × Int32 × Int32 × Int32 × (Nat → Int32) × (Nat → Int32) × (Nat → Int32) × Int32 × Int32 × Int32 × Int32 × Int32) :=
  if x4 = 0 then
    some (x3, l_spots, l_heads, l_ties, y_first, y_last, y_nextSize, y_nextMask, y_seats, y_nexts, y_aheads, y_size, y_mask, y_things, y_ghosts, y_ahead)
  else
    k4 l_spots l_heads l_ties y_first y_last y_nextSize y_nextMask y_seats y_nexts y_aheads y_size y_mask y_things y_ghosts y_ahead x2 (x3 + 1)
def F_X4_firstStuck_b4 (l_count : Int32) (l_letters : Nat → Int32) (l_numbers : Nat → Int32) (l_nexts : Nat → Int32) (l_waters : Nat → Int32) (l_sides : Nat → Int32) (l_sizes : Int32) (l_signed : Int32) (l_letter : Int32) (k_loads : Int32) (k_bests : Nat → Int32) (r_kinds : Nat → Int32) (r_marks : Nat → Int32) (r_rules : Nat → Int32) (r_count : Int32) : Nat → (Nat → Int32) → (Nat → Int32) → (Nat → Int32) → Int32 → Int32 → Int32 → Int32 → (Nat → Int32) → (Nat → Int32) → (Nat → Int32) → Int32 → Int32 → Int32 → Int32 → Int32 → Int32 → Int32 → Option (Int32 × (Nat → Int32) × (Nat → Int32) × (Nat → Int32) × Int32 × Int32 × Int32 × Int32 × (Nat → Int32) × (Nat → Int32) × (Nat → Int32) × Int32 × Int32 × Int32 × Int32 × Int32)
  | 0, _, _, _, _, _, _, _, _, _, _, _, _, _, _, _, _, _ => none
  | n + 1, l_spots, l_heads, l_ties, y_first, y_last, y_nextSize, y_nextMask, y_seats, y_nexts, y_aheads, y_size, y_mask, y_things, y_ghosts, y_ahead, x2, x3 =>
    if r_count ≤ x3 then
      some (r_count, l_spots, l_heads, l_ties, y_first, y_last, y_nextSize, y_nextMask, y_seats, y_nexts, y_aheads, y_size, y_mask, y_things, y_ghosts, y_ahead)
    else
      (F_X5_hangs r_kinds r_count x3).bind fun c17 =>
      if (qb c17) = 0 then
        (F_X5_isCancelled r_kinds r_count (x3 - 1)).bind fun c66 =>
        if (qb c66) = 0 then
          F_X4_firstStuck_b79 l_count l_letters l_numbers l_nexts l_waters l_sides l_sizes l_signed l_letter k_loads k_bests r_kinds r_marks r_rules r_count (fun l_spots l_heads l_ties y_first y_last y_nextSize y_nextMask y_seats y_nexts y_aheads y_size y_mask y_things y_ghosts y_ahead x2 x3 => F_X4_firstStuck_b4 l_count l_letters l_numbers l_nexts l_waters l_sides l_sizes l_signed l_letter k_loads k_bests r_kinds r_marks r_rules r_count n l_spots l_heads l_ties y_first y_last y_nextSize y_nextMask y_seats y_nexts y_aheads y_size y_mask y_things y_ghosts y_ahead x2 x3) l_spots l_heads l_ties y_first y_last y_nextSize y_nextMask y_seats y_nexts y_aheads y_size y_mask y_things y_ghosts y_ahead x2 x3 1
        else
          (F_X4_opensUpTo l_count l_letters l_numbers l_spots l_waters l_sides l_ties l_sizes l_signed l_letter y_first y_last y_nextSize y_nextMask y_seats y_nexts y_aheads y_size y_mask y_things y_ghosts y_ahead k_loads k_bests x2).bind fun c74 =>
          F_X4_firstStuck_b79 l_count l_letters l_numbers l_nexts l_waters l_sides l_sizes l_signed l_letter k_loads k_bests r_kinds r_marks r_rules r_count (fun l_spots l_heads l_ties y_first y_last y_nextSize y_nextMask y_seats y_nexts y_aheads y_size y_mask y_things y_ghosts y_ahead x2 x3 => F_X4_firstStuck_b4 l_count l_letters l_numbers l_nexts l_waters l_sides l_sizes l_signed l_letter k_loads k_bests r_kinds r_marks r_rules r_count n l_spots l_heads l_ties y_first y_last y_nextSize y_nextMask y_seats y_nexts y_aheads y_size y_mask y_things y_ghosts y_ahead x2 x3) l_spots l_heads l_ties c74.2.1 c74.2.2.1 c74.2.2.2.1 c74.2.2.2.2.1 c74.2.2.2.2.2.1 c74.2.2.2.2.2.2.1 c74.2.2.2.2.2.2.2.1 c74.2.2.2.2.2.2.2.2.1 c74.2.2.2.2.2.2.2.2.2.1 c74.2.2.2.2.2.2.2.2.2.2.1 c74.2.2.2.2.2.2.2.2.2.2.2.1 c74.2.2.2.2.2.2.2.2.2.2.2.2 x2 x3 (qb c74.1)
      else
        (F_X2_judge l_count l_spots l_heads l_nexts l_ties r_marks r_rules r_count (x2 + 1) x3 0).bind fun c34 =>
        (F_X4_opensUpTo l_count l_letters l_numbers c34.1 l_waters l_sides c34.2.2 l_sizes l_signed l_letter y_first y_last y_nextSize y_nextMask y_seats y_nexts y_aheads y_size y_mask y_things y_ghosts y_ahead k_loads k_bests (x2 + 1)).bind fun c39 =>
        (F_X5_isCancelled r_kinds r_count x3).bind fun c53 =>
        (F_X2_judge l_count c34.1 c34.2.1 l_nexts c34.2.2 r_marks r_rules r_count (x2 + 1) x3 (qb c53)).bind fun c56 =>
        F_X4_firstStuck_b79 l_count l_letters l_numbers l_nexts l_waters l_sides l_sizes l_signed l_letter k_loads k_bests r_kinds r_marks r_rules r_count (fun l_spots l_heads l_ties y_first y_last y_nextSize y_nextMask y_seats y_nexts y_aheads y_size y_mask y_things y_ghosts y_ahead x2 x3 => F_X4_firstStuck_b4 l_count l_letters l_numbers l_nexts l_waters l_sides l_sizes l_signed l_letter k_loads k_bests r_kinds r_marks r_rules r_count n l_spots l_heads l_ties y_first y_last y_nextSize y_nextMask y_seats y_nexts y_aheads y_size y_mask y_things y_ghosts y_ahead x2 x3) c56.1 c56.2.1 c56.2.2 c39.2.1 c39.2.2.1 c39.2.2.2.1 c39.2.2.2.2.1 c39.2.2.2.2.2.1 c39.2.2.2.2.2.2.1 c39.2.2.2.2.2.2.2.1 c39.2.2.2.2.2.2.2.2.1 c39.2.2.2.2.2.2.2.2.2.1 c39.2.2.2.2.2.2.2.2.2.2.1 c39.2.2.2.2.2.2.2.2.2.2.2.1 c39.2.2.2.2.2.2.2.2.2.2.2.2 (x2 + 1) x3 (qb c39.1)
def F_X4_firstStuck (l_count : Int32) (l_letters : Nat → Int32) (l_numbers : Nat → Int32) (l_spots : Nat → Int32) (l_heads : Nat → Int32) (l_nexts : Nat → Int32) (l_waters : Nat → Int32) (l_sides : Nat → Int32) (l_ties : Nat → Int32) (l_sizes : Int32) (l_signed : Int32) (l_letter : Int32) (y_first : Int32) (y_last : Int32) (y_nextSize : Int32) (y_nextMask : Int32) (y_seats : Nat → Int32) (y_nexts : Nat → Int32) (y_aheads : Nat → Int32) (y_size : Int32) (y_mask : Int32) (y_things : Int32) (y_ghosts : Int32) (y_ahead : Int32) (k_loads : Int32) (k_bests : Nat → Int32) (r_kinds : Nat → Int32) (r_marks : Nat → Int32) (r_rules : Nat → Int32) (r_count : Int32) : Option (Int32 × (Nat → Int32) × (Nat → Int32) × (Nat → Int32) × Int32 × Int32 × Int32 × Int32 × (Nat → Int32) × (Nat → Int32) × (Nat → Int32) × Int32 × Int32 × Int32 × Int32 × Int32) :=
  F_X4_firstStuck_b4 l_count l_letters l_numbers l_nexts l_waters l_sides l_sizes l_signed l_letter k_loads k_bests r_kinds r_marks r_rules r_count FU l_spots l_heads l_ties y_first y_last y_nextSize y_nextMask y_seats y_nexts y_aheads y_size y_mask y_things y_ghosts y_ahead (-1) 0

def F_X1_beginOpen (y_first : Int32) (y_last : Int32) (y_nextSize : Int32) (y_nextMask : Int32) (y_nexts : Nat → Int32) (y_aheads : Nat → Int32) (p0 : Int32) (p1 : Int32) : Option (Int32 × Int32 × Int32 × Int32 × (Nat → Int32) × (Nat → Int32)) :=
  ck (inb 0 9) <|
  ck (inb 0 9) <|
  some (p0, p1, 2, 0, upd y_nexts (0 : Int32).toNatClampNeg p0, upd y_aheads (0 : Int32).toNatClampNeg (-1))
def F_X1_beginWhole (y_first : Int32) (y_last : Int32) (y_nextSize : Int32) (y_nextMask : Int32) (y_nexts : Nat → Int32) (y_aheads : Nat → Int32) (p0 : Int32) : Option (Int32 × Int32 × Int32 × Int32 × (Nat → Int32) × (Nat → Int32)) :=
  (F_X1_beginOpen y_first y_last y_nextSize y_nextMask y_nexts y_aheads p0 (-1)).bind fun c3 =>
  some (c3.1, c3.2.1, c3.2.2.1, c3.2.2.2.1, c3.2.2.2.2.1, c3.2.2.2.2.2)
def F_X1_layPlace_b182 (l_count : Int32) (l_waters : Nat → Int32) (l_sides : Nat → Int32) (y_size : Int32) (y_seats : Nat → Int32) (y_nexts : Nat → Int32) (y_aheads : Nat → Int32) (x1 : Int32) (x2 : Int32) : Option (Bool × (Nat → Int32) × (Nat → Int32) × (Nat → Int32)) :=
  if ((y_size + 1) - x1) < 1 then
    some (true, y_seats, y_nexts, y_aheads)
  else
    if x1 ≤ ((y_size + 1) - x1) then
      some (true, y_seats, y_nexts, y_aheads)
    else
      ck (inb ((y_size + 1) - x1) 9) <|
      (F_X2_mayHang l_count l_waters l_sides x2 (y_seats ((y_size + 1) - x1).toNatClampNeg)).bind fun c212 =>
      if (qb c212) = 0 then
        some (false, y_seats, y_nexts, y_aheads)
      else
        some (true, y_seats, y_nexts, y_aheads)
def F_X1_layPlace (l_count : Int32) (l_numbers : Nat → Int32) (l_spots : Nat → Int32) (l_waters : Nat → Int32) (l_sides : Nat → Int32) (l_ties : Nat → Int32) (l_signed : Int32) (y_first : Int32) (y_seats : Nat → Int32) (y_nexts : Nat → Int32) (y_aheads : Nat → Int32) (y_size : Int32) (y_mask : Int32) (p0 : Int32) : Option (Bool × (Nat → Int32) × (Nat → Int32) × (Nat → Int32)) :=
  if p0 < 1 then
    some (false, y_seats, y_nexts, y_aheads)
  else
    if p0 ≤ 8 then
      ck (inb (p0 - 1) 9) <|
      (F_X7_isGhost y_mask y_size p0).bind fun c31 =>
      if (qb c31) = 0 then
        ck (inb p0 9) <|
        ck (inb p0 9) <|
        ck (inb (p0 - 1) 9) <|
        (F_X2_aheadBy l_count l_spots (y_nexts (p0 - 1).toNatClampNeg) p0).bind fun c119 =>
        (F_X7_together (y_aheads (p0 - 1).toNatClampNeg) c119).bind fun c122 =>
        ck (inb p0 9) <|
        ck (inb p0 9) <|
        if ((upd y_aheads p0.toNatClampNeg c122) p0.toNatClampNeg) = (-2) then
          some (false, upd y_seats p0.toNatClampNeg (y_nexts (p0 - 1).toNatClampNeg), upd y_nexts p0.toNatClampNeg ((y_nexts (p0 - 1).toNatClampNeg) + 1), upd y_aheads p0.toNatClampNeg c122)
        else
          (F_X2_mayBeAt l_count l_numbers l_signed (y_nexts (p0 - 1).toNatClampNeg) p0).bind fun c143 =>
          if (qb c143) = 0 then
            some (false, upd y_seats p0.toNatClampNeg (y_nexts (p0 - 1).toNatClampNeg), upd y_nexts p0.toNatClampNeg ((y_nexts (p0 - 1).toNatClampNeg) + 1), upd y_aheads p0.toNatClampNeg c122)
          else
            if p0 ≤ 1 then
              F_X1_layPlace_b182 l_count l_waters l_sides y_size (upd y_seats p0.toNatClampNeg (y_nexts (p0 - 1).toNatClampNeg)) (upd y_nexts p0.toNatClampNeg ((y_nexts (p0 - 1).toNatClampNeg) + 1)) (upd y_aheads p0.toNatClampNeg c122) p0 (y_nexts (p0 - 1).toNatClampNeg)
            else
              ck (inb (p0 - 1) 9) <|
              if ((upd y_seats p0.toNatClampNeg (y_nexts (p0 - 1).toNatClampNeg)) (p0 - 1).toNatClampNeg) = (-2) then
                F_X1_layPlace_b182 l_count l_waters l_sides y_size (upd y_seats p0.toNatClampNeg (y_nexts (p0 - 1).toNatClampNeg)) (upd y_nexts p0.toNatClampNeg ((y_nexts (p0 - 1).toNatClampNeg) + 1)) (upd y_aheads p0.toNatClampNeg c122) p0 (y_nexts (p0 - 1).toNatClampNeg)
              else
                (F_X2_clashes l_count l_ties (y_nexts (p0 - 1).toNatClampNeg)).bind fun c174 =>
                if (qb c174) = 0 then
                  F_X1_layPlace_b182 l_count l_waters l_sides y_size (upd y_seats p0.toNatClampNeg (y_nexts (p0 - 1).toNatClampNeg)) (upd y_nexts p0.toNatClampNeg ((y_nexts (p0 - 1).toNatClampNeg) + 1)) (upd y_aheads p0.toNatClampNeg c122) p0 (y_nexts (p0 - 1).toNatClampNeg)
                else
                  some (false, upd y_seats p0.toNatClampNeg (y_nexts (p0 - 1).toNatClampNeg), upd y_nexts p0.toNatClampNeg ((y_nexts (p0 - 1).toNatClampNeg) + 1), upd y_aheads p0.toNatClampNeg c122)
      else
        ck (inb p0 9) <|
        ck (inb p0 9) <|
        ck (inb (p0 - 1) 9) <|
        ck (inb p0 9) <|
        if 4 < (p0 - ((y_nexts (p0 - 1).toNatClampNeg) - y_first)) then
          some (false, upd y_seats p0.toNatClampNeg (-2), upd y_nexts p0.toNatClampNeg (y_nexts (p0 - 1).toNatClampNeg), upd y_aheads p0.toNatClampNeg (y_aheads (p0 - 1).toNatClampNeg))
        else
          some (true, upd y_seats p0.toNatClampNeg (-2), upd y_nexts p0.toNatClampNeg (y_nexts (p0 - 1).toNatClampNeg), upd y_aheads p0.toNatClampNeg (y_aheads (p0 - 1).toNatClampNeg))
    else
      some (false, y_seats, y_nexts, y_aheads)
def F_X1_layMask_b26 (l_count : Int32) (l_numbers : Nat → Int32) (l_spots : Nat → Int32) (l_waters : Nat → Int32) (l_sides : Nat → Int32) (l_ties : Nat → Int32) (l_signed : Int32) (y_first : Int32) (y_last : Int32) (y_size : Int32) (y_mask : Int32) : Nat → (Nat → Int32) → (Nat → Int32) → (Nat → Int32) → Int32 → Option (Int32 × (Nat → Int32) × (Nat → Int32) × (Nat → Int32))
  | 0, _, _, _, _ => none
  | n + 1, y_seats, y_nexts, y_aheads, x2 =>
    if y_size < x2 then
      if y_last = (-1) then
        ck (inb y_size 9) <|
        if (y_nexts y_size.toNatClampNeg) ≤ y_first then
          some (-y_size, y_seats, y_nexts, y_aheads)
        else
          some (y_size, y_seats, y_nexts, y_aheads)
      else
        some (-y_size, y_seats, y_nexts, y_aheads)
    else
      (F_X1_layPlace l_count l_numbers l_spots l_waters l_sides l_ties l_signed y_first y_seats y_nexts y_aheads y_size y_mask x2).bind fun c36 =>
      if (qb c36.1) = 0 then
        some (-x2, c36.2.1, c36.2.2.1, c36.2.2.2)
      else
        if y_last = (-1) then
          F_X1_layMask_b26 l_count l_numbers l_spots l_waters l_sides l_ties l_signed y_first y_last y_size y_mask n c36.2.1 c36.2.2.1 c36.2.2.2 (x2 + 1)
        else
          ck (inb x2 9) <|
          if (c36.2.2.1 x2.toNatClampNeg) ≤ y_last then
            F_X1_layMask_b26 l_count l_numbers l_spots l_waters l_sides l_ties l_signed y_first y_last y_size y_mask n c36.2.1 c36.2.2.1 c36.2.2.2 (x2 + 1)
          else
            some (x2, c36.2.1, c36.2.2.1, c36.2.2.2)
def F_X1_layMask (l_count : Int32) (l_numbers : Nat → Int32) (l_spots : Nat → Int32) (l_waters : Nat → Int32) (l_sides : Nat → Int32) (l_ties : Nat → Int32) (l_signed : Int32) (y_first : Int32) (y_last : Int32) (y_seats : Nat → Int32) (y_nexts : Nat → Int32) (y_aheads : Nat → Int32) (y_size : Int32) (y_mask : Int32) : Option (Int32 × (Nat → Int32) × (Nat → Int32) × (Nat → Int32)) :=
  if y_mask = 0 then
    F_X1_layMask_b26 l_count l_numbers l_spots l_waters l_sides l_ties l_signed y_first y_last y_size y_mask FU y_seats y_nexts y_aheads 1
  else
    (F_J6_numberOfTrailingZeros_0f7a4 y_mask).bind fun c19 =>
    F_X1_layMask_b26 l_count l_numbers l_spots l_waters l_sides l_ties l_signed y_first y_last y_size y_mask FU y_seats y_nexts y_aheads (y_size - c19)
def F_X1_advance_b45 (l_count : Int32) (l_numbers : Nat → Int32) (l_spots : Nat → Int32) (l_waters : Nat → Int32) (l_sides : Nat → Int32) (l_ties : Nat → Int32) (l_sizes : Int32) (l_signed : Int32) (y_first : Int32) (y_last : Int32) (k2 : Int32 → Int32 → (Nat → Int32) → (Nat → Int32) → (Nat → Int32) → Int32 → Int32 → Int32 → Int32 → Int32 → Int32 → Option (Bool × Int32 × Int32 × (Nat → Int32) × (Nat → Int32) × (Nat → Int32) × Int32 × Int32 × Int32 × Int32 × Int32)) (y_nextSize : Int32) (y_seats : Nat → Int32) (y_nexts : Nat → Int32) (y_aheads : Nat → Int32) (y_size : Int32) (y_mask : Int32) (y_things : Int32) (y_ghosts : Int32) (y_ahead : Int32) (x1 : Int32) : Option (Bool × Int32 × Int32 × (Nat → Int32) × (Nat → Int32) × (Nat → Int32) × Int32 × Int32 × Int32 × Int32 × Int32) :=
  k2 (y_nextSize + 2) 0 y_seats y_nexts y_aheads y_size y_mask y_things y_ghosts y_ahead (x1 + 1)
def F_X1_advance_b93 (l_count : Int32) (l_numbers : Nat → Int32) (l_spots : Nat → Int32) (l_waters : Nat → Int32) (l_sides : Nat → Int32) (l_ties : Nat → Int32) (l_sizes : Int32) (l_signed : Int32) (y_first : Int32) (y_last : Int32) (k2 : Int32 → Int32 → (Nat → Int32) → (Nat → Int32) → (Nat → Int32) → Int32 → Int32 → Int32 → Int32 → Int32 → Int32 → Option (Bool × Int32 × Int32 × (Nat → Int32) × (Nat → Int32) × (Nat → Int32) × Int32 × Int32 × Int32 × Int32 × Int32)) (y_nextSize : Int32) (y_nextMask : Int32) (y_seats : Nat → Int32) (y_nexts : Nat → Int32) (y_aheads : Nat → Int32) (y_size : Int32) (y_mask : Int32) (y_things : Int32) (y_ghosts : Int32) (y_ahead : Int32) (x1 : Int32) (x2 : Int32) (t0 : Int32) : Option (Bool × Int32 × Int32 × (Nat → Int32) × (Nat → Int32) × (Nat → Int32) × Int32 × Int32 × Int32 × Int32 × Int32) :=
  if t0 = 0 then
    k2 y_nextSize (y_nextMask + ((1 : Int32) <<< ((y_size - (if 0 ≤ x2 then x2 else 0 - x2)) &&& 31))) y_seats y_nexts y_aheads y_size y_mask y_things y_ghosts y_ahead (x1 + 1)
  else
    ck (inb (if 0 ≤ x2 then x2 else 0 - x2) 9) <|
    ck (inb (if 0 ≤ x2 then x2 else 0 - x2) 9) <|
    some (true, y_nextSize, y_nextMask + ((1 : Int32) <<< ((y_size - (if 0 ≤ x2 then x2 else 0 - x2)) &&& 31)), y_seats, y_nexts, y_aheads, y_size, y_mask, (y_nexts (if 0 ≤ x2 then x2 else 0 - x2).toNatClampNeg) - y_first, (if 0 ≤ x2 then x2 else 0 - x2) - ((y_nexts (if 0 ≤ x2 then x2 else 0 - x2).toNatClampNeg) - y_first), y_aheads (if 0 ≤ x2 then x2 else 0 - x2).toNatClampNeg)
def F_X1_advance_b2 (l_count : Int32) (l_numbers : Nat → Int32) (l_spots : Nat → Int32) (l_waters : Nat → Int32) (l_sides : Nat → Int32) (l_ties : Nat → Int32) (l_sizes : Int32) (l_signed : Int32) (y_first : Int32) (y_last : Int32) : Nat → Int32 → Int32 → (Nat → Int32) → (Nat → Int32) → (Nat → Int32) → Int32 → Int32 → Int32 → Int32 → Int32 → Int32 → Option (Bool × Int32 × Int32 × (Nat → Int32) × (Nat → Int32) × (Nat → Int32) × Int32 × Int32 × Int32 × Int32 × Int32)
  | 0, _, _, _, _, _, _, _, _, _, _, _ => none
  | n + 1, y_nextSize, y_nextMask, y_seats, y_nexts, y_aheads, y_size, y_mask, y_things, y_ghosts, y_ahead, x1 =>
    if 1000 ≤ x1 then
      some (false, y_nextSize, y_nextMask, y_seats, y_nexts, y_aheads, y_size, y_mask, y_things, y_ghosts, y_ahead)
    else
      if 8 < y_nextSize then
        some (false, y_nextSize, y_nextMask, y_seats, y_nexts, y_aheads, y_size, y_mask, y_things, y_ghosts, y_ahead)
      else
        if ((1 : Int32) <<< (y_nextSize &&& 31)) ≤ y_nextMask then
          F_X1_advance_b45 l_count l_numbers l_spots l_waters l_sides l_ties l_sizes l_signed y_first y_last (fun y_nextSize y_nextMask y_seats y_nexts y_aheads y_size y_mask y_things y_ghosts y_ahead x1 => F_X1_advance_b2 l_count l_numbers l_spots l_waters l_sides l_ties l_sizes l_signed y_first y_last n y_nextSize y_nextMask y_seats y_nexts y_aheads y_size y_mask y_things y_ghosts y_ahead x1) y_nextSize y_seats y_nexts y_aheads y_size y_mask y_things y_ghosts y_ahead x1
        else
          (F_X2_allows l_sizes y_nextSize).bind fun c39 =>
          if (qb c39) = 0 then
            F_X1_advance_b45 l_count l_numbers l_spots l_waters l_sides l_ties l_sizes l_signed y_first y_last (fun y_nextSize y_nextMask y_seats y_nexts y_aheads y_size y_mask y_things y_ghosts y_ahead x1 => F_X1_advance_b2 l_count l_numbers l_spots l_waters l_sides l_ties l_sizes l_signed y_first y_last n y_nextSize y_nextMask y_seats y_nexts y_aheads y_size y_mask y_things y_ghosts y_ahead x1) y_nextSize y_seats y_nexts y_aheads y_size y_mask y_things y_ghosts y_ahead x1
          else
            (F_X1_layMask l_count l_numbers l_spots l_waters l_sides l_ties l_signed y_first y_last y_seats y_nexts y_aheads y_nextSize y_nextMask).bind fun c80 =>
            if c80.1 ≤ 0 then
              F_X1_advance_b93 l_count l_numbers l_spots l_waters l_sides l_ties l_sizes l_signed y_first y_last (fun y_nextSize y_nextMask y_seats y_nexts y_aheads y_size y_mask y_things y_ghosts y_ahead x1 => F_X1_advance_b2 l_count l_numbers l_spots l_waters l_sides l_ties l_sizes l_signed y_first y_last n y_nextSize y_nextMask y_seats y_nexts y_aheads y_size y_mask y_things y_ghosts y_ahead x1) y_nextSize y_nextMask c80.2.1 c80.2.2.1 c80.2.2.2 y_nextSize y_nextMask y_things y_ghosts y_ahead x1 c80.1 0
            else
              F_X1_advance_b93 l_count l_numbers l_spots l_waters l_sides l_ties l_sizes l_signed y_first y_last (fun y_nextSize y_nextMask y_seats y_nexts y_aheads y_size y_mask y_things y_ghosts y_ahead x1 => F_X1_advance_b2 l_count l_numbers l_spots l_waters l_sides l_ties l_sizes l_signed y_first y_last n y_nextSize y_nextMask y_seats y_nexts y_aheads y_size y_mask y_things y_ghosts y_ahead x1) y_nextSize y_nextMask c80.2.1 c80.2.2.1 c80.2.2.2 y_nextSize y_nextMask y_things y_ghosts y_ahead x1 c80.1 1
def F_X1_advance (l_count : Int32) (l_numbers : Nat → Int32) (l_spots : Nat → Int32) (l_waters : Nat → Int32) (l_sides : Nat → Int32) (l_ties : Nat → Int32) (l_sizes : Int32) (l_signed : Int32) (y_first : Int32) (y_last : Int32) (y_nextSize : Int32) (y_nextMask : Int32) (y_seats : Nat → Int32) (y_nexts : Nat → Int32) (y_aheads : Nat → Int32) (y_size : Int32) (y_mask : Int32) (y_things : Int32) (y_ghosts : Int32) (y_ahead : Int32) : Option (Bool × Int32 × Int32 × (Nat → Int32) × (Nat → Int32) × (Nat → Int32) × Int32 × Int32 × Int32 × Int32 × Int32) :=
  F_X1_advance_b2 l_count l_numbers l_spots l_waters l_sides l_ties l_sizes l_signed y_first y_last FU y_nextSize y_nextMask y_seats y_nexts y_aheads y_size y_mask y_things y_ghosts y_ahead 0
def F_X1_startsWithLeaf (y_size : Int32) (y_mask : Int32) : Option (Bool) :=
  (F_X7_isGhost y_mask y_size 1).bind fun c9 =>
  if (qb c9) = 0 then
    some true
  else
    some false
def F_X1_endsWithLeaf (y_size : Int32) (y_mask : Int32) : Option (Bool) :=
  (F_X7_isGhost y_mask y_size y_size).bind fun c12 =>
  if (qb c12) = 0 then
    some true
  else
    some false

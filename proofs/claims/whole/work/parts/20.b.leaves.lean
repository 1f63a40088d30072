def F_X2_allows (l_sizes : Int32) (p0 : Int32) : Option (Bool) :=
  if ((l_sizes >>> (((p0 / 2) - 1) &&& 31)) &&& 1) = 0 then
    some false
  else
    some true
def F_X2_aheadBy (l_count : Int32) (l_spots : Nat → Int32) (p0 : Int32) (p1 : Int32) : Option (Int32) :=
  if p0 < 0 then
    some (-1)
  else
    if l_count ≤ p0 then
      some (-1)
    else
      ck (inb p0 30) <|
      if (l_spots p0.toNatClampNeg) = (-1) then
        some (-1)
      else
        ck (inb p0 30) <|
        if ((l_spots p0.toNatClampNeg) - (p1 - 1)) < 0 then
          some (-2)
        else
          if 56 < ((l_spots p0.toNatClampNeg) - (p1 - 1)) then
            some (-2)
          else
            if (((l_spots p0.toNatClampNeg) - (p1 - 1)) &&& 1) = 0 then
              some ((l_spots p0.toNatClampNeg) - (p1 - 1))
            else
              some (-2)
def F_X2_mayBeAt (l_count : Int32) (l_numbers : Nat → Int32) (l_signed : Int32) (p0 : Int32) (p1 : Int32) : Option (Bool) :=
  if p0 < 0 then
    some false
  else
    if p0 < l_count then
      ck (inb p0 30) <|
      if (l_numbers p0.toNatClampNeg) = 0 then
        some true
      else
        ck (inb p0 30) <|
        if (l_numbers p0.toNatClampNeg) = p1 then
          if l_signed < p1 then
            some false
          else
            some true
        else
          some false
    else
      some false
def F_X2_clashes (l_count : Int32) (l_ties : Nat → Int32) (p0 : Int32) : Option (Bool) :=
  if p0 < 0 then
    some false
  else
    if l_count ≤ p0 then
      some false
    else
      ck (inb p0 30) <|
      if (l_ties p0.toNatClampNeg) = 2 then
        some true
      else
        some false
def F_X2_mayHang_b61 (l_sides : Nat → Int32) (x1 : Int32) (x2 : Int32) : Option (Bool) :=
  ck (inb x1 30) <|
  if (l_sides x1.toNatClampNeg) = 0 then
    some true
  else
    ck (inb x1 30) <|
    ck (inb x2 30) <|
    if (l_sides x1.toNatClampNeg) = (l_sides x2.toNatClampNeg) then
      some false
    else
      some true
def F_X2_mayHang (l_count : Int32) (l_waters : Nat → Int32) (l_sides : Nat → Int32) (p0 : Int32) (p1 : Int32) : Option (Bool) :=
  if p0 < 0 then
    some true
  else
    if l_count ≤ p0 then
      some true
    else
      if p1 < 0 then
        some true
      else
        if p1 < l_count then
          ck (inb p0 30) <|
          if (l_waters p0.toNatClampNeg) = 0 then
            F_X2_mayHang_b61 l_sides p0 p1
          else
            ck (inb p1 30) <|
            if (l_waters p1.toNatClampNeg) = 0 then
              F_X2_mayHang_b61 l_sides p0 p1
            else
              ck (inb p0 30) <|
              ck (inb p1 30) <|
              if (l_waters p0.toNatClampNeg) = (l_waters p1.toNatClampNeg) then
                F_X2_mayHang_b61 l_sides p0 p1
              else
                some false
        else
          some true
def F_X2_spotOf (p0 : Int32) (p1 : Int32) : Option (Int32) :=
  if p0 ≤ 0 then
    some (-1)
  else
    if 0 < p1 then
      if (p0 - p1) < 0 then
        some (-2)
      else
        if ((p0 - p1) &&& 1) = 0 then
          some ((p0 - p1) >>> ((1 : Int32) &&& 31))
        else
          some (-2)
    else
      some (-1)
def F_X2_judge_b106 (l_nexts : Nat → Int32) (l_spots : Nat → Int32) (l_heads : Nat → Int32) (l_ties : Nat → Int32) (x1 : Int32) : Option ((Nat → Int32) × (Nat → Int32) × (Nat → Int32)) :=
  ck (inb x1 30) <|
  if x1 ≤ 0 then
    some (l_spots, l_heads, upd l_ties x1.toNatClampNeg 0)
  else
    ck (inb (x1 - 1) 30) <|
    if (l_nexts (x1 - 1).toNatClampNeg) = 0 then
      some (l_spots, l_heads, upd l_ties x1.toNatClampNeg 0)
    else
      ck (inb x1 30) <|
      if (l_heads x1.toNatClampNeg) = 0 then
        some (l_spots, l_heads, upd l_ties x1.toNatClampNeg 0)
      else
        ck (inb (x1 - 1) 30) <|
        ck (inb x1 30) <|
        if (l_nexts (x1 - 1).toNatClampNeg) = (l_heads x1.toNatClampNeg) then
          ck (inb x1 30) <|
          some (l_spots, l_heads, upd (upd l_ties x1.toNatClampNeg 0) x1.toNatClampNeg 1)
        else
          ck (inb x1 30) <|
          some (l_spots, l_heads, upd (upd l_ties x1.toNatClampNeg 0) x1.toNatClampNeg 2)
def F_X2_judge_b78 (l_nexts : Nat → Int32) (r_marks : Nat → Int32) (r_count : Int32) (l_spots : Nat → Int32) (l_heads : Nat → Int32) (l_ties : Nat → Int32) (x1 : Int32) (x3 : Int32) (x5 : Int32) : Option ((Nat → Int32) × (Nat → Int32) × (Nat → Int32)) :=
  ck (inb x1 30) <|
  (F_X5_markOf r_marks r_count (x3 + 1) 2).bind fun c94 =>
  (F_X2_spotOf c94 x5).bind fun c99 =>
  (F_X7_together (l_spots x1.toNatClampNeg) c99).bind fun c102 =>
  ck (inb x1 30) <|
  F_X2_judge_b106 l_nexts (upd l_spots x1.toNatClampNeg c102) l_heads l_ties x1
def F_X2_judge (l_count : Int32) (l_spots : Nat → Int32) (l_heads : Nat → Int32) (l_nexts : Nat → Int32) (l_ties : Nat → Int32) (r_marks : Nat → Int32) (r_rules : Nat → Int32) (r_count : Int32) (p0 : Int32) (p2 : Int32) (p3 : Int32) : Option ((Nat → Int32) × (Nat → Int32) × (Nat → Int32)) :=
  if p0 < 0 then
    some (l_spots, l_heads, l_ties)
  else
    if p0 < l_count then
      ck (inb 5 6) <|
      (F_X5_markOf r_marks r_count p2 3).bind fun c29 =>
      ck (inb p0 30) <|
      (F_X5_markOf r_marks r_count p2 2).bind fun c41 =>
      (F_X2_spotOf c41 (r_rules (5 : Int32).toNatClampNeg)).bind fun c46 =>
      ck (inb p0 30) <|
      if p3 = 0 then
        F_X2_judge_b106 l_nexts (upd l_spots p0.toNatClampNeg c46) (upd l_heads p0.toNatClampNeg c29) l_ties p0
      else
        (F_X5_markOf r_marks r_count (p2 + 1) 3).bind fun c60 =>
        if c60 ≤ 0 then
          F_X2_judge_b78 l_nexts r_marks r_count (upd l_spots p0.toNatClampNeg c46) (upd l_heads p0.toNatClampNeg c29) l_ties p0 p2 (r_rules (5 : Int32).toNatClampNeg)
        else
          ck (inb p0 30) <|
          F_X2_judge_b78 l_nexts r_marks r_count (upd l_spots p0.toNatClampNeg c46) (upd (upd l_heads p0.toNatClampNeg c29) p0.toNatClampNeg c60) l_ties p0 p2 (r_rules (5 : Int32).toNatClampNeg)
    else
      some (l_spots, l_heads, l_ties)
def F_X2_add (l_count : Int32) (l_letters : Nat → Int32) (l_numbers : Nat → Int32) (l_spots : Nat → Int32) (l_heads : Nat → Int32) (l_nexts : Nat → Int32) (l_waters : Nat → Int32) (l_sides : Nat → Int32) (l_ties : Nat → Int32) (l_lastSpotted : Int32) (r_kinds : Nat → Int32) (r_marks : Nat → Int32) (r_rules : Nat → Int32) (r_count : Int32) (p1 : Int32) : Option (Int32 × (Nat → Int32) × (Nat → Int32) × (Nat → Int32) × (Nat → Int32) × (Nat → Int32) × (Nat → Int32) × (Nat → Int32) × (Nat → Int32) × Int32) :=
  (F_X5_markOf r_marks r_count p1 0).bind fun c23 =>
  ck (inb l_count 30) <|
  (F_X5_markOf r_marks r_count p1 1).bind fun c35 =>
  ck (inb l_count 30) <|
  (F_X5_markOf r_marks r_count p1 4).bind fun c47 =>
  ck (inb l_count 30) <|
  (F_X5_markOf r_marks r_count p1 5).bind fun c59 =>
  ck (inb l_count 30) <|
  (F_X5_markOf r_marks r_count p1 6).bind fun c72 =>
  ck (inb l_count 30) <|
  (F_X5_isCancelled r_kinds r_count p1).bind fun c82 =>
  (F_X2_judge (l_count + 1) l_spots l_heads (upd l_nexts l_count.toNatClampNeg c47) l_ties r_marks r_rules r_count l_count p1 (qb c82)).bind fun c85 =>
  ck (inb l_count 30) <|
  if (c85.1 l_count.toNatClampNeg) = (-1) then
    some (l_count + 1, upd l_letters l_count.toNatClampNeg c23, upd l_numbers l_count.toNatClampNeg c35, c85.1, c85.2.1, upd l_nexts l_count.toNatClampNeg c47, upd l_waters l_count.toNatClampNeg c59, upd l_sides l_count.toNatClampNeg c72, c85.2.2, l_lastSpotted)
  else
    some (l_count + 1, upd l_letters l_count.toNatClampNeg c23, upd l_numbers l_count.toNatClampNeg c35, c85.1, c85.2.1, upd l_nexts l_count.toNatClampNeg c47, upd l_waters l_count.toNatClampNeg c59, upd l_sides l_count.toNatClampNeg c72, c85.2.2, l_count)
def F_X2_load_b42 (r_kinds : Nat → Int32) (r_marks : Nat → Int32) (r_rules : Nat → Int32) (r_count : Int32) : Nat → Int32 → (Nat → Int32) → (Nat → Int32) → (Nat → Int32) → (Nat → Int32) → (Nat → Int32) → (Nat → Int32) → (Nat → Int32) → (Nat → Int32) → Int32 → Int32 → Int32 → Int32 → Int32 → Option (Int32 × (Nat → Int32) × (Nat → Int32) × (Nat → Int32) × (Nat → Int32) × (Nat → Int32) × (Nat → Int32) × (Nat → Int32) × (Nat → Int32) × Int32 × Int32 × Int32 × Int32)
  | 0, _, _, _, _, _, _, _, _, _, _, _, _, _, _ => none
  | n + 1, l_count, l_letters, l_numbers, l_spots, l_heads, l_nexts, l_waters, l_sides, l_ties, l_lastSpotted, l_sizes, l_signed, l_letter, x2 =>
    if r_count ≤ x2 then
      some (l_count, l_letters, l_numbers, l_spots, l_heads, l_nexts, l_waters, l_sides, l_ties, l_lastSpotted, l_sizes, l_signed, l_letter)
    else
      (F_X5_hangs r_kinds r_count x2).bind fun c52 =>
      if (qb c52) = 0 then
        F_X2_load_b42 r_kinds r_marks r_rules r_count n l_count l_letters l_numbers l_spots l_heads l_nexts l_waters l_sides l_ties l_lastSpotted l_sizes l_signed l_letter (x2 + 1)
      else
        if 30 ≤ l_count then
          F_X2_load_b42 r_kinds r_marks r_rules r_count n l_count l_letters l_numbers l_spots l_heads l_nexts l_waters l_sides l_ties l_lastSpotted l_sizes l_signed l_letter (x2 + 1)
        else
          (F_X2_add l_count l_letters l_numbers l_spots l_heads l_nexts l_waters l_sides l_ties l_lastSpotted r_kinds r_marks r_rules r_count x2).bind fun c70 =>
          F_X2_load_b42 r_kinds r_marks r_rules r_count n c70.1 c70.2.1 c70.2.2.1 c70.2.2.2.1 c70.2.2.2.2.1 c70.2.2.2.2.2.1 c70.2.2.2.2.2.2.1 c70.2.2.2.2.2.2.2.1 c70.2.2.2.2.2.2.2.2.1 c70.2.2.2.2.2.2.2.2.2 l_sizes l_signed l_letter (x2 + 1)
def F_X2_load (l_count : Int32) (l_letters : Nat → Int32) (l_numbers : Nat → Int32) (l_spots : Nat → Int32) (l_heads : Nat → Int32) (l_nexts : Nat → Int32) (l_waters : Nat → Int32) (l_sides : Nat → Int32) (l_ties : Nat → Int32) (l_lastSpotted : Int32) (l_sizes : Int32) (l_signed : Int32) (l_letter : Int32) (r_kinds : Nat → Int32) (r_marks : Nat → Int32) (r_rules : Nat → Int32) (r_count : Int32) : Option (Int32 × (Nat → Int32) × (Nat → Int32) × (Nat → Int32) × (Nat → Int32) × (Nat → Int32) × (Nat → Int32) × (Nat → Int32) × (Nat → Int32) × Int32 × Int32 × Int32 × Int32) :=
  ck (inb 2 6) <|
  ck (inb 3 6) <|
  ck (inb 4 6) <|
  F_X2_load_b42 r_kinds r_marks r_rules r_count FU 0 l_letters l_numbers l_spots l_heads l_nexts l_waters l_sides l_ties (-1) (r_rules (2 : Int32).toNatClampNeg) (r_rules (3 : Int32).toNatClampNeg) (r_rules (4 : Int32).toNatClampNeg) 0
def F_X2_reach_b2 (l_count : Int32) (l_letters : Nat → Int32) (l_letter : Int32) : Nat → Int32 → Int32 → Int32 → Option (Int32)
  | 0, _, _, _ => none
  | n + 1, x1, x2, x3 =>
    if 8 ≤ x3 then
      some x3
    else
      if x1 < 0 then
        some x3
      else
        if l_count ≤ (x1 + x3) then
          some x3
        else
          ck (inb (x1 + x3) 30) <|
          if (l_letters (x1 + x3).toNatClampNeg) = 0 then
            F_X2_reach_b2 l_count l_letters l_letter n x1 x2 (x3 + 1)
          else
            ck (inb (x1 + x3) 30) <|
            if (l_letters (x1 + x3).toNatClampNeg) = (l_letter + x2) then
              F_X2_reach_b2 l_count l_letters l_letter n x1 x2 (x3 + 1)
            else
              some x3
def F_X2_reach (l_count : Int32) (l_letters : Nat → Int32) (l_letter : Int32) (p0 : Int32) (p1 : Int32) : Option (Int32) :=
  F_X2_reach_b2 l_count l_letters l_letter FU p0 p1 0
def F_X2_joins (l_count : Int32) (l_ties : Nat → Int32) (p0 : Int32) : Option (Bool) :=
  if p0 < 0 then
    some false
  else
    if l_count ≤ p0 then
      some false
    else
      ck (inb p0 30) <|
      if (l_ties p0.toNatClampNeg) = 0 then
        some false
      else
        some true

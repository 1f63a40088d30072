def F_X7_isHanging (p0 : Int32) : Option (Bool) :=
  if p0 = 1 then
    some true
  else
    if p0 = 2 then
      some true
    else
      some false
def F_X7_isGhost (p0 : Int32) (p1 : Int32) (p2 : Int32) : Option (Bool) :=
  if ((p0 >>> ((p1 - p2) &&& 31)) &&& 1) = 0 then
    some false
  else
    some true
def F_X5_has (r_count : Int32) (p0 : Int32) : Option (Bool) :=
  if p0 < 0 then
    some false
  else
    if r_count ≤ p0 then
      some false
    else
      some true
def F_X5_kindOf (r_kinds : Nat → Int32) (r_count : Int32) (p0 : Int32) : Option (Int32) :=
  (F_X5_has r_count p0).bind fun c2 =>
  if (qb c2) = 0 then
    some (-1)
  else
    ck (inb p0 30) <|
    some (r_kinds p0.toNatClampNeg)
def F_X5_markOf (r_marks : Nat → Int32) (r_count : Int32) (p0 : Int32) (p1 : Int32) : Option (Int32) :=
  (F_X5_has r_count p0).bind fun c2 =>
  if (qb c2) = 0 then
    some (-1)
  else
    if p1 < 0 then
      some (-1)
    else
      if 7 ≤ p1 then
        some (-1)
      else
        ck (inb ((p0 * 7) + p1) 210) <|
        some (r_marks ((p0 * 7) + p1).toNatClampNeg)
def F_J6_numberOfTrailingZeros_0f7a4_b62 (x0 : Int32) (x1 : Int32) : Option (Int32) :=
  if x0 ≤ 4 then
    some (x1 + ((x0.toUInt32 >>> ((1 : Int32).toUInt32 &&& Int32.toUInt32 31)).toInt32))
  else
    some ((x1 + 2) + ((((x0.toUInt32 >>> ((2 : Int32).toUInt32 &&& Int32.toUInt32 31)).toInt32).toUInt32 >>> ((1 : Int32).toUInt32 &&& Int32.toUInt32 31)).toInt32))
def F_J6_numberOfTrailingZeros_0f7a4_b49 (x0 : Int32) (x1 : Int32) : Option (Int32) :=
  if x0 ≤ 16 then
    F_J6_numberOfTrailingZeros_0f7a4_b62 x0 x1
  else
    F_J6_numberOfTrailingZeros_0f7a4_b62 ((x0.toUInt32 >>> ((4 : Int32).toUInt32 &&& Int32.toUInt32 31)).toInt32) (x1 + 4)
def F_J6_numberOfTrailingZeros_0f7a4_b34 (x0 : Int32) (x1 : Int32) : Option (Int32) :=
  if x0 ≤ 256 then
    F_J6_numberOfTrailingZeros_0f7a4_b49 x0 x1
  else
    F_J6_numberOfTrailingZeros_0f7a4_b49 ((x0.toUInt32 >>> ((8 : Int32).toUInt32 &&& Int32.toUInt32 31)).toInt32) (x1 + 8)
def F_J6_numberOfTrailingZeros_0f7a4 (p0 : Int32) : Option (Int32) :=
  if 0 < ((p0 ^^^ (-1)) &&& (p0 - 1)) then
    if ((p0 ^^^ (-1)) &&& (p0 - 1)) ≤ 65536 then
      F_J6_numberOfTrailingZeros_0f7a4_b34 ((p0 ^^^ (-1)) &&& (p0 - 1)) 1
    else
      F_J6_numberOfTrailingZeros_0f7a4_b34 ((((p0 ^^^ (-1)) &&& (p0 - 1)).toUInt32 >>> ((16 : Int32).toUInt32 &&& Int32.toUInt32 31)).toInt32) (1 + 16)
  else
    some (((p0 ^^^ (-1)) &&& (p0 - 1)) &&& 32)
def F_X7_together (p0 : Int32) (p1 : Int32) : Option (Int32) :=
  if p0 = (-1) then
    some p1
  else
    if p0 = p1 then
      some p1
    else
      if p1 = (-1) then
        some p0
      else
        some (-2)
def F_X5_hangs (r_kinds : Nat → Int32) (r_count : Int32) (p0 : Int32) : Option (Bool) :=
  (F_X5_has r_count p0).bind fun c2 =>
  if (qb c2) = 0 then
    some false
  else
    ck (inb p0 30) <|
    (F_X7_isHanging (r_kinds p0.toNatClampNeg)).bind fun c14 =>
    if (qb c14) = 0 then
      some false
    else
      some true
def F_X5_isCancelled (r_kinds : Nat → Int32) (r_count : Int32) (p0 : Int32) : Option (Bool) :=
  (F_X5_has r_count p0).bind fun c2 =>
  if (qb c2) = 0 then
    some false
  else
    (F_X5_has r_count (p0 + 1)).bind fun c12 =>
    if (qb c12) = 0 then
      some false
    else
      ck (inb p0 30) <|
      if (r_kinds p0.toNatClampNeg) = 2 then
        ck (inb (p0 + 1) 30) <|
        if (r_kinds (p0 + 1).toNatClampNeg) = 4 then
          some true
        else
          some false
      else
        some false
def F_X5_shift (r_kinds : Nat → Int32) (r_whole : Nat → Int32) (r_marks : Nat → Int32) (p0 : Int32) (p1 : Int32) : Option ((Nat → Int32) × (Nat → Int32) × (Nat → Int32)) :=
  ck (inb p0 30) <|
  ck (inb p1 30) <|
  ck (inb p0 30) <|
  ck (inb p1 30) <|
  ck (cpok (p0 * 7) (p1 * 7) 7 210 210) <|
  some (upd r_kinds p1.toNatClampNeg (r_kinds p0.toNatClampNeg), upd r_whole p1.toNatClampNeg (r_whole p0.toNatClampNeg), va_cpy r_marks r_marks (p0 * 7).toNatClampNeg (p1 * 7).toNatClampNeg (7 : Int32).toNatClampNeg)
def F_X5_insert_b74 : Nat → (Nat → Int32) → (Nat → Int32) → (Nat → Int32) → Int32 → Int32 → Int32 → Option (Int32 × (Nat → Int32) × (Nat → Int32) × (Nat → Int32) × Int32 × Bool)
  | 0, _, _, _, _, _, _ => none
  | n + 1, r_kinds, r_whole, r_marks, r_count, x1, x3 =>
    if 7 ≤ x3 then
      some (r_count + 1, r_kinds, r_whole, r_marks, r_count + 1, true)
    else
      ck (inb ((x1 * 7) + x3) 210) <|
      F_X5_insert_b74 n r_kinds r_whole (upd r_marks ((x1 * 7) + x3).toNatClampNeg 0) r_count x1 (x3 + 1)
def F_X5_insert_b38 : Nat → (Nat → Int32) → (Nat → Int32) → (Nat → Int32) → Int32 → Int32 → Int32 → Int32 → Option (Int32 × (Nat → Int32) × (Nat → Int32) × (Nat → Int32) × Int32 × Bool)
  | 0, _, _, _, _, _, _, _ => none
  | n + 1, r_kinds, r_whole, r_marks, r_count, x1, x2, x3 =>
    if x3 ≤ x1 then
      ck (inb x1 30) <|
      ck (inb x1 30) <|
      F_X5_insert_b74 FU (upd r_kinds x1.toNatClampNeg x2) (upd r_whole x1.toNatClampNeg 7) r_marks r_count x1 0
    else
      (F_X5_shift r_kinds r_whole r_marks (x3 - 1) x3).bind fun c48 =>
      F_X5_insert_b38 n c48.1 c48.2.1 c48.2.2 r_count x1 x2 (x3 + (-1))
def F_X5_insert (r_kinds : Nat → Int32) (r_whole : Nat → Int32) (r_marks : Nat → Int32) (r_count : Int32) (r_changed : Bool) (p0 : Int32) (p1 : Int32) : Option (Int32 × (Nat → Int32) × (Nat → Int32) × (Nat → Int32) × Int32 × Bool) :=
  if p0 < 0 then
    some ((-1), r_kinds, r_whole, r_marks, r_count, r_changed)
  else
    if r_count < p0 then
      some ((-1), r_kinds, r_whole, r_marks, r_count, r_changed)
    else
      if 30 ≤ r_count then
        some ((-1), r_kinds, r_whole, r_marks, r_count, r_changed)
      else
        if p1 < 1 then
          some ((-1), r_kinds, r_whole, r_marks, r_count, r_changed)
        else
          if p1 ≤ 5 then
            F_X5_insert_b38 FU r_kinds r_whole r_marks r_count p0 p1 r_count
          else
            some ((-1), r_kinds, r_whole, r_marks, r_count, r_changed)
def F_X5_remove_b14 : Nat → (Nat → Int32) → (Nat → Int32) → (Nat → Int32) → Int32 → Int32 → Option (Int32 × (Nat → Int32) × (Nat → Int32) × (Nat → Int32) × Int32 × Bool)
  | 0, _, _, _, _, _ => none
  | n + 1, r_kinds, r_whole, r_marks, r_count, x2 =>
    if r_count ≤ x2 then
      some (r_count - 1, r_kinds, r_whole, r_marks, r_count - 1, true)
    else
      (F_X5_shift r_kinds r_whole r_marks x2 (x2 - 1)).bind fun c27 =>
      F_X5_remove_b14 n c27.1 c27.2.1 c27.2.2 r_count (x2 + 1)
def F_X5_remove (r_kinds : Nat → Int32) (r_whole : Nat → Int32) (r_marks : Nat → Int32) (r_count : Int32) (r_changed : Bool) (p0 : Int32) : Option (Int32 × (Nat → Int32) × (Nat → Int32) × (Nat → Int32) × Int32 × Bool) :=
  (F_X5_has r_count p0).bind fun c2 =>
  if (qb c2) = 0 then
    some ((-1), r_kinds, r_whole, r_marks, r_count, r_changed)
  else
    F_X5_remove_b14 FU r_kinds r_whole r_marks r_count (p0 + 1)
def F_X5_setMark (r_whole : Nat → Int32) (r_marks : Nat → Int32) (r_count : Int32) (r_changed : Bool) (p0 : Int32) (p1 : Int32) (p2 : Int32) : Option (Bool × (Nat → Int32) × Bool) :=
  (F_X5_has r_count p0).bind fun c2 =>
  if (qb c2) = 0 then
    some (false, r_marks, r_changed)
  else
    if p1 < 0 then
      some (false, r_marks, r_changed)
    else
      ck (inb p0 30) <|
      if (r_whole p0.toNatClampNeg) ≤ p1 then
        some (false, r_marks, r_changed)
      else
        if p1 < 7 then
          if p2 < 0 then
            some (false, r_marks, r_changed)
          else
            ck (inb p1 7) <|
            if p2 ≤ (s_mark p1.toNatClampNeg) then
              ck (inb ((p0 * 7) + p1) 210) <|
              some (true, upd r_marks ((p0 * 7) + p1).toNatClampNeg p2, true)
            else
              some (false, r_marks, r_changed)
        else
          some (false, r_marks, r_changed)
def F_X5_tearTo_b16 : Nat → (Nat → Int32) → (Nat → Int32) → Int32 → Int32 → Int32 → Option (Int32 × (Nat → Int32) × (Nat → Int32) × Bool)
  | 0, _, _, _, _, _ => none
  | n + 1, r_whole, r_marks, x1, x2, x3 =>
    if 7 ≤ x3 then
      ck (inb x1 30) <|
      ck (inb x1 30) <|
      ck (inb x1 30) <|
      some ((upd r_whole x1.toNatClampNeg (if x2 < (r_whole x1.toNatClampNeg) then x2 else (r_whole x1.toNatClampNeg))) x1.toNatClampNeg, upd r_whole x1.toNatClampNeg (if x2 < (r_whole x1.toNatClampNeg) then x2 else (r_whole x1.toNatClampNeg)), r_marks, true)
    else
      ck (inb ((x1 * 7) + x3) 210) <|
      F_X5_tearTo_b16 n r_whole (upd r_marks ((x1 * 7) + x3).toNatClampNeg 0) x1 x2 (x3 + 1)
def F_X5_tearTo (r_whole : Nat → Int32) (r_marks : Nat → Int32) (r_count : Int32) (r_changed : Bool) (p0 : Int32) (p1 : Int32) : Option (Int32 × (Nat → Int32) × (Nat → Int32) × Bool) :=
  (F_X5_has r_count p0).bind fun c2 =>
  if (qb c2) = 0 then
    some ((-1), r_whole, r_marks, r_changed)
  else
    if 0 ≤ p1 then
      F_X5_tearTo_b16 FU r_whole r_marks p0 p1 p1
    else
      some ((-1), r_whole, r_marks, r_changed)
def F_X5_hanging_b4 (r_kinds : Nat → Int32) (r_count : Int32) : Nat → Int32 → Int32 → Option (Int32)
  | 0, _, _ => none
  | n + 1, x1, x2 =>
    if r_count ≤ x2 then
      some x1
    else
      ck (inb x2 30) <|
      (F_X7_isHanging (r_kinds x2.toNatClampNeg)).bind fun c18 =>
      if (qb c18) = 0 then
        F_X5_hanging_b4 r_kinds r_count n x1 (x2 + 1)
      else
        F_X5_hanging_b4 r_kinds r_count n (x1 + 1) (x2 + 1)
def F_X5_hanging (r_kinds : Nat → Int32) (r_count : Int32) : Option (Int32) :=
  F_X5_hanging_b4 r_kinds r_count FU 0 0
def F_X5_ruleOf (r_rules : Nat → Int32) (p0 : Int32) : Option (Int32) :=
  if p0 < 2 then
    some (-1)
  else
    if 5 < p0 then
      some (-1)
    else
      ck (inb p0 6) <|
      some (r_rules p0.toNatClampNeg)
def F_X5_setRule (r_rules : Nat → Int32) (r_changed : Bool) (p0 : Int32) (p1 : Int32) : Option (Bool × (Nat → Int32) × Bool) :=
  if p0 < 2 then
    some (false, r_rules, r_changed)
  else
    if 5 < p0 then
      some (false, r_rules, r_changed)
    else
      ck (inb p0 6) <|
      if p1 < (s_low p0.toNatClampNeg) then
        some (false, r_rules, r_changed)
      else
        ck (inb p0 6) <|
        if p1 ≤ (s_top p0.toNatClampNeg) then
          ck (inb p0 6) <|
          some (true, upd r_rules p0.toNatClampNeg p1, true)
        else
          some (false, r_rules, r_changed)

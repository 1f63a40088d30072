def F_X6_signAt (t_bytes : Nat → Int32) (t_length : Int32) (p0 : Int32) : Option (Int32) :=
  if p0 < 0 then
    some (-1)
  else
    if t_length ≤ p0 then
      some (-1)
    else
      if 400 ≤ p0 then
        some (-1)
      else
        ck (inb p0 400) <|
        some (t_bytes p0.toNatClampNeg)
def F_X6_add (t_bytes : Nat → Int32) (t_length : Int32) (p0 : Int32) : Option ((Nat → Int32) × Int32) :=
  if t_length < 0 then
    some (t_bytes, t_length)
  else
    if 400 ≤ t_length then
      some (t_bytes, t_length)
    else
      ck (inb t_length 400) <|
      some (upd t_bytes t_length.toNatClampNeg p0, t_length + 1)
def F_X6_addInt (t_bytes : Nat → Int32) (t_length : Int32) (p0 : Int32) : Option ((Nat → Int32) × Int32) :=
  (F_X6_add t_bytes t_length (((p0.toUInt32 >>> ((24 : Int32).toUInt32 &&& Int32.toUInt32 31)).toInt32) &&& 255)).bind fun c9 =>
  (F_X6_add c9.1 c9.2 (((p0.toUInt32 >>> ((16 : Int32).toUInt32 &&& Int32.toUInt32 31)).toInt32) &&& 255)).bind fun c21 =>
  (F_X6_add c21.1 c21.2 (((p0.toUInt32 >>> ((8 : Int32).toUInt32 &&& Int32.toUInt32 31)).toInt32) &&& 255)).bind fun c33 =>
  (F_X6_add c33.1 c33.2 (p0 &&& 255)).bind fun c42 =>
  some (c42.1, c42.2)
def F_X6_become (t_bytes : Nat → Int32) (t_length : Int32) (o_bytes : Nat → Int32) (o_length : Int32) : Option ((Nat → Int32) × Int32) :=
  ck (cpok 0 0 400 400 400) <|
  some (va_cpy o_bytes t_bytes (0 : Int32).toNatClampNeg (0 : Int32).toNatClampNeg (400 : Int32).toNatClampNeg, o_length)
def F_X6_isPlain_b24 (f_quires : Int32) (f_things : Int32) (f_sizes : Nat → Int32) (f_cells : Nat → Int32) (f_kinds : Nat → Int32) : Nat → Int32 → Int32 → Option (Bool)
  | 0, _, _ => none
  | n + 1, x1, x2 =>
    ck (inb x1 8) <|
    if (f_sizes x1.toNatClampNeg) < x2 then
      some true
    else
      (F_X0_thingAt f_quires f_sizes f_cells x1 x2).bind fun c37 =>
      (F_X0_hangs f_things f_kinds c37).bind fun c43 =>
      if (qb c43) = 0 then
        some false
      else
        ck (inb c37 30) <|
        if (f_kinds c37.toNatClampNeg) = 1 then
          (F_X0_isLoose f_things f_kinds (c37 + 1)).bind fun c63 =>
          if (qb c63) = 0 then
            F_X6_isPlain_b24 f_quires f_things f_sizes f_cells f_kinds n x1 (x2 + 1)
          else
            some false
        else
          some false
def F_X6_isPlain (f_quires : Int32) (f_things : Int32) (f_sizes : Nat → Int32) (f_cells : Nat → Int32) (f_kinds : Nat → Int32) (p1 : Int32) : Option (Bool) :=
  (F_X0_hasQuire f_quires p1).bind fun c2 =>
  if (qb c2) = 0 then
    some false
  else
    if p1 = 0 then
      (F_X0_isLoose f_things f_kinds 0).bind fun c14 =>
      if (qb c14) = 0 then
        F_X6_isPlain_b24 f_quires f_things f_sizes f_cells f_kinds FU p1 1
      else
        some false
    else
      F_X6_isPlain_b24 f_quires f_things f_sizes f_cells f_kinds FU p1 1
def F_X6_plainRun_b2 (f_quires : Int32) (f_things : Int32) (f_sizes : Nat → Int32) (f_cells : Nat → Int32) (f_kinds : Nat → Int32) : Nat → Int32 → Int32 → Option (Int32)
  | 0, _, _ => none
  | n + 1, x1, x2 =>
    if 8 ≤ (x1 + x2) then
      some x2
    else
      (F_X6_isPlain f_quires f_things f_sizes f_cells f_kinds (x1 + x2)).bind fun c14 =>
      if (qb c14) = 0 then
        some x2
      else
        ck (inb (x1 + x2) 8) <|
        ck (inb x1 8) <|
        if (f_sizes (x1 + x2).toNatClampNeg) = (f_sizes x1.toNatClampNeg) then
          F_X6_plainRun_b2 f_quires f_things f_sizes f_cells f_kinds n x1 (x2 + 1)
        else
          some x2
def F_X6_plainRun (f_quires : Int32) (f_things : Int32) (f_sizes : Nat → Int32) (f_cells : Nat → Int32) (f_kinds : Nat → Int32) (p1 : Int32) : Option (Int32) :=
  F_X6_plainRun_b2 f_quires f_things f_sizes f_cells f_kinds FU p1 0
def F_X6_addLetters (t_bytes : Nat → Int32) (t_length : Int32) (p0 : Int32) : Option ((Nat → Int32) × Int32) :=
  if p0 < 1 then
    some (t_bytes, t_length)
  else
    if p0 ≤ 46 then
      ck (inb ((p0 - 1) - (p0 - 1) / 23 * 23) 23) <|
      (F_X6_add t_bytes t_length (s_abc ((p0 - 1) - (p0 - 1) / 23 * 23).toNatClampNeg)).bind fun c25 =>
      if p0 ≤ 23 then
        some (c25.1, c25.2)
      else
        (F_X6_add c25.1 c25.2 (s_abc ((p0 - 1) - (p0 - 1) / 23 * 23).toNatClampNeg)).bind fun c36 =>
        some (c36.1, c36.2)
    else
      some (t_bytes, t_length)
def F_X6_addItem_b15 (t_bytes : Nat → Int32) (t_length : Int32) (t_items : Int32) (x1 : Int32) (x2 : Int32) (t0 : Int32) : Option ((Nat → Int32) × Int32 × Int32) :=
  (F_X6_add t_bytes t_length t0).bind fun c15 =>
  (F_X6_add c15.1 c15.2 x1).bind fun c20 =>
  (F_X6_add c20.1 c20.2 ((48 : Int32) + x2)).bind fun c28 =>
  some (c28.1, c28.2, t_items + 1)
def F_X6_addItem (t_bytes : Nat → Int32) (t_length : Int32) (t_items : Int32) (p0 : Int32) (p1 : Int32) : Option ((Nat → Int32) × Int32 × Int32) :=
  if t_items = 0 then
    F_X6_addItem_b15 t_bytes t_length t_items p0 p1 40
  else
    F_X6_addItem_b15 t_bytes t_length t_items p0 p1 44
def F_X6_addLoose_b53 (f_things : Int32) (f_kinds : Nat → Int32) (k3 : (Nat → Int32) → Int32 → Int32 → Int32 → Int32 → Option ((Nat → Int32) × Int32 × Int32)) (t_bytes : Nat → Int32) (t_length : Int32) (t_items : Int32) (x3 : Int32) (x4 : Int32) (t0 : Int32) : Option ((Nat → Int32) × Int32 × Int32) :=
  (F_X6_addItem t_bytes t_length t_items t0 x3).bind fun c54 =>
  k3 c54.1 c54.2.1 c54.2.2 x3 (x4 + 1)
def F_X6_addLoose_b3 (f_things : Int32) (f_kinds : Nat → Int32) : Nat → (Nat → Int32) → Int32 → Int32 → Int32 → Int32 → Option ((Nat → Int32) × Int32 × Int32)
  | 0, _, _, _, _, _ => none
  | n + 1, t_bytes, t_length, t_items, x3, x4 =>
    if 30 ≤ x4 then
      some (t_bytes, t_length, t_items)
    else
      (F_X0_isLoose f_things f_kinds x4).bind fun c13 =>
      if (qb c13) = 0 then
        some (t_bytes, t_length, t_items)
      else
        ck (inb x4 30) <|
        if (f_kinds x4.toNatClampNeg) = 3 then
          F_X6_addLoose_b53 f_things f_kinds (fun t_bytes t_length t_items x3 x4 => F_X6_addLoose_b3 f_things f_kinds n t_bytes t_length t_items x3 x4) t_bytes t_length t_items x3 x4 103
        else
          if (f_kinds x4.toNatClampNeg) = 4 then
            F_X6_addLoose_b53 f_things f_kinds (fun t_bytes t_length t_items x3 x4 => F_X6_addLoose_b3 f_things f_kinds n t_bytes t_length t_items x3 x4) t_bytes t_length t_items x3 x4 107
          else
            F_X6_addLoose_b53 f_things f_kinds (fun t_bytes t_length t_items x3 x4 => F_X6_addLoose_b3 f_things f_kinds n t_bytes t_length t_items x3 x4) t_bytes t_length t_items x3 x4 112
def F_X6_addLoose (t_bytes : Nat → Int32) (t_length : Int32) (t_items : Int32) (f_things : Int32) (f_kinds : Nat → Int32) (p1 : Int32) (p2 : Int32) : Option ((Nat → Int32) × Int32 × Int32) :=
  F_X6_addLoose_b3 f_things f_kinds FU t_bytes t_length t_items p2 p1
def F_X6_addItems_b110 (t_bytes : Nat → Int32) (t_length : Int32) (t_items : Int32) : Option ((Nat → Int32) × Int32 × Int32) :=
  if t_items ≤ 0 then
    some (t_bytes, t_length, t_items)
  else
    (F_X6_add t_bytes t_length 41).bind fun c120 =>
    some (c120.1, c120.2, t_items)
def F_X6_addItems_b92 (f_quires : Int32) (f_things : Int32) (f_sizes : Nat → Int32) (f_cells : Nat → Int32) (f_kinds : Nat → Int32) (k18 : (Nat → Int32) → Int32 → Int32 → Int32 → Int32 → Option ((Nat → Int32) × Int32 × Int32)) (t_bytes : Nat → Int32) (t_length : Int32) (t_items : Int32) (x2 : Int32) (x3 : Int32) (x4 : Int32) : Option ((Nat → Int32) × Int32 × Int32) :=
  (F_X0_behind f_things f_kinds x4).bind fun c97 =>
  (F_X6_addLoose t_bytes t_length t_items f_things f_kinds c97 x3).bind fun c101 =>
  k18 c101.1 c101.2.1 c101.2.2 x2 (x3 + 1)
def F_X6_addItems_b88 (f_quires : Int32) (f_things : Int32) (f_sizes : Nat → Int32) (f_cells : Nat → Int32) (f_kinds : Nat → Int32) (k18 : (Nat → Int32) → Int32 → Int32 → Int32 → Int32 → Option ((Nat → Int32) × Int32 × Int32)) (t_bytes : Nat → Int32) (t_length : Int32) (t_items : Int32) (x2 : Int32) (x3 : Int32) (x4 : Int32) (t0 : Int32) : Option ((Nat → Int32) × Int32 × Int32) :=
  (F_X6_addItem t_bytes t_length t_items t0 x3).bind fun c89 =>
  F_X6_addItems_b92 f_quires f_things f_sizes f_cells f_kinds k18 c89.1 c89.2.1 c89.2.2 x2 x3 x4
def F_X6_addItems_b18 (f_quires : Int32) (f_things : Int32) (f_sizes : Nat → Int32) (f_cells : Nat → Int32) (f_kinds : Nat → Int32) : Nat → (Nat → Int32) → Int32 → Int32 → Int32 → Int32 → Option ((Nat → Int32) × Int32 × Int32)
  | 0, _, _, _, _, _ => none
  | n + 1, t_bytes, t_length, t_items, x2, x3 =>
    if 8 < x3 then
      F_X6_addItems_b110 t_bytes t_length t_items
    else
      (F_X0_hasPlace f_quires f_sizes x2 x3).bind fun c27 =>
      if (qb c27) = 0 then
        F_X6_addItems_b110 t_bytes t_length t_items
      else
        (F_X0_thingAt f_quires f_sizes f_cells x2 x3).bind fun c36 =>
        (F_X0_hangs f_things f_kinds c36).bind fun c44 =>
        if (qb c44) = 0 then
          (F_X6_addItem t_bytes t_length t_items 45 x3).bind fun c54 =>
          F_X6_addItems_b18 f_quires f_things f_sizes f_cells f_kinds n c54.1 c54.2.1 c54.2.2 x2 (x3 + 1)
        else
          ck (inb c36 30) <|
          if (f_kinds c36.toNatClampNeg) = 2 then
            (F_X0_isCancelled f_things f_kinds c36).bind fun c75 =>
            if (qb c75) = 0 then
              F_X6_addItems_b88 f_quires f_things f_sizes f_cells f_kinds (fun t_bytes t_length t_items x2 x3 => F_X6_addItems_b18 f_quires f_things f_sizes f_cells f_kinds n t_bytes t_length t_items x2 x3) t_bytes t_length t_items x2 x3 c36 115
            else
              F_X6_addItems_b88 f_quires f_things f_sizes f_cells f_kinds (fun t_bytes t_length t_items x2 x3 => F_X6_addItems_b18 f_quires f_things f_sizes f_cells f_kinds n t_bytes t_length t_items x2 x3) t_bytes t_length t_items x2 x3 c36 99
          else
            F_X6_addItems_b92 f_quires f_things f_sizes f_cells f_kinds (fun t_bytes t_length t_items x2 x3 => F_X6_addItems_b18 f_quires f_things f_sizes f_cells f_kinds n t_bytes t_length t_items x2 x3) t_bytes t_length t_items x2 x3 c36
def F_X6_addItems (t_bytes : Nat → Int32) (t_length : Int32) (t_items : Int32) (f_quires : Int32) (f_things : Int32) (f_sizes : Nat → Int32) (f_cells : Nat → Int32) (f_kinds : Nat → Int32) (p1 : Int32) : Option ((Nat → Int32) × Int32 × Int32) :=
  if p1 = 0 then
    (F_X6_addLoose t_bytes t_length 0 f_things f_kinds 0 0).bind fun c13 =>
    F_X6_addItems_b18 f_quires f_things f_sizes f_cells f_kinds FU c13.1 c13.2.1 c13.2.2 p1 1
  else
    F_X6_addItems_b18 f_quires f_things f_sizes f_cells f_kinds FU t_bytes t_length 0 p1 1
def F_X6_writeFormula_b31 (f_quires : Int32) (f_things : Int32) (f_letter : Int32) (f_sizes : Nat → Int32) (f_cells : Nat → Int32) (f_kinds : Nat → Int32) (k7 : (Nat → Int32) → Int32 → Int32 → Int32 → Option ((Nat → Int32) × Int32 × Int32)) (t_bytes : Nat → Int32) (t_length : Int32) (t_items : Int32) (x2 : Int32) : Option ((Nat → Int32) × Int32 × Int32) :=
  (F_X6_plainRun f_quires f_things f_sizes f_cells f_kinds x2).bind fun c33 =>
  (F_X6_addLetters t_bytes t_length (f_letter + x2)).bind fun c44 =>
  if c33 < 3 then
    ck (inb x2 8) <|
    (F_X6_add c44.1 c44.2 ((48 : Int32) + (f_sizes x2.toNatClampNeg))).bind fun c102 =>
    (F_X6_addItems c102.1 c102.2 t_items f_quires f_things f_sizes f_cells f_kinds x2).bind fun c108 =>
    k7 c108.1 c108.2.1 c108.2.2 (x2 + 1)
  else
    (F_X6_add c44.1 c44.2 45).bind fun c55 =>
    (F_X6_addLetters c55.1 c55.2 (((f_letter + x2) + c33) - 1)).bind fun c69 =>
    ck (inb x2 8) <|
    (F_X6_add c69.1 c69.2 ((48 : Int32) + (f_sizes x2.toNatClampNeg))).bind fun c82 =>
    k7 c82.1 c82.2 t_items (x2 + c33)
def F_X6_writeFormula_b7 (f_quires : Int32) (f_things : Int32) (f_letter : Int32) (f_sizes : Nat → Int32) (f_cells : Nat → Int32) (f_kinds : Nat → Int32) : Nat → (Nat → Int32) → Int32 → Int32 → Int32 → Option ((Nat → Int32) × Int32 × Int32)
  | 0, _, _, _, _ => none
  | n + 1, t_bytes, t_length, t_items, x2 =>
    if f_quires ≤ x2 then
      some (t_bytes, t_length, t_items)
    else
      if 8 ≤ x2 then
        some (t_bytes, t_length, t_items)
      else
        if x2 ≤ 0 then
          F_X6_writeFormula_b31 f_quires f_things f_letter f_sizes f_cells f_kinds (fun t_bytes t_length t_items x2 => F_X6_writeFormula_b7 f_quires f_things f_letter f_sizes f_cells f_kinds n t_bytes t_length t_items x2) t_bytes t_length t_items x2
        else
          (F_X6_add t_bytes t_length 32).bind fun c28 =>
          F_X6_writeFormula_b31 f_quires f_things f_letter f_sizes f_cells f_kinds (fun t_bytes t_length t_items x2 => F_X6_writeFormula_b7 f_quires f_things f_letter f_sizes f_cells f_kinds n t_bytes t_length t_items x2) c28.1 c28.2 t_items x2
def F_X6_writeFormula (t_bytes : Nat → Int32) (t_length : Int32) (t_items : Int32) (f_quires : Int32) (f_things : Int32) (f_letter : Int32) (f_sizes : Nat → Int32) (f_cells : Nat → Int32) (f_kinds : Nat → Int32) : Option ((Nat → Int32) × Int32 × Int32) :=
  F_X6_writeFormula_b7 f_quires f_things f_letter f_sizes f_cells f_kinds FU t_bytes 0 t_items 0

def F_X8_isRow (p0 : Int32) : Option (Bool) :=
  if p0 < 0 then
    some false
  else
    if 6 ≤ p0 then
      some false
    else
      some true
def F_X8_isThing (m_many : Nat → Int32) (p0 : Int32) (p1 : Int32) : Option (Bool) :=
  (F_X8_isRow p0).bind fun c2 =>
  if (qb c2) = 0 then
    some false
  else
    if p1 < 0 then
      some false
    else
      ck (inb p0 6) <|
      if (m_many p0.toNatClampNeg) ≤ p1 then
        some false
      else
        some true
def F_X8_move_b26 : Nat → (Nat → Int32) → (Nat → Int32) → (Nat → Int32) → Int32 → Int32 → Int32 → Option ((Nat → Int32) × (Nat → Int32) × (Nat → Int32))
  | 0, _, _, _, _, _, _ => none
  | n + 1, m_kinds, m_torn, m_marks, x1, x2, x3 =>
    if 7 ≤ x3 then
      some (m_kinds, m_torn, m_marks)
    else
      ck (inb (((7 : Int32) * x1) + x3) 1260) <|
      ck (inb (((7 : Int32) * x2) + x3) 1260) <|
      F_X8_move_b26 n m_kinds m_torn (upd m_marks (((7 : Int32) * x2) + x3).toNatClampNeg (m_marks (((7 : Int32) * x1) + x3).toNatClampNeg)) x1 x2 (x3 + 1)
def F_X8_move (m_kinds : Nat → Int32) (m_torn : Nat → Int32) (m_marks : Nat → Int32) (p0 : Int32) (p1 : Int32) : Option ((Nat → Int32) × (Nat → Int32) × (Nat → Int32)) :=
  ck (inb p0 180) <|
  ck (inb p1 180) <|
  ck (inb p0 180) <|
  ck (inb p1 180) <|
  F_X8_move_b26 FU (upd m_kinds p1.toNatClampNeg (m_kinds p0.toNatClampNeg)) (upd m_torn p1.toNatClampNeg (m_torn p0.toNatClampNeg)) m_marks p0 p1 0
def F_X8_put_b118 : Nat → Int32 → (Nat → Int32) → (Nat → Int32) → (Nat → Int32) → (Nat → Int32) → Int32 → Int32 → Int32 → Option (Int32 × Int32 × (Nat → Int32) × (Nat → Int32) × (Nat → Int32) × (Nat → Int32))
  | 0, _, _, _, _, _, _, _, _ => none
  | n + 1, m_told, m_many, m_kinds, m_torn, m_marks, x1, x4, x5 =>
    if 7 ≤ x5 then
      ck (inb x1 6) <|
      ck (inb x1 6) <|
      ck (inb x1 6) <|
      some ((upd m_many x1.toNatClampNeg ((m_many x1.toNatClampNeg) + 1)) x1.toNatClampNeg, m_told, upd m_many x1.toNatClampNeg ((m_many x1.toNatClampNeg) + 1), m_kinds, m_torn, m_marks)
    else
      ck (inb (((7 : Int32) * x4) + x5) 1260) <|
      F_X8_put_b118 n m_told m_many m_kinds m_torn (upd m_marks (((7 : Int32) * x4) + x5).toNatClampNeg 0) x1 x4 (x5 + 1)
def F_X8_put_b58 : Nat → Int32 → (Nat → Int32) → (Nat → Int32) → (Nat → Int32) → (Nat → Int32) → Int32 → Int32 → Int32 → Int32 → Option (Int32 × Int32 × (Nat → Int32) × (Nat → Int32) × (Nat → Int32) × (Nat → Int32))
  | 0, _, _, _, _, _, _, _, _, _ => none
  | n + 1, m_told, m_many, m_kinds, m_torn, m_marks, x1, x2, x3, x4 =>
    if x4 ≤ x2 then
      ck (inb (((30 : Int32) * x1) + x2) 180) <|
      ck (inb (((30 : Int32) * x1) + x2) 180) <|
      F_X8_put_b118 FU m_told m_many (upd m_kinds (((30 : Int32) * x1) + x2).toNatClampNeg x3) (upd m_torn (((30 : Int32) * x1) + x2).toNatClampNeg 7) m_marks x1 (((30 : Int32) * x1) + x2) 0
    else
      (F_X8_move m_kinds m_torn m_marks ((((30 : Int32) * x1) + x4) - 1) (((30 : Int32) * x1) + x4)).bind fun c81 =>
      F_X8_put_b58 n m_told m_many c81.1 c81.2.1 c81.2.2 x1 x2 x3 (x4 + (-1))
def F_X8_put (m_told : Int32) (m_many : Nat → Int32) (m_kinds : Nat → Int32) (m_torn : Nat → Int32) (m_marks : Nat → Int32) (p0 : Int32) (p1 : Int32) (p2 : Int32) : Option (Int32 × Int32 × (Nat → Int32) × (Nat → Int32) × (Nat → Int32) × (Nat → Int32)) :=
  (F_X8_isRow p0).bind fun c7 =>
  if (qb c7) = 0 then
    some ((-1), 0, m_many, m_kinds, m_torn, m_marks)
  else
    if p1 < 0 then
      some ((-1), 0, m_many, m_kinds, m_torn, m_marks)
    else
      ck (inb p0 6) <|
      if (m_many p0.toNatClampNeg) < p1 then
        some ((-1), 0, m_many, m_kinds, m_torn, m_marks)
      else
        if p2 < 1 then
          some ((-1), 0, m_many, m_kinds, m_torn, m_marks)
        else
          if 5 < p2 then
            some ((-1), 0, m_many, m_kinds, m_torn, m_marks)
          else
            ck (inb p0 6) <|
            if (m_many p0.toNatClampNeg) = 30 then
              some ((-1), 0, m_many, m_kinds, m_torn, m_marks)
            else
              ck (inb p0 6) <|
              F_X8_put_b58 FU 0 m_many m_kinds m_torn m_marks p0 p1 p2 (m_many p0.toNatClampNeg)
def F_X8_gone_b32 : Nat → Int32 → (Nat → Int32) → (Nat → Int32) → (Nat → Int32) → (Nat → Int32) → Int32 → Int32 → Option (Int32 × Int32 × (Nat → Int32) × (Nat → Int32) × (Nat → Int32) × (Nat → Int32))
  | 0, _, _, _, _, _, _, _ => none
  | n + 1, m_told, m_many, m_kinds, m_torn, m_marks, x1, x3 =>
    ck (inb x1 6) <|
    if (m_many x1.toNatClampNeg) ≤ x3 then
      ck (inb x1 6) <|
      some (m_many x1.toNatClampNeg, m_told, m_many, m_kinds, m_torn, m_marks)
    else
      (F_X8_move m_kinds m_torn m_marks ((((30 : Int32) * x1) + x3) + 1) (((30 : Int32) * x1) + x3)).bind fun c57 =>
      F_X8_gone_b32 n m_told m_many c57.1 c57.2.1 c57.2.2 x1 (x3 + 1)
def F_X8_gone (m_told : Int32) (m_many : Nat → Int32) (m_kinds : Nat → Int32) (m_torn : Nat → Int32) (m_marks : Nat → Int32) (p0 : Int32) (p1 : Int32) : Option (Int32 × Int32 × (Nat → Int32) × (Nat → Int32) × (Nat → Int32) × (Nat → Int32)) :=
  (F_X8_isThing m_many p0 p1).bind fun c8 =>
  if (qb c8) = 0 then
    some ((-1), 0, m_many, m_kinds, m_torn, m_marks)
  else
    ck (inb p0 6) <|
    ck (inb p0 6) <|
    F_X8_gone_b32 FU 0 (upd m_many p0.toNatClampNeg ((m_many p0.toNatClampNeg) - 1)) m_kinds m_torn m_marks p0 p1
def F_X8_most (p0 : Int32) : Option (Int32) :=
  if p0 = 0 then
    some 46
  else
    if p0 = 1 then
      some 8
    else
      if p0 = 2 then
        some 999
      else
        if p0 = 3 then
          some 9999
        else
          if p0 = 4 then
            some 9999
          else
            if p0 = 5 then
              some 9
            else
              some 2
def F_X8_mark (m_told : Int32) (m_many : Nat → Int32) (m_torn : Nat → Int32) (m_marks : Nat → Int32) (p0 : Int32) (p1 : Int32) (p2 : Int32) (p3 : Int32) : Option (Bool × Int32 × (Nat → Int32)) :=
  (F_X8_isThing m_many p0 p1).bind fun c8 =>
  if (qb c8) = 0 then
    some (false, 0, m_marks)
  else
    if p2 < 0 then
      some (false, 0, m_marks)
    else
      if 6 < p2 then
        some (false, 0, m_marks)
      else
        if p3 < 0 then
          some (false, 0, m_marks)
        else
          (F_X8_most p2).bind fun c33 =>
          if c33 < p3 then
            some (false, 0, m_marks)
          else
            ck (inb (((30 : Int32) * p0) + p1) 180) <|
            if p2 < (m_torn (((30 : Int32) * p0) + p1).toNatClampNeg) then
              ck (inb (((7 : Int32) * (((30 : Int32) * p0) + p1)) + p2) 1260) <|
              some (true, 0, upd m_marks (((7 : Int32) * (((30 : Int32) * p0) + p1)) + p2).toNatClampNeg p3)
            else
              some (false, 0, m_marks)
def F_X8_tear_b56 : Nat → Int32 → (Nat → Int32) → (Nat → Int32) → Int32 → Int32 → Option (Int32 × Int32 × (Nat → Int32) × (Nat → Int32))
  | 0, _, _, _, _, _ => none
  | n + 1, m_told, m_torn, m_marks, x4, x5 =>
    if 7 ≤ x5 then
      ck (inb x4 180) <|
      some (m_torn x4.toNatClampNeg, m_told, m_torn, m_marks)
    else
      ck (inb (((7 : Int32) * x4) + x5) 1260) <|
      F_X8_tear_b56 n m_told m_torn (upd m_marks (((7 : Int32) * x4) + x5).toNatClampNeg 0) x4 (x5 + 1)
def F_X8_tear_b47 (m_told : Int32) (m_torn : Nat → Int32) (m_marks : Nat → Int32) (x4 : Int32) : Option (Int32 × Int32 × (Nat → Int32) × (Nat → Int32)) :=
  ck (inb x4 180) <|
  F_X8_tear_b56 FU m_told m_torn m_marks x4 (m_torn x4.toNatClampNeg)
def F_X8_tear (m_told : Int32) (m_many : Nat → Int32) (m_torn : Nat → Int32) (m_marks : Nat → Int32) (p0 : Int32) (p1 : Int32) (p2 : Int32) : Option (Int32 × Int32 × (Nat → Int32) × (Nat → Int32)) :=
  (F_X8_isThing m_many p0 p1).bind fun c8 =>
  if (qb c8) = 0 then
    some ((-1), 0, m_torn, m_marks)
  else
    if 0 ≤ p2 then
      ck (inb (((30 : Int32) * p0) + p1) 180) <|
      if (m_torn (((30 : Int32) * p0) + p1).toNatClampNeg) ≤ p2 then
        F_X8_tear_b47 0 m_torn m_marks (((30 : Int32) * p0) + p1)
      else
        ck (inb (((30 : Int32) * p0) + p1) 180) <|
        F_X8_tear_b47 0 (upd m_torn (((30 : Int32) * p0) + p1).toNatClampNeg p2) m_marks (((30 : Int32) * p0) + p1)
    else
      some ((-1), 0, m_torn, m_marks)
def F_X8_look (m_told : Int32) (m_many : Nat → Int32) (m_kinds : Nat → Int32) (m_marks : Nat → Int32) (p0 : Int32) (p1 : Int32) (p2 : Int32) : Option (Int32 × Int32) :=
  (F_X8_isThing m_many p0 p1).bind fun c8 =>
  if (qb c8) = 0 then
    some ((-1), 0)
  else
    if p2 < (-1) then
      some ((-1), 0)
    else
      if p2 ≤ 6 then
        if p2 = (-1) then
          ck (inb (((30 : Int32) * p0) + p1) 180) <|
          some (m_kinds (((30 : Int32) * p0) + p1).toNatClampNeg, 0)
        else
          ck (inb (((7 : Int32) * (((30 : Int32) * p0) + p1)) + p2) 1260) <|
          some (m_marks (((7 : Int32) * (((30 : Int32) * p0) + p1)) + p2).toNatClampNeg, 0)
      else
        some ((-1), 0)
def F_X8_isHanging (p0 : Int32) : Option (Bool) :=
  if p0 = 1 then
    some true
  else
    if p0 = 2 then
      some true
    else
      some false
def F_X8_about_b36 (m_many : Nat → Int32) (m_kinds : Nat → Int32) : Nat → Int32 → Int32 → Int32 → Int32 → Option (Int32 × Int32)
  | 0, _, _, _, _ => none
  | n + 1, m_told, x1, x3, x4 =>
    ck (inb x1 6) <|
    if (m_many x1.toNatClampNeg) ≤ x4 then
      some (x3, m_told)
    else
      ck (inb (((30 : Int32) * x1) + x4) 180) <|
      (F_X8_isHanging (m_kinds (((30 : Int32) * x1) + x4).toNatClampNeg)).bind fun c61 =>
      if (qb c61) = 0 then
        F_X8_about_b36 m_many m_kinds n m_told x1 (x3 + 0) (x4 + 1)
      else
        F_X8_about_b36 m_many m_kinds n m_told x1 (x3 + 1) (x4 + 1)
def F_X8_about (m_told : Int32) (m_many : Nat → Int32) (m_kinds : Nat → Int32) (m_sizes : Nat → Int32) (m_signed : Nat → Int32) (m_letters : Nat → Int32) (m_pages : Nat → Int32) (p0 : Int32) (p1 : Int32) : Option (Int32 × Int32) :=
  (F_X8_isRow p0).bind fun c7 =>
  if (qb c7) = 0 then
    some ((-1), 0)
  else
    if p1 = 0 then
      ck (inb p0 6) <|
      some (m_many p0.toNatClampNeg, 0)
    else
      if p1 = 1 then
        F_X8_about_b36 m_many m_kinds FU 0 p0 0 0
      else
        if p1 = 2 then
          ck (inb p0 6) <|
          some (m_sizes p0.toNatClampNeg, 0)
        else
          if p1 = 3 then
            ck (inb p0 6) <|
            some (m_signed p0.toNatClampNeg, 0)
          else
            if p1 = 4 then
              ck (inb p0 6) <|
              some (m_letters p0.toNatClampNeg, 0)
            else
              if p1 = 5 then
                ck (inb p0 6) <|
                some (m_pages p0.toNatClampNeg, 0)
              else
                some ((-1), 0)
def F_X8_rule_b75 (m_told : Int32) (m_sizes : Nat → Int32) (m_signed : Nat → Int32) (m_letters : Nat → Int32) (m_pages : Nat → Int32) (x1 : Int32) (x2 : Int32) (x3 : Int32) (x4 : Int32) (t0 : Int32) : Option (Bool × Int32 × (Nat → Int32) × (Nat → Int32) × (Nat → Int32) × (Nat → Int32)) :=
  if x3 < x4 then
    some (false, m_told, m_sizes, m_signed, m_letters, m_pages)
  else
    if x3 ≤ t0 then
      if x2 = 2 then
        ck (inb x1 6) <|
        some (true, m_told, upd m_sizes x1.toNatClampNeg x3, m_signed, m_letters, m_pages)
      else
        if x2 = 3 then
          ck (inb x1 6) <|
          some (true, m_told, m_sizes, upd m_signed x1.toNatClampNeg x3, m_letters, m_pages)
        else
          if x2 = 4 then
            ck (inb x1 6) <|
            some (true, m_told, m_sizes, m_signed, upd m_letters x1.toNatClampNeg x3, m_pages)
          else
            ck (inb x1 6) <|
            some (true, m_told, m_sizes, m_signed, m_letters, upd m_pages x1.toNatClampNeg x3)
    else
      some (false, m_told, m_sizes, m_signed, m_letters, m_pages)
def F_X8_rule_b40 (m_told : Int32) (m_sizes : Nat → Int32) (m_signed : Nat → Int32) (m_letters : Nat → Int32) (m_pages : Nat → Int32) (x1 : Int32) (x2 : Int32) (x3 : Int32) (t0 : Int32) : Option (Bool × Int32 × (Nat → Int32) × (Nat → Int32) × (Nat → Int32) × (Nat → Int32)) :=
  if x2 = 2 then
    F_X8_rule_b75 m_told m_sizes m_signed m_letters m_pages x1 x2 x3 t0 15
  else
    if x2 = 3 then
      F_X8_rule_b75 m_told m_sizes m_signed m_letters m_pages x1 x2 x3 t0 8
    else
      if x2 = 4 then
        F_X8_rule_b75 m_told m_sizes m_signed m_letters m_pages x1 x2 x3 t0 39
      else
        F_X8_rule_b75 m_told m_sizes m_signed m_letters m_pages x1 x2 x3 t0 999
def F_X8_rule (m_told : Int32) (m_sizes : Nat → Int32) (m_signed : Nat → Int32) (m_letters : Nat → Int32) (m_pages : Nat → Int32) (p0 : Int32) (p1 : Int32) (p2 : Int32) : Option (Bool × Int32 × (Nat → Int32) × (Nat → Int32) × (Nat → Int32) × (Nat → Int32)) :=
  (F_X8_isRow p0).bind fun c7 =>
  if (qb c7) = 0 then
    some (false, 0, m_sizes, m_signed, m_letters, m_pages)
  else
    if p1 < 2 then
      some (false, 0, m_sizes, m_signed, m_letters, m_pages)
    else
      if p1 ≤ 5 then
        if p1 = 2 then
          F_X8_rule_b40 0 m_sizes m_signed m_letters m_pages p0 p1 p2 1
        else
          if p1 = 4 then
            F_X8_rule_b40 0 m_sizes m_signed m_letters m_pages p0 p1 p2 1
          else
            F_X8_rule_b40 0 m_sizes m_signed m_letters m_pages p0 p1 p2 0
      else
        some (false, 0, m_sizes, m_signed, m_letters, m_pages)
def F_X8_asks_b104 (m_many : Nat → Int32) (m_kinds : Nat → Int32) (k12 : Int32 → Int32 → (Nat → Int32) → (Nat → Int32) → Int32 → Int32 → Option (Int32 × Int32 × (Nat → Int32) × (Nat → Int32))) (m_asked : Int32) (m_hung : Int32) (m_hangs : Nat → Int32) (m_cancels : Nat → Int32) (x1 : Int32) (x2 : Int32) (t0 : Int32) (t1 : Int32) : Option (Int32 × Int32 × (Nat → Int32) × (Nat → Int32)) :=
  ck (inb t1 30) <|
  k12 m_asked (m_hung + 1) m_hangs (upd m_cancels t1.toNatClampNeg t0) x1 (x2 + 1)
def F_X8_asks_b12 (m_many : Nat → Int32) (m_kinds : Nat → Int32) : Nat → Int32 → Int32 → (Nat → Int32) → (Nat → Int32) → Int32 → Int32 → Option (Int32 × Int32 × (Nat → Int32) × (Nat → Int32))
  | 0, _, _, _, _, _, _ => none
  | n + 1, m_asked, m_hung, m_hangs, m_cancels, x1, x2 =>
    ck (inb x1 6) <|
    if (m_many x1.toNatClampNeg) ≤ x2 then
      some (m_asked, m_hung, m_hangs, m_cancels)
    else
      ck (inb (((30 : Int32) * x1) + x2) 180) <|
      (F_X8_isHanging (m_kinds (((30 : Int32) * x1) + x2).toNatClampNeg)).bind fun c36 =>
      if (qb c36) = 0 then
        F_X8_asks_b12 m_many m_kinds n m_asked m_hung m_hangs m_cancels x1 (x2 + 1)
      else
        ck (inb m_hung 30) <|
        ck (inb (((30 : Int32) * x1) + x2) 180) <|
        if (m_kinds (((30 : Int32) * x1) + x2).toNatClampNeg) = 2 then
          ck (inb x1 6) <|
          if (m_many x1.toNatClampNeg) ≤ (x2 + 1) then
            F_X8_asks_b104 m_many m_kinds (fun m_asked m_hung m_hangs m_cancels x1 x2 => F_X8_asks_b12 m_many m_kinds n m_asked m_hung m_hangs m_cancels x1 x2) m_asked m_hung (upd m_hangs m_hung.toNatClampNeg (((30 : Int32) * x1) + x2)) m_cancels x1 x2 (-1) m_hung
          else
            ck (inb ((((30 : Int32) * x1) + x2) + 1) 180) <|
            if (m_kinds ((((30 : Int32) * x1) + x2) + 1).toNatClampNeg) = 4 then
              F_X8_asks_b104 m_many m_kinds (fun m_asked m_hung m_hangs m_cancels x1 x2 => F_X8_asks_b12 m_many m_kinds n m_asked m_hung m_hangs m_cancels x1 x2) m_asked m_hung (upd m_hangs m_hung.toNatClampNeg (((30 : Int32) * x1) + x2)) m_cancels x1 x2 ((((30 : Int32) * x1) + x2) + 1) m_hung
            else
              F_X8_asks_b104 m_many m_kinds (fun m_asked m_hung m_hangs m_cancels x1 x2 => F_X8_asks_b12 m_many m_kinds n m_asked m_hung m_hangs m_cancels x1 x2) m_asked m_hung (upd m_hangs m_hung.toNatClampNeg (((30 : Int32) * x1) + x2)) m_cancels x1 x2 (-1) m_hung
        else
          F_X8_asks_b104 m_many m_kinds (fun m_asked m_hung m_hangs m_cancels x1 x2 => F_X8_asks_b12 m_many m_kinds n m_asked m_hung m_hangs m_cancels x1 x2) m_asked m_hung (upd m_hangs m_hung.toNatClampNeg (((30 : Int32) * x1) + x2)) m_cancels x1 x2 (-1) m_hung
def F_X8_asks (m_many : Nat → Int32) (m_kinds : Nat → Int32) (m_asked : Int32) (m_hung : Int32) (m_hangs : Nat → Int32) (m_cancels : Nat → Int32) (p0 : Int32) : Option (Int32 × Int32 × (Nat → Int32) × (Nat → Int32)) :=
  F_X8_asks_b12 m_many m_kinds FU p0 0 m_hangs m_cancels p0 0
def F_X8_known (m_marks : Nat → Int32) (p0 : Int32) (p1 : Int32) : Option (Int32) :=
  ck (inb (((7 : Int32) * p0) + p1) 1260) <|
  some (m_marks (((7 : Int32) * p0) + p1).toNatClampNeg)
def F_X8_fits_b130 (m_marks : Nat → Int32) (m_cancels : Nat → Int32) (x1 : Int32) (x5 : Int32) (x9 : Int32) : Option (Bool) :=
  ck (inb x1 30) <|
  if (m_cancels x1.toNatClampNeg) = (-1) then
    some true
  else
    if x5 = 0 then
      some true
    else
      (F_X8_known m_marks (m_cancels x1.toNatClampNeg) 2).bind fun c153 =>
      if c153 = 0 then
        some true
      else
        (F_X8_known m_marks (m_cancels x1.toNatClampNeg) 2).bind fun c163 =>
        if c163 = x9 then
          some true
        else
          some false
def F_X8_fits_b76 (m_marks : Nat → Int32) (m_pages : Nat → Int32) (m_asked : Int32) (m_cancels : Nat → Int32) (x1 : Int32) (x4 : Int32) (x5 : Int32) (x6 : Int32) : Option (Bool) :=
  ck (inb m_asked 6) <|
  if (m_pages m_asked.toNatClampNeg) = 0 then
    some true
  else
    ck (inb m_asked 6) <|
    (F_X8_known m_marks x6 2).bind fun c110 =>
    if c110 = 0 then
      F_X8_fits_b130 m_marks m_cancels x1 x5 ((m_pages m_asked.toNatClampNeg) + ((2 : Int32) * x4))
    else
      (F_X8_known m_marks x6 2).bind fun c120 =>
      if c120 = ((m_pages m_asked.toNatClampNeg) + ((2 : Int32) * x4)) then
        F_X8_fits_b130 m_marks m_cancels x1 x5 ((m_pages m_asked.toNatClampNeg) + ((2 : Int32) * x4))
      else
        some false
def F_X8_fits_b40 (m_marks : Nat → Int32) (m_signed : Nat → Int32) (m_pages : Nat → Int32) (m_asked : Int32) (m_cancels : Nat → Int32) (x1 : Int32) (x3 : Int32) (x4 : Int32) (x5 : Int32) (x6 : Int32) : Option (Bool) :=
  (F_X8_known m_marks x6 1).bind fun c44 =>
  if c44 = 0 then
    F_X8_fits_b76 m_marks m_pages m_asked m_cancels x1 x4 x5 x6
  else
    if c44 = x3 then
      ck (inb m_asked 6) <|
      if c44 ≤ (m_signed m_asked.toNatClampNeg) then
        F_X8_fits_b76 m_marks m_pages m_asked m_cancels x1 x4 x5 x6
      else
        some false
    else
      some false
def F_X8_fits (m_marks : Nat → Int32) (m_signed : Nat → Int32) (m_letters : Nat → Int32) (m_pages : Nat → Int32) (m_asked : Int32) (m_hangs : Nat → Int32) (m_cancels : Nat → Int32) (p0 : Int32) (p1 : Int32) (p2 : Int32) (p3 : Int32) (p4 : Int32) : Option (Bool) :=
  ck (inb p0 30) <|
  (F_X8_known m_marks (m_hangs p0.toNatClampNeg) 0).bind fun c12 =>
  if c12 = 0 then
    F_X8_fits_b40 m_marks m_signed m_pages m_asked m_cancels p0 p2 p3 p4 (m_hangs p0.toNatClampNeg)
  else
    ck (inb m_asked 6) <|
    if c12 = ((m_letters m_asked.toNatClampNeg) + p1) then
      F_X8_fits_b40 m_marks m_signed m_pages m_asked m_cancels p0 p2 p3 p4 (m_hangs p0.toNatClampNeg)
    else
      some false
def F_X8_goesOn_b72 (x3 : Int32) (x4 : Int32) : Option (Bool) :=
  if x4 = 0 then
    some true
  else
    if x4 = x3 then
      some true
    else
      some false
def F_X8_goesOn (m_marks : Nat → Int32) (m_hangs : Nat → Int32) (m_cancels : Nat → Int32) (p0 : Int32) (p1 : Int32) : Option (Bool) :=
  ck (inb p0 30) <|
  (F_X8_known m_marks (m_hangs p0.toNatClampNeg) 4).bind fun c8 =>
  if c8 = 0 then
    some true
  else
    ck (inb (p0 + 1) 30) <|
    (F_X8_known m_marks (m_hangs (p0 + 1).toNatClampNeg) 3).bind fun c28 =>
    ck (inb (p0 + 1) 30) <|
    if (m_cancels (p0 + 1).toNatClampNeg) = (-1) then
      F_X8_goesOn_b72 c8 c28
    else
      if p1 = 0 then
        F_X8_goesOn_b72 c8 c28
      else
        (F_X8_known m_marks (m_cancels (p0 + 1).toNatClampNeg) 3).bind fun c57 =>
        if c57 = 0 then
          F_X8_goesOn_b72 c8 c28
        else
          (F_X8_known m_marks (m_cancels (p0 + 1).toNatClampNeg) 3).bind fun c67 =>
          F_X8_goesOn_b72 c8 c67
def F_X8_hangTogether_b52 (m_marks : Nat → Int32) (x3 : Int32) (x4 : Int32) : Option (Bool) :=
  (F_X8_known m_marks x3 6).bind fun c56 =>
  if c56 = 0 then
    some true
  else
    (F_X8_known m_marks x4 6).bind fun c67 =>
    if c67 = 0 then
      some true
    else
      (F_X8_known m_marks x3 6).bind fun c77 =>
      (F_X8_known m_marks x4 6).bind fun c85 =>
      if c77 = c85 then
        some false
      else
        some true
def F_X8_hangTogether (m_marks : Nat → Int32) (m_hangs : Nat → Int32) (p0 : Int32) (p1 : Int32) : Option (Bool) :=
  ck (inb p0 30) <|
  ck (inb p1 30) <|
  (F_X8_known m_marks (m_hangs p0.toNatClampNeg) 5).bind fun c18 =>
  if c18 = 0 then
    F_X8_hangTogether_b52 m_marks (m_hangs p0.toNatClampNeg) (m_hangs p1.toNatClampNeg)
  else
    (F_X8_known m_marks (m_hangs p1.toNatClampNeg) 5).bind fun c28 =>
    if c28 = 0 then
      F_X8_hangTogether_b52 m_marks (m_hangs p0.toNatClampNeg) (m_hangs p1.toNatClampNeg)
    else
      (F_X8_known m_marks (m_hangs p0.toNatClampNeg) 5).bind fun c37 =>
      (F_X8_known m_marks (m_hangs p1.toNatClampNeg) 5).bind fun c44 =>
      if c37 = c44 then
        F_X8_hangTogether_b52 m_marks (m_hangs p0.toNatClampNeg) (m_hangs p1.toNatClampNeg)
      else
        some false
def F_X8_agrees_b162 (m_marks : Nat → Int32) (m_signed : Nat → Int32) (m_letters : Nat → Int32) (m_pages : Nat → Int32) (m_asked : Int32) (m_hangs : Nat → Int32) (m_cancels : Nat → Int32) (k10 : (Nat → Int32) → Int32 → Int32 → Int32 → Int32 → Int32 → Int32 → Int32 → Int32 → Int32 → Int32 → Option (Bool × (Nat → Int32))) (m_in : Nat → Int32) (x1 : Int32) (x3 : Int32) (x5 : Int32) (x6 : Int32) (x7 : Int32) (x8 : Int32) (x9 : Int32) (x10 : Int32) (x12 : Int32) : Option (Bool × (Nat → Int32)) :=
  k10 m_in x1 x3 x5 x6 x7 x8 x9 (x10 + 1) 1 (x12 + 1)
def F_X8_agrees_b108 (m_marks : Nat → Int32) (m_signed : Nat → Int32) (m_letters : Nat → Int32) (m_pages : Nat → Int32) (m_asked : Int32) (m_hangs : Nat → Int32) (m_cancels : Nat → Int32) (k10 : (Nat → Int32) → Int32 → Int32 → Int32 → Int32 → Int32 → Int32 → Int32 → Int32 → Int32 → Int32 → Option (Bool × (Nat → Int32))) (m_in : Nat → Int32) (x1 : Int32) (x3 : Int32) (x5 : Int32) (x6 : Int32) (x7 : Int32) (x8 : Int32) (x9 : Int32) (x10 : Int32) (x12 : Int32) : Option (Bool × (Nat → Int32)) :=
  ck (inb x12 9) <|
  if x12 ≤ ((x5 + 1) - x12) then
    F_X8_agrees_b162 m_marks m_signed m_letters m_pages m_asked m_hangs m_cancels k10 (upd m_in x12.toNatClampNeg x10) x1 x3 x5 x6 x7 x8 x9 x10 x12
  else
    ck (inb ((x5 + 1) - x12) 9) <|
    if ((upd m_in x12.toNatClampNeg x10) ((x5 + 1) - x12).toNatClampNeg) = (-1) then
      F_X8_agrees_b162 m_marks m_signed m_letters m_pages m_asked m_hangs m_cancels k10 (upd m_in x12.toNatClampNeg x10) x1 x3 x5 x6 x7 x8 x9 x10 x12
    else
      ck (inb ((x5 + 1) - x12) 9) <|
      (F_X8_hangTogether m_marks m_hangs ((upd m_in x12.toNatClampNeg x10) ((x5 + 1) - x12).toNatClampNeg) x10).bind fun c154 =>
      if (qb c154) = 0 then
        some (false, upd m_in x12.toNatClampNeg x10)
      else
        F_X8_agrees_b162 m_marks m_signed m_letters m_pages m_asked m_hangs m_cancels k10 (upd m_in x12.toNatClampNeg x10) x1 x3 x5 x6 x7 x8 x9 x10 x12
def F_X8_agrees_b64 (m_marks : Nat → Int32) (m_signed : Nat → Int32) (m_letters : Nat → Int32) (m_pages : Nat → Int32) (m_asked : Int32) (m_hangs : Nat → Int32) (m_cancels : Nat → Int32) (k10 : (Nat → Int32) → Int32 → Int32 → Int32 → Int32 → Int32 → Int32 → Int32 → Int32 → Int32 → Int32 → Option (Bool × (Nat → Int32))) (m_in : Nat → Int32) (x1 : Int32) (x3 : Int32) (x5 : Int32) (x6 : Int32) (x7 : Int32) (x8 : Int32) (x9 : Int32) (x10 : Int32) (x11 : Int32) (x12 : Int32) (t0 : Int32) : Option (Bool × (Nat → Int32)) :=
  (F_X8_fits m_marks m_signed m_letters m_pages m_asked m_hangs m_cancels x10 x1 x12 ((x3 + x12) - 1) t0).bind fun c80 =>
  if (qb c80) = 0 then
    some (false, m_in)
  else
    if x11 = 0 then
      F_X8_agrees_b108 m_marks m_signed m_letters m_pages m_asked m_hangs m_cancels k10 m_in x1 x3 x5 x6 x7 x8 x9 x10 x12
    else
      (F_X8_goesOn m_marks m_hangs m_cancels (x10 - 1) t0).bind fun c100 =>
      if (qb c100) = 0 then
        some (false, m_in)
      else
        F_X8_agrees_b108 m_marks m_signed m_letters m_pages m_asked m_hangs m_cancels k10 m_in x1 x3 x5 x6 x7 x8 x9 x10 x12
def F_X8_agrees_b10 (m_marks : Nat → Int32) (m_signed : Nat → Int32) (m_letters : Nat → Int32) (m_pages : Nat → Int32) (m_asked : Int32) (m_hangs : Nat → Int32) (m_cancels : Nat → Int32) : Nat → (Nat → Int32) → Int32 → Int32 → Int32 → Int32 → Int32 → Int32 → Int32 → Int32 → Int32 → Int32 → Option (Bool × (Nat → Int32))
  | 0, _, _, _, _, _, _, _, _, _, _, _ => none
  | n + 1, m_in, x1, x3, x5, x6, x7, x8, x9, x10, x11, x12 =>
    if x6 < x12 then
      some (true, m_in)
    else
      ck (inb x12 9) <|
      if ((x7 >>> ((x6 - x12) &&& 31)) &&& 1) = 1 then
        F_X8_agrees_b10 m_marks m_signed m_letters m_pages m_asked m_hangs m_cancels n (upd m_in x12.toNatClampNeg (-1)) x1 x3 x5 x6 x7 x8 x9 x10 0 (x12 + 1)
      else
        if x9 = 0 then
          if (x8 - 1) ≤ x10 then
            F_X8_agrees_b64 m_marks m_signed m_letters m_pages m_asked m_hangs m_cancels (fun m_in x1 x3 x5 x6 x7 x8 x9 x10 x11 x12 => F_X8_agrees_b10 m_marks m_signed m_letters m_pages m_asked m_hangs m_cancels n m_in x1 x3 x5 x6 x7 x8 x9 x10 x11 x12) (upd m_in x12.toNatClampNeg (-1)) x1 x3 x5 x6 x7 x8 x9 x10 x11 x12 0
          else
            F_X8_agrees_b64 m_marks m_signed m_letters m_pages m_asked m_hangs m_cancels (fun m_in x1 x3 x5 x6 x7 x8 x9 x10 x11 x12 => F_X8_agrees_b10 m_marks m_signed m_letters m_pages m_asked m_hangs m_cancels n m_in x1 x3 x5 x6 x7 x8 x9 x10 x11 x12) (upd m_in x12.toNatClampNeg (-1)) x1 x3 x5 x6 x7 x8 x9 x10 x11 x12 1
        else
          F_X8_agrees_b64 m_marks m_signed m_letters m_pages m_asked m_hangs m_cancels (fun m_in x1 x3 x5 x6 x7 x8 x9 x10 x11 x12 => F_X8_agrees_b10 m_marks m_signed m_letters m_pages m_asked m_hangs m_cancels n m_in x1 x3 x5 x6 x7 x8 x9 x10 x11 x12) (upd m_in x12.toNatClampNeg (-1)) x1 x3 x5 x6 x7 x8 x9 x10 x11 x12 1
def F_X8_agrees (m_marks : Nat → Int32) (m_signed : Nat → Int32) (m_letters : Nat → Int32) (m_pages : Nat → Int32) (m_asked : Int32) (m_hangs : Nat → Int32) (m_cancels : Nat → Int32) (m_in : Nat → Int32) (p0 : Int32) (p1 : Int32) (p2 : Int32) (p3 : Int32) (p4 : Int32) (p5 : Int32) (p6 : Int32) (p7 : Int32) (p8 : Int32) : Option (Bool × (Nat → Int32)) :=
  F_X8_agrees_b10 m_marks m_signed m_letters m_pages m_asked m_hangs m_cancels FU m_in p0 p2 p4 p5 p6 p7 p8 p1 p3 1
def F_X8_ones_b4 : Nat → Int32 → Int32 → Option (Int32)
  | 0, _, _ => none
  | n + 1, x2, x3 =>
    if x3 = 0 then
      some x2
    else
      F_X8_ones_b4 n (x2 + 1) (x3 &&& (x3 - 1))
def F_X8_ones (p0 : Int32) : Option (Int32) :=
  F_X8_ones_b4 FU 0 p0
def F_X8_state (p0 : Int32) (p1 : Int32) (p2 : Int32) (p3 : Int32) : Option (Int32) :=
  some (((2 : Int32) * (((33 : Int32) * (((31 : Int32) * p0) + p1)) + p2)) + p3)
def F_X8_has (m_sizes : Nat → Int32) (m_asked : Int32) (p0 : Int32) : Option (Bool) :=
  ck (inb m_asked 6) <|
  if (((m_sizes m_asked.toNatClampNeg) >>> (((p0 / 2) - 1) &&& 31)) &&& 1) = 1 then
    some true
  else
    some false
def F_X8_isQuire_b56 (m_marks : Nat → Int32) (m_signed : Nat → Int32) (m_letters : Nat → Int32) (m_pages : Nat → Int32) (m_asked : Int32) (m_hung : Int32) (m_hangs : Nat → Int32) (m_cancels : Nat → Int32) (m_in : Nat → Int32) (x5 : Int32) (x6 : Int32) (t0 : Int32) (t1 : Int32) (t2 : Int32) (t3 : Int32) : Option (Bool × (Nat → Int32)) :=
  (F_X8_agrees m_marks m_signed m_letters m_pages m_asked m_hangs m_cancels m_in t3 t2 t1 t0 x5 x5 x6 m_hung 1).bind fun c67 =>
  some (c67.1, c67.2)
def F_X8_isQuire (m_marks : Nat → Int32) (m_signed : Nat → Int32) (m_letters : Nat → Int32) (m_pages : Nat → Int32) (m_asked : Int32) (m_hung : Int32) (m_hangs : Nat → Int32) (m_cancels : Nat → Int32) (m_in : Nat → Int32) (p0 : Int32) (p1 : Int32) (p2 : Int32) (p3 : Int32) (p4 : Int32) (p5 : Int32) : Option (Bool × (Nat → Int32)) :=
  (F_X8_ones p5).bind fun c5 =>
  if (p4 - c5) < 1 then
    some (false, m_in)
  else
    if 4 < (p4 - (p4 - c5)) then
      some (false, m_in)
    else
      if (p1 + (p4 - c5)) ≤ m_hung then
        if p3 = 1 then
          F_X8_isQuire_b56 m_marks m_signed m_letters m_pages m_asked m_hung m_hangs m_cancels m_in p4 p5 1 ((2 : Int32) * p2) p1 p0
        else
          F_X8_isQuire_b56 m_marks m_signed m_letters m_pages m_asked m_hung m_hangs m_cancels m_in p4 p5 0 ((2 : Int32) * p2) p1 p0
      else
        some (false, m_in)
def F_X8_behind (p0 : Int32) (p1 : Int32) (p2 : Int32) (p3 : Int32) (p4 : Int32) : Option (Int32) :=
  (F_X8_ones p4).bind fun c11 =>
  (F_X8_state (p0 + 1) ((p1 + p3) - c11) (p2 + (p3 / 2)) ((1 : Int32) - (p4 &&& 1))).bind fun c27 =>
  some c27
def F_X8_spreads_b73 (m_marks : Nat → Int32) (m_sizes : Nat → Int32) (m_signed : Nat → Int32) (m_letters : Nat → Int32) (m_pages : Nat → Int32) (m_asked : Int32) (m_hung : Int32) (m_hangs : Nat → Int32) (m_cancels : Nat → Int32) (k3 : (Nat → Int32) → (Nat → Int32) → Int32 → Int32 → Int32 → Int32 → Int32 → Option ((Nat → Int32) × (Nat → Int32))) (m_in : Nat → Int32) (m_isMet : Nat → Int32) (x1 : Int32) (x2 : Int32) (x3 : Int32) (x4 : Int32) (x5 : Int32) : Option ((Nat → Int32) × (Nat → Int32)) :=
  k3 m_in m_isMet x1 x2 x3 x4 (x5 + 2)
def F_X8_spreads_b25 (m_marks : Nat → Int32) (m_sizes : Nat → Int32) (m_signed : Nat → Int32) (m_letters : Nat → Int32) (m_pages : Nat → Int32) (m_asked : Int32) (m_hung : Int32) (m_hangs : Nat → Int32) (m_cancels : Nat → Int32) (k3 : (Nat → Int32) → (Nat → Int32) → Int32 → Int32 → Int32 → Int32 → Int32 → Option ((Nat → Int32) × (Nat → Int32))) : Nat → (Nat → Int32) → (Nat → Int32) → Int32 → Int32 → Int32 → Int32 → Int32 → Int32 → Option ((Nat → Int32) × (Nat → Int32))
  | 0, _, _, _, _, _, _, _, _ => none
  | n + 1, m_in, m_isMet, x1, x2, x3, x4, x5, x6 =>
    if ((1 : Int32) <<< (x5 &&& 31)) ≤ x6 then
      F_X8_spreads_b73 m_marks m_sizes m_signed m_letters m_pages m_asked m_hung m_hangs m_cancels k3 m_in m_isMet x1 x2 x3 x4 x5
    else
      (F_X8_isQuire m_marks m_signed m_letters m_pages m_asked m_hung m_hangs m_cancels m_in x1 x2 x3 x4 x5 x6).bind fun c44 =>
      if (qb c44.1) = 0 then
        F_X8_spreads_b25 m_marks m_sizes m_signed m_letters m_pages m_asked m_hung m_hangs m_cancels k3 n c44.2 m_isMet x1 x2 x3 x4 x5 (x6 + 1)
      else
        (F_X8_behind x1 x2 x3 x5 x6).bind fun c62 =>
        ck (inb c62 18414) <|
        F_X8_spreads_b25 m_marks m_sizes m_signed m_letters m_pages m_asked m_hung m_hangs m_cancels k3 n c44.2 (upd m_isMet c62.toNatClampNeg 1) x1 x2 x3 x4 x5 (x6 + 1)
def F_X8_spreads_b3 (m_marks : Nat → Int32) (m_sizes : Nat → Int32) (m_signed : Nat → Int32) (m_letters : Nat → Int32) (m_pages : Nat → Int32) (m_asked : Int32) (m_hung : Int32) (m_hangs : Nat → Int32) (m_cancels : Nat → Int32) : Nat → (Nat → Int32) → (Nat → Int32) → Int32 → Int32 → Int32 → Int32 → Int32 → Option ((Nat → Int32) × (Nat → Int32))
  | 0, _, _, _, _, _, _, _ => none
  | n + 1, m_in, m_isMet, x1, x2, x3, x4, x5 =>
    if 8 < x5 then
      some (m_in, m_isMet)
    else
      (F_X8_has m_sizes m_asked x5).bind fun c13 =>
      if (qb c13) = 0 then
        F_X8_spreads_b73 m_marks m_sizes m_signed m_letters m_pages m_asked m_hung m_hangs m_cancels (fun m_in m_isMet x1 x2 x3 x4 x5 => F_X8_spreads_b3 m_marks m_sizes m_signed m_letters m_pages m_asked m_hung m_hangs m_cancels n m_in m_isMet x1 x2 x3 x4 x5) m_in m_isMet x1 x2 x3 x4 x5
      else
        F_X8_spreads_b25 m_marks m_sizes m_signed m_letters m_pages m_asked m_hung m_hangs m_cancels (fun m_in m_isMet x1 x2 x3 x4 x5 => F_X8_spreads_b3 m_marks m_sizes m_signed m_letters m_pages m_asked m_hung m_hangs m_cancels n m_in m_isMet x1 x2 x3 x4 x5) FU m_in m_isMet x1 x2 x3 x4 x5 0
def F_X8_spreads (m_marks : Nat → Int32) (m_sizes : Nat → Int32) (m_signed : Nat → Int32) (m_letters : Nat → Int32) (m_pages : Nat → Int32) (m_asked : Int32) (m_hung : Int32) (m_hangs : Nat → Int32) (m_cancels : Nat → Int32) (m_in : Nat → Int32) (m_isMet : Nat → Int32) (p0 : Int32) (p1 : Int32) (p2 : Int32) (p3 : Int32) : Option ((Nat → Int32) × (Nat → Int32)) :=
  F_X8_spreads_b3 m_marks m_sizes m_signed m_letters m_pages m_asked m_hung m_hangs m_cancels FU m_in m_isMet p0 p1 p2 p3 2
def F_X8_counts_b203 (m_marks : Nat → Int32) (m_sizes : Nat → Int32) (m_signed : Nat → Int32) (m_letters : Nat → Int32) (m_pages : Nat → Int32) (m_asked : Int32) (m_hung : Int32) (m_hangs : Nat → Int32) (m_cancels : Nat → Int32) (k63 : (Nat → Int32) → (Nat → Int64) → (Nat → Int32) → Int32 → Int32 → Int32 → Int32 → Int32 → Int32 → Option ((Nat → Int32) × (Nat → Int64) × (Nat → Int32))) (m_in : Nat → Int32) (m_ways : Nat → Int64) (m_fewest : Nat → Int32) (x1 : Int32) (x2 : Int32) (x3 : Int32) (x4 : Int32) (x5 : Int32) (x6 : Int32) : Option ((Nat → Int32) × (Nat → Int64) × (Nat → Int32)) :=
  k63 m_in m_ways m_fewest x1 x2 x3 x4 x5 (x6 + 2)
def F_X8_counts_b85 (m_marks : Nat → Int32) (m_sizes : Nat → Int32) (m_signed : Nat → Int32) (m_letters : Nat → Int32) (m_pages : Nat → Int32) (m_asked : Int32) (m_hung : Int32) (m_hangs : Nat → Int32) (m_cancels : Nat → Int32) (k63 : (Nat → Int32) → (Nat → Int64) → (Nat → Int32) → Int32 → Int32 → Int32 → Int32 → Int32 → Int32 → Option ((Nat → Int32) × (Nat → Int64) × (Nat → Int32))) : Nat → (Nat → Int32) → (Nat → Int64) → (Nat → Int32) → Int32 → Int32 → Int32 → Int32 → Int32 → Int32 → Int32 → Option ((Nat → Int32) × (Nat → Int64) × (Nat → Int32))
  | 0, _, _, _, _, _, _, _, _, _, _ => none
  | n + 1, m_in, m_ways, m_fewest, x1, x2, x3, x4, x5, x6, x7 =>
    if ((1 : Int32) <<< (x6 &&& 31)) ≤ x7 then
      F_X8_counts_b203 m_marks m_sizes m_signed m_letters m_pages m_asked m_hung m_hangs m_cancels k63 m_in m_ways m_fewest x1 x2 x3 x4 x5 x6
    else
      (F_X8_isQuire m_marks m_signed m_letters m_pages m_asked m_hung m_hangs m_cancels m_in x1 x2 x3 x4 x6 x7).bind fun c104 =>
      if (qb c104.1) = 0 then
        F_X8_counts_b85 m_marks m_sizes m_signed m_letters m_pages m_asked m_hung m_hangs m_cancels k63 n c104.2 m_ways m_fewest x1 x2 x3 x4 x5 x6 (x7 + 1)
      else
        (F_X8_behind x1 x2 x3 x6 x7).bind fun c121 =>
        ck (inb x5 18414) <|
        ck (inb c121 18414) <|
        ck (inb x5 18414) <|
        ck (inb c121 18414) <|
        (F_X8_ones x7).bind fun c158 =>
        ck (inb c121 18414) <|
        if (lg_cmp ((vp_updL m_ways x5.toNatClampNeg ((m_ways x5.toNatClampNeg) + (m_ways c121.toNatClampNeg))) c121.toNatClampNeg) 0) ≤ 0 then
          F_X8_counts_b85 m_marks m_sizes m_signed m_letters m_pages m_asked m_hung m_hangs m_cancels k63 n c104.2 (vp_updL m_ways x5.toNatClampNeg ((m_ways x5.toNatClampNeg) + (m_ways c121.toNatClampNeg))) m_fewest x1 x2 x3 x4 x5 x6 (x7 + 1)
        else
          ck (inb x5 18414) <|
          if (m_fewest x5.toNatClampNeg) ≤ ((m_fewest c121.toNatClampNeg) + c158) then
            F_X8_counts_b85 m_marks m_sizes m_signed m_letters m_pages m_asked m_hung m_hangs m_cancels k63 n c104.2 (vp_updL m_ways x5.toNatClampNeg ((m_ways x5.toNatClampNeg) + (m_ways c121.toNatClampNeg))) m_fewest x1 x2 x3 x4 x5 x6 (x7 + 1)
          else
            ck (inb x5 18414) <|
            F_X8_counts_b85 m_marks m_sizes m_signed m_letters m_pages m_asked m_hung m_hangs m_cancels k63 n c104.2 (vp_updL m_ways x5.toNatClampNeg ((m_ways x5.toNatClampNeg) + (m_ways c121.toNatClampNeg))) (upd m_fewest x5.toNatClampNeg ((m_fewest c121.toNatClampNeg) + c158)) x1 x2 x3 x4 x5 x6 (x7 + 1)
def F_X8_counts_b63 (m_marks : Nat → Int32) (m_sizes : Nat → Int32) (m_signed : Nat → Int32) (m_letters : Nat → Int32) (m_pages : Nat → Int32) (m_asked : Int32) (m_hung : Int32) (m_hangs : Nat → Int32) (m_cancels : Nat → Int32) : Nat → (Nat → Int32) → (Nat → Int64) → (Nat → Int32) → Int32 → Int32 → Int32 → Int32 → Int32 → Int32 → Option ((Nat → Int32) × (Nat → Int64) × (Nat → Int32))
  | 0, _, _, _, _, _, _, _, _, _ => none
  | n + 1, m_in, m_ways, m_fewest, x1, x2, x3, x4, x5, x6 =>
    if 8 < x6 then
      some (m_in, m_ways, m_fewest)
    else
      (F_X8_has m_sizes m_asked x6).bind fun c73 =>
      if (qb c73) = 0 then
        F_X8_counts_b203 m_marks m_sizes m_signed m_letters m_pages m_asked m_hung m_hangs m_cancels (fun m_in m_ways m_fewest x1 x2 x3 x4 x5 x6 => F_X8_counts_b63 m_marks m_sizes m_signed m_letters m_pages m_asked m_hung m_hangs m_cancels n m_in m_ways m_fewest x1 x2 x3 x4 x5 x6) m_in m_ways m_fewest x1 x2 x3 x4 x5 x6
      else
        F_X8_counts_b85 m_marks m_sizes m_signed m_letters m_pages m_asked m_hung m_hangs m_cancels (fun m_in m_ways m_fewest x1 x2 x3 x4 x5 x6 => F_X8_counts_b63 m_marks m_sizes m_signed m_letters m_pages m_asked m_hung m_hangs m_cancels n m_in m_ways m_fewest x1 x2 x3 x4 x5 x6) FU m_in m_ways m_fewest x1 x2 x3 x4 x5 x6 0
def F_X8_counts_b34 (m_in : Nat → Int32) (m_ways : Nat → Int64) (m_fewest : Nat → Int32) (x1 : Int32) (x5 : Int32) (t0 : Int64) (t1 : Int32) : Option ((Nat → Int32) × (Nat → Int64) × (Nat → Int32)) :=
  ck (inb t1 18414) <|
  if x1 ≤ 0 then
    ck (inb x5 18414) <|
    some (m_in, vp_updL m_ways t1.toNatClampNeg t0, upd m_fewest x5.toNatClampNeg 100)
  else
    ck (inb x5 18414) <|
    some (m_in, vp_updL m_ways t1.toNatClampNeg t0, upd m_fewest x5.toNatClampNeg 0)
def F_X8_counts (m_marks : Nat → Int32) (m_sizes : Nat → Int32) (m_signed : Nat → Int32) (m_letters : Nat → Int32) (m_pages : Nat → Int32) (m_asked : Int32) (m_hung : Int32) (m_hangs : Nat → Int32) (m_cancels : Nat → Int32) (m_in : Nat → Int32) (m_ways : Nat → Int64) (m_fewest : Nat → Int32) (p0 : Int32) (p1 : Int32) (p2 : Int32) (p3 : Int32) : Option ((Nat → Int32) × (Nat → Int64) × (Nat → Int32)) :=
  (F_X8_state p0 p1 p2 p3).bind fun c6 =>
  if p1 = m_hung then
    if p0 ≤ 0 then
      F_X8_counts_b34 m_in m_ways m_fewest p0 c6 0 c6
    else
      F_X8_counts_b34 m_in m_ways m_fewest p0 c6 1 c6
  else
    if p0 = 8 then
      some (m_in, m_ways, m_fewest)
    else
      F_X8_counts_b63 m_marks m_sizes m_signed m_letters m_pages m_asked m_hung m_hangs m_cancels FU m_in m_ways m_fewest p0 p1 p2 p3 c6 2
def F_X8_goThrough_b177 (m_marks : Nat → Int32) (m_sizes : Nat → Int32) (m_signed : Nat → Int32) (m_letters : Nat → Int32) (m_pages : Nat → Int32) (k166 : Int32 → Int32 → (Nat → Int32) → (Nat → Int32) → (Nat → Int32) → (Nat → Int32) → (Nat → Int64) → (Nat → Int32) → Int32 → Int32 → Int32 → Option (Int32 × Int32 × (Nat → Int32) × (Nat → Int32) × (Nat → Int32) × (Nat → Int32) × (Nat → Int64) × (Nat → Int32))) : Nat → Int32 → Int32 → (Nat → Int32) → (Nat → Int32) → (Nat → Int32) → (Nat → Int32) → (Nat → Int64) → (Nat → Int32) → Int32 → Int32 → Int32 → Int32 → Option (Int32 × Int32 × (Nat → Int32) × (Nat → Int32) × (Nat → Int32) × (Nat → Int32) × (Nat → Int64) × (Nat → Int32))
  | 0, _, _, _, _, _, _, _, _, _, _, _, _ => none
  | n + 1, m_asked, m_hung, m_hangs, m_cancels, m_in, m_isMet, m_ways, m_fewest, x2, x3, x4, x5 =>
    if 2 ≤ x5 then
      k166 m_asked m_hung m_hangs m_cancels m_in m_isMet m_ways m_fewest x2 x3 (x4 + 1)
    else
      (F_X8_state x2 x3 x4 x5).bind fun c194 =>
      ck (inb c194 18414) <|
      if (m_isMet c194.toNatClampNeg) = 0 then
        F_X8_goThrough_b177 m_marks m_sizes m_signed m_letters m_pages k166 n m_asked m_hung m_hangs m_cancels m_in m_isMet m_ways m_fewest x2 x3 x4 (x5 + 1)
      else
        (F_X8_counts m_marks m_sizes m_signed m_letters m_pages m_asked m_hung m_hangs m_cancels m_in m_ways m_fewest x2 x3 x4 x5).bind fun c208 =>
        F_X8_goThrough_b177 m_marks m_sizes m_signed m_letters m_pages k166 n m_asked m_hung m_hangs m_cancels c208.1 m_isMet c208.2.1 c208.2.2 x2 x3 x4 (x5 + 1)
def F_X8_goThrough_b166 (m_marks : Nat → Int32) (m_sizes : Nat → Int32) (m_signed : Nat → Int32) (m_letters : Nat → Int32) (m_pages : Nat → Int32) (k155 : Int32 → Int32 → (Nat → Int32) → (Nat → Int32) → (Nat → Int32) → (Nat → Int32) → (Nat → Int64) → (Nat → Int32) → Int32 → Int32 → Option (Int32 × Int32 × (Nat → Int32) × (Nat → Int32) × (Nat → Int32) × (Nat → Int32) × (Nat → Int64) × (Nat → Int32))) : Nat → Int32 → Int32 → (Nat → Int32) → (Nat → Int32) → (Nat → Int32) → (Nat → Int32) → (Nat → Int64) → (Nat → Int32) → Int32 → Int32 → Int32 → Option (Int32 × Int32 × (Nat → Int32) × (Nat → Int32) × (Nat → Int32) × (Nat → Int32) × (Nat → Int64) × (Nat → Int32))
  | 0, _, _, _, _, _, _, _, _, _, _, _ => none
  | n + 1, m_asked, m_hung, m_hangs, m_cancels, m_in, m_isMet, m_ways, m_fewest, x2, x3, x4 =>
    if ((4 : Int32) * x2) < x4 then
      k155 m_asked m_hung m_hangs m_cancels m_in m_isMet m_ways m_fewest x2 (x3 + 1)
    else
      F_X8_goThrough_b177 m_marks m_sizes m_signed m_letters m_pages (fun m_asked m_hung m_hangs m_cancels m_in m_isMet m_ways m_fewest x2 x3 x4 => F_X8_goThrough_b166 m_marks m_sizes m_signed m_letters m_pages k155 n m_asked m_hung m_hangs m_cancels m_in m_isMet m_ways m_fewest x2 x3 x4) FU m_asked m_hung m_hangs m_cancels m_in m_isMet m_ways m_fewest x2 x3 x4 0
def F_X8_goThrough_b155 (m_marks : Nat → Int32) (m_sizes : Nat → Int32) (m_signed : Nat → Int32) (m_letters : Nat → Int32) (m_pages : Nat → Int32) (k149 : Int32 → Int32 → (Nat → Int32) → (Nat → Int32) → (Nat → Int32) → (Nat → Int32) → (Nat → Int64) → (Nat → Int32) → Int32 → Option (Int32 × Int32 × (Nat → Int32) × (Nat → Int32) × (Nat → Int32) × (Nat → Int32) × (Nat → Int64) × (Nat → Int32))) : Nat → Int32 → Int32 → (Nat → Int32) → (Nat → Int32) → (Nat → Int32) → (Nat → Int32) → (Nat → Int64) → (Nat → Int32) → Int32 → Int32 → Option (Int32 × Int32 × (Nat → Int32) × (Nat → Int32) × (Nat → Int32) × (Nat → Int32) × (Nat → Int64) × (Nat → Int32))
  | 0, _, _, _, _, _, _, _, _, _, _ => none
  | n + 1, m_asked, m_hung, m_hangs, m_cancels, m_in, m_isMet, m_ways, m_fewest, x2, x3 =>
    if m_hung < x3 then
      k149 m_asked m_hung m_hangs m_cancels m_in m_isMet m_ways m_fewest (x2 + (-1))
    else
      F_X8_goThrough_b166 m_marks m_sizes m_signed m_letters m_pages (fun m_asked m_hung m_hangs m_cancels m_in m_isMet m_ways m_fewest x2 x3 => F_X8_goThrough_b155 m_marks m_sizes m_signed m_letters m_pages k149 n m_asked m_hung m_hangs m_cancels m_in m_isMet m_ways m_fewest x2 x3) FU m_asked m_hung m_hangs m_cancels m_in m_isMet m_ways m_fewest x2 x3 0
def F_X8_goThrough_b149 (m_marks : Nat → Int32) (m_sizes : Nat → Int32) (m_signed : Nat → Int32) (m_letters : Nat → Int32) (m_pages : Nat → Int32) : Nat → Int32 → Int32 → (Nat → Int32) → (Nat → Int32) → (Nat → Int32) → (Nat → Int32) → (Nat → Int64) → (Nat → Int32) → Int32 → Option (Int32 × Int32 × (Nat → Int32) × (Nat → Int32) × (Nat → Int32) × (Nat → Int32) × (Nat → Int64) × (Nat → Int32))
  | 0, _, _, _, _, _, _, _, _, _ => none
  | n + 1, m_asked, m_hung, m_hangs, m_cancels, m_in, m_isMet, m_ways, m_fewest, x2 =>
    if x2 < 0 then
      some (m_asked, m_hung, m_hangs, m_cancels, m_in, m_isMet, m_ways, m_fewest)
    else
      F_X8_goThrough_b155 m_marks m_sizes m_signed m_letters m_pages (fun m_asked m_hung m_hangs m_cancels m_in m_isMet m_ways m_fewest x2 => F_X8_goThrough_b149 m_marks m_sizes m_signed m_letters m_pages n m_asked m_hung m_hangs m_cancels m_in m_isMet m_ways m_fewest x2) FU m_asked m_hung m_hangs m_cancels m_in m_isMet m_ways m_fewest x2 0
def F_X8_goThrough_b88 (m_marks : Nat → Int32) (m_sizes : Nat → Int32) (m_signed : Nat → Int32) (m_letters : Nat → Int32) (m_pages : Nat → Int32) (k77 : Int32 → Int32 → (Nat → Int32) → (Nat → Int32) → (Nat → Int32) → (Nat → Int32) → (Nat → Int64) → (Nat → Int32) → Int32 → Int32 → Int32 → Option (Int32 × Int32 × (Nat → Int32) × (Nat → Int32) × (Nat → Int32) × (Nat → Int32) × (Nat → Int64) × (Nat → Int32))) : Nat → Int32 → Int32 → (Nat → Int32) → (Nat → Int32) → (Nat → Int32) → (Nat → Int32) → (Nat → Int64) → (Nat → Int32) → Int32 → Int32 → Int32 → Int32 → Option (Int32 × Int32 × (Nat → Int32) × (Nat → Int32) × (Nat → Int32) × (Nat → Int32) × (Nat → Int64) × (Nat → Int32))
  | 0, _, _, _, _, _, _, _, _, _, _, _, _ => none
  | n + 1, m_asked, m_hung, m_hangs, m_cancels, m_in, m_isMet, m_ways, m_fewest, x2, x3, x4, x5 =>
    if 2 ≤ x5 then
      k77 m_asked m_hung m_hangs m_cancels m_in m_isMet m_ways m_fewest x2 x3 (x4 + 1)
    else
      (F_X8_state x2 x3 x4 x5).bind fun c105 =>
      ck (inb c105 18414) <|
      if (m_isMet c105.toNatClampNeg) = 0 then
        F_X8_goThrough_b88 m_marks m_sizes m_signed m_letters m_pages k77 n m_asked m_hung m_hangs m_cancels m_in m_isMet m_ways m_fewest x2 x3 x4 (x5 + 1)
      else
        (F_X8_spreads m_marks m_sizes m_signed m_letters m_pages m_asked m_hung m_hangs m_cancels m_in m_isMet x2 x3 x4 x5).bind fun c119 =>
        F_X8_goThrough_b88 m_marks m_sizes m_signed m_letters m_pages k77 n m_asked m_hung m_hangs m_cancels c119.1 c119.2 m_ways m_fewest x2 x3 x4 (x5 + 1)
def F_X8_goThrough_b77 (m_marks : Nat → Int32) (m_sizes : Nat → Int32) (m_signed : Nat → Int32) (m_letters : Nat → Int32) (m_pages : Nat → Int32) (k66 : Int32 → Int32 → (Nat → Int32) → (Nat → Int32) → (Nat → Int32) → (Nat → Int32) → (Nat → Int64) → (Nat → Int32) → Int32 → Int32 → Option (Int32 × Int32 × (Nat → Int32) × (Nat → Int32) × (Nat → Int32) × (Nat → Int32) × (Nat → Int64) × (Nat → Int32))) : Nat → Int32 → Int32 → (Nat → Int32) → (Nat → Int32) → (Nat → Int32) → (Nat → Int32) → (Nat → Int64) → (Nat → Int32) → Int32 → Int32 → Int32 → Option (Int32 × Int32 × (Nat → Int32) × (Nat → Int32) × (Nat → Int32) × (Nat → Int32) × (Nat → Int64) × (Nat → Int32))
  | 0, _, _, _, _, _, _, _, _, _, _, _ => none
  | n + 1, m_asked, m_hung, m_hangs, m_cancels, m_in, m_isMet, m_ways, m_fewest, x2, x3, x4 =>
    if ((4 : Int32) * x2) < x4 then
      k66 m_asked m_hung m_hangs m_cancels m_in m_isMet m_ways m_fewest x2 (x3 + 1)
    else
      F_X8_goThrough_b88 m_marks m_sizes m_signed m_letters m_pages (fun m_asked m_hung m_hangs m_cancels m_in m_isMet m_ways m_fewest x2 x3 x4 => F_X8_goThrough_b77 m_marks m_sizes m_signed m_letters m_pages k66 n m_asked m_hung m_hangs m_cancels m_in m_isMet m_ways m_fewest x2 x3 x4) FU m_asked m_hung m_hangs m_cancels m_in m_isMet m_ways m_fewest x2 x3 x4 0
def F_X8_goThrough_b66 (m_marks : Nat → Int32) (m_sizes : Nat → Int32) (m_signed : Nat → Int32) (m_letters : Nat → Int32) (m_pages : Nat → Int32) (k58 : Int32 → Int32 → (Nat → Int32) → (Nat → Int32) → (Nat → Int32) → (Nat → Int32) → (Nat → Int64) → (Nat → Int32) → Int32 → Option (Int32 × Int32 × (Nat → Int32) × (Nat → Int32) × (Nat → Int32) × (Nat → Int32) × (Nat → Int64) × (Nat → Int32))) : Nat → Int32 → Int32 → (Nat → Int32) → (Nat → Int32) → (Nat → Int32) → (Nat → Int32) → (Nat → Int64) → (Nat → Int32) → Int32 → Int32 → Option (Int32 × Int32 × (Nat → Int32) × (Nat → Int32) × (Nat → Int32) × (Nat → Int32) × (Nat → Int64) × (Nat → Int32))
  | 0, _, _, _, _, _, _, _, _, _, _ => none
  | n + 1, m_asked, m_hung, m_hangs, m_cancels, m_in, m_isMet, m_ways, m_fewest, x2, x3 =>
    if m_hung ≤ x3 then
      k58 m_asked m_hung m_hangs m_cancels m_in m_isMet m_ways m_fewest (x2 + 1)
    else
      F_X8_goThrough_b77 m_marks m_sizes m_signed m_letters m_pages (fun m_asked m_hung m_hangs m_cancels m_in m_isMet m_ways m_fewest x2 x3 => F_X8_goThrough_b66 m_marks m_sizes m_signed m_letters m_pages k58 n m_asked m_hung m_hangs m_cancels m_in m_isMet m_ways m_fewest x2 x3) FU m_asked m_hung m_hangs m_cancels m_in m_isMet m_ways m_fewest x2 x3 0
def F_X8_goThrough_b58 (m_marks : Nat → Int32) (m_sizes : Nat → Int32) (m_signed : Nat → Int32) (m_letters : Nat → Int32) (m_pages : Nat → Int32) : Nat → Int32 → Int32 → (Nat → Int32) → (Nat → Int32) → (Nat → Int32) → (Nat → Int32) → (Nat → Int64) → (Nat → Int32) → Int32 → Option (Int32 × Int32 × (Nat → Int32) × (Nat → Int32) × (Nat → Int32) × (Nat → Int32) × (Nat → Int64) × (Nat → Int32))
  | 0, _, _, _, _, _, _, _, _, _ => none
  | n + 1, m_asked, m_hung, m_hangs, m_cancels, m_in, m_isMet, m_ways, m_fewest, x2 =>
    if 8 ≤ x2 then
      F_X8_goThrough_b149 m_marks m_sizes m_signed m_letters m_pages FU m_asked m_hung m_hangs m_cancels m_in m_isMet m_ways m_fewest 8
    else
      F_X8_goThrough_b66 m_marks m_sizes m_signed m_letters m_pages (fun m_asked m_hung m_hangs m_cancels m_in m_isMet m_ways m_fewest x2 => F_X8_goThrough_b58 m_marks m_sizes m_signed m_letters m_pages n m_asked m_hung m_hangs m_cancels m_in m_isMet m_ways m_fewest x2) FU m_asked m_hung m_hangs m_cancels m_in m_isMet m_ways m_fewest x2 0
def F_X8_goThrough_b7 (m_marks : Nat → Int32) (m_sizes : Nat → Int32) (m_signed : Nat → Int32) (m_letters : Nat → Int32) (m_pages : Nat → Int32) : Nat → Int32 → Int32 → (Nat → Int32) → (Nat → Int32) → (Nat → Int32) → (Nat → Int32) → (Nat → Int64) → (Nat → Int32) → Int32 → Option (Int32 × Int32 × (Nat → Int32) × (Nat → Int32) × (Nat → Int32) × (Nat → Int32) × (Nat → Int64) × (Nat → Int32))
  | 0, _, _, _, _, _, _, _, _, _ => none
  | n + 1, m_asked, m_hung, m_hangs, m_cancels, m_in, m_isMet, m_ways, m_fewest, x2 =>
    if 18414 ≤ x2 then
      (F_X8_state 0 0 0 0).bind fun c51 =>
      ck (inb c51 18414) <|
      F_X8_goThrough_b58 m_marks m_sizes m_signed m_letters m_pages FU m_asked m_hung m_hangs m_cancels m_in (upd m_isMet c51.toNatClampNeg 1) m_ways m_fewest 0
    else
      ck (inb x2 18414) <|
      ck (inb x2 18414) <|
      ck (inb x2 18414) <|
      F_X8_goThrough_b7 m_marks m_sizes m_signed m_letters m_pages n m_asked m_hung m_hangs m_cancels m_in (upd m_isMet x2.toNatClampNeg 0) (vp_updL m_ways x2.toNatClampNeg 0) (upd m_fewest x2.toNatClampNeg 100) (x2 + 1)
def F_X8_goThrough (m_many : Nat → Int32) (m_kinds : Nat → Int32) (m_marks : Nat → Int32) (m_sizes : Nat → Int32) (m_signed : Nat → Int32) (m_letters : Nat → Int32) (m_pages : Nat → Int32) (m_asked : Int32) (m_hung : Int32) (m_hangs : Nat → Int32) (m_cancels : Nat → Int32) (m_in : Nat → Int32) (m_isMet : Nat → Int32) (m_ways : Nat → Int64) (m_fewest : Nat → Int32) (p0 : Int32) : Option (Int32 × Int32 × (Nat → Int32) × (Nat → Int32) × (Nat → Int32) × (Nat → Int32) × (Nat → Int64) × (Nat → Int32)) :=
  (F_X8_asks m_many m_kinds m_asked m_hung m_hangs m_cancels p0).bind fun c2 =>
  F_X8_goThrough_b7 m_marks m_sizes m_signed m_letters m_pages FU c2.1 c2.2.1 c2.2.2.1 c2.2.2.2 m_in m_isMet m_ways m_fewest 0
def F_X8_ways (m_told : Int32) (m_many : Nat → Int32) (m_kinds : Nat → Int32) (m_marks : Nat → Int32) (m_sizes : Nat → Int32) (m_signed : Nat → Int32) (m_letters : Nat → Int32) (m_pages : Nat → Int32) (m_asked : Int32) (m_hung : Int32) (m_hangs : Nat → Int32) (m_cancels : Nat → Int32) (m_in : Nat → Int32) (m_isMet : Nat → Int32) (m_ways : Nat → Int64) (m_fewest : Nat → Int32) (p0 : Int32) : Option (Int64 × Int32 × Int32 × Int32 × (Nat → Int32) × (Nat → Int32) × (Nat → Int32) × (Nat → Int32) × (Nat → Int64) × (Nat → Int32)) :=
  (F_X8_isRow p0).bind fun c7 =>
  if (qb c7) = 0 then
    some ((-1), 0, m_asked, m_hung, m_hangs, m_cancels, m_in, m_isMet, m_ways, m_fewest)
  else
    (F_X8_goThrough m_many m_kinds m_marks m_sizes m_signed m_letters m_pages m_asked m_hung m_hangs m_cancels m_in m_isMet m_ways m_fewest p0).bind fun c19 =>
    ck (inb 0 18414) <|
    some (c19.2.2.2.2.2.2.1 (0 : Int32).toNatClampNeg, 0, c19.1, c19.2.1, c19.2.2.1, c19.2.2.2.1, c19.2.2.2.2.1, c19.2.2.2.2.2.1, c19.2.2.2.2.2.2.1, c19.2.2.2.2.2.2.2)
def F_X8_at (p0 : Int32) (p1 : Int32) (p2 : Int32) : Option (Int32) :=
  some (((((64 : Int32) * p0) + ((8 : Int32) * p1)) + p2) - 1)
def F_X8_take_b45 (m_many : Nat → Int32) (m_kinds : Nat → Int32) (m_marks : Nat → Int32) : Nat → (Nat → Int32) → (Nat → Int32) → (Nat → Int32) → (Nat → Int32) → (Nat → Int32) → (Nat → Int32) → Int32 → Int32 → Option ((Nat → Int32) × (Nat → Int32) × (Nat → Int32) × (Nat → Int32) × (Nat → Int32) × (Nat → Int32))
  | 0, _, _, _, _, _, _, _, _ => none
  | n + 1, m_isThere, m_things, m_firstLetter, m_firstPage, m_kindOf, m_catchOf, x1, x2 =>
    ck (inb x1 6) <|
    if (m_many x1.toNatClampNeg) ≤ x2 then
      some (m_isThere, m_things, m_firstLetter, m_firstPage, m_kindOf, m_catchOf)
    else
      ck (inb (((30 : Int32) * x1) + x2) 180) <|
      ck (inb x2 150) <|
      (F_X8_known m_marks (((30 : Int32) * x1) + x2) 4).bind fun c85 =>
      ck (inb x2 150) <|
      F_X8_take_b45 m_many m_kinds m_marks n m_isThere m_things m_firstLetter m_firstPage (upd m_kindOf x2.toNatClampNeg (m_kinds (((30 : Int32) * x1) + x2).toNatClampNeg)) (upd m_catchOf x2.toNatClampNeg c85) x1 (x2 + 1)
def F_X8_take (m_many : Nat → Int32) (m_kinds : Nat → Int32) (m_marks : Nat → Int32) (m_letters : Nat → Int32) (m_pages : Nat → Int32) (m_isThere : Nat → Int32) (m_things : Nat → Int32) (m_firstLetter : Nat → Int32) (m_firstPage : Nat → Int32) (m_kindOf : Nat → Int32) (m_catchOf : Nat → Int32) (p0 : Int32) : Option ((Nat → Int32) × (Nat → Int32) × (Nat → Int32) × (Nat → Int32) × (Nat → Int32) × (Nat → Int32)) :=
  ck (inb 0 5) <|
  ck (inb p0 6) <|
  ck (inb 0 5) <|
  ck (inb p0 6) <|
  ck (inb 0 5) <|
  ck (inb p0 6) <|
  ck (inb 0 5) <|
  F_X8_take_b45 m_many m_kinds m_marks FU (upd m_isThere (0 : Int32).toNatClampNeg 1) (upd m_things (0 : Int32).toNatClampNeg (m_many p0.toNatClampNeg)) (upd m_firstLetter (0 : Int32).toNatClampNeg (m_letters p0.toNatClampNeg)) (upd m_firstPage (0 : Int32).toNatClampNeg (m_pages p0.toNatClampNeg)) m_kindOf m_catchOf p0 0
def F_X8_lays_b298 (m_many : Nat → Int32) (m_kinds : Nat → Int32) (m_marks : Nat → Int32) (m_sizes : Nat → Int32) (m_signed : Nat → Int32) (m_letters : Nat → Int32) (m_pages : Nat → Int32) (m_asked : Int32) (m_hung : Int32) (m_hangs : Nat → Int32) (m_cancels : Nat → Int32) (m_ways : Nat → Int64) (m_fewest : Nat → Int32) (k235 : (Nat → Int32) → (Nat → Int32) → (Nat → Int32) → (Nat → Int32) → (Nat → Int32) → (Nat → Int32) → (Nat → Int32) → (Nat → Int32) → (Nat → Int32) → (Nat → Int32) → Int32 → Int32 → Int32 → Int32 → Int64 → Int32 → Int32 → Int32 → Int32 → Option ((Nat → Int32) × (Nat → Int32) × (Nat → Int32) × (Nat → Int32) × (Nat → Int32) × (Nat → Int32) × (Nat → Int32) × (Nat → Int32) × (Nat → Int32) × (Nat → Int32))) (m_in : Nat → Int32) (m_isThere : Nat → Int32) (m_things : Nat → Int32) (m_quires : Nat → Int32) (m_firstLetter : Nat → Int32) (m_firstPage : Nat → Int32) (m_sizeOf : Nat → Int32) (m_placed : Nat → Int32) (m_kindOf : Nat → Int32) (m_catchOf : Nat → Int32) (x1 : Int32) (x4 : Int32) (x5 : Int32) (x7 : Int32) (x9 : Int64) (x12 : Int32) (x13 : Int32) (x15 : Int32) (x16 : Int32) (x17 : Int32) (t0 : Int32) (t1 : Int32) : Option ((Nat → Int32) × (Nat → Int32) × (Nat → Int32) × (Nat → Int32) × (Nat → Int32) × (Nat → Int32) × (Nat → Int32) × (Nat → Int32) × (Nat → Int32) × (Nat → Int32)) :=
  ck (inb t1 320) <|
  if x17 = 0 then
    k235 m_in m_isThere m_things m_quires m_firstLetter m_firstPage m_sizeOf (upd m_placed t1.toNatClampNeg t0) m_kindOf m_catchOf x1 x4 x5 x7 x9 x12 x13 (x15 + 1) (x16 + 1)
  else
    k235 m_in m_isThere m_things m_quires m_firstLetter m_firstPage m_sizeOf (upd m_placed t1.toNatClampNeg t0) m_kindOf m_catchOf x1 x4 x5 x7 x9 x12 x13 (x15 + 0) (x16 + 1)
def F_X8_lays_b261 (m_many : Nat → Int32) (m_kinds : Nat → Int32) (m_marks : Nat → Int32) (m_sizes : Nat → Int32) (m_signed : Nat → Int32) (m_letters : Nat → Int32) (m_pages : Nat → Int32) (m_asked : Int32) (m_hung : Int32) (m_hangs : Nat → Int32) (m_cancels : Nat → Int32) (m_ways : Nat → Int64) (m_fewest : Nat → Int32) (k235 : (Nat → Int32) → (Nat → Int32) → (Nat → Int32) → (Nat → Int32) → (Nat → Int32) → (Nat → Int32) → (Nat → Int32) → (Nat → Int32) → (Nat → Int32) → (Nat → Int32) → Int32 → Int32 → Int32 → Int32 → Int64 → Int32 → Int32 → Int32 → Int32 → Option ((Nat → Int32) × (Nat → Int32) × (Nat → Int32) × (Nat → Int32) × (Nat → Int32) × (Nat → Int32) × (Nat → Int32) × (Nat → Int32) × (Nat → Int32) × (Nat → Int32))) (m_in : Nat → Int32) (m_isThere : Nat → Int32) (m_things : Nat → Int32) (m_quires : Nat → Int32) (m_firstLetter : Nat → Int32) (m_firstPage : Nat → Int32) (m_sizeOf : Nat → Int32) (m_placed : Nat → Int32) (m_kindOf : Nat → Int32) (m_catchOf : Nat → Int32) (x1 : Int32) (x4 : Int32) (x5 : Int32) (x7 : Int32) (x9 : Int64) (x12 : Int32) (x13 : Int32) (x15 : Int32) (x16 : Int32) (t0 : Int32) : Option ((Nat → Int32) × (Nat → Int32) × (Nat → Int32) × (Nat → Int32) × (Nat → Int32) × (Nat → Int32) × (Nat → Int32) × (Nat → Int32) × (Nat → Int32) × (Nat → Int32)) :=
  (F_X8_at 0 x5 x16).bind fun c273 =>
  if t0 = 0 then
    ck (inb x15 30) <|
    F_X8_lays_b298 m_many m_kinds m_marks m_sizes m_signed m_letters m_pages m_asked m_hung m_hangs m_cancels m_ways m_fewest k235 m_in m_isThere m_things m_quires m_firstLetter m_firstPage m_sizeOf m_placed m_kindOf m_catchOf x1 x4 x5 x7 x9 x12 x13 x15 x16 t0 ((m_hangs x15.toNatClampNeg) - ((30 : Int32) * x1)) c273
  else
    F_X8_lays_b298 m_many m_kinds m_marks m_sizes m_signed m_letters m_pages m_asked m_hung m_hangs m_cancels m_ways m_fewest k235 m_in m_isThere m_things m_quires m_firstLetter m_firstPage m_sizeOf m_placed m_kindOf m_catchOf x1 x4 x5 x7 x9 x12 x13 x15 x16 t0 (-2) c273
def F_X8_lays_b235 (m_many : Nat → Int32) (m_kinds : Nat → Int32) (m_marks : Nat → Int32) (m_sizes : Nat → Int32) (m_signed : Nat → Int32) (m_letters : Nat → Int32) (m_pages : Nat → Int32) (m_asked : Int32) (m_hung : Int32) (m_hangs : Nat → Int32) (m_cancels : Nat → Int32) (m_ways : Nat → Int64) (m_fewest : Nat → Int32) (k15 : (Nat → Int32) → (Nat → Int32) → (Nat → Int32) → (Nat → Int32) → (Nat → Int32) → (Nat → Int32) → (Nat → Int32) → (Nat → Int32) → (Nat → Int32) → (Nat → Int32) → Int32 → Int32 → Int32 → Int32 → Int32 → Int32 → Int64 → Option ((Nat → Int32) × (Nat → Int32) × (Nat → Int32) × (Nat → Int32) × (Nat → Int32) × (Nat → Int32) × (Nat → Int32) × (Nat → Int32) × (Nat → Int32) × (Nat → Int32))) : Nat → (Nat → Int32) → (Nat → Int32) → (Nat → Int32) → (Nat → Int32) → (Nat → Int32) → (Nat → Int32) → (Nat → Int32) → (Nat → Int32) → (Nat → Int32) → (Nat → Int32) → Int32 → Int32 → Int32 → Int32 → Int64 → Int32 → Int32 → Int32 → Int32 → Option ((Nat → Int32) × (Nat → Int32) × (Nat → Int32) × (Nat → Int32) × (Nat → Int32) × (Nat → Int32) × (Nat → Int32) × (Nat → Int32) × (Nat → Int32) × (Nat → Int32))
  | 0, _, _, _, _, _, _, _, _, _, _, _, _, _, _, _, _, _, _, _ => none
  | n + 1, m_in, m_isThere, m_things, m_quires, m_firstLetter, m_firstPage, m_sizeOf, m_placed, m_kindOf, m_catchOf, x1, x4, x5, x7, x9, x12, x13, x15, x16 =>
    if x12 < x16 then
      k15 m_in m_isThere m_things m_quires m_firstLetter m_firstPage m_sizeOf m_placed m_kindOf m_catchOf x1 x4 (x5 + 1) x15 (x7 + (x12 / 2)) ((1 : Int32) - (x13 &&& 1)) x9
    else
      if ((x13 >>> ((x12 - x16) &&& 31)) &&& 1) = 1 then
        F_X8_lays_b261 m_many m_kinds m_marks m_sizes m_signed m_letters m_pages m_asked m_hung m_hangs m_cancels m_ways m_fewest (fun m_in m_isThere m_things m_quires m_firstLetter m_firstPage m_sizeOf m_placed m_kindOf m_catchOf x1 x4 x5 x7 x9 x12 x13 x15 x16 => F_X8_lays_b235 m_many m_kinds m_marks m_sizes m_signed m_letters m_pages m_asked m_hung m_hangs m_cancels m_ways m_fewest k15 n m_in m_isThere m_things m_quires m_firstLetter m_firstPage m_sizeOf m_placed m_kindOf m_catchOf x1 x4 x5 x7 x9 x12 x13 x15 x16) m_in m_isThere m_things m_quires m_firstLetter m_firstPage m_sizeOf m_placed m_kindOf m_catchOf x1 x4 x5 x7 x9 x12 x13 x15 x16 1
      else
        F_X8_lays_b261 m_many m_kinds m_marks m_sizes m_signed m_letters m_pages m_asked m_hung m_hangs m_cancels m_ways m_fewest (fun m_in m_isThere m_things m_quires m_firstLetter m_firstPage m_sizeOf m_placed m_kindOf m_catchOf x1 x4 x5 x7 x9 x12 x13 x15 x16 => F_X8_lays_b235 m_many m_kinds m_marks m_sizes m_signed m_letters m_pages m_asked m_hung m_hangs m_cancels m_ways m_fewest k15 n m_in m_isThere m_things m_quires m_firstLetter m_firstPage m_sizeOf m_placed m_kindOf m_catchOf x1 x4 x5 x7 x9 x12 x13 x15 x16) m_in m_isThere m_things m_quires m_firstLetter m_firstPage m_sizeOf m_placed m_kindOf m_catchOf x1 x4 x5 x7 x9 x12 x13 x15 x16 0
def F_X8_lays_b197 (m_many : Nat → Int32) (m_kinds : Nat → Int32) (m_marks : Nat → Int32) (m_sizes : Nat → Int32) (m_signed : Nat → Int32) (m_letters : Nat → Int32) (m_pages : Nat → Int32) (m_asked : Int32) (m_hung : Int32) (m_hangs : Nat → Int32) (m_cancels : Nat → Int32) (m_ways : Nat → Int64) (m_fewest : Nat → Int32) (k47 : (Nat → Int32) → (Nat → Int32) → (Nat → Int32) → (Nat → Int32) → (Nat → Int32) → (Nat → Int32) → (Nat → Int32) → (Nat → Int32) → (Nat → Int32) → (Nat → Int32) → Int32 → Int32 → Int32 → Int32 → Int32 → Int32 → Int64 → Int32 → Int32 → Int32 → Int32 → Option ((Nat → Int32) × (Nat → Int32) × (Nat → Int32) × (Nat → Int32) × (Nat → Int32) × (Nat → Int32) × (Nat → Int32) × (Nat → Int32) × (Nat → Int32) × (Nat → Int32))) (m_in : Nat → Int32) (m_isThere : Nat → Int32) (m_things : Nat → Int32) (m_quires : Nat → Int32) (m_firstLetter : Nat → Int32) (m_firstPage : Nat → Int32) (m_sizeOf : Nat → Int32) (m_placed : Nat → Int32) (m_kindOf : Nat → Int32) (m_catchOf : Nat → Int32) (x1 : Int32) (x4 : Int32) (x5 : Int32) (x6 : Int32) (x7 : Int32) (x8 : Int32) (x9 : Int64) (x11 : Int32) (x12 : Int32) (x13 : Int32) (x15 : Int32) (t0 : Int32) : Option ((Nat → Int32) × (Nat → Int32) × (Nat → Int32) × (Nat → Int32) × (Nat → Int32) × (Nat → Int32) × (Nat → Int32) × (Nat → Int32) × (Nat → Int32) × (Nat → Int32)) :=
  if t0 = 0 then
    ck (inb x15 18414) <|
    k47 m_in m_isThere m_things m_quires m_firstLetter m_firstPage m_sizeOf m_placed m_kindOf m_catchOf x1 x4 x5 x6 x7 x8 (x9 - (m_ways x15.toNatClampNeg)) x11 x12 x13 t0
  else
    k47 m_in m_isThere m_things m_quires m_firstLetter m_firstPage m_sizeOf m_placed m_kindOf m_catchOf x1 x4 x5 x6 x7 x8 x9 x11 x12 x13 t0
def F_X8_lays_b81 (m_many : Nat → Int32) (m_kinds : Nat → Int32) (m_marks : Nat → Int32) (m_sizes : Nat → Int32) (m_signed : Nat → Int32) (m_letters : Nat → Int32) (m_pages : Nat → Int32) (m_asked : Int32) (m_hung : Int32) (m_hangs : Nat → Int32) (m_cancels : Nat → Int32) (m_ways : Nat → Int64) (m_fewest : Nat → Int32) (k47 : (Nat → Int32) → (Nat → Int32) → (Nat → Int32) → (Nat → Int32) → (Nat → Int32) → (Nat → Int32) → (Nat → Int32) → (Nat → Int32) → (Nat → Int32) → (Nat → Int32) → Int32 → Int32 → Int32 → Int32 → Int32 → Int32 → Int64 → Int32 → Int32 → Int32 → Int32 → Option ((Nat → Int32) × (Nat → Int32) × (Nat → Int32) × (Nat → Int32) × (Nat → Int32) × (Nat → Int32) × (Nat → Int32) × (Nat → Int32) × (Nat → Int32) × (Nat → Int32))) (m_in : Nat → Int32) (m_isThere : Nat → Int32) (m_things : Nat → Int32) (m_quires : Nat → Int32) (m_firstLetter : Nat → Int32) (m_firstPage : Nat → Int32) (m_sizeOf : Nat → Int32) (m_placed : Nat → Int32) (m_kindOf : Nat → Int32) (m_catchOf : Nat → Int32) (x1 : Int32) (x4 : Int32) (x5 : Int32) (x6 : Int32) (x7 : Int32) (x8 : Int32) (x9 : Int64) (x11 : Int32) (x12 : Int32) (x13 : Int32) (x14 : Int32) : Option ((Nat → Int32) × (Nat → Int32) × (Nat → Int32) × (Nat → Int32) × (Nat → Int32) × (Nat → Int32) × (Nat → Int32) × (Nat → Int32) × (Nat → Int32) × (Nat → Int32)) :=
  (F_X8_has m_sizes m_asked x12).bind fun c84 =>
  if (qb c84) = 0 then
    k47 m_in m_isThere m_things m_quires m_firstLetter m_firstPage m_sizeOf m_placed m_kindOf m_catchOf x1 x4 x5 x6 x7 x8 x9 x11 x12 x13 x14
  else
    (F_X8_isQuire m_marks m_signed m_letters m_pages m_asked m_hung m_hangs m_cancels m_in x5 x6 x7 x8 x12 x13).bind fun c103 =>
    if (qb c103.1) = 0 then
      k47 c103.2 m_isThere m_things m_quires m_firstLetter m_firstPage m_sizeOf m_placed m_kindOf m_catchOf x1 x4 x5 x6 x7 x8 x9 x11 x12 x13 x14
    else
      (F_X8_behind x5 x6 x7 x12 x13).bind fun c123 =>
      if x4 = 0 then
        ck (inb c123 18414) <|
        if 0 ≤ (lg_cmp x9 (m_ways c123.toNatClampNeg)) then
          F_X8_lays_b197 m_many m_kinds m_marks m_sizes m_signed m_letters m_pages m_asked m_hung m_hangs m_cancels m_ways m_fewest k47 c103.2 m_isThere m_things m_quires m_firstLetter m_firstPage m_sizeOf m_placed m_kindOf m_catchOf x1 x4 x5 x6 x7 x8 x9 x11 x12 x13 c123 0
        else
          F_X8_lays_b197 m_many m_kinds m_marks m_sizes m_signed m_letters m_pages m_asked m_hung m_hangs m_cancels m_ways m_fewest k47 c103.2 m_isThere m_things m_quires m_firstLetter m_firstPage m_sizeOf m_placed m_kindOf m_catchOf x1 x4 x5 x6 x7 x8 x9 x11 x12 x13 c123 1
      else
        ck (inb c123 18414) <|
        if (lg_cmp (m_ways c123.toNatClampNeg) 0) ≤ 0 then
          k47 c103.2 m_isThere m_things m_quires m_firstLetter m_firstPage m_sizeOf m_placed m_kindOf m_catchOf x1 x4 x5 x6 x7 x8 x9 x11 x12 x13 0
        else
          ck (inb c123 18414) <|
          (F_X8_ones x13).bind fun c155 =>
          ck (inb x11 18414) <|
          if ((m_fewest c123.toNatClampNeg) + c155) = (m_fewest x11.toNatClampNeg) then
            k47 c103.2 m_isThere m_things m_quires m_firstLetter m_firstPage m_sizeOf m_placed m_kindOf m_catchOf x1 x4 x5 x6 x7 x8 x9 x11 x12 x13 1
          else
            k47 c103.2 m_isThere m_things m_quires m_firstLetter m_firstPage m_sizeOf m_placed m_kindOf m_catchOf x1 x4 x5 x6 x7 x8 x9 x11 x12 x13 0
def F_X8_lays_b72 (m_many : Nat → Int32) (m_kinds : Nat → Int32) (m_marks : Nat → Int32) (m_sizes : Nat → Int32) (m_signed : Nat → Int32) (m_letters : Nat → Int32) (m_pages : Nat → Int32) (m_asked : Int32) (m_hung : Int32) (m_hangs : Nat → Int32) (m_cancels : Nat → Int32) (m_ways : Nat → Int64) (m_fewest : Nat → Int32) (k47 : (Nat → Int32) → (Nat → Int32) → (Nat → Int32) → (Nat → Int32) → (Nat → Int32) → (Nat → Int32) → (Nat → Int32) → (Nat → Int32) → (Nat → Int32) → (Nat → Int32) → Int32 → Int32 → Int32 → Int32 → Int32 → Int32 → Int64 → Int32 → Int32 → Int32 → Int32 → Option ((Nat → Int32) × (Nat → Int32) × (Nat → Int32) × (Nat → Int32) × (Nat → Int32) × (Nat → Int32) × (Nat → Int32) × (Nat → Int32) × (Nat → Int32) × (Nat → Int32))) (m_in : Nat → Int32) (m_isThere : Nat → Int32) (m_things : Nat → Int32) (m_quires : Nat → Int32) (m_firstLetter : Nat → Int32) (m_firstPage : Nat → Int32) (m_sizeOf : Nat → Int32) (m_placed : Nat → Int32) (m_kindOf : Nat → Int32) (m_catchOf : Nat → Int32) (x1 : Int32) (x4 : Int32) (x5 : Int32) (x6 : Int32) (x7 : Int32) (x8 : Int32) (x9 : Int64) (x11 : Int32) (x12 : Int32) (x14 : Int32) : Option ((Nat → Int32) × (Nat → Int32) × (Nat → Int32) × (Nat → Int32) × (Nat → Int32) × (Nat → Int32) × (Nat → Int32) × (Nat → Int32) × (Nat → Int32) × (Nat → Int32)) :=
  F_X8_lays_b81 m_many m_kinds m_marks m_sizes m_signed m_letters m_pages m_asked m_hung m_hangs m_cancels m_ways m_fewest k47 m_in m_isThere m_things m_quires m_firstLetter m_firstPage m_sizeOf m_placed m_kindOf m_catchOf x1 x4 x5 x6 x7 x8 x9 x11 (x12 + 2) 0 x14
def F_X8_lays_b47 (m_many : Nat → Int32) (m_kinds : Nat → Int32) (m_marks : Nat → Int32) (m_sizes : Nat → Int32) (m_signed : Nat → Int32) (m_letters : Nat → Int32) (m_pages : Nat → Int32) (m_asked : Int32) (m_hung : Int32) (m_hangs : Nat → Int32) (m_cancels : Nat → Int32) (m_ways : Nat → Int64) (m_fewest : Nat → Int32) (k15 : (Nat → Int32) → (Nat → Int32) → (Nat → Int32) → (Nat → Int32) → (Nat → Int32) → (Nat → Int32) → (Nat → Int32) → (Nat → Int32) → (Nat → Int32) → (Nat → Int32) → Int32 → Int32 → Int32 → Int32 → Int32 → Int32 → Int64 → Option ((Nat → Int32) × (Nat → Int32) × (Nat → Int32) × (Nat → Int32) × (Nat → Int32) × (Nat → Int32) × (Nat → Int32) × (Nat → Int32) × (Nat → Int32) × (Nat → Int32))) : Nat → (Nat → Int32) → (Nat → Int32) → (Nat → Int32) → (Nat → Int32) → (Nat → Int32) → (Nat → Int32) → (Nat → Int32) → (Nat → Int32) → (Nat → Int32) → (Nat → Int32) → Int32 → Int32 → Int32 → Int32 → Int32 → Int32 → Int64 → Int32 → Int32 → Int32 → Int32 → Option ((Nat → Int32) × (Nat → Int32) × (Nat → Int32) × (Nat → Int32) × (Nat → Int32) × (Nat → Int32) × (Nat → Int32) × (Nat → Int32) × (Nat → Int32) × (Nat → Int32))
  | 0, _, _, _, _, _, _, _, _, _, _, _, _, _, _, _, _, _, _, _, _, _ => none
  | n + 1, m_in, m_isThere, m_things, m_quires, m_firstLetter, m_firstPage, m_sizeOf, m_placed, m_kindOf, m_catchOf, x1, x4, x5, x6, x7, x8, x9, x11, x12, x13, x14 =>
    if x14 = 0 then
      if x12 = 0 then
        F_X8_lays_b72 m_many m_kinds m_marks m_sizes m_signed m_letters m_pages m_asked m_hung m_hangs m_cancels m_ways m_fewest (fun m_in m_isThere m_things m_quires m_firstLetter m_firstPage m_sizeOf m_placed m_kindOf m_catchOf x1 x4 x5 x6 x7 x8 x9 x11 x12 x13 x14 => F_X8_lays_b47 m_many m_kinds m_marks m_sizes m_signed m_letters m_pages m_asked m_hung m_hangs m_cancels m_ways m_fewest k15 n m_in m_isThere m_things m_quires m_firstLetter m_firstPage m_sizeOf m_placed m_kindOf m_catchOf x1 x4 x5 x6 x7 x8 x9 x11 x12 x13 x14) m_in m_isThere m_things m_quires m_firstLetter m_firstPage m_sizeOf m_placed m_kindOf m_catchOf x1 x4 x5 x6 x7 x8 x9 x11 x12 x14
      else
        if (x13 + 1) = ((1 : Int32) <<< (x12 &&& 31)) then
          F_X8_lays_b72 m_many m_kinds m_marks m_sizes m_signed m_letters m_pages m_asked m_hung m_hangs m_cancels m_ways m_fewest (fun m_in m_isThere m_things m_quires m_firstLetter m_firstPage m_sizeOf m_placed m_kindOf m_catchOf x1 x4 x5 x6 x7 x8 x9 x11 x12 x13 x14 => F_X8_lays_b47 m_many m_kinds m_marks m_sizes m_signed m_letters m_pages m_asked m_hung m_hangs m_cancels m_ways m_fewest k15 n m_in m_isThere m_things m_quires m_firstLetter m_firstPage m_sizeOf m_placed m_kindOf m_catchOf x1 x4 x5 x6 x7 x8 x9 x11 x12 x13 x14) m_in m_isThere m_things m_quires m_firstLetter m_firstPage m_sizeOf m_placed m_kindOf m_catchOf x1 x4 x5 x6 x7 x8 x9 x11 x12 x14
        else
          F_X8_lays_b81 m_many m_kinds m_marks m_sizes m_signed m_letters m_pages m_asked m_hung m_hangs m_cancels m_ways m_fewest (fun m_in m_isThere m_things m_quires m_firstLetter m_firstPage m_sizeOf m_placed m_kindOf m_catchOf x1 x4 x5 x6 x7 x8 x9 x11 x12 x13 x14 => F_X8_lays_b47 m_many m_kinds m_marks m_sizes m_signed m_letters m_pages m_asked m_hung m_hangs m_cancels m_ways m_fewest k15 n m_in m_isThere m_things m_quires m_firstLetter m_firstPage m_sizeOf m_placed m_kindOf m_catchOf x1 x4 x5 x6 x7 x8 x9 x11 x12 x13 x14) m_in m_isThere m_things m_quires m_firstLetter m_firstPage m_sizeOf m_placed m_kindOf m_catchOf x1 x4 x5 x6 x7 x8 x9 x11 x12 (x13 + 1) x14
    else
      ck (inb x5 40) <|
      F_X8_lays_b235 m_many m_kinds m_marks m_sizes m_signed m_letters m_pages m_asked m_hung m_hangs m_cancels m_ways m_fewest k15 FU m_in m_isThere m_things m_quires m_firstLetter m_firstPage (upd m_sizeOf x5.toNatClampNeg x12) m_placed m_kindOf m_catchOf x1 x4 x5 x7 x9 x12 x13 x6 1
def F_X8_lays_b15 (m_many : Nat → Int32) (m_kinds : Nat → Int32) (m_marks : Nat → Int32) (m_sizes : Nat → Int32) (m_signed : Nat → Int32) (m_letters : Nat → Int32) (m_pages : Nat → Int32) (m_asked : Int32) (m_hung : Int32) (m_hangs : Nat → Int32) (m_cancels : Nat → Int32) (m_ways : Nat → Int64) (m_fewest : Nat → Int32) : Nat → (Nat → Int32) → (Nat → Int32) → (Nat → Int32) → (Nat → Int32) → (Nat → Int32) → (Nat → Int32) → (Nat → Int32) → (Nat → Int32) → (Nat → Int32) → (Nat → Int32) → Int32 → Int32 → Int32 → Int32 → Int32 → Int32 → Int64 → Option ((Nat → Int32) × (Nat → Int32) × (Nat → Int32) × (Nat → Int32) × (Nat → Int32) × (Nat → Int32) × (Nat → Int32) × (Nat → Int32) × (Nat → Int32) × (Nat → Int32))
  | 0, _, _, _, _, _, _, _, _, _, _, _, _, _, _, _, _, _ => none
  | n + 1, m_in, m_isThere, m_things, m_quires, m_firstLetter, m_firstPage, m_sizeOf, m_placed, m_kindOf, m_catchOf, x1, x4, x5, x6, x7, x8, x9 =>
    if m_hung ≤ x6 then
      ck (inb 0 5) <|
      (F_X8_take m_many m_kinds m_marks m_letters m_pages m_isThere m_things m_firstLetter m_firstPage m_kindOf m_catchOf x1).bind fun c360 =>
      some (m_in, c360.1, c360.2.1, upd m_quires (0 : Int32).toNatClampNeg x5, c360.2.2.1, c360.2.2.2.1, m_sizeOf, m_placed, c360.2.2.2.2.1, c360.2.2.2.2.2)
    else
      (F_X8_state x5 x6 x7 x8).bind fun c33 =>
      F_X8_lays_b47 m_many m_kinds m_marks m_sizes m_signed m_letters m_pages m_asked m_hung m_hangs m_cancels m_ways m_fewest (fun m_in m_isThere m_things m_quires m_firstLetter m_firstPage m_sizeOf m_placed m_kindOf m_catchOf x1 x4 x5 x6 x7 x8 x9 => F_X8_lays_b15 m_many m_kinds m_marks m_sizes m_signed m_letters m_pages m_asked m_hung m_hangs m_cancels m_ways m_fewest n m_in m_isThere m_things m_quires m_firstLetter m_firstPage m_sizeOf m_placed m_kindOf m_catchOf x1 x4 x5 x6 x7 x8 x9) FU m_in m_isThere m_things m_quires m_firstLetter m_firstPage m_sizeOf m_placed m_kindOf m_catchOf x1 x4 x5 x6 x7 x8 x9 c33 0 0 0
def F_X8_lays (m_many : Nat → Int32) (m_kinds : Nat → Int32) (m_marks : Nat → Int32) (m_sizes : Nat → Int32) (m_signed : Nat → Int32) (m_letters : Nat → Int32) (m_pages : Nat → Int32) (m_asked : Int32) (m_hung : Int32) (m_hangs : Nat → Int32) (m_cancels : Nat → Int32) (m_in : Nat → Int32) (m_ways : Nat → Int64) (m_fewest : Nat → Int32) (m_isThere : Nat → Int32) (m_things : Nat → Int32) (m_quires : Nat → Int32) (m_firstLetter : Nat → Int32) (m_firstPage : Nat → Int32) (m_sizeOf : Nat → Int32) (m_placed : Nat → Int32) (m_kindOf : Nat → Int32) (m_catchOf : Nat → Int32) (p0 : Int32) (p1 : Int64) (p2 : Int32) : Option ((Nat → Int32) × (Nat → Int32) × (Nat → Int32) × (Nat → Int32) × (Nat → Int32) × (Nat → Int32) × (Nat → Int32) × (Nat → Int32) × (Nat → Int32) × (Nat → Int32)) :=
  F_X8_lays_b15 m_many m_kinds m_marks m_sizes m_signed m_letters m_pages m_asked m_hung m_hangs m_cancels m_ways m_fewest FU m_in m_isThere m_things m_quires m_firstLetter m_firstPage m_sizeOf m_placed m_kindOf m_catchOf p0 p2 0 0 0 0 p1
def F_X8_pick (m_told : Int32) (m_many : Nat → Int32) (m_kinds : Nat → Int32) (m_marks : Nat → Int32) (m_sizes : Nat → Int32) (m_signed : Nat → Int32) (m_letters : Nat → Int32) (m_pages : Nat → Int32) (m_asked : Int32) (m_hung : Int32) (m_hangs : Nat → Int32) (m_cancels : Nat → Int32) (m_in : Nat → Int32) (m_isMet : Nat → Int32) (m_ways : Nat → Int64) (m_fewest : Nat → Int32) (m_isThere : Nat → Int32) (m_things : Nat → Int32) (m_quires : Nat → Int32) (m_firstLetter : Nat → Int32) (m_firstPage : Nat → Int32) (m_sizeOf : Nat → Int32) (m_placed : Nat → Int32) (m_kindOf : Nat → Int32) (m_catchOf : Nat → Int32) (p0 : Int32) (p1 : Int64) : Option (Bool × Int32 × Int32 × Int32 × (Nat → Int32) × (Nat → Int32) × (Nat → Int32) × (Nat → Int32) × (Nat → Int64) × (Nat → Int32) × (Nat → Int32) × (Nat → Int32) × (Nat → Int32) × (Nat → Int32) × (Nat → Int32) × (Nat → Int32) × (Nat → Int32) × (Nat → Int32) × (Nat → Int32)) :=
  (F_X8_isRow p0).bind fun c7 =>
  if (qb c7) = 0 then
    some (false, 0, m_asked, m_hung, m_hangs, m_cancels, m_in, m_isMet, m_ways, m_fewest, m_isThere, m_things, m_quires, m_firstLetter, m_firstPage, m_sizeOf, m_placed, m_kindOf, m_catchOf)
  else
    if 0 ≤ (lg_cmp p1 0) then
      (F_X8_goThrough m_many m_kinds m_marks m_sizes m_signed m_letters m_pages m_asked m_hung m_hangs m_cancels m_in m_isMet m_ways m_fewest p0).bind fun c23 =>
      ck (inb 0 18414) <|
      if (lg_cmp p1 (c23.2.2.2.2.2.2.1 (0 : Int32).toNatClampNeg)) < 0 then
        (F_X8_lays m_many m_kinds m_marks m_sizes m_signed m_letters m_pages c23.1 c23.2.1 c23.2.2.1 c23.2.2.2.1 c23.2.2.2.2.1 c23.2.2.2.2.2.2.1 c23.2.2.2.2.2.2.2 m_isThere m_things m_quires m_firstLetter m_firstPage m_sizeOf m_placed m_kindOf m_catchOf p0 p1 0).bind fun c43 =>
        some (true, 0, c23.1, c23.2.1, c23.2.2.1, c23.2.2.2.1, c43.1, c23.2.2.2.2.2.1, c23.2.2.2.2.2.2.1, c23.2.2.2.2.2.2.2, c43.2.1, c43.2.2.1, c43.2.2.2.1, c43.2.2.2.2.1, c43.2.2.2.2.2.1, c43.2.2.2.2.2.2.1, c43.2.2.2.2.2.2.2.1, c43.2.2.2.2.2.2.2.2.1, c43.2.2.2.2.2.2.2.2.2)
      else
        some (false, 0, c23.1, c23.2.1, c23.2.2.1, c23.2.2.2.1, c23.2.2.2.2.1, c23.2.2.2.2.2.1, c23.2.2.2.2.2.2.1, c23.2.2.2.2.2.2.2, m_isThere, m_things, m_quires, m_firstLetter, m_firstPage, m_sizeOf, m_placed, m_kindOf, m_catchOf)
    else
      some (false, 0, m_asked, m_hung, m_hangs, m_cancels, m_in, m_isMet, m_ways, m_fewest, m_isThere, m_things, m_quires, m_firstLetter, m_firstPage, m_sizeOf, m_placed, m_kindOf, m_catchOf)
def F_X8_fewest (m_told : Int32) (m_many : Nat → Int32) (m_kinds : Nat → Int32) (m_marks : Nat → Int32) (m_sizes : Nat → Int32) (m_signed : Nat → Int32) (m_letters : Nat → Int32) (m_pages : Nat → Int32) (m_asked : Int32) (m_hung : Int32) (m_hangs : Nat → Int32) (m_cancels : Nat → Int32) (m_in : Nat → Int32) (m_isMet : Nat → Int32) (m_ways : Nat → Int64) (m_fewest : Nat → Int32) (m_isThere : Nat → Int32) (m_things : Nat → Int32) (m_quires : Nat → Int32) (m_firstLetter : Nat → Int32) (m_firstPage : Nat → Int32) (m_sizeOf : Nat → Int32) (m_placed : Nat → Int32) (m_kindOf : Nat → Int32) (m_catchOf : Nat → Int32) (p0 : Int32) : Option (Int32 × Int32 × Int32 × Int32 × (Nat → Int32) × (Nat → Int32) × (Nat → Int32) × (Nat → Int32) × (Nat → Int64) × (Nat → Int32) × (Nat → Int32) × (Nat → Int32) × (Nat → Int32) × (Nat → Int32) × (Nat → Int32) × (Nat → Int32) × (Nat → Int32) × (Nat → Int32) × (Nat → Int32)) :=
  (F_X8_isRow p0).bind fun c7 =>
  if (qb c7) = 0 then
    some ((-1), 0, m_asked, m_hung, m_hangs, m_cancels, m_in, m_isMet, m_ways, m_fewest, m_isThere, m_things, m_quires, m_firstLetter, m_firstPage, m_sizeOf, m_placed, m_kindOf, m_catchOf)
  else
    (F_X8_goThrough m_many m_kinds m_marks m_sizes m_signed m_letters m_pages m_asked m_hung m_hangs m_cancels m_in m_isMet m_ways m_fewest p0).bind fun c17 =>
    ck (inb 0 18414) <|
    if (lg_cmp (c17.2.2.2.2.2.2.1 (0 : Int32).toNatClampNeg) 0) = 0 then
      some ((-1), 0, c17.1, c17.2.1, c17.2.2.1, c17.2.2.2.1, c17.2.2.2.2.1, c17.2.2.2.2.2.1, c17.2.2.2.2.2.2.1, c17.2.2.2.2.2.2.2, m_isThere, m_things, m_quires, m_firstLetter, m_firstPage, m_sizeOf, m_placed, m_kindOf, m_catchOf)
    else
      (F_X8_lays m_many m_kinds m_marks m_sizes m_signed m_letters m_pages c17.1 c17.2.1 c17.2.2.1 c17.2.2.2.1 c17.2.2.2.2.1 c17.2.2.2.2.2.2.1 c17.2.2.2.2.2.2.2 m_isThere m_things m_quires m_firstLetter m_firstPage m_sizeOf m_placed m_kindOf m_catchOf p0 0 1).bind fun c37 =>
      ck (inb 0 18414) <|
      some (c17.2.2.2.2.2.2.2 (0 : Int32).toNatClampNeg, 0, c17.1, c17.2.1, c17.2.2.1, c17.2.2.2.1, c37.1, c17.2.2.2.2.2.1, c17.2.2.2.2.2.2.1, c17.2.2.2.2.2.2.2, c37.2.1, c37.2.2.1, c37.2.2.2.1, c37.2.2.2.2.1, c37.2.2.2.2.2.1, c37.2.2.2.2.2.2.1, c37.2.2.2.2.2.2.2.1, c37.2.2.2.2.2.2.2.2.1, c37.2.2.2.2.2.2.2.2.2)
def F_X8_beginsFrom_b127 (m_marks : Nat → Int32) (m_sizes : Nat → Int32) (m_signed : Nat → Int32) (m_letters : Nat → Int32) (m_pages : Nat → Int32) (m_asked : Int32) (m_hangs : Nat → Int32) (m_cancels : Nat → Int32) (k3 : (Nat → Int32) → Int32 → Int32 → Int32 → Int32 → Int32 → Int32 → Int32 → Option (Bool × (Nat → Int32))) (m_in : Nat → Int32) (x1 : Int32) (x2 : Int32) (x3 : Int32) (x4 : Int32) (x5 : Int32) (x6 : Int32) (x7 : Int32) : Option (Bool × (Nat → Int32)) :=
  k3 m_in x1 x2 x3 x4 x5 x6 (x7 + 2)
def F_X8_beginsFrom_b112 (m_marks : Nat → Int32) (m_sizes : Nat → Int32) (m_signed : Nat → Int32) (m_letters : Nat → Int32) (m_pages : Nat → Int32) (m_asked : Int32) (m_hangs : Nat → Int32) (m_cancels : Nat → Int32) (k49 : (Nat → Int32) → Int32 → Int32 → Int32 → Int32 → Int32 → Int32 → Int32 → Int32 → Int32 → Option (Bool × (Nat → Int32))) (m_in : Nat → Int32) (x1 : Int32) (x2 : Int32) (x3 : Int32) (x4 : Int32) (x5 : Int32) (x6 : Int32) (x7 : Int32) (x8 : Int32) (x9 : Int32) : Option (Bool × (Nat → Int32)) :=
  k49 m_in x1 x2 x3 x4 x5 x6 x7 x8 (x9 + 2)
def F_X8_beginsFrom_b94 (m_marks : Nat → Int32) (m_sizes : Nat → Int32) (m_signed : Nat → Int32) (m_letters : Nat → Int32) (m_pages : Nat → Int32) (m_asked : Int32) (m_hangs : Nat → Int32) (m_cancels : Nat → Int32) (k49 : (Nat → Int32) → Int32 → Int32 → Int32 → Int32 → Int32 → Int32 → Int32 → Int32 → Int32 → Option (Bool × (Nat → Int32))) (m_in : Nat → Int32) (x1 : Int32) (x2 : Int32) (x3 : Int32) (x4 : Int32) (x5 : Int32) (x6 : Int32) (x7 : Int32) (x8 : Int32) (x9 : Int32) (t0 : Int32) (t1 : Int32) (t2 : Int32) (t3 : Int32) : Option (Bool × (Nat → Int32)) :=
  (F_X8_agrees m_marks m_signed m_letters m_pages m_asked m_hangs m_cancels m_in t3 t2 t1 t0 x7 x8 x9 x5 x6).bind fun c104 =>
  if (qb c104.1) = 0 then
    F_X8_beginsFrom_b112 m_marks m_sizes m_signed m_letters m_pages m_asked m_hangs m_cancels k49 c104.2 x1 x2 x3 x4 x5 x6 x7 x8 x9
  else
    some (true, c104.2)
def F_X8_beginsFrom_b49 (m_marks : Nat → Int32) (m_sizes : Nat → Int32) (m_signed : Nat → Int32) (m_letters : Nat → Int32) (m_pages : Nat → Int32) (m_asked : Int32) (m_hangs : Nat → Int32) (m_cancels : Nat → Int32) (k28 : (Nat → Int32) → Int32 → Int32 → Int32 → Int32 → Int32 → Int32 → Int32 → Int32 → Option (Bool × (Nat → Int32))) : Nat → (Nat → Int32) → Int32 → Int32 → Int32 → Int32 → Int32 → Int32 → Int32 → Int32 → Int32 → Option (Bool × (Nat → Int32))
  | 0, _, _, _, _, _, _, _, _, _, _ => none
  | n + 1, m_in, x1, x2, x3, x4, x5, x6, x7, x8, x9 =>
    if ((1 : Int32) <<< (x8 &&& 31)) ≤ x9 then
      k28 m_in x1 x2 x3 x4 x5 x6 x7 (x8 + 1)
    else
      (F_X8_ones x9).bind fun c63 =>
      if (x8 - c63) = (x5 - x2) then
        if x4 = 1 then
          F_X8_beginsFrom_b94 m_marks m_sizes m_signed m_letters m_pages m_asked m_hangs m_cancels (fun m_in x1 x2 x3 x4 x5 x6 x7 x8 x9 => F_X8_beginsFrom_b49 m_marks m_sizes m_signed m_letters m_pages m_asked m_hangs m_cancels k28 n m_in x1 x2 x3 x4 x5 x6 x7 x8 x9) m_in x1 x2 x3 x4 x5 x6 x7 x8 x9 1 ((2 : Int32) * x3) x2 x1
        else
          F_X8_beginsFrom_b94 m_marks m_sizes m_signed m_letters m_pages m_asked m_hangs m_cancels (fun m_in x1 x2 x3 x4 x5 x6 x7 x8 x9 => F_X8_beginsFrom_b49 m_marks m_sizes m_signed m_letters m_pages m_asked m_hangs m_cancels k28 n m_in x1 x2 x3 x4 x5 x6 x7 x8 x9) m_in x1 x2 x3 x4 x5 x6 x7 x8 x9 0 ((2 : Int32) * x3) x2 x1
      else
        F_X8_beginsFrom_b112 m_marks m_sizes m_signed m_letters m_pages m_asked m_hangs m_cancels (fun m_in x1 x2 x3 x4 x5 x6 x7 x8 x9 => F_X8_beginsFrom_b49 m_marks m_sizes m_signed m_letters m_pages m_asked m_hangs m_cancels k28 n m_in x1 x2 x3 x4 x5 x6 x7 x8 x9) m_in x1 x2 x3 x4 x5 x6 x7 x8 x9
def F_X8_beginsFrom_b28 (m_marks : Nat → Int32) (m_sizes : Nat → Int32) (m_signed : Nat → Int32) (m_letters : Nat → Int32) (m_pages : Nat → Int32) (m_asked : Int32) (m_hangs : Nat → Int32) (m_cancels : Nat → Int32) (k3 : (Nat → Int32) → Int32 → Int32 → Int32 → Int32 → Int32 → Int32 → Int32 → Option (Bool × (Nat → Int32))) : Nat → (Nat → Int32) → Int32 → Int32 → Int32 → Int32 → Int32 → Int32 → Int32 → Int32 → Option (Bool × (Nat → Int32))
  | 0, _, _, _, _, _, _, _, _, _ => none
  | n + 1, m_in, x1, x2, x3, x4, x5, x6, x7, x8 =>
    if x7 < x8 then
      F_X8_beginsFrom_b127 m_marks m_sizes m_signed m_letters m_pages m_asked m_hangs m_cancels k3 m_in x1 x2 x3 x4 x5 x6 x7
    else
      if ((x5 - x2) + 4) < x8 then
        F_X8_beginsFrom_b127 m_marks m_sizes m_signed m_letters m_pages m_asked m_hangs m_cancels k3 m_in x1 x2 x3 x4 x5 x6 x7
      else
        F_X8_beginsFrom_b49 m_marks m_sizes m_signed m_letters m_pages m_asked m_hangs m_cancels (fun m_in x1 x2 x3 x4 x5 x6 x7 x8 => F_X8_beginsFrom_b28 m_marks m_sizes m_signed m_letters m_pages m_asked m_hangs m_cancels k3 n m_in x1 x2 x3 x4 x5 x6 x7 x8) FU m_in x1 x2 x3 x4 x5 x6 x7 x8 0
def F_X8_beginsFrom_b3 (m_marks : Nat → Int32) (m_sizes : Nat → Int32) (m_signed : Nat → Int32) (m_letters : Nat → Int32) (m_pages : Nat → Int32) (m_asked : Int32) (m_hangs : Nat → Int32) (m_cancels : Nat → Int32) : Nat → (Nat → Int32) → Int32 → Int32 → Int32 → Int32 → Int32 → Int32 → Int32 → Option (Bool × (Nat → Int32))
  | 0, _, _, _, _, _, _, _, _ => none
  | n + 1, m_in, x1, x2, x3, x4, x5, x6, x7 =>
    if 8 < x7 then
      some (false, m_in)
    else
      (F_X8_has m_sizes m_asked x7).bind fun c13 =>
      if (qb c13) = 0 then
        F_X8_beginsFrom_b127 m_marks m_sizes m_signed m_letters m_pages m_asked m_hangs m_cancels (fun m_in x1 x2 x3 x4 x5 x6 x7 => F_X8_beginsFrom_b3 m_marks m_sizes m_signed m_letters m_pages m_asked m_hangs m_cancels n m_in x1 x2 x3 x4 x5 x6 x7) m_in x1 x2 x3 x4 x5 x6 x7
      else
        F_X8_beginsFrom_b28 m_marks m_sizes m_signed m_letters m_pages m_asked m_hangs m_cancels (fun m_in x1 x2 x3 x4 x5 x6 x7 => F_X8_beginsFrom_b3 m_marks m_sizes m_signed m_letters m_pages m_asked m_hangs m_cancels n m_in x1 x2 x3 x4 x5 x6 x7) FU m_in x1 x2 x3 x4 x5 x6 x7 (x5 - x2)
def F_X8_beginsFrom (m_marks : Nat → Int32) (m_sizes : Nat → Int32) (m_signed : Nat → Int32) (m_letters : Nat → Int32) (m_pages : Nat → Int32) (m_asked : Int32) (m_hangs : Nat → Int32) (m_cancels : Nat → Int32) (m_in : Nat → Int32) (p0 : Int32) (p1 : Int32) (p2 : Int32) (p3 : Int32) (p4 : Int32) (p5 : Int32) : Option (Bool × (Nat → Int32)) :=
  F_X8_beginsFrom_b3 m_marks m_sizes m_signed m_letters m_pages m_asked m_hangs m_cancels FU m_in p0 p1 p2 p3 p4 p5 2
def F_X8_begins_b44 (m_marks : Nat → Int32) (m_sizes : Nat → Int32) (m_signed : Nat → Int32) (m_letters : Nat → Int32) (m_pages : Nat → Int32) (m_asked : Int32) (m_hangs : Nat → Int32) (m_cancels : Nat → Int32) (m_isMet : Nat → Int32) (k33 : (Nat → Int32) → Int32 → Int32 → Int32 → Int32 → Int32 → Option (Bool × (Nat → Int32))) : Nat → (Nat → Int32) → Int32 → Int32 → Int32 → Int32 → Int32 → Int32 → Option (Bool × (Nat → Int32))
  | 0, _, _, _, _, _, _, _ => none
  | n + 1, m_in, x1, x2, x3, x4, x5, x6 =>
    if 2 ≤ x6 then
      k33 m_in x1 x2 x3 x4 (x5 + 1)
    else
      (F_X8_state x3 x4 x5 x6).bind fun c62 =>
      ck (inb c62 18414) <|
      if (m_isMet c62.toNatClampNeg) = 0 then
        F_X8_begins_b44 m_marks m_sizes m_signed m_letters m_pages m_asked m_hangs m_cancels m_isMet k33 n m_in x1 x2 x3 x4 x5 (x6 + 1)
      else
        (F_X8_beginsFrom m_marks m_sizes m_signed m_letters m_pages m_asked m_hangs m_cancels m_in x3 x4 x5 x6 x1 x2).bind fun c79 =>
        if (qb c79.1) = 0 then
          F_X8_begins_b44 m_marks m_sizes m_signed m_letters m_pages m_asked m_hangs m_cancels m_isMet k33 n c79.2 x1 x2 x3 x4 x5 (x6 + 1)
        else
          some (true, c79.2)
def F_X8_begins_b33 (m_marks : Nat → Int32) (m_sizes : Nat → Int32) (m_signed : Nat → Int32) (m_letters : Nat → Int32) (m_pages : Nat → Int32) (m_asked : Int32) (m_hangs : Nat → Int32) (m_cancels : Nat → Int32) (m_isMet : Nat → Int32) (k24 : (Nat → Int32) → Int32 → Int32 → Int32 → Int32 → Option (Bool × (Nat → Int32))) : Nat → (Nat → Int32) → Int32 → Int32 → Int32 → Int32 → Int32 → Option (Bool × (Nat → Int32))
  | 0, _, _, _, _, _, _ => none
  | n + 1, m_in, x1, x2, x3, x4, x5 =>
    if ((4 : Int32) * x3) < x5 then
      k24 m_in x1 x2 x3 (x4 + 1)
    else
      F_X8_begins_b44 m_marks m_sizes m_signed m_letters m_pages m_asked m_hangs m_cancels m_isMet (fun m_in x1 x2 x3 x4 x5 => F_X8_begins_b33 m_marks m_sizes m_signed m_letters m_pages m_asked m_hangs m_cancels m_isMet k24 n m_in x1 x2 x3 x4 x5) FU m_in x1 x2 x3 x4 x5 0
def F_X8_begins_b24 (m_marks : Nat → Int32) (m_sizes : Nat → Int32) (m_signed : Nat → Int32) (m_letters : Nat → Int32) (m_pages : Nat → Int32) (m_asked : Int32) (m_hangs : Nat → Int32) (m_cancels : Nat → Int32) (m_isMet : Nat → Int32) (k2 : (Nat → Int32) → Int32 → Int32 → Int32 → Option (Bool × (Nat → Int32))) : Nat → (Nat → Int32) → Int32 → Int32 → Int32 → Int32 → Option (Bool × (Nat → Int32))
  | 0, _, _, _, _, _ => none
  | n + 1, m_in, x1, x2, x3, x4 =>
    if x1 ≤ x4 then
      k2 m_in x1 x2 (x3 + 1)
    else
      F_X8_begins_b33 m_marks m_sizes m_signed m_letters m_pages m_asked m_hangs m_cancels m_isMet (fun m_in x1 x2 x3 x4 => F_X8_begins_b24 m_marks m_sizes m_signed m_letters m_pages m_asked m_hangs m_cancels m_isMet k2 n m_in x1 x2 x3 x4) FU m_in x1 x2 x3 x4 0
def F_X8_begins_b2 (m_marks : Nat → Int32) (m_sizes : Nat → Int32) (m_signed : Nat → Int32) (m_letters : Nat → Int32) (m_pages : Nat → Int32) (m_asked : Int32) (m_hangs : Nat → Int32) (m_cancels : Nat → Int32) (m_isMet : Nat → Int32) : Nat → (Nat → Int32) → Int32 → Int32 → Int32 → Option (Bool × (Nat → Int32))
  | 0, _, _, _, _ => none
  | n + 1, m_in, x1, x2, x3 =>
    if 8 ≤ x3 then
      some (false, m_in)
    else
      if x1 ≤ 8 then
        F_X8_begins_b24 m_marks m_sizes m_signed m_letters m_pages m_asked m_hangs m_cancels m_isMet (fun m_in x1 x2 x3 => F_X8_begins_b2 m_marks m_sizes m_signed m_letters m_pages m_asked m_hangs m_cancels m_isMet n m_in x1 x2 x3) FU m_in x1 x2 x3 0
      else
        F_X8_begins_b24 m_marks m_sizes m_signed m_letters m_pages m_asked m_hangs m_cancels m_isMet (fun m_in x1 x2 x3 => F_X8_begins_b2 m_marks m_sizes m_signed m_letters m_pages m_asked m_hangs m_cancels m_isMet n m_in x1 x2 x3) FU m_in x1 x2 x3 (x1 - 8)
def F_X8_begins (m_marks : Nat → Int32) (m_sizes : Nat → Int32) (m_signed : Nat → Int32) (m_letters : Nat → Int32) (m_pages : Nat → Int32) (m_asked : Int32) (m_hangs : Nat → Int32) (m_cancels : Nat → Int32) (m_in : Nat → Int32) (m_isMet : Nat → Int32) (p0 : Int32) (p1 : Int32) : Option (Bool × (Nat → Int32)) :=
  F_X8_begins_b2 m_marks m_sizes m_signed m_letters m_pages m_asked m_hangs m_cancels m_isMet FU m_in p0 p1 0
def F_X8_why_b108 (m_many : Nat → Int32) (m_kinds : Nat → Int32) (m_marks : Nat → Int32) (m_sizes : Nat → Int32) (m_signed : Nat → Int32) (m_letters : Nat → Int32) (m_pages : Nat → Int32) (k37 : Int32 → Int32 → Int32 → (Nat → Int32) → (Nat → Int32) → (Nat → Int32) → (Nat → Int32) → (Nat → Int64) → (Nat → Int32) → Int32 → Int32 → Int32 → Option (Int32 × Int32 × Int32 × Int32 × (Nat → Int32) × (Nat → Int32) × (Nat → Int32) × (Nat → Int32) × (Nat → Int64) × (Nat → Int32))) (m_told : Int32) (m_asked : Int32) (m_hung : Int32) (m_hangs : Nat → Int32) (m_cancels : Nat → Int32) (m_in : Nat → Int32) (m_isMet : Nat → Int32) (m_ways : Nat → Int64) (m_fewest : Nat → Int32) (x1 : Int32) (x2 : Int32) (x3 : Int32) (x5 : Int32) : Option (Int32 × Int32 × Int32 × Int32 × (Nat → Int32) × (Nat → Int32) × (Nat → Int32) × (Nat → Int32) × (Nat → Int64) × (Nat → Int32)) :=
  (F_X8_begins m_marks m_sizes m_signed m_letters m_pages m_asked m_hangs m_cancels m_in m_isMet x2 x5).bind fun c112 =>
  if (qb c112.1) = 0 then
    some (x3, m_told, m_asked, m_hung, m_hangs, m_cancels, c112.2, m_isMet, m_ways, m_fewest)
  else
    k37 m_told m_asked m_hung m_hangs m_cancels c112.2 m_isMet m_ways m_fewest x1 x2 (x3 + 1)
def F_X8_why_b77 (m_many : Nat → Int32) (m_kinds : Nat → Int32) (m_marks : Nat → Int32) (m_sizes : Nat → Int32) (m_signed : Nat → Int32) (m_letters : Nat → Int32) (m_pages : Nat → Int32) (k37 : Int32 → Int32 → Int32 → (Nat → Int32) → (Nat → Int32) → (Nat → Int32) → (Nat → Int32) → (Nat → Int64) → (Nat → Int32) → Int32 → Int32 → Int32 → Option (Int32 × Int32 × Int32 × Int32 × (Nat → Int32) × (Nat → Int32) × (Nat → Int32) × (Nat → Int32) × (Nat → Int64) × (Nat → Int32))) (m_told : Int32) (m_asked : Int32) (m_hung : Int32) (m_hangs : Nat → Int32) (m_cancels : Nat → Int32) (m_in : Nat → Int32) (m_isMet : Nat → Int32) (m_ways : Nat → Int64) (m_fewest : Nat → Int32) (x1 : Int32) (x2 : Int32) (x3 : Int32) (x4 : Int32) (t0 : Int32) : Option (Int32 × Int32 × Int32 × Int32 × (Nat → Int32) × (Nat → Int32) × (Nat → Int32) × (Nat → Int32) × (Nat → Int64) × (Nat → Int32)) :=
  ck (inb x4 180) <|
  (F_X8_isHanging (m_kinds x4.toNatClampNeg)).bind fun c87 =>
  if (qb c87) = 0 then
    if t0 = 0 then
      k37 m_told m_asked m_hung m_hangs m_cancels m_in m_isMet m_ways m_fewest x1 x2 (x3 + 1)
    else
      F_X8_why_b108 m_many m_kinds m_marks m_sizes m_signed m_letters m_pages k37 m_told m_asked m_hung m_hangs m_cancels m_in m_isMet m_ways m_fewest x1 x2 x3 t0
  else
    F_X8_why_b108 m_many m_kinds m_marks m_sizes m_signed m_letters m_pages k37 m_told m_asked m_hung m_hangs m_cancels m_in m_isMet m_ways m_fewest x1 (x2 + 1) x3 t0
def F_X8_why_b37 (m_many : Nat → Int32) (m_kinds : Nat → Int32) (m_marks : Nat → Int32) (m_sizes : Nat → Int32) (m_signed : Nat → Int32) (m_letters : Nat → Int32) (m_pages : Nat → Int32) : Nat → Int32 → Int32 → Int32 → (Nat → Int32) → (Nat → Int32) → (Nat → Int32) → (Nat → Int32) → (Nat → Int64) → (Nat → Int32) → Int32 → Int32 → Int32 → Option (Int32 × Int32 × Int32 × Int32 × (Nat → Int32) × (Nat → Int32) × (Nat → Int32) × (Nat → Int32) × (Nat → Int64) × (Nat → Int32))
  | 0, _, _, _, _, _, _, _, _, _, _, _, _ => none
  | n + 1, m_told, m_asked, m_hung, m_hangs, m_cancels, m_in, m_isMet, m_ways, m_fewest, x1, x2, x3 =>
    ck (inb x1 6) <|
    if (m_many x1.toNatClampNeg) ≤ x3 then
      ck (inb x1 6) <|
      some (m_many x1.toNatClampNeg, m_told, m_asked, m_hung, m_hangs, m_cancels, m_in, m_isMet, m_ways, m_fewest)
    else
      if x2 ≤ 0 then
        F_X8_why_b77 m_many m_kinds m_marks m_sizes m_signed m_letters m_pages (fun m_told m_asked m_hung m_hangs m_cancels m_in m_isMet m_ways m_fewest x1 x2 x3 => F_X8_why_b37 m_many m_kinds m_marks m_sizes m_signed m_letters m_pages n m_told m_asked m_hung m_hangs m_cancels m_in m_isMet m_ways m_fewest x1 x2 x3) m_told m_asked m_hung m_hangs m_cancels m_in m_isMet m_ways m_fewest x1 x2 x3 (((30 : Int32) * x1) + x3) 0
      else
        ck (inb (x2 - 1) 30) <|
        if (m_cancels (x2 - 1).toNatClampNeg) = (((30 : Int32) * x1) + x3) then
          F_X8_why_b77 m_many m_kinds m_marks m_sizes m_signed m_letters m_pages (fun m_told m_asked m_hung m_hangs m_cancels m_in m_isMet m_ways m_fewest x1 x2 x3 => F_X8_why_b37 m_many m_kinds m_marks m_sizes m_signed m_letters m_pages n m_told m_asked m_hung m_hangs m_cancels m_in m_isMet m_ways m_fewest x1 x2 x3) m_told m_asked m_hung m_hangs m_cancels m_in m_isMet m_ways m_fewest x1 x2 x3 (((30 : Int32) * x1) + x3) 1
        else
          F_X8_why_b77 m_many m_kinds m_marks m_sizes m_signed m_letters m_pages (fun m_told m_asked m_hung m_hangs m_cancels m_in m_isMet m_ways m_fewest x1 x2 x3 => F_X8_why_b37 m_many m_kinds m_marks m_sizes m_signed m_letters m_pages n m_told m_asked m_hung m_hangs m_cancels m_in m_isMet m_ways m_fewest x1 x2 x3) m_told m_asked m_hung m_hangs m_cancels m_in m_isMet m_ways m_fewest x1 x2 x3 (((30 : Int32) * x1) + x3) 0
def F_X8_why (m_told : Int32) (m_many : Nat → Int32) (m_kinds : Nat → Int32) (m_marks : Nat → Int32) (m_sizes : Nat → Int32) (m_signed : Nat → Int32) (m_letters : Nat → Int32) (m_pages : Nat → Int32) (m_asked : Int32) (m_hung : Int32) (m_hangs : Nat → Int32) (m_cancels : Nat → Int32) (m_in : Nat → Int32) (m_isMet : Nat → Int32) (m_ways : Nat → Int64) (m_fewest : Nat → Int32) (p0 : Int32) : Option (Int32 × Int32 × Int32 × Int32 × (Nat → Int32) × (Nat → Int32) × (Nat → Int32) × (Nat → Int32) × (Nat → Int64) × (Nat → Int32)) :=
  (F_X8_isRow p0).bind fun c7 =>
  if (qb c7) = 0 then
    some ((-1), 0, m_asked, m_hung, m_hangs, m_cancels, m_in, m_isMet, m_ways, m_fewest)
  else
    (F_X8_goThrough m_many m_kinds m_marks m_sizes m_signed m_letters m_pages m_asked m_hung m_hangs m_cancels m_in m_isMet m_ways m_fewest p0).bind fun c17 =>
    ck (inb 0 18414) <|
    if (lg_cmp (c17.2.2.2.2.2.2.1 (0 : Int32).toNatClampNeg) 0) ≤ 0 then
      F_X8_why_b37 m_many m_kinds m_marks m_sizes m_signed m_letters m_pages FU 0 c17.1 c17.2.1 c17.2.2.1 c17.2.2.2.1 c17.2.2.2.2.1 c17.2.2.2.2.2.1 c17.2.2.2.2.2.2.1 c17.2.2.2.2.2.2.2 p0 0 0
    else
      some ((-1), 0, c17.1, c17.2.1, c17.2.2.1, c17.2.2.2.1, c17.2.2.2.2.1, c17.2.2.2.2.2.1, c17.2.2.2.2.2.2.1, c17.2.2.2.2.2.2.2)
def F_X8_ghosts_b17 (m_quires : Nat → Int32) (m_sizeOf : Nat → Int32) (m_placed : Nat → Int32) (k4 : Int32 → Int32 → Int32 → Option (Int32)) : Nat → Int32 → Int32 → Int32 → Int32 → Option (Int32)
  | 0, _, _, _, _ => none
  | n + 1, x1, x2, x3, x4 =>
    ck (inb (((8 : Int32) * x1) + x3) 40) <|
    if (m_sizeOf (((8 : Int32) * x1) + x3).toNatClampNeg) < x4 then
      k4 x1 x2 (x3 + 1)
    else
      (F_X8_at x1 x3 x4).bind fun c43 =>
      ck (inb c43 320) <|
      if (m_placed c43.toNatClampNeg) = (-2) then
        F_X8_ghosts_b17 m_quires m_sizeOf m_placed k4 n x1 (x2 + 1) x3 (x4 + 1)
      else
        F_X8_ghosts_b17 m_quires m_sizeOf m_placed k4 n x1 (x2 + 0) x3 (x4 + 1)
def F_X8_ghosts_b4 (m_quires : Nat → Int32) (m_sizeOf : Nat → Int32) (m_placed : Nat → Int32) : Nat → Int32 → Int32 → Int32 → Option (Int32)
  | 0, _, _, _ => none
  | n + 1, x1, x2, x3 =>
    ck (inb x1 5) <|
    if (m_quires x1.toNatClampNeg) ≤ x3 then
      some x2
    else
      F_X8_ghosts_b17 m_quires m_sizeOf m_placed (fun x1 x2 x3 => F_X8_ghosts_b4 m_quires m_sizeOf m_placed n x1 x2 x3) FU x1 x2 x3 1
def F_X8_ghosts (m_quires : Nat → Int32) (m_sizeOf : Nat → Int32) (m_placed : Nat → Int32) (p0 : Int32) : Option (Int32) :=
  F_X8_ghosts_b4 m_quires m_sizeOf m_placed FU p0 0 0
def F_X8_placesAhead_b8 (m_sizeOf : Nat → Int32) : Nat → Int32 → Int32 → Int32 → Int32 → Option (Int32)
  | 0, _, _, _, _ => none
  | n + 1, x1, x2, x4, x5 =>
    if x2 ≤ x5 then
      some x4
    else
      ck (inb (((8 : Int32) * x1) + x5) 40) <|
      F_X8_placesAhead_b8 m_sizeOf n x1 x2 (x4 + (m_sizeOf (((8 : Int32) * x1) + x5).toNatClampNeg)) (x5 + 1)
def F_X8_placesAhead (m_sizeOf : Nat → Int32) (p0 : Int32) (p1 : Int32) (p2 : Int32) : Option (Int32) :=
  F_X8_placesAhead_b8 m_sizeOf FU p0 p1 (p2 - 1) 0
def F_X8_folding (m_told : Int32) (m_isThere : Nat → Int32) (m_things : Nat → Int32) (m_quires : Nat → Int32) (m_firstLetter : Nat → Int32) (m_sizeOf : Nat → Int32) (m_placed : Nat → Int32) (p0 : Int32) : Option (Int32 × Int32) :=
  if p0 < 0 then
    some ((-1), 0)
  else
    if p0 ≤ 4 then
      ck (inb 0 5) <|
      if (m_isThere (0 : Int32).toNatClampNeg) = 0 then
        some (0, 0)
      else
        if p0 = 0 then
          ck (inb 0 5) <|
          some (m_quires (0 : Int32).toNatClampNeg, 0)
        else
          if p0 = 1 then
            ck (inb 0 5) <|
            some (m_things (0 : Int32).toNatClampNeg, 0)
          else
            if p0 = 2 then
              (F_X8_ghosts m_quires m_sizeOf m_placed 0).bind fun c57 =>
              some (c57, 0)
            else
              if p0 = 3 then
                ck (inb 0 5) <|
                (F_X8_placesAhead m_sizeOf 0 (m_quires (0 : Int32).toNatClampNeg) 1).bind fun c75 =>
                some (c75, 0)
              else
                ck (inb 0 5) <|
                some (m_firstLetter (0 : Int32).toNatClampNeg, 0)
    else
      some ((-1), 0)
def F_X8_isQuire_ (m_isThere : Nat → Int32) (m_quires : Nat → Int32) (p0 : Int32) (p1 : Int32) : Option (Bool) :=
  ck (inb p0 5) <|
  if (m_isThere p0.toNatClampNeg) = 0 then
    some false
  else
    if p1 < 0 then
      some false
    else
      ck (inb p0 5) <|
      if (m_quires p0.toNatClampNeg) ≤ p1 then
        some false
      else
        some true
def F_X8_isPlace (m_isThere : Nat → Int32) (m_quires : Nat → Int32) (m_sizeOf : Nat → Int32) (p0 : Int32) (p1 : Int32) (p2 : Int32) : Option (Bool) :=
  (F_X8_isQuire_ m_isThere m_quires p0 p1).bind fun c3 =>
  if (qb c3) = 0 then
    some false
  else
    if p2 < 1 then
      some false
    else
      ck (inb (((8 : Int32) * p0) + p1) 40) <|
      if (m_sizeOf (((8 : Int32) * p0) + p1).toNatClampNeg) < p2 then
        some false
      else
        some true
def F_X8_size (m_told : Int32) (m_isThere : Nat → Int32) (m_quires : Nat → Int32) (m_sizeOf : Nat → Int32) (p0 : Int32) : Option (Int32 × Int32) :=
  (F_X8_isQuire_ m_isThere m_quires 0 p0).bind fun c8 =>
  if (qb c8) = 0 then
    some ((-1), 0)
  else
    ck (inb p0 40) <|
    some (m_sizeOf p0.toNatClampNeg, 0)
def F_X8_place (m_told : Int32) (m_isThere : Nat → Int32) (m_quires : Nat → Int32) (m_sizeOf : Nat → Int32) (m_placed : Nat → Int32) (p0 : Int32) (p1 : Int32) : Option (Int32 × Int32) :=
  (F_X8_isPlace m_isThere m_quires m_sizeOf 0 p0 p1).bind fun c9 =>
  if (qb c9) = 0 then
    some ((-1), 0)
  else
    (F_X8_at 0 p0 p1).bind fun c23 =>
    ck (inb c23 320) <|
    some (m_placed c23.toNatClampNeg, 0)
def F_X8_thing_b54 (m_quires : Nat → Int32) (m_sizeOf : Nat → Int32) (m_placed : Nat → Int32) (k41 : Int32 → Int32 → Int32 → Int32 → Option (Int32 × Int32)) : Nat → Int32 → Int32 → Int32 → Int32 → Int32 → Option (Int32 × Int32)
  | 0, _, _, _, _, _ => none
  | n + 1, m_told, x1, x2, x3, x4 =>
    ck (inb x3 40) <|
    if (m_sizeOf x3.toNatClampNeg) < x4 then
      k41 m_told x1 x2 (x3 + 1)
    else
      (F_X8_at 0 x3 x4).bind fun c74 =>
      ck (inb c74 320) <|
      if (m_placed c74.toNatClampNeg) = x1 then
        if x2 = 0 then
          some (x3, m_told)
        else
          if x2 = 1 then
            some (x4, m_told)
          else
            ck (inb x3 40) <|
            (F_X8_at 0 x3 (((m_sizeOf x3.toNatClampNeg) + 1) - x4)).bind fun c119 =>
            ck (inb c119 320) <|
            some (m_placed c119.toNatClampNeg, m_told)
      else
        F_X8_thing_b54 m_quires m_sizeOf m_placed k41 n m_told x1 x2 x3 (x4 + 1)
def F_X8_thing_b41 (m_quires : Nat → Int32) (m_sizeOf : Nat → Int32) (m_placed : Nat → Int32) : Nat → Int32 → Int32 → Int32 → Int32 → Option (Int32 × Int32)
  | 0, _, _, _, _ => none
  | n + 1, m_told, x1, x2, x3 =>
    ck (inb 0 5) <|
    if (m_quires (0 : Int32).toNatClampNeg) ≤ x3 then
      some ((-1), m_told)
    else
      F_X8_thing_b54 m_quires m_sizeOf m_placed (fun m_told x1 x2 x3 => F_X8_thing_b41 m_quires m_sizeOf m_placed n m_told x1 x2 x3) FU m_told x1 x2 x3 1
def F_X8_thing (m_told : Int32) (m_isThere : Nat → Int32) (m_things : Nat → Int32) (m_quires : Nat → Int32) (m_sizeOf : Nat → Int32) (m_placed : Nat → Int32) (p0 : Int32) (p1 : Int32) : Option (Int32 × Int32) :=
  ck (inb 0 5) <|
  if (m_isThere (0 : Int32).toNatClampNeg) = 0 then
    some ((-1), 0)
  else
    if p0 < 0 then
      some ((-1), 0)
    else
      ck (inb 0 5) <|
      if (m_things (0 : Int32).toNatClampNeg) ≤ p0 then
        some ((-1), 0)
      else
        if p1 < 0 then
          some ((-1), 0)
        else
          if p1 ≤ 2 then
            F_X8_thing_b41 m_quires m_sizeOf m_placed FU 0 p0 p1 0
          else
            some ((-1), 0)
def F_X8_where_b114 (m_catchOf : Nat → Int32) (m_told : Int32) (t0 : Int32) : Option (Int32 × Int32) :=
  if t0 = (-2) then
    some (0, m_told)
  else
    ck (inb t0 150) <|
    some (m_catchOf t0.toNatClampNeg, m_told)
def F_X8_where_b71 (m_sizeOf : Nat → Int32) (m_placed : Nat → Int32) (m_catchOf : Nat → Int32) (m_told : Int32) (x1 : Int32) (x2 : Int32) : Option (Int32 × Int32) :=
  if x2 ≤ 1 then
    ck (inb (x1 - 1) 40) <|
    (F_X8_at 0 (x1 - 1) (m_sizeOf (x1 - 1).toNatClampNeg)).bind fun c110 =>
    ck (inb c110 320) <|
    F_X8_where_b114 m_catchOf m_told (m_placed c110.toNatClampNeg)
  else
    (F_X8_at 0 x1 (x2 - 1)).bind fun c86 =>
    ck (inb c86 320) <|
    F_X8_where_b114 m_catchOf m_told (m_placed c86.toNatClampNeg)
def F_X8_where (m_told : Int32) (m_isThere : Nat → Int32) (m_quires : Nat → Int32) (m_firstPage : Nat → Int32) (m_sizeOf : Nat → Int32) (m_placed : Nat → Int32) (m_catchOf : Nat → Int32) (p0 : Int32) (p1 : Int32) (p2 : Int32) : Option (Int32 × Int32) :=
  (F_X8_isPlace m_isThere m_quires m_sizeOf 0 p0 p1).bind fun c9 =>
  if (qb c9) = 0 then
    some ((-1), 0)
  else
    if p2 < 0 then
      some ((-1), 0)
    else
      if p2 ≤ 1 then
        if p2 = 0 then
          ck (inb 0 5) <|
          if (m_firstPage (0 : Int32).toNatClampNeg) = 0 then
            some (0, 0)
          else
            ck (inb 0 5) <|
            (F_X8_placesAhead m_sizeOf 0 p0 p1).bind fun c54 =>
            some ((m_firstPage (0 : Int32).toNatClampNeg) + ((2 : Int32) * c54), 0)
        else
          if p0 = 0 then
            if p1 = 1 then
              some (0, 0)
            else
              F_X8_where_b71 m_sizeOf m_placed m_catchOf 0 p0 p1
          else
            F_X8_where_b71 m_sizeOf m_placed m_catchOf 0 p0 p1
      else
        some ((-1), 0)
def F_X8_say (m_out : Nat → Int32) (m_outs : Int32) (p0 : Int32) : Option ((Nat → Int32) × Int32) :=
  ck (inb m_outs 2000) <|
  some (upd m_out m_outs.toNatClampNeg p0, m_outs + 1)
def F_X8_sign_b25 (x2 : Int32) : Option (Int32) :=
  if x2 < 87 then
    some x2
  else
    some (x2 + 1)
def F_X8_sign_b15 (x2 : Int32) : Option (Int32) :=
  if x2 < 85 then
    F_X8_sign_b25 x2
  else
    F_X8_sign_b25 (x2 + 1)
def F_X8_sign (p0 : Int32) : Option (Int32) :=
  if ((65 : Int32) + p0) < 74 then
    F_X8_sign_b15 ((65 : Int32) + p0)
  else
    F_X8_sign_b15 (((65 : Int32) + p0) + 1)
def F_X8_sayLetters (m_out : Nat → Int32) (m_outs : Int32) (p0 : Int32) : Option ((Nat → Int32) × Int32) :=
  (F_X8_sign ((p0 - 1) - (p0 - 1) / 23 * 23)).bind fun c7 =>
  (F_X8_say m_out m_outs c7).bind fun c13 =>
  if p0 ≤ 23 then
    some (c13.1, c13.2)
  else
    (F_X8_say c13.1 c13.2 c7).bind fun c24 =>
    some (c24.1, c24.2)
def F_X8_isCancelled (m_things : Nat → Int32) (m_kindOf : Nat → Int32) (p0 : Int32) (p1 : Int32) : Option (Bool) :=
  ck (inb (((30 : Int32) * p0) + p1) 150) <|
  if (m_kindOf (((30 : Int32) * p0) + p1).toNatClampNeg) = 2 then
    ck (inb p0 5) <|
    if (m_things p0.toNatClampNeg) ≤ (p1 + 1) then
      some false
    else
      ck (inb ((((30 : Int32) * p0) + p1) + 1) 150) <|
      if (m_kindOf ((((30 : Int32) * p0) + p1) + 1).toNatClampNeg) = 4 then
        some true
      else
        some false
  else
    some false
def F_X8_item_b15 (m_out : Nat → Int32) (m_outs : Int32) (m_items : Int32) (x1 : Int32) (x2 : Int32) (t0 : Int32) : Option ((Nat → Int32) × Int32 × Int32) :=
  (F_X8_say m_out m_outs t0).bind fun c15 =>
  (F_X8_say c15.1 c15.2 x1).bind fun c20 =>
  (F_X8_say c20.1 c20.2 ((48 : Int32) + x2)).bind fun c28 =>
  some (c28.1, c28.2, m_items + 1)
def F_X8_item (m_out : Nat → Int32) (m_outs : Int32) (m_items : Int32) (p0 : Int32) (p1 : Int32) : Option ((Nat → Int32) × Int32 × Int32) :=
  if m_items = 0 then
    F_X8_item_b15 m_out m_outs m_items p0 p1 40
  else
    F_X8_item_b15 m_out m_outs m_items p0 p1 44
def F_X8_extras_b83 (m_things : Nat → Int32) (m_kindOf : Nat → Int32) (k4 : (Nat → Int32) → Int32 → Int32 → Int32 → Int32 → Int32 → Option ((Nat → Int32) × Int32 × Int32)) (m_out : Nat → Int32) (m_outs : Int32) (m_items : Int32) (x1 : Int32) (x2 : Int32) (x3 : Int32) (t0 : Int32) : Option ((Nat → Int32) × Int32 × Int32) :=
  (F_X8_item m_out m_outs m_items t0 x2).bind fun c84 =>
  k4 c84.1 c84.2.1 c84.2.2 x1 x2 (x3 + 1)
def F_X8_extras_b50 (m_things : Nat → Int32) (m_kindOf : Nat → Int32) (k4 : (Nat → Int32) → Int32 → Int32 → Int32 → Int32 → Int32 → Option ((Nat → Int32) × Int32 × Int32)) (m_out : Nat → Int32) (m_outs : Int32) (m_items : Int32) (x1 : Int32) (x2 : Int32) (x3 : Int32) : Option ((Nat → Int32) × Int32 × Int32) :=
  ck (inb x3 150) <|
  if (m_kindOf x3.toNatClampNeg) = 3 then
    F_X8_extras_b83 m_things m_kindOf k4 m_out m_outs m_items x1 x2 x3 103
  else
    ck (inb x3 150) <|
    if (m_kindOf x3.toNatClampNeg) = 4 then
      F_X8_extras_b83 m_things m_kindOf k4 m_out m_outs m_items x1 x2 x3 107
    else
      F_X8_extras_b83 m_things m_kindOf k4 m_out m_outs m_items x1 x2 x3 112
def F_X8_extras_b4 (m_things : Nat → Int32) (m_kindOf : Nat → Int32) : Nat → (Nat → Int32) → Int32 → Int32 → Int32 → Int32 → Int32 → Option ((Nat → Int32) × Int32 × Int32)
  | 0, _, _, _, _, _, _ => none
  | n + 1, m_out, m_outs, m_items, x1, x2, x3 =>
    ck (inb 0 5) <|
    if (m_things (0 : Int32).toNatClampNeg) ≤ x3 then
      some (m_out, m_outs, m_items)
    else
      ck (inb x3 150) <|
      (F_X8_isHanging (m_kindOf x3.toNatClampNeg)).bind fun c21 =>
      if (qb c21) = 0 then
        if x3 = (x1 + 1) then
          if x1 < 0 then
            F_X8_extras_b50 m_things m_kindOf (fun m_out m_outs m_items x1 x2 x3 => F_X8_extras_b4 m_things m_kindOf n m_out m_outs m_items x1 x2 x3) m_out m_outs m_items x1 x2 x3
          else
            (F_X8_isCancelled m_things m_kindOf 0 x1).bind fun c41 =>
            if (qb c41) = 0 then
              F_X8_extras_b50 m_things m_kindOf (fun m_out m_outs m_items x1 x2 x3 => F_X8_extras_b4 m_things m_kindOf n m_out m_outs m_items x1 x2 x3) m_out m_outs m_items x1 x2 x3
            else
              F_X8_extras_b4 m_things m_kindOf n m_out m_outs m_items x1 x2 (x3 + 1)
        else
          F_X8_extras_b50 m_things m_kindOf (fun m_out m_outs m_items x1 x2 x3 => F_X8_extras_b4 m_things m_kindOf n m_out m_outs m_items x1 x2 x3) m_out m_outs m_items x1 x2 x3
      else
        some (m_out, m_outs, m_items)
def F_X8_extras (m_things : Nat → Int32) (m_kindOf : Nat → Int32) (m_out : Nat → Int32) (m_outs : Int32) (m_items : Int32) (p0 : Int32) (p1 : Int32) : Option ((Nat → Int32) × Int32 × Int32) :=
  F_X8_extras_b4 m_things m_kindOf FU m_out m_outs m_items p0 p1 (p0 + 1)
def F_X8_items_b87 (m_things : Nat → Int32) (m_sizeOf : Nat → Int32) (m_placed : Nat → Int32) (m_kindOf : Nat → Int32) (k17 : (Nat → Int32) → Int32 → Int32 → Int32 → Int32 → Option ((Nat → Int32) × Int32 × Int32)) (m_out : Nat → Int32) (m_outs : Int32) (m_items : Int32) (x1 : Int32) (x2 : Int32) (x3 : Int32) : Option ((Nat → Int32) × Int32 × Int32) :=
  (F_X8_extras m_things m_kindOf m_out m_outs m_items x3 x2).bind fun c90 =>
  k17 c90.1 c90.2.1 c90.2.2 x1 (x2 + 1)
def F_X8_items_b83 (m_things : Nat → Int32) (m_sizeOf : Nat → Int32) (m_placed : Nat → Int32) (m_kindOf : Nat → Int32) (k17 : (Nat → Int32) → Int32 → Int32 → Int32 → Int32 → Option ((Nat → Int32) × Int32 × Int32)) (m_out : Nat → Int32) (m_outs : Int32) (m_items : Int32) (x1 : Int32) (x2 : Int32) (x3 : Int32) (t0 : Int32) : Option ((Nat → Int32) × Int32 × Int32) :=
  (F_X8_item m_out m_outs m_items t0 x2).bind fun c84 =>
  F_X8_items_b87 m_things m_sizeOf m_placed m_kindOf k17 c84.1 c84.2.1 c84.2.2 x1 x2 x3
def F_X8_items_b17 (m_things : Nat → Int32) (m_sizeOf : Nat → Int32) (m_placed : Nat → Int32) (m_kindOf : Nat → Int32) : Nat → (Nat → Int32) → Int32 → Int32 → Int32 → Int32 → Option ((Nat → Int32) × Int32 × Int32)
  | 0, _, _, _, _, _ => none
  | n + 1, m_out, m_outs, m_items, x1, x2 =>
    ck (inb x1 40) <|
    if (m_sizeOf x1.toNatClampNeg) < x2 then
      if m_items ≤ 0 then
        some (m_out, m_outs, m_items)
      else
        (F_X8_say m_out m_outs 41).bind fun c109 =>
        some (c109.1, c109.2, m_items)
    else
      (F_X8_at 0 x1 x2).bind fun c35 =>
      ck (inb c35 320) <|
      if (m_placed c35.toNatClampNeg) = (-2) then
        (F_X8_item m_out m_outs m_items 45 x2).bind fun c50 =>
        F_X8_items_b17 m_things m_sizeOf m_placed m_kindOf n c50.1 c50.2.1 c50.2.2 x1 (x2 + 1)
      else
        ck (inb (m_placed c35.toNatClampNeg) 150) <|
        if (m_kindOf (m_placed c35.toNatClampNeg).toNatClampNeg) = 2 then
          (F_X8_isCancelled m_things m_kindOf 0 (m_placed c35.toNatClampNeg)).bind fun c70 =>
          if (qb c70) = 0 then
            F_X8_items_b83 m_things m_sizeOf m_placed m_kindOf (fun m_out m_outs m_items x1 x2 => F_X8_items_b17 m_things m_sizeOf m_placed m_kindOf n m_out m_outs m_items x1 x2) m_out m_outs m_items x1 x2 (m_placed c35.toNatClampNeg) 115
          else
            F_X8_items_b83 m_things m_sizeOf m_placed m_kindOf (fun m_out m_outs m_items x1 x2 => F_X8_items_b17 m_things m_sizeOf m_placed m_kindOf n m_out m_outs m_items x1 x2) m_out m_outs m_items x1 x2 (m_placed c35.toNatClampNeg) 99
        else
          F_X8_items_b87 m_things m_sizeOf m_placed m_kindOf (fun m_out m_outs m_items x1 x2 => F_X8_items_b17 m_things m_sizeOf m_placed m_kindOf n m_out m_outs m_items x1 x2) m_out m_outs m_items x1 x2 (m_placed c35.toNatClampNeg)
def F_X8_items (m_things : Nat → Int32) (m_sizeOf : Nat → Int32) (m_placed : Nat → Int32) (m_kindOf : Nat → Int32) (m_out : Nat → Int32) (m_outs : Int32) (m_items : Int32) (p0 : Int32) : Option ((Nat → Int32) × Int32 × Int32) :=
  if p0 = 0 then
    (F_X8_extras m_things m_kindOf m_out m_outs 0 (-1) 0).bind fun c12 =>
    F_X8_items_b17 m_things m_sizeOf m_placed m_kindOf FU c12.1 c12.2.1 c12.2.2 p0 1
  else
    F_X8_items_b17 m_things m_sizeOf m_placed m_kindOf FU m_out m_outs 0 p0 1
def F_X8_isPlain_b30 (m_things : Nat → Int32) (m_sizeOf : Nat → Int32) (m_placed : Nat → Int32) (m_kindOf : Nat → Int32) : Nat → Int32 → Int32 → Option (Bool)
  | 0, _, _ => none
  | n + 1, x1, x2 =>
    ck (inb x1 40) <|
    if (m_sizeOf x1.toNatClampNeg) < x2 then
      some true
    else
      (F_X8_at 0 x1 x2).bind fun c48 =>
      ck (inb c48 320) <|
      if (m_placed c48.toNatClampNeg) = (-2) then
        some false
      else
        ck (inb (m_placed c48.toNatClampNeg) 150) <|
        if (m_kindOf (m_placed c48.toNatClampNeg).toNatClampNeg) = 1 then
          ck (inb 0 5) <|
          if (m_things (0 : Int32).toNatClampNeg) ≤ ((m_placed c48.toNatClampNeg) + 1) then
            F_X8_isPlain_b30 m_things m_sizeOf m_placed m_kindOf n x1 (x2 + 1)
          else
            ck (inb ((m_placed c48.toNatClampNeg) + 1) 150) <|
            (F_X8_isHanging (m_kindOf ((m_placed c48.toNatClampNeg) + 1).toNatClampNeg)).bind fun c90 =>
            if (qb c90) = 0 then
              some false
            else
              F_X8_isPlain_b30 m_things m_sizeOf m_placed m_kindOf n x1 (x2 + 1)
        else
          some false
def F_X8_isPlain (m_things : Nat → Int32) (m_sizeOf : Nat → Int32) (m_placed : Nat → Int32) (m_kindOf : Nat → Int32) (p0 : Int32) : Option (Bool) :=
  if p0 = 0 then
    ck (inb 0 5) <|
    if (m_things (0 : Int32).toNatClampNeg) ≤ 0 then
      F_X8_isPlain_b30 m_things m_sizeOf m_placed m_kindOf FU p0 1
    else
      ck (inb 0 150) <|
      (F_X8_isHanging (m_kindOf (0 : Int32).toNatClampNeg)).bind fun c20 =>
      if (qb c20) = 0 then
        some false
      else
        F_X8_isPlain_b30 m_things m_sizeOf m_placed m_kindOf FU p0 1
  else
    F_X8_isPlain_b30 m_things m_sizeOf m_placed m_kindOf FU p0 1
def F_X8_write_b85 (m_things : Nat → Int32) (m_quires : Nat → Int32) (m_firstLetter : Nat → Int32) (m_sizeOf : Nat → Int32) (m_placed : Nat → Int32) (m_kindOf : Nat → Int32) (k23 : Int32 → (Nat → Int32) → Int32 → Int32 → Int32 → Option (Int32 × Int32 × (Nat → Int32) × Int32 × Int32)) (m_told : Int32) (m_out : Nat → Int32) (m_outs : Int32) (m_items : Int32) (x1 : Int32) (x2 : Int32) : Option (Int32 × Int32 × (Nat → Int32) × Int32 × Int32) :=
  ck (inb 0 5) <|
  (F_X8_sayLetters m_out m_outs ((m_firstLetter (0 : Int32).toNatClampNeg) + x1)).bind fun c94 =>
  if (x2 - x1) < 3 then
    ck (inb x1 40) <|
    (F_X8_say c94.1 c94.2 ((48 : Int32) + (m_sizeOf x1.toNatClampNeg))).bind fun c152 =>
    (F_X8_items m_things m_sizeOf m_placed m_kindOf c152.1 c152.2 m_items x1).bind fun c157 =>
    k23 m_told c157.1 c157.2.1 c157.2.2 (x1 + 1)
  else
    (F_X8_say c94.1 c94.2 45).bind fun c107 =>
    ck (inb 0 5) <|
    (F_X8_sayLetters c107.1 c107.2 (((m_firstLetter (0 : Int32).toNatClampNeg) + x2) - 1)).bind fun c121 =>
    ck (inb x1 40) <|
    (F_X8_say c121.1 c121.2 ((48 : Int32) + (m_sizeOf x1.toNatClampNeg))).bind fun c134 =>
    k23 m_told c134.1 c134.2 m_items x2
def F_X8_write_b45 (m_things : Nat → Int32) (m_quires : Nat → Int32) (m_firstLetter : Nat → Int32) (m_sizeOf : Nat → Int32) (m_placed : Nat → Int32) (m_kindOf : Nat → Int32) (k23 : Int32 → (Nat → Int32) → Int32 → Int32 → Int32 → Option (Int32 × Int32 × (Nat → Int32) × Int32 × Int32)) : Nat → Int32 → (Nat → Int32) → Int32 → Int32 → Int32 → Int32 → Option (Int32 × Int32 × (Nat → Int32) × Int32 × Int32)
  | 0, _, _, _, _, _, _ => none
  | n + 1, m_told, m_out, m_outs, m_items, x1, x2 =>
    ck (inb 0 5) <|
    if (m_quires (0 : Int32).toNatClampNeg) ≤ x2 then
      F_X8_write_b85 m_things m_quires m_firstLetter m_sizeOf m_placed m_kindOf k23 m_told m_out m_outs m_items x1 x2
    else
      ck (inb x2 40) <|
      ck (inb x1 40) <|
      if (m_sizeOf x2.toNatClampNeg) = (m_sizeOf x1.toNatClampNeg) then
        (F_X8_isPlain m_things m_sizeOf m_placed m_kindOf x2).bind fun c72 =>
        if (qb c72) = 0 then
          F_X8_write_b85 m_things m_quires m_firstLetter m_sizeOf m_placed m_kindOf k23 m_told m_out m_outs m_items x1 x2
        else
          F_X8_write_b45 m_things m_quires m_firstLetter m_sizeOf m_placed m_kindOf k23 n m_told m_out m_outs m_items x1 (x2 + 1)
      else
        F_X8_write_b85 m_things m_quires m_firstLetter m_sizeOf m_placed m_kindOf k23 m_told m_out m_outs m_items x1 x2
def F_X8_write_b23 (m_things : Nat → Int32) (m_quires : Nat → Int32) (m_firstLetter : Nat → Int32) (m_sizeOf : Nat → Int32) (m_placed : Nat → Int32) (m_kindOf : Nat → Int32) : Nat → Int32 → (Nat → Int32) → Int32 → Int32 → Int32 → Option (Int32 × Int32 × (Nat → Int32) × Int32 × Int32)
  | 0, _, _, _, _, _ => none
  | n + 1, m_told, m_out, m_outs, m_items, x1 =>
    ck (inb 0 5) <|
    if (m_quires (0 : Int32).toNatClampNeg) ≤ x1 then
      some (m_outs, m_told, m_out, m_outs, m_items)
    else
      if x1 ≤ 0 then
        F_X8_write_b45 m_things m_quires m_firstLetter m_sizeOf m_placed m_kindOf (fun m_told m_out m_outs m_items x1 => F_X8_write_b23 m_things m_quires m_firstLetter m_sizeOf m_placed m_kindOf n m_told m_out m_outs m_items x1) FU m_told m_out m_outs m_items x1 x1
      else
        (F_X8_say m_out m_outs 32).bind fun c40 =>
        F_X8_write_b45 m_things m_quires m_firstLetter m_sizeOf m_placed m_kindOf (fun m_told m_out m_outs m_items x1 => F_X8_write_b23 m_things m_quires m_firstLetter m_sizeOf m_placed m_kindOf n m_told m_out m_outs m_items x1) FU m_told c40.1 c40.2 m_items x1 x1
def F_X8_write (m_told : Int32) (m_isThere : Nat → Int32) (m_things : Nat → Int32) (m_quires : Nat → Int32) (m_firstLetter : Nat → Int32) (m_sizeOf : Nat → Int32) (m_placed : Nat → Int32) (m_kindOf : Nat → Int32) (m_out : Nat → Int32) (m_outs : Int32) (m_items : Int32) : Option (Int32 × Int32 × (Nat → Int32) × Int32 × Int32) :=
  ck (inb 0 5) <|
  if (m_isThere (0 : Int32).toNatClampNeg) = 0 then
    some ((-1), 0, m_out, m_outs, m_items)
  else
    F_X8_write_b23 m_things m_quires m_firstLetter m_sizeOf m_placed m_kindOf FU 0 m_out 0 m_items 0
def F_X8_out (m_told : Int32) (m_out : Nat → Int32) (m_outs : Int32) (p0 : Int32) : Option (Int32 × Int32) :=
  if p0 < 0 then
    some ((-1), 0)
  else
    if m_outs ≤ p0 then
      some ((-1), 0)
    else
      ck (inb p0 2000) <|
      some (m_out p0.toNatClampNeg, 0)
def F_X8_puts_b3 : Nat → (Nat → Int32) → Int32 → Int32 → Int32 → Option ((Nat → Int32) × Int32)
  | 0, _, _, _, _ => none
  | n + 1, m_tape, m_taped, x1, x2 =>
    if x2 < 0 then
      some (m_tape, m_taped)
    else
      ck (inb m_taped 400) <|
      F_X8_puts_b3 n (upd m_tape m_taped.toNatClampNeg ((x1 >>> (x2 &&& 31)) &&& 255)) (m_taped + 1) x1 (x2 + (-8))
def F_X8_puts (m_tape : Nat → Int32) (m_taped : Int32) (p0 : Int32) : Option ((Nat → Int32) × Int32) :=
  F_X8_puts_b3 FU m_tape m_taped p0 24
def F_X8_feed (m_told : Int32) (m_tape : Nat → Int32) (m_taped : Int32) (p0 : Int32) (p1 : Int32) (p2 : Int32) (p3 : Int32) (p4 : Int32) : Option (Int32 × Int32 × (Nat → Int32) × Int32) :=
  if (m_taped + 20) ≤ 400 then
    (F_X8_puts m_tape m_taped p0).bind fun c22 =>
    (F_X8_puts c22.1 c22.2 p1).bind fun c27 =>
    (F_X8_puts c27.1 c27.2 p2).bind fun c32 =>
    (F_X8_puts c32.1 c32.2 p3).bind fun c38 =>
    (F_X8_puts c38.1 c38.2 p4).bind fun c44 =>
    some (c44.2, 0, c44.1, c44.2)
  else
    some ((-1), 0, m_tape, m_taped)
def F_X8_end (m_told : Int32) (m_taped : Int32) (p0 : Int32) : Option (Int32 × Int32 × Int32) :=
  if p0 < 0 then
    some ((-1), 0, m_taped)
  else
    if p0 ≤ m_taped then
      some (p0, 0, p0)
    else
      some ((-1), 0, m_taped)
def F_X8_take__b31 (m_out : Nat → Int32) : Nat → Int32 → (Nat → Int32) → Int32 → Int32 → Option (Int32 × Int32 × (Nat → Int32) × Int32)
  | 0, _, _, _, _ => none
  | n + 1, m_told, m_tape, m_taped, x1 =>
    if m_taped ≤ x1 then
      some (m_taped, m_told, m_tape, m_taped)
    else
      ck (inb x1 2000) <|
      ck (inb x1 400) <|
      F_X8_take__b31 m_out n m_told (upd m_tape x1.toNatClampNeg (m_out x1.toNatClampNeg)) m_taped (x1 + 1)
def F_X8_take_ (m_told : Int32) (m_out : Nat → Int32) (m_outs : Int32) (m_tape : Nat → Int32) (m_taped : Int32) : Option (Int32 × Int32 × (Nat → Int32) × Int32) :=
  if 400 ≤ m_outs then
    F_X8_take__b31 m_out FU 0 m_tape 400 0
  else
    F_X8_take__b31 m_out FU 0 m_tape m_outs 0
def F_X8_raw (m_tape : Nat → Int32) (m_taped : Int32) (m_reads : Int32) : Option (Int32) :=
  if m_taped ≤ m_reads then
    some (-1)
  else
    ck (inb m_reads 400) <|
    some (m_tape m_reads.toNatClampNeg)
def F_X8_isBlank (p0 : Int32) : Option (Bool) :=
  if p0 = 32 then
    some true
  else
    some false
def F_X8_numberOf_b2 : Nat → Int32 → Int32 → Option (Int32)
  | 0, _, _ => none
  | n + 1, x1, x2 =>
    if 23 ≤ x2 then
      some (-1)
    else
      (F_X8_sign x2).bind fun c10 =>
      if c10 = x1 then
        some (x2 + 1)
      else
        F_X8_numberOf_b2 n x1 (x2 + 1)
def F_X8_numberOf (p0 : Int32) : Option (Int32) :=
  F_X8_numberOf_b2 FU p0 0
def F_X8_readLetters (m_tape : Nat → Int32) (m_taped : Int32) (m_reads : Int32) : Option (Int32 × Int32) :=
  (F_X8_raw m_tape m_taped m_reads).bind fun c2 =>
  (F_X8_numberOf c2).bind fun c5 =>
  if c5 = (-1) then
    some ((-1), m_reads)
  else
    (F_X8_raw m_tape m_taped m_reads).bind fun c17 =>
    (F_X8_raw m_tape m_taped (m_reads + 1)).bind fun c32 =>
    if c32 = c17 then
      some (c5 + 23, (m_reads + 1) + 1)
    else
      some (c5, m_reads + 1)
def F_X8_fails (m_faultKind : Int32) (m_faultPlace : Int32) (p0 : Int32) (p1 : Int32) : Option (Int32 × Int32 × Int32) :=
  some ((-1), p0, p1)
def F_X8_adds (m_newThings : Int32) (m_newKind : Nat → Int32) (p0 : Int32) : Option (Int32 × (Nat → Int32)) :=
  if 64 ≤ m_newThings then
    some (m_newThings + 1, m_newKind)
  else
    ck (inb m_newThings 64) <|
    some (m_newThings + 1, upd m_newKind m_newThings.toNatClampNeg p0)
def F_X8_readItems_b121 (m_faultKind : Int32) (m_faultPlace : Int32) (m_reads : Int32) (m_codes : Nat → Int32) (m_extraPlace : Nat → Int32) (m_extraKind : Nat → Int32) (m_extras : Int32) : Option (Int32 × Int32 × Int32 × Int32 × (Nat → Int32) × (Nat → Int32) × (Nat → Int32) × Int32) :=
  (F_X8_fails m_faultKind m_faultPlace 1 m_reads).bind fun c127 =>
  some (c127.1, c127.2.1, c127.2.2, m_reads, m_codes, m_extraPlace, m_extraKind, m_extras)
def F_X8_readItems_b421 (m_tape : Nat → Int32) (m_taped : Int32) (m_newQuires : Int32) (k10 : Int32 → Int32 → Int32 → (Nat → Int32) → (Nat → Int32) → (Nat → Int32) → Int32 → Int32 → Int32 → Int32 → Int32 → Int32 → Option (Int32 × Int32 × Int32 × Int32 × (Nat → Int32) × (Nat → Int32) × (Nat → Int32) × Int32)) (m_faultKind : Int32) (m_faultPlace : Int32) (m_reads : Int32) (m_codes : Nat → Int32) (m_extraPlace : Nat → Int32) (m_extraKind : Nat → Int32) (m_extras : Int32) (x1 : Int32) (x7 : Int32) (x9 : Int32) (t0 : Int32) (t1 : Int32) : Option (Int32 × Int32 × Int32 × Int32 × (Nat → Int32) × (Nat → Int32) × (Nat → Int32) × Int32) :=
  (F_X8_raw m_tape m_taped (m_reads + 1)).bind fun c444 =>
  if c444 = 44 then
    k10 m_faultKind m_faultPlace (m_reads + 1) m_codes m_extraPlace m_extraKind m_extras x1 x9 1 (t1 + t0) x7
  else
    (F_X8_raw m_tape m_taped (m_reads + 1)).bind fun c453 =>
    if c453 = 41 then
      some (0, m_faultKind, m_faultPlace, (m_reads + 1) + 1, m_codes, m_extraPlace, m_extraKind, m_extras)
    else
      (F_X8_fails m_faultKind m_faultPlace 1 (m_reads + 1)).bind fun c467 =>
      some (c467.1, c467.2.1, c467.2.2, m_reads + 1, m_codes, m_extraPlace, m_extraKind, m_extras)
def F_X8_readItems_b407 (m_tape : Nat → Int32) (m_taped : Int32) (m_newQuires : Int32) (k10 : Int32 → Int32 → Int32 → (Nat → Int32) → (Nat → Int32) → (Nat → Int32) → Int32 → Int32 → Int32 → Int32 → Int32 → Int32 → Option (Int32 × Int32 × Int32 × Int32 × (Nat → Int32) × (Nat → Int32) × (Nat → Int32) × Int32)) (m_faultKind : Int32) (m_faultPlace : Int32) (m_reads : Int32) (m_codes : Nat → Int32) (m_extraPlace : Nat → Int32) (m_extraKind : Nat → Int32) (m_extras : Int32) (x1 : Int32) (x4 : Int32) (x7 : Int32) (x9 : Int32) : Option (Int32 × Int32 × Int32 × Int32 × (Nat → Int32) × (Nat → Int32) × (Nat → Int32) × Int32) :=
  if x7 = 45 then
    F_X8_readItems_b421 m_tape m_taped m_newQuires k10 m_faultKind m_faultPlace m_reads m_codes m_extraPlace m_extraKind m_extras x1 x7 x9 1 x4
  else
    F_X8_readItems_b421 m_tape m_taped m_newQuires k10 m_faultKind m_faultPlace m_reads m_codes m_extraPlace m_extraKind m_extras x1 x7 x9 0 x4
def F_X8_readItems_b396 (m_tape : Nat → Int32) (m_taped : Int32) (m_newQuires : Int32) (k10 : Int32 → Int32 → Int32 → (Nat → Int32) → (Nat → Int32) → (Nat → Int32) → Int32 → Int32 → Int32 → Int32 → Int32 → Int32 → Option (Int32 × Int32 × Int32 × Int32 × (Nat → Int32) × (Nat → Int32) × (Nat → Int32) × Int32)) (m_faultKind : Int32) (m_faultPlace : Int32) (m_reads : Int32) (m_codes : Nat → Int32) (m_extraPlace : Nat → Int32) (m_extraKind : Nat → Int32) (m_extras : Int32) (x1 : Int32) (x4 : Int32) (x7 : Int32) (x9 : Int32) (t0 : Int32) (t1 : Int32) : Option (Int32 × Int32 × Int32 × Int32 × (Nat → Int32) × (Nat → Int32) × (Nat → Int32) × Int32) :=
  ck (inb t1 200) <|
  F_X8_readItems_b407 m_tape m_taped m_newQuires k10 m_faultKind m_faultPlace m_reads m_codes m_extraPlace (upd m_extraKind t1.toNatClampNeg t0) (m_extras + 1) x1 x4 x7 x9
def F_X8_readItems_b302 (m_tape : Nat → Int32) (m_taped : Int32) (m_newQuires : Int32) (k10 : Int32 → Int32 → Int32 → (Nat → Int32) → (Nat → Int32) → (Nat → Int32) → Int32 → Int32 → Int32 → Int32 → Int32 → Int32 → Option (Int32 × Int32 × Int32 × Int32 × (Nat → Int32) × (Nat → Int32) × (Nat → Int32) × Int32)) (m_faultKind : Int32) (m_faultPlace : Int32) (m_reads : Int32) (m_codes : Nat → Int32) (m_extraPlace : Nat → Int32) (m_extraKind : Nat → Int32) (m_extras : Int32) (x1 : Int32) (x4 : Int32) (x7 : Int32) (x8 : Int32) (x9 : Int32) (x10 : Int32) (x12 : Int32) : Option (Int32 × Int32 × Int32 × Int32 × (Nat → Int32) × (Nat → Int32) × (Nat → Int32) × Int32) :=
  if x12 = 0 then
    (F_X8_fails m_faultKind m_faultPlace 3 x8).bind fun c311 =>
    some (c311.1, c311.2.1, c311.2.2, m_reads, m_codes, m_extraPlace, m_extraKind, m_extras)
  else
    if x10 = 0 then
      ck (inb m_extras 200) <|
      if x7 = 103 then
        F_X8_readItems_b396 m_tape m_taped m_newQuires k10 m_faultKind m_faultPlace m_reads m_codes (upd m_extraPlace m_extras.toNatClampNeg x9) m_extraKind m_extras x1 x4 x7 x9 3 m_extras
      else
        if x7 = 107 then
          F_X8_readItems_b396 m_tape m_taped m_newQuires k10 m_faultKind m_faultPlace m_reads m_codes (upd m_extraPlace m_extras.toNatClampNeg x9) m_extraKind m_extras x1 x4 x7 x9 4 m_extras
        else
          F_X8_readItems_b396 m_tape m_taped m_newQuires k10 m_faultKind m_faultPlace m_reads m_codes (upd m_extraPlace m_extras.toNatClampNeg x9) m_extraKind m_extras x1 x4 x7 x9 5 m_extras
    else
      if x7 = 45 then
        ck (inb x9 9) <|
        F_X8_readItems_b407 m_tape m_taped m_newQuires k10 m_faultKind m_faultPlace m_reads (upd m_codes x9.toNatClampNeg (-2)) m_extraPlace m_extraKind m_extras x1 x4 x7 x9
      else
        if x7 = 115 then
          ck (inb x9 9) <|
          F_X8_readItems_b407 m_tape m_taped m_newQuires k10 m_faultKind m_faultPlace m_reads (upd m_codes x9.toNatClampNeg 2) m_extraPlace m_extraKind m_extras x1 x4 x7 x9
        else
          ck (inb x9 9) <|
          F_X8_readItems_b407 m_tape m_taped m_newQuires k10 m_faultKind m_faultPlace m_reads (upd m_codes x9.toNatClampNeg 4) m_extraPlace m_extraKind m_extras x1 x4 x7 x9
def F_X8_readItems_b281 (m_tape : Nat → Int32) (m_taped : Int32) (m_newQuires : Int32) (k10 : Int32 → Int32 → Int32 → (Nat → Int32) → (Nat → Int32) → (Nat → Int32) → Int32 → Int32 → Int32 → Int32 → Int32 → Int32 → Option (Int32 × Int32 × Int32 × Int32 × (Nat → Int32) × (Nat → Int32) × (Nat → Int32) × Int32)) (m_faultKind : Int32) (m_faultPlace : Int32) (m_reads : Int32) (m_codes : Nat → Int32) (m_extraPlace : Nat → Int32) (m_extraKind : Nat → Int32) (m_extras : Int32) (x1 : Int32) (x4 : Int32) (x6 : Int32) (x7 : Int32) (x8 : Int32) (x9 : Int32) (x10 : Int32) (x12 : Int32) : Option (Int32 × Int32 × Int32 × Int32 × (Nat → Int32) × (Nat → Int32) × (Nat → Int32) × Int32) :=
  if x7 = 45 then
    if x4 = 4 then
      (F_X8_fails m_faultKind m_faultPlace 4 x6).bind fun c298 =>
      some (c298.1, c298.2.1, c298.2.2, m_reads, m_codes, m_extraPlace, m_extraKind, m_extras)
    else
      F_X8_readItems_b302 m_tape m_taped m_newQuires k10 m_faultKind m_faultPlace m_reads m_codes m_extraPlace m_extraKind m_extras x1 x4 x7 x8 x9 x10 x12
  else
    F_X8_readItems_b302 m_tape m_taped m_newQuires k10 m_faultKind m_faultPlace m_reads m_codes m_extraPlace m_extraKind m_extras x1 x4 x7 x8 x9 x10 x12
def F_X8_readItems_b258 (m_tape : Nat → Int32) (m_taped : Int32) (m_newQuires : Int32) (k10 : Int32 → Int32 → Int32 → (Nat → Int32) → (Nat → Int32) → (Nat → Int32) → Int32 → Int32 → Int32 → Int32 → Int32 → Int32 → Option (Int32 × Int32 × Int32 × Int32 × (Nat → Int32) × (Nat → Int32) × (Nat → Int32) × Int32)) (m_faultKind : Int32) (m_faultPlace : Int32) (m_reads : Int32) (m_codes : Nat → Int32) (m_extraPlace : Nat → Int32) (m_extraKind : Nat → Int32) (m_extras : Int32) (x1 : Int32) (x2 : Int32) (x4 : Int32) (x5 : Int32) (x6 : Int32) (x7 : Int32) (x8 : Int32) (x9 : Int32) (x10 : Int32) (x12 : Int32) : Option (Int32 × Int32 × Int32 × Int32 × (Nat → Int32) × (Nat → Int32) × (Nat → Int32) × Int32) :=
  if x7 = 107 then
    if x5 = 115 then
      if x9 = x2 then
        F_X8_readItems_b281 m_tape m_taped m_newQuires k10 m_faultKind m_faultPlace m_reads m_codes m_extraPlace m_extraKind m_extras x1 x4 x6 x7 x8 x9 x10 0
      else
        F_X8_readItems_b281 m_tape m_taped m_newQuires k10 m_faultKind m_faultPlace m_reads m_codes m_extraPlace m_extraKind m_extras x1 x4 x6 x7 x8 x9 x10 x12
    else
      F_X8_readItems_b281 m_tape m_taped m_newQuires k10 m_faultKind m_faultPlace m_reads m_codes m_extraPlace m_extraKind m_extras x1 x4 x6 x7 x8 x9 x10 x12
  else
    F_X8_readItems_b281 m_tape m_taped m_newQuires k10 m_faultKind m_faultPlace m_reads m_codes m_extraPlace m_extraKind m_extras x1 x4 x6 x7 x8 x9 x10 x12
def F_X8_readItems_b225 (m_tape : Nat → Int32) (m_taped : Int32) (m_newQuires : Int32) (k10 : Int32 → Int32 → Int32 → (Nat → Int32) → (Nat → Int32) → (Nat → Int32) → Int32 → Int32 → Int32 → Int32 → Int32 → Int32 → Option (Int32 × Int32 × Int32 × Int32 × (Nat → Int32) × (Nat → Int32) × (Nat → Int32) × Int32)) (m_faultKind : Int32) (m_faultPlace : Int32) (m_reads : Int32) (m_codes : Nat → Int32) (m_extraPlace : Nat → Int32) (m_extraKind : Nat → Int32) (m_extras : Int32) (x1 : Int32) (x2 : Int32) (x4 : Int32) (x5 : Int32) (x6 : Int32) (x7 : Int32) (x8 : Int32) (x9 : Int32) (x10 : Int32) (t0 : Int32) : Option (Int32 × Int32 × Int32 × Int32 × (Nat → Int32) × (Nat → Int32) × (Nat → Int32) × Int32) :=
  if x10 = 0 then
    if x9 ≤ 0 then
      F_X8_readItems_b258 m_tape m_taped m_newQuires k10 m_faultKind m_faultPlace m_reads m_codes m_extraPlace m_extraKind m_extras x1 x2 x4 x5 x6 x7 x8 x9 x10 t0
    else
      if x1 < x9 then
        F_X8_readItems_b258 m_tape m_taped m_newQuires k10 m_faultKind m_faultPlace m_reads m_codes m_extraPlace m_extraKind m_extras x1 x2 x4 x5 x6 x7 x8 x9 x10 t0
      else
        ck (inb x9 9) <|
        if (m_codes x9.toNatClampNeg) = (-2) then
          F_X8_readItems_b258 m_tape m_taped m_newQuires k10 m_faultKind m_faultPlace m_reads m_codes m_extraPlace m_extraKind m_extras x1 x2 x4 x5 x6 x7 x8 x9 x10 0
        else
          F_X8_readItems_b258 m_tape m_taped m_newQuires k10 m_faultKind m_faultPlace m_reads m_codes m_extraPlace m_extraKind m_extras x1 x2 x4 x5 x6 x7 x8 x9 x10 t0
  else
    F_X8_readItems_b258 m_tape m_taped m_newQuires k10 m_faultKind m_faultPlace m_reads m_codes m_extraPlace m_extraKind m_extras x1 x2 x4 x5 x6 x7 x8 x9 x10 t0
def F_X8_readItems_b199 (m_tape : Nat → Int32) (m_taped : Int32) (m_newQuires : Int32) (k10 : Int32 → Int32 → Int32 → (Nat → Int32) → (Nat → Int32) → (Nat → Int32) → Int32 → Int32 → Int32 → Int32 → Int32 → Int32 → Option (Int32 × Int32 × Int32 × Int32 × (Nat → Int32) × (Nat → Int32) × (Nat → Int32) × Int32)) (m_faultKind : Int32) (m_faultPlace : Int32) (m_reads : Int32) (m_codes : Nat → Int32) (m_extraPlace : Nat → Int32) (m_extraKind : Nat → Int32) (m_extras : Int32) (x1 : Int32) (x2 : Int32) (x3 : Int32) (x4 : Int32) (x5 : Int32) (x6 : Int32) (x7 : Int32) (x8 : Int32) (x9 : Int32) (x10 : Int32) : Option (Int32 × Int32 × Int32 × Int32 × (Nat → Int32) × (Nat → Int32) × (Nat → Int32) × Int32) :=
  if x9 < x2 then
    F_X8_readItems_b225 m_tape m_taped m_newQuires k10 m_faultKind m_faultPlace m_reads m_codes m_extraPlace m_extraKind m_extras x1 x2 x4 x5 x6 x7 x8 x9 x10 0
  else
    if x10 = 0 then
      F_X8_readItems_b225 m_tape m_taped m_newQuires k10 m_faultKind m_faultPlace m_reads m_codes m_extraPlace m_extraKind m_extras x1 x2 x4 x5 x6 x7 x8 x9 x10 1
    else
      if x3 = 0 then
        F_X8_readItems_b225 m_tape m_taped m_newQuires k10 m_faultKind m_faultPlace m_reads m_codes m_extraPlace m_extraKind m_extras x1 x2 x4 x5 x6 x7 x8 x9 x10 1
      else
        if x9 = x2 then
          F_X8_readItems_b225 m_tape m_taped m_newQuires k10 m_faultKind m_faultPlace m_reads m_codes m_extraPlace m_extraKind m_extras x1 x2 x4 x5 x6 x7 x8 x9 x10 0
        else
          F_X8_readItems_b225 m_tape m_taped m_newQuires k10 m_faultKind m_faultPlace m_reads m_codes m_extraPlace m_extraKind m_extras x1 x2 x4 x5 x6 x7 x8 x9 x10 1
def F_X8_readItems_b181 (m_tape : Nat → Int32) (m_taped : Int32) (m_newQuires : Int32) (k10 : Int32 → Int32 → Int32 → (Nat → Int32) → (Nat → Int32) → (Nat → Int32) → Int32 → Int32 → Int32 → Int32 → Int32 → Int32 → Option (Int32 × Int32 × Int32 × Int32 × (Nat → Int32) × (Nat → Int32) × (Nat → Int32) × Int32)) (m_faultKind : Int32) (m_faultPlace : Int32) (m_reads : Int32) (m_codes : Nat → Int32) (m_extraPlace : Nat → Int32) (m_extraKind : Nat → Int32) (m_extras : Int32) (x1 : Int32) (x2 : Int32) (x3 : Int32) (x4 : Int32) (x5 : Int32) (x6 : Int32) (x7 : Int32) (x8 : Int32) (x9 : Int32) (x10 : Int32) (t0 : Int32) : Option (Int32 × Int32 × Int32 × Int32 × (Nat → Int32) × (Nat → Int32) × (Nat → Int32) × Int32) :=
  if x1 < x9 then
    F_X8_readItems_b225 m_tape m_taped m_newQuires k10 m_faultKind m_faultPlace m_reads m_codes m_extraPlace m_extraKind m_extras x1 x2 x4 x5 x6 x7 x8 x9 x10 0
  else
    if 0 < x9 then
      F_X8_readItems_b199 m_tape m_taped m_newQuires k10 m_faultKind m_faultPlace m_reads m_codes m_extraPlace m_extraKind m_extras x1 x2 x3 x4 x5 x6 x7 x8 x9 x10
    else
      if t0 = 0 then
        F_X8_readItems_b225 m_tape m_taped m_newQuires k10 m_faultKind m_faultPlace m_reads m_codes m_extraPlace m_extraKind m_extras x1 x2 x4 x5 x6 x7 x8 x9 x10 0
      else
        F_X8_readItems_b199 m_tape m_taped m_newQuires k10 m_faultKind m_faultPlace m_reads m_codes m_extraPlace m_extraKind m_extras x1 x2 x3 x4 x5 x6 x7 x8 x9 x10
def F_X8_readItems_b157 (m_tape : Nat → Int32) (m_taped : Int32) (m_newQuires : Int32) (k10 : Int32 → Int32 → Int32 → (Nat → Int32) → (Nat → Int32) → (Nat → Int32) → Int32 → Int32 → Int32 → Int32 → Int32 → Int32 → Option (Int32 × Int32 × Int32 × Int32 × (Nat → Int32) × (Nat → Int32) × (Nat → Int32) × Int32)) (m_faultKind : Int32) (m_faultPlace : Int32) (m_reads : Int32) (m_codes : Nat → Int32) (m_extraPlace : Nat → Int32) (m_extraKind : Nat → Int32) (m_extras : Int32) (x1 : Int32) (x2 : Int32) (x3 : Int32) (x4 : Int32) (x5 : Int32) (x6 : Int32) (x7 : Int32) (x8 : Int32) (x9 : Int32) (t0 : Int32) : Option (Int32 × Int32 × Int32 × Int32 × (Nat → Int32) × (Nat → Int32) × (Nat → Int32) × Int32) :=
  if x9 = 0 then
    if t0 = 0 then
      if m_newQuires = 0 then
        F_X8_readItems_b181 m_tape m_taped m_newQuires k10 m_faultKind m_faultPlace m_reads m_codes m_extraPlace m_extraKind m_extras x1 x2 x3 x4 x5 x6 x7 x8 x9 t0 1
      else
        F_X8_readItems_b181 m_tape m_taped m_newQuires k10 m_faultKind m_faultPlace m_reads m_codes m_extraPlace m_extraKind m_extras x1 x2 x3 x4 x5 x6 x7 x8 x9 t0 0
    else
      F_X8_readItems_b181 m_tape m_taped m_newQuires k10 m_faultKind m_faultPlace m_reads m_codes m_extraPlace m_extraKind m_extras x1 x2 x3 x4 x5 x6 x7 x8 x9 t0 0
  else
    F_X8_readItems_b181 m_tape m_taped m_newQuires k10 m_faultKind m_faultPlace m_reads m_codes m_extraPlace m_extraKind m_extras x1 x2 x3 x4 x5 x6 x7 x8 x9 t0 0
def F_X8_readItems_b84 (m_tape : Nat → Int32) (m_taped : Int32) (m_newQuires : Int32) (k10 : Int32 → Int32 → Int32 → (Nat → Int32) → (Nat → Int32) → (Nat → Int32) → Int32 → Int32 → Int32 → Int32 → Int32 → Int32 → Option (Int32 × Int32 × Int32 × Int32 × (Nat → Int32) × (Nat → Int32) × (Nat → Int32) × Int32)) (m_faultKind : Int32) (m_faultPlace : Int32) (m_reads : Int32) (m_codes : Nat → Int32) (m_extraPlace : Nat → Int32) (m_extraKind : Nat → Int32) (m_extras : Int32) (x1 : Int32) (x2 : Int32) (x3 : Int32) (x4 : Int32) (x5 : Int32) (x6 : Int32) (x7 : Int32) : Option (Int32 × Int32 × Int32 × Int32 × (Nat → Int32) × (Nat → Int32) × (Nat → Int32) × Int32) :=
  (F_X8_raw m_tape m_taped (m_reads + 1)).bind fun c101 =>
  if (c101 - 48) < 0 then
    F_X8_readItems_b121 m_faultKind m_faultPlace (m_reads + 1) m_codes m_extraPlace m_extraKind m_extras
  else
    if (c101 - 48) ≤ 9 then
      if x7 = 45 then
        F_X8_readItems_b157 m_tape m_taped m_newQuires k10 m_faultKind m_faultPlace (m_reads + 1) m_codes m_extraPlace m_extraKind m_extras x1 x2 x3 x4 x5 x6 x7 (m_reads + 1) (c101 - 48) 1
      else
        if x7 = 115 then
          F_X8_readItems_b157 m_tape m_taped m_newQuires k10 m_faultKind m_faultPlace (m_reads + 1) m_codes m_extraPlace m_extraKind m_extras x1 x2 x3 x4 x5 x6 x7 (m_reads + 1) (c101 - 48) 1
        else
          if x7 = 99 then
            F_X8_readItems_b157 m_tape m_taped m_newQuires k10 m_faultKind m_faultPlace (m_reads + 1) m_codes m_extraPlace m_extraKind m_extras x1 x2 x3 x4 x5 x6 x7 (m_reads + 1) (c101 - 48) 1
          else
            F_X8_readItems_b157 m_tape m_taped m_newQuires k10 m_faultKind m_faultPlace (m_reads + 1) m_codes m_extraPlace m_extraKind m_extras x1 x2 x3 x4 x5 x6 x7 (m_reads + 1) (c101 - 48) 0
    else
      F_X8_readItems_b121 m_faultKind m_faultPlace (m_reads + 1) m_codes m_extraPlace m_extraKind m_extras
def F_X8_readItems_b10 (m_tape : Nat → Int32) (m_taped : Int32) (m_newQuires : Int32) : Nat → Int32 → Int32 → Int32 → (Nat → Int32) → (Nat → Int32) → (Nat → Int32) → Int32 → Int32 → Int32 → Int32 → Int32 → Int32 → Option (Int32 × Int32 × Int32 × Int32 × (Nat → Int32) × (Nat → Int32) × (Nat → Int32) × Int32)
  | 0, _, _, _, _, _, _, _, _, _, _, _, _ => none
  | n + 1, m_faultKind, m_faultPlace, m_reads, m_codes, m_extraPlace, m_extraKind, m_extras, x1, x2, x3, x4, x5 =>
    (F_X8_raw m_tape m_taped (m_reads + 1)).bind fun c27 =>
    if c27 = 45 then
      F_X8_readItems_b84 m_tape m_taped m_newQuires (fun m_faultKind m_faultPlace m_reads m_codes m_extraPlace m_extraKind m_extras x1 x2 x3 x4 x5 => F_X8_readItems_b10 m_tape m_taped m_newQuires n m_faultKind m_faultPlace m_reads m_codes m_extraPlace m_extraKind m_extras x1 x2 x3 x4 x5) m_faultKind m_faultPlace (m_reads + 1) m_codes m_extraPlace m_extraKind m_extras x1 x2 x3 x4 x5 (m_reads + 1) c27
    else
      if c27 = 115 then
        F_X8_readItems_b84 m_tape m_taped m_newQuires (fun m_faultKind m_faultPlace m_reads m_codes m_extraPlace m_extraKind m_extras x1 x2 x3 x4 x5 => F_X8_readItems_b10 m_tape m_taped m_newQuires n m_faultKind m_faultPlace m_reads m_codes m_extraPlace m_extraKind m_extras x1 x2 x3 x4 x5) m_faultKind m_faultPlace (m_reads + 1) m_codes m_extraPlace m_extraKind m_extras x1 x2 x3 x4 x5 (m_reads + 1) c27
      else
        if c27 = 99 then
          F_X8_readItems_b84 m_tape m_taped m_newQuires (fun m_faultKind m_faultPlace m_reads m_codes m_extraPlace m_extraKind m_extras x1 x2 x3 x4 x5 => F_X8_readItems_b10 m_tape m_taped m_newQuires n m_faultKind m_faultPlace m_reads m_codes m_extraPlace m_extraKind m_extras x1 x2 x3 x4 x5) m_faultKind m_faultPlace (m_reads + 1) m_codes m_extraPlace m_extraKind m_extras x1 x2 x3 x4 x5 (m_reads + 1) c27
        else
          if c27 = 103 then
            F_X8_readItems_b84 m_tape m_taped m_newQuires (fun m_faultKind m_faultPlace m_reads m_codes m_extraPlace m_extraKind m_extras x1 x2 x3 x4 x5 => F_X8_readItems_b10 m_tape m_taped m_newQuires n m_faultKind m_faultPlace m_reads m_codes m_extraPlace m_extraKind m_extras x1 x2 x3 x4 x5) m_faultKind m_faultPlace (m_reads + 1) m_codes m_extraPlace m_extraKind m_extras x1 x2 x3 x4 x5 (m_reads + 1) c27
          else
            if c27 = 107 then
              F_X8_readItems_b84 m_tape m_taped m_newQuires (fun m_faultKind m_faultPlace m_reads m_codes m_extraPlace m_extraKind m_extras x1 x2 x3 x4 x5 => F_X8_readItems_b10 m_tape m_taped m_newQuires n m_faultKind m_faultPlace m_reads m_codes m_extraPlace m_extraKind m_extras x1 x2 x3 x4 x5) m_faultKind m_faultPlace (m_reads + 1) m_codes m_extraPlace m_extraKind m_extras x1 x2 x3 x4 x5 (m_reads + 1) c27
            else
              if c27 = 112 then
                F_X8_readItems_b84 m_tape m_taped m_newQuires (fun m_faultKind m_faultPlace m_reads m_codes m_extraPlace m_extraKind m_extras x1 x2 x3 x4 x5 => F_X8_readItems_b10 m_tape m_taped m_newQuires n m_faultKind m_faultPlace m_reads m_codes m_extraPlace m_extraKind m_extras x1 x2 x3 x4 x5) m_faultKind m_faultPlace (m_reads + 1) m_codes m_extraPlace m_extraKind m_extras x1 x2 x3 x4 x5 (m_reads + 1) c27
              else
                (F_X8_fails m_faultKind m_faultPlace 1 (m_reads + 1)).bind fun c80 =>
                some (c80.1, c80.2.1, c80.2.2, m_reads + 1, m_codes, m_extraPlace, m_extraKind, m_extras)
def F_X8_readItems (m_tape : Nat → Int32) (m_taped : Int32) (m_faultKind : Int32) (m_faultPlace : Int32) (m_reads : Int32) (m_newQuires : Int32) (m_codes : Nat → Int32) (m_extraPlace : Nat → Int32) (m_extraKind : Nat → Int32) (m_extras : Int32) (p0 : Int32) : Option (Int32 × Int32 × Int32 × Int32 × (Nat → Int32) × (Nat → Int32) × (Nat → Int32) × Int32) :=
  F_X8_readItems_b10 m_tape m_taped m_newQuires FU m_faultKind m_faultPlace m_reads m_codes m_extraPlace m_extraKind m_extras p0 0 0 0 0
def F_X8_laid_b109 (m_codes : Nat → Int32) (m_extraPlace : Nat → Int32) (m_extraKind : Nat → Int32) (m_extras : Int32) (k14 : Int32 → (Nat → Int32) → (Nat → Int32) → (Nat → Int32) → Int32 → Int32 → Int32 → Option (Int32 × Int32 × (Nat → Int32) × (Nat → Int32) × (Nat → Int32))) : Nat → Int32 → (Nat → Int32) → (Nat → Int32) → (Nat → Int32) → Int32 → Int32 → Int32 → Int32 → Option (Int32 × Int32 × (Nat → Int32) × (Nat → Int32) × (Nat → Int32))
  | 0, _, _, _, _, _, _, _, _ => none
  | n + 1, m_newThings, m_newSize, m_newPlaced, m_newKind, x1, x2, x3, x4 =>
    if m_extras ≤ x4 then
      k14 m_newThings m_newSize m_newPlaced m_newKind x1 x2 (x3 + 1)
    else
      ck (inb x4 200) <|
      if (m_extraPlace x4.toNatClampNeg) = x3 then
        ck (inb x4 200) <|
        (F_X8_adds m_newThings m_newKind (m_extraKind x4.toNatClampNeg)).bind fun c137 =>
        F_X8_laid_b109 m_codes m_extraPlace m_extraKind m_extras k14 n c137.1 m_newSize m_newPlaced c137.2 x1 x2 x3 (x4 + 1)
      else
        F_X8_laid_b109 m_codes m_extraPlace m_extraKind m_extras k14 n m_newThings m_newSize m_newPlaced m_newKind x1 x2 x3 (x4 + 1)
def F_X8_laid_b91 (m_codes : Nat → Int32) (m_extraPlace : Nat → Int32) (m_extraKind : Nat → Int32) (m_extras : Int32) (k14 : Int32 → (Nat → Int32) → (Nat → Int32) → (Nat → Int32) → Int32 → Int32 → Int32 → Option (Int32 × Int32 × (Nat → Int32) × (Nat → Int32) × (Nat → Int32))) (m_newThings : Int32) (m_newSize : Nat → Int32) (m_newPlaced : Nat → Int32) (m_newKind : Nat → Int32) (x1 : Int32) (x2 : Int32) (x3 : Int32) : Option (Int32 × Int32 × (Nat → Int32) × (Nat → Int32) × (Nat → Int32)) :=
  ck (inb x3 9) <|
  if (m_codes x3.toNatClampNeg) = 4 then
    (F_X8_adds m_newThings m_newKind 4).bind fun c103 =>
    F_X8_laid_b109 m_codes m_extraPlace m_extraKind m_extras k14 FU c103.1 m_newSize m_newPlaced c103.2 x1 x2 x3 0
  else
    F_X8_laid_b109 m_codes m_extraPlace m_extraKind m_extras k14 FU m_newThings m_newSize m_newPlaced m_newKind x1 x2 x3 0
def F_X8_laid_b88 (m_codes : Nat → Int32) (m_extraPlace : Nat → Int32) (m_extraKind : Nat → Int32) (m_extras : Int32) (k14 : Int32 → (Nat → Int32) → (Nat → Int32) → (Nat → Int32) → Int32 → Int32 → Int32 → Option (Int32 × Int32 × (Nat → Int32) × (Nat → Int32) × (Nat → Int32))) (m_newThings : Int32) (m_newSize : Nat → Int32) (m_newPlaced : Nat → Int32) (m_newKind : Nat → Int32) (x1 : Int32) (x2 : Int32) (x3 : Int32) (t0 : Int32) : Option (Int32 × Int32 × (Nat → Int32) × (Nat → Int32) × (Nat → Int32)) :=
  (F_X8_adds m_newThings m_newKind t0).bind fun c88 =>
  F_X8_laid_b91 m_codes m_extraPlace m_extraKind m_extras k14 c88.1 m_newSize m_newPlaced c88.2 x1 x2 x3
def F_X8_laid_b55 (m_codes : Nat → Int32) (m_extraPlace : Nat → Int32) (m_extraKind : Nat → Int32) (m_extras : Int32) (k14 : Int32 → (Nat → Int32) → (Nat → Int32) → (Nat → Int32) → Int32 → Int32 → Int32 → Option (Int32 × Int32 × (Nat → Int32) × (Nat → Int32) × (Nat → Int32))) (m_newThings : Int32) (m_newSize : Nat → Int32) (m_newPlaced : Nat → Int32) (m_newKind : Nat → Int32) (x1 : Int32) (x2 : Int32) (x3 : Int32) (t0 : Int32) (t1 : Int32) : Option (Int32 × Int32 × (Nat → Int32) × (Nat → Int32) × (Nat → Int32)) :=
  ck (inb t1 64) <|
  ck (inb x3 9) <|
  if (m_codes x3.toNatClampNeg) = (-2) then
    F_X8_laid_b91 m_codes m_extraPlace m_extraKind m_extras k14 m_newThings m_newSize (upd m_newPlaced t1.toNatClampNeg t0) m_newKind x1 x2 x3
  else
    ck (inb x3 9) <|
    if (m_codes x3.toNatClampNeg) = 4 then
      F_X8_laid_b88 m_codes m_extraPlace m_extraKind m_extras k14 m_newThings m_newSize (upd m_newPlaced t1.toNatClampNeg t0) m_newKind x1 x2 x3 2
    else
      ck (inb x3 9) <|
      F_X8_laid_b88 m_codes m_extraPlace m_extraKind m_extras k14 m_newThings m_newSize (upd m_newPlaced t1.toNatClampNeg t0) m_newKind x1 x2 x3 (m_codes x3.toNatClampNeg)
def F_X8_laid_b14 (m_codes : Nat → Int32) (m_extraPlace : Nat → Int32) (m_extraKind : Nat → Int32) (m_extras : Int32) : Nat → Int32 → (Nat → Int32) → (Nat → Int32) → (Nat → Int32) → Int32 → Int32 → Int32 → Option (Int32 × Int32 × (Nat → Int32) × (Nat → Int32) × (Nat → Int32))
  | 0, _, _, _, _, _, _, _ => none
  | n + 1, m_newThings, m_newSize, m_newPlaced, m_newKind, x1, x2, x3 =>
    if x1 < x3 then
      some (m_newThings, x2 + 1, m_newSize, m_newPlaced, m_newKind)
    else
      if x3 ≤ 0 then
        F_X8_laid_b109 m_codes m_extraPlace m_extraKind m_extras (fun m_newThings m_newSize m_newPlaced m_newKind x1 x2 x3 => F_X8_laid_b14 m_codes m_extraPlace m_extraKind m_extras n m_newThings m_newSize m_newPlaced m_newKind x1 x2 x3) FU m_newThings m_newSize m_newPlaced m_newKind x1 x2 x3 0
      else
        ck (inb x3 9) <|
        if (m_codes x3.toNatClampNeg) = (-2) then
          F_X8_laid_b55 m_codes m_extraPlace m_extraKind m_extras (fun m_newThings m_newSize m_newPlaced m_newKind x1 x2 x3 => F_X8_laid_b14 m_codes m_extraPlace m_extraKind m_extras n m_newThings m_newSize m_newPlaced m_newKind x1 x2 x3) m_newThings m_newSize m_newPlaced m_newKind x1 x2 x3 (-2) ((((8 : Int32) * x2) + x3) - 1)
        else
          F_X8_laid_b55 m_codes m_extraPlace m_extraKind m_extras (fun m_newThings m_newSize m_newPlaced m_newKind x1 x2 x3 => F_X8_laid_b14 m_codes m_extraPlace m_extraKind m_extras n m_newThings m_newSize m_newPlaced m_newKind x1 x2 x3) m_newThings m_newSize m_newPlaced m_newKind x1 x2 x3 m_newThings ((((8 : Int32) * x2) + x3) - 1)
def F_X8_laid (m_newThings : Int32) (m_newQuires : Int32) (m_newSize : Nat → Int32) (m_newPlaced : Nat → Int32) (m_newKind : Nat → Int32) (m_codes : Nat → Int32) (m_extraPlace : Nat → Int32) (m_extraKind : Nat → Int32) (m_extras : Int32) (p0 : Int32) : Option (Int32 × Int32 × (Nat → Int32) × (Nat → Int32) × (Nat → Int32)) :=
  ck (inb m_newQuires 8) <|
  F_X8_laid_b14 m_codes m_extraPlace m_extraKind m_extras FU m_newThings (upd m_newSize m_newQuires.toNatClampNeg p0) m_newPlaced m_newKind p0 m_newQuires 0
def F_X8_blanks_b0 (m_tape : Nat → Int32) (m_taped : Int32) : Nat → Int32 → Option (Int32)
  | 0, _ => none
  | n + 1, m_reads =>
    (F_X8_raw m_tape m_taped m_reads).bind fun c2 =>
    (F_X8_isBlank c2).bind fun c5 =>
    if (qb c5) = 0 then
      some m_reads
    else
      F_X8_blanks_b0 m_tape m_taped n (m_reads + 1)
def F_X8_blanks (m_tape : Nat → Int32) (m_taped : Int32) (m_reads : Int32) : Option (Int32) :=
  F_X8_blanks_b0 m_tape m_taped FU m_reads
def F_X8_reading_b393 (m_faultKind : Int32) (m_faultPlace : Int32) (m_reads : Int32) (m_newThings : Int32) (m_newQuires : Int32) (m_newLetter : Int32) (m_newSize : Nat → Int32) (m_newPlaced : Nat → Int32) (m_newKind : Nat → Int32) (m_codes : Nat → Int32) (m_extraPlace : Nat → Int32) (m_extraKind : Nat → Int32) (m_extras : Int32) (x2 : Int32) : Option (Int32 × Int32 × Int32 × Int32 × Int32 × Int32 × Int32 × (Nat → Int32) × (Nat → Int32) × (Nat → Int32) × (Nat → Int32) × (Nat → Int32) × (Nat → Int32) × Int32) :=
  (F_X8_fails m_faultKind m_faultPlace 4 x2).bind fun c396 =>
  some (c396.1, c396.2.1, c396.2.2, m_reads, m_newThings, m_newQuires, m_newLetter, m_newSize, m_newPlaced, m_newKind, m_codes, m_extraPlace, m_extraKind, m_extras)
def F_X8_reading_b442 (m_tape : Nat → Int32) (m_taped : Int32) (k17 : Int32 → Int32 → Int32 → Int32 → Int32 → Int32 → (Nat → Int32) → (Nat → Int32) → (Nat → Int32) → (Nat → Int32) → (Nat → Int32) → (Nat → Int32) → Int32 → Int32 → Option (Int32 × Int32 × Int32 × Int32 × Int32 × Int32 × Int32 × (Nat → Int32) × (Nat → Int32) × (Nat → Int32) × (Nat → Int32) × (Nat → Int32) × (Nat → Int32) × Int32)) (m_faultKind : Int32) (m_faultPlace : Int32) (m_reads : Int32) (m_newThings : Int32) (m_newQuires : Int32) (m_newLetter : Int32) (m_newSize : Nat → Int32) (m_newPlaced : Nat → Int32) (m_newKind : Nat → Int32) (m_codes : Nat → Int32) (m_extraPlace : Nat → Int32) (m_extraKind : Nat → Int32) (m_extras : Int32) (x1 : Int32) : Option (Int32 × Int32 × Int32 × Int32 × Int32 × Int32 × Int32 × (Nat → Int32) × (Nat → Int32) × (Nat → Int32) × (Nat → Int32) × (Nat → Int32) × (Nat → Int32) × Int32) :=
  (F_X8_blanks m_tape m_taped m_reads).bind fun c443 =>
  k17 m_faultKind m_faultPlace c443 m_newThings m_newQuires m_newLetter m_newSize m_newPlaced m_newKind m_codes m_extraPlace m_extraKind m_extras x1
def F_X8_reading_b416 (m_tape : Nat → Int32) (m_taped : Int32) (k17 : Int32 → Int32 → Int32 → Int32 → Int32 → Int32 → (Nat → Int32) → (Nat → Int32) → (Nat → Int32) → (Nat → Int32) → (Nat → Int32) → (Nat → Int32) → Int32 → Int32 → Option (Int32 × Int32 × Int32 × Int32 × Int32 × Int32 × Int32 × (Nat → Int32) × (Nat → Int32) × (Nat → Int32) × (Nat → Int32) × (Nat → Int32) × (Nat → Int32) × Int32)) (m_faultKind : Int32) (m_faultPlace : Int32) (m_reads : Int32) (m_newThings : Int32) (m_newQuires : Int32) (m_newLetter : Int32) (m_newSize : Nat → Int32) (m_newPlaced : Nat → Int32) (m_newKind : Nat → Int32) (m_codes : Nat → Int32) (m_extraPlace : Nat → Int32) (m_extraKind : Nat → Int32) (m_extras : Int32) (t0 : Int32) : Option (Int32 × Int32 × Int32 × Int32 × Int32 × Int32 × Int32 × (Nat → Int32) × (Nat → Int32) × (Nat → Int32) × (Nat → Int32) × (Nat → Int32) × (Nat → Int32) × Int32) :=
  if t0 = 0 then
    F_X8_reading_b442 m_tape m_taped k17 m_faultKind m_faultPlace m_reads m_newThings m_newQuires m_newLetter m_newSize m_newPlaced m_newKind m_codes m_extraPlace m_extraKind m_extras t0
  else
    (F_X8_raw m_tape m_taped m_reads).bind fun c423 =>
    (F_X8_isBlank c423).bind fun c426 =>
    if (qb c426) = 0 then
      (F_X8_fails m_faultKind m_faultPlace 1 m_reads).bind fun c438 =>
      some (c438.1, c438.2.1, c438.2.2, m_reads, m_newThings, m_newQuires, m_newLetter, m_newSize, m_newPlaced, m_newKind, m_codes, m_extraPlace, m_extraKind, m_extras)
    else
      F_X8_reading_b442 m_tape m_taped k17 m_faultKind m_faultPlace m_reads m_newThings m_newQuires m_newLetter m_newSize m_newPlaced m_newKind m_codes m_extraPlace m_extraKind m_extras t0
def F_X8_reading_b360 (m_tape : Nat → Int32) (m_taped : Int32) (k17 : Int32 → Int32 → Int32 → Int32 → Int32 → Int32 → (Nat → Int32) → (Nat → Int32) → (Nat → Int32) → (Nat → Int32) → (Nat → Int32) → (Nat → Int32) → Int32 → Int32 → Option (Int32 × Int32 × Int32 × Int32 × Int32 × Int32 × Int32 × (Nat → Int32) × (Nat → Int32) × (Nat → Int32) × (Nat → Int32) × (Nat → Int32) × (Nat → Int32) × Int32)) : Nat → Int32 → Int32 → Int32 → Int32 → Int32 → Int32 → (Nat → Int32) → (Nat → Int32) → (Nat → Int32) → (Nat → Int32) → (Nat → Int32) → (Nat → Int32) → Int32 → Int32 → Int32 → Int32 → Int32 → Int32 → Option (Int32 × Int32 × Int32 × Int32 × Int32 × Int32 × Int32 × (Nat → Int32) × (Nat → Int32) × (Nat → Int32) × (Nat → Int32) × (Nat → Int32) × (Nat → Int32) × Int32)
  | 0, _, _, _, _, _, _, _, _, _, _, _, _, _, _, _, _, _, _ => none
  | n + 1, m_faultKind, m_faultPlace, m_reads, m_newThings, m_newQuires, m_newLetter, m_newSize, m_newPlaced, m_newKind, m_codes, m_extraPlace, m_extraKind, m_extras, x2, x4, x5, x6, x7 =>
    if x4 ≤ x7 then
      if x6 = 0 then
        F_X8_reading_b393 m_faultKind m_faultPlace m_reads m_newThings m_newQuires m_newLetter m_newSize m_newPlaced m_newKind m_codes m_extraPlace m_extraKind m_extras x2
      else
        if m_newThings ≤ 30 then
          if m_taped ≤ m_reads then
            F_X8_reading_b416 m_tape m_taped k17 m_faultKind m_faultPlace m_reads m_newThings m_newQuires m_newLetter m_newSize m_newPlaced m_newKind m_codes m_extraPlace m_extraKind m_extras 0
          else
            F_X8_reading_b416 m_tape m_taped k17 m_faultKind m_faultPlace m_reads m_newThings m_newQuires m_newLetter m_newSize m_newPlaced m_newKind m_codes m_extraPlace m_extraKind m_extras 1
        else
          F_X8_reading_b393 m_faultKind m_faultPlace m_reads m_newThings m_newQuires m_newLetter m_newSize m_newPlaced m_newKind m_codes m_extraPlace m_extraKind m_extras x2
    else
      (F_X8_laid m_newThings m_newQuires m_newSize m_newPlaced m_newKind m_codes m_extraPlace m_extraKind m_extras x5).bind fun c370 =>
      F_X8_reading_b360 m_tape m_taped k17 n m_faultKind m_faultPlace m_reads c370.1 c370.2.1 m_newLetter c370.2.2.1 c370.2.2.2.1 c370.2.2.2.2 m_codes m_extraPlace m_extraKind m_extras x2 x4 x5 x6 (x7 + 1)
def F_X8_reading_b344 (m_tape : Nat → Int32) (m_taped : Int32) (k320 : Int32 → Int32 → Int32 → Int32 → Int32 → Int32 → (Nat → Int32) → (Nat → Int32) → (Nat → Int32) → (Nat → Int32) → (Nat → Int32) → (Nat → Int32) → Int32 → Int32 → Int32 → Int32 → Int32 → Int32 → Option (Int32 × Int32 × Int32 × Int32 × Int32 × Int32 × Int32 × (Nat → Int32) × (Nat → Int32) × (Nat → Int32) × (Nat → Int32) × (Nat → Int32) × (Nat → Int32) × Int32)) (m_faultKind : Int32) (m_faultPlace : Int32) (m_reads : Int32) (m_newThings : Int32) (m_newQuires : Int32) (m_newLetter : Int32) (m_newSize : Nat → Int32) (m_newPlaced : Nat → Int32) (m_newKind : Nat → Int32) (m_codes : Nat → Int32) (m_extraPlace : Nat → Int32) (m_extraKind : Nat → Int32) (m_extras : Int32) (x2 : Int32) (x4 : Int32) (x5 : Int32) (x7 : Int32) : Option (Int32 × Int32 × Int32 × Int32 × Int32 × Int32 × Int32 × (Nat → Int32) × (Nat → Int32) × (Nat → Int32) × (Nat → Int32) × (Nat → Int32) × (Nat → Int32) × Int32) :=
  k320 m_faultKind m_faultPlace m_reads m_newThings m_newQuires m_newLetter m_newSize m_newPlaced m_newKind m_codes m_extraPlace m_extraKind m_extras x2 x4 x5 1 (x7 + 1)
def F_X8_reading_b320 (m_tape : Nat → Int32) (m_taped : Int32) (k17 : Int32 → Int32 → Int32 → Int32 → Int32 → Int32 → (Nat → Int32) → (Nat → Int32) → (Nat → Int32) → (Nat → Int32) → (Nat → Int32) → (Nat → Int32) → Int32 → Int32 → Option (Int32 × Int32 × Int32 × Int32 × Int32 × Int32 × Int32 × (Nat → Int32) × (Nat → Int32) × (Nat → Int32) × (Nat → Int32) × (Nat → Int32) × (Nat → Int32) × Int32)) : Nat → Int32 → Int32 → Int32 → Int32 → Int32 → Int32 → (Nat → Int32) → (Nat → Int32) → (Nat → Int32) → (Nat → Int32) → (Nat → Int32) → (Nat → Int32) → Int32 → Int32 → Int32 → Int32 → Int32 → Int32 → Option (Int32 × Int32 × Int32 × Int32 × Int32 × Int32 × Int32 × (Nat → Int32) × (Nat → Int32) × (Nat → Int32) × (Nat → Int32) × (Nat → Int32) × (Nat → Int32) × Int32)
  | 0, _, _, _, _, _, _, _, _, _, _, _, _, _, _, _, _, _, _ => none
  | n + 1, m_faultKind, m_faultPlace, m_reads, m_newThings, m_newQuires, m_newLetter, m_newSize, m_newPlaced, m_newKind, m_codes, m_extraPlace, m_extraKind, m_extras, x2, x4, x5, x6, x7 =>
    if x5 < x7 then
      F_X8_reading_b360 m_tape m_taped k17 FU m_faultKind m_faultPlace m_reads m_newThings m_newQuires m_newLetter m_newSize m_newPlaced m_newKind m_codes m_extraPlace m_extraKind m_extras x2 x4 x5 x6 0
    else
      if x6 = 0 then
        ck (inb x7 9) <|
        if (m_codes x7.toNatClampNeg) = (-2) then
          F_X8_reading_b320 m_tape m_taped k17 n m_faultKind m_faultPlace m_reads m_newThings m_newQuires m_newLetter m_newSize m_newPlaced m_newKind m_codes m_extraPlace m_extraKind m_extras x2 x4 x5 0 (x7 + 1)
        else
          F_X8_reading_b344 m_tape m_taped (fun m_faultKind m_faultPlace m_reads m_newThings m_newQuires m_newLetter m_newSize m_newPlaced m_newKind m_codes m_extraPlace m_extraKind m_extras x2 x4 x5 x6 x7 => F_X8_reading_b320 m_tape m_taped k17 n m_faultKind m_faultPlace m_reads m_newThings m_newQuires m_newLetter m_newSize m_newPlaced m_newKind m_codes m_extraPlace m_extraKind m_extras x2 x4 x5 x6 x7) m_faultKind m_faultPlace m_reads m_newThings m_newQuires m_newLetter m_newSize m_newPlaced m_newKind m_codes m_extraPlace m_extraKind m_extras x2 x4 x5 x7
      else
        F_X8_reading_b344 m_tape m_taped (fun m_faultKind m_faultPlace m_reads m_newThings m_newQuires m_newLetter m_newSize m_newPlaced m_newKind m_codes m_extraPlace m_extraKind m_extras x2 x4 x5 x6 x7 => F_X8_reading_b320 m_tape m_taped k17 n m_faultKind m_faultPlace m_reads m_newThings m_newQuires m_newLetter m_newSize m_newPlaced m_newKind m_codes m_extraPlace m_extraKind m_extras x2 x4 x5 x6 x7) m_faultKind m_faultPlace m_reads m_newThings m_newQuires m_newLetter m_newSize m_newPlaced m_newKind m_codes m_extraPlace m_extraKind m_extras x2 x4 x5 x7
def F_X8_reading_b251 (m_tape : Nat → Int32) (m_taped : Int32) (k17 : Int32 → Int32 → Int32 → Int32 → Int32 → Int32 → (Nat → Int32) → (Nat → Int32) → (Nat → Int32) → (Nat → Int32) → (Nat → Int32) → (Nat → Int32) → Int32 → Int32 → Option (Int32 × Int32 × Int32 × Int32 × Int32 × Int32 × Int32 × (Nat → Int32) × (Nat → Int32) × (Nat → Int32) × (Nat → Int32) × (Nat → Int32) × (Nat → Int32) × Int32)) : Nat → Int32 → Int32 → Int32 → Int32 → Int32 → Int32 → (Nat → Int32) → (Nat → Int32) → (Nat → Int32) → (Nat → Int32) → (Nat → Int32) → (Nat → Int32) → Int32 → Int32 → Int32 → Int32 → Option (Int32 × Int32 × Int32 × Int32 × Int32 × Int32 × Int32 × (Nat → Int32) × (Nat → Int32) × (Nat → Int32) × (Nat → Int32) × (Nat → Int32) × (Nat → Int32) × Int32)
  | 0, _, _, _, _, _, _, _, _, _, _, _, _, _, _, _, _ => none
  | n + 1, m_faultKind, m_faultPlace, m_reads, m_newThings, m_newQuires, m_newLetter, m_newSize, m_newPlaced, m_newKind, m_codes, m_extraPlace, m_extraKind, x2, x4, x5, x6 =>
    if 8 < x6 then
      (F_X8_raw m_tape m_taped m_reads).bind fun c278 =>
      if c278 = 40 then
        if x4 ≤ 1 then
          (F_X8_readItems m_tape m_taped m_faultKind m_faultPlace m_reads m_newQuires m_codes m_extraPlace m_extraKind 0 x5).bind fun c305 =>
          if c305.1 = (-1) then
            some ((-1), c305.2.1, c305.2.2.1, c305.2.2.2.1, m_newThings, m_newQuires, m_newLetter, m_newSize, m_newPlaced, m_newKind, c305.2.2.2.2.1, c305.2.2.2.2.2.1, c305.2.2.2.2.2.2.1, c305.2.2.2.2.2.2.2)
          else
            F_X8_reading_b320 m_tape m_taped k17 FU c305.2.1 c305.2.2.1 c305.2.2.2.1 m_newThings m_newQuires m_newLetter m_newSize m_newPlaced m_newKind c305.2.2.2.2.1 c305.2.2.2.2.2.1 c305.2.2.2.2.2.2.1 c305.2.2.2.2.2.2.2 x2 x4 x5 0 1
        else
          (F_X8_fails m_faultKind m_faultPlace 2 m_reads).bind fun c298 =>
          some (c298.1, c298.2.1, c298.2.2, m_reads, m_newThings, m_newQuires, m_newLetter, m_newSize, m_newPlaced, m_newKind, m_codes, m_extraPlace, m_extraKind, 0)
      else
        F_X8_reading_b320 m_tape m_taped k17 FU m_faultKind m_faultPlace m_reads m_newThings m_newQuires m_newLetter m_newSize m_newPlaced m_newKind m_codes m_extraPlace m_extraKind 0 x2 x4 x5 0 1
    else
      ck (inb x6 9) <|
      F_X8_reading_b251 m_tape m_taped k17 n m_faultKind m_faultPlace m_reads m_newThings m_newQuires m_newLetter m_newSize m_newPlaced m_newKind (upd m_codes x6.toNatClampNeg 1) m_extraPlace m_extraKind x2 x4 x5 (x6 + 1)
def F_X8_reading_b238 (m_tape : Nat → Int32) (m_taped : Int32) (k17 : Int32 → Int32 → Int32 → Int32 → Int32 → Int32 → (Nat → Int32) → (Nat → Int32) → (Nat → Int32) → (Nat → Int32) → (Nat → Int32) → (Nat → Int32) → Int32 → Int32 → Option (Int32 × Int32 × Int32 × Int32 × Int32 × Int32 × Int32 × (Nat → Int32) × (Nat → Int32) × (Nat → Int32) × (Nat → Int32) × (Nat → Int32) × (Nat → Int32) × Int32)) (m_faultKind : Int32) (m_faultPlace : Int32) (m_reads : Int32) (m_newThings : Int32) (m_newQuires : Int32) (m_newLetter : Int32) (m_newSize : Nat → Int32) (m_newPlaced : Nat → Int32) (m_newKind : Nat → Int32) (m_codes : Nat → Int32) (m_extraPlace : Nat → Int32) (m_extraKind : Nat → Int32) (x2 : Int32) (x4 : Int32) (x5 : Int32) : Option (Int32 × Int32 × Int32 × Int32 × Int32 × Int32 × Int32 × (Nat → Int32) × (Nat → Int32) × (Nat → Int32) × (Nat → Int32) × (Nat → Int32) × (Nat → Int32) × Int32) :=
  F_X8_reading_b251 m_tape m_taped k17 FU m_faultKind m_faultPlace (m_reads + 1) m_newThings m_newQuires m_newLetter m_newSize m_newPlaced m_newKind m_codes m_extraPlace m_extraKind x2 x4 x5 0
def F_X8_reading_b193 (m_tape : Nat → Int32) (m_taped : Int32) (k17 : Int32 → Int32 → Int32 → Int32 → Int32 → Int32 → (Nat → Int32) → (Nat → Int32) → (Nat → Int32) → (Nat → Int32) → (Nat → Int32) → (Nat → Int32) → Int32 → Int32 → Option (Int32 × Int32 × Int32 × Int32 × Int32 × Int32 × Int32 × (Nat → Int32) × (Nat → Int32) × (Nat → Int32) × (Nat → Int32) × (Nat → Int32) × (Nat → Int32) × Int32)) (m_faultKind : Int32) (m_faultPlace : Int32) (m_reads : Int32) (m_newThings : Int32) (m_newQuires : Int32) (m_newLetter : Int32) (m_newSize : Nat → Int32) (m_newPlaced : Nat → Int32) (m_newKind : Nat → Int32) (m_codes : Nat → Int32) (m_extraPlace : Nat → Int32) (m_extraKind : Nat → Int32) (m_extras : Int32) (x2 : Int32) (x4 : Int32) : Option (Int32 × Int32 × Int32 × Int32 × Int32 × Int32 × Int32 × (Nat → Int32) × (Nat → Int32) × (Nat → Int32) × (Nat → Int32) × (Nat → Int32) × (Nat → Int32) × Int32) :=
  (F_X8_raw m_tape m_taped m_reads).bind fun c194 =>
  if (c194 - 48) = 2 then
    F_X8_reading_b238 m_tape m_taped k17 m_faultKind m_faultPlace m_reads m_newThings m_newQuires m_newLetter m_newSize m_newPlaced m_newKind m_codes m_extraPlace m_extraKind x2 x4 (c194 - 48)
  else
    if (c194 - 48) = 4 then
      F_X8_reading_b238 m_tape m_taped k17 m_faultKind m_faultPlace m_reads m_newThings m_newQuires m_newLetter m_newSize m_newPlaced m_newKind m_codes m_extraPlace m_extraKind x2 x4 (c194 - 48)
    else
      if (c194 - 48) = 6 then
        F_X8_reading_b238 m_tape m_taped k17 m_faultKind m_faultPlace m_reads m_newThings m_newQuires m_newLetter m_newSize m_newPlaced m_newKind m_codes m_extraPlace m_extraKind x2 x4 (c194 - 48)
      else
        if (c194 - 48) = 8 then
          F_X8_reading_b238 m_tape m_taped k17 m_faultKind m_faultPlace m_reads m_newThings m_newQuires m_newLetter m_newSize m_newPlaced m_newKind m_codes m_extraPlace m_extraKind x2 x4 (c194 - 48)
        else
          (F_X8_fails m_faultKind m_faultPlace 1 m_reads).bind fun c234 =>
          some (c234.1, c234.2.1, c234.2.2, m_reads, m_newThings, m_newQuires, m_newLetter, m_newSize, m_newPlaced, m_newKind, m_codes, m_extraPlace, m_extraKind, m_extras)
def F_X8_reading_b101 (m_tape : Nat → Int32) (m_taped : Int32) (k17 : Int32 → Int32 → Int32 → Int32 → Int32 → Int32 → (Nat → Int32) → (Nat → Int32) → (Nat → Int32) → (Nat → Int32) → (Nat → Int32) → (Nat → Int32) → Int32 → Int32 → Option (Int32 × Int32 × Int32 × Int32 × Int32 × Int32 × Int32 × (Nat → Int32) × (Nat → Int32) × (Nat → Int32) × (Nat → Int32) × (Nat → Int32) × (Nat → Int32) × Int32)) (m_faultKind : Int32) (m_faultPlace : Int32) (m_reads : Int32) (m_newThings : Int32) (m_newQuires : Int32) (m_newLetter : Int32) (m_newSize : Nat → Int32) (m_newPlaced : Nat → Int32) (m_newKind : Nat → Int32) (m_codes : Nat → Int32) (m_extraPlace : Nat → Int32) (m_extraKind : Nat → Int32) (m_extras : Int32) (x2 : Int32) (x3 : Int32) : Option (Int32 × Int32 × Int32 × Int32 × Int32 × Int32 × Int32 × (Nat → Int32) × (Nat → Int32) × (Nat → Int32) × (Nat → Int32) × (Nat → Int32) × (Nat → Int32) × Int32) :=
  (F_X8_raw m_tape m_taped m_reads).bind fun c105 =>
  if c105 = 45 then
    (F_X8_readLetters m_tape m_taped (m_reads + 1)).bind fun c130 =>
    if c130.1 = (-1) then
      (F_X8_fails m_faultKind m_faultPlace 1 c130.2).bind fun c147 =>
      some (c147.1, c147.2.1, c147.2.2, c130.2, m_newThings, m_newQuires, m_newLetter, m_newSize, m_newPlaced, m_newKind, m_codes, m_extraPlace, m_extraKind, m_extras)
    else
      if x3 < c130.1 then
        if (m_newQuires + ((c130.1 - x3) + 1)) ≤ 8 then
          F_X8_reading_b193 m_tape m_taped k17 m_faultKind m_faultPlace c130.2 m_newThings m_newQuires m_newLetter m_newSize m_newPlaced m_newKind m_codes m_extraPlace m_extraKind m_extras x2 ((c130.1 - x3) + 1)
        else
          (F_X8_fails m_faultKind m_faultPlace 4 (m_reads + 1)).bind fun c189 =>
          some (c189.1, c189.2.1, c189.2.2, c130.2, m_newThings, m_newQuires, m_newLetter, m_newSize, m_newPlaced, m_newKind, m_codes, m_extraPlace, m_extraKind, m_extras)
      else
        (F_X8_fails m_faultKind m_faultPlace 2 (m_reads + 1)).bind fun c161 =>
        some (c161.1, c161.2.1, c161.2.2, c130.2, m_newThings, m_newQuires, m_newLetter, m_newSize, m_newPlaced, m_newKind, m_codes, m_extraPlace, m_extraKind, m_extras)
  else
    F_X8_reading_b193 m_tape m_taped k17 m_faultKind m_faultPlace m_reads m_newThings m_newQuires m_newLetter m_newSize m_newPlaced m_newKind m_codes m_extraPlace m_extraKind m_extras x2 1
def F_X8_reading_b73 (m_tape : Nat → Int32) (m_taped : Int32) (k17 : Int32 → Int32 → Int32 → Int32 → Int32 → Int32 → (Nat → Int32) → (Nat → Int32) → (Nat → Int32) → (Nat → Int32) → (Nat → Int32) → (Nat → Int32) → Int32 → Int32 → Option (Int32 × Int32 × Int32 × Int32 × Int32 × Int32 × Int32 × (Nat → Int32) × (Nat → Int32) × (Nat → Int32) × (Nat → Int32) × (Nat → Int32) × (Nat → Int32) × Int32)) (m_faultKind : Int32) (m_faultPlace : Int32) (m_reads : Int32) (m_newThings : Int32) (m_newQuires : Int32) (m_newLetter : Int32) (m_newSize : Nat → Int32) (m_newPlaced : Nat → Int32) (m_newKind : Nat → Int32) (m_codes : Nat → Int32) (m_extraPlace : Nat → Int32) (m_extraKind : Nat → Int32) (m_extras : Int32) (x2 : Int32) (x3 : Int32) : Option (Int32 × Int32 × Int32 × Int32 × Int32 × Int32 × Int32 × (Nat → Int32) × (Nat → Int32) × (Nat → Int32) × (Nat → Int32) × (Nat → Int32) × (Nat → Int32) × Int32) :=
  if m_newQuires = 8 then
    (F_X8_fails m_faultKind m_faultPlace 4 x2).bind fun c85 =>
    some (c85.1, c85.2.1, c85.2.2, m_reads, m_newThings, m_newQuires, m_newLetter, m_newSize, m_newPlaced, m_newKind, m_codes, m_extraPlace, m_extraKind, m_extras)
  else
    if m_newQuires = 0 then
      F_X8_reading_b101 m_tape m_taped k17 m_faultKind m_faultPlace m_reads m_newThings m_newQuires x3 m_newSize m_newPlaced m_newKind m_codes m_extraPlace m_extraKind m_extras x2 x3
    else
      F_X8_reading_b101 m_tape m_taped k17 m_faultKind m_faultPlace m_reads m_newThings m_newQuires m_newLetter m_newSize m_newPlaced m_newKind m_codes m_extraPlace m_extraKind m_extras x2 x3
def F_X8_reading_b17 (m_tape : Nat → Int32) (m_taped : Int32) : Nat → Int32 → Int32 → Int32 → Int32 → Int32 → Int32 → (Nat → Int32) → (Nat → Int32) → (Nat → Int32) → (Nat → Int32) → (Nat → Int32) → (Nat → Int32) → Int32 → Int32 → Option (Int32 × Int32 × Int32 × Int32 × Int32 × Int32 × Int32 × (Nat → Int32) × (Nat → Int32) × (Nat → Int32) × (Nat → Int32) × (Nat → Int32) × (Nat → Int32) × Int32)
  | 0, _, _, _, _, _, _, _, _, _, _, _, _, _, _ => none
  | n + 1, m_faultKind, m_faultPlace, m_reads, m_newThings, m_newQuires, m_newLetter, m_newSize, m_newPlaced, m_newKind, m_codes, m_extraPlace, m_extraKind, m_extras, x1 =>
    if x1 = 0 then
      some (m_newThings, m_faultKind, m_faultPlace, m_reads, m_newThings, m_newQuires, m_newLetter, m_newSize, m_newPlaced, m_newKind, m_codes, m_extraPlace, m_extraKind, m_extras)
    else
      (F_X8_readLetters m_tape m_taped m_reads).bind fun c27 =>
      if c27.1 = (-1) then
        (F_X8_fails m_faultKind m_faultPlace 1 c27.2).bind fun c42 =>
        some (c42.1, c42.2.1, c42.2.2, c27.2, m_newThings, m_newQuires, m_newLetter, m_newSize, m_newPlaced, m_newKind, m_codes, m_extraPlace, m_extraKind, m_extras)
      else
        if m_newQuires ≤ 0 then
          F_X8_reading_b73 m_tape m_taped (fun m_faultKind m_faultPlace m_reads m_newThings m_newQuires m_newLetter m_newSize m_newPlaced m_newKind m_codes m_extraPlace m_extraKind m_extras x1 => F_X8_reading_b17 m_tape m_taped n m_faultKind m_faultPlace m_reads m_newThings m_newQuires m_newLetter m_newSize m_newPlaced m_newKind m_codes m_extraPlace m_extraKind m_extras x1) m_faultKind m_faultPlace c27.2 m_newThings m_newQuires m_newLetter m_newSize m_newPlaced m_newKind m_codes m_extraPlace m_extraKind m_extras m_reads c27.1
        else
          if c27.1 = (m_newLetter + m_newQuires) then
            F_X8_reading_b73 m_tape m_taped (fun m_faultKind m_faultPlace m_reads m_newThings m_newQuires m_newLetter m_newSize m_newPlaced m_newKind m_codes m_extraPlace m_extraKind m_extras x1 => F_X8_reading_b17 m_tape m_taped n m_faultKind m_faultPlace m_reads m_newThings m_newQuires m_newLetter m_newSize m_newPlaced m_newKind m_codes m_extraPlace m_extraKind m_extras x1) m_faultKind m_faultPlace c27.2 m_newThings m_newQuires m_newLetter m_newSize m_newPlaced m_newKind m_codes m_extraPlace m_extraKind m_extras m_reads c27.1
          else
            (F_X8_fails m_faultKind m_faultPlace 2 m_reads).bind fun c69 =>
            some (c69.1, c69.2.1, c69.2.2, c27.2, m_newThings, m_newQuires, m_newLetter, m_newSize, m_newPlaced, m_newKind, m_codes, m_extraPlace, m_extraKind, m_extras)
def F_X8_reading (m_tape : Nat → Int32) (m_taped : Int32) (m_faultKind : Int32) (m_faultPlace : Int32) (m_reads : Int32) (m_newThings : Int32) (m_newQuires : Int32) (m_newLetter : Int32) (m_newSize : Nat → Int32) (m_newPlaced : Nat → Int32) (m_newKind : Nat → Int32) (m_codes : Nat → Int32) (m_extraPlace : Nat → Int32) (m_extraKind : Nat → Int32) (m_extras : Int32) : Option (Int32 × Int32 × Int32 × Int32 × Int32 × Int32 × Int32 × (Nat → Int32) × (Nat → Int32) × (Nat → Int32) × (Nat → Int32) × (Nat → Int32) × (Nat → Int32) × Int32) :=
  F_X8_reading_b17 m_tape m_taped FU m_faultKind m_faultPlace 0 0 0 m_newLetter m_newSize m_newPlaced m_newKind m_codes m_extraPlace m_extraKind m_extras 1
def F_X8_read_b149 : Nat → Int32 → (Nat → Int32) → (Nat → Int32) → (Nat → Int32) → (Nat → Int32) → (Nat → Int32) → (Nat → Int32) → (Nat → Int32) → (Nat → Int32) → (Nat → Int32) → Int32 → Int32 → Int32 → Int32 → Int32 → Int32 → Int32 → (Nat → Int32) → (Nat → Int32) → (Nat → Int32) → (Nat → Int32) → (Nat → Int32) → (Nat → Int32) → Int32 → Int32 → Option (Int32 × Int32 × (Nat → Int32) × (Nat → Int32) × (Nat → Int32) × (Nat → Int32) × (Nat → Int32) × (Nat → Int32) × (Nat → Int32) × (Nat → Int32) × (Nat → Int32) × Int32 × Int32 × Int32 × Int32 × Int32 × Int32 × Int32 × (Nat → Int32) × (Nat → Int32) × (Nat → Int32) × (Nat → Int32) × (Nat → Int32) × (Nat → Int32) × Int32)
  | 0, _, _, _, _, _, _, _, _, _, _, _, _, _, _, _, _, _, _, _, _, _, _, _, _, _ => none
  | n + 1, m_told, m_isThere, m_things, m_quires, m_firstLetter, m_firstPage, m_sizeOf, m_placed, m_kindOf, m_catchOf, m_taped, m_faultKind, m_faultPlace, m_reads, m_newThings, m_newQuires, m_newLetter, m_newSize, m_newPlaced, m_newKind, m_codes, m_extraPlace, m_extraKind, m_extras, x2 =>
    if m_newThings ≤ x2 then
      some (m_newThings, m_told, m_isThere, m_things, m_quires, m_firstLetter, m_firstPage, m_sizeOf, m_placed, m_kindOf, m_catchOf, m_taped, m_faultKind, m_faultPlace, m_reads, m_newThings, m_newQuires, m_newLetter, m_newSize, m_newPlaced, m_newKind, m_codes, m_extraPlace, m_extraKind, m_extras)
    else
      ck (inb x2 64) <|
      ck (inb x2 150) <|
      ck (inb x2 150) <|
      F_X8_read_b149 n m_told m_isThere m_things m_quires m_firstLetter m_firstPage m_sizeOf m_placed (upd m_kindOf x2.toNatClampNeg (m_newKind x2.toNatClampNeg)) (upd m_catchOf x2.toNatClampNeg 0) m_taped m_faultKind m_faultPlace m_reads m_newThings m_newQuires m_newLetter m_newSize m_newPlaced m_newKind m_codes m_extraPlace m_extraKind m_extras (x2 + 1)
def F_X8_read_b100 (k78 : Int32 → (Nat → Int32) → (Nat → Int32) → (Nat → Int32) → (Nat → Int32) → (Nat → Int32) → (Nat → Int32) → (Nat → Int32) → (Nat → Int32) → (Nat → Int32) → Int32 → Int32 → Int32 → Int32 → Int32 → Int32 → Int32 → (Nat → Int32) → (Nat → Int32) → (Nat → Int32) → (Nat → Int32) → (Nat → Int32) → (Nat → Int32) → Int32 → Int32 → Option (Int32 × Int32 × (Nat → Int32) × (Nat → Int32) × (Nat → Int32) × (Nat → Int32) × (Nat → Int32) × (Nat → Int32) × (Nat → Int32) × (Nat → Int32) × (Nat → Int32) × Int32 × Int32 × Int32 × Int32 × Int32 × Int32 × Int32 × (Nat → Int32) × (Nat → Int32) × (Nat → Int32) × (Nat → Int32) × (Nat → Int32) × (Nat → Int32) × Int32)) : Nat → Int32 → (Nat → Int32) → (Nat → Int32) → (Nat → Int32) → (Nat → Int32) → (Nat → Int32) → (Nat → Int32) → (Nat → Int32) → (Nat → Int32) → (Nat → Int32) → Int32 → Int32 → Int32 → Int32 → Int32 → Int32 → Int32 → (Nat → Int32) → (Nat → Int32) → (Nat → Int32) → (Nat → Int32) → (Nat → Int32) → (Nat → Int32) → Int32 → Int32 → Int32 → Option (Int32 × Int32 × (Nat → Int32) × (Nat → Int32) × (Nat → Int32) × (Nat → Int32) × (Nat → Int32) × (Nat → Int32) × (Nat → Int32) × (Nat → Int32) × (Nat → Int32) × Int32 × Int32 × Int32 × Int32 × Int32 × Int32 × Int32 × (Nat → Int32) × (Nat → Int32) × (Nat → Int32) × (Nat → Int32) × (Nat → Int32) × (Nat → Int32) × Int32)
  | 0, _, _, _, _, _, _, _, _, _, _, _, _, _, _, _, _, _, _, _, _, _, _, _, _, _, _ => none
  | n + 1, m_told, m_isThere, m_things, m_quires, m_firstLetter, m_firstPage, m_sizeOf, m_placed, m_kindOf, m_catchOf, m_taped, m_faultKind, m_faultPlace, m_reads, m_newThings, m_newQuires, m_newLetter, m_newSize, m_newPlaced, m_newKind, m_codes, m_extraPlace, m_extraKind, m_extras, x2, x3 =>
    ck (inb x2 8) <|
    if (m_newSize x2.toNatClampNeg) < x3 then
      k78 m_told m_isThere m_things m_quires m_firstLetter m_firstPage m_sizeOf m_placed m_kindOf m_catchOf m_taped m_faultKind m_faultPlace m_reads m_newThings m_newQuires m_newLetter m_newSize m_newPlaced m_newKind m_codes m_extraPlace m_extraKind m_extras (x2 + 1)
    else
      (F_X8_at 0 x2 x3).bind fun c118 =>
      ck (inb ((((8 : Int32) * x2) + x3) - 1) 64) <|
      ck (inb c118 320) <|
      F_X8_read_b100 k78 n m_told m_isThere m_things m_quires m_firstLetter m_firstPage m_sizeOf (upd m_placed c118.toNatClampNeg (m_newPlaced ((((8 : Int32) * x2) + x3) - 1).toNatClampNeg)) m_kindOf m_catchOf m_taped m_faultKind m_faultPlace m_reads m_newThings m_newQuires m_newLetter m_newSize m_newPlaced m_newKind m_codes m_extraPlace m_extraKind m_extras x2 (x3 + 1)
def F_X8_read_b78 : Nat → Int32 → (Nat → Int32) → (Nat → Int32) → (Nat → Int32) → (Nat → Int32) → (Nat → Int32) → (Nat → Int32) → (Nat → Int32) → (Nat → Int32) → (Nat → Int32) → Int32 → Int32 → Int32 → Int32 → Int32 → Int32 → Int32 → (Nat → Int32) → (Nat → Int32) → (Nat → Int32) → (Nat → Int32) → (Nat → Int32) → (Nat → Int32) → Int32 → Int32 → Option (Int32 × Int32 × (Nat → Int32) × (Nat → Int32) × (Nat → Int32) × (Nat → Int32) × (Nat → Int32) × (Nat → Int32) × (Nat → Int32) × (Nat → Int32) × (Nat → Int32) × Int32 × Int32 × Int32 × Int32 × Int32 × Int32 × Int32 × (Nat → Int32) × (Nat → Int32) × (Nat → Int32) × (Nat → Int32) × (Nat → Int32) × (Nat → Int32) × Int32)
  | 0, _, _, _, _, _, _, _, _, _, _, _, _, _, _, _, _, _, _, _, _, _, _, _, _, _ => none
  | n + 1, m_told, m_isThere, m_things, m_quires, m_firstLetter, m_firstPage, m_sizeOf, m_placed, m_kindOf, m_catchOf, m_taped, m_faultKind, m_faultPlace, m_reads, m_newThings, m_newQuires, m_newLetter, m_newSize, m_newPlaced, m_newKind, m_codes, m_extraPlace, m_extraKind, m_extras, x2 =>
    if m_newQuires ≤ x2 then
      F_X8_read_b149 FU m_told m_isThere m_things m_quires m_firstLetter m_firstPage m_sizeOf m_placed m_kindOf m_catchOf m_taped m_faultKind m_faultPlace m_reads m_newThings m_newQuires m_newLetter m_newSize m_newPlaced m_newKind m_codes m_extraPlace m_extraKind m_extras 0
    else
      ck (inb x2 8) <|
      ck (inb x2 40) <|
      F_X8_read_b100 (fun m_told m_isThere m_things m_quires m_firstLetter m_firstPage m_sizeOf m_placed m_kindOf m_catchOf m_taped m_faultKind m_faultPlace m_reads m_newThings m_newQuires m_newLetter m_newSize m_newPlaced m_newKind m_codes m_extraPlace m_extraKind m_extras x2 => F_X8_read_b78 n m_told m_isThere m_things m_quires m_firstLetter m_firstPage m_sizeOf m_placed m_kindOf m_catchOf m_taped m_faultKind m_faultPlace m_reads m_newThings m_newQuires m_newLetter m_newSize m_newPlaced m_newKind m_codes m_extraPlace m_extraKind m_extras x2) FU m_told m_isThere m_things m_quires m_firstLetter m_firstPage (upd m_sizeOf x2.toNatClampNeg (m_newSize x2.toNatClampNeg)) m_placed m_kindOf m_catchOf m_taped m_faultKind m_faultPlace m_reads m_newThings m_newQuires m_newLetter m_newSize m_newPlaced m_newKind m_codes m_extraPlace m_extraKind m_extras x2 1
def F_X8_read (m_told : Int32) (m_isThere : Nat → Int32) (m_things : Nat → Int32) (m_quires : Nat → Int32) (m_firstLetter : Nat → Int32) (m_firstPage : Nat → Int32) (m_sizeOf : Nat → Int32) (m_placed : Nat → Int32) (m_kindOf : Nat → Int32) (m_catchOf : Nat → Int32) (m_tape : Nat → Int32) (m_taped : Int32) (m_faultKind : Int32) (m_faultPlace : Int32) (m_reads : Int32) (m_newThings : Int32) (m_newQuires : Int32) (m_newLetter : Int32) (m_newSize : Nat → Int32) (m_newPlaced : Nat → Int32) (m_newKind : Nat → Int32) (m_codes : Nat → Int32) (m_extraPlace : Nat → Int32) (m_extraKind : Nat → Int32) (m_extras : Int32) : Option (Int32 × Int32 × (Nat → Int32) × (Nat → Int32) × (Nat → Int32) × (Nat → Int32) × (Nat → Int32) × (Nat → Int32) × (Nat → Int32) × (Nat → Int32) × (Nat → Int32) × Int32 × Int32 × Int32 × Int32 × Int32 × Int32 × Int32 × (Nat → Int32) × (Nat → Int32) × (Nat → Int32) × (Nat → Int32) × (Nat → Int32) × (Nat → Int32) × Int32) :=
  (F_X8_reading m_tape m_taped m_faultKind m_faultPlace m_reads m_newThings m_newQuires m_newLetter m_newSize m_newPlaced m_newKind m_codes m_extraPlace m_extraKind m_extras).bind fun c6 =>
  if c6.1 = (-1) then
    some ((-1), 0, m_isThere, m_things, m_quires, m_firstLetter, m_firstPage, m_sizeOf, m_placed, m_kindOf, m_catchOf, 0, c6.2.1, c6.2.2.1, c6.2.2.2.1, c6.2.2.2.2.1, c6.2.2.2.2.2.1, c6.2.2.2.2.2.2.1, c6.2.2.2.2.2.2.2.1, c6.2.2.2.2.2.2.2.2.1, c6.2.2.2.2.2.2.2.2.2.1, c6.2.2.2.2.2.2.2.2.2.2.1, c6.2.2.2.2.2.2.2.2.2.2.2.1, c6.2.2.2.2.2.2.2.2.2.2.2.2.1, c6.2.2.2.2.2.2.2.2.2.2.2.2.2)
  else
    ck (inb 0 5) <|
    ck (inb 0 5) <|
    ck (inb 0 5) <|
    ck (inb 0 5) <|
    ck (inb 0 5) <|
    F_X8_read_b78 FU 0 (upd m_isThere (0 : Int32).toNatClampNeg 1) (upd m_things (0 : Int32).toNatClampNeg c6.2.2.2.2.1) (upd m_quires (0 : Int32).toNatClampNeg c6.2.2.2.2.2.1) (upd m_firstLetter (0 : Int32).toNatClampNeg c6.2.2.2.2.2.2.1) (upd m_firstPage (0 : Int32).toNatClampNeg 0) m_sizeOf m_placed m_kindOf m_catchOf 0 0 (-1) c6.2.2.2.1 c6.2.2.2.2.1 c6.2.2.2.2.2.1 c6.2.2.2.2.2.2.1 c6.2.2.2.2.2.2.2.1 c6.2.2.2.2.2.2.2.2.1 c6.2.2.2.2.2.2.2.2.2.1 c6.2.2.2.2.2.2.2.2.2.2.1 c6.2.2.2.2.2.2.2.2.2.2.2.1 c6.2.2.2.2.2.2.2.2.2.2.2.2.1 c6.2.2.2.2.2.2.2.2.2.2.2.2.2 0
def F_X8_fault (m_told : Int32) (m_faultKind : Int32) (m_faultPlace : Int32) (p0 : Int32) : Option (Int32 × Int32) :=
  if p0 = 0 then
    some (m_faultKind, 0)
  else
    if p0 = 1 then
      some (m_faultPlace, 0)
    else
      some ((-1), 0)
def F_X8_isCopy (p0 : Int32) : Option (Bool) :=
  if p0 < 0 then
    some false
  else
    if 4 ≤ p0 then
      some false
    else
      some true
def F_X8_keep_b129 : Nat → (Nat → Int32) → (Nat → Int32) → (Nat → Int32) → (Nat → Int32) → (Nat → Int32) → (Nat → Int32) → (Nat → Int32) → (Nat → Int32) → (Nat → Int32) → Int32 → Int32 → Int32 → Option ((Nat → Int32) × (Nat → Int32) × (Nat → Int32) × (Nat → Int32) × (Nat → Int32) × (Nat → Int32) × (Nat → Int32) × (Nat → Int32) × (Nat → Int32))
  | 0, _, _, _, _, _, _, _, _, _, _, _, _ => none
  | n + 1, m_isThere, m_things, m_quires, m_firstLetter, m_firstPage, m_sizeOf, m_placed, m_kindOf, m_catchOf, x1, x2, x3 =>
    if 30 ≤ x3 then
      some (m_isThere, m_things, m_quires, m_firstLetter, m_firstPage, m_sizeOf, m_placed, m_kindOf, m_catchOf)
    else
      ck (inb (((30 : Int32) * x1) + x3) 150) <|
      ck (inb (((30 : Int32) * x2) + x3) 150) <|
      ck (inb (((30 : Int32) * x1) + x3) 150) <|
      ck (inb (((30 : Int32) * x2) + x3) 150) <|
      F_X8_keep_b129 n m_isThere m_things m_quires m_firstLetter m_firstPage m_sizeOf m_placed (upd m_kindOf (((30 : Int32) * x2) + x3).toNatClampNeg (m_kindOf (((30 : Int32) * x1) + x3).toNatClampNeg)) (upd m_catchOf (((30 : Int32) * x2) + x3).toNatClampNeg (m_catchOf (((30 : Int32) * x1) + x3).toNatClampNeg)) x1 x2 (x3 + 1)
def F_X8_keep_b93 : Nat → (Nat → Int32) → (Nat → Int32) → (Nat → Int32) → (Nat → Int32) → (Nat → Int32) → (Nat → Int32) → (Nat → Int32) → (Nat → Int32) → (Nat → Int32) → Int32 → Int32 → Int32 → Option ((Nat → Int32) × (Nat → Int32) × (Nat → Int32) × (Nat → Int32) × (Nat → Int32) × (Nat → Int32) × (Nat → Int32) × (Nat → Int32) × (Nat → Int32))
  | 0, _, _, _, _, _, _, _, _, _, _, _, _ => none
  | n + 1, m_isThere, m_things, m_quires, m_firstLetter, m_firstPage, m_sizeOf, m_placed, m_kindOf, m_catchOf, x1, x2, x3 =>
    if 64 ≤ x3 then
      F_X8_keep_b129 FU m_isThere m_things m_quires m_firstLetter m_firstPage m_sizeOf m_placed m_kindOf m_catchOf x1 x2 0
    else
      ck (inb (((64 : Int32) * x1) + x3) 320) <|
      ck (inb (((64 : Int32) * x2) + x3) 320) <|
      F_X8_keep_b93 n m_isThere m_things m_quires m_firstLetter m_firstPage m_sizeOf (upd m_placed (((64 : Int32) * x2) + x3).toNatClampNeg (m_placed (((64 : Int32) * x1) + x3).toNatClampNeg)) m_kindOf m_catchOf x1 x2 (x3 + 1)
def F_X8_keep_b57 : Nat → (Nat → Int32) → (Nat → Int32) → (Nat → Int32) → (Nat → Int32) → (Nat → Int32) → (Nat → Int32) → (Nat → Int32) → (Nat → Int32) → (Nat → Int32) → Int32 → Int32 → Int32 → Option ((Nat → Int32) × (Nat → Int32) × (Nat → Int32) × (Nat → Int32) × (Nat → Int32) × (Nat → Int32) × (Nat → Int32) × (Nat → Int32) × (Nat → Int32))
  | 0, _, _, _, _, _, _, _, _, _, _, _, _ => none
  | n + 1, m_isThere, m_things, m_quires, m_firstLetter, m_firstPage, m_sizeOf, m_placed, m_kindOf, m_catchOf, x1, x2, x3 =>
    if 8 ≤ x3 then
      F_X8_keep_b93 FU m_isThere m_things m_quires m_firstLetter m_firstPage m_sizeOf m_placed m_kindOf m_catchOf x1 x2 0
    else
      ck (inb (((8 : Int32) * x1) + x3) 40) <|
      ck (inb (((8 : Int32) * x2) + x3) 40) <|
      F_X8_keep_b57 n m_isThere m_things m_quires m_firstLetter m_firstPage (upd m_sizeOf (((8 : Int32) * x2) + x3).toNatClampNeg (m_sizeOf (((8 : Int32) * x1) + x3).toNatClampNeg)) m_placed m_kindOf m_catchOf x1 x2 (x3 + 1)
def F_X8_keep (m_isThere : Nat → Int32) (m_things : Nat → Int32) (m_quires : Nat → Int32) (m_firstLetter : Nat → Int32) (m_firstPage : Nat → Int32) (m_sizeOf : Nat → Int32) (m_placed : Nat → Int32) (m_kindOf : Nat → Int32) (m_catchOf : Nat → Int32) (p0 : Int32) (p1 : Int32) : Option ((Nat → Int32) × (Nat → Int32) × (Nat → Int32) × (Nat → Int32) × (Nat → Int32) × (Nat → Int32) × (Nat → Int32) × (Nat → Int32) × (Nat → Int32)) :=
  ck (inb p1 5) <|
  ck (inb p0 5) <|
  ck (inb p1 5) <|
  ck (inb p0 5) <|
  ck (inb p1 5) <|
  ck (inb p0 5) <|
  ck (inb p1 5) <|
  ck (inb p0 5) <|
  ck (inb p1 5) <|
  F_X8_keep_b57 FU (upd m_isThere p1.toNatClampNeg 1) (upd m_things p1.toNatClampNeg (m_things p0.toNatClampNeg)) (upd m_quires p1.toNatClampNeg (m_quires p0.toNatClampNeg)) (upd m_firstLetter p1.toNatClampNeg (m_firstLetter p0.toNatClampNeg)) (upd m_firstPage p1.toNatClampNeg (m_firstPage p0.toNatClampNeg)) m_sizeOf m_placed m_kindOf m_catchOf p0 p1 0
def F_X8_copy (m_told : Int32) (m_isThere : Nat → Int32) (m_things : Nat → Int32) (m_quires : Nat → Int32) (m_firstLetter : Nat → Int32) (m_firstPage : Nat → Int32) (m_sizeOf : Nat → Int32) (m_placed : Nat → Int32) (m_kindOf : Nat → Int32) (m_catchOf : Nat → Int32) (p0 : Int32) : Option (Bool × Int32 × (Nat → Int32) × (Nat → Int32) × (Nat → Int32) × (Nat → Int32) × (Nat → Int32) × (Nat → Int32) × (Nat → Int32) × (Nat → Int32) × (Nat → Int32)) :=
  (F_X8_isCopy p0).bind fun c7 =>
  if (qb c7) = 0 then
    some (false, 0, m_isThere, m_things, m_quires, m_firstLetter, m_firstPage, m_sizeOf, m_placed, m_kindOf, m_catchOf)
  else
    ck (inb 0 5) <|
    if (m_isThere (0 : Int32).toNatClampNeg) = 0 then
      some (false, 0, m_isThere, m_things, m_quires, m_firstLetter, m_firstPage, m_sizeOf, m_placed, m_kindOf, m_catchOf)
    else
      (F_X8_keep m_isThere m_things m_quires m_firstLetter m_firstPage m_sizeOf m_placed m_kindOf m_catchOf 0 (p0 + 1)).bind fun c29 =>
      some (true, 0, c29.1, c29.2.1, c29.2.2.1, c29.2.2.2.1, c29.2.2.2.2.1, c29.2.2.2.2.2.1, c29.2.2.2.2.2.2.1, c29.2.2.2.2.2.2.2.1, c29.2.2.2.2.2.2.2.2)
def F_X8_code (m_isThere : Nat → Int32) (m_things : Nat → Int32) (m_quires : Nat → Int32) (m_sizeOf : Nat → Int32) (m_placed : Nat → Int32) (m_kindOf : Nat → Int32) (p0 : Int32) (p1 : Int32) (p2 : Int32) : Option (Int32) :=
  (F_X8_isPlace m_isThere m_quires m_sizeOf p0 p1 p2).bind fun c4 =>
  if (qb c4) = 0 then
    some 0
  else
    (F_X8_at p0 p1 p2).bind fun c20 =>
    ck (inb c20 320) <|
    if (m_placed c20.toNatClampNeg) = (-2) then
      some 1
    else
      ck (inb (((30 : Int32) * p0) + (m_placed c20.toNatClampNeg)) 150) <|
      if (m_kindOf (((30 : Int32) * p0) + (m_placed c20.toNatClampNeg)).toNatClampNeg) = 1 then
        some 2
      else
        (F_X8_isCancelled m_things m_kindOf p0 (m_placed c20.toNatClampNeg)).bind fun c57 =>
        if (qb c57) = 0 then
          some 3
        else
          some 4
def F_X8_areKept (m_isThere : Nat → Int32) (p0 : Int32) (p1 : Int32) : Option (Bool) :=
  (F_X8_isCopy p0).bind fun c2 =>
  if (qb c2) = 0 then
    some false
  else
    (F_X8_isCopy p1).bind fun c10 =>
    if (qb c10) = 0 then
      some false
    else
      ck (inb (p0 + 1) 5) <|
      if (m_isThere (p0 + 1).toNatClampNeg) = 0 then
        some false
      else
        ck (inb (p1 + 1) 5) <|
        if (m_isThere (p1 + 1).toNatClampNeg) = 0 then
          some false
        else
          some true
def F_X8_differences_b69 (m_isThere : Nat → Int32) (m_things : Nat → Int32) (m_quires : Nat → Int32) (m_sizeOf : Nat → Int32) (m_placed : Nat → Int32) (m_kindOf : Nat → Int32) (k16 : Int32 → Int32 → Int32 → Int32 → Int32 → Int32 → Int32 → Int32 → Option (Int32 × Int32 × Int32)) (m_foundQuire : Int32) (m_foundPlace : Int32) (x1 : Int32) (x2 : Int32) (x3 : Int32) (x4 : Int32) (x5 : Int32) (x6 : Int32) : Option (Int32 × Int32 × Int32) :=
  k16 m_foundQuire m_foundPlace x1 x2 x3 (x4 + 1) x5 (x6 + 1)
def F_X8_differences_b16 (m_isThere : Nat → Int32) (m_things : Nat → Int32) (m_quires : Nat → Int32) (m_sizeOf : Nat → Int32) (m_placed : Nat → Int32) (m_kindOf : Nat → Int32) (k6 : Int32 → Int32 → Int32 → Int32 → Int32 → Int32 → Int32 → Option (Int32 × Int32 × Int32)) : Nat → Int32 → Int32 → Int32 → Int32 → Int32 → Int32 → Int32 → Int32 → Option (Int32 × Int32 × Int32)
  | 0, _, _, _, _, _, _, _, _ => none
  | n + 1, m_foundQuire, m_foundPlace, x1, x2, x3, x4, x5, x6 =>
    if 8 < x6 then
      k6 m_foundQuire m_foundPlace x1 x2 x3 x4 (x5 + 1)
    else
      (F_X8_code m_isThere m_things m_quires m_sizeOf m_placed m_kindOf (x1 + 1) x5 x6).bind fun c31 =>
      (F_X8_code m_isThere m_things m_quires m_sizeOf m_placed m_kindOf (x2 + 1) x5 x6).bind fun c42 =>
      if c31 = c42 then
        F_X8_differences_b16 m_isThere m_things m_quires m_sizeOf m_placed m_kindOf k6 n m_foundQuire m_foundPlace x1 x2 x3 x4 x5 (x6 + 1)
      else
        if x4 = x3 then
          F_X8_differences_b69 m_isThere m_things m_quires m_sizeOf m_placed m_kindOf (fun m_foundQuire m_foundPlace x1 x2 x3 x4 x5 x6 => F_X8_differences_b16 m_isThere m_things m_quires m_sizeOf m_placed m_kindOf k6 n m_foundQuire m_foundPlace x1 x2 x3 x4 x5 x6) x5 x6 x1 x2 x3 x4 x5 x6
        else
          F_X8_differences_b69 m_isThere m_things m_quires m_sizeOf m_placed m_kindOf (fun m_foundQuire m_foundPlace x1 x2 x3 x4 x5 x6 => F_X8_differences_b16 m_isThere m_things m_quires m_sizeOf m_placed m_kindOf k6 n m_foundQuire m_foundPlace x1 x2 x3 x4 x5 x6) m_foundQuire m_foundPlace x1 x2 x3 x4 x5 x6
def F_X8_differences_b6 (m_isThere : Nat → Int32) (m_things : Nat → Int32) (m_quires : Nat → Int32) (m_sizeOf : Nat → Int32) (m_placed : Nat → Int32) (m_kindOf : Nat → Int32) : Nat → Int32 → Int32 → Int32 → Int32 → Int32 → Int32 → Int32 → Option (Int32 × Int32 × Int32)
  | 0, _, _, _, _, _, _, _ => none
  | n + 1, m_foundQuire, m_foundPlace, x1, x2, x3, x4, x5 =>
    if 8 ≤ x5 then
      some (x4, m_foundQuire, m_foundPlace)
    else
      F_X8_differences_b16 m_isThere m_things m_quires m_sizeOf m_placed m_kindOf (fun m_foundQuire m_foundPlace x1 x2 x3 x4 x5 => F_X8_differences_b6 m_isThere m_things m_quires m_sizeOf m_placed m_kindOf n m_foundQuire m_foundPlace x1 x2 x3 x4 x5) FU m_foundQuire m_foundPlace x1 x2 x3 x4 x5 1
def F_X8_differences (m_isThere : Nat → Int32) (m_things : Nat → Int32) (m_quires : Nat → Int32) (m_sizeOf : Nat → Int32) (m_placed : Nat → Int32) (m_kindOf : Nat → Int32) (m_foundQuire : Int32) (m_foundPlace : Int32) (p0 : Int32) (p1 : Int32) (p2 : Int32) : Option (Int32 × Int32 × Int32) :=
  F_X8_differences_b6 m_isThere m_things m_quires m_sizeOf m_placed m_kindOf FU m_foundQuire m_foundPlace p0 p1 p2 0 0
def F_X8_against (m_told : Int32) (m_isThere : Nat → Int32) (m_things : Nat → Int32) (m_quires : Nat → Int32) (m_sizeOf : Nat → Int32) (m_placed : Nat → Int32) (m_kindOf : Nat → Int32) (m_foundQuire : Int32) (m_foundPlace : Int32) (p0 : Int32) (p1 : Int32) : Option (Int32 × Int32 × Int32 × Int32) :=
  (F_X8_areKept m_isThere p0 p1).bind fun c8 =>
  if (qb c8) = 0 then
    some ((-1), 0, m_foundQuire, m_foundPlace)
  else
    (F_X8_differences m_isThere m_things m_quires m_sizeOf m_placed m_kindOf m_foundQuire m_foundPlace p0 p1 (-1)).bind fun c18 =>
    some (c18.1, 0, c18.2.1, c18.2.2)
def F_X8_differs_b75 (m_isThere : Nat → Int32) (m_things : Nat → Int32) (m_quires : Nat → Int32) (m_sizeOf : Nat → Int32) (m_placed : Nat → Int32) (m_kindOf : Nat → Int32) (m_told : Int32) (m_foundQuire : Int32) (m_foundPlace : Int32) (t0 : Int32) : Option (Int32 × Int32 × Int32 × Int32) :=
  (F_X8_code m_isThere m_things m_quires m_sizeOf m_placed m_kindOf (t0 + 1) m_foundQuire m_foundPlace).bind fun c85 =>
  some (c85, m_told, m_foundQuire, m_foundPlace)
def F_X8_differs (m_told : Int32) (m_isThere : Nat → Int32) (m_things : Nat → Int32) (m_quires : Nat → Int32) (m_sizeOf : Nat → Int32) (m_placed : Nat → Int32) (m_kindOf : Nat → Int32) (m_foundQuire : Int32) (m_foundPlace : Int32) (p0 : Int32) (p1 : Int32) (p2 : Int32) (p3 : Int32) : Option (Int32 × Int32 × Int32 × Int32) :=
  (F_X8_areKept m_isThere p0 p1).bind fun c8 =>
  if (qb c8) = 0 then
    some ((-1), 0, m_foundQuire, m_foundPlace)
  else
    if p2 < 0 then
      some ((-1), 0, m_foundQuire, m_foundPlace)
    else
      if p3 < 0 then
        some ((-1), 0, m_foundQuire, m_foundPlace)
      else
        if 3 < p3 then
          some ((-1), 0, m_foundQuire, m_foundPlace)
        else
          (F_X8_differences m_isThere m_things m_quires m_sizeOf m_placed m_kindOf m_foundQuire m_foundPlace p0 p1 p2).bind fun c34 =>
          if p2 < c34.1 then
            if p3 = 0 then
              some (c34.2.1, 0, c34.2.1, c34.2.2)
            else
              if p3 = 1 then
                some (c34.2.2, 0, c34.2.1, c34.2.2)
              else
                if p3 = 2 then
                  F_X8_differs_b75 m_isThere m_things m_quires m_sizeOf m_placed m_kindOf 0 c34.2.1 c34.2.2 p0
                else
                  F_X8_differs_b75 m_isThere m_things m_quires m_sizeOf m_placed m_kindOf 0 c34.2.1 c34.2.2 p1
          else
            some ((-1), 0, c34.2.1, c34.2.2)
def F_X8_makes (m_made : Int32) (m_madeKind : Nat → Int32) (p0 : Int32) : Option (Int32 × (Nat → Int32)) :=
  ck (inb m_made 200) <|
  some (m_made + 1, upd m_madeKind m_made.toNatClampNeg p0)
def F_X8_makesExtras_b52 (m_things : Nat → Int32) (m_kindOf : Nat → Int32) (k4 : Int32 → (Nat → Int32) → Int32 → Int32 → Int32 → Option (Int32 × (Nat → Int32))) (m_made : Int32) (m_madeKind : Nat → Int32) (x1 : Int32) (x2 : Int32) (x3 : Int32) : Option (Int32 × (Nat → Int32)) :=
  ck (inb (((30 : Int32) * x1) + x3) 150) <|
  (F_X8_makes m_made m_madeKind (m_kindOf (((30 : Int32) * x1) + x3).toNatClampNeg)).bind fun c64 =>
  k4 c64.1 c64.2 x1 x2 (x3 + 1)
def F_X8_makesExtras_b4 (m_things : Nat → Int32) (m_kindOf : Nat → Int32) : Nat → Int32 → (Nat → Int32) → Int32 → Int32 → Int32 → Option (Int32 × (Nat → Int32))
  | 0, _, _, _, _, _ => none
  | n + 1, m_made, m_madeKind, x1, x2, x3 =>
    ck (inb x1 5) <|
    if (m_things x1.toNatClampNeg) ≤ x3 then
      some (m_made, m_madeKind)
    else
      ck (inb (((30 : Int32) * x1) + x3) 150) <|
      (F_X8_isHanging (m_kindOf (((30 : Int32) * x1) + x3).toNatClampNeg)).bind fun c26 =>
      if (qb c26) = 0 then
        if x3 = (x2 + 1) then
          if x2 < 0 then
            F_X8_makesExtras_b52 m_things m_kindOf (fun m_made m_madeKind x1 x2 x3 => F_X8_makesExtras_b4 m_things m_kindOf n m_made m_madeKind x1 x2 x3) m_made m_madeKind x1 x2 x3
          else
            (F_X8_isCancelled m_things m_kindOf x1 x2).bind fun c46 =>
            if (qb c46) = 0 then
              F_X8_makesExtras_b52 m_things m_kindOf (fun m_made m_madeKind x1 x2 x3 => F_X8_makesExtras_b4 m_things m_kindOf n m_made m_madeKind x1 x2 x3) m_made m_madeKind x1 x2 x3
            else
              F_X8_makesExtras_b4 m_things m_kindOf n m_made m_madeKind x1 x2 (x3 + 1)
        else
          F_X8_makesExtras_b52 m_things m_kindOf (fun m_made m_madeKind x1 x2 x3 => F_X8_makesExtras_b4 m_things m_kindOf n m_made m_madeKind x1 x2 x3) m_made m_madeKind x1 x2 x3
      else
        some (m_made, m_madeKind)
def F_X8_makesExtras (m_things : Nat → Int32) (m_kindOf : Nat → Int32) (m_made : Int32) (m_madeKind : Nat → Int32) (p0 : Int32) (p1 : Int32) : Option (Int32 × (Nat → Int32)) :=
  F_X8_makesExtras_b4 m_things m_kindOf FU m_made m_madeKind p0 p1 (p1 + 1)
def F_X8_ideal_b529 : Nat → Int32 → (Nat → Int32) → (Nat → Int32) → (Nat → Int32) → (Nat → Int32) → (Nat → Int32) → (Nat → Int32) → (Nat → Int32) → (Nat → Int32) → (Nat → Int32) → Int32 → (Nat → Int32) → (Nat → Int32) → Int32 → Option (Int32 × Int32 × (Nat → Int32) × (Nat → Int32) × (Nat → Int32) × (Nat → Int32) × (Nat → Int32) × (Nat → Int32) × (Nat → Int32) × (Nat → Int32) × (Nat → Int32) × Int32 × (Nat → Int32) × (Nat → Int32))
  | 0, _, _, _, _, _, _, _, _, _, _, _, _, _, _ => none
  | n + 1, m_told, m_isThere, m_things, m_quires, m_firstLetter, m_firstPage, m_sizeOf, m_placed, m_kindOf, m_catchOf, m_made, m_madeKind, m_madePlaced, x6 =>
    if m_made ≤ x6 then
      some (m_made, m_told, m_isThere, m_things, m_quires, m_firstLetter, m_firstPage, m_sizeOf, m_placed, m_kindOf, m_catchOf, m_made, m_madeKind, m_madePlaced)
    else
      ck (inb x6 200) <|
      ck (inb x6 150) <|
      ck (inb x6 150) <|
      F_X8_ideal_b529 n m_told m_isThere m_things m_quires m_firstLetter m_firstPage m_sizeOf m_placed (upd m_kindOf x6.toNatClampNeg (m_madeKind x6.toNatClampNeg)) (upd m_catchOf x6.toNatClampNeg 0) m_made m_madeKind m_madePlaced (x6 + 1)
def F_X8_ideal_b473 (k439 : Int32 → (Nat → Int32) → (Nat → Int32) → (Nat → Int32) → (Nat → Int32) → (Nat → Int32) → (Nat → Int32) → (Nat → Int32) → (Nat → Int32) → (Nat → Int32) → Int32 → (Nat → Int32) → (Nat → Int32) → Int32 → Int32 → Option (Int32 × Int32 × (Nat → Int32) × (Nat → Int32) × (Nat → Int32) × (Nat → Int32) × (Nat → Int32) × (Nat → Int32) × (Nat → Int32) × (Nat → Int32) × (Nat → Int32) × Int32 × (Nat → Int32) × (Nat → Int32))) : Nat → Int32 → (Nat → Int32) → (Nat → Int32) → (Nat → Int32) → (Nat → Int32) → (Nat → Int32) → (Nat → Int32) → (Nat → Int32) → (Nat → Int32) → (Nat → Int32) → Int32 → (Nat → Int32) → (Nat → Int32) → Int32 → Int32 → Int32 → Option (Int32 × Int32 × (Nat → Int32) × (Nat → Int32) × (Nat → Int32) × (Nat → Int32) × (Nat → Int32) × (Nat → Int32) × (Nat → Int32) × (Nat → Int32) × (Nat → Int32) × Int32 × (Nat → Int32) × (Nat → Int32))
  | 0, _, _, _, _, _, _, _, _, _, _, _, _, _, _, _, _ => none
  | n + 1, m_told, m_isThere, m_things, m_quires, m_firstLetter, m_firstPage, m_sizeOf, m_placed, m_kindOf, m_catchOf, m_made, m_madeKind, m_madePlaced, x5, x6, x7 =>
    ck (inb x6 40) <|
    if (m_sizeOf x6.toNatClampNeg) < x7 then
      k439 m_told m_isThere m_things m_quires m_firstLetter m_firstPage m_sizeOf m_placed m_kindOf m_catchOf m_made m_madeKind m_madePlaced x5 (x6 + 1)
    else
      (F_X8_at 0 x6 x7).bind fun c495 =>
      ck (inb ((((8 : Int32) * x6) + x7) - 1) 64) <|
      ck (inb c495 320) <|
      F_X8_ideal_b473 k439 n m_told m_isThere m_things m_quires m_firstLetter m_firstPage m_sizeOf (upd m_placed c495.toNatClampNeg (m_madePlaced ((((8 : Int32) * x6) + x7) - 1).toNatClampNeg)) m_kindOf m_catchOf m_made m_madeKind m_madePlaced x5 x6 (x7 + 1)
def F_X8_ideal_b439 : Nat → Int32 → (Nat → Int32) → (Nat → Int32) → (Nat → Int32) → (Nat → Int32) → (Nat → Int32) → (Nat → Int32) → (Nat → Int32) → (Nat → Int32) → (Nat → Int32) → Int32 → (Nat → Int32) → (Nat → Int32) → Int32 → Int32 → Option (Int32 × Int32 × (Nat → Int32) × (Nat → Int32) × (Nat → Int32) × (Nat → Int32) × (Nat → Int32) × (Nat → Int32) × (Nat → Int32) × (Nat → Int32) × (Nat → Int32) × Int32 × (Nat → Int32) × (Nat → Int32))
  | 0, _, _, _, _, _, _, _, _, _, _, _, _, _, _, _ => none
  | n + 1, m_told, m_isThere, m_things, m_quires, m_firstLetter, m_firstPage, m_sizeOf, m_placed, m_kindOf, m_catchOf, m_made, m_madeKind, m_madePlaced, x5, x6 =>
    ck (inb 0 5) <|
    if (m_quires (0 : Int32).toNatClampNeg) ≤ x6 then
      F_X8_ideal_b529 FU m_told m_isThere m_things m_quires m_firstLetter m_firstPage m_sizeOf m_placed m_kindOf m_catchOf m_made m_madeKind m_madePlaced 0
    else
      ck (inb (((8 : Int32) * x5) + x6) 40) <|
      ck (inb x6 40) <|
      F_X8_ideal_b473 (fun m_told m_isThere m_things m_quires m_firstLetter m_firstPage m_sizeOf m_placed m_kindOf m_catchOf m_made m_madeKind m_madePlaced x5 x6 => F_X8_ideal_b439 n m_told m_isThere m_things m_quires m_firstLetter m_firstPage m_sizeOf m_placed m_kindOf m_catchOf m_made m_madeKind m_madePlaced x5 x6) FU m_told m_isThere m_things m_quires m_firstLetter m_firstPage (upd m_sizeOf x6.toNatClampNeg (m_sizeOf (((8 : Int32) * x5) + x6).toNatClampNeg)) m_placed m_kindOf m_catchOf m_made m_madeKind m_madePlaced x5 x6 1
def F_X8_ideal_b315 (k158 : Int32 → (Nat → Int32) → (Nat → Int32) → (Nat → Int32) → (Nat → Int32) → (Nat → Int32) → (Nat → Int32) → (Nat → Int32) → (Nat → Int32) → (Nat → Int32) → Int32 → (Nat → Int32) → (Nat → Int32) → Int32 → Int32 → Int32 → Int32 → Int32 → Option (Int32 × Int32 × (Nat → Int32) × (Nat → Int32) × (Nat → Int32) × (Nat → Int32) × (Nat → Int32) × (Nat → Int32) × (Nat → Int32) × (Nat → Int32) × (Nat → Int32) × Int32 × (Nat → Int32) × (Nat → Int32))) (m_told : Int32) (m_isThere : Nat → Int32) (m_things : Nat → Int32) (m_quires : Nat → Int32) (m_firstLetter : Nat → Int32) (m_firstPage : Nat → Int32) (m_sizeOf : Nat → Int32) (m_placed : Nat → Int32) (m_kindOf : Nat → Int32) (m_catchOf : Nat → Int32) (m_made : Int32) (m_madeKind : Nat → Int32) (m_madePlaced : Nat → Int32) (x3 : Int32) (x4 : Int32) (x5 : Int32) (x6 : Int32) (x7 : Int32) (x8 : Int32) : Option (Int32 × Int32 × (Nat → Int32) × (Nat → Int32) × (Nat → Int32) × (Nat → Int32) × (Nat → Int32) × (Nat → Int32) × (Nat → Int32) × (Nat → Int32) × (Nat → Int32) × Int32 × (Nat → Int32) × (Nat → Int32)) :=
  if x8 ≤ 1 then
    (F_X8_at x4 x6 x7).bind fun c357 =>
    ck (inb c357 320) <|
    (F_X8_makesExtras m_things m_kindOf m_made m_madeKind x4 (m_placed c357.toNatClampNeg)).bind fun c361 =>
    k158 m_told m_isThere m_things m_quires m_firstLetter m_firstPage m_sizeOf m_placed m_kindOf m_catchOf c361.1 c361.2 m_madePlaced x3 x4 x5 x6 (x7 + 1)
  else
    (F_X8_at x3 x6 x7).bind fun c333 =>
    ck (inb c333 320) <|
    (F_X8_makesExtras m_things m_kindOf m_made m_madeKind x3 (m_placed c333.toNatClampNeg)).bind fun c337 =>
    k158 m_told m_isThere m_things m_quires m_firstLetter m_firstPage m_sizeOf m_placed m_kindOf m_catchOf c337.1 c337.2 m_madePlaced x3 x4 x5 x6 (x7 + 1)
def F_X8_ideal_b301 (k158 : Int32 → (Nat → Int32) → (Nat → Int32) → (Nat → Int32) → (Nat → Int32) → (Nat → Int32) → (Nat → Int32) → (Nat → Int32) → (Nat → Int32) → (Nat → Int32) → Int32 → (Nat → Int32) → (Nat → Int32) → Int32 → Int32 → Int32 → Int32 → Int32 → Option (Int32 × Int32 × (Nat → Int32) × (Nat → Int32) × (Nat → Int32) × (Nat → Int32) × (Nat → Int32) × (Nat → Int32) × (Nat → Int32) × (Nat → Int32) × (Nat → Int32) × Int32 × (Nat → Int32) × (Nat → Int32))) (m_told : Int32) (m_isThere : Nat → Int32) (m_things : Nat → Int32) (m_quires : Nat → Int32) (m_firstLetter : Nat → Int32) (m_firstPage : Nat → Int32) (m_sizeOf : Nat → Int32) (m_placed : Nat → Int32) (m_kindOf : Nat → Int32) (m_catchOf : Nat → Int32) (m_made : Int32) (m_madeKind : Nat → Int32) (m_madePlaced : Nat → Int32) (x3 : Int32) (x4 : Int32) (x5 : Int32) (x6 : Int32) (x7 : Int32) (x8 : Int32) (x10 : Int32) (t0 : Int32) : Option (Int32 × Int32 × (Nat → Int32) × (Nat → Int32) × (Nat → Int32) × (Nat → Int32) × (Nat → Int32) × (Nat → Int32) × (Nat → Int32) × (Nat → Int32) × (Nat → Int32) × Int32 × (Nat → Int32) × (Nat → Int32)) :=
  (F_X8_makes m_made m_madeKind t0).bind fun c301 =>
  if x10 = 4 then
    (F_X8_makes c301.1 c301.2 4).bind fun c312 =>
    F_X8_ideal_b315 k158 m_told m_isThere m_things m_quires m_firstLetter m_firstPage m_sizeOf m_placed m_kindOf m_catchOf c312.1 c312.2 m_madePlaced x3 x4 x5 x6 x7 x8
  else
    F_X8_ideal_b315 k158 m_told m_isThere m_things m_quires m_firstLetter m_firstPage m_sizeOf m_placed m_kindOf m_catchOf c301.1 c301.2 m_madePlaced x3 x4 x5 x6 x7 x8
def F_X8_ideal_b279 (k158 : Int32 → (Nat → Int32) → (Nat → Int32) → (Nat → Int32) → (Nat → Int32) → (Nat → Int32) → (Nat → Int32) → (Nat → Int32) → (Nat → Int32) → (Nat → Int32) → Int32 → (Nat → Int32) → (Nat → Int32) → Int32 → Int32 → Int32 → Int32 → Int32 → Option (Int32 × Int32 × (Nat → Int32) × (Nat → Int32) × (Nat → Int32) × (Nat → Int32) × (Nat → Int32) × (Nat → Int32) × (Nat → Int32) × (Nat → Int32) × (Nat → Int32) × Int32 × (Nat → Int32) × (Nat → Int32))) (m_told : Int32) (m_isThere : Nat → Int32) (m_things : Nat → Int32) (m_quires : Nat → Int32) (m_firstLetter : Nat → Int32) (m_firstPage : Nat → Int32) (m_sizeOf : Nat → Int32) (m_placed : Nat → Int32) (m_kindOf : Nat → Int32) (m_catchOf : Nat → Int32) (m_made : Int32) (m_madeKind : Nat → Int32) (m_madePlaced : Nat → Int32) (x3 : Int32) (x4 : Int32) (x5 : Int32) (x6 : Int32) (x7 : Int32) (x8 : Int32) (x10 : Int32) (t0 : Int32) (t1 : Int32) : Option (Int32 × Int32 × (Nat → Int32) × (Nat → Int32) × (Nat → Int32) × (Nat → Int32) × (Nat → Int32) × (Nat → Int32) × (Nat → Int32) × (Nat → Int32) × (Nat → Int32) × Int32 × (Nat → Int32) × (Nat → Int32)) :=
  ck (inb t1 64) <|
  if x10 = 1 then
    k158 m_told m_isThere m_things m_quires m_firstLetter m_firstPage m_sizeOf m_placed m_kindOf m_catchOf m_made m_madeKind (upd m_madePlaced t1.toNatClampNeg t0) x3 x4 x5 x6 (x7 + 1)
  else
    if x10 = 2 then
      F_X8_ideal_b301 k158 m_told m_isThere m_things m_quires m_firstLetter m_firstPage m_sizeOf m_placed m_kindOf m_catchOf m_made m_madeKind (upd m_madePlaced t1.toNatClampNeg t0) x3 x4 x5 x6 x7 x8 x10 1
    else
      F_X8_ideal_b301 k158 m_told m_isThere m_things m_quires m_firstLetter m_firstPage m_sizeOf m_placed m_kindOf m_catchOf m_made m_madeKind (upd m_madePlaced t1.toNatClampNeg t0) x3 x4 x5 x6 x7 x8 x10 2
def F_X8_ideal_b248 (k158 : Int32 → (Nat → Int32) → (Nat → Int32) → (Nat → Int32) → (Nat → Int32) → (Nat → Int32) → (Nat → Int32) → (Nat → Int32) → (Nat → Int32) → (Nat → Int32) → Int32 → (Nat → Int32) → (Nat → Int32) → Int32 → Int32 → Int32 → Int32 → Int32 → Option (Int32 × Int32 × (Nat → Int32) × (Nat → Int32) × (Nat → Int32) × (Nat → Int32) × (Nat → Int32) × (Nat → Int32) × (Nat → Int32) × (Nat → Int32) × (Nat → Int32) × Int32 × (Nat → Int32) × (Nat → Int32))) (m_told : Int32) (m_isThere : Nat → Int32) (m_things : Nat → Int32) (m_quires : Nat → Int32) (m_firstLetter : Nat → Int32) (m_firstPage : Nat → Int32) (m_sizeOf : Nat → Int32) (m_placed : Nat → Int32) (m_kindOf : Nat → Int32) (m_catchOf : Nat → Int32) (m_made : Int32) (m_madeKind : Nat → Int32) (m_madePlaced : Nat → Int32) (x3 : Int32) (x4 : Int32) (x5 : Int32) (x6 : Int32) (x7 : Int32) (x8 : Int32) (t0 : Int32) : Option (Int32 × Int32 × (Nat → Int32) × (Nat → Int32) × (Nat → Int32) × (Nat → Int32) × (Nat → Int32) × (Nat → Int32) × (Nat → Int32) × (Nat → Int32) × (Nat → Int32) × Int32 × (Nat → Int32) × (Nat → Int32)) :=
  if t0 = 1 then
    F_X8_ideal_b279 k158 m_told m_isThere m_things m_quires m_firstLetter m_firstPage m_sizeOf m_placed m_kindOf m_catchOf m_made m_madeKind m_madePlaced x3 x4 x5 x6 x7 x8 t0 (-2) ((((8 : Int32) * x6) + x7) - 1)
  else
    F_X8_ideal_b279 k158 m_told m_isThere m_things m_quires m_firstLetter m_firstPage m_sizeOf m_placed m_kindOf m_catchOf m_made m_madeKind m_madePlaced x3 x4 x5 x6 x7 x8 t0 m_made ((((8 : Int32) * x6) + x7) - 1)
def F_X8_ideal_b158 (k143 : Int32 → (Nat → Int32) → (Nat → Int32) → (Nat → Int32) → (Nat → Int32) → (Nat → Int32) → (Nat → Int32) → (Nat → Int32) → (Nat → Int32) → (Nat → Int32) → Int32 → (Nat → Int32) → (Nat → Int32) → Int32 → Int32 → Int32 → Int32 → Option (Int32 × Int32 × (Nat → Int32) × (Nat → Int32) × (Nat → Int32) × (Nat → Int32) × (Nat → Int32) × (Nat → Int32) × (Nat → Int32) × (Nat → Int32) × (Nat → Int32) × Int32 × (Nat → Int32) × (Nat → Int32))) : Nat → Int32 → (Nat → Int32) → (Nat → Int32) → (Nat → Int32) → (Nat → Int32) → (Nat → Int32) → (Nat → Int32) → (Nat → Int32) → (Nat → Int32) → (Nat → Int32) → Int32 → (Nat → Int32) → (Nat → Int32) → Int32 → Int32 → Int32 → Int32 → Int32 → Option (Int32 × Int32 × (Nat → Int32) × (Nat → Int32) × (Nat → Int32) × (Nat → Int32) × (Nat → Int32) × (Nat → Int32) × (Nat → Int32) × (Nat → Int32) × (Nat → Int32) × Int32 × (Nat → Int32) × (Nat → Int32))
  | 0, _, _, _, _, _, _, _, _, _, _, _, _, _, _, _, _, _, _ => none
  | n + 1, m_told, m_isThere, m_things, m_quires, m_firstLetter, m_firstPage, m_sizeOf, m_placed, m_kindOf, m_catchOf, m_made, m_madeKind, m_madePlaced, x3, x4, x5, x6, x7 =>
    ck (inb (((8 : Int32) * x5) + x6) 40) <|
    if (m_sizeOf (((8 : Int32) * x5) + x6).toNatClampNeg) < x7 then
      k143 m_told m_isThere m_things m_quires m_firstLetter m_firstPage m_sizeOf m_placed m_kindOf m_catchOf m_made m_madeKind m_madePlaced x3 x4 x5 (x6 + 1)
    else
      (F_X8_code m_isThere m_things m_quires m_sizeOf m_placed m_kindOf x3 x6 x7).bind fun c182 =>
      (F_X8_code m_isThere m_things m_quires m_sizeOf m_placed m_kindOf x4 x6 x7).bind fun c194 =>
      if c182 = 2 then
        F_X8_ideal_b248 (fun m_told m_isThere m_things m_quires m_firstLetter m_firstPage m_sizeOf m_placed m_kindOf m_catchOf m_made m_madeKind m_madePlaced x3 x4 x5 x6 x7 => F_X8_ideal_b158 k143 n m_told m_isThere m_things m_quires m_firstLetter m_firstPage m_sizeOf m_placed m_kindOf m_catchOf m_made m_madeKind m_madePlaced x3 x4 x5 x6 x7) m_told m_isThere m_things m_quires m_firstLetter m_firstPage m_sizeOf m_placed m_kindOf m_catchOf m_made m_madeKind m_madePlaced x3 x4 x5 x6 x7 c182 2
      else
        if c194 = 2 then
          F_X8_ideal_b248 (fun m_told m_isThere m_things m_quires m_firstLetter m_firstPage m_sizeOf m_placed m_kindOf m_catchOf m_made m_madeKind m_madePlaced x3 x4 x5 x6 x7 => F_X8_ideal_b158 k143 n m_told m_isThere m_things m_quires m_firstLetter m_firstPage m_sizeOf m_placed m_kindOf m_catchOf m_made m_madeKind m_madePlaced x3 x4 x5 x6 x7) m_told m_isThere m_things m_quires m_firstLetter m_firstPage m_sizeOf m_placed m_kindOf m_catchOf m_made m_madeKind m_madePlaced x3 x4 x5 x6 x7 c182 2
        else
          if c182 = 4 then
            F_X8_ideal_b248 (fun m_told m_isThere m_things m_quires m_firstLetter m_firstPage m_sizeOf m_placed m_kindOf m_catchOf m_made m_madeKind m_madePlaced x3 x4 x5 x6 x7 => F_X8_ideal_b158 k143 n m_told m_isThere m_things m_quires m_firstLetter m_firstPage m_sizeOf m_placed m_kindOf m_catchOf m_made m_madeKind m_madePlaced x3 x4 x5 x6 x7) m_told m_isThere m_things m_quires m_firstLetter m_firstPage m_sizeOf m_placed m_kindOf m_catchOf m_made m_madeKind m_madePlaced x3 x4 x5 x6 x7 c182 4
          else
            if c194 = 4 then
              F_X8_ideal_b248 (fun m_told m_isThere m_things m_quires m_firstLetter m_firstPage m_sizeOf m_placed m_kindOf m_catchOf m_made m_madeKind m_madePlaced x3 x4 x5 x6 x7 => F_X8_ideal_b158 k143 n m_told m_isThere m_things m_quires m_firstLetter m_firstPage m_sizeOf m_placed m_kindOf m_catchOf m_made m_madeKind m_madePlaced x3 x4 x5 x6 x7) m_told m_isThere m_things m_quires m_firstLetter m_firstPage m_sizeOf m_placed m_kindOf m_catchOf m_made m_madeKind m_madePlaced x3 x4 x5 x6 x7 c182 4
            else
              if c182 = 3 then
                F_X8_ideal_b248 (fun m_told m_isThere m_things m_quires m_firstLetter m_firstPage m_sizeOf m_placed m_kindOf m_catchOf m_made m_madeKind m_madePlaced x3 x4 x5 x6 x7 => F_X8_ideal_b158 k143 n m_told m_isThere m_things m_quires m_firstLetter m_firstPage m_sizeOf m_placed m_kindOf m_catchOf m_made m_madeKind m_madePlaced x3 x4 x5 x6 x7) m_told m_isThere m_things m_quires m_firstLetter m_firstPage m_sizeOf m_placed m_kindOf m_catchOf m_made m_madeKind m_madePlaced x3 x4 x5 x6 x7 c182 3
              else
                if c194 = 3 then
                  F_X8_ideal_b248 (fun m_told m_isThere m_things m_quires m_firstLetter m_firstPage m_sizeOf m_placed m_kindOf m_catchOf m_made m_madeKind m_madePlaced x3 x4 x5 x6 x7 => F_X8_ideal_b158 k143 n m_told m_isThere m_things m_quires m_firstLetter m_firstPage m_sizeOf m_placed m_kindOf m_catchOf m_made m_madeKind m_madePlaced x3 x4 x5 x6 x7) m_told m_isThere m_things m_quires m_firstLetter m_firstPage m_sizeOf m_placed m_kindOf m_catchOf m_made m_madeKind m_madePlaced x3 x4 x5 x6 x7 c182 3
                else
                  F_X8_ideal_b248 (fun m_told m_isThere m_things m_quires m_firstLetter m_firstPage m_sizeOf m_placed m_kindOf m_catchOf m_made m_madeKind m_madePlaced x3 x4 x5 x6 x7 => F_X8_ideal_b158 k143 n m_told m_isThere m_things m_quires m_firstLetter m_firstPage m_sizeOf m_placed m_kindOf m_catchOf m_made m_madeKind m_madePlaced x3 x4 x5 x6 x7) m_told m_isThere m_things m_quires m_firstLetter m_firstPage m_sizeOf m_placed m_kindOf m_catchOf m_made m_madeKind m_madePlaced x3 x4 x5 x6 x7 c182 1
def F_X8_ideal_b143 : Nat → Int32 → (Nat → Int32) → (Nat → Int32) → (Nat → Int32) → (Nat → Int32) → (Nat → Int32) → (Nat → Int32) → (Nat → Int32) → (Nat → Int32) → (Nat → Int32) → Int32 → (Nat → Int32) → (Nat → Int32) → Int32 → Int32 → Int32 → Int32 → Option (Int32 × Int32 × (Nat → Int32) × (Nat → Int32) × (Nat → Int32) × (Nat → Int32) × (Nat → Int32) × (Nat → Int32) × (Nat → Int32) × (Nat → Int32) × (Nat → Int32) × Int32 × (Nat → Int32) × (Nat → Int32))
  | 0, _, _, _, _, _, _, _, _, _, _, _, _, _, _, _, _, _ => none
  | n + 1, m_told, m_isThere, m_things, m_quires, m_firstLetter, m_firstPage, m_sizeOf, m_placed, m_kindOf, m_catchOf, m_made, m_madeKind, m_madePlaced, x3, x4, x5, x6 =>
    ck (inb x5 5) <|
    if (m_quires x5.toNatClampNeg) ≤ x6 then
      if m_made ≤ 30 then
        ck (inb 0 5) <|
        ck (inb 0 5) <|
        ck (inb x5 5) <|
        ck (inb 0 5) <|
        ck (inb x3 5) <|
        ck (inb 0 5) <|
        ck (inb 0 5) <|
        F_X8_ideal_b439 FU m_told (upd m_isThere (0 : Int32).toNatClampNeg 1) (upd m_things (0 : Int32).toNatClampNeg m_made) (upd m_quires (0 : Int32).toNatClampNeg (m_quires x5.toNatClampNeg)) (upd m_firstLetter (0 : Int32).toNatClampNeg (m_firstLetter x3.toNatClampNeg)) (upd m_firstPage (0 : Int32).toNatClampNeg 0) m_sizeOf m_placed m_kindOf m_catchOf m_made m_madeKind m_madePlaced x5 0
      else
        some ((-1), m_told, m_isThere, m_things, m_quires, m_firstLetter, m_firstPage, m_sizeOf, m_placed, m_kindOf, m_catchOf, m_made, m_madeKind, m_madePlaced)
    else
      F_X8_ideal_b158 (fun m_told m_isThere m_things m_quires m_firstLetter m_firstPage m_sizeOf m_placed m_kindOf m_catchOf m_made m_madeKind m_madePlaced x3 x4 x5 x6 => F_X8_ideal_b143 n m_told m_isThere m_things m_quires m_firstLetter m_firstPage m_sizeOf m_placed m_kindOf m_catchOf m_made m_madeKind m_madePlaced x3 x4 x5 x6) FU m_told m_isThere m_things m_quires m_firstLetter m_firstPage m_sizeOf m_placed m_kindOf m_catchOf m_made m_madeKind m_madePlaced x3 x4 x5 x6 1
def F_X8_ideal_b127 (m_told : Int32) (m_isThere : Nat → Int32) (m_things : Nat → Int32) (m_quires : Nat → Int32) (m_firstLetter : Nat → Int32) (m_firstPage : Nat → Int32) (m_sizeOf : Nat → Int32) (m_placed : Nat → Int32) (m_kindOf : Nat → Int32) (m_catchOf : Nat → Int32) (m_madeKind : Nat → Int32) (m_madePlaced : Nat → Int32) (x3 : Int32) (x4 : Int32) (t0 : Int32) : Option (Int32 × Int32 × (Nat → Int32) × (Nat → Int32) × (Nat → Int32) × (Nat → Int32) × (Nat → Int32) × (Nat → Int32) × (Nat → Int32) × (Nat → Int32) × (Nat → Int32) × Int32 × (Nat → Int32) × (Nat → Int32)) :=
  (F_X8_makesExtras m_things m_kindOf 0 m_madeKind x3 (-1)).bind fun c137 =>
  F_X8_ideal_b143 FU m_told m_isThere m_things m_quires m_firstLetter m_firstPage m_sizeOf m_placed m_kindOf m_catchOf c137.1 c137.2 m_madePlaced x3 x4 t0 0
def F_X8_ideal_b105 (m_told : Int32) (m_isThere : Nat → Int32) (m_things : Nat → Int32) (m_quires : Nat → Int32) (m_firstLetter : Nat → Int32) (m_firstPage : Nat → Int32) (m_sizeOf : Nat → Int32) (m_placed : Nat → Int32) (m_kindOf : Nat → Int32) (m_catchOf : Nat → Int32) (m_madeKind : Nat → Int32) (m_madePlaced : Nat → Int32) (x3 : Int32) (x4 : Int32) : Option (Int32 × Int32 × (Nat → Int32) × (Nat → Int32) × (Nat → Int32) × (Nat → Int32) × (Nat → Int32) × (Nat → Int32) × (Nat → Int32) × (Nat → Int32) × (Nat → Int32) × Int32 × (Nat → Int32) × (Nat → Int32)) :=
  ck (inb x3 5) <|
  ck (inb x4 5) <|
  if (m_quires x3.toNatClampNeg) < (m_quires x4.toNatClampNeg) then
    F_X8_ideal_b127 m_told m_isThere m_things m_quires m_firstLetter m_firstPage m_sizeOf m_placed m_kindOf m_catchOf m_madeKind m_madePlaced x3 x4 x4
  else
    F_X8_ideal_b127 m_told m_isThere m_things m_quires m_firstLetter m_firstPage m_sizeOf m_placed m_kindOf m_catchOf m_madeKind m_madePlaced x3 x4 x3
def F_X8_ideal_b46 : Nat → Int32 → (Nat → Int32) → (Nat → Int32) → (Nat → Int32) → (Nat → Int32) → (Nat → Int32) → (Nat → Int32) → (Nat → Int32) → (Nat → Int32) → (Nat → Int32) → Int32 → (Nat → Int32) → (Nat → Int32) → Int32 → Int32 → Int32 → Option (Int32 × Int32 × (Nat → Int32) × (Nat → Int32) × (Nat → Int32) × (Nat → Int32) × (Nat → Int32) × (Nat → Int32) × (Nat → Int32) × (Nat → Int32) × (Nat → Int32) × Int32 × (Nat → Int32) × (Nat → Int32))
  | 0, _, _, _, _, _, _, _, _, _, _, _, _, _, _, _, _ => none
  | n + 1, m_told, m_isThere, m_things, m_quires, m_firstLetter, m_firstPage, m_sizeOf, m_placed, m_kindOf, m_catchOf, m_made, m_madeKind, m_madePlaced, x3, x4, x5 =>
    ck (inb x3 5) <|
    if (m_quires x3.toNatClampNeg) ≤ x5 then
      F_X8_ideal_b105 m_told m_isThere m_things m_quires m_firstLetter m_firstPage m_sizeOf m_placed m_kindOf m_catchOf m_madeKind m_madePlaced x3 x4
    else
      ck (inb x4 5) <|
      if (m_quires x4.toNatClampNeg) ≤ x5 then
        F_X8_ideal_b105 m_told m_isThere m_things m_quires m_firstLetter m_firstPage m_sizeOf m_placed m_kindOf m_catchOf m_madeKind m_madePlaced x3 x4
      else
        ck (inb (((8 : Int32) * x3) + x5) 40) <|
        ck (inb (((8 : Int32) * x4) + x5) 40) <|
        if (m_sizeOf (((8 : Int32) * x3) + x5).toNatClampNeg) = (m_sizeOf (((8 : Int32) * x4) + x5).toNatClampNeg) then
          F_X8_ideal_b46 n m_told m_isThere m_things m_quires m_firstLetter m_firstPage m_sizeOf m_placed m_kindOf m_catchOf m_made m_madeKind m_madePlaced x3 x4 (x5 + 1)
        else
          some ((-1), m_told, m_isThere, m_things, m_quires, m_firstLetter, m_firstPage, m_sizeOf, m_placed, m_kindOf, m_catchOf, m_made, m_madeKind, m_madePlaced)
def F_X8_ideal (m_told : Int32) (m_isThere : Nat → Int32) (m_things : Nat → Int32) (m_quires : Nat → Int32) (m_firstLetter : Nat → Int32) (m_firstPage : Nat → Int32) (m_sizeOf : Nat → Int32) (m_placed : Nat → Int32) (m_kindOf : Nat → Int32) (m_catchOf : Nat → Int32) (m_made : Int32) (m_madeKind : Nat → Int32) (m_madePlaced : Nat → Int32) (p0 : Int32) (p1 : Int32) : Option (Int32 × Int32 × (Nat → Int32) × (Nat → Int32) × (Nat → Int32) × (Nat → Int32) × (Nat → Int32) × (Nat → Int32) × (Nat → Int32) × (Nat → Int32) × (Nat → Int32) × Int32 × (Nat → Int32) × (Nat → Int32)) :=
  (F_X8_areKept m_isThere p0 p1).bind fun c8 =>
  if (qb c8) = 0 then
    some ((-1), 0, m_isThere, m_things, m_quires, m_firstLetter, m_firstPage, m_sizeOf, m_placed, m_kindOf, m_catchOf, m_made, m_madeKind, m_madePlaced)
  else
    ck (inb (p0 + 1) 5) <|
    ck (inb (p1 + 1) 5) <|
    if (m_firstLetter (p0 + 1).toNatClampNeg) = (m_firstLetter (p1 + 1).toNatClampNeg) then
      F_X8_ideal_b46 FU 0 m_isThere m_things m_quires m_firstLetter m_firstPage m_sizeOf m_placed m_kindOf m_catchOf m_made m_madeKind m_madePlaced (p0 + 1) (p1 + 1) 0
    else
      some ((-1), 0, m_isThere, m_things, m_quires, m_firstLetter, m_firstPage, m_sizeOf, m_placed, m_kindOf, m_catchOf, m_made, m_madeKind, m_madePlaced)

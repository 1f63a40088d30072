def F_X3_sign (d_pos : Int32) (t_bytes : Nat → Int32) (t_length : Int32) : Option (Int32) :=
  (F_X6_signAt t_bytes t_length d_pos).bind fun c19 =>
  some c19
def F_X3_readLetters_b9 (t_bytes : Nat → Int32) (t_length : Int32) : Nat → Int32 → Int32 → Int32 → Int32 → Option (Int32 × Int32)
  | 0, _, _, _, _ => none
  | n + 1, d_pos, x1, x2, x3 =>
    if 23 ≤ x3 then
      if x2 = 0 then
        some (0, d_pos)
      else
        (F_X3_sign (d_pos + 1) t_bytes t_length).bind fun c51 =>
        if c51 = x1 then
          some (x2 + 23, (d_pos + 1) + 1)
        else
          some (x2, d_pos + 1)
    else
      ck (inb x3 23) <|
      if (s_abc x3.toNatClampNeg) = x1 then
        F_X3_readLetters_b9 t_bytes t_length n d_pos x1 (x3 + 1) (x3 + 1)
      else
        F_X3_readLetters_b9 t_bytes t_length n d_pos x1 x2 (x3 + 1)
def F_X3_readLetters (d_pos : Int32) (t_bytes : Nat → Int32) (t_length : Int32) : Option (Int32 × Int32) :=
  (F_X3_sign d_pos t_bytes t_length).bind fun c1 =>
  F_X3_readLetters_b9 t_bytes t_length FU d_pos c1 0 0
def F_X3_fail (d_fault : Int32) (d_faultAt : Int32) (p0 : Int32) (p1 : Int32) : Option (Bool × Int32 × Int32) :=
  some (false, p0, p1)
def F_X3_readLast (d_fault : Int32) (d_faultAt : Int32) (d_pos : Int32) (t_bytes : Nat → Int32) (t_length : Int32) (p0 : Int32) (p1 : Int32) : Option (Int32 × Int32 × Int32 × Int32) :=
  (F_X3_readLetters d_pos t_bytes t_length).bind fun c6 =>
  if c6.1 = 0 then
    (F_X3_fail d_fault d_faultAt 1 d_pos).bind fun c19 =>
    some (0, c19.2.1, c19.2.2, c6.2)
  else
    if p0 < c6.1 then
      if (((p1 + c6.1) - p0) + 1) ≤ 8 then
        some (c6.1, d_fault, d_faultAt, c6.2)
      else
        (F_X3_fail d_fault d_faultAt 4 d_pos).bind fun c56 =>
        some (0, c56.2.1, c56.2.2, c6.2)
    else
      (F_X3_fail d_fault d_faultAt 2 d_pos).bind fun c34 =>
      some (0, c34.2.1, c34.2.2, c6.2)
def F_X3_readSize_b39 (d_fault : Int32) (d_faultAt : Int32) (d_pos : Int32) (x1 : Int32) : Option (Bool × Int32 × Int32 × Int32 × Int32) :=
  some (true, d_fault, d_faultAt, d_pos + 1, x1 - 48)
def F_X3_readSize (d_fault : Int32) (d_faultAt : Int32) (d_pos : Int32) (d_size : Int32) (t_bytes : Nat → Int32) (t_length : Int32) : Option (Bool × Int32 × Int32 × Int32 × Int32) :=
  (F_X3_sign d_pos t_bytes t_length).bind fun c1 =>
  if c1 = 50 then
    F_X3_readSize_b39 d_fault d_faultAt d_pos c1
  else
    if c1 = 52 then
      F_X3_readSize_b39 d_fault d_faultAt d_pos c1
    else
      if c1 = 54 then
        F_X3_readSize_b39 d_fault d_faultAt d_pos c1
      else
        if c1 = 56 then
          F_X3_readSize_b39 d_fault d_faultAt d_pos c1
        else
          (F_X3_fail d_fault d_faultAt 1 d_pos).bind fun c35 =>
          some (c35.1, c35.2.1, c35.2.2, d_pos, d_size)
def F_X3_canFollow (d_states : Nat → Int32) (d_itemSign : Int32) (d_itemPlace : Int32) (p0 : Int32) (p1 : Int32) : Option (Bool) :=
  if p1 < d_itemPlace then
    some false
  else
    if 8 < p1 then
      some false
    else
      ck (inb p1 9) <|
      if (d_states p1.toNatClampNeg) = 1 then
        some false
      else
        if p0 = 107 then
          if d_itemSign = 115 then
            if p1 = d_itemPlace then
              some false
            else
              some true
          else
            some true
        else
          some true
def F_X3_keepLoose (d_looseKinds : Nat → Int32) (d_loosePlaces : Nat → Int32) (d_looseCount : Int32) (p0 : Int32) (p1 : Int32) : Option ((Nat → Int32) × (Nat → Int32) × Int32) :=
  if 30 < d_looseCount then
    some (d_looseKinds, d_loosePlaces, d_looseCount)
  else
    ck (inb d_looseCount 31) <|
    ck (inb d_looseCount 31) <|
    some (upd d_looseKinds d_looseCount.toNatClampNeg p0, upd d_loosePlaces d_looseCount.toNatClampNeg p1, d_looseCount + 1)
def F_X3_keepItem_b118 (d_states : Nat → Int32) (d_looseKinds : Nat → Int32) (d_loosePlaces : Nat → Int32) (d_looseCount : Int32) (d_ghosts : Int32) (d_itemSign : Int32) (d_itemPlace : Int32) (x2 : Int32) (t0 : Int32) : Option ((Nat → Int32) × (Nat → Int32) × (Nat → Int32) × Int32 × Int32 × Int32 × Int32) :=
  (F_X3_keepLoose d_looseKinds d_loosePlaces d_looseCount t0 x2).bind fun c119 =>
  some (d_states, c119.1, c119.2.1, c119.2.2, d_ghosts, d_itemSign, d_itemPlace)
def F_X3_keepItem (d_states : Nat → Int32) (d_looseKinds : Nat → Int32) (d_loosePlaces : Nat → Int32) (d_looseCount : Int32) (d_ghosts : Int32) (d_itemSign : Int32) (d_itemPlace : Int32) (p0 : Int32) (p1 : Int32) : Option ((Nat → Int32) × (Nat → Int32) × (Nat → Int32) × Int32 × Int32 × Int32 × Int32) :=
  if p1 < 0 then
    some (d_states, d_looseKinds, d_loosePlaces, d_looseCount, d_ghosts, p0, p1)
  else
    if p1 ≤ 8 then
      if p0 = 45 then
        ck (inb p1 9) <|
        some (upd d_states p1.toNatClampNeg 1, d_looseKinds, d_loosePlaces, d_looseCount, d_ghosts + 1, p0, p1)
      else if p0 = 99 then
        ck (inb p1 9) <|
        some (upd d_states p1.toNatClampNeg 4, d_looseKinds, d_loosePlaces, d_looseCount, d_ghosts, p0, p1)
      else if p0 = 115 then
        ck (inb p1 9) <|
        some (upd d_states p1.toNatClampNeg 3, d_looseKinds, d_loosePlaces, d_looseCount, d_ghosts, p0, p1)
      else 
        if p0 = 103 then
          F_X3_keepItem_b118 d_states d_looseKinds d_loosePlaces d_looseCount d_ghosts p0 p1 p1 3
        else
          if p0 = 107 then
            F_X3_keepItem_b118 d_states d_looseKinds d_loosePlaces d_looseCount d_ghosts p0 p1 p1 4
          else
            F_X3_keepItem_b118 d_states d_looseKinds d_loosePlaces d_looseCount d_ghosts p0 p1 p1 5
    else
      some (d_states, d_looseKinds, d_loosePlaces, d_looseCount, d_ghosts, p0, p1)
def F_X3_readItem_b96 (d_fault : Int32) (d_faultAt : Int32) (d_pos : Int32) (d_states : Nat → Int32) (d_looseKinds : Nat → Int32) (d_loosePlaces : Nat → Int32) (d_looseCount : Int32) (d_ghosts : Int32) (d_itemSign : Int32) (d_itemPlace : Int32) : Option (Bool × Int32 × Int32 × Int32 × (Nat → Int32) × (Nat → Int32) × (Nat → Int32) × Int32 × Int32 × Int32 × Int32) :=
  (F_X3_fail d_fault d_faultAt 1 d_pos).bind fun c102 =>
  some (c102.1, c102.2.1, c102.2.2, d_pos, d_states, d_looseKinds, d_loosePlaces, d_looseCount, d_ghosts, d_itemSign, d_itemPlace)
def F_X3_readItem_b155 (d_fault : Int32) (d_faultAt : Int32) (d_pos : Int32) (d_states : Nat → Int32) (d_looseKinds : Nat → Int32) (d_loosePlaces : Nat → Int32) (d_looseCount : Int32) (d_ghosts : Int32) (d_itemSign : Int32) (d_itemPlace : Int32) : Option (Bool × Int32 × Int32 × Int32 × (Nat → Int32) × (Nat → Int32) × (Nat → Int32) × Int32 × Int32 × Int32 × Int32) :=
  (F_X3_fail d_fault d_faultAt 3 d_pos).bind fun c161 =>
  some (c161.1, c161.2.1, c161.2.2, d_pos, d_states, d_looseKinds, d_loosePlaces, d_looseCount, d_ghosts, d_itemSign, d_itemPlace)
def F_X3_readItem_b202 (d_fault : Int32) (d_faultAt : Int32) (d_pos : Int32) (d_states : Nat → Int32) (d_looseKinds : Nat → Int32) (d_loosePlaces : Nat → Int32) (d_looseCount : Int32) (d_ghosts : Int32) (d_itemSign : Int32) (d_itemPlace : Int32) (x3 : Int32) (x5 : Int32) : Option (Bool × Int32 × Int32 × Int32 × (Nat → Int32) × (Nat → Int32) × (Nat → Int32) × Int32 × Int32 × Int32 × Int32) :=
  (F_X3_keepItem d_states d_looseKinds d_loosePlaces d_looseCount d_ghosts d_itemSign d_itemPlace x3 x5).bind fun c206 =>
  some (true, d_fault, d_faultAt, d_pos + 1, c206.1, c206.2.1, c206.2.2.1, c206.2.2.2.1, c206.2.2.2.2.1, c206.2.2.2.2.2.1, c206.2.2.2.2.2.2)
def F_X3_readItem_b192 (d_fault : Int32) (d_faultAt : Int32) (d_pos : Int32) (d_states : Nat → Int32) (d_looseKinds : Nat → Int32) (d_loosePlaces : Nat → Int32) (d_looseCount : Int32) (d_ghosts : Int32) (d_itemSign : Int32) (d_itemPlace : Int32) : Option (Bool × Int32 × Int32 × Int32 × (Nat → Int32) × (Nat → Int32) × (Nat → Int32) × Int32 × Int32 × Int32 × Int32) :=
  (F_X3_fail d_fault d_faultAt 3 d_pos).bind fun c198 =>
  some (c198.1, c198.2.1, c198.2.2, d_pos, d_states, d_looseKinds, d_loosePlaces, d_looseCount, d_ghosts, d_itemSign, d_itemPlace)
def F_X3_readItem_b152 (d_fault : Int32) (d_faultAt : Int32) (d_pos : Int32) (d_states : Nat → Int32) (d_looseKinds : Nat → Int32) (d_loosePlaces : Nat → Int32) (d_looseCount : Int32) (d_ghosts : Int32) (d_itemSign : Int32) (d_itemPlace : Int32) (x3 : Int32) (x4 : Int32) (x5 : Int32) (t0 : Int32) (t1 : Int32) : Option (Bool × Int32 × Int32 × Int32 × (Nat → Int32) × (Nat → Int32) × (Nat → Int32) × Int32 × Int32 × Int32 × Int32) :=
  if t0 ≤ t1 then
    if x4 = 0 then
      if d_itemPlace < x5 then
        F_X3_readItem_b202 d_fault d_faultAt d_pos d_states d_looseKinds d_loosePlaces d_looseCount d_ghosts d_itemSign d_itemPlace x3 x5
      else
        F_X3_readItem_b192 d_fault d_faultAt d_pos d_states d_looseKinds d_loosePlaces d_looseCount d_ghosts d_itemSign d_itemPlace
    else
      (F_X3_canFollow d_states d_itemSign d_itemPlace x3 x5).bind fun c174 =>
      if (qb c174) = 0 then
        F_X3_readItem_b192 d_fault d_faultAt d_pos d_states d_looseKinds d_loosePlaces d_looseCount d_ghosts d_itemSign d_itemPlace
      else
        F_X3_readItem_b202 d_fault d_faultAt d_pos d_states d_looseKinds d_loosePlaces d_looseCount d_ghosts d_itemSign d_itemPlace x3 x5
  else
    F_X3_readItem_b155 d_fault d_faultAt d_pos d_states d_looseKinds d_loosePlaces d_looseCount d_ghosts d_itemSign d_itemPlace
def F_X3_readItem_b127 (d_size : Int32) (d_fault : Int32) (d_faultAt : Int32) (d_pos : Int32) (d_states : Nat → Int32) (d_looseKinds : Nat → Int32) (d_loosePlaces : Nat → Int32) (d_looseCount : Int32) (d_ghosts : Int32) (d_itemSign : Int32) (d_itemPlace : Int32) (x1 : Int32) (x3 : Int32) (x4 : Int32) (x5 : Int32) : Option (Bool × Int32 × Int32 × Int32 × (Nat → Int32) × (Nat → Int32) × (Nat → Int32) × Int32 × Int32 × Int32 × Int32) :=
  if d_size < x5 then
    F_X3_readItem_b155 d_fault d_faultAt d_pos d_states d_looseKinds d_loosePlaces d_looseCount d_ghosts d_itemSign d_itemPlace
  else
    if x4 = 0 then
      F_X3_readItem_b152 d_fault d_faultAt d_pos d_states d_looseKinds d_loosePlaces d_looseCount d_ghosts d_itemSign d_itemPlace x3 x4 x5 1 x5
    else
      if x1 = 0 then
        F_X3_readItem_b152 d_fault d_faultAt d_pos d_states d_looseKinds d_loosePlaces d_looseCount d_ghosts d_itemSign d_itemPlace x3 x4 x5 1 x5
      else
        F_X3_readItem_b152 d_fault d_faultAt d_pos d_states d_looseKinds d_loosePlaces d_looseCount d_ghosts d_itemSign d_itemPlace x3 x4 x5 0 x5
def F_X3_readItem_b65 (d_size : Int32) (t_bytes : Nat → Int32) (t_length : Int32) (d_fault : Int32) (d_faultAt : Int32) (d_pos : Int32) (d_states : Nat → Int32) (d_looseKinds : Nat → Int32) (d_loosePlaces : Nat → Int32) (d_looseCount : Int32) (d_ghosts : Int32) (d_itemSign : Int32) (d_itemPlace : Int32) (x1 : Int32) (x2 : Int32) (x3 : Int32) (x4 : Int32) : Option (Bool × Int32 × Int32 × Int32 × (Nat → Int32) × (Nat → Int32) × (Nat → Int32) × Int32 × Int32 × Int32 × Int32) :=
  (F_X3_sign (d_pos + 1) t_bytes t_length).bind fun c76 =>
  if (c76 - 48) < 0 then
    F_X3_readItem_b96 d_fault d_faultAt (d_pos + 1) d_states d_looseKinds d_loosePlaces d_looseCount d_ghosts d_itemSign d_itemPlace
  else
    if (c76 - 48) ≤ 9 then
      if x3 = 45 then
        if d_ghosts < 4 then
          F_X3_readItem_b127 d_size d_fault d_faultAt (d_pos + 1) d_states d_looseKinds d_loosePlaces d_looseCount d_ghosts d_itemSign d_itemPlace x1 x3 x4 (c76 - 48)
        else
          (F_X3_fail d_fault d_faultAt 4 x2).bind fun c123 =>
          some (c123.1, c123.2.1, c123.2.2, d_pos + 1, d_states, d_looseKinds, d_loosePlaces, d_looseCount, d_ghosts, d_itemSign, d_itemPlace)
      else
        F_X3_readItem_b127 d_size d_fault d_faultAt (d_pos + 1) d_states d_looseKinds d_loosePlaces d_looseCount d_ghosts d_itemSign d_itemPlace x1 x3 x4 (c76 - 48)
    else
      F_X3_readItem_b96 d_fault d_faultAt (d_pos + 1) d_states d_looseKinds d_loosePlaces d_looseCount d_ghosts d_itemSign d_itemPlace
def F_X3_readItem_b33 (d_size : Int32) (t_bytes : Nat → Int32) (t_length : Int32) (d_fault : Int32) (d_faultAt : Int32) (d_pos : Int32) (d_states : Nat → Int32) (d_looseKinds : Nat → Int32) (d_loosePlaces : Nat → Int32) (d_looseCount : Int32) (d_ghosts : Int32) (d_itemSign : Int32) (d_itemPlace : Int32) (x1 : Int32) (x2 : Int32) (x3 : Int32) (t0 : Int32) : Option (Bool × Int32 × Int32 × Int32 × (Nat → Int32) × (Nat → Int32) × (Nat → Int32) × Int32 × Int32 × Int32 × Int32) :=
  if t0 = 0 then
    if x3 = 45 then
      F_X3_readItem_b65 d_size t_bytes t_length d_fault d_faultAt d_pos d_states d_looseKinds d_loosePlaces d_looseCount d_ghosts d_itemSign d_itemPlace x1 x2 x3 t0
    else
      if x3 = 115 then
        F_X3_readItem_b65 d_size t_bytes t_length d_fault d_faultAt d_pos d_states d_looseKinds d_loosePlaces d_looseCount d_ghosts d_itemSign d_itemPlace x1 x2 x3 t0
      else
        if x3 = 99 then
          F_X3_readItem_b65 d_size t_bytes t_length d_fault d_faultAt d_pos d_states d_looseKinds d_loosePlaces d_looseCount d_ghosts d_itemSign d_itemPlace x1 x2 x3 t0
        else
          (F_X3_fail d_fault d_faultAt 1 x2).bind fun c61 =>
          some (c61.1, c61.2.1, c61.2.2, d_pos, d_states, d_looseKinds, d_loosePlaces, d_looseCount, d_ghosts, d_itemSign, d_itemPlace)
  else
    F_X3_readItem_b65 d_size t_bytes t_length d_fault d_faultAt d_pos d_states d_looseKinds d_loosePlaces d_looseCount d_ghosts d_itemSign d_itemPlace x1 x2 x3 t0
def F_X3_readItem (d_fault : Int32) (d_faultAt : Int32) (d_pos : Int32) (d_states : Nat → Int32) (d_looseKinds : Nat → Int32) (d_loosePlaces : Nat → Int32) (d_looseCount : Int32) (d_ghosts : Int32) (d_size : Int32) (d_itemSign : Int32) (d_itemPlace : Int32) (t_bytes : Nat → Int32) (t_length : Int32) (p0 : Int32) : Option (Bool × Int32 × Int32 × Int32 × (Nat → Int32) × (Nat → Int32) × (Nat → Int32) × Int32 × Int32 × Int32 × Int32) :=
  (F_X3_sign d_pos t_bytes t_length).bind fun c6 =>
  if c6 = 103 then
    F_X3_readItem_b33 d_size t_bytes t_length d_fault d_faultAt d_pos d_states d_looseKinds d_loosePlaces d_looseCount d_ghosts d_itemSign d_itemPlace p0 d_pos c6 1
  else
    if c6 = 107 then
      F_X3_readItem_b33 d_size t_bytes t_length d_fault d_faultAt d_pos d_states d_looseKinds d_loosePlaces d_looseCount d_ghosts d_itemSign d_itemPlace p0 d_pos c6 1
    else
      if c6 = 112 then
        F_X3_readItem_b33 d_size t_bytes t_length d_fault d_faultAt d_pos d_states d_looseKinds d_loosePlaces d_looseCount d_ghosts d_itemSign d_itemPlace p0 d_pos c6 1
      else
        F_X3_readItem_b33 d_size t_bytes t_length d_fault d_faultAt d_pos d_states d_looseKinds d_loosePlaces d_looseCount d_ghosts d_itemSign d_itemPlace p0 d_pos c6 0
def F_X3_readBracket_b88 (d_size : Int32) (t_bytes : Nat → Int32) (t_length : Int32) : Nat → Int32 → Int32 → Int32 → (Nat → Int32) → (Nat → Int32) → (Nat → Int32) → Int32 → Int32 → Int32 → Int32 → Int32 → Int32 → Int32 → Option (Bool × Int32 × Int32 × Int32 × (Nat → Int32) × (Nat → Int32) × (Nat → Int32) × Int32 × Int32 × Int32 × Int32)
  | 0, _, _, _, _, _, _, _, _, _, _, _, _, _ => none
  | n + 1, d_fault, d_faultAt, d_pos, d_states, d_looseKinds, d_loosePlaces, d_looseCount, d_ghosts, d_itemSign, d_itemPlace, x1, x3, x4 =>
    if x3 ≤ x4 then
      (F_X3_fail d_fault d_faultAt 1 d_pos).bind fun c166 =>
      some (c166.1, c166.2.1, c166.2.2, d_pos, d_states, d_looseKinds, d_loosePlaces, d_looseCount, d_ghosts, d_itemSign, d_itemPlace)
    else
      (F_X3_readItem d_fault d_faultAt (d_pos + 1) d_states d_looseKinds d_loosePlaces d_looseCount d_ghosts d_size d_itemSign d_itemPlace t_bytes t_length x1).bind fun c106 =>
      if (qb c106.1) = 0 then
        some (false, c106.2.1, c106.2.2.1, c106.2.2.2.1, c106.2.2.2.2.1, c106.2.2.2.2.2.1, c106.2.2.2.2.2.2.1, c106.2.2.2.2.2.2.2.1, c106.2.2.2.2.2.2.2.2.1, c106.2.2.2.2.2.2.2.2.2.1, c106.2.2.2.2.2.2.2.2.2.2)
      else
        (F_X3_sign c106.2.2.2.1 t_bytes t_length).bind fun c115 =>
        if c115 = 41 then
          some (true, c106.2.1, c106.2.2.1, c106.2.2.2.1 + 1, c106.2.2.2.2.1, c106.2.2.2.2.2.1, c106.2.2.2.2.2.2.1, c106.2.2.2.2.2.2.2.1, c106.2.2.2.2.2.2.2.2.1, c106.2.2.2.2.2.2.2.2.2.1, c106.2.2.2.2.2.2.2.2.2.2)
        else
          (F_X3_sign c106.2.2.2.1 t_bytes t_length).bind fun c136 =>
          if c136 = 44 then
            F_X3_readBracket_b88 d_size t_bytes t_length n c106.2.1 c106.2.2.1 c106.2.2.2.1 c106.2.2.2.2.1 c106.2.2.2.2.2.1 c106.2.2.2.2.2.2.1 c106.2.2.2.2.2.2.2.1 c106.2.2.2.2.2.2.2.2.1 c106.2.2.2.2.2.2.2.2.2.1 c106.2.2.2.2.2.2.2.2.2.2 x1 x3 (x4 + 1)
          else
            (F_X3_fail c106.2.1 c106.2.2.1 1 c106.2.2.2.1).bind fun c150 =>
            some (c150.1, c150.2.1, c150.2.2, c106.2.2.2.1, c106.2.2.2.2.1, c106.2.2.2.2.2.1, c106.2.2.2.2.2.2.1, c106.2.2.2.2.2.2.2.1, c106.2.2.2.2.2.2.2.2.1, c106.2.2.2.2.2.2.2.2.2.1, c106.2.2.2.2.2.2.2.2.2.2)
def F_X3_readBracket_b22 (d_size : Int32) (t_bytes : Nat → Int32) (t_length : Int32) : Nat → Int32 → Int32 → Int32 → (Nat → Int32) → (Nat → Int32) → (Nat → Int32) → Int32 → Int32 → Int32 → Int32 → Int32 → Int32 → Int32 → Option (Bool × Int32 × Int32 × Int32 × (Nat → Int32) × (Nat → Int32) × (Nat → Int32) × Int32 × Int32 × Int32 × Int32)
  | 0, _, _, _, _, _, _, _, _, _, _, _, _, _ => none
  | n + 1, d_fault, d_faultAt, d_pos, d_states, d_looseKinds, d_loosePlaces, d_looseCount, d_ghosts, d_itemSign, d_itemPlace, x1, x2, x3 =>
    if 8 < x3 then
      (F_X3_sign d_pos t_bytes t_length).bind fun c42 =>
      if c42 = 40 then
        if x2 = 0 then
          F_X3_readBracket_b88 d_size t_bytes t_length FU d_fault d_faultAt d_pos d_states d_looseKinds d_loosePlaces d_looseCount d_ghosts d_itemSign d_itemPlace x1 t_length 0
        else
          (F_X3_fail d_fault d_faultAt 2 d_pos).bind fun c62 =>
          some (c62.1, c62.2.1, c62.2.2, d_pos, d_states, d_looseKinds, d_loosePlaces, d_looseCount, d_ghosts, d_itemSign, d_itemPlace)
      else
        some (true, d_fault, d_faultAt, d_pos, d_states, d_looseKinds, d_loosePlaces, d_looseCount, d_ghosts, d_itemSign, d_itemPlace)
    else
      ck (inb x3 9) <|
      F_X3_readBracket_b22 d_size t_bytes t_length n d_fault d_faultAt d_pos (upd d_states x3.toNatClampNeg 2) d_looseKinds d_loosePlaces d_looseCount d_ghosts d_itemSign d_itemPlace x1 x2 (x3 + 1)
def F_X3_readBracket (d_fault : Int32) (d_faultAt : Int32) (d_pos : Int32) (d_states : Nat → Int32) (d_looseKinds : Nat → Int32) (d_loosePlaces : Nat → Int32) (d_looseCount : Int32) (d_ghosts : Int32) (d_size : Int32) (d_itemSign : Int32) (d_itemPlace : Int32) (t_bytes : Nat → Int32) (t_length : Int32) (p0 : Int32) (p1 : Int32) : Option (Bool × Int32 × Int32 × Int32 × (Nat → Int32) × (Nat → Int32) × (Nat → Int32) × Int32 × Int32 × Int32 × Int32) :=
  F_X3_readBracket_b22 d_size t_bytes t_length FU d_fault d_faultAt d_pos d_states d_looseKinds d_loosePlaces 0 0 0 0 p0 p1 0
def F_X3_addLooseOf_b2 (d_looseKinds : Nat → Int32) (d_loosePlaces : Nat → Int32) (d_looseCount : Int32) : Nat → Int32 → (Nat → Int32) → Int32 → Int32 → Option (Int32 × (Nat → Int32))
  | 0, _, _, _, _ => none
  | n + 1, f_things, f_kinds, x2, x3 =>
    if d_looseCount ≤ x3 then
      some (f_things, f_kinds)
    else
      ck (inb x3 31) <|
      if (d_loosePlaces x3.toNatClampNeg) = x2 then
        ck (inb x3 31) <|
        (F_X0_addThing f_things f_kinds (d_looseKinds x3.toNatClampNeg)).bind fun c27 =>
        F_X3_addLooseOf_b2 d_looseKinds d_loosePlaces d_looseCount n c27.1 c27.2 x2 (x3 + 1)
      else
        F_X3_addLooseOf_b2 d_looseKinds d_loosePlaces d_looseCount n f_things f_kinds x2 (x3 + 1)
def F_X3_addLooseOf (d_looseKinds : Nat → Int32) (d_loosePlaces : Nat → Int32) (d_looseCount : Int32) (f_things : Int32) (f_kinds : Nat → Int32) (p1 : Int32) : Option (Int32 × (Nat → Int32)) :=
  F_X3_addLooseOf_b2 d_looseKinds d_loosePlaces d_looseCount FU f_things f_kinds p1 0
def F_X3_addQuire_b82 (d_states : Nat → Int32) (d_looseKinds : Nat → Int32) (d_loosePlaces : Nat → Int32) (d_looseCount : Int32) (d_size : Int32) (k16 : Int32 → Int32 → Int32 → (Nat → Int32) → (Nat → Int32) → (Nat → Int32) → (Nat → Int32) → (Nat → Int32) → (Nat → Int32) → Int32 → Int32 → Option (Int32 × Int32 × Int32 × (Nat → Int32) × (Nat → Int32) × (Nat → Int32) × (Nat → Int32) × (Nat → Int32) × (Nat → Int32) × Int32)) (f_quires : Int32) (f_things : Int32) (f_ghosts : Int32) (f_sizes : Nat → Int32) (f_cells : Nat → Int32) (f_kinds : Nat → Int32) (f_words : Nat → Int32) (f_quireOf : Nat → Int32) (f_placeOf : Nat → Int32) (f_laid : Int32) (x2 : Int32) : Option (Int32 × Int32 × Int32 × (Nat → Int32) × (Nat → Int32) × (Nat → Int32) × (Nat → Int32) × (Nat → Int32) × (Nat → Int32) × Int32) :=
  (F_X3_addLooseOf d_looseKinds d_loosePlaces d_looseCount f_things f_kinds x2).bind fun c85 =>
  k16 f_quires c85.1 f_ghosts f_sizes f_cells c85.2 f_words f_quireOf f_placeOf f_laid (x2 + 1)
def F_X3_addQuire_b63 (d_states : Nat → Int32) (d_looseKinds : Nat → Int32) (d_loosePlaces : Nat → Int32) (d_looseCount : Int32) (d_size : Int32) (k16 : Int32 → Int32 → Int32 → (Nat → Int32) → (Nat → Int32) → (Nat → Int32) → (Nat → Int32) → (Nat → Int32) → (Nat → Int32) → Int32 → Int32 → Option (Int32 × Int32 × Int32 × (Nat → Int32) × (Nat → Int32) × (Nat → Int32) × (Nat → Int32) × (Nat → Int32) × (Nat → Int32) × Int32)) (f_quires : Int32) (f_things : Int32) (f_ghosts : Int32) (f_sizes : Nat → Int32) (f_cells : Nat → Int32) (f_kinds : Nat → Int32) (f_words : Nat → Int32) (f_quireOf : Nat → Int32) (f_placeOf : Nat → Int32) (f_laid : Int32) (x2 : Int32) (t0 : Int32) : Option (Int32 × Int32 × Int32 × (Nat → Int32) × (Nat → Int32) × (Nat → Int32) × (Nat → Int32) × (Nat → Int32) × (Nat → Int32) × Int32) :=
  (F_X0_addLeaf f_quires f_things f_cells f_kinds f_words f_quireOf f_placeOf f_laid t0 0).bind fun c64 =>
  ck (inb x2 9) <|
  if (d_states x2.toNatClampNeg) = 4 then
    (F_X0_addThing c64.1 c64.2.2.1 4).bind fun c79 =>
    F_X3_addQuire_b82 d_states d_looseKinds d_loosePlaces d_looseCount d_size k16 f_quires c79.1 f_ghosts f_sizes c64.2.1 c79.2 c64.2.2.2.1 c64.2.2.2.2.1 c64.2.2.2.2.2.1 c64.2.2.2.2.2.2 x2
  else
    F_X3_addQuire_b82 d_states d_looseKinds d_loosePlaces d_looseCount d_size k16 f_quires c64.1 f_ghosts f_sizes c64.2.1 c64.2.2.1 c64.2.2.2.1 c64.2.2.2.2.1 c64.2.2.2.2.2.1 c64.2.2.2.2.2.2 x2
def F_X3_addQuire_b16 (d_states : Nat → Int32) (d_looseKinds : Nat → Int32) (d_loosePlaces : Nat → Int32) (d_looseCount : Int32) (d_size : Int32) : Nat → Int32 → Int32 → Int32 → (Nat → Int32) → (Nat → Int32) → (Nat → Int32) → (Nat → Int32) → (Nat → Int32) → (Nat → Int32) → Int32 → Int32 → Option (Int32 × Int32 × Int32 × (Nat → Int32) × (Nat → Int32) × (Nat → Int32) × (Nat → Int32) × (Nat → Int32) × (Nat → Int32) × Int32)
  | 0, _, _, _, _, _, _, _, _, _, _, _ => none
  | n + 1, f_quires, f_things, f_ghosts, f_sizes, f_cells, f_kinds, f_words, f_quireOf, f_placeOf, f_laid, x2 =>
    if d_size < x2 then
      some (f_quires, f_things, f_ghosts, f_sizes, f_cells, f_kinds, f_words, f_quireOf, f_placeOf, f_laid)
    else
      if 8 < x2 then
        some (f_quires, f_things, f_ghosts, f_sizes, f_cells, f_kinds, f_words, f_quireOf, f_placeOf, f_laid)
      else
        ck (inb x2 9) <|
        if (d_states x2.toNatClampNeg) = 1 then
          (F_X0_addGhost f_quires f_ghosts f_cells f_laid).bind fun c41 =>
          F_X3_addQuire_b82 d_states d_looseKinds d_loosePlaces d_looseCount d_size (fun f_quires f_things f_ghosts f_sizes f_cells f_kinds f_words f_quireOf f_placeOf f_laid x2 => F_X3_addQuire_b16 d_states d_looseKinds d_loosePlaces d_looseCount d_size n f_quires f_things f_ghosts f_sizes f_cells f_kinds f_words f_quireOf f_placeOf f_laid x2) f_quires f_things c41.1 f_sizes c41.2.1 f_kinds f_words f_quireOf f_placeOf c41.2.2 x2
        else
          ck (inb x2 9) <|
          if (d_states x2.toNatClampNeg) = 2 then
            F_X3_addQuire_b63 d_states d_looseKinds d_loosePlaces d_looseCount d_size (fun f_quires f_things f_ghosts f_sizes f_cells f_kinds f_words f_quireOf f_placeOf f_laid x2 => F_X3_addQuire_b16 d_states d_looseKinds d_loosePlaces d_looseCount d_size n f_quires f_things f_ghosts f_sizes f_cells f_kinds f_words f_quireOf f_placeOf f_laid x2) f_quires f_things f_ghosts f_sizes f_cells f_kinds f_words f_quireOf f_placeOf f_laid x2 1
          else
            F_X3_addQuire_b63 d_states d_looseKinds d_loosePlaces d_looseCount d_size (fun f_quires f_things f_ghosts f_sizes f_cells f_kinds f_words f_quireOf f_placeOf f_laid x2 => F_X3_addQuire_b16 d_states d_looseKinds d_loosePlaces d_looseCount d_size n f_quires f_things f_ghosts f_sizes f_cells f_kinds f_words f_quireOf f_placeOf f_laid x2) f_quires f_things f_ghosts f_sizes f_cells f_kinds f_words f_quireOf f_placeOf f_laid x2 2
def F_X3_addQuire (d_states : Nat → Int32) (d_looseKinds : Nat → Int32) (d_loosePlaces : Nat → Int32) (d_looseCount : Int32) (d_size : Int32) (f_quires : Int32) (f_things : Int32) (f_ghosts : Int32) (f_sizes : Nat → Int32) (f_cells : Nat → Int32) (f_kinds : Nat → Int32) (f_words : Nat → Int32) (f_quireOf : Nat → Int32) (f_placeOf : Nat → Int32) (f_laid : Int32) : Option (Int32 × Int32 × Int32 × (Nat → Int32) × (Nat → Int32) × (Nat → Int32) × (Nat → Int32) × (Nat → Int32) × (Nat → Int32) × Int32) :=
  (F_X3_addLooseOf d_looseKinds d_loosePlaces d_looseCount f_things f_kinds 0).bind fun c3 =>
  (F_X0_addQuire f_quires f_sizes f_laid d_size).bind fun c11 =>
  F_X3_addQuire_b16 d_states d_looseKinds d_loosePlaces d_looseCount d_size FU c11.1 c3.1 f_ghosts c11.2.1 f_cells c3.2 f_words f_quireOf f_placeOf c11.2.2 1
def F_X3_readQuire_b199 (d_fault : Int32) (d_faultAt : Int32) (d_pos : Int32) (d_latest : Int32) (d_states : Nat → Int32) (d_looseKinds : Nat → Int32) (d_loosePlaces : Nat → Int32) (d_looseCount : Int32) (d_ghosts : Int32) (d_size : Int32) (d_itemSign : Int32) (d_itemPlace : Int32) (f_quires : Int32) (f_things : Int32) (f_ghosts : Int32) (f_letter : Int32) (f_sizes : Nat → Int32) (f_cells : Nat → Int32) (f_kinds : Nat → Int32) (f_words : Nat → Int32) (f_quireOf : Nat → Int32) (f_placeOf : Nat → Int32) (f_laid : Int32) (x2 : Int32) : Option (Bool × Int32 × Int32 × Int32 × Int32 × (Nat → Int32) × (Nat → Int32) × (Nat → Int32) × Int32 × Int32 × Int32 × Int32 × Int32 × Int32 × Int32 × Int32 × Int32 × (Nat → Int32) × (Nat → Int32) × (Nat → Int32) × (Nat → Int32) × (Nat → Int32) × (Nat → Int32) × Int32) :=
  (F_X3_fail d_fault d_faultAt 4 x2).bind fun c202 =>
  some (c202.1, c202.2.1, c202.2.2, d_pos, d_latest, d_states, d_looseKinds, d_loosePlaces, d_looseCount, d_ghosts, d_size, d_itemSign, d_itemPlace, f_quires, f_things, f_ghosts, f_letter, f_sizes, f_cells, f_kinds, f_words, f_quireOf, f_placeOf, f_laid)
def F_X3_readQuire_b161 : Nat → Int32 → Int32 → Int32 → Int32 → (Nat → Int32) → (Nat → Int32) → (Nat → Int32) → Int32 → Int32 → Int32 → Int32 → Int32 → Int32 → Int32 → Int32 → Int32 → (Nat → Int32) → (Nat → Int32) → (Nat → Int32) → (Nat → Int32) → (Nat → Int32) → (Nat → Int32) → Int32 → Int32 → Int32 → Int32 → Option (Bool × Int32 × Int32 × Int32 × Int32 × (Nat → Int32) × (Nat → Int32) × (Nat → Int32) × Int32 × Int32 × Int32 × Int32 × Int32 × Int32 × Int32 × Int32 × Int32 × (Nat → Int32) × (Nat → Int32) × (Nat → Int32) × (Nat → Int32) × (Nat → Int32) × (Nat → Int32) × Int32)
  | 0, _, _, _, _, _, _, _, _, _, _, _, _, _, _, _, _, _, _, _, _, _, _, _, _, _, _ => none
  | n + 1, d_fault, d_faultAt, d_pos, d_latest, d_states, d_looseKinds, d_loosePlaces, d_looseCount, d_ghosts, d_size, d_itemSign, d_itemPlace, f_quires, f_things, f_ghosts, f_letter, f_sizes, f_cells, f_kinds, f_words, f_quireOf, f_placeOf, f_laid, x2, x4, x5 =>
    if x4 < x5 then
      if d_size ≤ d_ghosts then
        F_X3_readQuire_b199 d_fault d_faultAt d_pos d_latest d_states d_looseKinds d_loosePlaces d_looseCount d_ghosts d_size d_itemSign d_itemPlace f_quires f_things f_ghosts f_letter f_sizes f_cells f_kinds f_words f_quireOf f_placeOf f_laid x2
      else
        if f_things ≤ 30 then
          some (true, d_fault, d_faultAt, d_pos, d_latest, d_states, d_looseKinds, d_loosePlaces, d_looseCount, d_ghosts, d_size, d_itemSign, d_itemPlace, f_quires, f_things, f_ghosts, f_letter, f_sizes, f_cells, f_kinds, f_words, f_quireOf, f_placeOf, f_laid)
        else
          F_X3_readQuire_b199 d_fault d_faultAt d_pos d_latest d_states d_looseKinds d_loosePlaces d_looseCount d_ghosts d_size d_itemSign d_itemPlace f_quires f_things f_ghosts f_letter f_sizes f_cells f_kinds f_words f_quireOf f_placeOf f_laid x2
    else
      (F_X3_addQuire d_states d_looseKinds d_loosePlaces d_looseCount d_size f_quires f_things f_ghosts f_sizes f_cells f_kinds f_words f_quireOf f_placeOf f_laid).bind fun c170 =>
      F_X3_readQuire_b161 n d_fault d_faultAt d_pos d_latest d_states d_looseKinds d_loosePlaces d_looseCount d_ghosts d_size d_itemSign d_itemPlace c170.1 c170.2.1 c170.2.2.1 f_letter c170.2.2.2.1 c170.2.2.2.2.1 c170.2.2.2.2.2.1 c170.2.2.2.2.2.2.1 c170.2.2.2.2.2.2.2.1 c170.2.2.2.2.2.2.2.2.1 c170.2.2.2.2.2.2.2.2.2 x2 x4 (x5 + 1)
def F_X3_readQuire_b152 (d_fault : Int32) (d_faultAt : Int32) (d_pos : Int32) (d_states : Nat → Int32) (d_looseKinds : Nat → Int32) (d_loosePlaces : Nat → Int32) (d_looseCount : Int32) (d_ghosts : Int32) (d_size : Int32) (d_itemSign : Int32) (d_itemPlace : Int32) (f_quires : Int32) (f_things : Int32) (f_ghosts : Int32) (f_letter : Int32) (f_sizes : Nat → Int32) (f_cells : Nat → Int32) (f_kinds : Nat → Int32) (f_words : Nat → Int32) (f_quireOf : Nat → Int32) (f_placeOf : Nat → Int32) (f_laid : Int32) (x2 : Int32) (x3 : Int32) (x4 : Int32) : Option (Bool × Int32 × Int32 × Int32 × Int32 × (Nat → Int32) × (Nat → Int32) × (Nat → Int32) × Int32 × Int32 × Int32 × Int32 × Int32 × Int32 × Int32 × Int32 × Int32 × (Nat → Int32) × (Nat → Int32) × (Nat → Int32) × (Nat → Int32) × (Nat → Int32) × (Nat → Int32) × Int32) :=
  F_X3_readQuire_b161 FU d_fault d_faultAt d_pos x4 d_states d_looseKinds d_loosePlaces d_looseCount d_ghosts d_size d_itemSign d_itemPlace f_quires f_things f_ghosts f_letter f_sizes f_cells f_kinds f_words f_quireOf f_placeOf f_laid x2 x4 x3
def F_X3_readQuire_b132 (t_bytes : Nat → Int32) (t_length : Int32) (d_fault : Int32) (d_faultAt : Int32) (d_pos : Int32) (d_latest : Int32) (d_states : Nat → Int32) (d_looseKinds : Nat → Int32) (d_loosePlaces : Nat → Int32) (d_looseCount : Int32) (d_ghosts : Int32) (d_size : Int32) (d_itemSign : Int32) (d_itemPlace : Int32) (f_quires : Int32) (f_things : Int32) (f_ghosts : Int32) (f_letter : Int32) (f_sizes : Nat → Int32) (f_cells : Nat → Int32) (f_kinds : Nat → Int32) (f_words : Nat → Int32) (f_quireOf : Nat → Int32) (f_placeOf : Nat → Int32) (f_laid : Int32) (x2 : Int32) (x3 : Int32) (x4 : Int32) (t0 : Int32) (t1 : Int32) : Option (Bool × Int32 × Int32 × Int32 × Int32 × (Nat → Int32) × (Nat → Int32) × (Nat → Int32) × Int32 × Int32 × Int32 × Int32 × Int32 × Int32 × Int32 × Int32 × Int32 × (Nat → Int32) × (Nat → Int32) × (Nat → Int32) × (Nat → Int32) × (Nat → Int32) × (Nat → Int32) × Int32) :=
  (F_X3_readBracket d_fault d_faultAt d_pos d_states d_looseKinds d_loosePlaces d_looseCount d_ghosts d_size d_itemSign d_itemPlace t_bytes t_length t1 t0).bind fun c132 =>
  if (qb c132.1) = 0 then
    some (false, c132.2.1, c132.2.2.1, c132.2.2.2.1, d_latest, c132.2.2.2.2.1, c132.2.2.2.2.2.1, c132.2.2.2.2.2.2.1, c132.2.2.2.2.2.2.2.1, c132.2.2.2.2.2.2.2.2.1, d_size, c132.2.2.2.2.2.2.2.2.2.1, c132.2.2.2.2.2.2.2.2.2.2, f_quires, f_things, f_ghosts, f_letter, f_sizes, f_cells, f_kinds, f_words, f_quireOf, f_placeOf, f_laid)
  else
    if d_latest = 0 then
      F_X3_readQuire_b152 c132.2.1 c132.2.2.1 c132.2.2.2.1 c132.2.2.2.2.1 c132.2.2.2.2.2.1 c132.2.2.2.2.2.2.1 c132.2.2.2.2.2.2.2.1 c132.2.2.2.2.2.2.2.2.1 d_size c132.2.2.2.2.2.2.2.2.2.1 c132.2.2.2.2.2.2.2.2.2.2 f_quires f_things f_ghosts x3 f_sizes f_cells f_kinds f_words f_quireOf f_placeOf f_laid x2 x3 x4
    else
      F_X3_readQuire_b152 c132.2.1 c132.2.2.1 c132.2.2.2.1 c132.2.2.2.2.1 c132.2.2.2.2.2.1 c132.2.2.2.2.2.2.1 c132.2.2.2.2.2.2.2.1 c132.2.2.2.2.2.2.2.2.1 d_size c132.2.2.2.2.2.2.2.2.2.1 c132.2.2.2.2.2.2.2.2.2.2 f_quires f_things f_ghosts f_letter f_sizes f_cells f_kinds f_words f_quireOf f_placeOf f_laid x2 x3 x4
def F_X3_readQuire_b121 (t_bytes : Nat → Int32) (t_length : Int32) (d_fault : Int32) (d_faultAt : Int32) (d_pos : Int32) (d_latest : Int32) (d_states : Nat → Int32) (d_looseKinds : Nat → Int32) (d_loosePlaces : Nat → Int32) (d_looseCount : Int32) (d_ghosts : Int32) (d_size : Int32) (d_itemSign : Int32) (d_itemPlace : Int32) (f_quires : Int32) (f_things : Int32) (f_ghosts : Int32) (f_letter : Int32) (f_sizes : Nat → Int32) (f_cells : Nat → Int32) (f_kinds : Nat → Int32) (f_words : Nat → Int32) (f_quireOf : Nat → Int32) (f_placeOf : Nat → Int32) (f_laid : Int32) (x2 : Int32) (x3 : Int32) (x4 : Int32) (t0 : Int32) : Option (Bool × Int32 × Int32 × Int32 × Int32 × (Nat → Int32) × (Nat → Int32) × (Nat → Int32) × Int32 × Int32 × Int32 × Int32 × Int32 × Int32 × Int32 × Int32 × Int32 × (Nat → Int32) × (Nat → Int32) × (Nat → Int32) × (Nat → Int32) × (Nat → Int32) × (Nat → Int32) × Int32) :=
  if x4 ≤ x3 then
    F_X3_readQuire_b132 t_bytes t_length d_fault d_faultAt d_pos d_latest d_states d_looseKinds d_loosePlaces d_looseCount d_ghosts d_size d_itemSign d_itemPlace f_quires f_things f_ghosts f_letter f_sizes f_cells f_kinds f_words f_quireOf f_placeOf f_laid x2 x3 x4 0 t0
  else
    F_X3_readQuire_b132 t_bytes t_length d_fault d_faultAt d_pos d_latest d_states d_looseKinds d_loosePlaces d_looseCount d_ghosts d_size d_itemSign d_itemPlace f_quires f_things f_ghosts f_letter f_sizes f_cells f_kinds f_words f_quireOf f_placeOf f_laid x2 x3 x4 1 t0
def F_X3_readQuire_b101 (t_bytes : Nat → Int32) (t_length : Int32) (d_fault : Int32) (d_faultAt : Int32) (d_pos : Int32) (d_latest : Int32) (d_states : Nat → Int32) (d_looseKinds : Nat → Int32) (d_loosePlaces : Nat → Int32) (d_looseCount : Int32) (d_ghosts : Int32) (d_size : Int32) (d_itemSign : Int32) (d_itemPlace : Int32) (f_quires : Int32) (f_things : Int32) (f_ghosts : Int32) (f_letter : Int32) (f_sizes : Nat → Int32) (f_cells : Nat → Int32) (f_kinds : Nat → Int32) (f_words : Nat → Int32) (f_quireOf : Nat → Int32) (f_placeOf : Nat → Int32) (f_laid : Int32) (x2 : Int32) (x3 : Int32) (x4 : Int32) : Option (Bool × Int32 × Int32 × Int32 × Int32 × (Nat → Int32) × (Nat → Int32) × (Nat → Int32) × Int32 × Int32 × Int32 × Int32 × Int32 × Int32 × Int32 × Int32 × Int32 × (Nat → Int32) × (Nat → Int32) × (Nat → Int32) × (Nat → Int32) × (Nat → Int32) × (Nat → Int32) × Int32) :=
  (F_X3_readSize d_fault d_faultAt d_pos d_size t_bytes t_length).bind fun c102 =>
  if (qb c102.1) = 0 then
    some (false, c102.2.1, c102.2.2.1, c102.2.2.2.1, d_latest, d_states, d_looseKinds, d_loosePlaces, d_looseCount, d_ghosts, c102.2.2.2.2, d_itemSign, d_itemPlace, f_quires, f_things, f_ghosts, f_letter, f_sizes, f_cells, f_kinds, f_words, f_quireOf, f_placeOf, f_laid)
  else
    if f_quires = 0 then
      F_X3_readQuire_b121 t_bytes t_length c102.2.1 c102.2.2.1 c102.2.2.2.1 d_latest d_states d_looseKinds d_loosePlaces d_looseCount d_ghosts c102.2.2.2.2 d_itemSign d_itemPlace f_quires f_things f_ghosts f_letter f_sizes f_cells f_kinds f_words f_quireOf f_placeOf f_laid x2 x3 x4 1
    else
      F_X3_readQuire_b121 t_bytes t_length c102.2.1 c102.2.2.1 c102.2.2.2.1 d_latest d_states d_looseKinds d_loosePlaces d_looseCount d_ghosts c102.2.2.2.2 d_itemSign d_itemPlace f_quires f_things f_ghosts f_letter f_sizes f_cells f_kinds f_words f_quireOf f_placeOf f_laid x2 x3 x4 0
def F_X3_readQuire_b45 (t_bytes : Nat → Int32) (t_length : Int32) (d_fault : Int32) (d_faultAt : Int32) (d_pos : Int32) (d_latest : Int32) (d_states : Nat → Int32) (d_looseKinds : Nat → Int32) (d_loosePlaces : Nat → Int32) (d_looseCount : Int32) (d_ghosts : Int32) (d_size : Int32) (d_itemSign : Int32) (d_itemPlace : Int32) (f_quires : Int32) (f_things : Int32) (f_ghosts : Int32) (f_letter : Int32) (f_sizes : Nat → Int32) (f_cells : Nat → Int32) (f_kinds : Nat → Int32) (f_words : Nat → Int32) (f_quireOf : Nat → Int32) (f_placeOf : Nat → Int32) (f_laid : Int32) (x2 : Int32) (x3 : Int32) : Option (Bool × Int32 × Int32 × Int32 × Int32 × (Nat → Int32) × (Nat → Int32) × (Nat → Int32) × Int32 × Int32 × Int32 × Int32 × Int32 × Int32 × Int32 × Int32 × Int32 × (Nat → Int32) × (Nat → Int32) × (Nat → Int32) × (Nat → Int32) × (Nat → Int32) × (Nat → Int32) × Int32) :=
  if f_quires < 8 then
    (F_X3_sign d_pos t_bytes t_length).bind fun c65 =>
    if c65 = 45 then
      (F_X3_readLast d_fault d_faultAt (d_pos + 1) t_bytes t_length x3 f_quires).bind fun c89 =>
      if c89.1 = 0 then
        some (false, c89.2.1, c89.2.2.1, c89.2.2.2, d_latest, d_states, d_looseKinds, d_loosePlaces, d_looseCount, d_ghosts, d_size, d_itemSign, d_itemPlace, f_quires, f_things, f_ghosts, f_letter, f_sizes, f_cells, f_kinds, f_words, f_quireOf, f_placeOf, f_laid)
      else
        F_X3_readQuire_b101 t_bytes t_length c89.2.1 c89.2.2.1 c89.2.2.2 d_latest d_states d_looseKinds d_loosePlaces d_looseCount d_ghosts d_size d_itemSign d_itemPlace f_quires f_things f_ghosts f_letter f_sizes f_cells f_kinds f_words f_quireOf f_placeOf f_laid x2 x3 c89.1
    else
      F_X3_readQuire_b101 t_bytes t_length d_fault d_faultAt d_pos d_latest d_states d_looseKinds d_loosePlaces d_looseCount d_ghosts d_size d_itemSign d_itemPlace f_quires f_things f_ghosts f_letter f_sizes f_cells f_kinds f_words f_quireOf f_placeOf f_laid x2 x3 x3
  else
    (F_X3_fail d_fault d_faultAt 4 x2).bind fun c57 =>
    some (c57.1, c57.2.1, c57.2.2, d_pos, d_latest, d_states, d_looseKinds, d_loosePlaces, d_looseCount, d_ghosts, d_size, d_itemSign, d_itemPlace, f_quires, f_things, f_ghosts, f_letter, f_sizes, f_cells, f_kinds, f_words, f_quireOf, f_placeOf, f_laid)
def F_X3_readQuire (d_fault : Int32) (d_faultAt : Int32) (d_pos : Int32) (d_latest : Int32) (d_states : Nat → Int32) (d_looseKinds : Nat → Int32) (d_loosePlaces : Nat → Int32) (d_looseCount : Int32) (d_ghosts : Int32) (d_size : Int32) (d_itemSign : Int32) (d_itemPlace : Int32) (t_bytes : Nat → Int32) (t_length : Int32) (f_quires : Int32) (f_things : Int32) (f_ghosts : Int32) (f_letter : Int32) (f_sizes : Nat → Int32) (f_cells : Nat → Int32) (f_kinds : Nat → Int32) (f_words : Nat → Int32) (f_quireOf : Nat → Int32) (f_placeOf : Nat → Int32) (f_laid : Int32) : Option (Bool × Int32 × Int32 × Int32 × Int32 × (Nat → Int32) × (Nat → Int32) × (Nat → Int32) × Int32 × Int32 × Int32 × Int32 × Int32 × Int32 × Int32 × Int32 × Int32 × (Nat → Int32) × (Nat → Int32) × (Nat → Int32) × (Nat → Int32) × (Nat → Int32) × (Nat → Int32) × Int32) :=
  (F_X3_readLetters d_pos t_bytes t_length).bind fun c6 =>
  if c6.1 = 0 then
    (F_X3_fail d_fault d_faultAt 1 d_pos).bind fun c17 =>
    some (c17.1, c17.2.1, c17.2.2, c6.2, d_latest, d_states, d_looseKinds, d_loosePlaces, d_looseCount, d_ghosts, d_size, d_itemSign, d_itemPlace, f_quires, f_things, f_ghosts, f_letter, f_sizes, f_cells, f_kinds, f_words, f_quireOf, f_placeOf, f_laid)
  else
    if d_latest = 0 then
      F_X3_readQuire_b45 t_bytes t_length d_fault d_faultAt c6.2 d_latest d_states d_looseKinds d_loosePlaces d_looseCount d_ghosts d_size d_itemSign d_itemPlace f_quires f_things f_ghosts f_letter f_sizes f_cells f_kinds f_words f_quireOf f_placeOf f_laid d_pos c6.1
    else
      if c6.1 = (d_latest + 1) then
        F_X3_readQuire_b45 t_bytes t_length d_fault d_faultAt c6.2 d_latest d_states d_looseKinds d_loosePlaces d_looseCount d_ghosts d_size d_itemSign d_itemPlace f_quires f_things f_ghosts f_letter f_sizes f_cells f_kinds f_words f_quireOf f_placeOf f_laid d_pos c6.1
      else
        (F_X3_fail d_fault d_faultAt 2 d_pos).bind fun c41 =>
        some (c41.1, c41.2.1, c41.2.2, c6.2, d_latest, d_states, d_looseKinds, d_loosePlaces, d_looseCount, d_ghosts, d_size, d_itemSign, d_itemPlace, f_quires, f_things, f_ghosts, f_letter, f_sizes, f_cells, f_kinds, f_words, f_quireOf, f_placeOf, f_laid)
def F_X3_readFormula_b84 (t_bytes : Nat → Int32) (t_length : Int32) (k33 : Int32 → Int32 → Int32 → Int32 → (Nat → Int32) → (Nat → Int32) → (Nat → Int32) → Int32 → Int32 → Int32 → Int32 → Int32 → Bool → Int32 → Int32 → Int32 → Int32 → Int32 → (Nat → Int32) → (Nat → Int32) → (Nat → Int32) → (Nat → Int32) → (Nat → Int32) → (Nat → Int32) → Int32 → Int32 → Option (Bool × Int32 × Int32 × Int32 × Int32 × (Nat → Int32) × (Nat → Int32) × (Nat → Int32) × Int32 × Int32 × Int32 × Int32 × Int32 × Bool × Int32 × Int32 × Int32 × Int32 × Int32 × (Nat → Int32) × (Nat → Int32) × (Nat → Int32) × (Nat → Int32) × (Nat → Int32) × (Nat → Int32) × Int32)) : Nat → Int32 → Int32 → Int32 → Int32 → (Nat → Int32) → (Nat → Int32) → (Nat → Int32) → Int32 → Int32 → Int32 → Int32 → Int32 → Bool → Int32 → Int32 → Int32 → Int32 → Int32 → (Nat → Int32) → (Nat → Int32) → (Nat → Int32) → (Nat → Int32) → (Nat → Int32) → (Nat → Int32) → Int32 → Int32 → Option (Bool × Int32 × Int32 × Int32 × Int32 × (Nat → Int32) × (Nat → Int32) × (Nat → Int32) × Int32 × Int32 × Int32 × Int32 × Int32 × Bool × Int32 × Int32 × Int32 × Int32 × Int32 × (Nat → Int32) × (Nat → Int32) × (Nat → Int32) × (Nat → Int32) × (Nat → Int32) × (Nat → Int32) × Int32)
  | 0, _, _, _, _, _, _, _, _, _, _, _, _, _, _, _, _, _, _, _, _, _, _, _, _, _, _ => none
  | n + 1, d_fault, d_faultAt, d_pos, d_latest, d_states, d_looseKinds, d_loosePlaces, d_looseCount, d_ghosts, d_size, d_itemSign, d_itemPlace, f_made, f_quires, f_things, f_ghosts, f_letter, f_page, f_sizes, f_cells, f_kinds, f_words, f_quireOf, f_placeOf, f_laid, x3 =>
    if t_length ≤ d_pos then
      k33 d_fault d_faultAt d_pos d_latest d_states d_looseKinds d_loosePlaces d_looseCount d_ghosts d_size d_itemSign d_itemPlace f_made f_quires f_things f_ghosts f_letter f_page f_sizes f_cells f_kinds f_words f_quireOf f_placeOf f_laid (x3 + 1)
    else
      (F_X3_sign d_pos t_bytes t_length).bind fun c99 =>
      if c99 = 32 then
        F_X3_readFormula_b84 t_bytes t_length k33 n d_fault d_faultAt (d_pos + 1) d_latest d_states d_looseKinds d_loosePlaces d_looseCount d_ghosts d_size d_itemSign d_itemPlace f_made f_quires f_things f_ghosts f_letter f_page f_sizes f_cells f_kinds f_words f_quireOf f_placeOf f_laid x3
      else
        k33 d_fault d_faultAt d_pos d_latest d_states d_looseKinds d_loosePlaces d_looseCount d_ghosts d_size d_itemSign d_itemPlace f_made f_quires f_things f_ghosts f_letter f_page f_sizes f_cells f_kinds f_words f_quireOf f_placeOf f_laid (x3 + 1)
def F_X3_readFormula_b33 (t_bytes : Nat → Int32) (t_length : Int32) : Nat → Int32 → Int32 → Int32 → Int32 → (Nat → Int32) → (Nat → Int32) → (Nat → Int32) → Int32 → Int32 → Int32 → Int32 → Int32 → Bool → Int32 → Int32 → Int32 → Int32 → Int32 → (Nat → Int32) → (Nat → Int32) → (Nat → Int32) → (Nat → Int32) → (Nat → Int32) → (Nat → Int32) → Int32 → Int32 → Option (Bool × Int32 × Int32 × Int32 × Int32 × (Nat → Int32) × (Nat → Int32) × (Nat → Int32) × Int32 × Int32 × Int32 × Int32 × Int32 × Bool × Int32 × Int32 × Int32 × Int32 × Int32 × (Nat → Int32) × (Nat → Int32) × (Nat → Int32) × (Nat → Int32) × (Nat → Int32) × (Nat → Int32) × Int32)
  | 0, _, _, _, _, _, _, _, _, _, _, _, _, _, _, _, _, _, _, _, _, _, _, _, _, _, _ => none
  | n + 1, d_fault, d_faultAt, d_pos, d_latest, d_states, d_looseKinds, d_loosePlaces, d_looseCount, d_ghosts, d_size, d_itemSign, d_itemPlace, f_made, f_quires, f_things, f_ghosts, f_letter, f_page, f_sizes, f_cells, f_kinds, f_words, f_quireOf, f_placeOf, f_laid, x3 =>
    if 8 < x3 then
      (F_X3_fail d_fault d_faultAt 4 d_pos).bind fun c132 =>
      some (c132.1, c132.2.1, c132.2.2, d_pos, d_latest, d_states, d_looseKinds, d_loosePlaces, d_looseCount, d_ghosts, d_size, d_itemSign, d_itemPlace, f_made, f_quires, f_things, f_ghosts, f_letter, f_page, f_sizes, f_cells, f_kinds, f_words, f_quireOf, f_placeOf, f_laid)
    else
      (F_X3_readQuire d_fault d_faultAt d_pos d_latest d_states d_looseKinds d_loosePlaces d_looseCount d_ghosts d_size d_itemSign d_itemPlace t_bytes t_length f_quires f_things f_ghosts f_letter f_sizes f_cells f_kinds f_words f_quireOf f_placeOf f_laid).bind fun c41 =>
      if (qb c41.1) = 0 then
        some (false, c41.2.1, c41.2.2.1, c41.2.2.2.1, c41.2.2.2.2.1, c41.2.2.2.2.2.1, c41.2.2.2.2.2.2.1, c41.2.2.2.2.2.2.2.1, c41.2.2.2.2.2.2.2.2.1, c41.2.2.2.2.2.2.2.2.2.1, c41.2.2.2.2.2.2.2.2.2.2.1, c41.2.2.2.2.2.2.2.2.2.2.2.1, c41.2.2.2.2.2.2.2.2.2.2.2.2.1, f_made, c41.2.2.2.2.2.2.2.2.2.2.2.2.2.1, c41.2.2.2.2.2.2.2.2.2.2.2.2.2.2.1, c41.2.2.2.2.2.2.2.2.2.2.2.2.2.2.2.1, c41.2.2.2.2.2.2.2.2.2.2.2.2.2.2.2.2.1, f_page, c41.2.2.2.2.2.2.2.2.2.2.2.2.2.2.2.2.2.1, c41.2.2.2.2.2.2.2.2.2.2.2.2.2.2.2.2.2.2.1, c41.2.2.2.2.2.2.2.2.2.2.2.2.2.2.2.2.2.2.2.1, c41.2.2.2.2.2.2.2.2.2.2.2.2.2.2.2.2.2.2.2.2.1, c41.2.2.2.2.2.2.2.2.2.2.2.2.2.2.2.2.2.2.2.2.2.1, c41.2.2.2.2.2.2.2.2.2.2.2.2.2.2.2.2.2.2.2.2.2.2.1, c41.2.2.2.2.2.2.2.2.2.2.2.2.2.2.2.2.2.2.2.2.2.2.2)
      else
        if c41.2.2.2.1 < t_length then
          (F_X3_sign c41.2.2.2.1 t_bytes t_length).bind fun c66 =>
          if c66 = 32 then
            F_X3_readFormula_b84 t_bytes t_length (fun d_fault d_faultAt d_pos d_latest d_states d_looseKinds d_loosePlaces d_looseCount d_ghosts d_size d_itemSign d_itemPlace f_made f_quires f_things f_ghosts f_letter f_page f_sizes f_cells f_kinds f_words f_quireOf f_placeOf f_laid x3 => F_X3_readFormula_b33 t_bytes t_length n d_fault d_faultAt d_pos d_latest d_states d_looseKinds d_loosePlaces d_looseCount d_ghosts d_size d_itemSign d_itemPlace f_made f_quires f_things f_ghosts f_letter f_page f_sizes f_cells f_kinds f_words f_quireOf f_placeOf f_laid x3) FU c41.2.1 c41.2.2.1 c41.2.2.2.1 c41.2.2.2.2.1 c41.2.2.2.2.2.1 c41.2.2.2.2.2.2.1 c41.2.2.2.2.2.2.2.1 c41.2.2.2.2.2.2.2.2.1 c41.2.2.2.2.2.2.2.2.2.1 c41.2.2.2.2.2.2.2.2.2.2.1 c41.2.2.2.2.2.2.2.2.2.2.2.1 c41.2.2.2.2.2.2.2.2.2.2.2.2.1 f_made c41.2.2.2.2.2.2.2.2.2.2.2.2.2.1 c41.2.2.2.2.2.2.2.2.2.2.2.2.2.2.1 c41.2.2.2.2.2.2.2.2.2.2.2.2.2.2.2.1 c41.2.2.2.2.2.2.2.2.2.2.2.2.2.2.2.2.1 f_page c41.2.2.2.2.2.2.2.2.2.2.2.2.2.2.2.2.2.1 c41.2.2.2.2.2.2.2.2.2.2.2.2.2.2.2.2.2.2.1 c41.2.2.2.2.2.2.2.2.2.2.2.2.2.2.2.2.2.2.2.1 c41.2.2.2.2.2.2.2.2.2.2.2.2.2.2.2.2.2.2.2.2.1 c41.2.2.2.2.2.2.2.2.2.2.2.2.2.2.2.2.2.2.2.2.2.1 c41.2.2.2.2.2.2.2.2.2.2.2.2.2.2.2.2.2.2.2.2.2.2.1 c41.2.2.2.2.2.2.2.2.2.2.2.2.2.2.2.2.2.2.2.2.2.2.2 x3
          else
            (F_X3_fail c41.2.1 c41.2.2.1 1 c41.2.2.2.1).bind fun c80 =>
            some (c80.1, c80.2.1, c80.2.2, c41.2.2.2.1, c41.2.2.2.2.1, c41.2.2.2.2.2.1, c41.2.2.2.2.2.2.1, c41.2.2.2.2.2.2.2.1, c41.2.2.2.2.2.2.2.2.1, c41.2.2.2.2.2.2.2.2.2.1, c41.2.2.2.2.2.2.2.2.2.2.1, c41.2.2.2.2.2.2.2.2.2.2.2.1, c41.2.2.2.2.2.2.2.2.2.2.2.2.1, f_made, c41.2.2.2.2.2.2.2.2.2.2.2.2.2.1, c41.2.2.2.2.2.2.2.2.2.2.2.2.2.2.1, c41.2.2.2.2.2.2.2.2.2.2.2.2.2.2.2.1, c41.2.2.2.2.2.2.2.2.2.2.2.2.2.2.2.2.1, f_page, c41.2.2.2.2.2.2.2.2.2.2.2.2.2.2.2.2.2.1, c41.2.2.2.2.2.2.2.2.2.2.2.2.2.2.2.2.2.2.1, c41.2.2.2.2.2.2.2.2.2.2.2.2.2.2.2.2.2.2.2.1, c41.2.2.2.2.2.2.2.2.2.2.2.2.2.2.2.2.2.2.2.2.1, c41.2.2.2.2.2.2.2.2.2.2.2.2.2.2.2.2.2.2.2.2.2.1, c41.2.2.2.2.2.2.2.2.2.2.2.2.2.2.2.2.2.2.2.2.2.2.1, c41.2.2.2.2.2.2.2.2.2.2.2.2.2.2.2.2.2.2.2.2.2.2.2)
        else
          some (true, c41.2.1, c41.2.2.1, c41.2.2.2.1, c41.2.2.2.2.1, c41.2.2.2.2.2.1, c41.2.2.2.2.2.2.1, c41.2.2.2.2.2.2.2.1, c41.2.2.2.2.2.2.2.2.1, c41.2.2.2.2.2.2.2.2.2.1, c41.2.2.2.2.2.2.2.2.2.2.1, c41.2.2.2.2.2.2.2.2.2.2.2.1, c41.2.2.2.2.2.2.2.2.2.2.2.2.1, f_made, c41.2.2.2.2.2.2.2.2.2.2.2.2.2.1, c41.2.2.2.2.2.2.2.2.2.2.2.2.2.2.1, c41.2.2.2.2.2.2.2.2.2.2.2.2.2.2.2.1, c41.2.2.2.2.2.2.2.2.2.2.2.2.2.2.2.2.1, f_page, c41.2.2.2.2.2.2.2.2.2.2.2.2.2.2.2.2.2.1, c41.2.2.2.2.2.2.2.2.2.2.2.2.2.2.2.2.2.2.1, c41.2.2.2.2.2.2.2.2.2.2.2.2.2.2.2.2.2.2.2.1, c41.2.2.2.2.2.2.2.2.2.2.2.2.2.2.2.2.2.2.2.2.1, c41.2.2.2.2.2.2.2.2.2.2.2.2.2.2.2.2.2.2.2.2.2.1, c41.2.2.2.2.2.2.2.2.2.2.2.2.2.2.2.2.2.2.2.2.2.2.1, c41.2.2.2.2.2.2.2.2.2.2.2.2.2.2.2.2.2.2.2.2.2.2.2)
def F_X3_readFormula (d_fault : Int32) (d_faultAt : Int32) (d_pos : Int32) (d_latest : Int32) (d_states : Nat → Int32) (d_looseKinds : Nat → Int32) (d_loosePlaces : Nat → Int32) (d_looseCount : Int32) (d_ghosts : Int32) (d_size : Int32) (d_itemSign : Int32) (d_itemPlace : Int32) (t_bytes : Nat → Int32) (t_length : Int32) (f_made : Bool) (f_quires : Int32) (f_things : Int32) (f_ghosts : Int32) (f_letter : Int32) (f_page : Int32) (f_sizes : Nat → Int32) (f_cells : Nat → Int32) (f_kinds : Nat → Int32) (f_words : Nat → Int32) (f_quireOf : Nat → Int32) (f_placeOf : Nat → Int32) (f_laid : Int32) : Option (Bool × Int32 × Int32 × Int32 × Int32 × (Nat → Int32) × (Nat → Int32) × (Nat → Int32) × Int32 × Int32 × Int32 × Int32 × Int32 × Bool × Int32 × Int32 × Int32 × Int32 × Int32 × (Nat → Int32) × (Nat → Int32) × (Nat → Int32) × (Nat → Int32) × (Nat → Int32) × (Nat → Int32) × Int32) :=
  (F_X0_start f_made f_quires f_things f_ghosts f_letter f_page f_laid 0 0).bind fun c28 =>
  F_X3_readFormula_b33 t_bytes t_length FU 0 (-1) 0 0 d_states d_looseKinds d_loosePlaces d_looseCount d_ghosts d_size d_itemSign d_itemPlace c28.1 c28.2.1 c28.2.2.1 c28.2.2.2.1 c28.2.2.2.2.1 c28.2.2.2.2.2.1 f_sizes f_cells f_kinds f_words f_quireOf f_placeOf c28.2.2.2.2.2.2 0

set_option maxRecDepth 100000 in
theorem nw_L_7 : ∀ w ∈ ([.classLink RL 7 RX7, .instantiable RX7 8, .initialized RX7] : List Cond), w ∈ gtb := gin [109, 110, 97] rfl (by decide +kernel)
set_option maxRecDepth 100000 in
theorem nw_L_10 : ∀ w ∈ ([.classLink RL 10 RX8, .instantiable RX8 49, .initialized RX8] : List Cond), w ∈ gtb := gin [1034, 1035, 105] rfl (by decide +kernel)
set_option maxRecDepth 100000 in
theorem cw_L_9 : qcI RL 9 yX7_init cX7_init 2 0 := ⟨gin [111, 112, 97, 113] rfl (by decide +kernel), rfl, by decide +kernel, by decide +kernel, by decide +kernel⟩
set_option maxRecDepth 100000 in
theorem cw_L_12 : qcI RL 12 yX8_init cX8_init 1 0 := ⟨gin [1036, 1037, 105, 1038] rfl (by decide +kernel), rfl, by decide +kernel, by decide +kernel, by decide +kernel⟩
theorem rf_0 : (va_up (va_up (va_up (va_up (va_up (va_up (fun _ => none) (0 : Int32).toNatClampNeg (some 46)) ((0 + 1) : Int32).toNatClampNeg (some 51)) (((0 + 1) + 1) : Int32).toNatClampNeg (some 56)) ((((0 + 1) + 1) + 1) : Int32).toNatClampNeg (some 61)) (((((0 + 1) + 1) + 1) + 1) : Int32).toNatClampNeg (some 66)) ((((((0 + 1) + 1) + 1) + 1) + 1) : Int32).toNatClampNeg (some 71)) = rfB := by
  rw [show (0 : Int32).toNatClampNeg = 0 by decide, show ((0 + 1) : Int32).toNatClampNeg = 1 by decide, show (((0 + 1) + 1) : Int32).toNatClampNeg = 2 by decide, show ((((0 + 1) + 1) + 1) : Int32).toNatClampNeg = 3 by decide, show (((((0 + 1) + 1) + 1) + 1) : Int32).toNatClampNeg = 4 by decide, show ((((((0 + 1) + 1) + 1) + 1) + 1) : Int32).toNatClampNeg = 5 by decide]
  funext j
  match j with
  | 0 => rfl
  | 1 => rfl
  | 2 => rfl
  | 3 => rfl
  | 4 => rfl
  | 5 => rfl
  | j + 6 =>
    unfold va_up
    rw [if_neg (by omega), if_neg (by omega), if_neg (by omega), if_neg (by omega), if_neg (by omega), if_neg (by omega)]
    rfl
theorem kf_0 : (va_up (va_up (va_up (va_up (fun _ => none) (0 : Int32).toNatClampNeg (some 76)) ((0 + 1) : Int32).toNatClampNeg (some 83)) (((0 + 1) + 1) : Int32).toNatClampNeg (some 90)) ((((0 + 1) + 1) + 1) : Int32).toNatClampNeg (some 97)) = kfB := by
  rw [show (0 : Int32).toNatClampNeg = 0 by decide, show ((0 + 1) : Int32).toNatClampNeg = 1 by decide, show (((0 + 1) + 1) : Int32).toNatClampNeg = 2 by decide, show ((((0 + 1) + 1) + 1) : Int32).toNatClampNeg = 3 by decide]
  funext j
  match j with
  | 0 => rfl
  | 1 => rfl
  | 2 => rfl
  | 3 => rfl
  | j + 4 =>
    unfold va_up
    rw [if_neg (by omega), if_neg (by omega), if_neg (by omega), if_neg (by omega)]
    rfl
def A_0 : Nat → Nat → Int32 := va_up (va_up (va_up (va_up (va_up (va_up (va_up (va_up (va_up (fun _ _ => 0) 50 (upd (upd (upd (upd (upd (upd (fun _ => 0) (0 : Int32).toNatClampNeg 0) (1 : Int32).toNatClampNeg 0) (2 : Int32).toNatClampNeg 15) (3 : Int32).toNatClampNeg 8) (4 : Int32).toNatClampNeg 1) (5 : Int32).toNatClampNeg 0)) 55 (upd (upd (upd (upd (upd (upd (fun _ => 0) (0 : Int32).toNatClampNeg 0) (1 : Int32).toNatClampNeg 0) (2 : Int32).toNatClampNeg 15) (3 : Int32).toNatClampNeg 8) (4 : Int32).toNatClampNeg 1) (5 : Int32).toNatClampNeg 0)) 60 (upd (upd (upd (upd (upd (upd (fun _ => 0) (0 : Int32).toNatClampNeg 0) (1 : Int32).toNatClampNeg 0) (2 : Int32).toNatClampNeg 15) (3 : Int32).toNatClampNeg 8) (4 : Int32).toNatClampNeg 1) (5 : Int32).toNatClampNeg 0)) 65 (upd (upd (upd (upd (upd (upd (fun _ => 0) (0 : Int32).toNatClampNeg 0) (1 : Int32).toNatClampNeg 0) (2 : Int32).toNatClampNeg 15) (3 : Int32).toNatClampNeg 8) (4 : Int32).toNatClampNeg 1) (5 : Int32).toNatClampNeg 0)) 70 (upd (upd (upd (upd (upd (upd (fun _ => 0) (0 : Int32).toNatClampNeg 0) (1 : Int32).toNatClampNeg 0) (2 : Int32).toNatClampNeg 15) (3 : Int32).toNatClampNeg 8) (4 : Int32).toNatClampNeg 1) (5 : Int32).toNatClampNeg 0)) 75 (upd (upd (upd (upd (upd (upd (fun _ => 0) (0 : Int32).toNatClampNeg 0) (1 : Int32).toNatClampNeg 0) (2 : Int32).toNatClampNeg 15) (3 : Int32).toNatClampNeg 8) (4 : Int32).toNatClampNeg 1) (5 : Int32).toNatClampNeg 0)) 109 (upd (upd (upd (upd (upd (upd (fun _ => 0) (0 : Int32).toNatClampNeg 15) (1 : Int32).toNatClampNeg 15) (2 : Int32).toNatClampNeg 15) (3 : Int32).toNatClampNeg 15) (4 : Int32).toNatClampNeg 15) (5 : Int32).toNatClampNeg 15)) 110 (upd (upd (upd (upd (upd (upd (fun _ => 0) (0 : Int32).toNatClampNeg 8) (1 : Int32).toNatClampNeg 8) (2 : Int32).toNatClampNeg 8) (3 : Int32).toNatClampNeg 8) (4 : Int32).toNatClampNeg 8) (5 : Int32).toNatClampNeg 8)) 111 (upd (upd (upd (upd (upd (upd (fun _ => 0) (0 : Int32).toNatClampNeg 1) (1 : Int32).toNatClampNeg 1) (2 : Int32).toNatClampNeg 1) (3 : Int32).toNatClampNeg 1) (4 : Int32).toNatClampNeg 1) (5 : Int32).toNatClampNeg 1)
def V_0 : Nat → Nat → Int32 := va_up2 (va_up2 (va_up2 (va_up2 (va_up2 (va_up2 (fun _ _ => 0) 3 2 (-1)) 3 3 2) 3 12 (-1)) 4 9 (-1)) 42 1 (-1)) 104 32 (-1)
def B_0 : Nat → Bool := fun k => Nat.beq k 46 || Nat.beq k 51 || Nat.beq k 56 || Nat.beq k 61 || Nat.beq k 66 || Nat.beq k 71
theorem cur_0 : ReC A_0 V_0 B_0 := by
  refine ⟨fun _ _ _ => 0, ⟨⟨by decide, by decide, by decide, by decide, by decide, by decide, by decide, by decide, fun h => absurd h (by decide)⟩, fun q h0 h1 => absurd (Int.lt_of_le_of_lt h0 h1) (by decide), fun q p h0 h1 => absurd (Int.lt_of_le_of_lt h0 h1) (by decide), fun q h0 h1 => absurd (Int.lt_of_le_of_lt h0 h1) (by decide), fun i i' h0 h1 h2 => absurd (Int.lt_of_le_of_lt h0 (Int.lt_trans h1 h2)) (by decide), rfl⟩, ⟨⟨by decide, by decide, by decide, by decide, by decide⟩, fun q h0 h1 => absurd (Int.lt_of_le_of_lt h0 h1) (by decide), fun q p h0 h1 => absurd (Int.lt_of_le_of_lt h0 h1) (by decide), fun q h0 h1 => absurd (Int.lt_of_le_of_lt h0 h1) (by decide), fun q h0 h1 => absurd (Int.lt_of_le_of_lt h0 h1) (by decide)⟩, Or.inr ⟨rfl, rfl, rfl, rfl, rfl, rfl⟩⟩
theorem row_0 : ∀ j, j < 6 → ReR A_0 V_0 j := lt6 ⟨⟨0, by omega, by decide, by decide, fun i h => absurd h (Nat.not_lt_zero i), fun i h => absurd h (Nat.not_lt_zero i)⟩, by unfold RulR; decide⟩ ⟨⟨0, by omega, by decide, by decide, fun i h => absurd h (Nat.not_lt_zero i), fun i h => absurd h (Nat.not_lt_zero i)⟩, by unfold RulR; decide⟩ ⟨⟨0, by omega, by decide, by decide, fun i h => absurd h (Nat.not_lt_zero i), fun i h => absurd h (Nat.not_lt_zero i)⟩, by unfold RulR; decide⟩ ⟨⟨0, by omega, by decide, by decide, fun i h => absurd h (Nat.not_lt_zero i), fun i h => absurd h (Nat.not_lt_zero i)⟩, by unfold RulR; decide⟩ ⟨⟨0, by omega, by decide, by decide, fun i h => absurd h (Nat.not_lt_zero i), fun i h => absurd h (Nat.not_lt_zero i)⟩, by unfold RulR; decide⟩ ⟨⟨0, by omega, by decide, by decide, fun i h => absurd h (Nat.not_lt_zero i), fun i h => absurd h (Nat.not_lt_zero i)⟩, by unfold RulR; decide⟩
theorem rel_0 : Rel A_0 V_0 B_0 (fun _ => 0) none none 0 :=
  ⟨row_0, cur_0, lt4 (Or.inr ⟨rfl, rfl⟩) (Or.inr ⟨rfl, rfl⟩) (Or.inr ⟨rfl, rfl⟩) (Or.inr ⟨rfl, rfl⟩),
    ⟨⟨0, by omega, by omega, by decide, by decide, fun i h0 h1 => absurd (Int.lt_of_le_of_lt h0 h1) (by decide)⟩, ⟨0, by omega, by omega, by decide, by decide, fun i h0 h1 => absurd (Int.lt_of_le_of_lt h0 h1) (by decide)⟩, rfl, rfl⟩,
    ⟨by decide, ⟨by omega, fun i _ _ => ⟨0, rfl, by omega, by omega⟩⟩, Or.inl rfl, fun j _ h => by cases h⟩, Or.inl rfl⟩

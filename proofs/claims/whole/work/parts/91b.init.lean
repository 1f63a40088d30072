set_option maxRecDepth 100000 in
set_option maxHeartbeats 4000000 in
theorem law_start {X : QX} (hX : qok X code RL 4 (some .boolean) 1000) (hR : X.R = room_1) {Q : Unit → State → Prop} {b LL : Nat} {xs : Nat → Int32} (hs0 : va_X b LL xs X.s X.s.heap) (hsl : b < X.s.heap.size) (hsA : ¬ X.A b) (hsb : X.sA 100 = b) (hLL : LL ≤ 3072) {ad : Nat → Nat} (hend : ∀ (ad : Nat → Nat) (Wd : List AC) (lv : LV), QG X 4 Q (some ()) 1055 lv [.int 1] Wd ad 142 86746) : QG X 4 Q (some ()) 0 [(0, .float (UInt32.ofNat 100))] [] [] ad 0 0 := by
  sorry

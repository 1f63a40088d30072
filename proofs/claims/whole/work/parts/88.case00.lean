set_option maxRecDepth 100000 in
set_option maxHeartbeats 4000000 in
theorem C_put_1 {X : QX} (hX : qok X code RL 4 (some .boolean) 1000) {Q : Unit → State → Prop} {b LL : Nat} {xs : Nat → Int32} (hs0 : va_X b LL xs X.s X.s.heap) (hsl : b < X.s.heap.size) (hsA : ¬ X.A b) (hsb : X.sA 100 = b) {ad : Nat → Nat} {cells slots : Nat} (hcs : cells ≤ X.R.cells ∧ slots ≤ X.R.slots) {A V : Nat → Nat → Int32} {B : Nat → Bool} {L M : Nat → Int64} {z tx : Option Nat} {x3 : Int32} {v1 : Int32} {v2 : Int32} {v3 : Int32} (hi1 : vp_in (x3 + 1) LL) (hv1 : xs (x3 + 1).toNatClampNeg = v1) (hi2 : vp_in (x3 + 2) LL) (hv2 : xs (x3 + 2).toNatClampNeg = v2) (hi3 : vp_in (x3 + 3) LL) (hv3 : xs (x3 + 3).toNatClampNeg = v3) (hr0 : ¬ v1 < 0) (hr1 : ¬ 6 ≤ v1) (hj : v1.toNatClampNeg = 1) {c1 : Int32 × (Nat → Int32) × (Nat → Int32) × (Nat → Int32) × Int32 × Bool} {c2 : Int32 × Int32 × (Nat → Int32) × (Nat → Int32) × (Nat → Int32) × (Nat → Int32)} (hz1 : F_X7_put_ok (A 52) (A 53) (A 54) (V 51 4) (B 51) v1 v2 v3 = some c1) (hz2 : F_X8_put (V 104 0) (A 105) (A 106) (A 107) (A 108) v1 v2 v3 = some c2) (he : c1.1 = c2.1)
    (K : QG X 4 Q (some ()) 1048 [(0, .float (UInt32.ofNat 100)), (1, .ref 0), (2, .ref 104), (3, .int x3)] [] (wLx rfB kfB (va_rf z) (va_rf tx) (va_up (va_up (va_up (va_up (va_up (va_up (va_up A 52 c1.2.1) 53 c1.2.2.1) 54 c1.2.2.2.1) 105 c2.2.2.1) 106 c2.2.2.2.1) 107 c2.2.2.2.2.1) 108 c2.2.2.2.2.2) (va_up2 (va_up2 V 51 4 c1.2.2.2.2.1) 104 0 c2.2.1) (va_up B 51 c1.2.2.2.2.2) L M) ad cells slots) : QG X 4 Q (some ()) 156 [(0, .float (UInt32.ofNat 100)), (1, .ref 0), (2, .ref 104), (3, .int x3)] [] (wLx rfB kfB (va_rf z) (va_rf tx) A V B L M) ad cells slots := by
  refine QG.aload_n hX (qd K_L_law0 22 rfl) rfl rfl ?_
  refine QG.aload_ns hX (qd K_L_law0 23 rfl) rfl rfl ?_
  refine QG.iload_n hX (qd K_L_law0 24 rfl) rfl rfl ?_
  refine QG.iconst hX (qd K_L_law0 25 rfl) rfl ki_1 ?_
  refine QG.iadd hX (qd K_L_law0 26 rfl) rfl ?_
  refine QG.scld hX hs0 hsl hsA hsb (qd K_L_law0 27 rfl) rfl hi1 hv1 ?_
  refine QG.aload_ns hX (qd K_L_law0 28 rfl) rfl rfl ?_
  refine QG.iload_n hX (qd K_L_law0 29 rfl) rfl rfl ?_
  refine QG.iconst hX (qd K_L_law0 30 rfl) rfl ki_2 ?_
  refine QG.iadd hX (qd K_L_law0 31 rfl) rfl ?_
  refine QG.scld hX hs0 hsl hsA hsb (qd K_L_law0 32 rfl) rfl hi2 hv2 ?_
  refine QG.aload_ns hX (qd K_L_law0 33 rfl) rfl rfl ?_
  refine QG.iload_n hX (qd K_L_law0 34 rfl) rfl rfl ?_
  refine QG.iconst hX (qd K_L_law0 35 rfl) rfl ki_3 ?_
  refine QG.iadd hX (qd K_L_law0 36 rfl) rfl ?_
  refine QG.scld hX hs0 hsl hsA hsb (qd K_L_law0 37 rfl) rfl hi3 hv3 ?_
  refine QG.callVk (rest := []) [0, 1, 51, 52, 53, 54, 55] hz1 hX cw_L_13 (M_X7_put_ok X.l (fun j => Option.map (qinv [0, 1, 51, 52, 53, 54, 55]) (rfB j)) (A 52) (A 53) (A 54) (A 55) (V 51 4) (B 51) v1 v2 v3 hr0 hr1 (by show Option.map _ (rfB v1.toNatClampNeg) = _; rw [hj]; rfl)) trivial (by decide) (by decide) (qd K_L_law0 38 rfl) rfl hcs rfl rfl rfl rfl (Nat.le_of_ble_eq_true rfl) (Eq.trans (congrArg (fun f => List.map (fun i => (wLx f kfB (va_rf z) (va_rf tx) A V B L M)[i]?) [0, 1, 51, 52, 53, 54, 55]) (qinv_eq [0, 1, 51, 52, 53, 54, 55] rfB).symm) rfl) rfl (Nat.le_of_ble_eq_true rfl) rfl ?_
  refine QG.eqW (Wd' := (wLx (fun j => Option.map (qf [0, 1, 51, 52, 53, 54, 55]) (Option.map (qinv [0, 1, 51, 52, 53, 54, 55]) (rfB j))) kfB (va_rf z) (va_rf tx) (va_up (va_up (va_up A 52 c1.2.1) 53 c1.2.2.1) 54 c1.2.2.2.1) (va_up2 V 51 4 c1.2.2.2.2.1) (va_up B 51 c1.2.2.2.2.2) L M)) rfl ?_
  rw [qinv_eq [0, 1, 51, 52, 53, 54, 55] rfB]
  show QG X 4 _ _ 175 _ [.int c1.1] _ ad _ _
  refine QG.aload_n hX (qd K_L_law0 39 rfl) rfl rfl ?_
  refine QG.aload_ns hX (qd K_L_law1 0 rfl) rfl rfl ?_
  refine QG.iload_n hX (qd K_L_law1 1 rfl) rfl rfl ?_
  refine QG.iconst hX (qd K_L_law1 2 rfl) rfl ki_1 ?_
  refine QG.iadd hX (qd K_L_law1 3 rfl) rfl ?_
  refine QG.scld hX hs0 hsl hsA hsb (qd K_L_law1 4 rfl) rfl hi1 hv1 ?_
  refine QG.aload_ns hX (qd K_L_law1 5 rfl) rfl rfl ?_
  refine QG.iload_n hX (qd K_L_law1 6 rfl) rfl rfl ?_
  refine QG.iconst hX (qd K_L_law1 7 rfl) rfl ki_2 ?_
  refine QG.iadd hX (qd K_L_law1 8 rfl) rfl ?_
  refine QG.scld hX hs0 hsl hsA hsb (qd K_L_law1 9 rfl) rfl hi2 hv2 ?_
  refine QG.aload_ns hX (qd K_L_law1 10 rfl) rfl rfl ?_
  refine QG.iload_n hX (qd K_L_law1 11 rfl) rfl rfl ?_
  refine QG.iconst hX (qd K_L_law1 12 rfl) rfl ki_3 ?_
  refine QG.iadd hX (qd K_L_law1 13 rfl) rfl ?_
  refine QG.scld hX hs0 hsl hsA hsb (qd K_L_law1 14 rfl) rfl hi3 hv3 ?_
  refine QG.callVk (rest := [.int c1.1]) [104, 105, 106, 107, 108, 109, 110, 111, 112, 113, 114, 115, 116, 117, 118, 119, 120, 121, 122, 123, 124, 125, 126, 127, 128, 129, 130, 131, 132, 133, 134, 135, 136, 137] hz2 hX cw_L_17 (M_X8_put X.l (V 104 0) (A 105) (A 106) (A 107) (A 108) (A 109) (A 110) (A 111) (A 112) (V 104 9) (V 104 10) (A 113) (A 114) (A 115) (A 116) M (A 118) (A 119) (A 120) (A 121) (A 122) (A 123) (A 124) (A 125) (A 126) (A 127) (A 128) (V 104 27) (V 104 28) (A 129) (V 104 30) (V 104 31) (V 104 32) (V 104 33) (V 104 34) (V 104 35) (V 104 36) (A 130) (A 131) (A 132) (A 133) (A 134) (A 135) (V 104 43) (V 104 44) (V 104 45) (V 104 46) (A 136) (A 137) v1 v2 v3) trivial (by decide) (by decide) (qd K_L_law1 15 rfl) rfl hcs rfl rfl rfl rfl (Nat.le_of_ble_eq_true rfl) rfl rfl (Nat.le_of_ble_eq_true rfl) rfl ?_
  refine QG.eqW (Wd' := (wLx rfB kfB (va_rf z) (va_rf tx) (va_up (va_up (va_up (va_up (va_up (va_up (va_up A 52 c1.2.1) 53 c1.2.2.1) 54 c1.2.2.2.1) 105 c2.2.2.1) 106 c2.2.2.2.1) 107 c2.2.2.2.2.1) 108 c2.2.2.2.2.2) (va_up2 (va_up2 V 51 4 c1.2.2.2.2.1) 104 0 c2.2.1) (va_up B 51 c1.2.2.2.2.2) L M)) rfl ?_
  show QG X 4 _ _ 194 _ [.int c2.1, .int c1.1] _ ad _ _
  exact QG.ifT (by rw [he]) (QG.icmp_eq (tgt := 1048) (oF := none) hX (qd K_L_law1 16 rfl) rfl (by decide) K QG.nothing)

set_option maxRecDepth 100000 in
set_option maxHeartbeats 4000000 in
theorem C_put_2 {X : QX} (hX : qok X code RL 4 (some .boolean) 1000) {Q : Unit → State → Prop} {b LL : Nat} {xs : Nat → Int32} (hs0 : va_X b LL xs X.s X.s.heap) (hsl : b < X.s.heap.size) (hsA : ¬ X.A b) (hsb : X.sA 100 = b) {ad : Nat → Nat} {cells slots : Nat} (hcs : cells ≤ X.R.cells ∧ slots ≤ X.R.slots) {A V : Nat → Nat → Int32} {B : Nat → Bool} {L M : Nat → Int64} {z tx : Option Nat} {x3 : Int32} {v1 : Int32} {v2 : Int32} {v3 : Int32} (hi1 : vp_in (x3 + 1) LL) (hv1 : xs (x3 + 1).toNatClampNeg = v1) (hi2 : vp_in (x3 + 2) LL) (hv2 : xs (x3 + 2).toNatClampNeg = v2) (hi3 : vp_in (x3 + 3) LL) (hv3 : xs (x3 + 3).toNatClampNeg = v3) (hr0 : ¬ v1 < 0) (hr1 : ¬ 6 ≤ v1) (hj : v1.toNatClampNeg = 2) {c1 : Int32 × (Nat → Int32) × (Nat → Int32) × (Nat → Int32) × Int32 × Bool} {c2 : Int32 × Int32 × (Nat → Int32) × (Nat → Int32) × (Nat → Int32) × (Nat → Int32)} (hz1 : F_X7_put_ok (A 57) (A 58) (A 59) (V 56 4) (B 56) v1 v2 v3 = some c1) (hz2 : F_X8_put (V 104 0) (A 105) (A 106) (A 107) (A 108) v1 v2 v3 = some c2) (he : c1.1 = c2.1)
    (K : QG X 4 Q (some ()) 1048 [(0, .float (UInt32.ofNat 100)), (1, .ref 0), (2, .ref 104), (3, .int x3)] [] (wLx rfB kfB (va_rf z) (va_rf tx) (va_up (va_up (va_up (va_up (va_up (va_up (va_up A 57 c1.2.1) 58 c1.2.2.1) 59 c1.2.2.2.1) 105 c2.2.2.1) 106 c2.2.2.2.1) 107 c2.2.2.2.2.1) 108 c2.2.2.2.2.2) (va_up2 (va_up2 V 56 4 c1.2.2.2.2.1) 104 0 c2.2.1) (va_up B 56 c1.2.2.2.2.2) L M) ad cells slots) : QG X 4 Q (some ()) 156 [(0, .float (UInt32.ofNat 100)), (1, .ref 0), (2, .ref 104), (3, .int x3)] [] (wLx rfB kfB (va_rf z) (va_rf tx) A V B L M) ad cells slots := by
  refine QG.aload_n hX (qd K_L_law0 22 rfl) rfl rfl ?_
  refine QG.aload_ns hX (qd K_L_law0 23 rfl) rfl rfl ?_
  refine QG.iload_n hX (qd K_L_law0 24 rfl) rfl rfl ?_
  refine QG.iconst hX (qd K_L_law0 25 rfl) rfl ki_1 ?_
  refine QG.iadd hX (qd K_L_law0 26 rfl) rfl ?_
  refine QG.scld hX hs0 hsl hsA hsb (qd K_L_law0 27 rfl) rfl hi1 hv1 ?_
  refine QG.aload_ns hX (qd K_L_law0 28 rfl) rfl rfl ?_
  refine QG.iload_n hX (qd K_L_law0 29 rfl) rfl rfl ?_
  refine QG.iconst hX (qd K_L_law0 30 rfl) rfl ki_2 ?_
  refine QG.iadd hX (qd K_L_law0 31 rfl) rfl ?_
  refine QG.scld hX hs0 hsl hsA hsb (qd K_L_law0 32 rfl) rfl hi2 hv2 ?_
  refine QG.aload_ns hX (qd K_L_law0 33 rfl) rfl rfl ?_
  refine QG.iload_n hX (qd K_L_law0 34 rfl) rfl rfl ?_
  refine QG.iconst hX (qd K_L_law0 35 rfl) rfl ki_3 ?_
  refine QG.iadd hX (qd K_L_law0 36 rfl) rfl ?_
  refine QG.scld hX hs0 hsl hsA hsb (qd K_L_law0 37 rfl) rfl hi3 hv3 ?_
  refine QG.callVk (rest := []) [0, 1, 56, 57, 58, 59, 60] hz1 hX cw_L_13 (M_X7_put_ok X.l (fun j => Option.map (qinv [0, 1, 56, 57, 58, 59, 60]) (rfB j)) (A 57) (A 58) (A 59) (A 60) (V 56 4) (B 56) v1 v2 v3 hr0 hr1 (by show Option.map _ (rfB v1.toNatClampNeg) = _; rw [hj]; rfl)) trivial (by decide) (by decide) (qd K_L_law0 38 rfl) rfl hcs rfl rfl rfl rfl (Nat.le_of_ble_eq_true rfl) (Eq.trans (congrArg (fun f => List.map (fun i => (wLx f kfB (va_rf z) (va_rf tx) A V B L M)[i]?) [0, 1, 56, 57, 58, 59, 60]) (qinv_eq [0, 1, 56, 57, 58, 59, 60] rfB).symm) rfl) rfl (Nat.le_of_ble_eq_true rfl) rfl ?_
  refine QG.eqW (Wd' := (wLx (fun j => Option.map (qf [0, 1, 56, 57, 58, 59, 60]) (Option.map (qinv [0, 1, 56, 57, 58, 59, 60]) (rfB j))) kfB (va_rf z) (va_rf tx) (va_up (va_up (va_up A 57 c1.2.1) 58 c1.2.2.1) 59 c1.2.2.2.1) (va_up2 V 56 4 c1.2.2.2.2.1) (va_up B 56 c1.2.2.2.2.2) L M)) rfl ?_
  rw [qinv_eq [0, 1, 56, 57, 58, 59, 60] rfB]
  show QG X 4 _ _ 175 _ [.int c1.1] _ ad _ _
  refine QG.aload_n hX (qd K_L_law0 39 rfl) rfl rfl ?_
  refine QG.aload_ns hX (qd K_L_law1 0 rfl) rfl rfl ?_
  refine QG.iload_n hX (qd K_L_law1 1 rfl) rfl rfl ?_
  refine QG.iconst hX (qd K_L_law1 2 rfl) rfl ki_1 ?_
  refine QG.iadd hX (qd K_L_law1 3 rfl) rfl ?_
  refine QG.scld hX hs0 hsl hsA hsb (qd K_L_law1 4 rfl) rfl hi1 hv1 ?_
  refine QG.aload_ns hX (qd K_L_law1 5 rfl) rfl rfl ?_
  refine QG.iload_n hX (qd K_L_law1 6 rfl) rfl rfl ?_
  refine QG.iconst hX (qd K_L_law1 7 rfl) rfl ki_2 ?_
  refine QG.iadd hX (qd K_L_law1 8 rfl) rfl ?_
  refine QG.scld hX hs0 hsl hsA hsb (qd K_L_law1 9 rfl) rfl hi2 hv2 ?_
  refine QG.aload_ns hX (qd K_L_law1 10 rfl) rfl rfl ?_
  refine QG.iload_n hX (qd K_L_law1 11 rfl) rfl rfl ?_
  refine QG.iconst hX (qd K_L_law1 12 rfl) rfl ki_3 ?_
  refine QG.iadd hX (qd K_L_law1 13 rfl) rfl ?_
  refine QG.scld hX hs0 hsl hsA hsb (qd K_L_law1 14 rfl) rfl hi3 hv3 ?_
  refine QG.callVk (rest := [.int c1.1]) [104, 105, 106, 107, 108, 109, 110, 111, 112, 113, 114, 115, 116, 117, 118, 119, 120, 121, 122, 123, 124, 125, 126, 127, 128, 129, 130, 131, 132, 133, 134, 135, 136, 137] hz2 hX cw_L_17 (M_X8_put X.l (V 104 0) (A 105) (A 106) (A 107) (A 108) (A 109) (A 110) (A 111) (A 112) (V 104 9) (V 104 10) (A 113) (A 114) (A 115) (A 116) M (A 118) (A 119) (A 120) (A 121) (A 122) (A 123) (A 124) (A 125) (A 126) (A 127) (A 128) (V 104 27) (V 104 28) (A 129) (V 104 30) (V 104 31) (V 104 32) (V 104 33) (V 104 34) (V 104 35) (V 104 36) (A 130) (A 131) (A 132) (A 133) (A 134) (A 135) (V 104 43) (V 104 44) (V 104 45) (V 104 46) (A 136) (A 137) v1 v2 v3) trivial (by decide) (by decide) (qd K_L_law1 15 rfl) rfl hcs rfl rfl rfl rfl (Nat.le_of_ble_eq_true rfl) rfl rfl (Nat.le_of_ble_eq_true rfl) rfl ?_
  refine QG.eqW (Wd' := (wLx rfB kfB (va_rf z) (va_rf tx) (va_up (va_up (va_up (va_up (va_up (va_up (va_up A 57 c1.2.1) 58 c1.2.2.1) 59 c1.2.2.2.1) 105 c2.2.2.1) 106 c2.2.2.2.1) 107 c2.2.2.2.2.1) 108 c2.2.2.2.2.2) (va_up2 (va_up2 V 56 4 c1.2.2.2.2.1) 104 0 c2.2.1) (va_up B 56 c1.2.2.2.2.2) L M)) rfl ?_
  show QG X 4 _ _ 194 _ [.int c2.1, .int c1.1] _ ad _ _
  exact QG.ifT (by rw [he]) (QG.icmp_eq (tgt := 1048) (oF := none) hX (qd K_L_law1 16 rfl) rfl (by decide) K QG.nothing)

set_option maxRecDepth 100000 in
set_option maxHeartbeats 4000000 in
theorem C_put_3 {X : QX} (hX : qok X code RL 4 (some .boolean) 1000) {Q : Unit → State → Prop} {b LL : Nat} {xs : Nat → Int32} (hs0 : va_X b LL xs X.s X.s.heap) (hsl : b < X.s.heap.size) (hsA : ¬ X.A b) (hsb : X.sA 100 = b) {ad : Nat → Nat} {cells slots : Nat} (hcs : cells ≤ X.R.cells ∧ slots ≤ X.R.slots) {A V : Nat → Nat → Int32} {B : Nat → Bool} {L M : Nat → Int64} {z tx : Option Nat} {x3 : Int32} {v1 : Int32} {v2 : Int32} {v3 : Int32} (hi1 : vp_in (x3 + 1) LL) (hv1 : xs (x3 + 1).toNatClampNeg = v1) (hi2 : vp_in (x3 + 2) LL) (hv2 : xs (x3 + 2).toNatClampNeg = v2) (hi3 : vp_in (x3 + 3) LL) (hv3 : xs (x3 + 3).toNatClampNeg = v3) (hr0 : ¬ v1 < 0) (hr1 : ¬ 6 ≤ v1) (hj : v1.toNatClampNeg = 3) {c1 : Int32 × (Nat → Int32) × (Nat → Int32) × (Nat → Int32) × Int32 × Bool} {c2 : Int32 × Int32 × (Nat → Int32) × (Nat → Int32) × (Nat → Int32) × (Nat → Int32)} (hz1 : F_X7_put_ok (A 62) (A 63) (A 64) (V 61 4) (B 61) v1 v2 v3 = some c1) (hz2 : F_X8_put (V 104 0) (A 105) (A 106) (A 107) (A 108) v1 v2 v3 = some c2) (he : c1.1 = c2.1)
    (K : QG X 4 Q (some ()) 1048 [(0, .float (UInt32.ofNat 100)), (1, .ref 0), (2, .ref 104), (3, .int x3)] [] (wLx rfB kfB (va_rf z) (va_rf tx) (va_up (va_up (va_up (va_up (va_up (va_up (va_up A 62 c1.2.1) 63 c1.2.2.1) 64 c1.2.2.2.1) 105 c2.2.2.1) 106 c2.2.2.2.1) 107 c2.2.2.2.2.1) 108 c2.2.2.2.2.2) (va_up2 (va_up2 V 61 4 c1.2.2.2.2.1) 104 0 c2.2.1) (va_up B 61 c1.2.2.2.2.2) L M) ad cells slots) : QG X 4 Q (some ()) 156 [(0, .float (UInt32.ofNat 100)), (1, .ref 0), (2, .ref 104), (3, .int x3)] [] (wLx rfB kfB (va_rf z) (va_rf tx) A V B L M) ad cells slots := by
  refine QG.aload_n hX (qd K_L_law0 22 rfl) rfl rfl ?_
  refine QG.aload_ns hX (qd K_L_law0 23 rfl) rfl rfl ?_
  refine QG.iload_n hX (qd K_L_law0 24 rfl) rfl rfl ?_
  refine QG.iconst hX (qd K_L_law0 25 rfl) rfl ki_1 ?_
  refine QG.iadd hX (qd K_L_law0 26 rfl) rfl ?_
  refine QG.scld hX hs0 hsl hsA hsb (qd K_L_law0 27 rfl) rfl hi1 hv1 ?_
  refine QG.aload_ns hX (qd K_L_law0 28 rfl) rfl rfl ?_
  refine QG.iload_n hX (qd K_L_law0 29 rfl) rfl rfl ?_
  refine QG.iconst hX (qd K_L_law0 30 rfl) rfl ki_2 ?_
  refine QG.iadd hX (qd K_L_law0 31 rfl) rfl ?_
  refine QG.scld hX hs0 hsl hsA hsb (qd K_L_law0 32 rfl) rfl hi2 hv2 ?_
  refine QG.aload_ns hX (qd K_L_law0 33 rfl) rfl rfl ?_
  refine QG.iload_n hX (qd K_L_law0 34 rfl) rfl rfl ?_
  refine QG.iconst hX (qd K_L_law0 35 rfl) rfl ki_3 ?_
  refine QG.iadd hX (qd K_L_law0 36 rfl) rfl ?_
  refine QG.scld hX hs0 hsl hsA hsb (qd K_L_law0 37 rfl) rfl hi3 hv3 ?_
  refine QG.callVk (rest := []) [0, 1, 61, 62, 63, 64, 65] hz1 hX cw_L_13 (M_X7_put_ok X.l (fun j => Option.map (qinv [0, 1, 61, 62, 63, 64, 65]) (rfB j)) (A 62) (A 63) (A 64) (A 65) (V 61 4) (B 61) v1 v2 v3 hr0 hr1 (by show Option.map _ (rfB v1.toNatClampNeg) = _; rw [hj]; rfl)) trivial (by decide) (by decide) (qd K_L_law0 38 rfl) rfl hcs rfl rfl rfl rfl (Nat.le_of_ble_eq_true rfl) (Eq.trans (congrArg (fun f => List.map (fun i => (wLx f kfB (va_rf z) (va_rf tx) A V B L M)[i]?) [0, 1, 61, 62, 63, 64, 65]) (qinv_eq [0, 1, 61, 62, 63, 64, 65] rfB).symm) rfl) rfl (Nat.le_of_ble_eq_true rfl) rfl ?_
  refine QG.eqW (Wd' := (wLx (fun j => Option.map (qf [0, 1, 61, 62, 63, 64, 65]) (Option.map (qinv [0, 1, 61, 62, 63, 64, 65]) (rfB j))) kfB (va_rf z) (va_rf tx) (va_up (va_up (va_up A 62 c1.2.1) 63 c1.2.2.1) 64 c1.2.2.2.1) (va_up2 V 61 4 c1.2.2.2.2.1) (va_up B 61 c1.2.2.2.2.2) L M)) rfl ?_
  rw [qinv_eq [0, 1, 61, 62, 63, 64, 65] rfB]
  show QG X 4 _ _ 175 _ [.int c1.1] _ ad _ _
  refine QG.aload_n hX (qd K_L_law0 39 rfl) rfl rfl ?_
  refine QG.aload_ns hX (qd K_L_law1 0 rfl) rfl rfl ?_
  refine QG.iload_n hX (qd K_L_law1 1 rfl) rfl rfl ?_
  refine QG.iconst hX (qd K_L_law1 2 rfl) rfl ki_1 ?_
  refine QG.iadd hX (qd K_L_law1 3 rfl) rfl ?_
  refine QG.scld hX hs0 hsl hsA hsb (qd K_L_law1 4 rfl) rfl hi1 hv1 ?_
  refine QG.aload_ns hX (qd K_L_law1 5 rfl) rfl rfl ?_
  refine QG.iload_n hX (qd K_L_law1 6 rfl) rfl rfl ?_
  refine QG.iconst hX (qd K_L_law1 7 rfl) rfl ki_2 ?_
  refine QG.iadd hX (qd K_L_law1 8 rfl) rfl ?_
  refine QG.scld hX hs0 hsl hsA hsb (qd K_L_law1 9 rfl) rfl hi2 hv2 ?_
  refine QG.aload_ns hX (qd K_L_law1 10 rfl) rfl rfl ?_
  refine QG.iload_n hX (qd K_L_law1 11 rfl) rfl rfl ?_
  refine QG.iconst hX (qd K_L_law1 12 rfl) rfl ki_3 ?_
  refine QG.iadd hX (qd K_L_law1 13 rfl) rfl ?_
  refine QG.scld hX hs0 hsl hsA hsb (qd K_L_law1 14 rfl) rfl hi3 hv3 ?_
  refine QG.callVk (rest := [.int c1.1]) [104, 105, 106, 107, 108, 109, 110, 111, 112, 113, 114, 115, 116, 117, 118, 119, 120, 121, 122, 123, 124, 125, 126, 127, 128, 129, 130, 131, 132, 133, 134, 135, 136, 137] hz2 hX cw_L_17 (M_X8_put X.l (V 104 0) (A 105) (A 106) (A 107) (A 108) (A 109) (A 110) (A 111) (A 112) (V 104 9) (V 104 10) (A 113) (A 114) (A 115) (A 116) M (A 118) (A 119) (A 120) (A 121) (A 122) (A 123) (A 124) (A 125) (A 126) (A 127) (A 128) (V 104 27) (V 104 28) (A 129) (V 104 30) (V 104 31) (V 104 32) (V 104 33) (V 104 34) (V 104 35) (V 104 36) (A 130) (A 131) (A 132) (A 133) (A 134) (A 135) (V 104 43) (V 104 44) (V 104 45) (V 104 46) (A 136) (A 137) v1 v2 v3) trivial (by decide) (by decide) (qd K_L_law1 15 rfl) rfl hcs rfl rfl rfl rfl (Nat.le_of_ble_eq_true rfl) rfl rfl (Nat.le_of_ble_eq_true rfl) rfl ?_
  refine QG.eqW (Wd' := (wLx rfB kfB (va_rf z) (va_rf tx) (va_up (va_up (va_up (va_up (va_up (va_up (va_up A 62 c1.2.1) 63 c1.2.2.1) 64 c1.2.2.2.1) 105 c2.2.2.1) 106 c2.2.2.2.1) 107 c2.2.2.2.2.1) 108 c2.2.2.2.2.2) (va_up2 (va_up2 V 61 4 c1.2.2.2.2.1) 104 0 c2.2.1) (va_up B 61 c1.2.2.2.2.2) L M)) rfl ?_
  show QG X 4 _ _ 194 _ [.int c2.1, .int c1.1] _ ad _ _
  exact QG.ifT (by rw [he]) (QG.icmp_eq (tgt := 1048) (oF := none) hX (qd K_L_law1 16 rfl) rfl (by decide) K QG.nothing)

set_option maxRecDepth 100000 in
set_option maxHeartbeats 4000000 in
theorem C_put_4 {X : QX} (hX : qok X code RL 4 (some .boolean) 1000) {Q : Unit → State → Prop} {b LL : Nat} {xs : Nat → Int32} (hs0 : va_X b LL xs X.s X.s.heap) (hsl : b < X.s.heap.size) (hsA : ¬ X.A b) (hsb : X.sA 100 = b) {ad : Nat → Nat} {cells slots : Nat} (hcs : cells ≤ X.R.cells ∧ slots ≤ X.R.slots) {A V : Nat → Nat → Int32} {B : Nat → Bool} {L M : Nat → Int64} {z tx : Option Nat} {x3 : Int32} {v1 : Int32} {v2 : Int32} {v3 : Int32} (hi1 : vp_in (x3 + 1) LL) (hv1 : xs (x3 + 1).toNatClampNeg = v1) (hi2 : vp_in (x3 + 2) LL) (hv2 : xs (x3 + 2).toNatClampNeg = v2) (hi3 : vp_in (x3 + 3) LL) (hv3 : xs (x3 + 3).toNatClampNeg = v3) (hr0 : ¬ v1 < 0) (hr1 : ¬ 6 ≤ v1) (hj : v1.toNatClampNeg = 4) {c1 : Int32 × (Nat → Int32) × (Nat → Int32) × (Nat → Int32) × Int32 × Bool} {c2 : Int32 × Int32 × (Nat → Int32) × (Nat → Int32) × (Nat → Int32) × (Nat → Int32)} (hz1 : F_X7_put_ok (A 67) (A 68) (A 69) (V 66 4) (B 66) v1 v2 v3 = some c1) (hz2 : F_X8_put (V 104 0) (A 105) (A 106) (A 107) (A 108) v1 v2 v3 = some c2) (he : c1.1 = c2.1)
    (K : QG X 4 Q (some ()) 1048 [(0, .float (UInt32.ofNat 100)), (1, .ref 0), (2, .ref 104), (3, .int x3)] [] (wLx rfB kfB (va_rf z) (va_rf tx) (va_up (va_up (va_up (va_up (va_up (va_up (va_up A 67 c1.2.1) 68 c1.2.2.1) 69 c1.2.2.2.1) 105 c2.2.2.1) 106 c2.2.2.2.1) 107 c2.2.2.2.2.1) 108 c2.2.2.2.2.2) (va_up2 (va_up2 V 66 4 c1.2.2.2.2.1) 104 0 c2.2.1) (va_up B 66 c1.2.2.2.2.2) L M) ad cells slots) : QG X 4 Q (some ()) 156 [(0, .float (UInt32.ofNat 100)), (1, .ref 0), (2, .ref 104), (3, .int x3)] [] (wLx rfB kfB (va_rf z) (va_rf tx) A V B L M) ad cells slots := by
  refine QG.aload_n hX (qd K_L_law0 22 rfl) rfl rfl ?_
  refine QG.aload_ns hX (qd K_L_law0 23 rfl) rfl rfl ?_
  refine QG.iload_n hX (qd K_L_law0 24 rfl) rfl rfl ?_
  refine QG.iconst hX (qd K_L_law0 25 rfl) rfl ki_1 ?_
  refine QG.iadd hX (qd K_L_law0 26 rfl) rfl ?_
  refine QG.scld hX hs0 hsl hsA hsb (qd K_L_law0 27 rfl) rfl hi1 hv1 ?_
  refine QG.aload_ns hX (qd K_L_law0 28 rfl) rfl rfl ?_
  refine QG.iload_n hX (qd K_L_law0 29 rfl) rfl rfl ?_
  refine QG.iconst hX (qd K_L_law0 30 rfl) rfl ki_2 ?_
  refine QG.iadd hX (qd K_L_law0 31 rfl) rfl ?_
  refine QG.scld hX hs0 hsl hsA hsb (qd K_L_law0 32 rfl) rfl hi2 hv2 ?_
  refine QG.aload_ns hX (qd K_L_law0 33 rfl) rfl rfl ?_
  refine QG.iload_n hX (qd K_L_law0 34 rfl) rfl rfl ?_
  refine QG.iconst hX (qd K_L_law0 35 rfl) rfl ki_3 ?_
  refine QG.iadd hX (qd K_L_law0 36 rfl) rfl ?_
  refine QG.scld hX hs0 hsl hsA hsb (qd K_L_law0 37 rfl) rfl hi3 hv3 ?_
  refine QG.callVk (rest := []) [0, 1, 66, 67, 68, 69, 70] hz1 hX cw_L_13 (M_X7_put_ok X.l (fun j => Option.map (qinv [0, 1, 66, 67, 68, 69, 70]) (rfB j)) (A 67) (A 68) (A 69) (A 70) (V 66 4) (B 66) v1 v2 v3 hr0 hr1 (by show Option.map _ (rfB v1.toNatClampNeg) = _; rw [hj]; rfl)) trivial (by decide) (by decide) (qd K_L_law0 38 rfl) rfl hcs rfl rfl rfl rfl (Nat.le_of_ble_eq_true rfl) (Eq.trans (congrArg (fun f => List.map (fun i => (wLx f kfB (va_rf z) (va_rf tx) A V B L M)[i]?) [0, 1, 66, 67, 68, 69, 70]) (qinv_eq [0, 1, 66, 67, 68, 69, 70] rfB).symm) rfl) rfl (Nat.le_of_ble_eq_true rfl) rfl ?_
  refine QG.eqW (Wd' := (wLx (fun j => Option.map (qf [0, 1, 66, 67, 68, 69, 70]) (Option.map (qinv [0, 1, 66, 67, 68, 69, 70]) (rfB j))) kfB (va_rf z) (va_rf tx) (va_up (va_up (va_up A 67 c1.2.1) 68 c1.2.2.1) 69 c1.2.2.2.1) (va_up2 V 66 4 c1.2.2.2.2.1) (va_up B 66 c1.2.2.2.2.2) L M)) rfl ?_
  rw [qinv_eq [0, 1, 66, 67, 68, 69, 70] rfB]
  show QG X 4 _ _ 175 _ [.int c1.1] _ ad _ _
  refine QG.aload_n hX (qd K_L_law0 39 rfl) rfl rfl ?_
  refine QG.aload_ns hX (qd K_L_law1 0 rfl) rfl rfl ?_
  refine QG.iload_n hX (qd K_L_law1 1 rfl) rfl rfl ?_
  refine QG.iconst hX (qd K_L_law1 2 rfl) rfl ki_1 ?_
  refine QG.iadd hX (qd K_L_law1 3 rfl) rfl ?_
  refine QG.scld hX hs0 hsl hsA hsb (qd K_L_law1 4 rfl) rfl hi1 hv1 ?_
  refine QG.aload_ns hX (qd K_L_law1 5 rfl) rfl rfl ?_
  refine QG.iload_n hX (qd K_L_law1 6 rfl) rfl rfl ?_
  refine QG.iconst hX (qd K_L_law1 7 rfl) rfl ki_2 ?_
  refine QG.iadd hX (qd K_L_law1 8 rfl) rfl ?_
  refine QG.scld hX hs0 hsl hsA hsb (qd K_L_law1 9 rfl) rfl hi2 hv2 ?_
  refine QG.aload_ns hX (qd K_L_law1 10 rfl) rfl rfl ?_
  refine QG.iload_n hX (qd K_L_law1 11 rfl) rfl rfl ?_
  refine QG.iconst hX (qd K_L_law1 12 rfl) rfl ki_3 ?_
  refine QG.iadd hX (qd K_L_law1 13 rfl) rfl ?_
  refine QG.scld hX hs0 hsl hsA hsb (qd K_L_law1 14 rfl) rfl hi3 hv3 ?_
  refine QG.callVk (rest := [.int c1.1]) [104, 105, 106, 107, 108, 109, 110, 111, 112, 113, 114, 115, 116, 117, 118, 119, 120, 121, 122, 123, 124, 125, 126, 127, 128, 129, 130, 131, 132, 133, 134, 135, 136, 137] hz2 hX cw_L_17 (M_X8_put X.l (V 104 0) (A 105) (A 106) (A 107) (A 108) (A 109) (A 110) (A 111) (A 112) (V 104 9) (V 104 10) (A 113) (A 114) (A 115) (A 116) M (A 118) (A 119) (A 120) (A 121) (A 122) (A 123) (A 124) (A 125) (A 126) (A 127) (A 128) (V 104 27) (V 104 28) (A 129) (V 104 30) (V 104 31) (V 104 32) (V 104 33) (V 104 34) (V 104 35) (V 104 36) (A 130) (A 131) (A 132) (A 133) (A 134) (A 135) (V 104 43) (V 104 44) (V 104 45) (V 104 46) (A 136) (A 137) v1 v2 v3) trivial (by decide) (by decide) (qd K_L_law1 15 rfl) rfl hcs rfl rfl rfl rfl (Nat.le_of_ble_eq_true rfl) rfl rfl (Nat.le_of_ble_eq_true rfl) rfl ?_
  refine QG.eqW (Wd' := (wLx rfB kfB (va_rf z) (va_rf tx) (va_up (va_up (va_up (va_up (va_up (va_up (va_up A 67 c1.2.1) 68 c1.2.2.1) 69 c1.2.2.2.1) 105 c2.2.2.1) 106 c2.2.2.2.1) 107 c2.2.2.2.2.1) 108 c2.2.2.2.2.2) (va_up2 (va_up2 V 66 4 c1.2.2.2.2.1) 104 0 c2.2.1) (va_up B 66 c1.2.2.2.2.2) L M)) rfl ?_
  show QG X 4 _ _ 194 _ [.int c2.1, .int c1.1] _ ad _ _
  exact QG.ifT (by rw [he]) (QG.icmp_eq (tgt := 1048) (oF := none) hX (qd K_L_law1 16 rfl) rfl (by decide) K QG.nothing)

set_option maxRecDepth 100000 in
set_option maxHeartbeats 4000000 in
theorem C_put_5 {X : QX} (hX : qok X code RL 4 (some .boolean) 1000) {Q : Unit → State → Prop} {b LL : Nat} {xs : Nat → Int32} (hs0 : va_X b LL xs X.s X.s.heap) (hsl : b < X.s.heap.size) (hsA : ¬ X.A b) (hsb : X.sA 100 = b) {ad : Nat → Nat} {cells slots : Nat} (hcs : cells ≤ X.R.cells ∧ slots ≤ X.R.slots) {A V : Nat → Nat → Int32} {B : Nat → Bool} {L M : Nat → Int64} {z tx : Option Nat} {x3 : Int32} {v1 : Int32} {v2 : Int32} {v3 : Int32} (hi1 : vp_in (x3 + 1) LL) (hv1 : xs (x3 + 1).toNatClampNeg = v1) (hi2 : vp_in (x3 + 2) LL) (hv2 : xs (x3 + 2).toNatClampNeg = v2) (hi3 : vp_in (x3 + 3) LL) (hv3 : xs (x3 + 3).toNatClampNeg = v3) (hr0 : ¬ v1 < 0) (hr1 : ¬ 6 ≤ v1) (hj : v1.toNatClampNeg = 5) {c1 : Int32 × (Nat → Int32) × (Nat → Int32) × (Nat → Int32) × Int32 × Bool} {c2 : Int32 × Int32 × (Nat → Int32) × (Nat → Int32) × (Nat → Int32) × (Nat → Int32)} (hz1 : F_X7_put_ok (A 72) (A 73) (A 74) (V 71 4) (B 71) v1 v2 v3 = some c1) (hz2 : F_X8_put (V 104 0) (A 105) (A 106) (A 107) (A 108) v1 v2 v3 = some c2) (he : c1.1 = c2.1)
    (K : QG X 4 Q (some ()) 1048 [(0, .float (UInt32.ofNat 100)), (1, .ref 0), (2, .ref 104), (3, .int x3)] [] (wLx rfB kfB (va_rf z) (va_rf tx) (va_up (va_up (va_up (va_up (va_up (va_up (va_up A 72 c1.2.1) 73 c1.2.2.1) 74 c1.2.2.2.1) 105 c2.2.2.1) 106 c2.2.2.2.1) 107 c2.2.2.2.2.1) 108 c2.2.2.2.2.2) (va_up2 (va_up2 V 71 4 c1.2.2.2.2.1) 104 0 c2.2.1) (va_up B 71 c1.2.2.2.2.2) L M) ad cells slots) : QG X 4 Q (some ()) 156 [(0, .float (UInt32.ofNat 100)), (1, .ref 0), (2, .ref 104), (3, .int x3)] [] (wLx rfB kfB (va_rf z) (va_rf tx) A V B L M) ad cells slots := by
  refine QG.aload_n hX (qd K_L_law0 22 rfl) rfl rfl ?_
  refine QG.aload_ns hX (qd K_L_law0 23 rfl) rfl rfl ?_
  refine QG.iload_n hX (qd K_L_law0 24 rfl) rfl rfl ?_
  refine QG.iconst hX (qd K_L_law0 25 rfl) rfl ki_1 ?_
  refine QG.iadd hX (qd K_L_law0 26 rfl) rfl ?_
  refine QG.scld hX hs0 hsl hsA hsb (qd K_L_law0 27 rfl) rfl hi1 hv1 ?_
  refine QG.aload_ns hX (qd K_L_law0 28 rfl) rfl rfl ?_
  refine QG.iload_n hX (qd K_L_law0 29 rfl) rfl rfl ?_
  refine QG.iconst hX (qd K_L_law0 30 rfl) rfl ki_2 ?_
  refine QG.iadd hX (qd K_L_law0 31 rfl) rfl ?_
  refine QG.scld hX hs0 hsl hsA hsb (qd K_L_law0 32 rfl) rfl hi2 hv2 ?_
  refine QG.aload_ns hX (qd K_L_law0 33 rfl) rfl rfl ?_
  refine QG.iload_n hX (qd K_L_law0 34 rfl) rfl rfl ?_
  refine QG.iconst hX (qd K_L_law0 35 rfl) rfl ki_3 ?_
  refine QG.iadd hX (qd K_L_law0 36 rfl) rfl ?_
  refine QG.scld hX hs0 hsl hsA hsb (qd K_L_law0 37 rfl) rfl hi3 hv3 ?_
  refine QG.callVk (rest := []) [0, 1, 71, 72, 73, 74, 75] hz1 hX cw_L_13 (M_X7_put_ok X.l (fun j => Option.map (qinv [0, 1, 71, 72, 73, 74, 75]) (rfB j)) (A 72) (A 73) (A 74) (A 75) (V 71 4) (B 71) v1 v2 v3 hr0 hr1 (by show Option.map _ (rfB v1.toNatClampNeg) = _; rw [hj]; rfl)) trivial (by decide) (by decide) (qd K_L_law0 38 rfl) rfl hcs rfl rfl rfl rfl (Nat.le_of_ble_eq_true rfl) (Eq.trans (congrArg (fun f => List.map (fun i => (wLx f kfB (va_rf z) (va_rf tx) A V B L M)[i]?) [0, 1, 71, 72, 73, 74, 75]) (qinv_eq [0, 1, 71, 72, 73, 74, 75] rfB).symm) rfl) rfl (Nat.le_of_ble_eq_true rfl) rfl ?_
  refine QG.eqW (Wd' := (wLx (fun j => Option.map (qf [0, 1, 71, 72, 73, 74, 75]) (Option.map (qinv [0, 1, 71, 72, 73, 74, 75]) (rfB j))) kfB (va_rf z) (va_rf tx) (va_up (va_up (va_up A 72 c1.2.1) 73 c1.2.2.1) 74 c1.2.2.2.1) (va_up2 V 71 4 c1.2.2.2.2.1) (va_up B 71 c1.2.2.2.2.2) L M)) rfl ?_
  rw [qinv_eq [0, 1, 71, 72, 73, 74, 75] rfB]
  show QG X 4 _ _ 175 _ [.int c1.1] _ ad _ _
  refine QG.aload_n hX (qd K_L_law0 39 rfl) rfl rfl ?_
  refine QG.aload_ns hX (qd K_L_law1 0 rfl) rfl rfl ?_
  refine QG.iload_n hX (qd K_L_law1 1 rfl) rfl rfl ?_
  refine QG.iconst hX (qd K_L_law1 2 rfl) rfl ki_1 ?_
  refine QG.iadd hX (qd K_L_law1 3 rfl) rfl ?_
  refine QG.scld hX hs0 hsl hsA hsb (qd K_L_law1 4 rfl) rfl hi1 hv1 ?_
  refine QG.aload_ns hX (qd K_L_law1 5 rfl) rfl rfl ?_
  refine QG.iload_n hX (qd K_L_law1 6 rfl) rfl rfl ?_
  refine QG.iconst hX (qd K_L_law1 7 rfl) rfl ki_2 ?_
  refine QG.iadd hX (qd K_L_law1 8 rfl) rfl ?_
  refine QG.scld hX hs0 hsl hsA hsb (qd K_L_law1 9 rfl) rfl hi2 hv2 ?_
  refine QG.aload_ns hX (qd K_L_law1 10 rfl) rfl rfl ?_
  refine QG.iload_n hX (qd K_L_law1 11 rfl) rfl rfl ?_
  refine QG.iconst hX (qd K_L_law1 12 rfl) rfl ki_3 ?_
  refine QG.iadd hX (qd K_L_law1 13 rfl) rfl ?_
  refine QG.scld hX hs0 hsl hsA hsb (qd K_L_law1 14 rfl) rfl hi3 hv3 ?_
  refine QG.callVk (rest := [.int c1.1]) [104, 105, 106, 107, 108, 109, 110, 111, 112, 113, 114, 115, 116, 117, 118, 119, 120, 121, 122, 123, 124, 125, 126, 127, 128, 129, 130, 131, 132, 133, 134, 135, 136, 137] hz2 hX cw_L_17 (M_X8_put X.l (V 104 0) (A 105) (A 106) (A 107) (A 108) (A 109) (A 110) (A 111) (A 112) (V 104 9) (V 104 10) (A 113) (A 114) (A 115) (A 116) M (A 118) (A 119) (A 120) (A 121) (A 122) (A 123) (A 124) (A 125) (A 126) (A 127) (A 128) (V 104 27) (V 104 28) (A 129) (V 104 30) (V 104 31) (V 104 32) (V 104 33) (V 104 34) (V 104 35) (V 104 36) (A 130) (A 131) (A 132) (A 133) (A 134) (A 135) (V 104 43) (V 104 44) (V 104 45) (V 104 46) (A 136) (A 137) v1 v2 v3) trivial (by decide) (by decide) (qd K_L_law1 15 rfl) rfl hcs rfl rfl rfl rfl (Nat.le_of_ble_eq_true rfl) rfl rfl (Nat.le_of_ble_eq_true rfl) rfl ?_
  refine QG.eqW (Wd' := (wLx rfB kfB (va_rf z) (va_rf tx) (va_up (va_up (va_up (va_up (va_up (va_up (va_up A 72 c1.2.1) 73 c1.2.2.1) 74 c1.2.2.2.1) 105 c2.2.2.1) 106 c2.2.2.2.1) 107 c2.2.2.2.2.1) 108 c2.2.2.2.2.2) (va_up2 (va_up2 V 71 4 c1.2.2.2.2.1) 104 0 c2.2.1) (va_up B 71 c1.2.2.2.2.2) L M)) rfl ?_
  show QG X 4 _ _ 194 _ [.int c2.1, .int c1.1] _ ad _ _
  exact QG.ifT (by rw [he]) (QG.icmp_eq (tgt := 1048) (oF := none) hX (qd K_L_law1 16 rfl) rfl (by decide) K QG.nothing)

set_option maxRecDepth 100000 in
set_option maxHeartbeats 4000000 in
theorem C_gone_no {X : QX} (hX : qok X code RL 4 (some .boolean) 1000) {Q : Unit → State → Prop} {b LL : Nat} {xs : Nat → Int32} (hs0 : va_X b LL xs X.s X.s.heap) (hsl : b < X.s.heap.size) (hsA : ¬ X.A b) (hsb : X.sA 100 = b) {ad : Nat → Nat} {cells slots : Nat} (hcs : cells ≤ X.R.cells ∧ slots ≤ X.R.slots) {A V : Nat → Nat → Int32} {B : Nat → Bool} {L M : Nat → Int64} {z tx : Option Nat} {x3 : Int32} {v1 : Int32} {v2 : Int32} (hi1 : vp_in (x3 + 1) LL) (hv1 : xs (x3 + 1).toNatClampNeg = v1) (hi2 : vp_in (x3 + 2) LL) (hv2 : xs (x3 + 2).toNatClampNeg = v2) (hr : v1 < 0 ∨ 6 ≤ v1) {c1 : Int32} {c2 : Int32 × Int32 × (Nat → Int32) × (Nat → Int32) × (Nat → Int32) × (Nat → Int32)} (hz1 : F_X7_gone_no v1 v2 = some c1) (hz2 : F_X8_gone (V 104 0) (A 105) (A 106) (A 107) (A 108) v1 v2 = some c2) (he : c1 = c2.1)
    (K : QG X 4 Q (some ()) 1048 [(0, .float (UInt32.ofNat 100)), (1, .ref 0), (2, .ref 104), (3, .int x3)] [] (wLx rfB kfB (va_rf z) (va_rf tx) (va_up (va_up (va_up (va_up A 105 c2.2.2.1) 106 c2.2.2.2.1) 107 c2.2.2.2.2.1) 108 c2.2.2.2.2.2) (va_up2 V 104 0 c2.2.1) B L M) ad cells slots) : QG X 4 Q (some ()) 199 [(0, .float (UInt32.ofNat 100)), (1, .ref 0), (2, .ref 104), (3, .int x3)] [] (wLx rfB kfB (va_rf z) (va_rf tx) A V B L M) ad cells slots := by
  refine QG.aload_n hX (qd K_L_law1 19 rfl) rfl rfl ?_
  refine QG.aload_ns hX (qd K_L_law1 20 rfl) rfl rfl ?_
  refine QG.iload_n hX (qd K_L_law1 21 rfl) rfl rfl ?_
  refine QG.iconst hX (qd K_L_law1 22 rfl) rfl ki_1 ?_
  refine QG.iadd hX (qd K_L_law1 23 rfl) rfl ?_
  refine QG.scld hX hs0 hsl hsA hsb (qd K_L_law1 24 rfl) rfl hi1 hv1 ?_
  refine QG.aload_ns hX (qd K_L_law1 25 rfl) rfl rfl ?_
  refine QG.iload_n hX (qd K_L_law1 26 rfl) rfl rfl ?_
  refine QG.iconst hX (qd K_L_law1 27 rfl) rfl ki_2 ?_
  refine QG.iadd hX (qd K_L_law1 28 rfl) rfl ?_
  refine QG.scld hX hs0 hsl hsA hsb (qd K_L_law1 29 rfl) rfl hi2 hv2 ?_
  refine QG.callVk (rest := []) [0, 1] hz1 hX cw_L_18 (M_X7_gone_no X.l (fun j => Option.map (qinv [0, 1]) (rfB j)) v1 v2 hr) trivial (by decide) (by decide) (qd K_L_law1 30 rfl) rfl hcs rfl rfl rfl rfl (Nat.le_of_ble_eq_true rfl) (Eq.trans (congrArg (fun f => List.map (fun i => (wLx f kfB (va_rf z) (va_rf tx) A V B L M)[i]?) [0, 1]) (qinv_eq [0, 1] rfB).symm) rfl) rfl (Nat.le_of_ble_eq_true rfl) rfl ?_
  refine QG.eqW (Wd' := (wLx (fun j => Option.map (qf [0, 1]) (Option.map (qinv [0, 1]) (rfB j))) kfB (va_rf z) (va_rf tx) A V B L M)) rfl ?_
  rw [qinv_eq [0, 1] rfB]
  show QG X 4 _ _ 213 _ [.int c1] _ ad _ _
  refine QG.aload_n hX (qd K_L_law1 31 rfl) rfl rfl ?_
  refine QG.aload_ns hX (qd K_L_law1 32 rfl) rfl rfl ?_
  refine QG.iload_n hX (qd K_L_law1 33 rfl) rfl rfl ?_
  refine QG.iconst hX (qd K_L_law1 34 rfl) rfl ki_1 ?_
  refine QG.iadd hX (qd K_L_law1 35 rfl) rfl ?_
  refine QG.scld hX hs0 hsl hsA hsb (qd K_L_law1 36 rfl) rfl hi1 hv1 ?_
  refine QG.aload_ns hX (qd K_L_law1 37 rfl) rfl rfl ?_
  refine QG.iload_n hX (qd K_L_law1 38 rfl) rfl rfl ?_
  refine QG.iconst hX (qd K_L_law1 39 rfl) rfl ki_2 ?_
  refine QG.iadd hX (qd K_L_law2 0 rfl) rfl ?_
  refine QG.scld hX hs0 hsl hsA hsb (qd K_L_law2 1 rfl) rfl hi2 hv2 ?_
  refine QG.callVk (rest := [.int c1]) [104, 105, 106, 107, 108, 109, 110, 111, 112, 113, 114, 115, 116, 117, 118, 119, 120, 121, 122, 123, 124, 125, 126, 127, 128, 129, 130, 131, 132, 133, 134, 135, 136, 137] hz2 hX cw_L_22 (M_X8_gone X.l (V 104 0) (A 105) (A 106) (A 107) (A 108) (A 109) (A 110) (A 111) (A 112) (V 104 9) (V 104 10) (A 113) (A 114) (A 115) (A 116) M (A 118) (A 119) (A 120) (A 121) (A 122) (A 123) (A 124) (A 125) (A 126) (A 127) (A 128) (V 104 27) (V 104 28) (A 129) (V 104 30) (V 104 31) (V 104 32) (V 104 33) (V 104 34) (V 104 35) (V 104 36) (A 130) (A 131) (A 132) (A 133) (A 134) (A 135) (V 104 43) (V 104 44) (V 104 45) (V 104 46) (A 136) (A 137) v1 v2) trivial (by decide) (by decide) (qd K_L_law2 2 rfl) rfl hcs rfl rfl rfl rfl (Nat.le_of_ble_eq_true rfl) rfl rfl (Nat.le_of_ble_eq_true rfl) rfl ?_
  refine QG.eqW (Wd' := (wLx rfB kfB (va_rf z) (va_rf tx) (va_up (va_up (va_up (va_up A 105 c2.2.2.1) 106 c2.2.2.2.1) 107 c2.2.2.2.2.1) 108 c2.2.2.2.2.2) (va_up2 V 104 0 c2.2.1) B L M)) rfl ?_
  show QG X 4 _ _ 227 _ [.int c2.1, .int c1] _ ad _ _
  exact QG.ifT (by rw [he]) (QG.icmp_eq (tgt := 1048) (oF := none) hX (qd K_L_law2 3 rfl) rfl (by decide) K QG.nothing)

set_option maxRecDepth 100000 in
set_option maxHeartbeats 4000000 in
theorem C_gone_0 {X : QX} (hX : qok X code RL 4 (some .boolean) 1000) {Q : Unit → State → Prop} {b LL : Nat} {xs : Nat → Int32} (hs0 : va_X b LL xs X.s X.s.heap) (hsl : b < X.s.heap.size) (hsA : ¬ X.A b) (hsb : X.sA 100 = b) {ad : Nat → Nat} {cells slots : Nat} (hcs : cells ≤ X.R.cells ∧ slots ≤ X.R.slots) {A V : Nat → Nat → Int32} {B : Nat → Bool} {L M : Nat → Int64} {z tx : Option Nat} {x3 : Int32} {v1 : Int32} {v2 : Int32} (hi1 : vp_in (x3 + 1) LL) (hv1 : xs (x3 + 1).toNatClampNeg = v1) (hi2 : vp_in (x3 + 2) LL) (hv2 : xs (x3 + 2).toNatClampNeg = v2) (hr0 : ¬ v1 < 0) (hr1 : ¬ 6 ≤ v1) (hj : v1.toNatClampNeg = 0) {c1 : Int32 × (Nat → Int32) × (Nat → Int32) × (Nat → Int32) × Int32 × Bool} {c2 : Int32 × Int32 × (Nat → Int32) × (Nat → Int32) × (Nat → Int32) × (Nat → Int32)} (hz1 : F_X7_gone_ok (A 47) (A 48) (A 49) (V 46 4) (B 46) v1 v2 = some c1) (hz2 : F_X8_gone (V 104 0) (A 105) (A 106) (A 107) (A 108) v1 v2 = some c2) (he : c1.1 = c2.1)
    (K : QG X 4 Q (some ()) 1048 [(0, .float (UInt32.ofNat 100)), (1, .ref 0), (2, .ref 104), (3, .int x3)] [] (wLx rfB kfB (va_rf z) (va_rf tx) (va_up (va_up (va_up (va_up (va_up (va_up (va_up A 47 c1.2.1) 48 c1.2.2.1) 49 c1.2.2.2.1) 105 c2.2.2.1) 106 c2.2.2.2.1) 107 c2.2.2.2.2.1) 108 c2.2.2.2.2.2) (va_up2 (va_up2 V 46 4 c1.2.2.2.2.1) 104 0 c2.2.1) (va_up B 46 c1.2.2.2.2.2) L M) ad cells slots) : QG X 4 Q (some ()) 199 [(0, .float (UInt32.ofNat 100)), (1, .ref 0), (2, .ref 104), (3, .int x3)] [] (wLx rfB kfB (va_rf z) (va_rf tx) A V B L M) ad cells slots := by
  refine QG.aload_n hX (qd K_L_law1 19 rfl) rfl rfl ?_
  refine QG.aload_ns hX (qd K_L_law1 20 rfl) rfl rfl ?_
  refine QG.iload_n hX (qd K_L_law1 21 rfl) rfl rfl ?_
  refine QG.iconst hX (qd K_L_law1 22 rfl) rfl ki_1 ?_
  refine QG.iadd hX (qd K_L_law1 23 rfl) rfl ?_
  refine QG.scld hX hs0 hsl hsA hsb (qd K_L_law1 24 rfl) rfl hi1 hv1 ?_
  refine QG.aload_ns hX (qd K_L_law1 25 rfl) rfl rfl ?_
  refine QG.iload_n hX (qd K_L_law1 26 rfl) rfl rfl ?_
  refine QG.iconst hX (qd K_L_law1 27 rfl) rfl ki_2 ?_
  refine QG.iadd hX (qd K_L_law1 28 rfl) rfl ?_
  refine QG.scld hX hs0 hsl hsA hsb (qd K_L_law1 29 rfl) rfl hi2 hv2 ?_
  refine QG.callVk (rest := []) [0, 1, 46, 47, 48, 49, 50] hz1 hX cw_L_18 (M_X7_gone_ok X.l (fun j => Option.map (qinv [0, 1, 46, 47, 48, 49, 50]) (rfB j)) (A 47) (A 48) (A 49) (A 50) (V 46 4) (B 46) v1 v2 hr0 hr1 (by show Option.map _ (rfB v1.toNatClampNeg) = _; rw [hj]; rfl)) trivial (by decide) (by decide) (qd K_L_law1 30 rfl) rfl hcs rfl rfl rfl rfl (Nat.le_of_ble_eq_true rfl) (Eq.trans (congrArg (fun f => List.map (fun i => (wLx f kfB (va_rf z) (va_rf tx) A V B L M)[i]?) [0, 1, 46, 47, 48, 49, 50]) (qinv_eq [0, 1, 46, 47, 48, 49, 50] rfB).symm) rfl) rfl (Nat.le_of_ble_eq_true rfl) rfl ?_
  refine QG.eqW (Wd' := (wLx (fun j => Option.map (qf [0, 1, 46, 47, 48, 49, 50]) (Option.map (qinv [0, 1, 46, 47, 48, 49, 50]) (rfB j))) kfB (va_rf z) (va_rf tx) (va_up (va_up (va_up A 47 c1.2.1) 48 c1.2.2.1) 49 c1.2.2.2.1) (va_up2 V 46 4 c1.2.2.2.2.1) (va_up B 46 c1.2.2.2.2.2) L M)) rfl ?_
  rw [qinv_eq [0, 1, 46, 47, 48, 49, 50] rfB]
  show QG X 4 _ _ 213 _ [.int c1.1] _ ad _ _
  refine QG.aload_n hX (qd K_L_law1 31 rfl) rfl rfl ?_
  refine QG.aload_ns hX (qd K_L_law1 32 rfl) rfl rfl ?_
  refine QG.iload_n hX (qd K_L_law1 33 rfl) rfl rfl ?_
  refine QG.iconst hX (qd K_L_law1 34 rfl) rfl ki_1 ?_
  refine QG.iadd hX (qd K_L_law1 35 rfl) rfl ?_
  refine QG.scld hX hs0 hsl hsA hsb (qd K_L_law1 36 rfl) rfl hi1 hv1 ?_
  refine QG.aload_ns hX (qd K_L_law1 37 rfl) rfl rfl ?_
  refine QG.iload_n hX (qd K_L_law1 38 rfl) rfl rfl ?_
  refine QG.iconst hX (qd K_L_law1 39 rfl) rfl ki_2 ?_
  refine QG.iadd hX (qd K_L_law2 0 rfl) rfl ?_
  refine QG.scld hX hs0 hsl hsA hsb (qd K_L_law2 1 rfl) rfl hi2 hv2 ?_
  refine QG.callVk (rest := [.int c1.1]) [104, 105, 106, 107, 108, 109, 110, 111, 112, 113, 114, 115, 116, 117, 118, 119, 120, 121, 122, 123, 124, 125, 126, 127, 128, 129, 130, 131, 132, 133, 134, 135, 136, 137] hz2 hX cw_L_22 (M_X8_gone X.l (V 104 0) (A 105) (A 106) (A 107) (A 108) (A 109) (A 110) (A 111) (A 112) (V 104 9) (V 104 10) (A 113) (A 114) (A 115) (A 116) M (A 118) (A 119) (A 120) (A 121) (A 122) (A 123) (A 124) (A 125) (A 126) (A 127) (A 128) (V 104 27) (V 104 28) (A 129) (V 104 30) (V 104 31) (V 104 32) (V 104 33) (V 104 34) (V 104 35) (V 104 36) (A 130) (A 131) (A 132) (A 133) (A 134) (A 135) (V 104 43) (V 104 44) (V 104 45) (V 104 46) (A 136) (A 137) v1 v2) trivial (by decide) (by decide) (qd K_L_law2 2 rfl) rfl hcs rfl rfl rfl rfl (Nat.le_of_ble_eq_true rfl) rfl rfl (Nat.le_of_ble_eq_true rfl) rfl ?_
  refine QG.eqW (Wd' := (wLx rfB kfB (va_rf z) (va_rf tx) (va_up (va_up (va_up (va_up (va_up (va_up (va_up A 47 c1.2.1) 48 c1.2.2.1) 49 c1.2.2.2.1) 105 c2.2.2.1) 106 c2.2.2.2.1) 107 c2.2.2.2.2.1) 108 c2.2.2.2.2.2) (va_up2 (va_up2 V 46 4 c1.2.2.2.2.1) 104 0 c2.2.1) (va_up B 46 c1.2.2.2.2.2) L M)) rfl ?_
  show QG X 4 _ _ 227 _ [.int c2.1, .int c1.1] _ ad _ _
  exact QG.ifT (by rw [he]) (QG.icmp_eq (tgt := 1048) (oF := none) hX (qd K_L_law2 3 rfl) rfl (by decide) K QG.nothing)

set_option maxRecDepth 100000 in
set_option maxHeartbeats 4000000 in
theorem C_gone_1 {X : QX} (hX : qok X code RL 4 (some .boolean) 1000) {Q : Unit → State → Prop} {b LL : Nat} {xs : Nat → Int32} (hs0 : va_X b LL xs X.s X.s.heap) (hsl : b < X.s.heap.size) (hsA : ¬ X.A b) (hsb : X.sA 100 = b) {ad : Nat → Nat} {cells slots : Nat} (hcs : cells ≤ X.R.cells ∧ slots ≤ X.R.slots) {A V : Nat → Nat → Int32} {B : Nat → Bool} {L M : Nat → Int64} {z tx : Option Nat} {x3 : Int32} {v1 : Int32} {v2 : Int32} (hi1 : vp_in (x3 + 1) LL) (hv1 : xs (x3 + 1).toNatClampNeg = v1) (hi2 : vp_in (x3 + 2) LL) (hv2 : xs (x3 + 2).toNatClampNeg = v2) (hr0 : ¬ v1 < 0) (hr1 : ¬ 6 ≤ v1) (hj : v1.toNatClampNeg = 1) {c1 : Int32 × (Nat → Int32) × (Nat → Int32) × (Nat → Int32) × Int32 × Bool} {c2 : Int32 × Int32 × (Nat → Int32) × (Nat → Int32) × (Nat → Int32) × (Nat → Int32)} (hz1 : F_X7_gone_ok (A 52) (A 53) (A 54) (V 51 4) (B 51) v1 v2 = some c1) (hz2 : F_X8_gone (V 104 0) (A 105) (A 106) (A 107) (A 108) v1 v2 = some c2) (he : c1.1 = c2.1)
    (K : QG X 4 Q (some ()) 1048 [(0, .float (UInt32.ofNat 100)), (1, .ref 0), (2, .ref 104), (3, .int x3)] [] (wLx rfB kfB (va_rf z) (va_rf tx) (va_up (va_up (va_up (va_up (va_up (va_up (va_up A 52 c1.2.1) 53 c1.2.2.1) 54 c1.2.2.2.1) 105 c2.2.2.1) 106 c2.2.2.2.1) 107 c2.2.2.2.2.1) 108 c2.2.2.2.2.2) (va_up2 (va_up2 V 51 4 c1.2.2.2.2.1) 104 0 c2.2.1) (va_up B 51 c1.2.2.2.2.2) L M) ad cells slots) : QG X 4 Q (some ()) 199 [(0, .float (UInt32.ofNat 100)), (1, .ref 0), (2, .ref 104), (3, .int x3)] [] (wLx rfB kfB (va_rf z) (va_rf tx) A V B L M) ad cells slots := by
  refine QG.aload_n hX (qd K_L_law1 19 rfl) rfl rfl ?_
  refine QG.aload_ns hX (qd K_L_law1 20 rfl) rfl rfl ?_
  refine QG.iload_n hX (qd K_L_law1 21 rfl) rfl rfl ?_
  refine QG.iconst hX (qd K_L_law1 22 rfl) rfl ki_1 ?_
  refine QG.iadd hX (qd K_L_law1 23 rfl) rfl ?_
  refine QG.scld hX hs0 hsl hsA hsb (qd K_L_law1 24 rfl) rfl hi1 hv1 ?_
  refine QG.aload_ns hX (qd K_L_law1 25 rfl) rfl rfl ?_
  refine QG.iload_n hX (qd K_L_law1 26 rfl) rfl rfl ?_
  refine QG.iconst hX (qd K_L_law1 27 rfl) rfl ki_2 ?_
  refine QG.iadd hX (qd K_L_law1 28 rfl) rfl ?_
  refine QG.scld hX hs0 hsl hsA hsb (qd K_L_law1 29 rfl) rfl hi2 hv2 ?_
  refine QG.callVk (rest := []) [0, 1, 51, 52, 53, 54, 55] hz1 hX cw_L_18 (M_X7_gone_ok X.l (fun j => Option.map (qinv [0, 1, 51, 52, 53, 54, 55]) (rfB j)) (A 52) (A 53) (A 54) (A 55) (V 51 4) (B 51) v1 v2 hr0 hr1 (by show Option.map _ (rfB v1.toNatClampNeg) = _; rw [hj]; rfl)) trivial (by decide) (by decide) (qd K_L_law1 30 rfl) rfl hcs rfl rfl rfl rfl (Nat.le_of_ble_eq_true rfl) (Eq.trans (congrArg (fun f => List.map (fun i => (wLx f kfB (va_rf z) (va_rf tx) A V B L M)[i]?) [0, 1, 51, 52, 53, 54, 55]) (qinv_eq [0, 1, 51, 52, 53, 54, 55] rfB).symm) rfl) rfl (Nat.le_of_ble_eq_true rfl) rfl ?_
  refine QG.eqW (Wd' := (wLx (fun j => Option.map (qf [0, 1, 51, 52, 53, 54, 55]) (Option.map (qinv [0, 1, 51, 52, 53, 54, 55]) (rfB j))) kfB (va_rf z) (va_rf tx) (va_up (va_up (va_up A 52 c1.2.1) 53 c1.2.2.1) 54 c1.2.2.2.1) (va_up2 V 51 4 c1.2.2.2.2.1) (va_up B 51 c1.2.2.2.2.2) L M)) rfl ?_
  rw [qinv_eq [0, 1, 51, 52, 53, 54, 55] rfB]
  show QG X 4 _ _ 213 _ [.int c1.1] _ ad _ _
  refine QG.aload_n hX (qd K_L_law1 31 rfl) rfl rfl ?_
  refine QG.aload_ns hX (qd K_L_law1 32 rfl) rfl rfl ?_
  refine QG.iload_n hX (qd K_L_law1 33 rfl) rfl rfl ?_
  refine QG.iconst hX (qd K_L_law1 34 rfl) rfl ki_1 ?_
  refine QG.iadd hX (qd K_L_law1 35 rfl) rfl ?_
  refine QG.scld hX hs0 hsl hsA hsb (qd K_L_law1 36 rfl) rfl hi1 hv1 ?_
  refine QG.aload_ns hX (qd K_L_law1 37 rfl) rfl rfl ?_
  refine QG.iload_n hX (qd K_L_law1 38 rfl) rfl rfl ?_
  refine QG.iconst hX (qd K_L_law1 39 rfl) rfl ki_2 ?_
  refine QG.iadd hX (qd K_L_law2 0 rfl) rfl ?_
  refine QG.scld hX hs0 hsl hsA hsb (qd K_L_law2 1 rfl) rfl hi2 hv2 ?_
  refine QG.callVk (rest := [.int c1.1]) [104, 105, 106, 107, 108, 109, 110, 111, 112, 113, 114, 115, 116, 117, 118, 119, 120, 121, 122, 123, 124, 125, 126, 127, 128, 129, 130, 131, 132, 133, 134, 135, 136, 137] hz2 hX cw_L_22 (M_X8_gone X.l (V 104 0) (A 105) (A 106) (A 107) (A 108) (A 109) (A 110) (A 111) (A 112) (V 104 9) (V 104 10) (A 113) (A 114) (A 115) (A 116) M (A 118) (A 119) (A 120) (A 121) (A 122) (A 123) (A 124) (A 125) (A 126) (A 127) (A 128) (V 104 27) (V 104 28) (A 129) (V 104 30) (V 104 31) (V 104 32) (V 104 33) (V 104 34) (V 104 35) (V 104 36) (A 130) (A 131) (A 132) (A 133) (A 134) (A 135) (V 104 43) (V 104 44) (V 104 45) (V 104 46) (A 136) (A 137) v1 v2) trivial (by decide) (by decide) (qd K_L_law2 2 rfl) rfl hcs rfl rfl rfl rfl (Nat.le_of_ble_eq_true rfl) rfl rfl (Nat.le_of_ble_eq_true rfl) rfl ?_
  refine QG.eqW (Wd' := (wLx rfB kfB (va_rf z) (va_rf tx) (va_up (va_up (va_up (va_up (va_up (va_up (va_up A 52 c1.2.1) 53 c1.2.2.1) 54 c1.2.2.2.1) 105 c2.2.2.1) 106 c2.2.2.2.1) 107 c2.2.2.2.2.1) 108 c2.2.2.2.2.2) (va_up2 (va_up2 V 51 4 c1.2.2.2.2.1) 104 0 c2.2.1) (va_up B 51 c1.2.2.2.2.2) L M)) rfl ?_
  show QG X 4 _ _ 227 _ [.int c2.1, .int c1.1] _ ad _ _
  exact QG.ifT (by rw [he]) (QG.icmp_eq (tgt := 1048) (oF := none) hX (qd K_L_law2 3 rfl) rfl (by decide) K QG.nothing)

set_option maxRecDepth 100000 in
set_option maxHeartbeats 4000000 in
theorem C_gone_2 {X : QX} (hX : qok X code RL 4 (some .boolean) 1000) {Q : Unit → State → Prop} {b LL : Nat} {xs : Nat → Int32} (hs0 : va_X b LL xs X.s X.s.heap) (hsl : b < X.s.heap.size) (hsA : ¬ X.A b) (hsb : X.sA 100 = b) {ad : Nat → Nat} {cells slots : Nat} (hcs : cells ≤ X.R.cells ∧ slots ≤ X.R.slots) {A V : Nat → Nat → Int32} {B : Nat → Bool} {L M : Nat → Int64} {z tx : Option Nat} {x3 : Int32} {v1 : Int32} {v2 : Int32} (hi1 : vp_in (x3 + 1) LL) (hv1 : xs (x3 + 1).toNatClampNeg = v1) (hi2 : vp_in (x3 + 2) LL) (hv2 : xs (x3 + 2).toNatClampNeg = v2) (hr0 : ¬ v1 < 0) (hr1 : ¬ 6 ≤ v1) (hj : v1.toNatClampNeg = 2) {c1 : Int32 × (Nat → Int32) × (Nat → Int32) × (Nat → Int32) × Int32 × Bool} {c2 : Int32 × Int32 × (Nat → Int32) × (Nat → Int32) × (Nat → Int32) × (Nat → Int32)} (hz1 : F_X7_gone_ok (A 57) (A 58) (A 59) (V 56 4) (B 56) v1 v2 = some c1) (hz2 : F_X8_gone (V 104 0) (A 105) (A 106) (A 107) (A 108) v1 v2 = some c2) (he : c1.1 = c2.1)
    (K : QG X 4 Q (some ()) 1048 [(0, .float (UInt32.ofNat 100)), (1, .ref 0), (2, .ref 104), (3, .int x3)] [] (wLx rfB kfB (va_rf z) (va_rf tx) (va_up (va_up (va_up (va_up (va_up (va_up (va_up A 57 c1.2.1) 58 c1.2.2.1) 59 c1.2.2.2.1) 105 c2.2.2.1) 106 c2.2.2.2.1) 107 c2.2.2.2.2.1) 108 c2.2.2.2.2.2) (va_up2 (va_up2 V 56 4 c1.2.2.2.2.1) 104 0 c2.2.1) (va_up B 56 c1.2.2.2.2.2) L M) ad cells slots) : QG X 4 Q (some ()) 199 [(0, .float (UInt32.ofNat 100)), (1, .ref 0), (2, .ref 104), (3, .int x3)] [] (wLx rfB kfB (va_rf z) (va_rf tx) A V B L M) ad cells slots := by
  refine QG.aload_n hX (qd K_L_law1 19 rfl) rfl rfl ?_
  refine QG.aload_ns hX (qd K_L_law1 20 rfl) rfl rfl ?_
  refine QG.iload_n hX (qd K_L_law1 21 rfl) rfl rfl ?_
  refine QG.iconst hX (qd K_L_law1 22 rfl) rfl ki_1 ?_
  refine QG.iadd hX (qd K_L_law1 23 rfl) rfl ?_
  refine QG.scld hX hs0 hsl hsA hsb (qd K_L_law1 24 rfl) rfl hi1 hv1 ?_
  refine QG.aload_ns hX (qd K_L_law1 25 rfl) rfl rfl ?_
  refine QG.iload_n hX (qd K_L_law1 26 rfl) rfl rfl ?_
  refine QG.iconst hX (qd K_L_law1 27 rfl) rfl ki_2 ?_
  refine QG.iadd hX (qd K_L_law1 28 rfl) rfl ?_
  refine QG.scld hX hs0 hsl hsA hsb (qd K_L_law1 29 rfl) rfl hi2 hv2 ?_
  refine QG.callVk (rest := []) [0, 1, 56, 57, 58, 59, 60] hz1 hX cw_L_18 (M_X7_gone_ok X.l (fun j => Option.map (qinv [0, 1, 56, 57, 58, 59, 60]) (rfB j)) (A 57) (A 58) (A 59) (A 60) (V 56 4) (B 56) v1 v2 hr0 hr1 (by show Option.map _ (rfB v1.toNatClampNeg) = _; rw [hj]; rfl)) trivial (by decide) (by decide) (qd K_L_law1 30 rfl) rfl hcs rfl rfl rfl rfl (Nat.le_of_ble_eq_true rfl) (Eq.trans (congrArg (fun f => List.map (fun i => (wLx f kfB (va_rf z) (va_rf tx) A V B L M)[i]?) [0, 1, 56, 57, 58, 59, 60]) (qinv_eq [0, 1, 56, 57, 58, 59, 60] rfB).symm) rfl) rfl (Nat.le_of_ble_eq_true rfl) rfl ?_
  refine QG.eqW (Wd' := (wLx (fun j => Option.map (qf [0, 1, 56, 57, 58, 59, 60]) (Option.map (qinv [0, 1, 56, 57, 58, 59, 60]) (rfB j))) kfB (va_rf z) (va_rf tx) (va_up (va_up (va_up A 57 c1.2.1) 58 c1.2.2.1) 59 c1.2.2.2.1) (va_up2 V 56 4 c1.2.2.2.2.1) (va_up B 56 c1.2.2.2.2.2) L M)) rfl ?_
  rw [qinv_eq [0, 1, 56, 57, 58, 59, 60] rfB]
  show QG X 4 _ _ 213 _ [.int c1.1] _ ad _ _
  refine QG.aload_n hX (qd K_L_law1 31 rfl) rfl rfl ?_
  refine QG.aload_ns hX (qd K_L_law1 32 rfl) rfl rfl ?_
  refine QG.iload_n hX (qd K_L_law1 33 rfl) rfl rfl ?_
  refine QG.iconst hX (qd K_L_law1 34 rfl) rfl ki_1 ?_
  refine QG.iadd hX (qd K_L_law1 35 rfl) rfl ?_
  refine QG.scld hX hs0 hsl hsA hsb (qd K_L_law1 36 rfl) rfl hi1 hv1 ?_
  refine QG.aload_ns hX (qd K_L_law1 37 rfl) rfl rfl ?_
  refine QG.iload_n hX (qd K_L_law1 38 rfl) rfl rfl ?_
  refine QG.iconst hX (qd K_L_law1 39 rfl) rfl ki_2 ?_
  refine QG.iadd hX (qd K_L_law2 0 rfl) rfl ?_
  refine QG.scld hX hs0 hsl hsA hsb (qd K_L_law2 1 rfl) rfl hi2 hv2 ?_
  refine QG.callVk (rest := [.int c1.1]) [104, 105, 106, 107, 108, 109, 110, 111, 112, 113, 114, 115, 116, 117, 118, 119, 120, 121, 122, 123, 124, 125, 126, 127, 128, 129, 130, 131, 132, 133, 134, 135, 136, 137] hz2 hX cw_L_22 (M_X8_gone X.l (V 104 0) (A 105) (A 106) (A 107) (A 108) (A 109) (A 110) (A 111) (A 112) (V 104 9) (V 104 10) (A 113) (A 114) (A 115) (A 116) M (A 118) (A 119) (A 120) (A 121) (A 122) (A 123) (A 124) (A 125) (A 126) (A 127) (A 128) (V 104 27) (V 104 28) (A 129) (V 104 30) (V 104 31) (V 104 32) (V 104 33) (V 104 34) (V 104 35) (V 104 36) (A 130) (A 131) (A 132) (A 133) (A 134) (A 135) (V 104 43) (V 104 44) (V 104 45) (V 104 46) (A 136) (A 137) v1 v2) trivial (by decide) (by decide) (qd K_L_law2 2 rfl) rfl hcs rfl rfl rfl rfl (Nat.le_of_ble_eq_true rfl) rfl rfl (Nat.le_of_ble_eq_true rfl) rfl ?_
  refine QG.eqW (Wd' := (wLx rfB kfB (va_rf z) (va_rf tx) (va_up (va_up (va_up (va_up (va_up (va_up (va_up A 57 c1.2.1) 58 c1.2.2.1) 59 c1.2.2.2.1) 105 c2.2.2.1) 106 c2.2.2.2.1) 107 c2.2.2.2.2.1) 108 c2.2.2.2.2.2) (va_up2 (va_up2 V 56 4 c1.2.2.2.2.1) 104 0 c2.2.1) (va_up B 56 c1.2.2.2.2.2) L M)) rfl ?_
  show QG X 4 _ _ 227 _ [.int c2.1, .int c1.1] _ ad _ _
  exact QG.ifT (by rw [he]) (QG.icmp_eq (tgt := 1048) (oF := none) hX (qd K_L_law2 3 rfl) rfl (by decide) K QG.nothing)

set_option maxRecDepth 100000 in
set_option maxHeartbeats 4000000 in
theorem C_gone_3 {X : QX} (hX : qok X code RL 4 (some .boolean) 1000) {Q : Unit → State → Prop} {b LL : Nat} {xs : Nat → Int32} (hs0 : va_X b LL xs X.s X.s.heap) (hsl : b < X.s.heap.size) (hsA : ¬ X.A b) (hsb : X.sA 100 = b) {ad : Nat → Nat} {cells slots : Nat} (hcs : cells ≤ X.R.cells ∧ slots ≤ X.R.slots) {A V : Nat → Nat → Int32} {B : Nat → Bool} {L M : Nat → Int64} {z tx : Option Nat} {x3 : Int32} {v1 : Int32} {v2 : Int32} (hi1 : vp_in (x3 + 1) LL) (hv1 : xs (x3 + 1).toNatClampNeg = v1) (hi2 : vp_in (x3 + 2) LL) (hv2 : xs (x3 + 2).toNatClampNeg = v2) (hr0 : ¬ v1 < 0) (hr1 : ¬ 6 ≤ v1) (hj : v1.toNatClampNeg = 3) {c1 : Int32 × (Nat → Int32) × (Nat → Int32) × (Nat → Int32) × Int32 × Bool} {c2 : Int32 × Int32 × (Nat → Int32) × (Nat → Int32) × (Nat → Int32) × (Nat → Int32)} (hz1 : F_X7_gone_ok (A 62) (A 63) (A 64) (V 61 4) (B 61) v1 v2 = some c1) (hz2 : F_X8_gone (V 104 0) (A 105) (A 106) (A 107) (A 108) v1 v2 = some c2) (he : c1.1 = c2.1)
    (K : QG X 4 Q (some ()) 1048 [(0, .float (UInt32.ofNat 100)), (1, .ref 0), (2, .ref 104), (3, .int x3)] [] (wLx rfB kfB (va_rf z) (va_rf tx) (va_up (va_up (va_up (va_up (va_up (va_up (va_up A 62 c1.2.1) 63 c1.2.2.1) 64 c1.2.2.2.1) 105 c2.2.2.1) 106 c2.2.2.2.1) 107 c2.2.2.2.2.1) 108 c2.2.2.2.2.2) (va_up2 (va_up2 V 61 4 c1.2.2.2.2.1) 104 0 c2.2.1) (va_up B 61 c1.2.2.2.2.2) L M) ad cells slots) : QG X 4 Q (some ()) 199 [(0, .float (UInt32.ofNat 100)), (1, .ref 0), (2, .ref 104), (3, .int x3)] [] (wLx rfB kfB (va_rf z) (va_rf tx) A V B L M) ad cells slots := by
  refine QG.aload_n hX (qd K_L_law1 19 rfl) rfl rfl ?_
  refine QG.aload_ns hX (qd K_L_law1 20 rfl) rfl rfl ?_
  refine QG.iload_n hX (qd K_L_law1 21 rfl) rfl rfl ?_
  refine QG.iconst hX (qd K_L_law1 22 rfl) rfl ki_1 ?_
  refine QG.iadd hX (qd K_L_law1 23 rfl) rfl ?_
  refine QG.scld hX hs0 hsl hsA hsb (qd K_L_law1 24 rfl) rfl hi1 hv1 ?_
  refine QG.aload_ns hX (qd K_L_law1 25 rfl) rfl rfl ?_
  refine QG.iload_n hX (qd K_L_law1 26 rfl) rfl rfl ?_
  refine QG.iconst hX (qd K_L_law1 27 rfl) rfl ki_2 ?_
  refine QG.iadd hX (qd K_L_law1 28 rfl) rfl ?_
  refine QG.scld hX hs0 hsl hsA hsb (qd K_L_law1 29 rfl) rfl hi2 hv2 ?_
  refine QG.callVk (rest := []) [0, 1, 61, 62, 63, 64, 65] hz1 hX cw_L_18 (M_X7_gone_ok X.l (fun j => Option.map (qinv [0, 1, 61, 62, 63, 64, 65]) (rfB j)) (A 62) (A 63) (A 64) (A 65) (V 61 4) (B 61) v1 v2 hr0 hr1 (by show Option.map _ (rfB v1.toNatClampNeg) = _; rw [hj]; rfl)) trivial (by decide) (by decide) (qd K_L_law1 30 rfl) rfl hcs rfl rfl rfl rfl (Nat.le_of_ble_eq_true rfl) (Eq.trans (congrArg (fun f => List.map (fun i => (wLx f kfB (va_rf z) (va_rf tx) A V B L M)[i]?) [0, 1, 61, 62, 63, 64, 65]) (qinv_eq [0, 1, 61, 62, 63, 64, 65] rfB).symm) rfl) rfl (Nat.le_of_ble_eq_true rfl) rfl ?_
  refine QG.eqW (Wd' := (wLx (fun j => Option.map (qf [0, 1, 61, 62, 63, 64, 65]) (Option.map (qinv [0, 1, 61, 62, 63, 64, 65]) (rfB j))) kfB (va_rf z) (va_rf tx) (va_up (va_up (va_up A 62 c1.2.1) 63 c1.2.2.1) 64 c1.2.2.2.1) (va_up2 V 61 4 c1.2.2.2.2.1) (va_up B 61 c1.2.2.2.2.2) L M)) rfl ?_
  rw [qinv_eq [0, 1, 61, 62, 63, 64, 65] rfB]
  show QG X 4 _ _ 213 _ [.int c1.1] _ ad _ _
  refine QG.aload_n hX (qd K_L_law1 31 rfl) rfl rfl ?_
  refine QG.aload_ns hX (qd K_L_law1 32 rfl) rfl rfl ?_
  refine QG.iload_n hX (qd K_L_law1 33 rfl) rfl rfl ?_
  refine QG.iconst hX (qd K_L_law1 34 rfl) rfl ki_1 ?_
  refine QG.iadd hX (qd K_L_law1 35 rfl) rfl ?_
  refine QG.scld hX hs0 hsl hsA hsb (qd K_L_law1 36 rfl) rfl hi1 hv1 ?_
  refine QG.aload_ns hX (qd K_L_law1 37 rfl) rfl rfl ?_
  refine QG.iload_n hX (qd K_L_law1 38 rfl) rfl rfl ?_
  refine QG.iconst hX (qd K_L_law1 39 rfl) rfl ki_2 ?_
  refine QG.iadd hX (qd K_L_law2 0 rfl) rfl ?_
  refine QG.scld hX hs0 hsl hsA hsb (qd K_L_law2 1 rfl) rfl hi2 hv2 ?_
  refine QG.callVk (rest := [.int c1.1]) [104, 105, 106, 107, 108, 109, 110, 111, 112, 113, 114, 115, 116, 117, 118, 119, 120, 121, 122, 123, 124, 125, 126, 127, 128, 129, 130, 131, 132, 133, 134, 135, 136, 137] hz2 hX cw_L_22 (M_X8_gone X.l (V 104 0) (A 105) (A 106) (A 107) (A 108) (A 109) (A 110) (A 111) (A 112) (V 104 9) (V 104 10) (A 113) (A 114) (A 115) (A 116) M (A 118) (A 119) (A 120) (A 121) (A 122) (A 123) (A 124) (A 125) (A 126) (A 127) (A 128) (V 104 27) (V 104 28) (A 129) (V 104 30) (V 104 31) (V 104 32) (V 104 33) (V 104 34) (V 104 35) (V 104 36) (A 130) (A 131) (A 132) (A 133) (A 134) (A 135) (V 104 43) (V 104 44) (V 104 45) (V 104 46) (A 136) (A 137) v1 v2) trivial (by decide) (by decide) (qd K_L_law2 2 rfl) rfl hcs rfl rfl rfl rfl (Nat.le_of_ble_eq_true rfl) rfl rfl (Nat.le_of_ble_eq_true rfl) rfl ?_
  refine QG.eqW (Wd' := (wLx rfB kfB (va_rf z) (va_rf tx) (va_up (va_up (va_up (va_up (va_up (va_up (va_up A 62 c1.2.1) 63 c1.2.2.1) 64 c1.2.2.2.1) 105 c2.2.2.1) 106 c2.2.2.2.1) 107 c2.2.2.2.2.1) 108 c2.2.2.2.2.2) (va_up2 (va_up2 V 61 4 c1.2.2.2.2.1) 104 0 c2.2.1) (va_up B 61 c1.2.2.2.2.2) L M)) rfl ?_
  show QG X 4 _ _ 227 _ [.int c2.1, .int c1.1] _ ad _ _
  exact QG.ifT (by rw [he]) (QG.icmp_eq (tgt := 1048) (oF := none) hX (qd K_L_law2 3 rfl) rfl (by decide) K QG.nothing)

set_option maxRecDepth 100000 in
set_option maxHeartbeats 4000000 in
theorem C_gone_4 {X : QX} (hX : qok X code RL 4 (some .boolean) 1000) {Q : Unit → State → Prop} {b LL : Nat} {xs : Nat → Int32} (hs0 : va_X b LL xs X.s X.s.heap) (hsl : b < X.s.heap.size) (hsA : ¬ X.A b) (hsb : X.sA 100 = b) {ad : Nat → Nat} {cells slots : Nat} (hcs : cells ≤ X.R.cells ∧ slots ≤ X.R.slots) {A V : Nat → Nat → Int32} {B : Nat → Bool} {L M : Nat → Int64} {z tx : Option Nat} {x3 : Int32} {v1 : Int32} {v2 : Int32} (hi1 : vp_in (x3 + 1) LL) (hv1 : xs (x3 + 1).toNatClampNeg = v1) (hi2 : vp_in (x3 + 2) LL) (hv2 : xs (x3 + 2).toNatClampNeg = v2) (hr0 : ¬ v1 < 0) (hr1 : ¬ 6 ≤ v1) (hj : v1.toNatClampNeg = 4) {c1 : Int32 × (Nat → Int32) × (Nat → Int32) × (Nat → Int32) × Int32 × Bool} {c2 : Int32 × Int32 × (Nat → Int32) × (Nat → Int32) × (Nat → Int32) × (Nat → Int32)} (hz1 : F_X7_gone_ok (A 67) (A 68) (A 69) (V 66 4) (B 66) v1 v2 = some c1) (hz2 : F_X8_gone (V 104 0) (A 105) (A 106) (A 107) (A 108) v1 v2 = some c2) (he : c1.1 = c2.1)
    (K : QG X 4 Q (some ()) 1048 [(0, .float (UInt32.ofNat 100)), (1, .ref 0), (2, .ref 104), (3, .int x3)] [] (wLx rfB kfB (va_rf z) (va_rf tx) (va_up (va_up (va_up (va_up (va_up (va_up (va_up A 67 c1.2.1) 68 c1.2.2.1) 69 c1.2.2.2.1) 105 c2.2.2.1) 106 c2.2.2.2.1) 107 c2.2.2.2.2.1) 108 c2.2.2.2.2.2) (va_up2 (va_up2 V 66 4 c1.2.2.2.2.1) 104 0 c2.2.1) (va_up B 66 c1.2.2.2.2.2) L M) ad cells slots) : QG X 4 Q (some ()) 199 [(0, .float (UInt32.ofNat 100)), (1, .ref 0), (2, .ref 104), (3, .int x3)] [] (wLx rfB kfB (va_rf z) (va_rf tx) A V B L M) ad cells slots := by
  refine QG.aload_n hX (qd K_L_law1 19 rfl) rfl rfl ?_
  refine QG.aload_ns hX (qd K_L_law1 20 rfl) rfl rfl ?_
  refine QG.iload_n hX (qd K_L_law1 21 rfl) rfl rfl ?_
  refine QG.iconst hX (qd K_L_law1 22 rfl) rfl ki_1 ?_
  refine QG.iadd hX (qd K_L_law1 23 rfl) rfl ?_
  refine QG.scld hX hs0 hsl hsA hsb (qd K_L_law1 24 rfl) rfl hi1 hv1 ?_
  refine QG.aload_ns hX (qd K_L_law1 25 rfl) rfl rfl ?_
  refine QG.iload_n hX (qd K_L_law1 26 rfl) rfl rfl ?_
  refine QG.iconst hX (qd K_L_law1 27 rfl) rfl ki_2 ?_
  refine QG.iadd hX (qd K_L_law1 28 rfl) rfl ?_
  refine QG.scld hX hs0 hsl hsA hsb (qd K_L_law1 29 rfl) rfl hi2 hv2 ?_
  refine QG.callVk (rest := []) [0, 1, 66, 67, 68, 69, 70] hz1 hX cw_L_18 (M_X7_gone_ok X.l (fun j => Option.map (qinv [0, 1, 66, 67, 68, 69, 70]) (rfB j)) (A 67) (A 68) (A 69) (A 70) (V 66 4) (B 66) v1 v2 hr0 hr1 (by show Option.map _ (rfB v1.toNatClampNeg) = _; rw [hj]; rfl)) trivial (by decide) (by decide) (qd K_L_law1 30 rfl) rfl hcs rfl rfl rfl rfl (Nat.le_of_ble_eq_true rfl) (Eq.trans (congrArg (fun f => List.map (fun i => (wLx f kfB (va_rf z) (va_rf tx) A V B L M)[i]?) [0, 1, 66, 67, 68, 69, 70]) (qinv_eq [0, 1, 66, 67, 68, 69, 70] rfB).symm) rfl) rfl (Nat.le_of_ble_eq_true rfl) rfl ?_
  refine QG.eqW (Wd' := (wLx (fun j => Option.map (qf [0, 1, 66, 67, 68, 69, 70]) (Option.map (qinv [0, 1, 66, 67, 68, 69, 70]) (rfB j))) kfB (va_rf z) (va_rf tx) (va_up (va_up (va_up A 67 c1.2.1) 68 c1.2.2.1) 69 c1.2.2.2.1) (va_up2 V 66 4 c1.2.2.2.2.1) (va_up B 66 c1.2.2.2.2.2) L M)) rfl ?_
  rw [qinv_eq [0, 1, 66, 67, 68, 69, 70] rfB]
  show QG X 4 _ _ 213 _ [.int c1.1] _ ad _ _
  refine QG.aload_n hX (qd K_L_law1 31 rfl) rfl rfl ?_
  refine QG.aload_ns hX (qd K_L_law1 32 rfl) rfl rfl ?_
  refine QG.iload_n hX (qd K_L_law1 33 rfl) rfl rfl ?_
  refine QG.iconst hX (qd K_L_law1 34 rfl) rfl ki_1 ?_
  refine QG.iadd hX (qd K_L_law1 35 rfl) rfl ?_
  refine QG.scld hX hs0 hsl hsA hsb (qd K_L_law1 36 rfl) rfl hi1 hv1 ?_
  refine QG.aload_ns hX (qd K_L_law1 37 rfl) rfl rfl ?_
  refine QG.iload_n hX (qd K_L_law1 38 rfl) rfl rfl ?_
  refine QG.iconst hX (qd K_L_law1 39 rfl) rfl ki_2 ?_
  refine QG.iadd hX (qd K_L_law2 0 rfl) rfl ?_
  refine QG.scld hX hs0 hsl hsA hsb (qd K_L_law2 1 rfl) rfl hi2 hv2 ?_
  refine QG.callVk (rest := [.int c1.1]) [104, 105, 106, 107, 108, 109, 110, 111, 112, 113, 114, 115, 116, 117, 118, 119, 120, 121, 122, 123, 124, 125, 126, 127, 128, 129, 130, 131, 132, 133, 134, 135, 136, 137] hz2 hX cw_L_22 (M_X8_gone X.l (V 104 0) (A 105) (A 106) (A 107) (A 108) (A 109) (A 110) (A 111) (A 112) (V 104 9) (V 104 10) (A 113) (A 114) (A 115) (A 116) M (A 118) (A 119) (A 120) (A 121) (A 122) (A 123) (A 124) (A 125) (A 126) (A 127) (A 128) (V 104 27) (V 104 28) (A 129) (V 104 30) (V 104 31) (V 104 32) (V 104 33) (V 104 34) (V 104 35) (V 104 36) (A 130) (A 131) (A 132) (A 133) (A 134) (A 135) (V 104 43) (V 104 44) (V 104 45) (V 104 46) (A 136) (A 137) v1 v2) trivial (by decide) (by decide) (qd K_L_law2 2 rfl) rfl hcs rfl rfl rfl rfl (Nat.le_of_ble_eq_true rfl) rfl rfl (Nat.le_of_ble_eq_true rfl) rfl ?_
  refine QG.eqW (Wd' := (wLx rfB kfB (va_rf z) (va_rf tx) (va_up (va_up (va_up (va_up (va_up (va_up (va_up A 67 c1.2.1) 68 c1.2.2.1) 69 c1.2.2.2.1) 105 c2.2.2.1) 106 c2.2.2.2.1) 107 c2.2.2.2.2.1) 108 c2.2.2.2.2.2) (va_up2 (va_up2 V 66 4 c1.2.2.2.2.1) 104 0 c2.2.1) (va_up B 66 c1.2.2.2.2.2) L M)) rfl ?_
  show QG X 4 _ _ 227 _ [.int c2.1, .int c1.1] _ ad _ _
  exact QG.ifT (by rw [he]) (QG.icmp_eq (tgt := 1048) (oF := none) hX (qd K_L_law2 3 rfl) rfl (by decide) K QG.nothing)

set_option maxRecDepth 100000 in
set_option maxHeartbeats 4000000 in
theorem C_gone_5 {X : QX} (hX : qok X code RL 4 (some .boolean) 1000) {Q : Unit → State → Prop} {b LL : Nat} {xs : Nat → Int32} (hs0 : va_X b LL xs X.s X.s.heap) (hsl : b < X.s.heap.size) (hsA : ¬ X.A b) (hsb : X.sA 100 = b) {ad : Nat → Nat} {cells slots : Nat} (hcs : cells ≤ X.R.cells ∧ slots ≤ X.R.slots) {A V : Nat → Nat → Int32} {B : Nat → Bool} {L M : Nat → Int64} {z tx : Option Nat} {x3 : Int32} {v1 : Int32} {v2 : Int32} (hi1 : vp_in (x3 + 1) LL) (hv1 : xs (x3 + 1).toNatClampNeg = v1) (hi2 : vp_in (x3 + 2) LL) (hv2 : xs (x3 + 2).toNatClampNeg = v2) (hr0 : ¬ v1 < 0) (hr1 : ¬ 6 ≤ v1) (hj : v1.toNatClampNeg = 5) {c1 : Int32 × (Nat → Int32) × (Nat → Int32) × (Nat → Int32) × Int32 × Bool} {c2 : Int32 × Int32 × (Nat → Int32) × (Nat → Int32) × (Nat → Int32) × (Nat → Int32)} (hz1 : F_X7_gone_ok (A 72) (A 73) (A 74) (V 71 4) (B 71) v1 v2 = some c1) (hz2 : F_X8_gone (V 104 0) (A 105) (A 106) (A 107) (A 108) v1 v2 = some c2) (he : c1.1 = c2.1)
    (K : QG X 4 Q (some ()) 1048 [(0, .float (UInt32.ofNat 100)), (1, .ref 0), (2, .ref 104), (3, .int x3)] [] (wLx rfB kfB (va_rf z) (va_rf tx) (va_up (va_up (va_up (va_up (va_up (va_up (va_up A 72 c1.2.1) 73 c1.2.2.1) 74 c1.2.2.2.1) 105 c2.2.2.1) 106 c2.2.2.2.1) 107 c2.2.2.2.2.1) 108 c2.2.2.2.2.2) (va_up2 (va_up2 V 71 4 c1.2.2.2.2.1) 104 0 c2.2.1) (va_up B 71 c1.2.2.2.2.2) L M) ad cells slots) : QG X 4 Q (some ()) 199 [(0, .float (UInt32.ofNat 100)), (1, .ref 0), (2, .ref 104), (3, .int x3)] [] (wLx rfB kfB (va_rf z) (va_rf tx) A V B L M) ad cells slots := by
  refine QG.aload_n hX (qd K_L_law1 19 rfl) rfl rfl ?_
  refine QG.aload_ns hX (qd K_L_law1 20 rfl) rfl rfl ?_
  refine QG.iload_n hX (qd K_L_law1 21 rfl) rfl rfl ?_
  refine QG.iconst hX (qd K_L_law1 22 rfl) rfl ki_1 ?_
  refine QG.iadd hX (qd K_L_law1 23 rfl) rfl ?_
  refine QG.scld hX hs0 hsl hsA hsb (qd K_L_law1 24 rfl) rfl hi1 hv1 ?_
  refine QG.aload_ns hX (qd K_L_law1 25 rfl) rfl rfl ?_
  refine QG.iload_n hX (qd K_L_law1 26 rfl) rfl rfl ?_
  refine QG.iconst hX (qd K_L_law1 27 rfl) rfl ki_2 ?_
  refine QG.iadd hX (qd K_L_law1 28 rfl) rfl ?_
  refine QG.scld hX hs0 hsl hsA hsb (qd K_L_law1 29 rfl) rfl hi2 hv2 ?_
  refine QG.callVk (rest := []) [0, 1, 71, 72, 73, 74, 75] hz1 hX cw_L_18 (M_X7_gone_ok X.l (fun j => Option.map (qinv [0, 1, 71, 72, 73, 74, 75]) (rfB j)) (A 72) (A 73) (A 74) (A 75) (V 71 4) (B 71) v1 v2 hr0 hr1 (by show Option.map _ (rfB v1.toNatClampNeg) = _; rw [hj]; rfl)) trivial (by decide) (by decide) (qd K_L_law1 30 rfl) rfl hcs rfl rfl rfl rfl (Nat.le_of_ble_eq_true rfl) (Eq.trans (congrArg (fun f => List.map (fun i => (wLx f kfB (va_rf z) (va_rf tx) A V B L M)[i]?) [0, 1, 71, 72, 73, 74, 75]) (qinv_eq [0, 1, 71, 72, 73, 74, 75] rfB).symm) rfl) rfl (Nat.le_of_ble_eq_true rfl) rfl ?_
  refine QG.eqW (Wd' := (wLx (fun j => Option.map (qf [0, 1, 71, 72, 73, 74, 75]) (Option.map (qinv [0, 1, 71, 72, 73, 74, 75]) (rfB j))) kfB (va_rf z) (va_rf tx) (va_up (va_up (va_up A 72 c1.2.1) 73 c1.2.2.1) 74 c1.2.2.2.1) (va_up2 V 71 4 c1.2.2.2.2.1) (va_up B 71 c1.2.2.2.2.2) L M)) rfl ?_
  rw [qinv_eq [0, 1, 71, 72, 73, 74, 75] rfB]
  show QG X 4 _ _ 213 _ [.int c1.1] _ ad _ _
  refine QG.aload_n hX (qd K_L_law1 31 rfl) rfl rfl ?_
  refine QG.aload_ns hX (qd K_L_law1 32 rfl) rfl rfl ?_
  refine QG.iload_n hX (qd K_L_law1 33 rfl) rfl rfl ?_
  refine QG.iconst hX (qd K_L_law1 34 rfl) rfl ki_1 ?_
  refine QG.iadd hX (qd K_L_law1 35 rfl) rfl ?_
  refine QG.scld hX hs0 hsl hsA hsb (qd K_L_law1 36 rfl) rfl hi1 hv1 ?_
  refine QG.aload_ns hX (qd K_L_law1 37 rfl) rfl rfl ?_
  refine QG.iload_n hX (qd K_L_law1 38 rfl) rfl rfl ?_
  refine QG.iconst hX (qd K_L_law1 39 rfl) rfl ki_2 ?_
  refine QG.iadd hX (qd K_L_law2 0 rfl) rfl ?_
  refine QG.scld hX hs0 hsl hsA hsb (qd K_L_law2 1 rfl) rfl hi2 hv2 ?_
  refine QG.callVk (rest := [.int c1.1]) [104, 105, 106, 107, 108, 109, 110, 111, 112, 113, 114, 115, 116, 117, 118, 119, 120, 121, 122, 123, 124, 125, 126, 127, 128, 129, 130, 131, 132, 133, 134, 135, 136, 137] hz2 hX cw_L_22 (M_X8_gone X.l (V 104 0) (A 105) (A 106) (A 107) (A 108) (A 109) (A 110) (A 111) (A 112) (V 104 9) (V 104 10) (A 113) (A 114) (A 115) (A 116) M (A 118) (A 119) (A 120) (A 121) (A 122) (A 123) (A 124) (A 125) (A 126) (A 127) (A 128) (V 104 27) (V 104 28) (A 129) (V 104 30) (V 104 31) (V 104 32) (V 104 33) (V 104 34) (V 104 35) (V 104 36) (A 130) (A 131) (A 132) (A 133) (A 134) (A 135) (V 104 43) (V 104 44) (V 104 45) (V 104 46) (A 136) (A 137) v1 v2) trivial (by decide) (by decide) (qd K_L_law2 2 rfl) rfl hcs rfl rfl rfl rfl (Nat.le_of_ble_eq_true rfl) rfl rfl (Nat.le_of_ble_eq_true rfl) rfl ?_
  refine QG.eqW (Wd' := (wLx rfB kfB (va_rf z) (va_rf tx) (va_up (va_up (va_up (va_up (va_up (va_up (va_up A 72 c1.2.1) 73 c1.2.2.1) 74 c1.2.2.2.1) 105 c2.2.2.1) 106 c2.2.2.2.1) 107 c2.2.2.2.2.1) 108 c2.2.2.2.2.2) (va_up2 (va_up2 V 71 4 c1.2.2.2.2.1) 104 0 c2.2.1) (va_up B 71 c1.2.2.2.2.2) L M)) rfl ?_
  show QG X 4 _ _ 227 _ [.int c2.1, .int c1.1] _ ad _ _
  exact QG.ifT (by rw [he]) (QG.icmp_eq (tgt := 1048) (oF := none) hX (qd K_L_law2 3 rfl) rfl (by decide) K QG.nothing)

set_option maxRecDepth 100000 in
set_option maxHeartbeats 4000000 in
theorem C_mark_no {X : QX} (hX : qok X code RL 4 (some .boolean) 1000) {Q : Unit → State → Prop} {b LL : Nat} {xs : Nat → Int32} (hs0 : va_X b LL xs X.s X.s.heap) (hsl : b < X.s.heap.size) (hsA : ¬ X.A b) (hsb : X.sA 100 = b) {ad : Nat → Nat} {cells slots : Nat} (hcs : cells ≤ X.R.cells ∧ slots ≤ X.R.slots) {A V : Nat → Nat → Int32} {B : Nat → Bool} {L M : Nat → Int64} {z tx : Option Nat} {x3 : Int32} {v1 : Int32} {v2 : Int32} {v3 : Int32} {v4 : Int32} (hi1 : vp_in (x3 + 1) LL) (hv1 : xs (x3 + 1).toNatClampNeg = v1) (hi2 : vp_in (x3 + 2) LL) (hv2 : xs (x3 + 2).toNatClampNeg = v2) (hi3 : vp_in (x3 + 3) LL) (hv3 : xs (x3 + 3).toNatClampNeg = v3) (hi4 : vp_in (x3 + 4) LL) (hv4 : xs (x3 + 4).toNatClampNeg = v4) (hr : v1 < 0 ∨ 6 ≤ v1) {c1 : Bool} {c2 : Bool × Int32 × (Nat → Int32)} (hz1 : F_X7_mark_no v1 v2 v3 v4 = some c1) (hz2 : F_X8_mark (V 104 0) (A 105) (A 107) (A 108) v1 v2 v3 v4 = some c2) (he : c1 = c2.1)
    (K : QG X 4 Q (some ()) 1048 [(0, .float (UInt32.ofNat 100)), (1, .ref 0), (2, .ref 104), (3, .int x3)] [] (wLx rfB kfB (va_rf z) (va_rf tx) (va_up A 108 c2.2.2) (va_up2 V 104 0 c2.2.1) B L M) ad cells slots) : QG X 4 Q (some ()) 232 [(0, .float (UInt32.ofNat 100)), (1, .ref 0), (2, .ref 104), (3, .int x3)] [] (wLx rfB kfB (va_rf z) (va_rf tx) A V B L M) ad cells slots := by
  refine QG.aload_n hX (qd K_L_law2 6 rfl) rfl rfl ?_
  refine QG.aload_ns hX (qd K_L_law2 7 rfl) rfl rfl ?_
  refine QG.iload_n hX (qd K_L_law2 8 rfl) rfl rfl ?_
  refine QG.iconst hX (qd K_L_law2 9 rfl) rfl ki_1 ?_
  refine QG.iadd hX (qd K_L_law2 10 rfl) rfl ?_
  refine QG.scld hX hs0 hsl hsA hsb (qd K_L_law2 11 rfl) rfl hi1 hv1 ?_
  refine QG.aload_ns hX (qd K_L_law2 12 rfl) rfl rfl ?_
  refine QG.iload_n hX (qd K_L_law2 13 rfl) rfl rfl ?_
  refine QG.iconst hX (qd K_L_law2 14 rfl) rfl ki_2 ?_
  refine QG.iadd hX (qd K_L_law2 15 rfl) rfl ?_
  refine QG.scld hX hs0 hsl hsA hsb (qd K_L_law2 16 rfl) rfl hi2 hv2 ?_
  refine QG.aload_ns hX (qd K_L_law2 17 rfl) rfl rfl ?_
  refine QG.iload_n hX (qd K_L_law2 18 rfl) rfl rfl ?_
  refine QG.iconst hX (qd K_L_law2 19 rfl) rfl ki_3 ?_
  refine QG.iadd hX (qd K_L_law2 20 rfl) rfl ?_
  refine QG.scld hX hs0 hsl hsA hsb (qd K_L_law2 21 rfl) rfl hi3 hv3 ?_
  refine QG.aload_ns hX (qd K_L_law2 22 rfl) rfl rfl ?_
  refine QG.iload_n hX (qd K_L_law2 23 rfl) rfl rfl ?_
  refine QG.iconst hX (qd K_L_law2 24 rfl) rfl ki_4 ?_
  refine QG.iadd hX (qd K_L_law2 25 rfl) rfl ?_
  refine QG.scld hX hs0 hsl hsA hsb (qd K_L_law2 26 rfl) rfl hi4 hv4 ?_
  refine QG.callVk (rest := []) [0, 1] hz1 hX cw_L_23 (M_X7_mark_no X.l (fun j => Option.map (qinv [0, 1]) (rfB j)) v1 v2 v3 v4 hr) trivial (by decide) (by decide) (qd K_L_law2 27 rfl) rfl hcs rfl rfl rfl rfl (Nat.le_of_ble_eq_true rfl) (Eq.trans (congrArg (fun f => List.map (fun i => (wLx f kfB (va_rf z) (va_rf tx) A V B L M)[i]?) [0, 1]) (qinv_eq [0, 1] rfB).symm) rfl) rfl (Nat.le_of_ble_eq_true rfl) rfl ?_
  refine QG.eqW (Wd' := (wLx (fun j => Option.map (qf [0, 1]) (Option.map (qinv [0, 1]) (rfB j))) kfB (va_rf z) (va_rf tx) A V B L M)) rfl ?_
  rw [qinv_eq [0, 1] rfB]
  show QG X 4 _ _ 256 _ [.int (qb c1)] _ ad _ _
  refine QG.aload_n hX (qd K_L_law2 28 rfl) rfl rfl ?_
  refine QG.aload_ns hX (qd K_L_law2 29 rfl) rfl rfl ?_
  refine QG.iload_n hX (qd K_L_law2 30 rfl) rfl rfl ?_
  refine QG.iconst hX (qd K_L_law2 31 rfl) rfl ki_1 ?_
  refine QG.iadd hX (qd K_L_law2 32 rfl) rfl ?_
  refine QG.scld hX hs0 hsl hsA hsb (qd K_L_law2 33 rfl) rfl hi1 hv1 ?_
  refine QG.aload_ns hX (qd K_L_law2 34 rfl) rfl rfl ?_
  refine QG.iload_n hX (qd K_L_law2 35 rfl) rfl rfl ?_
  refine QG.iconst hX (qd K_L_law2 36 rfl) rfl ki_2 ?_
  refine QG.iadd hX (qd K_L_law2 37 rfl) rfl ?_
  refine QG.scld hX hs0 hsl hsA hsb (qd K_L_law2 38 rfl) rfl hi2 hv2 ?_
  refine QG.aload_ns hX (qd K_L_law2 39 rfl) rfl rfl ?_
  refine QG.iload_n hX (qd K_L_law3 0 rfl) rfl rfl ?_
  refine QG.iconst hX (qd K_L_law3 1 rfl) rfl ki_3 ?_
  refine QG.iadd hX (qd K_L_law3 2 rfl) rfl ?_
  refine QG.scld hX hs0 hsl hsA hsb (qd K_L_law3 3 rfl) rfl hi3 hv3 ?_
  refine QG.aload_ns hX (qd K_L_law3 4 rfl) rfl rfl ?_
  refine QG.iload_n hX (qd K_L_law3 5 rfl) rfl rfl ?_
  refine QG.iconst hX (qd K_L_law3 6 rfl) rfl ki_4 ?_
  refine QG.iadd hX (qd K_L_law3 7 rfl) rfl ?_
  refine QG.scld hX hs0 hsl hsA hsb (qd K_L_law3 8 rfl) rfl hi4 hv4 ?_
  refine QG.callVk (rest := [.int (qb c1)]) [104, 105, 106, 107, 108, 109, 110, 111, 112, 113, 114, 115, 116, 117, 118, 119, 120, 121, 122, 123, 124, 125, 126, 127, 128, 129, 130, 131, 132, 133, 134, 135, 136, 137] hz2 hX cw_L_27 (M_X8_mark X.l (V 104 0) (A 105) (A 106) (A 107) (A 108) (A 109) (A 110) (A 111) (A 112) (V 104 9) (V 104 10) (A 113) (A 114) (A 115) (A 116) M (A 118) (A 119) (A 120) (A 121) (A 122) (A 123) (A 124) (A 125) (A 126) (A 127) (A 128) (V 104 27) (V 104 28) (A 129) (V 104 30) (V 104 31) (V 104 32) (V 104 33) (V 104 34) (V 104 35) (V 104 36) (A 130) (A 131) (A 132) (A 133) (A 134) (A 135) (V 104 43) (V 104 44) (V 104 45) (V 104 46) (A 136) (A 137) v1 v2 v3 v4) trivial (by decide) (by decide) (qd K_L_law3 9 rfl) rfl hcs rfl rfl rfl rfl (Nat.le_of_ble_eq_true rfl) rfl rfl (Nat.le_of_ble_eq_true rfl) rfl ?_
  refine QG.eqW (Wd' := (wLx rfB kfB (va_rf z) (va_rf tx) (va_up A 108 c2.2.2) (va_up2 V 104 0 c2.2.1) B L M)) rfl ?_
  show QG X 4 _ _ 280 _ [.int (qb c2.1), .int (qb c1)] _ ad _ _
  exact QG.ifT (by rw [he]) (QG.icmp_eq (tgt := 1048) (oF := none) hX (qd K_L_law3 10 rfl) rfl (by decide) K QG.nothing)

set_option maxRecDepth 100000 in
set_option maxHeartbeats 4000000 in
theorem C_mark_0 {X : QX} (hX : qok X code RL 4 (some .boolean) 1000) {Q : Unit → State → Prop} {b LL : Nat} {xs : Nat → Int32} (hs0 : va_X b LL xs X.s X.s.heap) (hsl : b < X.s.heap.size) (hsA : ¬ X.A b) (hsb : X.sA 100 = b) {ad : Nat → Nat} {cells slots : Nat} (hcs : cells ≤ X.R.cells ∧ slots ≤ X.R.slots) {A V : Nat → Nat → Int32} {B : Nat → Bool} {L M : Nat → Int64} {z tx : Option Nat} {x3 : Int32} {v1 : Int32} {v2 : Int32} {v3 : Int32} {v4 : Int32} (hi1 : vp_in (x3 + 1) LL) (hv1 : xs (x3 + 1).toNatClampNeg = v1) (hi2 : vp_in (x3 + 2) LL) (hv2 : xs (x3 + 2).toNatClampNeg = v2) (hi3 : vp_in (x3 + 3) LL) (hv3 : xs (x3 + 3).toNatClampNeg = v3) (hi4 : vp_in (x3 + 4) LL) (hv4 : xs (x3 + 4).toNatClampNeg = v4) (hr0 : ¬ v1 < 0) (hr1 : ¬ 6 ≤ v1) (hj : v1.toNatClampNeg = 0) {c1 : Bool × (Nat → Int32) × Bool} {c2 : Bool × Int32 × (Nat → Int32)} (hz1 : F_X7_mark_ok (A 48) (A 49) (V 46 4) (B 46) v1 v2 v3 v4 = some c1) (hz2 : F_X8_mark (V 104 0) (A 105) (A 107) (A 108) v1 v2 v3 v4 = some c2) (he : c1.1 = c2.1)
    (K : QG X 4 Q (some ()) 1048 [(0, .float (UInt32.ofNat 100)), (1, .ref 0), (2, .ref 104), (3, .int x3)] [] (wLx rfB kfB (va_rf z) (va_rf tx) (va_up (va_up A 49 c1.2.1) 108 c2.2.2) (va_up2 V 104 0 c2.2.1) (va_up B 46 c1.2.2) L M) ad cells slots) : QG X 4 Q (some ()) 232 [(0, .float (UInt32.ofNat 100)), (1, .ref 0), (2, .ref 104), (3, .int x3)] [] (wLx rfB kfB (va_rf z) (va_rf tx) A V B L M) ad cells slots := by
  refine QG.aload_n hX (qd K_L_law2 6 rfl) rfl rfl ?_
  refine QG.aload_ns hX (qd K_L_law2 7 rfl) rfl rfl ?_
  refine QG.iload_n hX (qd K_L_law2 8 rfl) rfl rfl ?_
  refine QG.iconst hX (qd K_L_law2 9 rfl) rfl ki_1 ?_
  refine QG.iadd hX (qd K_L_law2 10 rfl) rfl ?_
  refine QG.scld hX hs0 hsl hsA hsb (qd K_L_law2 11 rfl) rfl hi1 hv1 ?_
  refine QG.aload_ns hX (qd K_L_law2 12 rfl) rfl rfl ?_
  refine QG.iload_n hX (qd K_L_law2 13 rfl) rfl rfl ?_
  refine QG.iconst hX (qd K_L_law2 14 rfl) rfl ki_2 ?_
  refine QG.iadd hX (qd K_L_law2 15 rfl) rfl ?_
  refine QG.scld hX hs0 hsl hsA hsb (qd K_L_law2 16 rfl) rfl hi2 hv2 ?_
  refine QG.aload_ns hX (qd K_L_law2 17 rfl) rfl rfl ?_
  refine QG.iload_n hX (qd K_L_law2 18 rfl) rfl rfl ?_
  refine QG.iconst hX (qd K_L_law2 19 rfl) rfl ki_3 ?_
  refine QG.iadd hX (qd K_L_law2 20 rfl) rfl ?_
  refine QG.scld hX hs0 hsl hsA hsb (qd K_L_law2 21 rfl) rfl hi3 hv3 ?_
  refine QG.aload_ns hX (qd K_L_law2 22 rfl) rfl rfl ?_
  refine QG.iload_n hX (qd K_L_law2 23 rfl) rfl rfl ?_
  refine QG.iconst hX (qd K_L_law2 24 rfl) rfl ki_4 ?_
  refine QG.iadd hX (qd K_L_law2 25 rfl) rfl ?_
  refine QG.scld hX hs0 hsl hsA hsb (qd K_L_law2 26 rfl) rfl hi4 hv4 ?_
  refine QG.callVk (rest := []) [0, 1, 46, 47, 48, 49, 50] hz1 hX cw_L_23 (M_X7_mark_ok X.l (fun j => Option.map (qinv [0, 1, 46, 47, 48, 49, 50]) (rfB j)) (A 47) (A 48) (A 49) (A 50) (V 46 4) (B 46) v1 v2 v3 v4 hr0 hr1 (by show Option.map _ (rfB v1.toNatClampNeg) = _; rw [hj]; rfl)) trivial (by decide) (by decide) (qd K_L_law2 27 rfl) rfl hcs rfl rfl rfl rfl (Nat.le_of_ble_eq_true rfl) (Eq.trans (congrArg (fun f => List.map (fun i => (wLx f kfB (va_rf z) (va_rf tx) A V B L M)[i]?) [0, 1, 46, 47, 48, 49, 50]) (qinv_eq [0, 1, 46, 47, 48, 49, 50] rfB).symm) rfl) rfl (Nat.le_of_ble_eq_true rfl) rfl ?_
  refine QG.eqW (Wd' := (wLx (fun j => Option.map (qf [0, 1, 46, 47, 48, 49, 50]) (Option.map (qinv [0, 1, 46, 47, 48, 49, 50]) (rfB j))) kfB (va_rf z) (va_rf tx) (va_up A 49 c1.2.1) V (va_up B 46 c1.2.2) L M)) rfl ?_
  rw [qinv_eq [0, 1, 46, 47, 48, 49, 50] rfB]
  show QG X 4 _ _ 256 _ [.int (qb c1.1)] _ ad _ _
  refine QG.aload_n hX (qd K_L_law2 28 rfl) rfl rfl ?_
  refine QG.aload_ns hX (qd K_L_law2 29 rfl) rfl rfl ?_
  refine QG.iload_n hX (qd K_L_law2 30 rfl) rfl rfl ?_
  refine QG.iconst hX (qd K_L_law2 31 rfl) rfl ki_1 ?_
  refine QG.iadd hX (qd K_L_law2 32 rfl) rfl ?_
  refine QG.scld hX hs0 hsl hsA hsb (qd K_L_law2 33 rfl) rfl hi1 hv1 ?_
  refine QG.aload_ns hX (qd K_L_law2 34 rfl) rfl rfl ?_
  refine QG.iload_n hX (qd K_L_law2 35 rfl) rfl rfl ?_
  refine QG.iconst hX (qd K_L_law2 36 rfl) rfl ki_2 ?_
  refine QG.iadd hX (qd K_L_law2 37 rfl) rfl ?_
  refine QG.scld hX hs0 hsl hsA hsb (qd K_L_law2 38 rfl) rfl hi2 hv2 ?_
  refine QG.aload_ns hX (qd K_L_law2 39 rfl) rfl rfl ?_
  refine QG.iload_n hX (qd K_L_law3 0 rfl) rfl rfl ?_
  refine QG.iconst hX (qd K_L_law3 1 rfl) rfl ki_3 ?_
  refine QG.iadd hX (qd K_L_law3 2 rfl) rfl ?_
  refine QG.scld hX hs0 hsl hsA hsb (qd K_L_law3 3 rfl) rfl hi3 hv3 ?_
  refine QG.aload_ns hX (qd K_L_law3 4 rfl) rfl rfl ?_
  refine QG.iload_n hX (qd K_L_law3 5 rfl) rfl rfl ?_
  refine QG.iconst hX (qd K_L_law3 6 rfl) rfl ki_4 ?_
  refine QG.iadd hX (qd K_L_law3 7 rfl) rfl ?_
  refine QG.scld hX hs0 hsl hsA hsb (qd K_L_law3 8 rfl) rfl hi4 hv4 ?_
  refine QG.callVk (rest := [.int (qb c1.1)]) [104, 105, 106, 107, 108, 109, 110, 111, 112, 113, 114, 115, 116, 117, 118, 119, 120, 121, 122, 123, 124, 125, 126, 127, 128, 129, 130, 131, 132, 133, 134, 135, 136, 137] hz2 hX cw_L_27 (M_X8_mark X.l (V 104 0) (A 105) (A 106) (A 107) (A 108) (A 109) (A 110) (A 111) (A 112) (V 104 9) (V 104 10) (A 113) (A 114) (A 115) (A 116) M (A 118) (A 119) (A 120) (A 121) (A 122) (A 123) (A 124) (A 125) (A 126) (A 127) (A 128) (V 104 27) (V 104 28) (A 129) (V 104 30) (V 104 31) (V 104 32) (V 104 33) (V 104 34) (V 104 35) (V 104 36) (A 130) (A 131) (A 132) (A 133) (A 134) (A 135) (V 104 43) (V 104 44) (V 104 45) (V 104 46) (A 136) (A 137) v1 v2 v3 v4) trivial (by decide) (by decide) (qd K_L_law3 9 rfl) rfl hcs rfl rfl rfl rfl (Nat.le_of_ble_eq_true rfl) rfl rfl (Nat.le_of_ble_eq_true rfl) rfl ?_
  refine QG.eqW (Wd' := (wLx rfB kfB (va_rf z) (va_rf tx) (va_up (va_up A 49 c1.2.1) 108 c2.2.2) (va_up2 V 104 0 c2.2.1) (va_up B 46 c1.2.2) L M)) rfl ?_
  show QG X 4 _ _ 280 _ [.int (qb c2.1), .int (qb c1.1)] _ ad _ _
  exact QG.ifT (by rw [he]) (QG.icmp_eq (tgt := 1048) (oF := none) hX (qd K_L_law3 10 rfl) rfl (by decide) K QG.nothing)

set_option maxRecDepth 100000 in
set_option maxHeartbeats 4000000 in
theorem C_mark_1 {X : QX} (hX : qok X code RL 4 (some .boolean) 1000) {Q : Unit → State → Prop} {b LL : Nat} {xs : Nat → Int32} (hs0 : va_X b LL xs X.s X.s.heap) (hsl : b < X.s.heap.size) (hsA : ¬ X.A b) (hsb : X.sA 100 = b) {ad : Nat → Nat} {cells slots : Nat} (hcs : cells ≤ X.R.cells ∧ slots ≤ X.R.slots) {A V : Nat → Nat → Int32} {B : Nat → Bool} {L M : Nat → Int64} {z tx : Option Nat} {x3 : Int32} {v1 : Int32} {v2 : Int32} {v3 : Int32} {v4 : Int32} (hi1 : vp_in (x3 + 1) LL) (hv1 : xs (x3 + 1).toNatClampNeg = v1) (hi2 : vp_in (x3 + 2) LL) (hv2 : xs (x3 + 2).toNatClampNeg = v2) (hi3 : vp_in (x3 + 3) LL) (hv3 : xs (x3 + 3).toNatClampNeg = v3) (hi4 : vp_in (x3 + 4) LL) (hv4 : xs (x3 + 4).toNatClampNeg = v4) (hr0 : ¬ v1 < 0) (hr1 : ¬ 6 ≤ v1) (hj : v1.toNatClampNeg = 1) {c1 : Bool × (Nat → Int32) × Bool} {c2 : Bool × Int32 × (Nat → Int32)} (hz1 : F_X7_mark_ok (A 53) (A 54) (V 51 4) (B 51) v1 v2 v3 v4 = some c1) (hz2 : F_X8_mark (V 104 0) (A 105) (A 107) (A 108) v1 v2 v3 v4 = some c2) (he : c1.1 = c2.1)
    (K : QG X 4 Q (some ()) 1048 [(0, .float (UInt32.ofNat 100)), (1, .ref 0), (2, .ref 104), (3, .int x3)] [] (wLx rfB kfB (va_rf z) (va_rf tx) (va_up (va_up A 54 c1.2.1) 108 c2.2.2) (va_up2 V 104 0 c2.2.1) (va_up B 51 c1.2.2) L M) ad cells slots) : QG X 4 Q (some ()) 232 [(0, .float (UInt32.ofNat 100)), (1, .ref 0), (2, .ref 104), (3, .int x3)] [] (wLx rfB kfB (va_rf z) (va_rf tx) A V B L M) ad cells slots := by
  refine QG.aload_n hX (qd K_L_law2 6 rfl) rfl rfl ?_
  refine QG.aload_ns hX (qd K_L_law2 7 rfl) rfl rfl ?_
  refine QG.iload_n hX (qd K_L_law2 8 rfl) rfl rfl ?_
  refine QG.iconst hX (qd K_L_law2 9 rfl) rfl ki_1 ?_
  refine QG.iadd hX (qd K_L_law2 10 rfl) rfl ?_
  refine QG.scld hX hs0 hsl hsA hsb (qd K_L_law2 11 rfl) rfl hi1 hv1 ?_
  refine QG.aload_ns hX (qd K_L_law2 12 rfl) rfl rfl ?_
  refine QG.iload_n hX (qd K_L_law2 13 rfl) rfl rfl ?_
  refine QG.iconst hX (qd K_L_law2 14 rfl) rfl ki_2 ?_
  refine QG.iadd hX (qd K_L_law2 15 rfl) rfl ?_
  refine QG.scld hX hs0 hsl hsA hsb (qd K_L_law2 16 rfl) rfl hi2 hv2 ?_
  refine QG.aload_ns hX (qd K_L_law2 17 rfl) rfl rfl ?_
  refine QG.iload_n hX (qd K_L_law2 18 rfl) rfl rfl ?_
  refine QG.iconst hX (qd K_L_law2 19 rfl) rfl ki_3 ?_
  refine QG.iadd hX (qd K_L_law2 20 rfl) rfl ?_
  refine QG.scld hX hs0 hsl hsA hsb (qd K_L_law2 21 rfl) rfl hi3 hv3 ?_
  refine QG.aload_ns hX (qd K_L_law2 22 rfl) rfl rfl ?_
  refine QG.iload_n hX (qd K_L_law2 23 rfl) rfl rfl ?_
  refine QG.iconst hX (qd K_L_law2 24 rfl) rfl ki_4 ?_
  refine QG.iadd hX (qd K_L_law2 25 rfl) rfl ?_
  refine QG.scld hX hs0 hsl hsA hsb (qd K_L_law2 26 rfl) rfl hi4 hv4 ?_
  refine QG.callVk (rest := []) [0, 1, 51, 52, 53, 54, 55] hz1 hX cw_L_23 (M_X7_mark_ok X.l (fun j => Option.map (qinv [0, 1, 51, 52, 53, 54, 55]) (rfB j)) (A 52) (A 53) (A 54) (A 55) (V 51 4) (B 51) v1 v2 v3 v4 hr0 hr1 (by show Option.map _ (rfB v1.toNatClampNeg) = _; rw [hj]; rfl)) trivial (by decide) (by decide) (qd K_L_law2 27 rfl) rfl hcs rfl rfl rfl rfl (Nat.le_of_ble_eq_true rfl) (Eq.trans (congrArg (fun f => List.map (fun i => (wLx f kfB (va_rf z) (va_rf tx) A V B L M)[i]?) [0, 1, 51, 52, 53, 54, 55]) (qinv_eq [0, 1, 51, 52, 53, 54, 55] rfB).symm) rfl) rfl (Nat.le_of_ble_eq_true rfl) rfl ?_
  refine QG.eqW (Wd' := (wLx (fun j => Option.map (qf [0, 1, 51, 52, 53, 54, 55]) (Option.map (qinv [0, 1, 51, 52, 53, 54, 55]) (rfB j))) kfB (va_rf z) (va_rf tx) (va_up A 54 c1.2.1) V (va_up B 51 c1.2.2) L M)) rfl ?_
  rw [qinv_eq [0, 1, 51, 52, 53, 54, 55] rfB]
  show QG X 4 _ _ 256 _ [.int (qb c1.1)] _ ad _ _
  refine QG.aload_n hX (qd K_L_law2 28 rfl) rfl rfl ?_
  refine QG.aload_ns hX (qd K_L_law2 29 rfl) rfl rfl ?_
  refine QG.iload_n hX (qd K_L_law2 30 rfl) rfl rfl ?_
  refine QG.iconst hX (qd K_L_law2 31 rfl) rfl ki_1 ?_
  refine QG.iadd hX (qd K_L_law2 32 rfl) rfl ?_
  refine QG.scld hX hs0 hsl hsA hsb (qd K_L_law2 33 rfl) rfl hi1 hv1 ?_
  refine QG.aload_ns hX (qd K_L_law2 34 rfl) rfl rfl ?_
  refine QG.iload_n hX (qd K_L_law2 35 rfl) rfl rfl ?_
  refine QG.iconst hX (qd K_L_law2 36 rfl) rfl ki_2 ?_
  refine QG.iadd hX (qd K_L_law2 37 rfl) rfl ?_
  refine QG.scld hX hs0 hsl hsA hsb (qd K_L_law2 38 rfl) rfl hi2 hv2 ?_
  refine QG.aload_ns hX (qd K_L_law2 39 rfl) rfl rfl ?_
  refine QG.iload_n hX (qd K_L_law3 0 rfl) rfl rfl ?_
  refine QG.iconst hX (qd K_L_law3 1 rfl) rfl ki_3 ?_
  refine QG.iadd hX (qd K_L_law3 2 rfl) rfl ?_
  refine QG.scld hX hs0 hsl hsA hsb (qd K_L_law3 3 rfl) rfl hi3 hv3 ?_
  refine QG.aload_ns hX (qd K_L_law3 4 rfl) rfl rfl ?_
  refine QG.iload_n hX (qd K_L_law3 5 rfl) rfl rfl ?_
  refine QG.iconst hX (qd K_L_law3 6 rfl) rfl ki_4 ?_
  refine QG.iadd hX (qd K_L_law3 7 rfl) rfl ?_
  refine QG.scld hX hs0 hsl hsA hsb (qd K_L_law3 8 rfl) rfl hi4 hv4 ?_
  refine QG.callVk (rest := [.int (qb c1.1)]) [104, 105, 106, 107, 108, 109, 110, 111, 112, 113, 114, 115, 116, 117, 118, 119, 120, 121, 122, 123, 124, 125, 126, 127, 128, 129, 130, 131, 132, 133, 134, 135, 136, 137] hz2 hX cw_L_27 (M_X8_mark X.l (V 104 0) (A 105) (A 106) (A 107) (A 108) (A 109) (A 110) (A 111) (A 112) (V 104 9) (V 104 10) (A 113) (A 114) (A 115) (A 116) M (A 118) (A 119) (A 120) (A 121) (A 122) (A 123) (A 124) (A 125) (A 126) (A 127) (A 128) (V 104 27) (V 104 28) (A 129) (V 104 30) (V 104 31) (V 104 32) (V 104 33) (V 104 34) (V 104 35) (V 104 36) (A 130) (A 131) (A 132) (A 133) (A 134) (A 135) (V 104 43) (V 104 44) (V 104 45) (V 104 46) (A 136) (A 137) v1 v2 v3 v4) trivial (by decide) (by decide) (qd K_L_law3 9 rfl) rfl hcs rfl rfl rfl rfl (Nat.le_of_ble_eq_true rfl) rfl rfl (Nat.le_of_ble_eq_true rfl) rfl ?_
  refine QG.eqW (Wd' := (wLx rfB kfB (va_rf z) (va_rf tx) (va_up (va_up A 54 c1.2.1) 108 c2.2.2) (va_up2 V 104 0 c2.2.1) (va_up B 51 c1.2.2) L M)) rfl ?_
  show QG X 4 _ _ 280 _ [.int (qb c2.1), .int (qb c1.1)] _ ad _ _
  exact QG.ifT (by rw [he]) (QG.icmp_eq (tgt := 1048) (oF := none) hX (qd K_L_law3 10 rfl) rfl (by decide) K QG.nothing)

set_option maxRecDepth 100000 in
set_option maxHeartbeats 4000000 in
theorem C_mark_2 {X : QX} (hX : qok X code RL 4 (some .boolean) 1000) {Q : Unit → State → Prop} {b LL : Nat} {xs : Nat → Int32} (hs0 : va_X b LL xs X.s X.s.heap) (hsl : b < X.s.heap.size) (hsA : ¬ X.A b) (hsb : X.sA 100 = b) {ad : Nat → Nat} {cells slots : Nat} (hcs : cells ≤ X.R.cells ∧ slots ≤ X.R.slots) {A V : Nat → Nat → Int32} {B : Nat → Bool} {L M : Nat → Int64} {z tx : Option Nat} {x3 : Int32} {v1 : Int32} {v2 : Int32} {v3 : Int32} {v4 : Int32} (hi1 : vp_in (x3 + 1) LL) (hv1 : xs (x3 + 1).toNatClampNeg = v1) (hi2 : vp_in (x3 + 2) LL) (hv2 : xs (x3 + 2).toNatClampNeg = v2) (hi3 : vp_in (x3 + 3) LL) (hv3 : xs (x3 + 3).toNatClampNeg = v3) (hi4 : vp_in (x3 + 4) LL) (hv4 : xs (x3 + 4).toNatClampNeg = v4) (hr0 : ¬ v1 < 0) (hr1 : ¬ 6 ≤ v1) (hj : v1.toNatClampNeg = 2) {c1 : Bool × (Nat → Int32) × Bool} {c2 : Bool × Int32 × (Nat → Int32)} (hz1 : F_X7_mark_ok (A 58) (A 59) (V 56 4) (B 56) v1 v2 v3 v4 = some c1) (hz2 : F_X8_mark (V 104 0) (A 105) (A 107) (A 108) v1 v2 v3 v4 = some c2) (he : c1.1 = c2.1)
    (K : QG X 4 Q (some ()) 1048 [(0, .float (UInt32.ofNat 100)), (1, .ref 0), (2, .ref 104), (3, .int x3)] [] (wLx rfB kfB (va_rf z) (va_rf tx) (va_up (va_up A 59 c1.2.1) 108 c2.2.2) (va_up2 V 104 0 c2.2.1) (va_up B 56 c1.2.2) L M) ad cells slots) : QG X 4 Q (some ()) 232 [(0, .float (UInt32.ofNat 100)), (1, .ref 0), (2, .ref 104), (3, .int x3)] [] (wLx rfB kfB (va_rf z) (va_rf tx) A V B L M) ad cells slots := by
  refine QG.aload_n hX (qd K_L_law2 6 rfl) rfl rfl ?_
  refine QG.aload_ns hX (qd K_L_law2 7 rfl) rfl rfl ?_
  refine QG.iload_n hX (qd K_L_law2 8 rfl) rfl rfl ?_
  refine QG.iconst hX (qd K_L_law2 9 rfl) rfl ki_1 ?_
  refine QG.iadd hX (qd K_L_law2 10 rfl) rfl ?_
  refine QG.scld hX hs0 hsl hsA hsb (qd K_L_law2 11 rfl) rfl hi1 hv1 ?_
  refine QG.aload_ns hX (qd K_L_law2 12 rfl) rfl rfl ?_
  refine QG.iload_n hX (qd K_L_law2 13 rfl) rfl rfl ?_
  refine QG.iconst hX (qd K_L_law2 14 rfl) rfl ki_2 ?_
  refine QG.iadd hX (qd K_L_law2 15 rfl) rfl ?_
  refine QG.scld hX hs0 hsl hsA hsb (qd K_L_law2 16 rfl) rfl hi2 hv2 ?_
  refine QG.aload_ns hX (qd K_L_law2 17 rfl) rfl rfl ?_
  refine QG.iload_n hX (qd K_L_law2 18 rfl) rfl rfl ?_
  refine QG.iconst hX (qd K_L_law2 19 rfl) rfl ki_3 ?_
  refine QG.iadd hX (qd K_L_law2 20 rfl) rfl ?_
  refine QG.scld hX hs0 hsl hsA hsb (qd K_L_law2 21 rfl) rfl hi3 hv3 ?_
  refine QG.aload_ns hX (qd K_L_law2 22 rfl) rfl rfl ?_
  refine QG.iload_n hX (qd K_L_law2 23 rfl) rfl rfl ?_
  refine QG.iconst hX (qd K_L_law2 24 rfl) rfl ki_4 ?_
  refine QG.iadd hX (qd K_L_law2 25 rfl) rfl ?_
  refine QG.scld hX hs0 hsl hsA hsb (qd K_L_law2 26 rfl) rfl hi4 hv4 ?_
  refine QG.callVk (rest := []) [0, 1, 56, 57, 58, 59, 60] hz1 hX cw_L_23 (M_X7_mark_ok X.l (fun j => Option.map (qinv [0, 1, 56, 57, 58, 59, 60]) (rfB j)) (A 57) (A 58) (A 59) (A 60) (V 56 4) (B 56) v1 v2 v3 v4 hr0 hr1 (by show Option.map _ (rfB v1.toNatClampNeg) = _; rw [hj]; rfl)) trivial (by decide) (by decide) (qd K_L_law2 27 rfl) rfl hcs rfl rfl rfl rfl (Nat.le_of_ble_eq_true rfl) (Eq.trans (congrArg (fun f => List.map (fun i => (wLx f kfB (va_rf z) (va_rf tx) A V B L M)[i]?) [0, 1, 56, 57, 58, 59, 60]) (qinv_eq [0, 1, 56, 57, 58, 59, 60] rfB).symm) rfl) rfl (Nat.le_of_ble_eq_true rfl) rfl ?_
  refine QG.eqW (Wd' := (wLx (fun j => Option.map (qf [0, 1, 56, 57, 58, 59, 60]) (Option.map (qinv [0, 1, 56, 57, 58, 59, 60]) (rfB j))) kfB (va_rf z) (va_rf tx) (va_up A 59 c1.2.1) V (va_up B 56 c1.2.2) L M)) rfl ?_
  rw [qinv_eq [0, 1, 56, 57, 58, 59, 60] rfB]
  show QG X 4 _ _ 256 _ [.int (qb c1.1)] _ ad _ _
  refine QG.aload_n hX (qd K_L_law2 28 rfl) rfl rfl ?_
  refine QG.aload_ns hX (qd K_L_law2 29 rfl) rfl rfl ?_
  refine QG.iload_n hX (qd K_L_law2 30 rfl) rfl rfl ?_
  refine QG.iconst hX (qd K_L_law2 31 rfl) rfl ki_1 ?_
  refine QG.iadd hX (qd K_L_law2 32 rfl) rfl ?_
  refine QG.scld hX hs0 hsl hsA hsb (qd K_L_law2 33 rfl) rfl hi1 hv1 ?_
  refine QG.aload_ns hX (qd K_L_law2 34 rfl) rfl rfl ?_
  refine QG.iload_n hX (qd K_L_law2 35 rfl) rfl rfl ?_
  refine QG.iconst hX (qd K_L_law2 36 rfl) rfl ki_2 ?_
  refine QG.iadd hX (qd K_L_law2 37 rfl) rfl ?_
  refine QG.scld hX hs0 hsl hsA hsb (qd K_L_law2 38 rfl) rfl hi2 hv2 ?_
  refine QG.aload_ns hX (qd K_L_law2 39 rfl) rfl rfl ?_
  refine QG.iload_n hX (qd K_L_law3 0 rfl) rfl rfl ?_
  refine QG.iconst hX (qd K_L_law3 1 rfl) rfl ki_3 ?_
  refine QG.iadd hX (qd K_L_law3 2 rfl) rfl ?_
  refine QG.scld hX hs0 hsl hsA hsb (qd K_L_law3 3 rfl) rfl hi3 hv3 ?_
  refine QG.aload_ns hX (qd K_L_law3 4 rfl) rfl rfl ?_
  refine QG.iload_n hX (qd K_L_law3 5 rfl) rfl rfl ?_
  refine QG.iconst hX (qd K_L_law3 6 rfl) rfl ki_4 ?_
  refine QG.iadd hX (qd K_L_law3 7 rfl) rfl ?_
  refine QG.scld hX hs0 hsl hsA hsb (qd K_L_law3 8 rfl) rfl hi4 hv4 ?_
  refine QG.callVk (rest := [.int (qb c1.1)]) [104, 105, 106, 107, 108, 109, 110, 111, 112, 113, 114, 115, 116, 117, 118, 119, 120, 121, 122, 123, 124, 125, 126, 127, 128, 129, 130, 131, 132, 133, 134, 135, 136, 137] hz2 hX cw_L_27 (M_X8_mark X.l (V 104 0) (A 105) (A 106) (A 107) (A 108) (A 109) (A 110) (A 111) (A 112) (V 104 9) (V 104 10) (A 113) (A 114) (A 115) (A 116) M (A 118) (A 119) (A 120) (A 121) (A 122) (A 123) (A 124) (A 125) (A 126) (A 127) (A 128) (V 104 27) (V 104 28) (A 129) (V 104 30) (V 104 31) (V 104 32) (V 104 33) (V 104 34) (V 104 35) (V 104 36) (A 130) (A 131) (A 132) (A 133) (A 134) (A 135) (V 104 43) (V 104 44) (V 104 45) (V 104 46) (A 136) (A 137) v1 v2 v3 v4) trivial (by decide) (by decide) (qd K_L_law3 9 rfl) rfl hcs rfl rfl rfl rfl (Nat.le_of_ble_eq_true rfl) rfl rfl (Nat.le_of_ble_eq_true rfl) rfl ?_
  refine QG.eqW (Wd' := (wLx rfB kfB (va_rf z) (va_rf tx) (va_up (va_up A 59 c1.2.1) 108 c2.2.2) (va_up2 V 104 0 c2.2.1) (va_up B 56 c1.2.2) L M)) rfl ?_
  show QG X 4 _ _ 280 _ [.int (qb c2.1), .int (qb c1.1)] _ ad _ _
  exact QG.ifT (by rw [he]) (QG.icmp_eq (tgt := 1048) (oF := none) hX (qd K_L_law3 10 rfl) rfl (by decide) K QG.nothing)

set_option maxRecDepth 100000 in
set_option maxHeartbeats 4000000 in
theorem C_mark_3 {X : QX} (hX : qok X code RL 4 (some .boolean) 1000) {Q : Unit → State → Prop} {b LL : Nat} {xs : Nat → Int32} (hs0 : va_X b LL xs X.s X.s.heap) (hsl : b < X.s.heap.size) (hsA : ¬ X.A b) (hsb : X.sA 100 = b) {ad : Nat → Nat} {cells slots : Nat} (hcs : cells ≤ X.R.cells ∧ slots ≤ X.R.slots) {A V : Nat → Nat → Int32} {B : Nat → Bool} {L M : Nat → Int64} {z tx : Option Nat} {x3 : Int32} {v1 : Int32} {v2 : Int32} {v3 : Int32} {v4 : Int32} (hi1 : vp_in (x3 + 1) LL) (hv1 : xs (x3 + 1).toNatClampNeg = v1) (hi2 : vp_in (x3 + 2) LL) (hv2 : xs (x3 + 2).toNatClampNeg = v2) (hi3 : vp_in (x3 + 3) LL) (hv3 : xs (x3 + 3).toNatClampNeg = v3) (hi4 : vp_in (x3 + 4) LL) (hv4 : xs (x3 + 4).toNatClampNeg = v4) (hr0 : ¬ v1 < 0) (hr1 : ¬ 6 ≤ v1) (hj : v1.toNatClampNeg = 3) {c1 : Bool × (Nat → Int32) × Bool} {c2 : Bool × Int32 × (Nat → Int32)} (hz1 : F_X7_mark_ok (A 63) (A 64) (V 61 4) (B 61) v1 v2 v3 v4 = some c1) (hz2 : F_X8_mark (V 104 0) (A 105) (A 107) (A 108) v1 v2 v3 v4 = some c2) (he : c1.1 = c2.1)
    (K : QG X 4 Q (some ()) 1048 [(0, .float (UInt32.ofNat 100)), (1, .ref 0), (2, .ref 104), (3, .int x3)] [] (wLx rfB kfB (va_rf z) (va_rf tx) (va_up (va_up A 64 c1.2.1) 108 c2.2.2) (va_up2 V 104 0 c2.2.1) (va_up B 61 c1.2.2) L M) ad cells slots) : QG X 4 Q (some ()) 232 [(0, .float (UInt32.ofNat 100)), (1, .ref 0), (2, .ref 104), (3, .int x3)] [] (wLx rfB kfB (va_rf z) (va_rf tx) A V B L M) ad cells slots := by
  refine QG.aload_n hX (qd K_L_law2 6 rfl) rfl rfl ?_
  refine QG.aload_ns hX (qd K_L_law2 7 rfl) rfl rfl ?_
  refine QG.iload_n hX (qd K_L_law2 8 rfl) rfl rfl ?_
  refine QG.iconst hX (qd K_L_law2 9 rfl) rfl ki_1 ?_
  refine QG.iadd hX (qd K_L_law2 10 rfl) rfl ?_
  refine QG.scld hX hs0 hsl hsA hsb (qd K_L_law2 11 rfl) rfl hi1 hv1 ?_
  refine QG.aload_ns hX (qd K_L_law2 12 rfl) rfl rfl ?_
  refine QG.iload_n hX (qd K_L_law2 13 rfl) rfl rfl ?_
  refine QG.iconst hX (qd K_L_law2 14 rfl) rfl ki_2 ?_
  refine QG.iadd hX (qd K_L_law2 15 rfl) rfl ?_
  refine QG.scld hX hs0 hsl hsA hsb (qd K_L_law2 16 rfl) rfl hi2 hv2 ?_
  refine QG.aload_ns hX (qd K_L_law2 17 rfl) rfl rfl ?_
  refine QG.iload_n hX (qd K_L_law2 18 rfl) rfl rfl ?_
  refine QG.iconst hX (qd K_L_law2 19 rfl) rfl ki_3 ?_
  refine QG.iadd hX (qd K_L_law2 20 rfl) rfl ?_
  refine QG.scld hX hs0 hsl hsA hsb (qd K_L_law2 21 rfl) rfl hi3 hv3 ?_
  refine QG.aload_ns hX (qd K_L_law2 22 rfl) rfl rfl ?_
  refine QG.iload_n hX (qd K_L_law2 23 rfl) rfl rfl ?_
  refine QG.iconst hX (qd K_L_law2 24 rfl) rfl ki_4 ?_
  refine QG.iadd hX (qd K_L_law2 25 rfl) rfl ?_
  refine QG.scld hX hs0 hsl hsA hsb (qd K_L_law2 26 rfl) rfl hi4 hv4 ?_
  refine QG.callVk (rest := []) [0, 1, 61, 62, 63, 64, 65] hz1 hX cw_L_23 (M_X7_mark_ok X.l (fun j => Option.map (qinv [0, 1, 61, 62, 63, 64, 65]) (rfB j)) (A 62) (A 63) (A 64) (A 65) (V 61 4) (B 61) v1 v2 v3 v4 hr0 hr1 (by show Option.map _ (rfB v1.toNatClampNeg) = _; rw [hj]; rfl)) trivial (by decide) (by decide) (qd K_L_law2 27 rfl) rfl hcs rfl rfl rfl rfl (Nat.le_of_ble_eq_true rfl) (Eq.trans (congrArg (fun f => List.map (fun i => (wLx f kfB (va_rf z) (va_rf tx) A V B L M)[i]?) [0, 1, 61, 62, 63, 64, 65]) (qinv_eq [0, 1, 61, 62, 63, 64, 65] rfB).symm) rfl) rfl (Nat.le_of_ble_eq_true rfl) rfl ?_
  refine QG.eqW (Wd' := (wLx (fun j => Option.map (qf [0, 1, 61, 62, 63, 64, 65]) (Option.map (qinv [0, 1, 61, 62, 63, 64, 65]) (rfB j))) kfB (va_rf z) (va_rf tx) (va_up A 64 c1.2.1) V (va_up B 61 c1.2.2) L M)) rfl ?_
  rw [qinv_eq [0, 1, 61, 62, 63, 64, 65] rfB]
  show QG X 4 _ _ 256 _ [.int (qb c1.1)] _ ad _ _
  refine QG.aload_n hX (qd K_L_law2 28 rfl) rfl rfl ?_
  refine QG.aload_ns hX (qd K_L_law2 29 rfl) rfl rfl ?_
  refine QG.iload_n hX (qd K_L_law2 30 rfl) rfl rfl ?_
  refine QG.iconst hX (qd K_L_law2 31 rfl) rfl ki_1 ?_
  refine QG.iadd hX (qd K_L_law2 32 rfl) rfl ?_
  refine QG.scld hX hs0 hsl hsA hsb (qd K_L_law2 33 rfl) rfl hi1 hv1 ?_
  refine QG.aload_ns hX (qd K_L_law2 34 rfl) rfl rfl ?_
  refine QG.iload_n hX (qd K_L_law2 35 rfl) rfl rfl ?_
  refine QG.iconst hX (qd K_L_law2 36 rfl) rfl ki_2 ?_
  refine QG.iadd hX (qd K_L_law2 37 rfl) rfl ?_
  refine QG.scld hX hs0 hsl hsA hsb (qd K_L_law2 38 rfl) rfl hi2 hv2 ?_
  refine QG.aload_ns hX (qd K_L_law2 39 rfl) rfl rfl ?_
  refine QG.iload_n hX (qd K_L_law3 0 rfl) rfl rfl ?_
  refine QG.iconst hX (qd K_L_law3 1 rfl) rfl ki_3 ?_
  refine QG.iadd hX (qd K_L_law3 2 rfl) rfl ?_
  refine QG.scld hX hs0 hsl hsA hsb (qd K_L_law3 3 rfl) rfl hi3 hv3 ?_
  refine QG.aload_ns hX (qd K_L_law3 4 rfl) rfl rfl ?_
  refine QG.iload_n hX (qd K_L_law3 5 rfl) rfl rfl ?_
  refine QG.iconst hX (qd K_L_law3 6 rfl) rfl ki_4 ?_
  refine QG.iadd hX (qd K_L_law3 7 rfl) rfl ?_
  refine QG.scld hX hs0 hsl hsA hsb (qd K_L_law3 8 rfl) rfl hi4 hv4 ?_
  refine QG.callVk (rest := [.int (qb c1.1)]) [104, 105, 106, 107, 108, 109, 110, 111, 112, 113, 114, 115, 116, 117, 118, 119, 120, 121, 122, 123, 124, 125, 126, 127, 128, 129, 130, 131, 132, 133, 134, 135, 136, 137] hz2 hX cw_L_27 (M_X8_mark X.l (V 104 0) (A 105) (A 106) (A 107) (A 108) (A 109) (A 110) (A 111) (A 112) (V 104 9) (V 104 10) (A 113) (A 114) (A 115) (A 116) M (A 118) (A 119) (A 120) (A 121) (A 122) (A 123) (A 124) (A 125) (A 126) (A 127) (A 128) (V 104 27) (V 104 28) (A 129) (V 104 30) (V 104 31) (V 104 32) (V 104 33) (V 104 34) (V 104 35) (V 104 36) (A 130) (A 131) (A 132) (A 133) (A 134) (A 135) (V 104 43) (V 104 44) (V 104 45) (V 104 46) (A 136) (A 137) v1 v2 v3 v4) trivial (by decide) (by decide) (qd K_L_law3 9 rfl) rfl hcs rfl rfl rfl rfl (Nat.le_of_ble_eq_true rfl) rfl rfl (Nat.le_of_ble_eq_true rfl) rfl ?_
  refine QG.eqW (Wd' := (wLx rfB kfB (va_rf z) (va_rf tx) (va_up (va_up A 64 c1.2.1) 108 c2.2.2) (va_up2 V 104 0 c2.2.1) (va_up B 61 c1.2.2) L M)) rfl ?_
  show QG X 4 _ _ 280 _ [.int (qb c2.1), .int (qb c1.1)] _ ad _ _
  exact QG.ifT (by rw [he]) (QG.icmp_eq (tgt := 1048) (oF := none) hX (qd K_L_law3 10 rfl) rfl (by decide) K QG.nothing)

set_option maxRecDepth 100000 in
set_option maxHeartbeats 4000000 in
theorem C_mark_4 {X : QX} (hX : qok X code RL 4 (some .boolean) 1000) {Q : Unit → State → Prop} {b LL : Nat} {xs : Nat → Int32} (hs0 : va_X b LL xs X.s X.s.heap) (hsl : b < X.s.heap.size) (hsA : ¬ X.A b) (hsb : X.sA 100 = b) {ad : Nat → Nat} {cells slots : Nat} (hcs : cells ≤ X.R.cells ∧ slots ≤ X.R.slots) {A V : Nat → Nat → Int32} {B : Nat → Bool} {L M : Nat → Int64} {z tx : Option Nat} {x3 : Int32} {v1 : Int32} {v2 : Int32} {v3 : Int32} {v4 : Int32} (hi1 : vp_in (x3 + 1) LL) (hv1 : xs (x3 + 1).toNatClampNeg = v1) (hi2 : vp_in (x3 + 2) LL) (hv2 : xs (x3 + 2).toNatClampNeg = v2) (hi3 : vp_in (x3 + 3) LL) (hv3 : xs (x3 + 3).toNatClampNeg = v3) (hi4 : vp_in (x3 + 4) LL) (hv4 : xs (x3 + 4).toNatClampNeg = v4) (hr0 : ¬ v1 < 0) (hr1 : ¬ 6 ≤ v1) (hj : v1.toNatClampNeg = 4) {c1 : Bool × (Nat → Int32) × Bool} {c2 : Bool × Int32 × (Nat → Int32)} (hz1 : F_X7_mark_ok (A 68) (A 69) (V 66 4) (B 66) v1 v2 v3 v4 = some c1) (hz2 : F_X8_mark (V 104 0) (A 105) (A 107) (A 108) v1 v2 v3 v4 = some c2) (he : c1.1 = c2.1)
    (K : QG X 4 Q (some ()) 1048 [(0, .float (UInt32.ofNat 100)), (1, .ref 0), (2, .ref 104), (3, .int x3)] [] (wLx rfB kfB (va_rf z) (va_rf tx) (va_up (va_up A 69 c1.2.1) 108 c2.2.2) (va_up2 V 104 0 c2.2.1) (va_up B 66 c1.2.2) L M) ad cells slots) : QG X 4 Q (some ()) 232 [(0, .float (UInt32.ofNat 100)), (1, .ref 0), (2, .ref 104), (3, .int x3)] [] (wLx rfB kfB (va_rf z) (va_rf tx) A V B L M) ad cells slots := by
  refine QG.aload_n hX (qd K_L_law2 6 rfl) rfl rfl ?_
  refine QG.aload_ns hX (qd K_L_law2 7 rfl) rfl rfl ?_
  refine QG.iload_n hX (qd K_L_law2 8 rfl) rfl rfl ?_
  refine QG.iconst hX (qd K_L_law2 9 rfl) rfl ki_1 ?_
  refine QG.iadd hX (qd K_L_law2 10 rfl) rfl ?_
  refine QG.scld hX hs0 hsl hsA hsb (qd K_L_law2 11 rfl) rfl hi1 hv1 ?_
  refine QG.aload_ns hX (qd K_L_law2 12 rfl) rfl rfl ?_
  refine QG.iload_n hX (qd K_L_law2 13 rfl) rfl rfl ?_
  refine QG.iconst hX (qd K_L_law2 14 rfl) rfl ki_2 ?_
  refine QG.iadd hX (qd K_L_law2 15 rfl) rfl ?_
  refine QG.scld hX hs0 hsl hsA hsb (qd K_L_law2 16 rfl) rfl hi2 hv2 ?_
  refine QG.aload_ns hX (qd K_L_law2 17 rfl) rfl rfl ?_
  refine QG.iload_n hX (qd K_L_law2 18 rfl) rfl rfl ?_
  refine QG.iconst hX (qd K_L_law2 19 rfl) rfl ki_3 ?_
  refine QG.iadd hX (qd K_L_law2 20 rfl) rfl ?_
  refine QG.scld hX hs0 hsl hsA hsb (qd K_L_law2 21 rfl) rfl hi3 hv3 ?_
  refine QG.aload_ns hX (qd K_L_law2 22 rfl) rfl rfl ?_
  refine QG.iload_n hX (qd K_L_law2 23 rfl) rfl rfl ?_
  refine QG.iconst hX (qd K_L_law2 24 rfl) rfl ki_4 ?_
  refine QG.iadd hX (qd K_L_law2 25 rfl) rfl ?_
  refine QG.scld hX hs0 hsl hsA hsb (qd K_L_law2 26 rfl) rfl hi4 hv4 ?_
  refine QG.callVk (rest := []) [0, 1, 66, 67, 68, 69, 70] hz1 hX cw_L_23 (M_X7_mark_ok X.l (fun j => Option.map (qinv [0, 1, 66, 67, 68, 69, 70]) (rfB j)) (A 67) (A 68) (A 69) (A 70) (V 66 4) (B 66) v1 v2 v3 v4 hr0 hr1 (by show Option.map _ (rfB v1.toNatClampNeg) = _; rw [hj]; rfl)) trivial (by decide) (by decide) (qd K_L_law2 27 rfl) rfl hcs rfl rfl rfl rfl (Nat.le_of_ble_eq_true rfl) (Eq.trans (congrArg (fun f => List.map (fun i => (wLx f kfB (va_rf z) (va_rf tx) A V B L M)[i]?) [0, 1, 66, 67, 68, 69, 70]) (qinv_eq [0, 1, 66, 67, 68, 69, 70] rfB).symm) rfl) rfl (Nat.le_of_ble_eq_true rfl) rfl ?_
  refine QG.eqW (Wd' := (wLx (fun j => Option.map (qf [0, 1, 66, 67, 68, 69, 70]) (Option.map (qinv [0, 1, 66, 67, 68, 69, 70]) (rfB j))) kfB (va_rf z) (va_rf tx) (va_up A 69 c1.2.1) V (va_up B 66 c1.2.2) L M)) rfl ?_
  rw [qinv_eq [0, 1, 66, 67, 68, 69, 70] rfB]
  show QG X 4 _ _ 256 _ [.int (qb c1.1)] _ ad _ _
  refine QG.aload_n hX (qd K_L_law2 28 rfl) rfl rfl ?_
  refine QG.aload_ns hX (qd K_L_law2 29 rfl) rfl rfl ?_
  refine QG.iload_n hX (qd K_L_law2 30 rfl) rfl rfl ?_
  refine QG.iconst hX (qd K_L_law2 31 rfl) rfl ki_1 ?_
  refine QG.iadd hX (qd K_L_law2 32 rfl) rfl ?_
  refine QG.scld hX hs0 hsl hsA hsb (qd K_L_law2 33 rfl) rfl hi1 hv1 ?_
  refine QG.aload_ns hX (qd K_L_law2 34 rfl) rfl rfl ?_
  refine QG.iload_n hX (qd K_L_law2 35 rfl) rfl rfl ?_
  refine QG.iconst hX (qd K_L_law2 36 rfl) rfl ki_2 ?_
  refine QG.iadd hX (qd K_L_law2 37 rfl) rfl ?_
  refine QG.scld hX hs0 hsl hsA hsb (qd K_L_law2 38 rfl) rfl hi2 hv2 ?_
  refine QG.aload_ns hX (qd K_L_law2 39 rfl) rfl rfl ?_
  refine QG.iload_n hX (qd K_L_law3 0 rfl) rfl rfl ?_
  refine QG.iconst hX (qd K_L_law3 1 rfl) rfl ki_3 ?_
  refine QG.iadd hX (qd K_L_law3 2 rfl) rfl ?_
  refine QG.scld hX hs0 hsl hsA hsb (qd K_L_law3 3 rfl) rfl hi3 hv3 ?_
  refine QG.aload_ns hX (qd K_L_law3 4 rfl) rfl rfl ?_
  refine QG.iload_n hX (qd K_L_law3 5 rfl) rfl rfl ?_
  refine QG.iconst hX (qd K_L_law3 6 rfl) rfl ki_4 ?_
  refine QG.iadd hX (qd K_L_law3 7 rfl) rfl ?_
  refine QG.scld hX hs0 hsl hsA hsb (qd K_L_law3 8 rfl) rfl hi4 hv4 ?_
  refine QG.callVk (rest := [.int (qb c1.1)]) [104, 105, 106, 107, 108, 109, 110, 111, 112, 113, 114, 115, 116, 117, 118, 119, 120, 121, 122, 123, 124, 125, 126, 127, 128, 129, 130, 131, 132, 133, 134, 135, 136, 137] hz2 hX cw_L_27 (M_X8_mark X.l (V 104 0) (A 105) (A 106) (A 107) (A 108) (A 109) (A 110) (A 111) (A 112) (V 104 9) (V 104 10) (A 113) (A 114) (A 115) (A 116) M (A 118) (A 119) (A 120) (A 121) (A 122) (A 123) (A 124) (A 125) (A 126) (A 127) (A 128) (V 104 27) (V 104 28) (A 129) (V 104 30) (V 104 31) (V 104 32) (V 104 33) (V 104 34) (V 104 35) (V 104 36) (A 130) (A 131) (A 132) (A 133) (A 134) (A 135) (V 104 43) (V 104 44) (V 104 45) (V 104 46) (A 136) (A 137) v1 v2 v3 v4) trivial (by decide) (by decide) (qd K_L_law3 9 rfl) rfl hcs rfl rfl rfl rfl (Nat.le_of_ble_eq_true rfl) rfl rfl (Nat.le_of_ble_eq_true rfl) rfl ?_
  refine QG.eqW (Wd' := (wLx rfB kfB (va_rf z) (va_rf tx) (va_up (va_up A 69 c1.2.1) 108 c2.2.2) (va_up2 V 104 0 c2.2.1) (va_up B 66 c1.2.2) L M)) rfl ?_
  show QG X 4 _ _ 280 _ [.int (qb c2.1), .int (qb c1.1)] _ ad _ _
  exact QG.ifT (by rw [he]) (QG.icmp_eq (tgt := 1048) (oF := none) hX (qd K_L_law3 10 rfl) rfl (by decide) K QG.nothing)

set_option maxRecDepth 100000 in
set_option maxHeartbeats 4000000 in
theorem C_mark_5 {X : QX} (hX : qok X code RL 4 (some .boolean) 1000) {Q : Unit → State → Prop} {b LL : Nat} {xs : Nat → Int32} (hs0 : va_X b LL xs X.s X.s.heap) (hsl : b < X.s.heap.size) (hsA : ¬ X.A b) (hsb : X.sA 100 = b) {ad : Nat → Nat} {cells slots : Nat} (hcs : cells ≤ X.R.cells ∧ slots ≤ X.R.slots) {A V : Nat → Nat → Int32} {B : Nat → Bool} {L M : Nat → Int64} {z tx : Option Nat} {x3 : Int32} {v1 : Int32} {v2 : Int32} {v3 : Int32} {v4 : Int32} (hi1 : vp_in (x3 + 1) LL) (hv1 : xs (x3 + 1).toNatClampNeg = v1) (hi2 : vp_in (x3 + 2) LL) (hv2 : xs (x3 + 2).toNatClampNeg = v2) (hi3 : vp_in (x3 + 3) LL) (hv3 : xs (x3 + 3).toNatClampNeg = v3) (hi4 : vp_in (x3 + 4) LL) (hv4 : xs (x3 + 4).toNatClampNeg = v4) (hr0 : ¬ v1 < 0) (hr1 : ¬ 6 ≤ v1) (hj : v1.toNatClampNeg = 5) {c1 : Bool × (Nat → Int32) × Bool} {c2 : Bool × Int32 × (Nat → Int32)} (hz1 : F_X7_mark_ok (A 73) (A 74) (V 71 4) (B 71) v1 v2 v3 v4 = some c1) (hz2 : F_X8_mark (V 104 0) (A 105) (A 107) (A 108) v1 v2 v3 v4 = some c2) (he : c1.1 = c2.1)
    (K : QG X 4 Q (some ()) 1048 [(0, .float (UInt32.ofNat 100)), (1, .ref 0), (2, .ref 104), (3, .int x3)] [] (wLx rfB kfB (va_rf z) (va_rf tx) (va_up (va_up A 74 c1.2.1) 108 c2.2.2) (va_up2 V 104 0 c2.2.1) (va_up B 71 c1.2.2) L M) ad cells slots) : QG X 4 Q (some ()) 232 [(0, .float (UInt32.ofNat 100)), (1, .ref 0), (2, .ref 104), (3, .int x3)] [] (wLx rfB kfB (va_rf z) (va_rf tx) A V B L M) ad cells slots := by
  refine QG.aload_n hX (qd K_L_law2 6 rfl) rfl rfl ?_
  refine QG.aload_ns hX (qd K_L_law2 7 rfl) rfl rfl ?_
  refine QG.iload_n hX (qd K_L_law2 8 rfl) rfl rfl ?_
  refine QG.iconst hX (qd K_L_law2 9 rfl) rfl ki_1 ?_
  refine QG.iadd hX (qd K_L_law2 10 rfl) rfl ?_
  refine QG.scld hX hs0 hsl hsA hsb (qd K_L_law2 11 rfl) rfl hi1 hv1 ?_
  refine QG.aload_ns hX (qd K_L_law2 12 rfl) rfl rfl ?_
  refine QG.iload_n hX (qd K_L_law2 13 rfl) rfl rfl ?_
  refine QG.iconst hX (qd K_L_law2 14 rfl) rfl ki_2 ?_
  refine QG.iadd hX (qd K_L_law2 15 rfl) rfl ?_
  refine QG.scld hX hs0 hsl hsA hsb (qd K_L_law2 16 rfl) rfl hi2 hv2 ?_
  refine QG.aload_ns hX (qd K_L_law2 17 rfl) rfl rfl ?_
  refine QG.iload_n hX (qd K_L_law2 18 rfl) rfl rfl ?_
  refine QG.iconst hX (qd K_L_law2 19 rfl) rfl ki_3 ?_
  refine QG.iadd hX (qd K_L_law2 20 rfl) rfl ?_
  refine QG.scld hX hs0 hsl hsA hsb (qd K_L_law2 21 rfl) rfl hi3 hv3 ?_
  refine QG.aload_ns hX (qd K_L_law2 22 rfl) rfl rfl ?_
  refine QG.iload_n hX (qd K_L_law2 23 rfl) rfl rfl ?_
  refine QG.iconst hX (qd K_L_law2 24 rfl) rfl ki_4 ?_
  refine QG.iadd hX (qd K_L_law2 25 rfl) rfl ?_
  refine QG.scld hX hs0 hsl hsA hsb (qd K_L_law2 26 rfl) rfl hi4 hv4 ?_
  refine QG.callVk (rest := []) [0, 1, 71, 72, 73, 74, 75] hz1 hX cw_L_23 (M_X7_mark_ok X.l (fun j => Option.map (qinv [0, 1, 71, 72, 73, 74, 75]) (rfB j)) (A 72) (A 73) (A 74) (A 75) (V 71 4) (B 71) v1 v2 v3 v4 hr0 hr1 (by show Option.map _ (rfB v1.toNatClampNeg) = _; rw [hj]; rfl)) trivial (by decide) (by decide) (qd K_L_law2 27 rfl) rfl hcs rfl rfl rfl rfl (Nat.le_of_ble_eq_true rfl) (Eq.trans (congrArg (fun f => List.map (fun i => (wLx f kfB (va_rf z) (va_rf tx) A V B L M)[i]?) [0, 1, 71, 72, 73, 74, 75]) (qinv_eq [0, 1, 71, 72, 73, 74, 75] rfB).symm) rfl) rfl (Nat.le_of_ble_eq_true rfl) rfl ?_
  refine QG.eqW (Wd' := (wLx (fun j => Option.map (qf [0, 1, 71, 72, 73, 74, 75]) (Option.map (qinv [0, 1, 71, 72, 73, 74, 75]) (rfB j))) kfB (va_rf z) (va_rf tx) (va_up A 74 c1.2.1) V (va_up B 71 c1.2.2) L M)) rfl ?_
  rw [qinv_eq [0, 1, 71, 72, 73, 74, 75] rfB]
  show QG X 4 _ _ 256 _ [.int (qb c1.1)] _ ad _ _
  refine QG.aload_n hX (qd K_L_law2 28 rfl) rfl rfl ?_
  refine QG.aload_ns hX (qd K_L_law2 29 rfl) rfl rfl ?_
  refine QG.iload_n hX (qd K_L_law2 30 rfl) rfl rfl ?_
  refine QG.iconst hX (qd K_L_law2 31 rfl) rfl ki_1 ?_
  refine QG.iadd hX (qd K_L_law2 32 rfl) rfl ?_
  refine QG.scld hX hs0 hsl hsA hsb (qd K_L_law2 33 rfl) rfl hi1 hv1 ?_
  refine QG.aload_ns hX (qd K_L_law2 34 rfl) rfl rfl ?_
  refine QG.iload_n hX (qd K_L_law2 35 rfl) rfl rfl ?_
  refine QG.iconst hX (qd K_L_law2 36 rfl) rfl ki_2 ?_
  refine QG.iadd hX (qd K_L_law2 37 rfl) rfl ?_
  refine QG.scld hX hs0 hsl hsA hsb (qd K_L_law2 38 rfl) rfl hi2 hv2 ?_
  refine QG.aload_ns hX (qd K_L_law2 39 rfl) rfl rfl ?_
  refine QG.iload_n hX (qd K_L_law3 0 rfl) rfl rfl ?_
  refine QG.iconst hX (qd K_L_law3 1 rfl) rfl ki_3 ?_
  refine QG.iadd hX (qd K_L_law3 2 rfl) rfl ?_
  refine QG.scld hX hs0 hsl hsA hsb (qd K_L_law3 3 rfl) rfl hi3 hv3 ?_
  refine QG.aload_ns hX (qd K_L_law3 4 rfl) rfl rfl ?_
  refine QG.iload_n hX (qd K_L_law3 5 rfl) rfl rfl ?_
  refine QG.iconst hX (qd K_L_law3 6 rfl) rfl ki_4 ?_
  refine QG.iadd hX (qd K_L_law3 7 rfl) rfl ?_
  refine QG.scld hX hs0 hsl hsA hsb (qd K_L_law3 8 rfl) rfl hi4 hv4 ?_
  refine QG.callVk (rest := [.int (qb c1.1)]) [104, 105, 106, 107, 108, 109, 110, 111, 112, 113, 114, 115, 116, 117, 118, 119, 120, 121, 122, 123, 124, 125, 126, 127, 128, 129, 130, 131, 132, 133, 134, 135, 136, 137] hz2 hX cw_L_27 (M_X8_mark X.l (V 104 0) (A 105) (A 106) (A 107) (A 108) (A 109) (A 110) (A 111) (A 112) (V 104 9) (V 104 10) (A 113) (A 114) (A 115) (A 116) M (A 118) (A 119) (A 120) (A 121) (A 122) (A 123) (A 124) (A 125) (A 126) (A 127) (A 128) (V 104 27) (V 104 28) (A 129) (V 104 30) (V 104 31) (V 104 32) (V 104 33) (V 104 34) (V 104 35) (V 104 36) (A 130) (A 131) (A 132) (A 133) (A 134) (A 135) (V 104 43) (V 104 44) (V 104 45) (V 104 46) (A 136) (A 137) v1 v2 v3 v4) trivial (by decide) (by decide) (qd K_L_law3 9 rfl) rfl hcs rfl rfl rfl rfl (Nat.le_of_ble_eq_true rfl) rfl rfl (Nat.le_of_ble_eq_true rfl) rfl ?_
  refine QG.eqW (Wd' := (wLx rfB kfB (va_rf z) (va_rf tx) (va_up (va_up A 74 c1.2.1) 108 c2.2.2) (va_up2 V 104 0 c2.2.1) (va_up B 71 c1.2.2) L M)) rfl ?_
  show QG X 4 _ _ 280 _ [.int (qb c2.1), .int (qb c1.1)] _ ad _ _
  exact QG.ifT (by rw [he]) (QG.icmp_eq (tgt := 1048) (oF := none) hX (qd K_L_law3 10 rfl) rfl (by decide) K QG.nothing)

set_option maxRecDepth 100000 in
set_option maxHeartbeats 4000000 in
theorem C_tear_no {X : QX} (hX : qok X code RL 4 (some .boolean) 1000) {Q : Unit → State → Prop} {b LL : Nat} {xs : Nat → Int32} (hs0 : va_X b LL xs X.s X.s.heap) (hsl : b < X.s.heap.size) (hsA : ¬ X.A b) (hsb : X.sA 100 = b) {ad : Nat → Nat} {cells slots : Nat} (hcs : cells ≤ X.R.cells ∧ slots ≤ X.R.slots) {A V : Nat → Nat → Int32} {B : Nat → Bool} {L M : Nat → Int64} {z tx : Option Nat} {x3 : Int32} {v1 : Int32} {v2 : Int32} {v3 : Int32} (hi1 : vp_in (x3 + 1) LL) (hv1 : xs (x3 + 1).toNatClampNeg = v1) (hi2 : vp_in (x3 + 2) LL) (hv2 : xs (x3 + 2).toNatClampNeg = v2) (hi3 : vp_in (x3 + 3) LL) (hv3 : xs (x3 + 3).toNatClampNeg = v3) (hr : v1 < 0 ∨ 6 ≤ v1) {c1 : Int32} {c2 : Int32 × Int32 × (Nat → Int32) × (Nat → Int32)} (hz1 : F_X7_tear_no v1 v2 v3 = some c1) (hz2 : F_X8_tear (V 104 0) (A 105) (A 107) (A 108) v1 v2 v3 = some c2) (he : c1 = c2.1)
    (K : QG X 4 Q (some ()) 1048 [(0, .float (UInt32.ofNat 100)), (1, .ref 0), (2, .ref 104), (3, .int x3)] [] (wLx rfB kfB (va_rf z) (va_rf tx) (va_up (va_up A 107 c2.2.2.1) 108 c2.2.2.2) (va_up2 V 104 0 c2.2.1) B L M) ad cells slots) : QG X 4 Q (some ()) 285 [(0, .float (UInt32.ofNat 100)), (1, .ref 0), (2, .ref 104), (3, .int x3)] [] (wLx rfB kfB (va_rf z) (va_rf tx) A V B L M) ad cells slots := by
  refine QG.aload_n hX (qd K_L_law3 13 rfl) rfl rfl ?_
  refine QG.aload_ns hX (qd K_L_law3 14 rfl) rfl rfl ?_
  refine QG.iload_n hX (qd K_L_law3 15 rfl) rfl rfl ?_
  refine QG.iconst hX (qd K_L_law3 16 rfl) rfl ki_1 ?_
  refine QG.iadd hX (qd K_L_law3 17 rfl) rfl ?_
  refine QG.scld hX hs0 hsl hsA hsb (qd K_L_law3 18 rfl) rfl hi1 hv1 ?_
  refine QG.aload_ns hX (qd K_L_law3 19 rfl) rfl rfl ?_
  refine QG.iload_n hX (qd K_L_law3 20 rfl) rfl rfl ?_
  refine QG.iconst hX (qd K_L_law3 21 rfl) rfl ki_2 ?_
  refine QG.iadd hX (qd K_L_law3 22 rfl) rfl ?_
  refine QG.scld hX hs0 hsl hsA hsb (qd K_L_law3 23 rfl) rfl hi2 hv2 ?_
  refine QG.aload_ns hX (qd K_L_law3 24 rfl) rfl rfl ?_
  refine QG.iload_n hX (qd K_L_law3 25 rfl) rfl rfl ?_
  refine QG.iconst hX (qd K_L_law3 26 rfl) rfl ki_3 ?_
  refine QG.iadd hX (qd K_L_law3 27 rfl) rfl ?_
  refine QG.scld hX hs0 hsl hsA hsb (qd K_L_law3 28 rfl) rfl hi3 hv3 ?_
  refine QG.callVk (rest := []) [0, 1] hz1 hX cw_L_28 (M_X7_tear_no X.l (fun j => Option.map (qinv [0, 1]) (rfB j)) v1 v2 v3 hr) trivial (by decide) (by decide) (qd K_L_law3 29 rfl) rfl hcs rfl rfl rfl rfl (Nat.le_of_ble_eq_true rfl) (Eq.trans (congrArg (fun f => List.map (fun i => (wLx f kfB (va_rf z) (va_rf tx) A V B L M)[i]?) [0, 1]) (qinv_eq [0, 1] rfB).symm) rfl) rfl (Nat.le_of_ble_eq_true rfl) rfl ?_
  refine QG.eqW (Wd' := (wLx (fun j => Option.map (qf [0, 1]) (Option.map (qinv [0, 1]) (rfB j))) kfB (va_rf z) (va_rf tx) A V B L M)) rfl ?_
  rw [qinv_eq [0, 1] rfB]
  show QG X 4 _ _ 304 _ [.int c1] _ ad _ _
  refine QG.aload_n hX (qd K_L_law3 30 rfl) rfl rfl ?_
  refine QG.aload_ns hX (qd K_L_law3 31 rfl) rfl rfl ?_
  refine QG.iload_n hX (qd K_L_law3 32 rfl) rfl rfl ?_
  refine QG.iconst hX (qd K_L_law3 33 rfl) rfl ki_1 ?_
  refine QG.iadd hX (qd K_L_law3 34 rfl) rfl ?_
  refine QG.scld hX hs0 hsl hsA hsb (qd K_L_law3 35 rfl) rfl hi1 hv1 ?_
  refine QG.aload_ns hX (qd K_L_law3 36 rfl) rfl rfl ?_
  refine QG.iload_n hX (qd K_L_law3 37 rfl) rfl rfl ?_
  refine QG.iconst hX (qd K_L_law3 38 rfl) rfl ki_2 ?_
  refine QG.iadd hX (qd K_L_law3 39 rfl) rfl ?_
  refine QG.scld hX hs0 hsl hsA hsb (qd K_L_law4 0 rfl) rfl hi2 hv2 ?_
  refine QG.aload_ns hX (qd K_L_law4 1 rfl) rfl rfl ?_
  refine QG.iload_n hX (qd K_L_law4 2 rfl) rfl rfl ?_
  refine QG.iconst hX (qd K_L_law4 3 rfl) rfl ki_3 ?_
  refine QG.iadd hX (qd K_L_law4 4 rfl) rfl ?_
  refine QG.scld hX hs0 hsl hsA hsb (qd K_L_law4 5 rfl) rfl hi3 hv3 ?_
  refine QG.callVk (rest := [.int c1]) [104, 105, 106, 107, 108, 109, 110, 111, 112, 113, 114, 115, 116, 117, 118, 119, 120, 121, 122, 123, 124, 125, 126, 127, 128, 129, 130, 131, 132, 133, 134, 135, 136, 137] hz2 hX cw_L_31 (M_X8_tear X.l (V 104 0) (A 105) (A 106) (A 107) (A 108) (A 109) (A 110) (A 111) (A 112) (V 104 9) (V 104 10) (A 113) (A 114) (A 115) (A 116) M (A 118) (A 119) (A 120) (A 121) (A 122) (A 123) (A 124) (A 125) (A 126) (A 127) (A 128) (V 104 27) (V 104 28) (A 129) (V 104 30) (V 104 31) (V 104 32) (V 104 33) (V 104 34) (V 104 35) (V 104 36) (A 130) (A 131) (A 132) (A 133) (A 134) (A 135) (V 104 43) (V 104 44) (V 104 45) (V 104 46) (A 136) (A 137) v1 v2 v3) trivial (by decide) (by decide) (qd K_L_law4 6 rfl) rfl hcs rfl rfl rfl rfl (Nat.le_of_ble_eq_true rfl) rfl rfl (Nat.le_of_ble_eq_true rfl) rfl ?_
  refine QG.eqW (Wd' := (wLx rfB kfB (va_rf z) (va_rf tx) (va_up (va_up A 107 c2.2.2.1) 108 c2.2.2.2) (va_up2 V 104 0 c2.2.1) B L M)) rfl ?_
  show QG X 4 _ _ 323 _ [.int c2.1, .int c1] _ ad _ _
  exact QG.ifT (by rw [he]) (QG.icmp_eq (tgt := 1048) (oF := none) hX (qd K_L_law4 7 rfl) rfl (by decide) K QG.nothing)

set_option maxRecDepth 100000 in
set_option maxHeartbeats 4000000 in
theorem C_tear_0 {X : QX} (hX : qok X code RL 4 (some .boolean) 1000) {Q : Unit → State → Prop} {b LL : Nat} {xs : Nat → Int32} (hs0 : va_X b LL xs X.s X.s.heap) (hsl : b < X.s.heap.size) (hsA : ¬ X.A b) (hsb : X.sA 100 = b) {ad : Nat → Nat} {cells slots : Nat} (hcs : cells ≤ X.R.cells ∧ slots ≤ X.R.slots) {A V : Nat → Nat → Int32} {B : Nat → Bool} {L M : Nat → Int64} {z tx : Option Nat} {x3 : Int32} {v1 : Int32} {v2 : Int32} {v3 : Int32} (hi1 : vp_in (x3 + 1) LL) (hv1 : xs (x3 + 1).toNatClampNeg = v1) (hi2 : vp_in (x3 + 2) LL) (hv2 : xs (x3 + 2).toNatClampNeg = v2) (hi3 : vp_in (x3 + 3) LL) (hv3 : xs (x3 + 3).toNatClampNeg = v3) (hr0 : ¬ v1 < 0) (hr1 : ¬ 6 ≤ v1) (hj : v1.toNatClampNeg = 0) {c1 : Int32 × (Nat → Int32) × (Nat → Int32) × Bool} {c2 : Int32 × Int32 × (Nat → Int32) × (Nat → Int32)} (hz1 : F_X7_tear_ok (A 48) (A 49) (V 46 4) (B 46) v1 v2 v3 = some c1) (hz2 : F_X8_tear (V 104 0) (A 105) (A 107) (A 108) v1 v2 v3 = some c2) (he : c1.1 = c2.1)
    (K : QG X 4 Q (some ()) 1048 [(0, .float (UInt32.ofNat 100)), (1, .ref 0), (2, .ref 104), (3, .int x3)] [] (wLx rfB kfB (va_rf z) (va_rf tx) (va_up (va_up (va_up (va_up A 48 c1.2.1) 49 c1.2.2.1) 107 c2.2.2.1) 108 c2.2.2.2) (va_up2 V 104 0 c2.2.1) (va_up B 46 c1.2.2.2) L M) ad cells slots) : QG X 4 Q (some ()) 285 [(0, .float (UInt32.ofNat 100)), (1, .ref 0), (2, .ref 104), (3, .int x3)] [] (wLx rfB kfB (va_rf z) (va_rf tx) A V B L M) ad cells slots := by
  refine QG.aload_n hX (qd K_L_law3 13 rfl) rfl rfl ?_
  refine QG.aload_ns hX (qd K_L_law3 14 rfl) rfl rfl ?_
  refine QG.iload_n hX (qd K_L_law3 15 rfl) rfl rfl ?_
  refine QG.iconst hX (qd K_L_law3 16 rfl) rfl ki_1 ?_
  refine QG.iadd hX (qd K_L_law3 17 rfl) rfl ?_
  refine QG.scld hX hs0 hsl hsA hsb (qd K_L_law3 18 rfl) rfl hi1 hv1 ?_
  refine QG.aload_ns hX (qd K_L_law3 19 rfl) rfl rfl ?_
  refine QG.iload_n hX (qd K_L_law3 20 rfl) rfl rfl ?_
  refine QG.iconst hX (qd K_L_law3 21 rfl) rfl ki_2 ?_
  refine QG.iadd hX (qd K_L_law3 22 rfl) rfl ?_
  refine QG.scld hX hs0 hsl hsA hsb (qd K_L_law3 23 rfl) rfl hi2 hv2 ?_
  refine QG.aload_ns hX (qd K_L_law3 24 rfl) rfl rfl ?_
  refine QG.iload_n hX (qd K_L_law3 25 rfl) rfl rfl ?_
  refine QG.iconst hX (qd K_L_law3 26 rfl) rfl ki_3 ?_
  refine QG.iadd hX (qd K_L_law3 27 rfl) rfl ?_
  refine QG.scld hX hs0 hsl hsA hsb (qd K_L_law3 28 rfl) rfl hi3 hv3 ?_
  refine QG.callVk (rest := []) [0, 1, 46, 47, 48, 49, 50] hz1 hX cw_L_28 (M_X7_tear_ok X.l (fun j => Option.map (qinv [0, 1, 46, 47, 48, 49, 50]) (rfB j)) (A 47) (A 48) (A 49) (A 50) (V 46 4) (B 46) v1 v2 v3 hr0 hr1 (by show Option.map _ (rfB v1.toNatClampNeg) = _; rw [hj]; rfl)) trivial (by decide) (by decide) (qd K_L_law3 29 rfl) rfl hcs rfl rfl rfl rfl (Nat.le_of_ble_eq_true rfl) (Eq.trans (congrArg (fun f => List.map (fun i => (wLx f kfB (va_rf z) (va_rf tx) A V B L M)[i]?) [0, 1, 46, 47, 48, 49, 50]) (qinv_eq [0, 1, 46, 47, 48, 49, 50] rfB).symm) rfl) rfl (Nat.le_of_ble_eq_true rfl) rfl ?_
  refine QG.eqW (Wd' := (wLx (fun j => Option.map (qf [0, 1, 46, 47, 48, 49, 50]) (Option.map (qinv [0, 1, 46, 47, 48, 49, 50]) (rfB j))) kfB (va_rf z) (va_rf tx) (va_up (va_up A 48 c1.2.1) 49 c1.2.2.1) V (va_up B 46 c1.2.2.2) L M)) rfl ?_
  rw [qinv_eq [0, 1, 46, 47, 48, 49, 50] rfB]
  show QG X 4 _ _ 304 _ [.int c1.1] _ ad _ _
  refine QG.aload_n hX (qd K_L_law3 30 rfl) rfl rfl ?_
  refine QG.aload_ns hX (qd K_L_law3 31 rfl) rfl rfl ?_
  refine QG.iload_n hX (qd K_L_law3 32 rfl) rfl rfl ?_
  refine QG.iconst hX (qd K_L_law3 33 rfl) rfl ki_1 ?_
  refine QG.iadd hX (qd K_L_law3 34 rfl) rfl ?_
  refine QG.scld hX hs0 hsl hsA hsb (qd K_L_law3 35 rfl) rfl hi1 hv1 ?_
  refine QG.aload_ns hX (qd K_L_law3 36 rfl) rfl rfl ?_
  refine QG.iload_n hX (qd K_L_law3 37 rfl) rfl rfl ?_
  refine QG.iconst hX (qd K_L_law3 38 rfl) rfl ki_2 ?_
  refine QG.iadd hX (qd K_L_law3 39 rfl) rfl ?_
  refine QG.scld hX hs0 hsl hsA hsb (qd K_L_law4 0 rfl) rfl hi2 hv2 ?_
  refine QG.aload_ns hX (qd K_L_law4 1 rfl) rfl rfl ?_
  refine QG.iload_n hX (qd K_L_law4 2 rfl) rfl rfl ?_
  refine QG.iconst hX (qd K_L_law4 3 rfl) rfl ki_3 ?_
  refine QG.iadd hX (qd K_L_law4 4 rfl) rfl ?_
  refine QG.scld hX hs0 hsl hsA hsb (qd K_L_law4 5 rfl) rfl hi3 hv3 ?_
  refine QG.callVk (rest := [.int c1.1]) [104, 105, 106, 107, 108, 109, 110, 111, 112, 113, 114, 115, 116, 117, 118, 119, 120, 121, 122, 123, 124, 125, 126, 127, 128, 129, 130, 131, 132, 133, 134, 135, 136, 137] hz2 hX cw_L_31 (M_X8_tear X.l (V 104 0) (A 105) (A 106) (A 107) (A 108) (A 109) (A 110) (A 111) (A 112) (V 104 9) (V 104 10) (A 113) (A 114) (A 115) (A 116) M (A 118) (A 119) (A 120) (A 121) (A 122) (A 123) (A 124) (A 125) (A 126) (A 127) (A 128) (V 104 27) (V 104 28) (A 129) (V 104 30) (V 104 31) (V 104 32) (V 104 33) (V 104 34) (V 104 35) (V 104 36) (A 130) (A 131) (A 132) (A 133) (A 134) (A 135) (V 104 43) (V 104 44) (V 104 45) (V 104 46) (A 136) (A 137) v1 v2 v3) trivial (by decide) (by decide) (qd K_L_law4 6 rfl) rfl hcs rfl rfl rfl rfl (Nat.le_of_ble_eq_true rfl) rfl rfl (Nat.le_of_ble_eq_true rfl) rfl ?_
  refine QG.eqW (Wd' := (wLx rfB kfB (va_rf z) (va_rf tx) (va_up (va_up (va_up (va_up A 48 c1.2.1) 49 c1.2.2.1) 107 c2.2.2.1) 108 c2.2.2.2) (va_up2 V 104 0 c2.2.1) (va_up B 46 c1.2.2.2) L M)) rfl ?_
  show QG X 4 _ _ 323 _ [.int c2.1, .int c1.1] _ ad _ _
  exact QG.ifT (by rw [he]) (QG.icmp_eq (tgt := 1048) (oF := none) hX (qd K_L_law4 7 rfl) rfl (by decide) K QG.nothing)

set_option maxRecDepth 100000 in
set_option maxHeartbeats 4000000 in
theorem C_tear_1 {X : QX} (hX : qok X code RL 4 (some .boolean) 1000) {Q : Unit → State → Prop} {b LL : Nat} {xs : Nat → Int32} (hs0 : va_X b LL xs X.s X.s.heap) (hsl : b < X.s.heap.size) (hsA : ¬ X.A b) (hsb : X.sA 100 = b) {ad : Nat → Nat} {cells slots : Nat} (hcs : cells ≤ X.R.cells ∧ slots ≤ X.R.slots) {A V : Nat → Nat → Int32} {B : Nat → Bool} {L M : Nat → Int64} {z tx : Option Nat} {x3 : Int32} {v1 : Int32} {v2 : Int32} {v3 : Int32} (hi1 : vp_in (x3 + 1) LL) (hv1 : xs (x3 + 1).toNatClampNeg = v1) (hi2 : vp_in (x3 + 2) LL) (hv2 : xs (x3 + 2).toNatClampNeg = v2) (hi3 : vp_in (x3 + 3) LL) (hv3 : xs (x3 + 3).toNatClampNeg = v3) (hr0 : ¬ v1 < 0) (hr1 : ¬ 6 ≤ v1) (hj : v1.toNatClampNeg = 1) {c1 : Int32 × (Nat → Int32) × (Nat → Int32) × Bool} {c2 : Int32 × Int32 × (Nat → Int32) × (Nat → Int32)} (hz1 : F_X7_tear_ok (A 53) (A 54) (V 51 4) (B 51) v1 v2 v3 = some c1) (hz2 : F_X8_tear (V 104 0) (A 105) (A 107) (A 108) v1 v2 v3 = some c2) (he : c1.1 = c2.1)
    (K : QG X 4 Q (some ()) 1048 [(0, .float (UInt32.ofNat 100)), (1, .ref 0), (2, .ref 104), (3, .int x3)] [] (wLx rfB kfB (va_rf z) (va_rf tx) (va_up (va_up (va_up (va_up A 53 c1.2.1) 54 c1.2.2.1) 107 c2.2.2.1) 108 c2.2.2.2) (va_up2 V 104 0 c2.2.1) (va_up B 51 c1.2.2.2) L M) ad cells slots) : QG X 4 Q (some ()) 285 [(0, .float (UInt32.ofNat 100)), (1, .ref 0), (2, .ref 104), (3, .int x3)] [] (wLx rfB kfB (va_rf z) (va_rf tx) A V B L M) ad cells slots := by
  refine QG.aload_n hX (qd K_L_law3 13 rfl) rfl rfl ?_
  refine QG.aload_ns hX (qd K_L_law3 14 rfl) rfl rfl ?_
  refine QG.iload_n hX (qd K_L_law3 15 rfl) rfl rfl ?_
  refine QG.iconst hX (qd K_L_law3 16 rfl) rfl ki_1 ?_
  refine QG.iadd hX (qd K_L_law3 17 rfl) rfl ?_
  refine QG.scld hX hs0 hsl hsA hsb (qd K_L_law3 18 rfl) rfl hi1 hv1 ?_
  refine QG.aload_ns hX (qd K_L_law3 19 rfl) rfl rfl ?_
  refine QG.iload_n hX (qd K_L_law3 20 rfl) rfl rfl ?_
  refine QG.iconst hX (qd K_L_law3 21 rfl) rfl ki_2 ?_
  refine QG.iadd hX (qd K_L_law3 22 rfl) rfl ?_
  refine QG.scld hX hs0 hsl hsA hsb (qd K_L_law3 23 rfl) rfl hi2 hv2 ?_
  refine QG.aload_ns hX (qd K_L_law3 24 rfl) rfl rfl ?_
  refine QG.iload_n hX (qd K_L_law3 25 rfl) rfl rfl ?_
  refine QG.iconst hX (qd K_L_law3 26 rfl) rfl ki_3 ?_
  refine QG.iadd hX (qd K_L_law3 27 rfl) rfl ?_
  refine QG.scld hX hs0 hsl hsA hsb (qd K_L_law3 28 rfl) rfl hi3 hv3 ?_
  refine QG.callVk (rest := []) [0, 1, 51, 52, 53, 54, 55] hz1 hX cw_L_28 (M_X7_tear_ok X.l (fun j => Option.map (qinv [0, 1, 51, 52, 53, 54, 55]) (rfB j)) (A 52) (A 53) (A 54) (A 55) (V 51 4) (B 51) v1 v2 v3 hr0 hr1 (by show Option.map _ (rfB v1.toNatClampNeg) = _; rw [hj]; rfl)) trivial (by decide) (by decide) (qd K_L_law3 29 rfl) rfl hcs rfl rfl rfl rfl (Nat.le_of_ble_eq_true rfl) (Eq.trans (congrArg (fun f => List.map (fun i => (wLx f kfB (va_rf z) (va_rf tx) A V B L M)[i]?) [0, 1, 51, 52, 53, 54, 55]) (qinv_eq [0, 1, 51, 52, 53, 54, 55] rfB).symm) rfl) rfl (Nat.le_of_ble_eq_true rfl) rfl ?_
  refine QG.eqW (Wd' := (wLx (fun j => Option.map (qf [0, 1, 51, 52, 53, 54, 55]) (Option.map (qinv [0, 1, 51, 52, 53, 54, 55]) (rfB j))) kfB (va_rf z) (va_rf tx) (va_up (va_up A 53 c1.2.1) 54 c1.2.2.1) V (va_up B 51 c1.2.2.2) L M)) rfl ?_
  rw [qinv_eq [0, 1, 51, 52, 53, 54, 55] rfB]
  show QG X 4 _ _ 304 _ [.int c1.1] _ ad _ _
  refine QG.aload_n hX (qd K_L_law3 30 rfl) rfl rfl ?_
  refine QG.aload_ns hX (qd K_L_law3 31 rfl) rfl rfl ?_
  refine QG.iload_n hX (qd K_L_law3 32 rfl) rfl rfl ?_
  refine QG.iconst hX (qd K_L_law3 33 rfl) rfl ki_1 ?_
  refine QG.iadd hX (qd K_L_law3 34 rfl) rfl ?_
  refine QG.scld hX hs0 hsl hsA hsb (qd K_L_law3 35 rfl) rfl hi1 hv1 ?_
  refine QG.aload_ns hX (qd K_L_law3 36 rfl) rfl rfl ?_
  refine QG.iload_n hX (qd K_L_law3 37 rfl) rfl rfl ?_
  refine QG.iconst hX (qd K_L_law3 38 rfl) rfl ki_2 ?_
  refine QG.iadd hX (qd K_L_law3 39 rfl) rfl ?_
  refine QG.scld hX hs0 hsl hsA hsb (qd K_L_law4 0 rfl) rfl hi2 hv2 ?_
  refine QG.aload_ns hX (qd K_L_law4 1 rfl) rfl rfl ?_
  refine QG.iload_n hX (qd K_L_law4 2 rfl) rfl rfl ?_
  refine QG.iconst hX (qd K_L_law4 3 rfl) rfl ki_3 ?_
  refine QG.iadd hX (qd K_L_law4 4 rfl) rfl ?_
  refine QG.scld hX hs0 hsl hsA hsb (qd K_L_law4 5 rfl) rfl hi3 hv3 ?_
  refine QG.callVk (rest := [.int c1.1]) [104, 105, 106, 107, 108, 109, 110, 111, 112, 113, 114, 115, 116, 117, 118, 119, 120, 121, 122, 123, 124, 125, 126, 127, 128, 129, 130, 131, 132, 133, 134, 135, 136, 137] hz2 hX cw_L_31 (M_X8_tear X.l (V 104 0) (A 105) (A 106) (A 107) (A 108) (A 109) (A 110) (A 111) (A 112) (V 104 9) (V 104 10) (A 113) (A 114) (A 115) (A 116) M (A 118) (A 119) (A 120) (A 121) (A 122) (A 123) (A 124) (A 125) (A 126) (A 127) (A 128) (V 104 27) (V 104 28) (A 129) (V 104 30) (V 104 31) (V 104 32) (V 104 33) (V 104 34) (V 104 35) (V 104 36) (A 130) (A 131) (A 132) (A 133) (A 134) (A 135) (V 104 43) (V 104 44) (V 104 45) (V 104 46) (A 136) (A 137) v1 v2 v3) trivial (by decide) (by decide) (qd K_L_law4 6 rfl) rfl hcs rfl rfl rfl rfl (Nat.le_of_ble_eq_true rfl) rfl rfl (Nat.le_of_ble_eq_true rfl) rfl ?_
  refine QG.eqW (Wd' := (wLx rfB kfB (va_rf z) (va_rf tx) (va_up (va_up (va_up (va_up A 53 c1.2.1) 54 c1.2.2.1) 107 c2.2.2.1) 108 c2.2.2.2) (va_up2 V 104 0 c2.2.1) (va_up B 51 c1.2.2.2) L M)) rfl ?_
  show QG X 4 _ _ 323 _ [.int c2.1, .int c1.1] _ ad _ _
  exact QG.ifT (by rw [he]) (QG.icmp_eq (tgt := 1048) (oF := none) hX (qd K_L_law4 7 rfl) rfl (by decide) K QG.nothing)

set_option maxRecDepth 100000 in
set_option maxHeartbeats 4000000 in
theorem C_tear_2 {X : QX} (hX : qok X code RL 4 (some .boolean) 1000) {Q : Unit → State → Prop} {b LL : Nat} {xs : Nat → Int32} (hs0 : va_X b LL xs X.s X.s.heap) (hsl : b < X.s.heap.size) (hsA : ¬ X.A b) (hsb : X.sA 100 = b) {ad : Nat → Nat} {cells slots : Nat} (hcs : cells ≤ X.R.cells ∧ slots ≤ X.R.slots) {A V : Nat → Nat → Int32} {B : Nat → Bool} {L M : Nat → Int64} {z tx : Option Nat} {x3 : Int32} {v1 : Int32} {v2 : Int32} {v3 : Int32} (hi1 : vp_in (x3 + 1) LL) (hv1 : xs (x3 + 1).toNatClampNeg = v1) (hi2 : vp_in (x3 + 2) LL) (hv2 : xs (x3 + 2).toNatClampNeg = v2) (hi3 : vp_in (x3 + 3) LL) (hv3 : xs (x3 + 3).toNatClampNeg = v3) (hr0 : ¬ v1 < 0) (hr1 : ¬ 6 ≤ v1) (hj : v1.toNatClampNeg = 2) {c1 : Int32 × (Nat → Int32) × (Nat → Int32) × Bool} {c2 : Int32 × Int32 × (Nat → Int32) × (Nat → Int32)} (hz1 : F_X7_tear_ok (A 58) (A 59) (V 56 4) (B 56) v1 v2 v3 = some c1) (hz2 : F_X8_tear (V 104 0) (A 105) (A 107) (A 108) v1 v2 v3 = some c2) (he : c1.1 = c2.1)
    (K : QG X 4 Q (some ()) 1048 [(0, .float (UInt32.ofNat 100)), (1, .ref 0), (2, .ref 104), (3, .int x3)] [] (wLx rfB kfB (va_rf z) (va_rf tx) (va_up (va_up (va_up (va_up A 58 c1.2.1) 59 c1.2.2.1) 107 c2.2.2.1) 108 c2.2.2.2) (va_up2 V 104 0 c2.2.1) (va_up B 56 c1.2.2.2) L M) ad cells slots) : QG X 4 Q (some ()) 285 [(0, .float (UInt32.ofNat 100)), (1, .ref 0), (2, .ref 104), (3, .int x3)] [] (wLx rfB kfB (va_rf z) (va_rf tx) A V B L M) ad cells slots := by
  refine QG.aload_n hX (qd K_L_law3 13 rfl) rfl rfl ?_
  refine QG.aload_ns hX (qd K_L_law3 14 rfl) rfl rfl ?_
  refine QG.iload_n hX (qd K_L_law3 15 rfl) rfl rfl ?_
  refine QG.iconst hX (qd K_L_law3 16 rfl) rfl ki_1 ?_
  refine QG.iadd hX (qd K_L_law3 17 rfl) rfl ?_
  refine QG.scld hX hs0 hsl hsA hsb (qd K_L_law3 18 rfl) rfl hi1 hv1 ?_
  refine QG.aload_ns hX (qd K_L_law3 19 rfl) rfl rfl ?_
  refine QG.iload_n hX (qd K_L_law3 20 rfl) rfl rfl ?_
  refine QG.iconst hX (qd K_L_law3 21 rfl) rfl ki_2 ?_
  refine QG.iadd hX (qd K_L_law3 22 rfl) rfl ?_
  refine QG.scld hX hs0 hsl hsA hsb (qd K_L_law3 23 rfl) rfl hi2 hv2 ?_
  refine QG.aload_ns hX (qd K_L_law3 24 rfl) rfl rfl ?_
  refine QG.iload_n hX (qd K_L_law3 25 rfl) rfl rfl ?_
  refine QG.iconst hX (qd K_L_law3 26 rfl) rfl ki_3 ?_
  refine QG.iadd hX (qd K_L_law3 27 rfl) rfl ?_
  refine QG.scld hX hs0 hsl hsA hsb (qd K_L_law3 28 rfl) rfl hi3 hv3 ?_
  refine QG.callVk (rest := []) [0, 1, 56, 57, 58, 59, 60] hz1 hX cw_L_28 (M_X7_tear_ok X.l (fun j => Option.map (qinv [0, 1, 56, 57, 58, 59, 60]) (rfB j)) (A 57) (A 58) (A 59) (A 60) (V 56 4) (B 56) v1 v2 v3 hr0 hr1 (by show Option.map _ (rfB v1.toNatClampNeg) = _; rw [hj]; rfl)) trivial (by decide) (by decide) (qd K_L_law3 29 rfl) rfl hcs rfl rfl rfl rfl (Nat.le_of_ble_eq_true rfl) (Eq.trans (congrArg (fun f => List.map (fun i => (wLx f kfB (va_rf z) (va_rf tx) A V B L M)[i]?) [0, 1, 56, 57, 58, 59, 60]) (qinv_eq [0, 1, 56, 57, 58, 59, 60] rfB).symm) rfl) rfl (Nat.le_of_ble_eq_true rfl) rfl ?_
  refine QG.eqW (Wd' := (wLx (fun j => Option.map (qf [0, 1, 56, 57, 58, 59, 60]) (Option.map (qinv [0, 1, 56, 57, 58, 59, 60]) (rfB j))) kfB (va_rf z) (va_rf tx) (va_up (va_up A 58 c1.2.1) 59 c1.2.2.1) V (va_up B 56 c1.2.2.2) L M)) rfl ?_
  rw [qinv_eq [0, 1, 56, 57, 58, 59, 60] rfB]
  show QG X 4 _ _ 304 _ [.int c1.1] _ ad _ _
  refine QG.aload_n hX (qd K_L_law3 30 rfl) rfl rfl ?_
  refine QG.aload_ns hX (qd K_L_law3 31 rfl) rfl rfl ?_
  refine QG.iload_n hX (qd K_L_law3 32 rfl) rfl rfl ?_
  refine QG.iconst hX (qd K_L_law3 33 rfl) rfl ki_1 ?_
  refine QG.iadd hX (qd K_L_law3 34 rfl) rfl ?_
  refine QG.scld hX hs0 hsl hsA hsb (qd K_L_law3 35 rfl) rfl hi1 hv1 ?_
  refine QG.aload_ns hX (qd K_L_law3 36 rfl) rfl rfl ?_
  refine QG.iload_n hX (qd K_L_law3 37 rfl) rfl rfl ?_
  refine QG.iconst hX (qd K_L_law3 38 rfl) rfl ki_2 ?_
  refine QG.iadd hX (qd K_L_law3 39 rfl) rfl ?_
  refine QG.scld hX hs0 hsl hsA hsb (qd K_L_law4 0 rfl) rfl hi2 hv2 ?_
  refine QG.aload_ns hX (qd K_L_law4 1 rfl) rfl rfl ?_
  refine QG.iload_n hX (qd K_L_law4 2 rfl) rfl rfl ?_
  refine QG.iconst hX (qd K_L_law4 3 rfl) rfl ki_3 ?_
  refine QG.iadd hX (qd K_L_law4 4 rfl) rfl ?_
  refine QG.scld hX hs0 hsl hsA hsb (qd K_L_law4 5 rfl) rfl hi3 hv3 ?_
  refine QG.callVk (rest := [.int c1.1]) [104, 105, 106, 107, 108, 109, 110, 111, 112, 113, 114, 115, 116, 117, 118, 119, 120, 121, 122, 123, 124, 125, 126, 127, 128, 129, 130, 131, 132, 133, 134, 135, 136, 137] hz2 hX cw_L_31 (M_X8_tear X.l (V 104 0) (A 105) (A 106) (A 107) (A 108) (A 109) (A 110) (A 111) (A 112) (V 104 9) (V 104 10) (A 113) (A 114) (A 115) (A 116) M (A 118) (A 119) (A 120) (A 121) (A 122) (A 123) (A 124) (A 125) (A 126) (A 127) (A 128) (V 104 27) (V 104 28) (A 129) (V 104 30) (V 104 31) (V 104 32) (V 104 33) (V 104 34) (V 104 35) (V 104 36) (A 130) (A 131) (A 132) (A 133) (A 134) (A 135) (V 104 43) (V 104 44) (V 104 45) (V 104 46) (A 136) (A 137) v1 v2 v3) trivial (by decide) (by decide) (qd K_L_law4 6 rfl) rfl hcs rfl rfl rfl rfl (Nat.le_of_ble_eq_true rfl) rfl rfl (Nat.le_of_ble_eq_true rfl) rfl ?_
  refine QG.eqW (Wd' := (wLx rfB kfB (va_rf z) (va_rf tx) (va_up (va_up (va_up (va_up A 58 c1.2.1) 59 c1.2.2.1) 107 c2.2.2.1) 108 c2.2.2.2) (va_up2 V 104 0 c2.2.1) (va_up B 56 c1.2.2.2) L M)) rfl ?_
  show QG X 4 _ _ 323 _ [.int c2.1, .int c1.1] _ ad _ _
  exact QG.ifT (by rw [he]) (QG.icmp_eq (tgt := 1048) (oF := none) hX (qd K_L_law4 7 rfl) rfl (by decide) K QG.nothing)

set_option maxRecDepth 100000 in
set_option maxHeartbeats 4000000 in
theorem C_tear_3 {X : QX} (hX : qok X code RL 4 (some .boolean) 1000) {Q : Unit → State → Prop} {b LL : Nat} {xs : Nat → Int32} (hs0 : va_X b LL xs X.s X.s.heap) (hsl : b < X.s.heap.size) (hsA : ¬ X.A b) (hsb : X.sA 100 = b) {ad : Nat → Nat} {cells slots : Nat} (hcs : cells ≤ X.R.cells ∧ slots ≤ X.R.slots) {A V : Nat → Nat → Int32} {B : Nat → Bool} {L M : Nat → Int64} {z tx : Option Nat} {x3 : Int32} {v1 : Int32} {v2 : Int32} {v3 : Int32} (hi1 : vp_in (x3 + 1) LL) (hv1 : xs (x3 + 1).toNatClampNeg = v1) (hi2 : vp_in (x3 + 2) LL) (hv2 : xs (x3 + 2).toNatClampNeg = v2) (hi3 : vp_in (x3 + 3) LL) (hv3 : xs (x3 + 3).toNatClampNeg = v3) (hr0 : ¬ v1 < 0) (hr1 : ¬ 6 ≤ v1) (hj : v1.toNatClampNeg = 3) {c1 : Int32 × (Nat → Int32) × (Nat → Int32) × Bool} {c2 : Int32 × Int32 × (Nat → Int32) × (Nat → Int32)} (hz1 : F_X7_tear_ok (A 63) (A 64) (V 61 4) (B 61) v1 v2 v3 = some c1) (hz2 : F_X8_tear (V 104 0) (A 105) (A 107) (A 108) v1 v2 v3 = some c2) (he : c1.1 = c2.1)
    (K : QG X 4 Q (some ()) 1048 [(0, .float (UInt32.ofNat 100)), (1, .ref 0), (2, .ref 104), (3, .int x3)] [] (wLx rfB kfB (va_rf z) (va_rf tx) (va_up (va_up (va_up (va_up A 63 c1.2.1) 64 c1.2.2.1) 107 c2.2.2.1) 108 c2.2.2.2) (va_up2 V 104 0 c2.2.1) (va_up B 61 c1.2.2.2) L M) ad cells slots) : QG X 4 Q (some ()) 285 [(0, .float (UInt32.ofNat 100)), (1, .ref 0), (2, .ref 104), (3, .int x3)] [] (wLx rfB kfB (va_rf z) (va_rf tx) A V B L M) ad cells slots := by
  refine QG.aload_n hX (qd K_L_law3 13 rfl) rfl rfl ?_
  refine QG.aload_ns hX (qd K_L_law3 14 rfl) rfl rfl ?_
  refine QG.iload_n hX (qd K_L_law3 15 rfl) rfl rfl ?_
  refine QG.iconst hX (qd K_L_law3 16 rfl) rfl ki_1 ?_
  refine QG.iadd hX (qd K_L_law3 17 rfl) rfl ?_
  refine QG.scld hX hs0 hsl hsA hsb (qd K_L_law3 18 rfl) rfl hi1 hv1 ?_
  refine QG.aload_ns hX (qd K_L_law3 19 rfl) rfl rfl ?_
  refine QG.iload_n hX (qd K_L_law3 20 rfl) rfl rfl ?_
  refine QG.iconst hX (qd K_L_law3 21 rfl) rfl ki_2 ?_
  refine QG.iadd hX (qd K_L_law3 22 rfl) rfl ?_
  refine QG.scld hX hs0 hsl hsA hsb (qd K_L_law3 23 rfl) rfl hi2 hv2 ?_
  refine QG.aload_ns hX (qd K_L_law3 24 rfl) rfl rfl ?_
  refine QG.iload_n hX (qd K_L_law3 25 rfl) rfl rfl ?_
  refine QG.iconst hX (qd K_L_law3 26 rfl) rfl ki_3 ?_
  refine QG.iadd hX (qd K_L_law3 27 rfl) rfl ?_
  refine QG.scld hX hs0 hsl hsA hsb (qd K_L_law3 28 rfl) rfl hi3 hv3 ?_
  refine QG.callVk (rest := []) [0, 1, 61, 62, 63, 64, 65] hz1 hX cw_L_28 (M_X7_tear_ok X.l (fun j => Option.map (qinv [0, 1, 61, 62, 63, 64, 65]) (rfB j)) (A 62) (A 63) (A 64) (A 65) (V 61 4) (B 61) v1 v2 v3 hr0 hr1 (by show Option.map _ (rfB v1.toNatClampNeg) = _; rw [hj]; rfl)) trivial (by decide) (by decide) (qd K_L_law3 29 rfl) rfl hcs rfl rfl rfl rfl (Nat.le_of_ble_eq_true rfl) (Eq.trans (congrArg (fun f => List.map (fun i => (wLx f kfB (va_rf z) (va_rf tx) A V B L M)[i]?) [0, 1, 61, 62, 63, 64, 65]) (qinv_eq [0, 1, 61, 62, 63, 64, 65] rfB).symm) rfl) rfl (Nat.le_of_ble_eq_true rfl) rfl ?_
  refine QG.eqW (Wd' := (wLx (fun j => Option.map (qf [0, 1, 61, 62, 63, 64, 65]) (Option.map (qinv [0, 1, 61, 62, 63, 64, 65]) (rfB j))) kfB (va_rf z) (va_rf tx) (va_up (va_up A 63 c1.2.1) 64 c1.2.2.1) V (va_up B 61 c1.2.2.2) L M)) rfl ?_
  rw [qinv_eq [0, 1, 61, 62, 63, 64, 65] rfB]
  show QG X 4 _ _ 304 _ [.int c1.1] _ ad _ _
  refine QG.aload_n hX (qd K_L_law3 30 rfl) rfl rfl ?_
  refine QG.aload_ns hX (qd K_L_law3 31 rfl) rfl rfl ?_
  refine QG.iload_n hX (qd K_L_law3 32 rfl) rfl rfl ?_
  refine QG.iconst hX (qd K_L_law3 33 rfl) rfl ki_1 ?_
  refine QG.iadd hX (qd K_L_law3 34 rfl) rfl ?_
  refine QG.scld hX hs0 hsl hsA hsb (qd K_L_law3 35 rfl) rfl hi1 hv1 ?_
  refine QG.aload_ns hX (qd K_L_law3 36 rfl) rfl rfl ?_
  refine QG.iload_n hX (qd K_L_law3 37 rfl) rfl rfl ?_
  refine QG.iconst hX (qd K_L_law3 38 rfl) rfl ki_2 ?_
  refine QG.iadd hX (qd K_L_law3 39 rfl) rfl ?_
  refine QG.scld hX hs0 hsl hsA hsb (qd K_L_law4 0 rfl) rfl hi2 hv2 ?_
  refine QG.aload_ns hX (qd K_L_law4 1 rfl) rfl rfl ?_
  refine QG.iload_n hX (qd K_L_law4 2 rfl) rfl rfl ?_
  refine QG.iconst hX (qd K_L_law4 3 rfl) rfl ki_3 ?_
  refine QG.iadd hX (qd K_L_law4 4 rfl) rfl ?_
  refine QG.scld hX hs0 hsl hsA hsb (qd K_L_law4 5 rfl) rfl hi3 hv3 ?_
  refine QG.callVk (rest := [.int c1.1]) [104, 105, 106, 107, 108, 109, 110, 111, 112, 113, 114, 115, 116, 117, 118, 119, 120, 121, 122, 123, 124, 125, 126, 127, 128, 129, 130, 131, 132, 133, 134, 135, 136, 137] hz2 hX cw_L_31 (M_X8_tear X.l (V 104 0) (A 105) (A 106) (A 107) (A 108) (A 109) (A 110) (A 111) (A 112) (V 104 9) (V 104 10) (A 113) (A 114) (A 115) (A 116) M (A 118) (A 119) (A 120) (A 121) (A 122) (A 123) (A 124) (A 125) (A 126) (A 127) (A 128) (V 104 27) (V 104 28) (A 129) (V 104 30) (V 104 31) (V 104 32) (V 104 33) (V 104 34) (V 104 35) (V 104 36) (A 130) (A 131) (A 132) (A 133) (A 134) (A 135) (V 104 43) (V 104 44) (V 104 45) (V 104 46) (A 136) (A 137) v1 v2 v3) trivial (by decide) (by decide) (qd K_L_law4 6 rfl) rfl hcs rfl rfl rfl rfl (Nat.le_of_ble_eq_true rfl) rfl rfl (Nat.le_of_ble_eq_true rfl) rfl ?_
  refine QG.eqW (Wd' := (wLx rfB kfB (va_rf z) (va_rf tx) (va_up (va_up (va_up (va_up A 63 c1.2.1) 64 c1.2.2.1) 107 c2.2.2.1) 108 c2.2.2.2) (va_up2 V 104 0 c2.2.1) (va_up B 61 c1.2.2.2) L M)) rfl ?_
  show QG X 4 _ _ 323 _ [.int c2.1, .int c1.1] _ ad _ _
  exact QG.ifT (by rw [he]) (QG.icmp_eq (tgt := 1048) (oF := none) hX (qd K_L_law4 7 rfl) rfl (by decide) K QG.nothing)

set_option maxRecDepth 100000 in
set_option maxHeartbeats 4000000 in
theorem C_tear_4 {X : QX} (hX : qok X code RL 4 (some .boolean) 1000) {Q : Unit → State → Prop} {b LL : Nat} {xs : Nat → Int32} (hs0 : va_X b LL xs X.s X.s.heap) (hsl : b < X.s.heap.size) (hsA : ¬ X.A b) (hsb : X.sA 100 = b) {ad : Nat → Nat} {cells slots : Nat} (hcs : cells ≤ X.R.cells ∧ slots ≤ X.R.slots) {A V : Nat → Nat → Int32} {B : Nat → Bool} {L M : Nat → Int64} {z tx : Option Nat} {x3 : Int32} {v1 : Int32} {v2 : Int32} {v3 : Int32} (hi1 : vp_in (x3 + 1) LL) (hv1 : xs (x3 + 1).toNatClampNeg = v1) (hi2 : vp_in (x3 + 2) LL) (hv2 : xs (x3 + 2).toNatClampNeg = v2) (hi3 : vp_in (x3 + 3) LL) (hv3 : xs (x3 + 3).toNatClampNeg = v3) (hr0 : ¬ v1 < 0) (hr1 : ¬ 6 ≤ v1) (hj : v1.toNatClampNeg = 4) {c1 : Int32 × (Nat → Int32) × (Nat → Int32) × Bool} {c2 : Int32 × Int32 × (Nat → Int32) × (Nat → Int32)} (hz1 : F_X7_tear_ok (A 68) (A 69) (V 66 4) (B 66) v1 v2 v3 = some c1) (hz2 : F_X8_tear (V 104 0) (A 105) (A 107) (A 108) v1 v2 v3 = some c2) (he : c1.1 = c2.1)
    (K : QG X 4 Q (some ()) 1048 [(0, .float (UInt32.ofNat 100)), (1, .ref 0), (2, .ref 104), (3, .int x3)] [] (wLx rfB kfB (va_rf z) (va_rf tx) (va_up (va_up (va_up (va_up A 68 c1.2.1) 69 c1.2.2.1) 107 c2.2.2.1) 108 c2.2.2.2) (va_up2 V 104 0 c2.2.1) (va_up B 66 c1.2.2.2) L M) ad cells slots) : QG X 4 Q (some ()) 285 [(0, .float (UInt32.ofNat 100)), (1, .ref 0), (2, .ref 104), (3, .int x3)] [] (wLx rfB kfB (va_rf z) (va_rf tx) A V B L M) ad cells slots := by
  refine QG.aload_n hX (qd K_L_law3 13 rfl) rfl rfl ?_
  refine QG.aload_ns hX (qd K_L_law3 14 rfl) rfl rfl ?_
  refine QG.iload_n hX (qd K_L_law3 15 rfl) rfl rfl ?_
  refine QG.iconst hX (qd K_L_law3 16 rfl) rfl ki_1 ?_
  refine QG.iadd hX (qd K_L_law3 17 rfl) rfl ?_
  refine QG.scld hX hs0 hsl hsA hsb (qd K_L_law3 18 rfl) rfl hi1 hv1 ?_
  refine QG.aload_ns hX (qd K_L_law3 19 rfl) rfl rfl ?_
  refine QG.iload_n hX (qd K_L_law3 20 rfl) rfl rfl ?_
  refine QG.iconst hX (qd K_L_law3 21 rfl) rfl ki_2 ?_
  refine QG.iadd hX (qd K_L_law3 22 rfl) rfl ?_
  refine QG.scld hX hs0 hsl hsA hsb (qd K_L_law3 23 rfl) rfl hi2 hv2 ?_
  refine QG.aload_ns hX (qd K_L_law3 24 rfl) rfl rfl ?_
  refine QG.iload_n hX (qd K_L_law3 25 rfl) rfl rfl ?_
  refine QG.iconst hX (qd K_L_law3 26 rfl) rfl ki_3 ?_
  refine QG.iadd hX (qd K_L_law3 27 rfl) rfl ?_
  refine QG.scld hX hs0 hsl hsA hsb (qd K_L_law3 28 rfl) rfl hi3 hv3 ?_
  refine QG.callVk (rest := []) [0, 1, 66, 67, 68, 69, 70] hz1 hX cw_L_28 (M_X7_tear_ok X.l (fun j => Option.map (qinv [0, 1, 66, 67, 68, 69, 70]) (rfB j)) (A 67) (A 68) (A 69) (A 70) (V 66 4) (B 66) v1 v2 v3 hr0 hr1 (by show Option.map _ (rfB v1.toNatClampNeg) = _; rw [hj]; rfl)) trivial (by decide) (by decide) (qd K_L_law3 29 rfl) rfl hcs rfl rfl rfl rfl (Nat.le_of_ble_eq_true rfl) (Eq.trans (congrArg (fun f => List.map (fun i => (wLx f kfB (va_rf z) (va_rf tx) A V B L M)[i]?) [0, 1, 66, 67, 68, 69, 70]) (qinv_eq [0, 1, 66, 67, 68, 69, 70] rfB).symm) rfl) rfl (Nat.le_of_ble_eq_true rfl) rfl ?_
  refine QG.eqW (Wd' := (wLx (fun j => Option.map (qf [0, 1, 66, 67, 68, 69, 70]) (Option.map (qinv [0, 1, 66, 67, 68, 69, 70]) (rfB j))) kfB (va_rf z) (va_rf tx) (va_up (va_up A 68 c1.2.1) 69 c1.2.2.1) V (va_up B 66 c1.2.2.2) L M)) rfl ?_
  rw [qinv_eq [0, 1, 66, 67, 68, 69, 70] rfB]
  show QG X 4 _ _ 304 _ [.int c1.1] _ ad _ _
  refine QG.aload_n hX (qd K_L_law3 30 rfl) rfl rfl ?_
  refine QG.aload_ns hX (qd K_L_law3 31 rfl) rfl rfl ?_
  refine QG.iload_n hX (qd K_L_law3 32 rfl) rfl rfl ?_
  refine QG.iconst hX (qd K_L_law3 33 rfl) rfl ki_1 ?_
  refine QG.iadd hX (qd K_L_law3 34 rfl) rfl ?_
  refine QG.scld hX hs0 hsl hsA hsb (qd K_L_law3 35 rfl) rfl hi1 hv1 ?_
  refine QG.aload_ns hX (qd K_L_law3 36 rfl) rfl rfl ?_
  refine QG.iload_n hX (qd K_L_law3 37 rfl) rfl rfl ?_
  refine QG.iconst hX (qd K_L_law3 38 rfl) rfl ki_2 ?_
  refine QG.iadd hX (qd K_L_law3 39 rfl) rfl ?_
  refine QG.scld hX hs0 hsl hsA hsb (qd K_L_law4 0 rfl) rfl hi2 hv2 ?_
  refine QG.aload_ns hX (qd K_L_law4 1 rfl) rfl rfl ?_
  refine QG.iload_n hX (qd K_L_law4 2 rfl) rfl rfl ?_
  refine QG.iconst hX (qd K_L_law4 3 rfl) rfl ki_3 ?_
  refine QG.iadd hX (qd K_L_law4 4 rfl) rfl ?_
  refine QG.scld hX hs0 hsl hsA hsb (qd K_L_law4 5 rfl) rfl hi3 hv3 ?_
  refine QG.callVk (rest := [.int c1.1]) [104, 105, 106, 107, 108, 109, 110, 111, 112, 113, 114, 115, 116, 117, 118, 119, 120, 121, 122, 123, 124, 125, 126, 127, 128, 129, 130, 131, 132, 133, 134, 135, 136, 137] hz2 hX cw_L_31 (M_X8_tear X.l (V 104 0) (A 105) (A 106) (A 107) (A 108) (A 109) (A 110) (A 111) (A 112) (V 104 9) (V 104 10) (A 113) (A 114) (A 115) (A 116) M (A 118) (A 119) (A 120) (A 121) (A 122) (A 123) (A 124) (A 125) (A 126) (A 127) (A 128) (V 104 27) (V 104 28) (A 129) (V 104 30) (V 104 31) (V 104 32) (V 104 33) (V 104 34) (V 104 35) (V 104 36) (A 130) (A 131) (A 132) (A 133) (A 134) (A 135) (V 104 43) (V 104 44) (V 104 45) (V 104 46) (A 136) (A 137) v1 v2 v3) trivial (by decide) (by decide) (qd K_L_law4 6 rfl) rfl hcs rfl rfl rfl rfl (Nat.le_of_ble_eq_true rfl) rfl rfl (Nat.le_of_ble_eq_true rfl) rfl ?_
  refine QG.eqW (Wd' := (wLx rfB kfB (va_rf z) (va_rf tx) (va_up (va_up (va_up (va_up A 68 c1.2.1) 69 c1.2.2.1) 107 c2.2.2.1) 108 c2.2.2.2) (va_up2 V 104 0 c2.2.1) (va_up B 66 c1.2.2.2) L M)) rfl ?_
  show QG X 4 _ _ 323 _ [.int c2.1, .int c1.1] _ ad _ _
  exact QG.ifT (by rw [he]) (QG.icmp_eq (tgt := 1048) (oF := none) hX (qd K_L_law4 7 rfl) rfl (by decide) K QG.nothing)

set_option maxRecDepth 100000 in
set_option maxHeartbeats 4000000 in
theorem C_tear_5 {X : QX} (hX : qok X code RL 4 (some .boolean) 1000) {Q : Unit → State → Prop} {b LL : Nat} {xs : Nat → Int32} (hs0 : va_X b LL xs X.s X.s.heap) (hsl : b < X.s.heap.size) (hsA : ¬ X.A b) (hsb : X.sA 100 = b) {ad : Nat → Nat} {cells slots : Nat} (hcs : cells ≤ X.R.cells ∧ slots ≤ X.R.slots) {A V : Nat → Nat → Int32} {B : Nat → Bool} {L M : Nat → Int64} {z tx : Option Nat} {x3 : Int32} {v1 : Int32} {v2 : Int32} {v3 : Int32} (hi1 : vp_in (x3 + 1) LL) (hv1 : xs (x3 + 1).toNatClampNeg = v1) (hi2 : vp_in (x3 + 2) LL) (hv2 : xs (x3 + 2).toNatClampNeg = v2) (hi3 : vp_in (x3 + 3) LL) (hv3 : xs (x3 + 3).toNatClampNeg = v3) (hr0 : ¬ v1 < 0) (hr1 : ¬ 6 ≤ v1) (hj : v1.toNatClampNeg = 5) {c1 : Int32 × (Nat → Int32) × (Nat → Int32) × Bool} {c2 : Int32 × Int32 × (Nat → Int32) × (Nat → Int32)} (hz1 : F_X7_tear_ok (A 73) (A 74) (V 71 4) (B 71) v1 v2 v3 = some c1) (hz2 : F_X8_tear (V 104 0) (A 105) (A 107) (A 108) v1 v2 v3 = some c2) (he : c1.1 = c2.1)
    (K : QG X 4 Q (some ()) 1048 [(0, .float (UInt32.ofNat 100)), (1, .ref 0), (2, .ref 104), (3, .int x3)] [] (wLx rfB kfB (va_rf z) (va_rf tx) (va_up (va_up (va_up (va_up A 73 c1.2.1) 74 c1.2.2.1) 107 c2.2.2.1) 108 c2.2.2.2) (va_up2 V 104 0 c2.2.1) (va_up B 71 c1.2.2.2) L M) ad cells slots) : QG X 4 Q (some ()) 285 [(0, .float (UInt32.ofNat 100)), (1, .ref 0), (2, .ref 104), (3, .int x3)] [] (wLx rfB kfB (va_rf z) (va_rf tx) A V B L M) ad cells slots := by
  refine QG.aload_n hX (qd K_L_law3 13 rfl) rfl rfl ?_
  refine QG.aload_ns hX (qd K_L_law3 14 rfl) rfl rfl ?_
  refine QG.iload_n hX (qd K_L_law3 15 rfl) rfl rfl ?_
  refine QG.iconst hX (qd K_L_law3 16 rfl) rfl ki_1 ?_
  refine QG.iadd hX (qd K_L_law3 17 rfl) rfl ?_
  refine QG.scld hX hs0 hsl hsA hsb (qd K_L_law3 18 rfl) rfl hi1 hv1 ?_
  refine QG.aload_ns hX (qd K_L_law3 19 rfl) rfl rfl ?_
  refine QG.iload_n hX (qd K_L_law3 20 rfl) rfl rfl ?_
  refine QG.iconst hX (qd K_L_law3 21 rfl) rfl ki_2 ?_
  refine QG.iadd hX (qd K_L_law3 22 rfl) rfl ?_
  refine QG.scld hX hs0 hsl hsA hsb (qd K_L_law3 23 rfl) rfl hi2 hv2 ?_
  refine QG.aload_ns hX (qd K_L_law3 24 rfl) rfl rfl ?_
  refine QG.iload_n hX (qd K_L_law3 25 rfl) rfl rfl ?_
  refine QG.iconst hX (qd K_L_law3 26 rfl) rfl ki_3 ?_
  refine QG.iadd hX (qd K_L_law3 27 rfl) rfl ?_
  refine QG.scld hX hs0 hsl hsA hsb (qd K_L_law3 28 rfl) rfl hi3 hv3 ?_
  refine QG.callVk (rest := []) [0, 1, 71, 72, 73, 74, 75] hz1 hX cw_L_28 (M_X7_tear_ok X.l (fun j => Option.map (qinv [0, 1, 71, 72, 73, 74, 75]) (rfB j)) (A 72) (A 73) (A 74) (A 75) (V 71 4) (B 71) v1 v2 v3 hr0 hr1 (by show Option.map _ (rfB v1.toNatClampNeg) = _; rw [hj]; rfl)) trivial (by decide) (by decide) (qd K_L_law3 29 rfl) rfl hcs rfl rfl rfl rfl (Nat.le_of_ble_eq_true rfl) (Eq.trans (congrArg (fun f => List.map (fun i => (wLx f kfB (va_rf z) (va_rf tx) A V B L M)[i]?) [0, 1, 71, 72, 73, 74, 75]) (qinv_eq [0, 1, 71, 72, 73, 74, 75] rfB).symm) rfl) rfl (Nat.le_of_ble_eq_true rfl) rfl ?_
  refine QG.eqW (Wd' := (wLx (fun j => Option.map (qf [0, 1, 71, 72, 73, 74, 75]) (Option.map (qinv [0, 1, 71, 72, 73, 74, 75]) (rfB j))) kfB (va_rf z) (va_rf tx) (va_up (va_up A 73 c1.2.1) 74 c1.2.2.1) V (va_up B 71 c1.2.2.2) L M)) rfl ?_
  rw [qinv_eq [0, 1, 71, 72, 73, 74, 75] rfB]
  show QG X 4 _ _ 304 _ [.int c1.1] _ ad _ _
  refine QG.aload_n hX (qd K_L_law3 30 rfl) rfl rfl ?_
  refine QG.aload_ns hX (qd K_L_law3 31 rfl) rfl rfl ?_
  refine QG.iload_n hX (qd K_L_law3 32 rfl) rfl rfl ?_
  refine QG.iconst hX (qd K_L_law3 33 rfl) rfl ki_1 ?_
  refine QG.iadd hX (qd K_L_law3 34 rfl) rfl ?_
  refine QG.scld hX hs0 hsl hsA hsb (qd K_L_law3 35 rfl) rfl hi1 hv1 ?_
  refine QG.aload_ns hX (qd K_L_law3 36 rfl) rfl rfl ?_
  refine QG.iload_n hX (qd K_L_law3 37 rfl) rfl rfl ?_
  refine QG.iconst hX (qd K_L_law3 38 rfl) rfl ki_2 ?_
  refine QG.iadd hX (qd K_L_law3 39 rfl) rfl ?_
  refine QG.scld hX hs0 hsl hsA hsb (qd K_L_law4 0 rfl) rfl hi2 hv2 ?_
  refine QG.aload_ns hX (qd K_L_law4 1 rfl) rfl rfl ?_
  refine QG.iload_n hX (qd K_L_law4 2 rfl) rfl rfl ?_
  refine QG.iconst hX (qd K_L_law4 3 rfl) rfl ki_3 ?_
  refine QG.iadd hX (qd K_L_law4 4 rfl) rfl ?_
  refine QG.scld hX hs0 hsl hsA hsb (qd K_L_law4 5 rfl) rfl hi3 hv3 ?_
  refine QG.callVk (rest := [.int c1.1]) [104, 105, 106, 107, 108, 109, 110, 111, 112, 113, 114, 115, 116, 117, 118, 119, 120, 121, 122, 123, 124, 125, 126, 127, 128, 129, 130, 131, 132, 133, 134, 135, 136, 137] hz2 hX cw_L_31 (M_X8_tear X.l (V 104 0) (A 105) (A 106) (A 107) (A 108) (A 109) (A 110) (A 111) (A 112) (V 104 9) (V 104 10) (A 113) (A 114) (A 115) (A 116) M (A 118) (A 119) (A 120) (A 121) (A 122) (A 123) (A 124) (A 125) (A 126) (A 127) (A 128) (V 104 27) (V 104 28) (A 129) (V 104 30) (V 104 31) (V 104 32) (V 104 33) (V 104 34) (V 104 35) (V 104 36) (A 130) (A 131) (A 132) (A 133) (A 134) (A 135) (V 104 43) (V 104 44) (V 104 45) (V 104 46) (A 136) (A 137) v1 v2 v3) trivial (by decide) (by decide) (qd K_L_law4 6 rfl) rfl hcs rfl rfl rfl rfl (Nat.le_of_ble_eq_true rfl) rfl rfl (Nat.le_of_ble_eq_true rfl) rfl ?_
  refine QG.eqW (Wd' := (wLx rfB kfB (va_rf z) (va_rf tx) (va_up (va_up (va_up (va_up A 73 c1.2.1) 74 c1.2.2.1) 107 c2.2.2.1) 108 c2.2.2.2) (va_up2 V 104 0 c2.2.1) (va_up B 71 c1.2.2.2) L M)) rfl ?_
  show QG X 4 _ _ 323 _ [.int c2.1, .int c1.1] _ ad _ _
  exact QG.ifT (by rw [he]) (QG.icmp_eq (tgt := 1048) (oF := none) hX (qd K_L_law4 7 rfl) rfl (by decide) K QG.nothing)

set_option maxRecDepth 100000 in
set_option maxHeartbeats 4000000 in
theorem C_look_no {X : QX} (hX : qok X code RL 4 (some .boolean) 1000) {Q : Unit → State → Prop} {b LL : Nat} {xs : Nat → Int32} (hs0 : va_X b LL xs X.s X.s.heap) (hsl : b < X.s.heap.size) (hsA : ¬ X.A b) (hsb : X.sA 100 = b) {ad : Nat → Nat} {cells slots : Nat} (hcs : cells ≤ X.R.cells ∧ slots ≤ X.R.slots) {A V : Nat → Nat → Int32} {B : Nat → Bool} {L M : Nat → Int64} {z tx : Option Nat} {x3 : Int32} {v1 : Int32} {v2 : Int32} {v3 : Int32} (hi1 : vp_in (x3 + 1) LL) (hv1 : xs (x3 + 1).toNatClampNeg = v1) (hi2 : vp_in (x3 + 2) LL) (hv2 : xs (x3 + 2).toNatClampNeg = v2) (hi3 : vp_in (x3 + 3) LL) (hv3 : xs (x3 + 3).toNatClampNeg = v3) (hr : v1 < 0 ∨ 6 ≤ v1) {c1 : Int32} {c2 : Int32 × Int32} (hz1 : F_X7_look_no v1 v2 v3 = some c1) (hz2 : F_X8_look (V 104 0) (A 105) (A 106) (A 108) v1 v2 v3 = some c2) (he : c1 = c2.1)
    (K : QG X 4 Q (some ()) 1048 [(0, .float (UInt32.ofNat 100)), (1, .ref 0), (2, .ref 104), (3, .int x3)] [] (wLx rfB kfB (va_rf z) (va_rf tx) A (va_up2 V 104 0 c2.2) B L M) ad cells slots) : QG X 4 Q (some ()) 328 [(0, .float (UInt32.ofNat 100)), (1, .ref 0), (2, .ref 104), (3, .int x3)] [] (wLx rfB kfB (va_rf z) (va_rf tx) A V B L M) ad cells slots := by
  refine QG.aload_n hX (qd K_L_law4 10 rfl) rfl rfl ?_
  refine QG.aload_ns hX (qd K_L_law4 11 rfl) rfl rfl ?_
  refine QG.iload_n hX (qd K_L_law4 12 rfl) rfl rfl ?_
  refine QG.iconst hX (qd K_L_law4 13 rfl) rfl ki_1 ?_
  refine QG.iadd hX (qd K_L_law4 14 rfl) rfl ?_
  refine QG.scld hX hs0 hsl hsA hsb (qd K_L_law4 15 rfl) rfl hi1 hv1 ?_
  refine QG.aload_ns hX (qd K_L_law4 16 rfl) rfl rfl ?_
  refine QG.iload_n hX (qd K_L_law4 17 rfl) rfl rfl ?_
  refine QG.iconst hX (qd K_L_law4 18 rfl) rfl ki_2 ?_
  refine QG.iadd hX (qd K_L_law4 19 rfl) rfl ?_
  refine QG.scld hX hs0 hsl hsA hsb (qd K_L_law4 20 rfl) rfl hi2 hv2 ?_
  refine QG.aload_ns hX (qd K_L_law4 21 rfl) rfl rfl ?_
  refine QG.iload_n hX (qd K_L_law4 22 rfl) rfl rfl ?_
  refine QG.iconst hX (qd K_L_law4 23 rfl) rfl ki_3 ?_
  refine QG.iadd hX (qd K_L_law4 24 rfl) rfl ?_
  refine QG.scld hX hs0 hsl hsA hsb (qd K_L_law4 25 rfl) rfl hi3 hv3 ?_
  refine QG.callVk (rest := []) [0, 1] hz1 hX cw_L_32 (M_X7_look_no X.l (fun j => Option.map (qinv [0, 1]) (rfB j)) v1 v2 v3 hr) trivial (by decide) (by decide) (qd K_L_law4 26 rfl) rfl hcs rfl rfl rfl rfl (Nat.le_of_ble_eq_true rfl) (Eq.trans (congrArg (fun f => List.map (fun i => (wLx f kfB (va_rf z) (va_rf tx) A V B L M)[i]?) [0, 1]) (qinv_eq [0, 1] rfB).symm) rfl) rfl (Nat.le_of_ble_eq_true rfl) rfl ?_
  refine QG.eqW (Wd' := (wLx (fun j => Option.map (qf [0, 1]) (Option.map (qinv [0, 1]) (rfB j))) kfB (va_rf z) (va_rf tx) A V B L M)) rfl ?_
  rw [qinv_eq [0, 1] rfB]
  show QG X 4 _ _ 347 _ [.int c1] _ ad _ _
  refine QG.aload_n hX (qd K_L_law4 27 rfl) rfl rfl ?_
  refine QG.aload_ns hX (qd K_L_law4 28 rfl) rfl rfl ?_
  refine QG.iload_n hX (qd K_L_law4 29 rfl) rfl rfl ?_
  refine QG.iconst hX (qd K_L_law4 30 rfl) rfl ki_1 ?_
  refine QG.iadd hX (qd K_L_law4 31 rfl) rfl ?_
  refine QG.scld hX hs0 hsl hsA hsb (qd K_L_law4 32 rfl) rfl hi1 hv1 ?_
  refine QG.aload_ns hX (qd K_L_law4 33 rfl) rfl rfl ?_
  refine QG.iload_n hX (qd K_L_law4 34 rfl) rfl rfl ?_
  refine QG.iconst hX (qd K_L_law4 35 rfl) rfl ki_2 ?_
  refine QG.iadd hX (qd K_L_law4 36 rfl) rfl ?_
  refine QG.scld hX hs0 hsl hsA hsb (qd K_L_law4 37 rfl) rfl hi2 hv2 ?_
  refine QG.aload_ns hX (qd K_L_law4 38 rfl) rfl rfl ?_
  refine QG.iload_n hX (qd K_L_law4 39 rfl) rfl rfl ?_
  refine QG.iconst hX (qd K_L_law5 0 rfl) rfl ki_3 ?_
  refine QG.iadd hX (qd K_L_law5 1 rfl) rfl ?_
  refine QG.scld hX hs0 hsl hsA hsb (qd K_L_law5 2 rfl) rfl hi3 hv3 ?_
  refine QG.callVk (rest := [.int c1]) [104, 105, 106, 107, 108, 109, 110, 111, 112, 113, 114, 115, 116, 117, 118, 119, 120, 121, 122, 123, 124, 125, 126, 127, 128, 129, 130, 131, 132, 133, 134, 135, 136, 137] hz2 hX cw_L_35 (M_X8_look X.l (V 104 0) (A 105) (A 106) (A 107) (A 108) (A 109) (A 110) (A 111) (A 112) (V 104 9) (V 104 10) (A 113) (A 114) (A 115) (A 116) M (A 118) (A 119) (A 120) (A 121) (A 122) (A 123) (A 124) (A 125) (A 126) (A 127) (A 128) (V 104 27) (V 104 28) (A 129) (V 104 30) (V 104 31) (V 104 32) (V 104 33) (V 104 34) (V 104 35) (V 104 36) (A 130) (A 131) (A 132) (A 133) (A 134) (A 135) (V 104 43) (V 104 44) (V 104 45) (V 104 46) (A 136) (A 137) v1 v2 v3) trivial (by decide) (by decide) (qd K_L_law5 3 rfl) rfl hcs rfl rfl rfl rfl (Nat.le_of_ble_eq_true rfl) rfl rfl (Nat.le_of_ble_eq_true rfl) rfl ?_
  refine QG.eqW (Wd' := (wLx rfB kfB (va_rf z) (va_rf tx) A (va_up2 V 104 0 c2.2) B L M)) rfl ?_
  show QG X 4 _ _ 366 _ [.int c2.1, .int c1] _ ad _ _
  exact QG.ifT (by rw [he]) (QG.icmp_eq (tgt := 1048) (oF := none) hX (qd K_L_law5 4 rfl) rfl (by decide) K QG.nothing)

set_option maxRecDepth 100000 in
set_option maxHeartbeats 4000000 in
theorem C_look_0 {X : QX} (hX : qok X code RL 4 (some .boolean) 1000) {Q : Unit → State → Prop} {b LL : Nat} {xs : Nat → Int32} (hs0 : va_X b LL xs X.s X.s.heap) (hsl : b < X.s.heap.size) (hsA : ¬ X.A b) (hsb : X.sA 100 = b) {ad : Nat → Nat} {cells slots : Nat} (hcs : cells ≤ X.R.cells ∧ slots ≤ X.R.slots) {A V : Nat → Nat → Int32} {B : Nat → Bool} {L M : Nat → Int64} {z tx : Option Nat} {x3 : Int32} {v1 : Int32} {v2 : Int32} {v3 : Int32} (hi1 : vp_in (x3 + 1) LL) (hv1 : xs (x3 + 1).toNatClampNeg = v1) (hi2 : vp_in (x3 + 2) LL) (hv2 : xs (x3 + 2).toNatClampNeg = v2) (hi3 : vp_in (x3 + 3) LL) (hv3 : xs (x3 + 3).toNatClampNeg = v3) (hr0 : ¬ v1 < 0) (hr1 : ¬ 6 ≤ v1) (hj : v1.toNatClampNeg = 0) {c1 : Int32} {c2 : Int32 × Int32} (hz1 : F_X7_look_ok (A 47) (A 49) (V 46 4) v1 v2 v3 = some c1) (hz2 : F_X8_look (V 104 0) (A 105) (A 106) (A 108) v1 v2 v3 = some c2) (he : c1 = c2.1)
    (K : QG X 4 Q (some ()) 1048 [(0, .float (UInt32.ofNat 100)), (1, .ref 0), (2, .ref 104), (3, .int x3)] [] (wLx rfB kfB (va_rf z) (va_rf tx) A (va_up2 V 104 0 c2.2) B L M) ad cells slots) : QG X 4 Q (some ()) 328 [(0, .float (UInt32.ofNat 100)), (1, .ref 0), (2, .ref 104), (3, .int x3)] [] (wLx rfB kfB (va_rf z) (va_rf tx) A V B L M) ad cells slots := by
  refine QG.aload_n hX (qd K_L_law4 10 rfl) rfl rfl ?_
  refine QG.aload_ns hX (qd K_L_law4 11 rfl) rfl rfl ?_
  refine QG.iload_n hX (qd K_L_law4 12 rfl) rfl rfl ?_
  refine QG.iconst hX (qd K_L_law4 13 rfl) rfl ki_1 ?_
  refine QG.iadd hX (qd K_L_law4 14 rfl) rfl ?_
  refine QG.scld hX hs0 hsl hsA hsb (qd K_L_law4 15 rfl) rfl hi1 hv1 ?_
  refine QG.aload_ns hX (qd K_L_law4 16 rfl) rfl rfl ?_
  refine QG.iload_n hX (qd K_L_law4 17 rfl) rfl rfl ?_
  refine QG.iconst hX (qd K_L_law4 18 rfl) rfl ki_2 ?_
  refine QG.iadd hX (qd K_L_law4 19 rfl) rfl ?_
  refine QG.scld hX hs0 hsl hsA hsb (qd K_L_law4 20 rfl) rfl hi2 hv2 ?_
  refine QG.aload_ns hX (qd K_L_law4 21 rfl) rfl rfl ?_
  refine QG.iload_n hX (qd K_L_law4 22 rfl) rfl rfl ?_
  refine QG.iconst hX (qd K_L_law4 23 rfl) rfl ki_3 ?_
  refine QG.iadd hX (qd K_L_law4 24 rfl) rfl ?_
  refine QG.scld hX hs0 hsl hsA hsb (qd K_L_law4 25 rfl) rfl hi3 hv3 ?_
  refine QG.callVk (rest := []) [0, 1, 46, 47, 48, 49, 50] hz1 hX cw_L_32 (M_X7_look_ok X.l (fun j => Option.map (qinv [0, 1, 46, 47, 48, 49, 50]) (rfB j)) (A 47) (A 48) (A 49) (A 50) (V 46 4) (B 46) v1 v2 v3 hr0 hr1 (by show Option.map _ (rfB v1.toNatClampNeg) = _; rw [hj]; rfl)) trivial (by decide) (by decide) (qd K_L_law4 26 rfl) rfl hcs rfl rfl rfl rfl (Nat.le_of_ble_eq_true rfl) (Eq.trans (congrArg (fun f => List.map (fun i => (wLx f kfB (va_rf z) (va_rf tx) A V B L M)[i]?) [0, 1, 46, 47, 48, 49, 50]) (qinv_eq [0, 1, 46, 47, 48, 49, 50] rfB).symm) rfl) rfl (Nat.le_of_ble_eq_true rfl) rfl ?_
  refine QG.eqW (Wd' := (wLx (fun j => Option.map (qf [0, 1, 46, 47, 48, 49, 50]) (Option.map (qinv [0, 1, 46, 47, 48, 49, 50]) (rfB j))) kfB (va_rf z) (va_rf tx) A V B L M)) rfl ?_
  rw [qinv_eq [0, 1, 46, 47, 48, 49, 50] rfB]
  show QG X 4 _ _ 347 _ [.int c1] _ ad _ _
  refine QG.aload_n hX (qd K_L_law4 27 rfl) rfl rfl ?_
  refine QG.aload_ns hX (qd K_L_law4 28 rfl) rfl rfl ?_
  refine QG.iload_n hX (qd K_L_law4 29 rfl) rfl rfl ?_
  refine QG.iconst hX (qd K_L_law4 30 rfl) rfl ki_1 ?_
  refine QG.iadd hX (qd K_L_law4 31 rfl) rfl ?_
  refine QG.scld hX hs0 hsl hsA hsb (qd K_L_law4 32 rfl) rfl hi1 hv1 ?_
  refine QG.aload_ns hX (qd K_L_law4 33 rfl) rfl rfl ?_
  refine QG.iload_n hX (qd K_L_law4 34 rfl) rfl rfl ?_
  refine QG.iconst hX (qd K_L_law4 35 rfl) rfl ki_2 ?_
  refine QG.iadd hX (qd K_L_law4 36 rfl) rfl ?_
  refine QG.scld hX hs0 hsl hsA hsb (qd K_L_law4 37 rfl) rfl hi2 hv2 ?_
  refine QG.aload_ns hX (qd K_L_law4 38 rfl) rfl rfl ?_
  refine QG.iload_n hX (qd K_L_law4 39 rfl) rfl rfl ?_
  refine QG.iconst hX (qd K_L_law5 0 rfl) rfl ki_3 ?_
  refine QG.iadd hX (qd K_L_law5 1 rfl) rfl ?_
  refine QG.scld hX hs0 hsl hsA hsb (qd K_L_law5 2 rfl) rfl hi3 hv3 ?_
  refine QG.callVk (rest := [.int c1]) [104, 105, 106, 107, 108, 109, 110, 111, 112, 113, 114, 115, 116, 117, 118, 119, 120, 121, 122, 123, 124, 125, 126, 127, 128, 129, 130, 131, 132, 133, 134, 135, 136, 137] hz2 hX cw_L_35 (M_X8_look X.l (V 104 0) (A 105) (A 106) (A 107) (A 108) (A 109) (A 110) (A 111) (A 112) (V 104 9) (V 104 10) (A 113) (A 114) (A 115) (A 116) M (A 118) (A 119) (A 120) (A 121) (A 122) (A 123) (A 124) (A 125) (A 126) (A 127) (A 128) (V 104 27) (V 104 28) (A 129) (V 104 30) (V 104 31) (V 104 32) (V 104 33) (V 104 34) (V 104 35) (V 104 36) (A 130) (A 131) (A 132) (A 133) (A 134) (A 135) (V 104 43) (V 104 44) (V 104 45) (V 104 46) (A 136) (A 137) v1 v2 v3) trivial (by decide) (by decide) (qd K_L_law5 3 rfl) rfl hcs rfl rfl rfl rfl (Nat.le_of_ble_eq_true rfl) rfl rfl (Nat.le_of_ble_eq_true rfl) rfl ?_
  refine QG.eqW (Wd' := (wLx rfB kfB (va_rf z) (va_rf tx) A (va_up2 V 104 0 c2.2) B L M)) rfl ?_
  show QG X 4 _ _ 366 _ [.int c2.1, .int c1] _ ad _ _
  exact QG.ifT (by rw [he]) (QG.icmp_eq (tgt := 1048) (oF := none) hX (qd K_L_law5 4 rfl) rfl (by decide) K QG.nothing)

set_option maxRecDepth 100000 in
set_option maxHeartbeats 4000000 in
theorem C_look_1 {X : QX} (hX : qok X code RL 4 (some .boolean) 1000) {Q : Unit → State → Prop} {b LL : Nat} {xs : Nat → Int32} (hs0 : va_X b LL xs X.s X.s.heap) (hsl : b < X.s.heap.size) (hsA : ¬ X.A b) (hsb : X.sA 100 = b) {ad : Nat → Nat} {cells slots : Nat} (hcs : cells ≤ X.R.cells ∧ slots ≤ X.R.slots) {A V : Nat → Nat → Int32} {B : Nat → Bool} {L M : Nat → Int64} {z tx : Option Nat} {x3 : Int32} {v1 : Int32} {v2 : Int32} {v3 : Int32} (hi1 : vp_in (x3 + 1) LL) (hv1 : xs (x3 + 1).toNatClampNeg = v1) (hi2 : vp_in (x3 + 2) LL) (hv2 : xs (x3 + 2).toNatClampNeg = v2) (hi3 : vp_in (x3 + 3) LL) (hv3 : xs (x3 + 3).toNatClampNeg = v3) (hr0 : ¬ v1 < 0) (hr1 : ¬ 6 ≤ v1) (hj : v1.toNatClampNeg = 1) {c1 : Int32} {c2 : Int32 × Int32} (hz1 : F_X7_look_ok (A 52) (A 54) (V 51 4) v1 v2 v3 = some c1) (hz2 : F_X8_look (V 104 0) (A 105) (A 106) (A 108) v1 v2 v3 = some c2) (he : c1 = c2.1)
    (K : QG X 4 Q (some ()) 1048 [(0, .float (UInt32.ofNat 100)), (1, .ref 0), (2, .ref 104), (3, .int x3)] [] (wLx rfB kfB (va_rf z) (va_rf tx) A (va_up2 V 104 0 c2.2) B L M) ad cells slots) : QG X 4 Q (some ()) 328 [(0, .float (UInt32.ofNat 100)), (1, .ref 0), (2, .ref 104), (3, .int x3)] [] (wLx rfB kfB (va_rf z) (va_rf tx) A V B L M) ad cells slots := by
  refine QG.aload_n hX (qd K_L_law4 10 rfl) rfl rfl ?_
  refine QG.aload_ns hX (qd K_L_law4 11 rfl) rfl rfl ?_
  refine QG.iload_n hX (qd K_L_law4 12 rfl) rfl rfl ?_
  refine QG.iconst hX (qd K_L_law4 13 rfl) rfl ki_1 ?_
  refine QG.iadd hX (qd K_L_law4 14 rfl) rfl ?_
  refine QG.scld hX hs0 hsl hsA hsb (qd K_L_law4 15 rfl) rfl hi1 hv1 ?_
  refine QG.aload_ns hX (qd K_L_law4 16 rfl) rfl rfl ?_
  refine QG.iload_n hX (qd K_L_law4 17 rfl) rfl rfl ?_
  refine QG.iconst hX (qd K_L_law4 18 rfl) rfl ki_2 ?_
  refine QG.iadd hX (qd K_L_law4 19 rfl) rfl ?_
  refine QG.scld hX hs0 hsl hsA hsb (qd K_L_law4 20 rfl) rfl hi2 hv2 ?_
  refine QG.aload_ns hX (qd K_L_law4 21 rfl) rfl rfl ?_
  refine QG.iload_n hX (qd K_L_law4 22 rfl) rfl rfl ?_
  refine QG.iconst hX (qd K_L_law4 23 rfl) rfl ki_3 ?_
  refine QG.iadd hX (qd K_L_law4 24 rfl) rfl ?_
  refine QG.scld hX hs0 hsl hsA hsb (qd K_L_law4 25 rfl) rfl hi3 hv3 ?_
  refine QG.callVk (rest := []) [0, 1, 51, 52, 53, 54, 55] hz1 hX cw_L_32 (M_X7_look_ok X.l (fun j => Option.map (qinv [0, 1, 51, 52, 53, 54, 55]) (rfB j)) (A 52) (A 53) (A 54) (A 55) (V 51 4) (B 51) v1 v2 v3 hr0 hr1 (by show Option.map _ (rfB v1.toNatClampNeg) = _; rw [hj]; rfl)) trivial (by decide) (by decide) (qd K_L_law4 26 rfl) rfl hcs rfl rfl rfl rfl (Nat.le_of_ble_eq_true rfl) (Eq.trans (congrArg (fun f => List.map (fun i => (wLx f kfB (va_rf z) (va_rf tx) A V B L M)[i]?) [0, 1, 51, 52, 53, 54, 55]) (qinv_eq [0, 1, 51, 52, 53, 54, 55] rfB).symm) rfl) rfl (Nat.le_of_ble_eq_true rfl) rfl ?_
  refine QG.eqW (Wd' := (wLx (fun j => Option.map (qf [0, 1, 51, 52, 53, 54, 55]) (Option.map (qinv [0, 1, 51, 52, 53, 54, 55]) (rfB j))) kfB (va_rf z) (va_rf tx) A V B L M)) rfl ?_
  rw [qinv_eq [0, 1, 51, 52, 53, 54, 55] rfB]
  show QG X 4 _ _ 347 _ [.int c1] _ ad _ _
  refine QG.aload_n hX (qd K_L_law4 27 rfl) rfl rfl ?_
  refine QG.aload_ns hX (qd K_L_law4 28 rfl) rfl rfl ?_
  refine QG.iload_n hX (qd K_L_law4 29 rfl) rfl rfl ?_
  refine QG.iconst hX (qd K_L_law4 30 rfl) rfl ki_1 ?_
  refine QG.iadd hX (qd K_L_law4 31 rfl) rfl ?_
  refine QG.scld hX hs0 hsl hsA hsb (qd K_L_law4 32 rfl) rfl hi1 hv1 ?_
  refine QG.aload_ns hX (qd K_L_law4 33 rfl) rfl rfl ?_
  refine QG.iload_n hX (qd K_L_law4 34 rfl) rfl rfl ?_
  refine QG.iconst hX (qd K_L_law4 35 rfl) rfl ki_2 ?_
  refine QG.iadd hX (qd K_L_law4 36 rfl) rfl ?_
  refine QG.scld hX hs0 hsl hsA hsb (qd K_L_law4 37 rfl) rfl hi2 hv2 ?_
  refine QG.aload_ns hX (qd K_L_law4 38 rfl) rfl rfl ?_
  refine QG.iload_n hX (qd K_L_law4 39 rfl) rfl rfl ?_
  refine QG.iconst hX (qd K_L_law5 0 rfl) rfl ki_3 ?_
  refine QG.iadd hX (qd K_L_law5 1 rfl) rfl ?_
  refine QG.scld hX hs0 hsl hsA hsb (qd K_L_law5 2 rfl) rfl hi3 hv3 ?_
  refine QG.callVk (rest := [.int c1]) [104, 105, 106, 107, 108, 109, 110, 111, 112, 113, 114, 115, 116, 117, 118, 119, 120, 121, 122, 123, 124, 125, 126, 127, 128, 129, 130, 131, 132, 133, 134, 135, 136, 137] hz2 hX cw_L_35 (M_X8_look X.l (V 104 0) (A 105) (A 106) (A 107) (A 108) (A 109) (A 110) (A 111) (A 112) (V 104 9) (V 104 10) (A 113) (A 114) (A 115) (A 116) M (A 118) (A 119) (A 120) (A 121) (A 122) (A 123) (A 124) (A 125) (A 126) (A 127) (A 128) (V 104 27) (V 104 28) (A 129) (V 104 30) (V 104 31) (V 104 32) (V 104 33) (V 104 34) (V 104 35) (V 104 36) (A 130) (A 131) (A 132) (A 133) (A 134) (A 135) (V 104 43) (V 104 44) (V 104 45) (V 104 46) (A 136) (A 137) v1 v2 v3) trivial (by decide) (by decide) (qd K_L_law5 3 rfl) rfl hcs rfl rfl rfl rfl (Nat.le_of_ble_eq_true rfl) rfl rfl (Nat.le_of_ble_eq_true rfl) rfl ?_
  refine QG.eqW (Wd' := (wLx rfB kfB (va_rf z) (va_rf tx) A (va_up2 V 104 0 c2.2) B L M)) rfl ?_
  show QG X 4 _ _ 366 _ [.int c2.1, .int c1] _ ad _ _
  exact QG.ifT (by rw [he]) (QG.icmp_eq (tgt := 1048) (oF := none) hX (qd K_L_law5 4 rfl) rfl (by decide) K QG.nothing)

set_option maxRecDepth 100000 in
set_option maxHeartbeats 4000000 in
theorem C_look_2 {X : QX} (hX : qok X code RL 4 (some .boolean) 1000) {Q : Unit → State → Prop} {b LL : Nat} {xs : Nat → Int32} (hs0 : va_X b LL xs X.s X.s.heap) (hsl : b < X.s.heap.size) (hsA : ¬ X.A b) (hsb : X.sA 100 = b) {ad : Nat → Nat} {cells slots : Nat} (hcs : cells ≤ X.R.cells ∧ slots ≤ X.R.slots) {A V : Nat → Nat → Int32} {B : Nat → Bool} {L M : Nat → Int64} {z tx : Option Nat} {x3 : Int32} {v1 : Int32} {v2 : Int32} {v3 : Int32} (hi1 : vp_in (x3 + 1) LL) (hv1 : xs (x3 + 1).toNatClampNeg = v1) (hi2 : vp_in (x3 + 2) LL) (hv2 : xs (x3 + 2).toNatClampNeg = v2) (hi3 : vp_in (x3 + 3) LL) (hv3 : xs (x3 + 3).toNatClampNeg = v3) (hr0 : ¬ v1 < 0) (hr1 : ¬ 6 ≤ v1) (hj : v1.toNatClampNeg = 2) {c1 : Int32} {c2 : Int32 × Int32} (hz1 : F_X7_look_ok (A 57) (A 59) (V 56 4) v1 v2 v3 = some c1) (hz2 : F_X8_look (V 104 0) (A 105) (A 106) (A 108) v1 v2 v3 = some c2) (he : c1 = c2.1)
    (K : QG X 4 Q (some ()) 1048 [(0, .float (UInt32.ofNat 100)), (1, .ref 0), (2, .ref 104), (3, .int x3)] [] (wLx rfB kfB (va_rf z) (va_rf tx) A (va_up2 V 104 0 c2.2) B L M) ad cells slots) : QG X 4 Q (some ()) 328 [(0, .float (UInt32.ofNat 100)), (1, .ref 0), (2, .ref 104), (3, .int x3)] [] (wLx rfB kfB (va_rf z) (va_rf tx) A V B L M) ad cells slots := by
  refine QG.aload_n hX (qd K_L_law4 10 rfl) rfl rfl ?_
  refine QG.aload_ns hX (qd K_L_law4 11 rfl) rfl rfl ?_
  refine QG.iload_n hX (qd K_L_law4 12 rfl) rfl rfl ?_
  refine QG.iconst hX (qd K_L_law4 13 rfl) rfl ki_1 ?_
  refine QG.iadd hX (qd K_L_law4 14 rfl) rfl ?_
  refine QG.scld hX hs0 hsl hsA hsb (qd K_L_law4 15 rfl) rfl hi1 hv1 ?_
  refine QG.aload_ns hX (qd K_L_law4 16 rfl) rfl rfl ?_
  refine QG.iload_n hX (qd K_L_law4 17 rfl) rfl rfl ?_
  refine QG.iconst hX (qd K_L_law4 18 rfl) rfl ki_2 ?_
  refine QG.iadd hX (qd K_L_law4 19 rfl) rfl ?_
  refine QG.scld hX hs0 hsl hsA hsb (qd K_L_law4 20 rfl) rfl hi2 hv2 ?_
  refine QG.aload_ns hX (qd K_L_law4 21 rfl) rfl rfl ?_
  refine QG.iload_n hX (qd K_L_law4 22 rfl) rfl rfl ?_
  refine QG.iconst hX (qd K_L_law4 23 rfl) rfl ki_3 ?_
  refine QG.iadd hX (qd K_L_law4 24 rfl) rfl ?_
  refine QG.scld hX hs0 hsl hsA hsb (qd K_L_law4 25 rfl) rfl hi3 hv3 ?_
  refine QG.callVk (rest := []) [0, 1, 56, 57, 58, 59, 60] hz1 hX cw_L_32 (M_X7_look_ok X.l (fun j => Option.map (qinv [0, 1, 56, 57, 58, 59, 60]) (rfB j)) (A 57) (A 58) (A 59) (A 60) (V 56 4) (B 56) v1 v2 v3 hr0 hr1 (by show Option.map _ (rfB v1.toNatClampNeg) = _; rw [hj]; rfl)) trivial (by decide) (by decide) (qd K_L_law4 26 rfl) rfl hcs rfl rfl rfl rfl (Nat.le_of_ble_eq_true rfl) (Eq.trans (congrArg (fun f => List.map (fun i => (wLx f kfB (va_rf z) (va_rf tx) A V B L M)[i]?) [0, 1, 56, 57, 58, 59, 60]) (qinv_eq [0, 1, 56, 57, 58, 59, 60] rfB).symm) rfl) rfl (Nat.le_of_ble_eq_true rfl) rfl ?_
  refine QG.eqW (Wd' := (wLx (fun j => Option.map (qf [0, 1, 56, 57, 58, 59, 60]) (Option.map (qinv [0, 1, 56, 57, 58, 59, 60]) (rfB j))) kfB (va_rf z) (va_rf tx) A V B L M)) rfl ?_
  rw [qinv_eq [0, 1, 56, 57, 58, 59, 60] rfB]
  show QG X 4 _ _ 347 _ [.int c1] _ ad _ _
  refine QG.aload_n hX (qd K_L_law4 27 rfl) rfl rfl ?_
  refine QG.aload_ns hX (qd K_L_law4 28 rfl) rfl rfl ?_
  refine QG.iload_n hX (qd K_L_law4 29 rfl) rfl rfl ?_
  refine QG.iconst hX (qd K_L_law4 30 rfl) rfl ki_1 ?_
  refine QG.iadd hX (qd K_L_law4 31 rfl) rfl ?_
  refine QG.scld hX hs0 hsl hsA hsb (qd K_L_law4 32 rfl) rfl hi1 hv1 ?_
  refine QG.aload_ns hX (qd K_L_law4 33 rfl) rfl rfl ?_
  refine QG.iload_n hX (qd K_L_law4 34 rfl) rfl rfl ?_
  refine QG.iconst hX (qd K_L_law4 35 rfl) rfl ki_2 ?_
  refine QG.iadd hX (qd K_L_law4 36 rfl) rfl ?_
  refine QG.scld hX hs0 hsl hsA hsb (qd K_L_law4 37 rfl) rfl hi2 hv2 ?_
  refine QG.aload_ns hX (qd K_L_law4 38 rfl) rfl rfl ?_
  refine QG.iload_n hX (qd K_L_law4 39 rfl) rfl rfl ?_
  refine QG.iconst hX (qd K_L_law5 0 rfl) rfl ki_3 ?_
  refine QG.iadd hX (qd K_L_law5 1 rfl) rfl ?_
  refine QG.scld hX hs0 hsl hsA hsb (qd K_L_law5 2 rfl) rfl hi3 hv3 ?_
  refine QG.callVk (rest := [.int c1]) [104, 105, 106, 107, 108, 109, 110, 111, 112, 113, 114, 115, 116, 117, 118, 119, 120, 121, 122, 123, 124, 125, 126, 127, 128, 129, 130, 131, 132, 133, 134, 135, 136, 137] hz2 hX cw_L_35 (M_X8_look X.l (V 104 0) (A 105) (A 106) (A 107) (A 108) (A 109) (A 110) (A 111) (A 112) (V 104 9) (V 104 10) (A 113) (A 114) (A 115) (A 116) M (A 118) (A 119) (A 120) (A 121) (A 122) (A 123) (A 124) (A 125) (A 126) (A 127) (A 128) (V 104 27) (V 104 28) (A 129) (V 104 30) (V 104 31) (V 104 32) (V 104 33) (V 104 34) (V 104 35) (V 104 36) (A 130) (A 131) (A 132) (A 133) (A 134) (A 135) (V 104 43) (V 104 44) (V 104 45) (V 104 46) (A 136) (A 137) v1 v2 v3) trivial (by decide) (by decide) (qd K_L_law5 3 rfl) rfl hcs rfl rfl rfl rfl (Nat.le_of_ble_eq_true rfl) rfl rfl (Nat.le_of_ble_eq_true rfl) rfl ?_
  refine QG.eqW (Wd' := (wLx rfB kfB (va_rf z) (va_rf tx) A (va_up2 V 104 0 c2.2) B L M)) rfl ?_
  show QG X 4 _ _ 366 _ [.int c2.1, .int c1] _ ad _ _
  exact QG.ifT (by rw [he]) (QG.icmp_eq (tgt := 1048) (oF := none) hX (qd K_L_law5 4 rfl) rfl (by decide) K QG.nothing)

set_option maxRecDepth 100000 in
set_option maxHeartbeats 4000000 in
theorem C_look_3 {X : QX} (hX : qok X code RL 4 (some .boolean) 1000) {Q : Unit → State → Prop} {b LL : Nat} {xs : Nat → Int32} (hs0 : va_X b LL xs X.s X.s.heap) (hsl : b < X.s.heap.size) (hsA : ¬ X.A b) (hsb : X.sA 100 = b) {ad : Nat → Nat} {cells slots : Nat} (hcs : cells ≤ X.R.cells ∧ slots ≤ X.R.slots) {A V : Nat → Nat → Int32} {B : Nat → Bool} {L M : Nat → Int64} {z tx : Option Nat} {x3 : Int32} {v1 : Int32} {v2 : Int32} {v3 : Int32} (hi1 : vp_in (x3 + 1) LL) (hv1 : xs (x3 + 1).toNatClampNeg = v1) (hi2 : vp_in (x3 + 2) LL) (hv2 : xs (x3 + 2).toNatClampNeg = v2) (hi3 : vp_in (x3 + 3) LL) (hv3 : xs (x3 + 3).toNatClampNeg = v3) (hr0 : ¬ v1 < 0) (hr1 : ¬ 6 ≤ v1) (hj : v1.toNatClampNeg = 3) {c1 : Int32} {c2 : Int32 × Int32} (hz1 : F_X7_look_ok (A 62) (A 64) (V 61 4) v1 v2 v3 = some c1) (hz2 : F_X8_look (V 104 0) (A 105) (A 106) (A 108) v1 v2 v3 = some c2) (he : c1 = c2.1)
    (K : QG X 4 Q (some ()) 1048 [(0, .float (UInt32.ofNat 100)), (1, .ref 0), (2, .ref 104), (3, .int x3)] [] (wLx rfB kfB (va_rf z) (va_rf tx) A (va_up2 V 104 0 c2.2) B L M) ad cells slots) : QG X 4 Q (some ()) 328 [(0, .float (UInt32.ofNat 100)), (1, .ref 0), (2, .ref 104), (3, .int x3)] [] (wLx rfB kfB (va_rf z) (va_rf tx) A V B L M) ad cells slots := by
  refine QG.aload_n hX (qd K_L_law4 10 rfl) rfl rfl ?_
  refine QG.aload_ns hX (qd K_L_law4 11 rfl) rfl rfl ?_
  refine QG.iload_n hX (qd K_L_law4 12 rfl) rfl rfl ?_
  refine QG.iconst hX (qd K_L_law4 13 rfl) rfl ki_1 ?_
  refine QG.iadd hX (qd K_L_law4 14 rfl) rfl ?_
  refine QG.scld hX hs0 hsl hsA hsb (qd K_L_law4 15 rfl) rfl hi1 hv1 ?_
  refine QG.aload_ns hX (qd K_L_law4 16 rfl) rfl rfl ?_
  refine QG.iload_n hX (qd K_L_law4 17 rfl) rfl rfl ?_
  refine QG.iconst hX (qd K_L_law4 18 rfl) rfl ki_2 ?_
  refine QG.iadd hX (qd K_L_law4 19 rfl) rfl ?_
  refine QG.scld hX hs0 hsl hsA hsb (qd K_L_law4 20 rfl) rfl hi2 hv2 ?_
  refine QG.aload_ns hX (qd K_L_law4 21 rfl) rfl rfl ?_
  refine QG.iload_n hX (qd K_L_law4 22 rfl) rfl rfl ?_
  refine QG.iconst hX (qd K_L_law4 23 rfl) rfl ki_3 ?_
  refine QG.iadd hX (qd K_L_law4 24 rfl) rfl ?_
  refine QG.scld hX hs0 hsl hsA hsb (qd K_L_law4 25 rfl) rfl hi3 hv3 ?_
  refine QG.callVk (rest := []) [0, 1, 61, 62, 63, 64, 65] hz1 hX cw_L_32 (M_X7_look_ok X.l (fun j => Option.map (qinv [0, 1, 61, 62, 63, 64, 65]) (rfB j)) (A 62) (A 63) (A 64) (A 65) (V 61 4) (B 61) v1 v2 v3 hr0 hr1 (by show Option.map _ (rfB v1.toNatClampNeg) = _; rw [hj]; rfl)) trivial (by decide) (by decide) (qd K_L_law4 26 rfl) rfl hcs rfl rfl rfl rfl (Nat.le_of_ble_eq_true rfl) (Eq.trans (congrArg (fun f => List.map (fun i => (wLx f kfB (va_rf z) (va_rf tx) A V B L M)[i]?) [0, 1, 61, 62, 63, 64, 65]) (qinv_eq [0, 1, 61, 62, 63, 64, 65] rfB).symm) rfl) rfl (Nat.le_of_ble_eq_true rfl) rfl ?_
  refine QG.eqW (Wd' := (wLx (fun j => Option.map (qf [0, 1, 61, 62, 63, 64, 65]) (Option.map (qinv [0, 1, 61, 62, 63, 64, 65]) (rfB j))) kfB (va_rf z) (va_rf tx) A V B L M)) rfl ?_
  rw [qinv_eq [0, 1, 61, 62, 63, 64, 65] rfB]
  show QG X 4 _ _ 347 _ [.int c1] _ ad _ _
  refine QG.aload_n hX (qd K_L_law4 27 rfl) rfl rfl ?_
  refine QG.aload_ns hX (qd K_L_law4 28 rfl) rfl rfl ?_
  refine QG.iload_n hX (qd K_L_law4 29 rfl) rfl rfl ?_
  refine QG.iconst hX (qd K_L_law4 30 rfl) rfl ki_1 ?_
  refine QG.iadd hX (qd K_L_law4 31 rfl) rfl ?_
  refine QG.scld hX hs0 hsl hsA hsb (qd K_L_law4 32 rfl) rfl hi1 hv1 ?_
  refine QG.aload_ns hX (qd K_L_law4 33 rfl) rfl rfl ?_
  refine QG.iload_n hX (qd K_L_law4 34 rfl) rfl rfl ?_
  refine QG.iconst hX (qd K_L_law4 35 rfl) rfl ki_2 ?_
  refine QG.iadd hX (qd K_L_law4 36 rfl) rfl ?_
  refine QG.scld hX hs0 hsl hsA hsb (qd K_L_law4 37 rfl) rfl hi2 hv2 ?_
  refine QG.aload_ns hX (qd K_L_law4 38 rfl) rfl rfl ?_
  refine QG.iload_n hX (qd K_L_law4 39 rfl) rfl rfl ?_
  refine QG.iconst hX (qd K_L_law5 0 rfl) rfl ki_3 ?_
  refine QG.iadd hX (qd K_L_law5 1 rfl) rfl ?_
  refine QG.scld hX hs0 hsl hsA hsb (qd K_L_law5 2 rfl) rfl hi3 hv3 ?_
  refine QG.callVk (rest := [.int c1]) [104, 105, 106, 107, 108, 109, 110, 111, 112, 113, 114, 115, 116, 117, 118, 119, 120, 121, 122, 123, 124, 125, 126, 127, 128, 129, 130, 131, 132, 133, 134, 135, 136, 137] hz2 hX cw_L_35 (M_X8_look X.l (V 104 0) (A 105) (A 106) (A 107) (A 108) (A 109) (A 110) (A 111) (A 112) (V 104 9) (V 104 10) (A 113) (A 114) (A 115) (A 116) M (A 118) (A 119) (A 120) (A 121) (A 122) (A 123) (A 124) (A 125) (A 126) (A 127) (A 128) (V 104 27) (V 104 28) (A 129) (V 104 30) (V 104 31) (V 104 32) (V 104 33) (V 104 34) (V 104 35) (V 104 36) (A 130) (A 131) (A 132) (A 133) (A 134) (A 135) (V 104 43) (V 104 44) (V 104 45) (V 104 46) (A 136) (A 137) v1 v2 v3) trivial (by decide) (by decide) (qd K_L_law5 3 rfl) rfl hcs rfl rfl rfl rfl (Nat.le_of_ble_eq_true rfl) rfl rfl (Nat.le_of_ble_eq_true rfl) rfl ?_
  refine QG.eqW (Wd' := (wLx rfB kfB (va_rf z) (va_rf tx) A (va_up2 V 104 0 c2.2) B L M)) rfl ?_
  show QG X 4 _ _ 366 _ [.int c2.1, .int c1] _ ad _ _
  exact QG.ifT (by rw [he]) (QG.icmp_eq (tgt := 1048) (oF := none) hX (qd K_L_law5 4 rfl) rfl (by decide) K QG.nothing)

set_option maxRecDepth 100000 in
set_option maxHeartbeats 4000000 in
theorem C_look_4 {X : QX} (hX : qok X code RL 4 (some .boolean) 1000) {Q : Unit → State → Prop} {b LL : Nat} {xs : Nat → Int32} (hs0 : va_X b LL xs X.s X.s.heap) (hsl : b < X.s.heap.size) (hsA : ¬ X.A b) (hsb : X.sA 100 = b) {ad : Nat → Nat} {cells slots : Nat} (hcs : cells ≤ X.R.cells ∧ slots ≤ X.R.slots) {A V : Nat → Nat → Int32} {B : Nat → Bool} {L M : Nat → Int64} {z tx : Option Nat} {x3 : Int32} {v1 : Int32} {v2 : Int32} {v3 : Int32} (hi1 : vp_in (x3 + 1) LL) (hv1 : xs (x3 + 1).toNatClampNeg = v1) (hi2 : vp_in (x3 + 2) LL) (hv2 : xs (x3 + 2).toNatClampNeg = v2) (hi3 : vp_in (x3 + 3) LL) (hv3 : xs (x3 + 3).toNatClampNeg = v3) (hr0 : ¬ v1 < 0) (hr1 : ¬ 6 ≤ v1) (hj : v1.toNatClampNeg = 4) {c1 : Int32} {c2 : Int32 × Int32} (hz1 : F_X7_look_ok (A 67) (A 69) (V 66 4) v1 v2 v3 = some c1) (hz2 : F_X8_look (V 104 0) (A 105) (A 106) (A 108) v1 v2 v3 = some c2) (he : c1 = c2.1)
    (K : QG X 4 Q (some ()) 1048 [(0, .float (UInt32.ofNat 100)), (1, .ref 0), (2, .ref 104), (3, .int x3)] [] (wLx rfB kfB (va_rf z) (va_rf tx) A (va_up2 V 104 0 c2.2) B L M) ad cells slots) : QG X 4 Q (some ()) 328 [(0, .float (UInt32.ofNat 100)), (1, .ref 0), (2, .ref 104), (3, .int x3)] [] (wLx rfB kfB (va_rf z) (va_rf tx) A V B L M) ad cells slots := by
  refine QG.aload_n hX (qd K_L_law4 10 rfl) rfl rfl ?_
  refine QG.aload_ns hX (qd K_L_law4 11 rfl) rfl rfl ?_
  refine QG.iload_n hX (qd K_L_law4 12 rfl) rfl rfl ?_
  refine QG.iconst hX (qd K_L_law4 13 rfl) rfl ki_1 ?_
  refine QG.iadd hX (qd K_L_law4 14 rfl) rfl ?_
  refine QG.scld hX hs0 hsl hsA hsb (qd K_L_law4 15 rfl) rfl hi1 hv1 ?_
  refine QG.aload_ns hX (qd K_L_law4 16 rfl) rfl rfl ?_
  refine QG.iload_n hX (qd K_L_law4 17 rfl) rfl rfl ?_
  refine QG.iconst hX (qd K_L_law4 18 rfl) rfl ki_2 ?_
  refine QG.iadd hX (qd K_L_law4 19 rfl) rfl ?_
  refine QG.scld hX hs0 hsl hsA hsb (qd K_L_law4 20 rfl) rfl hi2 hv2 ?_
  refine QG.aload_ns hX (qd K_L_law4 21 rfl) rfl rfl ?_
  refine QG.iload_n hX (qd K_L_law4 22 rfl) rfl rfl ?_
  refine QG.iconst hX (qd K_L_law4 23 rfl) rfl ki_3 ?_
  refine QG.iadd hX (qd K_L_law4 24 rfl) rfl ?_
  refine QG.scld hX hs0 hsl hsA hsb (qd K_L_law4 25 rfl) rfl hi3 hv3 ?_
  refine QG.callVk (rest := []) [0, 1, 66, 67, 68, 69, 70] hz1 hX cw_L_32 (M_X7_look_ok X.l (fun j => Option.map (qinv [0, 1, 66, 67, 68, 69, 70]) (rfB j)) (A 67) (A 68) (A 69) (A 70) (V 66 4) (B 66) v1 v2 v3 hr0 hr1 (by show Option.map _ (rfB v1.toNatClampNeg) = _; rw [hj]; rfl)) trivial (by decide) (by decide) (qd K_L_law4 26 rfl) rfl hcs rfl rfl rfl rfl (Nat.le_of_ble_eq_true rfl) (Eq.trans (congrArg (fun f => List.map (fun i => (wLx f kfB (va_rf z) (va_rf tx) A V B L M)[i]?) [0, 1, 66, 67, 68, 69, 70]) (qinv_eq [0, 1, 66, 67, 68, 69, 70] rfB).symm) rfl) rfl (Nat.le_of_ble_eq_true rfl) rfl ?_
  refine QG.eqW (Wd' := (wLx (fun j => Option.map (qf [0, 1, 66, 67, 68, 69, 70]) (Option.map (qinv [0, 1, 66, 67, 68, 69, 70]) (rfB j))) kfB (va_rf z) (va_rf tx) A V B L M)) rfl ?_
  rw [qinv_eq [0, 1, 66, 67, 68, 69, 70] rfB]
  show QG X 4 _ _ 347 _ [.int c1] _ ad _ _
  refine QG.aload_n hX (qd K_L_law4 27 rfl) rfl rfl ?_
  refine QG.aload_ns hX (qd K_L_law4 28 rfl) rfl rfl ?_
  refine QG.iload_n hX (qd K_L_law4 29 rfl) rfl rfl ?_
  refine QG.iconst hX (qd K_L_law4 30 rfl) rfl ki_1 ?_
  refine QG.iadd hX (qd K_L_law4 31 rfl) rfl ?_
  refine QG.scld hX hs0 hsl hsA hsb (qd K_L_law4 32 rfl) rfl hi1 hv1 ?_
  refine QG.aload_ns hX (qd K_L_law4 33 rfl) rfl rfl ?_
  refine QG.iload_n hX (qd K_L_law4 34 rfl) rfl rfl ?_
  refine QG.iconst hX (qd K_L_law4 35 rfl) rfl ki_2 ?_
  refine QG.iadd hX (qd K_L_law4 36 rfl) rfl ?_
  refine QG.scld hX hs0 hsl hsA hsb (qd K_L_law4 37 rfl) rfl hi2 hv2 ?_
  refine QG.aload_ns hX (qd K_L_law4 38 rfl) rfl rfl ?_
  refine QG.iload_n hX (qd K_L_law4 39 rfl) rfl rfl ?_
  refine QG.iconst hX (qd K_L_law5 0 rfl) rfl ki_3 ?_
  refine QG.iadd hX (qd K_L_law5 1 rfl) rfl ?_
  refine QG.scld hX hs0 hsl hsA hsb (qd K_L_law5 2 rfl) rfl hi3 hv3 ?_
  refine QG.callVk (rest := [.int c1]) [104, 105, 106, 107, 108, 109, 110, 111, 112, 113, 114, 115, 116, 117, 118, 119, 120, 121, 122, 123, 124, 125, 126, 127, 128, 129, 130, 131, 132, 133, 134, 135, 136, 137] hz2 hX cw_L_35 (M_X8_look X.l (V 104 0) (A 105) (A 106) (A 107) (A 108) (A 109) (A 110) (A 111) (A 112) (V 104 9) (V 104 10) (A 113) (A 114) (A 115) (A 116) M (A 118) (A 119) (A 120) (A 121) (A 122) (A 123) (A 124) (A 125) (A 126) (A 127) (A 128) (V 104 27) (V 104 28) (A 129) (V 104 30) (V 104 31) (V 104 32) (V 104 33) (V 104 34) (V 104 35) (V 104 36) (A 130) (A 131) (A 132) (A 133) (A 134) (A 135) (V 104 43) (V 104 44) (V 104 45) (V 104 46) (A 136) (A 137) v1 v2 v3) trivial (by decide) (by decide) (qd K_L_law5 3 rfl) rfl hcs rfl rfl rfl rfl (Nat.le_of_ble_eq_true rfl) rfl rfl (Nat.le_of_ble_eq_true rfl) rfl ?_
  refine QG.eqW (Wd' := (wLx rfB kfB (va_rf z) (va_rf tx) A (va_up2 V 104 0 c2.2) B L M)) rfl ?_
  show QG X 4 _ _ 366 _ [.int c2.1, .int c1] _ ad _ _
  exact QG.ifT (by rw [he]) (QG.icmp_eq (tgt := 1048) (oF := none) hX (qd K_L_law5 4 rfl) rfl (by decide) K QG.nothing)

set_option maxRecDepth 100000 in
set_option maxHeartbeats 4000000 in
theorem C_look_5 {X : QX} (hX : qok X code RL 4 (some .boolean) 1000) {Q : Unit → State → Prop} {b LL : Nat} {xs : Nat → Int32} (hs0 : va_X b LL xs X.s X.s.heap) (hsl : b < X.s.heap.size) (hsA : ¬ X.A b) (hsb : X.sA 100 = b) {ad : Nat → Nat} {cells slots : Nat} (hcs : cells ≤ X.R.cells ∧ slots ≤ X.R.slots) {A V : Nat → Nat → Int32} {B : Nat → Bool} {L M : Nat → Int64} {z tx : Option Nat} {x3 : Int32} {v1 : Int32} {v2 : Int32} {v3 : Int32} (hi1 : vp_in (x3 + 1) LL) (hv1 : xs (x3 + 1).toNatClampNeg = v1) (hi2 : vp_in (x3 + 2) LL) (hv2 : xs (x3 + 2).toNatClampNeg = v2) (hi3 : vp_in (x3 + 3) LL) (hv3 : xs (x3 + 3).toNatClampNeg = v3) (hr0 : ¬ v1 < 0) (hr1 : ¬ 6 ≤ v1) (hj : v1.toNatClampNeg = 5) {c1 : Int32} {c2 : Int32 × Int32} (hz1 : F_X7_look_ok (A 72) (A 74) (V 71 4) v1 v2 v3 = some c1) (hz2 : F_X8_look (V 104 0) (A 105) (A 106) (A 108) v1 v2 v3 = some c2) (he : c1 = c2.1)
    (K : QG X 4 Q (some ()) 1048 [(0, .float (UInt32.ofNat 100)), (1, .ref 0), (2, .ref 104), (3, .int x3)] [] (wLx rfB kfB (va_rf z) (va_rf tx) A (va_up2 V 104 0 c2.2) B L M) ad cells slots) : QG X 4 Q (some ()) 328 [(0, .float (UInt32.ofNat 100)), (1, .ref 0), (2, .ref 104), (3, .int x3)] [] (wLx rfB kfB (va_rf z) (va_rf tx) A V B L M) ad cells slots := by
  refine QG.aload_n hX (qd K_L_law4 10 rfl) rfl rfl ?_
  refine QG.aload_ns hX (qd K_L_law4 11 rfl) rfl rfl ?_
  refine QG.iload_n hX (qd K_L_law4 12 rfl) rfl rfl ?_
  refine QG.iconst hX (qd K_L_law4 13 rfl) rfl ki_1 ?_
  refine QG.iadd hX (qd K_L_law4 14 rfl) rfl ?_
  refine QG.scld hX hs0 hsl hsA hsb (qd K_L_law4 15 rfl) rfl hi1 hv1 ?_
  refine QG.aload_ns hX (qd K_L_law4 16 rfl) rfl rfl ?_
  refine QG.iload_n hX (qd K_L_law4 17 rfl) rfl rfl ?_
  refine QG.iconst hX (qd K_L_law4 18 rfl) rfl ki_2 ?_
  refine QG.iadd hX (qd K_L_law4 19 rfl) rfl ?_
  refine QG.scld hX hs0 hsl hsA hsb (qd K_L_law4 20 rfl) rfl hi2 hv2 ?_
  refine QG.aload_ns hX (qd K_L_law4 21 rfl) rfl rfl ?_
  refine QG.iload_n hX (qd K_L_law4 22 rfl) rfl rfl ?_
  refine QG.iconst hX (qd K_L_law4 23 rfl) rfl ki_3 ?_
  refine QG.iadd hX (qd K_L_law4 24 rfl) rfl ?_
  refine QG.scld hX hs0 hsl hsA hsb (qd K_L_law4 25 rfl) rfl hi3 hv3 ?_
  refine QG.callVk (rest := []) [0, 1, 71, 72, 73, 74, 75] hz1 hX cw_L_32 (M_X7_look_ok X.l (fun j => Option.map (qinv [0, 1, 71, 72, 73, 74, 75]) (rfB j)) (A 72) (A 73) (A 74) (A 75) (V 71 4) (B 71) v1 v2 v3 hr0 hr1 (by show Option.map _ (rfB v1.toNatClampNeg) = _; rw [hj]; rfl)) trivial (by decide) (by decide) (qd K_L_law4 26 rfl) rfl hcs rfl rfl rfl rfl (Nat.le_of_ble_eq_true rfl) (Eq.trans (congrArg (fun f => List.map (fun i => (wLx f kfB (va_rf z) (va_rf tx) A V B L M)[i]?) [0, 1, 71, 72, 73, 74, 75]) (qinv_eq [0, 1, 71, 72, 73, 74, 75] rfB).symm) rfl) rfl (Nat.le_of_ble_eq_true rfl) rfl ?_
  refine QG.eqW (Wd' := (wLx (fun j => Option.map (qf [0, 1, 71, 72, 73, 74, 75]) (Option.map (qinv [0, 1, 71, 72, 73, 74, 75]) (rfB j))) kfB (va_rf z) (va_rf tx) A V B L M)) rfl ?_
  rw [qinv_eq [0, 1, 71, 72, 73, 74, 75] rfB]
  show QG X 4 _ _ 347 _ [.int c1] _ ad _ _
  refine QG.aload_n hX (qd K_L_law4 27 rfl) rfl rfl ?_
  refine QG.aload_ns hX (qd K_L_law4 28 rfl) rfl rfl ?_
  refine QG.iload_n hX (qd K_L_law4 29 rfl) rfl rfl ?_
  refine QG.iconst hX (qd K_L_law4 30 rfl) rfl ki_1 ?_
  refine QG.iadd hX (qd K_L_law4 31 rfl) rfl ?_
  refine QG.scld hX hs0 hsl hsA hsb (qd K_L_law4 32 rfl) rfl hi1 hv1 ?_
  refine QG.aload_ns hX (qd K_L_law4 33 rfl) rfl rfl ?_
  refine QG.iload_n hX (qd K_L_law4 34 rfl) rfl rfl ?_
  refine QG.iconst hX (qd K_L_law4 35 rfl) rfl ki_2 ?_
  refine QG.iadd hX (qd K_L_law4 36 rfl) rfl ?_
  refine QG.scld hX hs0 hsl hsA hsb (qd K_L_law4 37 rfl) rfl hi2 hv2 ?_
  refine QG.aload_ns hX (qd K_L_law4 38 rfl) rfl rfl ?_
  refine QG.iload_n hX (qd K_L_law4 39 rfl) rfl rfl ?_
  refine QG.iconst hX (qd K_L_law5 0 rfl) rfl ki_3 ?_
  refine QG.iadd hX (qd K_L_law5 1 rfl) rfl ?_
  refine QG.scld hX hs0 hsl hsA hsb (qd K_L_law5 2 rfl) rfl hi3 hv3 ?_
  refine QG.callVk (rest := [.int c1]) [104, 105, 106, 107, 108, 109, 110, 111, 112, 113, 114, 115, 116, 117, 118, 119, 120, 121, 122, 123, 124, 125, 126, 127, 128, 129, 130, 131, 132, 133, 134, 135, 136, 137] hz2 hX cw_L_35 (M_X8_look X.l (V 104 0) (A 105) (A 106) (A 107) (A 108) (A 109) (A 110) (A 111) (A 112) (V 104 9) (V 104 10) (A 113) (A 114) (A 115) (A 116) M (A 118) (A 119) (A 120) (A 121) (A 122) (A 123) (A 124) (A 125) (A 126) (A 127) (A 128) (V 104 27) (V 104 28) (A 129) (V 104 30) (V 104 31) (V 104 32) (V 104 33) (V 104 34) (V 104 35) (V 104 36) (A 130) (A 131) (A 132) (A 133) (A 134) (A 135) (V 104 43) (V 104 44) (V 104 45) (V 104 46) (A 136) (A 137) v1 v2 v3) trivial (by decide) (by decide) (qd K_L_law5 3 rfl) rfl hcs rfl rfl rfl rfl (Nat.le_of_ble_eq_true rfl) rfl rfl (Nat.le_of_ble_eq_true rfl) rfl ?_
  refine QG.eqW (Wd' := (wLx rfB kfB (va_rf z) (va_rf tx) A (va_up2 V 104 0 c2.2) B L M)) rfl ?_
  show QG X 4 _ _ 366 _ [.int c2.1, .int c1] _ ad _ _
  exact QG.ifT (by rw [he]) (QG.icmp_eq (tgt := 1048) (oF := none) hX (qd K_L_law5 4 rfl) rfl (by decide) K QG.nothing)

set_option maxRecDepth 100000 in
set_option maxHeartbeats 4000000 in
theorem C_about_no {X : QX} (hX : qok X code RL 4 (some .boolean) 1000) {Q : Unit → State → Prop} {b LL : Nat} {xs : Nat → Int32} (hs0 : va_X b LL xs X.s X.s.heap) (hsl : b < X.s.heap.size) (hsA : ¬ X.A b) (hsb : X.sA 100 = b) {ad : Nat → Nat} {cells slots : Nat} (hcs : cells ≤ X.R.cells ∧ slots ≤ X.R.slots) {A V : Nat → Nat → Int32} {B : Nat → Bool} {L M : Nat → Int64} {z tx : Option Nat} {x3 : Int32} {v1 : Int32} {v2 : Int32} (hi1 : vp_in (x3 + 1) LL) (hv1 : xs (x3 + 1).toNatClampNeg = v1) (hi2 : vp_in (x3 + 2) LL) (hv2 : xs (x3 + 2).toNatClampNeg = v2) (hr : v1 < 0 ∨ 6 ≤ v1) {c1 : Int32} {c2 : Int32 × Int32} (hz1 : F_X7_about_no v1 v2 = some c1) (hz2 : F_X8_about (V 104 0) (A 105) (A 106) (A 109) (A 110) (A 111) (A 112) v1 v2 = some c2) (he : c1 = c2.1)
    (K : QG X 4 Q (some ()) 1048 [(0, .float (UInt32.ofNat 100)), (1, .ref 0), (2, .ref 104), (3, .int x3)] [] (wLx rfB kfB (va_rf z) (va_rf tx) A (va_up2 V 104 0 c2.2) B L M) ad cells slots) : QG X 4 Q (some ()) 371 [(0, .float (UInt32.ofNat 100)), (1, .ref 0), (2, .ref 104), (3, .int x3)] [] (wLx rfB kfB (va_rf z) (va_rf tx) A V B L M) ad cells slots := by
  refine QG.aload_n hX (qd K_L_law5 7 rfl) rfl rfl ?_
  refine QG.aload_ns hX (qd K_L_law5 8 rfl) rfl rfl ?_
  refine QG.iload_n hX (qd K_L_law5 9 rfl) rfl rfl ?_
  refine QG.iconst hX (qd K_L_law5 10 rfl) rfl ki_1 ?_
  refine QG.iadd hX (qd K_L_law5 11 rfl) rfl ?_
  refine QG.scld hX hs0 hsl hsA hsb (qd K_L_law5 12 rfl) rfl hi1 hv1 ?_
  refine QG.aload_ns hX (qd K_L_law5 13 rfl) rfl rfl ?_
  refine QG.iload_n hX (qd K_L_law5 14 rfl) rfl rfl ?_
  refine QG.iconst hX (qd K_L_law5 15 rfl) rfl ki_2 ?_
  refine QG.iadd hX (qd K_L_law5 16 rfl) rfl ?_
  refine QG.scld hX hs0 hsl hsA hsb (qd K_L_law5 17 rfl) rfl hi2 hv2 ?_
  refine QG.callVk (rest := []) [0, 1] hz1 hX cw_L_36 (M_X7_about_no X.l (fun j => Option.map (qinv [0, 1]) (rfB j)) v1 v2 hr) trivial (by decide) (by decide) (qd K_L_law5 18 rfl) rfl hcs rfl rfl rfl rfl (Nat.le_of_ble_eq_true rfl) (Eq.trans (congrArg (fun f => List.map (fun i => (wLx f kfB (va_rf z) (va_rf tx) A V B L M)[i]?) [0, 1]) (qinv_eq [0, 1] rfB).symm) rfl) rfl (Nat.le_of_ble_eq_true rfl) rfl ?_
  refine QG.eqW (Wd' := (wLx (fun j => Option.map (qf [0, 1]) (Option.map (qinv [0, 1]) (rfB j))) kfB (va_rf z) (va_rf tx) A V B L M)) rfl ?_
  rw [qinv_eq [0, 1] rfB]
  show QG X 4 _ _ 385 _ [.int c1] _ ad _ _
  refine QG.aload_n hX (qd K_L_law5 19 rfl) rfl rfl ?_
  refine QG.aload_ns hX (qd K_L_law5 20 rfl) rfl rfl ?_
  refine QG.iload_n hX (qd K_L_law5 21 rfl) rfl rfl ?_
  refine QG.iconst hX (qd K_L_law5 22 rfl) rfl ki_1 ?_
  refine QG.iadd hX (qd K_L_law5 23 rfl) rfl ?_
  refine QG.scld hX hs0 hsl hsA hsb (qd K_L_law5 24 rfl) rfl hi1 hv1 ?_
  refine QG.aload_ns hX (qd K_L_law5 25 rfl) rfl rfl ?_
  refine QG.iload_n hX (qd K_L_law5 26 rfl) rfl rfl ?_
  refine QG.iconst hX (qd K_L_law5 27 rfl) rfl ki_2 ?_
  refine QG.iadd hX (qd K_L_law5 28 rfl) rfl ?_
  refine QG.scld hX hs0 hsl hsA hsb (qd K_L_law5 29 rfl) rfl hi2 hv2 ?_
  refine QG.callVk (rest := [.int c1]) [104, 105, 106, 107, 108, 109, 110, 111, 112, 113, 114, 115, 116, 117, 118, 119, 120, 121, 122, 123, 124, 125, 126, 127, 128, 129, 130, 131, 132, 133, 134, 135, 136, 137] hz2 hX cw_L_39 (M_X8_about X.l (V 104 0) (A 105) (A 106) (A 107) (A 108) (A 109) (A 110) (A 111) (A 112) (V 104 9) (V 104 10) (A 113) (A 114) (A 115) (A 116) M (A 118) (A 119) (A 120) (A 121) (A 122) (A 123) (A 124) (A 125) (A 126) (A 127) (A 128) (V 104 27) (V 104 28) (A 129) (V 104 30) (V 104 31) (V 104 32) (V 104 33) (V 104 34) (V 104 35) (V 104 36) (A 130) (A 131) (A 132) (A 133) (A 134) (A 135) (V 104 43) (V 104 44) (V 104 45) (V 104 46) (A 136) (A 137) v1 v2) trivial (by decide) (by decide) (qd K_L_law5 30 rfl) rfl hcs rfl rfl rfl rfl (Nat.le_of_ble_eq_true rfl) rfl rfl (Nat.le_of_ble_eq_true rfl) rfl ?_
  refine QG.eqW (Wd' := (wLx rfB kfB (va_rf z) (va_rf tx) A (va_up2 V 104 0 c2.2) B L M)) rfl ?_
  show QG X 4 _ _ 399 _ [.int c2.1, .int c1] _ ad _ _
  exact QG.ifT (by rw [he]) (QG.icmp_eq (tgt := 1048) (oF := none) hX (qd K_L_law5 31 rfl) rfl (by decide) K QG.nothing)

set_option maxRecDepth 100000 in
set_option maxHeartbeats 4000000 in
theorem C_about_0 {X : QX} (hX : qok X code RL 4 (some .boolean) 1000) {Q : Unit → State → Prop} {b LL : Nat} {xs : Nat → Int32} (hs0 : va_X b LL xs X.s X.s.heap) (hsl : b < X.s.heap.size) (hsA : ¬ X.A b) (hsb : X.sA 100 = b) {ad : Nat → Nat} {cells slots : Nat} (hcs : cells ≤ X.R.cells ∧ slots ≤ X.R.slots) {A V : Nat → Nat → Int32} {B : Nat → Bool} {L M : Nat → Int64} {z tx : Option Nat} {x3 : Int32} {v1 : Int32} {v2 : Int32} (hi1 : vp_in (x3 + 1) LL) (hv1 : xs (x3 + 1).toNatClampNeg = v1) (hi2 : vp_in (x3 + 2) LL) (hv2 : xs (x3 + 2).toNatClampNeg = v2) (hr0 : ¬ v1 < 0) (hr1 : ¬ 6 ≤ v1) (hj : v1.toNatClampNeg = 0) {c1 : Int32} {c2 : Int32 × Int32} (hz1 : F_X7_about_ok (A 47) (A 50) (V 46 4) v1 v2 = some c1) (hz2 : F_X8_about (V 104 0) (A 105) (A 106) (A 109) (A 110) (A 111) (A 112) v1 v2 = some c2) (he : c1 = c2.1)
    (K : QG X 4 Q (some ()) 1048 [(0, .float (UInt32.ofNat 100)), (1, .ref 0), (2, .ref 104), (3, .int x3)] [] (wLx rfB kfB (va_rf z) (va_rf tx) A (va_up2 V 104 0 c2.2) B L M) ad cells slots) : QG X 4 Q (some ()) 371 [(0, .float (UInt32.ofNat 100)), (1, .ref 0), (2, .ref 104), (3, .int x3)] [] (wLx rfB kfB (va_rf z) (va_rf tx) A V B L M) ad cells slots := by
  refine QG.aload_n hX (qd K_L_law5 7 rfl) rfl rfl ?_
  refine QG.aload_ns hX (qd K_L_law5 8 rfl) rfl rfl ?_
  refine QG.iload_n hX (qd K_L_law5 9 rfl) rfl rfl ?_
  refine QG.iconst hX (qd K_L_law5 10 rfl) rfl ki_1 ?_
  refine QG.iadd hX (qd K_L_law5 11 rfl) rfl ?_
  refine QG.scld hX hs0 hsl hsA hsb (qd K_L_law5 12 rfl) rfl hi1 hv1 ?_
  refine QG.aload_ns hX (qd K_L_law5 13 rfl) rfl rfl ?_
  refine QG.iload_n hX (qd K_L_law5 14 rfl) rfl rfl ?_
  refine QG.iconst hX (qd K_L_law5 15 rfl) rfl ki_2 ?_
  refine QG.iadd hX (qd K_L_law5 16 rfl) rfl ?_
  refine QG.scld hX hs0 hsl hsA hsb (qd K_L_law5 17 rfl) rfl hi2 hv2 ?_
  refine QG.callVk (rest := []) [0, 1, 46, 47, 48, 49, 50] hz1 hX cw_L_36 (M_X7_about_ok X.l (fun j => Option.map (qinv [0, 1, 46, 47, 48, 49, 50]) (rfB j)) (A 47) (A 48) (A 49) (A 50) (V 46 4) (B 46) v1 v2 hr0 hr1 (by show Option.map _ (rfB v1.toNatClampNeg) = _; rw [hj]; rfl)) trivial (by decide) (by decide) (qd K_L_law5 18 rfl) rfl hcs rfl rfl rfl rfl (Nat.le_of_ble_eq_true rfl) (Eq.trans (congrArg (fun f => List.map (fun i => (wLx f kfB (va_rf z) (va_rf tx) A V B L M)[i]?) [0, 1, 46, 47, 48, 49, 50]) (qinv_eq [0, 1, 46, 47, 48, 49, 50] rfB).symm) rfl) rfl (Nat.le_of_ble_eq_true rfl) rfl ?_
  refine QG.eqW (Wd' := (wLx (fun j => Option.map (qf [0, 1, 46, 47, 48, 49, 50]) (Option.map (qinv [0, 1, 46, 47, 48, 49, 50]) (rfB j))) kfB (va_rf z) (va_rf tx) A V B L M)) rfl ?_
  rw [qinv_eq [0, 1, 46, 47, 48, 49, 50] rfB]
  show QG X 4 _ _ 385 _ [.int c1] _ ad _ _
  refine QG.aload_n hX (qd K_L_law5 19 rfl) rfl rfl ?_
  refine QG.aload_ns hX (qd K_L_law5 20 rfl) rfl rfl ?_
  refine QG.iload_n hX (qd K_L_law5 21 rfl) rfl rfl ?_
  refine QG.iconst hX (qd K_L_law5 22 rfl) rfl ki_1 ?_
  refine QG.iadd hX (qd K_L_law5 23 rfl) rfl ?_
  refine QG.scld hX hs0 hsl hsA hsb (qd K_L_law5 24 rfl) rfl hi1 hv1 ?_
  refine QG.aload_ns hX (qd K_L_law5 25 rfl) rfl rfl ?_
  refine QG.iload_n hX (qd K_L_law5 26 rfl) rfl rfl ?_
  refine QG.iconst hX (qd K_L_law5 27 rfl) rfl ki_2 ?_
  refine QG.iadd hX (qd K_L_law5 28 rfl) rfl ?_
  refine QG.scld hX hs0 hsl hsA hsb (qd K_L_law5 29 rfl) rfl hi2 hv2 ?_
  refine QG.callVk (rest := [.int c1]) [104, 105, 106, 107, 108, 109, 110, 111, 112, 113, 114, 115, 116, 117, 118, 119, 120, 121, 122, 123, 124, 125, 126, 127, 128, 129, 130, 131, 132, 133, 134, 135, 136, 137] hz2 hX cw_L_39 (M_X8_about X.l (V 104 0) (A 105) (A 106) (A 107) (A 108) (A 109) (A 110) (A 111) (A 112) (V 104 9) (V 104 10) (A 113) (A 114) (A 115) (A 116) M (A 118) (A 119) (A 120) (A 121) (A 122) (A 123) (A 124) (A 125) (A 126) (A 127) (A 128) (V 104 27) (V 104 28) (A 129) (V 104 30) (V 104 31) (V 104 32) (V 104 33) (V 104 34) (V 104 35) (V 104 36) (A 130) (A 131) (A 132) (A 133) (A 134) (A 135) (V 104 43) (V 104 44) (V 104 45) (V 104 46) (A 136) (A 137) v1 v2) trivial (by decide) (by decide) (qd K_L_law5 30 rfl) rfl hcs rfl rfl rfl rfl (Nat.le_of_ble_eq_true rfl) rfl rfl (Nat.le_of_ble_eq_true rfl) rfl ?_
  refine QG.eqW (Wd' := (wLx rfB kfB (va_rf z) (va_rf tx) A (va_up2 V 104 0 c2.2) B L M)) rfl ?_
  show QG X 4 _ _ 399 _ [.int c2.1, .int c1] _ ad _ _
  exact QG.ifT (by rw [he]) (QG.icmp_eq (tgt := 1048) (oF := none) hX (qd K_L_law5 31 rfl) rfl (by decide) K QG.nothing)

set_option maxRecDepth 100000 in
set_option maxHeartbeats 4000000 in
theorem C_about_1 {X : QX} (hX : qok X code RL 4 (some .boolean) 1000) {Q : Unit → State → Prop} {b LL : Nat} {xs : Nat → Int32} (hs0 : va_X b LL xs X.s X.s.heap) (hsl : b < X.s.heap.size) (hsA : ¬ X.A b) (hsb : X.sA 100 = b) {ad : Nat → Nat} {cells slots : Nat} (hcs : cells ≤ X.R.cells ∧ slots ≤ X.R.slots) {A V : Nat → Nat → Int32} {B : Nat → Bool} {L M : Nat → Int64} {z tx : Option Nat} {x3 : Int32} {v1 : Int32} {v2 : Int32} (hi1 : vp_in (x3 + 1) LL) (hv1 : xs (x3 + 1).toNatClampNeg = v1) (hi2 : vp_in (x3 + 2) LL) (hv2 : xs (x3 + 2).toNatClampNeg = v2) (hr0 : ¬ v1 < 0) (hr1 : ¬ 6 ≤ v1) (hj : v1.toNatClampNeg = 1) {c1 : Int32} {c2 : Int32 × Int32} (hz1 : F_X7_about_ok (A 52) (A 55) (V 51 4) v1 v2 = some c1) (hz2 : F_X8_about (V 104 0) (A 105) (A 106) (A 109) (A 110) (A 111) (A 112) v1 v2 = some c2) (he : c1 = c2.1)
    (K : QG X 4 Q (some ()) 1048 [(0, .float (UInt32.ofNat 100)), (1, .ref 0), (2, .ref 104), (3, .int x3)] [] (wLx rfB kfB (va_rf z) (va_rf tx) A (va_up2 V 104 0 c2.2) B L M) ad cells slots) : QG X 4 Q (some ()) 371 [(0, .float (UInt32.ofNat 100)), (1, .ref 0), (2, .ref 104), (3, .int x3)] [] (wLx rfB kfB (va_rf z) (va_rf tx) A V B L M) ad cells slots := by
  refine QG.aload_n hX (qd K_L_law5 7 rfl) rfl rfl ?_
  refine QG.aload_ns hX (qd K_L_law5 8 rfl) rfl rfl ?_
  refine QG.iload_n hX (qd K_L_law5 9 rfl) rfl rfl ?_
  refine QG.iconst hX (qd K_L_law5 10 rfl) rfl ki_1 ?_
  refine QG.iadd hX (qd K_L_law5 11 rfl) rfl ?_
  refine QG.scld hX hs0 hsl hsA hsb (qd K_L_law5 12 rfl) rfl hi1 hv1 ?_
  refine QG.aload_ns hX (qd K_L_law5 13 rfl) rfl rfl ?_
  refine QG.iload_n hX (qd K_L_law5 14 rfl) rfl rfl ?_
  refine QG.iconst hX (qd K_L_law5 15 rfl) rfl ki_2 ?_
  refine QG.iadd hX (qd K_L_law5 16 rfl) rfl ?_
  refine QG.scld hX hs0 hsl hsA hsb (qd K_L_law5 17 rfl) rfl hi2 hv2 ?_
  refine QG.callVk (rest := []) [0, 1, 51, 52, 53, 54, 55] hz1 hX cw_L_36 (M_X7_about_ok X.l (fun j => Option.map (qinv [0, 1, 51, 52, 53, 54, 55]) (rfB j)) (A 52) (A 53) (A 54) (A 55) (V 51 4) (B 51) v1 v2 hr0 hr1 (by show Option.map _ (rfB v1.toNatClampNeg) = _; rw [hj]; rfl)) trivial (by decide) (by decide) (qd K_L_law5 18 rfl) rfl hcs rfl rfl rfl rfl (Nat.le_of_ble_eq_true rfl) (Eq.trans (congrArg (fun f => List.map (fun i => (wLx f kfB (va_rf z) (va_rf tx) A V B L M)[i]?) [0, 1, 51, 52, 53, 54, 55]) (qinv_eq [0, 1, 51, 52, 53, 54, 55] rfB).symm) rfl) rfl (Nat.le_of_ble_eq_true rfl) rfl ?_
  refine QG.eqW (Wd' := (wLx (fun j => Option.map (qf [0, 1, 51, 52, 53, 54, 55]) (Option.map (qinv [0, 1, 51, 52, 53, 54, 55]) (rfB j))) kfB (va_rf z) (va_rf tx) A V B L M)) rfl ?_
  rw [qinv_eq [0, 1, 51, 52, 53, 54, 55] rfB]
  show QG X 4 _ _ 385 _ [.int c1] _ ad _ _
  refine QG.aload_n hX (qd K_L_law5 19 rfl) rfl rfl ?_
  refine QG.aload_ns hX (qd K_L_law5 20 rfl) rfl rfl ?_
  refine QG.iload_n hX (qd K_L_law5 21 rfl) rfl rfl ?_
  refine QG.iconst hX (qd K_L_law5 22 rfl) rfl ki_1 ?_
  refine QG.iadd hX (qd K_L_law5 23 rfl) rfl ?_
  refine QG.scld hX hs0 hsl hsA hsb (qd K_L_law5 24 rfl) rfl hi1 hv1 ?_
  refine QG.aload_ns hX (qd K_L_law5 25 rfl) rfl rfl ?_
  refine QG.iload_n hX (qd K_L_law5 26 rfl) rfl rfl ?_
  refine QG.iconst hX (qd K_L_law5 27 rfl) rfl ki_2 ?_
  refine QG.iadd hX (qd K_L_law5 28 rfl) rfl ?_
  refine QG.scld hX hs0 hsl hsA hsb (qd K_L_law5 29 rfl) rfl hi2 hv2 ?_
  refine QG.callVk (rest := [.int c1]) [104, 105, 106, 107, 108, 109, 110, 111, 112, 113, 114, 115, 116, 117, 118, 119, 120, 121, 122, 123, 124, 125, 126, 127, 128, 129, 130, 131, 132, 133, 134, 135, 136, 137] hz2 hX cw_L_39 (M_X8_about X.l (V 104 0) (A 105) (A 106) (A 107) (A 108) (A 109) (A 110) (A 111) (A 112) (V 104 9) (V 104 10) (A 113) (A 114) (A 115) (A 116) M (A 118) (A 119) (A 120) (A 121) (A 122) (A 123) (A 124) (A 125) (A 126) (A 127) (A 128) (V 104 27) (V 104 28) (A 129) (V 104 30) (V 104 31) (V 104 32) (V 104 33) (V 104 34) (V 104 35) (V 104 36) (A 130) (A 131) (A 132) (A 133) (A 134) (A 135) (V 104 43) (V 104 44) (V 104 45) (V 104 46) (A 136) (A 137) v1 v2) trivial (by decide) (by decide) (qd K_L_law5 30 rfl) rfl hcs rfl rfl rfl rfl (Nat.le_of_ble_eq_true rfl) rfl rfl (Nat.le_of_ble_eq_true rfl) rfl ?_
  refine QG.eqW (Wd' := (wLx rfB kfB (va_rf z) (va_rf tx) A (va_up2 V 104 0 c2.2) B L M)) rfl ?_
  show QG X 4 _ _ 399 _ [.int c2.1, .int c1] _ ad _ _
  exact QG.ifT (by rw [he]) (QG.icmp_eq (tgt := 1048) (oF := none) hX (qd K_L_law5 31 rfl) rfl (by decide) K QG.nothing)

set_option maxRecDepth 100000 in
set_option maxHeartbeats 4000000 in
theorem C_about_2 {X : QX} (hX : qok X code RL 4 (some .boolean) 1000) {Q : Unit → State → Prop} {b LL : Nat} {xs : Nat → Int32} (hs0 : va_X b LL xs X.s X.s.heap) (hsl : b < X.s.heap.size) (hsA : ¬ X.A b) (hsb : X.sA 100 = b) {ad : Nat → Nat} {cells slots : Nat} (hcs : cells ≤ X.R.cells ∧ slots ≤ X.R.slots) {A V : Nat → Nat → Int32} {B : Nat → Bool} {L M : Nat → Int64} {z tx : Option Nat} {x3 : Int32} {v1 : Int32} {v2 : Int32} (hi1 : vp_in (x3 + 1) LL) (hv1 : xs (x3 + 1).toNatClampNeg = v1) (hi2 : vp_in (x3 + 2) LL) (hv2 : xs (x3 + 2).toNatClampNeg = v2) (hr0 : ¬ v1 < 0) (hr1 : ¬ 6 ≤ v1) (hj : v1.toNatClampNeg = 2) {c1 : Int32} {c2 : Int32 × Int32} (hz1 : F_X7_about_ok (A 57) (A 60) (V 56 4) v1 v2 = some c1) (hz2 : F_X8_about (V 104 0) (A 105) (A 106) (A 109) (A 110) (A 111) (A 112) v1 v2 = some c2) (he : c1 = c2.1)
    (K : QG X 4 Q (some ()) 1048 [(0, .float (UInt32.ofNat 100)), (1, .ref 0), (2, .ref 104), (3, .int x3)] [] (wLx rfB kfB (va_rf z) (va_rf tx) A (va_up2 V 104 0 c2.2) B L M) ad cells slots) : QG X 4 Q (some ()) 371 [(0, .float (UInt32.ofNat 100)), (1, .ref 0), (2, .ref 104), (3, .int x3)] [] (wLx rfB kfB (va_rf z) (va_rf tx) A V B L M) ad cells slots := by
  refine QG.aload_n hX (qd K_L_law5 7 rfl) rfl rfl ?_
  refine QG.aload_ns hX (qd K_L_law5 8 rfl) rfl rfl ?_
  refine QG.iload_n hX (qd K_L_law5 9 rfl) rfl rfl ?_
  refine QG.iconst hX (qd K_L_law5 10 rfl) rfl ki_1 ?_
  refine QG.iadd hX (qd K_L_law5 11 rfl) rfl ?_
  refine QG.scld hX hs0 hsl hsA hsb (qd K_L_law5 12 rfl) rfl hi1 hv1 ?_
  refine QG.aload_ns hX (qd K_L_law5 13 rfl) rfl rfl ?_
  refine QG.iload_n hX (qd K_L_law5 14 rfl) rfl rfl ?_
  refine QG.iconst hX (qd K_L_law5 15 rfl) rfl ki_2 ?_
  refine QG.iadd hX (qd K_L_law5 16 rfl) rfl ?_
  refine QG.scld hX hs0 hsl hsA hsb (qd K_L_law5 17 rfl) rfl hi2 hv2 ?_
  refine QG.callVk (rest := []) [0, 1, 56, 57, 58, 59, 60] hz1 hX cw_L_36 (M_X7_about_ok X.l (fun j => Option.map (qinv [0, 1, 56, 57, 58, 59, 60]) (rfB j)) (A 57) (A 58) (A 59) (A 60) (V 56 4) (B 56) v1 v2 hr0 hr1 (by show Option.map _ (rfB v1.toNatClampNeg) = _; rw [hj]; rfl)) trivial (by decide) (by decide) (qd K_L_law5 18 rfl) rfl hcs rfl rfl rfl rfl (Nat.le_of_ble_eq_true rfl) (Eq.trans (congrArg (fun f => List.map (fun i => (wLx f kfB (va_rf z) (va_rf tx) A V B L M)[i]?) [0, 1, 56, 57, 58, 59, 60]) (qinv_eq [0, 1, 56, 57, 58, 59, 60] rfB).symm) rfl) rfl (Nat.le_of_ble_eq_true rfl) rfl ?_
  refine QG.eqW (Wd' := (wLx (fun j => Option.map (qf [0, 1, 56, 57, 58, 59, 60]) (Option.map (qinv [0, 1, 56, 57, 58, 59, 60]) (rfB j))) kfB (va_rf z) (va_rf tx) A V B L M)) rfl ?_
  rw [qinv_eq [0, 1, 56, 57, 58, 59, 60] rfB]
  show QG X 4 _ _ 385 _ [.int c1] _ ad _ _
  refine QG.aload_n hX (qd K_L_law5 19 rfl) rfl rfl ?_
  refine QG.aload_ns hX (qd K_L_law5 20 rfl) rfl rfl ?_
  refine QG.iload_n hX (qd K_L_law5 21 rfl) rfl rfl ?_
  refine QG.iconst hX (qd K_L_law5 22 rfl) rfl ki_1 ?_
  refine QG.iadd hX (qd K_L_law5 23 rfl) rfl ?_
  refine QG.scld hX hs0 hsl hsA hsb (qd K_L_law5 24 rfl) rfl hi1 hv1 ?_
  refine QG.aload_ns hX (qd K_L_law5 25 rfl) rfl rfl ?_
  refine QG.iload_n hX (qd K_L_law5 26 rfl) rfl rfl ?_
  refine QG.iconst hX (qd K_L_law5 27 rfl) rfl ki_2 ?_
  refine QG.iadd hX (qd K_L_law5 28 rfl) rfl ?_
  refine QG.scld hX hs0 hsl hsA hsb (qd K_L_law5 29 rfl) rfl hi2 hv2 ?_
  refine QG.callVk (rest := [.int c1]) [104, 105, 106, 107, 108, 109, 110, 111, 112, 113, 114, 115, 116, 117, 118, 119, 120, 121, 122, 123, 124, 125, 126, 127, 128, 129, 130, 131, 132, 133, 134, 135, 136, 137] hz2 hX cw_L_39 (M_X8_about X.l (V 104 0) (A 105) (A 106) (A 107) (A 108) (A 109) (A 110) (A 111) (A 112) (V 104 9) (V 104 10) (A 113) (A 114) (A 115) (A 116) M (A 118) (A 119) (A 120) (A 121) (A 122) (A 123) (A 124) (A 125) (A 126) (A 127) (A 128) (V 104 27) (V 104 28) (A 129) (V 104 30) (V 104 31) (V 104 32) (V 104 33) (V 104 34) (V 104 35) (V 104 36) (A 130) (A 131) (A 132) (A 133) (A 134) (A 135) (V 104 43) (V 104 44) (V 104 45) (V 104 46) (A 136) (A 137) v1 v2) trivial (by decide) (by decide) (qd K_L_law5 30 rfl) rfl hcs rfl rfl rfl rfl (Nat.le_of_ble_eq_true rfl) rfl rfl (Nat.le_of_ble_eq_true rfl) rfl ?_
  refine QG.eqW (Wd' := (wLx rfB kfB (va_rf z) (va_rf tx) A (va_up2 V 104 0 c2.2) B L M)) rfl ?_
  show QG X 4 _ _ 399 _ [.int c2.1, .int c1] _ ad _ _
  exact QG.ifT (by rw [he]) (QG.icmp_eq (tgt := 1048) (oF := none) hX (qd K_L_law5 31 rfl) rfl (by decide) K QG.nothing)

set_option maxRecDepth 100000 in
set_option maxHeartbeats 4000000 in
theorem C_about_3 {X : QX} (hX : qok X code RL 4 (some .boolean) 1000) {Q : Unit → State → Prop} {b LL : Nat} {xs : Nat → Int32} (hs0 : va_X b LL xs X.s X.s.heap) (hsl : b < X.s.heap.size) (hsA : ¬ X.A b) (hsb : X.sA 100 = b) {ad : Nat → Nat} {cells slots : Nat} (hcs : cells ≤ X.R.cells ∧ slots ≤ X.R.slots) {A V : Nat → Nat → Int32} {B : Nat → Bool} {L M : Nat → Int64} {z tx : Option Nat} {x3 : Int32} {v1 : Int32} {v2 : Int32} (hi1 : vp_in (x3 + 1) LL) (hv1 : xs (x3 + 1).toNatClampNeg = v1) (hi2 : vp_in (x3 + 2) LL) (hv2 : xs (x3 + 2).toNatClampNeg = v2) (hr0 : ¬ v1 < 0) (hr1 : ¬ 6 ≤ v1) (hj : v1.toNatClampNeg = 3) {c1 : Int32} {c2 : Int32 × Int32} (hz1 : F_X7_about_ok (A 62) (A 65) (V 61 4) v1 v2 = some c1) (hz2 : F_X8_about (V 104 0) (A 105) (A 106) (A 109) (A 110) (A 111) (A 112) v1 v2 = some c2) (he : c1 = c2.1)
    (K : QG X 4 Q (some ()) 1048 [(0, .float (UInt32.ofNat 100)), (1, .ref 0), (2, .ref 104), (3, .int x3)] [] (wLx rfB kfB (va_rf z) (va_rf tx) A (va_up2 V 104 0 c2.2) B L M) ad cells slots) : QG X 4 Q (some ()) 371 [(0, .float (UInt32.ofNat 100)), (1, .ref 0), (2, .ref 104), (3, .int x3)] [] (wLx rfB kfB (va_rf z) (va_rf tx) A V B L M) ad cells slots := by
  refine QG.aload_n hX (qd K_L_law5 7 rfl) rfl rfl ?_
  refine QG.aload_ns hX (qd K_L_law5 8 rfl) rfl rfl ?_
  refine QG.iload_n hX (qd K_L_law5 9 rfl) rfl rfl ?_
  refine QG.iconst hX (qd K_L_law5 10 rfl) rfl ki_1 ?_
  refine QG.iadd hX (qd K_L_law5 11 rfl) rfl ?_
  refine QG.scld hX hs0 hsl hsA hsb (qd K_L_law5 12 rfl) rfl hi1 hv1 ?_
  refine QG.aload_ns hX (qd K_L_law5 13 rfl) rfl rfl ?_
  refine QG.iload_n hX (qd K_L_law5 14 rfl) rfl rfl ?_
  refine QG.iconst hX (qd K_L_law5 15 rfl) rfl ki_2 ?_
  refine QG.iadd hX (qd K_L_law5 16 rfl) rfl ?_
  refine QG.scld hX hs0 hsl hsA hsb (qd K_L_law5 17 rfl) rfl hi2 hv2 ?_
  refine QG.callVk (rest := []) [0, 1, 61, 62, 63, 64, 65] hz1 hX cw_L_36 (M_X7_about_ok X.l (fun j => Option.map (qinv [0, 1, 61, 62, 63, 64, 65]) (rfB j)) (A 62) (A 63) (A 64) (A 65) (V 61 4) (B 61) v1 v2 hr0 hr1 (by show Option.map _ (rfB v1.toNatClampNeg) = _; rw [hj]; rfl)) trivial (by decide) (by decide) (qd K_L_law5 18 rfl) rfl hcs rfl rfl rfl rfl (Nat.le_of_ble_eq_true rfl) (Eq.trans (congrArg (fun f => List.map (fun i => (wLx f kfB (va_rf z) (va_rf tx) A V B L M)[i]?) [0, 1, 61, 62, 63, 64, 65]) (qinv_eq [0, 1, 61, 62, 63, 64, 65] rfB).symm) rfl) rfl (Nat.le_of_ble_eq_true rfl) rfl ?_
  refine QG.eqW (Wd' := (wLx (fun j => Option.map (qf [0, 1, 61, 62, 63, 64, 65]) (Option.map (qinv [0, 1, 61, 62, 63, 64, 65]) (rfB j))) kfB (va_rf z) (va_rf tx) A V B L M)) rfl ?_
  rw [qinv_eq [0, 1, 61, 62, 63, 64, 65] rfB]
  show QG X 4 _ _ 385 _ [.int c1] _ ad _ _
  refine QG.aload_n hX (qd K_L_law5 19 rfl) rfl rfl ?_
  refine QG.aload_ns hX (qd K_L_law5 20 rfl) rfl rfl ?_
  refine QG.iload_n hX (qd K_L_law5 21 rfl) rfl rfl ?_
  refine QG.iconst hX (qd K_L_law5 22 rfl) rfl ki_1 ?_
  refine QG.iadd hX (qd K_L_law5 23 rfl) rfl ?_
  refine QG.scld hX hs0 hsl hsA hsb (qd K_L_law5 24 rfl) rfl hi1 hv1 ?_
  refine QG.aload_ns hX (qd K_L_law5 25 rfl) rfl rfl ?_
  refine QG.iload_n hX (qd K_L_law5 26 rfl) rfl rfl ?_
  refine QG.iconst hX (qd K_L_law5 27 rfl) rfl ki_2 ?_
  refine QG.iadd hX (qd K_L_law5 28 rfl) rfl ?_
  refine QG.scld hX hs0 hsl hsA hsb (qd K_L_law5 29 rfl) rfl hi2 hv2 ?_
  refine QG.callVk (rest := [.int c1]) [104, 105, 106, 107, 108, 109, 110, 111, 112, 113, 114, 115, 116, 117, 118, 119, 120, 121, 122, 123, 124, 125, 126, 127, 128, 129, 130, 131, 132, 133, 134, 135, 136, 137] hz2 hX cw_L_39 (M_X8_about X.l (V 104 0) (A 105) (A 106) (A 107) (A 108) (A 109) (A 110) (A 111) (A 112) (V 104 9) (V 104 10) (A 113) (A 114) (A 115) (A 116) M (A 118) (A 119) (A 120) (A 121) (A 122) (A 123) (A 124) (A 125) (A 126) (A 127) (A 128) (V 104 27) (V 104 28) (A 129) (V 104 30) (V 104 31) (V 104 32) (V 104 33) (V 104 34) (V 104 35) (V 104 36) (A 130) (A 131) (A 132) (A 133) (A 134) (A 135) (V 104 43) (V 104 44) (V 104 45) (V 104 46) (A 136) (A 137) v1 v2) trivial (by decide) (by decide) (qd K_L_law5 30 rfl) rfl hcs rfl rfl rfl rfl (Nat.le_of_ble_eq_true rfl) rfl rfl (Nat.le_of_ble_eq_true rfl) rfl ?_
  refine QG.eqW (Wd' := (wLx rfB kfB (va_rf z) (va_rf tx) A (va_up2 V 104 0 c2.2) B L M)) rfl ?_
  show QG X 4 _ _ 399 _ [.int c2.1, .int c1] _ ad _ _
  exact QG.ifT (by rw [he]) (QG.icmp_eq (tgt := 1048) (oF := none) hX (qd K_L_law5 31 rfl) rfl (by decide) K QG.nothing)

set_option maxRecDepth 100000 in
set_option maxHeartbeats 4000000 in
theorem C_about_4 {X : QX} (hX : qok X code RL 4 (some .boolean) 1000) {Q : Unit → State → Prop} {b LL : Nat} {xs : Nat → Int32} (hs0 : va_X b LL xs X.s X.s.heap) (hsl : b < X.s.heap.size) (hsA : ¬ X.A b) (hsb : X.sA 100 = b) {ad : Nat → Nat} {cells slots : Nat} (hcs : cells ≤ X.R.cells ∧ slots ≤ X.R.slots) {A V : Nat → Nat → Int32} {B : Nat → Bool} {L M : Nat → Int64} {z tx : Option Nat} {x3 : Int32} {v1 : Int32} {v2 : Int32} (hi1 : vp_in (x3 + 1) LL) (hv1 : xs (x3 + 1).toNatClampNeg = v1) (hi2 : vp_in (x3 + 2) LL) (hv2 : xs (x3 + 2).toNatClampNeg = v2) (hr0 : ¬ v1 < 0) (hr1 : ¬ 6 ≤ v1) (hj : v1.toNatClampNeg = 4) {c1 : Int32} {c2 : Int32 × Int32} (hz1 : F_X7_about_ok (A 67) (A 70) (V 66 4) v1 v2 = some c1) (hz2 : F_X8_about (V 104 0) (A 105) (A 106) (A 109) (A 110) (A 111) (A 112) v1 v2 = some c2) (he : c1 = c2.1)
    (K : QG X 4 Q (some ()) 1048 [(0, .float (UInt32.ofNat 100)), (1, .ref 0), (2, .ref 104), (3, .int x3)] [] (wLx rfB kfB (va_rf z) (va_rf tx) A (va_up2 V 104 0 c2.2) B L M) ad cells slots) : QG X 4 Q (some ()) 371 [(0, .float (UInt32.ofNat 100)), (1, .ref 0), (2, .ref 104), (3, .int x3)] [] (wLx rfB kfB (va_rf z) (va_rf tx) A V B L M) ad cells slots := by
  refine QG.aload_n hX (qd K_L_law5 7 rfl) rfl rfl ?_
  refine QG.aload_ns hX (qd K_L_law5 8 rfl) rfl rfl ?_
  refine QG.iload_n hX (qd K_L_law5 9 rfl) rfl rfl ?_
  refine QG.iconst hX (qd K_L_law5 10 rfl) rfl ki_1 ?_
  refine QG.iadd hX (qd K_L_law5 11 rfl) rfl ?_
  refine QG.scld hX hs0 hsl hsA hsb (qd K_L_law5 12 rfl) rfl hi1 hv1 ?_
  refine QG.aload_ns hX (qd K_L_law5 13 rfl) rfl rfl ?_
  refine QG.iload_n hX (qd K_L_law5 14 rfl) rfl rfl ?_
  refine QG.iconst hX (qd K_L_law5 15 rfl) rfl ki_2 ?_
  refine QG.iadd hX (qd K_L_law5 16 rfl) rfl ?_
  refine QG.scld hX hs0 hsl hsA hsb (qd K_L_law5 17 rfl) rfl hi2 hv2 ?_
  refine QG.callVk (rest := []) [0, 1, 66, 67, 68, 69, 70] hz1 hX cw_L_36 (M_X7_about_ok X.l (fun j => Option.map (qinv [0, 1, 66, 67, 68, 69, 70]) (rfB j)) (A 67) (A 68) (A 69) (A 70) (V 66 4) (B 66) v1 v2 hr0 hr1 (by show Option.map _ (rfB v1.toNatClampNeg) = _; rw [hj]; rfl)) trivial (by decide) (by decide) (qd K_L_law5 18 rfl) rfl hcs rfl rfl rfl rfl (Nat.le_of_ble_eq_true rfl) (Eq.trans (congrArg (fun f => List.map (fun i => (wLx f kfB (va_rf z) (va_rf tx) A V B L M)[i]?) [0, 1, 66, 67, 68, 69, 70]) (qinv_eq [0, 1, 66, 67, 68, 69, 70] rfB).symm) rfl) rfl (Nat.le_of_ble_eq_true rfl) rfl ?_
  refine QG.eqW (Wd' := (wLx (fun j => Option.map (qf [0, 1, 66, 67, 68, 69, 70]) (Option.map (qinv [0, 1, 66, 67, 68, 69, 70]) (rfB j))) kfB (va_rf z) (va_rf tx) A V B L M)) rfl ?_
  rw [qinv_eq [0, 1, 66, 67, 68, 69, 70] rfB]
  show QG X 4 _ _ 385 _ [.int c1] _ ad _ _
  refine QG.aload_n hX (qd K_L_law5 19 rfl) rfl rfl ?_
  refine QG.aload_ns hX (qd K_L_law5 20 rfl) rfl rfl ?_
  refine QG.iload_n hX (qd K_L_law5 21 rfl) rfl rfl ?_
  refine QG.iconst hX (qd K_L_law5 22 rfl) rfl ki_1 ?_
  refine QG.iadd hX (qd K_L_law5 23 rfl) rfl ?_
  refine QG.scld hX hs0 hsl hsA hsb (qd K_L_law5 24 rfl) rfl hi1 hv1 ?_
  refine QG.aload_ns hX (qd K_L_law5 25 rfl) rfl rfl ?_
  refine QG.iload_n hX (qd K_L_law5 26 rfl) rfl rfl ?_
  refine QG.iconst hX (qd K_L_law5 27 rfl) rfl ki_2 ?_
  refine QG.iadd hX (qd K_L_law5 28 rfl) rfl ?_
  refine QG.scld hX hs0 hsl hsA hsb (qd K_L_law5 29 rfl) rfl hi2 hv2 ?_
  refine QG.callVk (rest := [.int c1]) [104, 105, 106, 107, 108, 109, 110, 111, 112, 113, 114, 115, 116, 117, 118, 119, 120, 121, 122, 123, 124, 125, 126, 127, 128, 129, 130, 131, 132, 133, 134, 135, 136, 137] hz2 hX cw_L_39 (M_X8_about X.l (V 104 0) (A 105) (A 106) (A 107) (A 108) (A 109) (A 110) (A 111) (A 112) (V 104 9) (V 104 10) (A 113) (A 114) (A 115) (A 116) M (A 118) (A 119) (A 120) (A 121) (A 122) (A 123) (A 124) (A 125) (A 126) (A 127) (A 128) (V 104 27) (V 104 28) (A 129) (V 104 30) (V 104 31) (V 104 32) (V 104 33) (V 104 34) (V 104 35) (V 104 36) (A 130) (A 131) (A 132) (A 133) (A 134) (A 135) (V 104 43) (V 104 44) (V 104 45) (V 104 46) (A 136) (A 137) v1 v2) trivial (by decide) (by decide) (qd K_L_law5 30 rfl) rfl hcs rfl rfl rfl rfl (Nat.le_of_ble_eq_true rfl) rfl rfl (Nat.le_of_ble_eq_true rfl) rfl ?_
  refine QG.eqW (Wd' := (wLx rfB kfB (va_rf z) (va_rf tx) A (va_up2 V 104 0 c2.2) B L M)) rfl ?_
  show QG X 4 _ _ 399 _ [.int c2.1, .int c1] _ ad _ _
  exact QG.ifT (by rw [he]) (QG.icmp_eq (tgt := 1048) (oF := none) hX (qd K_L_law5 31 rfl) rfl (by decide) K QG.nothing)

set_option maxRecDepth 100000 in
set_option maxHeartbeats 4000000 in
theorem C_about_5 {X : QX} (hX : qok X code RL 4 (some .boolean) 1000) {Q : Unit → State → Prop} {b LL : Nat} {xs : Nat → Int32} (hs0 : va_X b LL xs X.s X.s.heap) (hsl : b < X.s.heap.size) (hsA : ¬ X.A b) (hsb : X.sA 100 = b) {ad : Nat → Nat} {cells slots : Nat} (hcs : cells ≤ X.R.cells ∧ slots ≤ X.R.slots) {A V : Nat → Nat → Int32} {B : Nat → Bool} {L M : Nat → Int64} {z tx : Option Nat} {x3 : Int32} {v1 : Int32} {v2 : Int32} (hi1 : vp_in (x3 + 1) LL) (hv1 : xs (x3 + 1).toNatClampNeg = v1) (hi2 : vp_in (x3 + 2) LL) (hv2 : xs (x3 + 2).toNatClampNeg = v2) (hr0 : ¬ v1 < 0) (hr1 : ¬ 6 ≤ v1) (hj : v1.toNatClampNeg = 5) {c1 : Int32} {c2 : Int32 × Int32} (hz1 : F_X7_about_ok (A 72) (A 75) (V 71 4) v1 v2 = some c1) (hz2 : F_X8_about (V 104 0) (A 105) (A 106) (A 109) (A 110) (A 111) (A 112) v1 v2 = some c2) (he : c1 = c2.1)
    (K : QG X 4 Q (some ()) 1048 [(0, .float (UInt32.ofNat 100)), (1, .ref 0), (2, .ref 104), (3, .int x3)] [] (wLx rfB kfB (va_rf z) (va_rf tx) A (va_up2 V 104 0 c2.2) B L M) ad cells slots) : QG X 4 Q (some ()) 371 [(0, .float (UInt32.ofNat 100)), (1, .ref 0), (2, .ref 104), (3, .int x3)] [] (wLx rfB kfB (va_rf z) (va_rf tx) A V B L M) ad cells slots := by
  refine QG.aload_n hX (qd K_L_law5 7 rfl) rfl rfl ?_
  refine QG.aload_ns hX (qd K_L_law5 8 rfl) rfl rfl ?_
  refine QG.iload_n hX (qd K_L_law5 9 rfl) rfl rfl ?_
  refine QG.iconst hX (qd K_L_law5 10 rfl) rfl ki_1 ?_
  refine QG.iadd hX (qd K_L_law5 11 rfl) rfl ?_
  refine QG.scld hX hs0 hsl hsA hsb (qd K_L_law5 12 rfl) rfl hi1 hv1 ?_
  refine QG.aload_ns hX (qd K_L_law5 13 rfl) rfl rfl ?_
  refine QG.iload_n hX (qd K_L_law5 14 rfl) rfl rfl ?_
  refine QG.iconst hX (qd K_L_law5 15 rfl) rfl ki_2 ?_
  refine QG.iadd hX (qd K_L_law5 16 rfl) rfl ?_
  refine QG.scld hX hs0 hsl hsA hsb (qd K_L_law5 17 rfl) rfl hi2 hv2 ?_
  refine QG.callVk (rest := []) [0, 1, 71, 72, 73, 74, 75] hz1 hX cw_L_36 (M_X7_about_ok X.l (fun j => Option.map (qinv [0, 1, 71, 72, 73, 74, 75]) (rfB j)) (A 72) (A 73) (A 74) (A 75) (V 71 4) (B 71) v1 v2 hr0 hr1 (by show Option.map _ (rfB v1.toNatClampNeg) = _; rw [hj]; rfl)) trivial (by decide) (by decide) (qd K_L_law5 18 rfl) rfl hcs rfl rfl rfl rfl (Nat.le_of_ble_eq_true rfl) (Eq.trans (congrArg (fun f => List.map (fun i => (wLx f kfB (va_rf z) (va_rf tx) A V B L M)[i]?) [0, 1, 71, 72, 73, 74, 75]) (qinv_eq [0, 1, 71, 72, 73, 74, 75] rfB).symm) rfl) rfl (Nat.le_of_ble_eq_true rfl) rfl ?_
  refine QG.eqW (Wd' := (wLx (fun j => Option.map (qf [0, 1, 71, 72, 73, 74, 75]) (Option.map (qinv [0, 1, 71, 72, 73, 74, 75]) (rfB j))) kfB (va_rf z) (va_rf tx) A V B L M)) rfl ?_
  rw [qinv_eq [0, 1, 71, 72, 73, 74, 75] rfB]
  show QG X 4 _ _ 385 _ [.int c1] _ ad _ _
  refine QG.aload_n hX (qd K_L_law5 19 rfl) rfl rfl ?_
  refine QG.aload_ns hX (qd K_L_law5 20 rfl) rfl rfl ?_
  refine QG.iload_n hX (qd K_L_law5 21 rfl) rfl rfl ?_
  refine QG.iconst hX (qd K_L_law5 22 rfl) rfl ki_1 ?_
  refine QG.iadd hX (qd K_L_law5 23 rfl) rfl ?_
  refine QG.scld hX hs0 hsl hsA hsb (qd K_L_law5 24 rfl) rfl hi1 hv1 ?_
  refine QG.aload_ns hX (qd K_L_law5 25 rfl) rfl rfl ?_
  refine QG.iload_n hX (qd K_L_law5 26 rfl) rfl rfl ?_
  refine QG.iconst hX (qd K_L_law5 27 rfl) rfl ki_2 ?_
  refine QG.iadd hX (qd K_L_law5 28 rfl) rfl ?_
  refine QG.scld hX hs0 hsl hsA hsb (qd K_L_law5 29 rfl) rfl hi2 hv2 ?_
  refine QG.callVk (rest := [.int c1]) [104, 105, 106, 107, 108, 109, 110, 111, 112, 113, 114, 115, 116, 117, 118, 119, 120, 121, 122, 123, 124, 125, 126, 127, 128, 129, 130, 131, 132, 133, 134, 135, 136, 137] hz2 hX cw_L_39 (M_X8_about X.l (V 104 0) (A 105) (A 106) (A 107) (A 108) (A 109) (A 110) (A 111) (A 112) (V 104 9) (V 104 10) (A 113) (A 114) (A 115) (A 116) M (A 118) (A 119) (A 120) (A 121) (A 122) (A 123) (A 124) (A 125) (A 126) (A 127) (A 128) (V 104 27) (V 104 28) (A 129) (V 104 30) (V 104 31) (V 104 32) (V 104 33) (V 104 34) (V 104 35) (V 104 36) (A 130) (A 131) (A 132) (A 133) (A 134) (A 135) (V 104 43) (V 104 44) (V 104 45) (V 104 46) (A 136) (A 137) v1 v2) trivial (by decide) (by decide) (qd K_L_law5 30 rfl) rfl hcs rfl rfl rfl rfl (Nat.le_of_ble_eq_true rfl) rfl rfl (Nat.le_of_ble_eq_true rfl) rfl ?_
  refine QG.eqW (Wd' := (wLx rfB kfB (va_rf z) (va_rf tx) A (va_up2 V 104 0 c2.2) B L M)) rfl ?_
  show QG X 4 _ _ 399 _ [.int c2.1, .int c1] _ ad _ _
  exact QG.ifT (by rw [he]) (QG.icmp_eq (tgt := 1048) (oF := none) hX (qd K_L_law5 31 rfl) rfl (by decide) K QG.nothing)

set_option maxRecDepth 100000 in
set_option maxHeartbeats 4000000 in
theorem C_rule_no {X : QX} (hX : qok X code RL 4 (some .boolean) 1000) {Q : Unit → State → Prop} {b LL : Nat} {xs : Nat → Int32} (hs0 : va_X b LL xs X.s X.s.heap) (hsl : b < X.s.heap.size) (hsA : ¬ X.A b) (hsb : X.sA 100 = b) {ad : Nat → Nat} {cells slots : Nat} (hcs : cells ≤ X.R.cells ∧ slots ≤ X.R.slots) {A V : Nat → Nat → Int32} {B : Nat → Bool} {L M : Nat → Int64} {z tx : Option Nat} {x3 : Int32} {v1 : Int32} {v2 : Int32} {v3 : Int32} (hi1 : vp_in (x3 + 1) LL) (hv1 : xs (x3 + 1).toNatClampNeg = v1) (hi2 : vp_in (x3 + 2) LL) (hv2 : xs (x3 + 2).toNatClampNeg = v2) (hi3 : vp_in (x3 + 3) LL) (hv3 : xs (x3 + 3).toNatClampNeg = v3) (hr : v1 < 0 ∨ 6 ≤ v1) {c1 : Bool} {c2 : Bool × Int32 × (Nat → Int32) × (Nat → Int32) × (Nat → Int32) × (Nat → Int32)} (hz1 : F_X7_rule_no v1 v2 v3 = some c1) (hz2 : F_X8_rule (V 104 0) (A 109) (A 110) (A 111) (A 112) v1 v2 v3 = some c2) (he : c1 = c2.1)
    (K : QG X 4 Q (some ()) 1048 [(0, .float (UInt32.ofNat 100)), (1, .ref 0), (2, .ref 104), (3, .int x3)] [] (wLx rfB kfB (va_rf z) (va_rf tx) (va_up (va_up (va_up (va_up A 109 c2.2.2.1) 110 c2.2.2.2.1) 111 c2.2.2.2.2.1) 112 c2.2.2.2.2.2) (va_up2 V 104 0 c2.2.1) B L M) ad cells slots) : QG X 4 Q (some ()) 404 [(0, .float (UInt32.ofNat 100)), (1, .ref 0), (2, .ref 104), (3, .int x3)] [] (wLx rfB kfB (va_rf z) (va_rf tx) A V B L M) ad cells slots := by
  refine QG.aload_n hX (qd K_L_law5 34 rfl) rfl rfl ?_
  refine QG.aload_ns hX (qd K_L_law5 35 rfl) rfl rfl ?_
  refine QG.iload_n hX (qd K_L_law5 36 rfl) rfl rfl ?_
  refine QG.iconst hX (qd K_L_law5 37 rfl) rfl ki_1 ?_
  refine QG.iadd hX (qd K_L_law5 38 rfl) rfl ?_
  refine QG.scld hX hs0 hsl hsA hsb (qd K_L_law5 39 rfl) rfl hi1 hv1 ?_
  refine QG.aload_ns hX (qd K_L_law6 0 rfl) rfl rfl ?_
  refine QG.iload_n hX (qd K_L_law6 1 rfl) rfl rfl ?_
  refine QG.iconst hX (qd K_L_law6 2 rfl) rfl ki_2 ?_
  refine QG.iadd hX (qd K_L_law6 3 rfl) rfl ?_
  refine QG.scld hX hs0 hsl hsA hsb (qd K_L_law6 4 rfl) rfl hi2 hv2 ?_
  refine QG.aload_ns hX (qd K_L_law6 5 rfl) rfl rfl ?_
  refine QG.iload_n hX (qd K_L_law6 6 rfl) rfl rfl ?_
  refine QG.iconst hX (qd K_L_law6 7 rfl) rfl ki_3 ?_
  refine QG.iadd hX (qd K_L_law6 8 rfl) rfl ?_
  refine QG.scld hX hs0 hsl hsA hsb (qd K_L_law6 9 rfl) rfl hi3 hv3 ?_
  refine QG.callVk (rest := []) [0, 1] hz1 hX cw_L_40 (M_X7_rule_no X.l (fun j => Option.map (qinv [0, 1]) (rfB j)) v1 v2 v3 hr) trivial (by decide) (by decide) (qd K_L_law6 10 rfl) rfl hcs rfl rfl rfl rfl (Nat.le_of_ble_eq_true rfl) (Eq.trans (congrArg (fun f => List.map (fun i => (wLx f kfB (va_rf z) (va_rf tx) A V B L M)[i]?) [0, 1]) (qinv_eq [0, 1] rfB).symm) rfl) rfl (Nat.le_of_ble_eq_true rfl) rfl ?_
  refine QG.eqW (Wd' := (wLx (fun j => Option.map (qf [0, 1]) (Option.map (qinv [0, 1]) (rfB j))) kfB (va_rf z) (va_rf tx) A V B L M)) rfl ?_
  rw [qinv_eq [0, 1] rfB]
  show QG X 4 _ _ 423 _ [.int (qb c1)] _ ad _ _
  refine QG.aload_n hX (qd K_L_law6 11 rfl) rfl rfl ?_
  refine QG.aload_ns hX (qd K_L_law6 12 rfl) rfl rfl ?_
  refine QG.iload_n hX (qd K_L_law6 13 rfl) rfl rfl ?_
  refine QG.iconst hX (qd K_L_law6 14 rfl) rfl ki_1 ?_
  refine QG.iadd hX (qd K_L_law6 15 rfl) rfl ?_
  refine QG.scld hX hs0 hsl hsA hsb (qd K_L_law6 16 rfl) rfl hi1 hv1 ?_
  refine QG.aload_ns hX (qd K_L_law6 17 rfl) rfl rfl ?_
  refine QG.iload_n hX (qd K_L_law6 18 rfl) rfl rfl ?_
  refine QG.iconst hX (qd K_L_law6 19 rfl) rfl ki_2 ?_
  refine QG.iadd hX (qd K_L_law6 20 rfl) rfl ?_
  refine QG.scld hX hs0 hsl hsA hsb (qd K_L_law6 21 rfl) rfl hi2 hv2 ?_
  refine QG.aload_ns hX (qd K_L_law6 22 rfl) rfl rfl ?_
  refine QG.iload_n hX (qd K_L_law6 23 rfl) rfl rfl ?_
  refine QG.iconst hX (qd K_L_law6 24 rfl) rfl ki_3 ?_
  refine QG.iadd hX (qd K_L_law6 25 rfl) rfl ?_
  refine QG.scld hX hs0 hsl hsA hsb (qd K_L_law6 26 rfl) rfl hi3 hv3 ?_
  refine QG.callVk (rest := [.int (qb c1)]) [104, 105, 106, 107, 108, 109, 110, 111, 112, 113, 114, 115, 116, 117, 118, 119, 120, 121, 122, 123, 124, 125, 126, 127, 128, 129, 130, 131, 132, 133, 134, 135, 136, 137] hz2 hX cw_L_44 (M_X8_rule X.l (V 104 0) (A 105) (A 106) (A 107) (A 108) (A 109) (A 110) (A 111) (A 112) (V 104 9) (V 104 10) (A 113) (A 114) (A 115) (A 116) M (A 118) (A 119) (A 120) (A 121) (A 122) (A 123) (A 124) (A 125) (A 126) (A 127) (A 128) (V 104 27) (V 104 28) (A 129) (V 104 30) (V 104 31) (V 104 32) (V 104 33) (V 104 34) (V 104 35) (V 104 36) (A 130) (A 131) (A 132) (A 133) (A 134) (A 135) (V 104 43) (V 104 44) (V 104 45) (V 104 46) (A 136) (A 137) v1 v2 v3) trivial (by decide) (by decide) (qd K_L_law6 27 rfl) rfl hcs rfl rfl rfl rfl (Nat.le_of_ble_eq_true rfl) rfl rfl (Nat.le_of_ble_eq_true rfl) rfl ?_
  refine QG.eqW (Wd' := (wLx rfB kfB (va_rf z) (va_rf tx) (va_up (va_up (va_up (va_up A 109 c2.2.2.1) 110 c2.2.2.2.1) 111 c2.2.2.2.2.1) 112 c2.2.2.2.2.2) (va_up2 V 104 0 c2.2.1) B L M)) rfl ?_
  show QG X 4 _ _ 442 _ [.int (qb c2.1), .int (qb c1)] _ ad _ _
  exact QG.ifT (by rw [he]) (QG.icmp_eq (tgt := 1048) (oF := none) hX (qd K_L_law6 28 rfl) rfl (by decide) K QG.nothing)

set_option maxRecDepth 100000 in
set_option maxHeartbeats 4000000 in
theorem C_rule_0 {X : QX} (hX : qok X code RL 4 (some .boolean) 1000) {Q : Unit → State → Prop} {b LL : Nat} {xs : Nat → Int32} (hs0 : va_X b LL xs X.s X.s.heap) (hsl : b < X.s.heap.size) (hsA : ¬ X.A b) (hsb : X.sA 100 = b) {ad : Nat → Nat} {cells slots : Nat} (hcs : cells ≤ X.R.cells ∧ slots ≤ X.R.slots) {A V : Nat → Nat → Int32} {B : Nat → Bool} {L M : Nat → Int64} {z tx : Option Nat} {x3 : Int32} {v1 : Int32} {v2 : Int32} {v3 : Int32} (hi1 : vp_in (x3 + 1) LL) (hv1 : xs (x3 + 1).toNatClampNeg = v1) (hi2 : vp_in (x3 + 2) LL) (hv2 : xs (x3 + 2).toNatClampNeg = v2) (hi3 : vp_in (x3 + 3) LL) (hv3 : xs (x3 + 3).toNatClampNeg = v3) (hr0 : ¬ v1 < 0) (hr1 : ¬ 6 ≤ v1) (hj : v1.toNatClampNeg = 0) {c1 : Bool × (Nat → Int32) × Bool} {c2 : Bool × Int32 × (Nat → Int32) × (Nat → Int32) × (Nat → Int32) × (Nat → Int32)} (hz1 : F_X7_rule_ok (A 50) (B 46) v1 v2 v3 = some c1) (hz2 : F_X8_rule (V 104 0) (A 109) (A 110) (A 111) (A 112) v1 v2 v3 = some c2) (he : c1.1 = c2.1)
    (K : QG X 4 Q (some ()) 1048 [(0, .float (UInt32.ofNat 100)), (1, .ref 0), (2, .ref 104), (3, .int x3)] [] (wLx rfB kfB (va_rf z) (va_rf tx) (va_up (va_up (va_up (va_up (va_up A 50 c1.2.1) 109 c2.2.2.1) 110 c2.2.2.2.1) 111 c2.2.2.2.2.1) 112 c2.2.2.2.2.2) (va_up2 V 104 0 c2.2.1) (va_up B 46 c1.2.2) L M) ad cells slots) : QG X 4 Q (some ()) 404 [(0, .float (UInt32.ofNat 100)), (1, .ref 0), (2, .ref 104), (3, .int x3)] [] (wLx rfB kfB (va_rf z) (va_rf tx) A V B L M) ad cells slots := by
  refine QG.aload_n hX (qd K_L_law5 34 rfl) rfl rfl ?_
  refine QG.aload_ns hX (qd K_L_law5 35 rfl) rfl rfl ?_
  refine QG.iload_n hX (qd K_L_law5 36 rfl) rfl rfl ?_
  refine QG.iconst hX (qd K_L_law5 37 rfl) rfl ki_1 ?_
  refine QG.iadd hX (qd K_L_law5 38 rfl) rfl ?_
  refine QG.scld hX hs0 hsl hsA hsb (qd K_L_law5 39 rfl) rfl hi1 hv1 ?_
  refine QG.aload_ns hX (qd K_L_law6 0 rfl) rfl rfl ?_
  refine QG.iload_n hX (qd K_L_law6 1 rfl) rfl rfl ?_
  refine QG.iconst hX (qd K_L_law6 2 rfl) rfl ki_2 ?_
  refine QG.iadd hX (qd K_L_law6 3 rfl) rfl ?_
  refine QG.scld hX hs0 hsl hsA hsb (qd K_L_law6 4 rfl) rfl hi2 hv2 ?_
  refine QG.aload_ns hX (qd K_L_law6 5 rfl) rfl rfl ?_
  refine QG.iload_n hX (qd K_L_law6 6 rfl) rfl rfl ?_
  refine QG.iconst hX (qd K_L_law6 7 rfl) rfl ki_3 ?_
  refine QG.iadd hX (qd K_L_law6 8 rfl) rfl ?_
  refine QG.scld hX hs0 hsl hsA hsb (qd K_L_law6 9 rfl) rfl hi3 hv3 ?_
  refine QG.callVk (rest := []) [0, 1, 46, 47, 48, 49, 50] hz1 hX cw_L_40 (M_X7_rule_ok X.l (fun j => Option.map (qinv [0, 1, 46, 47, 48, 49, 50]) (rfB j)) (A 47) (A 48) (A 49) (A 50) (V 46 4) (B 46) v1 v2 v3 hr0 hr1 (by show Option.map _ (rfB v1.toNatClampNeg) = _; rw [hj]; rfl)) trivial (by decide) (by decide) (qd K_L_law6 10 rfl) rfl hcs rfl rfl rfl rfl (Nat.le_of_ble_eq_true rfl) (Eq.trans (congrArg (fun f => List.map (fun i => (wLx f kfB (va_rf z) (va_rf tx) A V B L M)[i]?) [0, 1, 46, 47, 48, 49, 50]) (qinv_eq [0, 1, 46, 47, 48, 49, 50] rfB).symm) rfl) rfl (Nat.le_of_ble_eq_true rfl) rfl ?_
  refine QG.eqW (Wd' := (wLx (fun j => Option.map (qf [0, 1, 46, 47, 48, 49, 50]) (Option.map (qinv [0, 1, 46, 47, 48, 49, 50]) (rfB j))) kfB (va_rf z) (va_rf tx) (va_up A 50 c1.2.1) V (va_up B 46 c1.2.2) L M)) rfl ?_
  rw [qinv_eq [0, 1, 46, 47, 48, 49, 50] rfB]
  show QG X 4 _ _ 423 _ [.int (qb c1.1)] _ ad _ _
  refine QG.aload_n hX (qd K_L_law6 11 rfl) rfl rfl ?_
  refine QG.aload_ns hX (qd K_L_law6 12 rfl) rfl rfl ?_
  refine QG.iload_n hX (qd K_L_law6 13 rfl) rfl rfl ?_
  refine QG.iconst hX (qd K_L_law6 14 rfl) rfl ki_1 ?_
  refine QG.iadd hX (qd K_L_law6 15 rfl) rfl ?_
  refine QG.scld hX hs0 hsl hsA hsb (qd K_L_law6 16 rfl) rfl hi1 hv1 ?_
  refine QG.aload_ns hX (qd K_L_law6 17 rfl) rfl rfl ?_
  refine QG.iload_n hX (qd K_L_law6 18 rfl) rfl rfl ?_
  refine QG.iconst hX (qd K_L_law6 19 rfl) rfl ki_2 ?_
  refine QG.iadd hX (qd K_L_law6 20 rfl) rfl ?_
  refine QG.scld hX hs0 hsl hsA hsb (qd K_L_law6 21 rfl) rfl hi2 hv2 ?_
  refine QG.aload_ns hX (qd K_L_law6 22 rfl) rfl rfl ?_
  refine QG.iload_n hX (qd K_L_law6 23 rfl) rfl rfl ?_
  refine QG.iconst hX (qd K_L_law6 24 rfl) rfl ki_3 ?_
  refine QG.iadd hX (qd K_L_law6 25 rfl) rfl ?_
  refine QG.scld hX hs0 hsl hsA hsb (qd K_L_law6 26 rfl) rfl hi3 hv3 ?_
  refine QG.callVk (rest := [.int (qb c1.1)]) [104, 105, 106, 107, 108, 109, 110, 111, 112, 113, 114, 115, 116, 117, 118, 119, 120, 121, 122, 123, 124, 125, 126, 127, 128, 129, 130, 131, 132, 133, 134, 135, 136, 137] hz2 hX cw_L_44 (M_X8_rule X.l (V 104 0) (A 105) (A 106) (A 107) (A 108) (A 109) (A 110) (A 111) (A 112) (V 104 9) (V 104 10) (A 113) (A 114) (A 115) (A 116) M (A 118) (A 119) (A 120) (A 121) (A 122) (A 123) (A 124) (A 125) (A 126) (A 127) (A 128) (V 104 27) (V 104 28) (A 129) (V 104 30) (V 104 31) (V 104 32) (V 104 33) (V 104 34) (V 104 35) (V 104 36) (A 130) (A 131) (A 132) (A 133) (A 134) (A 135) (V 104 43) (V 104 44) (V 104 45) (V 104 46) (A 136) (A 137) v1 v2 v3) trivial (by decide) (by decide) (qd K_L_law6 27 rfl) rfl hcs rfl rfl rfl rfl (Nat.le_of_ble_eq_true rfl) rfl rfl (Nat.le_of_ble_eq_true rfl) rfl ?_
  refine QG.eqW (Wd' := (wLx rfB kfB (va_rf z) (va_rf tx) (va_up (va_up (va_up (va_up (va_up A 50 c1.2.1) 109 c2.2.2.1) 110 c2.2.2.2.1) 111 c2.2.2.2.2.1) 112 c2.2.2.2.2.2) (va_up2 V 104 0 c2.2.1) (va_up B 46 c1.2.2) L M)) rfl ?_
  show QG X 4 _ _ 442 _ [.int (qb c2.1), .int (qb c1.1)] _ ad _ _
  exact QG.ifT (by rw [he]) (QG.icmp_eq (tgt := 1048) (oF := none) hX (qd K_L_law6 28 rfl) rfl (by decide) K QG.nothing)

set_option maxRecDepth 100000 in
set_option maxHeartbeats 4000000 in
theorem C_rule_1 {X : QX} (hX : qok X code RL 4 (some .boolean) 1000) {Q : Unit → State → Prop} {b LL : Nat} {xs : Nat → Int32} (hs0 : va_X b LL xs X.s X.s.heap) (hsl : b < X.s.heap.size) (hsA : ¬ X.A b) (hsb : X.sA 100 = b) {ad : Nat → Nat} {cells slots : Nat} (hcs : cells ≤ X.R.cells ∧ slots ≤ X.R.slots) {A V : Nat → Nat → Int32} {B : Nat → Bool} {L M : Nat → Int64} {z tx : Option Nat} {x3 : Int32} {v1 : Int32} {v2 : Int32} {v3 : Int32} (hi1 : vp_in (x3 + 1) LL) (hv1 : xs (x3 + 1).toNatClampNeg = v1) (hi2 : vp_in (x3 + 2) LL) (hv2 : xs (x3 + 2).toNatClampNeg = v2) (hi3 : vp_in (x3 + 3) LL) (hv3 : xs (x3 + 3).toNatClampNeg = v3) (hr0 : ¬ v1 < 0) (hr1 : ¬ 6 ≤ v1) (hj : v1.toNatClampNeg = 1) {c1 : Bool × (Nat → Int32) × Bool} {c2 : Bool × Int32 × (Nat → Int32) × (Nat → Int32) × (Nat → Int32) × (Nat → Int32)} (hz1 : F_X7_rule_ok (A 55) (B 51) v1 v2 v3 = some c1) (hz2 : F_X8_rule (V 104 0) (A 109) (A 110) (A 111) (A 112) v1 v2 v3 = some c2) (he : c1.1 = c2.1)
    (K : QG X 4 Q (some ()) 1048 [(0, .float (UInt32.ofNat 100)), (1, .ref 0), (2, .ref 104), (3, .int x3)] [] (wLx rfB kfB (va_rf z) (va_rf tx) (va_up (va_up (va_up (va_up (va_up A 55 c1.2.1) 109 c2.2.2.1) 110 c2.2.2.2.1) 111 c2.2.2.2.2.1) 112 c2.2.2.2.2.2) (va_up2 V 104 0 c2.2.1) (va_up B 51 c1.2.2) L M) ad cells slots) : QG X 4 Q (some ()) 404 [(0, .float (UInt32.ofNat 100)), (1, .ref 0), (2, .ref 104), (3, .int x3)] [] (wLx rfB kfB (va_rf z) (va_rf tx) A V B L M) ad cells slots := by
  refine QG.aload_n hX (qd K_L_law5 34 rfl) rfl rfl ?_
  refine QG.aload_ns hX (qd K_L_law5 35 rfl) rfl rfl ?_
  refine QG.iload_n hX (qd K_L_law5 36 rfl) rfl rfl ?_
  refine QG.iconst hX (qd K_L_law5 37 rfl) rfl ki_1 ?_
  refine QG.iadd hX (qd K_L_law5 38 rfl) rfl ?_
  refine QG.scld hX hs0 hsl hsA hsb (qd K_L_law5 39 rfl) rfl hi1 hv1 ?_
  refine QG.aload_ns hX (qd K_L_law6 0 rfl) rfl rfl ?_
  refine QG.iload_n hX (qd K_L_law6 1 rfl) rfl rfl ?_
  refine QG.iconst hX (qd K_L_law6 2 rfl) rfl ki_2 ?_
  refine QG.iadd hX (qd K_L_law6 3 rfl) rfl ?_
  refine QG.scld hX hs0 hsl hsA hsb (qd K_L_law6 4 rfl) rfl hi2 hv2 ?_
  refine QG.aload_ns hX (qd K_L_law6 5 rfl) rfl rfl ?_
  refine QG.iload_n hX (qd K_L_law6 6 rfl) rfl rfl ?_
  refine QG.iconst hX (qd K_L_law6 7 rfl) rfl ki_3 ?_
  refine QG.iadd hX (qd K_L_law6 8 rfl) rfl ?_
  refine QG.scld hX hs0 hsl hsA hsb (qd K_L_law6 9 rfl) rfl hi3 hv3 ?_
  refine QG.callVk (rest := []) [0, 1, 51, 52, 53, 54, 55] hz1 hX cw_L_40 (M_X7_rule_ok X.l (fun j => Option.map (qinv [0, 1, 51, 52, 53, 54, 55]) (rfB j)) (A 52) (A 53) (A 54) (A 55) (V 51 4) (B 51) v1 v2 v3 hr0 hr1 (by show Option.map _ (rfB v1.toNatClampNeg) = _; rw [hj]; rfl)) trivial (by decide) (by decide) (qd K_L_law6 10 rfl) rfl hcs rfl rfl rfl rfl (Nat.le_of_ble_eq_true rfl) (Eq.trans (congrArg (fun f => List.map (fun i => (wLx f kfB (va_rf z) (va_rf tx) A V B L M)[i]?) [0, 1, 51, 52, 53, 54, 55]) (qinv_eq [0, 1, 51, 52, 53, 54, 55] rfB).symm) rfl) rfl (Nat.le_of_ble_eq_true rfl) rfl ?_
  refine QG.eqW (Wd' := (wLx (fun j => Option.map (qf [0, 1, 51, 52, 53, 54, 55]) (Option.map (qinv [0, 1, 51, 52, 53, 54, 55]) (rfB j))) kfB (va_rf z) (va_rf tx) (va_up A 55 c1.2.1) V (va_up B 51 c1.2.2) L M)) rfl ?_
  rw [qinv_eq [0, 1, 51, 52, 53, 54, 55] rfB]
  show QG X 4 _ _ 423 _ [.int (qb c1.1)] _ ad _ _
  refine QG.aload_n hX (qd K_L_law6 11 rfl) rfl rfl ?_
  refine QG.aload_ns hX (qd K_L_law6 12 rfl) rfl rfl ?_
  refine QG.iload_n hX (qd K_L_law6 13 rfl) rfl rfl ?_
  refine QG.iconst hX (qd K_L_law6 14 rfl) rfl ki_1 ?_
  refine QG.iadd hX (qd K_L_law6 15 rfl) rfl ?_
  refine QG.scld hX hs0 hsl hsA hsb (qd K_L_law6 16 rfl) rfl hi1 hv1 ?_
  refine QG.aload_ns hX (qd K_L_law6 17 rfl) rfl rfl ?_
  refine QG.iload_n hX (qd K_L_law6 18 rfl) rfl rfl ?_
  refine QG.iconst hX (qd K_L_law6 19 rfl) rfl ki_2 ?_
  refine QG.iadd hX (qd K_L_law6 20 rfl) rfl ?_
  refine QG.scld hX hs0 hsl hsA hsb (qd K_L_law6 21 rfl) rfl hi2 hv2 ?_
  refine QG.aload_ns hX (qd K_L_law6 22 rfl) rfl rfl ?_
  refine QG.iload_n hX (qd K_L_law6 23 rfl) rfl rfl ?_
  refine QG.iconst hX (qd K_L_law6 24 rfl) rfl ki_3 ?_
  refine QG.iadd hX (qd K_L_law6 25 rfl) rfl ?_
  refine QG.scld hX hs0 hsl hsA hsb (qd K_L_law6 26 rfl) rfl hi3 hv3 ?_
  refine QG.callVk (rest := [.int (qb c1.1)]) [104, 105, 106, 107, 108, 109, 110, 111, 112, 113, 114, 115, 116, 117, 118, 119, 120, 121, 122, 123, 124, 125, 126, 127, 128, 129, 130, 131, 132, 133, 134, 135, 136, 137] hz2 hX cw_L_44 (M_X8_rule X.l (V 104 0) (A 105) (A 106) (A 107) (A 108) (A 109) (A 110) (A 111) (A 112) (V 104 9) (V 104 10) (A 113) (A 114) (A 115) (A 116) M (A 118) (A 119) (A 120) (A 121) (A 122) (A 123) (A 124) (A 125) (A 126) (A 127) (A 128) (V 104 27) (V 104 28) (A 129) (V 104 30) (V 104 31) (V 104 32) (V 104 33) (V 104 34) (V 104 35) (V 104 36) (A 130) (A 131) (A 132) (A 133) (A 134) (A 135) (V 104 43) (V 104 44) (V 104 45) (V 104 46) (A 136) (A 137) v1 v2 v3) trivial (by decide) (by decide) (qd K_L_law6 27 rfl) rfl hcs rfl rfl rfl rfl (Nat.le_of_ble_eq_true rfl) rfl rfl (Nat.le_of_ble_eq_true rfl) rfl ?_
  refine QG.eqW (Wd' := (wLx rfB kfB (va_rf z) (va_rf tx) (va_up (va_up (va_up (va_up (va_up A 55 c1.2.1) 109 c2.2.2.1) 110 c2.2.2.2.1) 111 c2.2.2.2.2.1) 112 c2.2.2.2.2.2) (va_up2 V 104 0 c2.2.1) (va_up B 51 c1.2.2) L M)) rfl ?_
  show QG X 4 _ _ 442 _ [.int (qb c2.1), .int (qb c1.1)] _ ad _ _
  exact QG.ifT (by rw [he]) (QG.icmp_eq (tgt := 1048) (oF := none) hX (qd K_L_law6 28 rfl) rfl (by decide) K QG.nothing)

set_option maxRecDepth 100000 in
set_option maxHeartbeats 4000000 in
theorem C_rule_2 {X : QX} (hX : qok X code RL 4 (some .boolean) 1000) {Q : Unit → State → Prop} {b LL : Nat} {xs : Nat → Int32} (hs0 : va_X b LL xs X.s X.s.heap) (hsl : b < X.s.heap.size) (hsA : ¬ X.A b) (hsb : X.sA 100 = b) {ad : Nat → Nat} {cells slots : Nat} (hcs : cells ≤ X.R.cells ∧ slots ≤ X.R.slots) {A V : Nat → Nat → Int32} {B : Nat → Bool} {L M : Nat → Int64} {z tx : Option Nat} {x3 : Int32} {v1 : Int32} {v2 : Int32} {v3 : Int32} (hi1 : vp_in (x3 + 1) LL) (hv1 : xs (x3 + 1).toNatClampNeg = v1) (hi2 : vp_in (x3 + 2) LL) (hv2 : xs (x3 + 2).toNatClampNeg = v2) (hi3 : vp_in (x3 + 3) LL) (hv3 : xs (x3 + 3).toNatClampNeg = v3) (hr0 : ¬ v1 < 0) (hr1 : ¬ 6 ≤ v1) (hj : v1.toNatClampNeg = 2) {c1 : Bool × (Nat → Int32) × Bool} {c2 : Bool × Int32 × (Nat → Int32) × (Nat → Int32) × (Nat → Int32) × (Nat → Int32)} (hz1 : F_X7_rule_ok (A 60) (B 56) v1 v2 v3 = some c1) (hz2 : F_X8_rule (V 104 0) (A 109) (A 110) (A 111) (A 112) v1 v2 v3 = some c2) (he : c1.1 = c2.1)
    (K : QG X 4 Q (some ()) 1048 [(0, .float (UInt32.ofNat 100)), (1, .ref 0), (2, .ref 104), (3, .int x3)] [] (wLx rfB kfB (va_rf z) (va_rf tx) (va_up (va_up (va_up (va_up (va_up A 60 c1.2.1) 109 c2.2.2.1) 110 c2.2.2.2.1) 111 c2.2.2.2.2.1) 112 c2.2.2.2.2.2) (va_up2 V 104 0 c2.2.1) (va_up B 56 c1.2.2) L M) ad cells slots) : QG X 4 Q (some ()) 404 [(0, .float (UInt32.ofNat 100)), (1, .ref 0), (2, .ref 104), (3, .int x3)] [] (wLx rfB kfB (va_rf z) (va_rf tx) A V B L M) ad cells slots := by
  refine QG.aload_n hX (qd K_L_law5 34 rfl) rfl rfl ?_
  refine QG.aload_ns hX (qd K_L_law5 35 rfl) rfl rfl ?_
  refine QG.iload_n hX (qd K_L_law5 36 rfl) rfl rfl ?_
  refine QG.iconst hX (qd K_L_law5 37 rfl) rfl ki_1 ?_
  refine QG.iadd hX (qd K_L_law5 38 rfl) rfl ?_
  refine QG.scld hX hs0 hsl hsA hsb (qd K_L_law5 39 rfl) rfl hi1 hv1 ?_
  refine QG.aload_ns hX (qd K_L_law6 0 rfl) rfl rfl ?_
  refine QG.iload_n hX (qd K_L_law6 1 rfl) rfl rfl ?_
  refine QG.iconst hX (qd K_L_law6 2 rfl) rfl ki_2 ?_
  refine QG.iadd hX (qd K_L_law6 3 rfl) rfl ?_
  refine QG.scld hX hs0 hsl hsA hsb (qd K_L_law6 4 rfl) rfl hi2 hv2 ?_
  refine QG.aload_ns hX (qd K_L_law6 5 rfl) rfl rfl ?_
  refine QG.iload_n hX (qd K_L_law6 6 rfl) rfl rfl ?_
  refine QG.iconst hX (qd K_L_law6 7 rfl) rfl ki_3 ?_
  refine QG.iadd hX (qd K_L_law6 8 rfl) rfl ?_
  refine QG.scld hX hs0 hsl hsA hsb (qd K_L_law6 9 rfl) rfl hi3 hv3 ?_
  refine QG.callVk (rest := []) [0, 1, 56, 57, 58, 59, 60] hz1 hX cw_L_40 (M_X7_rule_ok X.l (fun j => Option.map (qinv [0, 1, 56, 57, 58, 59, 60]) (rfB j)) (A 57) (A 58) (A 59) (A 60) (V 56 4) (B 56) v1 v2 v3 hr0 hr1 (by show Option.map _ (rfB v1.toNatClampNeg) = _; rw [hj]; rfl)) trivial (by decide) (by decide) (qd K_L_law6 10 rfl) rfl hcs rfl rfl rfl rfl (Nat.le_of_ble_eq_true rfl) (Eq.trans (congrArg (fun f => List.map (fun i => (wLx f kfB (va_rf z) (va_rf tx) A V B L M)[i]?) [0, 1, 56, 57, 58, 59, 60]) (qinv_eq [0, 1, 56, 57, 58, 59, 60] rfB).symm) rfl) rfl (Nat.le_of_ble_eq_true rfl) rfl ?_
  refine QG.eqW (Wd' := (wLx (fun j => Option.map (qf [0, 1, 56, 57, 58, 59, 60]) (Option.map (qinv [0, 1, 56, 57, 58, 59, 60]) (rfB j))) kfB (va_rf z) (va_rf tx) (va_up A 60 c1.2.1) V (va_up B 56 c1.2.2) L M)) rfl ?_
  rw [qinv_eq [0, 1, 56, 57, 58, 59, 60] rfB]
  show QG X 4 _ _ 423 _ [.int (qb c1.1)] _ ad _ _
  refine QG.aload_n hX (qd K_L_law6 11 rfl) rfl rfl ?_
  refine QG.aload_ns hX (qd K_L_law6 12 rfl) rfl rfl ?_
  refine QG.iload_n hX (qd K_L_law6 13 rfl) rfl rfl ?_
  refine QG.iconst hX (qd K_L_law6 14 rfl) rfl ki_1 ?_
  refine QG.iadd hX (qd K_L_law6 15 rfl) rfl ?_
  refine QG.scld hX hs0 hsl hsA hsb (qd K_L_law6 16 rfl) rfl hi1 hv1 ?_
  refine QG.aload_ns hX (qd K_L_law6 17 rfl) rfl rfl ?_
  refine QG.iload_n hX (qd K_L_law6 18 rfl) rfl rfl ?_
  refine QG.iconst hX (qd K_L_law6 19 rfl) rfl ki_2 ?_
  refine QG.iadd hX (qd K_L_law6 20 rfl) rfl ?_
  refine QG.scld hX hs0 hsl hsA hsb (qd K_L_law6 21 rfl) rfl hi2 hv2 ?_
  refine QG.aload_ns hX (qd K_L_law6 22 rfl) rfl rfl ?_
  refine QG.iload_n hX (qd K_L_law6 23 rfl) rfl rfl ?_
  refine QG.iconst hX (qd K_L_law6 24 rfl) rfl ki_3 ?_
  refine QG.iadd hX (qd K_L_law6 25 rfl) rfl ?_
  refine QG.scld hX hs0 hsl hsA hsb (qd K_L_law6 26 rfl) rfl hi3 hv3 ?_
  refine QG.callVk (rest := [.int (qb c1.1)]) [104, 105, 106, 107, 108, 109, 110, 111, 112, 113, 114, 115, 116, 117, 118, 119, 120, 121, 122, 123, 124, 125, 126, 127, 128, 129, 130, 131, 132, 133, 134, 135, 136, 137] hz2 hX cw_L_44 (M_X8_rule X.l (V 104 0) (A 105) (A 106) (A 107) (A 108) (A 109) (A 110) (A 111) (A 112) (V 104 9) (V 104 10) (A 113) (A 114) (A 115) (A 116) M (A 118) (A 119) (A 120) (A 121) (A 122) (A 123) (A 124) (A 125) (A 126) (A 127) (A 128) (V 104 27) (V 104 28) (A 129) (V 104 30) (V 104 31) (V 104 32) (V 104 33) (V 104 34) (V 104 35) (V 104 36) (A 130) (A 131) (A 132) (A 133) (A 134) (A 135) (V 104 43) (V 104 44) (V 104 45) (V 104 46) (A 136) (A 137) v1 v2 v3) trivial (by decide) (by decide) (qd K_L_law6 27 rfl) rfl hcs rfl rfl rfl rfl (Nat.le_of_ble_eq_true rfl) rfl rfl (Nat.le_of_ble_eq_true rfl) rfl ?_
  refine QG.eqW (Wd' := (wLx rfB kfB (va_rf z) (va_rf tx) (va_up (va_up (va_up (va_up (va_up A 60 c1.2.1) 109 c2.2.2.1) 110 c2.2.2.2.1) 111 c2.2.2.2.2.1) 112 c2.2.2.2.2.2) (va_up2 V 104 0 c2.2.1) (va_up B 56 c1.2.2) L M)) rfl ?_
  show QG X 4 _ _ 442 _ [.int (qb c2.1), .int (qb c1.1)] _ ad _ _
  exact QG.ifT (by rw [he]) (QG.icmp_eq (tgt := 1048) (oF := none) hX (qd K_L_law6 28 rfl) rfl (by decide) K QG.nothing)

set_option maxRecDepth 100000 in
set_option maxHeartbeats 4000000 in
theorem C_rule_4 {X : QX} (hX : qok X code RL 4 (some .boolean) 1000) {Q : Unit → State → Prop} {b LL : Nat} {xs : Nat → Int32} (hs0 : va_X b LL xs X.s X.s.heap) (hsl : b < X.s.heap.size) (hsA : ¬ X.A b) (hsb : X.sA 100 = b) {ad : Nat → Nat} {cells slots : Nat} (hcs : cells ≤ X.R.cells ∧ slots ≤ X.R.slots) {A V : Nat → Nat → Int32} {B : Nat → Bool} {L M : Nat → Int64} {z tx : Option Nat} {x3 : Int32} {v1 : Int32} {v2 : Int32} {v3 : Int32} (hi1 : vp_in (x3 + 1) LL) (hv1 : xs (x3 + 1).toNatClampNeg = v1) (hi2 : vp_in (x3 + 2) LL) (hv2 : xs (x3 + 2).toNatClampNeg = v2) (hi3 : vp_in (x3 + 3) LL) (hv3 : xs (x3 + 3).toNatClampNeg = v3) (hr0 : ¬ v1 < 0) (hr1 : ¬ 6 ≤ v1) (hj : v1.toNatClampNeg = 4) {c1 : Bool × (Nat → Int32) × Bool} {c2 : Bool × Int32 × (Nat → Int32) × (Nat → Int32) × (Nat → Int32) × (Nat → Int32)} (hz1 : F_X7_rule_ok (A 70) (B 66) v1 v2 v3 = some c1) (hz2 : F_X8_rule (V 104 0) (A 109) (A 110) (A 111) (A 112) v1 v2 v3 = some c2) (he : c1.1 = c2.1)
    (K : QG X 4 Q (some ()) 1048 [(0, .float (UInt32.ofNat 100)), (1, .ref 0), (2, .ref 104), (3, .int x3)] [] (wLx rfB kfB (va_rf z) (va_rf tx) (va_up (va_up (va_up (va_up (va_up A 70 c1.2.1) 109 c2.2.2.1) 110 c2.2.2.2.1) 111 c2.2.2.2.2.1) 112 c2.2.2.2.2.2) (va_up2 V 104 0 c2.2.1) (va_up B 66 c1.2.2) L M) ad cells slots) : QG X 4 Q (some ()) 404 [(0, .float (UInt32.ofNat 100)), (1, .ref 0), (2, .ref 104), (3, .int x3)] [] (wLx rfB kfB (va_rf z) (va_rf tx) A V B L M) ad cells slots := by
  refine QG.aload_n hX (qd K_L_law5 34 rfl) rfl rfl ?_
  refine QG.aload_ns hX (qd K_L_law5 35 rfl) rfl rfl ?_
  refine QG.iload_n hX (qd K_L_law5 36 rfl) rfl rfl ?_
  refine QG.iconst hX (qd K_L_law5 37 rfl) rfl ki_1 ?_
  refine QG.iadd hX (qd K_L_law5 38 rfl) rfl ?_
  refine QG.scld hX hs0 hsl hsA hsb (qd K_L_law5 39 rfl) rfl hi1 hv1 ?_
  refine QG.aload_ns hX (qd K_L_law6 0 rfl) rfl rfl ?_
  refine QG.iload_n hX (qd K_L_law6 1 rfl) rfl rfl ?_
  refine QG.iconst hX (qd K_L_law6 2 rfl) rfl ki_2 ?_
  refine QG.iadd hX (qd K_L_law6 3 rfl) rfl ?_
  refine QG.scld hX hs0 hsl hsA hsb (qd K_L_law6 4 rfl) rfl hi2 hv2 ?_
  refine QG.aload_ns hX (qd K_L_law6 5 rfl) rfl rfl ?_
  refine QG.iload_n hX (qd K_L_law6 6 rfl) rfl rfl ?_
  refine QG.iconst hX (qd K_L_law6 7 rfl) rfl ki_3 ?_
  refine QG.iadd hX (qd K_L_law6 8 rfl) rfl ?_
  refine QG.scld hX hs0 hsl hsA hsb (qd K_L_law6 9 rfl) rfl hi3 hv3 ?_
  refine QG.callVk (rest := []) [0, 1, 66, 67, 68, 69, 70] hz1 hX cw_L_40 (M_X7_rule_ok X.l (fun j => Option.map (qinv [0, 1, 66, 67, 68, 69, 70]) (rfB j)) (A 67) (A 68) (A 69) (A 70) (V 66 4) (B 66) v1 v2 v3 hr0 hr1 (by show Option.map _ (rfB v1.toNatClampNeg) = _; rw [hj]; rfl)) trivial (by decide) (by decide) (qd K_L_law6 10 rfl) rfl hcs rfl rfl rfl rfl (Nat.le_of_ble_eq_true rfl) (Eq.trans (congrArg (fun f => List.map (fun i => (wLx f kfB (va_rf z) (va_rf tx) A V B L M)[i]?) [0, 1, 66, 67, 68, 69, 70]) (qinv_eq [0, 1, 66, 67, 68, 69, 70] rfB).symm) rfl) rfl (Nat.le_of_ble_eq_true rfl) rfl ?_
  refine QG.eqW (Wd' := (wLx (fun j => Option.map (qf [0, 1, 66, 67, 68, 69, 70]) (Option.map (qinv [0, 1, 66, 67, 68, 69, 70]) (rfB j))) kfB (va_rf z) (va_rf tx) (va_up A 70 c1.2.1) V (va_up B 66 c1.2.2) L M)) rfl ?_
  rw [qinv_eq [0, 1, 66, 67, 68, 69, 70] rfB]
  show QG X 4 _ _ 423 _ [.int (qb c1.1)] _ ad _ _
  refine QG.aload_n hX (qd K_L_law6 11 rfl) rfl rfl ?_
  refine QG.aload_ns hX (qd K_L_law6 12 rfl) rfl rfl ?_
  refine QG.iload_n hX (qd K_L_law6 13 rfl) rfl rfl ?_
  refine QG.iconst hX (qd K_L_law6 14 rfl) rfl ki_1 ?_
  refine QG.iadd hX (qd K_L_law6 15 rfl) rfl ?_
  refine QG.scld hX hs0 hsl hsA hsb (qd K_L_law6 16 rfl) rfl hi1 hv1 ?_
  refine QG.aload_ns hX (qd K_L_law6 17 rfl) rfl rfl ?_
  refine QG.iload_n hX (qd K_L_law6 18 rfl) rfl rfl ?_
  refine QG.iconst hX (qd K_L_law6 19 rfl) rfl ki_2 ?_
  refine QG.iadd hX (qd K_L_law6 20 rfl) rfl ?_
  refine QG.scld hX hs0 hsl hsA hsb (qd K_L_law6 21 rfl) rfl hi2 hv2 ?_
  refine QG.aload_ns hX (qd K_L_law6 22 rfl) rfl rfl ?_
  refine QG.iload_n hX (qd K_L_law6 23 rfl) rfl rfl ?_
  refine QG.iconst hX (qd K_L_law6 24 rfl) rfl ki_3 ?_
  refine QG.iadd hX (qd K_L_law6 25 rfl) rfl ?_
  refine QG.scld hX hs0 hsl hsA hsb (qd K_L_law6 26 rfl) rfl hi3 hv3 ?_
  refine QG.callVk (rest := [.int (qb c1.1)]) [104, 105, 106, 107, 108, 109, 110, 111, 112, 113, 114, 115, 116, 117, 118, 119, 120, 121, 122, 123, 124, 125, 126, 127, 128, 129, 130, 131, 132, 133, 134, 135, 136, 137] hz2 hX cw_L_44 (M_X8_rule X.l (V 104 0) (A 105) (A 106) (A 107) (A 108) (A 109) (A 110) (A 111) (A 112) (V 104 9) (V 104 10) (A 113) (A 114) (A 115) (A 116) M (A 118) (A 119) (A 120) (A 121) (A 122) (A 123) (A 124) (A 125) (A 126) (A 127) (A 128) (V 104 27) (V 104 28) (A 129) (V 104 30) (V 104 31) (V 104 32) (V 104 33) (V 104 34) (V 104 35) (V 104 36) (A 130) (A 131) (A 132) (A 133) (A 134) (A 135) (V 104 43) (V 104 44) (V 104 45) (V 104 46) (A 136) (A 137) v1 v2 v3) trivial (by decide) (by decide) (qd K_L_law6 27 rfl) rfl hcs rfl rfl rfl rfl (Nat.le_of_ble_eq_true rfl) rfl rfl (Nat.le_of_ble_eq_true rfl) rfl ?_
  refine QG.eqW (Wd' := (wLx rfB kfB (va_rf z) (va_rf tx) (va_up (va_up (va_up (va_up (va_up A 70 c1.2.1) 109 c2.2.2.1) 110 c2.2.2.2.1) 111 c2.2.2.2.2.1) 112 c2.2.2.2.2.2) (va_up2 V 104 0 c2.2.1) (va_up B 66 c1.2.2) L M)) rfl ?_
  show QG X 4 _ _ 442 _ [.int (qb c2.1), .int (qb c1.1)] _ ad _ _
  exact QG.ifT (by rw [he]) (QG.icmp_eq (tgt := 1048) (oF := none) hX (qd K_L_law6 28 rfl) rfl (by decide) K QG.nothing)

set_option maxRecDepth 100000 in
set_option maxHeartbeats 4000000 in
theorem C_rule_5 {X : QX} (hX : qok X code RL 4 (some .boolean) 1000) {Q : Unit → State → Prop} {b LL : Nat} {xs : Nat → Int32} (hs0 : va_X b LL xs X.s X.s.heap) (hsl : b < X.s.heap.size) (hsA : ¬ X.A b) (hsb : X.sA 100 = b) {ad : Nat → Nat} {cells slots : Nat} (hcs : cells ≤ X.R.cells ∧ slots ≤ X.R.slots) {A V : Nat → Nat → Int32} {B : Nat → Bool} {L M : Nat → Int64} {z tx : Option Nat} {x3 : Int32} {v1 : Int32} {v2 : Int32} {v3 : Int32} (hi1 : vp_in (x3 + 1) LL) (hv1 : xs (x3 + 1).toNatClampNeg = v1) (hi2 : vp_in (x3 + 2) LL) (hv2 : xs (x3 + 2).toNatClampNeg = v2) (hi3 : vp_in (x3 + 3) LL) (hv3 : xs (x3 + 3).toNatClampNeg = v3) (hr0 : ¬ v1 < 0) (hr1 : ¬ 6 ≤ v1) (hj : v1.toNatClampNeg = 5) {c1 : Bool × (Nat → Int32) × Bool} {c2 : Bool × Int32 × (Nat → Int32) × (Nat → Int32) × (Nat → Int32) × (Nat → Int32)} (hz1 : F_X7_rule_ok (A 75) (B 71) v1 v2 v3 = some c1) (hz2 : F_X8_rule (V 104 0) (A 109) (A 110) (A 111) (A 112) v1 v2 v3 = some c2) (he : c1.1 = c2.1)
    (K : QG X 4 Q (some ()) 1048 [(0, .float (UInt32.ofNat 100)), (1, .ref 0), (2, .ref 104), (3, .int x3)] [] (wLx rfB kfB (va_rf z) (va_rf tx) (va_up (va_up (va_up (va_up (va_up A 75 c1.2.1) 109 c2.2.2.1) 110 c2.2.2.2.1) 111 c2.2.2.2.2.1) 112 c2.2.2.2.2.2) (va_up2 V 104 0 c2.2.1) (va_up B 71 c1.2.2) L M) ad cells slots) : QG X 4 Q (some ()) 404 [(0, .float (UInt32.ofNat 100)), (1, .ref 0), (2, .ref 104), (3, .int x3)] [] (wLx rfB kfB (va_rf z) (va_rf tx) A V B L M) ad cells slots := by
  refine QG.aload_n hX (qd K_L_law5 34 rfl) rfl rfl ?_
  refine QG.aload_ns hX (qd K_L_law5 35 rfl) rfl rfl ?_
  refine QG.iload_n hX (qd K_L_law5 36 rfl) rfl rfl ?_
  refine QG.iconst hX (qd K_L_law5 37 rfl) rfl ki_1 ?_
  refine QG.iadd hX (qd K_L_law5 38 rfl) rfl ?_
  refine QG.scld hX hs0 hsl hsA hsb (qd K_L_law5 39 rfl) rfl hi1 hv1 ?_
  refine QG.aload_ns hX (qd K_L_law6 0 rfl) rfl rfl ?_
  refine QG.iload_n hX (qd K_L_law6 1 rfl) rfl rfl ?_
  refine QG.iconst hX (qd K_L_law6 2 rfl) rfl ki_2 ?_
  refine QG.iadd hX (qd K_L_law6 3 rfl) rfl ?_
  refine QG.scld hX hs0 hsl hsA hsb (qd K_L_law6 4 rfl) rfl hi2 hv2 ?_
  refine QG.aload_ns hX (qd K_L_law6 5 rfl) rfl rfl ?_
  refine QG.iload_n hX (qd K_L_law6 6 rfl) rfl rfl ?_
  refine QG.iconst hX (qd K_L_law6 7 rfl) rfl ki_3 ?_
  refine QG.iadd hX (qd K_L_law6 8 rfl) rfl ?_
  refine QG.scld hX hs0 hsl hsA hsb (qd K_L_law6 9 rfl) rfl hi3 hv3 ?_
  refine QG.callVk (rest := []) [0, 1, 71, 72, 73, 74, 75] hz1 hX cw_L_40 (M_X7_rule_ok X.l (fun j => Option.map (qinv [0, 1, 71, 72, 73, 74, 75]) (rfB j)) (A 72) (A 73) (A 74) (A 75) (V 71 4) (B 71) v1 v2 v3 hr0 hr1 (by show Option.map _ (rfB v1.toNatClampNeg) = _; rw [hj]; rfl)) trivial (by decide) (by decide) (qd K_L_law6 10 rfl) rfl hcs rfl rfl rfl rfl (Nat.le_of_ble_eq_true rfl) (Eq.trans (congrArg (fun f => List.map (fun i => (wLx f kfB (va_rf z) (va_rf tx) A V B L M)[i]?) [0, 1, 71, 72, 73, 74, 75]) (qinv_eq [0, 1, 71, 72, 73, 74, 75] rfB).symm) rfl) rfl (Nat.le_of_ble_eq_true rfl) rfl ?_
  refine QG.eqW (Wd' := (wLx (fun j => Option.map (qf [0, 1, 71, 72, 73, 74, 75]) (Option.map (qinv [0, 1, 71, 72, 73, 74, 75]) (rfB j))) kfB (va_rf z) (va_rf tx) (va_up A 75 c1.2.1) V (va_up B 71 c1.2.2) L M)) rfl ?_
  rw [qinv_eq [0, 1, 71, 72, 73, 74, 75] rfB]
  show QG X 4 _ _ 423 _ [.int (qb c1.1)] _ ad _ _
  refine QG.aload_n hX (qd K_L_law6 11 rfl) rfl rfl ?_
  refine QG.aload_ns hX (qd K_L_law6 12 rfl) rfl rfl ?_
  refine QG.iload_n hX (qd K_L_law6 13 rfl) rfl rfl ?_
  refine QG.iconst hX (qd K_L_law6 14 rfl) rfl ki_1 ?_
  refine QG.iadd hX (qd K_L_law6 15 rfl) rfl ?_
  refine QG.scld hX hs0 hsl hsA hsb (qd K_L_law6 16 rfl) rfl hi1 hv1 ?_
  refine QG.aload_ns hX (qd K_L_law6 17 rfl) rfl rfl ?_
  refine QG.iload_n hX (qd K_L_law6 18 rfl) rfl rfl ?_
  refine QG.iconst hX (qd K_L_law6 19 rfl) rfl ki_2 ?_
  refine QG.iadd hX (qd K_L_law6 20 rfl) rfl ?_
  refine QG.scld hX hs0 hsl hsA hsb (qd K_L_law6 21 rfl) rfl hi2 hv2 ?_
  refine QG.aload_ns hX (qd K_L_law6 22 rfl) rfl rfl ?_
  refine QG.iload_n hX (qd K_L_law6 23 rfl) rfl rfl ?_
  refine QG.iconst hX (qd K_L_law6 24 rfl) rfl ki_3 ?_
  refine QG.iadd hX (qd K_L_law6 25 rfl) rfl ?_
  refine QG.scld hX hs0 hsl hsA hsb (qd K_L_law6 26 rfl) rfl hi3 hv3 ?_
  refine QG.callVk (rest := [.int (qb c1.1)]) [104, 105, 106, 107, 108, 109, 110, 111, 112, 113, 114, 115, 116, 117, 118, 119, 120, 121, 122, 123, 124, 125, 126, 127, 128, 129, 130, 131, 132, 133, 134, 135, 136, 137] hz2 hX cw_L_44 (M_X8_rule X.l (V 104 0) (A 105) (A 106) (A 107) (A 108) (A 109) (A 110) (A 111) (A 112) (V 104 9) (V 104 10) (A 113) (A 114) (A 115) (A 116) M (A 118) (A 119) (A 120) (A 121) (A 122) (A 123) (A 124) (A 125) (A 126) (A 127) (A 128) (V 104 27) (V 104 28) (A 129) (V 104 30) (V 104 31) (V 104 32) (V 104 33) (V 104 34) (V 104 35) (V 104 36) (A 130) (A 131) (A 132) (A 133) (A 134) (A 135) (V 104 43) (V 104 44) (V 104 45) (V 104 46) (A 136) (A 137) v1 v2 v3) trivial (by decide) (by decide) (qd K_L_law6 27 rfl) rfl hcs rfl rfl rfl rfl (Nat.le_of_ble_eq_true rfl) rfl rfl (Nat.le_of_ble_eq_true rfl) rfl ?_
  refine QG.eqW (Wd' := (wLx rfB kfB (va_rf z) (va_rf tx) (va_up (va_up (va_up (va_up (va_up A 75 c1.2.1) 109 c2.2.2.1) 110 c2.2.2.2.1) 111 c2.2.2.2.2.1) 112 c2.2.2.2.2.2) (va_up2 V 104 0 c2.2.1) (va_up B 71 c1.2.2) L M)) rfl ?_
  show QG X 4 _ _ 442 _ [.int (qb c2.1), .int (qb c1.1)] _ ad _ _
  exact QG.ifT (by rw [he]) (QG.icmp_eq (tgt := 1048) (oF := none) hX (qd K_L_law6 28 rfl) rfl (by decide) K QG.nothing)

set_option maxRecDepth 100000 in
set_option maxHeartbeats 4000000 in
theorem C_ways_no {X : QX} (hX : qok X code RL 4 (some .boolean) 1000) {Q : Unit → State → Prop} {b LL : Nat} {xs : Nat → Int32} (hs0 : va_X b LL xs X.s X.s.heap) (hsl : b < X.s.heap.size) (hsA : ¬ X.A b) (hsb : X.sA 100 = b) {ad : Nat → Nat} {cells slots : Nat} (hcs : cells ≤ X.R.cells ∧ slots ≤ X.R.slots) {A V : Nat → Nat → Int32} {B : Nat → Bool} {L M : Nat → Int64} {z tx : Option Nat} {x3 : Int32} {v1 : Int32} (hi1 : vp_in (x3 + 1) LL) (hv1 : xs (x3 + 1).toNatClampNeg = v1) (hr : v1 < 0 ∨ 6 ≤ v1) {c1 : Int64} {c2 : Int64 × Int32 × Int32 × Int32 × (Nat → Int32) × (Nat → Int32) × (Nat → Int32) × (Nat → Int32) × (Nat → Int64) × (Nat → Int32)} (hz1 : F_X7_ways_no v1 = some c1) (hz2 : F_X8_ways (V 104 0) (A 105) (A 106) (A 108) (A 109) (A 110) (A 111) (A 112) (V 104 9) (V 104 10) (A 113) (A 114) (A 115) (A 116) M (A 118) v1 = some c2) (he : c1 = c2.1)
    (K : QG X 4 Q (some ()) 1048 [(0, .float (UInt32.ofNat 100)), (1, .ref 0), (2, .ref 104), (3, .int x3)] [] (wLx rfB kfB (va_rf z) (va_rf tx) (va_up (va_up (va_up (va_up (va_up A 113 c2.2.2.2.2.1) 114 c2.2.2.2.2.2.1) 115 c2.2.2.2.2.2.2.1) 116 c2.2.2.2.2.2.2.2.1) 118 c2.2.2.2.2.2.2.2.2.2) (va_up2 (va_up2 (va_up2 V 104 0 c2.2.1) 104 9 c2.2.2.1) 104 10 c2.2.2.2.1) B L c2.2.2.2.2.2.2.2.2.1) ad cells slots) : QG X 4 Q (some ()) 447 [(0, .float (UInt32.ofNat 100)), (1, .ref 0), (2, .ref 104), (3, .int x3)] [] (wLx rfB kfB (va_rf z) (va_rf tx) A V B L M) ad cells slots := by
  refine QG.aload_n hX (qd K_L_law6 31 rfl) rfl rfl ?_
  refine QG.aload_ns hX (qd K_L_law6 32 rfl) rfl rfl ?_
  refine QG.iload_n hX (qd K_L_law6 33 rfl) rfl rfl ?_
  refine QG.iconst hX (qd K_L_law6 34 rfl) rfl ki_1 ?_
  refine QG.iadd hX (qd K_L_law6 35 rfl) rfl ?_
  refine QG.scld hX hs0 hsl hsA hsb (qd K_L_law6 36 rfl) rfl hi1 hv1 ?_
  refine QG.callVk (rest := []) [0, 1] hz1 hX cw_L_45 (M_X7_ways_no X.l (fun j => Option.map (qinv [0, 1]) (rfB j)) v1 hr) trivial (by decide) (by decide) (qd K_L_law6 37 rfl) rfl hcs rfl rfl rfl rfl (Nat.le_of_ble_eq_true rfl) (Eq.trans (congrArg (fun f => List.map (fun i => (wLx f kfB (va_rf z) (va_rf tx) A V B L M)[i]?) [0, 1]) (qinv_eq [0, 1] rfB).symm) rfl) rfl (Nat.le_of_ble_eq_true rfl) rfl ?_
  refine QG.eqW (Wd' := (wLx (fun j => Option.map (qf [0, 1]) (Option.map (qinv [0, 1]) (rfB j))) kfB (va_rf z) (va_rf tx) A V B L M)) rfl ?_
  rw [qinv_eq [0, 1] rfB]
  show QG X 4 _ _ 456 _ [.long c1] _ ad _ _
  refine QG.aload_n hX (qd K_L_law6 38 rfl) rfl rfl ?_
  refine QG.aload_ns hX (qd K_L_law6 39 rfl) rfl rfl ?_
  refine QG.iload_n hX (qd K_L_law7 0 rfl) rfl rfl ?_
  refine QG.iconst hX (qd K_L_law7 1 rfl) rfl ki_1 ?_
  refine QG.iadd hX (qd K_L_law7 2 rfl) rfl ?_
  refine QG.scld hX hs0 hsl hsA hsb (qd K_L_law7 3 rfl) rfl hi1 hv1 ?_
  refine QG.callVk (rest := [.long c1]) [104, 105, 106, 107, 108, 109, 110, 111, 112, 113, 114, 115, 116, 117, 118, 119, 120, 121, 122, 123, 124, 125, 126, 127, 128, 129, 130, 131, 132, 133, 134, 135, 136, 137] hz2 hX cw_L_49 (M_X8_ways X.l (V 104 0) (A 105) (A 106) (A 107) (A 108) (A 109) (A 110) (A 111) (A 112) (V 104 9) (V 104 10) (A 113) (A 114) (A 115) (A 116) M (A 118) (A 119) (A 120) (A 121) (A 122) (A 123) (A 124) (A 125) (A 126) (A 127) (A 128) (V 104 27) (V 104 28) (A 129) (V 104 30) (V 104 31) (V 104 32) (V 104 33) (V 104 34) (V 104 35) (V 104 36) (A 130) (A 131) (A 132) (A 133) (A 134) (A 135) (V 104 43) (V 104 44) (V 104 45) (V 104 46) (A 136) (A 137) v1) trivial (by decide) (by decide) (qd K_L_law7 4 rfl) rfl hcs rfl rfl rfl rfl (Nat.le_of_ble_eq_true rfl) rfl rfl (Nat.le_of_ble_eq_true rfl) rfl ?_
  refine QG.eqW (Wd' := (wLx rfB kfB (va_rf z) (va_rf tx) (va_up (va_up (va_up (va_up (va_up A 113 c2.2.2.2.2.1) 114 c2.2.2.2.2.2.1) 115 c2.2.2.2.2.2.2.1) 116 c2.2.2.2.2.2.2.2.1) 118 c2.2.2.2.2.2.2.2.2.2) (va_up2 (va_up2 (va_up2 V 104 0 c2.2.1) 104 9 c2.2.2.1) 104 10 c2.2.2.2.1) B L c2.2.2.2.2.2.2.2.2.1)) rfl ?_
  show QG X 4 _ _ 465 _ [.long c2.1, .long c1] _ ad _ _
  refine QG.lcmp hX (qd K_L_law7 5 rfl) rfl ?_
  exact QG.ifT (by rw [he]; exact lg_cmp_self _) (QG.if_eq (tgt := 1048) (oF := none) hX (qd K_L_law7 6 rfl) rfl (by decide) K QG.nothing)

set_option maxRecDepth 100000 in
set_option maxHeartbeats 4000000 in
theorem C_ways_s0 {X : QX} (hX : qok X code RL 4 (some .boolean) 1000) {Q : Unit → State → Prop} {b LL : Nat} {xs : Nat → Int32} (hs0 : va_X b LL xs X.s X.s.heap) (hsl : b < X.s.heap.size) (hsA : ¬ X.A b) (hsb : X.sA 100 = b) {ad : Nat → Nat} {cells slots : Nat} (hcs : cells ≤ X.R.cells ∧ slots ≤ X.R.slots) {A V : Nat → Nat → Int32} {B : Nat → Bool} {L M : Nat → Int64} {z tx : Option Nat} {x3 : Int32} {v1 : Int32} (hi1 : vp_in (x3 + 1) LL) (hv1 : xs (x3 + 1).toNatClampNeg = v1) (hr0 : ¬ v1 < 0) (hr1 : ¬ 6 ≤ v1) (hj : v1.toNatClampNeg = 0) {c1 : Int64 × Bool × Int32 × (Nat → Int32) × (Nat → Int32) × (Nat → Int32) × (Nat → Int32) × (Nat → Int32) × (Nat → Int32) × (Nat → Int32) × (Nat → Int32) × Int32 × Int32 × Int32 × Int32 × Int32 × Int32 × Int32 × Int32 × (Nat → Int32) × (Nat → Int32) × (Nat → Int32) × Int32 × Int32 × Int32 × Int32 × Int32 × Int32 × (Nat → Int32) × (Nat → Int32) × (Nat → Int32) × (Nat → Int64) × (Nat → Int32)} {c2 : Int64 × Int32 × Int32 × Int32 × (Nat → Int32) × (Nat → Int32) × (Nat → Int32) × (Nat → Int32) × (Nat → Int64) × (Nat → Int32)} (hz1 : F_X7_ways_same (A 47) (A 49) (A 50) (V 46 4) (B 46) (V 4 0) (A 5) (A 6) (A 7) (A 8) (A 9) (A 10) (A 11) (A 12) (V 4 9) (V 4 10) (V 4 11) (V 4 12) (V 3 1) (V 3 2) (V 3 3) (V 3 4) (A 13) (A 14) (A 15) (V 3 8) (V 3 9) (V 3 10) (V 3 11) (V 3 12) (V 2 3) (A 16) (A 17) (A 18) L (A 20) v1 = some c1) (hz2 : F_X8_ways (V 104 0) (A 105) (A 106) (A 108) (A 109) (A 110) (A 111) (A 112) (V 104 9) (V 104 10) (A 113) (A 114) (A 115) (A 116) M (A 118) v1 = some c2) (he : c1.1 = c2.1)
    (K : QG X 4 Q (some ()) 1048 [(0, .float (UInt32.ofNat 100)), (1, .ref 0), (2, .ref 104), (3, .int x3)] [] (wLx rfB kfB (va_rf (some 46)) (va_rf tx) (va_up (va_up (va_up (va_up (va_up (va_up (va_up (va_up (va_up (va_up (va_up (va_up (va_up (va_up (va_up (va_up (va_up (va_up (va_up (va_up A 5 c1.2.2.2.1) 6 c1.2.2.2.2.1) 7 c1.2.2.2.2.2.1) 8 c1.2.2.2.2.2.2.1) 9 c1.2.2.2.2.2.2.2.1) 10 c1.2.2.2.2.2.2.2.2.1) 11 c1.2.2.2.2.2.2.2.2.2.1) 12 c1.2.2.2.2.2.2.2.2.2.2.1) 13 c1.2.2.2.2.2.2.2.2.2.2.2.2.2.2.2.2.2.2.2.1) 14 c1.2.2.2.2.2.2.2.2.2.2.2.2.2.2.2.2.2.2.2.2.1) 15 c1.2.2.2.2.2.2.2.2.2.2.2.2.2.2.2.2.2.2.2.2.2.1) 16 c1.2.2.2.2.2.2.2.2.2.2.2.2.2.2.2.2.2.2.2.2.2.2.2.2.2.2.2.2.1) 17 c1.2.2.2.2.2.2.2.2.2.2.2.2.2.2.2.2.2.2.2.2.2.2.2.2.2.2.2.2.2.1) 18 c1.2.2.2.2.2.2.2.2.2.2.2.2.2.2.2.2.2.2.2.2.2.2.2.2.2.2.2.2.2.2.1) 20 c1.2.2.2.2.2.2.2.2.2.2.2.2.2.2.2.2.2.2.2.2.2.2.2.2.2.2.2.2.2.2.2.2) 113 c2.2.2.2.2.1) 114 c2.2.2.2.2.2.1) 115 c2.2.2.2.2.2.2.1) 116 c2.2.2.2.2.2.2.2.1) 118 c2.2.2.2.2.2.2.2.2.2) (va_up2 (va_up2 (va_up2 (va_up2 (va_up2 (va_up2 (va_up2 (va_up2 (va_up2 (va_up2 (va_up2 (va_up2 (va_up2 (va_up2 (va_up2 (va_up2 (va_up2 (va_up2 V 4 0 c1.2.2.1) 4 9 c1.2.2.2.2.2.2.2.2.2.2.2.1) 4 10 c1.2.2.2.2.2.2.2.2.2.2.2.2.1) 4 11 c1.2.2.2.2.2.2.2.2.2.2.2.2.2.1) 4 12 c1.2.2.2.2.2.2.2.2.2.2.2.2.2.2.1) 3 1 c1.2.2.2.2.2.2.2.2.2.2.2.2.2.2.2.1) 3 2 c1.2.2.2.2.2.2.2.2.2.2.2.2.2.2.2.2.1) 3 3 c1.2.2.2.2.2.2.2.2.2.2.2.2.2.2.2.2.2.1) 3 4 c1.2.2.2.2.2.2.2.2.2.2.2.2.2.2.2.2.2.2.1) 3 8 c1.2.2.2.2.2.2.2.2.2.2.2.2.2.2.2.2.2.2.2.2.2.2.1) 3 9 c1.2.2.2.2.2.2.2.2.2.2.2.2.2.2.2.2.2.2.2.2.2.2.2.1) 3 10 c1.2.2.2.2.2.2.2.2.2.2.2.2.2.2.2.2.2.2.2.2.2.2.2.2.1) 3 11 c1.2.2.2.2.2.2.2.2.2.2.2.2.2.2.2.2.2.2.2.2.2.2.2.2.2.1) 3 12 c1.2.2.2.2.2.2.2.2.2.2.2.2.2.2.2.2.2.2.2.2.2.2.2.2.2.2.1) 2 3 c1.2.2.2.2.2.2.2.2.2.2.2.2.2.2.2.2.2.2.2.2.2.2.2.2.2.2.2.1) 104 0 c2.2.1) 104 9 c2.2.2.1) 104 10 c2.2.2.2.1) (va_up B 46 c1.2.1) c1.2.2.2.2.2.2.2.2.2.2.2.2.2.2.2.2.2.2.2.2.2.2.2.2.2.2.2.2.2.2.2.1 c2.2.2.2.2.2.2.2.2.1) ad cells slots) : QG X 4 Q (some ()) 447 [(0, .float (UInt32.ofNat 100)), (1, .ref 0), (2, .ref 104), (3, .int x3)] [] (wLx rfB kfB (va_rf (some 46)) (va_rf tx) A V B L M) ad cells slots := by
  refine QG.aload_n hX (qd K_L_law6 31 rfl) rfl rfl ?_
  refine QG.aload_ns hX (qd K_L_law6 32 rfl) rfl rfl ?_
  refine QG.iload_n hX (qd K_L_law6 33 rfl) rfl rfl ?_
  refine QG.iconst hX (qd K_L_law6 34 rfl) rfl ki_1 ?_
  refine QG.iadd hX (qd K_L_law6 35 rfl) rfl ?_
  refine QG.scld hX hs0 hsl hsA hsb (qd K_L_law6 36 rfl) rfl hi1 hv1 ?_
  refine QG.callVk (rest := []) [0, 1, 46, 47, 48, 49, 50, 2, 3, 4, 5, 6, 7, 8, 9, 10, 11, 12, 13, 14, 15, 16, 17, 18, 19, 20, 21, 22] hz1 hX cw_L_45 (M_X7_ways_same X.l (fun j => Option.map (qinv [0, 1, 46, 47, 48, 49, 50, 2, 3, 4, 5, 6, 7, 8, 9, 10, 11, 12, 13, 14, 15, 16, 17, 18, 19, 20, 21, 22]) (rfB j)) (A 47) (A 48) (A 49) (A 50) (V 46 4) (B 46) (V 4 0) (A 5) (A 6) (A 7) (A 8) (A 9) (A 10) (A 11) (A 12) (V 4 9) (V 4 10) (V 4 11) (V 4 12) (V 3 1) (V 3 2) (V 3 3) (V 3 4) (A 13) (A 14) (A 15) (V 3 8) (V 3 9) (V 3 10) (V 3 11) (V 3 12) (V 2 3) (A 16) (A 17) (A 18) L (A 20) (A 21) (A 22) (V 2 11) v1 hr0 hr1 (by show Option.map _ (rfB v1.toNatClampNeg) = _; rw [hj]; rfl)) trivial (by decide) (by decide) (qd K_L_law6 37 rfl) rfl hcs rfl rfl rfl rfl (Nat.le_of_ble_eq_true rfl) (Eq.trans (congrArg (fun f => List.map (fun i => (wLx f kfB (va_rf (some 46)) (va_rf tx) A V B L M)[i]?) [0, 1, 46, 47, 48, 49, 50, 2, 3, 4, 5, 6, 7, 8, 9, 10, 11, 12, 13, 14, 15, 16, 17, 18, 19, 20, 21, 22]) (qinv_eq [0, 1, 46, 47, 48, 49, 50, 2, 3, 4, 5, 6, 7, 8, 9, 10, 11, 12, 13, 14, 15, 16, 17, 18, 19, 20, 21, 22] rfB).symm) rfl) rfl (Nat.le_of_ble_eq_true rfl) rfl ?_
  refine QG.eqW (Wd' := (wLx (fun j => Option.map (qf [0, 1, 46, 47, 48, 49, 50, 2, 3, 4, 5, 6, 7, 8, 9, 10, 11, 12, 13, 14, 15, 16, 17, 18, 19, 20, 21, 22]) (Option.map (qinv [0, 1, 46, 47, 48, 49, 50, 2, 3, 4, 5, 6, 7, 8, 9, 10, 11, 12, 13, 14, 15, 16, 17, 18, 19, 20, 21, 22]) (rfB j))) kfB (va_rf (some 46)) (va_rf tx) (va_up (va_up (va_up (va_up (va_up (va_up (va_up (va_up (va_up (va_up (va_up (va_up (va_up (va_up (va_up A 5 c1.2.2.2.1) 6 c1.2.2.2.2.1) 7 c1.2.2.2.2.2.1) 8 c1.2.2.2.2.2.2.1) 9 c1.2.2.2.2.2.2.2.1) 10 c1.2.2.2.2.2.2.2.2.1) 11 c1.2.2.2.2.2.2.2.2.2.1) 12 c1.2.2.2.2.2.2.2.2.2.2.1) 13 c1.2.2.2.2.2.2.2.2.2.2.2.2.2.2.2.2.2.2.2.1) 14 c1.2.2.2.2.2.2.2.2.2.2.2.2.2.2.2.2.2.2.2.2.1) 15 c1.2.2.2.2.2.2.2.2.2.2.2.2.2.2.2.2.2.2.2.2.2.1) 16 c1.2.2.2.2.2.2.2.2.2.2.2.2.2.2.2.2.2.2.2.2.2.2.2.2.2.2.2.2.1) 17 c1.2.2.2.2.2.2.2.2.2.2.2.2.2.2.2.2.2.2.2.2.2.2.2.2.2.2.2.2.2.1) 18 c1.2.2.2.2.2.2.2.2.2.2.2.2.2.2.2.2.2.2.2.2.2.2.2.2.2.2.2.2.2.2.1) 20 c1.2.2.2.2.2.2.2.2.2.2.2.2.2.2.2.2.2.2.2.2.2.2.2.2.2.2.2.2.2.2.2.2) (va_up2 (va_up2 (va_up2 (va_up2 (va_up2 (va_up2 (va_up2 (va_up2 (va_up2 (va_up2 (va_up2 (va_up2 (va_up2 (va_up2 (va_up2 V 4 0 c1.2.2.1) 4 9 c1.2.2.2.2.2.2.2.2.2.2.2.1) 4 10 c1.2.2.2.2.2.2.2.2.2.2.2.2.1) 4 11 c1.2.2.2.2.2.2.2.2.2.2.2.2.2.1) 4 12 c1.2.2.2.2.2.2.2.2.2.2.2.2.2.2.1) 3 1 c1.2.2.2.2.2.2.2.2.2.2.2.2.2.2.2.1) 3 2 c1.2.2.2.2.2.2.2.2.2.2.2.2.2.2.2.2.1) 3 3 c1.2.2.2.2.2.2.2.2.2.2.2.2.2.2.2.2.2.1) 3 4 c1.2.2.2.2.2.2.2.2.2.2.2.2.2.2.2.2.2.2.1) 3 8 c1.2.2.2.2.2.2.2.2.2.2.2.2.2.2.2.2.2.2.2.2.2.2.1) 3 9 c1.2.2.2.2.2.2.2.2.2.2.2.2.2.2.2.2.2.2.2.2.2.2.2.1) 3 10 c1.2.2.2.2.2.2.2.2.2.2.2.2.2.2.2.2.2.2.2.2.2.2.2.2.1) 3 11 c1.2.2.2.2.2.2.2.2.2.2.2.2.2.2.2.2.2.2.2.2.2.2.2.2.2.1) 3 12 c1.2.2.2.2.2.2.2.2.2.2.2.2.2.2.2.2.2.2.2.2.2.2.2.2.2.2.1) 2 3 c1.2.2.2.2.2.2.2.2.2.2.2.2.2.2.2.2.2.2.2.2.2.2.2.2.2.2.2.1) (va_up B 46 c1.2.1) c1.2.2.2.2.2.2.2.2.2.2.2.2.2.2.2.2.2.2.2.2.2.2.2.2.2.2.2.2.2.2.2.1 M)) rfl ?_
  rw [qinv_eq [0, 1, 46, 47, 48, 49, 50, 2, 3, 4, 5, 6, 7, 8, 9, 10, 11, 12, 13, 14, 15, 16, 17, 18, 19, 20, 21, 22] rfB]
  show QG X 4 _ _ 456 _ [.long c1.1] _ ad _ _
  refine QG.aload_n hX (qd K_L_law6 38 rfl) rfl rfl ?_
  refine QG.aload_ns hX (qd K_L_law6 39 rfl) rfl rfl ?_
  refine QG.iload_n hX (qd K_L_law7 0 rfl) rfl rfl ?_
  refine QG.iconst hX (qd K_L_law7 1 rfl) rfl ki_1 ?_
  refine QG.iadd hX (qd K_L_law7 2 rfl) rfl ?_
  refine QG.scld hX hs0 hsl hsA hsb (qd K_L_law7 3 rfl) rfl hi1 hv1 ?_
  refine QG.callVk (rest := [.long c1.1]) [104, 105, 106, 107, 108, 109, 110, 111, 112, 113, 114, 115, 116, 117, 118, 119, 120, 121, 122, 123, 124, 125, 126, 127, 128, 129, 130, 131, 132, 133, 134, 135, 136, 137] hz2 hX cw_L_49 (M_X8_ways X.l (V 104 0) (A 105) (A 106) (A 107) (A 108) (A 109) (A 110) (A 111) (A 112) (V 104 9) (V 104 10) (A 113) (A 114) (A 115) (A 116) M (A 118) (A 119) (A 120) (A 121) (A 122) (A 123) (A 124) (A 125) (A 126) (A 127) (A 128) (V 104 27) (V 104 28) (A 129) (V 104 30) (V 104 31) (V 104 32) (V 104 33) (V 104 34) (V 104 35) (V 104 36) (A 130) (A 131) (A 132) (A 133) (A 134) (A 135) (V 104 43) (V 104 44) (V 104 45) (V 104 46) (A 136) (A 137) v1) trivial (by decide) (by decide) (qd K_L_law7 4 rfl) rfl hcs rfl rfl rfl rfl (Nat.le_of_ble_eq_true rfl) rfl rfl (Nat.le_of_ble_eq_true rfl) rfl ?_
  refine QG.eqW (Wd' := (wLx rfB kfB (va_rf (some 46)) (va_rf tx) (va_up (va_up (va_up (va_up (va_up (va_up (va_up (va_up (va_up (va_up (va_up (va_up (va_up (va_up (va_up (va_up (va_up (va_up (va_up (va_up A 5 c1.2.2.2.1) 6 c1.2.2.2.2.1) 7 c1.2.2.2.2.2.1) 8 c1.2.2.2.2.2.2.1) 9 c1.2.2.2.2.2.2.2.1) 10 c1.2.2.2.2.2.2.2.2.1) 11 c1.2.2.2.2.2.2.2.2.2.1) 12 c1.2.2.2.2.2.2.2.2.2.2.1) 13 c1.2.2.2.2.2.2.2.2.2.2.2.2.2.2.2.2.2.2.2.1) 14 c1.2.2.2.2.2.2.2.2.2.2.2.2.2.2.2.2.2.2.2.2.1) 15 c1.2.2.2.2.2.2.2.2.2.2.2.2.2.2.2.2.2.2.2.2.2.1) 16 c1.2.2.2.2.2.2.2.2.2.2.2.2.2.2.2.2.2.2.2.2.2.2.2.2.2.2.2.2.1) 17 c1.2.2.2.2.2.2.2.2.2.2.2.2.2.2.2.2.2.2.2.2.2.2.2.2.2.2.2.2.2.1) 18 c1.2.2.2.2.2.2.2.2.2.2.2.2.2.2.2.2.2.2.2.2.2.2.2.2.2.2.2.2.2.2.1) 20 c1.2.2.2.2.2.2.2.2.2.2.2.2.2.2.2.2.2.2.2.2.2.2.2.2.2.2.2.2.2.2.2.2) 113 c2.2.2.2.2.1) 114 c2.2.2.2.2.2.1) 115 c2.2.2.2.2.2.2.1) 116 c2.2.2.2.2.2.2.2.1) 118 c2.2.2.2.2.2.2.2.2.2) (va_up2 (va_up2 (va_up2 (va_up2 (va_up2 (va_up2 (va_up2 (va_up2 (va_up2 (va_up2 (va_up2 (va_up2 (va_up2 (va_up2 (va_up2 (va_up2 (va_up2 (va_up2 V 4 0 c1.2.2.1) 4 9 c1.2.2.2.2.2.2.2.2.2.2.2.1) 4 10 c1.2.2.2.2.2.2.2.2.2.2.2.2.1) 4 11 c1.2.2.2.2.2.2.2.2.2.2.2.2.2.1) 4 12 c1.2.2.2.2.2.2.2.2.2.2.2.2.2.2.1) 3 1 c1.2.2.2.2.2.2.2.2.2.2.2.2.2.2.2.1) 3 2 c1.2.2.2.2.2.2.2.2.2.2.2.2.2.2.2.2.1) 3 3 c1.2.2.2.2.2.2.2.2.2.2.2.2.2.2.2.2.2.1) 3 4 c1.2.2.2.2.2.2.2.2.2.2.2.2.2.2.2.2.2.2.1) 3 8 c1.2.2.2.2.2.2.2.2.2.2.2.2.2.2.2.2.2.2.2.2.2.2.1) 3 9 c1.2.2.2.2.2.2.2.2.2.2.2.2.2.2.2.2.2.2.2.2.2.2.2.1) 3 10 c1.2.2.2.2.2.2.2.2.2.2.2.2.2.2.2.2.2.2.2.2.2.2.2.2.1) 3 11 c1.2.2.2.2.2.2.2.2.2.2.2.2.2.2.2.2.2.2.2.2.2.2.2.2.2.1) 3 12 c1.2.2.2.2.2.2.2.2.2.2.2.2.2.2.2.2.2.2.2.2.2.2.2.2.2.2.1) 2 3 c1.2.2.2.2.2.2.2.2.2.2.2.2.2.2.2.2.2.2.2.2.2.2.2.2.2.2.2.1) 104 0 c2.2.1) 104 9 c2.2.2.1) 104 10 c2.2.2.2.1) (va_up B 46 c1.2.1) c1.2.2.2.2.2.2.2.2.2.2.2.2.2.2.2.2.2.2.2.2.2.2.2.2.2.2.2.2.2.2.2.1 c2.2.2.2.2.2.2.2.2.1)) rfl ?_
  show QG X 4 _ _ 465 _ [.long c2.1, .long c1.1] _ ad _ _
  refine QG.lcmp hX (qd K_L_law7 5 rfl) rfl ?_
  exact QG.ifT (by rw [he]; exact lg_cmp_self _) (QG.if_eq (tgt := 1048) (oF := none) hX (qd K_L_law7 6 rfl) rfl (by decide) K QG.nothing)


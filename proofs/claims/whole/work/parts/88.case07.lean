set_option maxRecDepth 100000 in
set_option maxHeartbeats 4000000 in
theorem C_differs_ok1_ok0 {X : QX} (hX : qok X code RL 4 (some .boolean) 1000) {Q : Unit → State → Prop} {b LL : Nat} {xs : Nat → Int32} (hs0 : va_X b LL xs X.s X.s.heap) (hsl : b < X.s.heap.size) (hsA : ¬ X.A b) (hsb : X.sA 100 = b) {ad : Nat → Nat} {cells slots : Nat} (hcs : cells ≤ X.R.cells ∧ slots ≤ X.R.slots) {A V : Nat → Nat → Int32} {B : Nat → Bool} {L M : Nat → Int64} {z tx : Option Nat} {x3 : Int32} {v1 : Int32} {v2 : Int32} {v3 : Int32} {v4 : Int32} (hi1 : vp_in (x3 + 1) LL) (hv1 : xs (x3 + 1).toNatClampNeg = v1) (hi2 : vp_in (x3 + 2) LL) (hv2 : xs (x3 + 2).toNatClampNeg = v2) (hi3 : vp_in (x3 + 3) LL) (hv3 : xs (x3 + 3).toNatClampNeg = v3) (hi4 : vp_in (x3 + 4) LL) (hv4 : xs (x3 + 4).toNatClampNeg = v4) (h0a : ¬ v1 < 0) (h0b : ¬ 4 ≤ v1) (hj0 : v1.toNatClampNeg = 1) (hm0 : B 83 = true) (h1a : ¬ v2 < 0) (h1b : ¬ 4 ≤ v2) (hj1 : v2.toNatClampNeg = 0) (hm1 : B 76 = true) {c1 : Int32} {c2 : Int32 × Int32 × Int32 × Int32} (hz1 : F_X7_differs_ok_ok (V 83 1) (V 83 2) (A 84) (A 85) (A 86) (V 76 1) (V 76 2) (A 77) (A 78) (A 79) v1 v2 v3 v4 = some c1) (hz2 : F_X8_differs (V 104 0) (A 119) (A 120) (A 121) (A 124) (A 125) (A 126) (V 104 44) (V 104 45) v1 v2 v3 v4 = some c2) (he : c1 = c2.1)
    (K : QG X 4 Q (some ()) 1048 [(0, .float (UInt32.ofNat 100)), (1, .ref 0), (2, .ref 104), (3, .int x3)] [] (wLx rfB kfB (va_rf z) (va_rf tx) A (va_up2 (va_up2 (va_up2 V 104 0 c2.2.1) 104 44 c2.2.2.1) 104 45 c2.2.2.2) B L M) ad cells slots) : QG X 4 Q (some ()) 962 [(0, .float (UInt32.ofNat 100)), (1, .ref 0), (2, .ref 104), (3, .int x3)] [] (wLx rfB kfB (va_rf z) (va_rf tx) A V B L M) ad cells slots := by
  refine QG.aload_n hX (qd K_L_law16 32 rfl) rfl rfl ?_
  refine QG.aload_ns hX (qd K_L_law16 33 rfl) rfl rfl ?_
  refine QG.iload_n hX (qd K_L_law16 34 rfl) rfl rfl ?_
  refine QG.iconst hX (qd K_L_law16 35 rfl) rfl ki_1 ?_
  refine QG.iadd hX (qd K_L_law16 36 rfl) rfl ?_
  refine QG.scld hX hs0 hsl hsA hsb (qd K_L_law16 37 rfl) rfl hi1 hv1 ?_
  refine QG.aload_ns hX (qd K_L_law16 38 rfl) rfl rfl ?_
  refine QG.iload_n hX (qd K_L_law16 39 rfl) rfl rfl ?_
  refine QG.iconst hX (qd K_L_law17 0 rfl) rfl ki_2 ?_
  refine QG.iadd hX (qd K_L_law17 1 rfl) rfl ?_
  refine QG.scld hX hs0 hsl hsA hsb (qd K_L_law17 2 rfl) rfl hi2 hv2 ?_
  refine QG.aload_ns hX (qd K_L_law17 3 rfl) rfl rfl ?_
  refine QG.iload_n hX (qd K_L_law17 4 rfl) rfl rfl ?_
  refine QG.iconst hX (qd K_L_law17 5 rfl) rfl ki_3 ?_
  refine QG.iadd hX (qd K_L_law17 6 rfl) rfl ?_
  refine QG.scld hX hs0 hsl hsA hsb (qd K_L_law17 7 rfl) rfl hi3 hv3 ?_
  refine QG.aload_ns hX (qd K_L_law17 8 rfl) rfl rfl ?_
  refine QG.iload_n hX (qd K_L_law17 9 rfl) rfl rfl ?_
  refine QG.iconst hX (qd K_L_law17 10 rfl) rfl ki_4 ?_
  refine QG.iadd hX (qd K_L_law17 11 rfl) rfl ?_
  refine QG.scld hX hs0 hsl hsA hsb (qd K_L_law17 12 rfl) rfl hi4 hv4 ?_
  refine QG.callVk (rest := []) [0, 37, 83, 84, 85, 86, 87, 88, 89, 76, 77, 78, 79, 80, 81, 82] hz1 hX cw_L_125 (M_X7_differs_ok_ok X.l (fun j => Option.map (qinv [0, 37, 83, 84, 85, 86, 87, 88, 89, 76, 77, 78, 79, 80, 81, 82]) (kfB j)) (B 83) (V 83 1) (V 83 2) (V 83 3) (V 83 4) (V 83 5) (A 84) (A 85) (A 86) (A 87) (A 88) (A 89) (V 83 12) (B 76) (V 76 1) (V 76 2) (V 76 3) (V 76 4) (V 76 5) (A 77) (A 78) (A 79) (A 80) (A 81) (A 82) (V 76 12) v1 v2 v3 v4 h0a h0b (by show Option.map _ (kfB v1.toNatClampNeg) = _; rw [hj0]; rfl) hm0 h1a h1b (by show Option.map _ (kfB v2.toNatClampNeg) = _; rw [hj1]; rfl) hm1) trivial (by decide) (by decide) (qd K_L_law17 13 rfl) rfl hcs rfl rfl rfl rfl (Nat.le_of_ble_eq_true rfl) (Eq.trans (congrArg (fun f => List.map (fun i => (wLx rfB f (va_rf z) (va_rf tx) A V B L M)[i]?) [0, 37, 83, 84, 85, 86, 87, 88, 89, 76, 77, 78, 79, 80, 81, 82]) (qinv_eq [0, 37, 83, 84, 85, 86, 87, 88, 89, 76, 77, 78, 79, 80, 81, 82] kfB).symm) rfl) rfl (Nat.le_of_ble_eq_true rfl) rfl ?_
  refine QG.eqW (Wd' := (wLx rfB (fun j => Option.map (qf [0, 37, 83, 84, 85, 86, 87, 88, 89, 76, 77, 78, 79, 80, 81, 82]) (Option.map (qinv [0, 37, 83, 84, 85, 86, 87, 88, 89, 76, 77, 78, 79, 80, 81, 82]) (kfB j))) (va_rf z) (va_rf tx) A V B L M)) rfl ?_
  rw [qinv_eq [0, 37, 83, 84, 85, 86, 87, 88, 89, 76, 77, 78, 79, 80, 81, 82] kfB]
  show QG X 4 _ _ 986 _ [.int c1] _ ad _ _
  refine QG.aload_n hX (qd K_L_law17 14 rfl) rfl rfl ?_
  refine QG.aload_ns hX (qd K_L_law17 15 rfl) rfl rfl ?_
  refine QG.iload_n hX (qd K_L_law17 16 rfl) rfl rfl ?_
  refine QG.iconst hX (qd K_L_law17 17 rfl) rfl ki_1 ?_
  refine QG.iadd hX (qd K_L_law17 18 rfl) rfl ?_
  refine QG.scld hX hs0 hsl hsA hsb (qd K_L_law17 19 rfl) rfl hi1 hv1 ?_
  refine QG.aload_ns hX (qd K_L_law17 20 rfl) rfl rfl ?_
  refine QG.iload_n hX (qd K_L_law17 21 rfl) rfl rfl ?_
  refine QG.iconst hX (qd K_L_law17 22 rfl) rfl ki_2 ?_
  refine QG.iadd hX (qd K_L_law17 23 rfl) rfl ?_
  refine QG.scld hX hs0 hsl hsA hsb (qd K_L_law17 24 rfl) rfl hi2 hv2 ?_
  refine QG.aload_ns hX (qd K_L_law17 25 rfl) rfl rfl ?_
  refine QG.iload_n hX (qd K_L_law17 26 rfl) rfl rfl ?_
  refine QG.iconst hX (qd K_L_law17 27 rfl) rfl ki_3 ?_
  refine QG.iadd hX (qd K_L_law17 28 rfl) rfl ?_
  refine QG.scld hX hs0 hsl hsA hsb (qd K_L_law17 29 rfl) rfl hi3 hv3 ?_
  refine QG.aload_ns hX (qd K_L_law17 30 rfl) rfl rfl ?_
  refine QG.iload_n hX (qd K_L_law17 31 rfl) rfl rfl ?_
  refine QG.iconst hX (qd K_L_law17 32 rfl) rfl ki_4 ?_
  refine QG.iadd hX (qd K_L_law17 33 rfl) rfl ?_
  refine QG.scld hX hs0 hsl hsA hsb (qd K_L_law17 34 rfl) rfl hi4 hv4 ?_
  refine QG.callVk (rest := [.int c1]) [104, 105, 106, 107, 108, 109, 110, 111, 112, 113, 114, 115, 116, 117, 118, 119, 120, 121, 122, 123, 124, 125, 126, 127, 128, 129, 130, 131, 132, 133, 134, 135, 136, 137] hz2 hX cw_L_129 (M_X8_differs X.l (V 104 0) (A 105) (A 106) (A 107) (A 108) (A 109) (A 110) (A 111) (A 112) (V 104 9) (V 104 10) (A 113) (A 114) (A 115) (A 116) M (A 118) (A 119) (A 120) (A 121) (A 122) (A 123) (A 124) (A 125) (A 126) (A 127) (A 128) (V 104 27) (V 104 28) (A 129) (V 104 30) (V 104 31) (V 104 32) (V 104 33) (V 104 34) (V 104 35) (V 104 36) (A 130) (A 131) (A 132) (A 133) (A 134) (A 135) (V 104 43) (V 104 44) (V 104 45) (V 104 46) (A 136) (A 137) v1 v2 v3 v4) trivial (by decide) (by decide) (qd K_L_law17 35 rfl) rfl hcs rfl rfl rfl rfl (Nat.le_of_ble_eq_true rfl) rfl rfl (Nat.le_of_ble_eq_true rfl) rfl ?_
  refine QG.eqW (Wd' := (wLx rfB kfB (va_rf z) (va_rf tx) A (va_up2 (va_up2 (va_up2 V 104 0 c2.2.1) 104 44 c2.2.2.1) 104 45 c2.2.2.2) B L M)) rfl ?_
  show QG X 4 _ _ 1010 _ [.int c2.1, .int c1] _ ad _ _
  exact QG.ifT (by rw [he]) (QG.icmp_eq (tgt := 1048) (oF := none) hX (qd K_L_law17 36 rfl) rfl (by decide) K QG.nothing)

set_option maxRecDepth 100000 in
set_option maxHeartbeats 4000000 in
theorem C_differs_ok1_ok1 {X : QX} (hX : qok X code RL 4 (some .boolean) 1000) {Q : Unit → State → Prop} {b LL : Nat} {xs : Nat → Int32} (hs0 : va_X b LL xs X.s X.s.heap) (hsl : b < X.s.heap.size) (hsA : ¬ X.A b) (hsb : X.sA 100 = b) {ad : Nat → Nat} {cells slots : Nat} (hcs : cells ≤ X.R.cells ∧ slots ≤ X.R.slots) {A V : Nat → Nat → Int32} {B : Nat → Bool} {L M : Nat → Int64} {z tx : Option Nat} {x3 : Int32} {v1 : Int32} {v2 : Int32} {v3 : Int32} {v4 : Int32} (hi1 : vp_in (x3 + 1) LL) (hv1 : xs (x3 + 1).toNatClampNeg = v1) (hi2 : vp_in (x3 + 2) LL) (hv2 : xs (x3 + 2).toNatClampNeg = v2) (hi3 : vp_in (x3 + 3) LL) (hv3 : xs (x3 + 3).toNatClampNeg = v3) (hi4 : vp_in (x3 + 4) LL) (hv4 : xs (x3 + 4).toNatClampNeg = v4) (h0a : ¬ v1 < 0) (h0b : ¬ 4 ≤ v1) (hj0 : v1.toNatClampNeg = 1) (hm0 : B 83 = true) (h1a : ¬ v2 < 0) (h1b : ¬ 4 ≤ v2) (hj1 : v2.toNatClampNeg = 1) (hm1 : B 83 = true) {c1 : Int32} {c2 : Int32 × Int32 × Int32 × Int32} (hz1 : F_X7_differs_ok_al (V 83 1) (V 83 2) (A 84) (A 85) (A 86) v1 v2 v3 v4 = some c1) (hz2 : F_X8_differs (V 104 0) (A 119) (A 120) (A 121) (A 124) (A 125) (A 126) (V 104 44) (V 104 45) v1 v2 v3 v4 = some c2) (he : c1 = c2.1)
    (K : QG X 4 Q (some ()) 1048 [(0, .float (UInt32.ofNat 100)), (1, .ref 0), (2, .ref 104), (3, .int x3)] [] (wLx rfB kfB (va_rf z) (va_rf tx) A (va_up2 (va_up2 (va_up2 V 104 0 c2.2.1) 104 44 c2.2.2.1) 104 45 c2.2.2.2) B L M) ad cells slots) : QG X 4 Q (some ()) 962 [(0, .float (UInt32.ofNat 100)), (1, .ref 0), (2, .ref 104), (3, .int x3)] [] (wLx rfB kfB (va_rf z) (va_rf tx) A V B L M) ad cells slots := by
  refine QG.aload_n hX (qd K_L_law16 32 rfl) rfl rfl ?_
  refine QG.aload_ns hX (qd K_L_law16 33 rfl) rfl rfl ?_
  refine QG.iload_n hX (qd K_L_law16 34 rfl) rfl rfl ?_
  refine QG.iconst hX (qd K_L_law16 35 rfl) rfl ki_1 ?_
  refine QG.iadd hX (qd K_L_law16 36 rfl) rfl ?_
  refine QG.scld hX hs0 hsl hsA hsb (qd K_L_law16 37 rfl) rfl hi1 hv1 ?_
  refine QG.aload_ns hX (qd K_L_law16 38 rfl) rfl rfl ?_
  refine QG.iload_n hX (qd K_L_law16 39 rfl) rfl rfl ?_
  refine QG.iconst hX (qd K_L_law17 0 rfl) rfl ki_2 ?_
  refine QG.iadd hX (qd K_L_law17 1 rfl) rfl ?_
  refine QG.scld hX hs0 hsl hsA hsb (qd K_L_law17 2 rfl) rfl hi2 hv2 ?_
  refine QG.aload_ns hX (qd K_L_law17 3 rfl) rfl rfl ?_
  refine QG.iload_n hX (qd K_L_law17 4 rfl) rfl rfl ?_
  refine QG.iconst hX (qd K_L_law17 5 rfl) rfl ki_3 ?_
  refine QG.iadd hX (qd K_L_law17 6 rfl) rfl ?_
  refine QG.scld hX hs0 hsl hsA hsb (qd K_L_law17 7 rfl) rfl hi3 hv3 ?_
  refine QG.aload_ns hX (qd K_L_law17 8 rfl) rfl rfl ?_
  refine QG.iload_n hX (qd K_L_law17 9 rfl) rfl rfl ?_
  refine QG.iconst hX (qd K_L_law17 10 rfl) rfl ki_4 ?_
  refine QG.iadd hX (qd K_L_law17 11 rfl) rfl ?_
  refine QG.scld hX hs0 hsl hsA hsb (qd K_L_law17 12 rfl) rfl hi4 hv4 ?_
  refine QG.callVk (rest := []) [0, 37, 83, 84, 85, 86, 87, 88, 89] hz1 hX cw_L_125 (M_X7_differs_ok_al X.l (fun j => Option.map (qinv [0, 37, 83, 84, 85, 86, 87, 88, 89]) (kfB j)) (B 83) (V 83 1) (V 83 2) (V 83 3) (V 83 4) (V 83 5) (A 84) (A 85) (A 86) (A 87) (A 88) (A 89) (V 83 12) v1 v2 v3 v4 h0a h0b (by show Option.map _ (kfB v1.toNatClampNeg) = _; rw [hj0]; rfl) hm0 h1a h1b (by show Option.map _ (kfB v2.toNatClampNeg) = _; rw [hj1]; rfl) hm1) trivial (by decide) (by decide) (qd K_L_law17 13 rfl) rfl hcs rfl rfl rfl rfl (Nat.le_of_ble_eq_true rfl) (Eq.trans (congrArg (fun f => List.map (fun i => (wLx rfB f (va_rf z) (va_rf tx) A V B L M)[i]?) [0, 37, 83, 84, 85, 86, 87, 88, 89]) (qinv_eq [0, 37, 83, 84, 85, 86, 87, 88, 89] kfB).symm) rfl) rfl (Nat.le_of_ble_eq_true rfl) rfl ?_
  refine QG.eqW (Wd' := (wLx rfB (fun j => Option.map (qf [0, 37, 83, 84, 85, 86, 87, 88, 89]) (Option.map (qinv [0, 37, 83, 84, 85, 86, 87, 88, 89]) (kfB j))) (va_rf z) (va_rf tx) A V B L M)) rfl ?_
  rw [qinv_eq [0, 37, 83, 84, 85, 86, 87, 88, 89] kfB]
  show QG X 4 _ _ 986 _ [.int c1] _ ad _ _
  refine QG.aload_n hX (qd K_L_law17 14 rfl) rfl rfl ?_
  refine QG.aload_ns hX (qd K_L_law17 15 rfl) rfl rfl ?_
  refine QG.iload_n hX (qd K_L_law17 16 rfl) rfl rfl ?_
  refine QG.iconst hX (qd K_L_law17 17 rfl) rfl ki_1 ?_
  refine QG.iadd hX (qd K_L_law17 18 rfl) rfl ?_
  refine QG.scld hX hs0 hsl hsA hsb (qd K_L_law17 19 rfl) rfl hi1 hv1 ?_
  refine QG.aload_ns hX (qd K_L_law17 20 rfl) rfl rfl ?_
  refine QG.iload_n hX (qd K_L_law17 21 rfl) rfl rfl ?_
  refine QG.iconst hX (qd K_L_law17 22 rfl) rfl ki_2 ?_
  refine QG.iadd hX (qd K_L_law17 23 rfl) rfl ?_
  refine QG.scld hX hs0 hsl hsA hsb (qd K_L_law17 24 rfl) rfl hi2 hv2 ?_
  refine QG.aload_ns hX (qd K_L_law17 25 rfl) rfl rfl ?_
  refine QG.iload_n hX (qd K_L_law17 26 rfl) rfl rfl ?_
  refine QG.iconst hX (qd K_L_law17 27 rfl) rfl ki_3 ?_
  refine QG.iadd hX (qd K_L_law17 28 rfl) rfl ?_
  refine QG.scld hX hs0 hsl hsA hsb (qd K_L_law17 29 rfl) rfl hi3 hv3 ?_
  refine QG.aload_ns hX (qd K_L_law17 30 rfl) rfl rfl ?_
  refine QG.iload_n hX (qd K_L_law17 31 rfl) rfl rfl ?_
  refine QG.iconst hX (qd K_L_law17 32 rfl) rfl ki_4 ?_
  refine QG.iadd hX (qd K_L_law17 33 rfl) rfl ?_
  refine QG.scld hX hs0 hsl hsA hsb (qd K_L_law17 34 rfl) rfl hi4 hv4 ?_
  refine QG.callVk (rest := [.int c1]) [104, 105, 106, 107, 108, 109, 110, 111, 112, 113, 114, 115, 116, 117, 118, 119, 120, 121, 122, 123, 124, 125, 126, 127, 128, 129, 130, 131, 132, 133, 134, 135, 136, 137] hz2 hX cw_L_129 (M_X8_differs X.l (V 104 0) (A 105) (A 106) (A 107) (A 108) (A 109) (A 110) (A 111) (A 112) (V 104 9) (V 104 10) (A 113) (A 114) (A 115) (A 116) M (A 118) (A 119) (A 120) (A 121) (A 122) (A 123) (A 124) (A 125) (A 126) (A 127) (A 128) (V 104 27) (V 104 28) (A 129) (V 104 30) (V 104 31) (V 104 32) (V 104 33) (V 104 34) (V 104 35) (V 104 36) (A 130) (A 131) (A 132) (A 133) (A 134) (A 135) (V 104 43) (V 104 44) (V 104 45) (V 104 46) (A 136) (A 137) v1 v2 v3 v4) trivial (by decide) (by decide) (qd K_L_law17 35 rfl) rfl hcs rfl rfl rfl rfl (Nat.le_of_ble_eq_true rfl) rfl rfl (Nat.le_of_ble_eq_true rfl) rfl ?_
  refine QG.eqW (Wd' := (wLx rfB kfB (va_rf z) (va_rf tx) A (va_up2 (va_up2 (va_up2 V 104 0 c2.2.1) 104 44 c2.2.2.1) 104 45 c2.2.2.2) B L M)) rfl ?_
  show QG X 4 _ _ 1010 _ [.int c2.1, .int c1] _ ad _ _
  exact QG.ifT (by rw [he]) (QG.icmp_eq (tgt := 1048) (oF := none) hX (qd K_L_law17 36 rfl) rfl (by decide) K QG.nothing)

set_option maxRecDepth 100000 in
set_option maxHeartbeats 4000000 in
theorem C_differs_ok1_ok2 {X : QX} (hX : qok X code RL 4 (some .boolean) 1000) {Q : Unit → State → Prop} {b LL : Nat} {xs : Nat → Int32} (hs0 : va_X b LL xs X.s X.s.heap) (hsl : b < X.s.heap.size) (hsA : ¬ X.A b) (hsb : X.sA 100 = b) {ad : Nat → Nat} {cells slots : Nat} (hcs : cells ≤ X.R.cells ∧ slots ≤ X.R.slots) {A V : Nat → Nat → Int32} {B : Nat → Bool} {L M : Nat → Int64} {z tx : Option Nat} {x3 : Int32} {v1 : Int32} {v2 : Int32} {v3 : Int32} {v4 : Int32} (hi1 : vp_in (x3 + 1) LL) (hv1 : xs (x3 + 1).toNatClampNeg = v1) (hi2 : vp_in (x3 + 2) LL) (hv2 : xs (x3 + 2).toNatClampNeg = v2) (hi3 : vp_in (x3 + 3) LL) (hv3 : xs (x3 + 3).toNatClampNeg = v3) (hi4 : vp_in (x3 + 4) LL) (hv4 : xs (x3 + 4).toNatClampNeg = v4) (h0a : ¬ v1 < 0) (h0b : ¬ 4 ≤ v1) (hj0 : v1.toNatClampNeg = 1) (hm0 : B 83 = true) (h1a : ¬ v2 < 0) (h1b : ¬ 4 ≤ v2) (hj1 : v2.toNatClampNeg = 2) (hm1 : B 90 = true) {c1 : Int32} {c2 : Int32 × Int32 × Int32 × Int32} (hz1 : F_X7_differs_ok_ok (V 83 1) (V 83 2) (A 84) (A 85) (A 86) (V 90 1) (V 90 2) (A 91) (A 92) (A 93) v1 v2 v3 v4 = some c1) (hz2 : F_X8_differs (V 104 0) (A 119) (A 120) (A 121) (A 124) (A 125) (A 126) (V 104 44) (V 104 45) v1 v2 v3 v4 = some c2) (he : c1 = c2.1)
    (K : QG X 4 Q (some ()) 1048 [(0, .float (UInt32.ofNat 100)), (1, .ref 0), (2, .ref 104), (3, .int x3)] [] (wLx rfB kfB (va_rf z) (va_rf tx) A (va_up2 (va_up2 (va_up2 V 104 0 c2.2.1) 104 44 c2.2.2.1) 104 45 c2.2.2.2) B L M) ad cells slots) : QG X 4 Q (some ()) 962 [(0, .float (UInt32.ofNat 100)), (1, .ref 0), (2, .ref 104), (3, .int x3)] [] (wLx rfB kfB (va_rf z) (va_rf tx) A V B L M) ad cells slots := by
  refine QG.aload_n hX (qd K_L_law16 32 rfl) rfl rfl ?_
  refine QG.aload_ns hX (qd K_L_law16 33 rfl) rfl rfl ?_
  refine QG.iload_n hX (qd K_L_law16 34 rfl) rfl rfl ?_
  refine QG.iconst hX (qd K_L_law16 35 rfl) rfl ki_1 ?_
  refine QG.iadd hX (qd K_L_law16 36 rfl) rfl ?_
  refine QG.scld hX hs0 hsl hsA hsb (qd K_L_law16 37 rfl) rfl hi1 hv1 ?_
  refine QG.aload_ns hX (qd K_L_law16 38 rfl) rfl rfl ?_
  refine QG.iload_n hX (qd K_L_law16 39 rfl) rfl rfl ?_
  refine QG.iconst hX (qd K_L_law17 0 rfl) rfl ki_2 ?_
  refine QG.iadd hX (qd K_L_law17 1 rfl) rfl ?_
  refine QG.scld hX hs0 hsl hsA hsb (qd K_L_law17 2 rfl) rfl hi2 hv2 ?_
  refine QG.aload_ns hX (qd K_L_law17 3 rfl) rfl rfl ?_
  refine QG.iload_n hX (qd K_L_law17 4 rfl) rfl rfl ?_
  refine QG.iconst hX (qd K_L_law17 5 rfl) rfl ki_3 ?_
  refine QG.iadd hX (qd K_L_law17 6 rfl) rfl ?_
  refine QG.scld hX hs0 hsl hsA hsb (qd K_L_law17 7 rfl) rfl hi3 hv3 ?_
  refine QG.aload_ns hX (qd K_L_law17 8 rfl) rfl rfl ?_
  refine QG.iload_n hX (qd K_L_law17 9 rfl) rfl rfl ?_
  refine QG.iconst hX (qd K_L_law17 10 rfl) rfl ki_4 ?_
  refine QG.iadd hX (qd K_L_law17 11 rfl) rfl ?_
  refine QG.scld hX hs0 hsl hsA hsb (qd K_L_law17 12 rfl) rfl hi4 hv4 ?_
  refine QG.callVk (rest := []) [0, 37, 83, 84, 85, 86, 87, 88, 89, 90, 91, 92, 93, 94, 95, 96] hz1 hX cw_L_125 (M_X7_differs_ok_ok X.l (fun j => Option.map (qinv [0, 37, 83, 84, 85, 86, 87, 88, 89, 90, 91, 92, 93, 94, 95, 96]) (kfB j)) (B 83) (V 83 1) (V 83 2) (V 83 3) (V 83 4) (V 83 5) (A 84) (A 85) (A 86) (A 87) (A 88) (A 89) (V 83 12) (B 90) (V 90 1) (V 90 2) (V 90 3) (V 90 4) (V 90 5) (A 91) (A 92) (A 93) (A 94) (A 95) (A 96) (V 90 12) v1 v2 v3 v4 h0a h0b (by show Option.map _ (kfB v1.toNatClampNeg) = _; rw [hj0]; rfl) hm0 h1a h1b (by show Option.map _ (kfB v2.toNatClampNeg) = _; rw [hj1]; rfl) hm1) trivial (by decide) (by decide) (qd K_L_law17 13 rfl) rfl hcs rfl rfl rfl rfl (Nat.le_of_ble_eq_true rfl) (Eq.trans (congrArg (fun f => List.map (fun i => (wLx rfB f (va_rf z) (va_rf tx) A V B L M)[i]?) [0, 37, 83, 84, 85, 86, 87, 88, 89, 90, 91, 92, 93, 94, 95, 96]) (qinv_eq [0, 37, 83, 84, 85, 86, 87, 88, 89, 90, 91, 92, 93, 94, 95, 96] kfB).symm) rfl) rfl (Nat.le_of_ble_eq_true rfl) rfl ?_
  refine QG.eqW (Wd' := (wLx rfB (fun j => Option.map (qf [0, 37, 83, 84, 85, 86, 87, 88, 89, 90, 91, 92, 93, 94, 95, 96]) (Option.map (qinv [0, 37, 83, 84, 85, 86, 87, 88, 89, 90, 91, 92, 93, 94, 95, 96]) (kfB j))) (va_rf z) (va_rf tx) A V B L M)) rfl ?_
  rw [qinv_eq [0, 37, 83, 84, 85, 86, 87, 88, 89, 90, 91, 92, 93, 94, 95, 96] kfB]
  show QG X 4 _ _ 986 _ [.int c1] _ ad _ _
  refine QG.aload_n hX (qd K_L_law17 14 rfl) rfl rfl ?_
  refine QG.aload_ns hX (qd K_L_law17 15 rfl) rfl rfl ?_
  refine QG.iload_n hX (qd K_L_law17 16 rfl) rfl rfl ?_
  refine QG.iconst hX (qd K_L_law17 17 rfl) rfl ki_1 ?_
  refine QG.iadd hX (qd K_L_law17 18 rfl) rfl ?_
  refine QG.scld hX hs0 hsl hsA hsb (qd K_L_law17 19 rfl) rfl hi1 hv1 ?_
  refine QG.aload_ns hX (qd K_L_law17 20 rfl) rfl rfl ?_
  refine QG.iload_n hX (qd K_L_law17 21 rfl) rfl rfl ?_
  refine QG.iconst hX (qd K_L_law17 22 rfl) rfl ki_2 ?_
  refine QG.iadd hX (qd K_L_law17 23 rfl) rfl ?_
  refine QG.scld hX hs0 hsl hsA hsb (qd K_L_law17 24 rfl) rfl hi2 hv2 ?_
  refine QG.aload_ns hX (qd K_L_law17 25 rfl) rfl rfl ?_
  refine QG.iload_n hX (qd K_L_law17 26 rfl) rfl rfl ?_
  refine QG.iconst hX (qd K_L_law17 27 rfl) rfl ki_3 ?_
  refine QG.iadd hX (qd K_L_law17 28 rfl) rfl ?_
  refine QG.scld hX hs0 hsl hsA hsb (qd K_L_law17 29 rfl) rfl hi3 hv3 ?_
  refine QG.aload_ns hX (qd K_L_law17 30 rfl) rfl rfl ?_
  refine QG.iload_n hX (qd K_L_law17 31 rfl) rfl rfl ?_
  refine QG.iconst hX (qd K_L_law17 32 rfl) rfl ki_4 ?_
  refine QG.iadd hX (qd K_L_law17 33 rfl) rfl ?_
  refine QG.scld hX hs0 hsl hsA hsb (qd K_L_law17 34 rfl) rfl hi4 hv4 ?_
  refine QG.callVk (rest := [.int c1]) [104, 105, 106, 107, 108, 109, 110, 111, 112, 113, 114, 115, 116, 117, 118, 119, 120, 121, 122, 123, 124, 125, 126, 127, 128, 129, 130, 131, 132, 133, 134, 135, 136, 137] hz2 hX cw_L_129 (M_X8_differs X.l (V 104 0) (A 105) (A 106) (A 107) (A 108) (A 109) (A 110) (A 111) (A 112) (V 104 9) (V 104 10) (A 113) (A 114) (A 115) (A 116) M (A 118) (A 119) (A 120) (A 121) (A 122) (A 123) (A 124) (A 125) (A 126) (A 127) (A 128) (V 104 27) (V 104 28) (A 129) (V 104 30) (V 104 31) (V 104 32) (V 104 33) (V 104 34) (V 104 35) (V 104 36) (A 130) (A 131) (A 132) (A 133) (A 134) (A 135) (V 104 43) (V 104 44) (V 104 45) (V 104 46) (A 136) (A 137) v1 v2 v3 v4) trivial (by decide) (by decide) (qd K_L_law17 35 rfl) rfl hcs rfl rfl rfl rfl (Nat.le_of_ble_eq_true rfl) rfl rfl (Nat.le_of_ble_eq_true rfl) rfl ?_
  refine QG.eqW (Wd' := (wLx rfB kfB (va_rf z) (va_rf tx) A (va_up2 (va_up2 (va_up2 V 104 0 c2.2.1) 104 44 c2.2.2.1) 104 45 c2.2.2.2) B L M)) rfl ?_
  show QG X 4 _ _ 1010 _ [.int c2.1, .int c1] _ ad _ _
  exact QG.ifT (by rw [he]) (QG.icmp_eq (tgt := 1048) (oF := none) hX (qd K_L_law17 36 rfl) rfl (by decide) K QG.nothing)

set_option maxRecDepth 100000 in
set_option maxHeartbeats 4000000 in
theorem C_differs_ok1_ok3 {X : QX} (hX : qok X code RL 4 (some .boolean) 1000) {Q : Unit → State → Prop} {b LL : Nat} {xs : Nat → Int32} (hs0 : va_X b LL xs X.s X.s.heap) (hsl : b < X.s.heap.size) (hsA : ¬ X.A b) (hsb : X.sA 100 = b) {ad : Nat → Nat} {cells slots : Nat} (hcs : cells ≤ X.R.cells ∧ slots ≤ X.R.slots) {A V : Nat → Nat → Int32} {B : Nat → Bool} {L M : Nat → Int64} {z tx : Option Nat} {x3 : Int32} {v1 : Int32} {v2 : Int32} {v3 : Int32} {v4 : Int32} (hi1 : vp_in (x3 + 1) LL) (hv1 : xs (x3 + 1).toNatClampNeg = v1) (hi2 : vp_in (x3 + 2) LL) (hv2 : xs (x3 + 2).toNatClampNeg = v2) (hi3 : vp_in (x3 + 3) LL) (hv3 : xs (x3 + 3).toNatClampNeg = v3) (hi4 : vp_in (x3 + 4) LL) (hv4 : xs (x3 + 4).toNatClampNeg = v4) (h0a : ¬ v1 < 0) (h0b : ¬ 4 ≤ v1) (hj0 : v1.toNatClampNeg = 1) (hm0 : B 83 = true) (h1a : ¬ v2 < 0) (h1b : ¬ 4 ≤ v2) (hj1 : v2.toNatClampNeg = 3) (hm1 : B 97 = true) {c1 : Int32} {c2 : Int32 × Int32 × Int32 × Int32} (hz1 : F_X7_differs_ok_ok (V 83 1) (V 83 2) (A 84) (A 85) (A 86) (V 97 1) (V 97 2) (A 98) (A 99) (A 100) v1 v2 v3 v4 = some c1) (hz2 : F_X8_differs (V 104 0) (A 119) (A 120) (A 121) (A 124) (A 125) (A 126) (V 104 44) (V 104 45) v1 v2 v3 v4 = some c2) (he : c1 = c2.1)
    (K : QG X 4 Q (some ()) 1048 [(0, .float (UInt32.ofNat 100)), (1, .ref 0), (2, .ref 104), (3, .int x3)] [] (wLx rfB kfB (va_rf z) (va_rf tx) A (va_up2 (va_up2 (va_up2 V 104 0 c2.2.1) 104 44 c2.2.2.1) 104 45 c2.2.2.2) B L M) ad cells slots) : QG X 4 Q (some ()) 962 [(0, .float (UInt32.ofNat 100)), (1, .ref 0), (2, .ref 104), (3, .int x3)] [] (wLx rfB kfB (va_rf z) (va_rf tx) A V B L M) ad cells slots := by
  refine QG.aload_n hX (qd K_L_law16 32 rfl) rfl rfl ?_
  refine QG.aload_ns hX (qd K_L_law16 33 rfl) rfl rfl ?_
  refine QG.iload_n hX (qd K_L_law16 34 rfl) rfl rfl ?_
  refine QG.iconst hX (qd K_L_law16 35 rfl) rfl ki_1 ?_
  refine QG.iadd hX (qd K_L_law16 36 rfl) rfl ?_
  refine QG.scld hX hs0 hsl hsA hsb (qd K_L_law16 37 rfl) rfl hi1 hv1 ?_
  refine QG.aload_ns hX (qd K_L_law16 38 rfl) rfl rfl ?_
  refine QG.iload_n hX (qd K_L_law16 39 rfl) rfl rfl ?_
  refine QG.iconst hX (qd K_L_law17 0 rfl) rfl ki_2 ?_
  refine QG.iadd hX (qd K_L_law17 1 rfl) rfl ?_
  refine QG.scld hX hs0 hsl hsA hsb (qd K_L_law17 2 rfl) rfl hi2 hv2 ?_
  refine QG.aload_ns hX (qd K_L_law17 3 rfl) rfl rfl ?_
  refine QG.iload_n hX (qd K_L_law17 4 rfl) rfl rfl ?_
  refine QG.iconst hX (qd K_L_law17 5 rfl) rfl ki_3 ?_
  refine QG.iadd hX (qd K_L_law17 6 rfl) rfl ?_
  refine QG.scld hX hs0 hsl hsA hsb (qd K_L_law17 7 rfl) rfl hi3 hv3 ?_
  refine QG.aload_ns hX (qd K_L_law17 8 rfl) rfl rfl ?_
  refine QG.iload_n hX (qd K_L_law17 9 rfl) rfl rfl ?_
  refine QG.iconst hX (qd K_L_law17 10 rfl) rfl ki_4 ?_
  refine QG.iadd hX (qd K_L_law17 11 rfl) rfl ?_
  refine QG.scld hX hs0 hsl hsA hsb (qd K_L_law17 12 rfl) rfl hi4 hv4 ?_
  refine QG.callVk (rest := []) [0, 37, 83, 84, 85, 86, 87, 88, 89, 97, 98, 99, 100, 101, 102, 103] hz1 hX cw_L_125 (M_X7_differs_ok_ok X.l (fun j => Option.map (qinv [0, 37, 83, 84, 85, 86, 87, 88, 89, 97, 98, 99, 100, 101, 102, 103]) (kfB j)) (B 83) (V 83 1) (V 83 2) (V 83 3) (V 83 4) (V 83 5) (A 84) (A 85) (A 86) (A 87) (A 88) (A 89) (V 83 12) (B 97) (V 97 1) (V 97 2) (V 97 3) (V 97 4) (V 97 5) (A 98) (A 99) (A 100) (A 101) (A 102) (A 103) (V 97 12) v1 v2 v3 v4 h0a h0b (by show Option.map _ (kfB v1.toNatClampNeg) = _; rw [hj0]; rfl) hm0 h1a h1b (by show Option.map _ (kfB v2.toNatClampNeg) = _; rw [hj1]; rfl) hm1) trivial (by decide) (by decide) (qd K_L_law17 13 rfl) rfl hcs rfl rfl rfl rfl (Nat.le_of_ble_eq_true rfl) (Eq.trans (congrArg (fun f => List.map (fun i => (wLx rfB f (va_rf z) (va_rf tx) A V B L M)[i]?) [0, 37, 83, 84, 85, 86, 87, 88, 89, 97, 98, 99, 100, 101, 102, 103]) (qinv_eq [0, 37, 83, 84, 85, 86, 87, 88, 89, 97, 98, 99, 100, 101, 102, 103] kfB).symm) rfl) rfl (Nat.le_of_ble_eq_true rfl) rfl ?_
  refine QG.eqW (Wd' := (wLx rfB (fun j => Option.map (qf [0, 37, 83, 84, 85, 86, 87, 88, 89, 97, 98, 99, 100, 101, 102, 103]) (Option.map (qinv [0, 37, 83, 84, 85, 86, 87, 88, 89, 97, 98, 99, 100, 101, 102, 103]) (kfB j))) (va_rf z) (va_rf tx) A V B L M)) rfl ?_
  rw [qinv_eq [0, 37, 83, 84, 85, 86, 87, 88, 89, 97, 98, 99, 100, 101, 102, 103] kfB]
  show QG X 4 _ _ 986 _ [.int c1] _ ad _ _
  refine QG.aload_n hX (qd K_L_law17 14 rfl) rfl rfl ?_
  refine QG.aload_ns hX (qd K_L_law17 15 rfl) rfl rfl ?_
  refine QG.iload_n hX (qd K_L_law17 16 rfl) rfl rfl ?_
  refine QG.iconst hX (qd K_L_law17 17 rfl) rfl ki_1 ?_
  refine QG.iadd hX (qd K_L_law17 18 rfl) rfl ?_
  refine QG.scld hX hs0 hsl hsA hsb (qd K_L_law17 19 rfl) rfl hi1 hv1 ?_
  refine QG.aload_ns hX (qd K_L_law17 20 rfl) rfl rfl ?_
  refine QG.iload_n hX (qd K_L_law17 21 rfl) rfl rfl ?_
  refine QG.iconst hX (qd K_L_law17 22 rfl) rfl ki_2 ?_
  refine QG.iadd hX (qd K_L_law17 23 rfl) rfl ?_
  refine QG.scld hX hs0 hsl hsA hsb (qd K_L_law17 24 rfl) rfl hi2 hv2 ?_
  refine QG.aload_ns hX (qd K_L_law17 25 rfl) rfl rfl ?_
  refine QG.iload_n hX (qd K_L_law17 26 rfl) rfl rfl ?_
  refine QG.iconst hX (qd K_L_law17 27 rfl) rfl ki_3 ?_
  refine QG.iadd hX (qd K_L_law17 28 rfl) rfl ?_
  refine QG.scld hX hs0 hsl hsA hsb (qd K_L_law17 29 rfl) rfl hi3 hv3 ?_
  refine QG.aload_ns hX (qd K_L_law17 30 rfl) rfl rfl ?_
  refine QG.iload_n hX (qd K_L_law17 31 rfl) rfl rfl ?_
  refine QG.iconst hX (qd K_L_law17 32 rfl) rfl ki_4 ?_
  refine QG.iadd hX (qd K_L_law17 33 rfl) rfl ?_
  refine QG.scld hX hs0 hsl hsA hsb (qd K_L_law17 34 rfl) rfl hi4 hv4 ?_
  refine QG.callVk (rest := [.int c1]) [104, 105, 106, 107, 108, 109, 110, 111, 112, 113, 114, 115, 116, 117, 118, 119, 120, 121, 122, 123, 124, 125, 126, 127, 128, 129, 130, 131, 132, 133, 134, 135, 136, 137] hz2 hX cw_L_129 (M_X8_differs X.l (V 104 0) (A 105) (A 106) (A 107) (A 108) (A 109) (A 110) (A 111) (A 112) (V 104 9) (V 104 10) (A 113) (A 114) (A 115) (A 116) M (A 118) (A 119) (A 120) (A 121) (A 122) (A 123) (A 124) (A 125) (A 126) (A 127) (A 128) (V 104 27) (V 104 28) (A 129) (V 104 30) (V 104 31) (V 104 32) (V 104 33) (V 104 34) (V 104 35) (V 104 36) (A 130) (A 131) (A 132) (A 133) (A 134) (A 135) (V 104 43) (V 104 44) (V 104 45) (V 104 46) (A 136) (A 137) v1 v2 v3 v4) trivial (by decide) (by decide) (qd K_L_law17 35 rfl) rfl hcs rfl rfl rfl rfl (Nat.le_of_ble_eq_true rfl) rfl rfl (Nat.le_of_ble_eq_true rfl) rfl ?_
  refine QG.eqW (Wd' := (wLx rfB kfB (va_rf z) (va_rf tx) A (va_up2 (va_up2 (va_up2 V 104 0 c2.2.1) 104 44 c2.2.2.1) 104 45 c2.2.2.2) B L M)) rfl ?_
  show QG X 4 _ _ 1010 _ [.int c2.1, .int c1] _ ad _ _
  exact QG.ifT (by rw [he]) (QG.icmp_eq (tgt := 1048) (oF := none) hX (qd K_L_law17 36 rfl) rfl (by decide) K QG.nothing)

set_option maxRecDepth 100000 in
set_option maxHeartbeats 4000000 in
theorem C_differs_ok2_ok0 {X : QX} (hX : qok X code RL 4 (some .boolean) 1000) {Q : Unit → State → Prop} {b LL : Nat} {xs : Nat → Int32} (hs0 : va_X b LL xs X.s X.s.heap) (hsl : b < X.s.heap.size) (hsA : ¬ X.A b) (hsb : X.sA 100 = b) {ad : Nat → Nat} {cells slots : Nat} (hcs : cells ≤ X.R.cells ∧ slots ≤ X.R.slots) {A V : Nat → Nat → Int32} {B : Nat → Bool} {L M : Nat → Int64} {z tx : Option Nat} {x3 : Int32} {v1 : Int32} {v2 : Int32} {v3 : Int32} {v4 : Int32} (hi1 : vp_in (x3 + 1) LL) (hv1 : xs (x3 + 1).toNatClampNeg = v1) (hi2 : vp_in (x3 + 2) LL) (hv2 : xs (x3 + 2).toNatClampNeg = v2) (hi3 : vp_in (x3 + 3) LL) (hv3 : xs (x3 + 3).toNatClampNeg = v3) (hi4 : vp_in (x3 + 4) LL) (hv4 : xs (x3 + 4).toNatClampNeg = v4) (h0a : ¬ v1 < 0) (h0b : ¬ 4 ≤ v1) (hj0 : v1.toNatClampNeg = 2) (hm0 : B 90 = true) (h1a : ¬ v2 < 0) (h1b : ¬ 4 ≤ v2) (hj1 : v2.toNatClampNeg = 0) (hm1 : B 76 = true) {c1 : Int32} {c2 : Int32 × Int32 × Int32 × Int32} (hz1 : F_X7_differs_ok_ok (V 90 1) (V 90 2) (A 91) (A 92) (A 93) (V 76 1) (V 76 2) (A 77) (A 78) (A 79) v1 v2 v3 v4 = some c1) (hz2 : F_X8_differs (V 104 0) (A 119) (A 120) (A 121) (A 124) (A 125) (A 126) (V 104 44) (V 104 45) v1 v2 v3 v4 = some c2) (he : c1 = c2.1)
    (K : QG X 4 Q (some ()) 1048 [(0, .float (UInt32.ofNat 100)), (1, .ref 0), (2, .ref 104), (3, .int x3)] [] (wLx rfB kfB (va_rf z) (va_rf tx) A (va_up2 (va_up2 (va_up2 V 104 0 c2.2.1) 104 44 c2.2.2.1) 104 45 c2.2.2.2) B L M) ad cells slots) : QG X 4 Q (some ()) 962 [(0, .float (UInt32.ofNat 100)), (1, .ref 0), (2, .ref 104), (3, .int x3)] [] (wLx rfB kfB (va_rf z) (va_rf tx) A V B L M) ad cells slots := by
  refine QG.aload_n hX (qd K_L_law16 32 rfl) rfl rfl ?_
  refine QG.aload_ns hX (qd K_L_law16 33 rfl) rfl rfl ?_
  refine QG.iload_n hX (qd K_L_law16 34 rfl) rfl rfl ?_
  refine QG.iconst hX (qd K_L_law16 35 rfl) rfl ki_1 ?_
  refine QG.iadd hX (qd K_L_law16 36 rfl) rfl ?_
  refine QG.scld hX hs0 hsl hsA hsb (qd K_L_law16 37 rfl) rfl hi1 hv1 ?_
  refine QG.aload_ns hX (qd K_L_law16 38 rfl) rfl rfl ?_
  refine QG.iload_n hX (qd K_L_law16 39 rfl) rfl rfl ?_
  refine QG.iconst hX (qd K_L_law17 0 rfl) rfl ki_2 ?_
  refine QG.iadd hX (qd K_L_law17 1 rfl) rfl ?_
  refine QG.scld hX hs0 hsl hsA hsb (qd K_L_law17 2 rfl) rfl hi2 hv2 ?_
  refine QG.aload_ns hX (qd K_L_law17 3 rfl) rfl rfl ?_
  refine QG.iload_n hX (qd K_L_law17 4 rfl) rfl rfl ?_
  refine QG.iconst hX (qd K_L_law17 5 rfl) rfl ki_3 ?_
  refine QG.iadd hX (qd K_L_law17 6 rfl) rfl ?_
  refine QG.scld hX hs0 hsl hsA hsb (qd K_L_law17 7 rfl) rfl hi3 hv3 ?_
  refine QG.aload_ns hX (qd K_L_law17 8 rfl) rfl rfl ?_
  refine QG.iload_n hX (qd K_L_law17 9 rfl) rfl rfl ?_
  refine QG.iconst hX (qd K_L_law17 10 rfl) rfl ki_4 ?_
  refine QG.iadd hX (qd K_L_law17 11 rfl) rfl ?_
  refine QG.scld hX hs0 hsl hsA hsb (qd K_L_law17 12 rfl) rfl hi4 hv4 ?_
  refine QG.callVk (rest := []) [0, 37, 90, 91, 92, 93, 94, 95, 96, 76, 77, 78, 79, 80, 81, 82] hz1 hX cw_L_125 (M_X7_differs_ok_ok X.l (fun j => Option.map (qinv [0, 37, 90, 91, 92, 93, 94, 95, 96, 76, 77, 78, 79, 80, 81, 82]) (kfB j)) (B 90) (V 90 1) (V 90 2) (V 90 3) (V 90 4) (V 90 5) (A 91) (A 92) (A 93) (A 94) (A 95) (A 96) (V 90 12) (B 76) (V 76 1) (V 76 2) (V 76 3) (V 76 4) (V 76 5) (A 77) (A 78) (A 79) (A 80) (A 81) (A 82) (V 76 12) v1 v2 v3 v4 h0a h0b (by show Option.map _ (kfB v1.toNatClampNeg) = _; rw [hj0]; rfl) hm0 h1a h1b (by show Option.map _ (kfB v2.toNatClampNeg) = _; rw [hj1]; rfl) hm1) trivial (by decide) (by decide) (qd K_L_law17 13 rfl) rfl hcs rfl rfl rfl rfl (Nat.le_of_ble_eq_true rfl) (Eq.trans (congrArg (fun f => List.map (fun i => (wLx rfB f (va_rf z) (va_rf tx) A V B L M)[i]?) [0, 37, 90, 91, 92, 93, 94, 95, 96, 76, 77, 78, 79, 80, 81, 82]) (qinv_eq [0, 37, 90, 91, 92, 93, 94, 95, 96, 76, 77, 78, 79, 80, 81, 82] kfB).symm) rfl) rfl (Nat.le_of_ble_eq_true rfl) rfl ?_
  refine QG.eqW (Wd' := (wLx rfB (fun j => Option.map (qf [0, 37, 90, 91, 92, 93, 94, 95, 96, 76, 77, 78, 79, 80, 81, 82]) (Option.map (qinv [0, 37, 90, 91, 92, 93, 94, 95, 96, 76, 77, 78, 79, 80, 81, 82]) (kfB j))) (va_rf z) (va_rf tx) A V B L M)) rfl ?_
  rw [qinv_eq [0, 37, 90, 91, 92, 93, 94, 95, 96, 76, 77, 78, 79, 80, 81, 82] kfB]
  show QG X 4 _ _ 986 _ [.int c1] _ ad _ _
  refine QG.aload_n hX (qd K_L_law17 14 rfl) rfl rfl ?_
  refine QG.aload_ns hX (qd K_L_law17 15 rfl) rfl rfl ?_
  refine QG.iload_n hX (qd K_L_law17 16 rfl) rfl rfl ?_
  refine QG.iconst hX (qd K_L_law17 17 rfl) rfl ki_1 ?_
  refine QG.iadd hX (qd K_L_law17 18 rfl) rfl ?_
  refine QG.scld hX hs0 hsl hsA hsb (qd K_L_law17 19 rfl) rfl hi1 hv1 ?_
  refine QG.aload_ns hX (qd K_L_law17 20 rfl) rfl rfl ?_
  refine QG.iload_n hX (qd K_L_law17 21 rfl) rfl rfl ?_
  refine QG.iconst hX (qd K_L_law17 22 rfl) rfl ki_2 ?_
  refine QG.iadd hX (qd K_L_law17 23 rfl) rfl ?_
  refine QG.scld hX hs0 hsl hsA hsb (qd K_L_law17 24 rfl) rfl hi2 hv2 ?_
  refine QG.aload_ns hX (qd K_L_law17 25 rfl) rfl rfl ?_
  refine QG.iload_n hX (qd K_L_law17 26 rfl) rfl rfl ?_
  refine QG.iconst hX (qd K_L_law17 27 rfl) rfl ki_3 ?_
  refine QG.iadd hX (qd K_L_law17 28 rfl) rfl ?_
  refine QG.scld hX hs0 hsl hsA hsb (qd K_L_law17 29 rfl) rfl hi3 hv3 ?_
  refine QG.aload_ns hX (qd K_L_law17 30 rfl) rfl rfl ?_
  refine QG.iload_n hX (qd K_L_law17 31 rfl) rfl rfl ?_
  refine QG.iconst hX (qd K_L_law17 32 rfl) rfl ki_4 ?_
  refine QG.iadd hX (qd K_L_law17 33 rfl) rfl ?_
  refine QG.scld hX hs0 hsl hsA hsb (qd K_L_law17 34 rfl) rfl hi4 hv4 ?_
  refine QG.callVk (rest := [.int c1]) [104, 105, 106, 107, 108, 109, 110, 111, 112, 113, 114, 115, 116, 117, 118, 119, 120, 121, 122, 123, 124, 125, 126, 127, 128, 129, 130, 131, 132, 133, 134, 135, 136, 137] hz2 hX cw_L_129 (M_X8_differs X.l (V 104 0) (A 105) (A 106) (A 107) (A 108) (A 109) (A 110) (A 111) (A 112) (V 104 9) (V 104 10) (A 113) (A 114) (A 115) (A 116) M (A 118) (A 119) (A 120) (A 121) (A 122) (A 123) (A 124) (A 125) (A 126) (A 127) (A 128) (V 104 27) (V 104 28) (A 129) (V 104 30) (V 104 31) (V 104 32) (V 104 33) (V 104 34) (V 104 35) (V 104 36) (A 130) (A 131) (A 132) (A 133) (A 134) (A 135) (V 104 43) (V 104 44) (V 104 45) (V 104 46) (A 136) (A 137) v1 v2 v3 v4) trivial (by decide) (by decide) (qd K_L_law17 35 rfl) rfl hcs rfl rfl rfl rfl (Nat.le_of_ble_eq_true rfl) rfl rfl (Nat.le_of_ble_eq_true rfl) rfl ?_
  refine QG.eqW (Wd' := (wLx rfB kfB (va_rf z) (va_rf tx) A (va_up2 (va_up2 (va_up2 V 104 0 c2.2.1) 104 44 c2.2.2.1) 104 45 c2.2.2.2) B L M)) rfl ?_
  show QG X 4 _ _ 1010 _ [.int c2.1, .int c1] _ ad _ _
  exact QG.ifT (by rw [he]) (QG.icmp_eq (tgt := 1048) (oF := none) hX (qd K_L_law17 36 rfl) rfl (by decide) K QG.nothing)

set_option maxRecDepth 100000 in
set_option maxHeartbeats 4000000 in
theorem C_differs_ok2_ok1 {X : QX} (hX : qok X code RL 4 (some .boolean) 1000) {Q : Unit → State → Prop} {b LL : Nat} {xs : Nat → Int32} (hs0 : va_X b LL xs X.s X.s.heap) (hsl : b < X.s.heap.size) (hsA : ¬ X.A b) (hsb : X.sA 100 = b) {ad : Nat → Nat} {cells slots : Nat} (hcs : cells ≤ X.R.cells ∧ slots ≤ X.R.slots) {A V : Nat → Nat → Int32} {B : Nat → Bool} {L M : Nat → Int64} {z tx : Option Nat} {x3 : Int32} {v1 : Int32} {v2 : Int32} {v3 : Int32} {v4 : Int32} (hi1 : vp_in (x3 + 1) LL) (hv1 : xs (x3 + 1).toNatClampNeg = v1) (hi2 : vp_in (x3 + 2) LL) (hv2 : xs (x3 + 2).toNatClampNeg = v2) (hi3 : vp_in (x3 + 3) LL) (hv3 : xs (x3 + 3).toNatClampNeg = v3) (hi4 : vp_in (x3 + 4) LL) (hv4 : xs (x3 + 4).toNatClampNeg = v4) (h0a : ¬ v1 < 0) (h0b : ¬ 4 ≤ v1) (hj0 : v1.toNatClampNeg = 2) (hm0 : B 90 = true) (h1a : ¬ v2 < 0) (h1b : ¬ 4 ≤ v2) (hj1 : v2.toNatClampNeg = 1) (hm1 : B 83 = true) {c1 : Int32} {c2 : Int32 × Int32 × Int32 × Int32} (hz1 : F_X7_differs_ok_ok (V 90 1) (V 90 2) (A 91) (A 92) (A 93) (V 83 1) (V 83 2) (A 84) (A 85) (A 86) v1 v2 v3 v4 = some c1) (hz2 : F_X8_differs (V 104 0) (A 119) (A 120) (A 121) (A 124) (A 125) (A 126) (V 104 44) (V 104 45) v1 v2 v3 v4 = some c2) (he : c1 = c2.1)
    (K : QG X 4 Q (some ()) 1048 [(0, .float (UInt32.ofNat 100)), (1, .ref 0), (2, .ref 104), (3, .int x3)] [] (wLx rfB kfB (va_rf z) (va_rf tx) A (va_up2 (va_up2 (va_up2 V 104 0 c2.2.1) 104 44 c2.2.2.1) 104 45 c2.2.2.2) B L M) ad cells slots) : QG X 4 Q (some ()) 962 [(0, .float (UInt32.ofNat 100)), (1, .ref 0), (2, .ref 104), (3, .int x3)] [] (wLx rfB kfB (va_rf z) (va_rf tx) A V B L M) ad cells slots := by
  refine QG.aload_n hX (qd K_L_law16 32 rfl) rfl rfl ?_
  refine QG.aload_ns hX (qd K_L_law16 33 rfl) rfl rfl ?_
  refine QG.iload_n hX (qd K_L_law16 34 rfl) rfl rfl ?_
  refine QG.iconst hX (qd K_L_law16 35 rfl) rfl ki_1 ?_
  refine QG.iadd hX (qd K_L_law16 36 rfl) rfl ?_
  refine QG.scld hX hs0 hsl hsA hsb (qd K_L_law16 37 rfl) rfl hi1 hv1 ?_
  refine QG.aload_ns hX (qd K_L_law16 38 rfl) rfl rfl ?_
  refine QG.iload_n hX (qd K_L_law16 39 rfl) rfl rfl ?_
  refine QG.iconst hX (qd K_L_law17 0 rfl) rfl ki_2 ?_
  refine QG.iadd hX (qd K_L_law17 1 rfl) rfl ?_
  refine QG.scld hX hs0 hsl hsA hsb (qd K_L_law17 2 rfl) rfl hi2 hv2 ?_
  refine QG.aload_ns hX (qd K_L_law17 3 rfl) rfl rfl ?_
  refine QG.iload_n hX (qd K_L_law17 4 rfl) rfl rfl ?_
  refine QG.iconst hX (qd K_L_law17 5 rfl) rfl ki_3 ?_
  refine QG.iadd hX (qd K_L_law17 6 rfl) rfl ?_
  refine QG.scld hX hs0 hsl hsA hsb (qd K_L_law17 7 rfl) rfl hi3 hv3 ?_
  refine QG.aload_ns hX (qd K_L_law17 8 rfl) rfl rfl ?_
  refine QG.iload_n hX (qd K_L_law17 9 rfl) rfl rfl ?_
  refine QG.iconst hX (qd K_L_law17 10 rfl) rfl ki_4 ?_
  refine QG.iadd hX (qd K_L_law17 11 rfl) rfl ?_
  refine QG.scld hX hs0 hsl hsA hsb (qd K_L_law17 12 rfl) rfl hi4 hv4 ?_
  refine QG.callVk (rest := []) [0, 37, 90, 91, 92, 93, 94, 95, 96, 83, 84, 85, 86, 87, 88, 89] hz1 hX cw_L_125 (M_X7_differs_ok_ok X.l (fun j => Option.map (qinv [0, 37, 90, 91, 92, 93, 94, 95, 96, 83, 84, 85, 86, 87, 88, 89]) (kfB j)) (B 90) (V 90 1) (V 90 2) (V 90 3) (V 90 4) (V 90 5) (A 91) (A 92) (A 93) (A 94) (A 95) (A 96) (V 90 12) (B 83) (V 83 1) (V 83 2) (V 83 3) (V 83 4) (V 83 5) (A 84) (A 85) (A 86) (A 87) (A 88) (A 89) (V 83 12) v1 v2 v3 v4 h0a h0b (by show Option.map _ (kfB v1.toNatClampNeg) = _; rw [hj0]; rfl) hm0 h1a h1b (by show Option.map _ (kfB v2.toNatClampNeg) = _; rw [hj1]; rfl) hm1) trivial (by decide) (by decide) (qd K_L_law17 13 rfl) rfl hcs rfl rfl rfl rfl (Nat.le_of_ble_eq_true rfl) (Eq.trans (congrArg (fun f => List.map (fun i => (wLx rfB f (va_rf z) (va_rf tx) A V B L M)[i]?) [0, 37, 90, 91, 92, 93, 94, 95, 96, 83, 84, 85, 86, 87, 88, 89]) (qinv_eq [0, 37, 90, 91, 92, 93, 94, 95, 96, 83, 84, 85, 86, 87, 88, 89] kfB).symm) rfl) rfl (Nat.le_of_ble_eq_true rfl) rfl ?_
  refine QG.eqW (Wd' := (wLx rfB (fun j => Option.map (qf [0, 37, 90, 91, 92, 93, 94, 95, 96, 83, 84, 85, 86, 87, 88, 89]) (Option.map (qinv [0, 37, 90, 91, 92, 93, 94, 95, 96, 83, 84, 85, 86, 87, 88, 89]) (kfB j))) (va_rf z) (va_rf tx) A V B L M)) rfl ?_
  rw [qinv_eq [0, 37, 90, 91, 92, 93, 94, 95, 96, 83, 84, 85, 86, 87, 88, 89] kfB]
  show QG X 4 _ _ 986 _ [.int c1] _ ad _ _
  refine QG.aload_n hX (qd K_L_law17 14 rfl) rfl rfl ?_
  refine QG.aload_ns hX (qd K_L_law17 15 rfl) rfl rfl ?_
  refine QG.iload_n hX (qd K_L_law17 16 rfl) rfl rfl ?_
  refine QG.iconst hX (qd K_L_law17 17 rfl) rfl ki_1 ?_
  refine QG.iadd hX (qd K_L_law17 18 rfl) rfl ?_
  refine QG.scld hX hs0 hsl hsA hsb (qd K_L_law17 19 rfl) rfl hi1 hv1 ?_
  refine QG.aload_ns hX (qd K_L_law17 20 rfl) rfl rfl ?_
  refine QG.iload_n hX (qd K_L_law17 21 rfl) rfl rfl ?_
  refine QG.iconst hX (qd K_L_law17 22 rfl) rfl ki_2 ?_
  refine QG.iadd hX (qd K_L_law17 23 rfl) rfl ?_
  refine QG.scld hX hs0 hsl hsA hsb (qd K_L_law17 24 rfl) rfl hi2 hv2 ?_
  refine QG.aload_ns hX (qd K_L_law17 25 rfl) rfl rfl ?_
  refine QG.iload_n hX (qd K_L_law17 26 rfl) rfl rfl ?_
  refine QG.iconst hX (qd K_L_law17 27 rfl) rfl ki_3 ?_
  refine QG.iadd hX (qd K_L_law17 28 rfl) rfl ?_
  refine QG.scld hX hs0 hsl hsA hsb (qd K_L_law17 29 rfl) rfl hi3 hv3 ?_
  refine QG.aload_ns hX (qd K_L_law17 30 rfl) rfl rfl ?_
  refine QG.iload_n hX (qd K_L_law17 31 rfl) rfl rfl ?_
  refine QG.iconst hX (qd K_L_law17 32 rfl) rfl ki_4 ?_
  refine QG.iadd hX (qd K_L_law17 33 rfl) rfl ?_
  refine QG.scld hX hs0 hsl hsA hsb (qd K_L_law17 34 rfl) rfl hi4 hv4 ?_
  refine QG.callVk (rest := [.int c1]) [104, 105, 106, 107, 108, 109, 110, 111, 112, 113, 114, 115, 116, 117, 118, 119, 120, 121, 122, 123, 124, 125, 126, 127, 128, 129, 130, 131, 132, 133, 134, 135, 136, 137] hz2 hX cw_L_129 (M_X8_differs X.l (V 104 0) (A 105) (A 106) (A 107) (A 108) (A 109) (A 110) (A 111) (A 112) (V 104 9) (V 104 10) (A 113) (A 114) (A 115) (A 116) M (A 118) (A 119) (A 120) (A 121) (A 122) (A 123) (A 124) (A 125) (A 126) (A 127) (A 128) (V 104 27) (V 104 28) (A 129) (V 104 30) (V 104 31) (V 104 32) (V 104 33) (V 104 34) (V 104 35) (V 104 36) (A 130) (A 131) (A 132) (A 133) (A 134) (A 135) (V 104 43) (V 104 44) (V 104 45) (V 104 46) (A 136) (A 137) v1 v2 v3 v4) trivial (by decide) (by decide) (qd K_L_law17 35 rfl) rfl hcs rfl rfl rfl rfl (Nat.le_of_ble_eq_true rfl) rfl rfl (Nat.le_of_ble_eq_true rfl) rfl ?_
  refine QG.eqW (Wd' := (wLx rfB kfB (va_rf z) (va_rf tx) A (va_up2 (va_up2 (va_up2 V 104 0 c2.2.1) 104 44 c2.2.2.1) 104 45 c2.2.2.2) B L M)) rfl ?_
  show QG X 4 _ _ 1010 _ [.int c2.1, .int c1] _ ad _ _
  exact QG.ifT (by rw [he]) (QG.icmp_eq (tgt := 1048) (oF := none) hX (qd K_L_law17 36 rfl) rfl (by decide) K QG.nothing)

set_option maxRecDepth 100000 in
set_option maxHeartbeats 4000000 in
theorem C_differs_ok2_ok2 {X : QX} (hX : qok X code RL 4 (some .boolean) 1000) {Q : Unit → State → Prop} {b LL : Nat} {xs : Nat → Int32} (hs0 : va_X b LL xs X.s X.s.heap) (hsl : b < X.s.heap.size) (hsA : ¬ X.A b) (hsb : X.sA 100 = b) {ad : Nat → Nat} {cells slots : Nat} (hcs : cells ≤ X.R.cells ∧ slots ≤ X.R.slots) {A V : Nat → Nat → Int32} {B : Nat → Bool} {L M : Nat → Int64} {z tx : Option Nat} {x3 : Int32} {v1 : Int32} {v2 : Int32} {v3 : Int32} {v4 : Int32} (hi1 : vp_in (x3 + 1) LL) (hv1 : xs (x3 + 1).toNatClampNeg = v1) (hi2 : vp_in (x3 + 2) LL) (hv2 : xs (x3 + 2).toNatClampNeg = v2) (hi3 : vp_in (x3 + 3) LL) (hv3 : xs (x3 + 3).toNatClampNeg = v3) (hi4 : vp_in (x3 + 4) LL) (hv4 : xs (x3 + 4).toNatClampNeg = v4) (h0a : ¬ v1 < 0) (h0b : ¬ 4 ≤ v1) (hj0 : v1.toNatClampNeg = 2) (hm0 : B 90 = true) (h1a : ¬ v2 < 0) (h1b : ¬ 4 ≤ v2) (hj1 : v2.toNatClampNeg = 2) (hm1 : B 90 = true) {c1 : Int32} {c2 : Int32 × Int32 × Int32 × Int32} (hz1 : F_X7_differs_ok_al (V 90 1) (V 90 2) (A 91) (A 92) (A 93) v1 v2 v3 v4 = some c1) (hz2 : F_X8_differs (V 104 0) (A 119) (A 120) (A 121) (A 124) (A 125) (A 126) (V 104 44) (V 104 45) v1 v2 v3 v4 = some c2) (he : c1 = c2.1)
    (K : QG X 4 Q (some ()) 1048 [(0, .float (UInt32.ofNat 100)), (1, .ref 0), (2, .ref 104), (3, .int x3)] [] (wLx rfB kfB (va_rf z) (va_rf tx) A (va_up2 (va_up2 (va_up2 V 104 0 c2.2.1) 104 44 c2.2.2.1) 104 45 c2.2.2.2) B L M) ad cells slots) : QG X 4 Q (some ()) 962 [(0, .float (UInt32.ofNat 100)), (1, .ref 0), (2, .ref 104), (3, .int x3)] [] (wLx rfB kfB (va_rf z) (va_rf tx) A V B L M) ad cells slots := by
  refine QG.aload_n hX (qd K_L_law16 32 rfl) rfl rfl ?_
  refine QG.aload_ns hX (qd K_L_law16 33 rfl) rfl rfl ?_
  refine QG.iload_n hX (qd K_L_law16 34 rfl) rfl rfl ?_
  refine QG.iconst hX (qd K_L_law16 35 rfl) rfl ki_1 ?_
  refine QG.iadd hX (qd K_L_law16 36 rfl) rfl ?_
  refine QG.scld hX hs0 hsl hsA hsb (qd K_L_law16 37 rfl) rfl hi1 hv1 ?_
  refine QG.aload_ns hX (qd K_L_law16 38 rfl) rfl rfl ?_
  refine QG.iload_n hX (qd K_L_law16 39 rfl) rfl rfl ?_
  refine QG.iconst hX (qd K_L_law17 0 rfl) rfl ki_2 ?_
  refine QG.iadd hX (qd K_L_law17 1 rfl) rfl ?_
  refine QG.scld hX hs0 hsl hsA hsb (qd K_L_law17 2 rfl) rfl hi2 hv2 ?_
  refine QG.aload_ns hX (qd K_L_law17 3 rfl) rfl rfl ?_
  refine QG.iload_n hX (qd K_L_law17 4 rfl) rfl rfl ?_
  refine QG.iconst hX (qd K_L_law17 5 rfl) rfl ki_3 ?_
  refine QG.iadd hX (qd K_L_law17 6 rfl) rfl ?_
  refine QG.scld hX hs0 hsl hsA hsb (qd K_L_law17 7 rfl) rfl hi3 hv3 ?_
  refine QG.aload_ns hX (qd K_L_law17 8 rfl) rfl rfl ?_
  refine QG.iload_n hX (qd K_L_law17 9 rfl) rfl rfl ?_
  refine QG.iconst hX (qd K_L_law17 10 rfl) rfl ki_4 ?_
  refine QG.iadd hX (qd K_L_law17 11 rfl) rfl ?_
  refine QG.scld hX hs0 hsl hsA hsb (qd K_L_law17 12 rfl) rfl hi4 hv4 ?_
  refine QG.callVk (rest := []) [0, 37, 90, 91, 92, 93, 94, 95, 96] hz1 hX cw_L_125 (M_X7_differs_ok_al X.l (fun j => Option.map (qinv [0, 37, 90, 91, 92, 93, 94, 95, 96]) (kfB j)) (B 90) (V 90 1) (V 90 2) (V 90 3) (V 90 4) (V 90 5) (A 91) (A 92) (A 93) (A 94) (A 95) (A 96) (V 90 12) v1 v2 v3 v4 h0a h0b (by show Option.map _ (kfB v1.toNatClampNeg) = _; rw [hj0]; rfl) hm0 h1a h1b (by show Option.map _ (kfB v2.toNatClampNeg) = _; rw [hj1]; rfl) hm1) trivial (by decide) (by decide) (qd K_L_law17 13 rfl) rfl hcs rfl rfl rfl rfl (Nat.le_of_ble_eq_true rfl) (Eq.trans (congrArg (fun f => List.map (fun i => (wLx rfB f (va_rf z) (va_rf tx) A V B L M)[i]?) [0, 37, 90, 91, 92, 93, 94, 95, 96]) (qinv_eq [0, 37, 90, 91, 92, 93, 94, 95, 96] kfB).symm) rfl) rfl (Nat.le_of_ble_eq_true rfl) rfl ?_
  refine QG.eqW (Wd' := (wLx rfB (fun j => Option.map (qf [0, 37, 90, 91, 92, 93, 94, 95, 96]) (Option.map (qinv [0, 37, 90, 91, 92, 93, 94, 95, 96]) (kfB j))) (va_rf z) (va_rf tx) A V B L M)) rfl ?_
  rw [qinv_eq [0, 37, 90, 91, 92, 93, 94, 95, 96] kfB]
  show QG X 4 _ _ 986 _ [.int c1] _ ad _ _
  refine QG.aload_n hX (qd K_L_law17 14 rfl) rfl rfl ?_
  refine QG.aload_ns hX (qd K_L_law17 15 rfl) rfl rfl ?_
  refine QG.iload_n hX (qd K_L_law17 16 rfl) rfl rfl ?_
  refine QG.iconst hX (qd K_L_law17 17 rfl) rfl ki_1 ?_
  refine QG.iadd hX (qd K_L_law17 18 rfl) rfl ?_
  refine QG.scld hX hs0 hsl hsA hsb (qd K_L_law17 19 rfl) rfl hi1 hv1 ?_
  refine QG.aload_ns hX (qd K_L_law17 20 rfl) rfl rfl ?_
  refine QG.iload_n hX (qd K_L_law17 21 rfl) rfl rfl ?_
  refine QG.iconst hX (qd K_L_law17 22 rfl) rfl ki_2 ?_
  refine QG.iadd hX (qd K_L_law17 23 rfl) rfl ?_
  refine QG.scld hX hs0 hsl hsA hsb (qd K_L_law17 24 rfl) rfl hi2 hv2 ?_
  refine QG.aload_ns hX (qd K_L_law17 25 rfl) rfl rfl ?_
  refine QG.iload_n hX (qd K_L_law17 26 rfl) rfl rfl ?_
  refine QG.iconst hX (qd K_L_law17 27 rfl) rfl ki_3 ?_
  refine QG.iadd hX (qd K_L_law17 28 rfl) rfl ?_
  refine QG.scld hX hs0 hsl hsA hsb (qd K_L_law17 29 rfl) rfl hi3 hv3 ?_
  refine QG.aload_ns hX (qd K_L_law17 30 rfl) rfl rfl ?_
  refine QG.iload_n hX (qd K_L_law17 31 rfl) rfl rfl ?_
  refine QG.iconst hX (qd K_L_law17 32 rfl) rfl ki_4 ?_
  refine QG.iadd hX (qd K_L_law17 33 rfl) rfl ?_
  refine QG.scld hX hs0 hsl hsA hsb (qd K_L_law17 34 rfl) rfl hi4 hv4 ?_
  refine QG.callVk (rest := [.int c1]) [104, 105, 106, 107, 108, 109, 110, 111, 112, 113, 114, 115, 116, 117, 118, 119, 120, 121, 122, 123, 124, 125, 126, 127, 128, 129, 130, 131, 132, 133, 134, 135, 136, 137] hz2 hX cw_L_129 (M_X8_differs X.l (V 104 0) (A 105) (A 106) (A 107) (A 108) (A 109) (A 110) (A 111) (A 112) (V 104 9) (V 104 10) (A 113) (A 114) (A 115) (A 116) M (A 118) (A 119) (A 120) (A 121) (A 122) (A 123) (A 124) (A 125) (A 126) (A 127) (A 128) (V 104 27) (V 104 28) (A 129) (V 104 30) (V 104 31) (V 104 32) (V 104 33) (V 104 34) (V 104 35) (V 104 36) (A 130) (A 131) (A 132) (A 133) (A 134) (A 135) (V 104 43) (V 104 44) (V 104 45) (V 104 46) (A 136) (A 137) v1 v2 v3 v4) trivial (by decide) (by decide) (qd K_L_law17 35 rfl) rfl hcs rfl rfl rfl rfl (Nat.le_of_ble_eq_true rfl) rfl rfl (Nat.le_of_ble_eq_true rfl) rfl ?_
  refine QG.eqW (Wd' := (wLx rfB kfB (va_rf z) (va_rf tx) A (va_up2 (va_up2 (va_up2 V 104 0 c2.2.1) 104 44 c2.2.2.1) 104 45 c2.2.2.2) B L M)) rfl ?_
  show QG X 4 _ _ 1010 _ [.int c2.1, .int c1] _ ad _ _
  exact QG.ifT (by rw [he]) (QG.icmp_eq (tgt := 1048) (oF := none) hX (qd K_L_law17 36 rfl) rfl (by decide) K QG.nothing)

set_option maxRecDepth 100000 in
set_option maxHeartbeats 4000000 in
theorem C_differs_ok2_ok3 {X : QX} (hX : qok X code RL 4 (some .boolean) 1000) {Q : Unit → State → Prop} {b LL : Nat} {xs : Nat → Int32} (hs0 : va_X b LL xs X.s X.s.heap) (hsl : b < X.s.heap.size) (hsA : ¬ X.A b) (hsb : X.sA 100 = b) {ad : Nat → Nat} {cells slots : Nat} (hcs : cells ≤ X.R.cells ∧ slots ≤ X.R.slots) {A V : Nat → Nat → Int32} {B : Nat → Bool} {L M : Nat → Int64} {z tx : Option Nat} {x3 : Int32} {v1 : Int32} {v2 : Int32} {v3 : Int32} {v4 : Int32} (hi1 : vp_in (x3 + 1) LL) (hv1 : xs (x3 + 1).toNatClampNeg = v1) (hi2 : vp_in (x3 + 2) LL) (hv2 : xs (x3 + 2).toNatClampNeg = v2) (hi3 : vp_in (x3 + 3) LL) (hv3 : xs (x3 + 3).toNatClampNeg = v3) (hi4 : vp_in (x3 + 4) LL) (hv4 : xs (x3 + 4).toNatClampNeg = v4) (h0a : ¬ v1 < 0) (h0b : ¬ 4 ≤ v1) (hj0 : v1.toNatClampNeg = 2) (hm0 : B 90 = true) (h1a : ¬ v2 < 0) (h1b : ¬ 4 ≤ v2) (hj1 : v2.toNatClampNeg = 3) (hm1 : B 97 = true) {c1 : Int32} {c2 : Int32 × Int32 × Int32 × Int32} (hz1 : F_X7_differs_ok_ok (V 90 1) (V 90 2) (A 91) (A 92) (A 93) (V 97 1) (V 97 2) (A 98) (A 99) (A 100) v1 v2 v3 v4 = some c1) (hz2 : F_X8_differs (V 104 0) (A 119) (A 120) (A 121) (A 124) (A 125) (A 126) (V 104 44) (V 104 45) v1 v2 v3 v4 = some c2) (he : c1 = c2.1)
    (K : QG X 4 Q (some ()) 1048 [(0, .float (UInt32.ofNat 100)), (1, .ref 0), (2, .ref 104), (3, .int x3)] [] (wLx rfB kfB (va_rf z) (va_rf tx) A (va_up2 (va_up2 (va_up2 V 104 0 c2.2.1) 104 44 c2.2.2.1) 104 45 c2.2.2.2) B L M) ad cells slots) : QG X 4 Q (some ()) 962 [(0, .float (UInt32.ofNat 100)), (1, .ref 0), (2, .ref 104), (3, .int x3)] [] (wLx rfB kfB (va_rf z) (va_rf tx) A V B L M) ad cells slots := by
  refine QG.aload_n hX (qd K_L_law16 32 rfl) rfl rfl ?_
  refine QG.aload_ns hX (qd K_L_law16 33 rfl) rfl rfl ?_
  refine QG.iload_n hX (qd K_L_law16 34 rfl) rfl rfl ?_
  refine QG.iconst hX (qd K_L_law16 35 rfl) rfl ki_1 ?_
  refine QG.iadd hX (qd K_L_law16 36 rfl) rfl ?_
  refine QG.scld hX hs0 hsl hsA hsb (qd K_L_law16 37 rfl) rfl hi1 hv1 ?_
  refine QG.aload_ns hX (qd K_L_law16 38 rfl) rfl rfl ?_
  refine QG.iload_n hX (qd K_L_law16 39 rfl) rfl rfl ?_
  refine QG.iconst hX (qd K_L_law17 0 rfl) rfl ki_2 ?_
  refine QG.iadd hX (qd K_L_law17 1 rfl) rfl ?_
  refine QG.scld hX hs0 hsl hsA hsb (qd K_L_law17 2 rfl) rfl hi2 hv2 ?_
  refine QG.aload_ns hX (qd K_L_law17 3 rfl) rfl rfl ?_
  refine QG.iload_n hX (qd K_L_law17 4 rfl) rfl rfl ?_
  refine QG.iconst hX (qd K_L_law17 5 rfl) rfl ki_3 ?_
  refine QG.iadd hX (qd K_L_law17 6 rfl) rfl ?_
  refine QG.scld hX hs0 hsl hsA hsb (qd K_L_law17 7 rfl) rfl hi3 hv3 ?_
  refine QG.aload_ns hX (qd K_L_law17 8 rfl) rfl rfl ?_
  refine QG.iload_n hX (qd K_L_law17 9 rfl) rfl rfl ?_
  refine QG.iconst hX (qd K_L_law17 10 rfl) rfl ki_4 ?_
  refine QG.iadd hX (qd K_L_law17 11 rfl) rfl ?_
  refine QG.scld hX hs0 hsl hsA hsb (qd K_L_law17 12 rfl) rfl hi4 hv4 ?_
  refine QG.callVk (rest := []) [0, 37, 90, 91, 92, 93, 94, 95, 96, 97, 98, 99, 100, 101, 102, 103] hz1 hX cw_L_125 (M_X7_differs_ok_ok X.l (fun j => Option.map (qinv [0, 37, 90, 91, 92, 93, 94, 95, 96, 97, 98, 99, 100, 101, 102, 103]) (kfB j)) (B 90) (V 90 1) (V 90 2) (V 90 3) (V 90 4) (V 90 5) (A 91) (A 92) (A 93) (A 94) (A 95) (A 96) (V 90 12) (B 97) (V 97 1) (V 97 2) (V 97 3) (V 97 4) (V 97 5) (A 98) (A 99) (A 100) (A 101) (A 102) (A 103) (V 97 12) v1 v2 v3 v4 h0a h0b (by show Option.map _ (kfB v1.toNatClampNeg) = _; rw [hj0]; rfl) hm0 h1a h1b (by show Option.map _ (kfB v2.toNatClampNeg) = _; rw [hj1]; rfl) hm1) trivial (by decide) (by decide) (qd K_L_law17 13 rfl) rfl hcs rfl rfl rfl rfl (Nat.le_of_ble_eq_true rfl) (Eq.trans (congrArg (fun f => List.map (fun i => (wLx rfB f (va_rf z) (va_rf tx) A V B L M)[i]?) [0, 37, 90, 91, 92, 93, 94, 95, 96, 97, 98, 99, 100, 101, 102, 103]) (qinv_eq [0, 37, 90, 91, 92, 93, 94, 95, 96, 97, 98, 99, 100, 101, 102, 103] kfB).symm) rfl) rfl (Nat.le_of_ble_eq_true rfl) rfl ?_
  refine QG.eqW (Wd' := (wLx rfB (fun j => Option.map (qf [0, 37, 90, 91, 92, 93, 94, 95, 96, 97, 98, 99, 100, 101, 102, 103]) (Option.map (qinv [0, 37, 90, 91, 92, 93, 94, 95, 96, 97, 98, 99, 100, 101, 102, 103]) (kfB j))) (va_rf z) (va_rf tx) A V B L M)) rfl ?_
  rw [qinv_eq [0, 37, 90, 91, 92, 93, 94, 95, 96, 97, 98, 99, 100, 101, 102, 103] kfB]
  show QG X 4 _ _ 986 _ [.int c1] _ ad _ _
  refine QG.aload_n hX (qd K_L_law17 14 rfl) rfl rfl ?_
  refine QG.aload_ns hX (qd K_L_law17 15 rfl) rfl rfl ?_
  refine QG.iload_n hX (qd K_L_law17 16 rfl) rfl rfl ?_
  refine QG.iconst hX (qd K_L_law17 17 rfl) rfl ki_1 ?_
  refine QG.iadd hX (qd K_L_law17 18 rfl) rfl ?_
  refine QG.scld hX hs0 hsl hsA hsb (qd K_L_law17 19 rfl) rfl hi1 hv1 ?_
  refine QG.aload_ns hX (qd K_L_law17 20 rfl) rfl rfl ?_
  refine QG.iload_n hX (qd K_L_law17 21 rfl) rfl rfl ?_
  refine QG.iconst hX (qd K_L_law17 22 rfl) rfl ki_2 ?_
  refine QG.iadd hX (qd K_L_law17 23 rfl) rfl ?_
  refine QG.scld hX hs0 hsl hsA hsb (qd K_L_law17 24 rfl) rfl hi2 hv2 ?_
  refine QG.aload_ns hX (qd K_L_law17 25 rfl) rfl rfl ?_
  refine QG.iload_n hX (qd K_L_law17 26 rfl) rfl rfl ?_
  refine QG.iconst hX (qd K_L_law17 27 rfl) rfl ki_3 ?_
  refine QG.iadd hX (qd K_L_law17 28 rfl) rfl ?_
  refine QG.scld hX hs0 hsl hsA hsb (qd K_L_law17 29 rfl) rfl hi3 hv3 ?_
  refine QG.aload_ns hX (qd K_L_law17 30 rfl) rfl rfl ?_
  refine QG.iload_n hX (qd K_L_law17 31 rfl) rfl rfl ?_
  refine QG.iconst hX (qd K_L_law17 32 rfl) rfl ki_4 ?_
  refine QG.iadd hX (qd K_L_law17 33 rfl) rfl ?_
  refine QG.scld hX hs0 hsl hsA hsb (qd K_L_law17 34 rfl) rfl hi4 hv4 ?_
  refine QG.callVk (rest := [.int c1]) [104, 105, 106, 107, 108, 109, 110, 111, 112, 113, 114, 115, 116, 117, 118, 119, 120, 121, 122, 123, 124, 125, 126, 127, 128, 129, 130, 131, 132, 133, 134, 135, 136, 137] hz2 hX cw_L_129 (M_X8_differs X.l (V 104 0) (A 105) (A 106) (A 107) (A 108) (A 109) (A 110) (A 111) (A 112) (V 104 9) (V 104 10) (A 113) (A 114) (A 115) (A 116) M (A 118) (A 119) (A 120) (A 121) (A 122) (A 123) (A 124) (A 125) (A 126) (A 127) (A 128) (V 104 27) (V 104 28) (A 129) (V 104 30) (V 104 31) (V 104 32) (V 104 33) (V 104 34) (V 104 35) (V 104 36) (A 130) (A 131) (A 132) (A 133) (A 134) (A 135) (V 104 43) (V 104 44) (V 104 45) (V 104 46) (A 136) (A 137) v1 v2 v3 v4) trivial (by decide) (by decide) (qd K_L_law17 35 rfl) rfl hcs rfl rfl rfl rfl (Nat.le_of_ble_eq_true rfl) rfl rfl (Nat.le_of_ble_eq_true rfl) rfl ?_
  refine QG.eqW (Wd' := (wLx rfB kfB (va_rf z) (va_rf tx) A (va_up2 (va_up2 (va_up2 V 104 0 c2.2.1) 104 44 c2.2.2.1) 104 45 c2.2.2.2) B L M)) rfl ?_
  show QG X 4 _ _ 1010 _ [.int c2.1, .int c1] _ ad _ _
  exact QG.ifT (by rw [he]) (QG.icmp_eq (tgt := 1048) (oF := none) hX (qd K_L_law17 36 rfl) rfl (by decide) K QG.nothing)

set_option maxRecDepth 100000 in
set_option maxHeartbeats 4000000 in
theorem C_differs_ok3_ok0 {X : QX} (hX : qok X code RL 4 (some .boolean) 1000) {Q : Unit → State → Prop} {b LL : Nat} {xs : Nat → Int32} (hs0 : va_X b LL xs X.s X.s.heap) (hsl : b < X.s.heap.size) (hsA : ¬ X.A b) (hsb : X.sA 100 = b) {ad : Nat → Nat} {cells slots : Nat} (hcs : cells ≤ X.R.cells ∧ slots ≤ X.R.slots) {A V : Nat → Nat → Int32} {B : Nat → Bool} {L M : Nat → Int64} {z tx : Option Nat} {x3 : Int32} {v1 : Int32} {v2 : Int32} {v3 : Int32} {v4 : Int32} (hi1 : vp_in (x3 + 1) LL) (hv1 : xs (x3 + 1).toNatClampNeg = v1) (hi2 : vp_in (x3 + 2) LL) (hv2 : xs (x3 + 2).toNatClampNeg = v2) (hi3 : vp_in (x3 + 3) LL) (hv3 : xs (x3 + 3).toNatClampNeg = v3) (hi4 : vp_in (x3 + 4) LL) (hv4 : xs (x3 + 4).toNatClampNeg = v4) (h0a : ¬ v1 < 0) (h0b : ¬ 4 ≤ v1) (hj0 : v1.toNatClampNeg = 3) (hm0 : B 97 = true) (h1a : ¬ v2 < 0) (h1b : ¬ 4 ≤ v2) (hj1 : v2.toNatClampNeg = 0) (hm1 : B 76 = true) {c1 : Int32} {c2 : Int32 × Int32 × Int32 × Int32} (hz1 : F_X7_differs_ok_ok (V 97 1) (V 97 2) (A 98) (A 99) (A 100) (V 76 1) (V 76 2) (A 77) (A 78) (A 79) v1 v2 v3 v4 = some c1) (hz2 : F_X8_differs (V 104 0) (A 119) (A 120) (A 121) (A 124) (A 125) (A 126) (V 104 44) (V 104 45) v1 v2 v3 v4 = some c2) (he : c1 = c2.1)
    (K : QG X 4 Q (some ()) 1048 [(0, .float (UInt32.ofNat 100)), (1, .ref 0), (2, .ref 104), (3, .int x3)] [] (wLx rfB kfB (va_rf z) (va_rf tx) A (va_up2 (va_up2 (va_up2 V 104 0 c2.2.1) 104 44 c2.2.2.1) 104 45 c2.2.2.2) B L M) ad cells slots) : QG X 4 Q (some ()) 962 [(0, .float (UInt32.ofNat 100)), (1, .ref 0), (2, .ref 104), (3, .int x3)] [] (wLx rfB kfB (va_rf z) (va_rf tx) A V B L M) ad cells slots := by
  refine QG.aload_n hX (qd K_L_law16 32 rfl) rfl rfl ?_
  refine QG.aload_ns hX (qd K_L_law16 33 rfl) rfl rfl ?_
  refine QG.iload_n hX (qd K_L_law16 34 rfl) rfl rfl ?_
  refine QG.iconst hX (qd K_L_law16 35 rfl) rfl ki_1 ?_
  refine QG.iadd hX (qd K_L_law16 36 rfl) rfl ?_
  refine QG.scld hX hs0 hsl hsA hsb (qd K_L_law16 37 rfl) rfl hi1 hv1 ?_
  refine QG.aload_ns hX (qd K_L_law16 38 rfl) rfl rfl ?_
  refine QG.iload_n hX (qd K_L_law16 39 rfl) rfl rfl ?_
  refine QG.iconst hX (qd K_L_law17 0 rfl) rfl ki_2 ?_
  refine QG.iadd hX (qd K_L_law17 1 rfl) rfl ?_
  refine QG.scld hX hs0 hsl hsA hsb (qd K_L_law17 2 rfl) rfl hi2 hv2 ?_
  refine QG.aload_ns hX (qd K_L_law17 3 rfl) rfl rfl ?_
  refine QG.iload_n hX (qd K_L_law17 4 rfl) rfl rfl ?_
  refine QG.iconst hX (qd K_L_law17 5 rfl) rfl ki_3 ?_
  refine QG.iadd hX (qd K_L_law17 6 rfl) rfl ?_
  refine QG.scld hX hs0 hsl hsA hsb (qd K_L_law17 7 rfl) rfl hi3 hv3 ?_
  refine QG.aload_ns hX (qd K_L_law17 8 rfl) rfl rfl ?_
  refine QG.iload_n hX (qd K_L_law17 9 rfl) rfl rfl ?_
  refine QG.iconst hX (qd K_L_law17 10 rfl) rfl ki_4 ?_
  refine QG.iadd hX (qd K_L_law17 11 rfl) rfl ?_
  refine QG.scld hX hs0 hsl hsA hsb (qd K_L_law17 12 rfl) rfl hi4 hv4 ?_
  refine QG.callVk (rest := []) [0, 37, 97, 98, 99, 100, 101, 102, 103, 76, 77, 78, 79, 80, 81, 82] hz1 hX cw_L_125 (M_X7_differs_ok_ok X.l (fun j => Option.map (qinv [0, 37, 97, 98, 99, 100, 101, 102, 103, 76, 77, 78, 79, 80, 81, 82]) (kfB j)) (B 97) (V 97 1) (V 97 2) (V 97 3) (V 97 4) (V 97 5) (A 98) (A 99) (A 100) (A 101) (A 102) (A 103) (V 97 12) (B 76) (V 76 1) (V 76 2) (V 76 3) (V 76 4) (V 76 5) (A 77) (A 78) (A 79) (A 80) (A 81) (A 82) (V 76 12) v1 v2 v3 v4 h0a h0b (by show Option.map _ (kfB v1.toNatClampNeg) = _; rw [hj0]; rfl) hm0 h1a h1b (by show Option.map _ (kfB v2.toNatClampNeg) = _; rw [hj1]; rfl) hm1) trivial (by decide) (by decide) (qd K_L_law17 13 rfl) rfl hcs rfl rfl rfl rfl (Nat.le_of_ble_eq_true rfl) (Eq.trans (congrArg (fun f => List.map (fun i => (wLx rfB f (va_rf z) (va_rf tx) A V B L M)[i]?) [0, 37, 97, 98, 99, 100, 101, 102, 103, 76, 77, 78, 79, 80, 81, 82]) (qinv_eq [0, 37, 97, 98, 99, 100, 101, 102, 103, 76, 77, 78, 79, 80, 81, 82] kfB).symm) rfl) rfl (Nat.le_of_ble_eq_true rfl) rfl ?_
  refine QG.eqW (Wd' := (wLx rfB (fun j => Option.map (qf [0, 37, 97, 98, 99, 100, 101, 102, 103, 76, 77, 78, 79, 80, 81, 82]) (Option.map (qinv [0, 37, 97, 98, 99, 100, 101, 102, 103, 76, 77, 78, 79, 80, 81, 82]) (kfB j))) (va_rf z) (va_rf tx) A V B L M)) rfl ?_
  rw [qinv_eq [0, 37, 97, 98, 99, 100, 101, 102, 103, 76, 77, 78, 79, 80, 81, 82] kfB]
  show QG X 4 _ _ 986 _ [.int c1] _ ad _ _
  refine QG.aload_n hX (qd K_L_law17 14 rfl) rfl rfl ?_
  refine QG.aload_ns hX (qd K_L_law17 15 rfl) rfl rfl ?_
  refine QG.iload_n hX (qd K_L_law17 16 rfl) rfl rfl ?_
  refine QG.iconst hX (qd K_L_law17 17 rfl) rfl ki_1 ?_
  refine QG.iadd hX (qd K_L_law17 18 rfl) rfl ?_
  refine QG.scld hX hs0 hsl hsA hsb (qd K_L_law17 19 rfl) rfl hi1 hv1 ?_
  refine QG.aload_ns hX (qd K_L_law17 20 rfl) rfl rfl ?_
  refine QG.iload_n hX (qd K_L_law17 21 rfl) rfl rfl ?_
  refine QG.iconst hX (qd K_L_law17 22 rfl) rfl ki_2 ?_
  refine QG.iadd hX (qd K_L_law17 23 rfl) rfl ?_
  refine QG.scld hX hs0 hsl hsA hsb (qd K_L_law17 24 rfl) rfl hi2 hv2 ?_
  refine QG.aload_ns hX (qd K_L_law17 25 rfl) rfl rfl ?_
  refine QG.iload_n hX (qd K_L_law17 26 rfl) rfl rfl ?_
  refine QG.iconst hX (qd K_L_law17 27 rfl) rfl ki_3 ?_
  refine QG.iadd hX (qd K_L_law17 28 rfl) rfl ?_
  refine QG.scld hX hs0 hsl hsA hsb (qd K_L_law17 29 rfl) rfl hi3 hv3 ?_
  refine QG.aload_ns hX (qd K_L_law17 30 rfl) rfl rfl ?_
  refine QG.iload_n hX (qd K_L_law17 31 rfl) rfl rfl ?_
  refine QG.iconst hX (qd K_L_law17 32 rfl) rfl ki_4 ?_
  refine QG.iadd hX (qd K_L_law17 33 rfl) rfl ?_
  refine QG.scld hX hs0 hsl hsA hsb (qd K_L_law17 34 rfl) rfl hi4 hv4 ?_
  refine QG.callVk (rest := [.int c1]) [104, 105, 106, 107, 108, 109, 110, 111, 112, 113, 114, 115, 116, 117, 118, 119, 120, 121, 122, 123, 124, 125, 126, 127, 128, 129, 130, 131, 132, 133, 134, 135, 136, 137] hz2 hX cw_L_129 (M_X8_differs X.l (V 104 0) (A 105) (A 106) (A 107) (A 108) (A 109) (A 110) (A 111) (A 112) (V 104 9) (V 104 10) (A 113) (A 114) (A 115) (A 116) M (A 118) (A 119) (A 120) (A 121) (A 122) (A 123) (A 124) (A 125) (A 126) (A 127) (A 128) (V 104 27) (V 104 28) (A 129) (V 104 30) (V 104 31) (V 104 32) (V 104 33) (V 104 34) (V 104 35) (V 104 36) (A 130) (A 131) (A 132) (A 133) (A 134) (A 135) (V 104 43) (V 104 44) (V 104 45) (V 104 46) (A 136) (A 137) v1 v2 v3 v4) trivial (by decide) (by decide) (qd K_L_law17 35 rfl) rfl hcs rfl rfl rfl rfl (Nat.le_of_ble_eq_true rfl) rfl rfl (Nat.le_of_ble_eq_true rfl) rfl ?_
  refine QG.eqW (Wd' := (wLx rfB kfB (va_rf z) (va_rf tx) A (va_up2 (va_up2 (va_up2 V 104 0 c2.2.1) 104 44 c2.2.2.1) 104 45 c2.2.2.2) B L M)) rfl ?_
  show QG X 4 _ _ 1010 _ [.int c2.1, .int c1] _ ad _ _
  exact QG.ifT (by rw [he]) (QG.icmp_eq (tgt := 1048) (oF := none) hX (qd K_L_law17 36 rfl) rfl (by decide) K QG.nothing)

set_option maxRecDepth 100000 in
set_option maxHeartbeats 4000000 in
theorem C_differs_ok3_ok1 {X : QX} (hX : qok X code RL 4 (some .boolean) 1000) {Q : Unit → State → Prop} {b LL : Nat} {xs : Nat → Int32} (hs0 : va_X b LL xs X.s X.s.heap) (hsl : b < X.s.heap.size) (hsA : ¬ X.A b) (hsb : X.sA 100 = b) {ad : Nat → Nat} {cells slots : Nat} (hcs : cells ≤ X.R.cells ∧ slots ≤ X.R.slots) {A V : Nat → Nat → Int32} {B : Nat → Bool} {L M : Nat → Int64} {z tx : Option Nat} {x3 : Int32} {v1 : Int32} {v2 : Int32} {v3 : Int32} {v4 : Int32} (hi1 : vp_in (x3 + 1) LL) (hv1 : xs (x3 + 1).toNatClampNeg = v1) (hi2 : vp_in (x3 + 2) LL) (hv2 : xs (x3 + 2).toNatClampNeg = v2) (hi3 : vp_in (x3 + 3) LL) (hv3 : xs (x3 + 3).toNatClampNeg = v3) (hi4 : vp_in (x3 + 4) LL) (hv4 : xs (x3 + 4).toNatClampNeg = v4) (h0a : ¬ v1 < 0) (h0b : ¬ 4 ≤ v1) (hj0 : v1.toNatClampNeg = 3) (hm0 : B 97 = true) (h1a : ¬ v2 < 0) (h1b : ¬ 4 ≤ v2) (hj1 : v2.toNatClampNeg = 1) (hm1 : B 83 = true) {c1 : Int32} {c2 : Int32 × Int32 × Int32 × Int32} (hz1 : F_X7_differs_ok_ok (V 97 1) (V 97 2) (A 98) (A 99) (A 100) (V 83 1) (V 83 2) (A 84) (A 85) (A 86) v1 v2 v3 v4 = some c1) (hz2 : F_X8_differs (V 104 0) (A 119) (A 120) (A 121) (A 124) (A 125) (A 126) (V 104 44) (V 104 45) v1 v2 v3 v4 = some c2) (he : c1 = c2.1)
    (K : QG X 4 Q (some ()) 1048 [(0, .float (UInt32.ofNat 100)), (1, .ref 0), (2, .ref 104), (3, .int x3)] [] (wLx rfB kfB (va_rf z) (va_rf tx) A (va_up2 (va_up2 (va_up2 V 104 0 c2.2.1) 104 44 c2.2.2.1) 104 45 c2.2.2.2) B L M) ad cells slots) : QG X 4 Q (some ()) 962 [(0, .float (UInt32.ofNat 100)), (1, .ref 0), (2, .ref 104), (3, .int x3)] [] (wLx rfB kfB (va_rf z) (va_rf tx) A V B L M) ad cells slots := by
  refine QG.aload_n hX (qd K_L_law16 32 rfl) rfl rfl ?_
  refine QG.aload_ns hX (qd K_L_law16 33 rfl) rfl rfl ?_
  refine QG.iload_n hX (qd K_L_law16 34 rfl) rfl rfl ?_
  refine QG.iconst hX (qd K_L_law16 35 rfl) rfl ki_1 ?_
  refine QG.iadd hX (qd K_L_law16 36 rfl) rfl ?_
  refine QG.scld hX hs0 hsl hsA hsb (qd K_L_law16 37 rfl) rfl hi1 hv1 ?_
  refine QG.aload_ns hX (qd K_L_law16 38 rfl) rfl rfl ?_
  refine QG.iload_n hX (qd K_L_law16 39 rfl) rfl rfl ?_
  refine QG.iconst hX (qd K_L_law17 0 rfl) rfl ki_2 ?_
  refine QG.iadd hX (qd K_L_law17 1 rfl) rfl ?_
  refine QG.scld hX hs0 hsl hsA hsb (qd K_L_law17 2 rfl) rfl hi2 hv2 ?_
  refine QG.aload_ns hX (qd K_L_law17 3 rfl) rfl rfl ?_
  refine QG.iload_n hX (qd K_L_law17 4 rfl) rfl rfl ?_
  refine QG.iconst hX (qd K_L_law17 5 rfl) rfl ki_3 ?_
  refine QG.iadd hX (qd K_L_law17 6 rfl) rfl ?_
  refine QG.scld hX hs0 hsl hsA hsb (qd K_L_law17 7 rfl) rfl hi3 hv3 ?_
  refine QG.aload_ns hX (qd K_L_law17 8 rfl) rfl rfl ?_
  refine QG.iload_n hX (qd K_L_law17 9 rfl) rfl rfl ?_
  refine QG.iconst hX (qd K_L_law17 10 rfl) rfl ki_4 ?_
  refine QG.iadd hX (qd K_L_law17 11 rfl) rfl ?_
  refine QG.scld hX hs0 hsl hsA hsb (qd K_L_law17 12 rfl) rfl hi4 hv4 ?_
  refine QG.callVk (rest := []) [0, 37, 97, 98, 99, 100, 101, 102, 103, 83, 84, 85, 86, 87, 88, 89] hz1 hX cw_L_125 (M_X7_differs_ok_ok X.l (fun j => Option.map (qinv [0, 37, 97, 98, 99, 100, 101, 102, 103, 83, 84, 85, 86, 87, 88, 89]) (kfB j)) (B 97) (V 97 1) (V 97 2) (V 97 3) (V 97 4) (V 97 5) (A 98) (A 99) (A 100) (A 101) (A 102) (A 103) (V 97 12) (B 83) (V 83 1) (V 83 2) (V 83 3) (V 83 4) (V 83 5) (A 84) (A 85) (A 86) (A 87) (A 88) (A 89) (V 83 12) v1 v2 v3 v4 h0a h0b (by show Option.map _ (kfB v1.toNatClampNeg) = _; rw [hj0]; rfl) hm0 h1a h1b (by show Option.map _ (kfB v2.toNatClampNeg) = _; rw [hj1]; rfl) hm1) trivial (by decide) (by decide) (qd K_L_law17 13 rfl) rfl hcs rfl rfl rfl rfl (Nat.le_of_ble_eq_true rfl) (Eq.trans (congrArg (fun f => List.map (fun i => (wLx rfB f (va_rf z) (va_rf tx) A V B L M)[i]?) [0, 37, 97, 98, 99, 100, 101, 102, 103, 83, 84, 85, 86, 87, 88, 89]) (qinv_eq [0, 37, 97, 98, 99, 100, 101, 102, 103, 83, 84, 85, 86, 87, 88, 89] kfB).symm) rfl) rfl (Nat.le_of_ble_eq_true rfl) rfl ?_
  refine QG.eqW (Wd' := (wLx rfB (fun j => Option.map (qf [0, 37, 97, 98, 99, 100, 101, 102, 103, 83, 84, 85, 86, 87, 88, 89]) (Option.map (qinv [0, 37, 97, 98, 99, 100, 101, 102, 103, 83, 84, 85, 86, 87, 88, 89]) (kfB j))) (va_rf z) (va_rf tx) A V B L M)) rfl ?_
  rw [qinv_eq [0, 37, 97, 98, 99, 100, 101, 102, 103, 83, 84, 85, 86, 87, 88, 89] kfB]
  show QG X 4 _ _ 986 _ [.int c1] _ ad _ _
  refine QG.aload_n hX (qd K_L_law17 14 rfl) rfl rfl ?_
  refine QG.aload_ns hX (qd K_L_law17 15 rfl) rfl rfl ?_
  refine QG.iload_n hX (qd K_L_law17 16 rfl) rfl rfl ?_
  refine QG.iconst hX (qd K_L_law17 17 rfl) rfl ki_1 ?_
  refine QG.iadd hX (qd K_L_law17 18 rfl) rfl ?_
  refine QG.scld hX hs0 hsl hsA hsb (qd K_L_law17 19 rfl) rfl hi1 hv1 ?_
  refine QG.aload_ns hX (qd K_L_law17 20 rfl) rfl rfl ?_
  refine QG.iload_n hX (qd K_L_law17 21 rfl) rfl rfl ?_
  refine QG.iconst hX (qd K_L_law17 22 rfl) rfl ki_2 ?_
  refine QG.iadd hX (qd K_L_law17 23 rfl) rfl ?_
  refine QG.scld hX hs0 hsl hsA hsb (qd K_L_law17 24 rfl) rfl hi2 hv2 ?_
  refine QG.aload_ns hX (qd K_L_law17 25 rfl) rfl rfl ?_
  refine QG.iload_n hX (qd K_L_law17 26 rfl) rfl rfl ?_
  refine QG.iconst hX (qd K_L_law17 27 rfl) rfl ki_3 ?_
  refine QG.iadd hX (qd K_L_law17 28 rfl) rfl ?_
  refine QG.scld hX hs0 hsl hsA hsb (qd K_L_law17 29 rfl) rfl hi3 hv3 ?_
  refine QG.aload_ns hX (qd K_L_law17 30 rfl) rfl rfl ?_
  refine QG.iload_n hX (qd K_L_law17 31 rfl) rfl rfl ?_
  refine QG.iconst hX (qd K_L_law17 32 rfl) rfl ki_4 ?_
  refine QG.iadd hX (qd K_L_law17 33 rfl) rfl ?_
  refine QG.scld hX hs0 hsl hsA hsb (qd K_L_law17 34 rfl) rfl hi4 hv4 ?_
  refine QG.callVk (rest := [.int c1]) [104, 105, 106, 107, 108, 109, 110, 111, 112, 113, 114, 115, 116, 117, 118, 119, 120, 121, 122, 123, 124, 125, 126, 127, 128, 129, 130, 131, 132, 133, 134, 135, 136, 137] hz2 hX cw_L_129 (M_X8_differs X.l (V 104 0) (A 105) (A 106) (A 107) (A 108) (A 109) (A 110) (A 111) (A 112) (V 104 9) (V 104 10) (A 113) (A 114) (A 115) (A 116) M (A 118) (A 119) (A 120) (A 121) (A 122) (A 123) (A 124) (A 125) (A 126) (A 127) (A 128) (V 104 27) (V 104 28) (A 129) (V 104 30) (V 104 31) (V 104 32) (V 104 33) (V 104 34) (V 104 35) (V 104 36) (A 130) (A 131) (A 132) (A 133) (A 134) (A 135) (V 104 43) (V 104 44) (V 104 45) (V 104 46) (A 136) (A 137) v1 v2 v3 v4) trivial (by decide) (by decide) (qd K_L_law17 35 rfl) rfl hcs rfl rfl rfl rfl (Nat.le_of_ble_eq_true rfl) rfl rfl (Nat.le_of_ble_eq_true rfl) rfl ?_
  refine QG.eqW (Wd' := (wLx rfB kfB (va_rf z) (va_rf tx) A (va_up2 (va_up2 (va_up2 V 104 0 c2.2.1) 104 44 c2.2.2.1) 104 45 c2.2.2.2) B L M)) rfl ?_
  show QG X 4 _ _ 1010 _ [.int c2.1, .int c1] _ ad _ _
  exact QG.ifT (by rw [he]) (QG.icmp_eq (tgt := 1048) (oF := none) hX (qd K_L_law17 36 rfl) rfl (by decide) K QG.nothing)

set_option maxRecDepth 100000 in
set_option maxHeartbeats 4000000 in
theorem C_differs_ok3_ok2 {X : QX} (hX : qok X code RL 4 (some .boolean) 1000) {Q : Unit → State → Prop} {b LL : Nat} {xs : Nat → Int32} (hs0 : va_X b LL xs X.s X.s.heap) (hsl : b < X.s.heap.size) (hsA : ¬ X.A b) (hsb : X.sA 100 = b) {ad : Nat → Nat} {cells slots : Nat} (hcs : cells ≤ X.R.cells ∧ slots ≤ X.R.slots) {A V : Nat → Nat → Int32} {B : Nat → Bool} {L M : Nat → Int64} {z tx : Option Nat} {x3 : Int32} {v1 : Int32} {v2 : Int32} {v3 : Int32} {v4 : Int32} (hi1 : vp_in (x3 + 1) LL) (hv1 : xs (x3 + 1).toNatClampNeg = v1) (hi2 : vp_in (x3 + 2) LL) (hv2 : xs (x3 + 2).toNatClampNeg = v2) (hi3 : vp_in (x3 + 3) LL) (hv3 : xs (x3 + 3).toNatClampNeg = v3) (hi4 : vp_in (x3 + 4) LL) (hv4 : xs (x3 + 4).toNatClampNeg = v4) (h0a : ¬ v1 < 0) (h0b : ¬ 4 ≤ v1) (hj0 : v1.toNatClampNeg = 3) (hm0 : B 97 = true) (h1a : ¬ v2 < 0) (h1b : ¬ 4 ≤ v2) (hj1 : v2.toNatClampNeg = 2) (hm1 : B 90 = true) {c1 : Int32} {c2 : Int32 × Int32 × Int32 × Int32} (hz1 : F_X7_differs_ok_ok (V 97 1) (V 97 2) (A 98) (A 99) (A 100) (V 90 1) (V 90 2) (A 91) (A 92) (A 93) v1 v2 v3 v4 = some c1) (hz2 : F_X8_differs (V 104 0) (A 119) (A 120) (A 121) (A 124) (A 125) (A 126) (V 104 44) (V 104 45) v1 v2 v3 v4 = some c2) (he : c1 = c2.1)
    (K : QG X 4 Q (some ()) 1048 [(0, .float (UInt32.ofNat 100)), (1, .ref 0), (2, .ref 104), (3, .int x3)] [] (wLx rfB kfB (va_rf z) (va_rf tx) A (va_up2 (va_up2 (va_up2 V 104 0 c2.2.1) 104 44 c2.2.2.1) 104 45 c2.2.2.2) B L M) ad cells slots) : QG X 4 Q (some ()) 962 [(0, .float (UInt32.ofNat 100)), (1, .ref 0), (2, .ref 104), (3, .int x3)] [] (wLx rfB kfB (va_rf z) (va_rf tx) A V B L M) ad cells slots := by
  refine QG.aload_n hX (qd K_L_law16 32 rfl) rfl rfl ?_
  refine QG.aload_ns hX (qd K_L_law16 33 rfl) rfl rfl ?_
  refine QG.iload_n hX (qd K_L_law16 34 rfl) rfl rfl ?_
  refine QG.iconst hX (qd K_L_law16 35 rfl) rfl ki_1 ?_
  refine QG.iadd hX (qd K_L_law16 36 rfl) rfl ?_
  refine QG.scld hX hs0 hsl hsA hsb (qd K_L_law16 37 rfl) rfl hi1 hv1 ?_
  refine QG.aload_ns hX (qd K_L_law16 38 rfl) rfl rfl ?_
  refine QG.iload_n hX (qd K_L_law16 39 rfl) rfl rfl ?_
  refine QG.iconst hX (qd K_L_law17 0 rfl) rfl ki_2 ?_
  refine QG.iadd hX (qd K_L_law17 1 rfl) rfl ?_
  refine QG.scld hX hs0 hsl hsA hsb (qd K_L_law17 2 rfl) rfl hi2 hv2 ?_
  refine QG.aload_ns hX (qd K_L_law17 3 rfl) rfl rfl ?_
  refine QG.iload_n hX (qd K_L_law17 4 rfl) rfl rfl ?_
  refine QG.iconst hX (qd K_L_law17 5 rfl) rfl ki_3 ?_
  refine QG.iadd hX (qd K_L_law17 6 rfl) rfl ?_
  refine QG.scld hX hs0 hsl hsA hsb (qd K_L_law17 7 rfl) rfl hi3 hv3 ?_
  refine QG.aload_ns hX (qd K_L_law17 8 rfl) rfl rfl ?_
  refine QG.iload_n hX (qd K_L_law17 9 rfl) rfl rfl ?_
  refine QG.iconst hX (qd K_L_law17 10 rfl) rfl ki_4 ?_
  refine QG.iadd hX (qd K_L_law17 11 rfl) rfl ?_
  refine QG.scld hX hs0 hsl hsA hsb (qd K_L_law17 12 rfl) rfl hi4 hv4 ?_
  refine QG.callVk (rest := []) [0, 37, 97, 98, 99, 100, 101, 102, 103, 90, 91, 92, 93, 94, 95, 96] hz1 hX cw_L_125 (M_X7_differs_ok_ok X.l (fun j => Option.map (qinv [0, 37, 97, 98, 99, 100, 101, 102, 103, 90, 91, 92, 93, 94, 95, 96]) (kfB j)) (B 97) (V 97 1) (V 97 2) (V 97 3) (V 97 4) (V 97 5) (A 98) (A 99) (A 100) (A 101) (A 102) (A 103) (V 97 12) (B 90) (V 90 1) (V 90 2) (V 90 3) (V 90 4) (V 90 5) (A 91) (A 92) (A 93) (A 94) (A 95) (A 96) (V 90 12) v1 v2 v3 v4 h0a h0b (by show Option.map _ (kfB v1.toNatClampNeg) = _; rw [hj0]; rfl) hm0 h1a h1b (by show Option.map _ (kfB v2.toNatClampNeg) = _; rw [hj1]; rfl) hm1) trivial (by decide) (by decide) (qd K_L_law17 13 rfl) rfl hcs rfl rfl rfl rfl (Nat.le_of_ble_eq_true rfl) (Eq.trans (congrArg (fun f => List.map (fun i => (wLx rfB f (va_rf z) (va_rf tx) A V B L M)[i]?) [0, 37, 97, 98, 99, 100, 101, 102, 103, 90, 91, 92, 93, 94, 95, 96]) (qinv_eq [0, 37, 97, 98, 99, 100, 101, 102, 103, 90, 91, 92, 93, 94, 95, 96] kfB).symm) rfl) rfl (Nat.le_of_ble_eq_true rfl) rfl ?_
  refine QG.eqW (Wd' := (wLx rfB (fun j => Option.map (qf [0, 37, 97, 98, 99, 100, 101, 102, 103, 90, 91, 92, 93, 94, 95, 96]) (Option.map (qinv [0, 37, 97, 98, 99, 100, 101, 102, 103, 90, 91, 92, 93, 94, 95, 96]) (kfB j))) (va_rf z) (va_rf tx) A V B L M)) rfl ?_
  rw [qinv_eq [0, 37, 97, 98, 99, 100, 101, 102, 103, 90, 91, 92, 93, 94, 95, 96] kfB]
  show QG X 4 _ _ 986 _ [.int c1] _ ad _ _
  refine QG.aload_n hX (qd K_L_law17 14 rfl) rfl rfl ?_
  refine QG.aload_ns hX (qd K_L_law17 15 rfl) rfl rfl ?_
  refine QG.iload_n hX (qd K_L_law17 16 rfl) rfl rfl ?_
  refine QG.iconst hX (qd K_L_law17 17 rfl) rfl ki_1 ?_
  refine QG.iadd hX (qd K_L_law17 18 rfl) rfl ?_
  refine QG.scld hX hs0 hsl hsA hsb (qd K_L_law17 19 rfl) rfl hi1 hv1 ?_
  refine QG.aload_ns hX (qd K_L_law17 20 rfl) rfl rfl ?_
  refine QG.iload_n hX (qd K_L_law17 21 rfl) rfl rfl ?_
  refine QG.iconst hX (qd K_L_law17 22 rfl) rfl ki_2 ?_
  refine QG.iadd hX (qd K_L_law17 23 rfl) rfl ?_
  refine QG.scld hX hs0 hsl hsA hsb (qd K_L_law17 24 rfl) rfl hi2 hv2 ?_
  refine QG.aload_ns hX (qd K_L_law17 25 rfl) rfl rfl ?_
  refine QG.iload_n hX (qd K_L_law17 26 rfl) rfl rfl ?_
  refine QG.iconst hX (qd K_L_law17 27 rfl) rfl ki_3 ?_
  refine QG.iadd hX (qd K_L_law17 28 rfl) rfl ?_
  refine QG.scld hX hs0 hsl hsA hsb (qd K_L_law17 29 rfl) rfl hi3 hv3 ?_
  refine QG.aload_ns hX (qd K_L_law17 30 rfl) rfl rfl ?_
  refine QG.iload_n hX (qd K_L_law17 31 rfl) rfl rfl ?_
  refine QG.iconst hX (qd K_L_law17 32 rfl) rfl ki_4 ?_
  refine QG.iadd hX (qd K_L_law17 33 rfl) rfl ?_
  refine QG.scld hX hs0 hsl hsA hsb (qd K_L_law17 34 rfl) rfl hi4 hv4 ?_
  refine QG.callVk (rest := [.int c1]) [104, 105, 106, 107, 108, 109, 110, 111, 112, 113, 114, 115, 116, 117, 118, 119, 120, 121, 122, 123, 124, 125, 126, 127, 128, 129, 130, 131, 132, 133, 134, 135, 136, 137] hz2 hX cw_L_129 (M_X8_differs X.l (V 104 0) (A 105) (A 106) (A 107) (A 108) (A 109) (A 110) (A 111) (A 112) (V 104 9) (V 104 10) (A 113) (A 114) (A 115) (A 116) M (A 118) (A 119) (A 120) (A 121) (A 122) (A 123) (A 124) (A 125) (A 126) (A 127) (A 128) (V 104 27) (V 104 28) (A 129) (V 104 30) (V 104 31) (V 104 32) (V 104 33) (V 104 34) (V 104 35) (V 104 36) (A 130) (A 131) (A 132) (A 133) (A 134) (A 135) (V 104 43) (V 104 44) (V 104 45) (V 104 46) (A 136) (A 137) v1 v2 v3 v4) trivial (by decide) (by decide) (qd K_L_law17 35 rfl) rfl hcs rfl rfl rfl rfl (Nat.le_of_ble_eq_true rfl) rfl rfl (Nat.le_of_ble_eq_true rfl) rfl ?_
  refine QG.eqW (Wd' := (wLx rfB kfB (va_rf z) (va_rf tx) A (va_up2 (va_up2 (va_up2 V 104 0 c2.2.1) 104 44 c2.2.2.1) 104 45 c2.2.2.2) B L M)) rfl ?_
  show QG X 4 _ _ 1010 _ [.int c2.1, .int c1] _ ad _ _
  exact QG.ifT (by rw [he]) (QG.icmp_eq (tgt := 1048) (oF := none) hX (qd K_L_law17 36 rfl) rfl (by decide) K QG.nothing)

set_option maxRecDepth 100000 in
set_option maxHeartbeats 4000000 in
theorem C_differs_ok3_ok3 {X : QX} (hX : qok X code RL 4 (some .boolean) 1000) {Q : Unit → State → Prop} {b LL : Nat} {xs : Nat → Int32} (hs0 : va_X b LL xs X.s X.s.heap) (hsl : b < X.s.heap.size) (hsA : ¬ X.A b) (hsb : X.sA 100 = b) {ad : Nat → Nat} {cells slots : Nat} (hcs : cells ≤ X.R.cells ∧ slots ≤ X.R.slots) {A V : Nat → Nat → Int32} {B : Nat → Bool} {L M : Nat → Int64} {z tx : Option Nat} {x3 : Int32} {v1 : Int32} {v2 : Int32} {v3 : Int32} {v4 : Int32} (hi1 : vp_in (x3 + 1) LL) (hv1 : xs (x3 + 1).toNatClampNeg = v1) (hi2 : vp_in (x3 + 2) LL) (hv2 : xs (x3 + 2).toNatClampNeg = v2) (hi3 : vp_in (x3 + 3) LL) (hv3 : xs (x3 + 3).toNatClampNeg = v3) (hi4 : vp_in (x3 + 4) LL) (hv4 : xs (x3 + 4).toNatClampNeg = v4) (h0a : ¬ v1 < 0) (h0b : ¬ 4 ≤ v1) (hj0 : v1.toNatClampNeg = 3) (hm0 : B 97 = true) (h1a : ¬ v2 < 0) (h1b : ¬ 4 ≤ v2) (hj1 : v2.toNatClampNeg = 3) (hm1 : B 97 = true) {c1 : Int32} {c2 : Int32 × Int32 × Int32 × Int32} (hz1 : F_X7_differs_ok_al (V 97 1) (V 97 2) (A 98) (A 99) (A 100) v1 v2 v3 v4 = some c1) (hz2 : F_X8_differs (V 104 0) (A 119) (A 120) (A 121) (A 124) (A 125) (A 126) (V 104 44) (V 104 45) v1 v2 v3 v4 = some c2) (he : c1 = c2.1)
    (K : QG X 4 Q (some ()) 1048 [(0, .float (UInt32.ofNat 100)), (1, .ref 0), (2, .ref 104), (3, .int x3)] [] (wLx rfB kfB (va_rf z) (va_rf tx) A (va_up2 (va_up2 (va_up2 V 104 0 c2.2.1) 104 44 c2.2.2.1) 104 45 c2.2.2.2) B L M) ad cells slots) : QG X 4 Q (some ()) 962 [(0, .float (UInt32.ofNat 100)), (1, .ref 0), (2, .ref 104), (3, .int x3)] [] (wLx rfB kfB (va_rf z) (va_rf tx) A V B L M) ad cells slots := by
  refine QG.aload_n hX (qd K_L_law16 32 rfl) rfl rfl ?_
  refine QG.aload_ns hX (qd K_L_law16 33 rfl) rfl rfl ?_
  refine QG.iload_n hX (qd K_L_law16 34 rfl) rfl rfl ?_
  refine QG.iconst hX (qd K_L_law16 35 rfl) rfl ki_1 ?_
  refine QG.iadd hX (qd K_L_law16 36 rfl) rfl ?_
  refine QG.scld hX hs0 hsl hsA hsb (qd K_L_law16 37 rfl) rfl hi1 hv1 ?_
  refine QG.aload_ns hX (qd K_L_law16 38 rfl) rfl rfl ?_
  refine QG.iload_n hX (qd K_L_law16 39 rfl) rfl rfl ?_
  refine QG.iconst hX (qd K_L_law17 0 rfl) rfl ki_2 ?_
  refine QG.iadd hX (qd K_L_law17 1 rfl) rfl ?_
  refine QG.scld hX hs0 hsl hsA hsb (qd K_L_law17 2 rfl) rfl hi2 hv2 ?_
  refine QG.aload_ns hX (qd K_L_law17 3 rfl) rfl rfl ?_
  refine QG.iload_n hX (qd K_L_law17 4 rfl) rfl rfl ?_
  refine QG.iconst hX (qd K_L_law17 5 rfl) rfl ki_3 ?_
  refine QG.iadd hX (qd K_L_law17 6 rfl) rfl ?_
  refine QG.scld hX hs0 hsl hsA hsb (qd K_L_law17 7 rfl) rfl hi3 hv3 ?_
  refine QG.aload_ns hX (qd K_L_law17 8 rfl) rfl rfl ?_
  refine QG.iload_n hX (qd K_L_law17 9 rfl) rfl rfl ?_
  refine QG.iconst hX (qd K_L_law17 10 rfl) rfl ki_4 ?_
  refine QG.iadd hX (qd K_L_law17 11 rfl) rfl ?_
  refine QG.scld hX hs0 hsl hsA hsb (qd K_L_law17 12 rfl) rfl hi4 hv4 ?_
  refine QG.callVk (rest := []) [0, 37, 97, 98, 99, 100, 101, 102, 103] hz1 hX cw_L_125 (M_X7_differs_ok_al X.l (fun j => Option.map (qinv [0, 37, 97, 98, 99, 100, 101, 102, 103]) (kfB j)) (B 97) (V 97 1) (V 97 2) (V 97 3) (V 97 4) (V 97 5) (A 98) (A 99) (A 100) (A 101) (A 102) (A 103) (V 97 12) v1 v2 v3 v4 h0a h0b (by show Option.map _ (kfB v1.toNatClampNeg) = _; rw [hj0]; rfl) hm0 h1a h1b (by show Option.map _ (kfB v2.toNatClampNeg) = _; rw [hj1]; rfl) hm1) trivial (by decide) (by decide) (qd K_L_law17 13 rfl) rfl hcs rfl rfl rfl rfl (Nat.le_of_ble_eq_true rfl) (Eq.trans (congrArg (fun f => List.map (fun i => (wLx rfB f (va_rf z) (va_rf tx) A V B L M)[i]?) [0, 37, 97, 98, 99, 100, 101, 102, 103]) (qinv_eq [0, 37, 97, 98, 99, 100, 101, 102, 103] kfB).symm) rfl) rfl (Nat.le_of_ble_eq_true rfl) rfl ?_
  refine QG.eqW (Wd' := (wLx rfB (fun j => Option.map (qf [0, 37, 97, 98, 99, 100, 101, 102, 103]) (Option.map (qinv [0, 37, 97, 98, 99, 100, 101, 102, 103]) (kfB j))) (va_rf z) (va_rf tx) A V B L M)) rfl ?_
  rw [qinv_eq [0, 37, 97, 98, 99, 100, 101, 102, 103] kfB]
  show QG X 4 _ _ 986 _ [.int c1] _ ad _ _
  refine QG.aload_n hX (qd K_L_law17 14 rfl) rfl rfl ?_
  refine QG.aload_ns hX (qd K_L_law17 15 rfl) rfl rfl ?_
  refine QG.iload_n hX (qd K_L_law17 16 rfl) rfl rfl ?_
  refine QG.iconst hX (qd K_L_law17 17 rfl) rfl ki_1 ?_
  refine QG.iadd hX (qd K_L_law17 18 rfl) rfl ?_
  refine QG.scld hX hs0 hsl hsA hsb (qd K_L_law17 19 rfl) rfl hi1 hv1 ?_
  refine QG.aload_ns hX (qd K_L_law17 20 rfl) rfl rfl ?_
  refine QG.iload_n hX (qd K_L_law17 21 rfl) rfl rfl ?_
  refine QG.iconst hX (qd K_L_law17 22 rfl) rfl ki_2 ?_
  refine QG.iadd hX (qd K_L_law17 23 rfl) rfl ?_
  refine QG.scld hX hs0 hsl hsA hsb (qd K_L_law17 24 rfl) rfl hi2 hv2 ?_
  refine QG.aload_ns hX (qd K_L_law17 25 rfl) rfl rfl ?_
  refine QG.iload_n hX (qd K_L_law17 26 rfl) rfl rfl ?_
  refine QG.iconst hX (qd K_L_law17 27 rfl) rfl ki_3 ?_
  refine QG.iadd hX (qd K_L_law17 28 rfl) rfl ?_
  refine QG.scld hX hs0 hsl hsA hsb (qd K_L_law17 29 rfl) rfl hi3 hv3 ?_
  refine QG.aload_ns hX (qd K_L_law17 30 rfl) rfl rfl ?_
  refine QG.iload_n hX (qd K_L_law17 31 rfl) rfl rfl ?_
  refine QG.iconst hX (qd K_L_law17 32 rfl) rfl ki_4 ?_
  refine QG.iadd hX (qd K_L_law17 33 rfl) rfl ?_
  refine QG.scld hX hs0 hsl hsA hsb (qd K_L_law17 34 rfl) rfl hi4 hv4 ?_
  refine QG.callVk (rest := [.int c1]) [104, 105, 106, 107, 108, 109, 110, 111, 112, 113, 114, 115, 116, 117, 118, 119, 120, 121, 122, 123, 124, 125, 126, 127, 128, 129, 130, 131, 132, 133, 134, 135, 136, 137] hz2 hX cw_L_129 (M_X8_differs X.l (V 104 0) (A 105) (A 106) (A 107) (A 108) (A 109) (A 110) (A 111) (A 112) (V 104 9) (V 104 10) (A 113) (A 114) (A 115) (A 116) M (A 118) (A 119) (A 120) (A 121) (A 122) (A 123) (A 124) (A 125) (A 126) (A 127) (A 128) (V 104 27) (V 104 28) (A 129) (V 104 30) (V 104 31) (V 104 32) (V 104 33) (V 104 34) (V 104 35) (V 104 36) (A 130) (A 131) (A 132) (A 133) (A 134) (A 135) (V 104 43) (V 104 44) (V 104 45) (V 104 46) (A 136) (A 137) v1 v2 v3 v4) trivial (by decide) (by decide) (qd K_L_law17 35 rfl) rfl hcs rfl rfl rfl rfl (Nat.le_of_ble_eq_true rfl) rfl rfl (Nat.le_of_ble_eq_true rfl) rfl ?_
  refine QG.eqW (Wd' := (wLx rfB kfB (va_rf z) (va_rf tx) A (va_up2 (va_up2 (va_up2 V 104 0 c2.2.1) 104 44 c2.2.2.1) 104 45 c2.2.2.2) B L M)) rfl ?_
  show QG X 4 _ _ 1010 _ [.int c2.1, .int c1] _ ad _ _
  exact QG.ifT (by rw [he]) (QG.icmp_eq (tgt := 1048) (oF := none) hX (qd K_L_law17 36 rfl) rfl (by decide) K QG.nothing)

set_option maxRecDepth 100000 in
set_option maxHeartbeats 4000000 in
theorem C_ideal_no_no {X : QX} (hX : qok X code RL 4 (some .boolean) 1000) {Q : Unit → State → Prop} {b LL : Nat} {xs : Nat → Int32} (hs0 : va_X b LL xs X.s X.s.heap) (hsl : b < X.s.heap.size) (hsA : ¬ X.A b) (hsb : X.sA 100 = b) {ad : Nat → Nat} {cells slots : Nat} (hcs : cells ≤ X.R.cells ∧ slots ≤ X.R.slots) {A V : Nat → Nat → Int32} {B : Nat → Bool} {L M : Nat → Int64} {z tx : Option Nat} {x3 : Int32} {v1 : Int32} {v2 : Int32} (hi1 : vp_in (x3 + 1) LL) (hv1 : xs (x3 + 1).toNatClampNeg = v1) (hi2 : vp_in (x3 + 2) LL) (hv2 : xs (x3 + 2).toNatClampNeg = v2) (h0 : v1 < 0 ∨ 4 ≤ v1) (h1 : v2 < 0 ∨ 4 ≤ v2) {c1 : Int32} {c2 : Int32 × Int32 × (Nat → Int32) × (Nat → Int32) × (Nat → Int32) × (Nat → Int32) × (Nat → Int32) × (Nat → Int32) × (Nat → Int32) × (Nat → Int32) × (Nat → Int32) × Int32 × (Nat → Int32) × (Nat → Int32)} (hz1 : F_X7_ideal_no_no v1 v2 = some c1) (hz2 : F_X8_ideal (V 104 0) (A 119) (A 120) (A 121) (A 122) (A 123) (A 124) (A 125) (A 126) (A 127) (V 104 46) (A 136) (A 137) v1 v2 = some c2) (he : c1 = c2.1)
    (K : QG X 4 Q (some ()) 1048 [(0, .float (UInt32.ofNat 100)), (1, .ref 0), (2, .ref 104), (3, .int x3)] [] (wLx rfB kfB (va_rf z) (va_rf tx) (va_up (va_up (va_up (va_up (va_up (va_up (va_up (va_up (va_up (va_up (va_up A 119 c2.2.2.1) 120 c2.2.2.2.1) 121 c2.2.2.2.2.1) 122 c2.2.2.2.2.2.1) 123 c2.2.2.2.2.2.2.1) 124 c2.2.2.2.2.2.2.2.1) 125 c2.2.2.2.2.2.2.2.2.1) 126 c2.2.2.2.2.2.2.2.2.2.1) 127 c2.2.2.2.2.2.2.2.2.2.2.1) 136 c2.2.2.2.2.2.2.2.2.2.2.2.2.1) 137 c2.2.2.2.2.2.2.2.2.2.2.2.2.2) (va_up2 (va_up2 V 104 0 c2.2.1) 104 46 c2.2.2.2.2.2.2.2.2.2.2.2.1) B L M) ad cells slots) : QG X 4 Q (some ()) 1015 [(0, .float (UInt32.ofNat 100)), (1, .ref 0), (2, .ref 104), (3, .int x3)] [] (wLx rfB kfB (va_rf z) (va_rf tx) A V B L M) ad cells slots := by
  refine QG.aload_n hX (qd K_L_law17 39 rfl) rfl rfl ?_
  refine QG.aload_ns hX (qd K_L_law18 0 rfl) rfl rfl ?_
  refine QG.iload_n hX (qd K_L_law18 1 rfl) rfl rfl ?_
  refine QG.iconst hX (qd K_L_law18 2 rfl) rfl ki_1 ?_
  refine QG.iadd hX (qd K_L_law18 3 rfl) rfl ?_
  refine QG.scld hX hs0 hsl hsA hsb (qd K_L_law18 4 rfl) rfl hi1 hv1 ?_
  refine QG.aload_ns hX (qd K_L_law18 5 rfl) rfl rfl ?_
  refine QG.iload_n hX (qd K_L_law18 6 rfl) rfl rfl ?_
  refine QG.iconst hX (qd K_L_law18 7 rfl) rfl ki_2 ?_
  refine QG.iadd hX (qd K_L_law18 8 rfl) rfl ?_
  refine QG.scld hX hs0 hsl hsA hsb (qd K_L_law18 9 rfl) rfl hi2 hv2 ?_
  refine QG.callVk (rest := []) [0, 37, 23, 24, 25, 26, 27, 28, 29, 30, 31, 32, 33, 34, 35, 36] hz1 hX cw_L_130 (M_X7_ideal_no_no X.l (fun j => Option.map (qinv [0, 37, 23, 24, 25, 26, 27, 28, 29, 30, 31, 32, 33, 34, 35, 36]) (kfB j)) (B 23) (V 23 1) (V 23 2) (V 23 3) (V 23 4) (V 23 5) (A 24) (A 25) (A 26) (A 27) (A 28) (A 29) (V 23 12) (B 30) (V 30 1) (V 30 2) (V 30 3) (V 30 4) (V 30 5) (A 31) (A 32) (A 33) (A 34) (A 35) (A 36) (V 30 12) v1 v2 h0 h1) trivial (by decide) (by decide) (qd K_L_law18 10 rfl) rfl hcs rfl rfl rfl rfl (Nat.le_of_ble_eq_true rfl) (Eq.trans (congrArg (fun f => List.map (fun i => (wLx rfB f (va_rf z) (va_rf tx) A V B L M)[i]?) [0, 37, 23, 24, 25, 26, 27, 28, 29, 30, 31, 32, 33, 34, 35, 36]) (qinv_eq [0, 37, 23, 24, 25, 26, 27, 28, 29, 30, 31, 32, 33, 34, 35, 36] kfB).symm) rfl) rfl (Nat.le_of_ble_eq_true rfl) rfl ?_
  refine QG.eqW (Wd' := (wLx rfB (fun j => Option.map (qf [0, 37, 23, 24, 25, 26, 27, 28, 29, 30, 31, 32, 33, 34, 35, 36]) (Option.map (qinv [0, 37, 23, 24, 25, 26, 27, 28, 29, 30, 31, 32, 33, 34, 35, 36]) (kfB j))) (va_rf z) (va_rf tx) A V B L M)) rfl ?_
  rw [qinv_eq [0, 37, 23, 24, 25, 26, 27, 28, 29, 30, 31, 32, 33, 34, 35, 36] kfB]
  show QG X 4 _ _ 1029 _ [.int c1] _ ad _ _
  refine QG.aload_n hX (qd K_L_law18 11 rfl) rfl rfl ?_
  refine QG.aload_ns hX (qd K_L_law18 12 rfl) rfl rfl ?_
  refine QG.iload_n hX (qd K_L_law18 13 rfl) rfl rfl ?_
  refine QG.iconst hX (qd K_L_law18 14 rfl) rfl ki_1 ?_
  refine QG.iadd hX (qd K_L_law18 15 rfl) rfl ?_
  refine QG.scld hX hs0 hsl hsA hsb (qd K_L_law18 16 rfl) rfl hi1 hv1 ?_
  refine QG.aload_ns hX (qd K_L_law18 17 rfl) rfl rfl ?_
  refine QG.iload_n hX (qd K_L_law18 18 rfl) rfl rfl ?_
  refine QG.iconst hX (qd K_L_law18 19 rfl) rfl ki_2 ?_
  refine QG.iadd hX (qd K_L_law18 20 rfl) rfl ?_
  refine QG.scld hX hs0 hsl hsA hsb (qd K_L_law18 21 rfl) rfl hi2 hv2 ?_
  refine QG.callVk (rest := [.int c1]) [104, 105, 106, 107, 108, 109, 110, 111, 112, 113, 114, 115, 116, 117, 118, 119, 120, 121, 122, 123, 124, 125, 126, 127, 128, 129, 130, 131, 132, 133, 134, 135, 136, 137] hz2 hX cw_L_133 (M_X8_ideal X.l (V 104 0) (A 105) (A 106) (A 107) (A 108) (A 109) (A 110) (A 111) (A 112) (V 104 9) (V 104 10) (A 113) (A 114) (A 115) (A 116) M (A 118) (A 119) (A 120) (A 121) (A 122) (A 123) (A 124) (A 125) (A 126) (A 127) (A 128) (V 104 27) (V 104 28) (A 129) (V 104 30) (V 104 31) (V 104 32) (V 104 33) (V 104 34) (V 104 35) (V 104 36) (A 130) (A 131) (A 132) (A 133) (A 134) (A 135) (V 104 43) (V 104 44) (V 104 45) (V 104 46) (A 136) (A 137) v1 v2) trivial (by decide) (by decide) (qd K_L_law18 22 rfl) rfl hcs rfl rfl rfl rfl (Nat.le_of_ble_eq_true rfl) rfl rfl (Nat.le_of_ble_eq_true rfl) rfl ?_
  refine QG.eqW (Wd' := (wLx rfB kfB (va_rf z) (va_rf tx) (va_up (va_up (va_up (va_up (va_up (va_up (va_up (va_up (va_up (va_up (va_up A 119 c2.2.2.1) 120 c2.2.2.2.1) 121 c2.2.2.2.2.1) 122 c2.2.2.2.2.2.1) 123 c2.2.2.2.2.2.2.1) 124 c2.2.2.2.2.2.2.2.1) 125 c2.2.2.2.2.2.2.2.2.1) 126 c2.2.2.2.2.2.2.2.2.2.1) 127 c2.2.2.2.2.2.2.2.2.2.2.1) 136 c2.2.2.2.2.2.2.2.2.2.2.2.2.1) 137 c2.2.2.2.2.2.2.2.2.2.2.2.2.2) (va_up2 (va_up2 V 104 0 c2.2.1) 104 46 c2.2.2.2.2.2.2.2.2.2.2.2.1) B L M)) rfl ?_
  show QG X 4 _ _ 1043 _ [.int c2.1, .int c1] _ ad _ _
  exact QG.ifT (by rw [he]) (QG.icmp_eq (tgt := 1048) (oF := none) hX (qd K_L_law18 23 rfl) rfl (by decide) K QG.nothing)

set_option maxRecDepth 100000 in
set_option maxHeartbeats 4000000 in
theorem C_ideal_no_un0 {X : QX} (hX : qok X code RL 4 (some .boolean) 1000) {Q : Unit → State → Prop} {b LL : Nat} {xs : Nat → Int32} (hs0 : va_X b LL xs X.s X.s.heap) (hsl : b < X.s.heap.size) (hsA : ¬ X.A b) (hsb : X.sA 100 = b) {ad : Nat → Nat} {cells slots : Nat} (hcs : cells ≤ X.R.cells ∧ slots ≤ X.R.slots) {A V : Nat → Nat → Int32} {B : Nat → Bool} {L M : Nat → Int64} {z tx : Option Nat} {x3 : Int32} {v1 : Int32} {v2 : Int32} (hi1 : vp_in (x3 + 1) LL) (hv1 : xs (x3 + 1).toNatClampNeg = v1) (hi2 : vp_in (x3 + 2) LL) (hv2 : xs (x3 + 2).toNatClampNeg = v2) (h0 : v1 < 0 ∨ 4 ≤ v1) (h1a : ¬ v2 < 0) (h1b : ¬ 4 ≤ v2) (hj1 : v2.toNatClampNeg = 0) (hm1 : B 76 = false) {c1 : Int32} {c2 : Int32 × Int32 × (Nat → Int32) × (Nat → Int32) × (Nat → Int32) × (Nat → Int32) × (Nat → Int32) × (Nat → Int32) × (Nat → Int32) × (Nat → Int32) × (Nat → Int32) × Int32 × (Nat → Int32) × (Nat → Int32)} (hz1 : F_X7_ideal_no_un v1 v2 = some c1) (hz2 : F_X8_ideal (V 104 0) (A 119) (A 120) (A 121) (A 122) (A 123) (A 124) (A 125) (A 126) (A 127) (V 104 46) (A 136) (A 137) v1 v2 = some c2) (he : c1 = c2.1)
    (K : QG X 4 Q (some ()) 1048 [(0, .float (UInt32.ofNat 100)), (1, .ref 0), (2, .ref 104), (3, .int x3)] [] (wLx rfB kfB (va_rf z) (va_rf tx) (va_up (va_up (va_up (va_up (va_up (va_up (va_up (va_up (va_up (va_up (va_up A 119 c2.2.2.1) 120 c2.2.2.2.1) 121 c2.2.2.2.2.1) 122 c2.2.2.2.2.2.1) 123 c2.2.2.2.2.2.2.1) 124 c2.2.2.2.2.2.2.2.1) 125 c2.2.2.2.2.2.2.2.2.1) 126 c2.2.2.2.2.2.2.2.2.2.1) 127 c2.2.2.2.2.2.2.2.2.2.2.1) 136 c2.2.2.2.2.2.2.2.2.2.2.2.2.1) 137 c2.2.2.2.2.2.2.2.2.2.2.2.2.2) (va_up2 (va_up2 V 104 0 c2.2.1) 104 46 c2.2.2.2.2.2.2.2.2.2.2.2.1) B L M) ad cells slots) : QG X 4 Q (some ()) 1015 [(0, .float (UInt32.ofNat 100)), (1, .ref 0), (2, .ref 104), (3, .int x3)] [] (wLx rfB kfB (va_rf z) (va_rf tx) A V B L M) ad cells slots := by
  refine QG.aload_n hX (qd K_L_law17 39 rfl) rfl rfl ?_
  refine QG.aload_ns hX (qd K_L_law18 0 rfl) rfl rfl ?_
  refine QG.iload_n hX (qd K_L_law18 1 rfl) rfl rfl ?_
  refine QG.iconst hX (qd K_L_law18 2 rfl) rfl ki_1 ?_
  refine QG.iadd hX (qd K_L_law18 3 rfl) rfl ?_
  refine QG.scld hX hs0 hsl hsA hsb (qd K_L_law18 4 rfl) rfl hi1 hv1 ?_
  refine QG.aload_ns hX (qd K_L_law18 5 rfl) rfl rfl ?_
  refine QG.iload_n hX (qd K_L_law18 6 rfl) rfl rfl ?_
  refine QG.iconst hX (qd K_L_law18 7 rfl) rfl ki_2 ?_
  refine QG.iadd hX (qd K_L_law18 8 rfl) rfl ?_
  refine QG.scld hX hs0 hsl hsA hsb (qd K_L_law18 9 rfl) rfl hi2 hv2 ?_
  refine QG.callVk (rest := []) [0, 37, 76, 77, 78, 79, 80, 81, 82, 23, 24, 25, 26, 27, 28, 29, 30, 31, 32, 33, 34, 35, 36] hz1 hX cw_L_130 (M_X7_ideal_no_un X.l (fun j => Option.map (qinv [0, 37, 76, 77, 78, 79, 80, 81, 82, 23, 24, 25, 26, 27, 28, 29, 30, 31, 32, 33, 34, 35, 36]) (kfB j)) (B 76) (V 76 1) (V 76 2) (V 76 3) (V 76 4) (V 76 5) (A 77) (A 78) (A 79) (A 80) (A 81) (A 82) (V 76 12) (B 23) (V 23 1) (V 23 2) (V 23 3) (V 23 4) (V 23 5) (A 24) (A 25) (A 26) (A 27) (A 28) (A 29) (V 23 12) (B 30) (V 30 1) (V 30 2) (V 30 3) (V 30 4) (V 30 5) (A 31) (A 32) (A 33) (A 34) (A 35) (A 36) (V 30 12) v1 v2 h0 h1a h1b (by show Option.map _ (kfB v2.toNatClampNeg) = _; rw [hj1]; rfl) hm1) trivial (by decide) (by decide) (qd K_L_law18 10 rfl) rfl hcs rfl rfl rfl rfl (Nat.le_of_ble_eq_true rfl) (Eq.trans (congrArg (fun f => List.map (fun i => (wLx rfB f (va_rf z) (va_rf tx) A V B L M)[i]?) [0, 37, 76, 77, 78, 79, 80, 81, 82, 23, 24, 25, 26, 27, 28, 29, 30, 31, 32, 33, 34, 35, 36]) (qinv_eq [0, 37, 76, 77, 78, 79, 80, 81, 82, 23, 24, 25, 26, 27, 28, 29, 30, 31, 32, 33, 34, 35, 36] kfB).symm) rfl) rfl (Nat.le_of_ble_eq_true rfl) rfl ?_
  refine QG.eqW (Wd' := (wLx rfB (fun j => Option.map (qf [0, 37, 76, 77, 78, 79, 80, 81, 82, 23, 24, 25, 26, 27, 28, 29, 30, 31, 32, 33, 34, 35, 36]) (Option.map (qinv [0, 37, 76, 77, 78, 79, 80, 81, 82, 23, 24, 25, 26, 27, 28, 29, 30, 31, 32, 33, 34, 35, 36]) (kfB j))) (va_rf z) (va_rf tx) A V B L M)) rfl ?_
  rw [qinv_eq [0, 37, 76, 77, 78, 79, 80, 81, 82, 23, 24, 25, 26, 27, 28, 29, 30, 31, 32, 33, 34, 35, 36] kfB]
  show QG X 4 _ _ 1029 _ [.int c1] _ ad _ _
  refine QG.aload_n hX (qd K_L_law18 11 rfl) rfl rfl ?_
  refine QG.aload_ns hX (qd K_L_law18 12 rfl) rfl rfl ?_
  refine QG.iload_n hX (qd K_L_law18 13 rfl) rfl rfl ?_
  refine QG.iconst hX (qd K_L_law18 14 rfl) rfl ki_1 ?_
  refine QG.iadd hX (qd K_L_law18 15 rfl) rfl ?_
  refine QG.scld hX hs0 hsl hsA hsb (qd K_L_law18 16 rfl) rfl hi1 hv1 ?_
  refine QG.aload_ns hX (qd K_L_law18 17 rfl) rfl rfl ?_
  refine QG.iload_n hX (qd K_L_law18 18 rfl) rfl rfl ?_
  refine QG.iconst hX (qd K_L_law18 19 rfl) rfl ki_2 ?_
  refine QG.iadd hX (qd K_L_law18 20 rfl) rfl ?_
  refine QG.scld hX hs0 hsl hsA hsb (qd K_L_law18 21 rfl) rfl hi2 hv2 ?_
  refine QG.callVk (rest := [.int c1]) [104, 105, 106, 107, 108, 109, 110, 111, 112, 113, 114, 115, 116, 117, 118, 119, 120, 121, 122, 123, 124, 125, 126, 127, 128, 129, 130, 131, 132, 133, 134, 135, 136, 137] hz2 hX cw_L_133 (M_X8_ideal X.l (V 104 0) (A 105) (A 106) (A 107) (A 108) (A 109) (A 110) (A 111) (A 112) (V 104 9) (V 104 10) (A 113) (A 114) (A 115) (A 116) M (A 118) (A 119) (A 120) (A 121) (A 122) (A 123) (A 124) (A 125) (A 126) (A 127) (A 128) (V 104 27) (V 104 28) (A 129) (V 104 30) (V 104 31) (V 104 32) (V 104 33) (V 104 34) (V 104 35) (V 104 36) (A 130) (A 131) (A 132) (A 133) (A 134) (A 135) (V 104 43) (V 104 44) (V 104 45) (V 104 46) (A 136) (A 137) v1 v2) trivial (by decide) (by decide) (qd K_L_law18 22 rfl) rfl hcs rfl rfl rfl rfl (Nat.le_of_ble_eq_true rfl) rfl rfl (Nat.le_of_ble_eq_true rfl) rfl ?_
  refine QG.eqW (Wd' := (wLx rfB kfB (va_rf z) (va_rf tx) (va_up (va_up (va_up (va_up (va_up (va_up (va_up (va_up (va_up (va_up (va_up A 119 c2.2.2.1) 120 c2.2.2.2.1) 121 c2.2.2.2.2.1) 122 c2.2.2.2.2.2.1) 123 c2.2.2.2.2.2.2.1) 124 c2.2.2.2.2.2.2.2.1) 125 c2.2.2.2.2.2.2.2.2.1) 126 c2.2.2.2.2.2.2.2.2.2.1) 127 c2.2.2.2.2.2.2.2.2.2.2.1) 136 c2.2.2.2.2.2.2.2.2.2.2.2.2.1) 137 c2.2.2.2.2.2.2.2.2.2.2.2.2.2) (va_up2 (va_up2 V 104 0 c2.2.1) 104 46 c2.2.2.2.2.2.2.2.2.2.2.2.1) B L M)) rfl ?_
  show QG X 4 _ _ 1043 _ [.int c2.1, .int c1] _ ad _ _
  exact QG.ifT (by rw [he]) (QG.icmp_eq (tgt := 1048) (oF := none) hX (qd K_L_law18 23 rfl) rfl (by decide) K QG.nothing)

set_option maxRecDepth 100000 in
set_option maxHeartbeats 4000000 in
theorem C_ideal_no_un1 {X : QX} (hX : qok X code RL 4 (some .boolean) 1000) {Q : Unit → State → Prop} {b LL : Nat} {xs : Nat → Int32} (hs0 : va_X b LL xs X.s X.s.heap) (hsl : b < X.s.heap.size) (hsA : ¬ X.A b) (hsb : X.sA 100 = b) {ad : Nat → Nat} {cells slots : Nat} (hcs : cells ≤ X.R.cells ∧ slots ≤ X.R.slots) {A V : Nat → Nat → Int32} {B : Nat → Bool} {L M : Nat → Int64} {z tx : Option Nat} {x3 : Int32} {v1 : Int32} {v2 : Int32} (hi1 : vp_in (x3 + 1) LL) (hv1 : xs (x3 + 1).toNatClampNeg = v1) (hi2 : vp_in (x3 + 2) LL) (hv2 : xs (x3 + 2).toNatClampNeg = v2) (h0 : v1 < 0 ∨ 4 ≤ v1) (h1a : ¬ v2 < 0) (h1b : ¬ 4 ≤ v2) (hj1 : v2.toNatClampNeg = 1) (hm1 : B 83 = false) {c1 : Int32} {c2 : Int32 × Int32 × (Nat → Int32) × (Nat → Int32) × (Nat → Int32) × (Nat → Int32) × (Nat → Int32) × (Nat → Int32) × (Nat → Int32) × (Nat → Int32) × (Nat → Int32) × Int32 × (Nat → Int32) × (Nat → Int32)} (hz1 : F_X7_ideal_no_un v1 v2 = some c1) (hz2 : F_X8_ideal (V 104 0) (A 119) (A 120) (A 121) (A 122) (A 123) (A 124) (A 125) (A 126) (A 127) (V 104 46) (A 136) (A 137) v1 v2 = some c2) (he : c1 = c2.1)
    (K : QG X 4 Q (some ()) 1048 [(0, .float (UInt32.ofNat 100)), (1, .ref 0), (2, .ref 104), (3, .int x3)] [] (wLx rfB kfB (va_rf z) (va_rf tx) (va_up (va_up (va_up (va_up (va_up (va_up (va_up (va_up (va_up (va_up (va_up A 119 c2.2.2.1) 120 c2.2.2.2.1) 121 c2.2.2.2.2.1) 122 c2.2.2.2.2.2.1) 123 c2.2.2.2.2.2.2.1) 124 c2.2.2.2.2.2.2.2.1) 125 c2.2.2.2.2.2.2.2.2.1) 126 c2.2.2.2.2.2.2.2.2.2.1) 127 c2.2.2.2.2.2.2.2.2.2.2.1) 136 c2.2.2.2.2.2.2.2.2.2.2.2.2.1) 137 c2.2.2.2.2.2.2.2.2.2.2.2.2.2) (va_up2 (va_up2 V 104 0 c2.2.1) 104 46 c2.2.2.2.2.2.2.2.2.2.2.2.1) B L M) ad cells slots) : QG X 4 Q (some ()) 1015 [(0, .float (UInt32.ofNat 100)), (1, .ref 0), (2, .ref 104), (3, .int x3)] [] (wLx rfB kfB (va_rf z) (va_rf tx) A V B L M) ad cells slots := by
  refine QG.aload_n hX (qd K_L_law17 39 rfl) rfl rfl ?_
  refine QG.aload_ns hX (qd K_L_law18 0 rfl) rfl rfl ?_
  refine QG.iload_n hX (qd K_L_law18 1 rfl) rfl rfl ?_
  refine QG.iconst hX (qd K_L_law18 2 rfl) rfl ki_1 ?_
  refine QG.iadd hX (qd K_L_law18 3 rfl) rfl ?_
  refine QG.scld hX hs0 hsl hsA hsb (qd K_L_law18 4 rfl) rfl hi1 hv1 ?_
  refine QG.aload_ns hX (qd K_L_law18 5 rfl) rfl rfl ?_
  refine QG.iload_n hX (qd K_L_law18 6 rfl) rfl rfl ?_
  refine QG.iconst hX (qd K_L_law18 7 rfl) rfl ki_2 ?_
  refine QG.iadd hX (qd K_L_law18 8 rfl) rfl ?_
  refine QG.scld hX hs0 hsl hsA hsb (qd K_L_law18 9 rfl) rfl hi2 hv2 ?_
  refine QG.callVk (rest := []) [0, 37, 83, 84, 85, 86, 87, 88, 89, 23, 24, 25, 26, 27, 28, 29, 30, 31, 32, 33, 34, 35, 36] hz1 hX cw_L_130 (M_X7_ideal_no_un X.l (fun j => Option.map (qinv [0, 37, 83, 84, 85, 86, 87, 88, 89, 23, 24, 25, 26, 27, 28, 29, 30, 31, 32, 33, 34, 35, 36]) (kfB j)) (B 83) (V 83 1) (V 83 2) (V 83 3) (V 83 4) (V 83 5) (A 84) (A 85) (A 86) (A 87) (A 88) (A 89) (V 83 12) (B 23) (V 23 1) (V 23 2) (V 23 3) (V 23 4) (V 23 5) (A 24) (A 25) (A 26) (A 27) (A 28) (A 29) (V 23 12) (B 30) (V 30 1) (V 30 2) (V 30 3) (V 30 4) (V 30 5) (A 31) (A 32) (A 33) (A 34) (A 35) (A 36) (V 30 12) v1 v2 h0 h1a h1b (by show Option.map _ (kfB v2.toNatClampNeg) = _; rw [hj1]; rfl) hm1) trivial (by decide) (by decide) (qd K_L_law18 10 rfl) rfl hcs rfl rfl rfl rfl (Nat.le_of_ble_eq_true rfl) (Eq.trans (congrArg (fun f => List.map (fun i => (wLx rfB f (va_rf z) (va_rf tx) A V B L M)[i]?) [0, 37, 83, 84, 85, 86, 87, 88, 89, 23, 24, 25, 26, 27, 28, 29, 30, 31, 32, 33, 34, 35, 36]) (qinv_eq [0, 37, 83, 84, 85, 86, 87, 88, 89, 23, 24, 25, 26, 27, 28, 29, 30, 31, 32, 33, 34, 35, 36] kfB).symm) rfl) rfl (Nat.le_of_ble_eq_true rfl) rfl ?_
  refine QG.eqW (Wd' := (wLx rfB (fun j => Option.map (qf [0, 37, 83, 84, 85, 86, 87, 88, 89, 23, 24, 25, 26, 27, 28, 29, 30, 31, 32, 33, 34, 35, 36]) (Option.map (qinv [0, 37, 83, 84, 85, 86, 87, 88, 89, 23, 24, 25, 26, 27, 28, 29, 30, 31, 32, 33, 34, 35, 36]) (kfB j))) (va_rf z) (va_rf tx) A V B L M)) rfl ?_
  rw [qinv_eq [0, 37, 83, 84, 85, 86, 87, 88, 89, 23, 24, 25, 26, 27, 28, 29, 30, 31, 32, 33, 34, 35, 36] kfB]
  show QG X 4 _ _ 1029 _ [.int c1] _ ad _ _
  refine QG.aload_n hX (qd K_L_law18 11 rfl) rfl rfl ?_
  refine QG.aload_ns hX (qd K_L_law18 12 rfl) rfl rfl ?_
  refine QG.iload_n hX (qd K_L_law18 13 rfl) rfl rfl ?_
  refine QG.iconst hX (qd K_L_law18 14 rfl) rfl ki_1 ?_
  refine QG.iadd hX (qd K_L_law18 15 rfl) rfl ?_
  refine QG.scld hX hs0 hsl hsA hsb (qd K_L_law18 16 rfl) rfl hi1 hv1 ?_
  refine QG.aload_ns hX (qd K_L_law18 17 rfl) rfl rfl ?_
  refine QG.iload_n hX (qd K_L_law18 18 rfl) rfl rfl ?_
  refine QG.iconst hX (qd K_L_law18 19 rfl) rfl ki_2 ?_
  refine QG.iadd hX (qd K_L_law18 20 rfl) rfl ?_
  refine QG.scld hX hs0 hsl hsA hsb (qd K_L_law18 21 rfl) rfl hi2 hv2 ?_
  refine QG.callVk (rest := [.int c1]) [104, 105, 106, 107, 108, 109, 110, 111, 112, 113, 114, 115, 116, 117, 118, 119, 120, 121, 122, 123, 124, 125, 126, 127, 128, 129, 130, 131, 132, 133, 134, 135, 136, 137] hz2 hX cw_L_133 (M_X8_ideal X.l (V 104 0) (A 105) (A 106) (A 107) (A 108) (A 109) (A 110) (A 111) (A 112) (V 104 9) (V 104 10) (A 113) (A 114) (A 115) (A 116) M (A 118) (A 119) (A 120) (A 121) (A 122) (A 123) (A 124) (A 125) (A 126) (A 127) (A 128) (V 104 27) (V 104 28) (A 129) (V 104 30) (V 104 31) (V 104 32) (V 104 33) (V 104 34) (V 104 35) (V 104 36) (A 130) (A 131) (A 132) (A 133) (A 134) (A 135) (V 104 43) (V 104 44) (V 104 45) (V 104 46) (A 136) (A 137) v1 v2) trivial (by decide) (by decide) (qd K_L_law18 22 rfl) rfl hcs rfl rfl rfl rfl (Nat.le_of_ble_eq_true rfl) rfl rfl (Nat.le_of_ble_eq_true rfl) rfl ?_
  refine QG.eqW (Wd' := (wLx rfB kfB (va_rf z) (va_rf tx) (va_up (va_up (va_up (va_up (va_up (va_up (va_up (va_up (va_up (va_up (va_up A 119 c2.2.2.1) 120 c2.2.2.2.1) 121 c2.2.2.2.2.1) 122 c2.2.2.2.2.2.1) 123 c2.2.2.2.2.2.2.1) 124 c2.2.2.2.2.2.2.2.1) 125 c2.2.2.2.2.2.2.2.2.1) 126 c2.2.2.2.2.2.2.2.2.2.1) 127 c2.2.2.2.2.2.2.2.2.2.2.1) 136 c2.2.2.2.2.2.2.2.2.2.2.2.2.1) 137 c2.2.2.2.2.2.2.2.2.2.2.2.2.2) (va_up2 (va_up2 V 104 0 c2.2.1) 104 46 c2.2.2.2.2.2.2.2.2.2.2.2.1) B L M)) rfl ?_
  show QG X 4 _ _ 1043 _ [.int c2.1, .int c1] _ ad _ _
  exact QG.ifT (by rw [he]) (QG.icmp_eq (tgt := 1048) (oF := none) hX (qd K_L_law18 23 rfl) rfl (by decide) K QG.nothing)

set_option maxRecDepth 100000 in
set_option maxHeartbeats 4000000 in
theorem C_ideal_no_un2 {X : QX} (hX : qok X code RL 4 (some .boolean) 1000) {Q : Unit → State → Prop} {b LL : Nat} {xs : Nat → Int32} (hs0 : va_X b LL xs X.s X.s.heap) (hsl : b < X.s.heap.size) (hsA : ¬ X.A b) (hsb : X.sA 100 = b) {ad : Nat → Nat} {cells slots : Nat} (hcs : cells ≤ X.R.cells ∧ slots ≤ X.R.slots) {A V : Nat → Nat → Int32} {B : Nat → Bool} {L M : Nat → Int64} {z tx : Option Nat} {x3 : Int32} {v1 : Int32} {v2 : Int32} (hi1 : vp_in (x3 + 1) LL) (hv1 : xs (x3 + 1).toNatClampNeg = v1) (hi2 : vp_in (x3 + 2) LL) (hv2 : xs (x3 + 2).toNatClampNeg = v2) (h0 : v1 < 0 ∨ 4 ≤ v1) (h1a : ¬ v2 < 0) (h1b : ¬ 4 ≤ v2) (hj1 : v2.toNatClampNeg = 2) (hm1 : B 90 = false) {c1 : Int32} {c2 : Int32 × Int32 × (Nat → Int32) × (Nat → Int32) × (Nat → Int32) × (Nat → Int32) × (Nat → Int32) × (Nat → Int32) × (Nat → Int32) × (Nat → Int32) × (Nat → Int32) × Int32 × (Nat → Int32) × (Nat → Int32)} (hz1 : F_X7_ideal_no_un v1 v2 = some c1) (hz2 : F_X8_ideal (V 104 0) (A 119) (A 120) (A 121) (A 122) (A 123) (A 124) (A 125) (A 126) (A 127) (V 104 46) (A 136) (A 137) v1 v2 = some c2) (he : c1 = c2.1)
    (K : QG X 4 Q (some ()) 1048 [(0, .float (UInt32.ofNat 100)), (1, .ref 0), (2, .ref 104), (3, .int x3)] [] (wLx rfB kfB (va_rf z) (va_rf tx) (va_up (va_up (va_up (va_up (va_up (va_up (va_up (va_up (va_up (va_up (va_up A 119 c2.2.2.1) 120 c2.2.2.2.1) 121 c2.2.2.2.2.1) 122 c2.2.2.2.2.2.1) 123 c2.2.2.2.2.2.2.1) 124 c2.2.2.2.2.2.2.2.1) 125 c2.2.2.2.2.2.2.2.2.1) 126 c2.2.2.2.2.2.2.2.2.2.1) 127 c2.2.2.2.2.2.2.2.2.2.2.1) 136 c2.2.2.2.2.2.2.2.2.2.2.2.2.1) 137 c2.2.2.2.2.2.2.2.2.2.2.2.2.2) (va_up2 (va_up2 V 104 0 c2.2.1) 104 46 c2.2.2.2.2.2.2.2.2.2.2.2.1) B L M) ad cells slots) : QG X 4 Q (some ()) 1015 [(0, .float (UInt32.ofNat 100)), (1, .ref 0), (2, .ref 104), (3, .int x3)] [] (wLx rfB kfB (va_rf z) (va_rf tx) A V B L M) ad cells slots := by
  refine QG.aload_n hX (qd K_L_law17 39 rfl) rfl rfl ?_
  refine QG.aload_ns hX (qd K_L_law18 0 rfl) rfl rfl ?_
  refine QG.iload_n hX (qd K_L_law18 1 rfl) rfl rfl ?_
  refine QG.iconst hX (qd K_L_law18 2 rfl) rfl ki_1 ?_
  refine QG.iadd hX (qd K_L_law18 3 rfl) rfl ?_
  refine QG.scld hX hs0 hsl hsA hsb (qd K_L_law18 4 rfl) rfl hi1 hv1 ?_
  refine QG.aload_ns hX (qd K_L_law18 5 rfl) rfl rfl ?_
  refine QG.iload_n hX (qd K_L_law18 6 rfl) rfl rfl ?_
  refine QG.iconst hX (qd K_L_law18 7 rfl) rfl ki_2 ?_
  refine QG.iadd hX (qd K_L_law18 8 rfl) rfl ?_
  refine QG.scld hX hs0 hsl hsA hsb (qd K_L_law18 9 rfl) rfl hi2 hv2 ?_
  refine QG.callVk (rest := []) [0, 37, 90, 91, 92, 93, 94, 95, 96, 23, 24, 25, 26, 27, 28, 29, 30, 31, 32, 33, 34, 35, 36] hz1 hX cw_L_130 (M_X7_ideal_no_un X.l (fun j => Option.map (qinv [0, 37, 90, 91, 92, 93, 94, 95, 96, 23, 24, 25, 26, 27, 28, 29, 30, 31, 32, 33, 34, 35, 36]) (kfB j)) (B 90) (V 90 1) (V 90 2) (V 90 3) (V 90 4) (V 90 5) (A 91) (A 92) (A 93) (A 94) (A 95) (A 96) (V 90 12) (B 23) (V 23 1) (V 23 2) (V 23 3) (V 23 4) (V 23 5) (A 24) (A 25) (A 26) (A 27) (A 28) (A 29) (V 23 12) (B 30) (V 30 1) (V 30 2) (V 30 3) (V 30 4) (V 30 5) (A 31) (A 32) (A 33) (A 34) (A 35) (A 36) (V 30 12) v1 v2 h0 h1a h1b (by show Option.map _ (kfB v2.toNatClampNeg) = _; rw [hj1]; rfl) hm1) trivial (by decide) (by decide) (qd K_L_law18 10 rfl) rfl hcs rfl rfl rfl rfl (Nat.le_of_ble_eq_true rfl) (Eq.trans (congrArg (fun f => List.map (fun i => (wLx rfB f (va_rf z) (va_rf tx) A V B L M)[i]?) [0, 37, 90, 91, 92, 93, 94, 95, 96, 23, 24, 25, 26, 27, 28, 29, 30, 31, 32, 33, 34, 35, 36]) (qinv_eq [0, 37, 90, 91, 92, 93, 94, 95, 96, 23, 24, 25, 26, 27, 28, 29, 30, 31, 32, 33, 34, 35, 36] kfB).symm) rfl) rfl (Nat.le_of_ble_eq_true rfl) rfl ?_
  refine QG.eqW (Wd' := (wLx rfB (fun j => Option.map (qf [0, 37, 90, 91, 92, 93, 94, 95, 96, 23, 24, 25, 26, 27, 28, 29, 30, 31, 32, 33, 34, 35, 36]) (Option.map (qinv [0, 37, 90, 91, 92, 93, 94, 95, 96, 23, 24, 25, 26, 27, 28, 29, 30, 31, 32, 33, 34, 35, 36]) (kfB j))) (va_rf z) (va_rf tx) A V B L M)) rfl ?_
  rw [qinv_eq [0, 37, 90, 91, 92, 93, 94, 95, 96, 23, 24, 25, 26, 27, 28, 29, 30, 31, 32, 33, 34, 35, 36] kfB]
  show QG X 4 _ _ 1029 _ [.int c1] _ ad _ _
  refine QG.aload_n hX (qd K_L_law18 11 rfl) rfl rfl ?_
  refine QG.aload_ns hX (qd K_L_law18 12 rfl) rfl rfl ?_
  refine QG.iload_n hX (qd K_L_law18 13 rfl) rfl rfl ?_
  refine QG.iconst hX (qd K_L_law18 14 rfl) rfl ki_1 ?_
  refine QG.iadd hX (qd K_L_law18 15 rfl) rfl ?_
  refine QG.scld hX hs0 hsl hsA hsb (qd K_L_law18 16 rfl) rfl hi1 hv1 ?_
  refine QG.aload_ns hX (qd K_L_law18 17 rfl) rfl rfl ?_
  refine QG.iload_n hX (qd K_L_law18 18 rfl) rfl rfl ?_
  refine QG.iconst hX (qd K_L_law18 19 rfl) rfl ki_2 ?_
  refine QG.iadd hX (qd K_L_law18 20 rfl) rfl ?_
  refine QG.scld hX hs0 hsl hsA hsb (qd K_L_law18 21 rfl) rfl hi2 hv2 ?_
  refine QG.callVk (rest := [.int c1]) [104, 105, 106, 107, 108, 109, 110, 111, 112, 113, 114, 115, 116, 117, 118, 119, 120, 121, 122, 123, 124, 125, 126, 127, 128, 129, 130, 131, 132, 133, 134, 135, 136, 137] hz2 hX cw_L_133 (M_X8_ideal X.l (V 104 0) (A 105) (A 106) (A 107) (A 108) (A 109) (A 110) (A 111) (A 112) (V 104 9) (V 104 10) (A 113) (A 114) (A 115) (A 116) M (A 118) (A 119) (A 120) (A 121) (A 122) (A 123) (A 124) (A 125) (A 126) (A 127) (A 128) (V 104 27) (V 104 28) (A 129) (V 104 30) (V 104 31) (V 104 32) (V 104 33) (V 104 34) (V 104 35) (V 104 36) (A 130) (A 131) (A 132) (A 133) (A 134) (A 135) (V 104 43) (V 104 44) (V 104 45) (V 104 46) (A 136) (A 137) v1 v2) trivial (by decide) (by decide) (qd K_L_law18 22 rfl) rfl hcs rfl rfl rfl rfl (Nat.le_of_ble_eq_true rfl) rfl rfl (Nat.le_of_ble_eq_true rfl) rfl ?_
  refine QG.eqW (Wd' := (wLx rfB kfB (va_rf z) (va_rf tx) (va_up (va_up (va_up (va_up (va_up (va_up (va_up (va_up (va_up (va_up (va_up A 119 c2.2.2.1) 120 c2.2.2.2.1) 121 c2.2.2.2.2.1) 122 c2.2.2.2.2.2.1) 123 c2.2.2.2.2.2.2.1) 124 c2.2.2.2.2.2.2.2.1) 125 c2.2.2.2.2.2.2.2.2.1) 126 c2.2.2.2.2.2.2.2.2.2.1) 127 c2.2.2.2.2.2.2.2.2.2.2.1) 136 c2.2.2.2.2.2.2.2.2.2.2.2.2.1) 137 c2.2.2.2.2.2.2.2.2.2.2.2.2.2) (va_up2 (va_up2 V 104 0 c2.2.1) 104 46 c2.2.2.2.2.2.2.2.2.2.2.2.1) B L M)) rfl ?_
  show QG X 4 _ _ 1043 _ [.int c2.1, .int c1] _ ad _ _
  exact QG.ifT (by rw [he]) (QG.icmp_eq (tgt := 1048) (oF := none) hX (qd K_L_law18 23 rfl) rfl (by decide) K QG.nothing)

set_option maxRecDepth 100000 in
set_option maxHeartbeats 4000000 in
theorem C_ideal_no_un3 {X : QX} (hX : qok X code RL 4 (some .boolean) 1000) {Q : Unit → State → Prop} {b LL : Nat} {xs : Nat → Int32} (hs0 : va_X b LL xs X.s X.s.heap) (hsl : b < X.s.heap.size) (hsA : ¬ X.A b) (hsb : X.sA 100 = b) {ad : Nat → Nat} {cells slots : Nat} (hcs : cells ≤ X.R.cells ∧ slots ≤ X.R.slots) {A V : Nat → Nat → Int32} {B : Nat → Bool} {L M : Nat → Int64} {z tx : Option Nat} {x3 : Int32} {v1 : Int32} {v2 : Int32} (hi1 : vp_in (x3 + 1) LL) (hv1 : xs (x3 + 1).toNatClampNeg = v1) (hi2 : vp_in (x3 + 2) LL) (hv2 : xs (x3 + 2).toNatClampNeg = v2) (h0 : v1 < 0 ∨ 4 ≤ v1) (h1a : ¬ v2 < 0) (h1b : ¬ 4 ≤ v2) (hj1 : v2.toNatClampNeg = 3) (hm1 : B 97 = false) {c1 : Int32} {c2 : Int32 × Int32 × (Nat → Int32) × (Nat → Int32) × (Nat → Int32) × (Nat → Int32) × (Nat → Int32) × (Nat → Int32) × (Nat → Int32) × (Nat → Int32) × (Nat → Int32) × Int32 × (Nat → Int32) × (Nat → Int32)} (hz1 : F_X7_ideal_no_un v1 v2 = some c1) (hz2 : F_X8_ideal (V 104 0) (A 119) (A 120) (A 121) (A 122) (A 123) (A 124) (A 125) (A 126) (A 127) (V 104 46) (A 136) (A 137) v1 v2 = some c2) (he : c1 = c2.1)
    (K : QG X 4 Q (some ()) 1048 [(0, .float (UInt32.ofNat 100)), (1, .ref 0), (2, .ref 104), (3, .int x3)] [] (wLx rfB kfB (va_rf z) (va_rf tx) (va_up (va_up (va_up (va_up (va_up (va_up (va_up (va_up (va_up (va_up (va_up A 119 c2.2.2.1) 120 c2.2.2.2.1) 121 c2.2.2.2.2.1) 122 c2.2.2.2.2.2.1) 123 c2.2.2.2.2.2.2.1) 124 c2.2.2.2.2.2.2.2.1) 125 c2.2.2.2.2.2.2.2.2.1) 126 c2.2.2.2.2.2.2.2.2.2.1) 127 c2.2.2.2.2.2.2.2.2.2.2.1) 136 c2.2.2.2.2.2.2.2.2.2.2.2.2.1) 137 c2.2.2.2.2.2.2.2.2.2.2.2.2.2) (va_up2 (va_up2 V 104 0 c2.2.1) 104 46 c2.2.2.2.2.2.2.2.2.2.2.2.1) B L M) ad cells slots) : QG X 4 Q (some ()) 1015 [(0, .float (UInt32.ofNat 100)), (1, .ref 0), (2, .ref 104), (3, .int x3)] [] (wLx rfB kfB (va_rf z) (va_rf tx) A V B L M) ad cells slots := by
  refine QG.aload_n hX (qd K_L_law17 39 rfl) rfl rfl ?_
  refine QG.aload_ns hX (qd K_L_law18 0 rfl) rfl rfl ?_
  refine QG.iload_n hX (qd K_L_law18 1 rfl) rfl rfl ?_
  refine QG.iconst hX (qd K_L_law18 2 rfl) rfl ki_1 ?_
  refine QG.iadd hX (qd K_L_law18 3 rfl) rfl ?_
  refine QG.scld hX hs0 hsl hsA hsb (qd K_L_law18 4 rfl) rfl hi1 hv1 ?_
  refine QG.aload_ns hX (qd K_L_law18 5 rfl) rfl rfl ?_
  refine QG.iload_n hX (qd K_L_law18 6 rfl) rfl rfl ?_
  refine QG.iconst hX (qd K_L_law18 7 rfl) rfl ki_2 ?_
  refine QG.iadd hX (qd K_L_law18 8 rfl) rfl ?_
  refine QG.scld hX hs0 hsl hsA hsb (qd K_L_law18 9 rfl) rfl hi2 hv2 ?_
  refine QG.callVk (rest := []) [0, 37, 97, 98, 99, 100, 101, 102, 103, 23, 24, 25, 26, 27, 28, 29, 30, 31, 32, 33, 34, 35, 36] hz1 hX cw_L_130 (M_X7_ideal_no_un X.l (fun j => Option.map (qinv [0, 37, 97, 98, 99, 100, 101, 102, 103, 23, 24, 25, 26, 27, 28, 29, 30, 31, 32, 33, 34, 35, 36]) (kfB j)) (B 97) (V 97 1) (V 97 2) (V 97 3) (V 97 4) (V 97 5) (A 98) (A 99) (A 100) (A 101) (A 102) (A 103) (V 97 12) (B 23) (V 23 1) (V 23 2) (V 23 3) (V 23 4) (V 23 5) (A 24) (A 25) (A 26) (A 27) (A 28) (A 29) (V 23 12) (B 30) (V 30 1) (V 30 2) (V 30 3) (V 30 4) (V 30 5) (A 31) (A 32) (A 33) (A 34) (A 35) (A 36) (V 30 12) v1 v2 h0 h1a h1b (by show Option.map _ (kfB v2.toNatClampNeg) = _; rw [hj1]; rfl) hm1) trivial (by decide) (by decide) (qd K_L_law18 10 rfl) rfl hcs rfl rfl rfl rfl (Nat.le_of_ble_eq_true rfl) (Eq.trans (congrArg (fun f => List.map (fun i => (wLx rfB f (va_rf z) (va_rf tx) A V B L M)[i]?) [0, 37, 97, 98, 99, 100, 101, 102, 103, 23, 24, 25, 26, 27, 28, 29, 30, 31, 32, 33, 34, 35, 36]) (qinv_eq [0, 37, 97, 98, 99, 100, 101, 102, 103, 23, 24, 25, 26, 27, 28, 29, 30, 31, 32, 33, 34, 35, 36] kfB).symm) rfl) rfl (Nat.le_of_ble_eq_true rfl) rfl ?_
  refine QG.eqW (Wd' := (wLx rfB (fun j => Option.map (qf [0, 37, 97, 98, 99, 100, 101, 102, 103, 23, 24, 25, 26, 27, 28, 29, 30, 31, 32, 33, 34, 35, 36]) (Option.map (qinv [0, 37, 97, 98, 99, 100, 101, 102, 103, 23, 24, 25, 26, 27, 28, 29, 30, 31, 32, 33, 34, 35, 36]) (kfB j))) (va_rf z) (va_rf tx) A V B L M)) rfl ?_
  rw [qinv_eq [0, 37, 97, 98, 99, 100, 101, 102, 103, 23, 24, 25, 26, 27, 28, 29, 30, 31, 32, 33, 34, 35, 36] kfB]
  show QG X 4 _ _ 1029 _ [.int c1] _ ad _ _
  refine QG.aload_n hX (qd K_L_law18 11 rfl) rfl rfl ?_
  refine QG.aload_ns hX (qd K_L_law18 12 rfl) rfl rfl ?_
  refine QG.iload_n hX (qd K_L_law18 13 rfl) rfl rfl ?_
  refine QG.iconst hX (qd K_L_law18 14 rfl) rfl ki_1 ?_
  refine QG.iadd hX (qd K_L_law18 15 rfl) rfl ?_
  refine QG.scld hX hs0 hsl hsA hsb (qd K_L_law18 16 rfl) rfl hi1 hv1 ?_
  refine QG.aload_ns hX (qd K_L_law18 17 rfl) rfl rfl ?_
  refine QG.iload_n hX (qd K_L_law18 18 rfl) rfl rfl ?_
  refine QG.iconst hX (qd K_L_law18 19 rfl) rfl ki_2 ?_
  refine QG.iadd hX (qd K_L_law18 20 rfl) rfl ?_
  refine QG.scld hX hs0 hsl hsA hsb (qd K_L_law18 21 rfl) rfl hi2 hv2 ?_
  refine QG.callVk (rest := [.int c1]) [104, 105, 106, 107, 108, 109, 110, 111, 112, 113, 114, 115, 116, 117, 118, 119, 120, 121, 122, 123, 124, 125, 126, 127, 128, 129, 130, 131, 132, 133, 134, 135, 136, 137] hz2 hX cw_L_133 (M_X8_ideal X.l (V 104 0) (A 105) (A 106) (A 107) (A 108) (A 109) (A 110) (A 111) (A 112) (V 104 9) (V 104 10) (A 113) (A 114) (A 115) (A 116) M (A 118) (A 119) (A 120) (A 121) (A 122) (A 123) (A 124) (A 125) (A 126) (A 127) (A 128) (V 104 27) (V 104 28) (A 129) (V 104 30) (V 104 31) (V 104 32) (V 104 33) (V 104 34) (V 104 35) (V 104 36) (A 130) (A 131) (A 132) (A 133) (A 134) (A 135) (V 104 43) (V 104 44) (V 104 45) (V 104 46) (A 136) (A 137) v1 v2) trivial (by decide) (by decide) (qd K_L_law18 22 rfl) rfl hcs rfl rfl rfl rfl (Nat.le_of_ble_eq_true rfl) rfl rfl (Nat.le_of_ble_eq_true rfl) rfl ?_
  refine QG.eqW (Wd' := (wLx rfB kfB (va_rf z) (va_rf tx) (va_up (va_up (va_up (va_up (va_up (va_up (va_up (va_up (va_up (va_up (va_up A 119 c2.2.2.1) 120 c2.2.2.2.1) 121 c2.2.2.2.2.1) 122 c2.2.2.2.2.2.1) 123 c2.2.2.2.2.2.2.1) 124 c2.2.2.2.2.2.2.2.1) 125 c2.2.2.2.2.2.2.2.2.1) 126 c2.2.2.2.2.2.2.2.2.2.1) 127 c2.2.2.2.2.2.2.2.2.2.2.1) 136 c2.2.2.2.2.2.2.2.2.2.2.2.2.1) 137 c2.2.2.2.2.2.2.2.2.2.2.2.2.2) (va_up2 (va_up2 V 104 0 c2.2.1) 104 46 c2.2.2.2.2.2.2.2.2.2.2.2.1) B L M)) rfl ?_
  show QG X 4 _ _ 1043 _ [.int c2.1, .int c1] _ ad _ _
  exact QG.ifT (by rw [he]) (QG.icmp_eq (tgt := 1048) (oF := none) hX (qd K_L_law18 23 rfl) rfl (by decide) K QG.nothing)

set_option maxRecDepth 100000 in
set_option maxHeartbeats 4000000 in
theorem C_ideal_no_ok0 {X : QX} (hX : qok X code RL 4 (some .boolean) 1000) {Q : Unit → State → Prop} {b LL : Nat} {xs : Nat → Int32} (hs0 : va_X b LL xs X.s X.s.heap) (hsl : b < X.s.heap.size) (hsA : ¬ X.A b) (hsb : X.sA 100 = b) {ad : Nat → Nat} {cells slots : Nat} (hcs : cells ≤ X.R.cells ∧ slots ≤ X.R.slots) {A V : Nat → Nat → Int32} {B : Nat → Bool} {L M : Nat → Int64} {z tx : Option Nat} {x3 : Int32} {v1 : Int32} {v2 : Int32} (hi1 : vp_in (x3 + 1) LL) (hv1 : xs (x3 + 1).toNatClampNeg = v1) (hi2 : vp_in (x3 + 2) LL) (hv2 : xs (x3 + 2).toNatClampNeg = v2) (h0 : v1 < 0 ∨ 4 ≤ v1) (h1a : ¬ v2 < 0) (h1b : ¬ 4 ≤ v2) (hj1 : v2.toNatClampNeg = 0) (hm1 : B 76 = true) {c1 : Int32} {c2 : Int32 × Int32 × (Nat → Int32) × (Nat → Int32) × (Nat → Int32) × (Nat → Int32) × (Nat → Int32) × (Nat → Int32) × (Nat → Int32) × (Nat → Int32) × (Nat → Int32) × Int32 × (Nat → Int32) × (Nat → Int32)} (hz1 : F_X7_ideal_no_ok v1 v2 = some c1) (hz2 : F_X8_ideal (V 104 0) (A 119) (A 120) (A 121) (A 122) (A 123) (A 124) (A 125) (A 126) (A 127) (V 104 46) (A 136) (A 137) v1 v2 = some c2) (he : c1 = c2.1)
    (K : QG X 4 Q (some ()) 1048 [(0, .float (UInt32.ofNat 100)), (1, .ref 0), (2, .ref 104), (3, .int x3)] [] (wLx rfB kfB (va_rf z) (va_rf tx) (va_up (va_up (va_up (va_up (va_up (va_up (va_up (va_up (va_up (va_up (va_up A 119 c2.2.2.1) 120 c2.2.2.2.1) 121 c2.2.2.2.2.1) 122 c2.2.2.2.2.2.1) 123 c2.2.2.2.2.2.2.1) 124 c2.2.2.2.2.2.2.2.1) 125 c2.2.2.2.2.2.2.2.2.1) 126 c2.2.2.2.2.2.2.2.2.2.1) 127 c2.2.2.2.2.2.2.2.2.2.2.1) 136 c2.2.2.2.2.2.2.2.2.2.2.2.2.1) 137 c2.2.2.2.2.2.2.2.2.2.2.2.2.2) (va_up2 (va_up2 V 104 0 c2.2.1) 104 46 c2.2.2.2.2.2.2.2.2.2.2.2.1) B L M) ad cells slots) : QG X 4 Q (some ()) 1015 [(0, .float (UInt32.ofNat 100)), (1, .ref 0), (2, .ref 104), (3, .int x3)] [] (wLx rfB kfB (va_rf z) (va_rf tx) A V B L M) ad cells slots := by
  refine QG.aload_n hX (qd K_L_law17 39 rfl) rfl rfl ?_
  refine QG.aload_ns hX (qd K_L_law18 0 rfl) rfl rfl ?_
  refine QG.iload_n hX (qd K_L_law18 1 rfl) rfl rfl ?_
  refine QG.iconst hX (qd K_L_law18 2 rfl) rfl ki_1 ?_
  refine QG.iadd hX (qd K_L_law18 3 rfl) rfl ?_
  refine QG.scld hX hs0 hsl hsA hsb (qd K_L_law18 4 rfl) rfl hi1 hv1 ?_
  refine QG.aload_ns hX (qd K_L_law18 5 rfl) rfl rfl ?_
  refine QG.iload_n hX (qd K_L_law18 6 rfl) rfl rfl ?_
  refine QG.iconst hX (qd K_L_law18 7 rfl) rfl ki_2 ?_
  refine QG.iadd hX (qd K_L_law18 8 rfl) rfl ?_
  refine QG.scld hX hs0 hsl hsA hsb (qd K_L_law18 9 rfl) rfl hi2 hv2 ?_
  refine QG.callVk (rest := []) [0, 37, 76, 77, 78, 79, 80, 81, 82, 23, 24, 25, 26, 27, 28, 29, 30, 31, 32, 33, 34, 35, 36] hz1 hX cw_L_130 (M_X7_ideal_no_ok X.l (fun j => Option.map (qinv [0, 37, 76, 77, 78, 79, 80, 81, 82, 23, 24, 25, 26, 27, 28, 29, 30, 31, 32, 33, 34, 35, 36]) (kfB j)) (B 76) (V 76 1) (V 76 2) (V 76 3) (V 76 4) (V 76 5) (A 77) (A 78) (A 79) (A 80) (A 81) (A 82) (V 76 12) (B 23) (V 23 1) (V 23 2) (V 23 3) (V 23 4) (V 23 5) (A 24) (A 25) (A 26) (A 27) (A 28) (A 29) (V 23 12) (B 30) (V 30 1) (V 30 2) (V 30 3) (V 30 4) (V 30 5) (A 31) (A 32) (A 33) (A 34) (A 35) (A 36) (V 30 12) v1 v2 h0 h1a h1b (by show Option.map _ (kfB v2.toNatClampNeg) = _; rw [hj1]; rfl) hm1) trivial (by decide) (by decide) (qd K_L_law18 10 rfl) rfl hcs rfl rfl rfl rfl (Nat.le_of_ble_eq_true rfl) (Eq.trans (congrArg (fun f => List.map (fun i => (wLx rfB f (va_rf z) (va_rf tx) A V B L M)[i]?) [0, 37, 76, 77, 78, 79, 80, 81, 82, 23, 24, 25, 26, 27, 28, 29, 30, 31, 32, 33, 34, 35, 36]) (qinv_eq [0, 37, 76, 77, 78, 79, 80, 81, 82, 23, 24, 25, 26, 27, 28, 29, 30, 31, 32, 33, 34, 35, 36] kfB).symm) rfl) rfl (Nat.le_of_ble_eq_true rfl) rfl ?_
  refine QG.eqW (Wd' := (wLx rfB (fun j => Option.map (qf [0, 37, 76, 77, 78, 79, 80, 81, 82, 23, 24, 25, 26, 27, 28, 29, 30, 31, 32, 33, 34, 35, 36]) (Option.map (qinv [0, 37, 76, 77, 78, 79, 80, 81, 82, 23, 24, 25, 26, 27, 28, 29, 30, 31, 32, 33, 34, 35, 36]) (kfB j))) (va_rf z) (va_rf tx) A V B L M)) rfl ?_
  rw [qinv_eq [0, 37, 76, 77, 78, 79, 80, 81, 82, 23, 24, 25, 26, 27, 28, 29, 30, 31, 32, 33, 34, 35, 36] kfB]
  show QG X 4 _ _ 1029 _ [.int c1] _ ad _ _
  refine QG.aload_n hX (qd K_L_law18 11 rfl) rfl rfl ?_
  refine QG.aload_ns hX (qd K_L_law18 12 rfl) rfl rfl ?_
  refine QG.iload_n hX (qd K_L_law18 13 rfl) rfl rfl ?_
  refine QG.iconst hX (qd K_L_law18 14 rfl) rfl ki_1 ?_
  refine QG.iadd hX (qd K_L_law18 15 rfl) rfl ?_
  refine QG.scld hX hs0 hsl hsA hsb (qd K_L_law18 16 rfl) rfl hi1 hv1 ?_
  refine QG.aload_ns hX (qd K_L_law18 17 rfl) rfl rfl ?_
  refine QG.iload_n hX (qd K_L_law18 18 rfl) rfl rfl ?_
  refine QG.iconst hX (qd K_L_law18 19 rfl) rfl ki_2 ?_
  refine QG.iadd hX (qd K_L_law18 20 rfl) rfl ?_
  refine QG.scld hX hs0 hsl hsA hsb (qd K_L_law18 21 rfl) rfl hi2 hv2 ?_
  refine QG.callVk (rest := [.int c1]) [104, 105, 106, 107, 108, 109, 110, 111, 112, 113, 114, 115, 116, 117, 118, 119, 120, 121, 122, 123, 124, 125, 126, 127, 128, 129, 130, 131, 132, 133, 134, 135, 136, 137] hz2 hX cw_L_133 (M_X8_ideal X.l (V 104 0) (A 105) (A 106) (A 107) (A 108) (A 109) (A 110) (A 111) (A 112) (V 104 9) (V 104 10) (A 113) (A 114) (A 115) (A 116) M (A 118) (A 119) (A 120) (A 121) (A 122) (A 123) (A 124) (A 125) (A 126) (A 127) (A 128) (V 104 27) (V 104 28) (A 129) (V 104 30) (V 104 31) (V 104 32) (V 104 33) (V 104 34) (V 104 35) (V 104 36) (A 130) (A 131) (A 132) (A 133) (A 134) (A 135) (V 104 43) (V 104 44) (V 104 45) (V 104 46) (A 136) (A 137) v1 v2) trivial (by decide) (by decide) (qd K_L_law18 22 rfl) rfl hcs rfl rfl rfl rfl (Nat.le_of_ble_eq_true rfl) rfl rfl (Nat.le_of_ble_eq_true rfl) rfl ?_
  refine QG.eqW (Wd' := (wLx rfB kfB (va_rf z) (va_rf tx) (va_up (va_up (va_up (va_up (va_up (va_up (va_up (va_up (va_up (va_up (va_up A 119 c2.2.2.1) 120 c2.2.2.2.1) 121 c2.2.2.2.2.1) 122 c2.2.2.2.2.2.1) 123 c2.2.2.2.2.2.2.1) 124 c2.2.2.2.2.2.2.2.1) 125 c2.2.2.2.2.2.2.2.2.1) 126 c2.2.2.2.2.2.2.2.2.2.1) 127 c2.2.2.2.2.2.2.2.2.2.2.1) 136 c2.2.2.2.2.2.2.2.2.2.2.2.2.1) 137 c2.2.2.2.2.2.2.2.2.2.2.2.2.2) (va_up2 (va_up2 V 104 0 c2.2.1) 104 46 c2.2.2.2.2.2.2.2.2.2.2.2.1) B L M)) rfl ?_
  show QG X 4 _ _ 1043 _ [.int c2.1, .int c1] _ ad _ _
  exact QG.ifT (by rw [he]) (QG.icmp_eq (tgt := 1048) (oF := none) hX (qd K_L_law18 23 rfl) rfl (by decide) K QG.nothing)

set_option maxRecDepth 100000 in
set_option maxHeartbeats 4000000 in
theorem C_ideal_no_ok1 {X : QX} (hX : qok X code RL 4 (some .boolean) 1000) {Q : Unit → State → Prop} {b LL : Nat} {xs : Nat → Int32} (hs0 : va_X b LL xs X.s X.s.heap) (hsl : b < X.s.heap.size) (hsA : ¬ X.A b) (hsb : X.sA 100 = b) {ad : Nat → Nat} {cells slots : Nat} (hcs : cells ≤ X.R.cells ∧ slots ≤ X.R.slots) {A V : Nat → Nat → Int32} {B : Nat → Bool} {L M : Nat → Int64} {z tx : Option Nat} {x3 : Int32} {v1 : Int32} {v2 : Int32} (hi1 : vp_in (x3 + 1) LL) (hv1 : xs (x3 + 1).toNatClampNeg = v1) (hi2 : vp_in (x3 + 2) LL) (hv2 : xs (x3 + 2).toNatClampNeg = v2) (h0 : v1 < 0 ∨ 4 ≤ v1) (h1a : ¬ v2 < 0) (h1b : ¬ 4 ≤ v2) (hj1 : v2.toNatClampNeg = 1) (hm1 : B 83 = true) {c1 : Int32} {c2 : Int32 × Int32 × (Nat → Int32) × (Nat → Int32) × (Nat → Int32) × (Nat → Int32) × (Nat → Int32) × (Nat → Int32) × (Nat → Int32) × (Nat → Int32) × (Nat → Int32) × Int32 × (Nat → Int32) × (Nat → Int32)} (hz1 : F_X7_ideal_no_ok v1 v2 = some c1) (hz2 : F_X8_ideal (V 104 0) (A 119) (A 120) (A 121) (A 122) (A 123) (A 124) (A 125) (A 126) (A 127) (V 104 46) (A 136) (A 137) v1 v2 = some c2) (he : c1 = c2.1)
    (K : QG X 4 Q (some ()) 1048 [(0, .float (UInt32.ofNat 100)), (1, .ref 0), (2, .ref 104), (3, .int x3)] [] (wLx rfB kfB (va_rf z) (va_rf tx) (va_up (va_up (va_up (va_up (va_up (va_up (va_up (va_up (va_up (va_up (va_up A 119 c2.2.2.1) 120 c2.2.2.2.1) 121 c2.2.2.2.2.1) 122 c2.2.2.2.2.2.1) 123 c2.2.2.2.2.2.2.1) 124 c2.2.2.2.2.2.2.2.1) 125 c2.2.2.2.2.2.2.2.2.1) 126 c2.2.2.2.2.2.2.2.2.2.1) 127 c2.2.2.2.2.2.2.2.2.2.2.1) 136 c2.2.2.2.2.2.2.2.2.2.2.2.2.1) 137 c2.2.2.2.2.2.2.2.2.2.2.2.2.2) (va_up2 (va_up2 V 104 0 c2.2.1) 104 46 c2.2.2.2.2.2.2.2.2.2.2.2.1) B L M) ad cells slots) : QG X 4 Q (some ()) 1015 [(0, .float (UInt32.ofNat 100)), (1, .ref 0), (2, .ref 104), (3, .int x3)] [] (wLx rfB kfB (va_rf z) (va_rf tx) A V B L M) ad cells slots := by
  refine QG.aload_n hX (qd K_L_law17 39 rfl) rfl rfl ?_
  refine QG.aload_ns hX (qd K_L_law18 0 rfl) rfl rfl ?_
  refine QG.iload_n hX (qd K_L_law18 1 rfl) rfl rfl ?_
  refine QG.iconst hX (qd K_L_law18 2 rfl) rfl ki_1 ?_
  refine QG.iadd hX (qd K_L_law18 3 rfl) rfl ?_
  refine QG.scld hX hs0 hsl hsA hsb (qd K_L_law18 4 rfl) rfl hi1 hv1 ?_
  refine QG.aload_ns hX (qd K_L_law18 5 rfl) rfl rfl ?_
  refine QG.iload_n hX (qd K_L_law18 6 rfl) rfl rfl ?_
  refine QG.iconst hX (qd K_L_law18 7 rfl) rfl ki_2 ?_
  refine QG.iadd hX (qd K_L_law18 8 rfl) rfl ?_
  refine QG.scld hX hs0 hsl hsA hsb (qd K_L_law18 9 rfl) rfl hi2 hv2 ?_
  refine QG.callVk (rest := []) [0, 37, 83, 84, 85, 86, 87, 88, 89, 23, 24, 25, 26, 27, 28, 29, 30, 31, 32, 33, 34, 35, 36] hz1 hX cw_L_130 (M_X7_ideal_no_ok X.l (fun j => Option.map (qinv [0, 37, 83, 84, 85, 86, 87, 88, 89, 23, 24, 25, 26, 27, 28, 29, 30, 31, 32, 33, 34, 35, 36]) (kfB j)) (B 83) (V 83 1) (V 83 2) (V 83 3) (V 83 4) (V 83 5) (A 84) (A 85) (A 86) (A 87) (A 88) (A 89) (V 83 12) (B 23) (V 23 1) (V 23 2) (V 23 3) (V 23 4) (V 23 5) (A 24) (A 25) (A 26) (A 27) (A 28) (A 29) (V 23 12) (B 30) (V 30 1) (V 30 2) (V 30 3) (V 30 4) (V 30 5) (A 31) (A 32) (A 33) (A 34) (A 35) (A 36) (V 30 12) v1 v2 h0 h1a h1b (by show Option.map _ (kfB v2.toNatClampNeg) = _; rw [hj1]; rfl) hm1) trivial (by decide) (by decide) (qd K_L_law18 10 rfl) rfl hcs rfl rfl rfl rfl (Nat.le_of_ble_eq_true rfl) (Eq.trans (congrArg (fun f => List.map (fun i => (wLx rfB f (va_rf z) (va_rf tx) A V B L M)[i]?) [0, 37, 83, 84, 85, 86, 87, 88, 89, 23, 24, 25, 26, 27, 28, 29, 30, 31, 32, 33, 34, 35, 36]) (qinv_eq [0, 37, 83, 84, 85, 86, 87, 88, 89, 23, 24, 25, 26, 27, 28, 29, 30, 31, 32, 33, 34, 35, 36] kfB).symm) rfl) rfl (Nat.le_of_ble_eq_true rfl) rfl ?_
  refine QG.eqW (Wd' := (wLx rfB (fun j => Option.map (qf [0, 37, 83, 84, 85, 86, 87, 88, 89, 23, 24, 25, 26, 27, 28, 29, 30, 31, 32, 33, 34, 35, 36]) (Option.map (qinv [0, 37, 83, 84, 85, 86, 87, 88, 89, 23, 24, 25, 26, 27, 28, 29, 30, 31, 32, 33, 34, 35, 36]) (kfB j))) (va_rf z) (va_rf tx) A V B L M)) rfl ?_
  rw [qinv_eq [0, 37, 83, 84, 85, 86, 87, 88, 89, 23, 24, 25, 26, 27, 28, 29, 30, 31, 32, 33, 34, 35, 36] kfB]
  show QG X 4 _ _ 1029 _ [.int c1] _ ad _ _
  refine QG.aload_n hX (qd K_L_law18 11 rfl) rfl rfl ?_
  refine QG.aload_ns hX (qd K_L_law18 12 rfl) rfl rfl ?_
  refine QG.iload_n hX (qd K_L_law18 13 rfl) rfl rfl ?_
  refine QG.iconst hX (qd K_L_law18 14 rfl) rfl ki_1 ?_
  refine QG.iadd hX (qd K_L_law18 15 rfl) rfl ?_
  refine QG.scld hX hs0 hsl hsA hsb (qd K_L_law18 16 rfl) rfl hi1 hv1 ?_
  refine QG.aload_ns hX (qd K_L_law18 17 rfl) rfl rfl ?_
  refine QG.iload_n hX (qd K_L_law18 18 rfl) rfl rfl ?_
  refine QG.iconst hX (qd K_L_law18 19 rfl) rfl ki_2 ?_
  refine QG.iadd hX (qd K_L_law18 20 rfl) rfl ?_
  refine QG.scld hX hs0 hsl hsA hsb (qd K_L_law18 21 rfl) rfl hi2 hv2 ?_
  refine QG.callVk (rest := [.int c1]) [104, 105, 106, 107, 108, 109, 110, 111, 112, 113, 114, 115, 116, 117, 118, 119, 120, 121, 122, 123, 124, 125, 126, 127, 128, 129, 130, 131, 132, 133, 134, 135, 136, 137] hz2 hX cw_L_133 (M_X8_ideal X.l (V 104 0) (A 105) (A 106) (A 107) (A 108) (A 109) (A 110) (A 111) (A 112) (V 104 9) (V 104 10) (A 113) (A 114) (A 115) (A 116) M (A 118) (A 119) (A 120) (A 121) (A 122) (A 123) (A 124) (A 125) (A 126) (A 127) (A 128) (V 104 27) (V 104 28) (A 129) (V 104 30) (V 104 31) (V 104 32) (V 104 33) (V 104 34) (V 104 35) (V 104 36) (A 130) (A 131) (A 132) (A 133) (A 134) (A 135) (V 104 43) (V 104 44) (V 104 45) (V 104 46) (A 136) (A 137) v1 v2) trivial (by decide) (by decide) (qd K_L_law18 22 rfl) rfl hcs rfl rfl rfl rfl (Nat.le_of_ble_eq_true rfl) rfl rfl (Nat.le_of_ble_eq_true rfl) rfl ?_
  refine QG.eqW (Wd' := (wLx rfB kfB (va_rf z) (va_rf tx) (va_up (va_up (va_up (va_up (va_up (va_up (va_up (va_up (va_up (va_up (va_up A 119 c2.2.2.1) 120 c2.2.2.2.1) 121 c2.2.2.2.2.1) 122 c2.2.2.2.2.2.1) 123 c2.2.2.2.2.2.2.1) 124 c2.2.2.2.2.2.2.2.1) 125 c2.2.2.2.2.2.2.2.2.1) 126 c2.2.2.2.2.2.2.2.2.2.1) 127 c2.2.2.2.2.2.2.2.2.2.2.1) 136 c2.2.2.2.2.2.2.2.2.2.2.2.2.1) 137 c2.2.2.2.2.2.2.2.2.2.2.2.2.2) (va_up2 (va_up2 V 104 0 c2.2.1) 104 46 c2.2.2.2.2.2.2.2.2.2.2.2.1) B L M)) rfl ?_
  show QG X 4 _ _ 1043 _ [.int c2.1, .int c1] _ ad _ _
  exact QG.ifT (by rw [he]) (QG.icmp_eq (tgt := 1048) (oF := none) hX (qd K_L_law18 23 rfl) rfl (by decide) K QG.nothing)

set_option maxRecDepth 100000 in
set_option maxHeartbeats 4000000 in
theorem C_ideal_no_ok2 {X : QX} (hX : qok X code RL 4 (some .boolean) 1000) {Q : Unit → State → Prop} {b LL : Nat} {xs : Nat → Int32} (hs0 : va_X b LL xs X.s X.s.heap) (hsl : b < X.s.heap.size) (hsA : ¬ X.A b) (hsb : X.sA 100 = b) {ad : Nat → Nat} {cells slots : Nat} (hcs : cells ≤ X.R.cells ∧ slots ≤ X.R.slots) {A V : Nat → Nat → Int32} {B : Nat → Bool} {L M : Nat → Int64} {z tx : Option Nat} {x3 : Int32} {v1 : Int32} {v2 : Int32} (hi1 : vp_in (x3 + 1) LL) (hv1 : xs (x3 + 1).toNatClampNeg = v1) (hi2 : vp_in (x3 + 2) LL) (hv2 : xs (x3 + 2).toNatClampNeg = v2) (h0 : v1 < 0 ∨ 4 ≤ v1) (h1a : ¬ v2 < 0) (h1b : ¬ 4 ≤ v2) (hj1 : v2.toNatClampNeg = 2) (hm1 : B 90 = true) {c1 : Int32} {c2 : Int32 × Int32 × (Nat → Int32) × (Nat → Int32) × (Nat → Int32) × (Nat → Int32) × (Nat → Int32) × (Nat → Int32) × (Nat → Int32) × (Nat → Int32) × (Nat → Int32) × Int32 × (Nat → Int32) × (Nat → Int32)} (hz1 : F_X7_ideal_no_ok v1 v2 = some c1) (hz2 : F_X8_ideal (V 104 0) (A 119) (A 120) (A 121) (A 122) (A 123) (A 124) (A 125) (A 126) (A 127) (V 104 46) (A 136) (A 137) v1 v2 = some c2) (he : c1 = c2.1)
    (K : QG X 4 Q (some ()) 1048 [(0, .float (UInt32.ofNat 100)), (1, .ref 0), (2, .ref 104), (3, .int x3)] [] (wLx rfB kfB (va_rf z) (va_rf tx) (va_up (va_up (va_up (va_up (va_up (va_up (va_up (va_up (va_up (va_up (va_up A 119 c2.2.2.1) 120 c2.2.2.2.1) 121 c2.2.2.2.2.1) 122 c2.2.2.2.2.2.1) 123 c2.2.2.2.2.2.2.1) 124 c2.2.2.2.2.2.2.2.1) 125 c2.2.2.2.2.2.2.2.2.1) 126 c2.2.2.2.2.2.2.2.2.2.1) 127 c2.2.2.2.2.2.2.2.2.2.2.1) 136 c2.2.2.2.2.2.2.2.2.2.2.2.2.1) 137 c2.2.2.2.2.2.2.2.2.2.2.2.2.2) (va_up2 (va_up2 V 104 0 c2.2.1) 104 46 c2.2.2.2.2.2.2.2.2.2.2.2.1) B L M) ad cells slots) : QG X 4 Q (some ()) 1015 [(0, .float (UInt32.ofNat 100)), (1, .ref 0), (2, .ref 104), (3, .int x3)] [] (wLx rfB kfB (va_rf z) (va_rf tx) A V B L M) ad cells slots := by
  refine QG.aload_n hX (qd K_L_law17 39 rfl) rfl rfl ?_
  refine QG.aload_ns hX (qd K_L_law18 0 rfl) rfl rfl ?_
  refine QG.iload_n hX (qd K_L_law18 1 rfl) rfl rfl ?_
  refine QG.iconst hX (qd K_L_law18 2 rfl) rfl ki_1 ?_
  refine QG.iadd hX (qd K_L_law18 3 rfl) rfl ?_
  refine QG.scld hX hs0 hsl hsA hsb (qd K_L_law18 4 rfl) rfl hi1 hv1 ?_
  refine QG.aload_ns hX (qd K_L_law18 5 rfl) rfl rfl ?_
  refine QG.iload_n hX (qd K_L_law18 6 rfl) rfl rfl ?_
  refine QG.iconst hX (qd K_L_law18 7 rfl) rfl ki_2 ?_
  refine QG.iadd hX (qd K_L_law18 8 rfl) rfl ?_
  refine QG.scld hX hs0 hsl hsA hsb (qd K_L_law18 9 rfl) rfl hi2 hv2 ?_
  refine QG.callVk (rest := []) [0, 37, 90, 91, 92, 93, 94, 95, 96, 23, 24, 25, 26, 27, 28, 29, 30, 31, 32, 33, 34, 35, 36] hz1 hX cw_L_130 (M_X7_ideal_no_ok X.l (fun j => Option.map (qinv [0, 37, 90, 91, 92, 93, 94, 95, 96, 23, 24, 25, 26, 27, 28, 29, 30, 31, 32, 33, 34, 35, 36]) (kfB j)) (B 90) (V 90 1) (V 90 2) (V 90 3) (V 90 4) (V 90 5) (A 91) (A 92) (A 93) (A 94) (A 95) (A 96) (V 90 12) (B 23) (V 23 1) (V 23 2) (V 23 3) (V 23 4) (V 23 5) (A 24) (A 25) (A 26) (A 27) (A 28) (A 29) (V 23 12) (B 30) (V 30 1) (V 30 2) (V 30 3) (V 30 4) (V 30 5) (A 31) (A 32) (A 33) (A 34) (A 35) (A 36) (V 30 12) v1 v2 h0 h1a h1b (by show Option.map _ (kfB v2.toNatClampNeg) = _; rw [hj1]; rfl) hm1) trivial (by decide) (by decide) (qd K_L_law18 10 rfl) rfl hcs rfl rfl rfl rfl (Nat.le_of_ble_eq_true rfl) (Eq.trans (congrArg (fun f => List.map (fun i => (wLx rfB f (va_rf z) (va_rf tx) A V B L M)[i]?) [0, 37, 90, 91, 92, 93, 94, 95, 96, 23, 24, 25, 26, 27, 28, 29, 30, 31, 32, 33, 34, 35, 36]) (qinv_eq [0, 37, 90, 91, 92, 93, 94, 95, 96, 23, 24, 25, 26, 27, 28, 29, 30, 31, 32, 33, 34, 35, 36] kfB).symm) rfl) rfl (Nat.le_of_ble_eq_true rfl) rfl ?_
  refine QG.eqW (Wd' := (wLx rfB (fun j => Option.map (qf [0, 37, 90, 91, 92, 93, 94, 95, 96, 23, 24, 25, 26, 27, 28, 29, 30, 31, 32, 33, 34, 35, 36]) (Option.map (qinv [0, 37, 90, 91, 92, 93, 94, 95, 96, 23, 24, 25, 26, 27, 28, 29, 30, 31, 32, 33, 34, 35, 36]) (kfB j))) (va_rf z) (va_rf tx) A V B L M)) rfl ?_
  rw [qinv_eq [0, 37, 90, 91, 92, 93, 94, 95, 96, 23, 24, 25, 26, 27, 28, 29, 30, 31, 32, 33, 34, 35, 36] kfB]
  show QG X 4 _ _ 1029 _ [.int c1] _ ad _ _
  refine QG.aload_n hX (qd K_L_law18 11 rfl) rfl rfl ?_
  refine QG.aload_ns hX (qd K_L_law18 12 rfl) rfl rfl ?_
  refine QG.iload_n hX (qd K_L_law18 13 rfl) rfl rfl ?_
  refine QG.iconst hX (qd K_L_law18 14 rfl) rfl ki_1 ?_
  refine QG.iadd hX (qd K_L_law18 15 rfl) rfl ?_
  refine QG.scld hX hs0 hsl hsA hsb (qd K_L_law18 16 rfl) rfl hi1 hv1 ?_
  refine QG.aload_ns hX (qd K_L_law18 17 rfl) rfl rfl ?_
  refine QG.iload_n hX (qd K_L_law18 18 rfl) rfl rfl ?_
  refine QG.iconst hX (qd K_L_law18 19 rfl) rfl ki_2 ?_
  refine QG.iadd hX (qd K_L_law18 20 rfl) rfl ?_
  refine QG.scld hX hs0 hsl hsA hsb (qd K_L_law18 21 rfl) rfl hi2 hv2 ?_
  refine QG.callVk (rest := [.int c1]) [104, 105, 106, 107, 108, 109, 110, 111, 112, 113, 114, 115, 116, 117, 118, 119, 120, 121, 122, 123, 124, 125, 126, 127, 128, 129, 130, 131, 132, 133, 134, 135, 136, 137] hz2 hX cw_L_133 (M_X8_ideal X.l (V 104 0) (A 105) (A 106) (A 107) (A 108) (A 109) (A 110) (A 111) (A 112) (V 104 9) (V 104 10) (A 113) (A 114) (A 115) (A 116) M (A 118) (A 119) (A 120) (A 121) (A 122) (A 123) (A 124) (A 125) (A 126) (A 127) (A 128) (V 104 27) (V 104 28) (A 129) (V 104 30) (V 104 31) (V 104 32) (V 104 33) (V 104 34) (V 104 35) (V 104 36) (A 130) (A 131) (A 132) (A 133) (A 134) (A 135) (V 104 43) (V 104 44) (V 104 45) (V 104 46) (A 136) (A 137) v1 v2) trivial (by decide) (by decide) (qd K_L_law18 22 rfl) rfl hcs rfl rfl rfl rfl (Nat.le_of_ble_eq_true rfl) rfl rfl (Nat.le_of_ble_eq_true rfl) rfl ?_
  refine QG.eqW (Wd' := (wLx rfB kfB (va_rf z) (va_rf tx) (va_up (va_up (va_up (va_up (va_up (va_up (va_up (va_up (va_up (va_up (va_up A 119 c2.2.2.1) 120 c2.2.2.2.1) 121 c2.2.2.2.2.1) 122 c2.2.2.2.2.2.1) 123 c2.2.2.2.2.2.2.1) 124 c2.2.2.2.2.2.2.2.1) 125 c2.2.2.2.2.2.2.2.2.1) 126 c2.2.2.2.2.2.2.2.2.2.1) 127 c2.2.2.2.2.2.2.2.2.2.2.1) 136 c2.2.2.2.2.2.2.2.2.2.2.2.2.1) 137 c2.2.2.2.2.2.2.2.2.2.2.2.2.2) (va_up2 (va_up2 V 104 0 c2.2.1) 104 46 c2.2.2.2.2.2.2.2.2.2.2.2.1) B L M)) rfl ?_
  show QG X 4 _ _ 1043 _ [.int c2.1, .int c1] _ ad _ _
  exact QG.ifT (by rw [he]) (QG.icmp_eq (tgt := 1048) (oF := none) hX (qd K_L_law18 23 rfl) rfl (by decide) K QG.nothing)

set_option maxRecDepth 100000 in
set_option maxHeartbeats 4000000 in
theorem C_ideal_no_ok3 {X : QX} (hX : qok X code RL 4 (some .boolean) 1000) {Q : Unit → State → Prop} {b LL : Nat} {xs : Nat → Int32} (hs0 : va_X b LL xs X.s X.s.heap) (hsl : b < X.s.heap.size) (hsA : ¬ X.A b) (hsb : X.sA 100 = b) {ad : Nat → Nat} {cells slots : Nat} (hcs : cells ≤ X.R.cells ∧ slots ≤ X.R.slots) {A V : Nat → Nat → Int32} {B : Nat → Bool} {L M : Nat → Int64} {z tx : Option Nat} {x3 : Int32} {v1 : Int32} {v2 : Int32} (hi1 : vp_in (x3 + 1) LL) (hv1 : xs (x3 + 1).toNatClampNeg = v1) (hi2 : vp_in (x3 + 2) LL) (hv2 : xs (x3 + 2).toNatClampNeg = v2) (h0 : v1 < 0 ∨ 4 ≤ v1) (h1a : ¬ v2 < 0) (h1b : ¬ 4 ≤ v2) (hj1 : v2.toNatClampNeg = 3) (hm1 : B 97 = true) {c1 : Int32} {c2 : Int32 × Int32 × (Nat → Int32) × (Nat → Int32) × (Nat → Int32) × (Nat → Int32) × (Nat → Int32) × (Nat → Int32) × (Nat → Int32) × (Nat → Int32) × (Nat → Int32) × Int32 × (Nat → Int32) × (Nat → Int32)} (hz1 : F_X7_ideal_no_ok v1 v2 = some c1) (hz2 : F_X8_ideal (V 104 0) (A 119) (A 120) (A 121) (A 122) (A 123) (A 124) (A 125) (A 126) (A 127) (V 104 46) (A 136) (A 137) v1 v2 = some c2) (he : c1 = c2.1)
    (K : QG X 4 Q (some ()) 1048 [(0, .float (UInt32.ofNat 100)), (1, .ref 0), (2, .ref 104), (3, .int x3)] [] (wLx rfB kfB (va_rf z) (va_rf tx) (va_up (va_up (va_up (va_up (va_up (va_up (va_up (va_up (va_up (va_up (va_up A 119 c2.2.2.1) 120 c2.2.2.2.1) 121 c2.2.2.2.2.1) 122 c2.2.2.2.2.2.1) 123 c2.2.2.2.2.2.2.1) 124 c2.2.2.2.2.2.2.2.1) 125 c2.2.2.2.2.2.2.2.2.1) 126 c2.2.2.2.2.2.2.2.2.2.1) 127 c2.2.2.2.2.2.2.2.2.2.2.1) 136 c2.2.2.2.2.2.2.2.2.2.2.2.2.1) 137 c2.2.2.2.2.2.2.2.2.2.2.2.2.2) (va_up2 (va_up2 V 104 0 c2.2.1) 104 46 c2.2.2.2.2.2.2.2.2.2.2.2.1) B L M) ad cells slots) : QG X 4 Q (some ()) 1015 [(0, .float (UInt32.ofNat 100)), (1, .ref 0), (2, .ref 104), (3, .int x3)] [] (wLx rfB kfB (va_rf z) (va_rf tx) A V B L M) ad cells slots := by
  refine QG.aload_n hX (qd K_L_law17 39 rfl) rfl rfl ?_
  refine QG.aload_ns hX (qd K_L_law18 0 rfl) rfl rfl ?_
  refine QG.iload_n hX (qd K_L_law18 1 rfl) rfl rfl ?_
  refine QG.iconst hX (qd K_L_law18 2 rfl) rfl ki_1 ?_
  refine QG.iadd hX (qd K_L_law18 3 rfl) rfl ?_
  refine QG.scld hX hs0 hsl hsA hsb (qd K_L_law18 4 rfl) rfl hi1 hv1 ?_
  refine QG.aload_ns hX (qd K_L_law18 5 rfl) rfl rfl ?_
  refine QG.iload_n hX (qd K_L_law18 6 rfl) rfl rfl ?_
  refine QG.iconst hX (qd K_L_law18 7 rfl) rfl ki_2 ?_
  refine QG.iadd hX (qd K_L_law18 8 rfl) rfl ?_
  refine QG.scld hX hs0 hsl hsA hsb (qd K_L_law18 9 rfl) rfl hi2 hv2 ?_
  refine QG.callVk (rest := []) [0, 37, 97, 98, 99, 100, 101, 102, 103, 23, 24, 25, 26, 27, 28, 29, 30, 31, 32, 33, 34, 35, 36] hz1 hX cw_L_130 (M_X7_ideal_no_ok X.l (fun j => Option.map (qinv [0, 37, 97, 98, 99, 100, 101, 102, 103, 23, 24, 25, 26, 27, 28, 29, 30, 31, 32, 33, 34, 35, 36]) (kfB j)) (B 97) (V 97 1) (V 97 2) (V 97 3) (V 97 4) (V 97 5) (A 98) (A 99) (A 100) (A 101) (A 102) (A 103) (V 97 12) (B 23) (V 23 1) (V 23 2) (V 23 3) (V 23 4) (V 23 5) (A 24) (A 25) (A 26) (A 27) (A 28) (A 29) (V 23 12) (B 30) (V 30 1) (V 30 2) (V 30 3) (V 30 4) (V 30 5) (A 31) (A 32) (A 33) (A 34) (A 35) (A 36) (V 30 12) v1 v2 h0 h1a h1b (by show Option.map _ (kfB v2.toNatClampNeg) = _; rw [hj1]; rfl) hm1) trivial (by decide) (by decide) (qd K_L_law18 10 rfl) rfl hcs rfl rfl rfl rfl (Nat.le_of_ble_eq_true rfl) (Eq.trans (congrArg (fun f => List.map (fun i => (wLx rfB f (va_rf z) (va_rf tx) A V B L M)[i]?) [0, 37, 97, 98, 99, 100, 101, 102, 103, 23, 24, 25, 26, 27, 28, 29, 30, 31, 32, 33, 34, 35, 36]) (qinv_eq [0, 37, 97, 98, 99, 100, 101, 102, 103, 23, 24, 25, 26, 27, 28, 29, 30, 31, 32, 33, 34, 35, 36] kfB).symm) rfl) rfl (Nat.le_of_ble_eq_true rfl) rfl ?_
  refine QG.eqW (Wd' := (wLx rfB (fun j => Option.map (qf [0, 37, 97, 98, 99, 100, 101, 102, 103, 23, 24, 25, 26, 27, 28, 29, 30, 31, 32, 33, 34, 35, 36]) (Option.map (qinv [0, 37, 97, 98, 99, 100, 101, 102, 103, 23, 24, 25, 26, 27, 28, 29, 30, 31, 32, 33, 34, 35, 36]) (kfB j))) (va_rf z) (va_rf tx) A V B L M)) rfl ?_
  rw [qinv_eq [0, 37, 97, 98, 99, 100, 101, 102, 103, 23, 24, 25, 26, 27, 28, 29, 30, 31, 32, 33, 34, 35, 36] kfB]
  show QG X 4 _ _ 1029 _ [.int c1] _ ad _ _
  refine QG.aload_n hX (qd K_L_law18 11 rfl) rfl rfl ?_
  refine QG.aload_ns hX (qd K_L_law18 12 rfl) rfl rfl ?_
  refine QG.iload_n hX (qd K_L_law18 13 rfl) rfl rfl ?_
  refine QG.iconst hX (qd K_L_law18 14 rfl) rfl ki_1 ?_
  refine QG.iadd hX (qd K_L_law18 15 rfl) rfl ?_
  refine QG.scld hX hs0 hsl hsA hsb (qd K_L_law18 16 rfl) rfl hi1 hv1 ?_
  refine QG.aload_ns hX (qd K_L_law18 17 rfl) rfl rfl ?_
  refine QG.iload_n hX (qd K_L_law18 18 rfl) rfl rfl ?_
  refine QG.iconst hX (qd K_L_law18 19 rfl) rfl ki_2 ?_
  refine QG.iadd hX (qd K_L_law18 20 rfl) rfl ?_
  refine QG.scld hX hs0 hsl hsA hsb (qd K_L_law18 21 rfl) rfl hi2 hv2 ?_
  refine QG.callVk (rest := [.int c1]) [104, 105, 106, 107, 108, 109, 110, 111, 112, 113, 114, 115, 116, 117, 118, 119, 120, 121, 122, 123, 124, 125, 126, 127, 128, 129, 130, 131, 132, 133, 134, 135, 136, 137] hz2 hX cw_L_133 (M_X8_ideal X.l (V 104 0) (A 105) (A 106) (A 107) (A 108) (A 109) (A 110) (A 111) (A 112) (V 104 9) (V 104 10) (A 113) (A 114) (A 115) (A 116) M (A 118) (A 119) (A 120) (A 121) (A 122) (A 123) (A 124) (A 125) (A 126) (A 127) (A 128) (V 104 27) (V 104 28) (A 129) (V 104 30) (V 104 31) (V 104 32) (V 104 33) (V 104 34) (V 104 35) (V 104 36) (A 130) (A 131) (A 132) (A 133) (A 134) (A 135) (V 104 43) (V 104 44) (V 104 45) (V 104 46) (A 136) (A 137) v1 v2) trivial (by decide) (by decide) (qd K_L_law18 22 rfl) rfl hcs rfl rfl rfl rfl (Nat.le_of_ble_eq_true rfl) rfl rfl (Nat.le_of_ble_eq_true rfl) rfl ?_
  refine QG.eqW (Wd' := (wLx rfB kfB (va_rf z) (va_rf tx) (va_up (va_up (va_up (va_up (va_up (va_up (va_up (va_up (va_up (va_up (va_up A 119 c2.2.2.1) 120 c2.2.2.2.1) 121 c2.2.2.2.2.1) 122 c2.2.2.2.2.2.1) 123 c2.2.2.2.2.2.2.1) 124 c2.2.2.2.2.2.2.2.1) 125 c2.2.2.2.2.2.2.2.2.1) 126 c2.2.2.2.2.2.2.2.2.2.1) 127 c2.2.2.2.2.2.2.2.2.2.2.1) 136 c2.2.2.2.2.2.2.2.2.2.2.2.2.1) 137 c2.2.2.2.2.2.2.2.2.2.2.2.2.2) (va_up2 (va_up2 V 104 0 c2.2.1) 104 46 c2.2.2.2.2.2.2.2.2.2.2.2.1) B L M)) rfl ?_
  show QG X 4 _ _ 1043 _ [.int c2.1, .int c1] _ ad _ _
  exact QG.ifT (by rw [he]) (QG.icmp_eq (tgt := 1048) (oF := none) hX (qd K_L_law18 23 rfl) rfl (by decide) K QG.nothing)

set_option maxRecDepth 100000 in
set_option maxHeartbeats 4000000 in
theorem C_ideal_un0_no {X : QX} (hX : qok X code RL 4 (some .boolean) 1000) {Q : Unit → State → Prop} {b LL : Nat} {xs : Nat → Int32} (hs0 : va_X b LL xs X.s X.s.heap) (hsl : b < X.s.heap.size) (hsA : ¬ X.A b) (hsb : X.sA 100 = b) {ad : Nat → Nat} {cells slots : Nat} (hcs : cells ≤ X.R.cells ∧ slots ≤ X.R.slots) {A V : Nat → Nat → Int32} {B : Nat → Bool} {L M : Nat → Int64} {z tx : Option Nat} {x3 : Int32} {v1 : Int32} {v2 : Int32} (hi1 : vp_in (x3 + 1) LL) (hv1 : xs (x3 + 1).toNatClampNeg = v1) (hi2 : vp_in (x3 + 2) LL) (hv2 : xs (x3 + 2).toNatClampNeg = v2) (h0a : ¬ v1 < 0) (h0b : ¬ 4 ≤ v1) (hj0 : v1.toNatClampNeg = 0) (hm0 : B 76 = false) (h1 : v2 < 0 ∨ 4 ≤ v2) {c1 : Int32} {c2 : Int32 × Int32 × (Nat → Int32) × (Nat → Int32) × (Nat → Int32) × (Nat → Int32) × (Nat → Int32) × (Nat → Int32) × (Nat → Int32) × (Nat → Int32) × (Nat → Int32) × Int32 × (Nat → Int32) × (Nat → Int32)} (hz1 : F_X7_ideal_un_no v1 v2 = some c1) (hz2 : F_X8_ideal (V 104 0) (A 119) (A 120) (A 121) (A 122) (A 123) (A 124) (A 125) (A 126) (A 127) (V 104 46) (A 136) (A 137) v1 v2 = some c2) (he : c1 = c2.1)
    (K : QG X 4 Q (some ()) 1048 [(0, .float (UInt32.ofNat 100)), (1, .ref 0), (2, .ref 104), (3, .int x3)] [] (wLx rfB kfB (va_rf z) (va_rf tx) (va_up (va_up (va_up (va_up (va_up (va_up (va_up (va_up (va_up (va_up (va_up A 119 c2.2.2.1) 120 c2.2.2.2.1) 121 c2.2.2.2.2.1) 122 c2.2.2.2.2.2.1) 123 c2.2.2.2.2.2.2.1) 124 c2.2.2.2.2.2.2.2.1) 125 c2.2.2.2.2.2.2.2.2.1) 126 c2.2.2.2.2.2.2.2.2.2.1) 127 c2.2.2.2.2.2.2.2.2.2.2.1) 136 c2.2.2.2.2.2.2.2.2.2.2.2.2.1) 137 c2.2.2.2.2.2.2.2.2.2.2.2.2.2) (va_up2 (va_up2 V 104 0 c2.2.1) 104 46 c2.2.2.2.2.2.2.2.2.2.2.2.1) B L M) ad cells slots) : QG X 4 Q (some ()) 1015 [(0, .float (UInt32.ofNat 100)), (1, .ref 0), (2, .ref 104), (3, .int x3)] [] (wLx rfB kfB (va_rf z) (va_rf tx) A V B L M) ad cells slots := by
  refine QG.aload_n hX (qd K_L_law17 39 rfl) rfl rfl ?_
  refine QG.aload_ns hX (qd K_L_law18 0 rfl) rfl rfl ?_
  refine QG.iload_n hX (qd K_L_law18 1 rfl) rfl rfl ?_
  refine QG.iconst hX (qd K_L_law18 2 rfl) rfl ki_1 ?_
  refine QG.iadd hX (qd K_L_law18 3 rfl) rfl ?_
  refine QG.scld hX hs0 hsl hsA hsb (qd K_L_law18 4 rfl) rfl hi1 hv1 ?_
  refine QG.aload_ns hX (qd K_L_law18 5 rfl) rfl rfl ?_
  refine QG.iload_n hX (qd K_L_law18 6 rfl) rfl rfl ?_
  refine QG.iconst hX (qd K_L_law18 7 rfl) rfl ki_2 ?_
  refine QG.iadd hX (qd K_L_law18 8 rfl) rfl ?_
  refine QG.scld hX hs0 hsl hsA hsb (qd K_L_law18 9 rfl) rfl hi2 hv2 ?_
  refine QG.callVk (rest := []) [0, 37, 76, 77, 78, 79, 80, 81, 82, 23, 24, 25, 26, 27, 28, 29, 30, 31, 32, 33, 34, 35, 36] hz1 hX cw_L_130 (M_X7_ideal_un_no X.l (fun j => Option.map (qinv [0, 37, 76, 77, 78, 79, 80, 81, 82, 23, 24, 25, 26, 27, 28, 29, 30, 31, 32, 33, 34, 35, 36]) (kfB j)) (B 76) (V 76 1) (V 76 2) (V 76 3) (V 76 4) (V 76 5) (A 77) (A 78) (A 79) (A 80) (A 81) (A 82) (V 76 12) (B 23) (V 23 1) (V 23 2) (V 23 3) (V 23 4) (V 23 5) (A 24) (A 25) (A 26) (A 27) (A 28) (A 29) (V 23 12) (B 30) (V 30 1) (V 30 2) (V 30 3) (V 30 4) (V 30 5) (A 31) (A 32) (A 33) (A 34) (A 35) (A 36) (V 30 12) v1 v2 h0a h0b (by show Option.map _ (kfB v1.toNatClampNeg) = _; rw [hj0]; rfl) hm0 h1) trivial (by decide) (by decide) (qd K_L_law18 10 rfl) rfl hcs rfl rfl rfl rfl (Nat.le_of_ble_eq_true rfl) (Eq.trans (congrArg (fun f => List.map (fun i => (wLx rfB f (va_rf z) (va_rf tx) A V B L M)[i]?) [0, 37, 76, 77, 78, 79, 80, 81, 82, 23, 24, 25, 26, 27, 28, 29, 30, 31, 32, 33, 34, 35, 36]) (qinv_eq [0, 37, 76, 77, 78, 79, 80, 81, 82, 23, 24, 25, 26, 27, 28, 29, 30, 31, 32, 33, 34, 35, 36] kfB).symm) rfl) rfl (Nat.le_of_ble_eq_true rfl) rfl ?_
  refine QG.eqW (Wd' := (wLx rfB (fun j => Option.map (qf [0, 37, 76, 77, 78, 79, 80, 81, 82, 23, 24, 25, 26, 27, 28, 29, 30, 31, 32, 33, 34, 35, 36]) (Option.map (qinv [0, 37, 76, 77, 78, 79, 80, 81, 82, 23, 24, 25, 26, 27, 28, 29, 30, 31, 32, 33, 34, 35, 36]) (kfB j))) (va_rf z) (va_rf tx) A V B L M)) rfl ?_
  rw [qinv_eq [0, 37, 76, 77, 78, 79, 80, 81, 82, 23, 24, 25, 26, 27, 28, 29, 30, 31, 32, 33, 34, 35, 36] kfB]
  show QG X 4 _ _ 1029 _ [.int c1] _ ad _ _
  refine QG.aload_n hX (qd K_L_law18 11 rfl) rfl rfl ?_
  refine QG.aload_ns hX (qd K_L_law18 12 rfl) rfl rfl ?_
  refine QG.iload_n hX (qd K_L_law18 13 rfl) rfl rfl ?_
  refine QG.iconst hX (qd K_L_law18 14 rfl) rfl ki_1 ?_
  refine QG.iadd hX (qd K_L_law18 15 rfl) rfl ?_
  refine QG.scld hX hs0 hsl hsA hsb (qd K_L_law18 16 rfl) rfl hi1 hv1 ?_
  refine QG.aload_ns hX (qd K_L_law18 17 rfl) rfl rfl ?_
  refine QG.iload_n hX (qd K_L_law18 18 rfl) rfl rfl ?_
  refine QG.iconst hX (qd K_L_law18 19 rfl) rfl ki_2 ?_
  refine QG.iadd hX (qd K_L_law18 20 rfl) rfl ?_
  refine QG.scld hX hs0 hsl hsA hsb (qd K_L_law18 21 rfl) rfl hi2 hv2 ?_
  refine QG.callVk (rest := [.int c1]) [104, 105, 106, 107, 108, 109, 110, 111, 112, 113, 114, 115, 116, 117, 118, 119, 120, 121, 122, 123, 124, 125, 126, 127, 128, 129, 130, 131, 132, 133, 134, 135, 136, 137] hz2 hX cw_L_133 (M_X8_ideal X.l (V 104 0) (A 105) (A 106) (A 107) (A 108) (A 109) (A 110) (A 111) (A 112) (V 104 9) (V 104 10) (A 113) (A 114) (A 115) (A 116) M (A 118) (A 119) (A 120) (A 121) (A 122) (A 123) (A 124) (A 125) (A 126) (A 127) (A 128) (V 104 27) (V 104 28) (A 129) (V 104 30) (V 104 31) (V 104 32) (V 104 33) (V 104 34) (V 104 35) (V 104 36) (A 130) (A 131) (A 132) (A 133) (A 134) (A 135) (V 104 43) (V 104 44) (V 104 45) (V 104 46) (A 136) (A 137) v1 v2) trivial (by decide) (by decide) (qd K_L_law18 22 rfl) rfl hcs rfl rfl rfl rfl (Nat.le_of_ble_eq_true rfl) rfl rfl (Nat.le_of_ble_eq_true rfl) rfl ?_
  refine QG.eqW (Wd' := (wLx rfB kfB (va_rf z) (va_rf tx) (va_up (va_up (va_up (va_up (va_up (va_up (va_up (va_up (va_up (va_up (va_up A 119 c2.2.2.1) 120 c2.2.2.2.1) 121 c2.2.2.2.2.1) 122 c2.2.2.2.2.2.1) 123 c2.2.2.2.2.2.2.1) 124 c2.2.2.2.2.2.2.2.1) 125 c2.2.2.2.2.2.2.2.2.1) 126 c2.2.2.2.2.2.2.2.2.2.1) 127 c2.2.2.2.2.2.2.2.2.2.2.1) 136 c2.2.2.2.2.2.2.2.2.2.2.2.2.1) 137 c2.2.2.2.2.2.2.2.2.2.2.2.2.2) (va_up2 (va_up2 V 104 0 c2.2.1) 104 46 c2.2.2.2.2.2.2.2.2.2.2.2.1) B L M)) rfl ?_
  show QG X 4 _ _ 1043 _ [.int c2.1, .int c1] _ ad _ _
  exact QG.ifT (by rw [he]) (QG.icmp_eq (tgt := 1048) (oF := none) hX (qd K_L_law18 23 rfl) rfl (by decide) K QG.nothing)

set_option maxRecDepth 100000 in
set_option maxHeartbeats 4000000 in
theorem C_ideal_un1_no {X : QX} (hX : qok X code RL 4 (some .boolean) 1000) {Q : Unit → State → Prop} {b LL : Nat} {xs : Nat → Int32} (hs0 : va_X b LL xs X.s X.s.heap) (hsl : b < X.s.heap.size) (hsA : ¬ X.A b) (hsb : X.sA 100 = b) {ad : Nat → Nat} {cells slots : Nat} (hcs : cells ≤ X.R.cells ∧ slots ≤ X.R.slots) {A V : Nat → Nat → Int32} {B : Nat → Bool} {L M : Nat → Int64} {z tx : Option Nat} {x3 : Int32} {v1 : Int32} {v2 : Int32} (hi1 : vp_in (x3 + 1) LL) (hv1 : xs (x3 + 1).toNatClampNeg = v1) (hi2 : vp_in (x3 + 2) LL) (hv2 : xs (x3 + 2).toNatClampNeg = v2) (h0a : ¬ v1 < 0) (h0b : ¬ 4 ≤ v1) (hj0 : v1.toNatClampNeg = 1) (hm0 : B 83 = false) (h1 : v2 < 0 ∨ 4 ≤ v2) {c1 : Int32} {c2 : Int32 × Int32 × (Nat → Int32) × (Nat → Int32) × (Nat → Int32) × (Nat → Int32) × (Nat → Int32) × (Nat → Int32) × (Nat → Int32) × (Nat → Int32) × (Nat → Int32) × Int32 × (Nat → Int32) × (Nat → Int32)} (hz1 : F_X7_ideal_un_no v1 v2 = some c1) (hz2 : F_X8_ideal (V 104 0) (A 119) (A 120) (A 121) (A 122) (A 123) (A 124) (A 125) (A 126) (A 127) (V 104 46) (A 136) (A 137) v1 v2 = some c2) (he : c1 = c2.1)
    (K : QG X 4 Q (some ()) 1048 [(0, .float (UInt32.ofNat 100)), (1, .ref 0), (2, .ref 104), (3, .int x3)] [] (wLx rfB kfB (va_rf z) (va_rf tx) (va_up (va_up (va_up (va_up (va_up (va_up (va_up (va_up (va_up (va_up (va_up A 119 c2.2.2.1) 120 c2.2.2.2.1) 121 c2.2.2.2.2.1) 122 c2.2.2.2.2.2.1) 123 c2.2.2.2.2.2.2.1) 124 c2.2.2.2.2.2.2.2.1) 125 c2.2.2.2.2.2.2.2.2.1) 126 c2.2.2.2.2.2.2.2.2.2.1) 127 c2.2.2.2.2.2.2.2.2.2.2.1) 136 c2.2.2.2.2.2.2.2.2.2.2.2.2.1) 137 c2.2.2.2.2.2.2.2.2.2.2.2.2.2) (va_up2 (va_up2 V 104 0 c2.2.1) 104 46 c2.2.2.2.2.2.2.2.2.2.2.2.1) B L M) ad cells slots) : QG X 4 Q (some ()) 1015 [(0, .float (UInt32.ofNat 100)), (1, .ref 0), (2, .ref 104), (3, .int x3)] [] (wLx rfB kfB (va_rf z) (va_rf tx) A V B L M) ad cells slots := by
  refine QG.aload_n hX (qd K_L_law17 39 rfl) rfl rfl ?_
  refine QG.aload_ns hX (qd K_L_law18 0 rfl) rfl rfl ?_
  refine QG.iload_n hX (qd K_L_law18 1 rfl) rfl rfl ?_
  refine QG.iconst hX (qd K_L_law18 2 rfl) rfl ki_1 ?_
  refine QG.iadd hX (qd K_L_law18 3 rfl) rfl ?_
  refine QG.scld hX hs0 hsl hsA hsb (qd K_L_law18 4 rfl) rfl hi1 hv1 ?_
  refine QG.aload_ns hX (qd K_L_law18 5 rfl) rfl rfl ?_
  refine QG.iload_n hX (qd K_L_law18 6 rfl) rfl rfl ?_
  refine QG.iconst hX (qd K_L_law18 7 rfl) rfl ki_2 ?_
  refine QG.iadd hX (qd K_L_law18 8 rfl) rfl ?_
  refine QG.scld hX hs0 hsl hsA hsb (qd K_L_law18 9 rfl) rfl hi2 hv2 ?_
  refine QG.callVk (rest := []) [0, 37, 83, 84, 85, 86, 87, 88, 89, 23, 24, 25, 26, 27, 28, 29, 30, 31, 32, 33, 34, 35, 36] hz1 hX cw_L_130 (M_X7_ideal_un_no X.l (fun j => Option.map (qinv [0, 37, 83, 84, 85, 86, 87, 88, 89, 23, 24, 25, 26, 27, 28, 29, 30, 31, 32, 33, 34, 35, 36]) (kfB j)) (B 83) (V 83 1) (V 83 2) (V 83 3) (V 83 4) (V 83 5) (A 84) (A 85) (A 86) (A 87) (A 88) (A 89) (V 83 12) (B 23) (V 23 1) (V 23 2) (V 23 3) (V 23 4) (V 23 5) (A 24) (A 25) (A 26) (A 27) (A 28) (A 29) (V 23 12) (B 30) (V 30 1) (V 30 2) (V 30 3) (V 30 4) (V 30 5) (A 31) (A 32) (A 33) (A 34) (A 35) (A 36) (V 30 12) v1 v2 h0a h0b (by show Option.map _ (kfB v1.toNatClampNeg) = _; rw [hj0]; rfl) hm0 h1) trivial (by decide) (by decide) (qd K_L_law18 10 rfl) rfl hcs rfl rfl rfl rfl (Nat.le_of_ble_eq_true rfl) (Eq.trans (congrArg (fun f => List.map (fun i => (wLx rfB f (va_rf z) (va_rf tx) A V B L M)[i]?) [0, 37, 83, 84, 85, 86, 87, 88, 89, 23, 24, 25, 26, 27, 28, 29, 30, 31, 32, 33, 34, 35, 36]) (qinv_eq [0, 37, 83, 84, 85, 86, 87, 88, 89, 23, 24, 25, 26, 27, 28, 29, 30, 31, 32, 33, 34, 35, 36] kfB).symm) rfl) rfl (Nat.le_of_ble_eq_true rfl) rfl ?_
  refine QG.eqW (Wd' := (wLx rfB (fun j => Option.map (qf [0, 37, 83, 84, 85, 86, 87, 88, 89, 23, 24, 25, 26, 27, 28, 29, 30, 31, 32, 33, 34, 35, 36]) (Option.map (qinv [0, 37, 83, 84, 85, 86, 87, 88, 89, 23, 24, 25, 26, 27, 28, 29, 30, 31, 32, 33, 34, 35, 36]) (kfB j))) (va_rf z) (va_rf tx) A V B L M)) rfl ?_
  rw [qinv_eq [0, 37, 83, 84, 85, 86, 87, 88, 89, 23, 24, 25, 26, 27, 28, 29, 30, 31, 32, 33, 34, 35, 36] kfB]
  show QG X 4 _ _ 1029 _ [.int c1] _ ad _ _
  refine QG.aload_n hX (qd K_L_law18 11 rfl) rfl rfl ?_
  refine QG.aload_ns hX (qd K_L_law18 12 rfl) rfl rfl ?_
  refine QG.iload_n hX (qd K_L_law18 13 rfl) rfl rfl ?_
  refine QG.iconst hX (qd K_L_law18 14 rfl) rfl ki_1 ?_
  refine QG.iadd hX (qd K_L_law18 15 rfl) rfl ?_
  refine QG.scld hX hs0 hsl hsA hsb (qd K_L_law18 16 rfl) rfl hi1 hv1 ?_
  refine QG.aload_ns hX (qd K_L_law18 17 rfl) rfl rfl ?_
  refine QG.iload_n hX (qd K_L_law18 18 rfl) rfl rfl ?_
  refine QG.iconst hX (qd K_L_law18 19 rfl) rfl ki_2 ?_
  refine QG.iadd hX (qd K_L_law18 20 rfl) rfl ?_
  refine QG.scld hX hs0 hsl hsA hsb (qd K_L_law18 21 rfl) rfl hi2 hv2 ?_
  refine QG.callVk (rest := [.int c1]) [104, 105, 106, 107, 108, 109, 110, 111, 112, 113, 114, 115, 116, 117, 118, 119, 120, 121, 122, 123, 124, 125, 126, 127, 128, 129, 130, 131, 132, 133, 134, 135, 136, 137] hz2 hX cw_L_133 (M_X8_ideal X.l (V 104 0) (A 105) (A 106) (A 107) (A 108) (A 109) (A 110) (A 111) (A 112) (V 104 9) (V 104 10) (A 113) (A 114) (A 115) (A 116) M (A 118) (A 119) (A 120) (A 121) (A 122) (A 123) (A 124) (A 125) (A 126) (A 127) (A 128) (V 104 27) (V 104 28) (A 129) (V 104 30) (V 104 31) (V 104 32) (V 104 33) (V 104 34) (V 104 35) (V 104 36) (A 130) (A 131) (A 132) (A 133) (A 134) (A 135) (V 104 43) (V 104 44) (V 104 45) (V 104 46) (A 136) (A 137) v1 v2) trivial (by decide) (by decide) (qd K_L_law18 22 rfl) rfl hcs rfl rfl rfl rfl (Nat.le_of_ble_eq_true rfl) rfl rfl (Nat.le_of_ble_eq_true rfl) rfl ?_
  refine QG.eqW (Wd' := (wLx rfB kfB (va_rf z) (va_rf tx) (va_up (va_up (va_up (va_up (va_up (va_up (va_up (va_up (va_up (va_up (va_up A 119 c2.2.2.1) 120 c2.2.2.2.1) 121 c2.2.2.2.2.1) 122 c2.2.2.2.2.2.1) 123 c2.2.2.2.2.2.2.1) 124 c2.2.2.2.2.2.2.2.1) 125 c2.2.2.2.2.2.2.2.2.1) 126 c2.2.2.2.2.2.2.2.2.2.1) 127 c2.2.2.2.2.2.2.2.2.2.2.1) 136 c2.2.2.2.2.2.2.2.2.2.2.2.2.1) 137 c2.2.2.2.2.2.2.2.2.2.2.2.2.2) (va_up2 (va_up2 V 104 0 c2.2.1) 104 46 c2.2.2.2.2.2.2.2.2.2.2.2.1) B L M)) rfl ?_
  show QG X 4 _ _ 1043 _ [.int c2.1, .int c1] _ ad _ _
  exact QG.ifT (by rw [he]) (QG.icmp_eq (tgt := 1048) (oF := none) hX (qd K_L_law18 23 rfl) rfl (by decide) K QG.nothing)

set_option maxRecDepth 100000 in
set_option maxHeartbeats 4000000 in
theorem C_ideal_un2_no {X : QX} (hX : qok X code RL 4 (some .boolean) 1000) {Q : Unit → State → Prop} {b LL : Nat} {xs : Nat → Int32} (hs0 : va_X b LL xs X.s X.s.heap) (hsl : b < X.s.heap.size) (hsA : ¬ X.A b) (hsb : X.sA 100 = b) {ad : Nat → Nat} {cells slots : Nat} (hcs : cells ≤ X.R.cells ∧ slots ≤ X.R.slots) {A V : Nat → Nat → Int32} {B : Nat → Bool} {L M : Nat → Int64} {z tx : Option Nat} {x3 : Int32} {v1 : Int32} {v2 : Int32} (hi1 : vp_in (x3 + 1) LL) (hv1 : xs (x3 + 1).toNatClampNeg = v1) (hi2 : vp_in (x3 + 2) LL) (hv2 : xs (x3 + 2).toNatClampNeg = v2) (h0a : ¬ v1 < 0) (h0b : ¬ 4 ≤ v1) (hj0 : v1.toNatClampNeg = 2) (hm0 : B 90 = false) (h1 : v2 < 0 ∨ 4 ≤ v2) {c1 : Int32} {c2 : Int32 × Int32 × (Nat → Int32) × (Nat → Int32) × (Nat → Int32) × (Nat → Int32) × (Nat → Int32) × (Nat → Int32) × (Nat → Int32) × (Nat → Int32) × (Nat → Int32) × Int32 × (Nat → Int32) × (Nat → Int32)} (hz1 : F_X7_ideal_un_no v1 v2 = some c1) (hz2 : F_X8_ideal (V 104 0) (A 119) (A 120) (A 121) (A 122) (A 123) (A 124) (A 125) (A 126) (A 127) (V 104 46) (A 136) (A 137) v1 v2 = some c2) (he : c1 = c2.1)
    (K : QG X 4 Q (some ()) 1048 [(0, .float (UInt32.ofNat 100)), (1, .ref 0), (2, .ref 104), (3, .int x3)] [] (wLx rfB kfB (va_rf z) (va_rf tx) (va_up (va_up (va_up (va_up (va_up (va_up (va_up (va_up (va_up (va_up (va_up A 119 c2.2.2.1) 120 c2.2.2.2.1) 121 c2.2.2.2.2.1) 122 c2.2.2.2.2.2.1) 123 c2.2.2.2.2.2.2.1) 124 c2.2.2.2.2.2.2.2.1) 125 c2.2.2.2.2.2.2.2.2.1) 126 c2.2.2.2.2.2.2.2.2.2.1) 127 c2.2.2.2.2.2.2.2.2.2.2.1) 136 c2.2.2.2.2.2.2.2.2.2.2.2.2.1) 137 c2.2.2.2.2.2.2.2.2.2.2.2.2.2) (va_up2 (va_up2 V 104 0 c2.2.1) 104 46 c2.2.2.2.2.2.2.2.2.2.2.2.1) B L M) ad cells slots) : QG X 4 Q (some ()) 1015 [(0, .float (UInt32.ofNat 100)), (1, .ref 0), (2, .ref 104), (3, .int x3)] [] (wLx rfB kfB (va_rf z) (va_rf tx) A V B L M) ad cells slots := by
  refine QG.aload_n hX (qd K_L_law17 39 rfl) rfl rfl ?_
  refine QG.aload_ns hX (qd K_L_law18 0 rfl) rfl rfl ?_
  refine QG.iload_n hX (qd K_L_law18 1 rfl) rfl rfl ?_
  refine QG.iconst hX (qd K_L_law18 2 rfl) rfl ki_1 ?_
  refine QG.iadd hX (qd K_L_law18 3 rfl) rfl ?_
  refine QG.scld hX hs0 hsl hsA hsb (qd K_L_law18 4 rfl) rfl hi1 hv1 ?_
  refine QG.aload_ns hX (qd K_L_law18 5 rfl) rfl rfl ?_
  refine QG.iload_n hX (qd K_L_law18 6 rfl) rfl rfl ?_
  refine QG.iconst hX (qd K_L_law18 7 rfl) rfl ki_2 ?_
  refine QG.iadd hX (qd K_L_law18 8 rfl) rfl ?_
  refine QG.scld hX hs0 hsl hsA hsb (qd K_L_law18 9 rfl) rfl hi2 hv2 ?_
  refine QG.callVk (rest := []) [0, 37, 90, 91, 92, 93, 94, 95, 96, 23, 24, 25, 26, 27, 28, 29, 30, 31, 32, 33, 34, 35, 36] hz1 hX cw_L_130 (M_X7_ideal_un_no X.l (fun j => Option.map (qinv [0, 37, 90, 91, 92, 93, 94, 95, 96, 23, 24, 25, 26, 27, 28, 29, 30, 31, 32, 33, 34, 35, 36]) (kfB j)) (B 90) (V 90 1) (V 90 2) (V 90 3) (V 90 4) (V 90 5) (A 91) (A 92) (A 93) (A 94) (A 95) (A 96) (V 90 12) (B 23) (V 23 1) (V 23 2) (V 23 3) (V 23 4) (V 23 5) (A 24) (A 25) (A 26) (A 27) (A 28) (A 29) (V 23 12) (B 30) (V 30 1) (V 30 2) (V 30 3) (V 30 4) (V 30 5) (A 31) (A 32) (A 33) (A 34) (A 35) (A 36) (V 30 12) v1 v2 h0a h0b (by show Option.map _ (kfB v1.toNatClampNeg) = _; rw [hj0]; rfl) hm0 h1) trivial (by decide) (by decide) (qd K_L_law18 10 rfl) rfl hcs rfl rfl rfl rfl (Nat.le_of_ble_eq_true rfl) (Eq.trans (congrArg (fun f => List.map (fun i => (wLx rfB f (va_rf z) (va_rf tx) A V B L M)[i]?) [0, 37, 90, 91, 92, 93, 94, 95, 96, 23, 24, 25, 26, 27, 28, 29, 30, 31, 32, 33, 34, 35, 36]) (qinv_eq [0, 37, 90, 91, 92, 93, 94, 95, 96, 23, 24, 25, 26, 27, 28, 29, 30, 31, 32, 33, 34, 35, 36] kfB).symm) rfl) rfl (Nat.le_of_ble_eq_true rfl) rfl ?_
  refine QG.eqW (Wd' := (wLx rfB (fun j => Option.map (qf [0, 37, 90, 91, 92, 93, 94, 95, 96, 23, 24, 25, 26, 27, 28, 29, 30, 31, 32, 33, 34, 35, 36]) (Option.map (qinv [0, 37, 90, 91, 92, 93, 94, 95, 96, 23, 24, 25, 26, 27, 28, 29, 30, 31, 32, 33, 34, 35, 36]) (kfB j))) (va_rf z) (va_rf tx) A V B L M)) rfl ?_
  rw [qinv_eq [0, 37, 90, 91, 92, 93, 94, 95, 96, 23, 24, 25, 26, 27, 28, 29, 30, 31, 32, 33, 34, 35, 36] kfB]
  show QG X 4 _ _ 1029 _ [.int c1] _ ad _ _
  refine QG.aload_n hX (qd K_L_law18 11 rfl) rfl rfl ?_
  refine QG.aload_ns hX (qd K_L_law18 12 rfl) rfl rfl ?_
  refine QG.iload_n hX (qd K_L_law18 13 rfl) rfl rfl ?_
  refine QG.iconst hX (qd K_L_law18 14 rfl) rfl ki_1 ?_
  refine QG.iadd hX (qd K_L_law18 15 rfl) rfl ?_
  refine QG.scld hX hs0 hsl hsA hsb (qd K_L_law18 16 rfl) rfl hi1 hv1 ?_
  refine QG.aload_ns hX (qd K_L_law18 17 rfl) rfl rfl ?_
  refine QG.iload_n hX (qd K_L_law18 18 rfl) rfl rfl ?_
  refine QG.iconst hX (qd K_L_law18 19 rfl) rfl ki_2 ?_
  refine QG.iadd hX (qd K_L_law18 20 rfl) rfl ?_
  refine QG.scld hX hs0 hsl hsA hsb (qd K_L_law18 21 rfl) rfl hi2 hv2 ?_
  refine QG.callVk (rest := [.int c1]) [104, 105, 106, 107, 108, 109, 110, 111, 112, 113, 114, 115, 116, 117, 118, 119, 120, 121, 122, 123, 124, 125, 126, 127, 128, 129, 130, 131, 132, 133, 134, 135, 136, 137] hz2 hX cw_L_133 (M_X8_ideal X.l (V 104 0) (A 105) (A 106) (A 107) (A 108) (A 109) (A 110) (A 111) (A 112) (V 104 9) (V 104 10) (A 113) (A 114) (A 115) (A 116) M (A 118) (A 119) (A 120) (A 121) (A 122) (A 123) (A 124) (A 125) (A 126) (A 127) (A 128) (V 104 27) (V 104 28) (A 129) (V 104 30) (V 104 31) (V 104 32) (V 104 33) (V 104 34) (V 104 35) (V 104 36) (A 130) (A 131) (A 132) (A 133) (A 134) (A 135) (V 104 43) (V 104 44) (V 104 45) (V 104 46) (A 136) (A 137) v1 v2) trivial (by decide) (by decide) (qd K_L_law18 22 rfl) rfl hcs rfl rfl rfl rfl (Nat.le_of_ble_eq_true rfl) rfl rfl (Nat.le_of_ble_eq_true rfl) rfl ?_
  refine QG.eqW (Wd' := (wLx rfB kfB (va_rf z) (va_rf tx) (va_up (va_up (va_up (va_up (va_up (va_up (va_up (va_up (va_up (va_up (va_up A 119 c2.2.2.1) 120 c2.2.2.2.1) 121 c2.2.2.2.2.1) 122 c2.2.2.2.2.2.1) 123 c2.2.2.2.2.2.2.1) 124 c2.2.2.2.2.2.2.2.1) 125 c2.2.2.2.2.2.2.2.2.1) 126 c2.2.2.2.2.2.2.2.2.2.1) 127 c2.2.2.2.2.2.2.2.2.2.2.1) 136 c2.2.2.2.2.2.2.2.2.2.2.2.2.1) 137 c2.2.2.2.2.2.2.2.2.2.2.2.2.2) (va_up2 (va_up2 V 104 0 c2.2.1) 104 46 c2.2.2.2.2.2.2.2.2.2.2.2.1) B L M)) rfl ?_
  show QG X 4 _ _ 1043 _ [.int c2.1, .int c1] _ ad _ _
  exact QG.ifT (by rw [he]) (QG.icmp_eq (tgt := 1048) (oF := none) hX (qd K_L_law18 23 rfl) rfl (by decide) K QG.nothing)

set_option maxRecDepth 100000 in
set_option maxHeartbeats 4000000 in
theorem C_ideal_un3_no {X : QX} (hX : qok X code RL 4 (some .boolean) 1000) {Q : Unit → State → Prop} {b LL : Nat} {xs : Nat → Int32} (hs0 : va_X b LL xs X.s X.s.heap) (hsl : b < X.s.heap.size) (hsA : ¬ X.A b) (hsb : X.sA 100 = b) {ad : Nat → Nat} {cells slots : Nat} (hcs : cells ≤ X.R.cells ∧ slots ≤ X.R.slots) {A V : Nat → Nat → Int32} {B : Nat → Bool} {L M : Nat → Int64} {z tx : Option Nat} {x3 : Int32} {v1 : Int32} {v2 : Int32} (hi1 : vp_in (x3 + 1) LL) (hv1 : xs (x3 + 1).toNatClampNeg = v1) (hi2 : vp_in (x3 + 2) LL) (hv2 : xs (x3 + 2).toNatClampNeg = v2) (h0a : ¬ v1 < 0) (h0b : ¬ 4 ≤ v1) (hj0 : v1.toNatClampNeg = 3) (hm0 : B 97 = false) (h1 : v2 < 0 ∨ 4 ≤ v2) {c1 : Int32} {c2 : Int32 × Int32 × (Nat → Int32) × (Nat → Int32) × (Nat → Int32) × (Nat → Int32) × (Nat → Int32) × (Nat → Int32) × (Nat → Int32) × (Nat → Int32) × (Nat → Int32) × Int32 × (Nat → Int32) × (Nat → Int32)} (hz1 : F_X7_ideal_un_no v1 v2 = some c1) (hz2 : F_X8_ideal (V 104 0) (A 119) (A 120) (A 121) (A 122) (A 123) (A 124) (A 125) (A 126) (A 127) (V 104 46) (A 136) (A 137) v1 v2 = some c2) (he : c1 = c2.1)
    (K : QG X 4 Q (some ()) 1048 [(0, .float (UInt32.ofNat 100)), (1, .ref 0), (2, .ref 104), (3, .int x3)] [] (wLx rfB kfB (va_rf z) (va_rf tx) (va_up (va_up (va_up (va_up (va_up (va_up (va_up (va_up (va_up (va_up (va_up A 119 c2.2.2.1) 120 c2.2.2.2.1) 121 c2.2.2.2.2.1) 122 c2.2.2.2.2.2.1) 123 c2.2.2.2.2.2.2.1) 124 c2.2.2.2.2.2.2.2.1) 125 c2.2.2.2.2.2.2.2.2.1) 126 c2.2.2.2.2.2.2.2.2.2.1) 127 c2.2.2.2.2.2.2.2.2.2.2.1) 136 c2.2.2.2.2.2.2.2.2.2.2.2.2.1) 137 c2.2.2.2.2.2.2.2.2.2.2.2.2.2) (va_up2 (va_up2 V 104 0 c2.2.1) 104 46 c2.2.2.2.2.2.2.2.2.2.2.2.1) B L M) ad cells slots) : QG X 4 Q (some ()) 1015 [(0, .float (UInt32.ofNat 100)), (1, .ref 0), (2, .ref 104), (3, .int x3)] [] (wLx rfB kfB (va_rf z) (va_rf tx) A V B L M) ad cells slots := by
  refine QG.aload_n hX (qd K_L_law17 39 rfl) rfl rfl ?_
  refine QG.aload_ns hX (qd K_L_law18 0 rfl) rfl rfl ?_
  refine QG.iload_n hX (qd K_L_law18 1 rfl) rfl rfl ?_
  refine QG.iconst hX (qd K_L_law18 2 rfl) rfl ki_1 ?_
  refine QG.iadd hX (qd K_L_law18 3 rfl) rfl ?_
  refine QG.scld hX hs0 hsl hsA hsb (qd K_L_law18 4 rfl) rfl hi1 hv1 ?_
  refine QG.aload_ns hX (qd K_L_law18 5 rfl) rfl rfl ?_
  refine QG.iload_n hX (qd K_L_law18 6 rfl) rfl rfl ?_
  refine QG.iconst hX (qd K_L_law18 7 rfl) rfl ki_2 ?_
  refine QG.iadd hX (qd K_L_law18 8 rfl) rfl ?_
  refine QG.scld hX hs0 hsl hsA hsb (qd K_L_law18 9 rfl) rfl hi2 hv2 ?_
  refine QG.callVk (rest := []) [0, 37, 97, 98, 99, 100, 101, 102, 103, 23, 24, 25, 26, 27, 28, 29, 30, 31, 32, 33, 34, 35, 36] hz1 hX cw_L_130 (M_X7_ideal_un_no X.l (fun j => Option.map (qinv [0, 37, 97, 98, 99, 100, 101, 102, 103, 23, 24, 25, 26, 27, 28, 29, 30, 31, 32, 33, 34, 35, 36]) (kfB j)) (B 97) (V 97 1) (V 97 2) (V 97 3) (V 97 4) (V 97 5) (A 98) (A 99) (A 100) (A 101) (A 102) (A 103) (V 97 12) (B 23) (V 23 1) (V 23 2) (V 23 3) (V 23 4) (V 23 5) (A 24) (A 25) (A 26) (A 27) (A 28) (A 29) (V 23 12) (B 30) (V 30 1) (V 30 2) (V 30 3) (V 30 4) (V 30 5) (A 31) (A 32) (A 33) (A 34) (A 35) (A 36) (V 30 12) v1 v2 h0a h0b (by show Option.map _ (kfB v1.toNatClampNeg) = _; rw [hj0]; rfl) hm0 h1) trivial (by decide) (by decide) (qd K_L_law18 10 rfl) rfl hcs rfl rfl rfl rfl (Nat.le_of_ble_eq_true rfl) (Eq.trans (congrArg (fun f => List.map (fun i => (wLx rfB f (va_rf z) (va_rf tx) A V B L M)[i]?) [0, 37, 97, 98, 99, 100, 101, 102, 103, 23, 24, 25, 26, 27, 28, 29, 30, 31, 32, 33, 34, 35, 36]) (qinv_eq [0, 37, 97, 98, 99, 100, 101, 102, 103, 23, 24, 25, 26, 27, 28, 29, 30, 31, 32, 33, 34, 35, 36] kfB).symm) rfl) rfl (Nat.le_of_ble_eq_true rfl) rfl ?_
  refine QG.eqW (Wd' := (wLx rfB (fun j => Option.map (qf [0, 37, 97, 98, 99, 100, 101, 102, 103, 23, 24, 25, 26, 27, 28, 29, 30, 31, 32, 33, 34, 35, 36]) (Option.map (qinv [0, 37, 97, 98, 99, 100, 101, 102, 103, 23, 24, 25, 26, 27, 28, 29, 30, 31, 32, 33, 34, 35, 36]) (kfB j))) (va_rf z) (va_rf tx) A V B L M)) rfl ?_
  rw [qinv_eq [0, 37, 97, 98, 99, 100, 101, 102, 103, 23, 24, 25, 26, 27, 28, 29, 30, 31, 32, 33, 34, 35, 36] kfB]
  show QG X 4 _ _ 1029 _ [.int c1] _ ad _ _
  refine QG.aload_n hX (qd K_L_law18 11 rfl) rfl rfl ?_
  refine QG.aload_ns hX (qd K_L_law18 12 rfl) rfl rfl ?_
  refine QG.iload_n hX (qd K_L_law18 13 rfl) rfl rfl ?_
  refine QG.iconst hX (qd K_L_law18 14 rfl) rfl ki_1 ?_
  refine QG.iadd hX (qd K_L_law18 15 rfl) rfl ?_
  refine QG.scld hX hs0 hsl hsA hsb (qd K_L_law18 16 rfl) rfl hi1 hv1 ?_
  refine QG.aload_ns hX (qd K_L_law18 17 rfl) rfl rfl ?_
  refine QG.iload_n hX (qd K_L_law18 18 rfl) rfl rfl ?_
  refine QG.iconst hX (qd K_L_law18 19 rfl) rfl ki_2 ?_
  refine QG.iadd hX (qd K_L_law18 20 rfl) rfl ?_
  refine QG.scld hX hs0 hsl hsA hsb (qd K_L_law18 21 rfl) rfl hi2 hv2 ?_
  refine QG.callVk (rest := [.int c1]) [104, 105, 106, 107, 108, 109, 110, 111, 112, 113, 114, 115, 116, 117, 118, 119, 120, 121, 122, 123, 124, 125, 126, 127, 128, 129, 130, 131, 132, 133, 134, 135, 136, 137] hz2 hX cw_L_133 (M_X8_ideal X.l (V 104 0) (A 105) (A 106) (A 107) (A 108) (A 109) (A 110) (A 111) (A 112) (V 104 9) (V 104 10) (A 113) (A 114) (A 115) (A 116) M (A 118) (A 119) (A 120) (A 121) (A 122) (A 123) (A 124) (A 125) (A 126) (A 127) (A 128) (V 104 27) (V 104 28) (A 129) (V 104 30) (V 104 31) (V 104 32) (V 104 33) (V 104 34) (V 104 35) (V 104 36) (A 130) (A 131) (A 132) (A 133) (A 134) (A 135) (V 104 43) (V 104 44) (V 104 45) (V 104 46) (A 136) (A 137) v1 v2) trivial (by decide) (by decide) (qd K_L_law18 22 rfl) rfl hcs rfl rfl rfl rfl (Nat.le_of_ble_eq_true rfl) rfl rfl (Nat.le_of_ble_eq_true rfl) rfl ?_
  refine QG.eqW (Wd' := (wLx rfB kfB (va_rf z) (va_rf tx) (va_up (va_up (va_up (va_up (va_up (va_up (va_up (va_up (va_up (va_up (va_up A 119 c2.2.2.1) 120 c2.2.2.2.1) 121 c2.2.2.2.2.1) 122 c2.2.2.2.2.2.1) 123 c2.2.2.2.2.2.2.1) 124 c2.2.2.2.2.2.2.2.1) 125 c2.2.2.2.2.2.2.2.2.1) 126 c2.2.2.2.2.2.2.2.2.2.1) 127 c2.2.2.2.2.2.2.2.2.2.2.1) 136 c2.2.2.2.2.2.2.2.2.2.2.2.2.1) 137 c2.2.2.2.2.2.2.2.2.2.2.2.2.2) (va_up2 (va_up2 V 104 0 c2.2.1) 104 46 c2.2.2.2.2.2.2.2.2.2.2.2.1) B L M)) rfl ?_
  show QG X 4 _ _ 1043 _ [.int c2.1, .int c1] _ ad _ _
  exact QG.ifT (by rw [he]) (QG.icmp_eq (tgt := 1048) (oF := none) hX (qd K_L_law18 23 rfl) rfl (by decide) K QG.nothing)

set_option maxRecDepth 100000 in
set_option maxHeartbeats 4000000 in
theorem C_ideal_un0_un0 {X : QX} (hX : qok X code RL 4 (some .boolean) 1000) {Q : Unit → State → Prop} {b LL : Nat} {xs : Nat → Int32} (hs0 : va_X b LL xs X.s X.s.heap) (hsl : b < X.s.heap.size) (hsA : ¬ X.A b) (hsb : X.sA 100 = b) {ad : Nat → Nat} {cells slots : Nat} (hcs : cells ≤ X.R.cells ∧ slots ≤ X.R.slots) {A V : Nat → Nat → Int32} {B : Nat → Bool} {L M : Nat → Int64} {z tx : Option Nat} {x3 : Int32} {v1 : Int32} {v2 : Int32} (hi1 : vp_in (x3 + 1) LL) (hv1 : xs (x3 + 1).toNatClampNeg = v1) (hi2 : vp_in (x3 + 2) LL) (hv2 : xs (x3 + 2).toNatClampNeg = v2) (h0a : ¬ v1 < 0) (h0b : ¬ 4 ≤ v1) (hj0 : v1.toNatClampNeg = 0) (hm0 : B 76 = false) (h1a : ¬ v2 < 0) (h1b : ¬ 4 ≤ v2) (hj1 : v2.toNatClampNeg = 0) (hm1 : B 76 = false) {c1 : Int32} {c2 : Int32 × Int32 × (Nat → Int32) × (Nat → Int32) × (Nat → Int32) × (Nat → Int32) × (Nat → Int32) × (Nat → Int32) × (Nat → Int32) × (Nat → Int32) × (Nat → Int32) × Int32 × (Nat → Int32) × (Nat → Int32)} (hz1 : F_X7_ideal_un_al v1 v2 = some c1) (hz2 : F_X8_ideal (V 104 0) (A 119) (A 120) (A 121) (A 122) (A 123) (A 124) (A 125) (A 126) (A 127) (V 104 46) (A 136) (A 137) v1 v2 = some c2) (he : c1 = c2.1)
    (K : QG X 4 Q (some ()) 1048 [(0, .float (UInt32.ofNat 100)), (1, .ref 0), (2, .ref 104), (3, .int x3)] [] (wLx rfB kfB (va_rf z) (va_rf tx) (va_up (va_up (va_up (va_up (va_up (va_up (va_up (va_up (va_up (va_up (va_up A 119 c2.2.2.1) 120 c2.2.2.2.1) 121 c2.2.2.2.2.1) 122 c2.2.2.2.2.2.1) 123 c2.2.2.2.2.2.2.1) 124 c2.2.2.2.2.2.2.2.1) 125 c2.2.2.2.2.2.2.2.2.1) 126 c2.2.2.2.2.2.2.2.2.2.1) 127 c2.2.2.2.2.2.2.2.2.2.2.1) 136 c2.2.2.2.2.2.2.2.2.2.2.2.2.1) 137 c2.2.2.2.2.2.2.2.2.2.2.2.2.2) (va_up2 (va_up2 V 104 0 c2.2.1) 104 46 c2.2.2.2.2.2.2.2.2.2.2.2.1) B L M) ad cells slots) : QG X 4 Q (some ()) 1015 [(0, .float (UInt32.ofNat 100)), (1, .ref 0), (2, .ref 104), (3, .int x3)] [] (wLx rfB kfB (va_rf z) (va_rf tx) A V B L M) ad cells slots := by
  refine QG.aload_n hX (qd K_L_law17 39 rfl) rfl rfl ?_
  refine QG.aload_ns hX (qd K_L_law18 0 rfl) rfl rfl ?_
  refine QG.iload_n hX (qd K_L_law18 1 rfl) rfl rfl ?_
  refine QG.iconst hX (qd K_L_law18 2 rfl) rfl ki_1 ?_
  refine QG.iadd hX (qd K_L_law18 3 rfl) rfl ?_
  refine QG.scld hX hs0 hsl hsA hsb (qd K_L_law18 4 rfl) rfl hi1 hv1 ?_
  refine QG.aload_ns hX (qd K_L_law18 5 rfl) rfl rfl ?_
  refine QG.iload_n hX (qd K_L_law18 6 rfl) rfl rfl ?_
  refine QG.iconst hX (qd K_L_law18 7 rfl) rfl ki_2 ?_
  refine QG.iadd hX (qd K_L_law18 8 rfl) rfl ?_
  refine QG.scld hX hs0 hsl hsA hsb (qd K_L_law18 9 rfl) rfl hi2 hv2 ?_
  refine QG.callVk (rest := []) [0, 37, 76, 77, 78, 79, 80, 81, 82, 23, 24, 25, 26, 27, 28, 29, 30, 31, 32, 33, 34, 35, 36] hz1 hX cw_L_130 (M_X7_ideal_un_al X.l (fun j => Option.map (qinv [0, 37, 76, 77, 78, 79, 80, 81, 82, 23, 24, 25, 26, 27, 28, 29, 30, 31, 32, 33, 34, 35, 36]) (kfB j)) (B 76) (V 76 1) (V 76 2) (V 76 3) (V 76 4) (V 76 5) (A 77) (A 78) (A 79) (A 80) (A 81) (A 82) (V 76 12) (B 23) (V 23 1) (V 23 2) (V 23 3) (V 23 4) (V 23 5) (A 24) (A 25) (A 26) (A 27) (A 28) (A 29) (V 23 12) (B 30) (V 30 1) (V 30 2) (V 30 3) (V 30 4) (V 30 5) (A 31) (A 32) (A 33) (A 34) (A 35) (A 36) (V 30 12) v1 v2 h0a h0b (by show Option.map _ (kfB v1.toNatClampNeg) = _; rw [hj0]; rfl) hm0 h1a h1b (by show Option.map _ (kfB v2.toNatClampNeg) = _; rw [hj1]; rfl) hm1) trivial (by decide) (by decide) (qd K_L_law18 10 rfl) rfl hcs rfl rfl rfl rfl (Nat.le_of_ble_eq_true rfl) (Eq.trans (congrArg (fun f => List.map (fun i => (wLx rfB f (va_rf z) (va_rf tx) A V B L M)[i]?) [0, 37, 76, 77, 78, 79, 80, 81, 82, 23, 24, 25, 26, 27, 28, 29, 30, 31, 32, 33, 34, 35, 36]) (qinv_eq [0, 37, 76, 77, 78, 79, 80, 81, 82, 23, 24, 25, 26, 27, 28, 29, 30, 31, 32, 33, 34, 35, 36] kfB).symm) rfl) rfl (Nat.le_of_ble_eq_true rfl) rfl ?_
  refine QG.eqW (Wd' := (wLx rfB (fun j => Option.map (qf [0, 37, 76, 77, 78, 79, 80, 81, 82, 23, 24, 25, 26, 27, 28, 29, 30, 31, 32, 33, 34, 35, 36]) (Option.map (qinv [0, 37, 76, 77, 78, 79, 80, 81, 82, 23, 24, 25, 26, 27, 28, 29, 30, 31, 32, 33, 34, 35, 36]) (kfB j))) (va_rf z) (va_rf tx) A V B L M)) rfl ?_
  rw [qinv_eq [0, 37, 76, 77, 78, 79, 80, 81, 82, 23, 24, 25, 26, 27, 28, 29, 30, 31, 32, 33, 34, 35, 36] kfB]
  show QG X 4 _ _ 1029 _ [.int c1] _ ad _ _
  refine QG.aload_n hX (qd K_L_law18 11 rfl) rfl rfl ?_
  refine QG.aload_ns hX (qd K_L_law18 12 rfl) rfl rfl ?_
  refine QG.iload_n hX (qd K_L_law18 13 rfl) rfl rfl ?_
  refine QG.iconst hX (qd K_L_law18 14 rfl) rfl ki_1 ?_
  refine QG.iadd hX (qd K_L_law18 15 rfl) rfl ?_
  refine QG.scld hX hs0 hsl hsA hsb (qd K_L_law18 16 rfl) rfl hi1 hv1 ?_
  refine QG.aload_ns hX (qd K_L_law18 17 rfl) rfl rfl ?_
  refine QG.iload_n hX (qd K_L_law18 18 rfl) rfl rfl ?_
  refine QG.iconst hX (qd K_L_law18 19 rfl) rfl ki_2 ?_
  refine QG.iadd hX (qd K_L_law18 20 rfl) rfl ?_
  refine QG.scld hX hs0 hsl hsA hsb (qd K_L_law18 21 rfl) rfl hi2 hv2 ?_
  refine QG.callVk (rest := [.int c1]) [104, 105, 106, 107, 108, 109, 110, 111, 112, 113, 114, 115, 116, 117, 118, 119, 120, 121, 122, 123, 124, 125, 126, 127, 128, 129, 130, 131, 132, 133, 134, 135, 136, 137] hz2 hX cw_L_133 (M_X8_ideal X.l (V 104 0) (A 105) (A 106) (A 107) (A 108) (A 109) (A 110) (A 111) (A 112) (V 104 9) (V 104 10) (A 113) (A 114) (A 115) (A 116) M (A 118) (A 119) (A 120) (A 121) (A 122) (A 123) (A 124) (A 125) (A 126) (A 127) (A 128) (V 104 27) (V 104 28) (A 129) (V 104 30) (V 104 31) (V 104 32) (V 104 33) (V 104 34) (V 104 35) (V 104 36) (A 130) (A 131) (A 132) (A 133) (A 134) (A 135) (V 104 43) (V 104 44) (V 104 45) (V 104 46) (A 136) (A 137) v1 v2) trivial (by decide) (by decide) (qd K_L_law18 22 rfl) rfl hcs rfl rfl rfl rfl (Nat.le_of_ble_eq_true rfl) rfl rfl (Nat.le_of_ble_eq_true rfl) rfl ?_
  refine QG.eqW (Wd' := (wLx rfB kfB (va_rf z) (va_rf tx) (va_up (va_up (va_up (va_up (va_up (va_up (va_up (va_up (va_up (va_up (va_up A 119 c2.2.2.1) 120 c2.2.2.2.1) 121 c2.2.2.2.2.1) 122 c2.2.2.2.2.2.1) 123 c2.2.2.2.2.2.2.1) 124 c2.2.2.2.2.2.2.2.1) 125 c2.2.2.2.2.2.2.2.2.1) 126 c2.2.2.2.2.2.2.2.2.2.1) 127 c2.2.2.2.2.2.2.2.2.2.2.1) 136 c2.2.2.2.2.2.2.2.2.2.2.2.2.1) 137 c2.2.2.2.2.2.2.2.2.2.2.2.2.2) (va_up2 (va_up2 V 104 0 c2.2.1) 104 46 c2.2.2.2.2.2.2.2.2.2.2.2.1) B L M)) rfl ?_
  show QG X 4 _ _ 1043 _ [.int c2.1, .int c1] _ ad _ _
  exact QG.ifT (by rw [he]) (QG.icmp_eq (tgt := 1048) (oF := none) hX (qd K_L_law18 23 rfl) rfl (by decide) K QG.nothing)

set_option maxRecDepth 100000 in
set_option maxHeartbeats 4000000 in
theorem C_ideal_un0_un1 {X : QX} (hX : qok X code RL 4 (some .boolean) 1000) {Q : Unit → State → Prop} {b LL : Nat} {xs : Nat → Int32} (hs0 : va_X b LL xs X.s X.s.heap) (hsl : b < X.s.heap.size) (hsA : ¬ X.A b) (hsb : X.sA 100 = b) {ad : Nat → Nat} {cells slots : Nat} (hcs : cells ≤ X.R.cells ∧ slots ≤ X.R.slots) {A V : Nat → Nat → Int32} {B : Nat → Bool} {L M : Nat → Int64} {z tx : Option Nat} {x3 : Int32} {v1 : Int32} {v2 : Int32} (hi1 : vp_in (x3 + 1) LL) (hv1 : xs (x3 + 1).toNatClampNeg = v1) (hi2 : vp_in (x3 + 2) LL) (hv2 : xs (x3 + 2).toNatClampNeg = v2) (h0a : ¬ v1 < 0) (h0b : ¬ 4 ≤ v1) (hj0 : v1.toNatClampNeg = 0) (hm0 : B 76 = false) (h1a : ¬ v2 < 0) (h1b : ¬ 4 ≤ v2) (hj1 : v2.toNatClampNeg = 1) (hm1 : B 83 = false) {c1 : Int32} {c2 : Int32 × Int32 × (Nat → Int32) × (Nat → Int32) × (Nat → Int32) × (Nat → Int32) × (Nat → Int32) × (Nat → Int32) × (Nat → Int32) × (Nat → Int32) × (Nat → Int32) × Int32 × (Nat → Int32) × (Nat → Int32)} (hz1 : F_X7_ideal_un_un v1 v2 = some c1) (hz2 : F_X8_ideal (V 104 0) (A 119) (A 120) (A 121) (A 122) (A 123) (A 124) (A 125) (A 126) (A 127) (V 104 46) (A 136) (A 137) v1 v2 = some c2) (he : c1 = c2.1)
    (K : QG X 4 Q (some ()) 1048 [(0, .float (UInt32.ofNat 100)), (1, .ref 0), (2, .ref 104), (3, .int x3)] [] (wLx rfB kfB (va_rf z) (va_rf tx) (va_up (va_up (va_up (va_up (va_up (va_up (va_up (va_up (va_up (va_up (va_up A 119 c2.2.2.1) 120 c2.2.2.2.1) 121 c2.2.2.2.2.1) 122 c2.2.2.2.2.2.1) 123 c2.2.2.2.2.2.2.1) 124 c2.2.2.2.2.2.2.2.1) 125 c2.2.2.2.2.2.2.2.2.1) 126 c2.2.2.2.2.2.2.2.2.2.1) 127 c2.2.2.2.2.2.2.2.2.2.2.1) 136 c2.2.2.2.2.2.2.2.2.2.2.2.2.1) 137 c2.2.2.2.2.2.2.2.2.2.2.2.2.2) (va_up2 (va_up2 V 104 0 c2.2.1) 104 46 c2.2.2.2.2.2.2.2.2.2.2.2.1) B L M) ad cells slots) : QG X 4 Q (some ()) 1015 [(0, .float (UInt32.ofNat 100)), (1, .ref 0), (2, .ref 104), (3, .int x3)] [] (wLx rfB kfB (va_rf z) (va_rf tx) A V B L M) ad cells slots := by
  refine QG.aload_n hX (qd K_L_law17 39 rfl) rfl rfl ?_
  refine QG.aload_ns hX (qd K_L_law18 0 rfl) rfl rfl ?_
  refine QG.iload_n hX (qd K_L_law18 1 rfl) rfl rfl ?_
  refine QG.iconst hX (qd K_L_law18 2 rfl) rfl ki_1 ?_
  refine QG.iadd hX (qd K_L_law18 3 rfl) rfl ?_
  refine QG.scld hX hs0 hsl hsA hsb (qd K_L_law18 4 rfl) rfl hi1 hv1 ?_
  refine QG.aload_ns hX (qd K_L_law18 5 rfl) rfl rfl ?_
  refine QG.iload_n hX (qd K_L_law18 6 rfl) rfl rfl ?_
  refine QG.iconst hX (qd K_L_law18 7 rfl) rfl ki_2 ?_
  refine QG.iadd hX (qd K_L_law18 8 rfl) rfl ?_
  refine QG.scld hX hs0 hsl hsA hsb (qd K_L_law18 9 rfl) rfl hi2 hv2 ?_
  refine QG.callVk (rest := []) [0, 37, 76, 77, 78, 79, 80, 81, 82, 83, 84, 85, 86, 87, 88, 89, 23, 24, 25, 26, 27, 28, 29, 30, 31, 32, 33, 34, 35, 36] hz1 hX cw_L_130 (M_X7_ideal_un_un X.l (fun j => Option.map (qinv [0, 37, 76, 77, 78, 79, 80, 81, 82, 83, 84, 85, 86, 87, 88, 89, 23, 24, 25, 26, 27, 28, 29, 30, 31, 32, 33, 34, 35, 36]) (kfB j)) (B 76) (V 76 1) (V 76 2) (V 76 3) (V 76 4) (V 76 5) (A 77) (A 78) (A 79) (A 80) (A 81) (A 82) (V 76 12) (B 83) (V 83 1) (V 83 2) (V 83 3) (V 83 4) (V 83 5) (A 84) (A 85) (A 86) (A 87) (A 88) (A 89) (V 83 12) (B 23) (V 23 1) (V 23 2) (V 23 3) (V 23 4) (V 23 5) (A 24) (A 25) (A 26) (A 27) (A 28) (A 29) (V 23 12) (B 30) (V 30 1) (V 30 2) (V 30 3) (V 30 4) (V 30 5) (A 31) (A 32) (A 33) (A 34) (A 35) (A 36) (V 30 12) v1 v2 h0a h0b (by show Option.map _ (kfB v1.toNatClampNeg) = _; rw [hj0]; rfl) hm0 h1a h1b (by show Option.map _ (kfB v2.toNatClampNeg) = _; rw [hj1]; rfl) hm1) trivial (by decide) (by decide) (qd K_L_law18 10 rfl) rfl hcs rfl rfl rfl rfl (Nat.le_of_ble_eq_true rfl) (Eq.trans (congrArg (fun f => List.map (fun i => (wLx rfB f (va_rf z) (va_rf tx) A V B L M)[i]?) [0, 37, 76, 77, 78, 79, 80, 81, 82, 83, 84, 85, 86, 87, 88, 89, 23, 24, 25, 26, 27, 28, 29, 30, 31, 32, 33, 34, 35, 36]) (qinv_eq [0, 37, 76, 77, 78, 79, 80, 81, 82, 83, 84, 85, 86, 87, 88, 89, 23, 24, 25, 26, 27, 28, 29, 30, 31, 32, 33, 34, 35, 36] kfB).symm) rfl) rfl (Nat.le_of_ble_eq_true rfl) rfl ?_
  refine QG.eqW (Wd' := (wLx rfB (fun j => Option.map (qf [0, 37, 76, 77, 78, 79, 80, 81, 82, 83, 84, 85, 86, 87, 88, 89, 23, 24, 25, 26, 27, 28, 29, 30, 31, 32, 33, 34, 35, 36]) (Option.map (qinv [0, 37, 76, 77, 78, 79, 80, 81, 82, 83, 84, 85, 86, 87, 88, 89, 23, 24, 25, 26, 27, 28, 29, 30, 31, 32, 33, 34, 35, 36]) (kfB j))) (va_rf z) (va_rf tx) A V B L M)) rfl ?_
  rw [qinv_eq [0, 37, 76, 77, 78, 79, 80, 81, 82, 83, 84, 85, 86, 87, 88, 89, 23, 24, 25, 26, 27, 28, 29, 30, 31, 32, 33, 34, 35, 36] kfB]
  show QG X 4 _ _ 1029 _ [.int c1] _ ad _ _
  refine QG.aload_n hX (qd K_L_law18 11 rfl) rfl rfl ?_
  refine QG.aload_ns hX (qd K_L_law18 12 rfl) rfl rfl ?_
  refine QG.iload_n hX (qd K_L_law18 13 rfl) rfl rfl ?_
  refine QG.iconst hX (qd K_L_law18 14 rfl) rfl ki_1 ?_
  refine QG.iadd hX (qd K_L_law18 15 rfl) rfl ?_
  refine QG.scld hX hs0 hsl hsA hsb (qd K_L_law18 16 rfl) rfl hi1 hv1 ?_
  refine QG.aload_ns hX (qd K_L_law18 17 rfl) rfl rfl ?_
  refine QG.iload_n hX (qd K_L_law18 18 rfl) rfl rfl ?_
  refine QG.iconst hX (qd K_L_law18 19 rfl) rfl ki_2 ?_
  refine QG.iadd hX (qd K_L_law18 20 rfl) rfl ?_
  refine QG.scld hX hs0 hsl hsA hsb (qd K_L_law18 21 rfl) rfl hi2 hv2 ?_
  refine QG.callVk (rest := [.int c1]) [104, 105, 106, 107, 108, 109, 110, 111, 112, 113, 114, 115, 116, 117, 118, 119, 120, 121, 122, 123, 124, 125, 126, 127, 128, 129, 130, 131, 132, 133, 134, 135, 136, 137] hz2 hX cw_L_133 (M_X8_ideal X.l (V 104 0) (A 105) (A 106) (A 107) (A 108) (A 109) (A 110) (A 111) (A 112) (V 104 9) (V 104 10) (A 113) (A 114) (A 115) (A 116) M (A 118) (A 119) (A 120) (A 121) (A 122) (A 123) (A 124) (A 125) (A 126) (A 127) (A 128) (V 104 27) (V 104 28) (A 129) (V 104 30) (V 104 31) (V 104 32) (V 104 33) (V 104 34) (V 104 35) (V 104 36) (A 130) (A 131) (A 132) (A 133) (A 134) (A 135) (V 104 43) (V 104 44) (V 104 45) (V 104 46) (A 136) (A 137) v1 v2) trivial (by decide) (by decide) (qd K_L_law18 22 rfl) rfl hcs rfl rfl rfl rfl (Nat.le_of_ble_eq_true rfl) rfl rfl (Nat.le_of_ble_eq_true rfl) rfl ?_
  refine QG.eqW (Wd' := (wLx rfB kfB (va_rf z) (va_rf tx) (va_up (va_up (va_up (va_up (va_up (va_up (va_up (va_up (va_up (va_up (va_up A 119 c2.2.2.1) 120 c2.2.2.2.1) 121 c2.2.2.2.2.1) 122 c2.2.2.2.2.2.1) 123 c2.2.2.2.2.2.2.1) 124 c2.2.2.2.2.2.2.2.1) 125 c2.2.2.2.2.2.2.2.2.1) 126 c2.2.2.2.2.2.2.2.2.2.1) 127 c2.2.2.2.2.2.2.2.2.2.2.1) 136 c2.2.2.2.2.2.2.2.2.2.2.2.2.1) 137 c2.2.2.2.2.2.2.2.2.2.2.2.2.2) (va_up2 (va_up2 V 104 0 c2.2.1) 104 46 c2.2.2.2.2.2.2.2.2.2.2.2.1) B L M)) rfl ?_
  show QG X 4 _ _ 1043 _ [.int c2.1, .int c1] _ ad _ _
  exact QG.ifT (by rw [he]) (QG.icmp_eq (tgt := 1048) (oF := none) hX (qd K_L_law18 23 rfl) rfl (by decide) K QG.nothing)

set_option maxRecDepth 100000 in
set_option maxHeartbeats 4000000 in
theorem C_ideal_un0_un2 {X : QX} (hX : qok X code RL 4 (some .boolean) 1000) {Q : Unit → State → Prop} {b LL : Nat} {xs : Nat → Int32} (hs0 : va_X b LL xs X.s X.s.heap) (hsl : b < X.s.heap.size) (hsA : ¬ X.A b) (hsb : X.sA 100 = b) {ad : Nat → Nat} {cells slots : Nat} (hcs : cells ≤ X.R.cells ∧ slots ≤ X.R.slots) {A V : Nat → Nat → Int32} {B : Nat → Bool} {L M : Nat → Int64} {z tx : Option Nat} {x3 : Int32} {v1 : Int32} {v2 : Int32} (hi1 : vp_in (x3 + 1) LL) (hv1 : xs (x3 + 1).toNatClampNeg = v1) (hi2 : vp_in (x3 + 2) LL) (hv2 : xs (x3 + 2).toNatClampNeg = v2) (h0a : ¬ v1 < 0) (h0b : ¬ 4 ≤ v1) (hj0 : v1.toNatClampNeg = 0) (hm0 : B 76 = false) (h1a : ¬ v2 < 0) (h1b : ¬ 4 ≤ v2) (hj1 : v2.toNatClampNeg = 2) (hm1 : B 90 = false) {c1 : Int32} {c2 : Int32 × Int32 × (Nat → Int32) × (Nat → Int32) × (Nat → Int32) × (Nat → Int32) × (Nat → Int32) × (Nat → Int32) × (Nat → Int32) × (Nat → Int32) × (Nat → Int32) × Int32 × (Nat → Int32) × (Nat → Int32)} (hz1 : F_X7_ideal_un_un v1 v2 = some c1) (hz2 : F_X8_ideal (V 104 0) (A 119) (A 120) (A 121) (A 122) (A 123) (A 124) (A 125) (A 126) (A 127) (V 104 46) (A 136) (A 137) v1 v2 = some c2) (he : c1 = c2.1)
    (K : QG X 4 Q (some ()) 1048 [(0, .float (UInt32.ofNat 100)), (1, .ref 0), (2, .ref 104), (3, .int x3)] [] (wLx rfB kfB (va_rf z) (va_rf tx) (va_up (va_up (va_up (va_up (va_up (va_up (va_up (va_up (va_up (va_up (va_up A 119 c2.2.2.1) 120 c2.2.2.2.1) 121 c2.2.2.2.2.1) 122 c2.2.2.2.2.2.1) 123 c2.2.2.2.2.2.2.1) 124 c2.2.2.2.2.2.2.2.1) 125 c2.2.2.2.2.2.2.2.2.1) 126 c2.2.2.2.2.2.2.2.2.2.1) 127 c2.2.2.2.2.2.2.2.2.2.2.1) 136 c2.2.2.2.2.2.2.2.2.2.2.2.2.1) 137 c2.2.2.2.2.2.2.2.2.2.2.2.2.2) (va_up2 (va_up2 V 104 0 c2.2.1) 104 46 c2.2.2.2.2.2.2.2.2.2.2.2.1) B L M) ad cells slots) : QG X 4 Q (some ()) 1015 [(0, .float (UInt32.ofNat 100)), (1, .ref 0), (2, .ref 104), (3, .int x3)] [] (wLx rfB kfB (va_rf z) (va_rf tx) A V B L M) ad cells slots := by
  refine QG.aload_n hX (qd K_L_law17 39 rfl) rfl rfl ?_
  refine QG.aload_ns hX (qd K_L_law18 0 rfl) rfl rfl ?_
  refine QG.iload_n hX (qd K_L_law18 1 rfl) rfl rfl ?_
  refine QG.iconst hX (qd K_L_law18 2 rfl) rfl ki_1 ?_
  refine QG.iadd hX (qd K_L_law18 3 rfl) rfl ?_
  refine QG.scld hX hs0 hsl hsA hsb (qd K_L_law18 4 rfl) rfl hi1 hv1 ?_
  refine QG.aload_ns hX (qd K_L_law18 5 rfl) rfl rfl ?_
  refine QG.iload_n hX (qd K_L_law18 6 rfl) rfl rfl ?_
  refine QG.iconst hX (qd K_L_law18 7 rfl) rfl ki_2 ?_
  refine QG.iadd hX (qd K_L_law18 8 rfl) rfl ?_
  refine QG.scld hX hs0 hsl hsA hsb (qd K_L_law18 9 rfl) rfl hi2 hv2 ?_
  refine QG.callVk (rest := []) [0, 37, 76, 77, 78, 79, 80, 81, 82, 90, 91, 92, 93, 94, 95, 96, 23, 24, 25, 26, 27, 28, 29, 30, 31, 32, 33, 34, 35, 36] hz1 hX cw_L_130 (M_X7_ideal_un_un X.l (fun j => Option.map (qinv [0, 37, 76, 77, 78, 79, 80, 81, 82, 90, 91, 92, 93, 94, 95, 96, 23, 24, 25, 26, 27, 28, 29, 30, 31, 32, 33, 34, 35, 36]) (kfB j)) (B 76) (V 76 1) (V 76 2) (V 76 3) (V 76 4) (V 76 5) (A 77) (A 78) (A 79) (A 80) (A 81) (A 82) (V 76 12) (B 90) (V 90 1) (V 90 2) (V 90 3) (V 90 4) (V 90 5) (A 91) (A 92) (A 93) (A 94) (A 95) (A 96) (V 90 12) (B 23) (V 23 1) (V 23 2) (V 23 3) (V 23 4) (V 23 5) (A 24) (A 25) (A 26) (A 27) (A 28) (A 29) (V 23 12) (B 30) (V 30 1) (V 30 2) (V 30 3) (V 30 4) (V 30 5) (A 31) (A 32) (A 33) (A 34) (A 35) (A 36) (V 30 12) v1 v2 h0a h0b (by show Option.map _ (kfB v1.toNatClampNeg) = _; rw [hj0]; rfl) hm0 h1a h1b (by show Option.map _ (kfB v2.toNatClampNeg) = _; rw [hj1]; rfl) hm1) trivial (by decide) (by decide) (qd K_L_law18 10 rfl) rfl hcs rfl rfl rfl rfl (Nat.le_of_ble_eq_true rfl) (Eq.trans (congrArg (fun f => List.map (fun i => (wLx rfB f (va_rf z) (va_rf tx) A V B L M)[i]?) [0, 37, 76, 77, 78, 79, 80, 81, 82, 90, 91, 92, 93, 94, 95, 96, 23, 24, 25, 26, 27, 28, 29, 30, 31, 32, 33, 34, 35, 36]) (qinv_eq [0, 37, 76, 77, 78, 79, 80, 81, 82, 90, 91, 92, 93, 94, 95, 96, 23, 24, 25, 26, 27, 28, 29, 30, 31, 32, 33, 34, 35, 36] kfB).symm) rfl) rfl (Nat.le_of_ble_eq_true rfl) rfl ?_
  refine QG.eqW (Wd' := (wLx rfB (fun j => Option.map (qf [0, 37, 76, 77, 78, 79, 80, 81, 82, 90, 91, 92, 93, 94, 95, 96, 23, 24, 25, 26, 27, 28, 29, 30, 31, 32, 33, 34, 35, 36]) (Option.map (qinv [0, 37, 76, 77, 78, 79, 80, 81, 82, 90, 91, 92, 93, 94, 95, 96, 23, 24, 25, 26, 27, 28, 29, 30, 31, 32, 33, 34, 35, 36]) (kfB j))) (va_rf z) (va_rf tx) A V B L M)) rfl ?_
  rw [qinv_eq [0, 37, 76, 77, 78, 79, 80, 81, 82, 90, 91, 92, 93, 94, 95, 96, 23, 24, 25, 26, 27, 28, 29, 30, 31, 32, 33, 34, 35, 36] kfB]
  show QG X 4 _ _ 1029 _ [.int c1] _ ad _ _
  refine QG.aload_n hX (qd K_L_law18 11 rfl) rfl rfl ?_
  refine QG.aload_ns hX (qd K_L_law18 12 rfl) rfl rfl ?_
  refine QG.iload_n hX (qd K_L_law18 13 rfl) rfl rfl ?_
  refine QG.iconst hX (qd K_L_law18 14 rfl) rfl ki_1 ?_
  refine QG.iadd hX (qd K_L_law18 15 rfl) rfl ?_
  refine QG.scld hX hs0 hsl hsA hsb (qd K_L_law18 16 rfl) rfl hi1 hv1 ?_
  refine QG.aload_ns hX (qd K_L_law18 17 rfl) rfl rfl ?_
  refine QG.iload_n hX (qd K_L_law18 18 rfl) rfl rfl ?_
  refine QG.iconst hX (qd K_L_law18 19 rfl) rfl ki_2 ?_
  refine QG.iadd hX (qd K_L_law18 20 rfl) rfl ?_
  refine QG.scld hX hs0 hsl hsA hsb (qd K_L_law18 21 rfl) rfl hi2 hv2 ?_
  refine QG.callVk (rest := [.int c1]) [104, 105, 106, 107, 108, 109, 110, 111, 112, 113, 114, 115, 116, 117, 118, 119, 120, 121, 122, 123, 124, 125, 126, 127, 128, 129, 130, 131, 132, 133, 134, 135, 136, 137] hz2 hX cw_L_133 (M_X8_ideal X.l (V 104 0) (A 105) (A 106) (A 107) (A 108) (A 109) (A 110) (A 111) (A 112) (V 104 9) (V 104 10) (A 113) (A 114) (A 115) (A 116) M (A 118) (A 119) (A 120) (A 121) (A 122) (A 123) (A 124) (A 125) (A 126) (A 127) (A 128) (V 104 27) (V 104 28) (A 129) (V 104 30) (V 104 31) (V 104 32) (V 104 33) (V 104 34) (V 104 35) (V 104 36) (A 130) (A 131) (A 132) (A 133) (A 134) (A 135) (V 104 43) (V 104 44) (V 104 45) (V 104 46) (A 136) (A 137) v1 v2) trivial (by decide) (by decide) (qd K_L_law18 22 rfl) rfl hcs rfl rfl rfl rfl (Nat.le_of_ble_eq_true rfl) rfl rfl (Nat.le_of_ble_eq_true rfl) rfl ?_
  refine QG.eqW (Wd' := (wLx rfB kfB (va_rf z) (va_rf tx) (va_up (va_up (va_up (va_up (va_up (va_up (va_up (va_up (va_up (va_up (va_up A 119 c2.2.2.1) 120 c2.2.2.2.1) 121 c2.2.2.2.2.1) 122 c2.2.2.2.2.2.1) 123 c2.2.2.2.2.2.2.1) 124 c2.2.2.2.2.2.2.2.1) 125 c2.2.2.2.2.2.2.2.2.1) 126 c2.2.2.2.2.2.2.2.2.2.1) 127 c2.2.2.2.2.2.2.2.2.2.2.1) 136 c2.2.2.2.2.2.2.2.2.2.2.2.2.1) 137 c2.2.2.2.2.2.2.2.2.2.2.2.2.2) (va_up2 (va_up2 V 104 0 c2.2.1) 104 46 c2.2.2.2.2.2.2.2.2.2.2.2.1) B L M)) rfl ?_
  show QG X 4 _ _ 1043 _ [.int c2.1, .int c1] _ ad _ _
  exact QG.ifT (by rw [he]) (QG.icmp_eq (tgt := 1048) (oF := none) hX (qd K_L_law18 23 rfl) rfl (by decide) K QG.nothing)

set_option maxRecDepth 100000 in
set_option maxHeartbeats 4000000 in
theorem C_ideal_un0_un3 {X : QX} (hX : qok X code RL 4 (some .boolean) 1000) {Q : Unit → State → Prop} {b LL : Nat} {xs : Nat → Int32} (hs0 : va_X b LL xs X.s X.s.heap) (hsl : b < X.s.heap.size) (hsA : ¬ X.A b) (hsb : X.sA 100 = b) {ad : Nat → Nat} {cells slots : Nat} (hcs : cells ≤ X.R.cells ∧ slots ≤ X.R.slots) {A V : Nat → Nat → Int32} {B : Nat → Bool} {L M : Nat → Int64} {z tx : Option Nat} {x3 : Int32} {v1 : Int32} {v2 : Int32} (hi1 : vp_in (x3 + 1) LL) (hv1 : xs (x3 + 1).toNatClampNeg = v1) (hi2 : vp_in (x3 + 2) LL) (hv2 : xs (x3 + 2).toNatClampNeg = v2) (h0a : ¬ v1 < 0) (h0b : ¬ 4 ≤ v1) (hj0 : v1.toNatClampNeg = 0) (hm0 : B 76 = false) (h1a : ¬ v2 < 0) (h1b : ¬ 4 ≤ v2) (hj1 : v2.toNatClampNeg = 3) (hm1 : B 97 = false) {c1 : Int32} {c2 : Int32 × Int32 × (Nat → Int32) × (Nat → Int32) × (Nat → Int32) × (Nat → Int32) × (Nat → Int32) × (Nat → Int32) × (Nat → Int32) × (Nat → Int32) × (Nat → Int32) × Int32 × (Nat → Int32) × (Nat → Int32)} (hz1 : F_X7_ideal_un_un v1 v2 = some c1) (hz2 : F_X8_ideal (V 104 0) (A 119) (A 120) (A 121) (A 122) (A 123) (A 124) (A 125) (A 126) (A 127) (V 104 46) (A 136) (A 137) v1 v2 = some c2) (he : c1 = c2.1)
    (K : QG X 4 Q (some ()) 1048 [(0, .float (UInt32.ofNat 100)), (1, .ref 0), (2, .ref 104), (3, .int x3)] [] (wLx rfB kfB (va_rf z) (va_rf tx) (va_up (va_up (va_up (va_up (va_up (va_up (va_up (va_up (va_up (va_up (va_up A 119 c2.2.2.1) 120 c2.2.2.2.1) 121 c2.2.2.2.2.1) 122 c2.2.2.2.2.2.1) 123 c2.2.2.2.2.2.2.1) 124 c2.2.2.2.2.2.2.2.1) 125 c2.2.2.2.2.2.2.2.2.1) 126 c2.2.2.2.2.2.2.2.2.2.1) 127 c2.2.2.2.2.2.2.2.2.2.2.1) 136 c2.2.2.2.2.2.2.2.2.2.2.2.2.1) 137 c2.2.2.2.2.2.2.2.2.2.2.2.2.2) (va_up2 (va_up2 V 104 0 c2.2.1) 104 46 c2.2.2.2.2.2.2.2.2.2.2.2.1) B L M) ad cells slots) : QG X 4 Q (some ()) 1015 [(0, .float (UInt32.ofNat 100)), (1, .ref 0), (2, .ref 104), (3, .int x3)] [] (wLx rfB kfB (va_rf z) (va_rf tx) A V B L M) ad cells slots := by
  refine QG.aload_n hX (qd K_L_law17 39 rfl) rfl rfl ?_
  refine QG.aload_ns hX (qd K_L_law18 0 rfl) rfl rfl ?_
  refine QG.iload_n hX (qd K_L_law18 1 rfl) rfl rfl ?_
  refine QG.iconst hX (qd K_L_law18 2 rfl) rfl ki_1 ?_
  refine QG.iadd hX (qd K_L_law18 3 rfl) rfl ?_
  refine QG.scld hX hs0 hsl hsA hsb (qd K_L_law18 4 rfl) rfl hi1 hv1 ?_
  refine QG.aload_ns hX (qd K_L_law18 5 rfl) rfl rfl ?_
  refine QG.iload_n hX (qd K_L_law18 6 rfl) rfl rfl ?_
  refine QG.iconst hX (qd K_L_law18 7 rfl) rfl ki_2 ?_
  refine QG.iadd hX (qd K_L_law18 8 rfl) rfl ?_
  refine QG.scld hX hs0 hsl hsA hsb (qd K_L_law18 9 rfl) rfl hi2 hv2 ?_
  refine QG.callVk (rest := []) [0, 37, 76, 77, 78, 79, 80, 81, 82, 97, 98, 99, 100, 101, 102, 103, 23, 24, 25, 26, 27, 28, 29, 30, 31, 32, 33, 34, 35, 36] hz1 hX cw_L_130 (M_X7_ideal_un_un X.l (fun j => Option.map (qinv [0, 37, 76, 77, 78, 79, 80, 81, 82, 97, 98, 99, 100, 101, 102, 103, 23, 24, 25, 26, 27, 28, 29, 30, 31, 32, 33, 34, 35, 36]) (kfB j)) (B 76) (V 76 1) (V 76 2) (V 76 3) (V 76 4) (V 76 5) (A 77) (A 78) (A 79) (A 80) (A 81) (A 82) (V 76 12) (B 97) (V 97 1) (V 97 2) (V 97 3) (V 97 4) (V 97 5) (A 98) (A 99) (A 100) (A 101) (A 102) (A 103) (V 97 12) (B 23) (V 23 1) (V 23 2) (V 23 3) (V 23 4) (V 23 5) (A 24) (A 25) (A 26) (A 27) (A 28) (A 29) (V 23 12) (B 30) (V 30 1) (V 30 2) (V 30 3) (V 30 4) (V 30 5) (A 31) (A 32) (A 33) (A 34) (A 35) (A 36) (V 30 12) v1 v2 h0a h0b (by show Option.map _ (kfB v1.toNatClampNeg) = _; rw [hj0]; rfl) hm0 h1a h1b (by show Option.map _ (kfB v2.toNatClampNeg) = _; rw [hj1]; rfl) hm1) trivial (by decide) (by decide) (qd K_L_law18 10 rfl) rfl hcs rfl rfl rfl rfl (Nat.le_of_ble_eq_true rfl) (Eq.trans (congrArg (fun f => List.map (fun i => (wLx rfB f (va_rf z) (va_rf tx) A V B L M)[i]?) [0, 37, 76, 77, 78, 79, 80, 81, 82, 97, 98, 99, 100, 101, 102, 103, 23, 24, 25, 26, 27, 28, 29, 30, 31, 32, 33, 34, 35, 36]) (qinv_eq [0, 37, 76, 77, 78, 79, 80, 81, 82, 97, 98, 99, 100, 101, 102, 103, 23, 24, 25, 26, 27, 28, 29, 30, 31, 32, 33, 34, 35, 36] kfB).symm) rfl) rfl (Nat.le_of_ble_eq_true rfl) rfl ?_
  refine QG.eqW (Wd' := (wLx rfB (fun j => Option.map (qf [0, 37, 76, 77, 78, 79, 80, 81, 82, 97, 98, 99, 100, 101, 102, 103, 23, 24, 25, 26, 27, 28, 29, 30, 31, 32, 33, 34, 35, 36]) (Option.map (qinv [0, 37, 76, 77, 78, 79, 80, 81, 82, 97, 98, 99, 100, 101, 102, 103, 23, 24, 25, 26, 27, 28, 29, 30, 31, 32, 33, 34, 35, 36]) (kfB j))) (va_rf z) (va_rf tx) A V B L M)) rfl ?_
  rw [qinv_eq [0, 37, 76, 77, 78, 79, 80, 81, 82, 97, 98, 99, 100, 101, 102, 103, 23, 24, 25, 26, 27, 28, 29, 30, 31, 32, 33, 34, 35, 36] kfB]
  show QG X 4 _ _ 1029 _ [.int c1] _ ad _ _
  refine QG.aload_n hX (qd K_L_law18 11 rfl) rfl rfl ?_
  refine QG.aload_ns hX (qd K_L_law18 12 rfl) rfl rfl ?_
  refine QG.iload_n hX (qd K_L_law18 13 rfl) rfl rfl ?_
  refine QG.iconst hX (qd K_L_law18 14 rfl) rfl ki_1 ?_
  refine QG.iadd hX (qd K_L_law18 15 rfl) rfl ?_
  refine QG.scld hX hs0 hsl hsA hsb (qd K_L_law18 16 rfl) rfl hi1 hv1 ?_
  refine QG.aload_ns hX (qd K_L_law18 17 rfl) rfl rfl ?_
  refine QG.iload_n hX (qd K_L_law18 18 rfl) rfl rfl ?_
  refine QG.iconst hX (qd K_L_law18 19 rfl) rfl ki_2 ?_
  refine QG.iadd hX (qd K_L_law18 20 rfl) rfl ?_
  refine QG.scld hX hs0 hsl hsA hsb (qd K_L_law18 21 rfl) rfl hi2 hv2 ?_
  refine QG.callVk (rest := [.int c1]) [104, 105, 106, 107, 108, 109, 110, 111, 112, 113, 114, 115, 116, 117, 118, 119, 120, 121, 122, 123, 124, 125, 126, 127, 128, 129, 130, 131, 132, 133, 134, 135, 136, 137] hz2 hX cw_L_133 (M_X8_ideal X.l (V 104 0) (A 105) (A 106) (A 107) (A 108) (A 109) (A 110) (A 111) (A 112) (V 104 9) (V 104 10) (A 113) (A 114) (A 115) (A 116) M (A 118) (A 119) (A 120) (A 121) (A 122) (A 123) (A 124) (A 125) (A 126) (A 127) (A 128) (V 104 27) (V 104 28) (A 129) (V 104 30) (V 104 31) (V 104 32) (V 104 33) (V 104 34) (V 104 35) (V 104 36) (A 130) (A 131) (A 132) (A 133) (A 134) (A 135) (V 104 43) (V 104 44) (V 104 45) (V 104 46) (A 136) (A 137) v1 v2) trivial (by decide) (by decide) (qd K_L_law18 22 rfl) rfl hcs rfl rfl rfl rfl (Nat.le_of_ble_eq_true rfl) rfl rfl (Nat.le_of_ble_eq_true rfl) rfl ?_
  refine QG.eqW (Wd' := (wLx rfB kfB (va_rf z) (va_rf tx) (va_up (va_up (va_up (va_up (va_up (va_up (va_up (va_up (va_up (va_up (va_up A 119 c2.2.2.1) 120 c2.2.2.2.1) 121 c2.2.2.2.2.1) 122 c2.2.2.2.2.2.1) 123 c2.2.2.2.2.2.2.1) 124 c2.2.2.2.2.2.2.2.1) 125 c2.2.2.2.2.2.2.2.2.1) 126 c2.2.2.2.2.2.2.2.2.2.1) 127 c2.2.2.2.2.2.2.2.2.2.2.1) 136 c2.2.2.2.2.2.2.2.2.2.2.2.2.1) 137 c2.2.2.2.2.2.2.2.2.2.2.2.2.2) (va_up2 (va_up2 V 104 0 c2.2.1) 104 46 c2.2.2.2.2.2.2.2.2.2.2.2.1) B L M)) rfl ?_
  show QG X 4 _ _ 1043 _ [.int c2.1, .int c1] _ ad _ _
  exact QG.ifT (by rw [he]) (QG.icmp_eq (tgt := 1048) (oF := none) hX (qd K_L_law18 23 rfl) rfl (by decide) K QG.nothing)

set_option maxRecDepth 100000 in
set_option maxHeartbeats 4000000 in
theorem C_ideal_un1_un0 {X : QX} (hX : qok X code RL 4 (some .boolean) 1000) {Q : Unit → State → Prop} {b LL : Nat} {xs : Nat → Int32} (hs0 : va_X b LL xs X.s X.s.heap) (hsl : b < X.s.heap.size) (hsA : ¬ X.A b) (hsb : X.sA 100 = b) {ad : Nat → Nat} {cells slots : Nat} (hcs : cells ≤ X.R.cells ∧ slots ≤ X.R.slots) {A V : Nat → Nat → Int32} {B : Nat → Bool} {L M : Nat → Int64} {z tx : Option Nat} {x3 : Int32} {v1 : Int32} {v2 : Int32} (hi1 : vp_in (x3 + 1) LL) (hv1 : xs (x3 + 1).toNatClampNeg = v1) (hi2 : vp_in (x3 + 2) LL) (hv2 : xs (x3 + 2).toNatClampNeg = v2) (h0a : ¬ v1 < 0) (h0b : ¬ 4 ≤ v1) (hj0 : v1.toNatClampNeg = 1) (hm0 : B 83 = false) (h1a : ¬ v2 < 0) (h1b : ¬ 4 ≤ v2) (hj1 : v2.toNatClampNeg = 0) (hm1 : B 76 = false) {c1 : Int32} {c2 : Int32 × Int32 × (Nat → Int32) × (Nat → Int32) × (Nat → Int32) × (Nat → Int32) × (Nat → Int32) × (Nat → Int32) × (Nat → Int32) × (Nat → Int32) × (Nat → Int32) × Int32 × (Nat → Int32) × (Nat → Int32)} (hz1 : F_X7_ideal_un_un v1 v2 = some c1) (hz2 : F_X8_ideal (V 104 0) (A 119) (A 120) (A 121) (A 122) (A 123) (A 124) (A 125) (A 126) (A 127) (V 104 46) (A 136) (A 137) v1 v2 = some c2) (he : c1 = c2.1)
    (K : QG X 4 Q (some ()) 1048 [(0, .float (UInt32.ofNat 100)), (1, .ref 0), (2, .ref 104), (3, .int x3)] [] (wLx rfB kfB (va_rf z) (va_rf tx) (va_up (va_up (va_up (va_up (va_up (va_up (va_up (va_up (va_up (va_up (va_up A 119 c2.2.2.1) 120 c2.2.2.2.1) 121 c2.2.2.2.2.1) 122 c2.2.2.2.2.2.1) 123 c2.2.2.2.2.2.2.1) 124 c2.2.2.2.2.2.2.2.1) 125 c2.2.2.2.2.2.2.2.2.1) 126 c2.2.2.2.2.2.2.2.2.2.1) 127 c2.2.2.2.2.2.2.2.2.2.2.1) 136 c2.2.2.2.2.2.2.2.2.2.2.2.2.1) 137 c2.2.2.2.2.2.2.2.2.2.2.2.2.2) (va_up2 (va_up2 V 104 0 c2.2.1) 104 46 c2.2.2.2.2.2.2.2.2.2.2.2.1) B L M) ad cells slots) : QG X 4 Q (some ()) 1015 [(0, .float (UInt32.ofNat 100)), (1, .ref 0), (2, .ref 104), (3, .int x3)] [] (wLx rfB kfB (va_rf z) (va_rf tx) A V B L M) ad cells slots := by
  refine QG.aload_n hX (qd K_L_law17 39 rfl) rfl rfl ?_
  refine QG.aload_ns hX (qd K_L_law18 0 rfl) rfl rfl ?_
  refine QG.iload_n hX (qd K_L_law18 1 rfl) rfl rfl ?_
  refine QG.iconst hX (qd K_L_law18 2 rfl) rfl ki_1 ?_
  refine QG.iadd hX (qd K_L_law18 3 rfl) rfl ?_
  refine QG.scld hX hs0 hsl hsA hsb (qd K_L_law18 4 rfl) rfl hi1 hv1 ?_
  refine QG.aload_ns hX (qd K_L_law18 5 rfl) rfl rfl ?_
  refine QG.iload_n hX (qd K_L_law18 6 rfl) rfl rfl ?_
  refine QG.iconst hX (qd K_L_law18 7 rfl) rfl ki_2 ?_
  refine QG.iadd hX (qd K_L_law18 8 rfl) rfl ?_
  refine QG.scld hX hs0 hsl hsA hsb (qd K_L_law18 9 rfl) rfl hi2 hv2 ?_
  refine QG.callVk (rest := []) [0, 37, 83, 84, 85, 86, 87, 88, 89, 76, 77, 78, 79, 80, 81, 82, 23, 24, 25, 26, 27, 28, 29, 30, 31, 32, 33, 34, 35, 36] hz1 hX cw_L_130 (M_X7_ideal_un_un X.l (fun j => Option.map (qinv [0, 37, 83, 84, 85, 86, 87, 88, 89, 76, 77, 78, 79, 80, 81, 82, 23, 24, 25, 26, 27, 28, 29, 30, 31, 32, 33, 34, 35, 36]) (kfB j)) (B 83) (V 83 1) (V 83 2) (V 83 3) (V 83 4) (V 83 5) (A 84) (A 85) (A 86) (A 87) (A 88) (A 89) (V 83 12) (B 76) (V 76 1) (V 76 2) (V 76 3) (V 76 4) (V 76 5) (A 77) (A 78) (A 79) (A 80) (A 81) (A 82) (V 76 12) (B 23) (V 23 1) (V 23 2) (V 23 3) (V 23 4) (V 23 5) (A 24) (A 25) (A 26) (A 27) (A 28) (A 29) (V 23 12) (B 30) (V 30 1) (V 30 2) (V 30 3) (V 30 4) (V 30 5) (A 31) (A 32) (A 33) (A 34) (A 35) (A 36) (V 30 12) v1 v2 h0a h0b (by show Option.map _ (kfB v1.toNatClampNeg) = _; rw [hj0]; rfl) hm0 h1a h1b (by show Option.map _ (kfB v2.toNatClampNeg) = _; rw [hj1]; rfl) hm1) trivial (by decide) (by decide) (qd K_L_law18 10 rfl) rfl hcs rfl rfl rfl rfl (Nat.le_of_ble_eq_true rfl) (Eq.trans (congrArg (fun f => List.map (fun i => (wLx rfB f (va_rf z) (va_rf tx) A V B L M)[i]?) [0, 37, 83, 84, 85, 86, 87, 88, 89, 76, 77, 78, 79, 80, 81, 82, 23, 24, 25, 26, 27, 28, 29, 30, 31, 32, 33, 34, 35, 36]) (qinv_eq [0, 37, 83, 84, 85, 86, 87, 88, 89, 76, 77, 78, 79, 80, 81, 82, 23, 24, 25, 26, 27, 28, 29, 30, 31, 32, 33, 34, 35, 36] kfB).symm) rfl) rfl (Nat.le_of_ble_eq_true rfl) rfl ?_
  refine QG.eqW (Wd' := (wLx rfB (fun j => Option.map (qf [0, 37, 83, 84, 85, 86, 87, 88, 89, 76, 77, 78, 79, 80, 81, 82, 23, 24, 25, 26, 27, 28, 29, 30, 31, 32, 33, 34, 35, 36]) (Option.map (qinv [0, 37, 83, 84, 85, 86, 87, 88, 89, 76, 77, 78, 79, 80, 81, 82, 23, 24, 25, 26, 27, 28, 29, 30, 31, 32, 33, 34, 35, 36]) (kfB j))) (va_rf z) (va_rf tx) A V B L M)) rfl ?_
  rw [qinv_eq [0, 37, 83, 84, 85, 86, 87, 88, 89, 76, 77, 78, 79, 80, 81, 82, 23, 24, 25, 26, 27, 28, 29, 30, 31, 32, 33, 34, 35, 36] kfB]
  show QG X 4 _ _ 1029 _ [.int c1] _ ad _ _
  refine QG.aload_n hX (qd K_L_law18 11 rfl) rfl rfl ?_
  refine QG.aload_ns hX (qd K_L_law18 12 rfl) rfl rfl ?_
  refine QG.iload_n hX (qd K_L_law18 13 rfl) rfl rfl ?_
  refine QG.iconst hX (qd K_L_law18 14 rfl) rfl ki_1 ?_
  refine QG.iadd hX (qd K_L_law18 15 rfl) rfl ?_
  refine QG.scld hX hs0 hsl hsA hsb (qd K_L_law18 16 rfl) rfl hi1 hv1 ?_
  refine QG.aload_ns hX (qd K_L_law18 17 rfl) rfl rfl ?_
  refine QG.iload_n hX (qd K_L_law18 18 rfl) rfl rfl ?_
  refine QG.iconst hX (qd K_L_law18 19 rfl) rfl ki_2 ?_
  refine QG.iadd hX (qd K_L_law18 20 rfl) rfl ?_
  refine QG.scld hX hs0 hsl hsA hsb (qd K_L_law18 21 rfl) rfl hi2 hv2 ?_
  refine QG.callVk (rest := [.int c1]) [104, 105, 106, 107, 108, 109, 110, 111, 112, 113, 114, 115, 116, 117, 118, 119, 120, 121, 122, 123, 124, 125, 126, 127, 128, 129, 130, 131, 132, 133, 134, 135, 136, 137] hz2 hX cw_L_133 (M_X8_ideal X.l (V 104 0) (A 105) (A 106) (A 107) (A 108) (A 109) (A 110) (A 111) (A 112) (V 104 9) (V 104 10) (A 113) (A 114) (A 115) (A 116) M (A 118) (A 119) (A 120) (A 121) (A 122) (A 123) (A 124) (A 125) (A 126) (A 127) (A 128) (V 104 27) (V 104 28) (A 129) (V 104 30) (V 104 31) (V 104 32) (V 104 33) (V 104 34) (V 104 35) (V 104 36) (A 130) (A 131) (A 132) (A 133) (A 134) (A 135) (V 104 43) (V 104 44) (V 104 45) (V 104 46) (A 136) (A 137) v1 v2) trivial (by decide) (by decide) (qd K_L_law18 22 rfl) rfl hcs rfl rfl rfl rfl (Nat.le_of_ble_eq_true rfl) rfl rfl (Nat.le_of_ble_eq_true rfl) rfl ?_
  refine QG.eqW (Wd' := (wLx rfB kfB (va_rf z) (va_rf tx) (va_up (va_up (va_up (va_up (va_up (va_up (va_up (va_up (va_up (va_up (va_up A 119 c2.2.2.1) 120 c2.2.2.2.1) 121 c2.2.2.2.2.1) 122 c2.2.2.2.2.2.1) 123 c2.2.2.2.2.2.2.1) 124 c2.2.2.2.2.2.2.2.1) 125 c2.2.2.2.2.2.2.2.2.1) 126 c2.2.2.2.2.2.2.2.2.2.1) 127 c2.2.2.2.2.2.2.2.2.2.2.1) 136 c2.2.2.2.2.2.2.2.2.2.2.2.2.1) 137 c2.2.2.2.2.2.2.2.2.2.2.2.2.2) (va_up2 (va_up2 V 104 0 c2.2.1) 104 46 c2.2.2.2.2.2.2.2.2.2.2.2.1) B L M)) rfl ?_
  show QG X 4 _ _ 1043 _ [.int c2.1, .int c1] _ ad _ _
  exact QG.ifT (by rw [he]) (QG.icmp_eq (tgt := 1048) (oF := none) hX (qd K_L_law18 23 rfl) rfl (by decide) K QG.nothing)

set_option maxRecDepth 100000 in
set_option maxHeartbeats 4000000 in
theorem C_ideal_un1_un1 {X : QX} (hX : qok X code RL 4 (some .boolean) 1000) {Q : Unit → State → Prop} {b LL : Nat} {xs : Nat → Int32} (hs0 : va_X b LL xs X.s X.s.heap) (hsl : b < X.s.heap.size) (hsA : ¬ X.A b) (hsb : X.sA 100 = b) {ad : Nat → Nat} {cells slots : Nat} (hcs : cells ≤ X.R.cells ∧ slots ≤ X.R.slots) {A V : Nat → Nat → Int32} {B : Nat → Bool} {L M : Nat → Int64} {z tx : Option Nat} {x3 : Int32} {v1 : Int32} {v2 : Int32} (hi1 : vp_in (x3 + 1) LL) (hv1 : xs (x3 + 1).toNatClampNeg = v1) (hi2 : vp_in (x3 + 2) LL) (hv2 : xs (x3 + 2).toNatClampNeg = v2) (h0a : ¬ v1 < 0) (h0b : ¬ 4 ≤ v1) (hj0 : v1.toNatClampNeg = 1) (hm0 : B 83 = false) (h1a : ¬ v2 < 0) (h1b : ¬ 4 ≤ v2) (hj1 : v2.toNatClampNeg = 1) (hm1 : B 83 = false) {c1 : Int32} {c2 : Int32 × Int32 × (Nat → Int32) × (Nat → Int32) × (Nat → Int32) × (Nat → Int32) × (Nat → Int32) × (Nat → Int32) × (Nat → Int32) × (Nat → Int32) × (Nat → Int32) × Int32 × (Nat → Int32) × (Nat → Int32)} (hz1 : F_X7_ideal_un_al v1 v2 = some c1) (hz2 : F_X8_ideal (V 104 0) (A 119) (A 120) (A 121) (A 122) (A 123) (A 124) (A 125) (A 126) (A 127) (V 104 46) (A 136) (A 137) v1 v2 = some c2) (he : c1 = c2.1)
    (K : QG X 4 Q (some ()) 1048 [(0, .float (UInt32.ofNat 100)), (1, .ref 0), (2, .ref 104), (3, .int x3)] [] (wLx rfB kfB (va_rf z) (va_rf tx) (va_up (va_up (va_up (va_up (va_up (va_up (va_up (va_up (va_up (va_up (va_up A 119 c2.2.2.1) 120 c2.2.2.2.1) 121 c2.2.2.2.2.1) 122 c2.2.2.2.2.2.1) 123 c2.2.2.2.2.2.2.1) 124 c2.2.2.2.2.2.2.2.1) 125 c2.2.2.2.2.2.2.2.2.1) 126 c2.2.2.2.2.2.2.2.2.2.1) 127 c2.2.2.2.2.2.2.2.2.2.2.1) 136 c2.2.2.2.2.2.2.2.2.2.2.2.2.1) 137 c2.2.2.2.2.2.2.2.2.2.2.2.2.2) (va_up2 (va_up2 V 104 0 c2.2.1) 104 46 c2.2.2.2.2.2.2.2.2.2.2.2.1) B L M) ad cells slots) : QG X 4 Q (some ()) 1015 [(0, .float (UInt32.ofNat 100)), (1, .ref 0), (2, .ref 104), (3, .int x3)] [] (wLx rfB kfB (va_rf z) (va_rf tx) A V B L M) ad cells slots := by
  refine QG.aload_n hX (qd K_L_law17 39 rfl) rfl rfl ?_
  refine QG.aload_ns hX (qd K_L_law18 0 rfl) rfl rfl ?_
  refine QG.iload_n hX (qd K_L_law18 1 rfl) rfl rfl ?_
  refine QG.iconst hX (qd K_L_law18 2 rfl) rfl ki_1 ?_
  refine QG.iadd hX (qd K_L_law18 3 rfl) rfl ?_
  refine QG.scld hX hs0 hsl hsA hsb (qd K_L_law18 4 rfl) rfl hi1 hv1 ?_
  refine QG.aload_ns hX (qd K_L_law18 5 rfl) rfl rfl ?_
  refine QG.iload_n hX (qd K_L_law18 6 rfl) rfl rfl ?_
  refine QG.iconst hX (qd K_L_law18 7 rfl) rfl ki_2 ?_
  refine QG.iadd hX (qd K_L_law18 8 rfl) rfl ?_
  refine QG.scld hX hs0 hsl hsA hsb (qd K_L_law18 9 rfl) rfl hi2 hv2 ?_
  refine QG.callVk (rest := []) [0, 37, 83, 84, 85, 86, 87, 88, 89, 23, 24, 25, 26, 27, 28, 29, 30, 31, 32, 33, 34, 35, 36] hz1 hX cw_L_130 (M_X7_ideal_un_al X.l (fun j => Option.map (qinv [0, 37, 83, 84, 85, 86, 87, 88, 89, 23, 24, 25, 26, 27, 28, 29, 30, 31, 32, 33, 34, 35, 36]) (kfB j)) (B 83) (V 83 1) (V 83 2) (V 83 3) (V 83 4) (V 83 5) (A 84) (A 85) (A 86) (A 87) (A 88) (A 89) (V 83 12) (B 23) (V 23 1) (V 23 2) (V 23 3) (V 23 4) (V 23 5) (A 24) (A 25) (A 26) (A 27) (A 28) (A 29) (V 23 12) (B 30) (V 30 1) (V 30 2) (V 30 3) (V 30 4) (V 30 5) (A 31) (A 32) (A 33) (A 34) (A 35) (A 36) (V 30 12) v1 v2 h0a h0b (by show Option.map _ (kfB v1.toNatClampNeg) = _; rw [hj0]; rfl) hm0 h1a h1b (by show Option.map _ (kfB v2.toNatClampNeg) = _; rw [hj1]; rfl) hm1) trivial (by decide) (by decide) (qd K_L_law18 10 rfl) rfl hcs rfl rfl rfl rfl (Nat.le_of_ble_eq_true rfl) (Eq.trans (congrArg (fun f => List.map (fun i => (wLx rfB f (va_rf z) (va_rf tx) A V B L M)[i]?) [0, 37, 83, 84, 85, 86, 87, 88, 89, 23, 24, 25, 26, 27, 28, 29, 30, 31, 32, 33, 34, 35, 36]) (qinv_eq [0, 37, 83, 84, 85, 86, 87, 88, 89, 23, 24, 25, 26, 27, 28, 29, 30, 31, 32, 33, 34, 35, 36] kfB).symm) rfl) rfl (Nat.le_of_ble_eq_true rfl) rfl ?_
  refine QG.eqW (Wd' := (wLx rfB (fun j => Option.map (qf [0, 37, 83, 84, 85, 86, 87, 88, 89, 23, 24, 25, 26, 27, 28, 29, 30, 31, 32, 33, 34, 35, 36]) (Option.map (qinv [0, 37, 83, 84, 85, 86, 87, 88, 89, 23, 24, 25, 26, 27, 28, 29, 30, 31, 32, 33, 34, 35, 36]) (kfB j))) (va_rf z) (va_rf tx) A V B L M)) rfl ?_
  rw [qinv_eq [0, 37, 83, 84, 85, 86, 87, 88, 89, 23, 24, 25, 26, 27, 28, 29, 30, 31, 32, 33, 34, 35, 36] kfB]
  show QG X 4 _ _ 1029 _ [.int c1] _ ad _ _
  refine QG.aload_n hX (qd K_L_law18 11 rfl) rfl rfl ?_
  refine QG.aload_ns hX (qd K_L_law18 12 rfl) rfl rfl ?_
  refine QG.iload_n hX (qd K_L_law18 13 rfl) rfl rfl ?_
  refine QG.iconst hX (qd K_L_law18 14 rfl) rfl ki_1 ?_
  refine QG.iadd hX (qd K_L_law18 15 rfl) rfl ?_
  refine QG.scld hX hs0 hsl hsA hsb (qd K_L_law18 16 rfl) rfl hi1 hv1 ?_
  refine QG.aload_ns hX (qd K_L_law18 17 rfl) rfl rfl ?_
  refine QG.iload_n hX (qd K_L_law18 18 rfl) rfl rfl ?_
  refine QG.iconst hX (qd K_L_law18 19 rfl) rfl ki_2 ?_
  refine QG.iadd hX (qd K_L_law18 20 rfl) rfl ?_
  refine QG.scld hX hs0 hsl hsA hsb (qd K_L_law18 21 rfl) rfl hi2 hv2 ?_
  refine QG.callVk (rest := [.int c1]) [104, 105, 106, 107, 108, 109, 110, 111, 112, 113, 114, 115, 116, 117, 118, 119, 120, 121, 122, 123, 124, 125, 126, 127, 128, 129, 130, 131, 132, 133, 134, 135, 136, 137] hz2 hX cw_L_133 (M_X8_ideal X.l (V 104 0) (A 105) (A 106) (A 107) (A 108) (A 109) (A 110) (A 111) (A 112) (V 104 9) (V 104 10) (A 113) (A 114) (A 115) (A 116) M (A 118) (A 119) (A 120) (A 121) (A 122) (A 123) (A 124) (A 125) (A 126) (A 127) (A 128) (V 104 27) (V 104 28) (A 129) (V 104 30) (V 104 31) (V 104 32) (V 104 33) (V 104 34) (V 104 35) (V 104 36) (A 130) (A 131) (A 132) (A 133) (A 134) (A 135) (V 104 43) (V 104 44) (V 104 45) (V 104 46) (A 136) (A 137) v1 v2) trivial (by decide) (by decide) (qd K_L_law18 22 rfl) rfl hcs rfl rfl rfl rfl (Nat.le_of_ble_eq_true rfl) rfl rfl (Nat.le_of_ble_eq_true rfl) rfl ?_
  refine QG.eqW (Wd' := (wLx rfB kfB (va_rf z) (va_rf tx) (va_up (va_up (va_up (va_up (va_up (va_up (va_up (va_up (va_up (va_up (va_up A 119 c2.2.2.1) 120 c2.2.2.2.1) 121 c2.2.2.2.2.1) 122 c2.2.2.2.2.2.1) 123 c2.2.2.2.2.2.2.1) 124 c2.2.2.2.2.2.2.2.1) 125 c2.2.2.2.2.2.2.2.2.1) 126 c2.2.2.2.2.2.2.2.2.2.1) 127 c2.2.2.2.2.2.2.2.2.2.2.1) 136 c2.2.2.2.2.2.2.2.2.2.2.2.2.1) 137 c2.2.2.2.2.2.2.2.2.2.2.2.2.2) (va_up2 (va_up2 V 104 0 c2.2.1) 104 46 c2.2.2.2.2.2.2.2.2.2.2.2.1) B L M)) rfl ?_
  show QG X 4 _ _ 1043 _ [.int c2.1, .int c1] _ ad _ _
  exact QG.ifT (by rw [he]) (QG.icmp_eq (tgt := 1048) (oF := none) hX (qd K_L_law18 23 rfl) rfl (by decide) K QG.nothing)

set_option maxRecDepth 100000 in
set_option maxHeartbeats 4000000 in
theorem C_ideal_un1_un2 {X : QX} (hX : qok X code RL 4 (some .boolean) 1000) {Q : Unit → State → Prop} {b LL : Nat} {xs : Nat → Int32} (hs0 : va_X b LL xs X.s X.s.heap) (hsl : b < X.s.heap.size) (hsA : ¬ X.A b) (hsb : X.sA 100 = b) {ad : Nat → Nat} {cells slots : Nat} (hcs : cells ≤ X.R.cells ∧ slots ≤ X.R.slots) {A V : Nat → Nat → Int32} {B : Nat → Bool} {L M : Nat → Int64} {z tx : Option Nat} {x3 : Int32} {v1 : Int32} {v2 : Int32} (hi1 : vp_in (x3 + 1) LL) (hv1 : xs (x3 + 1).toNatClampNeg = v1) (hi2 : vp_in (x3 + 2) LL) (hv2 : xs (x3 + 2).toNatClampNeg = v2) (h0a : ¬ v1 < 0) (h0b : ¬ 4 ≤ v1) (hj0 : v1.toNatClampNeg = 1) (hm0 : B 83 = false) (h1a : ¬ v2 < 0) (h1b : ¬ 4 ≤ v2) (hj1 : v2.toNatClampNeg = 2) (hm1 : B 90 = false) {c1 : Int32} {c2 : Int32 × Int32 × (Nat → Int32) × (Nat → Int32) × (Nat → Int32) × (Nat → Int32) × (Nat → Int32) × (Nat → Int32) × (Nat → Int32) × (Nat → Int32) × (Nat → Int32) × Int32 × (Nat → Int32) × (Nat → Int32)} (hz1 : F_X7_ideal_un_un v1 v2 = some c1) (hz2 : F_X8_ideal (V 104 0) (A 119) (A 120) (A 121) (A 122) (A 123) (A 124) (A 125) (A 126) (A 127) (V 104 46) (A 136) (A 137) v1 v2 = some c2) (he : c1 = c2.1)
    (K : QG X 4 Q (some ()) 1048 [(0, .float (UInt32.ofNat 100)), (1, .ref 0), (2, .ref 104), (3, .int x3)] [] (wLx rfB kfB (va_rf z) (va_rf tx) (va_up (va_up (va_up (va_up (va_up (va_up (va_up (va_up (va_up (va_up (va_up A 119 c2.2.2.1) 120 c2.2.2.2.1) 121 c2.2.2.2.2.1) 122 c2.2.2.2.2.2.1) 123 c2.2.2.2.2.2.2.1) 124 c2.2.2.2.2.2.2.2.1) 125 c2.2.2.2.2.2.2.2.2.1) 126 c2.2.2.2.2.2.2.2.2.2.1) 127 c2.2.2.2.2.2.2.2.2.2.2.1) 136 c2.2.2.2.2.2.2.2.2.2.2.2.2.1) 137 c2.2.2.2.2.2.2.2.2.2.2.2.2.2) (va_up2 (va_up2 V 104 0 c2.2.1) 104 46 c2.2.2.2.2.2.2.2.2.2.2.2.1) B L M) ad cells slots) : QG X 4 Q (some ()) 1015 [(0, .float (UInt32.ofNat 100)), (1, .ref 0), (2, .ref 104), (3, .int x3)] [] (wLx rfB kfB (va_rf z) (va_rf tx) A V B L M) ad cells slots := by
  refine QG.aload_n hX (qd K_L_law17 39 rfl) rfl rfl ?_
  refine QG.aload_ns hX (qd K_L_law18 0 rfl) rfl rfl ?_
  refine QG.iload_n hX (qd K_L_law18 1 rfl) rfl rfl ?_
  refine QG.iconst hX (qd K_L_law18 2 rfl) rfl ki_1 ?_
  refine QG.iadd hX (qd K_L_law18 3 rfl) rfl ?_
  refine QG.scld hX hs0 hsl hsA hsb (qd K_L_law18 4 rfl) rfl hi1 hv1 ?_
  refine QG.aload_ns hX (qd K_L_law18 5 rfl) rfl rfl ?_
  refine QG.iload_n hX (qd K_L_law18 6 rfl) rfl rfl ?_
  refine QG.iconst hX (qd K_L_law18 7 rfl) rfl ki_2 ?_
  refine QG.iadd hX (qd K_L_law18 8 rfl) rfl ?_
  refine QG.scld hX hs0 hsl hsA hsb (qd K_L_law18 9 rfl) rfl hi2 hv2 ?_
  refine QG.callVk (rest := []) [0, 37, 83, 84, 85, 86, 87, 88, 89, 90, 91, 92, 93, 94, 95, 96, 23, 24, 25, 26, 27, 28, 29, 30, 31, 32, 33, 34, 35, 36] hz1 hX cw_L_130 (M_X7_ideal_un_un X.l (fun j => Option.map (qinv [0, 37, 83, 84, 85, 86, 87, 88, 89, 90, 91, 92, 93, 94, 95, 96, 23, 24, 25, 26, 27, 28, 29, 30, 31, 32, 33, 34, 35, 36]) (kfB j)) (B 83) (V 83 1) (V 83 2) (V 83 3) (V 83 4) (V 83 5) (A 84) (A 85) (A 86) (A 87) (A 88) (A 89) (V 83 12) (B 90) (V 90 1) (V 90 2) (V 90 3) (V 90 4) (V 90 5) (A 91) (A 92) (A 93) (A 94) (A 95) (A 96) (V 90 12) (B 23) (V 23 1) (V 23 2) (V 23 3) (V 23 4) (V 23 5) (A 24) (A 25) (A 26) (A 27) (A 28) (A 29) (V 23 12) (B 30) (V 30 1) (V 30 2) (V 30 3) (V 30 4) (V 30 5) (A 31) (A 32) (A 33) (A 34) (A 35) (A 36) (V 30 12) v1 v2 h0a h0b (by show Option.map _ (kfB v1.toNatClampNeg) = _; rw [hj0]; rfl) hm0 h1a h1b (by show Option.map _ (kfB v2.toNatClampNeg) = _; rw [hj1]; rfl) hm1) trivial (by decide) (by decide) (qd K_L_law18 10 rfl) rfl hcs rfl rfl rfl rfl (Nat.le_of_ble_eq_true rfl) (Eq.trans (congrArg (fun f => List.map (fun i => (wLx rfB f (va_rf z) (va_rf tx) A V B L M)[i]?) [0, 37, 83, 84, 85, 86, 87, 88, 89, 90, 91, 92, 93, 94, 95, 96, 23, 24, 25, 26, 27, 28, 29, 30, 31, 32, 33, 34, 35, 36]) (qinv_eq [0, 37, 83, 84, 85, 86, 87, 88, 89, 90, 91, 92, 93, 94, 95, 96, 23, 24, 25, 26, 27, 28, 29, 30, 31, 32, 33, 34, 35, 36] kfB).symm) rfl) rfl (Nat.le_of_ble_eq_true rfl) rfl ?_
  refine QG.eqW (Wd' := (wLx rfB (fun j => Option.map (qf [0, 37, 83, 84, 85, 86, 87, 88, 89, 90, 91, 92, 93, 94, 95, 96, 23, 24, 25, 26, 27, 28, 29, 30, 31, 32, 33, 34, 35, 36]) (Option.map (qinv [0, 37, 83, 84, 85, 86, 87, 88, 89, 90, 91, 92, 93, 94, 95, 96, 23, 24, 25, 26, 27, 28, 29, 30, 31, 32, 33, 34, 35, 36]) (kfB j))) (va_rf z) (va_rf tx) A V B L M)) rfl ?_
  rw [qinv_eq [0, 37, 83, 84, 85, 86, 87, 88, 89, 90, 91, 92, 93, 94, 95, 96, 23, 24, 25, 26, 27, 28, 29, 30, 31, 32, 33, 34, 35, 36] kfB]
  show QG X 4 _ _ 1029 _ [.int c1] _ ad _ _
  refine QG.aload_n hX (qd K_L_law18 11 rfl) rfl rfl ?_
  refine QG.aload_ns hX (qd K_L_law18 12 rfl) rfl rfl ?_
  refine QG.iload_n hX (qd K_L_law18 13 rfl) rfl rfl ?_
  refine QG.iconst hX (qd K_L_law18 14 rfl) rfl ki_1 ?_
  refine QG.iadd hX (qd K_L_law18 15 rfl) rfl ?_
  refine QG.scld hX hs0 hsl hsA hsb (qd K_L_law18 16 rfl) rfl hi1 hv1 ?_
  refine QG.aload_ns hX (qd K_L_law18 17 rfl) rfl rfl ?_
  refine QG.iload_n hX (qd K_L_law18 18 rfl) rfl rfl ?_
  refine QG.iconst hX (qd K_L_law18 19 rfl) rfl ki_2 ?_
  refine QG.iadd hX (qd K_L_law18 20 rfl) rfl ?_
  refine QG.scld hX hs0 hsl hsA hsb (qd K_L_law18 21 rfl) rfl hi2 hv2 ?_
  refine QG.callVk (rest := [.int c1]) [104, 105, 106, 107, 108, 109, 110, 111, 112, 113, 114, 115, 116, 117, 118, 119, 120, 121, 122, 123, 124, 125, 126, 127, 128, 129, 130, 131, 132, 133, 134, 135, 136, 137] hz2 hX cw_L_133 (M_X8_ideal X.l (V 104 0) (A 105) (A 106) (A 107) (A 108) (A 109) (A 110) (A 111) (A 112) (V 104 9) (V 104 10) (A 113) (A 114) (A 115) (A 116) M (A 118) (A 119) (A 120) (A 121) (A 122) (A 123) (A 124) (A 125) (A 126) (A 127) (A 128) (V 104 27) (V 104 28) (A 129) (V 104 30) (V 104 31) (V 104 32) (V 104 33) (V 104 34) (V 104 35) (V 104 36) (A 130) (A 131) (A 132) (A 133) (A 134) (A 135) (V 104 43) (V 104 44) (V 104 45) (V 104 46) (A 136) (A 137) v1 v2) trivial (by decide) (by decide) (qd K_L_law18 22 rfl) rfl hcs rfl rfl rfl rfl (Nat.le_of_ble_eq_true rfl) rfl rfl (Nat.le_of_ble_eq_true rfl) rfl ?_
  refine QG.eqW (Wd' := (wLx rfB kfB (va_rf z) (va_rf tx) (va_up (va_up (va_up (va_up (va_up (va_up (va_up (va_up (va_up (va_up (va_up A 119 c2.2.2.1) 120 c2.2.2.2.1) 121 c2.2.2.2.2.1) 122 c2.2.2.2.2.2.1) 123 c2.2.2.2.2.2.2.1) 124 c2.2.2.2.2.2.2.2.1) 125 c2.2.2.2.2.2.2.2.2.1) 126 c2.2.2.2.2.2.2.2.2.2.1) 127 c2.2.2.2.2.2.2.2.2.2.2.1) 136 c2.2.2.2.2.2.2.2.2.2.2.2.2.1) 137 c2.2.2.2.2.2.2.2.2.2.2.2.2.2) (va_up2 (va_up2 V 104 0 c2.2.1) 104 46 c2.2.2.2.2.2.2.2.2.2.2.2.1) B L M)) rfl ?_
  show QG X 4 _ _ 1043 _ [.int c2.1, .int c1] _ ad _ _
  exact QG.ifT (by rw [he]) (QG.icmp_eq (tgt := 1048) (oF := none) hX (qd K_L_law18 23 rfl) rfl (by decide) K QG.nothing)

set_option maxRecDepth 100000 in
set_option maxHeartbeats 4000000 in
theorem C_ideal_un1_un3 {X : QX} (hX : qok X code RL 4 (some .boolean) 1000) {Q : Unit → State → Prop} {b LL : Nat} {xs : Nat → Int32} (hs0 : va_X b LL xs X.s X.s.heap) (hsl : b < X.s.heap.size) (hsA : ¬ X.A b) (hsb : X.sA 100 = b) {ad : Nat → Nat} {cells slots : Nat} (hcs : cells ≤ X.R.cells ∧ slots ≤ X.R.slots) {A V : Nat → Nat → Int32} {B : Nat → Bool} {L M : Nat → Int64} {z tx : Option Nat} {x3 : Int32} {v1 : Int32} {v2 : Int32} (hi1 : vp_in (x3 + 1) LL) (hv1 : xs (x3 + 1).toNatClampNeg = v1) (hi2 : vp_in (x3 + 2) LL) (hv2 : xs (x3 + 2).toNatClampNeg = v2) (h0a : ¬ v1 < 0) (h0b : ¬ 4 ≤ v1) (hj0 : v1.toNatClampNeg = 1) (hm0 : B 83 = false) (h1a : ¬ v2 < 0) (h1b : ¬ 4 ≤ v2) (hj1 : v2.toNatClampNeg = 3) (hm1 : B 97 = false) {c1 : Int32} {c2 : Int32 × Int32 × (Nat → Int32) × (Nat → Int32) × (Nat → Int32) × (Nat → Int32) × (Nat → Int32) × (Nat → Int32) × (Nat → Int32) × (Nat → Int32) × (Nat → Int32) × Int32 × (Nat → Int32) × (Nat → Int32)} (hz1 : F_X7_ideal_un_un v1 v2 = some c1) (hz2 : F_X8_ideal (V 104 0) (A 119) (A 120) (A 121) (A 122) (A 123) (A 124) (A 125) (A 126) (A 127) (V 104 46) (A 136) (A 137) v1 v2 = some c2) (he : c1 = c2.1)
    (K : QG X 4 Q (some ()) 1048 [(0, .float (UInt32.ofNat 100)), (1, .ref 0), (2, .ref 104), (3, .int x3)] [] (wLx rfB kfB (va_rf z) (va_rf tx) (va_up (va_up (va_up (va_up (va_up (va_up (va_up (va_up (va_up (va_up (va_up A 119 c2.2.2.1) 120 c2.2.2.2.1) 121 c2.2.2.2.2.1) 122 c2.2.2.2.2.2.1) 123 c2.2.2.2.2.2.2.1) 124 c2.2.2.2.2.2.2.2.1) 125 c2.2.2.2.2.2.2.2.2.1) 126 c2.2.2.2.2.2.2.2.2.2.1) 127 c2.2.2.2.2.2.2.2.2.2.2.1) 136 c2.2.2.2.2.2.2.2.2.2.2.2.2.1) 137 c2.2.2.2.2.2.2.2.2.2.2.2.2.2) (va_up2 (va_up2 V 104 0 c2.2.1) 104 46 c2.2.2.2.2.2.2.2.2.2.2.2.1) B L M) ad cells slots) : QG X 4 Q (some ()) 1015 [(0, .float (UInt32.ofNat 100)), (1, .ref 0), (2, .ref 104), (3, .int x3)] [] (wLx rfB kfB (va_rf z) (va_rf tx) A V B L M) ad cells slots := by
  refine QG.aload_n hX (qd K_L_law17 39 rfl) rfl rfl ?_
  refine QG.aload_ns hX (qd K_L_law18 0 rfl) rfl rfl ?_
  refine QG.iload_n hX (qd K_L_law18 1 rfl) rfl rfl ?_
  refine QG.iconst hX (qd K_L_law18 2 rfl) rfl ki_1 ?_
  refine QG.iadd hX (qd K_L_law18 3 rfl) rfl ?_
  refine QG.scld hX hs0 hsl hsA hsb (qd K_L_law18 4 rfl) rfl hi1 hv1 ?_
  refine QG.aload_ns hX (qd K_L_law18 5 rfl) rfl rfl ?_
  refine QG.iload_n hX (qd K_L_law18 6 rfl) rfl rfl ?_
  refine QG.iconst hX (qd K_L_law18 7 rfl) rfl ki_2 ?_
  refine QG.iadd hX (qd K_L_law18 8 rfl) rfl ?_
  refine QG.scld hX hs0 hsl hsA hsb (qd K_L_law18 9 rfl) rfl hi2 hv2 ?_
  refine QG.callVk (rest := []) [0, 37, 83, 84, 85, 86, 87, 88, 89, 97, 98, 99, 100, 101, 102, 103, 23, 24, 25, 26, 27, 28, 29, 30, 31, 32, 33, 34, 35, 36] hz1 hX cw_L_130 (M_X7_ideal_un_un X.l (fun j => Option.map (qinv [0, 37, 83, 84, 85, 86, 87, 88, 89, 97, 98, 99, 100, 101, 102, 103, 23, 24, 25, 26, 27, 28, 29, 30, 31, 32, 33, 34, 35, 36]) (kfB j)) (B 83) (V 83 1) (V 83 2) (V 83 3) (V 83 4) (V 83 5) (A 84) (A 85) (A 86) (A 87) (A 88) (A 89) (V 83 12) (B 97) (V 97 1) (V 97 2) (V 97 3) (V 97 4) (V 97 5) (A 98) (A 99) (A 100) (A 101) (A 102) (A 103) (V 97 12) (B 23) (V 23 1) (V 23 2) (V 23 3) (V 23 4) (V 23 5) (A 24) (A 25) (A 26) (A 27) (A 28) (A 29) (V 23 12) (B 30) (V 30 1) (V 30 2) (V 30 3) (V 30 4) (V 30 5) (A 31) (A 32) (A 33) (A 34) (A 35) (A 36) (V 30 12) v1 v2 h0a h0b (by show Option.map _ (kfB v1.toNatClampNeg) = _; rw [hj0]; rfl) hm0 h1a h1b (by show Option.map _ (kfB v2.toNatClampNeg) = _; rw [hj1]; rfl) hm1) trivial (by decide) (by decide) (qd K_L_law18 10 rfl) rfl hcs rfl rfl rfl rfl (Nat.le_of_ble_eq_true rfl) (Eq.trans (congrArg (fun f => List.map (fun i => (wLx rfB f (va_rf z) (va_rf tx) A V B L M)[i]?) [0, 37, 83, 84, 85, 86, 87, 88, 89, 97, 98, 99, 100, 101, 102, 103, 23, 24, 25, 26, 27, 28, 29, 30, 31, 32, 33, 34, 35, 36]) (qinv_eq [0, 37, 83, 84, 85, 86, 87, 88, 89, 97, 98, 99, 100, 101, 102, 103, 23, 24, 25, 26, 27, 28, 29, 30, 31, 32, 33, 34, 35, 36] kfB).symm) rfl) rfl (Nat.le_of_ble_eq_true rfl) rfl ?_
  refine QG.eqW (Wd' := (wLx rfB (fun j => Option.map (qf [0, 37, 83, 84, 85, 86, 87, 88, 89, 97, 98, 99, 100, 101, 102, 103, 23, 24, 25, 26, 27, 28, 29, 30, 31, 32, 33, 34, 35, 36]) (Option.map (qinv [0, 37, 83, 84, 85, 86, 87, 88, 89, 97, 98, 99, 100, 101, 102, 103, 23, 24, 25, 26, 27, 28, 29, 30, 31, 32, 33, 34, 35, 36]) (kfB j))) (va_rf z) (va_rf tx) A V B L M)) rfl ?_
  rw [qinv_eq [0, 37, 83, 84, 85, 86, 87, 88, 89, 97, 98, 99, 100, 101, 102, 103, 23, 24, 25, 26, 27, 28, 29, 30, 31, 32, 33, 34, 35, 36] kfB]
  show QG X 4 _ _ 1029 _ [.int c1] _ ad _ _
  refine QG.aload_n hX (qd K_L_law18 11 rfl) rfl rfl ?_
  refine QG.aload_ns hX (qd K_L_law18 12 rfl) rfl rfl ?_
  refine QG.iload_n hX (qd K_L_law18 13 rfl) rfl rfl ?_
  refine QG.iconst hX (qd K_L_law18 14 rfl) rfl ki_1 ?_
  refine QG.iadd hX (qd K_L_law18 15 rfl) rfl ?_
  refine QG.scld hX hs0 hsl hsA hsb (qd K_L_law18 16 rfl) rfl hi1 hv1 ?_
  refine QG.aload_ns hX (qd K_L_law18 17 rfl) rfl rfl ?_
  refine QG.iload_n hX (qd K_L_law18 18 rfl) rfl rfl ?_
  refine QG.iconst hX (qd K_L_law18 19 rfl) rfl ki_2 ?_
  refine QG.iadd hX (qd K_L_law18 20 rfl) rfl ?_
  refine QG.scld hX hs0 hsl hsA hsb (qd K_L_law18 21 rfl) rfl hi2 hv2 ?_
  refine QG.callVk (rest := [.int c1]) [104, 105, 106, 107, 108, 109, 110, 111, 112, 113, 114, 115, 116, 117, 118, 119, 120, 121, 122, 123, 124, 125, 126, 127, 128, 129, 130, 131, 132, 133, 134, 135, 136, 137] hz2 hX cw_L_133 (M_X8_ideal X.l (V 104 0) (A 105) (A 106) (A 107) (A 108) (A 109) (A 110) (A 111) (A 112) (V 104 9) (V 104 10) (A 113) (A 114) (A 115) (A 116) M (A 118) (A 119) (A 120) (A 121) (A 122) (A 123) (A 124) (A 125) (A 126) (A 127) (A 128) (V 104 27) (V 104 28) (A 129) (V 104 30) (V 104 31) (V 104 32) (V 104 33) (V 104 34) (V 104 35) (V 104 36) (A 130) (A 131) (A 132) (A 133) (A 134) (A 135) (V 104 43) (V 104 44) (V 104 45) (V 104 46) (A 136) (A 137) v1 v2) trivial (by decide) (by decide) (qd K_L_law18 22 rfl) rfl hcs rfl rfl rfl rfl (Nat.le_of_ble_eq_true rfl) rfl rfl (Nat.le_of_ble_eq_true rfl) rfl ?_
  refine QG.eqW (Wd' := (wLx rfB kfB (va_rf z) (va_rf tx) (va_up (va_up (va_up (va_up (va_up (va_up (va_up (va_up (va_up (va_up (va_up A 119 c2.2.2.1) 120 c2.2.2.2.1) 121 c2.2.2.2.2.1) 122 c2.2.2.2.2.2.1) 123 c2.2.2.2.2.2.2.1) 124 c2.2.2.2.2.2.2.2.1) 125 c2.2.2.2.2.2.2.2.2.1) 126 c2.2.2.2.2.2.2.2.2.2.1) 127 c2.2.2.2.2.2.2.2.2.2.2.1) 136 c2.2.2.2.2.2.2.2.2.2.2.2.2.1) 137 c2.2.2.2.2.2.2.2.2.2.2.2.2.2) (va_up2 (va_up2 V 104 0 c2.2.1) 104 46 c2.2.2.2.2.2.2.2.2.2.2.2.1) B L M)) rfl ?_
  show QG X 4 _ _ 1043 _ [.int c2.1, .int c1] _ ad _ _
  exact QG.ifT (by rw [he]) (QG.icmp_eq (tgt := 1048) (oF := none) hX (qd K_L_law18 23 rfl) rfl (by decide) K QG.nothing)

set_option maxRecDepth 100000 in
set_option maxHeartbeats 4000000 in
theorem C_ideal_un2_un0 {X : QX} (hX : qok X code RL 4 (some .boolean) 1000) {Q : Unit → State → Prop} {b LL : Nat} {xs : Nat → Int32} (hs0 : va_X b LL xs X.s X.s.heap) (hsl : b < X.s.heap.size) (hsA : ¬ X.A b) (hsb : X.sA 100 = b) {ad : Nat → Nat} {cells slots : Nat} (hcs : cells ≤ X.R.cells ∧ slots ≤ X.R.slots) {A V : Nat → Nat → Int32} {B : Nat → Bool} {L M : Nat → Int64} {z tx : Option Nat} {x3 : Int32} {v1 : Int32} {v2 : Int32} (hi1 : vp_in (x3 + 1) LL) (hv1 : xs (x3 + 1).toNatClampNeg = v1) (hi2 : vp_in (x3 + 2) LL) (hv2 : xs (x3 + 2).toNatClampNeg = v2) (h0a : ¬ v1 < 0) (h0b : ¬ 4 ≤ v1) (hj0 : v1.toNatClampNeg = 2) (hm0 : B 90 = false) (h1a : ¬ v2 < 0) (h1b : ¬ 4 ≤ v2) (hj1 : v2.toNatClampNeg = 0) (hm1 : B 76 = false) {c1 : Int32} {c2 : Int32 × Int32 × (Nat → Int32) × (Nat → Int32) × (Nat → Int32) × (Nat → Int32) × (Nat → Int32) × (Nat → Int32) × (Nat → Int32) × (Nat → Int32) × (Nat → Int32) × Int32 × (Nat → Int32) × (Nat → Int32)} (hz1 : F_X7_ideal_un_un v1 v2 = some c1) (hz2 : F_X8_ideal (V 104 0) (A 119) (A 120) (A 121) (A 122) (A 123) (A 124) (A 125) (A 126) (A 127) (V 104 46) (A 136) (A 137) v1 v2 = some c2) (he : c1 = c2.1)
    (K : QG X 4 Q (some ()) 1048 [(0, .float (UInt32.ofNat 100)), (1, .ref 0), (2, .ref 104), (3, .int x3)] [] (wLx rfB kfB (va_rf z) (va_rf tx) (va_up (va_up (va_up (va_up (va_up (va_up (va_up (va_up (va_up (va_up (va_up A 119 c2.2.2.1) 120 c2.2.2.2.1) 121 c2.2.2.2.2.1) 122 c2.2.2.2.2.2.1) 123 c2.2.2.2.2.2.2.1) 124 c2.2.2.2.2.2.2.2.1) 125 c2.2.2.2.2.2.2.2.2.1) 126 c2.2.2.2.2.2.2.2.2.2.1) 127 c2.2.2.2.2.2.2.2.2.2.2.1) 136 c2.2.2.2.2.2.2.2.2.2.2.2.2.1) 137 c2.2.2.2.2.2.2.2.2.2.2.2.2.2) (va_up2 (va_up2 V 104 0 c2.2.1) 104 46 c2.2.2.2.2.2.2.2.2.2.2.2.1) B L M) ad cells slots) : QG X 4 Q (some ()) 1015 [(0, .float (UInt32.ofNat 100)), (1, .ref 0), (2, .ref 104), (3, .int x3)] [] (wLx rfB kfB (va_rf z) (va_rf tx) A V B L M) ad cells slots := by
  refine QG.aload_n hX (qd K_L_law17 39 rfl) rfl rfl ?_
  refine QG.aload_ns hX (qd K_L_law18 0 rfl) rfl rfl ?_
  refine QG.iload_n hX (qd K_L_law18 1 rfl) rfl rfl ?_
  refine QG.iconst hX (qd K_L_law18 2 rfl) rfl ki_1 ?_
  refine QG.iadd hX (qd K_L_law18 3 rfl) rfl ?_
  refine QG.scld hX hs0 hsl hsA hsb (qd K_L_law18 4 rfl) rfl hi1 hv1 ?_
  refine QG.aload_ns hX (qd K_L_law18 5 rfl) rfl rfl ?_
  refine QG.iload_n hX (qd K_L_law18 6 rfl) rfl rfl ?_
  refine QG.iconst hX (qd K_L_law18 7 rfl) rfl ki_2 ?_
  refine QG.iadd hX (qd K_L_law18 8 rfl) rfl ?_
  refine QG.scld hX hs0 hsl hsA hsb (qd K_L_law18 9 rfl) rfl hi2 hv2 ?_
  refine QG.callVk (rest := []) [0, 37, 90, 91, 92, 93, 94, 95, 96, 76, 77, 78, 79, 80, 81, 82, 23, 24, 25, 26, 27, 28, 29, 30, 31, 32, 33, 34, 35, 36] hz1 hX cw_L_130 (M_X7_ideal_un_un X.l (fun j => Option.map (qinv [0, 37, 90, 91, 92, 93, 94, 95, 96, 76, 77, 78, 79, 80, 81, 82, 23, 24, 25, 26, 27, 28, 29, 30, 31, 32, 33, 34, 35, 36]) (kfB j)) (B 90) (V 90 1) (V 90 2) (V 90 3) (V 90 4) (V 90 5) (A 91) (A 92) (A 93) (A 94) (A 95) (A 96) (V 90 12) (B 76) (V 76 1) (V 76 2) (V 76 3) (V 76 4) (V 76 5) (A 77) (A 78) (A 79) (A 80) (A 81) (A 82) (V 76 12) (B 23) (V 23 1) (V 23 2) (V 23 3) (V 23 4) (V 23 5) (A 24) (A 25) (A 26) (A 27) (A 28) (A 29) (V 23 12) (B 30) (V 30 1) (V 30 2) (V 30 3) (V 30 4) (V 30 5) (A 31) (A 32) (A 33) (A 34) (A 35) (A 36) (V 30 12) v1 v2 h0a h0b (by show Option.map _ (kfB v1.toNatClampNeg) = _; rw [hj0]; rfl) hm0 h1a h1b (by show Option.map _ (kfB v2.toNatClampNeg) = _; rw [hj1]; rfl) hm1) trivial (by decide) (by decide) (qd K_L_law18 10 rfl) rfl hcs rfl rfl rfl rfl (Nat.le_of_ble_eq_true rfl) (Eq.trans (congrArg (fun f => List.map (fun i => (wLx rfB f (va_rf z) (va_rf tx) A V B L M)[i]?) [0, 37, 90, 91, 92, 93, 94, 95, 96, 76, 77, 78, 79, 80, 81, 82, 23, 24, 25, 26, 27, 28, 29, 30, 31, 32, 33, 34, 35, 36]) (qinv_eq [0, 37, 90, 91, 92, 93, 94, 95, 96, 76, 77, 78, 79, 80, 81, 82, 23, 24, 25, 26, 27, 28, 29, 30, 31, 32, 33, 34, 35, 36] kfB).symm) rfl) rfl (Nat.le_of_ble_eq_true rfl) rfl ?_
  refine QG.eqW (Wd' := (wLx rfB (fun j => Option.map (qf [0, 37, 90, 91, 92, 93, 94, 95, 96, 76, 77, 78, 79, 80, 81, 82, 23, 24, 25, 26, 27, 28, 29, 30, 31, 32, 33, 34, 35, 36]) (Option.map (qinv [0, 37, 90, 91, 92, 93, 94, 95, 96, 76, 77, 78, 79, 80, 81, 82, 23, 24, 25, 26, 27, 28, 29, 30, 31, 32, 33, 34, 35, 36]) (kfB j))) (va_rf z) (va_rf tx) A V B L M)) rfl ?_
  rw [qinv_eq [0, 37, 90, 91, 92, 93, 94, 95, 96, 76, 77, 78, 79, 80, 81, 82, 23, 24, 25, 26, 27, 28, 29, 30, 31, 32, 33, 34, 35, 36] kfB]
  show QG X 4 _ _ 1029 _ [.int c1] _ ad _ _
  refine QG.aload_n hX (qd K_L_law18 11 rfl) rfl rfl ?_
  refine QG.aload_ns hX (qd K_L_law18 12 rfl) rfl rfl ?_
  refine QG.iload_n hX (qd K_L_law18 13 rfl) rfl rfl ?_
  refine QG.iconst hX (qd K_L_law18 14 rfl) rfl ki_1 ?_
  refine QG.iadd hX (qd K_L_law18 15 rfl) rfl ?_
  refine QG.scld hX hs0 hsl hsA hsb (qd K_L_law18 16 rfl) rfl hi1 hv1 ?_
  refine QG.aload_ns hX (qd K_L_law18 17 rfl) rfl rfl ?_
  refine QG.iload_n hX (qd K_L_law18 18 rfl) rfl rfl ?_
  refine QG.iconst hX (qd K_L_law18 19 rfl) rfl ki_2 ?_
  refine QG.iadd hX (qd K_L_law18 20 rfl) rfl ?_
  refine QG.scld hX hs0 hsl hsA hsb (qd K_L_law18 21 rfl) rfl hi2 hv2 ?_
  refine QG.callVk (rest := [.int c1]) [104, 105, 106, 107, 108, 109, 110, 111, 112, 113, 114, 115, 116, 117, 118, 119, 120, 121, 122, 123, 124, 125, 126, 127, 128, 129, 130, 131, 132, 133, 134, 135, 136, 137] hz2 hX cw_L_133 (M_X8_ideal X.l (V 104 0) (A 105) (A 106) (A 107) (A 108) (A 109) (A 110) (A 111) (A 112) (V 104 9) (V 104 10) (A 113) (A 114) (A 115) (A 116) M (A 118) (A 119) (A 120) (A 121) (A 122) (A 123) (A 124) (A 125) (A 126) (A 127) (A 128) (V 104 27) (V 104 28) (A 129) (V 104 30) (V 104 31) (V 104 32) (V 104 33) (V 104 34) (V 104 35) (V 104 36) (A 130) (A 131) (A 132) (A 133) (A 134) (A 135) (V 104 43) (V 104 44) (V 104 45) (V 104 46) (A 136) (A 137) v1 v2) trivial (by decide) (by decide) (qd K_L_law18 22 rfl) rfl hcs rfl rfl rfl rfl (Nat.le_of_ble_eq_true rfl) rfl rfl (Nat.le_of_ble_eq_true rfl) rfl ?_
  refine QG.eqW (Wd' := (wLx rfB kfB (va_rf z) (va_rf tx) (va_up (va_up (va_up (va_up (va_up (va_up (va_up (va_up (va_up (va_up (va_up A 119 c2.2.2.1) 120 c2.2.2.2.1) 121 c2.2.2.2.2.1) 122 c2.2.2.2.2.2.1) 123 c2.2.2.2.2.2.2.1) 124 c2.2.2.2.2.2.2.2.1) 125 c2.2.2.2.2.2.2.2.2.1) 126 c2.2.2.2.2.2.2.2.2.2.1) 127 c2.2.2.2.2.2.2.2.2.2.2.1) 136 c2.2.2.2.2.2.2.2.2.2.2.2.2.1) 137 c2.2.2.2.2.2.2.2.2.2.2.2.2.2) (va_up2 (va_up2 V 104 0 c2.2.1) 104 46 c2.2.2.2.2.2.2.2.2.2.2.2.1) B L M)) rfl ?_
  show QG X 4 _ _ 1043 _ [.int c2.1, .int c1] _ ad _ _
  exact QG.ifT (by rw [he]) (QG.icmp_eq (tgt := 1048) (oF := none) hX (qd K_L_law18 23 rfl) rfl (by decide) K QG.nothing)

set_option maxRecDepth 100000 in
set_option maxHeartbeats 4000000 in
theorem C_ideal_un2_un1 {X : QX} (hX : qok X code RL 4 (some .boolean) 1000) {Q : Unit → State → Prop} {b LL : Nat} {xs : Nat → Int32} (hs0 : va_X b LL xs X.s X.s.heap) (hsl : b < X.s.heap.size) (hsA : ¬ X.A b) (hsb : X.sA 100 = b) {ad : Nat → Nat} {cells slots : Nat} (hcs : cells ≤ X.R.cells ∧ slots ≤ X.R.slots) {A V : Nat → Nat → Int32} {B : Nat → Bool} {L M : Nat → Int64} {z tx : Option Nat} {x3 : Int32} {v1 : Int32} {v2 : Int32} (hi1 : vp_in (x3 + 1) LL) (hv1 : xs (x3 + 1).toNatClampNeg = v1) (hi2 : vp_in (x3 + 2) LL) (hv2 : xs (x3 + 2).toNatClampNeg = v2) (h0a : ¬ v1 < 0) (h0b : ¬ 4 ≤ v1) (hj0 : v1.toNatClampNeg = 2) (hm0 : B 90 = false) (h1a : ¬ v2 < 0) (h1b : ¬ 4 ≤ v2) (hj1 : v2.toNatClampNeg = 1) (hm1 : B 83 = false) {c1 : Int32} {c2 : Int32 × Int32 × (Nat → Int32) × (Nat → Int32) × (Nat → Int32) × (Nat → Int32) × (Nat → Int32) × (Nat → Int32) × (Nat → Int32) × (Nat → Int32) × (Nat → Int32) × Int32 × (Nat → Int32) × (Nat → Int32)} (hz1 : F_X7_ideal_un_un v1 v2 = some c1) (hz2 : F_X8_ideal (V 104 0) (A 119) (A 120) (A 121) (A 122) (A 123) (A 124) (A 125) (A 126) (A 127) (V 104 46) (A 136) (A 137) v1 v2 = some c2) (he : c1 = c2.1)
    (K : QG X 4 Q (some ()) 1048 [(0, .float (UInt32.ofNat 100)), (1, .ref 0), (2, .ref 104), (3, .int x3)] [] (wLx rfB kfB (va_rf z) (va_rf tx) (va_up (va_up (va_up (va_up (va_up (va_up (va_up (va_up (va_up (va_up (va_up A 119 c2.2.2.1) 120 c2.2.2.2.1) 121 c2.2.2.2.2.1) 122 c2.2.2.2.2.2.1) 123 c2.2.2.2.2.2.2.1) 124 c2.2.2.2.2.2.2.2.1) 125 c2.2.2.2.2.2.2.2.2.1) 126 c2.2.2.2.2.2.2.2.2.2.1) 127 c2.2.2.2.2.2.2.2.2.2.2.1) 136 c2.2.2.2.2.2.2.2.2.2.2.2.2.1) 137 c2.2.2.2.2.2.2.2.2.2.2.2.2.2) (va_up2 (va_up2 V 104 0 c2.2.1) 104 46 c2.2.2.2.2.2.2.2.2.2.2.2.1) B L M) ad cells slots) : QG X 4 Q (some ()) 1015 [(0, .float (UInt32.ofNat 100)), (1, .ref 0), (2, .ref 104), (3, .int x3)] [] (wLx rfB kfB (va_rf z) (va_rf tx) A V B L M) ad cells slots := by
  refine QG.aload_n hX (qd K_L_law17 39 rfl) rfl rfl ?_
  refine QG.aload_ns hX (qd K_L_law18 0 rfl) rfl rfl ?_
  refine QG.iload_n hX (qd K_L_law18 1 rfl) rfl rfl ?_
  refine QG.iconst hX (qd K_L_law18 2 rfl) rfl ki_1 ?_
  refine QG.iadd hX (qd K_L_law18 3 rfl) rfl ?_
  refine QG.scld hX hs0 hsl hsA hsb (qd K_L_law18 4 rfl) rfl hi1 hv1 ?_
  refine QG.aload_ns hX (qd K_L_law18 5 rfl) rfl rfl ?_
  refine QG.iload_n hX (qd K_L_law18 6 rfl) rfl rfl ?_
  refine QG.iconst hX (qd K_L_law18 7 rfl) rfl ki_2 ?_
  refine QG.iadd hX (qd K_L_law18 8 rfl) rfl ?_
  refine QG.scld hX hs0 hsl hsA hsb (qd K_L_law18 9 rfl) rfl hi2 hv2 ?_
  refine QG.callVk (rest := []) [0, 37, 90, 91, 92, 93, 94, 95, 96, 83, 84, 85, 86, 87, 88, 89, 23, 24, 25, 26, 27, 28, 29, 30, 31, 32, 33, 34, 35, 36] hz1 hX cw_L_130 (M_X7_ideal_un_un X.l (fun j => Option.map (qinv [0, 37, 90, 91, 92, 93, 94, 95, 96, 83, 84, 85, 86, 87, 88, 89, 23, 24, 25, 26, 27, 28, 29, 30, 31, 32, 33, 34, 35, 36]) (kfB j)) (B 90) (V 90 1) (V 90 2) (V 90 3) (V 90 4) (V 90 5) (A 91) (A 92) (A 93) (A 94) (A 95) (A 96) (V 90 12) (B 83) (V 83 1) (V 83 2) (V 83 3) (V 83 4) (V 83 5) (A 84) (A 85) (A 86) (A 87) (A 88) (A 89) (V 83 12) (B 23) (V 23 1) (V 23 2) (V 23 3) (V 23 4) (V 23 5) (A 24) (A 25) (A 26) (A 27) (A 28) (A 29) (V 23 12) (B 30) (V 30 1) (V 30 2) (V 30 3) (V 30 4) (V 30 5) (A 31) (A 32) (A 33) (A 34) (A 35) (A 36) (V 30 12) v1 v2 h0a h0b (by show Option.map _ (kfB v1.toNatClampNeg) = _; rw [hj0]; rfl) hm0 h1a h1b (by show Option.map _ (kfB v2.toNatClampNeg) = _; rw [hj1]; rfl) hm1) trivial (by decide) (by decide) (qd K_L_law18 10 rfl) rfl hcs rfl rfl rfl rfl (Nat.le_of_ble_eq_true rfl) (Eq.trans (congrArg (fun f => List.map (fun i => (wLx rfB f (va_rf z) (va_rf tx) A V B L M)[i]?) [0, 37, 90, 91, 92, 93, 94, 95, 96, 83, 84, 85, 86, 87, 88, 89, 23, 24, 25, 26, 27, 28, 29, 30, 31, 32, 33, 34, 35, 36]) (qinv_eq [0, 37, 90, 91, 92, 93, 94, 95, 96, 83, 84, 85, 86, 87, 88, 89, 23, 24, 25, 26, 27, 28, 29, 30, 31, 32, 33, 34, 35, 36] kfB).symm) rfl) rfl (Nat.le_of_ble_eq_true rfl) rfl ?_
  refine QG.eqW (Wd' := (wLx rfB (fun j => Option.map (qf [0, 37, 90, 91, 92, 93, 94, 95, 96, 83, 84, 85, 86, 87, 88, 89, 23, 24, 25, 26, 27, 28, 29, 30, 31, 32, 33, 34, 35, 36]) (Option.map (qinv [0, 37, 90, 91, 92, 93, 94, 95, 96, 83, 84, 85, 86, 87, 88, 89, 23, 24, 25, 26, 27, 28, 29, 30, 31, 32, 33, 34, 35, 36]) (kfB j))) (va_rf z) (va_rf tx) A V B L M)) rfl ?_
  rw [qinv_eq [0, 37, 90, 91, 92, 93, 94, 95, 96, 83, 84, 85, 86, 87, 88, 89, 23, 24, 25, 26, 27, 28, 29, 30, 31, 32, 33, 34, 35, 36] kfB]
  show QG X 4 _ _ 1029 _ [.int c1] _ ad _ _
  refine QG.aload_n hX (qd K_L_law18 11 rfl) rfl rfl ?_
  refine QG.aload_ns hX (qd K_L_law18 12 rfl) rfl rfl ?_
  refine QG.iload_n hX (qd K_L_law18 13 rfl) rfl rfl ?_
  refine QG.iconst hX (qd K_L_law18 14 rfl) rfl ki_1 ?_
  refine QG.iadd hX (qd K_L_law18 15 rfl) rfl ?_
  refine QG.scld hX hs0 hsl hsA hsb (qd K_L_law18 16 rfl) rfl hi1 hv1 ?_
  refine QG.aload_ns hX (qd K_L_law18 17 rfl) rfl rfl ?_
  refine QG.iload_n hX (qd K_L_law18 18 rfl) rfl rfl ?_
  refine QG.iconst hX (qd K_L_law18 19 rfl) rfl ki_2 ?_
  refine QG.iadd hX (qd K_L_law18 20 rfl) rfl ?_
  refine QG.scld hX hs0 hsl hsA hsb (qd K_L_law18 21 rfl) rfl hi2 hv2 ?_
  refine QG.callVk (rest := [.int c1]) [104, 105, 106, 107, 108, 109, 110, 111, 112, 113, 114, 115, 116, 117, 118, 119, 120, 121, 122, 123, 124, 125, 126, 127, 128, 129, 130, 131, 132, 133, 134, 135, 136, 137] hz2 hX cw_L_133 (M_X8_ideal X.l (V 104 0) (A 105) (A 106) (A 107) (A 108) (A 109) (A 110) (A 111) (A 112) (V 104 9) (V 104 10) (A 113) (A 114) (A 115) (A 116) M (A 118) (A 119) (A 120) (A 121) (A 122) (A 123) (A 124) (A 125) (A 126) (A 127) (A 128) (V 104 27) (V 104 28) (A 129) (V 104 30) (V 104 31) (V 104 32) (V 104 33) (V 104 34) (V 104 35) (V 104 36) (A 130) (A 131) (A 132) (A 133) (A 134) (A 135) (V 104 43) (V 104 44) (V 104 45) (V 104 46) (A 136) (A 137) v1 v2) trivial (by decide) (by decide) (qd K_L_law18 22 rfl) rfl hcs rfl rfl rfl rfl (Nat.le_of_ble_eq_true rfl) rfl rfl (Nat.le_of_ble_eq_true rfl) rfl ?_
  refine QG.eqW (Wd' := (wLx rfB kfB (va_rf z) (va_rf tx) (va_up (va_up (va_up (va_up (va_up (va_up (va_up (va_up (va_up (va_up (va_up A 119 c2.2.2.1) 120 c2.2.2.2.1) 121 c2.2.2.2.2.1) 122 c2.2.2.2.2.2.1) 123 c2.2.2.2.2.2.2.1) 124 c2.2.2.2.2.2.2.2.1) 125 c2.2.2.2.2.2.2.2.2.1) 126 c2.2.2.2.2.2.2.2.2.2.1) 127 c2.2.2.2.2.2.2.2.2.2.2.1) 136 c2.2.2.2.2.2.2.2.2.2.2.2.2.1) 137 c2.2.2.2.2.2.2.2.2.2.2.2.2.2) (va_up2 (va_up2 V 104 0 c2.2.1) 104 46 c2.2.2.2.2.2.2.2.2.2.2.2.1) B L M)) rfl ?_
  show QG X 4 _ _ 1043 _ [.int c2.1, .int c1] _ ad _ _
  exact QG.ifT (by rw [he]) (QG.icmp_eq (tgt := 1048) (oF := none) hX (qd K_L_law18 23 rfl) rfl (by decide) K QG.nothing)

set_option maxRecDepth 100000 in
set_option maxHeartbeats 4000000 in
theorem C_ideal_un2_un2 {X : QX} (hX : qok X code RL 4 (some .boolean) 1000) {Q : Unit → State → Prop} {b LL : Nat} {xs : Nat → Int32} (hs0 : va_X b LL xs X.s X.s.heap) (hsl : b < X.s.heap.size) (hsA : ¬ X.A b) (hsb : X.sA 100 = b) {ad : Nat → Nat} {cells slots : Nat} (hcs : cells ≤ X.R.cells ∧ slots ≤ X.R.slots) {A V : Nat → Nat → Int32} {B : Nat → Bool} {L M : Nat → Int64} {z tx : Option Nat} {x3 : Int32} {v1 : Int32} {v2 : Int32} (hi1 : vp_in (x3 + 1) LL) (hv1 : xs (x3 + 1).toNatClampNeg = v1) (hi2 : vp_in (x3 + 2) LL) (hv2 : xs (x3 + 2).toNatClampNeg = v2) (h0a : ¬ v1 < 0) (h0b : ¬ 4 ≤ v1) (hj0 : v1.toNatClampNeg = 2) (hm0 : B 90 = false) (h1a : ¬ v2 < 0) (h1b : ¬ 4 ≤ v2) (hj1 : v2.toNatClampNeg = 2) (hm1 : B 90 = false) {c1 : Int32} {c2 : Int32 × Int32 × (Nat → Int32) × (Nat → Int32) × (Nat → Int32) × (Nat → Int32) × (Nat → Int32) × (Nat → Int32) × (Nat → Int32) × (Nat → Int32) × (Nat → Int32) × Int32 × (Nat → Int32) × (Nat → Int32)} (hz1 : F_X7_ideal_un_al v1 v2 = some c1) (hz2 : F_X8_ideal (V 104 0) (A 119) (A 120) (A 121) (A 122) (A 123) (A 124) (A 125) (A 126) (A 127) (V 104 46) (A 136) (A 137) v1 v2 = some c2) (he : c1 = c2.1)
    (K : QG X 4 Q (some ()) 1048 [(0, .float (UInt32.ofNat 100)), (1, .ref 0), (2, .ref 104), (3, .int x3)] [] (wLx rfB kfB (va_rf z) (va_rf tx) (va_up (va_up (va_up (va_up (va_up (va_up (va_up (va_up (va_up (va_up (va_up A 119 c2.2.2.1) 120 c2.2.2.2.1) 121 c2.2.2.2.2.1) 122 c2.2.2.2.2.2.1) 123 c2.2.2.2.2.2.2.1) 124 c2.2.2.2.2.2.2.2.1) 125 c2.2.2.2.2.2.2.2.2.1) 126 c2.2.2.2.2.2.2.2.2.2.1) 127 c2.2.2.2.2.2.2.2.2.2.2.1) 136 c2.2.2.2.2.2.2.2.2.2.2.2.2.1) 137 c2.2.2.2.2.2.2.2.2.2.2.2.2.2) (va_up2 (va_up2 V 104 0 c2.2.1) 104 46 c2.2.2.2.2.2.2.2.2.2.2.2.1) B L M) ad cells slots) : QG X 4 Q (some ()) 1015 [(0, .float (UInt32.ofNat 100)), (1, .ref 0), (2, .ref 104), (3, .int x3)] [] (wLx rfB kfB (va_rf z) (va_rf tx) A V B L M) ad cells slots := by
  refine QG.aload_n hX (qd K_L_law17 39 rfl) rfl rfl ?_
  refine QG.aload_ns hX (qd K_L_law18 0 rfl) rfl rfl ?_
  refine QG.iload_n hX (qd K_L_law18 1 rfl) rfl rfl ?_
  refine QG.iconst hX (qd K_L_law18 2 rfl) rfl ki_1 ?_
  refine QG.iadd hX (qd K_L_law18 3 rfl) rfl ?_
  refine QG.scld hX hs0 hsl hsA hsb (qd K_L_law18 4 rfl) rfl hi1 hv1 ?_
  refine QG.aload_ns hX (qd K_L_law18 5 rfl) rfl rfl ?_
  refine QG.iload_n hX (qd K_L_law18 6 rfl) rfl rfl ?_
  refine QG.iconst hX (qd K_L_law18 7 rfl) rfl ki_2 ?_
  refine QG.iadd hX (qd K_L_law18 8 rfl) rfl ?_
  refine QG.scld hX hs0 hsl hsA hsb (qd K_L_law18 9 rfl) rfl hi2 hv2 ?_
  refine QG.callVk (rest := []) [0, 37, 90, 91, 92, 93, 94, 95, 96, 23, 24, 25, 26, 27, 28, 29, 30, 31, 32, 33, 34, 35, 36] hz1 hX cw_L_130 (M_X7_ideal_un_al X.l (fun j => Option.map (qinv [0, 37, 90, 91, 92, 93, 94, 95, 96, 23, 24, 25, 26, 27, 28, 29, 30, 31, 32, 33, 34, 35, 36]) (kfB j)) (B 90) (V 90 1) (V 90 2) (V 90 3) (V 90 4) (V 90 5) (A 91) (A 92) (A 93) (A 94) (A 95) (A 96) (V 90 12) (B 23) (V 23 1) (V 23 2) (V 23 3) (V 23 4) (V 23 5) (A 24) (A 25) (A 26) (A 27) (A 28) (A 29) (V 23 12) (B 30) (V 30 1) (V 30 2) (V 30 3) (V 30 4) (V 30 5) (A 31) (A 32) (A 33) (A 34) (A 35) (A 36) (V 30 12) v1 v2 h0a h0b (by show Option.map _ (kfB v1.toNatClampNeg) = _; rw [hj0]; rfl) hm0 h1a h1b (by show Option.map _ (kfB v2.toNatClampNeg) = _; rw [hj1]; rfl) hm1) trivial (by decide) (by decide) (qd K_L_law18 10 rfl) rfl hcs rfl rfl rfl rfl (Nat.le_of_ble_eq_true rfl) (Eq.trans (congrArg (fun f => List.map (fun i => (wLx rfB f (va_rf z) (va_rf tx) A V B L M)[i]?) [0, 37, 90, 91, 92, 93, 94, 95, 96, 23, 24, 25, 26, 27, 28, 29, 30, 31, 32, 33, 34, 35, 36]) (qinv_eq [0, 37, 90, 91, 92, 93, 94, 95, 96, 23, 24, 25, 26, 27, 28, 29, 30, 31, 32, 33, 34, 35, 36] kfB).symm) rfl) rfl (Nat.le_of_ble_eq_true rfl) rfl ?_
  refine QG.eqW (Wd' := (wLx rfB (fun j => Option.map (qf [0, 37, 90, 91, 92, 93, 94, 95, 96, 23, 24, 25, 26, 27, 28, 29, 30, 31, 32, 33, 34, 35, 36]) (Option.map (qinv [0, 37, 90, 91, 92, 93, 94, 95, 96, 23, 24, 25, 26, 27, 28, 29, 30, 31, 32, 33, 34, 35, 36]) (kfB j))) (va_rf z) (va_rf tx) A V B L M)) rfl ?_
  rw [qinv_eq [0, 37, 90, 91, 92, 93, 94, 95, 96, 23, 24, 25, 26, 27, 28, 29, 30, 31, 32, 33, 34, 35, 36] kfB]
  show QG X 4 _ _ 1029 _ [.int c1] _ ad _ _
  refine QG.aload_n hX (qd K_L_law18 11 rfl) rfl rfl ?_
  refine QG.aload_ns hX (qd K_L_law18 12 rfl) rfl rfl ?_
  refine QG.iload_n hX (qd K_L_law18 13 rfl) rfl rfl ?_
  refine QG.iconst hX (qd K_L_law18 14 rfl) rfl ki_1 ?_
  refine QG.iadd hX (qd K_L_law18 15 rfl) rfl ?_
  refine QG.scld hX hs0 hsl hsA hsb (qd K_L_law18 16 rfl) rfl hi1 hv1 ?_
  refine QG.aload_ns hX (qd K_L_law18 17 rfl) rfl rfl ?_
  refine QG.iload_n hX (qd K_L_law18 18 rfl) rfl rfl ?_
  refine QG.iconst hX (qd K_L_law18 19 rfl) rfl ki_2 ?_
  refine QG.iadd hX (qd K_L_law18 20 rfl) rfl ?_
  refine QG.scld hX hs0 hsl hsA hsb (qd K_L_law18 21 rfl) rfl hi2 hv2 ?_
  refine QG.callVk (rest := [.int c1]) [104, 105, 106, 107, 108, 109, 110, 111, 112, 113, 114, 115, 116, 117, 118, 119, 120, 121, 122, 123, 124, 125, 126, 127, 128, 129, 130, 131, 132, 133, 134, 135, 136, 137] hz2 hX cw_L_133 (M_X8_ideal X.l (V 104 0) (A 105) (A 106) (A 107) (A 108) (A 109) (A 110) (A 111) (A 112) (V 104 9) (V 104 10) (A 113) (A 114) (A 115) (A 116) M (A 118) (A 119) (A 120) (A 121) (A 122) (A 123) (A 124) (A 125) (A 126) (A 127) (A 128) (V 104 27) (V 104 28) (A 129) (V 104 30) (V 104 31) (V 104 32) (V 104 33) (V 104 34) (V 104 35) (V 104 36) (A 130) (A 131) (A 132) (A 133) (A 134) (A 135) (V 104 43) (V 104 44) (V 104 45) (V 104 46) (A 136) (A 137) v1 v2) trivial (by decide) (by decide) (qd K_L_law18 22 rfl) rfl hcs rfl rfl rfl rfl (Nat.le_of_ble_eq_true rfl) rfl rfl (Nat.le_of_ble_eq_true rfl) rfl ?_
  refine QG.eqW (Wd' := (wLx rfB kfB (va_rf z) (va_rf tx) (va_up (va_up (va_up (va_up (va_up (va_up (va_up (va_up (va_up (va_up (va_up A 119 c2.2.2.1) 120 c2.2.2.2.1) 121 c2.2.2.2.2.1) 122 c2.2.2.2.2.2.1) 123 c2.2.2.2.2.2.2.1) 124 c2.2.2.2.2.2.2.2.1) 125 c2.2.2.2.2.2.2.2.2.1) 126 c2.2.2.2.2.2.2.2.2.2.1) 127 c2.2.2.2.2.2.2.2.2.2.2.1) 136 c2.2.2.2.2.2.2.2.2.2.2.2.2.1) 137 c2.2.2.2.2.2.2.2.2.2.2.2.2.2) (va_up2 (va_up2 V 104 0 c2.2.1) 104 46 c2.2.2.2.2.2.2.2.2.2.2.2.1) B L M)) rfl ?_
  show QG X 4 _ _ 1043 _ [.int c2.1, .int c1] _ ad _ _
  exact QG.ifT (by rw [he]) (QG.icmp_eq (tgt := 1048) (oF := none) hX (qd K_L_law18 23 rfl) rfl (by decide) K QG.nothing)

set_option maxRecDepth 100000 in
set_option maxHeartbeats 4000000 in
theorem C_ideal_un2_un3 {X : QX} (hX : qok X code RL 4 (some .boolean) 1000) {Q : Unit → State → Prop} {b LL : Nat} {xs : Nat → Int32} (hs0 : va_X b LL xs X.s X.s.heap) (hsl : b < X.s.heap.size) (hsA : ¬ X.A b) (hsb : X.sA 100 = b) {ad : Nat → Nat} {cells slots : Nat} (hcs : cells ≤ X.R.cells ∧ slots ≤ X.R.slots) {A V : Nat → Nat → Int32} {B : Nat → Bool} {L M : Nat → Int64} {z tx : Option Nat} {x3 : Int32} {v1 : Int32} {v2 : Int32} (hi1 : vp_in (x3 + 1) LL) (hv1 : xs (x3 + 1).toNatClampNeg = v1) (hi2 : vp_in (x3 + 2) LL) (hv2 : xs (x3 + 2).toNatClampNeg = v2) (h0a : ¬ v1 < 0) (h0b : ¬ 4 ≤ v1) (hj0 : v1.toNatClampNeg = 2) (hm0 : B 90 = false) (h1a : ¬ v2 < 0) (h1b : ¬ 4 ≤ v2) (hj1 : v2.toNatClampNeg = 3) (hm1 : B 97 = false) {c1 : Int32} {c2 : Int32 × Int32 × (Nat → Int32) × (Nat → Int32) × (Nat → Int32) × (Nat → Int32) × (Nat → Int32) × (Nat → Int32) × (Nat → Int32) × (Nat → Int32) × (Nat → Int32) × Int32 × (Nat → Int32) × (Nat → Int32)} (hz1 : F_X7_ideal_un_un v1 v2 = some c1) (hz2 : F_X8_ideal (V 104 0) (A 119) (A 120) (A 121) (A 122) (A 123) (A 124) (A 125) (A 126) (A 127) (V 104 46) (A 136) (A 137) v1 v2 = some c2) (he : c1 = c2.1)
    (K : QG X 4 Q (some ()) 1048 [(0, .float (UInt32.ofNat 100)), (1, .ref 0), (2, .ref 104), (3, .int x3)] [] (wLx rfB kfB (va_rf z) (va_rf tx) (va_up (va_up (va_up (va_up (va_up (va_up (va_up (va_up (va_up (va_up (va_up A 119 c2.2.2.1) 120 c2.2.2.2.1) 121 c2.2.2.2.2.1) 122 c2.2.2.2.2.2.1) 123 c2.2.2.2.2.2.2.1) 124 c2.2.2.2.2.2.2.2.1) 125 c2.2.2.2.2.2.2.2.2.1) 126 c2.2.2.2.2.2.2.2.2.2.1) 127 c2.2.2.2.2.2.2.2.2.2.2.1) 136 c2.2.2.2.2.2.2.2.2.2.2.2.2.1) 137 c2.2.2.2.2.2.2.2.2.2.2.2.2.2) (va_up2 (va_up2 V 104 0 c2.2.1) 104 46 c2.2.2.2.2.2.2.2.2.2.2.2.1) B L M) ad cells slots) : QG X 4 Q (some ()) 1015 [(0, .float (UInt32.ofNat 100)), (1, .ref 0), (2, .ref 104), (3, .int x3)] [] (wLx rfB kfB (va_rf z) (va_rf tx) A V B L M) ad cells slots := by
  refine QG.aload_n hX (qd K_L_law17 39 rfl) rfl rfl ?_
  refine QG.aload_ns hX (qd K_L_law18 0 rfl) rfl rfl ?_
  refine QG.iload_n hX (qd K_L_law18 1 rfl) rfl rfl ?_
  refine QG.iconst hX (qd K_L_law18 2 rfl) rfl ki_1 ?_
  refine QG.iadd hX (qd K_L_law18 3 rfl) rfl ?_
  refine QG.scld hX hs0 hsl hsA hsb (qd K_L_law18 4 rfl) rfl hi1 hv1 ?_
  refine QG.aload_ns hX (qd K_L_law18 5 rfl) rfl rfl ?_
  refine QG.iload_n hX (qd K_L_law18 6 rfl) rfl rfl ?_
  refine QG.iconst hX (qd K_L_law18 7 rfl) rfl ki_2 ?_
  refine QG.iadd hX (qd K_L_law18 8 rfl) rfl ?_
  refine QG.scld hX hs0 hsl hsA hsb (qd K_L_law18 9 rfl) rfl hi2 hv2 ?_
  refine QG.callVk (rest := []) [0, 37, 90, 91, 92, 93, 94, 95, 96, 97, 98, 99, 100, 101, 102, 103, 23, 24, 25, 26, 27, 28, 29, 30, 31, 32, 33, 34, 35, 36] hz1 hX cw_L_130 (M_X7_ideal_un_un X.l (fun j => Option.map (qinv [0, 37, 90, 91, 92, 93, 94, 95, 96, 97, 98, 99, 100, 101, 102, 103, 23, 24, 25, 26, 27, 28, 29, 30, 31, 32, 33, 34, 35, 36]) (kfB j)) (B 90) (V 90 1) (V 90 2) (V 90 3) (V 90 4) (V 90 5) (A 91) (A 92) (A 93) (A 94) (A 95) (A 96) (V 90 12) (B 97) (V 97 1) (V 97 2) (V 97 3) (V 97 4) (V 97 5) (A 98) (A 99) (A 100) (A 101) (A 102) (A 103) (V 97 12) (B 23) (V 23 1) (V 23 2) (V 23 3) (V 23 4) (V 23 5) (A 24) (A 25) (A 26) (A 27) (A 28) (A 29) (V 23 12) (B 30) (V 30 1) (V 30 2) (V 30 3) (V 30 4) (V 30 5) (A 31) (A 32) (A 33) (A 34) (A 35) (A 36) (V 30 12) v1 v2 h0a h0b (by show Option.map _ (kfB v1.toNatClampNeg) = _; rw [hj0]; rfl) hm0 h1a h1b (by show Option.map _ (kfB v2.toNatClampNeg) = _; rw [hj1]; rfl) hm1) trivial (by decide) (by decide) (qd K_L_law18 10 rfl) rfl hcs rfl rfl rfl rfl (Nat.le_of_ble_eq_true rfl) (Eq.trans (congrArg (fun f => List.map (fun i => (wLx rfB f (va_rf z) (va_rf tx) A V B L M)[i]?) [0, 37, 90, 91, 92, 93, 94, 95, 96, 97, 98, 99, 100, 101, 102, 103, 23, 24, 25, 26, 27, 28, 29, 30, 31, 32, 33, 34, 35, 36]) (qinv_eq [0, 37, 90, 91, 92, 93, 94, 95, 96, 97, 98, 99, 100, 101, 102, 103, 23, 24, 25, 26, 27, 28, 29, 30, 31, 32, 33, 34, 35, 36] kfB).symm) rfl) rfl (Nat.le_of_ble_eq_true rfl) rfl ?_
  refine QG.eqW (Wd' := (wLx rfB (fun j => Option.map (qf [0, 37, 90, 91, 92, 93, 94, 95, 96, 97, 98, 99, 100, 101, 102, 103, 23, 24, 25, 26, 27, 28, 29, 30, 31, 32, 33, 34, 35, 36]) (Option.map (qinv [0, 37, 90, 91, 92, 93, 94, 95, 96, 97, 98, 99, 100, 101, 102, 103, 23, 24, 25, 26, 27, 28, 29, 30, 31, 32, 33, 34, 35, 36]) (kfB j))) (va_rf z) (va_rf tx) A V B L M)) rfl ?_
  rw [qinv_eq [0, 37, 90, 91, 92, 93, 94, 95, 96, 97, 98, 99, 100, 101, 102, 103, 23, 24, 25, 26, 27, 28, 29, 30, 31, 32, 33, 34, 35, 36] kfB]
  show QG X 4 _ _ 1029 _ [.int c1] _ ad _ _
  refine QG.aload_n hX (qd K_L_law18 11 rfl) rfl rfl ?_
  refine QG.aload_ns hX (qd K_L_law18 12 rfl) rfl rfl ?_
  refine QG.iload_n hX (qd K_L_law18 13 rfl) rfl rfl ?_
  refine QG.iconst hX (qd K_L_law18 14 rfl) rfl ki_1 ?_
  refine QG.iadd hX (qd K_L_law18 15 rfl) rfl ?_
  refine QG.scld hX hs0 hsl hsA hsb (qd K_L_law18 16 rfl) rfl hi1 hv1 ?_
  refine QG.aload_ns hX (qd K_L_law18 17 rfl) rfl rfl ?_
  refine QG.iload_n hX (qd K_L_law18 18 rfl) rfl rfl ?_
  refine QG.iconst hX (qd K_L_law18 19 rfl) rfl ki_2 ?_
  refine QG.iadd hX (qd K_L_law18 20 rfl) rfl ?_
  refine QG.scld hX hs0 hsl hsA hsb (qd K_L_law18 21 rfl) rfl hi2 hv2 ?_
  refine QG.callVk (rest := [.int c1]) [104, 105, 106, 107, 108, 109, 110, 111, 112, 113, 114, 115, 116, 117, 118, 119, 120, 121, 122, 123, 124, 125, 126, 127, 128, 129, 130, 131, 132, 133, 134, 135, 136, 137] hz2 hX cw_L_133 (M_X8_ideal X.l (V 104 0) (A 105) (A 106) (A 107) (A 108) (A 109) (A 110) (A 111) (A 112) (V 104 9) (V 104 10) (A 113) (A 114) (A 115) (A 116) M (A 118) (A 119) (A 120) (A 121) (A 122) (A 123) (A 124) (A 125) (A 126) (A 127) (A 128) (V 104 27) (V 104 28) (A 129) (V 104 30) (V 104 31) (V 104 32) (V 104 33) (V 104 34) (V 104 35) (V 104 36) (A 130) (A 131) (A 132) (A 133) (A 134) (A 135) (V 104 43) (V 104 44) (V 104 45) (V 104 46) (A 136) (A 137) v1 v2) trivial (by decide) (by decide) (qd K_L_law18 22 rfl) rfl hcs rfl rfl rfl rfl (Nat.le_of_ble_eq_true rfl) rfl rfl (Nat.le_of_ble_eq_true rfl) rfl ?_
  refine QG.eqW (Wd' := (wLx rfB kfB (va_rf z) (va_rf tx) (va_up (va_up (va_up (va_up (va_up (va_up (va_up (va_up (va_up (va_up (va_up A 119 c2.2.2.1) 120 c2.2.2.2.1) 121 c2.2.2.2.2.1) 122 c2.2.2.2.2.2.1) 123 c2.2.2.2.2.2.2.1) 124 c2.2.2.2.2.2.2.2.1) 125 c2.2.2.2.2.2.2.2.2.1) 126 c2.2.2.2.2.2.2.2.2.2.1) 127 c2.2.2.2.2.2.2.2.2.2.2.1) 136 c2.2.2.2.2.2.2.2.2.2.2.2.2.1) 137 c2.2.2.2.2.2.2.2.2.2.2.2.2.2) (va_up2 (va_up2 V 104 0 c2.2.1) 104 46 c2.2.2.2.2.2.2.2.2.2.2.2.1) B L M)) rfl ?_
  show QG X 4 _ _ 1043 _ [.int c2.1, .int c1] _ ad _ _
  exact QG.ifT (by rw [he]) (QG.icmp_eq (tgt := 1048) (oF := none) hX (qd K_L_law18 23 rfl) rfl (by decide) K QG.nothing)

set_option maxRecDepth 100000 in
set_option maxHeartbeats 4000000 in
theorem C_ideal_un3_un0 {X : QX} (hX : qok X code RL 4 (some .boolean) 1000) {Q : Unit → State → Prop} {b LL : Nat} {xs : Nat → Int32} (hs0 : va_X b LL xs X.s X.s.heap) (hsl : b < X.s.heap.size) (hsA : ¬ X.A b) (hsb : X.sA 100 = b) {ad : Nat → Nat} {cells slots : Nat} (hcs : cells ≤ X.R.cells ∧ slots ≤ X.R.slots) {A V : Nat → Nat → Int32} {B : Nat → Bool} {L M : Nat → Int64} {z tx : Option Nat} {x3 : Int32} {v1 : Int32} {v2 : Int32} (hi1 : vp_in (x3 + 1) LL) (hv1 : xs (x3 + 1).toNatClampNeg = v1) (hi2 : vp_in (x3 + 2) LL) (hv2 : xs (x3 + 2).toNatClampNeg = v2) (h0a : ¬ v1 < 0) (h0b : ¬ 4 ≤ v1) (hj0 : v1.toNatClampNeg = 3) (hm0 : B 97 = false) (h1a : ¬ v2 < 0) (h1b : ¬ 4 ≤ v2) (hj1 : v2.toNatClampNeg = 0) (hm1 : B 76 = false) {c1 : Int32} {c2 : Int32 × Int32 × (Nat → Int32) × (Nat → Int32) × (Nat → Int32) × (Nat → Int32) × (Nat → Int32) × (Nat → Int32) × (Nat → Int32) × (Nat → Int32) × (Nat → Int32) × Int32 × (Nat → Int32) × (Nat → Int32)} (hz1 : F_X7_ideal_un_un v1 v2 = some c1) (hz2 : F_X8_ideal (V 104 0) (A 119) (A 120) (A 121) (A 122) (A 123) (A 124) (A 125) (A 126) (A 127) (V 104 46) (A 136) (A 137) v1 v2 = some c2) (he : c1 = c2.1)
    (K : QG X 4 Q (some ()) 1048 [(0, .float (UInt32.ofNat 100)), (1, .ref 0), (2, .ref 104), (3, .int x3)] [] (wLx rfB kfB (va_rf z) (va_rf tx) (va_up (va_up (va_up (va_up (va_up (va_up (va_up (va_up (va_up (va_up (va_up A 119 c2.2.2.1) 120 c2.2.2.2.1) 121 c2.2.2.2.2.1) 122 c2.2.2.2.2.2.1) 123 c2.2.2.2.2.2.2.1) 124 c2.2.2.2.2.2.2.2.1) 125 c2.2.2.2.2.2.2.2.2.1) 126 c2.2.2.2.2.2.2.2.2.2.1) 127 c2.2.2.2.2.2.2.2.2.2.2.1) 136 c2.2.2.2.2.2.2.2.2.2.2.2.2.1) 137 c2.2.2.2.2.2.2.2.2.2.2.2.2.2) (va_up2 (va_up2 V 104 0 c2.2.1) 104 46 c2.2.2.2.2.2.2.2.2.2.2.2.1) B L M) ad cells slots) : QG X 4 Q (some ()) 1015 [(0, .float (UInt32.ofNat 100)), (1, .ref 0), (2, .ref 104), (3, .int x3)] [] (wLx rfB kfB (va_rf z) (va_rf tx) A V B L M) ad cells slots := by
  refine QG.aload_n hX (qd K_L_law17 39 rfl) rfl rfl ?_
  refine QG.aload_ns hX (qd K_L_law18 0 rfl) rfl rfl ?_
  refine QG.iload_n hX (qd K_L_law18 1 rfl) rfl rfl ?_
  refine QG.iconst hX (qd K_L_law18 2 rfl) rfl ki_1 ?_
  refine QG.iadd hX (qd K_L_law18 3 rfl) rfl ?_
  refine QG.scld hX hs0 hsl hsA hsb (qd K_L_law18 4 rfl) rfl hi1 hv1 ?_
  refine QG.aload_ns hX (qd K_L_law18 5 rfl) rfl rfl ?_
  refine QG.iload_n hX (qd K_L_law18 6 rfl) rfl rfl ?_
  refine QG.iconst hX (qd K_L_law18 7 rfl) rfl ki_2 ?_
  refine QG.iadd hX (qd K_L_law18 8 rfl) rfl ?_
  refine QG.scld hX hs0 hsl hsA hsb (qd K_L_law18 9 rfl) rfl hi2 hv2 ?_
  refine QG.callVk (rest := []) [0, 37, 97, 98, 99, 100, 101, 102, 103, 76, 77, 78, 79, 80, 81, 82, 23, 24, 25, 26, 27, 28, 29, 30, 31, 32, 33, 34, 35, 36] hz1 hX cw_L_130 (M_X7_ideal_un_un X.l (fun j => Option.map (qinv [0, 37, 97, 98, 99, 100, 101, 102, 103, 76, 77, 78, 79, 80, 81, 82, 23, 24, 25, 26, 27, 28, 29, 30, 31, 32, 33, 34, 35, 36]) (kfB j)) (B 97) (V 97 1) (V 97 2) (V 97 3) (V 97 4) (V 97 5) (A 98) (A 99) (A 100) (A 101) (A 102) (A 103) (V 97 12) (B 76) (V 76 1) (V 76 2) (V 76 3) (V 76 4) (V 76 5) (A 77) (A 78) (A 79) (A 80) (A 81) (A 82) (V 76 12) (B 23) (V 23 1) (V 23 2) (V 23 3) (V 23 4) (V 23 5) (A 24) (A 25) (A 26) (A 27) (A 28) (A 29) (V 23 12) (B 30) (V 30 1) (V 30 2) (V 30 3) (V 30 4) (V 30 5) (A 31) (A 32) (A 33) (A 34) (A 35) (A 36) (V 30 12) v1 v2 h0a h0b (by show Option.map _ (kfB v1.toNatClampNeg) = _; rw [hj0]; rfl) hm0 h1a h1b (by show Option.map _ (kfB v2.toNatClampNeg) = _; rw [hj1]; rfl) hm1) trivial (by decide) (by decide) (qd K_L_law18 10 rfl) rfl hcs rfl rfl rfl rfl (Nat.le_of_ble_eq_true rfl) (Eq.trans (congrArg (fun f => List.map (fun i => (wLx rfB f (va_rf z) (va_rf tx) A V B L M)[i]?) [0, 37, 97, 98, 99, 100, 101, 102, 103, 76, 77, 78, 79, 80, 81, 82, 23, 24, 25, 26, 27, 28, 29, 30, 31, 32, 33, 34, 35, 36]) (qinv_eq [0, 37, 97, 98, 99, 100, 101, 102, 103, 76, 77, 78, 79, 80, 81, 82, 23, 24, 25, 26, 27, 28, 29, 30, 31, 32, 33, 34, 35, 36] kfB).symm) rfl) rfl (Nat.le_of_ble_eq_true rfl) rfl ?_
  refine QG.eqW (Wd' := (wLx rfB (fun j => Option.map (qf [0, 37, 97, 98, 99, 100, 101, 102, 103, 76, 77, 78, 79, 80, 81, 82, 23, 24, 25, 26, 27, 28, 29, 30, 31, 32, 33, 34, 35, 36]) (Option.map (qinv [0, 37, 97, 98, 99, 100, 101, 102, 103, 76, 77, 78, 79, 80, 81, 82, 23, 24, 25, 26, 27, 28, 29, 30, 31, 32, 33, 34, 35, 36]) (kfB j))) (va_rf z) (va_rf tx) A V B L M)) rfl ?_
  rw [qinv_eq [0, 37, 97, 98, 99, 100, 101, 102, 103, 76, 77, 78, 79, 80, 81, 82, 23, 24, 25, 26, 27, 28, 29, 30, 31, 32, 33, 34, 35, 36] kfB]
  show QG X 4 _ _ 1029 _ [.int c1] _ ad _ _
  refine QG.aload_n hX (qd K_L_law18 11 rfl) rfl rfl ?_
  refine QG.aload_ns hX (qd K_L_law18 12 rfl) rfl rfl ?_
  refine QG.iload_n hX (qd K_L_law18 13 rfl) rfl rfl ?_
  refine QG.iconst hX (qd K_L_law18 14 rfl) rfl ki_1 ?_
  refine QG.iadd hX (qd K_L_law18 15 rfl) rfl ?_
  refine QG.scld hX hs0 hsl hsA hsb (qd K_L_law18 16 rfl) rfl hi1 hv1 ?_
  refine QG.aload_ns hX (qd K_L_law18 17 rfl) rfl rfl ?_
  refine QG.iload_n hX (qd K_L_law18 18 rfl) rfl rfl ?_
  refine QG.iconst hX (qd K_L_law18 19 rfl) rfl ki_2 ?_
  refine QG.iadd hX (qd K_L_law18 20 rfl) rfl ?_
  refine QG.scld hX hs0 hsl hsA hsb (qd K_L_law18 21 rfl) rfl hi2 hv2 ?_
  refine QG.callVk (rest := [.int c1]) [104, 105, 106, 107, 108, 109, 110, 111, 112, 113, 114, 115, 116, 117, 118, 119, 120, 121, 122, 123, 124, 125, 126, 127, 128, 129, 130, 131, 132, 133, 134, 135, 136, 137] hz2 hX cw_L_133 (M_X8_ideal X.l (V 104 0) (A 105) (A 106) (A 107) (A 108) (A 109) (A 110) (A 111) (A 112) (V 104 9) (V 104 10) (A 113) (A 114) (A 115) (A 116) M (A 118) (A 119) (A 120) (A 121) (A 122) (A 123) (A 124) (A 125) (A 126) (A 127) (A 128) (V 104 27) (V 104 28) (A 129) (V 104 30) (V 104 31) (V 104 32) (V 104 33) (V 104 34) (V 104 35) (V 104 36) (A 130) (A 131) (A 132) (A 133) (A 134) (A 135) (V 104 43) (V 104 44) (V 104 45) (V 104 46) (A 136) (A 137) v1 v2) trivial (by decide) (by decide) (qd K_L_law18 22 rfl) rfl hcs rfl rfl rfl rfl (Nat.le_of_ble_eq_true rfl) rfl rfl (Nat.le_of_ble_eq_true rfl) rfl ?_
  refine QG.eqW (Wd' := (wLx rfB kfB (va_rf z) (va_rf tx) (va_up (va_up (va_up (va_up (va_up (va_up (va_up (va_up (va_up (va_up (va_up A 119 c2.2.2.1) 120 c2.2.2.2.1) 121 c2.2.2.2.2.1) 122 c2.2.2.2.2.2.1) 123 c2.2.2.2.2.2.2.1) 124 c2.2.2.2.2.2.2.2.1) 125 c2.2.2.2.2.2.2.2.2.1) 126 c2.2.2.2.2.2.2.2.2.2.1) 127 c2.2.2.2.2.2.2.2.2.2.2.1) 136 c2.2.2.2.2.2.2.2.2.2.2.2.2.1) 137 c2.2.2.2.2.2.2.2.2.2.2.2.2.2) (va_up2 (va_up2 V 104 0 c2.2.1) 104 46 c2.2.2.2.2.2.2.2.2.2.2.2.1) B L M)) rfl ?_
  show QG X 4 _ _ 1043 _ [.int c2.1, .int c1] _ ad _ _
  exact QG.ifT (by rw [he]) (QG.icmp_eq (tgt := 1048) (oF := none) hX (qd K_L_law18 23 rfl) rfl (by decide) K QG.nothing)

set_option maxRecDepth 100000 in
set_option maxHeartbeats 4000000 in
theorem C_ideal_un3_un1 {X : QX} (hX : qok X code RL 4 (some .boolean) 1000) {Q : Unit → State → Prop} {b LL : Nat} {xs : Nat → Int32} (hs0 : va_X b LL xs X.s X.s.heap) (hsl : b < X.s.heap.size) (hsA : ¬ X.A b) (hsb : X.sA 100 = b) {ad : Nat → Nat} {cells slots : Nat} (hcs : cells ≤ X.R.cells ∧ slots ≤ X.R.slots) {A V : Nat → Nat → Int32} {B : Nat → Bool} {L M : Nat → Int64} {z tx : Option Nat} {x3 : Int32} {v1 : Int32} {v2 : Int32} (hi1 : vp_in (x3 + 1) LL) (hv1 : xs (x3 + 1).toNatClampNeg = v1) (hi2 : vp_in (x3 + 2) LL) (hv2 : xs (x3 + 2).toNatClampNeg = v2) (h0a : ¬ v1 < 0) (h0b : ¬ 4 ≤ v1) (hj0 : v1.toNatClampNeg = 3) (hm0 : B 97 = false) (h1a : ¬ v2 < 0) (h1b : ¬ 4 ≤ v2) (hj1 : v2.toNatClampNeg = 1) (hm1 : B 83 = false) {c1 : Int32} {c2 : Int32 × Int32 × (Nat → Int32) × (Nat → Int32) × (Nat → Int32) × (Nat → Int32) × (Nat → Int32) × (Nat → Int32) × (Nat → Int32) × (Nat → Int32) × (Nat → Int32) × Int32 × (Nat → Int32) × (Nat → Int32)} (hz1 : F_X7_ideal_un_un v1 v2 = some c1) (hz2 : F_X8_ideal (V 104 0) (A 119) (A 120) (A 121) (A 122) (A 123) (A 124) (A 125) (A 126) (A 127) (V 104 46) (A 136) (A 137) v1 v2 = some c2) (he : c1 = c2.1)
    (K : QG X 4 Q (some ()) 1048 [(0, .float (UInt32.ofNat 100)), (1, .ref 0), (2, .ref 104), (3, .int x3)] [] (wLx rfB kfB (va_rf z) (va_rf tx) (va_up (va_up (va_up (va_up (va_up (va_up (va_up (va_up (va_up (va_up (va_up A 119 c2.2.2.1) 120 c2.2.2.2.1) 121 c2.2.2.2.2.1) 122 c2.2.2.2.2.2.1) 123 c2.2.2.2.2.2.2.1) 124 c2.2.2.2.2.2.2.2.1) 125 c2.2.2.2.2.2.2.2.2.1) 126 c2.2.2.2.2.2.2.2.2.2.1) 127 c2.2.2.2.2.2.2.2.2.2.2.1) 136 c2.2.2.2.2.2.2.2.2.2.2.2.2.1) 137 c2.2.2.2.2.2.2.2.2.2.2.2.2.2) (va_up2 (va_up2 V 104 0 c2.2.1) 104 46 c2.2.2.2.2.2.2.2.2.2.2.2.1) B L M) ad cells slots) : QG X 4 Q (some ()) 1015 [(0, .float (UInt32.ofNat 100)), (1, .ref 0), (2, .ref 104), (3, .int x3)] [] (wLx rfB kfB (va_rf z) (va_rf tx) A V B L M) ad cells slots := by
  refine QG.aload_n hX (qd K_L_law17 39 rfl) rfl rfl ?_
  refine QG.aload_ns hX (qd K_L_law18 0 rfl) rfl rfl ?_
  refine QG.iload_n hX (qd K_L_law18 1 rfl) rfl rfl ?_
  refine QG.iconst hX (qd K_L_law18 2 rfl) rfl ki_1 ?_
  refine QG.iadd hX (qd K_L_law18 3 rfl) rfl ?_
  refine QG.scld hX hs0 hsl hsA hsb (qd K_L_law18 4 rfl) rfl hi1 hv1 ?_
  refine QG.aload_ns hX (qd K_L_law18 5 rfl) rfl rfl ?_
  refine QG.iload_n hX (qd K_L_law18 6 rfl) rfl rfl ?_
  refine QG.iconst hX (qd K_L_law18 7 rfl) rfl ki_2 ?_
  refine QG.iadd hX (qd K_L_law18 8 rfl) rfl ?_
  refine QG.scld hX hs0 hsl hsA hsb (qd K_L_law18 9 rfl) rfl hi2 hv2 ?_
  refine QG.callVk (rest := []) [0, 37, 97, 98, 99, 100, 101, 102, 103, 83, 84, 85, 86, 87, 88, 89, 23, 24, 25, 26, 27, 28, 29, 30, 31, 32, 33, 34, 35, 36] hz1 hX cw_L_130 (M_X7_ideal_un_un X.l (fun j => Option.map (qinv [0, 37, 97, 98, 99, 100, 101, 102, 103, 83, 84, 85, 86, 87, 88, 89, 23, 24, 25, 26, 27, 28, 29, 30, 31, 32, 33, 34, 35, 36]) (kfB j)) (B 97) (V 97 1) (V 97 2) (V 97 3) (V 97 4) (V 97 5) (A 98) (A 99) (A 100) (A 101) (A 102) (A 103) (V 97 12) (B 83) (V 83 1) (V 83 2) (V 83 3) (V 83 4) (V 83 5) (A 84) (A 85) (A 86) (A 87) (A 88) (A 89) (V 83 12) (B 23) (V 23 1) (V 23 2) (V 23 3) (V 23 4) (V 23 5) (A 24) (A 25) (A 26) (A 27) (A 28) (A 29) (V 23 12) (B 30) (V 30 1) (V 30 2) (V 30 3) (V 30 4) (V 30 5) (A 31) (A 32) (A 33) (A 34) (A 35) (A 36) (V 30 12) v1 v2 h0a h0b (by show Option.map _ (kfB v1.toNatClampNeg) = _; rw [hj0]; rfl) hm0 h1a h1b (by show Option.map _ (kfB v2.toNatClampNeg) = _; rw [hj1]; rfl) hm1) trivial (by decide) (by decide) (qd K_L_law18 10 rfl) rfl hcs rfl rfl rfl rfl (Nat.le_of_ble_eq_true rfl) (Eq.trans (congrArg (fun f => List.map (fun i => (wLx rfB f (va_rf z) (va_rf tx) A V B L M)[i]?) [0, 37, 97, 98, 99, 100, 101, 102, 103, 83, 84, 85, 86, 87, 88, 89, 23, 24, 25, 26, 27, 28, 29, 30, 31, 32, 33, 34, 35, 36]) (qinv_eq [0, 37, 97, 98, 99, 100, 101, 102, 103, 83, 84, 85, 86, 87, 88, 89, 23, 24, 25, 26, 27, 28, 29, 30, 31, 32, 33, 34, 35, 36] kfB).symm) rfl) rfl (Nat.le_of_ble_eq_true rfl) rfl ?_
  refine QG.eqW (Wd' := (wLx rfB (fun j => Option.map (qf [0, 37, 97, 98, 99, 100, 101, 102, 103, 83, 84, 85, 86, 87, 88, 89, 23, 24, 25, 26, 27, 28, 29, 30, 31, 32, 33, 34, 35, 36]) (Option.map (qinv [0, 37, 97, 98, 99, 100, 101, 102, 103, 83, 84, 85, 86, 87, 88, 89, 23, 24, 25, 26, 27, 28, 29, 30, 31, 32, 33, 34, 35, 36]) (kfB j))) (va_rf z) (va_rf tx) A V B L M)) rfl ?_
  rw [qinv_eq [0, 37, 97, 98, 99, 100, 101, 102, 103, 83, 84, 85, 86, 87, 88, 89, 23, 24, 25, 26, 27, 28, 29, 30, 31, 32, 33, 34, 35, 36] kfB]
  show QG X 4 _ _ 1029 _ [.int c1] _ ad _ _
  refine QG.aload_n hX (qd K_L_law18 11 rfl) rfl rfl ?_
  refine QG.aload_ns hX (qd K_L_law18 12 rfl) rfl rfl ?_
  refine QG.iload_n hX (qd K_L_law18 13 rfl) rfl rfl ?_
  refine QG.iconst hX (qd K_L_law18 14 rfl) rfl ki_1 ?_
  refine QG.iadd hX (qd K_L_law18 15 rfl) rfl ?_
  refine QG.scld hX hs0 hsl hsA hsb (qd K_L_law18 16 rfl) rfl hi1 hv1 ?_
  refine QG.aload_ns hX (qd K_L_law18 17 rfl) rfl rfl ?_
  refine QG.iload_n hX (qd K_L_law18 18 rfl) rfl rfl ?_
  refine QG.iconst hX (qd K_L_law18 19 rfl) rfl ki_2 ?_
  refine QG.iadd hX (qd K_L_law18 20 rfl) rfl ?_
  refine QG.scld hX hs0 hsl hsA hsb (qd K_L_law18 21 rfl) rfl hi2 hv2 ?_
  refine QG.callVk (rest := [.int c1]) [104, 105, 106, 107, 108, 109, 110, 111, 112, 113, 114, 115, 116, 117, 118, 119, 120, 121, 122, 123, 124, 125, 126, 127, 128, 129, 130, 131, 132, 133, 134, 135, 136, 137] hz2 hX cw_L_133 (M_X8_ideal X.l (V 104 0) (A 105) (A 106) (A 107) (A 108) (A 109) (A 110) (A 111) (A 112) (V 104 9) (V 104 10) (A 113) (A 114) (A 115) (A 116) M (A 118) (A 119) (A 120) (A 121) (A 122) (A 123) (A 124) (A 125) (A 126) (A 127) (A 128) (V 104 27) (V 104 28) (A 129) (V 104 30) (V 104 31) (V 104 32) (V 104 33) (V 104 34) (V 104 35) (V 104 36) (A 130) (A 131) (A 132) (A 133) (A 134) (A 135) (V 104 43) (V 104 44) (V 104 45) (V 104 46) (A 136) (A 137) v1 v2) trivial (by decide) (by decide) (qd K_L_law18 22 rfl) rfl hcs rfl rfl rfl rfl (Nat.le_of_ble_eq_true rfl) rfl rfl (Nat.le_of_ble_eq_true rfl) rfl ?_
  refine QG.eqW (Wd' := (wLx rfB kfB (va_rf z) (va_rf tx) (va_up (va_up (va_up (va_up (va_up (va_up (va_up (va_up (va_up (va_up (va_up A 119 c2.2.2.1) 120 c2.2.2.2.1) 121 c2.2.2.2.2.1) 122 c2.2.2.2.2.2.1) 123 c2.2.2.2.2.2.2.1) 124 c2.2.2.2.2.2.2.2.1) 125 c2.2.2.2.2.2.2.2.2.1) 126 c2.2.2.2.2.2.2.2.2.2.1) 127 c2.2.2.2.2.2.2.2.2.2.2.1) 136 c2.2.2.2.2.2.2.2.2.2.2.2.2.1) 137 c2.2.2.2.2.2.2.2.2.2.2.2.2.2) (va_up2 (va_up2 V 104 0 c2.2.1) 104 46 c2.2.2.2.2.2.2.2.2.2.2.2.1) B L M)) rfl ?_
  show QG X 4 _ _ 1043 _ [.int c2.1, .int c1] _ ad _ _
  exact QG.ifT (by rw [he]) (QG.icmp_eq (tgt := 1048) (oF := none) hX (qd K_L_law18 23 rfl) rfl (by decide) K QG.nothing)


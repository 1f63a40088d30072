set_option maxRecDepth 100000 in
set_option maxHeartbeats 4000000 in
theorem M_X6_init (l : Launch) : QM l yX6_init cX6_init 1 none 1 1 400 (fun _ => True) [.ref 0] [.inr (6, [.null, .int 0, .int 0])] (some ()) (fun _ => (none, [.inr (6, [.ref 1, .int 0, .int 0]), .inl (0, 400, .inl (fun _ => 0))])) := by
  refine QM.of (by decide +kernel) (Nat.le_of_ble_eq_true rfl) ?_
  rintro X ad hX _ _ hR hin
  have hag : ∀ k, (k < 1 ∨ 1 ≤ k) → ad k = ad k := fun _ _ => rfl
  refine QG.aload_n hX (qd K_X6_init 0 rfl) rfl rfl ?_
  refine QG.objInit hX oi_X6_3 (by decide) (qd K_X6_init 1 rfl) rfl (Nat.le_of_ble_eq_true rfl) ?_
  refine QG.aload_n hX (qd K_X6_init 2 rfl) rfl rfl ?_
  refine QG.sipush hX (qd K_X6_init 3 rfl) rfl ks_400 ?_
  refine QG.newa (at0 := .int) (ty := .int) (t := 0) (N' := 400) (a0 := (400, .inl (fun _ => 0))) hX ac_int rfl (Or.inl ⟨rfl, rfl⟩) (fun _ => rfl) (fun _ => rfl) (by decide) (by decide +kernel) (by decide +kernel) (qd K_X6_init 4 rfl) rfl rfl rfl rfl (qrRs_all ⟨trivial, trivial⟩) (by rw [hR]; exact Nat.le_of_ble_eq_true rfl) (by rw [hR]; exact Nat.le_of_ble_eq_true rfl) (fun q1 => ?_)
  show QG X 1 _ _ 10 _ [.ref 1, .ref 0] [.inr (6, [.null, .int 0, .int 0]), .inl (0, 400, .inl (fun _ => 0))] (qup ad 1 q1) 1 400
  replace hag := qup_ag (q := q1) hag (by decide)
  generalize qup ad 1 q1 = ad1 at hag ⊢
  refine QG.putF (Wd' := [.inr (6, [.ref 1, .int 0, .int 0]), .inl (0, 400, .inl (fun _ => 0))]) (ty := (.array .int)) hX hin fl_X6_9 (by decide +kernel) (qd K_X6_init 5 rfl) rfl rfl (Nat.le_of_ble_eq_true rfl) (qfit_a _ _) rfl ?_
  refine QG.aload_n hX (qd K_X6_init 6 rfl) rfl rfl ?_
  refine QG.iconst hX (qd K_X6_init 7 rfl) rfl ki_0 ?_
  refine QG.putf (Wd' := [.inr (6, [.ref 1, .int 0, .int 0]), .inl (0, 400, .inl (fun _ => 0))]) (ty := .int) hX fl_X6_15 (by decide +kernel) (qd K_X6_init 8 rfl) rfl rfl (Nat.le_of_ble_eq_true rfl) (qfit_i _) rfl ?_
  refine QG.aload_n hX (qd K_X6_init 9 rfl) rfl rfl ?_
  refine QG.iconst hX (qd K_X6_init 10 rfl) rfl ki_0 ?_
  refine QG.putf (Wd' := [.inr (6, [.ref 1, .int 0, .int 0]), .inl (0, 400, .inl (fun _ => 0))]) (ty := .int) hX fl_X6_19 (by decide +kernel) (qd K_X6_init 11 rfl) rfl rfl (Nat.le_of_ble_eq_true rfl) (qfit_i _) rfl ?_
  exact QG.vret hX (qd K_X6_init 12 rfl) rfl rfl hag


set_option maxRecDepth 100000 in
set_option maxHeartbeats 4000000 in
theorem M_X3_init (l : Launch) : QM l yX3_init cX3_init 1 none 1 3 71 (fun _ => True) [.ref 0] [.inr (3, [.int 0, .int 0, .null, .int 0, .int 0, .null, .null, .null, .int 0, .int 0, .int 0, .int 0, .int 0])] (some ()) (fun _ => (none, [.inr (3, [.int 0, .int (-1), .null, .int 0, .int 0, .ref 1, .ref 2, .ref 3, .int 0, .int 0, .int 0, .int 0, .int 0]), .inl (0, 9, .inl (fun _ => 0)), .inl (0, 31, .inl (fun _ => 0)), .inl (0, 31, .inl (fun _ => 0))])) := by
  refine QM.of (by decide +kernel) (Nat.le_of_ble_eq_true rfl) ?_
  rintro X ad hX _ _ hR hin
  have hag : ∀ k, (k < 1 ∨ 1 ≤ k) → ad k = ad k := fun _ _ => rfl
  refine QG.aload_n hX (qd K_X3_init 0 rfl) rfl rfl ?_
  refine QG.objInit hX oi_X3_3 (by decide) (qd K_X3_init 1 rfl) rfl (Nat.le_of_ble_eq_true rfl) ?_
  refine QG.aload_n hX (qd K_X3_init 2 rfl) rfl rfl ?_
  refine QG.iconst hX (qd K_X3_init 3 rfl) rfl ki_0 ?_
  refine QG.putf (Wd' := [.inr (3, [.int 0, .int 0, .null, .int 0, .int 0, .null, .null, .null, .int 0, .int 0, .int 0, .int 0, .int 0])]) (ty := .int) hX fl_X3_9 (by decide +kernel) (qd K_X3_init 4 rfl) rfl rfl (Nat.le_of_ble_eq_true rfl) (qfit_i _) rfl ?_
  refine QG.aload_n hX (qd K_X3_init 5 rfl) rfl rfl ?_
  refine QG.iconst hX (qd K_X3_init 6 rfl) rfl ki_m1 ?_
  refine QG.putf (Wd' := [.inr (3, [.int 0, .int (-1), .null, .int 0, .int 0, .null, .null, .null, .int 0, .int 0, .int 0, .int 0, .int 0])]) (ty := .int) hX fl_X3_15 (by decide +kernel) (qd K_X3_init 7 rfl) rfl rfl (Nat.le_of_ble_eq_true rfl) (qfit_i _) rfl ?_
  refine QG.aload_n hX (qd K_X3_init 8 rfl) rfl rfl ?_
  refine QG.nul hX (qd K_X3_init 9 rfl) rfl ?_
  refine QG.putf (Wd' := [.inr (3, [.int 0, .int (-1), .null, .int 0, .int 0, .null, .null, .null, .int 0, .int 0, .int 0, .int 0, .int 0])]) (ty := (.object "QuireDesk$Strip")) hX fl_X3_18 (by decide +kernel) (qd K_X3_init 10 rfl) rfl rfl (Nat.le_of_ble_eq_true rfl) (qfit_n _) rfl ?_
  refine QG.aload_n hX (qd K_X3_init 11 rfl) rfl rfl ?_
  refine QG.iconst hX (qd K_X3_init 12 rfl) rfl ki_0 ?_
  refine QG.putf (Wd' := [.inr (3, [.int 0, .int (-1), .null, .int 0, .int 0, .null, .null, .null, .int 0, .int 0, .int 0, .int 0, .int 0])]) (ty := .int) hX fl_X3_22 (by decide +kernel) (qd K_X3_init 13 rfl) rfl rfl (Nat.le_of_ble_eq_true rfl) (qfit_i _) rfl ?_
  refine QG.aload_n hX (qd K_X3_init 14 rfl) rfl rfl ?_
  refine QG.iconst hX (qd K_X3_init 15 rfl) rfl ki_0 ?_
  refine QG.putf (Wd' := [.inr (3, [.int 0, .int (-1), .null, .int 0, .int 0, .null, .null, .null, .int 0, .int 0, .int 0, .int 0, .int 0])]) (ty := .int) hX fl_X3_25 (by decide +kernel) (qd K_X3_init 16 rfl) rfl rfl (Nat.le_of_ble_eq_true rfl) (qfit_i _) rfl ?_
  refine QG.aload_n hX (qd K_X3_init 17 rfl) rfl rfl ?_
  refine QG.bipush hX (qd K_X3_init 18 rfl) rfl kb_9 ?_
  refine QG.newa (at0 := .int) (ty := .int) (t := 0) (N' := 9) (a0 := (9, .inl (fun _ => 0))) hX ac_int rfl (Or.inl ⟨rfl, rfl⟩) (fun _ => rfl) (fun _ => rfl) (by decide) (by decide +kernel) (by decide +kernel) (qd K_X3_init 19 rfl) rfl rfl rfl rfl (qrRs_all ⟨trivial, trivial⟩) (by rw [hR]; exact Nat.le_of_ble_eq_true rfl) (by rw [hR]; exact Nat.le_of_ble_eq_true rfl) (fun q1 => ?_)
  show QG X 1 _ _ 34 _ [.ref 1, .ref 0] [.inr (3, [.int 0, .int (-1), .null, .int 0, .int 0, .null, .null, .null, .int 0, .int 0, .int 0, .int 0, .int 0]), .inl (0, 9, .inl (fun _ => 0))] (qup ad 1 q1) 1 9
  replace hag := qup_ag (q := q1) hag (by decide)
  generalize qup ad 1 q1 = ad1 at hag ⊢
  refine QG.putF (Wd' := [.inr (3, [.int 0, .int (-1), .null, .int 0, .int 0, .ref 1, .null, .null, .int 0, .int 0, .int 0, .int 0, .int 0]), .inl (0, 9, .inl (fun _ => 0))]) (ty := (.array .int)) hX hin fl_X3_28 (by decide +kernel) (qd K_X3_init 20 rfl) rfl rfl (Nat.le_of_ble_eq_true rfl) (qfit_a _ _) rfl ?_
  refine QG.aload_n hX (qd K_X3_init 21 rfl) rfl rfl ?_
  refine QG.bipush hX (qd K_X3_init 22 rfl) rfl kb_31 ?_
  refine QG.newa (at0 := .int) (ty := .int) (t := 0) (N' := 31) (a0 := (31, .inl (fun _ => 0))) hX ac_int rfl (Or.inl ⟨rfl, rfl⟩) (fun _ => rfl) (fun _ => rfl) (by decide) (by decide +kernel) (by decide +kernel) (qd K_X3_init 23 rfl) rfl rfl rfl rfl (qrRs_all ⟨trivial, trivial, trivial⟩) (by rw [hR]; exact Nat.le_of_ble_eq_true rfl) (by rw [hR]; exact Nat.le_of_ble_eq_true rfl) (fun q2 => ?_)
  show QG X 1 _ _ 42 _ [.ref 2, .ref 0] [.inr (3, [.int 0, .int (-1), .null, .int 0, .int 0, .ref 1, .null, .null, .int 0, .int 0, .int 0, .int 0, .int 0]), .inl (0, 9, .inl (fun _ => 0)), .inl (0, 31, .inl (fun _ => 0))] (qup ad1 2 q2) 2 40
  replace hag := qup_ag (q := q2) hag (by decide)
  generalize qup ad1 2 q2 = ad2 at hag ⊢
  refine QG.putF (Wd' := [.inr (3, [.int 0, .int (-1), .null, .int 0, .int 0, .ref 1, .ref 2, .null, .int 0, .int 0, .int 0, .int 0, .int 0]), .inl (0, 9, .inl (fun _ => 0)), .inl (0, 31, .inl (fun _ => 0))]) (ty := (.array .int)) hX hin fl_X3_32 (by decide +kernel) (qd K_X3_init 24 rfl) rfl rfl (Nat.le_of_ble_eq_true rfl) (qfit_a _ _) rfl ?_
  refine QG.aload_n hX (qd K_X3_init 25 rfl) rfl rfl ?_
  refine QG.bipush hX (qd K_X3_init 26 rfl) rfl kb_31 ?_
  refine QG.newa (at0 := .int) (ty := .int) (t := 0) (N' := 31) (a0 := (31, .inl (fun _ => 0))) hX ac_int rfl (Or.inl ⟨rfl, rfl⟩) (fun _ => rfl) (fun _ => rfl) (by decide) (by decide +kernel) (by decide +kernel) (qd K_X3_init 27 rfl) rfl rfl rfl rfl (qrRs_all ⟨trivial, trivial, trivial, trivial⟩) (by rw [hR]; exact Nat.le_of_ble_eq_true rfl) (by rw [hR]; exact Nat.le_of_ble_eq_true rfl) (fun q3 => ?_)
  show QG X 1 _ _ 50 _ [.ref 3, .ref 0] [.inr (3, [.int 0, .int (-1), .null, .int 0, .int 0, .ref 1, .ref 2, .null, .int 0, .int 0, .int 0, .int 0, .int 0]), .inl (0, 9, .inl (fun _ => 0)), .inl (0, 31, .inl (fun _ => 0)), .inl (0, 31, .inl (fun _ => 0))] (qup ad2 3 q3) 3 71
  replace hag := qup_ag (q := q3) hag (by decide)
  generalize qup ad2 3 q3 = ad3 at hag ⊢
  refine QG.putF (Wd' := [.inr (3, [.int 0, .int (-1), .null, .int 0, .int 0, .ref 1, .ref 2, .ref 3, .int 0, .int 0, .int 0, .int 0, .int 0]), .inl (0, 9, .inl (fun _ => 0)), .inl (0, 31, .inl (fun _ => 0)), .inl (0, 31, .inl (fun _ => 0))]) (ty := (.array .int)) hX hin fl_X3_35 (by decide +kernel) (qd K_X3_init 28 rfl) rfl rfl (Nat.le_of_ble_eq_true rfl) (qfit_a _ _) rfl ?_
  refine QG.aload_n hX (qd K_X3_init 29 rfl) rfl rfl ?_
  refine QG.iconst hX (qd K_X3_init 30 rfl) rfl ki_0 ?_
  refine QG.putf (Wd' := [.inr (3, [.int 0, .int (-1), .null, .int 0, .int 0, .ref 1, .ref 2, .ref 3, .int 0, .int 0, .int 0, .int 0, .int 0]), .inl (0, 9, .inl (fun _ => 0)), .inl (0, 31, .inl (fun _ => 0)), .inl (0, 31, .inl (fun _ => 0))]) (ty := .int) hX fl_X3_38 (by decide +kernel) (qd K_X3_init 31 rfl) rfl rfl (Nat.le_of_ble_eq_true rfl) (qfit_i _) rfl ?_
  refine QG.aload_n hX (qd K_X3_init 32 rfl) rfl rfl ?_
  refine QG.iconst hX (qd K_X3_init 33 rfl) rfl ki_0 ?_
  refine QG.putf (Wd' := [.inr (3, [.int 0, .int (-1), .null, .int 0, .int 0, .ref 1, .ref 2, .ref 3, .int 0, .int 0, .int 0, .int 0, .int 0]), .inl (0, 9, .inl (fun _ => 0)), .inl (0, 31, .inl (fun _ => 0)), .inl (0, 31, .inl (fun _ => 0))]) (ty := .int) hX fl_X3_41 (by decide +kernel) (qd K_X3_init 34 rfl) rfl rfl (Nat.le_of_ble_eq_true rfl) (qfit_i _) rfl ?_
  refine QG.aload_n hX (qd K_X3_init 35 rfl) rfl rfl ?_
  refine QG.iconst hX (qd K_X3_init 36 rfl) rfl ki_0 ?_
  refine QG.putf (Wd' := [.inr (3, [.int 0, .int (-1), .null, .int 0, .int 0, .ref 1, .ref 2, .ref 3, .int 0, .int 0, .int 0, .int 0, .int 0]), .inl (0, 9, .inl (fun _ => 0)), .inl (0, 31, .inl (fun _ => 0)), .inl (0, 31, .inl (fun _ => 0))]) (ty := .int) hX fl_X3_44 (by decide +kernel) (qd K_X3_init 37 rfl) rfl rfl (Nat.le_of_ble_eq_true rfl) (qfit_i _) rfl ?_
  refine QG.aload_n hX (qd K_X3_init 38 rfl) rfl rfl ?_
  refine QG.iconst hX (qd K_X3_init 39 rfl) rfl ki_0 ?_
  refine QG.putf (Wd' := [.inr (3, [.int 0, .int (-1), .null, .int 0, .int 0, .ref 1, .ref 2, .ref 3, .int 0, .int 0, .int 0, .int 0, .int 0]), .inl (0, 9, .inl (fun _ => 0)), .inl (0, 31, .inl (fun _ => 0)), .inl (0, 31, .inl (fun _ => 0))]) (ty := .int) hX fl_X3_47 (by decide +kernel) (qd K_X3_init 40 rfl) rfl rfl (Nat.le_of_ble_eq_true rfl) (qfit_i _) rfl ?_
  refine QG.aload_n hX (qd K_X3_init 41 rfl) rfl rfl ?_
  refine QG.iconst hX (qd K_X3_init 42 rfl) rfl ki_0 ?_
  refine QG.putf (Wd' := [.inr (3, [.int 0, .int (-1), .null, .int 0, .int 0, .ref 1, .ref 2, .ref 3, .int 0, .int 0, .int 0, .int 0, .int 0]), .inl (0, 9, .inl (fun _ => 0)), .inl (0, 31, .inl (fun _ => 0)), .inl (0, 31, .inl (fun _ => 0))]) (ty := .int) hX fl_X3_50 (by decide +kernel) (qd K_X3_init 43 rfl) rfl rfl (Nat.le_of_ble_eq_true rfl) (qfit_i _) rfl ?_
  exact QG.vret hX (qd K_X3_init 44 rfl) rfl rfl hag


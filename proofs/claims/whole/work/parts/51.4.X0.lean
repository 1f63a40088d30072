set_option maxRecDepth 100000 in
set_option maxHeartbeats 4000000 in
theorem M_X0_init (l : Launch) : QM l yX0_init cX0_init 1 none 1 6 192 (fun _ => True) [.ref 0] [.inr (0, [.int 0, .int 0, .int 0, .int 0, .int 0, .int 0, .null, .null, .null, .null, .null, .null, .int 0])] (some ()) (fun _ => (none, [.inr (0, [.int 0, .int 0, .int 0, .int 0, .int 0, .int 0, .ref 1, .ref 2, .ref 3, .ref 4, .ref 5, .ref 6, .int 0]), .inl (0, 8, .inl (fun _ => 0)), .inl (0, 64, .inl (fun _ => 0)), .inl (0, 30, .inl (fun _ => 0)), .inl (0, 30, .inl (fun _ => 0)), .inl (0, 30, .inl (fun _ => 0)), .inl (0, 30, .inl (fun _ => 0))])) := by
  refine QM.of (by decide +kernel) (Nat.le_of_ble_eq_true rfl) ?_
  rintro X ad hX _ _ hR hin
  have hag : ∀ k, (k < 1 ∨ 1 ≤ k) → ad k = ad k := fun _ _ => rfl
  refine QG.aload_n hX (qd K_X0_init 0 rfl) rfl rfl ?_
  refine QG.objInit hX oi_X0_3 (by decide) (qd K_X0_init 1 rfl) rfl (Nat.le_of_ble_eq_true rfl) ?_
  refine QG.aload_n hX (qd K_X0_init 2 rfl) rfl rfl ?_
  refine QG.iconst hX (qd K_X0_init 3 rfl) rfl ki_0 ?_
  refine QG.putf (Wd' := [.inr (0, [.int 0, .int 0, .int 0, .int 0, .int 0, .int 0, .null, .null, .null, .null, .null, .null, .int 0])]) (ty := .boolean) hX fl_X0_9 (by decide +kernel) (qd K_X0_init 4 rfl) rfl rfl (Nat.le_of_ble_eq_true rfl) qfit_z0 rfl ?_
  refine QG.aload_n hX (qd K_X0_init 5 rfl) rfl rfl ?_
  refine QG.iconst hX (qd K_X0_init 6 rfl) rfl ki_0 ?_
  refine QG.putf (Wd' := [.inr (0, [.int 0, .int 0, .int 0, .int 0, .int 0, .int 0, .null, .null, .null, .null, .null, .null, .int 0])]) (ty := .int) hX fl_X0_15 (by decide +kernel) (qd K_X0_init 7 rfl) rfl rfl (Nat.le_of_ble_eq_true rfl) (qfit_i _) rfl ?_
  refine QG.aload_n hX (qd K_X0_init 8 rfl) rfl rfl ?_
  refine QG.iconst hX (qd K_X0_init 9 rfl) rfl ki_0 ?_
  refine QG.putf (Wd' := [.inr (0, [.int 0, .int 0, .int 0, .int 0, .int 0, .int 0, .null, .null, .null, .null, .null, .null, .int 0])]) (ty := .int) hX fl_X0_19 (by decide +kernel) (qd K_X0_init 10 rfl) rfl rfl (Nat.le_of_ble_eq_true rfl) (qfit_i _) rfl ?_
  refine QG.aload_n hX (qd K_X0_init 11 rfl) rfl rfl ?_
  refine QG.iconst hX (qd K_X0_init 12 rfl) rfl ki_0 ?_
  refine QG.putf (Wd' := [.inr (0, [.int 0, .int 0, .int 0, .int 0, .int 0, .int 0, .null, .null, .null, .null, .null, .null, .int 0])]) (ty := .int) hX fl_X0_22 (by decide +kernel) (qd K_X0_init 13 rfl) rfl rfl (Nat.le_of_ble_eq_true rfl) (qfit_i _) rfl ?_
  refine QG.aload_n hX (qd K_X0_init 14 rfl) rfl rfl ?_
  refine QG.iconst hX (qd K_X0_init 15 rfl) rfl ki_0 ?_
  refine QG.putf (Wd' := [.inr (0, [.int 0, .int 0, .int 0, .int 0, .int 0, .int 0, .null, .null, .null, .null, .null, .null, .int 0])]) (ty := .int) hX fl_X0_25 (by decide +kernel) (qd K_X0_init 16 rfl) rfl rfl (Nat.le_of_ble_eq_true rfl) (qfit_i _) rfl ?_
  refine QG.aload_n hX (qd K_X0_init 17 rfl) rfl rfl ?_
  refine QG.iconst hX (qd K_X0_init 18 rfl) rfl ki_0 ?_
  refine QG.putf (Wd' := [.inr (0, [.int 0, .int 0, .int 0, .int 0, .int 0, .int 0, .null, .null, .null, .null, .null, .null, .int 0])]) (ty := .int) hX fl_X0_28 (by decide +kernel) (qd K_X0_init 19 rfl) rfl rfl (Nat.le_of_ble_eq_true rfl) (qfit_i _) rfl ?_
  refine QG.aload_n hX (qd K_X0_init 20 rfl) rfl rfl ?_
  refine QG.bipush hX (qd K_X0_init 21 rfl) rfl kb_8 ?_
  refine QG.newa (at0 := .int) (ty := .int) (t := 0) (N' := 8) (a0 := (8, .inl (fun _ => 0))) hX ac_int rfl (Or.inl ⟨rfl, rfl⟩) (fun _ => rfl) (fun _ => rfl) (by decide) (by decide +kernel) (by decide +kernel) (qd K_X0_init 22 rfl) rfl rfl rfl rfl (qrRs_all ⟨trivial, trivial⟩) (by rw [hR]; exact Nat.le_of_ble_eq_true rfl) (by rw [hR]; exact Nat.le_of_ble_eq_true rfl) (fun q1 => ?_)
  show QG X 1 _ _ 39 _ [.ref 1, .ref 0] [.inr (0, [.int 0, .int 0, .int 0, .int 0, .int 0, .int 0, .null, .null, .null, .null, .null, .null, .int 0]), .inl (0, 8, .inl (fun _ => 0))] (qup ad 1 q1) 1 8
  replace hag := qup_ag (q := q1) hag (by decide)
  generalize qup ad 1 q1 = ad1 at hag ⊢
  refine QG.putF (Wd' := [.inr (0, [.int 0, .int 0, .int 0, .int 0, .int 0, .int 0, .ref 1, .null, .null, .null, .null, .null, .int 0]), .inl (0, 8, .inl (fun _ => 0))]) (ty := (.array .int)) hX hin fl_X0_31 (by decide +kernel) (qd K_X0_init 23 rfl) rfl rfl (Nat.le_of_ble_eq_true rfl) (qfit_a _ _) rfl ?_
  refine QG.aload_n hX (qd K_X0_init 24 rfl) rfl rfl ?_
  refine QG.bipush hX (qd K_X0_init 25 rfl) rfl kb_64 ?_
  refine QG.newa (at0 := .int) (ty := .int) (t := 0) (N' := 64) (a0 := (64, .inl (fun _ => 0))) hX ac_int rfl (Or.inl ⟨rfl, rfl⟩) (fun _ => rfl) (fun _ => rfl) (by decide) (by decide +kernel) (by decide +kernel) (qd K_X0_init 26 rfl) rfl rfl rfl rfl (qrRs_all ⟨trivial, trivial, trivial⟩) (by rw [hR]; exact Nat.le_of_ble_eq_true rfl) (by rw [hR]; exact Nat.le_of_ble_eq_true rfl) (fun q2 => ?_)
  show QG X 1 _ _ 47 _ [.ref 2, .ref 0] [.inr (0, [.int 0, .int 0, .int 0, .int 0, .int 0, .int 0, .ref 1, .null, .null, .null, .null, .null, .int 0]), .inl (0, 8, .inl (fun _ => 0)), .inl (0, 64, .inl (fun _ => 0))] (qup ad1 2 q2) 2 72
  replace hag := qup_ag (q := q2) hag (by decide)
  generalize qup ad1 2 q2 = ad2 at hag ⊢
  refine QG.putF (Wd' := [.inr (0, [.int 0, .int 0, .int 0, .int 0, .int 0, .int 0, .ref 1, .ref 2, .null, .null, .null, .null, .int 0]), .inl (0, 8, .inl (fun _ => 0)), .inl (0, 64, .inl (fun _ => 0))]) (ty := (.array .int)) hX hin fl_X0_35 (by decide +kernel) (qd K_X0_init 27 rfl) rfl rfl (Nat.le_of_ble_eq_true rfl) (qfit_a _ _) rfl ?_
  refine QG.aload_n hX (qd K_X0_init 28 rfl) rfl rfl ?_
  refine QG.bipush hX (qd K_X0_init 29 rfl) rfl kb_30 ?_
  refine QG.newa (at0 := .int) (ty := .int) (t := 0) (N' := 30) (a0 := (30, .inl (fun _ => 0))) hX ac_int rfl (Or.inl ⟨rfl, rfl⟩) (fun _ => rfl) (fun _ => rfl) (by decide) (by decide +kernel) (by decide +kernel) (qd K_X0_init 30 rfl) rfl rfl rfl rfl (qrRs_all ⟨trivial, trivial, trivial, trivial⟩) (by rw [hR]; exact Nat.le_of_ble_eq_true rfl) (by rw [hR]; exact Nat.le_of_ble_eq_true rfl) (fun q3 => ?_)
  show QG X 1 _ _ 55 _ [.ref 3, .ref 0] [.inr (0, [.int 0, .int 0, .int 0, .int 0, .int 0, .int 0, .ref 1, .ref 2, .null, .null, .null, .null, .int 0]), .inl (0, 8, .inl (fun _ => 0)), .inl (0, 64, .inl (fun _ => 0)), .inl (0, 30, .inl (fun _ => 0))] (qup ad2 3 q3) 3 102
  replace hag := qup_ag (q := q3) hag (by decide)
  generalize qup ad2 3 q3 = ad3 at hag ⊢
  refine QG.putF (Wd' := [.inr (0, [.int 0, .int 0, .int 0, .int 0, .int 0, .int 0, .ref 1, .ref 2, .ref 3, .null, .null, .null, .int 0]), .inl (0, 8, .inl (fun _ => 0)), .inl (0, 64, .inl (fun _ => 0)), .inl (0, 30, .inl (fun _ => 0))]) (ty := (.array .int)) hX hin fl_X0_38 (by decide +kernel) (qd K_X0_init 31 rfl) rfl rfl (Nat.le_of_ble_eq_true rfl) (qfit_a _ _) rfl ?_
  refine QG.aload_n hX (qd K_X0_init 32 rfl) rfl rfl ?_
  refine QG.bipush hX (qd K_X0_init 33 rfl) rfl kb_30 ?_
  refine QG.newa (at0 := .int) (ty := .int) (t := 0) (N' := 30) (a0 := (30, .inl (fun _ => 0))) hX ac_int rfl (Or.inl ⟨rfl, rfl⟩) (fun _ => rfl) (fun _ => rfl) (by decide) (by decide +kernel) (by decide +kernel) (qd K_X0_init 34 rfl) rfl rfl rfl rfl (qrRs_all ⟨trivial, trivial, trivial, trivial, trivial⟩) (by rw [hR]; exact Nat.le_of_ble_eq_true rfl) (by rw [hR]; exact Nat.le_of_ble_eq_true rfl) (fun q4 => ?_)
  show QG X 1 _ _ 63 _ [.ref 4, .ref 0] [.inr (0, [.int 0, .int 0, .int 0, .int 0, .int 0, .int 0, .ref 1, .ref 2, .ref 3, .null, .null, .null, .int 0]), .inl (0, 8, .inl (fun _ => 0)), .inl (0, 64, .inl (fun _ => 0)), .inl (0, 30, .inl (fun _ => 0)), .inl (0, 30, .inl (fun _ => 0))] (qup ad3 4 q4) 4 132
  replace hag := qup_ag (q := q4) hag (by decide)
  generalize qup ad3 4 q4 = ad4 at hag ⊢
  refine QG.putF (Wd' := [.inr (0, [.int 0, .int 0, .int 0, .int 0, .int 0, .int 0, .ref 1, .ref 2, .ref 3, .ref 4, .null, .null, .int 0]), .inl (0, 8, .inl (fun _ => 0)), .inl (0, 64, .inl (fun _ => 0)), .inl (0, 30, .inl (fun _ => 0)), .inl (0, 30, .inl (fun _ => 0))]) (ty := (.array .int)) hX hin fl_X0_41 (by decide +kernel) (qd K_X0_init 35 rfl) rfl rfl (Nat.le_of_ble_eq_true rfl) (qfit_a _ _) rfl ?_
  refine QG.aload_n hX (qd K_X0_init 36 rfl) rfl rfl ?_
  refine QG.bipush hX (qd K_X0_init 37 rfl) rfl kb_30 ?_
  refine QG.newa (at0 := .int) (ty := .int) (t := 0) (N' := 30) (a0 := (30, .inl (fun _ => 0))) hX ac_int rfl (Or.inl ⟨rfl, rfl⟩) (fun _ => rfl) (fun _ => rfl) (by decide) (by decide +kernel) (by decide +kernel) (qd K_X0_init 38 rfl) rfl rfl rfl rfl (qrRs_all ⟨trivial, trivial, trivial, trivial, trivial, trivial⟩) (by rw [hR]; exact Nat.le_of_ble_eq_true rfl) (by rw [hR]; exact Nat.le_of_ble_eq_true rfl) (fun q5 => ?_)
  show QG X 1 _ _ 71 _ [.ref 5, .ref 0] [.inr (0, [.int 0, .int 0, .int 0, .int 0, .int 0, .int 0, .ref 1, .ref 2, .ref 3, .ref 4, .null, .null, .int 0]), .inl (0, 8, .inl (fun _ => 0)), .inl (0, 64, .inl (fun _ => 0)), .inl (0, 30, .inl (fun _ => 0)), .inl (0, 30, .inl (fun _ => 0)), .inl (0, 30, .inl (fun _ => 0))] (qup ad4 5 q5) 5 162
  replace hag := qup_ag (q := q5) hag (by decide)
  generalize qup ad4 5 q5 = ad5 at hag ⊢
  refine QG.putF (Wd' := [.inr (0, [.int 0, .int 0, .int 0, .int 0, .int 0, .int 0, .ref 1, .ref 2, .ref 3, .ref 4, .ref 5, .null, .int 0]), .inl (0, 8, .inl (fun _ => 0)), .inl (0, 64, .inl (fun _ => 0)), .inl (0, 30, .inl (fun _ => 0)), .inl (0, 30, .inl (fun _ => 0)), .inl (0, 30, .inl (fun _ => 0))]) (ty := (.array .int)) hX hin fl_X0_44 (by decide +kernel) (qd K_X0_init 39 rfl) rfl rfl (Nat.le_of_ble_eq_true rfl) (qfit_a _ _) rfl ?_
  refine QG.aload_n hX (qd K_X0_init 40 rfl) rfl rfl ?_
  refine QG.bipush hX (qd K_X0_init 41 rfl) rfl kb_30 ?_
  refine QG.newa (at0 := .int) (ty := .int) (t := 0) (N' := 30) (a0 := (30, .inl (fun _ => 0))) hX ac_int rfl (Or.inl ⟨rfl, rfl⟩) (fun _ => rfl) (fun _ => rfl) (by decide) (by decide +kernel) (by decide +kernel) (qd K_X0_init 42 rfl) rfl rfl rfl rfl (qrRs_all ⟨trivial, trivial, trivial, trivial, trivial, trivial, trivial⟩) (by rw [hR]; exact Nat.le_of_ble_eq_true rfl) (by rw [hR]; exact Nat.le_of_ble_eq_true rfl) (fun q6 => ?_)
  show QG X 1 _ _ 79 _ [.ref 6, .ref 0] [.inr (0, [.int 0, .int 0, .int 0, .int 0, .int 0, .int 0, .ref 1, .ref 2, .ref 3, .ref 4, .ref 5, .null, .int 0]), .inl (0, 8, .inl (fun _ => 0)), .inl (0, 64, .inl (fun _ => 0)), .inl (0, 30, .inl (fun _ => 0)), .inl (0, 30, .inl (fun _ => 0)), .inl (0, 30, .inl (fun _ => 0)), .inl (0, 30, .inl (fun _ => 0))] (qup ad5 6 q6) 6 192
  replace hag := qup_ag (q := q6) hag (by decide)
  generalize qup ad5 6 q6 = ad6 at hag ⊢
  refine QG.putF (Wd' := [.inr (0, [.int 0, .int 0, .int 0, .int 0, .int 0, .int 0, .ref 1, .ref 2, .ref 3, .ref 4, .ref 5, .ref 6, .int 0]), .inl (0, 8, .inl (fun _ => 0)), .inl (0, 64, .inl (fun _ => 0)), .inl (0, 30, .inl (fun _ => 0)), .inl (0, 30, .inl (fun _ => 0)), .inl (0, 30, .inl (fun _ => 0)), .inl (0, 30, .inl (fun _ => 0))]) (ty := (.array .int)) hX hin fl_X0_47 (by decide +kernel) (qd K_X0_init 43 rfl) rfl rfl (Nat.le_of_ble_eq_true rfl) (qfit_a _ _) rfl ?_
  refine QG.aload_n hX (qd K_X0_init 44 rfl) rfl rfl ?_
  refine QG.iconst hX (qd K_X0_init 45 rfl) rfl ki_0 ?_
  refine QG.putf (Wd' := [.inr (0, [.int 0, .int 0, .int 0, .int 0, .int 0, .int 0, .ref 1, .ref 2, .ref 3, .ref 4, .ref 5, .ref 6, .int 0]), .inl (0, 8, .inl (fun _ => 0)), .inl (0, 64, .inl (fun _ => 0)), .inl (0, 30, .inl (fun _ => 0)), .inl (0, 30, .inl (fun _ => 0)), .inl (0, 30, .inl (fun _ => 0)), .inl (0, 30, .inl (fun _ => 0))]) (ty := .int) hX fl_X0_50 (by decide +kernel) (qd K_X0_init 46 rfl) rfl rfl (Nat.le_of_ble_eq_true rfl) (qfit_i _) rfl ?_
  exact QG.vret hX (qd K_X0_init 47 rfl) rfl rfl hag


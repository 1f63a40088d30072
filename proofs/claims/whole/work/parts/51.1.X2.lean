set_option maxRecDepth 100000 in
set_option maxHeartbeats 4000000 in
theorem M_X2_init (l : Launch) : QM l yX2_init cX2_init 1 none 1 8 240 (fun _ => True) [.ref 0] [.inr (2, [.int 0, .null, .null, .null, .null, .null, .null, .null, .null, .int 0, .int 0, .int 0, .int 0])] (some ()) (fun _ => (none, [.inr (2, [.int 0, .ref 1, .ref 2, .ref 3, .ref 4, .ref 5, .ref 6, .ref 7, .ref 8, .int (-1), .int 0, .int 0, .int 0]), .inl (0, 30, .inl (fun _ => 0)), .inl (0, 30, .inl (fun _ => 0)), .inl (0, 30, .inl (fun _ => 0)), .inl (0, 30, .inl (fun _ => 0)), .inl (0, 30, .inl (fun _ => 0)), .inl (0, 30, .inl (fun _ => 0)), .inl (0, 30, .inl (fun _ => 0)), .inl (0, 30, .inl (fun _ => 0))])) := by
  refine QM.of (by decide +kernel) (Nat.le_of_ble_eq_true rfl) ?_
  rintro X ad hX _ _ hR hin
  have hag : ∀ k, (k < 1 ∨ 1 ≤ k) → ad k = ad k := fun _ _ => rfl
  refine QG.aload_n hX (qd K_X2_init 0 rfl) rfl rfl ?_
  refine QG.objInit hX oi_X2_3 (by decide) (qd K_X2_init 1 rfl) rfl (Nat.le_of_ble_eq_true rfl) ?_
  refine QG.aload_n hX (qd K_X2_init 2 rfl) rfl rfl ?_
  refine QG.iconst hX (qd K_X2_init 3 rfl) rfl ki_0 ?_
  refine QG.putf (Wd' := [.inr (2, [.int 0, .null, .null, .null, .null, .null, .null, .null, .null, .int 0, .int 0, .int 0, .int 0])]) (ty := .int) hX fl_X2_9 (by decide +kernel) (qd K_X2_init 4 rfl) rfl rfl (Nat.le_of_ble_eq_true rfl) (qfit_i _) rfl ?_
  refine QG.aload_n hX (qd K_X2_init 5 rfl) rfl rfl ?_
  refine QG.bipush hX (qd K_X2_init 6 rfl) rfl kb_30 ?_
  refine QG.newa (at0 := .int) (ty := .int) (t := 0) (N' := 30) (a0 := (30, .inl (fun _ => 0))) hX ac_int rfl (Or.inl ⟨rfl, rfl⟩) (fun _ => rfl) (fun _ => rfl) (by decide) (by decide +kernel) (by decide +kernel) (qd K_X2_init 7 rfl) rfl rfl rfl rfl (qrRs_all ⟨trivial, trivial⟩) (by rw [hR]; exact Nat.le_of_ble_eq_true rfl) (by rw [hR]; exact Nat.le_of_ble_eq_true rfl) (fun q1 => ?_)
  show QG X 1 _ _ 14 _ [.ref 1, .ref 0] [.inr (2, [.int 0, .null, .null, .null, .null, .null, .null, .null, .null, .int 0, .int 0, .int 0, .int 0]), .inl (0, 30, .inl (fun _ => 0))] (qup ad 1 q1) 1 30
  replace hag := qup_ag (q := q1) hag (by decide)
  generalize qup ad 1 q1 = ad1 at hag ⊢
  refine QG.putF (Wd' := [.inr (2, [.int 0, .ref 1, .null, .null, .null, .null, .null, .null, .null, .int 0, .int 0, .int 0, .int 0]), .inl (0, 30, .inl (fun _ => 0))]) (ty := (.array .int)) hX hin fl_X2_15 (by decide +kernel) (qd K_X2_init 8 rfl) rfl rfl (Nat.le_of_ble_eq_true rfl) (qfit_a _ _) rfl ?_
  refine QG.aload_n hX (qd K_X2_init 9 rfl) rfl rfl ?_
  refine QG.bipush hX (qd K_X2_init 10 rfl) rfl kb_30 ?_
  refine QG.newa (at0 := .int) (ty := .int) (t := 0) (N' := 30) (a0 := (30, .inl (fun _ => 0))) hX ac_int rfl (Or.inl ⟨rfl, rfl⟩) (fun _ => rfl) (fun _ => rfl) (by decide) (by decide +kernel) (by decide +kernel) (qd K_X2_init 11 rfl) rfl rfl rfl rfl (qrRs_all ⟨trivial, trivial, trivial⟩) (by rw [hR]; exact Nat.le_of_ble_eq_true rfl) (by rw [hR]; exact Nat.le_of_ble_eq_true rfl) (fun q2 => ?_)
  show QG X 1 _ _ 22 _ [.ref 2, .ref 0] [.inr (2, [.int 0, .ref 1, .null, .null, .null, .null, .null, .null, .null, .int 0, .int 0, .int 0, .int 0]), .inl (0, 30, .inl (fun _ => 0)), .inl (0, 30, .inl (fun _ => 0))] (qup ad1 2 q2) 2 60
  replace hag := qup_ag (q := q2) hag (by decide)
  generalize qup ad1 2 q2 = ad2 at hag ⊢
  refine QG.putF (Wd' := [.inr (2, [.int 0, .ref 1, .ref 2, .null, .null, .null, .null, .null, .null, .int 0, .int 0, .int 0, .int 0]), .inl (0, 30, .inl (fun _ => 0)), .inl (0, 30, .inl (fun _ => 0))]) (ty := (.array .int)) hX hin fl_X2_19 (by decide +kernel) (qd K_X2_init 12 rfl) rfl rfl (Nat.le_of_ble_eq_true rfl) (qfit_a _ _) rfl ?_
  refine QG.aload_n hX (qd K_X2_init 13 rfl) rfl rfl ?_
  refine QG.bipush hX (qd K_X2_init 14 rfl) rfl kb_30 ?_
  refine QG.newa (at0 := .int) (ty := .int) (t := 0) (N' := 30) (a0 := (30, .inl (fun _ => 0))) hX ac_int rfl (Or.inl ⟨rfl, rfl⟩) (fun _ => rfl) (fun _ => rfl) (by decide) (by decide +kernel) (by decide +kernel) (qd K_X2_init 15 rfl) rfl rfl rfl rfl (qrRs_all ⟨trivial, trivial, trivial, trivial⟩) (by rw [hR]; exact Nat.le_of_ble_eq_true rfl) (by rw [hR]; exact Nat.le_of_ble_eq_true rfl) (fun q3 => ?_)
  show QG X 1 _ _ 30 _ [.ref 3, .ref 0] [.inr (2, [.int 0, .ref 1, .ref 2, .null, .null, .null, .null, .null, .null, .int 0, .int 0, .int 0, .int 0]), .inl (0, 30, .inl (fun _ => 0)), .inl (0, 30, .inl (fun _ => 0)), .inl (0, 30, .inl (fun _ => 0))] (qup ad2 3 q3) 3 90
  replace hag := qup_ag (q := q3) hag (by decide)
  generalize qup ad2 3 q3 = ad3 at hag ⊢
  refine QG.putF (Wd' := [.inr (2, [.int 0, .ref 1, .ref 2, .ref 3, .null, .null, .null, .null, .null, .int 0, .int 0, .int 0, .int 0]), .inl (0, 30, .inl (fun _ => 0)), .inl (0, 30, .inl (fun _ => 0)), .inl (0, 30, .inl (fun _ => 0))]) (ty := (.array .int)) hX hin fl_X2_22 (by decide +kernel) (qd K_X2_init 16 rfl) rfl rfl (Nat.le_of_ble_eq_true rfl) (qfit_a _ _) rfl ?_
  refine QG.aload_n hX (qd K_X2_init 17 rfl) rfl rfl ?_
  refine QG.bipush hX (qd K_X2_init 18 rfl) rfl kb_30 ?_
  refine QG.newa (at0 := .int) (ty := .int) (t := 0) (N' := 30) (a0 := (30, .inl (fun _ => 0))) hX ac_int rfl (Or.inl ⟨rfl, rfl⟩) (fun _ => rfl) (fun _ => rfl) (by decide) (by decide +kernel) (by decide +kernel) (qd K_X2_init 19 rfl) rfl rfl rfl rfl (qrRs_all ⟨trivial, trivial, trivial, trivial, trivial⟩) (by rw [hR]; exact Nat.le_of_ble_eq_true rfl) (by rw [hR]; exact Nat.le_of_ble_eq_true rfl) (fun q4 => ?_)
  show QG X 1 _ _ 38 _ [.ref 4, .ref 0] [.inr (2, [.int 0, .ref 1, .ref 2, .ref 3, .null, .null, .null, .null, .null, .int 0, .int 0, .int 0, .int 0]), .inl (0, 30, .inl (fun _ => 0)), .inl (0, 30, .inl (fun _ => 0)), .inl (0, 30, .inl (fun _ => 0)), .inl (0, 30, .inl (fun _ => 0))] (qup ad3 4 q4) 4 120
  replace hag := qup_ag (q := q4) hag (by decide)
  generalize qup ad3 4 q4 = ad4 at hag ⊢
  refine QG.putF (Wd' := [.inr (2, [.int 0, .ref 1, .ref 2, .ref 3, .ref 4, .null, .null, .null, .null, .int 0, .int 0, .int 0, .int 0]), .inl (0, 30, .inl (fun _ => 0)), .inl (0, 30, .inl (fun _ => 0)), .inl (0, 30, .inl (fun _ => 0)), .inl (0, 30, .inl (fun _ => 0))]) (ty := (.array .int)) hX hin fl_X2_25 (by decide +kernel) (qd K_X2_init 20 rfl) rfl rfl (Nat.le_of_ble_eq_true rfl) (qfit_a _ _) rfl ?_
  refine QG.aload_n hX (qd K_X2_init 21 rfl) rfl rfl ?_
  refine QG.bipush hX (qd K_X2_init 22 rfl) rfl kb_30 ?_
  refine QG.newa (at0 := .int) (ty := .int) (t := 0) (N' := 30) (a0 := (30, .inl (fun _ => 0))) hX ac_int rfl (Or.inl ⟨rfl, rfl⟩) (fun _ => rfl) (fun _ => rfl) (by decide) (by decide +kernel) (by decide +kernel) (qd K_X2_init 23 rfl) rfl rfl rfl rfl (qrRs_all ⟨trivial, trivial, trivial, trivial, trivial, trivial⟩) (by rw [hR]; exact Nat.le_of_ble_eq_true rfl) (by rw [hR]; exact Nat.le_of_ble_eq_true rfl) (fun q5 => ?_)
  show QG X 1 _ _ 46 _ [.ref 5, .ref 0] [.inr (2, [.int 0, .ref 1, .ref 2, .ref 3, .ref 4, .null, .null, .null, .null, .int 0, .int 0, .int 0, .int 0]), .inl (0, 30, .inl (fun _ => 0)), .inl (0, 30, .inl (fun _ => 0)), .inl (0, 30, .inl (fun _ => 0)), .inl (0, 30, .inl (fun _ => 0)), .inl (0, 30, .inl (fun _ => 0))] (qup ad4 5 q5) 5 150
  replace hag := qup_ag (q := q5) hag (by decide)
  generalize qup ad4 5 q5 = ad5 at hag ⊢
  refine QG.putF (Wd' := [.inr (2, [.int 0, .ref 1, .ref 2, .ref 3, .ref 4, .ref 5, .null, .null, .null, .int 0, .int 0, .int 0, .int 0]), .inl (0, 30, .inl (fun _ => 0)), .inl (0, 30, .inl (fun _ => 0)), .inl (0, 30, .inl (fun _ => 0)), .inl (0, 30, .inl (fun _ => 0)), .inl (0, 30, .inl (fun _ => 0))]) (ty := (.array .int)) hX hin fl_X2_28 (by decide +kernel) (qd K_X2_init 24 rfl) rfl rfl (Nat.le_of_ble_eq_true rfl) (qfit_a _ _) rfl ?_
  refine QG.aload_n hX (qd K_X2_init 25 rfl) rfl rfl ?_
  refine QG.bipush hX (qd K_X2_init 26 rfl) rfl kb_30 ?_
  refine QG.newa (at0 := .int) (ty := .int) (t := 0) (N' := 30) (a0 := (30, .inl (fun _ => 0))) hX ac_int rfl (Or.inl ⟨rfl, rfl⟩) (fun _ => rfl) (fun _ => rfl) (by decide) (by decide +kernel) (by decide +kernel) (qd K_X2_init 27 rfl) rfl rfl rfl rfl (qrRs_all ⟨trivial, trivial, trivial, trivial, trivial, trivial, trivial⟩) (by rw [hR]; exact Nat.le_of_ble_eq_true rfl) (by rw [hR]; exact Nat.le_of_ble_eq_true rfl) (fun q6 => ?_)
  show QG X 1 _ _ 54 _ [.ref 6, .ref 0] [.inr (2, [.int 0, .ref 1, .ref 2, .ref 3, .ref 4, .ref 5, .null, .null, .null, .int 0, .int 0, .int 0, .int 0]), .inl (0, 30, .inl (fun _ => 0)), .inl (0, 30, .inl (fun _ => 0)), .inl (0, 30, .inl (fun _ => 0)), .inl (0, 30, .inl (fun _ => 0)), .inl (0, 30, .inl (fun _ => 0)), .inl (0, 30, .inl (fun _ => 0))] (qup ad5 6 q6) 6 180
  replace hag := qup_ag (q := q6) hag (by decide)
  generalize qup ad5 6 q6 = ad6 at hag ⊢
  refine QG.putF (Wd' := [.inr (2, [.int 0, .ref 1, .ref 2, .ref 3, .ref 4, .ref 5, .ref 6, .null, .null, .int 0, .int 0, .int 0, .int 0]), .inl (0, 30, .inl (fun _ => 0)), .inl (0, 30, .inl (fun _ => 0)), .inl (0, 30, .inl (fun _ => 0)), .inl (0, 30, .inl (fun _ => 0)), .inl (0, 30, .inl (fun _ => 0)), .inl (0, 30, .inl (fun _ => 0))]) (ty := (.array .int)) hX hin fl_X2_31 (by decide +kernel) (qd K_X2_init 28 rfl) rfl rfl (Nat.le_of_ble_eq_true rfl) (qfit_a _ _) rfl ?_
  refine QG.aload_n hX (qd K_X2_init 29 rfl) rfl rfl ?_
  refine QG.bipush hX (qd K_X2_init 30 rfl) rfl kb_30 ?_
  refine QG.newa (at0 := .int) (ty := .int) (t := 0) (N' := 30) (a0 := (30, .inl (fun _ => 0))) hX ac_int rfl (Or.inl ⟨rfl, rfl⟩) (fun _ => rfl) (fun _ => rfl) (by decide) (by decide +kernel) (by decide +kernel) (qd K_X2_init 31 rfl) rfl rfl rfl rfl (qrRs_all ⟨trivial, trivial, trivial, trivial, trivial, trivial, trivial, trivial⟩) (by rw [hR]; exact Nat.le_of_ble_eq_true rfl) (by rw [hR]; exact Nat.le_of_ble_eq_true rfl) (fun q7 => ?_)
  show QG X 1 _ _ 62 _ [.ref 7, .ref 0] [.inr (2, [.int 0, .ref 1, .ref 2, .ref 3, .ref 4, .ref 5, .ref 6, .null, .null, .int 0, .int 0, .int 0, .int 0]), .inl (0, 30, .inl (fun _ => 0)), .inl (0, 30, .inl (fun _ => 0)), .inl (0, 30, .inl (fun _ => 0)), .inl (0, 30, .inl (fun _ => 0)), .inl (0, 30, .inl (fun _ => 0)), .inl (0, 30, .inl (fun _ => 0)), .inl (0, 30, .inl (fun _ => 0))] (qup ad6 7 q7) 7 210
  replace hag := qup_ag (q := q7) hag (by decide)
  generalize qup ad6 7 q7 = ad7 at hag ⊢
  refine QG.putF (Wd' := [.inr (2, [.int 0, .ref 1, .ref 2, .ref 3, .ref 4, .ref 5, .ref 6, .ref 7, .null, .int 0, .int 0, .int 0, .int 0]), .inl (0, 30, .inl (fun _ => 0)), .inl (0, 30, .inl (fun _ => 0)), .inl (0, 30, .inl (fun _ => 0)), .inl (0, 30, .inl (fun _ => 0)), .inl (0, 30, .inl (fun _ => 0)), .inl (0, 30, .inl (fun _ => 0)), .inl (0, 30, .inl (fun _ => 0))]) (ty := (.array .int)) hX hin fl_X2_34 (by decide +kernel) (qd K_X2_init 32 rfl) rfl rfl (Nat.le_of_ble_eq_true rfl) (qfit_a _ _) rfl ?_
  refine QG.aload_n hX (qd K_X2_init 33 rfl) rfl rfl ?_
  refine QG.bipush hX (qd K_X2_init 34 rfl) rfl kb_30 ?_
  refine QG.newa (at0 := .int) (ty := .int) (t := 0) (N' := 30) (a0 := (30, .inl (fun _ => 0))) hX ac_int rfl (Or.inl ⟨rfl, rfl⟩) (fun _ => rfl) (fun _ => rfl) (by decide) (by decide +kernel) (by decide +kernel) (qd K_X2_init 35 rfl) rfl rfl rfl rfl (qrRs_all ⟨trivial, trivial, trivial, trivial, trivial, trivial, trivial, trivial, trivial⟩) (by rw [hR]; exact Nat.le_of_ble_eq_true rfl) (by rw [hR]; exact Nat.le_of_ble_eq_true rfl) (fun q8 => ?_)
  show QG X 1 _ _ 70 _ [.ref 8, .ref 0] [.inr (2, [.int 0, .ref 1, .ref 2, .ref 3, .ref 4, .ref 5, .ref 6, .ref 7, .null, .int 0, .int 0, .int 0, .int 0]), .inl (0, 30, .inl (fun _ => 0)), .inl (0, 30, .inl (fun _ => 0)), .inl (0, 30, .inl (fun _ => 0)), .inl (0, 30, .inl (fun _ => 0)), .inl (0, 30, .inl (fun _ => 0)), .inl (0, 30, .inl (fun _ => 0)), .inl (0, 30, .inl (fun _ => 0)), .inl (0, 30, .inl (fun _ => 0))] (qup ad7 8 q8) 8 240
  replace hag := qup_ag (q := q8) hag (by decide)
  generalize qup ad7 8 q8 = ad8 at hag ⊢
  refine QG.putF (Wd' := [.inr (2, [.int 0, .ref 1, .ref 2, .ref 3, .ref 4, .ref 5, .ref 6, .ref 7, .ref 8, .int 0, .int 0, .int 0, .int 0]), .inl (0, 30, .inl (fun _ => 0)), .inl (0, 30, .inl (fun _ => 0)), .inl (0, 30, .inl (fun _ => 0)), .inl (0, 30, .inl (fun _ => 0)), .inl (0, 30, .inl (fun _ => 0)), .inl (0, 30, .inl (fun _ => 0)), .inl (0, 30, .inl (fun _ => 0)), .inl (0, 30, .inl (fun _ => 0))]) (ty := (.array .int)) hX hin fl_X2_37 (by decide +kernel) (qd K_X2_init 36 rfl) rfl rfl (Nat.le_of_ble_eq_true rfl) (qfit_a _ _) rfl ?_
  refine QG.aload_n hX (qd K_X2_init 37 rfl) rfl rfl ?_
  refine QG.iconst hX (qd K_X2_init 38 rfl) rfl ki_m1 ?_
  refine QG.putf (Wd' := [.inr (2, [.int 0, .ref 1, .ref 2, .ref 3, .ref 4, .ref 5, .ref 6, .ref 7, .ref 8, .int (-1), .int 0, .int 0, .int 0]), .inl (0, 30, .inl (fun _ => 0)), .inl (0, 30, .inl (fun _ => 0)), .inl (0, 30, .inl (fun _ => 0)), .inl (0, 30, .inl (fun _ => 0)), .inl (0, 30, .inl (fun _ => 0)), .inl (0, 30, .inl (fun _ => 0)), .inl (0, 30, .inl (fun _ => 0)), .inl (0, 30, .inl (fun _ => 0))]) (ty := .int) hX fl_X2_40 (by decide +kernel) (qd K_X2_init 39 rfl) rfl rfl (Nat.le_of_ble_eq_true rfl) (qfit_i _) rfl ?_
  refine QG.aload_n hX (qd K_X2_init 40 rfl) rfl rfl ?_
  refine QG.iconst hX (qd K_X2_init 41 rfl) rfl ki_0 ?_
  refine QG.putf (Wd' := [.inr (2, [.int 0, .ref 1, .ref 2, .ref 3, .ref 4, .ref 5, .ref 6, .ref 7, .ref 8, .int (-1), .int 0, .int 0, .int 0]), .inl (0, 30, .inl (fun _ => 0)), .inl (0, 30, .inl (fun _ => 0)), .inl (0, 30, .inl (fun _ => 0)), .inl (0, 30, .inl (fun _ => 0)), .inl (0, 30, .inl (fun _ => 0)), .inl (0, 30, .inl (fun _ => 0)), .inl (0, 30, .inl (fun _ => 0)), .inl (0, 30, .inl (fun _ => 0))]) (ty := .int) hX fl_X2_43 (by decide +kernel) (qd K_X2_init 42 rfl) rfl rfl (Nat.le_of_ble_eq_true rfl) (qfit_i _) rfl ?_
  refine QG.aload_n hX (qd K_X2_init 43 rfl) rfl rfl ?_
  refine QG.iconst hX (qd K_X2_init 44 rfl) rfl ki_0 ?_
  refine QG.putf (Wd' := [.inr (2, [.int 0, .ref 1, .ref 2, .ref 3, .ref 4, .ref 5, .ref 6, .ref 7, .ref 8, .int (-1), .int 0, .int 0, .int 0]), .inl (0, 30, .inl (fun _ => 0)), .inl (0, 30, .inl (fun _ => 0)), .inl (0, 30, .inl (fun _ => 0)), .inl (0, 30, .inl (fun _ => 0)), .inl (0, 30, .inl (fun _ => 0)), .inl (0, 30, .inl (fun _ => 0)), .inl (0, 30, .inl (fun _ => 0)), .inl (0, 30, .inl (fun _ => 0))]) (ty := .int) hX fl_X2_46 (by decide +kernel) (qd K_X2_init 45 rfl) rfl rfl (Nat.le_of_ble_eq_true rfl) (qfit_i _) rfl ?_
  refine QG.aload_n hX (qd K_X2_init 46 rfl) rfl rfl ?_
  refine QG.iconst hX (qd K_X2_init 47 rfl) rfl ki_0 ?_
  refine QG.putf (Wd' := [.inr (2, [.int 0, .ref 1, .ref 2, .ref 3, .ref 4, .ref 5, .ref 6, .ref 7, .ref 8, .int (-1), .int 0, .int 0, .int 0]), .inl (0, 30, .inl (fun _ => 0)), .inl (0, 30, .inl (fun _ => 0)), .inl (0, 30, .inl (fun _ => 0)), .inl (0, 30, .inl (fun _ => 0)), .inl (0, 30, .inl (fun _ => 0)), .inl (0, 30, .inl (fun _ => 0)), .inl (0, 30, .inl (fun _ => 0)), .inl (0, 30, .inl (fun _ => 0))]) (ty := .int) hX fl_X2_49 (by decide +kernel) (qd K_X2_init 48 rfl) rfl rfl (Nat.le_of_ble_eq_true rfl) (qfit_i _) rfl ?_
  exact QG.vret hX (qd K_X2_init 49 rfl) rfl rfl hag


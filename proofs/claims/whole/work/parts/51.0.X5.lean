set_option maxRecDepth 100000 in
set_option maxHeartbeats 4000000 in
theorem M_X5_init (l : Launch) : QM l yX5_init cX5_init 1 none 1 4 276 (fun _ => True) [.ref 0] [.inr (5, [.null, .null, .null, .null, .int 0, .int 0])] (some ()) (fun _ => (none, [.inr (5, [.ref 1, .ref 2, .ref 3, .ref 4, .int 0, .int 1]), .inl (0, 30, .inl (fun _ => 0)), .inl (0, 30, .inl (fun _ => 0)), .inl (0, 210, .inl (fun _ => 0)), .inl (0, 6, .inl (upd (upd (upd (upd (upd (upd (fun _ => 0) (0 : Int32).toNatClampNeg 0) (1 : Int32).toNatClampNeg 0) (2 : Int32).toNatClampNeg 15) (3 : Int32).toNatClampNeg 8) (4 : Int32).toNatClampNeg 1) (5 : Int32).toNatClampNeg 0))])) := by
  refine QM.of (by decide +kernel) (Nat.le_of_ble_eq_true rfl) ?_
  rintro X ad hX _ _ hR hin
  have hag : ∀ k, (k < 1 ∨ 1 ≤ k) → ad k = ad k := fun _ _ => rfl
  refine QG.aload_n hX (qd K_X5_init 0 rfl) rfl rfl ?_
  refine QG.objInit hX oi_X5_3 (by decide) (qd K_X5_init 1 rfl) rfl (Nat.le_of_ble_eq_true rfl) ?_
  refine QG.aload_n hX (qd K_X5_init 2 rfl) rfl rfl ?_
  refine QG.bipush hX (qd K_X5_init 3 rfl) rfl kb_30 ?_
  refine QG.newa (at0 := .int) (ty := .int) (t := 0) (N' := 30) (a0 := (30, .inl (fun _ => 0))) hX ac_int rfl (Or.inl ⟨rfl, rfl⟩) (fun _ => rfl) (fun _ => rfl) (by decide) (by decide +kernel) (by decide +kernel) (qd K_X5_init 4 rfl) rfl rfl rfl rfl (qrRs_all ⟨trivial, trivial⟩) (by rw [hR]; exact Nat.le_of_ble_eq_true rfl) (by rw [hR]; exact Nat.le_of_ble_eq_true rfl) (fun q1 => ?_)
  show QG X 1 _ _ 9 _ [.ref 1, .ref 0] [.inr (5, [.null, .null, .null, .null, .int 0, .int 0]), .inl (0, 30, .inl (fun _ => 0))] (qup ad 1 q1) 1 30
  replace hag := qup_ag (q := q1) hag (by decide)
  generalize qup ad 1 q1 = ad1 at hag ⊢
  refine QG.putF (Wd' := [.inr (5, [.ref 1, .null, .null, .null, .int 0, .int 0]), .inl (0, 30, .inl (fun _ => 0))]) (ty := (.array .int)) hX hin fl_X5_9 (by decide +kernel) (qd K_X5_init 5 rfl) rfl rfl (Nat.le_of_ble_eq_true rfl) (qfit_a _ _) rfl ?_
  refine QG.aload_n hX (qd K_X5_init 6 rfl) rfl rfl ?_
  refine QG.bipush hX (qd K_X5_init 7 rfl) rfl kb_30 ?_
  refine QG.newa (at0 := .int) (ty := .int) (t := 0) (N' := 30) (a0 := (30, .inl (fun _ => 0))) hX ac_int rfl (Or.inl ⟨rfl, rfl⟩) (fun _ => rfl) (fun _ => rfl) (by decide) (by decide +kernel) (by decide +kernel) (qd K_X5_init 8 rfl) rfl rfl rfl rfl (qrRs_all ⟨trivial, trivial, trivial⟩) (by rw [hR]; exact Nat.le_of_ble_eq_true rfl) (by rw [hR]; exact Nat.le_of_ble_eq_true rfl) (fun q2 => ?_)
  show QG X 1 _ _ 17 _ [.ref 2, .ref 0] [.inr (5, [.ref 1, .null, .null, .null, .int 0, .int 0]), .inl (0, 30, .inl (fun _ => 0)), .inl (0, 30, .inl (fun _ => 0))] (qup ad1 2 q2) 2 60
  replace hag := qup_ag (q := q2) hag (by decide)
  generalize qup ad1 2 q2 = ad2 at hag ⊢
  refine QG.putF (Wd' := [.inr (5, [.ref 1, .ref 2, .null, .null, .int 0, .int 0]), .inl (0, 30, .inl (fun _ => 0)), .inl (0, 30, .inl (fun _ => 0))]) (ty := (.array .int)) hX hin fl_X5_15 (by decide +kernel) (qd K_X5_init 9 rfl) rfl rfl (Nat.le_of_ble_eq_true rfl) (qfit_a _ _) rfl ?_
  refine QG.aload_n hX (qd K_X5_init 10 rfl) rfl rfl ?_
  refine QG.sipush hX (qd K_X5_init 11 rfl) rfl ks_210 ?_
  refine QG.newa (at0 := .int) (ty := .int) (t := 0) (N' := 210) (a0 := (210, .inl (fun _ => 0))) hX ac_int rfl (Or.inl ⟨rfl, rfl⟩) (fun _ => rfl) (fun _ => rfl) (by decide) (by decide +kernel) (by decide +kernel) (qd K_X5_init 12 rfl) rfl rfl rfl rfl (qrRs_all ⟨trivial, trivial, trivial, trivial⟩) (by rw [hR]; exact Nat.le_of_ble_eq_true rfl) (by rw [hR]; exact Nat.le_of_ble_eq_true rfl) (fun q3 => ?_)
  show QG X 1 _ _ 26 _ [.ref 3, .ref 0] [.inr (5, [.ref 1, .ref 2, .null, .null, .int 0, .int 0]), .inl (0, 30, .inl (fun _ => 0)), .inl (0, 30, .inl (fun _ => 0)), .inl (0, 210, .inl (fun _ => 0))] (qup ad2 3 q3) 3 270
  replace hag := qup_ag (q := q3) hag (by decide)
  generalize qup ad2 3 q3 = ad3 at hag ⊢
  refine QG.putF (Wd' := [.inr (5, [.ref 1, .ref 2, .ref 3, .null, .int 0, .int 0]), .inl (0, 30, .inl (fun _ => 0)), .inl (0, 30, .inl (fun _ => 0)), .inl (0, 210, .inl (fun _ => 0))]) (ty := (.array .int)) hX hin fl_X5_18 (by decide +kernel) (qd K_X5_init 13 rfl) rfl rfl (Nat.le_of_ble_eq_true rfl) (qfit_a _ _) rfl ?_
  refine QG.aload_n hX (qd K_X5_init 14 rfl) rfl rfl ?_
  refine QG.bipush hX (qd K_X5_init 15 rfl) rfl kb_6 ?_
  refine QG.newa (at0 := .int) (ty := .int) (t := 0) (N' := 6) (a0 := (6, .inl (fun _ => 0))) hX ac_int rfl (Or.inl ⟨rfl, rfl⟩) (fun _ => rfl) (fun _ => rfl) (by decide) (by decide +kernel) (by decide +kernel) (qd K_X5_init 16 rfl) rfl rfl rfl rfl (qrRs_all ⟨trivial, trivial, trivial, trivial, trivial⟩) (by rw [hR]; exact Nat.le_of_ble_eq_true rfl) (by rw [hR]; exact Nat.le_of_ble_eq_true rfl) (fun q4 => ?_)
  show QG X 1 _ _ 34 _ [.ref 4, .ref 0] [.inr (5, [.ref 1, .ref 2, .ref 3, .null, .int 0, .int 0]), .inl (0, 30, .inl (fun _ => 0)), .inl (0, 30, .inl (fun _ => 0)), .inl (0, 210, .inl (fun _ => 0)), .inl (0, 6, .inl (fun _ => 0))] (qup ad3 4 q4) 4 276
  replace hag := qup_ag (q := q4) hag (by decide)
  generalize qup ad3 4 q4 = ad4 at hag ⊢
  refine QG.dup hX (qd K_X5_init 17 rfl) rfl rfl ?_
  refine QG.iconst hX (qd K_X5_init 18 rfl) rfl ki_0 ?_
  refine QG.iconst hX (qd K_X5_init 19 rfl) rfl ki_0 ?_
  refine QG.ofck (b := inb 0 6) (by decide +kernel) (QG.iast (Wd' := [.inr (5, [.ref 1, .ref 2, .ref 3, .null, .int 0, .int 0]), .inl (0, 30, .inl (fun _ => 0)), .inl (0, 30, .inl (fun _ => 0)), .inl (0, 210, .inl (fun _ => 0)), .inl (0, 6, .inl (upd (fun _ => 0) (0 : Int32).toNatClampNeg 0))]) hX (qd K_X5_init 20 rfl) rfl rfl rfl ?_)
  refine QG.dup hX (qd K_X5_init 21 rfl) rfl rfl ?_
  refine QG.iconst hX (qd K_X5_init 22 rfl) rfl ki_1 ?_
  refine QG.iconst hX (qd K_X5_init 23 rfl) rfl ki_0 ?_
  refine QG.ofck (b := inb 1 6) (by decide +kernel) (QG.iast (Wd' := [.inr (5, [.ref 1, .ref 2, .ref 3, .null, .int 0, .int 0]), .inl (0, 30, .inl (fun _ => 0)), .inl (0, 30, .inl (fun _ => 0)), .inl (0, 210, .inl (fun _ => 0)), .inl (0, 6, .inl (upd (upd (fun _ => 0) (0 : Int32).toNatClampNeg 0) (1 : Int32).toNatClampNeg 0))]) hX (qd K_X5_init 24 rfl) rfl rfl rfl ?_)
  refine QG.dup hX (qd K_X5_init 25 rfl) rfl rfl ?_
  refine QG.iconst hX (qd K_X5_init 26 rfl) rfl ki_2 ?_
  refine QG.bipush hX (qd K_X5_init 27 rfl) rfl kb_15 ?_
  refine QG.ofck (b := inb 2 6) (by decide +kernel) (QG.iast (Wd' := [.inr (5, [.ref 1, .ref 2, .ref 3, .null, .int 0, .int 0]), .inl (0, 30, .inl (fun _ => 0)), .inl (0, 30, .inl (fun _ => 0)), .inl (0, 210, .inl (fun _ => 0)), .inl (0, 6, .inl (upd (upd (upd (fun _ => 0) (0 : Int32).toNatClampNeg 0) (1 : Int32).toNatClampNeg 0) (2 : Int32).toNatClampNeg 15))]) hX (qd K_X5_init 28 rfl) rfl rfl rfl ?_)
  refine QG.dup hX (qd K_X5_init 29 rfl) rfl rfl ?_
  refine QG.iconst hX (qd K_X5_init 30 rfl) rfl ki_3 ?_
  refine QG.bipush hX (qd K_X5_init 31 rfl) rfl kb_8 ?_
  refine QG.ofck (b := inb 3 6) (by decide +kernel) (QG.iast (Wd' := [.inr (5, [.ref 1, .ref 2, .ref 3, .null, .int 0, .int 0]), .inl (0, 30, .inl (fun _ => 0)), .inl (0, 30, .inl (fun _ => 0)), .inl (0, 210, .inl (fun _ => 0)), .inl (0, 6, .inl (upd (upd (upd (upd (fun _ => 0) (0 : Int32).toNatClampNeg 0) (1 : Int32).toNatClampNeg 0) (2 : Int32).toNatClampNeg 15) (3 : Int32).toNatClampNeg 8))]) hX (qd K_X5_init 32 rfl) rfl rfl rfl ?_)
  refine QG.dup hX (qd K_X5_init 33 rfl) rfl rfl ?_
  refine QG.iconst hX (qd K_X5_init 34 rfl) rfl ki_4 ?_
  refine QG.iconst hX (qd K_X5_init 35 rfl) rfl ki_1 ?_
  refine QG.ofck (b := inb 4 6) (by decide +kernel) (QG.iast (Wd' := [.inr (5, [.ref 1, .ref 2, .ref 3, .null, .int 0, .int 0]), .inl (0, 30, .inl (fun _ => 0)), .inl (0, 30, .inl (fun _ => 0)), .inl (0, 210, .inl (fun _ => 0)), .inl (0, 6, .inl (upd (upd (upd (upd (upd (fun _ => 0) (0 : Int32).toNatClampNeg 0) (1 : Int32).toNatClampNeg 0) (2 : Int32).toNatClampNeg 15) (3 : Int32).toNatClampNeg 8) (4 : Int32).toNatClampNeg 1))]) hX (qd K_X5_init 36 rfl) rfl rfl rfl ?_)
  refine QG.dup hX (qd K_X5_init 37 rfl) rfl rfl ?_
  refine QG.iconst hX (qd K_X5_init 38 rfl) rfl ki_5 ?_
  refine QG.iconst hX (qd K_X5_init 39 rfl) rfl ki_0 ?_
  refine QG.ofck (b := inb 5 6) (by decide +kernel) (QG.iast (Wd' := [.inr (5, [.ref 1, .ref 2, .ref 3, .null, .int 0, .int 0]), .inl (0, 30, .inl (fun _ => 0)), .inl (0, 30, .inl (fun _ => 0)), .inl (0, 210, .inl (fun _ => 0)), .inl (0, 6, .inl (upd (upd (upd (upd (upd (upd (fun _ => 0) (0 : Int32).toNatClampNeg 0) (1 : Int32).toNatClampNeg 0) (2 : Int32).toNatClampNeg 15) (3 : Int32).toNatClampNeg 8) (4 : Int32).toNatClampNeg 1) (5 : Int32).toNatClampNeg 0))]) hX (qd K_X5_init 40 rfl) rfl rfl rfl ?_)
  refine QG.putF (Wd' := [.inr (5, [.ref 1, .ref 2, .ref 3, .ref 4, .int 0, .int 0]), .inl (0, 30, .inl (fun _ => 0)), .inl (0, 30, .inl (fun _ => 0)), .inl (0, 210, .inl (fun _ => 0)), .inl (0, 6, .inl (upd (upd (upd (upd (upd (upd (fun _ => 0) (0 : Int32).toNatClampNeg 0) (1 : Int32).toNatClampNeg 0) (2 : Int32).toNatClampNeg 15) (3 : Int32).toNatClampNeg 8) (4 : Int32).toNatClampNeg 1) (5 : Int32).toNatClampNeg 0))]) (ty := (.array .int)) hX hin fl_X5_21 (by decide +kernel) (qd K_X5_init 41 rfl) rfl rfl (Nat.le_of_ble_eq_true rfl) (qfit_a _ _) rfl ?_
  refine QG.aload_n hX (qd K_X5_init 42 rfl) rfl rfl ?_
  refine QG.iconst hX (qd K_X5_init 43 rfl) rfl ki_0 ?_
  refine QG.putf (Wd' := [.inr (5, [.ref 1, .ref 2, .ref 3, .ref 4, .int 0, .int 0]), .inl (0, 30, .inl (fun _ => 0)), .inl (0, 30, .inl (fun _ => 0)), .inl (0, 210, .inl (fun _ => 0)), .inl (0, 6, .inl (upd (upd (upd (upd (upd (upd (fun _ => 0) (0 : Int32).toNatClampNeg 0) (1 : Int32).toNatClampNeg 0) (2 : Int32).toNatClampNeg 15) (3 : Int32).toNatClampNeg 8) (4 : Int32).toNatClampNeg 1) (5 : Int32).toNatClampNeg 0))]) (ty := .int) hX fl_X5_24 (by decide +kernel) (qd K_X5_init 44 rfl) rfl rfl (Nat.le_of_ble_eq_true rfl) (qfit_i _) rfl ?_
  refine QG.aload_n hX (qd K_X5_init 45 rfl) rfl rfl ?_
  refine QG.iconst hX (qd K_X5_init 46 rfl) rfl ki_1 ?_
  refine QG.putf (Wd' := [.inr (5, [.ref 1, .ref 2, .ref 3, .ref 4, .int 0, .int 1]), .inl (0, 30, .inl (fun _ => 0)), .inl (0, 30, .inl (fun _ => 0)), .inl (0, 210, .inl (fun _ => 0)), .inl (0, 6, .inl (upd (upd (upd (upd (upd (upd (fun _ => 0) (0 : Int32).toNatClampNeg 0) (1 : Int32).toNatClampNeg 0) (2 : Int32).toNatClampNeg 15) (3 : Int32).toNatClampNeg 8) (4 : Int32).toNatClampNeg 1) (5 : Int32).toNatClampNeg 0))]) (ty := .boolean) hX fl_X5_28 (by decide +kernel) (qd K_X5_init 47 rfl) rfl rfl (Nat.le_of_ble_eq_true rfl) qfit_z1 rfl ?_
  exact QG.vret hX (qd K_X5_init 48 rfl) rfl rfl hag


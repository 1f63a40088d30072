theorem vp_6 {i : Int32} (h0 : ¬ i < 0) (h1 : ¬ 6 ≤ i) : vp_in i 6 := by
  have h : ¬ i.toInt < (0 : Int32).toInt := fun q => h0 (Int32.lt_iff_toInt_lt.mpr q)
  have h' : ¬ (6 : Int32).toInt ≤ i.toInt := fun q => h1 (Int32.le_iff_toInt_le.mpr q)
  have e0 : (0 : Int32).toInt = 0 := by decide
  have e6 : (6 : Int32).toInt = 6 := by decide
  rw [vp_in_iff]
  omega
theorem vp_4 {i : Int32} (h0 : ¬ i < 0) (h1 : ¬ 4 ≤ i) : vp_in i 4 := by
  have h : ¬ i.toInt < (0 : Int32).toInt := fun q => h0 (Int32.lt_iff_toInt_lt.mpr q)
  have h' : ¬ (4 : Int32).toInt ≤ i.toInt := fun q => h1 (Int32.le_iff_toInt_le.mpr q)
  have e0 : (0 : Int32).toInt = 0 := by decide
  have e6 : (4 : Int32).toInt = 4 := by decide
  rw [vp_in_iff]
  omega
theorem QG.ifT {α : Type} {X : QX} {nL : Nat} {Q : α → State → Prop} {oT oF : Option α} {pc : Nat} {lv : LV} {st : List Value} {Wd : List AC} {ad : Nat → Nat} {cells slots : Nat} {c : Prop} {hc : Decidable c} (h : c) (g : QG X nL Q (if c then oT else oF) pc lv st Wd ad cells slots) : QG X nL Q oT pc lv st Wd ad cells slots := by
  rw [if_pos h] at g; exact g
theorem QG.ifF {α : Type} {X : QX} {nL : Nat} {Q : α → State → Prop} {oT oF : Option α} {pc : Nat} {lv : LV} {st : List Value} {Wd : List AC} {ad : Nat → Nat} {cells slots : Nat} {c : Prop} {hc : Decidable c} (h : ¬ c) (g : QG X nL Q (if c then oT else oF) pc lv st Wd ad cells slots) : QG X nL Q oF pc lv st Wd ad cells slots := by
  rw [if_neg h] at g; exact g
theorem M_rowOf_ok (l : Launch) {Wd : List AC} {fs : List Value} {rf : Nat → Option Nat} {row : Int32} {i r : Nat} (hW0 : Wd[0]? = some (.inr (7, fs))) (hf : fs[0]? = some (.ref i)) (hW1 : Wd[i]? = some (.inl (3, 6, .inr (.inr (.inr (.inr rf)))))) (h0 : ¬ row < 0) (h1 : ¬ 6 ≤ row) (hr : rf row.toNatClampNeg = some r) : QM l yX7_rowOf cX7_rowOf 2 (some (.object "QuireDesk$Row")) 0 0 0 (fun _ => True) [.ref 0, .int row] Wd (some ()) (fun _ => (some (.ref r), Wd)) := by
  refine QM.of (by decide +kernel) (Nat.le_of_ble_eq_true rfl) ?_
  rintro X ad hX _ _ _ _
  refine QG.iload_n hX (qd K_X7_rowOf 0 rfl) rfl rfl ?_
  refine QG.ifF h0 (QG.if_lt (tgt := 10) (oT := none) hX (qd K_X7_rowOf 1 rfl) rfl (by decide) QG.nothing ?_)
  refine QG.iload_n hX (qd K_X7_rowOf 2 rfl) rfl rfl ?_
  refine QG.bipush hX (qd K_X7_rowOf 3 rfl) rfl kb_6 ?_
  refine QG.ifT (Int32.not_le.mp h1) (QG.icmp_lt (tgt := 14) (oF := none) hX (qd K_X7_rowOf 4 rfl) rfl (by decide) ?_ QG.nothing)
  refine QG.aload_n hX (qd K_X7_rowOf 7 rfl) rfl rfl ?_
  refine QG.getf hX fl_X7_11 (qd K_X7_rowOf 8 rfl) rfl hW0 hf ?_
  refine QG.iload_n hX (qd K_X7_rowOf 9 rfl) rfl rfl ?_
  refine QG.aald (v := .ref r) (C := RX5) hX (qd K_X7_rowOf 10 rfl) rfl hW1 (Or.inl ⟨rfl, rfl⟩) (vp_6 h0 h1) (by rw [hr]; rfl) ?_
  exact QG.aret hX (qd K_X7_rowOf 11 rfl) rfl (Or.inr ⟨_, rfl⟩) rfl (fun _ _ => rfl)
theorem M_rowOf_no (l : Launch) {Wd : List AC} {row : Int32} (hr : row < 0 ∨ 6 ≤ row) : QM l yX7_rowOf cX7_rowOf 2 (some (.object "QuireDesk$Row")) 0 0 0 (fun _ => True) [.ref 0, .int row] Wd (some ()) (fun _ => (some .null, Wd)) := by
  refine QM.of (by decide +kernel) (Nat.le_of_ble_eq_true rfl) ?_
  rintro X ad hX _ _ _ _
  refine QG.iload_n hX (qd K_X7_rowOf 0 rfl) rfl rfl ?_
  by_cases h0 : row < 0
  · refine QG.ifT h0 (QG.if_lt (tgt := 10) (oF := none) hX (qd K_X7_rowOf 1 rfl) rfl (by decide) ?_ QG.nothing)
    refine QG.nul hX (qd K_X7_rowOf 5 rfl) rfl ?_
    refine QG.goto (tgt := 20) hX (qd K_X7_rowOf 6 rfl) rfl (by decide) ?_
    exact QG.aret hX (qd K_X7_rowOf 11 rfl) rfl (Or.inl rfl) rfl (fun _ _ => rfl)
  · refine QG.ifF h0 (QG.if_lt (tgt := 10) (oT := none) hX (qd K_X7_rowOf 1 rfl) rfl (by decide) QG.nothing ?_)
    refine QG.iload_n hX (qd K_X7_rowOf 2 rfl) rfl rfl ?_
    refine QG.bipush hX (qd K_X7_rowOf 3 rfl) rfl kb_6 ?_
    have h1 : ¬ row < 6 := Int32.not_lt.mpr (hr.resolve_left h0)
    refine QG.ifF h1 (QG.icmp_lt (tgt := 14) (oT := none) hX (qd K_X7_rowOf 4 rfl) rfl (by decide) QG.nothing ?_)
    refine QG.nul hX (qd K_X7_rowOf 5 rfl) rfl ?_
    refine QG.goto (tgt := 20) hX (qd K_X7_rowOf 6 rfl) rfl (by decide) ?_
    exact QG.aret hX (qd K_X7_rowOf 11 rfl) rfl (Or.inl rfl) rfl (fun _ _ => rfl)
theorem M_keptAs_ok (l : Launch) {Wd : List AC} {fs ffs : List Value} {kf : Nat → Option Nat} {k : Int32} {i r : Nat} {made : Bool} (hW0 : Wd[0]? = some (.inr (7, fs))) (hf : fs[4]? = some (.ref i)) (hW1 : Wd[i]? = some (.inl (4, 4, .inr (.inr (.inr (.inr kf)))))) (h0 : ¬ k < 0) (h1 : ¬ 4 ≤ k) (hr : kf k.toNatClampNeg = some r) (hWr : Wd[r]? = some (.inr (0, ffs))) (hm : ffs[0]? = some (.int (qb made))) (hmade : made = true) : QM l yX7_keptAs cX7_keptAs 2 (some (.object "QuireDesk$Folding")) 0 0 0 (fun _ => True) [.ref 0, .int k] Wd (some ()) (fun _ => (some (.ref r), Wd)) := by
  refine QM.of (by decide +kernel) (Nat.le_of_ble_eq_true rfl) ?_
  rintro X ad hX _ _ _ _
  subst hmade
  refine QG.iload_n hX (qd K_X7_keptAs 0 rfl) rfl rfl ?_
  refine QG.ifF h0 (QG.if_lt (tgt := 21) (oT := none) hX (qd K_X7_keptAs 1 rfl) rfl (by decide) QG.nothing ?_)
  refine QG.iload_n hX (qd K_X7_keptAs 2 rfl) rfl rfl ?_
  refine QG.iconst hX (qd K_X7_keptAs 3 rfl) rfl ki_4 ?_
  refine QG.ifF h1 (QG.icmp_ge (tgt := 21) (oT := none) hX (qd K_X7_keptAs 4 rfl) rfl (by decide) QG.nothing ?_)
  refine QG.aload_n hX (qd K_X7_keptAs 5 rfl) rfl rfl ?_
  refine QG.getf hX fl_X7_32 (qd K_X7_keptAs 6 rfl) rfl hW0 hf ?_
  refine QG.iload_n hX (qd K_X7_keptAs 7 rfl) rfl rfl ?_
  refine QG.aald (v := .ref r) (C := RX0) hX (qd K_X7_keptAs 8 rfl) rfl hW1 (Or.inr ⟨rfl, rfl⟩) (vp_4 h0 h1) (by rw [hr]; rfl) ?_
  refine QG.getf hX fl_X7_163 (qd K_X7_keptAs 9 rfl) rfl hWr hm ?_
  refine QG.ifF (c := qb true = 0) (by decide) (QG.if_ne (tgt := 23) (oF := none) hX (qd K_X7_keptAs 10 rfl) rfl (by decide) ?_ QG.nothing)
  refine QG.aload_n hX (qd K_X7_keptAs 13 rfl) rfl rfl ?_
  refine QG.getf hX fl_X7_32 (qd K_X7_keptAs 14 rfl) rfl hW0 hf ?_
  refine QG.iload_n hX (qd K_X7_keptAs 15 rfl) rfl rfl ?_
  refine QG.aald (v := .ref r) (C := RX0) hX (qd K_X7_keptAs 16 rfl) rfl hW1 (Or.inr ⟨rfl, rfl⟩) (vp_4 h0 h1) (by rw [hr]; rfl) ?_
  exact QG.aret hX (qd K_X7_keptAs 17 rfl) rfl (Or.inr ⟨_, rfl⟩) rfl (fun _ _ => rfl)
theorem M_keptAs_un (l : Launch) {Wd : List AC} {fs ffs : List Value} {kf : Nat → Option Nat} {k : Int32} {i r : Nat} {made : Bool} (hW0 : Wd[0]? = some (.inr (7, fs))) (hf : fs[4]? = some (.ref i)) (hW1 : Wd[i]? = some (.inl (4, 4, .inr (.inr (.inr (.inr kf)))))) (h0 : ¬ k < 0) (h1 : ¬ 4 ≤ k) (hr : kf k.toNatClampNeg = some r) (hWr : Wd[r]? = some (.inr (0, ffs))) (hm : ffs[0]? = some (.int (qb made))) (hmade : made = false) : QM l yX7_keptAs cX7_keptAs 2 (some (.object "QuireDesk$Folding")) 0 0 0 (fun _ => True) [.ref 0, .int k] Wd (some ()) (fun _ => (some .null, Wd)) := by
  refine QM.of (by decide +kernel) (Nat.le_of_ble_eq_true rfl) ?_
  rintro X ad hX _ _ _ _
  subst hmade
  refine QG.iload_n hX (qd K_X7_keptAs 0 rfl) rfl rfl ?_
  refine QG.ifF h0 (QG.if_lt (tgt := 21) (oT := none) hX (qd K_X7_keptAs 1 rfl) rfl (by decide) QG.nothing ?_)
  refine QG.iload_n hX (qd K_X7_keptAs 2 rfl) rfl rfl ?_
  refine QG.iconst hX (qd K_X7_keptAs 3 rfl) rfl ki_4 ?_
  refine QG.ifF h1 (QG.icmp_ge (tgt := 21) (oT := none) hX (qd K_X7_keptAs 4 rfl) rfl (by decide) QG.nothing ?_)
  refine QG.aload_n hX (qd K_X7_keptAs 5 rfl) rfl rfl ?_
  refine QG.getf hX fl_X7_32 (qd K_X7_keptAs 6 rfl) rfl hW0 hf ?_
  refine QG.iload_n hX (qd K_X7_keptAs 7 rfl) rfl rfl ?_
  refine QG.aald (v := .ref r) (C := RX0) hX (qd K_X7_keptAs 8 rfl) rfl hW1 (Or.inr ⟨rfl, rfl⟩) (vp_4 h0 h1) (by rw [hr]; rfl) ?_
  refine QG.getf hX fl_X7_163 (qd K_X7_keptAs 9 rfl) rfl hWr hm ?_
  refine QG.ifT (c := qb false = 0) (by decide) (QG.if_ne (tgt := 23) (oT := none) hX (qd K_X7_keptAs 10 rfl) rfl (by decide) QG.nothing ?_)
  refine QG.nul hX (qd K_X7_keptAs 11 rfl) rfl ?_
  exact QG.aret hX (qd K_X7_keptAs 12 rfl) rfl (Or.inl rfl) rfl (fun _ _ => rfl)
theorem M_keptAs_no (l : Launch) {Wd : List AC} {k : Int32} (hr : k < 0 ∨ 4 ≤ k) : QM l yX7_keptAs cX7_keptAs 2 (some (.object "QuireDesk$Folding")) 0 0 0 (fun _ => True) [.ref 0, .int k] Wd (some ()) (fun _ => (some .null, Wd)) := by
  refine QM.of (by decide +kernel) (Nat.le_of_ble_eq_true rfl) ?_
  rintro X ad hX _ _ _ _
  refine QG.iload_n hX (qd K_X7_keptAs 0 rfl) rfl rfl ?_
  by_cases h0 : k < 0
  · refine QG.ifT h0 (QG.if_lt (tgt := 21) (oF := none) hX (qd K_X7_keptAs 1 rfl) rfl (by decide) ?_ QG.nothing)
    refine QG.nul hX (qd K_X7_keptAs 11 rfl) rfl ?_
    exact QG.aret hX (qd K_X7_keptAs 12 rfl) rfl (Or.inl rfl) rfl (fun _ _ => rfl)
  · refine QG.ifF h0 (QG.if_lt (tgt := 21) (oT := none) hX (qd K_X7_keptAs 1 rfl) rfl (by decide) QG.nothing ?_)
    refine QG.iload_n hX (qd K_X7_keptAs 2 rfl) rfl rfl ?_
    refine QG.iconst hX (qd K_X7_keptAs 3 rfl) rfl ki_4 ?_
    refine QG.ifT (hr.resolve_left h0) (QG.icmp_ge (tgt := 21) (oF := none) hX (qd K_X7_keptAs 4 rfl) rfl (by decide) ?_ QG.nothing)
    refine QG.nul hX (qd K_X7_keptAs 11 rfl) rfl ?_
    exact QG.aret hX (qd K_X7_keptAs 12 rfl) rfl (Or.inl rfl) rfl (fun _ _ => rfl)

section R5
variable {α : Type} {X : QX} {cc : ByteArray} {own : String} {nL : Nat} {ret : Option FieldType} {d : Nat} {Q : α → State → Prop} {o oT oF : Option α} {pc npc : Nat} {lv : LV} {st : List Value} {Wd : List AC} {ad : Nat → Nat} {cells slots : Nat}
theorem qfree0 (hX : qok X cc own nL ret d) {H : Heap} {locs : List Loc} (hD : va_D X.A (qw X.dA X.sA ad Wd)) (hS : va_S X.A X.s.heap H locs) : ∀ q, va_A (qw X.dA X.sA ad Wd) H.size q → X.A q := by
  intro q h
  rcases h with ⟨k, e, h⟩ | h
  · exact hD.2 k _ h
  · exact hX.2.2.2.2.2.2.2.2.2.1 q (Nat.le_trans hS.1 h)
theorem qpre_at0 (hX : qok X cc own nL ret d) {H : Heap} {locs : List Loc} (hP : va_P (X.dC, X.dI) vwCl (qw X.dA X.sA ad Wd) H) (hD : va_D X.A (qw X.dA X.sA ad Wd)) (hS : va_S X.A X.s.heap H locs) {U : State} (hU : U.heap = H) (hW : X.s.WarmedH U.vm) :
    U.heap.size = H.size ∧ qPre X.dC X.dI X.dA X.sA ad Wd (va_A (qw X.dA X.sA ad Wd) H.size) U := by
  refine ⟨by rw [hU], by rw [hU]; exact hP, va_K.moved hW.alike hX.2.2.2.2.2.2.2.2.1, hD.weaken (fun _ _ _ _ => trivial), fun w hw => qnest_warm (ntb_nest hw) hW (hX.2.2.2.2.2.2.1 w hw), ?_⟩
  rw [hU]
  exact ((hX.2.2.2.2.2.2.2.2.2.2.1.kept (H1 := H) hS.2.1).narrow (qfree0 hX hD hS)).moved hW.alike
theorem qrun_ret0 (hX : qok X cc own nL ret d) {r : Option Value × List AC} (hrl : r.2.length = Wd.length) {H : Heap} {locs : List Loc} {ls : Array Slot} {st0 rest : List Value} {Q1 : State → Prop}
    (hD : va_D X.A (qw X.dA X.sA ad Wd)) (hS : va_S X.A X.s.heap H locs)
    (hr : va_Run X.p X.l X.e X.R X.s X.m X.args X.below X.meth X.c H locs cells slots 0 0 (F0 X.m pc ls st0) rest (fun st oc t => qPost X.dC X.dI X.dA X.sA ad Wd.length (va_A (qw X.dA X.sA ad Wd) H.size) r oc t ∧ va_F (va_A (qw X.dA X.sA ad Wd) H.size) st t) (va_A (qw X.dA X.sA ad Wd) H.size))
    (kk : ∀ (H1 : Heap) (locs1 : List Loc), va_P (X.dC, X.dI) vwCl (qw X.dA X.sA ad r.2) H1 → va_D X.A (qw X.dA X.sA ad r.2) → va_S X.A X.s.heap H1 locs1 → W X.p X.l X.e X.R X.s X.m X.args X.below X.meth X.c H1 locs1 cells slots Q1 (F0 X.m (pc + 3) ls (r.1.toList.map (qv X.sA ad) ++ rest))) :
    W X.p X.l X.e X.R X.s X.m X.args X.below X.meth X.c H locs cells slots Q1 (F0 X.m pc ls st0) := by
  have hF := qfree0 hX hD hS
  intro T hT XX
  obtain ⟨v, st₀, t, T', L, h0, X', hL, e1, e2, ⟨⟨ad', hag, hv, hP1, hK1, hD1⟩, hz, hk⟩, stp⟩ := hr T hT XX
  have had : ad' = ad := funext fun k => hag k (by omega)
  subst had
  have hv2 : v = r.1.map (qv X.sA ad') := Outcome.returned.inj hv
  rw [h0] at hz hk
  have hS1 : va_S X.A X.s.heap T'.heap (locs ++ L) := ⟨Nat.le_trans hS.1 (by rw [e1]; exact hz), fun q h1 h2 => by rw [e1, hk q (Nat.lt_of_lt_of_le h1 hS.1) (fun z => h2 (hF q z))]; exact hS.2.1 q h1 h2, fun q hq => by
      rcases List.mem_append.mp hq with h | h
      · exact hS.2.2 q h
      · exact hF _ (hL q h)⟩
  obtain ⟨t2, a1, b1⟩ := kk T'.heap (locs ++ L) (by rw [e1]; exact hP1) (hD1.weaken (fun k q _ h => hF q.1 h)) hS1 T' rfl X'
  refine ⟨t2, stp t2 ?_, b1⟩
  have hstk : v.toList ++ rest = r.1.toList.map (qv X.sA ad') ++ rest := by
    rw [hv2]
    cases r.1 <;> rfl
  rw [hstk]
  exact a1
theorem QG.callV0 {β : Type} {y : MethodName} {cc' : ByteArray} {nL' : Nat} {ret' : Option FieldType} {d' n idx a ci : Nat} {Pd : (Nat → Nat) → Prop} {As rest fs : List Value} {o' : Option β} {post' : β → Option Value × List AC} {g : β → Option α} (hX : qok X cc own nL ret d) (hw : qcV own idx y cc' nL' ret' n) (hM : QM X.l y cc' nL' ret' d' 0 0 Pd (.ref a :: As) Wd o' post') (hpd : Pd ad) (hdd : d' + 1 ≤ d) (hnl : nL' ≤ 45) (hd : qdc cc pc (.invokevirtual idx) npc) (hn : npc = pc + 3) (hcs : cells ≤ X.R.cells ∧ slots ≤ X.R.slots) (hlen : As.length = n)
    (hrc : Wd[a]? = some (.inr (ci, fs))) (hci : (vwCl[ci]?).map (fun q => q.1) = some y.cls) (hst : st = As.reverse ++ .ref a :: rest) (hrest : (rest.map (fun v => v.category)).sum ≤ 8) (hrl : ∀ x, (post' x).2.length = Wd.length)
    (k : ∀ x, QG X nL Q (g x) npc lv ((post' x).1.toList ++ rest) (post' x).2 ad cells slots) : QG X nL Q (o'.bind g) pc lv st Wd ad cells slots :=
  fun x h H locs ls hP hD hS hl => by
    subst hn; subst hst
    obtain ⟨u, hu, hg⟩ := Option.bind_eq_some_iff.mp h
    obtain ⟨q, hq, hqc⟩ := Option.map_eq_some_iff.mp hci
    have hT : GoodIn gtb (wsV own idx y.cls y (Cond.code y cc' nL' ret' :: gtb)) := by
      refine gtb_goodIn fun w hw' => ?_
      rcases List.mem_append.mp hw' with h1 | h1
      · exact hw.1 w (by simp only [List.mem_cons, List.not_mem_nil, or_false] at h1 ⊢; rcases h1 with h1 | h1 | h1 | h1 <;> simp [h1])
      · rcases List.mem_cons.mp h1 with h1 | h1
        · exact hw.1 w (by simp [h1])
        · exact h1
    rw [List.map_append, List.map_reverse]
    refine qrun_ret0 hX (hrl u) hD hS
      (va_runV (As := As.map (qv X.sA ad)) (b := ad a) (rest := rest.map (qv X.sA ad)) ⟨hX.1, hX.2.1, hX.2.2.2.1, hX.2.2.2.2.1, hX.2.2.2.2.2.1⟩ (hM u hu X.dC X.dI X.dA X.sA ad H.size hpd)
        (cwV n hX.2.2.2.2.2.1 hT rfl rfl rfl ⟨rfl, hw.2⟩ ⟨Nat.le_trans hdd hX.2.2.2.2.2.2.2.2.2.2.2.1, ?_⟩)
        ⟨qpre_blind, ?_, fun U hU hW => ⟨rfl, qpre_at0 hX hP hD hS hU hW⟩⟩ rfl (by rw [List.length_map]; exact hlen) (hl.1.trans rfl) rfl (lv_room (by rw [qcats]; exact hrest)) (qdcn hd rfl) ⟨hcs.1, hcs.2⟩)
      (fun H1 locs1 hP1 hD1 hS1 => ?_)
    · have := hX.2.2.2.2.2.2.2.2.2.2.2.2
      show 8 + (nL' + 11) + 64 * d' ≤ X.R.locals
      omega
    · have h9 := va_recv hX.2.2.2.2.2.2.2.2.1 hP hq (qw_at (dA := X.dA) (sA := X.sA) (ad := ad) hrc)
      rw [hqc] at h9
      exact h9
    · have := k u x hg H1 locs1 ls hP1 hD1 hS1 hl
      rw [List.map_append] at this
      exact this
def qcM (own : String) (idx : Nat) (y : MethodName) (b : ByteArray) (n : Nat) : Prop := ∀ w ∈ ([.methodLink own idx y, .static y, .initialized "java/lang/Math", .code y b n (some .int)] : List Cond), w ∈ gtb
theorem QG.mmax {y z : Int32} {idx : Nat} (hX : qok X cc own nL ret d) (hw : qcM own idx Lib.Math.max.name Lib.Math.max.code 2) (hdd : 1 ≤ d) (hd : qdc cc pc (.invokestatic idx) npc) (hn : npc = pc + 3) (hcs : cells ≤ X.R.cells ∧ slots ≤ X.R.slots) (hrest : (st.map (fun v => v.category)).sum ≤ 8) (g : QG X nL Q o npc lv (.int (if y < z then z else y) :: st) Wd ad cells slots) : QG X nL Q o pc lv (.int z :: .int y :: st) Wd ad cells slots :=
  fun x h H locs ls hP hD hS hl => by
    subst hn
    have h1 := hX.2.2.2.2.2.2.2.2.2.2.2
    exact va_mmax hX.1 hX.2.1 (hX.2.2.2.1.trans hl.1.symm) hX.2.2.2.2.1 (hX.2.2.2.2.2.1 _ (hw _ (by simp))) (hX.2.2.2.2.2.1 _ (hw _ (by simp))) (hX.2.2.2.2.2.1 _ (hw _ (by simp))) (hX.2.2.2.2.2.1 _ (hw _ (by simp))) (by omega) (by rw [qcats]; omega) hcs.1 hcs.2 (qdcn hd rfl) (g x h H locs ls hP hD hS hl)
theorem QG.mmin {y z : Int32} {idx : Nat} (hX : qok X cc own nL ret d) (hw : qcM own idx Lib.Math.min.name Lib.Math.min.code 2) (hdd : 1 ≤ d) (hd : qdc cc pc (.invokestatic idx) npc) (hn : npc = pc + 3) (hcs : cells ≤ X.R.cells ∧ slots ≤ X.R.slots) (hrest : (st.map (fun v => v.category)).sum ≤ 8) (g : QG X nL Q o npc lv (.int (if z < y then z else y) :: st) Wd ad cells slots) : QG X nL Q o pc lv (.int z :: .int y :: st) Wd ad cells slots :=
  fun x h H locs ls hP hD hS hl => by
    subst hn
    have h1 := hX.2.2.2.2.2.2.2.2.2.2.2
    exact va_mmin hX.1 hX.2.1 (hX.2.2.2.1.trans hl.1.symm) hX.2.2.2.2.1 (hX.2.2.2.2.2.1 _ (hw _ (by simp))) (hX.2.2.2.2.2.1 _ (hw _ (by simp))) (hX.2.2.2.2.2.1 _ (hw _ (by simp))) (hX.2.2.2.2.2.1 _ (hw _ (by simp))) (by omega) (by rw [qcats]; omega) hcs.1 hcs.2 (qdcn hd rfl) (g x h H locs ls hP hD hS hl)
theorem QG.mabs {y : Int32} {idx : Nat} (hX : qok X cc own nL ret d) (hw : qcM own idx Lib.Math.abs.name Lib.Math.abs.code 1) (hdd : 1 ≤ d) (hd : qdc cc pc (.invokestatic idx) npc) (hn : npc = pc + 3) (hcs : cells ≤ X.R.cells ∧ slots ≤ X.R.slots) (hrest : (st.map (fun v => v.category)).sum ≤ 8) (g : QG X nL Q o npc lv (.int (if 0 ≤ y then y else 0 - y) :: st) Wd ad cells slots) : QG X nL Q o pc lv (.int y :: st) Wd ad cells slots :=
  fun x h H locs ls hP hD hS hl => by
    subst hn
    have h1 := hX.2.2.2.2.2.2.2.2.2.2.2
    exact va_mabs hX.1 hX.2.1 (hX.2.2.2.1.trans hl.1.symm) hX.2.2.2.2.1 (hX.2.2.2.2.2.1 _ (hw _ (by simp))) (hX.2.2.2.2.2.1 _ (hw _ (by simp))) (hX.2.2.2.2.2.1 _ (hw _ (by simp))) (hX.2.2.2.2.2.1 _ (hw _ (by simp))) (by omega) (by rw [qcats]; omega) hcs.1 hcs.2 (qdcn hd rfl) (g x h H locs ls hP hD hS hl)
def cpok (sp dp n : Int32) (n0 n1 : Nat) : Bool := decide (0 ≤ sp) && decide (0 ≤ dp) && decide (0 ≤ n) && decide (sp.toNatClampNeg + n.toNatClampNeg ≤ n0) && decide (dp.toNatClampNeg + n.toNatClampNeg ≤ n1)
def qcA (own : String) (idx : Nat) : Prop := ∀ w ∈ ([.methodLink own idx arraycopyName, .native arraycopyName, .static arraycopyName, .initialized "java/lang/System"] : List Cond), w ∈ gtb
theorem QG.acopy {idx a0 a1 n0 n1 : Nat} {f f1 : Nat → Int32} {sp dp n : Int32} (hX : qok X cc own nL ret d) (hw : qcA own idx) (hdd : 1 ≤ d) (hd : qdc cc pc (.invokestatic idx) npc) (hn : npc = pc + 3) (hrest : (st.map (fun v => v.category)).sum ≤ 8) (h0 : Wd[a0]? = some (.inl (0, n0, .inl f))) (h1 : Wd[a1]? = some (.inl (0, n1, .inl f1))) {Wd' : List AC} (hw' : Wd.set a1 (.inl (0, n1, .inl (va_cpy f f1 sp.toNatClampNeg dp.toNatClampNeg n.toNatClampNeg))) = Wd') (g : QG X nL Q o npc lv st Wd' ad cells slots) : QG X nL Q (ck (cpok sp dp n n0 n1) o) pc lv (.int n :: .int dp :: .ref a1 :: .int sp :: .ref a0 :: st) Wd ad cells slots :=
  QG.chk fun hi x h H locs ls hP hD hS hl => by
    subst hn; subst hw'
    have hR := hX.2.2.2.2.2.2.2.2.2.2.2
    simp only [cpok, Bool.and_eq_true, decide_eq_true_eq] at hi
    refine va_copyi (D := (X.dC, X.dI)) (cl := vwCl) (ty := .int) hX.1 hX.2.1 (hX.2.2.2.1.trans hl.1.symm) hX.2.2.2.2.1 (hX.2.2.2.2.2.1 _ (hw _ (by simp))) (hX.2.2.2.2.2.1 _ (hw _ (by simp))) (hX.2.2.2.2.2.1 _ (hw _ (by simp))) (hX.2.2.2.2.2.1 _ (hw _ (by simp))) hX.2.2.2.2.2.2.2.2.1 hP hD hS a0 a1 0 0 (qw_at h0) (qw_at h1) rfl rfl rfl (Int32.not_lt.mpr hi.1.1.1.1) (Int32.not_lt.mpr hi.1.1.1.2) (Int32.not_lt.mpr hi.1.1.2) hi.1.2 hi.2 (fun _ _ => rfl) (by omega) ?_ (qdcn hd rfl) fun H1 locs1 hP1 hD1 hS1 => ?_
    · rw [qcats]
      have : nativeFrameWords "java/lang/System" "arraycopy" 5 + 11 ≤ 50 := by decide +kernel
      omega
    · rw [show (ad a1, (Sum.inl (X.dA 0, n1, .inl (va_cpy f f1 sp.toNatClampNeg dp.toNatClampNeg n.toNatClampNeg)) : va_E)) = (ad a1, qc X.dA X.sA ad (.inl (0, n1, .inl (va_cpy f f1 sp.toNatClampNeg dp.toNatClampNeg n.toNatClampNeg)))) from rfl, qw_set] at hP1 hD1
      exact g x h H1 locs1 ls hP1 hD1 hS1 hl
theorem QG.acmp_ne {z : Option Nat} {r : Nat} {b : Bool} {off : Int} {tgt : Nat} (hX : qok X cc own nL ret d) (hd : qdc cc pc (.if_acmp .ne off) npc) (hn : npc = pc + 3) (ht : (pc : Int) + off = (tgt : Int)) (h1 : b = true → z.map ad = some (ad r)) (h2 : b = false → z.map ad ≠ some (ad r)) (gT : QG X nL Q oT tgt lv st Wd ad cells slots) (gF : QG X nL Q oF npc lv st Wd ad cells slots) : QG X nL Q (if b = true then oF else oT) pc lv (va_rf z :: .ref r :: st) Wd ad cells slots :=
  fun x h H locs ls hP hD hS hl => by
    subst hn
    rw [List.map_cons, List.map_cons, qv_rf]
    refine lv_acmp_ne (rx := some (ad r)) (ry := z.map ad) hX.1 hX.2.1 (qdcn hd rfl) ht (fun c => ?_) (fun c => ?_)
    · cases b with
      | true => exact absurd (h1 rfl).symm c
      | false => exact gT x h H locs ls hP hD hS hl
    · cases b with
      | true => exact gF x h H locs ls hP hD hS hl
      | false => exact absurd c.symm (h2 rfl)
end R5
def qtab (cc : ByteArray) (l : List (Nat × Instr × Nat)) : Bool := l.all (fun e => decide (decode cc e.1 = .ok (e.2.1, e.2.2 - e.1)) && decide (e.1 ≤ e.2.2))
theorem qd {cc : ByteArray} {l : List (Nat × Instr × Nat)} (h : qtab cc l = true) (k : Nat) {pc npc : Nat} {i : Instr} (he : l[k]? = some (pc, i, npc)) : qdc cc pc i npc := by
  have h1 := List.all_eq_true.mp h _ (List.mem_of_getElem? he)
  simp only [Bool.and_eq_true, decide_eq_true_eq] at h1
  exact h1
def FU : Nat := 1048576

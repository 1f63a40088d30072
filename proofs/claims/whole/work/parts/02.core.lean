/-! worlds by numbers: a cell's number stands for its address; a static row stands as a float; see NOTES.md -/
def gtb : List Cond := lw_tbl.filter goodWord
theorem gin {ws : List Cond} (ps : List Nat) (hp : ws = ps.filterMap (fun i => lw_tbl[i]?)) (h : ws.all goodWord = true) : ∀ w ∈ ws, w ∈ gtb := by
  intro w hw
  have h1 := List.all_eq_true.mp h w hw
  have h2 := goodIn_r (big := lw_tbl) ws ps hp h w hw
  exact List.mem_filter.mpr ⟨h2.1, h1⟩
theorem gtb_good : ∀ w ∈ gtb, goodWord w = true := fun _ h => (List.mem_filter.mp h).2
def qb (b : Bool) : Int32 := if b then 1 else 0
def inb (i : Int32) (n : Nat) : Bool := decide (0 ≤ i) && decide (i.toNatClampNeg < n)
theorem inb_vp {i : Int32} {n : Nat} (h : inb i n = true) : vp_in i n := by
  simp only [inb, Bool.and_eq_true, decide_eq_true_eq] at h
  intro q
  rcases q with q | q
  · exact absurd q (Int32.not_lt.mpr h.1)
  · omega
def ck {α : Type} (b : Bool) (o : Option α) : Option α := if b then o else none
theorem ck_some {α : Type} {b : Bool} {o : Option α} {x : α} (h : ck b o = some x) : b = true ∧ o = some x := by
  unfold ck at h
  cases b with
  | true => exact ⟨rfl, h⟩
  | false => cases h
abbrev AC : Type := (Nat × vp_A) ⊕ (Nat × List Value)
/-- a value: a number of a cell becomes its address -/
def qv (sA ad : Nat → Nat) : Value → Value
  | .ref k => .ref (ad k)
  | .float j => .ref (sA j.toNat)
  | v => v
def qarr (ad : Nat → Nat) : vp_A → vp_A
  | (n, .inr (.inr (.inr (.inr f)))) => (n, .inr (.inr (.inr (.inr (fun j => (f j).map ad)))))
  | (n, .inl f) => (n, .inl f)
  | (n, .inr (.inl f)) => (n, .inr (.inl f))
  | (n, .inr (.inr (.inl f))) => (n, .inr (.inr (.inl f)))
  | (n, .inr (.inr (.inr (.inl f)))) => (n, .inr (.inr (.inr (.inl f))))
def qc (dA : Nat → ClassId) (sA ad : Nat → Nat) : AC → va_E
  | .inl (t, x) => .inl (dA t, qarr ad x)
  | .inr (ci, fs) => .inr (ci, fs.map (qv sA ad))
def qw (dA : Nat → ClassId) (sA ad : Nat → Nat) (Wd : List AC) : va_W := Wd.mapIdx (fun k c => (ad k, qc dA sA ad c))
theorem qw_get {dA : Nat → ClassId} {sA ad : Nat → Nat} {Wd : List AC} {k : Nat} : (qw dA sA ad Wd)[k]? = (Wd[k]?).map (fun c => (ad k, qc dA sA ad c)) := by
  unfold qw
  rw [List.getElem?_mapIdx]
theorem qw_at {dA : Nat → ClassId} {sA ad : Nat → Nat} {Wd : List AC} {k : Nat} {c : AC} (h : Wd[k]? = some c) : (qw dA sA ad Wd)[k]? = some (ad k, qc dA sA ad c) := by
  rw [qw_get, h]; rfl
theorem qw_set {dA : Nat → ClassId} {sA ad : Nat → Nat} {Wd : List AC} {k : Nat} {c : AC} : (qw dA sA ad Wd).set k (ad k, qc dA sA ad c) = qw dA sA ad (Wd.set k c) := by
  apply List.ext_getElem?
  intro i
  rw [List.getElem?_set, qw_get, qw_get, List.getElem?_set]
  by_cases h : k = i
  · subst h
    by_cases h2 : k < Wd.length
    · have h3 : k < (qw dA sA ad Wd).length := by simp [qw, h2]
      rw [if_pos rfl, if_pos rfl, if_pos h2, if_pos h3]; rfl
    · have h3 : ¬ k < (qw dA sA ad Wd).length := by simp [qw, h2]
      rw [if_pos rfl, if_pos rfl, if_neg h2, if_neg h3]; rfl
  · rw [if_neg h, if_neg h]
theorem qw_len {dA : Nat → ClassId} {sA ad : Nat → Nat} {Wd : List AC} : (qw dA sA ad Wd).length = Wd.length := by simp [qw]
def qtys (dA : Nat → ClassId) : List (ClassId × FieldType) := [(dA 0, .int), (dA 1, .long), (dA 2, .boolean), (dA 3, .object RX5), (dA 4, .object RX0)]
/-- locals -/
abbrev LV : Type := List (Nat × Value)
def qget : LV → Nat → Option Value
  | [], _ => none
  | q :: l, i => if q.1 = i then some q.2 else qget l i
theorem qget_mem : ∀ {lv : LV} {i : Nat} {v : Value}, qget lv i = some v → (i, v) ∈ lv
  | [], _, _, h => by cases h
  | q :: l, i, v, h => by
    unfold qget at h
    by_cases hq : q.1 = i
    · rw [if_pos hq] at h
      have : q.2 = v := Option.some.inj h
      subst hq; subst this
      exact List.mem_cons_self
    · rw [if_neg hq] at h
      exact List.mem_cons_of_mem _ (qget_mem h)
def qlv (sA ad : Nat → Nat) (lv : LV) : LV := lv.map fun q => (q.1, qv sA ad q.2)
def qset (lv : LV) (i : Nat) (v : Value) : LV := (i, v) :: lv.filter (fun q => !(q.1 == i) && !(q.1 + 1 == i && q.2.category == 2))
def qset2 (lv : LV) (i : Nat) (v : Value) : LV := (i, v) :: lv.filter (fun q => !(q.1 == i) && (!(q.1 == i + 1) && !(q.1 + 1 == i && q.2.category == 2)))
theorem qv_cat (sA ad : Nat → Nat) (v : Value) : (qv sA ad v).category = v.category := by cases v <;> rfl
theorem qlv_get {sA ad : Nat → Nat} {lv : LV} {ls : Array Slot} {nL i : Nat} {v : Value} (h : lv_has ls nL (qlv sA ad lv)) (hg : qget lv i = some v) : ls[i]? = some (.val (qv sA ad v)) :=
  h.2.2 (i, qv sA ad v) (List.mem_map.mpr ⟨(i, v), qget_mem hg, rfl⟩)
theorem qlv_set {sA ad : Nat → Nat} {lv : LV} {i : Nat} {v : Value} : (i, qv sA ad v) :: (qlv sA ad lv).filter (fun q => !(q.1 == i) && !(q.1 + 1 == i && q.2.category == 2)) = qlv sA ad (qset lv i v) := by
  unfold qset qlv
  rw [List.map_cons, List.filter_map]
  congr 2
  apply List.filter_congr
  intro q _
  simp only [Function.comp, qv_cat]
theorem qlv_set2 {sA ad : Nat → Nat} {lv : LV} {i : Nat} {v : Value} : (i, qv sA ad v) :: (qlv sA ad lv).filter (fun q => !(q.1 == i) && (!(q.1 == i + 1) && !(q.1 + 1 == i && q.2.category == 2))) = qlv sA ad (qset2 lv i v) := by
  unfold qset2 qlv
  rw [List.map_cons, List.filter_map]
  congr 2
  apply List.filter_congr
  intro q _
  simp only [Function.comp, qv_cat]
theorem qlv_sub {sA ad : Nat → Nat} {lv lv' : LV} {ls : Array Slot} {nL : Nat} (h : lv_has ls nL (qlv sA ad lv)) (hs : lv'.map (fun q => qget lv q.1) = lv'.map (fun q => some q.2)) : lv_has ls nL (qlv sA ad lv') := by
  refine ⟨h.1, h.2.1, fun q hq => ?_⟩
  obtain ⟨r, hr, rfl⟩ := List.mem_map.mp hq
  obtain ⟨k, hk⟩ := List.getElem?_of_mem hr
  have h1 : (lv'.map (fun q => qget lv q.1))[k]? = some (some r.2) := by rw [hs, List.getElem?_map, hk]; rfl
  rw [List.getElem?_map, hk] at h1
  exact qlv_get h (Option.some.inj h1)
/-- the nest's words, which are not among those that keep -/
def qnest : Cond → Bool
  | .fieldLinkNest .. => true
  | .methodLinkNest .. => true
  | _ => false
def ntb : List Cond := lw_tbl.filter qnest
theorem qnest_same {w : Cond} (hq : qnest w = true) {u U : State} (h : u.vm = U.vm) (hZ : va_Nw w u) : va_Nw w U := by
  cases w <;> first | (exact va_Nw.same rfl h hZ) | cases hq
theorem qnest_warm {w : Cond} (hq : qnest w = true) {s U : State} (hW : s.WarmedH U.vm) (hZ : va_Nw w s) : va_Nw w U := by
  cases w <;> first | (exact va_Nw.warmF hW hZ) | (exact va_Nw.warmM hW hZ) | cases hq
theorem ntb_nest {w : Cond} (h : w ∈ ntb) : qnest w = true := (List.mem_filter.mp h).2
theorem nin (i : Nat) {w : Cond} (hp : lw_tbl[i]? = some w) (h : qnest w = true) : w ∈ ntb := List.mem_filter.mpr ⟨List.mem_of_getElem? hp, h⟩
/-- statics: rows that nobody writes -/
def qSt1 (sA : Nat → Nat) (j : Nat) (n d : String) (ty : FieldType) (N : Nat) (f : Nat → Int32) (A : Nat → Prop) (U : State) (H : Heap) : Prop :=
  va_Z "QuireDesk" n d (.ref (sA j)) A U H ∧ va_T ty (sA j) N (fun k => .int (f k)) A U H
def s_mark (k : Nat) : Int32 := ([46, 8, 999, 9999, 9999, 9, 2] : List Int32).getD k 0
def s_low (k : Nat) : Int32 := ([0, 0, 1, 0, 1, 0] : List Int32).getD k 0
def s_top (k : Nat) : Int32 := ([0, 0, 15, 8, 39, 999] : List Int32).getD k 0
def s_abc (k : Nat) : Int32 := ([65, 66, 67, 68, 69, 70, 71, 72, 73, 75, 76, 77, 78, 79, 80, 81, 82, 83, 84, 86, 88, 89, 90] : List Int32).getD k 0
def qSt (sA : Nat → Nat) (A : Nat → Prop) (U : State) (H : Heap) : Prop :=
  qSt1 sA 0 "MARK_TOP" "[I" .int 7 s_mark A U H ∧ qSt1 sA 1 "RULE_LOW" "[I" .int 6 s_low A U H ∧ qSt1 sA 2 "RULE_TOP" "[I" .int 6 s_top A U H ∧ qSt1 sA 3 "ALPHABET" "[C" .char 23 s_abc A U H ∧ va_AO "QuireDesk$Row" U ∧ va_AO "QuireDesk$Folding" U
theorem qSt1.moved {sA : Nat → Nat} {j : Nat} {n d : String} {ty : FieldType} {N : Nat} {f : Nat → Int32} {A : Nat → Prop} {u U : State} {H : Heap} (hvm : u.vm.Alike U.vm) (h : qSt1 sA j n d ty N f A u H) : qSt1 sA j n d ty N f A U H := ⟨va_Z.moved hvm h.1, h.2.moved hvm⟩
theorem qSt1.kept {sA : Nat → Nat} {j : Nat} {n d : String} {ty : FieldType} {N : Nat} {f : Nat → Int32} {A : Nat → Prop} {U : State} {H H1 : Heap} (h : qSt1 sA j n d ty N f A U H) (hq : ∀ a : Nat, a < H.size → ¬ A a → H1[a]? = H[a]?) : qSt1 sA j n d ty N f A U H1 := ⟨va_Z.kept h.1 hq, h.2.kept hq⟩
theorem qSt1.narrow {sA : Nat → Nat} {j : Nat} {n d : String} {ty : FieldType} {N : Nat} {f : Nat → Int32} {A B : Nat → Prop} {U : State} {H : Heap} (h : qSt1 sA j n d ty N f A U H) (hAB : ∀ q, B q → A q) : qSt1 sA j n d ty N f B U H := ⟨va_Z.narrow h.1 hAB, h.2.narrow hAB⟩
theorem qSt.moved {sA : Nat → Nat} {A : Nat → Prop} {u U : State} {H : Heap} (hvm : u.vm.Alike U.vm) (h : qSt sA A u H) : qSt sA A U H := ⟨h.1.moved hvm, h.2.1.moved hvm, h.2.2.1.moved hvm, h.2.2.2.1.moved hvm, h.2.2.2.2.1.moved hvm, h.2.2.2.2.2.moved hvm⟩
theorem qSt.kept {sA : Nat → Nat} {A : Nat → Prop} {U : State} {H H1 : Heap} (h : qSt sA A U H) (hq : ∀ a : Nat, a < H.size → ¬ A a → H1[a]? = H[a]?) : qSt sA A U H1 := ⟨h.1.kept hq, h.2.1.kept hq, h.2.2.1.kept hq, h.2.2.2.1.kept hq, h.2.2.2.2⟩
theorem qSt.narrow {sA : Nat → Nat} {A B : Nat → Prop} {U : State} {H : Heap} (h : qSt sA A U H) (hAB : ∀ q, B q → A q) : qSt sA B U H := ⟨h.1.narrow hAB, h.2.1.narrow hAB, h.2.2.1.narrow hAB, h.2.2.2.1.narrow hAB, h.2.2.2.2⟩

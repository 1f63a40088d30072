/-- where a method stands: program, launch, environment, room, start, method, arguments, frames below, method, code; class numbers, slots, array classes, statics' addresses, what may change -/
abbrev QX : Type := Program × Launch × Env × Room × State × MethodId × Array Value × List Frame × Method × Code × (Nat → ClassId) × (Nat → Nat → Nat) × (Nat → ClassId) × (Nat → Nat) × (Nat → Prop)
abbrev QX.p (X : QX) : Program := X.1
abbrev QX.l (X : QX) : Launch := X.2.1
abbrev QX.e (X : QX) : Env := X.2.2.1
abbrev QX.R (X : QX) : Room := X.2.2.2.1
abbrev QX.s (X : QX) : State := X.2.2.2.2.1
abbrev QX.m (X : QX) : MethodId := X.2.2.2.2.2.1
abbrev QX.args (X : QX) : Array Value := X.2.2.2.2.2.2.1
abbrev QX.below (X : QX) : List Frame := X.2.2.2.2.2.2.2.1
abbrev QX.meth (X : QX) : Method := X.2.2.2.2.2.2.2.2.1
abbrev QX.c (X : QX) : Code := X.2.2.2.2.2.2.2.2.2.1
abbrev QX.dC (X : QX) : Nat → ClassId := X.2.2.2.2.2.2.2.2.2.2.1
abbrev QX.dI (X : QX) : Nat → Nat → Nat := X.2.2.2.2.2.2.2.2.2.2.2.1
abbrev QX.dA (X : QX) : Nat → ClassId := X.2.2.2.2.2.2.2.2.2.2.2.2.1
abbrev QX.sA (X : QX) : Nat → Nat := X.2.2.2.2.2.2.2.2.2.2.2.2.2.1
abbrev QX.A (X : QX) : Nat → Prop := X.2.2.2.2.2.2.2.2.2.2.2.2.2.2
def qok (X : QX) (cc : ByteArray) (own : String) (nL : Nat) (ret : Option FieldType) (d : Nat) : Prop :=
  X.p.tables.exec = Jvm.exec ∧ X.c.code = cc ∧ X.meth.sig.returnType = ret ∧ X.c.maxLocals = nL ∧ X.s.vm.findClass own = some X.m.cls ∧ (∀ w ∈ gtb, w.before X.args X.s = true) ∧ (∀ w ∈ ntb, va_Nw w X.s) ∧ X.meth.locks = false ∧
  va_K (X.dC, X.dI) vwCl (qtys X.dA) X.s ∧ (∀ q, X.s.heap.size ≤ q → X.A q) ∧ qSt X.sA X.A X.s X.s.heap ∧ d ≤ X.R.frames ∧ 64 * d ≤ X.R.locals
/-- the goal: from here the machine comes to the end that o tells -/
def QG {α : Type} (X : QX) (nL : Nat) (Q : α → State → Prop) (o : Option α) (pc : Nat) (lv : LV) (st : List Value) (Wd : List AC) (ad : Nat → Nat) (cells slots : Nat) : Prop :=
  ∀ x, o = some x → ∀ (H : Heap) (locs : List Loc) (ls : Array Slot), va_P (X.dC, X.dI) vwCl (qw X.dA X.sA ad Wd) H → va_D X.A (qw X.dA X.sA ad Wd) → va_S X.A X.s.heap H locs → lv_has ls nL (qlv X.sA ad lv) →
    W X.p X.l X.e X.R X.s X.m X.args X.below X.meth X.c H locs cells slots (Q x) (F0 X.m pc ls (st.map (qv X.sA ad)))
def qdc (cc : ByteArray) (pc : Nat) (i : Instr) (npc : Nat) : Prop := decode cc pc = .ok (i, npc - pc) ∧ pc ≤ npc
section R1
variable {α : Type} {X : QX} {cc : ByteArray} {own : String} {nL : Nat} {ret : Option FieldType} {d : Nat} {Q : α → State → Prop} {o oT oF : Option α} {pc npc : Nat} {lv : LV} {st : List Value} {Wd : List AC} {ad : Nat → Nat} {cells slots : Nat}
theorem QG.nothing : QG X nL Q (none : Option α) pc lv st Wd ad cells slots := fun _ h => by cases h
theorem QG.chk {b : Bool} (g : b = true → QG X nL Q o pc lv st Wd ad cells slots) : QG X nL Q (ck b o) pc lv st Wd ad cells slots := fun x h => g (ck_some h).1 x (ck_some h).2
theorem QG.jmp {lv' : LV} (hs : lv'.map (fun q => qget lv q.1) = lv'.map (fun q => some q.2)) (g : QG X nL Q o pc lv' st Wd ad cells slots) : QG X nL Q o pc lv st Wd ad cells slots :=
  fun x h H locs ls hP hD hS hl => g x h H locs ls hP hD hS (qlv_sub hl hs)
theorem qdc1 {i : Instr} (h : qdc cc pc i (pc + 1)) : decode cc pc = .ok (i, 1) := by have := h.1; rwa [Nat.add_sub_cancel_left] at this
theorem qdcn {i : Instr} {n : Nat} (h : qdc cc pc i npc) (hn : npc = pc + n) : decode cc pc = .ok (i, n) := by subst hn; have := h.1; rwa [Nat.add_sub_cancel_left] at this
theorem QG.iconst {n : Int} {v : Int32} (hX : qok X cc own nL ret d) (hd : qdc cc pc (.iconst n) npc) (hn : npc = pc + 1) (hv : Int32.ofInt n = v) (g : QG X nL Q o npc lv (.int v :: st) Wd ad cells slots) : QG X nL Q o pc lv st Wd ad cells slots :=
  fun x h H locs ls hP hD hS hl => by subst hn; exact lv_iconst hX.1 hX.2.1 (qdcn hd rfl) hv (g x h H locs ls hP hD hS hl)
theorem QG.bipush {n : Int} {v : Int32} (hX : qok X cc own nL ret d) (hd : qdc cc pc (.bipush n) npc) (hn : npc = pc + 2) (hv : (Int8.ofInt n).toInt32 = v) (g : QG X nL Q o npc lv (.int v :: st) Wd ad cells slots) : QG X nL Q o pc lv st Wd ad cells slots :=
  fun x h H locs ls hP hD hS hl => by subst hn; exact lv_bipush hX.1 hX.2.1 (qdcn hd rfl) hv (g x h H locs ls hP hD hS hl)
theorem QG.sipush {n : Int} {v : Int32} (hX : qok X cc own nL ret d) (hd : qdc cc pc (.sipush n) npc) (hn : npc = pc + 3) (hv : (Int16.ofInt n).toInt32 = v) (g : QG X nL Q o npc lv (.int v :: st) Wd ad cells slots) : QG X nL Q o pc lv st Wd ad cells slots :=
  fun x h H locs ls hP hD hS hl => by subst hn; exact lv_sipush hX.1 hX.2.1 (qdcn hd rfl) hv (g x h H locs ls hP hD hS hl)
theorem QG.lconst {n : Fin 2} {v : Int64} (hX : qok X cc own nL ret d) (hd : qdc cc pc (.lconst n) npc) (hn : npc = pc + 1) (hv : Int64.ofNat (n : Nat) = v) (g : QG X nL Q o npc lv (.long v :: st) Wd ad cells slots) : QG X nL Q o pc lv st Wd ad cells slots :=
  fun x h H locs ls hP hD hS hl => by subst hn; exact lv_lconst hX.1 hX.2.1 (qdcn hd rfl) hv (g x h H locs ls hP hD hS hl)
theorem QG.ldc {idx : Nat} {v : Int32} (hX : qok X cc own nL ret d) (hw : Cond.constant own idx v ∈ gtb) (hd : qdc cc pc (.ldc idx) npc) (hn : npc = pc + 2) (g : QG X nL Q o npc lv (.int v :: st) Wd ad cells slots) : QG X nL Q o pc lv st Wd ad cells slots :=
  fun x h H locs ls hP hD hS hl => by subst hn; exact lv_ldc hX.1 hX.2.1 hX.2.2.2.2.1 (hX.2.2.2.2.2.1 _ hw) (qdcn hd rfl) (g x h H locs ls hP hD hS hl)
theorem QG.ldcw {idx : Nat} {v : Int32} (hX : qok X cc own nL ret d) (hw : Cond.constant own idx v ∈ gtb) (hd : qdc cc pc (.ldc_w idx) npc) (hn : npc = pc + 3) (g : QG X nL Q o npc lv (.int v :: st) Wd ad cells slots) : QG X nL Q o pc lv st Wd ad cells slots :=
  fun x h H locs ls hP hD hS hl => by subst hn; exact lv_ldcw hX.1 hX.2.1 hX.2.2.2.2.1 (hX.2.2.2.2.2.1 _ hw) (qdcn hd rfl) (g x h H locs ls hP hD hS hl)
theorem QG.ldc2 {idx : Nat} {v : Int64} (hX : qok X cc own nL ret d) (hw : Cond.constantLong own idx v ∈ gtb) (hd : qdc cc pc (.ldc2_w idx) npc) (hn : npc = pc + 3) (g : QG X nL Q o npc lv (.long v :: st) Wd ad cells slots) : QG X nL Q o pc lv st Wd ad cells slots :=
  fun x h H locs ls hP hD hS hl => by subst hn; exact lv_ldc2 hX.1 hX.2.1 hX.2.2.2.2.1 (hX.2.2.2.2.2.1 _ hw) (qdcn hd rfl) (g x h H locs ls hP hD hS hl)
theorem QG.nul (hX : qok X cc own nL ret d) (hd : qdc cc pc .aconst_null npc) (hn : npc = pc + 1) (g : QG X nL Q o npc lv (.null :: st) Wd ad cells slots) : QG X nL Q o pc lv st Wd ad cells slots :=
  fun x h H locs ls hP hD hS hl => by subst hn; exact lv_null hX.1 hX.2.1 (qdcn hd rfl) (g x h H locs ls hP hD hS hl)
theorem QG.iload_n {k : Fin 4} {y : Int32} (hX : qok X cc own nL ret d) (hd : qdc cc pc (.iload_n k) npc) (hn : npc = pc + 1) (hg : qget lv (k : Nat) = some (.int y)) (g : QG X nL Q o npc lv (.int y :: st) Wd ad cells slots) : QG X nL Q o pc lv st Wd ad cells slots :=
  fun x h H locs ls hP hD hS hl => by subst hn; exact lv_iload_n hX.1 hX.2.1 (qdcn hd rfl) rfl (qlv_get hl hg) (g x h H locs ls hP hD hS hl)
theorem QG.iload {k : Nat} {y : Int32} (hX : qok X cc own nL ret d) (hd : qdc cc pc (.iload k) npc) (hn : npc = pc + 2) (hg : qget lv k = some (.int y)) (g : QG X nL Q o npc lv (.int y :: st) Wd ad cells slots) : QG X nL Q o pc lv st Wd ad cells slots :=
  fun x h H locs ls hP hD hS hl => by subst hn; exact lv_iload hX.1 hX.2.1 (qdcn hd rfl) (qlv_get hl hg) (g x h H locs ls hP hD hS hl)
theorem QG.lload_n {k : Fin 4} {y : Int64} (hX : qok X cc own nL ret d) (hd : qdc cc pc (.lload_n k) npc) (hn : npc = pc + 1) (hg : qget lv (k : Nat) = some (.long y)) (g : QG X nL Q o npc lv (.long y :: st) Wd ad cells slots) : QG X nL Q o pc lv st Wd ad cells slots :=
  fun x h H locs ls hP hD hS hl => by subst hn; exact lv_lload_n hX.1 hX.2.1 (qdcn hd rfl) rfl (qlv_get hl hg) (g x h H locs ls hP hD hS hl)
theorem QG.lload {k : Nat} {y : Int64} (hX : qok X cc own nL ret d) (hd : qdc cc pc (.lload k) npc) (hn : npc = pc + 2) (hg : qget lv k = some (.long y)) (g : QG X nL Q o npc lv (.long y :: st) Wd ad cells slots) : QG X nL Q o pc lv st Wd ad cells slots :=
  fun x h H locs ls hP hD hS hl => by subst hn; exact lv_lload hX.1 hX.2.1 (qdcn hd rfl) (qlv_get hl hg) (g x h H locs ls hP hD hS hl)
theorem QG.aload_n {k : Fin 4} {y : Nat} (hX : qok X cc own nL ret d) (hd : qdc cc pc (.aload_n k) npc) (hn : npc = pc + 1) (hg : qget lv (k : Nat) = some (.ref y)) (g : QG X nL Q o npc lv (.ref y :: st) Wd ad cells slots) : QG X nL Q o pc lv st Wd ad cells slots :=
  fun x h H locs ls hP hD hS hl => by subst hn; exact lv_aload_n hX.1 hX.2.1 (qdcn hd rfl) rfl (qlv_get hl hg) (g x h H locs ls hP hD hS hl)
theorem QG.aload {k : Nat} {y : Nat} (hX : qok X cc own nL ret d) (hd : qdc cc pc (.aload k) npc) (hn : npc = pc + 2) (hg : qget lv k = some (.ref y)) (g : QG X nL Q o npc lv (.ref y :: st) Wd ad cells slots) : QG X nL Q o pc lv st Wd ad cells slots :=
  fun x h H locs ls hP hD hS hl => by subst hn; exact lv_aload hX.1 hX.2.1 (qdcn hd rfl) (qlv_get hl hg) (g x h H locs ls hP hD hS hl)
theorem QG.aload_ns {k : Fin 4} {y : UInt32} (hX : qok X cc own nL ret d) (hd : qdc cc pc (.aload_n k) npc) (hn : npc = pc + 1) (hg : qget lv (k : Nat) = some (.float y)) (g : QG X nL Q o npc lv (.float y :: st) Wd ad cells slots) : QG X nL Q o pc lv st Wd ad cells slots :=
  fun x h H locs ls hP hD hS hl => by subst hn; exact lv_aload_n hX.1 hX.2.1 (qdcn hd rfl) rfl (qlv_get hl hg) (g x h H locs ls hP hD hS hl)
theorem QG.aload_nN {k : Fin 4} (hX : qok X cc own nL ret d) (hd : qdc cc pc (.aload_n k) npc) (hn : npc = pc + 1) (hg : qget lv (k : Nat) = some .null) (g : QG X nL Q o npc lv (.null :: st) Wd ad cells slots) : QG X nL Q o pc lv st Wd ad cells slots :=
  fun x h H locs ls hP hD hS hl => by subst hn; exact lv_aload_nN hX.1 hX.2.1 (qdcn hd rfl) rfl (qlv_get hl hg) (g x h H locs ls hP hD hS hl)
theorem QG.aloadN {k : Nat} (hX : qok X cc own nL ret d) (hd : qdc cc pc (.aload k) npc) (hn : npc = pc + 2) (hg : qget lv k = some .null) (g : QG X nL Q o npc lv (.null :: st) Wd ad cells slots) : QG X nL Q o pc lv st Wd ad cells slots :=
  fun x h H locs ls hP hD hS hl => by subst hn; exact lv_aloadN hX.1 hX.2.1 (qdcn hd rfl) (qlv_get hl hg) (g x h H locs ls hP hD hS hl)
theorem QG.istore_n {k : Fin 4} {y : Int32} (hX : qok X cc own nL ret d) (hd : qdc cc pc (.istore_n k) npc) (hn : npc = pc + 1) (hk : (k : Nat) < nL) {lv' : LV} (hs : qset lv k (.int y) = lv') (g : QG X nL Q o npc lv' st Wd ad cells slots) : QG X nL Q o pc lv (.int y :: st) Wd ad cells slots :=
  fun x h H locs ls hP hD hS hl => by subst hn; subst hs; exact lv_istore_n hX.1 hX.2.1 (qdcn hd rfl) rfl hl hk (qlv_set (v := .int y)) fun ls' hl' => g x h H locs ls' hP hD hS hl'
theorem QG.istore {k : Nat} {y : Int32} (hX : qok X cc own nL ret d) (hd : qdc cc pc (.istore k) npc) (hn : npc = pc + 2) (hk : k < nL) {lv' : LV} (hs : qset lv k (.int y) = lv') (g : QG X nL Q o npc lv' st Wd ad cells slots) : QG X nL Q o pc lv (.int y :: st) Wd ad cells slots :=
  fun x h H locs ls hP hD hS hl => by subst hn; subst hs; exact lv_istore hX.1 hX.2.1 (qdcn hd rfl) hl hk (qlv_set (v := .int y)) fun ls' hl' => g x h H locs ls' hP hD hS hl'
theorem QG.lstore_n {k : Fin 4} {y : Int64} (hX : qok X cc own nL ret d) (hd : qdc cc pc (.lstore_n k) npc) (hn : npc = pc + 1) (hk : (k : Nat) + 1 < nL) {lv' : LV} (hs : qset2 lv k (.long y) = lv') (g : QG X nL Q o npc lv' st Wd ad cells slots) : QG X nL Q o pc lv (.long y :: st) Wd ad cells slots :=
  fun x h H locs ls hP hD hS hl => by subst hn; subst hs; exact lv_lstore_n hX.1 hX.2.1 (qdcn hd rfl) rfl hl hk (qlv_set2 (v := .long y)) fun ls' hl' => g x h H locs ls' hP hD hS hl'
theorem QG.lstore {k : Nat} {y : Int64} (hX : qok X cc own nL ret d) (hd : qdc cc pc (.lstore k) npc) (hn : npc = pc + 2) (hk : k + 1 < nL) {lv' : LV} (hs : qset2 lv k (.long y) = lv') (g : QG X nL Q o npc lv' st Wd ad cells slots) : QG X nL Q o pc lv (.long y :: st) Wd ad cells slots :=
  fun x h H locs ls hP hD hS hl => by subst hn; subst hs; exact lv_lstore hX.1 hX.2.1 (qdcn hd rfl) hl hk (qlv_set2 (v := .long y)) fun ls' hl' => g x h H locs ls' hP hD hS hl'
theorem QG.astore_n {k : Fin 4} {y : Nat} (hX : qok X cc own nL ret d) (hd : qdc cc pc (.astore_n k) npc) (hn : npc = pc + 1) (hk : (k : Nat) < nL) {lv' : LV} (hs : qset lv k (.ref y) = lv') (g : QG X nL Q o npc lv' st Wd ad cells slots) : QG X nL Q o pc lv (.ref y :: st) Wd ad cells slots :=
  fun x h H locs ls hP hD hS hl => by subst hn; subst hs; exact lv_astore_n hX.1 hX.2.1 (qdcn hd rfl) rfl hl hk (qlv_set (v := .ref y)) fun ls' hl' => g x h H locs ls' hP hD hS hl'
theorem QG.astore {k : Nat} {y : Nat} (hX : qok X cc own nL ret d) (hd : qdc cc pc (.astore k) npc) (hn : npc = pc + 2) (hk : k < nL) {lv' : LV} (hs : qset lv k (.ref y) = lv') (g : QG X nL Q o npc lv' st Wd ad cells slots) : QG X nL Q o pc lv (.ref y :: st) Wd ad cells slots :=
  fun x h H locs ls hP hD hS hl => by subst hn; subst hs; exact lv_astore hX.1 hX.2.1 (qdcn hd rfl) hl hk (qlv_set (v := .ref y)) fun ls' hl' => g x h H locs ls' hP hD hS hl'
theorem QG.astore_nN {k : Fin 4} (hX : qok X cc own nL ret d) (hd : qdc cc pc (.astore_n k) npc) (hn : npc = pc + 1) (hk : (k : Nat) < nL) {lv' : LV} (hs : qset lv k .null = lv') (g : QG X nL Q o npc lv' st Wd ad cells slots) : QG X nL Q o pc lv (.null :: st) Wd ad cells slots :=
  fun x h H locs ls hP hD hS hl => by subst hn; subst hs; exact lv_astore_nN hX.1 hX.2.1 (qdcn hd rfl) rfl hl hk (qlv_set (v := .null)) fun ls' hl' => g x h H locs ls' hP hD hS hl'
theorem QG.astoreN {k : Nat} (hX : qok X cc own nL ret d) (hd : qdc cc pc (.astore k) npc) (hn : npc = pc + 2) (hk : k < nL) {lv' : LV} (hs : qset lv k .null = lv') (g : QG X nL Q o npc lv' st Wd ad cells slots) : QG X nL Q o pc lv (.null :: st) Wd ad cells slots :=
  fun x h H locs ls hP hD hS hl => by subst hn; subst hs; exact lv_astoreN hX.1 hX.2.1 (qdcn hd rfl) hl hk (qlv_set (v := .null)) fun ls' hl' => g x h H locs ls' hP hD hS hl'
theorem QG.iinc {k : Nat} {n : Int} {y v : Int32} (hX : qok X cc own nL ret d) (hd : qdc cc pc (.iinc k n) npc) (hn : npc = pc + 3) (hk : k < nL) (hg : qget lv k = some (.int y)) (hv : Int32.ofInt n = v) {lv' : LV} (hs : qset lv k (.int (y + v)) = lv') (g : QG X nL Q o npc lv' st Wd ad cells slots) : QG X nL Q o pc lv st Wd ad cells slots :=
  fun x h H locs ls hP hD hS hl => by
    subst hn; subst hs; subst hv
    obtain ⟨j, hj⟩ := List.getElem?_of_mem (List.mem_map.mpr ⟨(k, .int y), qget_mem hg, rfl⟩ : (k, Value.int y) ∈ qlv X.sA ad lv)
    exact lv_iinc hX.1 hX.2.1 (qdcn hd rfl) hl hj rfl hk (qlv_set (v := .int (y + Int32.ofInt n))) fun ls' hl' => g x h H locs ls' hP hD hS hl'
theorem QG.iadd {y z : Int32} (hX : qok X cc own nL ret d) (hd : qdc cc pc .iadd npc) (hn : npc = pc + 1) (g : QG X nL Q o npc lv (.int (y + z) :: st) Wd ad cells slots) : QG X nL Q o pc lv (.int z :: .int y :: st) Wd ad cells slots :=
  fun x h H locs ls hP hD hS hl => by subst hn; exact lv_iadd hX.1 hX.2.1 (qdcn hd rfl) (g x h H locs ls hP hD hS hl)
theorem QG.isub {y z : Int32} (hX : qok X cc own nL ret d) (hd : qdc cc pc .isub npc) (hn : npc = pc + 1) (g : QG X nL Q o npc lv (.int (y - z) :: st) Wd ad cells slots) : QG X nL Q o pc lv (.int z :: .int y :: st) Wd ad cells slots :=
  fun x h H locs ls hP hD hS hl => by subst hn; exact lv_isub hX.1 hX.2.1 (qdcn hd rfl) (g x h H locs ls hP hD hS hl)
theorem QG.imul {y z : Int32} (hX : qok X cc own nL ret d) (hd : qdc cc pc .imul npc) (hn : npc = pc + 1) (g : QG X nL Q o npc lv (.int (y * z) :: st) Wd ad cells slots) : QG X nL Q o pc lv (.int z :: .int y :: st) Wd ad cells slots :=
  fun x h H locs ls hP hD hS hl => by subst hn; exact lv_imul hX.1 hX.2.1 (qdcn hd rfl) (g x h H locs ls hP hD hS hl)
theorem QG.iand {y z : Int32} (hX : qok X cc own nL ret d) (hd : qdc cc pc .iand npc) (hn : npc = pc + 1) (g : QG X nL Q o npc lv (.int (y &&& z) :: st) Wd ad cells slots) : QG X nL Q o pc lv (.int z :: .int y :: st) Wd ad cells slots :=
  fun x h H locs ls hP hD hS hl => by subst hn; exact lv_iand hX.1 hX.2.1 (qdcn hd rfl) (g x h H locs ls hP hD hS hl)
theorem QG.ior {y z : Int32} (hX : qok X cc own nL ret d) (hd : qdc cc pc .ior npc) (hn : npc = pc + 1) (g : QG X nL Q o npc lv (.int (y ||| z) :: st) Wd ad cells slots) : QG X nL Q o pc lv (.int z :: .int y :: st) Wd ad cells slots :=
  fun x h H locs ls hP hD hS hl => by subst hn; exact lv_ior hX.1 hX.2.1 (qdcn hd rfl) (g x h H locs ls hP hD hS hl)
theorem QG.ixor {y z : Int32} (hX : qok X cc own nL ret d) (hd : qdc cc pc .ixor npc) (hn : npc = pc + 1) (g : QG X nL Q o npc lv (.int (y ^^^ z) :: st) Wd ad cells slots) : QG X nL Q o pc lv (.int z :: .int y :: st) Wd ad cells slots :=
  fun x h H locs ls hP hD hS hl => by subst hn; exact lv_ixor hX.1 hX.2.1 (qdcn hd rfl) (g x h H locs ls hP hD hS hl)
theorem QG.ishl {y z : Int32} (hX : qok X cc own nL ret d) (hd : qdc cc pc .ishl npc) (hn : npc = pc + 1) (g : QG X nL Q o npc lv (.int (y <<< (z &&& 31)) :: st) Wd ad cells slots) : QG X nL Q o pc lv (.int z :: .int y :: st) Wd ad cells slots :=
  fun x h H locs ls hP hD hS hl => by subst hn; exact lv_ishl hX.1 hX.2.1 (qdcn hd rfl) (g x h H locs ls hP hD hS hl)
theorem QG.ishr {y z : Int32} (hX : qok X cc own nL ret d) (hd : qdc cc pc .ishr npc) (hn : npc = pc + 1) (g : QG X nL Q o npc lv (.int (y >>> (z &&& 31)) :: st) Wd ad cells slots) : QG X nL Q o pc lv (.int z :: .int y :: st) Wd ad cells slots :=
  fun x h H locs ls hP hD hS hl => by subst hn; exact lv_ishr hX.1 hX.2.1 (qdcn hd rfl) (g x h H locs ls hP hD hS hl)
theorem QG.ladd {y z : Int64} (hX : qok X cc own nL ret d) (hd : qdc cc pc .ladd npc) (hn : npc = pc + 1) (g : QG X nL Q o npc lv (.long (y + z) :: st) Wd ad cells slots) : QG X nL Q o pc lv (.long z :: .long y :: st) Wd ad cells slots :=
  fun x h H locs ls hP hD hS hl => by subst hn; exact lv_ladd hX.1 hX.2.1 (qdcn hd rfl) (g x h H locs ls hP hD hS hl)
theorem QG.lsub {y z : Int64} (hX : qok X cc own nL ret d) (hd : qdc cc pc .lsub npc) (hn : npc = pc + 1) (g : QG X nL Q o npc lv (.long (y - z) :: st) Wd ad cells slots) : QG X nL Q o pc lv (.long z :: .long y :: st) Wd ad cells slots :=
  fun x h H locs ls hP hD hS hl => by subst hn; exact lv_lsub hX.1 hX.2.1 (qdcn hd rfl) (g x h H locs ls hP hD hS hl)
theorem QG.lmul {y z : Int64} (hX : qok X cc own nL ret d) (hd : qdc cc pc .lmul npc) (hn : npc = pc + 1) (g : QG X nL Q o npc lv (.long (y * z) :: st) Wd ad cells slots) : QG X nL Q o pc lv (.long z :: .long y :: st) Wd ad cells slots :=
  fun x h H locs ls hP hD hS hl => by subst hn; exact lv_lmul hX.1 hX.2.1 (qdcn hd rfl) (g x h H locs ls hP hD hS hl)
theorem QG.land {y z : Int64} (hX : qok X cc own nL ret d) (hd : qdc cc pc .land npc) (hn : npc = pc + 1) (g : QG X nL Q o npc lv (.long (y &&& z) :: st) Wd ad cells slots) : QG X nL Q o pc lv (.long z :: .long y :: st) Wd ad cells slots :=
  fun x h H locs ls hP hD hS hl => by subst hn; exact lv_land hX.1 hX.2.1 (qdcn hd rfl) (g x h H locs ls hP hD hS hl)
theorem QG.lor {y z : Int64} (hX : qok X cc own nL ret d) (hd : qdc cc pc .lor npc) (hn : npc = pc + 1) (g : QG X nL Q o npc lv (.long (y ||| z) :: st) Wd ad cells slots) : QG X nL Q o pc lv (.long z :: .long y :: st) Wd ad cells slots :=
  fun x h H locs ls hP hD hS hl => by subst hn; exact lv_lor hX.1 hX.2.1 (qdcn hd rfl) (g x h H locs ls hP hD hS hl)
theorem QG.iushr {y z : Int32} (hX : qok X cc own nL ret d) (hd : qdc cc pc .iushr npc) (hn : npc = pc + 1) (g : QG X nL Q o npc lv (.int ((y.toUInt32 >>> (z.toUInt32 &&& Int32.toUInt32 31)).toInt32) :: st) Wd ad cells slots) : QG X nL Q o pc lv (.int z :: .int y :: st) Wd ad cells slots :=
  fun x h H locs ls hP hD hS hl => by subst hn; exact lv_iushr hX.1 hX.2.1 (qdcn hd rfl) rfl (g x h H locs ls hP hD hS hl)
theorem QG.lshl {y : Int64} {z : Int32} (hX : qok X cc own nL ret d) (hd : qdc cc pc .lshl npc) (hn : npc = pc + 1) (g : QG X nL Q o npc lv (.long (y <<< (z.toInt64 &&& 63)) :: st) Wd ad cells slots) : QG X nL Q o pc lv (.int z :: .long y :: st) Wd ad cells slots :=
  fun x h H locs ls hP hD hS hl => by subst hn; exact lv_lshl hX.1 hX.2.1 (qdcn hd rfl) rfl (g x h H locs ls hP hD hS hl)
theorem QG.ineg {y : Int32} (hX : qok X cc own nL ret d) (hd : qdc cc pc .ineg npc) (hn : npc = pc + 1) (g : QG X nL Q o npc lv (.int (-y) :: st) Wd ad cells slots) : QG X nL Q o pc lv (.int y :: st) Wd ad cells slots :=
  fun x h H locs ls hP hD hS hl => by subst hn; exact lv_ineg hX.1 hX.2.1 (qdcn hd rfl) (g x h H locs ls hP hD hS hl)
theorem QG.i2l {y : Int32} (hX : qok X cc own nL ret d) (hd : qdc cc pc .i2l npc) (hn : npc = pc + 1) (g : QG X nL Q o npc lv (.long y.toInt64 :: st) Wd ad cells slots) : QG X nL Q o pc lv (.int y :: st) Wd ad cells slots :=
  fun x h H locs ls hP hD hS hl => by subst hn; exact lv_i2l hX.1 hX.2.1 (qdcn hd rfl) rfl (g x h H locs ls hP hD hS hl)
theorem QG.lcmp {y z : Int64} (hX : qok X cc own nL ret d) (hd : qdc cc pc .lcmp npc) (hn : npc = pc + 1) (g : QG X nL Q o npc lv (.int (lg_cmp y z) :: st) Wd ad cells slots) : QG X nL Q o pc lv (.long z :: .long y :: st) Wd ad cells slots :=
  fun x h H locs ls hP hD hS hl => by subst hn; exact W.lcmp hX.1 hX.2.1 (qdcn hd rfl) (g x h H locs ls hP hD hS hl)
theorem QG.idiv {y z : Int32} (hX : qok X cc own nL ret d) (hd : qdc cc pc .idiv npc) (hn : npc = pc + 1) (g : QG X nL Q o npc lv (.int (y / z) :: st) Wd ad cells slots) : QG X nL Q (if z = 0 then none else o) pc lv (.int z :: .int y :: st) Wd ad cells slots :=
  fun x h H locs ls hP hD hS hl => by
    subst hn
    by_cases hz : z = 0
    · rw [if_pos hz] at h; cases h
    · rw [if_neg hz] at h
      exact lv_idiv hX.1 hX.2.1 (qdcn hd rfl) hz (g x h H locs ls hP hD hS hl)
theorem QG.irem {y z : Int32} (hX : qok X cc own nL ret d) (hd : qdc cc pc .irem npc) (hn : npc = pc + 1) (g : QG X nL Q o npc lv (.int (y - y / z * z) :: st) Wd ad cells slots) : QG X nL Q (if z = 0 then none else o) pc lv (.int z :: .int y :: st) Wd ad cells slots :=
  fun x h H locs ls hP hD hS hl => by
    subst hn
    by_cases hz : z = 0
    · rw [if_pos hz] at h; cases h
    · rw [if_neg hz] at h
      exact lv_irem hX.1 hX.2.1 (qdcn hd rfl) hz (g x h H locs ls hP hD hS hl)
theorem QG.idivK {y z : Int32} (hX : qok X cc own nL ret d) (hd : qdc cc pc .idiv npc) (hn : npc = pc + 1) (hz : ¬ z = 0) (g : QG X nL Q o npc lv (.int (y / z) :: st) Wd ad cells slots) : QG X nL Q o pc lv (.int z :: .int y :: st) Wd ad cells slots :=
  fun x h H locs ls hP hD hS hl => by subst hn; exact lv_idiv hX.1 hX.2.1 (qdcn hd rfl) hz (g x h H locs ls hP hD hS hl)
theorem QG.iremK {y z : Int32} (hX : qok X cc own nL ret d) (hd : qdc cc pc .irem npc) (hn : npc = pc + 1) (hz : ¬ z = 0) (g : QG X nL Q o npc lv (.int (y - y / z * z) :: st) Wd ad cells slots) : QG X nL Q o pc lv (.int z :: .int y :: st) Wd ad cells slots :=
  fun x h H locs ls hP hD hS hl => by subst hn; exact lv_irem hX.1 hX.2.1 (qdcn hd rfl) hz (g x h H locs ls hP hD hS hl)
theorem QG.dup {y : Value} (hX : qok X cc own nL ret d) (hd : qdc cc pc .dup npc) (hn : npc = pc + 1) (hc : y.category = 1) (g : QG X nL Q o npc lv (y :: y :: st) Wd ad cells slots) : QG X nL Q o pc lv (y :: st) Wd ad cells slots :=
  fun x h H locs ls hP hD hS hl => by subst hn; exact lv_dup hX.1 hX.2.1 (qdcn hd rfl) ((qv_cat X.sA ad y).trans hc) (g x h H locs ls hP hD hS hl)
theorem QG.pop {y : Value} (hX : qok X cc own nL ret d) (hd : qdc cc pc .pop npc) (hn : npc = pc + 1) (hc : y.category = 1) (g : QG X nL Q o npc lv st Wd ad cells slots) : QG X nL Q o pc lv (y :: st) Wd ad cells slots :=
  fun x h H locs ls hP hD hS hl => by subst hn; exact lv_pop hX.1 hX.2.1 (qdcn hd rfl) ((qv_cat X.sA ad y).trans hc) (g x h H locs ls hP hD hS hl)
theorem QG.dup2 {y z : Value} (hX : qok X cc own nL ret d) (hd : qdc cc pc .dup2 npc) (hn : npc = pc + 1) (hc : y.category = 1) (hz : z.category = 1) (g : QG X nL Q o npc lv (y :: z :: y :: z :: st) Wd ad cells slots) : QG X nL Q o pc lv (y :: z :: st) Wd ad cells slots :=
  fun x h H locs ls hP hD hS hl => by subst hn; exact lv_dup2_11 hX.1 hX.2.1 (qdcn hd rfl) ((qv_cat X.sA ad y).trans hc) ((qv_cat X.sA ad z).trans hz) (g x h H locs ls hP hD hS hl)
theorem QG.if_eq {y : Int32} {off : Int} {tgt : Nat} (hX : qok X cc own nL ret d) (hd : qdc cc pc (.ifCond .eq off) npc) (hn : npc = pc + 3) (ht : (pc : Int) + off = (tgt : Int)) (gT : QG X nL Q oT tgt lv st Wd ad cells slots) (gF : QG X nL Q oF npc lv st Wd ad cells slots) : QG X nL Q (if y = 0 then oT else oF) pc lv (.int y :: st) Wd ad cells slots :=
  fun x h H locs ls hP hD hS hl => by subst hn; exact lv_if_eq hX.1 hX.2.1 (qdcn hd rfl) ht (fun c => by rw [if_pos c] at h; exact gT x h H locs ls hP hD hS hl) (fun c => by rw [if_neg c] at h; exact gF x h H locs ls hP hD hS hl)
theorem QG.icmp_eq {y z : Int32} {off : Int} {tgt : Nat} (hX : qok X cc own nL ret d) (hd : qdc cc pc (.if_icmp .eq off) npc) (hn : npc = pc + 3) (ht : (pc : Int) + off = (tgt : Int)) (gT : QG X nL Q oT tgt lv st Wd ad cells slots) (gF : QG X nL Q oF npc lv st Wd ad cells slots) : QG X nL Q (if y = z then oT else oF) pc lv (.int z :: .int y :: st) Wd ad cells slots :=
  fun x h H locs ls hP hD hS hl => by subst hn; exact lv_icmp_eq hX.1 hX.2.1 (qdcn hd rfl) ht (fun c => by rw [if_pos c] at h; exact gT x h H locs ls hP hD hS hl) (fun c => by rw [if_neg c] at h; exact gF x h H locs ls hP hD hS hl)
theorem QG.if_ne {y : Int32} {off : Int} {tgt : Nat} (hX : qok X cc own nL ret d) (hd : qdc cc pc (.ifCond .ne off) npc) (hn : npc = pc + 3) (ht : (pc : Int) + off = (tgt : Int)) (gT : QG X nL Q oT tgt lv st Wd ad cells slots) (gF : QG X nL Q oF npc lv st Wd ad cells slots) : QG X nL Q (if y = 0 then oF else oT) pc lv (.int y :: st) Wd ad cells slots :=
  fun x h H locs ls hP hD hS hl => by subst hn; exact lv_if_ne hX.1 hX.2.1 (qdcn hd rfl) ht (fun c => by rw [if_neg c] at h; exact gT x h H locs ls hP hD hS hl) (fun c => by rw [if_pos c] at h; exact gF x h H locs ls hP hD hS hl)
theorem QG.icmp_ne {y z : Int32} {off : Int} {tgt : Nat} (hX : qok X cc own nL ret d) (hd : qdc cc pc (.if_icmp .ne off) npc) (hn : npc = pc + 3) (ht : (pc : Int) + off = (tgt : Int)) (gT : QG X nL Q oT tgt lv st Wd ad cells slots) (gF : QG X nL Q oF npc lv st Wd ad cells slots) : QG X nL Q (if y = z then oF else oT) pc lv (.int z :: .int y :: st) Wd ad cells slots :=
  fun x h H locs ls hP hD hS hl => by subst hn; exact lv_icmp_ne hX.1 hX.2.1 (qdcn hd rfl) ht (fun c => by rw [if_neg c] at h; exact gT x h H locs ls hP hD hS hl) (fun c => by rw [if_pos c] at h; exact gF x h H locs ls hP hD hS hl)
theorem QG.if_lt {y : Int32} {off : Int} {tgt : Nat} (hX : qok X cc own nL ret d) (hd : qdc cc pc (.ifCond .lt off) npc) (hn : npc = pc + 3) (ht : (pc : Int) + off = (tgt : Int)) (gT : QG X nL Q oT tgt lv st Wd ad cells slots) (gF : QG X nL Q oF npc lv st Wd ad cells slots) : QG X nL Q (if y < 0 then oT else oF) pc lv (.int y :: st) Wd ad cells slots :=
  fun x h H locs ls hP hD hS hl => by subst hn; exact lv_if_lt hX.1 hX.2.1 (qdcn hd rfl) ht (fun c => by rw [if_pos c] at h; exact gT x h H locs ls hP hD hS hl) (fun c => by rw [if_neg c] at h; exact gF x h H locs ls hP hD hS hl)
theorem QG.icmp_lt {y z : Int32} {off : Int} {tgt : Nat} (hX : qok X cc own nL ret d) (hd : qdc cc pc (.if_icmp .lt off) npc) (hn : npc = pc + 3) (ht : (pc : Int) + off = (tgt : Int)) (gT : QG X nL Q oT tgt lv st Wd ad cells slots) (gF : QG X nL Q oF npc lv st Wd ad cells slots) : QG X nL Q (if y < z then oT else oF) pc lv (.int z :: .int y :: st) Wd ad cells slots :=
  fun x h H locs ls hP hD hS hl => by subst hn; exact lv_icmp_lt hX.1 hX.2.1 (qdcn hd rfl) ht (fun c => by rw [if_pos c] at h; exact gT x h H locs ls hP hD hS hl) (fun c => by rw [if_neg c] at h; exact gF x h H locs ls hP hD hS hl)
theorem QG.if_ge {y : Int32} {off : Int} {tgt : Nat} (hX : qok X cc own nL ret d) (hd : qdc cc pc (.ifCond .ge off) npc) (hn : npc = pc + 3) (ht : (pc : Int) + off = (tgt : Int)) (gT : QG X nL Q oT tgt lv st Wd ad cells slots) (gF : QG X nL Q oF npc lv st Wd ad cells slots) : QG X nL Q (if 0 ≤ y then oT else oF) pc lv (.int y :: st) Wd ad cells slots :=
  fun x h H locs ls hP hD hS hl => by subst hn; exact lv_if_ge hX.1 hX.2.1 (qdcn hd rfl) ht (fun c => by rw [if_pos c] at h; exact gT x h H locs ls hP hD hS hl) (fun c => by rw [if_neg c] at h; exact gF x h H locs ls hP hD hS hl)
theorem QG.icmp_ge {y z : Int32} {off : Int} {tgt : Nat} (hX : qok X cc own nL ret d) (hd : qdc cc pc (.if_icmp .ge off) npc) (hn : npc = pc + 3) (ht : (pc : Int) + off = (tgt : Int)) (gT : QG X nL Q oT tgt lv st Wd ad cells slots) (gF : QG X nL Q oF npc lv st Wd ad cells slots) : QG X nL Q (if z ≤ y then oT else oF) pc lv (.int z :: .int y :: st) Wd ad cells slots :=
  fun x h H locs ls hP hD hS hl => by subst hn; exact lv_icmp_ge hX.1 hX.2.1 (qdcn hd rfl) ht (fun c => by rw [if_pos c] at h; exact gT x h H locs ls hP hD hS hl) (fun c => by rw [if_neg c] at h; exact gF x h H locs ls hP hD hS hl)
theorem QG.if_gt {y : Int32} {off : Int} {tgt : Nat} (hX : qok X cc own nL ret d) (hd : qdc cc pc (.ifCond .gt off) npc) (hn : npc = pc + 3) (ht : (pc : Int) + off = (tgt : Int)) (gT : QG X nL Q oT tgt lv st Wd ad cells slots) (gF : QG X nL Q oF npc lv st Wd ad cells slots) : QG X nL Q (if 0 < y then oT else oF) pc lv (.int y :: st) Wd ad cells slots :=
  fun x h H locs ls hP hD hS hl => by subst hn; exact lv_if_gt hX.1 hX.2.1 (qdcn hd rfl) ht (fun c => by rw [if_pos c] at h; exact gT x h H locs ls hP hD hS hl) (fun c => by rw [if_neg c] at h; exact gF x h H locs ls hP hD hS hl)
theorem QG.icmp_gt {y z : Int32} {off : Int} {tgt : Nat} (hX : qok X cc own nL ret d) (hd : qdc cc pc (.if_icmp .gt off) npc) (hn : npc = pc + 3) (ht : (pc : Int) + off = (tgt : Int)) (gT : QG X nL Q oT tgt lv st Wd ad cells slots) (gF : QG X nL Q oF npc lv st Wd ad cells slots) : QG X nL Q (if z < y then oT else oF) pc lv (.int z :: .int y :: st) Wd ad cells slots :=
  fun x h H locs ls hP hD hS hl => by subst hn; exact lv_icmp_gt hX.1 hX.2.1 (qdcn hd rfl) ht (fun c => by rw [if_pos c] at h; exact gT x h H locs ls hP hD hS hl) (fun c => by rw [if_neg c] at h; exact gF x h H locs ls hP hD hS hl)
theorem QG.if_le {y : Int32} {off : Int} {tgt : Nat} (hX : qok X cc own nL ret d) (hd : qdc cc pc (.ifCond .le off) npc) (hn : npc = pc + 3) (ht : (pc : Int) + off = (tgt : Int)) (gT : QG X nL Q oT tgt lv st Wd ad cells slots) (gF : QG X nL Q oF npc lv st Wd ad cells slots) : QG X nL Q (if y ≤ 0 then oT else oF) pc lv (.int y :: st) Wd ad cells slots :=
  fun x h H locs ls hP hD hS hl => by subst hn; exact lv_if_le hX.1 hX.2.1 (qdcn hd rfl) ht (fun c => by rw [if_pos c] at h; exact gT x h H locs ls hP hD hS hl) (fun c => by rw [if_neg c] at h; exact gF x h H locs ls hP hD hS hl)
theorem QG.icmp_le {y z : Int32} {off : Int} {tgt : Nat} (hX : qok X cc own nL ret d) (hd : qdc cc pc (.if_icmp .le off) npc) (hn : npc = pc + 3) (ht : (pc : Int) + off = (tgt : Int)) (gT : QG X nL Q oT tgt lv st Wd ad cells slots) (gF : QG X nL Q oF npc lv st Wd ad cells slots) : QG X nL Q (if y ≤ z then oT else oF) pc lv (.int z :: .int y :: st) Wd ad cells slots :=
  fun x h H locs ls hP hD hS hl => by subst hn; exact lv_icmp_le hX.1 hX.2.1 (qdcn hd rfl) ht (fun c => by rw [if_pos c] at h; exact gT x h H locs ls hP hD hS hl) (fun c => by rw [if_neg c] at h; exact gF x h H locs ls hP hD hS hl)
theorem QG.goto {off : Int} {tgt : Nat} (hX : qok X cc own nL ret d) (hd : qdc cc pc (.goto off) npc) (hn : npc = pc + 3) (ht : (pc : Int) + off = (tgt : Int)) (g : QG X nL Q o tgt lv st Wd ad cells slots) : QG X nL Q o pc lv st Wd ad cells slots :=
  fun x h H locs ls hP hD hS hl => by subst hn; exact lv_goto hX.1 hX.2.1 (qdcn hd rfl) ht (g x h H locs ls hP hD hS hl)
theorem QG.nonnull {y : Nat} {off : Int} {tgt : Nat} (hX : qok X cc own nL ret d) (hd : qdc cc pc (.ifnonnull off) npc) (hn : npc = pc + 3) (ht : (pc : Int) + off = (tgt : Int)) (g : QG X nL Q o tgt lv st Wd ad cells slots) : QG X nL Q o pc lv (.ref y :: st) Wd ad cells slots :=
  fun x h H locs ls hP hD hS hl => by subst hn; exact lv_ifnonnull hX.1 hX.2.1 (qdcn hd rfl) ht (g x h H locs ls hP hD hS hl)
theorem QG.isnull {y : Nat} {off : Int} (hX : qok X cc own nL ret d) (hd : qdc cc pc (.ifnull off) npc) (hn : npc = pc + 3) (g : QG X nL Q o npc lv st Wd ad cells slots) : QG X nL Q o pc lv (.ref y :: st) Wd ad cells slots :=
  fun x h H locs ls hP hD hS hl => by subst hn; exact lv_ifnull hX.1 hX.2.1 (qdcn hd rfl) (g x h H locs ls hP hD hS hl)
theorem QG.isnullN {off : Int} {tgt : Nat} (hX : qok X cc own nL ret d) (hd : qdc cc pc (.ifnull off) npc) (hn : npc = pc + 3) (ht : (pc : Int) + off = (tgt : Int)) (g : QG X nL Q o tgt lv st Wd ad cells slots) : QG X nL Q o pc lv (.null :: st) Wd ad cells slots :=
  fun x h H locs ls hP hD hS hl => by subst hn; exact lv_ifnullN hX.1 hX.2.1 (qdcn hd rfl) ht (g x h H locs ls hP hD hS hl)
theorem QG.nonnullN {off : Int} (hX : qok X cc own nL ret d) (hd : qdc cc pc (.ifnonnull off) npc) (hn : npc = pc + 3) (g : QG X nL Q o npc lv st Wd ad cells slots) : QG X nL Q o pc lv (.null :: st) Wd ad cells slots :=
  fun x h H locs ls hP hD hS hl => by subst hn; exact lv_ifnonnullN hX.1 hX.2.1 (qdcn hd rfl) (g x h H locs ls hP hD hS hl)
end R1

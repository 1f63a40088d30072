/-- field k of the number ci of the classes, by pool entry idx of own -/
def qfl (own : String) (idx ci k : Nat) : Prop := ∃ (C : String) (T : u_T) (N : Nat) (ty0 : Nat → FieldType), vwCl[ci]? = some (C, T, N) ∧ k < N ∧ Cond.fieldLink own idx (T k).1 (T k).2.1 (T k).2.2.1 ∈ gtb ∧ (∀ w ∈ u_ws C T N, w ∈ gtb) ∧ (∀ k, k < N → parseFieldDescriptor (T k).2.2.1 = some (ty0 k)) ∧ (∀ a, a < N → ∀ b, b < N → a ≠ b → (T a).2.1 ≠ (T b).2.1)
/-- that field isn't final, and is of type ty -/
def qfp (ci k : Nat) (ty : FieldType) : Bool := match vwCl[ci]? with
  | some (_, T, _) => decide ((T k).2.2.2 = false) && decide (parseFieldDescriptor (T k).2.2.1 = some ty)
  | none => false
def qfF (ci k : Nat) (ty : FieldType) (own : String) : Bool := match vwCl[ci]? with
  | some (_, T, _) => decide ((T k).2.2.2 = true) && decide (parseFieldDescriptor (T k).2.2.1 = some ty) && decide ((T k).1 = own)
  | none => false
theorem qb_nar (b : Bool) : narrow .boolean (.int (qb b)) = .int (qb b) := by cases b <;> decide +kernel
theorem qb_fit (b : Bool) : fits .boolean (.int (qb b)) = true := by cases b <;> decide +kernel
/-- a value that a field of type ty takes as it is -/
def qfit (ty : FieldType) (v : Value) : Prop := ∀ sA ad : Nat → Nat, narrow ty (qv sA ad v) = qv sA ad v ∧ fits ty (qv sA ad v) = true
theorem qfit_i (x : Int32) : qfit .int (.int x) := fun _ _ => ⟨rfl, rfl⟩
theorem qfit_z (b : Bool) : qfit .boolean (.int (qb b)) := fun _ _ => ⟨qb_nar b, qb_fit b⟩
theorem qfit_z1 : qfit .boolean (.int 1) := qfit_z true
theorem qfit_z0 : qfit .boolean (.int 0) := qfit_z false
theorem qfit_r (C : String) (k : Nat) : qfit (.object C) (.ref k) := fun _ _ => ⟨rfl, rfl⟩
theorem qfit_a (t : FieldType) (k : Nat) : qfit (.array t) (.ref k) := fun _ _ => ⟨rfl, rfl⟩
theorem qfit_n (C : String) : qfit (.object C) .null := fun _ _ => ⟨rfl, rfl⟩
section R2
variable {α : Type} {X : QX} {cc : ByteArray} {own : String} {nL : Nat} {ret : Option FieldType} {d : Nat} {Q : α → State → Prop} {o oT oF : Option α} {pc npc : Nat} {lv : LV} {st : List Value} {Wd : List AC} {ad : Nat → Nat} {cells slots : Nat}
theorem QG.getf {idx ci k a : Nat} {fs : List Value} {v : Value} (hX : qok X cc own nL ret d) (hf : qfl own idx ci k) (hd : qdc cc pc (.getfield idx) npc) (hn : npc = pc + 3) (ha : Wd[a]? = some (.inr (ci, fs))) (hv : fs[k]? = some v) (g : QG X nL Q o npc lv (v :: st) Wd ad cells slots) : QG X nL Q o pc lv (.ref a :: st) Wd ad cells slots :=
  fun x h H locs ls hP hD hS hl => by
    subst hn
    obtain ⟨C, T, N, ty0, h1, h2, h3, h4, h5, h6⟩ := hf
    refine va_get (D := (X.dC, X.dI)) (cl := vwCl) hX.1 hX.2.1 hX.2.2.2.2.2.1 h4 hX.2.2.2.2.1 hX.2.2.2.2.2.2.2.2.1 hP a (qw_at ha) h1 k h2 (hX.2.2.2.2.2.1 _ h3) (fun _ z => z) (v := qv X.sA ad v) ?_ (qdcn hd rfl) (g x h H locs ls hP hD hS hl)
    rw [List.getElem?_map, hv]; rfl
theorem QG.putf {idx ci k a : Nat} {fs : List Value} {v : Value} {ty : FieldType} (hX : qok X cc own nL ret d) (hf : qfl own idx ci k) (hp : qfp ci k ty = true) (hd : qdc cc pc (.putfield idx) npc) (hn : npc = pc + 3) (ha : Wd[a]? = some (.inr (ci, fs))) (hk : k < fs.length) (hfit : qfit ty v) {Wd' : List AC} (hw : Wd.set a (.inr (ci, fs.set k v)) = Wd') (g : QG X nL Q o npc lv st Wd' ad cells slots) : QG X nL Q o pc lv (v :: .ref a :: st) Wd ad cells slots :=
  fun x h H locs ls hP hD hS hl => by
    subst hn; subst hw
    obtain ⟨C, T, N, ty0, h1, h2, h3, h4, h5, h6⟩ := hf
    simp only [qfp, h1, Bool.and_eq_true, decide_eq_true_eq] at hp
    have e : ∀ y : Nat × va_E, y = (ad a, .inr (ci, (fs.map (qv X.sA ad)).set k (qv X.sA ad v))) → y = (ad a, qc X.dA X.sA ad (.inr (ci, fs.set k v))) := fun y hy => by rw [hy]; simp only [qc, List.map_set]
    refine va_put (D := (X.dC, X.dI)) (cl := vwCl) (ty := ty) (v := qv X.sA ad v) hX.1 hX.2.1 hX.2.2.2.2.2.1 h4 ty0 h5 h6 hX.2.2.2.2.1 hX.2.2.2.2.2.2.2.2.1 hP hD hS a (qw_at ha) h1 k h2 (hX.2.2.2.2.2.1 _ h3) (fun _ z => z) hp.1 hp.2 (hfit X.sA ad).1 (hfit X.sA ad).2 (by rw [List.length_map]; exact hk) (qdcn hd rfl) fun H1 locs1 hP1 hD1 hS1 => ?_
    rw [e _ rfl, qw_set] at hP1 hD1
    exact g x h H1 locs1 ls hP1 hD1 hS1 hl
theorem QG.iald {a n : Nat} {f : Nat → Int32} {i : Int32} (hX : qok X cc own nL ret d) (hd : qdc cc pc .iaload npc) (hn : npc = pc + 1) (ha : Wd[a]? = some (.inl (0, n, .inl f))) (g : QG X nL Q o npc lv (.int (f i.toNatClampNeg) :: st) Wd ad cells slots) : QG X nL Q (ck (inb i n) o) pc lv (.int i :: .ref a :: st) Wd ad cells slots :=
  QG.chk fun hi x h H locs ls hP hD hS hl => by
    subst hn
    exact va_iald (D := (X.dC, X.dI)) (cl := vwCl) hX.1 hX.2.1 hX.2.2.2.2.2.2.2.2.1 hP a 0 (qw_at ha) rfl (inb_vp hi) (qdcn hd rfl) (g x h H locs ls hP hD hS hl)
theorem QG.zald {a n : Nat} {f : Nat → Int32} {i : Int32} (hX : qok X cc own nL ret d) (hd : qdc cc pc .baload npc) (hn : npc = pc + 1) (ha : Wd[a]? = some (.inl (2, n, .inl f))) (g : QG X nL Q o npc lv (.int (f i.toNatClampNeg) :: st) Wd ad cells slots) : QG X nL Q (ck (inb i n) o) pc lv (.int i :: .ref a :: st) Wd ad cells slots :=
  QG.chk fun hi x h H locs ls hP hD hS hl => by
    subst hn
    exact va_zald (D := (X.dC, X.dI)) (cl := vwCl) hX.1 hX.2.1 hX.2.2.2.2.2.2.2.2.1 hP a 2 (qw_at ha) rfl (inb_vp hi) (qdcn hd rfl) (g x h H locs ls hP hD hS hl)
theorem QG.lald {a n : Nat} {f : Nat → Int64} {i : Int32} (hX : qok X cc own nL ret d) (hd : qdc cc pc .laload npc) (hn : npc = pc + 1) (ha : Wd[a]? = some (.inl (1, n, .inr (.inl f)))) (g : QG X nL Q o npc lv (.long (f i.toNatClampNeg) :: st) Wd ad cells slots) : QG X nL Q (ck (inb i n) o) pc lv (.int i :: .ref a :: st) Wd ad cells slots :=
  QG.chk fun hi x h H locs ls hP hD hS hl => by
    subst hn
    exact va_lald (D := (X.dC, X.dI)) (cl := vwCl) hX.1 hX.2.1 hX.2.2.2.2.2.2.2.2.1 hP a 1 (qw_at ha) rfl (inb_vp hi) (qdcn hd rfl) (g x h H locs ls hP hD hS hl)
theorem QG.iast {a n : Nat} {f : Nat → Int32} {i y : Int32} (hX : qok X cc own nL ret d) (hd : qdc cc pc .iastore npc) (hn : npc = pc + 1) (ha : Wd[a]? = some (.inl (0, n, .inl f))) {Wd' : List AC} (hw : Wd.set a (.inl (0, n, .inl (upd f i.toNatClampNeg y))) = Wd') (g : QG X nL Q o npc lv st Wd' ad cells slots) : QG X nL Q (ck (inb i n) o) pc lv (.int y :: .int i :: .ref a :: st) Wd ad cells slots :=
  QG.chk fun hi x h H locs ls hP hD hS hl => by
    subst hn; subst hw
    refine va_iast (D := (X.dC, X.dI)) (cl := vwCl) hX.1 hX.2.1 hX.2.2.2.2.2.2.2.2.1 hP hD hS a 0 (qw_at ha) rfl (inb_vp hi) (qdcn hd rfl) fun H1 locs1 hP1 hD1 hS1 => ?_
    rw [show (ad a, (Sum.inl (X.dA 0, n, .inl (upd f i.toNatClampNeg y)) : va_E)) = (ad a, qc X.dA X.sA ad (.inl (0, n, .inl (upd f i.toNatClampNeg y)))) from rfl, qw_set] at hP1 hD1
    exact g x h H1 locs1 ls hP1 hD1 hS1 hl
theorem QG.zast {a n : Nat} {f : Nat → Int32} {i y : Int32} (hX : qok X cc own nL ret d) (hd : qdc cc pc .bastore npc) (hn : npc = pc + 1) (ha : Wd[a]? = some (.inl (2, n, .inl f))) (hy : vp_nar .boolean y = y) {Wd' : List AC} (hw : Wd.set a (.inl (2, n, .inl (upd f i.toNatClampNeg y))) = Wd') (g : QG X nL Q o npc lv st Wd' ad cells slots) : QG X nL Q (ck (inb i n) o) pc lv (.int y :: .int i :: .ref a :: st) Wd ad cells slots :=
  QG.chk fun hi x h H locs ls hP hD hS hl => by
    subst hn; subst hw
    refine va_zast (D := (X.dC, X.dI)) (cl := vwCl) hX.1 hX.2.1 hX.2.2.2.2.2.2.2.2.1 hP hD hS a 2 (qw_at ha) rfl (inb_vp hi) (qdcn hd rfl) fun H1 locs1 hP1 hD1 hS1 => ?_
    rw [hy, show (ad a, (Sum.inl (X.dA 2, n, .inl (upd f i.toNatClampNeg y)) : va_E)) = (ad a, qc X.dA X.sA ad (.inl (2, n, .inl (upd f i.toNatClampNeg y)))) from rfl, qw_set] at hP1 hD1
    exact g x h H1 locs1 ls hP1 hD1 hS1 hl
theorem QG.last {a n : Nat} {f : Nat → Int64} {i : Int32} {y : Int64} (hX : qok X cc own nL ret d) (hd : qdc cc pc .lastore npc) (hn : npc = pc + 1) (ha : Wd[a]? = some (.inl (1, n, .inr (.inl f)))) {Wd' : List AC} (hw : Wd.set a (.inl (1, n, .inr (.inl (vp_updL f i.toNatClampNeg y)))) = Wd') (g : QG X nL Q o npc lv st Wd' ad cells slots) : QG X nL Q (ck (inb i n) o) pc lv (.long y :: .int i :: .ref a :: st) Wd ad cells slots :=
  QG.chk fun hi x h H locs ls hP hD hS hl => by
    subst hn; subst hw
    refine va_last (D := (X.dC, X.dI)) (cl := vwCl) hX.1 hX.2.1 hX.2.2.2.2.2.2.2.2.1 hP hD hS a 1 (qw_at ha) rfl (inb_vp hi) (qdcn hd rfl) fun H1 locs1 hP1 hD1 hS1 => ?_
    rw [show (ad a, (Sum.inl (X.dA 1, n, .inr (.inl (vp_updL f i.toNatClampNeg y))) : va_E)) = (ad a, qc X.dA X.sA ad (.inl (1, n, .inr (.inl (vp_updL f i.toNatClampNeg y))))) from rfl, qw_set] at hP1 hD1
    exact g x h H1 locs1 ls hP1 hD1 hS1 hl
theorem qv_rf (sA ad : Nat → Nat) (r : Option Nat) : qv sA ad (va_rf r) = va_rf (r.map ad) := by cases r <;> rfl
theorem QG.aald {a n t : Nat} {f : Nat → Option Nat} {i : Int32} {v : Value} {C : String} (hX : qok X cc own nL ret d) (hd : qdc cc pc .aaload npc) (hn : npc = pc + 1) (ha : Wd[a]? = some (.inl (t, n, .inr (.inr (.inr (.inr f)))))) (ht : (t = 3 ∧ C = RX5) ∨ (t = 4 ∧ C = RX0)) (hi : vp_in i n) (hv : va_rf (f i.toNatClampNeg) = v) (g : QG X nL Q o npc lv (v :: st) Wd ad cells slots) : QG X nL Q o pc lv (.int i :: .ref a :: st) Wd ad cells slots :=
  fun x h H locs ls hP hD hS hl => by
    subst hn; subst hv
    refine va_aldq (D := (X.dC, X.dI)) (cl := vwCl) (C := C) hX.1 hX.2.1 hX.2.2.2.2.2.2.2.2.1 hP a t (qw_at ha) (by rcases ht with ⟨rfl, rfl⟩ | ⟨rfl, rfl⟩ <;> rfl) hi (qdcn hd rfl) ?_
    have g1 := g x h H locs ls hP hD hS hl
    rw [List.map_cons, qv_rf] at g1
    exact g1
theorem QG.alen {a n t : Nat} {v : Int32} {y : vp_A} {ty : FieldType} (hX : qok X cc own nL ret d) (hd : qdc cc pc .arraylength npc) (hn : npc = pc + 1) (ha : Wd[a]? = some (.inl (t, y))) (ht : (qtys X.dA)[t]? = some (X.dA t, ty)) (hy : ∃ f, y = (n, .inl f)) (hv : Int32.ofNat n = v) (g : QG X nL Q o npc lv (.int v :: st) Wd ad cells slots) : QG X nL Q o pc lv (.ref a :: st) Wd ad cells slots :=
  fun x h H locs ls hP hD hS hl => by
    subst hn
    obtain ⟨f, rfl⟩ := hy
    exact va_alen (D := (X.dC, X.dI)) (cl := vwCl) hX.1 hX.2.1 hX.2.2.2.2.2.2.2.2.1 hP a t (qw_at ha) ht hv (qdcn hd rfl) (g x h H locs ls hP hD hS hl)
/-- a static row: read by its nest -/
theorem QG.gets {n dd host : String} {idx j : Nat} {ty : FieldType} {N : Nat} {f : Nat → Int32} (hX : qok X cc own nL ret d) (hs : ∀ A U H, qSt X.sA A U H → qSt1 X.sA j n dd ty N f A U H) (hw : Cond.fieldLinkNest own idx "QuireDesk" n dd host ∈ ntb) (hj : (UInt32.ofNat j).toNat = j) (hd : qdc cc pc (.getstatic idx) npc) (hn : npc = pc + 3) (g : QG X nL Q o npc lv (.float (UInt32.ofNat j) :: st) Wd ad cells slots) : QG X nL Q o pc lv st Wd ad cells slots :=
  fun x h H locs ls hP hD hS hl => by
    subst hn
    have g1 := g x h H locs ls hP hD hS hl
    rw [List.map_cons, show qv X.sA ad (.float (UInt32.ofNat j)) = .ref (X.sA j) by show Value.ref (X.sA (UInt32.ofNat j).toNat) = _; rw [hj]] at g1
    exact va_getsN hX.1 hX.2.1 (hs _ _ _ hX.2.2.2.2.2.2.2.2.2.2.1).1 hS hX.2.2.2.2.1 (va_Nw.use rfl (hX.2.2.2.2.2.2.1 _ hw)) (fun _ z => z) (qdcn hd rfl) g1
theorem QG.sld {n dd : String} {j : Nat} {N : Nat} {f : Nat → Int32} {i : Int32} (hX : qok X cc own nL ret d) (hs : ∀ A U H, qSt X.sA A U H → qSt1 X.sA j n dd .int N f A U H) (hj : (UInt32.ofNat j).toNat = j) (hd : qdc cc pc .iaload npc) (hn : npc = pc + 1) (g : QG X nL Q o npc lv (.int (f i.toNatClampNeg) :: st) Wd ad cells slots) : QG X nL Q (ck (inb i N) o) pc lv (.int i :: .float (UInt32.ofNat j) :: st) Wd ad cells slots :=
  QG.chk fun hi x h H locs ls hP hD hS hl => by
    subst hn
    have g1 := g x h H locs ls hP hD hS hl
    rw [List.map_cons, List.map_cons, show qv X.sA ad (.float (UInt32.ofNat j)) = .ref (X.sA j) by show Value.ref (X.sA (UInt32.ofNat j).toNat) = _; rw [hj]]
    exact va_ti hX.1 hX.2.1 (hs _ _ _ hX.2.2.2.2.2.2.2.2.2.2.1).2 hS (inb_vp hi) rfl (qdcn hd rfl) g1
theorem QG.cld {n dd : String} {j : Nat} {N : Nat} {f : Nat → Int32} {i : Int32} (hX : qok X cc own nL ret d) (hs : ∀ A U H, qSt X.sA A U H → qSt1 X.sA j n dd .char N f A U H) (hj : (UInt32.ofNat j).toNat = j) (hd : qdc cc pc .caload npc) (hn : npc = pc + 1) (g : QG X nL Q o npc lv (.int (f i.toNatClampNeg) :: st) Wd ad cells slots) : QG X nL Q (ck (inb i N) o) pc lv (.int i :: .float (UInt32.ofNat j) :: st) Wd ad cells slots :=
  QG.chk fun hi x h H locs ls hP hD hS hl => by
    subst hn
    have g1 := g x h H locs ls hP hD hS hl
    rw [List.map_cons, List.map_cons, show qv X.sA ad (.float (UInt32.ofNat j)) = .ref (X.sA j) by show Value.ref (X.sA (UInt32.ofNat j).toNat) = _; rw [hj]]
    exact va_tc hX.1 hX.2.1 (hs _ _ _ hX.2.2.2.2.2.2.2.2.2.2.1).2 hS (inb_vp hi) rfl (qdcn hd rfl) g1
/-- switches -/
theorem QG.tswOut {dflt lo hi : Int} {offs : Array Int} {y : Int32} {tgt : Nat} (hX : qok X cc own nL ret d) (hd : qdc cc pc (.tableswitch dflt lo hi offs) npc) (hh : y.toInt < lo ∨ hi < y.toInt) (ht : (pc : Int) + dflt = (tgt : Int)) (g : QG X nL Q o tgt lv st Wd ad cells slots) : QG X nL Q o pc lv (.int y :: st) Wd ad cells slots :=
  fun x h H locs ls hP hD hS hl => lv_tableOut hX.1 hX.2.1 hd.1 hh ht (g x h H locs ls hP hD hS hl)
theorem QG.tswIn {dflt lo hi : Int} {offs : Array Int} {y : Int32} {off : Int} {tgt : Nat} (hX : qok X cc own nL ret d) (hd : qdc cc pc (.tableswitch dflt lo hi offs) npc) (h1 : ¬ y.toInt < lo) (h2 : ¬ hi < y.toInt) (ho : offs[(y.toInt - lo).toNat]? = some off) (ht : (pc : Int) + off = (tgt : Int)) (g : QG X nL Q o tgt lv st Wd ad cells slots) : QG X nL Q o pc lv (.int y :: st) Wd ad cells slots :=
  fun x h H locs ls hP hD hS hl => lv_tableIn hX.1 hX.2.1 hd.1 h1 h2 ho ht (g x h H locs ls hP hD hS hl)
theorem QG.lsw {dflt : Int} {ps : Array (Int × Int)} {y : Int32} {off : Int} {tgt : Nat} (hX : qok X cc own nL ret d) (hd : qdc cc pc (.lookupswitch dflt ps) npc) (hp : (ps.toList.zip (ps.toList.drop 1)).all (fun (a, next) => a.1 < next.1) = true) (ho : Op.lookupswitch.offset ps.toList dflt y.toInt = off) (ht : (pc : Int) + off = (tgt : Int)) (g : QG X nL Q o tgt lv st Wd ad cells slots) : QG X nL Q o pc lv (.int y :: st) Wd ad cells slots :=
  fun x h H locs ls hP hD hS hl => lv_lookup hX.1 hX.2.1 hd.1 hp ho ht (g x h H locs ls hP hD hS hl)
theorem QG.ite {c : Prop} {hc : Decidable c} (gT : c → QG X nL Q oT pc lv st Wd ad cells slots) (gF : ¬ c → QG X nL Q oF pc lv st Wd ad cells slots) : QG X nL Q (if c then oT else oF) pc lv st Wd ad cells slots :=
  fun x h => by
    by_cases q : c
    · rw [if_pos q] at h; exact gT q x h
    · rw [if_neg q] at h; exact gF q x h
end R2

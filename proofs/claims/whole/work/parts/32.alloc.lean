/-! new cells -/
def qup (ad : Nat → Nat) (n q : Nat) : Nat → Nat := fun k => if k = n then q else ad k
def qvB (n : Nat) : Value → Bool
  | .ref k => Nat.blt k n
  | _ => true
/-- all numbers of cells that stand there are below n (rows of references apart) -/
def qcB (n : Nat) : AC → Bool
  | .inl _ => true
  | .inr (_, fs) => fs.all (qvB n)
def qrR (n : Nat) : AC → Prop
  | .inl (_, _, .inr (.inr (.inr (.inr f)))) => ∀ j k, f j = some k → k < n
  | _ => True
def qnr : Value → Bool
  | .ref _ => false
  | .float _ => false
  | _ => true
theorem qv_nr {sA ad : Nat → Nat} {v : Value} (h : qnr v = true) : qv sA ad v = v := by
  cases v <;> first | rfl | cases h
theorem qvs_nr {sA ad : Nat → Nat} {fs : List Value} (h : fs.all qnr = true) : fs.map (qv sA ad) = fs := by
  have : ∀ l : List Value, l.all qnr = true → l.map (qv sA ad) = l := by
    intro l
    induction l with
    | nil => intro _; rfl
    | cons v l ih =>
      intro hl
      rw [List.all_cons, Bool.and_eq_true] at hl
      rw [List.map_cons, qv_nr hl.1, ih hl.2]
  exact this fs h
theorem qv_eq {sA ad ad' : Nat → Nat} {n : Nat} {v : Value} (h : qvB n v = true) (ha : ∀ k, k < n → ad' k = ad k) : qv sA ad' v = qv sA ad v := by
  cases v with
  | ref k =>
    have hk : k < n := Nat.le_of_ble_eq_true h
    show Value.ref (ad' k) = .ref (ad k)
    rw [ha k hk]
  | _ => rfl
theorem qc_eq {dA : Nat → ClassId} {sA ad ad' : Nat → Nat} {n : Nat} {c : AC} (h : qcB n c = true) (hr : qrR n c) (ha : ∀ k, k < n → ad' k = ad k) : qc dA sA ad' c = qc dA sA ad c := by
  rcases c with ⟨t, m, f | f | f | f | f⟩ | ⟨ci, fs⟩
  · rfl
  · rfl
  · rfl
  · rfl
  · simp only [qc, qarr]
    congr 7
    funext j
    cases hf : f j with
    | none => rfl
    | some k => show some (ad' k) = some (ad k); rw [ha k (hr j k hf)]
  · simp only [qc]
    congr 2
    apply List.map_congr_left
    intro v hv
    exact qv_eq (List.all_eq_true.mp h v hv) ha
theorem qlv_eq {sA ad ad' : Nat → Nat} {n : Nat} {lv : LV} (h : lv.all (fun q => qvB n q.2) = true) (ha : ∀ k, k < n → ad' k = ad k) : qlv sA ad' lv = qlv sA ad lv := by
  unfold qlv
  apply List.map_congr_left
  intro q hq
  rw [qv_eq (List.all_eq_true.mp h q hq) ha]
theorem qst_eq {sA ad ad' : Nat → Nat} {n : Nat} {st : List Value} (h : st.all (qvB n) = true) (ha : ∀ k, k < n → ad' k = ad k) : st.map (qv sA ad') = st.map (qv sA ad) := by
  apply List.map_congr_left
  intro v hv
  exact qv_eq (List.all_eq_true.mp h v hv) ha
theorem qw_app {dA : Nat → ClassId} {sA ad ad' : Nat → Nat} {Wd : List AC} {c : AC} {q : Nat} (h : Wd.all (qcB Wd.length) = true) (hr : ∀ c ∈ Wd, qrR Wd.length c) (ha : ∀ k, k < Wd.length → ad' k = ad k) (hq : ad' Wd.length = q) : qw dA sA ad' (Wd ++ [c]) = qw dA sA ad Wd ++ [(q, qc dA sA ad' c)] := by
  apply List.ext_getElem?
  intro k
  rw [qw_get]
  by_cases hk : k < Wd.length
  · rw [List.getElem?_append_left hk, List.getElem?_append_left (by rw [qw_len]; exact hk), qw_get, List.getElem?_eq_getElem hk]
    show some (ad' k, qc dA sA ad' Wd[k]) = some (ad k, qc dA sA ad Wd[k])
    rw [ha k hk, qc_eq (List.all_eq_true.mp h _ (List.getElem_mem hk)) (hr _ (List.getElem_mem hk)) ha]
  · rw [List.getElem?_append_right (by omega), List.getElem?_append_right (by rw [qw_len]; omega), qw_len]
    by_cases h0 : k = Wd.length
    · subst h0
      rw [Nat.sub_self]
      show some (ad' Wd.length, _) = _
      rw [hq]
      rfl
    · have : 1 ≤ k - Wd.length := by omega
      rw [List.getElem?_eq_none (by simp; omega), List.getElem?_eq_none (by simp; omega)]
      rfl
section R7
variable {α : Type} {X : QX} {cc : ByteArray} {own : String} {nL : Nat} {ret : Option FieldType} {d : Nat} {Q : α → State → Prop} {o : Option α} {pc npc : Nat} {lv : LV} {st : List Value} {Wd : List AC} {ad : Nat → Nat} {cells slots : Nat}
theorem qup_old {n q : Nat} : ∀ k, k < n → qup ad n q k = ad k := fun k h => by unfold qup; rw [if_neg (by omega)]
theorem qup_new {n q : Nat} : qup ad n q n = q := by unfold qup; rw [if_pos rfl]
theorem QG.ofck {b : Bool} (h : b = true) (g : QG X nL Q (ck b o) pc lv st Wd ad cells slots) : QG X nL Q o pc lv st Wd ad cells slots := by
  subst h; exact g
theorem QG.newo {idx ci N : Nat} {C : String} {T : u_T} {ty : Nat → FieldType} {fs : List Value} (hX : qok X cc own nL ret d) (hw : ∀ w ∈ ([.classLink own idx C, .instantiable C N, .initialized C] : List Cond), w ∈ gtb) (hin : ∀ w ∈ u_ws C T N, w ∈ gtb) (hty : ∀ k, k < N → parseFieldDescriptor (T k).2.2.1 = some (ty k)) (hc : vwCl[ci]? = some (C, T, N)) (hfs : ∀ j, j < N → defaultValue (ty j) = vp_V fs j) (hfq : fs.all qnr = true) (hd : qdc cc pc (.new idx) npc) (hn : npc = pc + 3)
    (hcl : lv.all (fun q => qvB Wd.length q.2) = true) (hcs : st.all (qvB Wd.length) = true) (hcw : Wd.all (qcB Wd.length) = true) (hcr : ∀ c ∈ Wd, qrR Wd.length c) (hcells : cells + 1 ≤ X.R.cells) (hslots : slots + N ≤ X.R.slots)
    (g : ∀ q, QG X nL Q o npc lv (.ref Wd.length :: st) (Wd ++ [.inr (ci, fs)]) (qup ad Wd.length q) (cells + 1) (slots + N)) : QG X nL Q o pc lv st Wd ad cells slots :=
  fun x h H locs ls hP hD hS hl => by
    subst hn
    refine va_new (D := (X.dC, X.dI)) (cl := vwCl) (fs := fs) hX.1 hX.2.1 hX.2.2.2.2.2.1 hin ty hty hX.2.2.2.2.1 (hX.2.2.2.2.2.1 _ (hw _ (by simp))) (hX.2.2.2.2.2.1 _ (hw _ (by simp))) (hX.2.2.2.2.2.1 _ (hw _ (by simp))) hX.2.2.2.2.2.2.2.2.1 hP hD hS hX.2.2.2.2.2.2.2.2.2.1 hc hfs hcells hslots (qdcn hd rfl) fun q H1 hP1 hD1 hS1 => ?_
    have e := qw_app (dA := X.dA) (sA := X.sA) (c := .inr (ci, fs)) hcw hcr (qup_old (ad := ad) (n := Wd.length) (q := q)) qup_new
    have e2 : qc X.dA X.sA (qup ad Wd.length q) (.inr (ci, fs)) = .inr (ci, fs) := by
      show Sum.inr (ci, fs.map (qv X.sA (qup ad Wd.length q))) = _
      rw [qvs_nr hfq]
    rw [e2] at e
    have g1 := g q x h H1 locs ls (by rw [e]; exact hP1) (by rw [e]; exact hD1) hS1 (by rw [qlv_eq hcl qup_old]; exact hl)
    rw [List.map_cons, qst_eq hcs qup_old, show qv X.sA (qup ad Wd.length q) (.ref Wd.length) = .ref q by show Value.ref (qup ad Wd.length q Wd.length) = _; rw [qup_new]] at g1
    exact g1
theorem QG.newa {at0 : ArrayType} {ty : FieldType} {t : Nat} {y : Int32} {N' : Nat} {a0 : vp_A} (hX : qok X cc own nL ret d) (hw : Cond.arrayClass ty ∈ gtb) (hty : newarray.typeOf at0 = ty) (ht : (at0 = .int ∧ t = 0) ∨ (at0 = .long ∧ t = 1) ∨ (at0 = .boolean ∧ t = 2)) (ha : ∀ cA : ClassId, vp_cell cA a0 = arrV cA N' (fun _ => defaultValue ty)) (hqa : ∀ f : Nat → Nat, qarr f a0 = a0) (hn0 : ¬ y < 0) (hN : y.toNatClampNeg = N') (hbytes : N' * componentBytes ty ≤ 536870912) (hd : qdc cc pc (.newarray at0) npc) (hn : npc = pc + 2)
    (hcl : lv.all (fun q => qvB Wd.length q.2) = true) (hcs : st.all (qvB Wd.length) = true) (hcw : Wd.all (qcB Wd.length) = true) (hcr : ∀ c ∈ Wd, qrR Wd.length c) (hcells : cells + 1 ≤ X.R.cells) (hslots : slots + N' ≤ X.R.slots)
    (g : ∀ q, QG X nL Q o npc lv (.ref Wd.length :: st) (Wd ++ [.inl (t, a0)]) (qup ad Wd.length q) (cells + 1) (slots + N')) : QG X nL Q o pc lv (.int y :: st) Wd ad cells slots :=
  fun x h H locs ls hP hD hS hl => by
    subst hn
    subst hty
    have hK := hX.2.2.2.2.2.2.2.2.1
    refine va_newa (D := (X.dC, X.dI)) (cl := vwCl) (atype := at0) hX.1 hX.2.1 (hX.2.2.2.2.2.1 _ hw) rfl hK hP hD hS hX.2.2.2.2.2.2.2.2.2.1 ha hn0 hN hbytes hcells hslots (qdcn hd rfl) fun q cA H1 hK1 hP1 hD1 hS1 => ?_
    have hcA : cA = X.dA t := by
      have h1 : va_RA X.s cA (newarray.typeOf at0) := (hK1.2 5 (cA, newarray.typeOf at0) rfl).2
      rcases ht with ⟨rfl, rfl⟩ | ⟨rfl, rfl⟩ | ⟨rfl, rfl⟩
      · have h2 : va_RA X.s (X.dA 0) .int := (hK.2 0 _ rfl).2
        exact Option.some.inj (h1.symm.trans h2)
      · have h2 : va_RA X.s (X.dA 1) .long := (hK.2 1 _ rfl).2
        exact Option.some.inj (h1.symm.trans h2)
      · have h2 : va_RA X.s (X.dA 2) .boolean := (hK.2 2 _ rfl).2
        exact Option.some.inj (h1.symm.trans h2)
    subst hcA
    have e := qw_app (dA := X.dA) (sA := X.sA) (c := .inl (t, a0)) hcw hcr (qup_old (ad := ad) (n := Wd.length) (q := q)) qup_new
    have e2 : qc X.dA X.sA (qup ad Wd.length q) (.inl (t, a0)) = .inl (X.dA t, a0) := by
      show Sum.inl (X.dA t, qarr (qup ad Wd.length q) a0) = _
      rw [hqa]
    rw [e2] at e
    have g1 := g q x h H1 locs ls (by rw [e]; exact hP1) (by rw [e]; exact hD1) hS1 (by rw [qlv_eq hcl qup_old]; exact hl)
    rw [List.map_cons, qst_eq hcs qup_old, show qv X.sA (qup ad Wd.length q) (.ref Wd.length) = .ref q by show Value.ref (qup ad Wd.length q Wd.length) = _; rw [qup_new]] at g1
    exact g1
theorem QG.newq {idx t N' : Nat} {C : String} {y : Int32} (hX : qok X cc own nL ret d) (hw : Cond.classLink own idx C ∈ gtb) (ho : va_AO C X.s) (ht : (t = 3 ∧ C = RX5) ∨ (t = 4 ∧ C = RX0)) (hn0 : ¬ y < 0) (hN : y.toNatClampNeg = N') (hbytes : N' * 4 ≤ 536870912) (hd : qdc cc pc (.anewarray idx) npc) (hn : npc = pc + 3)
    (hcl : lv.all (fun q => qvB Wd.length q.2) = true) (hcs : st.all (qvB Wd.length) = true) (hcw : Wd.all (qcB Wd.length) = true) (hcr : ∀ c ∈ Wd, qrR Wd.length c) (hcells : cells + 1 ≤ X.R.cells) (hslots : slots + N' ≤ X.R.slots)
    (g : ∀ q, QG X nL Q o npc lv (.ref Wd.length :: st) (Wd ++ [.inl (t, N', .inr (.inr (.inr (.inr (fun _ => none)))))]) (qup ad Wd.length q) (cells + 1) (slots + N')) : QG X nL Q o pc lv (.int y :: st) Wd ad cells slots :=
  fun x h H locs ls hP hD hS hl => by
    subst hn
    have hK := hX.2.2.2.2.2.2.2.2.1
    refine va_newq (D := (X.dC, X.dI)) (cl := vwCl) (C := C) hX.1 hX.2.1 hX.2.2.2.2.1 (hX.2.2.2.2.2.1 _ hw) ho hK hP hD hS hX.2.2.2.2.2.2.2.2.2.1 hn0 hN hbytes hcells hslots (qdcn hd rfl) fun q cA H1 hK1 hP1 hD1 hS1 => ?_
    have hcA : cA = X.dA t := by
      obtain ⟨_, _, _, _, _, h1⟩ : va_RA X.s cA (.object C) := (hK1.2 5 (cA, .object C) rfl).2
      rcases ht with ⟨rfl, rfl⟩ | ⟨rfl, rfl⟩
      · obtain ⟨_, _, _, _, _, h2⟩ : va_RA X.s (X.dA 3) (.object RX5) := (hK.2 3 _ rfl).2
        exact Option.some.inj (h1.symm.trans h2)
      · obtain ⟨_, _, _, _, _, h2⟩ : va_RA X.s (X.dA 4) (.object RX0) := (hK.2 4 _ rfl).2
        exact Option.some.inj (h1.symm.trans h2)
    subst hcA
    have e := qw_app (dA := X.dA) (sA := X.sA) (c := .inl (t, N', .inr (.inr (.inr (.inr (fun _ => none)))))) hcw hcr (qup_old (ad := ad) (n := Wd.length) (q := q)) qup_new
    have e2 : qc X.dA X.sA (qup ad Wd.length q) (.inl (t, N', .inr (.inr (.inr (.inr (fun _ => none)))))) = .inl (X.dA t, N', .inr (.inr (.inr (.inr (fun _ => none))))) := rfl
    rw [e2] at e
    have g1 := g q x h H1 locs ls (by rw [e]; exact hP1) (by rw [e]; exact hD1) hS1 (by rw [qlv_eq hcl qup_old]; exact hl)
    rw [List.map_cons, qst_eq hcs qup_old, show qv X.sA (qup ad Wd.length q) (.ref Wd.length) = .ref q by show Value.ref (qup ad Wd.length q Wd.length) = _; rw [qup_new]] at g1
    exact g1
/-- a row of references takes an object -/
theorem QG.aast {a n t v ci : Nat} {f : Nat → Option Nat} {i : Int32} {fs : List Value} {r : vw_C} (hX : qok X cc own nL ret d) (hd : qdc cc pc .aastore npc) (hn : npc = pc + 1) (ha : Wd[a]? = some (.inl (t, n, .inr (.inr (.inr (.inr f)))))) (ht : (t = 3 ∧ r.1 = RX5) ∨ (t = 4 ∧ r.1 = RX0)) (hv : Wd[v]? = some (.inr (ci, fs))) (hc : vwCl[ci]? = some r) (hi : vp_in i n) {Wd' : List AC} (hw : Wd.set a (.inl (t, n, .inr (.inr (.inr (.inr (va_up f i.toNatClampNeg (some v))))))) = Wd') (g : QG X nL Q o npc lv st Wd' ad cells slots) : QG X nL Q o pc lv (.ref v :: .int i :: .ref a :: st) Wd ad cells slots :=
  fun x h H locs ls hP hD hS hl => by
    subst hn; subst hw
    refine va_astq (D := (X.dC, X.dI)) (cl := vwCl) (r := r) hX.1 hX.2.1 hX.2.2.2.2.2.2.2.2.1 hP hD hS a t v ci (qw_at ha) (by obtain ⟨r1, r2⟩ := r; rcases ht with ⟨rfl, h2⟩ | ⟨rfl, h2⟩ <;> (cases h2; rfl)) (qw_at hv) hc hi (qdcn hd rfl) fun H1 locs1 hP1 hD1 hS1 => ?_
    have e : (ad a, (Sum.inl (X.dA t, n, .inr (.inr (.inr (.inr (va_up (fun j => (f j).map ad) i.toNatClampNeg (some (ad v))))))) : va_E)) = (ad a, qc X.dA X.sA ad (.inl (t, n, .inr (.inr (.inr (.inr (va_up f i.toNatClampNeg (some v)))))))) := by
      simp only [qc, qarr]
      congr 8
      funext j
      unfold va_up
      split <;> rfl
    rw [e, qw_set] at hP1 hD1
    exact g x h H1 locs1 ls hP1 hD1 hS1 hl
theorem QG.putF {idx ci k a : Nat} {fs : List Value} {v : Value} {ty : FieldType} (hX : qok X cc own nL ret d) (hin : X.meth.name = "<init>") (hf : qfl own idx ci k) (hp : qfF ci k ty own = true) (hd : qdc cc pc (.putfield idx) npc) (hn : npc = pc + 3) (ha : Wd[a]? = some (.inr (ci, fs))) (hk : k < fs.length) (hfit : qfit ty v) {Wd' : List AC} (hw : Wd.set a (.inr (ci, fs.set k v)) = Wd') (g : QG X nL Q o npc lv st Wd' ad cells slots) : QG X nL Q o pc lv (v :: .ref a :: st) Wd ad cells slots :=
  fun x h H locs ls hP hD hS hl => by
    subst hn; subst hw
    obtain ⟨C, T, N, ty0, h1, h2, h3, h4, h5, h6⟩ := hf
    simp only [qfF, h1, Bool.and_eq_true, decide_eq_true_eq] at hp
    have e : ∀ y : Nat × va_E, y = (ad a, .inr (ci, (fs.map (qv X.sA ad)).set k (qv X.sA ad v))) → y = (ad a, qc X.dA X.sA ad (.inr (ci, fs.set k v))) := fun y hy => by rw [hy]; simp only [qc, List.map_set]
    refine va_putF (D := (X.dC, X.dI)) (cl := vwCl) (ty := ty) (v := qv X.sA ad v) hX.1 hX.2.1 hX.2.2.2.2.2.1 h4 ty0 h5 h6 hX.2.2.2.2.1 hX.2.2.2.2.2.2.2.2.1 hP hD hS a (qw_at ha) h1 k h2 (hX.2.2.2.2.2.1 _ h3) (fun _ z => z) hp.1.1 hin hp.2 hp.1.2 (hfit X.sA ad).1 (hfit X.sA ad).2 (by rw [List.length_map]; exact hk) (qdcn hd rfl) fun H1 locs1 hP1 hD1 hS1 => ?_
    rw [e _ rfl, qw_set] at hP1 hD1
    exact g x h H1 locs1 ls hP1 hD1 hS1 hl
theorem QG.objInit {idx a : Nat} (hX : qok X cc own nL ret d) (hw : ∀ w ∈ ([.methodLink own idx Lib.objectInit, .instanceMethod Lib.objectInit, .code Lib.objectInit ⟨#[0xb1]⟩ 1 none] : List Cond), w ∈ gtb) (hdd : 1 ≤ d) (hd : qdc cc pc (.invokespecial idx) npc) (hn : npc = pc + 3) (hrest : (st.map (fun v => v.category)).sum ≤ 8) (g : QG X nL Q o npc lv st Wd ad cells slots) : QG X nL Q o pc lv (.ref a :: st) Wd ad cells slots :=
  fun x h H locs ls hP hD hS hl => by
    subst hn
    have hR := hX.2.2.2.2.2.2.2.2.2.2.2
    have hml := hX.2.2.2.1
    refine W.objInit hX.1 hX.2.1 hX.2.2.2.2.1 (hX.2.2.2.2.2.1 _ (hw _ (by simp))) (hX.2.2.2.2.2.1 _ (hw _ (by simp))) (hX.2.2.2.2.2.1 _ (hw _ (by simp))) rfl (hl.1.trans hml.symm) rfl (qdcn hd rfl) (by omega) ?_ (g x h H locs ls hP hD hS hl)
    show 2 * 0 + ((st.map (qv X.sA ad)).map fun v => v.category).sum + 12 ≤ X.R.locals
    rw [qcats]
    omega
end R7

def qPre (dC : Nat → ClassId) (dI : Nat → Nat → Nat) (dA : Nat → ClassId) (sA ad : Nat → Nat) (Wd : List AC) (A : Nat → Prop) (U : State) : Prop :=
  va_P (dC, dI) vwCl (qw dA sA ad Wd) U.heap ∧ va_K (dC, dI) vwCl (qtys dA) U ∧ va_D (fun _ => True) (qw dA sA ad Wd) ∧ (∀ w ∈ ntb, va_Nw w U) ∧ qSt sA A U U.heap
def qPost (dC : Nat → ClassId) (dI : Nat → Nat → Nat) (dA : Nat → ClassId) (sA ad : Nat → Nat) (n : Nat) (A : Nat → Prop) (r : Option Value × List AC) (oc : Outcome) (t : State) : Prop :=
  ∃ ad' : Nat → Nat, (∀ k, (k < n ∨ r.2.length ≤ k) → ad' k = ad k) ∧ oc = .returned (r.1.map (qv sA ad')) ∧ va_P (dC, dI) vwCl (qw dA sA ad' r.2) t.heap ∧ va_K (dC, dI) vwCl (qtys dA) t ∧ va_D A (qw dA sA ad' r.2)
/-- a method's contract: on a world of these cells and these arguments it comes to what o tells -/
def QM {α : Type} (l : Launch) (y : MethodName) (cc : ByteArray) (nL : Nat) (ret : Option FieldType) (d mc ms : Nat) (Pd : (Nat → Nat) → Prop) (av : List Value) (Wd : List AC) (o : Option α) (post : α → Option Value × List AC) : Prop :=
  ∀ x, o = some x → ∀ (dC : Nat → ClassId) (dI : Nat → Nat → Nat) (dA : Nat → ClassId) (sA ad : Nat → Nat) (sz : Nat), Pd ad →
    Met l y (Cond.code y cc nL ret :: gtb) ({ frames := d, cells := mc, slots := ms, locals := 64 * d }) (va_Pc (av.map (qv sA ad)) (fun U => U.heap.size = sz ∧ qPre dC dI dA sA ad Wd (va_A (qw dA sA ad Wd) sz) U))
      (fun _ st oc t => qPost dC dI dA sA ad Wd.length (va_A (qw dA sA ad Wd) sz) (post x) oc t ∧ va_F (va_A (qw dA sA ad Wd) sz) st t) mc ms (va_A (qw dA sA ad Wd) sz)
def qQ {α : Type} (X : QX) (ad : Nat → Nat) (n : Nat) (post : α → Option Value × List AC) (mc ms : Nat) : α → State → Prop := fun x =>
  MQ X.below (fun _ st oc t => qPost X.dC X.dI X.dA X.sA ad n X.A (post x) oc t ∧ va_F X.A st t) X.args X.s mc ms X.A
theorem qlv_args (sA ad : Nat → Nat) : ∀ (av : List Value) (i : Nat), lv_args i (av.map (qv sA ad)) = qlv sA ad (lv_args i av)
  | [], _ => rfl
  | v :: vs, i => by
    show (i, qv sA ad v) :: lv_args (if (qv sA ad v).category = 2 then i + 2 else i + 1) (vs.map (qv sA ad)) = _
    rw [qv_cat, qlv_args sA ad vs]
    rfl
theorem qsl_len (sA ad : Nat → Nat) : ∀ av : List Value, (lg_sl (av.map (qv sA ad))).length = (lg_sl av).length
  | [] => rfl
  | v :: vs => by
    have h := qsl_len sA ad vs
    unfold lg_sl at h ⊢
    rw [List.map_cons, List.flatMap_cons, List.flatMap_cons, List.length_append, List.length_append, h, qv_cat]
    split <;> rfl
theorem QM.of {α : Type} {l : Launch} {y : MethodName} {cc : ByteArray} {nL : Nat} {ret : Option FieldType} {d mc ms : Nat} {Pd : (Nat → Nat) → Prop} {av : List Value} {Wd : List AC} {o : Option α} {post : α → Option Value × List AC} (hy : plainName y.cls = true) (hlen : (lg_sl av).length ≤ nL)
    (body : ∀ (X : QX) (ad : Nat → Nat), qok X cc y.cls nL ret d → Pd ad → X.l = l → X.R = { frames := d, cells := mc, slots := ms, locals := 64 * d } → X.meth.name = y.name → QG X nL (qQ X ad Wd.length post mc ms) o 0 (lv_args 0 av) [] Wd ad 0 0) : QM l y cc nL ret d mc ms Pd av Wd o post := by
  intro x hx dC dI dA sA ad sz hpd
  refine Met.ofW (cc := cc) (maxL := nL) (ret := ret) hy rfl ?_
  intro p e s m args below meth c s₁ B hml hv
  obtain ⟨rfl, hsz, hP, hK, hD0, hN, hSt⟩ := hv
  subst hsz
  have hts := atoms_spec (ws := Cond.code y cc nL ret :: gtb) B.pre
  have hD := hD0.self (sz := s.heap.size)
  have hl := lv_entry (av.map (qv sA ad)) (n := nL) (by rw [qsl_len]; exact hlen)
  rw [qlv_args] at hl
  rw [lg_entry_eq]
  have hb := body (p, l, e, { frames := d, cells := mc, slots := ms, locals := 64 * d }, s, m, (av.map (qv sA ad)).toArray, below, meth, c, dC, dI, dA, sA, va_A (qw dA sA ad Wd) s.heap.size) ad
    ⟨B.exec, B.bytes, B.returns, hml, findClass_of_methodNamed B.named, fun w h => hts w (List.mem_cons_of_mem _ h), hN, B.notSynchronized, hK, fun q h => Or.inr h, hSt, Nat.le_refl _, Nat.le_refl _⟩ hpd rfl rfl (name_of_methodNamed B.named B.method).1
  exact hb x hx s.heap [] _ hP hD va_S.rf hl
section R3
variable {α : Type} {X : QX} {cc : ByteArray} {own : String} {nL : Nat} {ret : Option FieldType} {d : Nat} {Q : α → State → Prop} {o oT oF : Option α} {pc npc : Nat} {lv : LV} {st : List Value} {Wd : List AC} {ad : Nat → Nat} {cells slots : Nat}
theorem QG.iret {ad0 : Nat → Nat} {n : Nat} {post : α → Option Value × List AC} {x : α} {y : Int32} (hX : qok X cc own nL (some .int) d) (hd : qdc cc pc .ireturn npc) (hn : npc = pc + 1) (hp : post x = (some (.int y), Wd)) (ha : ∀ k, (k < n ∨ Wd.length ≤ k) → ad k = ad0 k) : QG X nL (qQ X ad0 n post cells slots) (some x) pc lv [.int y] Wd ad cells slots :=
  fun x' hx H locs ls hP hD hS hl => by
    subst hn; cases hx
    exact W.iret hX.1 hX.2.1 hX.2.2.1 (fun t ht hW => ⟨⟨ad, by rw [hp]; exact ha, by rw [hp]; rfl, by rw [hp, ht]; exact hP, va_K.moved hW.alike hX.2.2.2.2.2.2.2.2.1, by rw [hp]; exact hD⟩, hS.F ht⟩) hS.2.2 (qdcn hd rfl) hX.2.2.2.2.2.2.2.1
theorem QG.zret {ad0 : Nat → Nat} {n : Nat} {post : α → Option Value × List AC} {x : α} {y : Int32} (hX : qok X cc own nL (some .boolean) d) (hd : qdc cc pc .ireturn npc) (hn : npc = pc + 1) (hy : narrow .boolean (.int y) = .int y) (hp : post x = (some (.int y), Wd)) (ha : ∀ k, (k < n ∨ Wd.length ≤ k) → ad k = ad0 k) : QG X nL (qQ X ad0 n post cells slots) (some x) pc lv [.int y] Wd ad cells slots :=
  fun x' hx H locs ls hP hD hS hl => by
    subst hn; cases hx
    exact W.zret hX.1 hX.2.1 hX.2.2.1 hy (fun t ht hW => ⟨⟨ad, by rw [hp]; exact ha, by rw [hp]; rfl, by rw [hp, ht]; exact hP, va_K.moved hW.alike hX.2.2.2.2.2.2.2.2.1, by rw [hp]; exact hD⟩, hS.F ht⟩) hS.2.2 (qdcn hd rfl) hX.2.2.2.2.2.2.2.1
theorem QG.lret {ad0 : Nat → Nat} {n : Nat} {post : α → Option Value × List AC} {x : α} {y : Int64} (hX : qok X cc own nL (some .long) d) (hd : qdc cc pc .lreturn npc) (hn : npc = pc + 1) (hp : post x = (some (.long y), Wd)) (ha : ∀ k, (k < n ∨ Wd.length ≤ k) → ad k = ad0 k) : QG X nL (qQ X ad0 n post cells slots) (some x) pc lv [.long y] Wd ad cells slots :=
  fun x' hx H locs ls hP hD hS hl => by
    subst hn; cases hx
    exact W.lret hX.1 hX.2.1 hX.2.2.1 (fun t ht hW => ⟨⟨ad, by rw [hp]; exact ha, by rw [hp]; rfl, by rw [hp, ht]; exact hP, va_K.moved hW.alike hX.2.2.2.2.2.2.2.2.1, by rw [hp]; exact hD⟩, hS.F ht⟩) hS.2.2 (qdcn hd rfl) hX.2.2.2.2.2.2.2.1
theorem QG.vret {ad0 : Nat → Nat} {n : Nat} {post : α → Option Value × List AC} {x : α} (hX : qok X cc own nL none d) (hd : qdc cc pc .return_ npc) (hn : npc = pc + 1) (hp : post x = (none, Wd)) (ha : ∀ k, (k < n ∨ Wd.length ≤ k) → ad k = ad0 k) : QG X nL (qQ X ad0 n post cells slots) (some x) pc lv [] Wd ad cells slots :=
  fun x' hx H locs ls hP hD hS hl => by
    subst hn; cases hx
    exact W.vret hX.1 hX.2.1 hX.2.2.1 (fun t ht hW => ⟨⟨ad, by rw [hp]; exact ha, by rw [hp]; rfl, by rw [hp, ht]; exact hP, va_K.moved hW.alike hX.2.2.2.2.2.2.2.2.1, by rw [hp]; exact hD⟩, hS.F ht⟩) hS.2.2 (qdcn hd rfl) hX.2.2.2.2.2.2.2.1
theorem QG.aret {ad0 : Nat → Nat} {n : Nat} {post : α → Option Value × List AC} {x : α} {v : Value} {C : String} (hX : qok X cc own nL (some (.object C)) d) (hd : qdc cc pc .areturn npc) (hn : npc = pc + 1) (hv : v = .null ∨ ∃ a, v = .ref a) (hp : post x = (some v, Wd)) (ha : ∀ k, (k < n ∨ Wd.length ≤ k) → ad k = ad0 k) : QG X nL (qQ X ad0 n post cells slots) (some x) pc lv [v] Wd ad cells slots :=
  fun x' hx H locs ls hP hD hS hl => by
    subst hn; cases hx
    refine W.aret (rt := .object C) hX.1 hX.2.1 hX.2.2.1 (Or.inl ⟨C, rfl⟩) ?_ (fun t ht hW => ⟨⟨ad, by rw [hp]; exact ha, by rw [hp]; rfl, by rw [hp, ht]; exact hP, va_K.moved hW.alike hX.2.2.2.2.2.2.2.2.1, by rw [hp]; exact hD⟩, hS.F ht⟩) hS.2.2 (qdcn hd rfl) hX.2.2.2.2.2.2.2.1
    rcases hv with rfl | ⟨a, rfl⟩
    · exact Or.inl rfl
    · exact Or.inr ⟨_, rfl⟩
end R3
/-! a callee's world among the caller's: its k-th cell is the caller's cell φ k -/
def qf (φ : List Nat) (k : Nat) : Nat := match φ[k]? with
  | some i => i
  | none => k - φ.length
def qrv (φ : List Nat) : Value → Value
  | .ref k => .ref (qf φ k)
  | v => v
def qrc (φ : List Nat) : AC → AC
  | .inl (t, x) => .inl (t, qarr (qf φ) x)
  | .inr (ci, fs) => .inr (ci, fs.map (qrv φ))
theorem qv_ren (sA ad : Nat → Nat) (φ : List Nat) (v : Value) : qv sA ad (qrv φ v) = qv sA (fun k => ad (qf φ k)) v := by cases v <;> rfl
theorem qc_ren (dA : Nat → ClassId) (sA ad : Nat → Nat) (φ : List Nat) (c : AC) : qc dA sA ad (qrc φ c) = qc dA sA (fun k => ad (qf φ k)) c := by
  rcases c with ⟨t, n, f | f | f | f | f⟩ | ⟨ci, fs⟩
  · rfl
  · rfl
  · rfl
  · rfl
  · simp only [qrc, qc, qarr, Option.map_map]
    rfl
  · simp only [qrc, qc, List.map_map]
    congr 2
    apply List.map_congr_left
    intro v _
    exact qv_ren sA ad φ v
def qlook : List Nat → List AC → Nat → AC → AC
  | i :: is, c :: cs, j, e => cond (Nat.beq i j) c (qlook is cs j e)
  | _, _, _, e => e
def qix : List Nat := [0, 1, 2, 3, 4, 5, 6, 7, 8, 9, 10, 11, 12, 13, 14, 15, 16, 17, 18, 19, 20, 21, 22, 23, 24, 25, 26, 27, 28, 29, 30, 31, 32, 33, 34, 35, 36, 37, 38, 39, 40, 41, 42, 43, 44, 45, 46, 47, 48, 49, 50, 51, 52, 53, 54, 55, 56, 57, 58, 59, 60, 61, 62, 63, 64, 65, 66, 67, 68, 69, 70, 71, 72, 73, 74, 75, 76, 77, 78, 79, 80, 81, 82, 83, 84, 85, 86, 87, 88, 89, 90, 91, 92, 93, 94, 95, 96, 97, 98, 99, 100, 101, 102, 103, 104, 105, 106, 107, 108, 109, 110, 111, 112, 113, 114, 115, 116, 117, 118, 119, 120, 121, 122, 123, 124, 125, 126, 127, 128, 129, 130, 131, 132, 133, 134, 135, 136, 137, 138, 139, 140, 141, 142, 143, 144, 145, 146, 147, 148, 149, 150, 151, 152, 153, 154, 155, 156, 157, 158, 159, 160, 161, 162, 163, 164, 165, 166, 167, 168, 169, 170, 171, 172, 173, 174, 175, 176, 177, 178, 179, 180, 181, 182, 183, 184, 185, 186, 187, 188, 189, 190, 191, 192, 193, 194, 195, 196, 197, 198, 199]
theorem qix_at {j : Nat} (h : j < 200) : qix[j]? = some j := by
  have : ∀ j : Fin 200, qix[j.val]? = some j.val := by decide +kernel
  exact this ⟨j, h⟩
def qput (Wd : List AC) (φ : List Nat) (cs : List AC) : List AC := List.zipWith (fun e j => qlook φ cs j e) Wd qix
theorem qput_len (φ : List Nat) (Wd cs : List AC) (h : Wd.length ≤ 200) : (qput Wd φ cs).length = Wd.length := by
  unfold qput
  rw [List.length_zipWith]
  have : qix.length = 200 := by decide +kernel
  omega
theorem qput_at (φ : List Nat) (Wd cs : List AC) (h : Wd.length ≤ 200) (j : Nat) : (qput Wd φ cs)[j]? = (Wd[j]?).map (qlook φ cs j) := by
  unfold qput
  rw [List.getElem?_zipWith]
  by_cases hj : j < Wd.length
  · rw [qix_at (by omega), List.getElem?_eq_getElem hj]
    rfl
  · rw [List.getElem?_eq_none (by omega)]
    rfl
theorem qlook_out : ∀ (φ : List Nat) (cs : List AC) (j : Nat) (e : AC), j ∉ φ → qlook φ cs j e = e
  | [], cs, j, e, _ => by cases cs <;> rfl
  | i :: is, [], j, e, _ => rfl
  | i :: is, c :: cs, j, e, h => by
    have hij : Nat.beq i j = false := by
      cases hb : Nat.beq i j with
      | false => rfl
      | true => exact absurd (by rw [Nat.eq_of_beq_eq_true hb]; exact List.mem_cons_self) h
    show cond (Nat.beq i j) c (qlook is cs j e) = e
    rw [hij]
    exact qlook_out is cs j e (fun q => h (List.mem_cons_of_mem _ q))
theorem qlook_in : ∀ (φ : List Nat) (cs : List AC) (k i : Nat) (c e : AC), va_nd φ = true → φ[k]? = some i → cs[k]? = some c → qlook φ cs i e = c
  | [], cs, k, i, c, e, _, h, _ => by simp at h
  | a :: is, [], k, i, c, e, _, _, h => by simp at h
  | a :: is, b :: cs, k, i, c, e, hn, h1, h2 => by
    simp only [va_nd, Bool.and_eq_true, decide_eq_true_eq] at hn
    show cond (Nat.beq a i) b (qlook is cs i e) = c
    cases k with
    | zero =>
      rw [List.getElem?_cons_zero] at h1 h2
      cases h1; cases h2
      rw [Nat.beq_refl]
      rfl
    | succ k =>
      rw [List.getElem?_cons_succ] at h1 h2
      have hij : Nat.beq a i = false := by
        cases hb : Nat.beq a i with
        | false => rfl
        | true => exact absurd (by rw [Nat.eq_of_beq_eq_true hb]; exact List.mem_of_getElem? h1) hn.1
      rw [hij]
      exact qlook_in is cs k i c e hn.2 h1 h2
theorem qput_out (φ : List Nat) (Wd cs : List AC) (h : Wd.length ≤ 200) (j : Nat) (hj : j ∉ φ) : (qput Wd φ cs)[j]? = Wd[j]? := by
  rw [qput_at φ Wd cs h]
  cases Wd[j]? with
  | none => rfl
  | some e => show some (qlook φ cs j e) = some e; rw [qlook_out φ cs j e hj]
theorem qput_in (φ : List Nat) (Wd cs : List AC) (k i : Nat) (c : AC) (h : Wd.length ≤ 200) (hn : va_nd φ = true) (hl : ∀ j ∈ φ, j < Wd.length) (h1 : φ[k]? = some i) (h2 : cs[k]? = some c) : (qput Wd φ cs)[i]? = some c := by
  rw [qput_at φ Wd cs h, List.getElem?_eq_getElem (hl i (List.mem_of_getElem? h1))]
  show some _ = some _
  rw [qlook_in φ cs k i c _ hn h1 h2]
theorem qD_len {dA : Nat → ClassId} {sA ad : Nat → Nat} {Wd Wd' : List AC} {A : Nat → Prop} (h : va_D A (qw dA sA ad Wd)) (hl : Wd'.length = Wd.length) : va_D A (qw dA sA ad Wd') := by
  have key : ∀ (k : Nat) (q : Nat × va_E), (qw dA sA ad Wd')[k]? = some q → q.1 = ad k ∧ ∃ r, (qw dA sA ad Wd)[k]? = some (ad k, r) := by
    intro k q hk
    rw [qw_get] at hk
    obtain ⟨c, hc, rfl⟩ := Option.map_eq_some_iff.mp hk
    have hk2 : k < Wd.length := by rw [← hl]; exact (List.getElem?_eq_some_iff.mp hc).1
    refine ⟨rfl, qc dA sA ad Wd[k], ?_⟩
    rw [qw_get, List.getElem?_eq_getElem hk2]; rfl
  refine ⟨fun i j p q hi hj e => ?_, fun k q hk => ?_⟩
  · obtain ⟨e1, r1, h1⟩ := key i p hi
    obtain ⟨e2, r2, h2⟩ := key j q hj
    exact h.1 i j _ _ h1 h2 (by rw [← e1, ← e2]; exact e)
  · obtain ⟨e1, r1, h1⟩ := key k q hk
    rw [e1]
    exact h.2 k _ h1
theorem qsub_at {Wd Ws : List AC} {φ : List Nat} (hsub : φ.map (fun i => Wd[i]?) = Ws.map (fun c => some (qrc φ c))) {k : Nat} {c : AC} (hc : Ws[k]? = some c) : ∃ i, φ[k]? = some i ∧ Wd[i]? = some (qrc φ c) := by
  have h1 : (φ.map (fun i => Wd[i]?))[k]? = some (some (qrc φ c)) := by rw [hsub, List.getElem?_map, hc]; rfl
  rw [List.getElem?_map] at h1
  cases hi : φ[k]? with
  | none => rw [hi] at h1; cases h1
  | some i => rw [hi] at h1; exact ⟨i, rfl, Option.some.inj h1⟩
theorem qf_at {φ : List Nat} {k i : Nat} (h : φ[k]? = some i) : qf φ k = i := by unfold qf; rw [h]
theorem qsub_w {dA : Nat → ClassId} {sA ad : Nat → Nat} {Wd Ws : List AC} {φ : List Nat} (hsub : φ.map (fun i => Wd[i]?) = Ws.map (fun c => some (qrc φ c))) : φ.map (fun i => (qw dA sA ad Wd)[i]?) = (qw dA sA (fun k => ad (qf φ k)) Ws).map some := by
  apply List.ext_getElem?
  intro k
  have hlen : φ.length = Ws.length := by have := congrArg List.length hsub; simpa using this
  rw [List.getElem?_map, List.getElem?_map, qw_get]
  cases hc : Ws[k]? with
  | none =>
    have : φ[k]? = none := List.getElem?_eq_none (by rw [hlen]; exact List.getElem?_eq_none_iff.mp hc)
    rw [this]; rfl
  | some c =>
    obtain ⟨i, h1, h2⟩ := qsub_at hsub hc
    rw [h1]
    show some ((qw dA sA ad Wd)[i]?) = some (some (ad (qf φ k), qc dA sA (fun k => ad (qf φ k)) c))
    rw [qw_at h2, qf_at h1, qc_ren]

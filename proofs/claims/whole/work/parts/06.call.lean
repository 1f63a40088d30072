theorem gtb_goodIn {ws : List Cond} (h : ∀ w ∈ ws, w ∈ gtb) : GoodIn gtb ws := fun w hw => ⟨h w hw, good_of_word (gtb_good w (h w hw))⟩
theorem qpre_blind {av : List Value} {sz : Nat} {dC : Nat → ClassId} {dI : Nat → Nat → Nat} {dA : Nat → ClassId} {sA ad : Nat → Nat} {Wd : List AC} {A : Nat → Prop} : FrameBlind (va_Pc av (fun U => U.heap.size = sz ∧ qPre dC dI dA sA ad Wd A U)) :=
  fun a U g mk h => ⟨h.1, h.2.1, h.2.2.1, va_K.moved (u := U) (U := U.calling g mk a) (Vm.Alike.refl U.vm) h.2.2.2.1, h.2.2.2.2.1, fun w hw => qnest_same (u := U) (U := U.calling g mk a) (ntb_nest hw) rfl (h.2.2.2.2.2.1 w hw), qSt.moved (u := U) (U := U.calling g mk a) (Vm.Alike.refl U.vm) h.2.2.2.2.2.2⟩
theorem qsub_i {ws w : va_W} {φ : List Nat} (hs : φ.map (fun i => ws[i]?) = w.map some) {k : Nat} {q : Nat × va_E} (hq : w[k]? = some q) : ∃ i, φ[k]? = some i ∧ ws[i]? = some q := by
  have h1 : (φ.map (fun i => ws[i]?))[k]? = some (some q) := by rw [hs, List.getElem?_map, hq]; rfl
  rw [List.getElem?_map] at h1
  cases hi : φ[k]? with
  | none => rw [hi] at h1; cases h1
  | some i => rw [hi] at h1; exact ⟨i, rfl, Option.some.inj h1⟩
section R4
variable {α : Type} {X : QX} {cc : ByteArray} {own : String} {nL : Nat} {ret : Option FieldType} {d : Nat} {Q : α → State → Prop} {o oT oF : Option α} {pc npc : Nat} {lv : LV} {st : List Value} {Wd : List AC} {ad : Nat → Nat} {cells slots : Nat}
theorem qpre_at (hX : qok X cc own nL ret d) {φ : List Nat} {Ws : List AC} (hsub : φ.map (fun i => Wd[i]?) = Ws.map (fun c => some (qrc φ c))) (hnd : va_nd φ = true) {H : Heap} {locs : List Loc} (hP : va_P (X.dC, X.dI) vwCl (qw X.dA X.sA ad Wd) H) (hD : va_D X.A (qw X.dA X.sA ad Wd)) (hS : va_S X.A X.s.heap H locs) {U : State} (hU : U.heap = H) (hW : X.s.WarmedH U.vm) :
    U.heap.size = H.size ∧ qPre X.dC X.dI X.dA X.sA (fun k => ad (qf φ k)) Ws (va_A (qw X.dA X.sA (fun k => ad (qf φ k)) Ws) H.size) U := by
  have hs := qsub_w (dA := X.dA) (sA := X.sA) (ad := ad) hsub
  refine ⟨by rw [hU], ?_, va_K.moved hW.alike hX.2.2.2.2.2.2.2.2.1, (hD.sub φ hnd hs).weaken (fun _ _ _ _ => trivial), fun w hw => qnest_warm (ntb_nest hw) hW (hX.2.2.2.2.2.2.1 w hw), ?_⟩
  · rw [hU]
    intro k q hk
    obtain ⟨i, h1, h2⟩ := qsub_i hs hk
    exact hP i q h2
  · rw [hU]
    exact ((hX.2.2.2.2.2.2.2.2.2.2.1.kept (H1 := H) hS.2.1).narrow (va_free hD hS hX.2.2.2.2.2.2.2.2.2.1 φ hs)).moved hW.alike
theorem qrun_ret (hX : qok X cc own nL ret d) {φ : List Nat} {Ws : List AC} (hsub : φ.map (fun i => Wd[i]?) = Ws.map (fun c => some (qrc φ c))) (hnd : va_nd φ = true) (h200 : Wd.length ≤ 200) {r : Option Value × List AC} (hrl : r.2.length = Ws.length) {H : Heap} {locs : List Loc} {ls : Array Slot} {st0 rest : List Value} {Q1 : State → Prop}
    (hP : va_P (X.dC, X.dI) vwCl (qw X.dA X.sA ad Wd) H) (hD : va_D X.A (qw X.dA X.sA ad Wd)) (hS : va_S X.A X.s.heap H locs)
    (hr : va_Run X.p X.l X.e X.R X.s X.m X.args X.below X.meth X.c H locs cells slots 0 0 (F0 X.m pc ls st0) rest (fun st oc t => qPost X.dC X.dI X.dA X.sA (fun k => ad (qf φ k)) Ws.length (va_A (qw X.dA X.sA (fun k => ad (qf φ k)) Ws) H.size) r oc t ∧ va_F (va_A (qw X.dA X.sA (fun k => ad (qf φ k)) Ws) H.size) st t) (va_A (qw X.dA X.sA (fun k => ad (qf φ k)) Ws) H.size))
    (kk : ∀ (H1 : Heap) (locs1 : List Loc), va_P (X.dC, X.dI) vwCl (qw X.dA X.sA ad (qput Wd φ (r.2.map (qrc φ)))) H1 → va_D X.A (qw X.dA X.sA ad (qput Wd φ (r.2.map (qrc φ)))) → va_S X.A X.s.heap H1 locs1 → W X.p X.l X.e X.R X.s X.m X.args X.below X.meth X.c H1 locs1 cells slots Q1 (F0 X.m (pc + 3) ls ((r.1.map (qrv φ)).toList.map (qv X.sA ad) ++ rest))) :
    W X.p X.l X.e X.R X.s X.m X.args X.below X.meth X.c H locs cells slots Q1 (F0 X.m pc ls st0) := by
  have hs := qsub_w (dA := X.dA) (sA := X.sA) (ad := ad) hsub
  have hlen : φ.length = Ws.length := by have := congrArg List.length hsub; simpa using this
  have hF := va_free hD hS hX.2.2.2.2.2.2.2.2.2.1 φ hs
  have hin : ∀ j ∈ φ, j < Wd.length := by
    intro j hj
    obtain ⟨k, hk⟩ := List.getElem?_of_mem hj
    have hk2 : k < Ws.length := by rw [← hlen]; exact (List.getElem?_eq_some_iff.mp hk).1
    obtain ⟨i, h1, h2⟩ := qsub_at hsub (List.getElem?_eq_getElem hk2)
    rw [hk] at h1
    cases h1
    exact (List.getElem?_eq_some_iff.mp h2).1
  intro T hT XX
  obtain ⟨v, st₀, t, T', L, h0, X', hL, e1, e2, ⟨⟨ad', hag, hv, hP1, hK1, hD1⟩, hz, hk⟩, stp⟩ := hr T hT XX
  have had : ad' = fun k => ad (qf φ k) := funext fun k => hag k (by omega)
  subst had
  have hv2 : v = r.1.map (qv X.sA (fun k => ad (qf φ k))) := Outcome.returned.inj hv
  rw [h0] at hz hk
  have hS1 : va_S X.A X.s.heap T'.heap (locs ++ L) := ⟨Nat.le_trans hS.1 (by rw [e1]; exact hz), fun q h1 h2 => by rw [e1, hk q (Nat.lt_of_lt_of_le h1 hS.1) (fun z => h2 (hF q z))]; exact hS.2.1 q h1 h2, fun q hq => by
      rcases List.mem_append.mp hq with h | h
      · exact hS.2.2 q h
      · exact hF _ (hL q h)⟩
  have hP2 : va_P (X.dC, X.dI) vwCl (qw X.dA X.sA ad (qput Wd φ (r.2.map (qrc φ)))) T'.heap := by
    intro j q hq
    rw [qw_get] at hq
    obtain ⟨c, hc, rfl⟩ := Option.map_eq_some_iff.mp hq
    by_cases hj : j ∈ φ
    · obtain ⟨k, hkj⟩ := List.getElem?_of_mem hj
      have hk2 : k < r.2.length := by rw [hrl, ← hlen]; exact (List.getElem?_eq_some_iff.mp hkj).1
      have hin1 := qput_in φ Wd (r.2.map (qrc φ)) k j (qrc φ r.2[k]) h200 hnd hin hkj (by rw [List.getElem?_map, List.getElem?_eq_getElem hk2]; rfl)
      rw [hin1] at hc
      cases hc
      have h9 := hP1 k _ (qw_at (dA := X.dA) (sA := X.sA) (ad := fun k => ad (qf φ k)) (List.getElem?_eq_getElem hk2))
      rw [qc_ren, e1]
      rw [qf_at hkj] at h9
      exact h9
    · rw [qput_out φ _ _ h200 j hj] at hc
      have h9 := hP j _ (qw_at (dA := X.dA) (sA := X.sA) (ad := ad) hc)
      refine h9.kept ?_
      rw [e1]
      refine hk _ h9.lt fun z => ?_
      rcases z with ⟨k, ee, h⟩ | h
      · obtain ⟨i, h1, h2⟩ := qsub_i hs h
        have hij := hD.1 i j _ _ h2 (qw_at (dA := X.dA) (sA := X.sA) (ad := ad) hc) rfl
        subst hij
        exact hj (List.mem_of_getElem? h1)
      · exact absurd h9.lt (Nat.not_lt.mpr h)
  have hD2 : va_D X.A (qw X.dA X.sA ad (qput Wd φ (r.2.map (qrc φ)))) := qD_len hD (qput_len φ Wd _ h200)
  obtain ⟨t2, a1, b1⟩ := kk T'.heap (locs ++ L) hP2 hD2 hS1 T' rfl X'
  refine ⟨t2, stp t2 ?_, b1⟩
  have hstk : v.toList ++ rest = (r.1.map (qrv φ)).toList.map (qv X.sA ad) ++ rest := by
    rw [hv2]
    cases r.1 with
    | none => rfl
    | some z => show [qv X.sA (fun k => ad (qf φ k)) z] ++ rest = [qv X.sA ad (qrv φ z)] ++ rest; rw [qv_ren]
  rw [hstk]
  exact a1
/-- the words of a call -/
def qcV (own : String) (idx : Nat) (y : MethodName) (cc : ByteArray) (nL : Nat) (ret : Option FieldType) (n : Nat) : Prop :=
  (∀ w ∈ ([.methodLink own idx y, .instanceMethod y, .selects y.cls y y, .initialized y.cls, .code y cc nL ret] : List Cond), w ∈ gtb) ∧ y.cls ≠ "java/lang/invoke/MethodHandle" ∧ y.cls ≠ "java/lang/invoke/VarHandle" ∧ (parseMethodDescriptor y.desc).map (fun d => d.parameters.length) = some n
def qcS (own : String) (idx : Nat) (y : MethodName) (cc : ByteArray) (nL : Nat) (ret : Option FieldType) (n : Nat) : Prop :=
  (∀ w ∈ ([.methodLink own idx y, .static y, .initialized y.cls, .code y cc nL ret] : List Cond), w ∈ gtb) ∧ y.cls ≠ "java/lang/invoke/MethodHandle" ∧ y.cls ≠ "java/lang/invoke/VarHandle" ∧ (parseMethodDescriptor y.desc).map (fun d => d.parameters.length) = some n
def qcN (own : String) (idx : Nat) (y : MethodName) (cc : ByteArray) (nL : Nat) (ret : Option FieldType) (n : Nat) : Prop :=
  (∀ w ∈ ([.static y, .initialized y.cls, .code y cc nL ret] : List Cond), w ∈ gtb) ∧ Cond.methodLinkNest own idx y "QuireDesk" ∈ ntb ∧ y.cls ≠ "java/lang/invoke/MethodHandle" ∧ y.cls ≠ "java/lang/invoke/VarHandle" ∧ (parseMethodDescriptor y.desc).map (fun d => d.parameters.length) = some n
theorem qstk {sA : Nat → Nat} {φ : List Nat} {As rest : List Value} : ((As.map (qrv φ)).reverse ++ rest).map (qv sA ad) = (As.map (qv sA (fun k => ad (qf φ k)))).reverse ++ rest.map (qv sA ad) := by
  rw [List.map_append, List.map_reverse, List.map_map]
  congr 2
  apply List.map_congr_left
  intro v _
  exact qv_ren sA ad φ v
theorem qcats {sA : Nat → Nat} {rest : List Value} : ((rest.map (qv sA ad)).map (fun v => v.category)).sum = (rest.map (fun v => v.category)).sum := by
  rw [List.map_map]
  congr 1
  apply List.map_congr_left
  intro v _
  exact qv_cat sA ad v
theorem QG.callV {β : Type} {y : MethodName} {cc' : ByteArray} {nL' : Nat} {ret' : Option FieldType} {d' n idx a ci : Nat} {Pd : (Nat → Nat) → Prop} {As rest fs : List Value} {Ws : List AC} {o' : Option β} {post' : β → Option Value × List AC} {g : β → Option α} (φ : List Nat) (hX : qok X cc own nL ret d) (hw : qcV own idx y cc' nL' ret' n) (hM : QM X.l y cc' nL' ret' d' 0 0 Pd (.ref a :: As) Ws o' post') (hpd : Pd (fun k => ad (qf φ k))) (hdd : d' + 1 ≤ d) (hnl : nL' ≤ 45) (hd : qdc cc pc (.invokevirtual idx) npc) (hn : npc = pc + 3) (hcs : cells ≤ X.R.cells ∧ slots ≤ X.R.slots) (hlen : As.length = n)
    (hrc : Ws[a]? = some (.inr (ci, fs))) (hci : (vwCl[ci]?).map (fun q => q.1) = some y.cls) (hst : st = (As.map (qrv φ)).reverse ++ .ref (qf φ a) :: rest) (hrest : (rest.map (fun v => v.category)).sum ≤ 8) (hsub : φ.map (fun i => Wd[i]?) = Ws.map (fun c => some (qrc φ c))) (hnd : va_nd φ = true) (hrl : ∀ x, (post' x).2.length = Ws.length)
    (k : ∀ x, QG X nL Q (g x) npc lv (((post' x).1.map (qrv φ)).toList ++ rest) (qput Wd φ ((post' x).2.map (qrc φ))) ad cells slots) (h200 : Wd.length ≤ 200 := by exact Nat.le_of_ble_eq_true rfl) : QG X nL Q (o'.bind g) pc lv st Wd ad cells slots :=
  fun x h H locs ls hP hD hS hl => by
    subst hn; subst hst
    obtain ⟨u, hu, hg⟩ := Option.bind_eq_some_iff.mp h
    have hs := qsub_w (dA := X.dA) (sA := X.sA) (ad := ad) hsub
    obtain ⟨q, hq, hqc⟩ := Option.map_eq_some_iff.mp hci
    have hPs : va_P (X.dC, X.dI) vwCl (qw X.dA X.sA (fun k => ad (qf φ k)) Ws) H := fun k q hk => by
      obtain ⟨i, h1, h2⟩ := qsub_i hs hk
      exact hP i q h2
    have hT : GoodIn gtb (wsV own idx y.cls y (Cond.code y cc' nL' ret' :: gtb)) := by
      refine gtb_goodIn fun w hw' => ?_
      rcases List.mem_append.mp hw' with h1 | h1
      · exact hw.1 w (by simp only [List.mem_cons, List.not_mem_nil, or_false] at h1 ⊢; rcases h1 with h1 | h1 | h1 | h1 <;> simp [h1])
      · rcases List.mem_cons.mp h1 with h1 | h1
        · exact hw.1 w (by simp [h1])
        · exact h1
    rw [show (As.map (qrv φ)).reverse ++ .ref (qf φ a) :: rest = ((As.map (qrv φ)).reverse ++ (.ref (qf φ a) :: rest)) from rfl, qstk]
    refine qrun_ret hX hsub hnd h200 (hrl u) hP hD hS
      (va_runV (As := As.map (qv X.sA (fun k => ad (qf φ k)))) (b := ad (qf φ a)) (rest := rest.map (qv X.sA ad)) ⟨hX.1, hX.2.1, hX.2.2.2.1, hX.2.2.2.2.1, hX.2.2.2.2.2.1⟩ (hM u hu X.dC X.dI X.dA X.sA (fun k => ad (qf φ k)) H.size hpd)
        (cwV n hX.2.2.2.2.2.1 hT rfl rfl rfl ⟨rfl, hw.2⟩ ⟨Nat.le_trans hdd hX.2.2.2.2.2.2.2.2.2.2.2.1, ?_⟩)
        ⟨qpre_blind, ?_, fun U hU hW => ⟨rfl, qpre_at hX hsub hnd hP hD hS hU hW⟩⟩ rfl (by rw [List.length_map]; exact hlen) (hl.1.trans rfl) rfl (lv_room (by rw [qcats]; exact hrest)) (qdcn hd rfl) ⟨hcs.1, hcs.2⟩)
      (fun H1 locs1 hP1 hD1 hS1 => ?_)
    · have := hX.2.2.2.2.2.2.2.2.2.2.2.2
      show 8 + (nL' + 11) + 64 * d' ≤ X.R.locals
      omega
    · have h9 := va_recv hX.2.2.2.2.2.2.2.2.1 hPs hq (qw_at (dA := X.dA) (sA := X.sA) (ad := fun k => ad (qf φ k)) hrc)
      rw [hqc] at h9
      exact h9
    · have := k u x hg H1 locs1 ls hP1 hD1 hS1 hl
      rw [List.map_append] at this
      exact this
theorem QG.callS {β : Type} {y : MethodName} {cc' : ByteArray} {nL' : Nat} {ret' : Option FieldType} {d' n idx : Nat} {Pd : (Nat → Nat) → Prop} {As rest : List Value} {Ws : List AC} {o' : Option β} {post' : β → Option Value × List AC} {g : β → Option α} (φ : List Nat) (hX : qok X cc own nL ret d) (hw : qcS own idx y cc' nL' ret' n) (hM : QM X.l y cc' nL' ret' d' 0 0 Pd As Ws o' post') (hpd : Pd (fun k => ad (qf φ k))) (hdd : d' + 1 ≤ d) (hnl : nL' ≤ 45) (hd : qdc cc pc (.invokestatic idx) npc) (hn : npc = pc + 3) (hcs : cells ≤ X.R.cells ∧ slots ≤ X.R.slots) (hlen : As.length = n)
    (hst : st = (As.map (qrv φ)).reverse ++ rest) (hrest : (rest.map (fun v => v.category)).sum ≤ 8) (hsub : φ.map (fun i => Wd[i]?) = Ws.map (fun c => some (qrc φ c))) (hnd : va_nd φ = true) (hrl : ∀ x, (post' x).2.length = Ws.length)
    (k : ∀ x, QG X nL Q (g x) npc lv (((post' x).1.map (qrv φ)).toList ++ rest) (qput Wd φ ((post' x).2.map (qrc φ))) ad cells slots) (h200 : Wd.length ≤ 200 := by exact Nat.le_of_ble_eq_true rfl) : QG X nL Q (o'.bind g) pc lv st Wd ad cells slots :=
  fun x h H locs ls hP hD hS hl => by
    subst hn; subst hst
    obtain ⟨u, hu, hg⟩ := Option.bind_eq_some_iff.mp h
    have hT : GoodIn gtb (va_wsS own idx y (Cond.code y cc' nL' ret' :: gtb)) := by
      refine gtb_goodIn fun w hw' => ?_
      rcases List.mem_append.mp hw' with h1 | h1
      · exact hw.1 w (by simp only [List.mem_cons, List.not_mem_nil, or_false] at h1 ⊢; rcases h1 with h1 | h1 | h1 <;> simp [h1])
      · rcases List.mem_cons.mp h1 with h1 | h1
        · exact hw.1 w (by simp [h1])
        · exact h1
    rw [qstk]
    refine qrun_ret hX hsub hnd h200 (hrl u) hP hD hS
      (va_runS (As := As.map (qv X.sA (fun k => ad (qf φ k)))) (rest := rest.map (qv X.sA ad)) ⟨hX.1, hX.2.1, hX.2.2.2.1, hX.2.2.2.2.1, hX.2.2.2.2.2.1⟩ (hM u hu X.dC X.dI X.dA X.sA (fun k => ad (qf φ k)) H.size hpd)
        (va_cwS n hX.2.2.2.2.2.1 hT rfl rfl rfl hw.2 ⟨Nat.le_trans hdd hX.2.2.2.2.2.2.2.2.2.2.2.1, ?_⟩)
        ⟨qpre_blind, fun U hU hW => ⟨rfl, qpre_at hX hsub hnd hP hD hS hU hW⟩⟩ rfl (by rw [List.length_map]; exact hlen) (hl.1.trans rfl) rfl (lv_room (by rw [qcats]; exact hrest)) (qdcn hd rfl) ⟨hcs.1, hcs.2⟩)
      (fun H1 locs1 hP1 hD1 hS1 => ?_)
    · have := hX.2.2.2.2.2.2.2.2.2.2.2.2
      show 8 + (nL' + 11) + 64 * d' ≤ X.R.locals
      omega
    · have := k u x hg H1 locs1 ls hP1 hD1 hS1 hl
      rw [List.map_append] at this
      exact this
theorem QG.callN {β : Type} {y : MethodName} {cc' : ByteArray} {nL' : Nat} {ret' : Option FieldType} {d' n idx : Nat} {Pd : (Nat → Nat) → Prop} {As rest : List Value} {Ws : List AC} {o' : Option β} {post' : β → Option Value × List AC} {g : β → Option α} (φ : List Nat) (hX : qok X cc own nL ret d) (hw : qcN own idx y cc' nL' ret' n) (hM : QM X.l y cc' nL' ret' d' 0 0 Pd As Ws o' post') (hpd : Pd (fun k => ad (qf φ k))) (hdd : d' + 1 ≤ d) (hnl : nL' ≤ 45) (hd : qdc cc pc (.invokestatic idx) npc) (hn : npc = pc + 3) (hcs : cells ≤ X.R.cells ∧ slots ≤ X.R.slots) (hlen : As.length = n)
    (hst : st = (As.map (qrv φ)).reverse ++ rest) (hrest : (rest.map (fun v => v.category)).sum ≤ 8) (hsub : φ.map (fun i => Wd[i]?) = Ws.map (fun c => some (qrc φ c))) (hnd : va_nd φ = true) (hrl : ∀ x, (post' x).2.length = Ws.length)
    (k : ∀ x, QG X nL Q (g x) npc lv (((post' x).1.map (qrv φ)).toList ++ rest) (qput Wd φ ((post' x).2.map (qrc φ))) ad cells slots) (h200 : Wd.length ≤ 200 := by exact Nat.le_of_ble_eq_true rfl) : QG X nL Q (o'.bind g) pc lv st Wd ad cells slots :=
  fun x h H locs ls hP hD hS hl => by
    subst hn; subst hst
    obtain ⟨u, hu, hg⟩ := Option.bind_eq_some_iff.mp h
    have hT : GoodIn gtb (Cond.code y cc' nL' ret' :: gtb) := by
      refine gtb_goodIn fun w h1 => ?_
      rcases List.mem_cons.mp h1 with h1 | h1
      · exact hw.1 w (by simp [h1])
      · exact h1
    rw [qstk]
    refine qrun_ret hX hsub hnd h200 (hrl u) hP hD hS
      (va_runSN (As := As.map (qv X.sA (fun k => ad (qf φ k)))) (rest := rest.map (qv X.sA ad)) ⟨hX.1, hX.2.1, hX.2.2.2.1, hX.2.2.2.2.1, hX.2.2.2.2.2.1⟩ (hM u hu X.dC X.dI X.dA X.sA (fun k => ad (qf φ k)) H.size hpd)
        ⟨va_cnB n hX.2.2.2.2.2.1 hT rfl rfl rfl (hX.2.2.2.2.2.2.1 _ hw.2.1) (hX.2.2.2.2.2.1 _ (hw.1 _ (by simp))) hw.2.2 ⟨Nat.le_trans hdd hX.2.2.2.2.2.2.2.2.2.2.2.1, ?_⟩, hX.2.2.2.2.2.1 _ (hw.1 _ (by simp)), trivial⟩
        ⟨qpre_blind, fun U hU hW => ⟨rfl, qpre_at hX hsub hnd hP hD hS hU hW⟩⟩ rfl (by rw [List.length_map]; exact hlen) (hl.1.trans rfl) rfl (lv_room (by rw [qcats]; exact hrest)) (qdcn hd rfl) ⟨hcs.1, hcs.2⟩)
      (fun H1 locs1 hP1 hD1 hS1 => ?_)
    · have := hX.2.2.2.2.2.2.2.2.2.2.2.2
      show 8 + (nL' + 11) + 64 * d' ≤ X.R.locals
      omega
    · have := k u x hg H1 locs1 ls hP1 hD1 hS1 hl
      rw [List.map_append] at this
      exact this
end R4

def qrRs (n : Nat) : List AC → Prop
  | [] => True
  | c :: l => qrR n c ∧ qrRs n l
theorem qrRs_all {n : Nat} : ∀ {l : List AC}, qrRs n l → ∀ c ∈ l, qrR n c
  | [], _, c, h => by cases h
  | a :: l, h, c, hc => by
    rcases List.mem_cons.mp hc with rfl | hc
    · exact h.1
    · exact qrRs_all h.2 c hc
theorem rr_none {n : Nat} : ∀ j k : Nat, (fun _ : Nat => (none : Option Nat)) j = some k → k < n := fun _ _ h => by cases h
theorem rr_up {n i v : Nat} {f : Nat → Option Nat} (hf : ∀ j k, f j = some k → k < n) (hv : v < n) : ∀ j k, va_up f i (some v) j = some k → k < n := by
  intro j k h
  unfold va_up at h
  split at h
  · cases h; exact hv
  · exact hf j k h
theorem qup_ag {ad ad0 : Nat → Nat} {n L q : Nat} (h : ∀ k, (k < n ∨ L ≤ k) → ad k = ad0 k) (hn : n ≤ L) : ∀ k, (k < n ∨ L + 1 ≤ k) → qup ad L q k = ad0 k := fun k hk => by
  unfold qup
  rw [if_neg (by omega)]
  exact h k (by omega)
theorem qfar_ag {ad ad0 adB : Nat → Nat} {n L m : Nat} (h : ∀ k, (k < n ∨ L ≤ k) → ad k = ad0 k) (hn : n ≤ L) (hb : ∀ k, (k < L ∨ L + m ≤ k) → adB k = ad k) : ∀ k, (k < n ∨ L + m ≤ k) → adB k = ad0 k := fun k hk => by
  rw [hb k (by omega)]
  exact h k (by omega)
def qw2 (Wd : List AC) (φ φ2 : List Nat) (n : Nat) (r : List AC) : List AC := qput Wd φ ((r.take n).map (qrc φ2)) ++ (r.drop n).map (qrc φ2)
section R8
variable {α : Type} {X : QX} {cc : ByteArray} {own : String} {nL : Nat} {ret : Option FieldType} {d : Nat} {Q : α → State → Prop} {o : Option α} {pc npc : Nat} {lv : LV} {st : List Value} {Wd : List AC} {ad : Nat → Nat} {cells slots : Nat}
theorem qrun_retA (hX : qok X cc own nL ret d) {φ φ2 : List Nat} {Ws : List AC} {m mc ms : Nat} (hsub : φ.map (fun i => Wd[i]?) = Ws.map (fun c => some (qrc φ c))) (hnd : va_nd φ = true) (h200 : Wd.length ≤ 200) (hφ2 : φ2 = φ ++ (List.range m).map (fun k => Wd.length + k)) {r : Option Value × List AC} (hrl : r.2.length = Ws.length + m)
    (hcw : Wd.all (qcB Wd.length) = true) (hcr : ∀ c ∈ Wd, qrR Wd.length c) (hrw : r.2.all (qcB (Ws.length + m)) = true) (hrr : ∀ c ∈ r.2, qrR (Ws.length + m) c) {H : Heap} {locs : List Loc} {ls : Array Slot} {st0 rest : List Value} {Q1 : State → Prop} (hr1 : r.1 = none)
    (hP : va_P (X.dC, X.dI) vwCl (qw X.dA X.sA ad Wd) H) (hD : va_D X.A (qw X.dA X.sA ad Wd)) (hS : va_S X.A X.s.heap H locs)
    (hr : va_Run X.p X.l X.e X.R X.s X.m X.args X.below X.meth X.c H locs cells slots mc ms (F0 X.m pc ls st0) rest (fun st oc t => qPost X.dC X.dI X.dA X.sA (fun k => ad (qf φ k)) Ws.length (va_A (qw X.dA X.sA (fun k => ad (qf φ k)) Ws) H.size) r oc t ∧ va_F (va_A (qw X.dA X.sA (fun k => ad (qf φ k)) Ws) H.size) st t) (va_A (qw X.dA X.sA (fun k => ad (qf φ k)) Ws) H.size))
    (kk : ∀ (adB : Nat → Nat) (H1 : Heap) (locs1 : List Loc), (∀ k, (k < Wd.length ∨ Wd.length + m ≤ k) → adB k = ad k) → va_P (X.dC, X.dI) vwCl (qw X.dA X.sA adB (qw2 Wd φ φ2 Ws.length r.2)) H1 → va_D X.A (qw X.dA X.sA adB (qw2 Wd φ φ2 Ws.length r.2)) → va_S X.A X.s.heap H1 locs1 → W X.p X.l X.e X.R X.s X.m X.args X.below X.meth X.c H1 locs1 (cells + mc) (slots + ms) Q1 (F0 X.m (pc + 3) ls rest)) :
    W X.p X.l X.e X.R X.s X.m X.args X.below X.meth X.c H locs cells slots Q1 (F0 X.m pc ls st0) := by
  have hs := qsub_w (dA := X.dA) (sA := X.sA) (ad := ad) hsub
  have hlen : φ.length = Ws.length := by have := congrArg List.length hsub; simpa using this
  have hF := va_free hD hS hX.2.2.2.2.2.2.2.2.2.1 φ hs
  have hin : ∀ j ∈ φ, j < Wd.length := by
    intro j hj
    obtain ⟨k, hk⟩ := List.getElem?_of_mem hj
    have hk2 : k < Ws.length := by rw [← hlen]; exact (List.getElem?_eq_some_iff.mp hk).1
    obtain ⟨i, h1, h2⟩ := qsub_at hsub (List.getElem?_eq_getElem hk2)
    rw [hk] at h1
    cases h1
    exact (List.getElem?_eq_some_iff.mp h2).1
  intro T hT XX
  obtain ⟨v, st₀, t, T', L, h0, X', hL, e1, e2, ⟨⟨ad', hag, hv, hP1, hK1, hD1⟩, hz, hk⟩, stp⟩ := hr T hT XX
  have hv2 : v = none := by have := Outcome.returned.inj hv; rw [hr1] at this; exact this
  rw [h0] at hz hk
  obtain ⟨adB, hadB⟩ : ∃ f : Nat → Nat, f = fun k => if Wd.length ≤ k ∧ k < Wd.length + m then ad' (Ws.length + (k - Wd.length)) else ad k := ⟨_, rfl⟩
  have hold : ∀ k, k < Wd.length → adB k = ad k := fun k h => by rw [hadB]; show (if _ then _ else _) = _; rw [if_neg (by omega)]
  have hfar : ∀ k, (k < Wd.length ∨ Wd.length + m ≤ k) → adB k = ad k := fun k h => by rw [hadB]; show (if _ then _ else _) = _; rw [if_neg (by omega)]
  have hnew : ∀ i, i < m → adB (Wd.length + i) = ad' (Ws.length + i) := fun i h => by
    rw [hadB]
    show (if _ then _ else _) = _
    rw [if_pos ⟨by omega, by omega⟩, Nat.add_sub_cancel_left]
  have hφa : ∀ k i, φ[k]? = some i → φ2[k]? = some i := fun k i h => by rw [hφ2, List.getElem?_append_left (List.getElem?_eq_some_iff.mp h).1]; exact h
  have hφb : ∀ i, i < m → φ2[Ws.length + i]? = some (Wd.length + i) := fun i h => by
    rw [hφ2, List.getElem?_append_right (by omega), hlen, Nat.add_sub_cancel_left, List.getElem?_map, List.getElem?_range h]
    rfl
  have c1 : ∀ q, q < Ws.length + m → adB (qf φ2 q) = ad' q := by
    intro q hq
    by_cases hqs : q < Ws.length
    · have hqφ : φ[q]? = some φ[q] := List.getElem?_eq_getElem (by omega)
      rw [qf_at (hφa q _ hqφ), hold _ (hin _ (List.mem_of_getElem? hqφ)), hag q (Or.inl hqs)]
      show _ = ad (qf φ q)
      rw [qf_at hqφ]
    · have hb := hφb (q - Ws.length) (by omega)
      rw [show Ws.length + (q - Ws.length) = q by omega] at hb
      rw [qf_at hb, hnew _ (by omega), show Ws.length + (q - Ws.length) = q by omega]
  have c2 : ∀ c ∈ r.2, qc X.dA X.sA adB (qrc φ2 c) = qc X.dA X.sA ad' c := fun c hc => by
    rw [qc_ren]
    exact qc_eq (List.all_eq_true.mp hrw c hc) (hrr c hc) (fun q hq => c1 q hq)
  have hS1 : va_S X.A X.s.heap T'.heap (locs ++ L) := ⟨Nat.le_trans hS.1 (by rw [e1]; exact hz), fun q h1 h2 => by rw [e1, hk q (Nat.lt_of_lt_of_le h1 hS.1) (fun z => h2 (hF q z))]; exact hS.2.1 q h1 h2, fun q hq => by
      rcases List.mem_append.mp hq with h | h
      · exact hS.2.2 q h
      · exact hF _ (hL q h)⟩
  have hql : (qput Wd φ ((r.2.take Ws.length).map (qrc φ2))).length = Wd.length := qput_len φ Wd _ h200
  have hnot : ∀ j c, j ∉ φ → Wd[j]? = some c → ¬ va_A (qw X.dA X.sA (fun k => ad (qf φ k)) Ws) H.size (ad j) := by
    intro j c hj hc z
    have h9 := hP j _ (qw_at (dA := X.dA) (sA := X.sA) (ad := ad) hc)
    rcases z with ⟨k, ee, h⟩ | h
    · obtain ⟨i, h1, h2⟩ := qsub_i hs h
      have hij := hD.1 i j _ _ h2 (qw_at (dA := X.dA) (sA := X.sA) (ad := ad) hc) rfl
      subst hij
      exact hj (List.mem_of_getElem? h1)
    · exact absurd h9.lt (Nat.not_lt.mpr h)
  have hP2 : va_P (X.dC, X.dI) vwCl (qw X.dA X.sA adB (qw2 Wd φ φ2 Ws.length r.2)) T'.heap := by
    intro j q hq
    rw [qw_get] at hq
    obtain ⟨c, hc, rfl⟩ := Option.map_eq_some_iff.mp hq
    unfold qw2 at hc
    rw [e1]
    by_cases hjN : j < Wd.length
    · rw [List.getElem?_append_left (by omega)] at hc
      by_cases hj : j ∈ φ
      · obtain ⟨k, hkj⟩ := List.getElem?_of_mem hj
        have hk3 : k < Ws.length := by rw [← hlen]; exact (List.getElem?_eq_some_iff.mp hkj).1
        have hk2 : k < r.2.length := by omega
        have hin1 := qput_in φ Wd ((r.2.take Ws.length).map (qrc φ2)) k j (qrc φ2 r.2[k]) h200 hnd hin hkj (by rw [List.getElem?_map, List.getElem?_take_of_lt hk3, List.getElem?_eq_getElem hk2]; rfl)
        rw [hin1] at hc
        cases hc
        have h9 := hP1 k _ (qw_at (dA := X.dA) (sA := X.sA) (ad := ad') (List.getElem?_eq_getElem hk2))
        rw [c2 _ (List.getElem_mem hk2), hold j hjN]
        rw [hag k (Or.inl hk3)] at h9
        have h9 : va_at (X.dC, X.dI) vwCl (ad (qf φ k), qc X.dA X.sA ad' r.2[k]) t.heap := h9
        rw [qf_at hkj] at h9
        exact h9
      · rw [qput_out φ _ _ h200 j hj] at hc
        have h9 := hP j _ (qw_at (dA := X.dA) (sA := X.sA) (ad := ad) hc)
        rw [hold j hjN, qc_eq (List.all_eq_true.mp hcw c (List.mem_of_getElem? hc)) (hcr c (List.mem_of_getElem? hc)) hold]
        exact h9.kept (hk _ h9.lt (hnot j c hj hc))
    · rw [List.getElem?_append_right (by omega), hql, List.getElem?_map, List.getElem?_drop] at hc
      obtain ⟨c', hc', rfl⟩ := Option.map_eq_some_iff.mp hc
      have hjm : Ws.length + (j - Wd.length) < r.2.length := (List.getElem?_eq_some_iff.mp hc').1
      have h9 := hP1 _ _ (qw_at (dA := X.dA) (sA := X.sA) (ad := ad') hc')
      have hn9 := hnew (j - Wd.length) (by omega)
      rw [show Wd.length + (j - Wd.length) = j by omega] at hn9
      rw [c2 _ (List.mem_of_getElem? hc'), hn9]
      exact h9
  have hlen2 : (qw2 Wd φ φ2 Ws.length r.2).length = Wd.length + m := by
    unfold qw2
    rw [List.length_append, hql, List.length_map, List.length_drop, hrl]
    omega
  have hat : ∀ j q, (qw X.dA X.sA adB (qw2 Wd φ φ2 Ws.length r.2))[j]? = some q → q.1 = adB j ∧ j < Wd.length + m := by
    intro j q hq
    rw [qw_get] at hq
    obtain ⟨c, hc, rfl⟩ := Option.map_eq_some_iff.mp hq
    exact ⟨rfl, by rw [← hlen2]; exact (List.getElem?_eq_some_iff.mp hc).1⟩
  have hnw : ∀ i, i < m → ∃ ee, (qw X.dA X.sA ad' r.2)[Ws.length + i]? = some (ad' (Ws.length + i), ee) := fun i hi => by
    have : Ws.length + i < r.2.length := by omega
    exact ⟨_, qw_at (List.getElem?_eq_getElem this)⟩
  have hmix : ∀ i j, i < Wd.length → j < m → adB i ≠ adB (Wd.length + j) := by
    intro i j hi hj hij
    rw [hold i hi, hnew j hj] at hij
    obtain ⟨ee, hee⟩ := hnw j hj
    by_cases hiφ : i ∈ φ
    · obtain ⟨k, hkj⟩ := List.getElem?_of_mem hiφ
      have hk3 : k < Ws.length := by rw [← hlen]; exact (List.getElem?_eq_some_iff.mp hkj).1
      have hk2 : k < r.2.length := by omega
      have h9 := qw_at (dA := X.dA) (sA := X.sA) (ad := ad') (List.getElem?_eq_getElem hk2)
      have e9 : ad' k = ad i := by rw [hag k (Or.inl hk3)]; show ad (qf φ k) = _; rw [qf_at hkj]
      have := hD1.1 k (Ws.length + j) _ _ h9 hee (by show ad' k = ad' (Ws.length + j); rw [e9]; exact hij)
      omega
    · exact hnot i _ hiφ (List.getElem?_eq_getElem hi) (by rw [hij]; exact hD1.2 _ _ hee)
  have hD2 : va_D X.A (qw X.dA X.sA adB (qw2 Wd φ φ2 Ws.length r.2)) := by
    refine ⟨fun i j p q hi hj hpq => ?_, fun k q hkq => ?_⟩
    · obtain ⟨a1, a2⟩ := hat i p hi
      obtain ⟨b1, b2⟩ := hat j q hj
      rw [a1, b1] at hpq
      by_cases hiN : i < Wd.length
      · by_cases hjN : j < Wd.length
        · rw [hold i hiN, hold j hjN] at hpq
          exact hD.1 i j _ _ (qw_at (dA := X.dA) (sA := X.sA) (ad := ad) (List.getElem?_eq_getElem hiN)) (qw_at (dA := X.dA) (sA := X.sA) (ad := ad) (List.getElem?_eq_getElem hjN)) hpq
        · exact absurd (by rw [show Wd.length + (j - Wd.length) = j by omega]; exact hpq) (hmix i (j - Wd.length) hiN (by omega))
      · by_cases hjN : j < Wd.length
        · exact absurd (by rw [show Wd.length + (i - Wd.length) = i by omega]; exact hpq.symm) (hmix j (i - Wd.length) hjN (by omega))
        · obtain ⟨x1, hx1⟩ := hnw (i - Wd.length) (by omega)
          obtain ⟨x2, hx2⟩ := hnw (j - Wd.length) (by omega)
          have n1 := hnew (i - Wd.length) (by omega)
          have n2 := hnew (j - Wd.length) (by omega)
          rw [show Wd.length + (i - Wd.length) = i by omega] at n1
          rw [show Wd.length + (j - Wd.length) = j by omega] at n2
          have := hD1.1 _ _ _ _ hx1 hx2 (by show ad' _ = ad' _; rw [← n1, ← n2]; exact hpq)
          omega
    · obtain ⟨a1, a2⟩ := hat k q hkq
      rw [a1]
      by_cases hkN : k < Wd.length
      · rw [hold k hkN]
        exact hD.2 k _ (qw_at (dA := X.dA) (sA := X.sA) (ad := ad) (List.getElem?_eq_getElem hkN))
      · obtain ⟨x1, hx1⟩ := hnw (k - Wd.length) (by omega)
        have n1 := hnew (k - Wd.length) (by omega)
        rw [show Wd.length + (k - Wd.length) = k by omega] at n1
        rw [n1]
        exact hF _ (hD1.2 _ _ hx1)
  obtain ⟨t2, a1, b1⟩ := kk adB T'.heap (locs ++ L) hfar hP2 hD2 hS1 T' rfl X'
  refine ⟨t2, stp t2 ?_, b1⟩
  rw [hv2]
  exact a1
def qcI (own : String) (idx : Nat) (y : MethodName) (cc : ByteArray) (nL n : Nat) : Prop :=
  (∀ w ∈ ([.methodLink own idx y, .instanceMethod y, .initialized y.cls, .code y cc nL none] : List Cond), w ∈ gtb) ∧ y.name = "<init>" ∧ y.cls ≠ "java/lang/invoke/MethodHandle" ∧ y.cls ≠ "java/lang/invoke/VarHandle" ∧ (parseMethodDescriptor y.desc).map (fun d => d.parameters.length) = some n
def qcIN (own : String) (idx : Nat) (y : MethodName) (cc : ByteArray) (nL n : Nat) : Prop :=
  (∀ w ∈ ([.instanceMethod y, .initialized y.cls, .code y cc nL none] : List Cond), w ∈ gtb) ∧ Cond.methodLinkNest own idx y "QuireDesk" ∈ ntb ∧ y.name = "<init>" ∧ y.cls ≠ "java/lang/invoke/MethodHandle" ∧ y.cls ≠ "java/lang/invoke/VarHandle" ∧ (parseMethodDescriptor y.desc).map (fun d => d.parameters.length) = some n
theorem QG.callI {β : Type} {y : MethodName} {cc' : ByteArray} {nL' d' n idx a m mc ms : Nat} {Pd : (Nat → Nat) → Prop} {As rest : List Value} {Ws : List AC} {u : β} {post' : β → Option Value × List AC} (φ φ2 : List Nat) (hX : qok X cc own nL ret d) (hw : qcI own idx y cc' nL' n ∨ qcIN own idx y cc' nL' n) (hM : QM X.l y cc' nL' none d' mc ms Pd (.ref a :: As) Ws (some u) post') (hpd : Pd (fun k => ad (qf φ k))) (hdd : d' + 1 ≤ d) (hnl : nL' ≤ 45) (hd : qdc cc pc (.invokespecial idx) npc) (hn : npc = pc + 3) (hcs : cells + mc ≤ X.R.cells ∧ slots + ms ≤ X.R.slots) (hlen : As.length = n)
    (hst : st = (As.map (qrv φ)).reverse ++ .ref (qf φ a) :: rest) (hrest : (rest.map (fun v => v.category)).sum ≤ 8) (hsub : φ.map (fun i => Wd[i]?) = Ws.map (fun c => some (qrc φ c))) (hnd : va_nd φ = true) (h200 : Wd.length ≤ 200) (hφ2 : φ2 = φ ++ (List.range m).map (fun k => Wd.length + k)) (hrl : (post' u).2.length = Ws.length + m) (hr1 : (post' u).1 = none)
    (hcl : lv.all (fun q => qvB Wd.length q.2) = true) (hcst : rest.all (qvB Wd.length) = true) (hcw : Wd.all (qcB Wd.length) = true) (hcr : ∀ c ∈ Wd, qrR Wd.length c) (hrw : (post' u).2.all (qcB (Ws.length + m)) = true) (hrr : ∀ c ∈ (post' u).2, qrR (Ws.length + m) c)
    (k : ∀ adB : Nat → Nat, (∀ k, (k < Wd.length ∨ Wd.length + m ≤ k) → adB k = ad k) → QG X nL Q o npc lv rest (qw2 Wd φ φ2 Ws.length (post' u).2) adB (cells + mc) (slots + ms)) : QG X nL Q o pc lv st Wd ad cells slots :=
  fun x h H locs ls hP hD hS hl => by
    subst hn; subst hst
    have hR := hX.2.2.2.2.2.2.2.2.2.2.2
    have hroom : 8 + (nL' + 11) + 64 * d' ≤ X.R.locals := by omega
    have hfr : d' + 1 ≤ X.R.frames := by omega
    have hco : Cond.code y cc' nL' none ∈ gtb := hw.elim (fun z => z.1 _ (by simp)) (fun z => z.1 _ (by simp))
    have hT : GoodIn gtb (Cond.code y cc' nL' none :: gtb) := by
      refine gtb_goodIn fun w h1 => ?_
      rcases List.mem_cons.mp h1 with h1 | h1
      · rw [h1]; exact hco
      · exact h1
    have hMu := hM u rfl X.dC X.dI X.dA X.sA (fun k => ad (qf φ k)) H.size hpd
    rw [show (As.map (qrv φ)).reverse ++ .ref (qf φ a) :: rest = ((As.map (qrv φ)).reverse ++ (.ref (qf φ a) :: rest)) from rfl, qstk]
    refine qrun_retA (mc := mc) (ms := ms) hX hsub hnd h200 hφ2 hrl hcw hcr hrw hrr hr1 hP hD hS (rest := rest.map (qv X.sA ad)) ?_ (fun adB H1 locs1 hfar hP1 hD1 hS1 => ?_)
    · rcases hw with hw | hw
      · exact va_runI (As := As.map (qv X.sA (fun k => ad (qf φ k)))) (b := ad (qf φ a)) (rest := rest.map (qv X.sA ad)) ⟨hX.1, hX.2.1, hX.2.2.2.1, hX.2.2.2.2.1, hX.2.2.2.2.2.1⟩ hMu
          (cwI n hX.2.2.2.2.2.1 hT rfl rfl rfl (hX.2.2.2.2.2.1 _ (hw.1 _ (by simp))) (hX.2.2.2.2.2.1 _ (hw.1 _ (by simp))) (hX.2.2.2.2.2.1 _ (hw.1 _ (by simp))) hw.2.1 hw.2.2 ⟨hfr, hroom⟩)
          ⟨qpre_blind, fun U hU hW => ⟨rfl, qpre_at hX hsub hnd hP hD hS hU hW⟩⟩ rfl (by rw [List.length_map]; exact hlen) (hl.1.trans rfl) rfl (lv_room (by rw [qcats]; exact hrest)) (qdcn hd rfl) hcs
      · exact va_runIN (As := As.map (qv X.sA (fun k => ad (qf φ k)))) (b := ad (qf φ a)) (rest := rest.map (qv X.sA ad)) ⟨hX.1, hX.2.1, hX.2.2.2.1, hX.2.2.2.2.1, hX.2.2.2.2.2.1⟩ hMu
          ⟨va_cnB n hX.2.2.2.2.2.1 hT rfl rfl rfl (hX.2.2.2.2.2.2.1 _ hw.2.1) (hX.2.2.2.2.2.1 _ (hw.1 _ (by simp))) hw.2.2.2 ⟨hfr, hroom⟩, hw.2.2.1, hX.2.2.2.2.2.1 _ (hw.1 _ (by simp))⟩
          ⟨qpre_blind, fun U hU hW => ⟨rfl, qpre_at hX hsub hnd hP hD hS hU hW⟩⟩ rfl (by rw [List.length_map]; exact hlen) (hl.1.trans rfl) rfl (lv_room (by rw [qcats]; exact hrest)) (qdcn hd rfl) hcs
    · have hold : ∀ k, k < Wd.length → adB k = ad k := fun k h => hfar k (Or.inl h)
      have := k adB hfar x h H1 locs1 ls hP1 hD1 hS1 (by rw [qlv_eq hcl hold]; exact hl)
      rw [qst_eq hcst hold] at this
      exact this
end R8

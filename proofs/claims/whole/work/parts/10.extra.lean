theorem qsh_eq (φ : List Nat) (z : Option Nat) : qrv φ (va_rf (Option.map (· + φ.length) z)) = va_rf z := by
  cases z with
  | none => rfl
  | some k =>
    show Value.ref (qf φ (k + φ.length)) = .ref k
    have : φ[k + φ.length]? = none := List.getElem?_eq_none (by omega)
    unfold qf
    rw [this]
    simp
theorem qpd {ad : Nat → Nat} {z : Option Nat} {r i n : Nat} (φ : List Nat) (hi : qf φ i = r) (h : Option.map ad z ≠ some (ad r)) (hn : n = φ.length := by rfl) : Option.map (fun k => ad (qf φ k)) (Option.map (· + n) z) ≠ some (ad (qf φ i)) := by
  subst hn
  rw [hi]
  cases z with
  | none => intro q; cases q
  | some k =>
    intro q
    apply h
    have : φ[k + φ.length]? = none := List.getElem?_eq_none (by omega)
    have e : qf φ (k + φ.length) = k := by unfold qf; rw [this]; simp
    show some (ad k) = some (ad r)
    rw [← e]
    exact q
section R6
variable {α : Type} {X : QX} {cc : ByteArray} {own : String} {nL : Nat} {ret : Option FieldType} {d : Nat} {Q : α → State → Prop} {o oT oF : Option α} {pc npc : Nat} {lv : LV} {st : List Value} {Wd : List AC} {ad : Nat → Nat} {cells slots : Nat}
theorem QG.acmp_neE {r : Nat} {off : Int} {tgt : Nat} (hX : qok X cc own nL ret d) (hd : qdc cc pc (.if_acmp .ne off) npc) (hn : npc = pc + 3) (ht : (pc : Int) + off = (tgt : Int)) (g : QG X nL Q o npc lv st Wd ad cells slots) : QG X nL Q o pc lv (.ref r :: .ref r :: st) Wd ad cells slots :=
  fun x h H locs ls hP hD hS hl => by
    subst hn
    exact lv_acmp_ne (rx := some (ad r)) (ry := some (ad r)) hX.1 hX.2.1 (qdcn hd rfl) ht (fun c => absurd rfl c) (fun c => g x h H locs ls hP hD hS hl)
theorem QG.acmp_neN {z : Option Nat} {r : Nat} {off : Int} {tgt : Nat} (hX : qok X cc own nL ret d) (hd : qdc cc pc (.if_acmp .ne off) npc) (hn : npc = pc + 3) (ht : (pc : Int) + off = (tgt : Int)) (h2 : Option.map ad z ≠ some (ad r)) (gT : QG X nL Q o tgt lv st Wd ad cells slots) : QG X nL Q o pc lv (va_rf z :: .ref r :: st) Wd ad cells slots :=
  fun x h H locs ls hP hD hS hl => by
    subst hn
    rw [List.map_cons, List.map_cons, qv_rf]
    exact lv_acmp_ne (rx := some (ad r)) (ry := z.map ad) hX.1 hX.2.1 (qdcn hd rfl) ht (fun c => gT x h H locs ls hP hD hS hl) (fun c => absurd c.symm h2)
theorem QM.konst {β : Type} {l : Launch} {y : MethodName} {cc : ByteArray} {nL : Nat} {ret : Option FieldType} {d mc ms : Nat} {Pd : (Nat → Nat) → Prop} {av : List Value} {u : β} {post : β → Option Value × List AC} (h : QM l y cc nL ret d mc ms Pd av Wd (some u) post) : QM l y cc nL ret d mc ms Pd av Wd (some u) (fun _ => post u) := by
  intro x hx
  cases hx
  exact h u rfl
theorem QG.callV0u {β : Type} {y : MethodName} {cc' : ByteArray} {nL' : Nat} {ret' : Option FieldType} {d' n idx a ci : Nat} {Pd : (Nat → Nat) → Prop} {As rest fs : List Value} {u : β} {post' : β → Option Value × List AC} (hX : qok X cc own nL ret d) (hw : qcV own idx y cc' nL' ret' n) (hM : QM X.l y cc' nL' ret' d' 0 0 Pd (.ref a :: As) Wd (some u) post') (hpd : Pd ad) (hdd : d' + 1 ≤ d) (hnl : nL' ≤ 45) (hd : qdc cc pc (.invokevirtual idx) npc) (hn : npc = pc + 3) (hcs : cells ≤ X.R.cells ∧ slots ≤ X.R.slots) (hlen : As.length = n)
    (hrc : Wd[a]? = some (.inr (ci, fs))) (hci : (vwCl[ci]?).map (fun q => q.1) = some y.cls) (hst : st = As.reverse ++ .ref a :: rest) (hrest : (rest.map (fun v => v.category)).sum ≤ 8) (hrl : (post' u).2.length = Wd.length)
    (k : QG X nL Q o npc lv ((post' u).1.toList ++ rest) (post' u).2 ad cells slots) : QG X nL Q o pc lv st Wd ad cells slots :=
  QG.callV0 (g := fun _ => o) hX hw hM.konst hpd hdd hnl hd hn hcs hlen hrc hci hst hrest (fun _ => hrl) (fun _ => k)
end R6

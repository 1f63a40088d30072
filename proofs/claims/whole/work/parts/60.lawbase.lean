def qinvA : List Nat → Nat → Nat → Nat → Nat
  | [], _, i, n => i + n
  | a :: l, k, i, n => cond (Nat.beq a i) k (qinvA l (k + 1) i n)
/-- the callee's number of the caller's cell i -/
def qinv (φ : List Nat) (i : Nat) : Nat := qinvA φ 0 i φ.length
theorem qinvA_ok (φ : List Nat) (i : Nat) : ∀ (l : List Nat) (k : Nat), (∀ j, l[j]? = φ[k + j]?) → qf φ (qinvA l k i φ.length) = i
  | [], k, _ => by
    show qf φ (i + φ.length) = i
    have : φ[i + φ.length]? = none := List.getElem?_eq_none (by omega)
    unfold qf
    rw [this]
    simp
  | a :: l, k, h => by
    show qf φ (cond (Nat.beq a i) k (qinvA l (k + 1) i φ.length)) = i
    cases hb : Nat.beq a i with
    | true =>
      have h0 := h 0
      rw [List.getElem?_cons_zero, Nat.add_zero] at h0
      show qf φ k = i
      rw [qf_at h0.symm]
      exact Nat.eq_of_beq_eq_true hb
    | false =>
      exact qinvA_ok φ i l (k + 1) (fun j => by have := h (j + 1); rw [List.getElem?_cons_succ] at this; rw [this]; congr 1; omega)
theorem qinv_ok (φ : List Nat) (i : Nat) : qf φ (qinv φ i) = i := qinvA_ok φ i φ 0 (fun j => by rw [Nat.zero_add])
theorem qinv_eq (φ : List Nat) (f : Nat → Option Nat) : (fun j => Option.map (qf φ) (Option.map (qinv φ) (f j))) = f := by
  funext j
  cases f j with
  | none => rfl
  | some k => show some (qf φ (qinv φ k)) = some k; rw [qinv_ok]
theorem qinv_rf (φ : List Nat) (z : Option Nat) : qrv φ (va_rf (Option.map (qinv φ) z)) = va_rf z := by
  cases z with
  | none => rfl
  | some k => show Value.ref (qf φ (qinv φ k)) = .ref k; rw [qinv_ok]
section R9
variable {α : Type} {X : QX} {cc : ByteArray} {own : String} {nL : Nat} {ret : Option FieldType} {d : Nat} {Q : α → State → Prop} {o oT oF : Option α} {pc npc : Nat} {lv : LV} {st : List Value} {Wd : List AC} {ad : Nat → Nat} {cells slots : Nat}
theorem QG.withD (h : va_D X.A (qw X.dA X.sA ad Wd) → QG X nL Q o pc lv st Wd ad cells slots) : QG X nL Q o pc lv st Wd ad cells slots := fun x hx H locs ls hP hD hS hl => h hD x hx H locs ls hP hD hS hl
theorem QG.eqW {Wd' : List AC} (h : Wd = Wd') (g : QG X nL Q o pc lv st Wd' ad cells slots) : QG X nL Q o pc lv st Wd ad cells slots := h ▸ g
theorem qad_ne {i j : Nat} (hD : va_D X.A (qw X.dA X.sA ad Wd)) (hi : i < Wd.length) (hj : j < Wd.length) (h : i ≠ j) : ad i ≠ ad j := fun e =>
  h (hD.1 i j _ _ (qw_at (dA := X.dA) (sA := X.sA) (ad := ad) (List.getElem?_eq_getElem hi)) (qw_at (dA := X.dA) (sA := X.sA) (ad := ad) (List.getElem?_eq_getElem hj)) e)
theorem QG.callVk {β : Type} {y : MethodName} {cc' : ByteArray} {nL' : Nat} {ret' : Option FieldType} {d' n idx a ci : Nat} {Pd : (Nat → Nat) → Prop} {As rest fs : List Value} {Ws : List AC} {o' : Option β} {post' : β → Option Value × List AC} {u : β} (φ : List Nat) (hz : o' = some u) (hX : qok X cc own nL ret d) (hw : qcV own idx y cc' nL' ret' n) (hM : QM X.l y cc' nL' ret' d' 0 0 Pd (.ref a :: As) Ws o' post') (hpd : Pd (fun k => ad (qf φ k))) (hdd : d' + 1 ≤ d) (hnl : nL' ≤ 45) (hd : qdc cc pc (.invokevirtual idx) npc) (hn : npc = pc + 3) (hcs : cells ≤ X.R.cells ∧ slots ≤ X.R.slots) (hlen : As.length = n)
    (hrc : Ws[a]? = some (.inr (ci, fs))) (hci : (vwCl[ci]?).map (fun q => q.1) = some y.cls) (hst : st = (As.map (qrv φ)).reverse ++ .ref (qf φ a) :: rest) (hrest : (rest.map (fun v => v.category)).sum ≤ 8) (hsub : φ.map (fun i => Wd[i]?) = Ws.map (fun c => some (qrc φ c))) (hnd : va_nd φ = true) (h200 : Wd.length ≤ 200) (hrl : (post' u).2.length = Ws.length)
    (k : QG X nL Q o npc lv (((post' u).1.map (qrv φ)).toList ++ rest) (qput Wd φ ((post' u).2.map (qrc φ))) ad cells slots) : QG X nL Q o pc lv st Wd ad cells slots := by
  subst hz
  exact QG.callV (g := fun _ => o) φ hX hw hM.konst hpd hdd hnl hd hn hcs hlen hrc hci hst hrest hsub hnd (fun _ => hrl) (fun _ => k) h200
theorem QG.scld {b L : Nat} {xs : Nat → Int32} {i v : Int32} (hX : qok X cc own nL ret d) (hX0 : va_X b L xs X.s X.s.heap) (hbl : b < X.s.heap.size) (hbA : ¬ X.A b) (hsb : X.sA 100 = b) (hd : qdc cc pc .iaload npc) (hn : npc = pc + 1) (hi : vp_in i L) (hv : xs i.toNatClampNeg = v) (g : QG X nL Q o npc lv (.int v :: st) Wd ad cells slots) : QG X nL Q o pc lv (.int i :: .float (UInt32.ofNat 100) :: st) Wd ad cells slots :=
  fun x h H locs ls hP hD hS hl => by
    subst hn; subst hv
    have g1 := g x h H locs ls hP hD hS hl
    rw [List.map_cons, List.map_cons, show qv X.sA ad (.float (UInt32.ofNat 100)) = .ref b by show Value.ref (X.sA (UInt32.ofNat 100).toNat) = _; rw [show (UInt32.ofNat 100).toNat = 100 by decide, hsb]]
    exact va_sld hX.1 hX.2.1 hX0 hbl hbA hS hi (qdcn hd rfl) g1
theorem QG.sclen {b L : Nat} {xs : Nat → Int32} (hX : qok X cc own nL ret d) (hX0 : va_X b L xs X.s X.s.heap) (hbl : b < X.s.heap.size) (hbA : ¬ X.A b) (hsb : X.sA 100 = b) (hd : qdc cc pc .arraylength npc) (hn : npc = pc + 1) (g : QG X nL Q o npc lv (.int (nI L) :: st) Wd ad cells slots) : QG X nL Q o pc lv (.float (UInt32.ofNat 100) :: st) Wd ad cells slots :=
  fun x h H locs ls hP hD hS hl => by
    subst hn
    have g1 := g x h H locs ls hP hD hS hl
    rw [List.map_cons, show qv X.sA ad (.float (UInt32.ofNat 100)) = .ref b by show Value.ref (X.sA (UInt32.ofNat 100).toNat) = _; rw [show (UInt32.ofNat 100).toNat = 100 by decide, hsb]]
    exact va_slen hX.1 hX.2.1 hX0 hbl hbA hS (qdcn hd rfl) g1
end R9
theorem qpd2 {ad : Nat → Nat} {z : Option Nat} {r i : Nat} (φ : List Nat) (hi : qf φ i = r) (h : ∀ k, z = some k → ad k ≠ ad r) : Option.map (fun k => ad (qf φ k)) (Option.map (qinv φ) z) ≠ some (ad (qf φ i)) := by
  rw [hi]
  cases z with
  | none => intro q; cases q
  | some k =>
    intro q
    refine h k rfl ?_
    have q : some (ad (qf φ (qinv φ k))) = some (ad r) := q
    rw [qinv_ok] at q
    exact Option.some.inj q
theorem lg_cmp_self (x : Int64) : lg_cmp x x = 0 := by simp [lg_cmp]
def va_up2 (V : Nat → Nat → Int32) (k j : Nat) (e : Int32) : Nat → Nat → Int32 := fun a b => cond (Nat.beq a k && Nat.beq b j) e (V a b)
def rfB : Nat → Option Nat := fun k => match k with
  | 0 => some 50
  | 1 => some 55
  | 2 => some 60
  | 3 => some 65
  | 4 => some 70
  | 5 => some 75
  | _ => none
def kfB : Nat → Option Nat := fun k => match k with
  | 0 => some 80
  | 1 => some 87
  | 2 => some 94
  | 3 => some 101
  | _ => none
def wLx (rfc kfc : Nat → Option Nat) (lz lt : Value) (A V : Nat → Nat → Int32) (B : Nat → Bool) (L M : Nat → Int64) : List AC := (.inr (7, [.ref 1, .ref 2, .ref 27, .ref 34, .ref 41, .ref 42, .ref 44, .ref 46]) :: .inl (3, 6, .inr (.inr (.inr (.inr rfc)))) :: .inr (4, [.ref 3, .ref 12, .ref 16, lz, .int (V 2 4), .ref 20, .ref 21, .ref 22, .ref 23, .ref 24, .ref 25, .ref 26, .int (V 2 12)]) :: .inr (2, [.int (V 3 0), .ref 4, .ref 5, .ref 6, .ref 7, .ref 8, .ref 9, .ref 10, .ref 11, .int (V 3 9), .int (V 3 10), .int (V 3 11), .int (V 3 12)]) :: .inl (0, 30, .inl (A 4)) :: .inl (0, 30, .inl (A 5)) :: .inl (0, 30, .inl (A 6)) :: .inl (0, 30, .inl (A 7)) :: .inl (0, 30, .inl (A 8)) :: .inl (0, 30, .inl (A 9)) :: .inl (0, 30, .inl (A 10)) :: .inl (0, 30, .inl (A 11)) :: .inr (1, [.ref 3, .int (V 12 1), .int (V 12 2), .int (V 12 3), .int (V 12 4), .ref 13, .ref 14, .ref 15, .int (V 12 8), .int (V 12 9), .int (V 12 10), .int (V 12 11), .int (V 12 12)]) :: .inl (0, 9, .inl (A 13)) :: .inl (0, 9, .inl (A 14)) :: .inl (0, 9, .inl (A 15)) :: .inr (1, [.ref 3, .int (V 16 1), .int (V 16 2), .int (V 16 3), .int (V 16 4), .ref 17, .ref 18, .ref 19, .int (V 16 8), .int (V 16 9), .int (V 16 10), .int (V 16 11), .int (V 16 12)]) :: .inl (0, 9, .inl (A 17)) :: .inl (0, 9, .inl (A 18)) :: .inl (0, 9, .inl (A 19)) :: .inl (0, 7140, .inl (A 20)) :: .inl (0, 30, .inl (A 21)) :: .inl (0, 80, .inl (A 22)) :: .inl (1, 7200, .inr (.inl L)) :: .inl (0, 7200, .inl (A 24)) :: .inl (0, 8, .inl (A 25)) :: .inl (0, 8, .inl (A 26)) :: .inr (0, [.int (qb (B 27)), .int (V 27 1), .int (V 27 2), .int (V 27 3), .int (V 27 4), .int (V 27 5), .ref 28, .ref 29, .ref 30, .ref 31, .ref 32, .ref 33, .int (V 27 12)]) :: .inl (0, 8, .inl (A 28)) :: .inl (0, 64, .inl (A 29)) :: .inl (0, 30, .inl (A 30)) :: .inl (0, 30, .inl (A 31)) :: .inl (0, 30, .inl (A 32)) :: .inl (0, 30, .inl (A 33)) :: .inr (0, [.int (qb (B 34)), .int (V 34 1), .int (V 34 2), .int (V 34 3), .int (V 34 4), .int (V 34 5), .ref 35, .ref 36, .ref 37, .ref 38, .ref 39, .ref 40, .int (V 34 12)]) :: .inl (0, 8, .inl (A 35)) :: .inl (0, 64, .inl (A 36)) :: .inl (0, 30, .inl (A 37)) :: .inl (0, 30, .inl (A 38)) :: .inl (0, 30, .inl (A 39)) :: .inl (0, 30, .inl (A 40)) :: .inl (4, 4, .inr (.inr (.inr (.inr kfc)))) :: .inr (6, [.ref 43, .int (V 42 1), .int (V 42 2)]) :: .inl (0, 400, .inl (A 43)) :: .inr (6, [.ref 45, .int (V 44 1), .int (V 44 2)]) :: .inl (0, 400, .inl (A 45)) :: .inr (3, [.int (V 46 0), .int (V 46 1), lt, .int (V 46 3), .int (V 46 4), .ref 47, .ref 48, .ref 49, .int (V 46 8), .int (V 46 9), .int (V 46 10), .int (V 46 11), .int (V 46 12)]) :: .inl (0, 9, .inl (A 47)) :: .inl (0, 31, .inl (A 48)) :: .inl (0, 31, .inl (A 49)) :: .inr (5, [.ref 51, .ref 52, .ref 53, .ref 54, .int (V 50 4), .int (qb (B 50))]) :: .inl (0, 30, .inl (A 51)) :: .inl (0, 30, .inl (A 52)) :: .inl (0, 210, .inl (A 53)) :: .inl (0, 6, .inl (A 54)) :: .inr (5, [.ref 56, .ref 57, .ref 58, .ref 59, .int (V 55 4), .int (qb (B 55))]) :: .inl (0, 30, .inl (A 56)) :: .inl (0, 30, .inl (A 57)) :: .inl (0, 210, .inl (A 58)) :: .inl (0, 6, .inl (A 59)) :: .inr (5, [.ref 61, .ref 62, .ref 63, .ref 64, .int (V 60 4), .int (qb (B 60))]) :: .inl (0, 30, .inl (A 61)) :: .inl (0, 30, .inl (A 62)) :: .inl (0, 210, .inl (A 63)) :: .inl (0, 6, .inl (A 64)) :: .inr (5, [.ref 66, .ref 67, .ref 68, .ref 69, .int (V 65 4), .int (qb (B 65))]) :: .inl (0, 30, .inl (A 66)) :: .inl (0, 30, .inl (A 67)) :: .inl (0, 210, .inl (A 68)) :: .inl (0, 6, .inl (A 69)) :: .inr (5, [.ref 71, .ref 72, .ref 73, .ref 74, .int (V 70 4), .int (qb (B 70))]) :: .inl (0, 30, .inl (A 71)) :: .inl (0, 30, .inl (A 72)) :: .inl (0, 210, .inl (A 73)) :: .inl (0, 6, .inl (A 74)) :: .inr (5, [.ref 76, .ref 77, .ref 78, .ref 79, .int (V 75 4), .int (qb (B 75))]) :: .inl (0, 30, .inl (A 76)) :: .inl (0, 30, .inl (A 77)) :: .inl (0, 210, .inl (A 78)) :: .inl (0, 6, .inl (A 79)) :: .inr (0, [.int (qb (B 80)), .int (V 80 1), .int (V 80 2), .int (V 80 3), .int (V 80 4), .int (V 80 5), .ref 81, .ref 82, .ref 83, .ref 84, .ref 85, .ref 86, .int (V 80 12)]) :: .inl (0, 8, .inl (A 81)) :: .inl (0, 64, .inl (A 82)) :: .inl (0, 30, .inl (A 83)) :: .inl (0, 30, .inl (A 84)) :: .inl (0, 30, .inl (A 85)) :: .inl (0, 30, .inl (A 86)) :: .inr (0, [.int (qb (B 87)), .int (V 87 1), .int (V 87 2), .int (V 87 3), .int (V 87 4), .int (V 87 5), .ref 88, .ref 89, .ref 90, .ref 91, .ref 92, .ref 93, .int (V 87 12)]) :: .inl (0, 8, .inl (A 88)) :: .inl (0, 64, .inl (A 89)) :: .inl (0, 30, .inl (A 90)) :: .inl (0, 30, .inl (A 91)) :: .inl (0, 30, .inl (A 92)) :: .inl (0, 30, .inl (A 93)) :: .inr (0, [.int (qb (B 94)), .int (V 94 1), .int (V 94 2), .int (V 94 3), .int (V 94 4), .int (V 94 5), .ref 95, .ref 96, .ref 97, .ref 98, .ref 99, .ref 100, .int (V 94 12)]) :: .inl (0, 8, .inl (A 95)) :: .inl (0, 64, .inl (A 96)) :: .inl (0, 30, .inl (A 97)) :: .inl (0, 30, .inl (A 98)) :: .inl (0, 30, .inl (A 99)) :: .inl (0, 30, .inl (A 100)) :: .inr (0, [.int (qb (B 101)), .int (V 101 1), .int (V 101 2), .int (V 101 3), .int (V 101 4), .int (V 101 5), .ref 102, .ref 103, .ref 104, .ref 105, .ref 106, .ref 107, .int (V 101 12)]) :: .inl (0, 8, .inl (A 102)) :: .inl (0, 64, .inl (A 103)) :: .inl (0, 30, .inl (A 104)) :: .inl (0, 30, .inl (A 105)) :: .inl (0, 30, .inl (A 106)) :: .inl (0, 30, .inl (A 107)) :: .inr (8, (.int (V 108 0) :: .ref 109 :: .ref 110 :: .ref 111 :: .ref 112 :: .ref 113 :: .ref 114 :: .ref 115 :: .ref 116 :: .int (V 108 9) :: .int (V 108 10) :: .ref 117 :: .ref 118 :: .ref 119 :: .ref 120 :: .ref 121 :: .ref 122 :: .ref 123 :: .ref 124 :: .ref 125 :: .ref 126 :: .ref 127 :: .ref 128 :: .ref 129 :: .ref 130 :: .ref 131 :: .ref 132 :: .int (V 108 27) :: .int (V 108 28) :: .ref 133 :: .int (V 108 30) :: .int (V 108 31) :: .int (V 108 32) :: .int (V 108 33) :: .int (V 108 34) :: .int (V 108 35) :: .int (V 108 36) :: .ref 134 :: .ref 135 :: .ref 136 :: .ref 137 :: .ref 138 :: .ref 139 :: .int (V 108 43) :: .int (V 108 44) :: .int (V 108 45) :: .int (V 108 46) :: .ref 140 :: .ref 141 :: [])) :: .inl (0, 6, .inl (A 109)) :: .inl (0, 180, .inl (A 110)) :: .inl (0, 180, .inl (A 111)) :: .inl (0, 1260, .inl (A 112)) :: .inl (0, 6, .inl (A 113)) :: .inl (0, 6, .inl (A 114)) :: .inl (0, 6, .inl (A 115)) :: .inl (0, 6, .inl (A 116)) :: .inl (0, 30, .inl (A 117)) :: .inl (0, 30, .inl (A 118)) :: .inl (0, 9, .inl (A 119)) :: .inl (2, 18414, .inl (A 120)) :: .inl (1, 18414, .inr (.inl M)) :: .inl (0, 18414, .inl (A 122)) :: .inl (2, 5, .inl (A 123)) :: .inl (0, 5, .inl (A 124)) :: .inl (0, 5, .inl (A 125)) :: .inl (0, 5, .inl (A 126)) :: .inl (0, 5, .inl (A 127)) :: .inl (0, 40, .inl (A 128)) :: .inl (0, 320, .inl (A 129)) :: .inl (0, 150, .inl (A 130)) :: .inl (0, 150, .inl (A 131)) :: .inl (0, 2000, .inl (A 132)) :: .inl (0, 400, .inl (A 133)) :: .inl (0, 8, .inl (A 134)) :: .inl (0, 64, .inl (A 135)) :: .inl (0, 64, .inl (A 136)) :: .inl (0, 9, .inl (A 137)) :: .inl (0, 200, .inl (A 138)) :: .inl (0, 200, .inl (A 139)) :: .inl (0, 200, .inl (A 140)) :: .inl (0, 64, .inl (A 141)) :: [])

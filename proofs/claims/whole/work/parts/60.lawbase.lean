def qinvA : List Nat → Nat → Nat → Nat → Nat
  | [], _, i, n => i + n
  | a :: l, k, i, n => cond (Nat.beq a i) k (qinvA l (k + 1) i n)
/-- the callee's number of the caller's cell i -/
def qinv (φ : List Nat) (i : Nat) : Nat := qinvA φ 0 i φ.length
theorem qinvA_ok (φ : List Nat) (i : Nat) : ∀ (l : List Nat) (k : Nat), (∀ j, l[j]? = φ[k + j]?) → qf φ (qinvA l k i φ.length) = i
  | [], k, _ => by
    show qf φ (i + φ.length) = i
    have : φ[i + φ.length]? = none := List.getElem?_eq_none (by omega)
    unfold qf
    rw [this]
    simp
  | a :: l, k, h => by
    show qf φ (cond (Nat.beq a i) k (qinvA l (k + 1) i φ.length)) = i
    cases hb : Nat.beq a i with
    | true =>
      have h0 := h 0
      rw [List.getElem?_cons_zero, Nat.add_zero] at h0
      show qf φ k = i
      rw [qf_at h0.symm]
      exact Nat.eq_of_beq_eq_true hb
    | false =>
      exact qinvA_ok φ i l (k + 1) (fun j => by have := h (j + 1); rw [List.getElem?_cons_succ] at this; rw [this]; congr 1; omega)
theorem qinv_ok (φ : List Nat) (i : Nat) : qf φ (qinv φ i) = i := qinvA_ok φ i φ 0 (fun j => by rw [Nat.zero_add])
theorem qinv_eq (φ : List Nat) (f : Nat → Option Nat) : (fun j => Option.map (qf φ) (Option.map (qinv φ) (f j))) = f := by
  funext j
  cases f j with
  | none => rfl
  | some k => show some (qf φ (qinv φ k)) = some k; rw [qinv_ok]
theorem qinv_rf (φ : List Nat) (z : Option Nat) : qrv φ (va_rf (Option.map (qinv φ) z)) = va_rf z := by
  cases z with
  | none => rfl
  | some k => show Value.ref (qf φ (qinv φ k)) = .ref k; rw [qinv_ok]
section R9
variable {α : Type} {X : QX} {cc : ByteArray} {own : String} {nL : Nat} {ret : Option FieldType} {d : Nat} {Q : α → State → Prop} {o oT oF : Option α} {pc npc : Nat} {lv : LV} {st : List Value} {Wd : List AC} {ad : Nat → Nat} {cells slots : Nat}
theorem QG.withD (h : va_D X.A (qw X.dA X.sA ad Wd) → QG X nL Q o pc lv st Wd ad cells slots) : QG X nL Q o pc lv st Wd ad cells slots := fun x hx H locs ls hP hD hS hl => h hD x hx H locs ls hP hD hS hl
theorem QG.eqW {Wd' : List AC} (h : Wd = Wd') (g : QG X nL Q o pc lv st Wd' ad cells slots) : QG X nL Q o pc lv st Wd ad cells slots := h ▸ g
theorem qad_ne {i j : Nat} (hD : va_D X.A (qw X.dA X.sA ad Wd)) (hi : i < Wd.length) (hj : j < Wd.length) (h : i ≠ j) : ad i ≠ ad j := fun e =>
  h (hD.1 i j _ _ (qw_at (dA := X.dA) (sA := X.sA) (ad := ad) (List.getElem?_eq_getElem hi)) (qw_at (dA := X.dA) (sA := X.sA) (ad := ad) (List.getElem?_eq_getElem hj)) e)
theorem QG.callVk {β : Type} {y : MethodName} {cc' : ByteArray} {nL' : Nat} {ret' : Option FieldType} {d' n idx a ci : Nat} {Pd : (Nat → Nat) → Prop} {As rest fs : List Value} {Ws : List AC} {o' : Option β} {post' : β → Option Value × List AC} {u : β} (φ : List Nat) (hz : o' = some u) (hX : qok X cc own nL ret d) (hw : qcV own idx y cc' nL' ret' n) (hM : QM X.l y cc' nL' ret' d' 0 0 Pd (.ref a :: As) Ws o' post') (hpd : Pd (fun k => ad (qf φ k))) (hdd : d' + 1 ≤ d) (hnl : nL' ≤ 45) (hd : qdc cc pc (.invokevirtual idx) npc) (hn : npc = pc + 3) (hcs : cells ≤ X.R.cells ∧ slots ≤ X.R.slots) (hlen : As.length = n)
    (hrc : Ws[a]? = some (.inr (ci, fs))) (hci : (vwCl[ci]?).map (fun q => q.1) = some y.cls) (hst : st = (As.map (qrv φ)).reverse ++ .ref (qf φ a) :: rest) (hrest : (rest.map (fun v => v.category)).sum ≤ 8) (hsub : φ.map (fun i => Wd[i]?) = Ws.map (fun c => some (qrc φ c))) (hnd : va_nd φ = true) (h200 : Wd.length ≤ 200) (hrl : (post' u).2.length = Ws.length)
    (k : QG X nL Q o npc lv (((post' u).1.map (qrv φ)).toList ++ rest) (qput Wd φ ((post' u).2.map (qrc φ))) ad cells slots) : QG X nL Q o pc lv st Wd ad cells slots := by
  subst hz
  exact QG.callV (g := fun _ => o) φ hX hw hM.konst hpd hdd hnl hd hn hcs hlen hrc hci hst hrest hsub hnd (fun _ => hrl) (fun _ => k) h200
theorem QG.scld {b L : Nat} {xs : Nat → Int32} {i v : Int32} (hX : qok X cc own nL ret d) (hX0 : va_X b L xs X.s X.s.heap) (hbl : b < X.s.heap.size) (hbA : ¬ X.A b) (hsb : X.sA 100 = b) (hd : qdc cc pc .iaload npc) (hn : npc = pc + 1) (hi : vp_in i L) (hv : xs i.toNatClampNeg = v) (g : QG X nL Q o npc lv (.int v :: st) Wd ad cells slots) : QG X nL Q o pc lv (.int i :: .float (UInt32.ofNat 100) :: st) Wd ad cells slots :=
  fun x h H locs ls hP hD hS hl => by
    subst hn; subst hv
    have g1 := g x h H locs ls hP hD hS hl
    rw [List.map_cons, List.map_cons, show qv X.sA ad (.float (UInt32.ofNat 100)) = .ref b by show Value.ref (X.sA (UInt32.ofNat 100).toNat) = _; rw [show (UInt32.ofNat 100).toNat = 100 by decide, hsb]]
    exact va_sld hX.1 hX.2.1 hX0 hbl hbA hS hi (qdcn hd rfl) g1
theorem QG.sclen {b L : Nat} {xs : Nat → Int32} (hX : qok X cc own nL ret d) (hX0 : va_X b L xs X.s X.s.heap) (hbl : b < X.s.heap.size) (hbA : ¬ X.A b) (hsb : X.sA 100 = b) (hd : qdc cc pc .arraylength npc) (hn : npc = pc + 1) (g : QG X nL Q o npc lv (.int (nI L) :: st) Wd ad cells slots) : QG X nL Q o pc lv (.float (UInt32.ofNat 100) :: st) Wd ad cells slots :=
  fun x h H locs ls hP hD hS hl => by
    subst hn
    have g1 := g x h H locs ls hP hD hS hl
    rw [List.map_cons, show qv X.sA ad (.float (UInt32.ofNat 100)) = .ref b by show Value.ref (X.sA (UInt32.ofNat 100).toNat) = _; rw [show (UInt32.ofNat 100).toNat = 100 by decide, hsb]]
    exact va_slen hX.1 hX.2.1 hX0 hbl hbA hS (qdcn hd rfl) g1
end R9
theorem qpd2 {ad : Nat → Nat} {z : Option Nat} {r i : Nat} (φ : List Nat) (hi : qf φ i = r) (h : ∀ k, z = some k → ad k ≠ ad r) : Option.map (fun k => ad (qf φ k)) (Option.map (qinv φ) z) ≠ some (ad (qf φ i)) := by
  rw [hi]
  cases z with
  | none => intro q; cases q
  | some k =>
    intro q
    refine h k rfl ?_
    have q : some (ad (qf φ (qinv φ k))) = some (ad r) := q
    rw [qinv_ok] at q
    exact Option.some.inj q
theorem lg_cmp_self (x : Int64) : lg_cmp x x = 0 := by simp [lg_cmp]
def va_up2 (V : Nat → Nat → Int32) (k j : Nat) (e : Int32) : Nat → Nat → Int32 := fun a b => cond (Nat.beq a k && Nat.beq b j) e (V a b)
def rfB : Nat → Option Nat := fun k => match k with
  | 0 => some 46
  | 1 => some 51
  | 2 => some 56
  | 3 => some 61
  | 4 => some 66
  | 5 => some 71
  | _ => none
def kfB : Nat → Option Nat := fun k => match k with
  | 0 => some 76
  | 1 => some 83
  | 2 => some 90
  | 3 => some 97
  | _ => none
def wLx (rfc kfc : Nat → Option Nat) (lz lt : Value) (A V : Nat → Nat → Int32) (B : Nat → Bool) (L M : Nat → Int64) : List AC := (.inr (7, [.ref 1, .ref 2, .ref 23, .ref 30, .ref 37, .ref 38, .ref 40, .ref 42]) :: .inl (3, 6, .inr (.inr (.inr (.inr rfc)))) :: .inr (4, [.ref 3, .ref 4, lz, .int (V 2 3), .ref 16, .ref 17, .ref 18, .ref 19, .ref 20, .ref 21, .ref 22, .int (V 2 11)]) :: .inr (1, [.ref 4, .int (V 3 1), .int (V 3 2), .int (V 3 3), .int (V 3 4), .ref 13, .ref 14, .ref 15, .int (V 3 8), .int (V 3 9), .int (V 3 10), .int (V 3 11), .int (V 3 12)]) :: .inr (2, [.int (V 4 0), .ref 5, .ref 6, .ref 7, .ref 8, .ref 9, .ref 10, .ref 11, .ref 12, .int (V 4 9), .int (V 4 10), .int (V 4 11), .int (V 4 12)]) :: .inl (0, 30, .inl (A 5)) :: .inl (0, 30, .inl (A 6)) :: .inl (0, 30, .inl (A 7)) :: .inl (0, 30, .inl (A 8)) :: .inl (0, 30, .inl (A 9)) :: .inl (0, 30, .inl (A 10)) :: .inl (0, 30, .inl (A 11)) :: .inl (0, 30, .inl (A 12)) :: .inl (0, 9, .inl (A 13)) :: .inl (0, 9, .inl (A 14)) :: .inl (0, 9, .inl (A 15)) :: .inl (0, 7140, .inl (A 16)) :: .inl (0, 30, .inl (A 17)) :: .inl (0, 80, .inl (A 18)) :: .inl (1, 7200, .inr (.inl L)) :: .inl (0, 7200, .inl (A 20)) :: .inl (0, 8, .inl (A 21)) :: .inl (0, 8, .inl (A 22)) :: .inr (0, [.int (qb (B 23)), .int (V 23 1), .int (V 23 2), .int (V 23 3), .int (V 23 4), .int (V 23 5), .ref 24, .ref 25, .ref 26, .ref 27, .ref 28, .ref 29, .int (V 23 12)]) :: .inl (0, 8, .inl (A 24)) :: .inl (0, 64, .inl (A 25)) :: .inl (0, 30, .inl (A 26)) :: .inl (0, 30, .inl (A 27)) :: .inl (0, 30, .inl (A 28)) :: .inl (0, 30, .inl (A 29)) :: .inr (0, [.int (qb (B 30)), .int (V 30 1), .int (V 30 2), .int (V 30 3), .int (V 30 4), .int (V 30 5), .ref 31, .ref 32, .ref 33, .ref 34, .ref 35, .ref 36, .int (V 30 12)]) :: .inl (0, 8, .inl (A 31)) :: .inl (0, 64, .inl (A 32)) :: .inl (0, 30, .inl (A 33)) :: .inl (0, 30, .inl (A 34)) :: .inl (0, 30, .inl (A 35)) :: .inl (0, 30, .inl (A 36)) :: .inl (4, 4, .inr (.inr (.inr (.inr kfc)))) :: .inr (6, [.ref 39, .int (V 38 1), .int (V 38 2)]) :: .inl (0, 400, .inl (A 39)) :: .inr (6, [.ref 41, .int (V 40 1), .int (V 40 2)]) :: .inl (0, 400, .inl (A 41)) :: .inr (3, [.int (V 42 0), .int (V 42 1), lt, .int (V 42 3), .int (V 42 4), .ref 43, .ref 44, .ref 45, .int (V 42 8), .int (V 42 9), .int (V 42 10), .int (V 42 11), .int (V 42 12)]) :: .inl (0, 9, .inl (A 43)) :: .inl (0, 31, .inl (A 44)) :: .inl (0, 31, .inl (A 45)) :: .inr (5, [.ref 47, .ref 48, .ref 49, .ref 50, .int (V 46 4), .int (qb (B 46))]) :: .inl (0, 30, .inl (A 47)) :: .inl (0, 30, .inl (A 48)) :: .inl (0, 210, .inl (A 49)) :: .inl (0, 6, .inl (A 50)) :: .inr (5, [.ref 52, .ref 53, .ref 54, .ref 55, .int (V 51 4), .int (qb (B 51))]) :: .inl (0, 30, .inl (A 52)) :: .inl (0, 30, .inl (A 53)) :: .inl (0, 210, .inl (A 54)) :: .inl (0, 6, .inl (A 55)) :: .inr (5, [.ref 57, .ref 58, .ref 59, .ref 60, .int (V 56 4), .int (qb (B 56))]) :: .inl (0, 30, .inl (A 57)) :: .inl (0, 30, .inl (A 58)) :: .inl (0, 210, .inl (A 59)) :: .inl (0, 6, .inl (A 60)) :: .inr (5, [.ref 62, .ref 63, .ref 64, .ref 65, .int (V 61 4), .int (qb (B 61))]) :: .inl (0, 30, .inl (A 62)) :: .inl (0, 30, .inl (A 63)) :: .inl (0, 210, .inl (A 64)) :: .inl (0, 6, .inl (A 65)) :: .inr (5, [.ref 67, .ref 68, .ref 69, .ref 70, .int (V 66 4), .int (qb (B 66))]) :: .inl (0, 30, .inl (A 67)) :: .inl (0, 30, .inl (A 68)) :: .inl (0, 210, .inl (A 69)) :: .inl (0, 6, .inl (A 70)) :: .inr (5, [.ref 72, .ref 73, .ref 74, .ref 75, .int (V 71 4), .int (qb (B 71))]) :: .inl (0, 30, .inl (A 72)) :: .inl (0, 30, .inl (A 73)) :: .inl (0, 210, .inl (A 74)) :: .inl (0, 6, .inl (A 75)) :: .inr (0, [.int (qb (B 76)), .int (V 76 1), .int (V 76 2), .int (V 76 3), .int (V 76 4), .int (V 76 5), .ref 77, .ref 78, .ref 79, .ref 80, .ref 81, .ref 82, .int (V 76 12)]) :: .inl (0, 8, .inl (A 77)) :: .inl (0, 64, .inl (A 78)) :: .inl (0, 30, .inl (A 79)) :: .inl (0, 30, .inl (A 80)) :: .inl (0, 30, .inl (A 81)) :: .inl (0, 30, .inl (A 82)) :: .inr (0, [.int (qb (B 83)), .int (V 83 1), .int (V 83 2), .int (V 83 3), .int (V 83 4), .int (V 83 5), .ref 84, .ref 85, .ref 86, .ref 87, .ref 88, .ref 89, .int (V 83 12)]) :: .inl (0, 8, .inl (A 84)) :: .inl (0, 64, .inl (A 85)) :: .inl (0, 30, .inl (A 86)) :: .inl (0, 30, .inl (A 87)) :: .inl (0, 30, .inl (A 88)) :: .inl (0, 30, .inl (A 89)) :: .inr (0, [.int (qb (B 90)), .int (V 90 1), .int (V 90 2), .int (V 90 3), .int (V 90 4), .int (V 90 5), .ref 91, .ref 92, .ref 93, .ref 94, .ref 95, .ref 96, .int (V 90 12)]) :: .inl (0, 8, .inl (A 91)) :: .inl (0, 64, .inl (A 92)) :: .inl (0, 30, .inl (A 93)) :: .inl (0, 30, .inl (A 94)) :: .inl (0, 30, .inl (A 95)) :: .inl (0, 30, .inl (A 96)) :: .inr (0, [.int (qb (B 97)), .int (V 97 1), .int (V 97 2), .int (V 97 3), .int (V 97 4), .int (V 97 5), .ref 98, .ref 99, .ref 100, .ref 101, .ref 102, .ref 103, .int (V 97 12)]) :: .inl (0, 8, .inl (A 98)) :: .inl (0, 64, .inl (A 99)) :: .inl (0, 30, .inl (A 100)) :: .inl (0, 30, .inl (A 101)) :: .inl (0, 30, .inl (A 102)) :: .inl (0, 30, .inl (A 103)) :: .inr (8, (.int (V 104 0) :: .ref 105 :: .ref 106 :: .ref 107 :: .ref 108 :: .ref 109 :: .ref 110 :: .ref 111 :: .ref 112 :: .int (V 104 9) :: .int (V 104 10) :: .ref 113 :: .ref 114 :: .ref 115 :: .ref 116 :: .ref 117 :: .ref 118 :: .ref 119 :: .ref 120 :: .ref 121 :: .ref 122 :: .ref 123 :: .ref 124 :: .ref 125 :: .ref 126 :: .ref 127 :: .ref 128 :: .int (V 104 27) :: .int (V 104 28) :: .ref 129 :: .int (V 104 30) :: .int (V 104 31) :: .int (V 104 32) :: .int (V 104 33) :: .int (V 104 34) :: .int (V 104 35) :: .int (V 104 36) :: .ref 130 :: .ref 131 :: .ref 132 :: .ref 133 :: .ref 134 :: .ref 135 :: .int (V 104 43) :: .int (V 104 44) :: .int (V 104 45) :: .int (V 104 46) :: .ref 136 :: .ref 137 :: [])) :: .inl (0, 6, .inl (A 105)) :: .inl (0, 180, .inl (A 106)) :: .inl (0, 180, .inl (A 107)) :: .inl (0, 1260, .inl (A 108)) :: .inl (0, 6, .inl (A 109)) :: .inl (0, 6, .inl (A 110)) :: .inl (0, 6, .inl (A 111)) :: .inl (0, 6, .inl (A 112)) :: .inl (0, 30, .inl (A 113)) :: .inl (0, 30, .inl (A 114)) :: .inl (0, 9, .inl (A 115)) :: .inl (2, 18414, .inl (A 116)) :: .inl (1, 18414, .inr (.inl M)) :: .inl (0, 18414, .inl (A 118)) :: .inl (2, 5, .inl (A 119)) :: .inl (0, 5, .inl (A 120)) :: .inl (0, 5, .inl (A 121)) :: .inl (0, 5, .inl (A 122)) :: .inl (0, 5, .inl (A 123)) :: .inl (0, 40, .inl (A 124)) :: .inl (0, 320, .inl (A 125)) :: .inl (0, 150, .inl (A 126)) :: .inl (0, 150, .inl (A 127)) :: .inl (0, 2000, .inl (A 128)) :: .inl (0, 400, .inl (A 129)) :: .inl (0, 8, .inl (A 130)) :: .inl (0, 64, .inl (A 131)) :: .inl (0, 64, .inl (A 132)) :: .inl (0, 9, .inl (A 133)) :: .inl (0, 200, .inl (A 134)) :: .inl (0, 200, .inl (A 135)) :: .inl (0, 200, .inl (A 136)) :: .inl (0, 64, .inl (A 137)) :: [])

theorem nest_tab {w : Cond} (h : qnest w = true) : w.onTables = true := by
  cases w <;> first | rfl | cases h
theorem st_known {args : Array Value} {s : State} (hg : ∀ w ∈ gtb, w.before args s = true) : ∃ (dC : Nat → ClassId) (dI : Nat → Nat → Nat), ∀ (k : Nat) (q : vw_C), vwCl[k]? = some q → u_Kn s q.1 q.2.1 q.2.2 (dC k) (dI k) := by
  obtain ⟨c0, i0, h0⟩ := u_known (C := RX0) (T := TX0) (N := 13) (n := 13) hg gnX0 (hg _ (nw_X7_22 _ (List.mem_cons_of_mem _ List.mem_cons_self)))
  obtain ⟨c1, i1, h1⟩ := u_known (C := RX1) (T := TX1) (N := 13) (n := 13) hg gnX1 (hg _ (nw_X4_11 _ (List.mem_cons_of_mem _ List.mem_cons_self)))
  obtain ⟨c2, i2, h2⟩ := u_known (C := RX2) (T := TX2) (N := 13) (n := 13) hg gnX2 (hg _ (nw_X1_9 _ (List.mem_cons_of_mem _ List.mem_cons_self)))
  obtain ⟨c3, i3, h3⟩ := u_known (C := RX3) (T := TX3) (N := 13) (n := 13) hg gnX3 (hg _ (nw_X7_46 _ (List.mem_cons_of_mem _ List.mem_cons_self)))
  obtain ⟨c4, i4, h4⟩ := u_known (C := RX4) (T := TX4) (N := 12) (n := 12) hg gnX4 (hg _ (nw_X7_15 _ (List.mem_cons_of_mem _ List.mem_cons_self)))
  obtain ⟨c5, i5, h5⟩ := u_known (C := RX5) (T := TX5) (N := 6) (n := 6) hg gnX5 (hg _ (nw_X7_9 _ (List.mem_cons_of_mem _ List.mem_cons_self)))
  obtain ⟨c6, i6, h6⟩ := u_known (C := RX6) (T := TX6) (N := 3) (n := 3) hg gnX6 (hg _ (nw_X7_36 _ (List.mem_cons_of_mem _ List.mem_cons_self)))
  obtain ⟨c7, i7, h7⟩ := u_known (C := RX7) (T := TX7) (N := 8) (n := 8) hg gnX7 (hg _ (nw_L_7 _ (List.mem_cons_of_mem _ List.mem_cons_self)))
  obtain ⟨c8, i8, h8⟩ := u_known (C := RX8) (T := TX8) (N := 49) (n := 49) hg gnX8 (hg _ (nw_L_10 _ (List.mem_cons_of_mem _ List.mem_cons_self)))
  refine ⟨fun k => match k with
    | 0 => c0
    | 1 => c1
    | 2 => c2
    | 3 => c3
    | 4 => c4
    | 5 => c5
    | 6 => c6
    | 7 => c7
    | _ => c8, fun k => match k with
    | 0 => i0
    | 1 => i1
    | 2 => i2
    | 3 => i3
    | 4 => i4
    | 5 => i5
    | 6 => i6
    | 7 => i7
    | _ => i8, ?_⟩
  intro k q hq
  match k, hq with
  | 0, hq => cases hq; exact h0
  | 1, hq => cases hq; exact h1
  | 2, hq => cases hq; exact h2
  | 3, hq => cases hq; exact h3
  | 4, hq => cases hq; exact h4
  | 5, hq => cases hq; exact h5
  | 6, hq => cases hq; exact h6
  | 7, hq => cases hq; exact h7
  | 8, hq => cases hq; exact h8
  | k + 9, hq => simp [vwCl] at hq
theorem st_arr {args : Array Value} {s : State} (hg : ∀ w ∈ gtb, w.before args s = true) (h3 : va_AO RX5 s) (h4 : va_AO RX0 s) : ∃ dA : Nat → ClassId, ∀ (k : Nat) (q : ClassId × FieldType), (qtys dA)[k]? = some q → ArrOfT s q.1 q.2 ∧ va_RA s q.1 q.2 := by
  obtain ⟨a0, k0, m0, p0, q0, r0⟩ := Cond.arrayClass_spec (hg _ ac_int)
  obtain ⟨a1, k1, m1, p1, q1, r1⟩ := Cond.arrayClass_spec (hg _ ac_long)
  obtain ⟨a2, k2, m2, p2, q2, r2⟩ := Cond.arrayClass_spec (hg _ ac_boolean)
  obtain ⟨m3, a3, k3, f3, -, q3, r3, p3⟩ := Cond.arrayOver_spec h3
  obtain ⟨m4, a4, k4, f4, -, q4, r4, p4⟩ := Cond.arrayOver_spec h4
  refine ⟨fun k => match k with
    | 0 => a0
    | 1 => a1
    | 2 => a2
    | 3 => a3
    | _ => a4, ?_⟩
  intro k q hq
  match k, hq with
  | 0, hq => cases hq; exact ⟨fun n z => ⟨(fun k h => by cases h), k0, q0, m0, r0⟩, p0⟩
  | 1, hq => cases hq; exact ⟨fun n z => ⟨(fun k h => by cases h), k1, q1, m1, r1⟩, p1⟩
  | 2, hq => cases hq; exact ⟨fun n z => ⟨(fun k h => by cases h), k2, q2, m2, r2⟩, p2⟩
  | 3, hq => cases hq; exact ⟨fun n z => ⟨(fun k h => by cases h), k3, q3, m3, r3⟩, k3, m3, q3, r3, f3, p3⟩
  | 4, hq => cases hq; exact ⟨fun n z => ⟨(fun k h => by cases h), k4, q4, m4, r4⟩, k4, m4, q4, r4, f4, p4⟩
  | k + 5, hq => simp [qtys] at hq
theorem st_static {args : Array Value} {s : State} {A : Nat → Prop} (hA : ∀ a : Nat, a < s.heap.size → ¬ A a) {n d : String} {ty : FieldType} {N : Nat} {f : Nat → Int32} (hN : N < 2 ^ 31) (hl : (Cond.laysStatic "QuireDesk" n d).before args s = true) (hini : (Cond.initialized "QuireDesk").before args s = true) (harr : (Cond.arrayOf (.static "QuireDesk" n d) ty).before args s = true) (hlen : (Cond.eq (.length (.static "QuireDesk" n d)) (.int (Int32.ofNat N))).before args s = true) (hel : ∀ j : Nat, j < N → (Cond.eq (.elem (.static "QuireDesk" n d) (.int (Int32.ofNat j))) (.int (f j))).before args s = true) : ∃ t : Nat, ∀ (sA : Nat → Nat) (j : Nat), sA j = t → qSt1 sA j n d ty N f A s s.heap := by
  obtain ⟨t, ht, hT⟩ := va_Tof (f := fun k => .int (f k)) (A := A) hN harr (va_eqt hlen) (fun j hj => va_eqt (hel j hj)) hA
  exact ⟨t, fun sA j e => by subst e; exact ⟨va_Zref hl hini ht hA, hT⟩⟩
set_option maxRecDepth 100000 in
theorem st_s_mark {args : Array Value} {s : State} (hs : ∀ w ∈ flatC (Jvm.Cond.and given_1 narrow_1), w.before args s = true) : ∀ j : Nat, j < 7 → (Cond.eq (.elem (.static "QuireDesk" "MARK_TOP" "[I") (.int (Int32.ofNat j))) (.int (s_mark j))).before args s = true
  | 0, _ => hs _ (by decide +kernel)
  | 1, _ => hs _ (by decide +kernel)
  | 2, _ => hs _ (by decide +kernel)
  | 3, _ => hs _ (by decide +kernel)
  | 4, _ => hs _ (by decide +kernel)
  | 5, _ => hs _ (by decide +kernel)
  | 6, _ => hs _ (by decide +kernel)
  | j + 7, h => absurd h (by omega)
set_option maxRecDepth 100000 in
theorem st_s_low {args : Array Value} {s : State} (hs : ∀ w ∈ flatC (Jvm.Cond.and given_1 narrow_1), w.before args s = true) : ∀ j : Nat, j < 6 → (Cond.eq (.elem (.static "QuireDesk" "RULE_LOW" "[I") (.int (Int32.ofNat j))) (.int (s_low j))).before args s = true
  | 0, _ => hs _ (by decide +kernel)
  | 1, _ => hs _ (by decide +kernel)
  | 2, _ => hs _ (by decide +kernel)
  | 3, _ => hs _ (by decide +kernel)
  | 4, _ => hs _ (by decide +kernel)
  | 5, _ => hs _ (by decide +kernel)
  | j + 6, h => absurd h (by omega)
set_option maxRecDepth 100000 in
theorem st_s_top {args : Array Value} {s : State} (hs : ∀ w ∈ flatC (Jvm.Cond.and given_1 narrow_1), w.before args s = true) : ∀ j : Nat, j < 6 → (Cond.eq (.elem (.static "QuireDesk" "RULE_TOP" "[I") (.int (Int32.ofNat j))) (.int (s_top j))).before args s = true
  | 0, _ => hs _ (by decide +kernel)
  | 1, _ => hs _ (by decide +kernel)
  | 2, _ => hs _ (by decide +kernel)
  | 3, _ => hs _ (by decide +kernel)
  | 4, _ => hs _ (by decide +kernel)
  | 5, _ => hs _ (by decide +kernel)
  | j + 6, h => absurd h (by omega)
set_option maxRecDepth 100000 in
theorem st_s_abc {args : Array Value} {s : State} (hs : ∀ w ∈ flatC (Jvm.Cond.and given_1 narrow_1), w.before args s = true) : ∀ j : Nat, j < 23 → (Cond.eq (.elem (.static "QuireDesk" "ALPHABET" "[C") (.int (Int32.ofNat j))) (.int (s_abc j))).before args s = true
  | 0, _ => hs _ (by decide +kernel)
  | 1, _ => hs _ (by decide +kernel)
  | 2, _ => hs _ (by decide +kernel)
  | 3, _ => hs _ (by decide +kernel)
  | 4, _ => hs _ (by decide +kernel)
  | 5, _ => hs _ (by decide +kernel)
  | 6, _ => hs _ (by decide +kernel)
  | 7, _ => hs _ (by decide +kernel)
  | 8, _ => hs _ (by decide +kernel)
  | 9, _ => hs _ (by decide +kernel)
  | 10, _ => hs _ (by decide +kernel)
  | 11, _ => hs _ (by decide +kernel)
  | 12, _ => hs _ (by decide +kernel)
  | 13, _ => hs _ (by decide +kernel)
  | 14, _ => hs _ (by decide +kernel)
  | 15, _ => hs _ (by decide +kernel)
  | 16, _ => hs _ (by decide +kernel)
  | 17, _ => hs _ (by decide +kernel)
  | 18, _ => hs _ (by decide +kernel)
  | 19, _ => hs _ (by decide +kernel)
  | 20, _ => hs _ (by decide +kernel)
  | 21, _ => hs _ (by decide +kernel)
  | 22, _ => hs _ (by decide +kernel)
  | j + 23, h => absurd h (by omega)
set_option maxHeartbeats 4000000 in
set_option maxRecDepth 100000 in
theorem whole_start {p : Program} {e : Env} {s : State} {m : MethodId} {below : List Frame} {meth : Method} {c : Code} (l : Launch) (hflags : l.flags = flags0) {b L : Nat} {xs : Nat → Int32} (hL : L ≤ 3072) (C0 : lw_At p s m meth c b L xs) : W p l e room_1 s m #[Value.ref b] below meth c s.heap [] 0 0 (lw_Z below #[Value.ref b] s) (entryFrame m ([Value.ref b] : List Value).toArray 4) := by
  obtain ⟨hx, hb, hr, hml, hown, hts, hX0, hbl, hlocks, hgv⟩ := id C0
  have hg : ∀ w ∈ gtb, w.before #[Value.ref b] s = true := fun w h => hts w (List.mem_filter.mp h).1
  have hn : ∀ w ∈ ntb, va_Nw w s := fun w h => va_Nw.of (nest_tab (ntb_nest h)) (hts w (List.mem_filter.mp h).1)
  have hA : ∀ a : Nat, a < s.heap.size → ¬ (fun q : Nat => s.heap.size ≤ q) a := fun a h => Nat.not_le.mpr h
  have hs := flat_of_before _ hgv
  have h5 : va_AO RX5 s := va_AO.of (hts (.arrayOver (.object "QuireDesk$Row")) (List.mem_of_getElem? (i := 118) (by decide +kernel)))
  have h0 : va_AO RX0 s := va_AO.of (hts (.arrayOver (.object "QuireDesk$Folding")) (List.mem_of_getElem? (i := 328) (by decide +kernel)))
  obtain ⟨dC, dI, hKc⟩ := st_known hg
  obtain ⟨dA, hKa⟩ := st_arr hg h5 h0
  have hini := hts (.initialized "QuireDesk") (List.mem_of_getElem? (i := 97) (by decide +kernel))
  obtain ⟨t0, hS0⟩ := st_static (n := "MARK_TOP") (d := "[I") (ty := .int) (N := 7) (f := s_mark) hA (by decide) (hts (.laysStatic "QuireDesk" "MARK_TOP" "[I") (List.mem_of_getElem? (i := 492) (by decide +kernel))) hini (hs _ (by decide +kernel)) (hs _ (by decide +kernel)) (st_s_mark hs)
  obtain ⟨t1, hS1⟩ := st_static (n := "RULE_LOW") (d := "[I") (ty := .int) (N := 6) (f := s_low) hA (by decide) (hts (.laysStatic "QuireDesk" "RULE_LOW" "[I") (List.mem_of_getElem? (i := 541) (by decide +kernel))) hini (hs _ (by decide +kernel)) (hs _ (by decide +kernel)) (st_s_low hs)
  obtain ⟨t2, hS2⟩ := st_static (n := "RULE_TOP") (d := "[I") (ty := .int) (N := 6) (f := s_top) hA (by decide) (hts (.laysStatic "QuireDesk" "RULE_TOP" "[I") (List.mem_of_getElem? (i := 543) (by decide +kernel))) hini (hs _ (by decide +kernel)) (hs _ (by decide +kernel)) (st_s_top hs)
  obtain ⟨t3, hS3⟩ := st_static (n := "ALPHABET") (d := "[C") (ty := .char) (N := 23) (f := s_abc) hA (by decide) (hts (.laysStatic "QuireDesk" "ALPHABET" "[C") (List.mem_of_getElem? (i := 864) (by decide +kernel))) hini (hs _ (by decide +kernel)) (hs _ (by decide +kernel)) (st_s_abc hs)
  have hSt : qSt (fun k => match k with | 0 => t0 | 1 => t1 | 2 => t2 | 3 => t3 | _ => b) (fun q : Nat => s.heap.size ≤ q) s s.heap := ⟨hS0 _ 0 rfl, hS1 _ 1 rfl, hS2 _ 2 rfl, hS3 _ 3 rfl, h5, h0⟩
  have hXk : qok (p, l, e, room_1, s, m, #[Value.ref b], below, meth, c, dC, dI, dA, (fun k => match k with | 0 => t0 | 1 => t1 | 2 => t2 | 3 => t3 | _ => b), fun q : Nat => s.heap.size ≤ q) code RL 4 (some .boolean) 1000 :=
    ⟨hx, hb, hr, hml, hown, hg, hn, hlocks, ⟨hKc, hKa⟩, fun _ h => h, hSt, Nat.le_of_ble_eq_true rfl, Nat.le_of_ble_eq_true rfl⟩
  have hl := lv_entry ([.ref b]) (n := 4) (Nat.le_of_ble_eq_true rfl)
  rw [lg_entry_eq]
  generalize (lg_sl ([.ref b]) ++ List.replicate (4 - (lg_sl ([.ref b])).length) Slot.unset).toArray = ls at hl ⊢
  have hl : lv_has ls 4 [(0, .ref b)] := hl
  have hend : ∀ (ad : Nat → Nat) (Wd : List AC) (lv : LV), QG (p, l, e, room_1, s, m, #[Value.ref b], below, meth, c, dC, dI, dA, (fun k => match k with | 0 => t0 | 1 => t1 | 2 => t2 | 3 => t3 | _ => b), fun q : Nat => s.heap.size ≤ q) 4 (fun _ : Unit => lw_Z below #[Value.ref b] s) (some ()) 1055 lv [.int 1] Wd ad 138 86705 := by
    intro ad Wd lv x hx' H locs ls hP hD hS hl
    refine va_forget (fun q hq => hS.2.2 q hq) ?_
    refine W.widen (k := 600000) (n := 7302250) (Nat.le_of_ble_eq_true rfl) (Nat.le_of_ble_eq_true rfl) ?_
    exact lw_ret hx hb hr hlocks (qdcn (qd K_L_law18 29 rfl) rfl)
  have hG := law_start hXk rfl hX0 hbl (hA b hbl) rfl hL (ad := fun _ => 0) hend
  exact hG () rfl s.heap [] ls (fun k q h => by simp [qw] at h) ⟨fun i j p q h => by simp [qw] at h, fun k q h => by simp [qw] at h⟩ va_S.rf hl

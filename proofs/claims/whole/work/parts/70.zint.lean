/-! the ints as Lean's own Int: zI -/
def zI (a : Int) : Int32 := Int32.ofInt a
theorem zI_toInt {a : Int} (h1 : -2147483648 ≤ a) (h2 : a < 2147483648) : (zI a).toInt = a := Int32.toInt_ofInt_of_le h1 h2
theorem zI_of (x : Int32) : ∃ a : Int, -2147483648 ≤ a ∧ a < 2147483648 ∧ x = zI a :=
  ⟨x.toInt, Int32.le_toInt x, Int32.toInt_lt x, (Int32.ofInt_toInt x).symm⟩
theorem zI_add (a b : Int) : zI a + zI b = zI (a + b) := (Int32.ofInt_add a b).symm
theorem zI_sub (a b : Int) : zI a - zI b = zI (a - b) := (Int32.ofInt_sub a b).symm
theorem zI_mul (a b : Int) : zI a * zI b = zI (a * b) := (Int32.ofInt_mul a b).symm
theorem zI_neg (a : Int) : -zI a = zI (-a) := (Int32.ofInt_neg a).symm
theorem zI_lt {a b : Int} (h1 : -2147483648 ≤ a) (h2 : a < 2147483648) (h3 : -2147483648 ≤ b) (h4 : b < 2147483648) : (zI a < zI b) = (a < b) := by
  rw [Int32.lt_iff_toInt_lt, zI_toInt h1 h2, zI_toInt h3 h4]
theorem zI_le {a b : Int} (h1 : -2147483648 ≤ a) (h2 : a < 2147483648) (h3 : -2147483648 ≤ b) (h4 : b < 2147483648) : (zI a ≤ zI b) = (a ≤ b) := by
  rw [Int32.le_iff_toInt_le, zI_toInt h1 h2, zI_toInt h3 h4]
theorem zI_eq {a b : Int} (h1 : -2147483648 ≤ a) (h2 : a < 2147483648) (h3 : -2147483648 ≤ b) (h4 : b < 2147483648) : (zI a = zI b) = (a = b) := by
  apply propext
  constructor
  · intro h
    rw [← zI_toInt h1 h2, h, zI_toInt h3 h4]
  · intro h
    rw [h]
theorem zI_clamp {a : Int} (h1 : -2147483648 ≤ a) (h2 : a < 2147483648) : (zI a).toNatClampNeg = a.toNat := Int32.toNatClampNeg_ofInt_of_le h1 h2
theorem nI_zI (n : Nat) : nI n = zI (n : Int) := Int32.ofInt_eq_ofNat.symm
theorem zI_nI {a : Int} (h : 0 ≤ a) : zI a = nI a.toNat := by
  rw [nI_zI, Int.toNat_of_nonneg h]
theorem ck_z {α : Type} {a : Int} {n : Nat} {o : Option α} (h0 : 0 ≤ a) (h1 : a < n) (h2 : a < 2147483648) : ck (inb (zI a) n) o = o := by
  have : inb (zI a) n = true := by
    unfold inb
    rw [zI_clamp (by omega) h2, decide_eq_true (show a.toNat < n by omega), decide_eq_true (show (0 : Int32) ≤ zI a by rw [show (0 : Int32) = zI 0 from rfl, zI_le (by omega) (by omega) (by omega) (by omega)]; exact h0)]
    rfl
  rw [this]
  rfl
theorem zI_pos' {a : Int} (h0 : 0 ≤ a) (h2 : a < 2147483648) : (0 : Int32) ≤ zI a := by
  rw [show (0 : Int32) = zI 0 from rfl, zI_le (by omega) (by omega) (by omega) (by omega)]
  exact h0
theorem ckp_z {α : Type} {a b n : Int} {N M : Nat} {o : Option α} (h0 : 0 ≤ a) (h1 : 0 ≤ b) (h2 : 0 ≤ n) (h3 : a + n ≤ N) (h4 : b + n ≤ M) (h5 : a < 2147483648) (h6 : b < 2147483648) (h7 : n < 2147483648) : ck (cpok (zI a) (zI b) (zI n) N M) o = o := by
  have : cpok (zI a) (zI b) (zI n) N M = true := by
    unfold cpok
    rw [zI_clamp (by omega) h5, zI_clamp (by omega) h6, zI_clamp (by omega) h7, decide_eq_true (show a.toNat + n.toNat ≤ N by omega), decide_eq_true (show b.toNat + n.toNat ≤ M by omega), decide_eq_true (zI_pos' h0 h5), decide_eq_true (zI_pos' h1 h6), decide_eq_true (zI_pos' h2 h7)]
    rfl
  rw [this]
  rfl
theorem qb_z (b : Bool) : (qb b = 0) = (b = false) := by cases b <;> decide
theorem qb_z0 (b : Bool) : (qb b = zI 0) = (b = false) := by cases b <;> decide
theorem bb_z (o : Option Bool) (b : Bool) : o.bind (fun c => some c) = o := by cases o <;> rfl
theorem bind_id {α : Type} (o : Option α) : o.bind (fun c => some c) = o := by cases o <;> rfl
theorem upd_z (f : Nat → Int32) {a b : Int} (v : Int32) (ha : 0 ≤ a) (hb : 0 ≤ b) : upd f a.toNat v b.toNat = if b = a then v else f b.toNat := by
  unfold upd
  by_cases h : b = a
  · rw [if_pos h, if_pos (by omega)]
  · rw [if_neg h, if_neg (by omega)]
theorem upd_at (f : Nat → Int32) (a : Nat) (x : Int32) : upd f a x a = x := if_pos rfl
theorem upd_ne (f : Nat → Int32) {a b : Nat} (x : Int32) (h : b ≠ a) : upd f a x b = f b := if_neg h
theorem cpy_z {α : Type} (f g : Nat → α) {a b n i : Int} (ha : 0 ≤ a) (hb : 0 ≤ b) (hn : 0 ≤ n) (hi : 0 ≤ i) : va_cpy f g a.toNat b.toNat n.toNat i.toNat = if b ≤ i ∧ i < b + n then f (a + (i - b)).toNat else g i.toNat := by
  unfold va_cpy
  by_cases h : b ≤ i ∧ i < b + n
  · rw [if_pos h, if_pos (by omega)]
    congr 1
    omega
  · rw [if_neg h, if_neg (by omega)]
theorem divz {a b : Int} (h1 : 0 ≤ a) (h2 : a < 2147483648) (h3 : 0 < b) (h4 : b < 2147483648) : zI a / zI b = zI (a / b) := by
  rw [zI_nI h1, zI_nI (by omega : 0 ≤ b), pk_div (by omega) (by omega) (by omega), nI_zI]
  congr 1
  rw [Int.natCast_ediv, Int.toNat_of_nonneg h1, Int.toNat_of_nonneg (by omega)]
theorem remz {a b : Int} (h1 : 0 ≤ a) (h2 : a < 2147483648) (h3 : 0 < b) (h4 : b < 2147483648) : zI a - zI a / zI b * zI b = zI (a % b) := by
  rw [divz h1 h2 h3 h4, zI_mul, zI_sub, Int.emod_def, Int.mul_comm b]
def Ok {α : Type} (o : Option α) (P : α → Prop) : Prop := ∃ c, o = some c ∧ P c
theorem Ok.some {α : Type} {c : α} {P : α → Prop} (h : P c) : Ok (some c) P := ⟨c, rfl, h⟩
theorem Ok.bind {α β : Type} {o : Option α} {f : α → Option β} {R : α → Prop} {P : β → Prop} (h : Ok o R) (g : ∀ c, R c → Ok (f c) P) : Ok (o.bind f) P := by
  obtain ⟨c, rfl, hc⟩ := h
  exact g c hc
theorem Ok.mono {α : Type} {o : Option α} {R P : α → Prop} (h : Ok o R) (g : ∀ c, R c → P c) : Ok o P := by
  obtain ⟨c, rfl, hc⟩ := h
  exact ⟨c, rfl, g c hc⟩
theorem Ok.ite {α : Type} {c : Prop} {d : Decidable c} {a b : Option α} {P : α → Prop} (h1 : c → Ok a P) (h2 : ¬ c → Ok b P) : Ok (if c then a else b) P := by
  by_cases h : c
  · rw [if_pos h]; exact h1 h
  · rw [if_neg h]; exact h2 h
theorem zl_0 : (0 : Int32) = zI 0 := rfl
theorem zl_1 : (1 : Int32) = zI 1 := rfl
theorem zl_2 : (2 : Int32) = zI 2 := rfl
theorem zl_3 : (3 : Int32) = zI 3 := rfl
theorem zl_4 : (4 : Int32) = zI 4 := rfl
theorem zl_5 : (5 : Int32) = zI 5 := rfl
theorem zl_6 : (6 : Int32) = zI 6 := rfl
theorem zl_7 : (7 : Int32) = zI 7 := rfl
theorem zl_8 : (8 : Int32) = zI 8 := rfl
theorem zl_9 : (9 : Int32) = zI 9 := rfl
theorem zl_10 : (10 : Int32) = zI 10 := rfl
theorem zl_11 : (11 : Int32) = zI 11 := rfl
theorem zl_12 : (12 : Int32) = zI 12 := rfl
theorem zl_13 : (13 : Int32) = zI 13 := rfl
theorem zl_14 : (14 : Int32) = zI 14 := rfl
theorem zl_15 : (15 : Int32) = zI 15 := rfl
theorem zl_16 : (16 : Int32) = zI 16 := rfl
theorem zl_17 : (17 : Int32) = zI 17 := rfl
theorem zl_18 : (18 : Int32) = zI 18 := rfl
theorem zl_19 : (19 : Int32) = zI 19 := rfl
theorem zl_20 : (20 : Int32) = zI 20 := rfl
theorem zl_21 : (21 : Int32) = zI 21 := rfl
theorem zl_22 : (22 : Int32) = zI 22 := rfl
theorem zl_23 : (23 : Int32) = zI 23 := rfl
theorem zl_24 : (24 : Int32) = zI 24 := rfl
theorem zl_25 : (25 : Int32) = zI 25 := rfl
theorem zl_26 : (26 : Int32) = zI 26 := rfl
theorem zl_27 : (27 : Int32) = zI 27 := rfl
theorem zl_28 : (28 : Int32) = zI 28 := rfl
theorem zl_29 : (29 : Int32) = zI 29 := rfl
theorem zl_30 : (30 : Int32) = zI 30 := rfl
theorem zl_31 : (31 : Int32) = zI 31 := rfl
theorem zl_32 : (32 : Int32) = zI 32 := rfl
theorem zl_33 : (33 : Int32) = zI 33 := rfl
theorem zl_34 : (34 : Int32) = zI 34 := rfl
theorem zl_35 : (35 : Int32) = zI 35 := rfl
theorem zl_36 : (36 : Int32) = zI 36 := rfl
theorem zl_37 : (37 : Int32) = zI 37 := rfl
theorem zl_38 : (38 : Int32) = zI 38 := rfl
theorem zl_39 : (39 : Int32) = zI 39 := rfl
theorem zl_40 : (40 : Int32) = zI 40 := rfl
theorem zl_41 : (41 : Int32) = zI 41 := rfl
theorem zl_42 : (42 : Int32) = zI 42 := rfl
theorem zl_43 : (43 : Int32) = zI 43 := rfl
theorem zl_44 : (44 : Int32) = zI 44 := rfl
theorem zl_45 : (45 : Int32) = zI 45 := rfl
theorem zl_46 : (46 : Int32) = zI 46 := rfl
theorem zl_47 : (47 : Int32) = zI 47 := rfl
theorem zl_48 : (48 : Int32) = zI 48 := rfl
theorem zl_49 : (49 : Int32) = zI 49 := rfl
theorem zl_50 : (50 : Int32) = zI 50 := rfl
theorem zl_51 : (51 : Int32) = zI 51 := rfl
theorem zl_52 : (52 : Int32) = zI 52 := rfl
theorem zl_53 : (53 : Int32) = zI 53 := rfl
theorem zl_54 : (54 : Int32) = zI 54 := rfl
theorem zl_55 : (55 : Int32) = zI 55 := rfl
theorem zl_56 : (56 : Int32) = zI 56 := rfl
theorem zl_57 : (57 : Int32) = zI 57 := rfl
theorem zl_58 : (58 : Int32) = zI 58 := rfl
theorem zl_59 : (59 : Int32) = zI 59 := rfl
theorem zl_60 : (60 : Int32) = zI 60 := rfl
theorem zl_61 : (61 : Int32) = zI 61 := rfl
theorem zl_62 : (62 : Int32) = zI 62 := rfl
theorem zl_63 : (63 : Int32) = zI 63 := rfl
theorem zl_64 : (64 : Int32) = zI 64 := rfl
theorem zl_65 : (65 : Int32) = zI 65 := rfl
theorem zl_66 : (66 : Int32) = zI 66 := rfl
theorem zl_80 : (80 : Int32) = zI 80 := rfl
theorem zl_97 : (97 : Int32) = zI 97 := rfl
theorem zl_99 : (99 : Int32) = zI 99 := rfl
theorem zl_103 : (103 : Int32) = zI 103 := rfl
theorem zl_107 : (107 : Int32) = zI 107 := rfl
theorem zl_112 : (112 : Int32) = zI 112 := rfl
theorem zl_115 : (115 : Int32) = zI 115 := rfl
theorem zl_100 : (100 : Int32) = zI 100 := rfl
theorem zl_180 : (180 : Int32) = zI 180 := rfl
theorem zl_210 : (210 : Int32) = zI 210 := rfl
theorem zl_238 : (238 : Int32) = zI 238 := rfl
theorem zl_255 : (255 : Int32) = zI 255 := rfl
theorem zl_256 : (256 : Int32) = zI 256 := rfl
theorem zl_400 : (400 : Int32) = zI 400 := rfl
theorem zl_1000 : (1000 : Int32) = zI 1000 := rfl
theorem zl_1024 : (1024 : Int32) = zI 1024 := rfl
theorem zl_1260 : (1260 : Int32) = zI 1260 := rfl
theorem zl_2000 : (2000 : Int32) = zI 2000 := rfl
theorem zl_7140 : (7140 : Int32) = zI 7140 := rfl
theorem zl_7200 : (7200 : Int32) = zI 7200 := rfl
theorem zl_18414 : (18414 : Int32) = zI 18414 := rfl
theorem zl_65536 : (65536 : Int32) = zI 65536 := rfl
theorem zl_131072 : (131072 : Int32) = zI 131072 := rfl
theorem zl_9999 : (9999 : Int32) = zI 9999 := rfl
theorem zl_999 : (999 : Int32) = zI 999 := rfl

/-- all lays that any book may have -/
def gd0 (s k : Nat) : Bool := decide (1 ≤ thg k s s) && decide ((s : Int) - thg k s s ≤ 4)
def ly0 : List (Nat × Nat) := lst gd0 3 0
theorem ly0_len : ly0.length = 238 := by decide +kernel
theorem ly0_m : ∀ m, m < 9 → (ly0.filter (fun x => decide (thg x.2 x.1 x.1 = (m : Nat)))).length ≤ 86 := by decide +kernel
theorem lyM_fil (Λ : Book) (q t half last : Int) : lyM Λ q t half last = ly0.filter (fun x => gdM Λ q t half last x.1 x.2) := by
  unfold lyM ly0
  rw [← lst_fil]
  refine lst_cg 3 0 (by omega) (Nat.zero_le _) (fun s k _ _ => ?_)
  show gdM Λ q t half last s k = (gd0 s k && gdM Λ q t half last s k)
  cases h : gdM Λ q t half last s k
  · rw [Bool.and_false]
  · unfold gdM at h
    rw [Bool.and_eq_true, bq_iff] at h
    have : gd0 s k = true := by
      unfold gd0
      rw [decide_eq_true h.2.1, decide_eq_true h.2.2.1]
      rfl
    rw [this]
    rfl
theorem sum_le (w : Nat × Nat → Nat) (M : Nat) : ∀ l : List (Nat × Nat), (∀ x, x ∈ l → w x ≤ M) → (l.map w).sum ≤ l.length * M
  | [], _ => by rw [List.map_nil, List.sum_nil]; exact Nat.zero_le _
  | y :: l, h => by
    have ih := sum_le w M l (fun x hx => h x (List.mem_cons_of_mem _ hx))
    have h1 := h y List.mem_cons_self
    rw [List.map_cons, List.sum_cons, List.length_cons, Nat.add_mul, Nat.one_mul]
    omega
theorem sum_one (p : Nat × Nat → Bool) : ∀ l : List (Nat × Nat), (l.map (fun x => if p x = true then 1 else 0)).sum = (l.filter p).length
  | [] => rfl
  | y :: l => by
    have ih := sum_one p l
    rw [List.map_cons, List.sum_cons, ih]
    by_cases c : p y = true
    · rw [if_pos c, List.filter_cons_of_pos c, List.length_cons]; omega
    · rw [if_neg c, List.filter_cons_of_neg c]; omega
theorem fil_le {p q : Nat × Nat → Bool} (h : ∀ x, p x = true → q x = true) : ∀ l : List (Nat × Nat), (l.filter p).length ≤ (l.filter q).length
  | [] => Nat.le_refl _
  | y :: l => by
    have ih := fil_le h l
    by_cases c : p y = true
    · rw [List.filter_cons_of_pos c, List.filter_cons_of_pos (h y c), List.length_cons, List.length_cons]; omega
    · rw [List.filter_cons_of_neg c]
      by_cases d : q y = true
      · rw [List.filter_cons_of_pos d, List.length_cons]; omega
      · rw [List.filter_cons_of_neg d]; exact ih
theorem thg_8 {x : Nat × Nat} (h : x.1 = 2 ∨ x.1 = 4 ∨ x.1 = 6 ∨ x.1 = 8) : 0 ≤ thg x.2 x.1 x.1 ∧ thg x.2 x.1 x.1 ≤ 8 := by
  have := thg_b x.2 x.1 x.1
  omega
theorem Wn_1 (Λ : Book) (q t half last : Int) : ((lyM Λ q t half last).map (fun x => Wn Λ 0 (q + 1) (xt t x) (xh half x) (enl x.2))).sum ≤ 86 := by
  have e : (fun x : Nat × Nat => Wn Λ 0 (q + 1) (xt t x) (xh half x) (enl x.2)) = fun x => if decide (xt t x = bkH Λ) = true then 1 else 0 := by
    funext x
    unfold Wn
    by_cases c : xt t x = bkH Λ
    · rw [if_pos c, decide_eq_true c, if_pos rfl]
    · rw [if_neg c, decide_eq_false c, if_neg (by decide)]
  rw [e, sum_one (fun x => decide (xt t x = bkH Λ)), lyM_fil, List.filter_filter]
  by_cases c : 0 ≤ bkH Λ - t ∧ bkH Λ - t ≤ 8
  · have h := ly0_m (bkH Λ - t).toNat (by omega)
    refine Nat.le_trans ?_ h
    refine fil_le (fun x hx => ?_) ly0
    rw [Bool.and_eq_true, decide_eq_true_eq] at hx
    have := hx.1
    unfold xt at this
    exact decide_eq_true (by omega)
  · have : (ly0.filter (fun x => decide (xt t x = bkH Λ) && gdM Λ q t half last x.1 x.2)) = [] := by
      rw [List.filter_eq_nil_iff]
      intro x hx w
      rw [Bool.and_eq_true, decide_eq_true_eq] at w
      have m := (lst_mem 3 x (by omega)).mp hx
      have b := thg_8 m.1
      have := w.1
      unfold xt at this
      omega
    rw [this]
    exact Nat.zero_le _
theorem lyM_len (Λ : Book) (q t half last : Int) : (lyM Λ q t half last).length ≤ 238 := by
  rw [lyM_fil, ← ly0_len]
  exact List.length_filter_le _ _
theorem Wn_b (Λ : Book) : ∀ (n : Nat) (q t half last : Int), Wn Λ (n + 1) q t half last ≤ 86 * 238 ^ n
  | 0, q, t, half, last => by
    have := Wn_1 Λ q t half last
    unfold Wn
    split
    · omega
    · omega
  | n + 1, q, t, half, last => by
    have ih := Wn_b Λ n
    have hl := lyM_len Λ q t half last
    have hs := sum_le (fun x => Wn Λ (n + 1) (q + 1) (xt t x) (xh half x) (enl x.2)) (86 * 238 ^ n) (lyM Λ q t half last) (fun x _ => ih _ _ _ _)
    have hm := Nat.mul_le_mul_right (86 * 238 ^ n) hl
    have hp : 1 ≤ 238 ^ n := Nat.one_le_pow _ _ (by omega)
    rw [Wn, Nat.pow_succ]
    split
    · omega
    · omega
theorem Wn_lt (Λ : Book) (n : Nat) (hn : n ≤ 8) (q t half last : Int) : Wn Λ n q t half last < 9223372036854775808 := by
  cases n with
  | zero =>
    unfold Wn
    split <;> omega
  | succ n =>
    have h1 := Wn_b Λ n q t half last
    have h2 : 238 ^ n ≤ 238 ^ 7 := Nat.pow_le_pow_right (by omega) (by omega)
    have h3 : (86 : Nat) * 238 ^ 7 < 9223372036854775808 := by decide
    omega
theorem fst1_b (w : Nat × Nat → Nat) (f : Nat × Nat → Int) : ∀ (l : List (Nat × Nat)) (b : Int), 0 ≤ b → b ≤ 100 → (∀ x, x ∈ l → 0 ≤ f x + xg x) → 0 ≤ l.foldl (fst1 w f) b ∧ l.foldl (fst1 w f) b ≤ b
  | [], b, h0, h1, _ => ⟨h0, Int.le_refl _⟩
  | y :: l, b, h0, h1, h => by
    have hy := h y List.mem_cons_self
    rw [List.foldl_cons]
    have e : 0 ≤ fst1 w f b y ∧ fst1 w f b y ≤ b := by
      unfold fst1
      split <;> omega
    have ih := fst1_b w f l (fst1 w f b y) e.1 (by omega) (fun x hx => h x (List.mem_cons_of_mem _ hx))
    omega
theorem xg_b {x : Nat × Nat} (h : x.1 = 2 ∨ x.1 = 4 ∨ x.1 = 6 ∨ x.1 = 8) : 0 ≤ xg x ∧ xg x ≤ 8 := by
  have := thg_b x.2 x.1 x.1
  unfold xg
  omega
theorem Fn_b (Λ : Book) : ∀ (n : Nat) (q t half last : Int), 0 ≤ Fn Λ n q t half last ∧ Fn Λ n q t half last ≤ 100
  | 0, q, t, half, last => by
    unfold Fn
    split <;> omega
  | n + 1, q, t, half, last => by
    have ih := Fn_b Λ n
    unfold Fn
    split
    · omega
    · exact fst1_b _ _ _ 100 (by omega) (by omega) (fun x hx => by
        have := (ih (q + 1) (xt t x) (xh half x) (enl x.2)).1
        have := (xg_b (lyM_mem.mp hx).1).1
        omega)
/-- one step of the counting -/
def cst (W0 : Nat → Int64) (F0 : NF) (q t half : Int) (a : Int64 × Int32) (x : Nat × Nat) : Int64 × Int32 := (a.1 + W0 (stn (q + 1) (xt t x) (xh half x) (enl x.2)).toNat, if lg_cmp (W0 (stn (q + 1) (xt t x) (xh half x) (enl x.2)).toNat) 0 ≤ 0 then a.2 else if a.2 ≤ F0 (stn (q + 1) (xt t x) (xh half x) (enl x.2)).toNat + zI (xg x) then a.2 else F0 (stn (q + 1) (xt t x) (xh half x) (enl x.2)).toNat + zI (xg x))
theorem cst_f {W0 : Nat → Int64} {F0 : NF} {q t half : Int} (w : Nat × Nat → Nat) (f : Nat × Nat → Int) : ∀ (l : List (Nat × Nat)) (a : Nat) (b : Int), 0 ≤ b → b ≤ 100 → (∀ x, x ∈ l → W0 (stn (q + 1) (xt t x) (xh half x) (enl x.2)).toNat = wI (w x) ∧ w x < 9223372036854775808 ∧ F0 (stn (q + 1) (xt t x) (xh half x) (enl x.2)).toNat = zI (f x) ∧ 0 ≤ f x ∧ f x ≤ 100 ∧ 0 ≤ xg x ∧ xg x ≤ 8) → l.foldl (cst W0 F0 q t half) (wI a, zI b) = (wI (a + (l.map w).sum), zI (l.foldl (fst1 w f) b))
  | [], a, b, _, _, _ => by rw [List.map_nil, List.sum_nil, Nat.add_zero]; rfl
  | y :: l, a, b, b0, b1, h => by
    obtain ⟨h1, h2, h3, h4, h5, h6, h7⟩ := h y List.mem_cons_self
    have e : cst W0 F0 q t half (wI a, zI b) y = (wI (a + w y), zI (fst1 w f b y)) := by
      unfold cst fst1
      rw [h1, h3, wI_add, zI_add, show (0 : Int64) = wI 0 from rfl]
      congr 1
      by_cases c : w y ≤ 0
      · rw [if_pos ((lg_le0 h2 (by omega)).mpr c), if_neg (by omega)]
      · rw [if_neg (fun x => c ((lg_le0 h2 (by omega)).mp x))]
        by_cases c2 : b ≤ f y + xg y
        · have l1 : zI b ≤ zI (f y + xg y) := by simp (disch := omega) only [zl_0, zl_1, zl_2, zl_3, zl_4, zl_5, zl_6, zl_7, zl_8, zl_9, zl_10, zl_11, zl_12, zl_13, zl_14, zl_15, zl_16, zl_17, zl_18, zl_19, zl_20, zl_21, zl_22, zl_23, zl_24, zl_25, zl_26, zl_27, zl_28, zl_29, zl_30, zl_31, zl_32, zl_33, zl_34, zl_35, zl_36, zl_37, zl_38, zl_39, zl_40, zl_41, zl_42, zl_43, zl_44, zl_45, zl_46, zl_47, zl_48, zl_49, zl_50, zl_51, zl_52, zl_53, zl_54, zl_55, zl_56, zl_57, zl_58, zl_59, zl_60, zl_61, zl_62, zl_63, zl_64, zl_65, zl_66, zl_80, zl_97, zl_99, zl_103, zl_107, zl_112, zl_115, zl_100, zl_180, zl_210, zl_238, zl_255, zl_256, zl_400, zl_1000, zl_1024, zl_1260, zl_2000, zl_7140, zl_7200, zl_18414, zl_65536, zl_131072, zl_9999, zl_999, zI_add, zI_sub, zI_mul, zI_neg, zI_lt, zI_le, zI_eq, zI_clamp, ck_z, ckp_z, qb_z, qb_z0, Option.bind_some]; exact c2
          rw [if_pos l1, if_neg (by omega)]
        · have l1 : ¬ zI b ≤ zI (f y + xg y) := by simp (disch := omega) only [zl_0, zl_1, zl_2, zl_3, zl_4, zl_5, zl_6, zl_7, zl_8, zl_9, zl_10, zl_11, zl_12, zl_13, zl_14, zl_15, zl_16, zl_17, zl_18, zl_19, zl_20, zl_21, zl_22, zl_23, zl_24, zl_25, zl_26, zl_27, zl_28, zl_29, zl_30, zl_31, zl_32, zl_33, zl_34, zl_35, zl_36, zl_37, zl_38, zl_39, zl_40, zl_41, zl_42, zl_43, zl_44, zl_45, zl_46, zl_47, zl_48, zl_49, zl_50, zl_51, zl_52, zl_53, zl_54, zl_55, zl_56, zl_57, zl_58, zl_59, zl_60, zl_61, zl_62, zl_63, zl_64, zl_65, zl_66, zl_80, zl_97, zl_99, zl_103, zl_107, zl_112, zl_115, zl_100, zl_180, zl_210, zl_238, zl_255, zl_256, zl_400, zl_1000, zl_1024, zl_1260, zl_2000, zl_7140, zl_7200, zl_18414, zl_65536, zl_131072, zl_9999, zl_999, zI_add, zI_sub, zI_mul, zI_neg, zI_lt, zI_le, zI_eq, zI_clamp, ck_z, ckp_z, qb_z, qb_z0, Option.bind_some]; exact c2
          rw [if_neg l1, if_pos (by omega)]
    have eb : 0 ≤ fst1 w f b y ∧ fst1 w f b y ≤ b := by
      unfold fst1
      split <;> omega
    rw [List.foldl_cons, e, cst_f w f l (a + w y) (fst1 w f b y) eb.1 (by omega) (fun x hx => h x (List.mem_cons_of_mem _ hx)), List.foldl_cons, List.map_cons, List.sum_cons, Nat.add_assoc]

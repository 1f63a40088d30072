def fwx (w : Nat × Nat → Nat) : List (Nat × Nat) → Nat → Option ((Nat × Nat) × Nat)
  | [], _ => none
  | x :: l, k => if k < w x then some (x, k) else fwx w l (k - w x)
theorem fwx_some (w : Nat × Nat → Nat) : ∀ (l : List (Nat × Nat)) (k : Nat), k < (l.map w).sum → ∃ x k', fwx w l k = some (x, k') ∧ x ∈ l ∧ k' < w x ∧ k' ≤ k
  | [], k, h => by rw [List.map_nil, List.sum_nil] at h; omega
  | y :: l, k, h => by
    rw [fwx]
    by_cases c : k < w y
    · rw [if_pos c]
      exact ⟨y, k, rfl, List.mem_cons_self, c, Nat.le_refl _⟩
    · rw [if_neg c]
      rw [List.map_cons, List.sum_cons] at h
      obtain ⟨x, k', h1, h2, h3, h4⟩ := fwx_some w l (k - w y) (by omega)
      exact ⟨x, k', h1, List.mem_cons_of_mem _ h2, h3, by omega⟩
theorem fwx_fil (w : Nat × Nat → Nat) (p : Nat × Nat → Bool) : ∀ (l : List (Nat × Nat)) (k : Nat), fwx (fun x => if p x = true then w x else 0) l k = fwx w (l.filter p) k
  | [], k => rfl
  | y :: l, k => by
    rw [fwx]
    by_cases c : p y = true
    · rw [if_pos c, List.filter_cons_of_pos c, fwx, fwx_fil w p l]
    · rw [if_neg c, List.filter_cons_of_neg c, if_neg (by omega), Nat.sub_zero, fwx_fil w p l]
theorem fwx_cg {w w' : Nat × Nat → Nat} : ∀ (l : List (Nat × Nat)) (k : Nat), (∀ x, x ∈ l → w x = w' x) → fwx w l k = fwx w' l k
  | [], k, _ => rfl
  | y :: l, k, h => by
    rw [fwx, fwx, h y List.mem_cons_self, fwx_cg l (k - w' y) (fun x hx => h x (List.mem_cons_of_mem _ hx))]
/-- what a lay weighs in the choice -/
noncomputable def wt (Λ : Book) (few : Bool) (n : Nat) (q t half last : Int) (x : Nat × Nat) : Nat := if few = true then (if 0 < Wn Λ n (q + 1) (xt t x) (xh half x) (enl x.2) ∧ Fn Λ n (q + 1) (xt t x) (xh half x) (enl x.2) + xg x = Fn Λ (n + 1) q t half last then Wn Λ n (q + 1) (xt t x) (xh half x) (enl x.2) else 0) else Wn Λ n (q + 1) (xt t x) (xh half x) (enl x.2)
noncomputable def chs (Λ : Book) (few : Bool) : Nat → Int → Int → Int → Int → Nat → List (Nat × Nat)
  | 0, _, _, _, _, _ => []
  | n + 1, q, t, half, last, k => if t = bkH Λ then [] else match fwx (wt Λ few n q t half last) (lyM Λ q t half last) k with
    | none => []
    | some y => y.1 :: chs Λ few n (q + 1) (xt t y.1) (xh half y.1) (enl y.1.2) y.2
def Way (Λ : Book) : List (Nat × Nat) → Int → Int → Int → Int → Prop
  | [], _, t, _, _ => t = bkH Λ
  | x :: l, q, t, half, last => t < bkH Λ ∧ x ∈ lyM Λ q t half last ∧ Way Λ l (q + 1) (xt t x) (xh half x) (enl x.2)
def gsm : List (Nat × Nat) → Int
  | [] => 0
  | x :: l => xg x + gsm l
section CH
variable {Λ : Book}
theorem fwx_wt (few : Bool) {n : Nat} {q t half last : Int} {k : Nat} (ht : t ≠ bkH Λ) (hk : k < Wn Λ (n + 1) q t half last) (hf : few = true → k = 0 ∧ n ≤ 8) : ∃ x k', fwx (wt Λ few n q t half last) (lyM Λ q t half last) k = some (x, k') ∧ x ∈ lyM Λ q t half last ∧ k' < Wn Λ n (q + 1) (xt t x) (xh half x) (enl x.2) ∧ (few = true → k' = 0 ∧ Fn Λ n (q + 1) (xt t x) (xh half x) (enl x.2) + xg x = Fn Λ (n + 1) q t half last) := by
  rw [Wn, if_neg ht] at hk
  have hsum : k < ((lyM Λ q t half last).map (wt Λ few n q t half last)).sum := by
    cases few with
    | false => exact hk
    | true =>
      obtain ⟨k0, n8⟩ := hf rfl
      have hpos : 0 < Wn Λ (n + 1) q t half last := by rw [Wn, if_neg ht]; omega
      have fs := Fn_s Λ (n + 1) q t half last hpos
      have eF : Fn Λ (n + 1) q t half last = (lyM Λ q t half last).foldl (fst1 (fun x => Wn Λ n (q + 1) (xt t x) (xh half x) (enl x.2)) (fun x => Fn Λ n (q + 1) (xt t x) (xh half x) (enl x.2))) 100 := by rw [Fn, if_neg ht]
      obtain ⟨_, _, f3⟩ := fst1_le (fun x => Wn Λ n (q + 1) (xt t x) (xh half x) (enl x.2)) (fun x => Fn Λ n (q + 1) (xt t x) (xh half x) (enl x.2)) (lyM Λ q t half last) 100
      rw [← eF] at f3
      rcases f3 with f3 | ⟨x, x1, x2, x3⟩
      · omega
      · have m := mem_sum (g := wt Λ true n q t half last) x1
        have e : wt Λ true n q t half last x = Wn Λ n (q + 1) (xt t x) (xh half x) (enl x.2) := by
          unfold wt
          rw [if_pos rfl, if_pos ⟨x2, x3.symm⟩]
        have x2' : 0 < Wn Λ n (q + 1) (xt t x) (xh half x) (enl x.2) := x2
        omega
  obtain ⟨x, k', h1, h2, h3, h4⟩ := fwx_some _ _ _ hsum
  refine ⟨x, k', h1, h2, ?_, fun e => ?_⟩
  · unfold wt at h3
    cases few with
    | false => exact h3
    | true =>
      rw [if_pos rfl] at h3
      by_cases c : 0 < Wn Λ n (q + 1) (xt t x) (xh half x) (enl x.2) ∧ Fn Λ n (q + 1) (xt t x) (xh half x) (enl x.2) + xg x = Fn Λ (n + 1) q t half last
      · rw [if_pos c] at h3; exact h3
      · rw [if_neg c] at h3; omega
  · have k0 := (hf e).1
    refine ⟨by omega, ?_⟩
    subst e
    unfold wt at h3
    rw [if_pos rfl] at h3
    by_cases c : 0 < Wn Λ n (q + 1) (xt t x) (xh half x) (enl x.2) ∧ Fn Λ n (q + 1) (xt t x) (xh half x) (enl x.2) + xg x = Fn Λ (n + 1) q t half last
    · exact c.2
    · rw [if_neg c] at h3; omega
theorem chs_s (few : Bool) {n : Nat} {q t half last : Int} {k k' : Nat} {x : Nat × Nat} (ht : t ≠ bkH Λ) (e : fwx (wt Λ few n q t half last) (lyM Λ q t half last) k = some (x, k')) : chs Λ few (n + 1) q t half last k = x :: chs Λ few n (q + 1) (xt t x) (xh half x) (enl x.2) k' := by
  rw [chs, if_neg ht, e]
theorem chs_way (few : Bool) : ∀ (n : Nat) (q t half last : Int) (k : Nat), n ≤ 8 → t ≤ bkH Λ → k < Wn Λ n q t half last → (few = true → k = 0) → Way Λ (chs Λ few n q t half last k) q t half last ∧ (chs Λ few n q t half last k).length ≤ n ∧ (few = true → gsm (chs Λ few n q t half last k) = Fn Λ n q t half last)
  | 0, q, t, half, last, k, _, _, hk, _ => by
    have c : t = bkH Λ := by
      unfold Wn at hk
      by_cases c : t = bkH Λ
      · exact c
      · rw [if_neg c] at hk; omega
    refine ⟨c, Nat.le_refl _, fun _ => ?_⟩
    rw [Fn, if_pos c]
    rfl
  | n + 1, q, t, half, last, k, hn, ht, hk, hf => by
    by_cases c : t = bkH Λ
    · rw [chs, if_pos c]
      refine ⟨c, Nat.zero_le _, fun _ => ?_⟩
      rw [Fn, if_pos c]
      rfl
    · obtain ⟨x, k', h1, h2, h3, h4⟩ := fwx_wt few c hk (fun e => ⟨hf e, by omega⟩)
      rw [chs_s few c h1]
      have b := xt_b h2
      obtain ⟨w1, w2, w3⟩ := chs_way few n (q + 1) (xt t x) (xh half x) (enl x.2) k' (by omega) b.2.1 h3 (fun e => (h4 e).1)
      refine ⟨⟨by omega, h2, w1⟩, by rw [List.length_cons]; omega, fun e => ?_⟩
      rw [gsm, w3 e, ← (h4 e).2]
      omega
end CH
section CB
variable {Λ : Book} {L ld : Int} {letters numbers spots waters sides ties groups gcs : NF}
theorem starts_z {x : Nat × Nat} (hs : x.1 = 2 ∨ x.1 = 4 ∨ x.1 = 6 ∨ x.1 = 8) (hk : x.2 < 2 ^ x.1) : F_X1_startsWithLeaf (zI x.1) (nI x.2) = some (decide (¬ Gh x.2 x.1 ((1 : Nat) : Int))) := by
  have h256 : x.2 < 256 := Nat.lt_of_lt_of_le hk (show 2 ^ x.1 ≤ 2 ^ 8 from Nat.pow_le_pow_right (by omega) (by omega))
  have e : F_X7_isGhost (nI x.2) (zI x.1) 1 = some (decide (Gh x.2 x.1 ((1 : Nat) : Int))) := isGhost_z x.2 x.1 1 h256 (by omega) (by omega) (by omega)
  unfold F_X1_startsWithLeaf
  rw [e, Option.bind_some]
  by_cases c : Gh x.2 x.1 ((1 : Nat) : Int)
  · rw [decide_eq_true c, decide_eq_false (fun y => y c), if_neg (show ¬ qb true = 0 by decide)]
  · rw [decide_eq_false c, decide_eq_true c, if_pos (show qb false = 0 from rfl)]
theorem ends_z {x : Nat × Nat} (hs : x.1 = 2 ∨ x.1 = 4 ∨ x.1 = 6 ∨ x.1 = 8) (hk : x.2 < 2 ^ x.1) : ∃ b, F_X1_endsWithLeaf (zI x.1) (nI x.2) = some b ∧ qb b = zI (enl x.2) := by
  have h256 : x.2 < 256 := Nat.lt_of_lt_of_le hk (show 2 ^ x.1 ≤ 2 ^ 8 from Nat.pow_le_pow_right (by omega) (by omega))
  have e := isGhost_z x.2 x.1 (x.1 : Int) h256 (by omega) (by omega) (by omega)
  have g := Gh_s x.2 x.1
  have eb := enl_b x.2
  unfold F_X1_endsWithLeaf
  rw [e, Option.bind_some]
  by_cases c : Gh x.2 x.1 (x.1 : Int)
  · rw [decide_eq_true c, if_neg (show ¬ qb true = 0 by decide)]
    have z : enl x.2 = 0 := by
      rcases eb with z | z
      · exact z
      · exact absurd c (g.mpr (by omega))
    exact ⟨false, rfl, by rw [z]; rfl⟩
  · rw [decide_eq_false c, if_pos (show qb false = 0 from rfl)]
    have z : enl x.2 = 1 := by
      rcases eb with z | z
      · exact absurd z (g.mp c)
      · exact z
    exact ⟨true, rfl, by rw [z]; rfl⟩
theorem countBehind_z (hK : Rky Λ L ld letters numbers spots waters sides ties groups gcs) {q : Nat} {t half last : Int} (hq : q < 8) (t0 : 0 ≤ t) (t1 : t < bkH Λ) (a0 : 0 ≤ half) (a1 : half ≤ 4 * q) (g0 : 0 ≤ 2 * half - t) (g1 : 2 * half - t ≤ 4 * q) (hl : last = 0 ∨ last = 1) (hm : Mt Λ q t half last) {x : Nat × Nat} (hC : x ∈ lyC Λ t) {counts : Nat → Int64} {bests : NF} (hM : Mem Λ L ld counts bests) : ∃ counts' bests', F_X4_countBehind (zI (bkH Λ)) letters ties (zI L) (zI (bkL Λ)) (zI x.1) (nI x.2) (zI (thg x.2 x.1 x.1)) (zI ((x.1 : Int) - thg x.2 x.1 x.1)) (zI (ahc (σC Λ) t x.2 x.1 x.1)) (zI ld) groups gcs counts bests (zI q) (zI t) (zI (2 * half - t)) (zI last) = some (wI (if bq (Cn Λ q t half last x) = true then Wn Λ (8 - (q + 1)) ((q : Int) + 1) (xt t x) (xh half x) (enl x.2) else 0), counts', bests') ∧ Mem Λ L ld counts' bests' ∧ KnM ld bests bests' ∧ (Cn Λ q t half last x → xt t x < bkH Λ → q + 1 < 8 → Kn ld bests' (nm Λ L ((q + 1 : Nat) : Int) (xt t x) (xh half x) (enl x.2))) := by
  obtain ⟨hB, hT, hL, hLt, hG, l0, l1⟩ := id hK
  have h30 := hB.2.1
  obtain ⟨a, b, c, d, e, f, g1', g2'⟩ := lyC_b t0 (by omega) hC
  obtain ⟨rc, e1, r0, r1, hr⟩ := reach_z hB hLt t q t0 (by omega) (by omega) (by omega)
  have ecl := clashes_z (ties := ties) hB.1 h30 (τC Λ) (fun h h0 h1 => ⟨(hT h h0 h1).2.2.2.2.1, (hT h h0 h1).2.2.2.2.2.2.2.1, (hT h h0 h1).2.2.2.2.2.2.2.2⟩) t t0 (by omega)
  have est := starts_z a b
  obtain ⟨be, ee, eb⟩ := ends_z a b
  have xb := xa_b hC
  have exa : ahc (σC Λ) t x.2 x.1 x.1 = xa Λ t x := rfl
  have exg : (x.1 : Int) - thg x.2 x.1 x.1 = xg x := rfl
  have hrr := hr (thg x.2 x.1 x.1) (by omega) (by omega)
  have e34 : zI t + zI (2 * half - t) = zI (2 * half) := by rw [zI_add]; congr 1; omega
  have no (hc : ¬ Cn Λ q t half last x) : ∃ counts' bests', (some (0, counts, bests) : Option (Int64 × (Nat → Int64) × NF)) = some (wI (if bq (Cn Λ q t half last x) = true then Wn Λ (8 - (q + 1)) ((q : Int) + 1) (xt t x) (xh half x) (enl x.2) else 0), counts', bests') ∧ Mem Λ L ld counts' bests' ∧ KnM ld bests bests' ∧ (Cn Λ q t half last x → xt t x < bkH Λ → q + 1 < 8 → Kn ld bests' (nm Λ L ((q + 1 : Nat) : Int) (xt t x) (xh half x) (enl x.2))) := by
    rw [bq_f hc, if_neg (by decide)]
    exact ⟨counts, bests, rfl, hM, KnM_r _ _, fun w => absurd w hc⟩
  have yes (hc : Cn Λ q t half last x) : ∃ counts' bests', F_X4_countBehind_b75 (zI (bkH Λ)) letters ties (zI L) (zI (bkL Λ)) (zI x.1) (nI x.2) (zI (thg x.2 x.1 x.1)) (zI (xg x)) (zI ld) groups gcs counts bests (zI q) (zI t) (zI (2 * half - t)) = some (wI (if bq (Cn Λ q t half last x) = true then Wn Λ (8 - (q + 1)) ((q : Int) + 1) (xt t x) (xh half x) (enl x.2) else 0), counts', bests') ∧ Mem Λ L ld counts' bests' ∧ KnM ld bests bests' ∧ (Cn Λ q t half last x → xt t x < bkH Λ → q + 1 < 8 → Kn ld bests' (nm Λ L ((q + 1 : Nat) : Int) (xt t x) (xh half x) (enl x.2))) := by
    have hx : x ∈ lyM Λ q t half last := by
      rw [lyM_C hB t0 (by omega) a0 (by omega), List.mem_filter]
      exact ⟨hC, bq_t hc⟩
    have xb2 := xt_b hx
    have sz : (2 : Int) * xh half x - xt t x = 2 * half - t + xg x := by unfold xh xt xg; omega
    obtain ⟨counts', bests', r1, r2, r3, r4⟩ := countFrom_z hK (8 - (q + 1)) 10 (q + 1) (by omega) (by omega) counts bests (xt t x) (xh half x) (enl x.2) (by omega) xb2.2.1 (by omega) (by omega) (by omega) (by omega) (enl_b x.2) (fun _ => ⟨xh half x, enl x.2, ⟨t, half, last, x, hm, t1, hx, rfl, rfl, rfl⟩, fun _ => rfl, Iff.rfl⟩) hM
    refine ⟨counts', bests', ?_, r2, r3, fun _ => r4⟩
    have eq1 : zI (q : Int) + 1 = zI ((q + 1 : Nat) : Int) := by rw [zl_1, zI_add]; congr 1
    have et : zI t + zI (thg x.2 x.1 x.1) = zI (xt t x) := zI_add _ _
    have eg : zI (2 * half - t) + zI (xg x) = zI (2 * xh half x - xt t x) := by rw [zI_add, sz]
    have r1' : F_X4_countFrom (zI (bkH Λ)) letters ties (zI L) (zI (bkL Λ)) (zI ld) groups gcs 10 counts bests (zI ((q + 1 : Nat) : Int)) (zI (xt t x)) (zI (2 * xh half x - xt t x)) (zI (enl x.2)) = some (wI (Wn Λ (8 - (q + 1)) ((q + 1 : Nat) : Int) (xt t x) (xh half x) (enl x.2)), counts', bests') := r1
    unfold F_X4_countBehind_b75
    rw [ee, Option.bind_some, eq1, et, eg, eb, r1', Option.bind_some, bq_t hc, if_pos rfl]
    rfl
  unfold F_X4_countBehind
  rw [exa, exg, e34]
  have b26 (ha : xa Λ t x = -1 ∨ xa Λ t x = 2 * half) : ∃ counts' bests', F_X4_countBehind_b26 (zI (bkH Λ)) letters ties (zI L) (zI (bkL Λ)) (zI x.1) (nI x.2) (zI (thg x.2 x.1 x.1)) (zI (xg x)) (zI ld) groups gcs counts bests (zI q) (zI t) (zI (2 * half - t)) (zI last) = some (wI (if bq (Cn Λ q t half last x) = true then Wn Λ (8 - (q + 1)) ((q : Int) + 1) (xt t x) (xh half x) (enl x.2) else 0), counts', bests') ∧ Mem Λ L ld counts' bests' ∧ KnM ld bests bests' ∧ (Cn Λ q t half last x → xt t x < bkH Λ → q + 1 < 8 → Kn ld bests' (nm Λ L ((q + 1 : Nat) : Int) (xt t x) (xh half x) (enl x.2))) := by
    unfold F_X4_countBehind_b26
    rw [e1, Option.bind_some]
    by_cases c1 : thg x.2 x.1 x.1 ≤ rc
    · have l2 : zI (thg x.2 x.1 x.1) ≤ zI rc := by simp (disch := omega) only [zl_0, zl_1, zl_2, zl_3, zl_4, zl_5, zl_6, zl_7, zl_8, zl_9, zl_10, zl_11, zl_12, zl_13, zl_14, zl_15, zl_16, zl_17, zl_18, zl_19, zl_20, zl_21, zl_22, zl_23, zl_24, zl_25, zl_26, zl_27, zl_28, zl_29, zl_30, zl_31, zl_32, zl_33, zl_34, zl_35, zl_36, zl_37, zl_38, zl_39, zl_40, zl_41, zl_42, zl_43, zl_44, zl_45, zl_46, zl_47, zl_48, zl_49, zl_50, zl_51, zl_52, zl_53, zl_54, zl_55, zl_56, zl_57, zl_58, zl_59, zl_60, zl_61, zl_62, zl_63, zl_64, zl_65, zl_66, zl_80, zl_97, zl_99, zl_103, zl_107, zl_112, zl_115, zl_100, zl_180, zl_210, zl_238, zl_255, zl_256, zl_400, zl_1000, zl_1024, zl_1260, zl_2000, zl_7140, zl_7200, zl_18414, zl_65536, zl_131072, zl_9999, zl_999, zI_add, zI_sub, zI_mul, zI_neg, zI_lt, zI_le, zI_eq, zI_clamp, ck_z, ckp_z, qb_z, qb_z0, Option.bind_some]; exact c1
      rw [if_pos l2]
      rcases hl with rfl | rfl
      · rw [if_pos (show zI 0 = 0 from rfl)]
        exact yes ⟨ha, hrr.mp c1, fun w => absurd rfl w⟩
      · rw [if_neg (by decide), est, Option.bind_some]
        by_cases c2 : Gh x.2 x.1 ((1 : Nat) : Int)
        · rw [decide_eq_false (fun y => y c2), if_pos (show qb false = 0 from rfl)]
          exact yes ⟨ha, hrr.mp c1, fun _ w => absurd c2 w⟩
        · rw [decide_eq_true c2, if_neg (show ¬ qb true = 0 by decide), ecl, Option.bind_some]
          by_cases c3 : τC Λ t = 2
          · rw [decide_eq_true ⟨t1, c3⟩, if_neg (show ¬ qb true = 0 by decide)]
            exact no (fun w => w.2.2 (by omega) c2 c3)
          · rw [decide_eq_false (fun y => c3 y.2), if_pos (show qb false = 0 from rfl)]
            exact yes ⟨ha, hrr.mp c1, fun _ _ => c3⟩
    · have l2 : ¬ zI (thg x.2 x.1 x.1) ≤ zI rc := by simp (disch := omega) only [zl_0, zl_1, zl_2, zl_3, zl_4, zl_5, zl_6, zl_7, zl_8, zl_9, zl_10, zl_11, zl_12, zl_13, zl_14, zl_15, zl_16, zl_17, zl_18, zl_19, zl_20, zl_21, zl_22, zl_23, zl_24, zl_25, zl_26, zl_27, zl_28, zl_29, zl_30, zl_31, zl_32, zl_33, zl_34, zl_35, zl_36, zl_37, zl_38, zl_39, zl_40, zl_41, zl_42, zl_43, zl_44, zl_45, zl_46, zl_47, zl_48, zl_49, zl_50, zl_51, zl_52, zl_53, zl_54, zl_55, zl_56, zl_57, zl_58, zl_59, zl_60, zl_61, zl_62, zl_63, zl_64, zl_65, zl_66, zl_80, zl_97, zl_99, zl_103, zl_107, zl_112, zl_115, zl_100, zl_180, zl_210, zl_238, zl_255, zl_256, zl_400, zl_1000, zl_1024, zl_1260, zl_2000, zl_7140, zl_7200, zl_18414, zl_65536, zl_131072, zl_9999, zl_999, zI_add, zI_sub, zI_mul, zI_neg, zI_lt, zI_le, zI_eq, zI_clamp, ck_z, ckp_z, qb_z, qb_z0, Option.bind_some]; exact c1
      rw [if_neg l2]
      exact no (fun w => c1 (hrr.mpr w.2.1))
  by_cases c1 : xa Λ t x = -1
  · have q1 : zI (xa Λ t x) = -1 := by rw [c1]; rfl
    rw [if_pos q1]
    exact b26 (Or.inl c1)
  · have q1 : ¬ zI (xa Λ t x) = -1 := by simp (disch := omega) only [zl_0, zl_1, zl_2, zl_3, zl_4, zl_5, zl_6, zl_7, zl_8, zl_9, zl_10, zl_11, zl_12, zl_13, zl_14, zl_15, zl_16, zl_17, zl_18, zl_19, zl_20, zl_21, zl_22, zl_23, zl_24, zl_25, zl_26, zl_27, zl_28, zl_29, zl_30, zl_31, zl_32, zl_33, zl_34, zl_35, zl_36, zl_37, zl_38, zl_39, zl_40, zl_41, zl_42, zl_43, zl_44, zl_45, zl_46, zl_47, zl_48, zl_49, zl_50, zl_51, zl_52, zl_53, zl_54, zl_55, zl_56, zl_57, zl_58, zl_59, zl_60, zl_61, zl_62, zl_63, zl_64, zl_65, zl_66, zl_80, zl_97, zl_99, zl_103, zl_107, zl_112, zl_115, zl_100, zl_180, zl_210, zl_238, zl_255, zl_256, zl_400, zl_1000, zl_1024, zl_1260, zl_2000, zl_7140, zl_7200, zl_18414, zl_65536, zl_131072, zl_9999, zl_999, zI_add, zI_sub, zI_mul, zI_neg, zI_lt, zI_le, zI_eq, zI_clamp, ck_z, ckp_z, qb_z, qb_z0, Option.bind_some]; exact c1
    rw [if_neg q1]
    by_cases c2 : xa Λ t x = 2 * half
    · have q2 : zI (xa Λ t x) = zI (2 * half) := by rw [c2]
      rw [if_pos q2]
      exact b26 (Or.inr c2)
    · have q2 : ¬ zI (xa Λ t x) = zI (2 * half) := by simp (disch := omega) only [zl_0, zl_1, zl_2, zl_3, zl_4, zl_5, zl_6, zl_7, zl_8, zl_9, zl_10, zl_11, zl_12, zl_13, zl_14, zl_15, zl_16, zl_17, zl_18, zl_19, zl_20, zl_21, zl_22, zl_23, zl_24, zl_25, zl_26, zl_27, zl_28, zl_29, zl_30, zl_31, zl_32, zl_33, zl_34, zl_35, zl_36, zl_37, zl_38, zl_39, zl_40, zl_41, zl_42, zl_43, zl_44, zl_45, zl_46, zl_47, zl_48, zl_49, zl_50, zl_51, zl_52, zl_53, zl_54, zl_55, zl_56, zl_57, zl_58, zl_59, zl_60, zl_61, zl_62, zl_63, zl_64, zl_65, zl_66, zl_80, zl_97, zl_99, zl_103, zl_107, zl_112, zl_115, zl_100, zl_180, zl_210, zl_238, zl_255, zl_256, zl_400, zl_1000, zl_1024, zl_1260, zl_2000, zl_7140, zl_7200, zl_18414, zl_65536, zl_131072, zl_9999, zl_999, zI_add, zI_sub, zI_mul, zI_neg, zI_lt, zI_le, zI_eq, zI_clamp, ck_z, ckp_z, qb_z, qb_z0, Option.bind_some]; exact c2
      rw [if_neg q2]
      exact no (fun w => by rcases w.1 with w | w; exact c1 w; exact c2 w)
end CB

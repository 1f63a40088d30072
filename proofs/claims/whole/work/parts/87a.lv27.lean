/-- the sort of a lay, and what it wants ahead -/
def srb (x : Nat × Nat) : Nat := ((x.1 / 2 - 1) * 5 + (xg x).toNat) * 4
def srs (Λ : Book) (t : Int) (x : Nat × Nat) : Nat := if ¬ Gh x.2 x.1 ((1 : Nat) : Int) ∧ t < bkH Λ ∧ τC Λ t = 2 then 2 else 0
def sre (Λ : Book) (t : Int) (x : Nat × Nat) : Nat := if ¬ Gh x.2 x.1 (x.1 : Int) ∧ xt t x < bkH Λ ∧ τC Λ (xt t x) ≠ 0 then 1 else 0
def srt (Λ : Book) (t : Int) (x : Nat × Nat) : Nat := srb x + srs Λ t x + sre Λ t x
def acd (Λ : Book) (t : Int) (x : Nat × Nat) : Nat := (xa Λ t x + 1).toNat
theorem srt_k {Λ : Book} {t : Int} {x : Nat × Nat} (t0 : 0 ≤ t) (t1 : t ≤ bkH Λ) (h : x ∈ lyC Λ t) : sok (srt Λ t x) ∧ ((slo (srt Λ t x) : Nat) : Int) = xg x ∧ ((sth (srt Λ t x) : Nat) : Int) = thg x.2 x.1 x.1 ∧ srt Λ t x / 2 % 2 = srs Λ t x / 2 ∧ srt Λ t x % 2 = sre Λ t x := by
  obtain ⟨a, b, c, d, e, f, _, _⟩ := lyC_b t0 t1 h
  have hs : srs Λ t x = 0 ∨ srs Λ t x = 2 := by unfold srs; split; exact Or.inr rfl; exact Or.inl rfl
  have he : sre Λ t x = 0 ∨ sre Λ t x = 1 := by unfold sre; split; exact Or.inr rfl; exact Or.inl rfl
  have ex : xg x = (x.1 : Int) - thg x.2 x.1 x.1 := rfl
  unfold sok slo sth srt srb
  omega
def smF (tl f : Nat → Nat) : Nat → Nat → Nat
  | 0, _ => 0
  | d + 1, p => tl p * f p + smF tl f d (p + 1)
def smG (γ : Nat → Nat × Nat × Nat) (F : Nat × Nat × Nat → Nat) : Nat → Nat
  | 0 => 0
  | n + 1 => smG γ F n + F (γ n)
def upN (f : Nat → Nat) (a v i : Nat) : Nat := if i = a then v else f i
theorem smF_cg {tl tl' f : Nat → Nat} : ∀ (d p : Nat), (∀ i, p ≤ i → i < p + d → tl i = tl' i) → smF tl f d p = smF tl' f d p
  | 0, _, _ => rfl
  | d + 1, p, h => by
    unfold smF
    rw [h p (Nat.le_refl _) (by omega), smF_cg d (p + 1) (fun i i1 i2 => h i (by omega) (by omega))]
theorem smF_up {tl f : Nat → Nat} {a : Nat} : ∀ (d p : Nat), p ≤ a → a < p + d → smF (upN tl a (tl a + 1)) f d p = smF tl f d p + f a
  | 0, p, h1, h2 => by omega
  | d + 1, p, h1, h2 => by
    unfold smF
    by_cases c : p = a
    · subst c
      have e : upN tl p (tl p + 1) p = tl p + 1 := if_pos rfl
      rw [e, smF_cg (tl := upN tl p (tl p + 1)) (tl' := tl) d (p + 1) (fun i i1 _ => if_neg (by omega)), Nat.add_mul, Nat.one_mul]
      omega
    · have e : upN tl a (tl a + 1) p = tl p := if_neg c
      rw [e, smF_up d (p + 1) (by omega) (by omega)]
      omega
theorem smF_ge {tl f : Nat → Nat} {a : Nat} : ∀ (d p : Nat), p ≤ a → a < p + d → tl a * f a ≤ smF tl f d p
  | 0, p, h1, h2 => by omega
  | d + 1, p, h1, h2 => by
    unfold smF
    by_cases c : p = a
    · subst c; omega
    · have := smF_ge (tl := tl) (f := f) d (p + 1) (by omega) (show a < p + 1 + d by omega)
      omega
theorem smG_cg {γ γ' : Nat → Nat × Nat × Nat} {F : Nat × Nat × Nat → Nat} : ∀ n : Nat, (∀ i, i < n → γ i = γ' i) → smG γ F n = smG γ' F n
  | 0, _ => rfl
  | n + 1, h => by
    unfold smG
    rw [h n (by omega), smG_cg n (fun i hi => h i (by omega))]
theorem smG_n {γ : Nat → Nat × Nat × Nat} {F : Nat × Nat × Nat → Nat} : ∀ n : Nat, (∀ i, i < n → 1 ≤ F (γ i)) → n ≤ smG γ F n
  | 0, _ => Nat.zero_le _
  | n + 1, h => by
    have := smG_n (γ := γ) (F := F) n (fun i hi => h i (by omega))
    have := h n (by omega)
    unfold smG
    omega
/-- the groups of the leaf t lie there -/
def GrI (groups gcs : NF) (t : Int) (N : Nat) (γ : Nat → Nat × Nat × Nat) : Prop := gcs t.toNat = nI N ∧ ∀ i, i < N → groups (t * 238 + i).toNat = nI (gcode (γ i).1 (γ i).2.1 (γ i).2.2) ∧ sok (γ i).1 ∧ (γ i).2.1 ≤ 57 ∧ 1 ≤ (γ i).2.2 ∧ (γ i).2.2 < 256
def upG (γ : Nat → Nat × Nat × Nat) (n : Nat) (g : Nat × Nat × Nat) (i : Nat) : Nat × Nat × Nat := if i = n then g else γ i
/-- nothing of other leaves changes -/
def GrK (t : Int) (groups gcs groups' gcs' : NF) : Prop := (∀ m : Nat, ((m : Int) < t * 238 ∨ t * 238 + 238 ≤ m) → groups' m = groups m) ∧ ∀ m : Nat, m ≠ t.toNat → gcs' m = gcs m
theorem GrK_r (t : Int) (groups gcs : NF) : GrK t groups gcs groups gcs := ⟨fun _ _ => rfl, fun _ _ => rfl⟩
theorem GrK_t {t : Int} {g0 c0 g1 c1 g2 c2 : NF} (h1 : GrK t g0 c0 g1 c1) (h2 : GrK t g1 c1 g2 c2) : GrK t g0 c0 g2 c2 := ⟨fun m h => by rw [h2.1 m h, h1.1 m h], fun m h => by rw [h2.2 m h, h1.2 m h]⟩
theorem GrI_add {groups gcs : NF} {t ah : Int} {N p n : Nat} {γ : Nat → Nat × Nat × Nat} (t0 : 0 ≤ t) (t1 : t < 30) (h : GrI groups gcs t N γ) (hN : N < 238) (hp : sok p) (a0 : -1 ≤ ah) (a1 : ah ≤ 56) (n0 : 1 ≤ n) (hn : n < 256) : ∃ groups' gcs', F_X4_addGroup groups gcs (zI t) (nI p) (zI ah) (nI n) = some (groups', gcs') ∧ GrI groups' gcs' t (N + 1) (upG γ N (p, (ah + 1).toNat, n)) ∧ GrK t groups gcs groups' gcs' := by
  refine ⟨_, _, addGroup_z groups gcs t ah p n N t0 t1 hp a0 a1 hn h.1 hN, ⟨upd_at _ _ _, fun i hi => ?_⟩, fun m hm => ?_, fun m hm => upd_ne _ _ hm⟩
  · by_cases c : i = N
    · subst c
      have e : upG γ i (p, (ah + 1).toNat, n) i = (p, (ah + 1).toNat, n) := if_pos rfl
      rw [upd_at, e]
      exact ⟨rfl, hp, by show (ah + 1).toNat ≤ 57; omega, n0, hn⟩
    · have e : upG γ N (p, (ah + 1).toNat, n) i = γ i := if_neg c
      rw [upd_ne _ _ (by omega), e]
      exact h.2 i (by omega)
  · exact upd_ne _ _ (by omega)
theorem smG_up {γ : Nat → Nat × Nat × Nat} {F : Nat × Nat × Nat → Nat} {N : Nat} {g : Nat × Nat × Nat} : smG (upG γ N g) F (N + 1) = smG γ F N + F g := by
  have e : upG γ N g N = g := if_pos rfl
  have c : smG (upG γ N g) F N = smG γ F N := smG_cg N (fun i hi => if_neg (by omega))
  show smG (upG γ N g) F N + F (upG γ N g N) = _
  rw [e, c]
/-- the count so far: groups and tally -/
def GrT (Λ : Book) (t : Int) (groups gcs tally : NF) (l : List (Nat × Nat)) : Prop := ∃ (N : Nat) (γ : Nat → Nat × Nat × Nat) (tl : Nat → Nat), GrI groups gcs t N γ ∧ (∀ p, p < 80 → tally p = nI (tl p) ∧ (1 ≤ tl p → sok p)) ∧ ∀ f : Nat → Nat → Nat, smG γ (fun g => g.2.2 * f g.1 g.2.1) N + smF tl (fun p => f p 0) 80 0 = (l.map (fun x => f (srt Λ t x) (acd Λ t x))).sum
theorem len_sum (l : List (Nat × Nat)) : (l.map (fun _ => 1)).sum = l.length := by
  induction l with
  | nil => rfl
  | cons y l ih => rw [List.map_cons, List.sum_cons, ih, List.length_cons]; omega
section GL
variable {Λ : Book} {numbers spots waters sides ties : NF}
theorem addLay_z (hB : BkW Λ) (hT : TbC Λ (σC Λ) (τC Λ) numbers spots waters sides ties) {t : Int} (t0 : 0 ≤ t) (t1 : t < bkH Λ) {x : Nat × Nat} (hx : x ∈ lyC Λ t) {groups gcs tally : NF} {l : List (Nat × Nat)} (h : GrT Λ t groups gcs tally l) (hl : l.length < 238) : ∃ groups' gcs' tally', F_X4_addLay (zI (bkH Λ)) ties (zI x.1) (nI x.2) (zI (thg x.2 x.1 x.1)) (zI ((x.1 : Int) - thg x.2 x.1 x.1)) (zI (ahc (σC Λ) t x.2 x.1 x.1)) groups gcs tally (zI t) = some (groups', gcs', tally') ∧ GrT Λ t groups' gcs' tally' (l ++ [x]) ∧ GrK t groups gcs groups' gcs' := by
  obtain ⟨a, b, c, d, e, f, g1, g2⟩ := lyC_b t0 (by omega) hx
  obtain ⟨k1, k2, k3, k4, k5⟩ := srt_k t0 (by omega) hx
  have h30 := hB.2.1
  have h256 : x.2 < 256 := Nat.lt_of_lt_of_le b (show 2 ^ x.1 ≤ 2 ^ 8 from Nat.pow_le_pow_right (by omega) (by omega))
  have eg1 := isGhost_z x.2 x.1 1 h256 (by omega) (by omega) (by omega)
  have egs := isGhost_z x.2 x.1 (x.1 : Int) h256 (by omega) (by omega) (by omega)
  have ecl := clashes_z (ties := ties) hB.1 h30 (τC Λ) (fun h h0 h1 => ⟨(hT h h0 h1).2.2.2.2.1, (hT h h0 h1).2.2.2.2.2.2.2.1, (hT h h0 h1).2.2.2.2.2.2.2.2⟩) t t0 (by omega)
  have ejo := joins_z (ties := ties) hB.1 h30 (τC Λ) (fun h h0 h1 => ⟨(hT h h0 h1).2.2.2.2.1, (hT h h0 h1).2.2.2.2.2.2.2.1, (hT h h0 h1).2.2.2.2.2.2.2.2⟩) (xt t x) (by omega) (by omega)
  have exg : (x.1 : Int) - thg x.2 x.1 x.1 = xg x := rfl
  have ext : zI t + zI (thg x.2 x.1 x.1) = zI (xt t x) := zI_add _ _
  have eb : (((zI (x.1 : Int) / 2) - 1) * 5 + zI (xg x)) * 4 = nI (srb x) := by
    rw [zl_2, divz (by omega) (by omega) (by omega) (by omega), zl_1, show (5 : Int32) = zI 5 from rfl, show (4 : Int32) = zI 4 from rfl, zI_sub, zI_mul, zI_add, zI_mul, nI_zI]
    congr 1
    unfold srb
    omega
  -- the end
  have b80 : ∃ groups' gcs' tally', F_X4_addLay_b80 (zI (ahc (σC Λ) t x.2 x.1 x.1)) groups gcs tally (zI t) (nI (srt Λ t x)) = some (groups', gcs', tally') ∧ GrT Λ t groups' gcs' tally' (l ++ [x]) ∧ GrK t groups gcs groups' gcs' := by
    obtain ⟨N, γ, tl, i1, i2, i3⟩ := h
    have xb := xa_b hx
    have exa : ahc (σC Λ) t x.2 x.1 x.1 = xa Λ t x := rfl
    have hlen := i3 (fun _ _ => 1)
    rw [len_sum] at hlen
    rw [exa]
    unfold F_X4_addLay_b80
    by_cases z : xa Λ t x = -1
    · have q : zI (xa Λ t x) = -1 := by rw [z]; rfl
      have l1 : ¬ nI (srt Λ t x) < 0 := by have := k1.1; rw [nI_zI]; simp (disch := omega) only [zl_0, zl_1, zl_2, zl_3, zl_4, zl_5, zl_6, zl_7, zl_8, zl_9, zl_10, zl_11, zl_12, zl_13, zl_14, zl_15, zl_16, zl_17, zl_18, zl_19, zl_20, zl_21, zl_22, zl_23, zl_24, zl_25, zl_26, zl_27, zl_28, zl_29, zl_30, zl_31, zl_32, zl_33, zl_34, zl_35, zl_36, zl_37, zl_38, zl_39, zl_40, zl_41, zl_42, zl_43, zl_44, zl_45, zl_46, zl_47, zl_48, zl_49, zl_50, zl_51, zl_52, zl_53, zl_54, zl_55, zl_56, zl_57, zl_58, zl_59, zl_60, zl_61, zl_62, zl_63, zl_64, zl_65, zl_66, zl_80, zl_97, zl_99, zl_103, zl_107, zl_112, zl_115, zl_100, zl_180, zl_210, zl_238, zl_255, zl_256, zl_400, zl_1000, zl_1024, zl_1260, zl_2000, zl_7140, zl_7200, zl_18414, zl_65536, zl_131072, zl_9999, zl_999, zI_add, zI_sub, zI_mul, zI_neg, zI_lt, zI_le, zI_eq, zI_clamp, ck_z, ckp_z, qb_z, qb_z0, Option.bind_some]; omega
      have l2 : ¬ 80 ≤ nI (srt Λ t x) := by have := k1.1; rw [nI_zI, show (80 : Int32) = zI 80 from rfl]; simp (disch := omega) only [zl_0, zl_1, zl_2, zl_3, zl_4, zl_5, zl_6, zl_7, zl_8, zl_9, zl_10, zl_11, zl_12, zl_13, zl_14, zl_15, zl_16, zl_17, zl_18, zl_19, zl_20, zl_21, zl_22, zl_23, zl_24, zl_25, zl_26, zl_27, zl_28, zl_29, zl_30, zl_31, zl_32, zl_33, zl_34, zl_35, zl_36, zl_37, zl_38, zl_39, zl_40, zl_41, zl_42, zl_43, zl_44, zl_45, zl_46, zl_47, zl_48, zl_49, zl_50, zl_51, zl_52, zl_53, zl_54, zl_55, zl_56, zl_57, zl_58, zl_59, zl_60, zl_61, zl_62, zl_63, zl_64, zl_65, zl_66, zl_80, zl_97, zl_99, zl_103, zl_107, zl_112, zl_115, zl_100, zl_180, zl_210, zl_238, zl_255, zl_256, zl_400, zl_1000, zl_1024, zl_1260, zl_2000, zl_7140, zl_7200, zl_18414, zl_65536, zl_131072, zl_9999, zl_999, zI_add, zI_sub, zI_mul, zI_neg, zI_lt, zI_le, zI_eq, zI_clamp, ck_z, ckp_z, qb_z, qb_z0, Option.bind_some]; omega
      have cz {α : Type} (o : Option α) : ck (inb (nI (srt Λ t x)) 80) o = o := by have := k1.1; rw [nI_zI]; exact ck_z (by omega) (by omega) (by omega)
      have clz : (nI (srt Λ t x)).toNatClampNeg = srt Λ t x := by have := k1.1; rw [nI_zI, zI_clamp (by omega) (by omega)]; omega
      have ek (n : Nat) : nI n + 1 = nI (n + 1) := by rw [nI_zI, nI_zI, zl_1, zI_add]; congr 1
      rw [if_pos q, if_neg l1, if_neg l2, cz, cz, clz, (i2 _ k1.1).1, ek]
      refine ⟨_, _, _, rfl, ⟨N, γ, upN tl (srt Λ t x) (tl (srt Λ t x) + 1), i1, fun p hp => ?_, fun f => ?_⟩, GrK_r _ _ _⟩
      · by_cases ep : p = srt Λ t x
        · subst ep
          have e1 : upN tl (srt Λ t x) (tl (srt Λ t x) + 1) (srt Λ t x) = tl (srt Λ t x) + 1 := if_pos rfl
          rw [upd_at, e1]
          exact ⟨rfl, fun _ => k1⟩
        · have e1 : upN tl (srt Λ t x) (tl (srt Λ t x) + 1) p = tl p := if_neg ep
          rw [upd_ne _ _ ep, e1]
          exact i2 p hp
      · have := k1.1
        rw [smF_up 80 0 (by omega) (by omega), List.map_append, List.sum_append, ← i3 f]
        have ea : acd Λ t x = 0 := by unfold acd; omega
        rw [List.map_cons, List.map_nil, List.sum_cons, List.sum_nil, ea]
        omega
    · have q : ¬ zI (xa Λ t x) = -1 := by simp (disch := omega) only [zl_0, zl_1, zl_2, zl_3, zl_4, zl_5, zl_6, zl_7, zl_8, zl_9, zl_10, zl_11, zl_12, zl_13, zl_14, zl_15, zl_16, zl_17, zl_18, zl_19, zl_20, zl_21, zl_22, zl_23, zl_24, zl_25, zl_26, zl_27, zl_28, zl_29, zl_30, zl_31, zl_32, zl_33, zl_34, zl_35, zl_36, zl_37, zl_38, zl_39, zl_40, zl_41, zl_42, zl_43, zl_44, zl_45, zl_46, zl_47, zl_48, zl_49, zl_50, zl_51, zl_52, zl_53, zl_54, zl_55, zl_56, zl_57, zl_58, zl_59, zl_60, zl_61, zl_62, zl_63, zl_64, zl_65, zl_66, zl_80, zl_97, zl_99, zl_103, zl_107, zl_112, zl_115, zl_100, zl_180, zl_210, zl_238, zl_255, zl_256, zl_400, zl_1000, zl_1024, zl_1260, zl_2000, zl_7140, zl_7200, zl_18414, zl_65536, zl_131072, zl_9999, zl_999, zI_add, zI_sub, zI_mul, zI_neg, zI_lt, zI_le, zI_eq, zI_clamp, ck_z, ckp_z, qb_z, qb_z0, Option.bind_some]; exact z
      have hn := smG_n (γ := γ) (F := fun g => g.2.2 * 1) N (fun i hi => by have := (i1.2 i hi).2.2.2.1; omega)
      obtain ⟨groups', gcs', r1, r2, r3⟩ := GrI_add (p := srt Λ t x) (n := 1) (ah := xa Λ t x) t0 (by omega) i1 (by omega) k1 (by omega) xb.2 (by omega) (by omega)
      have r1' : F_X4_addGroup groups gcs (zI t) (nI (srt Λ t x)) (zI (xa Λ t x)) 1 = some (groups', gcs') := r1
      rw [if_neg q, r1', Option.bind_some]
      refine ⟨_, _, _, rfl, ⟨N + 1, _, tl, r2, i2, fun f => ?_⟩, r3⟩
      rw [smG_up, List.map_append, List.sum_append, ← i3 f, List.map_cons, List.map_nil, List.sum_cons, List.sum_nil]
      show smG γ (fun g => g.2.2 * f g.1 g.2.1) N + 1 * f (srt Λ t x) (acd Λ t x) + _ = _
      omega
  have ez (n m : Nat) : nI n + zI (m : Int) = nI (n + m) := by rw [nI_zI, nI_zI, zI_add]; congr 1
  -- the place behind
  have b48 : F_X4_addLay_b48 (zI (bkH Λ)) ties (zI x.1) (nI x.2) (zI (thg x.2 x.1 x.1)) (zI (ahc (σC Λ) t x.2 x.1 x.1)) groups gcs tally (zI t) (nI (srb x + srs Λ t x)) = F_X4_addLay_b80 (zI (ahc (σC Λ) t x.2 x.1 x.1)) groups gcs tally (zI t) (nI (srt Λ t x)) := by
    unfold F_X4_addLay_b48 F_X1_endsWithLeaf
    rw [egs, Option.bind_some, ext, ejo]
    unfold srt sre
    by_cases z : Gh x.2 x.1 (x.1 : Int)
    · rw [decide_eq_true z, if_neg (show ¬ qb true = 0 by decide), Option.bind_some, if_pos (show qb false = 0 from rfl), if_neg (fun w => w.1 z), Nat.add_zero]
    · rw [decide_eq_false z, if_pos (show qb false = 0 from rfl), Option.bind_some, if_neg (show ¬ qb true = 0 by decide), Option.bind_some]
      by_cases w : xt t x < bkH Λ ∧ τC Λ (xt t x) ≠ 0
      · rw [decide_eq_true w, if_neg (show ¬ qb true = 0 by decide), if_pos ⟨z, w⟩]
        rw [← ez (srb x + srs Λ t x) 1]
        rfl
      · rw [decide_eq_false w, if_pos (show qb false = 0 from rfl), if_neg (fun y => w y.2), Nat.add_zero]
  unfold F_X4_addLay F_X1_startsWithLeaf
  have eg1' : F_X7_isGhost (nI x.2) (zI (x.1 : Int)) 1 = some (decide (Gh x.2 x.1 1)) := eg1
  rw [eg1', Option.bind_some, exg, eb, ecl]
  have b48' : ∀ Y, Y = nI (srb x + srs Λ t x) → ∃ groups' gcs' tally', F_X4_addLay_b48 (zI (bkH Λ)) ties (zI x.1) (nI x.2) (zI (thg x.2 x.1 x.1)) (zI (ahc (σC Λ) t x.2 x.1 x.1)) groups gcs tally (zI t) Y = some (groups', gcs', tally') ∧ GrT Λ t groups' gcs' tally' (l ++ [x]) ∧ GrK t groups gcs groups' gcs' := by
    intro Y hY
    rw [hY, b48]
    exact b80
  have s1 : Gh x.2 x.1 ((1 : Nat) : Int) ↔ Gh x.2 x.1 1 := Iff.rfl
  by_cases z : Gh x.2 x.1 1
  · rw [decide_eq_true z, if_neg (show ¬ qb true = 0 by decide), Option.bind_some, if_pos (show qb false = 0 from rfl)]
    refine b48' _ ?_
    unfold srs
    rw [if_neg (fun w => w.1 z), Nat.add_zero]
  · rw [decide_eq_false z, if_pos (show qb false = 0 from rfl), Option.bind_some, if_neg (show ¬ qb true = 0 by decide), Option.bind_some]
    by_cases w : t < bkH Λ ∧ τC Λ t = 2
    · rw [decide_eq_true w, if_neg (show ¬ qb true = 0 by decide)]
      refine b48' _ ?_
      unfold srs
      rw [if_pos ⟨z, w⟩, ← ez (srb x) 2]
      rfl
    · rw [decide_eq_false w, if_pos (show qb false = 0 from rfl)]
      refine b48' _ ?_
      unfold srs
      rw [if_neg (fun y => w y.2), Nat.add_zero]
end GL

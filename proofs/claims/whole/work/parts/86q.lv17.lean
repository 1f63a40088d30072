/-- what the next mask is asked for -/
def nxq (s k k' p : Nat) : Bool := decide (k' < 2 ^ s) == false || (decide (frm s k' ≤ p) && decide (k' / 2 ^ (s - (frm s k' - 1)) = k / 2 ^ (s - (frm s k' - 1))))
def nxb (s k p : Nat) : Bool := !(decide (1 ≤ p) && decide (p ≤ s) && decide (frm s k ≤ p)) || (decide (k % 2 ^ (s - p) = 0) && decide (k + 2 ^ (s - p) ≤ 2 ^ s) && nxq s k (k + 2 ^ (s - p)) p)
theorem nxt_b : ∀ s, s < 9 → ∀ k, k < 2 ^ s → ∀ p, p < 9 → nxb s k p = true := by decide +kernel
theorem nxt_d (s : Nat) (hs : s < 9) (k : Nat) (hk : k < 2 ^ s) (p : Nat) (hp : p < 9) (h1 : 1 ≤ p) (h2 : p ≤ s) (hf : frm s k ≤ p) : k % 2 ^ (s - p) = 0 ∧ (k + 2 ^ (s - p) < 2 ^ s → (frm s (k + 2 ^ (s - p)) ≤ p ∧ (k + 2 ^ (s - p)) / 2 ^ (s - (frm s (k + 2 ^ (s - p)) - 1)) = k / 2 ^ (s - (frm s (k + 2 ^ (s - p)) - 1)))) ∧ k + 2 ^ (s - p) ≤ 2 ^ s ∧ 1 ≤ 2 ^ (s - p) := by
  have c := nxt_b s hs k hk p hp
  unfold nxb at c
  rw [decide_eq_true h1, decide_eq_true h2, decide_eq_true hf] at c
  simp only [Bool.or_eq_true, Bool.and_eq_true, decide_eq_true_eq] at c
  rcases c with c | ⟨⟨a, b⟩, c⟩
  · exact absurd c (by decide)
  refine ⟨a, fun w => ?_, b, Nat.one_le_two_pow⟩
  unfold nxq at c
  rw [decide_eq_true w] at c
  simp only [Bool.or_eq_true, Bool.and_eq_true, decide_eq_true_eq] at c
  rcases c with c | c
  · exact absurd c (by decide)
  · exact c
def amu (S K : Nat) : Nat := (10 - S) * 3000 + (2 ^ S - K)
theorem amu_z {S : Nat} (hS : S = 2 ∨ S = 4 ∨ S = 6 ∨ S = 8) (K : Nat) : amu (S + 2) 0 + 1 ≤ amu S K := by
  unfold amu
  rcases hS with rfl | rfl | rfl | rfl <;> omega
theorem amu_k {S K K' : Nat} (h1 : K < K') (h2 : K' ≤ 2 ^ S) : amu S K' + 1 ≤ amu S K := by
  unfold amu
  omega
theorem amu_b {S K : Nat} (hS : S = 2 ∨ S = 4 ∨ S = 6 ∨ S = 8 ∨ S = 10) : amu S K ≤ 30000 := by
  unfold amu
  rcases hS with rfl | rfl | rfl | rfl | rfl <;> omega
/-- how many steps advance still takes at most: 344 at the start -/
def amv (S K : Nat) : Nat := if S = 2 then 340 + (4 - K) else if S = 4 then 323 + (16 - K) else if S = 6 then 258 + (64 - K) else if S = 8 then 1 + (256 - K) else 0
theorem amv_z {S : Nat} (hS : S = 2 ∨ S = 4 ∨ S = 6 ∨ S = 8) (K : Nat) : amv (S + 2) 0 + 1 ≤ amv S K := by
  rcases hS with rfl | rfl | rfl | rfl
  · show 323 + (16 - 0) + 1 ≤ 340 + (4 - K); omega
  · show 258 + (64 - 0) + 1 ≤ 323 + (16 - K); omega
  · show 1 + (256 - 0) + 1 ≤ 258 + (64 - K); omega
  · show 0 + 1 ≤ 1 + (256 - K); omega
theorem amv_k {S K K' : Nat} (hS : S = 2 ∨ S = 4 ∨ S = 6 ∨ S = 8) (h1 : K < K') (h2 : K' ≤ 2 ^ S) : amv S K' + 1 ≤ amv S K := by
  rcases hS with rfl | rfl | rfl | rfl
  · show 340 + (4 - K') + 1 ≤ 340 + (4 - K); omega
  · show 323 + (16 - K') + 1 ≤ 323 + (16 - K); omega
  · show 258 + (64 - K') + 1 ≤ 258 + (64 - K); omega
  · show 1 + (256 - K') + 1 ≤ 1 + (256 - K); omega
theorem amv_b {S K : Nat} (hS : S = 2 ∨ S = 4 ∨ S = 6 ∨ S = 8 ∨ S = 10) : amv S K ≤ 344 := by
  rcases hS with rfl | rfl | rfl | rfl | rfl
  · show 340 + (4 - K) ≤ 344; omega
  · show 323 + (16 - K) ≤ 344; omega
  · show 258 + (64 - K) ≤ 344; omega
  · show 1 + (256 - K) ≤ 344; omega
  · show 0 ≤ 344; omega
theorem div_rng {k k2 E : Nat} (hE : 1 ≤ E) (h0 : k % E = 0) (h1 : k ≤ k2) (h2 : k2 < k + E) : k2 / E = k / E := by
  have e : k = E * (k / E) := by have := Nat.div_add_mod k E; omega
  rw [show k2 = (k2 - k) + k by omega, e, Nat.add_mul_div_left _ _ (by omega), Nat.div_eq_of_lt (by omega), Nat.zero_add, Nat.mul_div_cancel_left _ (by omega)]
/-- what the lays stand at: next the mask K of S places -/
def AdI (Λ : Book) (σ τ : Int → Int) (t last : Int) (S K : Nat) (seats nexts aheads : NF) : Prop := nexts 0 = zI t ∧ aheads 0 = zI (-1) ∧ (S = 2 ∨ S = 4 ∨ S = 6 ∨ S = 8 ∨ S = 10) ∧ K ≤ 2 ^ S ∧ (S ≤ 8 → K < 2 ^ S → PfA Λ σ τ t S K (frm S K - 1) seats nexts aheads ∧ ∀ r : Nat, r < frm S K → last = -1 ∨ t + thg K S r ≤ last) ∧ (S = 10 → K = 0)
/-- (s, k) does not come before (S, K) -/
def Lex (S K s k : Nat) : Prop := S < s ∨ (S = s ∧ K ≤ k)
/-- a lay that is found good -/
def Sb (Λ : Book) (σ τ : Int → Int) (t last : Int) (s k : Nat) : Prop := (s = 2 ∨ s = 4 ∨ s = 6 ∨ s = 8) ∧ k < 2 ^ s ∧ alw (bkZ Λ) s = true ∧ ∃ p, Su Λ σ τ t last s k p
section AD
variable {Λ : Book} {σ τ : Int → Int} {numbers spots waters sides ties : NF} {t last : Int}
theorem AdI_0 (hlt : last = -1 ∨ t ≤ last) {S : Nat} {seats nexts aheads : NF} (h1 : nexts 0 = zI t) (h2 : aheads 0 = zI (-1)) (hS : S = 2 ∨ S = 4 ∨ S = 6 ∨ S = 8 ∨ S = 10) : AdI Λ σ τ t last S 0 seats nexts aheads := by
  refine ⟨h1, h2, hS, Nat.zero_le _, fun _ _ => ?_, fun _ => rfl⟩
  have ef : frm S 0 = 1 := rfl
  rw [ef]
  refine ⟨⟨h1, h2, fun r r1 r2 => by omega⟩, fun r r2 => ?_⟩
  have e : r = 0 := by omega
  subst e
  have e0 : thg 0 S 0 = 0 := rfl
  rw [e0]
  omega
theorem AdI_nx {S K p : Nat} {seats nexts aheads : NF} (hS : S = 2 ∨ S = 4 ∨ S = 6 ∨ S = 8) (hK : K < 2 ^ S) (hp1 : 1 ≤ p) (hp2 : p ≤ S) (hf : frm S K ≤ p) (h : PfA Λ σ τ t S K (p - 1) seats nexts aheads) (hl : ∀ r : Nat, r < p → last = -1 ∨ t + thg K S r ≤ last) : AdI Λ σ τ t last S (K + 2 ^ (S - p)) seats nexts aheads := by
  obtain ⟨d1, d2, d3, d4⟩ := nxt_d S (by omega) K hK p (by omega) hp1 hp2 hf
  refine ⟨h.1, h.2.1, by omega, d3, fun _ hlt => ?_, fun x => by omega⟩
  obtain ⟨c1, c2⟩ := d2 hlt
  obtain ⟨f1, f2, _⟩ := frm_b S (by omega) (K + 2 ^ (S - p)) hlt (by omega)
  have cg := Cg_mk (by omega) c2
  refine ⟨⟨h.1, h.2.1, fun r r1 r2 => ?_⟩, fun r r2 => ?_⟩
  · obtain ⟨a, b, c, d⟩ := h.2.2 r r1 (by omega)
    have g := cg r r1 r2
    have e1 := Cg_thg cg r r2
    have e2 := Cg_thg cg (r - 1) (by omega)
    have e3 := Cg_ahc (σ := σ) (t := t) cg r r2
    refine ⟨?_, by rw [e1]; exact b, by rw [e3]; exact c, Cg_LyP1 (by omega) (Cg_sym cg) r r1 r2 d⟩
    rw [a, e2]
    by_cases x : Gh K S r
    · rw [if_pos x, if_pos (g.mpr x)]
    · rw [if_neg x, if_neg (fun y => x (g.mp y))]
  · rw [Cg_thg cg r (by omega)]
    exact hl r (by omega)
set_option maxRecDepth 8000 in
theorem advance_b2_z (hB : BkW Λ) (hT : TbC Λ σ τ numbers spots waters sides ties) (t0 : 0 ≤ t) (t1 : t ≤ 30) (hl0 : -1 ≤ last) (hl1 : last ≤ 30) (hlt : last = -1 ∨ t ≤ last) : ∀ (n m S K : Nat) (seats nexts aheads : NF) (a b c d e : Int32) (x : Nat) (x1 : Int32), amv S K ≤ n → n < m → x + n < 1000 → x1 = zI (x : Int) → AdI Λ σ τ t last S K seats nexts aheads → ∃ S' K' se ne ah, AdI Λ σ τ t last S' K' se ne ah ∧ (((∃ (s k : Nat) (th gh ap : Int32), F_X1_advance_b2 (zI (bkH Λ)) numbers spots waters sides ties (zI (bkZ Λ)) (zI (bkG Λ)) (zI t) (zI last) m (zI S) (nI K) seats nexts aheads a b c d e x1 = some (true, zI S', nI K', se, ne, ah, zI s, nI k, th, gh, ap) ∧ Lex S K s k ∧ Sb Λ σ τ t last s k ∧ S' = s ∧ ∃ p, Su Λ σ τ t last s k p ∧ K' = k + 2 ^ (s - p) ∧ k % 2 ^ (s - p) = 0 ∧ th = zI (thg k s p) ∧ gh = zI ((p : Int) - thg k s p) ∧ ap = zI (ahc σ t k s p) ∧ ∀ s2 k2, Lex S K s2 k2 → Sb Λ σ τ t last s2 k2 → Lex s k s2 k2)) ∨ ((∃ a' b' c' d' e', F_X1_advance_b2 (zI (bkH Λ)) numbers spots waters sides ties (zI (bkZ Λ)) (zI (bkG Λ)) (zI t) (zI last) m (zI S) (nI K) seats nexts aheads a b c d e x1 = some (false, zI S', nI K', se, ne, ah, a', b', c', d', e')) ∧ ∀ s2 k2, Lex S K s2 k2 → ¬ Sb Λ σ τ t last s2 k2))
  | _, 0, _, _, _, _, _, _, _, _, _, _, _, _, _, hm, _, _, _ => absurd hm (Nat.not_lt_zero _)
  | n, m + 1, S, K, seats, nexts, aheads, a, b, c, d, e, x, x1, hn, hm, hx, hx1, hI => by
    subst hx1
    have z1000 : (1000 : Int32) = zI 1000 := rfl
    have lx : ¬ (1000 : Int32) ≤ zI (x : Int) := by rw [z1000]; simp (disch := omega) only [zl_0, zl_1, zl_2, zl_3, zl_4, zl_5, zl_6, zl_7, zl_8, zl_9, zl_10, zl_11, zl_12, zl_13, zl_14, zl_15, zl_16, zl_17, zl_18, zl_19, zl_20, zl_21, zl_22, zl_23, zl_24, zl_25, zl_26, zl_27, zl_28, zl_29, zl_30, zl_31, zl_32, zl_33, zl_34, zl_35, zl_36, zl_37, zl_38, zl_39, zl_40, zl_41, zl_42, zl_43, zl_44, zl_45, zl_46, zl_47, zl_48, zl_49, zl_50, zl_51, zl_52, zl_53, zl_54, zl_55, zl_56, zl_57, zl_58, zl_59, zl_60, zl_61, zl_62, zl_63, zl_64, zl_65, zl_66, zl_80, zl_97, zl_99, zl_103, zl_107, zl_112, zl_115, zl_100, zl_180, zl_210, zl_238, zl_255, zl_256, zl_400, zl_1000, zl_1024, zl_1260, zl_2000, zl_7140, zl_7200, zl_18414, zl_65536, zl_131072, zl_9999, zl_999, zI_add, zI_sub, zI_mul, zI_neg, zI_lt, zI_le, zI_eq, zI_clamp, ck_z, ckp_z, qb_z, qb_z0, Option.bind_some]; omega
    have ex : zI (x : Int) + 1 = zI ((x + 1 : Nat) : Int) := by rw [zl_1, zI_add]; congr 1
    obtain ⟨i1, i2, i3, i4, i5, i6⟩ := id hI
    obtain ⟨_, h30, z0, z1, _⟩ := id hB
    by_cases cS : S = 10
    · subst cS
      have l : 8 < zI ((10 : Nat) : Int) := by decide
      rw [F_X1_advance_b2, if_neg lx, if_pos l]
      refine ⟨10, K, seats, nexts, aheads, hI, Or.inr ⟨⟨a, b, c, d, e, rfl⟩, fun s2 k2 x y => ?_⟩⟩
      have := y.1
      rcases x with x | x <;> omega
    · have hS : S = 2 ∨ S = 4 ∨ S = 6 ∨ S = 8 := by omega
      have l : ¬ 8 < zI (S : Int) := by simp (disch := omega) only [zl_0, zl_1, zl_2, zl_3, zl_4, zl_5, zl_6, zl_7, zl_8, zl_9, zl_10, zl_11, zl_12, zl_13, zl_14, zl_15, zl_16, zl_17, zl_18, zl_19, zl_20, zl_21, zl_22, zl_23, zl_24, zl_25, zl_26, zl_27, zl_28, zl_29, zl_30, zl_31, zl_32, zl_33, zl_34, zl_35, zl_36, zl_37, zl_38, zl_39, zl_40, zl_41, zl_42, zl_43, zl_44, zl_45, zl_46, zl_47, zl_48, zl_49, zl_50, zl_51, zl_52, zl_53, zl_54, zl_55, zl_56, zl_57, zl_58, zl_59, zl_60, zl_61, zl_62, zl_63, zl_64, zl_65, zl_66, zl_80, zl_97, zl_99, zl_103, zl_107, zl_112, zl_115, zl_100, zl_180, zl_210, zl_238, zl_255, zl_256, zl_400, zl_1000, zl_1024, zl_1260, zl_2000, zl_7140, zl_7200, zl_18414, zl_65536, zl_131072, zl_9999, zl_999, zI_add, zI_sub, zI_mul, zI_neg, zI_lt, zI_le, zI_eq, zI_clamp, ck_z, ckp_z, qb_z, qb_z0, Option.bind_some]; omega
      have eS2 : zI (S : Int) + 2 = zI ((S + 2 : Nat) : Int) := by rw [zl_2, zI_add]; congr 1
      have epw : (1 : Int32) <<< (zI (S : Int) &&& 31) = nI (2 ^ S) := by rw [← nI_zI]; exact pow_s S (by omega)
      have h256 : 2 ^ S ≤ 256 := show 2 ^ S ≤ 2 ^ 8 from Nat.pow_le_pow_right (by omega) (by omega)
      have h256' : S ≠ 8 → 2 ^ (S + 2) ≤ 256 := fun x => show 2 ^ (S + 2) ≤ 2 ^ 8 from Nat.pow_le_pow_right (by omega) (by omega)
      -- on to the next size
      have nx (hno : ∀ k2, K ≤ k2 → ¬ Sb Λ σ τ t last S k2) (X : Option (Bool × Int32 × Int32 × NF × NF × NF × Int32 × Int32 × Int32 × Int32 × Int32)) (hX : X = F_X1_advance_b2 (zI (bkH Λ)) numbers spots waters sides ties (zI (bkZ Λ)) (zI (bkG Λ)) (zI t) (zI last) m (zI ((S + 2 : Nat) : Int)) (nI 0) seats nexts aheads a b c d e (zI ((x + 1 : Nat) : Int))) : ∃ S' K' se ne ah, AdI Λ σ τ t last S' K' se ne ah ∧ (((∃ (s k : Nat) (th gh ap : Int32), X = some (true, zI S', nI K', se, ne, ah, zI s, nI k, th, gh, ap) ∧ Lex S K s k ∧ Sb Λ σ τ t last s k ∧ S' = s ∧ ∃ p, Su Λ σ τ t last s k p ∧ K' = k + 2 ^ (s - p) ∧ k % 2 ^ (s - p) = 0 ∧ th = zI (thg k s p) ∧ gh = zI ((p : Int) - thg k s p) ∧ ap = zI (ahc σ t k s p) ∧ ∀ s2 k2, Lex S K s2 k2 → Sb Λ σ τ t last s2 k2 → Lex s k s2 k2)) ∨ ((∃ a' b' c' d' e', X = some (false, zI S', nI K', se, ne, ah, a', b', c', d', e')) ∧ ∀ s2 k2, Lex S K s2 k2 → ¬ Sb Λ σ τ t last s2 k2)) := by
        subst hX
        have up (s2 k2 : Nat) (x : Lex S K s2 k2) (y : Sb Λ σ τ t last s2 k2) : Lex (S + 2) 0 s2 k2 := by
          rcases x with x | ⟨x1, x2⟩
          · have := y.1
            by_cases w : S + 2 = s2
            · exact Or.inr ⟨w, Nat.zero_le _⟩
            · exact Or.inl (by omega)
          · subst x1
            exact absurd y (hno k2 x2)
        have n1 : 1 ≤ n := by have := amv_z hS K; omega
        have hn2 : amv (S + 2) 0 ≤ n - 1 := by have := amv_z hS K; omega
        obtain ⟨S', K', se, ne, ah, r1, r2⟩ := advance_b2_z hB hT t0 t1 hl0 hl1 hlt (n - 1) m (S + 2) 0 seats nexts aheads a b c d e (x + 1) _ hn2 (by omega) (by omega) rfl (AdI_0 hlt i1 i2 (by omega))
        refine ⟨S', K', se, ne, ah, r1, ?_⟩
        rcases r2 with ⟨s, k, th, gh, ap, q1, q2, q3, q4, p, q5, q6, q7, q8, q9, q10, q11⟩ | ⟨q1, q2⟩
        · refine Or.inl ⟨s, k, th, gh, ap, q1, ?_, q3, q4, p, q5, q6, q7, q8, q9, q10, fun s2 k2 x y => q11 s2 k2 (up s2 k2 x y) y⟩
          rcases q2 with q2 | q2
          · exact Or.inl (by omega)
          · exact Or.inl (by omega)
        · exact Or.inr ⟨q1, fun s2 k2 x y => q2 s2 k2 (up s2 k2 x y) y⟩
      rw [F_X1_advance_b2, if_neg lx, if_neg l, epw]
      unfold F_X1_advance_b45
      rw [eS2, ex]
      by_cases cK : 2 ^ S ≤ K
      · have l2 : nI (2 ^ S) ≤ nI K := by rw [nI_zI, nI_zI]; simp (disch := omega) only [zl_0, zl_1, zl_2, zl_3, zl_4, zl_5, zl_6, zl_7, zl_8, zl_9, zl_10, zl_11, zl_12, zl_13, zl_14, zl_15, zl_16, zl_17, zl_18, zl_19, zl_20, zl_21, zl_22, zl_23, zl_24, zl_25, zl_26, zl_27, zl_28, zl_29, zl_30, zl_31, zl_32, zl_33, zl_34, zl_35, zl_36, zl_37, zl_38, zl_39, zl_40, zl_41, zl_42, zl_43, zl_44, zl_45, zl_46, zl_47, zl_48, zl_49, zl_50, zl_51, zl_52, zl_53, zl_54, zl_55, zl_56, zl_57, zl_58, zl_59, zl_60, zl_61, zl_62, zl_63, zl_64, zl_65, zl_66, zl_80, zl_97, zl_99, zl_103, zl_107, zl_112, zl_115, zl_100, zl_180, zl_210, zl_238, zl_255, zl_256, zl_400, zl_1000, zl_1024, zl_1260, zl_2000, zl_7140, zl_7200, zl_18414, zl_65536, zl_131072, zl_9999, zl_999, zI_add, zI_sub, zI_mul, zI_neg, zI_lt, zI_le, zI_eq, zI_clamp, ck_z, ckp_z, qb_z, qb_z0, Option.bind_some]; omega
        rw [if_pos l2]
        exact nx (fun k2 x y => by have := y.2.1; omega) _ rfl
      · have l2 : ¬ nI (2 ^ S) ≤ nI K := by rw [nI_zI, nI_zI]; simp (disch := omega) only [zl_0, zl_1, zl_2, zl_3, zl_4, zl_5, zl_6, zl_7, zl_8, zl_9, zl_10, zl_11, zl_12, zl_13, zl_14, zl_15, zl_16, zl_17, zl_18, zl_19, zl_20, zl_21, zl_22, zl_23, zl_24, zl_25, zl_26, zl_27, zl_28, zl_29, zl_30, zl_31, zl_32, zl_33, zl_34, zl_35, zl_36, zl_37, zl_38, zl_39, zl_40, zl_41, zl_42, zl_43, zl_44, zl_45, zl_46, zl_47, zl_48, zl_49, zl_50, zl_51, zl_52, zl_53, zl_54, zl_55, zl_56, zl_57, zl_58, zl_59, zl_60, zl_61, zl_62, zl_63, zl_64, zl_65, zl_66, zl_80, zl_97, zl_99, zl_103, zl_107, zl_112, zl_115, zl_100, zl_180, zl_210, zl_238, zl_255, zl_256, zl_400, zl_1000, zl_1024, zl_1260, zl_2000, zl_7140, zl_7200, zl_18414, zl_65536, zl_131072, zl_9999, zl_999, zI_add, zI_sub, zI_mul, zI_neg, zI_lt, zI_le, zI_eq, zI_clamp, ck_z, ckp_z, qb_z, qb_z0, Option.bind_some]; omega
        rw [if_neg l2, allows_z _ S (by omega) z1 hS, Option.bind_some]
        by_cases cA : alw (bkZ Λ) S = true
        · rw [cA, if_neg (show ¬ qb true = 0 by decide)]
          obtain ⟨j1, j2⟩ := i5 (by omega) (by omega)
          obtain ⟨v, p, se, ne, ah, e1, e2, e3⟩ := layMask_z hB hT t0 t1 (by omega) (by omega) (show K < 2 ^ S by omega) hl0 hl1 hlt seats nexts aheads j1 j2
          rw [e1, Option.bind_some]
          unfold F_X1_advance_b93
          rcases e3 with ⟨rfl, su, pf⟩ | ⟨rfl, fa, pf⟩
          · obtain ⟨p1, p2, p3, p4⟩ := id su
            have l3 : ¬ zI (p : Int) ≤ 0 := by simp (disch := omega) only [zl_0, zl_1, zl_2, zl_3, zl_4, zl_5, zl_6, zl_7, zl_8, zl_9, zl_10, zl_11, zl_12, zl_13, zl_14, zl_15, zl_16, zl_17, zl_18, zl_19, zl_20, zl_21, zl_22, zl_23, zl_24, zl_25, zl_26, zl_27, zl_28, zl_29, zl_30, zl_31, zl_32, zl_33, zl_34, zl_35, zl_36, zl_37, zl_38, zl_39, zl_40, zl_41, zl_42, zl_43, zl_44, zl_45, zl_46, zl_47, zl_48, zl_49, zl_50, zl_51, zl_52, zl_53, zl_54, zl_55, zl_56, zl_57, zl_58, zl_59, zl_60, zl_61, zl_62, zl_63, zl_64, zl_65, zl_66, zl_80, zl_97, zl_99, zl_103, zl_107, zl_112, zl_115, zl_100, zl_180, zl_210, zl_238, zl_255, zl_256, zl_400, zl_1000, zl_1024, zl_1260, zl_2000, zl_7140, zl_7200, zl_18414, zl_65536, zl_131072, zl_9999, zl_999, zI_add, zI_sub, zI_mul, zI_neg, zI_lt, zI_le, zI_eq, zI_clamp, ck_z, ckp_z, qb_z, qb_z0, Option.bind_some]; omega
            have l4 : 0 ≤ zI (p : Int) := by simp (disch := omega) only [zl_0, zl_1, zl_2, zl_3, zl_4, zl_5, zl_6, zl_7, zl_8, zl_9, zl_10, zl_11, zl_12, zl_13, zl_14, zl_15, zl_16, zl_17, zl_18, zl_19, zl_20, zl_21, zl_22, zl_23, zl_24, zl_25, zl_26, zl_27, zl_28, zl_29, zl_30, zl_31, zl_32, zl_33, zl_34, zl_35, zl_36, zl_37, zl_38, zl_39, zl_40, zl_41, zl_42, zl_43, zl_44, zl_45, zl_46, zl_47, zl_48, zl_49, zl_50, zl_51, zl_52, zl_53, zl_54, zl_55, zl_56, zl_57, zl_58, zl_59, zl_60, zl_61, zl_62, zl_63, zl_64, zl_65, zl_66, zl_80, zl_97, zl_99, zl_103, zl_107, zl_112, zl_115, zl_100, zl_180, zl_210, zl_238, zl_255, zl_256, zl_400, zl_1000, zl_1024, zl_1260, zl_2000, zl_7140, zl_7200, zl_18414, zl_65536, zl_131072, zl_9999, zl_999, zI_add, zI_sub, zI_mul, zI_neg, zI_lt, zI_le, zI_eq, zI_clamp, ck_z, ckp_z, qb_z, qb_z0, Option.bind_some]; omega
            have pd : PfA Λ σ τ t S K (p - 1) se ne ah := ⟨pf.1, pf.2.1, fun r r1 r2 => pf.2.2 r r1 (by omega)⟩
            have es : zI (S : Int) - zI (p : Int) = nI (S - p) := by rw [zI_sub, nI_zI]; congr 1; omega
            have clz : (zI (p : Int)).toNatClampNeg = p := by rw [zI_clamp (by omega) (by omega)]; omega
            obtain ⟨d1, d2, d3, d4⟩ := nxt_d S (by omega) K (by omega) p (by omega) p1 p2 e2
            obtain ⟨en, ea⟩ := PfA_n pf
            have cz {α : Type} (o : Option α) : ck (inb (zI (p : Int)) 9) o = o := ck_z (by omega) (by omega) (by omega)
            have eK : nI K + nI (2 ^ (S - p)) = nI (K + 2 ^ (S - p)) := by rw [nI_zI, nI_zI, nI_zI, zI_add]; congr 1
            have hl : ∀ r : Nat, r < p → last = -1 ∨ t + thg K S r ≤ last := fun r r2 => by
              rcases p4 with w | ⟨_, _, w⟩
              · exact Or.inl w.1
              · exact Or.inr (w r r2)
            have et : zI (t + thg K S p) - zI t = zI (thg K S p) := by rw [zI_sub]; congr 1; omega
            refine ⟨S, K + 2 ^ (S - p), se, ne, ah, AdI_nx hS (by omega) p1 p2 e2 pd hl, Or.inl ⟨S, K, zI (thg K S p), zI ((p : Int) - thg K S p), zI (ahc σ t K S p), ?_, Or.inr ⟨rfl, Nat.le_refl _⟩, ⟨hS, by omega, cA, p, su⟩, rfl, p, su, rfl, d1, rfl, rfl, rfl, fun s2 k2 x _ => x⟩⟩
            rw [if_neg l3, if_neg (show ¬ (1 : Int32) = 0 by decide), if_pos l4, cz, cz, clz, es, pow_s (S - p) (by omega), eK]
            show some (true, zI (S : Int), _, se, ne, ah, zI (S : Int), nI K, ne p - zI t, zI (p : Int) - (ne p - zI t), ah p) = _
            rw [en, ea, et, zI_sub]
          · obtain ⟨p1, p2, p3, hl⟩ := id fa
            have l3 : zI (-(p : Int)) ≤ 0 := by simp (disch := omega) only [zl_0, zl_1, zl_2, zl_3, zl_4, zl_5, zl_6, zl_7, zl_8, zl_9, zl_10, zl_11, zl_12, zl_13, zl_14, zl_15, zl_16, zl_17, zl_18, zl_19, zl_20, zl_21, zl_22, zl_23, zl_24, zl_25, zl_26, zl_27, zl_28, zl_29, zl_30, zl_31, zl_32, zl_33, zl_34, zl_35, zl_36, zl_37, zl_38, zl_39, zl_40, zl_41, zl_42, zl_43, zl_44, zl_45, zl_46, zl_47, zl_48, zl_49, zl_50, zl_51, zl_52, zl_53, zl_54, zl_55, zl_56, zl_57, zl_58, zl_59, zl_60, zl_61, zl_62, zl_63, zl_64, zl_65, zl_66, zl_80, zl_97, zl_99, zl_103, zl_107, zl_112, zl_115, zl_100, zl_180, zl_210, zl_238, zl_255, zl_256, zl_400, zl_1000, zl_1024, zl_1260, zl_2000, zl_7140, zl_7200, zl_18414, zl_65536, zl_131072, zl_9999, zl_999, zI_add, zI_sub, zI_mul, zI_neg, zI_lt, zI_le, zI_eq, zI_clamp, ck_z, ckp_z, qb_z, qb_z0, Option.bind_some]; omega
            have l4 : ¬ 0 ≤ zI (-(p : Int)) := by simp (disch := omega) only [zl_0, zl_1, zl_2, zl_3, zl_4, zl_5, zl_6, zl_7, zl_8, zl_9, zl_10, zl_11, zl_12, zl_13, zl_14, zl_15, zl_16, zl_17, zl_18, zl_19, zl_20, zl_21, zl_22, zl_23, zl_24, zl_25, zl_26, zl_27, zl_28, zl_29, zl_30, zl_31, zl_32, zl_33, zl_34, zl_35, zl_36, zl_37, zl_38, zl_39, zl_40, zl_41, zl_42, zl_43, zl_44, zl_45, zl_46, zl_47, zl_48, zl_49, zl_50, zl_51, zl_52, zl_53, zl_54, zl_55, zl_56, zl_57, zl_58, zl_59, zl_60, zl_61, zl_62, zl_63, zl_64, zl_65, zl_66, zl_80, zl_97, zl_99, zl_103, zl_107, zl_112, zl_115, zl_100, zl_180, zl_210, zl_238, zl_255, zl_256, zl_400, zl_1000, zl_1024, zl_1260, zl_2000, zl_7140, zl_7200, zl_18414, zl_65536, zl_131072, zl_9999, zl_999, zI_add, zI_sub, zI_mul, zI_neg, zI_lt, zI_le, zI_eq, zI_clamp, ck_z, ckp_z, qb_z, qb_z0, Option.bind_some]; omega
            have ep : (0 : Int32) - zI (-(p : Int)) = zI (p : Int) := by rw [zl_0, zI_sub]; congr 1; omega
            have es : zI (S : Int) - zI (p : Int) = nI (S - p) := by rw [zI_sub, nI_zI]; congr 1; omega
            obtain ⟨d1, d2, d3, d4⟩ := nxt_d S (by omega) K (by omega) p (by omega) p1 p2 e2
            have eK : nI K + nI (2 ^ (S - p)) = nI (K + 2 ^ (S - p)) := by rw [nI_zI, nI_zI, nI_zI, zI_add]; congr 1
            have up (s2 k2 : Nat) (x : Lex S K s2 k2) (y : Sb Λ σ τ t last s2 k2) : Lex S (K + 2 ^ (S - p)) s2 k2 := by
              rcases x with x | ⟨x1, x2⟩
              · exact Or.inl x
              · subst x1
                by_cases w : K + 2 ^ (S - p) ≤ k2
                · exact Or.inr ⟨rfl, w⟩
                · obtain ⟨_, _, _, p', su⟩ := y
                  exact absurd su (p3 k2 p' (div_rng d4 d1 x2 (by omega)))
            have hn2 : amv S (K + 2 ^ (S - p)) + 1 ≤ amv S K := amv_k hS (by omega) d3
            obtain ⟨S', K', se', ne', ah', r1, r2⟩ := advance_b2_z hB hT t0 t1 hl0 hl1 hlt (n - 1) m S (K + 2 ^ (S - p)) se ne ah (zI S) (nI K) c d e (x + 1) _ (by omega) (by omega) (by omega) rfl (AdI_nx hS (by omega) p1 p2 e2 pf hl)
            refine ⟨S', K', se', ne', ah', r1, ?_⟩
            rw [if_pos l3, if_pos (show (0 : Int32) = 0 from rfl), if_neg l4, ep, es, pow_s (S - p) (by omega), eK, ex]
            rcases r2 with ⟨s, k, th, gh, ap, q1, q2, q3, q4, p', q5, q6, q7, q8, q9, q10, q11⟩ | ⟨q1, q2⟩
            · refine Or.inl ⟨s, k, th, gh, ap, q1, ?_, q3, q4, p', q5, q6, q7, q8, q9, q10, fun s2 k2 x y => q11 s2 k2 (up s2 k2 x y) y⟩
              rcases q2 with q2 | q2
              · exact Or.inl q2
              · exact Or.inr ⟨q2.1, by omega⟩
            · exact Or.inr ⟨q1, fun s2 k2 x y => q2 s2 k2 (up s2 k2 x y) y⟩
        · have cA' : alw (bkZ Λ) S = false := by cases h : alw (bkZ Λ) S; rfl; exact absurd h cA
          rw [cA', if_pos (show qb false = 0 from rfl)]
          exact nx (fun k2 _ y => cA y.2.2.1) _ rfl
end AD

section BE
variable {Λ : Book} {σ τ : Int → Int} {L ld : Int} {counts : Nat → Int64} {bests : NF}
theorem Kn_all (hB : BkW Λ) (hL : Lsp Λ L) (hM : Mem Λ L ld counts bests) (hK0 : 0 < bkH Λ → Kn ld bests (nm Λ L 0 0 0 0)) : ∀ (q : Nat) (t half last : Int), Mt Λ q t half last → t < bkH Λ → q < 8 → Kn ld bests (nm Λ L q t half last)
  | 0, t, half, last, hm, ht, _ => by
    obtain ⟨rfl, rfl, rfl⟩ := hm
    exact hK0 ht
  | q + 1, t', half', last', hm, ht, hq => by
    obtain ⟨t, half, last, x, m, lt, hx, rfl, rfl, rfl⟩ := hm
    have ih := Kn_all hB hL hM hK0 q t half last m lt (by omega)
    obtain ⟨m1, m2, m3, m4, m5, m6, m7, m8⟩ := Mt_b hB q t half last m
    have := (Mem_at hB hL hM (by omega) m1 lt m3 m4 (by omega) m7 ih).2.2.1 x hx ht hq
    exact this
theorem Kn_some (hB : BkW Λ) (hM : Mem Λ L ld counts bests) {q : Nat} {hc t jb : Int} (hq : q < 8) (h0 : 0 ≤ hc) (h1 : hc < 15) (t0 : 0 ≤ t) (t1 : t < 30) (hj : jb = 0 ∨ jb = 1) (hk : Kn ld bests (nr q hc t jb)) : ∃ half last, Mt Λ q t half last ∧ hcf L t half = hc ∧ jbf Λ t last = jb := by
  have nb := nr_b (q := (q : Int)) (by omega) (by omega) h0 h1 t0 t1 hj
  obtain ⟨q', t', half', last', m1, m2, m3, m4, _⟩ := hM.2 _ nb.1 nb.2 hk
  obtain ⟨b1, b2, b3, b4, b5, b6, b7, b8⟩ := Mt_b hB q' t' half' last' m2
  have h30 := hB.2.1
  have hb := hcf_b (L := L) (t := t') (half := half') (by omega) (by omega)
  have jb' := jbf_b (Λ := Λ) t' last'
  have e : ((q : Int) * 15 + hc) * 30 + t = ((q' : Int) * 15 + hcf L t' half') * 30 + t' ∧ jb = jbf Λ t' last' := by
    unfold nr nm at m4
    omega
  have e1 : (q : Int) = q' := by omega
  have e2 : t = t' := by omega
  have e3 : hc = hcf L t' half' := by omega
  have e1' : q = q' := by omega
  subst e1'
  subst e2
  exact ⟨half', last', m2, e3.symm, e.2.symm⟩
theorem RCc_iff (hB : BkW Λ) (hL : Lsp Λ L) (hM : Mem Λ L ld counts bests) (hK0 : 0 < bkH Λ → Kn ld bests (nm Λ L 0 0 0 0)) {t th ah : Int} {s k : Nat} (t0 : 0 ≤ t) (t1 : t < bkH Λ) (hτ : τ t = 2 → τC Λ t ≠ 0) (hA : L < t → ah = -1) : RCc Λ τ ld bests t s k th ah ↔ ∃ (q : Nat) (half last : Int), q < 8 ∧ Mt Λ q t half last ∧ Rch Λ t q th ∧ (ah = -1 ∨ ah = 2 * half) ∧ (last ≠ 0 → ¬ Gh k s ((1 : Nat) : Int) → τ t ≠ 2) := by
  have h30 := hB.2.1
  constructor
  · rintro ⟨q, hq, hr, hc, hc1, ha, hk⟩
    have fin (jb : Int) (hj : jb = 0 ∨ jb = 1) (hkn : Kn ld bests (nr q hc t jb)) (hcl : jb = 0 ∨ ¬ (¬ Gh k s ((1 : Nat) : Int) ∧ τ t = 2)) : ∃ (q : Nat) (half last : Int), q < 8 ∧ Mt Λ q t half last ∧ Rch Λ t q th ∧ (ah = -1 ∨ ah = 2 * half) ∧ (last ≠ 0 → ¬ Gh k s ((1 : Nat) : Int) → τ t ≠ 2) := by
      obtain ⟨half, last, m1, m2, m3⟩ := Kn_some hB hM hq (by omega) (by omega) t0 (by omega) hj hkn
      obtain ⟨b1, b2, b3, b4, b5, b6, b7, b8⟩ := Mt_b hB q t half last m1
      refine ⟨q, half, last, hq, m1, hr, ?_, fun l g z => ?_⟩
      · by_cases c : t ≤ L
        · unfold hcf at m2
          rw [if_pos c] at m2
          omega
        · exact Or.inl (hA (by omega))
      · rcases hcl with e | e
        · subst e
          unfold jbf at m3
          rw [if_pos ⟨l, hτ z⟩] at m3
          omega
        · exact e ⟨g, z⟩
    rcases hk with hk | ⟨hk1, hk2⟩
    · exact fin 0 (Or.inl rfl) hk (Or.inl rfl)
    · exact fin 1 (Or.inr rfl) hk2 (Or.inr hk1)
  · rintro ⟨q, half, last, hq, hm, hr, ha, hc⟩
    obtain ⟨b1, b2, b3, b4, b5, b6, b7, b8⟩ := Mt_b hB q t half last hm
    have hk : Kn ld bests (nr q (hcf L t half) t (jbf Λ t last)) := Kn_all hB hL hM hK0 q t half last hm t1 hq
    have hb := hcf_b (L := L) (t := t) (half := half) (by omega) (by omega)
    refine ⟨q, hq, hr, (hcf L t half).toNat, by omega, ?_, ?_⟩
    · by_cases c : t ≤ L
      · rcases ha with ha | ha
        · exact Or.inl ha
        · right
          have e : hcf L t half = (2 * half - t) / 2 := by unfold hcf; rw [if_pos c]
          omega
      · exact Or.inl (hA (by omega))
    · rw [Int.toNat_of_nonneg hb.1]
      by_cases c : last ≠ 0 ∧ τC Λ t ≠ 0
      · have e : jbf Λ t last = 1 := by unfold jbf; rw [if_pos c]
        rw [e] at hk
        exact Or.inr ⟨fun w => hc c.1 w.1 w.2, hk⟩
      · have e : jbf Λ t last = 0 := by unfold jbf; rw [if_neg c]
        rw [e] at hk
        exact Or.inl hk
theorem ahc_n {t : Int} {s k : Nat} : ∀ p : Nat, (∀ h, t ≤ h → h < t + thg k s p → σ h = -1) → ahc σ t k s p = -1
  | 0, _ => rfl
  | p + 1, h => by
    have tb := thg_b k s p
    by_cases g : Gh k s ((p + 1 : Nat) : Int)
    · have e := thg_g (p := p + 1) (by omega) g
      rw [show p + 1 - 1 = p by omega] at e
      rw [ahc, if_pos g]
      exact ahc_n p (fun x x0 x1 => h x x0 (by omega))
    · have e := thg_t (p := p + 1) (by omega) g
      rw [show p + 1 - 1 = p by omega] at e
      rw [ahc, if_neg g, ahc_n p (fun x x0 x1 => h x x0 (by omega)), h (t + thg k s p) (by omega) (by omega)]
      rfl
theorem Bg_eq (hB : BkW Λ) (hL : Lsp Λ L) (hM : Mem Λ L ld counts bests) (hK0 : 0 < bkH Λ → Kn ld bests (nm Λ L 0 0 0 0)) {N f : Int} (hN : 1 ≤ N) (hNH : N ≤ bkH Λ) (hσ : ∀ h, 0 ≤ h → h < N → σ h = bsp Λ (see Λ (sen N f h) h) h ∧ τ h = bti Λ (see Λ (sen N f h) h) h) (hσL : ∀ h, L < h → 0 ≤ h → h < N → σ h = -1) (hτ : ∀ h, 0 ≤ h → h < N → τ h = 2 → τC Λ h ≠ 0) : BgC Λ σ τ ld bests N ↔ BgA Λ N f := by
  constructor
  · rintro ⟨t, t0, t8, tN, s, k, sb, p, su, rc⟩
    obtain ⟨p1, p2, p3, p4, p5, p6⟩ := Su_o (by omega) su
    have hs := sb.1
    rw [RCc_iff hB hL hM hK0 t0 (by omega) (hτ t t0 (by omega)) (fun w => ahc_n p (fun h h0 h1 => hσL h (by omega) (by omega) (by omega)))] at rc
    obtain ⟨q, half, last, hq, hm, hr, ha, hl⟩ := rc
    obtain ⟨b1, b2, b3, b4, b5, b6, b7, b8⟩ := Mt_b hB q t half last hm
    have hr2 : Rch Λ t q (N - t) := by rw [show N - t = thg k s p by omega]; exact hr
    exact ⟨q, t, half, last, hq, t0, t8, by omega, hm, s, hs, sb.2.2.1, (Op_C hB t0 (by omega) hNH b3 (by omega) (by omega) hσ).mp ⟨k, p, sb.2.1, su, hr2, ha, hl⟩⟩
  · rintro ⟨q, t, half, last, hq, t0, t8, tN, hm, s, hs, hal, op⟩
    obtain ⟨b1, b2, b3, b4, b5, b6, b7, b8⟩ := Mt_b hB q t half last hm
    obtain ⟨k, p, hk, su, hr, ha, hl⟩ := (Op_C hB t0 (by omega) hNH b3 (by omega) (by omega) hσ).mpr op
    obtain ⟨p1, p2, p3, p4, p5, p6⟩ := Su_o (by omega) su
    refine ⟨t, t0, t8, by omega, s, k, ⟨hs, hk, hal, p, su⟩, p, su, ?_⟩
    rw [RCc_iff hB hL hM hK0 t0 (by omega) (hτ t t0 (by omega)) (fun w => ahc_n p (fun h h0 h1 => hσL h (by omega) (by omega) (by omega)))]
    exact ⟨q, half, last, hq, hm, by rw [show thg k s p = N - t by omega]; exact hr, ha, hl⟩
end BE
/-- the tables, with the leaf m judged alone -/
def σ0 (Λ : Book) (m h : Int) : Int := if h = m then bsp Λ 0 h else σC Λ h
def τ0 (Λ : Book) (m h : Int) : Int := if h = m then bti Λ 0 h else τC Λ h
section B0
variable {Λ : Book} {L : Int}
theorem tog_n {a b : Int} (h : tog a b = -1) : a = -1 := by
  unfold tog at h
  by_cases c1 : a = -1
  · exact c1
  · rw [if_neg c1] at h
    by_cases c2 : a = b
    · rw [if_pos c2] at h; omega
    · rw [if_neg c2] at h
      by_cases c3 : b = -1
      · rw [if_pos c3] at h; exact h
      · rw [if_neg c3] at h; omega
theorem see_s (N h : Int) (hh : h < N - 1) (f : Int) : see Λ (sen N f h) h = bkX Λ h := by
  unfold see sen
  rw [if_neg (show ¬ (f = 0 ∧ N - 1 ≤ h) by omega), if_neg (by omega)]
theorem bg_t1 (N : Int) : ∀ h, 0 ≤ h → h < N → σC Λ h = bsp Λ (see Λ (sen N 1 h) h) h ∧ τC Λ h = bti Λ (see Λ (sen N 1 h) h) h := by
  intro h _ _
  rw [sen1, see1]
  exact ⟨rfl, rfl⟩
theorem bg_t0 (N : Int) : ∀ h, 0 ≤ h → h < N → σ0 Λ (N - 1) h = bsp Λ (see Λ (sen N 0 h) h) h ∧ τ0 Λ (N - 1) h = bti Λ (see Λ (sen N 0 h) h) h := by
  intro h h0 h1
  unfold σ0 τ0
  by_cases c : h = N - 1
  · have e : see Λ (sen N 0 h) h = 0 := by
      unfold see sen
      rw [if_pos (show (0 : Int) = 0 ∧ N - 1 ≤ h by omega), if_pos rfl]
    rw [if_pos c, if_pos c, e]
    exact ⟨rfl, rfl⟩
  · rw [if_neg c, if_neg c, see_s N h (by omega) 0]
    exact ⟨rfl, rfl⟩
theorem bsp_0 (h : Int) (e : σC Λ h = -1) : bsp Λ 0 h = -1 := by
  unfold σC bsp at e
  unfold bsp
  rw [if_pos rfl]
  by_cases c : bkX Λ h = 0
  · rw [if_pos c] at e; exact e
  · rw [if_neg c] at e; exact tog_n e
theorem bti_0 (h : Int) (e : bti Λ 0 h = 2) : τC Λ h ≠ 0 := by
  unfold bti at e
  by_cases c1 : h ≤ 0
  · rw [if_pos c1] at e; omega
  · rw [if_neg c1] at e
    by_cases c2 : bkM Λ 4 (h - 1) = 0
    · rw [if_pos c2] at e; omega
    · rw [if_neg c2] at e
      by_cases c3 : bhd Λ 0 h = 0
      · rw [if_pos c3] at e; omega
      · have n3 : bkM Λ 3 h ≠ 0 := by
          unfold bhd at c3
          rw [if_pos rfl] at c3
          exact c3
        have hb : bhd Λ (bkX Λ h) h ≠ 0 := by
          unfold bhd
          by_cases x : bkX Λ h = 0
          · rw [if_pos x]; exact n3
          · rw [if_neg x]
            by_cases y : bkD Λ h ≤ 0
            · rw [if_pos y]; exact n3
            · rw [if_neg y]; omega
        unfold τC bti
        rw [if_neg c1, if_neg c2, if_neg hb]
        split <;> omega
theorem bti_b (x h : Int) : 0 ≤ bti Λ x h ∧ bti Λ x h ≤ 2 := by
  unfold bti
  (repeat' split) <;> omega
theorem Bg_0 {ld : Int} {counts : Nat → Int64} {bests : NF} (hB : BkW Λ) (hL : Lsp Λ L) (hM : Mem Λ L ld counts bests) (hK0 : 0 < bkH Λ → Kn ld bests (nm Λ L 0 0 0 0)) {N : Int} (hN : 1 ≤ N) (hNH : N ≤ bkH Λ) : BgC Λ (σ0 Λ (N - 1)) (τ0 Λ (N - 1)) ld bests N ↔ BgA Λ N 0 := by
  refine Bg_eq hB hL hM hK0 hN hNH (bg_t0 N) (fun h h1 h2 h3 => ?_) (fun h h0 h1 e => ?_)
  · have e := hL.2.2 h h1 h2 (by omega)
    unfold σ0
    by_cases c : h = N - 1
    · rw [if_pos c]; exact bsp_0 h e
    · rw [if_neg c]; exact e
  · unfold τ0 at e
    by_cases c : h = N - 1
    · rw [if_pos c] at e; exact bti_0 h e
    · rw [if_neg c] at e; omega
theorem Bg_1 {ld : Int} {counts : Nat → Int64} {bests : NF} (hB : BkW Λ) (hL : Lsp Λ L) (hM : Mem Λ L ld counts bests) (hK0 : 0 < bkH Λ → Kn ld bests (nm Λ L 0 0 0 0)) {N : Int} (hN : 1 ≤ N) (hNH : N ≤ bkH Λ) : BgC Λ (σC Λ) (τC Λ) ld bests N ↔ BgA Λ N 1 :=
  Bg_eq hB hL hM hK0 hN hNH (bg_t1 N) (fun h h1 h2 h3 => hL.2.2 h h1 h2 (by omega)) (fun h h0 h1 e => by omega)
end B0

def bst (w : Nat) (f : Int) : Int := if 0 < w then f else 1000
theorem bst_b {w : Nat} {f : Int} (h : 0 ≤ f ∧ f ≤ 100) : 0 ≤ bst w f ∧ bst w f ≤ 1000 := by unfold bst; split <;> omega
/-- what is known of the state with the number i -/
def MeE (Λ : Book) (L ld : Int) (counts : Nat → Int64) (bests : NF) (i : Int) : Prop := ∃ (q : Nat) (t half last : Int), q < 8 ∧ Mt Λ q t half last ∧ t < bkH Λ ∧ i = nm Λ L q t half last ∧ counts i.toNat = wI (Wn Λ (8 - q) q t half last) ∧ bests i.toNat = zI (ld * 1024 + bst (Wn Λ (8 - q) q t half last) (Fn Λ (8 - q) q t half last)) ∧ ∀ x, x ∈ lyM Λ q t half last → xt t x < bkH Λ → q + 1 < 8 → Kn ld bests (nm Λ L ((q : Int) + 1) (xt t x) (xh half x) (enl x.2))
def Mem (Λ : Book) (L ld : Int) (counts : Nat → Int64) (bests : NF) : Prop := (∀ i : Int, 0 ≤ i → i < 7200 → ∃ b, bests i.toNat = zI b ∧ 0 ≤ b ∧ b < (ld + 1) * 1024) ∧ ∀ i, 0 ≤ i → i < 7200 → Kn ld bests i → MeE Λ L ld counts bests i
def KnM (ld : Int) (bests bests' : NF) : Prop := ∀ i, 0 ≤ i → i < 7200 → Kn ld bests i → Kn ld bests' i
/-- the class's reckoner is ready for the book -/
def Rky (Λ : Book) (L ld : Int) (letters numbers spots waters sides ties groups gcs : NF) : Prop := BkW Λ ∧ TbC Λ (σC Λ) (τC Λ) numbers spots waters sides ties ∧ Lsp Λ L ∧ (∀ h, 0 ≤ h → h < bkH Λ → letters h.toNat = zI (bkM Λ 0 h)) ∧ (∀ t, 0 ≤ t → t < bkH Λ → GrF Λ t groups gcs) ∧ 0 ≤ ld ∧ ld ≤ 1000000
abbrev Kc : Type := (Nat → Int64) → NF → Int32 → Int32 → Int32 → Int32 → Option (Int64 × (Nat → Int64) × NF)
def CfS (Λ : Book) (L ld : Int) (kc : Kc) (q : Nat) : Prop := ∀ (counts : Nat → Int64) (bests : NF) (t half last : Int), 0 ≤ t → t ≤ bkH Λ → 0 ≤ half → half ≤ 4 * q → 0 ≤ 2 * half - t → 2 * half - t ≤ 4 * q → (last = 0 ∨ last = 1) → (t < bkH Λ → ∃ half0 last0, Mt Λ q t half0 last0 ∧ Eqv Λ L t half last half0 last0) → Mem Λ L ld counts bests → ∃ counts' bests', kc counts bests (zI q) (zI t) (zI (2 * half - t)) (zI last) = some (wI (Wn Λ (8 - q) q t half last), counts', bests') ∧ Mem Λ L ld counts' bests' ∧ KnM ld bests bests' ∧ (t < bkH Λ → q < 8 → Kn ld bests' (nm Λ L q t half last))
theorem KnM_r (ld : Int) (b : NF) : KnM ld b b := fun _ _ _ h => h
theorem KnM_t {ld : Int} {b0 b1 b2 : NF} (h1 : KnM ld b0 b1) (h2 : KnM ld b1 b2) : KnM ld b0 b2 := fun i i0 i1 h => h2 i i0 i1 (h1 i i0 i1 h)
section RK
variable {Λ : Book} {L ld : Int} {letters numbers spots waters sides ties groups gcs : NF}
theorem Mem_at (hB : BkW Λ) (hL : Lsp Λ L) {counts : Nat → Int64} {bests : NF} (hM : Mem Λ L ld counts bests) {q : Nat} {t half last : Int} (hq : q < 8) (t0 : 0 ≤ t) (t1 : t < bkH Λ) (a0 : 0 ≤ half) (a1 : half ≤ 4 * q) (g0 : 0 ≤ 2 * half - t) (g1 : 2 * half - t ≤ 4 * q) (hk : Kn ld bests (nm Λ L q t half last)) : counts (nm Λ L q t half last).toNat = wI (Wn Λ (8 - q) q t half last) ∧ bests (nm Λ L q t half last).toNat = zI (ld * 1024 + bst (Wn Λ (8 - q) q t half last) (Fn Λ (8 - q) q t half last)) ∧ (∀ x, x ∈ lyM Λ q t half last → xt t x < bkH Λ → q + 1 < 8 → Kn ld bests (nm Λ L ((q : Int) + 1) (xt t x) (xh half x) (enl x.2))) ∧ ∃ half0 last0, Mt Λ q t half0 last0 ∧ Eqv Λ L t half last half0 last0 := by
  have h30 := hB.2.1
  have nb := nm_b (Λ := Λ) (L := L) (q := (q : Int)) (t := t) (half := half) (last := last) (by omega) (by omega) t0 (by omega) g0 (by omega)
  obtain ⟨q', t', half', last', m1, m2, m3, m4, m5, m6, m7⟩ := hM.2 _ nb.1 nb.2 hk
  obtain ⟨b1, b2, b3, b4, b5, b6, b7, b8⟩ := Mt_b hB q' t' half' last' m2
  obtain ⟨e1, e2, e3⟩ := nm_inj t0 (by omega) g0 (by omega) b1 (by omega) (by omega) (by omega) m4
  have e1' : q = q' := by omega
  subst e1'
  subst e2
  have ew := Eqv_W hB hL (8 - q) q t half last half' last' t0 (by omega) a0 (by omega) b3 (by omega) (fun _ => e3)
  have el := Eqv_ly hB (q := (q : Int)) hL t0 (by omega) a0 (by omega) b3 (by omega) e3
  rw [ew.1, ew.2]
  refine ⟨m5, m6, fun x hx h1 h2 => ?_, half', last', m2, e3⟩
  rw [nm_eq (Eqv_nx hx e3)]
  rw [el] at hx
  exact m7 x hx h1 h2
theorem least_z (hB : BkW Λ) (hT : TbC Λ (σC Λ) (τC Λ) numbers spots waters sides ties) (hL : Lsp Λ L) (l0 : 0 ≤ ld) (l1 : ld ≤ 1000000) {counts : Nat → Int64} {bests : NF} (hM : Mem Λ L ld counts bests) {q : Nat} {t half last : Int} (hq : q < 8) (t0 : 0 ≤ t) (t1 : t < bkH Λ) (a0 : 0 ≤ half) (a1 : half ≤ 4 * q) (g0 : 0 ≤ 2 * half - t) (g1 : 2 * half - t ≤ 4 * q) (hl : last = 0 ∨ last = 1) (hk : Kn ld bests (nm Λ L q t half last)) : F_X4_leastFrom (zI (bkH Λ)) ties (zI L) (zI ld) bests (zI q) (zI t) (zI (2 * half - t)) (zI last) = some (zI (bst (Wn Λ (8 - q) q t half last) (Fn Λ (8 - q) q t half last))) := by
  have h30 := hB.2.1
  have nb := nm_b (Λ := Λ) (L := L) (q := (q : Int)) (t := t) (half := half) (last := last) (by omega) (by omega) t0 (by omega) g0 (by omega)
  obtain ⟨_, e2, _, _⟩ := Mem_at hB hL hM hq t0 t1 a0 a1 g0 g1 hk
  have bb := bst_b (w := Wn Λ (8 - q) q t half last) (Fn_b Λ (8 - q) q t half last)
  have l : zI t < zI (bkH Λ) := by simp (disch := omega) only [zl_0, zl_1, zl_2, zl_3, zl_4, zl_5, zl_6, zl_7, zl_8, zl_9, zl_10, zl_11, zl_12, zl_13, zl_14, zl_15, zl_16, zl_17, zl_18, zl_19, zl_20, zl_21, zl_22, zl_23, zl_24, zl_25, zl_26, zl_27, zl_28, zl_29, zl_30, zl_31, zl_32, zl_33, zl_34, zl_35, zl_36, zl_37, zl_38, zl_39, zl_40, zl_41, zl_42, zl_43, zl_44, zl_45, zl_46, zl_47, zl_48, zl_49, zl_50, zl_51, zl_52, zl_53, zl_54, zl_55, zl_56, zl_57, zl_58, zl_59, zl_60, zl_61, zl_62, zl_63, zl_64, zl_65, zl_66, zl_80, zl_97, zl_99, zl_103, zl_107, zl_112, zl_115, zl_100, zl_180, zl_210, zl_238, zl_255, zl_256, zl_400, zl_1000, zl_1024, zl_1260, zl_2000, zl_7140, zl_7200, zl_18414, zl_65536, zl_131072, zl_9999, zl_999, zI_add, zI_sub, zI_mul, zI_neg, zI_lt, zI_le, zI_eq, zI_clamp, ck_z, ckp_z, qb_z, qb_z0, Option.bind_some]; exact t1
  unfold F_X4_leastFrom
  rw [if_pos l, sttOf_z hB hT hL (by omega) (by omega) t0 t1 g0 (by omega) hl, Option.bind_some, isKnown_z ld bests _ nb.1 nb.2, Option.bind_some, bq_t hk, if_neg (show ¬ qb true = 0 by decide), ck_z nb.1 nb.2 (by omega), zI_clamp (by omega) (by omega), e2, show (1024 : Int32) = zI 1024 from rfl, remz (by omega) (by omega) (by omega) (by omega)]
  congr 2
  omega
theorem i64_n : ∀ n, n < 256 → (nI n).toInt64 = wI n := by decide +kernel
/-- the next state behind a group -/
def nt (t : Int) (p : Nat) : Int := t + (sth p : Nat)
def nh (half : Int) (p : Nat) : Int := half + ((sth p + slo p) / 2 : Nat)
def nl (p : Nat) : Int := (p % 2 : Nat)
def cnd (Λ : Book) (q t half last : Int) (p a : Nat) : Prop := (last ≠ 0 ∧ τC Λ t = 2 → p / 2 % 2 = 0) ∧ Rch Λ t q (sth p : Nat) ∧ (a = 0 ∨ (a : Int) - 1 = 2 * half)
theorem cnC {q t half last : Int} {x : Nat × Nat} (t0 : 0 ≤ t) (t1 : t < bkH Λ) (hx : x ∈ lyC Λ t) : cnd Λ q t half last (srt Λ t x) (acd Λ t x) ↔ Cn Λ q t half last x := by
  obtain ⟨k1, k2, k3, k4, k5⟩ := srt_k t0 (by omega) hx
  have xb := xa_b hx
  have i1 : (acd Λ t x = 0 ∨ (acd Λ t x : Int) - 1 = 2 * half) ↔ (xa Λ t x = -1 ∨ xa Λ t x = 2 * half) := by
    unfold acd
    omega
  have i2 : (last ≠ 0 ∧ τC Λ t = 2 → srt Λ t x / 2 % 2 = 0) ↔ (last ≠ 0 → ¬ Gh x.2 x.1 ((1 : Nat) : Int) → τC Λ t ≠ 2) := by
    rw [k4]
    unfold srs
    by_cases c : ¬ Gh x.2 x.1 ((1 : Nat) : Int) ∧ t < bkH Λ ∧ τC Λ t = 2
    · rw [if_pos c]
      exact ⟨fun w l _ z => by have := w ⟨l, z⟩; omega, fun w z => absurd z.2 (w z.1 c.1)⟩
    · rw [if_neg c]
      exact ⟨fun w l g z => c ⟨g, t1, z⟩, fun _ _ => rfl⟩
  unfold cnd Cn
  rw [i1, i2, k3]
  exact ⟨fun ⟨a, b, c⟩ => ⟨c, b, a⟩, fun ⟨a, b, c⟩ => ⟨c, b, a⟩⟩
theorem Gh_s (k s : Nat) : ¬ Gh k s (s : Int) ↔ enl k ≠ 0 := by
  have e : Gh k s (s : Int) ↔ k % 2 = 1 := by
    show k / 2 ^ (s - ((s : Nat) : Int).toNat) % 2 = 1 ↔ _
    rw [Int.toNat_natCast, Nat.sub_self, Nat.pow_zero, Nat.div_one]
  rw [e]
  unfold enl
  by_cases c : k % 2 = 1
  · rw [if_pos c]; exact ⟨fun x => absurd c x, fun x => absurd rfl x⟩
  · rw [if_neg c]; exact ⟨fun _ => by omega, fun _ => c⟩
theorem nxC {t half : Int} {x : Nat × Nat} (t0 : 0 ≤ t) (t1 : t < bkH Λ) (hx : x ∈ lyC Λ t) : nt t (srt Λ t x) = xt t x ∧ nh half (srt Λ t x) = xh half x ∧ ((slo (srt Λ t x) : Nat) : Int) = xg x ∧ (xt t x < bkH Λ → ((nl (srt Λ t x) ≠ 0 ∧ τC Λ (xt t x) ≠ 0) ↔ (enl x.2 ≠ 0 ∧ τC Λ (xt t x) ≠ 0))) := by
  obtain ⟨k1, k2, k3, k4, k5⟩ := srt_k t0 (by omega) hx
  obtain ⟨a, b, c, d, e, f, _, _⟩ := lyC_b t0 (by omega) hx
  have ex : xg x = (x.1 : Int) - thg x.2 x.1 x.1 := rfl
  refine ⟨?_, ?_, k2, fun h => ?_⟩
  · unfold nt xt
    rw [k3]
  · unfold nh xh
    have : (sth (srt Λ t x) + slo (srt Λ t x)) / 2 = x.1 / 2 := by omega
    rw [this]
  · unfold nl
    rw [k5]
    unfold sre
    rw [← Gh_s x.2 x.1]
    by_cases z : ¬ Gh x.2 x.1 (x.1 : Int) ∧ xt t x < bkH Λ ∧ τC Λ (xt t x) ≠ 0
    · rw [if_pos z]
      exact ⟨fun _ => ⟨z.1, z.2.2⟩, fun _ => ⟨by omega, z.2.2⟩⟩
    · rw [if_neg z]
      exact ⟨fun w => absurd rfl w.1, fun w => absurd ⟨w.1, h, w.2⟩ z⟩
noncomputable def wf (Λ : Book) (q : Nat) (t half : Int) (p : Nat) : Nat := Wn Λ (8 - (q + 1)) ((q + 1 : Nat) : Int) (nt t p) (nh half p) (nl p)
noncomputable def ff (Λ : Book) (q : Nat) (t half : Int) (p : Nat) : Int := Fn Λ (8 - (q + 1)) ((q + 1 : Nat) : Int) (nt t p) (nh half p) (nl p)
noncomputable def gf (Λ : Book) (q : Nat) (t half last : Int) (p a : Nat) : Nat := if bq (cnd Λ q t half last p a) = true then wf Λ q t half p else 0
noncomputable def bsG (Λ : Book) (q : Nat) (t half last : Int) (γ : Nat → Nat × Nat × Nat) : Nat → Int
  | 0 => 1000
  | i + 1 => if 0 < gf Λ q t half last (γ i).1 (γ i).2.1 ∧ (slo (γ i).1 : Nat) + ff Λ q t half (γ i).1 < bsG Λ q t half last γ i then (slo (γ i).1 : Nat) + ff Λ q t half (γ i).1 else bsG Λ q t half last γ i
theorem bsG_b (q : Nat) (t half last : Int) (γ : Nat → Nat × Nat × Nat) : ∀ i : Nat, 0 ≤ bsG Λ q t half last γ i ∧ bsG Λ q t half last γ i ≤ 1000
  | 0 => by unfold bsG; omega
  | i + 1 => by
    have ih := bsG_b q t half last γ i
    have fb := (Fn_b Λ (8 - (q + 1)) ((q + 1 : Nat) : Int) (nt t (γ i).1) (nh half (γ i).1) (nl (γ i).1)).1
    have fb' : 0 ≤ ff Λ q t half (γ i).1 := fb
    unfold bsG
    split <;> omega
theorem nxW (hB : BkW Λ) (hL : Lsp Λ L) {q : Nat} {t half last : Int} {x : Nat × Nat} (hq : q < 8) (t0 : 0 ≤ t) (t1 : t < bkH Λ) (a0 : 0 ≤ half) (a1 : half ≤ 4 * q) (hx : x ∈ lyM Λ q t half last) (hC : x ∈ lyC Λ t) : wf Λ q t half (srt Λ t x) = Wn Λ (8 - (q + 1)) ((q : Int) + 1) (xt t x) (xh half x) (enl x.2) ∧ ff Λ q t half (srt Λ t x) = Fn Λ (8 - (q + 1)) ((q : Int) + 1) (xt t x) (xh half x) (enl x.2) := by
  obtain ⟨n1, n2, n3, n4⟩ := nxC (half := half) t0 t1 hC
  have b := xt_b hx
  have e := Eqv_W hB hL (8 - (q + 1)) ((q + 1 : Nat) : Int) (xt t x) (xh half x) (nl (srt Λ t x)) (xh half x) (enl x.2) (by omega) b.2.1 (by omega) (by omega) (by omega) (by omega) (fun h => ⟨fun _ => rfl, n4 h⟩)
  unfold wf ff
  rw [n1, n2, e.1, e.2]
  exact ⟨rfl, rfl⟩
end RK

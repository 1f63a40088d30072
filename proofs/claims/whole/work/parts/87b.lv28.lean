/-- the groups of the leaf t tell all its lays -/
def GrF (Λ : Book) (t : Int) (groups gcs : NF) : Prop := ∃ (N : Nat) (γ : Nat → Nat × Nat × Nat), N ≤ 238 ∧ GrI groups gcs t N γ ∧ ∀ f : Nat → Nat → Nat, smG γ (fun g => g.2.2 * f g.1 g.2.1) N = ((lyC Λ t).map (fun x => f (srt Λ t x) (acd Λ t x))).sum
section GM
variable {Λ : Book} {numbers spots waters sides ties : NF}
theorem gl_b68 {t : Int} (t0 : 0 ≤ t) (t1 : t < 30) {tally : NF} {tl : Nat → Nat} (hT : ∀ p, p < 80 → tally p = nI (tl p) ∧ (1 ≤ tl p → sok p)) (y1 y2 y3 y4 : Int32) (y5 y6 y7 : NF) (y8 y9 y10 y11 y12 : Int32) (Sm : (Nat → Nat → Nat) → Nat) (hS : Sm (fun _ _ => 1) ≤ 238) : ∀ (d m p : Nat) (groups gcs : NF) (N : Nat) (γ : Nat → Nat × Nat × Nat), p + d = 80 → d < m → GrI groups gcs t N γ → (∀ f, smG γ (fun g => g.2.2 * f g.1 g.2.1) N + smF tl (fun p => f p 0) d p = Sm f) → ∃ groups' gcs', F_X4_groupLays_b68 m y1 y2 y3 y4 y5 y6 y7 y8 y9 y10 y11 y12 groups gcs tally (zI t) (nI p) = some (y1, y2, y3, y4, y5, y6, y7, y8, y9, y10, y11, y12, groups', gcs', tally) ∧ (∃ N' γ', N' ≤ 238 ∧ GrI groups' gcs' t N' γ' ∧ ∀ f, smG γ' (fun g => g.2.2 * f g.1 g.2.1) N' = Sm f) ∧ GrK t groups gcs groups' gcs'
  | 0, m + 1, p, groups, gcs, N, γ, hp, _, hI, hf => by
    have l : 80 ≤ nI p := by rw [nI_zI, show (80 : Int32) = zI 80 from rfl]; simp (disch := omega) only [zl_0, zl_1, zl_2, zl_3, zl_4, zl_5, zl_6, zl_7, zl_8, zl_9, zl_10, zl_11, zl_12, zl_13, zl_14, zl_15, zl_16, zl_17, zl_18, zl_19, zl_20, zl_21, zl_22, zl_23, zl_24, zl_25, zl_26, zl_27, zl_28, zl_29, zl_30, zl_31, zl_32, zl_33, zl_34, zl_35, zl_36, zl_37, zl_38, zl_39, zl_40, zl_41, zl_42, zl_43, zl_44, zl_45, zl_46, zl_47, zl_48, zl_49, zl_50, zl_51, zl_52, zl_53, zl_54, zl_55, zl_56, zl_57, zl_58, zl_59, zl_60, zl_61, zl_62, zl_63, zl_64, zl_65, zl_66, zl_80, zl_97, zl_99, zl_103, zl_107, zl_112, zl_115, zl_100, zl_180, zl_210, zl_238, zl_255, zl_256, zl_400, zl_1000, zl_1024, zl_1260, zl_2000, zl_7140, zl_7200, zl_18414, zl_65536, zl_131072, zl_9999, zl_999, zI_add, zI_sub, zI_mul, zI_neg, zI_lt, zI_le, zI_eq, zI_clamp, ck_z, ckp_z, qb_z, qb_z0, Option.bind_some]; omega
    have h1 := hf (fun _ _ => 1)
    have hn := smG_n (γ := γ) (F := fun g => g.2.2 * 1) N (fun i hi => by have := (hI.2 i hi).2.2.2.1; omega)
    rw [F_X4_groupLays_b68, if_pos l]
    refine ⟨groups, gcs, rfl, ⟨N, γ, by omega, hI, fun f => ?_⟩, GrK_r _ _ _⟩
    have := hf f
    unfold smF at this
    omega
  | d + 1, m + 1, p, groups, gcs, N, γ, hp, hm, hI, hf => by
    have l : ¬ 80 ≤ nI p := by rw [nI_zI, show (80 : Int32) = zI 80 from rfl]; simp (disch := omega) only [zl_0, zl_1, zl_2, zl_3, zl_4, zl_5, zl_6, zl_7, zl_8, zl_9, zl_10, zl_11, zl_12, zl_13, zl_14, zl_15, zl_16, zl_17, zl_18, zl_19, zl_20, zl_21, zl_22, zl_23, zl_24, zl_25, zl_26, zl_27, zl_28, zl_29, zl_30, zl_31, zl_32, zl_33, zl_34, zl_35, zl_36, zl_37, zl_38, zl_39, zl_40, zl_41, zl_42, zl_43, zl_44, zl_45, zl_46, zl_47, zl_48, zl_49, zl_50, zl_51, zl_52, zl_53, zl_54, zl_55, zl_56, zl_57, zl_58, zl_59, zl_60, zl_61, zl_62, zl_63, zl_64, zl_65, zl_66, zl_80, zl_97, zl_99, zl_103, zl_107, zl_112, zl_115, zl_100, zl_180, zl_210, zl_238, zl_255, zl_256, zl_400, zl_1000, zl_1024, zl_1260, zl_2000, zl_7140, zl_7200, zl_18414, zl_65536, zl_131072, zl_9999, zl_999, zI_add, zI_sub, zI_mul, zI_neg, zI_lt, zI_le, zI_eq, zI_clamp, ck_z, ckp_z, qb_z, qb_z0, Option.bind_some]; omega
    have cz {α : Type} (o : Option α) : ck (inb (nI p) 80) o = o := by rw [nI_zI]; exact ck_z (by omega) (by omega) (by omega)
    have clz : (nI p).toNatClampNeg = p := by rw [nI_zI, zI_clamp (by omega) (by omega)]; omega
    have ek : nI p + 1 = nI (p + 1) := by rw [nI_zI, nI_zI, zl_1, zI_add]; congr 1
    have h1 := hf (fun _ _ => 1)
    have hge := smF_ge (tl := tl) (f := fun _ => 1) (a := p) (d + 1) p (Nat.le_refl _) (by omega)
    have hn := smG_n (γ := γ) (F := fun g => g.2.2 * 1) N (fun i hi => by have := (hI.2 i hi).2.2.2.1; omega)
    obtain ⟨e1, e2⟩ := hT p (by omega)
    rw [F_X4_groupLays_b68, if_neg l, cz, clz, e1, ek]
    by_cases c : tl p = 0
    · have l2 : nI (tl p) ≤ 0 := by rw [c]; decide
      rw [if_pos l2]
      refine gl_b68 t0 t1 hT y1 y2 y3 y4 y5 y6 y7 y8 y9 y10 y11 y12 Sm hS d m (p + 1) groups gcs N γ (by omega) (by omega) hI (fun f => ?_)
      have := hf f
      unfold smF at this
      rw [c, Nat.zero_mul] at this
      omega
    · have l2 : ¬ nI (tl p) ≤ 0 := by rw [nI_zI]; simp (disch := omega) only [zl_0, zl_1, zl_2, zl_3, zl_4, zl_5, zl_6, zl_7, zl_8, zl_9, zl_10, zl_11, zl_12, zl_13, zl_14, zl_15, zl_16, zl_17, zl_18, zl_19, zl_20, zl_21, zl_22, zl_23, zl_24, zl_25, zl_26, zl_27, zl_28, zl_29, zl_30, zl_31, zl_32, zl_33, zl_34, zl_35, zl_36, zl_37, zl_38, zl_39, zl_40, zl_41, zl_42, zl_43, zl_44, zl_45, zl_46, zl_47, zl_48, zl_49, zl_50, zl_51, zl_52, zl_53, zl_54, zl_55, zl_56, zl_57, zl_58, zl_59, zl_60, zl_61, zl_62, zl_63, zl_64, zl_65, zl_66, zl_80, zl_97, zl_99, zl_103, zl_107, zl_112, zl_115, zl_100, zl_180, zl_210, zl_238, zl_255, zl_256, zl_400, zl_1000, zl_1024, zl_1260, zl_2000, zl_7140, zl_7200, zl_18414, zl_65536, zl_131072, zl_9999, zl_999, zI_add, zI_sub, zI_mul, zI_neg, zI_lt, zI_le, zI_eq, zI_clamp, ck_z, ckp_z, qb_z, qb_z0, Option.bind_some]; omega
      obtain ⟨groups', gcs', r1, r2, r3⟩ := GrI_add (p := p) (n := tl p) (ah := -1) t0 t1 hI (by omega) (e2 (by omega)) (by omega) (by omega) (by omega) (by omega)
      have r1' : F_X4_addGroup groups gcs (zI t) (nI p) (-1) (nI (tl p)) = some (groups', gcs') := r1
      rw [if_neg l2, cz, r1', Option.bind_some]
      obtain ⟨groups2, gcs2, s1, s2, s3⟩ := gl_b68 t0 t1 hT y1 y2 y3 y4 y5 y6 y7 y8 y9 y10 y11 y12 Sm hS d m (p + 1) groups' gcs' (N + 1) _ (by omega) (by omega) r2 (fun f => by
        have := hf f
        unfold smF at this
        rw [smG_up]
        show smG γ (fun g => g.2.2 * f g.1 g.2.1) N + tl p * f p 0 + _ = _
        omega)
      exact ⟨groups2, gcs2, s1, s2, GrK_t r3 s3⟩
abbrev RGl : Type := Option (Int32 × Int32 × Int32 × Int32 × NF × NF × NF × Int32 × Int32 × Int32 × Int32 × Int32 × NF × NF × NF)
theorem gl_b38 (hB : BkW Λ) (hT : TbC Λ (σC Λ) (τC Λ) numbers spots waters sides ties) {t : Int} (t0 : 0 ≤ t) (t1 : t < bkH Λ) : ∀ (rest : List (Nat × Nat)) (m i S K : Nat) (seats nexts aheads : NF) (a b c d e : Int32) (groups gcs tally : NF) (l : List (Nat × Nat)), rst (gdC Λ (σC Λ) (τC Λ) t) S K = rest → rest.length < m → l.length = i → l ++ rest = lyC Λ t → AdI Λ (σC Λ) (τC Λ) t (-1) S K seats nexts aheads → GrT Λ t groups gcs tally l → ∃ (y3 y4 : Int32) (y5 y6 y7 : NF) (y8 y9 y10 y11 y12 : Int32) (groups' gcs' tally' : NF), F_X4_groupLays_b38 (zI (bkH Λ)) numbers spots waters sides ties (zI (bkZ Λ)) (zI (bkG Λ)) m (zI t) (-1) (zI S) (nI K) seats nexts aheads a b c d e groups gcs tally (zI t) (zI i) = F_X4_groupLays_b68 FU (zI t) (-1) y3 y4 y5 y6 y7 y8 y9 y10 y11 y12 groups' gcs' tally' (zI t) 0 ∧ GrT Λ t groups' gcs' tally' (lyC Λ t) ∧ GrK t groups gcs groups' gcs'
  | rest, m + 1, i, S, K, seats, nexts, aheads, a, b, c, d, e, groups, gcs, tally, l, hr, hm, hi, hl, hI, hG => by
    have len : l.length + rest.length ≤ 238 := by
      have := lyC_len Λ t
      rw [← hl, List.length_append] at this
      exact this
    by_cases c8 : i = 238
    · have er : rest = [] := by
        have : rest.length = 0 := by omega
        exact List.length_eq_zero_iff.mp this
      have l8 : 238 ≤ zI (i : Int) := by rw [c8]; decide
      rw [F_X4_groupLays_b38, if_pos l8]
      rw [er, List.append_nil] at hl
      rw [hl] at hG
      exact ⟨_, _, _, _, _, _, _, _, _, _, _, _, _, rfl, hG, GrK_r _ _ _⟩
    · have l8 : ¬ 238 ≤ zI (i : Int) := by rw [show (238 : Int32) = zI 238 from rfl]; simp (disch := omega) only [zl_0, zl_1, zl_2, zl_3, zl_4, zl_5, zl_6, zl_7, zl_8, zl_9, zl_10, zl_11, zl_12, zl_13, zl_14, zl_15, zl_16, zl_17, zl_18, zl_19, zl_20, zl_21, zl_22, zl_23, zl_24, zl_25, zl_26, zl_27, zl_28, zl_29, zl_30, zl_31, zl_32, zl_33, zl_34, zl_35, zl_36, zl_37, zl_38, zl_39, zl_40, zl_41, zl_42, zl_43, zl_44, zl_45, zl_46, zl_47, zl_48, zl_49, zl_50, zl_51, zl_52, zl_53, zl_54, zl_55, zl_56, zl_57, zl_58, zl_59, zl_60, zl_61, zl_62, zl_63, zl_64, zl_65, zl_66, zl_80, zl_97, zl_99, zl_103, zl_107, zl_112, zl_115, zl_100, zl_180, zl_210, zl_238, zl_255, zl_256, zl_400, zl_1000, zl_1024, zl_1260, zl_2000, zl_7140, zl_7200, zl_18414, zl_65536, zl_131072, zl_9999, zl_999, zI_add, zI_sub, zI_mul, zI_neg, zI_lt, zI_le, zI_eq, zI_clamp, ck_z, ckp_z, qb_z, qb_z0, Option.bind_some]; omega
      rw [F_X4_groupLays_b38, if_neg l8]
      have h30 := hB.2.1
      rcases advance_z hB hT t0 (by omega) S K seats nexts aheads a b c d e hI with ⟨s, k, se, ne, ah, r1, r2, r3, r4⟩ | ⟨r1, S', K', se, ne, ah, a', b', c', d', e', r2⟩
      · rw [r2, Option.bind_some, if_neg (show ¬ qb true = 0 by decide)]
        have hx : (s, k) ∈ lyC Λ t := lyC_mem.mpr r4
        obtain ⟨groups', gcs', tally', q1, q2, q3⟩ := addLay_z hB hT t0 t1 hx hG (by omega)
        have ei : zI (i : Int) + 1 = zI ((i + 1 : Nat) : Int) := by rw [zl_1, zI_add]; congr 1
        rw [hr] at r1
        have hlen : rest.length = (rst (gdC Λ (σC Λ) (τC Λ) t) s (k + 1)).length + 1 := by rw [r1, List.length_cons]
        obtain ⟨y3, y4, y5, y6, y7, y8, y9, y10, y11, y12, g2, c2, ta2, s1, s2, s3⟩ := gl_b38 hB hT t0 t1 (rst (gdC Λ (σC Λ) (τC Λ) t) s (k + 1)) m (i + 1) s (k + 1) se ne ah (zI s) (nI k) (zI (thg k s s)) (zI ((s : Int) - thg k s s)) (zI (ahc (σC Λ) t k s s)) groups' gcs' tally' (l ++ [(s, k)]) rfl (by omega) (by rw [List.length_append]; show l.length + 1 = i + 1; omega) (by rw [List.append_assoc, List.singleton_append, ← r1]; exact hl) r3 q2
        refine ⟨y3, y4, y5, y6, y7, y8, y9, y10, y11, y12, g2, c2, ta2, ?_, s2, GrK_t q3 s3⟩
        rw [← s1]
        show (F_X4_addLay (zI (bkH Λ)) ties (zI s) (nI k) (zI (thg k s s)) (zI ((s : Int) - thg k s s)) (zI (ahc (σC Λ) t k s s)) groups gcs tally (zI t)).bind _ = _
        have q1' : F_X4_addLay (zI (bkH Λ)) ties (zI s) (nI k) (zI (thg k s s)) (zI ((s : Int) - thg k s s)) (zI (ahc (σC Λ) t k s s)) groups gcs tally (zI t) = some (groups', gcs', tally') := q1
        rw [q1', Option.bind_some, ei]
      · rw [r2, Option.bind_some, if_pos (show qb false = 0 from rfl)]
        rw [hr] at r1
        rw [r1, List.append_nil] at hl
        rw [hl] at hG
        exact ⟨_, _, _, _, _, _, _, _, _, _, _, _, _, rfl, hG, GrK_r _ _ _⟩
theorem beginWhole_z (a b c d x : Int32) (nx ah : NF) : F_X1_beginWhole a b c d nx ah x = some (x, -1, 2, 0, upd nx 0 x, upd ah 0 (-1)) := rfl
theorem gl_b9 (y1 y2 y3 y4 : Int32) (y5 y6 y7 : NF) (y8 y9 y10 y11 y12 : Int32) (H Z G x1 : Int32) : ∀ (d m p : Nat) (groups gcs tally : NF), p + d = 80 → d < m → (∀ r, r < p → tally r = nI 0) → ∃ tally', F_X4_groupLays_b9 H numbers spots waters sides ties Z G m y1 y2 y3 y4 y5 y6 y7 y8 y9 y10 y11 y12 groups gcs tally x1 (nI p) = F_X4_groupLays_b38 H numbers spots waters sides ties Z G FU x1 (-1) 2 0 y5 (upd y6 0 x1) (upd y7 0 (-1)) y8 y9 y10 y11 y12 groups gcs tally' x1 0 ∧ ∀ r, r < 80 → tally' r = nI 0
  | 0, m + 1, p, groups, gcs, tally, hp, _, hI => by
    have e : p = 80 := by omega
    subst e
    have l : 80 ≤ nI 80 := by decide
    rw [F_X4_groupLays_b9, if_pos l]
    rw [beginWhole_z, Option.bind_some]
    exact ⟨tally, rfl, hI⟩
  | d + 1, m + 1, p, groups, gcs, tally, hp, hm, hI => by
    have l : ¬ 80 ≤ nI p := by rw [nI_zI, show (80 : Int32) = zI 80 from rfl]; simp (disch := omega) only [zl_0, zl_1, zl_2, zl_3, zl_4, zl_5, zl_6, zl_7, zl_8, zl_9, zl_10, zl_11, zl_12, zl_13, zl_14, zl_15, zl_16, zl_17, zl_18, zl_19, zl_20, zl_21, zl_22, zl_23, zl_24, zl_25, zl_26, zl_27, zl_28, zl_29, zl_30, zl_31, zl_32, zl_33, zl_34, zl_35, zl_36, zl_37, zl_38, zl_39, zl_40, zl_41, zl_42, zl_43, zl_44, zl_45, zl_46, zl_47, zl_48, zl_49, zl_50, zl_51, zl_52, zl_53, zl_54, zl_55, zl_56, zl_57, zl_58, zl_59, zl_60, zl_61, zl_62, zl_63, zl_64, zl_65, zl_66, zl_80, zl_97, zl_99, zl_103, zl_107, zl_112, zl_115, zl_100, zl_180, zl_210, zl_238, zl_255, zl_256, zl_400, zl_1000, zl_1024, zl_1260, zl_2000, zl_7140, zl_7200, zl_18414, zl_65536, zl_131072, zl_9999, zl_999, zI_add, zI_sub, zI_mul, zI_neg, zI_lt, zI_le, zI_eq, zI_clamp, ck_z, ckp_z, qb_z, qb_z0, Option.bind_some]; omega
    have cz {α : Type} (o : Option α) : ck (inb (nI p) 80) o = o := by rw [nI_zI]; exact ck_z (by omega) (by omega) (by omega)
    have clz : (nI p).toNatClampNeg = p := by rw [nI_zI, zI_clamp (by omega) (by omega)]; omega
    have ek : nI p + 1 = nI (p + 1) := by rw [nI_zI, nI_zI, zl_1, zI_add]; congr 1
    rw [F_X4_groupLays_b9, if_neg l, cz, clz, ek]
    refine gl_b9 y1 y2 y3 y4 y5 y6 y7 y8 y9 y10 y11 y12 H Z G x1 d m (p + 1) groups gcs _ (by omega) (by omega) (fun r hr => ?_)
    by_cases e : r = p
    · subst e; rw [upd_at]; rfl
    · rw [upd_ne _ _ e]; exact hI r (by omega)
theorem groupLays_z (hB : BkW Λ) (hT : TbC Λ (σC Λ) (τC Λ) numbers spots waters sides ties) {t : Int} (t0 : 0 ≤ t) (t1 : t < bkH Λ) (y1 y2 y3 y4 : Int32) (y5 y6 y7 : NF) (y8 y9 y10 y11 y12 : Int32) (groups gcs tally : NF) : ∃ (z1 z2 z3 z4 : Int32) (z5 z6 z7 : NF) (z8 z9 z10 z11 z12 : Int32) (groups' gcs' tally' : NF), F_X4_groupLays (zI (bkH Λ)) numbers spots waters sides ties (zI (bkZ Λ)) (zI (bkG Λ)) y1 y2 y3 y4 y5 y6 y7 y8 y9 y10 y11 y12 groups gcs tally (zI t) = some (z1, z2, z3, z4, z5, z6, z7, z8, z9, z10, z11, z12, groups', gcs', tally') ∧ GrF Λ t groups' gcs' ∧ GrK t groups gcs groups' gcs' := by
  have h30 := hB.2.1
  obtain ⟨tally1, e1, h1⟩ := gl_b9 (numbers := numbers) (spots := spots) (waters := waters) (sides := sides) (ties := ties) y1 y2 y3 y4 y5 y6 y7 y8 y9 y10 y11 y12 (zI (bkH Λ)) (zI (bkZ Λ)) (zI (bkG Λ)) (zI t) 80 FU 0 groups (upd gcs t.toNat 0) tally (by omega) (by unfold FU; omega) (fun r hr => by omega)
  have gk0 : GrK t groups gcs groups (upd gcs t.toNat 0) := ⟨fun _ _ => rfl, fun m hm => upd_ne _ _ hm⟩
  have g0 : GrT Λ t groups (upd gcs t.toNat 0) tally1 [] := by
    refine ⟨0, fun _ => (0, 0, 0), fun _ => 0, ⟨upd_at _ _ _, fun i hi => by omega⟩, fun p hp => ⟨h1 p hp, fun x => absurd x (show ¬ 1 ≤ 0 by omega)⟩, fun f => ?_⟩
    have : ∀ (d p : Nat) (f : Nat → Nat), smF (fun _ => 0) f d p = 0 := by
      intro d
      induction d with
      | zero => intro p f; rfl
      | succ d ih => intro p f; unfold smF; rw [ih, Nat.zero_mul]
    rw [this]
    rfl
  obtain ⟨z3, z4, z5, z6, z7, z8, z9, z10, z11, z12, g2, c2, ta2, q1, q2, q3⟩ := gl_b38 hB hT t0 t1 (lyC Λ t) FU 0 2 0 y5 (upd y6 0 (zI t)) (upd y7 0 (-1)) y8 y9 y10 y11 y12 groups (upd gcs t.toNat 0) tally1 [] rfl (by have := lyC_len Λ t; unfold FU; omega) rfl rfl (AdI_0 (Or.inl rfl) (upd_at _ _ _) (upd_at _ _ _) (by omega)) g0
  obtain ⟨N, γ, tl, i1, i2, i3⟩ := q2
  obtain ⟨g3, c3, r1, r2, r3⟩ := gl_b68 t0 (by omega) i2 (zI t) (-1) z3 z4 z5 z6 z7 z8 z9 z10 z11 z12 (fun f => ((lyC Λ t).map (fun x => f (srt Λ t x) (acd Λ t x))).sum) (by
    show ((lyC Λ t).map (fun x => 1)).sum ≤ 238
    rw [len_sum]; exact lyC_len Λ t) 80 FU 0 g2 c2 N γ (by omega) (by unfold FU; omega) i1 i3
  refine ⟨zI t, -1, z3, z4, z5, z6, z7, z8, z9, z10, z11, z12, g3, c3, ta2, ?_, r2, GrK_t gk0 (GrK_t q3 r3)⟩
  unfold F_X4_groupLays
  have e1' : F_X4_groupLays_b9 (zI (bkH Λ)) numbers spots waters sides ties (zI (bkZ Λ)) (zI (bkG Λ)) FU y1 y2 y3 y4 y5 y6 y7 y8 y9 y10 y11 y12 groups (upd gcs t.toNat 0) tally (zI t) 0 = F_X4_groupLays_b38 (zI (bkH Λ)) numbers spots waters sides ties (zI (bkZ Λ)) (zI (bkG Λ)) FU (zI t) (-1) 2 0 y5 (upd y6 0 (zI t)) (upd y7 0 (-1)) y8 y9 y10 y11 y12 groups (upd gcs t.toNat 0) tally1 (zI t) 0 := e1
  have q1' : F_X4_groupLays_b38 (zI (bkH Λ)) numbers spots waters sides ties (zI (bkZ Λ)) (zI (bkG Λ)) FU (zI t) (-1) 2 0 y5 (upd y6 0 (zI t)) (upd y7 0 (-1)) y8 y9 y10 y11 y12 groups (upd gcs t.toNat 0) tally1 (zI t) 0 = F_X4_groupLays_b68 FU (zI t) (-1) z3 z4 z5 z6 z7 z8 z9 z10 z11 z12 g2 c2 ta2 (zI t) 0 := q1
  have r1' : F_X4_groupLays_b68 FU (zI t) (-1) z3 z4 z5 z6 z7 z8 z9 z10 z11 z12 g2 c2 ta2 (zI t) 0 = some (zI t, -1, z3, z4, z5, z6, z7, z8, z9, z10, z11, z12, g3, c3, ta2) := r1
  rw [ck_z t0 (by omega) (by omega), zI_clamp (by omega) (by omega), e1', q1', r1']
end GM

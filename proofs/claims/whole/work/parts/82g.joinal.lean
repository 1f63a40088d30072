section AL
variable (a1 a2 : Int32) (a3 a4 a5 : NF)
theorem like_al : ∀ (n : Nat) (x : Int32), F_X0_isFoldedLike_s_b15 a1 a3 n x = F_X0_isFoldedLike_b15 a1 a3 a1 a3 n x
  | 0, _ => rfl
  | n + 1, x => by
    rw [F_X0_isFoldedLike_s_b15, F_X0_isFoldedLike_b15]
    simp only [like_al n]
theorem jps_al (q t g : Int32) (c k w o p : NF) (l x y : Int32) : F_X0_joinPlace_s q t g c k w o p l a1 a2 a3 a4 a5 x y = F_X0_joinPlace q t g c k w o p l a1 a2 a3 a4 a5 a1 a2 a3 a4 a5 x y := rfl
theorem join_b81_al (k25 : Bool → Int32 → Int32 → Int32 → Int32 → Int32 → NF → NF → NF → NF → NF → NF → Int32 → Int32 → Option (Bool × Int32 × Int32 × Int32 × Int32 × Int32 × NF × NF × NF × NF × NF × NF × Int32)) : ∀ (n : Nat) (m : Bool) (x1 x2 x3 x4 x5 : Int32) (y1 y2 y3 y4 y5 y6 : NF) (x6 x7 x8 x9 : Int32), F_X0_join_s_b81 a1 a2 a3 a4 a5 k25 n m x1 x2 x3 x4 x5 y1 y2 y3 y4 y5 y6 x6 x7 x8 x9 = F_X0_join_b81 a1 a2 a3 a4 a5 a1 a2 a3 a4 a5 k25 n m x1 x2 x3 x4 x5 y1 y2 y3 y4 y5 y6 x6 x7 x8 x9
  | 0, _, _, _, _, _, _, _, _, _, _, _, _, _, _, _, _ => rfl
  | n + 1, m, x1, x2, x3, x4, x5, y1, y2, y3, y4, y5, y6, x6, x7, x8, x9 => by
    rw [F_X0_join_s_b81, F_X0_join_b81]
    simp only [jps_al, join_b81_al k25 n]
theorem join_b25_al : ∀ (n : Nat) (m : Bool) (x1 x2 x3 x4 x5 : Int32) (y1 y2 y3 y4 y5 y6 : NF) (x6 x7 : Int32), F_X0_join_s_b25 a1 a2 a3 a4 a5 n m x1 x2 x3 x4 x5 y1 y2 y3 y4 y5 y6 x6 x7 = F_X0_join_b25 a1 a2 a3 a4 a5 a1 a2 a3 a4 a5 n m x1 x2 x3 x4 x5 y1 y2 y3 y4 y5 y6 x6 x7
  | 0, _, _, _, _, _, _, _, _, _, _, _, _, _, _ => rfl
  | n + 1, m, x1, x2, x3, x4, x5, y1, y2, y3, y4, y5, y6, x6, x7 => by
    rw [F_X0_join_s_b25, F_X0_join_b25]
    simp only [F_X0_join_s_b47, F_X0_join_s_b70, F_X0_join_b47, F_X0_join_b70, join_b81_al, join_b25_al n]
theorem ideal_al (l : Int32) (fm : Bool) (x1 x2 x3 x4 x5 : Int32) (z1 z2 z3 z4 z5 z6 : NF) (gm : Bool) (g1 g2 g3 g4 g5 : Int32) (y1 y2 y3 y4 y5 y6 : NF) (g6 v1 v2 : Int32) : F_X7_ideal_ok_al a1 a2 l a3 a4 a5 fm x1 x2 x3 x4 x5 z1 z2 z3 z4 z5 z6 gm g1 g2 g3 g4 g5 y1 y2 y3 y4 y5 y6 g6 v1 v2 = F_X7_ideal_ok_ok a1 a2 l a3 a4 a5 a1 a2 l a3 a4 a5 fm x1 x2 x3 x4 x5 z1 z2 z3 z4 z5 z6 gm g1 g2 g3 g4 g5 y1 y2 y3 y4 y5 y6 g6 v1 v2 := by
  unfold F_X7_ideal_ok_al F_X7_ideal_ok_ok F_X0_isFoldedLike_s F_X0_isFoldedLike F_X0_join_s F_X0_join
  simp only [like_al, join_b25_al]
end AL

-- the values of the weights
theorem wv_T_g2 : wT 2 = 0 := by
  rw [wT, wt_g (by decide)] <;> rfl
theorem wv_T_g3 : wT 3 = 0 := by
  rw [wT, wt_g (by decide)] <;> rfl
theorem wv_T_g4 : wT 4 = 0 := by
  rw [wT, wt_g (by decide)] <;> rfl
theorem wv_T_g5 : wT 5 = 0 := by
  rw [wT, wt_g (by decide)] <;> rfl
theorem wv_T_g6 : wT 6 = 0 := by
  rw [wT, wt_g (by decide)] <;> rfl
theorem wv_T_b0 {b : Nat} (hb : b < 8) : wT (13 + 10 * b + 0) = 0 := by
  rw [wT, wt_b hb (by decide)] <;> rfl
theorem wv_T_b1 {b : Nat} (hb : b < 8) : wT (13 + 10 * b + 1) = 1 := by
  rw [wT, wt_b hb (by decide)] <;> rfl
theorem wv_T_b2 {b : Nat} (hb : b < 8) : wT (13 + 10 * b + 2) = 1 := by
  rw [wT, wt_b hb (by decide)] <;> rfl
theorem wv_T_b3 {b : Nat} (hb : b < 8) : wT (13 + 10 * b + 3) = 1 := by
  rw [wT, wt_b hb (by decide)] <;> rfl
theorem wv_T_b4 {b : Nat} (hb : b < 8) : wT (13 + 10 * b + 4) = 1 := by
  rw [wT, wt_b hb (by decide)] <;> rfl
theorem wv_T_b5 {b : Nat} (hb : b < 8) : wT (13 + 10 * b + 5) = 1 := by
  rw [wT, wt_b hb (by decide)] <;> rfl
theorem wv_T_b6 {b : Nat} (hb : b < 8) : wT (13 + 10 * b + 6) = 1 := by
  rw [wT, wt_b hb (by decide)] <;> rfl
theorem wv_T_b7 {b : Nat} (hb : b < 8) : wT (13 + 10 * b + 7) = 1 := by
  rw [wT, wt_b hb (by decide)] <;> rfl
theorem wv_T_b8 {b : Nat} (hb : b < 8) : wT (13 + 10 * b + 8) = 0 := by
  rw [wT, wt_b hb (by decide)] <;> rfl
theorem wv_T_b9 {b : Nat} (hb : b < 8) : wT (13 + 10 * b + 9) = 0 := by
  rw [wT, wt_b hb (by decide)] <;> rfl
theorem wv_T_s0 {s : Nat} (hs : s < 6) : wT (93 + 21 * s + 0) = 0 := by
  rw [wT, wt_s hs (by decide)] <;> rfl
theorem wv_T_s1 {s : Nat} (hs : s < 6) : wT (93 + 21 * s + 1) = 0 := by
  rw [wT, wt_s hs (by decide)] <;> rfl
theorem wv_T_s2 {s : Nat} (hs : s < 6) : wT (93 + 21 * s + 2) = 0 := by
  rw [wT, wt_s hs (by decide)] <;> rfl
theorem wv_T_s3 {s : Nat} (hs : s < 6) : wT (93 + 21 * s + 3) = 0 := by
  rw [wT, wt_s hs (by decide)] <;> rfl
theorem wv_T_s4 {s : Nat} (hs : s < 6) : wT (93 + 21 * s + 4) = 0 := by
  rw [wT, wt_s hs (by decide)] <;> rfl
theorem wv_T_F {s b : Nat} (hs : s < 6) (hb : b < 8) : wT (93 + 21 * s + (5 + b)) = 1 := by
  rw [wT, wt_s hs (by omega)]; rw [if_pos (by omega)]
theorem wv_T_E {s b : Nat} (hs : s < 6) (hb : b < 8) : wT (93 + 21 * s + (13 + b)) = 1 := by
  rw [wT, wt_s hs (by omega)]; rw [if_pos (by omega)]
theorem wv_A_g2 {d : Nat → Int} {c : Int} : (wA d c) 2 = 0 := by
  rw [wA, wt_g (by decide)] <;> rfl
theorem wv_A_g3 {d : Nat → Int} {c : Int} : (wA d c) 3 = -1 := by
  rw [wA, wt_g (by decide)] <;> rfl
theorem wv_A_g4 {d : Nat → Int} {c : Int} : (wA d c) 4 = 1 := by
  rw [wA, wt_g (by decide)] <;> rfl
theorem wv_A_g5 {d : Nat → Int} {c : Int} : (wA d c) 5 = 0 := by
  rw [wA, wt_g (by decide)] <;> rfl
theorem wv_A_g6 {d : Nat → Int} {c : Int} : (wA d c) 6 = 0 := by
  rw [wA, wt_g (by decide)] <;> rfl
theorem wv_A_b0 {d : Nat → Int} {c : Int} {b : Nat} (hb : b < 8) : (wA d c) (13 + 10 * b + 0) = 0 := by
  rw [wA, wt_b hb (by decide)] <;> rfl
theorem wv_A_b1 {d : Nat → Int} {c : Int} {b : Nat} (hb : b < 8) : (wA d c) (13 + 10 * b + 1) = 0 := by
  rw [wA, wt_b hb (by decide)] <;> rfl
theorem wv_A_b2 {d : Nat → Int} {c : Int} {b : Nat} (hb : b < 8) : (wA d c) (13 + 10 * b + 2) = 0 := by
  rw [wA, wt_b hb (by decide)] <;> rfl
theorem wv_A_b3 {d : Nat → Int} {c : Int} {b : Nat} (hb : b < 8) : (wA d c) (13 + 10 * b + 3) = d b := by
  rw [wA, wt_b hb (by decide)] <;> rfl
theorem wv_A_b4 {d : Nat → Int} {c : Int} {b : Nat} (hb : b < 8) : (wA d c) (13 + 10 * b + 4) = 0 := by
  rw [wA, wt_b hb (by decide)] <;> rfl
theorem wv_A_b5 {d : Nat → Int} {c : Int} {b : Nat} (hb : b < 8) : (wA d c) (13 + 10 * b + 5) = 0 := by
  rw [wA, wt_b hb (by decide)] <;> rfl
theorem wv_A_b6 {d : Nat → Int} {c : Int} {b : Nat} (hb : b < 8) : (wA d c) (13 + 10 * b + 6) = 0 := by
  rw [wA, wt_b hb (by decide)] <;> rfl
theorem wv_A_b7 {d : Nat → Int} {c : Int} {b : Nat} (hb : b < 8) : (wA d c) (13 + 10 * b + 7) = 0 := by
  rw [wA, wt_b hb (by decide)] <;> rfl
theorem wv_A_b8 {d : Nat → Int} {c : Int} {b : Nat} (hb : b < 8) : (wA d c) (13 + 10 * b + 8) = 0 := by
  rw [wA, wt_b hb (by decide)] <;> rfl
theorem wv_A_b9 {d : Nat → Int} {c : Int} {b : Nat} (hb : b < 8) : (wA d c) (13 + 10 * b + 9) = 0 := by
  rw [wA, wt_b hb (by decide)] <;> rfl
theorem wv_A_s0 {d : Nat → Int} {c : Int} {s : Nat} (hs : s < 6) : (wA d c) (93 + 21 * s + 0) = 0 := by
  rw [wA, wt_s hs (by decide)] <;> rfl
theorem wv_A_s1 {d : Nat → Int} {c : Int} {s : Nat} (hs : s < 6) : (wA d c) (93 + 21 * s + 1) = c := by
  rw [wA, wt_s hs (by decide)] <;> rfl
theorem wv_A_s2 {d : Nat → Int} {c : Int} {s : Nat} (hs : s < 6) : (wA d c) (93 + 21 * s + 2) = 0 := by
  rw [wA, wt_s hs (by decide)] <;> rfl
theorem wv_A_s3 {d : Nat → Int} {c : Int} {s : Nat} (hs : s < 6) : (wA d c) (93 + 21 * s + 3) = 0 := by
  rw [wA, wt_s hs (by decide)] <;> rfl
theorem wv_A_s4 {d : Nat → Int} {c : Int} {s : Nat} (hs : s < 6) : (wA d c) (93 + 21 * s + 4) = 0 := by
  rw [wA, wt_s hs (by decide)] <;> rfl
theorem wv_A_F {d : Nat → Int} {c : Int} {s b : Nat} (hs : s < 6) (hb : b < 8) : (wA d c) (93 + 21 * s + (5 + b)) = d b := by
  rw [wA, wt_s hs (by omega)]; rw [if_neg (by omega), if_neg (by omega), if_pos (by omega)]; congr 1; omega
theorem wv_A_E {d : Nat → Int} {c : Int} {s b : Nat} (hs : s < 6) (hb : b < 8) : (wA d c) (93 + 21 * s + (13 + b)) = d b := by
  rw [wA, wt_s hs (by omega)]; rw [if_neg (by omega), if_neg (by omega), if_neg (by omega)]; congr 1; omega
theorem wv_B_g2 : wB 2 = 0 := by
  rw [wB, wt_g (by decide)] <;> rfl
theorem wv_B_g3 : wB 3 = 0 := by
  rw [wB, wt_g (by decide)] <;> rfl
theorem wv_B_g4 : wB 4 = 0 := by
  rw [wB, wt_g (by decide)] <;> rfl
theorem wv_B_g5 : wB 5 = 0 := by
  rw [wB, wt_g (by decide)] <;> rfl
theorem wv_B_g6 : wB 6 = 0 := by
  rw [wB, wt_g (by decide)] <;> rfl
theorem wv_B_b0 {b : Nat} (hb : b < 8) : wB (13 + 10 * b + 0) = 0 := by
  rw [wB, wt_b hb (by decide)] <;> rfl
theorem wv_B_b1 {b : Nat} (hb : b < 8) : wB (13 + 10 * b + 1) = 0 := by
  rw [wB, wt_b hb (by decide)] <;> rfl
theorem wv_B_b2 {b : Nat} (hb : b < 8) : wB (13 + 10 * b + 2) = 0 := by
  rw [wB, wt_b hb (by decide)] <;> rfl
theorem wv_B_b3 {b : Nat} (hb : b < 8) : wB (13 + 10 * b + 3) = -1 := by
  rw [wB, wt_b hb (by decide)] <;> rfl
theorem wv_B_b4 {b : Nat} (hb : b < 8) : wB (13 + 10 * b + 4) = 0 := by
  rw [wB, wt_b hb (by decide)] <;> rfl
theorem wv_B_b5 {b : Nat} (hb : b < 8) : wB (13 + 10 * b + 5) = -1 := by
  rw [wB, wt_b hb (by decide)] <;> rfl
theorem wv_B_b6 {b : Nat} (hb : b < 8) : wB (13 + 10 * b + 6) = -1 := by
  rw [wB, wt_b hb (by decide)] <;> rfl
theorem wv_B_b7 {b : Nat} (hb : b < 8) : wB (13 + 10 * b + 7) = 0 := by
  rw [wB, wt_b hb (by decide)] <;> rfl
theorem wv_B_b8 {b : Nat} (hb : b < 8) : wB (13 + 10 * b + 8) = 0 := by
  rw [wB, wt_b hb (by decide)] <;> rfl
theorem wv_B_b9 {b : Nat} (hb : b < 8) : wB (13 + 10 * b + 9) = 0 := by
  rw [wB, wt_b hb (by decide)] <;> rfl
theorem wv_B_s0 {s : Nat} (hs : s < 6) : wB (93 + 21 * s + 0) = 0 := by
  rw [wB, wt_s hs (by decide)] <;> rfl
theorem wv_B_s1 {s : Nat} (hs : s < 6) : wB (93 + 21 * s + 1) = 12 := by
  rw [wB, wt_s hs (by decide)] <;> rfl
theorem wv_B_s2 {s : Nat} (hs : s < 6) : wB (93 + 21 * s + 2) = 0 := by
  rw [wB, wt_s hs (by decide)] <;> rfl
theorem wv_B_s3 {s : Nat} (hs : s < 6) : wB (93 + 21 * s + 3) = 0 := by
  rw [wB, wt_s hs (by decide)] <;> rfl
theorem wv_B_s4 {s : Nat} (hs : s < 6) : wB (93 + 21 * s + 4) = 0 := by
  rw [wB, wt_s hs (by decide)] <;> rfl
theorem wv_B_F {s b : Nat} (hs : s < 6) (hb : b < 8) : wB (93 + 21 * s + (5 + b)) = -1 := by
  rw [wB, wt_s hs (by omega)]; rw [if_neg (by omega), if_pos (by omega)]
theorem wv_B_E {s b : Nat} (hs : s < 6) (hb : b < 8) : wB (93 + 21 * s + (13 + b)) = -1 := by
  rw [wB, wt_s hs (by omega)]; rw [if_neg (by omega), if_pos (by omega)]
theorem wv_G_g2 : wG 2 = 0 := by
  rw [wG, wt_g (by decide)] <;> rfl
theorem wv_G_g3 : wG 3 = 0 := by
  rw [wG, wt_g (by decide)] <;> rfl
theorem wv_G_g4 : wG 4 = 0 := by
  rw [wG, wt_g (by decide)] <;> rfl
theorem wv_G_g5 : wG 5 = 0 := by
  rw [wG, wt_g (by decide)] <;> rfl
theorem wv_G_g6 : wG 6 = 0 := by
  rw [wG, wt_g (by decide)] <;> rfl
theorem wv_G_b0 {b : Nat} (hb : b < 8) : wG (13 + 10 * b + 0) = 0 := by
  rw [wG, wt_b hb (by decide)] <;> rfl
theorem wv_G_b1 {b : Nat} (hb : b < 8) : wG (13 + 10 * b + 1) = 0 := by
  rw [wG, wt_b hb (by decide)] <;> rfl
theorem wv_G_b2 {b : Nat} (hb : b < 8) : wG (13 + 10 * b + 2) = 0 := by
  rw [wG, wt_b hb (by decide)] <;> rfl
theorem wv_G_b3 {b : Nat} (hb : b < 8) : wG (13 + 10 * b + 3) = 0 := by
  rw [wG, wt_b hb (by decide)] <;> rfl
theorem wv_G_b4 {b : Nat} (hb : b < 8) : wG (13 + 10 * b + 4) = 0 := by
  rw [wG, wt_b hb (by decide)] <;> rfl
theorem wv_G_b5 {b : Nat} (hb : b < 8) : wG (13 + 10 * b + 5) = 1 := by
  rw [wG, wt_b hb (by decide)] <;> rfl
theorem wv_G_b6 {b : Nat} (hb : b < 8) : wG (13 + 10 * b + 6) = 1 := by
  rw [wG, wt_b hb (by decide)] <;> rfl
theorem wv_G_b7 {b : Nat} (hb : b < 8) : wG (13 + 10 * b + 7) = 0 := by
  rw [wG, wt_b hb (by decide)] <;> rfl
theorem wv_G_b8 {b : Nat} (hb : b < 8) : wG (13 + 10 * b + 8) = 0 := by
  rw [wG, wt_b hb (by decide)] <;> rfl
theorem wv_G_b9 {b : Nat} (hb : b < 8) : wG (13 + 10 * b + 9) = 0 := by
  rw [wG, wt_b hb (by decide)] <;> rfl
theorem wv_G_s0 {s : Nat} (hs : s < 6) : wG (93 + 21 * s + 0) = 0 := by
  rw [wG, wt_s hs (by decide)] <;> rfl
theorem wv_G_s1 {s : Nat} (hs : s < 6) : wG (93 + 21 * s + 1) = 0 := by
  rw [wG, wt_s hs (by decide)] <;> rfl
theorem wv_G_s2 {s : Nat} (hs : s < 6) : wG (93 + 21 * s + 2) = 0 := by
  rw [wG, wt_s hs (by decide)] <;> rfl
theorem wv_G_s3 {s : Nat} (hs : s < 6) : wG (93 + 21 * s + 3) = 0 := by
  rw [wG, wt_s hs (by decide)] <;> rfl
theorem wv_G_s4 {s : Nat} (hs : s < 6) : wG (93 + 21 * s + 4) = 0 := by
  rw [wG, wt_s hs (by decide)] <;> rfl
theorem wv_G_F {s b : Nat} (hs : s < 6) (hb : b < 8) : wG (93 + 21 * s + (5 + b)) = 0 := by
  rw [wG, wt_s hs (by omega)]
theorem wv_G_E {s b : Nat} (hs : s < 6) (hb : b < 8) : wG (93 + 21 * s + (13 + b)) = 0 := by
  rw [wG, wt_s hs (by omega)]
theorem wv_F_g2 : wF 2 = 0 := by
  rw [wF, wt_g (by decide)] <;> rfl
theorem wv_F_g3 : wF 3 = 0 := by
  rw [wF, wt_g (by decide)] <;> rfl
theorem wv_F_g4 : wF 4 = 1 := by
  rw [wF, wt_g (by decide)] <;> rfl
theorem wv_F_g5 : wF 5 = 0 := by
  rw [wF, wt_g (by decide)] <;> rfl
theorem wv_F_g6 : wF 6 = 0 := by
  rw [wF, wt_g (by decide)] <;> rfl
theorem wv_F_b0 {b : Nat} (hb : b < 8) : wF (13 + 10 * b + 0) = 0 := by
  rw [wF, wt_b hb (by decide)] <;> rfl
theorem wv_F_b1 {b : Nat} (hb : b < 8) : wF (13 + 10 * b + 1) = 0 := by
  rw [wF, wt_b hb (by decide)] <;> rfl
theorem wv_F_b2 {b : Nat} (hb : b < 8) : wF (13 + 10 * b + 2) = 0 := by
  rw [wF, wt_b hb (by decide)] <;> rfl
theorem wv_F_b3 {b : Nat} (hb : b < 8) : wF (13 + 10 * b + 3) = 0 := by
  rw [wF, wt_b hb (by decide)] <;> rfl
theorem wv_F_b4 {b : Nat} (hb : b < 8) : wF (13 + 10 * b + 4) = 0 := by
  rw [wF, wt_b hb (by decide)] <;> rfl
theorem wv_F_b5 {b : Nat} (hb : b < 8) : wF (13 + 10 * b + 5) = 0 := by
  rw [wF, wt_b hb (by decide)] <;> rfl
theorem wv_F_b6 {b : Nat} (hb : b < 8) : wF (13 + 10 * b + 6) = 0 := by
  rw [wF, wt_b hb (by decide)] <;> rfl
theorem wv_F_b7 {b : Nat} (hb : b < 8) : wF (13 + 10 * b + 7) = 0 := by
  rw [wF, wt_b hb (by decide)] <;> rfl
theorem wv_F_b8 {b : Nat} (hb : b < 8) : wF (13 + 10 * b + 8) = 0 := by
  rw [wF, wt_b hb (by decide)] <;> rfl
theorem wv_F_b9 {b : Nat} (hb : b < 8) : wF (13 + 10 * b + 9) = 0 := by
  rw [wF, wt_b hb (by decide)] <;> rfl
theorem wv_F_s0 {s : Nat} (hs : s < 6) : wF (93 + 21 * s + 0) = 0 := by
  rw [wF, wt_s hs (by decide)] <;> rfl
theorem wv_F_s1 {s : Nat} (hs : s < 6) : wF (93 + 21 * s + 1) = 0 := by
  rw [wF, wt_s hs (by decide)] <;> rfl
theorem wv_F_s2 {s : Nat} (hs : s < 6) : wF (93 + 21 * s + 2) = 0 := by
  rw [wF, wt_s hs (by decide)] <;> rfl
theorem wv_F_s3 {s : Nat} (hs : s < 6) : wF (93 + 21 * s + 3) = 0 := by
  rw [wF, wt_s hs (by decide)] <;> rfl
theorem wv_F_s4 {s : Nat} (hs : s < 6) : wF (93 + 21 * s + 4) = 0 := by
  rw [wF, wt_s hs (by decide)] <;> rfl
theorem wv_F_F {s b : Nat} (hs : s < 6) (hb : b < 8) : wF (93 + 21 * s + (5 + b)) = 0 := by
  rw [wF, wt_s hs (by omega)]
theorem wv_F_E {s b : Nat} (hs : s < 6) (hb : b < 8) : wF (93 + 21 * s + (13 + b)) = 0 := by
  rw [wF, wt_s hs (by omega)]
theorem wv_D_g2 : wD 2 = 1 := by
  rw [wD, wt_g (by decide)] <;> rfl
theorem wv_D_g3 : wD 3 = 0 := by
  rw [wD, wt_g (by decide)] <;> rfl
theorem wv_D_g4 : wD 4 = 0 := by
  rw [wD, wt_g (by decide)] <;> rfl
theorem wv_D_g5 : wD 5 = 0 := by
  rw [wD, wt_g (by decide)] <;> rfl
theorem wv_D_g6 : wD 6 = 0 := by
  rw [wD, wt_g (by decide)] <;> rfl
theorem wv_D_b0 {b : Nat} (hb : b < 8) : wD (13 + 10 * b + 0) = 0 := by
  rw [wD, wt_b hb (by decide)] <;> rfl
theorem wv_D_b1 {b : Nat} (hb : b < 8) : wD (13 + 10 * b + 1) = 0 := by
  rw [wD, wt_b hb (by decide)] <;> rfl
theorem wv_D_b2 {b : Nat} (hb : b < 8) : wD (13 + 10 * b + 2) = 0 := by
  rw [wD, wt_b hb (by decide)] <;> rfl
theorem wv_D_b3 {b : Nat} (hb : b < 8) : wD (13 + 10 * b + 3) = 0 := by
  rw [wD, wt_b hb (by decide)] <;> rfl
theorem wv_D_b4 {b : Nat} (hb : b < 8) : wD (13 + 10 * b + 4) = 0 := by
  rw [wD, wt_b hb (by decide)] <;> rfl
theorem wv_D_b5 {b : Nat} (hb : b < 8) : wD (13 + 10 * b + 5) = 0 := by
  rw [wD, wt_b hb (by decide)] <;> rfl
theorem wv_D_b6 {b : Nat} (hb : b < 8) : wD (13 + 10 * b + 6) = 0 := by
  rw [wD, wt_b hb (by decide)] <;> rfl
theorem wv_D_b7 {b : Nat} (hb : b < 8) : wD (13 + 10 * b + 7) = 0 := by
  rw [wD, wt_b hb (by decide)] <;> rfl
theorem wv_D_b8 {b : Nat} (hb : b < 8) : wD (13 + 10 * b + 8) = 0 := by
  rw [wD, wt_b hb (by decide)] <;> rfl
theorem wv_D_b9 {b : Nat} (hb : b < 8) : wD (13 + 10 * b + 9) = 0 := by
  rw [wD, wt_b hb (by decide)] <;> rfl
theorem wv_D_s0 {s : Nat} (hs : s < 6) : wD (93 + 21 * s + 0) = 0 := by
  rw [wD, wt_s hs (by decide)] <;> rfl
theorem wv_D_s1 {s : Nat} (hs : s < 6) : wD (93 + 21 * s + 1) = 1 := by
  rw [wD, wt_s hs (by decide)] <;> rfl
theorem wv_D_s2 {s : Nat} (hs : s < 6) : wD (93 + 21 * s + 2) = 0 := by
  rw [wD, wt_s hs (by decide)] <;> rfl
theorem wv_D_s3 {s : Nat} (hs : s < 6) : wD (93 + 21 * s + 3) = 0 := by
  rw [wD, wt_s hs (by decide)] <;> rfl
theorem wv_D_s4 {s : Nat} (hs : s < 6) : wD (93 + 21 * s + 4) = 0 := by
  rw [wD, wt_s hs (by decide)] <;> rfl
theorem wv_D_F {s b : Nat} (hs : s < 6) (hb : b < 8) : wD (93 + 21 * s + (5 + b)) = 0 := by
  rw [wD, wt_s hs (by omega)]; rw [if_neg (by omega)]
theorem wv_D_E {s b : Nat} (hs : s < 6) (hb : b < 8) : wD (93 + 21 * s + (13 + b)) = 0 := by
  rw [wD, wt_s hs (by omega)]; rw [if_neg (by omega)]
theorem wv_P_g2 : wP 2 = 1 := by
  rw [wP, wt_g (by decide)] <;> rfl
theorem wv_P_g3 : wP 3 = 0 := by
  rw [wP, wt_g (by decide)] <;> rfl
theorem wv_P_g4 : wP 4 = 1 := by
  rw [wP, wt_g (by decide)] <;> rfl
theorem wv_P_g5 : wP 5 = 1 := by
  rw [wP, wt_g (by decide)] <;> rfl
theorem wv_P_g6 : wP 6 = 0 := by
  rw [wP, wt_g (by decide)] <;> rfl
theorem wv_P_b0 {b : Nat} (hb : b < 8) : wP (13 + 10 * b + 0) = 1 := by
  rw [wP, wt_b hb (by decide)] <;> rfl
theorem wv_P_b1 {b : Nat} (hb : b < 8) : wP (13 + 10 * b + 1) = 1 := by
  rw [wP, wt_b hb (by decide)] <;> rfl
theorem wv_P_b2 {b : Nat} (hb : b < 8) : wP (13 + 10 * b + 2) = 1 := by
  rw [wP, wt_b hb (by decide)] <;> rfl
theorem wv_P_b3 {b : Nat} (hb : b < 8) : wP (13 + 10 * b + 3) = 1 := by
  rw [wP, wt_b hb (by decide)] <;> rfl
theorem wv_P_b4 {b : Nat} (hb : b < 8) : wP (13 + 10 * b + 4) = 1 := by
  rw [wP, wt_b hb (by decide)] <;> rfl
theorem wv_P_b5 {b : Nat} (hb : b < 8) : wP (13 + 10 * b + 5) = 1 := by
  rw [wP, wt_b hb (by decide)] <;> rfl
theorem wv_P_b6 {b : Nat} (hb : b < 8) : wP (13 + 10 * b + 6) = 1 := by
  rw [wP, wt_b hb (by decide)] <;> rfl
theorem wv_P_b7 {b : Nat} (hb : b < 8) : wP (13 + 10 * b + 7) = 1 := by
  rw [wP, wt_b hb (by decide)] <;> rfl
theorem wv_P_b8 {b : Nat} (hb : b < 8) : wP (13 + 10 * b + 8) = 1 := by
  rw [wP, wt_b hb (by decide)] <;> rfl
theorem wv_P_b9 {b : Nat} (hb : b < 8) : wP (13 + 10 * b + 9) = 0 := by
  rw [wP, wt_b hb (by decide)] <;> rfl
theorem wv_P_s0 {s : Nat} (hs : s < 6) : wP (93 + 21 * s + 0) = 1 := by
  rw [wP, wt_s hs (by decide)] <;> rfl
theorem wv_P_s1 {s : Nat} (hs : s < 6) : wP (93 + 21 * s + 1) = 1 := by
  rw [wP, wt_s hs (by decide)] <;> rfl
theorem wv_P_s2 {s : Nat} (hs : s < 6) : wP (93 + 21 * s + 2) = 0 := by
  rw [wP, wt_s hs (by decide)] <;> rfl
theorem wv_P_s3 {s : Nat} (hs : s < 6) : wP (93 + 21 * s + 3) = 0 := by
  rw [wP, wt_s hs (by decide)] <;> rfl
theorem wv_P_s4 {s : Nat} (hs : s < 6) : wP (93 + 21 * s + 4) = 0 := by
  rw [wP, wt_s hs (by decide)] <;> rfl
theorem wv_P_F {s b : Nat} (hs : s < 6) (hb : b < 8) : wP (93 + 21 * s + (5 + b)) = 1 := by
  rw [wP, wt_s hs (by omega)]; rw [if_pos (by omega)]
theorem wv_P_E {s b : Nat} (hs : s < 6) (hb : b < 8) : wP (93 + 21 * s + (13 + b)) = 1 := by
  rw [wP, wt_s hs (by omega)]; rw [if_pos (by omega)]
theorem wv_M_g2 : wQ 2 = 0 := by
  rw [wQ, wt_g (by decide)] <;> rfl
theorem wv_M_g3 : wQ 3 = 0 := by
  rw [wQ, wt_g (by decide)] <;> rfl
theorem wv_M_g4 : wQ 4 = 0 := by
  rw [wQ, wt_g (by decide)] <;> rfl
theorem wv_M_g5 : wQ 5 = 1 := by
  rw [wQ, wt_g (by decide)] <;> rfl
theorem wv_M_g6 : wQ 6 = 0 := by
  rw [wQ, wt_g (by decide)] <;> rfl
theorem wv_M_b0 {b : Nat} (hb : b < 8) : wQ (13 + 10 * b + 0) = 0 := by
  rw [wQ, wt_b hb (by decide)] <;> rfl
theorem wv_M_b1 {b : Nat} (hb : b < 8) : wQ (13 + 10 * b + 1) = 0 := by
  rw [wQ, wt_b hb (by decide)] <;> rfl
theorem wv_M_b2 {b : Nat} (hb : b < 8) : wQ (13 + 10 * b + 2) = 0 := by
  rw [wQ, wt_b hb (by decide)] <;> rfl
theorem wv_M_b3 {b : Nat} (hb : b < 8) : wQ (13 + 10 * b + 3) = 0 := by
  rw [wQ, wt_b hb (by decide)] <;> rfl
theorem wv_M_b4 {b : Nat} (hb : b < 8) : wQ (13 + 10 * b + 4) = 0 := by
  rw [wQ, wt_b hb (by decide)] <;> rfl
theorem wv_M_b5 {b : Nat} (hb : b < 8) : wQ (13 + 10 * b + 5) = 0 := by
  rw [wQ, wt_b hb (by decide)] <;> rfl
theorem wv_M_b6 {b : Nat} (hb : b < 8) : wQ (13 + 10 * b + 6) = 0 := by
  rw [wQ, wt_b hb (by decide)] <;> rfl
theorem wv_M_b7 {b : Nat} (hb : b < 8) : wQ (13 + 10 * b + 7) = 0 := by
  rw [wQ, wt_b hb (by decide)] <;> rfl
theorem wv_M_b8 {b : Nat} (hb : b < 8) : wQ (13 + 10 * b + 8) = 1 := by
  rw [wQ, wt_b hb (by decide)] <;> rfl
theorem wv_M_b9 {b : Nat} (hb : b < 8) : wQ (13 + 10 * b + 9) = 0 := by
  rw [wQ, wt_b hb (by decide)] <;> rfl
theorem wv_M_s0 {s : Nat} (hs : s < 6) : wQ (93 + 21 * s + 0) = 1 := by
  rw [wQ, wt_s hs (by decide)] <;> rfl
theorem wv_M_s1 {s : Nat} (hs : s < 6) : wQ (93 + 21 * s + 1) = 0 := by
  rw [wQ, wt_s hs (by decide)] <;> rfl
theorem wv_M_s2 {s : Nat} (hs : s < 6) : wQ (93 + 21 * s + 2) = 0 := by
  rw [wQ, wt_s hs (by decide)] <;> rfl
theorem wv_M_s3 {s : Nat} (hs : s < 6) : wQ (93 + 21 * s + 3) = 0 := by
  rw [wQ, wt_s hs (by decide)] <;> rfl
theorem wv_M_s4 {s : Nat} (hs : s < 6) : wQ (93 + 21 * s + 4) = 0 := by
  rw [wQ, wt_s hs (by decide)] <;> rfl
theorem wv_M_F {s b : Nat} (hs : s < 6) (hb : b < 8) : wQ (93 + 21 * s + (5 + b)) = 0 := by
  rw [wQ, wt_s hs (by omega)]; rw [if_neg (by omega)]
theorem wv_M_E {s b : Nat} (hs : s < 6) (hb : b < 8) : wQ (93 + 21 * s + (13 + b)) = 0 := by
  rw [wQ, wt_s hs (by omega)]; rw [if_neg (by omega)]
theorem valP {m : Nat → Int32} {j B : Nat} {x : Int32} {y : Int} (ex : x.toInt = y) (h0 : 0 ≤ (m j).toInt + y) (h1 : (m j).toInt + y < 2147483648) (hM : wQ j = 0 ∨ (wQ j = 1 ∧ (m j).toInt + y ≤ B)) : (wP j = 0 ∧ j ≠ 3) ∨ ((m j + x).toInt = (m j).toInt + x.toInt ∧ (j = 3 ∨ 0 ≤ (m j).toInt + x.toInt) ∧ wQ j * ((m j).toInt + x.toInt) ≤ B) := by
  rw [ex]
  refine Or.inr ⟨?_, Or.inr h0, ?_⟩
  · have := iAdd (x := m j) (y := x) (by rw [ex]; omega) (by rw [ex]; omega)
    rw [this, ex]
  · rcases hM with h | ⟨h, h2⟩
    · rw [h]; omega
    · rw [h]; omega
theorem val3 {m : Nat → Int32} {B : Nat} {x : Int32} {y : Int} (ex : x.toInt = y) (h0 : -2147483648 ≤ (m 3).toInt + y) (h1 : (m 3).toInt + y < 2147483648) : (wP 3 = 0 ∧ 3 ≠ 3) ∨ ((m 3 + x).toInt = (m 3).toInt + x.toInt ∧ (3 = 3 ∨ 0 ≤ (m 3).toInt + x.toInt) ∧ wQ 3 * ((m 3).toInt + x.toInt) ≤ B) := by
  rw [ex]
  refine Or.inr ⟨?_, Or.inl rfl, ?_⟩
  · have := iAdd (x := m 3) (y := x) (by rw [ex]; omega) (by rw [ex]; omega)
    rw [this, ex]
  · rw [wv_M_g3]; omega
theorem val0 {m : Nat → Int32} {j B : Nat} {x : Int32} (h : wP j = 0) (h3 : j ≠ 3) : (wP j = 0 ∧ j ≠ 3) ∨ ((m j + x).toInt = (m j).toInt + x.toInt ∧ (j = 3 ∨ 0 ≤ (m j).toInt + x.toInt) ∧ wQ j * ((m j).toInt + x.toInt) ≤ B) := Or.inl ⟨h, h3⟩
theorem tN {a : Nat} (h : a < 2147483648) : (nI a).toInt = (a : Int) := nI_toInt h
theorem tM {a : Nat} (h : a < 2147483648) : (-nI a).toInt = -(a : Int) := by
  have := tN h
  rw [iNeg (by omega), this]
theorem ok_g {n s j : Nat} (h1 : 2 ≤ j) (h2 : j ≤ 6) : gOk n s j := Or.inl ⟨h1, h2⟩
theorem ok_b {n s b w : Nat} (hb : b < n) (h1 : 1 ≤ w) (h2 : w < 10) : gOk n s (13 + 10 * b + w) := Or.inr (Or.inl ⟨b, w, hb, h1, h2, rfl⟩)
theorem ok_s {n s i w : Nat} (hi : i < s) (h : w < 5) : gOk n s (93 + 21 * i + w) := Or.inr (Or.inr (Or.inl ⟨i, w, hi, h, rfl⟩))
theorem ok_F {n s i b : Nat} (hi : i < s) (hb : b < n) : gOk n s (93 + 21 * i + (5 + b)) := Or.inr (Or.inr (Or.inr ⟨i, b, hi, hb, Or.inl rfl⟩))
theorem ok_E {n s i b : Nat} (hi : i < s) (hb : b < n) : gOk n s (93 + 21 * i + (13 + b)) := Or.inr (Or.inr (Or.inr ⟨i, b, hi, hb, Or.inr rfl⟩))
theorem dp_of {m : Nat → Int32} {b k d : Nat} (hb : b < 8) (hk : k < 3) (ek : m (13 + 10 * b + 0) = nI k) (ed : m (7 + k) = nI d) (hd : d ≤ 100) : dp m b = (d : Int) := by
  unfold dp
  rw [if_pos hb, show 13 + 10 * b = 13 + 10 * b + 0 from rfl, ek, mC (by omega), ed, tN (by omega)]

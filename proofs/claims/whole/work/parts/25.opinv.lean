-- the invariant over what is done (text by program)
def nDel (b s x D P : Nat) : List (Nat × Int32) := [(13 + 10 * b + 2, -nI (12 * x)), (93 + 21 * s + (5 + b), nI (12 * x)), (2, -nI x), (93 + 21 * s + 1, nI x), (93 + 21 * s + 0, -nI (D + P)), (93 + 21 * s + 2, nI D), (93 + 21 * s + 3, nI P), (3, nI D), (5, nI P)]
theorem gDel {B n t : Nat} {m : Nat → Int32} {b s x D P k d c p9 : Nat} (h : gJ B n t m) (hb : b < n) (hs : s < t) (hk : k < 3) (ek : m (13 + 10 * b + 0) = nI k) (ed : m (7 + k) = nI d) (hd1 : 1 ≤ d) (hd : d ≤ 100) (ec : m 10 = nI c) (hc : c ≤ 500) (hp9 : p9 ≤ 100) (hx : x ≤ 50) (c1 : ((12 * x : Nat) : Int) ≤ (m (13 + 10 * b + 2)).toInt) (c2 : (x : Int) ≤ (m 2).toInt) (hD : D = x * (12 * d + c)) (hP : P = x * p9) (c3 : ((D + P : Nat) : Int) ≤ (m (93 + 21 * s + 0)).toInt) (hB : B < 2000000000) : gQ (B + 5000) n t 0 0 (adds m (nDel b s x D P)) := by
  obtain ⟨hn, ht, -, -⟩ := h.1
  have hb8 : b < 8 := by omega
  have hs6 : s < 6 := by omega
  have hDb : D ≤ 85000 := by
    rw [hD]
    exact Nat.le_trans (Nat.mul_le_mul hx (show 12 * d + c ≤ 1700 by omega)) (by decide)
  have hPb : P ≤ 5000 := by
    rw [hP]
    exact Nat.le_trans (Nat.mul_le_mul hx hp9) (by decide)
  have t1 := gJ_T h (j := 13 + 10 * b + 2) (by omega) (wv_T_b2 hb8)
  have t2 := gJ_T h (j := 93 + 21 * s + (5 + b)) (by omega) (wv_T_F hs6 hb8)
  have t3 := gJ_D h (j := 2) (by omega) (wv_D_g2)
  have t4 := gJ_D h (j := 93 + 21 * s + 1) (by omega) (wv_D_s1 hs6)
  have t5 := gJ_M h (j := 93 + 21 * s + 0) (by omega) (wv_M_s0 hs6)
  have t8 := gJ_H h
  have t9 := gJ_M h (j := 5) (by omega) (wv_M_g5)
  have q := gQ_adds (B' := B + 5000) (L := nDel b s x D P) h (by omega)
    (by simp only [nDel, List.map_cons, List.map_nil, List.nodup_cons, List.mem_cons, List.not_mem_nil, or_false, not_or, List.nodup_nil, and_true, not_false_eq_true]; omega)
    (by
      intro p hp
      simp only [nDel, List.mem_cons, List.not_mem_nil, or_false] at hp
      rcases hp with rfl | rfl | rfl | rfl | rfl | rfl | rfl | rfl | rfl <;> dsimp only
      · exact ok_b hb (by decide) (by decide)
      · exact ok_F hs hb
      · exact ok_g (by decide) (by decide)
      · exact ok_s hs (by decide)
      · exact ok_s hs (by decide)
      · exact ok_s hs (by decide)
      · exact ok_s hs (by decide)
      · exact ok_g (by decide) (by decide)
      · exact ok_g (by decide) (by decide))
    (by
      intro p hp
      simp only [nDel, List.mem_cons, List.not_mem_nil, or_false] at hp
      rcases hp with rfl | rfl | rfl | rfl | rfl | rfl | rfl | rfl | rfl <;> dsimp only
      · exact valP (tM (by omega)) (by omega) (by omega) (Or.inl (wv_M_b2 hb8))
      · exact valP (tN (by omega)) (by omega) (by omega) (Or.inl (wv_M_F hs6 hb8))
      · exact valP (tM (by omega)) (by omega) (by omega) (Or.inl (wv_M_g2))
      · exact valP (tN (by omega)) (by omega) (by omega) (Or.inl (wv_M_s1 hs6))
      · exact valP (tM (by omega)) (by omega) (by omega) (Or.inr ⟨wv_M_s0 hs6, by omega⟩)
      · exact val0 (wv_P_s2 hs6) (by omega)
      · exact val0 (wv_P_s3 hs6) (by omega)
      · exact val3 (tN (by omega)) (by omega) (by omega)
      · exact valP (tN (by omega)) (by omega) (by omega) (Or.inr ⟨wv_M_g5, by omega⟩))
    (by
      simp only [nDel, ksum]
      rw [wv_T_b2 hb8, wv_T_F hs6 hb8, wv_T_g2, wv_T_s1 hs6, wv_T_s0 hs6, wv_T_s2 hs6, wv_T_s3 hs6, wv_T_g3, wv_T_g5]
      simp (disch := omega) only [tN, tM]
      omega)
    (by
      simp only [nDel, ksum]
      rw [wv_G_b2 hb8, wv_G_F hs6 hb8, wv_G_g2, wv_G_s1 hs6, wv_G_s0 hs6, wv_G_s2 hs6, wv_G_s3 hs6, wv_G_g3, wv_G_g5, wv_F_b2 hb8, wv_F_F hs6 hb8, wv_F_g2, wv_F_s1 hs6, wv_F_s0 hs6, wv_F_s2 hs6, wv_F_s3 hs6, wv_F_g3, wv_F_g5]
      simp (disch := omega) only [tN, tM]
      omega)
    (by
      simp only [nDel, ksum]
      rw [wv_G_b2 hb8, wv_G_F hs6 hb8, wv_G_g2, wv_G_s1 hs6, wv_G_s0 hs6, wv_G_s2 hs6, wv_G_s3 hs6, wv_G_g3, wv_G_g5, wv_F_b2 hb8, wv_F_F hs6 hb8, wv_F_g2, wv_F_s1 hs6, wv_F_s0 hs6, wv_F_s2 hs6, wv_F_s3 hs6, wv_F_g3, wv_F_g5]
      simp (disch := omega) only [tN, tM]
      omega)
    (by
      simp only [nDel, ksum]
      rw [wv_D_b2 hb8, wv_D_F hs6 hb8, wv_D_g2, wv_D_s1 hs6, wv_D_s0 hs6, wv_D_s2 hs6, wv_D_s3 hs6, wv_D_g3, wv_D_g5]
      simp (disch := omega) only [tN, tM]
      omega)
  have eA : ksum (wA (dp m) (m 10).toInt) (nDel b s x D P) = 0 := by
    simp only [nDel, ksum]
    rw [wv_A_b2 hb8, wv_A_F hs6 hb8, wv_A_g2, wv_A_s1 hs6, wv_A_s0 hs6, wv_A_s2 hs6, wv_A_s3 hs6, wv_A_g3, wv_A_g5]
    rw [dp_of hb8 hk ek ed hd]
    rw [ec]
    simp (disch := omega) only [tN, tM]
    rw [hD]
    push_cast
    grind
  have eB : ksum wB (nDel b s x D P) = 0 := by
    simp only [nDel, ksum]
    rw [wv_B_b2 hb8, wv_B_F hs6 hb8, wv_B_g2, wv_B_s1 hs6, wv_B_s0 hs6, wv_B_s2 hs6, wv_B_s3 hs6, wv_B_g3, wv_B_g5]
    simp (disch := omega) only [tN, tM]
    omega
  rw [eA, eB] at q
  exact q
def nSel (b s x D : Nat) : List (Nat × Int32) := [(93 + 21 * s + (5 + b), -nI x), (13 + 10 * b + 3, nI x), (93 + 21 * s + 4, nI x), (93 + 21 * s + 0, nI D)]
theorem gSel {B n t : Nat} {m : Nat → Int32} {b s x D k d : Nat} (h : gJ B n t m) (hb : b < n) (hs : s < t) (hk : k < 3) (ek : m (13 + 10 * b + 0) = nI k) (ed : m (7 + k) = nI d) (hd1 : 1 ≤ d) (hd : d ≤ 100) (hx : x ≤ 500) (c1 : (x : Int) ≤ (m (93 + 21 * s + (5 + b))).toInt) (hD : D = x * d) (hB : B < 2000000000) : gQ (B + 50000) n t 0 0 (adds m (nSel b s x D)) := by
  obtain ⟨hn, ht, -, -⟩ := h.1
  have hb8 : b < 8 := by omega
  have hs6 : s < 6 := by omega
  have hDb : D ≤ 50000 := by
    rw [hD]
    exact Nat.le_trans (Nat.mul_le_mul hx hd) (by decide)
  have t1 := gJ_T h (j := 93 + 21 * s + (5 + b)) (by omega) (wv_T_F hs6 hb8)
  have t2 := gJ_T h (j := 13 + 10 * b + 3) (by omega) (wv_T_b3 hb8)
  have t4 := gJ_M h (j := 93 + 21 * s + 0) (by omega) (wv_M_s0 hs6)
  have q := gQ_adds (B' := B + 50000) (L := nSel b s x D) h (by omega)
    (by simp only [nSel, List.map_cons, List.map_nil, List.nodup_cons, List.mem_cons, List.not_mem_nil, or_false, not_or, List.nodup_nil, and_true, not_false_eq_true]; omega)
    (by
      intro p hp
      simp only [nSel, List.mem_cons, List.not_mem_nil, or_false] at hp
      rcases hp with rfl | rfl | rfl | rfl <;> dsimp only
      · exact ok_F hs hb
      · exact ok_b hb (by decide) (by decide)
      · exact ok_s hs (by decide)
      · exact ok_s hs (by decide))
    (by
      intro p hp
      simp only [nSel, List.mem_cons, List.not_mem_nil, or_false] at hp
      rcases hp with rfl | rfl | rfl | rfl <;> dsimp only
      · exact valP (tM (by omega)) (by omega) (by omega) (Or.inl (wv_M_F hs6 hb8))
      · exact valP (tN (by omega)) (by omega) (by omega) (Or.inl (wv_M_b3 hb8))
      · exact val0 (wv_P_s4 hs6) (by omega)
      · exact valP (tN (by omega)) (by omega) (by omega) (Or.inr ⟨wv_M_s0 hs6, by omega⟩))
    (by
      simp only [nSel, ksum]
      rw [wv_T_F hs6 hb8, wv_T_b3 hb8, wv_T_s4 hs6, wv_T_s0 hs6]
      simp (disch := omega) only [tN, tM]
      omega)
    (by
      simp only [nSel, ksum]
      rw [wv_G_F hs6 hb8, wv_G_b3 hb8, wv_G_s4 hs6, wv_G_s0 hs6, wv_F_F hs6 hb8, wv_F_b3 hb8, wv_F_s4 hs6, wv_F_s0 hs6]
      simp (disch := omega) only [tN, tM]
      omega)
    (by
      simp only [nSel, ksum]
      rw [wv_G_F hs6 hb8, wv_G_b3 hb8, wv_G_s4 hs6, wv_G_s0 hs6, wv_F_F hs6 hb8, wv_F_b3 hb8, wv_F_s4 hs6, wv_F_s0 hs6]
      simp (disch := omega) only [tN, tM]
      omega)
    (by
      simp only [nSel, ksum]
      rw [wv_D_F hs6 hb8, wv_D_b3 hb8, wv_D_s4 hs6, wv_D_s0 hs6]
      simp (disch := omega) only [tN, tM]
      omega)
  have eA : ksum (wA (dp m) (m 10).toInt) (nSel b s x D) = 0 := by
    simp only [nSel, ksum]
    rw [wv_A_F hs6 hb8, wv_A_b3 hb8, wv_A_s4 hs6, wv_A_s0 hs6]
    rw [dp_of hb8 hk ek ed hd]
    simp (disch := omega) only [tN, tM]
    push_cast
    grind
  have eB : ksum wB (nSel b s x D) = 0 := by
    simp only [nSel, ksum]
    rw [wv_B_F hs6 hb8, wv_B_b3 hb8, wv_B_s4 hs6, wv_B_s0 hs6]
    simp (disch := omega) only [tN, tM]
    omega
  rw [eA, eB] at q
  exact q
def nRet (b s x D : Nat) : List (Nat × Int32) := [(13 + 10 * b + 3, -nI x), (93 + 21 * s + (13 + b), nI x), (93 + 21 * s + 4, -nI x), (93 + 21 * s + 0, -nI D)]
theorem gRet {B n t : Nat} {m : Nat → Int32} {b s x D k d : Nat} (h : gJ B n t m) (hb : b < n) (hs : s < t) (hk : k < 3) (ek : m (13 + 10 * b + 0) = nI k) (ed : m (7 + k) = nI d) (hd1 : 1 ≤ d) (hd : d ≤ 100) (hx : x ≤ 500) (c1 : (x : Int) ≤ (m (13 + 10 * b + 3)).toInt) (hD : D = x * d) (c2 : (D : Int) ≤ (m (93 + 21 * s + 0)).toInt) (hB : B < 2000000000) : gQ (B + 0) n t 0 0 (adds m (nRet b s x D)) := by
  obtain ⟨hn, ht, -, -⟩ := h.1
  have hb8 : b < 8 := by omega
  have hs6 : s < 6 := by omega
  have hDb : D ≤ 50000 := by
    rw [hD]
    exact Nat.le_trans (Nat.mul_le_mul hx hd) (by decide)
  have t1 := gJ_T h (j := 13 + 10 * b + 3) (by omega) (wv_T_b3 hb8)
  have t2 := gJ_T h (j := 93 + 21 * s + (13 + b)) (by omega) (wv_T_E hs6 hb8)
  have t4 := gJ_M h (j := 93 + 21 * s + 0) (by omega) (wv_M_s0 hs6)
  have q := gQ_adds (B' := B + 0) (L := nRet b s x D) h (by omega)
    (by simp only [nRet, List.map_cons, List.map_nil, List.nodup_cons, List.mem_cons, List.not_mem_nil, or_false, not_or, List.nodup_nil, and_true, not_false_eq_true]; omega)
    (by
      intro p hp
      simp only [nRet, List.mem_cons, List.not_mem_nil, or_false] at hp
      rcases hp with rfl | rfl | rfl | rfl <;> dsimp only
      · exact ok_b hb (by decide) (by decide)
      · exact ok_E hs hb
      · exact ok_s hs (by decide)
      · exact ok_s hs (by decide))
    (by
      intro p hp
      simp only [nRet, List.mem_cons, List.not_mem_nil, or_false] at hp
      rcases hp with rfl | rfl | rfl | rfl <;> dsimp only
      · exact valP (tM (by omega)) (by omega) (by omega) (Or.inl (wv_M_b3 hb8))
      · exact valP (tN (by omega)) (by omega) (by omega) (Or.inl (wv_M_E hs6 hb8))
      · exact val0 (wv_P_s4 hs6) (by omega)
      · exact valP (tM (by omega)) (by omega) (by omega) (Or.inr ⟨wv_M_s0 hs6, by omega⟩))
    (by
      simp only [nRet, ksum]
      rw [wv_T_b3 hb8, wv_T_E hs6 hb8, wv_T_s4 hs6, wv_T_s0 hs6]
      simp (disch := omega) only [tN, tM]
      omega)
    (by
      simp only [nRet, ksum]
      rw [wv_G_b3 hb8, wv_G_E hs6 hb8, wv_G_s4 hs6, wv_G_s0 hs6, wv_F_b3 hb8, wv_F_E hs6 hb8, wv_F_s4 hs6, wv_F_s0 hs6]
      simp (disch := omega) only [tN, tM]
      omega)
    (by
      simp only [nRet, ksum]
      rw [wv_G_b3 hb8, wv_G_E hs6 hb8, wv_G_s4 hs6, wv_G_s0 hs6, wv_F_b3 hb8, wv_F_E hs6 hb8, wv_F_s4 hs6, wv_F_s0 hs6]
      simp (disch := omega) only [tN, tM]
      omega)
    (by
      simp only [nRet, ksum]
      rw [wv_D_b3 hb8, wv_D_E hs6 hb8, wv_D_s4 hs6, wv_D_s0 hs6]
      simp (disch := omega) only [tN, tM]
      omega)
  have eA : ksum (wA (dp m) (m 10).toInt) (nRet b s x D) = 0 := by
    simp only [nRet, ksum]
    rw [wv_A_b3 hb8, wv_A_E hs6 hb8, wv_A_s4 hs6, wv_A_s0 hs6]
    rw [dp_of hb8 hk ek ed hd]
    simp (disch := omega) only [tN, tM]
    push_cast
    grind
  have eB : ksum wB (nRet b s x D) = 0 := by
    simp only [nRet, ksum]
    rw [wv_B_b3 hb8, wv_B_E hs6 hb8, wv_B_s4 hs6, wv_B_s0 hs6]
    simp (disch := omega) only [tN, tM]
    omega
  rw [eA, eB] at q
  exact q
def nBrk (b s x D Q : Nat) : List (Nat × Int32) := [(93 + 21 * s + (13 + b), -nI x), (13 + 10 * b + 5, nI x), (4, nI D), (5, -nI Q), (93 + 21 * s + 0, nI Q), (93 + 21 * s + 3, -nI Q)]
theorem gBrk {B n t : Nat} {m : Nat → Int32} {b s x D Q k d : Nat} (h : gJ B n t m) (hb : b < n) (hs : s < t) (hk : k < 3) (ek : m (13 + 10 * b + 0) = nI k) (ed : m (7 + k) = nI d) (hd1 : 1 ≤ d) (hd : d ≤ 100) (hx : x ≤ 500) (c1 : (x : Int) ≤ (m (93 + 21 * s + (13 + b))).toInt) (hD : D = x * d) (hQ : Q ≤ D) (c2 : (Q : Int) ≤ (m 5).toInt) (hB : B < 2000000000) : gQ (B + 50000) n t 0 0 (adds m (nBrk b s x D Q)) := by
  obtain ⟨hn, ht, -, -⟩ := h.1
  have hb8 : b < 8 := by omega
  have hs6 : s < 6 := by omega
  have hDb : D ≤ 50000 := by
    rw [hD]
    exact Nat.le_trans (Nat.mul_le_mul hx hd) (by decide)
  have hDx : x ≤ D := by
    rw [hD]
    exact Nat.le_mul_of_pos_right x hd1
  have hDy : D ≤ 100 * x := by
    rw [hD, Nat.mul_comm]
    exact Nat.mul_le_mul_right x hd
  have t1 := gJ_T h (j := 93 + 21 * s + (13 + b)) (by omega) (wv_T_E hs6 hb8)
  have t2 := gJ_T h (j := 13 + 10 * b + 5) (by omega) (wv_T_b5 hb8)
  have t3 := gJ_F h
  have t4 := gJ_M h (j := 5) (by omega) (wv_M_g5)
  have t5 := gJ_M h (j := 93 + 21 * s + 0) (by omega) (wv_M_s0 hs6)
  have q := gQ_adds (B' := B + 50000) (L := nBrk b s x D Q) h (by omega)
    (by simp only [nBrk, List.map_cons, List.map_nil, List.nodup_cons, List.mem_cons, List.not_mem_nil, or_false, not_or, List.nodup_nil, and_true, not_false_eq_true]; omega)
    (by
      intro p hp
      simp only [nBrk, List.mem_cons, List.not_mem_nil, or_false] at hp
      rcases hp with rfl | rfl | rfl | rfl | rfl | rfl <;> dsimp only
      · exact ok_E hs hb
      · exact ok_b hb (by decide) (by decide)
      · exact ok_g (by decide) (by decide)
      · exact ok_g (by decide) (by decide)
      · exact ok_s hs (by decide)
      · exact ok_s hs (by decide))
    (by
      intro p hp
      simp only [nBrk, List.mem_cons, List.not_mem_nil, or_false] at hp
      rcases hp with rfl | rfl | rfl | rfl | rfl | rfl <;> dsimp only
      · exact valP (tM (by omega)) (by omega) (by omega) (Or.inl (wv_M_E hs6 hb8))
      · exact valP (tN (by omega)) (by omega) (by omega) (Or.inl (wv_M_b5 hb8))
      · exact valP (tN (by omega)) (by omega) (by omega) (Or.inl (wv_M_g4))
      · exact valP (tM (by omega)) (by omega) (by omega) (Or.inr ⟨wv_M_g5, by omega⟩)
      · exact valP (tN (by omega)) (by omega) (by omega) (Or.inr ⟨wv_M_s0 hs6, by omega⟩)
      · exact val0 (wv_P_s3 hs6) (by omega))
    (by
      simp only [nBrk, ksum]
      rw [wv_T_E hs6 hb8, wv_T_b5 hb8, wv_T_g4, wv_T_g5, wv_T_s0 hs6, wv_T_s3 hs6]
      simp (disch := omega) only [tN, tM]
      omega)
    (by
      simp only [nBrk, ksum]
      rw [wv_G_E hs6 hb8, wv_G_b5 hb8, wv_G_g4, wv_G_g5, wv_G_s0 hs6, wv_G_s3 hs6, wv_F_E hs6 hb8, wv_F_b5 hb8, wv_F_g4, wv_F_g5, wv_F_s0 hs6, wv_F_s3 hs6]
      simp (disch := omega) only [tN, tM]
      omega)
    (by
      simp only [nBrk, ksum]
      rw [wv_G_E hs6 hb8, wv_G_b5 hb8, wv_G_g4, wv_G_g5, wv_G_s0 hs6, wv_G_s3 hs6, wv_F_E hs6 hb8, wv_F_b5 hb8, wv_F_g4, wv_F_g5, wv_F_s0 hs6, wv_F_s3 hs6]
      simp (disch := omega) only [tN, tM]
      omega)
    (by
      simp only [nBrk, ksum]
      rw [wv_D_E hs6 hb8, wv_D_b5 hb8, wv_D_g4, wv_D_g5, wv_D_s0 hs6, wv_D_s3 hs6]
      simp (disch := omega) only [tN, tM]
      omega)
  have eA : ksum (wA (dp m) (m 10).toInt) (nBrk b s x D Q) = 0 := by
    simp only [nBrk, ksum]
    rw [wv_A_E hs6 hb8, wv_A_b5 hb8, wv_A_g4, wv_A_g5, wv_A_s0 hs6, wv_A_s3 hs6]
    rw [dp_of hb8 hk ek ed hd]
    simp (disch := omega) only [tN, tM]
    rw [hD]
    push_cast
    grind
  have eB : ksum wB (nBrk b s x D Q) = 0 := by
    simp only [nBrk, ksum]
    rw [wv_B_E hs6 hb8, wv_B_b5 hb8, wv_B_g4, wv_B_g5, wv_B_s0 hs6, wv_B_s3 hs6]
    simp (disch := omega) only [tN, tM]
    omega
  rw [eA, eB] at q
  exact q
def nLos (b x D : Nat) : List (Nat × Int32) := [(13 + 10 * b + 3, -nI x), (13 + 10 * b + 6, nI x), (4, nI D)]
theorem gLos {B n t : Nat} {m : Nat → Int32} {b x D k d : Nat} (h : gJ B n t m) (hb : b < n) (hk : k < 3) (ek : m (13 + 10 * b + 0) = nI k) (ed : m (7 + k) = nI d) (hd1 : 1 ≤ d) (hd : d ≤ 100) (hx : x ≤ 5000) (c1 : (x : Int) ≤ (m (13 + 10 * b + 3)).toInt) (hD : D = x * d) (hB : B < 2000000000) : gQ (B + 0) n t 0 0 (adds m (nLos b x D)) := by
  obtain ⟨hn, ht, -, -⟩ := h.1
  have hb8 : b < 8 := by omega
  have hDb : D ≤ 500000 := by
    rw [hD]
    exact Nat.le_trans (Nat.mul_le_mul hx hd) (by decide)
  have hDx : x ≤ D := by
    rw [hD]
    exact Nat.le_mul_of_pos_right x hd1
  have hDy : D ≤ 100 * x := by
    rw [hD, Nat.mul_comm]
    exact Nat.mul_le_mul_right x hd
  have t1 := gJ_T h (j := 13 + 10 * b + 3) (by omega) (wv_T_b3 hb8)
  have t2 := gJ_T h (j := 13 + 10 * b + 6) (by omega) (wv_T_b6 hb8)
  have t3 := gJ_F h
  have q := gQ_adds (B' := B + 0) (L := nLos b x D) h (by omega)
    (by simp only [nLos, List.map_cons, List.map_nil, List.nodup_cons, List.mem_cons, List.not_mem_nil, or_false, not_or, List.nodup_nil, and_true, not_false_eq_true]; omega)
    (by
      intro p hp
      simp only [nLos, List.mem_cons, List.not_mem_nil, or_false] at hp
      rcases hp with rfl | rfl | rfl <;> dsimp only
      · exact ok_b hb (by decide) (by decide)
      · exact ok_b hb (by decide) (by decide)
      · exact ok_g (by decide) (by decide))
    (by
      intro p hp
      simp only [nLos, List.mem_cons, List.not_mem_nil, or_false] at hp
      rcases hp with rfl | rfl | rfl <;> dsimp only
      · exact valP (tM (by omega)) (by omega) (by omega) (Or.inl (wv_M_b3 hb8))
      · exact valP (tN (by omega)) (by omega) (by omega) (Or.inl (wv_M_b6 hb8))
      · exact valP (tN (by omega)) (by omega) (by omega) (Or.inl (wv_M_g4)))
    (by
      simp only [nLos, ksum]
      rw [wv_T_b3 hb8, wv_T_b6 hb8, wv_T_g4]
      simp (disch := omega) only [tN, tM]
      omega)
    (by
      simp only [nLos, ksum]
      rw [wv_G_b3 hb8, wv_G_b6 hb8, wv_G_g4, wv_F_b3 hb8, wv_F_b6 hb8, wv_F_g4]
      simp (disch := omega) only [tN, tM]
      omega)
    (by
      simp only [nLos, ksum]
      rw [wv_G_b3 hb8, wv_G_b6 hb8, wv_G_g4, wv_F_b3 hb8, wv_F_b6 hb8, wv_F_g4]
      simp (disch := omega) only [tN, tM]
      omega)
    (by
      simp only [nLos, ksum]
      rw [wv_D_b3 hb8, wv_D_b6 hb8, wv_D_g4]
      simp (disch := omega) only [tN, tM]
      omega)
  have eA : ksum (wA (dp m) (m 10).toInt) (nLos b x D) = 0 := by
    simp only [nLos, ksum]
    rw [wv_A_b3 hb8, wv_A_b6 hb8, wv_A_g4]
    rw [dp_of hb8 hk ek ed hd]
    simp (disch := omega) only [tN, tM]
    rw [hD]
    push_cast
    grind
  have eB : ksum wB (nLos b x D) = 0 := by
    simp only [nLos, ksum]
    rw [wv_B_b3 hb8, wv_B_b6 hb8, wv_B_g4]
    simp (disch := omega) only [tN, tM]
    omega
  rw [eA, eB] at q
  exact q
def nFil (b x y w : Nat) : List (Nat × Int32) := [(13 + 10 * b + 1, -nI x), (13 + 10 * b + 2, nI y), (13 + 10 * b + 7, nI w), (13 + 10 * b + 8, nI x)]
theorem gFil {B n t : Nat} {m : Nat → Int32} {b x y w : Nat} (h : gJ B n t m) (hb : b < n) (hx : x ≤ 5000) (c1 : (x : Int) ≤ (m (13 + 10 * b + 1)).toInt) (hy : x = y + w) (hB : B < 2000000000) : gQ (B + 5000) n t 0 0 (adds m (nFil b x y w)) := by
  obtain ⟨hn, ht, -, -⟩ := h.1
  have hb8 : b < 8 := by omega
  have t1 := gJ_T h (j := 13 + 10 * b + 1) (by omega) (wv_T_b1 hb8)
  have t2 := gJ_T h (j := 13 + 10 * b + 2) (by omega) (wv_T_b2 hb8)
  have t3 := gJ_T h (j := 13 + 10 * b + 7) (by omega) (wv_T_b7 hb8)
  have t4 := gJ_M h (j := 13 + 10 * b + 8) (by omega) (wv_M_b8 hb8)
  have q := gQ_adds (B' := B + 5000) (L := nFil b x y w) h (by omega)
    (by simp only [nFil, List.map_cons, List.map_nil, List.nodup_cons, List.mem_cons, List.not_mem_nil, or_false, not_or, List.nodup_nil, and_true, not_false_eq_true]; omega)
    (by
      intro p hp
      simp only [nFil, List.mem_cons, List.not_mem_nil, or_false] at hp
      rcases hp with rfl | rfl | rfl | rfl <;> dsimp only
      · exact ok_b hb (by decide) (by decide)
      · exact ok_b hb (by decide) (by decide)
      · exact ok_b hb (by decide) (by decide)
      · exact ok_b hb (by decide) (by decide))
    (by
      intro p hp
      simp only [nFil, List.mem_cons, List.not_mem_nil, or_false] at hp
      rcases hp with rfl | rfl | rfl | rfl <;> dsimp only
      · exact valP (tM (by omega)) (by omega) (by omega) (Or.inl (wv_M_b1 hb8))
      · exact valP (tN (by omega)) (by omega) (by omega) (Or.inl (wv_M_b2 hb8))
      · exact valP (tN (by omega)) (by omega) (by omega) (Or.inl (wv_M_b7 hb8))
      · exact valP (tN (by omega)) (by omega) (by omega) (Or.inr ⟨wv_M_b8 hb8, by omega⟩))
    (by
      simp only [nFil, ksum]
      rw [wv_T_b1 hb8, wv_T_b2 hb8, wv_T_b7 hb8, wv_T_b8 hb8]
      simp (disch := omega) only [tN, tM]
      omega)
    (by
      simp only [nFil, ksum]
      rw [wv_G_b1 hb8, wv_G_b2 hb8, wv_G_b7 hb8, wv_G_b8 hb8, wv_F_b1 hb8, wv_F_b2 hb8, wv_F_b7 hb8, wv_F_b8 hb8]
      simp (disch := omega) only [tN, tM]
      omega)
    (by
      simp only [nFil, ksum]
      rw [wv_G_b1 hb8, wv_G_b2 hb8, wv_G_b7 hb8, wv_G_b8 hb8, wv_F_b1 hb8, wv_F_b2 hb8, wv_F_b7 hb8, wv_F_b8 hb8]
      simp (disch := omega) only [tN, tM]
      omega)
    (by
      simp only [nFil, ksum]
      rw [wv_D_b1 hb8, wv_D_b2 hb8, wv_D_b7 hb8, wv_D_b8 hb8]
      simp (disch := omega) only [tN, tM]
      omega)
  have eA : ksum (wA (dp m) (m 10).toInt) (nFil b x y w) = 0 := by
    simp only [nFil, ksum]
    rw [wv_A_b1 hb8, wv_A_b2 hb8, wv_A_b7 hb8, wv_A_b8 hb8]
    simp (disch := omega) only [tN, tM]
    omega
  have eB : ksum wB (nFil b x y w) = 0 := by
    simp only [nFil, ksum]
    rw [wv_B_b1 hb8, wv_B_b2 hb8, wv_B_b7 hb8, wv_B_b8 hb8]
    simp (disch := omega) only [tN, tM]
    omega
  rw [eA, eB] at q
  exact q
def nMov (b s : Nat) : List (Nat × Int32) := [(93 + 21 * s + (13 + b), -nI 1), (13 + 10 * b + 4, nI 1)]
theorem gMov {B n t : Nat} {m : Nat → Int32} {b s k d : Nat} {α β : Int} (h : gQ B n t α β m) (hb : b < n) (hs : s < t) (hk : k < 3) (ek : m (13 + 10 * b + 0) = nI k) (ed : m (7 + k) = nI d) (hd1 : 1 ≤ d) (hd : d ≤ 100) (c1 : (1 : Int) ≤ (m (93 + 21 * s + (13 + b))).toInt) (hB : B < 2000000000) : gQ (B + 0) n t (α + (-(d : Int))) (β + 1) (adds m (nMov b s)) := by
  obtain ⟨hn, ht, -, -⟩ := h.1
  have hb8 : b < 8 := by omega
  have hs6 : s < 6 := by omega
  have t1 := gJ_T h (j := 93 + 21 * s + (13 + b)) (by omega) (wv_T_E hs6 hb8)
  have t2 := gJ_T h (j := 13 + 10 * b + 4) (by omega) (wv_T_b4 hb8)
  have q := gQ_adds (B' := B + 0) (L := nMov b s) h (by omega)
    (by simp only [nMov, List.map_cons, List.map_nil, List.nodup_cons, List.mem_cons, List.not_mem_nil, or_false, not_or, List.nodup_nil, and_true, not_false_eq_true]; omega)
    (by
      intro p hp
      simp only [nMov, List.mem_cons, List.not_mem_nil, or_false] at hp
      rcases hp with rfl | rfl <;> dsimp only
      · exact ok_E hs hb
      · exact ok_b hb (by decide) (by decide))
    (by
      intro p hp
      simp only [nMov, List.mem_cons, List.not_mem_nil, or_false] at hp
      rcases hp with rfl | rfl <;> dsimp only
      · exact valP (tM (by omega)) (by omega) (by omega) (Or.inl (wv_M_E hs6 hb8))
      · exact valP (tN (by omega)) (by omega) (by omega) (Or.inl (wv_M_b4 hb8)))
    (by
      simp only [nMov, ksum]
      rw [wv_T_E hs6 hb8, wv_T_b4 hb8]
      simp (disch := omega) only [tN, tM]
      omega)
    (by
      simp only [nMov, ksum]
      rw [wv_G_E hs6 hb8, wv_G_b4 hb8, wv_F_E hs6 hb8, wv_F_b4 hb8]
      simp (disch := omega) only [tN, tM]
      omega)
    (by
      simp only [nMov, ksum]
      rw [wv_G_E hs6 hb8, wv_G_b4 hb8, wv_F_E hs6 hb8, wv_F_b4 hb8]
      simp (disch := omega) only [tN, tM]
      omega)
    (by
      simp only [nMov, ksum]
      rw [wv_D_E hs6 hb8, wv_D_b4 hb8]
      simp (disch := omega) only [tN, tM]
      omega)
  have eA : ksum (wA (dp m) (m 10).toInt) (nMov b s) = -(d : Int) := by
    simp only [nMov, ksum]
    rw [wv_A_E hs6 hb8, wv_A_b4 hb8]
    rw [dp_of hb8 hk ek ed hd]
    simp (disch := omega) only [tN, tM]
    omega
  have eB : ksum wB (nMov b s) = 1 := by
    simp only [nMov, ksum]
    rw [wv_B_E hs6 hb8, wv_B_b4 hb8]
    simp (disch := omega) only [tN, tM]
    omega
  rw [eA, eB] at q
  exact q
def nSrt (b x : Nat) : List (Nat × Int32) := [(13 + 10 * b + 4, -nI x), (13 + 10 * b + 1, nI x)]
theorem gSrt {B n t : Nat} {m : Nat → Int32} {b x : Nat} (h : gJ B n t m) (hb : b < n) (c1 : (x : Int) ≤ (m (13 + 10 * b + 4)).toInt) (hx : x ≤ 40000) (hB : B < 2000000000) : gQ (B + 0) n t 0 0 (adds m (nSrt b x)) := by
  obtain ⟨hn, ht, -, -⟩ := h.1
  have hb8 : b < 8 := by omega
  have t1 := gJ_T h (j := 13 + 10 * b + 4) (by omega) (wv_T_b4 hb8)
  have t2 := gJ_T h (j := 13 + 10 * b + 1) (by omega) (wv_T_b1 hb8)
  have q := gQ_adds (B' := B + 0) (L := nSrt b x) h (by omega)
    (by simp only [nSrt, List.map_cons, List.map_nil, List.nodup_cons, List.mem_cons, List.not_mem_nil, or_false, not_or, List.nodup_nil, and_true, not_false_eq_true]; omega)
    (by
      intro p hp
      simp only [nSrt, List.mem_cons, List.not_mem_nil, or_false] at hp
      rcases hp with rfl | rfl <;> dsimp only
      · exact ok_b hb (by decide) (by decide)
      · exact ok_b hb (by decide) (by decide))
    (by
      intro p hp
      simp only [nSrt, List.mem_cons, List.not_mem_nil, or_false] at hp
      rcases hp with rfl | rfl <;> dsimp only
      · exact valP (tM (by omega)) (by omega) (by omega) (Or.inl (wv_M_b4 hb8))
      · exact valP (tN (by omega)) (by omega) (by omega) (Or.inl (wv_M_b1 hb8)))
    (by
      simp only [nSrt, ksum]
      rw [wv_T_b4 hb8, wv_T_b1 hb8]
      simp (disch := omega) only [tN, tM]
      omega)
    (by
      simp only [nSrt, ksum]
      rw [wv_G_b4 hb8, wv_G_b1 hb8, wv_F_b4 hb8, wv_F_b1 hb8]
      simp (disch := omega) only [tN, tM]
      omega)
    (by
      simp only [nSrt, ksum]
      rw [wv_G_b4 hb8, wv_G_b1 hb8, wv_F_b4 hb8, wv_F_b1 hb8]
      simp (disch := omega) only [tN, tM]
      omega)
    (by
      simp only [nSrt, ksum]
      rw [wv_D_b4 hb8, wv_D_b1 hb8]
      simp (disch := omega) only [tN, tM]
      omega)
  have eA : ksum (wA (dp m) (m 10).toInt) (nSrt b x) = 0 := by
    simp only [nSrt, ksum]
    rw [wv_A_b4 hb8, wv_A_b1 hb8]
    simp (disch := omega) only [tN, tM]
    omega
  have eB : ksum wB (nSrt b x) = 0 := by
    simp only [nSrt, ksum]
    rw [wv_B_b4 hb8, wv_B_b1 hb8]
    simp (disch := omega) only [tN, tM]
    omega
  rw [eA, eB] at q
  exact q
def nTai (s x D : Nat) : List (Nat × Int32) := [(93 + 21 * s + 1, -nI x), (2, nI x), (93 + 21 * s + 0, nI D), (93 + 21 * s + 2, -nI D), (3, -nI D)]
theorem gTai {B n t : Nat} {m : Nat → Int32} {s x D d c : Nat} {α β : Int} (h : gQ B n t α β m) (hs : s < t) (ec : m 10 = nI c) (hc : c ≤ 500) (hd : d ≤ 100) (hx : x ≤ 50) (c1 : (x : Int) ≤ (m (93 + 21 * s + 1)).toInt) (hD : D = x * (12 * d + c)) (c3 : 0 ≤ (m 3).toInt) (hB : B < 2000000000) : gQ (B + 85000) n t (α + 12 * (d * x : Nat)) (β + (-12 * x)) (adds m (nTai s x D)) := by
  obtain ⟨hn, ht, -, -⟩ := h.1
  have hs6 : s < 6 := by omega
  have h39 := iRg (m 3)
  have hDb : D ≤ 85000 := by
    rw [hD]
    exact Nat.le_trans (Nat.mul_le_mul hx (show 12 * d + c ≤ 1700 by omega)) (by decide)
  have t1 := gJ_D h (j := 93 + 21 * s + 1) (by omega) (wv_D_s1 hs6)
  have t2 := gJ_D h (j := 2) (by omega) (wv_D_g2)
  have t3 := gJ_M h (j := 93 + 21 * s + 0) (by omega) (wv_M_s0 hs6)
  have q := gQ_adds (B' := B + 85000) (L := nTai s x D) h (by omega)
    (by simp only [nTai, List.map_cons, List.map_nil, List.nodup_cons, List.mem_cons, List.not_mem_nil, or_false, not_or, List.nodup_nil, and_true, not_false_eq_true]; omega)
    (by
      intro p hp
      simp only [nTai, List.mem_cons, List.not_mem_nil, or_false] at hp
      rcases hp with rfl | rfl | rfl | rfl | rfl <;> dsimp only
      · exact ok_s hs (by decide)
      · exact ok_g (by decide) (by decide)
      · exact ok_s hs (by decide)
      · exact ok_s hs (by decide)
      · exact ok_g (by decide) (by decide))
    (by
      intro p hp
      simp only [nTai, List.mem_cons, List.not_mem_nil, or_false] at hp
      rcases hp with rfl | rfl | rfl | rfl | rfl <;> dsimp only
      · exact valP (tM (by omega)) (by omega) (by omega) (Or.inl (wv_M_s1 hs6))
      · exact valP (tN (by omega)) (by omega) (by omega) (Or.inl (wv_M_g2))
      · exact valP (tN (by omega)) (by omega) (by omega) (Or.inr ⟨wv_M_s0 hs6, by omega⟩)
      · exact val0 (wv_P_s2 hs6) (by omega)
      · exact val3 (tM (by omega)) (by omega) (by omega))
    (by
      simp only [nTai, ksum]
      rw [wv_T_s1 hs6, wv_T_g2, wv_T_s0 hs6, wv_T_s2 hs6, wv_T_g3]
      simp (disch := omega) only [tN, tM]
      omega)
    (by
      simp only [nTai, ksum]
      rw [wv_G_s1 hs6, wv_G_g2, wv_G_s0 hs6, wv_G_s2 hs6, wv_G_g3, wv_F_s1 hs6, wv_F_g2, wv_F_s0 hs6, wv_F_s2 hs6, wv_F_g3]
      simp (disch := omega) only [tN, tM]
      omega)
    (by
      simp only [nTai, ksum]
      rw [wv_G_s1 hs6, wv_G_g2, wv_G_s0 hs6, wv_G_s2 hs6, wv_G_g3, wv_F_s1 hs6, wv_F_g2, wv_F_s0 hs6, wv_F_s2 hs6, wv_F_g3]
      simp (disch := omega) only [tN, tM]
      omega)
    (by
      simp only [nTai, ksum]
      rw [wv_D_s1 hs6, wv_D_g2, wv_D_s0 hs6, wv_D_s2 hs6, wv_D_g3]
      simp (disch := omega) only [tN, tM]
      omega)
  have eA : ksum (wA (dp m) (m 10).toInt) (nTai s x D) = 12 * (d * x : Nat) := by
    simp only [nTai, ksum]
    rw [wv_A_s1 hs6, wv_A_g2, wv_A_s0 hs6, wv_A_s2 hs6, wv_A_g3]
    rw [ec]
    simp (disch := omega) only [tN, tM]
    rw [hD]
    push_cast
    grind
  have eB : ksum wB (nTai s x D) = -12 * x := by
    simp only [nTai, ksum]
    rw [wv_B_s1 hs6, wv_B_g2, wv_B_s0 hs6, wv_B_s2 hs6, wv_B_g3]
    simp (disch := omega) only [tN, tM]
    omega
  rw [eA, eB] at q
  exact q
def nSwp (b e x : Nat) : List (Nat × Int32) := [(13 + 10 * b + 1, -nI x), (13 + 10 * e + 1, nI x), (13 + 10 * b + 9, nI x), (13 + 10 * e + 9, -nI x)]
theorem gSwp {B n t : Nat} {m : Nat → Int32} {b e x : Nat} (h : gJ B n t m) (hb : b < n) (he : e < n) (hne : b ≠ e) (hx : x ≤ 5000) (c1 : (x : Int) ≤ (m (13 + 10 * b + 1)).toInt) (hB : B < 2000000000) : gQ (B + 0) n t 0 0 (adds m (nSwp b e x)) := by
  obtain ⟨hn, ht, -, -⟩ := h.1
  have hb8 : b < 8 := by omega
  have he8 : e < 8 := by omega
  have t1 := gJ_T h (j := 13 + 10 * b + 1) (by omega) (wv_T_b1 hb8)
  have t2 := gJ_T h (j := 13 + 10 * e + 1) (by omega) (wv_T_b1 he8)
  have q := gQ_adds (B' := B + 0) (L := nSwp b e x) h (by omega)
    (by simp only [nSwp, List.map_cons, List.map_nil, List.nodup_cons, List.mem_cons, List.not_mem_nil, or_false, not_or, List.nodup_nil, and_true, not_false_eq_true]; omega)
    (by
      intro p hp
      simp only [nSwp, List.mem_cons, List.not_mem_nil, or_false] at hp
      rcases hp with rfl | rfl | rfl | rfl <;> dsimp only
      · exact ok_b hb (by decide) (by decide)
      · exact ok_b he (by decide) (by decide)
      · exact ok_b hb (by decide) (by decide)
      · exact ok_b he (by decide) (by decide))
    (by
      intro p hp
      simp only [nSwp, List.mem_cons, List.not_mem_nil, or_false] at hp
      rcases hp with rfl | rfl | rfl | rfl <;> dsimp only
      · exact valP (tM (by omega)) (by omega) (by omega) (Or.inl (wv_M_b1 hb8))
      · exact valP (tN (by omega)) (by omega) (by omega) (Or.inl (wv_M_b1 he8))
      · exact val0 (wv_P_b9 hb8) (by omega)
      · exact val0 (wv_P_b9 he8) (by omega))
    (by
      simp only [nSwp, ksum]
      rw [wv_T_b1 hb8, wv_T_b1 he8, wv_T_b9 hb8, wv_T_b9 he8]
      simp (disch := omega) only [tN, tM]
      omega)
    (by
      simp only [nSwp, ksum]
      rw [wv_G_b1 hb8, wv_G_b1 he8, wv_G_b9 hb8, wv_G_b9 he8, wv_F_b1 hb8, wv_F_b1 he8, wv_F_b9 hb8, wv_F_b9 he8]
      simp (disch := omega) only [tN, tM]
      omega)
    (by
      simp only [nSwp, ksum]
      rw [wv_G_b1 hb8, wv_G_b1 he8, wv_G_b9 hb8, wv_G_b9 he8, wv_F_b1 hb8, wv_F_b1 he8, wv_F_b9 hb8, wv_F_b9 he8]
      simp (disch := omega) only [tN, tM]
      omega)
    (by
      simp only [nSwp, ksum]
      rw [wv_D_b1 hb8, wv_D_b1 he8, wv_D_b9 hb8, wv_D_b9 he8]
      simp (disch := omega) only [tN, tM]
      omega)
  have eA : ksum (wA (dp m) (m 10).toInt) (nSwp b e x) = 0 := by
    simp only [nSwp, ksum]
    rw [wv_A_b1 hb8, wv_A_b1 he8, wv_A_b9 hb8, wv_A_b9 he8]
    simp (disch := omega) only [tN, tM]
    omega
  have eB : ksum wB (nSwp b e x) = 0 := by
    simp only [nSwp, ksum]
    rw [wv_B_b1 hb8, wv_B_b1 he8, wv_B_b9 hb8, wv_B_b9 he8]
    simp (disch := omega) only [tN, tM]
    omega
  rw [eA, eB] at q
  exact q

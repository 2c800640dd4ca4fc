-- what the law's acts come to, case by case (own text, part by program)
section AC
variable {B n t : Nat} {kd : Nat → Nat} {f : Nat} {m k : Int32} {bb : Nat → Int32} {u : bU}
theorem nlt_of {x : Nat} {z : Int32} (h : ¬ z < nI x) (hx : x < 2147483648) : (x : Int) ≤ z.toInt := by
  rw [Int32.not_lt, iLe, nI_toInt hx] at h
  exact h
theorem act0 (h : GS B n t kd f m k bb u) (h9 : B + 300000 < 2147483648) {b s x c y d : Nat} {a2 zz : Int32} (hb : b < n) (hs : s < t) (hx1 : 1 ≤ x) (hx : x ≤ 40) (hc1 : 1 ≤ c) (hc : c ≤ 3) (hy1 : 1 ≤ y) (hy : y ≤ 5) (hd : d < n) (ea : a2 &&& 7 = nI 0) : ∃ u' : bU, FL_acts u a2 zz (nI b) (nI s) (nI x) (nI c) (nI y) (nI d) = (0, 1, u') ∧ GS (B + 300000) n t kd f m k bb u' := by
  obtain ⟨hI, hK⟩ := h
  have hK0 := KP_0 hK
  obtain ⟨hn, ht, -, -⟩ := hI.1.1
  have hb8 : b < 8 := by omega
  have hs6 : s < 6 := by omega
  have hN := hI.2.2.1
  rw [FL_acts, ea, if_pos (show nI 0 = (0 : Int32) from rfl)]
  rw [if_pos (show F5_needRange (nI x) 1 5000 = 0 from v_rng (l := 1) (h := 5000) hx1 (by omega) (by decide))]
  by_cases q : F5_brand u (nI b) 1 < nI x
  · rw [if_pos q]
    exact ⟨u, rfl, INV_up hI (by omega), hK⟩
  · rw [if_neg q]
    rw [v_b1 hb8] at q ⊢
    obtain ⟨z, u', e1, e2, e3, -, e5⟩ := F_fill hI hK0 (by omega) hb hx1 (show x ≤ 5000 by omega) (nlt_of q (by omega))
    rw [e1, e2]
    dsimp only
    rw [if_pos rfl, if_pos rfl, if_pos (INV_nb e5.1 hb), v_b1 hb8, if_pos e3]
    exact ⟨u', rfl, GS_up e5 (by omega)⟩
theorem act1 (h : GS B n t kd f m k bb u) (h9 : B + 300000 < 2147483648) {b s x c y d : Nat} {a2 zz : Int32} (hb : b < n) (hs : s < t) (hx1 : 1 ≤ x) (hx : x ≤ 40) (hc1 : 1 ≤ c) (hc : c ≤ 3) (hy1 : 1 ≤ y) (hy : y ≤ 5) (hd : d < n) (ea : a2 &&& 7 = nI 1) : ∃ u' : bU, FL_acts u a2 zz (nI b) (nI s) (nI x) (nI c) (nI y) (nI d) = (0, 1, u') ∧ GS (B + 300000) n t kd f m k bb u' := by
  obtain ⟨hI, hK⟩ := h
  have hK0 := KP_0 hK
  obtain ⟨hn, ht, -, -⟩ := hI.1.1
  have hb8 : b < 8 := by omega
  have hs6 : s < 6 := by omega
  have hN := hI.2.2.1
  rw [FL_acts, ea, if_neg (show ¬ nI 1 = (0 : Int32) by decide), if_pos (show nI 1 = (1 : Int32) from rfl)]
  rw [if_pos (show F5_needRange (nI c) 1 50 = 0 from v_rng (l := 1) (h := 50) hc1 (by omega) (by decide)), if_pos (INV_st hI hb8)]
  obtain ⟨F, hF, eF⟩ := rg_nat (hN _ (pP_b hb8 (w := 2) (by omega)))
  obtain ⟨S, hS, eS⟩ := rg_nat (hN _ pP_2)
  obtain ⟨M, hM, eM⟩ := rg_nat (hN _ (pP_s hs6 (w := 0) (by omega)))
  have hdp := dpo_r (kd := kd) b
  have eW : F5_whyNotDeliver u (nI b) (nI s) (nI c) = _ := F_why hI hb8 hs6 (x := c) (by omega) eF eS eM (by omega) (by omega) (by omega)
  have eQ := F_most hI hb8 hs6 eF eS eM (by omega) (by omega) (by omega)
  have hdiv : c ≤ M / (12 * dpo kd b + 150 + 6) ↔ c * (12 * dpo kd b + 150 + 6) ≤ M := Nat.le_div_iff_mul_le (by omega)
  have hdiv2 : c ≤ F / 12 ↔ 12 * c ≤ F := by omega
  generalize hP : M / (12 * dpo kd b + 150 + 6) = P at *
  rw [eQ]
  by_cases q : 12 * c ≤ F ∧ c ≤ S ∧ c * (12 * dpo kd b + 150 + 6) ≤ M
  · obtain ⟨q1, q2, q3⟩ := q
    rw [if_pos q1, if_pos q2, if_pos q3] at eW
    have q4 := hdiv.mpr q3
    have q5 : c * (12 * dpo kd b + 150) + c * 6 = c * (12 * dpo kd b + 150 + 6) := by rw [Nat.mul_add c (12 * dpo kd b + 150) 6]
    rw [eW, if_pos rfl, if_neg (nI_nlt (by omega) (by omega)), if_neg (by decide)]
    obtain ⟨u', e1, e2⟩ := F_deliver hI hK0 (by omega) hb hs hc1 (by omega) (by rw [toI_of eF (by omega)]; omega) (by rw [toI_of eS (by omega)]; omega) (by rw [toI_of eM (by omega), q5]; omega) eW
    rw [e1]
    dsimp only
    rw [if_pos rfl, if_pos ?_]
    · exact ⟨u', rfl, GS_up e2 (by omega)⟩
    · obtain ⟨-, -, -, g4, g5, -⟩ := hI.1.2.2
      rw [v_dep hI.1 hb8, v_st3, v_st4, g4, g5]
      unfold gd
      rw [show (12 : Int32) = nI 12 from rfl, pk_mul, nI_add, nI_add, pk_mul, q5]
  · have hr : ∃ r : Nat, 1 ≤ r ∧ r ≤ 3 ∧ F5_whyNotDeliver u (nI b) (nI s) (nI c) = nI r := by
      rw [eW]
      by_cases q1 : 12 * c ≤ F
      · rw [if_pos q1]
        by_cases q2 : c ≤ S
        · rw [if_pos q2, if_neg (fun q3 => q ⟨q1, q2, q3⟩)]
          exact ⟨3, by decide, by decide, rfl⟩
        · rw [if_neg q2]
          exact ⟨2, by decide, by decide, rfl⟩
      · rw [if_neg q1]
        exact ⟨1, by decide, by decide, rfl⟩
    obtain ⟨r, r1, r2, er⟩ := hr
    have hlt : min (min (min (F / 12) S) P) 50 < c := by
      rcases Nat.lt_or_ge (min (min (min (F / 12) S) P) 50) c with z | z
      · exact z
      · exact absurd ⟨hdiv2.mp (by omega), by omega, hdiv.mp (by omega)⟩ q
    rw [er, if_neg (nI_ne0 (by omega) (by omega)), if_pos (nI_lt hlt (by omega)), if_pos (show (0 : Int32) < nI r from nI_lt (a := 0) (b := r) (by omega) (by omega))]
    exact ⟨u, rfl, INV_up hI (by omega), hK⟩
theorem act2 (h : GS B n t kd f m k bb u) (h9 : B + 300000 < 2147483648) {b s x c y d : Nat} {a2 zz : Int32} (hb : b < n) (hs : s < t) (hx1 : 1 ≤ x) (hx : x ≤ 40) (hc1 : 1 ≤ c) (hc : c ≤ 3) (hy1 : 1 ≤ y) (hy : y ≤ 5) (hd : d < n) (ea : a2 &&& 7 = nI 2) : ∃ u' : bU, FL_acts u a2 zz (nI b) (nI s) (nI x) (nI c) (nI y) (nI d) = (0, 1, u') ∧ GS (B + 300000) n t kd f m k bb u' := by
  obtain ⟨hI, hK⟩ := h
  have hK0 := KP_0 hK
  obtain ⟨hn, ht, -, -⟩ := hI.1.1
  have hb8 : b < 8 := by omega
  have hs6 : s < 6 := by omega
  have hN := hI.2.2.1
  rw [FL_acts, ea, if_neg (show ¬ nI 2 = (0 : Int32) by decide), if_neg (show ¬ nI 2 = (1 : Int32) by decide), if_pos (show nI 2 = (2 : Int32) from rfl)]
  rw [if_pos (show F5_needRange (nI c) 1 50 = 0 from v_rng (l := 1) (h := 50) hc1 (by omega) (by decide)), if_pos (INV_st hI hb8)]
  obtain ⟨F, hF, eF⟩ := rg_nat (hN _ (pP_b hb8 (w := 2) (by omega)))
  obtain ⟨S, hS, eS⟩ := rg_nat (hN _ pP_2)
  obtain ⟨M, hM, eM⟩ := rg_nat (hN _ (pP_s hs6 (w := 0) (by omega)))
  have hdp := dpo_r (kd := kd) b
  have eW : F5_whyNotDeliver u (nI b) (nI s) (nI c) = _ := F_why hI hb8 hs6 (x := c) (by omega) eF eS eM (by omega) (by omega) (by omega)
  have eQ := F_most hI hb8 hs6 eF eS eM (by omega) (by omega) (by omega)
  have hdiv : c ≤ M / (12 * dpo kd b + 150 + 6) ↔ c * (12 * dpo kd b + 150 + 6) ≤ M := Nat.le_div_iff_mul_le (by omega)
  have hdiv2 : c ≤ F / 12 ↔ 12 * c ≤ F := by omega
  generalize hP : M / (12 * dpo kd b + 150 + 6) = P at *
  rw [eQ]
  by_cases q : 12 * c ≤ F ∧ c ≤ S ∧ c * (12 * dpo kd b + 150 + 6) ≤ M
  · obtain ⟨q1, q2, q3⟩ := q
    rw [if_pos q1, if_pos q2, if_pos q3] at eW
    have q4 := hdiv.mpr q3
    have q5 : c * (12 * dpo kd b + 150) + c * 6 = c * (12 * dpo kd b + 150 + 6) := by rw [Nat.mul_add c (12 * dpo kd b + 150) 6]
    rw [eW, if_pos rfl, if_neg (nI_nlt (by omega) (by omega)), if_neg (by decide)]
    obtain ⟨u', e1, e2⟩ := F_deliver hI hK0 (by omega) hb hs hc1 (by omega) (by rw [toI_of eF (by omega)]; omega) (by rw [toI_of eS (by omega)]; omega) (by rw [toI_of eM (by omega), q5]; omega) eW
    rw [e1]
    dsimp only
    rw [if_pos rfl, if_pos ?_]
    · exact ⟨u', rfl, GS_up e2 (by omega)⟩
    · obtain ⟨-, -, -, g4, g5, -⟩ := hI.1.2.2
      rw [v_dep hI.1 hb8, v_st3, v_st4, g4, g5]
      unfold gd
      rw [show (12 : Int32) = nI 12 from rfl, pk_mul, nI_add, nI_add, pk_mul, q5]
  · have hr : ∃ r : Nat, 1 ≤ r ∧ r ≤ 3 ∧ F5_whyNotDeliver u (nI b) (nI s) (nI c) = nI r := by
      rw [eW]
      by_cases q1 : 12 * c ≤ F
      · rw [if_pos q1]
        by_cases q2 : c ≤ S
        · rw [if_pos q2, if_neg (fun q3 => q ⟨q1, q2, q3⟩)]
          exact ⟨3, by decide, by decide, rfl⟩
        · rw [if_neg q2]
          exact ⟨2, by decide, by decide, rfl⟩
      · rw [if_neg q1]
        exact ⟨1, by decide, by decide, rfl⟩
    obtain ⟨r, r1, r2, er⟩ := hr
    have hlt : min (min (min (F / 12) S) P) 50 < c := by
      rcases Nat.lt_or_ge (min (min (min (F / 12) S) P) 50) c with z | z
      · exact z
      · exact absurd ⟨hdiv2.mp (by omega), by omega, hdiv.mp (by omega)⟩ q
    rw [er, if_neg (nI_ne0 (by omega) (by omega)), if_pos (nI_lt hlt (by omega)), if_pos (show (0 : Int32) < nI r from nI_lt (a := 0) (b := r) (by omega) (by omega))]
    exact ⟨u, rfl, INV_up hI (by omega), hK⟩
theorem act3 (h : GS B n t kd f m k bb u) (h9 : B + 300000 < 2147483648) {b s x c y d : Nat} {a2 zz : Int32} (hb : b < n) (hs : s < t) (hx1 : 1 ≤ x) (hx : x ≤ 40) (hc1 : 1 ≤ c) (hc : c ≤ 3) (hy1 : 1 ≤ y) (hy : y ≤ 5) (hd : d < n) (ea : a2 &&& 7 = nI 3) : ∃ u' : bU, FL_acts u a2 zz (nI b) (nI s) (nI x) (nI c) (nI y) (nI d) = (0, 1, u') ∧ GS (B + 300000) n t kd f m k bb u' := by
  obtain ⟨hI, hK⟩ := h
  have hK0 := KP_0 hK
  obtain ⟨hn, ht, -, -⟩ := hI.1.1
  have hb8 : b < 8 := by omega
  have hs6 : s < 6 := by omega
  have hN := hI.2.2.1
  rw [FL_acts, ea, if_neg (show ¬ nI 3 = (0 : Int32) by decide), if_neg (show ¬ nI 3 = (1 : Int32) by decide), if_neg (show ¬ nI 3 = (2 : Int32) by decide), if_pos (show nI 3 = (3 : Int32) from rfl)]
  rw [if_pos (show F5_needArgument (F5_isShopNumber (10 + nI b)) = 0 from by rw [show (10 + nI b : Int32) = nI (10 + b) from nI_add 10 b]; exact v_isn (by omega))]
  by_cases q : F5_shop u (nI s) (10 + nI b) < nI x
  · rw [if_pos q]
    exact ⟨u, rfl, INV_up hI (by omega), hK⟩
  · rw [if_neg q]
    rw [v_sF hs6 hb8] at q
    obtain ⟨u', e1, e2⟩ := F_sell hI hK0 (by omega) hb hs hx1 (show x ≤ 500 by omega) (nlt_of q (by omega))
    rw [e1]
    dsimp only
    rw [if_pos rfl, if_pos (INV_nb e2.1 hb), if_pos (INV_st e2.1 hb8), v_dep e2.1.1 hb8, v_s0 hs6, if_pos rfl]
    exact ⟨u', rfl, GS_up e2 (by omega)⟩
theorem act4 (h : GS B n t kd f m k bb u) (h9 : B + 300000 < 2147483648) {b s x c y d : Nat} {a2 zz : Int32} (hb : b < n) (hs : s < t) (hx1 : 1 ≤ x) (hx : x ≤ 40) (hc1 : 1 ≤ c) (hc : c ≤ 3) (hy1 : 1 ≤ y) (hy : y ≤ 5) (hd : d < n) (ea : a2 &&& 7 = nI 4) : ∃ u' : bU, FL_acts u a2 zz (nI b) (nI s) (nI x) (nI c) (nI y) (nI d) = (0, 1, u') ∧ GS (B + 300000) n t kd f m k bb u' := by
  obtain ⟨hI, hK⟩ := h
  have hK0 := KP_0 hK
  obtain ⟨hn, ht, -, -⟩ := hI.1.1
  have hb8 : b < 8 := by omega
  have hs6 : s < 6 := by omega
  have hN := hI.2.2.1
  rw [FL_acts, ea, if_neg (show ¬ nI 4 = (0 : Int32) by decide), if_neg (show ¬ nI 4 = (1 : Int32) by decide), if_neg (show ¬ nI 4 = (2 : Int32) by decide), if_neg (show ¬ nI 4 = (3 : Int32) by decide), if_pos (show nI 4 = (4 : Int32) from rfl)]
  rw [if_pos (INV_st hI hb8)]
  by_cases q : F5_brand u (nI b) 5 < nI x
  · rw [if_pos q]
    exact ⟨u, rfl, INV_up hI (by omega), hK⟩
  · rw [if_neg q]
    rw [v_dep hI.1 hb8, v_s0 hs6]
    by_cases q2 : u 0 (113 + 28 * s + 0) < nI x * gd kd b
    · rw [if_pos q2]
      exact ⟨u, rfl, INV_up hI (by omega), hK⟩
    · rw [if_neg q2]
      have hdp := dpo_r (kd := kd) b
      have hD : x * dpo kd b ≤ 40 * 15 := Nat.mul_le_mul hx hdp.2
      rw [v_b5 hb8] at q
      have q3 : ¬ u 0 (113 + 28 * s + 0) < nI (x * dpo kd b) := by
        unfold gd at q2
        rw [pk_mul] at q2
        exact q2
      obtain ⟨u', e1, e2⟩ := F_takeBack hI hK0 (by omega) hb hs hx1 (show x ≤ 500 by omega) (nlt_of q (by omega)) (nlt_of q3 (by omega))
      rw [e1]
      dsimp only
      rw [if_pos rfl, if_pos rfl]
      exact ⟨u', rfl, GS_up e2 (by omega)⟩
theorem act6 (h : GS B n t kd f m k bb u) (h9 : B + 300000 < 2147483648) {b s x c y d : Nat} {a2 zz : Int32} (hb : b < n) (hs : s < t) (hx1 : 1 ≤ x) (hx : x ≤ 40) (hc1 : 1 ≤ c) (hc : c ≤ 3) (hy1 : 1 ≤ y) (hy : y ≤ 5) (hd : d < n) (ea : a2 &&& 7 = nI 6) : ∃ u' : bU, FL_acts u a2 zz (nI b) (nI s) (nI x) (nI c) (nI y) (nI d) = (0, 1, u') ∧ GS (B + 300000) n t kd f m k bb u' := by
  obtain ⟨hI, hK⟩ := h
  have hK0 := KP_0 hK
  obtain ⟨hn, ht, -, -⟩ := hI.1.1
  have hb8 : b < 8 := by omega
  have hs6 : s < 6 := by omega
  have hN := hI.2.2.1
  rw [FL_acts, ea, if_neg (show ¬ nI 6 = (0 : Int32) by decide), if_neg (show ¬ nI 6 = (1 : Int32) by decide), if_neg (show ¬ nI 6 = (2 : Int32) by decide), if_neg (show ¬ nI 6 = (3 : Int32) by decide), if_neg (show ¬ nI 6 = (4 : Int32) by decide), if_neg (show ¬ nI 6 = (5 : Int32) by decide), if_pos (show nI 6 = (6 : Int32) from rfl)]
  rw [if_pos (INV_st hI hb8)]
  by_cases qz : zz &&& 1 = 0
  · rw [if_pos qz, if_pos (show F5_needArgument (F5_isShopNumber (20 + nI b)) = 0 from by rw [show (20 + nI b : Int32) = nI (20 + b) from nI_add 20 b]; exact v_isn (by omega))]
    by_cases q : F5_shop u (nI s) (20 + nI b) < nI y
    · rw [if_pos q]
      exact ⟨u, rfl, INV_up hI (by omega), hK⟩
    · rw [if_neg q]
      rw [v_sE hs6 hb8] at q
      obtain ⟨P, hP, eP⟩ := rg_nat (hN _ pP_6)
      have hdp := dpo_r (kd := kd) b
      have hD : y * dpo kd b ≤ 5 * 15 := Nat.mul_le_mul hy hdp.2
      obtain ⟨u', e1, e2⟩ := F_breaks hI hK0 (by omega) hb hs hy1 (show y ≤ 500 by omega) (nlt_of q (by omega)) eP (by omega)
      rw [e1, v_dep hI.1 hb8, v_n6, eP]
      unfold gd
      rw [pk_mul]
      dsimp only
      rw [if_pos rfl]
      by_cases q2 : P ≤ y * dpo kd b
      · rw [if_pos ((nI_leI (by omega) (by omega)).mpr q2), Nat.min_eq_right q2, if_pos rfl]
        exact ⟨u', rfl, GS_up e2 (by omega)⟩
      · rw [if_neg (fun z => q2 ((nI_leI (by omega) (by omega)).mp z)), Nat.min_eq_left (by omega), if_pos rfl]
        exact ⟨u', rfl, GS_up e2 (by omega)⟩
  · rw [if_neg qz]
    by_cases q : F5_brand u (nI b) 5 < nI y
    · rw [if_pos q]
      exact ⟨u, rfl, INV_up hI (by omega), hK⟩
    · rw [if_neg q]
      rw [v_b5 hb8] at q
      obtain ⟨u', e1, e2⟩ := F_lose hI hK0 (by omega) hb hy1 (show y ≤ 5000 by omega) (nlt_of q (by omega))
      rw [e1]
      dsimp only
      rw [if_pos rfl, if_pos (INV_nb e2.1 hb), v_b5 hb8, if_pos rfl]
      exact ⟨u', rfl, GS_up e2 (by omega)⟩
end AC

-- STEPS that only read (own text, part by program)
theorem Sim_read {cd : Int32 → Int32} {B : Nat} {a b : bU} {x y : Int32} (h : Rel B a b) (h0 : cd 0 = 0) (e : x = y) : Sim cd B (0, x, a) (y, bput b 6 2 0) := ⟨by show (bput b 6 2 0) 6 2 = cd 0; rw [h0, bput_at], fun _ => e, Rel_thr h 0⟩
theorem isn_eq (x : Int32) : F5_isShopNumber x = 0 ↔ (F6_in x 0 6 = 0 ∧ F6_in x 10 17 = 0 ∧ F6_in x 20 27 = 0) := by
  have h1 := mIn_iff (x := x) (lo := 0) (hi := 6)
  have h2 := mIn_iff (x := x) (lo := 10) (hi := 17)
  have h3 := mIn_iff (x := x) (lo := 20) (hi := 27)
  have a0 := iLt x 0
  have a1 := iLt x 10
  have a2 := iLt x 20
  have a3 := iLt x 18
  have a4 := iLe 28 x
  have a5 := iLe x 6
  have b0 := iLe 0 x
  have b1 := iLe 10 x
  have b2 := iLe 20 x
  have b3 := iLe x 17
  have b4 := iLe x 27
  rw [show (0 : Int32).toInt = 0 by decide] at a0 b0
  rw [show (10 : Int32).toInt = 10 by decide] at a1 b1
  rw [show (20 : Int32).toInt = 20 by decide] at a2 b2
  rw [show (18 : Int32).toInt = 18 by decide] at a3
  rw [show (28 : Int32).toInt = 28 by decide] at a4
  rw [show (6 : Int32).toInt = 6 by decide] at a5
  rw [show (17 : Int32).toInt = 17 by decide] at b3
  rw [show (27 : Int32).toInt = 27 by decide] at b4
  rw [b0, a5] at h1
  rw [b1, b3] at h2
  rw [b2, b4] at h3
  have key : F5_isShopNumber x = 0 ↔ ¬ ((0 ≤ x.toInt ∧ x.toInt ≤ 6) ∨ (10 ≤ x.toInt ∧ x.toInt ≤ 17) ∨ (20 ≤ x.toInt ∧ x.toInt ≤ 27)) := by
    unfold F5_isShopNumber
    simp only [a0, a1, a2, a3, a4, a5]
    (repeat' split) <;> (simp; try omega)
  rw [key]
  constructor
  · intro q
    refine ⟨?_, ?_, ?_⟩
    · exact Decidable.byContradiction (fun z => q (Or.inl (h1.mp z)))
    · exact Decidable.byContradiction (fun z => q (Or.inr (Or.inl (h2.mp z))))
    · exact Decidable.byContradiction (fun z => q (Or.inr (Or.inr (h3.mp z))))
  · rintro ⟨q1, q2, q3⟩ (z | z | z)
    · exact h1.mpr z q1
    · exact h2.mpr z q2
    · exact h3.mpr z q3
section
variable {B : Nat} {a b : bU}
theorem st_brand (h : Rel B a b) (x y : Int32) : Sim id B (F5_brand a x y) (F6_brand b x y) := by
  have h' := Rel_thr h 0
  obtain ⟨⟨hr, n, t, g⟩, _⟩ := id h'
  obtain ⟨hn, ht, e0, e1⟩ := gQ_0 g
  have hB1 := isB_eq (u := a) (v := bput b 6 2 0) hn ((hr.1 0 (by decide)).trans e0) e0 x
  unfold F5_brand F6_brand F5_needBrand
  rw [hB1, nrg]
  by_cases c1 : F6_isBrand (bput b 6 2 0) x = 0
  · rw [if_pos c1, if_neg (by decide), if_pos c1]; exact Sim_fail h rfl (by decide)
  rw [if_neg c1, if_pos rfl, if_neg c1]
  by_cases c3 : F6_in y 0 11 = 0
  · rw [if_pos c3, if_neg (by decide), if_pos c3]; exact Sim_fail h rfl (by decide)
  rw [if_neg c3, if_pos rfl, if_neg c3]
  obtain ⟨bb, hbn, rfl⟩ := isB_nat hn e0 c1
  obtain ⟨k, hk1, hk2, rfl⟩ := in_nat (lo := 0) (hi := 11) c3 (by decide) (by decide)
  exact Sim_read h rfl (brand_eq hr g (by omega) (by omega))
theorem st_shop (h : Rel B a b) (x y : Int32) : Sim id B (F5_shop a x y) (F6_shop b x y) := by
  have h' := Rel_thr h 0
  obtain ⟨⟨hr, n, t, g⟩, _⟩ := id h'
  obtain ⟨hn, ht, e0, e1⟩ := gQ_0 g
  have hS1 := isS_eq (u := a) (v := bput b 6 2 0) ht ((hr.1 1 (by decide)).trans e1) e1 x
  unfold F5_shop F6_shop F5_needShop F5_needArgument
  rw [hS1]
  by_cases c1 : F6_isShop (bput b 6 2 0) x = 0
  · rw [if_pos c1, if_neg (by decide), if_pos c1]; exact Sim_fail h rfl (by decide)
  rw [if_neg c1, if_pos rfl, if_neg c1]
  obtain ⟨s, hst, rfl⟩ := isS_nat ht e1 c1
  by_cases c2 : F5_isShopNumber y = 0
  · obtain ⟨q1, q2, q3⟩ := (isn_eq y).mp c2
    rw [if_pos c2, if_neg (by decide), if_pos q1, if_pos q2, if_pos q3]; exact Sim_fail h rfl (by decide)
  · rw [if_neg c2, if_pos rfl]
    by_cases q1 : F6_in y 0 6 = 0
    · rw [if_pos q1]
      by_cases q2 : F6_in y 10 17 = 0
      · rw [if_pos q2]
        by_cases q3 : F6_in y 20 27 = 0
        · exact absurd ((isn_eq y).mpr ⟨q1, q2, q3⟩) c2
        · rw [if_neg q3]
          obtain ⟨k, hk1, hk2, rfl⟩ := in_nat (lo := 20) (hi := 27) q3 (by decide) (by decide)
          exact Sim_read h rfl (shop_eq hr (by omega) (by omega))
      · rw [if_neg q2]
        obtain ⟨k, hk1, hk2, rfl⟩ := in_nat (lo := 10) (hi := 17) q2 (by decide) (by decide)
        exact Sim_read h rfl (shop_eq hr (by omega) (by omega))
    · rw [if_neg q1]
      obtain ⟨k, hk1, hk2, rfl⟩ := in_nat (lo := 0) (hi := 6) q1 (by decide) (by decide)
      exact Sim_read h rfl (shop_eq hr (by omega) (by omega))
theorem num_10 (v : bU) : F6_number v 10 = v 6 0 := rfl
theorem st_count (h : Rel B a b) (x : Int32) : Sim cdC B (F5_count a x) (F6_count b x) := by
  have h' := Rel_thr h 0
  obtain ⟨⟨hr, n, t, g⟩, _⟩ := id h'
  obtain ⟨hn, ht, e0, e1⟩ := gQ_0 g
  obtain ⟨_, ⟨n9, l, hn9, hl, a3, a4, a5, a6⟩, _⟩ := id h'
  unfold F5_count F6_count
  rw [nrg]
  by_cases c3 : F6_in x 0 10 = 0
  · rw [if_pos c3, if_neg (by decide), if_pos c3]; exact Sim_fail h rfl (by decide)
  rw [if_neg c3, if_pos rfl, if_neg c3]
  obtain ⟨k, hk1, hk2, rfl⟩ := in_nat (lo := 0) (hi := 10) c3 (by decide) (by decide)
  by_cases c4 : k = 10
  · subst c4
    rw [if_pos (show nI 10 = (10 : Int32) from rfl)]
    exact Sim_read h rfl (by rw [show nI 10 = (10 : Int32) from rfl, num_10]; exact a4.trans a5.symm)
  · rw [if_neg (show ¬ nI k = (10 : Int32) from nI_ne (b := 10) c4 (by omega) (by decide))]
    exact Sim_read h rfl (count_eq hr g (by omega))
theorem nset (x : Int32) : F5_needSetting x = if F6_in x 0 5 = 0 then 1 else 0 := by
  have h1 := mIn_iff (x := x) (lo := 0) (hi := 5)
  have a0 := iLt x 0
  have a1 := iLt x 6
  have b0 := iLe 0 x
  have b1 := iLe x 5
  rw [show (0 : Int32).toInt = 0 by decide] at a0 b0
  rw [show (6 : Int32).toInt = 6 by decide] at a1
  rw [show (5 : Int32).toInt = 5 by decide] at b1
  rw [b0, b1] at h1
  unfold F5_needSetting
  simp only [a0, a1]
  by_cases c : F6_in x 0 5 = 0
  · rw [if_pos c]
    have : ¬ (0 ≤ x.toInt ∧ x.toInt ≤ 5) := fun q => h1.mpr q c
    by_cases c2 : x.toInt < 0
    · rw [if_pos c2]
    · rw [if_neg c2, if_neg (by omega)]
  · rw [if_neg c]
    have := h1.mp c
    rw [if_neg (by omega), if_pos (by omega)]
theorem st_setting (h : Rel B a b) (x : Int32) : Sim id B (F5_setting a x) (F6_setting b x) := by
  have h' := Rel_thr h 0
  obtain ⟨⟨hr, n, t, g⟩, _⟩ := id h'
  obtain ⟨hn, ht, e0, e1⟩ := gQ_0 g
  unfold F5_setting F6_setting
  rw [nset]
  by_cases c3 : F6_in x 0 5 = 0
  · rw [if_pos c3, if_neg (by decide), if_pos c3]; exact Sim_fail h rfl (by decide)
  rw [if_neg c3, if_pos rfl, if_neg c3]
  obtain ⟨k, hk1, hk2, rfl⟩ := in_nat (lo := 0) (hi := 5) c3 (by decide) (by decide)
  exact Sim_read h rfl (by rw [c_set a (by omega), show (7 + nI k : Int32) = nI (7 + k) from nI_add 7 k, mC (by omega)]; exact q_set hr (by omega))
theorem st_whyNotDeliver (h : Rel B a b) (x y z : Int32) : Sim id B (F5_whyNotDeliver a x y z) (F6_whyNotDeliver b x y z) := by
  have h' := Rel_thr h 0
  obtain ⟨⟨hr, n, t, g⟩, _⟩ := id h'
  obtain ⟨hn, ht, e0, e1⟩ := gQ_0 g
  have hB1 := isB_eq (u := a) (v := bput b 6 2 0) hn ((hr.1 0 (by decide)).trans e0) e0 x
  have hS1 := isS_eq (u := a) (v := bput b 6 2 0) ht ((hr.1 1 (by decide)).trans e1) e1 y
  unfold F5_whyNotDeliver F6_whyNotDeliver F5_needBrand F5_needShop
  rw [hB1, hS1, nrg]
  by_cases c1 : F6_isBrand (bput b 6 2 0) x = 0
  · rw [if_pos c1, if_neg (by decide), if_pos c1]; exact Sim_fail h rfl (by decide)
  rw [if_neg c1, if_pos rfl, if_neg c1]
  by_cases c2 : F6_isShop (bput b 6 2 0) y = 0
  · rw [if_pos c2, if_neg (by decide), if_pos c2]; exact Sim_fail h rfl (by decide)
  rw [if_neg c2, if_pos rfl, if_neg c2]
  by_cases c3 : F6_in z 1 50 = 0
  · rw [if_pos c3, if_neg (by decide), if_pos c3]; exact Sim_fail h rfl (by decide)
  rw [if_neg c3, if_pos rfl, if_neg c3]
  obtain ⟨bb, hbn, rfl⟩ := isB_nat hn e0 c1
  obtain ⟨s, hst, rfl⟩ := isS_nat ht e1 c2
  exact Sim_read h rfl (del_eq hr g (by omega) (by omega) z)
theorem st_whyNotCollect (h : Rel B a b) (x y z : Int32) : Sim id B (F5_whyNotCollect a x y z) (F6_whyNotCollect b x y z) := by
  have h' := Rel_thr h 0
  obtain ⟨⟨hr, n, t, g⟩, _⟩ := id h'
  obtain ⟨hn, ht, e0, e1⟩ := gQ_0 g
  have hS1 := isS_eq (u := a) (v := bput b 6 2 0) ht ((hr.1 1 (by decide)).trans e1) e1 x
  unfold F5_whyNotCollect F6_whyNotCollect F5_needShop
  rw [hS1, nkd, nrg]
  by_cases c1 : F6_isShop (bput b 6 2 0) x = 0
  · rw [if_pos c1, if_neg (by decide), if_pos c1]; exact Sim_fail h rfl (by decide)
  rw [if_neg c1, if_pos rfl, if_neg c1]
  by_cases c2 : F6_in y 0 2 = 0
  · rw [if_pos c2, if_neg (by decide), if_pos c2]; exact Sim_fail h rfl (by decide)
  rw [if_neg c2, if_pos rfl, if_neg c2]
  by_cases c3 : F6_in z 1 50 = 0
  · rw [if_pos c3, if_neg (by decide), if_pos c3]; exact Sim_fail h rfl (by decide)
  rw [if_neg c3, if_pos rfl, if_neg c3]
  obtain ⟨s, hst, rfl⟩ := isS_nat ht e1 c1
  exact Sim_read h rfl (col_eq hr g (by omega) y z)
theorem st_mostCrates (hB : B < 2000000000) (h : Rel B a b) (x y : Int32) : Sim id B (F5_mostCrates a x y) (F6_mostCrates b x y) := by
  have h' := Rel_thr h 0
  obtain ⟨⟨hr, n, t, g⟩, _⟩ := id h'
  obtain ⟨hn, ht, e0, e1⟩ := gQ_0 g
  have hB1 := isB_eq (u := a) (v := bput b 6 2 0) hn ((hr.1 0 (by decide)).trans e0) e0 x
  have hS1 := isS_eq (u := a) (v := bput b 6 2 0) ht ((hr.1 1 (by decide)).trans e1) e1 y
  unfold F5_mostCrates F6_mostCrates F5_needBrand F5_needShop
  rw [hB1, hS1]
  by_cases c1 : F6_isBrand (bput b 6 2 0) x = 0
  · rw [if_pos c1, if_neg (by decide), if_pos c1]; exact Sim_fail h rfl (by decide)
  rw [if_neg c1, if_pos rfl, if_neg c1]
  by_cases c2 : F6_isShop (bput b 6 2 0) y = 0
  · rw [if_pos c2, if_neg (by decide), if_pos c2]; exact Sim_fail h rfl (by decide)
  rw [if_neg c2, if_pos rfl, if_neg c2]
  obtain ⟨bb, hbn, rfl⟩ := isB_nat hn e0 c1
  obtain ⟨s, hst, rfl⟩ := isS_nat ht e1 c2
  exact Sim_read h rfl (most_eq hr g hB (by omega) (by omega))
theorem full_x (hB : B < 2000000000) {u v : bU} {n t : Nat} (hr : rV (u 0) (v 0)) (g : gJ B n t (v 0)) {bb k : Nat} (hb : bb < 8) (hk : k ≤ 5000) : nI k - F4_wornBy u (nI bb) (nI k) = F6_full v (nI bb) (nI k) := by
  obtain ⟨c, p, w, hc, hp, hw1, hw2, ec, ep, ew⟩ := c_set3 g
  obtain ⟨f9, hf, ef⟩ := m_nat g (j := 13 + 10 * bb + 8) (by omega) (wv_M_b8 hb)
  have h9 := worn_le (f := f9) (x := k) (w := w) (by omega)
  rw [c_worn hr hb ef ew (by omega) (by omega) (by omega), m_full hb ef ew (by omega) (by omega) (by omega), pk_sub (by omega)]
theorem st_filled (hB : B < 2000000000) (h : Rel B a b) (x z : Int32) : Sim id B (F5_filled a x z) (F6_filled b x z) := by
  have h' := Rel_thr h 0
  obtain ⟨⟨hr, n, t, g⟩, _⟩ := id h'
  obtain ⟨hn, ht, e0, e1⟩ := gQ_0 g
  have hB1 := isB_eq (u := a) (v := bput b 6 2 0) hn ((hr.1 0 (by decide)).trans e0) e0 x
  unfold F5_filled F6_filled F5_needBrand
  rw [hB1, nrg]
  by_cases c1 : F6_isBrand (bput b 6 2 0) x = 0
  · rw [if_pos c1, if_neg (by decide), if_pos c1]; exact Sim_fail h rfl (by decide)
  rw [if_neg c1, if_pos rfl, if_neg c1]
  by_cases c3 : F6_in z 1 5000 = 0
  · rw [if_pos c3, if_neg (by decide), if_pos c3]; exact Sim_fail h rfl (by decide)
  rw [if_neg c3, if_pos rfl, if_neg c3]
  obtain ⟨bb, hbn, rfl⟩ := isB_nat hn e0 c1
  obtain ⟨k, hk1, hk2, rfl⟩ := in_nat (lo := 1) (hi := 5000) c3 (by decide) (by decide)
  exact Sim_read h rfl (full_x hB hr g (by omega) hk2)
theorem st_bestShop (h : Rel B a b) (x : Int32) : Sim cdC B (F5_bestShop a x) (F6_bestShop b x) := by
  have h' := Rel_thr h 0
  obtain ⟨⟨hr, n, t, g⟩, _⟩ := id h'
  obtain ⟨hn, ht, e0, e1⟩ := gQ_0 g
  unfold F5_bestShop F6_bestShop
  rw [nkd]
  by_cases c2 : F6_in x 0 2 = 0
  · rw [if_pos c2, if_neg (by decide), if_pos c2]; exact Sim_fail h rfl (by decide)
  rw [if_neg c2, if_pos rfl, if_neg c2]
  obtain ⟨k, hk1, hk2, rfl⟩ := in_nat (lo := 0) (hi := 2) c2 (by decide) (by decide)
  exact Sim_read h rfl (best_eq hr g (by omega))
theorem st_append (h : Rel B a b) (x : Int32) : Sim cdA B (F5_append a x) (F6_append b x) := by
  have h' := Rel_thr h 0
  obtain ⟨⟨hr, n, t, g⟩, _⟩ := id h'
  obtain ⟨hn, ht, e0, e1⟩ := gQ_0 g
  obtain ⟨_, ⟨n9, l, hn9, hl, a3, a4, a5, a6⟩, ⟨L, hL, t1, t2, t3⟩, h4⟩ := id h'
  unfold F5_append F6_append
  rw [nrg, nst0, nst1]
  by_cases c2 : F6_in x 33 126 = 0
  · rw [if_pos c2, if_neg (by decide), if_pos c2]; exact Sim_fail h rfl (by decide)
  rw [if_neg c2, if_pos rfl, if_neg c2]
  obtain ⟨k, hk1, hk2, rfl⟩ := in_nat (lo := 33) (hi := 126) c2 (by decide) (by decide)
  rw [show F3_length a = nI L from t1, t2]
  by_cases c3 : L = 60
  · subst c3
    rw [if_pos (show (60 : Int32) ≤ nI 60 by decide), if_neg (by decide), if_pos (show nI 60 = (60 : Int32) from rfl)]
    exact Sim_fail h rfl (by decide)
  · rw [if_neg (show ¬ (60 : Int32) ≤ nI L from nI_ge (b := 60) (by omega) (by decide)), if_pos rfl, if_neg (show ¬ nI L = (60 : Int32) from nI_ne (b := 60) c3 (by omega) (by decide)), mC (by omega)]
    have fa : F3_add a (nI k) = bput (bput a 2 L (nI k)) 11 2 (nI (L + 1)) := by
      unfold F3_add
      rw [t1, if_neg (nI_pos (by omega)), if_neg (show ¬ (60 : Int32) ≤ nI L from nI_ge (b := 60) (by omega) (by decide)), mC (by omega), show (bput a 2 L (nI k)) 11 2 = nI L from t1, nI_1]
    rw [fa, show (bput (bput b 6 2 0) 3 L (nI k)) 6 1 = nI L from t2, nI_1]
    refine ⟨?_, fun _ => ?_, ?_⟩
    · show (bput (bput (bput b 6 2 0) 3 L (nI k)) 6 1 (nI (L + 1))) 6 2 = cdA 0
      rw [bput_ne _ _ (by decide), bput_c _ _ (by decide), bput_at]; rfl
    · show (bput (bput a 2 L (nI k)) 11 2 (nI (L + 1))) 11 2 = _
      rw [bput_at, bput_at]
    · refine ⟨h'.1, ⟨n9, l, hn9, hl, ?_, ?_, ?_, fun i hi => ?_⟩, ⟨L + 1, by omega, by show (bput (bput a 2 L (nI k)) 11 2 (nI (L + 1))) 11 2 = _; rw [bput_at], by show (bput (bput (bput b 6 2 0) 3 L (nI k)) 6 1 (nI (L + 1))) 6 1 = _; rw [bput_at], fun i hi => ?_⟩, h4⟩
      · show (bput (bput a 2 L (nI k)) 11 2 (nI (L + 1))) 11 0 = _; rw [bput_ne _ _ (by decide)]; exact a3
      · show (bput (bput a 2 L (nI k)) 11 2 (nI (L + 1))) 11 1 = _; rw [bput_ne _ _ (by decide)]; exact a4
      · show (bput (bput (bput b 6 2 0) 3 L (nI k)) 6 1 (nI (L + 1))) 6 0 = _; rw [bput_ne _ _ (by decide)]; exact a5
      · show RV B ((bput (bput a 2 L (nI k)) 11 2 (nI (L + 1))) (3 + (l + 6 - i) % 6)) _
        rw [bput_c _ _ (by omega), bput_c _ _ (by omega)]; exact a6 i hi
      · dsimp only
        rw [show (bput (bput a 2 L (nI k)) 11 2 (nI (L + 1))) 2 = (bput a 2 L (nI k)) 2 from bput_c _ _ (by decide), show (bput (bput (bput b 6 2 0) 3 L (nI k)) 6 1 (nI (L + 1))) 3 = (bput (bput b 6 2 0) 3 L (nI k)) 3 from bput_c _ _ (by decide)]
        by_cases q : i = L
        · subst q
          exact ⟨k, hk1, hk2, bput_at _ _ _ _, bput_at _ _ _ _⟩
        · rw [bput_ne _ _ q, bput_ne _ _ q]
          exact t3 i (by omega)
theorem st_clearBuffer (h : Rel B a b) : (F5_clearBuffer a).1 = (F6_clearBuffer b).1 ∧ Rel B (F5_clearBuffer a).2 (F6_clearBuffer b).2 := by
  have h' := Rel_thr h 0
  obtain ⟨h1, ⟨n9, l, hn9, hl, a3, a4, a5, a6⟩, ⟨L, hL, t1, t2, t3⟩, h4⟩ := id h'
  refine ⟨t1.trans t2.symm, h1, ⟨n9, l, hn9, hl, ?_, ?_, ?_, fun i hi => ?_⟩, ⟨0, by omega, by show (bput a 11 2 0) 11 2 = _; rw [bput_at]; rfl, by show (bput (bput b 6 2 0) 6 1 0) 6 1 = _; rw [bput_at]; rfl, fun i hi => absurd hi (by omega)⟩, h4⟩
  · show (bput a 11 2 0) 11 0 = _; rw [bput_ne _ _ (by decide)]; exact a3
  · show (bput a 11 2 0) 11 1 = _; rw [bput_ne _ _ (by decide)]; exact a4
  · show (bput (bput b 6 2 0) 6 1 0) 6 0 = _; rw [bput_ne _ _ (by decide)]; exact a5
  · show RV B ((bput a 11 2 0) (3 + (l + 6 - i) % 6)) _
    rw [bput_c _ _ (by omega)]; exact a6 i hi
def cdU (k : Int32) : Int32 := if k = 0 then 0 else 1
theorem un_c {c : Nat} (hc : c ≠ 0) : ∀ (f j : Nat) (u : bU), (L6_undo_30 u f j) c = u c := by
  intro f
  induction f with
  | zero => intro j u; rfl
  | succ f ih =>
    intro j u
    rw [L6_undo_30]
    split
    · rfl
    · rw [ih]; exact bput_c _ _ hc
theorem un_0 {n : Nat} (hn : n ≤ 5) : ∀ (d f j : Nat) (u : bU), j + d = 283 → d < f → u 6 0 = nI n → ∀ k : Nat, (L6_undo_30 u f j) 0 k = if j ≤ k ∧ k < 283 then u 2 (283 * n + k) else u 0 k := by
  intro d
  induction d with
  | zero =>
    intro f j u hj hf e k
    obtain ⟨f, rfl⟩ : ∃ q : Nat, f = q + 1 := ⟨f - 1, by omega⟩
    rw [L6_undo_30, if_pos (show (283 : Int32) ≤ nI j from nI_le (a := 283) (by omega) (by omega)), if_neg (by omega)]
  | succ d ih =>
    intro f j u hj hf e k
    obtain ⟨f, rfl⟩ : ∃ q : Nat, f = q + 1 := ⟨f - 1, by omega⟩
    rw [L6_undo_30, if_neg (show ¬ (283 : Int32) ≤ nI j from nI_ge (b := 283) (by omega) (by decide)), mSv_idx e (by omega) (by omega), ih f (j + 1) (bput u 0 j (u 2 (283 * n + j))) (by omega) (by omega) e k, bput_c _ _ (by decide)]
    by_cases c : j + 1 ≤ k ∧ k < 283
    · rw [if_pos c, if_pos (by omega)]
    · rw [if_neg c]
      by_cases c2 : k = j
      · subst c2; rw [bput_at, if_pos (by omega)]
      · rw [bput_ne _ _ c2, if_neg (by omega)]
theorem st_undo (h : Rel B a b) : Sim cdU B (F5_undo a) (F6_undo b) := by
  have h' := Rel_thr h 0
  obtain ⟨⟨hr, n, t, g⟩, _⟩ := id h'
  obtain ⟨hn, ht, e0, e1⟩ := gQ_0 g
  obtain ⟨_, ⟨n9, l, hn9, hl, a3, a4, a5, a6⟩, ⟨L, hL, t1, t2, t3⟩, h4⟩ := id h'
  unfold F5_undo F6_undo
  rw [nst0, nst1, show F1_kept a = nI n9 from a4, a5]
  by_cases c : n9 = 0
  · subst c
    rw [if_pos (show nI 0 ≤ 0 by decide), if_neg (by decide), if_pos (show nI 0 = 0 from rfl)]
    exact Sim_fail h rfl (by decide)
  · rw [if_neg (nI_nle (by omega) (by omega)), if_pos rfl, if_neg (nI_ne0 (by omega) (by omega)), show (nI n9 - 1 : Int32) = nI (n9 - 1) from pk_sub (b := 1) (by omega)]
    obtain ⟨b1, b2, b3, b4, b5, b6⟩ := backv hl a3 hn9 (by omega) a4
    generalize hw : bput (bput b 6 2 0) 6 0 (nI (n9 - 1)) = w
    have w6 : w 6 0 = nI (n9 - 1) := by rw [← hw, bput_at]
    have wc : ∀ c : Nat, c ≠ 6 → w c = b c := fun c hc => by rw [← hw, bput_c _ _ hc, bput_c _ _ hc]
    have zc : ∀ c : Nat, c ≠ 0 → (L6_undo_30 w (283 + 1) 0) c = w c := fun c hc => un_c hc _ _ _
    have z0 : ∀ j : Nat, j < 283 → (L6_undo_30 w (283 + 1) 0) 0 j = b 2 (283 * (n9 - 1) + j) := fun j hj => by
      rw [un_0 (n := n9 - 1) (by omega) 283 284 0 w (by decide) (by decide) w6 j, if_pos ⟨Nat.zero_le j, hj⟩, wc 2 (by decide)]
    generalize L6_undo_30 w (283 + 1) 0 = z at zc z0 ⊢
    have a60 := a6 0 (by omega)
    refine ⟨?_, fun _ => ?_, ?_⟩
    · show z 6 2 = cdU 0
      rw [zc 6 (by decide), ← hw, bput_ne _ _ (by decide), bput_at]; rfl
    · show F1_giveBack a 11 1 = z 6 0
      rw [b3, zc 6 (by decide), w6]
    · refine ⟨RV_far a60 (fun i hi => by rw [show (l + 6 - 0) % 6 = l by omega]; exact b1 i hi) (fun j hj => ?_), ⟨n9 - 1, (l + 5) % 6, by omega, by omega, b2, b3, by show z 6 0 = _; rw [zc 6 (by decide)]; exact w6, fun i hi => ?_⟩, ⟨L, hL, b4.trans t1, ?_, fun i hi => ?_⟩, fun i hi => ?_⟩
      · show z 0 j = _
        rw [z0 j hj, Nat.sub_zero]
        rfl
      · show RV B (F1_giveBack a (3 + ((l + 5) % 6 + 6 - i) % 6)) (fun k => z 2 (283 * (n9 - 1 - 1 - i) + k))
        rw [b6 _ (by omega), show ((l + 5) % 6 + 6 - i) % 6 = (l + 6 - (i + 1)) % 6 by omega]
        refine RV_far (a6 (i + 1) (by omega)) (fun _ _ => rfl) (fun j hj => ?_)
        show z 2 _ = b 2 _
        rw [zc 2 (by decide), wc 2 (by decide), show n9 - 1 - 1 - i = n9 - 1 - (i + 1) by omega]
      · show z 6 1 = _
        rw [zc 6 (by decide), ← hw, bput_ne _ _ (by decide)]; exact t2
      · show ∃ c : Nat, 33 ≤ c ∧ c ≤ 126 ∧ F1_giveBack a 2 i = nI c ∧ z 3 i = nI c
        rw [b5, zc 3 (by decide), wc 3 (by decide)]; exact t3 i hi
      · show z 4 i = _ ∧ z 5 i = _
        rw [zc 4 (by decide), zc 5 (by decide), wc 4 (by decide), wc 5 (by decide)]; exact h4 i hi
end

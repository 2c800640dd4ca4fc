-- one order on both sides: the reason, and what is done (own text)
section
variable {B n t : Nat} {u v : bU}
theorem ord_d (hB : B < 2000000000) {x y : Int32} {q : Nat} (hq : q ≤ 50) (l : F0_letterO u = 100) (v5 : v 6 5 = 100) (v6 : v 6 6 = x) (v7 : v 6 7 = y) (v8 : v 6 8 = nI q) (hr : rV ((bput u 0 9 0) 0) (v 0)) (g : gJ B n t (v 0)) : F5_reasonAgainstOrder u x y (nI q) = F6_againstOrder v ∧ (F6_againstOrder v = 0 → oOK (B + 85000) n t u v (F5_carryOutOrder u x y (nI q)) (F6_doOrder v)) := by
  obtain ⟨hn, ht, e0, e1⟩ := gQ_0 g
  have u0 : u 0 0 = nI n := (bput_ne u 0 (show (0 : Nat) ≠ 9 by decide)).symm.trans ((hr.1 0 (by decide)).trans e0)
  have u1 : u 0 1 = nI t := (bput_ne u 0 (show (1 : Nat) ≠ 9 by decide)).symm.trans ((hr.1 1 (by decide)).trans e1)
  have f1 : F5_reasonAgainstOrder u x y (nI q) = if F6_isBrand v x = 0 then 4 else if F6_isShop v y = 0 then 4 else F4_deliverReason u x y (nI q) := by
    unfold F5_reasonAgainstOrder F5_areThere
    rw [l, isB_eq (u := u) (v := v) hn u0 e0 x, isS_eq (u := u) (v := v) ht u1 e1 y]
    simp only [lt100_98, lt100_99, lt100_114, lt100_115, if_true, if_false]
    by_cases c1 : F6_isBrand v x = 0
    · rw [if_pos c1, if_pos c1, if_pos rfl]
    rw [if_neg c1, if_neg c1]
    by_cases c2 : F6_isShop v y = 0
    · rw [if_pos c2, if_pos c2, if_pos rfl]
    · rw [if_neg c2, if_neg c2, if_neg (show ¬ (1 : Int32) = 0 by decide)]
  have f2 : F6_againstOrder v = if F6_isShop v y = 0 then 4 else if F6_isBrand v x = 0 then 4 else F6_againstDeliver v x y (nI q) := by
    unfold F6_againstOrder
    rw [v5, v6, v7, v8]
    simp only [lt100_98, lt100_99, lt100_114, lt100_115, if_true, if_false]
  have f3 : F5_carryOutOrder u x y (nI q) = (F4_deliverCrates u x y (nI q)).2 := by
    unfold F5_carryOutOrder
    rw [l]
    simp only [lt100_98, lt100_99, lt100_114, lt100_115, if_true, if_false]
  have f4 : F6_doOrder v = (F6_delivers v x y (nI q)).2 := by
    unfold F6_doOrder
    rw [v5, v6, v7, v8]
    simp only [lt100_98, lt100_99, lt100_114, lt100_115, if_true, if_false]
  rw [f1, f2, f3, f4]
  by_cases c1 : F6_isBrand v x = 0
  · rw [if_pos c1, if_pos c1, ite_self]; exact ⟨rfl, fun h => absurd h (by decide)⟩
  rw [if_neg c1, if_neg c1]
  by_cases c2 : F6_isShop v y = 0
  · rw [if_pos c2, if_pos c2]; exact ⟨rfl, fun h => absurd h (by decide)⟩
  rw [if_neg c2, if_neg c2]
  obtain ⟨bb, hbn, rfl⟩ := isB_nat hn e0 c1
  obtain ⟨s, hst, rfl⟩ := isS_nat ht e1 c2
  obtain ⟨kk, d, hkk, ek, ed, _, _⟩ := kind_nat g (b := bb) (by omega)
  have ekc : u 0 (17 + 12 * bb + 0) = nI kk := (bput_ne u 0 (show 17 + 12 * bb + 0 ≠ 9 by omega)).symm.trans ((q_kind hr (by omega)).trans ek)
  exact ⟨(P_delR u 0 (by omega) (by omega) hkk ekc _).symm.trans (del_eq hr g (by omega) (by omega) _), fun h => o_del hB hr g hbn hst hq h⟩
theorem ord_s (hB : B < 2000000000) {x y : Int32} {q : Nat} (hq : q ≤ 500) (l : F0_letterO u = 115) (v5 : v 6 5 = 115) (v6 : v 6 6 = x) (v7 : v 6 7 = y) (v8 : v 6 8 = nI q) (hr : rV ((bput u 0 9 0) 0) (v 0)) (g : gJ B n t (v 0)) : F5_reasonAgainstOrder u x y (nI q) = F6_againstOrder v ∧ (F6_againstOrder v = 0 → oOK (B + 85000) n t u v (F5_carryOutOrder u x y (nI q)) (F6_doOrder v)) := by
  obtain ⟨hn, ht, e0, e1⟩ := gQ_0 g
  have u0 : u 0 0 = nI n := (bput_ne u 0 (show (0 : Nat) ≠ 9 by decide)).symm.trans ((hr.1 0 (by decide)).trans e0)
  have u1 : u 0 1 = nI t := (bput_ne u 0 (show (1 : Nat) ≠ 9 by decide)).symm.trans ((hr.1 1 (by decide)).trans e1)
  have f1 : F5_reasonAgainstOrder u x y (nI q) = if F6_isShop v x = 0 then 4 else if F6_isBrand v y = 0 then 4 else F4_sellReason u x y (nI q) := by
    unfold F5_reasonAgainstOrder F5_areThere
    rw [l, isS_eq (u := u) (v := v) ht u1 e1 x, isB_eq (u := u) (v := v) hn u0 e0 y]
    simp only [lt115_98, lt115_99, lt115_100, lt115_114, if_true, if_false]
    by_cases c1 : F6_isShop v x = 0
    · rw [if_pos c1, if_pos c1, if_pos rfl]
    rw [if_neg c1, if_neg c1]
    by_cases c2 : F6_isBrand v y = 0
    · rw [if_pos c2, if_pos c2, if_pos rfl]
    · rw [if_neg c2, if_neg c2, if_neg (show ¬ (1 : Int32) = 0 by decide)]
  have f2 : F6_againstOrder v = if F6_isShop v x = 0 then 4 else if F6_isBrand v y = 0 then 4 else F6_againstSell v x y (nI q) := by
    unfold F6_againstOrder
    rw [v5, v6, v7, v8]
    simp only [lt115_98, lt115_99, lt115_100, lt115_114, if_true, if_false]
  have f3 : F5_carryOutOrder u x y (nI q) = (F4_sellBottles u x y (nI q)).2 := by
    unfold F5_carryOutOrder
    rw [l]
    simp only [lt115_98, lt115_99, lt115_100, lt115_114, if_true, if_false]
  have f4 : F6_doOrder v = (F6_sells v x y (nI q)).2 := by
    unfold F6_doOrder
    rw [v5, v6, v7, v8]
    simp only [lt115_98, lt115_99, lt115_100, lt115_114, if_true, if_false]
  rw [f1, f2, f3, f4]
  by_cases c1 : F6_isShop v x = 0
  · rw [if_pos c1, if_pos c1]; exact ⟨rfl, fun h => absurd h (by decide)⟩
  rw [if_neg c1, if_neg c1]
  by_cases c2 : F6_isBrand v y = 0
  · rw [if_pos c2, if_pos c2]; exact ⟨rfl, fun h => absurd h (by decide)⟩
  rw [if_neg c2, if_neg c2]
  obtain ⟨s, hst, rfl⟩ := isS_nat ht e1 c1
  obtain ⟨bb, hbn, rfl⟩ := isB_nat hn e0 c2
  exact ⟨(P_sellR u 0 (by omega) (by omega) _).symm.trans (sell_eq hr (by omega) (by omega) _), fun h => o_sell hB hr g hbn hst hq h⟩
theorem ord_r (hB : B < 2000000000) {x y : Int32} {q : Nat} (hq : q ≤ 500) (l : F0_letterO u = 114) (v5 : v 6 5 = 114) (v6 : v 6 6 = x) (v7 : v 6 7 = y) (v8 : v 6 8 = nI q) (hr : rV ((bput u 0 9 0) 0) (v 0)) (g : gJ B n t (v 0)) : F5_reasonAgainstOrder u x y (nI q) = F6_againstOrder v ∧ (F6_againstOrder v = 0 → oOK (B + 85000) n t u v (F5_carryOutOrder u x y (nI q)) (F6_doOrder v)) := by
  obtain ⟨hn, ht, e0, e1⟩ := gQ_0 g
  have u0 : u 0 0 = nI n := (bput_ne u 0 (show (0 : Nat) ≠ 9 by decide)).symm.trans ((hr.1 0 (by decide)).trans e0)
  have u1 : u 0 1 = nI t := (bput_ne u 0 (show (1 : Nat) ≠ 9 by decide)).symm.trans ((hr.1 1 (by decide)).trans e1)
  have f1 : F5_reasonAgainstOrder u x y (nI q) = if F6_isShop v x = 0 then 4 else if F6_isBrand v y = 0 then 4 else F4_returnReason u x y (nI q) := by
    unfold F5_reasonAgainstOrder F5_areThere
    rw [l, isS_eq (u := u) (v := v) ht u1 e1 x, isB_eq (u := u) (v := v) hn u0 e0 y]
    simp only [lt114_98, lt114_99, lt114_100, lt114_115, if_true, if_false]
    by_cases c1 : F6_isShop v x = 0
    · rw [if_pos c1, if_pos c1, if_pos rfl]
    rw [if_neg c1, if_neg c1]
    by_cases c2 : F6_isBrand v y = 0
    · rw [if_pos c2, if_pos c2, if_pos rfl]
    · rw [if_neg c2, if_neg c2, if_neg (show ¬ (1 : Int32) = 0 by decide)]
  have f2 : F6_againstOrder v = if F6_isShop v x = 0 then 4 else if F6_isBrand v y = 0 then 4 else F6_againstTakeBack v x y (nI q) := by
    unfold F6_againstOrder
    rw [v5, v6, v7, v8]
    simp only [lt114_98, lt114_99, lt114_100, lt114_115, if_true, if_false]
  have f3 : F5_carryOutOrder u x y (nI q) = (F4_returnBottles u x y (nI q)).2 := by
    unfold F5_carryOutOrder
    rw [l]
    simp only [lt114_98, lt114_99, lt114_100, lt114_115, if_true, if_false]
  have f4 : F6_doOrder v = (F6_takesBack v x y (nI q)).2 := by
    unfold F6_doOrder
    rw [v5, v6, v7, v8]
    simp only [lt114_98, lt114_99, lt114_100, lt114_115, if_true, if_false]
  rw [f1, f2, f3, f4]
  by_cases c1 : F6_isShop v x = 0
  · rw [if_pos c1, if_pos c1]; exact ⟨rfl, fun h => absurd h (by decide)⟩
  rw [if_neg c1, if_neg c1]
  by_cases c2 : F6_isBrand v y = 0
  · rw [if_pos c2, if_pos c2]; exact ⟨rfl, fun h => absurd h (by decide)⟩
  rw [if_neg c2, if_neg c2]
  obtain ⟨s, hst, rfl⟩ := isS_nat ht e1 c1
  obtain ⟨bb, hbn, rfl⟩ := isB_nat hn e0 c2
  obtain ⟨kk, d, hkk, ek, ed, _, _⟩ := kind_nat g (b := bb) (by omega)
  have ekc : u 0 (17 + 12 * bb + 0) = nI kk := (bput_ne u 0 (show 17 + 12 * bb + 0 ≠ 9 by omega)).symm.trans ((q_kind hr (by omega)).trans ek)
  exact ⟨(P_retR u 0 (by omega) (by omega) hkk ekc _).symm.trans (ret_eq hr g (by omega) (by omega) _), fun h => o_ret hB hr g hbn hst hq h⟩
theorem ord_b (hB : B < 2000000000) {x y : Int32} {q : Nat} (hq : q ≤ 500) (l : F0_letterO u = 98) (v5 : v 6 5 = 98) (v6 : v 6 6 = x) (v7 : v 6 7 = y) (v8 : v 6 8 = nI q) (hr : rV ((bput u 0 9 0) 0) (v 0)) (g : gJ B n t (v 0)) : F5_reasonAgainstOrder u x y (nI q) = F6_againstOrder v ∧ (F6_againstOrder v = 0 → oOK (B + 85000) n t u v (F5_carryOutOrder u x y (nI q)) (F6_doOrder v)) := by
  obtain ⟨hn, ht, e0, e1⟩ := gQ_0 g
  have u0 : u 0 0 = nI n := (bput_ne u 0 (show (0 : Nat) ≠ 9 by decide)).symm.trans ((hr.1 0 (by decide)).trans e0)
  have u1 : u 0 1 = nI t := (bput_ne u 0 (show (1 : Nat) ≠ 9 by decide)).symm.trans ((hr.1 1 (by decide)).trans e1)
  have f1 : F5_reasonAgainstOrder u x y (nI q) = if F6_isShop v x = 0 then 4 else if F6_isBrand v y = 0 then 4 else F4_breakReason u x y (nI q) := by
    unfold F5_reasonAgainstOrder F5_areThere
    rw [l, isS_eq (u := u) (v := v) ht u1 e1 x, isB_eq (u := u) (v := v) hn u0 e0 y]
    simp only [lt98_99, lt98_100, lt98_114, lt98_115, if_true, if_false]
    by_cases c1 : F6_isShop v x = 0
    · rw [if_pos c1, if_pos c1, if_pos rfl]
    rw [if_neg c1, if_neg c1]
    by_cases c2 : F6_isBrand v y = 0
    · rw [if_pos c2, if_pos c2, if_pos rfl]
    · rw [if_neg c2, if_neg c2, if_neg (show ¬ (1 : Int32) = 0 by decide)]
  have f2 : F6_againstOrder v = if F6_isShop v x = 0 then 4 else if F6_isBrand v y = 0 then 4 else F6_againstBreak v x y (nI q) := by
    unfold F6_againstOrder
    rw [v5, v6, v7, v8]
    simp only [lt98_99, lt98_100, lt98_114, lt98_115, if_true, if_false]
  have f3 : F5_carryOutOrder u x y (nI q) = (F4_breakBottles u x y (nI q)).2 := by
    unfold F5_carryOutOrder
    rw [l]
    simp only [lt98_99, lt98_100, lt98_114, lt98_115, if_true, if_false]
  have f4 : F6_doOrder v = (F6_breaksThem v x y (nI q)).2 := by
    unfold F6_doOrder
    rw [v5, v6, v7, v8]
    simp only [lt98_99, lt98_100, lt98_114, lt98_115, if_true, if_false]
  rw [f1, f2, f3, f4]
  by_cases c1 : F6_isShop v x = 0
  · rw [if_pos c1, if_pos c1]; exact ⟨rfl, fun h => absurd h (by decide)⟩
  rw [if_neg c1, if_neg c1]
  by_cases c2 : F6_isBrand v y = 0
  · rw [if_pos c2, if_pos c2]; exact ⟨rfl, fun h => absurd h (by decide)⟩
  rw [if_neg c2, if_neg c2]
  obtain ⟨s, hst, rfl⟩ := isS_nat ht e1 c1
  obtain ⟨bb, hbn, rfl⟩ := isB_nat hn e0 c2
  exact ⟨(P_brkR u 0 (by omega) (by omega) _).symm.trans (brk_eq hr (by omega) (by omega) _), fun h => o_brk hB hr g hbn hst hq h⟩
theorem ord_c (hB : B < 2000000000) {x : Int32} {kk q : Nat} (hkk : kk < 3) (hq : q ≤ 50) (l : F0_letterO u = 99) (v5 : v 6 5 = 99) (v6 : v 6 6 = x) (v7 : v 6 7 = nI kk) (v8 : v 6 8 = nI q) (hr : rV ((bput u 0 9 0) 0) (v 0)) (g : gJ B n t (v 0)) : F5_reasonAgainstOrder u x (nI kk) (nI q) = F6_againstOrder v ∧ (F6_againstOrder v = 0 → oOK (B + 85000) n t u v (F5_carryOutOrder u x (nI kk) (nI q)) (F6_doOrder v)) := by
  obtain ⟨hn, ht, e0, e1⟩ := gQ_0 g
  have u1 : u 0 1 = nI t := (bput_ne u 0 (show (1 : Nat) ≠ 9 by decide)).symm.trans ((hr.1 1 (by decide)).trans e1)
  have f1 : F5_reasonAgainstOrder u x (nI kk) (nI q) = if F6_isShop v x = 0 then 4 else F4_collectReason u x (nI kk) (nI q) := by
    unfold F5_reasonAgainstOrder F5_areThere
    rw [l, isS_eq (u := u) (v := v) ht u1 e1 x]
    simp only [lt99_98, lt99_100, lt99_114, lt99_115, if_true, if_false]
  have f2 : F6_againstOrder v = if F6_isShop v x = 0 then 4 else F6_againstCollect v x (nI kk) (nI q) := by
    unfold F6_againstOrder
    rw [v5, v6, v7, v8]
    simp only [lt99_98, lt99_100, lt99_114, lt99_115, if_true, if_false]
  have f3 : F5_carryOutOrder u x (nI kk) (nI q) = (F4_collectCrates u x (nI kk) (nI q)).2 := by
    unfold F5_carryOutOrder
    rw [l]
    simp only [lt99_98, lt99_100, lt99_114, lt99_115, if_true, if_false]
  have f4 : F6_doOrder v = (F6_collects v x (nI kk) (nI q)).2 := by
    unfold F6_doOrder
    rw [v5, v6, v7, v8]
    simp only [lt99_98, lt99_100, lt99_114, lt99_115, if_true, if_false]
  rw [f1, f2, f3, f4]
  by_cases c1 : F6_isShop v x = 0
  · rw [if_pos c1, if_pos c1]; exact ⟨rfl, fun h => absurd h (by decide)⟩
  rw [if_neg c1, if_neg c1]
  obtain ⟨s, hst, rfl⟩ := isS_nat ht e1 c1
  exact ⟨(P_colR u 0 (by omega) _ _).symm.trans (col_eq hr g (by omega) _ _), fun h => o_col hB hr g hkk hst hq h⟩
theorem ord_step (hB : B < 2000000000) {r : Nat → Int32} (l : F0_letterO u = r 1) (v5 : v 6 5 = r 1) (v6 : v 6 6 = r 2) (v7 : v 6 7 = r 3) (v8 : v 6 8 = r 4) (hrow : rowS r) (r0 : r 0 = 5) (hr : rV ((bput u 0 9 0) 0) (v 0)) (g : gJ B n t (v 0)) : F5_reasonAgainstOrder u (r 2) (r 3) (r 4) = F6_againstOrder v ∧ (¬ v 6 5 = 98 → ¬ v 6 5 = 100 → ¬ v 6 5 = 114 → ¬ v 6 5 = 115 → mK (v 6 7)) ∧ (F6_againstOrder v = 0 → oOK (B + 85000) n t u v (F5_carryOutOrder u (r 2) (r 3) (r 4)) (F6_doOrder v)) := by
  obtain ⟨s9, q, hs9, r00, r4, hq, hz, hl, hg, hM⟩ := hrow
  have s5 : s9 = 5 := (nI_is (a := s9) (b := 5) (by omega) (by decide)).1.mp (r00.symm.trans r0)
  have hk : ¬ v 6 5 = 98 → ¬ v 6 5 = 100 → ¬ v 6 5 = 114 → ¬ v 6 5 = 115 → mK (v 6 7) := by
    intro h1 h2 h3 h4
    rw [v5] at h1 h2 h3 h4
    rw [v7]
    rcases hl (by omega) with l1 | l1 | l1 | l1 | l1
    · exact absurd l1 h2
    · exact absurd l1 h4
    · exact absurd l1 h3
    · exact absurd l1 h1
    · exact hg (by omega) l1
  rw [r4] at v8 ⊢
  rcases hl (by omega) with l1 | l1 | l1 | l1 | l1
  · have h := ord_d hB (hM (Or.inl l1)) (l.trans l1) (v5.trans l1) v6 v7 v8 hr g
    exact ⟨h.1, hk, h.2⟩
  · have h := ord_s hB hq (l.trans l1) (v5.trans l1) v6 v7 v8 hr g
    exact ⟨h.1, hk, h.2⟩
  · have h := ord_r hB hq (l.trans l1) (v5.trans l1) v6 v7 v8 hr g
    exact ⟨h.1, hk, h.2⟩
  · have h := ord_b hB hq (l.trans l1) (v5.trans l1) v6 v7 v8 hr g
    exact ⟨h.1, hk, h.2⟩
  · obtain ⟨kk, hkk, e3⟩ := hg (by omega) l1
    rw [e3] at v7 ⊢
    have h := ord_c hB hkk (hM (Or.inr l1)) (l.trans l1) (v5.trans l1) v6 v7 v8 hr g
    exact ⟨h.1, hk, h.2⟩
end

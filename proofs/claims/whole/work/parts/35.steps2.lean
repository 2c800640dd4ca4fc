-- STEPS of the face, both sides, more (own text, part by program)
section
variable {B : Nat} {a b : bU}
theorem st_sell (hB : B < 2000000000) (h : Rel B a b) (x y z : Int32) : Sim id (B + 85000) (F5_sell a x y z) (F6_sell b x y z) := by
  have h' := Rel_thr h 0
  obtain ⟨⟨hr, n, t, g⟩, _⟩ := id h'
  obtain ⟨hn, ht, e0, e1⟩ := gQ_0 g
  have hS1 := isS_eq (u := a) (v := bput b 6 2 0) ht ((hr.1 1 (by decide)).trans e1) e1 x
  have hB1 := isB_eq (u := a) (v := bput b 6 2 0) hn ((hr.1 0 (by decide)).trans e0) e0 y
  unfold F5_sell F6_sell F5_needBrand F5_needShop
  rw [hB1, hS1, nrg]
  by_cases c1 : F6_isShop (bput b 6 2 0) x = 0
  · rw [if_pos c1, if_neg (by decide), if_pos c1]; exact Sim_fail (Rel_up h (by omega)) rfl (by decide)
  rw [if_neg c1, if_pos rfl, if_neg c1]
  by_cases c2 : F6_isBrand (bput b 6 2 0) y = 0
  · rw [if_pos c2, if_neg (by decide), if_pos c2]; exact Sim_fail (Rel_up h (by omega)) rfl (by decide)
  rw [if_neg c2, if_pos rfl, if_neg c2]
  by_cases c3 : F6_in z 1 500 = 0
  · rw [if_pos c3, if_neg (by decide), if_pos c3]; exact Sim_fail (Rel_up h (by omega)) rfl (by decide)
  rw [if_neg c3, if_pos rfl, if_neg c3]
  obtain ⟨s, hst, rfl⟩ := isS_nat ht e1 c1
  obtain ⟨bb, hbn, rfl⟩ := isB_nat hn e0 c2
  obtain ⟨k, hk1, hk2, rfl⟩ := in_nat (lo := 1) (hi := 500) c3 (by decide) (by decide)
  rw [sell_eq hr (show bb < 8 by omega) (show s < 6 by omega), nst0, nst1]
  by_cases c4 : F6_againstSell (bput b 6 2 0) (nI s) (nI bb) (nI k) = 0
  · rw [if_pos c4, if_pos rfl, if_pos (by rw [c4]; decide)]
    obtain ⟨_, r1, r2, _, _⟩ := Rel_keep h'
    exact Sim_done h' rfl (do_sell hB (by rw [r1, r2]; exact hr) (by rw [r2]; exact g) hbn hst hk2 (by rw [(ag_congr r2 _ _ _).2.1]; exact c4))
  · rw [if_neg c4, if_neg (by decide), if_neg (fun q => c4 (ag_sell _ _ _ _ q))]
    exact Sim_fail (Rel_up h (by omega)) rfl (by decide)
theorem st_takeBack (hB : B < 2000000000) (h : Rel B a b) (x y z : Int32) : Sim id (B + 85000) (F5_takeBack a x y z) (F6_takeBack b x y z) := by
  have h' := Rel_thr h 0
  obtain ⟨⟨hr, n, t, g⟩, _⟩ := id h'
  obtain ⟨hn, ht, e0, e1⟩ := gQ_0 g
  have hS1 := isS_eq (u := a) (v := bput b 6 2 0) ht ((hr.1 1 (by decide)).trans e1) e1 x
  have hB1 := isB_eq (u := a) (v := bput b 6 2 0) hn ((hr.1 0 (by decide)).trans e0) e0 y
  unfold F5_takeBack F6_takeBack F5_needBrand F5_needShop
  rw [hB1, hS1, nrg]
  by_cases c1 : F6_isShop (bput b 6 2 0) x = 0
  · rw [if_pos c1, if_neg (by decide), if_pos c1]; exact Sim_fail (Rel_up h (by omega)) rfl (by decide)
  rw [if_neg c1, if_pos rfl, if_neg c1]
  by_cases c2 : F6_isBrand (bput b 6 2 0) y = 0
  · rw [if_pos c2, if_neg (by decide), if_pos c2]; exact Sim_fail (Rel_up h (by omega)) rfl (by decide)
  rw [if_neg c2, if_pos rfl, if_neg c2]
  by_cases c3 : F6_in z 1 500 = 0
  · rw [if_pos c3, if_neg (by decide), if_pos c3]; exact Sim_fail (Rel_up h (by omega)) rfl (by decide)
  rw [if_neg c3, if_pos rfl, if_neg c3]
  obtain ⟨s, hst, rfl⟩ := isS_nat ht e1 c1
  obtain ⟨bb, hbn, rfl⟩ := isB_nat hn e0 c2
  obtain ⟨k, hk1, hk2, rfl⟩ := in_nat (lo := 1) (hi := 500) c3 (by decide) (by decide)
  rw [ret_eq hr g (show bb < 8 by omega) (show s < 6 by omega), nst0, nst1]
  by_cases c4 : F6_againstTakeBack (bput b 6 2 0) (nI s) (nI bb) (nI k) = 0
  · rw [if_pos c4, if_pos rfl, if_pos (by rw [c4]; decide)]
    obtain ⟨_, r1, r2, _, _⟩ := Rel_keep h'
    exact Sim_done h' rfl (do_ret hB (by rw [r1, r2]; exact hr) (by rw [r2]; exact g) hbn hst hk2 (by rw [(ag_congr r2 _ _ _).2.2.1]; exact c4))
  · rw [if_neg c4, if_neg (by decide), if_neg (fun q => c4 (ag_take _ _ _ _ q))]
    exact Sim_fail (Rel_up h (by omega)) rfl (by decide)
theorem st_breaks (hB : B < 2000000000) (h : Rel B a b) (x y z : Int32) : Sim id (B + 85000) (F5_breaks a x y z) (F6_breaks b x y z) := by
  have h' := Rel_thr h 0
  obtain ⟨⟨hr, n, t, g⟩, _⟩ := id h'
  obtain ⟨hn, ht, e0, e1⟩ := gQ_0 g
  have hS1 := isS_eq (u := a) (v := bput b 6 2 0) ht ((hr.1 1 (by decide)).trans e1) e1 x
  have hB1 := isB_eq (u := a) (v := bput b 6 2 0) hn ((hr.1 0 (by decide)).trans e0) e0 y
  unfold F5_breaks F6_breaks F5_needBrand F5_needShop
  rw [hB1, hS1, nrg]
  by_cases c1 : F6_isShop (bput b 6 2 0) x = 0
  · rw [if_pos c1, if_neg (by decide), if_pos c1]; exact Sim_fail (Rel_up h (by omega)) rfl (by decide)
  rw [if_neg c1, if_pos rfl, if_neg c1]
  by_cases c2 : F6_isBrand (bput b 6 2 0) y = 0
  · rw [if_pos c2, if_neg (by decide), if_pos c2]; exact Sim_fail (Rel_up h (by omega)) rfl (by decide)
  rw [if_neg c2, if_pos rfl, if_neg c2]
  by_cases c3 : F6_in z 1 500 = 0
  · rw [if_pos c3, if_neg (by decide), if_pos c3]; exact Sim_fail (Rel_up h (by omega)) rfl (by decide)
  rw [if_neg c3, if_pos rfl, if_neg c3]
  obtain ⟨s, hst, rfl⟩ := isS_nat ht e1 c1
  obtain ⟨bb, hbn, rfl⟩ := isB_nat hn e0 c2
  obtain ⟨k, hk1, hk2, rfl⟩ := in_nat (lo := 1) (hi := 500) c3 (by decide) (by decide)
  rw [brk_eq hr (show bb < 8 by omega) (show s < 6 by omega), nst0, nst1]
  by_cases c4 : F6_againstBreak (bput b 6 2 0) (nI s) (nI bb) (nI k) = 0
  · rw [if_pos c4, if_pos rfl, if_pos (by rw [c4]; decide)]
    obtain ⟨_, r1, r2, _, _⟩ := Rel_keep h'
    exact Sim_done h' rfl (do_brk hB (by rw [r1, r2]; exact hr) (by rw [r2]; exact g) hbn hst hk2 (by rw [(ag_congr r2 _ _ _).2.2.2]; exact c4))
  · rw [if_neg c4, if_neg (by decide), if_neg (fun q => c4 (ag_brk _ _ _ _ q))]
    exact Sim_fail (Rel_up h (by omega)) rfl (by decide)
theorem st_collect (hB : B < 2000000000) (h : Rel B a b) (x y z : Int32) : Sim id (B + 85000) (F5_collect a x y z) (F6_collect b x y z) := by
  have h' := Rel_thr h 0
  obtain ⟨⟨hr, n, t, g⟩, _⟩ := id h'
  obtain ⟨hn, ht, e0, e1⟩ := gQ_0 g
  have hS1 := isS_eq (u := a) (v := bput b 6 2 0) ht ((hr.1 1 (by decide)).trans e1) e1 x
  unfold F5_collect F6_collect F5_needShop
  rw [hS1, nkd, nrg]
  by_cases c1 : F6_isShop (bput b 6 2 0) x = 0
  · rw [if_pos c1, if_neg (by decide), if_pos c1]; exact Sim_fail (Rel_up h (by omega)) rfl (by decide)
  rw [if_neg c1, if_pos rfl, if_neg c1]
  by_cases c2 : F6_in y 0 2 = 0
  · rw [if_pos c2, if_neg (by decide), if_pos c2]; exact Sim_fail (Rel_up h (by omega)) rfl (by decide)
  rw [if_neg c2, if_pos rfl, if_neg c2]
  by_cases c3 : F6_in z 1 50 = 0
  · rw [if_pos c3, if_neg (by decide), if_pos c3]; exact Sim_fail (Rel_up h (by omega)) rfl (by decide)
  rw [if_neg c3, if_pos rfl, if_neg c3]
  obtain ⟨s, hst, rfl⟩ := isS_nat ht e1 c1
  obtain ⟨kk, _, hkk, rfl⟩ := in_nat (lo := 0) (hi := 2) c2 (by decide) (by decide)
  obtain ⟨k, hk1, hk2, rfl⟩ := in_nat (lo := 1) (hi := 50) c3 (by decide) (by decide)
  rw [col_eq hr g (show s < 6 by omega), nst0, nst1]
  by_cases c4 : F6_againstCollect (bput b 6 2 0) (nI s) (nI kk) (nI k) = 0
  · rw [if_pos c4, if_pos rfl, if_pos (by rw [c4]; decide)]
    obtain ⟨_, r1, r2, _, _⟩ := Rel_keep h'
    exact Sim_done h' rfl (do_col hB (by rw [r1, r2]; exact hr) (by rw [r2]; exact g) (by omega) hst hk2 (by rw [agc_congr r2 g (by omega)]; exact c4))
  · rw [if_neg c4, if_neg (by decide), if_neg (fun q => c4 (ag_col _ _ _ _ q))]
    exact Sim_fail (Rel_up h (by omega)) rfl (by decide)
theorem st_fill (hB : B < 2000000000) (h : Rel B a b) (x z : Int32) : Sim id (B + 85000) (F5_fill a x z) (F6_fill b x z) := by
  have h' := Rel_thr h 0
  obtain ⟨⟨hr, n, t, g⟩, _⟩ := id h'
  obtain ⟨hn, ht, e0, e1⟩ := gQ_0 g
  have hB1 := isB_eq (u := a) (v := bput b 6 2 0) hn ((hr.1 0 (by decide)).trans e0) e0 x
  unfold F5_fill F6_fill F5_needBrand
  rw [hB1, nrg]
  by_cases c1 : F6_isBrand (bput b 6 2 0) x = 0
  · rw [if_pos c1, if_neg (by decide), if_pos c1]; exact Sim_fail (Rel_up h (by omega)) rfl (by decide)
  rw [if_neg c1, if_pos rfl, if_neg c1]
  by_cases c3 : F6_in z 1 5000 = 0
  · rw [if_pos c3, if_neg (by decide), if_pos c3]; exact Sim_fail (Rel_up h (by omega)) rfl (by decide)
  rw [if_neg c3, if_pos rfl, if_neg c3]
  obtain ⟨bb, hbn, rfl⟩ := isB_nat hn e0 c1
  obtain ⟨k, hk1, hk2, rfl⟩ := in_nat (lo := 1) (hi := 5000) c3 (by decide) (by decide)
  rw [show F2_ofBrand a (nI bb) 1 = F6_of (bput b 6 2 0) (nI bb) 1 from r_b hr (w := 1) (by omega) (by decide), nst0, nst1]
  by_cases c4 : nI k ≤ F6_of (bput b 6 2 0) (nI bb) 1
  · rw [if_neg (fun q => by rw [iLt] at q; rw [iLe] at c4; omega), if_pos rfl, if_pos c4]
    obtain ⟨_, r1, r2, _, _⟩ := Rel_keep h'
    exact Sim_done h' rfl (do_fill hB (by rw [r1, r2]; exact hr) (by rw [r2]; exact g) hbn hk2 (by rw [show F6_of (F6_save (bput b 6 2 0)) (nI bb) 1 = F6_of (bput b 6 2 0) (nI bb) 1 from by unfold F6_of; rw [r2]]; exact c4))
  · rw [if_pos (show F6_of (bput b 6 2 0) (nI bb) 1 < nI k from by rw [iLt]; rw [iLe] at c4; omega), if_neg (by decide), if_neg c4]
    exact Sim_fail (Rel_up h (by omega)) rfl (by decide)
theorem st_lose (hB : B < 2000000000) (h : Rel B a b) (x z : Int32) : Sim id (B + 85000) (F5_lose a x z) (F6_lose b x z) := by
  have h' := Rel_thr h 0
  obtain ⟨⟨hr, n, t, g⟩, _⟩ := id h'
  obtain ⟨hn, ht, e0, e1⟩ := gQ_0 g
  have hB1 := isB_eq (u := a) (v := bput b 6 2 0) hn ((hr.1 0 (by decide)).trans e0) e0 x
  unfold F5_lose F6_lose F5_needBrand
  rw [hB1, nrg]
  by_cases c1 : F6_isBrand (bput b 6 2 0) x = 0
  · rw [if_pos c1, if_neg (by decide), if_pos c1]; exact Sim_fail (Rel_up h (by omega)) rfl (by decide)
  rw [if_neg c1, if_pos rfl, if_neg c1]
  by_cases c3 : F6_in z 1 5000 = 0
  · rw [if_pos c3, if_neg (by decide), if_pos c3]; exact Sim_fail (Rel_up h (by omega)) rfl (by decide)
  rw [if_neg c3, if_pos rfl, if_neg c3]
  obtain ⟨bb, hbn, rfl⟩ := isB_nat hn e0 c1
  obtain ⟨k, hk1, hk2, rfl⟩ := in_nat (lo := 1) (hi := 5000) c3 (by decide) (by decide)
  rw [show F2_ofBrand a (nI bb) 5 = F6_of (bput b 6 2 0) (nI bb) 3 from r_b hr (w := 3) (by omega) (by decide), nst0, nst1]
  by_cases c4 : nI k ≤ F6_of (bput b 6 2 0) (nI bb) 3
  · rw [if_neg (fun q => by rw [iLt] at q; rw [iLe] at c4; omega), if_pos rfl, if_pos c4]
    obtain ⟨_, r1, r2, _, _⟩ := Rel_keep h'
    exact Sim_done h' rfl (do_lose hB (by rw [r1, r2]; exact hr) (by rw [r2]; exact g) hbn hk2 (by rw [show F6_of (F6_save (bput b 6 2 0)) (nI bb) 3 = F6_of (bput b 6 2 0) (nI bb) 3 from by unfold F6_of; rw [r2]]; exact c4))
  · rw [if_pos (show F6_of (bput b 6 2 0) (nI bb) 3 < nI k from by rw [iLt]; rw [iLe] at c4; omega), if_neg (by decide), if_neg c4]
    exact Sim_fail (Rel_up h (by omega)) rfl (by decide)
def cdA (k : Int32) : Int32 := if k = 0 then 0 else if k = 2 then 1 else 2
def cdC (k : Int32) : Int32 := if k = 0 then 0 else 1
theorem yard_congr {v w : bU} {n t : Nat} {α β : Int} {u : bU} (e : v 0 = w 0) (hr : rV (u 0) (w 0)) (g : gQ B n t α β (w 0)) (x : Int32) : F6_yardOf v x = F6_yardOf w x := by
  rw [← yard_eq hr g x, ← yard_eq (u := u) (v := v) (by rw [e]; exact hr) (by rw [e]; exact g) x]
theorem st_sort (hB : B < 2000000000) (h : Rel B a b) (x z : Int32) : Sim cdA (B + 85000) (F5_sort a x z) (F6_sort b x z) := by
  have h' := Rel_thr h 0
  obtain ⟨⟨hr, n, t, g⟩, _⟩ := id h'
  obtain ⟨hn, ht, e0, e1⟩ := gQ_0 g
  unfold F5_sort F6_sort
  rw [nkd, nrg]
  by_cases c1 : F6_in x 0 2 = 0
  · rw [if_pos c1, if_neg (by decide), if_pos c1]; exact Sim_fail (Rel_up h (by omega)) rfl (by decide)
  rw [if_neg c1, if_pos rfl, if_neg c1]
  by_cases c3 : F6_in z 1 5000 = 0
  · rw [if_pos c3, if_neg (by decide), if_pos c3]; exact Sim_fail (Rel_up h (by omega)) rfl (by decide)
  rw [if_neg c3, if_pos rfl, if_neg c3]
  obtain ⟨k, hk1, hk2, rfl⟩ := in_nat (lo := 1) (hi := 5000) c3 (by decide) (by decide)
  rw [yard_eq hr g, nst0, nst1]
  by_cases c4 : nI k ≤ F6_yardOf (bput b 6 2 0) x
  · rw [if_neg (fun q => by rw [iLt] at q; rw [iLe] at c4; omega), if_pos rfl, if_pos c4]
    obtain ⟨_, r1, r2, _, _⟩ := Rel_keep h'
    exact Sim_done h' rfl (do_sort hB (by rw [r1, r2]; exact hr) (by rw [r2]; exact g) x hk2)
  · rw [if_pos (show F6_yardOf (bput b 6 2 0) x < nI k from by rw [iLt]; rw [iLe] at c4; omega), if_neg (by decide), if_neg c4]
    exact Sim_fail (Rel_up h (by omega)) rfl (by decide)
theorem st_swap (hB : B < 2000000000) (h : Rel B a b) (x y z : Int32) : Sim id (B + 85000) (F5_swap a x y z) (F6_swap b x y z) := by
  have h' := Rel_thr h 0
  obtain ⟨⟨hr, n, t, g⟩, _⟩ := id h'
  obtain ⟨hn, ht, e0, e1⟩ := gQ_0 g
  have hB1 := isB_eq (u := a) (v := bput b 6 2 0) hn ((hr.1 0 (by decide)).trans e0) e0 x
  have hB2 := isB_eq (u := a) (v := bput b 6 2 0) hn ((hr.1 0 (by decide)).trans e0) e0 y
  unfold F5_swap F6_swap F5_needBrand
  rw [hB1, hB2, nrg, nar0, nar1]
  by_cases c1 : F6_isBrand (bput b 6 2 0) x = 0
  · rw [if_pos c1, if_neg (by decide), if_pos c1]; exact Sim_fail (Rel_up h (by omega)) rfl (by decide)
  rw [if_neg c1, if_pos rfl, if_neg c1]
  by_cases c2 : F6_isBrand (bput b 6 2 0) y = 0
  · rw [if_pos c2, if_neg (by decide), if_pos c2]; exact Sim_fail (Rel_up h (by omega)) rfl (by decide)
  rw [if_neg c2, if_pos rfl, if_neg c2]
  obtain ⟨bb, hbn, rfl⟩ := isB_nat hn e0 c1
  obtain ⟨e, hen, rfl⟩ := isB_nat hn e0 c2
  by_cases c5 : nI bb = nI e
  · rw [if_pos c5, if_neg (by decide), if_pos c5]; exact Sim_fail (Rel_up h (by omega)) rfl (by decide)
  rw [if_neg c5, if_neg c5, show F2_ofBrand a (nI bb) 0 = F6_of (bput b 6 2 0) (nI bb) 0 from r_b hr (w := 0) (by omega) (by decide), show F2_ofBrand a (nI e) 0 = F6_of (bput b 6 2 0) (nI e) 0 from r_b hr (w := 0) (by omega) (by decide)]
  by_cases c6 : F6_of (bput b 6 2 0) (nI bb) 0 = F6_of (bput b 6 2 0) (nI e) 0
  · rw [if_pos c6, if_pos rfl, if_pos c6]
    by_cases c3 : F6_in z 1 5000 = 0
    · rw [if_pos c3, if_neg (by decide), if_pos c3]; exact Sim_fail (Rel_up h (by omega)) rfl (by decide)
    rw [if_neg c3, if_pos rfl, if_neg c3]
    obtain ⟨k, hk1, hk2, rfl⟩ := in_nat (lo := 1) (hi := 5000) c3 (by decide) (by decide)
    rw [show F2_ofBrand a (nI bb) 1 = F6_of (bput b 6 2 0) (nI bb) 1 from r_b hr (w := 1) (by omega) (by decide), nst0, nst1]
    by_cases c4 : nI k ≤ F6_of (bput b 6 2 0) (nI bb) 1
    · rw [if_neg (fun q => by rw [iLt] at q; rw [iLe] at c4; omega), if_pos rfl, if_pos c4]
      obtain ⟨_, r1, r2, _, _⟩ := Rel_keep h'
      have d := do_swap (u := F1_keep a) (v := F6_save (bput b 6 2 0)) hB (by rw [r1, r2]; exact hr) (by rw [r2]; exact g) hbn hen (fun q => c5 (by rw [q])) hk2 (by rw [show F6_of (F6_save (bput b 6 2 0)) (nI bb) 1 = F6_of (bput b 6 2 0) (nI bb) 1 from by unfold F6_of; rw [r2]]; exact c4)
      rw [← m_iG (show bb < 8 by omega) (show e < 8 by omega), ← m_iG (show e < 8 by omega) (show bb < 8 by omega)] at d
      exact Sim_done h' rfl d
    · rw [if_pos (show F6_of (bput b 6 2 0) (nI bb) 1 < nI k from by rw [iLt]; rw [iLe] at c4; omega), if_neg (by decide), if_neg c4]
      exact Sim_fail (Rel_up h (by omega)) rfl (by decide)
  · rw [if_neg c6, if_neg (by decide), if_neg c6]; exact Sim_fail (Rel_up h (by omega)) rfl (by decide)
end

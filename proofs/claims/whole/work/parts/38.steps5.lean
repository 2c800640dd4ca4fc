-- buyCrates, set, collected (own text)
theorem wD_one : ∀ i : Nat, i < 219 → wD i = (if i = 2 then 1 else 0) + ((if i = 94 then 1 else 0) + ((if i = 115 then 1 else 0) + ((if i = 136 then 1 else 0) + ((if i = 157 then 1 else 0) + ((if i = 178 then 1 else 0) + (if i = 199 then (1 : Int) else 0)))))) := by decide +kernel
theorem S_plus {w v : Nat → Int} {m : Nat → Int32} : S (fun i => w i + v i) m = S w m + S v m := by
  have := S_lin (m := m) (w := fun i => w i + v i) (v := w) (z := v) (a := 1) (b := 1) (fun i => by omega)
  rw [this]; omega
theorem S_wD (m : Nat → Int32) : S wD m = (m 2).toInt + ((m 94).toInt + ((m 115).toInt + ((m 136).toInt + ((m 157).toInt + ((m 178).toInt + (m 199).toInt))))) := by
  rw [S_congr (m := m) (k := m) (fun i hi => by rw [wD_one i hi]), S_plus, S_plus, S_plus, S_plus, S_plus, S_plus, S_one (by decide), S_one (by decide), S_one (by decide), S_one (by decide), S_one (by decide), S_one (by decide), S_one (by decide)]
theorem crates_nat {v : bU} {B n t : Nat} {α β : Int} (h : gQ B n t α β (v 0)) : ∃ C : Nat, F6_cratesInShops v = nI C ∧ S wD (v 0) = (v 0 2).toInt + C ∧ C ≤ 6000 := by
  obtain ⟨hn, ht, e0, e1⟩ := gQ_0 h
  have hc : ∀ s : Nat, s < 6 → ∃ y : Nat, y ≤ 1000 ∧ v 0 (93 + 21 * s + 1) = nI y := fun s hs => d_nat h (by omega) (wv_D_s1 hs)
  obtain ⟨y0, z0, c0⟩ := hc 0 (by decide)
  obtain ⟨y1, z1, c1⟩ := hc 1 (by decide)
  obtain ⟨y2, z2, c2⟩ := hc 2 (by decide)
  obtain ⟨y3, z3, c3⟩ := hc 3 (by decide)
  obtain ⟨y4, z4, c4⟩ := hc 4 (by decide)
  obtain ⟨y5, z5, c5⟩ := hc 5 (by decide)
  refine ⟨y0 + y1 + y2 + y3 + y4 + y5, ?_, ?_, by omega⟩
  · unfold F6_cratesInShops
    rw [aL_mCrates v e1 ht t _ 0 0 (by omega) (by rw [e1, mC (by omega)]; omega)]
    have : acc (fun j : Nat => v 0 (93 + 21 * j + 1)) 6 0 0 = acc (fun j : Nat => F6_ofShop v (nI j) 1) t 0 0 := acc_cut ht 0 (fun i hi => (m_sh v (w := 1) (by omega)).symm) (fun i h1 h2 => z_s h h1 h2 (by decide))
    rw [← this]
    show (((((0 + v 0 (93 + 21 * 0 + 1)) + v 0 (93 + 21 * 1 + 1)) + v 0 (93 + 21 * 2 + 1)) + v 0 (93 + 21 * 3 + 1)) + v 0 (93 + 21 * 4 + 1)) + v 0 (93 + 21 * 5 + 1) = _
    rw [c0, c1, c2, c3, c4, c5, Int32.zero_add, nI_add, nI_add, nI_add, nI_add, nI_add]
  · rw [S_wD, show v 0 94 = nI y0 from c0, show v 0 115 = nI y1 from c1, show v 0 136 = nI y2 from c2, show v 0 157 = nI y3 from c3, show v 0 178 = nI y4 from c4, show v 0 199 = nI y5 from c5, tN (by omega), tN (by omega), tN (by omega), tN (by omega), tN (by omega), tN (by omega)]
    omega
theorem g_buy {B n t k : Nat} {m : Nat → Int32} (h : gJ B n t m) (hk : k ≤ 500) (hS : S wD m + k ≤ 1000) : gJ B n t (add1 m 2 (nI k)) := by
  have h2 := gJ_D h (j := 2) (by decide) wv_D_g2
  have v2 : (add1 m 2 (nI k) 2).toInt = (m 2).toInt + k := by rw [add1_at, iAdd (by rw [tN (by omega)]; omega) (by rw [tN (by omega)]; omega), tN (by omega)]
  have nv : (m 2 + nI k).toInt = (m 2).toInt + (nI k).toInt := iAdd (by rw [tN (by omega)]; omega) (by rw [tN (by omega)]; omega)
  have vo : ∀ i : Nat, i ≠ 2 → add1 m 2 (nI k) i = m i := fun i hi => add1_ne hi
  have sumw : ∀ w : Nat → Int, S w (add1 m 2 (nI k)) = S w m + w 2 * (k : Int) := fun w => by
    rw [S_add1 (by decide) (Or.inr nv), tN (by omega)]
  obtain ⟨⟨hn8, ht6, h0, h1⟩, hK, ⟨hZ1, hZ2, hZ3⟩, ⟨hp1, hp2, hp3, hp4⟩, ⟨hP, hM⟩, ⟨s1, s2, s3, s4, s5, s6⟩⟩ := id h
  have hd : dp (add1 m 2 (nI k)) = dp m := by
    funext b
    unfold dp
    by_cases q : b < 8
    · obtain ⟨kk, hkk, e⟩ := hK b q
      rw [if_pos q, if_pos q, vo (13 + 10 * b) (by omega), e, mC (by omega), vo (7 + kk) (by omega)]
    · rw [if_neg q, if_neg q]
  refine ⟨⟨hn8, ht6, by rw [vo 0 (by decide)]; exact h0, by rw [vo 1 (by decide)]; exact h1⟩, fun b hb => by rw [vo _ (by omega)]; exact hK b hb, ⟨fun b w x1 x2 x3 => by rw [vo _ (by omega)]; exact hZ1 b w x1 x2 x3, fun i w x1 x2 x3 => by rw [vo _ (by omega)]; exact hZ2 i w x1 x2 x3, fun i b x1 x2 x3 => by rw [vo _ (by omega), vo _ (by omega)]; exact hZ3 i b x1 x2 x3⟩, ⟨fun j hj => by rw [vo _ (by omega)]; exact hp1 j hj, by rw [vo _ (by decide)]; exact hp2, by rw [vo _ (by decide)]; exact hp3, by rw [vo _ (by decide)]; exact hp4⟩, ⟨fun j hj => ?_, fun j hj => ?_⟩, ?_⟩
  · by_cases c0 : j = 2
    · subst c0; rw [wv_P_g2, v2]; omega
    · rw [vo j c0]; exact hP j hj
  · by_cases c0 : j = 2
    · subst c0; rw [wv_M_g2]; omega
    · rw [vo j c0]; exact hM j hj
  · rw [hd, vo 10 (by decide), sumw, sumw, sumw, sumw, sumw, sumw, wv_T_g2, wv_A_g2, wv_B_g2, wv_G_g2, wv_F_g2, wv_D_g2]
    refine ⟨by omega, by omega, by omega, by omega, by omega, by omega⟩
section
variable {B : Nat} {a b : bU}
theorem c_num3 (a : bU) : F2_countNumber a 3 = F2_overShops a 1 := by
  unfold F2_countNumber; rw [if_pos rfl]
theorem st_buyCrates (h : Rel B a b) (x : Int32) : Sim cdA B (F5_buyCrates a x) (F6_buyCrates b x) := by
  have h' := Rel_thr h 0
  obtain ⟨⟨hr, n, t, g⟩, _⟩ := id h'
  obtain ⟨hn, ht, e0, e1⟩ := gQ_0 g
  unfold F5_buyCrates F6_buyCrates
  rw [nrg, nst0, nst1, show F2_ofAll a 2 = (bput b 6 2 0) 0 2 from (c_all a (k := 2) (by decide)).trans (hr.1 2 (by decide)), c_num3 a, crates_eq hr g]
  by_cases c3 : F6_in x 1 500 = 0
  · rw [if_pos c3, if_neg (by decide), if_pos c3]; exact Sim_fail h rfl (by decide)
  rw [if_neg c3, if_pos rfl, if_neg c3]
  obtain ⟨k, hk1, hk2, rfl⟩ := in_nat (lo := 1) (hi := 500) c3 (by decide) (by decide)
  obtain ⟨C, eC, sC, hC⟩ := crates_nat g
  obtain ⟨S9, hS, eS⟩ := d_nat g (j := 2) (by decide) wv_D_g2
  rw [eC, eS, nI_add, nI_add]
  by_cases c4 : S9 + C + k ≤ 1000
  · rw [if_neg (show ¬ (1000 : Int32) < nI (S9 + C + k) from nI_nlt (a := 1000) c4 (by decide)), if_pos rfl, if_pos (show nI (S9 + C + k) ≤ (1000 : Int32) from nI_le (b := 1000) c4 (by decide))]
    obtain ⟨_, r1, r2, _, _⟩ := Rel_keep h'
    have f1 : F2_addToAll (F1_keep a) 2 (nI k) = bs (F1_keep a) 0 (add1 (a 0) 2 (nI k)) := by rw [← r1]; exact c_addAll (F1_keep a) _ (k := 2) (by decide)
    have f2 : badd (F6_save (bput b 6 2 0)) 0 2 (nI k) = bs (F6_save (bput b 6 2 0)) 0 (add1 ((bput b 6 2 0) 0) 2 (nI k)) := by rw [badd_eq, r2]
    rw [f1, f2]
    refine ⟨?_, fun _ => ?_, Rel_done h' (by omega) (fun c h0 h1 => bs_ne _ _ h0) (fun c h0 => bs_ne _ _ h0) ⟨?_, n, t, ?_⟩⟩
    · dsimp only
      rw [bs_ne _ _ (by decide), thr_save h]; rfl
    · dsimp only
      rw [show F2_ofAll (bs (F1_keep a) 0 (add1 (a 0) 2 (nI k))) 2 = add1 (a 0) 2 (nI k) 2 from d_all _ _ (k := 2) (by decide), bs_eq, add1_at, add1_at, show a 0 2 = (bput b 6 2 0) 0 2 from hr.1 2 (by decide)]
    · dsimp only
      rw [bs_eq, bs_eq]
      exact rV_upd0 hr (by decide) (by decide) _
    · dsimp only
      rw [bs_eq]
      exact g_buy g hk2 (by rw [sC, eS, tN (by omega)]; omega)
  · rw [if_pos (show (1000 : Int32) < nI (S9 + C + k) from nI_lt (a := 1000) (by omega) (by omega)), if_neg (by decide), if_neg (show ¬ nI (S9 + C + k) ≤ (1000 : Int32) from nI_ge (a := 1000) (by omega) (by omega))]
    exact Sim_fail h rfl (by decide)
end

-- addBrand, addShop, buyCrates, set, collected (own text)
theorem bput_bs (u : bU) (f : Nat → Int32) (i : Nat) (x : Int32) : bput (bs u 0 f) 0 i x = bs u 0 (upd f i x) := by
  show bs (bs u 0 f) 0 (upd ((bs u 0 f) 0) i x) = _
  rw [bs_eq, bs_bs]
theorem bput_eq (u : bU) (i : Nat) (x : Int32) : bput u 0 i x = bs u 0 (upd (u 0) i x) := rfl
theorem upd_add {f : Nat → Int32} {i : Nat} {x : Int32} (h : f i = 0) : upd f i x = add1 f i x := by
  unfold add1
  rw [h, Int32.zero_add]
theorem rV_upd0 {c m : Nat → Int32} (h : rV c m) {i j : Nat} (hi : phi j = i) (hj : j < 219) (x : Int32) : rV (add1 c i x) (add1 m j x) := by
  rw [← hi]; exact rV_add1 h hj x
theorem val_9 (f : Nat → Int32) (i j : Nat) (x : Int32) : add1 f i x j = if j = i then f j + x else f j := add1_val f i j x
/-- a new brand -/
theorem g_brand {B n t k y : Nat} {m : Nat → Int32} (h : gJ B n t m) (hn : n < 8) (hk : k < 3) (hy : y ≤ 5000) : gJ B (n + 1) t (add1 (add1 (add1 m (13 + 10 * n + 0) (nI k)) (13 + 10 * n + 1) (nI y)) 0 1) := by
  generalize hm : add1 (add1 (add1 m (13 + 10 * n + 0) (nI k)) (13 + 10 * n + 1) (nI y)) 0 1 = m'
  have v0 : m' 0 = nI (n + 1) := by rw [← hm, add1_at, add1_ne (by omega), add1_ne (by omega), h.1.2.2.1, nI_1]
  have vk : m' (13 + 10 * n + 0) = nI k := by rw [← hm, add1_ne (by omega), add1_ne (by omega), add1_at, z_b h (Nat.le_refl n) hn (by decide), Int32.zero_add]
  have vy : m' (13 + 10 * n + 1) = nI y := by rw [← hm, add1_ne (by omega), add1_at, add1_ne (by omega), z_b h (Nat.le_refl n) hn (by decide), Int32.zero_add]
  have vo : ∀ i : Nat, i ≠ 0 → i ≠ 13 + 10 * n + 0 → i ≠ 13 + 10 * n + 1 → m' i = m i := fun i h1 h2 h3 => by rw [← hm, add1_ne h1, add1_ne h3, add1_ne h2]
  clear hm
  obtain ⟨⟨hn8, ht, h0, h1⟩, hK, ⟨hZ1, hZ2, hZ3⟩, ⟨hp1, hp2, hp3, hp4⟩, ⟨hP, hM⟩, ⟨s1, s2, s3, s4, s5, s6⟩⟩ := id h
  have hK2 : ∀ b : Nat, b < 8 → ∃ k : Nat, k < 3 ∧ m' (13 + 10 * b) = nI k := fun b hb => by
    by_cases q : b = n
    · subst q; exact ⟨k, hk, vk⟩
    · rw [vo _ (by omega) (by omega) (by omega)]; exact hK b hb
  have sumw : ∀ w : Nat → Int, (∀ i : Nat, i < 219 → i ≠ 13 + 10 * n + 1 → w i * (m' i).toInt = w i * (m i).toInt) → S w m' = S w m + w (13 + 10 * n + 1) * (y : Int) := by
    intro w hw
    have e1 : S w m' = S w (add1 m (13 + 10 * n + 1) (nI y)) := S_congr (fun i hi => by
      by_cases q : i = 13 + 10 * n + 1
      · subst q
        rw [vy, add1_at, z_b h (Nat.le_refl n) hn (by decide), Int32.zero_add]
      · rw [hw i hi q, add1_ne q])
    rw [e1, S_add1 (by omega) (Or.inr (by rw [z_b h (Nat.le_refl n) hn (by decide), Int32.zero_add, i0]; omega)), tN (by omega)]
  have w0 : ∀ w : Nat → Int, w 0 = 0 → w (13 + 10 * n + 0) = 0 → ∀ i : Nat, i < 219 → i ≠ 13 + 10 * n + 1 → w i * (m' i).toInt = w i * (m i).toInt := by
    intro w e1 e2 i hi q
    by_cases c0 : i = 0
    · subst c0; rw [e1, Int.zero_mul, Int.zero_mul]
    · by_cases c1 : i = 13 + 10 * n + 0
      · subst c1; rw [e2, Int.zero_mul, Int.zero_mul]
      · rw [vo i c0 c1 q]
  have z0 : ∀ {g : Nat → Int} {fb fs : Nat → Nat → Int}, wt g fb fs 0 = g 0 := wt_g (by decide)
  refine ⟨⟨by omega, ht, v0, by rw [vo 1 (by omega) (by omega) (by omega)]; exact h1⟩, hK2, ⟨fun b w x1 x2 x3 => ?_, fun i w x1 x2 x3 => ?_, fun i b x1 x2 x3 => ?_⟩, ⟨fun j hj => ?_, ?_, ?_, ?_⟩, ⟨fun j hj => ?_, fun j hj => ?_⟩, ?_⟩
  · rw [vo _ (by omega) (by omega) (by omega)]; exact hZ1 b w (by omega) x2 x3
  · rw [vo _ (by omega) (by omega) (by omega)]; exact hZ2 i w x1 x2 x3
  · rw [vo _ (by omega) (by omega) (by omega), vo _ (by omega) (by omega) (by omega)]; exact hZ3 i b x1 (by omega) x3
  · rw [vo _ (by omega) (by omega) (by omega)]; exact hp1 j hj
  · rw [vo _ (by omega) (by omega) (by omega)]; exact hp2
  · rw [vo _ (by omega) (by omega) (by omega)]; exact hp3
  · rw [vo _ (by omega) (by omega) (by omega)]; exact hp4
  · by_cases c0 : j = 0
    · subst c0; rw [show wP 0 = 0 from wt_g (by decide)]; omega
    · by_cases c1 : j = 13 + 10 * n + 0
      · subst c1; rw [wv_P_b0 hn, vk, tN (by omega)]; omega
      · by_cases c2 : j = 13 + 10 * n + 1
        · subst c2; rw [wv_P_b1 hn, vy, tN (by omega)]; omega
        · rw [vo j c0 c1 c2]; exact hP j hj
  · by_cases c0 : j = 0
    · subst c0; rw [show wQ 0 = 0 from wt_g (by decide)]; omega
    · by_cases c1 : j = 13 + 10 * n + 0
      · subst c1; rw [wv_M_b0 hn]; omega
      · by_cases c2 : j = 13 + 10 * n + 1
        · subst c2; rw [wv_M_b1 hn]; omega
        · rw [vo j c0 c1 c2]; exact hM j hj
  · have dpe : ∀ b : Nat, b ≠ n → dp m' b = dp m b := fun b hb => by
      unfold dp
      by_cases q : b < 8
      · obtain ⟨kk, hkk, e⟩ := hK b q
        rw [if_pos q, if_pos q, vo (13 + 10 * b) (by omega) (by omega) (by omega), e, mC (by omega), vo (7 + kk) (by omega) (by omega) (by omega)]
      · rw [if_neg q, if_neg q]
    have eA : S (wA (dp m') (m' 10).toInt) m' = S (wA (dp m) (m 10).toInt) m := by
      rw [vo 10 (by omega) (by omega) (by omega)]
      refine S_congr (at_cases (fun j hj => ?_) (fun b w hb hw => ?_) (fun s w hs hw => ?_))
      · rw [wA, wA, wt_g hj, wt_g hj]
        by_cases c0 : j = 0
        · subst c0; rw [if_neg (by decide), if_neg (by decide), Int.zero_mul, Int.zero_mul]
        · rw [vo j c0 (by omega) (by omega)]
      · rw [wA, wA, wt_b hb hw, wt_b hb hw]
        by_cases c3 : w = 3
        · subst c3
          rw [if_pos rfl, if_pos rfl, vo _ (by omega) (by omega) (by omega)]
          by_cases q : b = n
          · subst q; rw [z_b h (Nat.le_refl b) hn (by decide), i0, Int.mul_zero, Int.mul_zero]
          · rw [dpe b q]
        · rw [if_neg c3, if_neg c3, Int.zero_mul, Int.zero_mul]
      · rw [wA, wA, wt_s hs hw, wt_s hs hw, vo _ (by omega) (by omega) (by omega)]
        by_cases c1 : w = 1
        · rw [if_pos c1, if_pos c1]
        · rw [if_neg c1, if_neg c1]
          by_cases c5 : w < 5
          · rw [if_pos c5, if_pos c5]
          · rw [if_neg c5, if_neg c5]
            by_cases c13 : w < 13
            · rw [if_pos c13, if_pos c13]
              by_cases q : w - 5 = n
              · have := z_F h hs (b := w - 5) (by omega) (by omega)
                rw [show 5 + (w - 5) = w by omega] at this
                rw [this, i0, Int.mul_zero, Int.mul_zero]
              · rw [dpe _ q]
            · rw [if_neg c13, if_neg c13]
              by_cases q : w - 13 = n
              · have := z_E h hs (b := w - 13) (by omega) (by omega)
                rw [show 13 + (w - 13) = w by omega] at this
                rw [this, i0, Int.mul_zero, Int.mul_zero]
              · rw [dpe _ q]
    rw [eA, sumw wT (w0 wT z0 (wv_T_b0 hn)), sumw wB (w0 wB z0 (wv_B_b0 hn)), sumw wG (w0 wG z0 (wv_G_b0 hn)), sumw wF (w0 wF z0 (wv_F_b0 hn)), sumw wD (w0 wD z0 (wv_D_b0 hn)), wv_T_b1 hn, wv_B_b1 hn, wv_G_b1 hn, wv_F_b1 hn, wv_D_b1 hn]
    refine ⟨by omega, s2, by omega, by omega, by omega, by omega⟩
/-- a new shop -/
theorem g_shop {B n t y : Nat} {m : Nat → Int32} (h : gJ B n t m) (ht : t < 6) (hy : y ≤ B) (hB : B < 2000000000) : gJ B n (t + 1) (add1 (add1 m (93 + 21 * t + 0) (nI y)) 1 1) := by
  generalize hm : add1 (add1 m (93 + 21 * t + 0) (nI y)) 1 1 = m'
  have v1 : m' 1 = nI (t + 1) := by rw [← hm, add1_at, add1_ne (by omega), h.1.2.2.2, nI_1]
  have vy : m' (93 + 21 * t + 0) = nI y := by rw [← hm, add1_ne (by omega), add1_at, z_s h (Nat.le_refl t) ht (by decide), Int32.zero_add]
  have vo : ∀ i : Nat, i ≠ 1 → i ≠ 93 + 21 * t + 0 → m' i = m i := fun i h1 h2 => by rw [← hm, add1_ne h1, add1_ne h2]
  clear hm
  obtain ⟨⟨hn8, ht6, h0, h1⟩, hK, ⟨hZ1, hZ2, hZ3⟩, ⟨hp1, hp2, hp3, hp4⟩, ⟨hP, hM⟩, ⟨s1, s2, s3, s4, s5, s6⟩⟩ := id h
  have hd : dp m' = dp m := by
    funext b
    unfold dp
    by_cases q : b < 8
    · obtain ⟨kk, hkk, e⟩ := hK b q
      rw [if_pos q, if_pos q, vo (13 + 10 * b) (by omega) (by omega), e, mC (by omega), vo (7 + kk) (by omega) (by omega)]
    · rw [if_neg q, if_neg q]
  have sumw : ∀ w : Nat → Int, w 1 = 0 → w (93 + 21 * t + 0) = 0 → S w m' = S w m := by
    intro w e1 e2
    refine S_congr (fun i hi => ?_)
    by_cases c0 : i = 1
    · subst c0; rw [e1, Int.zero_mul, Int.zero_mul]
    · by_cases c1 : i = 93 + 21 * t + 0
      · subst c1; rw [e2, Int.zero_mul, Int.zero_mul]
      · rw [vo i c0 c1]
  have z1 : ∀ {g : Nat → Int} {fb fs : Nat → Nat → Int}, wt g fb fs 1 = g 1 := wt_g (by decide)
  refine ⟨⟨hn8, by omega, by rw [vo 0 (by omega) (by omega)]; exact h0, v1⟩, fun b hb => by rw [vo _ (by omega) (by omega)]; exact hK b hb, ⟨fun b w x1 x2 x3 => ?_, fun i w x1 x2 x3 => ?_, fun i b x1 x2 x3 => ?_⟩, ⟨fun j hj => ?_, ?_, ?_, ?_⟩, ⟨fun j hj => ?_, fun j hj => ?_⟩, ?_⟩
  · rw [vo _ (by omega) (by omega)]; exact hZ1 b w x1 x2 x3
  · rw [vo _ (by omega) (by omega)]; exact hZ2 i w (by omega) x2 x3
  · rw [vo _ (by omega) (by omega), vo _ (by omega) (by omega)]; exact hZ3 i b x1 x2 x3
  · rw [vo _ (by omega) (by omega)]; exact hp1 j hj
  · rw [vo _ (by omega) (by omega)]; exact hp2
  · rw [vo _ (by omega) (by omega)]; exact hp3
  · rw [vo _ (by omega) (by omega)]; exact hp4
  · by_cases c0 : j = 1
    · subst c0; rw [show wP 1 = 0 from wt_g (by decide)]; omega
    · by_cases c1 : j = 93 + 21 * t + 0
      · subst c1; rw [wv_P_s0 ht, vy, tN (by omega)]; omega
      · rw [vo j c0 c1]; exact hP j hj
  · by_cases c0 : j = 1
    · subst c0; rw [show wQ 1 = 0 from wt_g (by decide)]; omega
    · by_cases c1 : j = 93 + 21 * t + 0
      · subst c1; rw [wv_M_s0 ht, vy, tN (by omega)]; omega
      · rw [vo j c0 c1]; exact hM j hj
  · rw [hd, vo 10 (by omega) (by omega), sumw wT z1 (wv_T_s0 ht), sumw (wA (dp m) (m 10).toInt) z1 (wv_A_s0 ht), sumw wB z1 (wv_B_s0 ht), sumw wG z1 (wv_G_s0 ht), sumw wF z1 (wv_F_s0 ht), sumw wD z1 (wv_D_s0 ht)]
    exact ⟨s1, s2, s3, s4, s5, s6⟩
section
variable {B : Nat} {a b : bU}
theorem st_addShop (hB : B < 2000000000) (hB0 : 100000 ≤ B) (h : Rel B a b) (x : Int32) : Sim cdA B (F5_addShop a x) (F6_addShop b x) := by
  have h' := Rel_thr h 0
  obtain ⟨⟨hr, n, t, g⟩, _⟩ := id h'
  obtain ⟨hn, ht, e0, e1⟩ := gQ_0 g
  unfold F5_addShop F6_addShop
  rw [nrg, nst0, nst1, show F2_ofAll a 1 = nI t from (c_all a (k := 1) (by decide)).trans ((hr.1 1 (by decide)).trans e1), e1]
  by_cases c3 : F6_in x 0 100000 = 0
  · rw [if_pos c3, if_neg (by decide), if_pos c3]; exact Sim_fail h rfl (by decide)
  rw [if_neg c3, if_pos rfl, if_neg c3]
  obtain ⟨k, hk1, hk2, rfl⟩ := in_nat (lo := 0) (hi := 100000) c3 (by decide) (by decide)
  by_cases c4 : t = 6
  · subst c4
    rw [if_pos (show (6 : Int32) ≤ nI 6 by decide), if_neg (by decide), if_pos (show nI 6 = (6 : Int32) from rfl)]
    exact Sim_fail h rfl (by decide)
  · rw [if_neg (show ¬ (6 : Int32) ≤ nI t from nI_ge (b := 6) (by omega) (by decide)), if_pos rfl, if_neg (show ¬ nI t = (6 : Int32) from nI_ne (b := 6) c4 (by omega) (by decide))]
    obtain ⟨_, r1, r2, _, _⟩ := Rel_keep h'
    have ht6 : t < 6 := by omega
    have f1 : F2_addToShop (F2_addToAll (F1_keep a) 1 1) (nI t) 0 (nI k) = bs (F1_keep a) 0 (add1 (add1 (a 0) 1 1) (113 + 28 * t + 0) (nI k)) := by
      rw [show F2_addToAll (F1_keep a) 1 1 = bs (F1_keep a) 0 (add1 (a 0) 1 1) from by rw [← r1]; exact c_addAll (F1_keep a) 1 (k := 1) (by decide)]
      exact d_addSh (F1_keep a) _ (nI k) (w := 0) (by omega)
    have f2 : badd (bput (F6_save (bput b 6 2 0)) 0 (F6_shopAt ((F6_save (bput b 6 2 0)) 0 1) 0).toNatClampNeg (nI k)) 0 1 1 = bs (F6_save (bput b 6 2 0)) 0 (add1 (add1 ((bput b 6 2 0) 0) (93 + 21 * t + 0) (nI k)) 1 1) := by
      rw [r2, e1, show (F6_shopAt (nI t) 0).toNatClampNeg = 93 + 21 * t + 0 from m_iS (w := 0) (by omega), bput_eq, badd_bs, r2, upd_add (z_s g (Nat.le_refl t) ht6 (by decide))]
    rw [f1, f2]
    refine ⟨?_, fun _ => ?_, Rel_done h' (by omega) (fun c h0 h1 => bs_ne _ _ h0) (fun c h0 => bs_ne _ _ h0) ⟨?_, n, t + 1, ?_⟩⟩
    · dsimp only
      rw [bs_ne _ _ (by decide), thr_save h]; rfl
    · show nI t = (bs (F6_save (bput b 6 2 0)) 0 (add1 (add1 ((bput b 6 2 0) 0) (93 + 21 * t + 0) (nI k)) 1 1)) 0 1 - 1
      rw [bs_eq, add1_at, add1_ne (by omega), e1, nI_1]
      exact (nI_pred t).symm
    · dsimp only
      rw [bs_eq, bs_eq, add1_comm (a 0) 1]
      exact rV_upd0 (rV_upd0 hr (phi_s0 ht6) (by omega) _) (by decide) (by decide) _
    · dsimp only
      rw [bs_eq]
      exact g_shop g ht6 (by omega) hB
theorem st_addBrand (h : Rel B a b) (x z : Int32) : Sim cdA B (F5_addBrand a x z) (F6_addBrand b x z) := by
  have h' := Rel_thr h 0
  obtain ⟨⟨hr, n, t, g⟩, _⟩ := id h'
  obtain ⟨hn, ht, e0, e1⟩ := gQ_0 g
  unfold F5_addBrand F6_addBrand
  rw [nkd, nrg, nst0, nst1, show F2_ofAll a 0 = nI n from (c_all a (k := 0) (by decide)).trans ((hr.1 0 (by decide)).trans e0), e0]
  by_cases c2 : F6_in x 0 2 = 0
  · rw [if_pos c2, if_neg (by decide), if_pos c2]; exact Sim_fail h rfl (by decide)
  rw [if_neg c2, if_pos rfl, if_neg c2]
  by_cases c3 : F6_in z 0 5000 = 0
  · rw [if_pos c3, if_neg (by decide), if_pos c3]; exact Sim_fail h rfl (by decide)
  rw [if_neg c3, if_pos rfl, if_neg c3]
  obtain ⟨kk, _, hkk, rfl⟩ := in_nat (lo := 0) (hi := 2) c2 (by decide) (by decide)
  obtain ⟨y, hk1, hk2, rfl⟩ := in_nat (lo := 0) (hi := 5000) c3 (by decide) (by decide)
  by_cases c4 : n = 8
  · subst c4
    rw [if_pos (show (8 : Int32) ≤ nI 8 by decide), if_neg (by decide), if_pos (show nI 8 = (8 : Int32) from rfl)]
    exact Sim_fail h rfl (by decide)
  · rw [if_neg (show ¬ (8 : Int32) ≤ nI n from nI_ge (b := 8) (by omega) (by decide)), if_pos rfl, if_neg (show ¬ nI n = (8 : Int32) from nI_ne (b := 8) c4 (by omega) (by decide))]
    obtain ⟨_, r1, r2, _, _⟩ := Rel_keep h'
    have hn8 : n < 8 := by omega
    have f1 : F2_addToBrand (F2_addToBrand (F2_addToAll (F1_keep a) 0 1) (nI n) 0 (nI kk)) (nI n) 1 (nI y) = bs (F1_keep a) 0 (add1 (add1 (add1 (a 0) 0 1) (17 + 12 * n + 0) (nI kk)) (17 + 12 * n + 1) (nI y)) := by
      rw [show F2_addToAll (F1_keep a) 0 1 = bs (F1_keep a) 0 (add1 (a 0) 0 1) from by rw [← r1]; exact c_addAll (F1_keep a) 1 (k := 0) (by decide)]
      rw [show F2_addToBrand (bs (F1_keep a) 0 (add1 (a 0) 0 1)) (nI n) 0 (nI kk) = bs (F1_keep a) 0 (add1 (add1 (a 0) 0 1) (17 + 12 * n + 0) (nI kk)) from d_addBr _ _ _ (w := 0) (by omega)]
      exact d_addBr _ _ _ (w := 1) (by omega)
    have f2 : badd (bput (bput (F6_save (bput b 6 2 0)) 0 (F6_brandAt ((F6_save (bput b 6 2 0)) 0 0) 0).toNatClampNeg (nI kk)) 0 (F6_brandAt ((bput (F6_save (bput b 6 2 0)) 0 (F6_brandAt ((F6_save (bput b 6 2 0)) 0 0) 0).toNatClampNeg (nI kk)) 0 0) 1).toNatClampNeg (nI y)) 0 0 1 = bs (F6_save (bput b 6 2 0)) 0 (add1 (add1 (add1 ((bput b 6 2 0) 0) (13 + 10 * n + 0) (nI kk)) (13 + 10 * n + 1) (nI y)) 0 1) := by
      rw [r2, e0, show (F6_brandAt (nI n) 0).toNatClampNeg = 13 + 10 * n + 0 from m_iB (w := 0) (by omega), show bput (F6_save (bput b 6 2 0)) 0 (13 + 10 * n + 0) (nI kk) = bs (F6_save (bput b 6 2 0)) 0 (add1 ((bput b 6 2 0) 0) (13 + 10 * n + 0) (nI kk)) from by rw [bput_eq, r2, upd_add (z_b g (Nat.le_refl n) hn8 (by decide))], bs_eq, add1_ne (show (0 : Nat) ≠ 13 + 10 * n + 0 by omega), e0, show (F6_brandAt (nI n) 1).toNatClampNeg = 13 + 10 * n + 1 from m_iB (w := 1) (by omega), bput_bs, upd_add (by rw [add1_ne (by omega)]; exact z_b g (Nat.le_refl n) hn8 (by decide)), badd_bs]
    rw [f1, f2]
    refine ⟨?_, fun _ => ?_, Rel_done h' (by omega) (fun c h0 h1 => bs_ne _ _ h0) (fun c h0 => bs_ne _ _ h0) ⟨?_, n + 1, t, ?_⟩⟩
    · dsimp only
      rw [bs_ne _ _ (by decide), thr_save h]; rfl
    · show nI n = (bs (F6_save (bput b 6 2 0)) 0 (add1 (add1 (add1 ((bput b 6 2 0) 0) (13 + 10 * n + 0) (nI kk)) (13 + 10 * n + 1) (nI y)) 0 1)) 0 0 - 1
      rw [bs_eq, add1_at, add1_ne (by omega), add1_ne (by omega), e0, nI_1]
      exact (nI_pred n).symm
    · dsimp only
      rw [bs_eq, bs_eq, add1_comm (a 0) 0, add1_comm _ 0]
      exact rV_upd0 (rV_upd0 (rV_upd0 hr (phi_b0 hn8) (by omega) _) (phi_b1 hn8) (by omega) _) (by decide) (by decide) _
    · dsimp only
      rw [bs_eq]
      exact g_brand g hn8 (by omega) (by omega)
end

-- collected (own text)
theorem cp24 : ∀ (n j : Nat) (u : bU), j + n = 284 → (∀ c : Nat, c ≠ 1 → L6_wouldCollect_24 u n j c = u c) ∧ (∀ i : Nat, i < j → L6_wouldCollect_24 u n j 1 i = u 1 i) ∧ ∀ i : Nat, j ≤ i → i < 283 → L6_wouldCollect_24 u n j 1 i = u 0 i := by
  intro n
  induction n with
  | zero => intro j u h; exact ⟨fun c _ => rfl, fun i _ => rfl, fun i h1 h2 => by omega⟩
  | succ n ih =>
    intro j u h
    rw [L6_wouldCollect_24]
    by_cases q : 283 ≤ j
    · rw [if_pos (show (283 : Int32) ≤ nI j from nI_le (a := 283) q (by omega))]
      exact ⟨fun c _ => rfl, fun i _ => rfl, fun i h1 h2 => by omega⟩
    · rw [if_neg (show ¬ (283 : Int32) ≤ nI j from nI_ge (b := 283) (by omega) (by decide))]
      obtain ⟨i1, i2, i3⟩ := ih (j + 1) (bput u 1 j (u 0 j)) (by omega)
      refine ⟨fun c hc => by rw [i1 c hc, bput_c _ _ hc], fun i hi => by rw [i2 i (by omega), bput_ne _ _ (by omega)], fun i h1 h2 => ?_⟩
      by_cases e : i = j
      · subst e; rw [i2 i (by omega), bput_at]
      · rw [i3 i (by omega) h2, bput_c _ _ (by decide)]
theorem cp72 : ∀ (n j : Nat) (u : bU), j + n = 284 → (∀ c : Nat, c ≠ 0 → L6_wouldCollect_72 u n j c = u c) ∧ (∀ i : Nat, i < j → L6_wouldCollect_72 u n j 0 i = u 0 i) ∧ ∀ i : Nat, j ≤ i → i < 283 → L6_wouldCollect_72 u n j 0 i = u 1 i := by
  intro n
  induction n with
  | zero => intro j u h; exact ⟨fun c _ => rfl, fun i _ => rfl, fun i h1 h2 => by omega⟩
  | succ n ih =>
    intro j u h
    rw [L6_wouldCollect_72]
    by_cases q : 283 ≤ j
    · rw [if_pos (show (283 : Int32) ≤ nI j from nI_le (a := 283) q (by omega))]
      exact ⟨fun c _ => rfl, fun i _ => rfl, fun i h1 h2 => by omega⟩
    · rw [if_neg (show ¬ (283 : Int32) ≤ nI j from nI_ge (b := 283) (by omega) (by decide))]
      obtain ⟨i1, i2, i3⟩ := ih (j + 1) (bput u 0 j (u 1 j)) (by omega)
      refine ⟨fun c hc => by rw [i1 c hc, bput_c _ _ hc], fun i hi => by rw [i2 i (by omega), bput_ne _ _ (by omega)], fun i h1 h2 => ?_⟩
      by_cases e : i = j
      · subst e; rw [i2 i (by omega), bput_at]
      · rw [i3 i (by omega) h2, bput_c _ _ (by decide)]
theorem Rel_far {B : Nat} {a b a1 b1 : bU} (h : Rel B a b) (ha0 : ∀ i : Nat, i < 345 → a1 0 i = a 0 i) (ha : ∀ c : Nat, c ≠ 0 → c ≠ 1 → a1 c = a c) (hb0 : ∀ i : Nat, i < 283 → b1 0 i = b 0 i) (hb : ∀ c : Nat, c ≠ 0 → c ≠ 1 → b1 c = b c) : Rel B a1 b1 := by
  obtain ⟨h1, ⟨n, l, hn, hl, a3, a4, a5, a6⟩, ⟨L, hL, t1, t2, t3⟩, h4⟩ := h
  exact ⟨RV_far h1 ha0 hb0, ⟨n, l, hn, hl, by rw [ha 11 (by decide) (by decide)]; exact a3, by rw [ha 11 (by decide) (by decide)]; exact a4, by rw [hb 6 (by decide) (by decide)]; exact a5, fun i hi => by rw [ha _ (by omega) (by omega), hb 2 (by decide) (by decide)]; exact a6 i hi⟩, ⟨L, hL, by rw [ha 11 (by decide) (by decide)]; exact t1, by rw [hb 6 (by decide) (by decide)]; exact t2, fun i hi => by rw [ha 2 (by decide) (by decide), hb 3 (by decide) (by decide)]; exact t3 i hi⟩, fun i hi => by rw [hb 4 (by decide) (by decide), hb 5 (by decide) (by decide)]; exact h4 i hi⟩
theorem i_back (x : Int32) {e p : Nat} (h : p ≤ e) : x + nI p - x = nI e - nI (e - p) := by
  have : nI e = nI (e - p) + nI p := by rw [nI_add, Nat.sub_add_cancel h]
  rw [this]; grind
section
variable {B : Nat} {a b : bU}
theorem do_would (hB : B < 2000000000) {u v : bU} {n t : Nat} (hr : rV (u 0) (v 0)) (g : gJ B n t (v 0)) {s bb k : Nat} (hst : s < t) (hb8 : bb < 8) (hk : k ≤ 50) : (F4_wouldCollect u (nI s) (nI bb) (nI k)).1 = (F6_wouldCollect v (nI s) (nI bb) (nI k)).1 ∧ (F4_wouldCollect u (nI s) (nI bb) (nI k)).2 0 = u 0 ∧ (∀ c : Nat, c ≠ 0 → c ≠ 1 → (F4_wouldCollect u (nI s) (nI bb) (nI k)).2 c = u c) ∧ (∀ i : Nat, i < 283 → (F6_wouldCollect v (nI s) (nI bb) (nI k)).2 0 i = v 0 i) ∧ ∀ c : Nat, c ≠ 0 → c ≠ 1 → (F6_wouldCollect v (nI s) (nI bb) (nI k)).2 c = v c := by
  obtain ⟨hn, ht, e0, e1⟩ := gQ_0 g
  have hs6 : s < 6 := by omega
  obtain ⟨kk, d, hkk, ek, ed, hd1, hd2⟩ := kind_nat g hb8
  obtain ⟨c, p, w, hc, hp, _, _, ec, ep, _⟩ := c_set3 g
  have o6 : F6_of v (nI bb) 0 = nI kk := (m_br v (w := 0) (by omega)).trans ek
  have o2 : F2_ofBrand u (nI bb) 0 = nI kk := (r_b hr (w := 0) hb8 (by decide)).trans o6
  unfold F4_wouldCollect F6_wouldCollect
  rw [o6, o2, col_eq hr g hs6]
  by_cases c4 : F6_againstCollect v (nI s) (nI kk) (nI k) = 0
  · rw [if_pos c4, if_pos (show F6_againstCollect v (nI s) (nI kk) (nI k) ≤ 0 by rw [c4]; decide)]
    obtain ⟨i1, -, i3⟩ := cp24 (283 + 1) 0 v (by decide)
    generalize L6_wouldCollect_24 v (283 + 1) 0 = w1 at i1 i3 ⊢
    have w0 : w1 0 = v 0 := i1 0 (by decide)
    unfold F6_againstCollect at c4
    by_cases q1 : 12 * nI k ≤ F6_emptiesOf v (nI s) (nI kk)
    · rw [if_pos q1] at c4
      by_cases q2 : nI k ≤ F6_ofShop v (nI s) 1
      · rw [show F6_ofShop v (nI s) 1 = v 0 (93 + 21 * s + 1) from m_sh _ (w := 1) (by omega)] at q2
        obtain ⟨w, c', m', f1, f2, f3, f4, f5, f6, P, p1, p2, p3⟩ := s_collect (u := u) (v := w1) hB (by rw [w0]; exact hr) (by rw [w0]; exact g) hst hkk (by rw [w0]; exact ed) hd1 hd2 (by rw [w0]; exact ec) hc hk (by rw [w0]; exact sum_le hs6 g hk q1) (by rw [w0]; exact le_int q2 (by omega))
        rw [f3]
        obtain ⟨j1, -, j3⟩ := cp72 (283 + 1) 0 (bs w1 0 m') (by decide)
        generalize L6_wouldCollect_72 (bs w1 0 m') (283 + 1) 0 = w2 at j1 j3 ⊢
        have r0 : ∀ i : Nat, i < 283 → w2 0 i = v 0 i := fun i hi => by
          rw [j3 i (by omega) hi, bs_ne _ _ (by decide), i3 i (by omega) hi]
        have y0 : F4_pickEmpties u (nI s) (nI kk) (12 * nI k) 0 = u 0 := fr_pickEmpties _ _ _ _ (by decide)
        refine ⟨?_, y0, fun c _ h1 => fr_pickEmpties _ _ _ _ h1, r0, fun c h0 h1 => by show w2 c = v c; rw [j1 c h0, bs_ne _ _ h0, i1 c h1]⟩
        dsimp only
        have m1 : F6_of (bs w1 0 m') (nI bb) 4 = v 0 (13 + 10 * bb + 4) + nI (P bb) :=
          (m_br (bs w1 0 m') (w := 4) (by omega)).trans (by rw [bs_eq, p3 bb hb8, w0])
        have m2 : F6_of w2 (nI bb) 4 = v 0 (13 + 10 * bb + 4) :=
          (m_br w2 (w := 4) (by omega)).trans (r0 _ (by omega))
        have hE : F2_ofShop (F4_pickEmpties u (nI s) (nI kk) (12 * nI k)) (nI s) (20 + nI bb) = nI (eK s kk (v 0) bb) := by
          rw [r_E (v := v) (by rw [y0]; exact hr) hs6 hb8, show (13 + nI bb : Int32) = nI (13 + bb) from nI_add 13 bb, m_sh _ (by omega)]
          obtain ⟨y, hy, e⟩ := b_nat g (j := 93 + 21 * s + (13 + bb)) (by omega) (wv_T_E hs6 hb8)
          unfold eK
          rw [if_pos ek, e, mC (by omega)]
        have hM : F5_entry 8 (F4_pickEmpties u (nI s) (nI kk) (12 * nI k) 1) (nI bb) = nI (eK s kk (v 0) bb - P bb) := by
          unfold F5_entry
          rw [if_neg (nI_pos (by omega)), if_neg (show ¬ Int32.ofNat 8 ≤ nI bb from nI_ge (b := 8) hb8 (by decide)), mC (by omega), p2 bb hb8, w0]
        unfold F4_pickedOf
        rw [hE, hM, m1, m2]
        exact (i_back _ (by have := p1 bb hb8; rw [w0] at this; exact this)).symm
      · rw [if_neg q2] at c4; exact absurd c4 (by decide)
    · rw [if_neg q1] at c4; exact absurd c4 (by decide)
  · rw [if_neg c4, if_neg (fun q => c4 (ag_col _ _ _ _ q))]
    exact ⟨rfl, rfl, fun c _ _ => rfl, fun i _ => rfl, fun c _ _ => rfl⟩
theorem st_collected (hB : B < 2000000000) (h : Rel B a b) (x y z : Int32) : Sim id B (F5_collected a x y z) (F6_collected b x y z) := by
  have h' := Rel_thr h 0
  obtain ⟨⟨hr, n, t, g⟩, _⟩ := id h'
  obtain ⟨hn, ht, e0, e1⟩ := gQ_0 g
  have hB1 := isB_eq (u := a) (v := bput b 6 2 0) hn ((hr.1 0 (by decide)).trans e0) e0 y
  have hS1 := isS_eq (u := a) (v := bput b 6 2 0) ht ((hr.1 1 (by decide)).trans e1) e1 x
  unfold F5_collected F6_collected F5_needBrand F5_needShop
  rw [hB1, hS1, nrg]
  by_cases c2 : F6_isShop (bput b 6 2 0) x = 0
  · rw [if_pos c2, if_neg (by decide), if_pos c2]; exact Sim_fail h rfl (by decide)
  rw [if_neg c2, if_pos rfl, if_neg c2]
  by_cases c1 : F6_isBrand (bput b 6 2 0) y = 0
  · rw [if_pos c1, if_neg (by decide), if_pos c1]; exact Sim_fail h rfl (by decide)
  rw [if_neg c1, if_pos rfl, if_neg c1]
  by_cases c3 : F6_in z 1 50 = 0
  · rw [if_pos c3, if_neg (by decide), if_pos c3]; exact Sim_fail h rfl (by decide)
  rw [if_neg c3, if_pos rfl, if_neg c3]
  obtain ⟨bb, hbn, rfl⟩ := isB_nat hn e0 c1
  obtain ⟨s, hst, rfl⟩ := isS_nat ht e1 c2
  obtain ⟨k, hk1, hk2, rfl⟩ := in_nat (lo := 1) (hi := 50) c3 (by decide) (by decide)
  obtain ⟨d1, d2, d3, d4, d5⟩ := do_would hB hr g hst (show bb < 8 by omega) hk2
  exact ⟨by show (F6_wouldCollect (bput b 6 2 0) (nI s) (nI bb) (nI k)).2 6 2 = 0; rw [d5 6 (by decide) (by decide), bput_at], fun _ => d1, Rel_far h' (fun i _ => by show (F4_wouldCollect a (nI s) (nI bb) (nI k)).2 0 i = a 0 i; rw [d2]) d3 d4 d5⟩
end

-- set (own text)
theorem upd_as (f : Nat → Int32) (i : Nat) (x : Int32) : upd f i x = add1 f i (x - f i) := by
  funext k
  rw [add1_val]
  unfold upd
  by_cases e : k = i
  · subst e; rw [if_pos rfl, if_pos rfl]; grind
  · rw [if_neg e, if_neg e]
theorem S_zero (m : Nat → Int32) : S (fun _ => 0) m = 0 := by
  rw [S_lin (m := m) (w := fun _ => 0) (v := wT) (z := wT) (a := 0) (b := 0) (fun i => by omega)]; omega
theorem z_held {B n t : Nat} {m : Nat → Int32} (h : gJ B n t m) (h3 : (m 3).toInt = 0) (d : Nat → Int) (c : Int) : S (wA d c) m = 0 := by
  obtain ⟨H1, -, -⟩ := gJ_H h
  obtain ⟨c0, hc0, e10⟩ := h.2.2.2.1.2.1
  have hc2 : 0 ≤ (m 10).toInt ∧ (m 10).toInt ≤ 500 := by rw [e10, nI_toInt (by omega)]; omega
  have hl := wA1_le (gJ_dp h) hc2
  have nn : ∀ i : Nat, i < 219 → 0 ≤ wA1 (dp m) (m 10).toInt i * (m i).toInt := fun i hi => by
    rcases wP_01 i hi with p | p
    · rw [(hl i hi).2.2 p]; omega
    · exact Int.mul_nonneg (hl i hi).1 (gJ_P h hi p)
  have z1 : ∀ i : Nat, i < 219 → wA1 (dp m) (m 10).toInt i * (m i).toInt = 0 := fun i hi => by
    have a := S_ge nn hi
    have b := nn i hi
    omega
  have z4 : (m 4).toInt = 0 := by
    have := z1 4 (by decide)
    rw [wA1, wt_g (by decide), if_pos rfl] at this
    omega
  have d1 : ∀ b : Nat, b < 8 → 1 ≤ dp m b := fun b hb => by
    obtain ⟨k, hk, e⟩ := h.2.1 b hb
    obtain ⟨x, x1, x2, e2⟩ := h.2.2.2.1.1 k hk
    unfold dp
    rw [if_pos hb, e, mC (by omega), e2, nI_toInt (by omega)]
    omega
  have nz : ∀ {x y : Int}, x * y = 0 → 1 ≤ x → y = 0 := fun {x y} e l => by
    rcases Int.mul_eq_zero.mp e with q | q
    · omega
    · exact q
  have zb3 : ∀ b : Nat, b < 8 → (m (13 + 10 * b + 3)).toInt = 0 := fun b hb => by
    have := z1 (13 + 10 * b + 3) (by omega)
    rw [wA1, wt_b hb (by decide), if_pos rfl] at this
    exact nz this (d1 b hb)
  have zF : ∀ s w : Nat, s < 6 → 5 ≤ w → w < 21 → (m (93 + 21 * s + w)).toInt = 0 := fun s w hs h5 h21 => by
    have := z1 (93 + 21 * s + w) (by omega)
    rw [wA1, wt_s hs h21, if_neg (by omega), if_neg (by omega)] at this
    by_cases q : w < 13
    · rw [if_pos q] at this
      exact nz this (d1 _ (by omega))
    · rw [if_neg q] at this
      exact nz this (d1 _ (by omega))
  have eF : S wF m = (m 4).toInt := by
    rw [← S_one (m := m) (k := 4) (by decide)]
    exact S_congr (fun i hi => by rw [(wF_01 i hi).1])
  have hG := h.2.2.2.2.2.2.2.2.1
  have gn := gJ_w01 h (fun j hj => ⟨(wG_01 j hj).1, (wG_01 j hj).2.1⟩)
  have zG : ∀ b w : Nat, b < 8 → w = 5 ∨ w = 6 → (m (13 + 10 * b + w)).toInt = 0 := fun b w hb hw => by
    have a := S_ge gn (j := 13 + 10 * b + w) (by omega)
    have b2 := gn (13 + 10 * b + w) (by omega)
    rw [wG, wt_b hb (by omega), if_pos hw] at a b2
    rw [← wG] at a
    omega
  have hB : S wB m = 0 := h.2.2.2.2.2.2.2.1
  have eB : S wB m = S (wt (fun _ => 0) (fun _ _ => 0) (fun _ w => if w = 1 then 12 else 0)) m := S_congr (at_cases
    (fun j hj => by rw [wB, wt_g hj, wt_g hj])
    (fun b w hb hw => by
      rw [wB, wt_b hb hw, wt_b hb hw]
      by_cases q : w = 3 ∨ w = 5 ∨ w = 6
      · rcases q with rfl | q
        · rw [zb3 b hb]; omega
        · rw [zG b w hb q]; omega
      · rw [if_neg q])
    (fun s w hs hw => by
      rw [wB, wt_s hs hw, wt_s hs hw]
      by_cases q : w = 1
      · rw [if_pos q, if_pos q]
      · rw [if_neg q, if_neg q]
        by_cases q5 : 5 ≤ w
        · rw [zF s w hs q5 hw]; omega
        · rw [if_neg q5]))
  have cn : ∀ i : Nat, i < 219 → 0 ≤ (wt (fun _ => 0) (fun _ _ => 0) (fun _ w => if w = 1 then 12 else 0) : Nat → Int) i * (m i).toInt := at_cases
    (fun j hj => by rw [wt_g hj]; omega)
    (fun b w hb hw => by rw [wt_b hb hw]; omega)
    (fun s w hs hw => by
      rw [wt_s hs hw]
      by_cases q : w = 1
      · subst q
        have := gJ_D h (j := 93 + 21 * s + 1) (by omega) (wv_D_s1 hs)
        rw [if_pos rfl]; omega
      · rw [if_neg q]; omega)
  have zC : ∀ s : Nat, s < 6 → (m (93 + 21 * s + 1)).toInt = 0 := fun s hs => by
    have a := S_ge cn (j := 93 + 21 * s + 1) (by omega)
    have b2 := cn (93 + 21 * s + 1) (by omega)
    rw [← eB, hB, wt_s hs (by decide), if_pos rfl] at a
    rw [wt_s hs (by decide), if_pos rfl] at b2
    omega
  rw [← S_zero m]
  exact S_congr (at_cases
    (fun j hj => by
      rw [wA, wt_g hj]
      by_cases q : j = 3
      · subst q; rw [h3]; omega
      · rw [if_neg q]
        by_cases q4 : j = 4
        · subst q4; rw [z4]; omega
        · rw [if_neg q4])
    (fun b w hb hw => by
      rw [wA, wt_b hb hw]
      by_cases q : w = 3
      · subst q; rw [zb3 b hb]; omega
      · rw [if_neg q])
    (fun s w hs hw => by
      rw [wA, wt_s hs hw]
      by_cases q : w = 1
      · subst q; rw [zC s hs]; omega
      · rw [if_neg q]
        by_cases q5 : w < 5
        · rw [if_pos q5]
        · rw [zF s w hs (by omega) hw]; omega))
theorem wz_set {k : Nat} (hk : k < 6) {d : Nat → Int} {c : Int} : wT (7 + k) = 0 ∧ wA d c (7 + k) = 0 ∧ wB (7 + k) = 0 ∧ wG (7 + k) = 0 ∧ wF (7 + k) = 0 ∧ wD (7 + k) = 0 ∧ wP (7 + k) = 0 ∧ wQ (7 + k) = 0 := by
  refine ⟨?_, ?_, ?_, ?_, ?_, ?_, ?_, ?_⟩
  · rw [wT, wt_g (by omega)]
  · rw [wA, wt_g (by omega), if_neg (by omega), if_neg (by omega)]
  · rw [wB, wt_g (by omega)]
  · rw [wG, wt_g (by omega)]
  · rw [wF, wt_g (by omega), if_neg (by omega)]
  · rw [wD, wt_g (by omega), if_neg (by omega)]
  · rw [wP, wt_g (by omega), if_neg (by omega)]
  · rw [wQ, wt_g (by omega), if_neg (by omega)]
theorem g_set {B n t k d : Nat} {m : Nat → Int32} (h : gJ B n t m) (hk : k < 6) (hd : (k < 3 → 1 ≤ d ∧ d ≤ 100) ∧ (k = 3 → d ≤ 500) ∧ (k = 4 → d ≤ 100) ∧ (k = 5 → 2 ≤ d ∧ d ≤ 1000)) (hz : 4 ≤ k ∨ (m 3).toInt = 0) : gJ B n t (add1 m (7 + k) (nI d - m (7 + k))) := by
  have v2 : add1 m (7 + k) (nI d - m (7 + k)) (7 + k) = nI d := by rw [add1_at]; grind
  have vo : ∀ i : Nat, i ≠ 7 + k → add1 m (7 + k) (nI d - m (7 + k)) i = m i := fun i hi => add1_ne hi
  have sumw : ∀ w : Nat → Int, w (7 + k) = 0 → S w (add1 m (7 + k) (nI d - m (7 + k))) = S w m := fun w e => by
    rw [S_add1 (by omega) (Or.inl e), e]; omega
  generalize add1 m (7 + k) (nI d - m (7 + k)) = f at v2 vo sumw ⊢
  have hA : S (wA (dp f) (f 10).toInt) m = 0 := by
    rcases hz with q | q
    · have hd : dp f = dp m := by
        funext b
        unfold dp
        by_cases p : b < 8
        · obtain ⟨kk, hkk, e⟩ := h.2.1 b p
          rw [if_pos p, if_pos p, vo (13 + 10 * b) (by omega), e, mC (by omega), vo (7 + kk) (by omega)]
        · rw [if_neg p, if_neg p]
      rw [hd, vo 10 (by omega)]
      exact h.2.2.2.2.2.2.1
    · exact z_held h q _ _
  obtain ⟨⟨hn8, ht6, h0, h1⟩, hK, ⟨hZ1, hZ2, hZ3⟩, ⟨hp1, hp2, hp3, hp4⟩, ⟨hP, hM⟩, ⟨s1, s2, s3, s4, s5, s6⟩⟩ := h
  obtain ⟨w1, -, w3, w4, w5, w6, w7, w8⟩ := wz_set (d := dp f) (c := (f 10).toInt) hk
  refine ⟨⟨hn8, ht6, by rw [vo 0 (by omega)]; exact h0, by rw [vo 1 (by omega)]; exact h1⟩, fun b hb => by rw [vo _ (by omega)]; exact hK b hb, ⟨fun b w x1 x2 x3 => by rw [vo _ (by omega)]; exact hZ1 b w x1 x2 x3, fun i w x1 x2 x3 => by rw [vo _ (by omega)]; exact hZ2 i w x1 x2 x3, fun i b x1 x2 x3 => by rw [vo _ (by omega), vo _ (by omega)]; exact hZ3 i b x1 x2 x3⟩, ⟨fun j hj => ?_, ?_, ?_, ?_⟩, ⟨fun j hj => ?_, fun j hj => ?_⟩, ?_⟩
  · by_cases c : j = k
    · subst c; exact ⟨d, (hd.1 hj).1, (hd.1 hj).2, v2⟩
    · rw [vo _ (by omega)]; exact hp1 j hj
  · by_cases c : k = 3
    · subst c; exact ⟨d, hd.2.1 rfl, v2⟩
    · rw [vo _ (by omega)]; exact hp2
  · by_cases c : k = 4
    · subst c; exact ⟨d, hd.2.2.1 rfl, v2⟩
    · rw [vo _ (by omega)]; exact hp3
  · by_cases c : k = 5
    · subst c; exact ⟨d, (hd.2.2.2 rfl).1, (hd.2.2.2 rfl).2, v2⟩
    · rw [vo _ (by omega)]; exact hp4
  · by_cases c : j = 7 + k
    · subst c; rw [w7]; omega
    · rw [vo j c]; exact hP j hj
  · by_cases c : j = 7 + k
    · subst c; rw [w8]; omega
    · rw [vo j c]; exact hM j hj
  · rw [sumw _ w1, sumw _ (wz_set (d := dp f) (c := (f 10).toInt) hk).2.1, sumw _ w3, sumw _ w4, sumw _ w5, sumw _ w6]
    exact ⟨s1, hA, s3, s4, s5, s6⟩
section
variable {B : Nat} {a b : bU}
theorem t_ent {k : Nat} (hk : k < 6) : F5_entry 6 tLeast (nI k) = tLeast k ∧ F5_entry 6 tMost (nI k) = tMost k := by
  revert k
  decide
theorem t_vals {k : Nat} (hk : k < 6) : ∃ lo hi : Nat, lo ≤ hi ∧ hi ≤ 1000 ∧ tLeast k = nI lo ∧ tMost k = nI hi ∧ ∀ d : Nat, lo ≤ d → d ≤ hi → (k < 3 → 1 ≤ d ∧ d ≤ 100) ∧ (k = 3 → d ≤ 500) ∧ (k = 4 → d ≤ 100) ∧ (k = 5 → 2 ≤ d ∧ d ≤ 1000) := by
  rcases (show k = 0 ∨ k = 1 ∨ k = 2 ∨ k = 3 ∨ k = 4 ∨ k = 5 by omega) with rfl | rfl | rfl | rfl | rfl | rfl
  · exact ⟨1, 100, by omega, by omega, rfl, rfl, fun d _ _ => by omega⟩
  · exact ⟨1, 100, by omega, by omega, rfl, rfl, fun d _ _ => by omega⟩
  · exact ⟨1, 100, by omega, by omega, rfl, rfl, fun d _ _ => by omega⟩
  · exact ⟨0, 500, by omega, by omega, rfl, rfl, fun d _ _ => by omega⟩
  · exact ⟨0, 100, by omega, by omega, rfl, rfl, fun d _ _ => by omega⟩
  · exact ⟨2, 1000, by omega, by omega, rfl, rfl, fun d _ _ => by omega⟩
theorem do_set (h : Rel B a b) {k d : Nat} (hk : k < 6) (hd : (k < 3 → 1 ≤ d ∧ d ≤ 100) ∧ (k = 3 → d ≤ 500) ∧ (k = 4 → d ≤ 100) ∧ (k = 5 → 2 ≤ d ∧ d ≤ 1000)) (hz : 4 ≤ k ∨ (b 0 3).toInt = 0) : Sim id B (0, F2_ofSetting (F1_keep a) (nI k), F2_putSetting (F1_keep a) (nI k) (nI d)) (F6_save (bput b 6 2 0) 0 (7 + k), bput (F6_save (bput b 6 2 0)) 0 (7 + k) (nI d)) := by
  have h' := Rel_thr h 0
  obtain ⟨⟨hr, n, t, g⟩, _⟩ := id h'
  obtain ⟨_, r1, r2, _, _⟩ := Rel_keep h'
  have q := q_set hr hk
  have f1 : F2_putSetting (F1_keep a) (nI k) (nI d) = bs (F1_keep a) 0 (add1 (a 0) (11 + k) (nI d - (bput b 6 2 0) 0 (7 + k))) := by
    rw [c_putSet _ _ (by omega), r1, upd_as, q]
  have f2 : bput (F6_save (bput b 6 2 0)) 0 (7 + k) (nI d) = bs (F6_save (bput b 6 2 0)) 0 (add1 ((bput b 6 2 0) 0) (7 + k) (nI d - (bput b 6 2 0) 0 (7 + k))) := by
    rw [bput_eq, r2, upd_as]
  rw [f1, f2]
  refine ⟨?_, fun _ => ?_, Rel_done h' (Nat.le_refl B) (fun c h0 h1 => bs_ne _ _ h0) (fun c h0 => bs_ne _ _ h0) ⟨?_, n, t, ?_⟩⟩
  · dsimp only
    rw [bs_ne _ _ (by decide), thr_save h]; rfl
  · dsimp only
    rw [c_set _ (by omega), r1, r2]
    exact q
  · dsimp only
    rw [bs_eq, bs_eq]
    exact rV_upd0 hr (by unfold phi; rw [if_neg (by omega), if_neg (by omega), if_neg (by omega), if_pos (by omega)]; omega) (by omega) _
  · dsimp only
    rw [bs_eq]
    exact g_set g hk hd hz
theorem st_set (h : Rel B a b) (x y : Int32) : Sim id B (F5_set a x y) (F6_set b x y) := by
  have h' := Rel_thr h 0
  obtain ⟨⟨hr, n, t, g⟩, _, _, hT⟩ := id h'
  unfold F5_set F6_set
  rw [nset]
  by_cases c3 : F6_in x 0 5 = 0
  · rw [if_pos c3, if_neg (by decide), if_pos c3]; exact Sim_fail h rfl (by decide)
  rw [if_neg c3, if_pos rfl, if_neg c3]
  obtain ⟨k, hk1, hk2, rfl⟩ := in_nat (lo := 0) (hi := 5) c3 (by decide) (by decide)
  obtain ⟨lo, hi, l1, l2, t1, t2, tv⟩ := t_vals (k := k) (by omega)
  obtain ⟨b4, b5⟩ := hT k (by omega)
  rw [(t_ent (k := k) (by omega)).1, (t_ent (k := k) (by omega)).2, mC (by omega), b4, b5, t1, t2, nrg, nst0, nst1, show (7 + nI k : Int32) = nI (7 + k) from nI_add 7 k, mC (by omega)]
  by_cases c4 : F6_in y (nI lo) (nI hi) = 0
  · rw [if_pos c4, if_neg (by decide), if_pos c4]; exact Sim_fail h rfl (by decide)
  rw [if_neg c4, if_pos rfl, if_neg c4]
  obtain ⟨d, hd1, hd2, rfl⟩ := in_nat c4 (by omega) l1
  rw [show F2_ofAll a 4 = (bput b 6 2 0) 0 3 from (c_all a (k := 4) (by decide)).trans (hr.1 3 (by decide))]
  obtain ⟨-, H2, -⟩ := gJ_H g
  by_cases c5 : 4 ≤ k
  · rw [if_pos (show (3 : Int32) < nI k from nI_lt (a := 3) (by omega) (by omega)), if_pos rfl, if_pos (show (4 : Int32) ≤ nI k from nI_le (a := 4) c5 (by omega))]
    exact do_set h (by omega) (tv d hd1 hd2) (Or.inl c5)
  · rw [if_neg (show ¬ (3 : Int32) < nI k from nI_nlt (a := 3) (by omega) (by omega)), if_neg (show ¬ (4 : Int32) ≤ nI k from nI_ge (b := 4) (by omega) (by decide))]
    by_cases c6 : (bput b 6 2 0) 0 3 = 0
    · rw [if_pos c6, if_pos rfl, if_pos (by rw [c6]; decide)]
      exact do_set h (by omega) (tv d hd1 hd2) (Or.inr (by rw [show b 0 3 = (bput b 6 2 0) 0 3 from rfl, c6]; rfl))
    · rw [if_neg c6, if_neg (by decide), if_neg (fun q => c6 (Int32.toInt_inj.mp (by rw [iLe] at q; exact Int.le_antisymm q H2)))]
      exact Sim_fail h rfl (by decide)
end

-- set (own text)
theorem upd_as (f : Nat → Int32) (i : Nat) (x : Int32) : upd f i x = add1 f i (x - f i) := by
  funext k
  rw [add1_val]
  unfold upd
  by_cases e : k = i
  · subst e; rw [if_pos rfl, if_pos rfl]; grind
  · rw [if_neg e, if_neg e]
theorem S_zero (m : Nat → Int32) : S (fun _ => 0) m = 0 := by
  rw [S_lin (m := m) (w := fun _ => 0) (v := wT) (z := wT) (a := 0) (b := 0) (fun i => by omega)]; omega
theorem z_held {B n t : Nat} {m : Nat → Int32} (h : gJ B n t m) (h3 : (m 3).toInt = 0) (d : Nat → Int) (c : Int) : S (wA d c) m = 0 := by
  obtain ⟨H1, -, -⟩ := gJ_H h
  obtain ⟨c0, hc0, e10⟩ := h.2.2.2.1.2.1
  have hc2 : 0 ≤ (m 10).toInt ∧ (m 10).toInt ≤ 500 := by rw [e10, nI_toInt (by omega)]; omega
  have hl := wA1_le (gJ_dp h) hc2
  have nn : ∀ i : Nat, i < 219 → 0 ≤ wA1 (dp m) (m 10).toInt i * (m i).toInt := fun i hi => by
    rcases wP_01 i hi with p | p
    · rw [(hl i hi).2.2 p]; omega
    · exact Int.mul_nonneg (hl i hi).1 (gJ_P h hi p)
  have z1 : ∀ i : Nat, i < 219 → wA1 (dp m) (m 10).toInt i * (m i).toInt = 0 := fun i hi => by
    have a := S_ge nn hi
    have b := nn i hi
    omega
  have z4 : (m 4).toInt = 0 := by
    have := z1 4 (by decide)
    rw [wA1, wt_g (by decide), if_pos rfl] at this
    omega
  have d1 : ∀ b : Nat, b < 8 → 1 ≤ dp m b := fun b hb => by
    obtain ⟨k, hk, e⟩ := h.2.1 b hb
    obtain ⟨x, x1, x2, e2⟩ := h.2.2.2.1.1 k hk
    unfold dp
    rw [if_pos hb, e, mC (by omega), e2, nI_toInt (by omega)]
    omega
  have nz : ∀ {x y : Int}, x * y = 0 → 1 ≤ x → y = 0 := fun {x y} e l => by
    rcases Int.mul_eq_zero.mp e with q | q
    · omega
    · exact q
  have zb3 : ∀ b : Nat, b < 8 → (m (13 + 10 * b + 3)).toInt = 0 := fun b hb => by
    have := z1 (13 + 10 * b + 3) (by omega)
    rw [wA1, wt_b hb (by decide), if_pos rfl] at this
    exact nz this (d1 b hb)
  have zF : ∀ s w : Nat, s < 6 → 5 ≤ w → w < 21 → (m (93 + 21 * s + w)).toInt = 0 := fun s w hs h5 h21 => by
    have := z1 (93 + 21 * s + w) (by omega)
    rw [wA1, wt_s hs h21, if_neg (by omega), if_neg (by omega)] at this
    by_cases q : w < 13
    · rw [if_pos q] at this
      exact nz this (d1 _ (by omega))
    · rw [if_neg q] at this
      exact nz this (d1 _ (by omega))
  have eF : S wF m = (m 4).toInt := by
    rw [← S_one (m := m) (k := 4) (by decide)]
    exact S_congr (fun i hi => by rw [(wF_01 i hi).1])
  have hG := h.2.2.2.2.2.2.2.2.1
  have gn := gJ_w01 h (fun j hj => ⟨(wG_01 j hj).1, (wG_01 j hj).2.1⟩)
  have zG : ∀ b w : Nat, b < 8 → w = 5 ∨ w = 6 → (m (13 + 10 * b + w)).toInt = 0 := fun b w hb hw => by
    have a := S_ge gn (j := 13 + 10 * b + w) (by omega)
    have b2 := gn (13 + 10 * b + w) (by omega)
    rw [wG, wt_b hb (by omega), if_pos hw] at a b2
    rw [← wG] at a
    omega
  have hB : S wB m = 0 := h.2.2.2.2.2.2.2.1
  have eB : S wB m = S (wt (fun _ => 0) (fun _ _ => 0) (fun _ w => if w = 1 then 12 else 0)) m := S_congr (at_cases
    (fun j hj => by rw [wB, wt_g hj, wt_g hj])
    (fun b w hb hw => by
      rw [wB, wt_b hb hw, wt_b hb hw]
      by_cases q : w = 3 ∨ w = 5 ∨ w = 6
      · rcases q with rfl | q
        · rw [zb3 b hb]; omega
        · rw [zG b w hb q]; omega
      · rw [if_neg q])
    (fun s w hs hw => by
      rw [wB, wt_s hs hw, wt_s hs hw]
      by_cases q : w = 1
      · rw [if_pos q, if_pos q]
      · rw [if_neg q, if_neg q]
        by_cases q5 : 5 ≤ w
        · rw [zF s w hs q5 hw]; omega
        · rw [if_neg q5]))
  have cn : ∀ i : Nat, i < 219 → 0 ≤ (wt (fun _ => 0) (fun _ _ => 0) (fun _ w => if w = 1 then 12 else 0) : Nat → Int) i * (m i).toInt := at_cases
    (fun j hj => by rw [wt_g hj]; omega)
    (fun b w hb hw => by rw [wt_b hb hw]; omega)
    (fun s w hs hw => by
      rw [wt_s hs hw]
      by_cases q : w = 1
      · subst q
        have := gJ_D h (j := 93 + 21 * s + 1) (by omega) (wv_D_s1 hs)
        rw [if_pos rfl]; omega
      · rw [if_neg q]; omega)
  have zC : ∀ s : Nat, s < 6 → (m (93 + 21 * s + 1)).toInt = 0 := fun s hs => by
    have a := S_ge cn (j := 93 + 21 * s + 1) (by omega)
    have b2 := cn (93 + 21 * s + 1) (by omega)
    rw [← eB, hB, wt_s hs (by decide), if_pos rfl] at a
    rw [wt_s hs (by decide), if_pos rfl] at b2
    omega
  rw [← S_zero m]
  exact S_congr (at_cases
    (fun j hj => by
      rw [wA, wt_g hj]
      by_cases q : j = 3
      · subst q; rw [h3]; omega
      · rw [if_neg q]
        by_cases q4 : j = 4
        · subst q4; rw [z4]; omega
        · rw [if_neg q4])
    (fun b w hb hw => by
      rw [wA, wt_b hb hw]
      by_cases q : w = 3
      · subst q; rw [zb3 b hb]; omega
      · rw [if_neg q])
    (fun s w hs hw => by
      rw [wA, wt_s hs hw]
      by_cases q : w = 1
      · subst q; rw [zC s hs]; omega
      · rw [if_neg q]
        by_cases q5 : w < 5
        · rw [if_pos q5]
        · rw [zF s w hs (by omega) hw]; omega))
theorem wz_set {k : Nat} (hk : k < 6) {d : Nat → Int} {c : Int} : wT (7 + k) = 0 ∧ wA d c (7 + k) = 0 ∧ wB (7 + k) = 0 ∧ wG (7 + k) = 0 ∧ wF (7 + k) = 0 ∧ wD (7 + k) = 0 ∧ wP (7 + k) = 0 ∧ wQ (7 + k) = 0 := by
  refine ⟨?_, ?_, ?_, ?_, ?_, ?_, ?_, ?_⟩
  · rw [wT, wt_g (by omega)]
  · rw [wA, wt_g (by omega), if_neg (by omega), if_neg (by omega)]
  · rw [wB, wt_g (by omega)]
  · rw [wG, wt_g (by omega)]
  · rw [wF, wt_g (by omega), if_neg (by omega)]
  · rw [wD, wt_g (by omega), if_neg (by omega)]
  · rw [wP, wt_g (by omega), if_neg (by omega)]
  · rw [wQ, wt_g (by omega), if_neg (by omega)]

-- acts, the seventh case: sort and swaps (own text)
section A7
variable {B n t : Nat} {kd : Nat → Nat} {f : Nat} {m k : Int32} {bb : Nat → Int32} {u : bU}
theorem la626 {b : Nat} {n : Nat} (e0 : u 0 0 = nI n) (hn : n ≤ 8) : ∀ (d fu j : Nat) (x : Int32), j + d = n → d < fu → LL_acts_626 u (nI b) fu j x = acc (fun i => if F5_brand u (nI i) 0 = F5_brand u (nI b) 0 then F5_brand u (nI i) 6 else 0) d j x := by
  intro d
  induction d with
  | zero =>
    intro fu j x hj hf
    obtain ⟨fu, rfl⟩ : ∃ g : Nat, fu = g + 1 := ⟨fu - 1, by omega⟩
    rw [LL_acts_626, if_pos (by rw [v_c0, e0]; exact nI_le (by omega) (by omega))]; rfl
  | succ d ih =>
    intro fu j x hj hf
    obtain ⟨fu, rfl⟩ : ∃ g : Nat, fu = g + 1 := ⟨fu - 1, by omega⟩
    rw [LL_acts_626, if_neg (by rw [v_c0, e0]; exact nI_ge (by omega) (by omega))]
    by_cases c : F5_brand u (nI j) 0 = F5_brand u (nI b) 0
    · rw [if_pos c, ih _ _ _ (by omega) (by omega)]
      show acc _ d (j + 1) (x + F5_brand u (nI j) 6) = acc _ d (j + 1) (x + (if F5_brand u (nI j) 0 = F5_brand u (nI b) 0 then F5_brand u (nI j) 6 else 0))
      rw [if_pos c]
    · rw [if_neg c, ih _ _ _ (by omega) (by omega)]
      show acc _ d (j + 1) (x + 0) = acc _ d (j + 1) (x + (if F5_brand u (nI j) 0 = F5_brand u (nI b) 0 then F5_brand u (nI j) 6 else 0))
      rw [if_neg c]
theorem left_yard (h : INV B n t kd f m k 0 bb (u 0)) {b : Nat} (hb : b < n) : LL_acts_626 u (nI b) ((F5_count u 0).toNatClampNeg + 1) 0 0 = F4_yardOf u (nI (kd b)) := by
  obtain ⟨hn, ht, h0, -⟩ := h.1.1
  obtain ⟨k1, k2, -⟩ := INV_kd h (show b < 8 by omega)
  rw [la626 h0 hn n _ 0 0 (by omega) (by rw [v_c0, h0, mC (by omega)]; omega)]
  unfold F4_yardOf
  rw [aL_cYard u (nI (kd b)) 8 (8 + 1) 0 0 (by decide) (by decide)]
  refine (acc_cut (n := n) (N := 8) hn 0 (fun i hi => ?_) (fun i a c => ?_)).symm
  · rw [v_kind u (show b < 8 by omega), k2, v_kind u (show i < 8 by omega), v_b6 (show i < 8 by omega), show F2_ofBrand u (nI i) 0 = u 0 (17 + 12 * i + 0) from c_br u (w := 0) (by omega), show F2_ofBrand u (nI i) 6 = u 0 (17 + 12 * i + 6) from c_br u (w := 6) (by omega)]
  · rw [show F2_ofBrand u (nI i) 6 = u 0 (17 + 12 * i + 6) from c_br u (w := 6) (by omega), h.2.1.1 i 6 a c (by decide) (by decide)]
    split <;> rfl
theorem act7 (h : GS B n t kd f m k bb u) (h9 : B + 300000 < 2147483648) (h8 : B + 100000 < 200000000) {b s x c y d : Nat} {a2 zz : Int32} (hb : b < n) (hs : s < t) (hx1 : 1 ≤ x) (hx : x ≤ 40) (hc1 : 1 ≤ c) (hc : c ≤ 3) (hy1 : 1 ≤ y) (hy : y ≤ 5) (hd : d < n) (ea : a2 &&& 7 = nI 7) : ∃ u' : bU, FL_acts u a2 zz (nI b) (nI s) (nI x) (nI c) (nI y) (nI d) = (0, 1, u') ∧ GS (B + 300000) n t kd f m k bb u' := by
  obtain ⟨hI, hK⟩ := h
  have hK0 := KP_0 hK
  obtain ⟨hn, ht, -, -⟩ := hI.1.1
  have hb8 : b < 8 := by omega
  have hs6 : s < 6 := by omega
  have hN := hI.2.2.1
  rw [FL_acts, ea, if_neg (show ¬ nI 7 = (0 : Int32) by decide), if_neg (show ¬ nI 7 = (1 : Int32) by decide), if_neg (show ¬ nI 7 = (2 : Int32) by decide), if_neg (show ¬ nI 7 = (3 : Int32) by decide), if_neg (show ¬ nI 7 = (4 : Int32) by decide), if_neg (show ¬ nI 7 = (5 : Int32) by decide), if_neg (show ¬ nI 7 = (6 : Int32) by decide)]
  obtain ⟨k1, k2, -⟩ := INV_kd hI hb8
  have h10 : B + 100000 < 200000000 := h8
  by_cases qz : zz &&& 1 = 0
  · rw [if_pos qz, left_yard hI hb, v_kind u hb8, k2]
    by_cases q : F4_yardOf u (nI (kd b)) < nI x
    · rw [if_pos q]
      exact ⟨u, rfl, INV_up hI (by omega), hK⟩
    · rw [if_neg q]
      rw [yardOf_n hI k1] at q
      have hS : nsum (yk kd (kd b) (u 0)) 8 0 ≤ 8 * B := nsum_le 8 0 (fun i _ hi => yk_le hI (by omega))
      have q2 : x ≤ nsum (yk kd (kd b) (u 0)) 8 0 := by
        rcases Nat.lt_or_ge (nsum (yk kd (kd b) (u 0)) 8 0) x with z | z
        · exact absurd (nI_lt z (by omega)) q
        · exact z
      obtain ⟨u', e1, e2⟩ := F_sort hI hK0 h10 k1 hx1 (show x ≤ 5000 by omega) q2
      rw [e1]
      dsimp only
      rw [if_pos rfl, if_pos rfl]
      exact ⟨u', rfl, GS_up e2 (by omega)⟩
  · rw [if_neg qz]
    by_cases qd : b = d
    · rw [if_pos (by rw [qd])]
      exact ⟨u, rfl, INV_up hI (by omega), hK⟩
    · have hd8 : d < 8 := by omega
      obtain ⟨k3, k4, -⟩ := INV_kd hI hd8
      rw [if_neg (nI_ne qd (by omega) (by omega)), if_pos (INV_nb hI hd), v_kind u hb8, v_kind u hd8, k2, k4]
      by_cases qk : kd b = kd d
      · rw [if_pos (by rw [qk])]
        by_cases q : F5_brand u (nI b) 1 < nI x
        · rw [if_pos q]
          exact ⟨u, rfl, INV_up hI (by omega), hK⟩
        · rw [if_neg q]
          rw [v_b1 hb8] at q
          obtain ⟨u', e1, e2⟩ := swaps_ok hI hK0 (by omega) hb hd qd qk hx1 hx (nlt_of q (by omega))
          rw [e1]
          dsimp only
          rw [if_pos rfl, if_neg (by decide)]
          exact ⟨u', rfl, GS_up e2 (by omega)⟩
      · rw [if_neg (nI_ne qk (by omega) (by omega))]
        exact ⟨u, rfl, INV_up hI (by omega), hK⟩
end A7

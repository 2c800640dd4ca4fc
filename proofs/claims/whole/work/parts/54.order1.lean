-- one order on both sides (own text)
theorem lt98_99 : ((98 : Int32) = 99) = False := eq_false (by decide)
theorem lt98_100 : ((98 : Int32) = 100) = False := eq_false (by decide)
theorem lt98_114 : ((98 : Int32) = 114) = False := eq_false (by decide)
theorem lt98_115 : ((98 : Int32) = 115) = False := eq_false (by decide)
theorem lt99_98 : ((99 : Int32) = 98) = False := eq_false (by decide)
theorem lt99_100 : ((99 : Int32) = 100) = False := eq_false (by decide)
theorem lt99_114 : ((99 : Int32) = 114) = False := eq_false (by decide)
theorem lt99_115 : ((99 : Int32) = 115) = False := eq_false (by decide)
theorem lt100_98 : ((100 : Int32) = 98) = False := eq_false (by decide)
theorem lt100_99 : ((100 : Int32) = 99) = False := eq_false (by decide)
theorem lt100_114 : ((100 : Int32) = 114) = False := eq_false (by decide)
theorem lt100_115 : ((100 : Int32) = 115) = False := eq_false (by decide)
theorem lt114_98 : ((114 : Int32) = 98) = False := eq_false (by decide)
theorem lt114_99 : ((114 : Int32) = 99) = False := eq_false (by decide)
theorem lt114_100 : ((114 : Int32) = 100) = False := eq_false (by decide)
theorem lt114_115 : ((114 : Int32) = 115) = False := eq_false (by decide)
theorem lt115_98 : ((115 : Int32) = 98) = False := eq_false (by decide)
theorem lt115_99 : ((115 : Int32) = 99) = False := eq_false (by decide)
theorem lt115_100 : ((115 : Int32) = 100) = False := eq_false (by decide)
theorem lt115_114 : ((115 : Int32) = 114) = False := eq_false (by decide)
theorem rV_hat {u v : bU} (hr : rV ((bput u 0 9 0) 0) (v 0)) : rV (u 0) ((bput v 0 6 (u 0 9)) 0) := by
  have h := rV_upd hr (j := 6) (by decide) (u 0 9)
  have e : upd ((bput u 0 9 0) 0) (phi 6) (u 0 9) = u 0 := by
    funext i
    rw [phi_6]
    by_cases c : i = 9
    · subst c; rw [up_at]
    · rw [up_ne _ _ c, bput_ne _ _ c]
  rw [e] at h
  rw [bput_eq, bs_eq]
  exact h
theorem rV_60 {u v : bU} (hr : rV ((bput u 0 9 0) 0) (v 0)) : v 0 6 = 0 := by
  rw [← hr.1 6 (by decide), phi_6, bput_at]
theorem toC_ne9 {L : List (Nat × Int32)} (hL : ∀ p ∈ L, p.1 < 219 ∧ p.1 ≠ 6) : ∀ p ∈ toC L, p.1 ≠ 9 := by
  intro p hp
  unfold toC at hp
  obtain ⟨q, hq, rfl⟩ := List.mem_map.mp hp
  dsimp only
  intro e
  exact (hL q hq).2 (phi_inj _ (hL q hq).1 6 (by decide) (e.trans phi_6.symm))
def oOK (B n t : Nat) (u v w w' : bU) : Prop := (∀ i : Nat, i ≠ 0 → i ≠ 1 → w i = u i) ∧ ∃ m' : Nat → Int32, w' = bs v 0 m' ∧ rV ((bput w 0 9 0) 0) m' ∧ gJ B n t m'
theorem o_done {u v : bU} {B n t : Nat} {L : List (Nat × Int32)} {r r2 q q2 : Int32 × bU} (hr : rV ((bput u 0 9 0) 0) (v 0)) (s1 : stepOf L u (bput v 0 6 (u 0 9)) r q2) (s2 : stepOf L (bput u 0 9 0) v r2 q) (hL : ∀ p ∈ L, p.1 < 219 ∧ p.1 ≠ 6) (d : dOK B n t (bput u 0 9 0) v r2 q) : oOK B n t u v r.2 q.2 := by
  obtain ⟨w, c', m', d1, d2, d3, d4, d5, d6⟩ := d
  have em : m' = adds (v 0) L := by
    have := congrFun (d3.symm.trans s2.2.1) 0
    rw [bs_eq, bs_eq] at this
    exact this
  refine ⟨fun i h0 h1 => by rw [s1.1, bs_ne _ _ h0], m', d3, ?_, d5⟩
  rw [em, s1.1, bput_bs, bs_eq]
  have h := rV_step hr (fun p hp => (hL p hp).1)
  rw [bput_eq, bs_eq, adds_upd (toC_ne9 hL)] at h
  exact h
section
variable {B n t : Nat} {u v : bU}
theorem hat_0 (j : Nat) (h : j ≠ 6) : (bput v 0 6 (u 0 9)) 0 j = v 0 j := bput_ne _ _ h
theorem o_del (hB : B < 2000000000) (hr : rV ((bput u 0 9 0) 0) (v 0)) (g : gJ B n t (v 0)) {bb s k : Nat} (hbn : bb < n) (hst : s < t) (hk : k ≤ 50) (c4 : F6_againstDeliver v (nI bb) (nI s) (nI k) = 0) : oOK (B + 85000) n t u v (F4_deliverCrates u (nI bb) (nI s) (nI k)).2 (F6_delivers v (nI bb) (nI s) (nI k)).2 := by
  obtain ⟨hn, ht, e0, e1⟩ := gQ_0 g
  have hb8 : bb < 8 := by omega
  have hs6 : s < 6 := by omega
  obtain ⟨kk, d, hkk, ek, ed, hd1, hd2⟩ := kind_nat g hb8
  obtain ⟨c, p, w, hc, hp, _, _, ec, ep, _⟩ := c_set3 g
  exact o_done hr (s_deliver (x := k) (rV_hat hr) hb8 hs6 hkk ((hat_0 _ (by omega)).trans ek) ((hat_0 _ (by omega)).trans ed) ((hat_0 _ (by decide)).trans ec) ((hat_0 _ (by decide)).trans ep)) (s_deliver (x := k) hr hb8 hs6 hkk ek ed ec ep) (by intro z hz; simp only [nDel, List.mem_cons, List.not_mem_nil, or_false] at hz; rcases hz with rfl | rfl | rfl | rfl | rfl | rfl | rfl | rfl | rfl <;> (dsimp only; omega)) (do_del hB hr g hbn hst hk c4)
theorem o_sell (hB : B < 2000000000) (hr : rV ((bput u 0 9 0) 0) (v 0)) (g : gJ B n t (v 0)) {bb s k : Nat} (hbn : bb < n) (hst : s < t) (hk : k ≤ 500) (c4 : F6_againstSell v (nI s) (nI bb) (nI k) = 0) : oOK (B + 85000) n t u v (F4_sellBottles u (nI s) (nI bb) (nI k)).2 (F6_sells v (nI s) (nI bb) (nI k)).2 := by
  obtain ⟨hn, ht, e0, e1⟩ := gQ_0 g
  have hb8 : bb < 8 := by omega
  have hs6 : s < 6 := by omega
  obtain ⟨kk, d, hkk, ek, ed, hd1, hd2⟩ := kind_nat g hb8
  exact o_done hr (s_sell (x := k) (rV_hat hr) hb8 hs6 hkk ((hat_0 _ (by omega)).trans ek) ((hat_0 _ (by omega)).trans ed)) (s_sell (x := k) hr hb8 hs6 hkk ek ed) (by intro z hz; simp only [nSel, List.mem_cons, List.not_mem_nil, or_false] at hz; rcases hz with rfl | rfl | rfl | rfl <;> (dsimp only; omega)) (do_sell hB hr g hbn hst hk c4)
theorem o_ret (hB : B < 2000000000) (hr : rV ((bput u 0 9 0) 0) (v 0)) (g : gJ B n t (v 0)) {bb s k : Nat} (hbn : bb < n) (hst : s < t) (hk : k ≤ 500) (c4 : F6_againstTakeBack v (nI s) (nI bb) (nI k) = 0) : oOK (B + 85000) n t u v (F4_returnBottles u (nI s) (nI bb) (nI k)).2 (F6_takesBack v (nI s) (nI bb) (nI k)).2 := by
  obtain ⟨hn, ht, e0, e1⟩ := gQ_0 g
  have hb8 : bb < 8 := by omega
  have hs6 : s < 6 := by omega
  obtain ⟨kk, d, hkk, ek, ed, hd1, hd2⟩ := kind_nat g hb8
  exact o_done hr (s_return (x := k) (rV_hat hr) hb8 hs6 hkk ((hat_0 _ (by omega)).trans ek) ((hat_0 _ (by omega)).trans ed)) (s_return (x := k) hr hb8 hs6 hkk ek ed) (by intro z hz; simp only [nRet, List.mem_cons, List.not_mem_nil, or_false] at hz; rcases hz with rfl | rfl | rfl | rfl <;> (dsimp only; omega)) (do_ret hB hr g hbn hst hk c4)
theorem o_brk (hB : B < 2000000000) (hr : rV ((bput u 0 9 0) 0) (v 0)) (g : gJ B n t (v 0)) {bb s k : Nat} (hbn : bb < n) (hst : s < t) (hk : k ≤ 500) (c4 : F6_againstBreak v (nI s) (nI bb) (nI k) = 0) : oOK (B + 85000) n t u v (F4_breakBottles u (nI s) (nI bb) (nI k)).2 (F6_breaksThem v (nI s) (nI bb) (nI k)).2 := by
  obtain ⟨hn, ht, e0, e1⟩ := gQ_0 g
  have hb8 : bb < 8 := by omega
  have hs6 : s < 6 := by omega
  obtain ⟨kk, d, hkk, ek, ed, hd1, hd2⟩ := kind_nat g hb8
  have hkd : k * d ≤ 500 * 100 := Nat.mul_le_mul hk hd2
  obtain ⟨p, hp, ep⟩ := m_nat g (j := 5) (by decide) wv_M_g5
  exact o_done hr (s_break (x := k) (rV_hat hr) hb8 hs6 hkk ((hat_0 _ (by omega)).trans ek) ((hat_0 _ (by omega)).trans ed) ((hat_0 _ (by decide)).trans ep) (by omega) (by omega)) (s_break (x := k) hr hb8 hs6 hkk ek ed ep (by omega) (by omega)) (by intro z hz; simp only [nBrk, List.mem_cons, List.not_mem_nil, or_false] at hz; rcases hz with rfl | rfl | rfl | rfl | rfl | rfl <;> (dsimp only; omega)) (do_brk hB hr g hbn hst hk c4)
theorem o_col (hB : B < 2000000000) (hr : rV ((bput u 0 9 0) 0) (v 0)) (g : gJ B n t (v 0)) {kk s k : Nat} (hkk : kk < 3) (hst : s < t) (hk : k ≤ 50) (c4 : F6_againstCollect v (nI s) (nI kk) (nI k) = 0) : oOK (B + 85000) n t u v (F4_collectCrates u (nI s) (nI kk) (nI k)).2 (F6_collects v (nI s) (nI kk) (nI k)).2 := by
  have ht := (gQ_0 g).2.1
  obtain ⟨w, c', m', d1, d2, d3, d4, d5, d6⟩ := do_col (u := bput u 0 9 0) hB hr g hkk hst hk c4
  rw [P_collect u 0 (by omega) hkk] at d1
  refine ⟨fun i h0 h1 => ?_, m', d3, ?_, d5⟩
  · have h := congrFun d1 i
    rw [bput_c _ _ h0, bs_ne _ _ h0, d2 i h0 h1, bput_c _ _ h0] at h
    exact h
  · rw [congrFun d1 0, bs_eq]
    exact d4
end

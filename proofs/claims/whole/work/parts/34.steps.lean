-- STEPS of the face, both sides (own text)
theorem nst0 : F5_needState 0 = 3 := by decide
theorem nst1 : F5_needState 1 = 0 := by decide
theorem nar0 : F5_needArgument 0 = 2 := by decide
theorem nar1 : F5_needArgument 1 = 0 := by decide
theorem nrg (a lo hi : Int32) : F5_needRange a lo hi = if F6_in a lo hi = 0 then 2 else 0 := by
  unfold F5_needRange F6_in
  rw [nar0, nar1]
  (repeat' split) <;> simp_all
theorem nkd (a : Int32) : F5_needKind a = if F6_in a 0 2 = 0 then 2 else 0 := by
  unfold F5_needKind
  rw [nrg]
  (repeat' split) <;> simp_all
theorem isB_eq {u v : bU} {n : Nat} (hn : n ≤ 8) (hu : u 0 0 = nI n) (hv : v 0 0 = nI n) (x : Int32) : F5_isBrand u x = F6_isBrand v x := by
  unfold F5_isBrand F6_isBrand F6_in
  rw [show F2_ofAll u 0 = nI n from (c_all u (k := 0) (by decide)).trans hu, hv]
  have h1 := iLe (nI n) x
  have h2 := iLt (nI n - 1) x
  have h3 : (nI n - 1).toInt = (n : Int) - 1 := by rw [iSub (by rw [nI_toInt (by omega), i1]; omega) (by rw [nI_toInt (by omega), i1]; omega), nI_toInt (by omega), i1]
  rw [nI_toInt (by omega)] at h1
  rw [h3] at h2
  have : nI n ≤ x ↔ nI n - 1 < x := by rw [h1, h2]; omega
  simp only [this]
theorem isS_eq {u v : bU} {n : Nat} (hn : n ≤ 6) (hu : u 0 1 = nI n) (hv : v 0 1 = nI n) (x : Int32) : F5_isShop u x = F6_isShop v x := by
  unfold F5_isShop F6_isShop F6_in
  rw [show F2_ofAll u 1 = nI n from (c_all u (k := 1) (by decide)).trans hu, hv]
  have h1 := iLe (nI n) x
  have h2 := iLt (nI n - 1) x
  have h3 : (nI n - 1).toInt = (n : Int) - 1 := by rw [iSub (by rw [nI_toInt (by omega), i1]; omega) (by rw [nI_toInt (by omega), i1]; omega), nI_toInt (by omega), i1]
  rw [nI_toInt (by omega)] at h1
  rw [h3] at h2
  have : nI n ≤ x ↔ nI n - 1 < x := by rw [h1, h2]; omega
  simp only [this]
theorem in_nat {x : Int32} {lo hi : Nat} (h : ¬ F6_in x (nI lo) (nI hi) = 0) (hh : hi < 2147483648) (hl : lo ≤ hi) : ∃ k : Nat, lo ≤ k ∧ k ≤ hi ∧ x = nI k := by
  obtain ⟨a, b⟩ := mIn_iff.mp h
  rw [iLe, tN (by omega)] at a
  rw [iLe, tN hh] at b
  exact ⟨x.toInt.toNat, by omega, by omega, iOf (by omega)⟩
theorem isB_nat {v : bU} {n : Nat} {x : Int32} (hn : n ≤ 8) (hv : v 0 0 = nI n) (h : ¬ F6_isBrand v x = 0) : ∃ b : Nat, b < n ∧ x = nI b := by
  have h2 : ¬ F6_in x 0 (nI n - 1) = 0 := by rw [← hv]; exact h
  exact mIn_cnt h2 (by omega)
theorem isS_nat {v : bU} {n : Nat} {x : Int32} (hn : n ≤ 6) (hv : v 0 1 = nI n) (h : ¬ F6_isShop v x = 0) : ∃ b : Nat, b < n ∧ x = nI b := by
  have h2 : ¬ F6_in x 0 (nI n - 1) = 0 := by rw [← hv]; exact h
  exact mIn_cnt h2 (by omega)
/-- how much a call can add to what is bounded -/
def BK (K : Nat) : Nat := 100000 + 1000000 * K
def Sim (cd : Int32 → Int32) (B : Nat) (r : Int32 × Int32 × bU) (q : Int32 × bU) : Prop := q.2 6 2 = cd r.1 ∧ (r.1 = 0 → r.2.1 = q.1) ∧ Rel B r.2.2 q.2
theorem Rel_thr {B : Nat} {a b : bU} (h : Rel B a b) (x : Int32) : Rel B a (bput b 6 2 x) := by
  obtain ⟨h1, ⟨n, l, hn, hl, a3, a4, a5, a6⟩, ⟨L, hL, t1, t2, t3⟩, h4⟩ := h
  exact ⟨h1, ⟨n, l, hn, hl, a3, a4, a5, a6⟩, ⟨L, hL, t1, t2, t3⟩, h4⟩
theorem Sim_fail {cd : Int32 → Int32} {B : Nat} {a b : bU} {k : Int32} {x : Int32} (h : Rel B a b) (e : x = cd k) (h0 : k ≠ 0) : Sim cd B (k, 0, a) ((F6_fails (bput b 6 2 0) x).1, (F6_fails (bput b 6 2 0) x).2) :=
  ⟨by show (bput (bput b 6 2 0) 6 2 x) 6 2 = cd k; rw [bput_at, e], fun q => absurd q h0, Rel_thr (Rel_thr h 0) x⟩
theorem Rel_done {B B' : Nat} {a b a1 b1 : bU} (h : Rel B a b) (hB : B ≤ B') (ha : ∀ c : Nat, c ≠ 0 → c ≠ 1 → a1 c = F1_keep a c) (hb : ∀ c : Nat, c ≠ 0 → b1 c = F6_save b c) (hr : RV B' (a1 0) (b1 0)) : Rel B' a1 b1 := by
  obtain ⟨⟨n, l, hn, hl, a3, a4, a5, a6⟩, -, -, ⟨L, hL, t1, t2, t3⟩, h4⟩ := Rel_keep h
  refine ⟨hr, ⟨n, l, hn, hl, by rw [ha 11 (by decide) (by decide)]; exact a3, by rw [ha 11 (by decide) (by decide)]; exact a4, by rw [hb 6 (by decide)]; exact a5, fun i hi => by rw [ha _ (by omega) (by omega), hb 2 (by decide)]; exact RV_up (a6 i hi) hB⟩, ⟨L, hL, by rw [ha 11 (by decide) (by decide)]; exact t1, by rw [hb 6 (by decide)]; exact t2, fun i hi => by rw [ha 2 (by decide) (by decide), hb 3 (by decide)]; exact t3 i hi⟩, fun i hi => by rw [hb 4 (by decide), hb 5 (by decide)]; exact h4 i hi⟩
theorem save_6 (v : bU) {n : Nat} (hn : n ≤ 6) (e : v 6 0 = nI n) : F6_save v 6 2 = v 6 2 := (savev hn e).2.2.1 2 (by decide)
theorem thr_save {B : Nat} {a b : bU} (h : Rel B a b) : F6_save (bput b 6 2 0) 6 2 = 0 := by
  obtain ⟨h1, ⟨n, l, hn, hl, a3, a4, a5, a6⟩, _⟩ := Rel_thr h 0
  rw [save_6 _ hn a5, bput_at]
theorem c_set3 {v : bU} {B n t : Nat} {α β : Int} (h : gQ B n t α β (v 0)) : ∃ c p w : Nat, c ≤ 500 ∧ p ≤ 100 ∧ 2 ≤ w ∧ w ≤ 1000 ∧ v 0 10 = nI c ∧ v 0 11 = nI p ∧ v 0 12 = nI w := by
  obtain ⟨_, ⟨c, hc, ec⟩, ⟨p, hp, ep⟩, ⟨w, hw, hw2, ew⟩⟩ := h.2.2.2.1
  exact ⟨c, p, w, hc, hp, hw, hw2, ec, ep, ew⟩
theorem le_int {x : Nat} {y : Int32} (h : nI x ≤ y) (hx : x < 2147483648) : (x : Int) ≤ y.toInt := by
  rw [iLe, tN hx] at h
  exact h
theorem ag_del (v : bU) (x y z : Int32) : F6_againstDeliver v x y z ≤ 0 → F6_againstDeliver v x y z = 0 := by
  unfold F6_againstDeliver
  (repeat' split) <;> decide
theorem ag_sell (v : bU) (x y z : Int32) : F6_againstSell v x y z ≤ 0 → F6_againstSell v x y z = 0 := by
  unfold F6_againstSell
  (repeat' split) <;> decide
theorem ag_take (v : bU) (x y z : Int32) : F6_againstTakeBack v x y z ≤ 0 → F6_againstTakeBack v x y z = 0 := by
  unfold F6_againstTakeBack
  (repeat' split) <;> decide
theorem ag_brk (v : bU) (x y z : Int32) : F6_againstBreak v x y z ≤ 0 → F6_againstBreak v x y z = 0 := by
  unfold F6_againstBreak
  (repeat' split) <;> decide
theorem ag_col (v : bU) (x y z : Int32) : F6_againstCollect v x y z ≤ 0 → F6_againstCollect v x y z = 0 := by
  unfold F6_againstCollect
  (repeat' split) <;> decide
/-- what is done on both sides, and what holds then -/
def dOK (B n t : Nat) (u v : bU) (r q : Int32 × bU) : Prop := ∃ (w : bU) (c' m' : Nat → Int32), r.2 = bs w 0 c' ∧ (∀ i : Nat, i ≠ 0 → i ≠ 1 → w i = u i) ∧ q.2 = bs v 0 m' ∧ rV c' m' ∧ gJ B n t m' ∧ r.1 = q.1
theorem dOK_step {B n t : Nat} {u v : bU} {r q : Int32 × bU} {L : List (Nat × Int32)} (hr : rV (u 0) (v 0)) (s : stepOf L u v r q) (hL : ∀ p ∈ L, p.1 < 219) (g : gJ B n t (adds (v 0) L)) : dOK B n t u v r q := ⟨u, _, _, s.1, fun _ _ _ => rfl, s.2.1, rV_step hr hL, g, s.2.2⟩
section
variable {u v : bU} {B n t : Nat}
theorem do_del (hB : B < 2000000000) (hr : rV (u 0) (v 0)) (g : gJ B n t (v 0)) {bb s k : Nat} (hbn : bb < n) (hst : s < t) (hk : k ≤ 50) (c4 : F6_againstDeliver v (nI bb) (nI s) (nI k) = 0) : dOK (B + 85000) n t u v (F4_deliverCrates u (nI bb) (nI s) (nI k)) (F6_delivers v (nI bb) (nI s) (nI k)) := by
  obtain ⟨hn, ht, e0, e1⟩ := gQ_0 g
  have hb8 : bb < 8 := by omega
  have hs6 : s < 6 := by omega
  obtain ⟨kk, d, hkk, ek, ed, hd1, hd2⟩ := kind_nat g hb8
  obtain ⟨c, p, w, hc, hp, _, _, ec, ep, _⟩ := c_set3 g
  have hst2 := s_deliver (x := k) hr hb8 hs6 hkk ek ed ec ep
  unfold F6_againstDeliver at c4
  rw [show (12 * nI k : Int32) = nI (12 * k) from pk_mul 12 k] at c4
  by_cases q1 : nI (12 * k) ≤ F6_of v (nI bb) 2
  · rw [if_pos q1] at c4
    by_cases q2 : nI k ≤ v 0 2
    · rw [if_pos q2] at c4
      by_cases q3 : F6_priceFor v (nI bb) (nI k) ≤ F6_ofShop v (nI s) 0
      · have hb1 : k * (12 * d + c) + k * p ≤ 90000 := by
          rw [← Nat.mul_add]
          exact Nat.le_trans (Nat.mul_le_mul hk (show 12 * d + c + p ≤ 1800 by omega)) (by decide)
        have e3 : F6_priceFor v (nI bb) (nI k) = nI (k * (12 * d + c) + k * p) := by
          unfold F6_priceFor
          rw [m_kind hb8 ek, m_dep _ (by omega), ed, ec, ep, show (12 * nI d + nI c : Int32) = nI (12 * d + c) from by rw [show (12 * nI d : Int32) = nI (12 * d) from pk_mul 12 d, nI_add], pk_mul, pk_mul, nI_add]
        rw [e3, show F6_ofShop v (nI s) 0 = v 0 (93 + 21 * s + 0) from m_sh _ (w := 0) (by omega)] at q3
        rw [show F6_of v (nI bb) 2 = v 0 (13 + 10 * bb + 2) from m_br _ (w := 2) (by omega)] at q1
        exact dOK_step hr hst2 (by intro z hz; simp only [nDel, List.mem_cons, List.not_mem_nil, or_false] at hz; rcases hz with rfl | rfl | rfl | rfl | rfl | rfl | rfl | rfl | rfl <;> (dsimp only; omega)) (gQ_up (gDel g hbn hst hkk ek ed hd1 hd2 ec hc hp hk (le_int q1 (by omega)) (le_int q2 (by omega)) rfl rfl (le_int q3 (by omega)) hB) (by omega))
      · rw [if_neg q3] at c4; exact absurd c4 (by decide)
    · rw [if_neg q2] at c4; exact absurd c4 (by decide)
  · rw [if_neg q1] at c4; exact absurd c4 (by decide)
theorem do_sell (hB : B < 2000000000) (hr : rV (u 0) (v 0)) (g : gJ B n t (v 0)) {bb s k : Nat} (hbn : bb < n) (hst : s < t) (hk : k ≤ 500) (c4 : F6_againstSell v (nI s) (nI bb) (nI k) = 0) : dOK (B + 85000) n t u v (F4_sellBottles u (nI s) (nI bb) (nI k)) (F6_sells v (nI s) (nI bb) (nI k)) := by
  obtain ⟨hn, ht, e0, e1⟩ := gQ_0 g
  have hb8 : bb < 8 := by omega
  have hs6 : s < 6 := by omega
  obtain ⟨kk, d, hkk, ek, ed, hd1, hd2⟩ := kind_nat g hb8
  unfold F6_againstSell at c4
  by_cases q1 : nI k ≤ F6_ofShop v (nI s) (5 + nI bb)
  · rw [show (5 + nI bb : Int32) = nI (5 + bb) from nI_add 5 bb, m_sh v (by omega)] at q1
    exact dOK_step hr (s_sell (x := k) hr hb8 hs6 hkk ek ed) (by intro z hz; simp only [nSel, List.mem_cons, List.not_mem_nil, or_false] at hz; rcases hz with rfl | rfl | rfl | rfl <;> (dsimp only; omega)) (gQ_up (gSel g hbn hst hkk ek ed hd1 hd2 hk (le_int q1 (by omega)) rfl hB) (by omega))
  · rw [if_neg q1] at c4; exact absurd c4 (by decide)
theorem do_ret (hB : B < 2000000000) (hr : rV (u 0) (v 0)) (g : gJ B n t (v 0)) {bb s k : Nat} (hbn : bb < n) (hst : s < t) (hk : k ≤ 500) (c4 : F6_againstTakeBack v (nI s) (nI bb) (nI k) = 0) : dOK (B + 85000) n t u v (F4_returnBottles u (nI s) (nI bb) (nI k)) (F6_takesBack v (nI s) (nI bb) (nI k)) := by
  obtain ⟨hn, ht, e0, e1⟩ := gQ_0 g
  have hb8 : bb < 8 := by omega
  have hs6 : s < 6 := by omega
  obtain ⟨kk, d, hkk, ek, ed, hd1, hd2⟩ := kind_nat g hb8
  have hkd : k * d ≤ 500 * 100 := Nat.mul_le_mul hk hd2
  have e5 : F6_deposit v (nI bb) = nI d := by
    have := m_deposit v (v 0) hb8 hkk ek
    rw [bs_self] at this
    rw [this, ed]
  unfold F6_againstTakeBack at c4
  rw [e5, pk_mul] at c4
  by_cases q1 : nI k ≤ F6_of v (nI bb) 3
  · rw [if_pos q1] at c4
    by_cases q2 : nI (k * d) ≤ F6_ofShop v (nI s) 0
    · rw [show F6_of v (nI bb) 3 = v 0 (13 + 10 * bb + 3) from m_br _ (w := 3) (by omega)] at q1
      rw [show F6_ofShop v (nI s) 0 = v 0 (93 + 21 * s + 0) from m_sh _ (w := 0) (by omega)] at q2
      exact dOK_step hr (s_return (x := k) hr hb8 hs6 hkk ek ed) (by intro z hz; simp only [nRet, List.mem_cons, List.not_mem_nil, or_false] at hz; rcases hz with rfl | rfl | rfl | rfl <;> (dsimp only; omega)) (gQ_up (gRet g hbn hst hkk ek ed hd1 hd2 hk (le_int q1 (by omega)) rfl (le_int q2 (by omega)) hB) (by omega))
    · rw [if_neg q2] at c4; exact absurd c4 (by decide)
  · rw [if_neg q1] at c4; exact absurd c4 (by decide)
theorem do_brk (hB : B < 2000000000) (hr : rV (u 0) (v 0)) (g : gJ B n t (v 0)) {bb s k : Nat} (hbn : bb < n) (hst : s < t) (hk : k ≤ 500) (c4 : F6_againstBreak v (nI s) (nI bb) (nI k) = 0) : dOK (B + 85000) n t u v (F4_breakBottles u (nI s) (nI bb) (nI k)) (F6_breaksThem v (nI s) (nI bb) (nI k)) := by
  obtain ⟨hn, ht, e0, e1⟩ := gQ_0 g
  have hb8 : bb < 8 := by omega
  have hs6 : s < 6 := by omega
  obtain ⟨kk, d, hkk, ek, ed, hd1, hd2⟩ := kind_nat g hb8
  have hkd : k * d ≤ 500 * 100 := Nat.mul_le_mul hk hd2
  obtain ⟨p, hp, ep⟩ := m_nat g (j := 5) (by decide) wv_M_g5
  unfold F6_againstBreak at c4
  by_cases q1 : nI k ≤ F6_ofShop v (nI s) (13 + nI bb)
  · rw [show (13 + nI bb : Int32) = nI (13 + bb) from nI_add 13 bb, m_sh v (by omega)] at q1
    exact dOK_step hr (s_break (x := k) hr hb8 hs6 hkk ek ed ep (by omega) (by omega)) (by intro z hz; simp only [nBrk, List.mem_cons, List.not_mem_nil, or_false] at hz; rcases hz with rfl | rfl | rfl | rfl | rfl | rfl <;> (dsimp only; omega)) (gQ_up (gBrk g hbn hst hkk ek ed hd1 hd2 hk (le_int q1 (by omega)) rfl (Nat.min_le_left _ _) (by rw [ep, tN (by omega)]; have := Nat.min_le_right (k * d) p; omega) hB) (by omega))
  · rw [if_neg q1] at c4; exact absurd c4 (by decide)
theorem do_col (hB : B < 2000000000) (hr : rV (u 0) (v 0)) (g : gJ B n t (v 0)) {kk s k : Nat} (hkk : kk < 3) (hst : s < t) (hk : k ≤ 50) (c4 : F6_againstCollect v (nI s) (nI kk) (nI k) = 0) : dOK (B + 85000) n t u v (F4_collectCrates u (nI s) (nI kk) (nI k)) (F6_collects v (nI s) (nI kk) (nI k)) := by
  obtain ⟨hn, ht, e0, e1⟩ := gQ_0 g
  have hs6 : s < 6 := by omega
  obtain ⟨d, hd1, hd2, ed⟩ := g.2.2.2.1.1 kk hkk
  obtain ⟨c, p, w, hc, hp, _, _, ec, ep, _⟩ := c_set3 g
  unfold F6_againstCollect at c4
  by_cases q1 : 12 * nI k ≤ F6_emptiesOf v (nI s) (nI kk)
  · rw [if_pos q1] at c4
    by_cases q2 : nI k ≤ F6_ofShop v (nI s) 1
    · rw [show F6_ofShop v (nI s) 1 = v 0 (93 + 21 * s + 1) from m_sh _ (w := 1) (by omega)] at q2
      obtain ⟨w, c', m', f1, f2, f3, f4, f5, f6, _⟩ := s_collect hB hr g hst hkk ed hd1 hd2 ec hc hk (sum_le hs6 g hk q1) (le_int q2 (by omega))
      exact ⟨w, c', m', f1, f2, f3, f4, f5, f6⟩
    · rw [if_neg q2] at c4; exact absurd c4 (by decide)
  · rw [if_neg q1] at c4; exact absurd c4 (by decide)
theorem do_fill (hB : B < 2000000000) (hr : rV (u 0) (v 0)) (g : gJ B n t (v 0)) {bb k : Nat} (hbn : bb < n) (hk : k ≤ 5000) (c4 : nI k ≤ F6_of v (nI bb) 1) : dOK (B + 85000) n t u v (F4_fillBottles u (nI bb) (nI k)) (F6_fills v (nI bb) (nI k)) := by
  obtain ⟨hn, ht, e0, e1⟩ := gQ_0 g
  have hb8 : bb < 8 := by omega
  obtain ⟨c, p, w, hc, hp, hw1, hw2, ec, ep, ew⟩ := c_set3 g
  obtain ⟨f9, hf, ef⟩ := m_nat g (j := 13 + 10 * bb + 8) (by omega) (wv_M_b8 hb8)
  rw [show F6_of v (nI bb) 1 = v 0 (13 + 10 * bb + 1) from m_br _ (w := 1) (by omega)] at c4
  have h9 := worn_le (f := f9) (x := k) (w := w) (by omega)
  exact dOK_step hr (s_fill (x := k) hr hb8 ef ew (by omega) (by omega) (by omega)) (by intro z hz; simp only [nFil, List.mem_cons, List.not_mem_nil, or_false] at hz; rcases hz with rfl | rfl | rfl | rfl <;> (dsimp only; omega)) (gQ_up (gFil g hbn hk (le_int c4 (by omega)) (by omega) hB) (by omega))
theorem do_lose (hB : B < 2000000000) (hr : rV (u 0) (v 0)) (g : gJ B n t (v 0)) {bb k : Nat} (hbn : bb < n) (hk : k ≤ 5000) (c4 : nI k ≤ F6_of v (nI bb) 3) : dOK (B + 85000) n t u v (F4_loseBottles u (nI bb) (nI k)) (F6_of (m_loses v (nI bb) (nI k)) (nI bb) 3, m_loses v (nI bb) (nI k)) := by
  obtain ⟨hn, ht, e0, e1⟩ := gQ_0 g
  have hb8 : bb < 8 := by omega
  obtain ⟨kk, d, hkk, ek, ed, hd1, hd2⟩ := kind_nat g hb8
  rw [show F6_of v (nI bb) 3 = v 0 (13 + 10 * bb + 3) from m_br _ (w := 3) (by omega)] at c4
  exact dOK_step hr (s_lose (x := k) hr hb8 hkk ek ed) (by intro z hz; simp only [nLos, List.mem_cons, List.not_mem_nil, or_false] at hz; rcases hz with rfl | rfl | rfl <;> (dsimp only; omega)) (gQ_up (gLos g hbn hkk ek ed hd1 hd2 hk (le_int c4 (by omega)) rfl hB) (by omega))
theorem do_sort (hB : B < 2000000000) (hr : rV (u 0) (v 0)) (g : gJ B n t (v 0)) (x : Int32) {k : Nat} (hk : k ≤ 5000) : dOK (B + 85000) n t u v (F4_sortBottles u x (nI k)) (F6_yardOf (L6_sort_55 x v ((v 0 0).toNatClampNeg + 1) 0 (nI k)).2 x, (L6_sort_55 x v ((v 0 0).toNatClampNeg + 1) 0 (nI k)).2) := by
  obtain ⟨hn, ht, e0, e1⟩ := gQ_0 g
  obtain ⟨c', m', f1, f2, f3, f4⟩ := sort_sim (u := u) (v := v) hB x 8 9 (n + 1) 0 k (u 0) (v 0) (by decide) (by decide) (by omega) (by omega) hr g (by omega)
  rw [bs_self] at f1 f2
  have f1' : (L4_sortBottles_5 x u (8 + 1) 0 (nI k)).2 = bs u 0 c' := f1
  refine ⟨u, c', m', f1', fun _ _ _ => rfl, ?_, f3, gQ_up f4 (by omega), ?_⟩
  · rw [e0, mC (by omega)]; exact f2
  · show F4_yardOf (L4_sortBottles_5 x u (8 + 1) 0 (nI k)).2 x = F6_yardOf (L6_sort_55 x v ((v 0 0).toNatClampNeg + 1) 0 (nI k)).2 x
    rw [f1', e0, mC (by omega), f2]
    exact yard_eq (by rw [bs_eq, bs_eq]; exact f3) (B := B) (n := n) (t := t) (α := 0) (β := 0) (by rw [bs_eq]; exact f4) x
theorem do_swap (hB : B < 2000000000) (hr : rV (u 0) (v 0)) (g : gJ B n t (v 0)) {bb e k : Nat} (hbn : bb < n) (hen : e < n) (hne : bb ≠ e) (hk : k ≤ 5000) (c4 : nI k ≤ F6_of v (nI bb) 1) : dOK (B + 85000) n t u v (F4_swapBottles u (nI bb) (nI e) (nI k)) (m_swaps v (nI bb) (nI e) (nI k) 0 (219 + 8 * bb + e) - m_swaps v (nI bb) (nI e) (nI k) 0 (219 + 8 * e + bb), m_swaps v (nI bb) (nI e) (nI k)) := by
  obtain ⟨hn, ht, e0, e1⟩ := gQ_0 g
  have hb8 : bb < 8 := by omega
  have he8 : e < 8 := by omega
  rw [show F6_of v (nI bb) 1 = v 0 (13 + 10 * bb + 1) from m_br _ (w := 1) (by omega)] at c4
  obtain ⟨f1, f2, f3, f4⟩ := s_swap (x := k) hr hb8 he8 hne
  have g2 := gSwp g hbn hen hne hk (le_int c4 (by omega)) hB
  exact ⟨u, _, _, f1, fun _ _ _ => rfl, f2, f3, gQ_up (gQ_far g2 (fun j hj => add1_ne (by omega))) (by omega), f4⟩
end
/-- the end of a call that has kept the state -/
theorem Sim_done {cd : Int32 → Int32} {B n t : Nat} {a b : bU} {r q : Int32 × bU} (h : Rel B a (bput b 6 2 0)) (h0 : cd 0 = 0) (hd : dOK (B + 85000) n t (F1_keep a) (F6_save (bput b 6 2 0)) r q) : Sim cd (B + 85000) (0, r.1, r.2) q := by
  obtain ⟨w, c', m', f1, f2, f3, f4, f5, f6⟩ := hd
  refine ⟨?_, fun _ => f6, Rel_done h (by omega) (fun c h0 h1 => by show r.2 c = _; rw [f1, bs_ne _ _ h0]; exact f2 c h0 h1) (fun c h0 => by rw [f3]; exact bs_ne _ _ h0) ?_⟩
  · rw [f3, bs_ne _ _ (by decide), h0]
    obtain ⟨_, ⟨n9, l, hn, hl, a3, a4, a5, a6⟩, _⟩ := h
    rw [save_6 _ hn a5, bput_at]
  · show RV _ (r.2 0) _
    rw [f1, f3, bs_eq, bs_eq]
    exact ⟨f4, n, t, f5⟩
section
variable {B : Nat} {a b : bU}
theorem ag_congr {v w : bU} (e : v 0 = w 0) (x y z : Int32) : F6_againstDeliver v x y z = F6_againstDeliver w x y z ∧ F6_againstSell v x y z = F6_againstSell w x y z ∧ F6_againstTakeBack v x y z = F6_againstTakeBack w x y z ∧ F6_againstBreak v x y z = F6_againstBreak w x y z := by
  refine ⟨?_, ?_, ?_, ?_⟩
  · unfold F6_againstDeliver F6_priceFor F6_depositsFor F6_of F6_ofShop
    rw [e]
  · unfold F6_againstSell F6_ofShop
    rw [e]
  · unfold F6_againstTakeBack F6_deposit F6_of F6_ofShop
    rw [e]
  · unfold F6_againstBreak F6_ofShop
    rw [e]
theorem agc_congr {v w : bU} {n t : Nat} {α β : Int} (e : v 0 = w 0) (g : gQ B n t α β (w 0)) {s k : Nat} (hs : s < 6) (z : Int32) : F6_againstCollect v (nI s) (nI k) z = F6_againstCollect w (nI s) (nI k) z := by
  have h1 := (emp_nsum (k := k) hs g).1
  have h2 := (emp_nsum (v := v) (k := k) hs (by rw [e]; exact g)).1
  unfold F6_againstCollect F6_ofShop
  rw [h1, h2, e]
theorem st_deliver (hB : B < 2000000000) (h : Rel B a b) (x y z : Int32) : Sim id (B + 85000) (F5_deliver a x y z) (F6_deliver b x y z) := by
  have h' := Rel_thr h 0
  obtain ⟨⟨hr, n, t, g⟩, _⟩ := id h'
  obtain ⟨hn, ht, e0, e1⟩ := gQ_0 g
  have hB1 := isB_eq (u := a) (v := bput b 6 2 0) hn ((hr.1 0 (by decide)).trans e0) e0 x
  have hS1 := isS_eq (u := a) (v := bput b 6 2 0) ht ((hr.1 1 (by decide)).trans e1) e1 y
  unfold F5_deliver F6_deliver F5_needBrand F5_needShop
  rw [hB1, hS1, nrg]
  by_cases c1 : F6_isBrand (bput b 6 2 0) x = 0
  · rw [if_pos c1, if_neg (by decide), if_pos c1]; exact Sim_fail (Rel_up h (by omega)) rfl (by decide)
  rw [if_neg c1, if_pos rfl, if_neg c1]
  by_cases c2 : F6_isShop (bput b 6 2 0) y = 0
  · rw [if_pos c2, if_neg (by decide), if_pos c2]; exact Sim_fail (Rel_up h (by omega)) rfl (by decide)
  rw [if_neg c2, if_pos rfl, if_neg c2]
  by_cases c3 : F6_in z 1 50 = 0
  · rw [if_pos c3, if_neg (by decide), if_pos c3]; exact Sim_fail (Rel_up h (by omega)) rfl (by decide)
  rw [if_neg c3, if_pos rfl, if_neg c3]
  obtain ⟨bb, hbn, rfl⟩ := isB_nat hn e0 c1
  obtain ⟨s, hst, rfl⟩ := isS_nat ht e1 c2
  obtain ⟨k, hk1, hk2, rfl⟩ := in_nat (lo := 1) (hi := 50) c3 (by decide) (by decide)
  rw [del_eq hr g (show bb < 8 by omega) (show s < 6 by omega), nst0, nst1]
  by_cases c4 : F6_againstDeliver (bput b 6 2 0) (nI bb) (nI s) (nI k) = 0
  · rw [if_pos c4, if_pos rfl, if_pos (by rw [c4]; decide)]
    obtain ⟨_, r1, r2, _, _⟩ := Rel_keep h'
    exact Sim_done h' rfl (do_del hB (by rw [r1, r2]; exact hr) (by rw [r2]; exact g) hbn hst hk2 (by rw [(ag_congr r2 _ _ _).1]; exact c4))
  · rw [if_neg c4, if_neg (by decide), if_neg (fun q => c4 (ag_del _ _ _ _ q))]
    exact Sim_fail (Rel_up h (by omega)) rfl (by decide)
end

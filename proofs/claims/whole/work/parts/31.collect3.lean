-- COLLECT, both sides (own text)
theorem picked_nat {w : bU} {s b : Nat} (hs : s < 6) (hb : b < 8) {E l : Nat} (e1 : w 0 (113 + 28 * s + (20 + b)) = nI E) (e2 : w 1 b = nI l) (hl : l ≤ E) : F4_pickedOf w (nI s) (nI b) = nI (E - l) := by
  unfold F4_pickedOf F5_entry
  rw [show (20 + nI b : Int32) = nI (20 + b) from nI_add 20 b, c_sh w (by omega), e1, if_neg (nI_pos (by omega)), if_neg (show ¬ Int32.ofNat 8 ≤ nI b from nI_ge (b := 8) hb (by decide)), mC (by omega), e2, pk_sub hl]
theorem c_loop22 {u : bU} {s k : Nat} {p e : Nat → Nat} {m : Nat → Int32} {B n t : Nat} {α β : Int} (hs : s < 6) (h : gQ B n t α β m) (hS : SR s k e m) (hp : ∀ b : Nat, b < 8 → p b ≤ e b) (hl : ∀ b : Nat, b < 8 → u 1 b = nI (e b - p b)) :
    ∀ (d f j : Nat) (c : Nat → Int32), j + d = 8 → d < f → rV c (agg s p m j) → ∃ c' : Nat → Int32, L4_collectCrates_22 (nI s) (nI k) (bs u 0 c) f j = bs u 0 c' ∧ rV c' (agg s p m 8) := by
  intro d
  induction d with
  | zero =>
    intro f j c hj hf hr
    obtain ⟨f, rfl⟩ : ∃ q : Nat, f = q + 1 := ⟨f - 1, by omega⟩
    obtain rfl : j = 8 := by omega
    exact ⟨c, by rw [L4_collectCrates_22, if_pos (show (8 : Int32) ≤ nI 8 by decide)], hr⟩
  | succ d ih =>
    intro f j c hj hf hr
    obtain ⟨f, rfl⟩ : ∃ q : Nat, f = q + 1 := ⟨f - 1, by omega⟩
    have hj8 : j < 8 := by omega
    rw [L4_collectCrates_22, if_neg (show ¬ (8 : Int32) ≤ nI j from nI_ge (b := 8) hj8 (by decide))]
    obtain ⟨a1, a2, a3⟩ := hS j hj8
    have ek : F2_ofBrand (bs u 0 c) (nI j) 0 = m (13 + 10 * j + 0) := by
      rw [show F2_ofBrand (bs u 0 c) (nI j) 0 = c (17 + 12 * j + 0) from d_br u c (w := 0) (by omega), ← phi_b0 hj8, hr.1 _ (by omega), agg_out j (fun b hb => by omega)]
    rw [ek]
    by_cases q : m (13 + 10 * j + 0) = nI k
    · rw [if_pos q]
      have eE : c (113 + 28 * s + (20 + j)) = nI (e j) := by
        rw [← phi_sE hs hj8, hr.1 _ (by omega), agg_out j (fun b hb => by omega), a2 q]
      have ep : F4_pickedOf (bs u 0 c) (nI s) (nI j) = nI (p j) := by
        rw [picked_nat (w := bs u 0 c) (E := e j) (l := e j - p j) hs hj8 (by rw [bs_eq]; exact eE) (by rw [bs_ne _ _ (by decide)]; exact hl j hj8) (by omega)]
        congr 1
        have := hp j hj8
        omega
      rw [ep]
      have f1 : F2_addToBrand (F2_addToShop (bs u 0 c) (nI s) (20 + nI j) (-nI (p j))) (nI j) 6 (nI (p j)) = bs u 0 (adds c (toC (nPut s j (p j)))) := by
        unfold nPut toC
        simp (disch := omega) only [li6, li20, nI_add, c_addBr, c_addSh, bs_eq, bs_bs, List.map_cons, List.map_nil, adds_cons, adds_nil, phi_b4, phi_sE]
      rw [f1]
      refine ih f (j + 1) _ (by omega) (by omega) ?_
      rw [agg]
      exact rV_step hr (by simp only [nPut]; intro z hz; simp only [List.mem_cons, List.not_mem_nil, or_false] at hz; rcases hz with rfl | rfl <;> (dsimp only; omega))
    · rw [if_neg q]
      refine ih f (j + 1) c (by omega) (by omega) ?_
      have : p j = 0 := by have := hp j hj8; have := a3 q; omega
      rw [agg, this, nPut_0]
      exact hr
theorem sum_le {v : bU} {B n t s k x : Nat} {α β : Int} (hs : s < 6) (h : gQ B n t α β (v 0)) (hx : x ≤ 50) (c : 12 * nI x ≤ F6_emptiesOf v (nI s) (nI k)) : 12 * x ≤ nsum (eK s k (v 0)) 8 0 := by
  obtain ⟨e1, e2⟩ := emp_nsum (k := k) hs h
  rw [e1, show (12 * nI x : Int32) = nI (12 * x) from pk_mul 12 x] at c
  exact (nI_leI (by omega) (by omega)).mp c
/-- what the picking leaves -/
theorem pick_both {u v : bU} {B n t s k d x : Nat} (hB : B < 2000000000) (hr : rV (u 0) (v 0)) (h : gJ B n t (v 0)) (hs : s < t) (hk : k < 3) (ed : v 0 (7 + k) = nI d) (hd1 : 1 ≤ d) (hd : d ≤ 100) (hx : x ≤ 50) (hN : 12 * x ≤ nsum (eK s k (v 0)) 8 0) :
    ∃ p : Nat → Nat, (∀ b : Nat, b < 8 → p b ≤ eK s k (v 0) b) ∧ (∀ b : Nat, b < 8 → F4_pickEmpties u (nI s) (nI k) (12 * nI x) 1 b = nI (eK s k (v 0) b - p b)) ∧ L6_collects_3 (nI s) (nI k) (nI x) v ((12 * nI x : Int32).toNatClampNeg + 1) 0 = bs v 0 (agg s p (v 0) 8) ∧ gQ B n t (0 - ((12 * x : Nat) : Int) * d) (0 + ((12 * x : Nat) : Int)) (agg s p (v 0) 8) := by
  have ht := (gQ_0 h).2.1
  have hs6 : s < 6 := by omega
  have hS := eK_SR (k := k) hs6 h
  have e12 : (12 * nI x : Int32) = nI (12 * x) := pk_mul 12 x
  obtain ⟨p, p1, p2, p3, p4⟩ := pick_sim (v := v) (x := x) hB hs hk hd1 hd hx (12 * x) 0 (12 * x + 1) (12 * x + 1) (eK s k (v 0)) (L4_pickEmpties_3 (nI s) (nI k) u (8 + 1) 0) (v 0) 0 0 (by omega) (by omega) (by omega) (fun b hb => by
    rw [left_1 _ _ 8 9 0 u (by decide) (by decide) b hb, if_pos (Nat.zero_le b), show F2_ofBrand u (nI b) 0 = v 0 (13 + 10 * b + 0) from (r_b hr (w := 0) hb (by decide)).trans (m_br v (w := 0) (by omega)), r_E hr hs6 hb, show (13 + nI b : Int32) = nI (13 + b) from nI_add 13 b, m_sh v (by omega)]
    obtain ⟨a1, a2, a3⟩ := hS b hb
    by_cases c : v 0 (13 + 10 * b + 0) = nI k
    · rw [if_pos c, a2 c]
    · rw [if_neg c, a3 c]; rfl) hS hN h ed
  refine ⟨p, p1, fun b hb => ?_, ?_, p4⟩
  · unfold F4_pickEmpties
    rw [e12, mC (by omega)]
    exact p2 b hb
  · rw [e12, mC (by omega)]
    rw [bs_self] at p3
    exact p3
theorem s_collect {u v : bU} {B n t s k d c x : Nat} (hB : B < 2000000000) (hr : rV (u 0) (v 0)) (h : gJ B n t (v 0)) (hs : s < t) (hk : k < 3) (ed : v 0 (7 + k) = nI d) (hd1 : 1 ≤ d) (hd : d ≤ 100) (ec : v 0 10 = nI c) (hc : c ≤ 500) (hx : x ≤ 50) (hN : 12 * x ≤ nsum (eK s k (v 0)) 8 0) (hC : (x : Int) ≤ (v 0 (93 + 21 * s + 1)).toInt) :
    ∃ (w : bU) (c' m' : Nat → Int32), (F4_collectCrates u (nI s) (nI k) (nI x)).2 = bs w 0 c' ∧ (∀ i : Nat, i ≠ 0 → i ≠ 1 → w i = u i) ∧ (F6_collects v (nI s) (nI k) (nI x)).2 = bs v 0 m' ∧ rV c' m' ∧ gJ (B + 85000) n t m' ∧ (F4_collectCrates u (nI s) (nI k) (nI x)).1 = (F6_collects v (nI s) (nI k) (nI x)).1 ∧
      (∃ p : Nat → Nat, (∀ b : Nat, b < 8 → p b ≤ eK s k (v 0) b) ∧ (∀ b : Nat, b < 8 → F4_pickEmpties u (nI s) (nI k) (12 * nI x) 1 b = nI (eK s k (v 0) b - p b)) ∧ ∀ b : Nat, b < 8 → m' (13 + 10 * b + 4) = v 0 (13 + 10 * b + 4) + nI (p b)) := by
  obtain ⟨hn, ht, e0, e1⟩ := gQ_0 h
  have hs6 : s < 6 := by omega
  have hS := eK_SR (k := k) hs6 h
  obtain ⟨p, p1, p2, p3, p4⟩ := pick_both hB hr h hs hk ed hd1 hd hx hN
  have aout : ∀ i : Nat, i < 13 → agg s p (v 0) 8 i = v 0 i := fun i hi => agg_out 8 (fun b hb => by omega)
  have aC : agg s p (v 0) 8 (93 + 21 * s + 1) = v 0 (93 + 21 * s + 1) := agg_out 8 (fun b hb => by omega)
  have w0 : (F4_pickEmpties u (nI s) (nI k) (12 * nI x)) 0 = u 0 := fr_pickEmpties _ _ _ _ (by decide)
  have hH := gJ_H h
  have hD : 12 * d + c ≤ 1700 := by omega
  have hDx : x * (12 * d + c) ≤ 85000 := Nat.le_trans (Nat.mul_le_mul hx hD) (by decide)
  have g1 := gTai (B := B) (s := s) (x := x) (D := x * (12 * d + c)) p4 hs (by rw [aout 10 (by decide)]; exact ec) hc hd hx (by rw [aC]; exact hC) rfl (by rw [aout 3 (by decide)]; exact hH.2.1) hB
  have z1 : (0 - ((12 * x : Nat) : Int) * d + 12 * ((d * x : Nat) : Int)) = 0 := by push_cast; grind
  have z2 : (0 + ((12 * x : Nat) : Int) + -12 * x) = 0 := by push_cast; omega
  rw [z1, z2] at g1
  have ew : bs (F4_pickEmpties u (nI s) (nI k) (12 * nI x)) 0 (u 0) = F4_pickEmpties u (nI s) (nI k) (12 * nI x) := by rw [← w0, bs_self]
  obtain ⟨c', c1, c2⟩ := c_loop22 (u := F4_pickEmpties u (nI s) (nI k) (12 * nI x)) hs6 h hS p1 p2 8 9 0 (u 0) (by decide) (by decide) hr
  rw [ew] at c1
  have f4 : F4_crateDeposits u (nI k) = nI (12 * d + c) := by
    rw [c_dep u (by omega), (q_set hr (by omega)).trans ed, (q_set hr (k := 3) (by decide)).trans ec, show (12 * nI d + nI c : Int32) = nI (12 * d + c) from by rw [show (12 * nI d : Int32) = nI (12 * d) from pk_mul 12 d, nI_add]]
  have f6 : F6_depositsFor (bs v 0 (agg s p (v 0) 8)) (nI k) (nI x) = nI (x * (12 * d + c)) := by
    rw [m_dep _ (by omega), bs_eq, aout _ (by omega), aout 10 (by decide), ed, ec, show (12 * nI d + nI c : Int32) = nI (12 * d + c) from by rw [show (12 * nI d : Int32) = nI (12 * d) from pk_mul 12 d, nI_add], pk_mul]
  have hC' : L4_collectCrates_22 (nI s) (nI k) (F4_pickEmpties u (nI s) (nI k) (12 * nI x)) (8 + 1) 0 = bs (F4_pickEmpties u (nI s) (nI k) (12 * nI x)) 0 c' := c1
  refine ⟨F4_pickEmpties u (nI s) (nI k) (12 * nI x), adds c' (toC (nTai s x (x * (12 * d + c)))), adds (agg s p (v 0) 8) (nTai s x (x * (12 * d + c))), ?_, fun i _ h1 => fr_pickEmpties _ _ _ _ h1, ?_, ?_, g1, ?_, ⟨p, p1, p2, fun b hb => ?_⟩⟩
  · unfold F4_collectCrates nTai toC
    rw [hC', f4, pk_mul]
    simp (disch := omega) only [li0, li1, li2, li4, c_addSh, c_addAll, bs_eq, bs_bs, List.map_cons, List.map_nil, adds_cons, adds_nil, phi_s1, phi_2, phi_s0, phi_s2, phi_3]
  · unfold F6_collects nTai
    rw [p3, f6]
    simp (disch := omega) only [li0, li1, li2, m_iS, badd_eq, bsub_eq, bs_eq, bs_bs, adds_cons, adds_nil]
  · exact rV_step c2 (by simp only [nTai]; intro z hz; simp only [List.mem_cons, List.not_mem_nil, or_false] at hz; rcases hz with rfl | rfl | rfl | rfl | rfl <;> (dsimp only; omega))
  · show nI x * F4_crateDeposits u (nI k) = F6_depositsFor (L6_collects_3 (nI s) (nI k) (nI x) v ((12 * nI x : Int32).toNatClampNeg + 1) 0) (nI k) (nI x)
    rw [f4, p3, f6, pk_mul]
  · rw [adds_out (fun z hz => by
      simp only [nTai, List.mem_cons, List.not_mem_nil, or_false] at hz
      rcases hz with rfl | rfl | rfl | rfl | rfl <;> (dsimp only; omega)), agg_Y 8 hb, if_pos (by decide)]

-- fill, lose, swap, sort (own text)
theorem worn_le {f x w : Nat} (hw : 1 ≤ w) : f / w ≤ (f + x) / w ∧ (f + x) / w ≤ f / w + x := by
  refine ⟨Nat.div_le_div_right (by omega), ?_⟩
  have h1 : (f + x) / w ≤ (f + x * w) / w := Nat.div_le_div_right (by have := Nat.le_mul_of_pos_right x (show 0 < w by omega); omega)
  rw [Nat.add_mul_div_right _ _ (by omega)] at h1
  exact h1
theorem c_worn {u v : bU} {b x f9 w9 : Nat} (hr : rV (u 0) (v 0)) (hb : b < 8) (ef : v 0 (13 + 10 * b + 8) = nI f9) (ew : v 0 12 = nI w9) (hw1 : 1 ≤ w9) (hw : w9 ≤ 1000) (hf : f9 + x < 2 ^ 31) : F4_wornBy u (nI b) (nI x) = nI ((f9 + x) / w9 - f9 / w9) := by
  have e1 : F2_ofSetting u 5 = nI w9 := (c_set u (k := 5) (by decide)).trans ((q_set hr (k := 5) (by decide)).trans ew)
  have e2 : F2_ofBrand u (nI b) 10 = nI f9 := (r_b hr (w := 8) hb (by decide)).trans ((m_br v (w := 8) (by omega)).trans ef)
  unfold F4_wornBy
  rw [e1, e2, if_neg (nI_nle (by omega) (by omega)), nI_add, pk_div hf (by omega) (by omega), pk_div (by omega) (by omega) (by omega), pk_sub (worn_le hw1).1]
theorem m_full {v : bU} {b x f9 w9 : Nat} (hb : b < 8) (ef : v 0 (13 + 10 * b + 8) = nI f9) (ew : v 0 12 = nI w9) (hw1 : 1 ≤ w9) (hw : w9 ≤ 1000) (hf : f9 + x < 2 ^ 31) : F6_full v (nI b) (nI x) = nI (x - ((f9 + x) / w9 - f9 / w9)) := by
  have e2 : F6_of v (nI b) 8 = nI f9 := (m_br v (w := 8) (by omega)).trans ef
  unfold F6_full
  rw [ew, e2, nI_add, pk_div hf (by omega) (by omega), pk_div (by omega) (by omega) (by omega), pk_sub (worn_le hw1).1, pk_sub (by have := worn_le (f := f9) (x := x) hw1; omega)]
theorem s_fill {u v : bU} {b x f9 w9 : Nat} (hr : rV (u 0) (v 0)) (hb : b < 8) (ef : v 0 (13 + 10 * b + 8) = nI f9) (ew : v 0 12 = nI w9) (hw1 : 1 ≤ w9) (hw : w9 ≤ 1000) (hf : f9 + x < 2 ^ 31) :
    stepOf (nFil b x (x - ((f9 + x) / w9 - f9 / w9)) ((f9 + x) / w9 - f9 / w9)) u v (F4_fillBottles u (nI b) (nI x)) (F6_fills v (nI b) (nI x)) := by
  have h9 := worn_le (f := f9) (x := x) hw1
  refine ⟨?_, ?_, ?_⟩
  · unfold F4_fillBottles nFil toC
    rw [c_worn hr hb ef ew hw1 hw hf, pk_sub (by omega)]
    generalize (f9 + x) / w9 - f9 / w9 = W
    simp (disch := omega) only [li1, li2, li9, li10, c_addBr, bs_eq, bs_bs, List.map_cons, List.map_nil, adds_cons, adds_nil, phi_b1, phi_b2, phi_b7, phi_b8]
  · unfold F6_fills nFil
    rw [m_full hb ef ew hw1 hw hf, pk_sub (by omega), show x - (x - ((f9 + x) / w9 - f9 / w9)) = (f9 + x) / w9 - f9 / w9 by omega]
    generalize (f9 + x) / w9 - f9 / w9 = W
    simp (disch := omega) only [li1, li2, li7, li8, m_iB, badd_eq, bsub_eq, bs_eq, bs_bs, adds_cons, adds_nil]
  · unfold F4_fillBottles F6_fills
    rw [c_worn hr hb ef ew hw1 hw hf, pk_sub (by omega), m_full hb ef ew hw1 hw hf]
def m_loses (v : bU) (b x : Int32) : bU := badd (badd (bsub v 0 (F6_brandAt b 3).toNatClampNeg x) 0 (F6_brandAt b 6).toNatClampNeg x) 0 4 (x * F6_deposit (badd (bsub v 0 (F6_brandAt b 3).toNatClampNeg x) 0 (F6_brandAt b 6).toNatClampNeg x) b)
theorem s_lose {u v : bU} {b k d x : Nat} (hr : rV (u 0) (v 0)) (hb : b < 8) (hk : k < 3) (ek : v 0 (13 + 10 * b + 0) = nI k) (ed : v 0 (7 + k) = nI d) :
    stepOf (nLos b x (x * d)) u v (F4_loseBottles u (nI b) (nI x)) (F6_of (m_loses v (nI b) (nI x)) (nI b) 3, m_loses v (nI b) (nI x)) := by
  have f1 : u 0 (17 + 12 * b + 0) = nI k := (q_kind hr hb).trans ek
  have f4 : u 0 (11 + k) = nI d := (q_set hr (by omega)).trans ed
  have h1 : (F4_loseBottles u (nI b) (nI x)).2 = bs u 0 (adds (u 0) (toC (nLos b x (x * d)))) := by
    unfold F4_loseBottles nLos toC
    simp (disch := omega) only [li5, li8, c_addBr, c_addAll, bs_eq, bs_bs, List.map_cons, List.map_nil, adds_cons, adds_nil, phi_b3, phi_b6, phi_4]
    rw [c_deposit _ _ hb hk (by simp (disch := omega) only [add1_ne]; exact f1)]
    simp (disch := omega) only [add1_ne, f4, pk_mul]
  have h2 : m_loses v (nI b) (nI x) = bs v 0 (adds (v 0) (nLos b x (x * d))) := by
    unfold m_loses nLos
    simp (disch := omega) only [li3, li6, m_iB, badd_eq, bsub_eq, bs_eq, bs_bs, adds_cons, adds_nil]
    rw [m_deposit _ _ hb hk (by simp (disch := omega) only [add1_ne]; exact ek)]
    simp (disch := omega) only [add1_ne, ed, pk_mul]
  refine ⟨h1, h2, ?_⟩
  show F2_ofBrand (F4_loseBottles u (nI b) (nI x)).2 (nI b) 5 = F6_of (m_loses v (nI b) (nI x)) (nI b) 3
  rw [h1, h2, show ∀ f, F2_ofBrand (bs u 0 f) (nI b) 5 = f (17 + 12 * b + 5) from fun f => d_br u f (w := 5) (by omega), show ∀ f, F6_of (bs v 0 f) (nI b) 3 = f (13 + 10 * b + 3) from fun f => (m_br (bs v 0 f) (w := 3) (by omega)).trans (by rw [bs_eq]), ← phi_b3 hb]
  exact (rV_step hr (by simp only [nLos]; intro p hp; simp only [List.mem_cons, List.not_mem_nil, or_false] at hp; rcases hp with rfl | rfl | rfl <;> (dsimp only; omega))).1 _ (by omega)
/-- a place beyond the first 219 -/
theorem sN_far {w : Nat → Int} {m k : Nat → Int32} (h : ∀ j : Nat, j < 219 → k j = m j) : S w k = S w m := S_congr (fun i hi => by rw [h i hi])
theorem dp_far {m k : Nat → Int32} {B n s : Nat} {α β : Int} (hq : gQ B n s α β m) (h : ∀ j : Nat, j < 219 → k j = m j) : dp k = dp m := by
  funext b
  unfold dp
  by_cases hb : b < 8
  · rw [if_pos hb, if_pos hb, h (13 + 10 * b) (by omega)]
    obtain ⟨z, hz, e⟩ := hq.2.1 b hb
    rw [e, mC (by omega), h (7 + z) (by omega)]
  · rw [if_neg hb, if_neg hb]
theorem gQ_far {m k : Nat → Int32} {B n s : Nat} {α β : Int} (hq : gQ B n s α β m) (h : ∀ j : Nat, j < 219 → k j = m j) : gQ B n s α β k := by
  have hd := dp_far hq h
  obtain ⟨⟨hn, hs, h0, h1⟩, hK, ⟨hZ1, hZ2, hZ3⟩, ⟨hp1, hp2, hp3, hp4⟩, ⟨hP, hM⟩, ⟨s1, s2, s3, s4, s5, s6⟩⟩ := hq
  refine ⟨⟨hn, hs, by rw [h 0 (by decide)]; exact h0, by rw [h 1 (by decide)]; exact h1⟩, fun b hb => by rw [h _ (by omega)]; exact hK b hb, ⟨fun b w x y z => by rw [h _ (by omega)]; exact hZ1 b w x y z, fun i w x y z => by rw [h _ (by omega)]; exact hZ2 i w x y z, fun i b x y z => ⟨by rw [h _ (by omega)]; exact (hZ3 i b x y z).1, by rw [h _ (by omega)]; exact (hZ3 i b x y z).2⟩⟩, ⟨fun k hk => by rw [h _ (by omega)]; exact hp1 k hk, by rw [h _ (by decide)]; exact hp2, by rw [h _ (by decide)]; exact hp3, by rw [h _ (by decide)]; exact hp4⟩, ⟨fun j hj => by rw [h j hj]; exact hP j hj, fun j hj => by rw [h j hj]; exact hM j hj⟩, ?_⟩
  rw [hd, sN_far h, sN_far h, sN_far h, sN_far h, sN_far h, sN_far h, h 10 (by decide)]
  exact ⟨s1, s2, s3, s4, s5, s6⟩
def m_swaps (v : bU) (f t x : Int32) : bU := badd (bsub (badd (badd (bsub v 0 (F6_brandAt f 1).toNatClampNeg x) 0 (F6_brandAt t 1).toNatClampNeg x) 0 (F6_brandAt f 9).toNatClampNeg x) 0 (F6_brandAt t 9).toNatClampNeg x) 0 ((219 + (8 * f)) + t).toNatClampNeg x
theorem m_iG {f t : Nat} (hf : f < 8) (ht : t < 8) : ((219 + (8 * nI f)) + nI t : Int32).toNatClampNeg = 219 + 8 * f + t := by
  rw [show ((219 + (8 * nI f)) + nI t : Int32) = nI (219 + 8 * f + t) from by
    show (nI 219 + (nI 8 * nI f)) + nI t = _
    rw [pk_mul, nI_add, nI_add], mC (by omega)]
theorem s_swap {u v : bU} {b e x : Nat} (hr : rV (u 0) (v 0)) (hb : b < 8) (he : e < 8) (hne : b ≠ e) :
    (F4_swapBottles u (nI b) (nI e) (nI x)).2 = bs u 0 (add1 (add1 (adds (u 0) (toC (nSwp b e x))) (281 + 8 * b + e) (nI x)) (281 + 8 * e + b) (-nI x)) ∧ m_swaps v (nI b) (nI e) (nI x) = bs v 0 (add1 (adds (v 0) (nSwp b e x)) (219 + 8 * b + e) (nI x)) ∧
    rV (add1 (add1 (adds (u 0) (toC (nSwp b e x))) (281 + 8 * b + e) (nI x)) (281 + 8 * e + b) (-nI x)) (add1 (adds (v 0) (nSwp b e x)) (219 + 8 * b + e) (nI x)) ∧
    (F4_swapBottles u (nI b) (nI e) (nI x)).1 = m_swaps v (nI b) (nI e) (nI x) 0 (219 + 8 * b + e) - m_swaps v (nI b) (nI e) (nI x) 0 (219 + 8 * e + b) := by
  have h1 : (F4_swapBottles u (nI b) (nI e) (nI x)).2 = bs u 0 (add1 (add1 (adds (u 0) (toC (nSwp b e x))) (281 + 8 * b + e) (nI x)) (281 + 8 * e + b) (-nI x)) := by
    unfold F4_swapBottles nSwp toC
    simp (disch := omega) only [li1, li11, c_addBr, c_addSw, bs_eq, bs_bs, List.map_cons, List.map_nil, adds_cons, adds_nil, phi_b1, phi_b9]
  have h2 : m_swaps v (nI b) (nI e) (nI x) = bs v 0 (add1 (adds (v 0) (nSwp b e x)) (219 + 8 * b + e) (nI x)) := by
    unfold m_swaps nSwp
    rw [m_iG hb he]
    simp (disch := omega) only [li1, li9, m_iB, badd_eq, bsub_eq, bs_eq, bs_bs, adds_cons, adds_nil]
  have h3 : rV (adds (u 0) (toC (nSwp b e x))) (adds (v 0) (nSwp b e x)) := rV_step hr (by simp only [nSwp]; intro p hp; simp only [List.mem_cons, List.not_mem_nil, or_false] at hp; rcases hp with rfl | rfl | rfl | rfl <;> (dsimp only; omega))
  have h4 : rV (add1 (add1 (adds (u 0) (toC (nSwp b e x))) (281 + 8 * b + e) (nI x)) (281 + 8 * e + b) (-nI x)) (add1 (adds (v 0) (nSwp b e x)) (219 + 8 * b + e) (nI x)) := by
    generalize adds (u 0) (toC (nSwp b e x)) = c at h3
    generalize adds (v 0) (nSwp b e x) = m at h3
    refine ⟨fun j hj => ?_, fun f t hf ht => ?_⟩
    · have := phi_lt j hj
      rw [add1_ne (by omega), add1_ne (by omega), add1_ne (by omega), h3.1 j hj]
    · have := h3.2 f t hf ht
      rw [add1_val, add1_val, add1_val, add1_val]
      by_cases a1 : f = b ∧ t = e
      · obtain ⟨rfl, rfl⟩ := a1
        rw [if_neg (by omega), if_pos rfl, if_pos rfl, if_neg (by omega), this]
        grind
      · by_cases a2 : f = e ∧ t = b
        · obtain ⟨rfl, rfl⟩ := a2
          rw [if_pos rfl, if_neg (by omega), if_neg (by omega), if_pos (by omega), this]
          grind
        · rw [if_neg (by omega), if_neg (by omega), if_neg (by omega), if_neg (by omega), this]
  refine ⟨h1, h2, h4, ?_⟩
  show F2_ofSwaps (F4_swapBottles u (nI b) (nI e) (nI x)).2 (nI b) (nI e) = _
  rw [h1, d_sw u _ (by omega), h2, bs_eq]
  exact h4.2 b e hb he

theorem add1_0 (f : Nat → Int32) (i : Nat) : add1 f i 0 = f := by
  funext k
  rw [add1_val]
  split
  · rw [Int32.add_zero]
  · rfl
theorem neg_0 : (-0 : Int32) = 0 := by decide
theorem b_nat {B n s : Nat} {m : Nat → Int32} {α β : Int} (h : gQ B n s α β m) {j : Nat} (hj : j < 219) (hw : wT j = 1) : ∃ y : Nat, y ≤ 40000 ∧ m j = nI y := by
  have := gJ_T h hj hw
  exact ⟨(m j).toInt.toNat, by omega, iOf (by omega)⟩
theorem sort_tail {u : bU} {c : Nat → Int32} {n : Nat} (a : Int32) (hz : ∀ b : Nat, n ≤ b → b < 8 → c (17 + 12 * b + 6) = 0) : ∀ (d f j r : Nat), j + d = 8 → d < f → n ≤ j → r < 2 ^ 31 → (L4_sortBottles_5 a (bs u 0 c) f j (nI r)).2 = bs u 0 c := by
  intro d
  induction d with
  | zero =>
    intro f j r hj hf _ _
    obtain ⟨f, rfl⟩ : ∃ g : Nat, f = g + 1 := ⟨f - 1, by omega⟩
    rw [L4_sortBottles_5, if_pos (show (8 : Int32) ≤ nI j from nI_le (a := 8) (by omega) (by omega))]
  | succ d ih =>
    intro f j r hj hf hn hr
    obtain ⟨f, rfl⟩ : ∃ g : Nat, f = g + 1 := ⟨f - 1, by omega⟩
    rw [L4_sortBottles_5, if_neg (show ¬ (8 : Int32) ≤ nI j from nI_ge (b := 8) (by omega) (by decide))]
    have e : F2_ofBrand (bs u 0 c) (nI j) 6 = nI 0 := (d_br u c (w := 6) (by omega)).trans (hz j hn (by omega))
    split
    · rw [e, min_nat hr (by decide), Nat.min_eq_right (Nat.zero_le r), show (nI r - nI 0 : Int32) = nI r from Int32.sub_zero _, show (-nI 0 : Int32) = 0 from neg_0, show (nI 0 : Int32) = 0 from rfl]
      rw [show F2_addToBrand (F2_addToBrand (bs u 0 c) (nI j) 6 0) (nI j) 1 0 = bs u 0 c from by
        rw [show F2_addToBrand (bs u 0 c) (nI j) 6 0 = bs u 0 (add1 c (17 + 12 * j + 6) 0) from d_addBr u c 0 (w := 6) (by omega), add1_0, show F2_addToBrand (bs u 0 c) (nI j) 1 0 = bs u 0 (add1 c (17 + 12 * j + 1) 0) from d_addBr u c 0 (w := 1) (by omega), add1_0]]
      exact ih f (j + 1) r (by omega) (by omega) (by omega) hr
    · exact ih f (j + 1) r (by omega) (by omega) (by omega) hr
theorem sort_sim {u v : bU} {B n t : Nat} (hB : B < 2000000000) (a : Int32) : ∀ (d f g j r : Nat) (c m : Nat → Int32), j + d = 8 → d < f → n + 1 ≤ g + j → 1 ≤ g → rV c m → gJ B n t m → r ≤ 40000 →
    ∃ c' m' : Nat → Int32, (L4_sortBottles_5 a (bs u 0 c) f j (nI r)).2 = bs u 0 c' ∧ (L6_sort_55 a (bs v 0 m) g j (nI r)).2 = bs v 0 m' ∧ rV c' m' ∧ gJ B n t m' := by
  intro d
  induction d with
  | zero =>
    intro f g j r c m hj hf hg hg1 hr h _
    obtain ⟨f, rfl⟩ : ∃ g : Nat, f = g + 1 := ⟨f - 1, by omega⟩
    obtain ⟨g, rfl⟩ : ∃ q : Nat, g = q + 1 := ⟨g - 1, by omega⟩
    obtain ⟨hn, ht, e0, e1⟩ := gQ_0 h
    refine ⟨c, m, ?_, ?_, hr, h⟩
    · rw [L4_sortBottles_5, if_pos (show (8 : Int32) ≤ nI j from nI_le (a := 8) (by omega) (by omega))]
    · rw [L6_sort_55, bs_eq, e0, if_pos (nI_le (by omega) (by omega))]
  | succ d ih =>
    intro f g j r c m hj hf hg hg1 hr h hr4
    obtain ⟨hn, ht, e0, e1⟩ := gQ_0 h
    rcases Nat.lt_or_ge j n with q | q
    · obtain ⟨f, rfl⟩ : ∃ g : Nat, f = g + 1 := ⟨f - 1, by omega⟩
      obtain ⟨g, rfl⟩ : ∃ q : Nat, g = q + 1 := ⟨g - 1, by omega⟩
      rw [L4_sortBottles_5, if_neg (show ¬ (8 : Int32) ≤ nI j from nI_ge (b := 8) (by omega) (by decide)), L6_sort_55, bs_eq, e0, if_neg (nI_ge q (by omega))]
      have ek : F2_ofBrand (bs u 0 c) (nI j) 0 = F6_of (bs v 0 m) (nI j) 0 := r_b (u := bs u 0 c) (v := bs v 0 m) (by rw [bs_eq, bs_eq]; exact hr) (w := 0) (by omega) (by decide)
      have ey : F2_ofBrand (bs u 0 c) (nI j) 6 = F6_of (bs v 0 m) (nI j) 4 := r_b (u := bs u 0 c) (v := bs v 0 m) (by rw [bs_eq, bs_eq]; exact hr) (w := 4) (by omega) (by decide)
      obtain ⟨y, hy, ey2⟩ := b_nat h (j := 13 + 10 * j + 4) (by omega) (wv_T_b4 (by omega))
      have ey3 : F6_of (bs v 0 m) (nI j) 4 = nI y := (m_br _ (w := 4) (by omega)).trans (by rw [bs_eq]; exact ey2)
      rw [ek, ey, ey3]
      by_cases c1 : F6_of (bs v 0 m) (nI j) 0 = a
      · rw [if_pos c1, if_pos c1, min_nat (by omega) (by omega), least_nat (by omega) (by omega), pk_sub (by omega)]
        have f1 : F2_addToBrand (F2_addToBrand (bs u 0 c) (nI j) 6 (-nI (min r y))) (nI j) 1 (nI (min r y)) = bs u 0 (adds c (toC (nSrt j (min r y)))) := by
          unfold nSrt toC
          simp (disch := omega) only [li1, li6, c_addBr, bs_eq, bs_bs, List.map_cons, List.map_nil, adds_cons, adds_nil, phi_b1, phi_b4]
        have f2 : badd (bsub (bs v 0 m) 0 (F6_brandAt (nI j) 4).toNatClampNeg (nI (min r y))) 0 (F6_brandAt (nI j) 1).toNatClampNeg (nI (min r y)) = bs v 0 (adds m (nSrt j (min r y))) := by
          unfold nSrt
          simp (disch := omega) only [li1, li4, m_iB, badd_eq, bsub_eq, bs_eq, bs_bs, adds_cons, adds_nil]
        rw [f1, f2]
        exact ih f g (j + 1) (r - min r y) _ _ (by omega) (by omega) (by omega) (by omega) (rV_step hr (by simp only [nSrt]; intro p hp; simp only [List.mem_cons, List.not_mem_nil, or_false] at hp; rcases hp with rfl | rfl <;> (dsimp only; omega))) (gSrt h q (by rw [ey2, tN (by omega)]; omega) (by omega) hB) (by omega)
      · rw [if_neg c1, if_neg c1]
        have f2 : badd (bsub (bs v 0 m) 0 (F6_brandAt (nI j) 4).toNatClampNeg 0) 0 (F6_brandAt (nI j) 1).toNatClampNeg 0 = bs v 0 m := by
          rw [bsub_bs, neg_0, add1_0, badd_bs, add1_0]
        rw [f2, show (nI r - 0 : Int32) = nI r from Int32.sub_zero _]
        exact ih f g (j + 1) r c m (by omega) (by omega) (by omega) (by omega) hr h hr4
    · refine ⟨c, m, ?_, ?_, hr, h⟩
      · refine sort_tail a (n := n) (fun b h1 h2 => ?_) (d + 1) f j r hj hf q (by omega)
        rw [← phi_b4 h2, hr.1 _ (by omega)]
        exact z_b h h1 h2 (by decide)
      · obtain ⟨g, rfl⟩ : ∃ q : Nat, g = q + 1 := ⟨g - 1, by omega⟩
        rw [L6_sort_55, bs_eq, e0, if_pos (nI_le q (by omega))]

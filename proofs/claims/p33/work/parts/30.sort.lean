-- sort and swap (own text)
theorem nsum_sub {e e' : Nat → Nat} {q p : Nat} (h1 : e' q + p = e q) (h2 : ∀ i : Nat, i ≠ q → e' i = e i) : ∀ (d j : Nat), j ≤ q → q < j + d → nsum e' d j + p = nsum e d j := by
  intro d
  induction d with
  | zero => intro j a b; omega
  | succ d ih =>
    intro j a b
    rw [nsum, nsum]
    by_cases c : j = q
    · subst c
      rw [nsum_congr (e := e') (g := e) d (j + 1) (fun i x y => h2 i (by omega))]
      omega
    · have := ih (j + 1) (by omega) (by omega)
      rw [h2 j c]
      omega
/-- a brand's yard, if it is of the kind -/
def yk (kd : Nat → Nat) (kk : Nat) (c : Nat → Int32) (i : Nat) : Nat := if kd i = kk then (c (17 + 12 * i + 6)).toInt.toNat else 0
theorem adds_z2 {c : Nat → Int32} {i j : Nat} : adds c [(i, -nI 0), (j, nI 0)] = c := by
  rw [adds_cons, adds_cons, adds_nil]
  show add1 (add1 c i (-0)) j 0 = c
  rw [neg_0, add1_0, add1_0]
section SR
variable {n t : Nat} {kd : Nat → Nat} {f : Nat} {m k : Int32} {bb : Nat → Int32}
theorem yk_nI {B : Nat} {al : Int32} {c : Nat → Int32} (h : INV B n t kd f m k al bb c) {kk i : Nat} (hi : i < 8) (e : kd i = kk) : c (17 + 12 * i + 6) = nI (yk kd kk c i) ∧ yk kd kk c i ≤ B := by
  have hN := h.2.2.1 _ (pP_b hi (w := 6) (by omega))
  obtain ⟨a, a1, a2⟩ := rg_nat hN
  have h2 := hN.2
  have h1 := hN.1
  unfold yk
  rw [if_pos e]
  refine ⟨iOf (by omega), by omega⟩
theorem yk_le {B : Nat} {al : Int32} {c : Nat → Int32} (h : INV B n t kd f m k al bb c) {kk i : Nat} (hi : i < 8) : yk kd kk c i ≤ B := by
  by_cases e : kd i = kk
  · exact (yk_nI h hi e).2
  · unfold yk
    rw [if_neg e]
    exact Nat.zero_le _
theorem kd_is {B : Nat} {al : Int32} {u : bU} (h : INV B n t kd f m k al bb (u 0)) {kk i : Nat} (hi : i < 8) (hkk : kk < 3) : (F2_ofBrand u (nI i) 0 = nI kk ↔ kd i = kk) := by
  obtain ⟨k1, k2, -⟩ := INV_kd h hi
  rw [show F2_ofBrand u (nI i) 0 = nI (kd i) from (c_br u (w := 0) (by omega)).trans k2, nI_eq (by omega) (by omega)]
theorem yardOf_n {B : Nat} {al : Int32} {u : bU} (h : INV B n t kd f m k al bb (u 0)) {kk : Nat} (hkk : kk < 3) : F4_yardOf u (nI kk) = nI (nsum (yk kd kk (u 0)) 8 0) := by
  unfold F4_yardOf
  rw [aL_cYard u (nI kk) 8 (8 + 1) 0 0 (by decide) (by decide)]
  have := acc_nsum (f := fun j : Nat => if F2_ofBrand u (nI j) 0 = nI kk then F2_ofBrand u (nI j) 6 else 0) (e := yk kd kk (u 0)) 8 0 0 (fun i _ hi => by
    by_cases e : kd i = kk
    · show (if F2_ofBrand u (nI i) 0 = nI kk then F2_ofBrand u (nI i) 6 else 0) = _
      rw [if_pos ((kd_is h (by omega) hkk).mpr e), show F2_ofBrand u (nI i) 6 = u 0 (17 + 12 * i + 6) from c_br u (w := 6) (by omega)]
      exact (yk_nI h (by omega) e).1
    · show (if F2_ofBrand u (nI i) 0 = nI kk then F2_ofBrand u (nI i) 6 else 0) = _
      rw [if_neg (fun z => e ((kd_is h (by omega) hkk).mp z))]
      unfold yk
      rw [if_neg e]
      rfl)
  rw [Nat.zero_add] at this
  exact this
theorem sort_loop {kk : Nat} (hkk : kk < 3) : ∀ (d fu j r B : Nat) (w : bU), j + d = 8 → d < fu → INV B n t kd f m k 0 bb (w 0) → B + 5000 * d < 1000000000 → r ≤ 5000 → r ≤ nsum (yk kd kk (w 0)) d j → ∃ c' : Nat → Int32, (L4_sortBottles_5 (nI kk) w fu j (nI r)).2 = bs w 0 c' ∧ INV (B + 5000 * d) n t kd f m k 0 bb c' ∧ nsum (yk kd kk c') 8 0 + r = nsum (yk kd kk (w 0)) 8 0 := by
  intro d
  induction d with
  | zero =>
    intro fu j r B w hj hf h hB hr hs
    obtain ⟨fu, rfl⟩ : ∃ g : Nat, fu = g + 1 := ⟨fu - 1, by omega⟩
    rw [nsum] at hs
    obtain rfl : r = 0 := by omega
    refine ⟨w 0, ?_, h, by rw [Nat.add_zero]⟩
    rw [L4_sortBottles_5, if_pos (show (8 : Int32) ≤ nI j from nI_le (a := 8) (by omega) (by omega)), bs_self]
  | succ d ih =>
    intro fu j r B w hj hf h hB hr hs
    obtain ⟨fu, rfl⟩ : ∃ g : Nat, fu = g + 1 := ⟨fu - 1, by omega⟩
    have hj8 : j < 8 := by omega
    rw [Nat.mul_succ] at hB ⊢
    generalize 5000 * d = Q at *
    have h99 : B + 5000 < 2147483648 := Nat.lt_of_le_of_lt (Nat.add_le_add_left (Nat.le_add_left 5000 Q) B) (Nat.lt_trans hB (by decide))
    rw [nsum] at hs
    rw [L4_sortBottles_5, if_neg (show ¬ (8 : Int32) ≤ nI j from nI_ge (b := 8) (by omega) (by decide))]
    by_cases e : kd j = kk
    · rw [if_pos ((kd_is h hj8 hkk).mpr e)]
      obtain ⟨ey, ly⟩ := yk_nI h hj8 e
      generalize hY : yk kd kk (w 0) j = Y at *
      rw [show F2_ofBrand w (nI j) 6 = nI Y from (c_br w (w := 6) (by omega)).trans ey, min_nat (by omega) (by omega), pk_sub (Nat.min_le_left _ _)]
      generalize hp : min r Y = p
      have hpr : p ≤ r ∧ p ≤ Y ∧ (p = r ∨ p = Y) := by omega
      have e2 : F2_addToBrand (F2_addToBrand w (nI j) 6 (-nI p)) (nI j) 1 (nI p) = bs w 0 (adds (w 0) (nSrt j p)) := by
        unfold nSrt
        simp (disch := omega) only [li1, li6, c_addBr, bs_eq, bs_bs, adds_cons, adds_nil]
      rw [e2]
      have hI : INV (B + 5000) n t kd f m k 0 bb (adds (w 0) (nSrt j p)) := by
        by_cases q : j < n
        · exact iSrt q (by rw [toI_of ey (by omega)]; omega) (by omega) h h99
        · have z := h.2.1.1 j 6 (by omega) hj8 (by decide) (by decide)
          rw [ey] at z
          have : Y = 0 := by
            have := (nI_eq (a := Y) (b := 0) (by omega) (by omega)).mp z
            exact this
          obtain rfl : p = 0 := by omega
          unfold nSrt
          rw [adds_z2]
          exact INV_up h (by omega)
      have hoth : ∀ i : Nat, i ≠ j → yk kd kk (adds (w 0) (nSrt j p)) i = yk kd kk (w 0) i := by
        intro i hi
        unfold yk nSrt
        simp (disch := omega) only [adds_cons, adds_nil, add1_ne]
      have hat : yk kd kk (adds (w 0) (nSrt j p)) j + p = yk kd kk (w 0) j := by
        have e5 : adds (w 0) (nSrt j p) (17 + 12 * j + 6) = nI (Y - p) := by
          unfold nSrt
          simp (disch := omega) only [adds_cons, adds_nil, add1_at, add1_ne]
          rw [ey, ← Int32.sub_eq_add_neg, pk_sub (by omega)]
        rw [hY]
        show (if kd j = kk then (adds (w 0) (nSrt j p) (17 + 12 * j + 6)).toInt.toNat else 0) + p = Y
        rw [if_pos e, e5, nI_toInt (by omega)]
        omega
      obtain ⟨c', g1, g2, g3⟩ := ih fu (j + 1) (r - p) (B + 5000) (bs w 0 (adds (w 0) (nSrt j p))) (by omega) (by omega) (by rw [bs_eq]; exact hI) (by omega) (by omega) (by
        rw [bs_eq, nsum_congr (g := yk kd kk (w 0)) d (j + 1) (fun i a b => hoth i (by omega))]
        omega)
      refine ⟨c', by rw [g1, bs_bs], INV_up g2 (by omega), ?_⟩
      rw [bs_eq] at g3
      have := nsum_sub (p := p) hat hoth 8 0 (by omega) (by omega)
      omega
    · rw [if_neg (fun z => e ((kd_is h hj8 hkk).mp z))]
      have hy : yk kd kk (w 0) j = 0 := by
        unfold yk
        rw [if_neg e]
      obtain ⟨c', g1, g2, g3⟩ := ih fu (j + 1) r B w (by omega) (by omega) h (by omega) hr (by omega)
      exact ⟨c', g1, INV_up g2 (by omega), g3⟩
variable {B : Nat} {u : bU}
theorem F_sort (h : INV B n t kd f m k 0 bb (u 0)) (hK : KP0 u) (h9 : B + 100000 < 200000000) {kk x : Nat} (hkk : kk < 3) (h1 : 1 ≤ x) (h2 : x ≤ 5000) (c1 : x ≤ nsum (yk kd kk (u 0)) 8 0) : ∃ u' : bU, F5_sort u (nI kk) (nI x) = (0, F4_yardOf u (nI kk) - nI x, u') ∧ GS (B + 100000) n t kd f m k bb u' := by
  obtain ⟨hKP, hk0⟩ := kp_keep hK
  have hS : nsum (yk kd kk (u 0)) 8 0 ≤ 8 * B := nsum_le 8 0 (fun i _ hi => yk_le h (by omega))
  obtain ⟨c', g1, g2, g3⟩ := sort_loop hkk 8 (8 + 1) 0 x B (F1_keep u) (by decide) (by decide) (by rw [hk0]; exact h) (by omega) h2 (by rw [hk0]; exact c1)
  rw [hk0] at g3
  have e1 : F4_sortBottles (F1_keep u) (nI kk) (nI x) = (F4_yardOf u (nI kk) - nI x, bs (F1_keep u) 0 c') := by
    unfold F4_sortBottles
    rw [g1]
    refine Prod.ext ?_ rfl
    show F4_yardOf (bs (F1_keep u) 0 c') (nI kk) = _
    rw [yardOf_n (B := B + 5000 * 8) (u := bs (F1_keep u) 0 c') (by rw [bs_eq]; exact g2) hkk, bs_eq, yardOf_n h hkk, pk_sub c1]
    congr 1
    omega
  refine ⟨bs (F1_keep u) 0 c', ?_, GS_of (INV_up g2 (by omega)) hKP⟩
  unfold F5_sort
  rw [if_pos (nk2 hkk), if_pos (show F5_needRange (nI x) 1 5000 = 0 from v_rng (l := 1) (h := 5000) h1 h2 (by decide)), if_neg ?_, e1]
  rw [yardOf_n h hkk]
  exact nI_nlt c1 (by omega)
theorem SW_sw2 {c : Nat → Int32} (h : SW c) {b d x : Nat} (hb : b < 8) (hd : d < 8) (hne : b ≠ d) : SW (adds c (nSw2 b d x)) := by
  intro a e ha he
  unfold nSw2
  rw [adds_cons, adds_cons, adds_nil]
  dsimp only
  have hh := h a e ha he
  by_cases q1 : a = b ∧ e = d
  · obtain ⟨rfl, rfl⟩ := q1
    simp (disch := omega) only [add1_at, add1_ne]
    rw [hh]
    grind
  · by_cases q2 : a = d ∧ e = b
    · obtain ⟨rfl, rfl⟩ := q2
      simp (disch := omega) only [add1_at, add1_ne]
      rw [hh]
      grind
    · rw [add1_ne (by omega), add1_ne (by omega), add1_ne (by omega), add1_ne (by omega)]
      exact hh
theorem F_swap (h : INV B n t kd f m k 0 bb (u 0)) (hK : KP0 u) (h9 : B + 100000 < 2147483648) {b d x : Nat} (hb : b < n) (hd : d < n) (hne : b ≠ d) (hkd : kd b = kd d) (h1 : 1 ≤ x) (h2 : x ≤ 5000) (c1 : (x : Int) ≤ (u 0 (17 + 12 * b + 1)).toInt) : ∃ u' : bU, F5_swap u (nI b) (nI d) (nI x) = (0, u' 0 (281 + 8 * b + d), u') ∧ u' 0 (17 + 12 * b + 1) = u 0 (17 + 12 * b + 1) - nI x ∧ u' 0 (17 + 12 * d + 1) = u 0 (17 + 12 * d + 1) + nI x ∧ u' 0 (281 + 8 * b + d) = u 0 (281 + 8 * b + d) + nI x ∧ GS (B + 100000) n t kd f m k bb u' := by
  obtain ⟨hn, ht, -, -⟩ := h.1.1
  have hb8 : b < 8 := by omega
  have hd8 : d < 8 := by omega
  obtain ⟨k1, k2, -⟩ := INV_kd h hb8
  obtain ⟨-, k3, -⟩ := INV_kd h hd8
  obtain ⟨hKP, hk0⟩ := kp_keep hK
  have hI := iSwp hb hd hne c1 h2 h h9
  refine ⟨bs (F1_keep u) 0 (adds (adds (u 0) (nSwp b d x)) (nSw2 b d x)), ?_, ?_, ?_, ?_, GS_of (INV_far hI (fun j hj => ?_) (SW_sw2 hI.2.2.2.2.1 hb8 hd8 hne)) hKP⟩
  · unfold F5_swap
    rw [if_pos (INV_nb h hb), if_pos (INV_nb h hd), if_neg (nI_ne hne (by omega) (by omega)), if_pos ?_, if_pos (show F5_needRange (nI x) 1 5000 = 0 from v_rng (l := 1) (h := 5000) h1 h2 (by decide)), if_neg ?_, f_Swp hb8 hd8 hne, hk0, bs_eq]
    · refine Prod.ext rfl (Prod.ext ?_ rfl)
      show u 0 (281 + 8 * b + d) + nI x = adds (adds (u 0) (nSwp b d x)) (nSw2 b d x) (281 + 8 * b + d)
      unfold nSwp nSw2
      simp (disch := omega) only [adds_cons, adds_nil, add1_at, add1_ne]
    · rw [show F2_ofBrand u (nI b) 1 = u 0 (17 + 12 * b + 1) from c_br u (w := 1) (by omega), Int32.not_lt]
      exact le_nI c1
    · rw [show F2_ofBrand u (nI b) 0 = nI (kd b) from (c_br u (w := 0) (by omega)).trans k2, show F2_ofBrand u (nI d) 0 = nI (kd d) from (c_br u (w := 0) (by omega)).trans k3, hkd]
  · rw [bs_eq]
    unfold nSwp nSw2
    simp (disch := omega) only [adds_cons, adds_nil, add1_at, add1_ne, Int32.sub_eq_add_neg]
  · rw [bs_eq]
    unfold nSwp nSw2
    simp (disch := omega) only [adds_cons, adds_nil, add1_at, add1_ne]
  · rw [bs_eq]
    unfold nSwp nSw2
    simp (disch := omega) only [adds_cons, adds_nil, add1_at, add1_ne]
  · unfold nSw2
    rw [adds_cons, adds_cons, adds_nil]
    rw [add1_ne (by dsimp only; omega), add1_ne (by dsimp only; omega)]
theorem swaps_ok (h : INV B n t kd f m k 0 bb (u 0)) (hK : KP0 u) (h9 : B + 200000 < 2147483648) {b d x : Nat} (hb : b < n) (hd : d < n) (hne : b ≠ d) (hkd : kd b = kd d) (h1 : 1 ≤ x) (h2 : x ≤ 40) (c1 : (x : Int) ≤ (u 0 (17 + 12 * b + 1)).toInt) : ∃ u' : bU, FL_swaps u (nI b) (nI d) (nI x) = (0, 1, u') ∧ GS (B + 200000) n t kd f m k bb u' := by
  obtain ⟨hn, ht, -, -⟩ := h.1.1
  have hb8 : b < 8 := by omega
  have hd8 : d < 8 := by omega
  have h98 : B + 100000 + 100000 < 2147483648 := by rw [Nat.add_assoc]; exact h9
  obtain ⟨u1, e1, e2, e3, -, e4⟩ := F_swap h hK (by omega) hb hd hne hkd h1 (by omega) c1
  have hE : rg B (u 0 (17 + 12 * d + 1)) := h.2.2.1 _ (pP_b hd8 (by omega))
  have hx2 : (1 : Int32) + nI x / 2 = nI (1 + x / 2) := by rw [show (2 : Int32) = nI 2 from rfl, pk_div (by omega) (by decide) (by decide)]; exact nI_add 1 (x / 2)
  have hc2 : ((1 + x / 2 : Nat) : Int) ≤ (u1 0 (17 + 12 * d + 1)).toInt := by
    rw [e3]
    have e5 : (nI x).toInt = (x : Int) := nI_toInt (by omega)
    have a1 := hE.1
    have a2 := hE.2
    rw [iAdd (by rw [e5]; omega) (by rw [e5]; omega), e5]
    omega
  obtain ⟨u2, f1, f2, f3, f5, f4⟩ := F_swap e4.1 (KP_0 e4.2) h98 hd hb (fun z => hne z.symm) hkd.symm (x := 1 + x / 2) (by omega) (by omega) hc2
  have hSW : u1 0 (281 + 8 * d + b) = -u1 0 (281 + 8 * b + d) := e4.1.2.2.2.2.1 d b hd8 hb8
  refine ⟨u2, ?_, GS_up f4 (Nat.le_of_eq (Nat.add_assoc B 100000 100000))⟩
  unfold FL_swaps
  rw [hx2, if_pos (INV_nb h hd), e1]
  dsimp only
  rw [if_pos rfl, if_pos (INV_nb e4.1 hd), v_b1 hd8, v_b1 hd8, if_pos e3, f1]
  dsimp only
  rw [if_pos rfl, if_pos ?_, if_pos (INV_nb f4.1 hd), v_b1 hd8, if_pos ?_]
  · rw [f2, e3]
  · rw [f5, hSW, Int32.sub_eq_add_neg, Int32.add_comm]
end SR

-- COLLECT: what is done, which shop is best, the fifth case of acts (own text)
theorem nsum_diff {e r : Nat → Nat} (h : ∀ i : Nat, r i ≤ e i) : ∀ (d j : Nat), nsum (fun i => e i - r i) d j + nsum r d j = nsum e d j := by
  intro d
  induction d with
  | zero => intro j; rfl
  | succ d ih =>
    intro j
    rw [nsum, nsum, nsum]
    have h1 := ih (j + 1)
    have h2 := h j
    omega
theorem nsum_at {e : Nat → Nat} {i : Nat} : ∀ (d j : Nat), j ≤ i → i < j + d → e i ≤ nsum e d j := by
  intro d
  induction d with
  | zero => intro j a b; omega
  | succ d ih =>
    intro j a b
    rw [nsum]
    by_cases q : j = i
    · subst q; omega
    · have := ih (j + 1) (by omega) (by omega)
      omega
def dk (kk : Nat) : Nat := if kk = 0 then 8 else 15
section CL
variable {n t : Nat} {kd : Nat → Nat} {f : Nat} {m k : Int32} {bb : Nat → Int32}
theorem gd_dk {i kk : Nat} (e : kd i = kk) : gd kd i = nI (dk kk) := by
  unfold gd dpo dk
  rw [e]
theorem col_loop {kk s : Nat} (hkk : kk < 3) (hs : s < t) {e r : Nat → Nat} (hre : ∀ i : Nat, r i ≤ e i) (hp12 : ∀ i : Nat, i < 8 → e i - r i ≤ 12) (he9 : ∀ i : Nat, i < 8 → e i < 2147483648) : ∀ (d fu j B : Nat) (al : Int32) (w : bU), j + d = 8 → d < fu → INV B n t kd f m k al bb (w 0) → B + 5000 * d < 1000000000 → (∀ i : Nat, i < 8 → w 1 i = nI (r i)) → (∀ i : Nat, j ≤ i → i < 8 → (kd i = kk → w 0 (113 + 28 * s + (20 + i)) = nI (e i)) ∧ (¬ kd i = kk → e i = 0)) → ∃ c' : Nat → Int32, L4_collectCrates_22 (nI s) (nI kk) w fu j = bs w 0 c' ∧ INV (B + 5000 * d) n t kd f m k (al + nI (nsum (fun i => e i - r i) d j) * nI (dk kk)) bb c' ∧ (∀ i : Nat, i < 8 → c' (17 + 12 * i + 6) = w 0 (17 + 12 * i + 6) + (if j ≤ i then nI (e i - r i) else 0)) ∧ c' (113 + 28 * s + 1) = w 0 (113 + 28 * s + 1) := by
  intro d
  induction d with
  | zero =>
    intro fu j B al w hj hf h hB hr hE
    obtain ⟨fu, rfl⟩ : ∃ g : Nat, fu = g + 1 := ⟨fu - 1, by omega⟩
    refine ⟨w 0, ?_, ?_, fun i hi => ?_, rfl⟩
    · rw [L4_collectCrates_22, if_pos (show (8 : Int32) ≤ nI j from nI_le (a := 8) (by omega) (by omega)), bs_self]
    · rw [nsum, show al + nI 0 * nI (dk kk) = al by rw [pk_mul, Nat.zero_mul]; exact Int32.add_zero al]
      exact h
    · rw [if_neg (by omega), Int32.add_zero]
  | succ d ih =>
    intro fu j B al w hj hf h hB hr hE
    obtain ⟨fu, rfl⟩ : ∃ g : Nat, fu = g + 1 := ⟨fu - 1, by omega⟩
    obtain ⟨hn, ht, -, -⟩ := h.1.1
    have hj8 : j < 8 := by omega
    have hs6 : s < 6 := by omega
    rw [Nat.mul_succ] at hB ⊢
    generalize 5000 * d = Q at *
    have h99 : B + 5000 < 2147483648 := Nat.lt_of_le_of_lt (Nat.add_le_add_left (Nat.le_add_left 5000 Q) B) (Nat.lt_trans hB (by decide))
    rw [L4_collectCrates_22, if_neg (show ¬ (8 : Int32) ≤ nI j from nI_ge (b := 8) (by omega) (by decide)), nsum]
    obtain ⟨hE1, hE2⟩ := hE j (Nat.le_refl _) hj8
    by_cases ekd : kd j = kk
    · rw [if_pos ((kd_is h hj8 hkk).mpr ekd)]
      have ee := hE1 ekd
      have e9 := he9 j hj8
      rw [picked_n hs6 hj8 ee (hr j hj8) (hre j)]
      have hp := hp12 j hj8
      have hle : e j - r j ≤ e j := Nat.sub_le _ _
      generalize hpp : e j - r j = p at *
      have e2 : F2_addToBrand (F2_addToShop w (nI s) (20 + nI j) (-nI p)) (nI j) 6 (nI p) = bs w 0 (adds (w 0) (nMov j s p)) := by
        unfold nMov
        simp (disch := omega) only [li6, li20, nI_add, c_addBr, c_addSh, bs_eq, bs_bs, adds_cons, adds_nil]
      rw [e2]
      have hI : INV (B + 5000) n t kd f m k (al + nI p * nI (dk kk)) bb (adds (w 0) (nMov j s p)) := by
        by_cases q : j < n
        · have := iMov q hs (p := p) (by rw [toI_of ee e9]; omega) (by omega) h h99
          rw [gd_dk ekd] at this
          exact this
        · have z := (h.2.1.2.2.1 s j hs6 (by omega) hj8).2
          rw [ee] at z
          have z2 : e j = 0 := (nI_eq (a := e j) (b := 0) e9 (by decide)).mp z
          obtain rfl : p = 0 := by omega
          unfold nMov
          rw [adds_z2, show al + nI 0 * nI (dk kk) = al by rw [pk_mul, Nat.zero_mul]; exact Int32.add_zero al]
          exact INV_up h (Nat.le_add_right _ _)
      obtain ⟨c', g1, g2, g3, g4⟩ := ih fu (j + 1) (B + 5000) (al + nI p * nI (dk kk)) (bs w 0 (adds (w 0) (nMov j s p))) (by omega) (by omega) (by rw [bs_eq]; exact hI) (by omega) (fun i hi => by rw [bs_ne _ _ (by decide)]; exact hr i hi) (fun i a b => by
        obtain ⟨x1, x2⟩ := hE i (by omega) b
        refine ⟨fun x3 => ?_, x2⟩
        rw [bs_eq, ← x1 x3]
        unfold nMov
        simp (disch := omega) only [adds_cons, adds_nil, add1_ne])
      refine ⟨c', by rw [g1, bs_bs], ?_, fun i hi => ?_, ?_⟩
      · rw [show al + nI (p + nsum (fun i => e i - r i) d (j + 1)) * nI (dk kk) = al + nI p * nI (dk kk) + nI (nsum (fun i => e i - r i) d (j + 1)) * nI (dk kk) by
          rw [← nI_add, Int32.add_mul, Int32.add_assoc]]
        exact INV_up g2 (by omega)
      · rw [g3 i hi, bs_eq]
        by_cases q : i = j
        · subst q
          rw [if_neg (by omega), if_pos (Nat.le_refl _), hpp, Int32.add_zero]
          unfold nMov
          simp (disch := omega) only [adds_cons, adds_nil, add1_at, add1_ne]
        · by_cases q2 : j ≤ i
          · rw [if_pos (by omega), if_pos q2]
            unfold nMov
            simp (disch := omega) only [adds_cons, adds_nil, add1_ne]
          · rw [if_neg (by omega), if_neg q2]
            unfold nMov
            simp (disch := omega) only [adds_cons, adds_nil, add1_ne]
      · rw [g4, bs_eq]
        unfold nMov
        simp (disch := omega) only [adds_cons, adds_nil, add1_ne]
    · rw [if_neg (fun z => ekd ((kd_is h hj8 hkk).mp z))]
      have hz : e j - r j = 0 := by rw [hE2 ekd]; exact Nat.zero_sub _
      obtain ⟨c', g1, g2, g3, g4⟩ := ih fu (j + 1) B al w (by omega) (by omega) h (by omega) hr (fun i a b => hE i (by omega) b)
      refine ⟨c', g1, ?_, fun i hi => ?_, g4⟩
      · rw [hz, Nat.zero_add]
        exact INV_up g2 (by omega)
      · rw [g3 i hi]
        by_cases q : i = j
        · subst q
          rw [if_neg (by omega), if_pos (Nat.le_refl _), hz]
          rfl
        · by_cases q2 : j ≤ i
          · rw [if_pos (by omega), if_pos q2]
          · rw [if_neg (by omega), if_neg q2]
variable {B : Nat} {v : bU}
theorem F_collect (h : INV B n t kd f m k 0 bb (v 0)) (hK : KP0 v) (hB : B < 50000000) {kk s C : Nat} (hkk : kk < 2) (hs : s < t) (hN : 12 ≤ nsum (ek kd kk s (v 0)) 8 0) (eC : v 0 (113 + 28 * s + 1) = nI C) (hC1 : 1 ≤ C) (hC : C < 2147483648) : ∃ u' : bU, F5_collect v (nI s) (nI kk) 1 = (0, nI (12 * dk kk + 150), u') ∧ GS (B + 5000 * 8 + 100000) n t kd f m k bb u' ∧ (∀ i : Nat, i < 8 → u' 0 (17 + 12 * i + 6) = v 0 (17 + 12 * i + 6) + nI (ek kd kk s (v 0) i - rst kd kk s (v 0) i)) ∧ F5_count u' 8 = F5_count v 8 + 12 := by
  obtain ⟨hn, ht, -, -⟩ := h.1.1
  have hs6 : s < 6 := by omega
  have hkk3 : kk < 3 := by omega
  obtain ⟨hKP, hk0⟩ := kp_keep hK
  obtain ⟨q1, q2, -, q4, -⟩ := h.1.2.2
  have hdk : dk kk ≤ 15 := by unfold dk; split <;> omega
  have hset : v 0 (11 + kk) = nI (dk kk) := by
    have : kk = 0 ∨ kk = 1 := by omega
    rcases this with rfl | rfl
    · exact q1
    · exact q2
  have hre : ∀ i : Nat, rst kd kk s (v 0) i ≤ ek kd kk s (v 0) i := fun i => pkN_le 12 _ i
  have hsum : nsum (fun i => ek kd kk s (v 0) i - rst kd kk s (v 0) i) 8 0 = 12 := by
    have h1 := nsum_diff hre 8 0
    have h2 : nsum (rst kd kk s (v 0)) 8 0 + 12 = nsum (ek kd kk s (v 0)) 8 0 := pkN_s 12 _ hN
    omega
  have hp12 : ∀ i : Nat, i < 8 → ek kd kk s (v 0) i - rst kd kk s (v 0) i ≤ 12 := fun i hi => by
    have := nsum_at (e := fun i => ek kd kk s (v 0) i - rst kd kk s (v 0) i) (i := i) 8 0 (Nat.zero_le _) (by omega)
    rw [hsum] at this
    exact this
  have hP0 : F4_pickEmpties (F1_keep v) (nI s) (nI kk) (12 * 1) 0 = v 0 := (fr_pickEmpties _ _ _ _ (by decide)).trans hk0
  have hP1 : ∀ i : Nat, i < 8 → F4_pickEmpties (F1_keep v) (nI s) (nI kk) (12 * 1) 1 i = nI (rst kd kk s (v 0) i) := by
    intro i hi
    rw [pick_row (u := F1_keep v) (by rw [hk0]; exact h) (by omega) hs6 hkk3 i hi, hk0]
  have hP11 : F4_pickEmpties (F1_keep v) (nI s) (nI kk) (12 * 1) 11 = F1_keep v 11 := fr_pickEmpties _ _ _ _ (by decide)
  generalize hPe : F4_pickEmpties (F1_keep v) (nI s) (nI kk) (12 * 1) = P at *
  obtain ⟨c', g1, g2, g3, g4⟩ := col_loop hkk3 hs hre hp12 (fun i hi => by have := ek_le (kk := kk) h hs6 hi; omega) 8 (8 + 1) 0 B 0 P (by decide) (by decide) (by rw [hP0]; exact h) (by omega) hP1 (fun i _ hi => ⟨fun ekd => by rw [hP0]; exact ek_nI h hs6 hi ekd, fun ekd => by unfold ek; rw [if_neg ekd]⟩)
  rw [hP0] at g3 g4
  rw [hsum] at g2
  have hcd : F4_crateDeposits (F1_keep v) (nI kk) = nI (12 * dk kk + 150) := by
    rw [c_dep _ (by omega), hk0, hset, q4, show (12 : Int32) = nI 12 from rfl, pk_mul, nI_add]
  have hcol : F4_collectCrates (F1_keep v) (nI s) (nI kk) 1 = (nI (12 * dk kk + 150), bs P 0 (adds c' (nCol s 1 (12 * dk kk + 150)))) := by
    unfold F4_collectCrates nCol
    rw [hcd, hPe, g1, Int32.one_mul]
    simp (disch := omega) only [li0, li1, li2, li4, nI_add, d_addSh, d_addAll, adds_cons, adds_nil]
  have hI := iCol hs (x := 1) (D := 12 * dk kk + 150) (by rw [g4, toI_of eC hC]; omega) (by decide) (by omega) g2 (by omega)
  rw [show (0 : Int32) + nI 12 * nI (dk kk) + nI 1 * nI 150 + -nI (12 * dk kk + 150) = 0 by
    rw [← nI_add, ← pk_mul, show nI 1 = 1 from rfl]; generalize nI 12 * nI (dk kk) = X; grind] at hI
  have hrow : (bs P 0 (adds c' (nCol s 1 (12 * dk kk + 150)))) 0 = adds c' (nCol s 1 (12 * dk kk + 150)) := bs_eq _ _ _
  have hyard : ∀ i : Nat, i < 8 → adds c' (nCol s 1 (12 * dk kk + 150)) (17 + 12 * i + 6) = v 0 (17 + 12 * i + 6) + nI (ek kd kk s (v 0) i - rst kd kk s (v 0) i) := by
    intro i hi
    have g5 := g3 i hi
    rw [if_pos (Nat.zero_le _)] at g5
    rw [← g5]
    unfold nCol
    simp (disch := omega) only [adds_cons, adds_nil, add1_ne]
  refine ⟨bs P 0 (adds c' (nCol s 1 (12 * dk kk + 150))), ?_, ⟨by rw [bs_eq]; exact hI, ?_⟩, fun i hi => by rw [hrow]; exact hyard i hi, ?_⟩
  · unfold F5_collect
    rw [if_pos (INV_ns h hs), if_pos (nk2 hkk3), if_pos (by decide), if_pos ?_, hcol]
    rw [F_cre h (by omega) hs6 hkk3 eC hC, if_pos hN, if_pos hC1]
  · obtain ⟨l, kp, a1, a2, a3, a4, a5⟩ := hKP
    exact ⟨l, kp, a1, a2, a3, by rw [bs_ne _ _ (by decide), hP11]; exact a4, by rw [bs_ne _ _ (by decide), hP11]; exact a5⟩
  · rw [v_n8, v_n8, hrow]
    show acc (fun i => adds c' (nCol s 1 (12 * dk kk + 150)) (17 + 12 * i + 6) * 1) 8 0 0 = acc (fun i => v 0 (17 + 12 * i + 6) * 1) 8 0 0 + 12
    rw [acc_congr (g := fun i => v 0 (17 + 12 * i + 6) * 1 + nI (ek kd kk s (v 0) i - rst kd kk s (v 0) i)) 8 0 0 (fun i _ hi => by
      show adds c' (nCol s 1 (12 * dk kk + 150)) (17 + 12 * i + 6) * 1 = _
      rw [hyard i (by omega), Int32.mul_one, Int32.mul_one])]
    have h1 := acc_plus (fun i => v 0 (17 + 12 * i + 6) * 1) (fun i => nI (ek kd kk s (v 0) i - rst kd kk s (v 0) i)) 8 0 0 0
    rw [Int32.zero_add] at h1
    rw [h1]
    have h2 := acc_nsum (f := fun i => nI (ek kd kk s (v 0) i - rst kd kk s (v 0) i)) (e := fun i => ek kd kk s (v 0) i - rst kd kk s (v 0) i) 8 0 0 (fun i _ _ => rfl)
    rw [Nat.zero_add, hsum] at h2
    rw [show acc (fun i => nI (ek kd kk s (v 0) i - rst kd kk s (v 0) i)) 8 0 0 = nI 12 from h2]
    rfl
theorem best_loop {kk : Nat} {q : Nat → Nat} (hq : ∀ i : Nat, i < 6 → F4_mostCollectable v (nI i) (nI kk) = nI (q i) ∧ q i ≤ 50) : ∀ (d fu j : Nat) (x : Int32) (y : Nat), j + d = 6 → d < fu → y ≤ 50 → (¬ x < 0 ∨ (y = 0 ∧ ∃ i : Nat, j ≤ i ∧ i < 6 ∧ 1 ≤ q i)) → ¬ (L4_bestToCollect_7 v (nI kk) fu j x (nI y)).1 < 0 := by
  intro d
  induction d with
  | zero =>
    intro fu j x y hj hf hy h
    obtain ⟨fu, rfl⟩ : ∃ g : Nat, fu = g + 1 := ⟨fu - 1, by omega⟩
    rw [L4_bestToCollect_7, if_pos (show (6 : Int32) ≤ nI j from nI_le (a := 6) (by omega) (by omega))]
    rcases h with h | ⟨_, i, a, b, _⟩
    · exact h
    · omega
  | succ d ih =>
    intro fu j x y hj hf hy h
    obtain ⟨fu, rfl⟩ : ∃ g : Nat, fu = g + 1 := ⟨fu - 1, by omega⟩
    obtain ⟨e1, e2⟩ := hq j (by omega)
    rw [L4_bestToCollect_7, if_neg (show ¬ (6 : Int32) ≤ nI j from nI_ge (b := 6) (by omega) (by decide)), e1]
    by_cases c : q j ≤ y
    · rw [if_pos ((nI_leI (by omega) (by omega)).mpr c)]
      refine ih fu (j + 1) x y (by omega) (by omega) hy ?_
      rcases h with h | ⟨h1, i, a, b, g⟩
      · exact Or.inl h
      · refine Or.inr ⟨h1, i, ?_, b, g⟩
        by_cases z : i = j
        · subst z; omega
        · omega
    · rw [if_neg (fun z => c ((nI_leI (by omega) (by omega)).mp z))]
      exact ih fu (j + 1) (nI j) (q j) (by omega) (by omega) e2 (Or.inl (nI_pos (by omega)))
theorem best_ok (h : INV B n t kd f m k 0 bb (v 0)) (hB : B < 50000000) {kk s C : Nat} (hkk : kk < 3) (hs : s < 6) (hN : 12 ≤ nsum (ek kd kk s (v 0)) 8 0) (eC : v 0 (113 + 28 * s + 1) = nI C) (hC1 : 1 ≤ C) (hC : C < 2147483648) : ¬ F5_bestShop v (nI kk) < 0 := by
  have hq : ∀ i : Nat, i < 6 → F4_mostCollectable v (nI i) (nI kk) = nI (min (min (nsum (ek kd kk i (v 0)) 8 0 / 12) (v 0 (113 + 28 * i + 1)).toInt.toNat) 50) ∧ min (min (nsum (ek kd kk i (v 0)) 8 0 / 12) (v 0 (113 + 28 * i + 1)).toInt.toNat) 50 ≤ 50 := by
    intro i hi
    refine ⟨?_, by omega⟩
    have hN2 := h.2.2.1 _ (pP_s hi (w := 1) (by omega))
    have hS := ek_sum (kk := kk) h hi
    obtain ⟨a, a1, a2⟩ := rg_nat hN2
    have a3 : (v 0 (113 + 28 * i + 1)).toInt.toNat = a := by rw [toI_of a2 (by omega)]; rfl
    unfold F4_mostCollectable
    rw [empt_n h hi hkk, show F2_ofShop v (nI i) 1 = nI a from (c_sh v (w := 1) (by omega)).trans a2, a3, show (12 : Int32) = nI 12 from rfl, pk_div (by omega) (by decide) (by decide), min_nat (by omega) (by omega), show (50 : Int32) = nI 50 from rfl, min_nat (by omega) (by decide)]
  have := best_loop hq 6 (6 + 1) 0 (-1) 0 (by decide) (by decide) (by decide) (Or.inr ⟨rfl, s, Nat.zero_le _, hs, by
    have : (v 0 (113 + 28 * s + 1)).toInt.toNat = C := by rw [toI_of eC hC]; rfl
    rw [this]
    omega⟩)
  exact this
end CL
section A5
variable {B n t : Nat} {kd : Nat → Nat} {f : Nat} {m k : Int32} {bb : Nat → Int32} {u : bU}
theorem act5 (h : GS B n t kd f m k bb u) (h9 : B + 300000 < 2147483648) (h8 : B < 50000000) {b s x c y d : Nat} {a2 zz : Int32} (hb : b < n) (hs : s < t) (hx1 : 1 ≤ x) (hx : x ≤ 40) (hc1 : 1 ≤ c) (hc : c ≤ 3) (hy1 : 1 ≤ y) (hy : y ≤ 5) (hd : d < n) (ea : a2 &&& 7 = nI 5) : ∃ u' : bU, FL_acts u a2 zz (nI b) (nI s) (nI x) (nI c) (nI y) (nI d) = (0, 1, u') ∧ GS (B + 300000) n t kd f m k bb u' := by
  obtain ⟨hI, hK⟩ := h
  have hK0 := KP_0 hK
  obtain ⟨hn, ht, -, -⟩ := hI.1.1
  have hb8 : b < 8 := by omega
  have hs6 : s < 6 := by omega
  have hN := hI.2.2.1
  rw [FL_acts, ea, if_neg (show ¬ nI 5 = (0 : Int32) by decide), if_neg (show ¬ nI 5 = (1 : Int32) by decide), if_neg (show ¬ nI 5 = (2 : Int32) by decide), if_neg (show ¬ nI 5 = (3 : Int32) by decide), if_neg (show ¬ nI 5 = (4 : Int32) by decide), if_pos (show nI 5 = (5 : Int32) from rfl)]
  obtain ⟨k1, k2, -⟩ := INV_kd hI hb8
  have hk2 : kd b < 2 := (hI.1.2.1 b hb8).1
  obtain ⟨C, hC, eC⟩ := rg_nat (hN _ (pP_s hs6 (w := 1) (by omega)))
  have eR := F_cre hI (by omega) hs6 k1 eC (by omega)
  have eB : F2_ofBrand u (nI b) 0 = nI (kd b) := (c_br u (w := 0) (by omega)).trans k2
  rw [v_kind u hb8, k2]
  by_cases q : 12 ≤ nsum (ek kd (kd b) s (u 0)) 8 0 ∧ 1 ≤ C
  · obtain ⟨q1, q2⟩ := q
    rw [if_pos q1, if_pos q2] at eR
    have eW : F5_collected u (nI s) (nI b) 1 = (F4_pickedOf (F4_pickEmpties u (nI s) (nI (kd b)) (12 * 1)) (nI s) (nI b), F4_pickEmpties u (nI s) (nI (kd b)) (12 * 1)) := by
      unfold F5_collected F4_wouldCollect
      rw [eB, eR, if_pos rfl]
    have hP0 : F4_pickEmpties u (nI s) (nI (kd b)) (12 * 1) 0 = u 0 := fr_pickEmpties _ _ _ _ (by decide)
    have hP1 := pick_row hI (by omega) hs6 k1
    have hP11 : F4_pickEmpties u (nI s) (nI (kd b)) (12 * 1) 11 = u 11 := fr_pickEmpties _ _ _ _ (by decide)
    rw [eW]
    dsimp only
    generalize F4_pickEmpties u (nI s) (nI (kd b)) (12 * 1) = v at *
    have hIv : INV B n t kd f m k 0 bb (v 0) := by rw [hP0]; exact hI
    have hKv : KP0 v := by
      obtain ⟨l, kp, a1, a2, a3, a4⟩ := hK0
      exact ⟨l, kp, a1, a2, by rw [hP11]; exact a3, by rw [hP11]; exact a4⟩
    have eRv : F5_whyNotCollect v (nI s) (nI (kd b)) 1 = 0 := by
      unfold F5_whyNotCollect
      rw [F_cre hIv (by omega) hs6 k1 (by rw [hP0]; exact eC) (by omega), hP0, if_pos q1, if_pos q2]
    have hwill : F4_pickedOf v (nI s) (nI b) = nI (ek kd (kd b) s (u 0) b - rst kd (kd b) s (u 0) b) := picked_n hs6 hb8 (by rw [hP0]; exact ek_nI hI hs6 hb8 rfl) (hP1 b hb8) (pkN_le 12 _ b)
    obtain ⟨u', e1, e2, e3, e4⟩ := F_collect hIv hKv (by omega) hk2 hs (by rw [hP0]; exact q1) (by rw [hP0]; exact eC) q2 (by omega)
    rw [if_pos (INV_nb hIv hb), if_pos (INV_ns hIv hs), if_pos (nk2 k1), eRv, if_pos (by decide), if_neg (best_ok hIv (by omega) k1 hs6 (by rw [hP0]; exact q1) (by rw [hP0]; exact eC) q2 (by omega)), e1]
    dsimp only
    obtain ⟨g1, g2, -, g4, -⟩ := e2.1.1.2.2
    have hset : F5_setting u' (nI (kd b)) = nI (dk (kd b)) := by
      rw [v_set (by omega)]
      have : kd b = 0 ∨ kd b = 1 := by omega
      rcases this with z | z <;> rw [z]
      · exact g1
      · exact g2
    rw [if_pos rfl, if_pos (v_set3 k1 rfl), hset, v_st3, g4, if_pos ?_, if_pos ?_, if_pos (INV_nb e2.1 hb), v_b6 hb8, v_b6 hb8, if_pos ?_]
    · exact ⟨u', rfl, GS_up e2 (by omega)⟩
    · rw [e3 b hb8, hwill, hP0]
    · rw [e4, v_n8, v_n8, hP0]
    · rw [show (12 : Int32) = nI 12 from rfl, pk_mul, nI_add]
  · have hr : ∃ r : Nat, 1 ≤ r ∧ r ≤ 2 ∧ F4_collectReason u (nI s) (nI (kd b)) 1 = nI r := by
      rw [eR]
      by_cases q1 : 12 ≤ nsum (ek kd (kd b) s (u 0)) 8 0
      · rw [if_pos q1, if_neg (fun q2 => q ⟨q1, q2⟩)]
        exact ⟨2, by decide, by decide, rfl⟩
      · rw [if_neg q1]
        exact ⟨1, by decide, by decide, rfl⟩
    obtain ⟨r, r1, r2, er⟩ := hr
    have eW : F5_collected u (nI s) (nI b) 1 = (-1, u) := by
      unfold F5_collected F4_wouldCollect
      rw [eB, er, if_neg (nI_ne0 (by omega) (by omega))]
    rw [eW]
    dsimp only
    rw [if_pos (INV_nb hI hb), if_pos (INV_ns hI hs), if_pos (nk2 k1), show F5_whyNotCollect u (nI s) (nI (kd b)) 1 = nI r from er, if_neg (nI_nle (by omega) (by omega)), if_pos rfl]
    exact ⟨u, rfl, INV_up hI (by omega), hK⟩
end A5

-- what is done, as lists of additions: the accounts, and the invariant (by program)
theorem n12 : nI 12 = 12 := rfl
def nFil (b y w : Nat) : List (Nat × Int32) := [(17 + 12 * b + 1, -nI (y + w)), (17 + 12 * b + 2, nI y), (17 + 12 * b + 9, nI w), (17 + 12 * b + 10, nI (y + w))]
theorem eFil {kd : Nat → Nat} {m k al : Int32} {bb c : Nat → Int32} {b y w : Nat} (hb8 : b < 8) (h : EQ (gd kd) (nI 150) m k al bb c) : EQ (gd kd) (nI 150) m k al bb (adds c (nFil b y w)) := by
  obtain ⟨e1, e2, e3, e4, e5, e6, e7⟩ := h
  unfold nFil
  simp only [adds_cons, adds_nil]
  refine ⟨fun x9 hx9 => ?_, ?_, ?_, ?_, ?_, ?_, ?_⟩
  · have e := e1 x9 hx9
    unfold Ab at e ⊢
    by_cases q : b = x9
    · subst q
      simp (disch := omega) only [add1_at, add1_ne, Ss_at, Ss_ne, Ss_lo, Sb_at, Sb_ne, Sb_lo, Sb_hi, Sd_at, Sd_ne, Sd_lo]
      first | with_reducible exact e | (rw [← e] <;> (try simp only [← nI_add]) <;> (clear e1 e2 e3 e4 e5 e6 e7 e; grind))
    · simp (disch := omega) only [add1_at, add1_ne, Ss_at, Ss_ne, Ss_lo, Sb_at, Sb_ne, Sb_lo, Sb_hi, Sd_at, Sd_ne, Sd_lo]
      with_reducible exact e
  · skip
    simp (disch := omega) only [add1_at, add1_ne, Ss_at, Ss_ne, Ss_lo, Sb_at, Sb_ne, Sb_lo, Sb_hi, Sd_at, Sd_ne, Sd_lo]
    first | with_reducible exact e2 | (rw [e2] <;> (try simp only [← nI_add]) <;> (clear e1 e2 e3 e4 e5 e6 e7; grind))
  · skip
    simp (disch := omega) only [add1_at, add1_ne, Ss_at, Ss_ne, Ss_lo, Sb_at, Sb_ne, Sb_lo, Sb_hi, Sd_at, Sd_ne, Sd_lo]
    first | with_reducible exact e3 | (rw [e3] <;> (try simp only [← nI_add]) <;> (clear e1 e2 e3 e4 e5 e6 e7; grind))
  · skip
    simp (disch := omega) only [add1_at, add1_ne, Ss_at, Ss_ne, Ss_lo, Sb_at, Sb_ne, Sb_lo, Sb_hi, Sd_at, Sd_ne, Sd_lo]
    first | with_reducible exact e4 | (rw [e4] <;> (try simp only [← nI_add]) <;> (clear e1 e2 e3 e4 e5 e6 e7; grind))
  · skip
    simp (disch := omega) only [add1_at, add1_ne, Ss_at, Ss_ne, Ss_lo, Sb_at, Sb_ne, Sb_lo, Sb_hi, Sd_at, Sd_ne, Sd_lo]
    first | with_reducible exact e5 | (rw [← e5] <;> (try simp only [← nI_add]) <;> (clear e1 e2 e3 e4 e5 e6 e7; grind))
  · skip
    simp (disch := omega) only [add1_at, add1_ne, Ss_at, Ss_ne, Ss_lo, Sb_at, Sb_ne, Sb_lo, Sb_hi, Sd_at, Sd_ne, Sd_lo]
    first | with_reducible exact e6 | (rw [e6] <;> (try simp only [← nI_add]) <;> (clear e1 e2 e3 e4 e5 e6 e7; grind))
  · skip
    simp (disch := omega) only [add1_at, add1_ne, Ss_at, Ss_ne, Ss_lo, Sb_at, Sb_ne, Sb_lo, Sb_hi, Sd_at, Sd_ne, Sd_lo]
    first | with_reducible exact e7 | (rw [e7] <;> (try simp only [← nI_add]) <;> (clear e1 e2 e3 e4 e5 e6 e7; grind))
theorem iFil {B n t : Nat} {kd : Nat → Nat} {f : Nat} {m k al : Int32} {bb c : Nat → Int32} {b y w : Nat} (hb : b < n) (c1 : ((y + w : Nat) : Int) ≤ (c (17 + 12 * b + 1)).toInt) (c2 : y + w ≤ 5000) (h : INV B n t kd f m k al bb c) (h9 : B + 5000 < 2147483648) (hW : WN (B + 5000) f (adds c (nFil b y w))) : INV (B + 5000) n t kd f m k al bb (adds c (nFil b y w)) := by
  obtain ⟨hn, ht, -, -⟩ := h.1.1
  have hN := h.2.2.1
  have hb8 : b < 8 := by omega
  refine INV_adds (B' := B + 5000) h (by omega) (by simp only [nFil, List.map_cons, List.map_nil, List.nodup_cons, List.mem_cons, List.not_mem_nil, or_false, not_or, List.nodup_nil, and_true, not_false_eq_true] <;> omega) ?_ ?_ hW (eFil hb8 h.2.2.2.2.2)
  · intro p hp
    simp only [nFil, List.mem_cons, List.not_mem_nil, or_false] at hp
    rcases hp with rfl | rfl | rfl | rfl <;> dsimp only
    · exact gk_b hb (by decide)
    · exact gk_b hb (by decide)
    · exact gk_b hb (by decide)
    · exact gk_b hb (by decide)
  · intro p hp
    simp only [nFil, List.mem_cons, List.not_mem_nil, or_false] at hp
    rcases hp with rfl | rfl | rfl | rfl <;> (dsimp only; intro hp9)
    · exact rg_sub (hN _ hp9) c1 (by omega) (by omega)
    · exact rg_add (hN _ hp9) (by omega) (by omega)
    · exact rg_add (hN _ hp9) (by omega) (by omega)
    · exact rg_add (hN _ hp9) (by omega) (by omega)
def nDel (b s x D P : Nat) : List (Nat × Int32) := [(17 + 12 * b + 2, -nI (12 * x)), (113 + 28 * s + (10 + b), nI (12 * x)), (2, -nI x), (113 + 28 * s + 1, nI x), (113 + 28 * s + 0, -nI (D + P)), (113 + 28 * s + 4, nI D), (4, nI D), (113 + 28 * s + 5, nI P), (6, nI P)]
theorem eDel {kd : Nat → Nat} {m k al : Int32} {bb c : Nat → Int32} {b s x D P : Nat} (hb8 : b < 8) (hs6 : s < 6) (hD : nI D = nI x * (12 * gd kd b + nI 150)) (h : EQ (gd kd) (nI 150) m k al bb c) : EQ (gd kd) (nI 150) m k al bb (adds c (nDel b s x D P)) := by
  obtain ⟨e1, e2, e3, e4, e5, e6, e7⟩ := h
  unfold nDel
  simp only [adds_cons, adds_nil]
  refine ⟨fun x9 hx9 => ?_, ?_, ?_, ?_, ?_, ?_, ?_⟩
  · have e := e1 x9 hx9
    unfold Ab at e ⊢
    by_cases q : b = x9
    · subst q
      simp (disch := omega) only [add1_at, add1_ne, Ss_at, Ss_ne, Ss_lo, Sb_at, Sb_ne, Sb_lo, Sb_hi, Sd_at, Sd_ne, Sd_lo]
      first | with_reducible exact e | (rw [← e] <;> (try simp only [← nI_add, ← pk_mul 12, hD, n12]) <;> (clear e1 e2 e3 e4 e5 e6 e7 e hD; grind))
    · simp (disch := omega) only [add1_at, add1_ne, Ss_at, Ss_ne, Ss_lo, Sb_at, Sb_ne, Sb_lo, Sb_hi, Sd_at, Sd_ne, Sd_lo]
      with_reducible exact e
  · skip
    simp (disch := omega) only [add1_at, add1_ne, Ss_at, Ss_ne, Ss_lo, Sb_at, Sb_ne, Sb_lo, Sb_hi, Sd_at, Sd_ne, Sd_lo]
    first | with_reducible exact e2 | (rw [e2] <;> (try simp only [← nI_add, ← pk_mul 12, hD, n12]) <;> (clear e1 e2 e3 e4 e5 e6 e7 hD; grind))
  · skip
    simp (disch := omega) only [add1_at, add1_ne, Ss_at, Ss_ne, Ss_lo, Sb_at, Sb_ne, Sb_lo, Sb_hi, Sd_at, Sd_ne, Sd_lo]
    first | with_reducible exact e3 | (rw [e3] <;> (try simp only [← nI_add, ← pk_mul 12, hD, n12]) <;> (clear e1 e2 e3 e4 e5 e6 e7 hD; grind))
  · skip
    simp (disch := omega) only [add1_at, add1_ne, Ss_at, Ss_ne, Ss_lo, Sb_at, Sb_ne, Sb_lo, Sb_hi, Sd_at, Sd_ne, Sd_lo]
    first | with_reducible exact e4 | (rw [e4] <;> (try simp only [← nI_add, ← pk_mul 12, hD, n12]) <;> (clear e1 e2 e3 e4 e5 e6 e7 hD; grind))
  · skip
    simp (disch := omega) only [add1_at, add1_ne, Ss_at, Ss_ne, Ss_lo, Sb_at, Sb_ne, Sb_lo, Sb_hi, Sd_at, Sd_ne, Sd_lo]
    first | with_reducible exact e5 | (rw [← e5] <;> (try simp only [← nI_add, ← pk_mul 12, hD, n12]) <;> (clear e1 e2 e3 e4 e5 e6 e7 hD; grind))
  · skip
    simp (disch := omega) only [add1_at, add1_ne, Ss_at, Ss_ne, Ss_lo, Sb_at, Sb_ne, Sb_lo, Sb_hi, Sd_at, Sd_ne, Sd_lo]
    first | with_reducible exact e6 | (rw [e6] <;> (try simp only [← nI_add, ← pk_mul 12, hD, n12]) <;> (clear e1 e2 e3 e4 e5 e6 e7 hD; grind))
  · skip
    simp (disch := omega) only [add1_at, add1_ne, Ss_at, Ss_ne, Ss_lo, Sb_at, Sb_ne, Sb_lo, Sb_hi, Sd_at, Sd_ne, Sd_lo]
    first | with_reducible exact e7 | (rw [e7] <;> (try simp only [← nI_add, ← pk_mul 12, hD, n12]) <;> (clear e1 e2 e3 e4 e5 e6 e7 hD; grind))
theorem iDel {B n t : Nat} {kd : Nat → Nat} {f : Nat} {m k al : Int32} {bb c : Nat → Int32} {b s x D P : Nat} (hb : b < n) (hs : s < t) (hD : nI D = nI x * (12 * gd kd b + nI 150)) (c1 : ((12 * x : Nat) : Int) ≤ (c (17 + 12 * b + 2)).toInt) (c2 : (x : Int) ≤ (c 2).toInt) (c3 : ((D + P : Nat) : Int) ≤ (c (113 + 28 * s + 0)).toInt) (c4 : x ≤ 50) (c5 : D ≤ 100000) (c6 : P ≤ 5000) (h : INV B n t kd f m k al bb c) (h9 : B + 100000 < 2147483648) : INV (B + 100000) n t kd f m k al bb (adds c (nDel b s x D P)) := by
  obtain ⟨hn, ht, -, -⟩ := h.1.1
  have hN := h.2.2.1
  have hb8 : b < 8 := by omega
  have hs6 : s < 6 := by omega
  refine INV_adds (B' := B + 100000) h (by omega) (by simp only [nDel, List.map_cons, List.map_nil, List.nodup_cons, List.mem_cons, List.not_mem_nil, or_false, not_or, List.nodup_nil, and_true, not_false_eq_true] <;> omega) ?_ ?_ (WN_keep h.2.2.2.1 (by omega) (by
    intro p hp
    simp only [nDel, List.mem_cons, List.not_mem_nil, or_false] at hp
    intro b9 hb9
    rcases hp with rfl | rfl | rfl | rfl | rfl | rfl | rfl | rfl | rfl <;> (dsimp only; omega))) (eDel hb8 hs6 hD h.2.2.2.2.2)
  · intro p hp
    simp only [nDel, List.mem_cons, List.not_mem_nil, or_false] at hp
    rcases hp with rfl | rfl | rfl | rfl | rfl | rfl | rfl | rfl | rfl <;> dsimp only
    · exact gk_b hb (by decide)
    · exact gk_F hs hb
    · exact gk_g (by decide)
    · exact gk_s hs (by decide)
    · exact gk_s hs (by decide)
    · exact gk_s hs (by decide)
    · exact gk_g (by decide)
    · exact gk_s hs (by decide)
    · exact gk_g (by decide)
  · intro p hp
    simp only [nDel, List.mem_cons, List.not_mem_nil, or_false] at hp
    rcases hp with rfl | rfl | rfl | rfl | rfl | rfl | rfl | rfl | rfl <;> (dsimp only; intro hp9)
    · exact rg_sub (hN _ hp9) c1 (by omega) (by omega)
    · exact rg_add (hN _ hp9) (by omega) (by omega)
    · exact rg_sub (hN _ hp9) c2 (by omega) (by omega)
    · exact rg_add (hN _ hp9) (by omega) (by omega)
    · exact rg_sub (hN _ hp9) c3 (by omega) (by omega)
    · exact absurd hp9 (nP_s hs6 (by decide))
    · exact absurd hp9 (nP_g (by decide))
    · exact absurd hp9 (nP_s hs6 (by decide))
    · exact rg_add (hN _ hp9) (by omega) (by omega)
def nSel (b s x D : Nat) : List (Nat × Int32) := [(113 + 28 * s + (10 + b), -nI x), (17 + 12 * b + 5, nI x), (113 + 28 * s + 6, nI x), (113 + 28 * s + 0, nI D)]
theorem eSel {kd : Nat → Nat} {m k al : Int32} {bb c : Nat → Int32} {b s x D : Nat} (hb8 : b < 8) (hs6 : s < 6) (hD : nI D = nI x * gd kd b) (h : EQ (gd kd) (nI 150) m k al bb c) : EQ (gd kd) (nI 150) m k al bb (adds c (nSel b s x D)) := by
  obtain ⟨e1, e2, e3, e4, e5, e6, e7⟩ := h
  unfold nSel
  simp only [adds_cons, adds_nil]
  refine ⟨fun x9 hx9 => ?_, ?_, ?_, ?_, ?_, ?_, ?_⟩
  · have e := e1 x9 hx9
    unfold Ab at e ⊢
    by_cases q : b = x9
    · subst q
      simp (disch := omega) only [add1_at, add1_ne, Ss_at, Ss_ne, Ss_lo, Sb_at, Sb_ne, Sb_lo, Sb_hi, Sd_at, Sd_ne, Sd_lo]
      first | with_reducible exact e | (rw [← e] <;> (try simp only [hD]) <;> (clear e1 e2 e3 e4 e5 e6 e7 e hD; grind))
    · simp (disch := omega) only [add1_at, add1_ne, Ss_at, Ss_ne, Ss_lo, Sb_at, Sb_ne, Sb_lo, Sb_hi, Sd_at, Sd_ne, Sd_lo]
      with_reducible exact e
  · skip
    simp (disch := omega) only [add1_at, add1_ne, Ss_at, Ss_ne, Ss_lo, Sb_at, Sb_ne, Sb_lo, Sb_hi, Sd_at, Sd_ne, Sd_lo]
    first | with_reducible exact e2 | (rw [e2] <;> (try simp only [hD]) <;> (clear e1 e2 e3 e4 e5 e6 e7 hD; grind))
  · skip
    simp (disch := omega) only [add1_at, add1_ne, Ss_at, Ss_ne, Ss_lo, Sb_at, Sb_ne, Sb_lo, Sb_hi, Sd_at, Sd_ne, Sd_lo]
    first | with_reducible exact e3 | (rw [e3] <;> (try simp only [hD]) <;> (clear e1 e2 e3 e4 e5 e6 e7 hD; grind))
  · skip
    simp (disch := omega) only [add1_at, add1_ne, Ss_at, Ss_ne, Ss_lo, Sb_at, Sb_ne, Sb_lo, Sb_hi, Sd_at, Sd_ne, Sd_lo]
    first | with_reducible exact e4 | (rw [e4] <;> (try simp only [hD]) <;> (clear e1 e2 e3 e4 e5 e6 e7 hD; grind))
  · skip
    simp (disch := omega) only [add1_at, add1_ne, Ss_at, Ss_ne, Ss_lo, Sb_at, Sb_ne, Sb_lo, Sb_hi, Sd_at, Sd_ne, Sd_lo]
    first | with_reducible exact e5 | (rw [← e5] <;> (try simp only [hD]) <;> (clear e1 e2 e3 e4 e5 e6 e7 hD; grind))
  · skip
    simp (disch := omega) only [add1_at, add1_ne, Ss_at, Ss_ne, Ss_lo, Sb_at, Sb_ne, Sb_lo, Sb_hi, Sd_at, Sd_ne, Sd_lo]
    first | with_reducible exact e6 | (rw [e6] <;> (try simp only [hD]) <;> (clear e1 e2 e3 e4 e5 e6 e7 hD; grind))
  · skip
    simp (disch := omega) only [add1_at, add1_ne, Ss_at, Ss_ne, Ss_lo, Sb_at, Sb_ne, Sb_lo, Sb_hi, Sd_at, Sd_ne, Sd_lo]
    first | with_reducible exact e7 | (rw [e7] <;> (try simp only [hD]) <;> (clear e1 e2 e3 e4 e5 e6 e7 hD; grind))
theorem iSel {B n t : Nat} {kd : Nat → Nat} {f : Nat} {m k al : Int32} {bb c : Nat → Int32} {b s x D : Nat} (hb : b < n) (hs : s < t) (hD : nI D = nI x * gd kd b) (c1 : (x : Int) ≤ (c (113 + 28 * s + (10 + b))).toInt) (c4 : x ≤ 500) (c5 : D ≤ 100000) (h : INV B n t kd f m k al bb c) (h9 : B + 100000 < 2147483648) : INV (B + 100000) n t kd f m k al bb (adds c (nSel b s x D)) := by
  obtain ⟨hn, ht, -, -⟩ := h.1.1
  have hN := h.2.2.1
  have hb8 : b < 8 := by omega
  have hs6 : s < 6 := by omega
  refine INV_adds (B' := B + 100000) h (by omega) (by simp only [nSel, List.map_cons, List.map_nil, List.nodup_cons, List.mem_cons, List.not_mem_nil, or_false, not_or, List.nodup_nil, and_true, not_false_eq_true] <;> omega) ?_ ?_ (WN_keep h.2.2.2.1 (by omega) (by
    intro p hp
    simp only [nSel, List.mem_cons, List.not_mem_nil, or_false] at hp
    intro b9 hb9
    rcases hp with rfl | rfl | rfl | rfl <;> (dsimp only; omega))) (eSel hb8 hs6 hD h.2.2.2.2.2)
  · intro p hp
    simp only [nSel, List.mem_cons, List.not_mem_nil, or_false] at hp
    rcases hp with rfl | rfl | rfl | rfl <;> dsimp only
    · exact gk_F hs hb
    · exact gk_b hb (by decide)
    · exact gk_s hs (by decide)
    · exact gk_s hs (by decide)
  · intro p hp
    simp only [nSel, List.mem_cons, List.not_mem_nil, or_false] at hp
    rcases hp with rfl | rfl | rfl | rfl <;> (dsimp only; intro hp9)
    · exact rg_sub (hN _ hp9) c1 (by omega) (by omega)
    · exact rg_add (hN _ hp9) (by omega) (by omega)
    · exact absurd hp9 (nP_s hs6 (by decide))
    · exact rg_add (hN _ hp9) (by omega) (by omega)
def nRet (b s x D : Nat) : List (Nat × Int32) := [(17 + 12 * b + 5, -nI x), (113 + 28 * s + (20 + b), nI x), (113 + 28 * s + 6, -nI x), (113 + 28 * s + 0, -nI D)]
theorem eRet {kd : Nat → Nat} {m k al : Int32} {bb c : Nat → Int32} {b s x D : Nat} (hb8 : b < 8) (hs6 : s < 6) (hD : nI D = nI x * gd kd b) (h : EQ (gd kd) (nI 150) m k al bb c) : EQ (gd kd) (nI 150) m k al bb (adds c (nRet b s x D)) := by
  obtain ⟨e1, e2, e3, e4, e5, e6, e7⟩ := h
  unfold nRet
  simp only [adds_cons, adds_nil]
  refine ⟨fun x9 hx9 => ?_, ?_, ?_, ?_, ?_, ?_, ?_⟩
  · have e := e1 x9 hx9
    unfold Ab at e ⊢
    by_cases q : b = x9
    · subst q
      simp (disch := omega) only [add1_at, add1_ne, Ss_at, Ss_ne, Ss_lo, Sb_at, Sb_ne, Sb_lo, Sb_hi, Sd_at, Sd_ne, Sd_lo]
      first | with_reducible exact e | (rw [← e] <;> (try simp only [hD]) <;> (clear e1 e2 e3 e4 e5 e6 e7 e hD; grind))
    · simp (disch := omega) only [add1_at, add1_ne, Ss_at, Ss_ne, Ss_lo, Sb_at, Sb_ne, Sb_lo, Sb_hi, Sd_at, Sd_ne, Sd_lo]
      with_reducible exact e
  · skip
    simp (disch := omega) only [add1_at, add1_ne, Ss_at, Ss_ne, Ss_lo, Sb_at, Sb_ne, Sb_lo, Sb_hi, Sd_at, Sd_ne, Sd_lo]
    first | with_reducible exact e2 | (rw [e2] <;> (try simp only [hD]) <;> (clear e1 e2 e3 e4 e5 e6 e7 hD; grind))
  · skip
    simp (disch := omega) only [add1_at, add1_ne, Ss_at, Ss_ne, Ss_lo, Sb_at, Sb_ne, Sb_lo, Sb_hi, Sd_at, Sd_ne, Sd_lo]
    first | with_reducible exact e3 | (rw [e3] <;> (try simp only [hD]) <;> (clear e1 e2 e3 e4 e5 e6 e7 hD; grind))
  · skip
    simp (disch := omega) only [add1_at, add1_ne, Ss_at, Ss_ne, Ss_lo, Sb_at, Sb_ne, Sb_lo, Sb_hi, Sd_at, Sd_ne, Sd_lo]
    first | with_reducible exact e4 | (rw [e4] <;> (try simp only [hD]) <;> (clear e1 e2 e3 e4 e5 e6 e7 hD; grind))
  · skip
    simp (disch := omega) only [add1_at, add1_ne, Ss_at, Ss_ne, Ss_lo, Sb_at, Sb_ne, Sb_lo, Sb_hi, Sd_at, Sd_ne, Sd_lo]
    first | with_reducible exact e5 | (rw [← e5] <;> (try simp only [hD]) <;> (clear e1 e2 e3 e4 e5 e6 e7 hD; grind))
  · skip
    simp (disch := omega) only [add1_at, add1_ne, Ss_at, Ss_ne, Ss_lo, Sb_at, Sb_ne, Sb_lo, Sb_hi, Sd_at, Sd_ne, Sd_lo]
    first | with_reducible exact e6 | (rw [e6] <;> (try simp only [hD]) <;> (clear e1 e2 e3 e4 e5 e6 e7 hD; grind))
  · skip
    simp (disch := omega) only [add1_at, add1_ne, Ss_at, Ss_ne, Ss_lo, Sb_at, Sb_ne, Sb_lo, Sb_hi, Sd_at, Sd_ne, Sd_lo]
    first | with_reducible exact e7 | (rw [e7] <;> (try simp only [hD]) <;> (clear e1 e2 e3 e4 e5 e6 e7 hD; grind))
theorem iRet {B n t : Nat} {kd : Nat → Nat} {f : Nat} {m k al : Int32} {bb c : Nat → Int32} {b s x D : Nat} (hb : b < n) (hs : s < t) (hD : nI D = nI x * gd kd b) (c1 : (x : Int) ≤ (c (17 + 12 * b + 5)).toInt) (c2 : (D : Int) ≤ (c (113 + 28 * s + 0)).toInt) (c4 : x ≤ 500) (h : INV B n t kd f m k al bb c) (h9 : B + 100000 < 2147483648) : INV (B + 100000) n t kd f m k al bb (adds c (nRet b s x D)) := by
  obtain ⟨hn, ht, -, -⟩ := h.1.1
  have hN := h.2.2.1
  have hb8 : b < 8 := by omega
  have hs6 : s < 6 := by omega
  refine INV_adds (B' := B + 100000) h (by omega) (by simp only [nRet, List.map_cons, List.map_nil, List.nodup_cons, List.mem_cons, List.not_mem_nil, or_false, not_or, List.nodup_nil, and_true, not_false_eq_true] <;> omega) ?_ ?_ (WN_keep h.2.2.2.1 (by omega) (by
    intro p hp
    simp only [nRet, List.mem_cons, List.not_mem_nil, or_false] at hp
    intro b9 hb9
    rcases hp with rfl | rfl | rfl | rfl <;> (dsimp only; omega))) (eRet hb8 hs6 hD h.2.2.2.2.2)
  · intro p hp
    simp only [nRet, List.mem_cons, List.not_mem_nil, or_false] at hp
    rcases hp with rfl | rfl | rfl | rfl <;> dsimp only
    · exact gk_b hb (by decide)
    · exact gk_E hs hb
    · exact gk_s hs (by decide)
    · exact gk_s hs (by decide)
  · intro p hp
    simp only [nRet, List.mem_cons, List.not_mem_nil, or_false] at hp
    rcases hp with rfl | rfl | rfl | rfl <;> (dsimp only; intro hp9)
    · exact rg_sub (hN _ hp9) c1 (by omega) (by omega)
    · exact rg_add (hN _ hp9) (by omega) (by omega)
    · exact absurd hp9 (nP_s hs6 (by decide))
    · exact rg_sub (hN _ hp9) c2 (by omega) (by omega)
def nBrk (b s x D p : Nat) : List (Nat × Int32) := [(113 + 28 * s + (20 + b), -nI x), (17 + 12 * b + 7, nI x), (5, nI D), (6, -nI p), (113 + 28 * s + 5, -nI p), (113 + 28 * s + 0, nI p)]
theorem eBrk {kd : Nat → Nat} {m k al : Int32} {bb c : Nat → Int32} {b s x D p : Nat} (hb8 : b < 8) (hs6 : s < 6) (hD : nI D = nI x * gd kd b) (h : EQ (gd kd) (nI 150) m k al bb c) : EQ (gd kd) (nI 150) m k al bb (adds c (nBrk b s x D p)) := by
  obtain ⟨e1, e2, e3, e4, e5, e6, e7⟩ := h
  unfold nBrk
  simp only [adds_cons, adds_nil]
  refine ⟨fun x9 hx9 => ?_, ?_, ?_, ?_, ?_, ?_, ?_⟩
  · have e := e1 x9 hx9
    unfold Ab at e ⊢
    by_cases q : b = x9
    · subst q
      simp (disch := omega) only [add1_at, add1_ne, Ss_at, Ss_ne, Ss_lo, Sb_at, Sb_ne, Sb_lo, Sb_hi, Sd_at, Sd_ne, Sd_lo]
      first | with_reducible exact e | (rw [← e] <;> (try simp only [hD]) <;> (clear e1 e2 e3 e4 e5 e6 e7 e hD; grind))
    · simp (disch := omega) only [add1_at, add1_ne, Ss_at, Ss_ne, Ss_lo, Sb_at, Sb_ne, Sb_lo, Sb_hi, Sd_at, Sd_ne, Sd_lo]
      with_reducible exact e
  · skip
    simp (disch := omega) only [add1_at, add1_ne, Ss_at, Ss_ne, Ss_lo, Sb_at, Sb_ne, Sb_lo, Sb_hi, Sd_at, Sd_ne, Sd_lo]
    first | with_reducible exact e2 | (rw [e2] <;> (try simp only [hD]) <;> (clear e1 e2 e3 e4 e5 e6 e7 hD; grind))
  · skip
    simp (disch := omega) only [add1_at, add1_ne, Ss_at, Ss_ne, Ss_lo, Sb_at, Sb_ne, Sb_lo, Sb_hi, Sd_at, Sd_ne, Sd_lo]
    first | with_reducible exact e3 | (rw [e3] <;> (try simp only [hD]) <;> (clear e1 e2 e3 e4 e5 e6 e7 hD; grind))
  · skip
    simp (disch := omega) only [add1_at, add1_ne, Ss_at, Ss_ne, Ss_lo, Sb_at, Sb_ne, Sb_lo, Sb_hi, Sd_at, Sd_ne, Sd_lo]
    first | with_reducible exact e4 | (rw [e4] <;> (try simp only [hD]) <;> (clear e1 e2 e3 e4 e5 e6 e7 hD; grind))
  · skip
    simp (disch := omega) only [add1_at, add1_ne, Ss_at, Ss_ne, Ss_lo, Sb_at, Sb_ne, Sb_lo, Sb_hi, Sd_at, Sd_ne, Sd_lo]
    first | with_reducible exact e5 | (rw [← e5] <;> (try simp only [hD]) <;> (clear e1 e2 e3 e4 e5 e6 e7 hD; grind))
  · skip
    simp (disch := omega) only [add1_at, add1_ne, Ss_at, Ss_ne, Ss_lo, Sb_at, Sb_ne, Sb_lo, Sb_hi, Sd_at, Sd_ne, Sd_lo]
    first | with_reducible exact e6 | (rw [e6] <;> (try simp only [hD]) <;> (clear e1 e2 e3 e4 e5 e6 e7 hD; grind))
  · skip
    simp (disch := omega) only [add1_at, add1_ne, Ss_at, Ss_ne, Ss_lo, Sb_at, Sb_ne, Sb_lo, Sb_hi, Sd_at, Sd_ne, Sd_lo]
    first | with_reducible exact e7 | (rw [e7] <;> (try simp only [hD]) <;> (clear e1 e2 e3 e4 e5 e6 e7 hD; grind))
theorem iBrk {B n t : Nat} {kd : Nat → Nat} {f : Nat} {m k al : Int32} {bb c : Nat → Int32} {b s x D p : Nat} (hb : b < n) (hs : s < t) (hD : nI D = nI x * gd kd b) (c1 : (x : Int) ≤ (c (113 + 28 * s + (20 + b))).toInt) (c2 : (p : Int) ≤ (c 6).toInt) (c4 : x ≤ 500) (c5 : p ≤ 100000) (h : INV B n t kd f m k al bb c) (h9 : B + 100000 < 2147483648) : INV (B + 100000) n t kd f m k al bb (adds c (nBrk b s x D p)) := by
  obtain ⟨hn, ht, -, -⟩ := h.1.1
  have hN := h.2.2.1
  have hb8 : b < 8 := by omega
  have hs6 : s < 6 := by omega
  refine INV_adds (B' := B + 100000) h (by omega) (by simp only [nBrk, List.map_cons, List.map_nil, List.nodup_cons, List.mem_cons, List.not_mem_nil, or_false, not_or, List.nodup_nil, and_true, not_false_eq_true] <;> omega) ?_ ?_ (WN_keep h.2.2.2.1 (by omega) (by
    intro p hp
    simp only [nBrk, List.mem_cons, List.not_mem_nil, or_false] at hp
    intro b9 hb9
    rcases hp with rfl | rfl | rfl | rfl | rfl | rfl <;> (dsimp only; omega))) (eBrk hb8 hs6 hD h.2.2.2.2.2)
  · intro p hp
    simp only [nBrk, List.mem_cons, List.not_mem_nil, or_false] at hp
    rcases hp with rfl | rfl | rfl | rfl | rfl | rfl <;> dsimp only
    · exact gk_E hs hb
    · exact gk_b hb (by decide)
    · exact gk_g (by decide)
    · exact gk_g (by decide)
    · exact gk_s hs (by decide)
    · exact gk_s hs (by decide)
  · intro p hp
    simp only [nBrk, List.mem_cons, List.not_mem_nil, or_false] at hp
    rcases hp with rfl | rfl | rfl | rfl | rfl | rfl <;> (dsimp only; intro hp9)
    · exact rg_sub (hN _ hp9) c1 (by omega) (by omega)
    · exact rg_add (hN _ hp9) (by omega) (by omega)
    · exact absurd hp9 (nP_g (by decide))
    · exact rg_sub (hN _ hp9) c2 (by omega) (by omega)
    · exact absurd hp9 (nP_s hs6 (by decide))
    · exact rg_add (hN _ hp9) (by omega) (by omega)
def nLos (b x D : Nat) : List (Nat × Int32) := [(17 + 12 * b + 5, -nI x), (17 + 12 * b + 8, nI x), (5, nI D)]
theorem eLos {kd : Nat → Nat} {m k al : Int32} {bb c : Nat → Int32} {b x D : Nat} (hb8 : b < 8) (hD : nI D = nI x * gd kd b) (h : EQ (gd kd) (nI 150) m k al bb c) : EQ (gd kd) (nI 150) m k al bb (adds c (nLos b x D)) := by
  obtain ⟨e1, e2, e3, e4, e5, e6, e7⟩ := h
  unfold nLos
  simp only [adds_cons, adds_nil]
  refine ⟨fun x9 hx9 => ?_, ?_, ?_, ?_, ?_, ?_, ?_⟩
  · have e := e1 x9 hx9
    unfold Ab at e ⊢
    by_cases q : b = x9
    · subst q
      simp (disch := omega) only [add1_at, add1_ne, Ss_at, Ss_ne, Ss_lo, Sb_at, Sb_ne, Sb_lo, Sb_hi, Sd_at, Sd_ne, Sd_lo]
      first | with_reducible exact e | (rw [← e] <;> (try simp only [hD]) <;> (clear e1 e2 e3 e4 e5 e6 e7 e hD; grind))
    · simp (disch := omega) only [add1_at, add1_ne, Ss_at, Ss_ne, Ss_lo, Sb_at, Sb_ne, Sb_lo, Sb_hi, Sd_at, Sd_ne, Sd_lo]
      with_reducible exact e
  · skip
    simp (disch := omega) only [add1_at, add1_ne, Ss_at, Ss_ne, Ss_lo, Sb_at, Sb_ne, Sb_lo, Sb_hi, Sd_at, Sd_ne, Sd_lo]
    first | with_reducible exact e2 | (rw [e2] <;> (try simp only [hD]) <;> (clear e1 e2 e3 e4 e5 e6 e7 hD; grind))
  · skip
    simp (disch := omega) only [add1_at, add1_ne, Ss_at, Ss_ne, Ss_lo, Sb_at, Sb_ne, Sb_lo, Sb_hi, Sd_at, Sd_ne, Sd_lo]
    first | with_reducible exact e3 | (rw [e3] <;> (try simp only [hD]) <;> (clear e1 e2 e3 e4 e5 e6 e7 hD; grind))
  · skip
    simp (disch := omega) only [add1_at, add1_ne, Ss_at, Ss_ne, Ss_lo, Sb_at, Sb_ne, Sb_lo, Sb_hi, Sd_at, Sd_ne, Sd_lo]
    first | with_reducible exact e4 | (rw [e4] <;> (try simp only [hD]) <;> (clear e1 e2 e3 e4 e5 e6 e7 hD; grind))
  · skip
    simp (disch := omega) only [add1_at, add1_ne, Ss_at, Ss_ne, Ss_lo, Sb_at, Sb_ne, Sb_lo, Sb_hi, Sd_at, Sd_ne, Sd_lo]
    first | with_reducible exact e5 | (rw [← e5] <;> (try simp only [hD]) <;> (clear e1 e2 e3 e4 e5 e6 e7 hD; grind))
  · skip
    simp (disch := omega) only [add1_at, add1_ne, Ss_at, Ss_ne, Ss_lo, Sb_at, Sb_ne, Sb_lo, Sb_hi, Sd_at, Sd_ne, Sd_lo]
    first | with_reducible exact e6 | (rw [e6] <;> (try simp only [hD]) <;> (clear e1 e2 e3 e4 e5 e6 e7 hD; grind))
  · skip
    simp (disch := omega) only [add1_at, add1_ne, Ss_at, Ss_ne, Ss_lo, Sb_at, Sb_ne, Sb_lo, Sb_hi, Sd_at, Sd_ne, Sd_lo]
    first | with_reducible exact e7 | (rw [e7] <;> (try simp only [hD]) <;> (clear e1 e2 e3 e4 e5 e6 e7 hD; grind))
theorem iLos {B n t : Nat} {kd : Nat → Nat} {f : Nat} {m k al : Int32} {bb c : Nat → Int32} {b x D : Nat} (hb : b < n) (hD : nI D = nI x * gd kd b) (c1 : (x : Int) ≤ (c (17 + 12 * b + 5)).toInt) (c4 : x ≤ 5000) (h : INV B n t kd f m k al bb c) (h9 : B + 100000 < 2147483648) : INV (B + 100000) n t kd f m k al bb (adds c (nLos b x D)) := by
  obtain ⟨hn, ht, -, -⟩ := h.1.1
  have hN := h.2.2.1
  have hb8 : b < 8 := by omega
  refine INV_adds (B' := B + 100000) h (by omega) (by simp only [nLos, List.map_cons, List.map_nil, List.nodup_cons, List.mem_cons, List.not_mem_nil, or_false, not_or, List.nodup_nil, and_true, not_false_eq_true] <;> omega) ?_ ?_ (WN_keep h.2.2.2.1 (by omega) (by
    intro p hp
    simp only [nLos, List.mem_cons, List.not_mem_nil, or_false] at hp
    intro b9 hb9
    rcases hp with rfl | rfl | rfl <;> (dsimp only; omega))) (eLos hb8 hD h.2.2.2.2.2)
  · intro p hp
    simp only [nLos, List.mem_cons, List.not_mem_nil, or_false] at hp
    rcases hp with rfl | rfl | rfl <;> dsimp only
    · exact gk_b hb (by decide)
    · exact gk_b hb (by decide)
    · exact gk_g (by decide)
  · intro p hp
    simp only [nLos, List.mem_cons, List.not_mem_nil, or_false] at hp
    rcases hp with rfl | rfl | rfl <;> (dsimp only; intro hp9)
    · exact rg_sub (hN _ hp9) c1 (by omega) (by omega)
    · exact rg_add (hN _ hp9) (by omega) (by omega)
    · exact absurd hp9 (nP_g (by decide))
def nSwp (b d x : Nat) : List (Nat × Int32) := [(17 + 12 * b + 1, -nI x), (17 + 12 * d + 1, nI x), (17 + 12 * b + 11, nI x), (17 + 12 * d + 11, -nI x)]
theorem eSwp {kd : Nat → Nat} {m k al : Int32} {bb c : Nat → Int32} {b d x : Nat} (hb8 : b < 8) (hd8 : d < 8) (hne : b ≠ d) (h : EQ (gd kd) (nI 150) m k al bb c) : EQ (gd kd) (nI 150) m k al bb (adds c (nSwp b d x)) := by
  obtain ⟨e1, e2, e3, e4, e5, e6, e7⟩ := h
  unfold nSwp
  simp only [adds_cons, adds_nil]
  refine ⟨fun x9 hx9 => ?_, ?_, ?_, ?_, ?_, ?_, ?_⟩
  · have e := e1 x9 hx9
    unfold Ab at e ⊢
    by_cases q : b = x9
    · subst q
      simp (disch := omega) only [add1_at, add1_ne, Ss_at, Ss_ne, Ss_lo, Sb_at, Sb_ne, Sb_lo, Sb_hi, Sd_at, Sd_ne, Sd_lo]
      first | with_reducible exact e | (rw [← e] <;> (clear e1 e2 e3 e4 e5 e6 e7 e; grind))
    · by_cases q2 : d = x9
      · subst q2
        simp (disch := omega) only [add1_at, add1_ne, Ss_at, Ss_ne, Ss_lo, Sb_at, Sb_ne, Sb_lo, Sb_hi, Sd_at, Sd_ne, Sd_lo]
        first | with_reducible exact e | (rw [← e] <;> (clear e1 e2 e3 e4 e5 e6 e7 e; grind))
      · simp (disch := omega) only [add1_at, add1_ne, Ss_at, Ss_ne, Ss_lo, Sb_at, Sb_ne, Sb_lo, Sb_hi, Sd_at, Sd_ne, Sd_lo]
        with_reducible exact e
  · skip
    simp (disch := omega) only [add1_at, add1_ne, Ss_at, Ss_ne, Ss_lo, Sb_at, Sb_ne, Sb_lo, Sb_hi, Sd_at, Sd_ne, Sd_lo]
    first | with_reducible exact e2 | (rw [e2] <;> (clear e1 e2 e3 e4 e5 e6 e7; grind))
  · skip
    simp (disch := omega) only [add1_at, add1_ne, Ss_at, Ss_ne, Ss_lo, Sb_at, Sb_ne, Sb_lo, Sb_hi, Sd_at, Sd_ne, Sd_lo]
    first | with_reducible exact e3 | (rw [e3] <;> (clear e1 e2 e3 e4 e5 e6 e7; grind))
  · skip
    simp (disch := omega) only [add1_at, add1_ne, Ss_at, Ss_ne, Ss_lo, Sb_at, Sb_ne, Sb_lo, Sb_hi, Sd_at, Sd_ne, Sd_lo]
    first | with_reducible exact e4 | (rw [e4] <;> (clear e1 e2 e3 e4 e5 e6 e7; grind))
  · skip
    simp (disch := omega) only [add1_at, add1_ne, Ss_at, Ss_ne, Ss_lo, Sb_at, Sb_ne, Sb_lo, Sb_hi, Sd_at, Sd_ne, Sd_lo]
    first | with_reducible exact e5 | (rw [← e5] <;> (clear e1 e2 e3 e4 e5 e6 e7; grind))
  · skip
    simp (disch := omega) only [add1_at, add1_ne, Ss_at, Ss_ne, Ss_lo, Sb_at, Sb_ne, Sb_lo, Sb_hi, Sd_at, Sd_ne, Sd_lo]
    first | with_reducible exact e6 | (rw [e6] <;> (clear e1 e2 e3 e4 e5 e6 e7; grind))
  · skip
    simp (disch := omega) only [add1_at, add1_ne, Ss_at, Ss_ne, Ss_lo, Sb_at, Sb_ne, Sb_lo, Sb_hi, Sd_at, Sd_ne, Sd_lo]
    first | with_reducible exact e7 | (rw [e7] <;> (clear e1 e2 e3 e4 e5 e6 e7; grind))
theorem iSwp {B n t : Nat} {kd : Nat → Nat} {f : Nat} {m k al : Int32} {bb c : Nat → Int32} {b d x : Nat} (hb : b < n) (hd : d < n) (hne : b ≠ d) (c1 : (x : Int) ≤ (c (17 + 12 * b + 1)).toInt) (c4 : x ≤ 5000) (h : INV B n t kd f m k al bb c) (h9 : B + 100000 < 2147483648) : INV (B + 100000) n t kd f m k al bb (adds c (nSwp b d x)) := by
  obtain ⟨hn, ht, -, -⟩ := h.1.1
  have hN := h.2.2.1
  have hb8 : b < 8 := by omega
  have hd8 : d < 8 := by omega
  refine INV_adds (B' := B + 100000) h (by omega) (by simp only [nSwp, List.map_cons, List.map_nil, List.nodup_cons, List.mem_cons, List.not_mem_nil, or_false, not_or, List.nodup_nil, and_true, not_false_eq_true] <;> omega) ?_ ?_ (WN_keep h.2.2.2.1 (by omega) (by
    intro p hp
    simp only [nSwp, List.mem_cons, List.not_mem_nil, or_false] at hp
    intro b9 hb9
    rcases hp with rfl | rfl | rfl | rfl <;> (dsimp only; omega))) (eSwp hb8 hd8 hne h.2.2.2.2.2)
  · intro p hp
    simp only [nSwp, List.mem_cons, List.not_mem_nil, or_false] at hp
    rcases hp with rfl | rfl | rfl | rfl <;> dsimp only
    · exact gk_b hb (by decide)
    · exact gk_b hd (by decide)
    · exact gk_b hb (by decide)
    · exact gk_b hd (by decide)
  · intro p hp
    simp only [nSwp, List.mem_cons, List.not_mem_nil, or_false] at hp
    rcases hp with rfl | rfl | rfl | rfl <;> (dsimp only; intro hp9)
    · exact rg_sub (hN _ hp9) c1 (by omega) (by omega)
    · exact rg_add (hN _ hp9) (by omega) (by omega)
    · exact absurd hp9 (nP_b hb8)
    · exact absurd hp9 (nP_b hd8)
def nMov (b s p : Nat) : List (Nat × Int32) := [(113 + 28 * s + (20 + b), -nI p), (17 + 12 * b + 6, nI p)]
theorem eMov {kd : Nat → Nat} {m k al : Int32} {bb c : Nat → Int32} {b s p : Nat} (hb8 : b < 8) (hs6 : s < 6) (h : EQ (gd kd) (nI 150) m k al bb c) : EQ (gd kd) (nI 150) m k (al + nI p * gd kd b) bb (adds c (nMov b s p)) := by
  obtain ⟨e1, e2, e3, e4, e5, e6, e7⟩ := h
  unfold nMov
  simp only [adds_cons, adds_nil]
  refine ⟨fun x9 hx9 => ?_, ?_, ?_, ?_, ?_, ?_, ?_⟩
  · have e := e1 x9 hx9
    unfold Ab at e ⊢
    by_cases q : b = x9
    · subst q
      simp (disch := omega) only [add1_at, add1_ne, Ss_at, Ss_ne, Ss_lo, Sb_at, Sb_ne, Sb_lo, Sb_hi, Sd_at, Sd_ne, Sd_lo]
      first | with_reducible exact e | (rw [← e] <;> (clear e1 e2 e3 e4 e5 e6 e7 e; grind))
    · simp (disch := omega) only [add1_at, add1_ne, Ss_at, Ss_ne, Ss_lo, Sb_at, Sb_ne, Sb_lo, Sb_hi, Sd_at, Sd_ne, Sd_lo]
      with_reducible exact e
  · skip
    simp (disch := omega) only [add1_at, add1_ne, Ss_at, Ss_ne, Ss_lo, Sb_at, Sb_ne, Sb_lo, Sb_hi, Sd_at, Sd_ne, Sd_lo]
    first | with_reducible exact e2 | (rw [e2] <;> (clear e1 e2 e3 e4 e5 e6 e7; grind))
  · skip
    simp (disch := omega) only [add1_at, add1_ne, Ss_at, Ss_ne, Ss_lo, Sb_at, Sb_ne, Sb_lo, Sb_hi, Sd_at, Sd_ne, Sd_lo]
    first | with_reducible exact e3 | (rw [e3] <;> (clear e1 e2 e3 e4 e5 e6 e7; grind))
  · skip
    simp (disch := omega) only [add1_at, add1_ne, Ss_at, Ss_ne, Ss_lo, Sb_at, Sb_ne, Sb_lo, Sb_hi, Sd_at, Sd_ne, Sd_lo]
    first | with_reducible exact e4 | (rw [e4] <;> (clear e1 e2 e3 e4 e5 e6 e7; grind))
  · skip
    simp (disch := omega) only [add1_at, add1_ne, Ss_at, Ss_ne, Ss_lo, Sb_at, Sb_ne, Sb_lo, Sb_hi, Sd_at, Sd_ne, Sd_lo]
    first | with_reducible exact e5 | (rw [← e5] <;> (clear e1 e2 e3 e4 e5 e6 e7; grind))
  · skip
    simp (disch := omega) only [add1_at, add1_ne, Ss_at, Ss_ne, Ss_lo, Sb_at, Sb_ne, Sb_lo, Sb_hi, Sd_at, Sd_ne, Sd_lo]
    first | with_reducible exact e6 | (rw [e6] <;> (clear e1 e2 e3 e4 e5 e6 e7; grind))
  · skip
    simp (disch := omega) only [add1_at, add1_ne, Ss_at, Ss_ne, Ss_lo, Sb_at, Sb_ne, Sb_lo, Sb_hi, Sd_at, Sd_ne, Sd_lo]
    first | with_reducible exact e7 | (rw [e7] <;> (clear e1 e2 e3 e4 e5 e6 e7; grind))
theorem iMov {B n t : Nat} {kd : Nat → Nat} {f : Nat} {m k al : Int32} {bb c : Nat → Int32} {b s p : Nat} (hb : b < n) (hs : s < t) (c1 : (p : Int) ≤ (c (113 + 28 * s + (20 + b))).toInt) (c4 : p ≤ 5000) (h : INV B n t kd f m k al bb c) (h9 : B + 5000 < 2147483648) : INV (B + 5000) n t kd f m k (al + nI p * gd kd b) bb (adds c (nMov b s p)) := by
  obtain ⟨hn, ht, -, -⟩ := h.1.1
  have hN := h.2.2.1
  have hb8 : b < 8 := by omega
  have hs6 : s < 6 := by omega
  refine INV_adds (B' := B + 5000) h (by omega) (by simp only [nMov, List.map_cons, List.map_nil, List.nodup_cons, List.mem_cons, List.not_mem_nil, or_false, not_or, List.nodup_nil, and_true, not_false_eq_true] <;> omega) ?_ ?_ (WN_keep h.2.2.2.1 (by omega) (by
    intro p hp
    simp only [nMov, List.mem_cons, List.not_mem_nil, or_false] at hp
    intro b9 hb9
    rcases hp with rfl | rfl <;> (dsimp only; omega))) (eMov hb8 hs6 h.2.2.2.2.2)
  · intro p hp
    simp only [nMov, List.mem_cons, List.not_mem_nil, or_false] at hp
    rcases hp with rfl | rfl <;> dsimp only
    · exact gk_E hs hb
    · exact gk_b hb (by decide)
  · intro p hp
    simp only [nMov, List.mem_cons, List.not_mem_nil, or_false] at hp
    rcases hp with rfl | rfl <;> (dsimp only; intro hp9)
    · exact rg_sub (hN _ hp9) c1 (by omega) (by omega)
    · exact rg_add (hN _ hp9) (by omega) (by omega)
def nCol (s x D : Nat) : List (Nat × Int32) := [(113 + 28 * s + 1, -nI x), (2, nI x), (113 + 28 * s + 0, nI D), (113 + 28 * s + 4, -nI D), (4, -nI D)]
theorem eCol {kd : Nat → Nat} {m k al : Int32} {bb c : Nat → Int32} {s x D : Nat} (hs6 : s < 6) (h : EQ (gd kd) (nI 150) m k al bb c) : EQ (gd kd) (nI 150) m k (al + nI x * nI 150 + -nI D) bb (adds c (nCol s x D)) := by
  obtain ⟨e1, e2, e3, e4, e5, e6, e7⟩ := h
  unfold nCol
  simp only [adds_cons, adds_nil]
  refine ⟨fun x9 hx9 => ?_, ?_, ?_, ?_, ?_, ?_, ?_⟩
  · have e := e1 x9 hx9
    unfold Ab at e ⊢
    simp (disch := omega) only [add1_at, add1_ne, Ss_at, Ss_ne, Ss_lo, Sb_at, Sb_ne, Sb_lo, Sb_hi, Sd_at, Sd_ne, Sd_lo]
    first | with_reducible exact e | (rw [← e] <;> (clear e1 e2 e3 e4 e5 e6 e7 e; grind))
  · skip
    simp (disch := omega) only [add1_at, add1_ne, Ss_at, Ss_ne, Ss_lo, Sb_at, Sb_ne, Sb_lo, Sb_hi, Sd_at, Sd_ne, Sd_lo]
    first | with_reducible exact e2 | (rw [e2] <;> (clear e1 e2 e3 e4 e5 e6 e7; grind))
  · skip
    simp (disch := omega) only [add1_at, add1_ne, Ss_at, Ss_ne, Ss_lo, Sb_at, Sb_ne, Sb_lo, Sb_hi, Sd_at, Sd_ne, Sd_lo]
    first | with_reducible exact e3 | (rw [e3] <;> (clear e1 e2 e3 e4 e5 e6 e7; grind))
  · skip
    simp (disch := omega) only [add1_at, add1_ne, Ss_at, Ss_ne, Ss_lo, Sb_at, Sb_ne, Sb_lo, Sb_hi, Sd_at, Sd_ne, Sd_lo]
    first | with_reducible exact e4 | (rw [e4] <;> (clear e1 e2 e3 e4 e5 e6 e7; grind))
  · skip
    simp (disch := omega) only [add1_at, add1_ne, Ss_at, Ss_ne, Ss_lo, Sb_at, Sb_ne, Sb_lo, Sb_hi, Sd_at, Sd_ne, Sd_lo]
    first | with_reducible exact e5 | (rw [← e5] <;> (clear e1 e2 e3 e4 e5 e6 e7; grind))
  · skip
    simp (disch := omega) only [add1_at, add1_ne, Ss_at, Ss_ne, Ss_lo, Sb_at, Sb_ne, Sb_lo, Sb_hi, Sd_at, Sd_ne, Sd_lo]
    first | with_reducible exact e6 | (rw [e6] <;> (clear e1 e2 e3 e4 e5 e6 e7; grind))
  · skip
    simp (disch := omega) only [add1_at, add1_ne, Ss_at, Ss_ne, Ss_lo, Sb_at, Sb_ne, Sb_lo, Sb_hi, Sd_at, Sd_ne, Sd_lo]
    first | with_reducible exact e7 | (rw [e7] <;> (clear e1 e2 e3 e4 e5 e6 e7; grind))
theorem iCol {B n t : Nat} {kd : Nat → Nat} {f : Nat} {m k al : Int32} {bb c : Nat → Int32} {s x D : Nat} (hs : s < t) (c1 : (x : Int) ≤ (c (113 + 28 * s + 1)).toInt) (c4 : x ≤ 50) (c5 : D ≤ 100000) (h : INV B n t kd f m k al bb c) (h9 : B + 100000 < 2147483648) : INV (B + 100000) n t kd f m k (al + nI x * nI 150 + -nI D) bb (adds c (nCol s x D)) := by
  obtain ⟨hn, ht, -, -⟩ := h.1.1
  have hN := h.2.2.1
  have hs6 : s < 6 := by omega
  refine INV_adds (B' := B + 100000) h (by omega) (by simp only [nCol, List.map_cons, List.map_nil, List.nodup_cons, List.mem_cons, List.not_mem_nil, or_false, not_or, List.nodup_nil, and_true, not_false_eq_true] <;> omega) ?_ ?_ (WN_keep h.2.2.2.1 (by omega) (by
    intro p hp
    simp only [nCol, List.mem_cons, List.not_mem_nil, or_false] at hp
    intro b9 hb9
    rcases hp with rfl | rfl | rfl | rfl | rfl <;> (dsimp only; omega))) (eCol hs6 h.2.2.2.2.2)
  · intro p hp
    simp only [nCol, List.mem_cons, List.not_mem_nil, or_false] at hp
    rcases hp with rfl | rfl | rfl | rfl | rfl <;> dsimp only
    · exact gk_s hs (by decide)
    · exact gk_g (by decide)
    · exact gk_s hs (by decide)
    · exact gk_s hs (by decide)
    · exact gk_g (by decide)
  · intro p hp
    simp only [nCol, List.mem_cons, List.not_mem_nil, or_false] at hp
    rcases hp with rfl | rfl | rfl | rfl | rfl <;> (dsimp only; intro hp9)
    · exact rg_sub (hN _ hp9) c1 (by omega) (by omega)
    · exact rg_add (hN _ hp9) (by omega) (by omega)
    · exact rg_add (hN _ hp9) (by omega) (by omega)
    · exact absurd hp9 (nP_s hs6 (by decide))
    · exact absurd hp9 (nP_g (by decide))
def nSrt (b p : Nat) : List (Nat × Int32) := [(17 + 12 * b + 6, -nI p), (17 + 12 * b + 1, nI p)]
theorem eSrt {kd : Nat → Nat} {m k al : Int32} {bb c : Nat → Int32} {b p : Nat} (hb8 : b < 8) (h : EQ (gd kd) (nI 150) m k al bb c) : EQ (gd kd) (nI 150) m k al bb (adds c (nSrt b p)) := by
  obtain ⟨e1, e2, e3, e4, e5, e6, e7⟩ := h
  unfold nSrt
  simp only [adds_cons, adds_nil]
  refine ⟨fun x9 hx9 => ?_, ?_, ?_, ?_, ?_, ?_, ?_⟩
  · have e := e1 x9 hx9
    unfold Ab at e ⊢
    by_cases q : b = x9
    · subst q
      simp (disch := omega) only [add1_at, add1_ne, Ss_at, Ss_ne, Ss_lo, Sb_at, Sb_ne, Sb_lo, Sb_hi, Sd_at, Sd_ne, Sd_lo]
      first | with_reducible exact e | (rw [← e] <;> (clear e1 e2 e3 e4 e5 e6 e7 e; grind))
    · simp (disch := omega) only [add1_at, add1_ne, Ss_at, Ss_ne, Ss_lo, Sb_at, Sb_ne, Sb_lo, Sb_hi, Sd_at, Sd_ne, Sd_lo]
      with_reducible exact e
  · skip
    simp (disch := omega) only [add1_at, add1_ne, Ss_at, Ss_ne, Ss_lo, Sb_at, Sb_ne, Sb_lo, Sb_hi, Sd_at, Sd_ne, Sd_lo]
    first | with_reducible exact e2 | (rw [e2] <;> (clear e1 e2 e3 e4 e5 e6 e7; grind))
  · skip
    simp (disch := omega) only [add1_at, add1_ne, Ss_at, Ss_ne, Ss_lo, Sb_at, Sb_ne, Sb_lo, Sb_hi, Sd_at, Sd_ne, Sd_lo]
    first | with_reducible exact e3 | (rw [e3] <;> (clear e1 e2 e3 e4 e5 e6 e7; grind))
  · skip
    simp (disch := omega) only [add1_at, add1_ne, Ss_at, Ss_ne, Ss_lo, Sb_at, Sb_ne, Sb_lo, Sb_hi, Sd_at, Sd_ne, Sd_lo]
    first | with_reducible exact e4 | (rw [e4] <;> (clear e1 e2 e3 e4 e5 e6 e7; grind))
  · skip
    simp (disch := omega) only [add1_at, add1_ne, Ss_at, Ss_ne, Ss_lo, Sb_at, Sb_ne, Sb_lo, Sb_hi, Sd_at, Sd_ne, Sd_lo]
    first | with_reducible exact e5 | (rw [← e5] <;> (clear e1 e2 e3 e4 e5 e6 e7; grind))
  · skip
    simp (disch := omega) only [add1_at, add1_ne, Ss_at, Ss_ne, Ss_lo, Sb_at, Sb_ne, Sb_lo, Sb_hi, Sd_at, Sd_ne, Sd_lo]
    first | with_reducible exact e6 | (rw [e6] <;> (clear e1 e2 e3 e4 e5 e6 e7; grind))
  · skip
    simp (disch := omega) only [add1_at, add1_ne, Ss_at, Ss_ne, Ss_lo, Sb_at, Sb_ne, Sb_lo, Sb_hi, Sd_at, Sd_ne, Sd_lo]
    first | with_reducible exact e7 | (rw [e7] <;> (clear e1 e2 e3 e4 e5 e6 e7; grind))
theorem iSrt {B n t : Nat} {kd : Nat → Nat} {f : Nat} {m k al : Int32} {bb c : Nat → Int32} {b p : Nat} (hb : b < n) (c1 : (p : Int) ≤ (c (17 + 12 * b + 6)).toInt) (c4 : p ≤ 5000) (h : INV B n t kd f m k al bb c) (h9 : B + 5000 < 2147483648) : INV (B + 5000) n t kd f m k al bb (adds c (nSrt b p)) := by
  obtain ⟨hn, ht, -, -⟩ := h.1.1
  have hN := h.2.2.1
  have hb8 : b < 8 := by omega
  refine INV_adds (B' := B + 5000) h (by omega) (by simp only [nSrt, List.map_cons, List.map_nil, List.nodup_cons, List.mem_cons, List.not_mem_nil, or_false, not_or, List.nodup_nil, and_true, not_false_eq_true] <;> omega) ?_ ?_ (WN_keep h.2.2.2.1 (by omega) (by
    intro p hp
    simp only [nSrt, List.mem_cons, List.not_mem_nil, or_false] at hp
    intro b9 hb9
    rcases hp with rfl | rfl <;> (dsimp only; omega))) (eSrt hb8 h.2.2.2.2.2)
  · intro p hp
    simp only [nSrt, List.mem_cons, List.not_mem_nil, or_false] at hp
    rcases hp with rfl | rfl <;> dsimp only
    · exact gk_b hb (by decide)
    · exact gk_b hb (by decide)
  · intro p hp
    simp only [nSrt, List.mem_cons, List.not_mem_nil, or_false] at hp
    rcases hp with rfl | rfl <;> (dsimp only; intro hp9)
    · exact rg_sub (hN _ hp9) c1 (by omega) (by omega)
    · exact rg_add (hN _ hp9) (by omega) (by omega)
def nBuy (x : Nat) : List (Nat × Int32) := [(2, nI x)]
theorem eBuy {kd : Nat → Nat} {m k al : Int32} {bb c : Nat → Int32} {x : Nat} (h : EQ (gd kd) (nI 150) m k al bb c) : EQ (gd kd) (nI 150) m (k + nI x) al bb (adds c (nBuy x)) := by
  obtain ⟨e1, e2, e3, e4, e5, e6, e7⟩ := h
  unfold nBuy
  simp only [adds_cons, adds_nil]
  refine ⟨fun x9 hx9 => ?_, ?_, ?_, ?_, ?_, ?_, ?_⟩
  · have e := e1 x9 hx9
    unfold Ab at e ⊢
    simp (disch := omega) only [add1_at, add1_ne, Ss_at, Ss_ne, Ss_lo, Sb_at, Sb_ne, Sb_lo, Sb_hi, Sd_at, Sd_ne, Sd_lo]
    first | with_reducible exact e | (rw [← e] <;> (clear e1 e2 e3 e4 e5 e6 e7 e; grind))
  · skip
    simp (disch := omega) only [add1_at, add1_ne, Ss_at, Ss_ne, Ss_lo, Sb_at, Sb_ne, Sb_lo, Sb_hi, Sd_at, Sd_ne, Sd_lo]
    first | with_reducible exact e2 | (rw [e2] <;> (clear e1 e2 e3 e4 e5 e6 e7; grind))
  · skip
    simp (disch := omega) only [add1_at, add1_ne, Ss_at, Ss_ne, Ss_lo, Sb_at, Sb_ne, Sb_lo, Sb_hi, Sd_at, Sd_ne, Sd_lo]
    first | with_reducible exact e3 | (rw [e3] <;> (clear e1 e2 e3 e4 e5 e6 e7; grind))
  · skip
    simp (disch := omega) only [add1_at, add1_ne, Ss_at, Ss_ne, Ss_lo, Sb_at, Sb_ne, Sb_lo, Sb_hi, Sd_at, Sd_ne, Sd_lo]
    first | with_reducible exact e4 | (rw [e4] <;> (clear e1 e2 e3 e4 e5 e6 e7; grind))
  · skip
    simp (disch := omega) only [add1_at, add1_ne, Ss_at, Ss_ne, Ss_lo, Sb_at, Sb_ne, Sb_lo, Sb_hi, Sd_at, Sd_ne, Sd_lo]
    first | with_reducible exact e5 | (rw [← e5] <;> (clear e1 e2 e3 e4 e5 e6 e7; grind))
  · skip
    simp (disch := omega) only [add1_at, add1_ne, Ss_at, Ss_ne, Ss_lo, Sb_at, Sb_ne, Sb_lo, Sb_hi, Sd_at, Sd_ne, Sd_lo]
    first | with_reducible exact e6 | (rw [e6] <;> (clear e1 e2 e3 e4 e5 e6 e7; grind))
  · skip
    simp (disch := omega) only [add1_at, add1_ne, Ss_at, Ss_ne, Ss_lo, Sb_at, Sb_ne, Sb_lo, Sb_hi, Sd_at, Sd_ne, Sd_lo]
    first | with_reducible exact e7 | (rw [e7] <;> (clear e1 e2 e3 e4 e5 e6 e7; grind))
theorem iBuy {B n t : Nat} {kd : Nat → Nat} {f : Nat} {m k al : Int32} {bb c : Nat → Int32} {x : Nat} (c4 : x ≤ 500) (h : INV B n t kd f m k al bb c) (h9 : B + 5000 < 2147483648) : INV (B + 5000) n t kd f m (k + nI x) al bb (adds c (nBuy x)) := by
  obtain ⟨hn, ht, -, -⟩ := h.1.1
  have hN := h.2.2.1
  refine INV_adds (B' := B + 5000) h (by omega) (by simp only [nBuy, List.map_cons, List.map_nil, List.nodup_cons, List.mem_cons, List.not_mem_nil, or_false, not_or, List.nodup_nil, and_true, not_false_eq_true] <;> omega) ?_ ?_ (WN_keep h.2.2.2.1 (by omega) (by
    intro p hp
    simp only [nBuy, List.mem_cons, List.not_mem_nil, or_false] at hp
    intro b9 hb9
    rcases hp with rfl <;> (dsimp only; omega))) (eBuy h.2.2.2.2.2)
  · intro p hp
    simp only [nBuy, List.mem_cons, List.not_mem_nil, or_false] at hp
    rcases hp with rfl <;> dsimp only
    · exact gk_g (by decide)
  · intro p hp
    simp only [nBuy, List.mem_cons, List.not_mem_nil, or_false] at hp
    rcases hp with rfl <;> (dsimp only; intro hp9)
    · exact rg_add (hN _ hp9) (by omega) (by omega)

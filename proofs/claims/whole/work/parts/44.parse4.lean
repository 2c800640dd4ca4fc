-- the star and the number of an order (own text)
theorem rd_no {u : bU} {i kd : Nat} {r : Nat → Int32} (e3 : u 6 3 = nI i) (hk : kd ≠ 1) (hw : pWhole r = 0) : rdOK u (J6_readOrder_236 u 0) (kd, i, r) := by
  unfold J6_readOrder_236
  rw [bput_up, bs_eq, up_at, if_pos rfl]
  refine ⟨⟨_, rfl, rfl, rfl, rfl⟩, ?_, ?_, ?_, fun p => absurd hw p⟩
  · dsimp only
    rw [if_neg hk]
  · dsimp only
    rw [bs_eq, up_ne _ _ (by decide), e3, if_neg hk]; rfl
  · dsimp only
    rw [bs_eq, up_at, hw]
theorem pWhole_no {r : Nat → Int32} (h : r 0 ≠ 5) : pWhole r = 0 := by
  unfold pWhole; rw [if_neg h]
theorem rd_225 {L M : Nat} {C : Nat → Int32} (hL : L ≤ 60) (hM : M ≤ 500) (hC : ∀ x : Nat, x < L → ∃ k : Nat, k ≤ 126 ∧ C x = nI k) {i m : Nat} {u : bU} {r : Nat → Int32} (hi : i ≤ L) (hm : L < i + m) (e0 : u 3 = C) (e1 : u 6 1 = nI L) (e3 : u 6 3 = nI i) (r0 : r 0 = 5) (r4 : r 4 = 0) (e5 : u 6 5 = r 1) (e6 : u 6 6 = r 2) (e7 : u 6 7 = r 3) (hp : pMost r = nI M) : rdOK u (J6_readOrder_225 u (nI M)) (tr C L m r i) := by
  have h := rd_num hL hM hC (60 + 1) 0 i 0 (bs u 6 (upd (u 6) 8 0)) r m hi (by omega) hm (by rw [bs_ne _ _ (by decide)]; exact e0) (by rw [bs_eq, up_ne _ _ (by decide)]; exact e1) (by rw [bs_eq, up_ne _ _ (by decide)]; exact e3) (by omega) r0 r4 (by rw [bs_eq, up_ne _ _ (by decide)]; exact e5) (by rw [bs_eq, up_ne _ _ (by decide)]; exact e6) (by rw [bs_eq, up_ne _ _ (by decide)]; exact e7) (by rw [bs_eq, up_at]; rfl) hp
  have h2 := rdOK_up h rfl (up_ne _ _ (by decide)) (up_ne _ _ (by decide)) (up_ne _ _ (by decide))
  unfold J6_readOrder_225 F6_readNumber
  rw [bput_up]
  generalize L6_readNumber_5 (nI M) (bs u 6 (upd (u 6) 8 0)) (60 + 1) 0 = w at h2 ⊢
  by_cases c : w 6 8 ≤ 0
  · rw [if_pos c] at h2 ⊢; exact h2
  · rw [if_neg c] at h2 ⊢; exact h2
theorem rd_star {L : Nat} {C : Nat → Int32} (hL : L ≤ 60) (hC : ∀ x : Nat, x < L → ∃ k : Nat, k ≤ 126 ∧ C x = nI k) {i m : Nat} {u : bU} {r : Nat → Int32} {x1 : Int32} (hi : i ≤ L) (hm : L < i + m) (e0 : u 3 = C) (e1 : u 6 1 = nI L) (e3 : u 6 3 = nI i) (r0 : r 0 = 4) (r4 : r 4 = 0) (e5 : u 6 5 = r 1) (e6 : u 6 6 = r 2) (e7 : u 6 9 = r 3) (hx : x1 = if r 1 = 100 then 1 else 0) : rdOK u (J6_readOrder_180 u 1 x1) (tr C L m r i) := by
  have nw : pWhole r = 0 := pWhole_no (by rw [r0]; decide)
  unfold J6_readOrder_180
  rw [if_neg (show ¬ (1 : Int32) = 0 by decide), bput_up]
  have a0 : (bs u 6 (upd (u 6) 7 (u 6 9))) 3 = C := by rw [bs_ne _ _ (by decide)]; exact e0
  have a1 : (bs u 6 (upd (u 6) 7 (u 6 9))) 6 1 = nI L := by rw [bs_eq, up_ne _ _ (by decide)]; exact e1
  have a3 : (bs u 6 (upd (u 6) 7 (u 6 9))) 6 3 = nI i := by rw [bs_eq, up_ne _ _ (by decide)]; exact e3
  have back : ∀ (j : Nat) (q : Int32 × bU) (T : Nat × Nat × (Nat → Int32)), rdOK (bs u 6 (upd (upd (u 6) 7 (u 6 9)) 3 (nI j))) q T → rdOK u q T := fun j q T h => rdOK_up h rfl (by rw [up_ne _ _ (by decide), up_ne _ _ (by decide)]) (by rw [up_ne _ _ (by decide), up_ne _ _ (by decide)]) (by rw [up_ne _ _ (by decide), up_ne _ _ (by decide)])
  by_cases c1 : L ≤ i
  · rw [m_sign (k := 0) a1 a3 hi hL (fun h => absurd h (by omega)), if_neg (show ¬ (i < L ∧ nI 0 = 42) from fun p => absurd p.1 (by omega)), if_pos rfl, bs_bs, bs_eq, tr_end c1]
    try dsimp only
    exact back i _ _ (rd_no (u := bs u 6 (upd (upd (u 6) 7 (u 6 9)) 3 (nI i))) (i := i) (by rw [bs_eq, up_at]) (by omega) nw)
  obtain ⟨k, hk, eC⟩ := hC i (by omega)
  rw [m_sign (k := k) a1 a3 hi hL (fun h => by rw [a0]; exact eC), bs_bs, bs_eq]
  have pk1 : pk r (C i) = if (if C i = (42 : Int32) then (1 : Int32) else 0) = 0 then (0, r) else ((if C i = (42 : Int32) then 1 else 0), upd r 0 (r 0 + 1)) := by
    unfold pk pFits pKeep
    simp only [r0, eq_false (show ¬ (4 : Int32) = 5 by decide), eq_false (show ¬ (4 : Int32) = 0 by decide), eq_false (show ¬ (4 : Int32) = 1 by decide), eq_false (show ¬ (4 : Int32) = 2 by decide), eq_false (show ¬ (4 : Int32) = 3 by decide), if_false]
  rw [eC] at pk1
  by_cases c2 : nI k = 42
  · rw [if_pos c2, if_neg (show ¬ (1 : Int32) = 0 by decide), r0, ← eC] at pk1
    obtain ⟨m, rfl⟩ : ∃ y, m = y + 1 := ⟨m - 1, by omega⟩
    rw [if_pos (show i < L ∧ nI k = 42 from ⟨by omega, c2⟩), if_neg (show ¬ (1 : Int32) = 0 by decide), tr_on (by omega) pk1 (by rw [eC, c2]; decide)]
    have go : ∀ M : Nat, M ≤ 500 → pMost r = nI M → rdOK u (J6_readOrder_225 (bs u 6 (upd (upd (u 6) 7 (u 6 9)) 3 (nI (i + 1)))) (nI M)) (tr C L m (upd r 0 (4 + 1)) (i + 1)) := fun M hM hp => back (i + 1) _ _ (rd_225 hL hM hC (by omega) (by omega) (by rw [bs_ne _ _ (by decide)]; exact e0) (by rw [bs_eq, up_ne _ _ (by decide), up_ne _ _ (by decide)]; exact e1) (by rw [bs_eq, up_at]) (by rw [up_at]; decide) (by rw [up_ne _ _ (by decide)]; exact r4) (by rw [bs_eq, up_ne _ _ (by decide), up_ne _ _ (by decide), up_ne _ _ (by decide)]; exact e5) (by rw [bs_eq, up_ne _ _ (by decide), up_ne _ _ (by decide), up_ne _ _ (by decide)]; exact e6) (by rw [bs_eq, up_ne _ _ (by decide), up_at, up_ne _ _ (by decide)]; exact e7) (by unfold pMost at hp ⊢; rw [up_ne _ _ (by decide)]; exact hp))
    dsimp only
    have e9 : bs u 6 (upd (upd (u 6) 7 (u 6 9)) 3 (nI (i + 1))) 6 5 = r 1 := by rw [bs_eq, up_ne _ _ (by decide), up_ne _ _ (by decide)]; exact e5
    rw [hx]
    by_cases d : r 1 = 100
    · rw [if_pos d, if_neg (show ¬ (1 : Int32) = 0 by decide)]
      exact go 50 (by decide) (by unfold pMost; rw [if_pos d]; rfl)
    · rw [if_neg d, if_pos rfl]
      by_cases d2 : r 1 = 99
      · rw [if_pos (e9.trans d2)]
        exact go 50 (by decide) (by unfold pMost; rw [if_neg d, if_pos d2]; rfl)
      · rw [if_neg (fun p => d2 (e9.symm.trans p))]
        exact go 500 (by decide) (by unfold pMost; rw [if_neg d, if_neg d2]; rfl)
  · rw [if_neg c2, if_pos rfl] at pk1
    rw [if_neg (show ¬ (i < L ∧ nI k = 42) from fun p => c2 p.2), if_pos rfl, tr_bad (by omega) hm (by rw [eC, pk1])]
    dsimp only
    rw [bs_bs]
    exact back i _ _ (rd_no (u := bs u 6 (upd (upd (u 6) 7 (u 6 9)) 3 (nI i))) (i := i) (by rw [bs_eq, up_at]) (by omega) nw)

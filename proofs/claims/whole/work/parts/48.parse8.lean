-- the first digit of an order (own text)
theorem rd_first {L b : Nat} {C : Nat → Int32} (hL : L ≤ 60) (hb : b ≤ 8) (hC : ∀ x : Nat, x < L → ∃ k : Nat, k ≤ 126 ∧ C x = nI k) {i m : Nat} {u : bU} {r : Nat → Int32} {x1 : Int32} (hi : i ≤ L) (hm : L < i + m) (e0 : u 3 = C) (e1 : u 6 1 = nI L) (e3 : u 6 3 = nI i) (r0 : r 0 = 1) (r4 : r 4 = 0) (e5 : u 6 5 = r 1) (hx : x1 = if r 1 = 100 then 1 else 0) (hp : nI (b + 1) = if r 1 = 100 then 8 else 6) : rdOK u (J6_readOrder_111 u (nI b) x1) (tr C L m r i) := by
  have nw : pWhole r = 0 := pWhole_no (by rw [r0]; decide)
  unfold J6_readOrder_111
  have back : ∀ (y z : Int32) (j : Nat) (q : Int32 × bU) (T : Nat × Nat × (Nat → Int32)), rdOK (bs u 6 (upd (upd (upd (u 6) 9 y) 3 (nI j)) 6 z)) q T → rdOK u q T := fun y z j q T h => rdOK_up h rfl (by rw [up_ne _ _ (by decide), up_ne _ _ (by decide), up_ne _ _ (by decide)]) (by rw [up_ne _ _ (by decide), up_ne _ _ (by decide), up_ne _ _ (by decide)]) (by rw [up_ne _ _ (by decide), up_ne _ _ (by decide), up_ne _ _ (by decide)])
  by_cases c1 : L ≤ i
  · have h := m_dig (k := 0) (b := b) e1 e3 hi hL (by omega) (by omega) (fun h => absurd h (by omega))
    rw [if_neg (show ¬ (i < L ∧ 48 ≤ 0 ∧ 0 ≤ 48 + b) by omega)] at h
    obtain ⟨y, h⟩ := h
    rw [h, tr_end c1, if_pos rfl]
    dsimp only
    rw [bs_up]
    exact back y _ i _ _ (rd_180no (by rw [bs_eq, up_ne _ _ (by decide), up_at]) (by omega) nw)
  obtain ⟨k, hk, eC⟩ := hC i (by omega)
  have h := m_dig (k := k) (b := b) e1 e3 hi hL hk (by omega) (fun h => by rw [e0]; exact eC)
  have pk1 : pk r (nI k) = if pDig (nI k) (nI (b + 1)) = 0 then (0, r) else (pDig (nI k) (nI (b + 1)), upd (upd r 2 (nI k - 48)) 0 (1 + 1)) := by
    unfold pk pFits pKeep
    simp only [r0, eq_false (show ¬ (1 : Int32) = 5 by decide), eq_false (show ¬ (1 : Int32) = 0 by decide), if_false, if_true, up_ne r (nI k - 48) (show (0 : Nat) ≠ 2 by decide)]
    rw [hp]
    by_cases d : r 1 = 100
    · simp only [eq_true d, if_true]
    · simp only [eq_false d, if_false]
  rw [p_dig hk (by omega)] at pk1
  by_cases c2 : 48 ≤ k ∧ k ≤ 48 + b
  · rw [if_pos ⟨by omega, c2⟩] at h
    rw [if_pos (show 48 ≤ k ∧ k < 48 + (b + 1) by omega), if_neg (show ¬ (1 : Int32) = 0 by decide), ← eC] at pk1
    obtain ⟨m, rfl⟩ : ∃ y, m = y + 1 := ⟨m - 1, by omega⟩
    rw [h, if_neg (show ¬ (1 : Int32) = 0 by decide), tr_on (by omega) pk1 (by rw [eC]; exact nI_ne' (b := 59) (by omega) (by decide) (by omega)), eC]
    dsimp only
    rw [bs_up]
    have go : ∀ y0 : Int32, y0 = (if r 1 = 100 then 62 else 58) → rdOK u (J6_readOrder_139 (bs u 6 (upd (upd (upd (u 6) 9 (nI k - 48)) 3 (nI (i + 1))) 6 (bs u 6 (upd (upd (u 6) 9 (nI k - 48)) 3 (nI (i + 1))) 6 9))) y0 x1) (tr C L m (upd (upd r 2 (nI k - 48)) 0 (1 + 1)) (i + 1)) := by
      intro y0 hy
      refine back _ _ (i + 1) _ _ (rd_sign hL hC (by omega) (by omega) ?_ ?_ ?_ ?_ ?_ ?_ ?_ ?_ ?_)
      · rw [bs_ne _ _ (by decide)]; exact e0
      · rw [bs_eq, up_ne _ _ (by decide), up_ne _ _ (by decide), up_ne _ _ (by decide)]; exact e1
      · rw [bs_eq, up_ne _ _ (by decide), up_at]
      · rw [up_at]; decide
      · rw [up_ne _ _ (by decide), up_ne _ _ (by decide)]; exact r4
      · rw [bs_eq, up_ne _ _ (by decide), up_ne _ _ (by decide), up_ne _ _ (by decide), up_ne _ _ (by decide), up_ne _ _ (by decide)]; exact e5
      · rw [bs_eq, up_at, bs_eq, up_ne _ _ (by decide), up_at, up_ne _ _ (by decide), up_at]
      · rw [up_ne _ _ (by decide), up_ne _ _ (by decide)]; exact hx
      · rw [up_ne _ _ (by decide), up_ne _ _ (by decide)]; exact hy
    by_cases d : r 1 = 100
    · rw [if_neg (show ¬ x1 = 0 by rw [hx, if_pos d]; decide)]
      exact go 62 (by rw [if_pos d])
    · rw [if_pos (show x1 = 0 by rw [hx, if_neg d])]
      exact go 58 (by rw [if_neg d])
  · rw [if_neg (fun p => c2 p.2)] at h
    rw [if_neg (show ¬ (48 ≤ k ∧ k < 48 + (b + 1)) by omega), if_pos rfl, ← eC] at pk1
    obtain ⟨y, h⟩ := h
    rw [h, if_pos rfl, tr_bad (by omega) hm (by rw [pk1])]
    dsimp only
    rw [bs_up]
    exact back y _ i _ _ (rd_180no (by rw [bs_eq, up_ne _ _ (by decide), up_at]) (by omega) nw)

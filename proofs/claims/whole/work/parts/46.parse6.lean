-- the second digit of an order (own text)
theorem rd_second {L b : Nat} {C : Nat → Int32} (hL : L ≤ 60) (hb : b ≤ 8) (hC : ∀ x : Nat, x < L → ∃ k : Nat, k ≤ 126 ∧ C x = nI k) {i m : Nat} {u : bU} {r : Nat → Int32} {x1 : Int32} (hi : i ≤ L) (hm : L < i + m) (e0 : u 3 = C) (e1 : u 6 1 = nI L) (e3 : u 6 3 = nI i) (r0 : r 0 = 3) (r4 : r 4 = 0) (e5 : u 6 5 = r 1) (e6 : u 6 6 = r 2) (hx : x1 = if r 1 = 100 then 1 else 0) (hp : pSec r = nI (b + 1)) : rdOK u (J6_readOrder_169 u (nI b) x1) (tr C L m r i) := by
  have nw : pWhole r = 0 := pWhole_no (by rw [r0]; decide)
  unfold J6_readOrder_169
  have back : ∀ (y : Int32) (j : Nat) (q : Int32 × bU) (T : Nat × Nat × (Nat → Int32)), rdOK (bs u 6 (upd (upd (u 6) 9 y) 3 (nI j))) q T → rdOK u q T := fun y j q T h => rdOK_up h rfl (by rw [up_ne _ _ (by decide), up_ne _ _ (by decide)]) (by rw [up_ne _ _ (by decide), up_ne _ _ (by decide)]) (by rw [up_ne _ _ (by decide), up_ne _ _ (by decide)])
  by_cases c1 : L ≤ i
  · have h := m_dig (k := 0) (b := b) e1 e3 hi hL (by omega) (by omega) (fun h => absurd h (by omega))
    rw [if_neg (show ¬ (i < L ∧ 48 ≤ 0 ∧ 0 ≤ 48 + b) by omega)] at h
    obtain ⟨y, h⟩ := h
    rw [h, tr_end c1, if_pos rfl]
    exact back y i _ _ (rd_180no (by rw [bs_eq, up_at]) (by omega) nw)
  obtain ⟨k, hk, eC⟩ := hC i (by omega)
  have h := m_dig (k := k) (b := b) e1 e3 hi hL hk (by omega) (fun h => by rw [e0]; exact eC)
  have pk1 : pk r (nI k) = if pDig (nI k) (nI (b + 1)) = 0 then (0, r) else (pDig (nI k) (nI (b + 1)), upd (upd r 3 (nI k - 48)) 0 (3 + 1)) := by
    unfold pk pFits pKeep
    simp only [r0, hp, eq_false (show ¬ (3 : Int32) = 5 by decide), eq_false (show ¬ (3 : Int32) = 0 by decide), eq_false (show ¬ (3 : Int32) = 1 by decide), eq_false (show ¬ (3 : Int32) = 2 by decide), if_false, if_true, up_ne r (nI k - 48) (show (0 : Nat) ≠ 3 by decide)]
  rw [p_dig hk (by omega)] at pk1
  by_cases c2 : 48 ≤ k ∧ k ≤ 48 + b
  · rw [if_pos ⟨by omega, c2⟩] at h
    rw [if_pos (show 48 ≤ k ∧ k < 48 + (b + 1) by omega), if_neg (show ¬ (1 : Int32) = 0 by decide), ← eC] at pk1
    obtain ⟨m, rfl⟩ : ∃ y, m = y + 1 := ⟨m - 1, by omega⟩
    rw [h, if_neg (show ¬ (1 : Int32) = 0 by decide), tr_on (by omega) pk1 (by rw [eC]; exact nI_ne' (b := 59) (by omega) (by decide) (by omega)), eC]
    refine back _ (i + 1) _ _ (rd_star hL hC (by omega) (by omega) ?_ ?_ ?_ ?_ ?_ ?_ ?_ ?_ ?_)
    · rw [bs_ne _ _ (by decide)]; exact e0
    · rw [bs_eq, up_ne _ _ (by decide), up_ne _ _ (by decide)]; exact e1
    · rw [bs_eq, up_at]
    · rw [up_at]; decide
    · rw [up_ne _ _ (by decide), up_ne _ _ (by decide)]; exact r4
    · rw [bs_eq, up_ne _ _ (by decide), up_ne _ _ (by decide), up_ne _ _ (by decide), up_ne _ _ (by decide)]; exact e5
    · rw [bs_eq, up_ne _ _ (by decide), up_ne _ _ (by decide), up_ne _ _ (by decide), up_ne _ _ (by decide)]; exact e6
    · rw [bs_eq, up_ne _ _ (by decide), up_at, up_ne _ _ (by decide), up_at]
    · rw [up_ne _ _ (by decide), up_ne _ _ (by decide)]; exact hx
  · rw [if_neg (fun p => c2 p.2)] at h
    rw [if_neg (show ¬ (48 ≤ k ∧ k < 48 + (b + 1)) by omega), if_pos rfl, ← eC] at pk1
    obtain ⟨y, h⟩ := h
    rw [h, if_pos rfl, tr_bad (by omega) hm (by rw [pk1])]
    exact back y i _ _ (rd_180no (by rw [bs_eq, up_at]) (by omega) nw)

-- the letter of an order; an order from its start (own text)
theorem rd_90 {L : Nat} {C : Nat → Int32} (hL : L ≤ 60) (hC : ∀ x : Nat, x < L → ∃ k : Nat, k ≤ 126 ∧ C x = nI k) {i m : Nat} {u : bU} {r : Nat → Int32} {x1 : Int32} (hi : i < L) (hm : L < i + 1 + m) (e0 : u 3 = C) (e1 : u 6 1 = nI L) (e3 : u 6 3 = nI i) (r0 : r 0 = 1) (r4 : r 4 = 0) (e5 : u 6 5 = r 1) (hx : x1 = if r 1 = 100 then 1 else 0) : rdOK u (J6_readOrder_90 u x1) (tr C L m r (i + 1)) := by
  unfold J6_readOrder_90
  rw [bput_up u, e3, show (nI i + 1 : Int32) = nI (i + 1) from nI_add i 1]
  have go : ∀ b : Nat, b ≤ 8 → nI (b + 1) = (if r 1 = 100 then 8 else 6) → rdOK u (J6_readOrder_111 (bs u 6 (upd (u 6) 3 (nI (i + 1)))) (nI b) x1) (tr C L m r (i + 1)) := fun b hb hp => rdOK_up (rd_first hL hb hC (by omega) (by omega) (by rw [bs_ne _ _ (by decide)]; exact e0) (by rw [bs_eq, up_ne _ _ (by decide)]; exact e1) (by rw [bs_eq, up_at]) r0 r4 (by rw [bs_eq, up_ne _ _ (by decide)]; exact e5) hx hp) rfl (up_ne _ _ (by decide)) (up_ne _ _ (by decide)) (up_ne _ _ (by decide))
  by_cases d : r 1 = 100
  · rw [if_neg (show ¬ x1 = 0 by rw [hx, if_pos d]; decide)]
    exact go 7 (by decide) (by rw [if_pos d]; rfl)
  · rw [if_pos (show x1 = 0 by rw [hx, if_neg d])]
    exact go 5 (by decide) (by rw [if_neg d]; rfl)
theorem rd_order {L : Nat} {C : Nat → Int32} (hL : L ≤ 60) (hC : ∀ x : Nat, x < L → ∃ k : Nat, k ≤ 126 ∧ C x = nI k) {i m : Nat} {u : bU} {r : Nat → Int32} (hi : i ≤ L) (hm : L < i + m) (e0 : u 3 = C) (e1 : u 6 1 = nI L) (e3 : u 6 3 = nI i) (r0 : r 0 = 0) (r4 : r 4 = 0) : rdOK u (F6_readOrder u) (tr C L m r i) := by
  have nw : pWhole r = 0 := pWhole_no (by rw [r0]; decide)
  have no : ∀ (y : Int32) (kd : Nat), kd ≠ 1 → rdOK u (0, bs u 6 (upd (upd (u 6) 4 0) 5 y)) (kd, i, r) := by
    intro y kd hk
    refine ⟨⟨_, rfl, rfl, rfl, rfl⟩, ?_, ?_, ?_, fun p => absurd nw p⟩
    · dsimp only
      rw [if_neg hk]
    · dsimp only
      rw [bs_eq, up_ne _ _ (by decide), up_ne _ _ (by decide), e3, if_neg hk]; rfl
    · dsimp only
      rw [bs_eq, up_ne _ _ (by decide), up_at, nw]
  unfold F6_readOrder
  rw [bput_up u, bs_eq, up_ne (u 6) 0 (show (1 : Nat) ≠ 4 by decide), up_ne (u 6) 0 (show (3 : Nat) ≠ 4 by decide), e1, e3, bs_ne u _ (show (3 : Nat) ≠ 6 by decide), e0, mC (by omega)]
  by_cases c1 : L ≤ i
  · rw [if_pos ((nI_is (by omega) (by omega)).2.1.mpr c1), tr_end c1, bs_up]
    exact no 0 2 (by omega)
  rw [if_neg (fun p => c1 ((nI_is (by omega) (by omega)).2.1.mp p))]
  obtain ⟨k, hk, eC⟩ := hC i (by omega)
  rw [eC, bs_up, bs_eq, up_at]
  have ft : pFits r (nI k) = if nI k = (100 : Int32) then 1 else if nI k = (115 : Int32) then 1 else if nI k = (114 : Int32) then 1 else if nI k = (98 : Int32) then 1 else if nI k = (99 : Int32) then 1 else 0 := by
    unfold pFits; rw [if_pos r0]
  have pk1 : pk r (C i) = if pFits r (nI k) = 0 then (0, r) else (pFits r (nI k), upd (upd r 1 (nI k)) 0 (0 + 1)) := by
    unfold pk pKeep
    rw [eC]
    simp only [r0, eq_false (show ¬ (0 : Int32) = 5 by decide), if_false, if_true, up_ne r (nI k) (show (0 : Nat) ≠ 1 by decide)]
  have go : ∀ x1 : Int32, pFits r (nI k) = 1 → nI k ≠ 59 → x1 = (if nI k = 100 then 1 else 0) → rdOK u (J6_readOrder_90 (bs u 6 (upd (upd (u 6) 4 0) 5 (nI k))) x1) (tr C L m r i) := by
    intro x1 h1 h59 hx
    obtain ⟨m, rfl⟩ : ∃ y, m = y + 1 := ⟨m - 1, by omega⟩
    rw [h1, if_neg (show ¬ (1 : Int32) = 0 by decide)] at pk1
    rw [tr_on (by omega) pk1 (by rw [eC]; exact h59)]
    refine rdOK_up (rd_90 hL hC (by omega) (by omega) ?_ ?_ ?_ ?_ ?_ ?_ ?_) rfl ?_ ?_ ?_
    · rw [bs_ne _ _ (by decide)]; exact e0
    · rw [bs_eq, up_ne _ _ (by decide), up_ne _ _ (by decide)]; exact e1
    · rw [bs_eq, up_ne _ _ (by decide), up_ne _ _ (by decide)]; exact e3
    · rw [up_at]; decide
    · rw [up_ne _ _ (by decide), up_ne _ _ (by decide)]; exact r4
    · rw [bs_eq, up_at, up_ne _ _ (by decide), up_at]
    · rw [up_ne _ _ (by decide), up_at]; exact hx
    · rw [up_ne _ _ (by decide), up_ne _ _ (by decide)]
    · rw [up_ne _ _ (by decide), up_ne _ _ (by decide)]
    · rw [up_ne _ _ (by decide), up_ne _ _ (by decide)]
  by_cases d1 : nI k = 100
  · rw [if_pos d1]; exact go 1 (by rw [ft, if_pos d1]) (by rw [d1]; decide) (by rw [if_pos d1])
  rw [if_neg d1]
  by_cases d2 : nI k = 115
  · rw [if_pos d2]; exact go 0 (by rw [ft, if_neg d1, if_pos d2]) (by rw [d2]; decide) (by rw [if_neg d1])
  rw [if_neg d2]
  by_cases d3 : nI k = 114
  · rw [if_pos d3]; exact go 0 (by rw [ft, if_neg d1, if_neg d2, if_pos d3]) (by rw [d3]; decide) (by rw [if_neg d1])
  rw [if_neg d3]
  by_cases d4 : nI k = 98
  · rw [if_pos d4]; exact go 0 (by rw [ft, if_neg d1, if_neg d2, if_neg d3, if_pos d4]) (by rw [d4]; decide) (by rw [if_neg d1])
  rw [if_neg d4]
  by_cases d5 : nI k = 99
  · rw [if_pos d5]; exact go 0 (by rw [ft, if_neg d1, if_neg d2, if_neg d3, if_neg d4, if_pos d5]) (by rw [d5]; decide) (by rw [if_neg d1])
  rw [if_neg d5, tr_bad (by omega) hm (by rw [pk1, ft, if_neg d1, if_neg d2, if_neg d3, if_neg d4, if_neg d5, if_pos rfl])]
  exact no _ 0 (by omega)

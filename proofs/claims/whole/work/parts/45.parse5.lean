-- a digit of an order (own text)
theorem rd_180no {u : bU} {i kd : Nat} {r : Nat → Int32} {x1 : Int32} (e3 : u 6 3 = nI i) (hk : kd ≠ 1) (hw : pWhole r = 0) : rdOK u (J6_readOrder_180 u 0 x1) (kd, i, r) := by
  unfold J6_readOrder_180
  rw [if_pos rfl, bput_up]
  exact rdOK_up (rd_no (u := bs u 6 (upd (u 6) 7 (u 6 9))) (by rw [bs_eq, up_ne _ _ (by decide)]; exact e3) hk hw) rfl (by rw [up_ne _ _ (by decide)]) (by rw [up_ne _ _ (by decide)]) (by rw [up_ne _ _ (by decide)])
theorem i_under {k : Nat} (h : k < 48) : nI k - 48 < 0 := by
  revert k
  decide
theorem m_dig {u : bU} {i L k b : Nat} (e1 : u 6 1 = nI L) (e3 : u 6 3 = nI i) (hi : i ≤ L) (hL : L ≤ 60) (hk : k ≤ 126) (hb : b ≤ 10) (hc : i < L → u 3 i = nI k) : if i < L ∧ 48 ≤ k ∧ k ≤ 48 + b then F6_digitTo u (nI b) = (1, bs u 6 (upd (upd (u 6) 9 (nI k - 48)) 3 (nI (i + 1)))) else ∃ y : Int32, F6_digitTo u (nI b) = (0, bs u 6 (upd (upd (u 6) 9 y) 3 (nI i))) := by
  unfold F6_digitTo
  rw [e1, e3, mC (by omega)]
  have h := (nI_is (a := L) (b := i) (by omega) (by omega)).2.1
  by_cases c : L ≤ i
  · rw [if_neg (show ¬ (i < L ∧ 48 ≤ k ∧ k ≤ 48 + b) by omega)]
    refine ⟨-1, ?_⟩
    have z : F6_in (-1) 0 (nI b) = 0 := by unfold F6_in; rw [if_pos (by decide)]
    rw [if_pos (h.mpr c), bput_at, if_pos z, z, bput_ne _ _ (by decide), e3, Int32.add_zero, bput_up u, bs_up]
  · rw [if_neg (fun q => c (h.mp q)), hc (by omega), bput_at, bput_ne _ _ (by decide), e3, Int32.add_zero, show (nI i + 1 : Int32) = nI (i + 1) from nI_add i 1, bput_up u, bs_up, bs_up]
    by_cases d : 48 ≤ k
    · have z : F6_in (nI k - 48) 0 (nI b) = if 0 ≤ k - 48 ∧ k - 48 ≤ b then 1 else 0 := by
        rw [show (nI k - 48 : Int32) = nI (k - 48) from pk_sub (b := 48) d]
        exact m_in (a := 0) (by omega) (by decide) (by omega)
      by_cases e : k ≤ 48 + b
      · rw [if_pos (show i < L ∧ 48 ≤ k ∧ k ≤ 48 + b by omega), z, if_pos (show 0 ≤ k - 48 ∧ k - 48 ≤ b by omega), if_neg (by decide)]
      · rw [if_neg (show ¬ (i < L ∧ 48 ≤ k ∧ k ≤ 48 + b) by omega), z, if_neg (show ¬ (0 ≤ k - 48 ∧ k - 48 ≤ b) by omega), if_pos rfl]
        exact ⟨_, rfl⟩
    · have z : F6_in (nI k - 48) 0 (nI b) = 0 := by unfold F6_in; rw [if_pos (i_under (by omega))]
      rw [if_neg (show ¬ (i < L ∧ 48 ≤ k ∧ k ≤ 48 + b) by omega), z, if_pos rfl]
      exact ⟨_, rfl⟩

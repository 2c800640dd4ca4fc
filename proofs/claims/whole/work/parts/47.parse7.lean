-- the sign of an order (own text)
theorem rd_sign {L : Nat} {C : Nat → Int32} (hL : L ≤ 60) (hC : ∀ x : Nat, x < L → ∃ k : Nat, k ≤ 126 ∧ C x = nI k) {i m : Nat} {u : bU} {r : Nat → Int32} {x1 y0 : Int32} (hi : i ≤ L) (hm : L < i + m) (e0 : u 3 = C) (e1 : u 6 1 = nI L) (e3 : u 6 3 = nI i) (r0 : r 0 = 2) (r4 : r 4 = 0) (e5 : u 6 5 = r 1) (e6 : u 6 6 = r 2) (hx : x1 = if r 1 = 100 then 1 else 0) (hy : y0 = if r 1 = 100 then 62 else 58) : rdOK u (J6_readOrder_139 u y0 x1) (tr C L m r i) := by
  have nw : pWhole r = 0 := pWhole_no (by rw [r0]; decide)
  unfold J6_readOrder_139
  have back : ∀ (j : Nat) (q : Int32 × bU) (T : Nat × Nat × (Nat → Int32)), rdOK (bs u 6 (upd (u 6) 3 (nI j))) q T → rdOK u q T := fun j q T h => rdOK_up h rfl (by rw [up_ne _ _ (by decide)]) (by rw [up_ne _ _ (by decide)]) (by rw [up_ne _ _ (by decide)])
  by_cases c1 : L ≤ i
  · rw [m_sign (k := 0) e1 e3 hi hL (fun h => absurd h (by omega)), if_neg (show ¬ (i < L ∧ nI 0 = y0) from fun p => absurd p.1 (by omega)), if_pos rfl, tr_end c1]
    exact back i _ _ (rd_180no (by rw [bs_eq, up_at]) (by omega) nw)
  obtain ⟨k, hk, eC⟩ := hC i (by omega)
  rw [m_sign (k := k) e1 e3 hi hL (fun h => by rw [e0]; exact eC)]
  have pk1 : pk r (nI k) = if (if nI k = y0 then (1 : Int32) else 0) = 0 then (0, r) else ((if nI k = y0 then 1 else 0), upd r 0 (2 + 1)) := by
    unfold pk pFits pKeep
    simp only [r0, eq_false (show ¬ (2 : Int32) = 5 by decide), eq_false (show ¬ (2 : Int32) = 0 by decide), eq_false (show ¬ (2 : Int32) = 1 by decide), eq_false (show ¬ (2 : Int32) = 3 by decide), if_false, if_true]
    rw [hy]
    by_cases d : r 1 = 100
    · simp only [eq_true d, if_true]
    · simp only [eq_false d, if_false]
  by_cases c2 : nI k = y0
  · rw [if_pos c2, if_neg (show ¬ (1 : Int32) = 0 by decide), ← eC] at pk1
    have n59 : C i ≠ 59 := by
      rw [eC, c2, hy]
      by_cases d : r 1 = 100
      · rw [if_pos d]; decide
      · rw [if_neg d]; decide
    obtain ⟨m, rfl⟩ : ∃ y, m = y + 1 := ⟨m - 1, by omega⟩
    rw [if_pos (show i < L ∧ nI k = y0 from ⟨by omega, c2⟩), if_neg (show ¬ (1 : Int32) = 0 by decide), tr_on (by omega) pk1 n59]
    dsimp only
    have e9 : bs u 6 (upd (u 6) 3 (nI (i + 1))) 6 5 = r 1 := by rw [bs_eq, up_ne _ _ (by decide)]; exact e5
    have go : ∀ b : Nat, b ≤ 8 → pSec r = nI (b + 1) → rdOK u (J6_readOrder_169 (bs u 6 (upd (u 6) 3 (nI (i + 1)))) (nI b) x1) (tr C L m (upd r 0 (2 + 1)) (i + 1)) := fun b hb hp => back (i + 1) _ _ (rd_second hL hb hC (by omega) (by omega) (by rw [bs_ne _ _ (by decide)]; exact e0) (by rw [bs_eq, up_ne _ _ (by decide)]; exact e1) (by rw [bs_eq, up_at]) (by rw [up_at]; decide) (by rw [up_ne _ _ (by decide)]; exact r4) (by rw [e9, up_ne _ _ (by decide)]) (by rw [bs_eq, up_ne _ _ (by decide), up_ne _ _ (by decide)]; exact e6) (by rw [up_ne _ _ (by decide)]; exact hx) (by unfold pSec at hp ⊢; rw [up_ne _ _ (by decide)]; exact hp))
    by_cases d : r 1 = 100
    · rw [if_neg (show ¬ x1 = 0 by rw [hx, if_pos d]; decide)]
      exact go 5 (by decide) (by unfold pSec; rw [if_pos d]; rfl)
    · rw [if_pos (show x1 = 0 by rw [hx, if_neg d])]
      by_cases d2 : r 1 = 99
      · rw [if_pos (e9.trans d2)]
        exact go 2 (by decide) (by unfold pSec; rw [if_neg d, if_pos d2]; rfl)
      · rw [if_neg (fun p => d2 (e9.symm.trans p))]
        exact go 7 (by decide) (by unfold pSec; rw [if_neg d, if_neg d2]; rfl)
  · rw [if_neg c2, if_pos rfl, ← eC] at pk1
    rw [if_neg (show ¬ (i < L ∧ nI k = y0) from fun p => c2 p.2), if_pos rfl, tr_bad (by omega) hm (by rw [pk1])]
    exact back i _ _ (rd_180no (by rw [bs_eq, up_at]) (by omega) nw)

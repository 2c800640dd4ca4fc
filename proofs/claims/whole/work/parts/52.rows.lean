-- what the row of an order may hold (own text)
def rowS (r : Nat → Int32) : Prop := ∃ s q : Nat, s ≤ 5 ∧ r 0 = nI s ∧ r 4 = nI q ∧ q ≤ 500 ∧ (s < 5 → q = 0) ∧ (1 ≤ s → r 1 = 100 ∨ r 1 = 115 ∨ r 1 = 114 ∨ r 1 = 98 ∨ r 1 = 99) ∧ (4 ≤ s → r 1 = 99 → ∃ g : Nat, g < 3 ∧ r 3 = nI g) ∧ (r 1 = 100 ∨ r 1 = 99 → q ≤ 50)
theorem rowS_Z (r : Nat → Int32) : rowS (pZ r) := ⟨0, 0, by omega, rfl, rfl, by omega, fun _ => rfl, fun h => absurd h (by omega), fun h => absurd h (by omega), fun _ => by omega⟩
theorem rowS_on {r f : Nat → Int32} {s : Nat} (hs : s ≤ 4) (r0 : r 0 = nI s) (r4 : r 4 = nI 0) (f0 : f 0 = r 0) (f4 : f 4 = r 4) (fl : f 1 = 100 ∨ f 1 = 115 ∨ f 1 = 114 ∨ f 1 = 98 ∨ f 1 = 99) (fk : 3 ≤ s → f 1 = 99 → ∃ g : Nat, g < 3 ∧ f 3 = nI g) : rowS (upd f 0 (f 0 + 1)) := by
  refine ⟨s + 1, 0, by omega, ?_, ?_, by omega, fun _ => rfl, fun _ => ?_, fun h1 h2 => ?_, fun _ => by omega⟩
  · rw [up_at, f0, r0, nI_1]
  · rw [up_ne _ _ (by decide), f4, r4]
  · rw [up_ne _ _ (by decide)]; exact fl
  · rw [up_ne _ _ (by decide)] at h2 ⊢
    exact fk (by omega) h2
theorem pk_row {r : Nat → Int32} {k : Nat} (hk : k ≤ 126) (h : rowS r) (h0 : (pk r (nI k)).1 ≠ 0) (h59 : nI k ≠ 59) : rowS (pk r (nI k)).2 := by
  obtain ⟨s, q, hs, r0, r4, hq, hz, hl, hg, hM⟩ := h
  by_cases c5 : s = 5
  · subst c5
    have r05 : r 0 = 5 := r0
    have e : pk r (nI k) = if pDig (nI k) 10 = 0 then (0, r) else if (((10 * (r 4)) + nI k) - 48) < (1 : Int32) then (0, r) else if pMost r < (((10 * (r 4)) + nI k) - 48) then (0, r) else (1, upd r 4 (((10 * (r 4)) + nI k) - 48)) := by
      unfold pk; rw [if_pos r05]; unfold pNum; rw [if_neg h59]
    rw [show pDig (nI k) 10 = (if 48 ≤ k ∧ k < 48 + 10 then 1 else 0) from p_dig (b := 10) hk (by decide)] at e
    by_cases c3 : 48 ≤ k ∧ k < 48 + 10
    · rw [if_pos c3, if_neg (show ¬ (1 : Int32) = 0 by decide), r4, v_num c3.1] at e
      by_cases c4 : nI (10 * q + k - 48) < 1
      · rw [if_pos c4] at e; rw [e] at h0; exact absurd rfl h0
      rw [if_neg c4] at e
      by_cases c6 : pMost r < nI (10 * q + k - 48)
      · rw [if_pos c6] at e; rw [e] at h0; exact absurd rfl h0
      rw [if_neg c6] at e
      rw [e]
      have hp : (pMost r = nI 50) ∨ (pMost r = nI 500 ∧ r 1 ≠ 100 ∧ r 1 ≠ 99) := by
        unfold pMost
        by_cases d1 : r 1 = 100
        · rw [if_pos d1]; exact Or.inl rfl
        rw [if_neg d1]
        by_cases d2 : r 1 = 99
        · rw [if_pos d2]; exact Or.inl rfl
        rw [if_neg d2]; exact Or.inr ⟨rfl, d1, d2⟩
      have hv : 10 * q + k - 48 ≤ 50 ∨ (10 * q + k - 48 ≤ 500 ∧ r 1 ≠ 100 ∧ r 1 ≠ 99) := by
        rcases hp with hp | ⟨hp, d1, d2⟩
        · rw [hp] at c6
          exact Or.inl (Nat.le_of_not_lt (fun p => c6 ((nI_is (by omega) (by omega)).2.2.mpr p)))
        · rw [hp] at c6
          exact Or.inr ⟨Nat.le_of_not_lt (fun p => c6 ((nI_is (by omega) (by omega)).2.2.mpr p)), d1, d2⟩
      refine ⟨5, 10 * q + k - 48, by omega, ?_, ?_, by omega, fun h => absurd h (by omega), fun _ => ?_, fun h1 h2 => ?_, fun h1 => ?_⟩
      · dsimp only; rw [up_ne _ _ (by decide)]; exact r0
      · dsimp only; rw [up_at]
      · dsimp only; rw [up_ne _ _ (by decide)]; exact hl (by omega)
      · dsimp only at h2 ⊢
        rw [up_ne _ _ (by decide)] at h2 ⊢
        exact hg (by omega) h2
      · dsimp only at h1
        rw [up_ne _ _ (by decide)] at h1
        rcases hv with hv | ⟨_, d1, d2⟩
        · exact hv
        · rcases h1 with h1 | h1
          · exact absurd h1 d1
          · exact absurd h1 d2
    · rw [if_neg c3, if_pos rfl] at e
      rw [e] at h0; exact absurd rfl h0
  · have hq0 : q = 0 := hz (by omega)
    subst hq0
    have n5 : ¬ r 0 = 5 := by rw [r0]; exact nI_ne' (b := 5) (by omega) (by decide) c5
    have e : pk r (nI k) = if pFits r (nI k) = 0 then (0, r) else (pFits r (nI k), upd (pKeep r (nI k)) 0 (pKeep r (nI k) 0 + 1)) := by
      unfold pk; rw [if_neg n5]
    by_cases cf : pFits r (nI k) = 0
    · rw [if_pos cf] at e; rw [e] at h0; exact absurd rfl h0
    rw [if_neg cf] at e
    rw [e]
    dsimp only
    have hs5 : s = 0 ∨ s = 1 ∨ s = 2 ∨ s = 3 ∨ s = 4 := by omega
    rcases hs5 with rfl | rfl | rfl | rfl | rfl
    · have z : r 0 = 0 := r0
      have ek : pKeep r (nI k) = upd r 1 (nI k) := by unfold pKeep; rw [if_pos z]
      unfold pFits at cf
      rw [if_pos z] at cf
      rw [ek]
      refine rowS_on (s := 0) (by omega) r0 r4 (up_ne _ _ (by decide)) (up_ne _ _ (by decide)) ?_ (fun h => absurd h (by omega))
      rw [up_at]
      by_cases d1 : nI k = 100
      · exact Or.inl d1
      by_cases d2 : nI k = 115
      · exact Or.inr (Or.inl d2)
      by_cases d3 : nI k = 114
      · exact Or.inr (Or.inr (Or.inl d3))
      by_cases d4 : nI k = 98
      · exact Or.inr (Or.inr (Or.inr (Or.inl d4)))
      by_cases d5 : nI k = 99
      · exact Or.inr (Or.inr (Or.inr (Or.inr d5)))
      rw [if_neg d1, if_neg d2, if_neg d3, if_neg d4, if_neg d5] at cf
      exact absurd rfl cf
    · have z0 : ¬ r 0 = 0 := by rw [r0]; decide
      have z : r 0 = 1 := r0
      have ek : pKeep r (nI k) = upd r 2 (nI k - 48) := by unfold pKeep; rw [if_neg z0, if_pos z]
      rw [ek]
      exact rowS_on (s := 1) (by omega) r0 r4 (up_ne _ _ (by decide)) (up_ne _ _ (by decide)) (by rw [up_ne _ _ (by decide)]; exact hl (by omega)) (fun h => absurd h (by omega))
    · have z0 : ¬ r 0 = 0 := by rw [r0]; decide
      have z1 : ¬ r 0 = 1 := by rw [r0]; decide
      have z3 : ¬ r 0 = 3 := by rw [r0]; decide
      have ek : pKeep r (nI k) = r := by unfold pKeep; rw [if_neg z0, if_neg z1, if_neg z3]
      rw [ek]
      exact rowS_on (s := 2) (by omega) r0 r4 rfl rfl (hl (by omega)) (fun h => absurd h (by omega))
    · have z0 : ¬ r 0 = 0 := by rw [r0]; decide
      have z1 : ¬ r 0 = 1 := by rw [r0]; decide
      have z2 : ¬ r 0 = 2 := by rw [r0]; decide
      have z3 : r 0 = 3 := r0
      have ek : pKeep r (nI k) = upd r 3 (nI k - 48) := by unfold pKeep; rw [if_neg z0, if_neg z1, if_pos z3]
      unfold pFits at cf
      rw [if_neg z0, if_neg z1, if_neg z2, if_pos z3] at cf
      rw [ek]
      refine rowS_on (s := 3) (by omega) r0 r4 (up_ne _ _ (by decide)) (up_ne _ _ (by decide)) (by rw [up_ne _ _ (by decide)]; exact hl (by omega)) (fun _ h99 => ?_)
      rw [up_ne _ _ (by decide)] at h99
      have e3 : pSec r = nI 3 := by unfold pSec; rw [if_neg (by rw [h99]; decide), if_pos h99]; rfl
      rw [e3, p_dig hk (by omega)] at cf
      by_cases d : 48 ≤ k ∧ k < 48 + 3
      · exact ⟨k - 48, by omega, by rw [up_at]; exact pk_sub (b := 48) d.1⟩
      · rw [if_neg d] at cf; exact absurd rfl cf
    · have z0 : ¬ r 0 = 0 := by rw [r0]; decide
      have z1 : ¬ r 0 = 1 := by rw [r0]; decide
      have z3 : ¬ r 0 = 3 := by rw [r0]; decide
      have ek : pKeep r (nI k) = r := by unfold pKeep; rw [if_neg z0, if_neg z1, if_neg z3]
      rw [ek]
      exact rowS_on (s := 4) (by omega) r0 r4 rfl rfl (hl (by omega)) (fun _ h99 => hg (by omega) h99)
theorem tr_row {c : Nat → Int32} {L : Nat} (hC : ∀ x : Nat, x < L → ∃ k : Nat, k ≤ 126 ∧ c x = nI k) : ∀ (m i : Nat) (r : Nat → Int32), rowS r → rowS (tr c L m r i).2.2 := by
  intro m
  induction m with
  | zero => intro i r h; exact h
  | succ m ih =>
    intro i r h
    rw [tr]
    by_cases c1 : L ≤ i
    · rw [if_pos c1]; exact h
    rw [if_neg c1]
    by_cases c2 : (pk r (c i)).1 = 0
    · rw [if_pos c2]; exact h
    rw [if_neg c2]
    by_cases c3 : c i = 59
    · rw [if_pos c3]; exact h
    rw [if_neg c3]
    obtain ⟨k, hk, e⟩ := hC i (by omega)
    refine ih (i + 1) _ ?_
    rw [e] at c2 c3 ⊢
    exact pk_row hk h c2 c3

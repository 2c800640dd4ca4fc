-- the run, order by order (own text)
theorem g_6 {B n t : Nat} {m : Nat → Int32} (h : gJ B n t m) (x : Int32) : gJ B n t (upd m 6 x) := by
  have k0 : ∀ w : Nat → Int, w 6 = 0 → ksum w [(6, x - m 6)] = 0 := fun w e => by
    show w 6 * (x - m 6).toInt + 0 = 0
    rw [e]; omega
  have q := gQ_adds (B' := B) (L := [(6, x - m 6)]) h (Nat.le_refl _) (by simp) (by
    intro p hp
    simp only [List.mem_cons, List.not_mem_nil, or_false] at hp
    rw [hp]
    exact Or.inl ⟨show (2 : Nat) ≤ 6 by decide, show (6 : Nat) ≤ 6 by decide⟩) (by
    intro p hp
    simp only [List.mem_cons, List.not_mem_nil, or_false] at hp
    rw [hp]
    exact Or.inl ⟨wv_P_g6, show (6 : Nat) ≠ 3 by decide⟩) (by rw [k0 _ wv_T_g6]; omega) (by rw [k0 _ wv_G_g6, k0 _ wv_F_g6]; omega) (by rw [k0 _ wv_G_g6, k0 _ wv_F_g6]; omega) (by rw [k0 _ wv_D_g6]; omega)
  rw [k0 _ wv_A_g6, k0 _ wv_B_g6, show adds m [(6, x - m 6)] = upd m 6 x from (upd_as m 6 x).symm, show (0 : Int) + 0 = 0 from rfl] at q
  exact q
theorem bput_id (u : bU) {k i : Nat} {x : Int32} (h : u k i = x) : bput u k i x = u := by
  rw [bput_up, show upd (u k) i x = u k from by
    funext j
    by_cases c : j = i
    · subst c; rw [up_at, h]
    · rw [up_ne _ _ c], bs_self]
theorem pWhole_5 {r : Nat → Int32} (h : pWhole r ≠ 0) : r 0 = 5 := by
  unfold pWhole at h
  by_cases c : r 0 = 5
  · exact c
  · rw [if_neg c] at h; exact absurd rfl h
theorem rn_scan {c : Nat → Int32} {L : Nat} (hL : L ≤ 60) : ∀ (m n i : Nat) (u : bU) (x1 x2 : Int32), i ≤ L → L < i + m → L + 1 < i + n → u 11 2 = nI L → (∀ x : Nat, x < L → u 2 x = c x) → (tr c L m (u 10) i).1 ≠ 0 → ∃ n' : Nat, L + 1 < (tr c L m (u 10) i).2.1 + n' ∧ L5_carryOutOrders_13 u n i x1 x2 = L5_carryOutOrders_13 (bs u 10 (tr c L m (u 10) i).2.2) n' (tr c L m (u 10) i).2.1 x1 x2 := by
  intro m
  induction m with
  | zero => intro n i u x1 x2 h1 h2; omega
  | succ m ih =>
    intro n i u x1 x2 h1 h2 h3 e1 e2 h0
    rw [tr] at h0 ⊢
    by_cases c1 : L ≤ i
    · rw [if_pos c1]; exact ⟨n, h3, by dsimp only; rw [bs_self]⟩
    rw [if_neg c1] at h0 ⊢
    by_cases c2 : (pk (u 10) (c i)).1 = 0
    · rw [if_pos c2] at h0; exact absurd rfl h0
    rw [if_neg c2] at h0 ⊢
    by_cases c3 : c i = 59
    · rw [if_pos c3]; exact ⟨n, h3, by dsimp only; rw [bs_self]⟩
    rw [if_neg c3] at h0 ⊢
    obtain ⟨n, rfl⟩ : ∃ y, n = y + 1 := ⟨n - 1, by omega⟩
    have st : L5_carryOutOrders_13 u (n + 1) i x1 x2 = L5_carryOutOrders_13 (bs u 10 (pk (u 10) (c i)).2) n (i + 1) x1 x2 := by
      rw [L5_carryOutOrders_13, show F3_length u = nI L from e1, if_neg (show ¬ nI L < nI i from fun p => by have := (nI_is (a := L) (b := i) (by omega) (by omega)).2.2.mp p; omega), if_neg (show ¬ nI L ≤ nI i from fun p => c1 ((nI_is (by omega) (by omega)).2.1.mp p)), c_code hL (by omega) e2, if_neg c3, p_takesO]
    rw [st]
    have h := ih n (i + 1) (bs u 10 (pk (u 10) (c i)).2) x1 x2 (by omega) (by omega) (by omega) (by rw [bs_ne _ _ (by decide)]; exact e1) (fun x hx => by rw [bs_ne _ _ (by decide)]; exact e2 x hx) (by rw [bs_eq]; exact h0)
    rw [bs_eq] at h
    simp only [bs_bs] at h
    exact h
theorem rn_at {c : Nat → Int32} {L p n : Nat} (hL : L ≤ 60) {w : bU} {r : Nat → Int32} {x1 x2 : Int32} (hp : p ≤ L) (h : p < L → c p = 59) (e10 : w 10 = r) (e1 : w 11 2 = nI L) (e2 : ∀ x : Nat, x < L → w 2 x = c x) : L5_carryOutOrders_13 w (n + 1) p x1 x2 = if F5_reasonAgainstOrder w (r 2) (r 3) (r 4) = 0 then L5_carryOutOrders_13 (F0_takesO (F5_carryOutOrder w (r 2) (r 3) (r 4)) 59).2 n (p + 1) (x1 + 1) (F5_reasonAgainstOrder w (r 2) (r 3) (r 4)) else (x1, F5_reasonAgainstOrder w (r 2) (r 3) (r 4), w) := by
  subst e10
  rw [L5_carryOutOrders_13, show F3_length w = nI L from e1, if_neg (show ¬ nI L < nI p from fun q => by have := (nI_is (a := L) (b := p) (by omega) (by omega)).2.2.mp q; omega), show F0_firstO w = w 10 2 from rfl, show F0_secondO w = w 10 3 from rfl, show F0_numberO w = w 10 4 from rfl]
  by_cases c1 : L ≤ p
  · rw [if_pos (show nI L ≤ nI p from (nI_is (by omega) (by omega)).2.1.mpr c1)]
  · rw [if_neg (show ¬ nI L ≤ nI p from fun q => c1 ((nI_is (by omega) (by omega)).2.1.mp q)), c_code hL (by omega) e2, h (by omega), if_pos rfl]
theorem run_0 (v : bU) (x : Int32) : ∀ (n j : Nat), L6_run_50 v n j x 0 = (x, 0, v) := by
  intro n j
  cases n with
  | zero => rfl
  | succ n => rw [L6_run_50, if_pos rfl]
theorem carry_end {L : Nat} (hL : L ≤ 60) {w : bU} (e1 : w 11 2 = nI L) (x1 x2 : Int32) : ∀ n : Nat, L5_carryOutOrders_13 w n (L + 1) x1 x2 = (x1, x2, w) := by
  intro n
  cases n with
  | zero => rfl
  | succ n => rw [L5_carryOutOrders_13, show F3_length w = nI L from e1, if_pos ((nI_is (a := L) (b := L + 1) (by omega) (by omega)).2.2.mpr (by omega))]
def rnOK (B nb tb n i nm j : Nat) (u v : bU) (x1 x2 : Int32) : Prop := (∃ (y R zx : Int32) (w w' : bU), L5_carryOutOrders_13 u n i x1 x2 = (y, R, w) ∧ L6_run_50 v nm j x1 1 = (y, zx, w') ∧ (∀ k : Nat, k ≠ 0 → k ≠ 1 → k ≠ 10 → w k = u k) ∧ (∀ k : Nat, k ≠ 0 → k ≠ 6 → w' k = v k) ∧ w' 6 0 = v 6 0 ∧ w' 6 1 = v 6 1 ∧ w' 6 2 = v 6 2 ∧ rV ((bput w 0 9 R) 0) (w' 0) ∧ gJ B nb tb (w' 0)) ∧ mRunOk nm 1 v

-- what the latest saved state is behind a call
theorem lat_upd (u : bU) (f : Nat → Int32) (h : bLat u) : bLat (bs u 0 f) := h
theorem fr_put (u : bU) (a b : Int32) {k : Nat} (h0 : k ≠ 0) : F2_put u a b k = u k := by
  unfold F2_put
  (repeat' split) <;> first | rfl | exact bs_ne _ _ h0
theorem fr_addToBrand (u : bU) (a b d : Int32) {k : Nat} (h0 : k ≠ 0) : F2_addToBrand u a b d k = u k := fr_put _ _ _ h0
theorem fr_addToSwaps (u : bU) (a b d : Int32) {k : Nat} (h0 : k ≠ 0) : F2_addToSwaps u a b d k = u k := fr_put _ _ _ h0
theorem fr_swapBottles (u : bU) (a b d : Int32) {k : Nat} (h0 : k ≠ 0) : (F4_swapBottles u a b d).2 k = u k := by
  simp only [F4_swapBottles, fr_addToBrand _ _ _ _ h0, fr_addToSwaps _ _ _ _ h0]
theorem fr_pickOne (u : bU) {k : Nat} (h1 : k ≠ 1) : F4_pickOne u k = u k := by
  unfold F4_pickOne
  (repeat' split) <;> first | rfl | exact bs_ne _ _ h1
theorem fr_pickL3 (a b : Int32) {k : Nat} (h1 : k ≠ 1) : ∀ (n j : Nat) (u : bU), L4_pickEmpties_3 a b u n j k = u k := by
  intro n
  induction n with
  | zero => intro j u; rfl
  | succ n ih =>
    intro j u
    rw [L4_pickEmpties_3]
    (repeat' split) <;> first | rfl | (rw [ih]; exact bs_ne _ _ h1)
theorem fr_pickL72 (a : Int32) {k : Nat} (h1 : k ≠ 1) : ∀ (n j : Nat) (u : bU), L4_pickEmpties_72 a u n j k = u k := by
  intro n
  induction n with
  | zero => intro j u; rfl
  | succ n ih =>
    intro j u
    rw [L4_pickEmpties_72]
    (repeat' split) <;> first | rfl | (rw [ih]; exact fr_pickOne _ h1)
theorem fr_pickEmpties (u : bU) (a b d : Int32) {k : Nat} (h1 : k ≠ 1) : F4_pickEmpties u a b d k = u k := by
  rw [F4_pickEmpties, fr_pickL72 _ h1, fr_pickL3 _ _ h1]
theorem fr_wouldCollect (u : bU) (a b d : Int32) {k : Nat} (h1 : k ≠ 1) : (F4_wouldCollect u a b d).2 k = u k := by
  unfold F4_wouldCollect
  (repeat' split) <;> first | rfl | exact fr_pickEmpties _ _ _ _ h1
theorem lat_collected (u : bU) (a b d : Int32) (h : bLat u) : bLat (F5_collected u a b d).2 := by
  unfold bLat
  rw [show (F5_collected u a b d).2 11 = u 11 from fr_wouldCollect _ _ _ _ (by decide)]
  exact h
theorem lat_keep {u : bU} (h : bLat u) : bLat (F1_keep u) := by
  rcases h with h | h | h | h | h | h
  · rw [F1_keep_at0 h]
    unfold F1_keep_0 F2_copyFromS_1
    (repeat' split) <;> exact Or.inr (Or.inl rfl)
  · rw [F1_keep_at1 h]
    unfold F1_keep_1 F2_copyFromS_2
    (repeat' split) <;> exact Or.inr (Or.inr (Or.inl rfl))
  · rw [F1_keep_at2 h]
    unfold F1_keep_2 F2_copyFromS_3
    (repeat' split) <;> exact Or.inr (Or.inr (Or.inr (Or.inl rfl)))
  · rw [F1_keep_at3 h]
    unfold F1_keep_3 F2_copyFromS_4
    (repeat' split) <;> exact Or.inr (Or.inr (Or.inr (Or.inr (Or.inl rfl))))
  · rw [F1_keep_at4 h]
    unfold F1_keep_4 F2_copyFromS_5
    (repeat' split) <;> exact Or.inr (Or.inr (Or.inr (Or.inr (Or.inr rfl))))
  · rw [F1_keep_at5 h]
    unfold F1_keep_5 F2_copyFromS_0
    (repeat' split) <;> exact Or.inl rfl
theorem lat_swap (u : bU) (a b d : Int32) (h : bLat u) : bLat (F5_swap u a b d).2.2 := by
  unfold F5_swap
  (repeat' split) <;> first | exact h | (unfold bLat; rw [show (F4_swapBottles (F1_keep u) a b d).2 11 = F1_keep u 11 from fr_swapBottles _ _ _ _ (by decide)]; exact lat_keep h)

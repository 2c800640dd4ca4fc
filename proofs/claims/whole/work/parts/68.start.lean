-- the two states at the start (own text)
theorem Rel_0 : Rel 100000 uC0 uM0 := by
  refine ⟨⟨⟨?_, ?_⟩, 0, 0, ⟨⟨by decide, by decide, by decide +kernel, by decide +kernel⟩, ?_, ⟨?_, ?_, ?_⟩, ⟨?_, ⟨150, by decide, by decide +kernel⟩, ⟨6, by decide, by decide +kernel⟩, ⟨20, by decide, by decide, by decide +kernel⟩⟩, ⟨?_, ?_⟩, ?_⟩⟩, ⟨0, 0, by decide, by decide, by decide +kernel, by decide +kernel, by decide +kernel, fun i hi => absurd hi (Nat.not_lt_zero i)⟩, ⟨0, by decide, by decide +kernel, by decide +kernel, fun i hi => absurd hi (Nat.not_lt_zero i)⟩, ?_⟩
  · decide +kernel
  · have : ∀ f, f < 8 → ∀ t, t < 8 → uC0 0 (281 + 8 * f + t) = uM0 0 (219 + 8 * f + t) - uM0 0 (219 + 8 * t + f) := by decide +kernel
    exact fun f t hf ht => this f hf t ht
  · have : ∀ b, b < 8 → uM0 0 (13 + 10 * b) = nI 0 := by decide +kernel
    exact fun b hb => ⟨0, by decide, this b hb⟩
  · have : ∀ b, b < 8 → ∀ w, w < 10 → uM0 0 (13 + 10 * b + w) = 0 := by decide +kernel
    exact fun b w _ hb hw => this b hb w hw
  · have : ∀ i, i < 6 → ∀ w, w < 21 → uM0 0 (93 + 21 * i + w) = 0 := by decide +kernel
    exact fun i w _ hi hw => this i hi w hw
  · have : ∀ i, i < 6 → ∀ b, b < 8 → uM0 0 (93 + 21 * i + (5 + b)) = 0 ∧ uM0 0 (93 + 21 * i + (13 + b)) = 0 := by decide +kernel
    exact fun i b hi _ hb => this i hi b hb
  · intro k hk
    have : k = 0 ∨ k = 1 ∨ k = 2 := by omega
    rcases this with rfl | rfl | rfl
    · exact ⟨8, by decide, by decide, by decide +kernel⟩
    · exact ⟨15, by decide, by decide, by decide +kernel⟩
    · exact ⟨25, by decide, by decide, by decide +kernel⟩
  · decide +kernel
  · decide +kernel
  · decide +kernel
  · intro i hi
    have : ∀ i, i < 6 → uM0 4 i = tLeast i ∧ uM0 5 i = tMost i := by decide +kernel
    exact this i hi
theorem mInv_start : mInv uM0 := by
  refine ⟨fun k hk => ?_, ⟨0, by decide, by decide +kernel, fun j hj => absurd hj (by omega)⟩, ⟨0, by decide, by decide +kernel⟩, by decide +kernel⟩
  refine ⟨fun e => ⟨0, by decide, by subst e; decide +kernel⟩, fun e => ⟨0, by decide, by subst e; decide +kernel⟩, fun e => by subst e; decide +kernel, fun b hb e => ⟨0, by decide, ?_⟩⟩
  subst e
  have : ∀ b, b < 8 → uM0 0 (13 + 10 * b) = nI 0 := by decide +kernel
  exact this b hb
theorem lat_of {B : Nat} {a b : bU} (h : Rel B a b) : bLat a := by
  obtain ⟨_, ⟨n, l, hn, hl, e, _⟩, _⟩ := h
  have : l = 0 ∨ l = 1 ∨ l = 2 ∨ l = 3 ∨ l = 4 ∨ l = 5 := by omega
  unfold bLat
  rw [e]
  rcases this with rfl | rfl | rfl | rfl | rfl | rfl
  · exact Or.inl rfl
  · exact Or.inr (Or.inl rfl)
  · exact Or.inr (Or.inr (Or.inl rfl))
  · exact Or.inr (Or.inr (Or.inr (Or.inl rfl)))
  · exact Or.inr (Or.inr (Or.inr (Or.inr (Or.inl rfl))))
  · exact Or.inr (Or.inr (Or.inr (Or.inr (Or.inr rfl))))
theorem len_of {B : Nat} {a b : bU} (h : Rel B a b) : (a 11 2).toNatClampNeg ≤ 60 := by
  obtain ⟨_, _, ⟨L, hL, e, _⟩, _⟩ := h
  rw [e, mC (by omega)]
  exact hL
theorem low_of {B : Nat} {a b : bU} (h : Rel B a b) : b 4 5 = 2 := (h.2.2.2 5 (by decide)).1

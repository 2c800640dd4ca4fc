-- the reference's reading of one order against tr (own text)
theorem nI_is {a b : Nat} (ha : a < 2147483648) (hb : b < 2147483648) : (nI a = nI b ↔ a = b) ∧ (nI a ≤ nI b ↔ a ≤ b) ∧ (nI a < nI b ↔ a < b) := by
  refine ⟨⟨fun h => ?_, fun h => by rw [h]⟩, ?_, ?_⟩
  · have := congrArg Int32.toInt h
    rw [tN ha, tN hb] at this
    omega
  · rw [iLe, tN ha, tN hb]; omega
  · rw [iLt, tN ha, tN hb]; omega
theorem p_dig {k b : Nat} (hk : k ≤ 126) (hb : b ≤ 10) : pDig (nI k) (nI b) = if 48 ≤ k ∧ k < 48 + b then 1 else 0 := by
  unfold pDig
  rw [show (48 + nI b : Int32) = nI (48 + b) from nI_add 48 b]
  have h1 := (nI_is (a := k) (b := 48) (by omega) (by omega)).2.2
  have h2 := (nI_is (a := 48 + b) (b := k) (by omega) (by omega)).2.1
  by_cases c1 : k < 48
  · rw [if_pos (show nI k < (48 : Int32) from h1.mpr c1), if_neg (by omega)]
  · rw [if_neg (show ¬ nI k < (48 : Int32) from fun q => c1 (h1.mp q))]
    by_cases c2 : 48 + b ≤ k
    · rw [if_pos (h2.mpr c2), if_neg (by omega)]
    · rw [if_neg (fun q => c2 (h2.mp q)), if_pos (by omega)]
theorem m_in {k a b : Nat} (hk : k < 2147483648) (ha : a < 2147483648) (hb : b < 2147483648) : F6_in (nI k) (nI a) (nI b) = if a ≤ k ∧ k ≤ b then 1 else 0 := by
  unfold F6_in
  have h1 := (nI_is hk ha).2.2
  have h2 := (nI_is hb hk).2.2
  by_cases c1 : k < a
  · rw [if_pos (h1.mpr c1), if_neg (by omega)]
  · rw [if_neg (fun q => c1 (h1.mp q))]
    by_cases c2 : b < k
    · rw [if_pos (h2.mpr c2), if_neg (by omega)]
    · rw [if_neg (fun q => c2 (h2.mp q)), if_pos (by omega)]
/-- what reading one order leaves: x says whether a semicolon was read -/
def rdOK (u : bU) (q : Int32 × bU) (T : Nat × Nat × (Nat → Int32)) : Prop := (∃ g : Nat → Int32, q.2 = bs u 6 g ∧ g 0 = u 6 0 ∧ g 1 = u 6 1 ∧ g 2 = u 6 2) ∧ q.1 = (if T.1 = 1 then 1 else 0) ∧ q.2 6 3 = nI (T.2.1 + if T.1 = 1 then 1 else 0) ∧ q.2 6 4 = pWhole T.2.2 ∧ (pWhole T.2.2 ≠ 0 → q.2 6 5 = T.2.2 1 ∧ q.2 6 6 = T.2.2 2 ∧ q.2 6 7 = T.2.2 3 ∧ q.2 6 8 = T.2.2 4)
theorem rdOK_up {u u' : bU} {q : Int32 × bU} {T : Nat × Nat × (Nat → Int32)} (h : rdOK u' q T) {g : Nat → Int32} (e : u' = bs u 6 g) (e0 : g 0 = u 6 0) (e1 : g 1 = u 6 1) (e2 : g 2 = u 6 2) : rdOK u q T := by
  obtain ⟨⟨f, f1, f2, f3, f4⟩, h2⟩ := h
  subst e
  rw [bs_bs] at f1
  rw [bs_eq] at f2 f3 f4
  exact ⟨⟨f, f1, f2.trans e0, f3.trans e1, f4.trans e2⟩, h2⟩
theorem m_sign {u : bU} {i L k : Nat} {a : Int32} (e1 : u 6 1 = nI L) (e3 : u 6 3 = nI i) (hi : i ≤ L) (hL : L ≤ 60) (hc : i < L → u 3 i = nI k) : F6_sign u a = if i < L ∧ nI k = a then (1, bs u 6 (upd (u 6) 3 (nI (i + 1)))) else (0, bs u 6 (upd (u 6) 3 (nI i))) := by
  unfold F6_sign
  rw [e1, e3, mC (by omega), bput_up, bput_up, Int32.add_zero, show (nI i + 1 : Int32) = nI (i + 1) from nI_add i 1]
  have h := (nI_is (a := L) (b := i) (by omega) (by omega)).2.1
  by_cases c : L ≤ i
  · rw [if_pos (h.mpr c), if_neg (by omega)]
  · rw [if_neg (fun q => c (h.mp q)), hc (by omega)]
    by_cases d : nI k = a
    · rw [if_pos d, if_pos ⟨by omega, d⟩]
    · rw [if_neg d, if_neg (fun q => d q.2)]
theorem up_at (f : Nat → Int32) (i : Nat) (x : Int32) : upd f i x i = x := by unfold upd; rw [if_pos rfl]
theorem up_ne (f : Nat → Int32) {i k : Nat} (x : Int32) (h : k ≠ i) : upd f i x k = f k := by unfold upd; rw [if_neg h]
/-- the end of an order: after the number -/
theorem rd_end {u : bU} {i L k q : Nat} {r : Nat → Int32} (e1 : u 6 1 = nI L) (e3 : u 6 3 = nI i) (hi : i ≤ L) (hL : L ≤ 60) (hc : i < L → u 3 i = nI k) (hq : q ≤ 500) (r0 : r 0 = 5) (r4 : r 4 = nI q) (e5 : u 6 5 = r 1) (e6 : u 6 6 = r 2) (e7 : u 6 7 = r 3) (e8 : u 6 8 = nI q) : rdOK u (J6_readOrder_236 u (if q = 0 then 0 else 1)) (if i < L ∧ nI k = 59 ∧ q ≠ 0 then 1 else if i < L then 0 else 2, i, r) := by
  have hw : pWhole r = if q = 0 then 0 else 1 := by
    unfold pWhole
    rw [if_pos r0, r4]
    have h := (nI_is (a := q) (b := 0) (by omega) (by omega)).2.1
    by_cases c : q = 0
    · rw [if_pos c, if_pos (show nI q ≤ (0 : Int32) from h.mpr (by omega))]
    · rw [if_neg c, if_neg (show ¬ nI q ≤ (0 : Int32) from fun p => c (by have := h.mp p; omega))]
  unfold J6_readOrder_236
  rw [bput_up, bs_eq, up_at]
  by_cases c : q = 0
  · rw [if_pos c, if_pos rfl, if_neg (fun p => p.2.2 c)]
    refine ⟨⟨_, rfl, rfl, rfl, rfl⟩, ?_, ?_, ?_, fun p => absurd (by rw [hw, if_pos c]) p⟩
    · dsimp only
      by_cases d : i < L
      · rw [if_pos d]; rfl
      · rw [if_neg d]; rfl
    · dsimp only
      rw [bs_eq, up_ne _ _ (by decide), e3]
      by_cases d : i < L
      · rw [if_pos d]; rfl
      · rw [if_neg d]; rfl
    · dsimp only
      rw [bs_eq, up_at, hw, if_pos c]
  · rw [if_neg c, if_neg (by decide), m_sign (L := L) (i := i) (k := k) (by rw [bs_eq, up_ne _ _ (by decide)]; exact e1) (by rw [bs_eq, up_ne _ _ (by decide)]; exact e3) hi hL (fun h => by rw [bs_ne _ _ (by decide)]; exact hc h), bs_bs, bs_bs, bs_eq]
    by_cases d : i < L ∧ nI k = 59
    · rw [if_pos d, if_neg (show ¬ (1 : Int32) = 0 by decide), if_pos (show i < L ∧ nI k = 59 ∧ q ≠ 0 from ⟨d.1, d.2, c⟩)]
      refine ⟨⟨_, rfl, rfl, rfl, rfl⟩, rfl, ?_, ?_, fun p => ⟨?_, ?_, ?_, ?_⟩⟩ <;> dsimp only <;> rw [bs_eq]
      · rw [up_at]; rfl
      · rw [up_ne _ _ (by decide), up_at, hw, if_neg c]
      · rw [up_ne _ _ (by decide), up_ne _ _ (by decide)]; exact e5
      · rw [up_ne _ _ (by decide), up_ne _ _ (by decide)]; exact e6
      · rw [up_ne _ _ (by decide), up_ne _ _ (by decide)]; exact e7
      · rw [up_ne _ _ (by decide), up_ne _ _ (by decide), r4]; exact e8
    · rw [if_neg d, if_pos rfl, if_neg (show ¬ (i < L ∧ nI k = 59 ∧ q ≠ 0) from fun p => d ⟨p.1, p.2.1⟩)]
      have hx : (if (if i < L then 0 else 2) = 1 then 1 else 0 : Nat) = 0 := by split <;> rfl
      have hy : (if (if i < L then 0 else 2 : Nat) = 1 then 1 else 0 : Int32) = 0 := by split <;> rfl
      refine ⟨⟨_, rfl, rfl, rfl, rfl⟩, hy.symm, ?_, ?_, fun p => ⟨?_, ?_, ?_, ?_⟩⟩ <;> dsimp only <;> rw [bs_eq]
      · rw [up_at, hx]; rfl
      · rw [up_ne _ _ (by decide), up_at, hw, if_neg c]
      · rw [up_ne _ _ (by decide), up_ne _ _ (by decide)]; exact e5
      · rw [up_ne _ _ (by decide), up_ne _ _ (by decide)]; exact e6
      · rw [up_ne _ _ (by decide), up_ne _ _ (by decide)]; exact e7
      · rw [up_ne _ _ (by decide), up_ne _ _ (by decide), r4]; exact e8

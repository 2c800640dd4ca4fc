-- the number of an order (own text)
theorem tr_end {c : Nat → Int32} {L m i : Nat} {r : Nat → Int32} (h : L ≤ i) : tr c L m r i = (2, i, r) := by
  cases m with
  | zero => rfl
  | succ m => rw [tr, if_pos h]
theorem tr_bad {c : Nat → Int32} {L m i : Nat} {r : Nat → Int32} (h : i < L) (hm : L < i + m) (e : (pk r (c i)).1 = 0) : tr c L m r i = (0, i, r) := by
  obtain ⟨m, rfl⟩ : ∃ y, m = y + 1 := ⟨m - 1, by omega⟩
  rw [tr, if_neg (by omega), if_pos e]
theorem tr_semi {c : Nat → Int32} {L m i : Nat} {r : Nat → Int32} (h : i < L) (hm : L < i + m) (e : (pk r (c i)).1 ≠ 0) (e5 : c i = 59) : tr c L m r i = (1, i, r) := by
  obtain ⟨m, rfl⟩ : ∃ y, m = y + 1 := ⟨m - 1, by omega⟩
  rw [tr, if_neg (by omega), if_neg e, if_pos e5]
theorem tr_on {c : Nat → Int32} {L m i : Nat} {r r' : Nat → Int32} (h : i < L) (e : pk r (c i) = (1, r')) (e5 : c i ≠ 59) : tr c L (m + 1) r i = tr c L m r' (i + 1) := by
  rw [tr, if_neg (by omega), e, if_neg (show ¬ (1 : Int32) = 0 by decide), if_neg e5]
theorem v_num {q k : Nat} (hk : 48 ≤ k) : 10 * nI q + nI k - 48 = nI (10 * q + k - 48) := by
  rw [show (10 * nI q : Int32) = nI (10 * q) from pk_mul 10 q, nI_add]
  exact pk_sub (b := 48) (by omega)
theorem nI_ne' {a b : Nat} (ha : a < 2147483648) (hb : b < 2147483648) (h : a ≠ b) : ¬ nI a = nI b := fun q => h ((nI_is ha hb).1.mp q)
theorem rd_num {L M : Nat} {C : Nat → Int32} (hL : L ≤ 60) (hM : M ≤ 500) (hC : ∀ x : Nat, x < L → ∃ k : Nat, k ≤ 126 ∧ C x = nI k) : ∀ (n j i q : Nat) (u : bU) (r : Nat → Int32) (m : Nat), i ≤ L → L < i + n → L < i + m → u 3 = C → u 6 1 = nI L → u 6 3 = nI i → q ≤ 500 → r 0 = 5 → r 4 = nI q → u 6 5 = r 1 → u 6 6 = r 2 → u 6 7 = r 3 → u 6 8 = nI q → pMost r = nI M → rdOK u (if (L6_readNumber_5 (nI M) u n j) 6 8 ≤ 0 then J6_readOrder_236 (L6_readNumber_5 (nI M) u n j) 0 else J6_readOrder_236 (L6_readNumber_5 (nI M) u n j) 1) (tr C L m r i) := by
  intro n
  induction n with
  | zero => intro j i q u r m h1 h2; omega
  | succ n ih =>
    intro j i q u r m hi hn hm e0 e1 e3 hq r0 r4 e5 e6 e7 e8 hp
    have q8 : (nI q ≤ (0 : Int32)) ↔ q = 0 := by
      have := (nI_is (a := q) (b := 0) (by omega) (by omega)).2.1
      exact ⟨fun p => by have := this.mp p; omega, fun p => this.mpr (by omega)⟩
    have q9 : (nI q = (0 : Int32)) ↔ q = 0 := (nI_is (a := q) (b := 0) (by omega) (by omega)).1
    have stop : ∀ T : Nat × Nat × (Nat → Int32), rdOK u (J6_readOrder_236 u (if q = 0 then 0 else 1)) T → rdOK u (if u 6 8 ≤ 0 then J6_readOrder_236 u 0 else J6_readOrder_236 u 1) T := by
      intro T h
      rw [e8]
      by_cases c : q = 0
      · rw [if_pos c] at h; rw [if_pos (q8.mpr c)]; exact h
      · rw [if_neg c] at h; rw [if_neg (fun p => c (q8.mp p))]; exact h
    have hw : pWhole r = if q = 0 then 0 else 1 := by
      unfold pWhole
      rw [if_pos r0, r4]
      by_cases c : q = 0
      · rw [if_pos c, if_pos (q8.mpr c)]
      · rw [if_neg c, if_neg (fun p => c (q8.mp p))]
    rw [L6_readNumber_5, e1, e3, mC (by omega), e0, e8]
    by_cases c1 : L ≤ i
    · rw [if_pos ((nI_is (by omega) (by omega)).2.1.mpr c1), tr_end c1]
      have := rd_end (k := 0) e1 e3 hi hL (fun h => by omega) hq r0 r4 e5 e6 e7 e8
      rw [if_neg (show ¬ (i < L ∧ nI 0 = 59 ∧ q ≠ 0) from fun p => absurd p.1 (by omega)), if_neg (show ¬ i < L by omega)] at this
      exact stop _ this
    rw [if_neg (fun p => c1 ((nI_is (by omega) (by omega)).2.1.mp p))]
    obtain ⟨k, hk, eC⟩ := hC i (by omega)
    have fin := rd_end (k := k) e1 e3 hi hL (fun h => by rw [e0]; exact eC) hq r0 r4 e5 e6 e7 e8
    have pkr : pk r (C i) = pNum r (nI k) := by unfold pk; rw [if_pos r0, eC]
    rw [eC, show F6_in (nI k) 49 57 = (if 49 ≤ k ∧ k ≤ 57 then 1 else 0) from m_in (a := 49) (b := 57) (by omega) (by decide) (by decide), show F6_in (nI k) 48 57 = (if 48 ≤ k ∧ k ≤ 57 then 1 else 0) from m_in (a := 48) (b := 57) (by omega) (by decide) (by decide)]
    by_cases c2 : k = 59
    · subst c2
      rw [if_neg (show ¬ (49 ≤ 59 ∧ 59 ≤ 57) by omega), if_pos rfl, if_neg (show ¬ (48 ≤ 59 ∧ 59 ≤ 57) by omega), if_pos rfl, ite_self]
      have pk1 : (pk r (C i)).1 = if q = 0 then 0 else 1 := by
        rw [pkr]; unfold pNum; rw [if_pos (show nI 59 = (59 : Int32) from rfl)]; exact hw
      by_cases c3 : q = 0
      · rw [tr_bad (by omega) hm (by rw [pk1, if_pos c3])]
        rw [if_neg (show ¬ (i < L ∧ nI 59 = 59 ∧ q ≠ 0) from fun p => p.2.2 c3), if_pos (show i < L by omega)] at fin
        exact stop _ fin
      · rw [tr_semi (by omega) hm (by rw [pk1, if_neg c3]; decide) eC]
        rw [if_pos (show i < L ∧ nI 59 = 59 ∧ q ≠ 0 from ⟨by omega, rfl, c3⟩)] at fin
        exact stop _ fin
    have n59 : ¬ nI k = (59 : Int32) := nI_ne' (b := 59) (by omega) (by decide) c2
    rw [if_neg (show ¬ (i < L ∧ nI k = 59 ∧ q ≠ 0) from fun p => n59 p.2.1), if_pos (show i < L by omega)] at fin
    have pk1 : pk r (C i) = if pDig (nI k) 10 = 0 then (0, r) else if (((10 * (r 4)) + nI k) - 48) < (1 : Int32) then (0, r) else if pMost r < (((10 * (r 4)) + nI k) - 48) then (0, r) else (1, upd r 4 (((10 * (r 4)) + nI k) - 48)) := by
      rw [pkr]; unfold pNum; rw [if_neg n59]
    rw [show pDig (nI k) 10 = (if 48 ≤ k ∧ k < 48 + 10 then 1 else 0) from p_dig (b := 10) hk (by decide)] at pk1
    by_cases c3 : 48 ≤ k ∧ k ≤ 57
    · rw [if_pos (show 48 ≤ k ∧ k < 48 + 10 by omega), if_neg (show ¬ (1 : Int32) = 0 by decide), r4, v_num c3.1, hp] at pk1
      rw [if_pos c3, v_num c3.1, if_neg (show ¬ (1 : Int32) = 0 by decide)]
      by_cases c4 : q = 0 ∧ k = 48
      · obtain ⟨rfl, rfl⟩ := c4
        rw [if_pos (q9.mpr rfl), if_neg (show ¬ (49 ≤ 48 ∧ 48 ≤ 57) by omega), if_pos rfl, tr_bad (by omega) hm (by rw [pk1, if_pos (by decide)])]
        exact stop _ fin
      rw [if_neg (show ¬ nI (10 * q + k - 48) < (1 : Int32) from fun p => by have := (nI_is (a := 10 * q + k - 48) (b := 1) (by omega) (by decide)).2.2.mp p; omega)] at pk1
      have same : ∀ (X Y : bU), (if nI q = 0 then if (if 49 ≤ k ∧ k ≤ 57 then 1 else 0 : Int32) = 0 then X else Y else Y) = Y := by
        intro X Y
        by_cases p : q = 0
        · rw [if_pos (q9.mpr p), if_pos (show 49 ≤ k ∧ k ≤ 57 by omega), if_neg (by decide)]
        · rw [if_neg (fun z => p (q9.mp z))]
      rw [same]
      by_cases c5 : nI M < nI (10 * q + k - 48)
      · rw [if_pos c5] at pk1
        rw [if_pos c5, tr_bad (by omega) hm (by rw [pk1])]
        exact stop _ fin
      · rw [if_neg c5] at pk1
        rw [if_neg c5]
        have hV : 10 * q + k - 48 ≤ M := Nat.le_of_not_lt (fun p => c5 ((nI_is (by omega) (by omega)).2.2.mpr p))
        obtain ⟨m, rfl⟩ : ∃ y, m = y + 1 := ⟨m - 1, by omega⟩
        rw [tr_on (by omega) pk1 (by rw [eC]; exact n59), bput_up u, bs_up, bs_eq, up_ne _ _ (by decide), e3, show (nI i + 1 : Int32) = nI (i + 1) from nI_add i 1]
        refine rdOK_up (ih (j + 1) (i + 1) (10 * q + k - 48) _ (upd r 4 (nI (10 * q + k - 48))) m (by omega) (by omega) (by omega) ?_ ?_ ?_ (by omega) ?_ ?_ ?_ ?_ ?_ ?_ ?_) rfl ?_ ?_ ?_
        · rw [bs_ne _ _ (by decide)]; exact e0
        · rw [bs_eq, up_ne _ _ (by decide), up_ne _ _ (by decide)]; exact e1
        · rw [bs_eq, up_at]
        · rw [up_ne _ _ (by decide)]; exact r0
        · rw [up_at]
        · rw [bs_eq, up_ne _ _ (by decide), up_ne _ _ (by decide), up_ne _ _ (by decide)]; exact e5
        · rw [bs_eq, up_ne _ _ (by decide), up_ne _ _ (by decide), up_ne _ _ (by decide)]; exact e6
        · rw [bs_eq, up_ne _ _ (by decide), up_ne _ _ (by decide), up_ne _ _ (by decide)]; exact e7
        · rw [bs_eq, up_ne _ _ (by decide), up_at]
        · unfold pMost at hp ⊢
          rw [up_ne _ _ (by decide)]; exact hp
        · rw [up_ne _ _ (by decide), up_ne _ _ (by decide)]
        · rw [up_ne _ _ (by decide), up_ne _ _ (by decide)]
        · rw [up_ne _ _ (by decide), up_ne _ _ (by decide)]
    · rw [if_neg (show ¬ (48 ≤ k ∧ k < 48 + 10) by omega), if_pos rfl] at pk1
      rw [if_neg (show ¬ (49 ≤ k ∧ k ≤ 57) by omega), if_neg c3, if_pos rfl, ite_self, tr_bad (by omega) hm (by rw [pk1])]
      exact stop _ fin

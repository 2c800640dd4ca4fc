-- SAVES, TEXT: the relation of the two states (own text, part by program)
def RV (B : Nat) (c m : Nat → Int32) : Prop := rV c m ∧ ∃ n t : Nat, gJ B n t m
theorem rV_far {c c' m m' : Nat → Int32} (h : rV c m) (h1 : ∀ i : Nat, i < 345 → c' i = c i) (h2 : ∀ j : Nat, j < 283 → m' j = m j) : rV c' m' := by
  refine ⟨fun j hj => ?_, fun f t hf ht => ?_⟩
  · have := phi_lt j hj
    rw [h1 _ (by omega), h2 _ (by omega), h.1 j hj]
  · rw [h1 _ (by omega), h2 _ (by omega), h2 _ (by omega), h.2 f t hf ht]
theorem RV_far {B : Nat} {c c' m m' : Nat → Int32} (h : RV B c m) (h1 : ∀ i : Nat, i < 345 → c' i = c i) (h2 : ∀ j : Nat, j < 283 → m' j = m j) : RV B c' m' := by
  obtain ⟨a, n, t, b⟩ := h
  exact ⟨rV_far a h1 h2, n, t, gQ_far b (fun j hj => h2 j (by omega))⟩
theorem gQ_up {B B' n t : Nat} {α β : Int} {m : Nat → Int32} (h : gQ B n t α β m) (hB : B ≤ B') : gQ B' n t α β m := by
  obtain ⟨h1, h2, h3, h4, ⟨h5, h6⟩, h7⟩ := h
  exact ⟨h1, h2, h3, h4, ⟨h5, fun j hj => by have := h6 j hj; omega⟩, h7⟩
theorem RV_up {B B' : Nat} {c m : Nat → Int32} (h : RV B c m) (hB : B ≤ B') : RV B' c m := by
  obtain ⟨a, n, t, b⟩ := h
  exact ⟨a, n, t, gQ_up b hB⟩
def rSav (B : Nat) (a b : bU) : Prop := ∃ n l : Nat, n ≤ 6 ∧ l < 6 ∧ a 11 0 = nI l ∧ a 11 1 = nI n ∧ b 6 0 = nI n ∧ ∀ i : Nat, i < n → RV B (a (3 + (l + 6 - i) % 6)) (fun k => b 2 (283 * (n - 1 - i) + k))
def rTxt (a b : bU) : Prop := ∃ L : Nat, L ≤ 60 ∧ a 11 2 = nI L ∧ b 6 1 = nI L ∧ ∀ i : Nat, i < L → ∃ c : Nat, 33 ≤ c ∧ c ≤ 126 ∧ a 2 i = nI c ∧ b 3 i = nI c
def rTab (b : bU) : Prop := ∀ i : Nat, i < 6 → b 4 i = tLeast i ∧ b 5 i = tMost i
def Rel (B : Nat) (a b : bU) : Prop := RV B (a 0) (b 0) ∧ rSav B a b ∧ rTxt a b ∧ rTab b
theorem Rel_up {B B' : Nat} {a b : bU} (h : Rel B a b) (hB : B ≤ B') : Rel B' a b := by
  obtain ⟨h1, ⟨n, l, a1, a2, a3, a4, a5, a6⟩, h3, h4⟩ := h
  exact ⟨RV_up h1 hB, ⟨n, l, a1, a2, a3, a4, a5, fun i hi => RV_up (a6 i hi) hB⟩, h3, h4⟩
def keepOK (u w : bU) (l n : Nat) : Prop := w 0 = u 0 ∧ w 11 0 = nI ((l + 1) % 6) ∧ w 11 1 = nI (min (n + 1) 6) ∧ w 11 2 = u 11 2 ∧ w 2 = u 2 ∧ (∀ i : Nat, i < 345 → w (3 + (l + 1) % 6) i = u 0 i) ∧ ∀ q : Nat, q < 6 → q ≠ (l + 1) % 6 → w (3 + q) = u (3 + q)
def backOK (u w : bU) (l n : Nat) : Prop := (∀ i : Nat, i < 345 → w 0 i = u (3 + l) i) ∧ w 11 0 = nI ((l + 5) % 6) ∧ w 11 1 = nI (n - 1) ∧ w 11 2 = u 11 2 ∧ w 2 = u 2 ∧ ∀ q : Nat, q < 6 → w (3 + q) = u (3 + q)
theorem keepv_0 {u : bU} {n : Nat} (h : u 11 0 = 0) (hn : n ≤ 6) (e : u 11 1 = nI n) : keepOK u (F1_keep u) 0 n := by
  rw [F1_keep_at0 h]
  unfold F1_keep_0 F2_copyFromS_1
  have e2 : (bput u 11 0 1) 11 1 = nI n := e
  rw [e2]
  by_cases c : 6 ≤ n
  · obtain rfl : n = 6 := by omega
    rw [if_pos (show (6 : Int32) ≤ nI 6 by decide)]
    refine ⟨rfl, rfl, rfl, rfl, rfl, fun i hi => pk_cpy_in (Nat.zero_le i) (by omega) |>.trans ?_, fun q hq hne => ?_⟩
    · rw [Nat.zero_add, Nat.sub_zero]; rfl
    · match q, hq, hne with
      | 0, _, _ => exact rfl
      | 1, _, h9 => exact absurd rfl h9
      | 2, _, _ => exact rfl
      | 3, _, _ => exact rfl
      | 4, _, _ => exact rfl
      | 5, _, _ => exact rfl
      | q + 6, h9, _ => exact absurd h9 (by omega)
  · rw [if_neg (show ¬ (6 : Int32) ≤ nI n from nI_ge (b := 6) (by omega) (by decide)), nI_1]
    refine ⟨rfl, rfl, by rw [Nat.min_eq_left (by omega)]; rfl, rfl, rfl, fun i hi => pk_cpy_in (Nat.zero_le i) (by omega) |>.trans ?_, fun q hq hne => ?_⟩
    · rw [Nat.zero_add, Nat.sub_zero]; rfl
    · match q, hq, hne with
      | 0, _, _ => exact rfl
      | 1, _, h9 => exact absurd rfl h9
      | 2, _, _ => exact rfl
      | 3, _, _ => exact rfl
      | 4, _, _ => exact rfl
      | 5, _, _ => exact rfl
      | q + 6, h9, _ => exact absurd h9 (by omega)
theorem backv_0 {u : bU} {n : Nat} (h : u 11 0 = 0) (hn : n ≤ 6) (h0 : 1 ≤ n) (e : u 11 1 = nI n) : backOK u (F1_giveBack u) 0 n := by
  rw [F1_giveBack_at0 h]
  unfold F1_giveBack_0 F2_copyFromN_0
  have e2 : (bput (bs u 0 (va_cpy (u 3) (u 0) 0 0 345)) 11 0 5) 11 1 = nI n := e
  rw [e, if_neg (nI_nle h0 (by omega)), e2, show (nI n - 1 : Int32) = nI (n - 1) from pk_sub (b := 1) h0]
  refine ⟨fun i hi => pk_cpy_in (Nat.zero_le i) (by omega) |>.trans ?_, rfl, rfl, rfl, rfl, fun q hq => ?_⟩
  · rw [Nat.zero_add, Nat.sub_zero]
  · match q, hq with
      | 0, _ => exact rfl
      | 1, _ => exact rfl
      | 2, _ => exact rfl
      | 3, _ => exact rfl
      | 4, _ => exact rfl
      | 5, _ => exact rfl
      | q + 6, h9 => exact absurd h9 (by omega)
theorem keepv_1 {u : bU} {n : Nat} (h : u 11 0 = 1) (hn : n ≤ 6) (e : u 11 1 = nI n) : keepOK u (F1_keep u) 1 n := by
  rw [F1_keep_at1 h]
  unfold F1_keep_1 F2_copyFromS_2
  have e2 : (bput u 11 0 2) 11 1 = nI n := e
  rw [e2]
  by_cases c : 6 ≤ n
  · obtain rfl : n = 6 := by omega
    rw [if_pos (show (6 : Int32) ≤ nI 6 by decide)]
    refine ⟨rfl, rfl, rfl, rfl, rfl, fun i hi => pk_cpy_in (Nat.zero_le i) (by omega) |>.trans ?_, fun q hq hne => ?_⟩
    · rw [Nat.zero_add, Nat.sub_zero]; rfl
    · match q, hq, hne with
      | 0, _, _ => exact rfl
      | 1, _, _ => exact rfl
      | 2, _, h9 => exact absurd rfl h9
      | 3, _, _ => exact rfl
      | 4, _, _ => exact rfl
      | 5, _, _ => exact rfl
      | q + 6, h9, _ => exact absurd h9 (by omega)
  · rw [if_neg (show ¬ (6 : Int32) ≤ nI n from nI_ge (b := 6) (by omega) (by decide)), nI_1]
    refine ⟨rfl, rfl, by rw [Nat.min_eq_left (by omega)]; rfl, rfl, rfl, fun i hi => pk_cpy_in (Nat.zero_le i) (by omega) |>.trans ?_, fun q hq hne => ?_⟩
    · rw [Nat.zero_add, Nat.sub_zero]; rfl
    · match q, hq, hne with
      | 0, _, _ => exact rfl
      | 1, _, _ => exact rfl
      | 2, _, h9 => exact absurd rfl h9
      | 3, _, _ => exact rfl
      | 4, _, _ => exact rfl
      | 5, _, _ => exact rfl
      | q + 6, h9, _ => exact absurd h9 (by omega)
theorem backv_1 {u : bU} {n : Nat} (h : u 11 0 = 1) (hn : n ≤ 6) (h0 : 1 ≤ n) (e : u 11 1 = nI n) : backOK u (F1_giveBack u) 1 n := by
  rw [F1_giveBack_at1 h]
  unfold F1_giveBack_1 F2_copyFromN_1
  have e2 : (bput (bs u 0 (va_cpy (u 4) (u 0) 0 0 345)) 11 0 0) 11 1 = nI n := e
  rw [e, if_neg (nI_nle h0 (by omega)), e2, show (nI n - 1 : Int32) = nI (n - 1) from pk_sub (b := 1) h0]
  refine ⟨fun i hi => pk_cpy_in (Nat.zero_le i) (by omega) |>.trans ?_, rfl, rfl, rfl, rfl, fun q hq => ?_⟩
  · rw [Nat.zero_add, Nat.sub_zero]
  · match q, hq with
      | 0, _ => exact rfl
      | 1, _ => exact rfl
      | 2, _ => exact rfl
      | 3, _ => exact rfl
      | 4, _ => exact rfl
      | 5, _ => exact rfl
      | q + 6, h9 => exact absurd h9 (by omega)
theorem keepv_2 {u : bU} {n : Nat} (h : u 11 0 = 2) (hn : n ≤ 6) (e : u 11 1 = nI n) : keepOK u (F1_keep u) 2 n := by
  rw [F1_keep_at2 h]
  unfold F1_keep_2 F2_copyFromS_3
  have e2 : (bput u 11 0 3) 11 1 = nI n := e
  rw [e2]
  by_cases c : 6 ≤ n
  · obtain rfl : n = 6 := by omega
    rw [if_pos (show (6 : Int32) ≤ nI 6 by decide)]
    refine ⟨rfl, rfl, rfl, rfl, rfl, fun i hi => pk_cpy_in (Nat.zero_le i) (by omega) |>.trans ?_, fun q hq hne => ?_⟩
    · rw [Nat.zero_add, Nat.sub_zero]; rfl
    · match q, hq, hne with
      | 0, _, _ => exact rfl
      | 1, _, _ => exact rfl
      | 2, _, _ => exact rfl
      | 3, _, h9 => exact absurd rfl h9
      | 4, _, _ => exact rfl
      | 5, _, _ => exact rfl
      | q + 6, h9, _ => exact absurd h9 (by omega)
  · rw [if_neg (show ¬ (6 : Int32) ≤ nI n from nI_ge (b := 6) (by omega) (by decide)), nI_1]
    refine ⟨rfl, rfl, by rw [Nat.min_eq_left (by omega)]; rfl, rfl, rfl, fun i hi => pk_cpy_in (Nat.zero_le i) (by omega) |>.trans ?_, fun q hq hne => ?_⟩
    · rw [Nat.zero_add, Nat.sub_zero]; rfl
    · match q, hq, hne with
      | 0, _, _ => exact rfl
      | 1, _, _ => exact rfl
      | 2, _, _ => exact rfl
      | 3, _, h9 => exact absurd rfl h9
      | 4, _, _ => exact rfl
      | 5, _, _ => exact rfl
      | q + 6, h9, _ => exact absurd h9 (by omega)
theorem backv_2 {u : bU} {n : Nat} (h : u 11 0 = 2) (hn : n ≤ 6) (h0 : 1 ≤ n) (e : u 11 1 = nI n) : backOK u (F1_giveBack u) 2 n := by
  rw [F1_giveBack_at2 h]
  unfold F1_giveBack_2 F2_copyFromN_2
  have e2 : (bput (bs u 0 (va_cpy (u 5) (u 0) 0 0 345)) 11 0 1) 11 1 = nI n := e
  rw [e, if_neg (nI_nle h0 (by omega)), e2, show (nI n - 1 : Int32) = nI (n - 1) from pk_sub (b := 1) h0]
  refine ⟨fun i hi => pk_cpy_in (Nat.zero_le i) (by omega) |>.trans ?_, rfl, rfl, rfl, rfl, fun q hq => ?_⟩
  · rw [Nat.zero_add, Nat.sub_zero]
  · match q, hq with
      | 0, _ => exact rfl
      | 1, _ => exact rfl
      | 2, _ => exact rfl
      | 3, _ => exact rfl
      | 4, _ => exact rfl
      | 5, _ => exact rfl
      | q + 6, h9 => exact absurd h9 (by omega)
theorem keepv_3 {u : bU} {n : Nat} (h : u 11 0 = 3) (hn : n ≤ 6) (e : u 11 1 = nI n) : keepOK u (F1_keep u) 3 n := by
  rw [F1_keep_at3 h]
  unfold F1_keep_3 F2_copyFromS_4
  have e2 : (bput u 11 0 4) 11 1 = nI n := e
  rw [e2]
  by_cases c : 6 ≤ n
  · obtain rfl : n = 6 := by omega
    rw [if_pos (show (6 : Int32) ≤ nI 6 by decide)]
    refine ⟨rfl, rfl, rfl, rfl, rfl, fun i hi => pk_cpy_in (Nat.zero_le i) (by omega) |>.trans ?_, fun q hq hne => ?_⟩
    · rw [Nat.zero_add, Nat.sub_zero]; rfl
    · match q, hq, hne with
      | 0, _, _ => exact rfl
      | 1, _, _ => exact rfl
      | 2, _, _ => exact rfl
      | 3, _, _ => exact rfl
      | 4, _, h9 => exact absurd rfl h9
      | 5, _, _ => exact rfl
      | q + 6, h9, _ => exact absurd h9 (by omega)
  · rw [if_neg (show ¬ (6 : Int32) ≤ nI n from nI_ge (b := 6) (by omega) (by decide)), nI_1]
    refine ⟨rfl, rfl, by rw [Nat.min_eq_left (by omega)]; rfl, rfl, rfl, fun i hi => pk_cpy_in (Nat.zero_le i) (by omega) |>.trans ?_, fun q hq hne => ?_⟩
    · rw [Nat.zero_add, Nat.sub_zero]; rfl
    · match q, hq, hne with
      | 0, _, _ => exact rfl
      | 1, _, _ => exact rfl
      | 2, _, _ => exact rfl
      | 3, _, _ => exact rfl
      | 4, _, h9 => exact absurd rfl h9
      | 5, _, _ => exact rfl
      | q + 6, h9, _ => exact absurd h9 (by omega)
theorem backv_3 {u : bU} {n : Nat} (h : u 11 0 = 3) (hn : n ≤ 6) (h0 : 1 ≤ n) (e : u 11 1 = nI n) : backOK u (F1_giveBack u) 3 n := by
  rw [F1_giveBack_at3 h]
  unfold F1_giveBack_3 F2_copyFromN_3
  have e2 : (bput (bs u 0 (va_cpy (u 6) (u 0) 0 0 345)) 11 0 2) 11 1 = nI n := e
  rw [e, if_neg (nI_nle h0 (by omega)), e2, show (nI n - 1 : Int32) = nI (n - 1) from pk_sub (b := 1) h0]
  refine ⟨fun i hi => pk_cpy_in (Nat.zero_le i) (by omega) |>.trans ?_, rfl, rfl, rfl, rfl, fun q hq => ?_⟩
  · rw [Nat.zero_add, Nat.sub_zero]
  · match q, hq with
      | 0, _ => exact rfl
      | 1, _ => exact rfl
      | 2, _ => exact rfl
      | 3, _ => exact rfl
      | 4, _ => exact rfl
      | 5, _ => exact rfl
      | q + 6, h9 => exact absurd h9 (by omega)
theorem keepv_4 {u : bU} {n : Nat} (h : u 11 0 = 4) (hn : n ≤ 6) (e : u 11 1 = nI n) : keepOK u (F1_keep u) 4 n := by
  rw [F1_keep_at4 h]
  unfold F1_keep_4 F2_copyFromS_5
  have e2 : (bput u 11 0 5) 11 1 = nI n := e
  rw [e2]
  by_cases c : 6 ≤ n
  · obtain rfl : n = 6 := by omega
    rw [if_pos (show (6 : Int32) ≤ nI 6 by decide)]
    refine ⟨rfl, rfl, rfl, rfl, rfl, fun i hi => pk_cpy_in (Nat.zero_le i) (by omega) |>.trans ?_, fun q hq hne => ?_⟩
    · rw [Nat.zero_add, Nat.sub_zero]; rfl
    · match q, hq, hne with
      | 0, _, _ => exact rfl
      | 1, _, _ => exact rfl
      | 2, _, _ => exact rfl
      | 3, _, _ => exact rfl
      | 4, _, _ => exact rfl
      | 5, _, h9 => exact absurd rfl h9
      | q + 6, h9, _ => exact absurd h9 (by omega)
  · rw [if_neg (show ¬ (6 : Int32) ≤ nI n from nI_ge (b := 6) (by omega) (by decide)), nI_1]
    refine ⟨rfl, rfl, by rw [Nat.min_eq_left (by omega)]; rfl, rfl, rfl, fun i hi => pk_cpy_in (Nat.zero_le i) (by omega) |>.trans ?_, fun q hq hne => ?_⟩
    · rw [Nat.zero_add, Nat.sub_zero]; rfl
    · match q, hq, hne with
      | 0, _, _ => exact rfl
      | 1, _, _ => exact rfl
      | 2, _, _ => exact rfl
      | 3, _, _ => exact rfl
      | 4, _, _ => exact rfl
      | 5, _, h9 => exact absurd rfl h9
      | q + 6, h9, _ => exact absurd h9 (by omega)
theorem backv_4 {u : bU} {n : Nat} (h : u 11 0 = 4) (hn : n ≤ 6) (h0 : 1 ≤ n) (e : u 11 1 = nI n) : backOK u (F1_giveBack u) 4 n := by
  rw [F1_giveBack_at4 h]
  unfold F1_giveBack_4 F2_copyFromN_4
  have e2 : (bput (bs u 0 (va_cpy (u 7) (u 0) 0 0 345)) 11 0 3) 11 1 = nI n := e
  rw [e, if_neg (nI_nle h0 (by omega)), e2, show (nI n - 1 : Int32) = nI (n - 1) from pk_sub (b := 1) h0]
  refine ⟨fun i hi => pk_cpy_in (Nat.zero_le i) (by omega) |>.trans ?_, rfl, rfl, rfl, rfl, fun q hq => ?_⟩
  · rw [Nat.zero_add, Nat.sub_zero]
  · match q, hq with
      | 0, _ => exact rfl
      | 1, _ => exact rfl
      | 2, _ => exact rfl
      | 3, _ => exact rfl
      | 4, _ => exact rfl
      | 5, _ => exact rfl
      | q + 6, h9 => exact absurd h9 (by omega)
theorem keepv_5 {u : bU} {n : Nat} (h : u 11 0 = 5) (hn : n ≤ 6) (e : u 11 1 = nI n) : keepOK u (F1_keep u) 5 n := by
  rw [F1_keep_at5 h]
  unfold F1_keep_5 F2_copyFromS_0
  have e2 : (bput u 11 0 0) 11 1 = nI n := e
  rw [e2]
  by_cases c : 6 ≤ n
  · obtain rfl : n = 6 := by omega
    rw [if_pos (show (6 : Int32) ≤ nI 6 by decide)]
    refine ⟨rfl, rfl, rfl, rfl, rfl, fun i hi => pk_cpy_in (Nat.zero_le i) (by omega) |>.trans ?_, fun q hq hne => ?_⟩
    · rw [Nat.zero_add, Nat.sub_zero]; rfl
    · match q, hq, hne with
      | 0, _, h9 => exact absurd rfl h9
      | 1, _, _ => exact rfl
      | 2, _, _ => exact rfl
      | 3, _, _ => exact rfl
      | 4, _, _ => exact rfl
      | 5, _, _ => exact rfl
      | q + 6, h9, _ => exact absurd h9 (by omega)
  · rw [if_neg (show ¬ (6 : Int32) ≤ nI n from nI_ge (b := 6) (by omega) (by decide)), nI_1]
    refine ⟨rfl, rfl, by rw [Nat.min_eq_left (by omega)]; rfl, rfl, rfl, fun i hi => pk_cpy_in (Nat.zero_le i) (by omega) |>.trans ?_, fun q hq hne => ?_⟩
    · rw [Nat.zero_add, Nat.sub_zero]; rfl
    · match q, hq, hne with
      | 0, _, h9 => exact absurd rfl h9
      | 1, _, _ => exact rfl
      | 2, _, _ => exact rfl
      | 3, _, _ => exact rfl
      | 4, _, _ => exact rfl
      | 5, _, _ => exact rfl
      | q + 6, h9, _ => exact absurd h9 (by omega)
theorem backv_5 {u : bU} {n : Nat} (h : u 11 0 = 5) (hn : n ≤ 6) (h0 : 1 ≤ n) (e : u 11 1 = nI n) : backOK u (F1_giveBack u) 5 n := by
  rw [F1_giveBack_at5 h]
  unfold F1_giveBack_5 F2_copyFromN_5
  have e2 : (bput (bs u 0 (va_cpy (u 8) (u 0) 0 0 345)) 11 0 4) 11 1 = nI n := e
  rw [e, if_neg (nI_nle h0 (by omega)), e2, show (nI n - 1 : Int32) = nI (n - 1) from pk_sub (b := 1) h0]
  refine ⟨fun i hi => pk_cpy_in (Nat.zero_le i) (by omega) |>.trans ?_, rfl, rfl, rfl, rfl, fun q hq => ?_⟩
  · rw [Nat.zero_add, Nat.sub_zero]
  · match q, hq with
      | 0, _ => exact rfl
      | 1, _ => exact rfl
      | 2, _ => exact rfl
      | 3, _ => exact rfl
      | 4, _ => exact rfl
      | 5, _ => exact rfl
      | q + 6, h9 => exact absurd h9 (by omega)
theorem keepv {u : bU} {l n : Nat} (hl : l < 6) (h : u 11 0 = nI l) (hn : n ≤ 6) (e : u 11 1 = nI n) : keepOK u (F1_keep u) l n := by
  match l, hl with
  | 0, _ => exact keepv_0 h hn e
  | 1, _ => exact keepv_1 h hn e
  | 2, _ => exact keepv_2 h hn e
  | 3, _ => exact keepv_3 h hn e
  | 4, _ => exact keepv_4 h hn e
  | 5, _ => exact keepv_5 h hn e
  | l + 6, h9 => omega
theorem backv {u : bU} {l n : Nat} (hl : l < 6) (h : u 11 0 = nI l) (hn : n ≤ 6) (h0 : 1 ≤ n) (e : u 11 1 = nI n) : backOK u (F1_giveBack u) l n := by
  match l, hl with
  | 0, _ => exact backv_0 h hn h0 e
  | 1, _ => exact backv_1 h hn h0 e
  | 2, _ => exact backv_2 h hn h0 e
  | 3, _ => exact backv_3 h hn h0 e
  | 4, _ => exact backv_4 h hn h0 e
  | 5, _ => exact backv_5 h hn h0 e
  | l + 6, h9 => omega
theorem bput_at (u : bU) (k i : Nat) (x : Int32) : bput u k i x k i = x := by simp [bput, bs, upd]
theorem bput_ne (u : bU) {k i j : Nat} (x : Int32) (h : j ≠ i) : bput u k i x k j = u k j := by simp [bput, bs, upd, h]
theorem bput_c (u : bU) {k i c : Nat} (x : Int32) (h : c ≠ k) : bput u k i x c = u c := bs_ne _ _ h
theorem sv11_c {c : Nat} (hc : c ≠ 2) : ∀ (f j : Nat) (u : bU), (L6_save_11 u f j) c = u c := by
  intro f
  induction f with
  | zero => intro j u; rfl
  | succ f ih =>
    intro j u
    rw [L6_save_11]
    split
    · rfl
    · rw [ih]; exact bput_c _ _ hc
theorem sv52_c {c : Nat} (hc : c ≠ 2) : ∀ (f j : Nat) (u : bU), (L6_save_52 u f j) c = u c := by
  intro f
  induction f with
  | zero => intro j u; rfl
  | succ f ih =>
    intro j u
    rw [L6_save_52]
    split
    · rfl
    · rw [ih]; exact bput_c _ _ hc
theorem sv11 : ∀ (d f j : Nat) (u : bU), j + d = 1415 → d < f → ∀ k : Nat, (L6_save_11 u f j) 2 k = if j ≤ k ∧ k < 1415 then u 2 (k + 283) else u 2 k := by
  intro d
  induction d with
  | zero =>
    intro f j u hj hf k
    obtain ⟨f, rfl⟩ : ∃ q : Nat, f = q + 1 := ⟨f - 1, by omega⟩
    rw [L6_save_11, if_pos (show (1415 : Int32) ≤ nI j from nI_le (a := 1415) (by omega) (by omega)), if_neg (by omega)]
  | succ d ih =>
    intro f j u hj hf k
    obtain ⟨f, rfl⟩ : ∃ q : Nat, f = q + 1 := ⟨f - 1, by omega⟩
    rw [L6_save_11, if_neg (show ¬ (1415 : Int32) ≤ nI j from nI_ge (b := 1415) (by omega) (by decide)), show (nI j + 283 : Int32) = nI (j + 283) from nI_add j 283, mC (by omega), ih f (j + 1) _ (by omega) (by omega) k]
    by_cases c : j + 1 ≤ k ∧ k < 1415
    · rw [if_pos c, if_pos (by omega), bput_ne _ _ (by omega)]
    · rw [if_neg c]
      by_cases c2 : k = j
      · subst c2
        rw [bput_at, if_pos (by omega)]
      · rw [bput_ne _ _ c2, if_neg (by omega)]
theorem sv52 {n : Nat} (hn : n ≤ 5) : ∀ (d f j : Nat) (u : bU), j + d = 283 → d < f → u 6 0 = nI n → ∀ k : Nat, (L6_save_52 u f j) 2 k = if 283 * n + j ≤ k ∧ k < 283 * n + 283 then u 0 (k - 283 * n) else u 2 k := by
  intro d
  induction d with
  | zero =>
    intro f j u hj hf e k
    obtain ⟨f, rfl⟩ : ∃ q : Nat, f = q + 1 := ⟨f - 1, by omega⟩
    rw [L6_save_52, if_pos (show (283 : Int32) ≤ nI j from nI_le (a := 283) (by omega) (by omega)), if_neg (by omega)]
  | succ d ih =>
    intro f j u hj hf e k
    obtain ⟨f, rfl⟩ : ∃ q : Nat, f = q + 1 := ⟨f - 1, by omega⟩
    rw [L6_save_52, if_neg (show ¬ (283 : Int32) ≤ nI j from nI_ge (b := 283) (by omega) (by decide)), mSv_idx e (by omega) (by omega), ih f (j + 1) (bput u 2 (283 * n + j) (u 0 j)) (by omega) (by omega) e k]
    by_cases c : 283 * n + (j + 1) ≤ k ∧ k < 283 * n + 283
    · rw [if_pos c, if_pos (by omega), bput_c _ _ (by decide)]
    · rw [if_neg c]
      by_cases c2 : k = 283 * n + j
      · subst c2
        rw [bput_at, if_pos (by omega), show 283 * n + j - 283 * n = j by omega]
      · rw [bput_ne _ _ c2, if_neg (by omega)]
def saveOK (v w : bU) (n : Nat) : Prop := (∀ c : Nat, c ≠ 2 → c ≠ 6 → w c = v c) ∧ w 6 0 = nI (min (n + 1) 6) ∧ (∀ k : Nat, k ≠ 0 → w 6 k = v 6 k) ∧ (∀ k : Nat, k < 283 → w 2 (283 * (min (n + 1) 6 - 1) + k) = v 0 k) ∧ ∀ i k : Nat, 1 ≤ i → i < min (n + 1) 6 → k < 283 → w 2 (283 * (min (n + 1) 6 - 1 - i) + k) = v 2 (283 * (n - i) + k)
theorem savev {v : bU} {n : Nat} (hn : n ≤ 6) (e : v 6 0 = nI n) : saveOK v (F6_save v) n := by
  unfold F6_save
  by_cases c : n = 6
  · subst c
    rw [if_pos (show v 6 0 = (6 : Int32) from e)]
    have e1 : (L6_save_11 v (1415 + 1) 0) 6 0 = nI 6 := by rw [sv11_c (by decide)]; exact e
    rw [e1]
    generalize hw : bput (L6_save_11 v (1415 + 1) 0) 6 0 (nI 6 - 1) = w1
    have w6 : w1 6 0 = nI 5 := by rw [← hw, bput_at]; decide
    have w6k : ∀ k : Nat, k ≠ 0 → w1 6 k = v 6 k := fun k hk => by rw [← hw, bput_ne _ _ hk, sv11_c (by decide)]
    have wc : ∀ c : Nat, c ≠ 2 → c ≠ 6 → w1 c = v c := fun c h2 h6 => by rw [← hw, bput_c _ _ h6, sv11_c h2]
    have w2 : ∀ k : Nat, w1 2 k = if k < 1415 then v 2 (k + 283) else v 2 k := fun k => by
      rw [← hw, bput_c _ _ (by decide), sv11 1415 1416 0 v (by decide) (by decide) k]
      by_cases q : k < 1415
      · rw [if_pos q, if_pos ⟨Nat.zero_le k, q⟩]
      · rw [if_neg q, if_neg (fun z => q z.2)]
    rw [show (L6_save_52 w1 (283 + 1) 0) 6 0 = nI 5 from by rw [sv52_c (by decide)]; exact w6]
    unfold saveOK
    rw [show min (6 + 1) 6 = 6 from rfl]
    refine ⟨fun c h2 h6 => ?_, ?_, fun k hk => ?_, fun k hk => ?_, fun i k h1 hi hk => ?_⟩
    · rw [bput_c _ _ h6, sv52_c h2, wc c h2 h6]
    · rw [bput_at]; decide
    · rw [bput_ne _ _ hk, sv52_c (by decide), w6k k hk]
    · rw [bput_c _ _ (by decide), sv52 (n := 5) (by decide) 283 284 0 w1 (by decide) (by decide) w6, if_pos (by omega), wc 0 (by decide) (by decide), show 283 * (6 - 1) + k - 283 * 5 = k by omega]
    · rw [bput_c _ _ (by decide), sv52 (n := 5) (by decide) 283 284 0 w1 (by decide) (by decide) w6, if_neg (by omega), w2, if_pos (by omega), show 283 * (6 - 1 - i) + k + 283 = 283 * (6 - i) + k by omega]
  · rw [if_neg (show ¬ v 6 0 = (6 : Int32) from fun q => c ((nI_eq (b := 6) (by omega) (by decide)).mp (e.symm.trans q)))]
    rw [show (L6_save_52 v (283 + 1) 0) 6 0 = nI n from by rw [sv52_c (by decide)]; exact e, nI_1]
    have m1 : min (n + 1) 6 = n + 1 := by omega
    unfold saveOK
    rw [m1]
    refine ⟨fun c h2 h6 => ?_, ?_, fun k hk => ?_, fun k hk => ?_, fun i k h1 hi hk => ?_⟩
    · rw [bput_c _ _ h6, sv52_c h2]
    · rw [bput_at]
    · rw [bput_ne _ _ hk, sv52_c (by decide)]
    · rw [bput_c _ _ (by decide), sv52 (n := n) (by omega) 283 284 0 v (by decide) (by decide) e, if_pos (by omega), show 283 * (n + 1 - 1) + k - 283 * n = k by omega]
    · rw [bput_c _ _ (by decide), sv52 (n := n) (by omega) 283 284 0 v (by decide) (by decide) e, if_neg (by omega), show n + 1 - 1 - i = n - i by omega]
/-- both sides keep the state -/
theorem Rel_keep {B : Nat} {a b : bU} (h : Rel B a b) : rSav B (F1_keep a) (F6_save b) ∧ F1_keep a 0 = a 0 ∧ (F6_save b) 0 = b 0 ∧ rTxt (F1_keep a) (F6_save b) ∧ rTab (F6_save b) := by
  obtain ⟨h1, ⟨n, l, hn, hl, a3, a4, a5, a6⟩, ⟨L, hL, t1, t2, t3⟩, h4⟩ := h
  obtain ⟨k1, k2, k3, k4, k5, k6, k7⟩ := keepv hl a3 hn a4
  obtain ⟨s1, s2, s3, s4, s5⟩ := savev hn a5
  refine ⟨⟨min (n + 1) 6, (l + 1) % 6, by omega, by omega, k2, k3, s2, fun i hi => ?_⟩, k1, s1 0 (by decide) (by decide), ⟨L, hL, by rw [k4]; exact t1, by rw [s3 1 (by decide)]; exact t2, fun i hi => by rw [k5, s1 3 (by decide) (by decide)]; exact t3 i hi⟩, fun i hi => by rw [s1 4 (by decide) (by decide), s1 5 (by decide) (by decide)]; exact h4 i hi⟩
  rcases Nat.eq_zero_or_pos i with q | q
  · subst q
    rw [show ((l + 1) % 6 + 6 - 0) % 6 = (l + 1) % 6 by omega]
    exact RV_far h1 k6 (fun j hj => by rw [Nat.sub_zero]; exact s4 j hj)
  · rw [show ((l + 1) % 6 + 6 - i) % 6 = (l + 6 - (i - 1)) % 6 by omega, k7 _ (by omega) (by omega)]
    exact RV_far (a6 (i - 1) (by omega)) (fun _ _ => rfl) (fun j hj => by
      rw [s5 i j q hi hj]
      congr 1
      omega)

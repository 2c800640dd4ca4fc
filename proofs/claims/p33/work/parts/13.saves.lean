-- the saved states: what keep and giveBack do (own text, by program)
def keepOK (u w : bU) (l n : Nat) : Prop := w 0 = u 0 ∧ w 11 0 = nI ((l + 1) % 6) ∧ w 11 1 = nI (min (n + 1) 6) ∧ w 11 2 = u 11 2 ∧ w 2 = u 2 ∧ (∀ i : Nat, i < 345 → w (3 + (l + 1) % 6) i = u 0 i) ∧ ∀ q : Nat, q < 6 → q ≠ (l + 1) % 6 → w (3 + q) = u (3 + q)
def backOK (u w : bU) (l n : Nat) : Prop := (∀ i : Nat, i < 345 → w 0 i = u (3 + l) i) ∧ w 11 0 = nI ((l + 5) % 6) ∧ w 11 1 = nI (n - 1) ∧ w 11 2 = u 11 2 ∧ w 2 = u 2 ∧ ∀ q : Nat, q < 6 → w (3 + q) = u (3 + q)
theorem keepv_0 {u : bU} {n : Nat} (h : u 11 0 = 0) (hn : n ≤ 6) (e : u 11 1 = nI n) : keepOK u (F1_keep u) 0 n := by
  rw [F1_keep_at0 h]
  unfold F1_keep_0 F2_copyFromS_1
  have e2 : (bput u 11 0 1) 11 1 = nI n := e
  rw [e2]
  by_cases c : 6 ≤ n
  · obtain rfl : n = 6 := by omega
    rw [if_pos (show (6 : Int32) ≤ nI 6 by decide)]
    refine ⟨rfl, rfl, rfl, rfl, rfl, fun i hi => pk_cpy_in (Nat.zero_le i) (by omega) |>.trans ?_, fun q hq hne => ?_⟩
    · rw [Nat.zero_add, Nat.sub_zero]; rfl
    · match q, hq, hne with
      | 0, _, _ => exact rfl
      | 1, _, h9 => exact absurd rfl h9
      | 2, _, _ => exact rfl
      | 3, _, _ => exact rfl
      | 4, _, _ => exact rfl
      | 5, _, _ => exact rfl
      | q + 6, h9, _ => exact absurd h9 (by omega)
  · rw [if_neg (show ¬ (6 : Int32) ≤ nI n from nI_ge (b := 6) (by omega) (by decide)), nI_1]
    refine ⟨rfl, rfl, by rw [Nat.min_eq_left (by omega)]; rfl, rfl, rfl, fun i hi => pk_cpy_in (Nat.zero_le i) (by omega) |>.trans ?_, fun q hq hne => ?_⟩
    · rw [Nat.zero_add, Nat.sub_zero]; rfl
    · match q, hq, hne with
      | 0, _, _ => exact rfl
      | 1, _, h9 => exact absurd rfl h9
      | 2, _, _ => exact rfl
      | 3, _, _ => exact rfl
      | 4, _, _ => exact rfl
      | 5, _, _ => exact rfl
      | q + 6, h9, _ => exact absurd h9 (by omega)
theorem backv_0 {u : bU} {n : Nat} (h : u 11 0 = 0) (hn : n ≤ 6) (h0 : 1 ≤ n) (e : u 11 1 = nI n) : backOK u (F1_giveBack u) 0 n := by
  rw [F1_giveBack_at0 h]
  unfold F1_giveBack_0 F2_copyFromN_0
  have e2 : (bput (bs u 0 (va_cpy (u 3) (u 0) 0 0 345)) 11 0 5) 11 1 = nI n := e
  rw [e, if_neg (nI_nle h0 (by omega)), e2, show (nI n - 1 : Int32) = nI (n - 1) from pk_sub (b := 1) h0]
  refine ⟨fun i hi => pk_cpy_in (Nat.zero_le i) (by omega) |>.trans ?_, rfl, rfl, rfl, rfl, fun q hq => ?_⟩
  · rw [Nat.zero_add, Nat.sub_zero]
  · match q, hq with
      | 0, _ => exact rfl
      | 1, _ => exact rfl
      | 2, _ => exact rfl
      | 3, _ => exact rfl
      | 4, _ => exact rfl
      | 5, _ => exact rfl
      | q + 6, h9 => exact absurd h9 (by omega)
theorem keepv_1 {u : bU} {n : Nat} (h : u 11 0 = 1) (hn : n ≤ 6) (e : u 11 1 = nI n) : keepOK u (F1_keep u) 1 n := by
  rw [F1_keep_at1 h]
  unfold F1_keep_1 F2_copyFromS_2
  have e2 : (bput u 11 0 2) 11 1 = nI n := e
  rw [e2]
  by_cases c : 6 ≤ n
  · obtain rfl : n = 6 := by omega
    rw [if_pos (show (6 : Int32) ≤ nI 6 by decide)]
    refine ⟨rfl, rfl, rfl, rfl, rfl, fun i hi => pk_cpy_in (Nat.zero_le i) (by omega) |>.trans ?_, fun q hq hne => ?_⟩
    · rw [Nat.zero_add, Nat.sub_zero]; rfl
    · match q, hq, hne with
      | 0, _, _ => exact rfl
      | 1, _, _ => exact rfl
      | 2, _, h9 => exact absurd rfl h9
      | 3, _, _ => exact rfl
      | 4, _, _ => exact rfl
      | 5, _, _ => exact rfl
      | q + 6, h9, _ => exact absurd h9 (by omega)
  · rw [if_neg (show ¬ (6 : Int32) ≤ nI n from nI_ge (b := 6) (by omega) (by decide)), nI_1]
    refine ⟨rfl, rfl, by rw [Nat.min_eq_left (by omega)]; rfl, rfl, rfl, fun i hi => pk_cpy_in (Nat.zero_le i) (by omega) |>.trans ?_, fun q hq hne => ?_⟩
    · rw [Nat.zero_add, Nat.sub_zero]; rfl
    · match q, hq, hne with
      | 0, _, _ => exact rfl
      | 1, _, _ => exact rfl
      | 2, _, h9 => exact absurd rfl h9
      | 3, _, _ => exact rfl
      | 4, _, _ => exact rfl
      | 5, _, _ => exact rfl
      | q + 6, h9, _ => exact absurd h9 (by omega)
theorem backv_1 {u : bU} {n : Nat} (h : u 11 0 = 1) (hn : n ≤ 6) (h0 : 1 ≤ n) (e : u 11 1 = nI n) : backOK u (F1_giveBack u) 1 n := by
  rw [F1_giveBack_at1 h]
  unfold F1_giveBack_1 F2_copyFromN_1
  have e2 : (bput (bs u 0 (va_cpy (u 4) (u 0) 0 0 345)) 11 0 0) 11 1 = nI n := e
  rw [e, if_neg (nI_nle h0 (by omega)), e2, show (nI n - 1 : Int32) = nI (n - 1) from pk_sub (b := 1) h0]
  refine ⟨fun i hi => pk_cpy_in (Nat.zero_le i) (by omega) |>.trans ?_, rfl, rfl, rfl, rfl, fun q hq => ?_⟩
  · rw [Nat.zero_add, Nat.sub_zero]
  · match q, hq with
      | 0, _ => exact rfl
      | 1, _ => exact rfl
      | 2, _ => exact rfl
      | 3, _ => exact rfl
      | 4, _ => exact rfl
      | 5, _ => exact rfl
      | q + 6, h9 => exact absurd h9 (by omega)
theorem keepv_2 {u : bU} {n : Nat} (h : u 11 0 = 2) (hn : n ≤ 6) (e : u 11 1 = nI n) : keepOK u (F1_keep u) 2 n := by
  rw [F1_keep_at2 h]
  unfold F1_keep_2 F2_copyFromS_3
  have e2 : (bput u 11 0 3) 11 1 = nI n := e
  rw [e2]
  by_cases c : 6 ≤ n
  · obtain rfl : n = 6 := by omega
    rw [if_pos (show (6 : Int32) ≤ nI 6 by decide)]
    refine ⟨rfl, rfl, rfl, rfl, rfl, fun i hi => pk_cpy_in (Nat.zero_le i) (by omega) |>.trans ?_, fun q hq hne => ?_⟩
    · rw [Nat.zero_add, Nat.sub_zero]; rfl
    · match q, hq, hne with
      | 0, _, _ => exact rfl
      | 1, _, _ => exact rfl
      | 2, _, _ => exact rfl
      | 3, _, h9 => exact absurd rfl h9
      | 4, _, _ => exact rfl
      | 5, _, _ => exact rfl
      | q + 6, h9, _ => exact absurd h9 (by omega)
  · rw [if_neg (show ¬ (6 : Int32) ≤ nI n from nI_ge (b := 6) (by omega) (by decide)), nI_1]
    refine ⟨rfl, rfl, by rw [Nat.min_eq_left (by omega)]; rfl, rfl, rfl, fun i hi => pk_cpy_in (Nat.zero_le i) (by omega) |>.trans ?_, fun q hq hne => ?_⟩
    · rw [Nat.zero_add, Nat.sub_zero]; rfl
    · match q, hq, hne with
      | 0, _, _ => exact rfl
      | 1, _, _ => exact rfl
      | 2, _, _ => exact rfl
      | 3, _, h9 => exact absurd rfl h9
      | 4, _, _ => exact rfl
      | 5, _, _ => exact rfl
      | q + 6, h9, _ => exact absurd h9 (by omega)
theorem backv_2 {u : bU} {n : Nat} (h : u 11 0 = 2) (hn : n ≤ 6) (h0 : 1 ≤ n) (e : u 11 1 = nI n) : backOK u (F1_giveBack u) 2 n := by
  rw [F1_giveBack_at2 h]
  unfold F1_giveBack_2 F2_copyFromN_2
  have e2 : (bput (bs u 0 (va_cpy (u 5) (u 0) 0 0 345)) 11 0 1) 11 1 = nI n := e
  rw [e, if_neg (nI_nle h0 (by omega)), e2, show (nI n - 1 : Int32) = nI (n - 1) from pk_sub (b := 1) h0]
  refine ⟨fun i hi => pk_cpy_in (Nat.zero_le i) (by omega) |>.trans ?_, rfl, rfl, rfl, rfl, fun q hq => ?_⟩
  · rw [Nat.zero_add, Nat.sub_zero]
  · match q, hq with
      | 0, _ => exact rfl
      | 1, _ => exact rfl
      | 2, _ => exact rfl
      | 3, _ => exact rfl
      | 4, _ => exact rfl
      | 5, _ => exact rfl
      | q + 6, h9 => exact absurd h9 (by omega)
theorem keepv_3 {u : bU} {n : Nat} (h : u 11 0 = 3) (hn : n ≤ 6) (e : u 11 1 = nI n) : keepOK u (F1_keep u) 3 n := by
  rw [F1_keep_at3 h]
  unfold F1_keep_3 F2_copyFromS_4
  have e2 : (bput u 11 0 4) 11 1 = nI n := e
  rw [e2]
  by_cases c : 6 ≤ n
  · obtain rfl : n = 6 := by omega
    rw [if_pos (show (6 : Int32) ≤ nI 6 by decide)]
    refine ⟨rfl, rfl, rfl, rfl, rfl, fun i hi => pk_cpy_in (Nat.zero_le i) (by omega) |>.trans ?_, fun q hq hne => ?_⟩
    · rw [Nat.zero_add, Nat.sub_zero]; rfl
    · match q, hq, hne with
      | 0, _, _ => exact rfl
      | 1, _, _ => exact rfl
      | 2, _, _ => exact rfl
      | 3, _, _ => exact rfl
      | 4, _, h9 => exact absurd rfl h9
      | 5, _, _ => exact rfl
      | q + 6, h9, _ => exact absurd h9 (by omega)
  · rw [if_neg (show ¬ (6 : Int32) ≤ nI n from nI_ge (b := 6) (by omega) (by decide)), nI_1]
    refine ⟨rfl, rfl, by rw [Nat.min_eq_left (by omega)]; rfl, rfl, rfl, fun i hi => pk_cpy_in (Nat.zero_le i) (by omega) |>.trans ?_, fun q hq hne => ?_⟩
    · rw [Nat.zero_add, Nat.sub_zero]; rfl
    · match q, hq, hne with
      | 0, _, _ => exact rfl
      | 1, _, _ => exact rfl
      | 2, _, _ => exact rfl
      | 3, _, _ => exact rfl
      | 4, _, h9 => exact absurd rfl h9
      | 5, _, _ => exact rfl
      | q + 6, h9, _ => exact absurd h9 (by omega)
theorem backv_3 {u : bU} {n : Nat} (h : u 11 0 = 3) (hn : n ≤ 6) (h0 : 1 ≤ n) (e : u 11 1 = nI n) : backOK u (F1_giveBack u) 3 n := by
  rw [F1_giveBack_at3 h]
  unfold F1_giveBack_3 F2_copyFromN_3
  have e2 : (bput (bs u 0 (va_cpy (u 6) (u 0) 0 0 345)) 11 0 2) 11 1 = nI n := e
  rw [e, if_neg (nI_nle h0 (by omega)), e2, show (nI n - 1 : Int32) = nI (n - 1) from pk_sub (b := 1) h0]
  refine ⟨fun i hi => pk_cpy_in (Nat.zero_le i) (by omega) |>.trans ?_, rfl, rfl, rfl, rfl, fun q hq => ?_⟩
  · rw [Nat.zero_add, Nat.sub_zero]
  · match q, hq with
      | 0, _ => exact rfl
      | 1, _ => exact rfl
      | 2, _ => exact rfl
      | 3, _ => exact rfl
      | 4, _ => exact rfl
      | 5, _ => exact rfl
      | q + 6, h9 => exact absurd h9 (by omega)
theorem keepv_4 {u : bU} {n : Nat} (h : u 11 0 = 4) (hn : n ≤ 6) (e : u 11 1 = nI n) : keepOK u (F1_keep u) 4 n := by
  rw [F1_keep_at4 h]
  unfold F1_keep_4 F2_copyFromS_5
  have e2 : (bput u 11 0 5) 11 1 = nI n := e
  rw [e2]
  by_cases c : 6 ≤ n
  · obtain rfl : n = 6 := by omega
    rw [if_pos (show (6 : Int32) ≤ nI 6 by decide)]
    refine ⟨rfl, rfl, rfl, rfl, rfl, fun i hi => pk_cpy_in (Nat.zero_le i) (by omega) |>.trans ?_, fun q hq hne => ?_⟩
    · rw [Nat.zero_add, Nat.sub_zero]; rfl
    · match q, hq, hne with
      | 0, _, _ => exact rfl
      | 1, _, _ => exact rfl
      | 2, _, _ => exact rfl
      | 3, _, _ => exact rfl
      | 4, _, _ => exact rfl
      | 5, _, h9 => exact absurd rfl h9
      | q + 6, h9, _ => exact absurd h9 (by omega)
  · rw [if_neg (show ¬ (6 : Int32) ≤ nI n from nI_ge (b := 6) (by omega) (by decide)), nI_1]
    refine ⟨rfl, rfl, by rw [Nat.min_eq_left (by omega)]; rfl, rfl, rfl, fun i hi => pk_cpy_in (Nat.zero_le i) (by omega) |>.trans ?_, fun q hq hne => ?_⟩
    · rw [Nat.zero_add, Nat.sub_zero]; rfl
    · match q, hq, hne with
      | 0, _, _ => exact rfl
      | 1, _, _ => exact rfl
      | 2, _, _ => exact rfl
      | 3, _, _ => exact rfl
      | 4, _, _ => exact rfl
      | 5, _, h9 => exact absurd rfl h9
      | q + 6, h9, _ => exact absurd h9 (by omega)
theorem backv_4 {u : bU} {n : Nat} (h : u 11 0 = 4) (hn : n ≤ 6) (h0 : 1 ≤ n) (e : u 11 1 = nI n) : backOK u (F1_giveBack u) 4 n := by
  rw [F1_giveBack_at4 h]
  unfold F1_giveBack_4 F2_copyFromN_4
  have e2 : (bput (bs u 0 (va_cpy (u 7) (u 0) 0 0 345)) 11 0 3) 11 1 = nI n := e
  rw [e, if_neg (nI_nle h0 (by omega)), e2, show (nI n - 1 : Int32) = nI (n - 1) from pk_sub (b := 1) h0]
  refine ⟨fun i hi => pk_cpy_in (Nat.zero_le i) (by omega) |>.trans ?_, rfl, rfl, rfl, rfl, fun q hq => ?_⟩
  · rw [Nat.zero_add, Nat.sub_zero]
  · match q, hq with
      | 0, _ => exact rfl
      | 1, _ => exact rfl
      | 2, _ => exact rfl
      | 3, _ => exact rfl
      | 4, _ => exact rfl
      | 5, _ => exact rfl
      | q + 6, h9 => exact absurd h9 (by omega)
theorem keepv_5 {u : bU} {n : Nat} (h : u 11 0 = 5) (hn : n ≤ 6) (e : u 11 1 = nI n) : keepOK u (F1_keep u) 5 n := by
  rw [F1_keep_at5 h]
  unfold F1_keep_5 F2_copyFromS_0
  have e2 : (bput u 11 0 0) 11 1 = nI n := e
  rw [e2]
  by_cases c : 6 ≤ n
  · obtain rfl : n = 6 := by omega
    rw [if_pos (show (6 : Int32) ≤ nI 6 by decide)]
    refine ⟨rfl, rfl, rfl, rfl, rfl, fun i hi => pk_cpy_in (Nat.zero_le i) (by omega) |>.trans ?_, fun q hq hne => ?_⟩
    · rw [Nat.zero_add, Nat.sub_zero]; rfl
    · match q, hq, hne with
      | 0, _, h9 => exact absurd rfl h9
      | 1, _, _ => exact rfl
      | 2, _, _ => exact rfl
      | 3, _, _ => exact rfl
      | 4, _, _ => exact rfl
      | 5, _, _ => exact rfl
      | q + 6, h9, _ => exact absurd h9 (by omega)
  · rw [if_neg (show ¬ (6 : Int32) ≤ nI n from nI_ge (b := 6) (by omega) (by decide)), nI_1]
    refine ⟨rfl, rfl, by rw [Nat.min_eq_left (by omega)]; rfl, rfl, rfl, fun i hi => pk_cpy_in (Nat.zero_le i) (by omega) |>.trans ?_, fun q hq hne => ?_⟩
    · rw [Nat.zero_add, Nat.sub_zero]; rfl
    · match q, hq, hne with
      | 0, _, h9 => exact absurd rfl h9
      | 1, _, _ => exact rfl
      | 2, _, _ => exact rfl
      | 3, _, _ => exact rfl
      | 4, _, _ => exact rfl
      | 5, _, _ => exact rfl
      | q + 6, h9, _ => exact absurd h9 (by omega)
theorem backv_5 {u : bU} {n : Nat} (h : u 11 0 = 5) (hn : n ≤ 6) (h0 : 1 ≤ n) (e : u 11 1 = nI n) : backOK u (F1_giveBack u) 5 n := by
  rw [F1_giveBack_at5 h]
  unfold F1_giveBack_5 F2_copyFromN_5
  have e2 : (bput (bs u 0 (va_cpy (u 8) (u 0) 0 0 345)) 11 0 4) 11 1 = nI n := e
  rw [e, if_neg (nI_nle h0 (by omega)), e2, show (nI n - 1 : Int32) = nI (n - 1) from pk_sub (b := 1) h0]
  refine ⟨fun i hi => pk_cpy_in (Nat.zero_le i) (by omega) |>.trans ?_, rfl, rfl, rfl, rfl, fun q hq => ?_⟩
  · rw [Nat.zero_add, Nat.sub_zero]
  · match q, hq with
      | 0, _ => exact rfl
      | 1, _ => exact rfl
      | 2, _ => exact rfl
      | 3, _ => exact rfl
      | 4, _ => exact rfl
      | 5, _ => exact rfl
      | q + 6, h9 => exact absurd h9 (by omega)
theorem keepv {u : bU} {l n : Nat} (hl : l < 6) (h : u 11 0 = nI l) (hn : n ≤ 6) (e : u 11 1 = nI n) : keepOK u (F1_keep u) l n := by
  match l, hl with
  | 0, _ => exact keepv_0 h hn e
  | 1, _ => exact keepv_1 h hn e
  | 2, _ => exact keepv_2 h hn e
  | 3, _ => exact keepv_3 h hn e
  | 4, _ => exact keepv_4 h hn e
  | 5, _ => exact keepv_5 h hn e
  | l + 6, h9 => omega
theorem backv {u : bU} {l n : Nat} (hl : l < 6) (h : u 11 0 = nI l) (hn : n ≤ 6) (h0 : 1 ≤ n) (e : u 11 1 = nI n) : backOK u (F1_giveBack u) l n := by
  match l, hl with
  | 0, _ => exact backv_0 h hn h0 e
  | 1, _ => exact backv_1 h hn h0 e
  | 2, _ => exact backv_2 h hn h0 e
  | 3, _ => exact backv_3 h hn h0 e
  | 4, _ => exact backv_4 h hn h0 e
  | 5, _ => exact backv_5 h hn h0 e
  | l + 6, h9 => omega

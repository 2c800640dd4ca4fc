-- THE INVARIANT of the class's row (own text)
def rg (B : Nat) (x : Int32) : Prop := 0 ≤ x.toInt ∧ x.toInt ≤ B
theorem rg_up {B B' : Nat} {x : Int32} (h : rg B x) (hB : B ≤ B') : rg B' x := ⟨h.1, by have := h.2; omega⟩
theorem rg_nI {B a : Nat} (h : a ≤ B) (ha : a < 2147483648) : rg B (nI a) := by
  unfold rg
  rw [nI_toInt ha]
  omega
theorem rg_nat {B : Nat} {x : Int32} (h : rg B x) : ∃ a : Nat, a ≤ B ∧ x = nI a := ⟨x.toInt.toNat, by have := h.1; have := h.2; omega, iOf (by have := h.1; omega)⟩
theorem rg_add {B B' a : Nat} {x : Int32} (h : rg B x) (hB : B + a ≤ B') (h9 : B' < 2147483648) : rg B' (x + nI a) := by
  have h1 := h.1
  have h2 := h.2
  have e : (nI a).toInt = (a : Int) := nI_toInt (by omega)
  unfold rg
  rw [iAdd (by rw [e]; omega) (by rw [e]; omega), e]
  omega
theorem rg_sub {B B' a : Nat} {x : Int32} (h : rg B x) (ha : (a : Int) ≤ x.toInt) (hB : B ≤ B') (h9 : B' < 2147483648) : rg B' (x + -nI a) := by
  have h1 := h.1
  have h2 := h.2
  have e : (nI a).toInt = (a : Int) := nI_toInt (by omega)
  have e2 : (-nI a).toInt = -(a : Int) := by rw [iNeg (by rw [e]; omega), e]
  unfold rg
  rw [iAdd (by rw [e2]; omega) (by rw [e2]; omega), e2]
  omega
/-- the numbers that are never below 0 -/
def pP (j : Nat) : Prop := j = 2 ∨ j = 6 ∨ (∃ b w : Nat, b < 8 ∧ (w = 1 ∨ w = 2 ∨ (5 ≤ w ∧ w ≤ 10)) ∧ j = 17 + 12 * b + w) ∨ ∃ s w : Nat, s < 6 ∧ (w ≤ 1 ∨ (10 ≤ w ∧ w < 18) ∨ (20 ≤ w ∧ w < 28)) ∧ j = 113 + 28 * s + w
theorem nP_g {j : Nat} (h : j = 3 ∨ j = 4 ∨ j = 5 ∨ (7 ≤ j ∧ j < 17)) : ¬ pP j := by
  rintro (h1 | h1 | ⟨b, w, h1, h2, h3⟩ | ⟨s, w, h1, h2, h3⟩) <;> omega
theorem nP_b {b : Nat} (hb : b < 8) : ¬ pP (17 + 12 * b + 11) := by
  rintro (h1 | h1 | ⟨b, w, h1, h2, h3⟩ | ⟨s, w, h1, h2, h3⟩) <;> omega
theorem nP_s {s w : Nat} (hs : s < 6) (h : 2 ≤ w ∧ w < 10) : ¬ pP (113 + 28 * s + w) := by
  rintro (h1 | h1 | ⟨b, w, h1, h2, h3⟩ | ⟨s, w, h1, h2, h3⟩) <;> omega
theorem pP_2 : pP 2 := Or.inl rfl
theorem pP_6 : pP 6 := Or.inr (Or.inl rfl)
theorem pP_b {b w : Nat} (hb : b < 8) (h : w = 1 ∨ w = 2 ∨ (5 ≤ w ∧ w ≤ 10)) : pP (17 + 12 * b + w) := Or.inr (Or.inr (Or.inl ⟨b, w, hb, h, rfl⟩))
theorem pP_s {s w : Nat} (hs : s < 6) (h : w ≤ 1 ∨ (10 ≤ w ∧ w < 18) ∨ (20 ≤ w ∧ w < 28)) : pP (113 + 28 * s + w) := Or.inr (Or.inr (Or.inr ⟨s, w, hs, h, rfl⟩))
def HD (n t : Nat) (kd : Nat → Nat) (f : Nat) (c : Nat → Int32) : Prop := (n ≤ 8 ∧ t ≤ 6 ∧ c 0 = nI n ∧ c 1 = nI t) ∧ (∀ b : Nat, b < 8 → kd b < 2 ∧ c (17 + 12 * b + 0) = nI (kd b)) ∧ (c 11 = nI 8 ∧ c 12 = nI 15 ∧ c 13 = nI 25 ∧ c 14 = nI 150 ∧ c 15 = nI 6 ∧ c 16 = nI f ∧ 2 ≤ f ∧ f ≤ 1000)
def ZR (n t : Nat) (kd : Nat → Nat) (bb : Nat → Int32) (c : Nat → Int32) : Prop := (∀ b w : Nat, n ≤ b → b < 8 → 1 ≤ w → w < 12 → c (17 + 12 * b + w) = 0) ∧ (∀ s w : Nat, t ≤ s → s < 6 → w < 28 → c (113 + 28 * s + w) = 0) ∧ (∀ s b : Nat, s < 6 → n ≤ b → b < 8 → c (113 + 28 * s + (10 + b)) = 0 ∧ c (113 + 28 * s + (20 + b)) = 0) ∧ ∀ b : Nat, n ≤ b → b < 8 → kd b = 0 ∧ bb b = 0
def NN (B : Nat) (c : Nat → Int32) : Prop := ∀ j : Nat, pP j → rg B (c j)
def WN (B f : Nat) (c : Nat → Int32) : Prop := ∀ b : Nat, b < 8 → ∃ F : Nat, F ≤ B ∧ c (17 + 12 * b + 10) = nI F ∧ c (17 + 12 * b + 9) = nI (F / f)
def SW (c : Nat → Int32) : Prop := ∀ a b : Nat, a < 8 → b < 8 → c (281 + 8 * a + b) = -c (281 + 8 * b + a)
def dpo (kd : Nat → Nat) (b : Nat) : Nat := if kd b = 0 then 8 else 15
def gd (kd : Nat → Nat) : Nat → Int32 := fun b => nI (dpo kd b)
def INV (B n t : Nat) (kd : Nat → Nat) (f : Nat) (m k al : Int32) (bb : Nat → Int32) (c : Nat → Int32) : Prop := HD n t kd f c ∧ ZR n t kd bb c ∧ NN B c ∧ WN B f c ∧ SW c ∧ EQ (gd kd) (nI 150) m k al bb c
/-- the places that what is done may change -/
def gk (n t j : Nat) : Prop := (2 ≤ j ∧ j ≤ 10) ∨ (∃ b w : Nat, b < n ∧ 1 ≤ w ∧ w < 12 ∧ j = 17 + 12 * b + w) ∨ (∃ s w : Nat, s < t ∧ w < 10 ∧ j = 113 + 28 * s + w) ∨ ∃ s b : Nat, s < t ∧ b < n ∧ (j = 113 + 28 * s + (10 + b) ∨ j = 113 + 28 * s + (20 + b))
theorem gk_g {n t j : Nat} (h : 2 ≤ j ∧ j ≤ 10) : gk n t j := Or.inl h
theorem gk_b {n t b w : Nat} (hb : b < n) (h : 1 ≤ w ∧ w < 12) : gk n t (17 + 12 * b + w) := Or.inr (Or.inl ⟨b, w, hb, h.1, h.2, rfl⟩)
theorem gk_s {n t s w : Nat} (hs : s < t) (h : w < 10) : gk n t (113 + 28 * s + w) := Or.inr (Or.inr (Or.inl ⟨s, w, hs, h, rfl⟩))
theorem gk_F {n t s b : Nat} (hs : s < t) (hb : b < n) : gk n t (113 + 28 * s + (10 + b)) := Or.inr (Or.inr (Or.inr ⟨s, b, hs, hb, Or.inl rfl⟩))
theorem gk_E {n t s b : Nat} (hs : s < t) (hb : b < n) : gk n t (113 + 28 * s + (20 + b)) := Or.inr (Or.inr (Or.inr ⟨s, b, hs, hb, Or.inr rfl⟩))
theorem gk_lt {n t j : Nat} (hn : n ≤ 8) (ht : t ≤ 6) (h : gk n t j) : j < 281 ∧ 2 ≤ j := by
  rcases h with h | ⟨b, w, h1, h2, h3, h4⟩ | ⟨i, w, h1, h2, h3⟩ | ⟨i, b, h1, h2, h3⟩ <;> omega
theorem gk_st {n t j : Nat} (hn : n ≤ 8) (ht : t ≤ 6) (h : gk n t j) : ∀ k : Nat, k < 6 → j ≠ 11 + k := by
  intro k hk
  rcases h with h | ⟨b, w, h1, h2, h3, h4⟩ | ⟨i, w, h1, h2, h3⟩ | ⟨i, b, h1, h2, h3⟩ <;> omega
theorem gk_kd {n t j : Nat} (hn : n ≤ 8) (ht : t ≤ 6) (h : gk n t j) : ∀ b : Nat, b < 8 → j ≠ 17 + 12 * b + 0 := by
  intro k hk
  rcases h with h | ⟨b, w, h1, h2, h3, h4⟩ | ⟨i, w, h1, h2, h3⟩ | ⟨i, b, h1, h2, h3⟩ <;> omega
theorem gk_zb {n t j : Nat} (hn : n ≤ 8) (ht : t ≤ 6) (h : gk n t j) : ∀ b w : Nat, n ≤ b → b < 8 → 1 ≤ w → w < 12 → j ≠ 17 + 12 * b + w := by
  intro k v h8 h9 h7 h6
  rcases h with h | ⟨b, w, h1, h2, h3, h4⟩ | ⟨i, w, h1, h2, h3⟩ | ⟨i, b, h1, h2, h3⟩ <;> omega
theorem gk_zs {n t j : Nat} (hn : n ≤ 8) (ht : t ≤ 6) (h : gk n t j) : ∀ s w : Nat, t ≤ s → s < 6 → w < 28 → j ≠ 113 + 28 * s + w := by
  intro k v h8 h9 h7
  rcases h with h | ⟨b, w, h1, h2, h3, h4⟩ | ⟨i, w, h1, h2, h3⟩ | ⟨i, b, h1, h2, h3⟩ <;> omega
theorem gk_ze {n t j : Nat} (hn : n ≤ 8) (ht : t ≤ 6) (h : gk n t j) : ∀ s b : Nat, s < 6 → n ≤ b → b < 8 → j ≠ 113 + 28 * s + (10 + b) ∧ j ≠ 113 + 28 * s + (20 + b) := by
  intro k v h8 h9 h7
  rcases h with h | ⟨b, w, h1, h2, h3, h4⟩ | ⟨i, w, h1, h2, h3⟩ | ⟨i, b, h1, h2, h3⟩ <;> omega
theorem INV_adds {B B' n t : Nat} {kd : Nat → Nat} {f : Nat} {m k al m' k' al' : Int32} {bb c : Nat → Int32} {L : List (Nat × Int32)} (h : INV B n t kd f m k al bb c) (hB : B ≤ B') (nd : (L.map Prod.fst).Nodup) (ok : ∀ p ∈ L, gk n t p.1) (val : ∀ p ∈ L, pP p.1 → rg B' (c p.1 + p.2)) (hW : WN B' f (adds c L)) (hE : EQ (gd kd) (nI 150) m' k' al' bb (adds c L)) : INV B' n t kd f m' k' al' bb (adds c L) := by
  obtain ⟨⟨⟨hn, ht, h0, h1⟩, hK, q1, q2, q3, q4, q5, q6, q7, q8⟩, ⟨z1, z2, z3, z4⟩, hN, _, hS, _⟩ := h
  have out : ∀ j : Nat, (∀ p ∈ L, p.1 ≠ j) → adds c L j = c j := fun j hj => adds_out hj
  have st : ∀ j : Nat, j < 6 → adds c L (11 + j) = c (11 + j) := fun j hj => out _ (fun p hp => gk_st hn ht (ok p hp) j hj)
  refine ⟨⟨⟨hn, ht, ?_, ?_⟩, fun b hb => ⟨(hK b hb).1, ?_⟩, (st 0 (by decide)).trans q1, (st 1 (by decide)).trans q2, (st 2 (by decide)).trans q3, (st 3 (by decide)).trans q4, (st 4 (by decide)).trans q5, (st 5 (by decide)).trans q6, q7, q8⟩, ⟨fun b w a1 a2 a3 a4 => ?_, fun s w a1 a2 a3 => ?_, fun s b a1 a2 a3 => ⟨?_, ?_⟩, z4⟩, fun j hj => ?_, hW, fun a b ha hb => ?_, hE⟩
  · rw [out 0 (fun p hp e => by have := gk_lt hn ht (ok p hp); omega)]; exact h0
  · rw [out 1 (fun p hp e => by have := gk_lt hn ht (ok p hp); omega)]; exact h1
  · rw [out _ (fun p hp => gk_kd hn ht (ok p hp) b hb)]; exact (hK b hb).2
  · rw [out _ (fun p hp => gk_zb hn ht (ok p hp) b w a1 a2 a3 a4)]; exact z1 b w a1 a2 a3 a4
  · rw [out _ (fun p hp => gk_zs hn ht (ok p hp) s w a1 a2 a3)]; exact z2 s w a1 a2 a3
  · rw [out _ (fun p hp => (gk_ze hn ht (ok p hp) s b a1 a2 a3).1)]; exact (z3 s b a1 a2 a3).1
  · rw [out _ (fun p hp => (gk_ze hn ht (ok p hp) s b a1 a2 a3).2)]; exact (z3 s b a1 a2 a3).2
  · by_cases q : ∃ p ∈ L, p.1 = j
    · obtain ⟨p, hp, e⟩ := q
      subst e
      rw [adds_in nd hp]
      exact val p hp hj
    · rw [out j (fun p hp e => q ⟨p, hp, e⟩)]
      exact rg_up (hN j hj) hB
  · rw [out _ (fun p hp e => by have := gk_lt hn ht (ok p hp); omega), out _ (fun p hp e => by have := gk_lt hn ht (ok p hp); omega)]
    exact hS a b ha hb
theorem WN_keep {B B' f : Nat} {c : Nat → Int32} {L : List (Nat × Int32)} (h : WN B f c) (hB : B ≤ B') (hL : ∀ p ∈ L, ∀ b : Nat, b < 8 → p.1 ≠ 17 + 12 * b + 10 ∧ p.1 ≠ 17 + 12 * b + 9) : WN B' f (adds c L) := by
  intro b hb
  obtain ⟨F, h1, h2, h3⟩ := h b hb
  refine ⟨F, by omega, ?_, ?_⟩
  · rw [adds_out (fun p hp => (hL p hp b hb).1)]; exact h2
  · rw [adds_out (fun p hp => (hL p hp b hb).2)]; exact h3
theorem Ss_far {c c' : Nat → Int32} {w : Nat} (h : ∀ j : Nat, j < 281 → c' j = c j) (hw : w < 28) : Ss c' w = Ss c w := acc_congr _ _ _ (fun i _ hi => h _ (by omega))
theorem Sb_far {g c c' : Nat → Int32} {w : Nat} (h : ∀ j : Nat, j < 281 → c' j = c j) (hw : w < 12) : Sb g c' w = Sb g c w := acc_congr _ _ _ (fun i _ hi => by
  show c' (17 + 12 * i + w) * g i = _
  rw [h _ (by omega)])
theorem Sd_far {g c c' : Nat → Int32} {o : Nat} (h : ∀ j : Nat, j < 281 → c' j = c j) (ho : o = 10 ∨ o = 20) : Sd g c' o = Sd g c o := acc_congr _ _ _ (fun i _ hi => by
  show Ss c' (o + i) * g i = _
  rw [Ss_far h (by omega)])
theorem EQ_far {g c c' : Nat → Int32} {C m k al : Int32} {bb : Nat → Int32} (h : ∀ j : Nat, j < 281 → c' j = c j) (e : EQ g C m k al bb c) : EQ g C m k al bb c' := by
  obtain ⟨e1, e2, e3, e4, e5, e6, e7⟩ := e
  refine ⟨fun b hb => ?_, ?_, ?_, ?_, ?_, ?_, ?_⟩
  · rw [← e1 b hb]
    unfold Ab
    rw [Ss_far h (by omega), Ss_far h (by omega), h _ (by omega), h _ (by omega), h _ (by omega), h _ (by omega), h _ (by omega), h _ (by omega), h _ (by omega), h _ (by omega)]
  · rw [h 4 (by decide), h 5 (by decide), Ss_far h (by decide), Sd_far h (Or.inl rfl), Sd_far h (Or.inr rfl), Sb_far h (by decide)]; exact e2
  · rw [h 4 (by decide), Ss_far h (by decide)]; exact e3
  · rw [h 6 (by decide), Ss_far h (by decide)]; exact e4
  · rw [h 2 (by decide), Ss_far h (by decide)]; exact e5
  · rw [Ss_far h (by decide), Sb_far h (by decide), Sb_far h (by decide)]; exact e6
  · rw [Ss_far h (by decide), Ss_far h (by decide), Ss_far h (by decide), Sb_far h (by decide), Sb_far h (by decide)]; exact e7
theorem pP_lt {j : Nat} (h : pP j) : j < 281 := by
  rcases h with h1 | h1 | ⟨b, w, h1, h2, h3⟩ | ⟨s, w, h1, h2, h3⟩ <;> omega
/-- the invariant looks at the first 281 numbers, and at the swaps -/
theorem INV_far {B n t : Nat} {kd : Nat → Nat} {f : Nat} {m k al : Int32} {bb c c' : Nat → Int32} (h : INV B n t kd f m k al bb c) (hc : ∀ j : Nat, j < 281 → c' j = c j) (hs : SW c') : INV B n t kd f m k al bb c' := by
  obtain ⟨⟨⟨hn, ht, h0, h1⟩, hK, q1, q2, q3, q4, q5, q6, q7, q8⟩, ⟨z1, z2, z3, z4⟩, hN, hW, hS, hE⟩ := h
  refine ⟨⟨⟨hn, ht, (hc 0 (by decide)).trans h0, (hc 1 (by decide)).trans h1⟩, fun b hb => ⟨(hK b hb).1, (hc _ (by omega)).trans (hK b hb).2⟩, (hc 11 (by decide)).trans q1, (hc 12 (by decide)).trans q2, (hc 13 (by decide)).trans q3, (hc 14 (by decide)).trans q4, (hc 15 (by decide)).trans q5, (hc 16 (by decide)).trans q6, q7, q8⟩, ⟨fun b w a1 a2 a3 a4 => (hc _ (by omega)).trans (z1 b w a1 a2 a3 a4), fun s w a1 a2 a3 => (hc _ (by omega)).trans (z2 s w a1 a2 a3), fun s b a1 a2 a3 => ⟨(hc _ (by omega)).trans (z3 s b a1 a2 a3).1, (hc _ (by omega)).trans (z3 s b a1 a2 a3).2⟩, z4⟩, fun j hj => ?_, fun b hb => ?_, hs, EQ_far hc hE⟩
  · rw [hc j (pP_lt hj)]; exact hN j hj
  · obtain ⟨F, f1, f2, f3⟩ := hW b hb
    exact ⟨F, f1, (hc _ (by omega)).trans f2, (hc _ (by omega)).trans f3⟩
theorem INV_up {B B' n t : Nat} {kd : Nat → Nat} {f : Nat} {m k al : Int32} {bb c : Nat → Int32} (h : INV B n t kd f m k al bb c) (hB : B ≤ B') : INV B' n t kd f m k al bb c := by
  obtain ⟨a1, a2, a3, a4, a5, a6⟩ := h
  refine ⟨a1, a2, fun j hj => rg_up (a3 j hj) hB, fun b hb => ?_, a5, a6⟩
  obtain ⟨F, f1, f2, f3⟩ := a4 b hb
  exact ⟨F, by omega, f2, f3⟩

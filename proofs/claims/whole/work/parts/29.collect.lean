-- COLLECT: bottle by bottle, and all at once (own text)
def nsum (e : Nat → Nat) : Nat → Nat → Nat
  | 0, _ => 0
  | d + 1, j => e j + nsum e d (j + 1)
theorem acc_nsum {f : Nat → Int32} {e : Nat → Nat} : ∀ (d j x : Nat), (∀ i : Nat, j ≤ i → i < j + d → f i = nI (e i)) → acc f d j (nI x) = nI (x + nsum e d j) := by
  intro d
  induction d with
  | zero => intro j x _; rfl
  | succ d ih =>
    intro j x h
    show acc f d (j + 1) (nI x + f j) = _
    rw [h j (by omega) (by omega), nI_add, ih (j + 1) (x + e j) (fun i a b => h i (by omega) (by omega)), nsum]
    congr 1
    omega
theorem nsum_congr {e g : Nat → Nat} : ∀ (d j : Nat), (∀ i : Nat, j ≤ i → i < j + d → e i = g i) → nsum e d j = nsum g d j := by
  intro d
  induction d with
  | zero => intro j _; rfl
  | succ d ih =>
    intro j h
    rw [nsum, nsum, h j (by omega) (by omega), ih (j + 1) (fun i a b => h i (by omega) (by omega))]
theorem nsum_zero {e : Nat → Nat} : ∀ (d j : Nat), (∀ i : Nat, j ≤ i → i < j + d → e i = 0) → nsum e d j = 0 := by
  intro d
  induction d with
  | zero => intro j _; rfl
  | succ d ih =>
    intro j h
    rw [nsum, h j (by omega) (by omega), ih (j + 1) (fun i a b => h i (by omega) (by omega))]
theorem nsum_dec {e : Nat → Nat} {b : Nat} (hb : 1 ≤ e b) : ∀ (d j : Nat), j ≤ b → b < j + d → nsum (fun i => if i = b then e i - 1 else e i) d j + 1 = nsum e d j := by
  intro d
  induction d with
  | zero => intro j h1 h2; omega
  | succ d ih =>
    intro j h1 h2
    rw [nsum, nsum]
    by_cases c : j = b
    · subst c
      rw [if_pos rfl, nsum_congr (g := e) d (j + 1) (fun i a b => if_neg (by omega))]
      omega
    · have := ih (j + 1) (by omega) (by omega)
      rw [if_neg c]
      omega
theorem nsum_le {e : Nat → Nat} {M : Nat} : ∀ (d j : Nat), (∀ i : Nat, j ≤ i → i < j + d → e i ≤ M) → nsum e d j ≤ d * M := by
  intro d
  induction d with
  | zero => intro j _; rw [nsum]; omega
  | succ d ih =>
    intro j h
    have h1 := h j (by omega) (by omega)
    have h2 := ih (j + 1) (fun i a b => h i (by omega) (by omega))
    rw [nsum, Nat.succ_mul]
    omega
-- additions in any order
theorem add1_adds (f : Nat → Int32) (L : List (Nat × Int32)) (i : Nat) (x : Int32) : add1 (adds f L) i x = adds (add1 f i x) L := by
  induction L generalizing f with
  | nil => rfl
  | cons p L ih => rw [adds_cons, ih, adds_cons, add1_comm]
theorem adds_comm (f : Nat → Int32) (L M : List (Nat × Int32)) : adds (adds f L) M = adds (adds f M) L := by
  induction M generalizing f with
  | nil => rfl
  | cons p M ih => rw [adds_cons, add1_adds, ih, adds_cons]
theorem add1_add (f : Nat → Int32) (i : Nat) (x y : Int32) : add1 (add1 f i x) i y = add1 f i (x + y) := by
  funext k
  rw [add1_val, add1_val, add1_val]
  split
  · rw [Int32.add_assoc]
  · rfl
def nPut (s b p : Nat) : List (Nat × Int32) := [(93 + 21 * s + (13 + b), -nI p), (13 + 10 * b + 4, nI p)]
def agg (s : Nat) (p : Nat → Nat) (m : Nat → Int32) : Nat → Nat → Int32
  | 0 => m
  | d + 1 => adds (agg s p m d) (nPut s d (p d))
theorem agg_adds (s : Nat) (p : Nat → Nat) (m : Nat → Int32) (L : List (Nat × Int32)) : ∀ d : Nat, agg s p (adds m L) d = adds (agg s p m d) L := by
  intro d
  induction d with
  | zero => rfl
  | succ d ih => rw [agg, ih, adds_comm, ← agg]
theorem agg_congr {s : Nat} {p q : Nat → Nat} {m : Nat → Int32} : ∀ d : Nat, (∀ i : Nat, i < d → p i = q i) → agg s p m d = agg s q m d := by
  intro d
  induction d with
  | zero => intro _; rfl
  | succ d ih =>
    intro h
    rw [agg, agg, ih (fun i hi => h i (by omega)), h d (by omega)]
theorem nPut_0 (f : Nat → Int32) (s b : Nat) : adds f (nPut s b 0) = f := by
  unfold nPut
  rw [adds_cons, adds_cons, adds_nil]
  rw [show (-nI 0 : Int32) = 0 from neg_0, show (nI 0 : Int32) = 0 from rfl, add1_0, add1_0]
theorem agg_zero {s : Nat} {m : Nat → Int32} : ∀ d : Nat, agg s (fun _ => 0) m d = m := by
  intro d
  induction d with
  | zero => rfl
  | succ d ih => rw [agg, ih, nPut_0]
def bump (p : Nat → Nat) (b : Nat) : Nat → Nat := fun i => if i = b then p i + 1 else p i
theorem nPut_1 (f : Nat → Int32) (s b p : Nat) : adds (adds f (nPut s b p)) (nMov b s) = adds f (nPut s b (p + 1)) := by
  unfold nPut nMov
  rw [adds_cons, adds_cons, adds_nil, adds_cons, adds_cons, adds_nil, adds_cons, adds_cons, adds_nil]
  dsimp only
  rw [add1_comm _ (13 + 10 * b + 4) (93 + 21 * s + (13 + b)), add1_add, add1_add, nI_add, show (-nI p + -nI 1 : Int32) = -nI (p + 1) from by rw [← nI_add]; grind]
theorem agg_mov {s b : Nat} {p : Nat → Nat} {m : Nat → Int32} : ∀ d : Nat, b < d → agg s p (adds m (nMov b s)) d = agg s (bump p b) m d := by
  intro d
  rw [agg_adds]
  induction d with
  | zero => intro h; omega
  | succ d ih =>
    intro h
    rw [agg, agg]
    by_cases c : b = d
    · subst c
      rw [nPut_1, agg_congr (p := bump p b) (q := p) b (fun i hi => if_neg (by omega)), show bump p b b = p b + 1 from if_pos rfl]
    · rw [adds_comm, ih (by omega), show bump p b d = p d from if_neg (fun q => c q.symm)]
theorem agg_out {s : Nat} {p : Nat → Nat} {m : Nat → Int32} {k : Nat} : ∀ d : Nat, (∀ b : Nat, b < d → k ≠ 93 + 21 * s + (13 + b) ∧ k ≠ 13 + 10 * b + 4) → agg s p m d k = m k := by
  intro d
  induction d with
  | zero => intro _; rfl
  | succ d ih =>
    intro h
    have h1 := h d (by omega)
    rw [agg]
    unfold nPut
    rw [adds_cons, adds_cons, adds_nil]
    dsimp only
    rw [add1_ne h1.2, add1_ne h1.1]
    exact ih (fun b hb => h b (by omega))
theorem agg_Y {s : Nat} {p : Nat → Nat} {m : Nat → Int32} {b : Nat} : ∀ d : Nat, b < d → agg s p m d (13 + 10 * b + 4) = if d ≤ 8 then m (13 + 10 * b + 4) + nI (p b) else agg s p m d (13 + 10 * b + 4) := by
  intro d
  induction d with
  | zero => intro h; omega
  | succ d ih =>
    intro h
    by_cases h8 : d + 1 ≤ 8
    · rw [if_pos h8, agg]
      unfold nPut
      rw [adds_cons, adds_cons, adds_nil]
      dsimp only
      by_cases c : b = d
      · subst c
        rw [add1_at, add1_ne (by omega), agg_out b (fun i hi => by omega)]
      · rw [add1_ne (by omega), add1_ne (by omega), ih (by omega), if_pos (by omega)]
    · rw [if_neg h8]
-- the brand that is picked, on both sides
def amI (e : Nat → Nat) (ok : Nat → Prop) (n j M : Nat) (x1 y : Int32) : Prop := ((y = -1 ∧ M = 0) ∨ ∃ i : Nat, i < j ∧ i < n ∧ ok i ∧ y = nI i ∧ e i = M ∧ (0 < M → x1 = nI i)) ∧ ∀ i : Nat, i < j → e i ≤ M
theorem am_sim {w v : bU} {s n : Nat} {a : Int32} {e : Nat → Nat} (hs : s < 6) (hn : n ≤ 8) (e0 : v 0 0 = nI n) (hw : ∀ b : Nat, b < 8 → w 1 b = nI (e b) ∧ e b ≤ 40000) (hm : ∀ b : Nat, b < 8 → (F6_of v (nI b) 0 = a → F6_ofShop v (nI s) (13 + nI b) = nI (e b)) ∧ (¬ F6_of v (nI b) 0 = a → e b = 0)) (hz : ∀ b : Nat, n ≤ b → b < 8 → e b = 0) :
    ∀ (d f g j M : Nat) (x1 y : Int32), j + d = 8 → d < f → n + 1 ≤ g + j → 1 ≤ g → M ≤ 40000 → amI e (fun i => F6_of v (nI i) 0 = a) n j M x1 y → ∃ (M' : Nat) (x1' y' : Int32), L4_pickOne_6 w f j x1 (nI M) = (x1', nI M') ∧ L6_mostEmpties_5 v (nI s) a g j y = y' ∧ M' ≤ 40000 ∧ amI e (fun i => F6_of v (nI i) 0 = a) n 8 M' x1' y' := by
  intro d
  induction d with
  | zero =>
    intro f g j M x1 y hj hf hg hg1 hM h
    obtain ⟨f, rfl⟩ : ∃ q : Nat, f = q + 1 := ⟨f - 1, by omega⟩
    obtain ⟨g, rfl⟩ : ∃ q : Nat, g = q + 1 := ⟨g - 1, by omega⟩
    obtain rfl : j = 8 := by omega
    refine ⟨M, x1, y, ?_, ?_, hM, h⟩
    · rw [L4_pickOne_6, if_pos (show (8 : Int32) ≤ nI 8 by decide)]
    · rw [L6_mostEmpties_5, e0, if_pos (nI_le (by omega) (by omega))]
  | succ d ih =>
    intro f g j M x1 y hj hf hg hg1 hM h
    obtain ⟨f, rfl⟩ : ∃ q : Nat, f = q + 1 := ⟨f - 1, by omega⟩
    rw [L4_pickOne_6, if_neg (show ¬ (8 : Int32) ≤ nI j from nI_ge (b := 8) (by omega) (by decide)), mC (by omega), (hw j (by omega)).1]
    have hj4 := (hw j (by omega)).2
    rcases Nat.lt_or_ge j n with q | q
    · obtain ⟨g, rfl⟩ : ∃ q : Nat, g = q + 1 := ⟨g - 1, by omega⟩
      rw [L6_mostEmpties_5, e0, if_neg (nI_ge q (by omega))]
      by_cases c1 : F6_of v (nI j) 0 = a
      · rw [if_pos c1, (hm j (by omega)).1 c1]
        rcases h with ⟨⟨hy, hM0⟩ | ⟨i, hi, hin, oki, hy, hei, hx⟩, hle⟩
        · subst hM0
          subst hy
          rw [if_pos (show (-1 : Int32) < 0 by decide)]
          by_cases c2 : e j = 0
          · rw [c2, if_pos (show nI 0 ≤ nI 0 by decide)]
            refine ih f g (j + 1) 0 x1 (nI j) (by omega) (by omega) (by omega) (by omega) (by omega) ⟨Or.inr ⟨j, by omega, q, c1, rfl, c2, fun z => absurd z (by omega)⟩, fun i hi => ?_⟩
            by_cases c3 : i = j
            · subst c3; omega
            · exact hle i (by omega)
          · rw [if_neg (show ¬ nI (e j) ≤ nI 0 from nI_ge (by omega) (by omega))]
            refine ih f g (j + 1) (e j) (nI j) (nI j) (by omega) (by omega) (by omega) (by omega) hj4 ⟨Or.inr ⟨j, by omega, q, c1, rfl, rfl, fun _ => rfl⟩, fun i hi => ?_⟩
            by_cases c3 : i = j
            · subst c3; omega
            · have := hle i (by omega); omega
        · subst hy
          rw [if_neg (nI_pos (by omega)), (hm i (by omega)).1 oki, hei]
          by_cases c2 : e j ≤ M
          · rw [if_pos (nI_le c2 (by omega)), if_pos (nI_le c2 (by omega))]
            refine ih f g (j + 1) M x1 (nI i) (by omega) (by omega) (by omega) (by omega) hM ⟨Or.inr ⟨i, by omega, hin, oki, rfl, hei, hx⟩, fun i2 hi2 => ?_⟩
            by_cases c3 : i2 = j
            · subst c3; exact c2
            · exact hle i2 (by omega)
          · rw [if_neg (show ¬ nI (e j) ≤ nI M from nI_ge (by omega) (by omega)), if_neg (show ¬ nI (e j) ≤ nI M from nI_ge (by omega) (by omega))]
            refine ih f g (j + 1) (e j) (nI j) (nI j) (by omega) (by omega) (by omega) (by omega) hj4 ⟨Or.inr ⟨j, by omega, q, c1, rfl, rfl, fun _ => rfl⟩, fun i2 hi2 => ?_⟩
            by_cases c3 : i2 = j
            · subst c3; omega
            · have := hle i2 (by omega); omega
      · have e9 := (hm j (by omega)).2 c1
        rw [if_neg c1, e9, if_pos (nI_le (Nat.zero_le M) (by omega))]
        refine ih f g (j + 1) M x1 y (by omega) (by omega) (by omega) (by omega) hM ⟨?_, fun i2 hi2 => ?_⟩
        · rcases h.1 with h1 | ⟨i, hi, r⟩
          · exact Or.inl h1
          · exact Or.inr ⟨i, by omega, r⟩
        · by_cases c3 : i2 = j
          · subst c3; omega
          · exact h.2 i2 (by omega)
    · have e9 := hz j q (by omega)
      rw [e9, if_pos (nI_le (Nat.zero_le M) (by omega))]
      have ep : L6_mostEmpties_5 v (nI s) a g j y = L6_mostEmpties_5 v (nI s) a g (j + 1) y := by
        obtain ⟨g, rfl⟩ : ∃ q : Nat, g = q + 1 := ⟨g - 1, by omega⟩
        rw [L6_mostEmpties_5, e0, if_pos (nI_le q (by omega)), L6_mostEmpties_5, e0, if_pos (nI_le (by omega) (by omega))]
      rw [ep]
      refine ih f g (j + 1) M x1 y (by omega) (by omega) (by omega) hg1 hM ⟨?_, fun i2 hi2 => ?_⟩
      · rcases h.1 with h1 | ⟨i, hi, r⟩
        · exact Or.inl h1
        · exact Or.inr ⟨i, by omega, r⟩
      · by_cases c3 : i2 = j
        · subst c3; omega
        · exact h.2 i2 (by omega)

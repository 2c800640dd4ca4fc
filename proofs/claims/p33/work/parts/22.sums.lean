-- SUMS over shops and brands of the class's row, and what one addition does to them (own text)
theorem acc_x (f : Nat → Int32) : ∀ (d j : Nat) (x y : Int32), acc f d j (x + y) = acc f d j x + y := by
  intro d
  induction d with
  | zero => intro j x y; rfl
  | succ d ih =>
    intro j x y
    show acc f d (j + 1) (x + y + f j) = acc f d (j + 1) (x + f j) + y
    rw [show x + y + f j = (x + f j) + y by grind, ih]
theorem acc_upd {f g : Nat → Int32} {k N : Nat} {x : Int32} (hk : g k = f k + x) (ho : ∀ i : Nat, i < N → i ≠ k → g i = f i) : ∀ (d j : Nat) (y : Int32), j + d ≤ N → j ≤ k → k < j + d → acc g d j y = acc f d j y + x := by
  intro d
  induction d with
  | zero => intro j y h0 h1 h2; omega
  | succ d ih =>
    intro j y h0 h1 h2
    show acc g d (j + 1) (y + g j) = acc f d (j + 1) (y + f j) + x
    by_cases e : j = k
    · subst e
      rw [hk, show y + (f j + x) = (y + f j) + x by grind, acc_x]
      congr 1
      exact acc_congr _ _ _ (fun i a b => ho i (by omega) (by omega))
    · rw [ho j (by omega) e]
      exact ih (j + 1) _ (by omega) (by omega) (by omega)
/-- over the shops: the number w -/
def Ss (c : Nat → Int32) (w : Nat) : Int32 := acc (fun s => c (113 + 28 * s + w)) 6 0 0
/-- over the brands: the number w, weighed -/
def Sb (g : Nat → Int32) (c : Nat → Int32) (w : Nat) : Int32 := acc (fun b => c (17 + 12 * b + w) * g b) 8 0 0
/-- over the brands: what shops have of it (o: 10 full, 20 empty), weighed -/
def Sd (g : Nat → Int32) (c : Nat → Int32) (o : Nat) : Int32 := acc (fun b => Ss c (o + b) * g b) 8 0 0
theorem Ss_at (c : Nat → Int32) {s w : Nat} (x : Int32) (hs : s < 6) (hw : w < 28) : Ss (add1 c (113 + 28 * s + w) x) w = Ss c w + x := by
  refine acc_upd (k := s) ?_ (N := 6) (fun i h9 hi => ?_) 6 0 0 (by omega) (by omega) (by omega)
  · exact add1_at _ _ _
  · exact add1_ne (by omega)
theorem Ss_ne (c : Nat → Int32) {s v w : Nat} (x : Int32) (hs : s < 6) (hv : v < 28) (hw : w < 28) (h : v ≠ w) : Ss (add1 c (113 + 28 * s + v) x) w = Ss c w := by
  refine acc_congr _ _ _ (fun i _ hi => ?_)
  exact add1_ne (by omega)
theorem Ss_lo (c : Nat → Int32) {j w : Nat} (x : Int32) (hj : j < 113) : Ss (add1 c j x) w = Ss c w := by
  refine acc_congr _ _ _ (fun i _ hi => ?_)
  exact add1_ne (by omega)
theorem Ss_hi (c : Nat → Int32) {j w : Nat} (x : Int32) (hj : 281 ≤ j) (hw : w < 28) : Ss (add1 c j x) w = Ss c w := by
  refine acc_congr _ _ _ (fun i _ hi => ?_)
  exact add1_ne (by omega)
theorem Sb_at (g : Nat → Int32) (c : Nat → Int32) {b w : Nat} (x : Int32) (hb : b < 8) (hw : w < 12) : Sb g (add1 c (17 + 12 * b + w) x) w = Sb g c w + x * g b := by
  refine acc_upd (k := b) ?_ (N := 8) (fun i h9 hi => ?_) 8 0 0 (by omega) (by omega) (by omega)
  · show add1 c (17 + 12 * b + w) x (17 + 12 * b + w) * g b = _
    rw [add1_at]
    grind
  · show add1 c (17 + 12 * b + w) x (17 + 12 * i + w) * g i = _
    rw [add1_ne (by omega)]
theorem Sb_ne (g : Nat → Int32) (c : Nat → Int32) {b v w : Nat} (x : Int32) (hb : b < 8) (hv : v < 12) (hw : w < 12) (h : v ≠ w) : Sb g (add1 c (17 + 12 * b + v) x) w = Sb g c w := by
  refine acc_congr _ _ _ (fun i _ hi => ?_)
  show add1 c (17 + 12 * b + v) x (17 + 12 * i + w) * g i = _
  rw [add1_ne (by omega)]
theorem Sb_lo (g : Nat → Int32) (c : Nat → Int32) {j w : Nat} (x : Int32) (hj : j < 17) : Sb g (add1 c j x) w = Sb g c w := by
  refine acc_congr _ _ _ (fun i _ hi => ?_)
  show add1 c j x (17 + 12 * i + w) * g i = _
  rw [add1_ne (by omega)]
theorem Sb_hi (g : Nat → Int32) (c : Nat → Int32) {j w : Nat} (x : Int32) (hj : 113 ≤ j) (hw : w < 12) : Sb g (add1 c j x) w = Sb g c w := by
  refine acc_congr _ _ _ (fun i _ hi => ?_)
  show add1 c j x (17 + 12 * i + w) * g i = _
  rw [add1_ne (by omega)]
theorem Sd_at (g : Nat → Int32) (c : Nat → Int32) {s o b : Nat} (x : Int32) (hs : s < 6) (hb : b < 8) (ho : o = 10 ∨ o = 20) : Sd g (add1 c (113 + 28 * s + (o + b)) x) o = Sd g c o + x * g b := by
  refine acc_upd (k := b) ?_ (N := 8) (fun i h9 hi => ?_) 8 0 0 (by omega) (by omega) (by omega)
  · show Ss (add1 c (113 + 28 * s + (o + b)) x) (o + b) * g b = _
    rw [Ss_at c x hs (by omega)]
    grind
  · show Ss (add1 c (113 + 28 * s + (o + b)) x) (o + i) * g i = _
    rw [Ss_ne c x hs (by omega) (by omega) (by omega)]
theorem Sd_ne (g : Nat → Int32) (c : Nat → Int32) {s v o : Nat} (x : Int32) (hs : s < 6) (hv : v < 28) (ho : o = 10 ∨ o = 20) (h : v < o ∨ o + 8 ≤ v) : Sd g (add1 c (113 + 28 * s + v) x) o = Sd g c o := by
  refine acc_congr _ _ _ (fun i _ hi => ?_)
  show Ss (add1 c (113 + 28 * s + v) x) (o + i) * g i = _
  rw [Ss_ne c x hs hv (by omega) (by omega)]
theorem Sd_lo (g : Nat → Int32) (c : Nat → Int32) {j o : Nat} (x : Int32) (hj : j < 113) : Sd g (add1 c j x) o = Sd g c o := by
  refine acc_congr _ _ _ (fun i _ hi => ?_)
  show Ss (add1 c j x) (o + i) * g i = _
  rw [Ss_lo c x hj]
theorem Sd_hi (g : Nat → Int32) (c : Nat → Int32) {j o : Nat} (x : Int32) (hj : 281 ≤ j) (ho : o = 10 ∨ o = 20) : Sd g (add1 c j x) o = Sd g c o := by
  refine acc_congr _ _ _ (fun i _ hi => ?_)
  show Ss (add1 c j x) (o + i) * g i = _
  rw [Ss_hi c x hj (by omega)]
/-- all bottles of a brand -/
def Ab (c : Nat → Int32) (b : Nat) : Int32 := c (17 + 12 * b + 1) + c (17 + 12 * b + 2) + Ss c (10 + b) + Ss c (20 + b) + c (17 + 12 * b + 5) + c (17 + 12 * b + 6) + c (17 + 12 * b + 7) + c (17 + 12 * b + 8) + c (17 + 12 * b + 9) + c (17 + 12 * b + 11)
/-- the accounts: g a bottle's deposit by its brand, C a crate's, bb the bottles that there were, m the shops' money at first, k the crates; al: what is held too much (on the way of a collection) -/
def EQ (g : Nat → Int32) (C m k al : Int32) (bb : Nat → Int32) (c : Nat → Int32) : Prop :=
  (∀ b : Nat, b < 8 → Ab c b = bb b) ∧ c 4 = Ss c 1 * C + c 5 + Sd g c 10 + Sd g c 20 + Sb g c 5 + al ∧ Ss c 4 = c 4 ∧ Ss c 5 = c 6 ∧ c 2 + Ss c 1 = k ∧ Ss c 6 = Sb (fun _ => 1) c 5 + Sb (fun _ => 1) c 8 ∧ Ss c 0 = m - Ss c 4 - Ss c 5 + Sb g c 5 + Sb g c 8

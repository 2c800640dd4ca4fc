-- SUMS: weighed sums over the reference's row, and what holds of it (own text)
def sN (w : Nat → Int) (m : Nat → Int32) : Nat → Int
  | 0 => 0
  | n + 1 => sN w m n + w n * (m n).toInt
def S (w : Nat → Int) (m : Nat → Int32) : Int := sN w m 219
theorem sN_congr {w v : Nat → Int} {m k : Nat → Int32} : ∀ n : Nat, (∀ i : Nat, i < n → w i * (m i).toInt = v i * (k i).toInt) → sN w m n = sN v k n := by
  intro n
  induction n with
  | zero => intro _; rfl
  | succ n ih =>
    intro h
    rw [sN, sN, ih (fun i hi => h i (by omega)), h n (by omega)]
theorem S_congr {w v : Nat → Int} {m k : Nat → Int32} (h : ∀ i : Nat, i < 219 → w i * (m i).toInt = v i * (k i).toInt) : S w m = S v k := sN_congr 219 h
theorem sN_add1 {w : Nat → Int} {m : Nat → Int32} {j : Nat} {x : Int32} (h : w j = 0 ∨ (m j + x).toInt = (m j).toInt + x.toInt) : ∀ n : Nat, sN w (add1 m j x) n = sN w m n + (if j < n then w j * x.toInt else 0) := by
  intro n
  induction n with
  | zero => rw [if_neg (by omega)]; rfl
  | succ n ih =>
    rw [sN, sN, ih]
    by_cases e : n = j
    · subst e
      rw [if_neg (by omega), if_pos (by omega), add1_at]
      rcases h with h | h
      · rw [h]; omega
      · rw [h, Int.mul_add]; omega
    · rw [add1_ne e]
      by_cases q : j < n
      · rw [if_pos q, if_pos (by omega)]; omega
      · rw [if_neg q, if_neg (by omega)]; omega
theorem S_add1 {w : Nat → Int} {m : Nat → Int32} {j : Nat} {x : Int32} (hj : j < 219) (h : w j = 0 ∨ (m j + x).toInt = (m j).toInt + x.toInt) : S w (add1 m j x) = S w m + w j * x.toInt := by
  rw [S, sN_add1 h, if_pos hj]; rfl
def ksum (w : Nat → Int) : List (Nat × Int32) → Int
  | [] => 0
  | p :: L => w p.1 * p.2.toInt + ksum w L
theorem adds_out {m : Nat → Int32} {L : List (Nat × Int32)} {k : Nat} (h : ∀ p ∈ L, p.1 ≠ k) : adds m L k = m k := by
  induction L generalizing m with
  | nil => rfl
  | cons p L ih =>
    rw [adds_cons, ih (fun q hq => h q (List.mem_cons_of_mem _ hq)), add1_ne (Ne.symm (h p List.mem_cons_self))]
theorem adds_in {m : Nat → Int32} {L : List (Nat × Int32)} (nd : (L.map Prod.fst).Nodup) {p : Nat × Int32} (hp : p ∈ L) : adds m L p.1 = m p.1 + p.2 := by
  induction L generalizing m with
  | nil => exact absurd hp List.not_mem_nil
  | cons q L ih =>
    rw [List.map_cons, List.nodup_cons] at nd
    rw [adds_cons]
    rcases List.mem_cons.mp hp with h | h
    · subst h
      rw [adds_out (fun r hr e => nd.1 (by rw [← e]; exact List.mem_map_of_mem hr)), add1_at]
    · rw [ih nd.2 h, add1_ne]
      intro e
      exact nd.1 (by rw [← e]; exact List.mem_map_of_mem h)
theorem S_adds {w : Nat → Int} {m : Nat → Int32} {L : List (Nat × Int32)} (nd : (L.map Prod.fst).Nodup) (h : ∀ p ∈ L, p.1 < 219 ∧ (w p.1 = 0 ∨ (m p.1 + p.2).toInt = (m p.1).toInt + p.2.toInt)) : S w (adds m L) = S w m + ksum w L := by
  induction L generalizing m with
  | nil => rw [adds_nil, ksum]; omega
  | cons p L ih =>
    rw [List.map_cons, List.nodup_cons] at nd
    obtain ⟨h1, h2⟩ := h p List.mem_cons_self
    rw [adds_cons, ih nd.2, S_add1 h1 h2, ksum]
    · omega
    · intro q hq
      have hne : q.1 ≠ p.1 := fun e => nd.1 (by rw [← e]; exact List.mem_map_of_mem hq)
      rw [add1_ne hne]
      exact h q (List.mem_cons_of_mem _ hq)
theorem sN_nn {w : Nat → Int} {m : Nat → Int32} : ∀ n : Nat, (∀ i : Nat, i < n → 0 ≤ w i * (m i).toInt) → 0 ≤ sN w m n := by
  intro n
  induction n with
  | zero => intro _; exact Int.le_refl _
  | succ n ih =>
    intro h
    have h1 := ih (fun i hi => h i (by omega))
    have h2 := h n (by omega)
    rw [sN]; omega
theorem sN_ge {w : Nat → Int} {m : Nat → Int32} {j : Nat} : ∀ n : Nat, (∀ i : Nat, i < n → 0 ≤ w i * (m i).toInt) → j < n → w j * (m j).toInt ≤ sN w m n := by
  intro n
  induction n with
  | zero => intro _ h; omega
  | succ n ih =>
    intro h hj
    rw [sN]
    have h2 := h n (by omega)
    by_cases e : j = n
    · subst e
      have := sN_nn j (fun i hi => h i (by omega))
      omega
    · have := ih (fun i hi => h i (by omega)) (by omega)
      omega
theorem S_ge {w : Nat → Int} {m : Nat → Int32} (h : ∀ i : Nat, i < 219 → 0 ≤ w i * (m i).toInt) {j : Nat} (hj : j < 219) : w j * (m j).toInt ≤ S w m := sN_ge 219 h hj
theorem S_nn {w : Nat → Int} {m : Nat → Int32} (h : ∀ i : Nat, i < 219 → 0 ≤ w i * (m i).toInt) : 0 ≤ S w m := sN_nn 219 h
theorem sN_le {w v : Nat → Int} {m : Nat → Int32} : ∀ n : Nat, (∀ i : Nat, i < n → w i * (m i).toInt ≤ v i * (m i).toInt) → sN w m n ≤ sN v m n := by
  intro n
  induction n with
  | zero => intro _; exact Int.le_refl _
  | succ n ih =>
    intro h
    have h1 := ih (fun i hi => h i (by omega))
    have h2 := h n (by omega)
    rw [sN, sN]; omega
theorem S_le {w v : Nat → Int} {m : Nat → Int32} (h : ∀ i : Nat, i < 219 → w i * (m i).toInt ≤ v i * (m i).toInt) : S w m ≤ S v m := sN_le 219 h
theorem sN_lin {w v z : Nat → Int} {m : Nat → Int32} {a b : Int} (h : ∀ i : Nat, w i = a * v i + b * z i) : ∀ n : Nat, sN w m n = a * sN v m n + b * sN z m n := by
  intro n
  induction n with
  | zero => simp [sN]
  | succ n ih =>
    rw [sN, sN, sN, ih, h n]
    grind
theorem S_lin {w v z : Nat → Int} {m : Nat → Int32} {a b : Int} (h : ∀ i : Nat, w i = a * v i + b * z i) : S w m = a * S v m + b * S z m := sN_lin h 219
theorem sN_one {m : Nat → Int32} {k : Nat} : ∀ n : Nat, sN (fun j => if j = k then 1 else 0) m n = if k < n then (m k).toInt else 0 := by
  intro n
  induction n with
  | zero => rw [if_neg (by omega)]; rfl
  | succ n ih =>
    rw [sN, ih]
    by_cases e : n = k
    · subst e
      rw [if_neg (by omega), if_pos rfl, if_pos (by omega)]; omega
    · rw [if_neg e]
      by_cases q : k < n
      · rw [if_pos q, if_pos (by omega)]; omega
      · rw [if_neg q, if_neg (by omega)]; omega
theorem S_one {m : Nat → Int32} {k : Nat} (hk : k < 219) : S (fun j => if j = k then 1 else 0) m = (m k).toInt := by rw [S, sN_one, if_pos hk]
-- weights
def wt (g : Nat → Int) (fb fs : Nat → Nat → Int) (j : Nat) : Int := if j < 13 then g j else if j < 93 then fb ((j - 13) / 10) ((j - 13) % 10) else fs ((j - 93) / 21) ((j - 93) % 21)
theorem wt_g {g : Nat → Int} {fb fs : Nat → Nat → Int} {j : Nat} (h : j < 13) : wt g fb fs j = g j := if_pos h
theorem wt_b {g : Nat → Int} {fb fs : Nat → Nat → Int} {b w : Nat} (hb : b < 8) (hw : w < 10) : wt g fb fs (13 + 10 * b + w) = fb b w := by
  have h1 : (13 + 10 * b + w - 13) / 10 = b := by omega
  have h2 : (13 + 10 * b + w - 13) % 10 = w := by omega
  unfold wt
  rw [if_neg (by omega), if_pos (by omega), h1, h2]
theorem wt_s {g : Nat → Int} {fb fs : Nat → Nat → Int} {s w : Nat} (hs : s < 6) (hw : w < 21) : wt g fb fs (93 + 21 * s + w) = fs s w := by
  have h1 : (93 + 21 * s + w - 93) / 21 = s := by omega
  have h2 : (93 + 21 * s + w - 93) % 21 = w := by omega
  unfold wt
  rw [if_neg (by omega), if_neg (by omega), h1, h2]
/-- each place of the row is one of three kinds -/
theorem at_cases {P : Nat → Prop} (hg : ∀ j : Nat, j < 13 → P j) (hb : ∀ b w : Nat, b < 8 → w < 10 → P (13 + 10 * b + w)) (hs : ∀ s w : Nat, s < 6 → w < 21 → P (93 + 21 * s + w)) : ∀ j : Nat, j < 219 → P j := by
  intro j hj
  rcases Nat.lt_or_ge j 13 with h | h
  · exact hg j h
  · rcases Nat.lt_or_ge j 93 with h2 | h2
    · have := hb ((j - 13) / 10) ((j - 13) % 10) (by omega) (by omega)
      rw [show 13 + 10 * ((j - 13) / 10) + (j - 13) % 10 = j by omega] at this
      exact this
    · have := hs ((j - 93) / 21) ((j - 93) % 21) (by omega) (by omega)
      rw [show 93 + 21 * ((j - 93) / 21) + (j - 93) % 21 = j by omega] at this
      exact this
/-- all bottles -/
def wT : Nat → Int := wt (fun _ => 0) (fun _ w => if 1 ≤ w ∧ w ≤ 7 then 1 else 0) (fun _ w => if 5 ≤ w then 1 else 0)
/-- deposits held, less what they are for; d: the deposit of a brand's bottle, c: of a crate -/
def wA (d : Nat → Int) (c : Int) : Nat → Int := wt (fun j => if j = 3 then -1 else if j = 4 then 1 else 0) (fun b w => if w = 3 then d b else 0) (fun _ w => if w = 1 then c else if w < 5 then 0 else if w < 13 then d (w - 5) else d (w - 13))
/-- twelve bottles for each crate -/
def wB : Nat → Int := wt (fun _ => 0) (fun _ w => if w = 3 ∨ w = 5 ∨ w = 6 then -1 else 0) (fun _ w => if w = 1 then 12 else if 5 ≤ w then -1 else 0)
/-- gone bottles -/
def wG : Nat → Int := wt (fun _ => 0) (fun _ w => if w = 5 ∨ w = 6 then 1 else 0) (fun _ _ => 0)
def wF : Nat → Int := wt (fun j => if j = 4 then 1 else 0) (fun _ _ => 0) (fun _ _ => 0)
/-- crates -/
def wD : Nat → Int := wt (fun j => if j = 2 then 1 else 0) (fun _ _ => 0) (fun _ w => if w = 1 then 1 else 0)
/-- the numbers that are never below 0 -/
def wP : Nat → Int := wt (fun j => if j = 2 ∨ j = 4 ∨ j = 5 then 1 else 0) (fun _ w => if w = 9 then 0 else 1) (fun _ w => if w = 0 ∨ w = 1 ∨ 5 ≤ w then 1 else 0)
/-- the numbers that have a bound of their own: money, the pool, bottles filled -/
def wQ : Nat → Int := wt (fun j => if j = 5 then 1 else 0) (fun _ w => if w = 8 then 1 else 0) (fun _ w => if w = 0 then 1 else 0)

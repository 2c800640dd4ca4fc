-- THE INVARIANT of the reference's row (own text)
def dp (m : Nat → Int32) (b : Nat) : Int := if b < 8 then (m (7 + (m (13 + 10 * b)).toNatClampNeg)).toInt else 0
def gQ (B n s : Nat) (α β : Int) (m : Nat → Int32) : Prop :=
  (n ≤ 8 ∧ s ≤ 6 ∧ m 0 = nI n ∧ m 1 = nI s) ∧
  (∀ b : Nat, b < 8 → ∃ k : Nat, k < 3 ∧ m (13 + 10 * b) = nI k) ∧
  ((∀ b w : Nat, n ≤ b → b < 8 → w < 10 → m (13 + 10 * b + w) = 0) ∧ (∀ i w : Nat, s ≤ i → i < 6 → w < 21 → m (93 + 21 * i + w) = 0) ∧ (∀ i b : Nat, i < 6 → n ≤ b → b < 8 → m (93 + 21 * i + (5 + b)) = 0 ∧ m (93 + 21 * i + (13 + b)) = 0)) ∧
  ((∀ k : Nat, k < 3 → ∃ d : Nat, 1 ≤ d ∧ d ≤ 100 ∧ m (7 + k) = nI d) ∧ (∃ c : Nat, c ≤ 500 ∧ m 10 = nI c) ∧ (∃ p : Nat, p ≤ 100 ∧ m 11 = nI p) ∧ (∃ w : Nat, 2 ≤ w ∧ w ≤ 1000 ∧ m 12 = nI w)) ∧
  ((∀ j : Nat, j < 219 → 0 ≤ wP j * (m j).toInt) ∧ (∀ j : Nat, j < 219 → wQ j * (m j).toInt ≤ B)) ∧
  (S wT m ≤ 5000 * n ∧ S (wA (dp m) (m 10).toInt) m = α ∧ S wB m = β ∧ S wG m ≤ S wF m ∧ S wF m ≤ 100 * S wG m ∧ S wD m ≤ 1000)
abbrev gJ (B n s : Nat) (m : Nat → Int32) : Prop := gQ B n s 0 0 m
theorem wP_01 : ∀ j : Nat, j < 219 → wP j = 0 ∨ wP j = 1 := at_cases (fun j hj => by rw [wP, wt_g hj]; split <;> simp) (fun b w hb hw => by rw [wP, wt_b hb hw]; split <;> simp) (fun s w hs hw => by rw [wP, wt_s hs hw]; split <;> simp)
theorem wM_01 : ∀ j : Nat, j < 219 → (wQ j = 0 ∨ wQ j = 1) ∧ (wP j = 0 → wQ j = 0) := at_cases
  (fun j hj => by rw [wP, wQ, wt_g hj, wt_g hj]; (repeat' split) <;> simp_all)
  (fun b w hb hw => by rw [wP, wQ, wt_b hb hw, wt_b hb hw]; (repeat' split) <;> simp_all)
  (fun s w hs hw => by rw [wP, wQ, wt_s hs hw, wt_s hs hw]; (repeat' split) <;> simp_all)
theorem wT_01 : ∀ j : Nat, j < 219 → (wT j = 0 ∨ wT j = 1) ∧ (wP j = 0 → wT j = 0) := at_cases
  (fun j hj => by rw [wP, wT, wt_g hj, wt_g hj]; (repeat' split) <;> simp_all)
  (fun b w hb hw => by rw [wP, wT, wt_b hb hw, wt_b hb hw]; (repeat' split) <;> simp_all <;> omega)
  (fun s w hs hw => by rw [wP, wT, wt_s hs hw, wt_s hs hw]; (repeat' split) <;> simp_all <;> omega)
theorem wD_01 : ∀ j : Nat, j < 219 → (wD j = 0 ∨ wD j = 1) ∧ (wP j = 0 → wD j = 0) := at_cases
  (fun j hj => by rw [wP, wD, wt_g hj, wt_g hj]; (repeat' split) <;> simp_all)
  (fun b w hb hw => by rw [wP, wD, wt_b hb hw, wt_b hb hw]; (repeat' split) <;> simp_all)
  (fun s w hs hw => by rw [wP, wD, wt_s hs hw, wt_s hs hw]; (repeat' split) <;> simp_all)
theorem wG_01 : ∀ j : Nat, j < 219 → (wG j = 0 ∨ wG j = 1) ∧ (wP j = 0 → wG j = 0) ∧ wG j ≤ wT j := at_cases
  (fun j hj => by rw [wP, wG, wT, wt_g hj, wt_g hj, wt_g hj]; (repeat' split) <;> simp_all)
  (fun b w hb hw => by rw [wP, wG, wT, wt_b hb hw, wt_b hb hw, wt_b hb hw]; (repeat' split) <;> simp_all <;> omega)
  (fun s w hs hw => by rw [wP, wG, wT, wt_s hs hw, wt_s hs hw, wt_s hs hw]; (repeat' split) <;> simp_all <;> omega)
theorem wF_01 : ∀ j : Nat, j < 219 → (wF j = if j = 4 then 1 else 0) ∧ (wP j = 0 → wF j = 0) := at_cases
  (fun j hj => by rw [wP, wF, wt_g hj, wt_g hj]; (repeat' split) <;> simp_all)
  (fun b w hb hw => by rw [wP, wF, wt_b hb hw, wt_b hb hw, if_neg (by omega)]; simp)
  (fun s w hs hw => by rw [wP, wF, wt_s hs hw, wt_s hs hw, if_neg (by omega)]; simp)
theorem wB_0 : ∀ j : Nat, j < 219 → wP j = 0 → wB j = 0 := at_cases
  (fun j hj => by rw [wP, wB, wt_g hj, wt_g hj]; (repeat' split) <;> simp_all)
  (fun b w hb hw => by rw [wP, wB, wt_b hb hw, wt_b hb hw]; (repeat' split) <;> simp_all)
  (fun s w hs hw => by rw [wP, wB, wt_s hs hw, wt_s hs hw]; (repeat' split) <;> simp_all <;> omega)
theorem wA_0 {d : Nat → Int} {c : Int} : ∀ j : Nat, j < 219 → wP j = 0 → j ≠ 3 → wA d c j = 0 := at_cases
  (fun j hj => by rw [wP, wA, wt_g hj, wt_g hj]; (repeat' split) <;> simp_all)
  (fun b w hb hw => by rw [wP, wA, wt_b hb hw, wt_b hb hw]; (repeat' split) <;> simp_all)
  (fun s w hs hw => by rw [wP, wA, wt_s hs hw, wt_s hs hw]; (repeat' split) <;> simp_all <;> omega)
def gOk (n s j : Nat) : Prop := (2 ≤ j ∧ j ≤ 6) ∨ (∃ b w : Nat, b < n ∧ 1 ≤ w ∧ w < 10 ∧ j = 13 + 10 * b + w) ∨ (∃ i w : Nat, i < s ∧ w < 5 ∧ j = 93 + 21 * i + w) ∨ ∃ i b : Nat, i < s ∧ b < n ∧ (j = 93 + 21 * i + (5 + b) ∨ j = 93 + 21 * i + (13 + b))
theorem gOk_lt {n s j : Nat} (hn : n ≤ 8) (hs : s ≤ 6) (h : gOk n s j) : j < 219 := by
  rcases h with h | ⟨b, w, h1, h2, h3, h4⟩ | ⟨i, w, h1, h2, h3⟩ | ⟨i, b, h1, h2, h3⟩ <;> omega
theorem gOk_ne {n s j : Nat} (hn : n ≤ 8) (hs : s ≤ 6) (h : gOk n s j) : j ≠ 0 ∧ j ≠ 1 ∧ (∀ k : Nat, k < 6 → j ≠ 7 + k) ∧ (∀ b : Nat, b < 8 → j ≠ 13 + 10 * b) ∧ (∀ b w : Nat, n ≤ b → b < 8 → w < 10 → j ≠ 13 + 10 * b + w) ∧ (∀ i w : Nat, s ≤ i → i < 6 → w < 21 → j ≠ 93 + 21 * i + w) ∧ (∀ i b : Nat, i < 6 → n ≤ b → b < 8 → j ≠ 93 + 21 * i + (5 + b) ∧ j ≠ 93 + 21 * i + (13 + b)) := by
  rcases h with h | ⟨b, w, h1, h2, h3, h4⟩ | ⟨i, w, h1, h2, h3⟩ | ⟨i, b, h1, h2, h3⟩
  · refine ⟨by omega, by omega, fun k hk => by omega, fun b hb => by omega, fun b w _ _ _ => by omega, fun i w _ _ _ => by omega, fun i b _ _ _ => by omega⟩
  · refine ⟨by omega, by omega, fun k hk => by omega, fun b hb => by omega, fun b w _ _ _ => by omega, fun i w _ _ _ => by omega, fun i b _ _ _ => by omega⟩
  · refine ⟨by omega, by omega, fun k hk => by omega, fun b hb => by omega, fun b w _ _ _ => by omega, fun i w _ _ _ => by omega, fun i b _ _ _ => by omega⟩
  · refine ⟨by omega, by omega, fun k hk => by omega, fun b hb => by omega, fun b w _ _ _ => by omega, fun i w _ _ _ => by omega, fun i b _ _ _ => by omega⟩
theorem gQ_adds {B B' n s : Nat} {α β : Int} {m : Nat → Int32} {L : List (Nat × Int32)} (h : gQ B n s α β m) (hB : B ≤ B') (nd : (L.map Prod.fst).Nodup) (ok : ∀ p ∈ L, gOk n s p.1)
    (val : ∀ p ∈ L, (wP p.1 = 0 ∧ p.1 ≠ 3) ∨ ((m p.1 + p.2).toInt = (m p.1).toInt + p.2.toInt ∧ (p.1 = 3 ∨ 0 ≤ (m p.1).toInt + p.2.toInt) ∧ wQ p.1 * ((m p.1).toInt + p.2.toInt) ≤ B'))
    (hT : ksum wT L ≤ 0) (hG1 : ksum wG L ≤ ksum wF L) (hG2 : ksum wF L ≤ 100 * ksum wG L) (hD : ksum wD L ≤ 0) : gQ B' n s (α + ksum (wA (dp m) (m 10).toInt) L) (β + ksum wB L) (adds m L) := by
  obtain ⟨⟨hn, hs, h0, h1⟩, hK, ⟨hZ1, hZ2, hZ3⟩, ⟨hp1, hp2, hp3, hp4⟩, ⟨hP, hM⟩, ⟨s1, s2, s3, s4, s5, s6⟩⟩ := h
  have lt : ∀ p ∈ L, p.1 < 219 := fun p hp => gOk_lt hn hs (ok p hp)
  have out : ∀ k : Nat, (∀ p ∈ L, p.1 ≠ k) → adds m L k = m k := fun k hk => adds_out hk
  have e0 : adds m L 0 = m 0 := out 0 (fun p hp => (gOk_ne hn hs (ok p hp)).1)
  have e1 : adds m L 1 = m 1 := out 1 (fun p hp => (gOk_ne hn hs (ok p hp)).2.1)
  have e7 : ∀ k : Nat, k < 6 → adds m L (7 + k) = m (7 + k) := fun k hk => out _ (fun p hp => (gOk_ne hn hs (ok p hp)).2.2.1 k hk)
  have eK : ∀ b : Nat, b < 8 → adds m L (13 + 10 * b) = m (13 + 10 * b) := fun b hb => out _ (fun p hp => (gOk_ne hn hs (ok p hp)).2.2.2.1 b hb)
  have eD : dp (adds m L) = dp m := by
    funext b
    unfold dp
    by_cases hb : b < 8
    · rw [if_pos hb, if_pos hb, eK b hb]
      obtain ⟨k, hk, e⟩ := hK b hb
      rw [e, mC (by omega), e7 k (by omega)]
    · rw [if_neg hb, if_neg hb]
  have sadd : ∀ w : Nat → Int, (∀ j : Nat, j < 219 → wP j = 0 → j ≠ 3 → w j = 0) → S w (adds m L) = S w m + ksum w L := fun w hw => S_adds nd (fun p hp => ⟨lt p hp, by
    rcases val p hp with v | v
    · exact Or.inl (hw _ (lt p hp) v.1 v.2)
    · exact Or.inr v.1⟩)
  have key : ∀ j : Nat, (∃ p ∈ L, p.1 = j ∧ adds m L j = m j + p.2) ∨ adds m L j = m j := by
    intro j
    by_cases q : ∃ p ∈ L, p.1 = j
    · obtain ⟨p, hp, e⟩ := q
      subst e
      exact Or.inl ⟨p, hp, rfl, adds_in nd hp⟩
    · exact Or.inr (out j (fun p hp e => q ⟨p, hp, e⟩))
  refine ⟨⟨hn, hs, by rw [e0]; exact h0, by rw [e1]; exact h1⟩, fun b hb => by rw [eK b hb]; exact hK b hb, ⟨fun b w x y z => ?_, fun i w x y z => ?_, fun i b x y z => ⟨?_, ?_⟩⟩, ⟨fun k hk => by rw [e7 k (by omega)]; exact hp1 k hk, by rw [e7 3 (by omega)]; exact hp2, by rw [e7 4 (by omega)]; exact hp3, by rw [e7 5 (by omega)]; exact hp4⟩, ⟨fun j hj => ?_, fun j hj => ?_⟩, ?_⟩
  · rw [out _ (fun p hp => (gOk_ne hn hs (ok p hp)).2.2.2.2.1 b w x y z)]; exact hZ1 b w x y z
  · rw [out _ (fun p hp => (gOk_ne hn hs (ok p hp)).2.2.2.2.2.1 i w x y z)]; exact hZ2 i w x y z
  · rw [out _ (fun p hp => ((gOk_ne hn hs (ok p hp)).2.2.2.2.2.2 i b x y z).1)]; exact (hZ3 i b x y z).1
  · rw [out _ (fun p hp => ((gOk_ne hn hs (ok p hp)).2.2.2.2.2.2 i b x y z).2)]; exact (hZ3 i b x y z).2
  · rcases key j with ⟨p, hp, e, v⟩ | v
    · subst e
      rw [v]
      rcases val p hp with u | ⟨u1, u2, u3⟩
      · rw [u.1]; omega
      · rw [u1]
        rcases u2 with u2 | u2
        · rw [u2, show wP 3 = 0 by rw [wP, wt_g (by decide)]; decide]; omega
        · rcases wP_01 _ hj with z | z
          · rw [z]; omega
          · rw [z]; omega
    · rw [v]; exact hP j hj
  · rcases key j with ⟨p, hp, e, v⟩ | v
    · subst e
      rw [v]
      rcases val p hp with u | ⟨u1, u2, u3⟩
      · rw [(wM_01 _ hj).2 u.1]; omega
      · rw [u1]; exact u3
    · rw [v]
      have := hM j hj
      omega
  · rw [eD, e7 3 (by omega), sadd wT (fun j hj z _ => (wT_01 j hj).2 z), sadd (wA (dp m) (m (7 + 3)).toInt) (fun j hj z q => wA_0 j hj z q), sadd wB (fun j hj z _ => wB_0 j hj z), sadd wG (fun j hj z _ => (wG_01 j hj).2.1 z), sadd wF (fun j hj z _ => (wF_01 j hj).2 z), sadd wD (fun j hj z _ => (wD_01 j hj).2 z)]
    refine ⟨by omega, ?_, by omega, by omega, by omega, by omega⟩
    show S (wA (dp m) (m 10).toInt) m + ksum (wA (dp m) (m 10).toInt) L = α + ksum (wA (dp m) (m 10).toInt) L
    rw [s2]
-- what the invariant says of single numbers
theorem gJ_P {B n s : Nat} {α β : Int} {m : Nat → Int32} (h : gQ B n s α β m) {j : Nat} (hj : j < 219) (hw : wP j = 1) : 0 ≤ (m j).toInt := by
  have := h.2.2.2.2.1.1 j hj
  rw [hw] at this
  omega
theorem gJ_w01 {B n s : Nat} {α β : Int} {m : Nat → Int32} (h : gQ B n s α β m) {w : Nat → Int} (hw : ∀ j : Nat, j < 219 → (w j = 0 ∨ w j = 1) ∧ (wP j = 0 → w j = 0)) : ∀ j : Nat, j < 219 → 0 ≤ w j * (m j).toInt := by
  intro j hj
  rcases (hw j hj).1 with e | e
  · rw [e]; omega
  · rcases wP_01 j hj with p | p
    · rw [(hw j hj).2 p]; omega
    · have := gJ_P h hj p
      rw [e]; omega
theorem gJ_T {B n s : Nat} {α β : Int} {m : Nat → Int32} (h : gQ B n s α β m) {j : Nat} (hj : j < 219) (hw : wT j = 1) : 0 ≤ (m j).toInt ∧ (m j).toInt ≤ 40000 := by
  have h1 := gJ_w01 h wT_01 j hj
  have h2 := S_ge (gJ_w01 h wT_01) hj
  have h3 := h.2.2.2.2.2.1
  have h4 := h.1.1
  rw [hw] at h1 h2
  omega
theorem gJ_D {B n s : Nat} {α β : Int} {m : Nat → Int32} (h : gQ B n s α β m) {j : Nat} (hj : j < 219) (hw : wD j = 1) : 0 ≤ (m j).toInt ∧ (m j).toInt ≤ 1000 := by
  have h1 := gJ_w01 h wD_01 j hj
  have h2 := S_ge (gJ_w01 h wD_01) hj
  have h3 := h.2.2.2.2.2.2.2.2.2.2
  rw [hw] at h1 h2
  omega
theorem gJ_M {B n s : Nat} {α β : Int} {m : Nat → Int32} (h : gQ B n s α β m) {j : Nat} (hj : j < 219) (hw : wQ j = 1) : 0 ≤ (m j).toInt ∧ (m j).toInt ≤ B := by
  have h1 := gJ_w01 h wM_01 j hj
  have h2 := h.2.2.2.2.1.2 j hj
  rw [hw] at h1 h2
  omega
theorem gJ_F {B n s : Nat} {α β : Int} {m : Nat → Int32} (h : gQ B n s α β m) : 0 ≤ (m 4).toInt ∧ (m 4).toInt ≤ 4000000 := by
  have e : S wF m = (m 4).toInt := by
    rw [← S_one (m := m) (k := 4) (by decide)]
    exact S_congr (fun i hi => by rw [(wF_01 i hi).1])
  have h1 := h.2.2.2.2.2.2.2.2.1
  have h2 := h.2.2.2.2.2.2.2.2.2.1
  have h3 := h.2.2.2.2.2.1
  have h4 := h.1.1
  have h5 := S_nn (gJ_w01 h (fun j hj => ⟨(wG_01 j hj).1, (wG_01 j hj).2.1⟩))
  have h6 : S wG m ≤ S wT m := by
    refine S_le (fun i hi => ?_)
    rcases wP_01 i hi with p | p
    · rw [(wG_01 i hi).2.1 p, (wT_01 i hi).2 p]; omega
    · have h7 := gJ_P h hi p
      have h8 := (wG_01 i hi).2.2
      rcases (wG_01 i hi).1 with a | a <;> rcases (wT_01 i hi).1 with b | b <;> rw [a, b] <;> omega
  rw [e] at h1 h2
  omega
theorem gJ_dp {B n s : Nat} {α β : Int} {m : Nat → Int32} (h : gQ B n s α β m) (b : Nat) : 0 ≤ dp m b ∧ dp m b ≤ 100 := by
  unfold dp
  by_cases hb : b < 8
  · rw [if_pos hb]
    obtain ⟨k, hk, e⟩ := h.2.1 b hb
    obtain ⟨d, d1, d2, e2⟩ := h.2.2.2.1.1 k hk
    rw [e, mC (by omega), e2, nI_toInt (by omega)]
    omega
  · rw [if_neg hb]; omega
/-- deposits held: all that they are for -/
def wA1 (d : Nat → Int) (c : Int) : Nat → Int := wt (fun j => if j = 4 then 1 else 0) (fun b w => if w = 3 then d b else 0) (fun _ w => if w = 1 then c else if w < 5 then 0 else if w < 13 then d (w - 5) else d (w - 13))
theorem wA_split {d : Nat → Int} {c : Int} : ∀ i : Nat, wA d c i = 1 * wA1 d c i + (-1) * (if i = 3 then 1 else 0) := by
  intro i
  unfold wA wA1 wt
  dsimp only
  (repeat' split) <;> omega
theorem wA1_le {d : Nat → Int} {c : Int} (hd : ∀ b : Nat, 0 ≤ d b ∧ d b ≤ 100) (hc : 0 ≤ c ∧ c ≤ 500) : ∀ j : Nat, j < 219 → 0 ≤ wA1 d c j ∧ wA1 d c j ≤ 1 * wF j + 1 * (100 * wT j + 500 * wD j) ∧ (wP j = 0 → wA1 d c j = 0) := at_cases
  (fun j hj => by rw [wA1, wF, wT, wD, wP, wt_g hj, wt_g hj, wt_g hj, wt_g hj, wt_g hj]; (repeat' split) <;> simp_all)
  (fun b w hb hw => by
    have := hd b
    rw [wA1, wF, wT, wD, wP, wt_b hb hw, wt_b hb hw, wt_b hb hw, wt_b hb hw, wt_b hb hw]
    (repeat' split) <;> (refine ⟨by omega, by omega, fun h => by omega⟩))
  (fun s w hs hw => by
    have h1 := hd (w - 5)
    have h2 := hd (w - 13)
    rw [wA1, wF, wT, wD, wP, wt_s hs hw, wt_s hs hw, wt_s hs hw, wt_s hs hw, wt_s hs hw]
    (repeat' split) <;> (refine ⟨by omega, by omega, fun h => by omega⟩))
theorem gJ_H {B n s : Nat} {m : Nat → Int32} (h : gJ B n s m) : (m 3).toInt = S (wA1 (dp m) (m 10).toInt) m ∧ 0 ≤ (m 3).toInt ∧ (m 3).toInt ≤ 9000000 := by
  obtain ⟨c, hc, e10⟩ := h.2.2.2.1.2.1
  have hc2 : 0 ≤ (m 10).toInt ∧ (m 10).toInt ≤ 500 := by rw [e10, nI_toInt (by omega)]; omega
  have hl := wA1_le (gJ_dp h) hc2
  have e := h.2.2.2.2.2.2.1
  rw [S_lin (m := m) (wA_split (d := dp m) (c := (m 10).toInt)), S_one (by decide)] at e
  have h1 : 0 ≤ S (wA1 (dp m) (m 10).toInt) m := S_nn (fun i hi => by
    rcases wP_01 i hi with p | p
    · rw [(hl i hi).2.2 p]; omega
    · exact Int.mul_nonneg (hl i hi).1 (gJ_P h hi p))
  have h2 : S (wA1 (dp m) (m 10).toInt) m ≤ S (fun j => 1 * wF j + 1 * (100 * wT j + 500 * wD j)) m := S_le (fun i hi => by
    rcases wP_01 i hi with p | p
    · rw [(hl i hi).2.2 p, (wF_01 i hi).2 p, (wT_01 i hi).2 p, (wD_01 i hi).2 p]; omega
    · exact Int.mul_le_mul_of_nonneg_right (hl i hi).2.1 (gJ_P h hi p))
  rw [S_lin (m := m) (w := fun j => 1 * wF j + 1 * (100 * wT j + 500 * wD j)) (v := wF) (z := fun j => 100 * wT j + 500 * wD j) (fun i => rfl), S_lin (m := m) (w := fun j => 100 * wT j + 500 * wD j) (v := wT) (z := wD) (fun i => rfl)] at h2
  have eF : S wF m = (m 4).toInt := by
    rw [← S_one (m := m) (k := 4) (by decide)]
    exact S_congr (fun i hi => by rw [(wF_01 i hi).1])
  have hF := gJ_F h
  have h3 := h.2.2.2.2.2.1
  have h4 := h.1.1
  have h5 := h.2.2.2.2.2.2.2.2.2.2
  omega

-- COLLECT, the whole (own text)
/-- the bottles of the kind that a shop has, brand by brand -/
def SR (s k : Nat) (e : Nat → Nat) (m : Nat → Int32) : Prop := ∀ b : Nat, b < 8 → e b ≤ 40000 ∧ (m (13 + 10 * b + 0) = nI k → m (93 + 21 * s + (13 + b)) = nI (e b)) ∧ (¬ m (13 + 10 * b + 0) = nI k → e b = 0)
theorem SR_z {B n t s k : Nat} {α β : Int} {e : Nat → Nat} {m : Nat → Int32} (hs : s < 6) (h : gQ B n t α β m) (h2 : SR s k e m) : ∀ b : Nat, n ≤ b → b < 8 → e b = 0 := by
  intro b h3 h4
  obtain ⟨a1, a2, a3⟩ := h2 b h4
  by_cases c : m (13 + 10 * b + 0) = nI k
  · have := a2 c
    rw [z_E h hs h3 h4] at this
    exact ((nI_eq (a := 0) (by decide) (by omega)).mp this).symm
  · exact a3 c
theorem pick_one {w v : bU} {B n t s k : Nat} {α β : Int} {e : Nat → Nat} {m : Nat → Int32} (hs : s < 6) (h : gQ B n t α β m) (hw : ∀ b : Nat, b < 8 → w 1 b = nI (e b)) (h2 : SR s k e m) (hN : 1 ≤ nsum e 8 0) :
    ∃ b : Nat, b < n ∧ b < 8 ∧ m (13 + 10 * b + 0) = nI k ∧ 1 ≤ e b ∧ F6_mostEmpties (bs v 0 m) (nI s) (nI k) = nI b ∧ F4_pickOne w = bput w 1 b (nI (e b) - 1) := by
  obtain ⟨hn, ht, e0, e1⟩ := gQ_0 h
  have hz := SR_z hs h h2
  have hk : ∀ b : Nat, b < 8 → F6_of (bs v 0 m) (nI b) 0 = m (13 + 10 * b + 0) := fun b hb => (m_br _ (w := 0) (by omega)).trans (by rw [bs_eq])
  have hE : ∀ b : Nat, b < 8 → F6_ofShop (bs v 0 m) (nI s) (13 + nI b) = m (93 + 21 * s + (13 + b)) := fun b hb => by
    rw [show (13 + nI b : Int32) = nI (13 + b) from nI_add 13 b, m_sh _ (by omega), bs_eq]
  obtain ⟨M, x1, y, r1, r2, hM, hy, hle⟩ := am_sim (w := w) (v := bs v 0 m) (s := s) (n := n) (a := nI k) (e := e) hs hn (by rw [bs_eq]; exact e0) (fun b hb => ⟨hw b hb, (h2 b hb).1⟩) (fun b hb => by rw [hk b hb, hE b hb]; exact (h2 b hb).2) hz 8 9 (n + 1) 0 0 0 (-1) (by decide) (by decide) (by omega) (by omega) (by omega) ⟨Or.inl ⟨rfl, rfl⟩, fun i hi => absurd hi (by omega)⟩
  have hM0 : 0 < M := by
    rcases Nat.eq_zero_or_pos M with q | q
    · have : nsum e 8 0 = 0 := nsum_zero 8 0 (fun i _ hi => by have := hle i (by omega); omega)
      omega
    · exact q
  rcases hy with ⟨_, q⟩ | ⟨b, hb, hbn, okb, hy, heb, hx⟩
  · omega
  · have hb8 : b < 8 := by omega
    refine ⟨b, hbn, hb8, ?_, by omega, ?_, ?_⟩
    · rw [← hk b hb8]; exact okb
    · unfold F6_mostEmpties
      rw [show (bs v 0 m) 0 0 = nI n from by rw [bs_eq]; exact e0, mC (by omega), r2, hy]
    · have r1' : L4_pickOne_6 w (8 + 1) 0 0 0 = (x1, nI M) := r1
      unfold F4_pickOne
      rw [r1']
      dsimp only
      rw [if_neg (nI_nle hM0 (by omega)), hx hM0, if_neg (show ¬ (8 : Int32) ≤ nI b from nI_ge (b := 8) hb8 (by decide)), mC (by omega), hw b hb8]
theorem m_pick (v : bU) (m : Nat → Int32) {s b : Nat} (hs : s < 6) (hb : b < 8) : badd (bsub (bs v 0 m) 0 (F6_shopAt (nI s) (13 + nI b)).toNatClampNeg 1) 0 (F6_brandAt (nI b) 4).toNatClampNeg 1 = bs v 0 (adds m (nMov b s)) := by
  unfold nMov
  simp (disch := omega) only [li1, li4, li13, nI_add, m_iB, m_iS, badd_eq, bsub_eq, bs_eq, bs_bs, adds_cons, adds_nil]
theorem pick_sim {v : bU} {B n t s k d x : Nat} (hB : B < 2000000000) (hs : s < t) (hk : k < 3) (hd1 : 1 ≤ d) (hd : d ≤ 100) (hx : x ≤ 50) :
    ∀ (N j f g : Nat) (e : Nat → Nat) (w : bU) (m : Nat → Int32) (α β : Int), N + j = 12 * x → N < f → N < g → (∀ b : Nat, b < 8 → w 1 b = nI (e b)) → SR s k e m → N ≤ nsum e 8 0 → gQ B n t α β m → m (7 + k) = nI d →
    ∃ p : Nat → Nat, (∀ b : Nat, b < 8 → p b ≤ e b) ∧ (∀ b : Nat, b < 8 → (L4_pickEmpties_72 (nI (12 * x)) w f j) 1 b = nI (e b - p b)) ∧ L6_collects_3 (nI s) (nI k) (nI x) (bs v 0 m) g j = bs v 0 (agg s p m 8) ∧ gQ B n t (α - N * d) (β + N) (agg s p m 8) := by
  intro N
  induction N with
  | zero =>
    intro j f g e w m α β hj hf hg hw h2 hN h ed
    obtain ⟨f, rfl⟩ : ∃ q : Nat, f = q + 1 := ⟨f - 1, by omega⟩
    obtain ⟨g, rfl⟩ : ∃ q : Nat, g = q + 1 := ⟨g - 1, by omega⟩
    refine ⟨fun _ => 0, fun b _ => Nat.zero_le _, fun b hb => ?_, ?_, ?_⟩
    · rw [L4_pickEmpties_72, if_pos (nI_le (by omega) (by omega)), hw b hb]; rfl
    · rw [L6_collects_3, if_pos (show 12 * nI x ≤ nI j from by
        rw [show (12 * nI x : Int32) = nI (12 * x) from pk_mul 12 x]; exact nI_le (by omega) (by omega)), agg_zero]
    · rw [agg_zero, show α - ((0 : Nat) : Int) * d = α by simp, show β + ((0 : Nat) : Int) = β by simp]
      exact h
  | succ N ih =>
    intro j f g e w m α β hj hf hg hw h2 hN h ed
    obtain ⟨f, rfl⟩ : ∃ q : Nat, f = q + 1 := ⟨f - 1, by omega⟩
    obtain ⟨g, rfl⟩ : ∃ q : Nat, g = q + 1 := ⟨g - 1, by omega⟩
    have ht := (gQ_0 h).2.1
    have hs6 : s < 6 := by omega
    obtain ⟨b, hbn, hb8, ekb, heb, r1, r2⟩ := pick_one (w := w) (v := v) hs6 h hw h2 (by omega)
    obtain ⟨a1, a2, a3⟩ := h2 b hb8
    have eE := a2 ekb
    rw [L4_pickEmpties_72, if_neg (nI_ge (by omega) (by omega)), L6_collects_3, if_neg (show ¬ 12 * nI x ≤ nI j from by
      rw [show (12 * nI x : Int32) = nI (12 * x) from pk_mul 12 x]; exact nI_ge (by omega) (by omega)), r1, r2, m_pick v m hs6 hb8]
    have hg2 := gMov h hbn hs hk ekb ed hd1 hd (by rw [eE, tN (by omega)]; omega) hB
    have hout : ∀ i : Nat, i ≠ 93 + 21 * s + (13 + b) → i ≠ 13 + 10 * b + 4 → adds m (nMov b s) i = m i := fun i q1 q2 => adds_out (fun p hp => by
      simp only [nMov, List.mem_cons, List.not_mem_nil, or_false] at hp
      rcases hp with rfl | rfl
      · exact fun z => q1 z.symm
      · exact fun z => q2 z.symm)
    have hin : adds m (nMov b s) (93 + 21 * s + (13 + b)) = nI (e b - 1) := by
      unfold nMov
      rw [adds_cons, adds_cons, adds_nil]
      dsimp only
      rw [add1_ne (by omega), add1_at, eE, show (nI (e b) + -nI 1 : Int32) = nI (e b) - nI 1 from (Int32.sub_eq_add_neg _ _).symm, pk_sub heb]
    obtain ⟨p, p1, p2, p3, p4⟩ := ih (j + 1) f g (fun i => if i = b then e i - 1 else e i) (bput w 1 b (nI (e b) - 1)) (adds m (nMov b s)) (α + -(d : Int)) (β + 1) (by omega) (by omega) (by omega)
      (fun i hi => by
        by_cases c : i = b
        · subst c
          rw [if_pos rfl, show (nI (e i) - 1 : Int32) = nI (e i - 1) from pk_sub (b := 1) heb]
          simp [bput, bs, upd]
        · rw [if_neg c]
          have : bput w 1 b (nI (e b) - 1) 1 i = w 1 i := by simp [bput, bs, upd, c]
          rw [this, hw i hi])
      (fun i hi => by
        obtain ⟨b1, b2, b3⟩ := h2 i hi
        dsimp only
        rw [hout (13 + 10 * i + 0) (by omega) (by omega)]
        by_cases c : i = b
        · subst c
          rw [if_pos rfl]
          exact ⟨by omega, fun _ => hin, fun q => absurd ekb q⟩
        · rw [if_neg c, hout (93 + 21 * s + (13 + i)) (by omega) (by omega)]
          exact ⟨b1, b2, b3⟩)
      (by have := nsum_dec (e := e) (b := b) heb 8 0 (by omega) (by omega); omega)
      hg2
      (by rw [hout (7 + k) (by omega) (by omega)]; exact ed)
    refine ⟨bump p b, fun i hi => ?_, fun i hi => ?_, ?_, ?_⟩
    · have := p1 i hi
      unfold bump
      by_cases c : i = b
      · subst c; rw [if_pos rfl] at this ⊢; omega
      · rw [if_neg c] at this ⊢; exact this
    · rw [p2 i hi]
      unfold bump
      by_cases c : i = b
      · subst c; rw [if_pos rfl, if_pos rfl]; congr 1; omega
      · rw [if_neg c, if_neg c]
    · rw [p3, agg_mov 8 hb8]
    · rw [agg_mov 8 hb8] at p4
      rw [show α - ((N + 1 : Nat) : Int) * d = α + -(d : Int) - (N : Int) * d by push_cast; grind, show β + ((N + 1 : Nat) : Int) = β + 1 + (N : Int) by push_cast; omega]
      exact p4
-- what is left, made ready
theorem left_1 (a1 a2 : Int32) : ∀ (d f j : Nat) (w : bU), j + d = 8 → d < f → ∀ b : Nat, b < 8 → (L4_pickEmpties_3 a1 a2 w f j) 1 b = if j ≤ b then (if F2_ofBrand w (nI b) 0 = a2 then F2_ofShop w a1 (20 + nI b) else 0) else w 1 b := by
  intro d
  induction d with
  | zero =>
    intro f j w hj hf b hb
    obtain ⟨f, rfl⟩ : ∃ q : Nat, f = q + 1 := ⟨f - 1, by omega⟩
    rw [L4_pickEmpties_3, if_pos (show (8 : Int32) ≤ nI j from nI_le (a := 8) (by omega) (by omega)), if_neg (by omega)]
  | succ d ih =>
    intro f j w hj hf b hb
    obtain ⟨f, rfl⟩ : ∃ q : Nat, f = q + 1 := ⟨f - 1, by omega⟩
    have hB : ∀ (x : Int32) (c : Int32), F2_ofBrand (bput w 1 j x) (nI c.toNatClampNeg) 0 = F2_ofBrand w (nI c.toNatClampNeg) 0 := fun x c => rfl
    rw [L4_pickEmpties_3, if_neg (show ¬ (8 : Int32) ≤ nI j from nI_ge (b := 8) (by omega) (by decide)), mC (by omega)]
    have e1 : ∀ (x : Int32) (i : Nat), bput w 1 j x 1 i = if i = j then x else w 1 i := fun x i => by simp [bput, bs, upd]
    split
    · rename_i c
      rw [ih f (j + 1) _ (by omega) (by omega) b hb, e1]
      by_cases q : b = j
      · subst q
        rw [if_neg (by omega), if_pos rfl, if_pos (by omega), if_pos c]
      · by_cases q2 : j ≤ b
        · rw [if_pos (by omega), if_pos q2]; rfl
        · rw [if_neg (by omega), if_neg q, if_neg q2]
    · rename_i c
      rw [ih f (j + 1) _ (by omega) (by omega) b hb, e1]
      by_cases q : b = j
      · subst q
        rw [if_neg (by omega), if_pos rfl, if_pos (by omega), if_neg c]
      · by_cases q2 : j ≤ b
        · rw [if_pos (by omega), if_pos q2]; rfl
        · rw [if_neg (by omega), if_neg q, if_neg q2]
/-- the bottles of a kind in a shop -/
def eK (s k : Nat) (m : Nat → Int32) (b : Nat) : Nat := if m (13 + 10 * b + 0) = nI k then (m (93 + 21 * s + (13 + b))).toNatClampNeg else 0
theorem eK_SR {B n t s k : Nat} {α β : Int} {m : Nat → Int32} (hs : s < 6) (h : gQ B n t α β m) : SR s k (eK s k m) m := by
  intro b hb
  obtain ⟨y, hy, e⟩ := b_nat h (j := 93 + 21 * s + (13 + b)) (by omega) (wv_T_E hs hb)
  unfold eK
  by_cases c : m (13 + 10 * b + 0) = nI k
  · rw [if_pos c, e, mC (by omega)]
    exact ⟨hy, fun _ => rfl, fun q => absurd c q⟩
  · rw [if_neg c]
    exact ⟨by omega, fun q => absurd q c, fun _ => rfl⟩
theorem emp_nsum {v : bU} {B n t s k : Nat} {α β : Int} (hs : s < 6) (h : gQ B n t α β (v 0)) : F6_emptiesOf v (nI s) (nI k) = nI (nsum (eK s k (v 0)) 8 0) ∧ nsum (eK s k (v 0)) 8 0 ≤ 320000 := by
  obtain ⟨hn, ht, e0, e1⟩ := gQ_0 h
  have hS := eK_SR (k := k) hs h
  have hz := SR_z hs h hS
  refine ⟨?_, Nat.le_trans (nsum_le (M := 40000) 8 0 (fun i _ hi => (hS i (by omega)).1)) (by decide)⟩
  unfold F6_emptiesOf
  rw [aL_mEmp v _ _ e0 hn n _ 0 0 (by omega) (by rw [e0, mC (by omega)]; omega)]
  have : acc (fun j : Nat => if F6_of v (nI j) 0 = nI k then F6_ofShop v (nI s) (13 + nI j) else 0) n 0 (nI 0) = nI (0 + nsum (eK s k (v 0)) n 0) := by
    refine acc_nsum n 0 0 (fun i _ hi => ?_)
    rw [show F6_of v (nI i) 0 = v 0 (13 + 10 * i + 0) from m_br v (w := 0) (by omega), show (13 + nI i : Int32) = nI (13 + i) from nI_add 13 i, m_sh v (by omega)]
    obtain ⟨a1, a2, a3⟩ := hS i (by omega)
    by_cases c : v 0 (13 + 10 * i + 0) = nI k
    · rw [if_pos c, a2 c]
    · rw [if_neg c, a3 c]; rfl
  refine this.trans ?_
  congr 1
  rw [Nat.zero_add]
  have hsplit : ∀ (a d j : Nat), nsum (eK s k (v 0)) (a + d) j = nsum (eK s k (v 0)) a j + nsum (eK s k (v 0)) d (j + a) := by
    intro a
    induction a with
    | zero => intro d j; rw [Nat.zero_add, nsum, Nat.zero_add]; rfl
    | succ a ih => intro d j; rw [show a + 1 + d = (a + d) + 1 by omega, nsum, nsum, ih, show j + 1 + a = j + (a + 1) by omega]; omega
  have := hsplit n (8 - n) 0
  rw [show n + (8 - n) = 8 by omega, nsum_zero (8 - n) (0 + n) (fun i a b => hz i (by omega) (by omega))] at this
  omega

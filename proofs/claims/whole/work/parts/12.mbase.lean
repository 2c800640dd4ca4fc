
-- INTS: orders by their numbers (own text)
theorem iLt (a b : Int32) : a < b ↔ a.toInt < b.toInt := Int32.lt_iff_toInt_lt
theorem iLe (a b : Int32) : a ≤ b ↔ a.toInt ≤ b.toInt := Int32.le_iff_toInt_le
theorem iEq (a b : Int32) : a = b ↔ a.toInt = b.toInt := Int32.toInt_inj.symm
theorem iRg (a : Int32) : -2147483648 ≤ a.toInt ∧ a.toInt ≤ 2147483647 := by
  have h1 := a.toInt_lt
  have h2 := a.le_toInt
  omega
theorem iOf {x : Int32} {n : Nat} (h : x.toInt = n) : x = nI n := by
  have h1 := iRg x
  rw [iEq, nI_toInt (by omega), h]
theorem iNn {x : Int32} (h : 0 ≤ x.toInt) : ∃ n : Nat, n < 2 ^ 31 ∧ x = nI n := ⟨x.toInt.toNat, by have := iRg x; omega, iOf (by omega)⟩
theorem iLit (n : Nat) (h : n < 2 ^ 31) : (OfNat.ofNat n : Int32).toInt = (n : Int) := nI_toInt h
theorem iBmod {n : Int} (h1 : -2147483648 ≤ n) (h2 : n < 2147483648) : n.bmod (2 ^ 32) = n := by
  rw [Int.bmod_def]; omega
theorem iAdd {x y : Int32} (h1 : -2147483648 ≤ x.toInt + y.toInt) (h2 : x.toInt + y.toInt < 2147483648) : (x + y).toInt = x.toInt + y.toInt := by rw [Int32.toInt_add, iBmod h1 h2]
theorem iSub {x y : Int32} (h1 : -2147483648 ≤ x.toInt - y.toInt) (h2 : x.toInt - y.toInt < 2147483648) : (x - y).toInt = x.toInt - y.toInt := by rw [Int32.toInt_sub, iBmod h1 h2]
theorem iMul {x y : Int32} (h1 : -2147483648 ≤ x.toInt * y.toInt) (h2 : x.toInt * y.toInt < 2147483648) : (x * y).toInt = x.toInt * y.toInt := by rw [Int32.toInt_mul, iBmod h1 h2]
theorem iNeg {x : Int32} (h : x.toInt ≠ -2147483648) : (-x).toInt = -x.toInt := by
  have h1 := x.toInt_lt
  have h2 := x.le_toInt
  rw [Int32.toInt_neg, iBmod (by omega) (by omega)]
theorem i0 : (0 : Int32).toInt = 0 := by decide
theorem i1 : (1 : Int32).toInt = 1 := by decide


-- THE REFERENCE'S STATE: what its methods need of it (own text)
def mB (x : Int32) : Prop := ∃ j : Nat, j < 8 ∧ x = nI j
def mS (x : Int32) : Prop := ∃ j : Nat, j < 6 ∧ x = nI j
def mK (x : Int32) : Prop := ∃ j : Nat, j < 3 ∧ x = nI j
theorem mB_nI {j : Nat} (h : j < 8) : mB (nI j) := ⟨j, h, rfl⟩
theorem mS_nI {j : Nat} (h : j < 6) : mS (nI j) := ⟨j, h, rfl⟩
theorem mK_nI {j : Nat} (h : j < 3) : mK (nI j) := ⟨j, h, rfl⟩
/-- what each number of the row is to be, one by one -/
def mP (k : Nat) (x : Int32) : Prop := (k = 0 → ∃ n : Nat, n ≤ 8 ∧ x = nI n) ∧ (k = 1 → ∃ n : Nat, n ≤ 6 ∧ x = nI n) ∧ (k = 12 → ¬ x = 0) ∧ (∀ b : Nat, b < 8 → k = 13 + 10 * b → ∃ j : Nat, j < 3 ∧ x = nI j)
def mI (v : Nat → Int32) : Prop := ∀ k : Nat, k < 283 → mP k (v k)
def mInv (u : bU) : Prop := mI (u 0) ∧ (∃ n : Nat, n ≤ 6 ∧ u 6 0 = nI n ∧ ∀ j : Nat, j < 283 * n → mP (j % 283) (u 2 j)) ∧ (∃ n : Nat, n ≤ 60 ∧ u 6 1 = nI n) ∧ ¬ u 6 3 < 0
theorem mC {j : Nat} (h : j < 2 ^ 31) : (nI j).toNatClampNeg = j := nI_clamp h
theorem mP_any {k : Nat} {x : Int32} (h0 : k ≠ 0) (h1 : k ≠ 1) (h2 : k ≠ 12) (h3 : ∀ b : Nat, b < 8 → k ≠ 13 + 10 * b) : mP k x := ⟨fun h => absurd h h0, fun h => absurd h h1, fun h => absurd h h2, fun b hb h => absurd h (h3 b hb)⟩
theorem mP_0 {n : Nat} (h : n ≤ 8) : mP 0 (nI n) := ⟨fun _ => ⟨n, h, rfl⟩, fun h => absurd h (by decide), fun h => absurd h (by decide), fun b hb h => absurd h (by omega)⟩
theorem mP_1 {n : Nat} (h : n ≤ 6) : mP 1 (nI n) := ⟨fun h => absurd h (by decide), fun _ => ⟨n, h, rfl⟩, fun h => absurd h (by decide), fun b hb h => absurd h (by omega)⟩
theorem mP_12 {x : Int32} (h : ¬ x = 0) : mP 12 x := ⟨fun h => absurd h (by decide), fun h => absurd h (by decide), fun _ => h, fun b hb h => absurd h (by omega)⟩
theorem mP_K {b : Nat} {x : Int32} (hb : b < 8) (h : mK x) : mP (13 + 10 * b) x := ⟨fun h => absurd h (by omega), fun h => absurd h (by omega), fun h => absurd h (by omega), fun _ _ _ => h⟩
theorem mNB {u : bU} (hI : mInv u) : (u 0 0).toNatClampNeg ≤ 8 := by
  obtain ⟨n, hn, e⟩ := (hI.1 0 (by decide)).1 rfl
  rw [e, mC (by omega)]; exact hn
theorem mNS {u : bU} (hI : mInv u) : (u 0 1).toNatClampNeg ≤ 6 := by
  obtain ⟨n, hn, e⟩ := (hI.1 1 (by decide)).2.1 rfl
  rw [e, mC (by omega)]; exact hn
theorem mWear {u : bU} (hI : mInv u) : ¬ u 0 12 = 0 := (hI.1 12 (by decide)).2.2.1 rfl
/-- a write to v -/
theorem mInv_v {u : bU} {k : Nat} {x : Int32} (hI : mInv u) (h : mP k x) : mInv (bput u 0 k x) := by
  refine ⟨?_, hI.2.1, hI.2.2⟩
  intro j hj
  show mP j (bput u 0 k x 0 j)
  by_cases e : j = k
  · subst e
    have : bput u 0 j x 0 j = x := by simp [bput, bs, upd]
    rw [this]; exact h
  · have : bput u 0 k x 0 j = u 0 j := by simp [bput, bs, upd, e]
    rw [this]; exact hI.1 j hj
/-- a write to a row that nothing is asked of -/
theorem mInv_c {u : bU} {k i : Nat} {x : Int32} (hI : mInv u) (h0 : k ≠ 0) (h2 : k ≠ 2) (h6 : k ≠ 6) : mInv (bput u k i x) := by
  have e0 : bput u k i x 0 = u 0 := bs_ne _ _ (Ne.symm h0)
  have e2 : bput u k i x 2 = u 2 := bs_ne _ _ (Ne.symm h2)
  have e6 : bput u k i x 6 = u 6 := bs_ne _ _ (Ne.symm h6)
  unfold mInv
  rw [e0, e2, e6]
  exact hI
theorem mInv_sc {u : bU} {k : Nat} {x : Int32} (hI : mInv u) (h0 : k ≠ 0) (h1 : k ≠ 1) (h3 : k ≠ 3) : mInv (bput u 6 k x) := by
  have e : ∀ j : Nat, j ≠ k → bput u 6 k x 6 j = u 6 j := fun j hj => by simp [bput, bs, upd, hj]
  have e0 : bput u 6 k x 0 = u 0 := bs_ne _ _ (by decide)
  have e2 : bput u 6 k x 2 = u 2 := bs_ne _ _ (by decide)
  unfold mInv
  rw [e0, e2, e 0 (Ne.symm h0), e 1 (Ne.symm h1), e 3 (Ne.symm h3)]
  exact hI
theorem mInv_pl {u : bU} {x : Int32} (hI : mInv u) (h : ¬ x < 0) : mInv (bput u 6 3 x) := by
  have e : ∀ j : Nat, j ≠ 3 → bput u 6 3 x 6 j = u 6 j := fun j hj => by simp [bput, bs, upd, hj]
  have e3 : bput u 6 3 x 6 3 = x := by simp [bput, bs, upd]
  have e0 : bput u 6 3 x 0 = u 0 := bs_ne _ _ (by decide)
  have e2 : bput u 6 3 x 2 = u 2 := bs_ne _ _ (by decide)
  unfold mInv
  rw [e0, e2, e 0 (by decide), e 1 (by decide), e3]
  exact ⟨hI.1, hI.2.1, hI.2.2.1, h⟩
theorem mInv_pl0 {u : bU} (hI : mInv u) : mInv (bput u 6 3 (u 6 3 + 0)) := mInv_pl hI (by
  have h := hI.2.2.2
  rw [Int32.add_zero]; exact h)
theorem mInv_pl1 {u : bU} (hI : mInv u) (h : ¬ u 6 1 ≤ u 6 3) : mInv (bput u 6 3 (u 6 3 + 1)) := mInv_pl hI (by
  obtain ⟨n, hn, e⟩ := hI.2.2.1
  have h2 := hI.2.2.2
  rw [iLt, i0] at h2 ⊢
  rw [iLe, e, nI_toInt (by omega)] at h
  rw [iAdd (by rw [i1]; omega) (by rw [i1]; omega), i1]
  omega)
theorem mInv_ln {u : bU} {n : Nat} (hI : mInv u) (h : n ≤ 60) : mInv (bput u 6 1 (nI n)) := by
  have e : ∀ j : Nat, j ≠ 1 → bput u 6 1 (nI n) 6 j = u 6 j := fun j hj => by simp [bput, bs, upd, hj]
  have e1 : bput u 6 1 (nI n) 6 1 = nI n := by simp [bput, bs, upd]
  have e0 : bput u 6 1 (nI n) 0 = u 0 := bs_ne _ _ (by decide)
  have e2 : bput u 6 1 (nI n) 2 = u 2 := bs_ne _ _ (by decide)
  unfold mInv
  rw [e0, e2, e 0 (by decide), e 3 (by decide), e1]
  exact ⟨hI.1, hI.2.1, ⟨n, h, rfl⟩, hI.2.2.2⟩
theorem mInv_ln0 {u : bU} (hI : mInv u) : mInv (bput u 6 1 0) := mInv_ln (n := 0) hI (by decide)
theorem mInv_ln1 {u : bU} (hI : mInv u) (h : ¬ u 6 1 = (60 : Int32)) : mInv (bput u 6 1 (u 6 1 + 1)) := by
  obtain ⟨n, hn, e⟩ := hI.2.2.1
  rw [e, nI_1]
  refine mInv_ln hI ?_
  rcases Nat.lt_or_ge n 60 with q | q
  · omega
  · exact absurd (by rw [e, show n = 60 by omega]; rfl) h
theorem mXpl {u : bU} (hI : mInv u) (h : ¬ u 6 1 ≤ u 6 3) : vp_in (u 6 3) 60 := by
  obtain ⟨n, hn, e⟩ := hI.2.2.1
  have h2 := hI.2.2.2
  refine bIn h2 (fun q => h ?_) (by decide)
  rw [iLe] at q ⊢
  rw [e, nI_toInt (by omega)]
  rw [show (Int32.ofNat 60).toInt = 60 by decide] at q
  omega
theorem mXln {u : bU} (hI : mInv u) (h : ¬ u 6 1 = (60 : Int32)) : vp_in (u 6 1) 60 := by
  obtain ⟨n, hn, e⟩ := hI.2.2.1
  rw [e]
  refine vp_in_nI ?_ (by decide)
  rcases Nat.lt_or_ge n 60 with q | q
  · omega
  · exact absurd (by rw [e, show n = 60 by omega]; rfl) h
theorem mB_0 {u : bU} (hI : mInv u) (h : ¬ u 0 0 = (8 : Int32)) : mB (u 0 0) := by
  obtain ⟨n, hn, e⟩ := (hI.1 0 (by decide)).1 rfl
  rcases Nat.lt_or_ge n 8 with q | q
  · exact ⟨n, q, e⟩
  · exact absurd (by rw [e, show n = 8 by omega]; rfl) h
theorem mS_0 {u : bU} (hI : mInv u) (h : ¬ u 0 1 = (6 : Int32)) : mS (u 0 1) := by
  obtain ⟨n, hn, e⟩ := (hI.1 1 (by decide)).2.1 rfl
  rcases Nat.lt_or_ge n 6 with q | q
  · exact ⟨n, q, e⟩
  · exact absurd (by rw [e, show n = 6 by omega]; rfl) h
theorem mInv_0 {u : bU} {x : Int32} (hI : mInv u) (h : mB x) : mInv (bput u 0 0 (x + 1)) := by
  obtain ⟨n, hn, rfl⟩ := h
  rw [nI_1]
  exact mInv_v hI (mP_0 (by omega))
theorem mInv_1 {u : bU} {x : Int32} (hI : mInv u) (h : mS x) : mInv (bput u 0 1 (x + 1)) := by
  obtain ⟨n, hn, rfl⟩ := h
  rw [nI_1]
  exact mInv_v hI (mP_1 (by omega))
theorem mInv_g {u : bU} {k : Nat} {x : Int32} (hI : mInv u) (h1 : 2 ≤ k) (h2 : k ≤ 6) : mInv (bput u 0 k x) := mInv_v hI (mP_any (by omega) (by omega) (by omega) (fun b hb => by omega))

def badd (u : bU) (k i : Nat) (x : Int32) : bU := bput u k i (u k i + x)
def bsub (u : bU) (k i : Nat) (x : Int32) : bU := bput u k i (u k i - x)
/-- the saves: how many, each slice -/
theorem mInv_s {u : bU} {i : Nat} {x : Int32} (hI : mInv u) (h : ∀ n : Nat, n ≤ 6 → u 6 0 = nI n → i < 283 * n → mP (i % 283) x) : mInv (bput u 2 i x) := by
  have e0 : bput u 2 i x 0 = u 0 := bs_ne _ _ (by decide)
  have e6 : bput u 2 i x 6 = u 6 := bs_ne _ _ (by decide)
  obtain ⟨h1, ⟨n, hn, e, hs⟩, h3, h4⟩ := hI
  refine ⟨by rw [e0]; exact h1, ⟨n, hn, by rw [e6]; exact e, ?_⟩, by rw [e6]; exact h3, by rw [e6]; exact h4⟩
  intro j hj
  by_cases q : j = i
  · subst q
    have : bput u 2 j x 2 j = x := by simp [bput, bs, upd]
    rw [this]; exact h n hn e hj
  · have : bput u 2 i x 2 j = u 2 j := by simp [bput, bs, upd, q]
    rw [this]; exact hs j hj
theorem mInv_sh {u : bU} {j : Nat} (hI : mInv u) (h : u 6 0 = 6) (hj : j < 1415) : mInv (bput u 2 j (u 2 (nI j + 283).toNatClampNeg)) := by
  refine mInv_s hI (fun n hn e hi => ?_)
  have h6 : n = 6 := by
    have := congrArg Int32.toInt (e.symm.trans h)
    rw [nI_toInt (by omega)] at this
    have h8 : (6 : Int32).toInt = 6 := by decide
    omega
  rw [show (nI j + 283 : Int32) = nI (j + 283) from nI_add j 283, mC (by omega)]
  obtain ⟨_, ⟨n2, hn2, e2, hs⟩, _⟩ := hI
  have h7 : n2 = n := (nI_eq (by omega) (by omega)).mp (e2.symm.trans e)
  have := hs (j + 283) (by omega)
  rw [Nat.add_mod_right] at this
  exact this
theorem mX283 {j : Nat} (h : j < 1415) : vp_in (nI j + 283) 1698 := by
  rw [show (nI j + 283 : Int32) = nI (j + 283) from nI_add j 283]
  exact vp_in_nI (by omega) (by decide)
def mSv (j : Nat) (u : bU) : Prop := ∃ n : Nat, n ≤ 5 ∧ u 6 0 = nI n ∧ ∀ k : Nat, k < j → u 2 (283 * n + k) = u 0 k
theorem mSv_x {u : bU} {j k : Nat} (h : mSv j u) (hk : k < 283) : vp_in ((283 * (u 6 0)) + nI k) 1698 := by
  obtain ⟨n, hn, e, _⟩ := h
  rw [e, show ((283 * nI n) + nI k : Int32) = nI (283 * n + k) from by
    show (nI 283 * nI n) + nI k = _
    rw [pk_mul, nI_add]]
  exact vp_in_nI (by omega) (by decide)
theorem mSv_ini1 {u : bU} (hI : mInv u) (h : ¬ u 6 0 = (6 : Int32)) : mSv 0 u := by
  obtain ⟨_, ⟨n, hn, e, hs⟩, _⟩ := hI
  refine ⟨n, ?_, e, fun k hk => absurd hk (by omega)⟩
  rcases Nat.lt_or_ge n 6 with q | q
  · omega
  · exact absurd (by rw [e, show n = 6 by omega]; rfl) h
theorem mSv_ini2 {u : bU} (h : u 6 0 = (6 : Int32)) : mSv 0 (bput u 6 0 (u 6 0 - 1)) := by
  refine ⟨5, by decide, ?_, fun k hk => absurd hk (by omega)⟩
  show (bput u 6 0 (u 6 0 - 1)) 6 0 = nI 5
  rw [h]
  simp [bput, bs, upd]
  rfl
theorem mInv_sv5 {u : bU} (hI : mInv u) (h : u 6 0 = (6 : Int32)) : mInv (bput u 6 0 (u 6 0 - 1)) := by
  have e : ∀ j : Nat, j ≠ 0 → bput u 6 0 (u 6 0 - 1) 6 j = u 6 j := fun j hj => by simp [bput, bs, upd, hj]
  have e1 : bput u 6 0 (u 6 0 - 1) 6 0 = nI 5 := by rw [h]; simp [bput, bs, upd]; rfl
  have e0 : bput u 6 0 (u 6 0 - 1) 0 = u 0 := bs_ne _ _ (by decide)
  have e2 : bput u 6 0 (u 6 0 - 1) 2 = u 2 := bs_ne _ _ (by decide)
  obtain ⟨h1, ⟨n, hn, en, hs⟩, h3, h4⟩ := hI
  have h6 : n = 6 := by
    have := congrArg Int32.toInt (en.symm.trans h)
    rw [nI_toInt (by omega)] at this
    have h8 : (6 : Int32).toInt = 6 := by decide
    omega
  subst h6
  refine ⟨by rw [e0]; exact h1, ⟨5, by decide, e1, fun j hj => by rw [e2]; exact hs j (by omega)⟩, by rw [e 1 (by decide)]; exact h3, by rw [e 3 (by decide)]; exact h4⟩
theorem mSv_idx {n k : Nat} {x : Int32} (e : x = nI n) (hn : n ≤ 6) (hk : k < 283) : ((283 * x) + nI k).toNatClampNeg = 283 * n + k := by
  rw [e, show ((283 * nI n) + nI k : Int32) = nI (283 * n + k) from by
    show (nI 283 * nI n) + nI k = _
    rw [pk_mul, nI_add]]
  exact mC (by omega)
theorem mInv_s2 {u : bU} {j k : Nat} {x : Int32} (hI : mInv u) (h : mSv j u) (hk : k < 283) : mInv (bput u 2 ((283 * (u 6 0)) + nI k).toNatClampNeg x) := by
  obtain ⟨n, hn, e, _⟩ := h
  refine mInv_s hI (fun n2 hn2 e2 hi => ?_)
  have h7 : n2 = n := (nI_eq (by omega) (by omega)).mp (e2.symm.trans e)
  rw [mSv_idx e (by omega) hk] at hi
  omega
theorem mSv_step {u : bU} {j : Nat} (h : mSv j u) (hk : j < 283) : mSv (j + 1) (bput u 2 ((283 * (u 6 0)) + nI j).toNatClampNeg (u 0 j)) := by
  obtain ⟨n, hn, e, hs⟩ := h
  refine ⟨n, hn, e, fun k q => ?_⟩
  rw [mSv_idx e (by omega) hk]
  show (bput u 2 (283 * n + j) (u 0 j)) 2 (283 * n + k) = u 0 k
  by_cases ek : k = j
  · subst ek; simp [bput, bs, upd]
  · have : 283 * n + k ≠ 283 * n + j := by omega
    have e5 : (bput u 2 (283 * n + j) (u 0 j)) 2 (283 * n + k) = u 2 (283 * n + k) := by simp [bput, bs, upd, ek]
    rw [e5]; exact hs k (by omega)
theorem mSv_out {u : bU} {j : Nat} (h : mSv j u) (c : (283 : Int32) ≤ nI j) (hj : j ≤ 283) : mSv 283 u := by
  have : ¬ j < 283 := fun q => absurd c (nI_ge q (by decide))
  obtain rfl : j = 283 := by omega
  exact h
theorem mInv_sv1 {u : bU} (hI : mInv u) (h : mSv 283 u) : mInv (bput u 6 0 (u 6 0 + 1)) := by
  obtain ⟨n, hn, e, hs⟩ := h
  have f : ∀ j : Nat, j ≠ 0 → bput u 6 0 (u 6 0 + 1) 6 j = u 6 j := fun j hj => by simp [bput, bs, upd, hj]
  have e1 : bput u 6 0 (u 6 0 + 1) 6 0 = nI (n + 1) := by rw [e, nI_1]; simp [bput, bs, upd]
  have e0 : bput u 6 0 (u 6 0 + 1) 0 = u 0 := bs_ne _ _ (by decide)
  have e2 : bput u 6 0 (u 6 0 + 1) 2 = u 2 := bs_ne _ _ (by decide)
  obtain ⟨h1, ⟨n2, hn2, en, hs2⟩, h3, h4⟩ := hI
  have h7 : n2 = n := (nI_eq (by omega) (by omega)).mp (en.symm.trans e)
  subst h7
  refine ⟨by rw [e0]; exact h1, ⟨n2 + 1, by omega, e1, fun j hj => ?_⟩, by rw [f 1 (by decide)]; exact h3, by rw [f 3 (by decide)]; exact h4⟩
  rw [e2]
  rcases Nat.lt_or_ge j (283 * n2) with q | q
  · exact hs2 j q
  · have hk : j - 283 * n2 < 283 := by omega
    have hm : j % 283 = j - 283 * n2 := by omega
    have := hs (j - 283 * n2) hk
    rw [show 283 * n2 + (j - 283 * n2) = j by omega] at this
    rw [this, hm]
    exact h1 _ hk
/-- undo: the slice that comes back -/
def mUn (u : bU) : Prop := ∃ n : Nat, n ≤ 5 ∧ u 6 0 = nI n ∧ ∀ k : Nat, k < 283 → mP k (u 2 (283 * n + k))
theorem mUn_n {u : bU} (hI : mInv u) (h : ¬ u 6 0 = 0) : ∃ n : Nat, n ≤ 5 ∧ u 6 0 = nI (n + 1) := by
  obtain ⟨_, ⟨n, hn, e, hs⟩, _⟩ := hI
  rcases n with _ | n
  · exact absurd e h
  · exact ⟨n, by omega, e⟩
theorem mUn_ini {u : bU} (hI : mInv u) (h : ¬ u 6 0 = 0) : mUn (bput u 6 0 (u 6 0 - 1)) := by
  obtain ⟨n, hn, e⟩ := mUn_n hI h
  obtain ⟨_, ⟨n2, hn2, en, hs⟩, _⟩ := hI
  have h7 : n2 = n + 1 := (nI_eq (by omega) (by omega)).mp (en.symm.trans e)
  refine ⟨n, hn, ?_, fun k hk => ?_⟩
  · rw [e, nI_pred]; simp [bput, bs, upd]
  · show mP k (u 2 (283 * n + k))
    have := hs (283 * n + k) (by omega)
    rw [show (283 * n + k) % 283 = k by omega] at this
    exact this
theorem mInv_svm {u : bU} (hI : mInv u) (h : ¬ u 6 0 = 0) : mInv (bput u 6 0 (u 6 0 - 1)) := by
  obtain ⟨n, hn, e⟩ := mUn_n hI h
  have f : ∀ j : Nat, j ≠ 0 → bput u 6 0 (u 6 0 - 1) 6 j = u 6 j := fun j hj => by simp [bput, bs, upd, hj]
  have e1 : bput u 6 0 (u 6 0 - 1) 6 0 = nI n := by rw [e, nI_pred]; simp [bput, bs, upd]
  have e0 : bput u 6 0 (u 6 0 - 1) 0 = u 0 := bs_ne _ _ (by decide)
  have e2 : bput u 6 0 (u 6 0 - 1) 2 = u 2 := bs_ne _ _ (by decide)
  obtain ⟨h1, ⟨n2, hn2, en, hs2⟩, h3, h4⟩ := hI
  have h7 : n2 = n + 1 := (nI_eq (by omega) (by omega)).mp (en.symm.trans e)
  exact ⟨by rw [e0]; exact h1, ⟨n, by omega, e1, fun j hj => by rw [e2]; exact hs2 j (by omega)⟩, by rw [f 1 (by decide)]; exact h3, by rw [f 3 (by decide)]; exact h4⟩
theorem mUn_x {u : bU} {k : Nat} (h : mUn u) (hk : k < 283) : vp_in ((283 * (u 6 0)) + nI k) 1698 := by
  obtain ⟨n, hn, e, _⟩ := h
  rw [e, show ((283 * nI n) + nI k : Int32) = nI (283 * n + k) from by
    show (nI 283 * nI n) + nI k = _
    rw [pk_mul, nI_add]]
  exact vp_in_nI (by omega) (by decide)
theorem mInv_un {u : bU} {k : Nat} (hI : mInv u) (h : mUn u) (hk : k < 283) : mInv (bput u 0 k (u 2 ((283 * (u 6 0)) + nI k).toNatClampNeg)) := by
  obtain ⟨n, hn, e, hs⟩ := h
  rw [mSv_idx e (by omega) hk]
  exact mInv_v hI (hs k hk)
/-- the spare row -/
def mSp (j : Nat) (u : bU) : Prop := ∀ k : Nat, k < j → mP k (u 1 k)
theorem mSp_step {u : bU} {j : Nat} (hI : mInv u) (h : mSp j u) (hj : j < 283) : mSp (j + 1) (bput u 1 j (u 0 j)) := by
  intro k q
  by_cases ek : k = j
  · subst ek
    have : (bput u 1 k (u 0 k)) 1 k = u 0 k := by simp [bput, bs, upd]
    rw [this]; exact hI.1 k hj
  · have e5 : (bput u 1 j (u 0 j)) 1 k = u 1 k := by simp [bput, bs, upd, ek]
    rw [e5]; exact h k (by omega)
theorem mSp_out {u : bU} {j : Nat} (h : mSp j u) (c : (283 : Int32) ≤ nI j) (hj : j ≤ 283) : mSp 283 u := by
  have : ¬ j < 283 := fun q => absurd c (nI_ge q (by decide))
  obtain rfl : j = 283 := by omega
  exact h
theorem mSp_congr {u v : bU} {j : Nat} (h : mSp j u) (e : v 1 = u 1) : mSp j v := by
  intro k q
  rw [e]; exact h k q
theorem mInv_sp {u : bU} {k : Nat} (hI : mInv u) (h : mSp 283 u) (hk : k < 283) : mInv (bput u 0 k (u 1 k)) := mInv_v hI (h k hk)

theorem mMEp {x : Int32} (h : x = -1 ∨ mB x) (c : ¬ x < 0) : mB x := by
  rcases h with h | h
  · subst h; exact absurd (by decide) c
  · exact h
theorem mW_nI {j n : Nat} (h : j < n) : ∃ w : Nat, w < n ∧ nI j = nI w := ⟨j, h, rfl⟩

-- a write, seen as the reference's cells
theorem pM_0 {D : va_G} {cI : ClassId} {q : Nat → Nat} {u : bU} {H : Heap} {i : Nat} {x : Int32} (h : va_P D vwCl ((wM cI q u).set 1 (q 1, .inl (cI, 283, .inl (upd (u 0) i x)))) H) : va_P D vwCl (wM cI q (bput u 0 i x)) H := h
theorem pM_1 {D : va_G} {cI : ClassId} {q : Nat → Nat} {u : bU} {H : Heap} {i : Nat} {x : Int32} (h : va_P D vwCl ((wM cI q u).set 2 (q 2, .inl (cI, 283, .inl (upd (u 1) i x)))) H) : va_P D vwCl (wM cI q (bput u 1 i x)) H := h
theorem pM_2 {D : va_G} {cI : ClassId} {q : Nat → Nat} {u : bU} {H : Heap} {i : Nat} {x : Int32} (h : va_P D vwCl ((wM cI q u).set 3 (q 3, .inl (cI, 1698, .inl (upd (u 2) i x)))) H) : va_P D vwCl (wM cI q (bput u 2 i x)) H := h
theorem pM_3 {D : va_G} {cI : ClassId} {q : Nat → Nat} {u : bU} {H : Heap} {i : Nat} {x : Int32} (h : va_P D vwCl ((wM cI q u).set 4 (q 4, .inl (cI, 60, .inl (upd (u 3) i x)))) H) : va_P D vwCl (wM cI q (bput u 3 i x)) H := h
theorem pM_0a {D : va_G} {cI : ClassId} {q : Nat → Nat} {u : bU} {H : Heap} {i : Nat} {x : Int32} (h : va_P D vwCl ((wM cI q u).set 1 (q 1, .inl (cI, 283, .inl (upd (u 0) i (u 0 i + x))))) H) : va_P D vwCl (wM cI q (badd u 0 i x)) H := h
theorem pM_0s {D : va_G} {cI : ClassId} {q : Nat → Nat} {u : bU} {H : Heap} {i : Nat} {x : Int32} (h : va_P D vwCl ((wM cI q u).set 1 (q 1, .inl (cI, 283, .inl (upd (u 0) i (u 0 i - x))))) H) : va_P D vwCl (wM cI q (bsub u 0 i x)) H := h
theorem pM_f0 {D : va_G} {cI : ClassId} {q : Nat → Nat} {u : bU} {H : Heap} {x : Int32} (h : va_P D vwCl ((wM cI q u).set 0 (q 0, .inr (6, [.ref (q 1), .ref (q 2), .ref (q 3), .int (u 6 0), .ref (q 4), .int (u 6 1), .int (u 6 2), .ref (q 5), .ref (q 6), .int (u 6 3), .int (u 6 4), .int (u 6 5), .int (u 6 6), .int (u 6 7), .int (u 6 8), .int (u 6 9)].set 3 (.int x)))) H) : va_P D vwCl (wM cI q (bput u 6 0 x)) H := h
theorem pM_f1 {D : va_G} {cI : ClassId} {q : Nat → Nat} {u : bU} {H : Heap} {x : Int32} (h : va_P D vwCl ((wM cI q u).set 0 (q 0, .inr (6, [.ref (q 1), .ref (q 2), .ref (q 3), .int (u 6 0), .ref (q 4), .int (u 6 1), .int (u 6 2), .ref (q 5), .ref (q 6), .int (u 6 3), .int (u 6 4), .int (u 6 5), .int (u 6 6), .int (u 6 7), .int (u 6 8), .int (u 6 9)].set 5 (.int x)))) H) : va_P D vwCl (wM cI q (bput u 6 1 x)) H := h
theorem pM_f2 {D : va_G} {cI : ClassId} {q : Nat → Nat} {u : bU} {H : Heap} {x : Int32} (h : va_P D vwCl ((wM cI q u).set 0 (q 0, .inr (6, [.ref (q 1), .ref (q 2), .ref (q 3), .int (u 6 0), .ref (q 4), .int (u 6 1), .int (u 6 2), .ref (q 5), .ref (q 6), .int (u 6 3), .int (u 6 4), .int (u 6 5), .int (u 6 6), .int (u 6 7), .int (u 6 8), .int (u 6 9)].set 6 (.int x)))) H) : va_P D vwCl (wM cI q (bput u 6 2 x)) H := h
theorem pM_f3 {D : va_G} {cI : ClassId} {q : Nat → Nat} {u : bU} {H : Heap} {x : Int32} (h : va_P D vwCl ((wM cI q u).set 0 (q 0, .inr (6, [.ref (q 1), .ref (q 2), .ref (q 3), .int (u 6 0), .ref (q 4), .int (u 6 1), .int (u 6 2), .ref (q 5), .ref (q 6), .int (u 6 3), .int (u 6 4), .int (u 6 5), .int (u 6 6), .int (u 6 7), .int (u 6 8), .int (u 6 9)].set 9 (.int x)))) H) : va_P D vwCl (wM cI q (bput u 6 3 x)) H := h
theorem pM_f4 {D : va_G} {cI : ClassId} {q : Nat → Nat} {u : bU} {H : Heap} {x : Int32} (h : va_P D vwCl ((wM cI q u).set 0 (q 0, .inr (6, [.ref (q 1), .ref (q 2), .ref (q 3), .int (u 6 0), .ref (q 4), .int (u 6 1), .int (u 6 2), .ref (q 5), .ref (q 6), .int (u 6 3), .int (u 6 4), .int (u 6 5), .int (u 6 6), .int (u 6 7), .int (u 6 8), .int (u 6 9)].set 10 (.int x)))) H) : va_P D vwCl (wM cI q (bput u 6 4 x)) H := h
theorem pM_f5 {D : va_G} {cI : ClassId} {q : Nat → Nat} {u : bU} {H : Heap} {x : Int32} (h : va_P D vwCl ((wM cI q u).set 0 (q 0, .inr (6, [.ref (q 1), .ref (q 2), .ref (q 3), .int (u 6 0), .ref (q 4), .int (u 6 1), .int (u 6 2), .ref (q 5), .ref (q 6), .int (u 6 3), .int (u 6 4), .int (u 6 5), .int (u 6 6), .int (u 6 7), .int (u 6 8), .int (u 6 9)].set 11 (.int x)))) H) : va_P D vwCl (wM cI q (bput u 6 5 x)) H := h
theorem pM_f6 {D : va_G} {cI : ClassId} {q : Nat → Nat} {u : bU} {H : Heap} {x : Int32} (h : va_P D vwCl ((wM cI q u).set 0 (q 0, .inr (6, [.ref (q 1), .ref (q 2), .ref (q 3), .int (u 6 0), .ref (q 4), .int (u 6 1), .int (u 6 2), .ref (q 5), .ref (q 6), .int (u 6 3), .int (u 6 4), .int (u 6 5), .int (u 6 6), .int (u 6 7), .int (u 6 8), .int (u 6 9)].set 12 (.int x)))) H) : va_P D vwCl (wM cI q (bput u 6 6 x)) H := h
theorem pM_f7 {D : va_G} {cI : ClassId} {q : Nat → Nat} {u : bU} {H : Heap} {x : Int32} (h : va_P D vwCl ((wM cI q u).set 0 (q 0, .inr (6, [.ref (q 1), .ref (q 2), .ref (q 3), .int (u 6 0), .ref (q 4), .int (u 6 1), .int (u 6 2), .ref (q 5), .ref (q 6), .int (u 6 3), .int (u 6 4), .int (u 6 5), .int (u 6 6), .int (u 6 7), .int (u 6 8), .int (u 6 9)].set 13 (.int x)))) H) : va_P D vwCl (wM cI q (bput u 6 7 x)) H := h
theorem pM_f8 {D : va_G} {cI : ClassId} {q : Nat → Nat} {u : bU} {H : Heap} {x : Int32} (h : va_P D vwCl ((wM cI q u).set 0 (q 0, .inr (6, [.ref (q 1), .ref (q 2), .ref (q 3), .int (u 6 0), .ref (q 4), .int (u 6 1), .int (u 6 2), .ref (q 5), .ref (q 6), .int (u 6 3), .int (u 6 4), .int (u 6 5), .int (u 6 6), .int (u 6 7), .int (u 6 8), .int (u 6 9)].set 14 (.int x)))) H) : va_P D vwCl (wM cI q (bput u 6 8 x)) H := h
theorem pM_f9 {D : va_G} {cI : ClassId} {q : Nat → Nat} {u : bU} {H : Heap} {x : Int32} (h : va_P D vwCl ((wM cI q u).set 0 (q 0, .inr (6, [.ref (q 1), .ref (q 2), .ref (q 3), .int (u 6 0), .ref (q 4), .int (u 6 1), .int (u 6 2), .ref (q 5), .ref (q 6), .int (u 6 3), .int (u 6 4), .int (u 6 5), .int (u 6 6), .int (u 6 7), .int (u 6 8), .int (u 6 9)].set 15 (.int x)))) H) : va_P D vwCl (wM cI q (bput u 6 9 x)) H := h

def F6_in (a1 : Int32) (a2 : Int32) (a3 : Int32) : Int32 := (if a1 < a2 then 0 else (if a3 < a1 then 0 else 1))
set_option maxHeartbeats 4000000 in
set_option maxRecDepth 100000 in
theorem C6_in (l : Launch) (D : va_G) (cI : ClassId) (q : Nat → Nat) (H0 : Heap) (a1 : Int32) (a2 : Int32) (a3 : Int32) : Met l yX6_in wsX6_in ({ frames := 0, cells := 0, slots := 0, locals := 0 }) (bP D [(cI, .int)] H0 [.int a1, .int a2, .int a3]) (bRi H0 (F6_in a1 a2 a3)) 0 0 (fun _ => False) := by
  refine Met.ofW (cc := cX6_in) (maxL := 3) (ret := (some .boolean)) (by decide) rfl ?_
  intro p e s m args below meth c s₁ B hml hv
  obtain ⟨rfl, hH, hk⟩ := hv
  subst hH
  have hx := B.exec
  have hb := B.bytes
  have hr := B.returns
  have hts := atoms_spec (ws := wsX6_in) B.pre
  have hown : s.vm.findClass RX6 = some m.cls := findClass_of_methodNamed B.named
  have hlocks := B.notSynchronized
  have hS : va_S (fun _ => False) s.heap s.heap [] := va_S.rf
  have hl := lv_entry ([.int a1, .int a2, .int a3]) (n := 3) (Nat.le_of_ble_eq_true rfl)
  rw [lg_entry_eq]
  generalize (lg_sl ([.int a1, .int a2, .int a3]) ++ List.replicate (3 - (lg_sl ([.int a1, .int a2, .int a3])).length) Slot.unset).toArray = ls at hl ⊢
  have hl : lv_has ls 3 [(0, .int a1), (1, .int a2), (2, .int a3)] := hl
  generalize hF : F6_in a1 a2 a3 = tgt
  refine lv_iload_n hx hb dX6_in_0 rfl (lv_at hl 0 rfl) ?_
  refine lv_iload_n hx hb dX6_in_1 rfl (lv_at hl 1 rfl) ?_
  refine lv_icmp_lt (tgt := 14) hx hb dX6_in_2 (by decide) (fun c_1 => ?_) (fun c_1 => ?_)
  · refine lv_iconst (v := 0) hx hb dX6_in_14 (by decide) ?_
    exact bret_Rz hx hb hr hS hlocks dX6_in_15 (Or.inl rfl) (by rw [← hF, F6_in, if_pos c_1])
  · refine lv_iload_n hx hb dX6_in_5 rfl (lv_at hl 0 rfl) ?_
    refine lv_iload_n hx hb dX6_in_6 rfl (lv_at hl 2 rfl) ?_
    refine lv_icmp_gt (tgt := 14) hx hb dX6_in_7 (by decide) (fun c_2 => ?_) (fun c_2 => ?_)
    · refine lv_iconst (v := 0) hx hb dX6_in_14 (by decide) ?_
      exact bret_Rz hx hb hr hS hlocks dX6_in_15 (Or.inl rfl) (by rw [← hF, F6_in, if_neg c_1, if_pos c_2])
    · refine lv_iconst (v := 1) hx hb dX6_in_10 (by decide) ?_
      refine lv_goto (tgt := 15) hx hb dX6_in_11 (by decide) ?_
      exact bret_Rz hx hb hr hS hlocks dX6_in_15 (Or.inr rfl) (by rw [← hF, F6_in, if_neg c_1, if_neg c_2])
theorem B6_in (a1 : Int32) (a2 : Int32) (a3 : Int32) : (F6_in a1 a2 a3) = 0 ∨ (F6_in a1 a2 a3) = 1 := by
  unfold F6_in
  (repeat' split) <;> first | exact Or.inl rfl | exact Or.inr rfl
def F6_brandAt (a1 : Int32) (a2 : Int32) : Int32 := ((13 + (10 * a1)) + a2)
set_option maxHeartbeats 4000000 in
set_option maxRecDepth 100000 in
theorem C6_brandAt (l : Launch) (D : va_G) (cI : ClassId) (q : Nat → Nat) (H0 : Heap) (a1 : Int32) (a2 : Int32) : Met l yX6_brandAt wsX6_brandAt ({ frames := 0, cells := 0, slots := 0, locals := 0 }) (bP D [(cI, .int)] H0 [.int a1, .int a2]) (bRi H0 (F6_brandAt a1 a2)) 0 0 (fun _ => False) := by
  refine Met.ofW (cc := cX6_brandAt) (maxL := 2) (ret := (some .int)) (by decide) rfl ?_
  intro p e s m args below meth c s₁ B hml hv
  obtain ⟨rfl, hH, hk⟩ := hv
  subst hH
  have hx := B.exec
  have hb := B.bytes
  have hr := B.returns
  have hts := atoms_spec (ws := wsX6_brandAt) B.pre
  have hown : s.vm.findClass RX6 = some m.cls := findClass_of_methodNamed B.named
  have hlocks := B.notSynchronized
  have hS : va_S (fun _ => False) s.heap s.heap [] := va_S.rf
  have hl := lv_entry ([.int a1, .int a2]) (n := 2) (Nat.le_of_ble_eq_true rfl)
  rw [lg_entry_eq]
  generalize (lg_sl ([.int a1, .int a2]) ++ List.replicate (2 - (lg_sl ([.int a1, .int a2])).length) Slot.unset).toArray = ls at hl ⊢
  have hl : lv_has ls 2 [(0, .int a1), (1, .int a2)] := hl
  generalize hF : F6_brandAt a1 a2 = tgt
  refine lv_bipush (v := 13) hx hb dX6_brandAt_0 (by decide) ?_
  refine lv_bipush (v := 10) hx hb dX6_brandAt_2 (by decide) ?_
  refine lv_iload_n hx hb dX6_brandAt_4 rfl (lv_at hl 0 rfl) ?_
  refine lv_imul hx hb dX6_brandAt_5 ?_
  refine lv_iadd hx hb dX6_brandAt_6 ?_
  refine lv_iload_n hx hb dX6_brandAt_7 rfl (lv_at hl 1 rfl) ?_
  refine lv_iadd hx hb dX6_brandAt_8 ?_
  exact bret_Ri hx hb hr hS hlocks dX6_brandAt_9 (by rw [← hF, F6_brandAt])
def F6_shopAt (a1 : Int32) (a2 : Int32) : Int32 := ((93 + (21 * a1)) + a2)
set_option maxHeartbeats 4000000 in
set_option maxRecDepth 100000 in
theorem C6_shopAt (l : Launch) (D : va_G) (cI : ClassId) (q : Nat → Nat) (H0 : Heap) (a1 : Int32) (a2 : Int32) : Met l yX6_shopAt wsX6_shopAt ({ frames := 0, cells := 0, slots := 0, locals := 0 }) (bP D [(cI, .int)] H0 [.int a1, .int a2]) (bRi H0 (F6_shopAt a1 a2)) 0 0 (fun _ => False) := by
  refine Met.ofW (cc := cX6_shopAt) (maxL := 2) (ret := (some .int)) (by decide) rfl ?_
  intro p e s m args below meth c s₁ B hml hv
  obtain ⟨rfl, hH, hk⟩ := hv
  subst hH
  have hx := B.exec
  have hb := B.bytes
  have hr := B.returns
  have hts := atoms_spec (ws := wsX6_shopAt) B.pre
  have hown : s.vm.findClass RX6 = some m.cls := findClass_of_methodNamed B.named
  have hlocks := B.notSynchronized
  have hS : va_S (fun _ => False) s.heap s.heap [] := va_S.rf
  have hl := lv_entry ([.int a1, .int a2]) (n := 2) (Nat.le_of_ble_eq_true rfl)
  rw [lg_entry_eq]
  generalize (lg_sl ([.int a1, .int a2]) ++ List.replicate (2 - (lg_sl ([.int a1, .int a2])).length) Slot.unset).toArray = ls at hl ⊢
  have hl : lv_has ls 2 [(0, .int a1), (1, .int a2)] := hl
  generalize hF : F6_shopAt a1 a2 = tgt
  refine lv_bipush (v := 93) hx hb dX6_shopAt_0 (by decide) ?_
  refine lv_bipush (v := 21) hx hb dX6_shopAt_2 (by decide) ?_
  refine lv_iload_n hx hb dX6_shopAt_4 rfl (lv_at hl 0 rfl) ?_
  refine lv_imul hx hb dX6_shopAt_5 ?_
  refine lv_iadd hx hb dX6_shopAt_6 ?_
  refine lv_iload_n hx hb dX6_shopAt_7 rfl (lv_at hl 1 rfl) ?_
  refine lv_iadd hx hb dX6_shopAt_8 ?_
  exact bret_Ri hx hb hr hS hlocks dX6_shopAt_9 (by rw [← hF, F6_shopAt])
def F6_least (a1 : Int32) (a2 : Int32) : Int32 := (if a2 ≤ a1 then a2 else a1)
set_option maxHeartbeats 4000000 in
set_option maxRecDepth 100000 in
theorem C6_least (l : Launch) (D : va_G) (cI : ClassId) (q : Nat → Nat) (H0 : Heap) (a1 : Int32) (a2 : Int32) : Met l yX6_least wsX6_least ({ frames := 0, cells := 0, slots := 0, locals := 0 }) (bP D [(cI, .int)] H0 [.int a1, .int a2]) (bRi H0 (F6_least a1 a2)) 0 0 (fun _ => False) := by
  refine Met.ofW (cc := cX6_least) (maxL := 2) (ret := (some .int)) (by decide) rfl ?_
  intro p e s m args below meth c s₁ B hml hv
  obtain ⟨rfl, hH, hk⟩ := hv
  subst hH
  have hx := B.exec
  have hb := B.bytes
  have hr := B.returns
  have hts := atoms_spec (ws := wsX6_least) B.pre
  have hown : s.vm.findClass RX6 = some m.cls := findClass_of_methodNamed B.named
  have hlocks := B.notSynchronized
  have hS : va_S (fun _ => False) s.heap s.heap [] := va_S.rf
  have hl := lv_entry ([.int a1, .int a2]) (n := 2) (Nat.le_of_ble_eq_true rfl)
  rw [lg_entry_eq]
  generalize (lg_sl ([.int a1, .int a2]) ++ List.replicate (2 - (lg_sl ([.int a1, .int a2])).length) Slot.unset).toArray = ls at hl ⊢
  have hl : lv_has ls 2 [(0, .int a1), (1, .int a2)] := hl
  generalize hF : F6_least a1 a2 = tgt
  refine lv_iload_n hx hb dX6_least_0 rfl (lv_at hl 0 rfl) ?_
  refine lv_iload_n hx hb dX6_least_1 rfl (lv_at hl 1 rfl) ?_
  refine lv_icmp_ge (tgt := 9) hx hb dX6_least_2 (by decide) (fun c_1 => ?_) (fun c_1 => ?_)
  · refine lv_iload_n hx hb dX6_least_9 rfl (lv_at hl 1 rfl) ?_
    exact bret_Ri hx hb hr hS hlocks dX6_least_10 (by rw [← hF, F6_least, if_pos c_1])
  · refine lv_iload_n hx hb dX6_least_5 rfl (lv_at hl 0 rfl) ?_
    refine lv_goto (tgt := 10) hx hb dX6_least_6 (by decide) ?_
    exact bret_Ri hx hb hr hS hlocks dX6_least_10 (by rw [← hF, F6_least, if_neg c_1])

theorem brandAt_nI (b w : Nat) : F6_brandAt (nI b) (nI w) = nI (13 + 10 * b + w) := by
  show (nI 13 + nI 10 * nI b) + nI w = _
  rw [pk_mul, nI_add, nI_add]
theorem shopAt_nI (s w : Nat) : F6_shopAt (nI s) (nI w) = nI (93 + 21 * s + w) := by
  show (nI 93 + nI 21 * nI s) + nI w = _
  rw [pk_mul, nI_add, nI_add]
theorem mXB {x : Int32} {w : Nat} (h : mB x) (hw : w < 10) : vp_in (F6_brandAt x (nI w)) 283 := by
  obtain ⟨j, hj, rfl⟩ := h
  rw [brandAt_nI]
  exact vp_in_nI (by omega) (by decide)
theorem mXS {x : Int32} {w : Nat} (h : mS x) (hw : w < 21) : vp_in (F6_shopAt x (nI w)) 283 := by
  obtain ⟨j, hj, rfl⟩ := h
  rw [shopAt_nI]
  exact vp_in_nI (by omega) (by decide)
theorem mXS2 {x y : Int32} {w : Nat} (h : mS x) (hy : mB y) (hw : w ≤ 13) : vp_in (F6_shopAt x (nI w + y)) 283 := by
  obtain ⟨j, hj, rfl⟩ := h
  obtain ⟨b, hb, rfl⟩ := hy
  rw [nI_add, shopAt_nI]
  exact vp_in_nI (by omega) (by decide)
theorem mXBw {x y : Int32} {n : Nat} (h : mB x) (hy : ∃ w : Nat, w < n ∧ y = nI w) (hn : n ≤ 10) : vp_in (F6_brandAt x y) 283 := by
  obtain ⟨w, hw, rfl⟩ := hy
  exact mXB h (by omega)
theorem mXSw {x y : Int32} (h : mS x) (hy : ∃ w : Nat, w < 21 ∧ y = nI w) : vp_in (F6_shopAt x y) 283 := by
  obtain ⟨w, hw, rfl⟩ := hy
  exact mXS h hw
theorem mX7 {x : Int32} (h : mK x) : vp_in (7 + x) 283 := by
  obtain ⟨j, hj, rfl⟩ := h
  show vp_in (nI 7 + nI j) 283
  rw [nI_add]
  exact vp_in_nI (by omega) (by decide)
theorem mX7n {j : Nat} (h : j < 6) : vp_in (7 + nI j) 283 := by
  show vp_in (nI 7 + nI j) 283
  rw [nI_add]
  exact vp_in_nI (by omega) (by decide)
theorem mXG {x y : Int32} (h : mB x) (hy : mB y) : vp_in ((219 + (8 * x)) + y) 283 := by
  obtain ⟨j, hj, rfl⟩ := h
  obtain ⟨b, hb, rfl⟩ := hy
  show vp_in ((nI 219 + nI 8 * nI j) + nI b) 283
  rw [pk_mul, nI_add, nI_add]
  exact vp_in_nI (by omega) (by decide)
theorem mIn_iff {x lo hi : Int32} : ¬ F6_in x lo hi = 0 ↔ lo ≤ x ∧ x ≤ hi := by
  unfold F6_in
  have h1 := iLt x lo
  have h2 := iLt hi x
  have h3 := iLe lo x
  have h4 := iLe x hi
  (repeat' split) <;> simp_all <;> omega
theorem mIn_nat {x : Int32} {n : Nat} (h : ¬ F6_in x 0 (nI n) = 0) (hn : n < 2 ^ 31) : ∃ j : Nat, j ≤ n ∧ x = nI j := by
  obtain ⟨a, b⟩ := mIn_iff.mp h
  rw [iLe, i0] at a
  rw [iLe, nI_toInt hn] at b
  exact ⟨x.toInt.toNat, by omega, iOf (by omega)⟩
theorem mIn_cnt {x : Int32} {n : Nat} (h : ¬ F6_in x 0 (nI n - 1) = 0) (hn : n < 2 ^ 30) : ∃ j : Nat, j < n ∧ x = nI j := by
  obtain ⟨a, b⟩ := mIn_iff.mp h
  rw [iLe, i0] at a
  rw [iLe, iSub (by rw [nI_toInt (by omega), i1]; omega) (by rw [nI_toInt (by omega), i1]; omega), nI_toInt (by omega), i1] at b
  exact ⟨x.toInt.toNat, by omega, iOf (by omega)⟩
theorem mK_in {x : Int32} (h : ¬ F6_in x 0 2 = 0) : mK x := by
  obtain ⟨j, hj, e⟩ := mIn_nat (n := 2) h (by decide)
  exact ⟨j, by omega, e⟩
theorem mX6 {x : Int32} (h : ¬ F6_in x 0 5 = 0) : vp_in x 6 := by
  obtain ⟨j, hj, rfl⟩ := mIn_nat (n := 5) h (by decide)
  exact vp_in_nI (by omega) (by decide)
theorem mX7s {x : Int32} (h : ¬ F6_in x 0 5 = 0) : vp_in (7 + x) 283 := by
  obtain ⟨j, hj, rfl⟩ := mIn_nat (n := 5) h (by decide)
  exact mX7n (by omega)
theorem mInv_B {u : bU} {x y : Int32} {w : Nat} (hI : mInv u) (h : mB x) (h1 : 0 < w) (h2 : w < 10) : mInv (bput u 0 (F6_brandAt x (nI w)).toNatClampNeg y) := by
  obtain ⟨j, hj, rfl⟩ := h
  rw [brandAt_nI, mC (by omega)]
  exact mInv_v hI (mP_any (by omega) (by omega) (by omega) (fun b hb => by omega))
theorem mInv_B0 {u : bU} {x y : Int32} (hI : mInv u) (h : mB x) (hy : mK y) : mInv (bput u 0 (F6_brandAt x 0).toNatClampNeg y) := by
  obtain ⟨j, hj, rfl⟩ := h
  rw [show F6_brandAt (nI j) 0 = nI (13 + 10 * j + 0) from brandAt_nI j 0, mC (by omega)]
  exact mInv_v hI (mP_K hj hy)
theorem mInv_S {u : bU} {x y : Int32} {w : Nat} (hI : mInv u) (h : mS x) (hw : w < 21) : mInv (bput u 0 (F6_shopAt x (nI w)).toNatClampNeg y) := by
  obtain ⟨j, hj, rfl⟩ := h
  rw [shopAt_nI, mC (by omega)]
  exact mInv_v hI (mP_any (by omega) (by omega) (by omega) (fun b hb => by omega))
theorem mInv_S2 {u : bU} {x y z : Int32} {w : Nat} (hI : mInv u) (h : mS x) (hy : mB y) (hw : w ≤ 13) : mInv (bput u 0 (F6_shopAt x (nI w + y)).toNatClampNeg z) := by
  obtain ⟨b, hb, rfl⟩ := hy
  rw [nI_add]
  exact mInv_S hI h (by omega)
theorem mInv_G {u : bU} {x y z : Int32} (hI : mInv u) (h : mB x) (hy : mB y) : mInv (bput u 0 ((219 + (8 * x)) + y).toNatClampNeg z) := by
  obtain ⟨j, hj, rfl⟩ := h
  obtain ⟨b, hb, rfl⟩ := hy
  rw [show ((219 + (8 * nI j)) + nI b : Int32) = nI (219 + 8 * j + b) from by
    show ((nI 219 + (nI 8 * nI j)) + nI b) = _
    rw [pk_mul, nI_add, nI_add], mC (by omega)]
  exact mInv_v hI (mP_any (by omega) (by omega) (by omega) (fun c hc => by omega))
theorem mInv_7 {u : bU} {x y : Int32} (hI : mInv u) (h : ¬ F6_in x 0 5 = 0) (hy : x = 5 → ¬ y = 0) : mInv (bput u 0 (7 + x).toNatClampNeg y) := by
  obtain ⟨j, hj, rfl⟩ := mIn_nat (n := 5) h (by decide)
  rw [show (7 + nI j : Int32) = nI (7 + j) from nI_add 7 j, mC (by omega)]
  rcases Nat.lt_or_ge j 5 with q | q
  · exact mInv_v hI (mP_any (by omega) (by omega) (by omega) (fun c hc => by omega))
  · obtain rfl : j = 5 := by omega
    exact mInv_v hI (mP_12 (hy rfl))

theorem bd_X6brandAt : yX6_brandAt.cls ≠ "java/lang/invoke/MethodHandle" ∧ yX6_brandAt.cls ≠ "java/lang/invoke/VarHandle" ∧ (parseMethodDescriptor yX6_brandAt.desc).map (fun d => d.parameters.length) = some 2 := by decide +kernel
theorem bd_X6in : yX6_in.cls ≠ "java/lang/invoke/MethodHandle" ∧ yX6_in.cls ≠ "java/lang/invoke/VarHandle" ∧ (parseMethodDescriptor yX6_in.desc).map (fun d => d.parameters.length) = some 3 := by decide +kernel
theorem bd_X6shopAt : yX6_shopAt.cls ≠ "java/lang/invoke/MethodHandle" ∧ yX6_shopAt.cls ≠ "java/lang/invoke/VarHandle" ∧ (parseMethodDescriptor yX6_shopAt.desc).map (fun d => d.parameters.length) = some 2 := by decide +kernel
def F6_isBrand (u : bU) (a1 : Int32) : Int32 := (F6_in a1 0 ((u 0 0) - 1))
set_option maxHeartbeats 4000000 in
set_option maxRecDepth 100000 in
theorem C6_isBrand (l : Launch) (D : va_G) (cI : ClassId) (q : Nat → Nat) (u : bU) (H0 : Heap) (hP : va_P D vwCl (wM cI q u) H0) (hI : mInv u) (a1 : Int32) : Met l yX6_isBrand wsX6_isBrand ({ frames := 1, cells := 0, slots := 0, locals := 22 }) (bP D [(cI, .int)] H0 [.ref (q 0), .int a1]) (bRi H0 (F6_isBrand u a1)) 0 0 (fun _ => False) := by
  refine Met.ofW (cc := cX6_isBrand) (maxL := 2) (ret := (some .boolean)) (by decide) rfl ?_
  intro p e s m args below meth c s₁ B hml hv
  obtain ⟨rfl, hH, hk⟩ := hv
  subst hH
  have hx := B.exec
  have hb := B.bytes
  have hr := B.returns
  have hts := atoms_spec (ws := wsX6_isBrand) B.pre
  have hown : s.vm.findClass RX6 = some m.cls := findClass_of_methodNamed B.named
  have hlocks := B.notSynchronized
  have hNB := mNB hI
  have hNS := mNS hI
  have hI0 := hI
  have iX6 : ∀ w ∈ wsX60, w ∈ wsX6_isBrand := by decide +kernel
  have hS : va_S (fun _ => False) s.heap s.heap [] := va_S.rf
  have hl := lv_entry ([.ref (q 0), .int a1]) (n := 2) (Nat.le_of_ble_eq_true rfl)
  rw [lg_entry_eq]
  generalize (lg_sl ([.ref (q 0), .int a1]) ++ List.replicate (2 - (lg_sl ([.ref (q 0), .int a1])).length) Slot.unset).toArray = ls at hl ⊢
  have hl : lv_has ls 2 [(0, .ref (q 0)), (1, .int a1)] := hl
  generalize hF : F6_isBrand u a1 = tgt
  refine lv_iload_n hx hb dX6_isBrand_0 rfl (lv_at hl 1 rfl) ?_
  refine lv_iconst (v := 0) hx hb dX6_isBrand_1 (by decide) ?_
  refine lv_aload_n hx hb dX6_isBrand_2 rfl (lv_at hl 0 rfl) ?_
  refine va_get (D := D) (ci := 6) (C := RX6) (T := TX6) (N := 16) hx hb hts iX6 hown hk.1 hP 0 (wM_0 _ _ _) rfl 0 (by decide) (hts (.fieldLink RX6 7 "BottleLoopModel" "v" "[I") (List.mem_of_getElem? (i := 1) rfl)) (fun _ h9 => h9) rfl dX6_isBrand_3 ?_
  refine lv_iconst (v := 0) hx hb dX6_isBrand_6 (by decide) ?_
  refine va_iald hx hb hk.1 hP 1 0 (wM_1 _ _ _) rfl (vp_in_nI (n := 0) (by decide) (by decide)) dX6_isBrand_7 ?_
  refine lv_topi (fun z9 hz9 => ?_)
  obtain rfl : z9 = (u 0 0) := hz9.trans rfl
  refine lv_iconst (v := 1) hx hb dX6_isBrand_8 (by decide) ?_
  refine lv_isub hx hb dX6_isBrand_9 ?_
  refine bcall_Ri (va_runS (As := [.int a1, .int 0, .int ((u 0 0) - 1)]) (rest := []) ⟨hx, hb, hml, hown, hts⟩ (C6_in l D cI q _ a1 0 ((u 0 0) - 1)) (va_cwS 3 hts gX6_isBrand_X6_in rfl rfl rfl bd_X6in ⟨Nat.le_of_ble_eq_true rfl, Nat.le_of_ble_eq_true rfl⟩) (bPS hk) rfl rfl hl.1 rfl (lv_room (Nat.le_of_ble_eq_true rfl)) dX6_isBrand_10 ⟨Nat.zero_le _, Nat.zero_le _⟩) hS (fun locs hS => ?_)
  exact bret_Rz hx hb hr hS hlocks dX6_isBrand_13 (B6_in a1 0 ((u 0 0) - 1)) (by rw [← hF, F6_isBrand])
theorem B6_isBrand (u : bU) (a1 : Int32) : (F6_isBrand u a1) = 0 ∨ (F6_isBrand u a1) = 1 := by
  unfold F6_isBrand
  (repeat' split) <;> first | exact Or.inl rfl | exact Or.inr rfl | exact (B6_in a1 0 ((u 0 0) - 1))
def F6_isShop (u : bU) (a1 : Int32) : Int32 := (F6_in a1 0 ((u 0 1) - 1))
set_option maxHeartbeats 4000000 in
set_option maxRecDepth 100000 in
theorem C6_isShop (l : Launch) (D : va_G) (cI : ClassId) (q : Nat → Nat) (u : bU) (H0 : Heap) (hP : va_P D vwCl (wM cI q u) H0) (hI : mInv u) (a1 : Int32) : Met l yX6_isShop wsX6_isShop ({ frames := 1, cells := 0, slots := 0, locals := 22 }) (bP D [(cI, .int)] H0 [.ref (q 0), .int a1]) (bRi H0 (F6_isShop u a1)) 0 0 (fun _ => False) := by
  refine Met.ofW (cc := cX6_isShop) (maxL := 2) (ret := (some .boolean)) (by decide) rfl ?_
  intro p e s m args below meth c s₁ B hml hv
  obtain ⟨rfl, hH, hk⟩ := hv
  subst hH
  have hx := B.exec
  have hb := B.bytes
  have hr := B.returns
  have hts := atoms_spec (ws := wsX6_isShop) B.pre
  have hown : s.vm.findClass RX6 = some m.cls := findClass_of_methodNamed B.named
  have hlocks := B.notSynchronized
  have hNB := mNB hI
  have hNS := mNS hI
  have hI0 := hI
  have iX6 : ∀ w ∈ wsX60, w ∈ wsX6_isShop := by decide +kernel
  have hS : va_S (fun _ => False) s.heap s.heap [] := va_S.rf
  have hl := lv_entry ([.ref (q 0), .int a1]) (n := 2) (Nat.le_of_ble_eq_true rfl)
  rw [lg_entry_eq]
  generalize (lg_sl ([.ref (q 0), .int a1]) ++ List.replicate (2 - (lg_sl ([.ref (q 0), .int a1])).length) Slot.unset).toArray = ls at hl ⊢
  have hl : lv_has ls 2 [(0, .ref (q 0)), (1, .int a1)] := hl
  generalize hF : F6_isShop u a1 = tgt
  refine lv_iload_n hx hb dX6_isShop_0 rfl (lv_at hl 1 rfl) ?_
  refine lv_iconst (v := 0) hx hb dX6_isShop_1 (by decide) ?_
  refine lv_aload_n hx hb dX6_isShop_2 rfl (lv_at hl 0 rfl) ?_
  refine va_get (D := D) (ci := 6) (C := RX6) (T := TX6) (N := 16) hx hb hts iX6 hown hk.1 hP 0 (wM_0 _ _ _) rfl 0 (by decide) (hts (.fieldLink RX6 7 "BottleLoopModel" "v" "[I") (List.mem_of_getElem? (i := 1) rfl)) (fun _ h9 => h9) rfl dX6_isShop_3 ?_
  refine lv_iconst (v := 1) hx hb dX6_isShop_6 (by decide) ?_
  refine va_iald hx hb hk.1 hP 1 0 (wM_1 _ _ _) rfl (vp_in_nI (n := 1) (by decide) (by decide)) dX6_isShop_7 ?_
  refine lv_topi (fun z9 hz9 => ?_)
  obtain rfl : z9 = (u 0 1) := hz9.trans rfl
  refine lv_iconst (v := 1) hx hb dX6_isShop_8 (by decide) ?_
  refine lv_isub hx hb dX6_isShop_9 ?_
  refine bcall_Ri (va_runS (As := [.int a1, .int 0, .int ((u 0 1) - 1)]) (rest := []) ⟨hx, hb, hml, hown, hts⟩ (C6_in l D cI q _ a1 0 ((u 0 1) - 1)) (va_cwS 3 hts gX6_isShop_X6_in rfl rfl rfl bd_X6in ⟨Nat.le_of_ble_eq_true rfl, Nat.le_of_ble_eq_true rfl⟩) (bPS hk) rfl rfl hl.1 rfl (lv_room (Nat.le_of_ble_eq_true rfl)) dX6_isShop_10 ⟨Nat.zero_le _, Nat.zero_le _⟩) hS (fun locs hS => ?_)
  exact bret_Rz hx hb hr hS hlocks dX6_isShop_13 (B6_in a1 0 ((u 0 1) - 1)) (by rw [← hF, F6_isShop])
theorem B6_isShop (u : bU) (a1 : Int32) : (F6_isShop u a1) = 0 ∨ (F6_isShop u a1) = 1 := by
  unfold F6_isShop
  (repeat' split) <;> first | exact Or.inl rfl | exact Or.inr rfl | exact (B6_in a1 0 ((u 0 1) - 1))
def F6_of (u : bU) (a1 : Int32) (a2 : Int32) : Int32 := (u 0 (F6_brandAt a1 a2).toNatClampNeg)
set_option maxHeartbeats 4000000 in
set_option maxRecDepth 100000 in
theorem C6_of (l : Launch) (D : va_G) (cI : ClassId) (q : Nat → Nat) (u : bU) (H0 : Heap) (hP : va_P D vwCl (wM cI q u) H0) (hI : mInv u) (a1 : Int32) (a2 : Int32) (h_x : vp_in (F6_brandAt a1 a2) 283) : Met l yX6_of wsX6_of ({ frames := 1, cells := 0, slots := 0, locals := 21 }) (bP D [(cI, .int)] H0 [.ref (q 0), .int a1, .int a2]) (bRi H0 (F6_of u a1 a2)) 0 0 (fun _ => False) := by
  refine Met.ofW (cc := cX6_of) (maxL := 3) (ret := (some .int)) (by decide) rfl ?_
  intro p e s m args below meth c s₁ B hml hv
  obtain ⟨rfl, hH, hk⟩ := hv
  subst hH
  have hx := B.exec
  have hb := B.bytes
  have hr := B.returns
  have hts := atoms_spec (ws := wsX6_of) B.pre
  have hown : s.vm.findClass RX6 = some m.cls := findClass_of_methodNamed B.named
  have hlocks := B.notSynchronized
  have hNB := mNB hI
  have hNS := mNS hI
  have hI0 := hI
  have iX6 : ∀ w ∈ wsX60, w ∈ wsX6_of := by decide +kernel
  have hS : va_S (fun _ => False) s.heap s.heap [] := va_S.rf
  have hl := lv_entry ([.ref (q 0), .int a1, .int a2]) (n := 3) (Nat.le_of_ble_eq_true rfl)
  rw [lg_entry_eq]
  generalize (lg_sl ([.ref (q 0), .int a1, .int a2]) ++ List.replicate (3 - (lg_sl ([.ref (q 0), .int a1, .int a2])).length) Slot.unset).toArray = ls at hl ⊢
  have hl : lv_has ls 3 [(0, .ref (q 0)), (1, .int a1), (2, .int a2)] := hl
  generalize hF : F6_of u a1 a2 = tgt
  refine lv_aload_n hx hb dX6_of_0 rfl (lv_at hl 0 rfl) ?_
  refine va_get (D := D) (ci := 6) (C := RX6) (T := TX6) (N := 16) hx hb hts iX6 hown hk.1 hP 0 (wM_0 _ _ _) rfl 0 (by decide) (hts (.fieldLink RX6 7 "BottleLoopModel" "v" "[I") (List.mem_of_getElem? (i := 1) rfl)) (fun _ h9 => h9) rfl dX6_of_1 ?_
  refine lv_iload_n hx hb dX6_of_4 rfl (lv_at hl 1 rfl) ?_
  refine lv_iload_n hx hb dX6_of_5 rfl (lv_at hl 2 rfl) ?_
  refine bcall_Ri (va_runS (As := [.int a1, .int a2]) (rest := [.ref (q 1)]) ⟨hx, hb, hml, hown, hts⟩ (C6_brandAt l D cI q _ a1 a2) (va_cwS 2 hts gX6_of_X6_brandAt rfl rfl rfl bd_X6brandAt ⟨Nat.le_of_ble_eq_true rfl, Nat.le_of_ble_eq_true rfl⟩) (bPS hk) rfl rfl hl.1 rfl (lv_room (Nat.le_of_ble_eq_true rfl)) dX6_of_6 ⟨Nat.zero_le _, Nat.zero_le _⟩) hS (fun locs hS => ?_)
  refine va_iald hx hb hk.1 hP 1 0 (wM_1 _ _ _) rfl h_x dX6_of_9 ?_
  exact bret_Ri hx hb hr hS hlocks dX6_of_10 (by rw [← hF, F6_of])
def F6_ofShop (u : bU) (a1 : Int32) (a2 : Int32) : Int32 := (u 0 (F6_shopAt a1 a2).toNatClampNeg)
set_option maxHeartbeats 4000000 in
set_option maxRecDepth 100000 in
theorem C6_ofShop (l : Launch) (D : va_G) (cI : ClassId) (q : Nat → Nat) (u : bU) (H0 : Heap) (hP : va_P D vwCl (wM cI q u) H0) (hI : mInv u) (a1 : Int32) (a2 : Int32) (h_x : vp_in (F6_shopAt a1 a2) 283) : Met l yX6_ofShop wsX6_ofShop ({ frames := 1, cells := 0, slots := 0, locals := 21 }) (bP D [(cI, .int)] H0 [.ref (q 0), .int a1, .int a2]) (bRi H0 (F6_ofShop u a1 a2)) 0 0 (fun _ => False) := by
  refine Met.ofW (cc := cX6_ofShop) (maxL := 3) (ret := (some .int)) (by decide) rfl ?_
  intro p e s m args below meth c s₁ B hml hv
  obtain ⟨rfl, hH, hk⟩ := hv
  subst hH
  have hx := B.exec
  have hb := B.bytes
  have hr := B.returns
  have hts := atoms_spec (ws := wsX6_ofShop) B.pre
  have hown : s.vm.findClass RX6 = some m.cls := findClass_of_methodNamed B.named
  have hlocks := B.notSynchronized
  have hNB := mNB hI
  have hNS := mNS hI
  have hI0 := hI
  have iX6 : ∀ w ∈ wsX60, w ∈ wsX6_ofShop := by decide +kernel
  have hS : va_S (fun _ => False) s.heap s.heap [] := va_S.rf
  have hl := lv_entry ([.ref (q 0), .int a1, .int a2]) (n := 3) (Nat.le_of_ble_eq_true rfl)
  rw [lg_entry_eq]
  generalize (lg_sl ([.ref (q 0), .int a1, .int a2]) ++ List.replicate (3 - (lg_sl ([.ref (q 0), .int a1, .int a2])).length) Slot.unset).toArray = ls at hl ⊢
  have hl : lv_has ls 3 [(0, .ref (q 0)), (1, .int a1), (2, .int a2)] := hl
  generalize hF : F6_ofShop u a1 a2 = tgt
  refine lv_aload_n hx hb dX6_ofShop_0 rfl (lv_at hl 0 rfl) ?_
  refine va_get (D := D) (ci := 6) (C := RX6) (T := TX6) (N := 16) hx hb hts iX6 hown hk.1 hP 0 (wM_0 _ _ _) rfl 0 (by decide) (hts (.fieldLink RX6 7 "BottleLoopModel" "v" "[I") (List.mem_of_getElem? (i := 1) rfl)) (fun _ h9 => h9) rfl dX6_ofShop_1 ?_
  refine lv_iload_n hx hb dX6_ofShop_4 rfl (lv_at hl 1 rfl) ?_
  refine lv_iload_n hx hb dX6_ofShop_5 rfl (lv_at hl 2 rfl) ?_
  refine bcall_Ri (va_runS (As := [.int a1, .int a2]) (rest := [.ref (q 1)]) ⟨hx, hb, hml, hown, hts⟩ (C6_shopAt l D cI q _ a1 a2) (va_cwS 2 hts gX6_ofShop_X6_shopAt rfl rfl rfl bd_X6shopAt ⟨Nat.le_of_ble_eq_true rfl, Nat.le_of_ble_eq_true rfl⟩) (bPS hk) rfl rfl hl.1 rfl (lv_room (Nat.le_of_ble_eq_true rfl)) dX6_ofShop_6 ⟨Nat.zero_le _, Nat.zero_le _⟩) hS (fun locs hS => ?_)
  refine va_iald hx hb hk.1 hP 1 0 (wM_1 _ _ _) rfl h_x dX6_ofShop_9 ?_
  exact bret_Ri hx hb hr hS hlocks dX6_ofShop_10 (by rw [← hF, F6_ofShop])

theorem mW12_in {x : Int32} (h : ¬ F6_in x 0 11 = 0) : ∃ w : Nat, w < 12 ∧ x = nI w := by
  obtain ⟨j, hj, e⟩ := mIn_nat (n := 11) h (by decide)
  exact ⟨j, by omega, e⟩
theorem mW28_in {x : Int32} {lo hi : Nat} (h : ¬ F6_in x (nI lo) (nI hi) = 0) (h1 : hi < 28) (h2 : lo ≤ hi) : ∃ w : Nat, w < 28 ∧ x = nI w := by
  obtain ⟨a, b⟩ := mIn_iff.mp h
  rw [iLe, nI_toInt (by omega)] at a
  rw [iLe, nI_toInt (by omega)] at b
  exact ⟨x.toInt.toNat, by omega, iOf (by omega)⟩
theorem mXBm {x y : Int32} (h : mB x) (hy : ∃ w : Nat, w < 12 ∧ y = nI w) (c : (3 : Int32) ≤ y) : vp_in (F6_brandAt x (y - 2)) 283 := by
  obtain ⟨w, hw, rfl⟩ := hy
  have h3 : 3 ≤ w := by
    rcases Nat.lt_or_ge w 3 with q | q
    · exact absurd c (nI_ge (b := 3) q (by decide))
    · exact q
  rw [show (nI w - 2 : Int32) = nI (w - 2) from pk_sub (b := 2) (by omega)]
  exact mXB h (by omega)
theorem mXSr {x y : Int32} {w : Nat} (h : mS x) (hy : ∃ w : Nat, w < 28 ∧ y = nI w) (hw : w ≤ 13) : vp_in (F6_shopAt x (nI w + (y - y / 10 * 10))) 283 := by
  obtain ⟨v, hv, rfl⟩ := hy
  obtain ⟨j, hj, rfl⟩ := h
  rw [show (nI v - nI v / 10 * 10 : Int32) = nI (v % 10) from pk_rem (d := 10) (by omega) (by decide) (by decide), nI_add, shopAt_nI]
  exact vp_in_nI (by omega) (by decide)
theorem mXSc {x y : Int32} (h : mS x) (hy : ∃ w : Nat, w < 28 ∧ y = nI w) (c : y ≤ (9 : Int32)) : vp_in (F6_shopAt x y) 283 := by
  obtain ⟨w, hw, rfl⟩ := hy
  refine mXS h ?_
  rcases Nat.lt_or_ge 9 w with q | q
  · exact absurd c (nI_ge (a := 9) q (by omega))
  · omega
theorem mXSm {x y : Int32} (h : mS x) (hy : ∃ w : Nat, w < 28 ∧ y = nI w) (c : y ≤ (9 : Int32)) (c2 : (2 : Int32) ≤ y) : vp_in (F6_shopAt x (y - 2)) 283 := by
  obtain ⟨w, hw, rfl⟩ := hy
  have h3 : 2 ≤ w := by
    rcases Nat.lt_or_ge w 2 with q | q
    · exact absurd c2 (nI_ge (b := 2) q (by decide))
    · exact q
  have h9 : w ≤ 9 := by
    rcases Nat.lt_or_ge 9 w with q | q
    · exact absurd c (nI_ge (a := 9) q (by omega))
    · omega
  rw [show (nI w - 2 : Int32) = nI (w - 2) from pk_sub (b := 2) (by omega)]
  exact mXS h (by omega)
theorem mXSf {x y : Int32} {b : Nat} (h : mS x) (hy : ∃ w : Nat, w < 14 ∧ y = nI w) (hb : b < 8) : vp_in (F6_shopAt x (y + nI b)) 283 := by
  obtain ⟨w, hw, rfl⟩ := hy
  exact mXS2 h (mB_nI hb) (by omega)
theorem mNoDigit {a : Int32} (h : ¬ F6_in (-1) 0 a = 0) : False := by
  have := (mIn_iff.mp h).1
  exact absurd this (by decide)
theorem mKeep0 {u : bU} {x y : Int32} {w : Nat} (h : mB x) (hw : w < 10) : (bput u 0 (F6_brandAt x (nI w)).toNatClampNeg y) 0 0 = u 0 0 := by
  obtain ⟨j, hj, rfl⟩ := h
  rw [brandAt_nI, mC (by omega)]
  have : (0 : Nat) ≠ 13 + 10 * j + w := by omega
  simp [bput, bs, upd, this]
theorem mB0_keep {u : bU} {x y : Int32} {w : Nat} (h0 : mB (u 0 0)) (h : mB x) (hw : w < 10) : mB ((bput u 0 (F6_brandAt x (nI w)).toNatClampNeg y) 0 0) := by
  rw [mKeep0 h hw]; exact h0
theorem mS0_keep {u : bU} {x y : Int32} {w : Nat} (h0 : mS (u 0 1)) (h : mS x) (hw : w < 21) : mS ((bput u 0 (F6_shopAt x (nI w)).toNatClampNeg y) 0 1) := by
  obtain ⟨j, hj, rfl⟩ := h
  rw [shopAt_nI, mC (by omega)]
  have e : (bput u 0 (93 + 21 * j + w) y) 0 1 = u 0 1 := by
    have : (1 : Nat) ≠ 93 + 21 * j + w := by omega
    simp [bput, bs, upd, this]
  rw [e]; exact h0
theorem mB_is {u : bU} {x : Int32} (hI : mInv u) (h : ¬ F6_isBrand u x = 0) : mB x := by
  obtain ⟨n, hn, e⟩ := (hI.1 0 (by decide)).1 rfl
  have h2 : ¬ F6_in x 0 (nI n - 1) = 0 := by rw [← e]; exact h
  obtain ⟨j, hj, e2⟩ := mIn_cnt h2 (by omega)
  exact ⟨j, by omega, e2⟩
theorem mS_is {u : bU} {x : Int32} (hI : mInv u) (h : ¬ F6_isShop u x = 0) : mS x := by
  obtain ⟨n, hn, e⟩ := (hI.1 1 (by decide)).2.1 rfl
  have h2 : ¬ F6_in x 0 (nI n - 1) = 0 := by rw [← e]; exact h
  obtain ⟨j, hj, e2⟩ := mIn_cnt h2 (by omega)
  exact ⟨j, by omega, e2⟩
theorem mK_of {u : bU} {x : Int32} (hI : mInv u) (h : mB x) : mK (F6_of u x 0) := by
  obtain ⟨j, hj, rfl⟩ := h
  have e : F6_of u (nI j) 0 = u 0 (13 + 10 * j) := by
    show u 0 (F6_brandAt (nI j) (nI 0)).toNatClampNeg = _
    rw [brandAt_nI, mC (by omega)]; rfl
  rw [e]
  exact (hI.1 (13 + 10 * j) (by omega)).2.2.2 j hj rfl


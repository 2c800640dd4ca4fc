-- the chain of orders; the class's errorAt and the reference's reads along it (own text)
theorem pFits_59 (r : Nat → Int32) : pFits r 59 = 0 := by
  have h1 : pDig 59 (pSec r) = 0 := by
    unfold pSec
    (repeat' split) <;> decide
  unfold pFits
  rw [if_neg (show ¬ (59 : Int32) = 100 by decide), if_neg (show ¬ (59 : Int32) = 115 by decide), if_neg (show ¬ (59 : Int32) = 114 by decide), if_neg (show ¬ (59 : Int32) = 98 by decide), if_neg (show ¬ (59 : Int32) = 99 by decide), show pDig 59 8 = 0 by decide, show pDig 59 6 = 0 by decide, if_neg (show ¬ (59 : Int32) = 62 by decide), if_neg (show ¬ (59 : Int32) = 58 by decide), h1, if_neg (show ¬ (59 : Int32) = 42 by decide)]
  simp only [ite_self]
theorem pk_59 (r : Nat → Int32) : pk r 59 = if r 0 = 5 then (pWhole r, pZ r) else (0, r) := by
  unfold pk
  rw [pFits_59]
  by_cases c : r 0 = 5
  · rw [if_pos c, if_pos c]; unfold pNum; rw [if_pos rfl]
  · rw [if_neg c, if_neg c, if_pos rfl]
theorem n20 {P : Prop} (h : (2 : Nat) = 0) : P := absurd h (by decide)
theorem n21 {P : Prop} (h : (2 : Nat) = 1) : P := absurd h (by decide)
theorem n01 {P : Prop} (h : (0 : Nat) = 1) : P := absurd h (by decide)
theorem n02 {P : Prop} (h : (0 : Nat) = 2) : P := absurd h (by decide)
theorem n10 {P : Prop} (h : (1 : Nat) = 0) : P := absurd h (by decide)
theorem n12 {P : Prop} (h : (1 : Nat) = 2) : P := absurd h (by decide)
theorem pWhole_01 (r : Nat → Int32) (h : pWhole r ≠ 0) : pWhole r = 1 := by
  unfold pWhole at h ⊢
  by_cases c : r 0 = 5
  · rw [if_pos c] at h ⊢
    by_cases d : r 4 ≤ 0
    · rw [if_pos d] at h; exact absurd rfl h
    · rw [if_neg d]
  · rw [if_neg c] at h; exact absurd rfl h
theorem pk_59' {r : Nat → Int32} (h : (pk r 59).1 ≠ 0) : r 0 = 5 ∧ pWhole r = 1 ∧ pk r 59 = (1, pZ r) := by
  rw [pk_59] at h ⊢
  by_cases c : r 0 = 5
  · rw [if_pos c] at h ⊢
    have := pWhole_01 r h
    exact ⟨c, this, by rw [this]⟩
  · rw [if_neg c] at h
    exact absurd rfl h
/-- where reading one order may stop -/
def trP (c : Nat → Int32) (L i : Nat) (T : Nat × Nat × (Nat → Int32)) : Prop := (T.1 = 0 ∧ i ≤ T.2.1 ∧ T.2.1 < L) ∨ (T.1 = 1 ∧ i ≤ T.2.1 ∧ T.2.1 < L ∧ c T.2.1 = 59 ∧ (pk T.2.2 59).1 ≠ 0) ∨ (T.1 = 2 ∧ T.2.1 = L)
theorem trP_on {c : Nat → Int32} {L i : Nat} {T : Nat × Nat × (Nat → Int32)} (h : trP c L (i + 1) T) : trP c L i T := by
  rcases h with ⟨h1, h2, h3⟩ | ⟨h1, h2, h3, h4⟩ | h
  · exact Or.inl ⟨h1, by omega, h3⟩
  · exact Or.inr (Or.inl ⟨h1, by omega, h3, h4⟩)
  · exact Or.inr (Or.inr h)
theorem tr_is {c : Nat → Int32} {L : Nat} : ∀ (m i : Nat) (r : Nat → Int32), i ≤ L → L < i + m → trP c L i (tr c L m r i) := by
  intro m
  induction m with
  | zero => intro i r h1 h2; omega
  | succ m ih =>
    intro i r h1 h2
    rw [tr]
    by_cases c1 : L ≤ i
    · rw [if_pos c1]; exact Or.inr (Or.inr ⟨rfl, by dsimp only; omega⟩)
    rw [if_neg c1]
    by_cases c2 : (pk r (c i)).1 = 0
    · rw [if_pos c2]; exact Or.inl ⟨rfl, Nat.le_refl _, by dsimp only; omega⟩
    rw [if_neg c2]
    by_cases c3 : c i = 59
    · rw [if_pos c3]; exact Or.inr (Or.inl ⟨rfl, Nat.le_refl _, by dsimp only; omega, c3, by dsimp only; rw [← c3]; exact c2⟩)
    rw [if_neg c3]
    exact trP_on (ih (i + 1) _ (by omega) (by omega))
theorem tr_far {c : Nat → Int32} {L m i : Nat} {r : Nat → Int32} (hi : i ≤ L) (hm : L < i + m) (r0 : r 0 ≠ 5) (h : (tr c L m r i).1 = 1) : i + 1 ≤ (tr c L m r i).2.1 := by
  obtain ⟨m, rfl⟩ : ∃ y, m = y + 1 := ⟨m - 1, by omega⟩
  rw [tr] at h ⊢
  by_cases c1 : L ≤ i
  · rw [if_pos c1] at h; exact n21 h
  rw [if_neg c1] at h ⊢
  by_cases c2 : (pk r (c i)).1 = 0
  · rw [if_pos c2] at h; exact n01 h
  rw [if_neg c2] at h ⊢
  by_cases c3 : c i = 59
  · rw [c3, pk_59, if_neg r0] at c2; exact absurd rfl c2
  rw [if_neg c3] at h ⊢
  have e := tr_is (c := c) (L := L) m (i + 1) (pk r (c i)).2 (by omega) (by omega)
  rcases e with ⟨e1, _⟩ | ⟨_, e2, _⟩ | ⟨e1, _⟩
  · rw [e1] at h; exact absurd h (by decide)
  · exact e2
  · rw [e1] at h; exact absurd h (by decide)
theorem c_code {u : bU} {L i : Nat} {c : Nat → Int32} (hL : L ≤ 60) (hi : i < L) (e : ∀ x : Nat, x < L → u 2 x = c x) : F3_codeAt u (nI i) = c i := by
  unfold F3_codeAt F5_entry
  rw [if_neg (nI_pos (by omega)), if_neg (show ¬ Int32.ofNat 60 ≤ nI i from nI_ge (b := 60) (by omega) (by decide)), mC (by omega)]
  exact e i hi
/-- the class's errorAt over one order -/
def erP (L n : Nat) (u : bU) (i : Nat) (T : Nat × Nat × (Nat → Int32)) : Prop := (T.1 = 0 → ∃ g : Nat → Int32, L3_errorAt_9 u n i = (nI T.2.1, bs u 9 g)) ∧ (T.1 = 2 → L3_errorAt_9 u n i = (nI L, bs u 9 T.2.2)) ∧ (T.1 = 1 → ∃ n' : Nat, L < T.2.1 + 1 + n' ∧ L3_errorAt_9 u n i = L3_errorAt_9 (bs u 9 (pZ T.2.2)) n' (T.2.1 + 1))
theorem er_scan {c : Nat → Int32} {L : Nat} (hL : L ≤ 60) : ∀ (m n i : Nat) (u : bU), i ≤ L → L < i + m → L < i + n → u 11 2 = nI L → (∀ x : Nat, x < L → u 2 x = c x) → erP L n u i (tr c L m (u 9) i) := by
  intro m
  induction m with
  | zero => intro n i u h1 h2; omega
  | succ m ih =>
    intro n i u h1 h2 h3 e1 e2
    obtain ⟨n, rfl⟩ : ∃ y, n = y + 1 := ⟨n - 1, by omega⟩
    unfold erP
    rw [tr, L3_errorAt_9, e1]
    by_cases c1 : L ≤ i
    · rw [if_pos c1, if_pos ((nI_is (by omega) (by omega)).2.1.mpr c1)]
      refine ⟨fun h => n20 h, fun _ => ?_, fun h => n21 h⟩
      dsimp only
      rw [bs_self]
    rw [if_neg c1, if_neg (fun p => c1 ((nI_is (by omega) (by omega)).2.1.mp p)), c_code hL (by omega) e2, p_takesT]
    dsimp only
    by_cases c2 : (pk (u 9) (c i)).1 = 0
    · rw [if_pos c2, if_pos c2]
      exact ⟨fun _ => ⟨_, rfl⟩, fun h => n02 h, fun h => n01 h⟩
    rw [if_neg c2, if_neg c2]
    by_cases c3 : c i = 59
    · rw [if_pos c3]
      refine ⟨fun h => n10 h, fun h => n12 h, fun _ => ⟨n, by dsimp only; omega, ?_⟩⟩
      dsimp only
      rw [c3] at c2 ⊢
      rw [(pk_59' c2).2.2]
    · rw [if_neg c3]
      have h := ih n (i + 1) (bs u 9 (pk (u 9) (c i)).2) (by omega) (by omega) (by omega) (by rw [bs_ne _ _ (by decide)]; exact e1) (fun x hx => by rw [bs_ne _ _ (by decide)]; exact e2 x hx)
      unfold erP at h
      rw [bs_eq] at h
      simp only [bs_bs] at h
      exact h
/-- the chain -/
def ch (c : Nat → Int32) (L : Nat) : Nat → (Nat → Int32) → Nat → Nat × Nat × (Nat → Int32)
  | 0, r, i => (0, i, r)
  | n + 1, r, i => if (tr c L (L + 1) r i).1 = 1 then ch c L n (pZ (tr c L (L + 1) r i).2.2) ((tr c L (L + 1) r i).2.1 + 1) else tr c L (L + 1) r i
theorem er_ch {c : Nat → Int32} {L : Nat} (hL : L ≤ 60) : ∀ (N n i : Nat) (u : bU), i ≤ L → L < i + N → L < i + n → u 11 2 = nI L → (∀ x : Nat, x < L → u 2 x = c x) → ((ch c L N (u 9) i).1 = 0 ∧ (ch c L N (u 9) i).2.1 < L ∧ ∃ g : Nat → Int32, L3_errorAt_9 u n i = (nI (ch c L N (u 9) i).2.1, bs u 9 g)) ∨ ((ch c L N (u 9) i).1 = 2 ∧ (ch c L N (u 9) i).2.1 = L ∧ L3_errorAt_9 u n i = (nI L, bs u 9 (ch c L N (u 9) i).2.2)) := by
  intro N
  induction N with
  | zero => intro n i u h1 h2; omega
  | succ N ih =>
    intro n i u h1 h2 h3 e1 e2
    have s := er_scan (c := c) hL (L + 1) n i u h1 (by omega) h3 e1 e2
    have t := tr_is (c := c) (L := L) (L + 1) i (u 9) h1 (by omega)
    rw [ch]
    obtain ⟨s0, s2, s1⟩ := s
    rcases t with ⟨t1, t2, t3⟩ | ⟨t1, t2, t3, t4, t5⟩ | ⟨t1, t2⟩
    · rw [if_neg (by rw [t1]; decide)]
      exact Or.inl ⟨t1, t3, s0 t1⟩
    · rw [if_pos t1]
      obtain ⟨n', n1, n2⟩ := s1 t1
      have h := ih n' ((tr c L (L + 1) (u 9) i).2.1 + 1) (bs u 9 (pZ (tr c L (L + 1) (u 9) i).2.2)) (by omega) (by omega) n1 (by rw [bs_ne _ _ (by decide)]; exact e1) (fun x hx => by rw [bs_ne _ _ (by decide)]; exact e2 x hx)
      rw [bs_eq] at h
      rw [n2]
      simp only [bs_bs] at h
      exact h
    · rw [if_neg (by rw [t1]; decide)]
      exact Or.inr ⟨t1, t2, s2 t1⟩
theorem pZ_0 (r : Nat → Int32) : pZ r 0 = 0 ∧ pZ r 4 = 0 := ⟨rfl, rfl⟩
/-- the reference's reads along the chain -/
theorem rds_ch {c : Nat → Int32} {L : Nat} (hL : L ≤ 60) (hC : ∀ x : Nat, x < L → ∃ k : Nat, k ≤ 126 ∧ c x = nI k) : ∀ (N n j i : Nat) (u : bU) (r : Nat → Int32), i ≤ L → L < i + N → L < i + n → u 3 = c → u 6 1 = nI L → u 6 3 = nI i → r 0 = 0 → r 4 = 0 → (∃ g : Nat → Int32, (L6_reads_7 u n j 1).2 = bs u 6 g ∧ g 0 = u 6 0 ∧ g 1 = u 6 1 ∧ g 2 = u 6 2 ∧ g 3 = nI (ch c L N r i).2.1 ∧ g 4 = pWhole (ch c L N r i).2.2) ∧ mRdOk n 1 u := by
  intro N
  induction N with
  | zero => intro n j i u r h1 h2; omega
  | succ N ih =>
    intro n j i u r h1 h2 h3 e0 e1 e3 r0 r4
    obtain ⟨n, rfl⟩ : ∃ y, n = y + 1 := ⟨n - 1, by omega⟩
    obtain ⟨⟨f, f1, f2, f3, f4⟩, d1, d2, d3, d4⟩ := rd_order hL hC (m := L + 1) (r := r) h1 (by omega) e0 e1 e3 r0 r4
    have t := tr_is (c := c) (L := L) (L + 1) i r h1 (by omega)
    rw [L6_reads_7, if_neg (show ¬ (1 : Int32) = 0 by decide), mRdOk, ch, d1]
    rw [f1, bs_eq] at d2 d3
    by_cases t1 : (tr c L (L + 1) r i).1 = 1
    · rw [if_pos t1, if_pos t1]
      rw [if_pos t1] at d2
      have tf := tr_far (c := c) (m := L + 1) h1 (by omega) (by rw [r0]; decide) t1
      have tl : (tr c L (L + 1) r i).2.1 < L := by
        rcases t with ⟨q, _⟩ | ⟨_, _, q, _⟩ | ⟨q, _⟩
        · rw [q] at t1; exact absurd t1 (by decide)
        · exact q
        · rw [q] at t1; exact absurd t1 (by decide)
      obtain ⟨⟨g, g1, g2, g3, g4, g5, g6⟩, g7⟩ := ih n (j + 1) ((tr c L (L + 1) r i).2.1 + 1) (F6_readOrder u).2 (pZ (tr c L (L + 1) r i).2.2) (by omega) (by omega) (by omega) (by rw [f1, bs_ne _ _ (by decide)]; exact e0) (by rw [f1, bs_eq, f3]; exact e1) (by rw [f1, bs_eq]; exact d2) rfl rfl
      rw [f1, bs_eq] at g2 g3 g4
      refine ⟨⟨g, ?_, g2.trans f2, g3.trans f3, g4.trans f4, g5, g6⟩, Or.inr g7⟩
      rw [g1, f1, bs_bs]
    · rw [if_neg t1, if_neg t1]
      rw [if_neg t1] at d2
      refine ⟨⟨f, ?_, f2, f3, f4, d2, d3⟩, Or.inr ?_⟩
      · rw [← f1]
        cases n with
        | zero => rfl
        | succ n => rw [L6_reads_7, if_pos rfl]
      · cases n with
        | zero => rfl
        | succ n => exact Or.inl rfl

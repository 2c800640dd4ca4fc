-- firstError, both sides (own text)
section
variable {B : Nat} {a b : bU}
theorem Rel_9 (h : Rel B a b) (k : Nat) (g : Nat → Int32) (hk : k = 9 ∨ k = 10) : Rel B (bs a k g) b := by
  obtain ⟨h1, ⟨n, l, hn, hl, a3, a4, a5, a6⟩, ⟨L, hL, t1, t2, t3⟩, h4⟩ := h
  have e : ∀ c : Nat, c ≠ 9 → c ≠ 10 → (bs a k g) c = a c := fun c h1 h2 => bs_ne _ _ (by omega)
  exact ⟨by rw [e 0 (by decide) (by decide)]; exact h1, ⟨n, l, hn, hl, by rw [e 11 (by decide) (by decide)]; exact a3, by rw [e 11 (by decide) (by decide)]; exact a4, a5, fun i hi => by rw [e (3 + (l + 6 - i) % 6) (by omega) (by omega)]; exact a6 i hi⟩, ⟨L, hL, by rw [e 11 (by decide) (by decide)]; exact t1, t2, fun i hi => by rw [e 2 (by decide) (by decide)]; exact t3 i hi⟩, h4⟩
theorem Rel_6 (h : Rel B a b) {g : Nat → Int32} (g0 : g 0 = b 6 0) (g1 : g 1 = b 6 1) : Rel B a (bs b 6 g) := by
  obtain ⟨h1, ⟨n, l, hn, hl, a3, a4, a5, a6⟩, ⟨L, hL, t1, t2, t3⟩, h4⟩ := h
  have e : ∀ c : Nat, c ≠ 6 → (bs b 6 g) c = b c := fun c h1 => bs_ne _ _ h1
  exact ⟨by rw [e 0 (by decide)]; exact h1, ⟨n, l, hn, hl, a3, a4, by rw [bs_eq, g0]; exact a5, fun i hi => by rw [e 2 (by decide)]; exact a6 i hi⟩, ⟨L, hL, t1, by rw [bs_eq, g1]; exact t2, fun i hi => by rw [e 3 (by decide)]; exact t3 i hi⟩, fun i hi => by rw [e 4 (by decide), e 5 (by decide)]; exact h4 i hi⟩
theorem txt_C (h : Rel B a b) : ∃ L : Nat, L ≤ 60 ∧ a 11 2 = nI L ∧ b 6 1 = nI L ∧ (∀ x : Nat, x < L → ∃ k : Nat, k ≤ 126 ∧ b 3 x = nI k) ∧ ∀ x : Nat, x < L → a 2 x = b 3 x := by
  obtain ⟨_, _, ⟨L, hL, t1, t2, t3⟩, _⟩ := h
  refine ⟨L, hL, t1, t2, fun x hx => ?_, fun x hx => ?_⟩
  · obtain ⟨c, c1, c2, c3, c4⟩ := t3 x hx
    exact ⟨c, c2, c4⟩
  · obtain ⟨c, c1, c2, c3, c4⟩ := t3 x hx
    exact c3.trans c4.symm
theorem err_c {c : Nat → Int32} {L : Nat} (hL : L ≤ 60) (e1 : a 11 2 = nI L) (e2 : ∀ x : Nat, x < L → a 2 x = c x) : ((ch c L (L + 1) (pZ (a 9)) 0).1 = 0 ∧ (ch c L (L + 1) (pZ (a 9)) 0).2.1 < L ∧ ∃ g : Nat → Int32, F3_errorAt a = (nI (ch c L (L + 1) (pZ (a 9)) 0).2.1, bs a 9 g)) ∨ ((ch c L (L + 1) (pZ (a 9)) 0).1 = 2 ∧ (ch c L (L + 1) (pZ (a 9)) 0).2.1 = L ∧ F3_errorAt a = (nI L, bs a 9 (ch c L (L + 1) (pZ (a 9)) 0).2.2)) := by
  have h := er_ch (c := c) hL (L + 1) (L + 1) 0 (bs a 9 (pZ (a 9))) (by omega) (by omega) (by omega) (by rw [bs_ne _ _ (by decide)]; exact e1) (fun x hx => by rw [bs_ne _ _ (by decide)]; exact e2 x hx)
  rw [bs_eq] at h
  simp only [bs_bs] at h
  unfold F3_errorAt
  rw [p_beginT, e1, mC (by omega)]
  exact h
theorem rds_r {L : Nat} (hL : L ≤ 60) (hC : ∀ x : Nat, x < L → ∃ k : Nat, k ≤ 126 ∧ b 3 x = nI k) {r : Nat → Int32} (r0 : r 0 = 0) (r4 : r 4 = 0) (e1 : b 6 1 = nI L) : (∃ g : Nat → Int32, F6_reads b = (nI (ch (b 3) L (L + 1) r 0).2.1, bs b 6 g) ∧ g 0 = b 6 0 ∧ g 1 = b 6 1 ∧ g 2 = b 6 2 ∧ g 4 = pWhole (ch (b 3) L (L + 1) r 0).2.2) ∧ mRdOk 61 1 (bput b 6 3 0) := by
  have q : ∀ n : Nat, 61 ≤ n → _ := fun n hn => rds_ch (c := b 3) hL hC (L + 1) n 0 0 (bput b 6 3 0) r (by omega) (by omega) (by omega) rfl (by rw [bput_ne _ _ (by decide)]; exact e1) (by rw [bput_at]; rfl) r0 r4
  refine ⟨?_, (q 61 (by omega)).2⟩
  obtain ⟨g, g1, g2, g3, g4, g5, g6⟩ := (q 62 (by omega)).1
  refine ⟨g, ?_, g2.trans (bput_ne _ _ (by decide)), g3.trans (bput_ne _ _ (by decide)), g4.trans (bput_ne _ _ (by decide)), g6⟩
  unfold F6_reads
  have g1' : (L6_reads_7 (bput b 6 3 0) (61 + 1) 0 1).2 = bs b 6 g := by
    rw [bput_up b, bs_bs] at g1
    exact g1
  rw [g1', bs_eq, g5]
theorem st_firstError (h : Rel B a b) : (F5_firstError a).1 = (F6_firstError b).1 ∧ Rel B (F5_firstError a).2 (F6_firstError b).2 ∧ mRdOk 61 1 (bput (bput b 6 2 0) 6 3 0) := by
  have h' := Rel_thr h 0
  obtain ⟨L, hL, t1, t2, tC, tE⟩ := txt_C h'
  have hc := err_c (c := (bput b 6 2 0) 3) hL t1 tE
  obtain ⟨⟨g, g1, g2, g3, g4, g5⟩, g6⟩ := rds_r (b := bput b 6 2 0) hL tC (r := pZ (a 9)) rfl rfl t2
  unfold F5_firstError F6_firstError
  rw [g1]
  rcases hc with ⟨c1, c2, f, c3⟩ | ⟨c1, c2, c3⟩
  · rw [c3]
    exact ⟨rfl, Rel_6 (Rel_9 h' 9 f (Or.inl rfl)) g2 g3, g6⟩
  · rw [c3]
    refine ⟨?_, Rel_6 (Rel_9 h' 9 _ (Or.inl rfl)) g2 g3, g6⟩
    dsimp only
    rw [c2]
end

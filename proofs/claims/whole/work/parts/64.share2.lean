-- the share of what is gone, both sides (own text)
section
variable {u v : bU} {B n t : Nat} {α β : Int}
theorem tn_nat {x : Int32} {M : Nat} (h : ∃ y : Nat, y ≤ M ∧ x = nI y) (hM : M < 2 ^ 31) : x = nI x.toNatClampNeg ∧ x.toNatClampNeg ≤ M := by
  obtain ⟨y, hy, e⟩ := h
  rw [e, mC (by omega)]
  exact ⟨rfl, hy⟩
theorem ins_nat (h : gQ B n t α β (v 0)) {b o : Nat} (hb : b < 8) (ho : o = 5 ∨ o = 13) : ∃ y : Nat, y ≤ 240000 ∧ F6_inShops v (nI b) (nI o) = nI y := by
  obtain ⟨hn, ht, e0, e1⟩ := gQ_0 h
  unfold F6_inShops
  rw [e1, mC (by omega), aL_mInShops v (nI b) (nI o) e1 ht t (t + 1) 0 0 (by omega) (by omega)]
  have hc : ∀ s : Nat, 0 ≤ s → s < 0 + t → F6_ofShop v (nI s) (nI o + nI b) = nI (F6_ofShop v (nI s) (nI o + nI b)).toNatClampNeg ∧ (F6_ofShop v (nI s) (nI o + nI b)).toNatClampNeg ≤ 40000 := by
    intro s _ hs
    apply tn_nat _ (by decide)
    rw [nI_add, m_sh v (by omega)]
    rcases ho with rfl | rfl
    · exact b_nat h (by omega) (wv_T_F (by omega) hb)
    · exact b_nat h (by omega) (wv_T_E (by omega) hb)
  refine ⟨0 + nsum (fun s => (F6_ofShop v (nI s) (nI o + nI b)).toNatClampNeg) t 0, ?_, acc_nsum t 0 0 (fun s a c => (hc s a c).1)⟩
  have := nsum_le (M := 40000) t 0 (fun s a c => (hc s a c).2)
  omega
theorem ins_zero (h : gQ B n t α β (v 0)) {b o : Nat} (h1 : n ≤ b) (hb : b < 8) (ho : o = 5 ∨ o = 13) : F6_inShops v (nI b) (nI o) = 0 := by
  obtain ⟨hn, ht, e0, e1⟩ := gQ_0 h
  unfold F6_inShops
  rw [e1, mC (by omega), aL_mInShops v (nI b) (nI o) e1 ht t (t + 1) 0 0 (by omega) (by omega)]
  apply acc_zero
  intro s _ hs
  rcases ho with rfl | rfl
  · exact mz_F h (by omega) h1 hb
  · exact mz_E h (by omega) h1 hb
theorem ab_cases (v : bU) {b w : Nat} (h1 : 1 ≤ w) (h2 : w < 10) : F6_aboutBrand v (nI b) (nI w) = if w = 3 then F6_inShops v (nI b) (nI 5) else if w = 4 then F6_inShops v (nI b) (nI 13) else F6_of v (nI b) (nI (if w < 3 then w else w - 2)) := by
  unfold F6_aboutBrand
  rcases Nat.lt_or_ge w 3 with q | q
  · rw [if_neg (show ¬ (3 : Int32) ≤ nI w from nI_ge (b := 3) q (by decide)), if_neg (show ¬ w = 3 by omega), if_neg (show ¬ w = 4 by omega), if_pos q]
  · rw [if_pos (show (3 : Int32) ≤ nI w from nI_le (a := 3) q (by omega))]
    by_cases c3 : w = 3
    · subst c3
      rw [if_pos (show nI 3 = 3 from rfl), if_pos (show 3 = 3 from rfl), show nI 5 = 5 from rfl]
    · rw [if_neg (show ¬ nI w = (3 : Int32) from nI_ne (b := 3) c3 (by omega) (by decide)), if_neg c3]
      by_cases c4 : w = 4
      · subst c4
        rw [if_pos (show nI 4 = 4 from rfl), if_pos (show 4 = 4 from rfl), show nI 13 = 13 from rfl]
      · rw [if_neg (show ¬ nI w = (4 : Int32) from nI_ne (b := 4) c4 (by omega) (by decide)), if_neg c4, show (nI w - 2 : Int32) = nI (w - 2) from pk_sub (b := 2) (by omega), if_neg (show ¬ w < 3 by omega)]
theorem ab_nat (h : gQ B n t α β (v 0)) {b w : Nat} (hb : b < 8) (h1 : 1 ≤ w) (h2 : w < 10) : ∃ y : Nat, y ≤ 240000 ∧ F6_aboutBrand v (nI b) (nI w) = nI y := by
  rw [ab_cases v h1 h2]
  by_cases c3 : w = 3
  · rw [if_pos c3]; exact ins_nat h hb (Or.inl rfl)
  by_cases c4 : w = 4
  · rw [if_neg c3, if_pos c4]; exact ins_nat h hb (Or.inr rfl)
  rw [if_neg c3, if_neg c4]
  have h3 : 1 ≤ (if w < 3 then w else w - 2) ∧ (if w < 3 then w else w - 2) ≤ 7 := by split <;> omega
  generalize (if w < 3 then w else w - 2) = k at h3 ⊢
  rw [m_br v (by omega)]
  obtain ⟨y, hy, e⟩ := b_nat h (j := 13 + 10 * b + k) (by omega) (by rw [wT, wt_b hb (by omega), if_pos h3])
  exact ⟨y, by omega, e⟩
theorem ab_zero (h : gQ B n t α β (v 0)) {b w : Nat} (hn : n ≤ b) (hb : b < 8) (h1 : 1 ≤ w) (h2 : w < 10) : F6_aboutBrand v (nI b) (nI w) = 0 := by
  rw [ab_cases v h1 h2]
  by_cases c3 : w = 3
  · rw [if_pos c3]; exact ins_zero h hn hb (Or.inl rfl)
  by_cases c4 : w = 4
  · rw [if_neg c3, if_pos c4]; exact ins_zero h hn hb (Or.inr rfl)
  rw [if_neg c3, if_neg c4]
  exact mz_b h hn hb (by split <;> omega)
def eB (v : bU) (b w : Nat) : Nat := (F6_aboutBrand v (nI b) (nI w)).toNatClampNeg
theorem eB_at (h : gQ B n t α β (v 0)) {b w : Nat} (hb : b < 8) (h1 : 1 ≤ w) (h2 : w < 10) : F6_aboutBrand v (nI b) (nI w) = nI (eB v b w) ∧ eB v b w ≤ 240000 := tn_nat (ab_nat h hb h1 h2) (by decide)
theorem eB_zero (h : gQ B n t α β (v 0)) {b w : Nat} (hn : n ≤ b) (hb : b < 8) (h1 : 1 ≤ w) (h2 : w < 10) : eB v b w = 0 := by
  unfold eB; rw [ab_zero h hn hb h1 h2]; rfl
theorem bs15_nat (hr : rV (u 0) (v 0)) (h : gQ B n t α β (v 0)) {b : Nat} (hb : b < 8) : ∀ (d f j x : Nat), j + d = 10 → d < f → 1 ≤ j → L2_brandSum1_15 u b f j (nI x) = nI (x + nsum (eB v b) d j) ∧ L2_brandSum7_15 u b f j (nI x) = nI (x + nsum (eB v b) d j) := by
  intro d
  induction d with
  | zero =>
    intro f j x hj hf h1
    obtain ⟨f, rfl⟩ : ∃ g : Nat, f = g + 1 := ⟨f - 1, by omega⟩
    obtain rfl : j = 10 := by omega
    rw [L2_brandSum1_15, L2_brandSum7_15, if_pos (by decide), if_pos (by decide)]
    exact ⟨rfl, rfl⟩
  | succ d ih =>
    intro f j x hj hf h1
    obtain ⟨f, rfl⟩ : ∃ g : Nat, f = g + 1 := ⟨f - 1, by omega⟩
    have hc : ¬ (9 : Int32) < nI j := by
      have : j = 1 ∨ j = 2 ∨ j = 3 ∨ j = 4 ∨ j = 5 ∨ j = 6 ∨ j = 7 ∨ j = 8 ∨ j = 9 := by omega
      rcases this with rfl | rfl | rfl | rfl | rfl | rfl | rfl | rfl | rfl <;> decide
    rw [L2_brandSum1_15, L2_brandSum7_15, if_neg hc, if_neg hc, brand_eq hr h hb (by omega), (eB_at h hb h1 (by omega)).1, nI_add, (ih f (j + 1) (x + eB v b j) (by omega) (by omega) (by omega)).1, (ih f (j + 1) (x + eB v b j) (by omega) (by omega) (by omega)).2, nsum, Nat.add_assoc]
    exact ⟨rfl, rfl⟩
def eA (v : bU) (b : Nat) : Nat := nsum (eB v b) 9 1
def eG (v : bU) (b : Nat) : Nat := nsum (eB v b) 3 7
theorem bs5_nat (hr : rV (u 0) (v 0)) (h : gQ B n t α β (v 0)) : ∀ (d f j x : Nat), j + d = 8 → d < f → L2_brandSum1_5 u f j (nI x) = nI (x + nsum (eA v) d j) ∧ L2_brandSum7_5 u f j (nI x) = nI (x + nsum (eG v) d j) := by
  intro d
  induction d with
  | zero =>
    intro f j x hj hf
    obtain ⟨f, rfl⟩ : ∃ g : Nat, f = g + 1 := ⟨f - 1, by omega⟩
    obtain rfl : j = 8 := by omega
    rw [L2_brandSum1_5, L2_brandSum7_5, if_pos (by decide), if_pos (by decide)]
    exact ⟨rfl, rfl⟩
  | succ d ih =>
    intro f j x hj hf
    obtain ⟨f, rfl⟩ : ∃ g : Nat, f = g + 1 := ⟨f - 1, by omega⟩
    have hc : ¬ (8 : Int32) ≤ nI j := nI_ge (b := 8) (by omega) (by decide)
    rw [L2_brandSum1_5, L2_brandSum7_5, if_neg hc, if_neg hc, (bs15_nat hr h (b := j) (by omega) 9 (10 + 1) 1 x (by decide) (by decide) (by decide)).1, (bs15_nat hr h (b := j) (by omega) 3 (10 + 1) 7 x (by decide) (by decide) (by decide)).2, (ih f (j + 1) _ (by omega) (by omega)).1, (ih f (j + 1) _ (by omega) (by omega)).2, show nsum (eA v) (d + 1) j = eA v j + nsum (eA v) d (j + 1) from rfl, show nsum (eG v) (d + 1) j = eG v j + nsum (eG v) d (j + 1) from rfl, Nat.add_assoc, Nat.add_assoc]
    exact ⟨rfl, rfl⟩
theorem g19_nat (h : gQ B n t α β (v 0)) {b : Nat} (hb : b < 8) : ∀ (d f j x y : Nat), j + d = 10 → d < f → 1 ≤ j → L6_gone_19 v b f j (nI x) (nI y) = (nI (x + nsum (eB v b) d j), nI (y + nsum (fun w => if w ≤ 6 then 0 else eB v b w) d j)) := by
  intro d
  induction d with
  | zero =>
    intro f j x y hj hf h1
    obtain ⟨f, rfl⟩ : ∃ g : Nat, f = g + 1 := ⟨f - 1, by omega⟩
    obtain rfl : j = 10 := by omega
    rw [L6_gone_19, if_pos (by decide)]
    rfl
  | succ d ih =>
    intro f j x y hj hf h1
    obtain ⟨f, rfl⟩ : ∃ g : Nat, f = g + 1 := ⟨f - 1, by omega⟩
    rw [L6_gone_19, if_neg (show ¬ (10 : Int32) ≤ nI j from nI_ge (b := 10) (by omega) (by decide)), (eB_at h hb h1 (by omega)).1, nsum, nsum]
    by_cases c : j ≤ 6
    · rw [if_pos (show nI j ≤ (6 : Int32) from nI_le (b := 6) c (by decide)), nI_add, show (nI y + 0 : Int32) = nI (y + 0) from nI_add y 0, ih f (j + 1) _ _ (by omega) (by omega) (by omega), Nat.add_assoc, Nat.add_assoc, if_pos c]
    · rw [if_neg (show ¬ nI j ≤ (6 : Int32) from nI_ge (a := 6) (by omega) (by omega)), nI_add, nI_add, ih f (j + 1) _ _ (by omega) (by omega) (by omega), Nat.add_assoc, Nat.add_assoc, if_neg c]
theorem g6_nat (h : gQ B n t α β (v 0)) : ∀ (d f j x y : Nat), j + d = n → d < f → L6_gone_6 v f j (nI x) (nI y) = (nI (x + nsum (eA v) d j), nI (y + nsum (eG v) d j)) := by
  obtain ⟨hn, ht, e0, e1⟩ := gQ_0 h
  intro d
  induction d with
  | zero =>
    intro f j x y hj hf
    obtain ⟨f, rfl⟩ : ∃ g : Nat, f = g + 1 := ⟨f - 1, by omega⟩
    rw [L6_gone_6, if_pos (by rw [e0]; exact nI_le (by omega) (by omega))]
    rfl
  | succ d ih =>
    intro f j x y hj hf
    obtain ⟨f, rfl⟩ : ∃ g : Nat, f = g + 1 := ⟨f - 1, by omega⟩
    rw [L6_gone_6, if_neg (by rw [e0]; exact nI_ge (by omega) (by omega)), g19_nat h (b := j) (by omega) 9 (10 + 1) 1 x y (by decide) (by decide) (by decide)]
    dsimp only
    rw [ih f (j + 1) _ _ (by omega) (by omega), show nsum (eA v) (d + 1) j = eA v j + nsum (eA v) d (j + 1) from rfl, show nsum (eG v) (d + 1) j = eG v j + nsum (eG v) d (j + 1) from rfl, Nat.add_assoc, Nat.add_assoc, show nsum (fun w => if w ≤ 6 then 0 else eB v j w) 9 1 = eG v j from by
      show 0 + (0 + (0 + (0 + (0 + (0 + nsum (fun w => if w ≤ 6 then 0 else eB v j w) 3 7))))) = _
      rw [Nat.zero_add, Nat.zero_add, Nat.zero_add, Nat.zero_add, Nat.zero_add, Nat.zero_add]
      exact nsum_congr 3 7 (fun i h7 h8 => if_neg (by omega))]
    rfl
theorem nsum_split (e : Nat → Nat) : ∀ (a b j : Nat), nsum e (a + b) j = nsum e a j + nsum e b (j + a) := by
  intro a
  induction a with
  | zero => intro b j; rw [Nat.zero_add, nsum, Nat.zero_add, Nat.add_zero]
  | succ a ih => intro b j; rw [show a + 1 + b = (a + b) + 1 by omega, nsum, nsum, ih, show j + 1 + a = j + (a + 1) by omega]; exact (Nat.add_assoc _ _ _).symm
theorem nsum_cut {e : Nat → Nat} {n : Nat} (hn : n ≤ 8) (hz : ∀ b : Nat, n ≤ b → b < 8 → e b = 0) : nsum e 8 0 = nsum e n 0 := by
  obtain ⟨k, rfl⟩ : ∃ k, k = 8 - n := ⟨_, rfl⟩
  have h8 : 8 = n + (8 - n) := by omega
  have := nsum_split e n (8 - n) 0
  rw [← h8] at this
  rw [this, nsum_zero (8 - n) (0 + n) (fun i a c => hz i (by omega) (by omega)), Nat.add_zero]
theorem nsum_mono {e g : Nat → Nat} : ∀ (d j : Nat), (∀ i : Nat, j ≤ i → i < j + d → e i ≤ g i) → nsum e d j ≤ nsum g d j := by
  intro d
  induction d with
  | zero => intro j _; exact Nat.le_refl _
  | succ d ih =>
    intro j h
    have h1 := h j (by omega) (by omega)
    have h2 := ih (j + 1) (fun i a b => h i (by omega) (by omega))
    rw [nsum, nsum]
    omega
theorem eG_le (v : bU) (b : Nat) : eG v b ≤ eA v b := by
  unfold eG eA
  rw [show (9 : Nat) = 6 + 3 from rfl, nsum_split]
  exact Nat.le_add_left _ _
theorem eA_le (h : gQ B n t α β (v 0)) {b : Nat} (hb : b < 8) : eA v b ≤ 9 * 240000 := nsum_le 9 1 (fun i h1 h2 => (eB_at h hb h1 (by omega)).2)
theorem eA_z (h : gQ B n t α β (v 0)) {b : Nat} (hn : n ≤ b) (hb : b < 8) : eA v b = 0 := nsum_zero 9 1 (fun i h1 h2 => eB_zero h hn hb h1 (by omega))
theorem gone_both (hr : rV (u 0) (v 0)) (h : gQ B n t α β (v 0)) : gsOK u ∧ gmOK v ∧ F5_goneShare u = F6_gone v := by
  obtain ⟨hn, ht, e0, e1⟩ := gQ_0 h
  have hA : nsum (eA v) 8 0 = nsum (eA v) n 0 := nsum_cut hn (fun b a c => eA_z h a c)
  have hG : nsum (eG v) 8 0 = nsum (eG v) n 0 := nsum_cut hn (fun b a c => Nat.le_zero.mp (by rw [← eA_z h a c]; exact eG_le v b))
  have hle : nsum (eG v) 8 0 ≤ nsum (eA v) 8 0 := nsum_mono 8 0 (fun b _ _ => eG_le v b)
  have hb := nsum_le (M := 9 * 240000) 8 0 (fun b a c => eA_le h (b := b) (by omega))
  have c1 : F2_brandSum1 u = nI (nsum (eA v) 8 0) := by
    have := (bs5_nat hr h 8 (8 + 1) 0 0 (by decide) (by decide)).1
    rw [Nat.zero_add] at this
    exact this
  have c7 : F2_brandSum7 u = nI (nsum (eG v) 8 0) := by
    have := (bs5_nat hr h 8 (8 + 1) 0 0 (by decide) (by decide)).2
    rw [Nat.zero_add] at this
    exact this
  have m : L6_gone_6 v ((v 0 0).toNatClampNeg + 1) 0 0 0 = (nI (nsum (eA v) 8 0), nI (nsum (eG v) 8 0)) := by
    have := g6_nat h n ((v 0 0).toNatClampNeg + 1) 0 0 0 (by omega) (by rw [e0, mC (by omega)]; omega)
    rw [Nat.zero_add, Nat.zero_add, ← hA, ← hG] at this
    exact this
  unfold gsOK gmOK F5_goneShare F6_gone
  rw [c1, c7, m]
  generalize nsum (eA v) 8 0 = A at hle hb
  generalize nsum (eG v) 8 0 = G at hle
  dsimp only
  rcases Nat.eq_zero_or_pos A with rfl | hp
  · have k0 : nI 0 = (0 : Int32) := rfl
    rw [if_pos (show nI 0 ≤ (0 : Int32) by decide), if_pos k0]
    exact ⟨⟨fun q => absurd (by decide) q, Or.inl rfl⟩, ⟨fun q => absurd k0 q, Or.inl rfl⟩, rfl⟩
  · have k1 : ¬ nI A ≤ (0 : Int32) := nI_ge (a := 0) hp (by omega)
    have k2 : ¬ nI A = (0 : Int32) := nI_ne (b := 0) (by omega) (by omega) (by decide)
    rw [if_neg k1, if_neg k2]
    have hs := share_ok hle hp (by omega)
    exact ⟨⟨fun _ => shOK_n64 hs, hs⟩, ⟨fun _ => shOK_n64 hs, hs⟩, rfl⟩
theorem st_goneShare {a b : bU} (h : Rel B a b) : gsOK a ∧ gmOK (bput b 6 2 0) ∧ F5_goneShare a = (F6_goneShare b).1 ∧ (F6_goneShare b).2 6 2 = 0 ∧ Rel B a (F6_goneShare b).2 := by
  have h' := Rel_thr h 0
  obtain ⟨⟨hr, n, t, g⟩, _⟩ := id h'
  obtain ⟨x, y, z⟩ := gone_both hr g
  exact ⟨x, y, z, by show (bput b 6 2 0) 6 2 = 0; rw [bput_at], h'⟩
end

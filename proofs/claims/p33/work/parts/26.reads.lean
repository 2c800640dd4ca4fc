-- THE LAW'S READS at numbers; sums with an end of zeros (own text)
theorem nI_ne {a b : Nat} (h : a ≠ b) (ha : a < 2 ^ 31) (hb : b < 2 ^ 31) : ¬ nI a = nI b := fun e => h ((nI_eq ha hb).mp e)
theorem rg_plus {A B : Nat} {x y : Int32} (h1 : rg A x) (h2 : rg B y) (h : A + B < 2147483648) : rg (A + B) (x + y) := by
  have a1 := h1.1
  have a2 := h1.2
  have b1 := h2.1
  have b2 := h2.2
  unfold rg
  rw [iAdd (by omega) (by omega)]
  omega
theorem rg_nlt {B : Nat} {x : Int32} (h : rg B x) : ¬ x < 0 := by
  rw [iLt, i0]
  have := h.1
  omega
theorem acc_rg {f : Nat → Int32} {B : Nat} : ∀ (d j X : Nat) (x : Int32), rg X x → (∀ i : Nat, j ≤ i → i < j + d → rg B (f i)) → X + d * B < 2147483648 → rg (X + d * B) (acc f d j x) := by
  intro d
  induction d with
  | zero => intro j X x h _ _; rw [Nat.zero_mul, Nat.add_zero]; exact h
  | succ d ih =>
    intro j X x h hf hX
    rw [Nat.succ_mul] at hX ⊢
    have h1 := rg_plus h (hf j (by omega) (by omega)) (by omega)
    have h2 := ih (j + 1) (X + B) (x + f j) h1 (fun i a b => hf i (by omega) (by omega)) (by omega)
    rw [show X + (d * B + B) = X + B + d * B by omega]
    exact h2
theorem acc_plus (f g : Nat → Int32) : ∀ (d j : Nat) (x y : Int32), acc (fun i => f i + g i) d j (x + y) = acc f d j x + acc g d j y := by
  intro d
  induction d with
  | zero => intro j x y; rfl
  | succ d ih =>
    intro j x y
    show acc (fun i => f i + g i) d (j + 1) (x + y + (f j + g j)) = acc f d (j + 1) (x + f j) + acc g d (j + 1) (y + g j)
    rw [← ih, show x + y + (f j + g j) = x + f j + (y + g j) by grind]
theorem acc_neg (f : Nat → Int32) : ∀ (d j : Nat) (x y : Int32), acc (fun i => -f i) d j (x - y) = x - acc f d j y := by
  intro d
  induction d with
  | zero => intro j x y; rfl
  | succ d ih =>
    intro j x y
    show acc (fun i => -f i) d (j + 1) (x - y + -f j) = x - acc f d (j + 1) (y + f j)
    rw [← ih, show x - y + -f j = x - (y + f j) by grind]
section RD
variable {u : bU}
theorem v_brand {b w : Nat} (hb : b < 8) (hw : w < 12) (h3 : w ≠ 3) (h4 : w ≠ 4) : F5_brand u (nI b) (nI w) = u 0 (17 + 12 * b + w) := by
  unfold F5_brand F2_brandNumber
  rw [if_neg (show ¬ nI w = (3 : Int32) from nI_ne (b := 3) h3 (by omega) (by decide)), if_neg (show ¬ nI w = (4 : Int32) from nI_ne (b := 4) h4 (by omega) (by decide))]
  exact c_br u (by omega)
theorem v_b1 {b : Nat} (hb : b < 8) : F5_brand u (nI b) 1 = u 0 (17 + 12 * b + 1) := v_brand (w := 1) hb (by decide) (by decide) (by decide)
theorem v_b5 {b : Nat} (hb : b < 8) : F5_brand u (nI b) 5 = u 0 (17 + 12 * b + 5) := v_brand (w := 5) hb (by decide) (by decide) (by decide)
theorem v_b6 {b : Nat} (hb : b < 8) : F5_brand u (nI b) 6 = u 0 (17 + 12 * b + 6) := v_brand (w := 6) hb (by decide) (by decide) (by decide)
theorem v_b8 {b : Nat} (hb : b < 8) : F5_brand u (nI b) 8 = u 0 (17 + 12 * b + 8) := v_brand (w := 8) hb (by decide) (by decide) (by decide)
theorem v_b9 {b : Nat} (hb : b < 8) : F5_brand u (nI b) 9 = u 0 (17 + 12 * b + 9) := v_brand (w := 9) hb (by decide) (by decide) (by decide)
theorem v_b10 {b : Nat} (hb : b < 8) : F5_brand u (nI b) 10 = u 0 (17 + 12 * b + 10) := v_brand (w := 10) hb (by decide) (by decide) (by decide)
theorem v_b11 {b : Nat} (hb : b < 8) : F5_brand u (nI b) 11 = u 0 (17 + 12 * b + 11) := v_brand (w := 11) hb (by decide) (by decide) (by decide)
theorem v_over {w : Nat} (hw : w < 28) : F2_overShops u (nI w) = Ss (u 0) w := by
  unfold F2_overShops Ss
  rw [aL_cShops u (nI w) 6 (6 + 1) 0 0 (by decide) (by decide)]
  exact acc_congr _ _ _ (fun i _ hi => c_sh u (by omega))
theorem v_b3 {b : Nat} (hb : b < 8) : F5_brand u (nI b) 3 = Ss (u 0) (10 + b) := by
  unfold F5_brand F2_brandNumber
  rw [if_pos rfl, show (10 + nI b : Int32) = nI (10 + b) from nI_add 10 b]
  exact v_over (by omega)
theorem v_b4 {b : Nat} (hb : b < 8) : F5_brand u (nI b) 4 = Ss (u 0) (20 + b) := by
  unfold F5_brand F2_brandNumber
  rw [if_neg (show ¬ (4 : Int32) = 3 by decide), if_pos rfl, show (20 + nI b : Int32) = nI (20 + b) from nI_add 20 b]
  exact v_over (by omega)
theorem v_shop {s w : Nat} (hs : s < 6) (hw : w < 28) (h2 : w ≠ 2) (h3 : w ≠ 3) : F5_shop u (nI s) (nI w) = u 0 (113 + 28 * s + w) := by
  unfold F5_shop F2_shopNumber
  rw [if_neg (show ¬ nI w = (2 : Int32) from nI_ne (b := 2) h2 (by omega) (by decide)), if_neg (show ¬ nI w = (3 : Int32) from nI_ne (b := 3) h3 (by omega) (by decide))]
  exact c_sh u (by omega)
theorem v_s0 {s : Nat} (hs : s < 6) : F5_shop u (nI s) 0 = u 0 (113 + 28 * s + 0) := v_shop (w := 0) hs (by decide) (by decide) (by decide)
theorem v_s1 {s : Nat} (hs : s < 6) : F5_shop u (nI s) 1 = u 0 (113 + 28 * s + 1) := v_shop (w := 1) hs (by decide) (by decide) (by decide)
theorem v_s4 {s : Nat} (hs : s < 6) : F5_shop u (nI s) 4 = u 0 (113 + 28 * s + 4) := v_shop (w := 4) hs (by decide) (by decide) (by decide)
theorem v_s5 {s : Nat} (hs : s < 6) : F5_shop u (nI s) 5 = u 0 (113 + 28 * s + 5) := v_shop (w := 5) hs (by decide) (by decide) (by decide)
theorem v_s6 {s : Nat} (hs : s < 6) : F5_shop u (nI s) 6 = u 0 (113 + 28 * s + 6) := v_shop (w := 6) hs (by decide) (by decide) (by decide)
theorem v_sF {s b : Nat} (hs : s < 6) (hb : b < 8) : F5_shop u (nI s) (10 + nI b) = u 0 (113 + 28 * s + (10 + b)) := by
  rw [show (10 + nI b : Int32) = nI (10 + b) from nI_add 10 b]
  exact v_shop hs (by omega) (by omega) (by omega)
theorem v_sE {s b : Nat} (hs : s < 6) (hb : b < 8) : F5_shop u (nI s) (20 + nI b) = u 0 (113 + 28 * s + (20 + b)) := by
  rw [show (20 + nI b : Int32) = nI (20 + b) from nI_add 20 b]
  exact v_shop hs (by omega) (by omega) (by omega)
theorem v_set {k : Nat} (hk : k < 6) : F5_setting u (nI k) = u 0 (11 + k) := c_set u (by omega)
theorem v_st3 : F5_setting u 3 = u 0 14 := v_set (k := 3) (by decide)
theorem v_st4 : F5_setting u 4 = u 0 15 := v_set (k := 4) (by decide)
theorem v_n3 : F5_count u 3 = Ss (u 0) 1 := by
  unfold F5_count F2_countNumber
  rw [if_neg (by decide), if_pos rfl]
  exact v_over (w := 1) (by decide)
theorem v_n4 : F5_count u 4 = u 0 4 := rfl
theorem v_n5 : F5_count u 5 = u 0 5 := rfl
theorem v_n6 : F5_count u 6 = u 0 6 := rfl
theorem v_nb7 {w : Nat} (hw : w < 12) : F2_overBrands u (nI w) = Sb (fun _ => 1) (u 0) w := by
  unfold F2_overBrands Sb
  rw [aL_cBrands u (nI w) 8 (8 + 1) 0 0 (by decide) (by decide)]
  exact acc_congr _ _ _ (fun i _ hi => by
    show F2_ofBrand u (nI i) (nI w) = u 0 (17 + 12 * i + w) * 1
    rw [Int32.mul_one]
    exact c_br u (by omega))
theorem v_n7 : F5_count u 7 = Sb (fun _ => 1) (u 0) 5 := by
  unfold F5_count F2_countNumber
  rw [if_neg (by decide), if_neg (by decide), if_pos rfl]
  exact v_nb7 (w := 5) (by decide)
theorem v_n8 : F5_count u 8 = Sb (fun _ => 1) (u 0) 6 := by
  unfold F5_count F2_countNumber
  rw [if_neg (by decide), if_neg (by decide), if_neg (by decide), if_pos rfl]
  exact v_nb7 (w := 6) (by decide)
-- the law's loops as sums
theorem lb37 {k : Nat} : ∀ (d f j : Nat) (x : Int32), j + d = 10 → d < f → (∀ i : Nat, j ≤ i → i < 10 → ¬ F5_brand u (nI k) (nI i) < 0) → LL_brands_37 u k f j 1 x = (1, acc (fun i => F5_brand u (nI k) (nI i)) d j x) := by
  intro d
  induction d with
  | zero =>
    intro f j x hj hf _
    obtain ⟨f, rfl⟩ : ∃ g : Nat, f = g + 1 := ⟨f - 1, by omega⟩
    rw [LL_brands_37, if_pos (show (10 : Int32) ≤ nI j from nI_le (a := 10) (by omega) (by omega))]; rfl
  | succ d ih =>
    intro f j x hj hf hn
    obtain ⟨f, rfl⟩ : ∃ g : Nat, f = g + 1 := ⟨f - 1, by omega⟩
    rw [LL_brands_37, if_neg (show ¬ (10 : Int32) ≤ nI j from nI_ge (b := 10) (by omega) (by decide)), if_neg (by decide), if_neg (hn j (by omega) (by omega)), ih _ _ _ (by omega) (by omega) (fun i a b => hn i (by omega) b)]
    rfl
theorem lb89 {k t : Nat} (e1 : u 0 1 = nI t) (ht : t ≤ 6) : ∀ (d f j : Nat) (x y : Int32), j + d = t → d < f → (∀ i : Nat, j ≤ i → i < t → ¬ F5_shop u (nI i) (10 + nI k) < 0 ∧ ¬ F5_shop u (nI i) (20 + nI k) < 0) → LL_brands_89 u k f j 1 x y = (1, acc (fun i => F5_shop u (nI i) (10 + nI k)) d j x, acc (fun i => F5_shop u (nI i) (20 + nI k)) d j y) := by
  intro d
  induction d with
  | zero =>
    intro f j x y hj hf _
    obtain ⟨f, rfl⟩ : ∃ g : Nat, f = g + 1 := ⟨f - 1, by omega⟩
    rw [LL_brands_89, if_pos (by rw [v_c1, e1]; exact nI_le (by omega) (by omega))]; rfl
  | succ d ih =>
    intro f j x y hj hf hn
    obtain ⟨f, rfl⟩ : ∃ g : Nat, f = g + 1 := ⟨f - 1, by omega⟩
    rw [LL_brands_89, if_neg (by rw [v_c1, e1]; exact nI_ge (by omega) (by omega)), if_neg (by decide), if_neg (hn j (by omega) (by omega)).1, if_neg (hn j (by omega) (by omega)).2, ih _ _ _ _ (by omega) (by omega) (fun i a b => hn i (by omega) b)]
    rfl
theorem lb10 {fb : Nat → Int32} {n : Nat} (e0 : u 0 0 = nI n) (hn : n ≤ 8) (hk : ∀ k : Nat, k < n → ∃ s p q : Int32, LL_brands_37 u k (10 + 1) 1 1 0 = (1, s) ∧ LL_brands_89 u k ((F5_count u 1).toNatClampNeg + 1) 0 1 0 0 = (1, p, q) ∧ s + F5_brand u (nI k) 11 = fb k ∧ p = F5_brand u (nI k) 3 ∧ q = F5_brand u (nI k) 4 ∧ ¬ F5_brand u (nI k) 10 < F5_brand u (nI k) 9) : ∀ (d f j : Nat) (x y : Int32), j + d = n → d < f → LL_brands_10 u fb f j x y 1 = (acc (fun i => F5_brand u (nI i) 5) d j x, acc (fun i => F5_brand u (nI i) 6) d j y, 1) := by
  intro d
  induction d with
  | zero =>
    intro f j x y hj hf
    obtain ⟨f, rfl⟩ : ∃ g : Nat, f = g + 1 := ⟨f - 1, by omega⟩
    rw [LL_brands_10, if_pos (by rw [v_c0, e0]; exact nI_le (by omega) (by omega))]; rfl
  | succ d ih =>
    intro f j x y hj hf
    obtain ⟨f, rfl⟩ : ∃ g : Nat, f = g + 1 := ⟨f - 1, by omega⟩
    obtain ⟨s, p, q, a1, a2, a3, a4, a5, a6⟩ := hk j (by omega)
    rw [LL_brands_10, if_neg (by rw [v_c0, e0]; exact nI_ge (by omega) (by omega)), if_neg (by decide)]
    rw [a1]
    dsimp only
    rw [a2]
    dsimp only
    rw [if_neg (by decide), if_pos (by rw [mC (by omega)]; exact a3), if_pos a4, if_pos a5, if_neg a6, ih _ _ _ _ (by omega) (by omega)]
    rfl
end RD
theorem Ss_rg {B : Nat} {c : Nat → Int32} (hN : NN B c) {w : Nat} (hw : w ≤ 1 ∨ (10 ≤ w ∧ w < 18) ∨ (20 ≤ w ∧ w < 28)) (hB : B < 300000000) : rg (0 + 6 * B) (Ss c w) := by
  refine acc_rg 6 0 0 0 (rg_nI (a := 0) (Nat.le_refl _) (by decide)) (fun i _ hi => hN _ (pP_s (by omega) hw)) (by omega)
/-- brands: every brand's bottles are at their places -/
theorem brands_ok {B n t : Nat} {kd : Nat → Nat} {f : Nat} {m k al : Int32} {bb fb : Nat → Int32} {u : bU} (h : INV B n t kd f m k al bb (u 0)) (hB : B < 300000000) (hf : ∀ j : Nat, j < n → fb j = bb j) : FL_brands u fb = 1 := by
  obtain ⟨⟨⟨hn, ht, h0, h1⟩, hK, -⟩, ⟨z1, z2, z3, z4⟩, hN, hW, -, ⟨e1, -⟩⟩ := h
  have hk : ∀ k : Nat, k < n → ∃ s p q : Int32, LL_brands_37 u k (10 + 1) 1 1 0 = (1, s) ∧ LL_brands_89 u k ((F5_count u 1).toNatClampNeg + 1) 0 1 0 0 = (1, p, q) ∧ s + F5_brand u (nI k) 11 = fb k ∧ p = F5_brand u (nI k) 3 ∧ q = F5_brand u (nI k) 4 ∧ ¬ F5_brand u (nI k) 10 < F5_brand u (nI k) 9 := by
    intro k hk
    have hk8 : k < 8 := by omega
    have r3 : rg (0 + 6 * B) (Ss (u 0) (10 + k)) := Ss_rg hN (by omega) hB
    have r4 : rg (0 + 6 * B) (Ss (u 0) (20 + k)) := Ss_rg hN (by omega) hB
    have hnn : ∀ i : Nat, 1 ≤ i → i < 10 → ¬ F5_brand u (nI k) (nI i) < 0 := by
      intro i a b
      by_cases q3 : i = 3
      · subst q3
        rw [show F5_brand u (nI k) (nI 3) = _ from v_b3 hk8]; exact rg_nlt r3
      · by_cases q4 : i = 4
        · subst q4
          rw [show F5_brand u (nI k) (nI 4) = _ from v_b4 hk8]; exact rg_nlt r4
        · rw [v_brand hk8 (by omega) q3 q4]; exact rg_nlt (hN _ (pP_b hk8 (by omega)))
    obtain ⟨F, hF, f10, f9⟩ := hW k hk8
    refine ⟨_, _, _, lb37 9 (10 + 1) 1 0 rfl (by decide) hnn, lb89 h1 ht t _ 0 0 0 (by omega) (by rw [v_c1, h1, mC (by omega)]; omega) (fun i _ hi => ⟨?_, ?_⟩), ?_, ?_, ?_, ?_⟩
    · rw [v_sF (by omega) hk8]; exact rg_nlt (hN _ (pP_s (by omega) (by omega)))
    · rw [v_sE (by omega) hk8]; exact rg_nlt (hN _ (pP_s (by omega) (by omega)))
    · rw [hf k hk, ← e1 k hk8, v_b11 hk8]
      show 0 + F5_brand u (nI k) (nI 1) + F5_brand u (nI k) (nI 2) + F5_brand u (nI k) (nI 3) + F5_brand u (nI k) (nI 4) + F5_brand u (nI k) (nI 5) + F5_brand u (nI k) (nI 6) + F5_brand u (nI k) (nI 7) + F5_brand u (nI k) (nI 8) + F5_brand u (nI k) (nI 9) + u 0 (17 + 12 * k + 11) = Ab (u 0) k
      rw [show F5_brand u (nI k) (nI 3) = _ from v_b3 hk8, show F5_brand u (nI k) (nI 4) = _ from v_b4 hk8, v_brand (w := 1) hk8 (by decide) (by decide) (by decide), v_brand (w := 2) hk8 (by decide) (by decide) (by decide), v_brand (w := 5) hk8 (by decide) (by decide) (by decide), v_brand (w := 6) hk8 (by decide) (by decide) (by decide), v_brand (w := 7) hk8 (by decide) (by decide) (by decide), v_brand (w := 8) hk8 (by decide) (by decide) (by decide), v_brand (w := 9) hk8 (by decide) (by decide) (by decide), Int32.zero_add]
      rfl
    · rw [v_b3 hk8]
      refine ((acc_cut (n := t) (N := 6) ht 0 (fun i hi => (v_sF (u := u) (s := i) (b := k) (by omega) hk8).symm) (fun i a b => ?_)).symm)
      exact (z2 i (10 + k) a b (by omega))
    · rw [v_b4 hk8]
      refine ((acc_cut (n := t) (N := 6) ht 0 (fun i hi => (v_sE (u := u) (s := i) (b := k) (by omega) hk8).symm) (fun i a b => ?_)).symm)
      exact (z2 i (20 + k) a b (by omega))
    · rw [v_b10 hk8, v_b9 hk8, f10, f9]
      exact nI_nlt (Nat.div_le_self _ _) (by omega)
  have key := lb10 (fb := fb) h0 hn hk n ((F5_count u 0).toNatClampNeg + 1) 0 0 0 (by omega) (by rw [v_c0, h0, mC (by omega)]; omega)
  unfold FL_brands
  rw [key]
  dsimp only
  rw [if_neg (by decide), if_pos ?_, if_pos ?_]
  · rw [v_n8]
    refine (acc_cut (n := n) (N := 8) hn 0 (fun i hi => ?_) (fun i a b => ?_)).symm
    · rw [v_b6 (by omega), Int32.mul_one]
    · rw [z1 i 6 a b (by decide) (by decide), Int32.zero_mul]
  · rw [v_n7]
    refine (acc_cut (n := n) (N := 8) hn 0 (fun i hi => ?_) (fun i a b => ?_)).symm
    · rw [v_b5 (by omega), Int32.mul_one]
    · rw [z1 i 5 a b (by decide) (by decide), Int32.zero_mul]

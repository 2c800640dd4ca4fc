-- LOOPS AS SUMS (own text, part by program)
def acc (f : Nat → Int32) : Nat → Nat → Int32 → Int32
  | 0, _, x => x
  | d + 1, j, x => acc f d (j + 1) (x + f j)
theorem acc_congr {f g : Nat → Int32} : ∀ (d j : Nat) (x : Int32), (∀ i : Nat, j ≤ i → i < j + d → f i = g i) → acc f d j x = acc g d j x := by
  intro d
  induction d with
  | zero => intro j x _; rfl
  | succ d ih =>
    intro j x h
    show acc f d (j + 1) (x + f j) = acc g d (j + 1) (x + g j)
    rw [h j (by omega) (by omega), ih (j + 1) (x + g j) (fun i h1 h2 => h i (by omega) (by omega))]
theorem acc_zero {f : Nat → Int32} : ∀ (d j : Nat) (x : Int32), (∀ i : Nat, j ≤ i → i < j + d → f i = 0) → acc f d j x = x := by
  intro d
  induction d with
  | zero => intro j x _; rfl
  | succ d ih =>
    intro j x h
    show acc f d (j + 1) (x + f j) = x
    rw [h j (by omega) (by omega), Int32.add_zero, ih (j + 1) x (fun i h1 h2 => h i (by omega) (by omega))]
theorem acc_split (f : Nat → Int32) : ∀ (a b j : Nat) (x : Int32), acc f (a + b) j x = acc f b (j + a) (acc f a j x) := by
  intro a
  induction a with
  | zero => intro b j x; rw [Nat.zero_add]; rfl
  | succ a ih =>
    intro b j x
    rw [show a + 1 + b = (a + b) + 1 by omega]
    show acc f (a + b) (j + 1) (x + f j) = acc f b (j + (a + 1)) (acc f a (j + 1) (x + f j))
    rw [ih, show j + 1 + a = j + (a + 1) by omega]
/-- the longer sum, whose last numbers are 0 -/
theorem acc_cut {f g : Nat → Int32} {n N : Nat} (hn : n ≤ N) (x : Int32) (h1 : ∀ i : Nat, i < n → f i = g i) (h2 : ∀ i : Nat, n ≤ i → i < N → f i = 0) : acc f N 0 x = acc g n 0 x := by
  rw [show N = n + (N - n) by omega, acc_split, acc_zero _ _ _ (fun i a b => h2 i (by omega) (by omega))]
  exact acc_congr _ _ _ (fun i _ b => h1 i (by omega))
theorem aL_cYard (u : bU) (a1 : Int32) : ∀ (d f j : Nat) (x : Int32), j + d = 8 → d < f → L4_yardOf_4 u a1 f j x = acc (fun j : Nat => if F2_ofBrand u (nI j) 0 = a1 then F2_ofBrand u (nI j) 6 else 0) d j x := by
  intro d
  induction d with
  | zero =>
    intro f j x hj hf
    obtain ⟨f, rfl⟩ : ∃ g : Nat, f = g + 1 := ⟨f - 1, by omega⟩
    rw [L4_yardOf_4, if_pos (show (8 : Int32) ≤ nI j from nI_le (a := 8) (by omega) (by omega))]; rfl
  | succ d ih =>
    intro f j x hj hf
    obtain ⟨f, rfl⟩ : ∃ g : Nat, f = g + 1 := ⟨f - 1, by omega⟩
    rw [L4_yardOf_4, if_neg (show ¬ (8 : Int32) ≤ nI j from nI_ge (b := 8) (by omega) (by decide))]
    by_cases c : F2_ofBrand u (nI j) 0 = a1
    · rw [if_pos c, ih _ _ _ (by omega) (by omega)]
      show acc _ d (j + 1) (x + F2_ofBrand u (nI j) 6) = acc _ d (j + 1) (x + (if F2_ofBrand u (nI j) 0 = a1 then F2_ofBrand u (nI j) 6 else 0))
      rw [if_pos c]
    · rw [if_neg c, ih _ _ _ (by omega) (by omega)]
      show acc _ d (j + 1) x = acc _ d (j + 1) (x + (if F2_ofBrand u (nI j) 0 = a1 then F2_ofBrand u (nI j) 6 else 0))
      rw [if_neg c, Int32.add_zero]
theorem aL_mYard (u : bU) (a1 : Int32) {n : Nat} (e0 : u 0 0 = nI n) (hn : n ≤ 8) : ∀ (d f j : Nat) (x : Int32), j + d = n → d < f → L6_yardOf_4 u a1 f j x = acc (fun j : Nat => if F6_of u (nI j) 0 = a1 then F6_of u (nI j) 4 else 0) d j x := by
  intro d
  induction d with
  | zero =>
    intro f j x hj hf
    obtain ⟨f, rfl⟩ : ∃ g : Nat, f = g + 1 := ⟨f - 1, by omega⟩
    rw [L6_yardOf_4, if_pos (by rw [e0]; exact nI_le (by omega) (by omega))]; rfl
  | succ d ih =>
    intro f j x hj hf
    obtain ⟨f, rfl⟩ : ∃ g : Nat, f = g + 1 := ⟨f - 1, by omega⟩
    rw [L6_yardOf_4, if_neg (by rw [e0]; exact nI_ge (by omega) (by omega))]
    by_cases c : F6_of u (nI j) 0 = a1
    · rw [if_pos c, ih _ _ _ (by omega) (by omega)]
      show acc _ d (j + 1) (x + F6_of u (nI j) 4) = acc _ d (j + 1) (x + (if F6_of u (nI j) 0 = a1 then F6_of u (nI j) 4 else 0))
      rw [if_pos c]
    · rw [if_neg c, Int32.add_zero, ih _ _ _ (by omega) (by omega)]
      show acc _ d (j + 1) x = acc _ d (j + 1) (x + (if F6_of u (nI j) 0 = a1 then F6_of u (nI j) 4 else 0))
      rw [if_neg c, Int32.add_zero]
theorem aL_cEmp (u : bU) (a1 a2 : Int32) : ∀ (d f j : Nat) (x : Int32), j + d = 8 → d < f → L4_emptiesOf_5 u a1 a2 f j x = acc (fun j : Nat => if F2_ofBrand u (nI j) 0 = a2 then F2_ofShop u a1 (20 + nI j) else 0) d j x := by
  intro d
  induction d with
  | zero =>
    intro f j x hj hf
    obtain ⟨f, rfl⟩ : ∃ g : Nat, f = g + 1 := ⟨f - 1, by omega⟩
    rw [L4_emptiesOf_5, if_pos (show (8 : Int32) ≤ nI j from nI_le (a := 8) (by omega) (by omega))]; rfl
  | succ d ih =>
    intro f j x hj hf
    obtain ⟨f, rfl⟩ : ∃ g : Nat, f = g + 1 := ⟨f - 1, by omega⟩
    rw [L4_emptiesOf_5, if_neg (show ¬ (8 : Int32) ≤ nI j from nI_ge (b := 8) (by omega) (by decide))]
    by_cases c : F2_ofBrand u (nI j) 0 = a2
    · rw [if_pos c, ih _ _ _ (by omega) (by omega)]
      show acc _ d (j + 1) (x + F2_ofShop u a1 (20 + nI j)) = acc _ d (j + 1) (x + (if F2_ofBrand u (nI j) 0 = a2 then F2_ofShop u a1 (20 + nI j) else 0))
      rw [if_pos c]
    · rw [if_neg c, ih _ _ _ (by omega) (by omega)]
      show acc _ d (j + 1) x = acc _ d (j + 1) (x + (if F2_ofBrand u (nI j) 0 = a2 then F2_ofShop u a1 (20 + nI j) else 0))
      rw [if_neg c, Int32.add_zero]
theorem aL_mEmp (u : bU) (a1 a2 : Int32) {n : Nat} (e0 : u 0 0 = nI n) (hn : n ≤ 8) : ∀ (d f j : Nat) (x : Int32), j + d = n → d < f → L6_emptiesOf_5 u a1 a2 f j x = acc (fun j : Nat => if F6_of u (nI j) 0 = a2 then F6_ofShop u a1 (13 + nI j) else 0) d j x := by
  intro d
  induction d with
  | zero =>
    intro f j x hj hf
    obtain ⟨f, rfl⟩ : ∃ g : Nat, f = g + 1 := ⟨f - 1, by omega⟩
    rw [L6_emptiesOf_5, if_pos (by rw [e0]; exact nI_le (by omega) (by omega))]; rfl
  | succ d ih =>
    intro f j x hj hf
    obtain ⟨f, rfl⟩ : ∃ g : Nat, f = g + 1 := ⟨f - 1, by omega⟩
    rw [L6_emptiesOf_5, if_neg (by rw [e0]; exact nI_ge (by omega) (by omega))]
    by_cases c : F6_of u (nI j) 0 = a2
    · rw [if_pos c, ih _ _ _ (by omega) (by omega)]
      show acc _ d (j + 1) (x + F6_ofShop u a1 (13 + nI j)) = acc _ d (j + 1) (x + (if F6_of u (nI j) 0 = a2 then F6_ofShop u a1 (13 + nI j) else 0))
      rw [if_pos c]
    · rw [if_neg c, Int32.add_zero, ih _ _ _ (by omega) (by omega)]
      show acc _ d (j + 1) x = acc _ d (j + 1) (x + (if F6_of u (nI j) 0 = a2 then F6_ofShop u a1 (13 + nI j) else 0))
      rw [if_neg c, Int32.add_zero]
theorem aL_cShops (u : bU) (a1 : Int32) : ∀ (d f j : Nat) (x : Int32), j + d = 6 → d < f → L2_overShops_4 u a1 f j x = acc (fun j : Nat => F2_ofShop u (nI j) a1) d j x := by
  intro d
  induction d with
  | zero =>
    intro f j x hj hf
    obtain ⟨f, rfl⟩ : ∃ g : Nat, f = g + 1 := ⟨f - 1, by omega⟩
    rw [L2_overShops_4, if_pos (show (6 : Int32) ≤ nI j from nI_le (a := 6) (by omega) (by omega))]; rfl
  | succ d ih =>
    intro f j x hj hf
    obtain ⟨f, rfl⟩ : ∃ g : Nat, f = g + 1 := ⟨f - 1, by omega⟩
    rw [L2_overShops_4, if_neg (show ¬ (6 : Int32) ≤ nI j from nI_ge (b := 6) (by omega) (by decide))]
    rw [ih _ _ _ (by omega) (by omega)]
    rfl
theorem aL_mCrates (u : bU) {n : Nat} (e0 : u 0 1 = nI n) (hn : n ≤ 6) : ∀ (d f j : Nat) (x : Int32), j + d = n → d < f → L6_cratesInShops_4 u f j x = acc (fun j : Nat => F6_ofShop u (nI j) 1) d j x := by
  intro d
  induction d with
  | zero =>
    intro f j x hj hf
    obtain ⟨f, rfl⟩ : ∃ g : Nat, f = g + 1 := ⟨f - 1, by omega⟩
    rw [L6_cratesInShops_4, if_pos (by rw [e0]; exact nI_le (by omega) (by omega))]; rfl
  | succ d ih =>
    intro f j x hj hf
    obtain ⟨f, rfl⟩ : ∃ g : Nat, f = g + 1 := ⟨f - 1, by omega⟩
    rw [L6_cratesInShops_4, if_neg (by rw [e0]; exact nI_ge (by omega) (by omega))]
    rw [ih _ _ _ (by omega) (by omega)]
    rfl
theorem aL_mInShops (u : bU) (a1 a2 : Int32) {n : Nat} (e0 : u 0 1 = nI n) (hn : n ≤ 6) : ∀ (d f j : Nat) (x : Int32), j + d = n → d < f → L6_inShops_5 u a1 a2 f j x = acc (fun j : Nat => F6_ofShop u (nI j) (a2 + a1)) d j x := by
  intro d
  induction d with
  | zero =>
    intro f j x hj hf
    obtain ⟨f, rfl⟩ : ∃ g : Nat, f = g + 1 := ⟨f - 1, by omega⟩
    rw [L6_inShops_5, if_pos (by rw [e0]; exact nI_le (by omega) (by omega))]; rfl
  | succ d ih =>
    intro f j x hj hf
    obtain ⟨f, rfl⟩ : ∃ g : Nat, f = g + 1 := ⟨f - 1, by omega⟩
    rw [L6_inShops_5, if_neg (by rw [e0]; exact nI_ge (by omega) (by omega))]
    rw [ih _ _ _ (by omega) (by omega)]
    rfl
theorem aL_cBrands (u : bU) (a1 : Int32) : ∀ (d f j : Nat) (x : Int32), j + d = 8 → d < f → L2_overBrands_4 u a1 f j x = acc (fun j : Nat => F2_ofBrand u (nI j) a1) d j x := by
  intro d
  induction d with
  | zero =>
    intro f j x hj hf
    obtain ⟨f, rfl⟩ : ∃ g : Nat, f = g + 1 := ⟨f - 1, by omega⟩
    rw [L2_overBrands_4, if_pos (show (8 : Int32) ≤ nI j from nI_le (a := 8) (by omega) (by omega))]; rfl
  | succ d ih =>
    intro f j x hj hf
    obtain ⟨f, rfl⟩ : ∃ g : Nat, f = g + 1 := ⟨f - 1, by omega⟩
    rw [L2_overBrands_4, if_neg (show ¬ (8 : Int32) ≤ nI j from nI_ge (b := 8) (by omega) (by decide))]
    rw [ih _ _ _ (by omega) (by omega)]
    rfl
theorem aL_cOf (u : bU) (a1 a2 : Int32) : ∀ (d f j : Nat) (x : Int32), j + d = 8 → d < f → L2_overBrandsOf_5 u a1 a2 f j x = acc (fun j : Nat => F2_ofShop u a1 (a2 + nI j)) d j x := by
  intro d
  induction d with
  | zero =>
    intro f j x hj hf
    obtain ⟨f, rfl⟩ : ∃ g : Nat, f = g + 1 := ⟨f - 1, by omega⟩
    rw [L2_overBrandsOf_5, if_pos (show (8 : Int32) ≤ nI j from nI_le (a := 8) (by omega) (by omega))]; rfl
  | succ d ih =>
    intro f j x hj hf
    obtain ⟨f, rfl⟩ : ∃ g : Nat, f = g + 1 := ⟨f - 1, by omega⟩
    rw [L2_overBrandsOf_5, if_neg (show ¬ (8 : Int32) ≤ nI j from nI_ge (b := 8) (by omega) (by decide))]
    rw [ih _ _ _ (by omega) (by omega)]
    rfl
theorem aL_mSumOf (u : bU) (a1 a2 : Int32) : ∀ (d f j : Nat) (x : Int32), j + d = 8 → d < f → L6_sumOf_5 u a1 a2 f j x = acc (fun j : Nat => F6_ofShop u a1 (a2 + nI j)) d j x := by
  intro d
  induction d with
  | zero =>
    intro f j x hj hf
    obtain ⟨f, rfl⟩ : ∃ g : Nat, f = g + 1 := ⟨f - 1, by omega⟩
    rw [L6_sumOf_5, if_pos (show (8 : Int32) ≤ nI j from nI_le (a := 8) (by omega) (by omega))]; rfl
  | succ d ih =>
    intro f j x hj hf
    obtain ⟨f, rfl⟩ : ∃ g : Nat, f = g + 1 := ⟨f - 1, by omega⟩
    rw [L6_sumOf_5, if_neg (show ¬ (8 : Int32) ≤ nI j from nI_ge (b := 8) (by omega) (by decide))]
    rw [ih _ _ _ (by omega) (by omega)]
    rfl
theorem aL_mNumber (u : bU) {n : Nat} (e0 : u 0 0 = nI n) (hn : n ≤ 8) : ∀ (d f j : Nat) (x y : Int32), j + d = n → d < f → L6_number_7 u f j x y = (acc (fun j : Nat => F6_of u (nI j) 3) d j x, acc (fun j : Nat => F6_of u (nI j) 4) d j y) := by
  intro d
  induction d with
  | zero =>
    intro f j x y hj hf
    obtain ⟨f, rfl⟩ : ∃ g : Nat, f = g + 1 := ⟨f - 1, by omega⟩
    rw [L6_number_7, if_pos (by rw [e0]; exact nI_le (by omega) (by omega))]; rfl
  | succ d ih =>
    intro f j x y hj hf
    obtain ⟨f, rfl⟩ : ∃ g : Nat, f = g + 1 := ⟨f - 1, by omega⟩
    rw [L6_number_7, if_neg (by rw [e0]; exact nI_ge (by omega) (by omega)), ih _ _ _ _ (by omega) (by omega)]
    rfl
-- the sums of the two sides
section
variable {u v : bU} {B n t : Nat} {α β : Int}
theorem gQ_0 {m : Nat → Int32} (h : gQ B n t α β m) : n ≤ 8 ∧ t ≤ 6 ∧ m 0 = nI n ∧ m 1 = nI t := h.1
theorem z_b {m : Nat → Int32} (h : gQ B n t α β m) {b w : Nat} (h1 : n ≤ b) (h2 : b < 8) (hw : w < 10) : m (13 + 10 * b + w) = 0 := h.2.2.1.1 b w h1 h2 hw
theorem z_s {m : Nat → Int32} (h : gQ B n t α β m) {s w : Nat} (h1 : t ≤ s) (h2 : s < 6) (hw : w < 21) : m (93 + 21 * s + w) = 0 := h.2.2.1.2.1 s w h1 h2 hw
theorem z_F {m : Nat → Int32} (h : gQ B n t α β m) {s b : Nat} (hs : s < 6) (h1 : n ≤ b) (h2 : b < 8) : m (93 + 21 * s + (5 + b)) = 0 := (h.2.2.1.2.2 s b hs h1 h2).1
theorem z_E {m : Nat → Int32} (h : gQ B n t α β m) {s b : Nat} (hs : s < 6) (h1 : n ≤ b) (h2 : b < 8) : m (93 + 21 * s + (13 + b)) = 0 := (h.2.2.1.2.2 s b hs h1 h2).2
theorem r_b (hr : rV (u 0) (v 0)) {b w : Nat} (hb : b < 8) (hw : w < 10) : F2_ofBrand u (nI b) (nI (phW w)) = F6_of v (nI b) (nI w) := by
  have : phW w ≤ 11 := by unfold phW; split <;> omega
  rw [c_br u (by omega), m_br v (by omega), rV_b hr hb hw]
theorem r_s (hr : rV (u 0) (v 0)) {s w : Nat} (hs : s < 6) (hw : w < 21) : F2_ofShop u (nI s) (nI (phS w)) = F6_ofShop v (nI s) (nI w) := by
  have : phS w ≤ 27 := by unfold phS; (repeat' split) <;> omega
  rw [c_sh u (by omega), m_sh v (by omega), rV_s hr hs hw]
theorem r_F (hr : rV (u 0) (v 0)) {s b : Nat} (hs : s < 6) (hb : b < 8) : F2_ofShop u (nI s) (10 + nI b) = F6_ofShop v (nI s) (5 + nI b) := by
  rw [show (10 + nI b : Int32) = nI (10 + b) from nI_add 10 b, show (5 + nI b : Int32) = nI (5 + b) from nI_add 5 b, c_sh u (by omega), m_sh v (by omega), ← phi_sF hs hb, hr.1 _ (by omega)]
theorem r_E (hr : rV (u 0) (v 0)) {s b : Nat} (hs : s < 6) (hb : b < 8) : F2_ofShop u (nI s) (20 + nI b) = F6_ofShop v (nI s) (13 + nI b) := by
  rw [show (20 + nI b : Int32) = nI (20 + b) from nI_add 20 b, show (13 + nI b : Int32) = nI (13 + b) from nI_add 13 b, c_sh u (by omega), m_sh v (by omega), ← phi_sE hs hb, hr.1 _ (by omega)]
theorem mz_b (h : gQ B n t α β (v 0)) {b w : Nat} (h1 : n ≤ b) (h2 : b < 8) (hw : w < 10) : F6_of v (nI b) (nI w) = 0 := by rw [m_br v (by omega)]; exact z_b h h1 h2 hw
theorem mz_s (h : gQ B n t α β (v 0)) {s w : Nat} (h1 : t ≤ s) (h2 : s < 6) (hw : w < 21) : F6_ofShop v (nI s) (nI w) = 0 := by rw [m_sh v (by omega)]; exact z_s h h1 h2 hw
theorem mz_F (h : gQ B n t α β (v 0)) {s b : Nat} (hs : s < 6) (h1 : n ≤ b) (h2 : b < 8) : F6_ofShop v (nI s) (5 + nI b) = 0 := by rw [show (5 + nI b : Int32) = nI (5 + b) from nI_add 5 b, m_sh v (by omega)]; exact z_F h hs h1 h2
theorem mz_E (h : gQ B n t α β (v 0)) {s b : Nat} (hs : s < 6) (h1 : n ≤ b) (h2 : b < 8) : F6_ofShop v (nI s) (13 + nI b) = 0 := by rw [show (13 + nI b : Int32) = nI (13 + b) from nI_add 13 b, m_sh v (by omega)]; exact z_E h hs h1 h2
theorem yard_eq (hr : rV (u 0) (v 0)) (h : gQ B n t α β (v 0)) (a : Int32) : F4_yardOf u a = F6_yardOf v a := by
  obtain ⟨hn, ht, e0, e1⟩ := gQ_0 h
  unfold F4_yardOf F6_yardOf
  rw [aL_cYard u a 8 _ 0 0 (by decide) (by decide), aL_mYard v a e0 hn n _ 0 0 (by omega) (by rw [e0, mC (by omega)]; omega)]
  refine acc_cut hn 0 (fun i hi => ?_) (fun i h1 h2 => ?_)
  · rw [show F2_ofBrand u (nI i) 0 = F6_of v (nI i) 0 from r_b hr (w := 0) (by omega) (by decide), show F2_ofBrand u (nI i) 6 = F6_of v (nI i) 4 from r_b hr (w := 4) (by omega) (by decide)]
  · rw [show F2_ofBrand u (nI i) 6 = F6_of v (nI i) 4 from r_b hr (w := 4) (by omega) (by decide), show F6_of v (nI i) 4 = 0 from mz_b h (w := 4) h1 h2 (by decide), ite_self]
theorem emp_eq (hr : rV (u 0) (v 0)) (h : gQ B n t α β (v 0)) {s : Nat} (hs : s < 6) (a : Int32) : F4_emptiesOf u (nI s) a = F6_emptiesOf v (nI s) a := by
  obtain ⟨hn, ht, e0, e1⟩ := gQ_0 h
  unfold F4_emptiesOf F6_emptiesOf
  rw [aL_cEmp u _ a 8 _ 0 0 (by decide) (by decide), aL_mEmp v _ a e0 hn n _ 0 0 (by omega) (by rw [e0, mC (by omega)]; omega)]
  refine acc_cut hn 0 (fun i hi => ?_) (fun i h1 h2 => ?_)
  · rw [show F2_ofBrand u (nI i) 0 = F6_of v (nI i) 0 from r_b hr (w := 0) (by omega) (by decide), r_E hr hs (by omega)]
  · rw [r_E hr hs (by omega), mz_E h hs h1 h2, ite_self]
theorem crates_eq (hr : rV (u 0) (v 0)) (h : gQ B n t α β (v 0)) : F2_overShops u 1 = F6_cratesInShops v := by
  obtain ⟨hn, ht, e0, e1⟩ := gQ_0 h
  unfold F2_overShops F6_cratesInShops
  rw [aL_cShops u _ 6 _ 0 0 (by decide) (by decide), aL_mCrates v e1 ht t _ 0 0 (by omega) (by rw [e1, mC (by omega)]; omega)]
  refine acc_cut ht 0 (fun i hi => ?_) (fun i h1 h2 => ?_)
  · exact r_s hr (w := 1) (by omega) (by decide)
  · rw [show F2_ofShop u (nI i) 1 = F6_ofShop v (nI i) 1 from r_s hr (w := 1) (by omega) (by decide)]
    exact mz_s h (w := 1) h1 h2 (by decide)
theorem full_eq (hr : rV (u 0) (v 0)) (h : gQ B n t α β (v 0)) {b : Nat} (hb : b < 8) : F2_overShops u (10 + nI b) = F6_inShops v (nI b) 5 := by
  obtain ⟨hn, ht, e0, e1⟩ := gQ_0 h
  unfold F2_overShops F6_inShops
  rw [aL_cShops u _ 6 _ 0 0 (by decide) (by decide), aL_mInShops v _ _ e1 ht t _ 0 0 (by omega) (by rw [e1, mC (by omega)]; omega)]
  refine acc_cut ht 0 (fun i hi => ?_) (fun i h1 h2 => ?_)
  · exact r_F hr (by omega) hb
  · rw [r_F hr (by omega) hb, show (5 + nI b : Int32) = nI (5 + b) from nI_add 5 b]
    exact mz_s h h1 h2 (by omega)
theorem empt_eq (hr : rV (u 0) (v 0)) (h : gQ B n t α β (v 0)) {b : Nat} (hb : b < 8) : F2_overShops u (20 + nI b) = F6_inShops v (nI b) 13 := by
  obtain ⟨hn, ht, e0, e1⟩ := gQ_0 h
  unfold F2_overShops F6_inShops
  rw [aL_cShops u _ 6 _ 0 0 (by decide) (by decide), aL_mInShops v _ _ e1 ht t _ 0 0 (by omega) (by rw [e1, mC (by omega)]; omega)]
  refine acc_cut ht 0 (fun i hi => ?_) (fun i h1 h2 => ?_)
  · exact r_E hr (by omega) hb
  · rw [r_E hr (by omega) hb, show (13 + nI b : Int32) = nI (13 + b) from nI_add 13 b]
    exact mz_s h h1 h2 (by omega)
theorem of_eq (hr : rV (u 0) (v 0)) {s : Nat} (hs : s < 6) : F2_overBrandsOf u (nI s) 10 = F6_sumOf v (nI s) 5 ∧ F2_overBrandsOf u (nI s) 20 = F6_sumOf v (nI s) 13 := by
  unfold F2_overBrandsOf F6_sumOf
  rw [aL_cOf u _ _ 8 _ 0 0 (by decide) (by decide), aL_cOf u _ _ 8 _ 0 0 (by decide) (by decide), aL_mSumOf v _ _ 8 _ 0 0 (by decide) (by decide), aL_mSumOf v _ _ 8 _ 0 0 (by decide) (by decide)]
  exact ⟨acc_congr _ _ _ (fun i _ h2 => r_F hr hs (by omega)), acc_congr _ _ _ (fun i _ h2 => r_E hr hs (by omega))⟩
theorem num_eq (hr : rV (u 0) (v 0)) (h : gQ B n t α β (v 0)) : L6_number_7 v ((v 0 0).toNatClampNeg + 1) 0 0 0 = (F2_overBrands u 5, F2_overBrands u 6) := by
  obtain ⟨hn, ht, e0, e1⟩ := gQ_0 h
  unfold F2_overBrands
  rw [aL_cBrands u _ 8 _ 0 0 (by decide) (by decide), aL_cBrands u _ 8 _ 0 0 (by decide) (by decide), aL_mNumber v e0 hn n _ 0 0 0 (by omega) (by rw [e0, mC (by omega)]; omega)]
  congr 1
  · exact (acc_cut hn 0 (fun i hi => r_b hr (w := 3) (by omega) (by decide)) (fun i h1 h2 => (r_b hr (w := 3) (by omega) (by decide)).trans (mz_b h (w := 3) h1 h2 (by decide)))).symm
  · exact (acc_cut hn 0 (fun i hi => r_b hr (w := 4) (by omega) (by decide)) (fun i h1 h2 => (r_b hr (w := 4) (by omega) (by decide)).trans (mz_b h (w := 4) h1 h2 (by decide)))).symm
end

-- COLLECT: which bottles are picked, as numbers (own text)
def scan (e : Nat → Nat) : Nat → Nat → Nat → Nat → Nat × Nat
  | 0, _, x, y => (x, y)
  | d + 1, j, x, y => if e j ≤ y then scan e d (j + 1) x y else scan e d (j + 1) j (e j)
theorem scan_L {w : bU} {e : Nat → Nat} {M : Nat} (hM : M < 2147483648) (hw : ∀ i : Nat, i < 8 → w 1 i = nI (e i) ∧ e i ≤ M) : ∀ (d fu j x y : Nat), j + d = 8 → d < fu → y ≤ M → L4_pickOne_6 w fu j (nI x) (nI y) = (nI (scan e d j x y).1, nI (scan e d j x y).2) := by
  intro d
  induction d with
  | zero =>
    intro fu j x y hj hf _
    obtain ⟨fu, rfl⟩ : ∃ g : Nat, fu = g + 1 := ⟨fu - 1, by omega⟩
    rw [L4_pickOne_6, if_pos (show (8 : Int32) ≤ nI j from nI_le (a := 8) (by omega) (by omega))]; rfl
  | succ d ih =>
    intro fu j x y hj hf hy
    obtain ⟨fu, rfl⟩ : ∃ g : Nat, fu = g + 1 := ⟨fu - 1, by omega⟩
    obtain ⟨e1, e2⟩ := hw j (by omega)
    rw [L4_pickOne_6, if_neg (show ¬ (8 : Int32) ≤ nI j from nI_ge (b := 8) (by omega) (by decide)), mC (by omega), e1, scan]
    by_cases c : e j ≤ y
    · rw [if_pos ((nI_leI (by omega) (by omega)).mpr c), if_pos c]
      exact ih fu (j + 1) x y (by omega) (by omega) hy
    · rw [if_neg (fun z => c ((nI_leI (by omega) (by omega)).mp z)), if_neg c]
      exact ih fu (j + 1) j (e j) (by omega) (by omega) e2
theorem scan_p {e : Nat → Nat} : ∀ (d j x y : Nat), y ≤ (scan e d j x y).2 ∧ (∀ i : Nat, j ≤ i → i < j + d → e i ≤ (scan e d j x y).2) ∧ (scan e d j x y = (x, y) ∨ ((scan e d j x y).1 < j + d ∧ e (scan e d j x y).1 = (scan e d j x y).2)) := by
  intro d
  induction d with
  | zero => intro j x y; exact ⟨Nat.le_refl _, fun i a b => absurd b (by omega), Or.inl rfl⟩
  | succ d ih =>
    intro j x y
    rw [scan]
    by_cases c : e j ≤ y
    · rw [if_pos c]
      obtain ⟨a1, a2, a3⟩ := ih (j + 1) x y
      refine ⟨a1, fun i b1 b2 => ?_, ?_⟩
      · by_cases q : i = j
        · subst q; omega
        · exact a2 i (by omega) (by omega)
      · rcases a3 with a3 | ⟨a3, a4⟩
        · exact Or.inl a3
        · exact Or.inr ⟨by omega, a4⟩
    · rw [if_neg c]
      obtain ⟨a1, a2, a3⟩ := ih (j + 1) j (e j)
      refine ⟨by omega, fun i b1 b2 => ?_, ?_⟩
      · by_cases q : i = j
        · subst q; exact a1
        · exact a2 i (by omega) (by omega)
      · rcases a3 with a3 | ⟨a3, a4⟩
        · rw [a3]
          exact Or.inr ⟨by omega, rfl⟩
        · exact Or.inr ⟨by omega, a4⟩
/-- one bottle is picked -/
def pk1 (e : Nat → Nat) : Nat → Nat := if (scan e 8 0 0 0).2 = 0 then e else fun i => if i = (scan e 8 0 0 0).1 then e i - 1 else e i
theorem pk1_le (e : Nat → Nat) (i : Nat) : pk1 e i ≤ e i := by
  unfold pk1
  split
  · exact Nat.le_refl _
  · dsimp only
    split <;> omega
theorem pk1_s {e : Nat → Nat} (h : 1 ≤ nsum e 8 0) : nsum (pk1 e) 8 0 + 1 = nsum e 8 0 := by
  obtain ⟨a1, a2, a3⟩ := scan_p (e := e) 8 0 0 0
  unfold pk1
  by_cases c : (scan e 8 0 0 0).2 = 0
  · exfalso
    have := nsum_zero (e := e) 8 0 (fun i x y => by have := a2 i x y; omega)
    omega
  · rw [if_neg c]
    rcases a3 with a3 | ⟨a3, a4⟩
    · exact absurd (by rw [a3]) c
    · exact nsum_dec (e := e) (b := (scan e 8 0 0 0).1) (by omega) 8 0 (Nat.zero_le _) (by omega)
theorem pk1_w {w : bU} {e : Nat → Nat} {M : Nat} (hM : M < 2147483648) (hw : ∀ i : Nat, i < 8 → w 1 i = nI (e i) ∧ e i ≤ M) : ∀ i : Nat, i < 8 → F4_pickOne w 1 i = nI (pk1 e i) ∧ pk1 e i ≤ M := by
  intro i hi
  obtain ⟨e1, e2⟩ := hw i hi
  obtain ⟨a1, a2, a3⟩ := scan_p (e := e) 8 0 0 0
  have hs : L4_pickOne_6 w (8 + 1) 0 0 0 = (nI (scan e 8 0 0 0).1, nI (scan e 8 0 0 0).2) := scan_L hM hw 8 (8 + 1) 0 0 0 (by decide) (by decide) (Nat.zero_le _)
  refine ⟨?_, Nat.le_trans (pk1_le e i) e2⟩
  unfold F4_pickOne pk1
  rw [hs]
  dsimp only
  generalize hx : (scan e 8 0 0 0).1 = X at *
  generalize hy : (scan e 8 0 0 0).2 = Y at *
  by_cases c : Y = 0
  · subst c
    rw [if_pos (show nI 0 ≤ (0 : Int32) by decide), if_pos rfl]
    exact e1
  · rcases a3 with a3 | ⟨a3, a4⟩
    · exact absurd (by rw [← hy, a3]) c
    · obtain ⟨e3, e4⟩ := hw X (by omega)
      rw [if_neg (nI_nle (by omega) (by omega)), if_neg (show ¬ (8 : Int32) ≤ nI X from nI_ge (b := 8) (by omega) (by decide)), if_neg c, mC (by omega), e3]
      show (bput w 1 X (nI (e X) - 1)) 1 i = nI (if i = X then e i - 1 else e i)
      unfold bput
      rw [bs_eq]
      by_cases q : i = X
      · subst q
        rw [pk_us, if_pos rfl]
        exact pk_sub (b := 1) (by omega)
      · rw [pk_un q, if_neg q]
        exact e1
def pkN : Nat → (Nat → Nat) → Nat → Nat
  | 0, e => e
  | n + 1, e => pkN n (pk1 e)
theorem pkN_s : ∀ (n : Nat) (e : Nat → Nat), n ≤ nsum e 8 0 → nsum (pkN n e) 8 0 + n = nsum e 8 0 := by
  intro n
  induction n with
  | zero => intro e _; rfl
  | succ n ih =>
    intro e h
    have h1 := pk1_s (e := e) (by omega)
    have h2 := ih (pk1 e) (by omega)
    show nsum (pkN n (pk1 e)) 8 0 + (n + 1) = _
    omega
theorem pkN_le : ∀ (n : Nat) (e : Nat → Nat) (i : Nat), pkN n e i ≤ e i := by
  intro n
  induction n with
  | zero => intro e i; exact Nat.le_refl _
  | succ n ih => intro e i; exact Nat.le_trans (ih (pk1 e) i) (pk1_le e i)
theorem L72_w {N M : Nat} (hN : N < 2147483648) (hM : M < 2147483648) : ∀ (d fu j : Nat) (w : bU) (e : Nat → Nat), j + d = N → d < fu → (∀ i : Nat, i < 8 → w 1 i = nI (e i) ∧ e i ≤ M) → ∀ i : Nat, i < 8 → L4_pickEmpties_72 (nI N) w fu j 1 i = nI (pkN d e i) := by
  intro d
  induction d with
  | zero =>
    intro fu j w e hj hf hw i hi
    obtain ⟨fu, rfl⟩ : ∃ g : Nat, fu = g + 1 := ⟨fu - 1, by omega⟩
    rw [L4_pickEmpties_72, if_pos (nI_le (by omega) (by omega))]
    exact (hw i hi).1
  | succ d ih =>
    intro fu j w e hj hf hw i hi
    obtain ⟨fu, rfl⟩ : ∃ g : Nat, fu = g + 1 := ⟨fu - 1, by omega⟩
    rw [L4_pickEmpties_72, if_neg (nI_ge (by omega) (by omega))]
    exact ih fu (j + 1) (F4_pickOne w) (pk1 e) (by omega) (by omega) (pk1_w hM hw) i hi
theorem left_1 (a1 a2 : Int32) : ∀ (d f j : Nat) (w : bU), j + d = 8 → d < f → ∀ b : Nat, b < 8 → (L4_pickEmpties_3 a1 a2 w f j) 1 b = if j ≤ b then (if F2_ofBrand w (nI b) 0 = a2 then F2_ofShop w a1 (20 + nI b) else 0) else w 1 b := by
  intro d
  induction d with
  | zero =>
    intro f j w hj hf b hb
    obtain ⟨f, rfl⟩ : ∃ q : Nat, f = q + 1 := ⟨f - 1, by omega⟩
    rw [L4_pickEmpties_3, if_pos (show (8 : Int32) ≤ nI j from nI_le (a := 8) (by omega) (by omega)), if_neg (by omega)]
  | succ d ih =>
    intro f j w hj hf b hb
    obtain ⟨f, rfl⟩ : ∃ q : Nat, f = q + 1 := ⟨f - 1, by omega⟩
    have hB : ∀ (x : Int32) (c : Int32), F2_ofBrand (bput w 1 j x) (nI c.toNatClampNeg) 0 = F2_ofBrand w (nI c.toNatClampNeg) 0 := fun x c => rfl
    rw [L4_pickEmpties_3, if_neg (show ¬ (8 : Int32) ≤ nI j from nI_ge (b := 8) (by omega) (by decide)), mC (by omega)]
    have e1 : ∀ (x : Int32) (i : Nat), bput w 1 j x 1 i = if i = j then x else w 1 i := fun x i => by simp [bput, bs, upd]
    split
    · rename_i c
      rw [ih f (j + 1) _ (by omega) (by omega) b hb, e1]
      by_cases q : b = j
      · subst q
        rw [if_neg (by omega), if_pos rfl, if_pos (by omega), if_pos c]
      · by_cases q2 : j ≤ b
        · rw [if_pos (by omega), if_pos q2]; rfl
        · rw [if_neg (by omega), if_neg q, if_neg q2]
    · rename_i c
      rw [ih f (j + 1) _ (by omega) (by omega) b hb, e1]
      by_cases q : b = j
      · subst q
        rw [if_neg (by omega), if_pos rfl, if_pos (by omega), if_neg c]
      · by_cases q2 : j ≤ b
        · rw [if_pos (by omega), if_pos q2]; rfl
        · rw [if_neg (by omega), if_neg q, if_neg q2]
/-- what a shop has of a brand's empties, if it is of the kind -/
def ek (kd : Nat → Nat) (kk s : Nat) (c : Nat → Int32) (i : Nat) : Nat := if kd i = kk then (c (113 + 28 * s + (20 + i))).toInt.toNat else 0
section CO
variable {B n t : Nat} {kd : Nat → Nat} {f : Nat} {m k al : Int32} {bb : Nat → Int32}
theorem ek_nI {c : Nat → Int32} (h : INV B n t kd f m k al bb c) {kk s i : Nat} (hs : s < 6) (hi : i < 8) (e : kd i = kk) : c (113 + 28 * s + (20 + i)) = nI (ek kd kk s c i) := by
  have hN := h.2.2.1 _ (pP_s hs (w := 20 + i) (by omega))
  have h1 := hN.1
  unfold ek
  rw [if_pos e]
  exact iOf (by omega)
theorem ek_le {c : Nat → Int32} (h : INV B n t kd f m k al bb c) {kk s i : Nat} (hs : s < 6) (hi : i < 8) : ek kd kk s c i ≤ B := by
  have hN := h.2.2.1 _ (pP_s hs (w := 20 + i) (by omega))
  have h1 := hN.1
  have h2 := hN.2
  unfold ek
  split <;> omega
variable {u : bU}
theorem sE_i {s i : Nat} (hs : s < 6) (hi : i < 8) : F2_ofShop u (nI s) (20 + nI i) = u 0 (113 + 28 * s + (20 + i)) := by
  rw [show (20 + nI i : Int32) = nI (20 + i) from nI_add 20 i]
  exact c_sh u (by omega)
theorem empt_n (h : INV B n t kd f m k al bb (u 0)) {kk s : Nat} (hs : s < 6) (hkk : kk < 3) : F4_emptiesOf u (nI s) (nI kk) = nI (nsum (ek kd kk s (u 0)) 8 0) := by
  unfold F4_emptiesOf
  rw [aL_cEmp u (nI s) (nI kk) 8 (8 + 1) 0 0 (by decide) (by decide)]
  have := acc_nsum (f := fun j : Nat => if F2_ofBrand u (nI j) 0 = nI kk then F2_ofShop u (nI s) (20 + nI j) else 0) (e := ek kd kk s (u 0)) 8 0 0 (fun i _ hi => by
    show (if F2_ofBrand u (nI i) 0 = nI kk then F2_ofShop u (nI s) (20 + nI i) else 0) = _
    by_cases e : kd i = kk
    · rw [if_pos ((kd_is h (by omega) hkk).mpr e), sE_i hs (by omega)]
      exact ek_nI h hs (by omega) e
    · rw [if_neg (fun z => e ((kd_is h (by omega) hkk).mp z))]
      unfold ek
      rw [if_neg e]
      rfl)
  rw [Nat.zero_add] at this
  exact this
theorem ek_sum (h : INV B n t kd f m k al bb (u 0)) {kk s : Nat} (hs : s < 6) : nsum (ek kd kk s (u 0)) 8 0 ≤ 8 * B := nsum_le 8 0 (fun i _ hi => ek_le h hs (by omega))
theorem F_cre (h : INV B n t kd f m k al bb (u 0)) (hB : B < 100000000) {kk s C : Nat} (hs : s < 6) (hkk : kk < 3) (eC : u 0 (113 + 28 * s + 1) = nI C) (hC : C < 2147483648) : F4_collectReason u (nI s) (nI kk) 1 = if 12 ≤ nsum (ek kd kk s (u 0)) 8 0 then (if 1 ≤ C then 0 else 2) else 1 := by
  have hS := ek_sum (kk := kk) h hs
  unfold F4_collectReason
  rw [empt_n h hs hkk, show F2_ofShop u (nI s) 1 = nI C from (c_sh u (w := 1) (by omega)).trans eC, show (12 * 1 : Int32) = nI 12 by decide]
  by_cases q : 12 ≤ nsum (ek kd kk s (u 0)) 8 0
  · rw [if_pos q, if_pos ((nI_leI (by decide) (by omega)).mpr q)]
    by_cases q2 : 1 ≤ C
    · rw [if_pos q2, if_pos (show (1 : Int32) ≤ nI C from (nI_leI (a := 1) (by decide) (by omega)).mpr q2)]
    · rw [if_neg q2, if_neg (show ¬ (1 : Int32) ≤ nI C from fun z => q2 ((nI_leI (a := 1) (by decide) (by omega)).mp z))]
  · rw [if_neg q, if_neg (fun z => q ((nI_leI (by decide) (by omega)).mp z))]
/-- what is left in the shop of each brand when twelve are picked -/
def rst (kd : Nat → Nat) (kk s : Nat) (c : Nat → Int32) : Nat → Nat := pkN 12 (ek kd kk s c)
theorem pick_row (h : INV B n t kd f m k al bb (u 0)) (hB : B < 100000000) {kk s : Nat} (hs : s < 6) (hkk : kk < 3) : ∀ i : Nat, i < 8 → F4_pickEmpties u (nI s) (nI kk) (12 * 1) 1 i = nI (rst kd kk s (u 0) i) := by
  intro i hi
  unfold F4_pickEmpties rst
  rw [show (12 * 1 : Int32) = nI 12 by decide, mC (by decide)]
  refine L72_w (N := 12) (M := B) (by decide) (by omega) 12 (12 + 1) 0 _ _ (by decide) (by decide) (fun b hb => ⟨?_, ek_le h hs hb⟩) i hi
  rw [left_1 (nI s) (nI kk) 8 (8 + 1) 0 u (by decide) (by decide) b hb, if_pos (Nat.zero_le _)]
  by_cases e : kd b = kk
  · rw [if_pos ((kd_is h hb hkk).mpr e), sE_i hs hb]
    exact ek_nI h hs hb e
  · rw [if_neg (fun z => e ((kd_is h hb hkk).mp z))]
    unfold ek
    rw [if_neg e]
    rfl
theorem ent8 (g : Nat → Int32) {i : Nat} (hi : i < 8) : F5_entry 8 g (nI i) = g i := by
  unfold F5_entry
  rw [if_neg (nI_pos (by omega)), if_neg (show ¬ Int32.ofNat 8 ≤ nI i from nI_ge (b := 8) hi (by decide)), mC (by omega)]
theorem picked_n {w : bU} {s i E R : Nat} (hs : s < 6) (hi : i < 8) (e1 : w 0 (113 + 28 * s + (20 + i)) = nI E) (e2 : w 1 i = nI R) (hR : R ≤ E) : F4_pickedOf w (nI s) (nI i) = nI (E - R) := by
  unfold F4_pickedOf
  rw [sE_i hs hi, ent8 _ hi, e1, e2, pk_sub hR]
end CO

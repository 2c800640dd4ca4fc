-- the class's methods and its cell 9 (own text)
theorem bsw (u : bU) {k k' : Nat} (h : k ≠ k') (i j : Nat) (x y : Int32) : bput (bput u k i x) k' j y = bput (bput u k' j y) k i x := by
  funext c
  show bs (bs u k (upd (u k) i x)) k' (upd ((bs u k (upd (u k) i x)) k') j y) c = bs (bs u k' (upd (u k') j y)) k (upd ((bs u k' (upd (u k') j y)) k) i x) c
  rw [bs_ne u _ (Ne.symm h), bs_ne u _ h]
  by_cases c1 : c = k
  · subst c1; rw [bs_ne _ _ h, bs_eq, bs_eq]
  · by_cases c2 : c = k'
    · subst c2; rw [bs_eq, bs_ne _ _ c1, bs_eq]
    · rw [bs_ne _ _ c2, bs_ne _ _ c1, bs_ne _ _ c1, bs_ne _ _ c2]
theorem add1_upd {f : Nat → Int32} {i j : Nat} {x z : Int32} (h : i ≠ j) : add1 (upd f j z) i x = upd (add1 f i x) j z := by
  funext k
  by_cases c : k = i
  · subst c; rw [add1_at, up_ne _ _ h, up_ne _ _ h, add1_at]
  · rw [add1_ne c]
    by_cases d : k = j
    · subst d; rw [up_at, up_at]
    · rw [up_ne _ _ d, up_ne _ _ d, add1_ne c]
theorem adds_upd {L : List (Nat × Int32)} {j : Nat} {z : Int32} : ∀ {f : Nat → Int32}, (∀ p ∈ L, p.1 ≠ j) → adds (upd f j z) L = upd (adds f L) j z := by
  induction L with
  | nil => intro f _; rfl
  | cons p L ih =>
    intro f h
    rw [adds_cons, adds_cons, add1_upd (h p List.mem_cons_self), ih (fun q hq => h q (List.mem_cons_of_mem _ hq))]
section
variable (u : bU) (z : Int32)
theorem Pbr {b w : Nat} (h : 17 + 12 * b + w < 345) : F2_ofBrand (bput u 0 9 z) (nI b) (nI w) = F2_ofBrand u (nI b) (nI w) := by
  rw [c_br _ h, c_br _ h, bput_ne _ _ (by omega)]
theorem Psh {s w : Nat} (h : 113 + 28 * s + w < 345) : F2_ofShop (bput u 0 9 z) (nI s) (nI w) = F2_ofShop u (nI s) (nI w) := by
  rw [c_sh _ h, c_sh _ h, bput_ne _ _ (by omega)]
theorem Pst {k : Nat} (h : k < 334) : F2_ofSetting (bput u 0 9 z) (nI k) = F2_ofSetting u (nI k) := by
  rw [c_set _ h, c_set _ h, bput_ne _ _ (by omega)]
theorem Pal {k : Nat} (h : k < 345) (h9 : k ≠ 9) : F2_ofAll (bput u 0 9 z) (nI k) = F2_ofAll u (nI k) := by
  rw [c_all _ h, c_all _ h, bput_ne _ _ h9]
theorem PaddSh {s w : Nat} (h : 113 + 28 * s + w < 345) (x : Int32) : F2_addToShop (bput u 0 9 z) (nI s) (nI w) x = bput (F2_addToShop u (nI s) (nI w) x) 0 9 z := by
  rw [c_addSh _ _ h, c_addSh _ _ h, bput_eq u, bput_bs, bs_eq, bs_bs, add1_upd (by omega)]
theorem PaddBr {b w : Nat} (h : 17 + 12 * b + w < 345) (x : Int32) : F2_addToBrand (bput u 0 9 z) (nI b) (nI w) x = bput (F2_addToBrand u (nI b) (nI w) x) 0 9 z := by
  rw [c_addBr _ _ h, c_addBr _ _ h, bput_eq u, bput_bs, bs_eq, bs_bs, add1_upd (by omega)]
theorem PaddAl {k : Nat} (h : k < 345) (h9 : k ≠ 9) (x : Int32) : F2_addToAll (bput u 0 9 z) (nI k) x = bput (F2_addToAll u (nI k) x) 0 9 z := by
  rw [c_addAll _ _ h, c_addAll _ _ h, bput_eq u, bput_bs, bs_eq, bs_bs, add1_upd h9]
theorem P_dep {b kk : Nat} (hb : b < 8) (hk : kk < 3) (ek : u 0 (17 + 12 * b + 0) = nI kk) : F4_depositOf (bput u 0 9 z) (nI b) = F4_depositOf u (nI b) := by
  have e : F2_ofBrand u (nI b) 0 = nI kk := (c_br u (w := 0) (by omega)).trans ek
  unfold F4_depositOf
  rw [show F2_ofBrand (bput u 0 9 z) (nI b) 0 = F2_ofBrand u (nI b) 0 from Pbr u z (w := 0) (by omega), e, Pst u z (by omega)]
theorem P_crd {kk : Nat} (hk : kk < 3) : F4_crateDeposits (bput u 0 9 z) (nI kk) = F4_crateDeposits u (nI kk) := by
  unfold F4_crateDeposits
  rw [Pst u z (by omega), show F2_ofSetting (bput u 0 9 z) 3 = F2_ofSetting u 3 from Pst u z (k := 3) (by decide)]
theorem P_price {b kk : Nat} (hb : b < 8) (hk : kk < 3) (ek : u 0 (17 + 12 * b + 0) = nI kk) : F4_cratePrice (bput u 0 9 z) (nI b) = F4_cratePrice u (nI b) := by
  have e : F2_ofBrand u (nI b) 0 = nI kk := (c_br u (w := 0) (by omega)).trans ek
  unfold F4_cratePrice
  rw [show F2_ofBrand (bput u 0 9 z) (nI b) 0 = F2_ofBrand u (nI b) 0 from Pbr u z (w := 0) (by omega), e, P_crd u z hk, show F2_ofSetting (bput u 0 9 z) 4 = F2_ofSetting u 4 from Pst u z (k := 4) (by decide)]
theorem P_delR {b s kk : Nat} (hb : b < 8) (hs : s < 6) (hk : kk < 3) (ek : u 0 (17 + 12 * b + 0) = nI kk) (x : Int32) : F4_deliverReason (bput u 0 9 z) (nI b) (nI s) x = F4_deliverReason u (nI b) (nI s) x := by
  unfold F4_deliverReason
  rw [show F2_ofBrand (bput u 0 9 z) (nI b) 2 = F2_ofBrand u (nI b) 2 from Pbr u z (w := 2) (by omega), show F2_ofAll (bput u 0 9 z) 2 = F2_ofAll u 2 from Pal u z (k := 2) (by decide) (by decide), P_price u z hb hk ek, show F2_ofShop (bput u 0 9 z) (nI s) 0 = F2_ofShop u (nI s) 0 from Psh u z (w := 0) (by omega)]
theorem P_sellR {b s : Nat} (hb : b < 8) (hs : s < 6) (x : Int32) : F4_sellReason (bput u 0 9 z) (nI s) (nI b) x = F4_sellReason u (nI s) (nI b) x := by
  unfold F4_sellReason
  rw [show (10 + nI b : Int32) = nI (10 + b) from nI_add 10 b, Psh u z (by omega)]
theorem P_brkR {b s : Nat} (hb : b < 8) (hs : s < 6) (x : Int32) : F4_breakReason (bput u 0 9 z) (nI s) (nI b) x = F4_breakReason u (nI s) (nI b) x := by
  unfold F4_breakReason
  rw [show (20 + nI b : Int32) = nI (20 + b) from nI_add 20 b, Psh u z (by omega)]
theorem P_retR {b s kk : Nat} (hb : b < 8) (hs : s < 6) (hk : kk < 3) (ek : u 0 (17 + 12 * b + 0) = nI kk) (x : Int32) : F4_returnReason (bput u 0 9 z) (nI s) (nI b) x = F4_returnReason u (nI s) (nI b) x := by
  unfold F4_returnReason
  rw [show F2_ofBrand (bput u 0 9 z) (nI b) 5 = F2_ofBrand u (nI b) 5 from Pbr u z (w := 5) (by omega), P_dep u z hb hk ek, show F2_ofShop (bput u 0 9 z) (nI s) 0 = F2_ofShop u (nI s) 0 from Psh u z (w := 0) (by omega)]
theorem P_colR {s : Nat} (hs : s < 6) (a x : Int32) : F4_collectReason (bput u 0 9 z) (nI s) a x = F4_collectReason u (nI s) a x := by
  have e : F4_emptiesOf (bput u 0 9 z) (nI s) a = F4_emptiesOf u (nI s) a := by
    unfold F4_emptiesOf
    rw [aL_cEmp (bput u 0 9 z) (nI s) a 8 (8 + 1) 0 0 (by decide) (by decide), aL_cEmp u (nI s) a 8 (8 + 1) 0 0 (by decide) (by decide)]
    refine acc_congr 8 0 0 (fun i _ hi => ?_)
    rw [show F2_ofBrand (bput u 0 9 z) (nI i) 0 = F2_ofBrand u (nI i) 0 from Pbr u z (w := 0) (by omega), show (20 + nI i : Int32) = nI (20 + i) from nI_add 20 i, Psh u z (by omega)]
  unfold F4_collectReason
  rw [e, show F2_ofShop (bput u 0 9 z) (nI s) 1 = F2_ofShop u (nI s) 1 from Psh u z (w := 1) (by omega)]
end
theorem P_pe3 (z : Int32) {s : Nat} (hs : s < 6) (a : Int32) : ∀ (d f j : Nat) (u : bU), j + d = 8 → d < f → L4_pickEmpties_3 (nI s) a (bput u 0 9 z) f j = bput (L4_pickEmpties_3 (nI s) a u f j) 0 9 z := by
  intro d
  induction d with
  | zero =>
    intro f j u hj hf
    obtain ⟨f, rfl⟩ : ∃ q : Nat, f = q + 1 := ⟨f - 1, by omega⟩
    have c : (8 : Int32) ≤ nI j := nI_le (a := 8) (by omega) (by omega)
    rw [L4_pickEmpties_3, L4_pickEmpties_3, if_pos c, if_pos c]
  | succ d ih =>
    intro f j u hj hf
    obtain ⟨f, rfl⟩ : ∃ q : Nat, f = q + 1 := ⟨f - 1, by omega⟩
    have c : ¬ (8 : Int32) ≤ nI j := nI_ge (b := 8) (by omega) (by decide)
    rw [L4_pickEmpties_3, L4_pickEmpties_3, if_neg c, if_neg c, show F2_ofBrand (bput u 0 9 z) (nI j) 0 = F2_ofBrand u (nI j) 0 from Pbr u z (w := 0) (by omega), mC (by omega), show (20 + nI j : Int32) = nI (20 + j) from nI_add 20 j, Psh u z (by omega)]
    by_cases q : F2_ofBrand u (nI j) 0 = a
    · rw [if_pos q, if_pos q, bsw u (show (0 : Nat) ≠ 1 by decide), ih f (j + 1) _ (by omega) (by omega)]
    · rw [if_neg q, if_neg q, bsw u (show (0 : Nat) ≠ 1 by decide), ih f (j + 1) _ (by omega) (by omega)]
theorem P_po6 (u : bU) (z : Int32) : ∀ (n j : Nat) (x y : Int32), L4_pickOne_6 (bput u 0 9 z) n j x y = L4_pickOne_6 u n j x y := by
  intro n
  induction n with
  | zero => intro j x y; rfl
  | succ n ih =>
    intro j x y
    rw [L4_pickOne_6, L4_pickOne_6, bput_c u z (show (1 : Nat) ≠ 0 by decide), ih, ih]
theorem P_po (u : bU) (z : Int32) : F4_pickOne (bput u 0 9 z) = bput (F4_pickOne u) 0 9 z := by
  unfold F4_pickOne
  rw [P_po6, bput_c u z (show (1 : Nat) ≠ 0 by decide), bsw u (show (0 : Nat) ≠ 1 by decide)]
  by_cases c1 : (L4_pickOne_6 u (8 + 1) 0 0 0).2 ≤ 0
  · rw [if_pos c1, if_pos c1]
  rw [if_neg c1, if_neg c1]
  by_cases c2 : (8 : Int32) ≤ (L4_pickOne_6 u (8 + 1) 0 0 0).1
  · rw [if_pos c2, if_pos c2]
  · rw [if_neg c2, if_neg c2]
theorem P_pe72 (z a : Int32) : ∀ (n j : Nat) (u : bU), L4_pickEmpties_72 a (bput u 0 9 z) n j = bput (L4_pickEmpties_72 a u n j) 0 9 z := by
  intro n
  induction n with
  | zero => intro j u; rfl
  | succ n ih =>
    intro j u
    rw [L4_pickEmpties_72, L4_pickEmpties_72, P_po, ih]
    by_cases c : a ≤ nI j
    · rw [if_pos c, if_pos c]
    · rw [if_neg c, if_neg c]
theorem P_pick (u : bU) (z : Int32) {s : Nat} (hs : s < 6) (a x : Int32) : F4_pickEmpties (bput u 0 9 z) (nI s) a x = bput (F4_pickEmpties u (nI s) a x) 0 9 z := by
  unfold F4_pickEmpties
  rw [P_pe3 z hs a 8 (8 + 1) 0 u (by decide) (by decide), P_pe72]
theorem P_cc22 (z : Int32) {s : Nat} (hs : s < 6) (a : Int32) : ∀ (d f j : Nat) (u : bU), j + d = 8 → d < f → L4_collectCrates_22 (nI s) a (bput u 0 9 z) f j = bput (L4_collectCrates_22 (nI s) a u f j) 0 9 z := by
  intro d
  induction d with
  | zero =>
    intro f j u hj hf
    obtain ⟨f, rfl⟩ : ∃ q : Nat, f = q + 1 := ⟨f - 1, by omega⟩
    have c : (8 : Int32) ≤ nI j := nI_le (a := 8) (by omega) (by omega)
    rw [L4_collectCrates_22, L4_collectCrates_22, if_pos c, if_pos c]
  | succ d ih =>
    intro f j u hj hf
    obtain ⟨f, rfl⟩ : ∃ q : Nat, f = q + 1 := ⟨f - 1, by omega⟩
    have c : ¬ (8 : Int32) ≤ nI j := nI_ge (b := 8) (by omega) (by decide)
    have ep : F4_pickedOf (bput u 0 9 z) (nI s) (nI j) = F4_pickedOf u (nI s) (nI j) := by
      unfold F4_pickedOf
      rw [show (20 + nI j : Int32) = nI (20 + j) from nI_add 20 j, Psh u z (by omega), bput_c u z (show (1 : Nat) ≠ 0 by decide)]
    rw [L4_collectCrates_22, L4_collectCrates_22, if_neg c, if_neg c, show F2_ofBrand (bput u 0 9 z) (nI j) 0 = F2_ofBrand u (nI j) 0 from Pbr u z (w := 0) (by omega), ep]
    by_cases q : F2_ofBrand u (nI j) 0 = a
    · rw [if_pos q, if_pos q, show (20 + nI j : Int32) = nI (20 + j) from nI_add 20 j, PaddSh u z (by omega)]
      rw [show ∀ (w : bU) (x : Int32), F2_addToBrand (bput w 0 9 z) (nI j) 6 x = bput (F2_addToBrand w (nI j) 6 x) 0 9 z from fun w x => PaddBr w z (w := 6) (by omega) x, ih f (j + 1) _ (by omega) (by omega)]
    · rw [if_neg q, if_neg q, ih f (j + 1) _ (by omega) (by omega)]
theorem P_collect (u : bU) (z : Int32) {s kk : Nat} (hs : s < 6) (hk : kk < 3) (x : Int32) : (F4_collectCrates (bput u 0 9 z) (nI s) (nI kk) x).2 = bput (F4_collectCrates u (nI s) (nI kk) x).2 0 9 z := by
  unfold F4_collectCrates
  dsimp only
  rw [P_pick u z hs, P_cc22 z hs (nI kk) 8 (8 + 1) 0 _ (by decide) (by decide), P_crd u z hk]
  generalize L4_collectCrates_22 (nI s) (nI kk) (F4_pickEmpties u (nI s) (nI kk) (12 * x)) (8 + 1) 0 = w
  have a1 : ∀ (w : bU) (x : Int32), F2_addToShop (bput w 0 9 z) (nI s) 1 x = bput (F2_addToShop w (nI s) 1 x) 0 9 z := fun w x => PaddSh w z (w := 1) (by omega) x
  have a0 : ∀ (w : bU) (x : Int32), F2_addToShop (bput w 0 9 z) (nI s) 0 x = bput (F2_addToShop w (nI s) 0 x) 0 9 z := fun w x => PaddSh w z (w := 0) (by omega) x
  have a4 : ∀ (w : bU) (x : Int32), F2_addToShop (bput w 0 9 z) (nI s) 4 x = bput (F2_addToShop w (nI s) 4 x) 0 9 z := fun w x => PaddSh w z (w := 4) (by omega) x
  have b2 : ∀ (w : bU) (x : Int32), F2_addToAll (bput w 0 9 z) 2 x = bput (F2_addToAll w 2 x) 0 9 z := fun w x => PaddAl w z (k := 2) (by decide) (by decide) x
  have b4 : ∀ (w : bU) (x : Int32), F2_addToAll (bput w 0 9 z) 4 x = bput (F2_addToAll w 4 x) 0 9 z := fun w x => PaddAl w z (k := 4) (by decide) (by decide) x
  rw [a1, b2, a0, a4, b4]

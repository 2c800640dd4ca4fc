-- RELATION: rows of numbers, additions, the two rows of the loop's numbers (own text)
def add1 (f : Nat → Int32) (i : Nat) (x : Int32) : Nat → Int32 := upd f i (f i + x)
theorem add1_at (f : Nat → Int32) (i : Nat) (x : Int32) : add1 f i x i = f i + x := pk_us
theorem add1_ne {f : Nat → Int32} {i j : Nat} {x : Int32} (h : j ≠ i) : add1 f i x j = f j := pk_un h
theorem add1_val (f : Nat → Int32) (i j : Nat) (x : Int32) : add1 f i x j = if j = i then f j + x else f j := by
  by_cases h : j = i
  · subst h; rw [if_pos rfl, add1_at]
  · rw [if_neg h, add1_ne h]
theorem add1_comm (f : Nat → Int32) (i j : Nat) (x y : Int32) : add1 (add1 f i x) j y = add1 (add1 f j y) i x := by
  funext k
  rw [add1_val, add1_val, add1_val, add1_val]
  by_cases h1 : k = i
  · by_cases h2 : k = j
    · rw [if_pos h2, if_pos h1, if_pos h1, if_pos h2, Int32.add_assoc, Int32.add_comm x y, ← Int32.add_assoc]
    · rw [if_neg h2, if_pos h1, if_pos h1, if_neg h2]
  · by_cases h2 : k = j
    · rw [if_pos h2, if_neg h1, if_neg h1, if_pos h2]
    · rw [if_neg h2, if_neg h1, if_neg h1, if_neg h2]
def adds (f : Nat → Int32) (L : List (Nat × Int32)) : Nat → Int32 := L.foldl (fun g p => add1 g p.1 p.2) f
theorem adds_nil (f : Nat → Int32) : adds f [] = f := rfl
theorem adds_cons (f : Nat → Int32) (p : Nat × Int32) (L : List (Nat × Int32)) : adds f (p :: L) = adds (add1 f p.1 p.2) L := rfl
theorem adds_app (f : Nat → Int32) (L M : List (Nat × Int32)) : adds f (L ++ M) = adds (adds f L) M := List.foldl_append
theorem badd_eq (u : bU) (i : Nat) (x : Int32) : badd u 0 i x = bs u 0 (add1 (u 0) i x) := rfl
theorem bsub_eq (u : bU) (i : Nat) (x : Int32) : bsub u 0 i x = bs u 0 (add1 (u 0) i (-x)) := by
  show bs u 0 (upd (u 0) i (u 0 i - x)) = bs u 0 (upd (u 0) i (u 0 i + -x))
  rw [Int32.sub_eq_add_neg]
/-- the same, over a state whose first row is written out -/
theorem badd_bs (u : bU) (f : Nat → Int32) (i : Nat) (x : Int32) : badd (bs u 0 f) 0 i x = bs u 0 (add1 f i x) := by
  rw [badd_eq, bs_eq, bs_bs]
theorem bsub_bs (u : bU) (f : Nat → Int32) (i : Nat) (x : Int32) : bsub (bs u 0 f) 0 i x = bs u 0 (add1 f i (-x)) := by
  rw [bsub_eq, bs_eq, bs_bs]
-- the class's reads and writes at numbers
theorem c_get (u : bU) {k : Nat} (h : k < 345) : F2_get u (nI k) = u 0 k := by
  unfold F2_get
  rw [if_neg (nI_pos (by omega)), if_neg (show ¬ (345 : Int32) ≤ nI k from nI_ge (b := 345) h (by decide)), nI_clamp (by omega)]
theorem c_put (u : bU) (x : Int32) {k : Nat} (h : k < 345) : F2_put u (nI k) x = bs u 0 (upd (u 0) k x) := by
  unfold F2_put
  rw [if_neg (nI_pos (by omega)), if_neg (show ¬ (345 : Int32) ≤ nI k from nI_ge (b := 345) h (by decide)), nI_clamp (by omega)]
  rfl
theorem c_iB (b w : Nat) : ((17 + (nI b * 12)) + nI w : Int32) = nI (17 + 12 * b + w) := by
  show (nI 17 + nI b * nI 12) + nI w = _
  rw [pk_mul, nI_add, nI_add, Nat.mul_comm b 12]
theorem c_iS (s w : Nat) : ((113 + (nI s * 28)) + nI w : Int32) = nI (113 + 28 * s + w) := by
  show (nI 113 + nI s * nI 28) + nI w = _
  rw [pk_mul, nI_add, nI_add, Nat.mul_comm s 28]
theorem c_iG (s w : Nat) : ((281 + (nI s * 8)) + nI w : Int32) = nI (281 + 8 * s + w) := by
  show (nI 281 + nI s * nI 8) + nI w = _
  rw [pk_mul, nI_add, nI_add, Nat.mul_comm s 8]
theorem c_all (u : bU) {k : Nat} (h : k < 345) : F2_ofAll u (nI k) = u 0 k := c_get u h
theorem c_putAll (u : bU) (x : Int32) {k : Nat} (h : k < 345) : F2_putAll u (nI k) x = bs u 0 (upd (u 0) k x) := c_put u x h
theorem c_addAll (u : bU) (x : Int32) {k : Nat} (h : k < 345) : F2_addToAll u (nI k) x = bs u 0 (add1 (u 0) k x) := by
  unfold F2_addToAll
  rw [c_get u h, c_put u _ h]
  rfl
theorem c_set (u : bU) {k : Nat} (h : k < 334) : F2_ofSetting u (nI k) = u 0 (11 + k) := by
  unfold F2_ofSetting
  rw [show (11 + nI k : Int32) = nI (11 + k) from nI_add 11 k, c_get u (by omega)]
theorem c_putSet (u : bU) (x : Int32) {k : Nat} (h : k < 334) : F2_putSetting u (nI k) x = bs u 0 (upd (u 0) (11 + k) x) := by
  unfold F2_putSetting
  rw [show (11 + nI k : Int32) = nI (11 + k) from nI_add 11 k, c_put u x (by omega)]
theorem c_br (u : bU) {b w : Nat} (h : 17 + 12 * b + w < 345) : F2_ofBrand u (nI b) (nI w) = u 0 (17 + 12 * b + w) := by
  unfold F2_ofBrand
  rw [c_iB, c_get u h]
theorem c_addBr (u : bU) (x : Int32) {b w : Nat} (h : 17 + 12 * b + w < 345) : F2_addToBrand u (nI b) (nI w) x = bs u 0 (add1 (u 0) (17 + 12 * b + w) x) := by
  unfold F2_addToBrand
  rw [c_iB, c_get u h, c_put u _ h]
  rfl
theorem c_sh (u : bU) {s w : Nat} (h : 113 + 28 * s + w < 345) : F2_ofShop u (nI s) (nI w) = u 0 (113 + 28 * s + w) := by
  unfold F2_ofShop
  rw [c_iS, c_get u h]
theorem c_addSh (u : bU) (x : Int32) {s w : Nat} (h : 113 + 28 * s + w < 345) : F2_addToShop u (nI s) (nI w) x = bs u 0 (add1 (u 0) (113 + 28 * s + w) x) := by
  unfold F2_addToShop
  rw [c_iS, c_get u h, c_put u _ h]
  rfl
theorem c_sw (u : bU) {s w : Nat} (h : 281 + 8 * s + w < 345) : F2_ofSwaps u (nI s) (nI w) = u 0 (281 + 8 * s + w) := by
  unfold F2_ofSwaps
  rw [c_iG, c_get u h]
theorem c_addSw (u : bU) (x : Int32) {s w : Nat} (h : 281 + 8 * s + w < 345) : F2_addToSwaps u (nI s) (nI w) x = bs u 0 (add1 (u 0) (281 + 8 * s + w) x) := by
  unfold F2_addToSwaps
  rw [c_iG, c_get u h, c_put u _ h]
  rfl
-- over a state whose first row is written out
theorem d_addAll (u : bU) (f : Nat → Int32) (x : Int32) {k : Nat} (h : k < 345) : F2_addToAll (bs u 0 f) (nI k) x = bs u 0 (add1 f k x) := by rw [c_addAll _ _ h, bs_eq, bs_bs]
theorem d_addBr (u : bU) (f : Nat → Int32) (x : Int32) {b w : Nat} (h : 17 + 12 * b + w < 345) : F2_addToBrand (bs u 0 f) (nI b) (nI w) x = bs u 0 (add1 f (17 + 12 * b + w) x) := by rw [c_addBr _ _ h, bs_eq, bs_bs]
theorem d_addSh (u : bU) (f : Nat → Int32) (x : Int32) {b w : Nat} (h : 113 + 28 * b + w < 345) : F2_addToShop (bs u 0 f) (nI b) (nI w) x = bs u 0 (add1 f (113 + 28 * b + w) x) := by rw [c_addSh _ _ h, bs_eq, bs_bs]
theorem d_addSw (u : bU) (f : Nat → Int32) (x : Int32) {b w : Nat} (h : 281 + 8 * b + w < 345) : F2_addToSwaps (bs u 0 f) (nI b) (nI w) x = bs u 0 (add1 f (281 + 8 * b + w) x) := by rw [c_addSw _ _ h, bs_eq, bs_bs]
theorem d_all (u : bU) (f : Nat → Int32) {k : Nat} (h : k < 345) : F2_ofAll (bs u 0 f) (nI k) = f k := by rw [c_all _ h, bs_eq]
theorem d_set (u : bU) (f : Nat → Int32) {k : Nat} (h : k < 334) : F2_ofSetting (bs u 0 f) (nI k) = f (11 + k) := by rw [c_set _ h, bs_eq]
theorem d_br (u : bU) (f : Nat → Int32) {b w : Nat} (h : 17 + 12 * b + w < 345) : F2_ofBrand (bs u 0 f) (nI b) (nI w) = f (17 + 12 * b + w) := by rw [c_br _ h, bs_eq]
theorem d_sh (u : bU) (f : Nat → Int32) {b w : Nat} (h : 113 + 28 * b + w < 345) : F2_ofShop (bs u 0 f) (nI b) (nI w) = f (113 + 28 * b + w) := by rw [c_sh _ h, bs_eq]
theorem d_sw (u : bU) (f : Nat → Int32) {b w : Nat} (h : 281 + 8 * b + w < 345) : F2_ofSwaps (bs u 0 f) (nI b) (nI w) = f (281 + 8 * b + w) := by rw [c_sw _ h, bs_eq]
-- the reference's reads
theorem m_br (u : bU) {b w : Nat} (h : 13 + 10 * b + w < 283) : F6_of u (nI b) (nI w) = u 0 (13 + 10 * b + w) := by
  unfold F6_of
  rw [brandAt_nI, mC (by omega)]
theorem m_sh (u : bU) {s w : Nat} (h : 93 + 21 * s + w < 283) : F6_ofShop u (nI s) (nI w) = u 0 (93 + 21 * s + w) := by
  unfold F6_ofShop
  rw [shopAt_nI, mC (by omega)]
theorem m_iB {b w : Nat} (h : 13 + 10 * b + w < 283) : (F6_brandAt (nI b) (nI w)).toNatClampNeg = 13 + 10 * b + w := by rw [brandAt_nI, mC (by omega)]
theorem m_iS {b w : Nat} (h : 93 + 21 * b + w < 283) : (F6_shopAt (nI b) (nI w)).toNatClampNeg = 93 + 21 * b + w := by rw [shopAt_nI, mC (by omega)]
-- where a number of the reference's row stands in the class's
def phW (w : Nat) : Nat := if w < 3 then w else w + 2
def phS (w : Nat) : Nat := if w < 2 then w else if w < 5 then w + 2 else if w < 13 then w + 5 else w + 7
def phi (j : Nat) : Nat := if j < 3 then j else if j < 6 then j + 1 else if j = 6 then 9 else if j < 13 then j + 4 else if j < 93 then 17 + 12 * ((j - 13) / 10) + phW ((j - 13) % 10) else 113 + 28 * ((j - 93) / 21) + phS ((j - 93) % 21)
theorem phi_b {b w : Nat} (hb : b < 8) (hw : w < 10) : phi (13 + 10 * b + w) = 17 + 12 * b + phW w := by
  have h1 : (13 + 10 * b + w - 13) / 10 = b := by omega
  have h2 : (13 + 10 * b + w - 13) % 10 = w := by omega
  unfold phi
  rw [if_neg (by omega), if_neg (by omega), if_neg (by omega), if_neg (by omega), if_pos (by omega), h1, h2]
theorem phi_s {s w : Nat} (hs : s < 6) (hw : w < 21) : phi (93 + 21 * s + w) = 113 + 28 * s + phS w := by
  have h1 : (93 + 21 * s + w - 93) / 21 = s := by omega
  have h2 : (93 + 21 * s + w - 93) % 21 = w := by omega
  unfold phi
  rw [if_neg (by omega), if_neg (by omega), if_neg (by omega), if_neg (by omega), if_neg (by omega), h1, h2]
theorem phi_lt : ∀ j : Nat, j < 219 → phi j < 281 := by decide +kernel
theorem phi_inj : ∀ i : Nat, i < 219 → ∀ j : Nat, j < 219 → phi i = phi j → i = j := by decide +kernel
def rV (c m : Nat → Int32) : Prop := (∀ j : Nat, j < 219 → c (phi j) = m j) ∧ ∀ f t : Nat, f < 8 → t < 8 → c (281 + 8 * f + t) = m (219 + 8 * f + t) - m (219 + 8 * t + f)
theorem rV_add1 {c m : Nat → Int32} (h : rV c m) {j : Nat} (hj : j < 219) (x : Int32) : rV (add1 c (phi j) x) (add1 m j x) := by
  have hp := phi_lt j hj
  refine ⟨fun i hi => ?_, fun f t hf ht => ?_⟩
  · rw [add1_val, add1_val]
    by_cases e : i = j
    · subst e; rw [if_pos rfl, if_pos rfl, h.1 i hi]
    · rw [if_neg e, if_neg (fun q => e (phi_inj i hi j hj q)), h.1 i hi]
  · rw [add1_ne (by omega), add1_ne (by omega), add1_ne (by omega), h.2 f t hf ht]
theorem rV_adds {c m : Nat → Int32} (h : rV c m) (L : List (Nat × Int32)) (hL : ∀ p ∈ L, p.1 < 219) : rV (adds c (L.map fun p => (phi p.1, p.2))) (adds m L) := by
  induction L generalizing c m with
  | nil => exact h
  | cons p L ih =>
    rw [List.map_cons, adds_cons, adds_cons]
    exact ih (rV_add1 h (hL p List.mem_cons_self) p.2) (fun q hq => hL q (List.mem_cons_of_mem _ hq))
theorem rV_upd {c m : Nat → Int32} (h : rV c m) {j : Nat} (hj : j < 219) (x : Int32) : rV (upd c (phi j) x) (upd m j x) := by
  have hp := phi_lt j hj
  have hu : ∀ (f : Nat → Int32) (k i : Nat), upd f k x i = if i = k then x else f i := fun f k i => rfl
  refine ⟨fun i hi => ?_, fun f t hf ht => ?_⟩
  · rw [hu, hu]
    by_cases e : i = j
    · subst e; rw [if_pos rfl, if_pos rfl]
    · rw [if_neg e, if_neg (fun q => e (phi_inj i hi j hj q)), h.1 i hi]
  · rw [hu, hu, hu, if_neg (by omega), if_neg (by omega), if_neg (by omega), h.2 f t hf ht]
theorem rV_g {c m : Nat → Int32} (h : rV c m) {j : Nat} (hj : j < 219) {k : Nat} (e : phi j = k) : c k = m j := by
  rw [← e]; exact h.1 j hj
theorem rV_b {c m : Nat → Int32} (h : rV c m) {b w : Nat} (hb : b < 8) (hw : w < 10) : c (17 + 12 * b + phW w) = m (13 + 10 * b + w) := by
  rw [← phi_b hb hw]; exact h.1 _ (by omega)
theorem rV_s {c m : Nat → Int32} (h : rV c m) {s w : Nat} (hs : s < 6) (hw : w < 21) : c (113 + 28 * s + phS w) = m (93 + 21 * s + w) := by
  rw [← phi_s hs hw]; exact h.1 _ (by omega)

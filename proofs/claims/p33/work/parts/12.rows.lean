-- ROWS OF NUMBERS, sums over them, the class's reads and writes at numbers (own text)
theorem iLt (a b : Int32) : a < b ↔ a.toInt < b.toInt := Int32.lt_iff_toInt_lt
theorem iLe (a b : Int32) : a ≤ b ↔ a.toInt ≤ b.toInt := Int32.le_iff_toInt_le
theorem iEq (a b : Int32) : a = b ↔ a.toInt = b.toInt := Int32.toInt_inj.symm
theorem iRg (a : Int32) : -2147483648 ≤ a.toInt ∧ a.toInt ≤ 2147483647 := by
  have h1 := a.toInt_lt
  have h2 := a.le_toInt
  omega
theorem iOf {x : Int32} {n : Nat} (h : x.toInt = n) : x = nI n := by
  have h1 := iRg x
  rw [iEq, nI_toInt (by omega), h]
theorem iNn {x : Int32} (h : 0 ≤ x.toInt) : ∃ n : Nat, n < 2 ^ 31 ∧ x = nI n := ⟨x.toInt.toNat, by have := iRg x; omega, iOf (by omega)⟩
theorem iLit (n : Nat) (h : n < 2 ^ 31) : (OfNat.ofNat n : Int32).toInt = (n : Int) := nI_toInt h
theorem iBmod {n : Int} (h1 : -2147483648 ≤ n) (h2 : n < 2147483648) : n.bmod (2 ^ 32) = n := by
  rw [Int.bmod_def]; omega
theorem iAdd {x y : Int32} (h1 : -2147483648 ≤ x.toInt + y.toInt) (h2 : x.toInt + y.toInt < 2147483648) : (x + y).toInt = x.toInt + y.toInt := by rw [Int32.toInt_add, iBmod h1 h2]
theorem iSub {x y : Int32} (h1 : -2147483648 ≤ x.toInt - y.toInt) (h2 : x.toInt - y.toInt < 2147483648) : (x - y).toInt = x.toInt - y.toInt := by rw [Int32.toInt_sub, iBmod h1 h2]
theorem iMul {x y : Int32} (h1 : -2147483648 ≤ x.toInt * y.toInt) (h2 : x.toInt * y.toInt < 2147483648) : (x * y).toInt = x.toInt * y.toInt := by rw [Int32.toInt_mul, iBmod h1 h2]
theorem iNeg {x : Int32} (h : x.toInt ≠ -2147483648) : (-x).toInt = -x.toInt := by
  have h1 := x.toInt_lt
  have h2 := x.le_toInt
  rw [Int32.toInt_neg, iBmod (by omega) (by omega)]
theorem i0 : (0 : Int32).toInt = 0 := by decide
theorem i1 : (1 : Int32).toInt = 1 := by decide
theorem mC {j : Nat} (h : j < 2 ^ 31) : (nI j).toNatClampNeg = j := nI_clamp h
def add1 (f : Nat → Int32) (i : Nat) (x : Int32) : Nat → Int32 := upd f i (f i + x)
theorem add1_at (f : Nat → Int32) (i : Nat) (x : Int32) : add1 f i x i = f i + x := pk_us
theorem add1_ne {f : Nat → Int32} {i j : Nat} {x : Int32} (h : j ≠ i) : add1 f i x j = f j := pk_un h
theorem add1_val (f : Nat → Int32) (i j : Nat) (x : Int32) : add1 f i x j = if j = i then f j + x else f j := by
  by_cases h : j = i
  · subst h; rw [if_pos rfl, add1_at]
  · rw [if_neg h, add1_ne h]
theorem add1_comm (f : Nat → Int32) (i j : Nat) (x y : Int32) : add1 (add1 f i x) j y = add1 (add1 f j y) i x := by
  funext k
  rw [add1_val, add1_val, add1_val, add1_val]
  by_cases h1 : k = i
  · by_cases h2 : k = j
    · rw [if_pos h2, if_pos h1, if_pos h1, if_pos h2, Int32.add_assoc, Int32.add_comm x y, ← Int32.add_assoc]
    · rw [if_neg h2, if_pos h1, if_pos h1, if_neg h2]
  · by_cases h2 : k = j
    · rw [if_pos h2, if_neg h1, if_neg h1, if_pos h2]
    · rw [if_neg h2, if_neg h1, if_neg h1, if_neg h2]
def adds (f : Nat → Int32) (L : List (Nat × Int32)) : Nat → Int32 := L.foldl (fun g p => add1 g p.1 p.2) f
theorem adds_nil (f : Nat → Int32) : adds f [] = f := rfl
theorem adds_cons (f : Nat → Int32) (p : Nat × Int32) (L : List (Nat × Int32)) : adds f (p :: L) = adds (add1 f p.1 p.2) L := rfl
theorem adds_app (f : Nat → Int32) (L M : List (Nat × Int32)) : adds f (L ++ M) = adds (adds f L) M := List.foldl_append
theorem c_get (u : bU) {k : Nat} (h : k < 345) : F2_get u (nI k) = u 0 k := by
  unfold F2_get
  rw [if_neg (nI_pos (by omega)), if_neg (show ¬ (345 : Int32) ≤ nI k from nI_ge (b := 345) h (by decide)), nI_clamp (by omega)]
theorem c_put (u : bU) (x : Int32) {k : Nat} (h : k < 345) : F2_put u (nI k) x = bs u 0 (upd (u 0) k x) := by
  unfold F2_put
  rw [if_neg (nI_pos (by omega)), if_neg (show ¬ (345 : Int32) ≤ nI k from nI_ge (b := 345) h (by decide)), nI_clamp (by omega)]
  rfl
theorem c_iB (b w : Nat) : ((17 + (nI b * 12)) + nI w : Int32) = nI (17 + 12 * b + w) := by
  show (nI 17 + nI b * nI 12) + nI w = _
  rw [pk_mul, nI_add, nI_add, Nat.mul_comm b 12]
theorem c_iS (s w : Nat) : ((113 + (nI s * 28)) + nI w : Int32) = nI (113 + 28 * s + w) := by
  show (nI 113 + nI s * nI 28) + nI w = _
  rw [pk_mul, nI_add, nI_add, Nat.mul_comm s 28]
theorem c_iG (s w : Nat) : ((281 + (nI s * 8)) + nI w : Int32) = nI (281 + 8 * s + w) := by
  show (nI 281 + nI s * nI 8) + nI w = _
  rw [pk_mul, nI_add, nI_add, Nat.mul_comm s 8]
theorem c_all (u : bU) {k : Nat} (h : k < 345) : F2_ofAll u (nI k) = u 0 k := c_get u h
theorem c_addAll (u : bU) (x : Int32) {k : Nat} (h : k < 345) : F2_addToAll u (nI k) x = bs u 0 (add1 (u 0) k x) := by
  unfold F2_addToAll
  rw [c_get u h, c_put u _ h]
  rfl
theorem c_set (u : bU) {k : Nat} (h : k < 334) : F2_ofSetting u (nI k) = u 0 (11 + k) := by
  unfold F2_ofSetting
  rw [show (11 + nI k : Int32) = nI (11 + k) from nI_add 11 k, c_get u (by omega)]
theorem c_putSet (u : bU) (x : Int32) {k : Nat} (h : k < 334) : F2_putSetting u (nI k) x = bs u 0 (upd (u 0) (11 + k) x) := by
  unfold F2_putSetting
  rw [show (11 + nI k : Int32) = nI (11 + k) from nI_add 11 k, c_put u x (by omega)]
theorem c_br (u : bU) {b w : Nat} (h : 17 + 12 * b + w < 345) : F2_ofBrand u (nI b) (nI w) = u 0 (17 + 12 * b + w) := by
  unfold F2_ofBrand
  rw [c_iB, c_get u h]
theorem c_addBr (u : bU) (x : Int32) {b w : Nat} (h : 17 + 12 * b + w < 345) : F2_addToBrand u (nI b) (nI w) x = bs u 0 (add1 (u 0) (17 + 12 * b + w) x) := by
  unfold F2_addToBrand
  rw [c_iB, c_get u h, c_put u _ h]
  rfl
theorem c_sh (u : bU) {s w : Nat} (h : 113 + 28 * s + w < 345) : F2_ofShop u (nI s) (nI w) = u 0 (113 + 28 * s + w) := by
  unfold F2_ofShop
  rw [c_iS, c_get u h]
theorem c_addSh (u : bU) (x : Int32) {s w : Nat} (h : 113 + 28 * s + w < 345) : F2_addToShop u (nI s) (nI w) x = bs u 0 (add1 (u 0) (113 + 28 * s + w) x) := by
  unfold F2_addToShop
  rw [c_iS, c_get u h, c_put u _ h]
  rfl
theorem c_sw (u : bU) {s w : Nat} (h : 281 + 8 * s + w < 345) : F2_ofSwaps u (nI s) (nI w) = u 0 (281 + 8 * s + w) := by
  unfold F2_ofSwaps
  rw [c_iG, c_get u h]
theorem c_addSw (u : bU) (x : Int32) {s w : Nat} (h : 281 + 8 * s + w < 345) : F2_addToSwaps u (nI s) (nI w) x = bs u 0 (add1 (u 0) (281 + 8 * s + w) x) := by
  unfold F2_addToSwaps
  rw [c_iG, c_get u h, c_put u _ h]
  rfl
theorem d_addAll (u : bU) (f : Nat → Int32) (x : Int32) {k : Nat} (h : k < 345) : F2_addToAll (bs u 0 f) (nI k) x = bs u 0 (add1 f k x) := by rw [c_addAll _ _ h, bs_eq, bs_bs]
theorem d_addBr (u : bU) (f : Nat → Int32) (x : Int32) {b w : Nat} (h : 17 + 12 * b + w < 345) : F2_addToBrand (bs u 0 f) (nI b) (nI w) x = bs u 0 (add1 f (17 + 12 * b + w) x) := by rw [c_addBr _ _ h, bs_eq, bs_bs]
theorem d_addSh (u : bU) (f : Nat → Int32) (x : Int32) {b w : Nat} (h : 113 + 28 * b + w < 345) : F2_addToShop (bs u 0 f) (nI b) (nI w) x = bs u 0 (add1 f (113 + 28 * b + w) x) := by rw [c_addSh _ _ h, bs_eq, bs_bs]
theorem d_addSw (u : bU) (f : Nat → Int32) (x : Int32) {b w : Nat} (h : 281 + 8 * b + w < 345) : F2_addToSwaps (bs u 0 f) (nI b) (nI w) x = bs u 0 (add1 f (281 + 8 * b + w) x) := by rw [c_addSw _ _ h, bs_eq, bs_bs]
theorem d_all (u : bU) (f : Nat → Int32) {k : Nat} (h : k < 345) : F2_ofAll (bs u 0 f) (nI k) = f k := by rw [c_all _ h, bs_eq]
theorem d_set (u : bU) (f : Nat → Int32) {k : Nat} (h : k < 334) : F2_ofSetting (bs u 0 f) (nI k) = f (11 + k) := by rw [c_set _ h, bs_eq]
theorem d_br (u : bU) (f : Nat → Int32) {b w : Nat} (h : 17 + 12 * b + w < 345) : F2_ofBrand (bs u 0 f) (nI b) (nI w) = f (17 + 12 * b + w) := by rw [c_br _ h, bs_eq]
theorem d_sh (u : bU) (f : Nat → Int32) {b w : Nat} (h : 113 + 28 * b + w < 345) : F2_ofShop (bs u 0 f) (nI b) (nI w) = f (113 + 28 * b + w) := by rw [c_sh _ h, bs_eq]
theorem d_sw (u : bU) (f : Nat → Int32) {b w : Nat} (h : 281 + 8 * b + w < 345) : F2_ofSwaps (bs u 0 f) (nI b) (nI w) = f (281 + 8 * b + w) := by rw [c_sw _ h, bs_eq]
theorem adds_out {m : Nat → Int32} {L : List (Nat × Int32)} {k : Nat} (h : ∀ p ∈ L, p.1 ≠ k) : adds m L k = m k := by
  induction L generalizing m with
  | nil => rfl
  | cons p L ih =>
    rw [adds_cons, ih (fun q hq => h q (List.mem_cons_of_mem _ hq)), add1_ne (Ne.symm (h p List.mem_cons_self))]
theorem adds_in {m : Nat → Int32} {L : List (Nat × Int32)} (nd : (L.map Prod.fst).Nodup) {p : Nat × Int32} (hp : p ∈ L) : adds m L p.1 = m p.1 + p.2 := by
  induction L generalizing m with
  | nil => exact absurd hp List.not_mem_nil
  | cons q L ih =>
    rw [List.map_cons, List.nodup_cons] at nd
    rw [adds_cons]
    rcases List.mem_cons.mp hp with h | h
    · subst h
      rw [adds_out (fun r hr e => nd.1 (by rw [← e]; exact List.mem_map_of_mem hr)), add1_at]
    · rw [ih nd.2 h, add1_ne]
      intro e
      exact nd.1 (by rw [← e]; exact List.mem_map_of_mem h)
theorem li0 : (0 : Int32) = nI 0 := rfl
theorem li1 : (1 : Int32) = nI 1 := rfl
theorem li2 : (2 : Int32) = nI 2 := rfl
theorem li3 : (3 : Int32) = nI 3 := rfl
theorem li4 : (4 : Int32) = nI 4 := rfl
theorem li5 : (5 : Int32) = nI 5 := rfl
theorem li6 : (6 : Int32) = nI 6 := rfl
theorem li7 : (7 : Int32) = nI 7 := rfl
theorem li8 : (8 : Int32) = nI 8 := rfl
theorem li9 : (9 : Int32) = nI 9 := rfl
theorem li10 : (10 : Int32) = nI 10 := rfl
theorem li11 : (11 : Int32) = nI 11 := rfl
theorem li12 : (12 : Int32) = nI 12 := rfl
theorem li13 : (13 : Int32) = nI 13 := rfl
theorem li20 : (20 : Int32) = nI 20 := rfl
theorem neg12 (x : Int32) : -12 * x = -(12 * x) := by grind
theorem negsub (x y : Int32) : -x - y = -(x + y) := by grind
theorem negmul (x y : Int32) : -x * y = -(x * y) := by grind
theorem min_nat {a b : Nat} (ha : a < 2 ^ 31) (hb : b < 2 ^ 31) : bmin (nI a) (nI b) = nI (min a b) := by
  unfold bmin
  by_cases h : b < a
  · rw [if_pos ((nI_ltI hb ha).mpr h), Nat.min_eq_right (by omega)]
  · rw [if_neg (fun q => h ((nI_ltI hb ha).mp q)), Nat.min_eq_left (by omega)]
def acc (f : Nat → Int32) : Nat → Nat → Int32 → Int32
  | 0, _, x => x
  | d + 1, j, x => acc f d (j + 1) (x + f j)
theorem acc_congr {f g : Nat → Int32} : ∀ (d j : Nat) (x : Int32), (∀ i : Nat, j ≤ i → i < j + d → f i = g i) → acc f d j x = acc g d j x := by
  intro d
  induction d with
  | zero => intro j x _; rfl
  | succ d ih =>
    intro j x h
    show acc f d (j + 1) (x + f j) = acc g d (j + 1) (x + g j)
    rw [h j (by omega) (by omega), ih (j + 1) (x + g j) (fun i h1 h2 => h i (by omega) (by omega))]
theorem acc_zero {f : Nat → Int32} : ∀ (d j : Nat) (x : Int32), (∀ i : Nat, j ≤ i → i < j + d → f i = 0) → acc f d j x = x := by
  intro d
  induction d with
  | zero => intro j x _; rfl
  | succ d ih =>
    intro j x h
    show acc f d (j + 1) (x + f j) = x
    rw [h j (by omega) (by omega), Int32.add_zero, ih (j + 1) x (fun i h1 h2 => h i (by omega) (by omega))]
theorem acc_split (f : Nat → Int32) : ∀ (a b j : Nat) (x : Int32), acc f (a + b) j x = acc f b (j + a) (acc f a j x) := by
  intro a
  induction a with
  | zero => intro b j x; rw [Nat.zero_add]; rfl
  | succ a ih =>
    intro b j x
    rw [show a + 1 + b = (a + b) + 1 by omega]
    show acc f (a + b) (j + 1) (x + f j) = acc f b (j + (a + 1)) (acc f a (j + 1) (x + f j))
    rw [ih, show j + 1 + a = j + (a + 1) by omega]
/-- the longer sum, whose last numbers are 0 -/
theorem acc_cut {f g : Nat → Int32} {n N : Nat} (hn : n ≤ N) (x : Int32) (h1 : ∀ i : Nat, i < n → f i = g i) (h2 : ∀ i : Nat, n ≤ i → i < N → f i = 0) : acc f N 0 x = acc g n 0 x := by
  rw [show N = n + (N - n) by omega, acc_split, acc_zero _ _ _ (fun i a b => h2 i (by omega) (by omega))]
  exact acc_congr _ _ _ (fun i _ b => h1 i (by omega))
theorem aL_cYard (u : bU) (a1 : Int32) : ∀ (d f j : Nat) (x : Int32), j + d = 8 → d < f → L4_yardOf_4 u a1 f j x = acc (fun j : Nat => if F2_ofBrand u (nI j) 0 = a1 then F2_ofBrand u (nI j) 6 else 0) d j x := by
  intro d
  induction d with
  | zero =>
    intro f j x hj hf
    obtain ⟨f, rfl⟩ : ∃ g : Nat, f = g + 1 := ⟨f - 1, by omega⟩
    rw [L4_yardOf_4, if_pos (show (8 : Int32) ≤ nI j from nI_le (a := 8) (by omega) (by omega))]; rfl
  | succ d ih =>
    intro f j x hj hf
    obtain ⟨f, rfl⟩ : ∃ g : Nat, f = g + 1 := ⟨f - 1, by omega⟩
    rw [L4_yardOf_4, if_neg (show ¬ (8 : Int32) ≤ nI j from nI_ge (b := 8) (by omega) (by decide))]
    by_cases c : F2_ofBrand u (nI j) 0 = a1
    · rw [if_pos c, ih _ _ _ (by omega) (by omega)]
      show acc _ d (j + 1) (x + F2_ofBrand u (nI j) 6) = acc _ d (j + 1) (x + (if F2_ofBrand u (nI j) 0 = a1 then F2_ofBrand u (nI j) 6 else 0))
      rw [if_pos c]
    · rw [if_neg c, ih _ _ _ (by omega) (by omega)]
      show acc _ d (j + 1) x = acc _ d (j + 1) (x + (if F2_ofBrand u (nI j) 0 = a1 then F2_ofBrand u (nI j) 6 else 0))
      rw [if_neg c, Int32.add_zero]
theorem aL_cEmp (u : bU) (a1 a2 : Int32) : ∀ (d f j : Nat) (x : Int32), j + d = 8 → d < f → L4_emptiesOf_5 u a1 a2 f j x = acc (fun j : Nat => if F2_ofBrand u (nI j) 0 = a2 then F2_ofShop u a1 (20 + nI j) else 0) d j x := by
  intro d
  induction d with
  | zero =>
    intro f j x hj hf
    obtain ⟨f, rfl⟩ : ∃ g : Nat, f = g + 1 := ⟨f - 1, by omega⟩
    rw [L4_emptiesOf_5, if_pos (show (8 : Int32) ≤ nI j from nI_le (a := 8) (by omega) (by omega))]; rfl
  | succ d ih =>
    intro f j x hj hf
    obtain ⟨f, rfl⟩ : ∃ g : Nat, f = g + 1 := ⟨f - 1, by omega⟩
    rw [L4_emptiesOf_5, if_neg (show ¬ (8 : Int32) ≤ nI j from nI_ge (b := 8) (by omega) (by decide))]
    by_cases c : F2_ofBrand u (nI j) 0 = a2
    · rw [if_pos c, ih _ _ _ (by omega) (by omega)]
      show acc _ d (j + 1) (x + F2_ofShop u a1 (20 + nI j)) = acc _ d (j + 1) (x + (if F2_ofBrand u (nI j) 0 = a2 then F2_ofShop u a1 (20 + nI j) else 0))
      rw [if_pos c]
    · rw [if_neg c, ih _ _ _ (by omega) (by omega)]
      show acc _ d (j + 1) x = acc _ d (j + 1) (x + (if F2_ofBrand u (nI j) 0 = a2 then F2_ofShop u a1 (20 + nI j) else 0))
      rw [if_neg c, Int32.add_zero]
theorem aL_cShops (u : bU) (a1 : Int32) : ∀ (d f j : Nat) (x : Int32), j + d = 6 → d < f → L2_overShops_4 u a1 f j x = acc (fun j : Nat => F2_ofShop u (nI j) a1) d j x := by
  intro d
  induction d with
  | zero =>
    intro f j x hj hf
    obtain ⟨f, rfl⟩ : ∃ g : Nat, f = g + 1 := ⟨f - 1, by omega⟩
    rw [L2_overShops_4, if_pos (show (6 : Int32) ≤ nI j from nI_le (a := 6) (by omega) (by omega))]; rfl
  | succ d ih =>
    intro f j x hj hf
    obtain ⟨f, rfl⟩ : ∃ g : Nat, f = g + 1 := ⟨f - 1, by omega⟩
    rw [L2_overShops_4, if_neg (show ¬ (6 : Int32) ≤ nI j from nI_ge (b := 6) (by omega) (by decide))]
    rw [ih _ _ _ (by omega) (by omega)]
    rfl
theorem aL_cBrands (u : bU) (a1 : Int32) : ∀ (d f j : Nat) (x : Int32), j + d = 8 → d < f → L2_overBrands_4 u a1 f j x = acc (fun j : Nat => F2_ofBrand u (nI j) a1) d j x := by
  intro d
  induction d with
  | zero =>
    intro f j x hj hf
    obtain ⟨f, rfl⟩ : ∃ g : Nat, f = g + 1 := ⟨f - 1, by omega⟩
    rw [L2_overBrands_4, if_pos (show (8 : Int32) ≤ nI j from nI_le (a := 8) (by omega) (by omega))]; rfl
  | succ d ih =>
    intro f j x hj hf
    obtain ⟨f, rfl⟩ : ∃ g : Nat, f = g + 1 := ⟨f - 1, by omega⟩
    rw [L2_overBrands_4, if_neg (show ¬ (8 : Int32) ≤ nI j from nI_ge (b := 8) (by omega) (by decide))]
    rw [ih _ _ _ (by omega) (by omega)]
    rfl
theorem aL_cOf (u : bU) (a1 a2 : Int32) : ∀ (d f j : Nat) (x : Int32), j + d = 8 → d < f → L2_overBrandsOf_5 u a1 a2 f j x = acc (fun j : Nat => F2_ofShop u a1 (a2 + nI j)) d j x := by
  intro d
  induction d with
  | zero =>
    intro f j x hj hf
    obtain ⟨f, rfl⟩ : ∃ g : Nat, f = g + 1 := ⟨f - 1, by omega⟩
    rw [L2_overBrandsOf_5, if_pos (show (8 : Int32) ≤ nI j from nI_le (a := 8) (by omega) (by omega))]; rfl
  | succ d ih =>
    intro f j x hj hf
    obtain ⟨f, rfl⟩ : ∃ g : Nat, f = g + 1 := ⟨f - 1, by omega⟩
    rw [L2_overBrandsOf_5, if_neg (show ¬ (8 : Int32) ≤ nI j from nI_ge (b := 8) (by omega) (by decide))]
    rw [ih _ _ _ (by omega) (by omega)]
    rfl
def nsum (e : Nat → Nat) : Nat → Nat → Nat
  | 0, _ => 0
  | d + 1, j => e j + nsum e d (j + 1)
theorem acc_nsum {f : Nat → Int32} {e : Nat → Nat} : ∀ (d j x : Nat), (∀ i : Nat, j ≤ i → i < j + d → f i = nI (e i)) → acc f d j (nI x) = nI (x + nsum e d j) := by
  intro d
  induction d with
  | zero => intro j x _; rfl
  | succ d ih =>
    intro j x h
    show acc f d (j + 1) (nI x + f j) = _
    rw [h j (by omega) (by omega), nI_add, ih (j + 1) (x + e j) (fun i a b => h i (by omega) (by omega)), nsum]
    congr 1
    omega
theorem nsum_congr {e g : Nat → Nat} : ∀ (d j : Nat), (∀ i : Nat, j ≤ i → i < j + d → e i = g i) → nsum e d j = nsum g d j := by
  intro d
  induction d with
  | zero => intro j _; rfl
  | succ d ih =>
    intro j h
    rw [nsum, nsum, h j (by omega) (by omega), ih (j + 1) (fun i a b => h i (by omega) (by omega))]
theorem nsum_zero {e : Nat → Nat} : ∀ (d j : Nat), (∀ i : Nat, j ≤ i → i < j + d → e i = 0) → nsum e d j = 0 := by
  intro d
  induction d with
  | zero => intro j _; rfl
  | succ d ih =>
    intro j h
    rw [nsum, h j (by omega) (by omega), ih (j + 1) (fun i a b => h i (by omega) (by omega))]
theorem nsum_dec {e : Nat → Nat} {b : Nat} (hb : 1 ≤ e b) : ∀ (d j : Nat), j ≤ b → b < j + d → nsum (fun i => if i = b then e i - 1 else e i) d j + 1 = nsum e d j := by
  intro d
  induction d with
  | zero => intro j h1 h2; omega
  | succ d ih =>
    intro j h1 h2
    rw [nsum, nsum]
    by_cases c : j = b
    · subst c
      rw [if_pos rfl, nsum_congr (g := e) d (j + 1) (fun i a b => if_neg (by omega))]
      omega
    · have := ih (j + 1) (by omega) (by omega)
      rw [if_neg c]
      omega
theorem nsum_le {e : Nat → Nat} {M : Nat} : ∀ (d j : Nat), (∀ i : Nat, j ≤ i → i < j + d → e i ≤ M) → nsum e d j ≤ d * M := by
  intro d
  induction d with
  | zero => intro j _; rw [nsum]; omega
  | succ d ih =>
    intro j h
    have h1 := h j (by omega) (by omega)
    have h2 := ih (j + 1) (fun i a b => h i (by omega) (by omega))
    rw [nsum, Nat.succ_mul]
    omega
theorem worn_le {f x w : Nat} (hw : 1 ≤ w) : f / w ≤ (f + x) / w ∧ (f + x) / w ≤ f / w + x := by
  refine ⟨Nat.div_le_div_right (by omega), ?_⟩
  have h1 : (f + x) / w ≤ (f + x * w) / w := Nat.div_le_div_right (by have := Nat.le_mul_of_pos_right x (show 0 < w by omega); omega)
  rw [Nat.add_mul_div_right _ _ (by omega)] at h1
  exact h1
theorem add1_0 (f : Nat → Int32) (i : Nat) : add1 f i 0 = f := by
  funext k
  rw [add1_val]
  split
  · rw [Int32.add_zero]
  · rfl
theorem neg_0 : (-0 : Int32) = 0 := by decide

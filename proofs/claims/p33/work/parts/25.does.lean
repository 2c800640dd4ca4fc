-- WHAT THE CLASS DOES, at numbers (own text)
theorem c_dep (u : bU) {k : Nat} (hk : k < 6) : F4_crateDeposits u (nI k) = 12 * u 0 (11 + k) + u 0 14 := by
  unfold F4_crateDeposits
  rw [c_set u (by omega), show F2_ofSetting u 3 = u 0 (11 + 3) from c_set u (by decide)]
theorem c_deposit (u : bU) (f : Nat → Int32) {b k : Nat} (hb : b < 8) (hk : k < 3) (ek : f (17 + 12 * b + 0) = nI k) : F4_depositOf (bs u 0 f) (nI b) = f (11 + k) := by
  unfold F4_depositOf
  rw [show F2_ofBrand (bs u 0 f) (nI b) 0 = nI k from (c_br _ (w := 0) (by omega)).trans (by rw [bs_eq]; exact ek), c_set _ (by omega), bs_eq]
theorem c_depo (u : bU) {b k : Nat} (hb : b < 8) (hk : k < 3) (ek : u 0 (17 + 12 * b + 0) = nI k) : F4_depositOf u (nI b) = u 0 (11 + k) := by
  have := c_deposit u (u 0) hb hk ek
  rw [bs_self] at this
  exact this
theorem c_worn {u : bU} {b x f9 w9 : Nat} (hb : b < 8) (ef : u 0 (17 + 12 * b + 10) = nI f9) (ew : u 0 16 = nI w9) (hw1 : 1 ≤ w9) (hw : w9 ≤ 1000) (hf : f9 + x < 2 ^ 31) : F4_wornBy u (nI b) (nI x) = nI ((f9 + x) / w9 - f9 / w9) := by
  have e1 : F2_ofSetting u 5 = nI w9 := (c_set u (k := 5) (by decide)).trans ew
  have e2 : F2_ofBrand u (nI b) 10 = nI f9 := (c_br u (w := 10) (by omega)).trans ef
  unfold F4_wornBy
  rw [e1, e2, if_neg (nI_nle (by omega) (by omega)), nI_add, pk_div hf (by omega) (by omega), pk_div (by omega) (by omega) (by omega), pk_sub (worn_le hw1).1]
theorem f_Fil {u : bU} {b y w : Nat} (hb : b < 8) (ew : F4_wornBy u (nI b) (nI (y + w)) = nI w) : F4_fillBottles u (nI b) (nI (y + w)) = (nI y, bs u 0 (adds (u 0) (nFil b y w))) := by
  unfold F4_fillBottles nFil
  rw [ew, pk_sub (by omega), Nat.add_sub_cancel]
  simp (disch := omega) only [li1, li2, li9, li10, c_addBr, bs_eq, bs_bs, adds_cons, adds_nil]
theorem f_Del {u : bU} {b s k d x : Nat} (hb : b < 8) (hs : s < 6) (hk : k < 3) (ek : u 0 (17 + 12 * b + 0) = nI k) (ed : u 0 (11 + k) = nI d) (e14 : u 0 14 = nI 150) (e15 : u 0 15 = nI 6) : F4_deliverCrates u (nI b) (nI s) (nI x) = (nI (x * (12 * d + 150) + x * 6), bs u 0 (adds (u 0) (nDel b s x (x * (12 * d + 150)) (x * 6)))) := by
  have f1 : F2_ofBrand u (nI b) 0 = nI k := (c_br u (w := 0) (by omega)).trans ek
  have f2 : F2_ofSetting u 4 = nI 6 := (c_set u (k := 4) (by decide)).trans e15
  unfold F4_deliverCrates nDel
  rw [neg12, f1, c_dep u (by omega), f2, ed, e14]
  simp (disch := omega) only [neg12, negsub, li0, li1, li2, li4, li5, li6, li10, li12, pk_mul, nI_add, c_addBr, c_addSh, c_addAll, bs_eq, bs_bs, adds_cons, adds_nil]
theorem f_Sel {u : bU} {b s k d x : Nat} (hb : b < 8) (hs : s < 6) (hk : k < 3) (ek : u 0 (17 + 12 * b + 0) = nI k) (ed : u 0 (11 + k) = nI d) : F4_sellBottles u (nI s) (nI b) (nI x) = (u 0 (113 + 28 * s + 0) + nI (x * d), bs u 0 (adds (u 0) (nSel b s x (x * d)))) := by
  have h1 : (F4_sellBottles u (nI s) (nI b) (nI x)).2 = bs u 0 (adds (u 0) (nSel b s x (x * d))) := by
    unfold F4_sellBottles nSel
    simp (disch := omega) only [li0, li5, li6, li10, nI_add, c_addBr, c_addSh, bs_eq, bs_bs, adds_cons, adds_nil]
    rw [c_deposit _ _ hb hk (by simp (disch := omega) only [add1_ne]; exact ek)]
    simp (disch := omega) only [add1_ne, ed, pk_mul]
  refine Prod.ext ?_ h1
  show F2_ofShop (F4_sellBottles u (nI s) (nI b) (nI x)).2 (nI s) 0 = _
  rw [h1, show ∀ f, F2_ofShop (bs u 0 f) (nI s) 0 = f (113 + 28 * s + 0) from fun f => d_sh u f (w := 0) (by omega)]
  unfold nSel
  simp (disch := omega) only [adds_cons, adds_nil, add1_at, add1_ne]
theorem f_Ret {u : bU} {b s k d x : Nat} (hb : b < 8) (hs : s < 6) (hk : k < 3) (ek : u 0 (17 + 12 * b + 0) = nI k) (ed : u 0 (11 + k) = nI d) : F4_returnBottles u (nI s) (nI b) (nI x) = (u 0 (113 + 28 * s + 0) + -nI (x * d), bs u 0 (adds (u 0) (nRet b s x (x * d)))) := by
  have h1 : (F4_returnBottles u (nI s) (nI b) (nI x)).2 = bs u 0 (adds (u 0) (nRet b s x (x * d))) := by
    unfold F4_returnBottles nRet
    simp (disch := omega) only [li0, li5, li6, li20, nI_add, c_addBr, c_addSh, bs_eq, bs_bs, adds_cons, adds_nil]
    rw [c_deposit _ _ hb hk (by simp (disch := omega) only [add1_ne]; exact ek)]
    simp (disch := omega) only [add1_ne, ed, negmul, pk_mul]
  refine Prod.ext ?_ h1
  show F2_ofShop (F4_returnBottles u (nI s) (nI b) (nI x)).2 (nI s) 0 = _
  rw [h1, show ∀ f, F2_ofShop (bs u 0 f) (nI s) 0 = f (113 + 28 * s + 0) from fun f => d_sh u f (w := 0) (by omega)]
  unfold nRet
  simp (disch := omega) only [adds_cons, adds_nil, add1_at, add1_ne]
theorem f_Brk {u : bU} {b s k d x p : Nat} (hb : b < 8) (hs : s < 6) (hk : k < 3) (ek : u 0 (17 + 12 * b + 0) = nI k) (ed : u 0 (11 + k) = nI d) (ep : u 0 6 = nI p) (hp : p < 2 ^ 31) (hx : x * d < 2 ^ 31) : F4_breakBottles u (nI s) (nI b) (nI x) = (nI (min (x * d) p), bs u 0 (adds (u 0) (nBrk b s x (x * d) (min (x * d) p)))) := by
  have f5 : F4_depositOf u (nI b) = nI d := (c_depo u hb hk ek).trans ed
  have f6 : F2_ofAll u 6 = nI p := (c_all u (k := 6) (by decide)).trans ep
  unfold F4_breakBottles nBrk
  rw [f5, f6, pk_mul, min_nat hx hp]
  simp (disch := omega) only [li0, li5, li6, li7, li20, nI_add, c_addBr, c_addSh, c_addAll, bs_eq, bs_bs, adds_cons, adds_nil]
theorem f_Los {u : bU} {b k d x : Nat} (hb : b < 8) (hk : k < 3) (ek : u 0 (17 + 12 * b + 0) = nI k) (ed : u 0 (11 + k) = nI d) : F4_loseBottles u (nI b) (nI x) = (adds (u 0) (nLos b x (x * d)) (17 + 12 * b + 5), bs u 0 (adds (u 0) (nLos b x (x * d)))) := by
  have h1 : (F4_loseBottles u (nI b) (nI x)).2 = bs u 0 (adds (u 0) (nLos b x (x * d))) := by
    unfold F4_loseBottles nLos
    simp (disch := omega) only [li5, li8, c_addBr, c_addAll, bs_eq, bs_bs, adds_cons, adds_nil]
    rw [c_deposit _ _ hb hk (by simp (disch := omega) only [add1_ne]; exact ek)]
    simp (disch := omega) only [add1_ne, ed, pk_mul]
  refine Prod.ext ?_ h1
  show F2_ofBrand (F4_loseBottles u (nI b) (nI x)).2 (nI b) 5 = _
  rw [h1]
  exact d_br u _ (w := 5) (by omega)
/-- the swaps' own two numbers -/
def nSw2 (b d x : Nat) : List (Nat × Int32) := [(281 + 8 * b + d, nI x), (281 + 8 * d + b, -nI x)]
theorem f_Swp {u : bU} {b d x : Nat} (hb : b < 8) (hd : d < 8) (hne : b ≠ d) : F4_swapBottles u (nI b) (nI d) (nI x) = (u 0 (281 + 8 * b + d) + nI x, bs u 0 (adds (adds (u 0) (nSwp b d x)) (nSw2 b d x))) := by
  have h1 : (F4_swapBottles u (nI b) (nI d) (nI x)).2 = bs u 0 (adds (adds (u 0) (nSwp b d x)) (nSw2 b d x)) := by
    unfold F4_swapBottles nSwp nSw2
    simp (disch := omega) only [li1, li11, c_addBr, c_addSw, bs_eq, bs_bs, adds_cons, adds_nil]
  refine Prod.ext ?_ h1
  show F2_ofSwaps (F4_swapBottles u (nI b) (nI d) (nI x)).2 (nI b) (nI d) = _
  rw [h1, d_sw u _ (by omega)]
  unfold nSwp nSw2
  simp (disch := omega) only [adds_cons, adds_nil, add1_at, add1_ne]
-- what the needs ask
theorem v_rng {x l h : Nat} (h1 : l ≤ x) (h2 : x ≤ h) (hh : h < 2147483648) : F5_needRange (nI x) (nI l) (nI h) = 0 := by
  unfold F5_needRange
  rw [if_neg (nI_nlt h1 (by omega)), if_neg (nI_nlt h2 (by omega))]
theorem v_knd {x : Nat} (h : x ≤ 2) : F5_needKind (nI x) = 0 := by
  unfold F5_needKind
  have : F5_needRange (nI x) 0 2 = 0 := v_rng (l := 0) (h := 2) (Nat.zero_le _) h (by decide)
  rw [if_pos this]
theorem v_isn {w : Nat} (h : w ≤ 6 ∨ (10 ≤ w ∧ w < 18) ∨ (20 ≤ w ∧ w < 28)) : F5_needArgument (F5_isShopNumber (nI w)) = 0 := by
  have : ∀ w : Nat, w < 28 → (w ≤ 6 ∨ (10 ≤ w ∧ w < 18) ∨ (20 ≤ w ∧ w < 28)) → F5_needArgument (F5_isShopNumber (nI w)) = 0 := by decide +kernel
  exact this w (by omega) h

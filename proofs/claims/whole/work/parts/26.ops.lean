-- WHAT IS DONE, on both sides, as one list of additions (own text)
theorem li0 : (0 : Int32) = nI 0 := rfl
theorem li1 : (1 : Int32) = nI 1 := rfl
theorem li2 : (2 : Int32) = nI 2 := rfl
theorem li3 : (3 : Int32) = nI 3 := rfl
theorem li4 : (4 : Int32) = nI 4 := rfl
theorem li5 : (5 : Int32) = nI 5 := rfl
theorem li6 : (6 : Int32) = nI 6 := rfl
theorem li7 : (7 : Int32) = nI 7 := rfl
theorem li8 : (8 : Int32) = nI 8 := rfl
theorem li9 : (9 : Int32) = nI 9 := rfl
theorem li10 : (10 : Int32) = nI 10 := rfl
theorem li11 : (11 : Int32) = nI 11 := rfl
theorem li12 : (12 : Int32) = nI 12 := rfl
theorem li13 : (13 : Int32) = nI 13 := rfl
theorem li20 : (20 : Int32) = nI 20 := rfl
def toC (L : List (Nat × Int32)) : List (Nat × Int32) := L.map fun p => (phi p.1, p.2)
theorem phi_b0 {b : Nat} (hb : b < 8) : phi (13 + 10 * b + 0) = 17 + 12 * b + 0 := phi_b hb (by decide)
theorem phi_b1 {b : Nat} (hb : b < 8) : phi (13 + 10 * b + 1) = 17 + 12 * b + 1 := phi_b hb (by decide)
theorem phi_b2 {b : Nat} (hb : b < 8) : phi (13 + 10 * b + 2) = 17 + 12 * b + 2 := phi_b hb (by decide)
theorem phi_b3 {b : Nat} (hb : b < 8) : phi (13 + 10 * b + 3) = 17 + 12 * b + 5 := phi_b hb (by decide)
theorem phi_b4 {b : Nat} (hb : b < 8) : phi (13 + 10 * b + 4) = 17 + 12 * b + 6 := phi_b hb (by decide)
theorem phi_b5 {b : Nat} (hb : b < 8) : phi (13 + 10 * b + 5) = 17 + 12 * b + 7 := phi_b hb (by decide)
theorem phi_b6 {b : Nat} (hb : b < 8) : phi (13 + 10 * b + 6) = 17 + 12 * b + 8 := phi_b hb (by decide)
theorem phi_b7 {b : Nat} (hb : b < 8) : phi (13 + 10 * b + 7) = 17 + 12 * b + 9 := phi_b hb (by decide)
theorem phi_b8 {b : Nat} (hb : b < 8) : phi (13 + 10 * b + 8) = 17 + 12 * b + 10 := phi_b hb (by decide)
theorem phi_b9 {b : Nat} (hb : b < 8) : phi (13 + 10 * b + 9) = 17 + 12 * b + 11 := phi_b hb (by decide)
theorem phi_s0 {s : Nat} (hs : s < 6) : phi (93 + 21 * s + 0) = 113 + 28 * s + 0 := phi_s hs (by decide)
theorem phi_s1 {s : Nat} (hs : s < 6) : phi (93 + 21 * s + 1) = 113 + 28 * s + 1 := phi_s hs (by decide)
theorem phi_s2 {s : Nat} (hs : s < 6) : phi (93 + 21 * s + 2) = 113 + 28 * s + 4 := phi_s hs (by decide)
theorem phi_s3 {s : Nat} (hs : s < 6) : phi (93 + 21 * s + 3) = 113 + 28 * s + 5 := phi_s hs (by decide)
theorem phi_s4 {s : Nat} (hs : s < 6) : phi (93 + 21 * s + 4) = 113 + 28 * s + 6 := phi_s hs (by decide)
theorem phi_sF {s b : Nat} (hs : s < 6) (hb : b < 8) : phi (93 + 21 * s + (5 + b)) = 113 + 28 * s + (10 + b) := by
  rw [phi_s hs (by omega)]
  unfold phS
  rw [if_neg (by omega), if_neg (by omega), if_pos (by omega)]
  omega
theorem phi_sE {s b : Nat} (hs : s < 6) (hb : b < 8) : phi (93 + 21 * s + (13 + b)) = 113 + 28 * s + (20 + b) := by
  rw [phi_s hs (by omega)]
  unfold phS
  rw [if_neg (by omega), if_neg (by omega), if_neg (by omega)]
  omega
theorem phi_2 : phi 2 = 2 := by decide
theorem phi_3 : phi 3 = 4 := by decide
theorem phi_4 : phi 4 = 5 := by decide
theorem phi_5 : phi 5 = 6 := by decide
theorem phi_6 : phi 6 = 9 := by decide
-- single numbers of the two rows
theorem q_kind {c m : Nat → Int32} (h : rV c m) {b : Nat} (hb : b < 8) : c (17 + 12 * b + 0) = m (13 + 10 * b + 0) := by rw [← phi_b0 hb]; exact h.1 _ (by omega)
theorem q_set {c m : Nat → Int32} (h : rV c m) {k : Nat} (hk : k < 6) : c (11 + k) = m (7 + k) := by
  rw [← h.1 (7 + k) (by omega)]
  congr 1
  unfold phi
  rw [if_neg (by omega), if_neg (by omega), if_neg (by omega), if_pos (by omega)]
  omega
theorem neg12 (x : Int32) : -12 * x = -(12 * x) := by grind
theorem negsub (x y : Int32) : -x - y = -(x + y) := by grind
theorem negmul (x y : Int32) : -x * y = -(x * y) := by grind
/-- what one step does on both sides -/
def stepOf (L : List (Nat × Int32)) (u v : bU) (r q : Int32 × bU) : Prop := r.2 = bs u 0 (adds (u 0) (toC L)) ∧ q.2 = bs v 0 (adds (v 0) L) ∧ r.1 = q.1
theorem rV_step {c m : Nat → Int32} {L : List (Nat × Int32)} (h : rV c m) (hL : ∀ p ∈ L, p.1 < 219) : rV (adds c (toC L)) (adds m L) := rV_adds h L hL
theorem m_dep (v : bU) {k : Nat} (hk : k < 6) (x : Int32) : F6_depositsFor v (nI k) x = x * (12 * v 0 (7 + k) + v 0 10) := by
  unfold F6_depositsFor
  rw [show (7 + nI k : Int32) = nI (7 + k) from nI_add 7 k, mC (by omega)]
theorem c_dep (u : bU) {k : Nat} (hk : k < 6) : F4_crateDeposits u (nI k) = 12 * u 0 (11 + k) + u 0 14 := by
  unfold F4_crateDeposits
  rw [c_set u (by omega), show F2_ofSetting u 3 = u 0 (11 + 3) from c_set u (by decide)]
theorem s_deliver {u v : bU} {b s k d c p x : Nat} (hr : rV (u 0) (v 0)) (hb : b < 8) (hs : s < 6) (hk : k < 3) (ek : v 0 (13 + 10 * b + 0) = nI k) (ed : v 0 (7 + k) = nI d) (ec : v 0 10 = nI c) (ep : v 0 11 = nI p) :
    stepOf (nDel b s x (x * (12 * d + c)) (x * p)) u v (F4_deliverCrates u (nI b) (nI s) (nI x)) (F6_delivers v (nI b) (nI s) (nI x)) := by
  have e1 : F6_of v (nI b) 0 = nI k := (m_br v (w := 0) (by omega)).trans ek
  have f1 : F2_ofBrand u (nI b) 0 = nI k := (c_br u (w := 0) (by omega)).trans ((q_kind hr hb).trans ek)
  have f2 : F2_ofSetting u 4 = nI p := (c_set u (k := 4) (by decide)).trans ((q_set hr (k := 4) (by decide)).trans ep)
  have f3 : u 0 14 = nI c := (q_set hr (k := 3) (by decide)).trans ec
  have f4 : u 0 (11 + k) = nI d := (q_set hr (by omega)).trans ed
  refine ⟨?_, ?_, ?_⟩
  · unfold F4_deliverCrates nDel toC
    rw [neg12, f1, c_dep u (by omega), f2, f3, f4]
    simp (disch := omega) only [neg12, negsub, li0, li1, li2, li4, li5, li6, li10, li12, pk_mul, nI_add, c_addBr, c_addSh, c_addAll, bs_eq, bs_bs, List.map_cons, List.map_nil, adds_cons, adds_nil, phi_b2, phi_sF, phi_2, phi_s1, phi_s0, phi_s2, phi_s3, phi_3, phi_5]
    rw [add1_comm _ 4 (113 + 28 * s + 5)]
  · unfold F6_delivers nDel
    rw [e1, m_dep v (by omega), ed, ec, ep]
    simp (disch := omega) only [li0, li1, li2, li3, li5, li12, pk_mul, nI_add, m_iB, m_iS, badd_eq, bsub_eq, bs_eq, bs_bs, adds_cons, adds_nil]
  · unfold F4_deliverCrates F6_delivers
    rw [f1, c_dep u (by omega), f2, f3, f4, e1, m_dep v (by omega), ed, ec, ep]
theorem m_deposit (v : bU) (f : Nat → Int32) {b k : Nat} (hb : b < 8) (hk : k < 3) (ek : f (13 + 10 * b + 0) = nI k) : F6_deposit (bs v 0 f) (nI b) = f (7 + k) := by
  unfold F6_deposit
  rw [show F6_of (bs v 0 f) (nI b) 0 = nI k from (m_br _ (w := 0) (by omega)).trans (by rw [bs_eq]; exact ek), show (7 + nI k : Int32) = nI (7 + k) from nI_add 7 k, mC (by omega), bs_eq]
theorem c_deposit (u : bU) (f : Nat → Int32) {b k : Nat} (hb : b < 8) (hk : k < 3) (ek : f (17 + 12 * b + 0) = nI k) : F4_depositOf (bs u 0 f) (nI b) = f (11 + k) := by
  unfold F4_depositOf
  rw [show F2_ofBrand (bs u 0 f) (nI b) 0 = nI k from (c_br _ (w := 0) (by omega)).trans (by rw [bs_eq]; exact ek), c_set _ (by omega), bs_eq]
theorem s_sell {u v : bU} {b s k d x : Nat} (hr : rV (u 0) (v 0)) (hb : b < 8) (hs : s < 6) (hk : k < 3) (ek : v 0 (13 + 10 * b + 0) = nI k) (ed : v 0 (7 + k) = nI d) :
    stepOf (nSel b s x (x * d)) u v (F4_sellBottles u (nI s) (nI b) (nI x)) (F6_sells v (nI s) (nI b) (nI x)) := by
  have f1 : u 0 (17 + 12 * b + 0) = nI k := (q_kind hr hb).trans ek
  have f4 : u 0 (11 + k) = nI d := (q_set hr (by omega)).trans ed
  have h1 : (F4_sellBottles u (nI s) (nI b) (nI x)).2 = bs u 0 (adds (u 0) (toC (nSel b s x (x * d)))) := by
    unfold F4_sellBottles nSel toC
    simp (disch := omega) only [li0, li5, li6, li10, nI_add, c_addBr, c_addSh, bs_eq, bs_bs, List.map_cons, List.map_nil, adds_cons, adds_nil, phi_b3, phi_sF, phi_s4, phi_s0]
    rw [c_deposit _ _ hb hk (by simp (disch := omega) only [add1_ne]; exact f1)]
    simp (disch := omega) only [add1_ne, f4, pk_mul]
  have h2 : (F6_sells v (nI s) (nI b) (nI x)).2 = bs v 0 (adds (v 0) (nSel b s x (x * d))) := by
    unfold F6_sells nSel
    simp (disch := omega) only [li0, li3, li4, li5, nI_add, m_iB, m_iS, badd_eq, bsub_eq, bs_eq, bs_bs, adds_cons, adds_nil]
    rw [m_deposit _ _ hb hk (by simp (disch := omega) only [add1_ne]; exact ek)]
    simp (disch := omega) only [add1_ne, ed, pk_mul]
  refine ⟨h1, h2, ?_⟩
  show F2_ofShop (F4_sellBottles u (nI s) (nI b) (nI x)).2 (nI s) 0 = F6_ofShop (F6_sells v (nI s) (nI b) (nI x)).2 (nI s) 0
  rw [h1, h2, show ∀ f, F2_ofShop (bs u 0 f) (nI s) 0 = f (113 + 28 * s + 0) from fun f => d_sh u f (w := 0) (by omega), show ∀ f, F6_ofShop (bs v 0 f) (nI s) 0 = f (93 + 21 * s + 0) from fun f => (m_sh (bs v 0 f) (w := 0) (by omega)).trans (by rw [bs_eq]), ← phi_s0 hs]
  exact (rV_step hr (by simp only [nSel]; intro p hp; simp only [List.mem_cons, List.not_mem_nil, or_false] at hp; rcases hp with rfl | rfl | rfl | rfl <;> (dsimp only; omega))).1 _ (by omega)
theorem s_return {u v : bU} {b s k d x : Nat} (hr : rV (u 0) (v 0)) (hb : b < 8) (hs : s < 6) (hk : k < 3) (ek : v 0 (13 + 10 * b + 0) = nI k) (ed : v 0 (7 + k) = nI d) :
    stepOf (nRet b s x (x * d)) u v (F4_returnBottles u (nI s) (nI b) (nI x)) (F6_takesBack v (nI s) (nI b) (nI x)) := by
  have f1 : u 0 (17 + 12 * b + 0) = nI k := (q_kind hr hb).trans ek
  have f4 : u 0 (11 + k) = nI d := (q_set hr (by omega)).trans ed
  have h1 : (F4_returnBottles u (nI s) (nI b) (nI x)).2 = bs u 0 (adds (u 0) (toC (nRet b s x (x * d)))) := by
    unfold F4_returnBottles nRet toC
    simp (disch := omega) only [li0, li5, li6, li20, nI_add, c_addBr, c_addSh, bs_eq, bs_bs, List.map_cons, List.map_nil, adds_cons, adds_nil, phi_b3, phi_sE, phi_s4, phi_s0]
    rw [c_deposit _ _ hb hk (by simp (disch := omega) only [add1_ne]; exact f1)]
    simp (disch := omega) only [add1_ne, f4, negmul, pk_mul]
  have h2 : (F6_takesBack v (nI s) (nI b) (nI x)).2 = bs v 0 (adds (v 0) (nRet b s x (x * d))) := by
    unfold F6_takesBack nRet
    simp (disch := omega) only [li0, li3, li4, li13, nI_add, m_iB, m_iS, badd_eq, bsub_eq, bs_eq, bs_bs, adds_cons, adds_nil]
    rw [m_deposit _ _ hb hk (by simp (disch := omega) only [add1_ne]; exact ek)]
    simp (disch := omega) only [add1_ne, ed, pk_mul]
  refine ⟨h1, h2, ?_⟩
  show F2_ofShop (F4_returnBottles u (nI s) (nI b) (nI x)).2 (nI s) 0 = F6_ofShop (F6_takesBack v (nI s) (nI b) (nI x)).2 (nI s) 0
  rw [h1, h2, show ∀ f, F2_ofShop (bs u 0 f) (nI s) 0 = f (113 + 28 * s + 0) from fun f => d_sh u f (w := 0) (by omega), show ∀ f, F6_ofShop (bs v 0 f) (nI s) 0 = f (93 + 21 * s + 0) from fun f => (m_sh (bs v 0 f) (w := 0) (by omega)).trans (by rw [bs_eq]), ← phi_s0 hs]
  exact (rV_step hr (by simp only [nRet]; intro p hp; simp only [List.mem_cons, List.not_mem_nil, or_false] at hp; rcases hp with rfl | rfl | rfl | rfl <;> (dsimp only; omega))).1 _ (by omega)
theorem min_nat {a b : Nat} (ha : a < 2 ^ 31) (hb : b < 2 ^ 31) : bmin (nI a) (nI b) = nI (min a b) := by
  unfold bmin
  by_cases h : b < a
  · rw [if_pos ((nI_ltI hb ha).mpr h), Nat.min_eq_right (by omega)]
  · rw [if_neg (fun q => h ((nI_ltI hb ha).mp q)), Nat.min_eq_left (by omega)]
theorem least_nat {a b : Nat} (ha : a < 2 ^ 31) (hb : b < 2 ^ 31) : F6_least (nI a) (nI b) = nI (min a b) := by
  unfold F6_least
  by_cases h : b ≤ a
  · rw [if_pos ((nI_leI hb ha).mpr h), Nat.min_eq_right h]
  · rw [if_neg (fun q => h ((nI_leI hb ha).mp q)), Nat.min_eq_left (by omega)]
theorem s_break {u v : bU} {b s k d x p : Nat} (hr : rV (u 0) (v 0)) (hb : b < 8) (hs : s < 6) (hk : k < 3) (ek : v 0 (13 + 10 * b + 0) = nI k) (ed : v 0 (7 + k) = nI d) (ep : v 0 5 = nI p) (hp : p < 2 ^ 31) (hx : x * d < 2 ^ 31) :
    stepOf (nBrk b s x (x * d) (min (x * d) p)) u v (F4_breakBottles u (nI s) (nI b) (nI x)) (F6_breaksThem v (nI s) (nI b) (nI x)) := by
  have f1 : u 0 (17 + 12 * b + 0) = nI k := (q_kind hr hb).trans ek
  have f4 : u 0 (11 + k) = nI d := (q_set hr (by omega)).trans ed
  have f5 : F4_depositOf u (nI b) = nI d := by
    have := c_deposit u (u 0) hb hk f1
    rw [bs_self] at this
    rw [this, f4]
  have f6 : F2_ofAll u 6 = nI p := (c_all u (k := 6) (by decide)).trans ((hr.1 5 (by decide)).trans ep)
  have g5 : F6_deposit v (nI b) = nI d := by
    have := m_deposit v (v 0) hb hk ek
    rw [bs_self] at this
    rw [this, ed]
  refine ⟨?_, ?_, ?_⟩
  · unfold F4_breakBottles nBrk toC
    rw [f5, f6, pk_mul, min_nat hx hp]
    simp (disch := omega) only [li0, li5, li6, li7, li20, nI_add, c_addBr, c_addSh, c_addAll, bs_eq, bs_bs, List.map_cons, List.map_nil, adds_cons, adds_nil, phi_b5, phi_sE, phi_s0, phi_s3, phi_4, phi_5]
    rw [add1_comm _ (113 + 28 * s + 5) (113 + 28 * s + 0)]
  · unfold F6_breaksThem nBrk
    rw [g5, ep, pk_mul, least_nat hx hp]
    simp (disch := omega) only [li0, li3, li5, li13, nI_add, m_iB, m_iS, badd_eq, bsub_eq, bs_eq, bs_bs, adds_cons, adds_nil]
  · unfold F4_breakBottles F6_breaksThem
    rw [f5, f6, g5, ep, pk_mul, min_nat hx hp, least_nat hx hp]

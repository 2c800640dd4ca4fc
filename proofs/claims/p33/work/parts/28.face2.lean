-- the face's calls at numbers, where nothing stands against them (own text)
def KP0 (u : bU) : Prop := ∃ l k : Nat, l < 6 ∧ k ≤ 6 ∧ u 11 0 = nI l ∧ u 11 1 = nI k
def KP (u : bU) : Prop := ∃ l k : Nat, l < 6 ∧ 1 ≤ k ∧ k ≤ 6 ∧ u 11 0 = nI l ∧ u 11 1 = nI k
theorem KP_0 {u : bU} (h : KP u) : KP0 u := by
  obtain ⟨l, k, a, _, b, c, d⟩ := h
  exact ⟨l, k, a, b, c, d⟩
theorem kp_keep {u : bU} (h : KP0 u) : KP (F1_keep u) ∧ F1_keep u 0 = u 0 := by
  obtain ⟨l, k, hl, hk, e0, e1⟩ := h
  obtain ⟨a0, a1, a2, -⟩ := keepv hl e0 hk e1
  exact ⟨⟨(l + 1) % 6, min (k + 1) 6, Nat.mod_lt _ (by decide), by omega, by omega, a1, a2⟩, a0⟩
theorem kp_lat {u : bU} (h : KP0 u) : bLat u := by
  obtain ⟨l, k, hl, hk, e0, e1⟩ := h
  have : l = 0 ∨ l = 1 ∨ l = 2 ∨ l = 3 ∨ l = 4 ∨ l = 5 := by omega
  unfold bLat
  rw [e0]
  rcases this with rfl | rfl | rfl | rfl | rfl | rfl
  · exact Or.inl rfl
  · exact Or.inr (Or.inl rfl)
  · exact Or.inr (Or.inr (Or.inl rfl))
  · exact Or.inr (Or.inr (Or.inr (Or.inl rfl)))
  · exact Or.inr (Or.inr (Or.inr (Or.inr (Or.inl rfl))))
  · exact Or.inr (Or.inr (Or.inr (Or.inr (Or.inr rfl))))
def GS (B n t : Nat) (kd : Nat → Nat) (f : Nat) (m k : Int32) (bb : Nat → Int32) (u : bU) : Prop := INV B n t kd f m k 0 bb (u 0) ∧ KP u
theorem GS_up {B B' n t : Nat} {kd : Nat → Nat} {f : Nat} {m k : Int32} {bb : Nat → Int32} {u : bU} (h : GS B n t kd f m k bb u) (hB : B ≤ B') : GS B' n t kd f m k bb u := ⟨INV_up h.1 hB, h.2⟩
theorem GS_of {B n t : Nat} {kd : Nat → Nat} {f : Nat} {m k : Int32} {bb c : Nat → Int32} {w : bU} (h : INV B n t kd f m k 0 bb c) (hw : KP w) : GS B n t kd f m k bb (bs w 0 c) := ⟨by rw [bs_eq]; exact h, hw⟩
theorem le_nI {x : Nat} {z : Int32} (h : (x : Int) ≤ z.toInt) : nI x ≤ z := by
  have := iRg z
  rw [iLe, nI_toInt (by omega)]
  exact h
theorem toI_of {z : Int32} {e : Nat} (h : z = nI e) (he : e < 2147483648) : z.toInt = (e : Int) := by rw [h, nI_toInt he]
section FC
variable {B n t : Nat} {kd : Nat → Nat} {f : Nat} {m k al : Int32} {bb : Nat → Int32} {u : bU}
theorem dpo_r (b : Nat) : 8 ≤ dpo kd b ∧ dpo kd b ≤ 15 := by
  unfold dpo
  split <;> omega
theorem INV_kd (h : INV B n t kd f m k al bb (u 0)) {b : Nat} (hb : b < 8) : kd b < 3 ∧ u 0 (17 + 12 * b + 0) = nI (kd b) ∧ u 0 (11 + kd b) = nI (dpo kd b) := by
  obtain ⟨k1, k2⟩ := h.1.2.1 b hb
  refine ⟨by omega, k2, ?_⟩
  have := v_dep h.1 hb
  rw [v_kind u hb, k2, v_set (by omega)] at this
  exact this
theorem INV_nb (h : INV B n t kd f m k al bb (u 0)) {b : Nat} (hb : b < n) : F5_needBrand u (nI b) = 0 := v_nb h.1.1.2.2.1 h.1.1.1 hb
theorem INV_ns (h : INV B n t kd f m k al bb (u 0)) {s : Nat} (hs : s < t) : F5_needShop u (nI s) = 0 := v_ns h.1.1.2.2.2 h.1.1.2.1 hs
theorem INV_st (h : INV B n t kd f m k al bb (u 0)) {b : Nat} (hb : b < 8) : F5_needSetting (F5_brand u (nI b) 0) = 0 := by
  obtain ⟨k1, k2, -⟩ := INV_kd h hb
  exact v_set3 k1 ((v_kind u hb).trans k2)
theorem nk2 {kk : Nat} (h : kk < 3) : F5_needKind (nI kk) = 0 := v_knd (by omega)
theorem F_fill (h : INV B n t kd f m k 0 bb (u 0)) (hK : KP0 u) (h9 : B + 5000 < 2147483648) {b x : Nat} (hb : b < n) (h1 : 1 ≤ x) (h2 : x ≤ 5000) (c1 : (x : Int) ≤ (u 0 (17 + 12 * b + 1)).toInt) : ∃ (y : Nat) (u' : bU), F5_fill u (nI b) (nI x) = (0, nI y, u') ∧ F5_filled u (nI b) (nI x) = nI y ∧ u' 0 (17 + 12 * b + 1) = u 0 (17 + 12 * b + 1) - nI x ∧ u' 0 (17 + 12 * b + 2) = u 0 (17 + 12 * b + 2) + nI y ∧ GS (B + 5000) n t kd f m k bb u' := by
  obtain ⟨hn, ht, -, -⟩ := h.1.1
  have hb8 : b < 8 := by omega
  obtain ⟨F, hF, f10, f9⟩ := h.2.2.2.1 b hb8
  obtain ⟨-, -, -, -, -, q6, q7, q8⟩ := h.1.2.2
  obtain ⟨hKP, hk0⟩ := kp_keep hK
  have hw := worn_le (f := F) (x := x) (w := f) (by omega)
  generalize hW : (F + x) / f - F / f = W at *
  have hWx : W ≤ x := by omega
  obtain ⟨y, rfl⟩ : ∃ y : Nat, x = y + W := ⟨x - W, by omega⟩
  have ew : F4_wornBy u (nI b) (nI (y + W)) = nI W := by rw [c_worn hb8 f10 q6 (by omega) q8 (by omega), hW]
  have ew2 : F4_wornBy (F1_keep u) (nI b) (nI (y + W)) = nI W := by rw [c_worn hb8 (by rw [hk0]; exact f10) (by rw [hk0]; exact q6) (by omega) q8 (by omega), hW]
  refine ⟨y, bs (F1_keep u) 0 (adds (u 0) (nFil b y W)), ?_, ?_, ?_, ?_, ?_⟩
  · unfold F5_fill
    rw [if_pos (INV_nb h hb), if_pos (show F5_needRange (nI (y + W)) 1 5000 = 0 from v_rng (l := 1) (h := 5000) h1 h2 (by decide)), if_neg ?_, f_Fil hb8 ew2, hk0]
    rw [show F2_ofBrand u (nI b) 1 = u 0 (17 + 12 * b + 1) from c_br u (w := 1) (by omega), Int32.not_lt]
    exact le_nI c1
  · unfold F5_filled
    rw [ew, pk_sub (by omega), Nat.add_sub_cancel]
  · rw [bs_eq]
    unfold nFil
    simp (disch := omega) only [adds_cons, adds_nil, add1_at, add1_ne, Int32.sub_eq_add_neg]
  · rw [bs_eq]
    unfold nFil
    simp (disch := omega) only [adds_cons, adds_nil, add1_at, add1_ne]
  · refine GS_of (iFil hb c1 h2 h h9 (fun b9 hb9 => ?_)) hKP
    by_cases q : b9 = b
    · subst q
      refine ⟨F + (y + W), by omega, ?_, ?_⟩
      · unfold nFil
        simp (disch := omega) only [adds_cons, adds_nil, add1_at, add1_ne, f10, nI_add]
      · unfold nFil
        simp (disch := omega) only [adds_cons, adds_nil, add1_at, add1_ne, f9, nI_add]
        congr 1
        omega
    · obtain ⟨G, g1, g2, g3⟩ := h.2.2.2.1 b9 hb9
      refine ⟨G, by omega, ?_, ?_⟩
      · unfold nFil
        simp (disch := omega) only [adds_cons, adds_nil, add1_ne]
        exact g2
      · unfold nFil
        simp (disch := omega) only [adds_cons, adds_nil, add1_ne]
        exact g3
theorem F_sell (h : INV B n t kd f m k 0 bb (u 0)) (hK : KP0 u) (h9 : B + 100000 < 2147483648) {b s x : Nat} (hb : b < n) (hs : s < t) (h1 : 1 ≤ x) (h2 : x ≤ 500) (c1 : (x : Int) ≤ (u 0 (113 + 28 * s + (10 + b))).toInt) : ∃ u' : bU, F5_sell u (nI s) (nI b) (nI x) = (0, u 0 (113 + 28 * s + 0) + nI x * gd kd b, u') ∧ GS (B + 100000) n t kd f m k bb u' := by
  obtain ⟨hn, ht, -, -⟩ := h.1.1
  have hb8 : b < 8 := by omega
  have hs6 : s < 6 := by omega
  obtain ⟨k1, k2, k3⟩ := INV_kd h hb8
  obtain ⟨hKP, hk0⟩ := kp_keep hK
  have hd := dpo_r (kd := kd) b
  have hD : x * dpo kd b ≤ 500 * 15 := Nat.mul_le_mul h2 hd.2
  have e : F4_sellReason u (nI s) (nI b) (nI x) = 0 := by
    unfold F4_sellReason F4_bottleReason
    rw [show F2_ofShop u (nI s) (10 + nI b) = u 0 (113 + 28 * s + (10 + b)) from by rw [show (10 + nI b : Int32) = nI (10 + b) from nI_add 10 b]; exact c_sh u (by omega), if_pos (le_nI c1)]
  refine ⟨bs (F1_keep u) 0 (adds (u 0) (nSel b s x (x * dpo kd b))), ?_, GS_of (iSel hb hs (by unfold gd; rw [pk_mul]) c1 h2 (by omega) h h9) hKP⟩
  unfold F5_sell
  rw [if_pos (INV_ns h hs), if_pos (INV_nb h hb), if_pos (show F5_needRange (nI x) 1 500 = 0 from v_rng (l := 1) (h := 500) h1 h2 (by decide)), if_pos e, f_Sel hb8 hs6 k1 (by rw [hk0]; exact k2) (by rw [hk0]; exact k3), hk0]
  unfold gd
  rw [pk_mul]
theorem F_takeBack (h : INV B n t kd f m k 0 bb (u 0)) (hK : KP0 u) (h9 : B + 100000 < 2147483648) {b s x : Nat} (hb : b < n) (hs : s < t) (h1 : 1 ≤ x) (h2 : x ≤ 500) (c1 : (x : Int) ≤ (u 0 (17 + 12 * b + 5)).toInt) (c2 : ((x * dpo kd b : Nat) : Int) ≤ (u 0 (113 + 28 * s + 0)).toInt) : ∃ u' : bU, F5_takeBack u (nI s) (nI b) (nI x) = (0, u 0 (113 + 28 * s + 0) - nI x * gd kd b, u') ∧ GS (B + 100000) n t kd f m k bb u' := by
  obtain ⟨hn, ht, -, -⟩ := h.1.1
  have hb8 : b < 8 := by omega
  have hs6 : s < 6 := by omega
  obtain ⟨k1, k2, k3⟩ := INV_kd h hb8
  obtain ⟨hKP, hk0⟩ := kp_keep hK
  have e : F4_returnReason u (nI s) (nI b) (nI x) = 0 := by
    unfold F4_returnReason
    rw [show F2_ofBrand u (nI b) 5 = u 0 (17 + 12 * b + 5) from c_br u (w := 5) (by omega), if_pos (le_nI c1), c_depo u hb8 k1 k2, k3, pk_mul, show F2_ofShop u (nI s) 0 = u 0 (113 + 28 * s + 0) from c_sh u (w := 0) (by omega), if_pos (le_nI c2)]
  refine ⟨bs (F1_keep u) 0 (adds (u 0) (nRet b s x (x * dpo kd b))), ?_, GS_of (iRet hb hs (by unfold gd; rw [pk_mul]) c1 c2 h2 h h9) hKP⟩
  unfold F5_takeBack
  rw [if_pos (INV_ns h hs), if_pos (INV_nb h hb), if_pos (show F5_needRange (nI x) 1 500 = 0 from v_rng (l := 1) (h := 500) h1 h2 (by decide)), if_pos e, f_Ret hb8 hs6 k1 (by rw [hk0]; exact k2) (by rw [hk0]; exact k3), hk0]
  unfold gd
  rw [pk_mul, Int32.sub_eq_add_neg]
theorem F_breaks (h : INV B n t kd f m k 0 bb (u 0)) (hK : KP0 u) (h9 : B + 100000 < 2147483648) {b s x p : Nat} (hb : b < n) (hs : s < t) (h1 : 1 ≤ x) (h2 : x ≤ 500) (c1 : (x : Int) ≤ (u 0 (113 + 28 * s + (20 + b))).toInt) (hp : u 0 6 = nI p) (hp2 : p < 2147483648) : ∃ u' : bU, F5_breaks u (nI s) (nI b) (nI x) = (0, nI (min (x * dpo kd b) p), u') ∧ GS (B + 100000) n t kd f m k bb u' := by
  obtain ⟨hn, ht, -, -⟩ := h.1.1
  have hb8 : b < 8 := by omega
  have hs6 : s < 6 := by omega
  obtain ⟨k1, k2, k3⟩ := INV_kd h hb8
  obtain ⟨hKP, hk0⟩ := kp_keep hK
  have hd := dpo_r (kd := kd) b
  have hD : x * dpo kd b ≤ 500 * 15 := Nat.mul_le_mul h2 hd.2
  have e : F4_breakReason u (nI s) (nI b) (nI x) = 0 := by
    unfold F4_breakReason F4_bottleReason
    rw [show F2_ofShop u (nI s) (20 + nI b) = u 0 (113 + 28 * s + (20 + b)) from by rw [show (20 + nI b : Int32) = nI (20 + b) from nI_add 20 b]; exact c_sh u (by omega), if_pos (le_nI c1)]
  refine ⟨bs (F1_keep u) 0 (adds (u 0) (nBrk b s x (x * dpo kd b) (min (x * dpo kd b) p))), ?_, GS_of (iBrk hb hs (by unfold gd; rw [pk_mul]) c1 (by rw [toI_of hp hp2]; omega) h2 (by omega) h h9) hKP⟩
  unfold F5_breaks
  rw [if_pos (INV_ns h hs), if_pos (INV_nb h hb), if_pos (show F5_needRange (nI x) 1 500 = 0 from v_rng (l := 1) (h := 500) h1 h2 (by decide)), if_pos e, f_Brk hb8 hs6 k1 (by rw [hk0]; exact k2) (by rw [hk0]; exact k3) (by rw [hk0]; exact hp) (by omega) (by omega), hk0]
theorem F_lose (h : INV B n t kd f m k 0 bb (u 0)) (hK : KP0 u) (h9 : B + 100000 < 2147483648) {b x : Nat} (hb : b < n) (h1 : 1 ≤ x) (h2 : x ≤ 5000) (c1 : (x : Int) ≤ (u 0 (17 + 12 * b + 5)).toInt) : ∃ u' : bU, F5_lose u (nI b) (nI x) = (0, u' 0 (17 + 12 * b + 5), u') ∧ GS (B + 100000) n t kd f m k bb u' := by
  obtain ⟨hn, ht, -, -⟩ := h.1.1
  have hb8 : b < 8 := by omega
  obtain ⟨k1, k2, k3⟩ := INV_kd h hb8
  obtain ⟨hKP, hk0⟩ := kp_keep hK
  refine ⟨bs (F1_keep u) 0 (adds (u 0) (nLos b x (x * dpo kd b))), ?_, GS_of (iLos hb (by unfold gd; rw [pk_mul]) c1 h2 h h9) hKP⟩
  unfold F5_lose
  rw [if_pos (INV_nb h hb), if_pos (show F5_needRange (nI x) 1 5000 = 0 from v_rng (l := 1) (h := 5000) h1 h2 (by decide)), if_neg ?_, f_Los hb8 k1 (by rw [hk0]; exact k2) (by rw [hk0]; exact k3), hk0, bs_eq]
  rw [show F2_ofBrand u (nI b) 5 = u 0 (17 + 12 * b + 5) from c_br u (w := 5) (by omega), Int32.not_lt]
  exact le_nI c1
theorem v_price (h : INV B n t kd f m k 0 bb (u 0)) {b : Nat} (hb : b < 8) : F4_cratePrice u (nI b) = nI (12 * dpo kd b + 150 + 6) := by
  obtain ⟨k1, k2, k3⟩ := INV_kd h hb
  obtain ⟨-, -, -, q4, q5, -⟩ := h.1.2.2
  unfold F4_cratePrice
  rw [show F2_ofBrand u (nI b) 0 = nI (kd b) from (c_br u (w := 0) (by omega)).trans k2, c_dep u (by omega), k3, q4, show F2_ofSetting u 4 = nI 6 from (c_set u (k := 4) (by decide)).trans q5, show (12 : Int32) = nI 12 from rfl, pk_mul, nI_add, nI_add]
theorem F_why (h : INV B n t kd f m k 0 bb (u 0)) {b s x F S M : Nat} (hb : b < 8) (hs : s < 6) (hx : x ≤ 50) (eF : u 0 (17 + 12 * b + 2) = nI F) (eS : u 0 2 = nI S) (eM : u 0 (113 + 28 * s + 0) = nI M) (hF : F < 2147483648) (hS : S < 2147483648) (hM : M < 2147483648) : F4_deliverReason u (nI b) (nI s) (nI x) = if 12 * x ≤ F then (if x ≤ S then (if x * (12 * dpo kd b + 150 + 6) ≤ M then 0 else 3) else 2) else 1 := by
  have hd := dpo_r (kd := kd) b
  have hP : x * (12 * dpo kd b + 150 + 6) ≤ 50 * 336 := Nat.mul_le_mul hx (by omega)
  unfold F4_deliverReason
  rw [v_price h hb, show F2_ofBrand u (nI b) 2 = nI F from (c_br u (w := 2) (by omega)).trans eF, show F2_ofAll u 2 = nI S from (c_all u (k := 2) (by decide)).trans eS, show F2_ofShop u (nI s) 0 = nI M from (c_sh u (w := 0) (by omega)).trans eM, pk_mul, show (12 : Int32) = nI 12 from rfl, pk_mul]
  by_cases q1 : 12 * x ≤ F
  · rw [if_pos q1, if_pos ((nI_leI (by omega) (by omega)).mpr q1)]
    by_cases q2 : x ≤ S
    · rw [if_pos q2, if_pos ((nI_leI (by omega) (by omega)).mpr q2)]
      by_cases q3 : x * (12 * dpo kd b + 150 + 6) ≤ M
      · rw [if_pos q3, if_pos ((nI_leI (by omega) (by omega)).mpr q3)]
      · rw [if_neg q3, if_neg (fun z => q3 ((nI_leI (by omega) (by omega)).mp z))]
    · rw [if_neg q2, if_neg (fun z => q2 ((nI_leI (by omega) (by omega)).mp z))]
  · rw [if_neg q1, if_neg (fun z => q1 ((nI_leI (by omega) (by omega)).mp z))]
theorem F_most (h : INV B n t kd f m k 0 bb (u 0)) {b s F S M : Nat} (hb : b < 8) (hs : s < 6) (eF : u 0 (17 + 12 * b + 2) = nI F) (eS : u 0 2 = nI S) (eM : u 0 (113 + 28 * s + 0) = nI M) (hF : F < 2147483648) (hS : S < 2147483648) (hM : M < 2147483648) : F5_mostCrates u (nI b) (nI s) = nI (min (min (min (F / 12) S) (M / (12 * dpo kd b + 150 + 6))) 50) := by
  have hd := dpo_r (kd := kd) b
  have d1 : F / 12 ≤ F := Nat.div_le_self _ _
  have d2 : M / (12 * dpo kd b + 150 + 6) ≤ M := Nat.div_le_self _ _
  unfold F5_mostCrates F4_mostDeliverable
  rw [v_price h hb, show F2_ofBrand u (nI b) 2 = nI F from (c_br u (w := 2) (by omega)).trans eF, show F2_ofAll u 2 = nI S from (c_all u (k := 2) (by decide)).trans eS, show F2_ofShop u (nI s) 0 = nI M from (c_sh u (w := 0) (by omega)).trans eM, if_neg (nI_nle (by omega) (by omega)), show (12 : Int32) = nI 12 from rfl, pk_div (by omega) (by decide) (by decide), pk_div (by omega) (by omega) (by omega), min_nat (by omega) (by omega), min_nat (by omega) (by omega), show (50 : Int32) = nI 50 from rfl, min_nat (by omega) (by decide)]
theorem F_deliver (h : INV B n t kd f m k 0 bb (u 0)) (hK : KP0 u) (h9 : B + 100000 < 2147483648) {b s x : Nat} (hb : b < n) (hs : s < t) (h1 : 1 ≤ x) (h2 : x ≤ 50) (c1 : ((12 * x : Nat) : Int) ≤ (u 0 (17 + 12 * b + 2)).toInt) (c2 : (x : Int) ≤ (u 0 2).toInt) (c3 : ((x * (12 * dpo kd b + 150) + x * 6 : Nat) : Int) ≤ (u 0 (113 + 28 * s + 0)).toInt) (e : F4_deliverReason u (nI b) (nI s) (nI x) = 0) : ∃ u' : bU, F5_deliver u (nI b) (nI s) (nI x) = (0, nI (x * (12 * dpo kd b + 150) + x * 6), u') ∧ GS (B + 100000) n t kd f m k bb u' := by
  obtain ⟨hn, ht, -, -⟩ := h.1.1
  have hb8 : b < 8 := by omega
  have hs6 : s < 6 := by omega
  obtain ⟨k1, k2, k3⟩ := INV_kd h hb8
  obtain ⟨-, -, -, q4, q5, -⟩ := h.1.2.2
  obtain ⟨hKP, hk0⟩ := kp_keep hK
  have hd := dpo_r (kd := kd) b
  have hD : x * (12 * dpo kd b + 150) ≤ 50 * 330 := Nat.mul_le_mul h2 (by omega)
  refine ⟨bs (F1_keep u) 0 (adds (u 0) (nDel b s x (x * (12 * dpo kd b + 150)) (x * 6))), ?_, GS_of (iDel hb hs (by unfold gd; rw [show (12 : Int32) = nI 12 from rfl, pk_mul, nI_add, pk_mul]) c1 c2 c3 h2 (by omega) (by omega) h h9) hKP⟩
  unfold F5_deliver
  rw [if_pos (INV_nb h hb), if_pos (INV_ns h hs), if_pos (show F5_needRange (nI x) 1 50 = 0 from v_rng (l := 1) (h := 50) h1 h2 (by decide)), if_pos e, f_Del hb8 hs6 k1 (by rw [hk0]; exact k2) (by rw [hk0]; exact k3) (by rw [hk0]; exact q4) (by rw [hk0]; exact q5), hk0]
end FC

-- ANSWERS, both sides (own text)
section
variable {u v : bU} {B n t : Nat} {α β : Int}
theorem nI_ne {a b : Nat} (h : a ≠ b) (ha : a < 2 ^ 31) (hb : b < 2 ^ 31) : ¬ nI a = nI b := fun e => h ((nI_eq ha hb).mp e)
theorem brand_eq (hr : rV (u 0) (v 0)) (h : gQ B n t α β (v 0)) {b w : Nat} (hb : b < 8) (hw : w < 12) : F2_brandNumber u (nI b) (nI w) = F6_aboutBrand v (nI b) (nI w) := by
  unfold F2_brandNumber F6_aboutBrand
  rcases Nat.lt_or_ge w 3 with q | q
  · rw [if_neg (show ¬ nI w = (3 : Int32) from nI_ne (b := 3) (by omega) (by omega) (by decide)), if_neg (show ¬ nI w = (4 : Int32) from nI_ne (b := 4) (by omega) (by omega) (by decide)), if_neg (show ¬ (3 : Int32) ≤ nI w from nI_ge (b := 3) q (by decide)), ← r_b hr hb (by omega)]
    congr 1
    unfold phW
    rw [if_pos q]
  · rw [if_pos (show (3 : Int32) ≤ nI w from nI_le (a := 3) q (by omega))]
    by_cases c3 : w = 3
    · subst c3
      rw [if_pos (show nI 3 = 3 from rfl), if_pos (show nI 3 = 3 from rfl)]
      exact full_eq hr h hb
    · rw [if_neg (show ¬ nI w = (3 : Int32) from nI_ne (b := 3) c3 (by omega) (by decide)), if_neg (show ¬ nI w = (3 : Int32) from nI_ne (b := 3) c3 (by omega) (by decide))]
      by_cases c4 : w = 4
      · subst c4
        rw [if_pos (show nI 4 = 4 from rfl), if_pos (show nI 4 = 4 from rfl)]
        exact empt_eq hr h hb
      · rw [if_neg (show ¬ nI w = (4 : Int32) from nI_ne (b := 4) c4 (by omega) (by decide)), if_neg (show ¬ nI w = (4 : Int32) from nI_ne (b := 4) c4 (by omega) (by decide)), show (nI w - 2 : Int32) = nI (w - 2) from pk_sub (b := 2) (by omega), ← r_b hr hb (by omega)]
        congr 1
        unfold phW
        rw [if_neg (by omega)]
        congr 1
        omega
theorem shop_eq (hr : rV (u 0) (v 0)) {s w : Nat} (hs : s < 6) (hw : w < 7 ∨ (10 ≤ w ∧ w < 18) ∨ (20 ≤ w ∧ w < 28)) : F2_shopNumber u (nI s) (nI w) = F6_aboutShop v (nI s) (nI w) := by
  have ho := of_eq hr hs
  unfold F2_shopNumber F6_aboutShop
  rcases hw with hw | hw | hw
  · rw [if_pos (show nI w ≤ (9 : Int32) from nI_le (b := 9) (by omega) (by decide))]
    by_cases c2 : w = 2
    · subst c2
      rw [if_pos (show nI 2 = 2 from rfl), if_pos (show nI 2 = 2 from rfl)]
      exact ho.1
    · rw [if_neg (show ¬ nI w = (2 : Int32) from nI_ne (b := 2) c2 (by omega) (by decide)), if_neg (show ¬ nI w = (2 : Int32) from nI_ne (b := 2) c2 (by omega) (by decide))]
      by_cases c3 : w = 3
      · subst c3
        rw [if_pos (show nI 3 = 3 from rfl), if_pos (show nI 3 = 3 from rfl)]
        exact ho.2
      · rw [if_neg (show ¬ nI w = (3 : Int32) from nI_ne (b := 3) c3 (by omega) (by decide)), if_neg (show ¬ nI w = (3 : Int32) from nI_ne (b := 3) c3 (by omega) (by decide))]
        rcases Nat.lt_or_ge w 2 with q | q
        · rw [if_neg (show ¬ (2 : Int32) ≤ nI w from nI_ge (b := 2) q (by decide)), ← r_s hr hs (by omega)]
          congr 1
          unfold phS
          rw [if_pos q]
        · rw [if_pos (show (2 : Int32) ≤ nI w from nI_le (a := 2) q (by omega)), show (nI w - 2 : Int32) = nI (w - 2) from pk_sub (b := 2) (by omega), ← r_s hr hs (by omega)]
          congr 1
          unfold phS
          rw [if_neg (by omega), if_pos (by omega)]
          congr 1
          omega
  · rw [if_neg (show ¬ nI w = (2 : Int32) from nI_ne (b := 2) (by omega) (by omega) (by decide)), if_neg (show ¬ nI w = (3 : Int32) from nI_ne (b := 3) (by omega) (by omega) (by decide)), if_neg (show ¬ nI w ≤ (9 : Int32) from nI_ge (a := 9) (by omega) (by omega)), if_neg (show ¬ (20 : Int32) ≤ nI w from nI_ge (b := 20) (by omega) (by decide)), show (nI w - nI w / 10 * 10 : Int32) = nI (w % 10) from pk_rem (d := 10) (by omega) (by decide) (by decide), ← r_F hr hs (by omega), show (10 + nI (w % 10) : Int32) = nI (10 + w % 10) from nI_add 10 _]
    congr 2
    omega
  · rw [if_neg (show ¬ nI w = (2 : Int32) from nI_ne (b := 2) (by omega) (by omega) (by decide)), if_neg (show ¬ nI w = (3 : Int32) from nI_ne (b := 3) (by omega) (by omega) (by decide)), if_neg (show ¬ nI w ≤ (9 : Int32) from nI_ge (a := 9) (by omega) (by omega)), if_pos (show (20 : Int32) ≤ nI w from nI_le (a := 20) (by omega) (by omega)), show (nI w - nI w / 10 * 10 : Int32) = nI (w % 10) from pk_rem (d := 10) (by omega) (by decide) (by decide), ← r_E hr hs (by omega), show (20 + nI (w % 10) : Int32) = nI (20 + w % 10) from nI_add 20 _]
    congr 2
    omega
theorem count_eq (hr : rV (u 0) (v 0)) (h : gQ B n t α β (v 0)) {w : Nat} (hw : w < 10) : F2_countNumber u (nI w) = F6_number v (nI w) := by
  have hn := num_eq hr h
  unfold F2_countNumber F6_number
  rw [hn]
  match w, hw with
  | 0, _ => exact (c_all u (k := 0) (by decide)).trans (hr.1 0 (by decide))
  | 1, _ => exact (c_all u (k := 1) (by decide)).trans (hr.1 1 (by decide))
  | 2, _ => exact (c_all u (k := 2) (by decide)).trans (hr.1 2 (by decide))
  | 3, _ => exact crates_eq hr h
  | 4, _ => exact (c_all u (k := 4) (by decide)).trans (hr.1 3 (by decide))
  | 5, _ => exact (c_all u (k := 5) (by decide)).trans (hr.1 4 (by decide))
  | 6, _ => exact (c_all u (k := 6) (by decide)).trans (hr.1 5 (by decide))
  | 7, _ => rfl
  | 8, _ => rfl
  | 9, _ => exact (c_all u (k := 9) (by decide)).trans (hr.1 6 (by decide))
  | k + 10, hw => omega
theorem kind_nat (h : gQ B n t α β (v 0)) {b : Nat} (hb : b < 8) : ∃ k d : Nat, k < 3 ∧ v 0 (13 + 10 * b + 0) = nI k ∧ v 0 (7 + k) = nI d ∧ 1 ≤ d ∧ d ≤ 100 := by
  obtain ⟨k, hk, e⟩ := h.2.1 b hb
  obtain ⟨d, h1, h2, e2⟩ := h.2.2.2.1.1 k hk
  exact ⟨k, d, hk, e, e2, h1, h2⟩
theorem c_kind (hr : rV (u 0) (v 0)) {b k : Nat} (hb : b < 8) (ek : v 0 (13 + 10 * b + 0) = nI k) : F2_ofBrand u (nI b) 0 = nI k := (r_b hr (w := 0) hb (by decide)).trans ((m_br v (w := 0) (by omega)).trans ek)
theorem m_kind {b k : Nat} (hb : b < 8) (ek : v 0 (13 + 10 * b + 0) = nI k) : F6_of v (nI b) 0 = nI k := (m_br v (w := 0) (by omega)).trans ek
theorem price_eq (hr : rV (u 0) (v 0)) (h : gQ B n t α β (v 0)) {b : Nat} (hb : b < 8) (x : Int32) : x * F4_cratePrice u (nI b) = F6_priceFor v (nI b) x := by
  obtain ⟨k, d, hk, ek, ed, _, _⟩ := kind_nat h hb
  unfold F4_cratePrice F6_priceFor
  rw [c_kind hr hb ek, m_kind hb ek, c_dep u (by omega), m_dep v (by omega), q_set hr (by omega), show u 0 14 = v 0 10 from q_set hr (k := 3) (by decide), show F2_ofSetting u 4 = v 0 11 from (c_set u (k := 4) (by decide)).trans (q_set hr (k := 4) (by decide))]
  grind
theorem del_eq (hr : rV (u 0) (v 0)) (h : gQ B n t α β (v 0)) {b s : Nat} (hb : b < 8) (hs : s < 6) (x : Int32) : F4_deliverReason u (nI b) (nI s) x = F6_againstDeliver v (nI b) (nI s) x := by
  unfold F4_deliverReason F6_againstDeliver
  rw [price_eq hr h hb, show F2_ofBrand u (nI b) 2 = F6_of v (nI b) 2 from r_b hr (w := 2) hb (by decide), show F2_ofAll u 2 = v 0 2 from (c_all u (k := 2) (by decide)).trans (hr.1 2 (by decide)), show F2_ofShop u (nI s) 0 = F6_ofShop v (nI s) 0 from r_s hr (w := 0) hs (by decide)]
theorem sell_eq (hr : rV (u 0) (v 0)) {b s : Nat} (hb : b < 8) (hs : s < 6) (x : Int32) : F4_sellReason u (nI s) (nI b) x = F6_againstSell v (nI s) (nI b) x := by
  unfold F4_sellReason F6_againstSell F4_bottleReason
  rw [r_F hr hs hb]
theorem brk_eq (hr : rV (u 0) (v 0)) {b s : Nat} (hb : b < 8) (hs : s < 6) (x : Int32) : F4_breakReason u (nI s) (nI b) x = F6_againstBreak v (nI s) (nI b) x := by
  unfold F4_breakReason F6_againstBreak F4_bottleReason
  rw [r_E hr hs hb]
theorem depo_eq (hr : rV (u 0) (v 0)) (h : gQ B n t α β (v 0)) {b : Nat} (hb : b < 8) : F4_depositOf u (nI b) = F6_deposit v (nI b) := by
  obtain ⟨k, d, hk, ek, ed, _, _⟩ := kind_nat h hb
  have h1 := c_deposit u (u 0) hb hk ((q_kind hr hb).trans ek)
  have h2 := m_deposit v (v 0) hb hk ek
  rw [bs_self] at h1 h2
  rw [h1, h2, q_set hr (by omega)]
theorem ret_eq (hr : rV (u 0) (v 0)) (h : gQ B n t α β (v 0)) {b s : Nat} (hb : b < 8) (hs : s < 6) (x : Int32) : F4_returnReason u (nI s) (nI b) x = F6_againstTakeBack v (nI s) (nI b) x := by
  unfold F4_returnReason F6_againstTakeBack
  rw [depo_eq hr h hb, show F2_ofBrand u (nI b) 5 = F6_of v (nI b) 3 from r_b hr (w := 3) hb (by decide), show F2_ofShop u (nI s) 0 = F6_ofShop v (nI s) 0 from r_s hr (w := 0) hs (by decide)]
theorem col_eq (hr : rV (u 0) (v 0)) (h : gQ B n t α β (v 0)) {s : Nat} (hs : s < 6) (a x : Int32) : F4_collectReason u (nI s) a x = F6_againstCollect v (nI s) a x := by
  unfold F4_collectReason F6_againstCollect
  rw [emp_eq hr h hs, show F2_ofShop u (nI s) 1 = F6_ofShop v (nI s) 1 from r_s hr (w := 1) hs (by decide)]
theorem d_nat {m : Nat → Int32} (h : gQ B n t α β m) {j : Nat} (hj : j < 219) (hw : wD j = 1) : ∃ y : Nat, y ≤ 1000 ∧ m j = nI y := by
  have := gJ_D h hj hw
  exact ⟨(m j).toInt.toNat, by omega, iOf (by omega)⟩
theorem m_nat {m : Nat → Int32} (h : gQ B n t α β m) {j : Nat} (hj : j < 219) (hw : wQ j = 1) : ∃ y : Nat, y ≤ B ∧ m j = nI y := by
  have := gJ_M h hj hw
  exact ⟨(m j).toInt.toNat, by omega, iOf (by omega)⟩
-- how many crates could be delivered
theorem deliv_loop {b s F S M p : Nat} (hag : ∀ x : Nat, x ≤ 51 → (F6_againstDeliver v (nI b) (nI s) (nI x) = 0 ↔ 12 * x ≤ F ∧ x ≤ S ∧ x * p ≤ M)) (hp : 1 ≤ p) : ∀ (d f j : Nat), j + d = 50 → d < f → j ≤ min (min (min (F / 12) S) (M / p)) 50 → L6_deliverable_2 v (nI b) (nI s) f j = nI (min (min (min (F / 12) S) (M / p)) 50) := by
  intro d
  induction d with
  | zero =>
    intro f j hj hf hle
    obtain ⟨f, rfl⟩ : ∃ q : Nat, f = q + 1 := ⟨f - 1, by omega⟩
    rw [L6_deliverable_2, if_pos (show (50 : Int32) ≤ nI j from nI_le (a := 50) (by omega) (by omega))]
    congr 1
    omega
  | succ d ih =>
    intro f j hj hf hle
    obtain ⟨f, rfl⟩ : ∃ q : Nat, f = q + 1 := ⟨f - 1, by omega⟩
    rw [L6_deliverable_2, if_neg (show ¬ (50 : Int32) ≤ nI j from nI_ge (b := 50) (by omega) (by decide)), nI_1]
    have e1 : j + 1 ≤ F / 12 ↔ 12 * (j + 1) ≤ F := by omega
    have e2 : j + 1 ≤ M / p ↔ (j + 1) * p ≤ M := Nat.le_div_iff_mul_le (by omega)
    by_cases c : F6_againstDeliver v (nI b) (nI s) (nI (j + 1)) = 0
    · rw [if_pos c]
      have := (hag (j + 1) (by omega)).mp c
      exact ih f (j + 1) (by omega) (by omega) (by omega)
    · rw [if_neg c]
      have : ¬ (12 * (j + 1) ≤ F ∧ j + 1 ≤ S ∧ (j + 1) * p ≤ M) := fun q => c ((hag (j + 1) (by omega)).mpr q)
      congr 1
      omega
theorem most_eq (hr : rV (u 0) (v 0)) (h : gQ B n t α β (v 0)) (hB : B < 2000000000) {b s : Nat} (hb : b < 8) (hs : s < 6) : F4_mostDeliverable u (nI b) (nI s) = F6_deliverable v (nI b) (nI s) := by
  obtain ⟨k, d, hk, ek, ed, hd1, hd2⟩ := kind_nat h hb
  obtain ⟨c, hc, ec⟩ := h.2.2.2.1.2.1
  obtain ⟨p, hp, ep⟩ := h.2.2.2.1.2.2.1
  obtain ⟨F, hF, eF⟩ := b_nat h (j := 13 + 10 * b + 2) (by omega) (wv_T_b2 hb)
  obtain ⟨S9, hS, eS⟩ := d_nat h (j := 2) (by decide) wv_D_g2
  obtain ⟨M, hM, eM⟩ := m_nat h (j := 93 + 21 * s + 0) (by omega) (wv_M_s0 hs)
  have hpr : 12 * d + c + p ≤ 1800 := by omega
  have gF : F6_of v (nI b) 2 = nI F := (m_br v (w := 2) (by omega)).trans eF
  have gM : F6_ofShop v (nI s) 0 = nI M := (m_sh v (w := 0) (by omega)).trans eM
  have hag : ∀ x : Nat, x ≤ 51 → (F6_againstDeliver v (nI b) (nI s) (nI x) = 0 ↔ 12 * x ≤ F ∧ x ≤ S9 ∧ x * (12 * d + c + p) ≤ M) := by
    intro x hx
    have hb1 : x * (12 * d + c + p) ≤ 51 * 1800 := Nat.mul_le_mul hx hpr
    have e3 : F6_priceFor v (nI b) (nI x) = nI (x * (12 * d + c + p)) := by
      unfold F6_priceFor
      rw [m_kind hb ek, m_dep v (by omega), ed, ec, ep, show (12 * nI d + nI c : Int32) = nI (12 * d + c) from by rw [show (12 * nI d : Int32) = nI (12 * d) from pk_mul 12 d, nI_add], pk_mul, pk_mul, nI_add, ← Nat.mul_add]
    unfold F6_againstDeliver
    rw [gF, gM, eS, e3, show (12 * nI x : Int32) = nI (12 * x) from pk_mul 12 x]
    by_cases c1 : 12 * x ≤ F
    · rw [if_pos (nI_le c1 (by omega))]
      by_cases c2 : x ≤ S9
      · rw [if_pos (nI_le c2 (by omega))]
        by_cases c3 : x * (12 * d + c + p) ≤ M
        · rw [if_pos (nI_le c3 (by omega))]; simp [c1, c2, c3]
        · rw [if_neg (nI_ge (by omega) (by omega))]; simp [c1, c2, c3]
      · rw [if_neg (nI_ge (by omega) (by omega))]; simp [c1, c2]
    · rw [if_neg (nI_ge (by omega) (by omega))]; simp [c1]
  have r := deliv_loop hag (by omega) 50 51 0 (by decide) (by decide) (Nat.zero_le _)
  have e1 : F4_cratePrice u (nI b) = nI (12 * d + c + p) := by
    unfold F4_cratePrice
    rw [c_kind hr hb ek, c_dep u (by omega), q_set hr (by omega), show u 0 14 = v 0 10 from q_set hr (k := 3) (by decide), show F2_ofSetting u 4 = v 0 11 from (c_set u (k := 4) (by decide)).trans (q_set hr (k := 4) (by decide)), ed, ec, ep, show (12 * nI d : Int32) = nI (12 * d) from pk_mul 12 d, nI_add, nI_add]
  unfold F4_mostDeliverable F6_deliverable
  rw [e1, if_neg (nI_nle (by omega) (by omega)), show F2_ofBrand u (nI b) 2 = nI F from (r_b hr (w := 2) hb (by decide)).trans gF, show F2_ofAll u 2 = nI S9 from (c_all u (k := 2) (by decide)).trans ((hr.1 2 (by decide)).trans eS), show F2_ofShop u (nI s) 0 = nI M from (r_s hr (w := 0) hs (by decide)).trans gM, show (nI F / 12 : Int32) = nI (F / 12) from pk_div (d := 12) (by omega) (by decide) (by decide), pk_div (by omega) (by omega) (by omega), show (50 : Int32) = nI 50 from rfl]
  have hq : M / (12 * d + c + p) < 2 ^ 31 := Nat.lt_of_le_of_lt (Nat.div_le_self _ _) (by omega)
  rw [min_nat (by omega) (by omega), min_nat (by omega) hq, min_nat (by omega) (by decide)]
  exact r.symm
-- the shop with most to collect
theorem best_eq (hr : rV (u 0) (v 0)) (h : gQ B n t α β (v 0)) {k : Nat} (hk : k < 3) : F4_bestToCollect u (nI k) = F6_shopFor v (nI k) := by
  obtain ⟨hn, ht, e0, e1⟩ := gQ_0 h
  have val : ∀ s : Nat, s < 6 → ∃ y : Nat, y ≤ 50 ∧ F4_mostCollectable u (nI s) (nI k) = nI y ∧ F6_least 50 (F6_least ((F6_emptiesOf v (nI s) (nI k)) / 12) (F6_ofShop v (nI s) 1)) = nI y ∧ (t ≤ s → y = 0) := by
    intro s hs
    obtain ⟨g1, g2⟩ := emp_nsum (k := k) hs h
    obtain ⟨C, hC, eC⟩ := d_nat h (j := 93 + 21 * s + 1) (by omega) (wv_D_s1 hs)
    have gC : F6_ofShop v (nI s) 1 = nI C := (m_sh v (w := 1) (by omega)).trans eC
    refine ⟨min (min (nsum (eK s k (v 0)) 8 0 / 12) C) 50, by omega, ?_, ?_, fun q => ?_⟩
    · unfold F4_mostCollectable
      rw [emp_eq hr h hs, g1, show F2_ofShop u (nI s) 1 = nI C from (r_s hr (w := 1) hs (by decide)).trans gC, show (nI (nsum (eK s k (v 0)) 8 0) / 12 : Int32) = nI (nsum (eK s k (v 0)) 8 0 / 12) from pk_div (d := 12) (by omega) (by decide) (by decide), min_nat (by omega) (by omega), show (50 : Int32) = nI 50 from rfl, min_nat (by omega) (by decide)]
    · rw [g1, gC, show (nI (nsum (eK s k (v 0)) 8 0) / 12 : Int32) = nI (nsum (eK s k (v 0)) 8 0 / 12) from pk_div (d := 12) (by omega) (by decide) (by decide), least_nat (by omega) (by omega), show (50 : Int32) = nI 50 from rfl, least_nat (by decide) (by omega), Nat.min_comm]
    · have : nI C = nI 0 := by rw [← eC]; exact z_s h q hs (by decide)
      have := (nI_eq (by omega) (by decide)).mp this
      omega
  have tail : ∀ (d f j : Nat) (x : Int32) (y : Nat), j + d = 6 → d < f → t ≤ j → y < 2 ^ 31 → L4_bestToCollect_7 u (nI k) f j x (nI y) = (x, nI y) := by
    intro d
    induction d with
    | zero =>
      intro f j x y hj hf _ _
      obtain ⟨f, rfl⟩ : ∃ q : Nat, f = q + 1 := ⟨f - 1, by omega⟩
      rw [L4_bestToCollect_7, if_pos (show (6 : Int32) ≤ nI j from nI_le (a := 6) (by omega) (by omega))]
    | succ d ih =>
      intro f j x y hj hf hq hy
      obtain ⟨f, rfl⟩ : ∃ q : Nat, f = q + 1 := ⟨f - 1, by omega⟩
      obtain ⟨z, z1, z2, z3, z4⟩ := val j (by omega)
      rw [L4_bestToCollect_7, if_neg (show ¬ (6 : Int32) ≤ nI j from nI_ge (b := 6) (by omega) (by decide)), z2, z4 hq, if_pos (nI_le (Nat.zero_le y) hy)]
      exact ih f (j + 1) x y (by omega) (by omega) (by omega) hy
  have main : ∀ (d f g j : Nat) (x : Int32) (y : Nat), j + d = 6 → d < f → t + 1 ≤ g + j → 1 ≤ g → y ≤ 50 → L4_bestToCollect_7 u (nI k) f j x (nI y) = L6_shopFor_7 v (nI k) g j x (nI y) := by
    intro d
    induction d with
    | zero =>
      intro f g j x y hj hf hg hg1 _
      obtain ⟨f, rfl⟩ : ∃ q : Nat, f = q + 1 := ⟨f - 1, by omega⟩
      obtain ⟨g, rfl⟩ : ∃ q : Nat, g = q + 1 := ⟨g - 1, by omega⟩
      rw [L4_bestToCollect_7, if_pos (show (6 : Int32) ≤ nI j from nI_le (a := 6) (by omega) (by omega)), L6_shopFor_7, e1, if_pos (nI_le (by omega) (by omega))]
    | succ d ih =>
      intro f g j x y hj hf hg hg1 hy
      obtain ⟨g, rfl⟩ : ∃ q : Nat, g = q + 1 := ⟨g - 1, by omega⟩
      rcases Nat.lt_or_ge j t with q | q
      · obtain ⟨f, rfl⟩ : ∃ q : Nat, f = q + 1 := ⟨f - 1, by omega⟩
        obtain ⟨z, z1, z2, z3, z4⟩ := val j (by omega)
        rw [L4_bestToCollect_7, if_neg (show ¬ (6 : Int32) ≤ nI j from nI_ge (b := 6) (by omega) (by decide)), z2, L6_shopFor_7, e1, if_neg (nI_ge q (by omega)), z3]
        by_cases c : z ≤ y
        · rw [if_pos (nI_le c (by omega)), if_pos (nI_le c (by omega)), if_pos (nI_le c (by omega))]
          exact ih f g (j + 1) x y (by omega) (by omega) (by omega) (by omega) hy
        · rw [if_neg (nI_ge (by omega) (by omega)), if_neg (nI_ge (by omega) (by omega)), if_neg (nI_ge (by omega) (by omega))]
          exact ih f g (j + 1) (nI j) z (by omega) (by omega) (by omega) (by omega) z1
      · rw [tail (d + 1) f j x y hj hf q (by omega), L6_shopFor_7, e1, if_pos (nI_le q (by omega))]
  unfold F4_bestToCollect F6_shopFor
  rw [e1, mC (by omega)]
  exact congrArg Prod.fst (main 6 7 (t + 1) 0 (-1) 0 (by decide) (by decide) (by omega) (by omega) (by omega))
end

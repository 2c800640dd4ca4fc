-- the digests, both sides (own text, part by program)
section
variable {u v : bU} {B n t : Nat} {α β : Int}
theorem cd_eq (hr : rV (u 0) ((bput v 6 2 0) 0)) (h : gQ B n t α β ((bput v 6 2 0) 0)) (hk : u 11 1 = v 6 0) {w : Nat} (hw : w < 11) : F5_countD u (nI w) = F6_number (bput v 6 2 0) (nI w) := by
  unfold F5_countD
  by_cases c : w = 10
  · subst c
    rw [if_pos (show nI 10 = (10 : Int32) from rfl), show nI 10 = (10 : Int32) from rfl, num_10]
    exact hk
  · rw [if_neg (show ¬ nI w = (10 : Int32) from nI_ne (b := 10) c (by omega) (by decide))]
    exact count_eq hr h (by omega)
theorem all0 (e : u 0 0 = nI n) : F2_ofAll u 0 = nI n := (c_all u (k := 0) (by decide)).trans e
theorem all1 (e : u 0 1 = nI t) : F2_ofAll u 1 = nI t := (c_all u (k := 1) (by decide)).trans e
theorem dg_6 (hr : rV (u 0) ((bput v 6 2 0) 0)) (h : gQ B n t α β ((bput v 6 2 0) 0)) (hk : u 11 1 = v 6 0) : ∀ (d f g j : Nat) (x : Int64), j + d = 11 → d < f → d < g → L5_digest_6 u f j x = L6_digest_11 v g j x := by
  intro d
  induction d with
  | zero =>
    intro f g j x hj hf hg
    obtain ⟨f, rfl⟩ : ∃ y : Nat, f = y + 1 := ⟨f - 1, by omega⟩
    obtain ⟨g, rfl⟩ : ∃ y : Nat, g = y + 1 := ⟨g - 1, by omega⟩
    rw [L5_digest_6, L6_digest_11, if_pos (show (11 : Int32) ≤ nI j from nI_le (a := 11) (by omega) (by omega)), if_pos (show (11 : Int32) ≤ nI j from nI_le (a := 11) (by omega) (by omega))]
  | succ d ih =>
    intro f g j x hj hf hg
    obtain ⟨f, rfl⟩ : ∃ y : Nat, f = y + 1 := ⟨f - 1, by omega⟩
    obtain ⟨g, rfl⟩ : ∃ y : Nat, g = y + 1 := ⟨g - 1, by omega⟩
    rw [L5_digest_6, L6_digest_11, if_neg (show ¬ (11 : Int32) ≤ nI j from nI_ge (b := 11) (by omega) (by decide)), if_neg (show ¬ (11 : Int32) ≤ nI j from nI_ge (b := 11) (by omega) (by decide))]
    rw [F5_mixed, cd_eq hr h hk (by omega)]
    exact ih f g (j + 1) _ (by omega) (by omega) (by omega)
theorem dg_31 (hr : rV (u 0) ((bput v 6 2 0) 0)) (h : gQ B n t α β ((bput v 6 2 0) 0)) : ∀ (d f g j : Nat) (x : Int64), j + d = 6 → d < f → d < g → L5_digest_31 u f j x = L6_digest_38 v g j x := by
  intro d
  induction d with
  | zero =>
    intro f g j x hj hf hg
    obtain ⟨f, rfl⟩ : ∃ y : Nat, f = y + 1 := ⟨f - 1, by omega⟩
    obtain ⟨g, rfl⟩ : ∃ y : Nat, g = y + 1 := ⟨g - 1, by omega⟩
    rw [L5_digest_31, L6_digest_38, if_pos (show (6 : Int32) ≤ nI j from nI_le (a := 6) (by omega) (by omega)), if_pos (show (6 : Int32) ≤ nI j from nI_le (a := 6) (by omega) (by omega))]
  | succ d ih =>
    intro f g j x hj hf hg
    obtain ⟨f, rfl⟩ : ∃ y : Nat, f = y + 1 := ⟨f - 1, by omega⟩
    obtain ⟨g, rfl⟩ : ∃ y : Nat, g = y + 1 := ⟨g - 1, by omega⟩
    rw [L5_digest_31, L6_digest_38, if_neg (show ¬ (6 : Int32) ≤ nI j from nI_ge (b := 6) (by omega) (by decide)), if_neg (show ¬ (6 : Int32) ≤ nI j from nI_ge (b := 6) (by omega) (by decide))]
    rw [F5_mixed, c_set u (by omega), show (7 + nI j : Int32) = nI (7 + j) from nI_add 7 j, mC (by omega), q_set hr (by omega)]
    exact ih f g (j + 1) _ (by omega) (by omega) (by omega)
theorem dg_b6 (hr : rV (u 0) ((bput v 6 2 0) 0)) (h : gQ B n t α β ((bput v 6 2 0) 0)) {b : Nat} (hb : b < 8) : ∀ (d f g j : Nat) (x : Int64), j + d = 12 → d < f → d < g → L5_mixedBrand_6 u (nI b) f j x = L6_digest_82 v b g j x := by
  intro d
  induction d with
  | zero =>
    intro f g j x hj hf hg
    obtain ⟨f, rfl⟩ : ∃ y : Nat, f = y + 1 := ⟨f - 1, by omega⟩
    obtain ⟨g, rfl⟩ : ∃ y : Nat, g = y + 1 := ⟨g - 1, by omega⟩
    rw [L5_mixedBrand_6, L6_digest_82, if_pos (show (12 : Int32) ≤ nI j from nI_le (a := 12) (by omega) (by omega)), if_pos (show (12 : Int32) ≤ nI j from nI_le (a := 12) (by omega) (by omega))]
  | succ d ih =>
    intro f g j x hj hf hg
    obtain ⟨f, rfl⟩ : ∃ y : Nat, f = y + 1 := ⟨f - 1, by omega⟩
    obtain ⟨g, rfl⟩ : ∃ y : Nat, g = y + 1 := ⟨g - 1, by omega⟩
    rw [L5_mixedBrand_6, L6_digest_82, if_neg (show ¬ (12 : Int32) ≤ nI j from nI_ge (b := 12) (by omega) (by decide)), if_neg (show ¬ (12 : Int32) ≤ nI j from nI_ge (b := 12) (by omega) (by decide))]
    rw [F5_mixed, brand_eq hr h hb (by omega)]
    exact ih f g (j + 1) _ (by omega) (by omega) (by omega)
theorem dg_b61 (hB : B < 2000000000) (hr : rV (u 0) ((bput v 6 2 0) 0)) (h : gQ B n t α β ((bput v 6 2 0) 0)) (e1 : u 0 1 = nI t) (e2 : (bput v 6 2 0) 0 1 = nI t) (ht : t ≤ 6) {b : Nat} (hb : b < 8) : ∀ (d f g j : Nat) (x : Int64), j + d = t → d < f → d < g → L5_mixedBrand_61 u (nI b) f j x = L6_digest_128 v b g j x := by
  intro d
  induction d with
  | zero =>
    intro f g j x hj hf hg
    obtain ⟨f, rfl⟩ : ∃ y : Nat, f = y + 1 := ⟨f - 1, by omega⟩
    obtain ⟨g, rfl⟩ : ∃ y : Nat, g = y + 1 := ⟨g - 1, by omega⟩
    rw [L5_mixedBrand_61, L6_digest_128, if_pos (by rw [all1 e1]; exact nI_le (by omega) (by omega)), if_pos (by rw [e2]; exact nI_le (by omega) (by omega))]
  | succ d ih =>
    intro f g j x hj hf hg
    obtain ⟨f, rfl⟩ : ∃ y : Nat, f = y + 1 := ⟨f - 1, by omega⟩
    obtain ⟨g, rfl⟩ : ∃ y : Nat, g = y + 1 := ⟨g - 1, by omega⟩
    rw [L5_mixedBrand_61, L6_digest_128, if_neg (by rw [all1 e1]; exact nI_ge (by omega) (by omega)), if_neg (by rw [e2]; exact nI_ge (by omega) (by omega))]
    rw [F5_mixed, most_eq hr h hB hb (by omega)]
    exact ih f g (j + 1) _ (by omega) (by omega) (by omega)
theorem mB_eq (hB : B < 2000000000) (hr : rV (u 0) ((bput v 6 2 0) 0)) (h : gJ B n t ((bput v 6 2 0) 0)) (e0 : u 0 0 = nI n) (f0 : (bput v 6 2 0) 0 0 = nI n) (hn : n ≤ 8) (e1 : u 0 1 = nI t) (f1 : (bput v 6 2 0) 0 1 = nI t) (ht : t ≤ 6) {b : Nat} (hb : b < 8) (x : Int64) : F5_mixedBrand u x (nI b) = L6_digest_128 v b (((bput v 6 2 0) 0 1).toNatClampNeg + 1) 0 ((31 * L6_digest_82 v b (12 + 1) 0 x) + (F6_full (bput v 6 2 0) (nI b) 25).toInt64) := by
  unfold F5_mixedBrand
  rw [dg_b6 hr h hb 12 (12 + 1) (12 + 1) 0 x (by decide) (by decide) (by decide), show (25 - F4_wornBy u (nI b) 25 : Int32) = F6_full (bput v 6 2 0) (nI b) 25 from full_x hB hr h (k := 25) hb (by decide), F5_mixed]
  exact dg_b61 hB hr h e1 f1 ht hb t _ _ 0 _ (by omega) (by rw [all1 e1, mC (by omega)]; omega) (by rw [f1, mC (by omega)]; omega)
theorem dg_59 (hB : B < 2000000000) (hr : rV (u 0) ((bput v 6 2 0) 0)) (h : gJ B n t ((bput v 6 2 0) 0)) (e0 : u 0 0 = nI n) (f0 : (bput v 6 2 0) 0 0 = nI n) (hn : n ≤ 8) (e1 : u 0 1 = nI t) (f1 : (bput v 6 2 0) 0 1 = nI t) (ht : t ≤ 6) : ∀ (d f g j : Nat) (x : Int64), j + d = n → d < f → d < g → L5_digest_59 u f j x = L6_digest_69 v g j x := by
  intro d
  induction d with
  | zero =>
    intro f g j x hj hf hg
    obtain ⟨f, rfl⟩ : ∃ y : Nat, f = y + 1 := ⟨f - 1, by omega⟩
    obtain ⟨g, rfl⟩ : ∃ y : Nat, g = y + 1 := ⟨g - 1, by omega⟩
    rw [L5_digest_59, L6_digest_69, if_pos (by rw [all0 e0]; exact nI_le (by omega) (by omega)), if_pos (by rw [f0]; exact nI_le (by omega) (by omega))]
  | succ d ih =>
    intro f g j x hj hf hg
    obtain ⟨f, rfl⟩ : ∃ y : Nat, f = y + 1 := ⟨f - 1, by omega⟩
    obtain ⟨g, rfl⟩ : ∃ y : Nat, g = y + 1 := ⟨g - 1, by omega⟩
    rw [L5_digest_59, L6_digest_69, if_neg (by rw [all0 e0]; exact nI_ge (by omega) (by omega)), if_neg (by rw [f0]; exact nI_ge (by omega) (by omega))]
    rw [mB_eq hB hr h e0 f0 hn e1 f1 ht (by omega)]
    exact ih f g (j + 1) _ (by omega) (by omega) (by omega)
theorem isN_28 : ∀ j : Nat, j < 28 → (F5_isShopNumber (nI j) = 0 ∧ ¬ nI j < (7 : Int32) ∧ ((8 : Int32) ≤ nI j - nI j / 10 * 10 ∨ (¬ (8 : Int32) ≤ nI j - nI j / 10 * 10 ∧ nI j ≤ (9 : Int32)))) ∨ (¬ F5_isShopNumber (nI j) = 0 ∧ (j < 7 ∨ (10 ≤ j ∧ j < 18) ∨ (20 ≤ j ∧ j < 28)) ∧ (nI j < (7 : Int32) ∨ (¬ nI j < (7 : Int32) ∧ ¬ (8 : Int32) ≤ nI j - nI j / 10 * 10 ∧ ¬ nI j ≤ (9 : Int32)))) := by decide +kernel
theorem dg_s6 (hr : rV (u 0) ((bput v 6 2 0) 0)) (h : gJ B n t ((bput v 6 2 0) 0)) {s : Nat} (hs : s < 6) : ∀ (d f g j : Nat) (x : Int64), j + d = 28 → d < f → d < g → L5_mixedShop_6 u (nI s) f j x = L6_digest_181 v s g j x := by
  intro d
  induction d with
  | zero =>
    intro f g j x hj hf hg
    obtain ⟨f, rfl⟩ : ∃ y : Nat, f = y + 1 := ⟨f - 1, by omega⟩
    obtain ⟨g, rfl⟩ : ∃ y : Nat, g = y + 1 := ⟨g - 1, by omega⟩
    rw [L5_mixedShop_6, L6_digest_181, if_pos (show (28 : Int32) ≤ nI j from nI_le (a := 28) (by omega) (by omega)), if_pos (show (28 : Int32) ≤ nI j from nI_le (a := 28) (by omega) (by omega))]
  | succ d ih =>
    intro f g j x hj hf hg
    obtain ⟨f, rfl⟩ : ∃ y : Nat, f = y + 1 := ⟨f - 1, by omega⟩
    obtain ⟨g, rfl⟩ : ∃ y : Nat, g = y + 1 := ⟨g - 1, by omega⟩
    rw [L5_mixedShop_6, L6_digest_181, if_neg (show ¬ (28 : Int32) ≤ nI j from nI_ge (b := 28) (by omega) (by decide)), if_neg (show ¬ (28 : Int32) ≤ nI j from nI_ge (b := 28) (by omega) (by decide))]
    rcases isN_28 j (by omega) with ⟨k1, k2, k3 | ⟨k3, k4⟩⟩ | ⟨k1, k2, k3 | ⟨k3, k4, k5⟩⟩
    · rw [if_pos k1, if_neg k2, if_pos k3]; exact ih f g (j + 1) _ (by omega) (by omega) (by omega)
    · rw [if_pos k1, if_neg k2, if_neg k3, if_pos k4]; exact ih f g (j + 1) _ (by omega) (by omega) (by omega)
    · rw [if_neg k1, if_pos k3, F5_mixed, shop_eq hr hs k2]; exact ih f g (j + 1) _ (by omega) (by omega) (by omega)
    · rw [if_neg k1, if_neg k3, if_neg k4, if_neg k5, F5_mixed, shop_eq hr hs k2]; exact ih f g (j + 1) _ (by omega) (by omega) (by omega)
theorem dg_86 (hr : rV (u 0) ((bput v 6 2 0) 0)) (h : gJ B n t ((bput v 6 2 0) 0)) (e1 : u 0 1 = nI t) (f1 : (bput v 6 2 0) 0 1 = nI t) (ht : t ≤ 6) : ∀ (d f g j : Nat) (x : Int64), j + d = t → d < f → d < g → L5_digest_86 u f j x = L6_digest_168 v g j x := by
  intro d
  induction d with
  | zero =>
    intro f g j x hj hf hg
    obtain ⟨f, rfl⟩ : ∃ y : Nat, f = y + 1 := ⟨f - 1, by omega⟩
    obtain ⟨g, rfl⟩ : ∃ y : Nat, g = y + 1 := ⟨g - 1, by omega⟩
    rw [L5_digest_86, L6_digest_168, if_pos (by rw [all1 e1]; exact nI_le (by omega) (by omega)), if_pos (by rw [f1]; exact nI_le (by omega) (by omega))]
  | succ d ih =>
    intro f g j x hj hf hg
    obtain ⟨f, rfl⟩ : ∃ y : Nat, f = y + 1 := ⟨f - 1, by omega⟩
    obtain ⟨g, rfl⟩ : ∃ y : Nat, g = y + 1 := ⟨g - 1, by omega⟩
    rw [L5_digest_86, L6_digest_168, if_neg (by rw [all1 e1]; exact nI_ge (by omega) (by omega)), if_neg (by rw [f1]; exact nI_ge (by omega) (by omega))]
    rw [F5_mixedShop, dg_s6 hr h (s := j) (by omega) 28 (28 + 1) (28 + 1) 0 x (by decide) (by decide) (by decide)]
    exact ih f g (j + 1) _ (by omega) (by omega) (by omega)
theorem dg_113 (hr : rV (u 0) ((bput v 6 2 0) 0)) (h : gJ B n t ((bput v 6 2 0) 0)) : ∀ (d f g j : Nat) (x : Int64), j + d = 3 → d < f → d < g → L5_digest_113 u f j x = L6_digest_245 v g j x := by
  intro d
  induction d with
  | zero =>
    intro f g j x hj hf hg
    obtain ⟨f, rfl⟩ : ∃ y : Nat, f = y + 1 := ⟨f - 1, by omega⟩
    obtain ⟨g, rfl⟩ : ∃ y : Nat, g = y + 1 := ⟨g - 1, by omega⟩
    rw [L5_digest_113, L6_digest_245, if_pos (show (3 : Int32) ≤ nI j from nI_le (a := 3) (by omega) (by omega)), if_pos (show (3 : Int32) ≤ nI j from nI_le (a := 3) (by omega) (by omega))]
  | succ d ih =>
    intro f g j x hj hf hg
    obtain ⟨f, rfl⟩ : ∃ y : Nat, f = y + 1 := ⟨f - 1, by omega⟩
    obtain ⟨g, rfl⟩ : ∃ y : Nat, g = y + 1 := ⟨g - 1, by omega⟩
    rw [L5_digest_113, L6_digest_245, if_neg (show ¬ (3 : Int32) ≤ nI j from nI_ge (b := 3) (by omega) (by decide)), if_neg (show ¬ (3 : Int32) ≤ nI j from nI_ge (b := 3) (by omega) (by decide))]
    rw [F5_mixed, best_eq hr h (by omega)]
    exact ih f g (j + 1) _ (by omega) (by omega) (by omega)
def dgR (a u : bU) (b w : bU) : Prop := u 0 = a 0 ∧ (∀ c : Nat, c ≠ 0 → c ≠ 1 → u c = a c) ∧ (∀ i : Nat, i < 283 → w 0 i = b 0 i) ∧ ∀ c : Nat, c ≠ 0 → c ≠ 1 → w c = b c
theorem dg_21 (hB : B < 2000000000) {a b : bU} (hr : rV (a 0) (b 0)) (h : gJ B n t (b 0)) {s : Nat} (hs : s < t) : ∀ (d f g j : Nat) (x : Int64) (u w : bU), j + d = n → d < f → d < g → dgR a u b w → (L5_mixedCollected_21 s u f j x).1 = (L6_digest_284 s w g j x).1 ∧ dgR a (L5_mixedCollected_21 s u f j x).2 b (L6_digest_284 s w g j x).2 := by
  obtain ⟨hn, ht, e0, e1⟩ := gQ_0 h
  intro d
  induction d with
  | zero =>
    intro f g j x u w hj hf hg hR
    obtain ⟨f, rfl⟩ : ∃ y : Nat, f = y + 1 := ⟨f - 1, by omega⟩
    obtain ⟨g, rfl⟩ : ∃ y : Nat, g = y + 1 := ⟨g - 1, by omega⟩
    have a0 : F2_ofAll u 0 = nI n := all0 (by rw [hR.1]; exact (hr.1 0 (by decide)).trans e0)
    have b0 : w 0 0 = nI n := (hR.2.2.1 0 (by decide)).trans e0
    rw [L5_mixedCollected_21, L6_digest_284, a0, b0, if_pos (nI_le (by omega) (by omega)), if_pos (nI_le (by omega) (by omega))]
    exact ⟨rfl, hR⟩
  | succ d ih =>
    intro f g j x u w hj hf hg hR
    obtain ⟨f, rfl⟩ : ∃ y : Nat, f = y + 1 := ⟨f - 1, by omega⟩
    obtain ⟨g, rfl⟩ : ∃ y : Nat, g = y + 1 := ⟨g - 1, by omega⟩
    have a0 : F2_ofAll u 0 = nI n := all0 (by rw [hR.1]; exact (hr.1 0 (by decide)).trans e0)
    have b0 : w 0 0 = nI n := (hR.2.2.1 0 (by decide)).trans e0
    have hr' : rV (u 0) (w 0) := rV_far hr (fun i _ => by rw [hR.1]) hR.2.2.1
    have h' : gJ B n t (w 0) := gQ_far h (fun j hj => hR.2.2.1 j (by omega))
    obtain ⟨d1, d2, d3, d4, d5⟩ := do_would hB hr' h' hs (show j < 8 by omega) (show 1 ≤ 50 by decide)
    rw [L5_mixedCollected_21, L6_digest_284, a0, b0, if_neg (nI_ge (by omega) (by omega)), if_neg (nI_ge (by omega) (by omega)), F5_mixed, show (F4_wouldCollect u (nI s) (nI j) 1).1 = (F6_wouldCollect w (nI s) (nI j) 1).1 from d1]
    exact ih f g (j + 1) _ _ _ (by omega) (by omega) (by omega) ⟨Eq.trans d2 hR.1, fun c h0 h1 => (d3 c h0 h1).trans (hR.2.1 c h0 h1), fun i hi => (d4 i hi).trans (hR.2.2.1 i hi), fun c h0 h1 => (d5 c h0 h1).trans (hR.2.2.2 c h0 h1)⟩
theorem dg_5 (hB : B < 2000000000) (hr : rV (u 0) ((bput v 6 2 0) 0)) (h : gJ B n t ((bput v 6 2 0) 0)) : ∀ (d f g j : Nat) (x : Int64) (y w : bU), j + d = t → d < f → d < g → dgR u y (bput v 6 2 0) w → (L5_mixedCollected_5 u y f j x).1 = (L6_digest_271 v w g j x).1 ∧ dgR u (L5_mixedCollected_5 u y f j x).2 (bput v 6 2 0) (L6_digest_271 v w g j x).2 := by
  obtain ⟨hn, ht, e0, e1⟩ := gQ_0 h
  have c0 : F2_ofAll u 0 = nI n := all0 ((hr.1 0 (by decide)).trans e0)
  intro d
  induction d with
  | zero =>
    intro f g j x y w hj hf hg hR
    obtain ⟨f, rfl⟩ : ∃ y : Nat, f = y + 1 := ⟨f - 1, by omega⟩
    obtain ⟨g, rfl⟩ : ∃ y : Nat, g = y + 1 := ⟨g - 1, by omega⟩
    have a1 : F2_ofAll y 1 = nI t := all1 (by rw [hR.1]; exact (hr.1 1 (by decide)).trans e1)
    have b1 : w 0 1 = nI t := (hR.2.2.1 1 (by decide)).trans e1
    rw [L5_mixedCollected_5, L6_digest_271, a1, b1, if_pos (nI_le (by omega) (by omega)), if_pos (nI_le (by omega) (by omega))]
    exact ⟨rfl, hR⟩
  | succ d ih =>
    intro f g j x y w hj hf hg hR
    obtain ⟨f, rfl⟩ : ∃ y : Nat, f = y + 1 := ⟨f - 1, by omega⟩
    obtain ⟨g, rfl⟩ : ∃ y : Nat, g = y + 1 := ⟨g - 1, by omega⟩
    have a1 : F2_ofAll y 1 = nI t := all1 (by rw [hR.1]; exact (hr.1 1 (by decide)).trans e1)
    have b1 : w 0 1 = nI t := (hR.2.2.1 1 (by decide)).trans e1
    rw [L5_mixedCollected_5, L6_digest_271, a1, b1, if_neg (nI_ge (by omega) (by omega)), if_neg (nI_ge (by omega) (by omega))]
    obtain ⟨i1, i2⟩ := dg_21 hB hr h (s := j) (by omega) n ((F2_ofAll u 0).toNatClampNeg + 1) (((bput v 6 2 0) 0 0).toNatClampNeg + 1) 0 x y w (by omega) (by rw [c0, mC (by omega)]; omega) (by rw [e0, mC (by omega)]; omega) hR
    rw [i1]
    exact ih f g (j + 1) _ _ _ (by omega) (by omega) (by omega) i2
def dg0 (v : bU) : Int64 := L6_digest_245 v (3 + 1) 0 (L6_digest_168 v (((bput v 6 2 0) 0 1).toNatClampNeg + 1) 0 (L6_digest_69 v (((bput v 6 2 0) 0 0).toNatClampNeg + 1) 0 (L6_digest_38 v (6 + 1) 0 (L6_digest_11 v (11 + 1) 0 2411))))
def dgX (v : bU) : Int64 × bU := L6_digest_271 v (bput v 6 2 0) (((bput v 6 2 0) 0 1).toNatClampNeg + 1) 0 (dg0 v)
theorem dg_351 (v : bU) (n j : Nat) (x : Int64) : L6_digest_351 v (n + 1) j x = if (dgX v).2 6 1 ≤ nI j then x else L6_digest_351 v n (j + 1) ((31 * x) + ((dgX v).2 3 j).toInt64) := by
  rw [L6_digest_351]
  rfl
theorem dg_all (v : bU) : F6_digest v = (L6_digest_351 v (((dgX v).2 6 1).toNatClampNeg + 1) 0 ((31 * ((31 * (dgX v).1) + (F6_gone (dgX v).2).toInt64)) + ((dgX v).2 6 1).toInt64), (dgX v).2) := rfl
theorem dg_txt {w : bU} {L : Nat} (hL : L ≤ 60) (e1 : F3_length w = nI L) (e2 : (dgX v).2 6 1 = nI L) (e3 : ∀ i : Nat, i < L → w 2 i = (dgX v).2 3 i) : ∀ (d f g j : Nat) (x : Int64), j + d = L → d < f → d < g → L5_mixedText_16 w f j x = L6_digest_351 v g j x := by
  intro d
  induction d with
  | zero =>
    intro f g j x hj hf hg
    obtain ⟨f, rfl⟩ : ∃ y : Nat, f = y + 1 := ⟨f - 1, by omega⟩
    obtain ⟨g, rfl⟩ : ∃ y : Nat, g = y + 1 := ⟨g - 1, by omega⟩
    rw [L5_mixedText_16, dg_351, e1, e2, if_pos (nI_le (by omega) (by omega)), if_pos (nI_le (by omega) (by omega))]
  | succ d ih =>
    intro f g j x hj hf hg
    obtain ⟨f, rfl⟩ : ∃ y : Nat, f = y + 1 := ⟨f - 1, by omega⟩
    obtain ⟨g, rfl⟩ : ∃ y : Nat, g = y + 1 := ⟨g - 1, by omega⟩
    have hc : F3_codeAt w (nI j) = (dgX v).2 3 j := by
      unfold F3_codeAt F5_entry
      rw [if_neg (nI_pos (by omega)), if_neg (show ¬ Int32.ofNat 60 ≤ nI j from nI_ge (b := 60) (by omega) (by decide)), mC (by omega), e3 j (by omega)]
    rw [L5_mixedText_16, dg_351, e1, e2, if_neg (nI_ge (by omega) (by omega)), if_neg (nI_ge (by omega) (by omega)), F5_mixed, hc]
    exact ih f g (j + 1) _ (by omega) (by omega) (by omega)
theorem st_digest {a b : bU} (hB : B < 2000000000) (hR : Rel B a b) : gsOK a ∧ gmOK (dgX b).2 ∧ (F5_digest a).1 = (F6_digest b).1 ∧ (F6_digest b).2 6 2 = 0 ∧ Rel B (F5_digest a).2 (F6_digest b).2 := by
  have h' := Rel_thr hR 0
  obtain ⟨⟨hr, n, t, g⟩, ⟨n9, l, hn9, hl, a3, a4, a5, a6⟩, ⟨L, hL, t1, t2, t3⟩, h4⟩ := id h'
  obtain ⟨hn, ht, f0, f1⟩ := gQ_0 g
  have e0 : a 0 0 = nI n := (hr.1 0 (by decide)).trans f0
  have e1 : a 0 1 = nI t := (hr.1 1 (by decide)).trans f1
  have hg := (gone_both hr g).1
  have q1 := dg_6 hr g (a4.trans a5.symm) 11 (11 + 1) (11 + 1) 0 2411 (by decide) (by decide) (by decide)
  have q2 := dg_31 hr g 6 (6 + 1) (6 + 1) 0 (L6_digest_11 b (11 + 1) 0 2411) (by decide) (by decide) (by decide)
  have q3 := dg_59 hB hr g e0 f0 hn e1 f1 ht n ((F2_ofAll a 0).toNatClampNeg + 1) (((bput b 6 2 0) 0 0).toNatClampNeg + 1) 0 (L6_digest_38 b (6 + 1) 0 (L6_digest_11 b (11 + 1) 0 2411)) (by omega) (by rw [all0 e0, mC (by omega)]; omega) (by rw [f0, mC (by omega)]; omega)
  have q4 := dg_86 hr g e1 f1 ht t ((F2_ofAll a 1).toNatClampNeg + 1) (((bput b 6 2 0) 0 1).toNatClampNeg + 1) 0 (L6_digest_69 b (((bput b 6 2 0) 0 0).toNatClampNeg + 1) 0 (L6_digest_38 b (6 + 1) 0 (L6_digest_11 b (11 + 1) 0 2411))) (by omega) (by rw [all1 e1, mC (by omega)]; omega) (by rw [f1, mC (by omega)]; omega)
  have q5 := dg_113 hr g 3 (3 + 1) (3 + 1) 0 (L6_digest_168 b (((bput b 6 2 0) 0 1).toNatClampNeg + 1) 0 (L6_digest_69 b (((bput b 6 2 0) 0 0).toNatClampNeg + 1) 0 (L6_digest_38 b (6 + 1) 0 (L6_digest_11 b (11 + 1) 0 2411)))) (by decide) (by decide) (by decide)
  have q6 := dg_5 hB hr g t ((F2_ofAll a 1).toNatClampNeg + 1) (((bput b 6 2 0) 0 1).toNatClampNeg + 1) 0 (dg0 b) a (bput b 6 2 0) (by omega) (by rw [all1 e1, mC (by omega)]; omega) (by rw [f1, mC (by omega)]; omega) ⟨rfl, fun _ _ _ => rfl, fun _ _ => rfl, fun _ _ _ => rfl⟩
  rw [dg_all]
  unfold F5_digest F5_mixedCollected
  rw [q1, q2, q3, q4, q5]
  change _ ∧ _ ∧ (F5_mixedText (L5_mixedCollected_5 a a ((F2_ofAll a 1).toNatClampNeg + 1) 0 (dg0 b)).2 (F5_mixed (L5_mixedCollected_5 a a ((F2_ofAll a 1).toNatClampNeg + 1) 0 (dg0 b)).1 (F5_bitsOf (F5_goneShare (L5_mixedCollected_5 a a ((F2_ofAll a 1).toNatClampNeg + 1) 0 (dg0 b)).2)))) = _ ∧ _ ∧ Rel B (L5_mixedCollected_5 a a ((F2_ofAll a 1).toNatClampNeg + 1) 0 (dg0 b)).2 _
  generalize L5_mixedCollected_5 a a ((F2_ofAll a 1).toNatClampNeg + 1) 0 (dg0 b) = X at q6
  change X.1 = (dgX b).1 ∧ dgR a X.2 (bput b 6 2 0) (dgX b).2 at q6
  obtain ⟨p1, p2, p3, p4, p5⟩ := q6
  have hr' : rV (X.2 0) ((dgX b).2 0) := rV_far hr (fun i _ => by rw [p2]) p4
  have g' : gJ B n t ((dgX b).2 0) := gQ_far g (fun j hj => p4 j (by omega))
  obtain ⟨s1, s2, s3⟩ := gone_both hr' g'
  have l1 : F3_length X.2 = nI L := (congrFun (p3 11 (by decide) (by decide)) 2).trans t1
  have l2 : (dgX b).2 6 1 = nI L := (congrFun (p5 6 (by decide) (by decide)) 1).trans t2
  refine ⟨hg, s2, ?_, (congrFun (p5 6 (by decide) (by decide)) 2).trans (by rw [bput_at]), Rel_far h' (fun i _ => by rw [p2]) p3 p4 p5⟩
  have l3 : ∀ i : Nat, i < L → X.2 2 i = (dgX b).2 3 i := fun i hi => by
    obtain ⟨c, _, _, c1, c2⟩ := t3 i hi
    rw [p3 2 (by decide) (by decide), p5 3 (by decide) (by decide), c1, c2]
  unfold F5_mixedText
  rw [dg_txt hL l1 l2 l3 L _ (((dgX b).2 6 1).toNatClampNeg + 1) 0 _ (by omega) (by rw [l1, mC (by omega)]; omega) (by rw [l2, mC (by omega)]; omega), p1, s3, l1, l2]
  rfl
end

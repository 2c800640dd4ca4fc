-- money: the accounts, as the law reads them (own text)
section MN
variable {u : bU}
theorem lm20 {n : Nat} (e0 : u 0 0 = nI n) (hn : n ≤ 8) : ∀ (d f j : Nat) (x : Int32), j + d = n → d < f → LL_money_20 u f j x = acc (fun i => ((F5_brand u (nI i) 3 + F5_brand u (nI i) 4) + F5_brand u (nI i) 5) * F5_setting u (F5_brand u (nI i) 0)) d j x := by
  intro d
  induction d with
  | zero =>
    intro f j x hj hf
    obtain ⟨f, rfl⟩ : ∃ g : Nat, f = g + 1 := ⟨f - 1, by omega⟩
    rw [LL_money_20, if_pos (by rw [v_c0, e0]; exact nI_le (by omega) (by omega))]; rfl
  | succ d ih =>
    intro f j x hj hf
    obtain ⟨f, rfl⟩ : ∃ g : Nat, f = g + 1 := ⟨f - 1, by omega⟩
    rw [LL_money_20, if_neg (by rw [v_c0, e0]; exact nI_ge (by omega) (by omega)), ih _ _ _ (by omega) (by omega)]
    rfl
theorem lm202 {n : Nat} (e0 : u 0 0 = nI n) (hn : n ≤ 8) : ∀ (d f j : Nat) (x y : Int32), j + d = n → d < f → LL_money_202 u f j x y = (acc (fun i => -(F5_brand u (nI i) 5 + F5_brand u (nI i) 8)) d j x, acc (fun i => (F5_brand u (nI i) 5 + F5_brand u (nI i) 8) * F5_setting u (F5_brand u (nI i) 0)) d j y) := by
  intro d
  induction d with
  | zero =>
    intro f j x y hj hf
    obtain ⟨f, rfl⟩ : ∃ g : Nat, f = g + 1 := ⟨f - 1, by omega⟩
    rw [LL_money_202, if_pos (by rw [v_c0, e0]; exact nI_le (by omega) (by omega))]; rfl
  | succ d ih =>
    intro f j x y hj hf
    obtain ⟨f, rfl⟩ : ∃ g : Nat, f = g + 1 := ⟨f - 1, by omega⟩
    rw [LL_money_202, if_neg (by rw [v_c0, e0]; exact nI_ge (by omega) (by omega)), ih _ _ _ _ (by omega) (by omega), Int32.sub_eq_add_neg]
    rfl
theorem lm92 {t : Nat} (e1 : u 0 1 = nI t) (ht : t ≤ 6) : ∀ (d f j : Nat) (x3 x4 x5 x6 x7 : Int32), j + d = t → d < f → (∀ i : Nat, j ≤ i → i < t → ¬ F5_shop u (nI i) 0 < 0 ∧ ¬ F5_shop u (nI i) 1 < 0) → LL_money_92 u f j x3 x4 x5 x6 x7 1 = (acc (fun i => F5_shop u (nI i) 0) d j x3, acc (fun i => F5_shop u (nI i) 4) d j x4, acc (fun i => F5_shop u (nI i) 5) d j x5, acc (fun i => F5_shop u (nI i) 1) d j x6, acc (fun i => F5_shop u (nI i) 6) d j x7, 1) := by
  intro d
  induction d with
  | zero =>
    intro f j x3 x4 x5 x6 x7 hj hf _
    obtain ⟨f, rfl⟩ : ∃ g : Nat, f = g + 1 := ⟨f - 1, by omega⟩
    rw [LL_money_92, if_pos (by rw [v_c1, e1]; exact nI_le (by omega) (by omega))]; rfl
  | succ d ih =>
    intro f j x3 x4 x5 x6 x7 hj hf hn
    obtain ⟨f, rfl⟩ : ∃ g : Nat, f = g + 1 := ⟨f - 1, by omega⟩
    rw [LL_money_92, if_neg (by rw [v_c1, e1]; exact nI_ge (by omega) (by omega)), if_neg (by decide), if_neg (hn j (by omega) (by omega)).1, if_neg (hn j (by omega) (by omega)).2, ih _ _ _ _ _ _ _ (by omega) (by omega) (fun i a b => hn i (by omega) b)]
    rfl
end MN
theorem v_dep {n t f : Nat} {kd : Nat → Nat} {u : bU} (h : HD n t kd f (u 0)) {b : Nat} (hb : b < 8) : F5_setting u (F5_brand u (nI b) 0) = gd kd b := by
  obtain ⟨-, hK, q1, q2, -⟩ := h
  obtain ⟨k1, k2⟩ := hK b hb
  rw [v_kind u hb, k2, v_set (by omega)]
  unfold gd dpo
  have : kd b = 0 ∨ kd b = 1 := by omega
  rcases this with e | e
  · rw [e, if_pos rfl]; exact q1
  · rw [e, if_neg (by decide)]; exact q2
theorem money_ok {B n t : Nat} {kd : Nat → Nat} {f : Nat} {m k : Int32} {bb : Nat → Int32} {u : bU} (h : INV B n t kd f m k 0 bb (u 0)) : FL_money u m = 1 := by
  have hH := h.1
  obtain ⟨⟨⟨hn, ht, h0, h1⟩, hK, q1, q2, q3, q4, -⟩, ⟨z1, z2, z3, z4⟩, hN, hW, -, ⟨e1, e2, e3, e4, e5, e6, e7⟩⟩ := h
  have cut : ∀ w : Nat, w < 28 → ∀ g : Nat → Int32, (∀ i : Nat, i < t → g i = u 0 (113 + 28 * i + w)) → acc g t 0 0 = Ss (u 0) w := by
    intro w hw g hg
    refine (acc_cut (n := t) (N := 6) ht 0 (fun i hi => (hg i hi).symm) (fun i a b => ?_)).symm
    exact z2 i w a b hw
  have k92 := lm92 h1 ht t ((F5_count u 1).toNatClampNeg + 1) 0 0 0 0 0 0 (by omega) (by rw [v_c1, h1, mC (by omega)]; omega) (fun i _ hi => ⟨by rw [v_s0 (by omega)]; exact rg_nlt (hN _ (pP_s (by omega) (by omega))), by rw [v_s1 (by omega)]; exact rg_nlt (hN _ (pP_s (by omega) (by omega)))⟩)
  rw [cut 0 (by decide) _ (fun i hi => v_s0 (by omega)), cut 4 (by decide) _ (fun i hi => v_s4 (by omega)), cut 5 (by decide) _ (fun i hi => v_s5 (by omega)), cut 1 (by decide) _ (fun i hi => v_s1 (by omega)), cut 6 (by decide) _ (fun i hi => v_s6 (by omega))] at k92
  have hf0 : n < (F5_count u 0).toNatClampNeg + 1 := by rw [v_c0, h0, mC (by omega)]; omega
  have z0 : ∀ i : Nat, n ≤ i → i < 8 → (Ss (u 0) (10 + i) = 0 ∧ Ss (u 0) (20 + i) = 0) ∧ u 0 (17 + 12 * i + 5) = 0 ∧ u 0 (17 + 12 * i + 8) = 0 := fun i a b => ⟨⟨acc_zero 6 0 0 (fun s _ hs => (z3 s i (by omega) a b).1), acc_zero 6 0 0 (fun s _ hs => (z3 s i (by omega) a b).2)⟩, z1 i 5 a b (by decide) (by decide), z1 i 8 a b (by decide) (by decide)⟩
  have k20 := lm20 h0 hn n ((F5_count u 0).toNatClampNeg + 1) 0 (F5_count u 3 * F5_setting u 3 + F5_count u 5) (by omega) hf0
  have s20 : ∀ x : Int32, acc (fun i => ((F5_brand u (nI i) 3 + F5_brand u (nI i) 4) + F5_brand u (nI i) 5) * F5_setting u (F5_brand u (nI i) 0)) n 0 x = x + Sd (gd kd) (u 0) 10 + Sd (gd kd) (u 0) 20 + Sb (gd kd) (u 0) 5 := by
    intro x
    rw [← acc_cut (f := fun i => (Ss (u 0) (10 + i) * gd kd i + Ss (u 0) (20 + i) * gd kd i) + u 0 (17 + 12 * i + 5) * gd kd i) (n := n) (N := 8) hn x (fun i hi => by
      rw [v_b3 (by omega), v_b4 (by omega), v_b5 (by omega), v_dep hH (by omega)]; grind) (fun i a b => by
      rw [(z0 i a b).1.1, (z0 i a b).1.2, (z0 i a b).2.1]; grind)]
    rw [show acc (fun i => (Ss (u 0) (10 + i) * gd kd i + Ss (u 0) (20 + i) * gd kd i) + u 0 (17 + 12 * i + 5) * gd kd i) 8 0 x = acc (fun i => (Ss (u 0) (10 + i) * gd kd i + Ss (u 0) (20 + i) * gd kd i) + u 0 (17 + 12 * i + 5) * gd kd i) 8 0 ((0 + 0) + 0 + x) by rw [Int32.zero_add, Int32.zero_add, Int32.zero_add]]
    rw [acc_x, acc_plus (fun i => Ss (u 0) (10 + i) * gd kd i + Ss (u 0) (20 + i) * gd kd i) (fun i => u 0 (17 + 12 * i + 5) * gd kd i), acc_plus (fun i => Ss (u 0) (10 + i) * gd kd i) (fun i => Ss (u 0) (20 + i) * gd kd i)]
    unfold Sd Sb
    grind
  rw [s20] at k20
  have k202 := lm202 h0 hn n ((F5_count u 0).toNatClampNeg + 1) 0 (Ss (u 0) 6) 0 (by omega) hf0
  have s5 : ∀ g : Nat → Int32, ∀ x : Int32, acc (fun i => (u 0 (17 + 12 * i + 5) + u 0 (17 + 12 * i + 8)) * g i) 8 0 x = x + Sb g (u 0) 5 + Sb g (u 0) 8 := by
    intro g x
    rw [show acc (fun i => (u 0 (17 + 12 * i + 5) + u 0 (17 + 12 * i + 8)) * g i) 8 0 x = acc (fun i => u 0 (17 + 12 * i + 5) * g i + u 0 (17 + 12 * i + 8) * g i) 8 0 ((0 + 0) + x) by
      rw [Int32.zero_add, Int32.zero_add]
      exact acc_congr _ _ _ (fun i _ _ => by grind)]
    rw [acc_x, acc_plus (fun i => u 0 (17 + 12 * i + 5) * g i) (fun i => u 0 (17 + 12 * i + 8) * g i)]
    unfold Sb
    grind
  have s202 : acc (fun i => -(F5_brand u (nI i) 5 + F5_brand u (nI i) 8)) n 0 (Ss (u 0) 6) = 0 := by
    rw [← acc_cut (f := fun i => -((u 0 (17 + 12 * i + 5) + u 0 (17 + 12 * i + 8)) * 1)) (n := n) (N := 8) hn (Ss (u 0) 6) (fun i hi => by
      rw [v_b5 (by omega), v_b8 (by omega), Int32.mul_one]) (fun i a b => by
      rw [(z0 i a b).2.1, (z0 i a b).2.2]; decide)]
    rw [show Ss (u 0) 6 = Ss (u 0) 6 - 0 by grind, acc_neg (fun i => (u 0 (17 + 12 * i + 5) + u 0 (17 + 12 * i + 8)) * 1), s5 (fun _ => 1), e6]
    clear e1 e2 e3 e4 e5 e6 e7 k92 k20 k202 s20 s5
    grind
  have s203 : acc (fun i => (F5_brand u (nI i) 5 + F5_brand u (nI i) 8) * F5_setting u (F5_brand u (nI i) 0)) n 0 0 = Sb (gd kd) (u 0) 5 + Sb (gd kd) (u 0) 8 := by
    rw [← acc_cut (f := fun i => (u 0 (17 + 12 * i + 5) + u 0 (17 + 12 * i + 8)) * gd kd i) (n := n) (N := 8) hn 0 (fun i hi => by
      rw [v_b5 (by omega), v_b8 (by omega), v_dep hH (by omega)]) (fun i a b => by
      rw [(z0 i a b).2.1, (z0 i a b).2.2, Int32.add_zero, Int32.zero_mul]), s5, Int32.zero_add]
  rw [s202, s203] at k202
  unfold FL_money
  rw [k92, k20]
  dsimp only
  rw [k202]
  dsimp only
  rw [if_neg (by decide), if_pos ?_, if_pos (e3.trans v_n4.symm), if_pos (e4.trans v_n6.symm), if_neg (by rw [v_n6]; exact rg_nlt (hN _ pP_6)), if_pos v_n3.symm, if_pos rfl, if_pos ?_]
  · rw [e7]
    clear e1 e2 e3 e4 e5 e6 e7 k92 k20 k202 s20 s5 s202 s203
    grind
  · rw [v_n4, v_n3, v_n5, v_st3, q4, e2, Int32.add_zero]

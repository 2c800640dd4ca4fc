-- the run, both sides (own text)
theorem rn_sim {c : Nat → Int32} {L : Nat} (hL : L ≤ 60) (hC : ∀ x : Nat, x < L → ∃ k : Nat, k ≤ 126 ∧ c x = nI k) {nb tb : Nat} : ∀ (N K n nm j i B : Nat) (u v : bU) (x1 x2 : Int32), i ≤ L → L < i + N → L + 1 < i + n → L < i + nm → L ≤ i + 2 * K → B + 85000 * K < 2000000000 → u 11 2 = nI L → (∀ x : Nat, x < L → u 2 x = c x) → v 3 = c → v 6 1 = nI L → v 6 3 = nI i → u 10 0 = 0 → u 10 4 = 0 → rowS (u 10) → (ch c L N (u 10) i).1 = 2 → pWhole (ch c L N (u 10) i).2.2 ≠ 0 → rV ((bput u 0 9 0) 0) (v 0) → gJ B nb tb (v 0) → rnOK (B + 85000 * K) nb tb n i nm j u v x1 x2 := by
  intro N
  induction N with
  | zero => intro K n nm j i B u v x1 x2 h1 h2; omega
  | succ N ih =>
    intro K n nm j i B u v x1 x2 hi hN hn hnm hK hB e1 e2 m0 m1 m3 r0 r4 hrow hch hwh hr g
    obtain ⟨nm, rfl⟩ : ∃ y, nm = y + 1 := ⟨nm - 1, by omega⟩
    rw [ch] at hch hwh
    obtain ⟨⟨f, f1, f2, f3, f4⟩, d1, d2, d3, d4⟩ := rd_order hL hC (m := L + 1) (r := u 10) hi (by omega) m0 m1 m3 r0 r4
    have ti := tr_is (c := c) (L := L) (L + 1) i (u 10) hi (by omega)
    have tf := tr_far (c := c) (m := L + 1) hi (by omega) (r := u 10) (by rw [r0]; decide)
    have row := tr_row hC (L + 1) i (u 10) hrow
    have rs := rn_scan (c := c) hL (L + 1) n i u x1 x2 hi (by omega) hn e1 e2
    obtain ⟨T, hT⟩ : ∃ T, T = tr c L (L + 1) (u 10) i := ⟨_, rfl⟩
    rw [← hT] at d1 d2 d3 d4 ti tf row rs hch hwh
    have hT1 : (T.1 = 1 ∧ T.2.1 < L ∧ c T.2.1 = 59 ∧ pWhole T.2.2 = 1 ∧ (ch c L N (pZ T.2.2) (T.2.1 + 1)).1 = 2 ∧ pWhole (ch c L N (pZ T.2.2) (T.2.1 + 1)).2.2 ≠ 0) ∨ (T.1 = 2 ∧ T.2.1 = L ∧ pWhole T.2.2 = 1) := by
      by_cases q : T.1 = 1
      · rw [if_pos q] at hch hwh
        rcases ti with ⟨t1, _⟩ | ⟨_, _, t3, t4, t5⟩ | ⟨t1, _⟩
        · rw [t1] at q; exact n01 q
        · exact Or.inl ⟨q, t3, t4, (pk_59' t5).2.1, hch, hwh⟩
        · rw [t1] at q; exact n21 q
      · rw [if_neg q] at hch hwh
        rcases ti with ⟨t1, _⟩ | ⟨t1, _⟩ | ⟨_, t2⟩
        · rw [t1] at hch; exact n02 hch
        · exact absurd t1 q
        · exact Or.inr ⟨hch, t2, pWhole_01 _ hwh⟩
    clear hch hwh ti
    have hw1 : pWhole T.2.2 = 1 := by
      rcases hT1 with ⟨_, _, _, h, _⟩ | ⟨_, _, h⟩ <;> exact h
    have t0 : T.1 ≠ 0 := by
      rcases hT1 with ⟨h, _⟩ | ⟨h, _⟩ <;> rw [h] <;> decide
    have hp : T.2.1 ≤ L := by
      rcases hT1 with ⟨_, h, _⟩ | ⟨_, h, _⟩ <;> omega
    have hp59 : T.2.1 < L → c T.2.1 = 59 := by
      rcases hT1 with ⟨_, _, h, _⟩ | ⟨_, h, _⟩
      · exact fun _ => h
      · intro q; omega
    have hwn : pWhole T.2.2 ≠ 0 := by rw [hw1]; decide
    have r5 : T.2.2 0 = 5 := pWhole_5 hwn
    obtain ⟨n', hn', es⟩ := rs t0
    obtain ⟨n', rfl⟩ : ∃ y, n' = y + 1 := ⟨n' - 1, by omega⟩
    obtain ⟨d5, d6, d7, d8⟩ := d4 hwn
    obtain ⟨v1, hv1⟩ : ∃ v1, v1 = (F6_readOrder v).2 := ⟨_, rfl⟩
    rw [← hv1] at f1 d2 d3 d5 d6 d7 d8
    have ew : (bput (bs u 10 T.2.2) 0 9 0) 0 = (bput u 0 9 0) 0 := by rw [bput_eq, bput_eq, bs_eq, bs_eq, bs_ne _ _ (by decide)]
    have v10 : v1 0 = v 0 := by rw [f1, bs_ne _ _ (by decide)]
    have v160 : v1 6 0 = v 6 0 := by rw [f1, bs_eq]; exact f2
    have v161 : v1 6 1 = v 6 1 := by rw [f1, bs_eq]; exact f3
    have v162 : v1 6 2 = v 6 2 := by rw [f1, bs_eq]; exact f4
    have v1c : ∀ k : Nat, k ≠ 0 → k ≠ 6 → v1 k = v k := fun k _ h => by rw [f1, bs_ne _ _ h]
    have hr1 : rV ((bput (bs u 10 T.2.2) 0 9 0) 0) (v1 0) := by rw [ew, v10]; exact hr
    have g1 : gJ B nb tb (v1 0) := by rw [v10]; exact g
    obtain ⟨o1, o2, o3⟩ := ord_step (u := bs u 10 T.2.2) (v := v1) (r := T.2.2) (by omega) (show F0_letterO (bs u 10 T.2.2) = T.2.2 1 from by show (bs u 10 T.2.2) 10 1 = _; rw [bs_eq]) d5 d6 d7 d8 row r5 hr1 g1
    have a1 := rn_at (c := c) (n := n') (w := bs u 10 T.2.2) (r := T.2.2) (x1 := x1) (x2 := x2) hL hp hp59 (bs_eq _ _ _) (by rw [bs_ne _ _ (by decide)]; exact e1) (fun x hx => by rw [bs_ne _ _ (by decide)]; exact e2 x hx)
    rw [o1] at a1
    unfold rnOK
    rw [es, a1, L6_run_50, if_neg (show ¬ (1 : Int32) = 0 by decide), ← hv1, bput_at, mRunOk, ← hv1, d1]
    by_cases cR : F6_againstOrder v1 = 0
    · rw [if_pos cR, if_pos cR, cR, bput_id v1 (rV_60 hr1)]
      obtain ⟨w1, m', w2, w3, w4⟩ := o3 cR
      obtain ⟨W, hW⟩ : ∃ W, W = F5_carryOutOrder (bs u 10 T.2.2) (T.2.2 2) (T.2.2 3) (T.2.2 4) := ⟨_, rfl⟩
      obtain ⟨W', hW'⟩ : ∃ W', W' = F6_doOrder v1 := ⟨_, rfl⟩
      rw [← hW] at w1 w3 ⊢
      rw [← hW'] at w2 ⊢
      have w10 : W 10 = T.2.2 := by rw [w1 10 (by decide) (by decide), bs_eq]
      have et : (F0_takesO W 59).2 = bs W 10 (pZ T.2.2) := by rw [p_takesO, w10, pk_59, if_pos r5]
      rw [et]
      have uc : ∀ k : Nat, k ≠ 0 → k ≠ 1 → k ≠ 10 → (bs W 10 (pZ T.2.2)) k = u k := fun k h0 h1 h2 => by rw [bs_ne _ _ h2, w1 k h0 h1, bs_ne _ _ h2]
      have vc : ∀ k : Nat, k ≠ 0 → W' k = v1 k := fun k h => by rw [w2, bs_ne _ _ h]
      have hr2 : rV ((bput (bs W 10 (pZ T.2.2)) 0 9 0) 0) (W' 0) := by
        rw [show (bput (bs W 10 (pZ T.2.2)) 0 9 0) 0 = (bput W 0 9 0) 0 from by rw [bput_eq, bput_eq, bs_eq, bs_eq, bs_ne _ _ (by decide)], w2, bs_eq]
        exact w3
      have g2 : gJ (B + 85000) nb tb (W' 0) := by rw [w2, bs_eq]; exact w4
      rcases hT1 with ⟨t1, t2, t3, _, t5, t6⟩ | ⟨t1, t2, _⟩
      · rw [if_pos t1]
        rw [if_pos t1] at d2
        have tf1 := tf t1
        obtain ⟨K, rfl⟩ : ∃ y, K = y + 1 := ⟨K - 1, by omega⟩
        obtain ⟨⟨y, R, zx, z, z', z1, z2, z3, z4, z5, z6, z7, z8, z9⟩, zm⟩ := ih K n' nm (j + 1) (T.2.1 + 1) (B + 85000) (bs W 10 (pZ T.2.2)) W' (x1 + 1) 0 (by omega) (by omega) (by omega) (by omega) (by omega) (by omega) (by rw [uc 11 (by decide) (by decide) (by decide)]; exact e1) (fun x hx => by rw [uc 2 (by decide) (by decide) (by decide)]; exact e2 x hx) (by rw [vc 3 (by decide), v1c 3 (by decide) (by decide)]; exact m0) (by rw [vc 6 (by decide), v161]; exact m1) (by rw [vc 6 (by decide)]; exact d2) (by rw [bs_eq]; rfl) (by rw [bs_eq]; rfl) (by rw [bs_eq]; exact rowS_Z _) (by rw [bs_eq]; exact t5) (by rw [bs_eq]; exact t6) hr2 g2
        refine ⟨⟨y, R, zx, z, z', z1, z2, fun k h0 h1 h2 => (z3 k h0 h1 h2).trans (uc k h0 h1 h2), fun k h0 h6 => ((z4 k h0 h6).trans (vc k h0)).trans (v1c k h0 h6), ?_, ?_, ?_, z8, ?_⟩, Or.inr ⟨o2, fun _ => zm⟩⟩
        · rw [z5, vc 6 (by decide)]; exact v160
        · rw [z6, vc 6 (by decide)]; exact v161
        · rw [z7, vc 6 (by decide)]; exact v162
        · rw [show B + 85000 * (K + 1) = B + 85000 + 85000 * K by omega]; exact z9
      · have t1' : ¬ T.1 = 1 := by rw [t1]; decide
        rw [if_neg t1', t2, carry_end (w := bs W 10 (pZ T.2.2)) hL (by rw [uc 11 (by decide) (by decide) (by decide)]; exact e1), run_0]
        have hi2 : i < L := by
          rcases Nat.lt_or_ge i L with q | q
          · exact q
          · exfalso
            rw [tr_end q] at hT
            rw [hT] at r5
            exact absurd (r0.symm.trans r5) (by decide)
        refine ⟨⟨x1 + 1, 0, 0, _, _, rfl, rfl, uc, fun k h0 h6 => (vc k h0).trans (v1c k h0 h6), ?_, ?_, ?_, hr2, gQ_up g2 (by omega)⟩, Or.inr ⟨o2, fun _ => mRunOk_0 _ _⟩⟩
        · rw [vc 6 (by decide)]; exact v160
        · rw [vc 6 (by decide)]; exact v161
        · rw [vc 6 (by decide)]; exact v162
    · rw [if_neg cR, if_neg cR, run_0]
      refine ⟨⟨x1, _, 0, _, _, rfl, rfl, fun k _ _ h => bs_ne _ _ h, fun k h0 h6 => (bput_c _ _ h0).trans (v1c k h0 h6), ?_, ?_, ?_, ?_, ?_⟩, Or.inr ⟨o2, fun h => absurd h cR⟩⟩
      · rw [bput_c _ _ (by decide)]; exact v160
      · rw [bput_c _ _ (by decide)]; exact v161
      · rw [bput_c _ _ (by decide)]; exact v162
      · have h := rV_upd hr1 (j := 6) (by decide) (F6_againstOrder v1)
        have e : upd ((bput (bs u 10 T.2.2) 0 9 0) 0) (phi 6) (F6_againstOrder v1) = (bput (bs u 10 T.2.2) 0 9 (F6_againstOrder v1)) 0 := by
          rw [phi_6, bput_eq, bput_eq, bs_eq, bs_eq]
          funext k
          by_cases q : k = 9
          · subst q; rw [up_at, up_at]
          · rw [up_ne _ _ q, up_ne _ _ q, up_ne _ _ q]
        rw [e] at h
        rw [bput_eq v1, bs_eq]
        exact h
      · rw [bput_eq v1, bs_eq]
        exact gQ_up (g_6 g1 _) (by omega)

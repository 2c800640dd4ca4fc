-- run, both sides (own text)
section
variable {B : Nat} {a b : bU}
theorem Sim_up {cd : Int32 → Int32} {B' : Nat} {r : Int32 × Int32 × bU} {q : Int32 × bU} (h : Sim cd B r q) (hB : B ≤ B') : Sim cd B' r q := ⟨h.1, h.2.1, Rel_up h.2.2 hB⟩
theorem run_fail (h : Rel B a b) : Sim cdC B (2, 0, a) ((F6_fails b 1).1, (F6_fails b 1).2) :=
  ⟨by show (bput b 6 2 1) 6 2 = cdC 2; rw [bput_at]; rfl, fun q => absurd (show (2 : Int32) = 0 from q) (by decide), Rel_thr h 1⟩
theorem run_ok {L : Nat} (hB : B + 2600000 < 2000000000) (h : Rel B a b) (th : b 6 2 = 0) (hL : L ≤ 60) (t1 : a 11 2 = nI L) (t2 : b 6 1 = nI L) (tC : ∀ x : Nat, x < L → ∃ k : Nat, k ≤ 126 ∧ b 3 x = nI k) (tE : ∀ x : Nat, x < L → a 2 x = b 3 x) (hT : (ch (b 3) L (L + 1) (pZ ((F1_keep a) 10)) 0).1 = 2) (hW : pWhole (ch (b 3) L (L + 1) (pZ ((F1_keep a) 10)) 0).2.2 ≠ 0) : Sim cdC (B + 2600000) (0, (F5_carryOutOrders (F1_keep a)).1, F3_clear (F5_carryOutOrders (F1_keep a)).2) ((L6_run_50 (bput (bput (F6_save b) 0 6 0) 6 3 0) (61 + 1) 0 0 1).1, bput (L6_run_50 (bput (bput (F6_save b) 0 6 0) 6 3 0) (61 + 1) 0 0 1).2.2 6 1 0) ∧ mRunOk 61 1 (bput (bput (F6_save b) 0 6 0) 6 3 0) := by
  obtain ⟨⟨hr, n, t, g⟩, ⟨n9, l, hn9, hl, a3, a4, a5, a6⟩, _, _⟩ := id h
  obtain ⟨k1, k2, k3, k4, k5, k6, k7⟩ := keepv hl a3 hn9 a4
  obtain ⟨s1, s2, s3, s4, s5⟩ := savev hn9 a5
  obtain ⟨⟨n8, l8, q1, q2, q3, q4, q5, q6⟩, _, _, _, qT⟩ := Rel_keep h
  obtain ⟨u, hu⟩ : ∃ u, u = F1_keep a := ⟨_, rfl⟩
  obtain ⟨v, hv⟩ : ∃ v, v = F6_save b := ⟨_, rfl⟩
  rw [← hu] at hT hW k1 k4 k5 q3 q4 q6 ⊢
  rw [← hv] at s1 s3 q5 q6 qT ⊢
  have X : ∀ nm : Nat, 61 ≤ nm → rnOK (B + 85000 * 30) n t (L + 1 + 1) 0 nm 0 (bs u 10 (pZ (u 10))) (bput (bput v 0 6 0) 6 3 0) 0 0 := by
    intro nm hnm
    refine rn_sim (c := b 3) hL tC (L + 1) 30 (L + 1 + 1) nm 0 0 B _ _ 0 0 (by omega) (by omega) (by omega) (by omega) (by omega) (by omega) ?_ (fun x hx => ?_) ?_ ?_ ?_ ?_ ?_ ?_ ?_ ?_ ?_ ?_
    · rw [bs_ne _ _ (by decide), k4]; exact t1
    · rw [bs_ne _ _ (by decide), k5]; exact tE x hx
    · rw [bput_c _ _ (by decide), bput_c _ _ (by decide), s1 3 (by decide) (by decide)]
    · rw [bput_ne _ _ (by decide), bput_c _ _ (by decide), s3 1 (by decide)]; exact t2
    · rw [bput_at]; rfl
    · rw [bs_eq]; rfl
    · rw [bs_eq]; rfl
    · rw [bs_eq]; exact rowS_Z _
    · rw [bs_eq]; exact hT
    · rw [bs_eq]; exact hW
    · have h9 := rV_upd hr (j := 6) (by decide) 0
      rw [phi_6] at h9
      rw [bput_eq, bs_eq, bs_ne u _ (by decide), k1, bput_c _ _ (show (0 : Nat) ≠ 6 by decide), bput_eq v, bs_eq, s1 0 (by decide) (by decide)]
      exact h9
    · rw [bput_c _ _ (show (0 : Nat) ≠ 6 by decide), bput_eq v, bs_eq, s1 0 (by decide) (by decide)]
      exact g_6 g 0
  obtain ⟨⟨y, R, zx, w, w', z1, z2, z3, z4, z5, z6, z7, z8, z9⟩, _⟩ := X (61 + 1) (by omega)
  refine ⟨?_, (X 61 (by omega)).2⟩
  have c1 : F5_carryOutOrders u = (y, bput w 0 9 R) := by
    unfold F5_carryOutOrders
    rw [p_beginO, show (u 11 2).toNatClampNeg = L from by rw [k4, t1, mC (by omega)], z1]
    dsimp only
    rw [show F2_putAll w 9 R = bput w 0 9 R from c_putAll w R (k := 9) (by decide)]
  rw [c1, z2]
  dsimp only
  have ec : ∀ k : Nat, k ≠ 0 → k ≠ 6 → (bput w' 6 1 0) k = v k := fun k h0 h6 => by rw [bput_c _ _ h6, z4 k h0 h6, bput_c _ _ h6, bput_c _ _ h0]
  refine ⟨?_, fun _ => rfl, ?_⟩
  · show (bput w' 6 1 0) 6 2 = cdC 0
    rw [bput_ne _ _ (by decide), z7, bput_ne _ _ (by decide), bput_c _ _ (by decide), s3 2 (by decide), th]; rfl
  · show Rel (B + 2600000) (bput (bput w 0 9 R) 11 2 0) (bput w' 6 1 0)
    refine ⟨⟨?_, n, t, ?_⟩, ⟨n8, l8, q1, q2, ?_, ?_, ?_, fun i hi => ?_⟩, ⟨0, by omega, ?_, ?_, fun i hi => absurd hi (by omega)⟩, fun i hi => ?_⟩
    · rw [bput_c _ _ (show (0 : Nat) ≠ 11 by decide), bput_c _ _ (show (0 : Nat) ≠ 6 by decide)]; exact z8
    · rw [bput_c _ _ (show (0 : Nat) ≠ 6 by decide)]; exact gQ_up z9 (by omega)
    · rw [bput_ne _ _ (by decide), bput_c _ _ (by decide), z3 11 (by decide) (by decide) (by decide), bs_ne _ _ (by decide)]; exact q3
    · rw [bput_ne _ _ (by decide), bput_c _ _ (by decide), z3 11 (by decide) (by decide) (by decide), bs_ne _ _ (by decide)]; exact q4
    · rw [bput_ne _ _ (by decide), z5, bput_ne _ _ (by decide), bput_c _ _ (by decide)]; exact q5
    · rw [bput_c _ _ (show 3 + (l8 + 6 - i) % 6 ≠ 11 by omega), bput_c _ _ (show 3 + (l8 + 6 - i) % 6 ≠ 0 by omega), z3 (3 + (l8 + 6 - i) % 6) (by omega) (by omega) (by omega), bs_ne _ _ (show 3 + (l8 + 6 - i) % 6 ≠ 10 by omega), ec 2 (by decide) (by decide)]
      exact RV_up (q6 i hi) (by omega)
    · rw [bput_at]; rfl
    · rw [bput_at]; rfl
    · rw [ec 4 (by decide) (by decide), ec 5 (by decide) (by decide)]; exact qT i hi
theorem st_run (hB : B + 2600000 < 2000000000) (h : Rel B a b) : Sim cdC (B + 2600000) (F5_run a) (F6_run b) ∧ mRdOk 61 1 (bput (bput b 6 2 0) 6 3 0) ∧ (¬ (F6_reads (bput b 6 2 0)).1 < ((F6_reads (bput b 6 2 0)).2 6 1) → ¬ ((F6_reads (bput b 6 2 0)).2 6 4) = 0 → mRunOk 61 1 (bput (bput (F6_save (F6_reads (bput b 6 2 0)).2) 0 6 0) 6 3 0)) := by
  have h' := Rel_thr h 0
  have th : (bput b 6 2 0) 6 2 = 0 := bput_at _ _ _ _
  unfold F6_run
  obtain ⟨b1, hb1⟩ : ∃ b1, b1 = bput b 6 2 0 := ⟨_, rfl⟩
  rw [← hb1] at h' th ⊢
  obtain ⟨L, hL, t1, t2, tC, tE⟩ := txt_C h'
  have hc := err_c (c := b1 3) hL t1 tE
  obtain ⟨⟨g, g1, g2, g3, g4, g5⟩, g6⟩ := rds_r (b := b1) hL tC (r := pZ (a 9)) rfl rfl t2
  obtain ⟨T, hT⟩ : ∃ T, T = ch (b1 3) L (L + 1) (pZ (a 9)) 0 := ⟨_, rfl⟩
  rw [← hT] at hc g1 g5
  obtain ⟨b2, hb2⟩ : ∃ b2, b2 = bs b1 6 g := ⟨_, rfl⟩
  have w1 : b2 6 1 = nI L := by rw [hb2, bs_eq, g3]; exact t2
  have w4 : b2 6 4 = pWhole T.2.2 := by rw [hb2, bs_eq]; exact g5
  have h2 : Rel B a b2 := by rw [hb2]; exact Rel_6 h' g2 g3
  have th2 : b2 6 2 = 0 := by rw [hb2, bs_eq, g4]; exact th
  have e3 : b2 3 = b1 3 := by rw [hb2, bs_ne _ _ (by decide)]
  rw [← hb2] at g1
  rw [g1]
  dsimp only
  rcases hc with ⟨c1, c2, f, c3⟩ | ⟨c1, c2, c3⟩
  · have lt : nI T.2.1 < b2 6 1 := by rw [w1]; exact (nI_is (by omega) (by omega)).2.2.mpr c2
    have i1 : F3_isRowOfOrders a = (0, bs a 9 f) := by
      unfold F3_isRowOfOrders
      rw [c3]
      dsimp only
      rw [if_neg (show ¬ nI T.2.1 = (bs a 9 f) 11 2 by rw [bs_ne _ _ (by decide), t1]; exact nI_ne' (by omega) (by omega) (by omega))]
    refine ⟨?_, g6, fun q _ => absurd lt q⟩
    unfold F5_run
    rw [i1]
    dsimp only
    rw [nar0, if_neg (by decide), if_pos lt]
    exact Sim_up (run_fail (Rel_9 h2 9 f (Or.inl rfl))) (by omega)
  · have nl : ¬ nI T.2.1 < b2 6 1 := by
      rw [w1, c2]
      exact fun q => by have := (nI_is (a := L) (b := L) (by omega) (by omega)).2.2.mp q; omega
    have i0 : F0_isWholeT (bs a 9 T.2.2) = pWhole T.2.2 := by
      show pWhole ((bs a 9 T.2.2) 9) = _
      rw [bs_eq]
    by_cases cw : pWhole T.2.2 = 0
    · have i1 : F3_isRowOfOrders a = (0, bs a 9 T.2.2) := by
        unfold F3_isRowOfOrders
        rw [c3]
        dsimp only
        rw [if_pos (show nI L = (bs a 9 T.2.2) 11 2 by rw [bs_ne _ _ (by decide), t1]), if_pos (i0.trans cw)]
      refine ⟨?_, g6, fun _ q => absurd (w4.trans cw) q⟩
      unfold F5_run
      rw [i1]
      dsimp only
      rw [nar0, if_neg (by decide), if_neg nl, if_pos (w4.trans cw)]
      exact Sim_up (run_fail (Rel_9 h2 9 _ (Or.inl rfl))) (by omega)
    · have i1 : F3_isRowOfOrders a = (1, bs a 9 T.2.2) := by
        unfold F3_isRowOfOrders
        rw [c3]
        dsimp only
        rw [if_pos (show nI L = (bs a 9 T.2.2) 11 2 by rw [bs_ne _ _ (by decide), t1]), if_neg (fun q => cw (i0.symm.trans q))]
      obtain ⟨X, hX⟩ : ∃ X, X = (F1_keep (bs a 9 T.2.2)) 10 := ⟨_, rfl⟩
      have hc2 := err_c (a := bs a 9 X) (c := b1 3) hL (by rw [bs_ne _ _ (by decide)]; exact t1) (fun x hx => by rw [bs_ne _ _ (by decide)]; exact tE x hx)
      rw [bs_eq] at hc2
      obtain ⟨⟨g', k1, _, _, _, k5⟩, _⟩ := rds_r (b := b1) hL tC (r := pZ X) rfl rfl t2
      obtain ⟨T', hT'⟩ : ∃ T', T' = ch (b1 3) L (L + 1) (pZ X) 0 := ⟨_, rfl⟩
      rw [← hT'] at hc2 k1 k5
      have z1 : nI T'.2.1 = nI L := by rw [← c2]; exact congrArg Prod.fst (k1.symm.trans g1)
      have z2 : g' 4 = g 4 := by
        have := congrFun (congrFun ((congrArg Prod.snd (k1.symm.trans g1)).trans hb2) 6) 4
        dsimp only at this
        rw [bs_eq, bs_eq] at this
        exact this
      have z3 : T'.1 = 2 := by
        rcases hc2 with ⟨_, d2, _⟩ | ⟨d1, _⟩
        · exact absurd z1 (nI_ne' (by omega) (by omega) (by omega))
        · exact d1
      have z4 : pWhole T'.2.2 ≠ 0 := by rw [← k5, z2, g5]; exact cw
      have h3 := run_ok (a := bs a 9 T.2.2) (b := b2) (L := L) hB (Rel_9 h2 9 _ (Or.inl rfl)) th2 hL (by rw [bs_ne _ _ (by decide)]; exact t1) w1 (by rw [e3]; exact tC) (by rw [e3]; exact fun x hx => by rw [bs_ne _ _ (by decide)]; exact tE x hx) (by rw [e3, ← hX, ← hT']; exact z3) (by rw [e3, ← hX, ← hT']; exact z4)
      refine ⟨?_, g6, fun _ _ => h3.2⟩
      unfold F5_run
      rw [i1]
      dsimp only
      rw [nar1, if_pos rfl, if_neg nl, if_neg (fun q => cw (w4.symm.trans q))]
      exact h3.1
end

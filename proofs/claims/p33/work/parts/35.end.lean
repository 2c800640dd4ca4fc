-- a shop more; the law's end: a setting, a crate, and both undone (own text)
section EN
variable {B n t : Nat} {kd : Nat → Nat} {f : Nat} {m k : Int32} {bb : Nat → Int32} {u : bU}
def nAdS (t M : Nat) : List (Nat × Int32) := [(1, nI 1), (113 + 28 * t + 0, nI M)]
theorem iAdS {c : Nat → Int32} (h : INV B n t kd f m k 0 bb c) (h9 : B + 5000 < 2147483648) (ht : t < 6) {M : Nat} (hM : M ≤ 5000) : INV (B + 5000) n (t + 1) kd f (m + nI M) k 0 bb (adds c (nAdS t M)) := by
  obtain ⟨⟨⟨hn, -, h0, h1⟩, hK, q1, q2, q3, q4, q5, q6, q7, q8⟩, ⟨z1, z2, z3, z4⟩, hN, hW, hS, ⟨e1, e2, e3, e4, e5, e6, e7⟩⟩ := h
  have out : ∀ j : Nat, j ≠ 1 → j ≠ 113 + 28 * t + 0 → adds c (nAdS t M) j = c j := by
    intro j a1 a2
    unfold nAdS
    rw [adds_cons, adds_cons, adds_nil, add1_ne a2, add1_ne a1]
  have a1 : adds c (nAdS t M) 1 = nI (t + 1) := by
    unfold nAdS
    simp (disch := omega) only [adds_cons, adds_nil, add1_at, add1_ne, h1, nI_add]
  have aM : adds c (nAdS t M) (113 + 28 * t + 0) = nI M := by
    unfold nAdS
    simp (disch := omega) only [adds_cons, adds_nil, add1_at, add1_ne, z2 t 0 (Nat.le_refl _) ht (by decide), Int32.zero_add]
  have fS : ∀ w : Nat, 1 ≤ w → w < 28 → Ss (adds c (nAdS t M)) w = Ss c w := fun w hw0 hw => acc_congr _ _ _ (fun i _ hi => out _ (by omega) (by omega))
  have fB : ∀ g : Nat → Int32, ∀ w : Nat, w < 12 → Sb g (adds c (nAdS t M)) w = Sb g c w := fun g w hw => acc_congr _ _ _ (fun i _ hi => by
    show adds c (nAdS t M) (17 + 12 * i + w) * g i = c (17 + 12 * i + w) * g i
    rw [out _ (by omega) (by omega)])
  have fD : ∀ g : Nat → Int32, ∀ o : Nat, o = 10 ∨ o = 20 → Sd g (adds c (nAdS t M)) o = Sd g c o := fun g o ho => acc_congr _ _ _ (fun i _ hi => by
    show Ss (adds c (nAdS t M)) (o + i) * g i = Ss c (o + i) * g i
    rw [fS _ (by omega) (by omega)])
  have f0 : Ss (adds c (nAdS t M)) 0 = Ss c 0 + nI M := by
    unfold nAdS
    rw [adds_cons, adds_cons, adds_nil, Ss_at _ _ ht (by decide), Ss_lo _ _ (by decide)]
  refine ⟨⟨⟨hn, by omega, by rw [out 0 (by decide) (by omega)]; exact h0, a1⟩, fun b hb => ⟨(hK b hb).1, by rw [out _ (by omega) (by omega)]; exact (hK b hb).2⟩, ?_, ?_, ?_, ?_, ?_, ?_, q7, q8⟩, ⟨fun b w x1 x2 x3 x4 => ?_, fun s w x1 x2 x3 => ?_, fun s b x1 x2 x3 => ⟨?_, ?_⟩, z4⟩, fun j hj => ?_, fun b hb => ?_, fun a b ha hb => ?_, ⟨fun b hb => ?_, ?_, ?_, ?_, ?_, ?_, ?_⟩⟩
  · rw [out _ (by decide) (by omega)]; exact q1
  · rw [out _ (by decide) (by omega)]; exact q2
  · rw [out _ (by decide) (by omega)]; exact q3
  · rw [out _ (by decide) (by omega)]; exact q4
  · rw [out _ (by decide) (by omega)]; exact q5
  · rw [out _ (by decide) (by omega)]; exact q6
  · rw [out _ (by omega) (by omega)]; exact z1 b w x1 x2 x3 x4
  · rw [out _ (by omega) (by omega)]; exact z2 s w (by omega) x2 x3
  · rw [out _ (by omega) (by omega)]; exact (z3 s b x1 x2 x3).1
  · rw [out _ (by omega) (by omega)]; exact (z3 s b x1 x2 x3).2
  · by_cases q : j = 113 + 28 * t + 0
    · subst q
      rw [aM]
      exact rg_nI (by omega) (by omega)
    · rw [out j (fun z => by subst z; rcases hj with h | h | ⟨b, w, a1, a2, a3⟩ | ⟨s, w, a1, a2, a3⟩ <;> omega) q]
      exact rg_up (hN j hj) (by omega)
  · obtain ⟨F, f1, f2, f3⟩ := hW b hb
    exact ⟨F, by omega, by rw [out _ (by omega) (by omega)]; exact f2, by rw [out _ (by omega) (by omega)]; exact f3⟩
  · rw [out _ (by omega) (by omega), out _ (by omega) (by omega)]
    exact hS a b ha hb
  · have ee := e1 b hb
    unfold Ab at ee ⊢
    rw [fS _ (by omega) (by omega), fS _ (by omega) (by omega), out (17 + 12 * b + 1) (by omega) (by omega), out (17 + 12 * b + 2) (by omega) (by omega), out (17 + 12 * b + 5) (by omega) (by omega), out (17 + 12 * b + 6) (by omega) (by omega), out (17 + 12 * b + 7) (by omega) (by omega), out (17 + 12 * b + 8) (by omega) (by omega), out (17 + 12 * b + 9) (by omega) (by omega), out (17 + 12 * b + 11) (by omega) (by omega)]
    exact ee
  · rw [out 4 (by decide) (by omega), out 5 (by decide) (by omega), fS _ (by decide) (by decide), fD _ 10 (Or.inl rfl), fD _ 20 (Or.inr rfl), fB _ 5 (by decide)]; exact e2
  · rw [out 4 (by decide) (by omega), fS _ (by decide) (by decide)]; exact e3
  · rw [out 6 (by decide) (by omega), fS _ (by decide) (by decide)]; exact e4
  · rw [out 2 (by decide) (by omega), fS _ (by decide) (by decide)]; exact e5
  · rw [fS _ (by decide) (by decide), fB _ 5 (by decide), fB _ 8 (by decide)]; exact e6
  · rw [f0, fS 4 (by decide) (by decide), fS 5 (by decide) (by decide), fB _ 5 (by decide), fB _ 8 (by decide), e7]
    generalize Ss c 4 = y4
    generalize Ss c 5 = y5
    generalize Sb (gd kd) c 5 = y6
    generalize Sb (gd kd) c 8 = y7
    generalize nI M = y8
    clear e1 e2 e3 e4 e5 e6 e7 z1 z2 z3 z4 hK hN hW hS out a1 aM fS fB fD f0
    grind
theorem F_addShop (hI : INV B n t kd f m k 0 bb (u 0)) (hK : KP0 u) (h9 : B + 5000 < 2147483648) (ht : t < 6) {M : Nat} (hM : M ≤ 5000) : ∃ u' : bU, F5_addShop u (nI M) = (0, nI t, u') ∧ GS (B + 5000) n (t + 1) kd f (m + nI M) k bb u' := by
  obtain ⟨hKP, hk0⟩ := kp_keep hK
  have h0 : F2_ofAll u 1 = nI t := (c_all u (k := 1) (by decide)).trans hI.1.1.2.2.2
  have e1 : F2_addToShop (F2_addToAll (F1_keep u) 1 1) (nI t) 0 (nI M) = bs (F1_keep u) 0 (adds (u 0) (nAdS t M)) := by
    unfold nAdS
    simp (disch := omega) only [li0, li1, c_addAll, c_addSh, bs_eq, bs_bs, adds_cons, adds_nil, hk0]
  refine ⟨bs (F1_keep u) 0 (adds (u 0) (nAdS t M)), ?_, GS_of (iAdS hI h9 ht hM) hKP⟩
  unfold F5_addShop
  rw [h0, if_pos (show F5_needRange (nI M) 0 100000 = 0 from v_rng (l := 0) (h := 100000) (Nat.zero_le _) (by omega) (by decide)), if_neg (show ¬ (6 : Int32) ≤ nI t from nI_ge (b := 6) ht (by decide)), e1]
/-- a setting, a crate, and both undone: the row is as it was -/
theorem F_end (hI : INV B n t kd f m k 0 bb (u 0)) (hK : KP u) (hB : B < 1000000000) {K : Nat} (hk : k = nI K) (hK9 : K ≤ 999) : ∃ (u1 u2 u3 u4 : bU) (a b c : Int32), F5_set u 4 3 = (0, 6, u1) ∧ F5_buyCrates u1 1 = (0, a, u2) ∧ F5_undo u2 = (0, b, u3) ∧ F5_undo u3 = (0, c, u4) ∧ 0 < a ∧ 0 < b ∧ 0 < c ∧ bLat u1 ∧ bLat u2 ∧ bLat u3 ∧ (∀ j : Nat, j < 345 → u4 0 j = u 0 j) := by
  obtain ⟨l, kp, hl, hp1, hp2, e0, e1⟩ := hK
  obtain ⟨a0, a1, a2, -, -, a5, a6⟩ := keepv hl e0 hp2 e1
  have q5 := hI.1.2.2.2.2.2.2.1
  have hu1 : ∀ z : Nat → Int32, KP0 (bs (F1_keep u) 0 z) := fun z => ⟨(l + 1) % 6, min (kp + 1) 6, Nat.mod_lt _ (by decide), by omega, a1, a2⟩
  have s1 : F5_set u 4 3 = (0, 6, bs (F1_keep u) 0 (upd (u 0) 15 3)) := by
    unfold F5_set
    rw [if_pos (by decide), show F5_entry 6 tLeast 4 = 0 by decide, show F5_entry 6 tMost 4 = 100 by decide, if_pos (by decide), if_pos (by decide), show F2_putSetting (F1_keep u) 4 3 = bs (F1_keep u) 0 (upd (F1_keep u 0) (11 + 4) 3) from c_putSet _ _ (k := 4) (by decide), show F2_ofSetting (F1_keep u) 4 = F1_keep u 0 (11 + 4) from c_set _ (k := 4) (by decide), a0]
    refine Prod.ext rfl (Prod.ext ?_ rfl)
    exact q5
  generalize hU1 : bs (F1_keep u) 0 (upd (u 0) 15 3) = u1 at s1
  have r1 : u1 0 = upd (u 0) 15 3 := by rw [← hU1, bs_eq]
  have K1 : KP0 u1 := by rw [← hU1]; exact hu1 _
  have l1 : u1 11 0 = nI ((l + 1) % 6) := by rw [← hU1]; exact a1
  have k1 : u1 11 1 = nI (min (kp + 1) 6) := by rw [← hU1]; exact a2
  have v1 : ∀ i : Nat, i < 345 → u1 (3 + (l + 1) % 6) i = u 0 i := by
    intro i hi
    rw [← hU1, bs_ne _ _ (by omega)]
    exact a5 i hi
  clear hU1 hu1 a1 a2 a5 a6
  obtain ⟨b0, b1, b2, -, -, b5, b6⟩ := keepv (Nat.mod_lt _ (by decide)) l1 (by omega) k1
  obtain ⟨S, hS, eS⟩ := rg_nat (hI.2.2.1 _ pP_2)
  have hc2 : u1 0 2 = nI S := by rw [r1, pk_un (by decide)]; exact eS
  have hcr : F2_countNumber u1 3 = Ss (u 0) 1 := by
    rw [v_cn3, r1]
    exact acc_congr _ _ _ (fun i _ hi => pk_un (by omega))
  have e5 := hI.2.2.2.2.2.2.2.2.2.1
  have s2 : F5_buyCrates u1 1 = (0, nI (S + 1), bs (F1_keep u1) 0 (add1 (u1 0) 2 1)) := by
    unfold F5_buyCrates
    rw [if_pos (by decide), if_neg ?_, show F2_addToAll (F1_keep u1) 2 1 = bs (F1_keep u1) 0 (add1 (F1_keep u1 0) 2 1) from c_addAll _ _ (k := 2) (by decide), b0, show F2_ofAll (bs (F1_keep u1) 0 (add1 (u1 0) 2 1)) 2 = add1 (u1 0) 2 1 2 from d_all _ _ (k := 2) (by decide), add1_at, hc2]
    · refine Prod.ext rfl (Prod.ext ?_ rfl)
      exact nI_1 S
    · rw [show F2_ofAll u1 2 = u1 0 2 from c_all u1 (k := 2) (by decide), hcr, hc2, ← eS, e5, hk, nI_1]
      exact nI_nlt (a := 1000) (b := K + 1) (by omega) (by decide)
  generalize hU2 : bs (F1_keep u1) 0 (add1 (u1 0) 2 1) = u2 at s2
  have l2 : u2 11 0 = nI (((l + 1) % 6 + 1) % 6) := by rw [← hU2]; exact b1
  have k2 : u2 11 1 = nI (min (min (kp + 1) 6 + 1) 6) := by rw [← hU2]; exact b2
  have v2 : ∀ i : Nat, i < 345 → u2 (3 + (l + 1) % 6) i = u 0 i := by
    intro i hi
    rw [← hU2, bs_ne _ _ (by omega), b6 ((l + 1) % 6) (Nat.mod_lt _ (by decide)) (by omega)]
    exact v1 i hi
  clear hU2 b1 b2 b5 b6
  obtain ⟨c0, c1, c2, -, -, c5⟩ := backv (Nat.mod_lt _ (by decide)) l2 (by omega) (by omega) k2
  have s3 : F5_undo u2 = (0, nI (min (min (kp + 1) 6 + 1) 6 - 1), F1_giveBack u2) := by
    unfold F5_undo F1_kept
    rw [k2, if_neg (nI_nle (by omega) (by omega)), c2]
  have l3 : F1_giveBack u2 11 0 = nI ((l + 1) % 6) := by
    rw [c1]
    congr 1
    omega
  have v3 : ∀ i : Nat, i < 345 → F1_giveBack u2 (3 + (l + 1) % 6) i = u 0 i := by
    intro i hi
    rw [c5 ((l + 1) % 6) (Nat.mod_lt _ (by decide))]
    exact v2 i hi
  obtain ⟨d0, d1, d2, -, -, d5⟩ := backv (Nat.mod_lt _ (by decide)) l3 (by omega) (by omega) c2
  have s4 : F5_undo (F1_giveBack u2) = (0, nI (min (min (kp + 1) 6 + 1) 6 - 1 - 1), F1_giveBack (F1_giveBack u2)) := by
    unfold F5_undo F1_kept
    rw [c2, if_neg (nI_nle (by omega) (by omega)), d2]
  refine ⟨u1, u2, F1_giveBack u2, F1_giveBack (F1_giveBack u2), _, _, _, s1, s2, s3, s4, ?_, ?_, ?_, kp_lat K1, kp_lat ⟨_, _, Nat.mod_lt _ (by decide), Nat.min_le_right _ _, l2, k2⟩, kp_lat ⟨_, _, Nat.mod_lt _ (by decide), by omega, l3, c2⟩, fun j hj => ?_⟩
  · exact nI_lt (a := 0) (by omega) (by omega)
  · exact nI_lt (a := 0) (by omega) (by omega)
  · exact nI_lt (a := 0) (by omega) (by omega)
  · rw [d0 j hj]
    exact v3 j hj
end EN

-- the law's loop, and the law from its entry (own text, part by program)
theorem bNest_in : ∀ w ∈ bNest, w ∈ lw_tbl := by decide +kernel
section START
variable {s : State} {b : Nat}
theorem tab_of (n : String) (f : Nat → Int32) (hts : ∀ w ∈ lw_tbl, w.before #[Value.ref b] s = true) (h1 : Cond.laysStatic "BottleLoop" n "[I" ∈ lw_tbl) (h2 : (Cond.arrayOf (.static "BottleLoop" n "[I") .int).before #[Value.ref b] s = true) (h3 : (Cond.eq (.length (.static "BottleLoop" n "[I")) (.int 6)).before #[Value.ref b] s = true) (h4 : ∀ j : Nat, j < 6 → (Cond.eq (.elem (.static "BottleLoop" n "[I") (.int (Int32.ofNat j))) (.int (f j))).before #[Value.ref b] s = true) : bTb n f (fun q : Nat => s.heap.size ≤ q) s s.heap := by
  obtain ⟨t, ht, hT⟩ := va_Tof (tm := .static "BottleLoop" n "[I") (ty := .int) (N := 6) (f := fun k => .int (f k)) (A := fun q : Nat => s.heap.size ≤ q) (by decide) h2 (va_eqt h3) (fun j hj => va_eqt (h4 j hj)) (fun a ha => Nat.not_le.mpr ha)
  exact ⟨t, va_Zof (hts _ h1) (hts (.initialized "BottleLoop") (by decide +kernel)) ht (fun a ha => Nat.not_le.mpr ha), hT⟩
theorem str_of {i : Nat} {tx : String} (hts : ∀ w ∈ lw_tbl, w.before #[Value.ref b] s = true) (h1 : Cond.stringRef RX5 i tx ∈ lw_tbl) (h2 : (Cond.exactly (.string RX5 i) "java/lang/String").before #[Value.ref b] s = true) : ∃ sa : Nat, vk_R RX5 i tx sa s := by
  obtain ⟨a, _, _, _, q1, _⟩ := Cond.exactly_spec (args := #[Value.ref b]) (first := s) (o := none) (s := s) (idx := []) (t := .string RX5 i) (cls := "java/lang/String") h2
  exact ⟨a, vk_R.of (hts _ h1) q1⟩
theorem start_of (hts : ∀ w ∈ lw_tbl, w.before #[Value.ref b] s = true) (hgv : (Jvm.Cond.and given_1 narrow_1).before #[Value.ref b] s = true) : bXe (fun q : Nat => s.heap.size ≤ q) s s.heap ∧ bNC s ∧ va_AO RX2 s ∧ ∀ w ∈ bNest, va_Nw w s := by
  have hs := flat_of_before _ hgv
  have hA : ∀ a : Nat, a < s.heap.size → ¬ (fun q : Nat => s.heap.size ≤ q) a := fun a ha => Nat.not_le.mpr ha
  refine ⟨⟨vx_Zqof (hts _ (by decide +kernel)) (hts _ (by decide +kernel)) (hs _ (by decide +kernel)) hA, vx_Zqof (hts _ (by decide +kernel)) (hts _ (by decide +kernel)) (hs _ (by decide +kernel)) hA, ?_, tab_of _ _ hts (by decide +kernel) (hs _ (by decide +kernel)) (hs _ (by decide +kernel)) ?_, tab_of _ _ hts (by decide +kernel) (hs _ (by decide +kernel)) (hs _ (by decide +kernel)) ?_, tab_of _ _ hts (by decide +kernel) (hs _ (by decide +kernel)) (hs _ (by decide +kernel)) ?_⟩, ⟨va_Nc.of (args := #[Value.ref b]) (hs _ (by decide +kernel)), va_Nc.of (args := #[Value.ref b]) (hs _ (by decide +kernel)), va_Nc.of (args := #[Value.ref b]) (hs _ (by decide +kernel))⟩, va_AO.of (hts (.arrayOver (.object RX2)) (by decide +kernel)), fun w hw => va_Nw.of (bNw_on (List.all_eq_true.mp bIsN_ok w hw)) (hts w (bNest_in w hw))⟩
  · intro x hx
    simp only [bStr, List.mem_cons, List.not_mem_nil, or_false] at hx
    rcases hx with rfl | rfl | rfl | rfl | rfl
    · exact str_of hts (by decide +kernel) (hs _ (by decide +kernel))
    · exact str_of hts (by decide +kernel) (hs _ (by decide +kernel))
    · exact str_of hts (by decide +kernel) (hs _ (by decide +kernel))
    · exact str_of hts (by decide +kernel) (hs _ (by decide +kernel))
    · exact str_of hts (by decide +kernel) (hs _ (by decide +kernel))
  · intro j hj
    have : j = 0 ∨ j = 1 ∨ j = 2 ∨ j = 3 ∨ j = 4 ∨ j = 5 := by omega
    rcases this with rfl | rfl | rfl | rfl | rfl | rfl
    · exact hs _ (by decide +kernel)
    · exact hs _ (by decide +kernel)
    · exact hs _ (by decide +kernel)
    · exact hs _ (by decide +kernel)
    · exact hs _ (by decide +kernel)
    · exact hs _ (by decide +kernel)
  · intro j hj
    have : j = 0 ∨ j = 1 ∨ j = 2 ∨ j = 3 ∨ j = 4 ∨ j = 5 := by omega
    rcases this with rfl | rfl | rfl | rfl | rfl | rfl
    · exact hs _ (by decide +kernel)
    · exact hs _ (by decide +kernel)
    · exact hs _ (by decide +kernel)
    · exact hs _ (by decide +kernel)
    · exact hs _ (by decide +kernel)
    · exact hs _ (by decide +kernel)
  · intro j hj
    have : j = 0 ∨ j = 1 ∨ j = 2 ∨ j = 3 ∨ j = 4 ∨ j = 5 := by omega
    rcases this with rfl | rfl | rfl | rfl | rfl | rfl
    · exact hs _ (by decide +kernel)
    · exact hs _ (by decide +kernel)
    · exact hs _ (by decide +kernel)
    · exact hs _ (by decide +kernel)
    · exact hs _ (by decide +kernel)
    · exact hs _ (by decide +kernel)
end START
theorem inj_of {A : Nat → Prop} {ws : va_W} {n : Nat} {f : Nat → Nat} (h : ws.map Prod.fst = (List.range n).map f) (hD : va_D A ws) : bInj n f ∧ ∀ k : Nat, k < n → A (f k) := by
  have key : ∀ k : Nat, k < n → ∃ p, ws[k]? = some p ∧ p.1 = f k := by
    intro k hk
    have h1 : ((List.range n).map f)[k]? = some (f k) := by rw [List.getElem?_map, List.getElem?_range hk]; rfl
    rw [← h, List.getElem?_map] at h1
    cases hp : ws[k]? with
    | none => rw [hp] at h1; cases h1
    | some p => rw [hp] at h1; exact ⟨p, rfl, Option.some.inj h1⟩
  refine ⟨fun i j hi hj e => ?_, fun k hk => ?_⟩
  · obtain ⟨p, hp, ep⟩ := key i hi
    obtain ⟨r, hr, er⟩ := key j hj
    exact hD.1 i j p r hp hr (by rw [ep, er, e])
  · obtain ⟨p, hp, ep⟩ := key k hk
    rw [← ep]
    exact hD.2 k p hp
def qC (q : Nat → Nat) (o : Nat) : Nat → Nat := fun k => if k = 23 then o else q k
def qA (q qm : Nat → Nat) (o : Nat) : Nat → Nat := fun k => if k < 23 then q k else if k < 30 then qm (k - 23) else o
theorem qA_C (q qm : Nat → Nat) (o : Nat) {i : Nat} (hi : i < 24) : qC q o i = qA q qm o (if i = 23 then 30 else i) := by
  unfold qC qA
  by_cases c : i = 23
  · rw [if_pos c, if_pos c, if_neg (by decide), if_neg (by decide)]
  · rw [if_neg c, if_neg c, if_pos (by omega)]
theorem qA_M (q qm : Nat → Nat) (o : Nat) {j : Nat} (hj : j < 7) : qm j = qA q qm o (23 + j) := by
  unfold qA
  rw [if_neg (by omega), if_pos (by omega), Nat.add_sub_cancel_left]
theorem len4 {L i : Nat} (hL : L ≤ 2048) (hi : i ≤ L) : (¬ (Int32.ofNat L - 4 : Int32) < nI i) → i + 4 ≤ L := by
  intro c
  rcases Nat.lt_or_ge L 4 with q | q
  · exfalso
    have hl : L = 0 ∨ L = 1 ∨ L = 2 ∨ L = 3 := by omega
    have hii : i = 0 ∨ i = 1 ∨ i = 2 ∨ i = 3 := by omega
    rcases hl with rfl | rfl | rfl | rfl <;> rcases hii with rfl | rfl | rfl | rfl <;> exact c (by decide)
  · have e : (Int32.ofNat L - 4 : Int32) = nI (L - 4) := pk_sub (b := 4) q
    rw [e] at c
    rcases Nat.lt_or_ge (L - 4) i with h | h
    · exact absurd ((iLt _ _).mpr (by rw [nI_toInt (by omega), nI_toInt (by omega)]; omega)) c
    · omega
set_option maxHeartbeats 4000000 in
set_option maxRecDepth 100000 in
theorem law_loop {p : Program} {e : Env} {s : State} {m : MethodId} {below : List Frame} {meth : Method} {c : Code} {l : Launch} {b L : Nat} {xs : Nat → Int32} {D : va_G} {cI cO cL : ClassId} {qc qm : Nat → Nat} (hl9 : l.stackTraces = false) (C0 : lw_At p s m meth c b L xs) (hk : bK D [(cI, .int), (cO, .object RX2)] s) (hX : bXe (fun q : Nat => s.heap.size ≤ q) s s.heap) (hKL : va_K D vwCl [(cL, .long)] s) (hN : bNC s) (hq : bInj 24 qc) (hqm : bInj 7 qm) (hqq : ∀ i j : Nat, i < 24 → j < 7 → qc i ≠ qm j) (hgc : ∀ i : Nat, i < 24 → s.heap.size ≤ qc i) (hgm : ∀ j : Nat, j < 7 → s.heap.size ≤ qm j) (hL : L ≤ 2048) : ∀ (n i B : Nat) (a bb : bU) (g : Nat → Int64) (H : Heap) (locs : List Loc) (ls : Array Slot) (C S : Nat), i ≤ L → L < i + 4 * n → B + 2600000 * n < 2000000000 → 100000 ≤ B → C + 5 * n ≤ 601024 → S + 30 * n ≤ 7293034 → Rel B a bb → mInv bb → va_P D vwCl (wCo cI cO cL qc a g) H → va_P D vwCl (wM cI qm bb) H → va_S (fun q : Nat => s.heap.size ≤ q) s.heap H locs → lv_has ls 9 [(0, .ref b), (1, .ref (qc 0)), (2, .ref (qm 0)), (3, .ref (qc 23)), (4, .int (nI i))] → W p l e room_1 s m #[Value.ref b] below meth c H locs C S (lw_Z below #[Value.ref b] s) (F0 m 23 ls []) := by
  obtain ⟨hx, hb, hr, hml, hown, hts0, hXs, hbl, hlocks, hgv⟩ := id C0
  have hbA : ¬ (fun q : Nat => s.heap.size ≤ q) b := Nat.not_le.mpr hbl
  intro n
  induction n with
  | zero => intro i B a bb g H locs ls C S h1 h2; omega
  | succ n ih =>
    intro i B a bb g H locs ls C S hi hin hB hB0 hC hSl hR hI hPC hPM hS hl
    have hend : ∀ (a2 b2 : bU) (g2 : Nat → Int64) (H2 : Heap) (locs2 : List Loc) (ls2 : Array Slot), i + 4 ≤ L → Rel (B + 2600000) a2 b2 → mInv b2 → va_P D vwCl (wCo cI cO cL qc a2 g2) H2 → va_P D vwCl (wM cI qm b2) H2 → va_S (fun q : Nat => s.heap.size ≤ q) s.heap H2 locs2 → lv_has ls2 9 [(0, .ref b), (1, .ref (qc 0)), (2, .ref (qm 0)), (3, .ref (qc 23)), (4, .int (nI i))] → W p l e room_1 s m #[Value.ref b] below meth c H2 locs2 (C + 5) (S + 30) (lw_Z below #[Value.ref b] s) (F0 m 2009 ls2 []) := by
      intro a2 b2 g2 H2 locs2 ls2 h4 hR2 hI2 hPC2 hPM2 hS2 hl2
      refine lv_iinc (v := nI (i + 4)) (lv' := [(4, .int (nI (i + 4))), (0, .ref b), (1, .ref (qc 0)), (2, .ref (qm 0)), (3, .ref (qc 23))]) hx hb dL_law_2009 hl2 (k := 4) rfl (by first | exact nI_add i 4 | exact (nI_add i 4).symm) (by decide) rfl (fun ls hl => ?_)
      refine lv_goto (tgt := 23) hx hb dL_law_2012 (by decide) ?_
      exact ih (i + 4) (B + 2600000) a2 b2 g2 H2 locs2 ls (C + 5) (S + 30) (by omega) (by omega) (by omega) (by omega) (by omega) (by omega) hR2 hI2 hPC2 hPM2 hS2 (lv_sub hl [1, 2, 3, 4, 0] rfl)
    refine lv_iload hx hb dL_law_23 (lv_at hl 4 rfl) ?_
    refine lv_aload_n hx hb dL_law_25 rfl (lv_at hl 0 rfl) ?_
    refine va_slen hx hb hXs hbl hbA hS dL_law_26 ?_
    refine lv_iconst (v := 4) hx hb dL_law_27 (by decide) ?_
    refine lv_isub hx hb dL_law_28 ?_
    refine lv_icmp_gt (tgt := 2015) hx hb dL_law_29 (by decide) (fun _ => ?_) (fun c9 => ?_)
    · refine lv_iconst (v := 1) hx hb dL_law_2015 (by decide) ?_
      refine va_forget (fun q hq => hS.2.2 q hq) ?_
      refine W.widen (k := 601024) (n := 7293034) (by omega) (by omega) ?_
      exact lw_ret (d0 := s.drawn) (Drawn.sameBut.refl s.drawn lw_cs) hx hb hr hlocks dL_law_2016
    · have h4 := len4 hL hi c9
      have hB1 : B + 2600000 < 2000000000 := Nat.lt_of_le_of_lt (Nat.add_le_add_left (Nat.le_mul_of_pos_right 2600000 (Nat.succ_pos n)) B) hB
      have hC1 : C + 5 ≤ 601024 := by omega
      have hS1 : S + 30 ≤ 7293034 := by omega
      refine lv_aload_n hx hb dL_law_32 rfl (lv_at hl 0 rfl) ?_
      refine lv_iload hx hb dL_law_33 (lv_at hl 4 rfl) ?_
      refine va_sld hx hb hXs hbl hbA hS (vp_in_nI (by omega) (by omega)) dL_law_35 ?_
      refine lv_bipush (v := 31) hx hb dL_law_36 (by decide) ?_
      refine lv_iand hx hb dL_law_38 ?_
      generalize xs (nI i).toNatClampNeg &&& 31 = y
      by_cases c_0 : y = 0
      · refine lv_tableIn (off := 133) (tgt := 172) hx hb dL_law_39 (by rw [c_0]; decide) (by rw [c_0]; decide) (by rw [c_0]; rfl) (by decide) ?_
        exact LC_0 hl9 C0 hk hX hKL hN hq hqm hqq hgc hgm hB1 hB0 hR hI h4 hL hPC hPM hS hl hC1 hS1 (fun a2 b2 g2 H2 locs2 ls2 k1 k2 k3 k4 k5 k6 => hend a2 b2 g2 H2 locs2 ls2 h4 k1 k2 k3 k4 k5 k6)
      by_cases c_1 : y = 1
      · refine lv_tableIn (off := 201) (tgt := 240) hx hb dL_law_39 (by rw [c_1]; decide) (by rw [c_1]; decide) (by rw [c_1]; rfl) (by decide) ?_
        exact LC_1 hl9 C0 hk hX hKL hN hq hqm hqq hgc hgm hB1 hB0 hR hI h4 hL hPC hPM hS hl hC1 hS1 (fun a2 b2 g2 H2 locs2 ls2 k1 k2 k3 k4 k5 k6 => hend a2 b2 g2 H2 locs2 ls2 h4 k1 k2 k3 k4 k5 k6)
      by_cases c_2 : y = 2
      · refine lv_tableIn (off := 257) (tgt := 296) hx hb dL_law_39 (by rw [c_2]; decide) (by rw [c_2]; decide) (by rw [c_2]; rfl) (by decide) ?_
        exact LC_2 hl9 C0 hk hX hKL hN hq hqm hqq hgc hgm hB1 hB0 hR hI h4 hL hPC hPM hS hl hC1 hS1 (fun a2 b2 g2 H2 locs2 ls2 k1 k2 k3 k4 k5 k6 => hend a2 b2 g2 H2 locs2 ls2 h4 k1 k2 k3 k4 k5 k6)
      by_cases c_3 : y = 3
      · refine lv_tableIn (off := 313) (tgt := 352) hx hb dL_law_39 (by rw [c_3]; decide) (by rw [c_3]; decide) (by rw [c_3]; rfl) (by decide) ?_
        exact LC_3 hl9 C0 hk hX hKL hN hq hqm hqq hgc hgm hB1 hB0 hR hI h4 hL hPC hPM hS hl hC1 hS1 (fun a2 b2 g2 H2 locs2 ls2 k1 k2 k3 k4 k5 k6 => hend a2 b2 g2 H2 locs2 ls2 h4 k1 k2 k3 k4 k5 k6)
      by_cases c_4 : y = 4
      · refine lv_tableIn (off := 381) (tgt := 420) hx hb dL_law_39 (by rw [c_4]; decide) (by rw [c_4]; decide) (by rw [c_4]; rfl) (by decide) ?_
        exact LC_4 hl9 C0 hk hX hKL hN hq hqm hqq hgc hgm hB1 hB0 hR hI h4 hL hPC hPM hS hl hC1 hS1 (fun a2 b2 g2 H2 locs2 ls2 k1 k2 k3 k4 k5 k6 => hend a2 b2 g2 H2 locs2 ls2 h4 k1 k2 k3 k4 k5 k6)
      by_cases c_5 : y = 5
      · refine lv_tableIn (off := 449) (tgt := 488) hx hb dL_law_39 (by rw [c_5]; decide) (by rw [c_5]; decide) (by rw [c_5]; rfl) (by decide) ?_
        exact LC_5 hl9 C0 hk hX hKL hN hq hqm hqq hgc hgm hB1 hB0 hR hI h4 hL hPC hPM hS hl hC1 hS1 (fun a2 b2 g2 H2 locs2 ls2 k1 k2 k3 k4 k5 k6 => hend a2 b2 g2 H2 locs2 ls2 h4 k1 k2 k3 k4 k5 k6)
      by_cases c_6 : y = 6
      · refine lv_tableIn (off := 529) (tgt := 568) hx hb dL_law_39 (by rw [c_6]; decide) (by rw [c_6]; decide) (by rw [c_6]; rfl) (by decide) ?_
        exact LC_6 hl9 C0 hk hX hKL hN hq hqm hqq hgc hgm hB1 hB0 hR hI h4 hL hPC hPM hS hl hC1 hS1 (fun a2 b2 g2 H2 locs2 ls2 k1 k2 k3 k4 k5 k6 => hend a2 b2 g2 H2 locs2 ls2 h4 k1 k2 k3 k4 k5 k6)
      by_cases c_7 : y = 7
      · refine lv_tableIn (off := 609) (tgt := 648) hx hb dL_law_39 (by rw [c_7]; decide) (by rw [c_7]; decide) (by rw [c_7]; rfl) (by decide) ?_
        exact LC_7 hl9 C0 hk hX hKL hN hq hqm hqq hgc hgm hB1 hB0 hR hI h4 hL hPC hPM hS hl hC1 hS1 (fun a2 b2 g2 H2 locs2 ls2 k1 k2 k3 k4 k5 k6 => hend a2 b2 g2 H2 locs2 ls2 h4 k1 k2 k3 k4 k5 k6)
      by_cases c_8 : y = 8
      · refine lv_tableIn (off := 689) (tgt := 728) hx hb dL_law_39 (by rw [c_8]; decide) (by rw [c_8]; decide) (by rw [c_8]; rfl) (by decide) ?_
        exact LC_8 hl9 C0 hk hX hKL hN hq hqm hqq hgc hgm hB1 hB0 hR hI h4 hL hPC hPM hS hl hC1 hS1 (fun a2 b2 g2 H2 locs2 ls2 k1 k2 k3 k4 k5 k6 => hend a2 b2 g2 H2 locs2 ls2 h4 k1 k2 k3 k4 k5 k6)
      by_cases c_9 : y = 9
      · refine lv_tableIn (off := 769) (tgt := 808) hx hb dL_law_39 (by rw [c_9]; decide) (by rw [c_9]; decide) (by rw [c_9]; rfl) (by decide) ?_
        exact LC_9 hl9 C0 hk hX hKL hN hq hqm hqq hgc hgm hB1 hB0 hR hI h4 hL hPC hPM hS hl hC1 hS1 (fun a2 b2 g2 H2 locs2 ls2 k1 k2 k3 k4 k5 k6 => hend a2 b2 g2 H2 locs2 ls2 h4 k1 k2 k3 k4 k5 k6)
      by_cases c_10 : y = 10
      · refine lv_tableIn (off := 837) (tgt := 876) hx hb dL_law_39 (by rw [c_10]; decide) (by rw [c_10]; decide) (by rw [c_10]; rfl) (by decide) ?_
        exact LC_10 hl9 C0 hk hX hKL hN hq hqm hqq hgc hgm hB1 hB0 hR hI h4 hL hPC hPM hS hl hC1 hS1 (fun a2 b2 g2 H2 locs2 ls2 k1 k2 k3 k4 k5 k6 => hend a2 b2 g2 H2 locs2 ls2 h4 k1 k2 k3 k4 k5 k6)
      by_cases c_11 : y = 11
      · refine lv_tableIn (off := 917) (tgt := 956) hx hb dL_law_39 (by rw [c_11]; decide) (by rw [c_11]; decide) (by rw [c_11]; rfl) (by decide) ?_
        exact LC_11 hl9 C0 hk hX hKL hN hq hqm hqq hgc hgm hB1 hB0 hR hI h4 hL hPC hPM hS hl hC1 hS1 (fun a2 b2 g2 H2 locs2 ls2 k1 k2 k3 k4 k5 k6 => hend a2 b2 g2 H2 locs2 ls2 h4 k1 k2 k3 k4 k5 k6)
      by_cases c_12 : y = 12
      · refine lv_tableIn (off := 985) (tgt := 1024) hx hb dL_law_39 (by rw [c_12]; decide) (by rw [c_12]; decide) (by rw [c_12]; rfl) (by decide) ?_
        exact LC_12 hl9 C0 hk hX hKL hN hq hqm hqq hgc hgm hB1 hB0 hR hI h4 hL hPC hPM hS hl hC1 hS1 (fun a2 b2 g2 H2 locs2 ls2 k1 k2 k3 k4 k5 k6 => hend a2 b2 g2 H2 locs2 ls2 h4 k1 k2 k3 k4 k5 k6)
      by_cases c_13 : y = 13
      · refine lv_tableIn (off := 1065) (tgt := 1104) hx hb dL_law_39 (by rw [c_13]; decide) (by rw [c_13]; decide) (by rw [c_13]; rfl) (by decide) ?_
        exact LC_13 hl9 C0 hk hX hKL hN hq hqm hqq hgc hgm hB1 hB0 hR hI h4 hL hPC hPM hS hl hC1 hS1 (fun a2 b2 g2 H2 locs2 ls2 k1 k2 k3 k4 k5 k6 => hend a2 b2 g2 H2 locs2 ls2 h4 k1 k2 k3 k4 k5 k6)
      by_cases c_14 : y = 14
      · refine lv_tableIn (off := 1121) (tgt := 1160) hx hb dL_law_39 (by rw [c_14]; decide) (by rw [c_14]; decide) (by rw [c_14]; rfl) (by decide) ?_
        exact LC_14 hl9 C0 hk hX hKL hN hq hqm hqq hgc hgm hB1 hB0 hR hI h4 hL hPC hPM hS hl hC1 hS1 (fun a2 b2 g2 H2 locs2 ls2 k1 k2 k3 k4 k5 k6 => hend a2 b2 g2 H2 locs2 ls2 h4 k1 k2 k3 k4 k5 k6)
      by_cases c_15 : y = 15
      · refine lv_tableIn (off := 1134) (tgt := 1173) hx hb dL_law_39 (by rw [c_15]; decide) (by rw [c_15]; decide) (by rw [c_15]; rfl) (by decide) ?_
        exact LC_15 hl9 C0 hk hX hKL hN hq hqm hqq hgc hgm hB1 hB0 hR hI h4 hL hPC hPM hS hl hC1 hS1 (fun a2 b2 g2 H2 locs2 ls2 k1 k2 k3 k4 k5 k6 => hend a2 b2 g2 H2 locs2 ls2 h4 k1 k2 k3 k4 k5 k6)
      by_cases c_16 : y = 16
      · refine lv_tableIn (off := 1147) (tgt := 1186) hx hb dL_law_39 (by rw [c_16]; decide) (by rw [c_16]; decide) (by rw [c_16]; rfl) (by decide) ?_
        exact LC_16 hl9 C0 hk hX hKL hN hq hqm hqq hgc hgm hB1 hB0 hR hI h4 hL hPC hPM hS hl hC1 hS1 (fun a2 b2 g2 H2 locs2 ls2 k1 k2 k3 k4 k5 k6 => hend a2 b2 g2 H2 locs2 ls2 h4 k1 k2 k3 k4 k5 k6)
      by_cases c_17 : y = 17
      · refine lv_tableIn (off := 1191) (tgt := 1230) hx hb dL_law_39 (by rw [c_17]; decide) (by rw [c_17]; decide) (by rw [c_17]; rfl) (by decide) ?_
        exact LC_17 hl9 C0 hk hX hKL hN hq hqm hqq hgc hgm hB1 hB0 hR hI h4 hL hPC hPM hS hl hC1 hS1 (fun a2 b2 g2 H2 locs2 ls2 k1 k2 k3 k4 k5 k6 => hend a2 b2 g2 H2 locs2 ls2 h4 k1 k2 k3 k4 k5 k6)
      by_cases c_18 : y = 18
      · refine lv_tableIn (off := 1235) (tgt := 1274) hx hb dL_law_39 (by rw [c_18]; decide) (by rw [c_18]; decide) (by rw [c_18]; rfl) (by decide) ?_
        exact LC_18 hl9 C0 hk hX hKL hN hq hqm hqq hgc hgm hB1 hB0 hR hI h4 hL hPC hPM hS hl hC1 hS1 (fun a2 b2 g2 H2 locs2 ls2 k1 k2 k3 k4 k5 k6 => hend a2 b2 g2 H2 locs2 ls2 h4 k1 k2 k3 k4 k5 k6)
      by_cases c_19 : y = 19
      · refine lv_tableIn (off := 1303) (tgt := 1342) hx hb dL_law_39 (by rw [c_19]; decide) (by rw [c_19]; decide) (by rw [c_19]; rfl) (by decide) ?_
        exact LC_19 hl9 C0 hk hX hKL hN hq hqm hqq hgc hgm hB1 hB0 hR hI h4 hL hPC hPM hS hl hC1 hS1 (fun a2 b2 g2 H2 locs2 ls2 k1 k2 k3 k4 k5 k6 => hend a2 b2 g2 H2 locs2 ls2 h4 k1 k2 k3 k4 k5 k6)
      by_cases c_20 : y = 20
      · refine lv_tableIn (off := 1371) (tgt := 1410) hx hb dL_law_39 (by rw [c_20]; decide) (by rw [c_20]; decide) (by rw [c_20]; rfl) (by decide) ?_
        exact LC_20 hl9 C0 hk hX hKL hN hq hqm hqq hgc hgm hB1 hB0 hR hI h4 hL hPC hPM hS hl hC1 hS1 (fun a2 b2 g2 H2 locs2 ls2 k1 k2 k3 k4 k5 k6 => hend a2 b2 g2 H2 locs2 ls2 h4 k1 k2 k3 k4 k5 k6)
      by_cases c_21 : y = 21
      · refine lv_tableIn (off := 1427) (tgt := 1466) hx hb dL_law_39 (by rw [c_21]; decide) (by rw [c_21]; decide) (by rw [c_21]; rfl) (by decide) ?_
        exact LC_21 hl9 C0 hk hX hKL hN hq hqm hqq hgc hgm hB1 hB0 hR hI h4 hL hPC hPM hS hl hC1 hS1 (fun a2 b2 g2 H2 locs2 ls2 k1 k2 k3 k4 k5 k6 => hend a2 b2 g2 H2 locs2 ls2 h4 k1 k2 k3 k4 k5 k6)
      by_cases c_22 : y = 22
      · refine lv_tableIn (off := 1483) (tgt := 1522) hx hb dL_law_39 (by rw [c_22]; decide) (by rw [c_22]; decide) (by rw [c_22]; rfl) (by decide) ?_
        exact LC_22 hl9 C0 hk hX hKL hN hq hqm hqq hgc hgm hB1 hB0 hR hI h4 hL hPC hPM hS hl hC1 hS1 (fun a2 b2 g2 H2 locs2 ls2 k1 k2 k3 k4 k5 k6 => hend a2 b2 g2 H2 locs2 ls2 h4 k1 k2 k3 k4 k5 k6)
      by_cases c_23 : y = 23
      · refine lv_tableIn (off := 1563) (tgt := 1602) hx hb dL_law_39 (by rw [c_23]; decide) (by rw [c_23]; decide) (by rw [c_23]; rfl) (by decide) ?_
        exact LC_23 hl9 C0 hk hX hKL hN hq hqm hqq hgc hgm hB1 hB0 hR hI h4 hL hPC hPM hS hl hC1 hS1 (fun a2 b2 g2 H2 locs2 ls2 k1 k2 k3 k4 k5 k6 => hend a2 b2 g2 H2 locs2 ls2 h4 k1 k2 k3 k4 k5 k6)
      by_cases c_24 : y = 24
      · refine lv_tableIn (off := 1643) (tgt := 1682) hx hb dL_law_39 (by rw [c_24]; decide) (by rw [c_24]; decide) (by rw [c_24]; rfl) (by decide) ?_
        exact LC_24 hl9 C0 hk hX hKL hN hq hqm hqq hgc hgm hB1 hB0 hR hI h4 hL hPC hPM hS hl hC1 hS1 (fun a2 b2 g2 H2 locs2 ls2 k1 k2 k3 k4 k5 k6 => hend a2 b2 g2 H2 locs2 ls2 h4 k1 k2 k3 k4 k5 k6)
      by_cases c_25 : y = 25
      · refine lv_tableIn (off := 1711) (tgt := 1750) hx hb dL_law_39 (by rw [c_25]; decide) (by rw [c_25]; decide) (by rw [c_25]; rfl) (by decide) ?_
        exact LC_25 hl9 C0 hk hX hKL hN hq hqm hqq hgc hgm hB1 hB0 hR hI h4 hL hPC hPM hS hl hC1 hS1 (fun a2 b2 g2 H2 locs2 ls2 k1 k2 k3 k4 k5 k6 => hend a2 b2 g2 H2 locs2 ls2 h4 k1 k2 k3 k4 k5 k6)
      by_cases c_26 : y = 26
      · refine lv_tableIn (off := 1791) (tgt := 1830) hx hb dL_law_39 (by rw [c_26]; decide) (by rw [c_26]; decide) (by rw [c_26]; rfl) (by decide) ?_
        exact LC_26 hl9 C0 hk hX hKL hN hq hqm hqq hgc hgm hB1 hB0 hR hI h4 hL hPC hPM hS hl hC1 hS1 (fun a2 b2 g2 H2 locs2 ls2 k1 k2 k3 k4 k5 k6 => hend a2 b2 g2 H2 locs2 ls2 h4 k1 k2 k3 k4 k5 k6)
      by_cases c_27 : y = 27
      · refine lv_tableIn (off := 1859) (tgt := 1898) hx hb dL_law_39 (by rw [c_27]; decide) (by rw [c_27]; decide) (by rw [c_27]; rfl) (by decide) ?_
        exact LC_27 hl9 C0 hk hX hKL hN hq hqm hqq hgc hgm hB1 hB0 hR hI h4 hL hPC hPM hS hl hC1 hS1 (fun a2 b2 g2 H2 locs2 ls2 k1 k2 k3 k4 k5 k6 => hend a2 b2 g2 H2 locs2 ls2 h4 k1 k2 k3 k4 k5 k6)
      by_cases c_28 : y = 28
      · refine lv_tableIn (off := 1915) (tgt := 1954) hx hb dL_law_39 (by rw [c_28]; decide) (by rw [c_28]; decide) (by rw [c_28]; rfl) (by decide) ?_
        exact LC_28 hl9 C0 hk hX hKL hN hq hqm hqq hgc hgm hB1 hB0 hR hI h4 hL hPC hPM hS hl hC1 hS1 (fun a2 b2 g2 H2 locs2 ls2 k1 k2 k3 k4 k5 k6 => hend a2 b2 g2 H2 locs2 ls2 h4 k1 k2 k3 k4 k5 k6)
      by_cases c_29 : y = 29
      · refine lv_tableIn (off := 1956) (tgt := 1995) hx hb dL_law_39 (by rw [c_29]; decide) (by rw [c_29]; decide) (by rw [c_29]; rfl) (by decide) ?_
        exact LC_29 hl9 C0 hk hX hKL hN hq hqm hqq hgc hgm hB1 hB0 hR hI h4 hL hPC hPM hS hl hC1 hS1 (fun a2 b2 g2 H2 locs2 ls2 k1 k2 k3 k4 k5 k6 => hend a2 b2 g2 H2 locs2 ls2 h4 k1 k2 k3 k4 k5 k6)
      have hn_0 := lv_neT c_0 (a := 0) rfl
      have hn_1 := lv_neT c_1 (a := 1) rfl
      have hn_2 := lv_neT c_2 (a := 2) rfl
      have hn_3 := lv_neT c_3 (a := 3) rfl
      have hn_4 := lv_neT c_4 (a := 4) rfl
      have hn_5 := lv_neT c_5 (a := 5) rfl
      have hn_6 := lv_neT c_6 (a := 6) rfl
      have hn_7 := lv_neT c_7 (a := 7) rfl
      have hn_8 := lv_neT c_8 (a := 8) rfl
      have hn_9 := lv_neT c_9 (a := 9) rfl
      have hn_10 := lv_neT c_10 (a := 10) rfl
      have hn_11 := lv_neT c_11 (a := 11) rfl
      have hn_12 := lv_neT c_12 (a := 12) rfl
      have hn_13 := lv_neT c_13 (a := 13) rfl
      have hn_14 := lv_neT c_14 (a := 14) rfl
      have hn_15 := lv_neT c_15 (a := 15) rfl
      have hn_16 := lv_neT c_16 (a := 16) rfl
      have hn_17 := lv_neT c_17 (a := 17) rfl
      have hn_18 := lv_neT c_18 (a := 18) rfl
      have hn_19 := lv_neT c_19 (a := 19) rfl
      have hn_20 := lv_neT c_20 (a := 20) rfl
      have hn_21 := lv_neT c_21 (a := 21) rfl
      have hn_22 := lv_neT c_22 (a := 22) rfl
      have hn_23 := lv_neT c_23 (a := 23) rfl
      have hn_24 := lv_neT c_24 (a := 24) rfl
      have hn_25 := lv_neT c_25 (a := 25) rfl
      have hn_26 := lv_neT c_26 (a := 26) rfl
      have hn_27 := lv_neT c_27 (a := 27) rfl
      have hn_28 := lv_neT c_28 (a := 28) rfl
      have hn_29 := lv_neT c_29 (a := 29) rfl
      refine lv_tableOut (tgt := 2009) hx hb dL_law_39 (by omega) (by decide) ?_
      refine W.widen (k := C + 5) (n := S + 30) (by omega) (by omega) ?_
      exact hend a bb g H locs ls h4 (Rel_up hR (by omega)) hI hPC hPM hS hl

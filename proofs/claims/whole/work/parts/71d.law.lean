-- the calls, on (by program)
theorem bd_LbestShop : yL_bestShop.cls ≠ "java/lang/invoke/MethodHandle" ∧ yL_bestShop.cls ≠ "java/lang/invoke/VarHandle" ∧ (parseMethodDescriptor yL_bestShop.desc).map (fun d => d.parameters.length) = some 3 := by decide +kernel
theorem bd_Lcollected : yL_collected.cls ≠ "java/lang/invoke/MethodHandle" ∧ yL_collected.cls ≠ "java/lang/invoke/VarHandle" ∧ (parseMethodDescriptor yL_collected.desc).map (fun d => d.parameters.length) = some 5 := by decide +kernel
theorem bd_Lfilled : yL_filled.cls ≠ "java/lang/invoke/MethodHandle" ∧ yL_filled.cls ≠ "java/lang/invoke/VarHandle" ∧ (parseMethodDescriptor yL_filled.desc).map (fun d => d.parameters.length) = some 4 := by decide +kernel
theorem bd_LmostCrates : yL_mostCrates.cls ≠ "java/lang/invoke/MethodHandle" ∧ yL_mostCrates.cls ≠ "java/lang/invoke/VarHandle" ∧ (parseMethodDescriptor yL_mostCrates.desc).map (fun d => d.parameters.length) = some 4 := by decide +kernel
theorem bd_LwhyNotCollect : yL_whyNotCollect.cls ≠ "java/lang/invoke/MethodHandle" ∧ yL_whyNotCollect.cls ≠ "java/lang/invoke/VarHandle" ∧ (parseMethodDescriptor yL_whyNotCollect.desc).map (fun d => d.parameters.length) = some 5 := by decide +kernel
theorem bd_X5digest : yX5_digest.cls ≠ "java/lang/invoke/MethodHandle" ∧ yX5_digest.cls ≠ "java/lang/invoke/VarHandle" ∧ (parseMethodDescriptor yX5_digest.desc).map (fun d => d.parameters.length) = some 0 := by decide +kernel
theorem bd_X6bestShop : yX6_bestShop.cls ≠ "java/lang/invoke/MethodHandle" ∧ yX6_bestShop.cls ≠ "java/lang/invoke/VarHandle" ∧ (parseMethodDescriptor yX6_bestShop.desc).map (fun d => d.parameters.length) = some 1 := by decide +kernel
theorem bd_X6collected : yX6_collected.cls ≠ "java/lang/invoke/MethodHandle" ∧ yX6_collected.cls ≠ "java/lang/invoke/VarHandle" ∧ (parseMethodDescriptor yX6_collected.desc).map (fun d => d.parameters.length) = some 3 := by decide +kernel
theorem bd_X6digest : yX6_digest.cls ≠ "java/lang/invoke/MethodHandle" ∧ yX6_digest.cls ≠ "java/lang/invoke/VarHandle" ∧ (parseMethodDescriptor yX6_digest.desc).map (fun d => d.parameters.length) = some 0 := by decide +kernel
theorem bd_X6filled : yX6_filled.cls ≠ "java/lang/invoke/MethodHandle" ∧ yX6_filled.cls ≠ "java/lang/invoke/VarHandle" ∧ (parseMethodDescriptor yX6_filled.desc).map (fun d => d.parameters.length) = some 2 := by decide +kernel
theorem bd_X6goneShare : yX6_goneShare.cls ≠ "java/lang/invoke/MethodHandle" ∧ yX6_goneShare.cls ≠ "java/lang/invoke/VarHandle" ∧ (parseMethodDescriptor yX6_goneShare.desc).map (fun d => d.parameters.length) = some 0 := by decide +kernel
theorem bd_X6mostCrates : yX6_mostCrates.cls ≠ "java/lang/invoke/MethodHandle" ∧ yX6_mostCrates.cls ≠ "java/lang/invoke/VarHandle" ∧ (parseMethodDescriptor yX6_mostCrates.desc).map (fun d => d.parameters.length) = some 2 := by decide +kernel
theorem bd_X6whyNotCollect : yX6_whyNotCollect.cls ≠ "java/lang/invoke/MethodHandle" ∧ yX6_whyNotCollect.cls ≠ "java/lang/invoke/VarHandle" ∧ (parseMethodDescriptor yX6_whyNotCollect.desc).map (fun d => d.parameters.length) = some 3 := by decide +kernel
set_option maxHeartbeats 4000000 in
set_option maxRecDepth 100000 in
theorem LC_23 {p : Program} {e : Env} {s : State} {m : MethodId} {below : List Frame} {meth : Method} {c : Code} {l : Launch} {b L : Nat} {xs : Nat → Int32} {D : va_G} {cI cO cL : ClassId} {qc qm : Nat → Nat} (hl9 : l.stackTraces = false) (C0 : lw_At p s m meth c b L xs) (hk : bK D [(cI, .int), (cO, .object RX2)] s) (hX : bXe (fun q : Nat => s.heap.size ≤ q) s s.heap) (hKL : va_K D vwCl [(cL, .long)] s) (hN : bNC s) (hq : bInj 24 qc) (hqm : bInj 7 qm) (hqq : ∀ i j : Nat, i < 24 → j < 7 → qc i ≠ qm j) (hgc : ∀ i : Nat, i < 24 → s.heap.size ≤ qc i) (hgm : ∀ j : Nat, j < 7 → s.heap.size ≤ qm j) {B : Nat} (hB : B + 2600000 < 2000000000) (hB0 : 100000 ≤ B) {a bb : bU} {g : Nat → Int64} (hR : Rel B a bb) (hI : mInv bb) {i : Nat} (hi : i + 4 ≤ L) (hL : L ≤ 2048) {H : Heap} {locs : List Loc} (hPC : va_P D vwCl (wCo cI cO cL qc a g) H) (hPM : va_P D vwCl (wM cI qm bb) H) (hS : va_S (fun q : Nat => s.heap.size ≤ q) s.heap H locs) {ls : Array Slot} (hl : lv_has ls 9 [(0, .ref b), (1, .ref (qc 0)), (2, .ref (qm 0)), (3, .ref (qc 23)), (4, .int (nI i))]) {C S : Nat} (hC : C + 5 ≤ 601024) (hSl : S + 30 ≤ 7293034) {Q : State → Prop} (kk : ∀ (a2 b2 : bU) (g2 : Nat → Int64) (H2 : Heap) (locs2 : List Loc) (ls2 : Array Slot), Rel (B + 2600000) a2 b2 → mInv b2 → va_P D vwCl (wCo cI cO cL qc a2 g2) H2 → va_P D vwCl (wM cI qm b2) H2 → va_S (fun q : Nat => s.heap.size ≤ q) s.heap H2 locs2 → lv_has ls2 9 [(0, .ref b), (1, .ref (qc 0)), (2, .ref (qm 0)), (3, .ref (qc 23)), (4, .int (nI i))] → W p l e room_1 s m #[Value.ref b] below meth c H2 locs2 (C + 5) (S + 30) Q (F0 m 2009 ls2 [])) : W p l e room_1 s m #[Value.ref b] below meth c H locs C S Q (F0 m 1602 ls []) := by
  obtain ⟨hx, hb, hr, hml, hown, hts0, hXs, hbl, hlocks, hgv⟩ := C0
  have hts : ∀ w ∈ wsL_law, w.before #[Value.ref b] s = true := fun w h => hts0 w (wsL_law_in w h)
  have hbA : ¬ (fun q : Nat => s.heap.size ≤ q) b := Nat.not_le.mpr hbl
  have hk6 : bK D [(cI, .int)] s := ⟨va_K.sub hk.1 [0] rfl, hk.2⟩
  refine lv_aload_n hx hb dL_law_1602 rfl (lv_at hl 1 rfl) ?_
  refine lv_aload_n hx hb dL_law_1603 rfl (lv_at hl 0 rfl) ?_
  refine lv_iload hx hb dL_law_1604 (lv_at hl 4 rfl) ?_
  refine lv_iconst (v := 1) hx hb dL_law_1606 (by decide) ?_
  refine lv_iadd hx hb dL_law_1607 ?_
  refine lv_topi (fun z9 hz9 => ?_)
  obtain rfl : z9 = nI (i + 1) := hz9.trans (nI_add i 1)
  refine va_sld hx hb hXs hbl hbA hS (vp_in_nI (by omega) (by omega)) dL_law_1608 ?_
  refine lv_aload_n hx hb dL_law_1609 rfl (lv_at hl 0 rfl) ?_
  refine lv_iload hx hb dL_law_1610 (lv_at hl 4 rfl) ?_
  refine lv_iconst (v := 2) hx hb dL_law_1612 (by decide) ?_
  refine lv_iadd hx hb dL_law_1613 ?_
  refine lv_topi (fun z9 hz9 => ?_)
  obtain rfl : z9 = nI (i + 2) := hz9.trans (nI_add i 2)
  refine va_sld hx hb hXs hbl hbA hS (vp_in_nI (by omega) (by omega)) dL_law_1614 ?_
  refine lv_aload_n hx hb dL_law_1615 rfl (lv_at hl 0 rfl) ?_
  refine lv_iload hx hb dL_law_1616 (lv_at hl 4 rfl) ?_
  refine lv_iconst (v := 3) hx hb dL_law_1618 (by decide) ?_
  refine lv_iadd hx hb dL_law_1619 ?_
  refine lv_topi (fun z9 hz9 => ?_)
  obtain rfl : z9 = nI (i + 3) := hz9.trans (nI_add i 3)
  refine va_sld hx hb hXs hbl hbA hS (vp_in_nI (by omega) (by omega)) dL_law_1620 ?_
  refine lv_aload_n hx hb dL_law_1621 rfl (lv_at hl 3 rfl) ?_
  have hAB : ∀ x : Nat, bA 24 qc H.size x → s.heap.size ≤ x := fun x hx9 => hx9.elim (fun ⟨k9, h9, e9⟩ => e9 ▸ hgc k9 h9) (fun h9 => Nat.le_trans hS.1 h9)
  refine va_calli (vx_runSW (As := [.ref (qc 0), .int (xs (nI (i + 1)).toNatClampNeg), .int (xs (nI (i + 2)).toNatClampNeg), .int (xs (nI (i + 3)).toNatClampNeg), .ref (qc 23)]) (rest := []) ⟨hx, hb, hml, hown, hts⟩ (CL_whyNotCollect l D cI cO cL qc a g H hq hl9 hPC (xs (nI (i + 1)).toNatClampNeg) (xs (nI (i + 2)).toNatClampNeg) (xs (nI (i + 3)).toNatClampNeg)) (vx_cwSW 5 hts gL_law_L_whyNotCollect rfl rfl rfl bd_LwhyNotCollect ⟨Nat.le_of_ble_eq_true rfl, Nat.le_of_ble_eq_true rfl⟩) (bPSL hk hX hKL hN hS hAB) rfl rfl hl.1 rfl (lv_room (Nat.le_of_ble_eq_true rfl)) dL_law_1622 ⟨by show _ ≤ 601024; omega, by show _ ≤ 7293034; omega⟩) hS (fun x _ h => hAB x h) hAB (fun r g1 t H1 locs ht _ hw hB1 hz1 hk1 hS => ?_)
  rw [ht] at hB1
  clear ht
  have hPM := wM_k hPM hk1 hqq hqm
  refine W.widen (k := C + 5) (n := S + 30) (by omega) (by omega) ?_
  refine lv_istore (lv' := [(5, .int r), (0, .ref b), (1, .ref (qc 0)), (2, .ref (qm 0)), (3, .ref (qc 23)), (4, .int (nI i))]) hx hb dL_law_1625 hl (by decide) rfl (fun ls hl => ?_)
  refine lv_aload_n hx hb dL_law_1627 rfl (lv_at hl 3 rfl) ?_
  refine lv_aload_n hx hb dL_law_1628 rfl (lv_at hl 1 rfl) ?_
  refine lv_iload hx hb dL_law_1629 (lv_at hl 5 rfl) ?_
  refine lv_iconst (v := 1) hx hb dL_law_1631 (by decide) ?_
  refine lv_iadd hx hb dL_law_1632 ?_
  refine lv_topi (fun z9 hz9 => ?_)
  obtain rfl : z9 = nI (i + 1) := hz9.trans (nI_add i 1)
  refine va_sld hx hb hXs hbl hbA hS (vp_in_nI (by omega) (by omega)) dL_law_1633 ?_
  refine lv_aload_n hx hb dL_law_1634 rfl (lv_at hl 1 rfl) ?_
  refine lv_iload hx hb dL_law_1635 (lv_at hl 5 rfl) ?_
  refine lv_iconst (v := 2) hx hb dL_law_1637 (by decide) ?_
  refine lv_iadd hx hb dL_law_1638 ?_
  refine lv_topi (fun z9 hz9 => ?_)
  obtain rfl : z9 = nI (i + 2) := hz9.trans (nI_add i 2)
  refine va_sld hx hb hXs hbl hbA hS (vp_in_nI (by omega) (by omega)) dL_law_1639 ?_
  refine lv_aload_n hx hb dL_law_1640 rfl (lv_at hl 1 rfl) ?_
  refine lv_iload hx hb dL_law_1641 (lv_at hl 5 rfl) ?_
  refine lv_iconst (v := 3) hx hb dL_law_1643 (by decide) ?_
  refine lv_iadd hx hb dL_law_1644 ?_
  refine lv_topi (fun z9 hz9 => ?_)
  obtain rfl : z9 = nI (i + 3) := hz9.trans (nI_add i 3)
  refine va_sld hx hb hXs hbl hbA hS (vp_in_nI (by omega) (by omega)) dL_law_1645 ?_
  have hsim := st_whyNotCollect hR (xs (nI (i + 1)).toNatClampNeg) (xs (nI (i + 2)).toNatClampNeg) (xs (nI (i + 3)).toNatClampNeg)
  have hAM : ∀ x : Nat, bA 7 qm H1.size x → s.heap.size ≤ x := fun x hx9 => hx9.elim (fun ⟨k9, h9, e9⟩ => e9 ▸ hgm k9 h9) (fun h9 => Nat.le_trans hS.1 h9)
  refine va_calli (va_runV (As := [.int (xs (nI (i + 1)).toNatClampNeg), .int (xs (nI (i + 2)).toNatClampNeg), .int (xs (nI (i + 3)).toNatClampNeg)]) (rest := []) ⟨hx, hb, hml, hown, hts⟩ (C6_whyNotCollect l D cI qm bb H1 hqm hPM hI (xs (nI (i + 1)).toNatClampNeg) (xs (nI (i + 2)).toNatClampNeg) (xs (nI (i + 3)).toNatClampNeg)) (cwV 3 hts gL_law_X6_whyNotCollect rfl rfl rfl ⟨rfl, bd_X6whyNotCollect⟩ ⟨Nat.le_of_ble_eq_true rfl, Nat.le_of_ble_eq_true rfl⟩) (bPV hk6 (va_recv hk6.1 hPM (ci := 6) (q0 := 0) rfl (wM_0 _ _ _))) rfl rfl hl.1 rfl (lv_room (Nat.le_of_ble_eq_true rfl)) dL_law_1646 ⟨by show _ ≤ 601024; omega, by show _ ≤ 7293034; omega⟩) hS (fun x _ h => hAM x h) hAM (fun y b2 t H2 locs ht _ hw2 hB2 hz2 hk2 hS => ?_)
  rw [ht] at hB2
  clear ht
  obtain rfl : y = (F6_whyNotCollect bb (xs (nI (i + 1)).toNatClampNeg) (xs (nI (i + 2)).toNatClampNeg) (xs (nI (i + 3)).toNatClampNeg)).1 := by rw [← hw2]
  obtain rfl : b2 = (F6_whyNotCollect bb (xs (nI (i + 1)).toNatClampNeg) (xs (nI (i + 2)).toNatClampNeg) (xs (nI (i + 3)).toNatClampNeg)).2 := by rw [← hw2]
  obtain ⟨hPM2, hI2⟩ := hB2
  have hPC2 := wCo_m hB1 hk2 hqq hq
  refine lv_istore (lv' := [(6, .int (F6_whyNotCollect bb (xs (nI (i + 1)).toNatClampNeg) (xs (nI (i + 2)).toNatClampNeg) (xs (nI (i + 3)).toNatClampNeg)).1), (5, .int r), (0, .ref b), (1, .ref (qc 0)), (2, .ref (qm 0)), (3, .ref (qc 23)), (4, .int (nI i))]) hx hb dL_law_1649 hl (by decide) rfl (fun ls hl => ?_)
  refine lv_aload_n hx hb dL_law_1651 rfl (lv_at hl 4 rfl) ?_
  refine bcall_Ri (va_runV (As := []) (rest := []) ⟨hx, hb, hml, hown, hts⟩ (C6_thrown l D cI qm _ _ hPM2 hI2) (cwV 0 hts gL_law_X6_thrown rfl rfl rfl ⟨rfl, bd_X6thrown⟩ ⟨Nat.le_of_ble_eq_true rfl, Nat.le_of_ble_eq_true rfl⟩) (bPV hk6 (va_recv hk6.1 hPM2 (ci := 6) (q0 := 0) rfl (wM_0 _ _ _))) rfl rfl hl.1 rfl (lv_room (Nat.le_of_ble_eq_true rfl)) dL_law_1652 ⟨by show _ ≤ 601024; omega, by show _ ≤ 7293034; omega⟩) hS (fun locs hS => ?_)
  refine lv_iload hx hb dL_law_1655 (lv_at hl 1 rfl) ?_
  refine lv_icmp_eq (tgt := 1662) hx hb dL_law_1657 (by decide) (fun _ => ?_) (fun c9 => absurd (hsim.1.trans hw.1.symm) c9)
  refine lv_iload hx hb dL_law_1662 (lv_at hl 1 rfl) ?_
  refine lv_if_ne (tgt := 1679) hx hb dL_law_1664 (by decide) (fun c9 => ?_) (fun c9 => ?_)
  · refine lv_goto (tgt := 2009) hx hb dL_law_1679 (by decide) ?_
    refine W.widen (k := C + 5) (n := S + 30) (by omega) (by omega) ?_
    exact kk _ _ _ _ _ _ (Rel_up hsim.2.2 (by omega)) hI2 hPC2 hPM2 hS (lv_sub hl [2, 3, 4, 5, 6] rfl)
  · refine lv_aload_n hx hb dL_law_1667 rfl (lv_at hl 5 rfl) ?_
    refine lv_iconst (v := 0) hx hb dL_law_1668 (by decide) ?_
    refine va_lald hx hb hKL hPC2 23 0 rfl rfl (vp_in_nI (n := 0) (by decide) (by decide)) dL_law_1669 ?_
    refine lv_iload hx hb dL_law_1670 (lv_at hl 0 rfl) ?_
    refine lv_i2l (v := ((F6_whyNotCollect bb (xs (nI (i + 1)).toNatClampNeg) (xs (nI (i + 2)).toNatClampNeg) (xs (nI (i + 3)).toNatClampNeg)).1).toInt64) hx hb dL_law_1672 rfl ?_
    refine W.lcmp hx hb dL_law_1673 ?_
    have hv0 : (F5_whyNotCollect a (xs (nI (i + 1)).toNatClampNeg) (xs (nI (i + 2)).toNatClampNeg) (xs (nI (i + 3)).toNatClampNeg)).1 = 0 := hw.1.symm.trans c9
    rw [show (0 : Int32).toNatClampNeg = 0 from by decide, lg_cmp_same ((hw.2 hv0).trans (congrArg Int32.toInt64 (hsim.2.1 hv0)))]
    refine lv_if_eq (tgt := 1679) hx hb dL_law_1674 (by decide) (fun _ => ?_) (fun h9 => absurd rfl h9)
    refine lv_goto (tgt := 2009) hx hb dL_law_1679 (by decide) ?_
    refine W.widen (k := C + 5) (n := S + 30) (by omega) (by omega) ?_
    exact kk _ _ _ _ _ _ (Rel_up hsim.2.2 (by omega)) hI2 hPC2 hPM2 hS (lv_sub hl [2, 3, 4, 5, 6] rfl)
set_option maxHeartbeats 4000000 in
set_option maxRecDepth 100000 in
theorem LC_24 {p : Program} {e : Env} {s : State} {m : MethodId} {below : List Frame} {meth : Method} {c : Code} {l : Launch} {b L : Nat} {xs : Nat → Int32} {D : va_G} {cI cO cL : ClassId} {qc qm : Nat → Nat} (hl9 : l.stackTraces = false) (C0 : lw_At p s m meth c b L xs) (hk : bK D [(cI, .int), (cO, .object RX2)] s) (hX : bXe (fun q : Nat => s.heap.size ≤ q) s s.heap) (hKL : va_K D vwCl [(cL, .long)] s) (hN : bNC s) (hq : bInj 24 qc) (hqm : bInj 7 qm) (hqq : ∀ i j : Nat, i < 24 → j < 7 → qc i ≠ qm j) (hgc : ∀ i : Nat, i < 24 → s.heap.size ≤ qc i) (hgm : ∀ j : Nat, j < 7 → s.heap.size ≤ qm j) {B : Nat} (hB : B + 2600000 < 2000000000) (hB0 : 100000 ≤ B) {a bb : bU} {g : Nat → Int64} (hR : Rel B a bb) (hI : mInv bb) {i : Nat} (hi : i + 4 ≤ L) (hL : L ≤ 2048) {H : Heap} {locs : List Loc} (hPC : va_P D vwCl (wCo cI cO cL qc a g) H) (hPM : va_P D vwCl (wM cI qm bb) H) (hS : va_S (fun q : Nat => s.heap.size ≤ q) s.heap H locs) {ls : Array Slot} (hl : lv_has ls 9 [(0, .ref b), (1, .ref (qc 0)), (2, .ref (qm 0)), (3, .ref (qc 23)), (4, .int (nI i))]) {C S : Nat} (hC : C + 5 ≤ 601024) (hSl : S + 30 ≤ 7293034) {Q : State → Prop} (kk : ∀ (a2 b2 : bU) (g2 : Nat → Int64) (H2 : Heap) (locs2 : List Loc) (ls2 : Array Slot), Rel (B + 2600000) a2 b2 → mInv b2 → va_P D vwCl (wCo cI cO cL qc a2 g2) H2 → va_P D vwCl (wM cI qm b2) H2 → va_S (fun q : Nat => s.heap.size ≤ q) s.heap H2 locs2 → lv_has ls2 9 [(0, .ref b), (1, .ref (qc 0)), (2, .ref (qm 0)), (3, .ref (qc 23)), (4, .int (nI i))] → W p l e room_1 s m #[Value.ref b] below meth c H2 locs2 (C + 5) (S + 30) Q (F0 m 2009 ls2 [])) : W p l e room_1 s m #[Value.ref b] below meth c H locs C S Q (F0 m 1682 ls []) := by
  obtain ⟨hx, hb, hr, hml, hown, hts0, hXs, hbl, hlocks, hgv⟩ := C0
  have hts : ∀ w ∈ wsL_law, w.before #[Value.ref b] s = true := fun w h => hts0 w (wsL_law_in w h)
  have hbA : ¬ (fun q : Nat => s.heap.size ≤ q) b := Nat.not_le.mpr hbl
  have hk6 : bK D [(cI, .int)] s := ⟨va_K.sub hk.1 [0] rfl, hk.2⟩
  refine lv_aload_n hx hb dL_law_1682 rfl (lv_at hl 1 rfl) ?_
  refine lv_aload_n hx hb dL_law_1683 rfl (lv_at hl 0 rfl) ?_
  refine lv_iload hx hb dL_law_1684 (lv_at hl 4 rfl) ?_
  refine lv_iconst (v := 1) hx hb dL_law_1686 (by decide) ?_
  refine lv_iadd hx hb dL_law_1687 ?_
  refine lv_topi (fun z9 hz9 => ?_)
  obtain rfl : z9 = nI (i + 1) := hz9.trans (nI_add i 1)
  refine va_sld hx hb hXs hbl hbA hS (vp_in_nI (by omega) (by omega)) dL_law_1688 ?_
  refine lv_aload_n hx hb dL_law_1689 rfl (lv_at hl 0 rfl) ?_
  refine lv_iload hx hb dL_law_1690 (lv_at hl 4 rfl) ?_
  refine lv_iconst (v := 2) hx hb dL_law_1692 (by decide) ?_
  refine lv_iadd hx hb dL_law_1693 ?_
  refine lv_topi (fun z9 hz9 => ?_)
  obtain rfl : z9 = nI (i + 2) := hz9.trans (nI_add i 2)
  refine va_sld hx hb hXs hbl hbA hS (vp_in_nI (by omega) (by omega)) dL_law_1694 ?_
  refine lv_aload_n hx hb dL_law_1695 rfl (lv_at hl 3 rfl) ?_
  have hAB : ∀ x : Nat, bA 24 qc H.size x → s.heap.size ≤ x := fun x hx9 => hx9.elim (fun ⟨k9, h9, e9⟩ => e9 ▸ hgc k9 h9) (fun h9 => Nat.le_trans hS.1 h9)
  refine va_calli (vx_runSW (As := [.ref (qc 0), .int (xs (nI (i + 1)).toNatClampNeg), .int (xs (nI (i + 2)).toNatClampNeg), .ref (qc 23)]) (rest := []) ⟨hx, hb, hml, hown, hts⟩ (CL_mostCrates l D cI cO cL qc a g H hq hl9 hPC (xs (nI (i + 1)).toNatClampNeg) (xs (nI (i + 2)).toNatClampNeg)) (vx_cwSW 4 hts gL_law_L_mostCrates rfl rfl rfl bd_LmostCrates ⟨Nat.le_of_ble_eq_true rfl, Nat.le_of_ble_eq_true rfl⟩) (bPSL hk hX hKL hN hS hAB) rfl rfl hl.1 rfl (lv_room (Nat.le_of_ble_eq_true rfl)) dL_law_1696 ⟨by show _ ≤ 601024; omega, by show _ ≤ 7293034; omega⟩) hS (fun x _ h => hAB x h) hAB (fun r g1 t H1 locs ht _ hw hB1 hz1 hk1 hS => ?_)
  rw [ht] at hB1
  clear ht
  have hPM := wM_k hPM hk1 hqq hqm
  refine W.widen (k := C + 5) (n := S + 30) (by omega) (by omega) ?_
  refine lv_istore (lv' := [(5, .int r), (0, .ref b), (1, .ref (qc 0)), (2, .ref (qm 0)), (3, .ref (qc 23)), (4, .int (nI i))]) hx hb dL_law_1699 hl (by decide) rfl (fun ls hl => ?_)
  refine lv_aload_n hx hb dL_law_1701 rfl (lv_at hl 3 rfl) ?_
  refine lv_aload_n hx hb dL_law_1702 rfl (lv_at hl 1 rfl) ?_
  refine lv_iload hx hb dL_law_1703 (lv_at hl 5 rfl) ?_
  refine lv_iconst (v := 1) hx hb dL_law_1705 (by decide) ?_
  refine lv_iadd hx hb dL_law_1706 ?_
  refine lv_topi (fun z9 hz9 => ?_)
  obtain rfl : z9 = nI (i + 1) := hz9.trans (nI_add i 1)
  refine va_sld hx hb hXs hbl hbA hS (vp_in_nI (by omega) (by omega)) dL_law_1707 ?_
  refine lv_aload_n hx hb dL_law_1708 rfl (lv_at hl 1 rfl) ?_
  refine lv_iload hx hb dL_law_1709 (lv_at hl 5 rfl) ?_
  refine lv_iconst (v := 2) hx hb dL_law_1711 (by decide) ?_
  refine lv_iadd hx hb dL_law_1712 ?_
  refine lv_topi (fun z9 hz9 => ?_)
  obtain rfl : z9 = nI (i + 2) := hz9.trans (nI_add i 2)
  refine va_sld hx hb hXs hbl hbA hS (vp_in_nI (by omega) (by omega)) dL_law_1713 ?_
  have hsim := st_mostCrates (by omega) hR (xs (nI (i + 1)).toNatClampNeg) (xs (nI (i + 2)).toNatClampNeg)
  have hAM : ∀ x : Nat, bA 7 qm H1.size x → s.heap.size ≤ x := fun x hx9 => hx9.elim (fun ⟨k9, h9, e9⟩ => e9 ▸ hgm k9 h9) (fun h9 => Nat.le_trans hS.1 h9)
  refine va_calli (va_runV (As := [.int (xs (nI (i + 1)).toNatClampNeg), .int (xs (nI (i + 2)).toNatClampNeg)]) (rest := []) ⟨hx, hb, hml, hown, hts⟩ (C6_mostCrates l D cI qm bb H1 hqm hPM hI (xs (nI (i + 1)).toNatClampNeg) (xs (nI (i + 2)).toNatClampNeg)) (cwV 2 hts gL_law_X6_mostCrates rfl rfl rfl ⟨rfl, bd_X6mostCrates⟩ ⟨Nat.le_of_ble_eq_true rfl, Nat.le_of_ble_eq_true rfl⟩) (bPV hk6 (va_recv hk6.1 hPM (ci := 6) (q0 := 0) rfl (wM_0 _ _ _))) rfl rfl hl.1 rfl (lv_room (Nat.le_of_ble_eq_true rfl)) dL_law_1714 ⟨by show _ ≤ 601024; omega, by show _ ≤ 7293034; omega⟩) hS (fun x _ h => hAM x h) hAM (fun y b2 t H2 locs ht _ hw2 hB2 hz2 hk2 hS => ?_)
  rw [ht] at hB2
  clear ht
  obtain rfl : y = (F6_mostCrates bb (xs (nI (i + 1)).toNatClampNeg) (xs (nI (i + 2)).toNatClampNeg)).1 := by rw [← hw2]
  obtain rfl : b2 = (F6_mostCrates bb (xs (nI (i + 1)).toNatClampNeg) (xs (nI (i + 2)).toNatClampNeg)).2 := by rw [← hw2]
  obtain ⟨hPM2, hI2⟩ := hB2
  have hPC2 := wCo_m hB1 hk2 hqq hq
  refine lv_istore (lv' := [(6, .int (F6_mostCrates bb (xs (nI (i + 1)).toNatClampNeg) (xs (nI (i + 2)).toNatClampNeg)).1), (5, .int r), (0, .ref b), (1, .ref (qc 0)), (2, .ref (qm 0)), (3, .ref (qc 23)), (4, .int (nI i))]) hx hb dL_law_1717 hl (by decide) rfl (fun ls hl => ?_)
  refine lv_aload_n hx hb dL_law_1719 rfl (lv_at hl 4 rfl) ?_
  refine bcall_Ri (va_runV (As := []) (rest := []) ⟨hx, hb, hml, hown, hts⟩ (C6_thrown l D cI qm _ _ hPM2 hI2) (cwV 0 hts gL_law_X6_thrown rfl rfl rfl ⟨rfl, bd_X6thrown⟩ ⟨Nat.le_of_ble_eq_true rfl, Nat.le_of_ble_eq_true rfl⟩) (bPV hk6 (va_recv hk6.1 hPM2 (ci := 6) (q0 := 0) rfl (wM_0 _ _ _))) rfl rfl hl.1 rfl (lv_room (Nat.le_of_ble_eq_true rfl)) dL_law_1720 ⟨by show _ ≤ 601024; omega, by show _ ≤ 7293034; omega⟩) hS (fun locs hS => ?_)
  refine lv_iload hx hb dL_law_1723 (lv_at hl 1 rfl) ?_
  refine lv_icmp_eq (tgt := 1730) hx hb dL_law_1725 (by decide) (fun _ => ?_) (fun c9 => absurd (hsim.1.trans hw.1.symm) c9)
  refine lv_iload hx hb dL_law_1730 (lv_at hl 1 rfl) ?_
  refine lv_if_ne (tgt := 1747) hx hb dL_law_1732 (by decide) (fun c9 => ?_) (fun c9 => ?_)
  · refine lv_goto (tgt := 2009) hx hb dL_law_1747 (by decide) ?_
    refine W.widen (k := C + 5) (n := S + 30) (by omega) (by omega) ?_
    exact kk _ _ _ _ _ _ (Rel_up hsim.2.2 (by omega)) hI2 hPC2 hPM2 hS (lv_sub hl [2, 3, 4, 5, 6] rfl)
  · refine lv_aload_n hx hb dL_law_1735 rfl (lv_at hl 5 rfl) ?_
    refine lv_iconst (v := 0) hx hb dL_law_1736 (by decide) ?_
    refine va_lald hx hb hKL hPC2 23 0 rfl rfl (vp_in_nI (n := 0) (by decide) (by decide)) dL_law_1737 ?_
    refine lv_iload hx hb dL_law_1738 (lv_at hl 0 rfl) ?_
    refine lv_i2l (v := ((F6_mostCrates bb (xs (nI (i + 1)).toNatClampNeg) (xs (nI (i + 2)).toNatClampNeg)).1).toInt64) hx hb dL_law_1740 rfl ?_
    refine W.lcmp hx hb dL_law_1741 ?_
    have hv0 : (F5_mostCrates a (xs (nI (i + 1)).toNatClampNeg) (xs (nI (i + 2)).toNatClampNeg)).1 = 0 := hw.1.symm.trans c9
    rw [show (0 : Int32).toNatClampNeg = 0 from by decide, lg_cmp_same ((hw.2 hv0).trans (congrArg Int32.toInt64 (hsim.2.1 hv0)))]
    refine lv_if_eq (tgt := 1747) hx hb dL_law_1742 (by decide) (fun _ => ?_) (fun h9 => absurd rfl h9)
    refine lv_goto (tgt := 2009) hx hb dL_law_1747 (by decide) ?_
    refine W.widen (k := C + 5) (n := S + 30) (by omega) (by omega) ?_
    exact kk _ _ _ _ _ _ (Rel_up hsim.2.2 (by omega)) hI2 hPC2 hPM2 hS (lv_sub hl [2, 3, 4, 5, 6] rfl)
set_option maxHeartbeats 4000000 in
set_option maxRecDepth 100000 in
theorem LC_25 {p : Program} {e : Env} {s : State} {m : MethodId} {below : List Frame} {meth : Method} {c : Code} {l : Launch} {b L : Nat} {xs : Nat → Int32} {D : va_G} {cI cO cL : ClassId} {qc qm : Nat → Nat} (hl9 : l.stackTraces = false) (C0 : lw_At p s m meth c b L xs) (hk : bK D [(cI, .int), (cO, .object RX2)] s) (hX : bXe (fun q : Nat => s.heap.size ≤ q) s s.heap) (hKL : va_K D vwCl [(cL, .long)] s) (hN : bNC s) (hq : bInj 24 qc) (hqm : bInj 7 qm) (hqq : ∀ i j : Nat, i < 24 → j < 7 → qc i ≠ qm j) (hgc : ∀ i : Nat, i < 24 → s.heap.size ≤ qc i) (hgm : ∀ j : Nat, j < 7 → s.heap.size ≤ qm j) {B : Nat} (hB : B + 2600000 < 2000000000) (hB0 : 100000 ≤ B) {a bb : bU} {g : Nat → Int64} (hR : Rel B a bb) (hI : mInv bb) {i : Nat} (hi : i + 4 ≤ L) (hL : L ≤ 2048) {H : Heap} {locs : List Loc} (hPC : va_P D vwCl (wCo cI cO cL qc a g) H) (hPM : va_P D vwCl (wM cI qm bb) H) (hS : va_S (fun q : Nat => s.heap.size ≤ q) s.heap H locs) {ls : Array Slot} (hl : lv_has ls 9 [(0, .ref b), (1, .ref (qc 0)), (2, .ref (qm 0)), (3, .ref (qc 23)), (4, .int (nI i))]) {C S : Nat} (hC : C + 5 ≤ 601024) (hSl : S + 30 ≤ 7293034) {Q : State → Prop} (kk : ∀ (a2 b2 : bU) (g2 : Nat → Int64) (H2 : Heap) (locs2 : List Loc) (ls2 : Array Slot), Rel (B + 2600000) a2 b2 → mInv b2 → va_P D vwCl (wCo cI cO cL qc a2 g2) H2 → va_P D vwCl (wM cI qm b2) H2 → va_S (fun q : Nat => s.heap.size ≤ q) s.heap H2 locs2 → lv_has ls2 9 [(0, .ref b), (1, .ref (qc 0)), (2, .ref (qm 0)), (3, .ref (qc 23)), (4, .int (nI i))] → W p l e room_1 s m #[Value.ref b] below meth c H2 locs2 (C + 5) (S + 30) Q (F0 m 2009 ls2 [])) : W p l e room_1 s m #[Value.ref b] below meth c H locs C S Q (F0 m 1750 ls []) := by
  obtain ⟨hx, hb, hr, hml, hown, hts0, hXs, hbl, hlocks, hgv⟩ := C0
  have hts : ∀ w ∈ wsL_law, w.before #[Value.ref b] s = true := fun w h => hts0 w (wsL_law_in w h)
  have hbA : ¬ (fun q : Nat => s.heap.size ≤ q) b := Nat.not_le.mpr hbl
  have hk6 : bK D [(cI, .int)] s := ⟨va_K.sub hk.1 [0] rfl, hk.2⟩
  refine lv_aload_n hx hb dL_law_1750 rfl (lv_at hl 1 rfl) ?_
  refine lv_aload_n hx hb dL_law_1751 rfl (lv_at hl 0 rfl) ?_
  refine lv_iload hx hb dL_law_1752 (lv_at hl 4 rfl) ?_
  refine lv_iconst (v := 1) hx hb dL_law_1754 (by decide) ?_
  refine lv_iadd hx hb dL_law_1755 ?_
  refine lv_topi (fun z9 hz9 => ?_)
  obtain rfl : z9 = nI (i + 1) := hz9.trans (nI_add i 1)
  refine va_sld hx hb hXs hbl hbA hS (vp_in_nI (by omega) (by omega)) dL_law_1756 ?_
  refine lv_aload_n hx hb dL_law_1757 rfl (lv_at hl 0 rfl) ?_
  refine lv_iload hx hb dL_law_1758 (lv_at hl 4 rfl) ?_
  refine lv_iconst (v := 2) hx hb dL_law_1760 (by decide) ?_
  refine lv_iadd hx hb dL_law_1761 ?_
  refine lv_topi (fun z9 hz9 => ?_)
  obtain rfl : z9 = nI (i + 2) := hz9.trans (nI_add i 2)
  refine va_sld hx hb hXs hbl hbA hS (vp_in_nI (by omega) (by omega)) dL_law_1762 ?_
  refine lv_aload_n hx hb dL_law_1763 rfl (lv_at hl 0 rfl) ?_
  refine lv_iload hx hb dL_law_1764 (lv_at hl 4 rfl) ?_
  refine lv_iconst (v := 3) hx hb dL_law_1766 (by decide) ?_
  refine lv_iadd hx hb dL_law_1767 ?_
  refine lv_topi (fun z9 hz9 => ?_)
  obtain rfl : z9 = nI (i + 3) := hz9.trans (nI_add i 3)
  refine va_sld hx hb hXs hbl hbA hS (vp_in_nI (by omega) (by omega)) dL_law_1768 ?_
  refine lv_aload_n hx hb dL_law_1769 rfl (lv_at hl 3 rfl) ?_
  have hAB : ∀ x : Nat, bA 24 qc H.size x → s.heap.size ≤ x := fun x hx9 => hx9.elim (fun ⟨k9, h9, e9⟩ => e9 ▸ hgc k9 h9) (fun h9 => Nat.le_trans hS.1 h9)
  refine va_calli (vx_runSW (As := [.ref (qc 0), .int (xs (nI (i + 1)).toNatClampNeg), .int (xs (nI (i + 2)).toNatClampNeg), .int (xs (nI (i + 3)).toNatClampNeg), .ref (qc 23)]) (rest := []) ⟨hx, hb, hml, hown, hts⟩ (CL_collected l D cI cO cL qc a g H hq hl9 hPC (xs (nI (i + 1)).toNatClampNeg) (xs (nI (i + 2)).toNatClampNeg) (xs (nI (i + 3)).toNatClampNeg)) (vx_cwSW 5 hts gL_law_L_collected rfl rfl rfl bd_Lcollected ⟨Nat.le_of_ble_eq_true rfl, Nat.le_of_ble_eq_true rfl⟩) (bPSL hk hX hKL hN hS hAB) rfl rfl hl.1 rfl (lv_room (Nat.le_of_ble_eq_true rfl)) dL_law_1770 ⟨by show _ ≤ 601024; omega, by show _ ≤ 7293034; omega⟩) hS (fun x _ h => hAB x h) hAB (fun r g1 t H1 locs ht _ hw hB1 hz1 hk1 hS => ?_)
  rw [ht] at hB1
  clear ht
  have hPM := wM_k hPM hk1 hqq hqm
  refine W.widen (k := C + 5) (n := S + 30) (by omega) (by omega) ?_
  refine lv_istore (lv' := [(5, .int r), (0, .ref b), (1, .ref (qc 0)), (2, .ref (qm 0)), (3, .ref (qc 23)), (4, .int (nI i))]) hx hb dL_law_1773 hl (by decide) rfl (fun ls hl => ?_)
  refine lv_aload_n hx hb dL_law_1775 rfl (lv_at hl 3 rfl) ?_
  refine lv_aload_n hx hb dL_law_1776 rfl (lv_at hl 1 rfl) ?_
  refine lv_iload hx hb dL_law_1777 (lv_at hl 5 rfl) ?_
  refine lv_iconst (v := 1) hx hb dL_law_1779 (by decide) ?_
  refine lv_iadd hx hb dL_law_1780 ?_
  refine lv_topi (fun z9 hz9 => ?_)
  obtain rfl : z9 = nI (i + 1) := hz9.trans (nI_add i 1)
  refine va_sld hx hb hXs hbl hbA hS (vp_in_nI (by omega) (by omega)) dL_law_1781 ?_
  refine lv_aload_n hx hb dL_law_1782 rfl (lv_at hl 1 rfl) ?_
  refine lv_iload hx hb dL_law_1783 (lv_at hl 5 rfl) ?_
  refine lv_iconst (v := 2) hx hb dL_law_1785 (by decide) ?_
  refine lv_iadd hx hb dL_law_1786 ?_
  refine lv_topi (fun z9 hz9 => ?_)
  obtain rfl : z9 = nI (i + 2) := hz9.trans (nI_add i 2)
  refine va_sld hx hb hXs hbl hbA hS (vp_in_nI (by omega) (by omega)) dL_law_1787 ?_
  refine lv_aload_n hx hb dL_law_1788 rfl (lv_at hl 1 rfl) ?_
  refine lv_iload hx hb dL_law_1789 (lv_at hl 5 rfl) ?_
  refine lv_iconst (v := 3) hx hb dL_law_1791 (by decide) ?_
  refine lv_iadd hx hb dL_law_1792 ?_
  refine lv_topi (fun z9 hz9 => ?_)
  obtain rfl : z9 = nI (i + 3) := hz9.trans (nI_add i 3)
  refine va_sld hx hb hXs hbl hbA hS (vp_in_nI (by omega) (by omega)) dL_law_1793 ?_
  have hsim := st_collected (by omega) hR (xs (nI (i + 1)).toNatClampNeg) (xs (nI (i + 2)).toNatClampNeg) (xs (nI (i + 3)).toNatClampNeg)
  have hAM : ∀ x : Nat, bA 7 qm H1.size x → s.heap.size ≤ x := fun x hx9 => hx9.elim (fun ⟨k9, h9, e9⟩ => e9 ▸ hgm k9 h9) (fun h9 => Nat.le_trans hS.1 h9)
  refine va_calli (va_runV (As := [.int (xs (nI (i + 1)).toNatClampNeg), .int (xs (nI (i + 2)).toNatClampNeg), .int (xs (nI (i + 3)).toNatClampNeg)]) (rest := []) ⟨hx, hb, hml, hown, hts⟩ (C6_collected l D cI qm bb H1 hqm hPM hI (xs (nI (i + 1)).toNatClampNeg) (xs (nI (i + 2)).toNatClampNeg) (xs (nI (i + 3)).toNatClampNeg)) (cwV 3 hts gL_law_X6_collected rfl rfl rfl ⟨rfl, bd_X6collected⟩ ⟨Nat.le_of_ble_eq_true rfl, Nat.le_of_ble_eq_true rfl⟩) (bPV hk6 (va_recv hk6.1 hPM (ci := 6) (q0 := 0) rfl (wM_0 _ _ _))) rfl rfl hl.1 rfl (lv_room (Nat.le_of_ble_eq_true rfl)) dL_law_1794 ⟨by show _ ≤ 601024; omega, by show _ ≤ 7293034; omega⟩) hS (fun x _ h => hAM x h) hAM (fun y b2 t H2 locs ht _ hw2 hB2 hz2 hk2 hS => ?_)
  rw [ht] at hB2
  clear ht
  obtain rfl : y = (F6_collected bb (xs (nI (i + 1)).toNatClampNeg) (xs (nI (i + 2)).toNatClampNeg) (xs (nI (i + 3)).toNatClampNeg)).1 := by rw [← hw2]
  obtain rfl : b2 = (F6_collected bb (xs (nI (i + 1)).toNatClampNeg) (xs (nI (i + 2)).toNatClampNeg) (xs (nI (i + 3)).toNatClampNeg)).2 := by rw [← hw2]
  obtain ⟨hPM2, hI2⟩ := hB2
  have hPC2 := wCo_m hB1 hk2 hqq hq
  refine lv_istore (lv' := [(6, .int (F6_collected bb (xs (nI (i + 1)).toNatClampNeg) (xs (nI (i + 2)).toNatClampNeg) (xs (nI (i + 3)).toNatClampNeg)).1), (5, .int r), (0, .ref b), (1, .ref (qc 0)), (2, .ref (qm 0)), (3, .ref (qc 23)), (4, .int (nI i))]) hx hb dL_law_1797 hl (by decide) rfl (fun ls hl => ?_)
  refine lv_aload_n hx hb dL_law_1799 rfl (lv_at hl 4 rfl) ?_
  refine bcall_Ri (va_runV (As := []) (rest := []) ⟨hx, hb, hml, hown, hts⟩ (C6_thrown l D cI qm _ _ hPM2 hI2) (cwV 0 hts gL_law_X6_thrown rfl rfl rfl ⟨rfl, bd_X6thrown⟩ ⟨Nat.le_of_ble_eq_true rfl, Nat.le_of_ble_eq_true rfl⟩) (bPV hk6 (va_recv hk6.1 hPM2 (ci := 6) (q0 := 0) rfl (wM_0 _ _ _))) rfl rfl hl.1 rfl (lv_room (Nat.le_of_ble_eq_true rfl)) dL_law_1800 ⟨by show _ ≤ 601024; omega, by show _ ≤ 7293034; omega⟩) hS (fun locs hS => ?_)
  refine lv_iload hx hb dL_law_1803 (lv_at hl 1 rfl) ?_
  refine lv_icmp_eq (tgt := 1810) hx hb dL_law_1805 (by decide) (fun _ => ?_) (fun c9 => absurd (hsim.1.trans hw.1.symm) c9)
  refine lv_iload hx hb dL_law_1810 (lv_at hl 1 rfl) ?_
  refine lv_if_ne (tgt := 1827) hx hb dL_law_1812 (by decide) (fun c9 => ?_) (fun c9 => ?_)
  · refine lv_goto (tgt := 2009) hx hb dL_law_1827 (by decide) ?_
    refine W.widen (k := C + 5) (n := S + 30) (by omega) (by omega) ?_
    exact kk _ _ _ _ _ _ (Rel_up hsim.2.2 (by omega)) hI2 hPC2 hPM2 hS (lv_sub hl [2, 3, 4, 5, 6] rfl)
  · refine lv_aload_n hx hb dL_law_1815 rfl (lv_at hl 5 rfl) ?_
    refine lv_iconst (v := 0) hx hb dL_law_1816 (by decide) ?_
    refine va_lald hx hb hKL hPC2 23 0 rfl rfl (vp_in_nI (n := 0) (by decide) (by decide)) dL_law_1817 ?_
    refine lv_iload hx hb dL_law_1818 (lv_at hl 0 rfl) ?_
    refine lv_i2l (v := ((F6_collected bb (xs (nI (i + 1)).toNatClampNeg) (xs (nI (i + 2)).toNatClampNeg) (xs (nI (i + 3)).toNatClampNeg)).1).toInt64) hx hb dL_law_1820 rfl ?_
    refine W.lcmp hx hb dL_law_1821 ?_
    have hv0 : (F5_collected a (xs (nI (i + 1)).toNatClampNeg) (xs (nI (i + 2)).toNatClampNeg) (xs (nI (i + 3)).toNatClampNeg)).1 = 0 := hw.1.symm.trans c9
    rw [show (0 : Int32).toNatClampNeg = 0 from by decide, lg_cmp_same ((hw.2 hv0).trans (congrArg Int32.toInt64 (hsim.2.1 hv0)))]
    refine lv_if_eq (tgt := 1827) hx hb dL_law_1822 (by decide) (fun _ => ?_) (fun h9 => absurd rfl h9)
    refine lv_goto (tgt := 2009) hx hb dL_law_1827 (by decide) ?_
    refine W.widen (k := C + 5) (n := S + 30) (by omega) (by omega) ?_
    exact kk _ _ _ _ _ _ (Rel_up hsim.2.2 (by omega)) hI2 hPC2 hPM2 hS (lv_sub hl [2, 3, 4, 5, 6] rfl)
set_option maxHeartbeats 4000000 in
set_option maxRecDepth 100000 in
theorem LC_26 {p : Program} {e : Env} {s : State} {m : MethodId} {below : List Frame} {meth : Method} {c : Code} {l : Launch} {b L : Nat} {xs : Nat → Int32} {D : va_G} {cI cO cL : ClassId} {qc qm : Nat → Nat} (hl9 : l.stackTraces = false) (C0 : lw_At p s m meth c b L xs) (hk : bK D [(cI, .int), (cO, .object RX2)] s) (hX : bXe (fun q : Nat => s.heap.size ≤ q) s s.heap) (hKL : va_K D vwCl [(cL, .long)] s) (hN : bNC s) (hq : bInj 24 qc) (hqm : bInj 7 qm) (hqq : ∀ i j : Nat, i < 24 → j < 7 → qc i ≠ qm j) (hgc : ∀ i : Nat, i < 24 → s.heap.size ≤ qc i) (hgm : ∀ j : Nat, j < 7 → s.heap.size ≤ qm j) {B : Nat} (hB : B + 2600000 < 2000000000) (hB0 : 100000 ≤ B) {a bb : bU} {g : Nat → Int64} (hR : Rel B a bb) (hI : mInv bb) {i : Nat} (hi : i + 4 ≤ L) (hL : L ≤ 2048) {H : Heap} {locs : List Loc} (hPC : va_P D vwCl (wCo cI cO cL qc a g) H) (hPM : va_P D vwCl (wM cI qm bb) H) (hS : va_S (fun q : Nat => s.heap.size ≤ q) s.heap H locs) {ls : Array Slot} (hl : lv_has ls 9 [(0, .ref b), (1, .ref (qc 0)), (2, .ref (qm 0)), (3, .ref (qc 23)), (4, .int (nI i))]) {C S : Nat} (hC : C + 5 ≤ 601024) (hSl : S + 30 ≤ 7293034) {Q : State → Prop} (kk : ∀ (a2 b2 : bU) (g2 : Nat → Int64) (H2 : Heap) (locs2 : List Loc) (ls2 : Array Slot), Rel (B + 2600000) a2 b2 → mInv b2 → va_P D vwCl (wCo cI cO cL qc a2 g2) H2 → va_P D vwCl (wM cI qm b2) H2 → va_S (fun q : Nat => s.heap.size ≤ q) s.heap H2 locs2 → lv_has ls2 9 [(0, .ref b), (1, .ref (qc 0)), (2, .ref (qm 0)), (3, .ref (qc 23)), (4, .int (nI i))] → W p l e room_1 s m #[Value.ref b] below meth c H2 locs2 (C + 5) (S + 30) Q (F0 m 2009 ls2 [])) : W p l e room_1 s m #[Value.ref b] below meth c H locs C S Q (F0 m 1830 ls []) := by
  obtain ⟨hx, hb, hr, hml, hown, hts0, hXs, hbl, hlocks, hgv⟩ := C0
  have hts : ∀ w ∈ wsL_law, w.before #[Value.ref b] s = true := fun w h => hts0 w (wsL_law_in w h)
  have hbA : ¬ (fun q : Nat => s.heap.size ≤ q) b := Nat.not_le.mpr hbl
  have hk6 : bK D [(cI, .int)] s := ⟨va_K.sub hk.1 [0] rfl, hk.2⟩
  refine lv_aload_n hx hb dL_law_1830 rfl (lv_at hl 1 rfl) ?_
  refine lv_aload_n hx hb dL_law_1831 rfl (lv_at hl 0 rfl) ?_
  refine lv_iload hx hb dL_law_1832 (lv_at hl 4 rfl) ?_
  refine lv_iconst (v := 1) hx hb dL_law_1834 (by decide) ?_
  refine lv_iadd hx hb dL_law_1835 ?_
  refine lv_topi (fun z9 hz9 => ?_)
  obtain rfl : z9 = nI (i + 1) := hz9.trans (nI_add i 1)
  refine va_sld hx hb hXs hbl hbA hS (vp_in_nI (by omega) (by omega)) dL_law_1836 ?_
  refine lv_aload_n hx hb dL_law_1837 rfl (lv_at hl 0 rfl) ?_
  refine lv_iload hx hb dL_law_1838 (lv_at hl 4 rfl) ?_
  refine lv_iconst (v := 2) hx hb dL_law_1840 (by decide) ?_
  refine lv_iadd hx hb dL_law_1841 ?_
  refine lv_topi (fun z9 hz9 => ?_)
  obtain rfl : z9 = nI (i + 2) := hz9.trans (nI_add i 2)
  refine va_sld hx hb hXs hbl hbA hS (vp_in_nI (by omega) (by omega)) dL_law_1842 ?_
  refine lv_aload_n hx hb dL_law_1843 rfl (lv_at hl 3 rfl) ?_
  have hAB : ∀ x : Nat, bA 24 qc H.size x → s.heap.size ≤ x := fun x hx9 => hx9.elim (fun ⟨k9, h9, e9⟩ => e9 ▸ hgc k9 h9) (fun h9 => Nat.le_trans hS.1 h9)
  refine va_calli (vx_runSW (As := [.ref (qc 0), .int (xs (nI (i + 1)).toNatClampNeg), .int (xs (nI (i + 2)).toNatClampNeg), .ref (qc 23)]) (rest := []) ⟨hx, hb, hml, hown, hts⟩ (CL_filled l D cI cO cL qc a g H hq hl9 hPC (xs (nI (i + 1)).toNatClampNeg) (xs (nI (i + 2)).toNatClampNeg)) (vx_cwSW 4 hts gL_law_L_filled rfl rfl rfl bd_Lfilled ⟨Nat.le_of_ble_eq_true rfl, Nat.le_of_ble_eq_true rfl⟩) (bPSL hk hX hKL hN hS hAB) rfl rfl hl.1 rfl (lv_room (Nat.le_of_ble_eq_true rfl)) dL_law_1844 ⟨by show _ ≤ 601024; omega, by show _ ≤ 7293034; omega⟩) hS (fun x _ h => hAB x h) hAB (fun r g1 t H1 locs ht _ hw hB1 hz1 hk1 hS => ?_)
  rw [ht] at hB1
  clear ht
  have hPM := wM_k hPM hk1 hqq hqm
  refine W.widen (k := C + 5) (n := S + 30) (by omega) (by omega) ?_
  refine lv_istore (lv' := [(5, .int r), (0, .ref b), (1, .ref (qc 0)), (2, .ref (qm 0)), (3, .ref (qc 23)), (4, .int (nI i))]) hx hb dL_law_1847 hl (by decide) rfl (fun ls hl => ?_)
  refine lv_aload_n hx hb dL_law_1849 rfl (lv_at hl 3 rfl) ?_
  refine lv_aload_n hx hb dL_law_1850 rfl (lv_at hl 1 rfl) ?_
  refine lv_iload hx hb dL_law_1851 (lv_at hl 5 rfl) ?_
  refine lv_iconst (v := 1) hx hb dL_law_1853 (by decide) ?_
  refine lv_iadd hx hb dL_law_1854 ?_
  refine lv_topi (fun z9 hz9 => ?_)
  obtain rfl : z9 = nI (i + 1) := hz9.trans (nI_add i 1)
  refine va_sld hx hb hXs hbl hbA hS (vp_in_nI (by omega) (by omega)) dL_law_1855 ?_
  refine lv_aload_n hx hb dL_law_1856 rfl (lv_at hl 1 rfl) ?_
  refine lv_iload hx hb dL_law_1857 (lv_at hl 5 rfl) ?_
  refine lv_iconst (v := 2) hx hb dL_law_1859 (by decide) ?_
  refine lv_iadd hx hb dL_law_1860 ?_
  refine lv_topi (fun z9 hz9 => ?_)
  obtain rfl : z9 = nI (i + 2) := hz9.trans (nI_add i 2)
  refine va_sld hx hb hXs hbl hbA hS (vp_in_nI (by omega) (by omega)) dL_law_1861 ?_
  have hsim := st_filled (by omega) hR (xs (nI (i + 1)).toNatClampNeg) (xs (nI (i + 2)).toNatClampNeg)
  have hAM : ∀ x : Nat, bA 7 qm H1.size x → s.heap.size ≤ x := fun x hx9 => hx9.elim (fun ⟨k9, h9, e9⟩ => e9 ▸ hgm k9 h9) (fun h9 => Nat.le_trans hS.1 h9)
  refine va_calli (va_runV (As := [.int (xs (nI (i + 1)).toNatClampNeg), .int (xs (nI (i + 2)).toNatClampNeg)]) (rest := []) ⟨hx, hb, hml, hown, hts⟩ (C6_filled l D cI qm bb H1 hqm hPM hI (xs (nI (i + 1)).toNatClampNeg) (xs (nI (i + 2)).toNatClampNeg)) (cwV 2 hts gL_law_X6_filled rfl rfl rfl ⟨rfl, bd_X6filled⟩ ⟨Nat.le_of_ble_eq_true rfl, Nat.le_of_ble_eq_true rfl⟩) (bPV hk6 (va_recv hk6.1 hPM (ci := 6) (q0 := 0) rfl (wM_0 _ _ _))) rfl rfl hl.1 rfl (lv_room (Nat.le_of_ble_eq_true rfl)) dL_law_1862 ⟨by show _ ≤ 601024; omega, by show _ ≤ 7293034; omega⟩) hS (fun x _ h => hAM x h) hAM (fun y b2 t H2 locs ht _ hw2 hB2 hz2 hk2 hS => ?_)
  rw [ht] at hB2
  clear ht
  obtain rfl : y = (F6_filled bb (xs (nI (i + 1)).toNatClampNeg) (xs (nI (i + 2)).toNatClampNeg)).1 := by rw [← hw2]
  obtain rfl : b2 = (F6_filled bb (xs (nI (i + 1)).toNatClampNeg) (xs (nI (i + 2)).toNatClampNeg)).2 := by rw [← hw2]
  obtain ⟨hPM2, hI2⟩ := hB2
  have hPC2 := wCo_m hB1 hk2 hqq hq
  refine lv_istore (lv' := [(6, .int (F6_filled bb (xs (nI (i + 1)).toNatClampNeg) (xs (nI (i + 2)).toNatClampNeg)).1), (5, .int r), (0, .ref b), (1, .ref (qc 0)), (2, .ref (qm 0)), (3, .ref (qc 23)), (4, .int (nI i))]) hx hb dL_law_1865 hl (by decide) rfl (fun ls hl => ?_)
  refine lv_aload_n hx hb dL_law_1867 rfl (lv_at hl 4 rfl) ?_
  refine bcall_Ri (va_runV (As := []) (rest := []) ⟨hx, hb, hml, hown, hts⟩ (C6_thrown l D cI qm _ _ hPM2 hI2) (cwV 0 hts gL_law_X6_thrown rfl rfl rfl ⟨rfl, bd_X6thrown⟩ ⟨Nat.le_of_ble_eq_true rfl, Nat.le_of_ble_eq_true rfl⟩) (bPV hk6 (va_recv hk6.1 hPM2 (ci := 6) (q0 := 0) rfl (wM_0 _ _ _))) rfl rfl hl.1 rfl (lv_room (Nat.le_of_ble_eq_true rfl)) dL_law_1868 ⟨by show _ ≤ 601024; omega, by show _ ≤ 7293034; omega⟩) hS (fun locs hS => ?_)
  refine lv_iload hx hb dL_law_1871 (lv_at hl 1 rfl) ?_
  refine lv_icmp_eq (tgt := 1878) hx hb dL_law_1873 (by decide) (fun _ => ?_) (fun c9 => absurd (hsim.1.trans hw.1.symm) c9)
  refine lv_iload hx hb dL_law_1878 (lv_at hl 1 rfl) ?_
  refine lv_if_ne (tgt := 1895) hx hb dL_law_1880 (by decide) (fun c9 => ?_) (fun c9 => ?_)
  · refine lv_goto (tgt := 2009) hx hb dL_law_1895 (by decide) ?_
    refine W.widen (k := C + 5) (n := S + 30) (by omega) (by omega) ?_
    exact kk _ _ _ _ _ _ (Rel_up hsim.2.2 (by omega)) hI2 hPC2 hPM2 hS (lv_sub hl [2, 3, 4, 5, 6] rfl)
  · refine lv_aload_n hx hb dL_law_1883 rfl (lv_at hl 5 rfl) ?_
    refine lv_iconst (v := 0) hx hb dL_law_1884 (by decide) ?_
    refine va_lald hx hb hKL hPC2 23 0 rfl rfl (vp_in_nI (n := 0) (by decide) (by decide)) dL_law_1885 ?_
    refine lv_iload hx hb dL_law_1886 (lv_at hl 0 rfl) ?_
    refine lv_i2l (v := ((F6_filled bb (xs (nI (i + 1)).toNatClampNeg) (xs (nI (i + 2)).toNatClampNeg)).1).toInt64) hx hb dL_law_1888 rfl ?_
    refine W.lcmp hx hb dL_law_1889 ?_
    have hv0 : (F5_filled a (xs (nI (i + 1)).toNatClampNeg) (xs (nI (i + 2)).toNatClampNeg)).1 = 0 := hw.1.symm.trans c9
    rw [show (0 : Int32).toNatClampNeg = 0 from by decide, lg_cmp_same ((hw.2 hv0).trans (congrArg Int32.toInt64 (hsim.2.1 hv0)))]
    refine lv_if_eq (tgt := 1895) hx hb dL_law_1890 (by decide) (fun _ => ?_) (fun h9 => absurd rfl h9)
    refine lv_goto (tgt := 2009) hx hb dL_law_1895 (by decide) ?_
    refine W.widen (k := C + 5) (n := S + 30) (by omega) (by omega) ?_
    exact kk _ _ _ _ _ _ (Rel_up hsim.2.2 (by omega)) hI2 hPC2 hPM2 hS (lv_sub hl [2, 3, 4, 5, 6] rfl)
set_option maxHeartbeats 4000000 in
set_option maxRecDepth 100000 in
theorem LC_27 {p : Program} {e : Env} {s : State} {m : MethodId} {below : List Frame} {meth : Method} {c : Code} {l : Launch} {b L : Nat} {xs : Nat → Int32} {D : va_G} {cI cO cL : ClassId} {qc qm : Nat → Nat} (hl9 : l.stackTraces = false) (C0 : lw_At p s m meth c b L xs) (hk : bK D [(cI, .int), (cO, .object RX2)] s) (hX : bXe (fun q : Nat => s.heap.size ≤ q) s s.heap) (hKL : va_K D vwCl [(cL, .long)] s) (hN : bNC s) (hq : bInj 24 qc) (hqm : bInj 7 qm) (hqq : ∀ i j : Nat, i < 24 → j < 7 → qc i ≠ qm j) (hgc : ∀ i : Nat, i < 24 → s.heap.size ≤ qc i) (hgm : ∀ j : Nat, j < 7 → s.heap.size ≤ qm j) {B : Nat} (hB : B + 2600000 < 2000000000) (hB0 : 100000 ≤ B) {a bb : bU} {g : Nat → Int64} (hR : Rel B a bb) (hI : mInv bb) {i : Nat} (hi : i + 4 ≤ L) (hL : L ≤ 2048) {H : Heap} {locs : List Loc} (hPC : va_P D vwCl (wCo cI cO cL qc a g) H) (hPM : va_P D vwCl (wM cI qm bb) H) (hS : va_S (fun q : Nat => s.heap.size ≤ q) s.heap H locs) {ls : Array Slot} (hl : lv_has ls 9 [(0, .ref b), (1, .ref (qc 0)), (2, .ref (qm 0)), (3, .ref (qc 23)), (4, .int (nI i))]) {C S : Nat} (hC : C + 5 ≤ 601024) (hSl : S + 30 ≤ 7293034) {Q : State → Prop} (kk : ∀ (a2 b2 : bU) (g2 : Nat → Int64) (H2 : Heap) (locs2 : List Loc) (ls2 : Array Slot), Rel (B + 2600000) a2 b2 → mInv b2 → va_P D vwCl (wCo cI cO cL qc a2 g2) H2 → va_P D vwCl (wM cI qm b2) H2 → va_S (fun q : Nat => s.heap.size ≤ q) s.heap H2 locs2 → lv_has ls2 9 [(0, .ref b), (1, .ref (qc 0)), (2, .ref (qm 0)), (3, .ref (qc 23)), (4, .int (nI i))] → W p l e room_1 s m #[Value.ref b] below meth c H2 locs2 (C + 5) (S + 30) Q (F0 m 2009 ls2 [])) : W p l e room_1 s m #[Value.ref b] below meth c H locs C S Q (F0 m 1898 ls []) := by
  obtain ⟨hx, hb, hr, hml, hown, hts0, hXs, hbl, hlocks, hgv⟩ := C0
  have hts : ∀ w ∈ wsL_law, w.before #[Value.ref b] s = true := fun w h => hts0 w (wsL_law_in w h)
  have hbA : ¬ (fun q : Nat => s.heap.size ≤ q) b := Nat.not_le.mpr hbl
  have hk6 : bK D [(cI, .int)] s := ⟨va_K.sub hk.1 [0] rfl, hk.2⟩
  refine lv_aload_n hx hb dL_law_1898 rfl (lv_at hl 1 rfl) ?_
  refine lv_aload_n hx hb dL_law_1899 rfl (lv_at hl 0 rfl) ?_
  refine lv_iload hx hb dL_law_1900 (lv_at hl 4 rfl) ?_
  refine lv_iconst (v := 1) hx hb dL_law_1902 (by decide) ?_
  refine lv_iadd hx hb dL_law_1903 ?_
  refine lv_topi (fun z9 hz9 => ?_)
  obtain rfl : z9 = nI (i + 1) := hz9.trans (nI_add i 1)
  refine va_sld hx hb hXs hbl hbA hS (vp_in_nI (by omega) (by omega)) dL_law_1904 ?_
  refine lv_aload_n hx hb dL_law_1905 rfl (lv_at hl 3 rfl) ?_
  have hAB : ∀ x : Nat, bA 24 qc H.size x → s.heap.size ≤ x := fun x hx9 => hx9.elim (fun ⟨k9, h9, e9⟩ => e9 ▸ hgc k9 h9) (fun h9 => Nat.le_trans hS.1 h9)
  refine va_calli (vx_runSW (As := [.ref (qc 0), .int (xs (nI (i + 1)).toNatClampNeg), .ref (qc 23)]) (rest := []) ⟨hx, hb, hml, hown, hts⟩ (CL_bestShop l D cI cO cL qc a g H hq hl9 hPC (xs (nI (i + 1)).toNatClampNeg)) (vx_cwSW 3 hts gL_law_L_bestShop rfl rfl rfl bd_LbestShop ⟨Nat.le_of_ble_eq_true rfl, Nat.le_of_ble_eq_true rfl⟩) (bPSL hk hX hKL hN hS hAB) rfl rfl hl.1 rfl (lv_room (Nat.le_of_ble_eq_true rfl)) dL_law_1906 ⟨by show _ ≤ 601024; omega, by show _ ≤ 7293034; omega⟩) hS (fun x _ h => hAB x h) hAB (fun r g1 t H1 locs ht _ hw hB1 hz1 hk1 hS => ?_)
  rw [ht] at hB1
  clear ht
  have hPM := wM_k hPM hk1 hqq hqm
  refine W.widen (k := C + 5) (n := S + 30) (by omega) (by omega) ?_
  refine lv_istore (lv' := [(5, .int r), (0, .ref b), (1, .ref (qc 0)), (2, .ref (qm 0)), (3, .ref (qc 23)), (4, .int (nI i))]) hx hb dL_law_1909 hl (by decide) rfl (fun ls hl => ?_)
  refine lv_aload_n hx hb dL_law_1911 rfl (lv_at hl 3 rfl) ?_
  refine lv_aload_n hx hb dL_law_1912 rfl (lv_at hl 1 rfl) ?_
  refine lv_iload hx hb dL_law_1913 (lv_at hl 5 rfl) ?_
  refine lv_iconst (v := 1) hx hb dL_law_1915 (by decide) ?_
  refine lv_iadd hx hb dL_law_1916 ?_
  refine lv_topi (fun z9 hz9 => ?_)
  obtain rfl : z9 = nI (i + 1) := hz9.trans (nI_add i 1)
  refine va_sld hx hb hXs hbl hbA hS (vp_in_nI (by omega) (by omega)) dL_law_1917 ?_
  have hsim := st_bestShop hR (xs (nI (i + 1)).toNatClampNeg)
  have hAM : ∀ x : Nat, bA 7 qm H1.size x → s.heap.size ≤ x := fun x hx9 => hx9.elim (fun ⟨k9, h9, e9⟩ => e9 ▸ hgm k9 h9) (fun h9 => Nat.le_trans hS.1 h9)
  refine va_calli (va_runV (As := [.int (xs (nI (i + 1)).toNatClampNeg)]) (rest := []) ⟨hx, hb, hml, hown, hts⟩ (C6_bestShop l D cI qm bb H1 hqm hPM hI (xs (nI (i + 1)).toNatClampNeg)) (cwV 1 hts gL_law_X6_bestShop rfl rfl rfl ⟨rfl, bd_X6bestShop⟩ ⟨Nat.le_of_ble_eq_true rfl, Nat.le_of_ble_eq_true rfl⟩) (bPV hk6 (va_recv hk6.1 hPM (ci := 6) (q0 := 0) rfl (wM_0 _ _ _))) rfl rfl hl.1 rfl (lv_room (Nat.le_of_ble_eq_true rfl)) dL_law_1918 ⟨by show _ ≤ 601024; omega, by show _ ≤ 7293034; omega⟩) hS (fun x _ h => hAM x h) hAM (fun y b2 t H2 locs ht _ hw2 hB2 hz2 hk2 hS => ?_)
  rw [ht] at hB2
  clear ht
  obtain rfl : y = (F6_bestShop bb (xs (nI (i + 1)).toNatClampNeg)).1 := by rw [← hw2]
  obtain rfl : b2 = (F6_bestShop bb (xs (nI (i + 1)).toNatClampNeg)).2 := by rw [← hw2]
  obtain ⟨hPM2, hI2⟩ := hB2
  have hPC2 := wCo_m hB1 hk2 hqq hq
  refine lv_istore (lv' := [(6, .int (F6_bestShop bb (xs (nI (i + 1)).toNatClampNeg)).1), (5, .int r), (0, .ref b), (1, .ref (qc 0)), (2, .ref (qm 0)), (3, .ref (qc 23)), (4, .int (nI i))]) hx hb dL_law_1921 hl (by decide) rfl (fun ls hl => ?_)
  refine lv_aload_n hx hb dL_law_1923 rfl (lv_at hl 4 rfl) ?_
  refine bcall_Ri (va_runV (As := []) (rest := []) ⟨hx, hb, hml, hown, hts⟩ (C6_thrown l D cI qm _ _ hPM2 hI2) (cwV 0 hts gL_law_X6_thrown rfl rfl rfl ⟨rfl, bd_X6thrown⟩ ⟨Nat.le_of_ble_eq_true rfl, Nat.le_of_ble_eq_true rfl⟩) (bPV hk6 (va_recv hk6.1 hPM2 (ci := 6) (q0 := 0) rfl (wM_0 _ _ _))) rfl rfl hl.1 rfl (lv_room (Nat.le_of_ble_eq_true rfl)) dL_law_1924 ⟨by show _ ≤ 601024; omega, by show _ ≤ 7293034; omega⟩) hS (fun locs hS => ?_)
  refine lv_iload hx hb dL_law_1927 (lv_at hl 1 rfl) ?_
  refine lv_icmp_eq (tgt := 1934) hx hb dL_law_1929 (by decide) (fun _ => ?_) (fun c9 => absurd (hsim.1.trans hw.1.symm) c9)
  refine lv_iload hx hb dL_law_1934 (lv_at hl 1 rfl) ?_
  refine lv_if_ne (tgt := 1951) hx hb dL_law_1936 (by decide) (fun c9 => ?_) (fun c9 => ?_)
  · refine lv_goto (tgt := 2009) hx hb dL_law_1951 (by decide) ?_
    refine W.widen (k := C + 5) (n := S + 30) (by omega) (by omega) ?_
    exact kk _ _ _ _ _ _ (Rel_up hsim.2.2 (by omega)) hI2 hPC2 hPM2 hS (lv_sub hl [2, 3, 4, 5, 6] rfl)
  · refine lv_aload_n hx hb dL_law_1939 rfl (lv_at hl 5 rfl) ?_
    refine lv_iconst (v := 0) hx hb dL_law_1940 (by decide) ?_
    refine va_lald hx hb hKL hPC2 23 0 rfl rfl (vp_in_nI (n := 0) (by decide) (by decide)) dL_law_1941 ?_
    refine lv_iload hx hb dL_law_1942 (lv_at hl 0 rfl) ?_
    refine lv_i2l (v := ((F6_bestShop bb (xs (nI (i + 1)).toNatClampNeg)).1).toInt64) hx hb dL_law_1944 rfl ?_
    refine W.lcmp hx hb dL_law_1945 ?_
    have hv0 : (F5_bestShop a (xs (nI (i + 1)).toNatClampNeg)).1 = 0 := cdC_0 (hw.1.symm.trans c9)
    rw [show (0 : Int32).toNatClampNeg = 0 from by decide, lg_cmp_same ((hw.2 hv0).trans (congrArg Int32.toInt64 (hsim.2.1 hv0)))]
    refine lv_if_eq (tgt := 1951) hx hb dL_law_1946 (by decide) (fun _ => ?_) (fun h9 => absurd rfl h9)
    refine lv_goto (tgt := 2009) hx hb dL_law_1951 (by decide) ?_
    refine W.widen (k := C + 5) (n := S + 30) (by omega) (by omega) ?_
    exact kk _ _ _ _ _ _ (Rel_up hsim.2.2 (by omega)) hI2 hPC2 hPM2 hS (lv_sub hl [2, 3, 4, 5, 6] rfl)
set_option maxHeartbeats 4000000 in
set_option maxRecDepth 100000 in
theorem LC_28 {p : Program} {e : Env} {s : State} {m : MethodId} {below : List Frame} {meth : Method} {c : Code} {l : Launch} {b L : Nat} {xs : Nat → Int32} {D : va_G} {cI cO cL : ClassId} {qc qm : Nat → Nat} (hl9 : l.stackTraces = false) (C0 : lw_At p s m meth c b L xs) (hk : bK D [(cI, .int), (cO, .object RX2)] s) (hX : bXe (fun q : Nat => s.heap.size ≤ q) s s.heap) (hKL : va_K D vwCl [(cL, .long)] s) (hN : bNC s) (hq : bInj 24 qc) (hqm : bInj 7 qm) (hqq : ∀ i j : Nat, i < 24 → j < 7 → qc i ≠ qm j) (hgc : ∀ i : Nat, i < 24 → s.heap.size ≤ qc i) (hgm : ∀ j : Nat, j < 7 → s.heap.size ≤ qm j) {B : Nat} (hB : B + 2600000 < 2000000000) (hB0 : 100000 ≤ B) {a bb : bU} {g : Nat → Int64} (hR : Rel B a bb) (hI : mInv bb) {i : Nat} (hi : i + 4 ≤ L) (hL : L ≤ 2048) {H : Heap} {locs : List Loc} (hPC : va_P D vwCl (wCo cI cO cL qc a g) H) (hPM : va_P D vwCl (wM cI qm bb) H) (hS : va_S (fun q : Nat => s.heap.size ≤ q) s.heap H locs) {ls : Array Slot} (hl : lv_has ls 9 [(0, .ref b), (1, .ref (qc 0)), (2, .ref (qm 0)), (3, .ref (qc 23)), (4, .int (nI i))]) {C S : Nat} (hC : C + 5 ≤ 601024) (hSl : S + 30 ≤ 7293034) {Q : State → Prop} (kk : ∀ (a2 b2 : bU) (g2 : Nat → Int64) (H2 : Heap) (locs2 : List Loc) (ls2 : Array Slot), Rel (B + 2600000) a2 b2 → mInv b2 → va_P D vwCl (wCo cI cO cL qc a2 g2) H2 → va_P D vwCl (wM cI qm b2) H2 → va_S (fun q : Nat => s.heap.size ≤ q) s.heap H2 locs2 → lv_has ls2 9 [(0, .ref b), (1, .ref (qc 0)), (2, .ref (qm 0)), (3, .ref (qc 23)), (4, .int (nI i))] → W p l e room_1 s m #[Value.ref b] below meth c H2 locs2 (C + 5) (S + 30) Q (F0 m 2009 ls2 [])) : W p l e room_1 s m #[Value.ref b] below meth c H locs C S Q (F0 m 1954 ls []) := by
  obtain ⟨hx, hb, hr, hml, hown, hts0, hXs, hbl, hlocks, hgv⟩ := C0
  have hts : ∀ w ∈ wsL_law, w.before #[Value.ref b] s = true := fun w h => hts0 w (wsL_law_in w h)
  have hbA : ¬ (fun q : Nat => s.heap.size ≤ q) b := Nat.not_le.mpr hbl
  have hk6 : bK D [(cI, .int)] s := ⟨va_K.sub hk.1 [0] rfl, hk.2⟩
  refine lv_aload_n hx hb dL_law_1954 rfl (lv_at hl 1 rfl) ?_
  obtain ⟨hx_s, hx_g, hs1, hs0, hs2⟩ := st_goneShare hR
  refine bcall_Rd (va_runV (As := []) (rest := []) ⟨hx, hb, hml, hown, hts⟩ (C5_goneShare l D cI cO qc a _ (wCo_C hPC) hx_s.1) (cwV 0 hts gL_law_X5_goneShare rfl rfl rfl ⟨rfl, bd_X5goneShare⟩ ⟨Nat.le_of_ble_eq_true rfl, Nat.le_of_ble_eq_true rfl⟩) (bPV hk (va_recv hk.1 (wCo_C hPC) (ci := 5) (q0 := 0) rfl (wC_0 _ _ _ _))) rfl rfl hl.1 rfl (lv_room (Nat.le_of_ble_eq_true rfl)) dL_law_1955 ⟨by show _ ≤ 601024; omega, by show _ ≤ 7293034; omega⟩) hS (fun locs hS => ?_)
  refine lv_dstore (lv' := [(5, .double (F5_goneShare a)), (0, .ref b), (1, .ref (qc 0)), (2, .ref (qm 0)), (3, .ref (qc 23)), (4, .int (nI i))]) hx hb dL_law_1958 hl (by decide) rfl (fun ls hl => ?_)
  refine lv_aload_n hx hb dL_law_1960 rfl (lv_at hl 3 rfl) ?_
  have hAM : ∀ x : Nat, bA 7 qm H.size x → s.heap.size ≤ x := fun x hx9 => hx9.elim (fun ⟨k9, h9, e9⟩ => e9 ▸ hgm k9 h9) (fun h9 => Nat.le_trans hS.1 h9)
  refine va_calld (va_runV (As := []) (rest := []) ⟨hx, hb, hml, hown, hts⟩ (C6_goneShare l D cI qm bb H hqm hPM hI hx_g) (cwV 0 hts gL_law_X6_goneShare rfl rfl rfl ⟨rfl, bd_X6goneShare⟩ ⟨Nat.le_of_ble_eq_true rfl, Nat.le_of_ble_eq_true rfl⟩) (bPV hk6 (va_recv hk6.1 hPM (ci := 6) (q0 := 0) rfl (wM_0 _ _ _))) rfl rfl hl.1 rfl (lv_room (Nat.le_of_ble_eq_true rfl)) dL_law_1961 ⟨by show _ ≤ 601024; omega, by show _ ≤ 7293034; omega⟩) hS (fun x _ h => hAM x h) hAM (fun y b2 t H2 locs ht _ hw2 hB2 hz2 hk2 hS => ?_)
  rw [ht] at hB2
  clear ht
  obtain rfl : y = (F6_goneShare bb).1 := by rw [← hw2]
  obtain rfl : b2 = (F6_goneShare bb).2 := by rw [← hw2]
  obtain ⟨hPM2, hI2⟩ := hB2
  have hPC2 := wCo_m hPC hk2 hqq hq
  refine lv_dstore (lv' := [(7, .double (F6_goneShare bb).1), (5, .double (F5_goneShare a)), (0, .ref b), (1, .ref (qc 0)), (2, .ref (qm 0)), (3, .ref (qc 23)), (4, .int (nI i))]) hx hb dL_law_1964 hl (by decide) rfl (fun ls hl => ?_)
  refine lv_dload hx hb dL_law_1966 (lv_at hl 1 rfl) ?_
  refine lv_dload hx hb dL_law_1968 (lv_at hl 0 rfl) ?_
  refine lv_dcmp hx hb dL_law_1970 ?_
  rw [← hs1, sh_eq hx_s.2]
  refine lv_if_eq (tgt := 1992) hx hb dL_law_1971 (by decide) (fun _ => ?_) (fun h9 => absurd rfl h9)
  refine lv_goto (tgt := 2009) hx hb dL_law_1992 (by decide) ?_
  refine W.widen (k := C + 5) (n := S + 30) (by omega) (by omega) ?_
  exact kk _ _ _ _ _ _ (Rel_up hs2 (by omega)) hI2 hPC2 hPM2 hS (lv_sub hl [2, 3, 4, 5, 6] rfl)
set_option maxHeartbeats 4000000 in
set_option maxRecDepth 100000 in
theorem LC_29 {p : Program} {e : Env} {s : State} {m : MethodId} {below : List Frame} {meth : Method} {c : Code} {l : Launch} {b L : Nat} {xs : Nat → Int32} {D : va_G} {cI cO cL : ClassId} {qc qm : Nat → Nat} (hl9 : l.stackTraces = false) (C0 : lw_At p s m meth c b L xs) (hk : bK D [(cI, .int), (cO, .object RX2)] s) (hX : bXe (fun q : Nat => s.heap.size ≤ q) s s.heap) (hKL : va_K D vwCl [(cL, .long)] s) (hN : bNC s) (hq : bInj 24 qc) (hqm : bInj 7 qm) (hqq : ∀ i j : Nat, i < 24 → j < 7 → qc i ≠ qm j) (hgc : ∀ i : Nat, i < 24 → s.heap.size ≤ qc i) (hgm : ∀ j : Nat, j < 7 → s.heap.size ≤ qm j) {B : Nat} (hB : B + 2600000 < 2000000000) (hB0 : 100000 ≤ B) {a bb : bU} {g : Nat → Int64} (hR : Rel B a bb) (hI : mInv bb) {i : Nat} (hi : i + 4 ≤ L) (hL : L ≤ 2048) {H : Heap} {locs : List Loc} (hPC : va_P D vwCl (wCo cI cO cL qc a g) H) (hPM : va_P D vwCl (wM cI qm bb) H) (hS : va_S (fun q : Nat => s.heap.size ≤ q) s.heap H locs) {ls : Array Slot} (hl : lv_has ls 9 [(0, .ref b), (1, .ref (qc 0)), (2, .ref (qm 0)), (3, .ref (qc 23)), (4, .int (nI i))]) {C S : Nat} (hC : C + 5 ≤ 601024) (hSl : S + 30 ≤ 7293034) {Q : State → Prop} (kk : ∀ (a2 b2 : bU) (g2 : Nat → Int64) (H2 : Heap) (locs2 : List Loc) (ls2 : Array Slot), Rel (B + 2600000) a2 b2 → mInv b2 → va_P D vwCl (wCo cI cO cL qc a2 g2) H2 → va_P D vwCl (wM cI qm b2) H2 → va_S (fun q : Nat => s.heap.size ≤ q) s.heap H2 locs2 → lv_has ls2 9 [(0, .ref b), (1, .ref (qc 0)), (2, .ref (qm 0)), (3, .ref (qc 23)), (4, .int (nI i))] → W p l e room_1 s m #[Value.ref b] below meth c H2 locs2 (C + 5) (S + 30) Q (F0 m 2009 ls2 [])) : W p l e room_1 s m #[Value.ref b] below meth c H locs C S Q (F0 m 1995 ls []) := by
  obtain ⟨hx, hb, hr, hml, hown, hts0, hXs, hbl, hlocks, hgv⟩ := C0
  have hts : ∀ w ∈ wsL_law, w.before #[Value.ref b] s = true := fun w h => hts0 w (wsL_law_in w h)
  have hbA : ¬ (fun q : Nat => s.heap.size ≤ q) b := Nat.not_le.mpr hbl
  have hk6 : bK D [(cI, .int)] s := ⟨va_K.sub hk.1 [0] rfl, hk.2⟩
  refine lv_aload_n hx hb dL_law_1995 rfl (lv_at hl 1 rfl) ?_
  obtain ⟨hx_s, hx_g, hs1, hs0, hs2⟩ := st_digest (by omega) hR
  have hAB : ∀ x : Nat, bA 23 qc H.size x → s.heap.size ≤ x := fun x hx9 => hx9.elim (fun ⟨k9, h9, e9⟩ => e9 ▸ hgc k9 (by omega)) (fun h9 => Nat.le_trans hS.1 h9)
  refine va_calll (va_runV (As := []) (rest := []) ⟨hx, hb, hml, hown, hts⟩ (C5_digest l D cI cO qc a H (bInj_23 hq) (wCo_C hPC) hx_s) (cwV 0 hts gL_law_X5_digest rfl rfl rfl ⟨rfl, bd_X5digest⟩ ⟨Nat.le_of_ble_eq_true rfl, Nat.le_of_ble_eq_true rfl⟩) (bPV hk (va_recv hk.1 (wCo_C hPC) (ci := 5) (q0 := 0) rfl (wC_0 _ _ _ _))) rfl rfl hl.1 rfl (lv_room (Nat.le_of_ble_eq_true rfl)) dL_law_1996 ⟨by show _ ≤ 601024; omega, by show _ ≤ 7293034; omega⟩) hS (fun x _ h => hAB x h) hAB (fun r a2 t H1 locs ht _ hw hB1 hz1 hk1 hS => ?_)
  rw [ht] at hB1
  clear ht
  obtain rfl : r = (F5_digest a).1 := by rw [← hw]
  obtain rfl : a2 = (F5_digest a).2 := by rw [← hw]
  have hPM := wM_k (fun k9 h9 => hPM k9 h9) (fun x h1 h2 => hk1 x h1 (fun h9 => h2 (bA_34 (Nat.le_refl _) x h9))) hqq hqm
  have hPC1 := wCo_of (g := g) hB1.1 (wCo_k (wCo_o hPC) hk1 hq)
  refine lv_aload_n hx hb dL_law_1999 rfl (lv_at hl 2 rfl) ?_
  have hAM : ∀ x : Nat, bA 7 qm H1.size x → s.heap.size ≤ x := fun x hx9 => hx9.elim (fun ⟨k9, h9, e9⟩ => e9 ▸ hgm k9 h9) (fun h9 => Nat.le_trans hS.1 h9)
  refine va_calll (va_runV (As := []) (rest := [.long (F5_digest a).1]) ⟨hx, hb, hml, hown, hts⟩ (C6_digest l D cI qm bb H1 hqm hPM hI hx_g) (cwV 0 hts gL_law_X6_digest rfl rfl rfl ⟨rfl, bd_X6digest⟩ ⟨Nat.le_of_ble_eq_true rfl, Nat.le_of_ble_eq_true rfl⟩) (bPV hk6 (va_recv hk6.1 hPM (ci := 6) (q0 := 0) rfl (wM_0 _ _ _))) rfl rfl hl.1 rfl (lv_room (Nat.le_of_ble_eq_true rfl)) dL_law_2000 ⟨by show _ ≤ 601024; omega, by show _ ≤ 7293034; omega⟩) hS (fun x _ h => hAM x h) hAM (fun y b2 t H2 locs ht _ hw2 hB2 hz2 hk2 hS => ?_)
  rw [ht] at hB2
  clear ht
  obtain rfl : y = (F6_digest bb).1 := by rw [← hw2]
  obtain rfl : b2 = (F6_digest bb).2 := by rw [← hw2]
  obtain ⟨hPM2, hI2⟩ := hB2
  have hPC2 := wCo_m hPC1 hk2 hqq hq
  refine W.lcmp hx hb dL_law_2003 ?_
  rw [lg_cmp_same hs1]
  refine lv_if_eq (tgt := 2009) hx hb dL_law_2004 (by decide) (fun _ => ?_) (fun h9 => absurd rfl h9)
  refine W.widen (k := C + 5) (n := S + 30) (by omega) (by omega) ?_
  exact kk _ _ _ _ _ _ (Rel_up hs2 (by omega)) hI2 hPC2 hPM2 hS (lv_sub hl [0, 1, 2, 3, 4] rfl)

-- the calls, on (by program)
theorem bd_Lappend : yL_append.cls ≠ "java/lang/invoke/MethodHandle" ∧ yL_append.cls ≠ "java/lang/invoke/VarHandle" ∧ (parseMethodDescriptor yL_append.desc).map (fun d => d.parameters.length) = some 3 := by decide +kernel
theorem bd_Lbreaks : yL_breaks.cls ≠ "java/lang/invoke/MethodHandle" ∧ yL_breaks.cls ≠ "java/lang/invoke/VarHandle" ∧ (parseMethodDescriptor yL_breaks.desc).map (fun d => d.parameters.length) = some 5 := by decide +kernel
theorem bd_Lcollect : yL_collect.cls ≠ "java/lang/invoke/MethodHandle" ∧ yL_collect.cls ≠ "java/lang/invoke/VarHandle" ∧ (parseMethodDescriptor yL_collect.desc).map (fun d => d.parameters.length) = some 5 := by decide +kernel
theorem bd_Llose : yL_lose.cls ≠ "java/lang/invoke/MethodHandle" ∧ yL_lose.cls ≠ "java/lang/invoke/VarHandle" ∧ (parseMethodDescriptor yL_lose.desc).map (fun d => d.parameters.length) = some 4 := by decide +kernel
theorem bd_Lsort : yL_sort.cls ≠ "java/lang/invoke/MethodHandle" ∧ yL_sort.cls ≠ "java/lang/invoke/VarHandle" ∧ (parseMethodDescriptor yL_sort.desc).map (fun d => d.parameters.length) = some 4 := by decide +kernel
theorem bd_Lswap : yL_swap.cls ≠ "java/lang/invoke/MethodHandle" ∧ yL_swap.cls ≠ "java/lang/invoke/VarHandle" ∧ (parseMethodDescriptor yL_swap.desc).map (fun d => d.parameters.length) = some 5 := by decide +kernel
theorem bd_X5clearBuffer : yX5_clearBuffer.cls ≠ "java/lang/invoke/MethodHandle" ∧ yX5_clearBuffer.cls ≠ "java/lang/invoke/VarHandle" ∧ (parseMethodDescriptor yX5_clearBuffer.desc).map (fun d => d.parameters.length) = some 0 := by decide +kernel
theorem bd_X5firstError : yX5_firstError.cls ≠ "java/lang/invoke/MethodHandle" ∧ yX5_firstError.cls ≠ "java/lang/invoke/VarHandle" ∧ (parseMethodDescriptor yX5_firstError.desc).map (fun d => d.parameters.length) = some 0 := by decide +kernel
theorem bd_X6append : yX6_append.cls ≠ "java/lang/invoke/MethodHandle" ∧ yX6_append.cls ≠ "java/lang/invoke/VarHandle" ∧ (parseMethodDescriptor yX6_append.desc).map (fun d => d.parameters.length) = some 1 := by decide +kernel
theorem bd_X6breaks : yX6_breaks.cls ≠ "java/lang/invoke/MethodHandle" ∧ yX6_breaks.cls ≠ "java/lang/invoke/VarHandle" ∧ (parseMethodDescriptor yX6_breaks.desc).map (fun d => d.parameters.length) = some 3 := by decide +kernel
theorem bd_X6clearBuffer : yX6_clearBuffer.cls ≠ "java/lang/invoke/MethodHandle" ∧ yX6_clearBuffer.cls ≠ "java/lang/invoke/VarHandle" ∧ (parseMethodDescriptor yX6_clearBuffer.desc).map (fun d => d.parameters.length) = some 0 := by decide +kernel
theorem bd_X6collect : yX6_collect.cls ≠ "java/lang/invoke/MethodHandle" ∧ yX6_collect.cls ≠ "java/lang/invoke/VarHandle" ∧ (parseMethodDescriptor yX6_collect.desc).map (fun d => d.parameters.length) = some 3 := by decide +kernel
theorem bd_X6firstError : yX6_firstError.cls ≠ "java/lang/invoke/MethodHandle" ∧ yX6_firstError.cls ≠ "java/lang/invoke/VarHandle" ∧ (parseMethodDescriptor yX6_firstError.desc).map (fun d => d.parameters.length) = some 0 := by decide +kernel
theorem bd_X6lose : yX6_lose.cls ≠ "java/lang/invoke/MethodHandle" ∧ yX6_lose.cls ≠ "java/lang/invoke/VarHandle" ∧ (parseMethodDescriptor yX6_lose.desc).map (fun d => d.parameters.length) = some 2 := by decide +kernel
theorem bd_X6sort : yX6_sort.cls ≠ "java/lang/invoke/MethodHandle" ∧ yX6_sort.cls ≠ "java/lang/invoke/VarHandle" ∧ (parseMethodDescriptor yX6_sort.desc).map (fun d => d.parameters.length) = some 2 := by decide +kernel
theorem bd_X6swap : yX6_swap.cls ≠ "java/lang/invoke/MethodHandle" ∧ yX6_swap.cls ≠ "java/lang/invoke/VarHandle" ∧ (parseMethodDescriptor yX6_swap.desc).map (fun d => d.parameters.length) = some 3 := by decide +kernel
set_option maxHeartbeats 4000000 in
set_option maxRecDepth 100000 in
theorem LC_8 {p : Program} {e : Env} {s : State} {m : MethodId} {below : List Frame} {meth : Method} {c : Code} {l : Launch} {b L : Nat} {xs : Nat → Int32} {D : va_G} {cI cO cL : ClassId} {qc qm : Nat → Nat} (hl9 : l.stackTraces = false) (C0 : lw_At p s m meth c b L xs) (hk : bK D [(cI, .int), (cO, .object RX2)] s) (hX : bXe (fun q : Nat => s.heap.size ≤ q) s s.heap) (hKL : va_K D vwCl [(cL, .long)] s) (hN : bNC s) (hq : bInj 24 qc) (hqm : bInj 7 qm) (hqq : ∀ i j : Nat, i < 24 → j < 7 → qc i ≠ qm j) (hgc : ∀ i : Nat, i < 24 → s.heap.size ≤ qc i) (hgm : ∀ j : Nat, j < 7 → s.heap.size ≤ qm j) {B : Nat} (hB : B + 2600000 < 2000000000) (hB0 : 100000 ≤ B) {a bb : bU} {g : Nat → Int64} (hR : Rel B a bb) (hI : mInv bb) {i : Nat} (hi : i + 4 ≤ L) (hL : L ≤ 2048) {H : Heap} {locs : List Loc} (hPC : va_P D vwCl (wCo cI cO cL qc a g) H) (hPM : va_P D vwCl (wM cI qm bb) H) (hS : va_S (fun q : Nat => s.heap.size ≤ q) s.heap H locs) {ls : Array Slot} (hl : lv_has ls 9 [(0, .ref b), (1, .ref (qc 0)), (2, .ref (qm 0)), (3, .ref (qc 23)), (4, .int (nI i))]) {C S : Nat} (hC : C + 5 ≤ 601024) (hSl : S + 30 ≤ 7293034) {Q : State → Prop} (kk : ∀ (a2 b2 : bU) (g2 : Nat → Int64) (H2 : Heap) (locs2 : List Loc) (ls2 : Array Slot), Rel (B + 2600000) a2 b2 → mInv b2 → va_P D vwCl (wCo cI cO cL qc a2 g2) H2 → va_P D vwCl (wM cI qm b2) H2 → va_S (fun q : Nat => s.heap.size ≤ q) s.heap H2 locs2 → lv_has ls2 9 [(0, .ref b), (1, .ref (qc 0)), (2, .ref (qm 0)), (3, .ref (qc 23)), (4, .int (nI i))] → W p l e room_1 s m #[Value.ref b] below meth c H2 locs2 (C + 5) (S + 30) Q (F0 m 2009 ls2 [])) : W p l e room_1 s m #[Value.ref b] below meth c H locs C S Q (F0 m 728 ls []) := by
  obtain ⟨hx, hb, hr, hml, hown, hts0, hXs, hbl, hlocks, hgv⟩ := C0
  have hts : ∀ w ∈ wsL_law, w.before #[Value.ref b] s = true := fun w h => hts0 w (wsL_law_in w h)
  have hbA : ¬ (fun q : Nat => s.heap.size ≤ q) b := Nat.not_le.mpr hbl
  have hk6 : bK D [(cI, .int)] s := ⟨va_K.sub hk.1 [0] rfl, hk.2⟩
  refine lv_aload_n hx hb dL_law_728 rfl (lv_at hl 1 rfl) ?_
  refine lv_aload_n hx hb dL_law_729 rfl (lv_at hl 0 rfl) ?_
  refine lv_iload hx hb dL_law_730 (lv_at hl 4 rfl) ?_
  refine lv_iconst (v := 1) hx hb dL_law_732 (by decide) ?_
  refine lv_iadd hx hb dL_law_733 ?_
  refine lv_topi (fun z9 hz9 => ?_)
  obtain rfl : z9 = nI (i + 1) := hz9.trans (nI_add i 1)
  refine va_sld hx hb hXs hbl hbA hS (vp_in_nI (by omega) (by omega)) dL_law_734 ?_
  refine lv_aload_n hx hb dL_law_735 rfl (lv_at hl 0 rfl) ?_
  refine lv_iload hx hb dL_law_736 (lv_at hl 4 rfl) ?_
  refine lv_iconst (v := 2) hx hb dL_law_738 (by decide) ?_
  refine lv_iadd hx hb dL_law_739 ?_
  refine lv_topi (fun z9 hz9 => ?_)
  obtain rfl : z9 = nI (i + 2) := hz9.trans (nI_add i 2)
  refine va_sld hx hb hXs hbl hbA hS (vp_in_nI (by omega) (by omega)) dL_law_740 ?_
  refine lv_aload_n hx hb dL_law_741 rfl (lv_at hl 0 rfl) ?_
  refine lv_iload hx hb dL_law_742 (lv_at hl 4 rfl) ?_
  refine lv_iconst (v := 3) hx hb dL_law_744 (by decide) ?_
  refine lv_iadd hx hb dL_law_745 ?_
  refine lv_topi (fun z9 hz9 => ?_)
  obtain rfl : z9 = nI (i + 3) := hz9.trans (nI_add i 3)
  refine va_sld hx hb hXs hbl hbA hS (vp_in_nI (by omega) (by omega)) dL_law_746 ?_
  refine lv_aload_n hx hb dL_law_747 rfl (lv_at hl 3 rfl) ?_
  have hAB : ∀ x : Nat, bA 24 qc H.size x → s.heap.size ≤ x := fun x hx9 => hx9.elim (fun ⟨k9, h9, e9⟩ => e9 ▸ hgc k9 h9) (fun h9 => Nat.le_trans hS.1 h9)
  refine va_calli (vx_runSW (As := [.ref (qc 0), .int (xs (nI (i + 1)).toNatClampNeg), .int (xs (nI (i + 2)).toNatClampNeg), .int (xs (nI (i + 3)).toNatClampNeg), .ref (qc 23)]) (rest := []) ⟨hx, hb, hml, hown, hts⟩ (CL_breaks l D cI cO cL qc a g H hq hl9 hPC (xs (nI (i + 1)).toNatClampNeg) (xs (nI (i + 2)).toNatClampNeg) (xs (nI (i + 3)).toNatClampNeg) (lat_of hR)) (vx_cwSW 5 hts gL_law_L_breaks rfl rfl rfl bd_Lbreaks ⟨Nat.le_of_ble_eq_true rfl, Nat.le_of_ble_eq_true rfl⟩) (bPSL hk hX hKL hN hS hAB) rfl rfl hl.1 rfl (lv_room (Nat.le_of_ble_eq_true rfl)) dL_law_748 ⟨by show _ ≤ 601024; omega, by show _ ≤ 7293034; omega⟩) hS (fun x _ h => hAB x h) hAB (fun r g1 t H1 locs ht _ hw hB1 hz1 hk1 hS => ?_)
  rw [ht] at hB1
  clear ht
  have hPM := wM_k hPM hk1 hqq hqm
  refine W.widen (k := C + 5) (n := S + 30) (by omega) (by omega) ?_
  refine lv_istore (lv' := [(5, .int r), (0, .ref b), (1, .ref (qc 0)), (2, .ref (qm 0)), (3, .ref (qc 23)), (4, .int (nI i))]) hx hb dL_law_751 hl (by decide) rfl (fun ls hl => ?_)
  refine lv_aload_n hx hb dL_law_753 rfl (lv_at hl 3 rfl) ?_
  refine lv_aload_n hx hb dL_law_754 rfl (lv_at hl 1 rfl) ?_
  refine lv_iload hx hb dL_law_755 (lv_at hl 5 rfl) ?_
  refine lv_iconst (v := 1) hx hb dL_law_757 (by decide) ?_
  refine lv_iadd hx hb dL_law_758 ?_
  refine lv_topi (fun z9 hz9 => ?_)
  obtain rfl : z9 = nI (i + 1) := hz9.trans (nI_add i 1)
  refine va_sld hx hb hXs hbl hbA hS (vp_in_nI (by omega) (by omega)) dL_law_759 ?_
  refine lv_aload_n hx hb dL_law_760 rfl (lv_at hl 1 rfl) ?_
  refine lv_iload hx hb dL_law_761 (lv_at hl 5 rfl) ?_
  refine lv_iconst (v := 2) hx hb dL_law_763 (by decide) ?_
  refine lv_iadd hx hb dL_law_764 ?_
  refine lv_topi (fun z9 hz9 => ?_)
  obtain rfl : z9 = nI (i + 2) := hz9.trans (nI_add i 2)
  refine va_sld hx hb hXs hbl hbA hS (vp_in_nI (by omega) (by omega)) dL_law_765 ?_
  refine lv_aload_n hx hb dL_law_766 rfl (lv_at hl 1 rfl) ?_
  refine lv_iload hx hb dL_law_767 (lv_at hl 5 rfl) ?_
  refine lv_iconst (v := 3) hx hb dL_law_769 (by decide) ?_
  refine lv_iadd hx hb dL_law_770 ?_
  refine lv_topi (fun z9 hz9 => ?_)
  obtain rfl : z9 = nI (i + 3) := hz9.trans (nI_add i 3)
  refine va_sld hx hb hXs hbl hbA hS (vp_in_nI (by omega) (by omega)) dL_law_771 ?_
  have hsim := st_breaks (by omega) hR (xs (nI (i + 1)).toNatClampNeg) (xs (nI (i + 2)).toNatClampNeg) (xs (nI (i + 3)).toNatClampNeg)
  have hAM : ∀ x : Nat, bA 7 qm H1.size x → s.heap.size ≤ x := fun x hx9 => hx9.elim (fun ⟨k9, h9, e9⟩ => e9 ▸ hgm k9 h9) (fun h9 => Nat.le_trans hS.1 h9)
  refine va_calli (va_runV (As := [.int (xs (nI (i + 1)).toNatClampNeg), .int (xs (nI (i + 2)).toNatClampNeg), .int (xs (nI (i + 3)).toNatClampNeg)]) (rest := []) ⟨hx, hb, hml, hown, hts⟩ (C6_breaks l D cI qm bb H1 hqm hPM hI (xs (nI (i + 1)).toNatClampNeg) (xs (nI (i + 2)).toNatClampNeg) (xs (nI (i + 3)).toNatClampNeg)) (cwV 3 hts gL_law_X6_breaks rfl rfl rfl ⟨rfl, bd_X6breaks⟩ ⟨Nat.le_of_ble_eq_true rfl, Nat.le_of_ble_eq_true rfl⟩) (bPV hk6 (va_recv hk6.1 hPM (ci := 6) (q0 := 0) rfl (wM_0 _ _ _))) rfl rfl hl.1 rfl (lv_room (Nat.le_of_ble_eq_true rfl)) dL_law_772 ⟨by show _ ≤ 601024; omega, by show _ ≤ 7293034; omega⟩) hS (fun x _ h => hAM x h) hAM (fun y b2 t H2 locs ht _ hw2 hB2 hz2 hk2 hS => ?_)
  rw [ht] at hB2
  clear ht
  obtain rfl : y = (F6_breaks bb (xs (nI (i + 1)).toNatClampNeg) (xs (nI (i + 2)).toNatClampNeg) (xs (nI (i + 3)).toNatClampNeg)).1 := by rw [← hw2]
  obtain rfl : b2 = (F6_breaks bb (xs (nI (i + 1)).toNatClampNeg) (xs (nI (i + 2)).toNatClampNeg) (xs (nI (i + 3)).toNatClampNeg)).2 := by rw [← hw2]
  obtain ⟨hPM2, hI2⟩ := hB2
  have hPC2 := wCo_m hB1 hk2 hqq hq
  refine lv_istore (lv' := [(6, .int (F6_breaks bb (xs (nI (i + 1)).toNatClampNeg) (xs (nI (i + 2)).toNatClampNeg) (xs (nI (i + 3)).toNatClampNeg)).1), (5, .int r), (0, .ref b), (1, .ref (qc 0)), (2, .ref (qm 0)), (3, .ref (qc 23)), (4, .int (nI i))]) hx hb dL_law_775 hl (by decide) rfl (fun ls hl => ?_)
  refine lv_aload_n hx hb dL_law_777 rfl (lv_at hl 4 rfl) ?_
  refine bcall_Ri (va_runV (As := []) (rest := []) ⟨hx, hb, hml, hown, hts⟩ (C6_thrown l D cI qm _ _ hPM2 hI2) (cwV 0 hts gL_law_X6_thrown rfl rfl rfl ⟨rfl, bd_X6thrown⟩ ⟨Nat.le_of_ble_eq_true rfl, Nat.le_of_ble_eq_true rfl⟩) (bPV hk6 (va_recv hk6.1 hPM2 (ci := 6) (q0 := 0) rfl (wM_0 _ _ _))) rfl rfl hl.1 rfl (lv_room (Nat.le_of_ble_eq_true rfl)) dL_law_778 ⟨by show _ ≤ 601024; omega, by show _ ≤ 7293034; omega⟩) hS (fun locs hS => ?_)
  refine lv_iload hx hb dL_law_781 (lv_at hl 1 rfl) ?_
  refine lv_icmp_eq (tgt := 788) hx hb dL_law_783 (by decide) (fun _ => ?_) (fun c9 => absurd (hsim.1.trans hw.1.symm) c9)
  refine lv_iload hx hb dL_law_788 (lv_at hl 1 rfl) ?_
  refine lv_if_ne (tgt := 805) hx hb dL_law_790 (by decide) (fun c9 => ?_) (fun c9 => ?_)
  · refine lv_goto (tgt := 2009) hx hb dL_law_805 (by decide) ?_
    refine W.widen (k := C + 5) (n := S + 30) (by omega) (by omega) ?_
    exact kk _ _ _ _ _ _ (Rel_up hsim.2.2 (by omega)) hI2 hPC2 hPM2 hS (lv_sub hl [2, 3, 4, 5, 6] rfl)
  · refine lv_aload_n hx hb dL_law_793 rfl (lv_at hl 5 rfl) ?_
    refine lv_iconst (v := 0) hx hb dL_law_794 (by decide) ?_
    refine va_lald hx hb hKL hPC2 23 0 rfl rfl (vp_in_nI (n := 0) (by decide) (by decide)) dL_law_795 ?_
    refine lv_iload hx hb dL_law_796 (lv_at hl 0 rfl) ?_
    refine lv_i2l (v := ((F6_breaks bb (xs (nI (i + 1)).toNatClampNeg) (xs (nI (i + 2)).toNatClampNeg) (xs (nI (i + 3)).toNatClampNeg)).1).toInt64) hx hb dL_law_798 rfl ?_
    refine W.lcmp hx hb dL_law_799 ?_
    have hv0 : (F5_breaks a (xs (nI (i + 1)).toNatClampNeg) (xs (nI (i + 2)).toNatClampNeg) (xs (nI (i + 3)).toNatClampNeg)).1 = 0 := hw.1.symm.trans c9
    rw [show (0 : Int32).toNatClampNeg = 0 from by decide, lg_cmp_same ((hw.2 hv0).trans (congrArg Int32.toInt64 (hsim.2.1 hv0)))]
    refine lv_if_eq (tgt := 805) hx hb dL_law_800 (by decide) (fun _ => ?_) (fun h9 => absurd rfl h9)
    refine lv_goto (tgt := 2009) hx hb dL_law_805 (by decide) ?_
    refine W.widen (k := C + 5) (n := S + 30) (by omega) (by omega) ?_
    exact kk _ _ _ _ _ _ (Rel_up hsim.2.2 (by omega)) hI2 hPC2 hPM2 hS (lv_sub hl [2, 3, 4, 5, 6] rfl)
set_option maxHeartbeats 4000000 in
set_option maxRecDepth 100000 in
theorem LC_9 {p : Program} {e : Env} {s : State} {m : MethodId} {below : List Frame} {meth : Method} {c : Code} {l : Launch} {b L : Nat} {xs : Nat → Int32} {D : va_G} {cI cO cL : ClassId} {qc qm : Nat → Nat} (hl9 : l.stackTraces = false) (C0 : lw_At p s m meth c b L xs) (hk : bK D [(cI, .int), (cO, .object RX2)] s) (hX : bXe (fun q : Nat => s.heap.size ≤ q) s s.heap) (hKL : va_K D vwCl [(cL, .long)] s) (hN : bNC s) (hq : bInj 24 qc) (hqm : bInj 7 qm) (hqq : ∀ i j : Nat, i < 24 → j < 7 → qc i ≠ qm j) (hgc : ∀ i : Nat, i < 24 → s.heap.size ≤ qc i) (hgm : ∀ j : Nat, j < 7 → s.heap.size ≤ qm j) {B : Nat} (hB : B + 2600000 < 2000000000) (hB0 : 100000 ≤ B) {a bb : bU} {g : Nat → Int64} (hR : Rel B a bb) (hI : mInv bb) {i : Nat} (hi : i + 4 ≤ L) (hL : L ≤ 2048) {H : Heap} {locs : List Loc} (hPC : va_P D vwCl (wCo cI cO cL qc a g) H) (hPM : va_P D vwCl (wM cI qm bb) H) (hS : va_S (fun q : Nat => s.heap.size ≤ q) s.heap H locs) {ls : Array Slot} (hl : lv_has ls 9 [(0, .ref b), (1, .ref (qc 0)), (2, .ref (qm 0)), (3, .ref (qc 23)), (4, .int (nI i))]) {C S : Nat} (hC : C + 5 ≤ 601024) (hSl : S + 30 ≤ 7293034) {Q : State → Prop} (kk : ∀ (a2 b2 : bU) (g2 : Nat → Int64) (H2 : Heap) (locs2 : List Loc) (ls2 : Array Slot), Rel (B + 2600000) a2 b2 → mInv b2 → va_P D vwCl (wCo cI cO cL qc a2 g2) H2 → va_P D vwCl (wM cI qm b2) H2 → va_S (fun q : Nat => s.heap.size ≤ q) s.heap H2 locs2 → lv_has ls2 9 [(0, .ref b), (1, .ref (qc 0)), (2, .ref (qm 0)), (3, .ref (qc 23)), (4, .int (nI i))] → W p l e room_1 s m #[Value.ref b] below meth c H2 locs2 (C + 5) (S + 30) Q (F0 m 2009 ls2 [])) : W p l e room_1 s m #[Value.ref b] below meth c H locs C S Q (F0 m 808 ls []) := by
  obtain ⟨hx, hb, hr, hml, hown, hts0, hXs, hbl, hlocks, hgv⟩ := C0
  have hts : ∀ w ∈ wsL_law, w.before #[Value.ref b] s = true := fun w h => hts0 w (wsL_law_in w h)
  have hbA : ¬ (fun q : Nat => s.heap.size ≤ q) b := Nat.not_le.mpr hbl
  have hk6 : bK D [(cI, .int)] s := ⟨va_K.sub hk.1 [0] rfl, hk.2⟩
  refine lv_aload_n hx hb dL_law_808 rfl (lv_at hl 1 rfl) ?_
  refine lv_aload_n hx hb dL_law_809 rfl (lv_at hl 0 rfl) ?_
  refine lv_iload hx hb dL_law_810 (lv_at hl 4 rfl) ?_
  refine lv_iconst (v := 1) hx hb dL_law_812 (by decide) ?_
  refine lv_iadd hx hb dL_law_813 ?_
  refine lv_topi (fun z9 hz9 => ?_)
  obtain rfl : z9 = nI (i + 1) := hz9.trans (nI_add i 1)
  refine va_sld hx hb hXs hbl hbA hS (vp_in_nI (by omega) (by omega)) dL_law_814 ?_
  refine lv_aload_n hx hb dL_law_815 rfl (lv_at hl 0 rfl) ?_
  refine lv_iload hx hb dL_law_816 (lv_at hl 4 rfl) ?_
  refine lv_iconst (v := 2) hx hb dL_law_818 (by decide) ?_
  refine lv_iadd hx hb dL_law_819 ?_
  refine lv_topi (fun z9 hz9 => ?_)
  obtain rfl : z9 = nI (i + 2) := hz9.trans (nI_add i 2)
  refine va_sld hx hb hXs hbl hbA hS (vp_in_nI (by omega) (by omega)) dL_law_820 ?_
  refine lv_aload_n hx hb dL_law_821 rfl (lv_at hl 3 rfl) ?_
  have hAB : ∀ x : Nat, bA 24 qc H.size x → s.heap.size ≤ x := fun x hx9 => hx9.elim (fun ⟨k9, h9, e9⟩ => e9 ▸ hgc k9 h9) (fun h9 => Nat.le_trans hS.1 h9)
  refine va_calli (vx_runSW (As := [.ref (qc 0), .int (xs (nI (i + 1)).toNatClampNeg), .int (xs (nI (i + 2)).toNatClampNeg), .ref (qc 23)]) (rest := []) ⟨hx, hb, hml, hown, hts⟩ (CL_lose l D cI cO cL qc a g H hq hl9 hPC (xs (nI (i + 1)).toNatClampNeg) (xs (nI (i + 2)).toNatClampNeg) (lat_of hR)) (vx_cwSW 4 hts gL_law_L_lose rfl rfl rfl bd_Llose ⟨Nat.le_of_ble_eq_true rfl, Nat.le_of_ble_eq_true rfl⟩) (bPSL hk hX hKL hN hS hAB) rfl rfl hl.1 rfl (lv_room (Nat.le_of_ble_eq_true rfl)) dL_law_822 ⟨by show _ ≤ 601024; omega, by show _ ≤ 7293034; omega⟩) hS (fun x _ h => hAB x h) hAB (fun r g1 t H1 locs ht _ hw hB1 hz1 hk1 hS => ?_)
  rw [ht] at hB1
  clear ht
  have hPM := wM_k hPM hk1 hqq hqm
  refine W.widen (k := C + 5) (n := S + 30) (by omega) (by omega) ?_
  refine lv_istore (lv' := [(5, .int r), (0, .ref b), (1, .ref (qc 0)), (2, .ref (qm 0)), (3, .ref (qc 23)), (4, .int (nI i))]) hx hb dL_law_825 hl (by decide) rfl (fun ls hl => ?_)
  refine lv_aload_n hx hb dL_law_827 rfl (lv_at hl 3 rfl) ?_
  refine lv_aload_n hx hb dL_law_828 rfl (lv_at hl 1 rfl) ?_
  refine lv_iload hx hb dL_law_829 (lv_at hl 5 rfl) ?_
  refine lv_iconst (v := 1) hx hb dL_law_831 (by decide) ?_
  refine lv_iadd hx hb dL_law_832 ?_
  refine lv_topi (fun z9 hz9 => ?_)
  obtain rfl : z9 = nI (i + 1) := hz9.trans (nI_add i 1)
  refine va_sld hx hb hXs hbl hbA hS (vp_in_nI (by omega) (by omega)) dL_law_833 ?_
  refine lv_aload_n hx hb dL_law_834 rfl (lv_at hl 1 rfl) ?_
  refine lv_iload hx hb dL_law_835 (lv_at hl 5 rfl) ?_
  refine lv_iconst (v := 2) hx hb dL_law_837 (by decide) ?_
  refine lv_iadd hx hb dL_law_838 ?_
  refine lv_topi (fun z9 hz9 => ?_)
  obtain rfl : z9 = nI (i + 2) := hz9.trans (nI_add i 2)
  refine va_sld hx hb hXs hbl hbA hS (vp_in_nI (by omega) (by omega)) dL_law_839 ?_
  have hsim := st_lose (by omega) hR (xs (nI (i + 1)).toNatClampNeg) (xs (nI (i + 2)).toNatClampNeg)
  have hAM : ∀ x : Nat, bA 7 qm H1.size x → s.heap.size ≤ x := fun x hx9 => hx9.elim (fun ⟨k9, h9, e9⟩ => e9 ▸ hgm k9 h9) (fun h9 => Nat.le_trans hS.1 h9)
  refine va_calli (va_runV (As := [.int (xs (nI (i + 1)).toNatClampNeg), .int (xs (nI (i + 2)).toNatClampNeg)]) (rest := []) ⟨hx, hb, hml, hown, hts⟩ (C6_lose l D cI qm bb H1 hqm hPM hI (xs (nI (i + 1)).toNatClampNeg) (xs (nI (i + 2)).toNatClampNeg)) (cwV 2 hts gL_law_X6_lose rfl rfl rfl ⟨rfl, bd_X6lose⟩ ⟨Nat.le_of_ble_eq_true rfl, Nat.le_of_ble_eq_true rfl⟩) (bPV hk6 (va_recv hk6.1 hPM (ci := 6) (q0 := 0) rfl (wM_0 _ _ _))) rfl rfl hl.1 rfl (lv_room (Nat.le_of_ble_eq_true rfl)) dL_law_840 ⟨by show _ ≤ 601024; omega, by show _ ≤ 7293034; omega⟩) hS (fun x _ h => hAM x h) hAM (fun y b2 t H2 locs ht _ hw2 hB2 hz2 hk2 hS => ?_)
  rw [ht] at hB2
  clear ht
  obtain rfl : y = (F6_lose bb (xs (nI (i + 1)).toNatClampNeg) (xs (nI (i + 2)).toNatClampNeg)).1 := by rw [← hw2]
  obtain rfl : b2 = (F6_lose bb (xs (nI (i + 1)).toNatClampNeg) (xs (nI (i + 2)).toNatClampNeg)).2 := by rw [← hw2]
  obtain ⟨hPM2, hI2⟩ := hB2
  have hPC2 := wCo_m hB1 hk2 hqq hq
  refine lv_istore (lv' := [(6, .int (F6_lose bb (xs (nI (i + 1)).toNatClampNeg) (xs (nI (i + 2)).toNatClampNeg)).1), (5, .int r), (0, .ref b), (1, .ref (qc 0)), (2, .ref (qm 0)), (3, .ref (qc 23)), (4, .int (nI i))]) hx hb dL_law_843 hl (by decide) rfl (fun ls hl => ?_)
  refine lv_aload_n hx hb dL_law_845 rfl (lv_at hl 4 rfl) ?_
  refine bcall_Ri (va_runV (As := []) (rest := []) ⟨hx, hb, hml, hown, hts⟩ (C6_thrown l D cI qm _ _ hPM2 hI2) (cwV 0 hts gL_law_X6_thrown rfl rfl rfl ⟨rfl, bd_X6thrown⟩ ⟨Nat.le_of_ble_eq_true rfl, Nat.le_of_ble_eq_true rfl⟩) (bPV hk6 (va_recv hk6.1 hPM2 (ci := 6) (q0 := 0) rfl (wM_0 _ _ _))) rfl rfl hl.1 rfl (lv_room (Nat.le_of_ble_eq_true rfl)) dL_law_846 ⟨by show _ ≤ 601024; omega, by show _ ≤ 7293034; omega⟩) hS (fun locs hS => ?_)
  refine lv_iload hx hb dL_law_849 (lv_at hl 1 rfl) ?_
  refine lv_icmp_eq (tgt := 856) hx hb dL_law_851 (by decide) (fun _ => ?_) (fun c9 => absurd (hsim.1.trans hw.1.symm) c9)
  refine lv_iload hx hb dL_law_856 (lv_at hl 1 rfl) ?_
  refine lv_if_ne (tgt := 873) hx hb dL_law_858 (by decide) (fun c9 => ?_) (fun c9 => ?_)
  · refine lv_goto (tgt := 2009) hx hb dL_law_873 (by decide) ?_
    refine W.widen (k := C + 5) (n := S + 30) (by omega) (by omega) ?_
    exact kk _ _ _ _ _ _ (Rel_up hsim.2.2 (by omega)) hI2 hPC2 hPM2 hS (lv_sub hl [2, 3, 4, 5, 6] rfl)
  · refine lv_aload_n hx hb dL_law_861 rfl (lv_at hl 5 rfl) ?_
    refine lv_iconst (v := 0) hx hb dL_law_862 (by decide) ?_
    refine va_lald hx hb hKL hPC2 23 0 rfl rfl (vp_in_nI (n := 0) (by decide) (by decide)) dL_law_863 ?_
    refine lv_iload hx hb dL_law_864 (lv_at hl 0 rfl) ?_
    refine lv_i2l (v := ((F6_lose bb (xs (nI (i + 1)).toNatClampNeg) (xs (nI (i + 2)).toNatClampNeg)).1).toInt64) hx hb dL_law_866 rfl ?_
    refine W.lcmp hx hb dL_law_867 ?_
    have hv0 : (F5_lose a (xs (nI (i + 1)).toNatClampNeg) (xs (nI (i + 2)).toNatClampNeg)).1 = 0 := hw.1.symm.trans c9
    rw [show (0 : Int32).toNatClampNeg = 0 from by decide, lg_cmp_same ((hw.2 hv0).trans (congrArg Int32.toInt64 (hsim.2.1 hv0)))]
    refine lv_if_eq (tgt := 873) hx hb dL_law_868 (by decide) (fun _ => ?_) (fun h9 => absurd rfl h9)
    refine lv_goto (tgt := 2009) hx hb dL_law_873 (by decide) ?_
    refine W.widen (k := C + 5) (n := S + 30) (by omega) (by omega) ?_
    exact kk _ _ _ _ _ _ (Rel_up hsim.2.2 (by omega)) hI2 hPC2 hPM2 hS (lv_sub hl [2, 3, 4, 5, 6] rfl)
set_option maxHeartbeats 4000000 in
set_option maxRecDepth 100000 in
theorem LC_10 {p : Program} {e : Env} {s : State} {m : MethodId} {below : List Frame} {meth : Method} {c : Code} {l : Launch} {b L : Nat} {xs : Nat → Int32} {D : va_G} {cI cO cL : ClassId} {qc qm : Nat → Nat} (hl9 : l.stackTraces = false) (C0 : lw_At p s m meth c b L xs) (hk : bK D [(cI, .int), (cO, .object RX2)] s) (hX : bXe (fun q : Nat => s.heap.size ≤ q) s s.heap) (hKL : va_K D vwCl [(cL, .long)] s) (hN : bNC s) (hq : bInj 24 qc) (hqm : bInj 7 qm) (hqq : ∀ i j : Nat, i < 24 → j < 7 → qc i ≠ qm j) (hgc : ∀ i : Nat, i < 24 → s.heap.size ≤ qc i) (hgm : ∀ j : Nat, j < 7 → s.heap.size ≤ qm j) {B : Nat} (hB : B + 2600000 < 2000000000) (hB0 : 100000 ≤ B) {a bb : bU} {g : Nat → Int64} (hR : Rel B a bb) (hI : mInv bb) {i : Nat} (hi : i + 4 ≤ L) (hL : L ≤ 2048) {H : Heap} {locs : List Loc} (hPC : va_P D vwCl (wCo cI cO cL qc a g) H) (hPM : va_P D vwCl (wM cI qm bb) H) (hS : va_S (fun q : Nat => s.heap.size ≤ q) s.heap H locs) {ls : Array Slot} (hl : lv_has ls 9 [(0, .ref b), (1, .ref (qc 0)), (2, .ref (qm 0)), (3, .ref (qc 23)), (4, .int (nI i))]) {C S : Nat} (hC : C + 5 ≤ 601024) (hSl : S + 30 ≤ 7293034) {Q : State → Prop} (kk : ∀ (a2 b2 : bU) (g2 : Nat → Int64) (H2 : Heap) (locs2 : List Loc) (ls2 : Array Slot), Rel (B + 2600000) a2 b2 → mInv b2 → va_P D vwCl (wCo cI cO cL qc a2 g2) H2 → va_P D vwCl (wM cI qm b2) H2 → va_S (fun q : Nat => s.heap.size ≤ q) s.heap H2 locs2 → lv_has ls2 9 [(0, .ref b), (1, .ref (qc 0)), (2, .ref (qm 0)), (3, .ref (qc 23)), (4, .int (nI i))] → W p l e room_1 s m #[Value.ref b] below meth c H2 locs2 (C + 5) (S + 30) Q (F0 m 2009 ls2 [])) : W p l e room_1 s m #[Value.ref b] below meth c H locs C S Q (F0 m 876 ls []) := by
  obtain ⟨hx, hb, hr, hml, hown, hts0, hXs, hbl, hlocks, hgv⟩ := C0
  have hts : ∀ w ∈ wsL_law, w.before #[Value.ref b] s = true := fun w h => hts0 w (wsL_law_in w h)
  have hbA : ¬ (fun q : Nat => s.heap.size ≤ q) b := Nat.not_le.mpr hbl
  have hk6 : bK D [(cI, .int)] s := ⟨va_K.sub hk.1 [0] rfl, hk.2⟩
  refine lv_aload_n hx hb dL_law_876 rfl (lv_at hl 1 rfl) ?_
  refine lv_aload_n hx hb dL_law_877 rfl (lv_at hl 0 rfl) ?_
  refine lv_iload hx hb dL_law_878 (lv_at hl 4 rfl) ?_
  refine lv_iconst (v := 1) hx hb dL_law_880 (by decide) ?_
  refine lv_iadd hx hb dL_law_881 ?_
  refine lv_topi (fun z9 hz9 => ?_)
  obtain rfl : z9 = nI (i + 1) := hz9.trans (nI_add i 1)
  refine va_sld hx hb hXs hbl hbA hS (vp_in_nI (by omega) (by omega)) dL_law_882 ?_
  refine lv_aload_n hx hb dL_law_883 rfl (lv_at hl 0 rfl) ?_
  refine lv_iload hx hb dL_law_884 (lv_at hl 4 rfl) ?_
  refine lv_iconst (v := 2) hx hb dL_law_886 (by decide) ?_
  refine lv_iadd hx hb dL_law_887 ?_
  refine lv_topi (fun z9 hz9 => ?_)
  obtain rfl : z9 = nI (i + 2) := hz9.trans (nI_add i 2)
  refine va_sld hx hb hXs hbl hbA hS (vp_in_nI (by omega) (by omega)) dL_law_888 ?_
  refine lv_aload_n hx hb dL_law_889 rfl (lv_at hl 0 rfl) ?_
  refine lv_iload hx hb dL_law_890 (lv_at hl 4 rfl) ?_
  refine lv_iconst (v := 3) hx hb dL_law_892 (by decide) ?_
  refine lv_iadd hx hb dL_law_893 ?_
  refine lv_topi (fun z9 hz9 => ?_)
  obtain rfl : z9 = nI (i + 3) := hz9.trans (nI_add i 3)
  refine va_sld hx hb hXs hbl hbA hS (vp_in_nI (by omega) (by omega)) dL_law_894 ?_
  refine lv_aload_n hx hb dL_law_895 rfl (lv_at hl 3 rfl) ?_
  have hAB : ∀ x : Nat, bA 24 qc H.size x → s.heap.size ≤ x := fun x hx9 => hx9.elim (fun ⟨k9, h9, e9⟩ => e9 ▸ hgc k9 h9) (fun h9 => Nat.le_trans hS.1 h9)
  refine va_calli (vx_runSW (As := [.ref (qc 0), .int (xs (nI (i + 1)).toNatClampNeg), .int (xs (nI (i + 2)).toNatClampNeg), .int (xs (nI (i + 3)).toNatClampNeg), .ref (qc 23)]) (rest := []) ⟨hx, hb, hml, hown, hts⟩ (CL_collect l D cI cO cL qc a g H hq hl9 hPC (xs (nI (i + 1)).toNatClampNeg) (xs (nI (i + 2)).toNatClampNeg) (xs (nI (i + 3)).toNatClampNeg) (lat_of hR)) (vx_cwSW 5 hts gL_law_L_collect rfl rfl rfl bd_Lcollect ⟨Nat.le_of_ble_eq_true rfl, Nat.le_of_ble_eq_true rfl⟩) (bPSL hk hX hKL hN hS hAB) rfl rfl hl.1 rfl (lv_room (Nat.le_of_ble_eq_true rfl)) dL_law_896 ⟨by show _ ≤ 601024; omega, by show _ ≤ 7293034; omega⟩) hS (fun x _ h => hAB x h) hAB (fun r g1 t H1 locs ht _ hw hB1 hz1 hk1 hS => ?_)
  rw [ht] at hB1
  clear ht
  have hPM := wM_k hPM hk1 hqq hqm
  refine W.widen (k := C + 5) (n := S + 30) (by omega) (by omega) ?_
  refine lv_istore (lv' := [(5, .int r), (0, .ref b), (1, .ref (qc 0)), (2, .ref (qm 0)), (3, .ref (qc 23)), (4, .int (nI i))]) hx hb dL_law_899 hl (by decide) rfl (fun ls hl => ?_)
  refine lv_aload_n hx hb dL_law_901 rfl (lv_at hl 3 rfl) ?_
  refine lv_aload_n hx hb dL_law_902 rfl (lv_at hl 1 rfl) ?_
  refine lv_iload hx hb dL_law_903 (lv_at hl 5 rfl) ?_
  refine lv_iconst (v := 1) hx hb dL_law_905 (by decide) ?_
  refine lv_iadd hx hb dL_law_906 ?_
  refine lv_topi (fun z9 hz9 => ?_)
  obtain rfl : z9 = nI (i + 1) := hz9.trans (nI_add i 1)
  refine va_sld hx hb hXs hbl hbA hS (vp_in_nI (by omega) (by omega)) dL_law_907 ?_
  refine lv_aload_n hx hb dL_law_908 rfl (lv_at hl 1 rfl) ?_
  refine lv_iload hx hb dL_law_909 (lv_at hl 5 rfl) ?_
  refine lv_iconst (v := 2) hx hb dL_law_911 (by decide) ?_
  refine lv_iadd hx hb dL_law_912 ?_
  refine lv_topi (fun z9 hz9 => ?_)
  obtain rfl : z9 = nI (i + 2) := hz9.trans (nI_add i 2)
  refine va_sld hx hb hXs hbl hbA hS (vp_in_nI (by omega) (by omega)) dL_law_913 ?_
  refine lv_aload_n hx hb dL_law_914 rfl (lv_at hl 1 rfl) ?_
  refine lv_iload hx hb dL_law_915 (lv_at hl 5 rfl) ?_
  refine lv_iconst (v := 3) hx hb dL_law_917 (by decide) ?_
  refine lv_iadd hx hb dL_law_918 ?_
  refine lv_topi (fun z9 hz9 => ?_)
  obtain rfl : z9 = nI (i + 3) := hz9.trans (nI_add i 3)
  refine va_sld hx hb hXs hbl hbA hS (vp_in_nI (by omega) (by omega)) dL_law_919 ?_
  have hsim := st_collect (by omega) hR (xs (nI (i + 1)).toNatClampNeg) (xs (nI (i + 2)).toNatClampNeg) (xs (nI (i + 3)).toNatClampNeg)
  have hAM : ∀ x : Nat, bA 7 qm H1.size x → s.heap.size ≤ x := fun x hx9 => hx9.elim (fun ⟨k9, h9, e9⟩ => e9 ▸ hgm k9 h9) (fun h9 => Nat.le_trans hS.1 h9)
  refine va_calli (va_runV (As := [.int (xs (nI (i + 1)).toNatClampNeg), .int (xs (nI (i + 2)).toNatClampNeg), .int (xs (nI (i + 3)).toNatClampNeg)]) (rest := []) ⟨hx, hb, hml, hown, hts⟩ (C6_collect l D cI qm bb H1 hqm hPM hI (xs (nI (i + 1)).toNatClampNeg) (xs (nI (i + 2)).toNatClampNeg) (xs (nI (i + 3)).toNatClampNeg)) (cwV 3 hts gL_law_X6_collect rfl rfl rfl ⟨rfl, bd_X6collect⟩ ⟨Nat.le_of_ble_eq_true rfl, Nat.le_of_ble_eq_true rfl⟩) (bPV hk6 (va_recv hk6.1 hPM (ci := 6) (q0 := 0) rfl (wM_0 _ _ _))) rfl rfl hl.1 rfl (lv_room (Nat.le_of_ble_eq_true rfl)) dL_law_920 ⟨by show _ ≤ 601024; omega, by show _ ≤ 7293034; omega⟩) hS (fun x _ h => hAM x h) hAM (fun y b2 t H2 locs ht _ hw2 hB2 hz2 hk2 hS => ?_)
  rw [ht] at hB2
  clear ht
  obtain rfl : y = (F6_collect bb (xs (nI (i + 1)).toNatClampNeg) (xs (nI (i + 2)).toNatClampNeg) (xs (nI (i + 3)).toNatClampNeg)).1 := by rw [← hw2]
  obtain rfl : b2 = (F6_collect bb (xs (nI (i + 1)).toNatClampNeg) (xs (nI (i + 2)).toNatClampNeg) (xs (nI (i + 3)).toNatClampNeg)).2 := by rw [← hw2]
  obtain ⟨hPM2, hI2⟩ := hB2
  have hPC2 := wCo_m hB1 hk2 hqq hq
  refine lv_istore (lv' := [(6, .int (F6_collect bb (xs (nI (i + 1)).toNatClampNeg) (xs (nI (i + 2)).toNatClampNeg) (xs (nI (i + 3)).toNatClampNeg)).1), (5, .int r), (0, .ref b), (1, .ref (qc 0)), (2, .ref (qm 0)), (3, .ref (qc 23)), (4, .int (nI i))]) hx hb dL_law_923 hl (by decide) rfl (fun ls hl => ?_)
  refine lv_aload_n hx hb dL_law_925 rfl (lv_at hl 4 rfl) ?_
  refine bcall_Ri (va_runV (As := []) (rest := []) ⟨hx, hb, hml, hown, hts⟩ (C6_thrown l D cI qm _ _ hPM2 hI2) (cwV 0 hts gL_law_X6_thrown rfl rfl rfl ⟨rfl, bd_X6thrown⟩ ⟨Nat.le_of_ble_eq_true rfl, Nat.le_of_ble_eq_true rfl⟩) (bPV hk6 (va_recv hk6.1 hPM2 (ci := 6) (q0 := 0) rfl (wM_0 _ _ _))) rfl rfl hl.1 rfl (lv_room (Nat.le_of_ble_eq_true rfl)) dL_law_926 ⟨by show _ ≤ 601024; omega, by show _ ≤ 7293034; omega⟩) hS (fun locs hS => ?_)
  refine lv_iload hx hb dL_law_929 (lv_at hl 1 rfl) ?_
  refine lv_icmp_eq (tgt := 936) hx hb dL_law_931 (by decide) (fun _ => ?_) (fun c9 => absurd (hsim.1.trans hw.1.symm) c9)
  refine lv_iload hx hb dL_law_936 (lv_at hl 1 rfl) ?_
  refine lv_if_ne (tgt := 953) hx hb dL_law_938 (by decide) (fun c9 => ?_) (fun c9 => ?_)
  · refine lv_goto (tgt := 2009) hx hb dL_law_953 (by decide) ?_
    refine W.widen (k := C + 5) (n := S + 30) (by omega) (by omega) ?_
    exact kk _ _ _ _ _ _ (Rel_up hsim.2.2 (by omega)) hI2 hPC2 hPM2 hS (lv_sub hl [2, 3, 4, 5, 6] rfl)
  · refine lv_aload_n hx hb dL_law_941 rfl (lv_at hl 5 rfl) ?_
    refine lv_iconst (v := 0) hx hb dL_law_942 (by decide) ?_
    refine va_lald hx hb hKL hPC2 23 0 rfl rfl (vp_in_nI (n := 0) (by decide) (by decide)) dL_law_943 ?_
    refine lv_iload hx hb dL_law_944 (lv_at hl 0 rfl) ?_
    refine lv_i2l (v := ((F6_collect bb (xs (nI (i + 1)).toNatClampNeg) (xs (nI (i + 2)).toNatClampNeg) (xs (nI (i + 3)).toNatClampNeg)).1).toInt64) hx hb dL_law_946 rfl ?_
    refine W.lcmp hx hb dL_law_947 ?_
    have hv0 : (F5_collect a (xs (nI (i + 1)).toNatClampNeg) (xs (nI (i + 2)).toNatClampNeg) (xs (nI (i + 3)).toNatClampNeg)).1 = 0 := hw.1.symm.trans c9
    rw [show (0 : Int32).toNatClampNeg = 0 from by decide, lg_cmp_same ((hw.2 hv0).trans (congrArg Int32.toInt64 (hsim.2.1 hv0)))]
    refine lv_if_eq (tgt := 953) hx hb dL_law_948 (by decide) (fun _ => ?_) (fun h9 => absurd rfl h9)
    refine lv_goto (tgt := 2009) hx hb dL_law_953 (by decide) ?_
    refine W.widen (k := C + 5) (n := S + 30) (by omega) (by omega) ?_
    exact kk _ _ _ _ _ _ (Rel_up hsim.2.2 (by omega)) hI2 hPC2 hPM2 hS (lv_sub hl [2, 3, 4, 5, 6] rfl)
set_option maxHeartbeats 4000000 in
set_option maxRecDepth 100000 in
theorem LC_11 {p : Program} {e : Env} {s : State} {m : MethodId} {below : List Frame} {meth : Method} {c : Code} {l : Launch} {b L : Nat} {xs : Nat → Int32} {D : va_G} {cI cO cL : ClassId} {qc qm : Nat → Nat} (hl9 : l.stackTraces = false) (C0 : lw_At p s m meth c b L xs) (hk : bK D [(cI, .int), (cO, .object RX2)] s) (hX : bXe (fun q : Nat => s.heap.size ≤ q) s s.heap) (hKL : va_K D vwCl [(cL, .long)] s) (hN : bNC s) (hq : bInj 24 qc) (hqm : bInj 7 qm) (hqq : ∀ i j : Nat, i < 24 → j < 7 → qc i ≠ qm j) (hgc : ∀ i : Nat, i < 24 → s.heap.size ≤ qc i) (hgm : ∀ j : Nat, j < 7 → s.heap.size ≤ qm j) {B : Nat} (hB : B + 2600000 < 2000000000) (hB0 : 100000 ≤ B) {a bb : bU} {g : Nat → Int64} (hR : Rel B a bb) (hI : mInv bb) {i : Nat} (hi : i + 4 ≤ L) (hL : L ≤ 2048) {H : Heap} {locs : List Loc} (hPC : va_P D vwCl (wCo cI cO cL qc a g) H) (hPM : va_P D vwCl (wM cI qm bb) H) (hS : va_S (fun q : Nat => s.heap.size ≤ q) s.heap H locs) {ls : Array Slot} (hl : lv_has ls 9 [(0, .ref b), (1, .ref (qc 0)), (2, .ref (qm 0)), (3, .ref (qc 23)), (4, .int (nI i))]) {C S : Nat} (hC : C + 5 ≤ 601024) (hSl : S + 30 ≤ 7293034) {Q : State → Prop} (kk : ∀ (a2 b2 : bU) (g2 : Nat → Int64) (H2 : Heap) (locs2 : List Loc) (ls2 : Array Slot), Rel (B + 2600000) a2 b2 → mInv b2 → va_P D vwCl (wCo cI cO cL qc a2 g2) H2 → va_P D vwCl (wM cI qm b2) H2 → va_S (fun q : Nat => s.heap.size ≤ q) s.heap H2 locs2 → lv_has ls2 9 [(0, .ref b), (1, .ref (qc 0)), (2, .ref (qm 0)), (3, .ref (qc 23)), (4, .int (nI i))] → W p l e room_1 s m #[Value.ref b] below meth c H2 locs2 (C + 5) (S + 30) Q (F0 m 2009 ls2 [])) : W p l e room_1 s m #[Value.ref b] below meth c H locs C S Q (F0 m 956 ls []) := by
  obtain ⟨hx, hb, hr, hml, hown, hts0, hXs, hbl, hlocks, hgv⟩ := C0
  have hts : ∀ w ∈ wsL_law, w.before #[Value.ref b] s = true := fun w h => hts0 w (wsL_law_in w h)
  have hbA : ¬ (fun q : Nat => s.heap.size ≤ q) b := Nat.not_le.mpr hbl
  have hk6 : bK D [(cI, .int)] s := ⟨va_K.sub hk.1 [0] rfl, hk.2⟩
  refine lv_aload_n hx hb dL_law_956 rfl (lv_at hl 1 rfl) ?_
  refine lv_aload_n hx hb dL_law_957 rfl (lv_at hl 0 rfl) ?_
  refine lv_iload hx hb dL_law_958 (lv_at hl 4 rfl) ?_
  refine lv_iconst (v := 1) hx hb dL_law_960 (by decide) ?_
  refine lv_iadd hx hb dL_law_961 ?_
  refine lv_topi (fun z9 hz9 => ?_)
  obtain rfl : z9 = nI (i + 1) := hz9.trans (nI_add i 1)
  refine va_sld hx hb hXs hbl hbA hS (vp_in_nI (by omega) (by omega)) dL_law_962 ?_
  refine lv_aload_n hx hb dL_law_963 rfl (lv_at hl 0 rfl) ?_
  refine lv_iload hx hb dL_law_964 (lv_at hl 4 rfl) ?_
  refine lv_iconst (v := 2) hx hb dL_law_966 (by decide) ?_
  refine lv_iadd hx hb dL_law_967 ?_
  refine lv_topi (fun z9 hz9 => ?_)
  obtain rfl : z9 = nI (i + 2) := hz9.trans (nI_add i 2)
  refine va_sld hx hb hXs hbl hbA hS (vp_in_nI (by omega) (by omega)) dL_law_968 ?_
  refine lv_aload_n hx hb dL_law_969 rfl (lv_at hl 3 rfl) ?_
  have hAB : ∀ x : Nat, bA 24 qc H.size x → s.heap.size ≤ x := fun x hx9 => hx9.elim (fun ⟨k9, h9, e9⟩ => e9 ▸ hgc k9 h9) (fun h9 => Nat.le_trans hS.1 h9)
  refine va_calli (vx_runSW (As := [.ref (qc 0), .int (xs (nI (i + 1)).toNatClampNeg), .int (xs (nI (i + 2)).toNatClampNeg), .ref (qc 23)]) (rest := []) ⟨hx, hb, hml, hown, hts⟩ (CL_sort l D cI cO cL qc a g H hq hl9 hPC (xs (nI (i + 1)).toNatClampNeg) (xs (nI (i + 2)).toNatClampNeg) (lat_of hR)) (vx_cwSW 4 hts gL_law_L_sort rfl rfl rfl bd_Lsort ⟨Nat.le_of_ble_eq_true rfl, Nat.le_of_ble_eq_true rfl⟩) (bPSL hk hX hKL hN hS hAB) rfl rfl hl.1 rfl (lv_room (Nat.le_of_ble_eq_true rfl)) dL_law_970 ⟨by show _ ≤ 601024; omega, by show _ ≤ 7293034; omega⟩) hS (fun x _ h => hAB x h) hAB (fun r g1 t H1 locs ht _ hw hB1 hz1 hk1 hS => ?_)
  rw [ht] at hB1
  clear ht
  have hPM := wM_k hPM hk1 hqq hqm
  refine W.widen (k := C + 5) (n := S + 30) (by omega) (by omega) ?_
  refine lv_istore (lv' := [(5, .int r), (0, .ref b), (1, .ref (qc 0)), (2, .ref (qm 0)), (3, .ref (qc 23)), (4, .int (nI i))]) hx hb dL_law_973 hl (by decide) rfl (fun ls hl => ?_)
  refine lv_aload_n hx hb dL_law_975 rfl (lv_at hl 3 rfl) ?_
  refine lv_aload_n hx hb dL_law_976 rfl (lv_at hl 1 rfl) ?_
  refine lv_iload hx hb dL_law_977 (lv_at hl 5 rfl) ?_
  refine lv_iconst (v := 1) hx hb dL_law_979 (by decide) ?_
  refine lv_iadd hx hb dL_law_980 ?_
  refine lv_topi (fun z9 hz9 => ?_)
  obtain rfl : z9 = nI (i + 1) := hz9.trans (nI_add i 1)
  refine va_sld hx hb hXs hbl hbA hS (vp_in_nI (by omega) (by omega)) dL_law_981 ?_
  refine lv_aload_n hx hb dL_law_982 rfl (lv_at hl 1 rfl) ?_
  refine lv_iload hx hb dL_law_983 (lv_at hl 5 rfl) ?_
  refine lv_iconst (v := 2) hx hb dL_law_985 (by decide) ?_
  refine lv_iadd hx hb dL_law_986 ?_
  refine lv_topi (fun z9 hz9 => ?_)
  obtain rfl : z9 = nI (i + 2) := hz9.trans (nI_add i 2)
  refine va_sld hx hb hXs hbl hbA hS (vp_in_nI (by omega) (by omega)) dL_law_987 ?_
  have hsim := st_sort (by omega) hR (xs (nI (i + 1)).toNatClampNeg) (xs (nI (i + 2)).toNatClampNeg)
  have hAM : ∀ x : Nat, bA 7 qm H1.size x → s.heap.size ≤ x := fun x hx9 => hx9.elim (fun ⟨k9, h9, e9⟩ => e9 ▸ hgm k9 h9) (fun h9 => Nat.le_trans hS.1 h9)
  refine va_calli (va_runV (As := [.int (xs (nI (i + 1)).toNatClampNeg), .int (xs (nI (i + 2)).toNatClampNeg)]) (rest := []) ⟨hx, hb, hml, hown, hts⟩ (C6_sort l D cI qm bb H1 hqm hPM hI (xs (nI (i + 1)).toNatClampNeg) (xs (nI (i + 2)).toNatClampNeg)) (cwV 2 hts gL_law_X6_sort rfl rfl rfl ⟨rfl, bd_X6sort⟩ ⟨Nat.le_of_ble_eq_true rfl, Nat.le_of_ble_eq_true rfl⟩) (bPV hk6 (va_recv hk6.1 hPM (ci := 6) (q0 := 0) rfl (wM_0 _ _ _))) rfl rfl hl.1 rfl (lv_room (Nat.le_of_ble_eq_true rfl)) dL_law_988 ⟨by show _ ≤ 601024; omega, by show _ ≤ 7293034; omega⟩) hS (fun x _ h => hAM x h) hAM (fun y b2 t H2 locs ht _ hw2 hB2 hz2 hk2 hS => ?_)
  rw [ht] at hB2
  clear ht
  obtain rfl : y = (F6_sort bb (xs (nI (i + 1)).toNatClampNeg) (xs (nI (i + 2)).toNatClampNeg)).1 := by rw [← hw2]
  obtain rfl : b2 = (F6_sort bb (xs (nI (i + 1)).toNatClampNeg) (xs (nI (i + 2)).toNatClampNeg)).2 := by rw [← hw2]
  obtain ⟨hPM2, hI2⟩ := hB2
  have hPC2 := wCo_m hB1 hk2 hqq hq
  refine lv_istore (lv' := [(6, .int (F6_sort bb (xs (nI (i + 1)).toNatClampNeg) (xs (nI (i + 2)).toNatClampNeg)).1), (5, .int r), (0, .ref b), (1, .ref (qc 0)), (2, .ref (qm 0)), (3, .ref (qc 23)), (4, .int (nI i))]) hx hb dL_law_991 hl (by decide) rfl (fun ls hl => ?_)
  refine lv_aload_n hx hb dL_law_993 rfl (lv_at hl 4 rfl) ?_
  refine bcall_Ri (va_runV (As := []) (rest := []) ⟨hx, hb, hml, hown, hts⟩ (C6_thrown l D cI qm _ _ hPM2 hI2) (cwV 0 hts gL_law_X6_thrown rfl rfl rfl ⟨rfl, bd_X6thrown⟩ ⟨Nat.le_of_ble_eq_true rfl, Nat.le_of_ble_eq_true rfl⟩) (bPV hk6 (va_recv hk6.1 hPM2 (ci := 6) (q0 := 0) rfl (wM_0 _ _ _))) rfl rfl hl.1 rfl (lv_room (Nat.le_of_ble_eq_true rfl)) dL_law_994 ⟨by show _ ≤ 601024; omega, by show _ ≤ 7293034; omega⟩) hS (fun locs hS => ?_)
  refine lv_iload hx hb dL_law_997 (lv_at hl 1 rfl) ?_
  refine lv_icmp_eq (tgt := 1004) hx hb dL_law_999 (by decide) (fun _ => ?_) (fun c9 => absurd (hsim.1.trans hw.1.symm) c9)
  refine lv_iload hx hb dL_law_1004 (lv_at hl 1 rfl) ?_
  refine lv_if_ne (tgt := 1021) hx hb dL_law_1006 (by decide) (fun c9 => ?_) (fun c9 => ?_)
  · refine lv_goto (tgt := 2009) hx hb dL_law_1021 (by decide) ?_
    refine W.widen (k := C + 5) (n := S + 30) (by omega) (by omega) ?_
    exact kk _ _ _ _ _ _ (Rel_up hsim.2.2 (by omega)) hI2 hPC2 hPM2 hS (lv_sub hl [2, 3, 4, 5, 6] rfl)
  · refine lv_aload_n hx hb dL_law_1009 rfl (lv_at hl 5 rfl) ?_
    refine lv_iconst (v := 0) hx hb dL_law_1010 (by decide) ?_
    refine va_lald hx hb hKL hPC2 23 0 rfl rfl (vp_in_nI (n := 0) (by decide) (by decide)) dL_law_1011 ?_
    refine lv_iload hx hb dL_law_1012 (lv_at hl 0 rfl) ?_
    refine lv_i2l (v := ((F6_sort bb (xs (nI (i + 1)).toNatClampNeg) (xs (nI (i + 2)).toNatClampNeg)).1).toInt64) hx hb dL_law_1014 rfl ?_
    refine W.lcmp hx hb dL_law_1015 ?_
    have hv0 : (F5_sort a (xs (nI (i + 1)).toNatClampNeg) (xs (nI (i + 2)).toNatClampNeg)).1 = 0 := cdA_0 (hw.1.symm.trans c9)
    rw [show (0 : Int32).toNatClampNeg = 0 from by decide, lg_cmp_same ((hw.2 hv0).trans (congrArg Int32.toInt64 (hsim.2.1 hv0)))]
    refine lv_if_eq (tgt := 1021) hx hb dL_law_1016 (by decide) (fun _ => ?_) (fun h9 => absurd rfl h9)
    refine lv_goto (tgt := 2009) hx hb dL_law_1021 (by decide) ?_
    refine W.widen (k := C + 5) (n := S + 30) (by omega) (by omega) ?_
    exact kk _ _ _ _ _ _ (Rel_up hsim.2.2 (by omega)) hI2 hPC2 hPM2 hS (lv_sub hl [2, 3, 4, 5, 6] rfl)
set_option maxHeartbeats 4000000 in
set_option maxRecDepth 100000 in
theorem LC_12 {p : Program} {e : Env} {s : State} {m : MethodId} {below : List Frame} {meth : Method} {c : Code} {l : Launch} {b L : Nat} {xs : Nat → Int32} {D : va_G} {cI cO cL : ClassId} {qc qm : Nat → Nat} (hl9 : l.stackTraces = false) (C0 : lw_At p s m meth c b L xs) (hk : bK D [(cI, .int), (cO, .object RX2)] s) (hX : bXe (fun q : Nat => s.heap.size ≤ q) s s.heap) (hKL : va_K D vwCl [(cL, .long)] s) (hN : bNC s) (hq : bInj 24 qc) (hqm : bInj 7 qm) (hqq : ∀ i j : Nat, i < 24 → j < 7 → qc i ≠ qm j) (hgc : ∀ i : Nat, i < 24 → s.heap.size ≤ qc i) (hgm : ∀ j : Nat, j < 7 → s.heap.size ≤ qm j) {B : Nat} (hB : B + 2600000 < 2000000000) (hB0 : 100000 ≤ B) {a bb : bU} {g : Nat → Int64} (hR : Rel B a bb) (hI : mInv bb) {i : Nat} (hi : i + 4 ≤ L) (hL : L ≤ 2048) {H : Heap} {locs : List Loc} (hPC : va_P D vwCl (wCo cI cO cL qc a g) H) (hPM : va_P D vwCl (wM cI qm bb) H) (hS : va_S (fun q : Nat => s.heap.size ≤ q) s.heap H locs) {ls : Array Slot} (hl : lv_has ls 9 [(0, .ref b), (1, .ref (qc 0)), (2, .ref (qm 0)), (3, .ref (qc 23)), (4, .int (nI i))]) {C S : Nat} (hC : C + 5 ≤ 601024) (hSl : S + 30 ≤ 7293034) {Q : State → Prop} (kk : ∀ (a2 b2 : bU) (g2 : Nat → Int64) (H2 : Heap) (locs2 : List Loc) (ls2 : Array Slot), Rel (B + 2600000) a2 b2 → mInv b2 → va_P D vwCl (wCo cI cO cL qc a2 g2) H2 → va_P D vwCl (wM cI qm b2) H2 → va_S (fun q : Nat => s.heap.size ≤ q) s.heap H2 locs2 → lv_has ls2 9 [(0, .ref b), (1, .ref (qc 0)), (2, .ref (qm 0)), (3, .ref (qc 23)), (4, .int (nI i))] → W p l e room_1 s m #[Value.ref b] below meth c H2 locs2 (C + 5) (S + 30) Q (F0 m 2009 ls2 [])) : W p l e room_1 s m #[Value.ref b] below meth c H locs C S Q (F0 m 1024 ls []) := by
  obtain ⟨hx, hb, hr, hml, hown, hts0, hXs, hbl, hlocks, hgv⟩ := C0
  have hts : ∀ w ∈ wsL_law, w.before #[Value.ref b] s = true := fun w h => hts0 w (wsL_law_in w h)
  have hbA : ¬ (fun q : Nat => s.heap.size ≤ q) b := Nat.not_le.mpr hbl
  have hk6 : bK D [(cI, .int)] s := ⟨va_K.sub hk.1 [0] rfl, hk.2⟩
  refine lv_aload_n hx hb dL_law_1024 rfl (lv_at hl 1 rfl) ?_
  refine lv_aload_n hx hb dL_law_1025 rfl (lv_at hl 0 rfl) ?_
  refine lv_iload hx hb dL_law_1026 (lv_at hl 4 rfl) ?_
  refine lv_iconst (v := 1) hx hb dL_law_1028 (by decide) ?_
  refine lv_iadd hx hb dL_law_1029 ?_
  refine lv_topi (fun z9 hz9 => ?_)
  obtain rfl : z9 = nI (i + 1) := hz9.trans (nI_add i 1)
  refine va_sld hx hb hXs hbl hbA hS (vp_in_nI (by omega) (by omega)) dL_law_1030 ?_
  refine lv_aload_n hx hb dL_law_1031 rfl (lv_at hl 0 rfl) ?_
  refine lv_iload hx hb dL_law_1032 (lv_at hl 4 rfl) ?_
  refine lv_iconst (v := 2) hx hb dL_law_1034 (by decide) ?_
  refine lv_iadd hx hb dL_law_1035 ?_
  refine lv_topi (fun z9 hz9 => ?_)
  obtain rfl : z9 = nI (i + 2) := hz9.trans (nI_add i 2)
  refine va_sld hx hb hXs hbl hbA hS (vp_in_nI (by omega) (by omega)) dL_law_1036 ?_
  refine lv_aload_n hx hb dL_law_1037 rfl (lv_at hl 0 rfl) ?_
  refine lv_iload hx hb dL_law_1038 (lv_at hl 4 rfl) ?_
  refine lv_iconst (v := 3) hx hb dL_law_1040 (by decide) ?_
  refine lv_iadd hx hb dL_law_1041 ?_
  refine lv_topi (fun z9 hz9 => ?_)
  obtain rfl : z9 = nI (i + 3) := hz9.trans (nI_add i 3)
  refine va_sld hx hb hXs hbl hbA hS (vp_in_nI (by omega) (by omega)) dL_law_1042 ?_
  refine lv_aload_n hx hb dL_law_1043 rfl (lv_at hl 3 rfl) ?_
  have hAB : ∀ x : Nat, bA 24 qc H.size x → s.heap.size ≤ x := fun x hx9 => hx9.elim (fun ⟨k9, h9, e9⟩ => e9 ▸ hgc k9 h9) (fun h9 => Nat.le_trans hS.1 h9)
  refine va_calli (vx_runSW (As := [.ref (qc 0), .int (xs (nI (i + 1)).toNatClampNeg), .int (xs (nI (i + 2)).toNatClampNeg), .int (xs (nI (i + 3)).toNatClampNeg), .ref (qc 23)]) (rest := []) ⟨hx, hb, hml, hown, hts⟩ (CL_swap l D cI cO cL qc a g H hq hl9 hPC (xs (nI (i + 1)).toNatClampNeg) (xs (nI (i + 2)).toNatClampNeg) (xs (nI (i + 3)).toNatClampNeg) (lat_of hR)) (vx_cwSW 5 hts gL_law_L_swap rfl rfl rfl bd_Lswap ⟨Nat.le_of_ble_eq_true rfl, Nat.le_of_ble_eq_true rfl⟩) (bPSL hk hX hKL hN hS hAB) rfl rfl hl.1 rfl (lv_room (Nat.le_of_ble_eq_true rfl)) dL_law_1044 ⟨by show _ ≤ 601024; omega, by show _ ≤ 7293034; omega⟩) hS (fun x _ h => hAB x h) hAB (fun r g1 t H1 locs ht _ hw hB1 hz1 hk1 hS => ?_)
  rw [ht] at hB1
  clear ht
  have hPM := wM_k hPM hk1 hqq hqm
  refine W.widen (k := C + 5) (n := S + 30) (by omega) (by omega) ?_
  refine lv_istore (lv' := [(5, .int r), (0, .ref b), (1, .ref (qc 0)), (2, .ref (qm 0)), (3, .ref (qc 23)), (4, .int (nI i))]) hx hb dL_law_1047 hl (by decide) rfl (fun ls hl => ?_)
  refine lv_aload_n hx hb dL_law_1049 rfl (lv_at hl 3 rfl) ?_
  refine lv_aload_n hx hb dL_law_1050 rfl (lv_at hl 1 rfl) ?_
  refine lv_iload hx hb dL_law_1051 (lv_at hl 5 rfl) ?_
  refine lv_iconst (v := 1) hx hb dL_law_1053 (by decide) ?_
  refine lv_iadd hx hb dL_law_1054 ?_
  refine lv_topi (fun z9 hz9 => ?_)
  obtain rfl : z9 = nI (i + 1) := hz9.trans (nI_add i 1)
  refine va_sld hx hb hXs hbl hbA hS (vp_in_nI (by omega) (by omega)) dL_law_1055 ?_
  refine lv_aload_n hx hb dL_law_1056 rfl (lv_at hl 1 rfl) ?_
  refine lv_iload hx hb dL_law_1057 (lv_at hl 5 rfl) ?_
  refine lv_iconst (v := 2) hx hb dL_law_1059 (by decide) ?_
  refine lv_iadd hx hb dL_law_1060 ?_
  refine lv_topi (fun z9 hz9 => ?_)
  obtain rfl : z9 = nI (i + 2) := hz9.trans (nI_add i 2)
  refine va_sld hx hb hXs hbl hbA hS (vp_in_nI (by omega) (by omega)) dL_law_1061 ?_
  refine lv_aload_n hx hb dL_law_1062 rfl (lv_at hl 1 rfl) ?_
  refine lv_iload hx hb dL_law_1063 (lv_at hl 5 rfl) ?_
  refine lv_iconst (v := 3) hx hb dL_law_1065 (by decide) ?_
  refine lv_iadd hx hb dL_law_1066 ?_
  refine lv_topi (fun z9 hz9 => ?_)
  obtain rfl : z9 = nI (i + 3) := hz9.trans (nI_add i 3)
  refine va_sld hx hb hXs hbl hbA hS (vp_in_nI (by omega) (by omega)) dL_law_1067 ?_
  have hsim := st_swap (by omega) hR (xs (nI (i + 1)).toNatClampNeg) (xs (nI (i + 2)).toNatClampNeg) (xs (nI (i + 3)).toNatClampNeg)
  have hAM : ∀ x : Nat, bA 7 qm H1.size x → s.heap.size ≤ x := fun x hx9 => hx9.elim (fun ⟨k9, h9, e9⟩ => e9 ▸ hgm k9 h9) (fun h9 => Nat.le_trans hS.1 h9)
  refine va_calli (va_runV (As := [.int (xs (nI (i + 1)).toNatClampNeg), .int (xs (nI (i + 2)).toNatClampNeg), .int (xs (nI (i + 3)).toNatClampNeg)]) (rest := []) ⟨hx, hb, hml, hown, hts⟩ (C6_swap l D cI qm bb H1 hqm hPM hI (xs (nI (i + 1)).toNatClampNeg) (xs (nI (i + 2)).toNatClampNeg) (xs (nI (i + 3)).toNatClampNeg)) (cwV 3 hts gL_law_X6_swap rfl rfl rfl ⟨rfl, bd_X6swap⟩ ⟨Nat.le_of_ble_eq_true rfl, Nat.le_of_ble_eq_true rfl⟩) (bPV hk6 (va_recv hk6.1 hPM (ci := 6) (q0 := 0) rfl (wM_0 _ _ _))) rfl rfl hl.1 rfl (lv_room (Nat.le_of_ble_eq_true rfl)) dL_law_1068 ⟨by show _ ≤ 601024; omega, by show _ ≤ 7293034; omega⟩) hS (fun x _ h => hAM x h) hAM (fun y b2 t H2 locs ht _ hw2 hB2 hz2 hk2 hS => ?_)
  rw [ht] at hB2
  clear ht
  obtain rfl : y = (F6_swap bb (xs (nI (i + 1)).toNatClampNeg) (xs (nI (i + 2)).toNatClampNeg) (xs (nI (i + 3)).toNatClampNeg)).1 := by rw [← hw2]
  obtain rfl : b2 = (F6_swap bb (xs (nI (i + 1)).toNatClampNeg) (xs (nI (i + 2)).toNatClampNeg) (xs (nI (i + 3)).toNatClampNeg)).2 := by rw [← hw2]
  obtain ⟨hPM2, hI2⟩ := hB2
  have hPC2 := wCo_m hB1 hk2 hqq hq
  refine lv_istore (lv' := [(6, .int (F6_swap bb (xs (nI (i + 1)).toNatClampNeg) (xs (nI (i + 2)).toNatClampNeg) (xs (nI (i + 3)).toNatClampNeg)).1), (5, .int r), (0, .ref b), (1, .ref (qc 0)), (2, .ref (qm 0)), (3, .ref (qc 23)), (4, .int (nI i))]) hx hb dL_law_1071 hl (by decide) rfl (fun ls hl => ?_)
  refine lv_aload_n hx hb dL_law_1073 rfl (lv_at hl 4 rfl) ?_
  refine bcall_Ri (va_runV (As := []) (rest := []) ⟨hx, hb, hml, hown, hts⟩ (C6_thrown l D cI qm _ _ hPM2 hI2) (cwV 0 hts gL_law_X6_thrown rfl rfl rfl ⟨rfl, bd_X6thrown⟩ ⟨Nat.le_of_ble_eq_true rfl, Nat.le_of_ble_eq_true rfl⟩) (bPV hk6 (va_recv hk6.1 hPM2 (ci := 6) (q0 := 0) rfl (wM_0 _ _ _))) rfl rfl hl.1 rfl (lv_room (Nat.le_of_ble_eq_true rfl)) dL_law_1074 ⟨by show _ ≤ 601024; omega, by show _ ≤ 7293034; omega⟩) hS (fun locs hS => ?_)
  refine lv_iload hx hb dL_law_1077 (lv_at hl 1 rfl) ?_
  refine lv_icmp_eq (tgt := 1084) hx hb dL_law_1079 (by decide) (fun _ => ?_) (fun c9 => absurd (hsim.1.trans hw.1.symm) c9)
  refine lv_iload hx hb dL_law_1084 (lv_at hl 1 rfl) ?_
  refine lv_if_ne (tgt := 1101) hx hb dL_law_1086 (by decide) (fun c9 => ?_) (fun c9 => ?_)
  · refine lv_goto (tgt := 2009) hx hb dL_law_1101 (by decide) ?_
    refine W.widen (k := C + 5) (n := S + 30) (by omega) (by omega) ?_
    exact kk _ _ _ _ _ _ (Rel_up hsim.2.2 (by omega)) hI2 hPC2 hPM2 hS (lv_sub hl [2, 3, 4, 5, 6] rfl)
  · refine lv_aload_n hx hb dL_law_1089 rfl (lv_at hl 5 rfl) ?_
    refine lv_iconst (v := 0) hx hb dL_law_1090 (by decide) ?_
    refine va_lald hx hb hKL hPC2 23 0 rfl rfl (vp_in_nI (n := 0) (by decide) (by decide)) dL_law_1091 ?_
    refine lv_iload hx hb dL_law_1092 (lv_at hl 0 rfl) ?_
    refine lv_i2l (v := ((F6_swap bb (xs (nI (i + 1)).toNatClampNeg) (xs (nI (i + 2)).toNatClampNeg) (xs (nI (i + 3)).toNatClampNeg)).1).toInt64) hx hb dL_law_1094 rfl ?_
    refine W.lcmp hx hb dL_law_1095 ?_
    have hv0 : (F5_swap a (xs (nI (i + 1)).toNatClampNeg) (xs (nI (i + 2)).toNatClampNeg) (xs (nI (i + 3)).toNatClampNeg)).1 = 0 := hw.1.symm.trans c9
    rw [show (0 : Int32).toNatClampNeg = 0 from by decide, lg_cmp_same ((hw.2 hv0).trans (congrArg Int32.toInt64 (hsim.2.1 hv0)))]
    refine lv_if_eq (tgt := 1101) hx hb dL_law_1096 (by decide) (fun _ => ?_) (fun h9 => absurd rfl h9)
    refine lv_goto (tgt := 2009) hx hb dL_law_1101 (by decide) ?_
    refine W.widen (k := C + 5) (n := S + 30) (by omega) (by omega) ?_
    exact kk _ _ _ _ _ _ (Rel_up hsim.2.2 (by omega)) hI2 hPC2 hPM2 hS (lv_sub hl [2, 3, 4, 5, 6] rfl)
set_option maxHeartbeats 4000000 in
set_option maxRecDepth 100000 in
theorem LC_13 {p : Program} {e : Env} {s : State} {m : MethodId} {below : List Frame} {meth : Method} {c : Code} {l : Launch} {b L : Nat} {xs : Nat → Int32} {D : va_G} {cI cO cL : ClassId} {qc qm : Nat → Nat} (hl9 : l.stackTraces = false) (C0 : lw_At p s m meth c b L xs) (hk : bK D [(cI, .int), (cO, .object RX2)] s) (hX : bXe (fun q : Nat => s.heap.size ≤ q) s s.heap) (hKL : va_K D vwCl [(cL, .long)] s) (hN : bNC s) (hq : bInj 24 qc) (hqm : bInj 7 qm) (hqq : ∀ i j : Nat, i < 24 → j < 7 → qc i ≠ qm j) (hgc : ∀ i : Nat, i < 24 → s.heap.size ≤ qc i) (hgm : ∀ j : Nat, j < 7 → s.heap.size ≤ qm j) {B : Nat} (hB : B + 2600000 < 2000000000) (hB0 : 100000 ≤ B) {a bb : bU} {g : Nat → Int64} (hR : Rel B a bb) (hI : mInv bb) {i : Nat} (hi : i + 4 ≤ L) (hL : L ≤ 2048) {H : Heap} {locs : List Loc} (hPC : va_P D vwCl (wCo cI cO cL qc a g) H) (hPM : va_P D vwCl (wM cI qm bb) H) (hS : va_S (fun q : Nat => s.heap.size ≤ q) s.heap H locs) {ls : Array Slot} (hl : lv_has ls 9 [(0, .ref b), (1, .ref (qc 0)), (2, .ref (qm 0)), (3, .ref (qc 23)), (4, .int (nI i))]) {C S : Nat} (hC : C + 5 ≤ 601024) (hSl : S + 30 ≤ 7293034) {Q : State → Prop} (kk : ∀ (a2 b2 : bU) (g2 : Nat → Int64) (H2 : Heap) (locs2 : List Loc) (ls2 : Array Slot), Rel (B + 2600000) a2 b2 → mInv b2 → va_P D vwCl (wCo cI cO cL qc a2 g2) H2 → va_P D vwCl (wM cI qm b2) H2 → va_S (fun q : Nat => s.heap.size ≤ q) s.heap H2 locs2 → lv_has ls2 9 [(0, .ref b), (1, .ref (qc 0)), (2, .ref (qm 0)), (3, .ref (qc 23)), (4, .int (nI i))] → W p l e room_1 s m #[Value.ref b] below meth c H2 locs2 (C + 5) (S + 30) Q (F0 m 2009 ls2 [])) : W p l e room_1 s m #[Value.ref b] below meth c H locs C S Q (F0 m 1104 ls []) := by
  obtain ⟨hx, hb, hr, hml, hown, hts0, hXs, hbl, hlocks, hgv⟩ := C0
  have hts : ∀ w ∈ wsL_law, w.before #[Value.ref b] s = true := fun w h => hts0 w (wsL_law_in w h)
  have hbA : ¬ (fun q : Nat => s.heap.size ≤ q) b := Nat.not_le.mpr hbl
  have hk6 : bK D [(cI, .int)] s := ⟨va_K.sub hk.1 [0] rfl, hk.2⟩
  refine lv_aload_n hx hb dL_law_1104 rfl (lv_at hl 1 rfl) ?_
  refine lv_aload_n hx hb dL_law_1105 rfl (lv_at hl 0 rfl) ?_
  refine lv_iload hx hb dL_law_1106 (lv_at hl 4 rfl) ?_
  refine lv_iconst (v := 1) hx hb dL_law_1108 (by decide) ?_
  refine lv_iadd hx hb dL_law_1109 ?_
  refine lv_topi (fun z9 hz9 => ?_)
  obtain rfl : z9 = nI (i + 1) := hz9.trans (nI_add i 1)
  refine va_sld hx hb hXs hbl hbA hS (vp_in_nI (by omega) (by omega)) dL_law_1110 ?_
  refine lv_aload_n hx hb dL_law_1111 rfl (lv_at hl 3 rfl) ?_
  have hAB : ∀ x : Nat, bA 24 qc H.size x → s.heap.size ≤ x := fun x hx9 => hx9.elim (fun ⟨k9, h9, e9⟩ => e9 ▸ hgc k9 h9) (fun h9 => Nat.le_trans hS.1 h9)
  refine va_calli (vx_runSW (As := [.ref (qc 0), .int (xs (nI (i + 1)).toNatClampNeg), .ref (qc 23)]) (rest := []) ⟨hx, hb, hml, hown, hts⟩ (CL_append l D cI cO cL qc a g H hq hl9 hPC (xs (nI (i + 1)).toNatClampNeg)) (vx_cwSW 3 hts gL_law_L_append rfl rfl rfl bd_Lappend ⟨Nat.le_of_ble_eq_true rfl, Nat.le_of_ble_eq_true rfl⟩) (bPSL hk hX hKL hN hS hAB) rfl rfl hl.1 rfl (lv_room (Nat.le_of_ble_eq_true rfl)) dL_law_1112 ⟨by show _ ≤ 601024; omega, by show _ ≤ 7293034; omega⟩) hS (fun x _ h => hAB x h) hAB (fun r g1 t H1 locs ht _ hw hB1 hz1 hk1 hS => ?_)
  rw [ht] at hB1
  clear ht
  have hPM := wM_k hPM hk1 hqq hqm
  refine W.widen (k := C + 5) (n := S + 30) (by omega) (by omega) ?_
  refine lv_istore (lv' := [(5, .int r), (0, .ref b), (1, .ref (qc 0)), (2, .ref (qm 0)), (3, .ref (qc 23)), (4, .int (nI i))]) hx hb dL_law_1115 hl (by decide) rfl (fun ls hl => ?_)
  refine lv_aload_n hx hb dL_law_1117 rfl (lv_at hl 3 rfl) ?_
  refine lv_aload_n hx hb dL_law_1118 rfl (lv_at hl 1 rfl) ?_
  refine lv_iload hx hb dL_law_1119 (lv_at hl 5 rfl) ?_
  refine lv_iconst (v := 1) hx hb dL_law_1121 (by decide) ?_
  refine lv_iadd hx hb dL_law_1122 ?_
  refine lv_topi (fun z9 hz9 => ?_)
  obtain rfl : z9 = nI (i + 1) := hz9.trans (nI_add i 1)
  refine va_sld hx hb hXs hbl hbA hS (vp_in_nI (by omega) (by omega)) dL_law_1123 ?_
  have hsim := st_append hR (xs (nI (i + 1)).toNatClampNeg)
  have hAM : ∀ x : Nat, bA 7 qm H1.size x → s.heap.size ≤ x := fun x hx9 => hx9.elim (fun ⟨k9, h9, e9⟩ => e9 ▸ hgm k9 h9) (fun h9 => Nat.le_trans hS.1 h9)
  refine va_calli (va_runV (As := [.int (xs (nI (i + 1)).toNatClampNeg)]) (rest := []) ⟨hx, hb, hml, hown, hts⟩ (C6_append l D cI qm bb H1 hqm hPM hI (xs (nI (i + 1)).toNatClampNeg)) (cwV 1 hts gL_law_X6_append rfl rfl rfl ⟨rfl, bd_X6append⟩ ⟨Nat.le_of_ble_eq_true rfl, Nat.le_of_ble_eq_true rfl⟩) (bPV hk6 (va_recv hk6.1 hPM (ci := 6) (q0 := 0) rfl (wM_0 _ _ _))) rfl rfl hl.1 rfl (lv_room (Nat.le_of_ble_eq_true rfl)) dL_law_1124 ⟨by show _ ≤ 601024; omega, by show _ ≤ 7293034; omega⟩) hS (fun x _ h => hAM x h) hAM (fun y b2 t H2 locs ht _ hw2 hB2 hz2 hk2 hS => ?_)
  rw [ht] at hB2
  clear ht
  obtain rfl : y = (F6_append bb (xs (nI (i + 1)).toNatClampNeg)).1 := by rw [← hw2]
  obtain rfl : b2 = (F6_append bb (xs (nI (i + 1)).toNatClampNeg)).2 := by rw [← hw2]
  obtain ⟨hPM2, hI2⟩ := hB2
  have hPC2 := wCo_m hB1 hk2 hqq hq
  refine lv_istore (lv' := [(6, .int (F6_append bb (xs (nI (i + 1)).toNatClampNeg)).1), (5, .int r), (0, .ref b), (1, .ref (qc 0)), (2, .ref (qm 0)), (3, .ref (qc 23)), (4, .int (nI i))]) hx hb dL_law_1127 hl (by decide) rfl (fun ls hl => ?_)
  refine lv_aload_n hx hb dL_law_1129 rfl (lv_at hl 4 rfl) ?_
  refine bcall_Ri (va_runV (As := []) (rest := []) ⟨hx, hb, hml, hown, hts⟩ (C6_thrown l D cI qm _ _ hPM2 hI2) (cwV 0 hts gL_law_X6_thrown rfl rfl rfl ⟨rfl, bd_X6thrown⟩ ⟨Nat.le_of_ble_eq_true rfl, Nat.le_of_ble_eq_true rfl⟩) (bPV hk6 (va_recv hk6.1 hPM2 (ci := 6) (q0 := 0) rfl (wM_0 _ _ _))) rfl rfl hl.1 rfl (lv_room (Nat.le_of_ble_eq_true rfl)) dL_law_1130 ⟨by show _ ≤ 601024; omega, by show _ ≤ 7293034; omega⟩) hS (fun locs hS => ?_)
  refine lv_iload hx hb dL_law_1133 (lv_at hl 1 rfl) ?_
  refine lv_icmp_eq (tgt := 1140) hx hb dL_law_1135 (by decide) (fun _ => ?_) (fun c9 => absurd (hsim.1.trans hw.1.symm) c9)
  refine lv_iload hx hb dL_law_1140 (lv_at hl 1 rfl) ?_
  refine lv_if_ne (tgt := 1157) hx hb dL_law_1142 (by decide) (fun c9 => ?_) (fun c9 => ?_)
  · refine lv_goto (tgt := 2009) hx hb dL_law_1157 (by decide) ?_
    refine W.widen (k := C + 5) (n := S + 30) (by omega) (by omega) ?_
    exact kk _ _ _ _ _ _ (Rel_up hsim.2.2 (by omega)) hI2 hPC2 hPM2 hS (lv_sub hl [2, 3, 4, 5, 6] rfl)
  · refine lv_aload_n hx hb dL_law_1145 rfl (lv_at hl 5 rfl) ?_
    refine lv_iconst (v := 0) hx hb dL_law_1146 (by decide) ?_
    refine va_lald hx hb hKL hPC2 23 0 rfl rfl (vp_in_nI (n := 0) (by decide) (by decide)) dL_law_1147 ?_
    refine lv_iload hx hb dL_law_1148 (lv_at hl 0 rfl) ?_
    refine lv_i2l (v := ((F6_append bb (xs (nI (i + 1)).toNatClampNeg)).1).toInt64) hx hb dL_law_1150 rfl ?_
    refine W.lcmp hx hb dL_law_1151 ?_
    have hv0 : (F5_append a (xs (nI (i + 1)).toNatClampNeg)).1 = 0 := cdA_0 (hw.1.symm.trans c9)
    rw [show (0 : Int32).toNatClampNeg = 0 from by decide, lg_cmp_same ((hw.2 hv0).trans (congrArg Int32.toInt64 (hsim.2.1 hv0)))]
    refine lv_if_eq (tgt := 1157) hx hb dL_law_1152 (by decide) (fun _ => ?_) (fun h9 => absurd rfl h9)
    refine lv_goto (tgt := 2009) hx hb dL_law_1157 (by decide) ?_
    refine W.widen (k := C + 5) (n := S + 30) (by omega) (by omega) ?_
    exact kk _ _ _ _ _ _ (Rel_up hsim.2.2 (by omega)) hI2 hPC2 hPM2 hS (lv_sub hl [2, 3, 4, 5, 6] rfl)
set_option maxHeartbeats 4000000 in
set_option maxRecDepth 100000 in
theorem LC_14 {p : Program} {e : Env} {s : State} {m : MethodId} {below : List Frame} {meth : Method} {c : Code} {l : Launch} {b L : Nat} {xs : Nat → Int32} {D : va_G} {cI cO cL : ClassId} {qc qm : Nat → Nat} (hl9 : l.stackTraces = false) (C0 : lw_At p s m meth c b L xs) (hk : bK D [(cI, .int), (cO, .object RX2)] s) (hX : bXe (fun q : Nat => s.heap.size ≤ q) s s.heap) (hKL : va_K D vwCl [(cL, .long)] s) (hN : bNC s) (hq : bInj 24 qc) (hqm : bInj 7 qm) (hqq : ∀ i j : Nat, i < 24 → j < 7 → qc i ≠ qm j) (hgc : ∀ i : Nat, i < 24 → s.heap.size ≤ qc i) (hgm : ∀ j : Nat, j < 7 → s.heap.size ≤ qm j) {B : Nat} (hB : B + 2600000 < 2000000000) (hB0 : 100000 ≤ B) {a bb : bU} {g : Nat → Int64} (hR : Rel B a bb) (hI : mInv bb) {i : Nat} (hi : i + 4 ≤ L) (hL : L ≤ 2048) {H : Heap} {locs : List Loc} (hPC : va_P D vwCl (wCo cI cO cL qc a g) H) (hPM : va_P D vwCl (wM cI qm bb) H) (hS : va_S (fun q : Nat => s.heap.size ≤ q) s.heap H locs) {ls : Array Slot} (hl : lv_has ls 9 [(0, .ref b), (1, .ref (qc 0)), (2, .ref (qm 0)), (3, .ref (qc 23)), (4, .int (nI i))]) {C S : Nat} (hC : C + 5 ≤ 601024) (hSl : S + 30 ≤ 7293034) {Q : State → Prop} (kk : ∀ (a2 b2 : bU) (g2 : Nat → Int64) (H2 : Heap) (locs2 : List Loc) (ls2 : Array Slot), Rel (B + 2600000) a2 b2 → mInv b2 → va_P D vwCl (wCo cI cO cL qc a2 g2) H2 → va_P D vwCl (wM cI qm b2) H2 → va_S (fun q : Nat => s.heap.size ≤ q) s.heap H2 locs2 → lv_has ls2 9 [(0, .ref b), (1, .ref (qc 0)), (2, .ref (qm 0)), (3, .ref (qc 23)), (4, .int (nI i))] → W p l e room_1 s m #[Value.ref b] below meth c H2 locs2 (C + 5) (S + 30) Q (F0 m 2009 ls2 [])) : W p l e room_1 s m #[Value.ref b] below meth c H locs C S Q (F0 m 1160 ls []) := by
  obtain ⟨hx, hb, hr, hml, hown, hts0, hXs, hbl, hlocks, hgv⟩ := C0
  have hts : ∀ w ∈ wsL_law, w.before #[Value.ref b] s = true := fun w h => hts0 w (wsL_law_in w h)
  have hbA : ¬ (fun q : Nat => s.heap.size ≤ q) b := Nat.not_le.mpr hbl
  have hk6 : bK D [(cI, .int)] s := ⟨va_K.sub hk.1 [0] rfl, hk.2⟩
  refine lv_aload_n hx hb dL_law_1160 rfl (lv_at hl 1 rfl) ?_
  have hAB : ∀ x : Nat, bA 23 qc H.size x → s.heap.size ≤ x := fun x hx9 => hx9.elim (fun ⟨k9, h9, e9⟩ => e9 ▸ hgc k9 (by omega)) (fun h9 => Nat.le_trans hS.1 h9)
  refine va_calli (va_runV (As := []) (rest := []) ⟨hx, hb, hml, hown, hts⟩ (C5_clearBuffer l D cI cO qc a H (bInj_23 hq) (wCo_C hPC)) (cwV 0 hts gL_law_X5_clearBuffer rfl rfl rfl ⟨rfl, bd_X5clearBuffer⟩ ⟨Nat.le_of_ble_eq_true rfl, Nat.le_of_ble_eq_true rfl⟩) (bPV hk (va_recv hk.1 (wCo_C hPC) (ci := 5) (q0 := 0) rfl (wC_0 _ _ _ _))) rfl rfl hl.1 rfl (lv_room (Nat.le_of_ble_eq_true rfl)) dL_law_1161 ⟨by show _ ≤ 601024; omega, by show _ ≤ 7293034; omega⟩) hS (fun x _ h => hAB x h) hAB (fun r a2 t H1 locs ht _ hw hB1 hz1 hk1 hS => ?_)
  rw [ht] at hB1
  clear ht
  obtain rfl : r = (F5_clearBuffer a).1 := by rw [← hw]
  obtain rfl : a2 = (F5_clearBuffer a).2 := by rw [← hw]
  have hPM := wM_k (fun k9 h9 => hPM k9 h9) (fun x h1 h2 => hk1 x h1 (fun h9 => h2 (bA_34 (Nat.le_refl _) x h9))) hqq hqm
  have hPC1 := wCo_of (g := g) hB1.1 (wCo_k (wCo_o hPC) hk1 hq)
  refine lv_aload_n hx hb dL_law_1164 rfl (lv_at hl 2 rfl) ?_
  obtain ⟨hs1, hs2⟩ := st_clearBuffer hR
  have hAM : ∀ x : Nat, bA 7 qm H1.size x → s.heap.size ≤ x := fun x hx9 => hx9.elim (fun ⟨k9, h9, e9⟩ => e9 ▸ hgm k9 h9) (fun h9 => Nat.le_trans hS.1 h9)
  refine va_calli (va_runV (As := []) (rest := [.int (F5_clearBuffer a).1]) ⟨hx, hb, hml, hown, hts⟩ (C6_clearBuffer l D cI qm bb H1 hqm hPM hI) (cwV 0 hts gL_law_X6_clearBuffer rfl rfl rfl ⟨rfl, bd_X6clearBuffer⟩ ⟨Nat.le_of_ble_eq_true rfl, Nat.le_of_ble_eq_true rfl⟩) (bPV hk6 (va_recv hk6.1 hPM (ci := 6) (q0 := 0) rfl (wM_0 _ _ _))) rfl rfl hl.1 rfl (lv_room (Nat.le_of_ble_eq_true rfl)) dL_law_1165 ⟨by show _ ≤ 601024; omega, by show _ ≤ 7293034; omega⟩) hS (fun x _ h => hAM x h) hAM (fun y b2 t H2 locs ht _ hw2 hB2 hz2 hk2 hS => ?_)
  rw [ht] at hB2
  clear ht
  obtain rfl : y = (F6_clearBuffer bb).1 := by rw [← hw2]
  obtain rfl : b2 = (F6_clearBuffer bb).2 := by rw [← hw2]
  obtain ⟨hPM2, hI2⟩ := hB2
  have hPC2 := wCo_m hPC1 hk2 hqq hq
  refine lv_icmp_eq (tgt := 2009) hx hb dL_law_1168 (by decide) (fun _ => ?_) (fun c9 => absurd hs1 c9)
  refine W.widen (k := C + 5) (n := S + 30) (by omega) (by omega) ?_
  exact kk _ _ _ _ _ _ (Rel_up hs2 (by omega)) hI2 hPC2 hPM2 hS (lv_sub hl [0, 1, 2, 3, 4] rfl)
set_option maxHeartbeats 4000000 in
set_option maxRecDepth 100000 in
theorem LC_15 {p : Program} {e : Env} {s : State} {m : MethodId} {below : List Frame} {meth : Method} {c : Code} {l : Launch} {b L : Nat} {xs : Nat → Int32} {D : va_G} {cI cO cL : ClassId} {qc qm : Nat → Nat} (hl9 : l.stackTraces = false) (C0 : lw_At p s m meth c b L xs) (hk : bK D [(cI, .int), (cO, .object RX2)] s) (hX : bXe (fun q : Nat => s.heap.size ≤ q) s s.heap) (hKL : va_K D vwCl [(cL, .long)] s) (hN : bNC s) (hq : bInj 24 qc) (hqm : bInj 7 qm) (hqq : ∀ i j : Nat, i < 24 → j < 7 → qc i ≠ qm j) (hgc : ∀ i : Nat, i < 24 → s.heap.size ≤ qc i) (hgm : ∀ j : Nat, j < 7 → s.heap.size ≤ qm j) {B : Nat} (hB : B + 2600000 < 2000000000) (hB0 : 100000 ≤ B) {a bb : bU} {g : Nat → Int64} (hR : Rel B a bb) (hI : mInv bb) {i : Nat} (hi : i + 4 ≤ L) (hL : L ≤ 2048) {H : Heap} {locs : List Loc} (hPC : va_P D vwCl (wCo cI cO cL qc a g) H) (hPM : va_P D vwCl (wM cI qm bb) H) (hS : va_S (fun q : Nat => s.heap.size ≤ q) s.heap H locs) {ls : Array Slot} (hl : lv_has ls 9 [(0, .ref b), (1, .ref (qc 0)), (2, .ref (qm 0)), (3, .ref (qc 23)), (4, .int (nI i))]) {C S : Nat} (hC : C + 5 ≤ 601024) (hSl : S + 30 ≤ 7293034) {Q : State → Prop} (kk : ∀ (a2 b2 : bU) (g2 : Nat → Int64) (H2 : Heap) (locs2 : List Loc) (ls2 : Array Slot), Rel (B + 2600000) a2 b2 → mInv b2 → va_P D vwCl (wCo cI cO cL qc a2 g2) H2 → va_P D vwCl (wM cI qm b2) H2 → va_S (fun q : Nat => s.heap.size ≤ q) s.heap H2 locs2 → lv_has ls2 9 [(0, .ref b), (1, .ref (qc 0)), (2, .ref (qm 0)), (3, .ref (qc 23)), (4, .int (nI i))] → W p l e room_1 s m #[Value.ref b] below meth c H2 locs2 (C + 5) (S + 30) Q (F0 m 2009 ls2 [])) : W p l e room_1 s m #[Value.ref b] below meth c H locs C S Q (F0 m 1173 ls []) := by
  obtain ⟨hx, hb, hr, hml, hown, hts0, hXs, hbl, hlocks, hgv⟩ := C0
  have hts : ∀ w ∈ wsL_law, w.before #[Value.ref b] s = true := fun w h => hts0 w (wsL_law_in w h)
  have hbA : ¬ (fun q : Nat => s.heap.size ≤ q) b := Nat.not_le.mpr hbl
  have hk6 : bK D [(cI, .int)] s := ⟨va_K.sub hk.1 [0] rfl, hk.2⟩
  refine lv_aload_n hx hb dL_law_1173 rfl (lv_at hl 1 rfl) ?_
  have hAB : ∀ x : Nat, bA 23 qc H.size x → s.heap.size ≤ x := fun x hx9 => hx9.elim (fun ⟨k9, h9, e9⟩ => e9 ▸ hgc k9 (by omega)) (fun h9 => Nat.le_trans hS.1 h9)
  refine va_calli (va_runV (As := []) (rest := []) ⟨hx, hb, hml, hown, hts⟩ (C5_firstError l D cI cO qc a H (bInj_23 hq) (wCo_C hPC)) (cwV 0 hts gL_law_X5_firstError rfl rfl rfl ⟨rfl, bd_X5firstError⟩ ⟨Nat.le_of_ble_eq_true rfl, Nat.le_of_ble_eq_true rfl⟩) (bPV hk (va_recv hk.1 (wCo_C hPC) (ci := 5) (q0 := 0) rfl (wC_0 _ _ _ _))) rfl rfl hl.1 rfl (lv_room (Nat.le_of_ble_eq_true rfl)) dL_law_1174 ⟨by show _ ≤ 601024; omega, by show _ ≤ 7293034; omega⟩) hS (fun x _ h => hAB x h) hAB (fun r a2 t H1 locs ht _ hw hB1 hz1 hk1 hS => ?_)
  rw [ht] at hB1
  clear ht
  obtain rfl : r = (F5_firstError a).1 := by rw [← hw]
  obtain rfl : a2 = (F5_firstError a).2 := by rw [← hw]
  have hPM := wM_k (fun k9 h9 => hPM k9 h9) (fun x h1 h2 => hk1 x h1 (fun h9 => h2 (bA_34 (Nat.le_refl _) x h9))) hqq hqm
  have hPC1 := wCo_of (g := g) hB1.1 (wCo_k (wCo_o hPC) hk1 hq)
  refine lv_aload_n hx hb dL_law_1177 rfl (lv_at hl 2 rfl) ?_
  obtain ⟨hs1, hs2, hx_rd⟩ := st_firstError hR
  have hAM : ∀ x : Nat, bA 7 qm H1.size x → s.heap.size ≤ x := fun x hx9 => hx9.elim (fun ⟨k9, h9, e9⟩ => e9 ▸ hgm k9 h9) (fun h9 => Nat.le_trans hS.1 h9)
  refine va_calli (va_runV (As := []) (rest := [.int (F5_firstError a).1]) ⟨hx, hb, hml, hown, hts⟩ (C6_firstError l D cI qm bb H1 hqm hPM hI hx_rd) (cwV 0 hts gL_law_X6_firstError rfl rfl rfl ⟨rfl, bd_X6firstError⟩ ⟨Nat.le_of_ble_eq_true rfl, Nat.le_of_ble_eq_true rfl⟩) (bPV hk6 (va_recv hk6.1 hPM (ci := 6) (q0 := 0) rfl (wM_0 _ _ _))) rfl rfl hl.1 rfl (lv_room (Nat.le_of_ble_eq_true rfl)) dL_law_1178 ⟨by show _ ≤ 601024; omega, by show _ ≤ 7293034; omega⟩) hS (fun x _ h => hAM x h) hAM (fun y b2 t H2 locs ht _ hw2 hB2 hz2 hk2 hS => ?_)
  rw [ht] at hB2
  clear ht
  obtain rfl : y = (F6_firstError bb).1 := by rw [← hw2]
  obtain rfl : b2 = (F6_firstError bb).2 := by rw [← hw2]
  obtain ⟨hPM2, hI2⟩ := hB2
  have hPC2 := wCo_m hPC1 hk2 hqq hq
  refine lv_icmp_eq (tgt := 2009) hx hb dL_law_1181 (by decide) (fun _ => ?_) (fun c9 => absurd hs1 c9)
  refine W.widen (k := C + 5) (n := S + 30) (by omega) (by omega) ?_
  exact kk _ _ _ _ _ _ (Rel_up hs2 (by omega)) hI2 hPC2 hPM2 hS (lv_sub hl [0, 1, 2, 3, 4] rfl)

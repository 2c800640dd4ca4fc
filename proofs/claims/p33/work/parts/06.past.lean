theorem bd_X1latestState : yX1_latestState.cls ≠ "java/lang/invoke/MethodHandle" ∧ yX1_latestState.cls ≠ "java/lang/invoke/VarHandle" ∧ (parseMethodDescriptor yX1_latestState.desc).map (fun d => d.parameters.length) = some 0 := by decide +kernel
theorem bd_X2copyFrom : yX2_copyFrom.cls ≠ "java/lang/invoke/MethodHandle" ∧ yX2_copyFrom.cls ≠ "java/lang/invoke/VarHandle" ∧ (parseMethodDescriptor yX2_copyFrom.desc).map (fun d => d.parameters.length) = some 1 := by decide +kernel
set_option maxHeartbeats 4000000 in
set_option maxRecDepth 100000 in
theorem C1_latestState_0 (l : Launch) (D : va_G) (cI cO : ClassId) (q : Nat → Nat) (u : bU) (H0 : Heap) (hP : va_P D vwCl (wC cI cO q u) H0) (hlat : u 11 0 = 0) : Met l yX1_latestState wsX1_latestState ({ frames := 0, cells := 0, slots := 0, locals := 0 }) (bP D [(cI, .int), (cO, .object RX2)] H0 [.ref (q 5)]) (bRr H0 (q 7)) 0 0 (fun _ => False) := by
  refine Met.ofW (cc := cX1_latestState) (maxL := 1) (ret := (some (.object "BottleLoop$State"))) (by decide) rfl ?_
  intro p e s m args below meth c s₁ B hml hv
  obtain ⟨rfl, hH, hk⟩ := hv
  subst hH
  have hx := B.exec
  have hb := B.bytes
  have hr := B.returns
  have hts := atoms_spec (ws := wsX1_latestState) B.pre
  have hown : s.vm.findClass RX1 = some m.cls := findClass_of_methodNamed B.named
  have hlocks := B.notSynchronized
  have iX1 : ∀ w ∈ wsX10, w ∈ wsX1_latestState := by decide +kernel
  have hS : va_S (fun _ => False) s.heap s.heap [] := va_S.rf
  have hl := lv_entry ([.ref (q 5)]) (n := 1) (Nat.le_of_ble_eq_true rfl)
  rw [lg_entry_eq]
  generalize (lg_sl ([.ref (q 5)]) ++ List.replicate (1 - (lg_sl ([.ref (q 5)])).length) Slot.unset).toArray = ls at hl ⊢
  have hl : lv_has ls 1 [(0, .ref (q 5))] := hl
  refine lv_aload_n hx hb dX1_latestState_0 rfl (lv_at hl 0 rfl) ?_
  refine va_get (D := D) (ci := 1) (C := RX1) (T := TX1) (N := 3) hx hb hts iX1 hown hk.1 hP 5 (wC_5 _ _ _ _) rfl 1 (by decide) (hts (.fieldLink RX1 20 "BottleLoop$Past" "latest" "I") (List.mem_of_getElem? (i := 1) rfl)) (fun _ h9 => h9) rfl dX1_latestState_1 ?_
  refine lv_topi (fun z9 hz9 => ?_)
  obtain rfl : z9 = 0 := hz9.trans hlat
  refine lv_if_lt (tgt := 31) hx hb dX1_latestState_4 (by decide) (fun h9 => absurd h9 (by decide)) (fun _ => ?_)
  refine lv_aload_n hx hb dX1_latestState_7 rfl (lv_at hl 0 rfl) ?_
  refine va_get (D := D) (ci := 1) (C := RX1) (T := TX1) (N := 3) hx hb hts iX1 hown hk.1 hP 5 (wC_5 _ _ _ _) rfl 1 (by decide) (hts (.fieldLink RX1 20 "BottleLoop$Past" "latest" "I") (List.mem_of_getElem? (i := 1) rfl)) (fun _ h9 => h9) rfl dX1_latestState_8 ?_
  refine lv_topi (fun z9 hz9 => ?_)
  obtain rfl : z9 = 0 := hz9.trans hlat
  refine lv_aload_n hx hb dX1_latestState_11 rfl (lv_at hl 0 rfl) ?_
  refine va_get (D := D) (ci := 1) (C := RX1) (T := TX1) (N := 3) hx hb hts iX1 hown hk.1 hP 5 (wC_5 _ _ _ _) rfl 0 (by decide) (hts (.fieldLink RX1 11 "BottleLoop$Past" "states" "[LBottleLoop$State;") (List.mem_of_getElem? (i := 2) rfl)) (fun _ h9 => h9) rfl dX1_latestState_12 ?_
  refine va_alen (v := 6) hx hb hk.1 hP 6 1 (wC_6 _ _ _ _) rfl rfl dX1_latestState_15 ?_
  refine lv_icmp_ge (tgt := 31) hx hb dX1_latestState_16 (by decide) (fun h9 => absurd h9 (by decide)) (fun _ => ?_)
  refine lv_aload_n hx hb dX1_latestState_19 rfl (lv_at hl 0 rfl) ?_
  refine va_get (D := D) (ci := 1) (C := RX1) (T := TX1) (N := 3) hx hb hts iX1 hown hk.1 hP 5 (wC_5 _ _ _ _) rfl 0 (by decide) (hts (.fieldLink RX1 11 "BottleLoop$Past" "states" "[LBottleLoop$State;") (List.mem_of_getElem? (i := 2) rfl)) (fun _ h9 => h9) rfl dX1_latestState_20 ?_
  refine lv_aload_n hx hb dX1_latestState_23 rfl (lv_at hl 0 rfl) ?_
  refine va_get (D := D) (ci := 1) (C := RX1) (T := TX1) (N := 3) hx hb hts iX1 hown hk.1 hP 5 (wC_5 _ _ _ _) rfl 1 (by decide) (hts (.fieldLink RX1 20 "BottleLoop$Past" "latest" "I") (List.mem_of_getElem? (i := 1) rfl)) (fun _ h9 => h9) rfl dX1_latestState_24 ?_
  refine lv_topi (fun z9 hz9 => ?_)
  obtain rfl : z9 = 0 := hz9.trans hlat
  refine va_aldq hx hb hk.1 hP 6 1 (wC_6 _ _ _ _) rfl (vp_in_nI (n := 0) (by decide) (by decide)) dX1_latestState_27 ?_
  refine W.eq (g2 := F0 m 28 ls [.ref (q 7)]) rfl ?_
  refine lv_goto (tgt := 32) hx hb dX1_latestState_28 (by decide) ?_
  exact bret_Rr hx hb hr (Or.inl ⟨_, rfl⟩) hS hlocks dX1_latestState_32 rfl
def F2_copyFromS_0 (u : bU) : bU := (bs u 3 (va_cpy (u 0) (u 3) 0 0 345))
set_option maxHeartbeats 4000000 in
set_option maxRecDepth 100000 in
theorem C2_copyFromS_0 (l : Launch) (D : va_G) (cI cO : ClassId) (q : Nat → Nat) (u : bU) (H0 : Heap) (hq : bInj 23 q) (hP : va_P D vwCl (wC cI cO q u) H0) : Met l yX2_copyFrom wsX2_copyFrom ({ frames := 1, cells := 0, slots := 0, locals := 200 }) (bP D [(cI, .int), (cO, .object RX2)] H0 [.ref (q 7), .ref (q 3)]) (bWv D (wC cI cO q) bT (bA 23 q H0.size) (F2_copyFromS_0 u)) 0 0 (bA 23 q H0.size) := by
  refine Met.ofW (cc := cX2_copyFrom) (maxL := 2) (ret := none) (by decide) rfl ?_
  intro p e s m args below meth c s₁ B hml hv
  obtain ⟨rfl, hH, hk⟩ := hv
  subst hH
  have hx := B.exec
  have hb := B.bytes
  have hr := B.returns
  have hts := atoms_spec (ws := wsX2_copyFrom) B.pre
  have hown : s.vm.findClass RX2 = some m.cls := findClass_of_methodNamed B.named
  have hlocks := B.notSynchronized
  have iX2 : ∀ w ∈ wsX20, w ∈ wsX2_copyFrom := by decide +kernel
  have hS : va_S (bA 23 q s.heap.size) s.heap s.heap [] := va_S.rf
  have hl := lv_entry ([.ref (q 7), .ref (q 3)]) (n := 2) (Nat.le_of_ble_eq_true rfl)
  rw [lg_entry_eq]
  generalize (lg_sl ([.ref (q 7), .ref (q 3)]) ++ List.replicate (2 - (lg_sl ([.ref (q 7), .ref (q 3)])).length) Slot.unset).toArray = ls at hl ⊢
  have hl : lv_has ls 2 [(0, .ref (q 7)), (1, .ref (q 3))] := hl
  generalize hF : F2_copyFromS_0 u = tgt
  refine lv_aload_n hx hb dX2_copyFrom_0 rfl (lv_at hl 1 rfl) ?_
  refine lv_ifnull hx hb dX2_copyFrom_1 ?_
  refine lv_aload_n hx hb dX2_copyFrom_4 rfl (lv_at hl 1 rfl) ?_
  refine va_get (D := D) (ci := 2) (C := RX2) (T := TX2) (N := 1) hx hb hts iX2 hown hk.1 hP 3 (wC_3 _ _ _ _) rfl 0 (by decide) (hts (.fieldLink RX2 11 "BottleLoop$State" "cells" "[I") (List.mem_of_getElem? (i := 1) rfl)) (fun _ h9 => h9) rfl dX2_copyFrom_5 ?_
  refine va_alen (v := 345) hx hb hk.1 hP 4 0 (wC_4 _ _ _ _) rfl rfl dX2_copyFrom_8 ?_
  refine lv_aload_n hx hb dX2_copyFrom_9 rfl (lv_at hl 0 rfl) ?_
  refine va_get (D := D) (ci := 2) (C := RX2) (T := TX2) (N := 1) hx hb hts iX2 hown hk.1 hP 7 (wC_7 _ _ _ _) rfl 0 (by decide) (hts (.fieldLink RX2 11 "BottleLoop$State" "cells" "[I") (List.mem_of_getElem? (i := 1) rfl)) (fun _ h9 => h9) rfl dX2_copyFrom_10 ?_
  refine va_alen (v := 345) hx hb hk.1 hP 13 0 (wC_13 _ _ _ _) rfl rfl dX2_copyFrom_13 ?_
  refine lv_icmp_ne (tgt := 35) hx hb dX2_copyFrom_14 (by decide) (fun h9 => absurd (by decide) h9) (fun _ => ?_)
  refine lv_aload_n hx hb dX2_copyFrom_17 rfl (lv_at hl 1 rfl) ?_
  refine va_get (D := D) (ci := 2) (C := RX2) (T := TX2) (N := 1) hx hb hts iX2 hown hk.1 hP 3 (wC_3 _ _ _ _) rfl 0 (by decide) (hts (.fieldLink RX2 11 "BottleLoop$State" "cells" "[I") (List.mem_of_getElem? (i := 1) rfl)) (fun _ h9 => h9) rfl dX2_copyFrom_18 ?_
  refine lv_iconst (v := 0) hx hb dX2_copyFrom_21 (by decide) ?_
  refine lv_aload_n hx hb dX2_copyFrom_22 rfl (lv_at hl 0 rfl) ?_
  refine va_get (D := D) (ci := 2) (C := RX2) (T := TX2) (N := 1) hx hb hts iX2 hown hk.1 hP 7 (wC_7 _ _ _ _) rfl 0 (by decide) (hts (.fieldLink RX2 11 "BottleLoop$State" "cells" "[I") (List.mem_of_getElem? (i := 1) rfl)) (fun _ h9 => h9) rfl dX2_copyFrom_23 ?_
  refine lv_iconst (v := 0) hx hb dX2_copyFrom_26 (by decide) ?_
  refine lv_aload_n hx hb dX2_copyFrom_27 rfl (lv_at hl 0 rfl) ?_
  refine va_get (D := D) (ci := 2) (C := RX2) (T := TX2) (N := 1) hx hb hts iX2 hown hk.1 hP 7 (wC_7 _ _ _ _) rfl 0 (by decide) (hts (.fieldLink RX2 11 "BottleLoop$State" "cells" "[I") (List.mem_of_getElem? (i := 1) rfl)) (fun _ h9 => h9) rfl dX2_copyFrom_28 ?_
  refine va_alen (v := 345) hx hb hk.1 hP 13 0 (wC_13 _ _ _ _) rfl rfl dX2_copyFrom_31 ?_
  refine va_copyi hx hb (hml.trans hl.1.symm) hown (hts (.methodLink RX2 26 arraycopyName) (List.mem_of_getElem? (i := 2) rfl)) (hts (.native arraycopyName) (List.mem_of_getElem? (i := 3) rfl)) (hts (.static arraycopyName) (List.mem_of_getElem? (i := 4) rfl)) (hts (.initialized "java/lang/System") (List.mem_of_getElem? (i := 5) rfl)) hk.1 hP (wC_D hq) hS 4 13 0 0 (wC_4 _ _ _ _) (wC_13 _ _ _ _) rfl rfl rfl (by decide) (by decide) (by decide) (by decide) (by decide) (fun _ _ => rfl) (Nat.le_of_ble_eq_true rfl) (Nat.le_of_ble_eq_true rfl) dX2_copyFrom_32 (fun H locs hP _ hS => ?_)
  have hP : va_P D vwCl (wC cI cO q (bs u 3 (va_cpy (u 0) (u 3) 0 0 345))) H := hP
  exact bret_Wv hx hb hr hP trivial hS hlocks dX2_copyFrom_35 (by rw [← hF, F2_copyFromS_0])
def F2_copyFromN_0 (u : bU) : bU := (bs u 0 (va_cpy (u 3) (u 0) 0 0 345))
set_option maxHeartbeats 4000000 in
set_option maxRecDepth 100000 in
theorem C2_copyFromN_0 (l : Launch) (D : va_G) (cI cO : ClassId) (q : Nat → Nat) (u : bU) (H0 : Heap) (hq : bInj 23 q) (hP : va_P D vwCl (wC cI cO q u) H0) : Met l yX2_copyFrom wsX2_copyFrom ({ frames := 1, cells := 0, slots := 0, locals := 200 }) (bP D [(cI, .int), (cO, .object RX2)] H0 [.ref (q 3), .ref (q 7)]) (bWv D (wC cI cO q) bT (bA 23 q H0.size) (F2_copyFromN_0 u)) 0 0 (bA 23 q H0.size) := by
  refine Met.ofW (cc := cX2_copyFrom) (maxL := 2) (ret := none) (by decide) rfl ?_
  intro p e s m args below meth c s₁ B hml hv
  obtain ⟨rfl, hH, hk⟩ := hv
  subst hH
  have hx := B.exec
  have hb := B.bytes
  have hr := B.returns
  have hts := atoms_spec (ws := wsX2_copyFrom) B.pre
  have hown : s.vm.findClass RX2 = some m.cls := findClass_of_methodNamed B.named
  have hlocks := B.notSynchronized
  have iX2 : ∀ w ∈ wsX20, w ∈ wsX2_copyFrom := by decide +kernel
  have hS : va_S (bA 23 q s.heap.size) s.heap s.heap [] := va_S.rf
  have hl := lv_entry ([.ref (q 3), .ref (q 7)]) (n := 2) (Nat.le_of_ble_eq_true rfl)
  rw [lg_entry_eq]
  generalize (lg_sl ([.ref (q 3), .ref (q 7)]) ++ List.replicate (2 - (lg_sl ([.ref (q 3), .ref (q 7)])).length) Slot.unset).toArray = ls at hl ⊢
  have hl : lv_has ls 2 [(0, .ref (q 3)), (1, .ref (q 7))] := hl
  generalize hF : F2_copyFromN_0 u = tgt
  refine lv_aload_n hx hb dX2_copyFrom_0 rfl (lv_at hl 1 rfl) ?_
  refine lv_ifnull hx hb dX2_copyFrom_1 ?_
  refine lv_aload_n hx hb dX2_copyFrom_4 rfl (lv_at hl 1 rfl) ?_
  refine va_get (D := D) (ci := 2) (C := RX2) (T := TX2) (N := 1) hx hb hts iX2 hown hk.1 hP 7 (wC_7 _ _ _ _) rfl 0 (by decide) (hts (.fieldLink RX2 11 "BottleLoop$State" "cells" "[I") (List.mem_of_getElem? (i := 1) rfl)) (fun _ h9 => h9) rfl dX2_copyFrom_5 ?_
  refine va_alen (v := 345) hx hb hk.1 hP 13 0 (wC_13 _ _ _ _) rfl rfl dX2_copyFrom_8 ?_
  refine lv_aload_n hx hb dX2_copyFrom_9 rfl (lv_at hl 0 rfl) ?_
  refine va_get (D := D) (ci := 2) (C := RX2) (T := TX2) (N := 1) hx hb hts iX2 hown hk.1 hP 3 (wC_3 _ _ _ _) rfl 0 (by decide) (hts (.fieldLink RX2 11 "BottleLoop$State" "cells" "[I") (List.mem_of_getElem? (i := 1) rfl)) (fun _ h9 => h9) rfl dX2_copyFrom_10 ?_
  refine va_alen (v := 345) hx hb hk.1 hP 4 0 (wC_4 _ _ _ _) rfl rfl dX2_copyFrom_13 ?_
  refine lv_icmp_ne (tgt := 35) hx hb dX2_copyFrom_14 (by decide) (fun h9 => absurd (by decide) h9) (fun _ => ?_)
  refine lv_aload_n hx hb dX2_copyFrom_17 rfl (lv_at hl 1 rfl) ?_
  refine va_get (D := D) (ci := 2) (C := RX2) (T := TX2) (N := 1) hx hb hts iX2 hown hk.1 hP 7 (wC_7 _ _ _ _) rfl 0 (by decide) (hts (.fieldLink RX2 11 "BottleLoop$State" "cells" "[I") (List.mem_of_getElem? (i := 1) rfl)) (fun _ h9 => h9) rfl dX2_copyFrom_18 ?_
  refine lv_iconst (v := 0) hx hb dX2_copyFrom_21 (by decide) ?_
  refine lv_aload_n hx hb dX2_copyFrom_22 rfl (lv_at hl 0 rfl) ?_
  refine va_get (D := D) (ci := 2) (C := RX2) (T := TX2) (N := 1) hx hb hts iX2 hown hk.1 hP 3 (wC_3 _ _ _ _) rfl 0 (by decide) (hts (.fieldLink RX2 11 "BottleLoop$State" "cells" "[I") (List.mem_of_getElem? (i := 1) rfl)) (fun _ h9 => h9) rfl dX2_copyFrom_23 ?_
  refine lv_iconst (v := 0) hx hb dX2_copyFrom_26 (by decide) ?_
  refine lv_aload_n hx hb dX2_copyFrom_27 rfl (lv_at hl 0 rfl) ?_
  refine va_get (D := D) (ci := 2) (C := RX2) (T := TX2) (N := 1) hx hb hts iX2 hown hk.1 hP 3 (wC_3 _ _ _ _) rfl 0 (by decide) (hts (.fieldLink RX2 11 "BottleLoop$State" "cells" "[I") (List.mem_of_getElem? (i := 1) rfl)) (fun _ h9 => h9) rfl dX2_copyFrom_28 ?_
  refine va_alen (v := 345) hx hb hk.1 hP 4 0 (wC_4 _ _ _ _) rfl rfl dX2_copyFrom_31 ?_
  refine va_copyi hx hb (hml.trans hl.1.symm) hown (hts (.methodLink RX2 26 arraycopyName) (List.mem_of_getElem? (i := 2) rfl)) (hts (.native arraycopyName) (List.mem_of_getElem? (i := 3) rfl)) (hts (.static arraycopyName) (List.mem_of_getElem? (i := 4) rfl)) (hts (.initialized "java/lang/System") (List.mem_of_getElem? (i := 5) rfl)) hk.1 hP (wC_D hq) hS 13 4 0 0 (wC_13 _ _ _ _) (wC_4 _ _ _ _) rfl rfl rfl (by decide) (by decide) (by decide) (by decide) (by decide) (fun _ _ => rfl) (Nat.le_of_ble_eq_true rfl) (Nat.le_of_ble_eq_true rfl) dX2_copyFrom_32 (fun H locs hP _ hS => ?_)
  have hP : va_P D vwCl (wC cI cO q (bs u 0 (va_cpy (u 3) (u 0) 0 0 345))) H := hP
  exact bret_Wv hx hb hr hP trivial hS hlocks dX2_copyFrom_35 (by rw [← hF, F2_copyFromN_0])
set_option maxHeartbeats 4000000 in
set_option maxRecDepth 100000 in
theorem C1_latestState_1 (l : Launch) (D : va_G) (cI cO : ClassId) (q : Nat → Nat) (u : bU) (H0 : Heap) (hP : va_P D vwCl (wC cI cO q u) H0) (hlat : u 11 0 = 1) : Met l yX1_latestState wsX1_latestState ({ frames := 0, cells := 0, slots := 0, locals := 0 }) (bP D [(cI, .int), (cO, .object RX2)] H0 [.ref (q 5)]) (bRr H0 (q 8)) 0 0 (fun _ => False) := by
  refine Met.ofW (cc := cX1_latestState) (maxL := 1) (ret := (some (.object "BottleLoop$State"))) (by decide) rfl ?_
  intro p e s m args below meth c s₁ B hml hv
  obtain ⟨rfl, hH, hk⟩ := hv
  subst hH
  have hx := B.exec
  have hb := B.bytes
  have hr := B.returns
  have hts := atoms_spec (ws := wsX1_latestState) B.pre
  have hown : s.vm.findClass RX1 = some m.cls := findClass_of_methodNamed B.named
  have hlocks := B.notSynchronized
  have iX1 : ∀ w ∈ wsX10, w ∈ wsX1_latestState := by decide +kernel
  have hS : va_S (fun _ => False) s.heap s.heap [] := va_S.rf
  have hl := lv_entry ([.ref (q 5)]) (n := 1) (Nat.le_of_ble_eq_true rfl)
  rw [lg_entry_eq]
  generalize (lg_sl ([.ref (q 5)]) ++ List.replicate (1 - (lg_sl ([.ref (q 5)])).length) Slot.unset).toArray = ls at hl ⊢
  have hl : lv_has ls 1 [(0, .ref (q 5))] := hl
  refine lv_aload_n hx hb dX1_latestState_0 rfl (lv_at hl 0 rfl) ?_
  refine va_get (D := D) (ci := 1) (C := RX1) (T := TX1) (N := 3) hx hb hts iX1 hown hk.1 hP 5 (wC_5 _ _ _ _) rfl 1 (by decide) (hts (.fieldLink RX1 20 "BottleLoop$Past" "latest" "I") (List.mem_of_getElem? (i := 1) rfl)) (fun _ h9 => h9) rfl dX1_latestState_1 ?_
  refine lv_topi (fun z9 hz9 => ?_)
  obtain rfl : z9 = 1 := hz9.trans hlat
  refine lv_if_lt (tgt := 31) hx hb dX1_latestState_4 (by decide) (fun h9 => absurd h9 (by decide)) (fun _ => ?_)
  refine lv_aload_n hx hb dX1_latestState_7 rfl (lv_at hl 0 rfl) ?_
  refine va_get (D := D) (ci := 1) (C := RX1) (T := TX1) (N := 3) hx hb hts iX1 hown hk.1 hP 5 (wC_5 _ _ _ _) rfl 1 (by decide) (hts (.fieldLink RX1 20 "BottleLoop$Past" "latest" "I") (List.mem_of_getElem? (i := 1) rfl)) (fun _ h9 => h9) rfl dX1_latestState_8 ?_
  refine lv_topi (fun z9 hz9 => ?_)
  obtain rfl : z9 = 1 := hz9.trans hlat
  refine lv_aload_n hx hb dX1_latestState_11 rfl (lv_at hl 0 rfl) ?_
  refine va_get (D := D) (ci := 1) (C := RX1) (T := TX1) (N := 3) hx hb hts iX1 hown hk.1 hP 5 (wC_5 _ _ _ _) rfl 0 (by decide) (hts (.fieldLink RX1 11 "BottleLoop$Past" "states" "[LBottleLoop$State;") (List.mem_of_getElem? (i := 2) rfl)) (fun _ h9 => h9) rfl dX1_latestState_12 ?_
  refine va_alen (v := 6) hx hb hk.1 hP 6 1 (wC_6 _ _ _ _) rfl rfl dX1_latestState_15 ?_
  refine lv_icmp_ge (tgt := 31) hx hb dX1_latestState_16 (by decide) (fun h9 => absurd h9 (by decide)) (fun _ => ?_)
  refine lv_aload_n hx hb dX1_latestState_19 rfl (lv_at hl 0 rfl) ?_
  refine va_get (D := D) (ci := 1) (C := RX1) (T := TX1) (N := 3) hx hb hts iX1 hown hk.1 hP 5 (wC_5 _ _ _ _) rfl 0 (by decide) (hts (.fieldLink RX1 11 "BottleLoop$Past" "states" "[LBottleLoop$State;") (List.mem_of_getElem? (i := 2) rfl)) (fun _ h9 => h9) rfl dX1_latestState_20 ?_
  refine lv_aload_n hx hb dX1_latestState_23 rfl (lv_at hl 0 rfl) ?_
  refine va_get (D := D) (ci := 1) (C := RX1) (T := TX1) (N := 3) hx hb hts iX1 hown hk.1 hP 5 (wC_5 _ _ _ _) rfl 1 (by decide) (hts (.fieldLink RX1 20 "BottleLoop$Past" "latest" "I") (List.mem_of_getElem? (i := 1) rfl)) (fun _ h9 => h9) rfl dX1_latestState_24 ?_
  refine lv_topi (fun z9 hz9 => ?_)
  obtain rfl : z9 = 1 := hz9.trans hlat
  refine va_aldq hx hb hk.1 hP 6 1 (wC_6 _ _ _ _) rfl (vp_in_nI (n := 1) (by decide) (by decide)) dX1_latestState_27 ?_
  refine W.eq (g2 := F0 m 28 ls [.ref (q 8)]) rfl ?_
  refine lv_goto (tgt := 32) hx hb dX1_latestState_28 (by decide) ?_
  exact bret_Rr hx hb hr (Or.inl ⟨_, rfl⟩) hS hlocks dX1_latestState_32 rfl
def F2_copyFromS_1 (u : bU) : bU := (bs u 4 (va_cpy (u 0) (u 4) 0 0 345))
set_option maxHeartbeats 4000000 in
set_option maxRecDepth 100000 in
theorem C2_copyFromS_1 (l : Launch) (D : va_G) (cI cO : ClassId) (q : Nat → Nat) (u : bU) (H0 : Heap) (hq : bInj 23 q) (hP : va_P D vwCl (wC cI cO q u) H0) : Met l yX2_copyFrom wsX2_copyFrom ({ frames := 1, cells := 0, slots := 0, locals := 200 }) (bP D [(cI, .int), (cO, .object RX2)] H0 [.ref (q 8), .ref (q 3)]) (bWv D (wC cI cO q) bT (bA 23 q H0.size) (F2_copyFromS_1 u)) 0 0 (bA 23 q H0.size) := by
  refine Met.ofW (cc := cX2_copyFrom) (maxL := 2) (ret := none) (by decide) rfl ?_
  intro p e s m args below meth c s₁ B hml hv
  obtain ⟨rfl, hH, hk⟩ := hv
  subst hH
  have hx := B.exec
  have hb := B.bytes
  have hr := B.returns
  have hts := atoms_spec (ws := wsX2_copyFrom) B.pre
  have hown : s.vm.findClass RX2 = some m.cls := findClass_of_methodNamed B.named
  have hlocks := B.notSynchronized
  have iX2 : ∀ w ∈ wsX20, w ∈ wsX2_copyFrom := by decide +kernel
  have hS : va_S (bA 23 q s.heap.size) s.heap s.heap [] := va_S.rf
  have hl := lv_entry ([.ref (q 8), .ref (q 3)]) (n := 2) (Nat.le_of_ble_eq_true rfl)
  rw [lg_entry_eq]
  generalize (lg_sl ([.ref (q 8), .ref (q 3)]) ++ List.replicate (2 - (lg_sl ([.ref (q 8), .ref (q 3)])).length) Slot.unset).toArray = ls at hl ⊢
  have hl : lv_has ls 2 [(0, .ref (q 8)), (1, .ref (q 3))] := hl
  generalize hF : F2_copyFromS_1 u = tgt
  refine lv_aload_n hx hb dX2_copyFrom_0 rfl (lv_at hl 1 rfl) ?_
  refine lv_ifnull hx hb dX2_copyFrom_1 ?_
  refine lv_aload_n hx hb dX2_copyFrom_4 rfl (lv_at hl 1 rfl) ?_
  refine va_get (D := D) (ci := 2) (C := RX2) (T := TX2) (N := 1) hx hb hts iX2 hown hk.1 hP 3 (wC_3 _ _ _ _) rfl 0 (by decide) (hts (.fieldLink RX2 11 "BottleLoop$State" "cells" "[I") (List.mem_of_getElem? (i := 1) rfl)) (fun _ h9 => h9) rfl dX2_copyFrom_5 ?_
  refine va_alen (v := 345) hx hb hk.1 hP 4 0 (wC_4 _ _ _ _) rfl rfl dX2_copyFrom_8 ?_
  refine lv_aload_n hx hb dX2_copyFrom_9 rfl (lv_at hl 0 rfl) ?_
  refine va_get (D := D) (ci := 2) (C := RX2) (T := TX2) (N := 1) hx hb hts iX2 hown hk.1 hP 8 (wC_8 _ _ _ _) rfl 0 (by decide) (hts (.fieldLink RX2 11 "BottleLoop$State" "cells" "[I") (List.mem_of_getElem? (i := 1) rfl)) (fun _ h9 => h9) rfl dX2_copyFrom_10 ?_
  refine va_alen (v := 345) hx hb hk.1 hP 14 0 (wC_14 _ _ _ _) rfl rfl dX2_copyFrom_13 ?_
  refine lv_icmp_ne (tgt := 35) hx hb dX2_copyFrom_14 (by decide) (fun h9 => absurd (by decide) h9) (fun _ => ?_)
  refine lv_aload_n hx hb dX2_copyFrom_17 rfl (lv_at hl 1 rfl) ?_
  refine va_get (D := D) (ci := 2) (C := RX2) (T := TX2) (N := 1) hx hb hts iX2 hown hk.1 hP 3 (wC_3 _ _ _ _) rfl 0 (by decide) (hts (.fieldLink RX2 11 "BottleLoop$State" "cells" "[I") (List.mem_of_getElem? (i := 1) rfl)) (fun _ h9 => h9) rfl dX2_copyFrom_18 ?_
  refine lv_iconst (v := 0) hx hb dX2_copyFrom_21 (by decide) ?_
  refine lv_aload_n hx hb dX2_copyFrom_22 rfl (lv_at hl 0 rfl) ?_
  refine va_get (D := D) (ci := 2) (C := RX2) (T := TX2) (N := 1) hx hb hts iX2 hown hk.1 hP 8 (wC_8 _ _ _ _) rfl 0 (by decide) (hts (.fieldLink RX2 11 "BottleLoop$State" "cells" "[I") (List.mem_of_getElem? (i := 1) rfl)) (fun _ h9 => h9) rfl dX2_copyFrom_23 ?_
  refine lv_iconst (v := 0) hx hb dX2_copyFrom_26 (by decide) ?_
  refine lv_aload_n hx hb dX2_copyFrom_27 rfl (lv_at hl 0 rfl) ?_
  refine va_get (D := D) (ci := 2) (C := RX2) (T := TX2) (N := 1) hx hb hts iX2 hown hk.1 hP 8 (wC_8 _ _ _ _) rfl 0 (by decide) (hts (.fieldLink RX2 11 "BottleLoop$State" "cells" "[I") (List.mem_of_getElem? (i := 1) rfl)) (fun _ h9 => h9) rfl dX2_copyFrom_28 ?_
  refine va_alen (v := 345) hx hb hk.1 hP 14 0 (wC_14 _ _ _ _) rfl rfl dX2_copyFrom_31 ?_
  refine va_copyi hx hb (hml.trans hl.1.symm) hown (hts (.methodLink RX2 26 arraycopyName) (List.mem_of_getElem? (i := 2) rfl)) (hts (.native arraycopyName) (List.mem_of_getElem? (i := 3) rfl)) (hts (.static arraycopyName) (List.mem_of_getElem? (i := 4) rfl)) (hts (.initialized "java/lang/System") (List.mem_of_getElem? (i := 5) rfl)) hk.1 hP (wC_D hq) hS 4 14 0 0 (wC_4 _ _ _ _) (wC_14 _ _ _ _) rfl rfl rfl (by decide) (by decide) (by decide) (by decide) (by decide) (fun _ _ => rfl) (Nat.le_of_ble_eq_true rfl) (Nat.le_of_ble_eq_true rfl) dX2_copyFrom_32 (fun H locs hP _ hS => ?_)
  have hP : va_P D vwCl (wC cI cO q (bs u 4 (va_cpy (u 0) (u 4) 0 0 345))) H := hP
  exact bret_Wv hx hb hr hP trivial hS hlocks dX2_copyFrom_35 (by rw [← hF, F2_copyFromS_1])
def F2_copyFromN_1 (u : bU) : bU := (bs u 0 (va_cpy (u 4) (u 0) 0 0 345))
set_option maxHeartbeats 4000000 in
set_option maxRecDepth 100000 in
theorem C2_copyFromN_1 (l : Launch) (D : va_G) (cI cO : ClassId) (q : Nat → Nat) (u : bU) (H0 : Heap) (hq : bInj 23 q) (hP : va_P D vwCl (wC cI cO q u) H0) : Met l yX2_copyFrom wsX2_copyFrom ({ frames := 1, cells := 0, slots := 0, locals := 200 }) (bP D [(cI, .int), (cO, .object RX2)] H0 [.ref (q 3), .ref (q 8)]) (bWv D (wC cI cO q) bT (bA 23 q H0.size) (F2_copyFromN_1 u)) 0 0 (bA 23 q H0.size) := by
  refine Met.ofW (cc := cX2_copyFrom) (maxL := 2) (ret := none) (by decide) rfl ?_
  intro p e s m args below meth c s₁ B hml hv
  obtain ⟨rfl, hH, hk⟩ := hv
  subst hH
  have hx := B.exec
  have hb := B.bytes
  have hr := B.returns
  have hts := atoms_spec (ws := wsX2_copyFrom) B.pre
  have hown : s.vm.findClass RX2 = some m.cls := findClass_of_methodNamed B.named
  have hlocks := B.notSynchronized
  have iX2 : ∀ w ∈ wsX20, w ∈ wsX2_copyFrom := by decide +kernel
  have hS : va_S (bA 23 q s.heap.size) s.heap s.heap [] := va_S.rf
  have hl := lv_entry ([.ref (q 3), .ref (q 8)]) (n := 2) (Nat.le_of_ble_eq_true rfl)
  rw [lg_entry_eq]
  generalize (lg_sl ([.ref (q 3), .ref (q 8)]) ++ List.replicate (2 - (lg_sl ([.ref (q 3), .ref (q 8)])).length) Slot.unset).toArray = ls at hl ⊢
  have hl : lv_has ls 2 [(0, .ref (q 3)), (1, .ref (q 8))] := hl
  generalize hF : F2_copyFromN_1 u = tgt
  refine lv_aload_n hx hb dX2_copyFrom_0 rfl (lv_at hl 1 rfl) ?_
  refine lv_ifnull hx hb dX2_copyFrom_1 ?_
  refine lv_aload_n hx hb dX2_copyFrom_4 rfl (lv_at hl 1 rfl) ?_
  refine va_get (D := D) (ci := 2) (C := RX2) (T := TX2) (N := 1) hx hb hts iX2 hown hk.1 hP 8 (wC_8 _ _ _ _) rfl 0 (by decide) (hts (.fieldLink RX2 11 "BottleLoop$State" "cells" "[I") (List.mem_of_getElem? (i := 1) rfl)) (fun _ h9 => h9) rfl dX2_copyFrom_5 ?_
  refine va_alen (v := 345) hx hb hk.1 hP 14 0 (wC_14 _ _ _ _) rfl rfl dX2_copyFrom_8 ?_
  refine lv_aload_n hx hb dX2_copyFrom_9 rfl (lv_at hl 0 rfl) ?_
  refine va_get (D := D) (ci := 2) (C := RX2) (T := TX2) (N := 1) hx hb hts iX2 hown hk.1 hP 3 (wC_3 _ _ _ _) rfl 0 (by decide) (hts (.fieldLink RX2 11 "BottleLoop$State" "cells" "[I") (List.mem_of_getElem? (i := 1) rfl)) (fun _ h9 => h9) rfl dX2_copyFrom_10 ?_
  refine va_alen (v := 345) hx hb hk.1 hP 4 0 (wC_4 _ _ _ _) rfl rfl dX2_copyFrom_13 ?_
  refine lv_icmp_ne (tgt := 35) hx hb dX2_copyFrom_14 (by decide) (fun h9 => absurd (by decide) h9) (fun _ => ?_)
  refine lv_aload_n hx hb dX2_copyFrom_17 rfl (lv_at hl 1 rfl) ?_
  refine va_get (D := D) (ci := 2) (C := RX2) (T := TX2) (N := 1) hx hb hts iX2 hown hk.1 hP 8 (wC_8 _ _ _ _) rfl 0 (by decide) (hts (.fieldLink RX2 11 "BottleLoop$State" "cells" "[I") (List.mem_of_getElem? (i := 1) rfl)) (fun _ h9 => h9) rfl dX2_copyFrom_18 ?_
  refine lv_iconst (v := 0) hx hb dX2_copyFrom_21 (by decide) ?_
  refine lv_aload_n hx hb dX2_copyFrom_22 rfl (lv_at hl 0 rfl) ?_
  refine va_get (D := D) (ci := 2) (C := RX2) (T := TX2) (N := 1) hx hb hts iX2 hown hk.1 hP 3 (wC_3 _ _ _ _) rfl 0 (by decide) (hts (.fieldLink RX2 11 "BottleLoop$State" "cells" "[I") (List.mem_of_getElem? (i := 1) rfl)) (fun _ h9 => h9) rfl dX2_copyFrom_23 ?_
  refine lv_iconst (v := 0) hx hb dX2_copyFrom_26 (by decide) ?_
  refine lv_aload_n hx hb dX2_copyFrom_27 rfl (lv_at hl 0 rfl) ?_
  refine va_get (D := D) (ci := 2) (C := RX2) (T := TX2) (N := 1) hx hb hts iX2 hown hk.1 hP 3 (wC_3 _ _ _ _) rfl 0 (by decide) (hts (.fieldLink RX2 11 "BottleLoop$State" "cells" "[I") (List.mem_of_getElem? (i := 1) rfl)) (fun _ h9 => h9) rfl dX2_copyFrom_28 ?_
  refine va_alen (v := 345) hx hb hk.1 hP 4 0 (wC_4 _ _ _ _) rfl rfl dX2_copyFrom_31 ?_
  refine va_copyi hx hb (hml.trans hl.1.symm) hown (hts (.methodLink RX2 26 arraycopyName) (List.mem_of_getElem? (i := 2) rfl)) (hts (.native arraycopyName) (List.mem_of_getElem? (i := 3) rfl)) (hts (.static arraycopyName) (List.mem_of_getElem? (i := 4) rfl)) (hts (.initialized "java/lang/System") (List.mem_of_getElem? (i := 5) rfl)) hk.1 hP (wC_D hq) hS 14 4 0 0 (wC_14 _ _ _ _) (wC_4 _ _ _ _) rfl rfl rfl (by decide) (by decide) (by decide) (by decide) (by decide) (fun _ _ => rfl) (Nat.le_of_ble_eq_true rfl) (Nat.le_of_ble_eq_true rfl) dX2_copyFrom_32 (fun H locs hP _ hS => ?_)
  have hP : va_P D vwCl (wC cI cO q (bs u 0 (va_cpy (u 4) (u 0) 0 0 345))) H := hP
  exact bret_Wv hx hb hr hP trivial hS hlocks dX2_copyFrom_35 (by rw [← hF, F2_copyFromN_1])
set_option maxHeartbeats 4000000 in
set_option maxRecDepth 100000 in
theorem C1_latestState_2 (l : Launch) (D : va_G) (cI cO : ClassId) (q : Nat → Nat) (u : bU) (H0 : Heap) (hP : va_P D vwCl (wC cI cO q u) H0) (hlat : u 11 0 = 2) : Met l yX1_latestState wsX1_latestState ({ frames := 0, cells := 0, slots := 0, locals := 0 }) (bP D [(cI, .int), (cO, .object RX2)] H0 [.ref (q 5)]) (bRr H0 (q 9)) 0 0 (fun _ => False) := by
  refine Met.ofW (cc := cX1_latestState) (maxL := 1) (ret := (some (.object "BottleLoop$State"))) (by decide) rfl ?_
  intro p e s m args below meth c s₁ B hml hv
  obtain ⟨rfl, hH, hk⟩ := hv
  subst hH
  have hx := B.exec
  have hb := B.bytes
  have hr := B.returns
  have hts := atoms_spec (ws := wsX1_latestState) B.pre
  have hown : s.vm.findClass RX1 = some m.cls := findClass_of_methodNamed B.named
  have hlocks := B.notSynchronized
  have iX1 : ∀ w ∈ wsX10, w ∈ wsX1_latestState := by decide +kernel
  have hS : va_S (fun _ => False) s.heap s.heap [] := va_S.rf
  have hl := lv_entry ([.ref (q 5)]) (n := 1) (Nat.le_of_ble_eq_true rfl)
  rw [lg_entry_eq]
  generalize (lg_sl ([.ref (q 5)]) ++ List.replicate (1 - (lg_sl ([.ref (q 5)])).length) Slot.unset).toArray = ls at hl ⊢
  have hl : lv_has ls 1 [(0, .ref (q 5))] := hl
  refine lv_aload_n hx hb dX1_latestState_0 rfl (lv_at hl 0 rfl) ?_
  refine va_get (D := D) (ci := 1) (C := RX1) (T := TX1) (N := 3) hx hb hts iX1 hown hk.1 hP 5 (wC_5 _ _ _ _) rfl 1 (by decide) (hts (.fieldLink RX1 20 "BottleLoop$Past" "latest" "I") (List.mem_of_getElem? (i := 1) rfl)) (fun _ h9 => h9) rfl dX1_latestState_1 ?_
  refine lv_topi (fun z9 hz9 => ?_)
  obtain rfl : z9 = 2 := hz9.trans hlat
  refine lv_if_lt (tgt := 31) hx hb dX1_latestState_4 (by decide) (fun h9 => absurd h9 (by decide)) (fun _ => ?_)
  refine lv_aload_n hx hb dX1_latestState_7 rfl (lv_at hl 0 rfl) ?_
  refine va_get (D := D) (ci := 1) (C := RX1) (T := TX1) (N := 3) hx hb hts iX1 hown hk.1 hP 5 (wC_5 _ _ _ _) rfl 1 (by decide) (hts (.fieldLink RX1 20 "BottleLoop$Past" "latest" "I") (List.mem_of_getElem? (i := 1) rfl)) (fun _ h9 => h9) rfl dX1_latestState_8 ?_
  refine lv_topi (fun z9 hz9 => ?_)
  obtain rfl : z9 = 2 := hz9.trans hlat
  refine lv_aload_n hx hb dX1_latestState_11 rfl (lv_at hl 0 rfl) ?_
  refine va_get (D := D) (ci := 1) (C := RX1) (T := TX1) (N := 3) hx hb hts iX1 hown hk.1 hP 5 (wC_5 _ _ _ _) rfl 0 (by decide) (hts (.fieldLink RX1 11 "BottleLoop$Past" "states" "[LBottleLoop$State;") (List.mem_of_getElem? (i := 2) rfl)) (fun _ h9 => h9) rfl dX1_latestState_12 ?_
  refine va_alen (v := 6) hx hb hk.1 hP 6 1 (wC_6 _ _ _ _) rfl rfl dX1_latestState_15 ?_
  refine lv_icmp_ge (tgt := 31) hx hb dX1_latestState_16 (by decide) (fun h9 => absurd h9 (by decide)) (fun _ => ?_)
  refine lv_aload_n hx hb dX1_latestState_19 rfl (lv_at hl 0 rfl) ?_
  refine va_get (D := D) (ci := 1) (C := RX1) (T := TX1) (N := 3) hx hb hts iX1 hown hk.1 hP 5 (wC_5 _ _ _ _) rfl 0 (by decide) (hts (.fieldLink RX1 11 "BottleLoop$Past" "states" "[LBottleLoop$State;") (List.mem_of_getElem? (i := 2) rfl)) (fun _ h9 => h9) rfl dX1_latestState_20 ?_
  refine lv_aload_n hx hb dX1_latestState_23 rfl (lv_at hl 0 rfl) ?_
  refine va_get (D := D) (ci := 1) (C := RX1) (T := TX1) (N := 3) hx hb hts iX1 hown hk.1 hP 5 (wC_5 _ _ _ _) rfl 1 (by decide) (hts (.fieldLink RX1 20 "BottleLoop$Past" "latest" "I") (List.mem_of_getElem? (i := 1) rfl)) (fun _ h9 => h9) rfl dX1_latestState_24 ?_
  refine lv_topi (fun z9 hz9 => ?_)
  obtain rfl : z9 = 2 := hz9.trans hlat
  refine va_aldq hx hb hk.1 hP 6 1 (wC_6 _ _ _ _) rfl (vp_in_nI (n := 2) (by decide) (by decide)) dX1_latestState_27 ?_
  refine W.eq (g2 := F0 m 28 ls [.ref (q 9)]) rfl ?_
  refine lv_goto (tgt := 32) hx hb dX1_latestState_28 (by decide) ?_
  exact bret_Rr hx hb hr (Or.inl ⟨_, rfl⟩) hS hlocks dX1_latestState_32 rfl
def F2_copyFromS_2 (u : bU) : bU := (bs u 5 (va_cpy (u 0) (u 5) 0 0 345))
set_option maxHeartbeats 4000000 in
set_option maxRecDepth 100000 in
theorem C2_copyFromS_2 (l : Launch) (D : va_G) (cI cO : ClassId) (q : Nat → Nat) (u : bU) (H0 : Heap) (hq : bInj 23 q) (hP : va_P D vwCl (wC cI cO q u) H0) : Met l yX2_copyFrom wsX2_copyFrom ({ frames := 1, cells := 0, slots := 0, locals := 200 }) (bP D [(cI, .int), (cO, .object RX2)] H0 [.ref (q 9), .ref (q 3)]) (bWv D (wC cI cO q) bT (bA 23 q H0.size) (F2_copyFromS_2 u)) 0 0 (bA 23 q H0.size) := by
  refine Met.ofW (cc := cX2_copyFrom) (maxL := 2) (ret := none) (by decide) rfl ?_
  intro p e s m args below meth c s₁ B hml hv
  obtain ⟨rfl, hH, hk⟩ := hv
  subst hH
  have hx := B.exec
  have hb := B.bytes
  have hr := B.returns
  have hts := atoms_spec (ws := wsX2_copyFrom) B.pre
  have hown : s.vm.findClass RX2 = some m.cls := findClass_of_methodNamed B.named
  have hlocks := B.notSynchronized
  have iX2 : ∀ w ∈ wsX20, w ∈ wsX2_copyFrom := by decide +kernel
  have hS : va_S (bA 23 q s.heap.size) s.heap s.heap [] := va_S.rf
  have hl := lv_entry ([.ref (q 9), .ref (q 3)]) (n := 2) (Nat.le_of_ble_eq_true rfl)
  rw [lg_entry_eq]
  generalize (lg_sl ([.ref (q 9), .ref (q 3)]) ++ List.replicate (2 - (lg_sl ([.ref (q 9), .ref (q 3)])).length) Slot.unset).toArray = ls at hl ⊢
  have hl : lv_has ls 2 [(0, .ref (q 9)), (1, .ref (q 3))] := hl
  generalize hF : F2_copyFromS_2 u = tgt
  refine lv_aload_n hx hb dX2_copyFrom_0 rfl (lv_at hl 1 rfl) ?_
  refine lv_ifnull hx hb dX2_copyFrom_1 ?_
  refine lv_aload_n hx hb dX2_copyFrom_4 rfl (lv_at hl 1 rfl) ?_
  refine va_get (D := D) (ci := 2) (C := RX2) (T := TX2) (N := 1) hx hb hts iX2 hown hk.1 hP 3 (wC_3 _ _ _ _) rfl 0 (by decide) (hts (.fieldLink RX2 11 "BottleLoop$State" "cells" "[I") (List.mem_of_getElem? (i := 1) rfl)) (fun _ h9 => h9) rfl dX2_copyFrom_5 ?_
  refine va_alen (v := 345) hx hb hk.1 hP 4 0 (wC_4 _ _ _ _) rfl rfl dX2_copyFrom_8 ?_
  refine lv_aload_n hx hb dX2_copyFrom_9 rfl (lv_at hl 0 rfl) ?_
  refine va_get (D := D) (ci := 2) (C := RX2) (T := TX2) (N := 1) hx hb hts iX2 hown hk.1 hP 9 (wC_9 _ _ _ _) rfl 0 (by decide) (hts (.fieldLink RX2 11 "BottleLoop$State" "cells" "[I") (List.mem_of_getElem? (i := 1) rfl)) (fun _ h9 => h9) rfl dX2_copyFrom_10 ?_
  refine va_alen (v := 345) hx hb hk.1 hP 15 0 (wC_15 _ _ _ _) rfl rfl dX2_copyFrom_13 ?_
  refine lv_icmp_ne (tgt := 35) hx hb dX2_copyFrom_14 (by decide) (fun h9 => absurd (by decide) h9) (fun _ => ?_)
  refine lv_aload_n hx hb dX2_copyFrom_17 rfl (lv_at hl 1 rfl) ?_
  refine va_get (D := D) (ci := 2) (C := RX2) (T := TX2) (N := 1) hx hb hts iX2 hown hk.1 hP 3 (wC_3 _ _ _ _) rfl 0 (by decide) (hts (.fieldLink RX2 11 "BottleLoop$State" "cells" "[I") (List.mem_of_getElem? (i := 1) rfl)) (fun _ h9 => h9) rfl dX2_copyFrom_18 ?_
  refine lv_iconst (v := 0) hx hb dX2_copyFrom_21 (by decide) ?_
  refine lv_aload_n hx hb dX2_copyFrom_22 rfl (lv_at hl 0 rfl) ?_
  refine va_get (D := D) (ci := 2) (C := RX2) (T := TX2) (N := 1) hx hb hts iX2 hown hk.1 hP 9 (wC_9 _ _ _ _) rfl 0 (by decide) (hts (.fieldLink RX2 11 "BottleLoop$State" "cells" "[I") (List.mem_of_getElem? (i := 1) rfl)) (fun _ h9 => h9) rfl dX2_copyFrom_23 ?_
  refine lv_iconst (v := 0) hx hb dX2_copyFrom_26 (by decide) ?_
  refine lv_aload_n hx hb dX2_copyFrom_27 rfl (lv_at hl 0 rfl) ?_
  refine va_get (D := D) (ci := 2) (C := RX2) (T := TX2) (N := 1) hx hb hts iX2 hown hk.1 hP 9 (wC_9 _ _ _ _) rfl 0 (by decide) (hts (.fieldLink RX2 11 "BottleLoop$State" "cells" "[I") (List.mem_of_getElem? (i := 1) rfl)) (fun _ h9 => h9) rfl dX2_copyFrom_28 ?_
  refine va_alen (v := 345) hx hb hk.1 hP 15 0 (wC_15 _ _ _ _) rfl rfl dX2_copyFrom_31 ?_
  refine va_copyi hx hb (hml.trans hl.1.symm) hown (hts (.methodLink RX2 26 arraycopyName) (List.mem_of_getElem? (i := 2) rfl)) (hts (.native arraycopyName) (List.mem_of_getElem? (i := 3) rfl)) (hts (.static arraycopyName) (List.mem_of_getElem? (i := 4) rfl)) (hts (.initialized "java/lang/System") (List.mem_of_getElem? (i := 5) rfl)) hk.1 hP (wC_D hq) hS 4 15 0 0 (wC_4 _ _ _ _) (wC_15 _ _ _ _) rfl rfl rfl (by decide) (by decide) (by decide) (by decide) (by decide) (fun _ _ => rfl) (Nat.le_of_ble_eq_true rfl) (Nat.le_of_ble_eq_true rfl) dX2_copyFrom_32 (fun H locs hP _ hS => ?_)
  have hP : va_P D vwCl (wC cI cO q (bs u 5 (va_cpy (u 0) (u 5) 0 0 345))) H := hP
  exact bret_Wv hx hb hr hP trivial hS hlocks dX2_copyFrom_35 (by rw [← hF, F2_copyFromS_2])
def F2_copyFromN_2 (u : bU) : bU := (bs u 0 (va_cpy (u 5) (u 0) 0 0 345))
set_option maxHeartbeats 4000000 in
set_option maxRecDepth 100000 in
theorem C2_copyFromN_2 (l : Launch) (D : va_G) (cI cO : ClassId) (q : Nat → Nat) (u : bU) (H0 : Heap) (hq : bInj 23 q) (hP : va_P D vwCl (wC cI cO q u) H0) : Met l yX2_copyFrom wsX2_copyFrom ({ frames := 1, cells := 0, slots := 0, locals := 200 }) (bP D [(cI, .int), (cO, .object RX2)] H0 [.ref (q 3), .ref (q 9)]) (bWv D (wC cI cO q) bT (bA 23 q H0.size) (F2_copyFromN_2 u)) 0 0 (bA 23 q H0.size) := by
  refine Met.ofW (cc := cX2_copyFrom) (maxL := 2) (ret := none) (by decide) rfl ?_
  intro p e s m args below meth c s₁ B hml hv
  obtain ⟨rfl, hH, hk⟩ := hv
  subst hH
  have hx := B.exec
  have hb := B.bytes
  have hr := B.returns
  have hts := atoms_spec (ws := wsX2_copyFrom) B.pre
  have hown : s.vm.findClass RX2 = some m.cls := findClass_of_methodNamed B.named
  have hlocks := B.notSynchronized
  have iX2 : ∀ w ∈ wsX20, w ∈ wsX2_copyFrom := by decide +kernel
  have hS : va_S (bA 23 q s.heap.size) s.heap s.heap [] := va_S.rf
  have hl := lv_entry ([.ref (q 3), .ref (q 9)]) (n := 2) (Nat.le_of_ble_eq_true rfl)
  rw [lg_entry_eq]
  generalize (lg_sl ([.ref (q 3), .ref (q 9)]) ++ List.replicate (2 - (lg_sl ([.ref (q 3), .ref (q 9)])).length) Slot.unset).toArray = ls at hl ⊢
  have hl : lv_has ls 2 [(0, .ref (q 3)), (1, .ref (q 9))] := hl
  generalize hF : F2_copyFromN_2 u = tgt
  refine lv_aload_n hx hb dX2_copyFrom_0 rfl (lv_at hl 1 rfl) ?_
  refine lv_ifnull hx hb dX2_copyFrom_1 ?_
  refine lv_aload_n hx hb dX2_copyFrom_4 rfl (lv_at hl 1 rfl) ?_
  refine va_get (D := D) (ci := 2) (C := RX2) (T := TX2) (N := 1) hx hb hts iX2 hown hk.1 hP 9 (wC_9 _ _ _ _) rfl 0 (by decide) (hts (.fieldLink RX2 11 "BottleLoop$State" "cells" "[I") (List.mem_of_getElem? (i := 1) rfl)) (fun _ h9 => h9) rfl dX2_copyFrom_5 ?_
  refine va_alen (v := 345) hx hb hk.1 hP 15 0 (wC_15 _ _ _ _) rfl rfl dX2_copyFrom_8 ?_
  refine lv_aload_n hx hb dX2_copyFrom_9 rfl (lv_at hl 0 rfl) ?_
  refine va_get (D := D) (ci := 2) (C := RX2) (T := TX2) (N := 1) hx hb hts iX2 hown hk.1 hP 3 (wC_3 _ _ _ _) rfl 0 (by decide) (hts (.fieldLink RX2 11 "BottleLoop$State" "cells" "[I") (List.mem_of_getElem? (i := 1) rfl)) (fun _ h9 => h9) rfl dX2_copyFrom_10 ?_
  refine va_alen (v := 345) hx hb hk.1 hP 4 0 (wC_4 _ _ _ _) rfl rfl dX2_copyFrom_13 ?_
  refine lv_icmp_ne (tgt := 35) hx hb dX2_copyFrom_14 (by decide) (fun h9 => absurd (by decide) h9) (fun _ => ?_)
  refine lv_aload_n hx hb dX2_copyFrom_17 rfl (lv_at hl 1 rfl) ?_
  refine va_get (D := D) (ci := 2) (C := RX2) (T := TX2) (N := 1) hx hb hts iX2 hown hk.1 hP 9 (wC_9 _ _ _ _) rfl 0 (by decide) (hts (.fieldLink RX2 11 "BottleLoop$State" "cells" "[I") (List.mem_of_getElem? (i := 1) rfl)) (fun _ h9 => h9) rfl dX2_copyFrom_18 ?_
  refine lv_iconst (v := 0) hx hb dX2_copyFrom_21 (by decide) ?_
  refine lv_aload_n hx hb dX2_copyFrom_22 rfl (lv_at hl 0 rfl) ?_
  refine va_get (D := D) (ci := 2) (C := RX2) (T := TX2) (N := 1) hx hb hts iX2 hown hk.1 hP 3 (wC_3 _ _ _ _) rfl 0 (by decide) (hts (.fieldLink RX2 11 "BottleLoop$State" "cells" "[I") (List.mem_of_getElem? (i := 1) rfl)) (fun _ h9 => h9) rfl dX2_copyFrom_23 ?_
  refine lv_iconst (v := 0) hx hb dX2_copyFrom_26 (by decide) ?_
  refine lv_aload_n hx hb dX2_copyFrom_27 rfl (lv_at hl 0 rfl) ?_
  refine va_get (D := D) (ci := 2) (C := RX2) (T := TX2) (N := 1) hx hb hts iX2 hown hk.1 hP 3 (wC_3 _ _ _ _) rfl 0 (by decide) (hts (.fieldLink RX2 11 "BottleLoop$State" "cells" "[I") (List.mem_of_getElem? (i := 1) rfl)) (fun _ h9 => h9) rfl dX2_copyFrom_28 ?_
  refine va_alen (v := 345) hx hb hk.1 hP 4 0 (wC_4 _ _ _ _) rfl rfl dX2_copyFrom_31 ?_
  refine va_copyi hx hb (hml.trans hl.1.symm) hown (hts (.methodLink RX2 26 arraycopyName) (List.mem_of_getElem? (i := 2) rfl)) (hts (.native arraycopyName) (List.mem_of_getElem? (i := 3) rfl)) (hts (.static arraycopyName) (List.mem_of_getElem? (i := 4) rfl)) (hts (.initialized "java/lang/System") (List.mem_of_getElem? (i := 5) rfl)) hk.1 hP (wC_D hq) hS 15 4 0 0 (wC_15 _ _ _ _) (wC_4 _ _ _ _) rfl rfl rfl (by decide) (by decide) (by decide) (by decide) (by decide) (fun _ _ => rfl) (Nat.le_of_ble_eq_true rfl) (Nat.le_of_ble_eq_true rfl) dX2_copyFrom_32 (fun H locs hP _ hS => ?_)
  have hP : va_P D vwCl (wC cI cO q (bs u 0 (va_cpy (u 5) (u 0) 0 0 345))) H := hP
  exact bret_Wv hx hb hr hP trivial hS hlocks dX2_copyFrom_35 (by rw [← hF, F2_copyFromN_2])
set_option maxHeartbeats 4000000 in
set_option maxRecDepth 100000 in
theorem C1_latestState_3 (l : Launch) (D : va_G) (cI cO : ClassId) (q : Nat → Nat) (u : bU) (H0 : Heap) (hP : va_P D vwCl (wC cI cO q u) H0) (hlat : u 11 0 = 3) : Met l yX1_latestState wsX1_latestState ({ frames := 0, cells := 0, slots := 0, locals := 0 }) (bP D [(cI, .int), (cO, .object RX2)] H0 [.ref (q 5)]) (bRr H0 (q 10)) 0 0 (fun _ => False) := by
  refine Met.ofW (cc := cX1_latestState) (maxL := 1) (ret := (some (.object "BottleLoop$State"))) (by decide) rfl ?_
  intro p e s m args below meth c s₁ B hml hv
  obtain ⟨rfl, hH, hk⟩ := hv
  subst hH
  have hx := B.exec
  have hb := B.bytes
  have hr := B.returns
  have hts := atoms_spec (ws := wsX1_latestState) B.pre
  have hown : s.vm.findClass RX1 = some m.cls := findClass_of_methodNamed B.named
  have hlocks := B.notSynchronized
  have iX1 : ∀ w ∈ wsX10, w ∈ wsX1_latestState := by decide +kernel
  have hS : va_S (fun _ => False) s.heap s.heap [] := va_S.rf
  have hl := lv_entry ([.ref (q 5)]) (n := 1) (Nat.le_of_ble_eq_true rfl)
  rw [lg_entry_eq]
  generalize (lg_sl ([.ref (q 5)]) ++ List.replicate (1 - (lg_sl ([.ref (q 5)])).length) Slot.unset).toArray = ls at hl ⊢
  have hl : lv_has ls 1 [(0, .ref (q 5))] := hl
  refine lv_aload_n hx hb dX1_latestState_0 rfl (lv_at hl 0 rfl) ?_
  refine va_get (D := D) (ci := 1) (C := RX1) (T := TX1) (N := 3) hx hb hts iX1 hown hk.1 hP 5 (wC_5 _ _ _ _) rfl 1 (by decide) (hts (.fieldLink RX1 20 "BottleLoop$Past" "latest" "I") (List.mem_of_getElem? (i := 1) rfl)) (fun _ h9 => h9) rfl dX1_latestState_1 ?_
  refine lv_topi (fun z9 hz9 => ?_)
  obtain rfl : z9 = 3 := hz9.trans hlat
  refine lv_if_lt (tgt := 31) hx hb dX1_latestState_4 (by decide) (fun h9 => absurd h9 (by decide)) (fun _ => ?_)
  refine lv_aload_n hx hb dX1_latestState_7 rfl (lv_at hl 0 rfl) ?_
  refine va_get (D := D) (ci := 1) (C := RX1) (T := TX1) (N := 3) hx hb hts iX1 hown hk.1 hP 5 (wC_5 _ _ _ _) rfl 1 (by decide) (hts (.fieldLink RX1 20 "BottleLoop$Past" "latest" "I") (List.mem_of_getElem? (i := 1) rfl)) (fun _ h9 => h9) rfl dX1_latestState_8 ?_
  refine lv_topi (fun z9 hz9 => ?_)
  obtain rfl : z9 = 3 := hz9.trans hlat
  refine lv_aload_n hx hb dX1_latestState_11 rfl (lv_at hl 0 rfl) ?_
  refine va_get (D := D) (ci := 1) (C := RX1) (T := TX1) (N := 3) hx hb hts iX1 hown hk.1 hP 5 (wC_5 _ _ _ _) rfl 0 (by decide) (hts (.fieldLink RX1 11 "BottleLoop$Past" "states" "[LBottleLoop$State;") (List.mem_of_getElem? (i := 2) rfl)) (fun _ h9 => h9) rfl dX1_latestState_12 ?_
  refine va_alen (v := 6) hx hb hk.1 hP 6 1 (wC_6 _ _ _ _) rfl rfl dX1_latestState_15 ?_
  refine lv_icmp_ge (tgt := 31) hx hb dX1_latestState_16 (by decide) (fun h9 => absurd h9 (by decide)) (fun _ => ?_)
  refine lv_aload_n hx hb dX1_latestState_19 rfl (lv_at hl 0 rfl) ?_
  refine va_get (D := D) (ci := 1) (C := RX1) (T := TX1) (N := 3) hx hb hts iX1 hown hk.1 hP 5 (wC_5 _ _ _ _) rfl 0 (by decide) (hts (.fieldLink RX1 11 "BottleLoop$Past" "states" "[LBottleLoop$State;") (List.mem_of_getElem? (i := 2) rfl)) (fun _ h9 => h9) rfl dX1_latestState_20 ?_
  refine lv_aload_n hx hb dX1_latestState_23 rfl (lv_at hl 0 rfl) ?_
  refine va_get (D := D) (ci := 1) (C := RX1) (T := TX1) (N := 3) hx hb hts iX1 hown hk.1 hP 5 (wC_5 _ _ _ _) rfl 1 (by decide) (hts (.fieldLink RX1 20 "BottleLoop$Past" "latest" "I") (List.mem_of_getElem? (i := 1) rfl)) (fun _ h9 => h9) rfl dX1_latestState_24 ?_
  refine lv_topi (fun z9 hz9 => ?_)
  obtain rfl : z9 = 3 := hz9.trans hlat
  refine va_aldq hx hb hk.1 hP 6 1 (wC_6 _ _ _ _) rfl (vp_in_nI (n := 3) (by decide) (by decide)) dX1_latestState_27 ?_
  refine W.eq (g2 := F0 m 28 ls [.ref (q 10)]) rfl ?_
  refine lv_goto (tgt := 32) hx hb dX1_latestState_28 (by decide) ?_
  exact bret_Rr hx hb hr (Or.inl ⟨_, rfl⟩) hS hlocks dX1_latestState_32 rfl
def F2_copyFromS_3 (u : bU) : bU := (bs u 6 (va_cpy (u 0) (u 6) 0 0 345))
set_option maxHeartbeats 4000000 in
set_option maxRecDepth 100000 in
theorem C2_copyFromS_3 (l : Launch) (D : va_G) (cI cO : ClassId) (q : Nat → Nat) (u : bU) (H0 : Heap) (hq : bInj 23 q) (hP : va_P D vwCl (wC cI cO q u) H0) : Met l yX2_copyFrom wsX2_copyFrom ({ frames := 1, cells := 0, slots := 0, locals := 200 }) (bP D [(cI, .int), (cO, .object RX2)] H0 [.ref (q 10), .ref (q 3)]) (bWv D (wC cI cO q) bT (bA 23 q H0.size) (F2_copyFromS_3 u)) 0 0 (bA 23 q H0.size) := by
  refine Met.ofW (cc := cX2_copyFrom) (maxL := 2) (ret := none) (by decide) rfl ?_
  intro p e s m args below meth c s₁ B hml hv
  obtain ⟨rfl, hH, hk⟩ := hv
  subst hH
  have hx := B.exec
  have hb := B.bytes
  have hr := B.returns
  have hts := atoms_spec (ws := wsX2_copyFrom) B.pre
  have hown : s.vm.findClass RX2 = some m.cls := findClass_of_methodNamed B.named
  have hlocks := B.notSynchronized
  have iX2 : ∀ w ∈ wsX20, w ∈ wsX2_copyFrom := by decide +kernel
  have hS : va_S (bA 23 q s.heap.size) s.heap s.heap [] := va_S.rf
  have hl := lv_entry ([.ref (q 10), .ref (q 3)]) (n := 2) (Nat.le_of_ble_eq_true rfl)
  rw [lg_entry_eq]
  generalize (lg_sl ([.ref (q 10), .ref (q 3)]) ++ List.replicate (2 - (lg_sl ([.ref (q 10), .ref (q 3)])).length) Slot.unset).toArray = ls at hl ⊢
  have hl : lv_has ls 2 [(0, .ref (q 10)), (1, .ref (q 3))] := hl
  generalize hF : F2_copyFromS_3 u = tgt
  refine lv_aload_n hx hb dX2_copyFrom_0 rfl (lv_at hl 1 rfl) ?_
  refine lv_ifnull hx hb dX2_copyFrom_1 ?_
  refine lv_aload_n hx hb dX2_copyFrom_4 rfl (lv_at hl 1 rfl) ?_
  refine va_get (D := D) (ci := 2) (C := RX2) (T := TX2) (N := 1) hx hb hts iX2 hown hk.1 hP 3 (wC_3 _ _ _ _) rfl 0 (by decide) (hts (.fieldLink RX2 11 "BottleLoop$State" "cells" "[I") (List.mem_of_getElem? (i := 1) rfl)) (fun _ h9 => h9) rfl dX2_copyFrom_5 ?_
  refine va_alen (v := 345) hx hb hk.1 hP 4 0 (wC_4 _ _ _ _) rfl rfl dX2_copyFrom_8 ?_
  refine lv_aload_n hx hb dX2_copyFrom_9 rfl (lv_at hl 0 rfl) ?_
  refine va_get (D := D) (ci := 2) (C := RX2) (T := TX2) (N := 1) hx hb hts iX2 hown hk.1 hP 10 (wC_10 _ _ _ _) rfl 0 (by decide) (hts (.fieldLink RX2 11 "BottleLoop$State" "cells" "[I") (List.mem_of_getElem? (i := 1) rfl)) (fun _ h9 => h9) rfl dX2_copyFrom_10 ?_
  refine va_alen (v := 345) hx hb hk.1 hP 16 0 (wC_16 _ _ _ _) rfl rfl dX2_copyFrom_13 ?_
  refine lv_icmp_ne (tgt := 35) hx hb dX2_copyFrom_14 (by decide) (fun h9 => absurd (by decide) h9) (fun _ => ?_)
  refine lv_aload_n hx hb dX2_copyFrom_17 rfl (lv_at hl 1 rfl) ?_
  refine va_get (D := D) (ci := 2) (C := RX2) (T := TX2) (N := 1) hx hb hts iX2 hown hk.1 hP 3 (wC_3 _ _ _ _) rfl 0 (by decide) (hts (.fieldLink RX2 11 "BottleLoop$State" "cells" "[I") (List.mem_of_getElem? (i := 1) rfl)) (fun _ h9 => h9) rfl dX2_copyFrom_18 ?_
  refine lv_iconst (v := 0) hx hb dX2_copyFrom_21 (by decide) ?_
  refine lv_aload_n hx hb dX2_copyFrom_22 rfl (lv_at hl 0 rfl) ?_
  refine va_get (D := D) (ci := 2) (C := RX2) (T := TX2) (N := 1) hx hb hts iX2 hown hk.1 hP 10 (wC_10 _ _ _ _) rfl 0 (by decide) (hts (.fieldLink RX2 11 "BottleLoop$State" "cells" "[I") (List.mem_of_getElem? (i := 1) rfl)) (fun _ h9 => h9) rfl dX2_copyFrom_23 ?_
  refine lv_iconst (v := 0) hx hb dX2_copyFrom_26 (by decide) ?_
  refine lv_aload_n hx hb dX2_copyFrom_27 rfl (lv_at hl 0 rfl) ?_
  refine va_get (D := D) (ci := 2) (C := RX2) (T := TX2) (N := 1) hx hb hts iX2 hown hk.1 hP 10 (wC_10 _ _ _ _) rfl 0 (by decide) (hts (.fieldLink RX2 11 "BottleLoop$State" "cells" "[I") (List.mem_of_getElem? (i := 1) rfl)) (fun _ h9 => h9) rfl dX2_copyFrom_28 ?_
  refine va_alen (v := 345) hx hb hk.1 hP 16 0 (wC_16 _ _ _ _) rfl rfl dX2_copyFrom_31 ?_
  refine va_copyi hx hb (hml.trans hl.1.symm) hown (hts (.methodLink RX2 26 arraycopyName) (List.mem_of_getElem? (i := 2) rfl)) (hts (.native arraycopyName) (List.mem_of_getElem? (i := 3) rfl)) (hts (.static arraycopyName) (List.mem_of_getElem? (i := 4) rfl)) (hts (.initialized "java/lang/System") (List.mem_of_getElem? (i := 5) rfl)) hk.1 hP (wC_D hq) hS 4 16 0 0 (wC_4 _ _ _ _) (wC_16 _ _ _ _) rfl rfl rfl (by decide) (by decide) (by decide) (by decide) (by decide) (fun _ _ => rfl) (Nat.le_of_ble_eq_true rfl) (Nat.le_of_ble_eq_true rfl) dX2_copyFrom_32 (fun H locs hP _ hS => ?_)
  have hP : va_P D vwCl (wC cI cO q (bs u 6 (va_cpy (u 0) (u 6) 0 0 345))) H := hP
  exact bret_Wv hx hb hr hP trivial hS hlocks dX2_copyFrom_35 (by rw [← hF, F2_copyFromS_3])
def F2_copyFromN_3 (u : bU) : bU := (bs u 0 (va_cpy (u 6) (u 0) 0 0 345))
set_option maxHeartbeats 4000000 in
set_option maxRecDepth 100000 in
theorem C2_copyFromN_3 (l : Launch) (D : va_G) (cI cO : ClassId) (q : Nat → Nat) (u : bU) (H0 : Heap) (hq : bInj 23 q) (hP : va_P D vwCl (wC cI cO q u) H0) : Met l yX2_copyFrom wsX2_copyFrom ({ frames := 1, cells := 0, slots := 0, locals := 200 }) (bP D [(cI, .int), (cO, .object RX2)] H0 [.ref (q 3), .ref (q 10)]) (bWv D (wC cI cO q) bT (bA 23 q H0.size) (F2_copyFromN_3 u)) 0 0 (bA 23 q H0.size) := by
  refine Met.ofW (cc := cX2_copyFrom) (maxL := 2) (ret := none) (by decide) rfl ?_
  intro p e s m args below meth c s₁ B hml hv
  obtain ⟨rfl, hH, hk⟩ := hv
  subst hH
  have hx := B.exec
  have hb := B.bytes
  have hr := B.returns
  have hts := atoms_spec (ws := wsX2_copyFrom) B.pre
  have hown : s.vm.findClass RX2 = some m.cls := findClass_of_methodNamed B.named
  have hlocks := B.notSynchronized
  have iX2 : ∀ w ∈ wsX20, w ∈ wsX2_copyFrom := by decide +kernel
  have hS : va_S (bA 23 q s.heap.size) s.heap s.heap [] := va_S.rf
  have hl := lv_entry ([.ref (q 3), .ref (q 10)]) (n := 2) (Nat.le_of_ble_eq_true rfl)
  rw [lg_entry_eq]
  generalize (lg_sl ([.ref (q 3), .ref (q 10)]) ++ List.replicate (2 - (lg_sl ([.ref (q 3), .ref (q 10)])).length) Slot.unset).toArray = ls at hl ⊢
  have hl : lv_has ls 2 [(0, .ref (q 3)), (1, .ref (q 10))] := hl
  generalize hF : F2_copyFromN_3 u = tgt
  refine lv_aload_n hx hb dX2_copyFrom_0 rfl (lv_at hl 1 rfl) ?_
  refine lv_ifnull hx hb dX2_copyFrom_1 ?_
  refine lv_aload_n hx hb dX2_copyFrom_4 rfl (lv_at hl 1 rfl) ?_
  refine va_get (D := D) (ci := 2) (C := RX2) (T := TX2) (N := 1) hx hb hts iX2 hown hk.1 hP 10 (wC_10 _ _ _ _) rfl 0 (by decide) (hts (.fieldLink RX2 11 "BottleLoop$State" "cells" "[I") (List.mem_of_getElem? (i := 1) rfl)) (fun _ h9 => h9) rfl dX2_copyFrom_5 ?_
  refine va_alen (v := 345) hx hb hk.1 hP 16 0 (wC_16 _ _ _ _) rfl rfl dX2_copyFrom_8 ?_
  refine lv_aload_n hx hb dX2_copyFrom_9 rfl (lv_at hl 0 rfl) ?_
  refine va_get (D := D) (ci := 2) (C := RX2) (T := TX2) (N := 1) hx hb hts iX2 hown hk.1 hP 3 (wC_3 _ _ _ _) rfl 0 (by decide) (hts (.fieldLink RX2 11 "BottleLoop$State" "cells" "[I") (List.mem_of_getElem? (i := 1) rfl)) (fun _ h9 => h9) rfl dX2_copyFrom_10 ?_
  refine va_alen (v := 345) hx hb hk.1 hP 4 0 (wC_4 _ _ _ _) rfl rfl dX2_copyFrom_13 ?_
  refine lv_icmp_ne (tgt := 35) hx hb dX2_copyFrom_14 (by decide) (fun h9 => absurd (by decide) h9) (fun _ => ?_)
  refine lv_aload_n hx hb dX2_copyFrom_17 rfl (lv_at hl 1 rfl) ?_
  refine va_get (D := D) (ci := 2) (C := RX2) (T := TX2) (N := 1) hx hb hts iX2 hown hk.1 hP 10 (wC_10 _ _ _ _) rfl 0 (by decide) (hts (.fieldLink RX2 11 "BottleLoop$State" "cells" "[I") (List.mem_of_getElem? (i := 1) rfl)) (fun _ h9 => h9) rfl dX2_copyFrom_18 ?_
  refine lv_iconst (v := 0) hx hb dX2_copyFrom_21 (by decide) ?_
  refine lv_aload_n hx hb dX2_copyFrom_22 rfl (lv_at hl 0 rfl) ?_
  refine va_get (D := D) (ci := 2) (C := RX2) (T := TX2) (N := 1) hx hb hts iX2 hown hk.1 hP 3 (wC_3 _ _ _ _) rfl 0 (by decide) (hts (.fieldLink RX2 11 "BottleLoop$State" "cells" "[I") (List.mem_of_getElem? (i := 1) rfl)) (fun _ h9 => h9) rfl dX2_copyFrom_23 ?_
  refine lv_iconst (v := 0) hx hb dX2_copyFrom_26 (by decide) ?_
  refine lv_aload_n hx hb dX2_copyFrom_27 rfl (lv_at hl 0 rfl) ?_
  refine va_get (D := D) (ci := 2) (C := RX2) (T := TX2) (N := 1) hx hb hts iX2 hown hk.1 hP 3 (wC_3 _ _ _ _) rfl 0 (by decide) (hts (.fieldLink RX2 11 "BottleLoop$State" "cells" "[I") (List.mem_of_getElem? (i := 1) rfl)) (fun _ h9 => h9) rfl dX2_copyFrom_28 ?_
  refine va_alen (v := 345) hx hb hk.1 hP 4 0 (wC_4 _ _ _ _) rfl rfl dX2_copyFrom_31 ?_
  refine va_copyi hx hb (hml.trans hl.1.symm) hown (hts (.methodLink RX2 26 arraycopyName) (List.mem_of_getElem? (i := 2) rfl)) (hts (.native arraycopyName) (List.mem_of_getElem? (i := 3) rfl)) (hts (.static arraycopyName) (List.mem_of_getElem? (i := 4) rfl)) (hts (.initialized "java/lang/System") (List.mem_of_getElem? (i := 5) rfl)) hk.1 hP (wC_D hq) hS 16 4 0 0 (wC_16 _ _ _ _) (wC_4 _ _ _ _) rfl rfl rfl (by decide) (by decide) (by decide) (by decide) (by decide) (fun _ _ => rfl) (Nat.le_of_ble_eq_true rfl) (Nat.le_of_ble_eq_true rfl) dX2_copyFrom_32 (fun H locs hP _ hS => ?_)
  have hP : va_P D vwCl (wC cI cO q (bs u 0 (va_cpy (u 6) (u 0) 0 0 345))) H := hP
  exact bret_Wv hx hb hr hP trivial hS hlocks dX2_copyFrom_35 (by rw [← hF, F2_copyFromN_3])
set_option maxHeartbeats 4000000 in
set_option maxRecDepth 100000 in
theorem C1_latestState_4 (l : Launch) (D : va_G) (cI cO : ClassId) (q : Nat → Nat) (u : bU) (H0 : Heap) (hP : va_P D vwCl (wC cI cO q u) H0) (hlat : u 11 0 = 4) : Met l yX1_latestState wsX1_latestState ({ frames := 0, cells := 0, slots := 0, locals := 0 }) (bP D [(cI, .int), (cO, .object RX2)] H0 [.ref (q 5)]) (bRr H0 (q 11)) 0 0 (fun _ => False) := by
  refine Met.ofW (cc := cX1_latestState) (maxL := 1) (ret := (some (.object "BottleLoop$State"))) (by decide) rfl ?_
  intro p e s m args below meth c s₁ B hml hv
  obtain ⟨rfl, hH, hk⟩ := hv
  subst hH
  have hx := B.exec
  have hb := B.bytes
  have hr := B.returns
  have hts := atoms_spec (ws := wsX1_latestState) B.pre
  have hown : s.vm.findClass RX1 = some m.cls := findClass_of_methodNamed B.named
  have hlocks := B.notSynchronized
  have iX1 : ∀ w ∈ wsX10, w ∈ wsX1_latestState := by decide +kernel
  have hS : va_S (fun _ => False) s.heap s.heap [] := va_S.rf
  have hl := lv_entry ([.ref (q 5)]) (n := 1) (Nat.le_of_ble_eq_true rfl)
  rw [lg_entry_eq]
  generalize (lg_sl ([.ref (q 5)]) ++ List.replicate (1 - (lg_sl ([.ref (q 5)])).length) Slot.unset).toArray = ls at hl ⊢
  have hl : lv_has ls 1 [(0, .ref (q 5))] := hl
  refine lv_aload_n hx hb dX1_latestState_0 rfl (lv_at hl 0 rfl) ?_
  refine va_get (D := D) (ci := 1) (C := RX1) (T := TX1) (N := 3) hx hb hts iX1 hown hk.1 hP 5 (wC_5 _ _ _ _) rfl 1 (by decide) (hts (.fieldLink RX1 20 "BottleLoop$Past" "latest" "I") (List.mem_of_getElem? (i := 1) rfl)) (fun _ h9 => h9) rfl dX1_latestState_1 ?_
  refine lv_topi (fun z9 hz9 => ?_)
  obtain rfl : z9 = 4 := hz9.trans hlat
  refine lv_if_lt (tgt := 31) hx hb dX1_latestState_4 (by decide) (fun h9 => absurd h9 (by decide)) (fun _ => ?_)
  refine lv_aload_n hx hb dX1_latestState_7 rfl (lv_at hl 0 rfl) ?_
  refine va_get (D := D) (ci := 1) (C := RX1) (T := TX1) (N := 3) hx hb hts iX1 hown hk.1 hP 5 (wC_5 _ _ _ _) rfl 1 (by decide) (hts (.fieldLink RX1 20 "BottleLoop$Past" "latest" "I") (List.mem_of_getElem? (i := 1) rfl)) (fun _ h9 => h9) rfl dX1_latestState_8 ?_
  refine lv_topi (fun z9 hz9 => ?_)
  obtain rfl : z9 = 4 := hz9.trans hlat
  refine lv_aload_n hx hb dX1_latestState_11 rfl (lv_at hl 0 rfl) ?_
  refine va_get (D := D) (ci := 1) (C := RX1) (T := TX1) (N := 3) hx hb hts iX1 hown hk.1 hP 5 (wC_5 _ _ _ _) rfl 0 (by decide) (hts (.fieldLink RX1 11 "BottleLoop$Past" "states" "[LBottleLoop$State;") (List.mem_of_getElem? (i := 2) rfl)) (fun _ h9 => h9) rfl dX1_latestState_12 ?_
  refine va_alen (v := 6) hx hb hk.1 hP 6 1 (wC_6 _ _ _ _) rfl rfl dX1_latestState_15 ?_
  refine lv_icmp_ge (tgt := 31) hx hb dX1_latestState_16 (by decide) (fun h9 => absurd h9 (by decide)) (fun _ => ?_)
  refine lv_aload_n hx hb dX1_latestState_19 rfl (lv_at hl 0 rfl) ?_
  refine va_get (D := D) (ci := 1) (C := RX1) (T := TX1) (N := 3) hx hb hts iX1 hown hk.1 hP 5 (wC_5 _ _ _ _) rfl 0 (by decide) (hts (.fieldLink RX1 11 "BottleLoop$Past" "states" "[LBottleLoop$State;") (List.mem_of_getElem? (i := 2) rfl)) (fun _ h9 => h9) rfl dX1_latestState_20 ?_
  refine lv_aload_n hx hb dX1_latestState_23 rfl (lv_at hl 0 rfl) ?_
  refine va_get (D := D) (ci := 1) (C := RX1) (T := TX1) (N := 3) hx hb hts iX1 hown hk.1 hP 5 (wC_5 _ _ _ _) rfl 1 (by decide) (hts (.fieldLink RX1 20 "BottleLoop$Past" "latest" "I") (List.mem_of_getElem? (i := 1) rfl)) (fun _ h9 => h9) rfl dX1_latestState_24 ?_
  refine lv_topi (fun z9 hz9 => ?_)
  obtain rfl : z9 = 4 := hz9.trans hlat
  refine va_aldq hx hb hk.1 hP 6 1 (wC_6 _ _ _ _) rfl (vp_in_nI (n := 4) (by decide) (by decide)) dX1_latestState_27 ?_
  refine W.eq (g2 := F0 m 28 ls [.ref (q 11)]) rfl ?_
  refine lv_goto (tgt := 32) hx hb dX1_latestState_28 (by decide) ?_
  exact bret_Rr hx hb hr (Or.inl ⟨_, rfl⟩) hS hlocks dX1_latestState_32 rfl
def F2_copyFromS_4 (u : bU) : bU := (bs u 7 (va_cpy (u 0) (u 7) 0 0 345))
set_option maxHeartbeats 4000000 in
set_option maxRecDepth 100000 in
theorem C2_copyFromS_4 (l : Launch) (D : va_G) (cI cO : ClassId) (q : Nat → Nat) (u : bU) (H0 : Heap) (hq : bInj 23 q) (hP : va_P D vwCl (wC cI cO q u) H0) : Met l yX2_copyFrom wsX2_copyFrom ({ frames := 1, cells := 0, slots := 0, locals := 200 }) (bP D [(cI, .int), (cO, .object RX2)] H0 [.ref (q 11), .ref (q 3)]) (bWv D (wC cI cO q) bT (bA 23 q H0.size) (F2_copyFromS_4 u)) 0 0 (bA 23 q H0.size) := by
  refine Met.ofW (cc := cX2_copyFrom) (maxL := 2) (ret := none) (by decide) rfl ?_
  intro p e s m args below meth c s₁ B hml hv
  obtain ⟨rfl, hH, hk⟩ := hv
  subst hH
  have hx := B.exec
  have hb := B.bytes
  have hr := B.returns
  have hts := atoms_spec (ws := wsX2_copyFrom) B.pre
  have hown : s.vm.findClass RX2 = some m.cls := findClass_of_methodNamed B.named
  have hlocks := B.notSynchronized
  have iX2 : ∀ w ∈ wsX20, w ∈ wsX2_copyFrom := by decide +kernel
  have hS : va_S (bA 23 q s.heap.size) s.heap s.heap [] := va_S.rf
  have hl := lv_entry ([.ref (q 11), .ref (q 3)]) (n := 2) (Nat.le_of_ble_eq_true rfl)
  rw [lg_entry_eq]
  generalize (lg_sl ([.ref (q 11), .ref (q 3)]) ++ List.replicate (2 - (lg_sl ([.ref (q 11), .ref (q 3)])).length) Slot.unset).toArray = ls at hl ⊢
  have hl : lv_has ls 2 [(0, .ref (q 11)), (1, .ref (q 3))] := hl
  generalize hF : F2_copyFromS_4 u = tgt
  refine lv_aload_n hx hb dX2_copyFrom_0 rfl (lv_at hl 1 rfl) ?_
  refine lv_ifnull hx hb dX2_copyFrom_1 ?_
  refine lv_aload_n hx hb dX2_copyFrom_4 rfl (lv_at hl 1 rfl) ?_
  refine va_get (D := D) (ci := 2) (C := RX2) (T := TX2) (N := 1) hx hb hts iX2 hown hk.1 hP 3 (wC_3 _ _ _ _) rfl 0 (by decide) (hts (.fieldLink RX2 11 "BottleLoop$State" "cells" "[I") (List.mem_of_getElem? (i := 1) rfl)) (fun _ h9 => h9) rfl dX2_copyFrom_5 ?_
  refine va_alen (v := 345) hx hb hk.1 hP 4 0 (wC_4 _ _ _ _) rfl rfl dX2_copyFrom_8 ?_
  refine lv_aload_n hx hb dX2_copyFrom_9 rfl (lv_at hl 0 rfl) ?_
  refine va_get (D := D) (ci := 2) (C := RX2) (T := TX2) (N := 1) hx hb hts iX2 hown hk.1 hP 11 (wC_11 _ _ _ _) rfl 0 (by decide) (hts (.fieldLink RX2 11 "BottleLoop$State" "cells" "[I") (List.mem_of_getElem? (i := 1) rfl)) (fun _ h9 => h9) rfl dX2_copyFrom_10 ?_
  refine va_alen (v := 345) hx hb hk.1 hP 17 0 (wC_17 _ _ _ _) rfl rfl dX2_copyFrom_13 ?_
  refine lv_icmp_ne (tgt := 35) hx hb dX2_copyFrom_14 (by decide) (fun h9 => absurd (by decide) h9) (fun _ => ?_)
  refine lv_aload_n hx hb dX2_copyFrom_17 rfl (lv_at hl 1 rfl) ?_
  refine va_get (D := D) (ci := 2) (C := RX2) (T := TX2) (N := 1) hx hb hts iX2 hown hk.1 hP 3 (wC_3 _ _ _ _) rfl 0 (by decide) (hts (.fieldLink RX2 11 "BottleLoop$State" "cells" "[I") (List.mem_of_getElem? (i := 1) rfl)) (fun _ h9 => h9) rfl dX2_copyFrom_18 ?_
  refine lv_iconst (v := 0) hx hb dX2_copyFrom_21 (by decide) ?_
  refine lv_aload_n hx hb dX2_copyFrom_22 rfl (lv_at hl 0 rfl) ?_
  refine va_get (D := D) (ci := 2) (C := RX2) (T := TX2) (N := 1) hx hb hts iX2 hown hk.1 hP 11 (wC_11 _ _ _ _) rfl 0 (by decide) (hts (.fieldLink RX2 11 "BottleLoop$State" "cells" "[I") (List.mem_of_getElem? (i := 1) rfl)) (fun _ h9 => h9) rfl dX2_copyFrom_23 ?_
  refine lv_iconst (v := 0) hx hb dX2_copyFrom_26 (by decide) ?_
  refine lv_aload_n hx hb dX2_copyFrom_27 rfl (lv_at hl 0 rfl) ?_
  refine va_get (D := D) (ci := 2) (C := RX2) (T := TX2) (N := 1) hx hb hts iX2 hown hk.1 hP 11 (wC_11 _ _ _ _) rfl 0 (by decide) (hts (.fieldLink RX2 11 "BottleLoop$State" "cells" "[I") (List.mem_of_getElem? (i := 1) rfl)) (fun _ h9 => h9) rfl dX2_copyFrom_28 ?_
  refine va_alen (v := 345) hx hb hk.1 hP 17 0 (wC_17 _ _ _ _) rfl rfl dX2_copyFrom_31 ?_
  refine va_copyi hx hb (hml.trans hl.1.symm) hown (hts (.methodLink RX2 26 arraycopyName) (List.mem_of_getElem? (i := 2) rfl)) (hts (.native arraycopyName) (List.mem_of_getElem? (i := 3) rfl)) (hts (.static arraycopyName) (List.mem_of_getElem? (i := 4) rfl)) (hts (.initialized "java/lang/System") (List.mem_of_getElem? (i := 5) rfl)) hk.1 hP (wC_D hq) hS 4 17 0 0 (wC_4 _ _ _ _) (wC_17 _ _ _ _) rfl rfl rfl (by decide) (by decide) (by decide) (by decide) (by decide) (fun _ _ => rfl) (Nat.le_of_ble_eq_true rfl) (Nat.le_of_ble_eq_true rfl) dX2_copyFrom_32 (fun H locs hP _ hS => ?_)
  have hP : va_P D vwCl (wC cI cO q (bs u 7 (va_cpy (u 0) (u 7) 0 0 345))) H := hP
  exact bret_Wv hx hb hr hP trivial hS hlocks dX2_copyFrom_35 (by rw [← hF, F2_copyFromS_4])
def F2_copyFromN_4 (u : bU) : bU := (bs u 0 (va_cpy (u 7) (u 0) 0 0 345))
set_option maxHeartbeats 4000000 in
set_option maxRecDepth 100000 in
theorem C2_copyFromN_4 (l : Launch) (D : va_G) (cI cO : ClassId) (q : Nat → Nat) (u : bU) (H0 : Heap) (hq : bInj 23 q) (hP : va_P D vwCl (wC cI cO q u) H0) : Met l yX2_copyFrom wsX2_copyFrom ({ frames := 1, cells := 0, slots := 0, locals := 200 }) (bP D [(cI, .int), (cO, .object RX2)] H0 [.ref (q 3), .ref (q 11)]) (bWv D (wC cI cO q) bT (bA 23 q H0.size) (F2_copyFromN_4 u)) 0 0 (bA 23 q H0.size) := by
  refine Met.ofW (cc := cX2_copyFrom) (maxL := 2) (ret := none) (by decide) rfl ?_
  intro p e s m args below meth c s₁ B hml hv
  obtain ⟨rfl, hH, hk⟩ := hv
  subst hH
  have hx := B.exec
  have hb := B.bytes
  have hr := B.returns
  have hts := atoms_spec (ws := wsX2_copyFrom) B.pre
  have hown : s.vm.findClass RX2 = some m.cls := findClass_of_methodNamed B.named
  have hlocks := B.notSynchronized
  have iX2 : ∀ w ∈ wsX20, w ∈ wsX2_copyFrom := by decide +kernel
  have hS : va_S (bA 23 q s.heap.size) s.heap s.heap [] := va_S.rf
  have hl := lv_entry ([.ref (q 3), .ref (q 11)]) (n := 2) (Nat.le_of_ble_eq_true rfl)
  rw [lg_entry_eq]
  generalize (lg_sl ([.ref (q 3), .ref (q 11)]) ++ List.replicate (2 - (lg_sl ([.ref (q 3), .ref (q 11)])).length) Slot.unset).toArray = ls at hl ⊢
  have hl : lv_has ls 2 [(0, .ref (q 3)), (1, .ref (q 11))] := hl
  generalize hF : F2_copyFromN_4 u = tgt
  refine lv_aload_n hx hb dX2_copyFrom_0 rfl (lv_at hl 1 rfl) ?_
  refine lv_ifnull hx hb dX2_copyFrom_1 ?_
  refine lv_aload_n hx hb dX2_copyFrom_4 rfl (lv_at hl 1 rfl) ?_
  refine va_get (D := D) (ci := 2) (C := RX2) (T := TX2) (N := 1) hx hb hts iX2 hown hk.1 hP 11 (wC_11 _ _ _ _) rfl 0 (by decide) (hts (.fieldLink RX2 11 "BottleLoop$State" "cells" "[I") (List.mem_of_getElem? (i := 1) rfl)) (fun _ h9 => h9) rfl dX2_copyFrom_5 ?_
  refine va_alen (v := 345) hx hb hk.1 hP 17 0 (wC_17 _ _ _ _) rfl rfl dX2_copyFrom_8 ?_
  refine lv_aload_n hx hb dX2_copyFrom_9 rfl (lv_at hl 0 rfl) ?_
  refine va_get (D := D) (ci := 2) (C := RX2) (T := TX2) (N := 1) hx hb hts iX2 hown hk.1 hP 3 (wC_3 _ _ _ _) rfl 0 (by decide) (hts (.fieldLink RX2 11 "BottleLoop$State" "cells" "[I") (List.mem_of_getElem? (i := 1) rfl)) (fun _ h9 => h9) rfl dX2_copyFrom_10 ?_
  refine va_alen (v := 345) hx hb hk.1 hP 4 0 (wC_4 _ _ _ _) rfl rfl dX2_copyFrom_13 ?_
  refine lv_icmp_ne (tgt := 35) hx hb dX2_copyFrom_14 (by decide) (fun h9 => absurd (by decide) h9) (fun _ => ?_)
  refine lv_aload_n hx hb dX2_copyFrom_17 rfl (lv_at hl 1 rfl) ?_
  refine va_get (D := D) (ci := 2) (C := RX2) (T := TX2) (N := 1) hx hb hts iX2 hown hk.1 hP 11 (wC_11 _ _ _ _) rfl 0 (by decide) (hts (.fieldLink RX2 11 "BottleLoop$State" "cells" "[I") (List.mem_of_getElem? (i := 1) rfl)) (fun _ h9 => h9) rfl dX2_copyFrom_18 ?_
  refine lv_iconst (v := 0) hx hb dX2_copyFrom_21 (by decide) ?_
  refine lv_aload_n hx hb dX2_copyFrom_22 rfl (lv_at hl 0 rfl) ?_
  refine va_get (D := D) (ci := 2) (C := RX2) (T := TX2) (N := 1) hx hb hts iX2 hown hk.1 hP 3 (wC_3 _ _ _ _) rfl 0 (by decide) (hts (.fieldLink RX2 11 "BottleLoop$State" "cells" "[I") (List.mem_of_getElem? (i := 1) rfl)) (fun _ h9 => h9) rfl dX2_copyFrom_23 ?_
  refine lv_iconst (v := 0) hx hb dX2_copyFrom_26 (by decide) ?_
  refine lv_aload_n hx hb dX2_copyFrom_27 rfl (lv_at hl 0 rfl) ?_
  refine va_get (D := D) (ci := 2) (C := RX2) (T := TX2) (N := 1) hx hb hts iX2 hown hk.1 hP 3 (wC_3 _ _ _ _) rfl 0 (by decide) (hts (.fieldLink RX2 11 "BottleLoop$State" "cells" "[I") (List.mem_of_getElem? (i := 1) rfl)) (fun _ h9 => h9) rfl dX2_copyFrom_28 ?_
  refine va_alen (v := 345) hx hb hk.1 hP 4 0 (wC_4 _ _ _ _) rfl rfl dX2_copyFrom_31 ?_
  refine va_copyi hx hb (hml.trans hl.1.symm) hown (hts (.methodLink RX2 26 arraycopyName) (List.mem_of_getElem? (i := 2) rfl)) (hts (.native arraycopyName) (List.mem_of_getElem? (i := 3) rfl)) (hts (.static arraycopyName) (List.mem_of_getElem? (i := 4) rfl)) (hts (.initialized "java/lang/System") (List.mem_of_getElem? (i := 5) rfl)) hk.1 hP (wC_D hq) hS 17 4 0 0 (wC_17 _ _ _ _) (wC_4 _ _ _ _) rfl rfl rfl (by decide) (by decide) (by decide) (by decide) (by decide) (fun _ _ => rfl) (Nat.le_of_ble_eq_true rfl) (Nat.le_of_ble_eq_true rfl) dX2_copyFrom_32 (fun H locs hP _ hS => ?_)
  have hP : va_P D vwCl (wC cI cO q (bs u 0 (va_cpy (u 7) (u 0) 0 0 345))) H := hP
  exact bret_Wv hx hb hr hP trivial hS hlocks dX2_copyFrom_35 (by rw [← hF, F2_copyFromN_4])
set_option maxHeartbeats 4000000 in
set_option maxRecDepth 100000 in
theorem C1_latestState_5 (l : Launch) (D : va_G) (cI cO : ClassId) (q : Nat → Nat) (u : bU) (H0 : Heap) (hP : va_P D vwCl (wC cI cO q u) H0) (hlat : u 11 0 = 5) : Met l yX1_latestState wsX1_latestState ({ frames := 0, cells := 0, slots := 0, locals := 0 }) (bP D [(cI, .int), (cO, .object RX2)] H0 [.ref (q 5)]) (bRr H0 (q 12)) 0 0 (fun _ => False) := by
  refine Met.ofW (cc := cX1_latestState) (maxL := 1) (ret := (some (.object "BottleLoop$State"))) (by decide) rfl ?_
  intro p e s m args below meth c s₁ B hml hv
  obtain ⟨rfl, hH, hk⟩ := hv
  subst hH
  have hx := B.exec
  have hb := B.bytes
  have hr := B.returns
  have hts := atoms_spec (ws := wsX1_latestState) B.pre
  have hown : s.vm.findClass RX1 = some m.cls := findClass_of_methodNamed B.named
  have hlocks := B.notSynchronized
  have iX1 : ∀ w ∈ wsX10, w ∈ wsX1_latestState := by decide +kernel
  have hS : va_S (fun _ => False) s.heap s.heap [] := va_S.rf
  have hl := lv_entry ([.ref (q 5)]) (n := 1) (Nat.le_of_ble_eq_true rfl)
  rw [lg_entry_eq]
  generalize (lg_sl ([.ref (q 5)]) ++ List.replicate (1 - (lg_sl ([.ref (q 5)])).length) Slot.unset).toArray = ls at hl ⊢
  have hl : lv_has ls 1 [(0, .ref (q 5))] := hl
  refine lv_aload_n hx hb dX1_latestState_0 rfl (lv_at hl 0 rfl) ?_
  refine va_get (D := D) (ci := 1) (C := RX1) (T := TX1) (N := 3) hx hb hts iX1 hown hk.1 hP 5 (wC_5 _ _ _ _) rfl 1 (by decide) (hts (.fieldLink RX1 20 "BottleLoop$Past" "latest" "I") (List.mem_of_getElem? (i := 1) rfl)) (fun _ h9 => h9) rfl dX1_latestState_1 ?_
  refine lv_topi (fun z9 hz9 => ?_)
  obtain rfl : z9 = 5 := hz9.trans hlat
  refine lv_if_lt (tgt := 31) hx hb dX1_latestState_4 (by decide) (fun h9 => absurd h9 (by decide)) (fun _ => ?_)
  refine lv_aload_n hx hb dX1_latestState_7 rfl (lv_at hl 0 rfl) ?_
  refine va_get (D := D) (ci := 1) (C := RX1) (T := TX1) (N := 3) hx hb hts iX1 hown hk.1 hP 5 (wC_5 _ _ _ _) rfl 1 (by decide) (hts (.fieldLink RX1 20 "BottleLoop$Past" "latest" "I") (List.mem_of_getElem? (i := 1) rfl)) (fun _ h9 => h9) rfl dX1_latestState_8 ?_
  refine lv_topi (fun z9 hz9 => ?_)
  obtain rfl : z9 = 5 := hz9.trans hlat
  refine lv_aload_n hx hb dX1_latestState_11 rfl (lv_at hl 0 rfl) ?_
  refine va_get (D := D) (ci := 1) (C := RX1) (T := TX1) (N := 3) hx hb hts iX1 hown hk.1 hP 5 (wC_5 _ _ _ _) rfl 0 (by decide) (hts (.fieldLink RX1 11 "BottleLoop$Past" "states" "[LBottleLoop$State;") (List.mem_of_getElem? (i := 2) rfl)) (fun _ h9 => h9) rfl dX1_latestState_12 ?_
  refine va_alen (v := 6) hx hb hk.1 hP 6 1 (wC_6 _ _ _ _) rfl rfl dX1_latestState_15 ?_
  refine lv_icmp_ge (tgt := 31) hx hb dX1_latestState_16 (by decide) (fun h9 => absurd h9 (by decide)) (fun _ => ?_)
  refine lv_aload_n hx hb dX1_latestState_19 rfl (lv_at hl 0 rfl) ?_
  refine va_get (D := D) (ci := 1) (C := RX1) (T := TX1) (N := 3) hx hb hts iX1 hown hk.1 hP 5 (wC_5 _ _ _ _) rfl 0 (by decide) (hts (.fieldLink RX1 11 "BottleLoop$Past" "states" "[LBottleLoop$State;") (List.mem_of_getElem? (i := 2) rfl)) (fun _ h9 => h9) rfl dX1_latestState_20 ?_
  refine lv_aload_n hx hb dX1_latestState_23 rfl (lv_at hl 0 rfl) ?_
  refine va_get (D := D) (ci := 1) (C := RX1) (T := TX1) (N := 3) hx hb hts iX1 hown hk.1 hP 5 (wC_5 _ _ _ _) rfl 1 (by decide) (hts (.fieldLink RX1 20 "BottleLoop$Past" "latest" "I") (List.mem_of_getElem? (i := 1) rfl)) (fun _ h9 => h9) rfl dX1_latestState_24 ?_
  refine lv_topi (fun z9 hz9 => ?_)
  obtain rfl : z9 = 5 := hz9.trans hlat
  refine va_aldq hx hb hk.1 hP 6 1 (wC_6 _ _ _ _) rfl (vp_in_nI (n := 5) (by decide) (by decide)) dX1_latestState_27 ?_
  refine W.eq (g2 := F0 m 28 ls [.ref (q 12)]) rfl ?_
  refine lv_goto (tgt := 32) hx hb dX1_latestState_28 (by decide) ?_
  exact bret_Rr hx hb hr (Or.inl ⟨_, rfl⟩) hS hlocks dX1_latestState_32 rfl
def F2_copyFromS_5 (u : bU) : bU := (bs u 8 (va_cpy (u 0) (u 8) 0 0 345))
set_option maxHeartbeats 4000000 in
set_option maxRecDepth 100000 in
theorem C2_copyFromS_5 (l : Launch) (D : va_G) (cI cO : ClassId) (q : Nat → Nat) (u : bU) (H0 : Heap) (hq : bInj 23 q) (hP : va_P D vwCl (wC cI cO q u) H0) : Met l yX2_copyFrom wsX2_copyFrom ({ frames := 1, cells := 0, slots := 0, locals := 200 }) (bP D [(cI, .int), (cO, .object RX2)] H0 [.ref (q 12), .ref (q 3)]) (bWv D (wC cI cO q) bT (bA 23 q H0.size) (F2_copyFromS_5 u)) 0 0 (bA 23 q H0.size) := by
  refine Met.ofW (cc := cX2_copyFrom) (maxL := 2) (ret := none) (by decide) rfl ?_
  intro p e s m args below meth c s₁ B hml hv
  obtain ⟨rfl, hH, hk⟩ := hv
  subst hH
  have hx := B.exec
  have hb := B.bytes
  have hr := B.returns
  have hts := atoms_spec (ws := wsX2_copyFrom) B.pre
  have hown : s.vm.findClass RX2 = some m.cls := findClass_of_methodNamed B.named
  have hlocks := B.notSynchronized
  have iX2 : ∀ w ∈ wsX20, w ∈ wsX2_copyFrom := by decide +kernel
  have hS : va_S (bA 23 q s.heap.size) s.heap s.heap [] := va_S.rf
  have hl := lv_entry ([.ref (q 12), .ref (q 3)]) (n := 2) (Nat.le_of_ble_eq_true rfl)
  rw [lg_entry_eq]
  generalize (lg_sl ([.ref (q 12), .ref (q 3)]) ++ List.replicate (2 - (lg_sl ([.ref (q 12), .ref (q 3)])).length) Slot.unset).toArray = ls at hl ⊢
  have hl : lv_has ls 2 [(0, .ref (q 12)), (1, .ref (q 3))] := hl
  generalize hF : F2_copyFromS_5 u = tgt
  refine lv_aload_n hx hb dX2_copyFrom_0 rfl (lv_at hl 1 rfl) ?_
  refine lv_ifnull hx hb dX2_copyFrom_1 ?_
  refine lv_aload_n hx hb dX2_copyFrom_4 rfl (lv_at hl 1 rfl) ?_
  refine va_get (D := D) (ci := 2) (C := RX2) (T := TX2) (N := 1) hx hb hts iX2 hown hk.1 hP 3 (wC_3 _ _ _ _) rfl 0 (by decide) (hts (.fieldLink RX2 11 "BottleLoop$State" "cells" "[I") (List.mem_of_getElem? (i := 1) rfl)) (fun _ h9 => h9) rfl dX2_copyFrom_5 ?_
  refine va_alen (v := 345) hx hb hk.1 hP 4 0 (wC_4 _ _ _ _) rfl rfl dX2_copyFrom_8 ?_
  refine lv_aload_n hx hb dX2_copyFrom_9 rfl (lv_at hl 0 rfl) ?_
  refine va_get (D := D) (ci := 2) (C := RX2) (T := TX2) (N := 1) hx hb hts iX2 hown hk.1 hP 12 (wC_12 _ _ _ _) rfl 0 (by decide) (hts (.fieldLink RX2 11 "BottleLoop$State" "cells" "[I") (List.mem_of_getElem? (i := 1) rfl)) (fun _ h9 => h9) rfl dX2_copyFrom_10 ?_
  refine va_alen (v := 345) hx hb hk.1 hP 18 0 (wC_18 _ _ _ _) rfl rfl dX2_copyFrom_13 ?_
  refine lv_icmp_ne (tgt := 35) hx hb dX2_copyFrom_14 (by decide) (fun h9 => absurd (by decide) h9) (fun _ => ?_)
  refine lv_aload_n hx hb dX2_copyFrom_17 rfl (lv_at hl 1 rfl) ?_
  refine va_get (D := D) (ci := 2) (C := RX2) (T := TX2) (N := 1) hx hb hts iX2 hown hk.1 hP 3 (wC_3 _ _ _ _) rfl 0 (by decide) (hts (.fieldLink RX2 11 "BottleLoop$State" "cells" "[I") (List.mem_of_getElem? (i := 1) rfl)) (fun _ h9 => h9) rfl dX2_copyFrom_18 ?_
  refine lv_iconst (v := 0) hx hb dX2_copyFrom_21 (by decide) ?_
  refine lv_aload_n hx hb dX2_copyFrom_22 rfl (lv_at hl 0 rfl) ?_
  refine va_get (D := D) (ci := 2) (C := RX2) (T := TX2) (N := 1) hx hb hts iX2 hown hk.1 hP 12 (wC_12 _ _ _ _) rfl 0 (by decide) (hts (.fieldLink RX2 11 "BottleLoop$State" "cells" "[I") (List.mem_of_getElem? (i := 1) rfl)) (fun _ h9 => h9) rfl dX2_copyFrom_23 ?_
  refine lv_iconst (v := 0) hx hb dX2_copyFrom_26 (by decide) ?_
  refine lv_aload_n hx hb dX2_copyFrom_27 rfl (lv_at hl 0 rfl) ?_
  refine va_get (D := D) (ci := 2) (C := RX2) (T := TX2) (N := 1) hx hb hts iX2 hown hk.1 hP 12 (wC_12 _ _ _ _) rfl 0 (by decide) (hts (.fieldLink RX2 11 "BottleLoop$State" "cells" "[I") (List.mem_of_getElem? (i := 1) rfl)) (fun _ h9 => h9) rfl dX2_copyFrom_28 ?_
  refine va_alen (v := 345) hx hb hk.1 hP 18 0 (wC_18 _ _ _ _) rfl rfl dX2_copyFrom_31 ?_
  refine va_copyi hx hb (hml.trans hl.1.symm) hown (hts (.methodLink RX2 26 arraycopyName) (List.mem_of_getElem? (i := 2) rfl)) (hts (.native arraycopyName) (List.mem_of_getElem? (i := 3) rfl)) (hts (.static arraycopyName) (List.mem_of_getElem? (i := 4) rfl)) (hts (.initialized "java/lang/System") (List.mem_of_getElem? (i := 5) rfl)) hk.1 hP (wC_D hq) hS 4 18 0 0 (wC_4 _ _ _ _) (wC_18 _ _ _ _) rfl rfl rfl (by decide) (by decide) (by decide) (by decide) (by decide) (fun _ _ => rfl) (Nat.le_of_ble_eq_true rfl) (Nat.le_of_ble_eq_true rfl) dX2_copyFrom_32 (fun H locs hP _ hS => ?_)
  have hP : va_P D vwCl (wC cI cO q (bs u 8 (va_cpy (u 0) (u 8) 0 0 345))) H := hP
  exact bret_Wv hx hb hr hP trivial hS hlocks dX2_copyFrom_35 (by rw [← hF, F2_copyFromS_5])
def F2_copyFromN_5 (u : bU) : bU := (bs u 0 (va_cpy (u 8) (u 0) 0 0 345))
set_option maxHeartbeats 4000000 in
set_option maxRecDepth 100000 in
theorem C2_copyFromN_5 (l : Launch) (D : va_G) (cI cO : ClassId) (q : Nat → Nat) (u : bU) (H0 : Heap) (hq : bInj 23 q) (hP : va_P D vwCl (wC cI cO q u) H0) : Met l yX2_copyFrom wsX2_copyFrom ({ frames := 1, cells := 0, slots := 0, locals := 200 }) (bP D [(cI, .int), (cO, .object RX2)] H0 [.ref (q 3), .ref (q 12)]) (bWv D (wC cI cO q) bT (bA 23 q H0.size) (F2_copyFromN_5 u)) 0 0 (bA 23 q H0.size) := by
  refine Met.ofW (cc := cX2_copyFrom) (maxL := 2) (ret := none) (by decide) rfl ?_
  intro p e s m args below meth c s₁ B hml hv
  obtain ⟨rfl, hH, hk⟩ := hv
  subst hH
  have hx := B.exec
  have hb := B.bytes
  have hr := B.returns
  have hts := atoms_spec (ws := wsX2_copyFrom) B.pre
  have hown : s.vm.findClass RX2 = some m.cls := findClass_of_methodNamed B.named
  have hlocks := B.notSynchronized
  have iX2 : ∀ w ∈ wsX20, w ∈ wsX2_copyFrom := by decide +kernel
  have hS : va_S (bA 23 q s.heap.size) s.heap s.heap [] := va_S.rf
  have hl := lv_entry ([.ref (q 3), .ref (q 12)]) (n := 2) (Nat.le_of_ble_eq_true rfl)
  rw [lg_entry_eq]
  generalize (lg_sl ([.ref (q 3), .ref (q 12)]) ++ List.replicate (2 - (lg_sl ([.ref (q 3), .ref (q 12)])).length) Slot.unset).toArray = ls at hl ⊢
  have hl : lv_has ls 2 [(0, .ref (q 3)), (1, .ref (q 12))] := hl
  generalize hF : F2_copyFromN_5 u = tgt
  refine lv_aload_n hx hb dX2_copyFrom_0 rfl (lv_at hl 1 rfl) ?_
  refine lv_ifnull hx hb dX2_copyFrom_1 ?_
  refine lv_aload_n hx hb dX2_copyFrom_4 rfl (lv_at hl 1 rfl) ?_
  refine va_get (D := D) (ci := 2) (C := RX2) (T := TX2) (N := 1) hx hb hts iX2 hown hk.1 hP 12 (wC_12 _ _ _ _) rfl 0 (by decide) (hts (.fieldLink RX2 11 "BottleLoop$State" "cells" "[I") (List.mem_of_getElem? (i := 1) rfl)) (fun _ h9 => h9) rfl dX2_copyFrom_5 ?_
  refine va_alen (v := 345) hx hb hk.1 hP 18 0 (wC_18 _ _ _ _) rfl rfl dX2_copyFrom_8 ?_
  refine lv_aload_n hx hb dX2_copyFrom_9 rfl (lv_at hl 0 rfl) ?_
  refine va_get (D := D) (ci := 2) (C := RX2) (T := TX2) (N := 1) hx hb hts iX2 hown hk.1 hP 3 (wC_3 _ _ _ _) rfl 0 (by decide) (hts (.fieldLink RX2 11 "BottleLoop$State" "cells" "[I") (List.mem_of_getElem? (i := 1) rfl)) (fun _ h9 => h9) rfl dX2_copyFrom_10 ?_
  refine va_alen (v := 345) hx hb hk.1 hP 4 0 (wC_4 _ _ _ _) rfl rfl dX2_copyFrom_13 ?_
  refine lv_icmp_ne (tgt := 35) hx hb dX2_copyFrom_14 (by decide) (fun h9 => absurd (by decide) h9) (fun _ => ?_)
  refine lv_aload_n hx hb dX2_copyFrom_17 rfl (lv_at hl 1 rfl) ?_
  refine va_get (D := D) (ci := 2) (C := RX2) (T := TX2) (N := 1) hx hb hts iX2 hown hk.1 hP 12 (wC_12 _ _ _ _) rfl 0 (by decide) (hts (.fieldLink RX2 11 "BottleLoop$State" "cells" "[I") (List.mem_of_getElem? (i := 1) rfl)) (fun _ h9 => h9) rfl dX2_copyFrom_18 ?_
  refine lv_iconst (v := 0) hx hb dX2_copyFrom_21 (by decide) ?_
  refine lv_aload_n hx hb dX2_copyFrom_22 rfl (lv_at hl 0 rfl) ?_
  refine va_get (D := D) (ci := 2) (C := RX2) (T := TX2) (N := 1) hx hb hts iX2 hown hk.1 hP 3 (wC_3 _ _ _ _) rfl 0 (by decide) (hts (.fieldLink RX2 11 "BottleLoop$State" "cells" "[I") (List.mem_of_getElem? (i := 1) rfl)) (fun _ h9 => h9) rfl dX2_copyFrom_23 ?_
  refine lv_iconst (v := 0) hx hb dX2_copyFrom_26 (by decide) ?_
  refine lv_aload_n hx hb dX2_copyFrom_27 rfl (lv_at hl 0 rfl) ?_
  refine va_get (D := D) (ci := 2) (C := RX2) (T := TX2) (N := 1) hx hb hts iX2 hown hk.1 hP 3 (wC_3 _ _ _ _) rfl 0 (by decide) (hts (.fieldLink RX2 11 "BottleLoop$State" "cells" "[I") (List.mem_of_getElem? (i := 1) rfl)) (fun _ h9 => h9) rfl dX2_copyFrom_28 ?_
  refine va_alen (v := 345) hx hb hk.1 hP 4 0 (wC_4 _ _ _ _) rfl rfl dX2_copyFrom_31 ?_
  refine va_copyi hx hb (hml.trans hl.1.symm) hown (hts (.methodLink RX2 26 arraycopyName) (List.mem_of_getElem? (i := 2) rfl)) (hts (.native arraycopyName) (List.mem_of_getElem? (i := 3) rfl)) (hts (.static arraycopyName) (List.mem_of_getElem? (i := 4) rfl)) (hts (.initialized "java/lang/System") (List.mem_of_getElem? (i := 5) rfl)) hk.1 hP (wC_D hq) hS 18 4 0 0 (wC_18 _ _ _ _) (wC_4 _ _ _ _) rfl rfl rfl (by decide) (by decide) (by decide) (by decide) (by decide) (fun _ _ => rfl) (Nat.le_of_ble_eq_true rfl) (Nat.le_of_ble_eq_true rfl) dX2_copyFrom_32 (fun H locs hP _ hS => ?_)
  have hP : va_P D vwCl (wC cI cO q (bs u 0 (va_cpy (u 8) (u 0) 0 0 345))) H := hP
  exact bret_Wv hx hb hr hP trivial hS hlocks dX2_copyFrom_35 (by rw [← hF, F2_copyFromN_5])
def F1_keep_0 (u : bU) : bU := (if (6 : Int32) ≤ ((bput u 11 0 1) 11 1) then (F2_copyFromS_1 (bput (bput u 11 0 1) 11 1 6)) else (F2_copyFromS_1 (bput (bput u 11 0 1) 11 1 (((bput u 11 0 1) 11 1) + 1))))
set_option maxHeartbeats 4000000 in
set_option maxRecDepth 100000 in
theorem C1_keep_0 (l : Launch) (D : va_G) (cI cO : ClassId) (q : Nat → Nat) (u : bU) (H0 : Heap) (hq : bInj 23 q) (hP : va_P D vwCl (wC cI cO q u) H0) (hlat : u 11 0 = 0) : Met l yX1_keep wsX1_keep ({ frames := 2, cells := 0, slots := 0, locals := 221 }) (bP D [(cI, .int), (cO, .object RX2)] H0 [.ref (q 5), .ref (q 3)]) (bWv D (wC cI cO q) bT (bA 23 q H0.size) (F1_keep_0 u)) 0 0 (bA 23 q H0.size) := by
  refine Met.ofW (cc := cX1_keep) (maxL := 3) (ret := none) (by decide) rfl ?_
  intro p e s m args below meth c s₁ B hml hv
  obtain ⟨rfl, hH, hk⟩ := hv
  subst hH
  have hx := B.exec
  have hb := B.bytes
  have hr := B.returns
  have hts := atoms_spec (ws := wsX1_keep) B.pre
  have hown : s.vm.findClass RX1 = some m.cls := findClass_of_methodNamed B.named
  have hlocks := B.notSynchronized
  have iX1 : ∀ w ∈ wsX10, w ∈ wsX1_keep := by decide +kernel
  have hS : va_S (bA 23 q s.heap.size) s.heap s.heap [] := va_S.rf
  have hl := lv_entry ([.ref (q 5), .ref (q 3)]) (n := 3) (Nat.le_of_ble_eq_true rfl)
  rw [lg_entry_eq]
  generalize (lg_sl ([.ref (q 5), .ref (q 3)]) ++ List.replicate (3 - (lg_sl ([.ref (q 5), .ref (q 3)])).length) Slot.unset).toArray = ls at hl ⊢
  have hl : lv_has ls 3 [(0, .ref (q 5)), (1, .ref (q 3))] := hl
  generalize hF : F1_keep_0 u = tgt
  refine lv_aload_n hx hb dX1_keep_0 rfl (lv_at hl 0 rfl) ?_
  refine lv_aload_n hx hb dX1_keep_1 rfl (lv_at hl 0 rfl) ?_
  refine va_get (D := D) (ci := 1) (C := RX1) (T := TX1) (N := 3) hx hb hts iX1 hown hk.1 hP 5 (wC_5 _ _ _ _) rfl 1 (by decide) (hts (.fieldLink RX1 20 "BottleLoop$Past" "latest" "I") (List.mem_of_getElem? (i := 1) rfl)) (fun _ h9 => h9) rfl dX1_keep_2 ?_
  refine lv_topi (fun z9 hz9 => ?_)
  obtain rfl : z9 = 0 := hz9.trans hlat
  refine lv_iconst (v := 1) hx hb dX1_keep_5 (by decide) ?_
  refine lv_iadd hx hb dX1_keep_6 ?_
  refine lv_topi (fun z9 hz9 => ?_)
  obtain rfl : z9 = 1 := hz9.trans (by decide)
  refine lv_bipush (v := 6) hx hb dX1_keep_7 (by decide) ?_
  refine lv_icmp_ge (tgt := 21) hx hb dX1_keep_9 (by decide) (fun h9 => absurd h9 (by decide)) (fun _ => ?_)
  refine lv_aload_n hx hb dX1_keep_12 rfl (lv_at hl 0 rfl) ?_
  refine va_get (D := D) (ci := 1) (C := RX1) (T := TX1) (N := 3) hx hb hts iX1 hown hk.1 hP 5 (wC_5 _ _ _ _) rfl 1 (by decide) (hts (.fieldLink RX1 20 "BottleLoop$Past" "latest" "I") (List.mem_of_getElem? (i := 1) rfl)) (fun _ h9 => h9) rfl dX1_keep_13 ?_
  refine lv_topi (fun z9 hz9 => ?_)
  obtain rfl : z9 = 0 := hz9.trans hlat
  refine lv_iconst (v := 1) hx hb dX1_keep_16 (by decide) ?_
  refine lv_iadd hx hb dX1_keep_17 ?_
  refine lv_topi (fun z9 hz9 => ?_)
  obtain rfl : z9 = 1 := hz9.trans (by decide)
  refine lv_goto (tgt := 22) hx hb dX1_keep_18 (by decide) ?_
  refine va_put (D := D) (ci := 1) (v := .int 1) (ty := .int) (C := RX1) (T := TX1) (N := 3) hx hb hts iX1 tyX1 tyX1_ok nmX1 hown hk.1 hP (wC_D hq) hS 5 (wC_5 _ _ _ _) rfl 1 (by decide) (hts (.fieldLink RX1 20 "BottleLoop$Past" "latest" "I") (List.mem_of_getElem? (i := 1) rfl)) (fun _ h9 => h9) rfl (by decide +kernel) rfl rfl (Nat.le_of_ble_eq_true rfl) dX1_keep_22 (fun H locs hP _ hS => ?_)
  have hP : va_P D vwCl (wC cI cO q (bput u 11 0 1)) H := hP
  refine lv_aload_n hx hb dX1_keep_25 rfl (lv_at hl 0 rfl) ?_
  refine lv_aload_n hx hb dX1_keep_26 rfl (lv_at hl 0 rfl) ?_
  refine va_get (D := D) (ci := 1) (C := RX1) (T := TX1) (N := 3) hx hb hts iX1 hown hk.1 hP 5 (wC_5 _ _ _ _) rfl 2 (by decide) (hts (.fieldLink RX1 16 "BottleLoop$Past" "kept" "I") (List.mem_of_getElem? (i := 2) rfl)) (fun _ h9 => h9) rfl dX1_keep_27 ?_
  refine lv_bipush (v := 6) hx hb dX1_keep_30 (by decide) ?_
  refine lv_icmp_ge (tgt := 44) hx hb dX1_keep_32 (by decide) (fun c_1 => ?_) (fun c_1 => ?_)
  · refine lv_bipush (v := 6) hx hb dX1_keep_44 (by decide) ?_
    refine va_put (D := D) (ci := 1) (v := .int 6) (ty := .int) (C := RX1) (T := TX1) (N := 3) hx hb hts iX1 tyX1 tyX1_ok nmX1 hown hk.1 hP (wC_D hq) hS 5 (wC_5 _ _ _ _) rfl 2 (by decide) (hts (.fieldLink RX1 16 "BottleLoop$Past" "kept" "I") (List.mem_of_getElem? (i := 2) rfl)) (fun _ h9 => h9) rfl (by decide +kernel) rfl rfl (Nat.le_of_ble_eq_true rfl) dX1_keep_46 (fun H locs hP _ hS => ?_)
    have hP : va_P D vwCl (wC cI cO q (bput (bput u 11 0 1) 11 1 6)) H := hP
    refine lv_aload_n hx hb dX1_keep_49 rfl (lv_at hl 0 rfl) ?_
    refine bcall_Rr (va_runV (As := []) (rest := []) ⟨hx, hb, hml, hown, hts⟩ (C1_latestState_1 l D cI cO q _ _ hP  rfl) (cwV 0 hts gX1_keep_X1_latestState rfl rfl rfl ⟨rfl, bd_X1latestState⟩ ⟨Nat.le_of_ble_eq_true rfl, Nat.le_of_ble_eq_true rfl⟩) (bPV hk (va_recv hk.1 hP (ci := 1) (q0 := 5) rfl (wC_5 _ _ _ _))) rfl rfl hl.1 rfl (lv_room (Nat.le_of_ble_eq_true rfl)) dX1_keep_50 ⟨Nat.zero_le _, Nat.zero_le _⟩) hS (fun locs hS => ?_)
    refine lv_astore_n (lv' := [(2, .ref (q 8)), (0, .ref (q 5)), (1, .ref (q 3))]) hx hb dX1_keep_53 rfl hl (by decide) rfl (fun ls hl => ?_)
    refine lv_aload_n hx hb dX1_keep_54 rfl (lv_at hl 0 rfl) ?_
    refine lv_ifnull hx hb dX1_keep_55 ?_
    refine lv_aload_n hx hb dX1_keep_58 rfl (lv_at hl 0 rfl) ?_
    refine lv_aload_n hx hb dX1_keep_59 rfl (lv_at hl 2 rfl) ?_
    refine bcall_Wv (va_runVN (As := [.ref (q 3)]) (rest := []) ⟨hx, hb, hml, hown, hts⟩ (C2_copyFromS_1 l D cI cO q _ _ hq hP ) ⟨va_cnB 1 hts gX1_keep_X2_copyFrom_n27 rfl rfl rfl (hk.2 (.methodLinkNest RX1 27 yX2_copyFrom RX5) (List.mem_of_getElem? (i := 10) rfl)) (hts (.initialized RX2) (List.mem_of_getElem? (i := 10) rfl)) bd_X2copyFrom ⟨Nat.le_of_ble_eq_true rfl, Nat.le_of_ble_eq_true rfl⟩, (hts (.instanceMethod yX2_copyFrom) (List.mem_of_getElem? (i := 9) rfl)), (hts (.selects RX2 yX2_copyFrom yX2_copyFrom) (List.mem_of_getElem? (i := 11) rfl))⟩ (bPV hk (va_recv hk.1 hP (ci := 2) (q0 := 8) rfl (wC_8 _ _ _ _))) rfl rfl hl.1 rfl (lv_room (Nat.le_of_ble_eq_true rfl)) dX1_keep_60 ⟨Nat.zero_le _, Nat.zero_le _⟩) hS (fun H locs hP _ hS => ?_)
    exact bret_Wv hx hb hr hP trivial hS hlocks dX1_keep_63 (by rw [← hF, F1_keep_0, if_pos c_1])
  · refine lv_aload_n hx hb dX1_keep_35 rfl (lv_at hl 0 rfl) ?_
    refine va_get (D := D) (ci := 1) (C := RX1) (T := TX1) (N := 3) hx hb hts iX1 hown hk.1 hP 5 (wC_5 _ _ _ _) rfl 2 (by decide) (hts (.fieldLink RX1 16 "BottleLoop$Past" "kept" "I") (List.mem_of_getElem? (i := 2) rfl)) (fun _ h9 => h9) rfl dX1_keep_36 ?_
    refine lv_iconst (v := 1) hx hb dX1_keep_39 (by decide) ?_
    refine lv_iadd hx hb dX1_keep_40 ?_
    refine lv_goto (tgt := 46) hx hb dX1_keep_41 (by decide) ?_
    refine va_put (D := D) (ci := 1) (v := .int (((bput u 11 0 1) 11 1) + 1)) (ty := .int) (C := RX1) (T := TX1) (N := 3) hx hb hts iX1 tyX1 tyX1_ok nmX1 hown hk.1 hP (wC_D hq) hS 5 (wC_5 _ _ _ _) rfl 2 (by decide) (hts (.fieldLink RX1 16 "BottleLoop$Past" "kept" "I") (List.mem_of_getElem? (i := 2) rfl)) (fun _ h9 => h9) rfl (by decide +kernel) rfl rfl (Nat.le_of_ble_eq_true rfl) dX1_keep_46 (fun H locs hP _ hS => ?_)
    have hP : va_P D vwCl (wC cI cO q (bput (bput u 11 0 1) 11 1 (((bput u 11 0 1) 11 1) + 1))) H := hP
    refine lv_aload_n hx hb dX1_keep_49 rfl (lv_at hl 0 rfl) ?_
    refine bcall_Rr (va_runV (As := []) (rest := []) ⟨hx, hb, hml, hown, hts⟩ (C1_latestState_1 l D cI cO q _ _ hP  rfl) (cwV 0 hts gX1_keep_X1_latestState rfl rfl rfl ⟨rfl, bd_X1latestState⟩ ⟨Nat.le_of_ble_eq_true rfl, Nat.le_of_ble_eq_true rfl⟩) (bPV hk (va_recv hk.1 hP (ci := 1) (q0 := 5) rfl (wC_5 _ _ _ _))) rfl rfl hl.1 rfl (lv_room (Nat.le_of_ble_eq_true rfl)) dX1_keep_50 ⟨Nat.zero_le _, Nat.zero_le _⟩) hS (fun locs hS => ?_)
    refine lv_astore_n (lv' := [(2, .ref (q 8)), (0, .ref (q 5)), (1, .ref (q 3))]) hx hb dX1_keep_53 rfl hl (by decide) rfl (fun ls hl => ?_)
    refine lv_aload_n hx hb dX1_keep_54 rfl (lv_at hl 0 rfl) ?_
    refine lv_ifnull hx hb dX1_keep_55 ?_
    refine lv_aload_n hx hb dX1_keep_58 rfl (lv_at hl 0 rfl) ?_
    refine lv_aload_n hx hb dX1_keep_59 rfl (lv_at hl 2 rfl) ?_
    refine bcall_Wv (va_runVN (As := [.ref (q 3)]) (rest := []) ⟨hx, hb, hml, hown, hts⟩ (C2_copyFromS_1 l D cI cO q _ _ hq hP ) ⟨va_cnB 1 hts gX1_keep_X2_copyFrom_n27 rfl rfl rfl (hk.2 (.methodLinkNest RX1 27 yX2_copyFrom RX5) (List.mem_of_getElem? (i := 10) rfl)) (hts (.initialized RX2) (List.mem_of_getElem? (i := 10) rfl)) bd_X2copyFrom ⟨Nat.le_of_ble_eq_true rfl, Nat.le_of_ble_eq_true rfl⟩, (hts (.instanceMethod yX2_copyFrom) (List.mem_of_getElem? (i := 9) rfl)), (hts (.selects RX2 yX2_copyFrom yX2_copyFrom) (List.mem_of_getElem? (i := 11) rfl))⟩ (bPV hk (va_recv hk.1 hP (ci := 2) (q0 := 8) rfl (wC_8 _ _ _ _))) rfl rfl hl.1 rfl (lv_room (Nat.le_of_ble_eq_true rfl)) dX1_keep_60 ⟨Nat.zero_le _, Nat.zero_le _⟩) hS (fun H locs hP _ hS => ?_)
    exact bret_Wv hx hb hr hP trivial hS hlocks dX1_keep_63 (by rw [← hF, F1_keep_0, if_neg c_1])
def F1_giveBack_0 (u : bU) : bU := (if (u 11 1) ≤ 0 then u else (bput (bput (F2_copyFromN_0 u) 11 0 5) 11 1 (((bput (F2_copyFromN_0 u) 11 0 5) 11 1) - 1)))
set_option maxHeartbeats 4000000 in
set_option maxRecDepth 100000 in
theorem C1_giveBack_0 (l : Launch) (D : va_G) (cI cO : ClassId) (q : Nat → Nat) (u : bU) (H0 : Heap) (hq : bInj 23 q) (hP : va_P D vwCl (wC cI cO q u) H0) (hlat : u 11 0 = 0) : Met l yX1_giveBack wsX1_giveBack ({ frames := 2, cells := 0, slots := 0, locals := 221 }) (bP D [(cI, .int), (cO, .object RX2)] H0 [.ref (q 5), .ref (q 3)]) (bWv D (wC cI cO q) bT (bA 23 q H0.size) (F1_giveBack_0 u)) 0 0 (bA 23 q H0.size) := by
  refine Met.ofW (cc := cX1_giveBack) (maxL := 2) (ret := none) (by decide) rfl ?_
  intro p e s m args below meth c s₁ B hml hv
  obtain ⟨rfl, hH, hk⟩ := hv
  subst hH
  have hx := B.exec
  have hb := B.bytes
  have hr := B.returns
  have hts := atoms_spec (ws := wsX1_giveBack) B.pre
  have hown : s.vm.findClass RX1 = some m.cls := findClass_of_methodNamed B.named
  have hlocks := B.notSynchronized
  have iX1 : ∀ w ∈ wsX10, w ∈ wsX1_giveBack := by decide +kernel
  have hS : va_S (bA 23 q s.heap.size) s.heap s.heap [] := va_S.rf
  have hl := lv_entry ([.ref (q 5), .ref (q 3)]) (n := 2) (Nat.le_of_ble_eq_true rfl)
  rw [lg_entry_eq]
  generalize (lg_sl ([.ref (q 5), .ref (q 3)]) ++ List.replicate (2 - (lg_sl ([.ref (q 5), .ref (q 3)])).length) Slot.unset).toArray = ls at hl ⊢
  have hl : lv_has ls 2 [(0, .ref (q 5)), (1, .ref (q 3))] := hl
  generalize hF : F1_giveBack_0 u = tgt
  refine lv_aload_n hx hb dX1_giveBack_0 rfl (lv_at hl 1 rfl) ?_
  refine lv_ifnull hx hb dX1_giveBack_1 ?_
  refine lv_aload_n hx hb dX1_giveBack_4 rfl (lv_at hl 0 rfl) ?_
  refine va_get (D := D) (ci := 1) (C := RX1) (T := TX1) (N := 3) hx hb hts iX1 hown hk.1 hP 5 (wC_5 _ _ _ _) rfl 2 (by decide) (hts (.fieldLink RX1 16 "BottleLoop$Past" "kept" "I") (List.mem_of_getElem? (i := 1) rfl)) (fun _ h9 => h9) rfl dX1_giveBack_5 ?_
  refine lv_if_le (tgt := 50) hx hb dX1_giveBack_8 (by decide) (fun c_1 => ?_) (fun c_1 => ?_)
  · exact bret_Wv hx hb hr hP trivial hS hlocks dX1_giveBack_50 (by rw [← hF, F1_giveBack_0, if_pos c_1])
  · refine lv_aload_n hx hb dX1_giveBack_11 rfl (lv_at hl 1 rfl) ?_
    refine lv_aload_n hx hb dX1_giveBack_12 rfl (lv_at hl 0 rfl) ?_
    refine bcall_Rr (va_runV (As := []) (rest := [.ref (q 3)]) ⟨hx, hb, hml, hown, hts⟩ (C1_latestState_0 l D cI cO q _ _ hP  hlat) (cwV 0 hts gX1_giveBack_X1_latestState rfl rfl rfl ⟨rfl, bd_X1latestState⟩ ⟨Nat.le_of_ble_eq_true rfl, Nat.le_of_ble_eq_true rfl⟩) (bPV hk (va_recv hk.1 hP (ci := 1) (q0 := 5) rfl (wC_5 _ _ _ _))) rfl rfl hl.1 rfl (lv_room (Nat.le_of_ble_eq_true rfl)) dX1_giveBack_13 ⟨Nat.zero_le _, Nat.zero_le _⟩) hS (fun locs hS => ?_)
    refine bcall_Wv (va_runVN (As := [.ref (q 7)]) (rest := []) ⟨hx, hb, hml, hown, hts⟩ (C2_copyFromN_0 l D cI cO q _ _ hq hP ) ⟨va_cnB 1 hts gX1_giveBack_X2_copyFrom_n27 rfl rfl rfl (hk.2 (.methodLinkNest RX1 27 yX2_copyFrom RX5) (List.mem_of_getElem? (i := 10) rfl)) (hts (.initialized RX2) (List.mem_of_getElem? (i := 10) rfl)) bd_X2copyFrom ⟨Nat.le_of_ble_eq_true rfl, Nat.le_of_ble_eq_true rfl⟩, (hts (.instanceMethod yX2_copyFrom) (List.mem_of_getElem? (i := 9) rfl)), (hts (.selects RX2 yX2_copyFrom yX2_copyFrom) (List.mem_of_getElem? (i := 11) rfl))⟩ (bPV hk (va_recv hk.1 hP (ci := 2) (q0 := 3) rfl (wC_3 _ _ _ _))) rfl rfl hl.1 rfl (lv_room (Nat.le_of_ble_eq_true rfl)) dX1_giveBack_16 ⟨Nat.zero_le _, Nat.zero_le _⟩) hS (fun H locs hP _ hS => ?_)
    refine lv_aload_n hx hb dX1_giveBack_19 rfl (lv_at hl 0 rfl) ?_
    refine lv_aload_n hx hb dX1_giveBack_20 rfl (lv_at hl 0 rfl) ?_
    refine va_get (D := D) (ci := 1) (C := RX1) (T := TX1) (N := 3) hx hb hts iX1 hown hk.1 hP 5 (wC_5 _ _ _ _) rfl 1 (by decide) (hts (.fieldLink RX1 20 "BottleLoop$Past" "latest" "I") (List.mem_of_getElem? (i := 2) rfl)) (fun _ h9 => h9) rfl dX1_giveBack_21 ?_
    refine lv_topi (fun z9 hz9 => ?_)
    obtain rfl : z9 = 0 := hz9.trans hlat
    refine lv_if_le (tgt := 36) hx hb dX1_giveBack_24 (by decide) (fun _ => ?_) (fun h9 => absurd (by decide) h9)
    refine lv_iconst (v := 5) hx hb dX1_giveBack_36 (by decide) ?_
    refine va_put (D := D) (ci := 1) (v := .int 5) (ty := .int) (C := RX1) (T := TX1) (N := 3) hx hb hts iX1 tyX1 tyX1_ok nmX1 hown hk.1 hP (wC_D hq) hS 5 (wC_5 _ _ _ _) rfl 1 (by decide) (hts (.fieldLink RX1 20 "BottleLoop$Past" "latest" "I") (List.mem_of_getElem? (i := 2) rfl)) (fun _ h9 => h9) rfl (by decide +kernel) rfl rfl (Nat.le_of_ble_eq_true rfl) dX1_giveBack_37 (fun H locs hP _ hS => ?_)
    have hP : va_P D vwCl (wC cI cO q (bput (F2_copyFromN_0 u) 11 0 5)) H := hP
    refine lv_aload_n hx hb dX1_giveBack_40 rfl (lv_at hl 0 rfl) ?_
    refine lv_dup hx hb dX1_giveBack_41 rfl ?_
    refine va_get (D := D) (ci := 1) (C := RX1) (T := TX1) (N := 3) hx hb hts iX1 hown hk.1 hP 5 (wC_5 _ _ _ _) rfl 2 (by decide) (hts (.fieldLink RX1 16 "BottleLoop$Past" "kept" "I") (List.mem_of_getElem? (i := 1) rfl)) (fun _ h9 => h9) rfl dX1_giveBack_42 ?_
    refine lv_iconst (v := 1) hx hb dX1_giveBack_45 (by decide) ?_
    refine lv_isub hx hb dX1_giveBack_46 ?_
    refine va_put (D := D) (ci := 1) (v := .int (((bput (F2_copyFromN_0 u) 11 0 5) 11 1) - 1)) (ty := .int) (C := RX1) (T := TX1) (N := 3) hx hb hts iX1 tyX1 tyX1_ok nmX1 hown hk.1 hP (wC_D hq) hS 5 (wC_5 _ _ _ _) rfl 2 (by decide) (hts (.fieldLink RX1 16 "BottleLoop$Past" "kept" "I") (List.mem_of_getElem? (i := 1) rfl)) (fun _ h9 => h9) rfl (by decide +kernel) rfl rfl (Nat.le_of_ble_eq_true rfl) dX1_giveBack_47 (fun H locs hP _ hS => ?_)
    have hP : va_P D vwCl (wC cI cO q (bput (bput (F2_copyFromN_0 u) 11 0 5) 11 1 (((bput (F2_copyFromN_0 u) 11 0 5) 11 1) - 1))) H := hP
    exact bret_Wv hx hb hr hP trivial hS hlocks dX1_giveBack_50 (by rw [← hF, F1_giveBack_0, if_neg c_1])
def F1_keep_1 (u : bU) : bU := (if (6 : Int32) ≤ ((bput u 11 0 2) 11 1) then (F2_copyFromS_2 (bput (bput u 11 0 2) 11 1 6)) else (F2_copyFromS_2 (bput (bput u 11 0 2) 11 1 (((bput u 11 0 2) 11 1) + 1))))
set_option maxHeartbeats 4000000 in
set_option maxRecDepth 100000 in
theorem C1_keep_1 (l : Launch) (D : va_G) (cI cO : ClassId) (q : Nat → Nat) (u : bU) (H0 : Heap) (hq : bInj 23 q) (hP : va_P D vwCl (wC cI cO q u) H0) (hlat : u 11 0 = 1) : Met l yX1_keep wsX1_keep ({ frames := 2, cells := 0, slots := 0, locals := 221 }) (bP D [(cI, .int), (cO, .object RX2)] H0 [.ref (q 5), .ref (q 3)]) (bWv D (wC cI cO q) bT (bA 23 q H0.size) (F1_keep_1 u)) 0 0 (bA 23 q H0.size) := by
  refine Met.ofW (cc := cX1_keep) (maxL := 3) (ret := none) (by decide) rfl ?_
  intro p e s m args below meth c s₁ B hml hv
  obtain ⟨rfl, hH, hk⟩ := hv
  subst hH
  have hx := B.exec
  have hb := B.bytes
  have hr := B.returns
  have hts := atoms_spec (ws := wsX1_keep) B.pre
  have hown : s.vm.findClass RX1 = some m.cls := findClass_of_methodNamed B.named
  have hlocks := B.notSynchronized
  have iX1 : ∀ w ∈ wsX10, w ∈ wsX1_keep := by decide +kernel
  have hS : va_S (bA 23 q s.heap.size) s.heap s.heap [] := va_S.rf
  have hl := lv_entry ([.ref (q 5), .ref (q 3)]) (n := 3) (Nat.le_of_ble_eq_true rfl)
  rw [lg_entry_eq]
  generalize (lg_sl ([.ref (q 5), .ref (q 3)]) ++ List.replicate (3 - (lg_sl ([.ref (q 5), .ref (q 3)])).length) Slot.unset).toArray = ls at hl ⊢
  have hl : lv_has ls 3 [(0, .ref (q 5)), (1, .ref (q 3))] := hl
  generalize hF : F1_keep_1 u = tgt
  refine lv_aload_n hx hb dX1_keep_0 rfl (lv_at hl 0 rfl) ?_
  refine lv_aload_n hx hb dX1_keep_1 rfl (lv_at hl 0 rfl) ?_
  refine va_get (D := D) (ci := 1) (C := RX1) (T := TX1) (N := 3) hx hb hts iX1 hown hk.1 hP 5 (wC_5 _ _ _ _) rfl 1 (by decide) (hts (.fieldLink RX1 20 "BottleLoop$Past" "latest" "I") (List.mem_of_getElem? (i := 1) rfl)) (fun _ h9 => h9) rfl dX1_keep_2 ?_
  refine lv_topi (fun z9 hz9 => ?_)
  obtain rfl : z9 = 1 := hz9.trans hlat
  refine lv_iconst (v := 1) hx hb dX1_keep_5 (by decide) ?_
  refine lv_iadd hx hb dX1_keep_6 ?_
  refine lv_topi (fun z9 hz9 => ?_)
  obtain rfl : z9 = 2 := hz9.trans (by decide)
  refine lv_bipush (v := 6) hx hb dX1_keep_7 (by decide) ?_
  refine lv_icmp_ge (tgt := 21) hx hb dX1_keep_9 (by decide) (fun h9 => absurd h9 (by decide)) (fun _ => ?_)
  refine lv_aload_n hx hb dX1_keep_12 rfl (lv_at hl 0 rfl) ?_
  refine va_get (D := D) (ci := 1) (C := RX1) (T := TX1) (N := 3) hx hb hts iX1 hown hk.1 hP 5 (wC_5 _ _ _ _) rfl 1 (by decide) (hts (.fieldLink RX1 20 "BottleLoop$Past" "latest" "I") (List.mem_of_getElem? (i := 1) rfl)) (fun _ h9 => h9) rfl dX1_keep_13 ?_
  refine lv_topi (fun z9 hz9 => ?_)
  obtain rfl : z9 = 1 := hz9.trans hlat
  refine lv_iconst (v := 1) hx hb dX1_keep_16 (by decide) ?_
  refine lv_iadd hx hb dX1_keep_17 ?_
  refine lv_topi (fun z9 hz9 => ?_)
  obtain rfl : z9 = 2 := hz9.trans (by decide)
  refine lv_goto (tgt := 22) hx hb dX1_keep_18 (by decide) ?_
  refine va_put (D := D) (ci := 1) (v := .int 2) (ty := .int) (C := RX1) (T := TX1) (N := 3) hx hb hts iX1 tyX1 tyX1_ok nmX1 hown hk.1 hP (wC_D hq) hS 5 (wC_5 _ _ _ _) rfl 1 (by decide) (hts (.fieldLink RX1 20 "BottleLoop$Past" "latest" "I") (List.mem_of_getElem? (i := 1) rfl)) (fun _ h9 => h9) rfl (by decide +kernel) rfl rfl (Nat.le_of_ble_eq_true rfl) dX1_keep_22 (fun H locs hP _ hS => ?_)
  have hP : va_P D vwCl (wC cI cO q (bput u 11 0 2)) H := hP
  refine lv_aload_n hx hb dX1_keep_25 rfl (lv_at hl 0 rfl) ?_
  refine lv_aload_n hx hb dX1_keep_26 rfl (lv_at hl 0 rfl) ?_
  refine va_get (D := D) (ci := 1) (C := RX1) (T := TX1) (N := 3) hx hb hts iX1 hown hk.1 hP 5 (wC_5 _ _ _ _) rfl 2 (by decide) (hts (.fieldLink RX1 16 "BottleLoop$Past" "kept" "I") (List.mem_of_getElem? (i := 2) rfl)) (fun _ h9 => h9) rfl dX1_keep_27 ?_
  refine lv_bipush (v := 6) hx hb dX1_keep_30 (by decide) ?_
  refine lv_icmp_ge (tgt := 44) hx hb dX1_keep_32 (by decide) (fun c_1 => ?_) (fun c_1 => ?_)
  · refine lv_bipush (v := 6) hx hb dX1_keep_44 (by decide) ?_
    refine va_put (D := D) (ci := 1) (v := .int 6) (ty := .int) (C := RX1) (T := TX1) (N := 3) hx hb hts iX1 tyX1 tyX1_ok nmX1 hown hk.1 hP (wC_D hq) hS 5 (wC_5 _ _ _ _) rfl 2 (by decide) (hts (.fieldLink RX1 16 "BottleLoop$Past" "kept" "I") (List.mem_of_getElem? (i := 2) rfl)) (fun _ h9 => h9) rfl (by decide +kernel) rfl rfl (Nat.le_of_ble_eq_true rfl) dX1_keep_46 (fun H locs hP _ hS => ?_)
    have hP : va_P D vwCl (wC cI cO q (bput (bput u 11 0 2) 11 1 6)) H := hP
    refine lv_aload_n hx hb dX1_keep_49 rfl (lv_at hl 0 rfl) ?_
    refine bcall_Rr (va_runV (As := []) (rest := []) ⟨hx, hb, hml, hown, hts⟩ (C1_latestState_2 l D cI cO q _ _ hP  rfl) (cwV 0 hts gX1_keep_X1_latestState rfl rfl rfl ⟨rfl, bd_X1latestState⟩ ⟨Nat.le_of_ble_eq_true rfl, Nat.le_of_ble_eq_true rfl⟩) (bPV hk (va_recv hk.1 hP (ci := 1) (q0 := 5) rfl (wC_5 _ _ _ _))) rfl rfl hl.1 rfl (lv_room (Nat.le_of_ble_eq_true rfl)) dX1_keep_50 ⟨Nat.zero_le _, Nat.zero_le _⟩) hS (fun locs hS => ?_)
    refine lv_astore_n (lv' := [(2, .ref (q 9)), (0, .ref (q 5)), (1, .ref (q 3))]) hx hb dX1_keep_53 rfl hl (by decide) rfl (fun ls hl => ?_)
    refine lv_aload_n hx hb dX1_keep_54 rfl (lv_at hl 0 rfl) ?_
    refine lv_ifnull hx hb dX1_keep_55 ?_
    refine lv_aload_n hx hb dX1_keep_58 rfl (lv_at hl 0 rfl) ?_
    refine lv_aload_n hx hb dX1_keep_59 rfl (lv_at hl 2 rfl) ?_
    refine bcall_Wv (va_runVN (As := [.ref (q 3)]) (rest := []) ⟨hx, hb, hml, hown, hts⟩ (C2_copyFromS_2 l D cI cO q _ _ hq hP ) ⟨va_cnB 1 hts gX1_keep_X2_copyFrom_n27 rfl rfl rfl (hk.2 (.methodLinkNest RX1 27 yX2_copyFrom RX5) (List.mem_of_getElem? (i := 10) rfl)) (hts (.initialized RX2) (List.mem_of_getElem? (i := 10) rfl)) bd_X2copyFrom ⟨Nat.le_of_ble_eq_true rfl, Nat.le_of_ble_eq_true rfl⟩, (hts (.instanceMethod yX2_copyFrom) (List.mem_of_getElem? (i := 9) rfl)), (hts (.selects RX2 yX2_copyFrom yX2_copyFrom) (List.mem_of_getElem? (i := 11) rfl))⟩ (bPV hk (va_recv hk.1 hP (ci := 2) (q0 := 9) rfl (wC_9 _ _ _ _))) rfl rfl hl.1 rfl (lv_room (Nat.le_of_ble_eq_true rfl)) dX1_keep_60 ⟨Nat.zero_le _, Nat.zero_le _⟩) hS (fun H locs hP _ hS => ?_)
    exact bret_Wv hx hb hr hP trivial hS hlocks dX1_keep_63 (by rw [← hF, F1_keep_1, if_pos c_1])
  · refine lv_aload_n hx hb dX1_keep_35 rfl (lv_at hl 0 rfl) ?_
    refine va_get (D := D) (ci := 1) (C := RX1) (T := TX1) (N := 3) hx hb hts iX1 hown hk.1 hP 5 (wC_5 _ _ _ _) rfl 2 (by decide) (hts (.fieldLink RX1 16 "BottleLoop$Past" "kept" "I") (List.mem_of_getElem? (i := 2) rfl)) (fun _ h9 => h9) rfl dX1_keep_36 ?_
    refine lv_iconst (v := 1) hx hb dX1_keep_39 (by decide) ?_
    refine lv_iadd hx hb dX1_keep_40 ?_
    refine lv_goto (tgt := 46) hx hb dX1_keep_41 (by decide) ?_
    refine va_put (D := D) (ci := 1) (v := .int (((bput u 11 0 2) 11 1) + 1)) (ty := .int) (C := RX1) (T := TX1) (N := 3) hx hb hts iX1 tyX1 tyX1_ok nmX1 hown hk.1 hP (wC_D hq) hS 5 (wC_5 _ _ _ _) rfl 2 (by decide) (hts (.fieldLink RX1 16 "BottleLoop$Past" "kept" "I") (List.mem_of_getElem? (i := 2) rfl)) (fun _ h9 => h9) rfl (by decide +kernel) rfl rfl (Nat.le_of_ble_eq_true rfl) dX1_keep_46 (fun H locs hP _ hS => ?_)
    have hP : va_P D vwCl (wC cI cO q (bput (bput u 11 0 2) 11 1 (((bput u 11 0 2) 11 1) + 1))) H := hP
    refine lv_aload_n hx hb dX1_keep_49 rfl (lv_at hl 0 rfl) ?_
    refine bcall_Rr (va_runV (As := []) (rest := []) ⟨hx, hb, hml, hown, hts⟩ (C1_latestState_2 l D cI cO q _ _ hP  rfl) (cwV 0 hts gX1_keep_X1_latestState rfl rfl rfl ⟨rfl, bd_X1latestState⟩ ⟨Nat.le_of_ble_eq_true rfl, Nat.le_of_ble_eq_true rfl⟩) (bPV hk (va_recv hk.1 hP (ci := 1) (q0 := 5) rfl (wC_5 _ _ _ _))) rfl rfl hl.1 rfl (lv_room (Nat.le_of_ble_eq_true rfl)) dX1_keep_50 ⟨Nat.zero_le _, Nat.zero_le _⟩) hS (fun locs hS => ?_)
    refine lv_astore_n (lv' := [(2, .ref (q 9)), (0, .ref (q 5)), (1, .ref (q 3))]) hx hb dX1_keep_53 rfl hl (by decide) rfl (fun ls hl => ?_)
    refine lv_aload_n hx hb dX1_keep_54 rfl (lv_at hl 0 rfl) ?_
    refine lv_ifnull hx hb dX1_keep_55 ?_
    refine lv_aload_n hx hb dX1_keep_58 rfl (lv_at hl 0 rfl) ?_
    refine lv_aload_n hx hb dX1_keep_59 rfl (lv_at hl 2 rfl) ?_
    refine bcall_Wv (va_runVN (As := [.ref (q 3)]) (rest := []) ⟨hx, hb, hml, hown, hts⟩ (C2_copyFromS_2 l D cI cO q _ _ hq hP ) ⟨va_cnB 1 hts gX1_keep_X2_copyFrom_n27 rfl rfl rfl (hk.2 (.methodLinkNest RX1 27 yX2_copyFrom RX5) (List.mem_of_getElem? (i := 10) rfl)) (hts (.initialized RX2) (List.mem_of_getElem? (i := 10) rfl)) bd_X2copyFrom ⟨Nat.le_of_ble_eq_true rfl, Nat.le_of_ble_eq_true rfl⟩, (hts (.instanceMethod yX2_copyFrom) (List.mem_of_getElem? (i := 9) rfl)), (hts (.selects RX2 yX2_copyFrom yX2_copyFrom) (List.mem_of_getElem? (i := 11) rfl))⟩ (bPV hk (va_recv hk.1 hP (ci := 2) (q0 := 9) rfl (wC_9 _ _ _ _))) rfl rfl hl.1 rfl (lv_room (Nat.le_of_ble_eq_true rfl)) dX1_keep_60 ⟨Nat.zero_le _, Nat.zero_le _⟩) hS (fun H locs hP _ hS => ?_)
    exact bret_Wv hx hb hr hP trivial hS hlocks dX1_keep_63 (by rw [← hF, F1_keep_1, if_neg c_1])
def F1_giveBack_1 (u : bU) : bU := (if (u 11 1) ≤ 0 then u else (bput (bput (F2_copyFromN_1 u) 11 0 0) 11 1 (((bput (F2_copyFromN_1 u) 11 0 0) 11 1) - 1)))
set_option maxHeartbeats 4000000 in
set_option maxRecDepth 100000 in
theorem C1_giveBack_1 (l : Launch) (D : va_G) (cI cO : ClassId) (q : Nat → Nat) (u : bU) (H0 : Heap) (hq : bInj 23 q) (hP : va_P D vwCl (wC cI cO q u) H0) (hlat : u 11 0 = 1) : Met l yX1_giveBack wsX1_giveBack ({ frames := 2, cells := 0, slots := 0, locals := 221 }) (bP D [(cI, .int), (cO, .object RX2)] H0 [.ref (q 5), .ref (q 3)]) (bWv D (wC cI cO q) bT (bA 23 q H0.size) (F1_giveBack_1 u)) 0 0 (bA 23 q H0.size) := by
  refine Met.ofW (cc := cX1_giveBack) (maxL := 2) (ret := none) (by decide) rfl ?_
  intro p e s m args below meth c s₁ B hml hv
  obtain ⟨rfl, hH, hk⟩ := hv
  subst hH
  have hx := B.exec
  have hb := B.bytes
  have hr := B.returns
  have hts := atoms_spec (ws := wsX1_giveBack) B.pre
  have hown : s.vm.findClass RX1 = some m.cls := findClass_of_methodNamed B.named
  have hlocks := B.notSynchronized
  have iX1 : ∀ w ∈ wsX10, w ∈ wsX1_giveBack := by decide +kernel
  have hS : va_S (bA 23 q s.heap.size) s.heap s.heap [] := va_S.rf
  have hl := lv_entry ([.ref (q 5), .ref (q 3)]) (n := 2) (Nat.le_of_ble_eq_true rfl)
  rw [lg_entry_eq]
  generalize (lg_sl ([.ref (q 5), .ref (q 3)]) ++ List.replicate (2 - (lg_sl ([.ref (q 5), .ref (q 3)])).length) Slot.unset).toArray = ls at hl ⊢
  have hl : lv_has ls 2 [(0, .ref (q 5)), (1, .ref (q 3))] := hl
  generalize hF : F1_giveBack_1 u = tgt
  refine lv_aload_n hx hb dX1_giveBack_0 rfl (lv_at hl 1 rfl) ?_
  refine lv_ifnull hx hb dX1_giveBack_1 ?_
  refine lv_aload_n hx hb dX1_giveBack_4 rfl (lv_at hl 0 rfl) ?_
  refine va_get (D := D) (ci := 1) (C := RX1) (T := TX1) (N := 3) hx hb hts iX1 hown hk.1 hP 5 (wC_5 _ _ _ _) rfl 2 (by decide) (hts (.fieldLink RX1 16 "BottleLoop$Past" "kept" "I") (List.mem_of_getElem? (i := 1) rfl)) (fun _ h9 => h9) rfl dX1_giveBack_5 ?_
  refine lv_if_le (tgt := 50) hx hb dX1_giveBack_8 (by decide) (fun c_1 => ?_) (fun c_1 => ?_)
  · exact bret_Wv hx hb hr hP trivial hS hlocks dX1_giveBack_50 (by rw [← hF, F1_giveBack_1, if_pos c_1])
  · refine lv_aload_n hx hb dX1_giveBack_11 rfl (lv_at hl 1 rfl) ?_
    refine lv_aload_n hx hb dX1_giveBack_12 rfl (lv_at hl 0 rfl) ?_
    refine bcall_Rr (va_runV (As := []) (rest := [.ref (q 3)]) ⟨hx, hb, hml, hown, hts⟩ (C1_latestState_1 l D cI cO q _ _ hP  hlat) (cwV 0 hts gX1_giveBack_X1_latestState rfl rfl rfl ⟨rfl, bd_X1latestState⟩ ⟨Nat.le_of_ble_eq_true rfl, Nat.le_of_ble_eq_true rfl⟩) (bPV hk (va_recv hk.1 hP (ci := 1) (q0 := 5) rfl (wC_5 _ _ _ _))) rfl rfl hl.1 rfl (lv_room (Nat.le_of_ble_eq_true rfl)) dX1_giveBack_13 ⟨Nat.zero_le _, Nat.zero_le _⟩) hS (fun locs hS => ?_)
    refine bcall_Wv (va_runVN (As := [.ref (q 8)]) (rest := []) ⟨hx, hb, hml, hown, hts⟩ (C2_copyFromN_1 l D cI cO q _ _ hq hP ) ⟨va_cnB 1 hts gX1_giveBack_X2_copyFrom_n27 rfl rfl rfl (hk.2 (.methodLinkNest RX1 27 yX2_copyFrom RX5) (List.mem_of_getElem? (i := 10) rfl)) (hts (.initialized RX2) (List.mem_of_getElem? (i := 10) rfl)) bd_X2copyFrom ⟨Nat.le_of_ble_eq_true rfl, Nat.le_of_ble_eq_true rfl⟩, (hts (.instanceMethod yX2_copyFrom) (List.mem_of_getElem? (i := 9) rfl)), (hts (.selects RX2 yX2_copyFrom yX2_copyFrom) (List.mem_of_getElem? (i := 11) rfl))⟩ (bPV hk (va_recv hk.1 hP (ci := 2) (q0 := 3) rfl (wC_3 _ _ _ _))) rfl rfl hl.1 rfl (lv_room (Nat.le_of_ble_eq_true rfl)) dX1_giveBack_16 ⟨Nat.zero_le _, Nat.zero_le _⟩) hS (fun H locs hP _ hS => ?_)
    refine lv_aload_n hx hb dX1_giveBack_19 rfl (lv_at hl 0 rfl) ?_
    refine lv_aload_n hx hb dX1_giveBack_20 rfl (lv_at hl 0 rfl) ?_
    refine va_get (D := D) (ci := 1) (C := RX1) (T := TX1) (N := 3) hx hb hts iX1 hown hk.1 hP 5 (wC_5 _ _ _ _) rfl 1 (by decide) (hts (.fieldLink RX1 20 "BottleLoop$Past" "latest" "I") (List.mem_of_getElem? (i := 2) rfl)) (fun _ h9 => h9) rfl dX1_giveBack_21 ?_
    refine lv_topi (fun z9 hz9 => ?_)
    obtain rfl : z9 = 1 := hz9.trans hlat
    refine lv_if_le (tgt := 36) hx hb dX1_giveBack_24 (by decide) (fun h9 => absurd h9 (by decide)) (fun _ => ?_)
    refine lv_aload_n hx hb dX1_giveBack_27 rfl (lv_at hl 0 rfl) ?_
    refine va_get (D := D) (ci := 1) (C := RX1) (T := TX1) (N := 3) hx hb hts iX1 hown hk.1 hP 5 (wC_5 _ _ _ _) rfl 1 (by decide) (hts (.fieldLink RX1 20 "BottleLoop$Past" "latest" "I") (List.mem_of_getElem? (i := 2) rfl)) (fun _ h9 => h9) rfl dX1_giveBack_28 ?_
    refine lv_topi (fun z9 hz9 => ?_)
    obtain rfl : z9 = 1 := hz9.trans hlat
    refine lv_iconst (v := 1) hx hb dX1_giveBack_31 (by decide) ?_
    refine lv_isub hx hb dX1_giveBack_32 ?_
    refine lv_topi (fun z9 hz9 => ?_)
    obtain rfl : z9 = 0 := hz9.trans (by decide)
    refine lv_goto (tgt := 37) hx hb dX1_giveBack_33 (by decide) ?_
    refine va_put (D := D) (ci := 1) (v := .int 0) (ty := .int) (C := RX1) (T := TX1) (N := 3) hx hb hts iX1 tyX1 tyX1_ok nmX1 hown hk.1 hP (wC_D hq) hS 5 (wC_5 _ _ _ _) rfl 1 (by decide) (hts (.fieldLink RX1 20 "BottleLoop$Past" "latest" "I") (List.mem_of_getElem? (i := 2) rfl)) (fun _ h9 => h9) rfl (by decide +kernel) rfl rfl (Nat.le_of_ble_eq_true rfl) dX1_giveBack_37 (fun H locs hP _ hS => ?_)
    have hP : va_P D vwCl (wC cI cO q (bput (F2_copyFromN_1 u) 11 0 0)) H := hP
    refine lv_aload_n hx hb dX1_giveBack_40 rfl (lv_at hl 0 rfl) ?_
    refine lv_dup hx hb dX1_giveBack_41 rfl ?_
    refine va_get (D := D) (ci := 1) (C := RX1) (T := TX1) (N := 3) hx hb hts iX1 hown hk.1 hP 5 (wC_5 _ _ _ _) rfl 2 (by decide) (hts (.fieldLink RX1 16 "BottleLoop$Past" "kept" "I") (List.mem_of_getElem? (i := 1) rfl)) (fun _ h9 => h9) rfl dX1_giveBack_42 ?_
    refine lv_iconst (v := 1) hx hb dX1_giveBack_45 (by decide) ?_
    refine lv_isub hx hb dX1_giveBack_46 ?_
    refine va_put (D := D) (ci := 1) (v := .int (((bput (F2_copyFromN_1 u) 11 0 0) 11 1) - 1)) (ty := .int) (C := RX1) (T := TX1) (N := 3) hx hb hts iX1 tyX1 tyX1_ok nmX1 hown hk.1 hP (wC_D hq) hS 5 (wC_5 _ _ _ _) rfl 2 (by decide) (hts (.fieldLink RX1 16 "BottleLoop$Past" "kept" "I") (List.mem_of_getElem? (i := 1) rfl)) (fun _ h9 => h9) rfl (by decide +kernel) rfl rfl (Nat.le_of_ble_eq_true rfl) dX1_giveBack_47 (fun H locs hP _ hS => ?_)
    have hP : va_P D vwCl (wC cI cO q (bput (bput (F2_copyFromN_1 u) 11 0 0) 11 1 (((bput (F2_copyFromN_1 u) 11 0 0) 11 1) - 1))) H := hP
    exact bret_Wv hx hb hr hP trivial hS hlocks dX1_giveBack_50 (by rw [← hF, F1_giveBack_1, if_neg c_1])
def F1_keep_2 (u : bU) : bU := (if (6 : Int32) ≤ ((bput u 11 0 3) 11 1) then (F2_copyFromS_3 (bput (bput u 11 0 3) 11 1 6)) else (F2_copyFromS_3 (bput (bput u 11 0 3) 11 1 (((bput u 11 0 3) 11 1) + 1))))
set_option maxHeartbeats 4000000 in
set_option maxRecDepth 100000 in
theorem C1_keep_2 (l : Launch) (D : va_G) (cI cO : ClassId) (q : Nat → Nat) (u : bU) (H0 : Heap) (hq : bInj 23 q) (hP : va_P D vwCl (wC cI cO q u) H0) (hlat : u 11 0 = 2) : Met l yX1_keep wsX1_keep ({ frames := 2, cells := 0, slots := 0, locals := 221 }) (bP D [(cI, .int), (cO, .object RX2)] H0 [.ref (q 5), .ref (q 3)]) (bWv D (wC cI cO q) bT (bA 23 q H0.size) (F1_keep_2 u)) 0 0 (bA 23 q H0.size) := by
  refine Met.ofW (cc := cX1_keep) (maxL := 3) (ret := none) (by decide) rfl ?_
  intro p e s m args below meth c s₁ B hml hv
  obtain ⟨rfl, hH, hk⟩ := hv
  subst hH
  have hx := B.exec
  have hb := B.bytes
  have hr := B.returns
  have hts := atoms_spec (ws := wsX1_keep) B.pre
  have hown : s.vm.findClass RX1 = some m.cls := findClass_of_methodNamed B.named
  have hlocks := B.notSynchronized
  have iX1 : ∀ w ∈ wsX10, w ∈ wsX1_keep := by decide +kernel
  have hS : va_S (bA 23 q s.heap.size) s.heap s.heap [] := va_S.rf
  have hl := lv_entry ([.ref (q 5), .ref (q 3)]) (n := 3) (Nat.le_of_ble_eq_true rfl)
  rw [lg_entry_eq]
  generalize (lg_sl ([.ref (q 5), .ref (q 3)]) ++ List.replicate (3 - (lg_sl ([.ref (q 5), .ref (q 3)])).length) Slot.unset).toArray = ls at hl ⊢
  have hl : lv_has ls 3 [(0, .ref (q 5)), (1, .ref (q 3))] := hl
  generalize hF : F1_keep_2 u = tgt
  refine lv_aload_n hx hb dX1_keep_0 rfl (lv_at hl 0 rfl) ?_
  refine lv_aload_n hx hb dX1_keep_1 rfl (lv_at hl 0 rfl) ?_
  refine va_get (D := D) (ci := 1) (C := RX1) (T := TX1) (N := 3) hx hb hts iX1 hown hk.1 hP 5 (wC_5 _ _ _ _) rfl 1 (by decide) (hts (.fieldLink RX1 20 "BottleLoop$Past" "latest" "I") (List.mem_of_getElem? (i := 1) rfl)) (fun _ h9 => h9) rfl dX1_keep_2 ?_
  refine lv_topi (fun z9 hz9 => ?_)
  obtain rfl : z9 = 2 := hz9.trans hlat
  refine lv_iconst (v := 1) hx hb dX1_keep_5 (by decide) ?_
  refine lv_iadd hx hb dX1_keep_6 ?_
  refine lv_topi (fun z9 hz9 => ?_)
  obtain rfl : z9 = 3 := hz9.trans (by decide)
  refine lv_bipush (v := 6) hx hb dX1_keep_7 (by decide) ?_
  refine lv_icmp_ge (tgt := 21) hx hb dX1_keep_9 (by decide) (fun h9 => absurd h9 (by decide)) (fun _ => ?_)
  refine lv_aload_n hx hb dX1_keep_12 rfl (lv_at hl 0 rfl) ?_
  refine va_get (D := D) (ci := 1) (C := RX1) (T := TX1) (N := 3) hx hb hts iX1 hown hk.1 hP 5 (wC_5 _ _ _ _) rfl 1 (by decide) (hts (.fieldLink RX1 20 "BottleLoop$Past" "latest" "I") (List.mem_of_getElem? (i := 1) rfl)) (fun _ h9 => h9) rfl dX1_keep_13 ?_
  refine lv_topi (fun z9 hz9 => ?_)
  obtain rfl : z9 = 2 := hz9.trans hlat
  refine lv_iconst (v := 1) hx hb dX1_keep_16 (by decide) ?_
  refine lv_iadd hx hb dX1_keep_17 ?_
  refine lv_topi (fun z9 hz9 => ?_)
  obtain rfl : z9 = 3 := hz9.trans (by decide)
  refine lv_goto (tgt := 22) hx hb dX1_keep_18 (by decide) ?_
  refine va_put (D := D) (ci := 1) (v := .int 3) (ty := .int) (C := RX1) (T := TX1) (N := 3) hx hb hts iX1 tyX1 tyX1_ok nmX1 hown hk.1 hP (wC_D hq) hS 5 (wC_5 _ _ _ _) rfl 1 (by decide) (hts (.fieldLink RX1 20 "BottleLoop$Past" "latest" "I") (List.mem_of_getElem? (i := 1) rfl)) (fun _ h9 => h9) rfl (by decide +kernel) rfl rfl (Nat.le_of_ble_eq_true rfl) dX1_keep_22 (fun H locs hP _ hS => ?_)
  have hP : va_P D vwCl (wC cI cO q (bput u 11 0 3)) H := hP
  refine lv_aload_n hx hb dX1_keep_25 rfl (lv_at hl 0 rfl) ?_
  refine lv_aload_n hx hb dX1_keep_26 rfl (lv_at hl 0 rfl) ?_
  refine va_get (D := D) (ci := 1) (C := RX1) (T := TX1) (N := 3) hx hb hts iX1 hown hk.1 hP 5 (wC_5 _ _ _ _) rfl 2 (by decide) (hts (.fieldLink RX1 16 "BottleLoop$Past" "kept" "I") (List.mem_of_getElem? (i := 2) rfl)) (fun _ h9 => h9) rfl dX1_keep_27 ?_
  refine lv_bipush (v := 6) hx hb dX1_keep_30 (by decide) ?_
  refine lv_icmp_ge (tgt := 44) hx hb dX1_keep_32 (by decide) (fun c_1 => ?_) (fun c_1 => ?_)
  · refine lv_bipush (v := 6) hx hb dX1_keep_44 (by decide) ?_
    refine va_put (D := D) (ci := 1) (v := .int 6) (ty := .int) (C := RX1) (T := TX1) (N := 3) hx hb hts iX1 tyX1 tyX1_ok nmX1 hown hk.1 hP (wC_D hq) hS 5 (wC_5 _ _ _ _) rfl 2 (by decide) (hts (.fieldLink RX1 16 "BottleLoop$Past" "kept" "I") (List.mem_of_getElem? (i := 2) rfl)) (fun _ h9 => h9) rfl (by decide +kernel) rfl rfl (Nat.le_of_ble_eq_true rfl) dX1_keep_46 (fun H locs hP _ hS => ?_)
    have hP : va_P D vwCl (wC cI cO q (bput (bput u 11 0 3) 11 1 6)) H := hP
    refine lv_aload_n hx hb dX1_keep_49 rfl (lv_at hl 0 rfl) ?_
    refine bcall_Rr (va_runV (As := []) (rest := []) ⟨hx, hb, hml, hown, hts⟩ (C1_latestState_3 l D cI cO q _ _ hP  rfl) (cwV 0 hts gX1_keep_X1_latestState rfl rfl rfl ⟨rfl, bd_X1latestState⟩ ⟨Nat.le_of_ble_eq_true rfl, Nat.le_of_ble_eq_true rfl⟩) (bPV hk (va_recv hk.1 hP (ci := 1) (q0 := 5) rfl (wC_5 _ _ _ _))) rfl rfl hl.1 rfl (lv_room (Nat.le_of_ble_eq_true rfl)) dX1_keep_50 ⟨Nat.zero_le _, Nat.zero_le _⟩) hS (fun locs hS => ?_)
    refine lv_astore_n (lv' := [(2, .ref (q 10)), (0, .ref (q 5)), (1, .ref (q 3))]) hx hb dX1_keep_53 rfl hl (by decide) rfl (fun ls hl => ?_)
    refine lv_aload_n hx hb dX1_keep_54 rfl (lv_at hl 0 rfl) ?_
    refine lv_ifnull hx hb dX1_keep_55 ?_
    refine lv_aload_n hx hb dX1_keep_58 rfl (lv_at hl 0 rfl) ?_
    refine lv_aload_n hx hb dX1_keep_59 rfl (lv_at hl 2 rfl) ?_
    refine bcall_Wv (va_runVN (As := [.ref (q 3)]) (rest := []) ⟨hx, hb, hml, hown, hts⟩ (C2_copyFromS_3 l D cI cO q _ _ hq hP ) ⟨va_cnB 1 hts gX1_keep_X2_copyFrom_n27 rfl rfl rfl (hk.2 (.methodLinkNest RX1 27 yX2_copyFrom RX5) (List.mem_of_getElem? (i := 10) rfl)) (hts (.initialized RX2) (List.mem_of_getElem? (i := 10) rfl)) bd_X2copyFrom ⟨Nat.le_of_ble_eq_true rfl, Nat.le_of_ble_eq_true rfl⟩, (hts (.instanceMethod yX2_copyFrom) (List.mem_of_getElem? (i := 9) rfl)), (hts (.selects RX2 yX2_copyFrom yX2_copyFrom) (List.mem_of_getElem? (i := 11) rfl))⟩ (bPV hk (va_recv hk.1 hP (ci := 2) (q0 := 10) rfl (wC_10 _ _ _ _))) rfl rfl hl.1 rfl (lv_room (Nat.le_of_ble_eq_true rfl)) dX1_keep_60 ⟨Nat.zero_le _, Nat.zero_le _⟩) hS (fun H locs hP _ hS => ?_)
    exact bret_Wv hx hb hr hP trivial hS hlocks dX1_keep_63 (by rw [← hF, F1_keep_2, if_pos c_1])
  · refine lv_aload_n hx hb dX1_keep_35 rfl (lv_at hl 0 rfl) ?_
    refine va_get (D := D) (ci := 1) (C := RX1) (T := TX1) (N := 3) hx hb hts iX1 hown hk.1 hP 5 (wC_5 _ _ _ _) rfl 2 (by decide) (hts (.fieldLink RX1 16 "BottleLoop$Past" "kept" "I") (List.mem_of_getElem? (i := 2) rfl)) (fun _ h9 => h9) rfl dX1_keep_36 ?_
    refine lv_iconst (v := 1) hx hb dX1_keep_39 (by decide) ?_
    refine lv_iadd hx hb dX1_keep_40 ?_
    refine lv_goto (tgt := 46) hx hb dX1_keep_41 (by decide) ?_
    refine va_put (D := D) (ci := 1) (v := .int (((bput u 11 0 3) 11 1) + 1)) (ty := .int) (C := RX1) (T := TX1) (N := 3) hx hb hts iX1 tyX1 tyX1_ok nmX1 hown hk.1 hP (wC_D hq) hS 5 (wC_5 _ _ _ _) rfl 2 (by decide) (hts (.fieldLink RX1 16 "BottleLoop$Past" "kept" "I") (List.mem_of_getElem? (i := 2) rfl)) (fun _ h9 => h9) rfl (by decide +kernel) rfl rfl (Nat.le_of_ble_eq_true rfl) dX1_keep_46 (fun H locs hP _ hS => ?_)
    have hP : va_P D vwCl (wC cI cO q (bput (bput u 11 0 3) 11 1 (((bput u 11 0 3) 11 1) + 1))) H := hP
    refine lv_aload_n hx hb dX1_keep_49 rfl (lv_at hl 0 rfl) ?_
    refine bcall_Rr (va_runV (As := []) (rest := []) ⟨hx, hb, hml, hown, hts⟩ (C1_latestState_3 l D cI cO q _ _ hP  rfl) (cwV 0 hts gX1_keep_X1_latestState rfl rfl rfl ⟨rfl, bd_X1latestState⟩ ⟨Nat.le_of_ble_eq_true rfl, Nat.le_of_ble_eq_true rfl⟩) (bPV hk (va_recv hk.1 hP (ci := 1) (q0 := 5) rfl (wC_5 _ _ _ _))) rfl rfl hl.1 rfl (lv_room (Nat.le_of_ble_eq_true rfl)) dX1_keep_50 ⟨Nat.zero_le _, Nat.zero_le _⟩) hS (fun locs hS => ?_)
    refine lv_astore_n (lv' := [(2, .ref (q 10)), (0, .ref (q 5)), (1, .ref (q 3))]) hx hb dX1_keep_53 rfl hl (by decide) rfl (fun ls hl => ?_)
    refine lv_aload_n hx hb dX1_keep_54 rfl (lv_at hl 0 rfl) ?_
    refine lv_ifnull hx hb dX1_keep_55 ?_
    refine lv_aload_n hx hb dX1_keep_58 rfl (lv_at hl 0 rfl) ?_
    refine lv_aload_n hx hb dX1_keep_59 rfl (lv_at hl 2 rfl) ?_
    refine bcall_Wv (va_runVN (As := [.ref (q 3)]) (rest := []) ⟨hx, hb, hml, hown, hts⟩ (C2_copyFromS_3 l D cI cO q _ _ hq hP ) ⟨va_cnB 1 hts gX1_keep_X2_copyFrom_n27 rfl rfl rfl (hk.2 (.methodLinkNest RX1 27 yX2_copyFrom RX5) (List.mem_of_getElem? (i := 10) rfl)) (hts (.initialized RX2) (List.mem_of_getElem? (i := 10) rfl)) bd_X2copyFrom ⟨Nat.le_of_ble_eq_true rfl, Nat.le_of_ble_eq_true rfl⟩, (hts (.instanceMethod yX2_copyFrom) (List.mem_of_getElem? (i := 9) rfl)), (hts (.selects RX2 yX2_copyFrom yX2_copyFrom) (List.mem_of_getElem? (i := 11) rfl))⟩ (bPV hk (va_recv hk.1 hP (ci := 2) (q0 := 10) rfl (wC_10 _ _ _ _))) rfl rfl hl.1 rfl (lv_room (Nat.le_of_ble_eq_true rfl)) dX1_keep_60 ⟨Nat.zero_le _, Nat.zero_le _⟩) hS (fun H locs hP _ hS => ?_)
    exact bret_Wv hx hb hr hP trivial hS hlocks dX1_keep_63 (by rw [← hF, F1_keep_2, if_neg c_1])
def F1_giveBack_2 (u : bU) : bU := (if (u 11 1) ≤ 0 then u else (bput (bput (F2_copyFromN_2 u) 11 0 1) 11 1 (((bput (F2_copyFromN_2 u) 11 0 1) 11 1) - 1)))
set_option maxHeartbeats 4000000 in
set_option maxRecDepth 100000 in
theorem C1_giveBack_2 (l : Launch) (D : va_G) (cI cO : ClassId) (q : Nat → Nat) (u : bU) (H0 : Heap) (hq : bInj 23 q) (hP : va_P D vwCl (wC cI cO q u) H0) (hlat : u 11 0 = 2) : Met l yX1_giveBack wsX1_giveBack ({ frames := 2, cells := 0, slots := 0, locals := 221 }) (bP D [(cI, .int), (cO, .object RX2)] H0 [.ref (q 5), .ref (q 3)]) (bWv D (wC cI cO q) bT (bA 23 q H0.size) (F1_giveBack_2 u)) 0 0 (bA 23 q H0.size) := by
  refine Met.ofW (cc := cX1_giveBack) (maxL := 2) (ret := none) (by decide) rfl ?_
  intro p e s m args below meth c s₁ B hml hv
  obtain ⟨rfl, hH, hk⟩ := hv
  subst hH
  have hx := B.exec
  have hb := B.bytes
  have hr := B.returns
  have hts := atoms_spec (ws := wsX1_giveBack) B.pre
  have hown : s.vm.findClass RX1 = some m.cls := findClass_of_methodNamed B.named
  have hlocks := B.notSynchronized
  have iX1 : ∀ w ∈ wsX10, w ∈ wsX1_giveBack := by decide +kernel
  have hS : va_S (bA 23 q s.heap.size) s.heap s.heap [] := va_S.rf
  have hl := lv_entry ([.ref (q 5), .ref (q 3)]) (n := 2) (Nat.le_of_ble_eq_true rfl)
  rw [lg_entry_eq]
  generalize (lg_sl ([.ref (q 5), .ref (q 3)]) ++ List.replicate (2 - (lg_sl ([.ref (q 5), .ref (q 3)])).length) Slot.unset).toArray = ls at hl ⊢
  have hl : lv_has ls 2 [(0, .ref (q 5)), (1, .ref (q 3))] := hl
  generalize hF : F1_giveBack_2 u = tgt
  refine lv_aload_n hx hb dX1_giveBack_0 rfl (lv_at hl 1 rfl) ?_
  refine lv_ifnull hx hb dX1_giveBack_1 ?_
  refine lv_aload_n hx hb dX1_giveBack_4 rfl (lv_at hl 0 rfl) ?_
  refine va_get (D := D) (ci := 1) (C := RX1) (T := TX1) (N := 3) hx hb hts iX1 hown hk.1 hP 5 (wC_5 _ _ _ _) rfl 2 (by decide) (hts (.fieldLink RX1 16 "BottleLoop$Past" "kept" "I") (List.mem_of_getElem? (i := 1) rfl)) (fun _ h9 => h9) rfl dX1_giveBack_5 ?_
  refine lv_if_le (tgt := 50) hx hb dX1_giveBack_8 (by decide) (fun c_1 => ?_) (fun c_1 => ?_)
  · exact bret_Wv hx hb hr hP trivial hS hlocks dX1_giveBack_50 (by rw [← hF, F1_giveBack_2, if_pos c_1])
  · refine lv_aload_n hx hb dX1_giveBack_11 rfl (lv_at hl 1 rfl) ?_
    refine lv_aload_n hx hb dX1_giveBack_12 rfl (lv_at hl 0 rfl) ?_
    refine bcall_Rr (va_runV (As := []) (rest := [.ref (q 3)]) ⟨hx, hb, hml, hown, hts⟩ (C1_latestState_2 l D cI cO q _ _ hP  hlat) (cwV 0 hts gX1_giveBack_X1_latestState rfl rfl rfl ⟨rfl, bd_X1latestState⟩ ⟨Nat.le_of_ble_eq_true rfl, Nat.le_of_ble_eq_true rfl⟩) (bPV hk (va_recv hk.1 hP (ci := 1) (q0 := 5) rfl (wC_5 _ _ _ _))) rfl rfl hl.1 rfl (lv_room (Nat.le_of_ble_eq_true rfl)) dX1_giveBack_13 ⟨Nat.zero_le _, Nat.zero_le _⟩) hS (fun locs hS => ?_)
    refine bcall_Wv (va_runVN (As := [.ref (q 9)]) (rest := []) ⟨hx, hb, hml, hown, hts⟩ (C2_copyFromN_2 l D cI cO q _ _ hq hP ) ⟨va_cnB 1 hts gX1_giveBack_X2_copyFrom_n27 rfl rfl rfl (hk.2 (.methodLinkNest RX1 27 yX2_copyFrom RX5) (List.mem_of_getElem? (i := 10) rfl)) (hts (.initialized RX2) (List.mem_of_getElem? (i := 10) rfl)) bd_X2copyFrom ⟨Nat.le_of_ble_eq_true rfl, Nat.le_of_ble_eq_true rfl⟩, (hts (.instanceMethod yX2_copyFrom) (List.mem_of_getElem? (i := 9) rfl)), (hts (.selects RX2 yX2_copyFrom yX2_copyFrom) (List.mem_of_getElem? (i := 11) rfl))⟩ (bPV hk (va_recv hk.1 hP (ci := 2) (q0 := 3) rfl (wC_3 _ _ _ _))) rfl rfl hl.1 rfl (lv_room (Nat.le_of_ble_eq_true rfl)) dX1_giveBack_16 ⟨Nat.zero_le _, Nat.zero_le _⟩) hS (fun H locs hP _ hS => ?_)
    refine lv_aload_n hx hb dX1_giveBack_19 rfl (lv_at hl 0 rfl) ?_
    refine lv_aload_n hx hb dX1_giveBack_20 rfl (lv_at hl 0 rfl) ?_
    refine va_get (D := D) (ci := 1) (C := RX1) (T := TX1) (N := 3) hx hb hts iX1 hown hk.1 hP 5 (wC_5 _ _ _ _) rfl 1 (by decide) (hts (.fieldLink RX1 20 "BottleLoop$Past" "latest" "I") (List.mem_of_getElem? (i := 2) rfl)) (fun _ h9 => h9) rfl dX1_giveBack_21 ?_
    refine lv_topi (fun z9 hz9 => ?_)
    obtain rfl : z9 = 2 := hz9.trans hlat
    refine lv_if_le (tgt := 36) hx hb dX1_giveBack_24 (by decide) (fun h9 => absurd h9 (by decide)) (fun _ => ?_)
    refine lv_aload_n hx hb dX1_giveBack_27 rfl (lv_at hl 0 rfl) ?_
    refine va_get (D := D) (ci := 1) (C := RX1) (T := TX1) (N := 3) hx hb hts iX1 hown hk.1 hP 5 (wC_5 _ _ _ _) rfl 1 (by decide) (hts (.fieldLink RX1 20 "BottleLoop$Past" "latest" "I") (List.mem_of_getElem? (i := 2) rfl)) (fun _ h9 => h9) rfl dX1_giveBack_28 ?_
    refine lv_topi (fun z9 hz9 => ?_)
    obtain rfl : z9 = 2 := hz9.trans hlat
    refine lv_iconst (v := 1) hx hb dX1_giveBack_31 (by decide) ?_
    refine lv_isub hx hb dX1_giveBack_32 ?_
    refine lv_topi (fun z9 hz9 => ?_)
    obtain rfl : z9 = 1 := hz9.trans (by decide)
    refine lv_goto (tgt := 37) hx hb dX1_giveBack_33 (by decide) ?_
    refine va_put (D := D) (ci := 1) (v := .int 1) (ty := .int) (C := RX1) (T := TX1) (N := 3) hx hb hts iX1 tyX1 tyX1_ok nmX1 hown hk.1 hP (wC_D hq) hS 5 (wC_5 _ _ _ _) rfl 1 (by decide) (hts (.fieldLink RX1 20 "BottleLoop$Past" "latest" "I") (List.mem_of_getElem? (i := 2) rfl)) (fun _ h9 => h9) rfl (by decide +kernel) rfl rfl (Nat.le_of_ble_eq_true rfl) dX1_giveBack_37 (fun H locs hP _ hS => ?_)
    have hP : va_P D vwCl (wC cI cO q (bput (F2_copyFromN_2 u) 11 0 1)) H := hP
    refine lv_aload_n hx hb dX1_giveBack_40 rfl (lv_at hl 0 rfl) ?_
    refine lv_dup hx hb dX1_giveBack_41 rfl ?_
    refine va_get (D := D) (ci := 1) (C := RX1) (T := TX1) (N := 3) hx hb hts iX1 hown hk.1 hP 5 (wC_5 _ _ _ _) rfl 2 (by decide) (hts (.fieldLink RX1 16 "BottleLoop$Past" "kept" "I") (List.mem_of_getElem? (i := 1) rfl)) (fun _ h9 => h9) rfl dX1_giveBack_42 ?_
    refine lv_iconst (v := 1) hx hb dX1_giveBack_45 (by decide) ?_
    refine lv_isub hx hb dX1_giveBack_46 ?_
    refine va_put (D := D) (ci := 1) (v := .int (((bput (F2_copyFromN_2 u) 11 0 1) 11 1) - 1)) (ty := .int) (C := RX1) (T := TX1) (N := 3) hx hb hts iX1 tyX1 tyX1_ok nmX1 hown hk.1 hP (wC_D hq) hS 5 (wC_5 _ _ _ _) rfl 2 (by decide) (hts (.fieldLink RX1 16 "BottleLoop$Past" "kept" "I") (List.mem_of_getElem? (i := 1) rfl)) (fun _ h9 => h9) rfl (by decide +kernel) rfl rfl (Nat.le_of_ble_eq_true rfl) dX1_giveBack_47 (fun H locs hP _ hS => ?_)
    have hP : va_P D vwCl (wC cI cO q (bput (bput (F2_copyFromN_2 u) 11 0 1) 11 1 (((bput (F2_copyFromN_2 u) 11 0 1) 11 1) - 1))) H := hP
    exact bret_Wv hx hb hr hP trivial hS hlocks dX1_giveBack_50 (by rw [← hF, F1_giveBack_2, if_neg c_1])
def F1_keep_3 (u : bU) : bU := (if (6 : Int32) ≤ ((bput u 11 0 4) 11 1) then (F2_copyFromS_4 (bput (bput u 11 0 4) 11 1 6)) else (F2_copyFromS_4 (bput (bput u 11 0 4) 11 1 (((bput u 11 0 4) 11 1) + 1))))
set_option maxHeartbeats 4000000 in
set_option maxRecDepth 100000 in
theorem C1_keep_3 (l : Launch) (D : va_G) (cI cO : ClassId) (q : Nat → Nat) (u : bU) (H0 : Heap) (hq : bInj 23 q) (hP : va_P D vwCl (wC cI cO q u) H0) (hlat : u 11 0 = 3) : Met l yX1_keep wsX1_keep ({ frames := 2, cells := 0, slots := 0, locals := 221 }) (bP D [(cI, .int), (cO, .object RX2)] H0 [.ref (q 5), .ref (q 3)]) (bWv D (wC cI cO q) bT (bA 23 q H0.size) (F1_keep_3 u)) 0 0 (bA 23 q H0.size) := by
  refine Met.ofW (cc := cX1_keep) (maxL := 3) (ret := none) (by decide) rfl ?_
  intro p e s m args below meth c s₁ B hml hv
  obtain ⟨rfl, hH, hk⟩ := hv
  subst hH
  have hx := B.exec
  have hb := B.bytes
  have hr := B.returns
  have hts := atoms_spec (ws := wsX1_keep) B.pre
  have hown : s.vm.findClass RX1 = some m.cls := findClass_of_methodNamed B.named
  have hlocks := B.notSynchronized
  have iX1 : ∀ w ∈ wsX10, w ∈ wsX1_keep := by decide +kernel
  have hS : va_S (bA 23 q s.heap.size) s.heap s.heap [] := va_S.rf
  have hl := lv_entry ([.ref (q 5), .ref (q 3)]) (n := 3) (Nat.le_of_ble_eq_true rfl)
  rw [lg_entry_eq]
  generalize (lg_sl ([.ref (q 5), .ref (q 3)]) ++ List.replicate (3 - (lg_sl ([.ref (q 5), .ref (q 3)])).length) Slot.unset).toArray = ls at hl ⊢
  have hl : lv_has ls 3 [(0, .ref (q 5)), (1, .ref (q 3))] := hl
  generalize hF : F1_keep_3 u = tgt
  refine lv_aload_n hx hb dX1_keep_0 rfl (lv_at hl 0 rfl) ?_
  refine lv_aload_n hx hb dX1_keep_1 rfl (lv_at hl 0 rfl) ?_
  refine va_get (D := D) (ci := 1) (C := RX1) (T := TX1) (N := 3) hx hb hts iX1 hown hk.1 hP 5 (wC_5 _ _ _ _) rfl 1 (by decide) (hts (.fieldLink RX1 20 "BottleLoop$Past" "latest" "I") (List.mem_of_getElem? (i := 1) rfl)) (fun _ h9 => h9) rfl dX1_keep_2 ?_
  refine lv_topi (fun z9 hz9 => ?_)
  obtain rfl : z9 = 3 := hz9.trans hlat
  refine lv_iconst (v := 1) hx hb dX1_keep_5 (by decide) ?_
  refine lv_iadd hx hb dX1_keep_6 ?_
  refine lv_topi (fun z9 hz9 => ?_)
  obtain rfl : z9 = 4 := hz9.trans (by decide)
  refine lv_bipush (v := 6) hx hb dX1_keep_7 (by decide) ?_
  refine lv_icmp_ge (tgt := 21) hx hb dX1_keep_9 (by decide) (fun h9 => absurd h9 (by decide)) (fun _ => ?_)
  refine lv_aload_n hx hb dX1_keep_12 rfl (lv_at hl 0 rfl) ?_
  refine va_get (D := D) (ci := 1) (C := RX1) (T := TX1) (N := 3) hx hb hts iX1 hown hk.1 hP 5 (wC_5 _ _ _ _) rfl 1 (by decide) (hts (.fieldLink RX1 20 "BottleLoop$Past" "latest" "I") (List.mem_of_getElem? (i := 1) rfl)) (fun _ h9 => h9) rfl dX1_keep_13 ?_
  refine lv_topi (fun z9 hz9 => ?_)
  obtain rfl : z9 = 3 := hz9.trans hlat
  refine lv_iconst (v := 1) hx hb dX1_keep_16 (by decide) ?_
  refine lv_iadd hx hb dX1_keep_17 ?_
  refine lv_topi (fun z9 hz9 => ?_)
  obtain rfl : z9 = 4 := hz9.trans (by decide)
  refine lv_goto (tgt := 22) hx hb dX1_keep_18 (by decide) ?_
  refine va_put (D := D) (ci := 1) (v := .int 4) (ty := .int) (C := RX1) (T := TX1) (N := 3) hx hb hts iX1 tyX1 tyX1_ok nmX1 hown hk.1 hP (wC_D hq) hS 5 (wC_5 _ _ _ _) rfl 1 (by decide) (hts (.fieldLink RX1 20 "BottleLoop$Past" "latest" "I") (List.mem_of_getElem? (i := 1) rfl)) (fun _ h9 => h9) rfl (by decide +kernel) rfl rfl (Nat.le_of_ble_eq_true rfl) dX1_keep_22 (fun H locs hP _ hS => ?_)
  have hP : va_P D vwCl (wC cI cO q (bput u 11 0 4)) H := hP
  refine lv_aload_n hx hb dX1_keep_25 rfl (lv_at hl 0 rfl) ?_
  refine lv_aload_n hx hb dX1_keep_26 rfl (lv_at hl 0 rfl) ?_
  refine va_get (D := D) (ci := 1) (C := RX1) (T := TX1) (N := 3) hx hb hts iX1 hown hk.1 hP 5 (wC_5 _ _ _ _) rfl 2 (by decide) (hts (.fieldLink RX1 16 "BottleLoop$Past" "kept" "I") (List.mem_of_getElem? (i := 2) rfl)) (fun _ h9 => h9) rfl dX1_keep_27 ?_
  refine lv_bipush (v := 6) hx hb dX1_keep_30 (by decide) ?_
  refine lv_icmp_ge (tgt := 44) hx hb dX1_keep_32 (by decide) (fun c_1 => ?_) (fun c_1 => ?_)
  · refine lv_bipush (v := 6) hx hb dX1_keep_44 (by decide) ?_
    refine va_put (D := D) (ci := 1) (v := .int 6) (ty := .int) (C := RX1) (T := TX1) (N := 3) hx hb hts iX1 tyX1 tyX1_ok nmX1 hown hk.1 hP (wC_D hq) hS 5 (wC_5 _ _ _ _) rfl 2 (by decide) (hts (.fieldLink RX1 16 "BottleLoop$Past" "kept" "I") (List.mem_of_getElem? (i := 2) rfl)) (fun _ h9 => h9) rfl (by decide +kernel) rfl rfl (Nat.le_of_ble_eq_true rfl) dX1_keep_46 (fun H locs hP _ hS => ?_)
    have hP : va_P D vwCl (wC cI cO q (bput (bput u 11 0 4) 11 1 6)) H := hP
    refine lv_aload_n hx hb dX1_keep_49 rfl (lv_at hl 0 rfl) ?_
    refine bcall_Rr (va_runV (As := []) (rest := []) ⟨hx, hb, hml, hown, hts⟩ (C1_latestState_4 l D cI cO q _ _ hP  rfl) (cwV 0 hts gX1_keep_X1_latestState rfl rfl rfl ⟨rfl, bd_X1latestState⟩ ⟨Nat.le_of_ble_eq_true rfl, Nat.le_of_ble_eq_true rfl⟩) (bPV hk (va_recv hk.1 hP (ci := 1) (q0 := 5) rfl (wC_5 _ _ _ _))) rfl rfl hl.1 rfl (lv_room (Nat.le_of_ble_eq_true rfl)) dX1_keep_50 ⟨Nat.zero_le _, Nat.zero_le _⟩) hS (fun locs hS => ?_)
    refine lv_astore_n (lv' := [(2, .ref (q 11)), (0, .ref (q 5)), (1, .ref (q 3))]) hx hb dX1_keep_53 rfl hl (by decide) rfl (fun ls hl => ?_)
    refine lv_aload_n hx hb dX1_keep_54 rfl (lv_at hl 0 rfl) ?_
    refine lv_ifnull hx hb dX1_keep_55 ?_
    refine lv_aload_n hx hb dX1_keep_58 rfl (lv_at hl 0 rfl) ?_
    refine lv_aload_n hx hb dX1_keep_59 rfl (lv_at hl 2 rfl) ?_
    refine bcall_Wv (va_runVN (As := [.ref (q 3)]) (rest := []) ⟨hx, hb, hml, hown, hts⟩ (C2_copyFromS_4 l D cI cO q _ _ hq hP ) ⟨va_cnB 1 hts gX1_keep_X2_copyFrom_n27 rfl rfl rfl (hk.2 (.methodLinkNest RX1 27 yX2_copyFrom RX5) (List.mem_of_getElem? (i := 10) rfl)) (hts (.initialized RX2) (List.mem_of_getElem? (i := 10) rfl)) bd_X2copyFrom ⟨Nat.le_of_ble_eq_true rfl, Nat.le_of_ble_eq_true rfl⟩, (hts (.instanceMethod yX2_copyFrom) (List.mem_of_getElem? (i := 9) rfl)), (hts (.selects RX2 yX2_copyFrom yX2_copyFrom) (List.mem_of_getElem? (i := 11) rfl))⟩ (bPV hk (va_recv hk.1 hP (ci := 2) (q0 := 11) rfl (wC_11 _ _ _ _))) rfl rfl hl.1 rfl (lv_room (Nat.le_of_ble_eq_true rfl)) dX1_keep_60 ⟨Nat.zero_le _, Nat.zero_le _⟩) hS (fun H locs hP _ hS => ?_)
    exact bret_Wv hx hb hr hP trivial hS hlocks dX1_keep_63 (by rw [← hF, F1_keep_3, if_pos c_1])
  · refine lv_aload_n hx hb dX1_keep_35 rfl (lv_at hl 0 rfl) ?_
    refine va_get (D := D) (ci := 1) (C := RX1) (T := TX1) (N := 3) hx hb hts iX1 hown hk.1 hP 5 (wC_5 _ _ _ _) rfl 2 (by decide) (hts (.fieldLink RX1 16 "BottleLoop$Past" "kept" "I") (List.mem_of_getElem? (i := 2) rfl)) (fun _ h9 => h9) rfl dX1_keep_36 ?_
    refine lv_iconst (v := 1) hx hb dX1_keep_39 (by decide) ?_
    refine lv_iadd hx hb dX1_keep_40 ?_
    refine lv_goto (tgt := 46) hx hb dX1_keep_41 (by decide) ?_
    refine va_put (D := D) (ci := 1) (v := .int (((bput u 11 0 4) 11 1) + 1)) (ty := .int) (C := RX1) (T := TX1) (N := 3) hx hb hts iX1 tyX1 tyX1_ok nmX1 hown hk.1 hP (wC_D hq) hS 5 (wC_5 _ _ _ _) rfl 2 (by decide) (hts (.fieldLink RX1 16 "BottleLoop$Past" "kept" "I") (List.mem_of_getElem? (i := 2) rfl)) (fun _ h9 => h9) rfl (by decide +kernel) rfl rfl (Nat.le_of_ble_eq_true rfl) dX1_keep_46 (fun H locs hP _ hS => ?_)
    have hP : va_P D vwCl (wC cI cO q (bput (bput u 11 0 4) 11 1 (((bput u 11 0 4) 11 1) + 1))) H := hP
    refine lv_aload_n hx hb dX1_keep_49 rfl (lv_at hl 0 rfl) ?_
    refine bcall_Rr (va_runV (As := []) (rest := []) ⟨hx, hb, hml, hown, hts⟩ (C1_latestState_4 l D cI cO q _ _ hP  rfl) (cwV 0 hts gX1_keep_X1_latestState rfl rfl rfl ⟨rfl, bd_X1latestState⟩ ⟨Nat.le_of_ble_eq_true rfl, Nat.le_of_ble_eq_true rfl⟩) (bPV hk (va_recv hk.1 hP (ci := 1) (q0 := 5) rfl (wC_5 _ _ _ _))) rfl rfl hl.1 rfl (lv_room (Nat.le_of_ble_eq_true rfl)) dX1_keep_50 ⟨Nat.zero_le _, Nat.zero_le _⟩) hS (fun locs hS => ?_)
    refine lv_astore_n (lv' := [(2, .ref (q 11)), (0, .ref (q 5)), (1, .ref (q 3))]) hx hb dX1_keep_53 rfl hl (by decide) rfl (fun ls hl => ?_)
    refine lv_aload_n hx hb dX1_keep_54 rfl (lv_at hl 0 rfl) ?_
    refine lv_ifnull hx hb dX1_keep_55 ?_
    refine lv_aload_n hx hb dX1_keep_58 rfl (lv_at hl 0 rfl) ?_
    refine lv_aload_n hx hb dX1_keep_59 rfl (lv_at hl 2 rfl) ?_
    refine bcall_Wv (va_runVN (As := [.ref (q 3)]) (rest := []) ⟨hx, hb, hml, hown, hts⟩ (C2_copyFromS_4 l D cI cO q _ _ hq hP ) ⟨va_cnB 1 hts gX1_keep_X2_copyFrom_n27 rfl rfl rfl (hk.2 (.methodLinkNest RX1 27 yX2_copyFrom RX5) (List.mem_of_getElem? (i := 10) rfl)) (hts (.initialized RX2) (List.mem_of_getElem? (i := 10) rfl)) bd_X2copyFrom ⟨Nat.le_of_ble_eq_true rfl, Nat.le_of_ble_eq_true rfl⟩, (hts (.instanceMethod yX2_copyFrom) (List.mem_of_getElem? (i := 9) rfl)), (hts (.selects RX2 yX2_copyFrom yX2_copyFrom) (List.mem_of_getElem? (i := 11) rfl))⟩ (bPV hk (va_recv hk.1 hP (ci := 2) (q0 := 11) rfl (wC_11 _ _ _ _))) rfl rfl hl.1 rfl (lv_room (Nat.le_of_ble_eq_true rfl)) dX1_keep_60 ⟨Nat.zero_le _, Nat.zero_le _⟩) hS (fun H locs hP _ hS => ?_)
    exact bret_Wv hx hb hr hP trivial hS hlocks dX1_keep_63 (by rw [← hF, F1_keep_3, if_neg c_1])
def F1_giveBack_3 (u : bU) : bU := (if (u 11 1) ≤ 0 then u else (bput (bput (F2_copyFromN_3 u) 11 0 2) 11 1 (((bput (F2_copyFromN_3 u) 11 0 2) 11 1) - 1)))
set_option maxHeartbeats 4000000 in
set_option maxRecDepth 100000 in
theorem C1_giveBack_3 (l : Launch) (D : va_G) (cI cO : ClassId) (q : Nat → Nat) (u : bU) (H0 : Heap) (hq : bInj 23 q) (hP : va_P D vwCl (wC cI cO q u) H0) (hlat : u 11 0 = 3) : Met l yX1_giveBack wsX1_giveBack ({ frames := 2, cells := 0, slots := 0, locals := 221 }) (bP D [(cI, .int), (cO, .object RX2)] H0 [.ref (q 5), .ref (q 3)]) (bWv D (wC cI cO q) bT (bA 23 q H0.size) (F1_giveBack_3 u)) 0 0 (bA 23 q H0.size) := by
  refine Met.ofW (cc := cX1_giveBack) (maxL := 2) (ret := none) (by decide) rfl ?_
  intro p e s m args below meth c s₁ B hml hv
  obtain ⟨rfl, hH, hk⟩ := hv
  subst hH
  have hx := B.exec
  have hb := B.bytes
  have hr := B.returns
  have hts := atoms_spec (ws := wsX1_giveBack) B.pre
  have hown : s.vm.findClass RX1 = some m.cls := findClass_of_methodNamed B.named
  have hlocks := B.notSynchronized
  have iX1 : ∀ w ∈ wsX10, w ∈ wsX1_giveBack := by decide +kernel
  have hS : va_S (bA 23 q s.heap.size) s.heap s.heap [] := va_S.rf
  have hl := lv_entry ([.ref (q 5), .ref (q 3)]) (n := 2) (Nat.le_of_ble_eq_true rfl)
  rw [lg_entry_eq]
  generalize (lg_sl ([.ref (q 5), .ref (q 3)]) ++ List.replicate (2 - (lg_sl ([.ref (q 5), .ref (q 3)])).length) Slot.unset).toArray = ls at hl ⊢
  have hl : lv_has ls 2 [(0, .ref (q 5)), (1, .ref (q 3))] := hl
  generalize hF : F1_giveBack_3 u = tgt
  refine lv_aload_n hx hb dX1_giveBack_0 rfl (lv_at hl 1 rfl) ?_
  refine lv_ifnull hx hb dX1_giveBack_1 ?_
  refine lv_aload_n hx hb dX1_giveBack_4 rfl (lv_at hl 0 rfl) ?_
  refine va_get (D := D) (ci := 1) (C := RX1) (T := TX1) (N := 3) hx hb hts iX1 hown hk.1 hP 5 (wC_5 _ _ _ _) rfl 2 (by decide) (hts (.fieldLink RX1 16 "BottleLoop$Past" "kept" "I") (List.mem_of_getElem? (i := 1) rfl)) (fun _ h9 => h9) rfl dX1_giveBack_5 ?_
  refine lv_if_le (tgt := 50) hx hb dX1_giveBack_8 (by decide) (fun c_1 => ?_) (fun c_1 => ?_)
  · exact bret_Wv hx hb hr hP trivial hS hlocks dX1_giveBack_50 (by rw [← hF, F1_giveBack_3, if_pos c_1])
  · refine lv_aload_n hx hb dX1_giveBack_11 rfl (lv_at hl 1 rfl) ?_
    refine lv_aload_n hx hb dX1_giveBack_12 rfl (lv_at hl 0 rfl) ?_
    refine bcall_Rr (va_runV (As := []) (rest := [.ref (q 3)]) ⟨hx, hb, hml, hown, hts⟩ (C1_latestState_3 l D cI cO q _ _ hP  hlat) (cwV 0 hts gX1_giveBack_X1_latestState rfl rfl rfl ⟨rfl, bd_X1latestState⟩ ⟨Nat.le_of_ble_eq_true rfl, Nat.le_of_ble_eq_true rfl⟩) (bPV hk (va_recv hk.1 hP (ci := 1) (q0 := 5) rfl (wC_5 _ _ _ _))) rfl rfl hl.1 rfl (lv_room (Nat.le_of_ble_eq_true rfl)) dX1_giveBack_13 ⟨Nat.zero_le _, Nat.zero_le _⟩) hS (fun locs hS => ?_)
    refine bcall_Wv (va_runVN (As := [.ref (q 10)]) (rest := []) ⟨hx, hb, hml, hown, hts⟩ (C2_copyFromN_3 l D cI cO q _ _ hq hP ) ⟨va_cnB 1 hts gX1_giveBack_X2_copyFrom_n27 rfl rfl rfl (hk.2 (.methodLinkNest RX1 27 yX2_copyFrom RX5) (List.mem_of_getElem? (i := 10) rfl)) (hts (.initialized RX2) (List.mem_of_getElem? (i := 10) rfl)) bd_X2copyFrom ⟨Nat.le_of_ble_eq_true rfl, Nat.le_of_ble_eq_true rfl⟩, (hts (.instanceMethod yX2_copyFrom) (List.mem_of_getElem? (i := 9) rfl)), (hts (.selects RX2 yX2_copyFrom yX2_copyFrom) (List.mem_of_getElem? (i := 11) rfl))⟩ (bPV hk (va_recv hk.1 hP (ci := 2) (q0 := 3) rfl (wC_3 _ _ _ _))) rfl rfl hl.1 rfl (lv_room (Nat.le_of_ble_eq_true rfl)) dX1_giveBack_16 ⟨Nat.zero_le _, Nat.zero_le _⟩) hS (fun H locs hP _ hS => ?_)
    refine lv_aload_n hx hb dX1_giveBack_19 rfl (lv_at hl 0 rfl) ?_
    refine lv_aload_n hx hb dX1_giveBack_20 rfl (lv_at hl 0 rfl) ?_
    refine va_get (D := D) (ci := 1) (C := RX1) (T := TX1) (N := 3) hx hb hts iX1 hown hk.1 hP 5 (wC_5 _ _ _ _) rfl 1 (by decide) (hts (.fieldLink RX1 20 "BottleLoop$Past" "latest" "I") (List.mem_of_getElem? (i := 2) rfl)) (fun _ h9 => h9) rfl dX1_giveBack_21 ?_
    refine lv_topi (fun z9 hz9 => ?_)
    obtain rfl : z9 = 3 := hz9.trans hlat
    refine lv_if_le (tgt := 36) hx hb dX1_giveBack_24 (by decide) (fun h9 => absurd h9 (by decide)) (fun _ => ?_)
    refine lv_aload_n hx hb dX1_giveBack_27 rfl (lv_at hl 0 rfl) ?_
    refine va_get (D := D) (ci := 1) (C := RX1) (T := TX1) (N := 3) hx hb hts iX1 hown hk.1 hP 5 (wC_5 _ _ _ _) rfl 1 (by decide) (hts (.fieldLink RX1 20 "BottleLoop$Past" "latest" "I") (List.mem_of_getElem? (i := 2) rfl)) (fun _ h9 => h9) rfl dX1_giveBack_28 ?_
    refine lv_topi (fun z9 hz9 => ?_)
    obtain rfl : z9 = 3 := hz9.trans hlat
    refine lv_iconst (v := 1) hx hb dX1_giveBack_31 (by decide) ?_
    refine lv_isub hx hb dX1_giveBack_32 ?_
    refine lv_topi (fun z9 hz9 => ?_)
    obtain rfl : z9 = 2 := hz9.trans (by decide)
    refine lv_goto (tgt := 37) hx hb dX1_giveBack_33 (by decide) ?_
    refine va_put (D := D) (ci := 1) (v := .int 2) (ty := .int) (C := RX1) (T := TX1) (N := 3) hx hb hts iX1 tyX1 tyX1_ok nmX1 hown hk.1 hP (wC_D hq) hS 5 (wC_5 _ _ _ _) rfl 1 (by decide) (hts (.fieldLink RX1 20 "BottleLoop$Past" "latest" "I") (List.mem_of_getElem? (i := 2) rfl)) (fun _ h9 => h9) rfl (by decide +kernel) rfl rfl (Nat.le_of_ble_eq_true rfl) dX1_giveBack_37 (fun H locs hP _ hS => ?_)
    have hP : va_P D vwCl (wC cI cO q (bput (F2_copyFromN_3 u) 11 0 2)) H := hP
    refine lv_aload_n hx hb dX1_giveBack_40 rfl (lv_at hl 0 rfl) ?_
    refine lv_dup hx hb dX1_giveBack_41 rfl ?_
    refine va_get (D := D) (ci := 1) (C := RX1) (T := TX1) (N := 3) hx hb hts iX1 hown hk.1 hP 5 (wC_5 _ _ _ _) rfl 2 (by decide) (hts (.fieldLink RX1 16 "BottleLoop$Past" "kept" "I") (List.mem_of_getElem? (i := 1) rfl)) (fun _ h9 => h9) rfl dX1_giveBack_42 ?_
    refine lv_iconst (v := 1) hx hb dX1_giveBack_45 (by decide) ?_
    refine lv_isub hx hb dX1_giveBack_46 ?_
    refine va_put (D := D) (ci := 1) (v := .int (((bput (F2_copyFromN_3 u) 11 0 2) 11 1) - 1)) (ty := .int) (C := RX1) (T := TX1) (N := 3) hx hb hts iX1 tyX1 tyX1_ok nmX1 hown hk.1 hP (wC_D hq) hS 5 (wC_5 _ _ _ _) rfl 2 (by decide) (hts (.fieldLink RX1 16 "BottleLoop$Past" "kept" "I") (List.mem_of_getElem? (i := 1) rfl)) (fun _ h9 => h9) rfl (by decide +kernel) rfl rfl (Nat.le_of_ble_eq_true rfl) dX1_giveBack_47 (fun H locs hP _ hS => ?_)
    have hP : va_P D vwCl (wC cI cO q (bput (bput (F2_copyFromN_3 u) 11 0 2) 11 1 (((bput (F2_copyFromN_3 u) 11 0 2) 11 1) - 1))) H := hP
    exact bret_Wv hx hb hr hP trivial hS hlocks dX1_giveBack_50 (by rw [← hF, F1_giveBack_3, if_neg c_1])
def F1_keep_4 (u : bU) : bU := (if (6 : Int32) ≤ ((bput u 11 0 5) 11 1) then (F2_copyFromS_5 (bput (bput u 11 0 5) 11 1 6)) else (F2_copyFromS_5 (bput (bput u 11 0 5) 11 1 (((bput u 11 0 5) 11 1) + 1))))
set_option maxHeartbeats 4000000 in
set_option maxRecDepth 100000 in
theorem C1_keep_4 (l : Launch) (D : va_G) (cI cO : ClassId) (q : Nat → Nat) (u : bU) (H0 : Heap) (hq : bInj 23 q) (hP : va_P D vwCl (wC cI cO q u) H0) (hlat : u 11 0 = 4) : Met l yX1_keep wsX1_keep ({ frames := 2, cells := 0, slots := 0, locals := 221 }) (bP D [(cI, .int), (cO, .object RX2)] H0 [.ref (q 5), .ref (q 3)]) (bWv D (wC cI cO q) bT (bA 23 q H0.size) (F1_keep_4 u)) 0 0 (bA 23 q H0.size) := by
  refine Met.ofW (cc := cX1_keep) (maxL := 3) (ret := none) (by decide) rfl ?_
  intro p e s m args below meth c s₁ B hml hv
  obtain ⟨rfl, hH, hk⟩ := hv
  subst hH
  have hx := B.exec
  have hb := B.bytes
  have hr := B.returns
  have hts := atoms_spec (ws := wsX1_keep) B.pre
  have hown : s.vm.findClass RX1 = some m.cls := findClass_of_methodNamed B.named
  have hlocks := B.notSynchronized
  have iX1 : ∀ w ∈ wsX10, w ∈ wsX1_keep := by decide +kernel
  have hS : va_S (bA 23 q s.heap.size) s.heap s.heap [] := va_S.rf
  have hl := lv_entry ([.ref (q 5), .ref (q 3)]) (n := 3) (Nat.le_of_ble_eq_true rfl)
  rw [lg_entry_eq]
  generalize (lg_sl ([.ref (q 5), .ref (q 3)]) ++ List.replicate (3 - (lg_sl ([.ref (q 5), .ref (q 3)])).length) Slot.unset).toArray = ls at hl ⊢
  have hl : lv_has ls 3 [(0, .ref (q 5)), (1, .ref (q 3))] := hl
  generalize hF : F1_keep_4 u = tgt
  refine lv_aload_n hx hb dX1_keep_0 rfl (lv_at hl 0 rfl) ?_
  refine lv_aload_n hx hb dX1_keep_1 rfl (lv_at hl 0 rfl) ?_
  refine va_get (D := D) (ci := 1) (C := RX1) (T := TX1) (N := 3) hx hb hts iX1 hown hk.1 hP 5 (wC_5 _ _ _ _) rfl 1 (by decide) (hts (.fieldLink RX1 20 "BottleLoop$Past" "latest" "I") (List.mem_of_getElem? (i := 1) rfl)) (fun _ h9 => h9) rfl dX1_keep_2 ?_
  refine lv_topi (fun z9 hz9 => ?_)
  obtain rfl : z9 = 4 := hz9.trans hlat
  refine lv_iconst (v := 1) hx hb dX1_keep_5 (by decide) ?_
  refine lv_iadd hx hb dX1_keep_6 ?_
  refine lv_topi (fun z9 hz9 => ?_)
  obtain rfl : z9 = 5 := hz9.trans (by decide)
  refine lv_bipush (v := 6) hx hb dX1_keep_7 (by decide) ?_
  refine lv_icmp_ge (tgt := 21) hx hb dX1_keep_9 (by decide) (fun h9 => absurd h9 (by decide)) (fun _ => ?_)
  refine lv_aload_n hx hb dX1_keep_12 rfl (lv_at hl 0 rfl) ?_
  refine va_get (D := D) (ci := 1) (C := RX1) (T := TX1) (N := 3) hx hb hts iX1 hown hk.1 hP 5 (wC_5 _ _ _ _) rfl 1 (by decide) (hts (.fieldLink RX1 20 "BottleLoop$Past" "latest" "I") (List.mem_of_getElem? (i := 1) rfl)) (fun _ h9 => h9) rfl dX1_keep_13 ?_
  refine lv_topi (fun z9 hz9 => ?_)
  obtain rfl : z9 = 4 := hz9.trans hlat
  refine lv_iconst (v := 1) hx hb dX1_keep_16 (by decide) ?_
  refine lv_iadd hx hb dX1_keep_17 ?_
  refine lv_topi (fun z9 hz9 => ?_)
  obtain rfl : z9 = 5 := hz9.trans (by decide)
  refine lv_goto (tgt := 22) hx hb dX1_keep_18 (by decide) ?_
  refine va_put (D := D) (ci := 1) (v := .int 5) (ty := .int) (C := RX1) (T := TX1) (N := 3) hx hb hts iX1 tyX1 tyX1_ok nmX1 hown hk.1 hP (wC_D hq) hS 5 (wC_5 _ _ _ _) rfl 1 (by decide) (hts (.fieldLink RX1 20 "BottleLoop$Past" "latest" "I") (List.mem_of_getElem? (i := 1) rfl)) (fun _ h9 => h9) rfl (by decide +kernel) rfl rfl (Nat.le_of_ble_eq_true rfl) dX1_keep_22 (fun H locs hP _ hS => ?_)
  have hP : va_P D vwCl (wC cI cO q (bput u 11 0 5)) H := hP
  refine lv_aload_n hx hb dX1_keep_25 rfl (lv_at hl 0 rfl) ?_
  refine lv_aload_n hx hb dX1_keep_26 rfl (lv_at hl 0 rfl) ?_
  refine va_get (D := D) (ci := 1) (C := RX1) (T := TX1) (N := 3) hx hb hts iX1 hown hk.1 hP 5 (wC_5 _ _ _ _) rfl 2 (by decide) (hts (.fieldLink RX1 16 "BottleLoop$Past" "kept" "I") (List.mem_of_getElem? (i := 2) rfl)) (fun _ h9 => h9) rfl dX1_keep_27 ?_
  refine lv_bipush (v := 6) hx hb dX1_keep_30 (by decide) ?_
  refine lv_icmp_ge (tgt := 44) hx hb dX1_keep_32 (by decide) (fun c_1 => ?_) (fun c_1 => ?_)
  · refine lv_bipush (v := 6) hx hb dX1_keep_44 (by decide) ?_
    refine va_put (D := D) (ci := 1) (v := .int 6) (ty := .int) (C := RX1) (T := TX1) (N := 3) hx hb hts iX1 tyX1 tyX1_ok nmX1 hown hk.1 hP (wC_D hq) hS 5 (wC_5 _ _ _ _) rfl 2 (by decide) (hts (.fieldLink RX1 16 "BottleLoop$Past" "kept" "I") (List.mem_of_getElem? (i := 2) rfl)) (fun _ h9 => h9) rfl (by decide +kernel) rfl rfl (Nat.le_of_ble_eq_true rfl) dX1_keep_46 (fun H locs hP _ hS => ?_)
    have hP : va_P D vwCl (wC cI cO q (bput (bput u 11 0 5) 11 1 6)) H := hP
    refine lv_aload_n hx hb dX1_keep_49 rfl (lv_at hl 0 rfl) ?_
    refine bcall_Rr (va_runV (As := []) (rest := []) ⟨hx, hb, hml, hown, hts⟩ (C1_latestState_5 l D cI cO q _ _ hP  rfl) (cwV 0 hts gX1_keep_X1_latestState rfl rfl rfl ⟨rfl, bd_X1latestState⟩ ⟨Nat.le_of_ble_eq_true rfl, Nat.le_of_ble_eq_true rfl⟩) (bPV hk (va_recv hk.1 hP (ci := 1) (q0 := 5) rfl (wC_5 _ _ _ _))) rfl rfl hl.1 rfl (lv_room (Nat.le_of_ble_eq_true rfl)) dX1_keep_50 ⟨Nat.zero_le _, Nat.zero_le _⟩) hS (fun locs hS => ?_)
    refine lv_astore_n (lv' := [(2, .ref (q 12)), (0, .ref (q 5)), (1, .ref (q 3))]) hx hb dX1_keep_53 rfl hl (by decide) rfl (fun ls hl => ?_)
    refine lv_aload_n hx hb dX1_keep_54 rfl (lv_at hl 0 rfl) ?_
    refine lv_ifnull hx hb dX1_keep_55 ?_
    refine lv_aload_n hx hb dX1_keep_58 rfl (lv_at hl 0 rfl) ?_
    refine lv_aload_n hx hb dX1_keep_59 rfl (lv_at hl 2 rfl) ?_
    refine bcall_Wv (va_runVN (As := [.ref (q 3)]) (rest := []) ⟨hx, hb, hml, hown, hts⟩ (C2_copyFromS_5 l D cI cO q _ _ hq hP ) ⟨va_cnB 1 hts gX1_keep_X2_copyFrom_n27 rfl rfl rfl (hk.2 (.methodLinkNest RX1 27 yX2_copyFrom RX5) (List.mem_of_getElem? (i := 10) rfl)) (hts (.initialized RX2) (List.mem_of_getElem? (i := 10) rfl)) bd_X2copyFrom ⟨Nat.le_of_ble_eq_true rfl, Nat.le_of_ble_eq_true rfl⟩, (hts (.instanceMethod yX2_copyFrom) (List.mem_of_getElem? (i := 9) rfl)), (hts (.selects RX2 yX2_copyFrom yX2_copyFrom) (List.mem_of_getElem? (i := 11) rfl))⟩ (bPV hk (va_recv hk.1 hP (ci := 2) (q0 := 12) rfl (wC_12 _ _ _ _))) rfl rfl hl.1 rfl (lv_room (Nat.le_of_ble_eq_true rfl)) dX1_keep_60 ⟨Nat.zero_le _, Nat.zero_le _⟩) hS (fun H locs hP _ hS => ?_)
    exact bret_Wv hx hb hr hP trivial hS hlocks dX1_keep_63 (by rw [← hF, F1_keep_4, if_pos c_1])
  · refine lv_aload_n hx hb dX1_keep_35 rfl (lv_at hl 0 rfl) ?_
    refine va_get (D := D) (ci := 1) (C := RX1) (T := TX1) (N := 3) hx hb hts iX1 hown hk.1 hP 5 (wC_5 _ _ _ _) rfl 2 (by decide) (hts (.fieldLink RX1 16 "BottleLoop$Past" "kept" "I") (List.mem_of_getElem? (i := 2) rfl)) (fun _ h9 => h9) rfl dX1_keep_36 ?_
    refine lv_iconst (v := 1) hx hb dX1_keep_39 (by decide) ?_
    refine lv_iadd hx hb dX1_keep_40 ?_
    refine lv_goto (tgt := 46) hx hb dX1_keep_41 (by decide) ?_
    refine va_put (D := D) (ci := 1) (v := .int (((bput u 11 0 5) 11 1) + 1)) (ty := .int) (C := RX1) (T := TX1) (N := 3) hx hb hts iX1 tyX1 tyX1_ok nmX1 hown hk.1 hP (wC_D hq) hS 5 (wC_5 _ _ _ _) rfl 2 (by decide) (hts (.fieldLink RX1 16 "BottleLoop$Past" "kept" "I") (List.mem_of_getElem? (i := 2) rfl)) (fun _ h9 => h9) rfl (by decide +kernel) rfl rfl (Nat.le_of_ble_eq_true rfl) dX1_keep_46 (fun H locs hP _ hS => ?_)
    have hP : va_P D vwCl (wC cI cO q (bput (bput u 11 0 5) 11 1 (((bput u 11 0 5) 11 1) + 1))) H := hP
    refine lv_aload_n hx hb dX1_keep_49 rfl (lv_at hl 0 rfl) ?_
    refine bcall_Rr (va_runV (As := []) (rest := []) ⟨hx, hb, hml, hown, hts⟩ (C1_latestState_5 l D cI cO q _ _ hP  rfl) (cwV 0 hts gX1_keep_X1_latestState rfl rfl rfl ⟨rfl, bd_X1latestState⟩ ⟨Nat.le_of_ble_eq_true rfl, Nat.le_of_ble_eq_true rfl⟩) (bPV hk (va_recv hk.1 hP (ci := 1) (q0 := 5) rfl (wC_5 _ _ _ _))) rfl rfl hl.1 rfl (lv_room (Nat.le_of_ble_eq_true rfl)) dX1_keep_50 ⟨Nat.zero_le _, Nat.zero_le _⟩) hS (fun locs hS => ?_)
    refine lv_astore_n (lv' := [(2, .ref (q 12)), (0, .ref (q 5)), (1, .ref (q 3))]) hx hb dX1_keep_53 rfl hl (by decide) rfl (fun ls hl => ?_)
    refine lv_aload_n hx hb dX1_keep_54 rfl (lv_at hl 0 rfl) ?_
    refine lv_ifnull hx hb dX1_keep_55 ?_
    refine lv_aload_n hx hb dX1_keep_58 rfl (lv_at hl 0 rfl) ?_
    refine lv_aload_n hx hb dX1_keep_59 rfl (lv_at hl 2 rfl) ?_
    refine bcall_Wv (va_runVN (As := [.ref (q 3)]) (rest := []) ⟨hx, hb, hml, hown, hts⟩ (C2_copyFromS_5 l D cI cO q _ _ hq hP ) ⟨va_cnB 1 hts gX1_keep_X2_copyFrom_n27 rfl rfl rfl (hk.2 (.methodLinkNest RX1 27 yX2_copyFrom RX5) (List.mem_of_getElem? (i := 10) rfl)) (hts (.initialized RX2) (List.mem_of_getElem? (i := 10) rfl)) bd_X2copyFrom ⟨Nat.le_of_ble_eq_true rfl, Nat.le_of_ble_eq_true rfl⟩, (hts (.instanceMethod yX2_copyFrom) (List.mem_of_getElem? (i := 9) rfl)), (hts (.selects RX2 yX2_copyFrom yX2_copyFrom) (List.mem_of_getElem? (i := 11) rfl))⟩ (bPV hk (va_recv hk.1 hP (ci := 2) (q0 := 12) rfl (wC_12 _ _ _ _))) rfl rfl hl.1 rfl (lv_room (Nat.le_of_ble_eq_true rfl)) dX1_keep_60 ⟨Nat.zero_le _, Nat.zero_le _⟩) hS (fun H locs hP _ hS => ?_)
    exact bret_Wv hx hb hr hP trivial hS hlocks dX1_keep_63 (by rw [← hF, F1_keep_4, if_neg c_1])
def F1_giveBack_4 (u : bU) : bU := (if (u 11 1) ≤ 0 then u else (bput (bput (F2_copyFromN_4 u) 11 0 3) 11 1 (((bput (F2_copyFromN_4 u) 11 0 3) 11 1) - 1)))
set_option maxHeartbeats 4000000 in
set_option maxRecDepth 100000 in
theorem C1_giveBack_4 (l : Launch) (D : va_G) (cI cO : ClassId) (q : Nat → Nat) (u : bU) (H0 : Heap) (hq : bInj 23 q) (hP : va_P D vwCl (wC cI cO q u) H0) (hlat : u 11 0 = 4) : Met l yX1_giveBack wsX1_giveBack ({ frames := 2, cells := 0, slots := 0, locals := 221 }) (bP D [(cI, .int), (cO, .object RX2)] H0 [.ref (q 5), .ref (q 3)]) (bWv D (wC cI cO q) bT (bA 23 q H0.size) (F1_giveBack_4 u)) 0 0 (bA 23 q H0.size) := by
  refine Met.ofW (cc := cX1_giveBack) (maxL := 2) (ret := none) (by decide) rfl ?_
  intro p e s m args below meth c s₁ B hml hv
  obtain ⟨rfl, hH, hk⟩ := hv
  subst hH
  have hx := B.exec
  have hb := B.bytes
  have hr := B.returns
  have hts := atoms_spec (ws := wsX1_giveBack) B.pre
  have hown : s.vm.findClass RX1 = some m.cls := findClass_of_methodNamed B.named
  have hlocks := B.notSynchronized
  have iX1 : ∀ w ∈ wsX10, w ∈ wsX1_giveBack := by decide +kernel
  have hS : va_S (bA 23 q s.heap.size) s.heap s.heap [] := va_S.rf
  have hl := lv_entry ([.ref (q 5), .ref (q 3)]) (n := 2) (Nat.le_of_ble_eq_true rfl)
  rw [lg_entry_eq]
  generalize (lg_sl ([.ref (q 5), .ref (q 3)]) ++ List.replicate (2 - (lg_sl ([.ref (q 5), .ref (q 3)])).length) Slot.unset).toArray = ls at hl ⊢
  have hl : lv_has ls 2 [(0, .ref (q 5)), (1, .ref (q 3))] := hl
  generalize hF : F1_giveBack_4 u = tgt
  refine lv_aload_n hx hb dX1_giveBack_0 rfl (lv_at hl 1 rfl) ?_
  refine lv_ifnull hx hb dX1_giveBack_1 ?_
  refine lv_aload_n hx hb dX1_giveBack_4 rfl (lv_at hl 0 rfl) ?_
  refine va_get (D := D) (ci := 1) (C := RX1) (T := TX1) (N := 3) hx hb hts iX1 hown hk.1 hP 5 (wC_5 _ _ _ _) rfl 2 (by decide) (hts (.fieldLink RX1 16 "BottleLoop$Past" "kept" "I") (List.mem_of_getElem? (i := 1) rfl)) (fun _ h9 => h9) rfl dX1_giveBack_5 ?_
  refine lv_if_le (tgt := 50) hx hb dX1_giveBack_8 (by decide) (fun c_1 => ?_) (fun c_1 => ?_)
  · exact bret_Wv hx hb hr hP trivial hS hlocks dX1_giveBack_50 (by rw [← hF, F1_giveBack_4, if_pos c_1])
  · refine lv_aload_n hx hb dX1_giveBack_11 rfl (lv_at hl 1 rfl) ?_
    refine lv_aload_n hx hb dX1_giveBack_12 rfl (lv_at hl 0 rfl) ?_
    refine bcall_Rr (va_runV (As := []) (rest := [.ref (q 3)]) ⟨hx, hb, hml, hown, hts⟩ (C1_latestState_4 l D cI cO q _ _ hP  hlat) (cwV 0 hts gX1_giveBack_X1_latestState rfl rfl rfl ⟨rfl, bd_X1latestState⟩ ⟨Nat.le_of_ble_eq_true rfl, Nat.le_of_ble_eq_true rfl⟩) (bPV hk (va_recv hk.1 hP (ci := 1) (q0 := 5) rfl (wC_5 _ _ _ _))) rfl rfl hl.1 rfl (lv_room (Nat.le_of_ble_eq_true rfl)) dX1_giveBack_13 ⟨Nat.zero_le _, Nat.zero_le _⟩) hS (fun locs hS => ?_)
    refine bcall_Wv (va_runVN (As := [.ref (q 11)]) (rest := []) ⟨hx, hb, hml, hown, hts⟩ (C2_copyFromN_4 l D cI cO q _ _ hq hP ) ⟨va_cnB 1 hts gX1_giveBack_X2_copyFrom_n27 rfl rfl rfl (hk.2 (.methodLinkNest RX1 27 yX2_copyFrom RX5) (List.mem_of_getElem? (i := 10) rfl)) (hts (.initialized RX2) (List.mem_of_getElem? (i := 10) rfl)) bd_X2copyFrom ⟨Nat.le_of_ble_eq_true rfl, Nat.le_of_ble_eq_true rfl⟩, (hts (.instanceMethod yX2_copyFrom) (List.mem_of_getElem? (i := 9) rfl)), (hts (.selects RX2 yX2_copyFrom yX2_copyFrom) (List.mem_of_getElem? (i := 11) rfl))⟩ (bPV hk (va_recv hk.1 hP (ci := 2) (q0 := 3) rfl (wC_3 _ _ _ _))) rfl rfl hl.1 rfl (lv_room (Nat.le_of_ble_eq_true rfl)) dX1_giveBack_16 ⟨Nat.zero_le _, Nat.zero_le _⟩) hS (fun H locs hP _ hS => ?_)
    refine lv_aload_n hx hb dX1_giveBack_19 rfl (lv_at hl 0 rfl) ?_
    refine lv_aload_n hx hb dX1_giveBack_20 rfl (lv_at hl 0 rfl) ?_
    refine va_get (D := D) (ci := 1) (C := RX1) (T := TX1) (N := 3) hx hb hts iX1 hown hk.1 hP 5 (wC_5 _ _ _ _) rfl 1 (by decide) (hts (.fieldLink RX1 20 "BottleLoop$Past" "latest" "I") (List.mem_of_getElem? (i := 2) rfl)) (fun _ h9 => h9) rfl dX1_giveBack_21 ?_
    refine lv_topi (fun z9 hz9 => ?_)
    obtain rfl : z9 = 4 := hz9.trans hlat
    refine lv_if_le (tgt := 36) hx hb dX1_giveBack_24 (by decide) (fun h9 => absurd h9 (by decide)) (fun _ => ?_)
    refine lv_aload_n hx hb dX1_giveBack_27 rfl (lv_at hl 0 rfl) ?_
    refine va_get (D := D) (ci := 1) (C := RX1) (T := TX1) (N := 3) hx hb hts iX1 hown hk.1 hP 5 (wC_5 _ _ _ _) rfl 1 (by decide) (hts (.fieldLink RX1 20 "BottleLoop$Past" "latest" "I") (List.mem_of_getElem? (i := 2) rfl)) (fun _ h9 => h9) rfl dX1_giveBack_28 ?_
    refine lv_topi (fun z9 hz9 => ?_)
    obtain rfl : z9 = 4 := hz9.trans hlat
    refine lv_iconst (v := 1) hx hb dX1_giveBack_31 (by decide) ?_
    refine lv_isub hx hb dX1_giveBack_32 ?_
    refine lv_topi (fun z9 hz9 => ?_)
    obtain rfl : z9 = 3 := hz9.trans (by decide)
    refine lv_goto (tgt := 37) hx hb dX1_giveBack_33 (by decide) ?_
    refine va_put (D := D) (ci := 1) (v := .int 3) (ty := .int) (C := RX1) (T := TX1) (N := 3) hx hb hts iX1 tyX1 tyX1_ok nmX1 hown hk.1 hP (wC_D hq) hS 5 (wC_5 _ _ _ _) rfl 1 (by decide) (hts (.fieldLink RX1 20 "BottleLoop$Past" "latest" "I") (List.mem_of_getElem? (i := 2) rfl)) (fun _ h9 => h9) rfl (by decide +kernel) rfl rfl (Nat.le_of_ble_eq_true rfl) dX1_giveBack_37 (fun H locs hP _ hS => ?_)
    have hP : va_P D vwCl (wC cI cO q (bput (F2_copyFromN_4 u) 11 0 3)) H := hP
    refine lv_aload_n hx hb dX1_giveBack_40 rfl (lv_at hl 0 rfl) ?_
    refine lv_dup hx hb dX1_giveBack_41 rfl ?_
    refine va_get (D := D) (ci := 1) (C := RX1) (T := TX1) (N := 3) hx hb hts iX1 hown hk.1 hP 5 (wC_5 _ _ _ _) rfl 2 (by decide) (hts (.fieldLink RX1 16 "BottleLoop$Past" "kept" "I") (List.mem_of_getElem? (i := 1) rfl)) (fun _ h9 => h9) rfl dX1_giveBack_42 ?_
    refine lv_iconst (v := 1) hx hb dX1_giveBack_45 (by decide) ?_
    refine lv_isub hx hb dX1_giveBack_46 ?_
    refine va_put (D := D) (ci := 1) (v := .int (((bput (F2_copyFromN_4 u) 11 0 3) 11 1) - 1)) (ty := .int) (C := RX1) (T := TX1) (N := 3) hx hb hts iX1 tyX1 tyX1_ok nmX1 hown hk.1 hP (wC_D hq) hS 5 (wC_5 _ _ _ _) rfl 2 (by decide) (hts (.fieldLink RX1 16 "BottleLoop$Past" "kept" "I") (List.mem_of_getElem? (i := 1) rfl)) (fun _ h9 => h9) rfl (by decide +kernel) rfl rfl (Nat.le_of_ble_eq_true rfl) dX1_giveBack_47 (fun H locs hP _ hS => ?_)
    have hP : va_P D vwCl (wC cI cO q (bput (bput (F2_copyFromN_4 u) 11 0 3) 11 1 (((bput (F2_copyFromN_4 u) 11 0 3) 11 1) - 1))) H := hP
    exact bret_Wv hx hb hr hP trivial hS hlocks dX1_giveBack_50 (by rw [← hF, F1_giveBack_4, if_neg c_1])
def F1_keep_5 (u : bU) : bU := (if (6 : Int32) ≤ ((bput u 11 0 0) 11 1) then (F2_copyFromS_0 (bput (bput u 11 0 0) 11 1 6)) else (F2_copyFromS_0 (bput (bput u 11 0 0) 11 1 (((bput u 11 0 0) 11 1) + 1))))
set_option maxHeartbeats 4000000 in
set_option maxRecDepth 100000 in
theorem C1_keep_5 (l : Launch) (D : va_G) (cI cO : ClassId) (q : Nat → Nat) (u : bU) (H0 : Heap) (hq : bInj 23 q) (hP : va_P D vwCl (wC cI cO q u) H0) (hlat : u 11 0 = 5) : Met l yX1_keep wsX1_keep ({ frames := 2, cells := 0, slots := 0, locals := 221 }) (bP D [(cI, .int), (cO, .object RX2)] H0 [.ref (q 5), .ref (q 3)]) (bWv D (wC cI cO q) bT (bA 23 q H0.size) (F1_keep_5 u)) 0 0 (bA 23 q H0.size) := by
  refine Met.ofW (cc := cX1_keep) (maxL := 3) (ret := none) (by decide) rfl ?_
  intro p e s m args below meth c s₁ B hml hv
  obtain ⟨rfl, hH, hk⟩ := hv
  subst hH
  have hx := B.exec
  have hb := B.bytes
  have hr := B.returns
  have hts := atoms_spec (ws := wsX1_keep) B.pre
  have hown : s.vm.findClass RX1 = some m.cls := findClass_of_methodNamed B.named
  have hlocks := B.notSynchronized
  have iX1 : ∀ w ∈ wsX10, w ∈ wsX1_keep := by decide +kernel
  have hS : va_S (bA 23 q s.heap.size) s.heap s.heap [] := va_S.rf
  have hl := lv_entry ([.ref (q 5), .ref (q 3)]) (n := 3) (Nat.le_of_ble_eq_true rfl)
  rw [lg_entry_eq]
  generalize (lg_sl ([.ref (q 5), .ref (q 3)]) ++ List.replicate (3 - (lg_sl ([.ref (q 5), .ref (q 3)])).length) Slot.unset).toArray = ls at hl ⊢
  have hl : lv_has ls 3 [(0, .ref (q 5)), (1, .ref (q 3))] := hl
  generalize hF : F1_keep_5 u = tgt
  refine lv_aload_n hx hb dX1_keep_0 rfl (lv_at hl 0 rfl) ?_
  refine lv_aload_n hx hb dX1_keep_1 rfl (lv_at hl 0 rfl) ?_
  refine va_get (D := D) (ci := 1) (C := RX1) (T := TX1) (N := 3) hx hb hts iX1 hown hk.1 hP 5 (wC_5 _ _ _ _) rfl 1 (by decide) (hts (.fieldLink RX1 20 "BottleLoop$Past" "latest" "I") (List.mem_of_getElem? (i := 1) rfl)) (fun _ h9 => h9) rfl dX1_keep_2 ?_
  refine lv_topi (fun z9 hz9 => ?_)
  obtain rfl : z9 = 5 := hz9.trans hlat
  refine lv_iconst (v := 1) hx hb dX1_keep_5 (by decide) ?_
  refine lv_iadd hx hb dX1_keep_6 ?_
  refine lv_topi (fun z9 hz9 => ?_)
  obtain rfl : z9 = 6 := hz9.trans (by decide)
  refine lv_bipush (v := 6) hx hb dX1_keep_7 (by decide) ?_
  refine lv_icmp_ge (tgt := 21) hx hb dX1_keep_9 (by decide) (fun _ => ?_) (fun h9 => absurd (by decide) h9)
  refine lv_iconst (v := 0) hx hb dX1_keep_21 (by decide) ?_
  refine va_put (D := D) (ci := 1) (v := .int 0) (ty := .int) (C := RX1) (T := TX1) (N := 3) hx hb hts iX1 tyX1 tyX1_ok nmX1 hown hk.1 hP (wC_D hq) hS 5 (wC_5 _ _ _ _) rfl 1 (by decide) (hts (.fieldLink RX1 20 "BottleLoop$Past" "latest" "I") (List.mem_of_getElem? (i := 1) rfl)) (fun _ h9 => h9) rfl (by decide +kernel) rfl rfl (Nat.le_of_ble_eq_true rfl) dX1_keep_22 (fun H locs hP _ hS => ?_)
  have hP : va_P D vwCl (wC cI cO q (bput u 11 0 0)) H := hP
  refine lv_aload_n hx hb dX1_keep_25 rfl (lv_at hl 0 rfl) ?_
  refine lv_aload_n hx hb dX1_keep_26 rfl (lv_at hl 0 rfl) ?_
  refine va_get (D := D) (ci := 1) (C := RX1) (T := TX1) (N := 3) hx hb hts iX1 hown hk.1 hP 5 (wC_5 _ _ _ _) rfl 2 (by decide) (hts (.fieldLink RX1 16 "BottleLoop$Past" "kept" "I") (List.mem_of_getElem? (i := 2) rfl)) (fun _ h9 => h9) rfl dX1_keep_27 ?_
  refine lv_bipush (v := 6) hx hb dX1_keep_30 (by decide) ?_
  refine lv_icmp_ge (tgt := 44) hx hb dX1_keep_32 (by decide) (fun c_1 => ?_) (fun c_1 => ?_)
  · refine lv_bipush (v := 6) hx hb dX1_keep_44 (by decide) ?_
    refine va_put (D := D) (ci := 1) (v := .int 6) (ty := .int) (C := RX1) (T := TX1) (N := 3) hx hb hts iX1 tyX1 tyX1_ok nmX1 hown hk.1 hP (wC_D hq) hS 5 (wC_5 _ _ _ _) rfl 2 (by decide) (hts (.fieldLink RX1 16 "BottleLoop$Past" "kept" "I") (List.mem_of_getElem? (i := 2) rfl)) (fun _ h9 => h9) rfl (by decide +kernel) rfl rfl (Nat.le_of_ble_eq_true rfl) dX1_keep_46 (fun H locs hP _ hS => ?_)
    have hP : va_P D vwCl (wC cI cO q (bput (bput u 11 0 0) 11 1 6)) H := hP
    refine lv_aload_n hx hb dX1_keep_49 rfl (lv_at hl 0 rfl) ?_
    refine bcall_Rr (va_runV (As := []) (rest := []) ⟨hx, hb, hml, hown, hts⟩ (C1_latestState_0 l D cI cO q _ _ hP  rfl) (cwV 0 hts gX1_keep_X1_latestState rfl rfl rfl ⟨rfl, bd_X1latestState⟩ ⟨Nat.le_of_ble_eq_true rfl, Nat.le_of_ble_eq_true rfl⟩) (bPV hk (va_recv hk.1 hP (ci := 1) (q0 := 5) rfl (wC_5 _ _ _ _))) rfl rfl hl.1 rfl (lv_room (Nat.le_of_ble_eq_true rfl)) dX1_keep_50 ⟨Nat.zero_le _, Nat.zero_le _⟩) hS (fun locs hS => ?_)
    refine lv_astore_n (lv' := [(2, .ref (q 7)), (0, .ref (q 5)), (1, .ref (q 3))]) hx hb dX1_keep_53 rfl hl (by decide) rfl (fun ls hl => ?_)
    refine lv_aload_n hx hb dX1_keep_54 rfl (lv_at hl 0 rfl) ?_
    refine lv_ifnull hx hb dX1_keep_55 ?_
    refine lv_aload_n hx hb dX1_keep_58 rfl (lv_at hl 0 rfl) ?_
    refine lv_aload_n hx hb dX1_keep_59 rfl (lv_at hl 2 rfl) ?_
    refine bcall_Wv (va_runVN (As := [.ref (q 3)]) (rest := []) ⟨hx, hb, hml, hown, hts⟩ (C2_copyFromS_0 l D cI cO q _ _ hq hP ) ⟨va_cnB 1 hts gX1_keep_X2_copyFrom_n27 rfl rfl rfl (hk.2 (.methodLinkNest RX1 27 yX2_copyFrom RX5) (List.mem_of_getElem? (i := 10) rfl)) (hts (.initialized RX2) (List.mem_of_getElem? (i := 10) rfl)) bd_X2copyFrom ⟨Nat.le_of_ble_eq_true rfl, Nat.le_of_ble_eq_true rfl⟩, (hts (.instanceMethod yX2_copyFrom) (List.mem_of_getElem? (i := 9) rfl)), (hts (.selects RX2 yX2_copyFrom yX2_copyFrom) (List.mem_of_getElem? (i := 11) rfl))⟩ (bPV hk (va_recv hk.1 hP (ci := 2) (q0 := 7) rfl (wC_7 _ _ _ _))) rfl rfl hl.1 rfl (lv_room (Nat.le_of_ble_eq_true rfl)) dX1_keep_60 ⟨Nat.zero_le _, Nat.zero_le _⟩) hS (fun H locs hP _ hS => ?_)
    exact bret_Wv hx hb hr hP trivial hS hlocks dX1_keep_63 (by rw [← hF, F1_keep_5, if_pos c_1])
  · refine lv_aload_n hx hb dX1_keep_35 rfl (lv_at hl 0 rfl) ?_
    refine va_get (D := D) (ci := 1) (C := RX1) (T := TX1) (N := 3) hx hb hts iX1 hown hk.1 hP 5 (wC_5 _ _ _ _) rfl 2 (by decide) (hts (.fieldLink RX1 16 "BottleLoop$Past" "kept" "I") (List.mem_of_getElem? (i := 2) rfl)) (fun _ h9 => h9) rfl dX1_keep_36 ?_
    refine lv_iconst (v := 1) hx hb dX1_keep_39 (by decide) ?_
    refine lv_iadd hx hb dX1_keep_40 ?_
    refine lv_goto (tgt := 46) hx hb dX1_keep_41 (by decide) ?_
    refine va_put (D := D) (ci := 1) (v := .int (((bput u 11 0 0) 11 1) + 1)) (ty := .int) (C := RX1) (T := TX1) (N := 3) hx hb hts iX1 tyX1 tyX1_ok nmX1 hown hk.1 hP (wC_D hq) hS 5 (wC_5 _ _ _ _) rfl 2 (by decide) (hts (.fieldLink RX1 16 "BottleLoop$Past" "kept" "I") (List.mem_of_getElem? (i := 2) rfl)) (fun _ h9 => h9) rfl (by decide +kernel) rfl rfl (Nat.le_of_ble_eq_true rfl) dX1_keep_46 (fun H locs hP _ hS => ?_)
    have hP : va_P D vwCl (wC cI cO q (bput (bput u 11 0 0) 11 1 (((bput u 11 0 0) 11 1) + 1))) H := hP
    refine lv_aload_n hx hb dX1_keep_49 rfl (lv_at hl 0 rfl) ?_
    refine bcall_Rr (va_runV (As := []) (rest := []) ⟨hx, hb, hml, hown, hts⟩ (C1_latestState_0 l D cI cO q _ _ hP  rfl) (cwV 0 hts gX1_keep_X1_latestState rfl rfl rfl ⟨rfl, bd_X1latestState⟩ ⟨Nat.le_of_ble_eq_true rfl, Nat.le_of_ble_eq_true rfl⟩) (bPV hk (va_recv hk.1 hP (ci := 1) (q0 := 5) rfl (wC_5 _ _ _ _))) rfl rfl hl.1 rfl (lv_room (Nat.le_of_ble_eq_true rfl)) dX1_keep_50 ⟨Nat.zero_le _, Nat.zero_le _⟩) hS (fun locs hS => ?_)
    refine lv_astore_n (lv' := [(2, .ref (q 7)), (0, .ref (q 5)), (1, .ref (q 3))]) hx hb dX1_keep_53 rfl hl (by decide) rfl (fun ls hl => ?_)
    refine lv_aload_n hx hb dX1_keep_54 rfl (lv_at hl 0 rfl) ?_
    refine lv_ifnull hx hb dX1_keep_55 ?_
    refine lv_aload_n hx hb dX1_keep_58 rfl (lv_at hl 0 rfl) ?_
    refine lv_aload_n hx hb dX1_keep_59 rfl (lv_at hl 2 rfl) ?_
    refine bcall_Wv (va_runVN (As := [.ref (q 3)]) (rest := []) ⟨hx, hb, hml, hown, hts⟩ (C2_copyFromS_0 l D cI cO q _ _ hq hP ) ⟨va_cnB 1 hts gX1_keep_X2_copyFrom_n27 rfl rfl rfl (hk.2 (.methodLinkNest RX1 27 yX2_copyFrom RX5) (List.mem_of_getElem? (i := 10) rfl)) (hts (.initialized RX2) (List.mem_of_getElem? (i := 10) rfl)) bd_X2copyFrom ⟨Nat.le_of_ble_eq_true rfl, Nat.le_of_ble_eq_true rfl⟩, (hts (.instanceMethod yX2_copyFrom) (List.mem_of_getElem? (i := 9) rfl)), (hts (.selects RX2 yX2_copyFrom yX2_copyFrom) (List.mem_of_getElem? (i := 11) rfl))⟩ (bPV hk (va_recv hk.1 hP (ci := 2) (q0 := 7) rfl (wC_7 _ _ _ _))) rfl rfl hl.1 rfl (lv_room (Nat.le_of_ble_eq_true rfl)) dX1_keep_60 ⟨Nat.zero_le _, Nat.zero_le _⟩) hS (fun H locs hP _ hS => ?_)
    exact bret_Wv hx hb hr hP trivial hS hlocks dX1_keep_63 (by rw [← hF, F1_keep_5, if_neg c_1])
def F1_giveBack_5 (u : bU) : bU := (if (u 11 1) ≤ 0 then u else (bput (bput (F2_copyFromN_5 u) 11 0 4) 11 1 (((bput (F2_copyFromN_5 u) 11 0 4) 11 1) - 1)))
set_option maxHeartbeats 4000000 in
set_option maxRecDepth 100000 in
theorem C1_giveBack_5 (l : Launch) (D : va_G) (cI cO : ClassId) (q : Nat → Nat) (u : bU) (H0 : Heap) (hq : bInj 23 q) (hP : va_P D vwCl (wC cI cO q u) H0) (hlat : u 11 0 = 5) : Met l yX1_giveBack wsX1_giveBack ({ frames := 2, cells := 0, slots := 0, locals := 221 }) (bP D [(cI, .int), (cO, .object RX2)] H0 [.ref (q 5), .ref (q 3)]) (bWv D (wC cI cO q) bT (bA 23 q H0.size) (F1_giveBack_5 u)) 0 0 (bA 23 q H0.size) := by
  refine Met.ofW (cc := cX1_giveBack) (maxL := 2) (ret := none) (by decide) rfl ?_
  intro p e s m args below meth c s₁ B hml hv
  obtain ⟨rfl, hH, hk⟩ := hv
  subst hH
  have hx := B.exec
  have hb := B.bytes
  have hr := B.returns
  have hts := atoms_spec (ws := wsX1_giveBack) B.pre
  have hown : s.vm.findClass RX1 = some m.cls := findClass_of_methodNamed B.named
  have hlocks := B.notSynchronized
  have iX1 : ∀ w ∈ wsX10, w ∈ wsX1_giveBack := by decide +kernel
  have hS : va_S (bA 23 q s.heap.size) s.heap s.heap [] := va_S.rf
  have hl := lv_entry ([.ref (q 5), .ref (q 3)]) (n := 2) (Nat.le_of_ble_eq_true rfl)
  rw [lg_entry_eq]
  generalize (lg_sl ([.ref (q 5), .ref (q 3)]) ++ List.replicate (2 - (lg_sl ([.ref (q 5), .ref (q 3)])).length) Slot.unset).toArray = ls at hl ⊢
  have hl : lv_has ls 2 [(0, .ref (q 5)), (1, .ref (q 3))] := hl
  generalize hF : F1_giveBack_5 u = tgt
  refine lv_aload_n hx hb dX1_giveBack_0 rfl (lv_at hl 1 rfl) ?_
  refine lv_ifnull hx hb dX1_giveBack_1 ?_
  refine lv_aload_n hx hb dX1_giveBack_4 rfl (lv_at hl 0 rfl) ?_
  refine va_get (D := D) (ci := 1) (C := RX1) (T := TX1) (N := 3) hx hb hts iX1 hown hk.1 hP 5 (wC_5 _ _ _ _) rfl 2 (by decide) (hts (.fieldLink RX1 16 "BottleLoop$Past" "kept" "I") (List.mem_of_getElem? (i := 1) rfl)) (fun _ h9 => h9) rfl dX1_giveBack_5 ?_
  refine lv_if_le (tgt := 50) hx hb dX1_giveBack_8 (by decide) (fun c_1 => ?_) (fun c_1 => ?_)
  · exact bret_Wv hx hb hr hP trivial hS hlocks dX1_giveBack_50 (by rw [← hF, F1_giveBack_5, if_pos c_1])
  · refine lv_aload_n hx hb dX1_giveBack_11 rfl (lv_at hl 1 rfl) ?_
    refine lv_aload_n hx hb dX1_giveBack_12 rfl (lv_at hl 0 rfl) ?_
    refine bcall_Rr (va_runV (As := []) (rest := [.ref (q 3)]) ⟨hx, hb, hml, hown, hts⟩ (C1_latestState_5 l D cI cO q _ _ hP  hlat) (cwV 0 hts gX1_giveBack_X1_latestState rfl rfl rfl ⟨rfl, bd_X1latestState⟩ ⟨Nat.le_of_ble_eq_true rfl, Nat.le_of_ble_eq_true rfl⟩) (bPV hk (va_recv hk.1 hP (ci := 1) (q0 := 5) rfl (wC_5 _ _ _ _))) rfl rfl hl.1 rfl (lv_room (Nat.le_of_ble_eq_true rfl)) dX1_giveBack_13 ⟨Nat.zero_le _, Nat.zero_le _⟩) hS (fun locs hS => ?_)
    refine bcall_Wv (va_runVN (As := [.ref (q 12)]) (rest := []) ⟨hx, hb, hml, hown, hts⟩ (C2_copyFromN_5 l D cI cO q _ _ hq hP ) ⟨va_cnB 1 hts gX1_giveBack_X2_copyFrom_n27 rfl rfl rfl (hk.2 (.methodLinkNest RX1 27 yX2_copyFrom RX5) (List.mem_of_getElem? (i := 10) rfl)) (hts (.initialized RX2) (List.mem_of_getElem? (i := 10) rfl)) bd_X2copyFrom ⟨Nat.le_of_ble_eq_true rfl, Nat.le_of_ble_eq_true rfl⟩, (hts (.instanceMethod yX2_copyFrom) (List.mem_of_getElem? (i := 9) rfl)), (hts (.selects RX2 yX2_copyFrom yX2_copyFrom) (List.mem_of_getElem? (i := 11) rfl))⟩ (bPV hk (va_recv hk.1 hP (ci := 2) (q0 := 3) rfl (wC_3 _ _ _ _))) rfl rfl hl.1 rfl (lv_room (Nat.le_of_ble_eq_true rfl)) dX1_giveBack_16 ⟨Nat.zero_le _, Nat.zero_le _⟩) hS (fun H locs hP _ hS => ?_)
    refine lv_aload_n hx hb dX1_giveBack_19 rfl (lv_at hl 0 rfl) ?_
    refine lv_aload_n hx hb dX1_giveBack_20 rfl (lv_at hl 0 rfl) ?_
    refine va_get (D := D) (ci := 1) (C := RX1) (T := TX1) (N := 3) hx hb hts iX1 hown hk.1 hP 5 (wC_5 _ _ _ _) rfl 1 (by decide) (hts (.fieldLink RX1 20 "BottleLoop$Past" "latest" "I") (List.mem_of_getElem? (i := 2) rfl)) (fun _ h9 => h9) rfl dX1_giveBack_21 ?_
    refine lv_topi (fun z9 hz9 => ?_)
    obtain rfl : z9 = 5 := hz9.trans hlat
    refine lv_if_le (tgt := 36) hx hb dX1_giveBack_24 (by decide) (fun h9 => absurd h9 (by decide)) (fun _ => ?_)
    refine lv_aload_n hx hb dX1_giveBack_27 rfl (lv_at hl 0 rfl) ?_
    refine va_get (D := D) (ci := 1) (C := RX1) (T := TX1) (N := 3) hx hb hts iX1 hown hk.1 hP 5 (wC_5 _ _ _ _) rfl 1 (by decide) (hts (.fieldLink RX1 20 "BottleLoop$Past" "latest" "I") (List.mem_of_getElem? (i := 2) rfl)) (fun _ h9 => h9) rfl dX1_giveBack_28 ?_
    refine lv_topi (fun z9 hz9 => ?_)
    obtain rfl : z9 = 5 := hz9.trans hlat
    refine lv_iconst (v := 1) hx hb dX1_giveBack_31 (by decide) ?_
    refine lv_isub hx hb dX1_giveBack_32 ?_
    refine lv_topi (fun z9 hz9 => ?_)
    obtain rfl : z9 = 4 := hz9.trans (by decide)
    refine lv_goto (tgt := 37) hx hb dX1_giveBack_33 (by decide) ?_
    refine va_put (D := D) (ci := 1) (v := .int 4) (ty := .int) (C := RX1) (T := TX1) (N := 3) hx hb hts iX1 tyX1 tyX1_ok nmX1 hown hk.1 hP (wC_D hq) hS 5 (wC_5 _ _ _ _) rfl 1 (by decide) (hts (.fieldLink RX1 20 "BottleLoop$Past" "latest" "I") (List.mem_of_getElem? (i := 2) rfl)) (fun _ h9 => h9) rfl (by decide +kernel) rfl rfl (Nat.le_of_ble_eq_true rfl) dX1_giveBack_37 (fun H locs hP _ hS => ?_)
    have hP : va_P D vwCl (wC cI cO q (bput (F2_copyFromN_5 u) 11 0 4)) H := hP
    refine lv_aload_n hx hb dX1_giveBack_40 rfl (lv_at hl 0 rfl) ?_
    refine lv_dup hx hb dX1_giveBack_41 rfl ?_
    refine va_get (D := D) (ci := 1) (C := RX1) (T := TX1) (N := 3) hx hb hts iX1 hown hk.1 hP 5 (wC_5 _ _ _ _) rfl 2 (by decide) (hts (.fieldLink RX1 16 "BottleLoop$Past" "kept" "I") (List.mem_of_getElem? (i := 1) rfl)) (fun _ h9 => h9) rfl dX1_giveBack_42 ?_
    refine lv_iconst (v := 1) hx hb dX1_giveBack_45 (by decide) ?_
    refine lv_isub hx hb dX1_giveBack_46 ?_
    refine va_put (D := D) (ci := 1) (v := .int (((bput (F2_copyFromN_5 u) 11 0 4) 11 1) - 1)) (ty := .int) (C := RX1) (T := TX1) (N := 3) hx hb hts iX1 tyX1 tyX1_ok nmX1 hown hk.1 hP (wC_D hq) hS 5 (wC_5 _ _ _ _) rfl 2 (by decide) (hts (.fieldLink RX1 16 "BottleLoop$Past" "kept" "I") (List.mem_of_getElem? (i := 1) rfl)) (fun _ h9 => h9) rfl (by decide +kernel) rfl rfl (Nat.le_of_ble_eq_true rfl) dX1_giveBack_47 (fun H locs hP _ hS => ?_)
    have hP : va_P D vwCl (wC cI cO q (bput (bput (F2_copyFromN_5 u) 11 0 4) 11 1 (((bput (F2_copyFromN_5 u) 11 0 4) 11 1) - 1))) H := hP
    exact bret_Wv hx hb hr hP trivial hS hlocks dX1_giveBack_50 (by rw [← hF, F1_giveBack_5, if_neg c_1])
def F1_kept (u : bU) : Int32 := (u 11 1)
set_option maxHeartbeats 4000000 in
set_option maxRecDepth 100000 in
theorem C1_kept (l : Launch) (D : va_G) (cI cO : ClassId) (q : Nat → Nat) (u : bU) (H0 : Heap) (hP : va_P D vwCl (wC cI cO q u) H0) : Met l yX1_kept wsX1_kept ({ frames := 0, cells := 0, slots := 0, locals := 0 }) (bP D [(cI, .int), (cO, .object RX2)] H0 [.ref (q 5)]) (bRi H0 (F1_kept u)) 0 0 (fun _ => False) := by
  refine Met.ofW (cc := cX1_kept) (maxL := 1) (ret := (some .int)) (by decide) rfl ?_
  intro p e s m args below meth c s₁ B hml hv
  obtain ⟨rfl, hH, hk⟩ := hv
  subst hH
  have hx := B.exec
  have hb := B.bytes
  have hr := B.returns
  have hts := atoms_spec (ws := wsX1_kept) B.pre
  have hown : s.vm.findClass RX1 = some m.cls := findClass_of_methodNamed B.named
  have hlocks := B.notSynchronized
  have iX1 : ∀ w ∈ wsX10, w ∈ wsX1_kept := by decide +kernel
  have hS : va_S (fun _ => False) s.heap s.heap [] := va_S.rf
  have hl := lv_entry ([.ref (q 5)]) (n := 1) (Nat.le_of_ble_eq_true rfl)
  rw [lg_entry_eq]
  generalize (lg_sl ([.ref (q 5)]) ++ List.replicate (1 - (lg_sl ([.ref (q 5)])).length) Slot.unset).toArray = ls at hl ⊢
  have hl : lv_has ls 1 [(0, .ref (q 5))] := hl
  generalize hF : F1_kept u = tgt
  refine lv_aload_n hx hb dX1_kept_0 rfl (lv_at hl 0 rfl) ?_
  refine va_get (D := D) (ci := 1) (C := RX1) (T := TX1) (N := 3) hx hb hts iX1 hown hk.1 hP 5 (wC_5 _ _ _ _) rfl 2 (by decide) (hts (.fieldLink RX1 16 "BottleLoop$Past" "kept" "I") (List.mem_of_getElem? (i := 1) rfl)) (fun _ h9 => h9) rfl dX1_kept_1 ?_
  exact bret_Ri hx hb hr hS hlocks dX1_kept_4 (by rw [← hF, F1_kept])

theorem bd_X2addToAll : yX2_addToAll.cls ≠ "java/lang/invoke/MethodHandle" ∧ yX2_addToAll.cls ≠ "java/lang/invoke/VarHandle" ∧ (parseMethodDescriptor yX2_addToAll.desc).map (fun d => d.parameters.length) = some 2 := by decide +kernel
theorem bd_X2addToBrand : yX2_addToBrand.cls ≠ "java/lang/invoke/MethodHandle" ∧ yX2_addToBrand.cls ≠ "java/lang/invoke/VarHandle" ∧ (parseMethodDescriptor yX2_addToBrand.desc).map (fun d => d.parameters.length) = some 3 := by decide +kernel
theorem bd_X2addToShop : yX2_addToShop.cls ≠ "java/lang/invoke/MethodHandle" ∧ yX2_addToShop.cls ≠ "java/lang/invoke/VarHandle" ∧ (parseMethodDescriptor yX2_addToShop.desc).map (fun d => d.parameters.length) = some 3 := by decide +kernel
theorem bd_X2addToSwaps : yX2_addToSwaps.cls ≠ "java/lang/invoke/MethodHandle" ∧ yX2_addToSwaps.cls ≠ "java/lang/invoke/VarHandle" ∧ (parseMethodDescriptor yX2_addToSwaps.desc).map (fun d => d.parameters.length) = some 3 := by decide +kernel
theorem bd_X2ofSetting : yX2_ofSetting.cls ≠ "java/lang/invoke/MethodHandle" ∧ yX2_ofSetting.cls ≠ "java/lang/invoke/VarHandle" ∧ (parseMethodDescriptor yX2_ofSetting.desc).map (fun d => d.parameters.length) = some 1 := by decide +kernel
theorem bd_X2ofSwaps : yX2_ofSwaps.cls ≠ "java/lang/invoke/MethodHandle" ∧ yX2_ofSwaps.cls ≠ "java/lang/invoke/VarHandle" ∧ (parseMethodDescriptor yX2_ofSwaps.desc).map (fun d => d.parameters.length) = some 2 := by decide +kernel
theorem bd_X4bottleReason : yX4_bottleReason.cls ≠ "java/lang/invoke/MethodHandle" ∧ yX4_bottleReason.cls ≠ "java/lang/invoke/VarHandle" ∧ (parseMethodDescriptor yX4_bottleReason.desc).map (fun d => d.parameters.length) = some 2 := by decide +kernel
theorem bd_X4collectReason : yX4_collectReason.cls ≠ "java/lang/invoke/MethodHandle" ∧ yX4_collectReason.cls ≠ "java/lang/invoke/VarHandle" ∧ (parseMethodDescriptor yX4_collectReason.desc).map (fun d => d.parameters.length) = some 3 := by decide +kernel
theorem bd_X4crateDeposits : yX4_crateDeposits.cls ≠ "java/lang/invoke/MethodHandle" ∧ yX4_crateDeposits.cls ≠ "java/lang/invoke/VarHandle" ∧ (parseMethodDescriptor yX4_crateDeposits.desc).map (fun d => d.parameters.length) = some 1 := by decide +kernel
theorem bd_X4cratePrice : yX4_cratePrice.cls ≠ "java/lang/invoke/MethodHandle" ∧ yX4_cratePrice.cls ≠ "java/lang/invoke/VarHandle" ∧ (parseMethodDescriptor yX4_cratePrice.desc).map (fun d => d.parameters.length) = some 1 := by decide +kernel
theorem bd_X4depositOf : yX4_depositOf.cls ≠ "java/lang/invoke/MethodHandle" ∧ yX4_depositOf.cls ≠ "java/lang/invoke/VarHandle" ∧ (parseMethodDescriptor yX4_depositOf.desc).map (fun d => d.parameters.length) = some 1 := by decide +kernel
theorem bd_X4emptiesOf : yX4_emptiesOf.cls ≠ "java/lang/invoke/MethodHandle" ∧ yX4_emptiesOf.cls ≠ "java/lang/invoke/VarHandle" ∧ (parseMethodDescriptor yX4_emptiesOf.desc).map (fun d => d.parameters.length) = some 2 := by decide +kernel
theorem bd_X4mostCollectable : yX4_mostCollectable.cls ≠ "java/lang/invoke/MethodHandle" ∧ yX4_mostCollectable.cls ≠ "java/lang/invoke/VarHandle" ∧ (parseMethodDescriptor yX4_mostCollectable.desc).map (fun d => d.parameters.length) = some 2 := by decide +kernel
theorem bd_X4pickEmpties : yX4_pickEmpties.cls ≠ "java/lang/invoke/MethodHandle" ∧ yX4_pickEmpties.cls ≠ "java/lang/invoke/VarHandle" ∧ (parseMethodDescriptor yX4_pickEmpties.desc).map (fun d => d.parameters.length) = some 3 := by decide +kernel
theorem bd_X4pickOne : yX4_pickOne.cls ≠ "java/lang/invoke/MethodHandle" ∧ yX4_pickOne.cls ≠ "java/lang/invoke/VarHandle" ∧ (parseMethodDescriptor yX4_pickOne.desc).map (fun d => d.parameters.length) = some 0 := by decide +kernel
theorem bd_X4pickedOf : yX4_pickedOf.cls ≠ "java/lang/invoke/MethodHandle" ∧ yX4_pickedOf.cls ≠ "java/lang/invoke/VarHandle" ∧ (parseMethodDescriptor yX4_pickedOf.desc).map (fun d => d.parameters.length) = some 2 := by decide +kernel
theorem bd_X4wornBy : yX4_wornBy.cls ≠ "java/lang/invoke/MethodHandle" ∧ yX4_wornBy.cls ≠ "java/lang/invoke/VarHandle" ∧ (parseMethodDescriptor yX4_wornBy.desc).map (fun d => d.parameters.length) = some 2 := by decide +kernel
theorem bd_X4yardOf : yX4_yardOf.cls ≠ "java/lang/invoke/MethodHandle" ∧ yX4_yardOf.cls ≠ "java/lang/invoke/VarHandle" ∧ (parseMethodDescriptor yX4_yardOf.desc).map (fun d => d.parameters.length) = some 1 := by decide +kernel
theorem bd_X5entry : yX5_entry.cls ≠ "java/lang/invoke/MethodHandle" ∧ yX5_entry.cls ≠ "java/lang/invoke/VarHandle" ∧ (parseMethodDescriptor yX5_entry.desc).map (fun d => d.parameters.length) = some 2 := by decide +kernel
def F4_depositOf (u : bU) (a1 : Int32) : Int32 := (F2_ofSetting u (F2_ofBrand u a1 0))
set_option maxHeartbeats 4000000 in
set_option maxRecDepth 100000 in
theorem C4_depositOf (l : Launch) (D : va_G) (cI cO : ClassId) (q : Nat → Nat) (u : bU) (H0 : Heap) (hP : va_P D vwCl (wC cI cO q u) H0) (a1 : Int32) : Met l yX4_depositOf wsX4_depositOf ({ frames := 2, cells := 0, slots := 0, locals := 43 }) (bP D [(cI, .int), (cO, .object RX2)] H0 [.ref (q 1), .int a1]) (bRi H0 (F4_depositOf u a1)) 0 0 (fun _ => False) := by
  refine Met.ofW (cc := cX4_depositOf) (maxL := 2) (ret := (some .int)) (by decide) rfl ?_
  intro p e s m args below meth c s₁ B hml hv
  obtain ⟨rfl, hH, hk⟩ := hv
  subst hH
  have hx := B.exec
  have hb := B.bytes
  have hr := B.returns
  have hts := atoms_spec (ws := wsX4_depositOf) B.pre
  have hown : s.vm.findClass RX4 = some m.cls := findClass_of_methodNamed B.named
  have hlocks := B.notSynchronized
  have iX4 : ∀ w ∈ wsX40, w ∈ wsX4_depositOf := by decide +kernel
  have hS : va_S (fun _ => False) s.heap s.heap [] := va_S.rf
  have hl := lv_entry ([.ref (q 1), .int a1]) (n := 2) (Nat.le_of_ble_eq_true rfl)
  rw [lg_entry_eq]
  generalize (lg_sl ([.ref (q 1), .int a1]) ++ List.replicate (2 - (lg_sl ([.ref (q 1), .int a1])).length) Slot.unset).toArray = ls at hl ⊢
  have hl : lv_has ls 2 [(0, .ref (q 1)), (1, .int a1)] := hl
  generalize hF : F4_depositOf u a1 = tgt
  refine lv_aload_n hx hb dX4_depositOf_0 rfl (lv_at hl 0 rfl) ?_
  refine va_get (D := D) (ci := 4) (C := RX4) (T := TX4) (N := 2) hx hb hts iX4 hown hk.1 hP 1 (wC_1 _ _ _ _) rfl 0 (by decide) (hts (.fieldLink RX4 12 "BottleLoop$Trade" "state" "LBottleLoop$State;") (List.mem_of_getElem? (i := 1) rfl)) (fun _ h9 => h9) rfl dX4_depositOf_1 ?_
  refine lv_aload_n hx hb dX4_depositOf_4 rfl (lv_at hl 0 rfl) ?_
  refine va_get (D := D) (ci := 4) (C := RX4) (T := TX4) (N := 2) hx hb hts iX4 hown hk.1 hP 1 (wC_1 _ _ _ _) rfl 0 (by decide) (hts (.fieldLink RX4 12 "BottleLoop$Trade" "state" "LBottleLoop$State;") (List.mem_of_getElem? (i := 1) rfl)) (fun _ h9 => h9) rfl dX4_depositOf_5 ?_
  refine lv_iload_n hx hb dX4_depositOf_8 rfl (lv_at hl 1 rfl) ?_
  refine lv_iconst (v := 0) hx hb dX4_depositOf_9 (by decide) ?_
  refine bcall_Ri (va_runVN (As := [.int a1, .int 0]) (rest := [.ref (q 3)]) ⟨hx, hb, hml, hown, hts⟩ (C2_ofBrand l D cI cO q _ _ hP a1 0) ⟨va_cnB 2 hts gX4_depositOf_X2_ofBrand_n22 rfl rfl rfl (hk.2 (.methodLinkNest RX4 22 yX2_ofBrand RX5) (List.mem_of_getElem? (i := 20) rfl)) (hts (.initialized RX2) (List.mem_of_getElem? (i := 3) rfl)) bd_X2ofBrand ⟨Nat.le_of_ble_eq_true rfl, Nat.le_of_ble_eq_true rfl⟩, (hts (.instanceMethod yX2_ofBrand) (List.mem_of_getElem? (i := 2) rfl)), (hts (.selects RX2 yX2_ofBrand yX2_ofBrand) (List.mem_of_getElem? (i := 4) rfl))⟩ (bPV hk (va_recv hk.1 hP (ci := 2) (q0 := 3) rfl (wC_3 _ _ _ _))) rfl rfl hl.1 rfl (lv_room (Nat.le_of_ble_eq_true rfl)) dX4_depositOf_10 ⟨Nat.zero_le _, Nat.zero_le _⟩) hS (fun locs hS => ?_)
  refine bcall_Ri (va_runVN (As := [.int (F2_ofBrand u a1 0)]) (rest := []) ⟨hx, hb, hml, hown, hts⟩ (C2_ofSetting l D cI cO q _ _ hP (F2_ofBrand u a1 0)) ⟨va_cnB 1 hts gX4_depositOf_X2_ofSetting_n26 rfl rfl rfl (hk.2 (.methodLinkNest RX4 26 yX2_ofSetting RX5) (List.mem_of_getElem? (i := 19) rfl)) (hts (.initialized RX2) (List.mem_of_getElem? (i := 3) rfl)) bd_X2ofSetting ⟨Nat.le_of_ble_eq_true rfl, Nat.le_of_ble_eq_true rfl⟩, (hts (.instanceMethod yX2_ofSetting) (List.mem_of_getElem? (i := 11) rfl)), (hts (.selects RX2 yX2_ofSetting yX2_ofSetting) (List.mem_of_getElem? (i := 12) rfl))⟩ (bPV hk (va_recv hk.1 hP (ci := 2) (q0 := 3) rfl (wC_3 _ _ _ _))) rfl rfl hl.1 rfl (lv_room (Nat.le_of_ble_eq_true rfl)) dX4_depositOf_13 ⟨Nat.zero_le _, Nat.zero_le _⟩) hS (fun locs hS => ?_)
  exact bret_Ri hx hb hr hS hlocks dX4_depositOf_16 (by rw [← hF, F4_depositOf])
def F4_crateDeposits (u : bU) (a1 : Int32) : Int32 := ((12 * (F2_ofSetting u a1)) + (F2_ofSetting u 3))
set_option maxHeartbeats 4000000 in
set_option maxRecDepth 100000 in
theorem C4_crateDeposits (l : Launch) (D : va_G) (cI cO : ClassId) (q : Nat → Nat) (u : bU) (H0 : Heap) (hP : va_P D vwCl (wC cI cO q u) H0) (a1 : Int32) : Met l yX4_crateDeposits wsX4_crateDeposits ({ frames := 2, cells := 0, slots := 0, locals := 42 }) (bP D [(cI, .int), (cO, .object RX2)] H0 [.ref (q 1), .int a1]) (bRi H0 (F4_crateDeposits u a1)) 0 0 (fun _ => False) := by
  refine Met.ofW (cc := cX4_crateDeposits) (maxL := 2) (ret := (some .int)) (by decide) rfl ?_
  intro p e s m args below meth c s₁ B hml hv
  obtain ⟨rfl, hH, hk⟩ := hv
  subst hH
  have hx := B.exec
  have hb := B.bytes
  have hr := B.returns
  have hts := atoms_spec (ws := wsX4_crateDeposits) B.pre
  have hown : s.vm.findClass RX4 = some m.cls := findClass_of_methodNamed B.named
  have hlocks := B.notSynchronized
  have iX4 : ∀ w ∈ wsX40, w ∈ wsX4_crateDeposits := by decide +kernel
  have hS : va_S (fun _ => False) s.heap s.heap [] := va_S.rf
  have hl := lv_entry ([.ref (q 1), .int a1]) (n := 2) (Nat.le_of_ble_eq_true rfl)
  rw [lg_entry_eq]
  generalize (lg_sl ([.ref (q 1), .int a1]) ++ List.replicate (2 - (lg_sl ([.ref (q 1), .int a1])).length) Slot.unset).toArray = ls at hl ⊢
  have hl : lv_has ls 2 [(0, .ref (q 1)), (1, .int a1)] := hl
  generalize hF : F4_crateDeposits u a1 = tgt
  refine lv_bipush (v := 12) hx hb dX4_crateDeposits_0 (by decide) ?_
  refine lv_aload_n hx hb dX4_crateDeposits_2 rfl (lv_at hl 0 rfl) ?_
  refine va_get (D := D) (ci := 4) (C := RX4) (T := TX4) (N := 2) hx hb hts iX4 hown hk.1 hP 1 (wC_1 _ _ _ _) rfl 0 (by decide) (hts (.fieldLink RX4 12 "BottleLoop$Trade" "state" "LBottleLoop$State;") (List.mem_of_getElem? (i := 1) rfl)) (fun _ h9 => h9) rfl dX4_crateDeposits_3 ?_
  refine lv_iload_n hx hb dX4_crateDeposits_6 rfl (lv_at hl 1 rfl) ?_
  refine bcall_Ri (va_runVN (As := [.int a1]) (rest := [.int 12]) ⟨hx, hb, hml, hown, hts⟩ (C2_ofSetting l D cI cO q _ _ hP a1) ⟨va_cnB 1 hts gX4_crateDeposits_X2_ofSetting_n26 rfl rfl rfl (hk.2 (.methodLinkNest RX4 26 yX2_ofSetting RX5) (List.mem_of_getElem? (i := 19) rfl)) (hts (.initialized RX2) (List.mem_of_getElem? (i := 3) rfl)) bd_X2ofSetting ⟨Nat.le_of_ble_eq_true rfl, Nat.le_of_ble_eq_true rfl⟩, (hts (.instanceMethod yX2_ofSetting) (List.mem_of_getElem? (i := 2) rfl)), (hts (.selects RX2 yX2_ofSetting yX2_ofSetting) (List.mem_of_getElem? (i := 4) rfl))⟩ (bPV hk (va_recv hk.1 hP (ci := 2) (q0 := 3) rfl (wC_3 _ _ _ _))) rfl rfl hl.1 rfl (lv_room (Nat.le_of_ble_eq_true rfl)) dX4_crateDeposits_7 ⟨Nat.zero_le _, Nat.zero_le _⟩) hS (fun locs hS => ?_)
  refine lv_imul hx hb dX4_crateDeposits_10 ?_
  refine lv_aload_n hx hb dX4_crateDeposits_11 rfl (lv_at hl 0 rfl) ?_
  refine va_get (D := D) (ci := 4) (C := RX4) (T := TX4) (N := 2) hx hb hts iX4 hown hk.1 hP 1 (wC_1 _ _ _ _) rfl 0 (by decide) (hts (.fieldLink RX4 12 "BottleLoop$Trade" "state" "LBottleLoop$State;") (List.mem_of_getElem? (i := 1) rfl)) (fun _ h9 => h9) rfl dX4_crateDeposits_12 ?_
  refine lv_iconst (v := 3) hx hb dX4_crateDeposits_15 (by decide) ?_
  refine bcall_Ri (va_runVN (As := [.int 3]) (rest := [.int (12 * (F2_ofSetting u a1))]) ⟨hx, hb, hml, hown, hts⟩ (C2_ofSetting l D cI cO q _ _ hP 3) ⟨va_cnB 1 hts gX4_crateDeposits_X2_ofSetting_n26 rfl rfl rfl (hk.2 (.methodLinkNest RX4 26 yX2_ofSetting RX5) (List.mem_of_getElem? (i := 19) rfl)) (hts (.initialized RX2) (List.mem_of_getElem? (i := 3) rfl)) bd_X2ofSetting ⟨Nat.le_of_ble_eq_true rfl, Nat.le_of_ble_eq_true rfl⟩, (hts (.instanceMethod yX2_ofSetting) (List.mem_of_getElem? (i := 2) rfl)), (hts (.selects RX2 yX2_ofSetting yX2_ofSetting) (List.mem_of_getElem? (i := 4) rfl))⟩ (bPV hk (va_recv hk.1 hP (ci := 2) (q0 := 3) rfl (wC_3 _ _ _ _))) rfl rfl hl.1 rfl (lv_room (Nat.le_of_ble_eq_true rfl)) dX4_crateDeposits_16 ⟨Nat.zero_le _, Nat.zero_le _⟩) hS (fun locs hS => ?_)
  refine lv_iadd hx hb dX4_crateDeposits_19 ?_
  exact bret_Ri hx hb hr hS hlocks dX4_crateDeposits_20 (by rw [← hF, F4_crateDeposits])
def F4_cratePrice (u : bU) (a1 : Int32) : Int32 := ((F4_crateDeposits u (F2_ofBrand u a1 0)) + (F2_ofSetting u 4))
set_option maxHeartbeats 4000000 in
set_option maxRecDepth 100000 in
theorem C4_cratePrice (l : Launch) (D : va_G) (cI cO : ClassId) (q : Nat → Nat) (u : bU) (H0 : Heap) (hP : va_P D vwCl (wC cI cO q u) H0) (a1 : Int32) : Met l yX4_cratePrice wsX4_cratePrice ({ frames := 3, cells := 0, slots := 0, locals := 63 }) (bP D [(cI, .int), (cO, .object RX2)] H0 [.ref (q 1), .int a1]) (bRi H0 (F4_cratePrice u a1)) 0 0 (fun _ => False) := by
  refine Met.ofW (cc := cX4_cratePrice) (maxL := 2) (ret := (some .int)) (by decide) rfl ?_
  intro p e s m args below meth c s₁ B hml hv
  obtain ⟨rfl, hH, hk⟩ := hv
  subst hH
  have hx := B.exec
  have hb := B.bytes
  have hr := B.returns
  have hts := atoms_spec (ws := wsX4_cratePrice) B.pre
  have hown : s.vm.findClass RX4 = some m.cls := findClass_of_methodNamed B.named
  have hlocks := B.notSynchronized
  have iX4 : ∀ w ∈ wsX40, w ∈ wsX4_cratePrice := by decide +kernel
  have hS : va_S (fun _ => False) s.heap s.heap [] := va_S.rf
  have hl := lv_entry ([.ref (q 1), .int a1]) (n := 2) (Nat.le_of_ble_eq_true rfl)
  rw [lg_entry_eq]
  generalize (lg_sl ([.ref (q 1), .int a1]) ++ List.replicate (2 - (lg_sl ([.ref (q 1), .int a1])).length) Slot.unset).toArray = ls at hl ⊢
  have hl : lv_has ls 2 [(0, .ref (q 1)), (1, .int a1)] := hl
  generalize hF : F4_cratePrice u a1 = tgt
  refine lv_aload_n hx hb dX4_cratePrice_0 rfl (lv_at hl 0 rfl) ?_
  refine lv_aload_n hx hb dX4_cratePrice_1 rfl (lv_at hl 0 rfl) ?_
  refine va_get (D := D) (ci := 4) (C := RX4) (T := TX4) (N := 2) hx hb hts iX4 hown hk.1 hP 1 (wC_1 _ _ _ _) rfl 0 (by decide) (hts (.fieldLink RX4 12 "BottleLoop$Trade" "state" "LBottleLoop$State;") (List.mem_of_getElem? (i := 1) rfl)) (fun _ h9 => h9) rfl dX4_cratePrice_2 ?_
  refine lv_iload_n hx hb dX4_cratePrice_5 rfl (lv_at hl 1 rfl) ?_
  refine lv_iconst (v := 0) hx hb dX4_cratePrice_6 (by decide) ?_
  refine bcall_Ri (va_runVN (As := [.int a1, .int 0]) (rest := [.ref (q 1)]) ⟨hx, hb, hml, hown, hts⟩ (C2_ofBrand l D cI cO q _ _ hP a1 0) ⟨va_cnB 2 hts gX4_cratePrice_X2_ofBrand_n22 rfl rfl rfl (hk.2 (.methodLinkNest RX4 22 yX2_ofBrand RX5) (List.mem_of_getElem? (i := 20) rfl)) (hts (.initialized RX2) (List.mem_of_getElem? (i := 3) rfl)) bd_X2ofBrand ⟨Nat.le_of_ble_eq_true rfl, Nat.le_of_ble_eq_true rfl⟩, (hts (.instanceMethod yX2_ofBrand) (List.mem_of_getElem? (i := 2) rfl)), (hts (.selects RX2 yX2_ofBrand yX2_ofBrand) (List.mem_of_getElem? (i := 4) rfl))⟩ (bPV hk (va_recv hk.1 hP (ci := 2) (q0 := 3) rfl (wC_3 _ _ _ _))) rfl rfl hl.1 rfl (lv_room (Nat.le_of_ble_eq_true rfl)) dX4_cratePrice_7 ⟨Nat.zero_le _, Nat.zero_le _⟩) hS (fun locs hS => ?_)
  refine bcall_Ri (va_runV (As := [.int (F2_ofBrand u a1 0)]) (rest := []) ⟨hx, hb, hml, hown, hts⟩ (C4_crateDeposits l D cI cO q _ _ hP (F2_ofBrand u a1 0)) (cwV 1 hts gX4_cratePrice_X4_crateDeposits rfl rfl rfl ⟨rfl, bd_X4crateDeposits⟩ ⟨Nat.le_of_ble_eq_true rfl, Nat.le_of_ble_eq_true rfl⟩) (bPV hk (va_recv hk.1 hP (ci := 4) (q0 := 1) rfl (wC_1 _ _ _ _))) rfl rfl hl.1 rfl (lv_room (Nat.le_of_ble_eq_true rfl)) dX4_cratePrice_10 ⟨Nat.zero_le _, Nat.zero_le _⟩) hS (fun locs hS => ?_)
  refine lv_aload_n hx hb dX4_cratePrice_13 rfl (lv_at hl 0 rfl) ?_
  refine va_get (D := D) (ci := 4) (C := RX4) (T := TX4) (N := 2) hx hb hts iX4 hown hk.1 hP 1 (wC_1 _ _ _ _) rfl 0 (by decide) (hts (.fieldLink RX4 12 "BottleLoop$Trade" "state" "LBottleLoop$State;") (List.mem_of_getElem? (i := 1) rfl)) (fun _ h9 => h9) rfl dX4_cratePrice_14 ?_
  refine lv_iconst (v := 4) hx hb dX4_cratePrice_17 (by decide) ?_
  refine bcall_Ri (va_runVN (As := [.int 4]) (rest := [.int (F4_crateDeposits u (F2_ofBrand u a1 0))]) ⟨hx, hb, hml, hown, hts⟩ (C2_ofSetting l D cI cO q _ _ hP 4) ⟨va_cnB 1 hts gX4_cratePrice_X2_ofSetting_n26 rfl rfl rfl (hk.2 (.methodLinkNest RX4 26 yX2_ofSetting RX5) (List.mem_of_getElem? (i := 19) rfl)) (hts (.initialized RX2) (List.mem_of_getElem? (i := 3) rfl)) bd_X2ofSetting ⟨Nat.le_of_ble_eq_true rfl, Nat.le_of_ble_eq_true rfl⟩, (hts (.instanceMethod yX2_ofSetting) (List.mem_of_getElem? (i := 16) rfl)), (hts (.selects RX2 yX2_ofSetting yX2_ofSetting) (List.mem_of_getElem? (i := 17) rfl))⟩ (bPV hk (va_recv hk.1 hP (ci := 2) (q0 := 3) rfl (wC_3 _ _ _ _))) rfl rfl hl.1 rfl (lv_room (Nat.le_of_ble_eq_true rfl)) dX4_cratePrice_18 ⟨Nat.zero_le _, Nat.zero_le _⟩) hS (fun locs hS => ?_)
  refine lv_iadd hx hb dX4_cratePrice_21 ?_
  exact bret_Ri hx hb hr hS hlocks dX4_cratePrice_22 (by rw [← hF, F4_cratePrice])
def F4_bottleReason (a1 : Int32) (a2 : Int32) : Int32 := (if a2 ≤ a1 then 0 else 1)
set_option maxHeartbeats 4000000 in
set_option maxRecDepth 100000 in
theorem C4_bottleReason (l : Launch) (D : va_G) (cI cO : ClassId) (q : Nat → Nat) (H0 : Heap) (a1 : Int32) (a2 : Int32) : Met l yX4_bottleReason wsX4_bottleReason ({ frames := 0, cells := 0, slots := 0, locals := 0 }) (bP D [(cI, .int), (cO, .object RX2)] H0 [.int a1, .int a2]) (bRi H0 (F4_bottleReason a1 a2)) 0 0 (fun _ => False) := by
  refine Met.ofW (cc := cX4_bottleReason) (maxL := 2) (ret := (some .int)) (by decide) rfl ?_
  intro p e s m args below meth c s₁ B hml hv
  obtain ⟨rfl, hH, hk⟩ := hv
  subst hH
  have hx := B.exec
  have hb := B.bytes
  have hr := B.returns
  have hts := atoms_spec (ws := wsX4_bottleReason) B.pre
  have hown : s.vm.findClass RX4 = some m.cls := findClass_of_methodNamed B.named
  have hlocks := B.notSynchronized
  have hS : va_S (fun _ => False) s.heap s.heap [] := va_S.rf
  have hl := lv_entry ([.int a1, .int a2]) (n := 2) (Nat.le_of_ble_eq_true rfl)
  rw [lg_entry_eq]
  generalize (lg_sl ([.int a1, .int a2]) ++ List.replicate (2 - (lg_sl ([.int a1, .int a2])).length) Slot.unset).toArray = ls at hl ⊢
  have hl : lv_has ls 2 [(0, .int a1), (1, .int a2)] := hl
  generalize hF : F4_bottleReason a1 a2 = tgt
  refine lv_iload_n hx hb dX4_bottleReason_0 rfl (lv_at hl 0 rfl) ?_
  refine lv_iload_n hx hb dX4_bottleReason_1 rfl (lv_at hl 1 rfl) ?_
  refine lv_icmp_ge (tgt := 9) hx hb dX4_bottleReason_2 (by decide) (fun c_1 => ?_) (fun c_1 => ?_)
  · refine lv_iconst (v := 0) hx hb dX4_bottleReason_9 (by decide) ?_
    exact bret_Ri hx hb hr hS hlocks dX4_bottleReason_10 (by rw [← hF, F4_bottleReason, if_pos c_1])
  · refine lv_iconst (v := 1) hx hb dX4_bottleReason_5 (by decide) ?_
    refine lv_goto (tgt := 10) hx hb dX4_bottleReason_6 (by decide) ?_
    exact bret_Ri hx hb hr hS hlocks dX4_bottleReason_10 (by rw [← hF, F4_bottleReason, if_neg c_1])
def F4_deliverReason (u : bU) (a1 : Int32) (a2 : Int32) (a3 : Int32) : Int32 := (if (12 * a3) ≤ (F2_ofBrand u a1 2) then (if a3 ≤ (F2_ofAll u 2) then (if (a3 * (F4_cratePrice u a1)) ≤ (F2_ofShop u a2 0) then 0 else 3) else 2) else 1)
set_option maxHeartbeats 4000000 in
set_option maxRecDepth 100000 in
theorem C4_deliverReason (l : Launch) (D : va_G) (cI cO : ClassId) (q : Nat → Nat) (u : bU) (H0 : Heap) (hP : va_P D vwCl (wC cI cO q u) H0) (a1 : Int32) (a2 : Int32) (a3 : Int32) : Met l yX4_deliverReason wsX4_deliverReason ({ frames := 4, cells := 0, slots := 0, locals := 84 }) (bP D [(cI, .int), (cO, .object RX2)] H0 [.ref (q 1), .int a1, .int a2, .int a3]) (bRi H0 (F4_deliverReason u a1 a2 a3)) 0 0 (fun _ => False) := by
  refine Met.ofW (cc := cX4_deliverReason) (maxL := 4) (ret := (some .int)) (by decide) rfl ?_
  intro p e s m args below meth c s₁ B hml hv
  obtain ⟨rfl, hH, hk⟩ := hv
  subst hH
  have hx := B.exec
  have hb := B.bytes
  have hr := B.returns
  have hts := atoms_spec (ws := wsX4_deliverReason) B.pre
  have hown : s.vm.findClass RX4 = some m.cls := findClass_of_methodNamed B.named
  have hlocks := B.notSynchronized
  have iX4 : ∀ w ∈ wsX40, w ∈ wsX4_deliverReason := by decide +kernel
  have hS : va_S (fun _ => False) s.heap s.heap [] := va_S.rf
  have hl := lv_entry ([.ref (q 1), .int a1, .int a2, .int a3]) (n := 4) (Nat.le_of_ble_eq_true rfl)
  rw [lg_entry_eq]
  generalize (lg_sl ([.ref (q 1), .int a1, .int a2, .int a3]) ++ List.replicate (4 - (lg_sl ([.ref (q 1), .int a1, .int a2, .int a3])).length) Slot.unset).toArray = ls at hl ⊢
  have hl : lv_has ls 4 [(0, .ref (q 1)), (1, .int a1), (2, .int a2), (3, .int a3)] := hl
  generalize hF : F4_deliverReason u a1 a2 a3 = tgt
  refine lv_aload_n hx hb dX4_deliverReason_0 rfl (lv_at hl 0 rfl) ?_
  refine va_get (D := D) (ci := 4) (C := RX4) (T := TX4) (N := 2) hx hb hts iX4 hown hk.1 hP 1 (wC_1 _ _ _ _) rfl 0 (by decide) (hts (.fieldLink RX4 12 "BottleLoop$Trade" "state" "LBottleLoop$State;") (List.mem_of_getElem? (i := 1) rfl)) (fun _ h9 => h9) rfl dX4_deliverReason_1 ?_
  refine lv_iload_n hx hb dX4_deliverReason_4 rfl (lv_at hl 1 rfl) ?_
  refine lv_iconst (v := 2) hx hb dX4_deliverReason_5 (by decide) ?_
  refine bcall_Ri (va_runVN (As := [.int a1, .int 2]) (rest := []) ⟨hx, hb, hml, hown, hts⟩ (C2_ofBrand l D cI cO q _ _ hP a1 2) ⟨va_cnB 2 hts gX4_deliverReason_X2_ofBrand_n22 rfl rfl rfl (hk.2 (.methodLinkNest RX4 22 yX2_ofBrand RX5) (List.mem_of_getElem? (i := 20) rfl)) (hts (.initialized RX2) (List.mem_of_getElem? (i := 3) rfl)) bd_X2ofBrand ⟨Nat.le_of_ble_eq_true rfl, Nat.le_of_ble_eq_true rfl⟩, (hts (.instanceMethod yX2_ofBrand) (List.mem_of_getElem? (i := 2) rfl)), (hts (.selects RX2 yX2_ofBrand yX2_ofBrand) (List.mem_of_getElem? (i := 4) rfl))⟩ (bPV hk (va_recv hk.1 hP (ci := 2) (q0 := 3) rfl (wC_3 _ _ _ _))) rfl rfl hl.1 rfl (lv_room (Nat.le_of_ble_eq_true rfl)) dX4_deliverReason_6 ⟨Nat.zero_le _, Nat.zero_le _⟩) hS (fun locs hS => ?_)
  refine lv_bipush (v := 12) hx hb dX4_deliverReason_9 (by decide) ?_
  refine lv_iload_n hx hb dX4_deliverReason_11 rfl (lv_at hl 3 rfl) ?_
  refine lv_imul hx hb dX4_deliverReason_12 ?_
  refine lv_icmp_ge (tgt := 18) hx hb dX4_deliverReason_13 (by decide) (fun c_1 => ?_) (fun c_1 => ?_)
  · refine lv_aload_n hx hb dX4_deliverReason_18 rfl (lv_at hl 0 rfl) ?_
    refine va_get (D := D) (ci := 4) (C := RX4) (T := TX4) (N := 2) hx hb hts iX4 hown hk.1 hP 1 (wC_1 _ _ _ _) rfl 0 (by decide) (hts (.fieldLink RX4 12 "BottleLoop$Trade" "state" "LBottleLoop$State;") (List.mem_of_getElem? (i := 1) rfl)) (fun _ h9 => h9) rfl dX4_deliverReason_19 ?_
    refine lv_iconst (v := 2) hx hb dX4_deliverReason_22 (by decide) ?_
    refine bcall_Ri (va_runVN (As := [.int 2]) (rest := []) ⟨hx, hb, hml, hown, hts⟩ (C2_ofAll l D cI cO q _ _ hP 2) ⟨va_cnB 1 hts gX4_deliverReason_X2_ofAll_n33 rfl rfl rfl (hk.2 (.methodLinkNest RX4 33 yX2_ofAll RX5) (List.mem_of_getElem? (i := 31) rfl)) (hts (.initialized RX2) (List.mem_of_getElem? (i := 3) rfl)) bd_X2ofAll ⟨Nat.le_of_ble_eq_true rfl, Nat.le_of_ble_eq_true rfl⟩, (hts (.instanceMethod yX2_ofAll) (List.mem_of_getElem? (i := 11) rfl)), (hts (.selects RX2 yX2_ofAll yX2_ofAll) (List.mem_of_getElem? (i := 12) rfl))⟩ (bPV hk (va_recv hk.1 hP (ci := 2) (q0 := 3) rfl (wC_3 _ _ _ _))) rfl rfl hl.1 rfl (lv_room (Nat.le_of_ble_eq_true rfl)) dX4_deliverReason_23 ⟨Nat.zero_le _, Nat.zero_le _⟩) hS (fun locs hS => ?_)
    refine lv_iload_n hx hb dX4_deliverReason_26 rfl (lv_at hl 3 rfl) ?_
    refine lv_icmp_ge (tgt := 32) hx hb dX4_deliverReason_27 (by decide) (fun c_2 => ?_) (fun c_2 => ?_)
    · refine lv_aload_n hx hb dX4_deliverReason_32 rfl (lv_at hl 0 rfl) ?_
      refine va_get (D := D) (ci := 4) (C := RX4) (T := TX4) (N := 2) hx hb hts iX4 hown hk.1 hP 1 (wC_1 _ _ _ _) rfl 0 (by decide) (hts (.fieldLink RX4 12 "BottleLoop$Trade" "state" "LBottleLoop$State;") (List.mem_of_getElem? (i := 1) rfl)) (fun _ h9 => h9) rfl dX4_deliverReason_33 ?_
      refine lv_iload_n hx hb dX4_deliverReason_36 rfl (lv_at hl 2 rfl) ?_
      refine lv_iconst (v := 0) hx hb dX4_deliverReason_37 (by decide) ?_
      refine bcall_Ri (va_runVN (As := [.int a2, .int 0]) (rest := []) ⟨hx, hb, hml, hown, hts⟩ (C2_ofShop l D cI cO q _ _ hP a2 0) ⟨va_cnB 2 hts gX4_deliverReason_X2_ofShop_n36 rfl rfl rfl (hk.2 (.methodLinkNest RX4 36 yX2_ofShop RX5) (List.mem_of_getElem? (i := 26) rfl)) (hts (.initialized RX2) (List.mem_of_getElem? (i := 3) rfl)) bd_X2ofShop ⟨Nat.le_of_ble_eq_true rfl, Nat.le_of_ble_eq_true rfl⟩, (hts (.instanceMethod yX2_ofShop) (List.mem_of_getElem? (i := 14) rfl)), (hts (.selects RX2 yX2_ofShop yX2_ofShop) (List.mem_of_getElem? (i := 15) rfl))⟩ (bPV hk (va_recv hk.1 hP (ci := 2) (q0 := 3) rfl (wC_3 _ _ _ _))) rfl rfl hl.1 rfl (lv_room (Nat.le_of_ble_eq_true rfl)) dX4_deliverReason_38 ⟨Nat.zero_le _, Nat.zero_le _⟩) hS (fun locs hS => ?_)
      refine lv_iload_n hx hb dX4_deliverReason_41 rfl (lv_at hl 3 rfl) ?_
      refine lv_aload_n hx hb dX4_deliverReason_42 rfl (lv_at hl 0 rfl) ?_
      refine lv_iload_n hx hb dX4_deliverReason_43 rfl (lv_at hl 1 rfl) ?_
      refine bcall_Ri (va_runV (As := [.int a1]) (rest := [.int a3, .int (F2_ofShop u a2 0)]) ⟨hx, hb, hml, hown, hts⟩ (C4_cratePrice l D cI cO q _ _ hP a1) (cwV 1 hts gX4_deliverReason_X4_cratePrice rfl rfl rfl ⟨rfl, bd_X4cratePrice⟩ ⟨Nat.le_of_ble_eq_true rfl, Nat.le_of_ble_eq_true rfl⟩) (bPV hk (va_recv hk.1 hP (ci := 4) (q0 := 1) rfl (wC_1 _ _ _ _))) rfl rfl hl.1 rfl (lv_room (Nat.le_of_ble_eq_true rfl)) dX4_deliverReason_44 ⟨Nat.zero_le _, Nat.zero_le _⟩) hS (fun locs hS => ?_)
      refine lv_imul hx hb dX4_deliverReason_47 ?_
      refine lv_icmp_ge (tgt := 55) hx hb dX4_deliverReason_48 (by decide) (fun c_3 => ?_) (fun c_3 => ?_)
      · refine lv_iconst (v := 0) hx hb dX4_deliverReason_55 (by decide) ?_
        exact bret_Ri hx hb hr hS hlocks dX4_deliverReason_56 (by rw [← hF, F4_deliverReason, if_pos c_1, if_pos c_2, if_pos c_3])
      · refine lv_iconst (v := 3) hx hb dX4_deliverReason_51 (by decide) ?_
        refine lv_goto (tgt := 56) hx hb dX4_deliverReason_52 (by decide) ?_
        exact bret_Ri hx hb hr hS hlocks dX4_deliverReason_56 (by rw [← hF, F4_deliverReason, if_pos c_1, if_pos c_2, if_neg c_3])
    · refine lv_iconst (v := 2) hx hb dX4_deliverReason_30 (by decide) ?_
      exact bret_Ri hx hb hr hS hlocks dX4_deliverReason_31 (by rw [← hF, F4_deliverReason, if_pos c_1, if_neg c_2])
  · refine lv_iconst (v := 1) hx hb dX4_deliverReason_16 (by decide) ?_
    exact bret_Ri hx hb hr hS hlocks dX4_deliverReason_17 (by rw [← hF, F4_deliverReason, if_neg c_1])
def F4_sellReason (u : bU) (a1 : Int32) (a2 : Int32) (a3 : Int32) : Int32 := (F4_bottleReason (F2_ofShop u a1 (10 + a2)) a3)
set_option maxHeartbeats 4000000 in
set_option maxRecDepth 100000 in
theorem C4_sellReason (l : Launch) (D : va_G) (cI cO : ClassId) (q : Nat → Nat) (u : bU) (H0 : Heap) (hP : va_P D vwCl (wC cI cO q u) H0) (a1 : Int32) (a2 : Int32) (a3 : Int32) : Met l yX4_sellReason wsX4_sellReason ({ frames := 2, cells := 0, slots := 0, locals := 43 }) (bP D [(cI, .int), (cO, .object RX2)] H0 [.ref (q 1), .int a1, .int a2, .int a3]) (bRi H0 (F4_sellReason u a1 a2 a3)) 0 0 (fun _ => False) := by
  refine Met.ofW (cc := cX4_sellReason) (maxL := 4) (ret := (some .int)) (by decide) rfl ?_
  intro p e s m args below meth c s₁ B hml hv
  obtain ⟨rfl, hH, hk⟩ := hv
  subst hH
  have hx := B.exec
  have hb := B.bytes
  have hr := B.returns
  have hts := atoms_spec (ws := wsX4_sellReason) B.pre
  have hown : s.vm.findClass RX4 = some m.cls := findClass_of_methodNamed B.named
  have hlocks := B.notSynchronized
  have iX4 : ∀ w ∈ wsX40, w ∈ wsX4_sellReason := by decide +kernel
  have hS : va_S (fun _ => False) s.heap s.heap [] := va_S.rf
  have hl := lv_entry ([.ref (q 1), .int a1, .int a2, .int a3]) (n := 4) (Nat.le_of_ble_eq_true rfl)
  rw [lg_entry_eq]
  generalize (lg_sl ([.ref (q 1), .int a1, .int a2, .int a3]) ++ List.replicate (4 - (lg_sl ([.ref (q 1), .int a1, .int a2, .int a3])).length) Slot.unset).toArray = ls at hl ⊢
  have hl : lv_has ls 4 [(0, .ref (q 1)), (1, .int a1), (2, .int a2), (3, .int a3)] := hl
  generalize hF : F4_sellReason u a1 a2 a3 = tgt
  refine lv_aload_n hx hb dX4_sellReason_0 rfl (lv_at hl 0 rfl) ?_
  refine va_get (D := D) (ci := 4) (C := RX4) (T := TX4) (N := 2) hx hb hts iX4 hown hk.1 hP 1 (wC_1 _ _ _ _) rfl 0 (by decide) (hts (.fieldLink RX4 12 "BottleLoop$Trade" "state" "LBottleLoop$State;") (List.mem_of_getElem? (i := 1) rfl)) (fun _ h9 => h9) rfl dX4_sellReason_1 ?_
  refine lv_iload_n hx hb dX4_sellReason_4 rfl (lv_at hl 1 rfl) ?_
  refine lv_bipush (v := 10) hx hb dX4_sellReason_5 (by decide) ?_
  refine lv_iload_n hx hb dX4_sellReason_7 rfl (lv_at hl 2 rfl) ?_
  refine lv_iadd hx hb dX4_sellReason_8 ?_
  refine bcall_Ri (va_runVN (As := [.int a1, .int (10 + a2)]) (rest := []) ⟨hx, hb, hml, hown, hts⟩ (C2_ofShop l D cI cO q _ _ hP a1 (10 + a2)) ⟨va_cnB 2 hts gX4_sellReason_X2_ofShop_n36 rfl rfl rfl (hk.2 (.methodLinkNest RX4 36 yX2_ofShop RX5) (List.mem_of_getElem? (i := 26) rfl)) (hts (.initialized RX2) (List.mem_of_getElem? (i := 3) rfl)) bd_X2ofShop ⟨Nat.le_of_ble_eq_true rfl, Nat.le_of_ble_eq_true rfl⟩, (hts (.instanceMethod yX2_ofShop) (List.mem_of_getElem? (i := 2) rfl)), (hts (.selects RX2 yX2_ofShop yX2_ofShop) (List.mem_of_getElem? (i := 4) rfl))⟩ (bPV hk (va_recv hk.1 hP (ci := 2) (q0 := 3) rfl (wC_3 _ _ _ _))) rfl rfl hl.1 rfl (lv_room (Nat.le_of_ble_eq_true rfl)) dX4_sellReason_9 ⟨Nat.zero_le _, Nat.zero_le _⟩) hS (fun locs hS => ?_)
  refine lv_iload_n hx hb dX4_sellReason_12 rfl (lv_at hl 3 rfl) ?_
  refine bcall_Ri (va_runS (As := [.int (F2_ofShop u a1 (10 + a2)), .int a3]) (rest := []) ⟨hx, hb, hml, hown, hts⟩ (C4_bottleReason l D cI cO q _ (F2_ofShop u a1 (10 + a2)) a3) (va_cwS 2 hts gX4_sellReason_X4_bottleReason rfl rfl rfl bd_X4bottleReason ⟨Nat.le_of_ble_eq_true rfl, Nat.le_of_ble_eq_true rfl⟩) (bPS hk) rfl rfl hl.1 rfl (lv_room (Nat.le_of_ble_eq_true rfl)) dX4_sellReason_13 ⟨Nat.zero_le _, Nat.zero_le _⟩) hS (fun locs hS => ?_)
  exact bret_Ri hx hb hr hS hlocks dX4_sellReason_16 (by rw [← hF, F4_sellReason])
def F4_returnReason (u : bU) (a1 : Int32) (a2 : Int32) (a3 : Int32) : Int32 := (if a3 ≤ (F2_ofBrand u a2 5) then (if (a3 * (F4_depositOf u a2)) ≤ (F2_ofShop u a1 0) then 0 else 3) else 1)
set_option maxHeartbeats 4000000 in
set_option maxRecDepth 100000 in
theorem C4_returnReason (l : Launch) (D : va_G) (cI cO : ClassId) (q : Nat → Nat) (u : bU) (H0 : Heap) (hP : va_P D vwCl (wC cI cO q u) H0) (a1 : Int32) (a2 : Int32) (a3 : Int32) : Met l yX4_returnReason wsX4_returnReason ({ frames := 3, cells := 0, slots := 0, locals := 64 }) (bP D [(cI, .int), (cO, .object RX2)] H0 [.ref (q 1), .int a1, .int a2, .int a3]) (bRi H0 (F4_returnReason u a1 a2 a3)) 0 0 (fun _ => False) := by
  refine Met.ofW (cc := cX4_returnReason) (maxL := 4) (ret := (some .int)) (by decide) rfl ?_
  intro p e s m args below meth c s₁ B hml hv
  obtain ⟨rfl, hH, hk⟩ := hv
  subst hH
  have hx := B.exec
  have hb := B.bytes
  have hr := B.returns
  have hts := atoms_spec (ws := wsX4_returnReason) B.pre
  have hown : s.vm.findClass RX4 = some m.cls := findClass_of_methodNamed B.named
  have hlocks := B.notSynchronized
  have iX4 : ∀ w ∈ wsX40, w ∈ wsX4_returnReason := by decide +kernel
  have hS : va_S (fun _ => False) s.heap s.heap [] := va_S.rf
  have hl := lv_entry ([.ref (q 1), .int a1, .int a2, .int a3]) (n := 4) (Nat.le_of_ble_eq_true rfl)
  rw [lg_entry_eq]
  generalize (lg_sl ([.ref (q 1), .int a1, .int a2, .int a3]) ++ List.replicate (4 - (lg_sl ([.ref (q 1), .int a1, .int a2, .int a3])).length) Slot.unset).toArray = ls at hl ⊢
  have hl : lv_has ls 4 [(0, .ref (q 1)), (1, .int a1), (2, .int a2), (3, .int a3)] := hl
  generalize hF : F4_returnReason u a1 a2 a3 = tgt
  refine lv_aload_n hx hb dX4_returnReason_0 rfl (lv_at hl 0 rfl) ?_
  refine va_get (D := D) (ci := 4) (C := RX4) (T := TX4) (N := 2) hx hb hts iX4 hown hk.1 hP 1 (wC_1 _ _ _ _) rfl 0 (by decide) (hts (.fieldLink RX4 12 "BottleLoop$Trade" "state" "LBottleLoop$State;") (List.mem_of_getElem? (i := 1) rfl)) (fun _ h9 => h9) rfl dX4_returnReason_1 ?_
  refine lv_iload_n hx hb dX4_returnReason_4 rfl (lv_at hl 2 rfl) ?_
  refine lv_iconst (v := 5) hx hb dX4_returnReason_5 (by decide) ?_
  refine bcall_Ri (va_runVN (As := [.int a2, .int 5]) (rest := []) ⟨hx, hb, hml, hown, hts⟩ (C2_ofBrand l D cI cO q _ _ hP a2 5) ⟨va_cnB 2 hts gX4_returnReason_X2_ofBrand_n22 rfl rfl rfl (hk.2 (.methodLinkNest RX4 22 yX2_ofBrand RX5) (List.mem_of_getElem? (i := 20) rfl)) (hts (.initialized RX2) (List.mem_of_getElem? (i := 3) rfl)) bd_X2ofBrand ⟨Nat.le_of_ble_eq_true rfl, Nat.le_of_ble_eq_true rfl⟩, (hts (.instanceMethod yX2_ofBrand) (List.mem_of_getElem? (i := 2) rfl)), (hts (.selects RX2 yX2_ofBrand yX2_ofBrand) (List.mem_of_getElem? (i := 4) rfl))⟩ (bPV hk (va_recv hk.1 hP (ci := 2) (q0 := 3) rfl (wC_3 _ _ _ _))) rfl rfl hl.1 rfl (lv_room (Nat.le_of_ble_eq_true rfl)) dX4_returnReason_6 ⟨Nat.zero_le _, Nat.zero_le _⟩) hS (fun locs hS => ?_)
  refine lv_iload_n hx hb dX4_returnReason_9 rfl (lv_at hl 3 rfl) ?_
  refine lv_icmp_ge (tgt := 15) hx hb dX4_returnReason_10 (by decide) (fun c_1 => ?_) (fun c_1 => ?_)
  · refine lv_aload_n hx hb dX4_returnReason_15 rfl (lv_at hl 0 rfl) ?_
    refine va_get (D := D) (ci := 4) (C := RX4) (T := TX4) (N := 2) hx hb hts iX4 hown hk.1 hP 1 (wC_1 _ _ _ _) rfl 0 (by decide) (hts (.fieldLink RX4 12 "BottleLoop$Trade" "state" "LBottleLoop$State;") (List.mem_of_getElem? (i := 1) rfl)) (fun _ h9 => h9) rfl dX4_returnReason_16 ?_
    refine lv_iload_n hx hb dX4_returnReason_19 rfl (lv_at hl 1 rfl) ?_
    refine lv_iconst (v := 0) hx hb dX4_returnReason_20 (by decide) ?_
    refine bcall_Ri (va_runVN (As := [.int a1, .int 0]) (rest := []) ⟨hx, hb, hml, hown, hts⟩ (C2_ofShop l D cI cO q _ _ hP a1 0) ⟨va_cnB 2 hts gX4_returnReason_X2_ofShop_n36 rfl rfl rfl (hk.2 (.methodLinkNest RX4 36 yX2_ofShop RX5) (List.mem_of_getElem? (i := 26) rfl)) (hts (.initialized RX2) (List.mem_of_getElem? (i := 3) rfl)) bd_X2ofShop ⟨Nat.le_of_ble_eq_true rfl, Nat.le_of_ble_eq_true rfl⟩, (hts (.instanceMethod yX2_ofShop) (List.mem_of_getElem? (i := 11) rfl)), (hts (.selects RX2 yX2_ofShop yX2_ofShop) (List.mem_of_getElem? (i := 12) rfl))⟩ (bPV hk (va_recv hk.1 hP (ci := 2) (q0 := 3) rfl (wC_3 _ _ _ _))) rfl rfl hl.1 rfl (lv_room (Nat.le_of_ble_eq_true rfl)) dX4_returnReason_21 ⟨Nat.zero_le _, Nat.zero_le _⟩) hS (fun locs hS => ?_)
    refine lv_iload_n hx hb dX4_returnReason_24 rfl (lv_at hl 3 rfl) ?_
    refine lv_aload_n hx hb dX4_returnReason_25 rfl (lv_at hl 0 rfl) ?_
    refine lv_iload_n hx hb dX4_returnReason_26 rfl (lv_at hl 2 rfl) ?_
    refine bcall_Ri (va_runV (As := [.int a2]) (rest := [.int a3, .int (F2_ofShop u a1 0)]) ⟨hx, hb, hml, hown, hts⟩ (C4_depositOf l D cI cO q _ _ hP a2) (cwV 1 hts gX4_returnReason_X4_depositOf rfl rfl rfl ⟨rfl, bd_X4depositOf⟩ ⟨Nat.le_of_ble_eq_true rfl, Nat.le_of_ble_eq_true rfl⟩) (bPV hk (va_recv hk.1 hP (ci := 4) (q0 := 1) rfl (wC_1 _ _ _ _))) rfl rfl hl.1 rfl (lv_room (Nat.le_of_ble_eq_true rfl)) dX4_returnReason_27 ⟨Nat.zero_le _, Nat.zero_le _⟩) hS (fun locs hS => ?_)
    refine lv_imul hx hb dX4_returnReason_30 ?_
    refine lv_icmp_ge (tgt := 38) hx hb dX4_returnReason_31 (by decide) (fun c_2 => ?_) (fun c_2 => ?_)
    · refine lv_iconst (v := 0) hx hb dX4_returnReason_38 (by decide) ?_
      exact bret_Ri hx hb hr hS hlocks dX4_returnReason_39 (by rw [← hF, F4_returnReason, if_pos c_1, if_pos c_2])
    · refine lv_iconst (v := 3) hx hb dX4_returnReason_34 (by decide) ?_
      refine lv_goto (tgt := 39) hx hb dX4_returnReason_35 (by decide) ?_
      exact bret_Ri hx hb hr hS hlocks dX4_returnReason_39 (by rw [← hF, F4_returnReason, if_pos c_1, if_neg c_2])
  · refine lv_iconst (v := 1) hx hb dX4_returnReason_13 (by decide) ?_
    exact bret_Ri hx hb hr hS hlocks dX4_returnReason_14 (by rw [← hF, F4_returnReason, if_neg c_1])
def F4_breakReason (u : bU) (a1 : Int32) (a2 : Int32) (a3 : Int32) : Int32 := (F4_bottleReason (F2_ofShop u a1 (20 + a2)) a3)
set_option maxHeartbeats 4000000 in
set_option maxRecDepth 100000 in
theorem C4_breakReason (l : Launch) (D : va_G) (cI cO : ClassId) (q : Nat → Nat) (u : bU) (H0 : Heap) (hP : va_P D vwCl (wC cI cO q u) H0) (a1 : Int32) (a2 : Int32) (a3 : Int32) : Met l yX4_breakReason wsX4_breakReason ({ frames := 2, cells := 0, slots := 0, locals := 43 }) (bP D [(cI, .int), (cO, .object RX2)] H0 [.ref (q 1), .int a1, .int a2, .int a3]) (bRi H0 (F4_breakReason u a1 a2 a3)) 0 0 (fun _ => False) := by
  refine Met.ofW (cc := cX4_breakReason) (maxL := 4) (ret := (some .int)) (by decide) rfl ?_
  intro p e s m args below meth c s₁ B hml hv
  obtain ⟨rfl, hH, hk⟩ := hv
  subst hH
  have hx := B.exec
  have hb := B.bytes
  have hr := B.returns
  have hts := atoms_spec (ws := wsX4_breakReason) B.pre
  have hown : s.vm.findClass RX4 = some m.cls := findClass_of_methodNamed B.named
  have hlocks := B.notSynchronized
  have iX4 : ∀ w ∈ wsX40, w ∈ wsX4_breakReason := by decide +kernel
  have hS : va_S (fun _ => False) s.heap s.heap [] := va_S.rf
  have hl := lv_entry ([.ref (q 1), .int a1, .int a2, .int a3]) (n := 4) (Nat.le_of_ble_eq_true rfl)
  rw [lg_entry_eq]
  generalize (lg_sl ([.ref (q 1), .int a1, .int a2, .int a3]) ++ List.replicate (4 - (lg_sl ([.ref (q 1), .int a1, .int a2, .int a3])).length) Slot.unset).toArray = ls at hl ⊢
  have hl : lv_has ls 4 [(0, .ref (q 1)), (1, .int a1), (2, .int a2), (3, .int a3)] := hl
  generalize hF : F4_breakReason u a1 a2 a3 = tgt
  refine lv_aload_n hx hb dX4_breakReason_0 rfl (lv_at hl 0 rfl) ?_
  refine va_get (D := D) (ci := 4) (C := RX4) (T := TX4) (N := 2) hx hb hts iX4 hown hk.1 hP 1 (wC_1 _ _ _ _) rfl 0 (by decide) (hts (.fieldLink RX4 12 "BottleLoop$Trade" "state" "LBottleLoop$State;") (List.mem_of_getElem? (i := 1) rfl)) (fun _ h9 => h9) rfl dX4_breakReason_1 ?_
  refine lv_iload_n hx hb dX4_breakReason_4 rfl (lv_at hl 1 rfl) ?_
  refine lv_bipush (v := 20) hx hb dX4_breakReason_5 (by decide) ?_
  refine lv_iload_n hx hb dX4_breakReason_7 rfl (lv_at hl 2 rfl) ?_
  refine lv_iadd hx hb dX4_breakReason_8 ?_
  refine bcall_Ri (va_runVN (As := [.int a1, .int (20 + a2)]) (rest := []) ⟨hx, hb, hml, hown, hts⟩ (C2_ofShop l D cI cO q _ _ hP a1 (20 + a2)) ⟨va_cnB 2 hts gX4_breakReason_X2_ofShop_n36 rfl rfl rfl (hk.2 (.methodLinkNest RX4 36 yX2_ofShop RX5) (List.mem_of_getElem? (i := 26) rfl)) (hts (.initialized RX2) (List.mem_of_getElem? (i := 3) rfl)) bd_X2ofShop ⟨Nat.le_of_ble_eq_true rfl, Nat.le_of_ble_eq_true rfl⟩, (hts (.instanceMethod yX2_ofShop) (List.mem_of_getElem? (i := 2) rfl)), (hts (.selects RX2 yX2_ofShop yX2_ofShop) (List.mem_of_getElem? (i := 4) rfl))⟩ (bPV hk (va_recv hk.1 hP (ci := 2) (q0 := 3) rfl (wC_3 _ _ _ _))) rfl rfl hl.1 rfl (lv_room (Nat.le_of_ble_eq_true rfl)) dX4_breakReason_9 ⟨Nat.zero_le _, Nat.zero_le _⟩) hS (fun locs hS => ?_)
  refine lv_iload_n hx hb dX4_breakReason_12 rfl (lv_at hl 3 rfl) ?_
  refine bcall_Ri (va_runS (As := [.int (F2_ofShop u a1 (20 + a2)), .int a3]) (rest := []) ⟨hx, hb, hml, hown, hts⟩ (C4_bottleReason l D cI cO q _ (F2_ofShop u a1 (20 + a2)) a3) (va_cwS 2 hts gX4_breakReason_X4_bottleReason rfl rfl rfl bd_X4bottleReason ⟨Nat.le_of_ble_eq_true rfl, Nat.le_of_ble_eq_true rfl⟩) (bPS hk) rfl rfl hl.1 rfl (lv_room (Nat.le_of_ble_eq_true rfl)) dX4_breakReason_13 ⟨Nat.zero_le _, Nat.zero_le _⟩) hS (fun locs hS => ?_)
  exact bret_Ri hx hb hr hS hlocks dX4_breakReason_16 (by rw [← hF, F4_breakReason])
def L4_emptiesOf_5 (u : bU) (a1 : Int32) (a2 : Int32) : Nat → Nat → Int32 → Int32
  | 0, _, x3_5 => x3_5
  | n5 + 1, j5, x3_5 => (if (8 : Int32) ≤ (nI j5) then x3_5 else (if (F2_ofBrand u (nI j5) 0) = a2 then (L4_emptiesOf_5 u a1 a2 n5 (j5 + 1) (x3_5 + (F2_ofShop u a1 (20 + (nI j5))))) else (L4_emptiesOf_5 u a1 a2 n5 (j5 + 1) x3_5)))
def F4_emptiesOf (u : bU) (a1 : Int32) (a2 : Int32) : Int32 := (L4_emptiesOf_5 u a1 a2 (8 + 1) 0 0)
set_option maxHeartbeats 4000000 in
set_option maxRecDepth 100000 in
theorem C4_emptiesOf (l : Launch) (D : va_G) (cI cO : ClassId) (q : Nat → Nat) (u : bU) (H0 : Heap) (hP : va_P D vwCl (wC cI cO q u) H0) (a1 : Int32) (a2 : Int32) : Met l yX4_emptiesOf wsX4_emptiesOf ({ frames := 2, cells := 0, slots := 0, locals := 43 }) (bP D [(cI, .int), (cO, .object RX2)] H0 [.ref (q 1), .int a1, .int a2]) (bRi H0 (F4_emptiesOf u a1 a2)) 0 0 (fun _ => False) := by
  refine Met.ofW (cc := cX4_emptiesOf) (maxL := 5) (ret := (some .int)) (by decide) rfl ?_
  intro p e s m args below meth c s₁ B hml hv
  obtain ⟨rfl, hH, hk⟩ := hv
  subst hH
  have hx := B.exec
  have hb := B.bytes
  have hr := B.returns
  have hts := atoms_spec (ws := wsX4_emptiesOf) B.pre
  have hown : s.vm.findClass RX4 = some m.cls := findClass_of_methodNamed B.named
  have hlocks := B.notSynchronized
  have iX4 : ∀ w ∈ wsX40, w ∈ wsX4_emptiesOf := by decide +kernel
  have hS : va_S (fun _ => False) s.heap s.heap [] := va_S.rf
  have hl := lv_entry ([.ref (q 1), .int a1, .int a2]) (n := 5) (Nat.le_of_ble_eq_true rfl)
  rw [lg_entry_eq]
  generalize (lg_sl ([.ref (q 1), .int a1, .int a2]) ++ List.replicate (5 - (lg_sl ([.ref (q 1), .int a1, .int a2])).length) Slot.unset).toArray = ls at hl ⊢
  have hl : lv_has ls 5 [(0, .ref (q 1)), (1, .int a1), (2, .int a2)] := hl
  generalize hF : F4_emptiesOf u a1 a2 = tgt
  refine lv_iconst (v := 0) hx hb dX4_emptiesOf_0 (by decide) ?_
  refine lv_istore_n (lv' := [(3, .int 0), (0, .ref (q 1)), (1, .int a1), (2, .int a2)]) hx hb dX4_emptiesOf_1 rfl hl (by decide) rfl (fun ls hl => ?_)
  refine lv_iconst (v := 0) hx hb dX4_emptiesOf_2 (by decide) ?_
  refine lv_istore (lv' := [(4, .int 0), (3, .int 0), (0, .ref (q 1)), (1, .int a1), (2, .int a2)]) hx hb dX4_emptiesOf_3 hl (by decide) rfl (fun ls hl => ?_)
  have loop5 : ∀ (n5 j5 : Nat) (x3_5 : Int32) (locs : List Loc) (ls : Array Slot), j5 ≤ 8 → 8 + 1 ≤ n5 + j5 → lv_has ls 5 [(0, .ref (q 1)), (1, .int a1), (2, .int a2), (3, .int x3_5), (4, .int (nI j5))] → va_S (fun _ => False) s.heap s.heap locs → ∀ X : Int32, L4_emptiesOf_5 u a1 a2  n5 j5 x3_5 = X → (∀ (locs : List Loc) (ls : Array Slot), lv_has ls 5 [(0, .ref (q 1)), (1, .int a1), (2, .int a2), (3, .int X)] → va_S (fun _ => False) s.heap s.heap locs → W p l e (headSpec wsX4_emptiesOf ({ frames := 2, cells := 0, slots := 0, locals := 43 })).room s m ([.ref (q 1), .int a1, .int a2] : List Value).toArray below meth c s.heap locs 0 0 (MQ below (bRi s.heap tgt) ([.ref (q 1), .int a1, .int a2] : List Value).toArray s 0 0 (fun _ => False)) (F0 m 48 ls [])) → W p l e (headSpec wsX4_emptiesOf ({ frames := 2, cells := 0, slots := 0, locals := 43 })).room s m ([.ref (q 1), .int a1, .int a2] : List Value).toArray below meth c s.heap locs 0 0 (MQ below (bRi s.heap tgt) ([.ref (q 1), .int a1, .int a2] : List Value).toArray s 0 0 (fun _ => False)) (F0 m 5 ls []) := by
    intro n5
    induction n5 with
    | zero => intro j5 x3_5 locs ls hj hn; exact absurd hn (by omega)
    | succ n5 ih =>
      intro j5 x3_5 locs ls hj hn hl hS X hF kx
      refine lv_iload hx hb dX4_emptiesOf_5 (lv_at hl 4 rfl) ?_
      refine lv_bipush (v := 8) hx hb dX4_emptiesOf_7 (by decide) ?_
      refine lv_icmp_ge (tgt := 48) hx hb dX4_emptiesOf_9 (by decide) (fun c_1 => ?_) (fun c_1 => ?_)
      · obtain rfl : X = x3_5 := by rw [← hF, L4_emptiesOf_5, if_pos c_1]
        exact kx _ _ (lv_sub hl [0, 1, 2, 3] rfl) hS
      · have hlt_2 : j5 < 8 := bLt c_1 (by omega) (by decide)
        refine lv_aload_n hx hb dX4_emptiesOf_12 rfl (lv_at hl 0 rfl) ?_
        refine va_get (D := D) (ci := 4) (C := RX4) (T := TX4) (N := 2) hx hb hts iX4 hown hk.1 hP 1 (wC_1 _ _ _ _) rfl 0 (by decide) (hts (.fieldLink RX4 12 "BottleLoop$Trade" "state" "LBottleLoop$State;") (List.mem_of_getElem? (i := 1) rfl)) (fun _ h9 => h9) rfl dX4_emptiesOf_13 ?_
        refine lv_iload hx hb dX4_emptiesOf_16 (lv_at hl 4 rfl) ?_
        refine lv_iconst (v := 0) hx hb dX4_emptiesOf_18 (by decide) ?_
        refine bcall_Ri (va_runVN (As := [.int (nI j5), .int 0]) (rest := []) ⟨hx, hb, hml, hown, hts⟩ (C2_ofBrand l D cI cO q _ _ hP (nI j5) 0) ⟨va_cnB 2 hts gX4_emptiesOf_X2_ofBrand_n22 rfl rfl rfl (hk.2 (.methodLinkNest RX4 22 yX2_ofBrand RX5) (List.mem_of_getElem? (i := 20) rfl)) (hts (.initialized RX2) (List.mem_of_getElem? (i := 3) rfl)) bd_X2ofBrand ⟨Nat.le_of_ble_eq_true rfl, Nat.le_of_ble_eq_true rfl⟩, (hts (.instanceMethod yX2_ofBrand) (List.mem_of_getElem? (i := 2) rfl)), (hts (.selects RX2 yX2_ofBrand yX2_ofBrand) (List.mem_of_getElem? (i := 4) rfl))⟩ (bPV hk (va_recv hk.1 hP (ci := 2) (q0 := 3) rfl (wC_3 _ _ _ _))) rfl rfl hl.1 rfl (lv_room (Nat.le_of_ble_eq_true rfl)) dX4_emptiesOf_19 ⟨Nat.zero_le _, Nat.zero_le _⟩) hS (fun locs hS => ?_)
        refine lv_iload_n hx hb dX4_emptiesOf_22 rfl (lv_at hl 2 rfl) ?_
        refine lv_icmp_ne (tgt := 42) hx hb dX4_emptiesOf_23 (by decide) (fun c_3 => ?_) (fun c_3 => ?_)
        · refine lv_iinc (v := (nI (j5 + 1))) (lv' := [(4, .int (nI (j5 + 1))), (0, .ref (q 1)), (1, .int a1), (2, .int a2), (3, .int x3_5)]) hx hb dX4_emptiesOf_42 hl (k := 4) rfl (bInc j5) (by decide) rfl (fun ls hl => ?_)
          refine lv_goto (tgt := 5) hx hb dX4_emptiesOf_45 (by decide) ?_
          exact ih (j5 + 1) x3_5 _ _ (by omega) (by omega) (lv_sub hl [1, 2, 3, 4, 0] rfl) hS X (by rw [← hF, L4_emptiesOf_5, if_neg c_1, if_neg c_3]) kx
        · refine lv_iload_n hx hb dX4_emptiesOf_26 rfl (lv_at hl 3 rfl) ?_
          refine lv_aload_n hx hb dX4_emptiesOf_27 rfl (lv_at hl 0 rfl) ?_
          refine va_get (D := D) (ci := 4) (C := RX4) (T := TX4) (N := 2) hx hb hts iX4 hown hk.1 hP 1 (wC_1 _ _ _ _) rfl 0 (by decide) (hts (.fieldLink RX4 12 "BottleLoop$Trade" "state" "LBottleLoop$State;") (List.mem_of_getElem? (i := 1) rfl)) (fun _ h9 => h9) rfl dX4_emptiesOf_28 ?_
          refine lv_iload_n hx hb dX4_emptiesOf_31 rfl (lv_at hl 1 rfl) ?_
          refine lv_bipush (v := 20) hx hb dX4_emptiesOf_32 (by decide) ?_
          refine lv_iload hx hb dX4_emptiesOf_34 (lv_at hl 4 rfl) ?_
          refine lv_iadd hx hb dX4_emptiesOf_36 ?_
          refine bcall_Ri (va_runVN (As := [.int a1, .int (20 + (nI j5))]) (rest := [.int x3_5]) ⟨hx, hb, hml, hown, hts⟩ (C2_ofShop l D cI cO q _ _ hP a1 (20 + (nI j5))) ⟨va_cnB 2 hts gX4_emptiesOf_X2_ofShop_n36 rfl rfl rfl (hk.2 (.methodLinkNest RX4 36 yX2_ofShop RX5) (List.mem_of_getElem? (i := 26) rfl)) (hts (.initialized RX2) (List.mem_of_getElem? (i := 3) rfl)) bd_X2ofShop ⟨Nat.le_of_ble_eq_true rfl, Nat.le_of_ble_eq_true rfl⟩, (hts (.instanceMethod yX2_ofShop) (List.mem_of_getElem? (i := 11) rfl)), (hts (.selects RX2 yX2_ofShop yX2_ofShop) (List.mem_of_getElem? (i := 12) rfl))⟩ (bPV hk (va_recv hk.1 hP (ci := 2) (q0 := 3) rfl (wC_3 _ _ _ _))) rfl rfl hl.1 rfl (lv_room (Nat.le_of_ble_eq_true rfl)) dX4_emptiesOf_37 ⟨Nat.zero_le _, Nat.zero_le _⟩) hS (fun locs hS => ?_)
          refine lv_iadd hx hb dX4_emptiesOf_40 ?_
          refine lv_istore_n (lv' := [(3, .int (x3_5 + (F2_ofShop u a1 (20 + (nI j5))))), (0, .ref (q 1)), (1, .int a1), (2, .int a2), (4, .int (nI j5))]) hx hb dX4_emptiesOf_41 rfl hl (by decide) rfl (fun ls hl => ?_)
          refine lv_iinc (v := (nI (j5 + 1))) (lv' := [(4, .int (nI (j5 + 1))), (3, .int (x3_5 + (F2_ofShop u a1 (20 + (nI j5))))), (0, .ref (q 1)), (1, .int a1), (2, .int a2)]) hx hb dX4_emptiesOf_42 hl (k := 4) rfl (bInc j5) (by decide) rfl (fun ls hl => ?_)
          refine lv_goto (tgt := 5) hx hb dX4_emptiesOf_45 (by decide) ?_
          exact ih (j5 + 1) (x3_5 + (F2_ofShop u a1 (20 + (nI j5)))) _ _ (by omega) (by omega) (lv_sub hl [2, 3, 4, 1, 0] rfl) hS X (by rw [← hF, L4_emptiesOf_5, if_neg c_1, if_pos c_3]) kx
  refine loop5 (8 + 1) 0 0 _ _ (by omega) (by omega) (lv_sub hl [2, 3, 4, 1, 0] rfl) hS _ rfl (fun locs ls hl hS => ?_)
  refine lv_iload_n hx hb dX4_emptiesOf_48 rfl (lv_at hl 3 rfl) ?_
  exact bret_Ri hx hb hr hS hlocks dX4_emptiesOf_49 (by rw [← hF, F4_emptiesOf])
def F4_collectReason (u : bU) (a1 : Int32) (a2 : Int32) (a3 : Int32) : Int32 := (if (12 * a3) ≤ (F4_emptiesOf u a1 a2) then (if a3 ≤ (F2_ofShop u a1 1) then 0 else 2) else 1)
set_option maxHeartbeats 4000000 in
set_option maxRecDepth 100000 in
theorem C4_collectReason (l : Launch) (D : va_G) (cI cO : ClassId) (q : Nat → Nat) (u : bU) (H0 : Heap) (hP : va_P D vwCl (wC cI cO q u) H0) (a1 : Int32) (a2 : Int32) (a3 : Int32) : Met l yX4_collectReason wsX4_collectReason ({ frames := 3, cells := 0, slots := 0, locals := 67 }) (bP D [(cI, .int), (cO, .object RX2)] H0 [.ref (q 1), .int a1, .int a2, .int a3]) (bRi H0 (F4_collectReason u a1 a2 a3)) 0 0 (fun _ => False) := by
  refine Met.ofW (cc := cX4_collectReason) (maxL := 4) (ret := (some .int)) (by decide) rfl ?_
  intro p e s m args below meth c s₁ B hml hv
  obtain ⟨rfl, hH, hk⟩ := hv
  subst hH
  have hx := B.exec
  have hb := B.bytes
  have hr := B.returns
  have hts := atoms_spec (ws := wsX4_collectReason) B.pre
  have hown : s.vm.findClass RX4 = some m.cls := findClass_of_methodNamed B.named
  have hlocks := B.notSynchronized
  have iX4 : ∀ w ∈ wsX40, w ∈ wsX4_collectReason := by decide +kernel
  have hS : va_S (fun _ => False) s.heap s.heap [] := va_S.rf
  have hl := lv_entry ([.ref (q 1), .int a1, .int a2, .int a3]) (n := 4) (Nat.le_of_ble_eq_true rfl)
  rw [lg_entry_eq]
  generalize (lg_sl ([.ref (q 1), .int a1, .int a2, .int a3]) ++ List.replicate (4 - (lg_sl ([.ref (q 1), .int a1, .int a2, .int a3])).length) Slot.unset).toArray = ls at hl ⊢
  have hl : lv_has ls 4 [(0, .ref (q 1)), (1, .int a1), (2, .int a2), (3, .int a3)] := hl
  generalize hF : F4_collectReason u a1 a2 a3 = tgt
  refine lv_aload_n hx hb dX4_collectReason_0 rfl (lv_at hl 0 rfl) ?_
  refine lv_iload_n hx hb dX4_collectReason_1 rfl (lv_at hl 1 rfl) ?_
  refine lv_iload_n hx hb dX4_collectReason_2 rfl (lv_at hl 2 rfl) ?_
  refine bcall_Ri (va_runV (As := [.int a1, .int a2]) (rest := []) ⟨hx, hb, hml, hown, hts⟩ (C4_emptiesOf l D cI cO q _ _ hP a1 a2) (cwV 2 hts gX4_collectReason_X4_emptiesOf rfl rfl rfl ⟨rfl, bd_X4emptiesOf⟩ ⟨Nat.le_of_ble_eq_true rfl, Nat.le_of_ble_eq_true rfl⟩) (bPV hk (va_recv hk.1 hP (ci := 4) (q0 := 1) rfl (wC_1 _ _ _ _))) rfl rfl hl.1 rfl (lv_room (Nat.le_of_ble_eq_true rfl)) dX4_collectReason_3 ⟨Nat.zero_le _, Nat.zero_le _⟩) hS (fun locs hS => ?_)
  refine lv_bipush (v := 12) hx hb dX4_collectReason_6 (by decide) ?_
  refine lv_iload_n hx hb dX4_collectReason_8 rfl (lv_at hl 3 rfl) ?_
  refine lv_imul hx hb dX4_collectReason_9 ?_
  refine lv_icmp_ge (tgt := 15) hx hb dX4_collectReason_10 (by decide) (fun c_1 => ?_) (fun c_1 => ?_)
  · refine lv_aload_n hx hb dX4_collectReason_15 rfl (lv_at hl 0 rfl) ?_
    refine va_get (D := D) (ci := 4) (C := RX4) (T := TX4) (N := 2) hx hb hts iX4 hown hk.1 hP 1 (wC_1 _ _ _ _) rfl 0 (by decide) (hts (.fieldLink RX4 12 "BottleLoop$Trade" "state" "LBottleLoop$State;") (List.mem_of_getElem? (i := 1) rfl)) (fun _ h9 => h9) rfl dX4_collectReason_16 ?_
    refine lv_iload_n hx hb dX4_collectReason_19 rfl (lv_at hl 1 rfl) ?_
    refine lv_iconst (v := 1) hx hb dX4_collectReason_20 (by decide) ?_
    refine bcall_Ri (va_runVN (As := [.int a1, .int 1]) (rest := []) ⟨hx, hb, hml, hown, hts⟩ (C2_ofShop l D cI cO q _ _ hP a1 1) ⟨va_cnB 2 hts gX4_collectReason_X2_ofShop_n36 rfl rfl rfl (hk.2 (.methodLinkNest RX4 36 yX2_ofShop RX5) (List.mem_of_getElem? (i := 26) rfl)) (hts (.initialized RX2) (List.mem_of_getElem? (i := 8) rfl)) bd_X2ofShop ⟨Nat.le_of_ble_eq_true rfl, Nat.le_of_ble_eq_true rfl⟩, (hts (.instanceMethod yX2_ofShop) (List.mem_of_getElem? (i := 16) rfl)), (hts (.selects RX2 yX2_ofShop yX2_ofShop) (List.mem_of_getElem? (i := 17) rfl))⟩ (bPV hk (va_recv hk.1 hP (ci := 2) (q0 := 3) rfl (wC_3 _ _ _ _))) rfl rfl hl.1 rfl (lv_room (Nat.le_of_ble_eq_true rfl)) dX4_collectReason_21 ⟨Nat.zero_le _, Nat.zero_le _⟩) hS (fun locs hS => ?_)
    refine lv_iload_n hx hb dX4_collectReason_24 rfl (lv_at hl 3 rfl) ?_
    refine lv_icmp_ge (tgt := 32) hx hb dX4_collectReason_25 (by decide) (fun c_2 => ?_) (fun c_2 => ?_)
    · refine lv_iconst (v := 0) hx hb dX4_collectReason_32 (by decide) ?_
      exact bret_Ri hx hb hr hS hlocks dX4_collectReason_33 (by rw [← hF, F4_collectReason, if_pos c_1, if_pos c_2])
    · refine lv_iconst (v := 2) hx hb dX4_collectReason_28 (by decide) ?_
      refine lv_goto (tgt := 33) hx hb dX4_collectReason_29 (by decide) ?_
      exact bret_Ri hx hb hr hS hlocks dX4_collectReason_33 (by rw [← hF, F4_collectReason, if_pos c_1, if_neg c_2])
  · refine lv_iconst (v := 1) hx hb dX4_collectReason_13 (by decide) ?_
    exact bret_Ri hx hb hr hS hlocks dX4_collectReason_14 (by rw [← hF, F4_collectReason, if_neg c_1])
def F4_wornBy (u : bU) (a1 : Int32) (a2 : Int32) : Int32 := (if (F2_ofSetting u 5) ≤ 0 then 0 else ((((F2_ofBrand u a1 10) + a2) / (F2_ofSetting u 5)) - ((F2_ofBrand u a1 10) / (F2_ofSetting u 5))))
set_option maxHeartbeats 4000000 in
set_option maxRecDepth 100000 in
theorem C4_wornBy (l : Launch) (D : va_G) (cI cO : ClassId) (q : Nat → Nat) (u : bU) (H0 : Heap) (hP : va_P D vwCl (wC cI cO q u) H0) (a1 : Int32) (a2 : Int32) : Met l yX4_wornBy wsX4_wornBy ({ frames := 2, cells := 0, slots := 0, locals := 43 }) (bP D [(cI, .int), (cO, .object RX2)] H0 [.ref (q 1), .int a1, .int a2]) (bRi H0 (F4_wornBy u a1 a2)) 0 0 (fun _ => False) := by
  refine Met.ofW (cc := cX4_wornBy) (maxL := 5) (ret := (some .int)) (by decide) rfl ?_
  intro p e s m args below meth c s₁ B hml hv
  obtain ⟨rfl, hH, hk⟩ := hv
  subst hH
  have hx := B.exec
  have hb := B.bytes
  have hr := B.returns
  have hts := atoms_spec (ws := wsX4_wornBy) B.pre
  have hown : s.vm.findClass RX4 = some m.cls := findClass_of_methodNamed B.named
  have hlocks := B.notSynchronized
  have iX4 : ∀ w ∈ wsX40, w ∈ wsX4_wornBy := by decide +kernel
  have hS : va_S (fun _ => False) s.heap s.heap [] := va_S.rf
  have hl := lv_entry ([.ref (q 1), .int a1, .int a2]) (n := 5) (Nat.le_of_ble_eq_true rfl)
  rw [lg_entry_eq]
  generalize (lg_sl ([.ref (q 1), .int a1, .int a2]) ++ List.replicate (5 - (lg_sl ([.ref (q 1), .int a1, .int a2])).length) Slot.unset).toArray = ls at hl ⊢
  have hl : lv_has ls 5 [(0, .ref (q 1)), (1, .int a1), (2, .int a2)] := hl
  generalize hF : F4_wornBy u a1 a2 = tgt
  refine lv_aload_n hx hb dX4_wornBy_0 rfl (lv_at hl 0 rfl) ?_
  refine va_get (D := D) (ci := 4) (C := RX4) (T := TX4) (N := 2) hx hb hts iX4 hown hk.1 hP 1 (wC_1 _ _ _ _) rfl 0 (by decide) (hts (.fieldLink RX4 12 "BottleLoop$Trade" "state" "LBottleLoop$State;") (List.mem_of_getElem? (i := 1) rfl)) (fun _ h9 => h9) rfl dX4_wornBy_1 ?_
  refine lv_iconst (v := 5) hx hb dX4_wornBy_4 (by decide) ?_
  refine bcall_Ri (va_runVN (As := [.int 5]) (rest := []) ⟨hx, hb, hml, hown, hts⟩ (C2_ofSetting l D cI cO q _ _ hP 5) ⟨va_cnB 1 hts gX4_wornBy_X2_ofSetting_n26 rfl rfl rfl (hk.2 (.methodLinkNest RX4 26 yX2_ofSetting RX5) (List.mem_of_getElem? (i := 19) rfl)) (hts (.initialized RX2) (List.mem_of_getElem? (i := 3) rfl)) bd_X2ofSetting ⟨Nat.le_of_ble_eq_true rfl, Nat.le_of_ble_eq_true rfl⟩, (hts (.instanceMethod yX2_ofSetting) (List.mem_of_getElem? (i := 2) rfl)), (hts (.selects RX2 yX2_ofSetting yX2_ofSetting) (List.mem_of_getElem? (i := 4) rfl))⟩ (bPV hk (va_recv hk.1 hP (ci := 2) (q0 := 3) rfl (wC_3 _ _ _ _))) rfl rfl hl.1 rfl (lv_room (Nat.le_of_ble_eq_true rfl)) dX4_wornBy_5 ⟨Nat.zero_le _, Nat.zero_le _⟩) hS (fun locs hS => ?_)
  refine lv_istore_n (lv' := [(3, .int (F2_ofSetting u 5)), (0, .ref (q 1)), (1, .int a1), (2, .int a2)]) hx hb dX4_wornBy_8 rfl hl (by decide) rfl (fun ls hl => ?_)
  refine lv_aload_n hx hb dX4_wornBy_9 rfl (lv_at hl 1 rfl) ?_
  refine va_get (D := D) (ci := 4) (C := RX4) (T := TX4) (N := 2) hx hb hts iX4 hown hk.1 hP 1 (wC_1 _ _ _ _) rfl 0 (by decide) (hts (.fieldLink RX4 12 "BottleLoop$Trade" "state" "LBottleLoop$State;") (List.mem_of_getElem? (i := 1) rfl)) (fun _ h9 => h9) rfl dX4_wornBy_10 ?_
  refine lv_iload_n hx hb dX4_wornBy_13 rfl (lv_at hl 2 rfl) ?_
  refine lv_bipush (v := 10) hx hb dX4_wornBy_14 (by decide) ?_
  refine bcall_Ri (va_runVN (As := [.int a1, .int 10]) (rest := []) ⟨hx, hb, hml, hown, hts⟩ (C2_ofBrand l D cI cO q _ _ hP a1 10) ⟨va_cnB 2 hts gX4_wornBy_X2_ofBrand_n22 rfl rfl rfl (hk.2 (.methodLinkNest RX4 22 yX2_ofBrand RX5) (List.mem_of_getElem? (i := 20) rfl)) (hts (.initialized RX2) (List.mem_of_getElem? (i := 3) rfl)) bd_X2ofBrand ⟨Nat.le_of_ble_eq_true rfl, Nat.le_of_ble_eq_true rfl⟩, (hts (.instanceMethod yX2_ofBrand) (List.mem_of_getElem? (i := 11) rfl)), (hts (.selects RX2 yX2_ofBrand yX2_ofBrand) (List.mem_of_getElem? (i := 12) rfl))⟩ (bPV hk (va_recv hk.1 hP (ci := 2) (q0 := 3) rfl (wC_3 _ _ _ _))) rfl rfl hl.1 rfl (lv_room (Nat.le_of_ble_eq_true rfl)) dX4_wornBy_16 ⟨Nat.zero_le _, Nat.zero_le _⟩) hS (fun locs hS => ?_)
  refine lv_istore (lv' := [(4, .int (F2_ofBrand u a1 10)), (3, .int (F2_ofSetting u 5)), (0, .ref (q 1)), (1, .int a1), (2, .int a2)]) hx hb dX4_wornBy_19 hl (by decide) rfl (fun ls hl => ?_)
  refine lv_iload_n hx hb dX4_wornBy_21 rfl (lv_at hl 1 rfl) ?_
  refine lv_if_le (tgt := 39) hx hb dX4_wornBy_22 (by decide) (fun c_1 => ?_) (fun c_1 => ?_)
  · refine lv_iconst (v := 0) hx hb dX4_wornBy_39 (by decide) ?_
    exact bret_Ri hx hb hr hS hlocks dX4_wornBy_40 (by rw [← hF, F4_wornBy, if_pos c_1])
  · refine lv_iload hx hb dX4_wornBy_25 (lv_at hl 0 rfl) ?_
    refine lv_iload_n hx hb dX4_wornBy_27 rfl (lv_at hl 4 rfl) ?_
    refine lv_iadd hx hb dX4_wornBy_28 ?_
    refine lv_iload_n hx hb dX4_wornBy_29 rfl (lv_at hl 1 rfl) ?_
    refine lv_idiv hx hb dX4_wornBy_30 (bNleNe c_1) ?_
    refine lv_iload hx hb dX4_wornBy_31 (lv_at hl 0 rfl) ?_
    refine lv_iload_n hx hb dX4_wornBy_33 rfl (lv_at hl 1 rfl) ?_
    refine lv_idiv hx hb dX4_wornBy_34 (bNleNe c_1) ?_
    refine lv_isub hx hb dX4_wornBy_35 ?_
    refine lv_goto (tgt := 40) hx hb dX4_wornBy_36 (by decide) ?_
    exact bret_Ri hx hb hr hS hlocks dX4_wornBy_40 (by rw [← hF, F4_wornBy, if_neg c_1])
def F4_fillBottles (u : bU) (a1 : Int32) (a2 : Int32) : Int32 × bU := ((a2 - (F4_wornBy u a1 a2)), (F2_addToBrand (F2_addToBrand (F2_addToBrand (F2_addToBrand u a1 1 (-a2)) a1 2 (a2 - (F4_wornBy u a1 a2))) a1 9 (F4_wornBy u a1 a2)) a1 10 a2))
set_option maxHeartbeats 4000000 in
set_option maxRecDepth 100000 in
theorem C4_fillBottles (l : Launch) (D : va_G) (cI cO : ClassId) (q : Nat → Nat) (u : bU) (H0 : Heap) (hq : bInj 23 q) (hP : va_P D vwCl (wC cI cO q u) H0) (a1 : Int32) (a2 : Int32) : Met l yX4_fillBottles wsX4_fillBottles ({ frames := 3, cells := 0, slots := 0, locals := 67 }) (bP D [(cI, .int), (cO, .object RX2)] H0 [.ref (q 1), .int a1, .int a2]) (bWi D (wC cI cO q) bT (bA 23 q H0.size) (F4_fillBottles u a1 a2)) 0 0 (bA 23 q H0.size) := by
  refine Met.ofW (cc := cX4_fillBottles) (maxL := 4) (ret := (some .int)) (by decide) rfl ?_
  intro p e s m args below meth c s₁ B hml hv
  obtain ⟨rfl, hH, hk⟩ := hv
  subst hH
  have hx := B.exec
  have hb := B.bytes
  have hr := B.returns
  have hts := atoms_spec (ws := wsX4_fillBottles) B.pre
  have hown : s.vm.findClass RX4 = some m.cls := findClass_of_methodNamed B.named
  have hlocks := B.notSynchronized
  have iX4 : ∀ w ∈ wsX40, w ∈ wsX4_fillBottles := by decide +kernel
  have hS : va_S (bA 23 q s.heap.size) s.heap s.heap [] := va_S.rf
  have hl := lv_entry ([.ref (q 1), .int a1, .int a2]) (n := 4) (Nat.le_of_ble_eq_true rfl)
  rw [lg_entry_eq]
  generalize (lg_sl ([.ref (q 1), .int a1, .int a2]) ++ List.replicate (4 - (lg_sl ([.ref (q 1), .int a1, .int a2])).length) Slot.unset).toArray = ls at hl ⊢
  have hl : lv_has ls 4 [(0, .ref (q 1)), (1, .int a1), (2, .int a2)] := hl
  generalize hF : F4_fillBottles u a1 a2 = tgt
  refine lv_aload_n hx hb dX4_fillBottles_0 rfl (lv_at hl 0 rfl) ?_
  refine lv_iload_n hx hb dX4_fillBottles_1 rfl (lv_at hl 1 rfl) ?_
  refine lv_iload_n hx hb dX4_fillBottles_2 rfl (lv_at hl 2 rfl) ?_
  refine bcall_Ri (va_runV (As := [.int a1, .int a2]) (rest := []) ⟨hx, hb, hml, hown, hts⟩ (C4_wornBy l D cI cO q _ _ hP a1 a2) (cwV 2 hts gX4_fillBottles_X4_wornBy rfl rfl rfl ⟨rfl, bd_X4wornBy⟩ ⟨Nat.le_of_ble_eq_true rfl, Nat.le_of_ble_eq_true rfl⟩) (bPV hk (va_recv hk.1 hP (ci := 4) (q0 := 1) rfl (wC_1 _ _ _ _))) rfl rfl hl.1 rfl (lv_room (Nat.le_of_ble_eq_true rfl)) dX4_fillBottles_3 ⟨Nat.zero_le _, Nat.zero_le _⟩) hS (fun locs hS => ?_)
  refine lv_istore_n (lv' := [(3, .int (F4_wornBy u a1 a2)), (0, .ref (q 1)), (1, .int a1), (2, .int a2)]) hx hb dX4_fillBottles_6 rfl hl (by decide) rfl (fun ls hl => ?_)
  refine lv_aload_n hx hb dX4_fillBottles_7 rfl (lv_at hl 1 rfl) ?_
  refine va_get (D := D) (ci := 4) (C := RX4) (T := TX4) (N := 2) hx hb hts iX4 hown hk.1 hP 1 (wC_1 _ _ _ _) rfl 0 (by decide) (hts (.fieldLink RX4 12 "BottleLoop$Trade" "state" "LBottleLoop$State;") (List.mem_of_getElem? (i := 1) rfl)) (fun _ h9 => h9) rfl dX4_fillBottles_8 ?_
  refine lv_iload_n hx hb dX4_fillBottles_11 rfl (lv_at hl 2 rfl) ?_
  refine lv_iconst (v := 1) hx hb dX4_fillBottles_12 (by decide) ?_
  refine lv_iload_n hx hb dX4_fillBottles_13 rfl (lv_at hl 3 rfl) ?_
  refine lv_ineg hx hb dX4_fillBottles_14 ?_
  refine bcall_Wv (va_runVN (As := [.int a1, .int 1, .int (-a2)]) (rest := []) ⟨hx, hb, hml, hown, hts⟩ (C2_addToBrand l D cI cO q _ _ hq hP a1 1 (-a2)) ⟨va_cnB 3 hts gX4_fillBottles_X2_addToBrand_n54 rfl rfl rfl (hk.2 (.methodLinkNest RX4 54 yX2_addToBrand RX5) (List.mem_of_getElem? (i := 21) rfl)) (hts (.initialized RX2) (List.mem_of_getElem? (i := 8) rfl)) bd_X2addToBrand ⟨Nat.le_of_ble_eq_true rfl, Nat.le_of_ble_eq_true rfl⟩, (hts (.instanceMethod yX2_addToBrand) (List.mem_of_getElem? (i := 19) rfl)), (hts (.selects RX2 yX2_addToBrand yX2_addToBrand) (List.mem_of_getElem? (i := 20) rfl))⟩ (bPV hk (va_recv hk.1 hP (ci := 2) (q0 := 3) rfl (wC_3 _ _ _ _))) rfl rfl hl.1 rfl (lv_room (Nat.le_of_ble_eq_true rfl)) dX4_fillBottles_15 ⟨Nat.zero_le _, Nat.zero_le _⟩) hS (fun H locs hP _ hS => ?_)
  refine lv_aload_n hx hb dX4_fillBottles_18 rfl (lv_at hl 1 rfl) ?_
  refine va_get (D := D) (ci := 4) (C := RX4) (T := TX4) (N := 2) hx hb hts iX4 hown hk.1 hP 1 (wC_1 _ _ _ _) rfl 0 (by decide) (hts (.fieldLink RX4 12 "BottleLoop$Trade" "state" "LBottleLoop$State;") (List.mem_of_getElem? (i := 1) rfl)) (fun _ h9 => h9) rfl dX4_fillBottles_19 ?_
  refine lv_iload_n hx hb dX4_fillBottles_22 rfl (lv_at hl 2 rfl) ?_
  refine lv_iconst (v := 2) hx hb dX4_fillBottles_23 (by decide) ?_
  refine lv_iload_n hx hb dX4_fillBottles_24 rfl (lv_at hl 3 rfl) ?_
  refine lv_iload_n hx hb dX4_fillBottles_25 rfl (lv_at hl 0 rfl) ?_
  refine lv_isub hx hb dX4_fillBottles_26 ?_
  refine bcall_Wv (va_runVN (As := [.int a1, .int 2, .int (a2 - (F4_wornBy u a1 a2))]) (rest := []) ⟨hx, hb, hml, hown, hts⟩ (C2_addToBrand l D cI cO q _ _ hq hP a1 2 (a2 - (F4_wornBy u a1 a2))) ⟨va_cnB 3 hts gX4_fillBottles_X2_addToBrand_n54 rfl rfl rfl (hk.2 (.methodLinkNest RX4 54 yX2_addToBrand RX5) (List.mem_of_getElem? (i := 21) rfl)) (hts (.initialized RX2) (List.mem_of_getElem? (i := 8) rfl)) bd_X2addToBrand ⟨Nat.le_of_ble_eq_true rfl, Nat.le_of_ble_eq_true rfl⟩, (hts (.instanceMethod yX2_addToBrand) (List.mem_of_getElem? (i := 19) rfl)), (hts (.selects RX2 yX2_addToBrand yX2_addToBrand) (List.mem_of_getElem? (i := 20) rfl))⟩ (bPV hk (va_recv hk.1 hP (ci := 2) (q0 := 3) rfl (wC_3 _ _ _ _))) rfl rfl hl.1 rfl (lv_room (Nat.le_of_ble_eq_true rfl)) dX4_fillBottles_27 ⟨Nat.zero_le _, Nat.zero_le _⟩) hS (fun H locs hP _ hS => ?_)
  refine lv_aload_n hx hb dX4_fillBottles_30 rfl (lv_at hl 1 rfl) ?_
  refine va_get (D := D) (ci := 4) (C := RX4) (T := TX4) (N := 2) hx hb hts iX4 hown hk.1 hP 1 (wC_1 _ _ _ _) rfl 0 (by decide) (hts (.fieldLink RX4 12 "BottleLoop$Trade" "state" "LBottleLoop$State;") (List.mem_of_getElem? (i := 1) rfl)) (fun _ h9 => h9) rfl dX4_fillBottles_31 ?_
  refine lv_iload_n hx hb dX4_fillBottles_34 rfl (lv_at hl 2 rfl) ?_
  refine lv_bipush (v := 9) hx hb dX4_fillBottles_35 (by decide) ?_
  refine lv_iload_n hx hb dX4_fillBottles_37 rfl (lv_at hl 0 rfl) ?_
  refine bcall_Wv (va_runVN (As := [.int a1, .int 9, .int (F4_wornBy u a1 a2)]) (rest := []) ⟨hx, hb, hml, hown, hts⟩ (C2_addToBrand l D cI cO q _ _ hq hP a1 9 (F4_wornBy u a1 a2)) ⟨va_cnB 3 hts gX4_fillBottles_X2_addToBrand_n54 rfl rfl rfl (hk.2 (.methodLinkNest RX4 54 yX2_addToBrand RX5) (List.mem_of_getElem? (i := 21) rfl)) (hts (.initialized RX2) (List.mem_of_getElem? (i := 8) rfl)) bd_X2addToBrand ⟨Nat.le_of_ble_eq_true rfl, Nat.le_of_ble_eq_true rfl⟩, (hts (.instanceMethod yX2_addToBrand) (List.mem_of_getElem? (i := 19) rfl)), (hts (.selects RX2 yX2_addToBrand yX2_addToBrand) (List.mem_of_getElem? (i := 20) rfl))⟩ (bPV hk (va_recv hk.1 hP (ci := 2) (q0 := 3) rfl (wC_3 _ _ _ _))) rfl rfl hl.1 rfl (lv_room (Nat.le_of_ble_eq_true rfl)) dX4_fillBottles_38 ⟨Nat.zero_le _, Nat.zero_le _⟩) hS (fun H locs hP _ hS => ?_)
  refine lv_aload_n hx hb dX4_fillBottles_41 rfl (lv_at hl 1 rfl) ?_
  refine va_get (D := D) (ci := 4) (C := RX4) (T := TX4) (N := 2) hx hb hts iX4 hown hk.1 hP 1 (wC_1 _ _ _ _) rfl 0 (by decide) (hts (.fieldLink RX4 12 "BottleLoop$Trade" "state" "LBottleLoop$State;") (List.mem_of_getElem? (i := 1) rfl)) (fun _ h9 => h9) rfl dX4_fillBottles_42 ?_
  refine lv_iload_n hx hb dX4_fillBottles_45 rfl (lv_at hl 2 rfl) ?_
  refine lv_bipush (v := 10) hx hb dX4_fillBottles_46 (by decide) ?_
  refine lv_iload_n hx hb dX4_fillBottles_48 rfl (lv_at hl 3 rfl) ?_
  refine bcall_Wv (va_runVN (As := [.int a1, .int 10, .int a2]) (rest := []) ⟨hx, hb, hml, hown, hts⟩ (C2_addToBrand l D cI cO q _ _ hq hP a1 10 a2) ⟨va_cnB 3 hts gX4_fillBottles_X2_addToBrand_n54 rfl rfl rfl (hk.2 (.methodLinkNest RX4 54 yX2_addToBrand RX5) (List.mem_of_getElem? (i := 21) rfl)) (hts (.initialized RX2) (List.mem_of_getElem? (i := 8) rfl)) bd_X2addToBrand ⟨Nat.le_of_ble_eq_true rfl, Nat.le_of_ble_eq_true rfl⟩, (hts (.instanceMethod yX2_addToBrand) (List.mem_of_getElem? (i := 19) rfl)), (hts (.selects RX2 yX2_addToBrand yX2_addToBrand) (List.mem_of_getElem? (i := 20) rfl))⟩ (bPV hk (va_recv hk.1 hP (ci := 2) (q0 := 3) rfl (wC_3 _ _ _ _))) rfl rfl hl.1 rfl (lv_room (Nat.le_of_ble_eq_true rfl)) dX4_fillBottles_49 ⟨Nat.zero_le _, Nat.zero_le _⟩) hS (fun H locs hP _ hS => ?_)
  refine lv_iload_n hx hb dX4_fillBottles_52 rfl (lv_at hl 3 rfl) ?_
  refine lv_iload_n hx hb dX4_fillBottles_53 rfl (lv_at hl 0 rfl) ?_
  refine lv_isub hx hb dX4_fillBottles_54 ?_
  exact bret_Wi hx hb hr hP trivial hS hlocks dX4_fillBottles_55 (by rw [← hF, F4_fillBottles])
def F4_deliverCrates (u : bU) (a1 : Int32) (a2 : Int32) (a3 : Int32) : Int32 × bU := (((a3 * (F4_crateDeposits u (F2_ofBrand u a1 0))) + (a3 * (F2_ofSetting u 4))), (F2_addToAll (F2_addToShop (F2_addToAll (F2_addToShop (F2_addToShop (F2_addToShop (F2_addToAll (F2_addToShop (F2_addToBrand u a1 2 ((-12) * a3)) a2 (10 + a1) (12 * a3)) 2 (-a3)) a2 1 a3) a2 0 ((-(a3 * (F4_crateDeposits u (F2_ofBrand u a1 0)))) - (a3 * (F2_ofSetting u 4)))) a2 4 (a3 * (F4_crateDeposits u (F2_ofBrand u a1 0)))) 4 (a3 * (F4_crateDeposits u (F2_ofBrand u a1 0)))) a2 5 (a3 * (F2_ofSetting u 4))) 6 (a3 * (F2_ofSetting u 4))))
set_option maxHeartbeats 4000000 in
set_option maxRecDepth 100000 in
theorem C4_deliverCrates (l : Launch) (D : va_G) (cI cO : ClassId) (q : Nat → Nat) (u : bU) (H0 : Heap) (hq : bInj 23 q) (hP : va_P D vwCl (wC cI cO q u) H0) (a1 : Int32) (a2 : Int32) (a3 : Int32) : Met l yX4_deliverCrates wsX4_deliverCrates ({ frames := 3, cells := 0, slots := 0, locals := 63 }) (bP D [(cI, .int), (cO, .object RX2)] H0 [.ref (q 1), .int a1, .int a2, .int a3]) (bWi D (wC cI cO q) bT (bA 23 q H0.size) (F4_deliverCrates u a1 a2 a3)) 0 0 (bA 23 q H0.size) := by
  refine Met.ofW (cc := cX4_deliverCrates) (maxL := 6) (ret := (some .int)) (by decide) rfl ?_
  intro p e s m args below meth c s₁ B hml hv
  obtain ⟨rfl, hH, hk⟩ := hv
  subst hH
  have hx := B.exec
  have hb := B.bytes
  have hr := B.returns
  have hts := atoms_spec (ws := wsX4_deliverCrates) B.pre
  have hown : s.vm.findClass RX4 = some m.cls := findClass_of_methodNamed B.named
  have hlocks := B.notSynchronized
  have iX4 : ∀ w ∈ wsX40, w ∈ wsX4_deliverCrates := by decide +kernel
  have hS : va_S (bA 23 q s.heap.size) s.heap s.heap [] := va_S.rf
  have hl := lv_entry ([.ref (q 1), .int a1, .int a2, .int a3]) (n := 6) (Nat.le_of_ble_eq_true rfl)
  rw [lg_entry_eq]
  generalize (lg_sl ([.ref (q 1), .int a1, .int a2, .int a3]) ++ List.replicate (6 - (lg_sl ([.ref (q 1), .int a1, .int a2, .int a3])).length) Slot.unset).toArray = ls at hl ⊢
  have hl : lv_has ls 6 [(0, .ref (q 1)), (1, .int a1), (2, .int a2), (3, .int a3)] := hl
  generalize hF : F4_deliverCrates u a1 a2 a3 = tgt
  refine lv_iload_n hx hb dX4_deliverCrates_0 rfl (lv_at hl 3 rfl) ?_
  refine lv_aload_n hx hb dX4_deliverCrates_1 rfl (lv_at hl 0 rfl) ?_
  refine lv_aload_n hx hb dX4_deliverCrates_2 rfl (lv_at hl 0 rfl) ?_
  refine va_get (D := D) (ci := 4) (C := RX4) (T := TX4) (N := 2) hx hb hts iX4 hown hk.1 hP 1 (wC_1 _ _ _ _) rfl 0 (by decide) (hts (.fieldLink RX4 12 "BottleLoop$Trade" "state" "LBottleLoop$State;") (List.mem_of_getElem? (i := 1) rfl)) (fun _ h9 => h9) rfl dX4_deliverCrates_3 ?_
  refine lv_iload_n hx hb dX4_deliverCrates_6 rfl (lv_at hl 1 rfl) ?_
  refine lv_iconst (v := 0) hx hb dX4_deliverCrates_7 (by decide) ?_
  refine bcall_Ri (va_runVN (As := [.int a1, .int 0]) (rest := [.ref (q 1), .int a3]) ⟨hx, hb, hml, hown, hts⟩ (C2_ofBrand l D cI cO q _ _ hP a1 0) ⟨va_cnB 2 hts gX4_deliverCrates_X2_ofBrand_n22 rfl rfl rfl (hk.2 (.methodLinkNest RX4 22 yX2_ofBrand RX5) (List.mem_of_getElem? (i := 20) rfl)) (hts (.initialized RX2) (List.mem_of_getElem? (i := 3) rfl)) bd_X2ofBrand ⟨Nat.le_of_ble_eq_true rfl, Nat.le_of_ble_eq_true rfl⟩, (hts (.instanceMethod yX2_ofBrand) (List.mem_of_getElem? (i := 2) rfl)), (hts (.selects RX2 yX2_ofBrand yX2_ofBrand) (List.mem_of_getElem? (i := 4) rfl))⟩ (bPV hk (va_recv hk.1 hP (ci := 2) (q0 := 3) rfl (wC_3 _ _ _ _))) rfl rfl hl.1 rfl (lv_room (Nat.le_of_ble_eq_true rfl)) dX4_deliverCrates_8 ⟨Nat.zero_le _, Nat.zero_le _⟩) hS (fun locs hS => ?_)
  refine bcall_Ri (va_runV (As := [.int (F2_ofBrand u a1 0)]) (rest := [.int a3]) ⟨hx, hb, hml, hown, hts⟩ (C4_crateDeposits l D cI cO q _ _ hP (F2_ofBrand u a1 0)) (cwV 1 hts gX4_deliverCrates_X4_crateDeposits rfl rfl rfl ⟨rfl, bd_X4crateDeposits⟩ ⟨Nat.le_of_ble_eq_true rfl, Nat.le_of_ble_eq_true rfl⟩) (bPV hk (va_recv hk.1 hP (ci := 4) (q0 := 1) rfl (wC_1 _ _ _ _))) rfl rfl hl.1 rfl (lv_room (Nat.le_of_ble_eq_true rfl)) dX4_deliverCrates_11 ⟨Nat.zero_le _, Nat.zero_le _⟩) hS (fun locs hS => ?_)
  refine lv_imul hx hb dX4_deliverCrates_14 ?_
  refine lv_istore (lv' := [(4, .int (a3 * (F4_crateDeposits u (F2_ofBrand u a1 0)))), (0, .ref (q 1)), (1, .int a1), (2, .int a2), (3, .int a3)]) hx hb dX4_deliverCrates_15 hl (by decide) rfl (fun ls hl => ?_)
  refine lv_iload_n hx hb dX4_deliverCrates_17 rfl (lv_at hl 4 rfl) ?_
  refine lv_aload_n hx hb dX4_deliverCrates_18 rfl (lv_at hl 1 rfl) ?_
  refine va_get (D := D) (ci := 4) (C := RX4) (T := TX4) (N := 2) hx hb hts iX4 hown hk.1 hP 1 (wC_1 _ _ _ _) rfl 0 (by decide) (hts (.fieldLink RX4 12 "BottleLoop$Trade" "state" "LBottleLoop$State;") (List.mem_of_getElem? (i := 1) rfl)) (fun _ h9 => h9) rfl dX4_deliverCrates_19 ?_
  refine lv_iconst (v := 4) hx hb dX4_deliverCrates_22 (by decide) ?_
  refine bcall_Ri (va_runVN (As := [.int 4]) (rest := [.int a3]) ⟨hx, hb, hml, hown, hts⟩ (C2_ofSetting l D cI cO q _ _ hP 4) ⟨va_cnB 1 hts gX4_deliverCrates_X2_ofSetting_n26 rfl rfl rfl (hk.2 (.methodLinkNest RX4 26 yX2_ofSetting RX5) (List.mem_of_getElem? (i := 19) rfl)) (hts (.initialized RX2) (List.mem_of_getElem? (i := 3) rfl)) bd_X2ofSetting ⟨Nat.le_of_ble_eq_true rfl, Nat.le_of_ble_eq_true rfl⟩, (hts (.instanceMethod yX2_ofSetting) (List.mem_of_getElem? (i := 16) rfl)), (hts (.selects RX2 yX2_ofSetting yX2_ofSetting) (List.mem_of_getElem? (i := 17) rfl))⟩ (bPV hk (va_recv hk.1 hP (ci := 2) (q0 := 3) rfl (wC_3 _ _ _ _))) rfl rfl hl.1 rfl (lv_room (Nat.le_of_ble_eq_true rfl)) dX4_deliverCrates_23 ⟨Nat.zero_le _, Nat.zero_le _⟩) hS (fun locs hS => ?_)
  refine lv_imul hx hb dX4_deliverCrates_26 ?_
  refine lv_istore (lv' := [(5, .int (a3 * (F2_ofSetting u 4))), (4, .int (a3 * (F4_crateDeposits u (F2_ofBrand u a1 0)))), (0, .ref (q 1)), (1, .int a1), (2, .int a2), (3, .int a3)]) hx hb dX4_deliverCrates_27 hl (by decide) rfl (fun ls hl => ?_)
  refine lv_aload_n hx hb dX4_deliverCrates_29 rfl (lv_at hl 2 rfl) ?_
  refine va_get (D := D) (ci := 4) (C := RX4) (T := TX4) (N := 2) hx hb hts iX4 hown hk.1 hP 1 (wC_1 _ _ _ _) rfl 0 (by decide) (hts (.fieldLink RX4 12 "BottleLoop$Trade" "state" "LBottleLoop$State;") (List.mem_of_getElem? (i := 1) rfl)) (fun _ h9 => h9) rfl dX4_deliverCrates_30 ?_
  refine lv_iload_n hx hb dX4_deliverCrates_33 rfl (lv_at hl 3 rfl) ?_
  refine lv_iconst (v := 2) hx hb dX4_deliverCrates_34 (by decide) ?_
  refine lv_bipush (v := (-12)) hx hb dX4_deliverCrates_35 (by decide) ?_
  refine lv_iload_n hx hb dX4_deliverCrates_37 rfl (lv_at hl 5 rfl) ?_
  refine lv_imul hx hb dX4_deliverCrates_38 ?_
  refine bcall_Wv (va_runVN (As := [.int a1, .int 2, .int ((-12) * a3)]) (rest := []) ⟨hx, hb, hml, hown, hts⟩ (C2_addToBrand l D cI cO q _ _ hq hP a1 2 ((-12) * a3)) ⟨va_cnB 3 hts gX4_deliverCrates_X2_addToBrand_n54 rfl rfl rfl (hk.2 (.methodLinkNest RX4 54 yX2_addToBrand RX5) (List.mem_of_getElem? (i := 21) rfl)) (hts (.initialized RX2) (List.mem_of_getElem? (i := 3) rfl)) bd_X2addToBrand ⟨Nat.le_of_ble_eq_true rfl, Nat.le_of_ble_eq_true rfl⟩, (hts (.instanceMethod yX2_addToBrand) (List.mem_of_getElem? (i := 19) rfl)), (hts (.selects RX2 yX2_addToBrand yX2_addToBrand) (List.mem_of_getElem? (i := 20) rfl))⟩ (bPV hk (va_recv hk.1 hP (ci := 2) (q0 := 3) rfl (wC_3 _ _ _ _))) rfl rfl hl.1 rfl (lv_room (Nat.le_of_ble_eq_true rfl)) dX4_deliverCrates_39 ⟨Nat.zero_le _, Nat.zero_le _⟩) hS (fun H locs hP _ hS => ?_)
  refine lv_aload_n hx hb dX4_deliverCrates_42 rfl (lv_at hl 2 rfl) ?_
  refine va_get (D := D) (ci := 4) (C := RX4) (T := TX4) (N := 2) hx hb hts iX4 hown hk.1 hP 1 (wC_1 _ _ _ _) rfl 0 (by decide) (hts (.fieldLink RX4 12 "BottleLoop$Trade" "state" "LBottleLoop$State;") (List.mem_of_getElem? (i := 1) rfl)) (fun _ h9 => h9) rfl dX4_deliverCrates_43 ?_
  refine lv_iload_n hx hb dX4_deliverCrates_46 rfl (lv_at hl 4 rfl) ?_
  refine lv_bipush (v := 10) hx hb dX4_deliverCrates_47 (by decide) ?_
  refine lv_iload_n hx hb dX4_deliverCrates_49 rfl (lv_at hl 3 rfl) ?_
  refine lv_iadd hx hb dX4_deliverCrates_50 ?_
  refine lv_bipush (v := 12) hx hb dX4_deliverCrates_51 (by decide) ?_
  refine lv_iload_n hx hb dX4_deliverCrates_53 rfl (lv_at hl 5 rfl) ?_
  refine lv_imul hx hb dX4_deliverCrates_54 ?_
  refine bcall_Wv (va_runVN (As := [.int a2, .int (10 + a1), .int (12 * a3)]) (rest := []) ⟨hx, hb, hml, hown, hts⟩ (C2_addToShop l D cI cO q _ _ hq hP a2 (10 + a1) (12 * a3)) ⟨va_cnB 3 hts gX4_deliverCrates_X2_addToShop_n58 rfl rfl rfl (hk.2 (.methodLinkNest RX4 58 yX2_addToShop RX5) (List.mem_of_getElem? (i := 34) rfl)) (hts (.initialized RX2) (List.mem_of_getElem? (i := 3) rfl)) bd_X2addToShop ⟨Nat.le_of_ble_eq_true rfl, Nat.le_of_ble_eq_true rfl⟩, (hts (.instanceMethod yX2_addToShop) (List.mem_of_getElem? (i := 26) rfl)), (hts (.selects RX2 yX2_addToShop yX2_addToShop) (List.mem_of_getElem? (i := 27) rfl))⟩ (bPV hk (va_recv hk.1 hP (ci := 2) (q0 := 3) rfl (wC_3 _ _ _ _))) rfl rfl hl.1 rfl (lv_room (Nat.le_of_ble_eq_true rfl)) dX4_deliverCrates_55 ⟨Nat.zero_le _, Nat.zero_le _⟩) hS (fun H locs hP _ hS => ?_)
  refine lv_aload_n hx hb dX4_deliverCrates_58 rfl (lv_at hl 2 rfl) ?_
  refine va_get (D := D) (ci := 4) (C := RX4) (T := TX4) (N := 2) hx hb hts iX4 hown hk.1 hP 1 (wC_1 _ _ _ _) rfl 0 (by decide) (hts (.fieldLink RX4 12 "BottleLoop$Trade" "state" "LBottleLoop$State;") (List.mem_of_getElem? (i := 1) rfl)) (fun _ h9 => h9) rfl dX4_deliverCrates_59 ?_
  refine lv_iconst (v := 2) hx hb dX4_deliverCrates_62 (by decide) ?_
  refine lv_iload_n hx hb dX4_deliverCrates_63 rfl (lv_at hl 5 rfl) ?_
  refine lv_ineg hx hb dX4_deliverCrates_64 ?_
  refine bcall_Wv (va_runVN (As := [.int 2, .int (-a3)]) (rest := []) ⟨hx, hb, hml, hown, hts⟩ (C2_addToAll l D cI cO q _ _ hq hP 2 (-a3)) ⟨va_cnB 2 hts gX4_deliverCrates_X2_addToAll_n61 rfl rfl rfl (hk.2 (.methodLinkNest RX4 61 yX2_addToAll RX5) (List.mem_of_getElem? (i := 35) rfl)) (hts (.initialized RX2) (List.mem_of_getElem? (i := 3) rfl)) bd_X2addToAll ⟨Nat.le_of_ble_eq_true rfl, Nat.le_of_ble_eq_true rfl⟩, (hts (.instanceMethod yX2_addToAll) (List.mem_of_getElem? (i := 29) rfl)), (hts (.selects RX2 yX2_addToAll yX2_addToAll) (List.mem_of_getElem? (i := 30) rfl))⟩ (bPV hk (va_recv hk.1 hP (ci := 2) (q0 := 3) rfl (wC_3 _ _ _ _))) rfl rfl hl.1 rfl (lv_room (Nat.le_of_ble_eq_true rfl)) dX4_deliverCrates_65 ⟨Nat.zero_le _, Nat.zero_le _⟩) hS (fun H locs hP _ hS => ?_)
  refine lv_aload_n hx hb dX4_deliverCrates_68 rfl (lv_at hl 2 rfl) ?_
  refine va_get (D := D) (ci := 4) (C := RX4) (T := TX4) (N := 2) hx hb hts iX4 hown hk.1 hP 1 (wC_1 _ _ _ _) rfl 0 (by decide) (hts (.fieldLink RX4 12 "BottleLoop$Trade" "state" "LBottleLoop$State;") (List.mem_of_getElem? (i := 1) rfl)) (fun _ h9 => h9) rfl dX4_deliverCrates_69 ?_
  refine lv_iload_n hx hb dX4_deliverCrates_72 rfl (lv_at hl 4 rfl) ?_
  refine lv_iconst (v := 1) hx hb dX4_deliverCrates_73 (by decide) ?_
  refine lv_iload_n hx hb dX4_deliverCrates_74 rfl (lv_at hl 5 rfl) ?_
  refine bcall_Wv (va_runVN (As := [.int a2, .int 1, .int a3]) (rest := []) ⟨hx, hb, hml, hown, hts⟩ (C2_addToShop l D cI cO q _ _ hq hP a2 1 a3) ⟨va_cnB 3 hts gX4_deliverCrates_X2_addToShop_n58 rfl rfl rfl (hk.2 (.methodLinkNest RX4 58 yX2_addToShop RX5) (List.mem_of_getElem? (i := 34) rfl)) (hts (.initialized RX2) (List.mem_of_getElem? (i := 3) rfl)) bd_X2addToShop ⟨Nat.le_of_ble_eq_true rfl, Nat.le_of_ble_eq_true rfl⟩, (hts (.instanceMethod yX2_addToShop) (List.mem_of_getElem? (i := 26) rfl)), (hts (.selects RX2 yX2_addToShop yX2_addToShop) (List.mem_of_getElem? (i := 27) rfl))⟩ (bPV hk (va_recv hk.1 hP (ci := 2) (q0 := 3) rfl (wC_3 _ _ _ _))) rfl rfl hl.1 rfl (lv_room (Nat.le_of_ble_eq_true rfl)) dX4_deliverCrates_75 ⟨Nat.zero_le _, Nat.zero_le _⟩) hS (fun H locs hP _ hS => ?_)
  refine lv_aload_n hx hb dX4_deliverCrates_78 rfl (lv_at hl 2 rfl) ?_
  refine va_get (D := D) (ci := 4) (C := RX4) (T := TX4) (N := 2) hx hb hts iX4 hown hk.1 hP 1 (wC_1 _ _ _ _) rfl 0 (by decide) (hts (.fieldLink RX4 12 "BottleLoop$Trade" "state" "LBottleLoop$State;") (List.mem_of_getElem? (i := 1) rfl)) (fun _ h9 => h9) rfl dX4_deliverCrates_79 ?_
  refine lv_iload_n hx hb dX4_deliverCrates_82 rfl (lv_at hl 4 rfl) ?_
  refine lv_iconst (v := 0) hx hb dX4_deliverCrates_83 (by decide) ?_
  refine lv_iload hx hb dX4_deliverCrates_84 (lv_at hl 1 rfl) ?_
  refine lv_ineg hx hb dX4_deliverCrates_86 ?_
  refine lv_iload hx hb dX4_deliverCrates_87 (lv_at hl 0 rfl) ?_
  refine lv_isub hx hb dX4_deliverCrates_89 ?_
  refine bcall_Wv (va_runVN (As := [.int a2, .int 0, .int ((-(a3 * (F4_crateDeposits u (F2_ofBrand u a1 0)))) - (a3 * (F2_ofSetting u 4)))]) (rest := []) ⟨hx, hb, hml, hown, hts⟩ (C2_addToShop l D cI cO q _ _ hq hP a2 0 ((-(a3 * (F4_crateDeposits u (F2_ofBrand u a1 0)))) - (a3 * (F2_ofSetting u 4)))) ⟨va_cnB 3 hts gX4_deliverCrates_X2_addToShop_n58 rfl rfl rfl (hk.2 (.methodLinkNest RX4 58 yX2_addToShop RX5) (List.mem_of_getElem? (i := 34) rfl)) (hts (.initialized RX2) (List.mem_of_getElem? (i := 3) rfl)) bd_X2addToShop ⟨Nat.le_of_ble_eq_true rfl, Nat.le_of_ble_eq_true rfl⟩, (hts (.instanceMethod yX2_addToShop) (List.mem_of_getElem? (i := 26) rfl)), (hts (.selects RX2 yX2_addToShop yX2_addToShop) (List.mem_of_getElem? (i := 27) rfl))⟩ (bPV hk (va_recv hk.1 hP (ci := 2) (q0 := 3) rfl (wC_3 _ _ _ _))) rfl rfl hl.1 rfl (lv_room (Nat.le_of_ble_eq_true rfl)) dX4_deliverCrates_90 ⟨Nat.zero_le _, Nat.zero_le _⟩) hS (fun H locs hP _ hS => ?_)
  refine lv_aload_n hx hb dX4_deliverCrates_93 rfl (lv_at hl 2 rfl) ?_
  refine va_get (D := D) (ci := 4) (C := RX4) (T := TX4) (N := 2) hx hb hts iX4 hown hk.1 hP 1 (wC_1 _ _ _ _) rfl 0 (by decide) (hts (.fieldLink RX4 12 "BottleLoop$Trade" "state" "LBottleLoop$State;") (List.mem_of_getElem? (i := 1) rfl)) (fun _ h9 => h9) rfl dX4_deliverCrates_94 ?_
  refine lv_iload_n hx hb dX4_deliverCrates_97 rfl (lv_at hl 4 rfl) ?_
  refine lv_iconst (v := 4) hx hb dX4_deliverCrates_98 (by decide) ?_
  refine lv_iload hx hb dX4_deliverCrates_99 (lv_at hl 1 rfl) ?_
  refine bcall_Wv (va_runVN (As := [.int a2, .int 4, .int (a3 * (F4_crateDeposits u (F2_ofBrand u a1 0)))]) (rest := []) ⟨hx, hb, hml, hown, hts⟩ (C2_addToShop l D cI cO q _ _ hq hP a2 4 (a3 * (F4_crateDeposits u (F2_ofBrand u a1 0)))) ⟨va_cnB 3 hts gX4_deliverCrates_X2_addToShop_n58 rfl rfl rfl (hk.2 (.methodLinkNest RX4 58 yX2_addToShop RX5) (List.mem_of_getElem? (i := 34) rfl)) (hts (.initialized RX2) (List.mem_of_getElem? (i := 3) rfl)) bd_X2addToShop ⟨Nat.le_of_ble_eq_true rfl, Nat.le_of_ble_eq_true rfl⟩, (hts (.instanceMethod yX2_addToShop) (List.mem_of_getElem? (i := 26) rfl)), (hts (.selects RX2 yX2_addToShop yX2_addToShop) (List.mem_of_getElem? (i := 27) rfl))⟩ (bPV hk (va_recv hk.1 hP (ci := 2) (q0 := 3) rfl (wC_3 _ _ _ _))) rfl rfl hl.1 rfl (lv_room (Nat.le_of_ble_eq_true rfl)) dX4_deliverCrates_101 ⟨Nat.zero_le _, Nat.zero_le _⟩) hS (fun H locs hP _ hS => ?_)
  refine lv_aload_n hx hb dX4_deliverCrates_104 rfl (lv_at hl 2 rfl) ?_
  refine va_get (D := D) (ci := 4) (C := RX4) (T := TX4) (N := 2) hx hb hts iX4 hown hk.1 hP 1 (wC_1 _ _ _ _) rfl 0 (by decide) (hts (.fieldLink RX4 12 "BottleLoop$Trade" "state" "LBottleLoop$State;") (List.mem_of_getElem? (i := 1) rfl)) (fun _ h9 => h9) rfl dX4_deliverCrates_105 ?_
  refine lv_iconst (v := 4) hx hb dX4_deliverCrates_108 (by decide) ?_
  refine lv_iload hx hb dX4_deliverCrates_109 (lv_at hl 1 rfl) ?_
  refine bcall_Wv (va_runVN (As := [.int 4, .int (a3 * (F4_crateDeposits u (F2_ofBrand u a1 0)))]) (rest := []) ⟨hx, hb, hml, hown, hts⟩ (C2_addToAll l D cI cO q _ _ hq hP 4 (a3 * (F4_crateDeposits u (F2_ofBrand u a1 0)))) ⟨va_cnB 2 hts gX4_deliverCrates_X2_addToAll_n61 rfl rfl rfl (hk.2 (.methodLinkNest RX4 61 yX2_addToAll RX5) (List.mem_of_getElem? (i := 35) rfl)) (hts (.initialized RX2) (List.mem_of_getElem? (i := 3) rfl)) bd_X2addToAll ⟨Nat.le_of_ble_eq_true rfl, Nat.le_of_ble_eq_true rfl⟩, (hts (.instanceMethod yX2_addToAll) (List.mem_of_getElem? (i := 29) rfl)), (hts (.selects RX2 yX2_addToAll yX2_addToAll) (List.mem_of_getElem? (i := 30) rfl))⟩ (bPV hk (va_recv hk.1 hP (ci := 2) (q0 := 3) rfl (wC_3 _ _ _ _))) rfl rfl hl.1 rfl (lv_room (Nat.le_of_ble_eq_true rfl)) dX4_deliverCrates_111 ⟨Nat.zero_le _, Nat.zero_le _⟩) hS (fun H locs hP _ hS => ?_)
  refine lv_aload_n hx hb dX4_deliverCrates_114 rfl (lv_at hl 2 rfl) ?_
  refine va_get (D := D) (ci := 4) (C := RX4) (T := TX4) (N := 2) hx hb hts iX4 hown hk.1 hP 1 (wC_1 _ _ _ _) rfl 0 (by decide) (hts (.fieldLink RX4 12 "BottleLoop$Trade" "state" "LBottleLoop$State;") (List.mem_of_getElem? (i := 1) rfl)) (fun _ h9 => h9) rfl dX4_deliverCrates_115 ?_
  refine lv_iload_n hx hb dX4_deliverCrates_118 rfl (lv_at hl 4 rfl) ?_
  refine lv_iconst (v := 5) hx hb dX4_deliverCrates_119 (by decide) ?_
  refine lv_iload hx hb dX4_deliverCrates_120 (lv_at hl 0 rfl) ?_
  refine bcall_Wv (va_runVN (As := [.int a2, .int 5, .int (a3 * (F2_ofSetting u 4))]) (rest := []) ⟨hx, hb, hml, hown, hts⟩ (C2_addToShop l D cI cO q _ _ hq hP a2 5 (a3 * (F2_ofSetting u 4))) ⟨va_cnB 3 hts gX4_deliverCrates_X2_addToShop_n58 rfl rfl rfl (hk.2 (.methodLinkNest RX4 58 yX2_addToShop RX5) (List.mem_of_getElem? (i := 34) rfl)) (hts (.initialized RX2) (List.mem_of_getElem? (i := 3) rfl)) bd_X2addToShop ⟨Nat.le_of_ble_eq_true rfl, Nat.le_of_ble_eq_true rfl⟩, (hts (.instanceMethod yX2_addToShop) (List.mem_of_getElem? (i := 26) rfl)), (hts (.selects RX2 yX2_addToShop yX2_addToShop) (List.mem_of_getElem? (i := 27) rfl))⟩ (bPV hk (va_recv hk.1 hP (ci := 2) (q0 := 3) rfl (wC_3 _ _ _ _))) rfl rfl hl.1 rfl (lv_room (Nat.le_of_ble_eq_true rfl)) dX4_deliverCrates_122 ⟨Nat.zero_le _, Nat.zero_le _⟩) hS (fun H locs hP _ hS => ?_)
  refine lv_aload_n hx hb dX4_deliverCrates_125 rfl (lv_at hl 2 rfl) ?_
  refine va_get (D := D) (ci := 4) (C := RX4) (T := TX4) (N := 2) hx hb hts iX4 hown hk.1 hP 1 (wC_1 _ _ _ _) rfl 0 (by decide) (hts (.fieldLink RX4 12 "BottleLoop$Trade" "state" "LBottleLoop$State;") (List.mem_of_getElem? (i := 1) rfl)) (fun _ h9 => h9) rfl dX4_deliverCrates_126 ?_
  refine lv_bipush (v := 6) hx hb dX4_deliverCrates_129 (by decide) ?_
  refine lv_iload hx hb dX4_deliverCrates_131 (lv_at hl 0 rfl) ?_
  refine bcall_Wv (va_runVN (As := [.int 6, .int (a3 * (F2_ofSetting u 4))]) (rest := []) ⟨hx, hb, hml, hown, hts⟩ (C2_addToAll l D cI cO q _ _ hq hP 6 (a3 * (F2_ofSetting u 4))) ⟨va_cnB 2 hts gX4_deliverCrates_X2_addToAll_n61 rfl rfl rfl (hk.2 (.methodLinkNest RX4 61 yX2_addToAll RX5) (List.mem_of_getElem? (i := 35) rfl)) (hts (.initialized RX2) (List.mem_of_getElem? (i := 3) rfl)) bd_X2addToAll ⟨Nat.le_of_ble_eq_true rfl, Nat.le_of_ble_eq_true rfl⟩, (hts (.instanceMethod yX2_addToAll) (List.mem_of_getElem? (i := 29) rfl)), (hts (.selects RX2 yX2_addToAll yX2_addToAll) (List.mem_of_getElem? (i := 30) rfl))⟩ (bPV hk (va_recv hk.1 hP (ci := 2) (q0 := 3) rfl (wC_3 _ _ _ _))) rfl rfl hl.1 rfl (lv_room (Nat.le_of_ble_eq_true rfl)) dX4_deliverCrates_133 ⟨Nat.zero_le _, Nat.zero_le _⟩) hS (fun H locs hP _ hS => ?_)
  refine lv_iload hx hb dX4_deliverCrates_136 (lv_at hl 1 rfl) ?_
  refine lv_iload hx hb dX4_deliverCrates_138 (lv_at hl 0 rfl) ?_
  refine lv_iadd hx hb dX4_deliverCrates_140 ?_
  exact bret_Wi hx hb hr hP trivial hS hlocks dX4_deliverCrates_141 (by rw [← hF, F4_deliverCrates])
def F4_sellBottles (u : bU) (a1 : Int32) (a2 : Int32) (a3 : Int32) : Int32 × bU := ((F2_ofShop (F2_addToShop (F2_addToShop (F2_addToBrand (F2_addToShop u a1 (10 + a2) (-a3)) a2 5 a3) a1 6 a3) a1 0 (a3 * (F4_depositOf (F2_addToShop (F2_addToBrand (F2_addToShop u a1 (10 + a2) (-a3)) a2 5 a3) a1 6 a3) a2))) a1 0), (F2_addToShop (F2_addToShop (F2_addToBrand (F2_addToShop u a1 (10 + a2) (-a3)) a2 5 a3) a1 6 a3) a1 0 (a3 * (F4_depositOf (F2_addToShop (F2_addToBrand (F2_addToShop u a1 (10 + a2) (-a3)) a2 5 a3) a1 6 a3) a2))))
set_option maxHeartbeats 4000000 in
set_option maxRecDepth 100000 in
theorem C4_sellBottles (l : Launch) (D : va_G) (cI cO : ClassId) (q : Nat → Nat) (u : bU) (H0 : Heap) (hq : bInj 23 q) (hP : va_P D vwCl (wC cI cO q u) H0) (a1 : Int32) (a2 : Int32) (a3 : Int32) : Met l yX4_sellBottles wsX4_sellBottles ({ frames := 3, cells := 0, slots := 0, locals := 64 }) (bP D [(cI, .int), (cO, .object RX2)] H0 [.ref (q 1), .int a1, .int a2, .int a3]) (bWi D (wC cI cO q) bT (bA 23 q H0.size) (F4_sellBottles u a1 a2 a3)) 0 0 (bA 23 q H0.size) := by
  refine Met.ofW (cc := cX4_sellBottles) (maxL := 4) (ret := (some .int)) (by decide) rfl ?_
  intro p e s m args below meth c s₁ B hml hv
  obtain ⟨rfl, hH, hk⟩ := hv
  subst hH
  have hx := B.exec
  have hb := B.bytes
  have hr := B.returns
  have hts := atoms_spec (ws := wsX4_sellBottles) B.pre
  have hown : s.vm.findClass RX4 = some m.cls := findClass_of_methodNamed B.named
  have hlocks := B.notSynchronized
  have iX4 : ∀ w ∈ wsX40, w ∈ wsX4_sellBottles := by decide +kernel
  have hS : va_S (bA 23 q s.heap.size) s.heap s.heap [] := va_S.rf
  have hl := lv_entry ([.ref (q 1), .int a1, .int a2, .int a3]) (n := 4) (Nat.le_of_ble_eq_true rfl)
  rw [lg_entry_eq]
  generalize (lg_sl ([.ref (q 1), .int a1, .int a2, .int a3]) ++ List.replicate (4 - (lg_sl ([.ref (q 1), .int a1, .int a2, .int a3])).length) Slot.unset).toArray = ls at hl ⊢
  have hl : lv_has ls 4 [(0, .ref (q 1)), (1, .int a1), (2, .int a2), (3, .int a3)] := hl
  generalize hF : F4_sellBottles u a1 a2 a3 = tgt
  refine lv_aload_n hx hb dX4_sellBottles_0 rfl (lv_at hl 0 rfl) ?_
  refine va_get (D := D) (ci := 4) (C := RX4) (T := TX4) (N := 2) hx hb hts iX4 hown hk.1 hP 1 (wC_1 _ _ _ _) rfl 0 (by decide) (hts (.fieldLink RX4 12 "BottleLoop$Trade" "state" "LBottleLoop$State;") (List.mem_of_getElem? (i := 1) rfl)) (fun _ h9 => h9) rfl dX4_sellBottles_1 ?_
  refine lv_iload_n hx hb dX4_sellBottles_4 rfl (lv_at hl 1 rfl) ?_
  refine lv_bipush (v := 10) hx hb dX4_sellBottles_5 (by decide) ?_
  refine lv_iload_n hx hb dX4_sellBottles_7 rfl (lv_at hl 2 rfl) ?_
  refine lv_iadd hx hb dX4_sellBottles_8 ?_
  refine lv_iload_n hx hb dX4_sellBottles_9 rfl (lv_at hl 3 rfl) ?_
  refine lv_ineg hx hb dX4_sellBottles_10 ?_
  refine bcall_Wv (va_runVN (As := [.int a1, .int (10 + a2), .int (-a3)]) (rest := []) ⟨hx, hb, hml, hown, hts⟩ (C2_addToShop l D cI cO q _ _ hq hP a1 (10 + a2) (-a3)) ⟨va_cnB 3 hts gX4_sellBottles_X2_addToShop_n58 rfl rfl rfl (hk.2 (.methodLinkNest RX4 58 yX2_addToShop RX5) (List.mem_of_getElem? (i := 34) rfl)) (hts (.initialized RX2) (List.mem_of_getElem? (i := 3) rfl)) bd_X2addToShop ⟨Nat.le_of_ble_eq_true rfl, Nat.le_of_ble_eq_true rfl⟩, (hts (.instanceMethod yX2_addToShop) (List.mem_of_getElem? (i := 2) rfl)), (hts (.selects RX2 yX2_addToShop yX2_addToShop) (List.mem_of_getElem? (i := 4) rfl))⟩ (bPV hk (va_recv hk.1 hP (ci := 2) (q0 := 3) rfl (wC_3 _ _ _ _))) rfl rfl hl.1 rfl (lv_room (Nat.le_of_ble_eq_true rfl)) dX4_sellBottles_11 ⟨Nat.zero_le _, Nat.zero_le _⟩) hS (fun H locs hP _ hS => ?_)
  refine lv_aload_n hx hb dX4_sellBottles_14 rfl (lv_at hl 0 rfl) ?_
  refine va_get (D := D) (ci := 4) (C := RX4) (T := TX4) (N := 2) hx hb hts iX4 hown hk.1 hP 1 (wC_1 _ _ _ _) rfl 0 (by decide) (hts (.fieldLink RX4 12 "BottleLoop$Trade" "state" "LBottleLoop$State;") (List.mem_of_getElem? (i := 1) rfl)) (fun _ h9 => h9) rfl dX4_sellBottles_15 ?_
  refine lv_iload_n hx hb dX4_sellBottles_18 rfl (lv_at hl 2 rfl) ?_
  refine lv_iconst (v := 5) hx hb dX4_sellBottles_19 (by decide) ?_
  refine lv_iload_n hx hb dX4_sellBottles_20 rfl (lv_at hl 3 rfl) ?_
  refine bcall_Wv (va_runVN (As := [.int a2, .int 5, .int a3]) (rest := []) ⟨hx, hb, hml, hown, hts⟩ (C2_addToBrand l D cI cO q _ _ hq hP a2 5 a3) ⟨va_cnB 3 hts gX4_sellBottles_X2_addToBrand_n54 rfl rfl rfl (hk.2 (.methodLinkNest RX4 54 yX2_addToBrand RX5) (List.mem_of_getElem? (i := 21) rfl)) (hts (.initialized RX2) (List.mem_of_getElem? (i := 3) rfl)) bd_X2addToBrand ⟨Nat.le_of_ble_eq_true rfl, Nat.le_of_ble_eq_true rfl⟩, (hts (.instanceMethod yX2_addToBrand) (List.mem_of_getElem? (i := 15) rfl)), (hts (.selects RX2 yX2_addToBrand yX2_addToBrand) (List.mem_of_getElem? (i := 16) rfl))⟩ (bPV hk (va_recv hk.1 hP (ci := 2) (q0 := 3) rfl (wC_3 _ _ _ _))) rfl rfl hl.1 rfl (lv_room (Nat.le_of_ble_eq_true rfl)) dX4_sellBottles_21 ⟨Nat.zero_le _, Nat.zero_le _⟩) hS (fun H locs hP _ hS => ?_)
  refine lv_aload_n hx hb dX4_sellBottles_24 rfl (lv_at hl 0 rfl) ?_
  refine va_get (D := D) (ci := 4) (C := RX4) (T := TX4) (N := 2) hx hb hts iX4 hown hk.1 hP 1 (wC_1 _ _ _ _) rfl 0 (by decide) (hts (.fieldLink RX4 12 "BottleLoop$Trade" "state" "LBottleLoop$State;") (List.mem_of_getElem? (i := 1) rfl)) (fun _ h9 => h9) rfl dX4_sellBottles_25 ?_
  refine lv_iload_n hx hb dX4_sellBottles_28 rfl (lv_at hl 1 rfl) ?_
  refine lv_bipush (v := 6) hx hb dX4_sellBottles_29 (by decide) ?_
  refine lv_iload_n hx hb dX4_sellBottles_31 rfl (lv_at hl 3 rfl) ?_
  refine bcall_Wv (va_runVN (As := [.int a1, .int 6, .int a3]) (rest := []) ⟨hx, hb, hml, hown, hts⟩ (C2_addToShop l D cI cO q _ _ hq hP a1 6 a3) ⟨va_cnB 3 hts gX4_sellBottles_X2_addToShop_n58 rfl rfl rfl (hk.2 (.methodLinkNest RX4 58 yX2_addToShop RX5) (List.mem_of_getElem? (i := 34) rfl)) (hts (.initialized RX2) (List.mem_of_getElem? (i := 3) rfl)) bd_X2addToShop ⟨Nat.le_of_ble_eq_true rfl, Nat.le_of_ble_eq_true rfl⟩, (hts (.instanceMethod yX2_addToShop) (List.mem_of_getElem? (i := 2) rfl)), (hts (.selects RX2 yX2_addToShop yX2_addToShop) (List.mem_of_getElem? (i := 4) rfl))⟩ (bPV hk (va_recv hk.1 hP (ci := 2) (q0 := 3) rfl (wC_3 _ _ _ _))) rfl rfl hl.1 rfl (lv_room (Nat.le_of_ble_eq_true rfl)) dX4_sellBottles_32 ⟨Nat.zero_le _, Nat.zero_le _⟩) hS (fun H locs hP _ hS => ?_)
  refine lv_aload_n hx hb dX4_sellBottles_35 rfl (lv_at hl 0 rfl) ?_
  refine va_get (D := D) (ci := 4) (C := RX4) (T := TX4) (N := 2) hx hb hts iX4 hown hk.1 hP 1 (wC_1 _ _ _ _) rfl 0 (by decide) (hts (.fieldLink RX4 12 "BottleLoop$Trade" "state" "LBottleLoop$State;") (List.mem_of_getElem? (i := 1) rfl)) (fun _ h9 => h9) rfl dX4_sellBottles_36 ?_
  refine lv_iload_n hx hb dX4_sellBottles_39 rfl (lv_at hl 1 rfl) ?_
  refine lv_iconst (v := 0) hx hb dX4_sellBottles_40 (by decide) ?_
  refine lv_iload_n hx hb dX4_sellBottles_41 rfl (lv_at hl 3 rfl) ?_
  refine lv_aload_n hx hb dX4_sellBottles_42 rfl (lv_at hl 0 rfl) ?_
  refine lv_iload_n hx hb dX4_sellBottles_43 rfl (lv_at hl 2 rfl) ?_
  refine bcall_Ri (va_runV (As := [.int a2]) (rest := [.int a3, .int 0, .int a1, .ref (q 3)]) ⟨hx, hb, hml, hown, hts⟩ (C4_depositOf l D cI cO q _ _ hP a2) (cwV 1 hts gX4_sellBottles_X4_depositOf rfl rfl rfl ⟨rfl, bd_X4depositOf⟩ ⟨Nat.le_of_ble_eq_true rfl, Nat.le_of_ble_eq_true rfl⟩) (bPV hk (va_recv hk.1 hP (ci := 4) (q0 := 1) rfl (wC_1 _ _ _ _))) rfl rfl hl.1 rfl (lv_room (Nat.le_of_ble_eq_true rfl)) dX4_sellBottles_44 ⟨Nat.zero_le _, Nat.zero_le _⟩) hS (fun locs hS => ?_)
  refine lv_imul hx hb dX4_sellBottles_47 ?_
  refine bcall_Wv (va_runVN (As := [.int a1, .int 0, .int (a3 * (F4_depositOf (F2_addToShop (F2_addToBrand (F2_addToShop u a1 (10 + a2) (-a3)) a2 5 a3) a1 6 a3) a2))]) (rest := []) ⟨hx, hb, hml, hown, hts⟩ (C2_addToShop l D cI cO q _ _ hq hP a1 0 (a3 * (F4_depositOf (F2_addToShop (F2_addToBrand (F2_addToShop u a1 (10 + a2) (-a3)) a2 5 a3) a1 6 a3) a2))) ⟨va_cnB 3 hts gX4_sellBottles_X2_addToShop_n58 rfl rfl rfl (hk.2 (.methodLinkNest RX4 58 yX2_addToShop RX5) (List.mem_of_getElem? (i := 34) rfl)) (hts (.initialized RX2) (List.mem_of_getElem? (i := 3) rfl)) bd_X2addToShop ⟨Nat.le_of_ble_eq_true rfl, Nat.le_of_ble_eq_true rfl⟩, (hts (.instanceMethod yX2_addToShop) (List.mem_of_getElem? (i := 2) rfl)), (hts (.selects RX2 yX2_addToShop yX2_addToShop) (List.mem_of_getElem? (i := 4) rfl))⟩ (bPV hk (va_recv hk.1 hP (ci := 2) (q0 := 3) rfl (wC_3 _ _ _ _))) rfl rfl hl.1 rfl (lv_room (Nat.le_of_ble_eq_true rfl)) dX4_sellBottles_48 ⟨Nat.zero_le _, Nat.zero_le _⟩) hS (fun H locs hP _ hS => ?_)
  refine lv_aload_n hx hb dX4_sellBottles_51 rfl (lv_at hl 0 rfl) ?_
  refine va_get (D := D) (ci := 4) (C := RX4) (T := TX4) (N := 2) hx hb hts iX4 hown hk.1 hP 1 (wC_1 _ _ _ _) rfl 0 (by decide) (hts (.fieldLink RX4 12 "BottleLoop$Trade" "state" "LBottleLoop$State;") (List.mem_of_getElem? (i := 1) rfl)) (fun _ h9 => h9) rfl dX4_sellBottles_52 ?_
  refine lv_iload_n hx hb dX4_sellBottles_55 rfl (lv_at hl 1 rfl) ?_
  refine lv_iconst (v := 0) hx hb dX4_sellBottles_56 (by decide) ?_
  refine bcall_Ri (va_runVN (As := [.int a1, .int 0]) (rest := []) ⟨hx, hb, hml, hown, hts⟩ (C2_ofShop l D cI cO q _ _ hP a1 0) ⟨va_cnB 2 hts gX4_sellBottles_X2_ofShop_n36 rfl rfl rfl (hk.2 (.methodLinkNest RX4 36 yX2_ofShop RX5) (List.mem_of_getElem? (i := 26) rfl)) (hts (.initialized RX2) (List.mem_of_getElem? (i := 3) rfl)) bd_X2ofShop ⟨Nat.le_of_ble_eq_true rfl, Nat.le_of_ble_eq_true rfl⟩, (hts (.instanceMethod yX2_ofShop) (List.mem_of_getElem? (i := 29) rfl)), (hts (.selects RX2 yX2_ofShop yX2_ofShop) (List.mem_of_getElem? (i := 30) rfl))⟩ (bPV hk (va_recv hk.1 hP (ci := 2) (q0 := 3) rfl (wC_3 _ _ _ _))) rfl rfl hl.1 rfl (lv_room (Nat.le_of_ble_eq_true rfl)) dX4_sellBottles_57 ⟨Nat.zero_le _, Nat.zero_le _⟩) hS (fun locs hS => ?_)
  exact bret_Wi hx hb hr hP trivial hS hlocks dX4_sellBottles_60 (by rw [← hF, F4_sellBottles])
def F4_returnBottles (u : bU) (a1 : Int32) (a2 : Int32) (a3 : Int32) : Int32 × bU := ((F2_ofShop (F2_addToShop (F2_addToShop (F2_addToShop (F2_addToBrand u a2 5 (-a3)) a1 (20 + a2) a3) a1 6 (-a3)) a1 0 ((-a3) * (F4_depositOf (F2_addToShop (F2_addToShop (F2_addToBrand u a2 5 (-a3)) a1 (20 + a2) a3) a1 6 (-a3)) a2))) a1 0), (F2_addToShop (F2_addToShop (F2_addToShop (F2_addToBrand u a2 5 (-a3)) a1 (20 + a2) a3) a1 6 (-a3)) a1 0 ((-a3) * (F4_depositOf (F2_addToShop (F2_addToShop (F2_addToBrand u a2 5 (-a3)) a1 (20 + a2) a3) a1 6 (-a3)) a2))))
set_option maxHeartbeats 4000000 in
set_option maxRecDepth 100000 in
theorem C4_returnBottles (l : Launch) (D : va_G) (cI cO : ClassId) (q : Nat → Nat) (u : bU) (H0 : Heap) (hq : bInj 23 q) (hP : va_P D vwCl (wC cI cO q u) H0) (a1 : Int32) (a2 : Int32) (a3 : Int32) : Met l yX4_returnBottles wsX4_returnBottles ({ frames := 3, cells := 0, slots := 0, locals := 64 }) (bP D [(cI, .int), (cO, .object RX2)] H0 [.ref (q 1), .int a1, .int a2, .int a3]) (bWi D (wC cI cO q) bT (bA 23 q H0.size) (F4_returnBottles u a1 a2 a3)) 0 0 (bA 23 q H0.size) := by
  refine Met.ofW (cc := cX4_returnBottles) (maxL := 4) (ret := (some .int)) (by decide) rfl ?_
  intro p e s m args below meth c s₁ B hml hv
  obtain ⟨rfl, hH, hk⟩ := hv
  subst hH
  have hx := B.exec
  have hb := B.bytes
  have hr := B.returns
  have hts := atoms_spec (ws := wsX4_returnBottles) B.pre
  have hown : s.vm.findClass RX4 = some m.cls := findClass_of_methodNamed B.named
  have hlocks := B.notSynchronized
  have iX4 : ∀ w ∈ wsX40, w ∈ wsX4_returnBottles := by decide +kernel
  have hS : va_S (bA 23 q s.heap.size) s.heap s.heap [] := va_S.rf
  have hl := lv_entry ([.ref (q 1), .int a1, .int a2, .int a3]) (n := 4) (Nat.le_of_ble_eq_true rfl)
  rw [lg_entry_eq]
  generalize (lg_sl ([.ref (q 1), .int a1, .int a2, .int a3]) ++ List.replicate (4 - (lg_sl ([.ref (q 1), .int a1, .int a2, .int a3])).length) Slot.unset).toArray = ls at hl ⊢
  have hl : lv_has ls 4 [(0, .ref (q 1)), (1, .int a1), (2, .int a2), (3, .int a3)] := hl
  generalize hF : F4_returnBottles u a1 a2 a3 = tgt
  refine lv_aload_n hx hb dX4_returnBottles_0 rfl (lv_at hl 0 rfl) ?_
  refine va_get (D := D) (ci := 4) (C := RX4) (T := TX4) (N := 2) hx hb hts iX4 hown hk.1 hP 1 (wC_1 _ _ _ _) rfl 0 (by decide) (hts (.fieldLink RX4 12 "BottleLoop$Trade" "state" "LBottleLoop$State;") (List.mem_of_getElem? (i := 1) rfl)) (fun _ h9 => h9) rfl dX4_returnBottles_1 ?_
  refine lv_iload_n hx hb dX4_returnBottles_4 rfl (lv_at hl 2 rfl) ?_
  refine lv_iconst (v := 5) hx hb dX4_returnBottles_5 (by decide) ?_
  refine lv_iload_n hx hb dX4_returnBottles_6 rfl (lv_at hl 3 rfl) ?_
  refine lv_ineg hx hb dX4_returnBottles_7 ?_
  refine bcall_Wv (va_runVN (As := [.int a2, .int 5, .int (-a3)]) (rest := []) ⟨hx, hb, hml, hown, hts⟩ (C2_addToBrand l D cI cO q _ _ hq hP a2 5 (-a3)) ⟨va_cnB 3 hts gX4_returnBottles_X2_addToBrand_n54 rfl rfl rfl (hk.2 (.methodLinkNest RX4 54 yX2_addToBrand RX5) (List.mem_of_getElem? (i := 21) rfl)) (hts (.initialized RX2) (List.mem_of_getElem? (i := 3) rfl)) bd_X2addToBrand ⟨Nat.le_of_ble_eq_true rfl, Nat.le_of_ble_eq_true rfl⟩, (hts (.instanceMethod yX2_addToBrand) (List.mem_of_getElem? (i := 2) rfl)), (hts (.selects RX2 yX2_addToBrand yX2_addToBrand) (List.mem_of_getElem? (i := 4) rfl))⟩ (bPV hk (va_recv hk.1 hP (ci := 2) (q0 := 3) rfl (wC_3 _ _ _ _))) rfl rfl hl.1 rfl (lv_room (Nat.le_of_ble_eq_true rfl)) dX4_returnBottles_8 ⟨Nat.zero_le _, Nat.zero_le _⟩) hS (fun H locs hP _ hS => ?_)
  refine lv_aload_n hx hb dX4_returnBottles_11 rfl (lv_at hl 0 rfl) ?_
  refine va_get (D := D) (ci := 4) (C := RX4) (T := TX4) (N := 2) hx hb hts iX4 hown hk.1 hP 1 (wC_1 _ _ _ _) rfl 0 (by decide) (hts (.fieldLink RX4 12 "BottleLoop$Trade" "state" "LBottleLoop$State;") (List.mem_of_getElem? (i := 1) rfl)) (fun _ h9 => h9) rfl dX4_returnBottles_12 ?_
  refine lv_iload_n hx hb dX4_returnBottles_15 rfl (lv_at hl 1 rfl) ?_
  refine lv_bipush (v := 20) hx hb dX4_returnBottles_16 (by decide) ?_
  refine lv_iload_n hx hb dX4_returnBottles_18 rfl (lv_at hl 2 rfl) ?_
  refine lv_iadd hx hb dX4_returnBottles_19 ?_
  refine lv_iload_n hx hb dX4_returnBottles_20 rfl (lv_at hl 3 rfl) ?_
  refine bcall_Wv (va_runVN (As := [.int a1, .int (20 + a2), .int a3]) (rest := []) ⟨hx, hb, hml, hown, hts⟩ (C2_addToShop l D cI cO q _ _ hq hP a1 (20 + a2) a3) ⟨va_cnB 3 hts gX4_returnBottles_X2_addToShop_n58 rfl rfl rfl (hk.2 (.methodLinkNest RX4 58 yX2_addToShop RX5) (List.mem_of_getElem? (i := 34) rfl)) (hts (.initialized RX2) (List.mem_of_getElem? (i := 3) rfl)) bd_X2addToShop ⟨Nat.le_of_ble_eq_true rfl, Nat.le_of_ble_eq_true rfl⟩, (hts (.instanceMethod yX2_addToShop) (List.mem_of_getElem? (i := 15) rfl)), (hts (.selects RX2 yX2_addToShop yX2_addToShop) (List.mem_of_getElem? (i := 16) rfl))⟩ (bPV hk (va_recv hk.1 hP (ci := 2) (q0 := 3) rfl (wC_3 _ _ _ _))) rfl rfl hl.1 rfl (lv_room (Nat.le_of_ble_eq_true rfl)) dX4_returnBottles_21 ⟨Nat.zero_le _, Nat.zero_le _⟩) hS (fun H locs hP _ hS => ?_)
  refine lv_aload_n hx hb dX4_returnBottles_24 rfl (lv_at hl 0 rfl) ?_
  refine va_get (D := D) (ci := 4) (C := RX4) (T := TX4) (N := 2) hx hb hts iX4 hown hk.1 hP 1 (wC_1 _ _ _ _) rfl 0 (by decide) (hts (.fieldLink RX4 12 "BottleLoop$Trade" "state" "LBottleLoop$State;") (List.mem_of_getElem? (i := 1) rfl)) (fun _ h9 => h9) rfl dX4_returnBottles_25 ?_
  refine lv_iload_n hx hb dX4_returnBottles_28 rfl (lv_at hl 1 rfl) ?_
  refine lv_bipush (v := 6) hx hb dX4_returnBottles_29 (by decide) ?_
  refine lv_iload_n hx hb dX4_returnBottles_31 rfl (lv_at hl 3 rfl) ?_
  refine lv_ineg hx hb dX4_returnBottles_32 ?_
  refine bcall_Wv (va_runVN (As := [.int a1, .int 6, .int (-a3)]) (rest := []) ⟨hx, hb, hml, hown, hts⟩ (C2_addToShop l D cI cO q _ _ hq hP a1 6 (-a3)) ⟨va_cnB 3 hts gX4_returnBottles_X2_addToShop_n58 rfl rfl rfl (hk.2 (.methodLinkNest RX4 58 yX2_addToShop RX5) (List.mem_of_getElem? (i := 34) rfl)) (hts (.initialized RX2) (List.mem_of_getElem? (i := 3) rfl)) bd_X2addToShop ⟨Nat.le_of_ble_eq_true rfl, Nat.le_of_ble_eq_true rfl⟩, (hts (.instanceMethod yX2_addToShop) (List.mem_of_getElem? (i := 15) rfl)), (hts (.selects RX2 yX2_addToShop yX2_addToShop) (List.mem_of_getElem? (i := 16) rfl))⟩ (bPV hk (va_recv hk.1 hP (ci := 2) (q0 := 3) rfl (wC_3 _ _ _ _))) rfl rfl hl.1 rfl (lv_room (Nat.le_of_ble_eq_true rfl)) dX4_returnBottles_33 ⟨Nat.zero_le _, Nat.zero_le _⟩) hS (fun H locs hP _ hS => ?_)
  refine lv_aload_n hx hb dX4_returnBottles_36 rfl (lv_at hl 0 rfl) ?_
  refine va_get (D := D) (ci := 4) (C := RX4) (T := TX4) (N := 2) hx hb hts iX4 hown hk.1 hP 1 (wC_1 _ _ _ _) rfl 0 (by decide) (hts (.fieldLink RX4 12 "BottleLoop$Trade" "state" "LBottleLoop$State;") (List.mem_of_getElem? (i := 1) rfl)) (fun _ h9 => h9) rfl dX4_returnBottles_37 ?_
  refine lv_iload_n hx hb dX4_returnBottles_40 rfl (lv_at hl 1 rfl) ?_
  refine lv_iconst (v := 0) hx hb dX4_returnBottles_41 (by decide) ?_
  refine lv_iload_n hx hb dX4_returnBottles_42 rfl (lv_at hl 3 rfl) ?_
  refine lv_ineg hx hb dX4_returnBottles_43 ?_
  refine lv_aload_n hx hb dX4_returnBottles_44 rfl (lv_at hl 0 rfl) ?_
  refine lv_iload_n hx hb dX4_returnBottles_45 rfl (lv_at hl 2 rfl) ?_
  refine bcall_Ri (va_runV (As := [.int a2]) (rest := [.int (-a3), .int 0, .int a1, .ref (q 3)]) ⟨hx, hb, hml, hown, hts⟩ (C4_depositOf l D cI cO q _ _ hP a2) (cwV 1 hts gX4_returnBottles_X4_depositOf rfl rfl rfl ⟨rfl, bd_X4depositOf⟩ ⟨Nat.le_of_ble_eq_true rfl, Nat.le_of_ble_eq_true rfl⟩) (bPV hk (va_recv hk.1 hP (ci := 4) (q0 := 1) rfl (wC_1 _ _ _ _))) rfl rfl hl.1 rfl (lv_room (Nat.le_of_ble_eq_true rfl)) dX4_returnBottles_46 ⟨Nat.zero_le _, Nat.zero_le _⟩) hS (fun locs hS => ?_)
  refine lv_imul hx hb dX4_returnBottles_49 ?_
  refine bcall_Wv (va_runVN (As := [.int a1, .int 0, .int ((-a3) * (F4_depositOf (F2_addToShop (F2_addToShop (F2_addToBrand u a2 5 (-a3)) a1 (20 + a2) a3) a1 6 (-a3)) a2))]) (rest := []) ⟨hx, hb, hml, hown, hts⟩ (C2_addToShop l D cI cO q _ _ hq hP a1 0 ((-a3) * (F4_depositOf (F2_addToShop (F2_addToShop (F2_addToBrand u a2 5 (-a3)) a1 (20 + a2) a3) a1 6 (-a3)) a2))) ⟨va_cnB 3 hts gX4_returnBottles_X2_addToShop_n58 rfl rfl rfl (hk.2 (.methodLinkNest RX4 58 yX2_addToShop RX5) (List.mem_of_getElem? (i := 34) rfl)) (hts (.initialized RX2) (List.mem_of_getElem? (i := 3) rfl)) bd_X2addToShop ⟨Nat.le_of_ble_eq_true rfl, Nat.le_of_ble_eq_true rfl⟩, (hts (.instanceMethod yX2_addToShop) (List.mem_of_getElem? (i := 15) rfl)), (hts (.selects RX2 yX2_addToShop yX2_addToShop) (List.mem_of_getElem? (i := 16) rfl))⟩ (bPV hk (va_recv hk.1 hP (ci := 2) (q0 := 3) rfl (wC_3 _ _ _ _))) rfl rfl hl.1 rfl (lv_room (Nat.le_of_ble_eq_true rfl)) dX4_returnBottles_50 ⟨Nat.zero_le _, Nat.zero_le _⟩) hS (fun H locs hP _ hS => ?_)
  refine lv_aload_n hx hb dX4_returnBottles_53 rfl (lv_at hl 0 rfl) ?_
  refine va_get (D := D) (ci := 4) (C := RX4) (T := TX4) (N := 2) hx hb hts iX4 hown hk.1 hP 1 (wC_1 _ _ _ _) rfl 0 (by decide) (hts (.fieldLink RX4 12 "BottleLoop$Trade" "state" "LBottleLoop$State;") (List.mem_of_getElem? (i := 1) rfl)) (fun _ h9 => h9) rfl dX4_returnBottles_54 ?_
  refine lv_iload_n hx hb dX4_returnBottles_57 rfl (lv_at hl 1 rfl) ?_
  refine lv_iconst (v := 0) hx hb dX4_returnBottles_58 (by decide) ?_
  refine bcall_Ri (va_runVN (As := [.int a1, .int 0]) (rest := []) ⟨hx, hb, hml, hown, hts⟩ (C2_ofShop l D cI cO q _ _ hP a1 0) ⟨va_cnB 2 hts gX4_returnBottles_X2_ofShop_n36 rfl rfl rfl (hk.2 (.methodLinkNest RX4 36 yX2_ofShop RX5) (List.mem_of_getElem? (i := 26) rfl)) (hts (.initialized RX2) (List.mem_of_getElem? (i := 3) rfl)) bd_X2ofShop ⟨Nat.le_of_ble_eq_true rfl, Nat.le_of_ble_eq_true rfl⟩, (hts (.instanceMethod yX2_ofShop) (List.mem_of_getElem? (i := 29) rfl)), (hts (.selects RX2 yX2_ofShop yX2_ofShop) (List.mem_of_getElem? (i := 30) rfl))⟩ (bPV hk (va_recv hk.1 hP (ci := 2) (q0 := 3) rfl (wC_3 _ _ _ _))) rfl rfl hl.1 rfl (lv_room (Nat.le_of_ble_eq_true rfl)) dX4_returnBottles_59 ⟨Nat.zero_le _, Nat.zero_le _⟩) hS (fun locs hS => ?_)
  exact bret_Wi hx hb hr hP trivial hS hlocks dX4_returnBottles_62 (by rw [← hF, F4_returnBottles])
def F4_breakBottles (u : bU) (a1 : Int32) (a2 : Int32) (a3 : Int32) : Int32 × bU := ((bmin (a3 * (F4_depositOf u a2)) (F2_ofAll u 6)), (F2_addToShop (F2_addToShop (F2_addToAll (F2_addToAll (F2_addToBrand (F2_addToShop u a1 (20 + a2) (-a3)) a2 7 a3) 5 (a3 * (F4_depositOf u a2))) 6 (-(bmin (a3 * (F4_depositOf u a2)) (F2_ofAll u 6)))) a1 5 (-(bmin (a3 * (F4_depositOf u a2)) (F2_ofAll u 6)))) a1 0 (bmin (a3 * (F4_depositOf u a2)) (F2_ofAll u 6))))
set_option maxHeartbeats 4000000 in
set_option maxRecDepth 100000 in
theorem C4_breakBottles (l : Launch) (D : va_G) (cI cO : ClassId) (q : Nat → Nat) (u : bU) (H0 : Heap) (hq : bInj 23 q) (hP : va_P D vwCl (wC cI cO q u) H0) (a1 : Int32) (a2 : Int32) (a3 : Int32) : Met l yX4_breakBottles wsX4_breakBottles ({ frames := 3, cells := 0, slots := 0, locals := 64 }) (bP D [(cI, .int), (cO, .object RX2)] H0 [.ref (q 1), .int a1, .int a2, .int a3]) (bWi D (wC cI cO q) bT (bA 23 q H0.size) (F4_breakBottles u a1 a2 a3)) 0 0 (bA 23 q H0.size) := by
  refine Met.ofW (cc := cX4_breakBottles) (maxL := 6) (ret := (some .int)) (by decide) rfl ?_
  intro p e s m args below meth c s₁ B hml hv
  obtain ⟨rfl, hH, hk⟩ := hv
  subst hH
  have hx := B.exec
  have hb := B.bytes
  have hr := B.returns
  have hts := atoms_spec (ws := wsX4_breakBottles) B.pre
  have hown : s.vm.findClass RX4 = some m.cls := findClass_of_methodNamed B.named
  have hlocks := B.notSynchronized
  have iX4 : ∀ w ∈ wsX40, w ∈ wsX4_breakBottles := by decide +kernel
  have hS : va_S (bA 23 q s.heap.size) s.heap s.heap [] := va_S.rf
  have hl := lv_entry ([.ref (q 1), .int a1, .int a2, .int a3]) (n := 6) (Nat.le_of_ble_eq_true rfl)
  rw [lg_entry_eq]
  generalize (lg_sl ([.ref (q 1), .int a1, .int a2, .int a3]) ++ List.replicate (6 - (lg_sl ([.ref (q 1), .int a1, .int a2, .int a3])).length) Slot.unset).toArray = ls at hl ⊢
  have hl : lv_has ls 6 [(0, .ref (q 1)), (1, .int a1), (2, .int a2), (3, .int a3)] := hl
  generalize hF : F4_breakBottles u a1 a2 a3 = tgt
  refine lv_iload_n hx hb dX4_breakBottles_0 rfl (lv_at hl 3 rfl) ?_
  refine lv_aload_n hx hb dX4_breakBottles_1 rfl (lv_at hl 0 rfl) ?_
  refine lv_iload_n hx hb dX4_breakBottles_2 rfl (lv_at hl 2 rfl) ?_
  refine bcall_Ri (va_runV (As := [.int a2]) (rest := [.int a3]) ⟨hx, hb, hml, hown, hts⟩ (C4_depositOf l D cI cO q _ _ hP a2) (cwV 1 hts gX4_breakBottles_X4_depositOf rfl rfl rfl ⟨rfl, bd_X4depositOf⟩ ⟨Nat.le_of_ble_eq_true rfl, Nat.le_of_ble_eq_true rfl⟩) (bPV hk (va_recv hk.1 hP (ci := 4) (q0 := 1) rfl (wC_1 _ _ _ _))) rfl rfl hl.1 rfl (lv_room (Nat.le_of_ble_eq_true rfl)) dX4_breakBottles_3 ⟨Nat.zero_le _, Nat.zero_le _⟩) hS (fun locs hS => ?_)
  refine lv_imul hx hb dX4_breakBottles_6 ?_
  refine lv_istore (lv' := [(4, .int (a3 * (F4_depositOf u a2))), (0, .ref (q 1)), (1, .int a1), (2, .int a2), (3, .int a3)]) hx hb dX4_breakBottles_7 hl (by decide) rfl (fun ls hl => ?_)
  refine lv_iload hx hb dX4_breakBottles_9 (lv_at hl 0 rfl) ?_
  refine lv_aload_n hx hb dX4_breakBottles_11 rfl (lv_at hl 1 rfl) ?_
  refine va_get (D := D) (ci := 4) (C := RX4) (T := TX4) (N := 2) hx hb hts iX4 hown hk.1 hP 1 (wC_1 _ _ _ _) rfl 0 (by decide) (hts (.fieldLink RX4 12 "BottleLoop$Trade" "state" "LBottleLoop$State;") (List.mem_of_getElem? (i := 1) rfl)) (fun _ h9 => h9) rfl dX4_breakBottles_12 ?_
  refine lv_bipush (v := 6) hx hb dX4_breakBottles_15 (by decide) ?_
  refine bcall_Ri (va_runVN (As := [.int 6]) (rest := [.int (a3 * (F4_depositOf u a2))]) ⟨hx, hb, hml, hown, hts⟩ (C2_ofAll l D cI cO q _ _ hP 6) ⟨va_cnB 1 hts gX4_breakBottles_X2_ofAll_n33 rfl rfl rfl (hk.2 (.methodLinkNest RX4 33 yX2_ofAll RX5) (List.mem_of_getElem? (i := 31) rfl)) (hts (.initialized RX2) (List.mem_of_getElem? (i := 12) rfl)) bd_X2ofAll ⟨Nat.le_of_ble_eq_true rfl, Nat.le_of_ble_eq_true rfl⟩, (hts (.instanceMethod yX2_ofAll) (List.mem_of_getElem? (i := 23) rfl)), (hts (.selects RX2 yX2_ofAll yX2_ofAll) (List.mem_of_getElem? (i := 24) rfl))⟩ (bPV hk (va_recv hk.1 hP (ci := 2) (q0 := 3) rfl (wC_3 _ _ _ _))) rfl rfl hl.1 rfl (lv_room (Nat.le_of_ble_eq_true rfl)) dX4_breakBottles_17 ⟨Nat.zero_le _, Nat.zero_le _⟩) hS (fun locs hS => ?_)
  refine bcall_min hx hb (hml.trans hl.1.symm) hown (hts (.methodLink RX4 65 Lib.Math.min.name) (List.mem_of_getElem? (i := 2) rfl)) (hts (.static Lib.Math.min.name) (List.mem_of_getElem? (i := 3) rfl)) (hts (.initialized "java/lang/Math") (List.mem_of_getElem? (i := 4) rfl)) (hts (.code Lib.Math.min.name Lib.Math.min.code 2 (some .int)) (List.mem_of_getElem? (i := 5) rfl)) (Nat.le_of_ble_eq_true rfl) (Nat.le_of_ble_eq_true rfl) (Nat.zero_le _) (Nat.zero_le _) dX4_breakBottles_20 ?_
  refine lv_istore (lv' := [(5, .int (bmin (a3 * (F4_depositOf u a2)) (F2_ofAll u 6))), (4, .int (a3 * (F4_depositOf u a2))), (0, .ref (q 1)), (1, .int a1), (2, .int a2), (3, .int a3)]) hx hb dX4_breakBottles_23 hl (by decide) rfl (fun ls hl => ?_)
  refine lv_aload_n hx hb dX4_breakBottles_25 rfl (lv_at hl 2 rfl) ?_
  refine va_get (D := D) (ci := 4) (C := RX4) (T := TX4) (N := 2) hx hb hts iX4 hown hk.1 hP 1 (wC_1 _ _ _ _) rfl 0 (by decide) (hts (.fieldLink RX4 12 "BottleLoop$Trade" "state" "LBottleLoop$State;") (List.mem_of_getElem? (i := 1) rfl)) (fun _ h9 => h9) rfl dX4_breakBottles_26 ?_
  refine lv_iload_n hx hb dX4_breakBottles_29 rfl (lv_at hl 3 rfl) ?_
  refine lv_bipush (v := 20) hx hb dX4_breakBottles_30 (by decide) ?_
  refine lv_iload_n hx hb dX4_breakBottles_32 rfl (lv_at hl 4 rfl) ?_
  refine lv_iadd hx hb dX4_breakBottles_33 ?_
  refine lv_iload_n hx hb dX4_breakBottles_34 rfl (lv_at hl 5 rfl) ?_
  refine lv_ineg hx hb dX4_breakBottles_35 ?_
  refine bcall_Wv (va_runVN (As := [.int a1, .int (20 + a2), .int (-a3)]) (rest := []) ⟨hx, hb, hml, hown, hts⟩ (C2_addToShop l D cI cO q _ _ hq hP a1 (20 + a2) (-a3)) ⟨va_cnB 3 hts gX4_breakBottles_X2_addToShop_n58 rfl rfl rfl (hk.2 (.methodLinkNest RX4 58 yX2_addToShop RX5) (List.mem_of_getElem? (i := 34) rfl)) (hts (.initialized RX2) (List.mem_of_getElem? (i := 12) rfl)) bd_X2addToShop ⟨Nat.le_of_ble_eq_true rfl, Nat.le_of_ble_eq_true rfl⟩, (hts (.instanceMethod yX2_addToShop) (List.mem_of_getElem? (i := 26) rfl)), (hts (.selects RX2 yX2_addToShop yX2_addToShop) (List.mem_of_getElem? (i := 27) rfl))⟩ (bPV hk (va_recv hk.1 hP (ci := 2) (q0 := 3) rfl (wC_3 _ _ _ _))) rfl rfl hl.1 rfl (lv_room (Nat.le_of_ble_eq_true rfl)) dX4_breakBottles_36 ⟨Nat.zero_le _, Nat.zero_le _⟩) hS (fun H locs hP _ hS => ?_)
  refine lv_aload_n hx hb dX4_breakBottles_39 rfl (lv_at hl 2 rfl) ?_
  refine va_get (D := D) (ci := 4) (C := RX4) (T := TX4) (N := 2) hx hb hts iX4 hown hk.1 hP 1 (wC_1 _ _ _ _) rfl 0 (by decide) (hts (.fieldLink RX4 12 "BottleLoop$Trade" "state" "LBottleLoop$State;") (List.mem_of_getElem? (i := 1) rfl)) (fun _ h9 => h9) rfl dX4_breakBottles_40 ?_
  refine lv_iload_n hx hb dX4_breakBottles_43 rfl (lv_at hl 4 rfl) ?_
  refine lv_bipush (v := 7) hx hb dX4_breakBottles_44 (by decide) ?_
  refine lv_iload_n hx hb dX4_breakBottles_46 rfl (lv_at hl 5 rfl) ?_
  refine bcall_Wv (va_runVN (As := [.int a2, .int 7, .int a3]) (rest := []) ⟨hx, hb, hml, hown, hts⟩ (C2_addToBrand l D cI cO q _ _ hq hP a2 7 a3) ⟨va_cnB 3 hts gX4_breakBottles_X2_addToBrand_n54 rfl rfl rfl (hk.2 (.methodLinkNest RX4 54 yX2_addToBrand RX5) (List.mem_of_getElem? (i := 21) rfl)) (hts (.initialized RX2) (List.mem_of_getElem? (i := 12) rfl)) bd_X2addToBrand ⟨Nat.le_of_ble_eq_true rfl, Nat.le_of_ble_eq_true rfl⟩, (hts (.instanceMethod yX2_addToBrand) (List.mem_of_getElem? (i := 33) rfl)), (hts (.selects RX2 yX2_addToBrand yX2_addToBrand) (List.mem_of_getElem? (i := 34) rfl))⟩ (bPV hk (va_recv hk.1 hP (ci := 2) (q0 := 3) rfl (wC_3 _ _ _ _))) rfl rfl hl.1 rfl (lv_room (Nat.le_of_ble_eq_true rfl)) dX4_breakBottles_47 ⟨Nat.zero_le _, Nat.zero_le _⟩) hS (fun H locs hP _ hS => ?_)
  refine lv_aload_n hx hb dX4_breakBottles_50 rfl (lv_at hl 2 rfl) ?_
  refine va_get (D := D) (ci := 4) (C := RX4) (T := TX4) (N := 2) hx hb hts iX4 hown hk.1 hP 1 (wC_1 _ _ _ _) rfl 0 (by decide) (hts (.fieldLink RX4 12 "BottleLoop$Trade" "state" "LBottleLoop$State;") (List.mem_of_getElem? (i := 1) rfl)) (fun _ h9 => h9) rfl dX4_breakBottles_51 ?_
  refine lv_iconst (v := 5) hx hb dX4_breakBottles_54 (by decide) ?_
  refine lv_iload hx hb dX4_breakBottles_55 (lv_at hl 1 rfl) ?_
  refine bcall_Wv (va_runVN (As := [.int 5, .int (a3 * (F4_depositOf u a2))]) (rest := []) ⟨hx, hb, hml, hown, hts⟩ (C2_addToAll l D cI cO q _ _ hq hP 5 (a3 * (F4_depositOf u a2))) ⟨va_cnB 2 hts gX4_breakBottles_X2_addToAll_n61 rfl rfl rfl (hk.2 (.methodLinkNest RX4 61 yX2_addToAll RX5) (List.mem_of_getElem? (i := 35) rfl)) (hts (.initialized RX2) (List.mem_of_getElem? (i := 12) rfl)) bd_X2addToAll ⟨Nat.le_of_ble_eq_true rfl, Nat.le_of_ble_eq_true rfl⟩, (hts (.instanceMethod yX2_addToAll) (List.mem_of_getElem? (i := 36) rfl)), (hts (.selects RX2 yX2_addToAll yX2_addToAll) (List.mem_of_getElem? (i := 37) rfl))⟩ (bPV hk (va_recv hk.1 hP (ci := 2) (q0 := 3) rfl (wC_3 _ _ _ _))) rfl rfl hl.1 rfl (lv_room (Nat.le_of_ble_eq_true rfl)) dX4_breakBottles_57 ⟨Nat.zero_le _, Nat.zero_le _⟩) hS (fun H locs hP _ hS => ?_)
  refine lv_aload_n hx hb dX4_breakBottles_60 rfl (lv_at hl 2 rfl) ?_
  refine va_get (D := D) (ci := 4) (C := RX4) (T := TX4) (N := 2) hx hb hts iX4 hown hk.1 hP 1 (wC_1 _ _ _ _) rfl 0 (by decide) (hts (.fieldLink RX4 12 "BottleLoop$Trade" "state" "LBottleLoop$State;") (List.mem_of_getElem? (i := 1) rfl)) (fun _ h9 => h9) rfl dX4_breakBottles_61 ?_
  refine lv_bipush (v := 6) hx hb dX4_breakBottles_64 (by decide) ?_
  refine lv_iload hx hb dX4_breakBottles_66 (lv_at hl 0 rfl) ?_
  refine lv_ineg hx hb dX4_breakBottles_68 ?_
  refine bcall_Wv (va_runVN (As := [.int 6, .int (-(bmin (a3 * (F4_depositOf u a2)) (F2_ofAll u 6)))]) (rest := []) ⟨hx, hb, hml, hown, hts⟩ (C2_addToAll l D cI cO q _ _ hq hP 6 (-(bmin (a3 * (F4_depositOf u a2)) (F2_ofAll u 6)))) ⟨va_cnB 2 hts gX4_breakBottles_X2_addToAll_n61 rfl rfl rfl (hk.2 (.methodLinkNest RX4 61 yX2_addToAll RX5) (List.mem_of_getElem? (i := 35) rfl)) (hts (.initialized RX2) (List.mem_of_getElem? (i := 12) rfl)) bd_X2addToAll ⟨Nat.le_of_ble_eq_true rfl, Nat.le_of_ble_eq_true rfl⟩, (hts (.instanceMethod yX2_addToAll) (List.mem_of_getElem? (i := 36) rfl)), (hts (.selects RX2 yX2_addToAll yX2_addToAll) (List.mem_of_getElem? (i := 37) rfl))⟩ (bPV hk (va_recv hk.1 hP (ci := 2) (q0 := 3) rfl (wC_3 _ _ _ _))) rfl rfl hl.1 rfl (lv_room (Nat.le_of_ble_eq_true rfl)) dX4_breakBottles_69 ⟨Nat.zero_le _, Nat.zero_le _⟩) hS (fun H locs hP _ hS => ?_)
  refine lv_aload_n hx hb dX4_breakBottles_72 rfl (lv_at hl 2 rfl) ?_
  refine va_get (D := D) (ci := 4) (C := RX4) (T := TX4) (N := 2) hx hb hts iX4 hown hk.1 hP 1 (wC_1 _ _ _ _) rfl 0 (by decide) (hts (.fieldLink RX4 12 "BottleLoop$Trade" "state" "LBottleLoop$State;") (List.mem_of_getElem? (i := 1) rfl)) (fun _ h9 => h9) rfl dX4_breakBottles_73 ?_
  refine lv_iload_n hx hb dX4_breakBottles_76 rfl (lv_at hl 3 rfl) ?_
  refine lv_iconst (v := 5) hx hb dX4_breakBottles_77 (by decide) ?_
  refine lv_iload hx hb dX4_breakBottles_78 (lv_at hl 0 rfl) ?_
  refine lv_ineg hx hb dX4_breakBottles_80 ?_
  refine bcall_Wv (va_runVN (As := [.int a1, .int 5, .int (-(bmin (a3 * (F4_depositOf u a2)) (F2_ofAll u 6)))]) (rest := []) ⟨hx, hb, hml, hown, hts⟩ (C2_addToShop l D cI cO q _ _ hq hP a1 5 (-(bmin (a3 * (F4_depositOf u a2)) (F2_ofAll u 6)))) ⟨va_cnB 3 hts gX4_breakBottles_X2_addToShop_n58 rfl rfl rfl (hk.2 (.methodLinkNest RX4 58 yX2_addToShop RX5) (List.mem_of_getElem? (i := 34) rfl)) (hts (.initialized RX2) (List.mem_of_getElem? (i := 12) rfl)) bd_X2addToShop ⟨Nat.le_of_ble_eq_true rfl, Nat.le_of_ble_eq_true rfl⟩, (hts (.instanceMethod yX2_addToShop) (List.mem_of_getElem? (i := 26) rfl)), (hts (.selects RX2 yX2_addToShop yX2_addToShop) (List.mem_of_getElem? (i := 27) rfl))⟩ (bPV hk (va_recv hk.1 hP (ci := 2) (q0 := 3) rfl (wC_3 _ _ _ _))) rfl rfl hl.1 rfl (lv_room (Nat.le_of_ble_eq_true rfl)) dX4_breakBottles_81 ⟨Nat.zero_le _, Nat.zero_le _⟩) hS (fun H locs hP _ hS => ?_)
  refine lv_aload_n hx hb dX4_breakBottles_84 rfl (lv_at hl 2 rfl) ?_
  refine va_get (D := D) (ci := 4) (C := RX4) (T := TX4) (N := 2) hx hb hts iX4 hown hk.1 hP 1 (wC_1 _ _ _ _) rfl 0 (by decide) (hts (.fieldLink RX4 12 "BottleLoop$Trade" "state" "LBottleLoop$State;") (List.mem_of_getElem? (i := 1) rfl)) (fun _ h9 => h9) rfl dX4_breakBottles_85 ?_
  refine lv_iload_n hx hb dX4_breakBottles_88 rfl (lv_at hl 3 rfl) ?_
  refine lv_iconst (v := 0) hx hb dX4_breakBottles_89 (by decide) ?_
  refine lv_iload hx hb dX4_breakBottles_90 (lv_at hl 0 rfl) ?_
  refine bcall_Wv (va_runVN (As := [.int a1, .int 0, .int (bmin (a3 * (F4_depositOf u a2)) (F2_ofAll u 6))]) (rest := []) ⟨hx, hb, hml, hown, hts⟩ (C2_addToShop l D cI cO q _ _ hq hP a1 0 (bmin (a3 * (F4_depositOf u a2)) (F2_ofAll u 6))) ⟨va_cnB 3 hts gX4_breakBottles_X2_addToShop_n58 rfl rfl rfl (hk.2 (.methodLinkNest RX4 58 yX2_addToShop RX5) (List.mem_of_getElem? (i := 34) rfl)) (hts (.initialized RX2) (List.mem_of_getElem? (i := 12) rfl)) bd_X2addToShop ⟨Nat.le_of_ble_eq_true rfl, Nat.le_of_ble_eq_true rfl⟩, (hts (.instanceMethod yX2_addToShop) (List.mem_of_getElem? (i := 26) rfl)), (hts (.selects RX2 yX2_addToShop yX2_addToShop) (List.mem_of_getElem? (i := 27) rfl))⟩ (bPV hk (va_recv hk.1 hP (ci := 2) (q0 := 3) rfl (wC_3 _ _ _ _))) rfl rfl hl.1 rfl (lv_room (Nat.le_of_ble_eq_true rfl)) dX4_breakBottles_92 ⟨Nat.zero_le _, Nat.zero_le _⟩) hS (fun H locs hP _ hS => ?_)
  refine lv_iload hx hb dX4_breakBottles_95 (lv_at hl 0 rfl) ?_
  exact bret_Wi hx hb hr hP trivial hS hlocks dX4_breakBottles_97 (by rw [← hF, F4_breakBottles])
def F4_loseBottles (u : bU) (a1 : Int32) (a2 : Int32) : Int32 × bU := ((F2_ofBrand (F2_addToAll (F2_addToBrand (F2_addToBrand u a1 5 (-a2)) a1 8 a2) 5 (a2 * (F4_depositOf (F2_addToBrand (F2_addToBrand u a1 5 (-a2)) a1 8 a2) a1))) a1 5), (F2_addToAll (F2_addToBrand (F2_addToBrand u a1 5 (-a2)) a1 8 a2) 5 (a2 * (F4_depositOf (F2_addToBrand (F2_addToBrand u a1 5 (-a2)) a1 8 a2) a1))))
set_option maxHeartbeats 4000000 in
set_option maxRecDepth 100000 in
theorem C4_loseBottles (l : Launch) (D : va_G) (cI cO : ClassId) (q : Nat → Nat) (u : bU) (H0 : Heap) (hq : bInj 23 q) (hP : va_P D vwCl (wC cI cO q u) H0) (a1 : Int32) (a2 : Int32) : Met l yX4_loseBottles wsX4_loseBottles ({ frames := 3, cells := 0, slots := 0, locals := 64 }) (bP D [(cI, .int), (cO, .object RX2)] H0 [.ref (q 1), .int a1, .int a2]) (bWi D (wC cI cO q) bT (bA 23 q H0.size) (F4_loseBottles u a1 a2)) 0 0 (bA 23 q H0.size) := by
  refine Met.ofW (cc := cX4_loseBottles) (maxL := 3) (ret := (some .int)) (by decide) rfl ?_
  intro p e s m args below meth c s₁ B hml hv
  obtain ⟨rfl, hH, hk⟩ := hv
  subst hH
  have hx := B.exec
  have hb := B.bytes
  have hr := B.returns
  have hts := atoms_spec (ws := wsX4_loseBottles) B.pre
  have hown : s.vm.findClass RX4 = some m.cls := findClass_of_methodNamed B.named
  have hlocks := B.notSynchronized
  have iX4 : ∀ w ∈ wsX40, w ∈ wsX4_loseBottles := by decide +kernel
  have hS : va_S (bA 23 q s.heap.size) s.heap s.heap [] := va_S.rf
  have hl := lv_entry ([.ref (q 1), .int a1, .int a2]) (n := 3) (Nat.le_of_ble_eq_true rfl)
  rw [lg_entry_eq]
  generalize (lg_sl ([.ref (q 1), .int a1, .int a2]) ++ List.replicate (3 - (lg_sl ([.ref (q 1), .int a1, .int a2])).length) Slot.unset).toArray = ls at hl ⊢
  have hl : lv_has ls 3 [(0, .ref (q 1)), (1, .int a1), (2, .int a2)] := hl
  generalize hF : F4_loseBottles u a1 a2 = tgt
  refine lv_aload_n hx hb dX4_loseBottles_0 rfl (lv_at hl 0 rfl) ?_
  refine va_get (D := D) (ci := 4) (C := RX4) (T := TX4) (N := 2) hx hb hts iX4 hown hk.1 hP 1 (wC_1 _ _ _ _) rfl 0 (by decide) (hts (.fieldLink RX4 12 "BottleLoop$Trade" "state" "LBottleLoop$State;") (List.mem_of_getElem? (i := 1) rfl)) (fun _ h9 => h9) rfl dX4_loseBottles_1 ?_
  refine lv_iload_n hx hb dX4_loseBottles_4 rfl (lv_at hl 1 rfl) ?_
  refine lv_iconst (v := 5) hx hb dX4_loseBottles_5 (by decide) ?_
  refine lv_iload_n hx hb dX4_loseBottles_6 rfl (lv_at hl 2 rfl) ?_
  refine lv_ineg hx hb dX4_loseBottles_7 ?_
  refine bcall_Wv (va_runVN (As := [.int a1, .int 5, .int (-a2)]) (rest := []) ⟨hx, hb, hml, hown, hts⟩ (C2_addToBrand l D cI cO q _ _ hq hP a1 5 (-a2)) ⟨va_cnB 3 hts gX4_loseBottles_X2_addToBrand_n54 rfl rfl rfl (hk.2 (.methodLinkNest RX4 54 yX2_addToBrand RX5) (List.mem_of_getElem? (i := 21) rfl)) (hts (.initialized RX2) (List.mem_of_getElem? (i := 3) rfl)) bd_X2addToBrand ⟨Nat.le_of_ble_eq_true rfl, Nat.le_of_ble_eq_true rfl⟩, (hts (.instanceMethod yX2_addToBrand) (List.mem_of_getElem? (i := 2) rfl)), (hts (.selects RX2 yX2_addToBrand yX2_addToBrand) (List.mem_of_getElem? (i := 4) rfl))⟩ (bPV hk (va_recv hk.1 hP (ci := 2) (q0 := 3) rfl (wC_3 _ _ _ _))) rfl rfl hl.1 rfl (lv_room (Nat.le_of_ble_eq_true rfl)) dX4_loseBottles_8 ⟨Nat.zero_le _, Nat.zero_le _⟩) hS (fun H locs hP _ hS => ?_)
  refine lv_aload_n hx hb dX4_loseBottles_11 rfl (lv_at hl 0 rfl) ?_
  refine va_get (D := D) (ci := 4) (C := RX4) (T := TX4) (N := 2) hx hb hts iX4 hown hk.1 hP 1 (wC_1 _ _ _ _) rfl 0 (by decide) (hts (.fieldLink RX4 12 "BottleLoop$Trade" "state" "LBottleLoop$State;") (List.mem_of_getElem? (i := 1) rfl)) (fun _ h9 => h9) rfl dX4_loseBottles_12 ?_
  refine lv_iload_n hx hb dX4_loseBottles_15 rfl (lv_at hl 1 rfl) ?_
  refine lv_bipush (v := 8) hx hb dX4_loseBottles_16 (by decide) ?_
  refine lv_iload_n hx hb dX4_loseBottles_18 rfl (lv_at hl 2 rfl) ?_
  refine bcall_Wv (va_runVN (As := [.int a1, .int 8, .int a2]) (rest := []) ⟨hx, hb, hml, hown, hts⟩ (C2_addToBrand l D cI cO q _ _ hq hP a1 8 a2) ⟨va_cnB 3 hts gX4_loseBottles_X2_addToBrand_n54 rfl rfl rfl (hk.2 (.methodLinkNest RX4 54 yX2_addToBrand RX5) (List.mem_of_getElem? (i := 21) rfl)) (hts (.initialized RX2) (List.mem_of_getElem? (i := 3) rfl)) bd_X2addToBrand ⟨Nat.le_of_ble_eq_true rfl, Nat.le_of_ble_eq_true rfl⟩, (hts (.instanceMethod yX2_addToBrand) (List.mem_of_getElem? (i := 2) rfl)), (hts (.selects RX2 yX2_addToBrand yX2_addToBrand) (List.mem_of_getElem? (i := 4) rfl))⟩ (bPV hk (va_recv hk.1 hP (ci := 2) (q0 := 3) rfl (wC_3 _ _ _ _))) rfl rfl hl.1 rfl (lv_room (Nat.le_of_ble_eq_true rfl)) dX4_loseBottles_19 ⟨Nat.zero_le _, Nat.zero_le _⟩) hS (fun H locs hP _ hS => ?_)
  refine lv_aload_n hx hb dX4_loseBottles_22 rfl (lv_at hl 0 rfl) ?_
  refine va_get (D := D) (ci := 4) (C := RX4) (T := TX4) (N := 2) hx hb hts iX4 hown hk.1 hP 1 (wC_1 _ _ _ _) rfl 0 (by decide) (hts (.fieldLink RX4 12 "BottleLoop$Trade" "state" "LBottleLoop$State;") (List.mem_of_getElem? (i := 1) rfl)) (fun _ h9 => h9) rfl dX4_loseBottles_23 ?_
  refine lv_iconst (v := 5) hx hb dX4_loseBottles_26 (by decide) ?_
  refine lv_iload_n hx hb dX4_loseBottles_27 rfl (lv_at hl 2 rfl) ?_
  refine lv_aload_n hx hb dX4_loseBottles_28 rfl (lv_at hl 0 rfl) ?_
  refine lv_iload_n hx hb dX4_loseBottles_29 rfl (lv_at hl 1 rfl) ?_
  refine bcall_Ri (va_runV (As := [.int a1]) (rest := [.int a2, .int 5, .ref (q 3)]) ⟨hx, hb, hml, hown, hts⟩ (C4_depositOf l D cI cO q _ _ hP a1) (cwV 1 hts gX4_loseBottles_X4_depositOf rfl rfl rfl ⟨rfl, bd_X4depositOf⟩ ⟨Nat.le_of_ble_eq_true rfl, Nat.le_of_ble_eq_true rfl⟩) (bPV hk (va_recv hk.1 hP (ci := 4) (q0 := 1) rfl (wC_1 _ _ _ _))) rfl rfl hl.1 rfl (lv_room (Nat.le_of_ble_eq_true rfl)) dX4_loseBottles_30 ⟨Nat.zero_le _, Nat.zero_le _⟩) hS (fun locs hS => ?_)
  refine lv_imul hx hb dX4_loseBottles_33 ?_
  refine bcall_Wv (va_runVN (As := [.int 5, .int (a2 * (F4_depositOf (F2_addToBrand (F2_addToBrand u a1 5 (-a2)) a1 8 a2) a1))]) (rest := []) ⟨hx, hb, hml, hown, hts⟩ (C2_addToAll l D cI cO q _ _ hq hP 5 (a2 * (F4_depositOf (F2_addToBrand (F2_addToBrand u a1 5 (-a2)) a1 8 a2) a1))) ⟨va_cnB 2 hts gX4_loseBottles_X2_addToAll_n61 rfl rfl rfl (hk.2 (.methodLinkNest RX4 61 yX2_addToAll RX5) (List.mem_of_getElem? (i := 35) rfl)) (hts (.initialized RX2) (List.mem_of_getElem? (i := 3) rfl)) bd_X2addToAll ⟨Nat.le_of_ble_eq_true rfl, Nat.le_of_ble_eq_true rfl⟩, (hts (.instanceMethod yX2_addToAll) (List.mem_of_getElem? (i := 26) rfl)), (hts (.selects RX2 yX2_addToAll yX2_addToAll) (List.mem_of_getElem? (i := 27) rfl))⟩ (bPV hk (va_recv hk.1 hP (ci := 2) (q0 := 3) rfl (wC_3 _ _ _ _))) rfl rfl hl.1 rfl (lv_room (Nat.le_of_ble_eq_true rfl)) dX4_loseBottles_34 ⟨Nat.zero_le _, Nat.zero_le _⟩) hS (fun H locs hP _ hS => ?_)
  refine lv_aload_n hx hb dX4_loseBottles_37 rfl (lv_at hl 0 rfl) ?_
  refine va_get (D := D) (ci := 4) (C := RX4) (T := TX4) (N := 2) hx hb hts iX4 hown hk.1 hP 1 (wC_1 _ _ _ _) rfl 0 (by decide) (hts (.fieldLink RX4 12 "BottleLoop$Trade" "state" "LBottleLoop$State;") (List.mem_of_getElem? (i := 1) rfl)) (fun _ h9 => h9) rfl dX4_loseBottles_38 ?_
  refine lv_iload_n hx hb dX4_loseBottles_41 rfl (lv_at hl 1 rfl) ?_
  refine lv_iconst (v := 5) hx hb dX4_loseBottles_42 (by decide) ?_
  refine bcall_Ri (va_runVN (As := [.int a1, .int 5]) (rest := []) ⟨hx, hb, hml, hown, hts⟩ (C2_ofBrand l D cI cO q _ _ hP a1 5) ⟨va_cnB 2 hts gX4_loseBottles_X2_ofBrand_n22 rfl rfl rfl (hk.2 (.methodLinkNest RX4 22 yX2_ofBrand RX5) (List.mem_of_getElem? (i := 20) rfl)) (hts (.initialized RX2) (List.mem_of_getElem? (i := 3) rfl)) bd_X2ofBrand ⟨Nat.le_of_ble_eq_true rfl, Nat.le_of_ble_eq_true rfl⟩, (hts (.instanceMethod yX2_ofBrand) (List.mem_of_getElem? (i := 20) rfl)), (hts (.selects RX2 yX2_ofBrand yX2_ofBrand) (List.mem_of_getElem? (i := 21) rfl))⟩ (bPV hk (va_recv hk.1 hP (ci := 2) (q0 := 3) rfl (wC_3 _ _ _ _))) rfl rfl hl.1 rfl (lv_room (Nat.le_of_ble_eq_true rfl)) dX4_loseBottles_43 ⟨Nat.zero_le _, Nat.zero_le _⟩) hS (fun locs hS => ?_)
  exact bret_Wi hx hb hr hP trivial hS hlocks dX4_loseBottles_46 (by rw [← hF, F4_loseBottles])
def L4_yardOf_4 (u : bU) (a1 : Int32) : Nat → Nat → Int32 → Int32
  | 0, _, x2_4 => x2_4
  | n4 + 1, j4, x2_4 => (if (8 : Int32) ≤ (nI j4) then x2_4 else (if (F2_ofBrand u (nI j4) 0) = a1 then (L4_yardOf_4 u a1 n4 (j4 + 1) (x2_4 + (F2_ofBrand u (nI j4) 6))) else (L4_yardOf_4 u a1 n4 (j4 + 1) x2_4)))
def F4_yardOf (u : bU) (a1 : Int32) : Int32 := (L4_yardOf_4 u a1 (8 + 1) 0 0)
set_option maxHeartbeats 4000000 in
set_option maxRecDepth 100000 in
theorem C4_yardOf (l : Launch) (D : va_G) (cI cO : ClassId) (q : Nat → Nat) (u : bU) (H0 : Heap) (hP : va_P D vwCl (wC cI cO q u) H0) (a1 : Int32) : Met l yX4_yardOf wsX4_yardOf ({ frames := 2, cells := 0, slots := 0, locals := 43 }) (bP D [(cI, .int), (cO, .object RX2)] H0 [.ref (q 1), .int a1]) (bRi H0 (F4_yardOf u a1)) 0 0 (fun _ => False) := by
  refine Met.ofW (cc := cX4_yardOf) (maxL := 4) (ret := (some .int)) (by decide) rfl ?_
  intro p e s m args below meth c s₁ B hml hv
  obtain ⟨rfl, hH, hk⟩ := hv
  subst hH
  have hx := B.exec
  have hb := B.bytes
  have hr := B.returns
  have hts := atoms_spec (ws := wsX4_yardOf) B.pre
  have hown : s.vm.findClass RX4 = some m.cls := findClass_of_methodNamed B.named
  have hlocks := B.notSynchronized
  have iX4 : ∀ w ∈ wsX40, w ∈ wsX4_yardOf := by decide +kernel
  have hS : va_S (fun _ => False) s.heap s.heap [] := va_S.rf
  have hl := lv_entry ([.ref (q 1), .int a1]) (n := 4) (Nat.le_of_ble_eq_true rfl)
  rw [lg_entry_eq]
  generalize (lg_sl ([.ref (q 1), .int a1]) ++ List.replicate (4 - (lg_sl ([.ref (q 1), .int a1])).length) Slot.unset).toArray = ls at hl ⊢
  have hl : lv_has ls 4 [(0, .ref (q 1)), (1, .int a1)] := hl
  generalize hF : F4_yardOf u a1 = tgt
  refine lv_iconst (v := 0) hx hb dX4_yardOf_0 (by decide) ?_
  refine lv_istore_n (lv' := [(2, .int 0), (0, .ref (q 1)), (1, .int a1)]) hx hb dX4_yardOf_1 rfl hl (by decide) rfl (fun ls hl => ?_)
  refine lv_iconst (v := 0) hx hb dX4_yardOf_2 (by decide) ?_
  refine lv_istore_n (lv' := [(3, .int 0), (2, .int 0), (0, .ref (q 1)), (1, .int a1)]) hx hb dX4_yardOf_3 rfl hl (by decide) rfl (fun ls hl => ?_)
  have loop4 : ∀ (n4 j4 : Nat) (x2_4 : Int32) (locs : List Loc) (ls : Array Slot), j4 ≤ 8 → 8 + 1 ≤ n4 + j4 → lv_has ls 4 [(0, .ref (q 1)), (1, .int a1), (2, .int x2_4), (3, .int (nI j4))] → va_S (fun _ => False) s.heap s.heap locs → ∀ X : Int32, L4_yardOf_4 u a1  n4 j4 x2_4 = X → (∀ (locs : List Loc) (ls : Array Slot), lv_has ls 4 [(0, .ref (q 1)), (1, .int a1), (2, .int X)] → va_S (fun _ => False) s.heap s.heap locs → W p l e (headSpec wsX4_yardOf ({ frames := 2, cells := 0, slots := 0, locals := 43 })).room s m ([.ref (q 1), .int a1] : List Value).toArray below meth c s.heap locs 0 0 (MQ below (bRi s.heap tgt) ([.ref (q 1), .int a1] : List Value).toArray s 0 0 (fun _ => False)) (F0 m 42 ls [])) → W p l e (headSpec wsX4_yardOf ({ frames := 2, cells := 0, slots := 0, locals := 43 })).room s m ([.ref (q 1), .int a1] : List Value).toArray below meth c s.heap locs 0 0 (MQ below (bRi s.heap tgt) ([.ref (q 1), .int a1] : List Value).toArray s 0 0 (fun _ => False)) (F0 m 4 ls []) := by
    intro n4
    induction n4 with
    | zero => intro j4 x2_4 locs ls hj hn; exact absurd hn (by omega)
    | succ n4 ih =>
      intro j4 x2_4 locs ls hj hn hl hS X hF kx
      refine lv_iload_n hx hb dX4_yardOf_4 rfl (lv_at hl 3 rfl) ?_
      refine lv_bipush (v := 8) hx hb dX4_yardOf_5 (by decide) ?_
      refine lv_icmp_ge (tgt := 42) hx hb dX4_yardOf_7 (by decide) (fun c_1 => ?_) (fun c_1 => ?_)
      · obtain rfl : X = x2_4 := by rw [← hF, L4_yardOf_4, if_pos c_1]
        exact kx _ _ (lv_sub hl [0, 1, 2] rfl) hS
      · have hlt_2 : j4 < 8 := bLt c_1 (by omega) (by decide)
        refine lv_aload_n hx hb dX4_yardOf_10 rfl (lv_at hl 0 rfl) ?_
        refine va_get (D := D) (ci := 4) (C := RX4) (T := TX4) (N := 2) hx hb hts iX4 hown hk.1 hP 1 (wC_1 _ _ _ _) rfl 0 (by decide) (hts (.fieldLink RX4 12 "BottleLoop$Trade" "state" "LBottleLoop$State;") (List.mem_of_getElem? (i := 1) rfl)) (fun _ h9 => h9) rfl dX4_yardOf_11 ?_
        refine lv_iload_n hx hb dX4_yardOf_14 rfl (lv_at hl 3 rfl) ?_
        refine lv_iconst (v := 0) hx hb dX4_yardOf_15 (by decide) ?_
        refine bcall_Ri (va_runVN (As := [.int (nI j4), .int 0]) (rest := []) ⟨hx, hb, hml, hown, hts⟩ (C2_ofBrand l D cI cO q _ _ hP (nI j4) 0) ⟨va_cnB 2 hts gX4_yardOf_X2_ofBrand_n22 rfl rfl rfl (hk.2 (.methodLinkNest RX4 22 yX2_ofBrand RX5) (List.mem_of_getElem? (i := 20) rfl)) (hts (.initialized RX2) (List.mem_of_getElem? (i := 3) rfl)) bd_X2ofBrand ⟨Nat.le_of_ble_eq_true rfl, Nat.le_of_ble_eq_true rfl⟩, (hts (.instanceMethod yX2_ofBrand) (List.mem_of_getElem? (i := 2) rfl)), (hts (.selects RX2 yX2_ofBrand yX2_ofBrand) (List.mem_of_getElem? (i := 4) rfl))⟩ (bPV hk (va_recv hk.1 hP (ci := 2) (q0 := 3) rfl (wC_3 _ _ _ _))) rfl rfl hl.1 rfl (lv_room (Nat.le_of_ble_eq_true rfl)) dX4_yardOf_16 ⟨Nat.zero_le _, Nat.zero_le _⟩) hS (fun locs hS => ?_)
        refine lv_iload_n hx hb dX4_yardOf_19 rfl (lv_at hl 1 rfl) ?_
        refine lv_icmp_ne (tgt := 36) hx hb dX4_yardOf_20 (by decide) (fun c_3 => ?_) (fun c_3 => ?_)
        · refine lv_iinc (v := (nI (j4 + 1))) (lv' := [(3, .int (nI (j4 + 1))), (0, .ref (q 1)), (1, .int a1), (2, .int x2_4)]) hx hb dX4_yardOf_36 hl (k := 3) rfl (bInc j4) (by decide) rfl (fun ls hl => ?_)
          refine lv_goto (tgt := 4) hx hb dX4_yardOf_39 (by decide) ?_
          exact ih (j4 + 1) x2_4 _ _ (by omega) (by omega) (lv_sub hl [1, 2, 3, 0] rfl) hS X (by rw [← hF, L4_yardOf_4, if_neg c_1, if_neg c_3]) kx
        · refine lv_iload_n hx hb dX4_yardOf_23 rfl (lv_at hl 2 rfl) ?_
          refine lv_aload_n hx hb dX4_yardOf_24 rfl (lv_at hl 0 rfl) ?_
          refine va_get (D := D) (ci := 4) (C := RX4) (T := TX4) (N := 2) hx hb hts iX4 hown hk.1 hP 1 (wC_1 _ _ _ _) rfl 0 (by decide) (hts (.fieldLink RX4 12 "BottleLoop$Trade" "state" "LBottleLoop$State;") (List.mem_of_getElem? (i := 1) rfl)) (fun _ h9 => h9) rfl dX4_yardOf_25 ?_
          refine lv_iload_n hx hb dX4_yardOf_28 rfl (lv_at hl 3 rfl) ?_
          refine lv_bipush (v := 6) hx hb dX4_yardOf_29 (by decide) ?_
          refine bcall_Ri (va_runVN (As := [.int (nI j4), .int 6]) (rest := [.int x2_4]) ⟨hx, hb, hml, hown, hts⟩ (C2_ofBrand l D cI cO q _ _ hP (nI j4) 6) ⟨va_cnB 2 hts gX4_yardOf_X2_ofBrand_n22 rfl rfl rfl (hk.2 (.methodLinkNest RX4 22 yX2_ofBrand RX5) (List.mem_of_getElem? (i := 20) rfl)) (hts (.initialized RX2) (List.mem_of_getElem? (i := 3) rfl)) bd_X2ofBrand ⟨Nat.le_of_ble_eq_true rfl, Nat.le_of_ble_eq_true rfl⟩, (hts (.instanceMethod yX2_ofBrand) (List.mem_of_getElem? (i := 2) rfl)), (hts (.selects RX2 yX2_ofBrand yX2_ofBrand) (List.mem_of_getElem? (i := 4) rfl))⟩ (bPV hk (va_recv hk.1 hP (ci := 2) (q0 := 3) rfl (wC_3 _ _ _ _))) rfl rfl hl.1 rfl (lv_room (Nat.le_of_ble_eq_true rfl)) dX4_yardOf_31 ⟨Nat.zero_le _, Nat.zero_le _⟩) hS (fun locs hS => ?_)
          refine lv_iadd hx hb dX4_yardOf_34 ?_
          refine lv_istore_n (lv' := [(2, .int (x2_4 + (F2_ofBrand u (nI j4) 6))), (0, .ref (q 1)), (1, .int a1), (3, .int (nI j4))]) hx hb dX4_yardOf_35 rfl hl (by decide) rfl (fun ls hl => ?_)
          refine lv_iinc (v := (nI (j4 + 1))) (lv' := [(3, .int (nI (j4 + 1))), (2, .int (x2_4 + (F2_ofBrand u (nI j4) 6))), (0, .ref (q 1)), (1, .int a1)]) hx hb dX4_yardOf_36 hl (k := 3) rfl (bInc j4) (by decide) rfl (fun ls hl => ?_)
          refine lv_goto (tgt := 4) hx hb dX4_yardOf_39 (by decide) ?_
          exact ih (j4 + 1) (x2_4 + (F2_ofBrand u (nI j4) 6)) _ _ (by omega) (by omega) (lv_sub hl [2, 3, 1, 0] rfl) hS X (by rw [← hF, L4_yardOf_4, if_neg c_1, if_pos c_3]) kx
  refine loop4 (8 + 1) 0 0 _ _ (by omega) (by omega) (lv_sub hl [2, 3, 1, 0] rfl) hS _ rfl (fun locs ls hl hS => ?_)
  refine lv_iload_n hx hb dX4_yardOf_42 rfl (lv_at hl 2 rfl) ?_
  exact bret_Ri hx hb hr hS hlocks dX4_yardOf_43 (by rw [← hF, F4_yardOf])
def L4_pickOne_6 (u : bU) : Nat → Nat → Int32 → Int32 → Int32 × Int32
  | 0, _, x1_6, x2_6 => (x1_6, x2_6)
  | n6 + 1, j6, x1_6, x2_6 => (if (8 : Int32) ≤ (nI j6) then (x1_6, x2_6) else (if (u 1 (nI j6).toNatClampNeg) ≤ x2_6 then (L4_pickOne_6 u n6 (j6 + 1) x1_6 x2_6) else (L4_pickOne_6 u n6 (j6 + 1) (nI j6) (u 1 (nI j6).toNatClampNeg))))
def F4_pickOne (u : bU) : bU := (if (L4_pickOne_6 u (8 + 1) 0 0 0).2 ≤ 0 then u else (if (8 : Int32) ≤ (L4_pickOne_6 u (8 + 1) 0 0 0).1 then u else (bput u 1 (L4_pickOne_6 u (8 + 1) 0 0 0).1.toNatClampNeg ((u 1 (L4_pickOne_6 u (8 + 1) 0 0 0).1.toNatClampNeg) - 1))))
theorem pickOne_nn (u : bU) : ∀ (n j : Nat) (x1 x2 : Int32), ¬ x1 < 0 → j + n < 2 ^ 31 → ¬ (L4_pickOne_6 u n j x1 x2).1 < 0 := by
  intro n
  induction n with
  | zero => intro j x1 x2 h _; exact h
  | succ n ih =>
    intro j x1 x2 h hj
    rw [L4_pickOne_6]
    split
    · exact h
    · split
      · exact ih _ _ _ h (by omega)
      · exact ih _ _ _ (nI_nlt (b := 0) (Nat.zero_le _) (by omega)) (by omega)
set_option maxHeartbeats 4000000 in
set_option maxRecDepth 100000 in
theorem C4_pickOne (l : Launch) (D : va_G) (cI cO : ClassId) (q : Nat → Nat) (u : bU) (H0 : Heap) (hq : bInj 23 q) (hP : va_P D vwCl (wC cI cO q u) H0) : Met l yX4_pickOne wsX4_pickOne ({ frames := 0, cells := 0, slots := 0, locals := 0 }) (bP D [(cI, .int), (cO, .object RX2)] H0 [.ref (q 1)]) (bWv D (wC cI cO q) bT (bA 23 q H0.size) (F4_pickOne u)) 0 0 (bA 23 q H0.size) := by
  refine Met.ofW (cc := cX4_pickOne) (maxL := 4) (ret := none) (by decide) rfl ?_
  intro p e s m args below meth c s₁ B hml hv
  obtain ⟨rfl, hH, hk⟩ := hv
  subst hH
  have hx := B.exec
  have hb := B.bytes
  have hr := B.returns
  have hts := atoms_spec (ws := wsX4_pickOne) B.pre
  have hown : s.vm.findClass RX4 = some m.cls := findClass_of_methodNamed B.named
  have hlocks := B.notSynchronized
  have iX4 : ∀ w ∈ wsX40, w ∈ wsX4_pickOne := by decide +kernel
  have hS : va_S (bA 23 q s.heap.size) s.heap s.heap [] := va_S.rf
  have hl := lv_entry ([.ref (q 1)]) (n := 4) (Nat.le_of_ble_eq_true rfl)
  rw [lg_entry_eq]
  generalize (lg_sl ([.ref (q 1)]) ++ List.replicate (4 - (lg_sl ([.ref (q 1)])).length) Slot.unset).toArray = ls at hl ⊢
  have hl : lv_has ls 4 [(0, .ref (q 1))] := hl
  generalize hF : F4_pickOne u = tgt
  refine lv_iconst (v := 0) hx hb dX4_pickOne_0 (by decide) ?_
  refine lv_istore_n (lv' := [(1, .int 0), (0, .ref (q 1))]) hx hb dX4_pickOne_1 rfl hl (by decide) rfl (fun ls hl => ?_)
  refine lv_iconst (v := 0) hx hb dX4_pickOne_2 (by decide) ?_
  refine lv_istore_n (lv' := [(2, .int 0), (1, .int 0), (0, .ref (q 1))]) hx hb dX4_pickOne_3 rfl hl (by decide) rfl (fun ls hl => ?_)
  refine lv_iconst (v := 0) hx hb dX4_pickOne_4 (by decide) ?_
  refine lv_istore_n (lv' := [(3, .int 0), (2, .int 0), (1, .int 0), (0, .ref (q 1))]) hx hb dX4_pickOne_5 rfl hl (by decide) rfl (fun ls hl => ?_)
  have loop6 : ∀ (n6 j6 : Nat) (x1_6 : Int32) (x2_6 : Int32) (locs : List Loc) (ls : Array Slot), j6 ≤ 8 → 8 + 1 ≤ n6 + j6 → lv_has ls 4 [(0, .ref (q 1)), (1, .int x1_6), (2, .int x2_6), (3, .int (nI j6))] → va_S (bA 23 q s.heap.size) s.heap s.heap locs → ∀ X : Int32 × Int32, L4_pickOne_6 u  n6 j6 x1_6 x2_6 = X → (∀ (locs : List Loc) (ls : Array Slot), lv_has ls 4 [(0, .ref (q 1)), (1, .int X.1), (2, .int X.2)] → va_S (bA 23 q s.heap.size) s.heap s.heap locs → W p l e (headSpec wsX4_pickOne ({ frames := 0, cells := 0, slots := 0, locals := 0 })).room s m ([.ref (q 1)] : List Value).toArray below meth c s.heap locs 0 0 (MQ below (bWv D (wC cI cO q) bT (bA 23 q s.heap.size) tgt) ([.ref (q 1)] : List Value).toArray s 0 0 (bA 23 q s.heap.size)) (F0 m 40 ls [])) → W p l e (headSpec wsX4_pickOne ({ frames := 0, cells := 0, slots := 0, locals := 0 })).room s m ([.ref (q 1)] : List Value).toArray below meth c s.heap locs 0 0 (MQ below (bWv D (wC cI cO q) bT (bA 23 q s.heap.size) tgt) ([.ref (q 1)] : List Value).toArray s 0 0 (bA 23 q s.heap.size)) (F0 m 6 ls []) := by
    intro n6
    induction n6 with
    | zero => intro j6 x1_6 x2_6 locs ls hj hn; exact absurd hn (by omega)
    | succ n6 ih =>
      intro j6 x1_6 x2_6 locs ls hj hn hl hS X hF kx
      refine lv_iload_n hx hb dX4_pickOne_6 rfl (lv_at hl 3 rfl) ?_
      refine lv_aload_n hx hb dX4_pickOne_7 rfl (lv_at hl 0 rfl) ?_
      refine va_get (D := D) (ci := 4) (C := RX4) (T := TX4) (N := 2) hx hb hts iX4 hown hk.1 hP 1 (wC_1 _ _ _ _) rfl 1 (by decide) (hts (.fieldLink RX4 18 "BottleLoop$Trade" "left" "[I") (List.mem_of_getElem? (i := 1) rfl)) (fun _ h9 => h9) rfl dX4_pickOne_8 ?_
      refine va_alen (v := 8) hx hb hk.1 hP 2 0 (wC_2 _ _ _ _) rfl rfl dX4_pickOne_11 ?_
      refine lv_icmp_ge (tgt := 40) hx hb dX4_pickOne_12 (by decide) (fun c_1 => ?_) (fun c_1 => ?_)
      · obtain rfl : X = (x1_6, x2_6) := by rw [← hF, L4_pickOne_6, if_pos c_1]
        exact kx _ _ (lv_sub hl [0, 1, 2] rfl) hS
      · have hlt_2 : j6 < 8 := bLt c_1 (by omega) (by decide)
        refine lv_aload_n hx hb dX4_pickOne_15 rfl (lv_at hl 0 rfl) ?_
        refine va_get (D := D) (ci := 4) (C := RX4) (T := TX4) (N := 2) hx hb hts iX4 hown hk.1 hP 1 (wC_1 _ _ _ _) rfl 1 (by decide) (hts (.fieldLink RX4 18 "BottleLoop$Trade" "left" "[I") (List.mem_of_getElem? (i := 1) rfl)) (fun _ h9 => h9) rfl dX4_pickOne_16 ?_
        refine lv_iload_n hx hb dX4_pickOne_19 rfl (lv_at hl 3 rfl) ?_
        refine va_iald hx hb hk.1 hP 2 0 (wC_2 _ _ _ _) rfl (vp_in_nI (by omega) (by decide)) dX4_pickOne_20 ?_
        refine lv_iload_n hx hb dX4_pickOne_21 rfl (lv_at hl 2 rfl) ?_
        refine lv_icmp_le (tgt := 34) hx hb dX4_pickOne_22 (by decide) (fun c_3 => ?_) (fun c_3 => ?_)
        · refine lv_iinc (v := (nI (j6 + 1))) (lv' := [(3, .int (nI (j6 + 1))), (0, .ref (q 1)), (1, .int x1_6), (2, .int x2_6)]) hx hb dX4_pickOne_34 hl (k := 3) rfl (bInc j6) (by decide) rfl (fun ls hl => ?_)
          refine lv_goto (tgt := 6) hx hb dX4_pickOne_37 (by decide) ?_
          exact ih (j6 + 1) x1_6 x2_6 _ _ (by omega) (by omega) (lv_sub hl [1, 2, 3, 0] rfl) hS X (by rw [← hF, L4_pickOne_6, if_neg c_1, if_pos c_3]) kx
        · refine lv_aload_n hx hb dX4_pickOne_25 rfl (lv_at hl 0 rfl) ?_
          refine va_get (D := D) (ci := 4) (C := RX4) (T := TX4) (N := 2) hx hb hts iX4 hown hk.1 hP 1 (wC_1 _ _ _ _) rfl 1 (by decide) (hts (.fieldLink RX4 18 "BottleLoop$Trade" "left" "[I") (List.mem_of_getElem? (i := 1) rfl)) (fun _ h9 => h9) rfl dX4_pickOne_26 ?_
          refine lv_iload_n hx hb dX4_pickOne_29 rfl (lv_at hl 3 rfl) ?_
          refine va_iald hx hb hk.1 hP 2 0 (wC_2 _ _ _ _) rfl (vp_in_nI (by omega) (by decide)) dX4_pickOne_30 ?_
          refine lv_istore_n (lv' := [(2, .int (u 1 (nI j6).toNatClampNeg)), (0, .ref (q 1)), (1, .int x1_6), (3, .int (nI j6))]) hx hb dX4_pickOne_31 rfl hl (by decide) rfl (fun ls hl => ?_)
          refine lv_iload_n hx hb dX4_pickOne_32 rfl (lv_at hl 3 rfl) ?_
          refine lv_istore_n (lv' := [(1, .int (nI j6)), (2, .int (u 1 (nI j6).toNatClampNeg)), (0, .ref (q 1)), (3, .int (nI j6))]) hx hb dX4_pickOne_33 rfl hl (by decide) rfl (fun ls hl => ?_)
          refine lv_iinc (v := (nI (j6 + 1))) (lv' := [(3, .int (nI (j6 + 1))), (1, .int (nI j6)), (2, .int (u 1 (nI j6).toNatClampNeg)), (0, .ref (q 1))]) hx hb dX4_pickOne_34 hl (k := 3) rfl (bInc j6) (by decide) rfl (fun ls hl => ?_)
          refine lv_goto (tgt := 6) hx hb dX4_pickOne_37 (by decide) ?_
          exact ih (j6 + 1) (nI j6) (u 1 (nI j6).toNatClampNeg) _ _ (by omega) (by omega) (lv_sub hl [3, 1, 2, 0] rfl) hS X (by rw [← hF, L4_pickOne_6, if_neg c_1, if_neg c_3]) kx
  refine loop6 (8 + 1) 0 0 0 _ _ (by omega) (by omega) (lv_sub hl [3, 2, 1, 0] rfl) hS _ rfl (fun locs ls hl hS => ?_)
  refine lv_iload_n hx hb dX4_pickOne_40 rfl (lv_at hl 2 rfl) ?_
  refine lv_if_le (tgt := 63) hx hb dX4_pickOne_41 (by decide) (fun c_4 => ?_) (fun c_4 => ?_)
  · exact bret_Wv hx hb hr hP trivial hS hlocks dX4_pickOne_63 (by rw [← hF, F4_pickOne, if_pos c_4])
  · refine lv_iload_n hx hb dX4_pickOne_44 rfl (lv_at hl 1 rfl) ?_
    refine lv_aload_n hx hb dX4_pickOne_45 rfl (lv_at hl 0 rfl) ?_
    refine va_get (D := D) (ci := 4) (C := RX4) (T := TX4) (N := 2) hx hb hts iX4 hown hk.1 hP 1 (wC_1 _ _ _ _) rfl 1 (by decide) (hts (.fieldLink RX4 18 "BottleLoop$Trade" "left" "[I") (List.mem_of_getElem? (i := 1) rfl)) (fun _ h9 => h9) rfl dX4_pickOne_46 ?_
    refine va_alen (v := 8) hx hb hk.1 hP 2 0 (wC_2 _ _ _ _) rfl rfl dX4_pickOne_49 ?_
    refine lv_icmp_ge (tgt := 63) hx hb dX4_pickOne_50 (by decide) (fun c_5 => ?_) (fun c_5 => ?_)
    · exact bret_Wv hx hb hr hP trivial hS hlocks dX4_pickOne_63 (by rw [← hF, F4_pickOne, if_neg c_4, if_pos c_5])
    · refine lv_aload_n hx hb dX4_pickOne_53 rfl (lv_at hl 0 rfl) ?_
      refine va_get (D := D) (ci := 4) (C := RX4) (T := TX4) (N := 2) hx hb hts iX4 hown hk.1 hP 1 (wC_1 _ _ _ _) rfl 1 (by decide) (hts (.fieldLink RX4 18 "BottleLoop$Trade" "left" "[I") (List.mem_of_getElem? (i := 1) rfl)) (fun _ h9 => h9) rfl dX4_pickOne_54 ?_
      refine lv_iload_n hx hb dX4_pickOne_57 rfl (lv_at hl 1 rfl) ?_
      refine lv_dup2_11 hx hb dX4_pickOne_58 rfl rfl ?_
      refine va_iald hx hb hk.1 hP 2 0 (wC_2 _ _ _ _) rfl (bIn (pickOne_nn u 9 0 0 0 (by decide) (by decide)) c_5 (by decide)) dX4_pickOne_59 ?_
      refine lv_iconst (v := 1) hx hb dX4_pickOne_60 (by decide) ?_
      refine lv_isub hx hb dX4_pickOne_61 ?_
      refine va_iast hx hb hk.1 hP (wC_D hq) hS 2 0 (wC_2 _ _ _ _) rfl (bIn (pickOne_nn u 9 0 0 0 (by decide) (by decide)) c_5 (by decide)) dX4_pickOne_62 (fun H locs hP _ hS => ?_)
      have hP : va_P D vwCl (wC cI cO q (bput u 1 (L4_pickOne_6 u (8 + 1) 0 0 0).1.toNatClampNeg ((u 1 (L4_pickOne_6 u (8 + 1) 0 0 0).1.toNatClampNeg) - 1))) H := hP
      exact bret_Wv hx hb hr hP trivial hS hlocks dX4_pickOne_63 (by rw [← hF, F4_pickOne, if_neg c_4, if_neg c_5])
def L4_pickEmpties_3 (a1 : Int32) (a2 : Int32) : bU → Nat → Nat → bU
  | u3, 0, _ => u3
  | u3, n3 + 1, j3 => (if (8 : Int32) ≤ (nI j3) then u3 else (if (F2_ofBrand u3 (nI j3) 0) = a2 then (L4_pickEmpties_3 a1 a2 (bput u3 1 (nI j3).toNatClampNeg (F2_ofShop u3 a1 (20 + (nI j3)))) n3 (j3 + 1)) else (L4_pickEmpties_3 a1 a2 (bput u3 1 (nI j3).toNatClampNeg 0) n3 (j3 + 1))))
def L4_pickEmpties_72 (a3 : Int32) : bU → Nat → Nat → bU
  | u72, 0, _ => u72
  | u72, n72 + 1, j72 => (if a3 ≤ (nI j72) then u72 else (L4_pickEmpties_72 a3 (F4_pickOne u72) n72 (j72 + 1)))
def F4_pickEmpties (u : bU) (a1 : Int32) (a2 : Int32) (a3 : Int32) : bU := (L4_pickEmpties_72 a3 (L4_pickEmpties_3 a1 a2 u (8 + 1) 0) (a3.toNatClampNeg + 1) 0)
set_option maxHeartbeats 4000000 in
set_option maxRecDepth 100000 in
theorem C4_pickEmpties (l : Launch) (D : va_G) (cI cO : ClassId) (q : Nat → Nat) (u : bU) (H0 : Heap) (hq : bInj 23 q) (hP : va_P D vwCl (wC cI cO q u) H0) (a1 : Int32) (a2 : Int32) (a3 : Int32) : Met l yX4_pickEmpties wsX4_pickEmpties ({ frames := 2, cells := 0, slots := 0, locals := 43 }) (bP D [(cI, .int), (cO, .object RX2)] H0 [.ref (q 1), .int a1, .int a2, .int a3]) (bWv D (wC cI cO q) bT (bA 23 q H0.size) (F4_pickEmpties u a1 a2 a3)) 0 0 (bA 23 q H0.size) := by
  refine Met.ofW (cc := cX4_pickEmpties) (maxL := 6) (ret := none) (by decide) rfl ?_
  intro p e s m args below meth c s₁ B hml hv
  obtain ⟨rfl, hH, hk⟩ := hv
  subst hH
  have hx := B.exec
  have hb := B.bytes
  have hr := B.returns
  have hts := atoms_spec (ws := wsX4_pickEmpties) B.pre
  have hown : s.vm.findClass RX4 = some m.cls := findClass_of_methodNamed B.named
  have hlocks := B.notSynchronized
  have iX4 : ∀ w ∈ wsX40, w ∈ wsX4_pickEmpties := by decide +kernel
  have hS : va_S (bA 23 q s.heap.size) s.heap s.heap [] := va_S.rf
  have hl := lv_entry ([.ref (q 1), .int a1, .int a2, .int a3]) (n := 6) (Nat.le_of_ble_eq_true rfl)
  rw [lg_entry_eq]
  generalize (lg_sl ([.ref (q 1), .int a1, .int a2, .int a3]) ++ List.replicate (6 - (lg_sl ([.ref (q 1), .int a1, .int a2, .int a3])).length) Slot.unset).toArray = ls at hl ⊢
  have hl : lv_has ls 6 [(0, .ref (q 1)), (1, .int a1), (2, .int a2), (3, .int a3)] := hl
  generalize hF : F4_pickEmpties u a1 a2 a3 = tgt
  refine lv_iconst (v := 0) hx hb dX4_pickEmpties_0 (by decide) ?_
  refine lv_istore (lv' := [(4, .int 0), (0, .ref (q 1)), (1, .int a1), (2, .int a2), (3, .int a3)]) hx hb dX4_pickEmpties_1 hl (by decide) rfl (fun ls hl => ?_)
  have loop3 : ∀ (n3 j3 : Nat) (u3 : bU) (H : Heap) (locs : List Loc) (ls : Array Slot), j3 ≤ 8 → 8 + 1 ≤ n3 + j3 → lv_has ls 6 [(0, .ref (q 1)), (1, .int a1), (2, .int a2), (3, .int a3), (4, .int (nI j3))] → va_P D vwCl (wC cI cO q u3) H → va_S (bA 23 q s.heap.size) s.heap H locs → ∀ X : bU, L4_pickEmpties_3 a1 a2 u3 n3 j3 = X → (∀ (H : Heap) (locs : List Loc) (ls : Array Slot), lv_has ls 6 [(0, .ref (q 1)), (1, .int a1), (2, .int a2), (3, .int a3)] → va_P D vwCl (wC cI cO q X) H → va_S (bA 23 q s.heap.size) s.heap H locs → W p l e (headSpec wsX4_pickEmpties ({ frames := 2, cells := 0, slots := 0, locals := 43 })).room s m ([.ref (q 1), .int a1, .int a2, .int a3] : List Value).toArray below meth c H locs 0 0 (MQ below (bWv D (wC cI cO q) bT (bA 23 q s.heap.size) tgt) ([.ref (q 1), .int a1, .int a2, .int a3] : List Value).toArray s 0 0 (bA 23 q s.heap.size)) (F0 m 69 ls [])) → W p l e (headSpec wsX4_pickEmpties ({ frames := 2, cells := 0, slots := 0, locals := 43 })).room s m ([.ref (q 1), .int a1, .int a2, .int a3] : List Value).toArray below meth c H locs 0 0 (MQ below (bWv D (wC cI cO q) bT (bA 23 q s.heap.size) tgt) ([.ref (q 1), .int a1, .int a2, .int a3] : List Value).toArray s 0 0 (bA 23 q s.heap.size)) (F0 m 3 ls []) := by
    intro n3
    induction n3 with
    | zero => intro j3 u3 H locs ls hj hn; exact absurd hn (by omega)
    | succ n3 ih =>
      intro j3 u3 H locs ls hj hn hl hP hS X hF kx
      refine lv_iload hx hb dX4_pickEmpties_3 (lv_at hl 4 rfl) ?_
      refine lv_aload_n hx hb dX4_pickEmpties_5 rfl (lv_at hl 0 rfl) ?_
      refine va_get (D := D) (ci := 4) (C := RX4) (T := TX4) (N := 2) hx hb hts iX4 hown hk.1 hP 1 (wC_1 _ _ _ _) rfl 1 (by decide) (hts (.fieldLink RX4 18 "BottleLoop$Trade" "left" "[I") (List.mem_of_getElem? (i := 1) rfl)) (fun _ h9 => h9) rfl dX4_pickEmpties_6 ?_
      refine va_alen (v := 8) hx hb hk.1 hP 2 0 (wC_2 _ _ _ _) rfl rfl dX4_pickEmpties_9 ?_
      refine lv_icmp_ge (tgt := 69) hx hb dX4_pickEmpties_10 (by decide) (fun c_1 => ?_) (fun c_1 => ?_)
      · obtain rfl : X = u3 := by rw [← hF, L4_pickEmpties_3, if_pos c_1]
        exact kx _ _ _ (lv_sub hl [0, 1, 2, 3] rfl) hP hS
      · have hlt_2 : j3 < 8 := bLt c_1 (by omega) (by decide)
        refine lv_aload_n hx hb dX4_pickEmpties_13 rfl (lv_at hl 0 rfl) ?_
        refine va_get (D := D) (ci := 4) (C := RX4) (T := TX4) (N := 2) hx hb hts iX4 hown hk.1 hP 1 (wC_1 _ _ _ _) rfl 0 (by decide) (hts (.fieldLink RX4 12 "BottleLoop$Trade" "state" "LBottleLoop$State;") (List.mem_of_getElem? (i := 2) rfl)) (fun _ h9 => h9) rfl dX4_pickEmpties_14 ?_
        refine lv_iload hx hb dX4_pickEmpties_17 (lv_at hl 4 rfl) ?_
        refine lv_iconst (v := 0) hx hb dX4_pickEmpties_19 (by decide) ?_
        refine bcall_Ri (va_runVN (As := [.int (nI j3), .int 0]) (rest := []) ⟨hx, hb, hml, hown, hts⟩ (C2_ofBrand l D cI cO q _ _ hP (nI j3) 0) ⟨va_cnB 2 hts gX4_pickEmpties_X2_ofBrand_n22 rfl rfl rfl (hk.2 (.methodLinkNest RX4 22 yX2_ofBrand RX5) (List.mem_of_getElem? (i := 20) rfl)) (hts (.initialized RX2) (List.mem_of_getElem? (i := 4) rfl)) bd_X2ofBrand ⟨Nat.le_of_ble_eq_true rfl, Nat.le_of_ble_eq_true rfl⟩, (hts (.instanceMethod yX2_ofBrand) (List.mem_of_getElem? (i := 3) rfl)), (hts (.selects RX2 yX2_ofBrand yX2_ofBrand) (List.mem_of_getElem? (i := 5) rfl))⟩ (bPV hk (va_recv hk.1 hP (ci := 2) (q0 := 3) rfl (wC_3 _ _ _ _))) rfl rfl hl.1 rfl (lv_room (Nat.le_of_ble_eq_true rfl)) dX4_pickEmpties_20 ⟨Nat.zero_le _, Nat.zero_le _⟩) hS (fun locs hS => ?_)
        refine lv_iload_n hx hb dX4_pickEmpties_23 rfl (lv_at hl 2 rfl) ?_
        refine lv_icmp_ne (tgt := 31) hx hb dX4_pickEmpties_24 (by decide) (fun c_3 => ?_) (fun c_3 => ?_)
        · refine lv_iconst (v := 0) hx hb dX4_pickEmpties_31 (by decide) ?_
          refine lv_istore (lv' := [(5, .int 0), (0, .ref (q 1)), (1, .int a1), (2, .int a2), (3, .int a3), (4, .int (nI j3))]) hx hb dX4_pickEmpties_32 hl (by decide) rfl (fun ls hl => ?_)
          refine lv_aload_n hx hb dX4_pickEmpties_34 rfl (lv_at hl 1 rfl) ?_
          refine va_get (D := D) (ci := 4) (C := RX4) (T := TX4) (N := 2) hx hb hts iX4 hown hk.1 hP 1 (wC_1 _ _ _ _) rfl 1 (by decide) (hts (.fieldLink RX4 18 "BottleLoop$Trade" "left" "[I") (List.mem_of_getElem? (i := 1) rfl)) (fun _ h9 => h9) rfl dX4_pickEmpties_35 ?_
          refine lv_iload hx hb dX4_pickEmpties_38 (lv_at hl 5 rfl) ?_
          refine lv_iload hx hb dX4_pickEmpties_40 (lv_at hl 0 rfl) ?_
          refine lv_if_eq (tgt := 61) hx hb dX4_pickEmpties_42 (by decide) (fun _ => ?_) (fun h9 => absurd (by decide) h9)
          refine lv_iconst (v := 0) hx hb dX4_pickEmpties_61 (by decide) ?_
          refine va_iast hx hb hk.1 hP (wC_D hq) hS 2 0 (wC_2 _ _ _ _) rfl (vp_in_nI (by omega) (by decide)) dX4_pickEmpties_62 (fun H locs hP _ hS => ?_)
          have hP : va_P D vwCl (wC cI cO q (bput u3 1 (nI j3).toNatClampNeg 0)) H := hP
          refine lv_iinc (v := (nI (j3 + 1))) (lv' := [(4, .int (nI (j3 + 1))), (5, .int 0), (0, .ref (q 1)), (1, .int a1), (2, .int a2), (3, .int a3)]) hx hb dX4_pickEmpties_63 hl (k := 5) rfl (bInc j3) (by decide) rfl (fun ls hl => ?_)
          refine lv_goto (tgt := 3) hx hb dX4_pickEmpties_66 (by decide) ?_
          exact ih (j3 + 1)  _ _ _ _ (by omega) (by omega) (lv_sub hl [2, 3, 4, 5, 0] rfl) hP hS X (by rw [← hF, L4_pickEmpties_3, if_neg c_1, if_neg c_3]) kx
        · refine lv_iconst (v := 1) hx hb dX4_pickEmpties_27 (by decide) ?_
          refine lv_goto (tgt := 32) hx hb dX4_pickEmpties_28 (by decide) ?_
          refine lv_istore (lv' := [(5, .int 1), (0, .ref (q 1)), (1, .int a1), (2, .int a2), (3, .int a3), (4, .int (nI j3))]) hx hb dX4_pickEmpties_32 hl (by decide) rfl (fun ls hl => ?_)
          refine lv_aload_n hx hb dX4_pickEmpties_34 rfl (lv_at hl 1 rfl) ?_
          refine va_get (D := D) (ci := 4) (C := RX4) (T := TX4) (N := 2) hx hb hts iX4 hown hk.1 hP 1 (wC_1 _ _ _ _) rfl 1 (by decide) (hts (.fieldLink RX4 18 "BottleLoop$Trade" "left" "[I") (List.mem_of_getElem? (i := 1) rfl)) (fun _ h9 => h9) rfl dX4_pickEmpties_35 ?_
          refine lv_iload hx hb dX4_pickEmpties_38 (lv_at hl 5 rfl) ?_
          refine lv_iload hx hb dX4_pickEmpties_40 (lv_at hl 0 rfl) ?_
          refine lv_if_eq (tgt := 61) hx hb dX4_pickEmpties_42 (by decide) (fun h9 => absurd h9 (by decide)) (fun _ => ?_)
          refine lv_aload_n hx hb dX4_pickEmpties_45 rfl (lv_at hl 1 rfl) ?_
          refine va_get (D := D) (ci := 4) (C := RX4) (T := TX4) (N := 2) hx hb hts iX4 hown hk.1 hP 1 (wC_1 _ _ _ _) rfl 0 (by decide) (hts (.fieldLink RX4 12 "BottleLoop$Trade" "state" "LBottleLoop$State;") (List.mem_of_getElem? (i := 2) rfl)) (fun _ h9 => h9) rfl dX4_pickEmpties_46 ?_
          refine lv_iload_n hx hb dX4_pickEmpties_49 rfl (lv_at hl 2 rfl) ?_
          refine lv_bipush (v := 20) hx hb dX4_pickEmpties_50 (by decide) ?_
          refine lv_iload hx hb dX4_pickEmpties_52 (lv_at hl 5 rfl) ?_
          refine lv_iadd hx hb dX4_pickEmpties_54 ?_
          refine bcall_Ri (va_runVN (As := [.int a1, .int (20 + (nI j3))]) (rest := [.int (nI j3), .ref (q 2)]) ⟨hx, hb, hml, hown, hts⟩ (C2_ofShop l D cI cO q _ _ hP a1 (20 + (nI j3))) ⟨va_cnB 2 hts gX4_pickEmpties_X2_ofShop_n36 rfl rfl rfl (hk.2 (.methodLinkNest RX4 36 yX2_ofShop RX5) (List.mem_of_getElem? (i := 26) rfl)) (hts (.initialized RX2) (List.mem_of_getElem? (i := 4) rfl)) bd_X2ofShop ⟨Nat.le_of_ble_eq_true rfl, Nat.le_of_ble_eq_true rfl⟩, (hts (.instanceMethod yX2_ofShop) (List.mem_of_getElem? (i := 12) rfl)), (hts (.selects RX2 yX2_ofShop yX2_ofShop) (List.mem_of_getElem? (i := 13) rfl))⟩ (bPV hk (va_recv hk.1 hP (ci := 2) (q0 := 3) rfl (wC_3 _ _ _ _))) rfl rfl hl.1 rfl (lv_room (Nat.le_of_ble_eq_true rfl)) dX4_pickEmpties_55 ⟨Nat.zero_le _, Nat.zero_le _⟩) hS (fun locs hS => ?_)
          refine lv_goto (tgt := 62) hx hb dX4_pickEmpties_58 (by decide) ?_
          refine va_iast hx hb hk.1 hP (wC_D hq) hS 2 0 (wC_2 _ _ _ _) rfl (vp_in_nI (by omega) (by decide)) dX4_pickEmpties_62 (fun H locs hP _ hS => ?_)
          have hP : va_P D vwCl (wC cI cO q (bput u3 1 (nI j3).toNatClampNeg (F2_ofShop u3 a1 (20 + (nI j3))))) H := hP
          refine lv_iinc (v := (nI (j3 + 1))) (lv' := [(4, .int (nI (j3 + 1))), (5, .int 1), (0, .ref (q 1)), (1, .int a1), (2, .int a2), (3, .int a3)]) hx hb dX4_pickEmpties_63 hl (k := 5) rfl (bInc j3) (by decide) rfl (fun ls hl => ?_)
          refine lv_goto (tgt := 3) hx hb dX4_pickEmpties_66 (by decide) ?_
          exact ih (j3 + 1)  _ _ _ _ (by omega) (by omega) (lv_sub hl [2, 3, 4, 5, 0] rfl) hP hS X (by rw [← hF, L4_pickEmpties_3, if_neg c_1, if_pos c_3]) kx
  refine loop3 (8 + 1) 0  _ _ _ _ (by omega) (by omega) (lv_sub hl [1, 2, 3, 4, 0] rfl) hP hS _ rfl (fun H locs ls hl hP hS => ?_)
  refine lv_iconst (v := 0) hx hb dX4_pickEmpties_69 (by decide) ?_
  refine lv_istore (lv' := [(4, .int 0), (0, .ref (q 1)), (1, .int a1), (2, .int a2), (3, .int a3)]) hx hb dX4_pickEmpties_70 hl (by decide) rfl (fun ls hl => ?_)
  have hB72 := bClamp a3
  have loop72 : ∀ (n72 j72 : Nat) (u72 : bU) (H : Heap) (locs : List Loc) (ls : Array Slot), j72 ≤ a3.toNatClampNeg → a3.toNatClampNeg + 1 ≤ n72 + j72 → lv_has ls 6 [(0, .ref (q 1)), (1, .int a1), (2, .int a2), (3, .int a3), (4, .int (nI j72))] → va_P D vwCl (wC cI cO q u72) H → va_S (bA 23 q s.heap.size) s.heap H locs → ∀ X : bU, L4_pickEmpties_72 a3 u72 n72 j72 = X → (∀ (H : Heap) (locs : List Loc) (ls : Array Slot), lv_has ls 6 [(0, .ref (q 1)), (1, .int a1), (2, .int a2), (3, .int a3)] → va_P D vwCl (wC cI cO q X) H → va_S (bA 23 q s.heap.size) s.heap H locs → W p l e (headSpec wsX4_pickEmpties ({ frames := 2, cells := 0, slots := 0, locals := 43 })).room s m ([.ref (q 1), .int a1, .int a2, .int a3] : List Value).toArray below meth c H locs 0 0 (MQ below (bWv D (wC cI cO q) bT (bA 23 q s.heap.size) tgt) ([.ref (q 1), .int a1, .int a2, .int a3] : List Value).toArray s 0 0 (bA 23 q s.heap.size)) (F0 m 88 ls [])) → W p l e (headSpec wsX4_pickEmpties ({ frames := 2, cells := 0, slots := 0, locals := 43 })).room s m ([.ref (q 1), .int a1, .int a2, .int a3] : List Value).toArray below meth c H locs 0 0 (MQ below (bWv D (wC cI cO q) bT (bA 23 q s.heap.size) tgt) ([.ref (q 1), .int a1, .int a2, .int a3] : List Value).toArray s 0 0 (bA 23 q s.heap.size)) (F0 m 72 ls []) := by
    intro n72
    induction n72 with
    | zero => intro j72 u72 H locs ls hj hn; exact absurd hn (by omega)
    | succ n72 ih =>
      intro j72 u72 H locs ls hj hn hl hP hS X hF kx
      refine lv_iload hx hb dX4_pickEmpties_72 (lv_at hl 4 rfl) ?_
      refine lv_iload_n hx hb dX4_pickEmpties_74 rfl (lv_at hl 3 rfl) ?_
      refine lv_icmp_ge (tgt := 88) hx hb dX4_pickEmpties_75 (by decide) (fun c_4 => ?_) (fun c_4 => ?_)
      · obtain rfl : X = u72 := by rw [← hF, L4_pickEmpties_72, if_pos c_4]
        exact kx _ _ _ (lv_sub hl [0, 1, 2, 3] rfl) hP hS
      · have hlt_5 : j72 < a3.toNatClampNeg := bLtB c_4 (by omega)
        refine lv_aload_n hx hb dX4_pickEmpties_78 rfl (lv_at hl 0 rfl) ?_
        refine bcall_Wv (va_runV (As := []) (rest := []) ⟨hx, hb, hml, hown, hts⟩ (C4_pickOne l D cI cO q _ _ hq hP ) (cwV 0 hts gX4_pickEmpties_X4_pickOne rfl rfl rfl ⟨rfl, bd_X4pickOne⟩ ⟨Nat.le_of_ble_eq_true rfl, Nat.le_of_ble_eq_true rfl⟩) (bPV hk (va_recv hk.1 hP (ci := 4) (q0 := 1) rfl (wC_1 _ _ _ _))) rfl rfl hl.1 rfl (lv_room (Nat.le_of_ble_eq_true rfl)) dX4_pickEmpties_79 ⟨Nat.zero_le _, Nat.zero_le _⟩) hS (fun H locs hP _ hS => ?_)
        refine lv_iinc (v := (nI (j72 + 1))) (lv' := [(4, .int (nI (j72 + 1))), (0, .ref (q 1)), (1, .int a1), (2, .int a2), (3, .int a3)]) hx hb dX4_pickEmpties_82 hl (k := 4) rfl (bInc j72) (by decide) rfl (fun ls hl => ?_)
        refine lv_goto (tgt := 72) hx hb dX4_pickEmpties_85 (by decide) ?_
        exact ih (j72 + 1)  _ _ _ _ (by omega) (by omega) (lv_sub hl [1, 2, 3, 4, 0] rfl) hP hS X (by rw [← hF, L4_pickEmpties_72, if_neg c_4]) kx
  refine loop72 (a3.toNatClampNeg + 1) 0  _ _ _ _ (by omega) (by omega) (lv_sub hl [1, 2, 3, 4, 0] rfl) hP hS _ rfl (fun H locs ls hl hP hS => ?_)
  exact bret_Wv hx hb hr hP trivial hS hlocks dX4_pickEmpties_88 (by rw [← hF, F4_pickEmpties])
def F4_pickedOf (u : bU) (a1 : Int32) (a2 : Int32) : Int32 := ((F2_ofShop u a1 (20 + a2)) - (F5_entry 8 (u 1) a2))
set_option maxHeartbeats 4000000 in
set_option maxRecDepth 100000 in
theorem C4_pickedOf (l : Launch) (D : va_G) (cI cO : ClassId) (q : Nat → Nat) (u : bU) (H0 : Heap) (hP : va_P D vwCl (wC cI cO q u) H0) (a1 : Int32) (a2 : Int32) : Met l yX4_pickedOf wsX4_pickedOf ({ frames := 2, cells := 0, slots := 0, locals := 43 }) (bP D [(cI, .int), (cO, .object RX2)] H0 [.ref (q 1), .int a1, .int a2]) (bRi H0 (F4_pickedOf u a1 a2)) 0 0 (fun _ => False) := by
  refine Met.ofW (cc := cX4_pickedOf) (maxL := 3) (ret := (some .int)) (by decide) rfl ?_
  intro p e s m args below meth c s₁ B hml hv
  obtain ⟨rfl, hH, hk⟩ := hv
  subst hH
  have hx := B.exec
  have hb := B.bytes
  have hr := B.returns
  have hts := atoms_spec (ws := wsX4_pickedOf) B.pre
  have hown : s.vm.findClass RX4 = some m.cls := findClass_of_methodNamed B.named
  have hlocks := B.notSynchronized
  have iX4 : ∀ w ∈ wsX40, w ∈ wsX4_pickedOf := by decide +kernel
  have hS : va_S (fun _ => False) s.heap s.heap [] := va_S.rf
  have hl := lv_entry ([.ref (q 1), .int a1, .int a2]) (n := 3) (Nat.le_of_ble_eq_true rfl)
  rw [lg_entry_eq]
  generalize (lg_sl ([.ref (q 1), .int a1, .int a2]) ++ List.replicate (3 - (lg_sl ([.ref (q 1), .int a1, .int a2])).length) Slot.unset).toArray = ls at hl ⊢
  have hl : lv_has ls 3 [(0, .ref (q 1)), (1, .int a1), (2, .int a2)] := hl
  generalize hF : F4_pickedOf u a1 a2 = tgt
  refine lv_aload_n hx hb dX4_pickedOf_0 rfl (lv_at hl 0 rfl) ?_
  refine va_get (D := D) (ci := 4) (C := RX4) (T := TX4) (N := 2) hx hb hts iX4 hown hk.1 hP 1 (wC_1 _ _ _ _) rfl 0 (by decide) (hts (.fieldLink RX4 12 "BottleLoop$Trade" "state" "LBottleLoop$State;") (List.mem_of_getElem? (i := 1) rfl)) (fun _ h9 => h9) rfl dX4_pickedOf_1 ?_
  refine lv_iload_n hx hb dX4_pickedOf_4 rfl (lv_at hl 1 rfl) ?_
  refine lv_bipush (v := 20) hx hb dX4_pickedOf_5 (by decide) ?_
  refine lv_iload_n hx hb dX4_pickedOf_7 rfl (lv_at hl 2 rfl) ?_
  refine lv_iadd hx hb dX4_pickedOf_8 ?_
  refine bcall_Ri (va_runVN (As := [.int a1, .int (20 + a2)]) (rest := []) ⟨hx, hb, hml, hown, hts⟩ (C2_ofShop l D cI cO q _ _ hP a1 (20 + a2)) ⟨va_cnB 2 hts gX4_pickedOf_X2_ofShop_n36 rfl rfl rfl (hk.2 (.methodLinkNest RX4 36 yX2_ofShop RX5) (List.mem_of_getElem? (i := 26) rfl)) (hts (.initialized RX2) (List.mem_of_getElem? (i := 4) rfl)) bd_X2ofShop ⟨Nat.le_of_ble_eq_true rfl, Nat.le_of_ble_eq_true rfl⟩, (hts (.instanceMethod yX2_ofShop) (List.mem_of_getElem? (i := 3) rfl)), (hts (.selects RX2 yX2_ofShop yX2_ofShop) (List.mem_of_getElem? (i := 5) rfl))⟩ (bPV hk (va_recv hk.1 hP (ci := 2) (q0 := 3) rfl (wC_3 _ _ _ _))) rfl rfl hl.1 rfl (lv_room (Nat.le_of_ble_eq_true rfl)) dX4_pickedOf_9 ⟨Nat.zero_le _, Nat.zero_le _⟩) hS (fun locs hS => ?_)
  refine lv_aload_n hx hb dX4_pickedOf_12 rfl (lv_at hl 0 rfl) ?_
  refine va_get (D := D) (ci := 4) (C := RX4) (T := TX4) (N := 2) hx hb hts iX4 hown hk.1 hP 1 (wC_1 _ _ _ _) rfl 1 (by decide) (hts (.fieldLink RX4 18 "BottleLoop$Trade" "left" "[I") (List.mem_of_getElem? (i := 2) rfl)) (fun _ h9 => h9) rfl dX4_pickedOf_13 ?_
  refine lv_iload_n hx hb dX4_pickedOf_16 rfl (lv_at hl 2 rfl) ?_
  refine bcall_Ri (va_runSN (As := [.ref (q 2), .int a2]) (rest := [.int (F2_ofShop u a1 (20 + a2))]) ⟨hx, hb, hml, hown, hts⟩ (C5_entry l D cI cO q _ (bRow hP 2 (wC_2 _ _ _ _)) (by decide) a2) ⟨va_cnB 2 hts gX4_pickedOf_X5_entry_n88 rfl rfl rfl (hk.2 (.methodLinkNest RX4 88 yX5_entry RX5) (List.mem_of_getElem? (i := 41) rfl)) (hts (.initialized RX5) (List.mem_of_getElem? (i := 13) rfl)) bd_X5entry ⟨Nat.le_of_ble_eq_true rfl, Nat.le_of_ble_eq_true rfl⟩, (hts (.static yX5_entry) (List.mem_of_getElem? (i := 12) rfl)), trivial⟩ (bPS hk) rfl rfl hl.1 rfl (lv_room (Nat.le_of_ble_eq_true rfl)) dX4_pickedOf_17 ⟨Nat.zero_le _, Nat.zero_le _⟩) hS (fun locs hS => ?_)
  refine lv_isub hx hb dX4_pickedOf_20 ?_
  exact bret_Ri hx hb hr hS hlocks dX4_pickedOf_21 (by rw [← hF, F4_pickedOf])
def L4_collectCrates_22 (a1 : Int32) (a2 : Int32) : bU → Nat → Nat → bU
  | u22, 0, _ => u22
  | u22, n22 + 1, j22 => (if (8 : Int32) ≤ (nI j22) then u22 else (if (F2_ofBrand u22 (nI j22) 0) = a2 then (L4_collectCrates_22 a1 a2 (F2_addToBrand (F2_addToShop u22 a1 (20 + (nI j22)) (-(F4_pickedOf u22 a1 (nI j22)))) (nI j22) 6 (F4_pickedOf u22 a1 (nI j22))) n22 (j22 + 1)) else (L4_collectCrates_22 a1 a2 u22 n22 (j22 + 1))))
def F4_collectCrates (u : bU) (a1 : Int32) (a2 : Int32) (a3 : Int32) : Int32 × bU := ((a3 * (F4_crateDeposits u a2)), (F2_addToAll (F2_addToShop (F2_addToShop (F2_addToAll (F2_addToShop (L4_collectCrates_22 a1 a2 (F4_pickEmpties u a1 a2 (12 * a3)) (8 + 1) 0) a1 1 (-a3)) 2 a3) a1 0 (a3 * (F4_crateDeposits u a2))) a1 4 (-(a3 * (F4_crateDeposits u a2)))) 4 (-(a3 * (F4_crateDeposits u a2)))))
set_option maxHeartbeats 4000000 in
set_option maxRecDepth 100000 in
theorem C4_collectCrates (l : Launch) (D : va_G) (cI cO : ClassId) (q : Nat → Nat) (u : bU) (H0 : Heap) (hq : bInj 23 q) (hP : va_P D vwCl (wC cI cO q u) H0) (a1 : Int32) (a2 : Int32) (a3 : Int32) : Met l yX4_collectCrates wsX4_collectCrates ({ frames := 3, cells := 0, slots := 0, locals := 68 }) (bP D [(cI, .int), (cO, .object RX2)] H0 [.ref (q 1), .int a1, .int a2, .int a3]) (bWi D (wC cI cO q) bT (bA 23 q H0.size) (F4_collectCrates u a1 a2 a3)) 0 0 (bA 23 q H0.size) := by
  refine Met.ofW (cc := cX4_collectCrates) (maxL := 7) (ret := (some .int)) (by decide) rfl ?_
  intro p e s m args below meth c s₁ B hml hv
  obtain ⟨rfl, hH, hk⟩ := hv
  subst hH
  have hx := B.exec
  have hb := B.bytes
  have hr := B.returns
  have hts := atoms_spec (ws := wsX4_collectCrates) B.pre
  have hown : s.vm.findClass RX4 = some m.cls := findClass_of_methodNamed B.named
  have hlocks := B.notSynchronized
  have iX4 : ∀ w ∈ wsX40, w ∈ wsX4_collectCrates := by decide +kernel
  have hS : va_S (bA 23 q s.heap.size) s.heap s.heap [] := va_S.rf
  have hl := lv_entry ([.ref (q 1), .int a1, .int a2, .int a3]) (n := 7) (Nat.le_of_ble_eq_true rfl)
  rw [lg_entry_eq]
  generalize (lg_sl ([.ref (q 1), .int a1, .int a2, .int a3]) ++ List.replicate (7 - (lg_sl ([.ref (q 1), .int a1, .int a2, .int a3])).length) Slot.unset).toArray = ls at hl ⊢
  have hl : lv_has ls 7 [(0, .ref (q 1)), (1, .int a1), (2, .int a2), (3, .int a3)] := hl
  generalize hF : F4_collectCrates u a1 a2 a3 = tgt
  refine lv_iload_n hx hb dX4_collectCrates_0 rfl (lv_at hl 3 rfl) ?_
  refine lv_aload_n hx hb dX4_collectCrates_1 rfl (lv_at hl 0 rfl) ?_
  refine lv_iload_n hx hb dX4_collectCrates_2 rfl (lv_at hl 2 rfl) ?_
  refine bcall_Ri (va_runV (As := [.int a2]) (rest := [.int a3]) ⟨hx, hb, hml, hown, hts⟩ (C4_crateDeposits l D cI cO q _ _ hP a2) (cwV 1 hts gX4_collectCrates_X4_crateDeposits rfl rfl rfl ⟨rfl, bd_X4crateDeposits⟩ ⟨Nat.le_of_ble_eq_true rfl, Nat.le_of_ble_eq_true rfl⟩) (bPV hk (va_recv hk.1 hP (ci := 4) (q0 := 1) rfl (wC_1 _ _ _ _))) rfl rfl hl.1 rfl (lv_room (Nat.le_of_ble_eq_true rfl)) dX4_collectCrates_3 ⟨Nat.zero_le _, Nat.zero_le _⟩) hS (fun locs hS => ?_)
  refine lv_imul hx hb dX4_collectCrates_6 ?_
  refine lv_istore (lv' := [(4, .int (a3 * (F4_crateDeposits u a2))), (0, .ref (q 1)), (1, .int a1), (2, .int a2), (3, .int a3)]) hx hb dX4_collectCrates_7 hl (by decide) rfl (fun ls hl => ?_)
  refine lv_aload_n hx hb dX4_collectCrates_9 rfl (lv_at hl 1 rfl) ?_
  refine lv_iload_n hx hb dX4_collectCrates_10 rfl (lv_at hl 2 rfl) ?_
  refine lv_iload_n hx hb dX4_collectCrates_11 rfl (lv_at hl 3 rfl) ?_
  refine lv_bipush (v := 12) hx hb dX4_collectCrates_12 (by decide) ?_
  refine lv_iload_n hx hb dX4_collectCrates_14 rfl (lv_at hl 4 rfl) ?_
  refine lv_imul hx hb dX4_collectCrates_15 ?_
  refine bcall_Wv (va_runV (As := [.int a1, .int a2, .int (12 * a3)]) (rest := []) ⟨hx, hb, hml, hown, hts⟩ (C4_pickEmpties l D cI cO q _ _ hq hP a1 a2 (12 * a3)) (cwV 3 hts gX4_collectCrates_X4_pickEmpties rfl rfl rfl ⟨rfl, bd_X4pickEmpties⟩ ⟨Nat.le_of_ble_eq_true rfl, Nat.le_of_ble_eq_true rfl⟩) (bPV hk (va_recv hk.1 hP (ci := 4) (q0 := 1) rfl (wC_1 _ _ _ _))) rfl rfl hl.1 rfl (lv_room (Nat.le_of_ble_eq_true rfl)) dX4_collectCrates_16 ⟨Nat.zero_le _, Nat.zero_le _⟩) hS (fun H locs hP _ hS => ?_)
  refine lv_iconst (v := 0) hx hb dX4_collectCrates_19 (by decide) ?_
  refine lv_istore (lv' := [(5, .int 0), (4, .int (a3 * (F4_crateDeposits u a2))), (0, .ref (q 1)), (1, .int a1), (2, .int a2), (3, .int a3)]) hx hb dX4_collectCrates_20 hl (by decide) rfl (fun ls hl => ?_)
  have loop22 : ∀ (n22 j22 : Nat) (u22 : bU) (H : Heap) (locs : List Loc) (ls : Array Slot), j22 ≤ 8 → 8 + 1 ≤ n22 + j22 → lv_has ls 7 [(0, .ref (q 1)), (1, .int a1), (2, .int a2), (3, .int a3), (4, .int (a3 * (F4_crateDeposits u a2))), (5, .int (nI j22))] → va_P D vwCl (wC cI cO q u22) H → va_S (bA 23 q s.heap.size) s.heap H locs → ∀ X : bU, L4_collectCrates_22 a1 a2 u22 n22 j22 = X → (∀ (H : Heap) (locs : List Loc) (ls : Array Slot), lv_has ls 7 [(0, .ref (q 1)), (1, .int a1), (2, .int a2), (3, .int a3), (4, .int (a3 * (F4_crateDeposits u a2)))] → va_P D vwCl (wC cI cO q X) H → va_S (bA 23 q s.heap.size) s.heap H locs → W p l e (headSpec wsX4_collectCrates ({ frames := 3, cells := 0, slots := 0, locals := 68 })).room s m ([.ref (q 1), .int a1, .int a2, .int a3] : List Value).toArray below meth c H locs 0 0 (MQ below (bWi D (wC cI cO q) bT (bA 23 q s.heap.size) tgt) ([.ref (q 1), .int a1, .int a2, .int a3] : List Value).toArray s 0 0 (bA 23 q s.heap.size)) (F0 m 87 ls [])) → W p l e (headSpec wsX4_collectCrates ({ frames := 3, cells := 0, slots := 0, locals := 68 })).room s m ([.ref (q 1), .int a1, .int a2, .int a3] : List Value).toArray below meth c H locs 0 0 (MQ below (bWi D (wC cI cO q) bT (bA 23 q s.heap.size) tgt) ([.ref (q 1), .int a1, .int a2, .int a3] : List Value).toArray s 0 0 (bA 23 q s.heap.size)) (F0 m 22 ls []) := by
    intro n22
    induction n22 with
    | zero => intro j22 u22 H locs ls hj hn; exact absurd hn (by omega)
    | succ n22 ih =>
      intro j22 u22 H locs ls hj hn hl hP hS X hF kx
      refine lv_iload hx hb dX4_collectCrates_22 (lv_at hl 5 rfl) ?_
      refine lv_bipush (v := 8) hx hb dX4_collectCrates_24 (by decide) ?_
      refine lv_icmp_ge (tgt := 87) hx hb dX4_collectCrates_26 (by decide) (fun c_1 => ?_) (fun c_1 => ?_)
      · obtain rfl : X = u22 := by rw [← hF, L4_collectCrates_22, if_pos c_1]
        exact kx _ _ _ (lv_sub hl [0, 1, 2, 3, 4] rfl) hP hS
      · have hlt_2 : j22 < 8 := bLt c_1 (by omega) (by decide)
        refine lv_aload_n hx hb dX4_collectCrates_29 rfl (lv_at hl 0 rfl) ?_
        refine va_get (D := D) (ci := 4) (C := RX4) (T := TX4) (N := 2) hx hb hts iX4 hown hk.1 hP 1 (wC_1 _ _ _ _) rfl 0 (by decide) (hts (.fieldLink RX4 12 "BottleLoop$Trade" "state" "LBottleLoop$State;") (List.mem_of_getElem? (i := 1) rfl)) (fun _ h9 => h9) rfl dX4_collectCrates_30 ?_
        refine lv_iload hx hb dX4_collectCrates_33 (lv_at hl 5 rfl) ?_
        refine lv_iconst (v := 0) hx hb dX4_collectCrates_35 (by decide) ?_
        refine bcall_Ri (va_runVN (As := [.int (nI j22), .int 0]) (rest := []) ⟨hx, hb, hml, hown, hts⟩ (C2_ofBrand l D cI cO q _ _ hP (nI j22) 0) ⟨va_cnB 2 hts gX4_collectCrates_X2_ofBrand_n22 rfl rfl rfl (hk.2 (.methodLinkNest RX4 22 yX2_ofBrand RX5) (List.mem_of_getElem? (i := 20) rfl)) (hts (.initialized RX2) (List.mem_of_getElem? (i := 8) rfl)) bd_X2ofBrand ⟨Nat.le_of_ble_eq_true rfl, Nat.le_of_ble_eq_true rfl⟩, (hts (.instanceMethod yX2_ofBrand) (List.mem_of_getElem? (i := 21) rfl)), (hts (.selects RX2 yX2_ofBrand yX2_ofBrand) (List.mem_of_getElem? (i := 22) rfl))⟩ (bPV hk (va_recv hk.1 hP (ci := 2) (q0 := 3) rfl (wC_3 _ _ _ _))) rfl rfl hl.1 rfl (lv_room (Nat.le_of_ble_eq_true rfl)) dX4_collectCrates_36 ⟨Nat.zero_le _, Nat.zero_le _⟩) hS (fun locs hS => ?_)
        refine lv_iload_n hx hb dX4_collectCrates_39 rfl (lv_at hl 2 rfl) ?_
        refine lv_icmp_ne (tgt := 81) hx hb dX4_collectCrates_40 (by decide) (fun c_3 => ?_) (fun c_3 => ?_)
        · refine lv_iinc (v := (nI (j22 + 1))) (lv' := [(5, .int (nI (j22 + 1))), (0, .ref (q 1)), (1, .int a1), (2, .int a2), (3, .int a3), (4, .int (a3 * (F4_crateDeposits u a2)))]) hx hb dX4_collectCrates_81 hl (k := 5) rfl (bInc j22) (by decide) rfl (fun ls hl => ?_)
          refine lv_goto (tgt := 22) hx hb dX4_collectCrates_84 (by decide) ?_
          exact ih (j22 + 1)  _ _ _ _ (by omega) (by omega) (lv_sub hl [1, 2, 3, 4, 5, 0] rfl) hP hS X (by rw [← hF, L4_collectCrates_22, if_neg c_1, if_neg c_3]) kx
        · refine lv_aload_n hx hb dX4_collectCrates_43 rfl (lv_at hl 0 rfl) ?_
          refine lv_iload_n hx hb dX4_collectCrates_44 rfl (lv_at hl 1 rfl) ?_
          refine lv_iload hx hb dX4_collectCrates_45 (lv_at hl 5 rfl) ?_
          refine bcall_Ri (va_runV (As := [.int a1, .int (nI j22)]) (rest := []) ⟨hx, hb, hml, hown, hts⟩ (C4_pickedOf l D cI cO q _ _ hP a1 (nI j22)) (cwV 2 hts gX4_collectCrates_X4_pickedOf rfl rfl rfl ⟨rfl, bd_X4pickedOf⟩ ⟨Nat.le_of_ble_eq_true rfl, Nat.le_of_ble_eq_true rfl⟩) (bPV hk (va_recv hk.1 hP (ci := 4) (q0 := 1) rfl (wC_1 _ _ _ _))) rfl rfl hl.1 rfl (lv_room (Nat.le_of_ble_eq_true rfl)) dX4_collectCrates_47 ⟨Nat.zero_le _, Nat.zero_le _⟩) hS (fun locs hS => ?_)
          refine lv_istore (lv' := [(6, .int (F4_pickedOf u22 a1 (nI j22))), (0, .ref (q 1)), (1, .int a1), (2, .int a2), (3, .int a3), (4, .int (a3 * (F4_crateDeposits u a2))), (5, .int (nI j22))]) hx hb dX4_collectCrates_50 hl (by decide) rfl (fun ls hl => ?_)
          refine lv_aload_n hx hb dX4_collectCrates_52 rfl (lv_at hl 1 rfl) ?_
          refine va_get (D := D) (ci := 4) (C := RX4) (T := TX4) (N := 2) hx hb hts iX4 hown hk.1 hP 1 (wC_1 _ _ _ _) rfl 0 (by decide) (hts (.fieldLink RX4 12 "BottleLoop$Trade" "state" "LBottleLoop$State;") (List.mem_of_getElem? (i := 1) rfl)) (fun _ h9 => h9) rfl dX4_collectCrates_53 ?_
          refine lv_iload_n hx hb dX4_collectCrates_56 rfl (lv_at hl 2 rfl) ?_
          refine lv_bipush (v := 20) hx hb dX4_collectCrates_57 (by decide) ?_
          refine lv_iload hx hb dX4_collectCrates_59 (lv_at hl 6 rfl) ?_
          refine lv_iadd hx hb dX4_collectCrates_61 ?_
          refine lv_iload hx hb dX4_collectCrates_62 (lv_at hl 0 rfl) ?_
          refine lv_ineg hx hb dX4_collectCrates_64 ?_
          refine bcall_Wv (va_runVN (As := [.int a1, .int (20 + (nI j22)), .int (-(F4_pickedOf u22 a1 (nI j22)))]) (rest := []) ⟨hx, hb, hml, hown, hts⟩ (C2_addToShop l D cI cO q _ _ hq hP a1 (20 + (nI j22)) (-(F4_pickedOf u22 a1 (nI j22)))) ⟨va_cnB 3 hts gX4_collectCrates_X2_addToShop_n58 rfl rfl rfl (hk.2 (.methodLinkNest RX4 58 yX2_addToShop RX5) (List.mem_of_getElem? (i := 34) rfl)) (hts (.initialized RX2) (List.mem_of_getElem? (i := 8) rfl)) bd_X2addToShop ⟨Nat.le_of_ble_eq_true rfl, Nat.le_of_ble_eq_true rfl⟩, (hts (.instanceMethod yX2_addToShop) (List.mem_of_getElem? (i := 38) rfl)), (hts (.selects RX2 yX2_addToShop yX2_addToShop) (List.mem_of_getElem? (i := 39) rfl))⟩ (bPV hk (va_recv hk.1 hP (ci := 2) (q0 := 3) rfl (wC_3 _ _ _ _))) rfl rfl hl.1 rfl (lv_room (Nat.le_of_ble_eq_true rfl)) dX4_collectCrates_65 ⟨Nat.zero_le _, Nat.zero_le _⟩) hS (fun H locs hP _ hS => ?_)
          refine lv_aload_n hx hb dX4_collectCrates_68 rfl (lv_at hl 1 rfl) ?_
          refine va_get (D := D) (ci := 4) (C := RX4) (T := TX4) (N := 2) hx hb hts iX4 hown hk.1 hP 1 (wC_1 _ _ _ _) rfl 0 (by decide) (hts (.fieldLink RX4 12 "BottleLoop$Trade" "state" "LBottleLoop$State;") (List.mem_of_getElem? (i := 1) rfl)) (fun _ h9 => h9) rfl dX4_collectCrates_69 ?_
          refine lv_iload hx hb dX4_collectCrates_72 (lv_at hl 6 rfl) ?_
          refine lv_bipush (v := 6) hx hb dX4_collectCrates_74 (by decide) ?_
          refine lv_iload hx hb dX4_collectCrates_76 (lv_at hl 0 rfl) ?_
          refine bcall_Wv (va_runVN (As := [.int (nI j22), .int 6, .int (F4_pickedOf u22 a1 (nI j22))]) (rest := []) ⟨hx, hb, hml, hown, hts⟩ (C2_addToBrand l D cI cO q _ _ hq hP (nI j22) 6 (F4_pickedOf u22 a1 (nI j22))) ⟨va_cnB 3 hts gX4_collectCrates_X2_addToBrand_n54 rfl rfl rfl (hk.2 (.methodLinkNest RX4 54 yX2_addToBrand RX5) (List.mem_of_getElem? (i := 21) rfl)) (hts (.initialized RX2) (List.mem_of_getElem? (i := 8) rfl)) bd_X2addToBrand ⟨Nat.le_of_ble_eq_true rfl, Nat.le_of_ble_eq_true rfl⟩, (hts (.instanceMethod yX2_addToBrand) (List.mem_of_getElem? (i := 45) rfl)), (hts (.selects RX2 yX2_addToBrand yX2_addToBrand) (List.mem_of_getElem? (i := 46) rfl))⟩ (bPV hk (va_recv hk.1 hP (ci := 2) (q0 := 3) rfl (wC_3 _ _ _ _))) rfl rfl hl.1 rfl (lv_room (Nat.le_of_ble_eq_true rfl)) dX4_collectCrates_78 ⟨Nat.zero_le _, Nat.zero_le _⟩) hS (fun H locs hP _ hS => ?_)
          refine lv_iinc (v := (nI (j22 + 1))) (lv' := [(5, .int (nI (j22 + 1))), (6, .int (F4_pickedOf u22 a1 (nI j22))), (0, .ref (q 1)), (1, .int a1), (2, .int a2), (3, .int a3), (4, .int (a3 * (F4_crateDeposits u a2)))]) hx hb dX4_collectCrates_81 hl (k := 6) rfl (bInc j22) (by decide) rfl (fun ls hl => ?_)
          refine lv_goto (tgt := 22) hx hb dX4_collectCrates_84 (by decide) ?_
          exact ih (j22 + 1)  _ _ _ _ (by omega) (by omega) (lv_sub hl [2, 3, 4, 5, 6, 0] rfl) hP hS X (by rw [← hF, L4_collectCrates_22, if_neg c_1, if_pos c_3]) kx
  refine loop22 (8 + 1) 0  _ _ _ _ (by omega) (by omega) (lv_sub hl [2, 3, 4, 5, 1, 0] rfl) hP hS _ rfl (fun H locs ls hl hP hS => ?_)
  refine lv_aload_n hx hb dX4_collectCrates_87 rfl (lv_at hl 0 rfl) ?_
  refine va_get (D := D) (ci := 4) (C := RX4) (T := TX4) (N := 2) hx hb hts iX4 hown hk.1 hP 1 (wC_1 _ _ _ _) rfl 0 (by decide) (hts (.fieldLink RX4 12 "BottleLoop$Trade" "state" "LBottleLoop$State;") (List.mem_of_getElem? (i := 1) rfl)) (fun _ h9 => h9) rfl dX4_collectCrates_88 ?_
  refine lv_iload_n hx hb dX4_collectCrates_91 rfl (lv_at hl 1 rfl) ?_
  refine lv_iconst (v := 1) hx hb dX4_collectCrates_92 (by decide) ?_
  refine lv_iload_n hx hb dX4_collectCrates_93 rfl (lv_at hl 3 rfl) ?_
  refine lv_ineg hx hb dX4_collectCrates_94 ?_
  refine bcall_Wv (va_runVN (As := [.int a1, .int 1, .int (-a3)]) (rest := []) ⟨hx, hb, hml, hown, hts⟩ (C2_addToShop l D cI cO q _ _ hq hP a1 1 (-a3)) ⟨va_cnB 3 hts gX4_collectCrates_X2_addToShop_n58 rfl rfl rfl (hk.2 (.methodLinkNest RX4 58 yX2_addToShop RX5) (List.mem_of_getElem? (i := 34) rfl)) (hts (.initialized RX2) (List.mem_of_getElem? (i := 8) rfl)) bd_X2addToShop ⟨Nat.le_of_ble_eq_true rfl, Nat.le_of_ble_eq_true rfl⟩, (hts (.instanceMethod yX2_addToShop) (List.mem_of_getElem? (i := 38) rfl)), (hts (.selects RX2 yX2_addToShop yX2_addToShop) (List.mem_of_getElem? (i := 39) rfl))⟩ (bPV hk (va_recv hk.1 hP (ci := 2) (q0 := 3) rfl (wC_3 _ _ _ _))) rfl rfl hl.1 rfl (lv_room (Nat.le_of_ble_eq_true rfl)) dX4_collectCrates_95 ⟨Nat.zero_le _, Nat.zero_le _⟩) hS (fun H locs hP _ hS => ?_)
  refine lv_aload_n hx hb dX4_collectCrates_98 rfl (lv_at hl 0 rfl) ?_
  refine va_get (D := D) (ci := 4) (C := RX4) (T := TX4) (N := 2) hx hb hts iX4 hown hk.1 hP 1 (wC_1 _ _ _ _) rfl 0 (by decide) (hts (.fieldLink RX4 12 "BottleLoop$Trade" "state" "LBottleLoop$State;") (List.mem_of_getElem? (i := 1) rfl)) (fun _ h9 => h9) rfl dX4_collectCrates_99 ?_
  refine lv_iconst (v := 2) hx hb dX4_collectCrates_102 (by decide) ?_
  refine lv_iload_n hx hb dX4_collectCrates_103 rfl (lv_at hl 3 rfl) ?_
  refine bcall_Wv (va_runVN (As := [.int 2, .int a3]) (rest := []) ⟨hx, hb, hml, hown, hts⟩ (C2_addToAll l D cI cO q _ _ hq hP 2 a3) ⟨va_cnB 2 hts gX4_collectCrates_X2_addToAll_n61 rfl rfl rfl (hk.2 (.methodLinkNest RX4 61 yX2_addToAll RX5) (List.mem_of_getElem? (i := 35) rfl)) (hts (.initialized RX2) (List.mem_of_getElem? (i := 8) rfl)) bd_X2addToAll ⟨Nat.le_of_ble_eq_true rfl, Nat.le_of_ble_eq_true rfl⟩, (hts (.instanceMethod yX2_addToAll) (List.mem_of_getElem? (i := 48) rfl)), (hts (.selects RX2 yX2_addToAll yX2_addToAll) (List.mem_of_getElem? (i := 49) rfl))⟩ (bPV hk (va_recv hk.1 hP (ci := 2) (q0 := 3) rfl (wC_3 _ _ _ _))) rfl rfl hl.1 rfl (lv_room (Nat.le_of_ble_eq_true rfl)) dX4_collectCrates_104 ⟨Nat.zero_le _, Nat.zero_le _⟩) hS (fun H locs hP _ hS => ?_)
  refine lv_aload_n hx hb dX4_collectCrates_107 rfl (lv_at hl 0 rfl) ?_
  refine va_get (D := D) (ci := 4) (C := RX4) (T := TX4) (N := 2) hx hb hts iX4 hown hk.1 hP 1 (wC_1 _ _ _ _) rfl 0 (by decide) (hts (.fieldLink RX4 12 "BottleLoop$Trade" "state" "LBottleLoop$State;") (List.mem_of_getElem? (i := 1) rfl)) (fun _ h9 => h9) rfl dX4_collectCrates_108 ?_
  refine lv_iload_n hx hb dX4_collectCrates_111 rfl (lv_at hl 1 rfl) ?_
  refine lv_iconst (v := 0) hx hb dX4_collectCrates_112 (by decide) ?_
  refine lv_iload hx hb dX4_collectCrates_113 (lv_at hl 4 rfl) ?_
  refine bcall_Wv (va_runVN (As := [.int a1, .int 0, .int (a3 * (F4_crateDeposits u a2))]) (rest := []) ⟨hx, hb, hml, hown, hts⟩ (C2_addToShop l D cI cO q _ _ hq hP a1 0 (a3 * (F4_crateDeposits u a2))) ⟨va_cnB 3 hts gX4_collectCrates_X2_addToShop_n58 rfl rfl rfl (hk.2 (.methodLinkNest RX4 58 yX2_addToShop RX5) (List.mem_of_getElem? (i := 34) rfl)) (hts (.initialized RX2) (List.mem_of_getElem? (i := 8) rfl)) bd_X2addToShop ⟨Nat.le_of_ble_eq_true rfl, Nat.le_of_ble_eq_true rfl⟩, (hts (.instanceMethod yX2_addToShop) (List.mem_of_getElem? (i := 38) rfl)), (hts (.selects RX2 yX2_addToShop yX2_addToShop) (List.mem_of_getElem? (i := 39) rfl))⟩ (bPV hk (va_recv hk.1 hP (ci := 2) (q0 := 3) rfl (wC_3 _ _ _ _))) rfl rfl hl.1 rfl (lv_room (Nat.le_of_ble_eq_true rfl)) dX4_collectCrates_115 ⟨Nat.zero_le _, Nat.zero_le _⟩) hS (fun H locs hP _ hS => ?_)
  refine lv_aload_n hx hb dX4_collectCrates_118 rfl (lv_at hl 0 rfl) ?_
  refine va_get (D := D) (ci := 4) (C := RX4) (T := TX4) (N := 2) hx hb hts iX4 hown hk.1 hP 1 (wC_1 _ _ _ _) rfl 0 (by decide) (hts (.fieldLink RX4 12 "BottleLoop$Trade" "state" "LBottleLoop$State;") (List.mem_of_getElem? (i := 1) rfl)) (fun _ h9 => h9) rfl dX4_collectCrates_119 ?_
  refine lv_iload_n hx hb dX4_collectCrates_122 rfl (lv_at hl 1 rfl) ?_
  refine lv_iconst (v := 4) hx hb dX4_collectCrates_123 (by decide) ?_
  refine lv_iload hx hb dX4_collectCrates_124 (lv_at hl 4 rfl) ?_
  refine lv_ineg hx hb dX4_collectCrates_126 ?_
  refine bcall_Wv (va_runVN (As := [.int a1, .int 4, .int (-(a3 * (F4_crateDeposits u a2)))]) (rest := []) ⟨hx, hb, hml, hown, hts⟩ (C2_addToShop l D cI cO q _ _ hq hP a1 4 (-(a3 * (F4_crateDeposits u a2)))) ⟨va_cnB 3 hts gX4_collectCrates_X2_addToShop_n58 rfl rfl rfl (hk.2 (.methodLinkNest RX4 58 yX2_addToShop RX5) (List.mem_of_getElem? (i := 34) rfl)) (hts (.initialized RX2) (List.mem_of_getElem? (i := 8) rfl)) bd_X2addToShop ⟨Nat.le_of_ble_eq_true rfl, Nat.le_of_ble_eq_true rfl⟩, (hts (.instanceMethod yX2_addToShop) (List.mem_of_getElem? (i := 38) rfl)), (hts (.selects RX2 yX2_addToShop yX2_addToShop) (List.mem_of_getElem? (i := 39) rfl))⟩ (bPV hk (va_recv hk.1 hP (ci := 2) (q0 := 3) rfl (wC_3 _ _ _ _))) rfl rfl hl.1 rfl (lv_room (Nat.le_of_ble_eq_true rfl)) dX4_collectCrates_127 ⟨Nat.zero_le _, Nat.zero_le _⟩) hS (fun H locs hP _ hS => ?_)
  refine lv_aload_n hx hb dX4_collectCrates_130 rfl (lv_at hl 0 rfl) ?_
  refine va_get (D := D) (ci := 4) (C := RX4) (T := TX4) (N := 2) hx hb hts iX4 hown hk.1 hP 1 (wC_1 _ _ _ _) rfl 0 (by decide) (hts (.fieldLink RX4 12 "BottleLoop$Trade" "state" "LBottleLoop$State;") (List.mem_of_getElem? (i := 1) rfl)) (fun _ h9 => h9) rfl dX4_collectCrates_131 ?_
  refine lv_iconst (v := 4) hx hb dX4_collectCrates_134 (by decide) ?_
  refine lv_iload hx hb dX4_collectCrates_135 (lv_at hl 4 rfl) ?_
  refine lv_ineg hx hb dX4_collectCrates_137 ?_
  refine bcall_Wv (va_runVN (As := [.int 4, .int (-(a3 * (F4_crateDeposits u a2)))]) (rest := []) ⟨hx, hb, hml, hown, hts⟩ (C2_addToAll l D cI cO q _ _ hq hP 4 (-(a3 * (F4_crateDeposits u a2)))) ⟨va_cnB 2 hts gX4_collectCrates_X2_addToAll_n61 rfl rfl rfl (hk.2 (.methodLinkNest RX4 61 yX2_addToAll RX5) (List.mem_of_getElem? (i := 35) rfl)) (hts (.initialized RX2) (List.mem_of_getElem? (i := 8) rfl)) bd_X2addToAll ⟨Nat.le_of_ble_eq_true rfl, Nat.le_of_ble_eq_true rfl⟩, (hts (.instanceMethod yX2_addToAll) (List.mem_of_getElem? (i := 48) rfl)), (hts (.selects RX2 yX2_addToAll yX2_addToAll) (List.mem_of_getElem? (i := 49) rfl))⟩ (bPV hk (va_recv hk.1 hP (ci := 2) (q0 := 3) rfl (wC_3 _ _ _ _))) rfl rfl hl.1 rfl (lv_room (Nat.le_of_ble_eq_true rfl)) dX4_collectCrates_138 ⟨Nat.zero_le _, Nat.zero_le _⟩) hS (fun H locs hP _ hS => ?_)
  refine lv_iload hx hb dX4_collectCrates_141 (lv_at hl 4 rfl) ?_
  exact bret_Wi hx hb hr hP trivial hS hlocks dX4_collectCrates_143 (by rw [← hF, F4_collectCrates])
def L4_sortBottles_5 (a1 : Int32) : bU → Nat → Nat → Int32 → Int32 × bU
  | u5, 0, _, x3_5 => (x3_5, u5)
  | u5, n5 + 1, j5, x3_5 => (if (8 : Int32) ≤ (nI j5) then (x3_5, u5) else (if (F2_ofBrand u5 (nI j5) 0) = a1 then (L4_sortBottles_5 a1 (F2_addToBrand (F2_addToBrand u5 (nI j5) 6 (-(bmin x3_5 (F2_ofBrand u5 (nI j5) 6)))) (nI j5) 1 (bmin x3_5 (F2_ofBrand u5 (nI j5) 6))) n5 (j5 + 1) (x3_5 - (bmin x3_5 (F2_ofBrand u5 (nI j5) 6)))) else (L4_sortBottles_5 a1 u5 n5 (j5 + 1) x3_5)))
def F4_sortBottles (u : bU) (a1 : Int32) (a2 : Int32) : Int32 × bU := ((F4_yardOf (L4_sortBottles_5 a1 u (8 + 1) 0 a2).2 a1), (L4_sortBottles_5 a1 u (8 + 1) 0 a2).2)
set_option maxHeartbeats 4000000 in
set_option maxRecDepth 100000 in
theorem C4_sortBottles (l : Launch) (D : va_G) (cI cO : ClassId) (q : Nat → Nat) (u : bU) (H0 : Heap) (hq : bInj 23 q) (hP : va_P D vwCl (wC cI cO q u) H0) (a1 : Int32) (a2 : Int32) : Met l yX4_sortBottles wsX4_sortBottles ({ frames := 3, cells := 0, slots := 0, locals := 66 }) (bP D [(cI, .int), (cO, .object RX2)] H0 [.ref (q 1), .int a1, .int a2]) (bWi D (wC cI cO q) bT (bA 23 q H0.size) (F4_sortBottles u a1 a2)) 0 0 (bA 23 q H0.size) := by
  refine Met.ofW (cc := cX4_sortBottles) (maxL := 6) (ret := (some .int)) (by decide) rfl ?_
  intro p e s m args below meth c s₁ B hml hv
  obtain ⟨rfl, hH, hk⟩ := hv
  subst hH
  have hx := B.exec
  have hb := B.bytes
  have hr := B.returns
  have hts := atoms_spec (ws := wsX4_sortBottles) B.pre
  have hown : s.vm.findClass RX4 = some m.cls := findClass_of_methodNamed B.named
  have hlocks := B.notSynchronized
  have iX4 : ∀ w ∈ wsX40, w ∈ wsX4_sortBottles := by decide +kernel
  have hS : va_S (bA 23 q s.heap.size) s.heap s.heap [] := va_S.rf
  have hl := lv_entry ([.ref (q 1), .int a1, .int a2]) (n := 6) (Nat.le_of_ble_eq_true rfl)
  rw [lg_entry_eq]
  generalize (lg_sl ([.ref (q 1), .int a1, .int a2]) ++ List.replicate (6 - (lg_sl ([.ref (q 1), .int a1, .int a2])).length) Slot.unset).toArray = ls at hl ⊢
  have hl : lv_has ls 6 [(0, .ref (q 1)), (1, .int a1), (2, .int a2)] := hl
  generalize hF : F4_sortBottles u a1 a2 = tgt
  refine lv_iload_n hx hb dX4_sortBottles_0 rfl (lv_at hl 2 rfl) ?_
  refine lv_istore_n (lv' := [(3, .int a2), (0, .ref (q 1)), (1, .int a1), (2, .int a2)]) hx hb dX4_sortBottles_1 rfl hl (by decide) rfl (fun ls hl => ?_)
  refine lv_iconst (v := 0) hx hb dX4_sortBottles_2 (by decide) ?_
  refine lv_istore (lv' := [(4, .int 0), (3, .int a2), (0, .ref (q 1)), (1, .int a1), (2, .int a2)]) hx hb dX4_sortBottles_3 hl (by decide) rfl (fun ls hl => ?_)
  have loop5 : ∀ (n5 j5 : Nat) (x3_5 : Int32) (u5 : bU) (H : Heap) (locs : List Loc) (ls : Array Slot), j5 ≤ 8 → 8 + 1 ≤ n5 + j5 → lv_has ls 6 [(0, .ref (q 1)), (1, .int a1), (2, .int a2), (3, .int x3_5), (4, .int (nI j5))] → va_P D vwCl (wC cI cO q u5) H → va_S (bA 23 q s.heap.size) s.heap H locs → ∀ X : Int32 × bU, L4_sortBottles_5 a1 u5 n5 j5 x3_5 = X → (∀ (H : Heap) (locs : List Loc) (ls : Array Slot), lv_has ls 6 [(0, .ref (q 1)), (1, .int a1), (2, .int a2), (3, .int X.1)] → va_P D vwCl (wC cI cO q X.2) H → va_S (bA 23 q s.heap.size) s.heap H locs → W p l e (headSpec wsX4_sortBottles ({ frames := 3, cells := 0, slots := 0, locals := 66 })).room s m ([.ref (q 1), .int a1, .int a2] : List Value).toArray below meth c H locs 0 0 (MQ below (bWi D (wC cI cO q) bT (bA 23 q s.heap.size) tgt) ([.ref (q 1), .int a1, .int a2] : List Value).toArray s 0 0 (bA 23 q s.heap.size)) (F0 m 80 ls [])) → W p l e (headSpec wsX4_sortBottles ({ frames := 3, cells := 0, slots := 0, locals := 66 })).room s m ([.ref (q 1), .int a1, .int a2] : List Value).toArray below meth c H locs 0 0 (MQ below (bWi D (wC cI cO q) bT (bA 23 q s.heap.size) tgt) ([.ref (q 1), .int a1, .int a2] : List Value).toArray s 0 0 (bA 23 q s.heap.size)) (F0 m 5 ls []) := by
    intro n5
    induction n5 with
    | zero => intro j5 x3_5 u5 H locs ls hj hn; exact absurd hn (by omega)
    | succ n5 ih =>
      intro j5 x3_5 u5 H locs ls hj hn hl hP hS X hF kx
      refine lv_iload hx hb dX4_sortBottles_5 (lv_at hl 4 rfl) ?_
      refine lv_bipush (v := 8) hx hb dX4_sortBottles_7 (by decide) ?_
      refine lv_icmp_ge (tgt := 80) hx hb dX4_sortBottles_9 (by decide) (fun c_1 => ?_) (fun c_1 => ?_)
      · obtain rfl : X = (x3_5, u5) := by rw [← hF, L4_sortBottles_5, if_pos c_1]
        exact kx _ _ _ (lv_sub hl [0, 1, 2, 3] rfl) hP hS
      · have hlt_2 : j5 < 8 := bLt c_1 (by omega) (by decide)
        refine lv_aload_n hx hb dX4_sortBottles_12 rfl (lv_at hl 0 rfl) ?_
        refine va_get (D := D) (ci := 4) (C := RX4) (T := TX4) (N := 2) hx hb hts iX4 hown hk.1 hP 1 (wC_1 _ _ _ _) rfl 0 (by decide) (hts (.fieldLink RX4 12 "BottleLoop$Trade" "state" "LBottleLoop$State;") (List.mem_of_getElem? (i := 1) rfl)) (fun _ h9 => h9) rfl dX4_sortBottles_13 ?_
        refine lv_iload hx hb dX4_sortBottles_16 (lv_at hl 4 rfl) ?_
        refine lv_iconst (v := 0) hx hb dX4_sortBottles_18 (by decide) ?_
        refine bcall_Ri (va_runVN (As := [.int (nI j5), .int 0]) (rest := []) ⟨hx, hb, hml, hown, hts⟩ (C2_ofBrand l D cI cO q _ _ hP (nI j5) 0) ⟨va_cnB 2 hts gX4_sortBottles_X2_ofBrand_n22 rfl rfl rfl (hk.2 (.methodLinkNest RX4 22 yX2_ofBrand RX5) (List.mem_of_getElem? (i := 20) rfl)) (hts (.initialized RX2) (List.mem_of_getElem? (i := 7) rfl)) bd_X2ofBrand ⟨Nat.le_of_ble_eq_true rfl, Nat.le_of_ble_eq_true rfl⟩, (hts (.instanceMethod yX2_ofBrand) (List.mem_of_getElem? (i := 6) rfl)), (hts (.selects RX2 yX2_ofBrand yX2_ofBrand) (List.mem_of_getElem? (i := 8) rfl))⟩ (bPV hk (va_recv hk.1 hP (ci := 2) (q0 := 3) rfl (wC_3 _ _ _ _))) rfl rfl hl.1 rfl (lv_room (Nat.le_of_ble_eq_true rfl)) dX4_sortBottles_19 ⟨Nat.zero_le _, Nat.zero_le _⟩) hS (fun locs hS => ?_)
        refine lv_iload_n hx hb dX4_sortBottles_22 rfl (lv_at hl 1 rfl) ?_
        refine lv_icmp_ne (tgt := 74) hx hb dX4_sortBottles_23 (by decide) (fun c_3 => ?_) (fun c_3 => ?_)
        · refine lv_iinc (v := (nI (j5 + 1))) (lv' := [(4, .int (nI (j5 + 1))), (0, .ref (q 1)), (1, .int a1), (2, .int a2), (3, .int x3_5)]) hx hb dX4_sortBottles_74 hl (k := 4) rfl (bInc j5) (by decide) rfl (fun ls hl => ?_)
          refine lv_goto (tgt := 5) hx hb dX4_sortBottles_77 (by decide) ?_
          exact ih (j5 + 1) x3_5 _ _ _ _ (by omega) (by omega) (lv_sub hl [1, 2, 3, 4, 0] rfl) hP hS X (by rw [← hF, L4_sortBottles_5, if_neg c_1, if_neg c_3]) kx
        · refine lv_iload_n hx hb dX4_sortBottles_26 rfl (lv_at hl 3 rfl) ?_
          refine lv_aload_n hx hb dX4_sortBottles_27 rfl (lv_at hl 0 rfl) ?_
          refine va_get (D := D) (ci := 4) (C := RX4) (T := TX4) (N := 2) hx hb hts iX4 hown hk.1 hP 1 (wC_1 _ _ _ _) rfl 0 (by decide) (hts (.fieldLink RX4 12 "BottleLoop$Trade" "state" "LBottleLoop$State;") (List.mem_of_getElem? (i := 1) rfl)) (fun _ h9 => h9) rfl dX4_sortBottles_28 ?_
          refine lv_iload hx hb dX4_sortBottles_31 (lv_at hl 4 rfl) ?_
          refine lv_bipush (v := 6) hx hb dX4_sortBottles_33 (by decide) ?_
          refine bcall_Ri (va_runVN (As := [.int (nI j5), .int 6]) (rest := [.int x3_5]) ⟨hx, hb, hml, hown, hts⟩ (C2_ofBrand l D cI cO q _ _ hP (nI j5) 6) ⟨va_cnB 2 hts gX4_sortBottles_X2_ofBrand_n22 rfl rfl rfl (hk.2 (.methodLinkNest RX4 22 yX2_ofBrand RX5) (List.mem_of_getElem? (i := 20) rfl)) (hts (.initialized RX2) (List.mem_of_getElem? (i := 7) rfl)) bd_X2ofBrand ⟨Nat.le_of_ble_eq_true rfl, Nat.le_of_ble_eq_true rfl⟩, (hts (.instanceMethod yX2_ofBrand) (List.mem_of_getElem? (i := 6) rfl)), (hts (.selects RX2 yX2_ofBrand yX2_ofBrand) (List.mem_of_getElem? (i := 8) rfl))⟩ (bPV hk (va_recv hk.1 hP (ci := 2) (q0 := 3) rfl (wC_3 _ _ _ _))) rfl rfl hl.1 rfl (lv_room (Nat.le_of_ble_eq_true rfl)) dX4_sortBottles_35 ⟨Nat.zero_le _, Nat.zero_le _⟩) hS (fun locs hS => ?_)
          refine bcall_min hx hb (hml.trans hl.1.symm) hown (hts (.methodLink RX4 65 Lib.Math.min.name) (List.mem_of_getElem? (i := 2) rfl)) (hts (.static Lib.Math.min.name) (List.mem_of_getElem? (i := 3) rfl)) (hts (.initialized "java/lang/Math") (List.mem_of_getElem? (i := 4) rfl)) (hts (.code Lib.Math.min.name Lib.Math.min.code 2 (some .int)) (List.mem_of_getElem? (i := 5) rfl)) (Nat.le_of_ble_eq_true rfl) (Nat.le_of_ble_eq_true rfl) (Nat.zero_le _) (Nat.zero_le _) dX4_sortBottles_38 ?_
          refine lv_istore (lv' := [(5, .int (bmin x3_5 (F2_ofBrand u5 (nI j5) 6))), (0, .ref (q 1)), (1, .int a1), (2, .int a2), (3, .int x3_5), (4, .int (nI j5))]) hx hb dX4_sortBottles_41 hl (by decide) rfl (fun ls hl => ?_)
          refine lv_aload_n hx hb dX4_sortBottles_43 rfl (lv_at hl 1 rfl) ?_
          refine va_get (D := D) (ci := 4) (C := RX4) (T := TX4) (N := 2) hx hb hts iX4 hown hk.1 hP 1 (wC_1 _ _ _ _) rfl 0 (by decide) (hts (.fieldLink RX4 12 "BottleLoop$Trade" "state" "LBottleLoop$State;") (List.mem_of_getElem? (i := 1) rfl)) (fun _ h9 => h9) rfl dX4_sortBottles_44 ?_
          refine lv_iload hx hb dX4_sortBottles_47 (lv_at hl 5 rfl) ?_
          refine lv_bipush (v := 6) hx hb dX4_sortBottles_49 (by decide) ?_
          refine lv_iload hx hb dX4_sortBottles_51 (lv_at hl 0 rfl) ?_
          refine lv_ineg hx hb dX4_sortBottles_53 ?_
          refine bcall_Wv (va_runVN (As := [.int (nI j5), .int 6, .int (-(bmin x3_5 (F2_ofBrand u5 (nI j5) 6)))]) (rest := []) ⟨hx, hb, hml, hown, hts⟩ (C2_addToBrand l D cI cO q _ _ hq hP (nI j5) 6 (-(bmin x3_5 (F2_ofBrand u5 (nI j5) 6)))) ⟨va_cnB 3 hts gX4_sortBottles_X2_addToBrand_n54 rfl rfl rfl (hk.2 (.methodLinkNest RX4 54 yX2_addToBrand RX5) (List.mem_of_getElem? (i := 21) rfl)) (hts (.initialized RX2) (List.mem_of_getElem? (i := 7) rfl)) bd_X2addToBrand ⟨Nat.le_of_ble_eq_true rfl, Nat.le_of_ble_eq_true rfl⟩, (hts (.instanceMethod yX2_addToBrand) (List.mem_of_getElem? (i := 15) rfl)), (hts (.selects RX2 yX2_addToBrand yX2_addToBrand) (List.mem_of_getElem? (i := 16) rfl))⟩ (bPV hk (va_recv hk.1 hP (ci := 2) (q0 := 3) rfl (wC_3 _ _ _ _))) rfl rfl hl.1 rfl (lv_room (Nat.le_of_ble_eq_true rfl)) dX4_sortBottles_54 ⟨Nat.zero_le _, Nat.zero_le _⟩) hS (fun H locs hP _ hS => ?_)
          refine lv_aload_n hx hb dX4_sortBottles_57 rfl (lv_at hl 1 rfl) ?_
          refine va_get (D := D) (ci := 4) (C := RX4) (T := TX4) (N := 2) hx hb hts iX4 hown hk.1 hP 1 (wC_1 _ _ _ _) rfl 0 (by decide) (hts (.fieldLink RX4 12 "BottleLoop$Trade" "state" "LBottleLoop$State;") (List.mem_of_getElem? (i := 1) rfl)) (fun _ h9 => h9) rfl dX4_sortBottles_58 ?_
          refine lv_iload hx hb dX4_sortBottles_61 (lv_at hl 5 rfl) ?_
          refine lv_iconst (v := 1) hx hb dX4_sortBottles_63 (by decide) ?_
          refine lv_iload hx hb dX4_sortBottles_64 (lv_at hl 0 rfl) ?_
          refine bcall_Wv (va_runVN (As := [.int (nI j5), .int 1, .int (bmin x3_5 (F2_ofBrand u5 (nI j5) 6))]) (rest := []) ⟨hx, hb, hml, hown, hts⟩ (C2_addToBrand l D cI cO q _ _ hq hP (nI j5) 1 (bmin x3_5 (F2_ofBrand u5 (nI j5) 6))) ⟨va_cnB 3 hts gX4_sortBottles_X2_addToBrand_n54 rfl rfl rfl (hk.2 (.methodLinkNest RX4 54 yX2_addToBrand RX5) (List.mem_of_getElem? (i := 21) rfl)) (hts (.initialized RX2) (List.mem_of_getElem? (i := 7) rfl)) bd_X2addToBrand ⟨Nat.le_of_ble_eq_true rfl, Nat.le_of_ble_eq_true rfl⟩, (hts (.instanceMethod yX2_addToBrand) (List.mem_of_getElem? (i := 15) rfl)), (hts (.selects RX2 yX2_addToBrand yX2_addToBrand) (List.mem_of_getElem? (i := 16) rfl))⟩ (bPV hk (va_recv hk.1 hP (ci := 2) (q0 := 3) rfl (wC_3 _ _ _ _))) rfl rfl hl.1 rfl (lv_room (Nat.le_of_ble_eq_true rfl)) dX4_sortBottles_66 ⟨Nat.zero_le _, Nat.zero_le _⟩) hS (fun H locs hP _ hS => ?_)
          refine lv_iload_n hx hb dX4_sortBottles_69 rfl (lv_at hl 4 rfl) ?_
          refine lv_iload hx hb dX4_sortBottles_70 (lv_at hl 0 rfl) ?_
          refine lv_isub hx hb dX4_sortBottles_72 ?_
          refine lv_istore_n (lv' := [(3, .int (x3_5 - (bmin x3_5 (F2_ofBrand u5 (nI j5) 6)))), (5, .int (bmin x3_5 (F2_ofBrand u5 (nI j5) 6))), (0, .ref (q 1)), (1, .int a1), (2, .int a2), (4, .int (nI j5))]) hx hb dX4_sortBottles_73 rfl hl (by decide) rfl (fun ls hl => ?_)
          refine lv_iinc (v := (nI (j5 + 1))) (lv' := [(4, .int (nI (j5 + 1))), (3, .int (x3_5 - (bmin x3_5 (F2_ofBrand u5 (nI j5) 6)))), (5, .int (bmin x3_5 (F2_ofBrand u5 (nI j5) 6))), (0, .ref (q 1)), (1, .int a1), (2, .int a2)]) hx hb dX4_sortBottles_74 hl (k := 5) rfl (bInc j5) (by decide) rfl (fun ls hl => ?_)
          refine lv_goto (tgt := 5) hx hb dX4_sortBottles_77 (by decide) ?_
          exact ih (j5 + 1) (x3_5 - (bmin x3_5 (F2_ofBrand u5 (nI j5) 6))) _ _ _ _ (by omega) (by omega) (lv_sub hl [3, 4, 5, 1, 0] rfl) hP hS X (by rw [← hF, L4_sortBottles_5, if_neg c_1, if_pos c_3]) kx
  refine loop5 (8 + 1) 0 a2 _ _ _ _ (by omega) (by omega) (lv_sub hl [2, 3, 4, 1, 0] rfl) hP hS _ rfl (fun H locs ls hl hP hS => ?_)
  refine lv_aload_n hx hb dX4_sortBottles_80 rfl (lv_at hl 0 rfl) ?_
  refine lv_iload_n hx hb dX4_sortBottles_81 rfl (lv_at hl 1 rfl) ?_
  refine bcall_Ri (va_runV (As := [.int a1]) (rest := []) ⟨hx, hb, hml, hown, hts⟩ (C4_yardOf l D cI cO q _ _ hP a1) (cwV 1 hts gX4_sortBottles_X4_yardOf rfl rfl rfl ⟨rfl, bd_X4yardOf⟩ ⟨Nat.le_of_ble_eq_true rfl, Nat.le_of_ble_eq_true rfl⟩) (bPV hk (va_recv hk.1 hP (ci := 4) (q0 := 1) rfl (wC_1 _ _ _ _))) rfl rfl hl.1 rfl (lv_room (Nat.le_of_ble_eq_true rfl)) dX4_sortBottles_82 ⟨Nat.zero_le _, Nat.zero_le _⟩) hS (fun locs hS => ?_)
  exact bret_Wi hx hb hr hP trivial hS hlocks dX4_sortBottles_85 (by rw [← hF, F4_sortBottles])
def F4_swapBottles (u : bU) (a1 : Int32) (a2 : Int32) (a3 : Int32) : Int32 × bU := ((F2_ofSwaps (F2_addToSwaps (F2_addToSwaps (F2_addToBrand (F2_addToBrand (F2_addToBrand (F2_addToBrand u a1 1 (-a3)) a2 1 a3) a1 11 a3) a2 11 (-a3)) a1 a2 a3) a2 a1 (-a3)) a1 a2), (F2_addToSwaps (F2_addToSwaps (F2_addToBrand (F2_addToBrand (F2_addToBrand (F2_addToBrand u a1 1 (-a3)) a2 1 a3) a1 11 a3) a2 11 (-a3)) a1 a2 a3) a2 a1 (-a3)))
set_option maxHeartbeats 4000000 in
set_option maxRecDepth 100000 in
theorem C4_swapBottles (l : Launch) (D : va_G) (cI cO : ClassId) (q : Nat → Nat) (u : bU) (H0 : Heap) (hq : bInj 23 q) (hP : va_P D vwCl (wC cI cO q u) H0) (a1 : Int32) (a2 : Int32) (a3 : Int32) : Met l yX4_swapBottles wsX4_swapBottles ({ frames := 2, cells := 0, slots := 0, locals := 46 }) (bP D [(cI, .int), (cO, .object RX2)] H0 [.ref (q 1), .int a1, .int a2, .int a3]) (bWi D (wC cI cO q) bT (bA 23 q H0.size) (F4_swapBottles u a1 a2 a3)) 0 0 (bA 23 q H0.size) := by
  refine Met.ofW (cc := cX4_swapBottles) (maxL := 4) (ret := (some .int)) (by decide) rfl ?_
  intro p e s m args below meth c s₁ B hml hv
  obtain ⟨rfl, hH, hk⟩ := hv
  subst hH
  have hx := B.exec
  have hb := B.bytes
  have hr := B.returns
  have hts := atoms_spec (ws := wsX4_swapBottles) B.pre
  have hown : s.vm.findClass RX4 = some m.cls := findClass_of_methodNamed B.named
  have hlocks := B.notSynchronized
  have iX4 : ∀ w ∈ wsX40, w ∈ wsX4_swapBottles := by decide +kernel
  have hS : va_S (bA 23 q s.heap.size) s.heap s.heap [] := va_S.rf
  have hl := lv_entry ([.ref (q 1), .int a1, .int a2, .int a3]) (n := 4) (Nat.le_of_ble_eq_true rfl)
  rw [lg_entry_eq]
  generalize (lg_sl ([.ref (q 1), .int a1, .int a2, .int a3]) ++ List.replicate (4 - (lg_sl ([.ref (q 1), .int a1, .int a2, .int a3])).length) Slot.unset).toArray = ls at hl ⊢
  have hl : lv_has ls 4 [(0, .ref (q 1)), (1, .int a1), (2, .int a2), (3, .int a3)] := hl
  generalize hF : F4_swapBottles u a1 a2 a3 = tgt
  refine lv_aload_n hx hb dX4_swapBottles_0 rfl (lv_at hl 0 rfl) ?_
  refine va_get (D := D) (ci := 4) (C := RX4) (T := TX4) (N := 2) hx hb hts iX4 hown hk.1 hP 1 (wC_1 _ _ _ _) rfl 0 (by decide) (hts (.fieldLink RX4 12 "BottleLoop$Trade" "state" "LBottleLoop$State;") (List.mem_of_getElem? (i := 1) rfl)) (fun _ h9 => h9) rfl dX4_swapBottles_1 ?_
  refine lv_iload_n hx hb dX4_swapBottles_4 rfl (lv_at hl 1 rfl) ?_
  refine lv_iconst (v := 1) hx hb dX4_swapBottles_5 (by decide) ?_
  refine lv_iload_n hx hb dX4_swapBottles_6 rfl (lv_at hl 3 rfl) ?_
  refine lv_ineg hx hb dX4_swapBottles_7 ?_
  refine bcall_Wv (va_runVN (As := [.int a1, .int 1, .int (-a3)]) (rest := []) ⟨hx, hb, hml, hown, hts⟩ (C2_addToBrand l D cI cO q _ _ hq hP a1 1 (-a3)) ⟨va_cnB 3 hts gX4_swapBottles_X2_addToBrand_n54 rfl rfl rfl (hk.2 (.methodLinkNest RX4 54 yX2_addToBrand RX5) (List.mem_of_getElem? (i := 21) rfl)) (hts (.initialized RX2) (List.mem_of_getElem? (i := 3) rfl)) bd_X2addToBrand ⟨Nat.le_of_ble_eq_true rfl, Nat.le_of_ble_eq_true rfl⟩, (hts (.instanceMethod yX2_addToBrand) (List.mem_of_getElem? (i := 2) rfl)), (hts (.selects RX2 yX2_addToBrand yX2_addToBrand) (List.mem_of_getElem? (i := 4) rfl))⟩ (bPV hk (va_recv hk.1 hP (ci := 2) (q0 := 3) rfl (wC_3 _ _ _ _))) rfl rfl hl.1 rfl (lv_room (Nat.le_of_ble_eq_true rfl)) dX4_swapBottles_8 ⟨Nat.zero_le _, Nat.zero_le _⟩) hS (fun H locs hP _ hS => ?_)
  refine lv_aload_n hx hb dX4_swapBottles_11 rfl (lv_at hl 0 rfl) ?_
  refine va_get (D := D) (ci := 4) (C := RX4) (T := TX4) (N := 2) hx hb hts iX4 hown hk.1 hP 1 (wC_1 _ _ _ _) rfl 0 (by decide) (hts (.fieldLink RX4 12 "BottleLoop$Trade" "state" "LBottleLoop$State;") (List.mem_of_getElem? (i := 1) rfl)) (fun _ h9 => h9) rfl dX4_swapBottles_12 ?_
  refine lv_iload_n hx hb dX4_swapBottles_15 rfl (lv_at hl 2 rfl) ?_
  refine lv_iconst (v := 1) hx hb dX4_swapBottles_16 (by decide) ?_
  refine lv_iload_n hx hb dX4_swapBottles_17 rfl (lv_at hl 3 rfl) ?_
  refine bcall_Wv (va_runVN (As := [.int a2, .int 1, .int a3]) (rest := []) ⟨hx, hb, hml, hown, hts⟩ (C2_addToBrand l D cI cO q _ _ hq hP a2 1 a3) ⟨va_cnB 3 hts gX4_swapBottles_X2_addToBrand_n54 rfl rfl rfl (hk.2 (.methodLinkNest RX4 54 yX2_addToBrand RX5) (List.mem_of_getElem? (i := 21) rfl)) (hts (.initialized RX2) (List.mem_of_getElem? (i := 3) rfl)) bd_X2addToBrand ⟨Nat.le_of_ble_eq_true rfl, Nat.le_of_ble_eq_true rfl⟩, (hts (.instanceMethod yX2_addToBrand) (List.mem_of_getElem? (i := 2) rfl)), (hts (.selects RX2 yX2_addToBrand yX2_addToBrand) (List.mem_of_getElem? (i := 4) rfl))⟩ (bPV hk (va_recv hk.1 hP (ci := 2) (q0 := 3) rfl (wC_3 _ _ _ _))) rfl rfl hl.1 rfl (lv_room (Nat.le_of_ble_eq_true rfl)) dX4_swapBottles_18 ⟨Nat.zero_le _, Nat.zero_le _⟩) hS (fun H locs hP _ hS => ?_)
  refine lv_aload_n hx hb dX4_swapBottles_21 rfl (lv_at hl 0 rfl) ?_
  refine va_get (D := D) (ci := 4) (C := RX4) (T := TX4) (N := 2) hx hb hts iX4 hown hk.1 hP 1 (wC_1 _ _ _ _) rfl 0 (by decide) (hts (.fieldLink RX4 12 "BottleLoop$Trade" "state" "LBottleLoop$State;") (List.mem_of_getElem? (i := 1) rfl)) (fun _ h9 => h9) rfl dX4_swapBottles_22 ?_
  refine lv_iload_n hx hb dX4_swapBottles_25 rfl (lv_at hl 1 rfl) ?_
  refine lv_bipush (v := 11) hx hb dX4_swapBottles_26 (by decide) ?_
  refine lv_iload_n hx hb dX4_swapBottles_28 rfl (lv_at hl 3 rfl) ?_
  refine bcall_Wv (va_runVN (As := [.int a1, .int 11, .int a3]) (rest := []) ⟨hx, hb, hml, hown, hts⟩ (C2_addToBrand l D cI cO q _ _ hq hP a1 11 a3) ⟨va_cnB 3 hts gX4_swapBottles_X2_addToBrand_n54 rfl rfl rfl (hk.2 (.methodLinkNest RX4 54 yX2_addToBrand RX5) (List.mem_of_getElem? (i := 21) rfl)) (hts (.initialized RX2) (List.mem_of_getElem? (i := 3) rfl)) bd_X2addToBrand ⟨Nat.le_of_ble_eq_true rfl, Nat.le_of_ble_eq_true rfl⟩, (hts (.instanceMethod yX2_addToBrand) (List.mem_of_getElem? (i := 2) rfl)), (hts (.selects RX2 yX2_addToBrand yX2_addToBrand) (List.mem_of_getElem? (i := 4) rfl))⟩ (bPV hk (va_recv hk.1 hP (ci := 2) (q0 := 3) rfl (wC_3 _ _ _ _))) rfl rfl hl.1 rfl (lv_room (Nat.le_of_ble_eq_true rfl)) dX4_swapBottles_29 ⟨Nat.zero_le _, Nat.zero_le _⟩) hS (fun H locs hP _ hS => ?_)
  refine lv_aload_n hx hb dX4_swapBottles_32 rfl (lv_at hl 0 rfl) ?_
  refine va_get (D := D) (ci := 4) (C := RX4) (T := TX4) (N := 2) hx hb hts iX4 hown hk.1 hP 1 (wC_1 _ _ _ _) rfl 0 (by decide) (hts (.fieldLink RX4 12 "BottleLoop$Trade" "state" "LBottleLoop$State;") (List.mem_of_getElem? (i := 1) rfl)) (fun _ h9 => h9) rfl dX4_swapBottles_33 ?_
  refine lv_iload_n hx hb dX4_swapBottles_36 rfl (lv_at hl 2 rfl) ?_
  refine lv_bipush (v := 11) hx hb dX4_swapBottles_37 (by decide) ?_
  refine lv_iload_n hx hb dX4_swapBottles_39 rfl (lv_at hl 3 rfl) ?_
  refine lv_ineg hx hb dX4_swapBottles_40 ?_
  refine bcall_Wv (va_runVN (As := [.int a2, .int 11, .int (-a3)]) (rest := []) ⟨hx, hb, hml, hown, hts⟩ (C2_addToBrand l D cI cO q _ _ hq hP a2 11 (-a3)) ⟨va_cnB 3 hts gX4_swapBottles_X2_addToBrand_n54 rfl rfl rfl (hk.2 (.methodLinkNest RX4 54 yX2_addToBrand RX5) (List.mem_of_getElem? (i := 21) rfl)) (hts (.initialized RX2) (List.mem_of_getElem? (i := 3) rfl)) bd_X2addToBrand ⟨Nat.le_of_ble_eq_true rfl, Nat.le_of_ble_eq_true rfl⟩, (hts (.instanceMethod yX2_addToBrand) (List.mem_of_getElem? (i := 2) rfl)), (hts (.selects RX2 yX2_addToBrand yX2_addToBrand) (List.mem_of_getElem? (i := 4) rfl))⟩ (bPV hk (va_recv hk.1 hP (ci := 2) (q0 := 3) rfl (wC_3 _ _ _ _))) rfl rfl hl.1 rfl (lv_room (Nat.le_of_ble_eq_true rfl)) dX4_swapBottles_41 ⟨Nat.zero_le _, Nat.zero_le _⟩) hS (fun H locs hP _ hS => ?_)
  refine lv_aload_n hx hb dX4_swapBottles_44 rfl (lv_at hl 0 rfl) ?_
  refine va_get (D := D) (ci := 4) (C := RX4) (T := TX4) (N := 2) hx hb hts iX4 hown hk.1 hP 1 (wC_1 _ _ _ _) rfl 0 (by decide) (hts (.fieldLink RX4 12 "BottleLoop$Trade" "state" "LBottleLoop$State;") (List.mem_of_getElem? (i := 1) rfl)) (fun _ h9 => h9) rfl dX4_swapBottles_45 ?_
  refine lv_iload_n hx hb dX4_swapBottles_48 rfl (lv_at hl 1 rfl) ?_
  refine lv_iload_n hx hb dX4_swapBottles_49 rfl (lv_at hl 2 rfl) ?_
  refine lv_iload_n hx hb dX4_swapBottles_50 rfl (lv_at hl 3 rfl) ?_
  refine bcall_Wv (va_runVN (As := [.int a1, .int a2, .int a3]) (rest := []) ⟨hx, hb, hml, hown, hts⟩ (C2_addToSwaps l D cI cO q _ _ hq hP a1 a2 a3) ⟨va_cnB 3 hts gX4_swapBottles_X2_addToSwaps_n79 rfl rfl rfl (hk.2 (.methodLinkNest RX4 79 yX2_addToSwaps RX5) (List.mem_of_getElem? (i := 50) rfl)) (hts (.initialized RX2) (List.mem_of_getElem? (i := 3) rfl)) bd_X2addToSwaps ⟨Nat.le_of_ble_eq_true rfl, Nat.le_of_ble_eq_true rfl⟩, (hts (.instanceMethod yX2_addToSwaps) (List.mem_of_getElem? (i := 15) rfl)), (hts (.selects RX2 yX2_addToSwaps yX2_addToSwaps) (List.mem_of_getElem? (i := 16) rfl))⟩ (bPV hk (va_recv hk.1 hP (ci := 2) (q0 := 3) rfl (wC_3 _ _ _ _))) rfl rfl hl.1 rfl (lv_room (Nat.le_of_ble_eq_true rfl)) dX4_swapBottles_51 ⟨Nat.zero_le _, Nat.zero_le _⟩) hS (fun H locs hP _ hS => ?_)
  refine lv_aload_n hx hb dX4_swapBottles_54 rfl (lv_at hl 0 rfl) ?_
  refine va_get (D := D) (ci := 4) (C := RX4) (T := TX4) (N := 2) hx hb hts iX4 hown hk.1 hP 1 (wC_1 _ _ _ _) rfl 0 (by decide) (hts (.fieldLink RX4 12 "BottleLoop$Trade" "state" "LBottleLoop$State;") (List.mem_of_getElem? (i := 1) rfl)) (fun _ h9 => h9) rfl dX4_swapBottles_55 ?_
  refine lv_iload_n hx hb dX4_swapBottles_58 rfl (lv_at hl 2 rfl) ?_
  refine lv_iload_n hx hb dX4_swapBottles_59 rfl (lv_at hl 1 rfl) ?_
  refine lv_iload_n hx hb dX4_swapBottles_60 rfl (lv_at hl 3 rfl) ?_
  refine lv_ineg hx hb dX4_swapBottles_61 ?_
  refine bcall_Wv (va_runVN (As := [.int a2, .int a1, .int (-a3)]) (rest := []) ⟨hx, hb, hml, hown, hts⟩ (C2_addToSwaps l D cI cO q _ _ hq hP a2 a1 (-a3)) ⟨va_cnB 3 hts gX4_swapBottles_X2_addToSwaps_n79 rfl rfl rfl (hk.2 (.methodLinkNest RX4 79 yX2_addToSwaps RX5) (List.mem_of_getElem? (i := 50) rfl)) (hts (.initialized RX2) (List.mem_of_getElem? (i := 3) rfl)) bd_X2addToSwaps ⟨Nat.le_of_ble_eq_true rfl, Nat.le_of_ble_eq_true rfl⟩, (hts (.instanceMethod yX2_addToSwaps) (List.mem_of_getElem? (i := 15) rfl)), (hts (.selects RX2 yX2_addToSwaps yX2_addToSwaps) (List.mem_of_getElem? (i := 16) rfl))⟩ (bPV hk (va_recv hk.1 hP (ci := 2) (q0 := 3) rfl (wC_3 _ _ _ _))) rfl rfl hl.1 rfl (lv_room (Nat.le_of_ble_eq_true rfl)) dX4_swapBottles_62 ⟨Nat.zero_le _, Nat.zero_le _⟩) hS (fun H locs hP _ hS => ?_)
  refine lv_aload_n hx hb dX4_swapBottles_65 rfl (lv_at hl 0 rfl) ?_
  refine va_get (D := D) (ci := 4) (C := RX4) (T := TX4) (N := 2) hx hb hts iX4 hown hk.1 hP 1 (wC_1 _ _ _ _) rfl 0 (by decide) (hts (.fieldLink RX4 12 "BottleLoop$Trade" "state" "LBottleLoop$State;") (List.mem_of_getElem? (i := 1) rfl)) (fun _ h9 => h9) rfl dX4_swapBottles_66 ?_
  refine lv_iload_n hx hb dX4_swapBottles_69 rfl (lv_at hl 1 rfl) ?_
  refine lv_iload_n hx hb dX4_swapBottles_70 rfl (lv_at hl 2 rfl) ?_
  refine bcall_Ri (va_runVN (As := [.int a1, .int a2]) (rest := []) ⟨hx, hb, hml, hown, hts⟩ (C2_ofSwaps l D cI cO q _ _ hP a1 a2) ⟨va_cnB 2 hts gX4_swapBottles_X2_ofSwaps_n82 rfl rfl rfl (hk.2 (.methodLinkNest RX4 82 yX2_ofSwaps RX5) (List.mem_of_getElem? (i := 51) rfl)) (hts (.initialized RX2) (List.mem_of_getElem? (i := 3) rfl)) bd_X2ofSwaps ⟨Nat.le_of_ble_eq_true rfl, Nat.le_of_ble_eq_true rfl⟩, (hts (.instanceMethod yX2_ofSwaps) (List.mem_of_getElem? (i := 18) rfl)), (hts (.selects RX2 yX2_ofSwaps yX2_ofSwaps) (List.mem_of_getElem? (i := 19) rfl))⟩ (bPV hk (va_recv hk.1 hP (ci := 2) (q0 := 3) rfl (wC_3 _ _ _ _))) rfl rfl hl.1 rfl (lv_room (Nat.le_of_ble_eq_true rfl)) dX4_swapBottles_71 ⟨Nat.zero_le _, Nat.zero_le _⟩) hS (fun locs hS => ?_)
  exact bret_Wi hx hb hr hP trivial hS hlocks dX4_swapBottles_74 (by rw [← hF, F4_swapBottles])
def F4_mostDeliverable (u : bU) (a1 : Int32) (a2 : Int32) : Int32 := (if (F4_cratePrice u a1) ≤ 0 then (bmin (bmin (bmin ((F2_ofBrand u a1 2) / 12) (F2_ofAll u 2)) 50) 50) else (bmin (bmin (bmin ((F2_ofBrand u a1 2) / 12) (F2_ofAll u 2)) ((F2_ofShop u a2 0) / (F4_cratePrice u a1))) 50))
set_option maxHeartbeats 4000000 in
set_option maxRecDepth 100000 in
theorem C4_mostDeliverable (l : Launch) (D : va_G) (cI cO : ClassId) (q : Nat → Nat) (u : bU) (H0 : Heap) (hP : va_P D vwCl (wC cI cO q u) H0) (a1 : Int32) (a2 : Int32) : Met l yX4_mostDeliverable wsX4_mostDeliverable ({ frames := 4, cells := 0, slots := 0, locals := 84 }) (bP D [(cI, .int), (cO, .object RX2)] H0 [.ref (q 1), .int a1, .int a2]) (bRi H0 (F4_mostDeliverable u a1 a2)) 0 0 (fun _ => False) := by
  refine Met.ofW (cc := cX4_mostDeliverable) (maxL := 6) (ret := (some .int)) (by decide) rfl ?_
  intro p e s m args below meth c s₁ B hml hv
  obtain ⟨rfl, hH, hk⟩ := hv
  subst hH
  have hx := B.exec
  have hb := B.bytes
  have hr := B.returns
  have hts := atoms_spec (ws := wsX4_mostDeliverable) B.pre
  have hown : s.vm.findClass RX4 = some m.cls := findClass_of_methodNamed B.named
  have hlocks := B.notSynchronized
  have iX4 : ∀ w ∈ wsX40, w ∈ wsX4_mostDeliverable := by decide +kernel
  have hS : va_S (fun _ => False) s.heap s.heap [] := va_S.rf
  have hl := lv_entry ([.ref (q 1), .int a1, .int a2]) (n := 6) (Nat.le_of_ble_eq_true rfl)
  rw [lg_entry_eq]
  generalize (lg_sl ([.ref (q 1), .int a1, .int a2]) ++ List.replicate (6 - (lg_sl ([.ref (q 1), .int a1, .int a2])).length) Slot.unset).toArray = ls at hl ⊢
  have hl : lv_has ls 6 [(0, .ref (q 1)), (1, .int a1), (2, .int a2)] := hl
  generalize hF : F4_mostDeliverable u a1 a2 = tgt
  refine lv_aload_n hx hb dX4_mostDeliverable_0 rfl (lv_at hl 0 rfl) ?_
  refine lv_iload_n hx hb dX4_mostDeliverable_1 rfl (lv_at hl 1 rfl) ?_
  refine bcall_Ri (va_runV (As := [.int a1]) (rest := []) ⟨hx, hb, hml, hown, hts⟩ (C4_cratePrice l D cI cO q _ _ hP a1) (cwV 1 hts gX4_mostDeliverable_X4_cratePrice rfl rfl rfl ⟨rfl, bd_X4cratePrice⟩ ⟨Nat.le_of_ble_eq_true rfl, Nat.le_of_ble_eq_true rfl⟩) (bPV hk (va_recv hk.1 hP (ci := 4) (q0 := 1) rfl (wC_1 _ _ _ _))) rfl rfl hl.1 rfl (lv_room (Nat.le_of_ble_eq_true rfl)) dX4_mostDeliverable_2 ⟨Nat.zero_le _, Nat.zero_le _⟩) hS (fun locs hS => ?_)
  refine lv_istore_n (lv' := [(3, .int (F4_cratePrice u a1)), (0, .ref (q 1)), (1, .int a1), (2, .int a2)]) hx hb dX4_mostDeliverable_5 rfl hl (by decide) rfl (fun ls hl => ?_)
  refine lv_iload_n hx hb dX4_mostDeliverable_6 rfl (lv_at hl 0 rfl) ?_
  refine lv_if_le (tgt := 24) hx hb dX4_mostDeliverable_7 (by decide) (fun c_1 => ?_) (fun c_1 => ?_)
  · refine lv_bipush (v := 50) hx hb dX4_mostDeliverable_24 (by decide) ?_
    refine lv_istore (lv' := [(4, .int 50), (3, .int (F4_cratePrice u a1)), (0, .ref (q 1)), (1, .int a1), (2, .int a2)]) hx hb dX4_mostDeliverable_26 hl (by decide) rfl (fun ls hl => ?_)
    refine lv_aload_n hx hb dX4_mostDeliverable_28 rfl (lv_at hl 2 rfl) ?_
    refine va_get (D := D) (ci := 4) (C := RX4) (T := TX4) (N := 2) hx hb hts iX4 hown hk.1 hP 1 (wC_1 _ _ _ _) rfl 0 (by decide) (hts (.fieldLink RX4 12 "BottleLoop$Trade" "state" "LBottleLoop$State;") (List.mem_of_getElem? (i := 1) rfl)) (fun _ h9 => h9) rfl dX4_mostDeliverable_29 ?_
    refine lv_iload_n hx hb dX4_mostDeliverable_32 rfl (lv_at hl 3 rfl) ?_
    refine lv_iconst (v := 2) hx hb dX4_mostDeliverable_33 (by decide) ?_
    refine bcall_Ri (va_runVN (As := [.int a1, .int 2]) (rest := []) ⟨hx, hb, hml, hown, hts⟩ (C2_ofBrand l D cI cO q _ _ hP a1 2) ⟨va_cnB 2 hts gX4_mostDeliverable_X2_ofBrand_n22 rfl rfl rfl (hk.2 (.methodLinkNest RX4 22 yX2_ofBrand RX5) (List.mem_of_getElem? (i := 20) rfl)) (hts (.initialized RX2) (List.mem_of_getElem? (i := 12) rfl)) bd_X2ofBrand ⟨Nat.le_of_ble_eq_true rfl, Nat.le_of_ble_eq_true rfl⟩, (hts (.instanceMethod yX2_ofBrand) (List.mem_of_getElem? (i := 11) rfl)), (hts (.selects RX2 yX2_ofBrand yX2_ofBrand) (List.mem_of_getElem? (i := 13) rfl))⟩ (bPV hk (va_recv hk.1 hP (ci := 2) (q0 := 3) rfl (wC_3 _ _ _ _))) rfl rfl hl.1 rfl (lv_room (Nat.le_of_ble_eq_true rfl)) dX4_mostDeliverable_34 ⟨Nat.zero_le _, Nat.zero_le _⟩) hS (fun locs hS => ?_)
    refine lv_bipush (v := 12) hx hb dX4_mostDeliverable_37 (by decide) ?_
    refine lv_idiv hx hb dX4_mostDeliverable_39 (by decide) ?_
    refine lv_aload_n hx hb dX4_mostDeliverable_40 rfl (lv_at hl 2 rfl) ?_
    refine va_get (D := D) (ci := 4) (C := RX4) (T := TX4) (N := 2) hx hb hts iX4 hown hk.1 hP 1 (wC_1 _ _ _ _) rfl 0 (by decide) (hts (.fieldLink RX4 12 "BottleLoop$Trade" "state" "LBottleLoop$State;") (List.mem_of_getElem? (i := 1) rfl)) (fun _ h9 => h9) rfl dX4_mostDeliverable_41 ?_
    refine lv_iconst (v := 2) hx hb dX4_mostDeliverable_44 (by decide) ?_
    refine bcall_Ri (va_runVN (As := [.int 2]) (rest := [.int ((F2_ofBrand u a1 2) / 12)]) ⟨hx, hb, hml, hown, hts⟩ (C2_ofAll l D cI cO q _ _ hP 2) ⟨va_cnB 1 hts gX4_mostDeliverable_X2_ofAll_n33 rfl rfl rfl (hk.2 (.methodLinkNest RX4 33 yX2_ofAll RX5) (List.mem_of_getElem? (i := 31) rfl)) (hts (.initialized RX2) (List.mem_of_getElem? (i := 12) rfl)) bd_X2ofAll ⟨Nat.le_of_ble_eq_true rfl, Nat.le_of_ble_eq_true rfl⟩, (hts (.instanceMethod yX2_ofAll) (List.mem_of_getElem? (i := 30) rfl)), (hts (.selects RX2 yX2_ofAll yX2_ofAll) (List.mem_of_getElem? (i := 31) rfl))⟩ (bPV hk (va_recv hk.1 hP (ci := 2) (q0 := 3) rfl (wC_3 _ _ _ _))) rfl rfl hl.1 rfl (lv_room (Nat.le_of_ble_eq_true rfl)) dX4_mostDeliverable_45 ⟨Nat.zero_le _, Nat.zero_le _⟩) hS (fun locs hS => ?_)
    refine bcall_min hx hb (hml.trans hl.1.symm) hown (hts (.methodLink RX4 65 Lib.Math.min.name) (List.mem_of_getElem? (i := 2) rfl)) (hts (.static Lib.Math.min.name) (List.mem_of_getElem? (i := 3) rfl)) (hts (.initialized "java/lang/Math") (List.mem_of_getElem? (i := 4) rfl)) (hts (.code Lib.Math.min.name Lib.Math.min.code 2 (some .int)) (List.mem_of_getElem? (i := 5) rfl)) (Nat.le_of_ble_eq_true rfl) (Nat.le_of_ble_eq_true rfl) (Nat.zero_le _) (Nat.zero_le _) dX4_mostDeliverable_48 ?_
    refine lv_istore (lv' := [(5, .int (bmin ((F2_ofBrand u a1 2) / 12) (F2_ofAll u 2))), (4, .int 50), (3, .int (F4_cratePrice u a1)), (0, .ref (q 1)), (1, .int a1), (2, .int a2)]) hx hb dX4_mostDeliverable_51 hl (by decide) rfl (fun ls hl => ?_)
    refine lv_iload hx hb dX4_mostDeliverable_53 (lv_at hl 0 rfl) ?_
    refine lv_iload hx hb dX4_mostDeliverable_55 (lv_at hl 1 rfl) ?_
    refine bcall_min hx hb (hml.trans hl.1.symm) hown (hts (.methodLink RX4 65 Lib.Math.min.name) (List.mem_of_getElem? (i := 2) rfl)) (hts (.static Lib.Math.min.name) (List.mem_of_getElem? (i := 3) rfl)) (hts (.initialized "java/lang/Math") (List.mem_of_getElem? (i := 4) rfl)) (hts (.code Lib.Math.min.name Lib.Math.min.code 2 (some .int)) (List.mem_of_getElem? (i := 5) rfl)) (Nat.le_of_ble_eq_true rfl) (Nat.le_of_ble_eq_true rfl) (Nat.zero_le _) (Nat.zero_le _) dX4_mostDeliverable_57 ?_
    refine lv_bipush (v := 50) hx hb dX4_mostDeliverable_60 (by decide) ?_
    refine bcall_min hx hb (hml.trans hl.1.symm) hown (hts (.methodLink RX4 65 Lib.Math.min.name) (List.mem_of_getElem? (i := 2) rfl)) (hts (.static Lib.Math.min.name) (List.mem_of_getElem? (i := 3) rfl)) (hts (.initialized "java/lang/Math") (List.mem_of_getElem? (i := 4) rfl)) (hts (.code Lib.Math.min.name Lib.Math.min.code 2 (some .int)) (List.mem_of_getElem? (i := 5) rfl)) (Nat.le_of_ble_eq_true rfl) (Nat.le_of_ble_eq_true rfl) (Nat.zero_le _) (Nat.zero_le _) dX4_mostDeliverable_62 ?_
    exact bret_Ri hx hb hr hS hlocks dX4_mostDeliverable_65 (by rw [← hF, F4_mostDeliverable, if_pos c_1])
  · refine lv_aload_n hx hb dX4_mostDeliverable_10 rfl (lv_at hl 1 rfl) ?_
    refine va_get (D := D) (ci := 4) (C := RX4) (T := TX4) (N := 2) hx hb hts iX4 hown hk.1 hP 1 (wC_1 _ _ _ _) rfl 0 (by decide) (hts (.fieldLink RX4 12 "BottleLoop$Trade" "state" "LBottleLoop$State;") (List.mem_of_getElem? (i := 1) rfl)) (fun _ h9 => h9) rfl dX4_mostDeliverable_11 ?_
    refine lv_iload_n hx hb dX4_mostDeliverable_14 rfl (lv_at hl 3 rfl) ?_
    refine lv_iconst (v := 0) hx hb dX4_mostDeliverable_15 (by decide) ?_
    refine bcall_Ri (va_runVN (As := [.int a2, .int 0]) (rest := []) ⟨hx, hb, hml, hown, hts⟩ (C2_ofShop l D cI cO q _ _ hP a2 0) ⟨va_cnB 2 hts gX4_mostDeliverable_X2_ofShop_n36 rfl rfl rfl (hk.2 (.methodLinkNest RX4 36 yX2_ofShop RX5) (List.mem_of_getElem? (i := 26) rfl)) (hts (.initialized RX2) (List.mem_of_getElem? (i := 12) rfl)) bd_X2ofShop ⟨Nat.le_of_ble_eq_true rfl, Nat.le_of_ble_eq_true rfl⟩, (hts (.instanceMethod yX2_ofShop) (List.mem_of_getElem? (i := 27) rfl)), (hts (.selects RX2 yX2_ofShop yX2_ofShop) (List.mem_of_getElem? (i := 28) rfl))⟩ (bPV hk (va_recv hk.1 hP (ci := 2) (q0 := 3) rfl (wC_3 _ _ _ _))) rfl rfl hl.1 rfl (lv_room (Nat.le_of_ble_eq_true rfl)) dX4_mostDeliverable_16 ⟨Nat.zero_le _, Nat.zero_le _⟩) hS (fun locs hS => ?_)
    refine lv_iload_n hx hb dX4_mostDeliverable_19 rfl (lv_at hl 0 rfl) ?_
    refine lv_idiv hx hb dX4_mostDeliverable_20 (bNleNe c_1) ?_
    refine lv_goto (tgt := 26) hx hb dX4_mostDeliverable_21 (by decide) ?_
    refine lv_istore (lv' := [(4, .int ((F2_ofShop u a2 0) / (F4_cratePrice u a1))), (3, .int (F4_cratePrice u a1)), (0, .ref (q 1)), (1, .int a1), (2, .int a2)]) hx hb dX4_mostDeliverable_26 hl (by decide) rfl (fun ls hl => ?_)
    refine lv_aload_n hx hb dX4_mostDeliverable_28 rfl (lv_at hl 2 rfl) ?_
    refine va_get (D := D) (ci := 4) (C := RX4) (T := TX4) (N := 2) hx hb hts iX4 hown hk.1 hP 1 (wC_1 _ _ _ _) rfl 0 (by decide) (hts (.fieldLink RX4 12 "BottleLoop$Trade" "state" "LBottleLoop$State;") (List.mem_of_getElem? (i := 1) rfl)) (fun _ h9 => h9) rfl dX4_mostDeliverable_29 ?_
    refine lv_iload_n hx hb dX4_mostDeliverable_32 rfl (lv_at hl 3 rfl) ?_
    refine lv_iconst (v := 2) hx hb dX4_mostDeliverable_33 (by decide) ?_
    refine bcall_Ri (va_runVN (As := [.int a1, .int 2]) (rest := []) ⟨hx, hb, hml, hown, hts⟩ (C2_ofBrand l D cI cO q _ _ hP a1 2) ⟨va_cnB 2 hts gX4_mostDeliverable_X2_ofBrand_n22 rfl rfl rfl (hk.2 (.methodLinkNest RX4 22 yX2_ofBrand RX5) (List.mem_of_getElem? (i := 20) rfl)) (hts (.initialized RX2) (List.mem_of_getElem? (i := 12) rfl)) bd_X2ofBrand ⟨Nat.le_of_ble_eq_true rfl, Nat.le_of_ble_eq_true rfl⟩, (hts (.instanceMethod yX2_ofBrand) (List.mem_of_getElem? (i := 11) rfl)), (hts (.selects RX2 yX2_ofBrand yX2_ofBrand) (List.mem_of_getElem? (i := 13) rfl))⟩ (bPV hk (va_recv hk.1 hP (ci := 2) (q0 := 3) rfl (wC_3 _ _ _ _))) rfl rfl hl.1 rfl (lv_room (Nat.le_of_ble_eq_true rfl)) dX4_mostDeliverable_34 ⟨Nat.zero_le _, Nat.zero_le _⟩) hS (fun locs hS => ?_)
    refine lv_bipush (v := 12) hx hb dX4_mostDeliverable_37 (by decide) ?_
    refine lv_idiv hx hb dX4_mostDeliverable_39 (by decide) ?_
    refine lv_aload_n hx hb dX4_mostDeliverable_40 rfl (lv_at hl 2 rfl) ?_
    refine va_get (D := D) (ci := 4) (C := RX4) (T := TX4) (N := 2) hx hb hts iX4 hown hk.1 hP 1 (wC_1 _ _ _ _) rfl 0 (by decide) (hts (.fieldLink RX4 12 "BottleLoop$Trade" "state" "LBottleLoop$State;") (List.mem_of_getElem? (i := 1) rfl)) (fun _ h9 => h9) rfl dX4_mostDeliverable_41 ?_
    refine lv_iconst (v := 2) hx hb dX4_mostDeliverable_44 (by decide) ?_
    refine bcall_Ri (va_runVN (As := [.int 2]) (rest := [.int ((F2_ofBrand u a1 2) / 12)]) ⟨hx, hb, hml, hown, hts⟩ (C2_ofAll l D cI cO q _ _ hP 2) ⟨va_cnB 1 hts gX4_mostDeliverable_X2_ofAll_n33 rfl rfl rfl (hk.2 (.methodLinkNest RX4 33 yX2_ofAll RX5) (List.mem_of_getElem? (i := 31) rfl)) (hts (.initialized RX2) (List.mem_of_getElem? (i := 12) rfl)) bd_X2ofAll ⟨Nat.le_of_ble_eq_true rfl, Nat.le_of_ble_eq_true rfl⟩, (hts (.instanceMethod yX2_ofAll) (List.mem_of_getElem? (i := 30) rfl)), (hts (.selects RX2 yX2_ofAll yX2_ofAll) (List.mem_of_getElem? (i := 31) rfl))⟩ (bPV hk (va_recv hk.1 hP (ci := 2) (q0 := 3) rfl (wC_3 _ _ _ _))) rfl rfl hl.1 rfl (lv_room (Nat.le_of_ble_eq_true rfl)) dX4_mostDeliverable_45 ⟨Nat.zero_le _, Nat.zero_le _⟩) hS (fun locs hS => ?_)
    refine bcall_min hx hb (hml.trans hl.1.symm) hown (hts (.methodLink RX4 65 Lib.Math.min.name) (List.mem_of_getElem? (i := 2) rfl)) (hts (.static Lib.Math.min.name) (List.mem_of_getElem? (i := 3) rfl)) (hts (.initialized "java/lang/Math") (List.mem_of_getElem? (i := 4) rfl)) (hts (.code Lib.Math.min.name Lib.Math.min.code 2 (some .int)) (List.mem_of_getElem? (i := 5) rfl)) (Nat.le_of_ble_eq_true rfl) (Nat.le_of_ble_eq_true rfl) (Nat.zero_le _) (Nat.zero_le _) dX4_mostDeliverable_48 ?_
    refine lv_istore (lv' := [(5, .int (bmin ((F2_ofBrand u a1 2) / 12) (F2_ofAll u 2))), (4, .int ((F2_ofShop u a2 0) / (F4_cratePrice u a1))), (3, .int (F4_cratePrice u a1)), (0, .ref (q 1)), (1, .int a1), (2, .int a2)]) hx hb dX4_mostDeliverable_51 hl (by decide) rfl (fun ls hl => ?_)
    refine lv_iload hx hb dX4_mostDeliverable_53 (lv_at hl 0 rfl) ?_
    refine lv_iload hx hb dX4_mostDeliverable_55 (lv_at hl 1 rfl) ?_
    refine bcall_min hx hb (hml.trans hl.1.symm) hown (hts (.methodLink RX4 65 Lib.Math.min.name) (List.mem_of_getElem? (i := 2) rfl)) (hts (.static Lib.Math.min.name) (List.mem_of_getElem? (i := 3) rfl)) (hts (.initialized "java/lang/Math") (List.mem_of_getElem? (i := 4) rfl)) (hts (.code Lib.Math.min.name Lib.Math.min.code 2 (some .int)) (List.mem_of_getElem? (i := 5) rfl)) (Nat.le_of_ble_eq_true rfl) (Nat.le_of_ble_eq_true rfl) (Nat.zero_le _) (Nat.zero_le _) dX4_mostDeliverable_57 ?_
    refine lv_bipush (v := 50) hx hb dX4_mostDeliverable_60 (by decide) ?_
    refine bcall_min hx hb (hml.trans hl.1.symm) hown (hts (.methodLink RX4 65 Lib.Math.min.name) (List.mem_of_getElem? (i := 2) rfl)) (hts (.static Lib.Math.min.name) (List.mem_of_getElem? (i := 3) rfl)) (hts (.initialized "java/lang/Math") (List.mem_of_getElem? (i := 4) rfl)) (hts (.code Lib.Math.min.name Lib.Math.min.code 2 (some .int)) (List.mem_of_getElem? (i := 5) rfl)) (Nat.le_of_ble_eq_true rfl) (Nat.le_of_ble_eq_true rfl) (Nat.zero_le _) (Nat.zero_le _) dX4_mostDeliverable_62 ?_
    exact bret_Ri hx hb hr hS hlocks dX4_mostDeliverable_65 (by rw [← hF, F4_mostDeliverable, if_neg c_1])
def F4_mostCollectable (u : bU) (a1 : Int32) (a2 : Int32) : Int32 := (bmin (bmin ((F4_emptiesOf u a1 a2) / 12) (F2_ofShop u a1 1)) 50)
set_option maxHeartbeats 4000000 in
set_option maxRecDepth 100000 in
theorem C4_mostCollectable (l : Launch) (D : va_G) (cI cO : ClassId) (q : Nat → Nat) (u : bU) (H0 : Heap) (hP : va_P D vwCl (wC cI cO q u) H0) (a1 : Int32) (a2 : Int32) : Met l yX4_mostCollectable wsX4_mostCollectable ({ frames := 3, cells := 0, slots := 0, locals := 67 }) (bP D [(cI, .int), (cO, .object RX2)] H0 [.ref (q 1), .int a1, .int a2]) (bRi H0 (F4_mostCollectable u a1 a2)) 0 0 (fun _ => False) := by
  refine Met.ofW (cc := cX4_mostCollectable) (maxL := 4) (ret := (some .int)) (by decide) rfl ?_
  intro p e s m args below meth c s₁ B hml hv
  obtain ⟨rfl, hH, hk⟩ := hv
  subst hH
  have hx := B.exec
  have hb := B.bytes
  have hr := B.returns
  have hts := atoms_spec (ws := wsX4_mostCollectable) B.pre
  have hown : s.vm.findClass RX4 = some m.cls := findClass_of_methodNamed B.named
  have hlocks := B.notSynchronized
  have iX4 : ∀ w ∈ wsX40, w ∈ wsX4_mostCollectable := by decide +kernel
  have hS : va_S (fun _ => False) s.heap s.heap [] := va_S.rf
  have hl := lv_entry ([.ref (q 1), .int a1, .int a2]) (n := 4) (Nat.le_of_ble_eq_true rfl)
  rw [lg_entry_eq]
  generalize (lg_sl ([.ref (q 1), .int a1, .int a2]) ++ List.replicate (4 - (lg_sl ([.ref (q 1), .int a1, .int a2])).length) Slot.unset).toArray = ls at hl ⊢
  have hl : lv_has ls 4 [(0, .ref (q 1)), (1, .int a1), (2, .int a2)] := hl
  generalize hF : F4_mostCollectable u a1 a2 = tgt
  refine lv_aload_n hx hb dX4_mostCollectable_0 rfl (lv_at hl 0 rfl) ?_
  refine lv_iload_n hx hb dX4_mostCollectable_1 rfl (lv_at hl 1 rfl) ?_
  refine lv_iload_n hx hb dX4_mostCollectable_2 rfl (lv_at hl 2 rfl) ?_
  refine bcall_Ri (va_runV (As := [.int a1, .int a2]) (rest := []) ⟨hx, hb, hml, hown, hts⟩ (C4_emptiesOf l D cI cO q _ _ hP a1 a2) (cwV 2 hts gX4_mostCollectable_X4_emptiesOf rfl rfl rfl ⟨rfl, bd_X4emptiesOf⟩ ⟨Nat.le_of_ble_eq_true rfl, Nat.le_of_ble_eq_true rfl⟩) (bPV hk (va_recv hk.1 hP (ci := 4) (q0 := 1) rfl (wC_1 _ _ _ _))) rfl rfl hl.1 rfl (lv_room (Nat.le_of_ble_eq_true rfl)) dX4_mostCollectable_3 ⟨Nat.zero_le _, Nat.zero_le _⟩) hS (fun locs hS => ?_)
  refine lv_bipush (v := 12) hx hb dX4_mostCollectable_6 (by decide) ?_
  refine lv_idiv hx hb dX4_mostCollectable_8 (by decide) ?_
  refine lv_aload_n hx hb dX4_mostCollectable_9 rfl (lv_at hl 0 rfl) ?_
  refine va_get (D := D) (ci := 4) (C := RX4) (T := TX4) (N := 2) hx hb hts iX4 hown hk.1 hP 1 (wC_1 _ _ _ _) rfl 0 (by decide) (hts (.fieldLink RX4 12 "BottleLoop$Trade" "state" "LBottleLoop$State;") (List.mem_of_getElem? (i := 1) rfl)) (fun _ h9 => h9) rfl dX4_mostCollectable_10 ?_
  refine lv_iload_n hx hb dX4_mostCollectable_13 rfl (lv_at hl 1 rfl) ?_
  refine lv_iconst (v := 1) hx hb dX4_mostCollectable_14 (by decide) ?_
  refine bcall_Ri (va_runVN (As := [.int a1, .int 1]) (rest := [.int ((F4_emptiesOf u a1 a2) / 12)]) ⟨hx, hb, hml, hown, hts⟩ (C2_ofShop l D cI cO q _ _ hP a1 1) ⟨va_cnB 2 hts gX4_mostCollectable_X2_ofShop_n36 rfl rfl rfl (hk.2 (.methodLinkNest RX4 36 yX2_ofShop RX5) (List.mem_of_getElem? (i := 26) rfl)) (hts (.initialized RX2) (List.mem_of_getElem? (i := 12) rfl)) bd_X2ofShop ⟨Nat.le_of_ble_eq_true rfl, Nat.le_of_ble_eq_true rfl⟩, (hts (.instanceMethod yX2_ofShop) (List.mem_of_getElem? (i := 20) rfl)), (hts (.selects RX2 yX2_ofShop yX2_ofShop) (List.mem_of_getElem? (i := 21) rfl))⟩ (bPV hk (va_recv hk.1 hP (ci := 2) (q0 := 3) rfl (wC_3 _ _ _ _))) rfl rfl hl.1 rfl (lv_room (Nat.le_of_ble_eq_true rfl)) dX4_mostCollectable_15 ⟨Nat.zero_le _, Nat.zero_le _⟩) hS (fun locs hS => ?_)
  refine bcall_min hx hb (hml.trans hl.1.symm) hown (hts (.methodLink RX4 65 Lib.Math.min.name) (List.mem_of_getElem? (i := 2) rfl)) (hts (.static Lib.Math.min.name) (List.mem_of_getElem? (i := 3) rfl)) (hts (.initialized "java/lang/Math") (List.mem_of_getElem? (i := 4) rfl)) (hts (.code Lib.Math.min.name Lib.Math.min.code 2 (some .int)) (List.mem_of_getElem? (i := 5) rfl)) (Nat.le_of_ble_eq_true rfl) (Nat.le_of_ble_eq_true rfl) (Nat.zero_le _) (Nat.zero_le _) dX4_mostCollectable_18 ?_
  refine lv_istore_n (lv' := [(3, .int (bmin ((F4_emptiesOf u a1 a2) / 12) (F2_ofShop u a1 1))), (0, .ref (q 1)), (1, .int a1), (2, .int a2)]) hx hb dX4_mostCollectable_21 rfl hl (by decide) rfl (fun ls hl => ?_)
  refine lv_iload_n hx hb dX4_mostCollectable_22 rfl (lv_at hl 0 rfl) ?_
  refine lv_bipush (v := 50) hx hb dX4_mostCollectable_23 (by decide) ?_
  refine bcall_min hx hb (hml.trans hl.1.symm) hown (hts (.methodLink RX4 65 Lib.Math.min.name) (List.mem_of_getElem? (i := 2) rfl)) (hts (.static Lib.Math.min.name) (List.mem_of_getElem? (i := 3) rfl)) (hts (.initialized "java/lang/Math") (List.mem_of_getElem? (i := 4) rfl)) (hts (.code Lib.Math.min.name Lib.Math.min.code 2 (some .int)) (List.mem_of_getElem? (i := 5) rfl)) (Nat.le_of_ble_eq_true rfl) (Nat.le_of_ble_eq_true rfl) (Nat.zero_le _) (Nat.zero_le _) dX4_mostCollectable_25 ?_
  exact bret_Ri hx hb hr hS hlocks dX4_mostCollectable_28 (by rw [← hF, F4_mostCollectable])
def F4_wouldCollect (u : bU) (a1 : Int32) (a2 : Int32) (a3 : Int32) : Int32 × bU := (if (F4_collectReason u a1 (F2_ofBrand u a2 0) a3) = 0 then ((F4_pickedOf (F4_pickEmpties u a1 (F2_ofBrand u a2 0) (12 * a3)) a1 a2), (F4_pickEmpties u a1 (F2_ofBrand u a2 0) (12 * a3))) else ((-1), u))
set_option maxHeartbeats 4000000 in
set_option maxRecDepth 100000 in
theorem C4_wouldCollect (l : Launch) (D : va_G) (cI cO : ClassId) (q : Nat → Nat) (u : bU) (H0 : Heap) (hq : bInj 23 q) (hP : va_P D vwCl (wC cI cO q u) H0) (a1 : Int32) (a2 : Int32) (a3 : Int32) : Met l yX4_wouldCollect wsX4_wouldCollect ({ frames := 4, cells := 0, slots := 0, locals := 90 }) (bP D [(cI, .int), (cO, .object RX2)] H0 [.ref (q 1), .int a1, .int a2, .int a3]) (bWi D (wC cI cO q) bT (bA 23 q H0.size) (F4_wouldCollect u a1 a2 a3)) 0 0 (bA 23 q H0.size) := by
  refine Met.ofW (cc := cX4_wouldCollect) (maxL := 5) (ret := (some .int)) (by decide) rfl ?_
  intro p e s m args below meth c s₁ B hml hv
  obtain ⟨rfl, hH, hk⟩ := hv
  subst hH
  have hx := B.exec
  have hb := B.bytes
  have hr := B.returns
  have hts := atoms_spec (ws := wsX4_wouldCollect) B.pre
  have hown : s.vm.findClass RX4 = some m.cls := findClass_of_methodNamed B.named
  have hlocks := B.notSynchronized
  have iX4 : ∀ w ∈ wsX40, w ∈ wsX4_wouldCollect := by decide +kernel
  have hS : va_S (bA 23 q s.heap.size) s.heap s.heap [] := va_S.rf
  have hl := lv_entry ([.ref (q 1), .int a1, .int a2, .int a3]) (n := 5) (Nat.le_of_ble_eq_true rfl)
  rw [lg_entry_eq]
  generalize (lg_sl ([.ref (q 1), .int a1, .int a2, .int a3]) ++ List.replicate (5 - (lg_sl ([.ref (q 1), .int a1, .int a2, .int a3])).length) Slot.unset).toArray = ls at hl ⊢
  have hl : lv_has ls 5 [(0, .ref (q 1)), (1, .int a1), (2, .int a2), (3, .int a3)] := hl
  generalize hF : F4_wouldCollect u a1 a2 a3 = tgt
  refine lv_aload_n hx hb dX4_wouldCollect_0 rfl (lv_at hl 0 rfl) ?_
  refine va_get (D := D) (ci := 4) (C := RX4) (T := TX4) (N := 2) hx hb hts iX4 hown hk.1 hP 1 (wC_1 _ _ _ _) rfl 0 (by decide) (hts (.fieldLink RX4 12 "BottleLoop$Trade" "state" "LBottleLoop$State;") (List.mem_of_getElem? (i := 1) rfl)) (fun _ h9 => h9) rfl dX4_wouldCollect_1 ?_
  refine lv_iload_n hx hb dX4_wouldCollect_4 rfl (lv_at hl 2 rfl) ?_
  refine lv_iconst (v := 0) hx hb dX4_wouldCollect_5 (by decide) ?_
  refine bcall_Ri (va_runVN (As := [.int a2, .int 0]) (rest := []) ⟨hx, hb, hml, hown, hts⟩ (C2_ofBrand l D cI cO q _ _ hP a2 0) ⟨va_cnB 2 hts gX4_wouldCollect_X2_ofBrand_n22 rfl rfl rfl (hk.2 (.methodLinkNest RX4 22 yX2_ofBrand RX5) (List.mem_of_getElem? (i := 20) rfl)) (hts (.initialized RX2) (List.mem_of_getElem? (i := 3) rfl)) bd_X2ofBrand ⟨Nat.le_of_ble_eq_true rfl, Nat.le_of_ble_eq_true rfl⟩, (hts (.instanceMethod yX2_ofBrand) (List.mem_of_getElem? (i := 2) rfl)), (hts (.selects RX2 yX2_ofBrand yX2_ofBrand) (List.mem_of_getElem? (i := 4) rfl))⟩ (bPV hk (va_recv hk.1 hP (ci := 2) (q0 := 3) rfl (wC_3 _ _ _ _))) rfl rfl hl.1 rfl (lv_room (Nat.le_of_ble_eq_true rfl)) dX4_wouldCollect_6 ⟨Nat.zero_le _, Nat.zero_le _⟩) hS (fun locs hS => ?_)
  refine lv_istore (lv' := [(4, .int (F2_ofBrand u a2 0)), (0, .ref (q 1)), (1, .int a1), (2, .int a2), (3, .int a3)]) hx hb dX4_wouldCollect_9 hl (by decide) rfl (fun ls hl => ?_)
  refine lv_aload_n hx hb dX4_wouldCollect_11 rfl (lv_at hl 1 rfl) ?_
  refine lv_iload_n hx hb dX4_wouldCollect_12 rfl (lv_at hl 2 rfl) ?_
  refine lv_iload hx hb dX4_wouldCollect_13 (lv_at hl 0 rfl) ?_
  refine lv_iload_n hx hb dX4_wouldCollect_15 rfl (lv_at hl 4 rfl) ?_
  refine bcall_Ri (va_runV (As := [.int a1, .int (F2_ofBrand u a2 0), .int a3]) (rest := []) ⟨hx, hb, hml, hown, hts⟩ (C4_collectReason l D cI cO q _ _ hP a1 (F2_ofBrand u a2 0) a3) (cwV 3 hts gX4_wouldCollect_X4_collectReason rfl rfl rfl ⟨rfl, bd_X4collectReason⟩ ⟨Nat.le_of_ble_eq_true rfl, Nat.le_of_ble_eq_true rfl⟩) (bPV hk (va_recv hk.1 hP (ci := 4) (q0 := 1) rfl (wC_1 _ _ _ _))) rfl rfl hl.1 rfl (lv_room (Nat.le_of_ble_eq_true rfl)) dX4_wouldCollect_16 ⟨Nat.zero_le _, Nat.zero_le _⟩) hS (fun locs hS => ?_)
  refine lv_if_eq (tgt := 24) hx hb dX4_wouldCollect_19 (by decide) (fun c_1 => ?_) (fun c_1 => ?_)
  · refine lv_aload_n hx hb dX4_wouldCollect_24 rfl (lv_at hl 1 rfl) ?_
    refine lv_iload_n hx hb dX4_wouldCollect_25 rfl (lv_at hl 2 rfl) ?_
    refine lv_iload hx hb dX4_wouldCollect_26 (lv_at hl 0 rfl) ?_
    refine lv_bipush (v := 12) hx hb dX4_wouldCollect_28 (by decide) ?_
    refine lv_iload_n hx hb dX4_wouldCollect_30 rfl (lv_at hl 4 rfl) ?_
    refine lv_imul hx hb dX4_wouldCollect_31 ?_
    refine bcall_Wv (va_runV (As := [.int a1, .int (F2_ofBrand u a2 0), .int (12 * a3)]) (rest := []) ⟨hx, hb, hml, hown, hts⟩ (C4_pickEmpties l D cI cO q _ _ hq hP a1 (F2_ofBrand u a2 0) (12 * a3)) (cwV 3 hts gX4_wouldCollect_X4_pickEmpties rfl rfl rfl ⟨rfl, bd_X4pickEmpties⟩ ⟨Nat.le_of_ble_eq_true rfl, Nat.le_of_ble_eq_true rfl⟩) (bPV hk (va_recv hk.1 hP (ci := 4) (q0 := 1) rfl (wC_1 _ _ _ _))) rfl rfl hl.1 rfl (lv_room (Nat.le_of_ble_eq_true rfl)) dX4_wouldCollect_32 ⟨Nat.zero_le _, Nat.zero_le _⟩) hS (fun H locs hP _ hS => ?_)
    refine lv_aload_n hx hb dX4_wouldCollect_35 rfl (lv_at hl 1 rfl) ?_
    refine lv_iload_n hx hb dX4_wouldCollect_36 rfl (lv_at hl 2 rfl) ?_
    refine lv_iload_n hx hb dX4_wouldCollect_37 rfl (lv_at hl 3 rfl) ?_
    refine bcall_Ri (va_runV (As := [.int a1, .int a2]) (rest := []) ⟨hx, hb, hml, hown, hts⟩ (C4_pickedOf l D cI cO q _ _ hP a1 a2) (cwV 2 hts gX4_wouldCollect_X4_pickedOf rfl rfl rfl ⟨rfl, bd_X4pickedOf⟩ ⟨Nat.le_of_ble_eq_true rfl, Nat.le_of_ble_eq_true rfl⟩) (bPV hk (va_recv hk.1 hP (ci := 4) (q0 := 1) rfl (wC_1 _ _ _ _))) rfl rfl hl.1 rfl (lv_room (Nat.le_of_ble_eq_true rfl)) dX4_wouldCollect_38 ⟨Nat.zero_le _, Nat.zero_le _⟩) hS (fun locs hS => ?_)
    exact bret_Wi hx hb hr hP trivial hS hlocks dX4_wouldCollect_41 (by rw [← hF, F4_wouldCollect, if_pos c_1])
  · refine lv_iconst (v := (-1)) hx hb dX4_wouldCollect_22 (by decide) ?_
    exact bret_Wi hx hb hr hP trivial hS hlocks dX4_wouldCollect_23 (by rw [← hF, F4_wouldCollect, if_neg c_1])
def L4_bestToCollect_7 (u : bU) (a1 : Int32) : Nat → Nat → Int32 → Int32 → Int32 × Int32
  | 0, _, x2_7, x3_7 => (x2_7, x3_7)
  | n7 + 1, j7, x2_7, x3_7 => (if (6 : Int32) ≤ (nI j7) then (x2_7, x3_7) else (if (F4_mostCollectable u (nI j7) a1) ≤ x3_7 then (L4_bestToCollect_7 u a1 n7 (j7 + 1) x2_7 x3_7) else (L4_bestToCollect_7 u a1 n7 (j7 + 1) (nI j7) (F4_mostCollectable u (nI j7) a1))))
def F4_bestToCollect (u : bU) (a1 : Int32) : Int32 := (L4_bestToCollect_7 u a1 (6 + 1) 0 (-1) 0).1
set_option maxHeartbeats 4000000 in
set_option maxRecDepth 100000 in
theorem C4_bestToCollect (l : Launch) (D : va_G) (cI cO : ClassId) (q : Nat → Nat) (u : bU) (H0 : Heap) (hP : va_P D vwCl (wC cI cO q u) H0) (a1 : Int32) : Met l yX4_bestToCollect wsX4_bestToCollect ({ frames := 4, cells := 0, slots := 0, locals := 90 }) (bP D [(cI, .int), (cO, .object RX2)] H0 [.ref (q 1), .int a1]) (bRi H0 (F4_bestToCollect u a1)) 0 0 (fun _ => False) := by
  refine Met.ofW (cc := cX4_bestToCollect) (maxL := 6) (ret := (some .int)) (by decide) rfl ?_
  intro p e s m args below meth c s₁ B hml hv
  obtain ⟨rfl, hH, hk⟩ := hv
  subst hH
  have hx := B.exec
  have hb := B.bytes
  have hr := B.returns
  have hts := atoms_spec (ws := wsX4_bestToCollect) B.pre
  have hown : s.vm.findClass RX4 = some m.cls := findClass_of_methodNamed B.named
  have hlocks := B.notSynchronized
  have hS : va_S (fun _ => False) s.heap s.heap [] := va_S.rf
  have hl := lv_entry ([.ref (q 1), .int a1]) (n := 6) (Nat.le_of_ble_eq_true rfl)
  rw [lg_entry_eq]
  generalize (lg_sl ([.ref (q 1), .int a1]) ++ List.replicate (6 - (lg_sl ([.ref (q 1), .int a1])).length) Slot.unset).toArray = ls at hl ⊢
  have hl : lv_has ls 6 [(0, .ref (q 1)), (1, .int a1)] := hl
  generalize hF : F4_bestToCollect u a1 = tgt
  refine lv_iconst (v := (-1)) hx hb dX4_bestToCollect_0 (by decide) ?_
  refine lv_istore_n (lv' := [(2, .int (-1)), (0, .ref (q 1)), (1, .int a1)]) hx hb dX4_bestToCollect_1 rfl hl (by decide) rfl (fun ls hl => ?_)
  refine lv_iconst (v := 0) hx hb dX4_bestToCollect_2 (by decide) ?_
  refine lv_istore_n (lv' := [(3, .int 0), (2, .int (-1)), (0, .ref (q 1)), (1, .int a1)]) hx hb dX4_bestToCollect_3 rfl hl (by decide) rfl (fun ls hl => ?_)
  refine lv_iconst (v := 0) hx hb dX4_bestToCollect_4 (by decide) ?_
  refine lv_istore (lv' := [(4, .int 0), (3, .int 0), (2, .int (-1)), (0, .ref (q 1)), (1, .int a1)]) hx hb dX4_bestToCollect_5 hl (by decide) rfl (fun ls hl => ?_)
  have loop7 : ∀ (n7 j7 : Nat) (x2_7 : Int32) (x3_7 : Int32) (locs : List Loc) (ls : Array Slot), j7 ≤ 6 → 6 + 1 ≤ n7 + j7 → lv_has ls 6 [(0, .ref (q 1)), (1, .int a1), (2, .int x2_7), (3, .int x3_7), (4, .int (nI j7))] → va_S (fun _ => False) s.heap s.heap locs → ∀ X : Int32 × Int32, L4_bestToCollect_7 u a1  n7 j7 x2_7 x3_7 = X → (∀ (locs : List Loc) (ls : Array Slot), lv_has ls 6 [(0, .ref (q 1)), (1, .int a1), (2, .int X.1), (3, .int X.2)] → va_S (fun _ => False) s.heap s.heap locs → W p l e (headSpec wsX4_bestToCollect ({ frames := 4, cells := 0, slots := 0, locals := 90 })).room s m ([.ref (q 1), .int a1] : List Value).toArray below meth c s.heap locs 0 0 (MQ below (bRi s.heap tgt) ([.ref (q 1), .int a1] : List Value).toArray s 0 0 (fun _ => False)) (F0 m 41 ls [])) → W p l e (headSpec wsX4_bestToCollect ({ frames := 4, cells := 0, slots := 0, locals := 90 })).room s m ([.ref (q 1), .int a1] : List Value).toArray below meth c s.heap locs 0 0 (MQ below (bRi s.heap tgt) ([.ref (q 1), .int a1] : List Value).toArray s 0 0 (fun _ => False)) (F0 m 7 ls []) := by
    intro n7
    induction n7 with
    | zero => intro j7 x2_7 x3_7 locs ls hj hn; exact absurd hn (by omega)
    | succ n7 ih =>
      intro j7 x2_7 x3_7 locs ls hj hn hl hS X hF kx
      refine lv_iload hx hb dX4_bestToCollect_7 (lv_at hl 4 rfl) ?_
      refine lv_bipush (v := 6) hx hb dX4_bestToCollect_9 (by decide) ?_
      refine lv_icmp_ge (tgt := 41) hx hb dX4_bestToCollect_11 (by decide) (fun c_1 => ?_) (fun c_1 => ?_)
      · obtain rfl : X = (x2_7, x3_7) := by rw [← hF, L4_bestToCollect_7, if_pos c_1]
        exact kx _ _ (lv_sub hl [0, 1, 2, 3] rfl) hS
      · have hlt_2 : j7 < 6 := bLt c_1 (by omega) (by decide)
        refine lv_aload_n hx hb dX4_bestToCollect_14 rfl (lv_at hl 0 rfl) ?_
        refine lv_iload hx hb dX4_bestToCollect_15 (lv_at hl 4 rfl) ?_
        refine lv_iload_n hx hb dX4_bestToCollect_17 rfl (lv_at hl 1 rfl) ?_
        refine bcall_Ri (va_runV (As := [.int (nI j7), .int a1]) (rest := []) ⟨hx, hb, hml, hown, hts⟩ (C4_mostCollectable l D cI cO q _ _ hP (nI j7) a1) (cwV 2 hts gX4_bestToCollect_X4_mostCollectable rfl rfl rfl ⟨rfl, bd_X4mostCollectable⟩ ⟨Nat.le_of_ble_eq_true rfl, Nat.le_of_ble_eq_true rfl⟩) (bPV hk (va_recv hk.1 hP (ci := 4) (q0 := 1) rfl (wC_1 _ _ _ _))) rfl rfl hl.1 rfl (lv_room (Nat.le_of_ble_eq_true rfl)) dX4_bestToCollect_18 ⟨Nat.zero_le _, Nat.zero_le _⟩) hS (fun locs hS => ?_)
        refine lv_istore (lv' := [(5, .int (F4_mostCollectable u (nI j7) a1)), (0, .ref (q 1)), (1, .int a1), (2, .int x2_7), (3, .int x3_7), (4, .int (nI j7))]) hx hb dX4_bestToCollect_21 hl (by decide) rfl (fun ls hl => ?_)
        refine lv_iload hx hb dX4_bestToCollect_23 (lv_at hl 0 rfl) ?_
        refine lv_iload_n hx hb dX4_bestToCollect_25 rfl (lv_at hl 4 rfl) ?_
        refine lv_icmp_le (tgt := 35) hx hb dX4_bestToCollect_26 (by decide) (fun c_3 => ?_) (fun c_3 => ?_)
        · refine lv_iinc (v := (nI (j7 + 1))) (lv' := [(4, .int (nI (j7 + 1))), (5, .int (F4_mostCollectable u (nI j7) a1)), (0, .ref (q 1)), (1, .int a1), (2, .int x2_7), (3, .int x3_7)]) hx hb dX4_bestToCollect_35 hl (k := 5) rfl (bInc j7) (by decide) rfl (fun ls hl => ?_)
          refine lv_goto (tgt := 7) hx hb dX4_bestToCollect_38 (by decide) ?_
          exact ih (j7 + 1) x2_7 x3_7 _ _ (by omega) (by omega) (lv_sub hl [2, 3, 4, 5, 0] rfl) hS X (by rw [← hF, L4_bestToCollect_7, if_neg c_1, if_pos c_3]) kx
        · refine lv_iload hx hb dX4_bestToCollect_29 (lv_at hl 0 rfl) ?_
          refine lv_istore_n (lv' := [(3, .int (F4_mostCollectable u (nI j7) a1)), (5, .int (F4_mostCollectable u (nI j7) a1)), (0, .ref (q 1)), (1, .int a1), (2, .int x2_7), (4, .int (nI j7))]) hx hb dX4_bestToCollect_31 rfl hl (by decide) rfl (fun ls hl => ?_)
          refine lv_iload hx hb dX4_bestToCollect_32 (lv_at hl 5 rfl) ?_
          refine lv_istore_n (lv' := [(2, .int (nI j7)), (3, .int (F4_mostCollectable u (nI j7) a1)), (5, .int (F4_mostCollectable u (nI j7) a1)), (0, .ref (q 1)), (1, .int a1), (4, .int (nI j7))]) hx hb dX4_bestToCollect_34 rfl hl (by decide) rfl (fun ls hl => ?_)
          refine lv_iinc (v := (nI (j7 + 1))) (lv' := [(4, .int (nI (j7 + 1))), (2, .int (nI j7)), (3, .int (F4_mostCollectable u (nI j7) a1)), (5, .int (F4_mostCollectable u (nI j7) a1)), (0, .ref (q 1)), (1, .int a1)]) hx hb dX4_bestToCollect_35 hl (k := 5) rfl (bInc j7) (by decide) rfl (fun ls hl => ?_)
          refine lv_goto (tgt := 7) hx hb dX4_bestToCollect_38 (by decide) ?_
          exact ih (j7 + 1) (nI j7) (F4_mostCollectable u (nI j7) a1) _ _ (by omega) (by omega) (lv_sub hl [4, 5, 1, 2, 0] rfl) hS X (by rw [← hF, L4_bestToCollect_7, if_neg c_1, if_neg c_3]) kx
  refine loop7 (6 + 1) 0 (-1) 0 _ _ (by omega) (by omega) (lv_sub hl [3, 4, 2, 1, 0] rfl) hS _ rfl (fun locs ls hl hS => ?_)
  refine lv_iload_n hx hb dX4_bestToCollect_41 rfl (lv_at hl 2 rfl) ?_
  exact bret_Ri hx hb hr hS hlocks dX4_bestToCollect_42 (by rw [← hF, F4_bestToCollect])

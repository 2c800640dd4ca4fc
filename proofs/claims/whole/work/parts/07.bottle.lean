theorem bd_X0letter : yX0_letter.cls ≠ "java/lang/invoke/MethodHandle" ∧ yX0_letter.cls ≠ "java/lang/invoke/VarHandle" ∧ (parseMethodDescriptor yX0_letter.desc).map (fun d => d.parameters.length) = some 0 := by decide +kernel
theorem bd_X2shopNumber : yX2_shopNumber.cls ≠ "java/lang/invoke/MethodHandle" ∧ yX2_shopNumber.cls ≠ "java/lang/invoke/VarHandle" ∧ (parseMethodDescriptor yX2_shopNumber.desc).map (fun d => d.parameters.length) = some 2 := by decide +kernel
theorem bd_X3length : yX3_length.cls ≠ "java/lang/invoke/MethodHandle" ∧ yX3_length.cls ≠ "java/lang/invoke/VarHandle" ∧ (parseMethodDescriptor yX3_length.desc).map (fun d => d.parameters.length) = some 0 := by decide +kernel
theorem bd_X4breakBottles : yX4_breakBottles.cls ≠ "java/lang/invoke/MethodHandle" ∧ yX4_breakBottles.cls ≠ "java/lang/invoke/VarHandle" ∧ (parseMethodDescriptor yX4_breakBottles.desc).map (fun d => d.parameters.length) = some 3 := by decide +kernel
theorem bd_X4breakReason : yX4_breakReason.cls ≠ "java/lang/invoke/MethodHandle" ∧ yX4_breakReason.cls ≠ "java/lang/invoke/VarHandle" ∧ (parseMethodDescriptor yX4_breakReason.desc).map (fun d => d.parameters.length) = some 3 := by decide +kernel
theorem bd_X4collectCrates : yX4_collectCrates.cls ≠ "java/lang/invoke/MethodHandle" ∧ yX4_collectCrates.cls ≠ "java/lang/invoke/VarHandle" ∧ (parseMethodDescriptor yX4_collectCrates.desc).map (fun d => d.parameters.length) = some 3 := by decide +kernel
theorem bd_X4deliverCrates : yX4_deliverCrates.cls ≠ "java/lang/invoke/MethodHandle" ∧ yX4_deliverCrates.cls ≠ "java/lang/invoke/VarHandle" ∧ (parseMethodDescriptor yX4_deliverCrates.desc).map (fun d => d.parameters.length) = some 3 := by decide +kernel
theorem bd_X4deliverReason : yX4_deliverReason.cls ≠ "java/lang/invoke/MethodHandle" ∧ yX4_deliverReason.cls ≠ "java/lang/invoke/VarHandle" ∧ (parseMethodDescriptor yX4_deliverReason.desc).map (fun d => d.parameters.length) = some 3 := by decide +kernel
theorem bd_X4mostDeliverable : yX4_mostDeliverable.cls ≠ "java/lang/invoke/MethodHandle" ∧ yX4_mostDeliverable.cls ≠ "java/lang/invoke/VarHandle" ∧ (parseMethodDescriptor yX4_mostDeliverable.desc).map (fun d => d.parameters.length) = some 2 := by decide +kernel
theorem bd_X4returnBottles : yX4_returnBottles.cls ≠ "java/lang/invoke/MethodHandle" ∧ yX4_returnBottles.cls ≠ "java/lang/invoke/VarHandle" ∧ (parseMethodDescriptor yX4_returnBottles.desc).map (fun d => d.parameters.length) = some 3 := by decide +kernel
theorem bd_X4returnReason : yX4_returnReason.cls ≠ "java/lang/invoke/MethodHandle" ∧ yX4_returnReason.cls ≠ "java/lang/invoke/VarHandle" ∧ (parseMethodDescriptor yX4_returnReason.desc).map (fun d => d.parameters.length) = some 3 := by decide +kernel
theorem bd_X4sellBottles : yX4_sellBottles.cls ≠ "java/lang/invoke/MethodHandle" ∧ yX4_sellBottles.cls ≠ "java/lang/invoke/VarHandle" ∧ (parseMethodDescriptor yX4_sellBottles.desc).map (fun d => d.parameters.length) = some 3 := by decide +kernel
theorem bd_X4sellReason : yX4_sellReason.cls ≠ "java/lang/invoke/MethodHandle" ∧ yX4_sellReason.cls ≠ "java/lang/invoke/VarHandle" ∧ (parseMethodDescriptor yX4_sellReason.desc).map (fun d => d.parameters.length) = some 3 := by decide +kernel
theorem bd_X5areThere : yX5_areThere.cls ≠ "java/lang/invoke/MethodHandle" ∧ yX5_areThere.cls ≠ "java/lang/invoke/VarHandle" ∧ (parseMethodDescriptor yX5_areThere.desc).map (fun d => d.parameters.length) = some 2 := by decide +kernel
theorem bd_X5isBrand : yX5_isBrand.cls ≠ "java/lang/invoke/MethodHandle" ∧ yX5_isBrand.cls ≠ "java/lang/invoke/VarHandle" ∧ (parseMethodDescriptor yX5_isBrand.desc).map (fun d => d.parameters.length) = some 1 := by decide +kernel
theorem bd_X5isShop : yX5_isShop.cls ≠ "java/lang/invoke/MethodHandle" ∧ yX5_isShop.cls ≠ "java/lang/invoke/VarHandle" ∧ (parseMethodDescriptor yX5_isShop.desc).map (fun d => d.parameters.length) = some 1 := by decide +kernel
theorem bd_X5isShopNumber : yX5_isShopNumber.cls ≠ "java/lang/invoke/MethodHandle" ∧ yX5_isShopNumber.cls ≠ "java/lang/invoke/VarHandle" ∧ (parseMethodDescriptor yX5_isShopNumber.desc).map (fun d => d.parameters.length) = some 1 := by decide +kernel
theorem bd_X5mixed : yX5_mixed.cls ≠ "java/lang/invoke/MethodHandle" ∧ yX5_mixed.cls ≠ "java/lang/invoke/VarHandle" ∧ (parseMethodDescriptor yX5_mixed.desc).map (fun d => d.parameters.length) = some 2 := by decide +kernel
def F5_isBrand (u : bU) (a1 : Int32) : Int32 := (if a1 < 0 then 0 else (if (F2_ofAll u 0) ≤ a1 then 0 else 1))
set_option maxHeartbeats 4000000 in
set_option maxRecDepth 100000 in
theorem C5_isBrand (l : Launch) (D : va_G) (cI cO : ClassId) (q : Nat → Nat) (u : bU) (H0 : Heap) (hP : va_P D vwCl (wC cI cO q u) H0) (a1 : Int32) : Met l yX5_isBrand wsX5_isBrand ({ frames := 2, cells := 0, slots := 0, locals := 42 }) (bP D [(cI, .int), (cO, .object RX2)] H0 [.ref (q 0), .int a1]) (bRi H0 (F5_isBrand u a1)) 0 0 (fun _ => False) := by
  refine Met.ofW (cc := cX5_isBrand) (maxL := 2) (ret := (some .boolean)) (by decide) rfl ?_
  intro p e s m args below meth c s₁ B hml hv
  obtain ⟨rfl, hH, hk⟩ := hv
  subst hH
  have hx := B.exec
  have hb := B.bytes
  have hr := B.returns
  have hts := atoms_spec (ws := wsX5_isBrand) B.pre
  have hown : s.vm.findClass RX5 = some m.cls := findClass_of_methodNamed B.named
  have hlocks := B.notSynchronized
  have iX5 : ∀ w ∈ wsX50, w ∈ wsX5_isBrand := by decide +kernel
  have hS : va_S (fun _ => False) s.heap s.heap [] := va_S.rf
  have hl := lv_entry ([.ref (q 0), .int a1]) (n := 2) (Nat.le_of_ble_eq_true rfl)
  rw [lg_entry_eq]
  generalize (lg_sl ([.ref (q 0), .int a1]) ++ List.replicate (2 - (lg_sl ([.ref (q 0), .int a1])).length) Slot.unset).toArray = ls at hl ⊢
  have hl : lv_has ls 2 [(0, .ref (q 0)), (1, .int a1)] := hl
  generalize hF : F5_isBrand u a1 = tgt
  refine lv_iload_n hx hb dX5_isBrand_0 rfl (lv_at hl 1 rfl) ?_
  refine lv_if_lt (tgt := 20) hx hb dX5_isBrand_1 (by decide) (fun c_1 => ?_) (fun c_1 => ?_)
  · refine lv_iconst (v := 0) hx hb dX5_isBrand_20 (by decide) ?_
    exact bret_Rz hx hb hr hS hlocks dX5_isBrand_21 (Or.inl rfl) (by rw [← hF, F5_isBrand, if_pos c_1])
  · refine lv_iload_n hx hb dX5_isBrand_4 rfl (lv_at hl 1 rfl) ?_
    refine lv_aload_n hx hb dX5_isBrand_5 rfl (lv_at hl 0 rfl) ?_
    refine va_get (D := D) (ci := 5) (C := RX5) (T := TX5) (N := 5) hx hb hts iX5 hown hk.1 hP 0 (wC_0 _ _ _ _) rfl 0 (by decide) (hts (.fieldLink RX5 20 "BottleLoop" "now" "LBottleLoop$State;") (List.mem_of_getElem? (i := 1) rfl)) (fun _ h9 => h9) rfl dX5_isBrand_6 ?_
    refine lv_iconst (v := 0) hx hb dX5_isBrand_9 (by decide) ?_
    refine bcall_Ri (va_runVN (As := [.int 0]) (rest := [.int a1]) ⟨hx, hb, hml, hown, hts⟩ (C2_ofAll l D cI cO q _ _ hP 0) ⟨va_cnB 1 hts gX5_isBrand_X2_ofAll_n52 rfl rfl rfl (hk.2 (.methodLinkNest RX5 52 yX2_ofAll RX5) (List.mem_of_getElem? (i := 18) rfl)) (hts (.initialized RX2) (List.mem_of_getElem? (i := 3) rfl)) bd_X2ofAll ⟨Nat.le_of_ble_eq_true rfl, Nat.le_of_ble_eq_true rfl⟩, (hts (.instanceMethod yX2_ofAll) (List.mem_of_getElem? (i := 2) rfl)), (hts (.selects RX2 yX2_ofAll yX2_ofAll) (List.mem_of_getElem? (i := 4) rfl))⟩ (bPV hk (va_recv hk.1 hP (ci := 2) (q0 := 3) rfl (wC_3 _ _ _ _))) rfl rfl hl.1 rfl (lv_room (Nat.le_of_ble_eq_true rfl)) dX5_isBrand_10 ⟨Nat.zero_le _, Nat.zero_le _⟩) hS (fun locs hS => ?_)
    refine lv_icmp_ge (tgt := 20) hx hb dX5_isBrand_13 (by decide) (fun c_2 => ?_) (fun c_2 => ?_)
    · refine lv_iconst (v := 0) hx hb dX5_isBrand_20 (by decide) ?_
      exact bret_Rz hx hb hr hS hlocks dX5_isBrand_21 (Or.inl rfl) (by rw [← hF, F5_isBrand, if_neg c_1, if_pos c_2])
    · refine lv_iconst (v := 1) hx hb dX5_isBrand_16 (by decide) ?_
      refine lv_goto (tgt := 21) hx hb dX5_isBrand_17 (by decide) ?_
      exact bret_Rz hx hb hr hS hlocks dX5_isBrand_21 (Or.inr rfl) (by rw [← hF, F5_isBrand, if_neg c_1, if_neg c_2])
theorem B5_isBrand (u : bU) (a1 : Int32) : (F5_isBrand u a1) = 0 ∨ (F5_isBrand u a1) = 1 := by
  unfold F5_isBrand
  (repeat' split) <;> first | exact Or.inl rfl | exact Or.inr rfl
def F5_isShop (u : bU) (a1 : Int32) : Int32 := (if a1 < 0 then 0 else (if (F2_ofAll u 1) ≤ a1 then 0 else 1))
set_option maxHeartbeats 4000000 in
set_option maxRecDepth 100000 in
theorem C5_isShop (l : Launch) (D : va_G) (cI cO : ClassId) (q : Nat → Nat) (u : bU) (H0 : Heap) (hP : va_P D vwCl (wC cI cO q u) H0) (a1 : Int32) : Met l yX5_isShop wsX5_isShop ({ frames := 2, cells := 0, slots := 0, locals := 42 }) (bP D [(cI, .int), (cO, .object RX2)] H0 [.ref (q 0), .int a1]) (bRi H0 (F5_isShop u a1)) 0 0 (fun _ => False) := by
  refine Met.ofW (cc := cX5_isShop) (maxL := 2) (ret := (some .boolean)) (by decide) rfl ?_
  intro p e s m args below meth c s₁ B hml hv
  obtain ⟨rfl, hH, hk⟩ := hv
  subst hH
  have hx := B.exec
  have hb := B.bytes
  have hr := B.returns
  have hts := atoms_spec (ws := wsX5_isShop) B.pre
  have hown : s.vm.findClass RX5 = some m.cls := findClass_of_methodNamed B.named
  have hlocks := B.notSynchronized
  have iX5 : ∀ w ∈ wsX50, w ∈ wsX5_isShop := by decide +kernel
  have hS : va_S (fun _ => False) s.heap s.heap [] := va_S.rf
  have hl := lv_entry ([.ref (q 0), .int a1]) (n := 2) (Nat.le_of_ble_eq_true rfl)
  rw [lg_entry_eq]
  generalize (lg_sl ([.ref (q 0), .int a1]) ++ List.replicate (2 - (lg_sl ([.ref (q 0), .int a1])).length) Slot.unset).toArray = ls at hl ⊢
  have hl : lv_has ls 2 [(0, .ref (q 0)), (1, .int a1)] := hl
  generalize hF : F5_isShop u a1 = tgt
  refine lv_iload_n hx hb dX5_isShop_0 rfl (lv_at hl 1 rfl) ?_
  refine lv_if_lt (tgt := 20) hx hb dX5_isShop_1 (by decide) (fun c_1 => ?_) (fun c_1 => ?_)
  · refine lv_iconst (v := 0) hx hb dX5_isShop_20 (by decide) ?_
    exact bret_Rz hx hb hr hS hlocks dX5_isShop_21 (Or.inl rfl) (by rw [← hF, F5_isShop, if_pos c_1])
  · refine lv_iload_n hx hb dX5_isShop_4 rfl (lv_at hl 1 rfl) ?_
    refine lv_aload_n hx hb dX5_isShop_5 rfl (lv_at hl 0 rfl) ?_
    refine va_get (D := D) (ci := 5) (C := RX5) (T := TX5) (N := 5) hx hb hts iX5 hown hk.1 hP 0 (wC_0 _ _ _ _) rfl 0 (by decide) (hts (.fieldLink RX5 20 "BottleLoop" "now" "LBottleLoop$State;") (List.mem_of_getElem? (i := 1) rfl)) (fun _ h9 => h9) rfl dX5_isShop_6 ?_
    refine lv_iconst (v := 1) hx hb dX5_isShop_9 (by decide) ?_
    refine bcall_Ri (va_runVN (As := [.int 1]) (rest := [.int a1]) ⟨hx, hb, hml, hown, hts⟩ (C2_ofAll l D cI cO q _ _ hP 1) ⟨va_cnB 1 hts gX5_isShop_X2_ofAll_n52 rfl rfl rfl (hk.2 (.methodLinkNest RX5 52 yX2_ofAll RX5) (List.mem_of_getElem? (i := 18) rfl)) (hts (.initialized RX2) (List.mem_of_getElem? (i := 3) rfl)) bd_X2ofAll ⟨Nat.le_of_ble_eq_true rfl, Nat.le_of_ble_eq_true rfl⟩, (hts (.instanceMethod yX2_ofAll) (List.mem_of_getElem? (i := 2) rfl)), (hts (.selects RX2 yX2_ofAll yX2_ofAll) (List.mem_of_getElem? (i := 4) rfl))⟩ (bPV hk (va_recv hk.1 hP (ci := 2) (q0 := 3) rfl (wC_3 _ _ _ _))) rfl rfl hl.1 rfl (lv_room (Nat.le_of_ble_eq_true rfl)) dX5_isShop_10 ⟨Nat.zero_le _, Nat.zero_le _⟩) hS (fun locs hS => ?_)
    refine lv_icmp_ge (tgt := 20) hx hb dX5_isShop_13 (by decide) (fun c_2 => ?_) (fun c_2 => ?_)
    · refine lv_iconst (v := 0) hx hb dX5_isShop_20 (by decide) ?_
      exact bret_Rz hx hb hr hS hlocks dX5_isShop_21 (Or.inl rfl) (by rw [← hF, F5_isShop, if_neg c_1, if_pos c_2])
    · refine lv_iconst (v := 1) hx hb dX5_isShop_16 (by decide) ?_
      refine lv_goto (tgt := 21) hx hb dX5_isShop_17 (by decide) ?_
      exact bret_Rz hx hb hr hS hlocks dX5_isShop_21 (Or.inr rfl) (by rw [← hF, F5_isShop, if_neg c_1, if_neg c_2])
theorem B5_isShop (u : bU) (a1 : Int32) : (F5_isShop u a1) = 0 ∨ (F5_isShop u a1) = 1 := by
  unfold F5_isShop
  (repeat' split) <;> first | exact Or.inl rfl | exact Or.inr rfl
def F5_isShopNumber (a1 : Int32) : Int32 := (if a1 < 0 then (if a1 < (10 : Int32) then (if a1 < (20 : Int32) then 0 else (if (28 : Int32) ≤ a1 then 0 else 1)) else (if a1 < (18 : Int32) then 1 else (if a1 < (20 : Int32) then 0 else (if (28 : Int32) ≤ a1 then 0 else 1)))) else (if a1 ≤ (6 : Int32) then 1 else (if a1 < (10 : Int32) then (if a1 < (20 : Int32) then 0 else (if (28 : Int32) ≤ a1 then 0 else 1)) else (if a1 < (18 : Int32) then 1 else (if a1 < (20 : Int32) then 0 else (if (28 : Int32) ≤ a1 then 0 else 1))))))
set_option maxHeartbeats 4000000 in
set_option maxRecDepth 100000 in
theorem C5_isShopNumber (l : Launch) (D : va_G) (cI cO : ClassId) (q : Nat → Nat) (H0 : Heap) (a1 : Int32) : Met l yX5_isShopNumber wsX5_isShopNumber ({ frames := 0, cells := 0, slots := 0, locals := 0 }) (bP D [(cI, .int), (cO, .object RX2)] H0 [.int a1]) (bRi H0 (F5_isShopNumber a1)) 0 0 (fun _ => False) := by
  refine Met.ofW (cc := cX5_isShopNumber) (maxL := 1) (ret := (some .boolean)) (by decide) rfl ?_
  intro p e s m args below meth c s₁ B hml hv
  obtain ⟨rfl, hH, hk⟩ := hv
  subst hH
  have hx := B.exec
  have hb := B.bytes
  have hr := B.returns
  have hts := atoms_spec (ws := wsX5_isShopNumber) B.pre
  have hown : s.vm.findClass RX5 = some m.cls := findClass_of_methodNamed B.named
  have hlocks := B.notSynchronized
  have hS : va_S (fun _ => False) s.heap s.heap [] := va_S.rf
  have hl := lv_entry ([.int a1]) (n := 1) (Nat.le_of_ble_eq_true rfl)
  rw [lg_entry_eq]
  generalize (lg_sl ([.int a1]) ++ List.replicate (1 - (lg_sl ([.int a1])).length) Slot.unset).toArray = ls at hl ⊢
  have hl : lv_has ls 1 [(0, .int a1)] := hl
  generalize hF : F5_isShopNumber a1 = tgt
  refine lv_iload_n hx hb dX5_isShopNumber_0 rfl (lv_at hl 0 rfl) ?_
  refine lv_if_lt (tgt := 10) hx hb dX5_isShopNumber_1 (by decide) (fun c_1 => ?_) (fun c_1 => ?_)
  · refine lv_iload_n hx hb dX5_isShopNumber_10 rfl (lv_at hl 0 rfl) ?_
    refine lv_bipush (v := 10) hx hb dX5_isShopNumber_11 (by decide) ?_
    refine lv_icmp_lt (tgt := 22) hx hb dX5_isShopNumber_13 (by decide) (fun c_2 => ?_) (fun c_2 => ?_)
    · refine lv_iload_n hx hb dX5_isShopNumber_22 rfl (lv_at hl 0 rfl) ?_
      refine lv_bipush (v := 20) hx hb dX5_isShopNumber_23 (by decide) ?_
      refine lv_icmp_lt (tgt := 38) hx hb dX5_isShopNumber_25 (by decide) (fun c_3 => ?_) (fun c_3 => ?_)
      · refine lv_iconst (v := 0) hx hb dX5_isShopNumber_38 (by decide) ?_
        exact bret_Rz hx hb hr hS hlocks dX5_isShopNumber_39 (Or.inl rfl) (by rw [← hF, F5_isShopNumber, if_pos c_1, if_pos c_2, if_pos c_3])
      · refine lv_iload_n hx hb dX5_isShopNumber_28 rfl (lv_at hl 0 rfl) ?_
        refine lv_bipush (v := 28) hx hb dX5_isShopNumber_29 (by decide) ?_
        refine lv_icmp_ge (tgt := 38) hx hb dX5_isShopNumber_31 (by decide) (fun c_4 => ?_) (fun c_4 => ?_)
        · refine lv_iconst (v := 0) hx hb dX5_isShopNumber_38 (by decide) ?_
          exact bret_Rz hx hb hr hS hlocks dX5_isShopNumber_39 (Or.inl rfl) (by rw [← hF, F5_isShopNumber, if_pos c_1, if_pos c_2, if_neg c_3, if_pos c_4])
        · refine lv_iconst (v := 1) hx hb dX5_isShopNumber_34 (by decide) ?_
          refine lv_goto (tgt := 39) hx hb dX5_isShopNumber_35 (by decide) ?_
          exact bret_Rz hx hb hr hS hlocks dX5_isShopNumber_39 (Or.inr rfl) (by rw [← hF, F5_isShopNumber, if_pos c_1, if_pos c_2, if_neg c_3, if_neg c_4])
    · refine lv_iload_n hx hb dX5_isShopNumber_16 rfl (lv_at hl 0 rfl) ?_
      refine lv_bipush (v := 18) hx hb dX5_isShopNumber_17 (by decide) ?_
      refine lv_icmp_lt (tgt := 34) hx hb dX5_isShopNumber_19 (by decide) (fun c_5 => ?_) (fun c_5 => ?_)
      · refine lv_iconst (v := 1) hx hb dX5_isShopNumber_34 (by decide) ?_
        refine lv_goto (tgt := 39) hx hb dX5_isShopNumber_35 (by decide) ?_
        exact bret_Rz hx hb hr hS hlocks dX5_isShopNumber_39 (Or.inr rfl) (by rw [← hF, F5_isShopNumber, if_pos c_1, if_neg c_2, if_pos c_5])
      · refine lv_iload_n hx hb dX5_isShopNumber_22 rfl (lv_at hl 0 rfl) ?_
        refine lv_bipush (v := 20) hx hb dX5_isShopNumber_23 (by decide) ?_
        refine lv_icmp_lt (tgt := 38) hx hb dX5_isShopNumber_25 (by decide) (fun c_6 => ?_) (fun c_6 => ?_)
        · refine lv_iconst (v := 0) hx hb dX5_isShopNumber_38 (by decide) ?_
          exact bret_Rz hx hb hr hS hlocks dX5_isShopNumber_39 (Or.inl rfl) (by rw [← hF, F5_isShopNumber, if_pos c_1, if_neg c_2, if_neg c_5, if_pos c_6])
        · refine lv_iload_n hx hb dX5_isShopNumber_28 rfl (lv_at hl 0 rfl) ?_
          refine lv_bipush (v := 28) hx hb dX5_isShopNumber_29 (by decide) ?_
          refine lv_icmp_ge (tgt := 38) hx hb dX5_isShopNumber_31 (by decide) (fun c_7 => ?_) (fun c_7 => ?_)
          · refine lv_iconst (v := 0) hx hb dX5_isShopNumber_38 (by decide) ?_
            exact bret_Rz hx hb hr hS hlocks dX5_isShopNumber_39 (Or.inl rfl) (by rw [← hF, F5_isShopNumber, if_pos c_1, if_neg c_2, if_neg c_5, if_neg c_6, if_pos c_7])
          · refine lv_iconst (v := 1) hx hb dX5_isShopNumber_34 (by decide) ?_
            refine lv_goto (tgt := 39) hx hb dX5_isShopNumber_35 (by decide) ?_
            exact bret_Rz hx hb hr hS hlocks dX5_isShopNumber_39 (Or.inr rfl) (by rw [← hF, F5_isShopNumber, if_pos c_1, if_neg c_2, if_neg c_5, if_neg c_6, if_neg c_7])
  · refine lv_iload_n hx hb dX5_isShopNumber_4 rfl (lv_at hl 0 rfl) ?_
    refine lv_bipush (v := 6) hx hb dX5_isShopNumber_5 (by decide) ?_
    refine lv_icmp_le (tgt := 34) hx hb dX5_isShopNumber_7 (by decide) (fun c_8 => ?_) (fun c_8 => ?_)
    · refine lv_iconst (v := 1) hx hb dX5_isShopNumber_34 (by decide) ?_
      refine lv_goto (tgt := 39) hx hb dX5_isShopNumber_35 (by decide) ?_
      exact bret_Rz hx hb hr hS hlocks dX5_isShopNumber_39 (Or.inr rfl) (by rw [← hF, F5_isShopNumber, if_neg c_1, if_pos c_8])
    · refine lv_iload_n hx hb dX5_isShopNumber_10 rfl (lv_at hl 0 rfl) ?_
      refine lv_bipush (v := 10) hx hb dX5_isShopNumber_11 (by decide) ?_
      refine lv_icmp_lt (tgt := 22) hx hb dX5_isShopNumber_13 (by decide) (fun c_9 => ?_) (fun c_9 => ?_)
      · refine lv_iload_n hx hb dX5_isShopNumber_22 rfl (lv_at hl 0 rfl) ?_
        refine lv_bipush (v := 20) hx hb dX5_isShopNumber_23 (by decide) ?_
        refine lv_icmp_lt (tgt := 38) hx hb dX5_isShopNumber_25 (by decide) (fun c_10 => ?_) (fun c_10 => ?_)
        · refine lv_iconst (v := 0) hx hb dX5_isShopNumber_38 (by decide) ?_
          exact bret_Rz hx hb hr hS hlocks dX5_isShopNumber_39 (Or.inl rfl) (by rw [← hF, F5_isShopNumber, if_neg c_1, if_neg c_8, if_pos c_9, if_pos c_10])
        · refine lv_iload_n hx hb dX5_isShopNumber_28 rfl (lv_at hl 0 rfl) ?_
          refine lv_bipush (v := 28) hx hb dX5_isShopNumber_29 (by decide) ?_
          refine lv_icmp_ge (tgt := 38) hx hb dX5_isShopNumber_31 (by decide) (fun c_11 => ?_) (fun c_11 => ?_)
          · refine lv_iconst (v := 0) hx hb dX5_isShopNumber_38 (by decide) ?_
            exact bret_Rz hx hb hr hS hlocks dX5_isShopNumber_39 (Or.inl rfl) (by rw [← hF, F5_isShopNumber, if_neg c_1, if_neg c_8, if_pos c_9, if_neg c_10, if_pos c_11])
          · refine lv_iconst (v := 1) hx hb dX5_isShopNumber_34 (by decide) ?_
            refine lv_goto (tgt := 39) hx hb dX5_isShopNumber_35 (by decide) ?_
            exact bret_Rz hx hb hr hS hlocks dX5_isShopNumber_39 (Or.inr rfl) (by rw [← hF, F5_isShopNumber, if_neg c_1, if_neg c_8, if_pos c_9, if_neg c_10, if_neg c_11])
      · refine lv_iload_n hx hb dX5_isShopNumber_16 rfl (lv_at hl 0 rfl) ?_
        refine lv_bipush (v := 18) hx hb dX5_isShopNumber_17 (by decide) ?_
        refine lv_icmp_lt (tgt := 34) hx hb dX5_isShopNumber_19 (by decide) (fun c_12 => ?_) (fun c_12 => ?_)
        · refine lv_iconst (v := 1) hx hb dX5_isShopNumber_34 (by decide) ?_
          refine lv_goto (tgt := 39) hx hb dX5_isShopNumber_35 (by decide) ?_
          exact bret_Rz hx hb hr hS hlocks dX5_isShopNumber_39 (Or.inr rfl) (by rw [← hF, F5_isShopNumber, if_neg c_1, if_neg c_8, if_neg c_9, if_pos c_12])
        · refine lv_iload_n hx hb dX5_isShopNumber_22 rfl (lv_at hl 0 rfl) ?_
          refine lv_bipush (v := 20) hx hb dX5_isShopNumber_23 (by decide) ?_
          refine lv_icmp_lt (tgt := 38) hx hb dX5_isShopNumber_25 (by decide) (fun c_13 => ?_) (fun c_13 => ?_)
          · refine lv_iconst (v := 0) hx hb dX5_isShopNumber_38 (by decide) ?_
            exact bret_Rz hx hb hr hS hlocks dX5_isShopNumber_39 (Or.inl rfl) (by rw [← hF, F5_isShopNumber, if_neg c_1, if_neg c_8, if_neg c_9, if_neg c_12, if_pos c_13])
          · refine lv_iload_n hx hb dX5_isShopNumber_28 rfl (lv_at hl 0 rfl) ?_
            refine lv_bipush (v := 28) hx hb dX5_isShopNumber_29 (by decide) ?_
            refine lv_icmp_ge (tgt := 38) hx hb dX5_isShopNumber_31 (by decide) (fun c_14 => ?_) (fun c_14 => ?_)
            · refine lv_iconst (v := 0) hx hb dX5_isShopNumber_38 (by decide) ?_
              exact bret_Rz hx hb hr hS hlocks dX5_isShopNumber_39 (Or.inl rfl) (by rw [← hF, F5_isShopNumber, if_neg c_1, if_neg c_8, if_neg c_9, if_neg c_12, if_neg c_13, if_pos c_14])
            · refine lv_iconst (v := 1) hx hb dX5_isShopNumber_34 (by decide) ?_
              refine lv_goto (tgt := 39) hx hb dX5_isShopNumber_35 (by decide) ?_
              exact bret_Rz hx hb hr hS hlocks dX5_isShopNumber_39 (Or.inr rfl) (by rw [← hF, F5_isShopNumber, if_neg c_1, if_neg c_8, if_neg c_9, if_neg c_12, if_neg c_13, if_neg c_14])
theorem B5_isShopNumber (a1 : Int32) : (F5_isShopNumber a1) = 0 ∨ (F5_isShopNumber a1) = 1 := by
  unfold F5_isShopNumber
  (repeat' split) <;> first | exact Or.inl rfl | exact Or.inr rfl
def F5_areThere (u : bU) (a1 : Int32) (a2 : Int32) : Int32 := (if (F0_letterO u) = 99 then (F5_isShop u a1) else (if (F0_letterO u) = 100 then (if (F5_isBrand u a1) = 0 then 0 else (if (F5_isShop u a2) = 0 then 0 else 1)) else (if (F5_isShop u a1) = 0 then 0 else (if (F5_isBrand u a2) = 0 then 0 else 1))))
set_option maxHeartbeats 4000000 in
set_option maxRecDepth 100000 in
theorem C5_areThere (l : Launch) (D : va_G) (cI cO : ClassId) (q : Nat → Nat) (u : bU) (H0 : Heap) (hP : va_P D vwCl (wC cI cO q u) H0) (a1 : Int32) (a2 : Int32) : Met l yX5_areThere wsX5_areThere ({ frames := 3, cells := 0, slots := 0, locals := 63 }) (bP D [(cI, .int), (cO, .object RX2)] H0 [.ref (q 0), .int a1, .int a2]) (bRi H0 (F5_areThere u a1 a2)) 0 0 (fun _ => False) := by
  refine Met.ofW (cc := cX5_areThere) (maxL := 3) (ret := (some .boolean)) (by decide) rfl ?_
  intro p e s m args below meth c s₁ B hml hv
  obtain ⟨rfl, hH, hk⟩ := hv
  subst hH
  have hx := B.exec
  have hb := B.bytes
  have hr := B.returns
  have hts := atoms_spec (ws := wsX5_areThere) B.pre
  have hown : s.vm.findClass RX5 = some m.cls := findClass_of_methodNamed B.named
  have hlocks := B.notSynchronized
  have iX5 : ∀ w ∈ wsX50, w ∈ wsX5_areThere := by decide +kernel
  have hS : va_S (fun _ => False) s.heap s.heap [] := va_S.rf
  have hl := lv_entry ([.ref (q 0), .int a1, .int a2]) (n := 3) (Nat.le_of_ble_eq_true rfl)
  rw [lg_entry_eq]
  generalize (lg_sl ([.ref (q 0), .int a1, .int a2]) ++ List.replicate (3 - (lg_sl ([.ref (q 0), .int a1, .int a2])).length) Slot.unset).toArray = ls at hl ⊢
  have hl : lv_has ls 3 [(0, .ref (q 0)), (1, .int a1), (2, .int a2)] := hl
  generalize hF : F5_areThere u a1 a2 = tgt
  refine lv_aload_n hx hb dX5_areThere_0 rfl (lv_at hl 0 rfl) ?_
  refine va_get (D := D) (ci := 5) (C := RX5) (T := TX5) (N := 5) hx hb hts iX5 hown hk.1 hP 0 (wC_0 _ _ _ _) rfl 4 (by decide) (hts (.fieldLink RX5 40 "BottleLoop" "order" "LBottleLoop$Order;") (List.mem_of_getElem? (i := 1) rfl)) (fun _ h9 => h9) rfl dX5_areThere_1 ?_
  refine bcall_Ri (va_runVN (As := []) (rest := []) ⟨hx, hb, hml, hown, hts⟩ (C0_letterO l D cI cO q _ _ hP ) ⟨va_cnB 0 hts gX5_areThere_X0_letter_n280 rfl rfl rfl (hk.2 (.methodLinkNest RX5 280 yX0_letter RX5) (List.mem_of_getElem? (i := 65) rfl)) (hts (.initialized RX0) (List.mem_of_getElem? (i := 3) rfl)) bd_X0letter ⟨Nat.le_of_ble_eq_true rfl, Nat.le_of_ble_eq_true rfl⟩, (hts (.instanceMethod yX0_letter) (List.mem_of_getElem? (i := 2) rfl)), (hts (.selects RX0 yX0_letter yX0_letter) (List.mem_of_getElem? (i := 4) rfl))⟩ (bPV hk (va_recv hk.1 hP (ci := 0) (q0 := 22) rfl (wC_22 _ _ _ _))) rfl rfl hl.1 rfl (lv_room (Nat.le_of_ble_eq_true rfl)) dX5_areThere_4 ⟨Nat.zero_le _, Nat.zero_le _⟩) hS (fun locs hS => ?_)
  by_cases c_1 : (F0_letterO u) = 99
  · refine lv_lookup (off := 47) (tgt := 54) hx hb dX5_areThere_7 (by decide) (by rw [c_1]; decide) (by decide) ?_
    refine lv_aload_n hx hb dX5_areThere_54 rfl (lv_at hl 0 rfl) ?_
    refine lv_iload_n hx hb dX5_areThere_55 rfl (lv_at hl 1 rfl) ?_
    refine bcall_Ri (va_runV (As := [.int a1]) (rest := []) ⟨hx, hb, hml, hown, hts⟩ (C5_isShop l D cI cO q _ _ hP a1) (cwV 1 hts gX5_areThere_X5_isShop rfl rfl rfl ⟨rfl, bd_X5isShop⟩ ⟨Nat.le_of_ble_eq_true rfl, Nat.le_of_ble_eq_true rfl⟩) (bPV hk (va_recv hk.1 hP (ci := 5) (q0 := 0) rfl (wC_0 _ _ _ _))) rfl rfl hl.1 rfl (lv_room (Nat.le_of_ble_eq_true rfl)) dX5_areThere_56 ⟨Nat.zero_le _, Nat.zero_le _⟩) hS (fun locs hS => ?_)
    exact bret_Rz hx hb hr hS hlocks dX5_areThere_59 (B5_isShop u a1) (by rw [← hF, F5_areThere, if_pos c_1])
  · by_cases c_2 : (F0_letterO u) = 100
    · refine lv_lookup (off := 25) (tgt := 32) hx hb dX5_areThere_7 (by decide) (by rw [c_2]; decide) (by decide) ?_
      refine lv_aload_n hx hb dX5_areThere_32 rfl (lv_at hl 0 rfl) ?_
      refine lv_iload_n hx hb dX5_areThere_33 rfl (lv_at hl 1 rfl) ?_
      refine bcall_Ri (va_runV (As := [.int a1]) (rest := []) ⟨hx, hb, hml, hown, hts⟩ (C5_isBrand l D cI cO q _ _ hP a1) (cwV 1 hts gX5_areThere_X5_isBrand rfl rfl rfl ⟨rfl, bd_X5isBrand⟩ ⟨Nat.le_of_ble_eq_true rfl, Nat.le_of_ble_eq_true rfl⟩) (bPV hk (va_recv hk.1 hP (ci := 5) (q0 := 0) rfl (wC_0 _ _ _ _))) rfl rfl hl.1 rfl (lv_room (Nat.le_of_ble_eq_true rfl)) dX5_areThere_34 ⟨Nat.zero_le _, Nat.zero_le _⟩) hS (fun locs hS => ?_)
      refine lv_if_eq (tgt := 52) hx hb dX5_areThere_37 (by decide) (fun c_3 => ?_) (fun c_3 => ?_)
      · refine lv_iconst (v := 0) hx hb dX5_areThere_52 (by decide) ?_
        exact bret_Rz hx hb hr hS hlocks dX5_areThere_53 (Or.inl rfl) (by rw [← hF, F5_areThere, if_neg c_1, if_pos c_2, if_pos c_3])
      · refine lv_aload_n hx hb dX5_areThere_40 rfl (lv_at hl 0 rfl) ?_
        refine lv_iload_n hx hb dX5_areThere_41 rfl (lv_at hl 2 rfl) ?_
        refine bcall_Ri (va_runV (As := [.int a2]) (rest := []) ⟨hx, hb, hml, hown, hts⟩ (C5_isShop l D cI cO q _ _ hP a2) (cwV 1 hts gX5_areThere_X5_isShop rfl rfl rfl ⟨rfl, bd_X5isShop⟩ ⟨Nat.le_of_ble_eq_true rfl, Nat.le_of_ble_eq_true rfl⟩) (bPV hk (va_recv hk.1 hP (ci := 5) (q0 := 0) rfl (wC_0 _ _ _ _))) rfl rfl hl.1 rfl (lv_room (Nat.le_of_ble_eq_true rfl)) dX5_areThere_42 ⟨Nat.zero_le _, Nat.zero_le _⟩) hS (fun locs hS => ?_)
        refine lv_if_eq (tgt := 52) hx hb dX5_areThere_45 (by decide) (fun c_4 => ?_) (fun c_4 => ?_)
        · refine lv_iconst (v := 0) hx hb dX5_areThere_52 (by decide) ?_
          exact bret_Rz hx hb hr hS hlocks dX5_areThere_53 (Or.inl rfl) (by rw [← hF, F5_areThere, if_neg c_1, if_pos c_2, if_neg c_3, if_pos c_4])
        · refine lv_iconst (v := 1) hx hb dX5_areThere_48 (by decide) ?_
          refine lv_goto (tgt := 53) hx hb dX5_areThere_49 (by decide) ?_
          exact bret_Rz hx hb hr hS hlocks dX5_areThere_53 (Or.inr rfl) (by rw [← hF, F5_areThere, if_neg c_1, if_pos c_2, if_neg c_3, if_neg c_4])
    · refine lv_lookup (off := 53) (tgt := 60) hx hb dX5_areThere_7 (by decide) (by show Op.lookupswitch.offset [(99, 47), (100, 25)] (53) _ = _; rw [lv_osw (a := 99) c_1 rfl, lv_osw (a := 100) c_2 rfl]; rfl) (by decide) ?_
      refine lv_aload_n hx hb dX5_areThere_60 rfl (lv_at hl 0 rfl) ?_
      refine lv_iload_n hx hb dX5_areThere_61 rfl (lv_at hl 1 rfl) ?_
      refine bcall_Ri (va_runV (As := [.int a1]) (rest := []) ⟨hx, hb, hml, hown, hts⟩ (C5_isShop l D cI cO q _ _ hP a1) (cwV 1 hts gX5_areThere_X5_isShop rfl rfl rfl ⟨rfl, bd_X5isShop⟩ ⟨Nat.le_of_ble_eq_true rfl, Nat.le_of_ble_eq_true rfl⟩) (bPV hk (va_recv hk.1 hP (ci := 5) (q0 := 0) rfl (wC_0 _ _ _ _))) rfl rfl hl.1 rfl (lv_room (Nat.le_of_ble_eq_true rfl)) dX5_areThere_62 ⟨Nat.zero_le _, Nat.zero_le _⟩) hS (fun locs hS => ?_)
      refine lv_if_eq (tgt := 80) hx hb dX5_areThere_65 (by decide) (fun c_5 => ?_) (fun c_5 => ?_)
      · refine lv_iconst (v := 0) hx hb dX5_areThere_80 (by decide) ?_
        exact bret_Rz hx hb hr hS hlocks dX5_areThere_81 (Or.inl rfl) (by rw [← hF, F5_areThere, if_neg c_1, if_neg c_2, if_pos c_5])
      · refine lv_aload_n hx hb dX5_areThere_68 rfl (lv_at hl 0 rfl) ?_
        refine lv_iload_n hx hb dX5_areThere_69 rfl (lv_at hl 2 rfl) ?_
        refine bcall_Ri (va_runV (As := [.int a2]) (rest := []) ⟨hx, hb, hml, hown, hts⟩ (C5_isBrand l D cI cO q _ _ hP a2) (cwV 1 hts gX5_areThere_X5_isBrand rfl rfl rfl ⟨rfl, bd_X5isBrand⟩ ⟨Nat.le_of_ble_eq_true rfl, Nat.le_of_ble_eq_true rfl⟩) (bPV hk (va_recv hk.1 hP (ci := 5) (q0 := 0) rfl (wC_0 _ _ _ _))) rfl rfl hl.1 rfl (lv_room (Nat.le_of_ble_eq_true rfl)) dX5_areThere_70 ⟨Nat.zero_le _, Nat.zero_le _⟩) hS (fun locs hS => ?_)
        refine lv_if_eq (tgt := 80) hx hb dX5_areThere_73 (by decide) (fun c_6 => ?_) (fun c_6 => ?_)
        · refine lv_iconst (v := 0) hx hb dX5_areThere_80 (by decide) ?_
          exact bret_Rz hx hb hr hS hlocks dX5_areThere_81 (Or.inl rfl) (by rw [← hF, F5_areThere, if_neg c_1, if_neg c_2, if_neg c_5, if_pos c_6])
        · refine lv_iconst (v := 1) hx hb dX5_areThere_76 (by decide) ?_
          refine lv_goto (tgt := 81) hx hb dX5_areThere_77 (by decide) ?_
          exact bret_Rz hx hb hr hS hlocks dX5_areThere_81 (Or.inr rfl) (by rw [← hF, F5_areThere, if_neg c_1, if_neg c_2, if_neg c_5, if_neg c_6])
theorem B5_areThere (u : bU) (a1 : Int32) (a2 : Int32) : (F5_areThere u a1 a2) = 0 ∨ (F5_areThere u a1 a2) = 1 := by
  unfold F5_areThere
  (repeat' split) <;> first | exact Or.inl rfl | exact Or.inr rfl | exact (B5_isShop u a1) | exact (B5_isBrand u a1) | exact (B5_isShop u a2) | exact (B5_isBrand u a2)
def F5_reasonAgainstOrder (u : bU) (a1 : Int32) (a2 : Int32) (a3 : Int32) : Int32 := (if (F5_areThere u a1 a2) = 0 then 4 else (if (F0_letterO u) = 98 then (F4_breakReason u a1 a2 a3) else (if (F0_letterO u) = 100 then (F4_deliverReason u a1 a2 a3) else (if (F0_letterO u) = 114 then (F4_returnReason u a1 a2 a3) else (if (F0_letterO u) = 115 then (F4_sellReason u a1 a2 a3) else (F4_collectReason u a1 a2 a3))))))
set_option maxHeartbeats 4000000 in
set_option maxRecDepth 100000 in
theorem C5_reasonAgainstOrder (l : Launch) (D : va_G) (cI cO : ClassId) (q : Nat → Nat) (u : bU) (H0 : Heap) (hP : va_P D vwCl (wC cI cO q u) H0) (a1 : Int32) (a2 : Int32) (a3 : Int32) : Met l yX5_reasonAgainstOrder wsX5_reasonAgainstOrder ({ frames := 5, cells := 0, slots := 0, locals := 107 }) (bP D [(cI, .int), (cO, .object RX2)] H0 [.ref (q 0), .int a1, .int a2, .int a3]) (bRi H0 (F5_reasonAgainstOrder u a1 a2 a3)) 0 0 (fun _ => False) := by
  refine Met.ofW (cc := cX5_reasonAgainstOrder) (maxL := 4) (ret := (some .int)) (by decide) rfl ?_
  intro p e s m args below meth c s₁ B hml hv
  obtain ⟨rfl, hH, hk⟩ := hv
  subst hH
  have hx := B.exec
  have hb := B.bytes
  have hr := B.returns
  have hts := atoms_spec (ws := wsX5_reasonAgainstOrder) B.pre
  have hown : s.vm.findClass RX5 = some m.cls := findClass_of_methodNamed B.named
  have hlocks := B.notSynchronized
  have iX5 : ∀ w ∈ wsX50, w ∈ wsX5_reasonAgainstOrder := by decide +kernel
  have hS : va_S (fun _ => False) s.heap s.heap [] := va_S.rf
  have hl := lv_entry ([.ref (q 0), .int a1, .int a2, .int a3]) (n := 4) (Nat.le_of_ble_eq_true rfl)
  rw [lg_entry_eq]
  generalize (lg_sl ([.ref (q 0), .int a1, .int a2, .int a3]) ++ List.replicate (4 - (lg_sl ([.ref (q 0), .int a1, .int a2, .int a3])).length) Slot.unset).toArray = ls at hl ⊢
  have hl : lv_has ls 4 [(0, .ref (q 0)), (1, .int a1), (2, .int a2), (3, .int a3)] := hl
  generalize hF : F5_reasonAgainstOrder u a1 a2 a3 = tgt
  refine lv_aload_n hx hb dX5_reasonAgainstOrder_0 rfl (lv_at hl 0 rfl) ?_
  refine lv_iload_n hx hb dX5_reasonAgainstOrder_1 rfl (lv_at hl 1 rfl) ?_
  refine lv_iload_n hx hb dX5_reasonAgainstOrder_2 rfl (lv_at hl 2 rfl) ?_
  refine bcall_Ri (va_runV (As := [.int a1, .int a2]) (rest := []) ⟨hx, hb, hml, hown, hts⟩ (C5_areThere l D cI cO q _ _ hP a1 a2) (cwV 2 hts gX5_reasonAgainstOrder_X5_areThere rfl rfl rfl ⟨rfl, bd_X5areThere⟩ ⟨Nat.le_of_ble_eq_true rfl, Nat.le_of_ble_eq_true rfl⟩) (bPV hk (va_recv hk.1 hP (ci := 5) (q0 := 0) rfl (wC_0 _ _ _ _))) rfl rfl hl.1 rfl (lv_room (Nat.le_of_ble_eq_true rfl)) dX5_reasonAgainstOrder_3 ⟨Nat.zero_le _, Nat.zero_le _⟩) hS (fun locs hS => ?_)
  refine lv_if_ne (tgt := 11) hx hb dX5_reasonAgainstOrder_6 (by decide) (fun c_1 => ?_) (fun c_1 => ?_)
  · refine lv_aload_n hx hb dX5_reasonAgainstOrder_11 rfl (lv_at hl 0 rfl) ?_
    refine va_get (D := D) (ci := 5) (C := RX5) (T := TX5) (N := 5) hx hb hts iX5 hown hk.1 hP 0 (wC_0 _ _ _ _) rfl 4 (by decide) (hts (.fieldLink RX5 40 "BottleLoop" "order" "LBottleLoop$Order;") (List.mem_of_getElem? (i := 1) rfl)) (fun _ h9 => h9) rfl dX5_reasonAgainstOrder_12 ?_
    refine bcall_Ri (va_runVN (As := []) (rest := []) ⟨hx, hb, hml, hown, hts⟩ (C0_letterO l D cI cO q _ _ hP ) ⟨va_cnB 0 hts gX5_reasonAgainstOrder_X0_letter_n280 rfl rfl rfl (hk.2 (.methodLinkNest RX5 280 yX0_letter RX5) (List.mem_of_getElem? (i := 65) rfl)) (hts (.initialized RX0) (List.mem_of_getElem? (i := 9) rfl)) bd_X0letter ⟨Nat.le_of_ble_eq_true rfl, Nat.le_of_ble_eq_true rfl⟩, (hts (.instanceMethod yX0_letter) (List.mem_of_getElem? (i := 8) rfl)), (hts (.selects RX0 yX0_letter yX0_letter) (List.mem_of_getElem? (i := 10) rfl))⟩ (bPV hk (va_recv hk.1 hP (ci := 0) (q0 := 22) rfl (wC_22 _ _ _ _))) rfl rfl hl.1 rfl (lv_room (Nat.le_of_ble_eq_true rfl)) dX5_reasonAgainstOrder_15 ⟨Nat.zero_le _, Nat.zero_le _⟩) hS (fun locs hS => ?_)
    by_cases c_2 : (F0_letterO u) = 98
    · refine lv_lookup (off := 75) (tgt := 93) hx hb dX5_reasonAgainstOrder_18 (by decide) (by rw [c_2]; decide) (by decide) ?_
      refine lv_aload_n hx hb dX5_reasonAgainstOrder_93 rfl (lv_at hl 0 rfl) ?_
      refine va_get (D := D) (ci := 5) (C := RX5) (T := TX5) (N := 5) hx hb hts iX5 hown hk.1 hP 0 (wC_0 _ _ _ _) rfl 2 (by decide) (hts (.fieldLink RX5 12 "BottleLoop" "trade" "LBottleLoop$Trade;") (List.mem_of_getElem? (i := 2) rfl)) (fun _ h9 => h9) rfl dX5_reasonAgainstOrder_94 ?_
      refine lv_iload_n hx hb dX5_reasonAgainstOrder_97 rfl (lv_at hl 1 rfl) ?_
      refine lv_iload_n hx hb dX5_reasonAgainstOrder_98 rfl (lv_at hl 2 rfl) ?_
      refine lv_iload_n hx hb dX5_reasonAgainstOrder_99 rfl (lv_at hl 3 rfl) ?_
      refine bcall_Ri (va_runVN (As := [.int a1, .int a2, .int a3]) (rest := []) ⟨hx, hb, hml, hown, hts⟩ (C4_breakReason l D cI cO q _ _ hP a1 a2 a3) ⟨va_cnB 3 hts gX5_reasonAgainstOrder_X4_breakReason_n132 rfl rfl rfl (hk.2 (.methodLinkNest RX5 132 yX4_breakReason RX5) (List.mem_of_getElem? (i := 48) rfl)) (hts (.initialized RX4) (List.mem_of_getElem? (i := 32) rfl)) bd_X4breakReason ⟨Nat.le_of_ble_eq_true rfl, Nat.le_of_ble_eq_true rfl⟩, (hts (.instanceMethod yX4_breakReason) (List.mem_of_getElem? (i := 66) rfl)), (hts (.selects RX4 yX4_breakReason yX4_breakReason) (List.mem_of_getElem? (i := 67) rfl))⟩ (bPV hk (va_recv hk.1 hP (ci := 4) (q0 := 1) rfl (wC_1 _ _ _ _))) rfl rfl hl.1 rfl (lv_room (Nat.le_of_ble_eq_true rfl)) dX5_reasonAgainstOrder_100 ⟨Nat.zero_le _, Nat.zero_le _⟩) hS (fun locs hS => ?_)
      exact bret_Ri hx hb hr hS hlocks dX5_reasonAgainstOrder_103 (by rw [← hF, F5_reasonAgainstOrder, if_neg c_1, if_pos c_2])
    · by_cases c_3 : (F0_letterO u) = 100
      · refine lv_lookup (off := 42) (tgt := 60) hx hb dX5_reasonAgainstOrder_18 (by decide) (by rw [c_3]; decide) (by decide) ?_
        refine lv_aload_n hx hb dX5_reasonAgainstOrder_60 rfl (lv_at hl 0 rfl) ?_
        refine va_get (D := D) (ci := 5) (C := RX5) (T := TX5) (N := 5) hx hb hts iX5 hown hk.1 hP 0 (wC_0 _ _ _ _) rfl 2 (by decide) (hts (.fieldLink RX5 12 "BottleLoop" "trade" "LBottleLoop$Trade;") (List.mem_of_getElem? (i := 2) rfl)) (fun _ h9 => h9) rfl dX5_reasonAgainstOrder_61 ?_
        refine lv_iload_n hx hb dX5_reasonAgainstOrder_64 rfl (lv_at hl 1 rfl) ?_
        refine lv_iload_n hx hb dX5_reasonAgainstOrder_65 rfl (lv_at hl 2 rfl) ?_
        refine lv_iload_n hx hb dX5_reasonAgainstOrder_66 rfl (lv_at hl 3 rfl) ?_
        refine bcall_Ri (va_runVN (As := [.int a1, .int a2, .int a3]) (rest := []) ⟨hx, hb, hml, hown, hts⟩ (C4_deliverReason l D cI cO q _ _ hP a1 a2 a3) ⟨va_cnB 3 hts gX5_reasonAgainstOrder_X4_deliverReason_n113 rfl rfl rfl (hk.2 (.methodLinkNest RX5 113 yX4_deliverReason RX5) (List.mem_of_getElem? (i := 40) rfl)) (hts (.initialized RX4) (List.mem_of_getElem? (i := 32) rfl)) bd_X4deliverReason ⟨Nat.le_of_ble_eq_true rfl, Nat.le_of_ble_eq_true rfl⟩, (hts (.instanceMethod yX4_deliverReason) (List.mem_of_getElem? (i := 31) rfl)), (hts (.selects RX4 yX4_deliverReason yX4_deliverReason) (List.mem_of_getElem? (i := 33) rfl))⟩ (bPV hk (va_recv hk.1 hP (ci := 4) (q0 := 1) rfl (wC_1 _ _ _ _))) rfl rfl hl.1 rfl (lv_room (Nat.le_of_ble_eq_true rfl)) dX5_reasonAgainstOrder_67 ⟨Nat.zero_le _, Nat.zero_le _⟩) hS (fun locs hS => ?_)
        exact bret_Ri hx hb hr hS hlocks dX5_reasonAgainstOrder_70 (by rw [← hF, F5_reasonAgainstOrder, if_neg c_1, if_neg c_2, if_pos c_3])
      · by_cases c_4 : (F0_letterO u) = 114
        · refine lv_lookup (off := 64) (tgt := 82) hx hb dX5_reasonAgainstOrder_18 (by decide) (by rw [c_4]; decide) (by decide) ?_
          refine lv_aload_n hx hb dX5_reasonAgainstOrder_82 rfl (lv_at hl 0 rfl) ?_
          refine va_get (D := D) (ci := 5) (C := RX5) (T := TX5) (N := 5) hx hb hts iX5 hown hk.1 hP 0 (wC_0 _ _ _ _) rfl 2 (by decide) (hts (.fieldLink RX5 12 "BottleLoop" "trade" "LBottleLoop$Trade;") (List.mem_of_getElem? (i := 2) rfl)) (fun _ h9 => h9) rfl dX5_reasonAgainstOrder_83 ?_
          refine lv_iload_n hx hb dX5_reasonAgainstOrder_86 rfl (lv_at hl 1 rfl) ?_
          refine lv_iload_n hx hb dX5_reasonAgainstOrder_87 rfl (lv_at hl 2 rfl) ?_
          refine lv_iload_n hx hb dX5_reasonAgainstOrder_88 rfl (lv_at hl 3 rfl) ?_
          refine bcall_Ri (va_runVN (As := [.int a1, .int a2, .int a3]) (rest := []) ⟨hx, hb, hml, hown, hts⟩ (C4_returnReason l D cI cO q _ _ hP a1 a2 a3) ⟨va_cnB 3 hts gX5_reasonAgainstOrder_X4_returnReason_n126 rfl rfl rfl (hk.2 (.methodLinkNest RX5 126 yX4_returnReason RX5) (List.mem_of_getElem? (i := 46) rfl)) (hts (.initialized RX4) (List.mem_of_getElem? (i := 32) rfl)) bd_X4returnReason ⟨Nat.le_of_ble_eq_true rfl, Nat.le_of_ble_eq_true rfl⟩, (hts (.instanceMethod yX4_returnReason) (List.mem_of_getElem? (i := 59) rfl)), (hts (.selects RX4 yX4_returnReason yX4_returnReason) (List.mem_of_getElem? (i := 60) rfl))⟩ (bPV hk (va_recv hk.1 hP (ci := 4) (q0 := 1) rfl (wC_1 _ _ _ _))) rfl rfl hl.1 rfl (lv_room (Nat.le_of_ble_eq_true rfl)) dX5_reasonAgainstOrder_89 ⟨Nat.zero_le _, Nat.zero_le _⟩) hS (fun locs hS => ?_)
          exact bret_Ri hx hb hr hS hlocks dX5_reasonAgainstOrder_92 (by rw [← hF, F5_reasonAgainstOrder, if_neg c_1, if_neg c_2, if_neg c_3, if_pos c_4])
        · by_cases c_5 : (F0_letterO u) = 115
          · refine lv_lookup (off := 53) (tgt := 71) hx hb dX5_reasonAgainstOrder_18 (by decide) (by rw [c_5]; decide) (by decide) ?_
            refine lv_aload_n hx hb dX5_reasonAgainstOrder_71 rfl (lv_at hl 0 rfl) ?_
            refine va_get (D := D) (ci := 5) (C := RX5) (T := TX5) (N := 5) hx hb hts iX5 hown hk.1 hP 0 (wC_0 _ _ _ _) rfl 2 (by decide) (hts (.fieldLink RX5 12 "BottleLoop" "trade" "LBottleLoop$Trade;") (List.mem_of_getElem? (i := 2) rfl)) (fun _ h9 => h9) rfl dX5_reasonAgainstOrder_72 ?_
            refine lv_iload_n hx hb dX5_reasonAgainstOrder_75 rfl (lv_at hl 1 rfl) ?_
            refine lv_iload_n hx hb dX5_reasonAgainstOrder_76 rfl (lv_at hl 2 rfl) ?_
            refine lv_iload_n hx hb dX5_reasonAgainstOrder_77 rfl (lv_at hl 3 rfl) ?_
            refine bcall_Ri (va_runVN (As := [.int a1, .int a2, .int a3]) (rest := []) ⟨hx, hb, hml, hown, hts⟩ (C4_sellReason l D cI cO q _ _ hP a1 a2 a3) ⟨va_cnB 3 hts gX5_reasonAgainstOrder_X4_sellReason_n120 rfl rfl rfl (hk.2 (.methodLinkNest RX5 120 yX4_sellReason RX5) (List.mem_of_getElem? (i := 44) rfl)) (hts (.initialized RX4) (List.mem_of_getElem? (i := 32) rfl)) bd_X4sellReason ⟨Nat.le_of_ble_eq_true rfl, Nat.le_of_ble_eq_true rfl⟩, (hts (.instanceMethod yX4_sellReason) (List.mem_of_getElem? (i := 53) rfl)), (hts (.selects RX4 yX4_sellReason yX4_sellReason) (List.mem_of_getElem? (i := 54) rfl))⟩ (bPV hk (va_recv hk.1 hP (ci := 4) (q0 := 1) rfl (wC_1 _ _ _ _))) rfl rfl hl.1 rfl (lv_room (Nat.le_of_ble_eq_true rfl)) dX5_reasonAgainstOrder_78 ⟨Nat.zero_le _, Nat.zero_le _⟩) hS (fun locs hS => ?_)
            exact bret_Ri hx hb hr hS hlocks dX5_reasonAgainstOrder_81 (by rw [← hF, F5_reasonAgainstOrder, if_neg c_1, if_neg c_2, if_neg c_3, if_neg c_4, if_pos c_5])
          · refine lv_lookup (off := 86) (tgt := 104) hx hb dX5_reasonAgainstOrder_18 (by decide) (by show Op.lookupswitch.offset [(98, 75), (100, 42), (114, 64), (115, 53)] (86) _ = _; rw [lv_osw (a := 98) c_2 rfl, lv_osw (a := 100) c_3 rfl, lv_osw (a := 114) c_4 rfl, lv_osw (a := 115) c_5 rfl]; rfl) (by decide) ?_
            refine lv_aload_n hx hb dX5_reasonAgainstOrder_104 rfl (lv_at hl 0 rfl) ?_
            refine va_get (D := D) (ci := 5) (C := RX5) (T := TX5) (N := 5) hx hb hts iX5 hown hk.1 hP 0 (wC_0 _ _ _ _) rfl 2 (by decide) (hts (.fieldLink RX5 12 "BottleLoop" "trade" "LBottleLoop$Trade;") (List.mem_of_getElem? (i := 2) rfl)) (fun _ h9 => h9) rfl dX5_reasonAgainstOrder_105 ?_
            refine lv_iload_n hx hb dX5_reasonAgainstOrder_108 rfl (lv_at hl 1 rfl) ?_
            refine lv_iload_n hx hb dX5_reasonAgainstOrder_109 rfl (lv_at hl 2 rfl) ?_
            refine lv_iload_n hx hb dX5_reasonAgainstOrder_110 rfl (lv_at hl 3 rfl) ?_
            refine bcall_Ri (va_runVN (As := [.int a1, .int a2, .int a3]) (rest := []) ⟨hx, hb, hml, hown, hts⟩ (C4_collectReason l D cI cO q _ _ hP a1 a2 a3) ⟨va_cnB 3 hts gX5_reasonAgainstOrder_X4_collectReason_n141 rfl rfl rfl (hk.2 (.methodLinkNest RX5 141 yX4_collectReason RX5) (List.mem_of_getElem? (i := 51) rfl)) (hts (.initialized RX4) (List.mem_of_getElem? (i := 32) rfl)) bd_X4collectReason ⟨Nat.le_of_ble_eq_true rfl, Nat.le_of_ble_eq_true rfl⟩, (hts (.instanceMethod yX4_collectReason) (List.mem_of_getElem? (i := 69) rfl)), (hts (.selects RX4 yX4_collectReason yX4_collectReason) (List.mem_of_getElem? (i := 70) rfl))⟩ (bPV hk (va_recv hk.1 hP (ci := 4) (q0 := 1) rfl (wC_1 _ _ _ _))) rfl rfl hl.1 rfl (lv_room (Nat.le_of_ble_eq_true rfl)) dX5_reasonAgainstOrder_111 ⟨Nat.zero_le _, Nat.zero_le _⟩) hS (fun locs hS => ?_)
            exact bret_Ri hx hb hr hS hlocks dX5_reasonAgainstOrder_114 (by rw [← hF, F5_reasonAgainstOrder, if_neg c_1, if_neg c_2, if_neg c_3, if_neg c_4, if_neg c_5])
  · refine lv_iconst (v := 4) hx hb dX5_reasonAgainstOrder_9 (by decide) ?_
    exact bret_Ri hx hb hr hS hlocks dX5_reasonAgainstOrder_10 (by rw [← hF, F5_reasonAgainstOrder, if_pos c_1])
def F5_carryOutOrder (u : bU) (a1 : Int32) (a2 : Int32) (a3 : Int32) : bU := (if (F0_letterO u) = 98 then (F4_breakBottles u a1 a2 a3).2 else (if (F0_letterO u) = 100 then (F4_deliverCrates u a1 a2 a3).2 else (if (F0_letterO u) = 114 then (F4_returnBottles u a1 a2 a3).2 else (if (F0_letterO u) = 115 then (F4_sellBottles u a1 a2 a3).2 else (F4_collectCrates u a1 a2 a3).2))))
set_option maxHeartbeats 4000000 in
set_option maxRecDepth 100000 in
theorem C5_carryOutOrder (l : Launch) (D : va_G) (cI cO : ClassId) (q : Nat → Nat) (u : bU) (H0 : Heap) (hq : bInj 23 q) (hP : va_P D vwCl (wC cI cO q u) H0) (a1 : Int32) (a2 : Int32) (a3 : Int32) : Met l yX5_carryOutOrder wsX5_carryOutOrder ({ frames := 4, cells := 0, slots := 0, locals := 94 }) (bP D [(cI, .int), (cO, .object RX2)] H0 [.ref (q 0), .int a1, .int a2, .int a3]) (bWv D (wC cI cO q) bT (bA 23 q H0.size) (F5_carryOutOrder u a1 a2 a3)) 0 0 (bA 23 q H0.size) := by
  refine Met.ofW (cc := cX5_carryOutOrder) (maxL := 4) (ret := none) (by decide) rfl ?_
  intro p e s m args below meth c s₁ B hml hv
  obtain ⟨rfl, hH, hk⟩ := hv
  subst hH
  have hx := B.exec
  have hb := B.bytes
  have hr := B.returns
  have hts := atoms_spec (ws := wsX5_carryOutOrder) B.pre
  have hown : s.vm.findClass RX5 = some m.cls := findClass_of_methodNamed B.named
  have hlocks := B.notSynchronized
  have iX5 : ∀ w ∈ wsX50, w ∈ wsX5_carryOutOrder := by decide +kernel
  have hS : va_S (bA 23 q s.heap.size) s.heap s.heap [] := va_S.rf
  have hl := lv_entry ([.ref (q 0), .int a1, .int a2, .int a3]) (n := 4) (Nat.le_of_ble_eq_true rfl)
  rw [lg_entry_eq]
  generalize (lg_sl ([.ref (q 0), .int a1, .int a2, .int a3]) ++ List.replicate (4 - (lg_sl ([.ref (q 0), .int a1, .int a2, .int a3])).length) Slot.unset).toArray = ls at hl ⊢
  have hl : lv_has ls 4 [(0, .ref (q 0)), (1, .int a1), (2, .int a2), (3, .int a3)] := hl
  generalize hF : F5_carryOutOrder u a1 a2 a3 = tgt
  refine lv_aload_n hx hb dX5_carryOutOrder_0 rfl (lv_at hl 0 rfl) ?_
  refine va_get (D := D) (ci := 5) (C := RX5) (T := TX5) (N := 5) hx hb hts iX5 hown hk.1 hP 0 (wC_0 _ _ _ _) rfl 4 (by decide) (hts (.fieldLink RX5 40 "BottleLoop" "order" "LBottleLoop$Order;") (List.mem_of_getElem? (i := 1) rfl)) (fun _ h9 => h9) rfl dX5_carryOutOrder_1 ?_
  refine bcall_Ri (va_runVN (As := []) (rest := []) ⟨hx, hb, hml, hown, hts⟩ (C0_letterO l D cI cO q _ _ hP ) ⟨va_cnB 0 hts gX5_carryOutOrder_X0_letter_n280 rfl rfl rfl (hk.2 (.methodLinkNest RX5 280 yX0_letter RX5) (List.mem_of_getElem? (i := 65) rfl)) (hts (.initialized RX0) (List.mem_of_getElem? (i := 4) rfl)) bd_X0letter ⟨Nat.le_of_ble_eq_true rfl, Nat.le_of_ble_eq_true rfl⟩, (hts (.instanceMethod yX0_letter) (List.mem_of_getElem? (i := 3) rfl)), (hts (.selects RX0 yX0_letter yX0_letter) (List.mem_of_getElem? (i := 5) rfl))⟩ (bPV hk (va_recv hk.1 hP (ci := 0) (q0 := 22) rfl (wC_22 _ _ _ _))) rfl rfl hl.1 rfl (lv_room (Nat.le_of_ble_eq_true rfl)) dX5_carryOutOrder_4 ⟨Nat.zero_le _, Nat.zero_le _⟩) hS (fun locs hS => ?_)
  by_cases c_1 : (F0_letterO u) = 98
  · refine lv_lookup (off := 83) (tgt := 90) hx hb dX5_carryOutOrder_7 (by decide) (by rw [c_1]; decide) (by decide) ?_
    refine lv_aload_n hx hb dX5_carryOutOrder_90 rfl (lv_at hl 0 rfl) ?_
    refine va_get (D := D) (ci := 5) (C := RX5) (T := TX5) (N := 5) hx hb hts iX5 hown hk.1 hP 0 (wC_0 _ _ _ _) rfl 2 (by decide) (hts (.fieldLink RX5 12 "BottleLoop" "trade" "LBottleLoop$Trade;") (List.mem_of_getElem? (i := 2) rfl)) (fun _ h9 => h9) rfl dX5_carryOutOrder_91 ?_
    refine lv_iload_n hx hb dX5_carryOutOrder_94 rfl (lv_at hl 1 rfl) ?_
    refine lv_iload_n hx hb dX5_carryOutOrder_95 rfl (lv_at hl 2 rfl) ?_
    refine lv_iload_n hx hb dX5_carryOutOrder_96 rfl (lv_at hl 3 rfl) ?_
    refine bcall_Wi (va_runVN (As := [.int a1, .int a2, .int a3]) (rest := []) ⟨hx, hb, hml, hown, hts⟩ (C4_breakBottles l D cI cO q _ _ hq hP a1 a2 a3) ⟨va_cnB 3 hts gX5_carryOutOrder_X4_breakBottles_n135 rfl rfl rfl (hk.2 (.methodLinkNest RX5 135 yX4_breakBottles RX5) (List.mem_of_getElem? (i := 49) rfl)) (hts (.initialized RX4) (List.mem_of_getElem? (i := 9) rfl)) bd_X4breakBottles ⟨Nat.le_of_ble_eq_true rfl, Nat.le_of_ble_eq_true rfl⟩, (hts (.instanceMethod yX4_breakBottles) (List.mem_of_getElem? (i := 55) rfl)), (hts (.selects RX4 yX4_breakBottles yX4_breakBottles) (List.mem_of_getElem? (i := 56) rfl))⟩ (bPV hk (va_recv hk.1 hP (ci := 4) (q0 := 1) rfl (wC_1 _ _ _ _))) rfl rfl hl.1 rfl (lv_room (Nat.le_of_ble_eq_true rfl)) dX5_carryOutOrder_97 ⟨Nat.zero_le _, Nat.zero_le _⟩) hS (fun H locs hP _ hS => ?_)
    refine lv_pop hx hb dX5_carryOutOrder_100 rfl ?_
    refine lv_goto (tgt := 115) hx hb dX5_carryOutOrder_101 (by decide) ?_
    exact bret_Wv hx hb hr hP trivial hS hlocks dX5_carryOutOrder_115 (by rw [← hF, F5_carryOutOrder, if_pos c_1])
  · by_cases c_2 : (F0_letterO u) = 100
    · refine lv_lookup (off := 41) (tgt := 48) hx hb dX5_carryOutOrder_7 (by decide) (by rw [c_2]; decide) (by decide) ?_
      refine lv_aload_n hx hb dX5_carryOutOrder_48 rfl (lv_at hl 0 rfl) ?_
      refine va_get (D := D) (ci := 5) (C := RX5) (T := TX5) (N := 5) hx hb hts iX5 hown hk.1 hP 0 (wC_0 _ _ _ _) rfl 2 (by decide) (hts (.fieldLink RX5 12 "BottleLoop" "trade" "LBottleLoop$Trade;") (List.mem_of_getElem? (i := 2) rfl)) (fun _ h9 => h9) rfl dX5_carryOutOrder_49 ?_
      refine lv_iload_n hx hb dX5_carryOutOrder_52 rfl (lv_at hl 1 rfl) ?_
      refine lv_iload_n hx hb dX5_carryOutOrder_53 rfl (lv_at hl 2 rfl) ?_
      refine lv_iload_n hx hb dX5_carryOutOrder_54 rfl (lv_at hl 3 rfl) ?_
      refine bcall_Wi (va_runVN (As := [.int a1, .int a2, .int a3]) (rest := []) ⟨hx, hb, hml, hown, hts⟩ (C4_deliverCrates l D cI cO q _ _ hq hP a1 a2 a3) ⟨va_cnB 3 hts gX5_carryOutOrder_X4_deliverCrates_n117 rfl rfl rfl (hk.2 (.methodLinkNest RX5 117 yX4_deliverCrates RX5) (List.mem_of_getElem? (i := 41) rfl)) (hts (.initialized RX4) (List.mem_of_getElem? (i := 9) rfl)) bd_X4deliverCrates ⟨Nat.le_of_ble_eq_true rfl, Nat.le_of_ble_eq_true rfl⟩, (hts (.instanceMethod yX4_deliverCrates) (List.mem_of_getElem? (i := 8) rfl)), (hts (.selects RX4 yX4_deliverCrates yX4_deliverCrates) (List.mem_of_getElem? (i := 10) rfl))⟩ (bPV hk (va_recv hk.1 hP (ci := 4) (q0 := 1) rfl (wC_1 _ _ _ _))) rfl rfl hl.1 rfl (lv_room (Nat.le_of_ble_eq_true rfl)) dX5_carryOutOrder_55 ⟨Nat.zero_le _, Nat.zero_le _⟩) hS (fun H locs hP _ hS => ?_)
      refine lv_pop hx hb dX5_carryOutOrder_58 rfl ?_
      refine lv_goto (tgt := 115) hx hb dX5_carryOutOrder_59 (by decide) ?_
      exact bret_Wv hx hb hr hP trivial hS hlocks dX5_carryOutOrder_115 (by rw [← hF, F5_carryOutOrder, if_neg c_1, if_pos c_2])
    · by_cases c_3 : (F0_letterO u) = 114
      · refine lv_lookup (off := 69) (tgt := 76) hx hb dX5_carryOutOrder_7 (by decide) (by rw [c_3]; decide) (by decide) ?_
        refine lv_aload_n hx hb dX5_carryOutOrder_76 rfl (lv_at hl 0 rfl) ?_
        refine va_get (D := D) (ci := 5) (C := RX5) (T := TX5) (N := 5) hx hb hts iX5 hown hk.1 hP 0 (wC_0 _ _ _ _) rfl 2 (by decide) (hts (.fieldLink RX5 12 "BottleLoop" "trade" "LBottleLoop$Trade;") (List.mem_of_getElem? (i := 2) rfl)) (fun _ h9 => h9) rfl dX5_carryOutOrder_77 ?_
        refine lv_iload_n hx hb dX5_carryOutOrder_80 rfl (lv_at hl 1 rfl) ?_
        refine lv_iload_n hx hb dX5_carryOutOrder_81 rfl (lv_at hl 2 rfl) ?_
        refine lv_iload_n hx hb dX5_carryOutOrder_82 rfl (lv_at hl 3 rfl) ?_
        refine bcall_Wi (va_runVN (As := [.int a1, .int a2, .int a3]) (rest := []) ⟨hx, hb, hml, hown, hts⟩ (C4_returnBottles l D cI cO q _ _ hq hP a1 a2 a3) ⟨va_cnB 3 hts gX5_carryOutOrder_X4_returnBottles_n129 rfl rfl rfl (hk.2 (.methodLinkNest RX5 129 yX4_returnBottles RX5) (List.mem_of_getElem? (i := 47) rfl)) (hts (.initialized RX4) (List.mem_of_getElem? (i := 9) rfl)) bd_X4returnBottles ⟨Nat.le_of_ble_eq_true rfl, Nat.le_of_ble_eq_true rfl⟩, (hts (.instanceMethod yX4_returnBottles) (List.mem_of_getElem? (i := 52) rfl)), (hts (.selects RX4 yX4_returnBottles yX4_returnBottles) (List.mem_of_getElem? (i := 53) rfl))⟩ (bPV hk (va_recv hk.1 hP (ci := 4) (q0 := 1) rfl (wC_1 _ _ _ _))) rfl rfl hl.1 rfl (lv_room (Nat.le_of_ble_eq_true rfl)) dX5_carryOutOrder_83 ⟨Nat.zero_le _, Nat.zero_le _⟩) hS (fun H locs hP _ hS => ?_)
        refine lv_pop hx hb dX5_carryOutOrder_86 rfl ?_
        refine lv_goto (tgt := 115) hx hb dX5_carryOutOrder_87 (by decide) ?_
        exact bret_Wv hx hb hr hP trivial hS hlocks dX5_carryOutOrder_115 (by rw [← hF, F5_carryOutOrder, if_neg c_1, if_neg c_2, if_pos c_3])
      · by_cases c_4 : (F0_letterO u) = 115
        · refine lv_lookup (off := 55) (tgt := 62) hx hb dX5_carryOutOrder_7 (by decide) (by rw [c_4]; decide) (by decide) ?_
          refine lv_aload_n hx hb dX5_carryOutOrder_62 rfl (lv_at hl 0 rfl) ?_
          refine va_get (D := D) (ci := 5) (C := RX5) (T := TX5) (N := 5) hx hb hts iX5 hown hk.1 hP 0 (wC_0 _ _ _ _) rfl 2 (by decide) (hts (.fieldLink RX5 12 "BottleLoop" "trade" "LBottleLoop$Trade;") (List.mem_of_getElem? (i := 2) rfl)) (fun _ h9 => h9) rfl dX5_carryOutOrder_63 ?_
          refine lv_iload_n hx hb dX5_carryOutOrder_66 rfl (lv_at hl 1 rfl) ?_
          refine lv_iload_n hx hb dX5_carryOutOrder_67 rfl (lv_at hl 2 rfl) ?_
          refine lv_iload_n hx hb dX5_carryOutOrder_68 rfl (lv_at hl 3 rfl) ?_
          refine bcall_Wi (va_runVN (As := [.int a1, .int a2, .int a3]) (rest := []) ⟨hx, hb, hml, hown, hts⟩ (C4_sellBottles l D cI cO q _ _ hq hP a1 a2 a3) ⟨va_cnB 3 hts gX5_carryOutOrder_X4_sellBottles_n123 rfl rfl rfl (hk.2 (.methodLinkNest RX5 123 yX4_sellBottles RX5) (List.mem_of_getElem? (i := 45) rfl)) (hts (.initialized RX4) (List.mem_of_getElem? (i := 9) rfl)) bd_X4sellBottles ⟨Nat.le_of_ble_eq_true rfl, Nat.le_of_ble_eq_true rfl⟩, (hts (.instanceMethod yX4_sellBottles) (List.mem_of_getElem? (i := 42) rfl)), (hts (.selects RX4 yX4_sellBottles yX4_sellBottles) (List.mem_of_getElem? (i := 43) rfl))⟩ (bPV hk (va_recv hk.1 hP (ci := 4) (q0 := 1) rfl (wC_1 _ _ _ _))) rfl rfl hl.1 rfl (lv_room (Nat.le_of_ble_eq_true rfl)) dX5_carryOutOrder_69 ⟨Nat.zero_le _, Nat.zero_le _⟩) hS (fun H locs hP _ hS => ?_)
          refine lv_pop hx hb dX5_carryOutOrder_72 rfl ?_
          refine lv_goto (tgt := 115) hx hb dX5_carryOutOrder_73 (by decide) ?_
          exact bret_Wv hx hb hr hP trivial hS hlocks dX5_carryOutOrder_115 (by rw [← hF, F5_carryOutOrder, if_neg c_1, if_neg c_2, if_neg c_3, if_pos c_4])
        · refine lv_lookup (off := 97) (tgt := 104) hx hb dX5_carryOutOrder_7 (by decide) (by show Op.lookupswitch.offset [(98, 83), (100, 41), (114, 69), (115, 55)] (97) _ = _; rw [lv_osw (a := 98) c_1 rfl, lv_osw (a := 100) c_2 rfl, lv_osw (a := 114) c_3 rfl, lv_osw (a := 115) c_4 rfl]; rfl) (by decide) ?_
          refine lv_aload_n hx hb dX5_carryOutOrder_104 rfl (lv_at hl 0 rfl) ?_
          refine va_get (D := D) (ci := 5) (C := RX5) (T := TX5) (N := 5) hx hb hts iX5 hown hk.1 hP 0 (wC_0 _ _ _ _) rfl 2 (by decide) (hts (.fieldLink RX5 12 "BottleLoop" "trade" "LBottleLoop$Trade;") (List.mem_of_getElem? (i := 2) rfl)) (fun _ h9 => h9) rfl dX5_carryOutOrder_105 ?_
          refine lv_iload_n hx hb dX5_carryOutOrder_108 rfl (lv_at hl 1 rfl) ?_
          refine lv_iload_n hx hb dX5_carryOutOrder_109 rfl (lv_at hl 2 rfl) ?_
          refine lv_iload_n hx hb dX5_carryOutOrder_110 rfl (lv_at hl 3 rfl) ?_
          refine bcall_Wi (va_runVN (As := [.int a1, .int a2, .int a3]) (rest := []) ⟨hx, hb, hml, hown, hts⟩ (C4_collectCrates l D cI cO q _ _ hq hP a1 a2 a3) ⟨va_cnB 3 hts gX5_carryOutOrder_X4_collectCrates_n144 rfl rfl rfl (hk.2 (.methodLinkNest RX5 144 yX4_collectCrates RX5) (List.mem_of_getElem? (i := 52) rfl)) (hts (.initialized RX4) (List.mem_of_getElem? (i := 9) rfl)) bd_X4collectCrates ⟨Nat.le_of_ble_eq_true rfl, Nat.le_of_ble_eq_true rfl⟩, (hts (.instanceMethod yX4_collectCrates) (List.mem_of_getElem? (i := 65) rfl)), (hts (.selects RX4 yX4_collectCrates yX4_collectCrates) (List.mem_of_getElem? (i := 66) rfl))⟩ (bPV hk (va_recv hk.1 hP (ci := 4) (q0 := 1) rfl (wC_1 _ _ _ _))) rfl rfl hl.1 rfl (lv_room (Nat.le_of_ble_eq_true rfl)) dX5_carryOutOrder_111 ⟨Nat.zero_le _, Nat.zero_le _⟩) hS (fun H locs hP _ hS => ?_)
          refine lv_pop hx hb dX5_carryOutOrder_114 rfl ?_
          exact bret_Wv hx hb hr hP trivial hS hlocks dX5_carryOutOrder_115 (by rw [← hF, F5_carryOutOrder, if_neg c_1, if_neg c_2, if_neg c_3, if_neg c_4])
def F5_mixed (a1 : Int64) (a2 : Int64) : Int64 := ((31 * a1) + a2)
set_option maxHeartbeats 4000000 in
set_option maxRecDepth 100000 in
theorem C5_mixed (l : Launch) (D : va_G) (cI cO : ClassId) (q : Nat → Nat) (H0 : Heap) (a1 : Int64) (a2 : Int64) : Met l yX5_mixed wsX5_mixed ({ frames := 0, cells := 0, slots := 0, locals := 0 }) (bP D [(cI, .int), (cO, .object RX2)] H0 [.long a1, .long a2]) (bRl H0 (F5_mixed a1 a2)) 0 0 (fun _ => False) := by
  refine Met.ofW (cc := cX5_mixed) (maxL := 4) (ret := (some .long)) (by decide) rfl ?_
  intro p e s m args below meth c s₁ B hml hv
  obtain ⟨rfl, hH, hk⟩ := hv
  subst hH
  have hx := B.exec
  have hb := B.bytes
  have hr := B.returns
  have hts := atoms_spec (ws := wsX5_mixed) B.pre
  have hown : s.vm.findClass RX5 = some m.cls := findClass_of_methodNamed B.named
  have hlocks := B.notSynchronized
  have hS : va_S (fun _ => False) s.heap s.heap [] := va_S.rf
  have hl := lv_entry ([.long a1, .long a2]) (n := 4) (Nat.le_of_ble_eq_true rfl)
  rw [lg_entry_eq]
  generalize (lg_sl ([.long a1, .long a2]) ++ List.replicate (4 - (lg_sl ([.long a1, .long a2])).length) Slot.unset).toArray = ls at hl ⊢
  have hl : lv_has ls 4 [(0, .long a1), (2, .long a2)] := hl
  generalize hF : F5_mixed a1 a2 = tgt
  refine lv_ldc2 (v := 31) hx hb hown (hts (.constantLong RX5 241 (31)) (List.mem_of_getElem? (i := 1) rfl)) dX5_mixed_0 ?_
  refine lv_lload_n hx hb dX5_mixed_3 rfl (lv_at hl 0 rfl) ?_
  refine lv_lmul hx hb dX5_mixed_4 ?_
  refine lv_lload_n hx hb dX5_mixed_5 rfl (lv_at hl 1 rfl) ?_
  refine lv_ladd hx hb dX5_mixed_6 ?_
  exact bret_Rl hx hb hr hS hlocks dX5_mixed_7 (by rw [← hF, F5_mixed])
def L5_mixedBrand_6 (u : bU) (a2 : Int32) : Nat → Nat → Int64 → Int64
  | 0, _, x4_6 => x4_6
  | n6 + 1, j6, x4_6 => (if (12 : Int32) ≤ (nI j6) then x4_6 else (L5_mixedBrand_6 u a2 n6 (j6 + 1) (F5_mixed x4_6 (((F2_brandNumber u a2 (nI j6))).toInt64))))
def L5_mixedBrand_61 (u : bU) (a2 : Int32) : Nat → Nat → Int64 → Int64
  | 0, _, x4_61 => x4_61
  | n61 + 1, j61, x4_61 => (if (F2_ofAll u 1) ≤ (nI j61) then x4_61 else (L5_mixedBrand_61 u a2 n61 (j61 + 1) (F5_mixed x4_61 (((F4_mostDeliverable u a2 (nI j61))).toInt64))))
def F5_mixedBrand (u : bU) (a1 : Int64) (a2 : Int32) : Int64 := (L5_mixedBrand_61 u a2 ((F2_ofAll u 1).toNatClampNeg + 1) 0 (F5_mixed (L5_mixedBrand_6 u a2 (12 + 1) 0 a1) (((25 - (F4_wornBy u a2 25))).toInt64)))
set_option maxHeartbeats 4000000 in
set_option maxRecDepth 100000 in
theorem C5_mixedBrand (l : Launch) (D : va_G) (cI cO : ClassId) (q : Nat → Nat) (u : bU) (H0 : Heap) (hP : va_P D vwCl (wC cI cO q u) H0) (a1 : Int64) (a2 : Int32) : Met l yX5_mixedBrand wsX5_mixedBrand ({ frames := 5, cells := 0, slots := 0, locals := 109 }) (bP D [(cI, .int), (cO, .object RX2)] H0 [.ref (q 0), .long a1, .int a2]) (bRl H0 (F5_mixedBrand u a1 a2)) 0 0 (fun _ => False) := by
  refine Met.ofW (cc := cX5_mixedBrand) (maxL := 7) (ret := (some .long)) (by decide) rfl ?_
  intro p e s m args below meth c s₁ B hml hv
  obtain ⟨rfl, hH, hk⟩ := hv
  subst hH
  have hx := B.exec
  have hb := B.bytes
  have hr := B.returns
  have hts := atoms_spec (ws := wsX5_mixedBrand) B.pre
  have hown : s.vm.findClass RX5 = some m.cls := findClass_of_methodNamed B.named
  have hlocks := B.notSynchronized
  have iX5 : ∀ w ∈ wsX50, w ∈ wsX5_mixedBrand := by decide +kernel
  have hS : va_S (fun _ => False) s.heap s.heap [] := va_S.rf
  have hl := lv_entry ([.ref (q 0), .long a1, .int a2]) (n := 7) (Nat.le_of_ble_eq_true rfl)
  rw [lg_entry_eq]
  generalize (lg_sl ([.ref (q 0), .long a1, .int a2]) ++ List.replicate (7 - (lg_sl ([.ref (q 0), .long a1, .int a2])).length) Slot.unset).toArray = ls at hl ⊢
  have hl : lv_has ls 7 [(0, .ref (q 0)), (1, .long a1), (3, .int a2)] := hl
  generalize hF : F5_mixedBrand u a1 a2 = tgt
  refine lv_lload_n hx hb dX5_mixedBrand_0 rfl (lv_at hl 1 rfl) ?_
  refine lv_lstore (lv' := [(4, .long a1), (0, .ref (q 0)), (1, .long a1), (3, .int a2)]) hx hb dX5_mixedBrand_1 hl (by decide) rfl (fun ls hl => ?_)
  refine lv_iconst (v := 0) hx hb dX5_mixedBrand_3 (by decide) ?_
  refine lv_istore (lv' := [(6, .int 0), (4, .long a1), (0, .ref (q 0)), (1, .long a1), (3, .int a2)]) hx hb dX5_mixedBrand_4 hl (by decide) rfl (fun ls hl => ?_)
  have loop6 : ∀ (n6 j6 : Nat) (x4_6 : Int64) (locs : List Loc) (ls : Array Slot), j6 ≤ 12 → 12 + 1 ≤ n6 + j6 → lv_has ls 7 [(0, .ref (q 0)), (1, .long a1), (3, .int a2), (4, .long x4_6), (6, .int (nI j6))] → va_S (fun _ => False) s.heap s.heap locs → ∀ X : Int64, L5_mixedBrand_6 u a2  n6 j6 x4_6 = X → (∀ (locs : List Loc) (ls : Array Slot), lv_has ls 7 [(0, .ref (q 0)), (1, .long a1), (3, .int a2), (4, .long X)] → va_S (fun _ => False) s.heap s.heap locs → W p l e (headSpec wsX5_mixedBrand ({ frames := 5, cells := 0, slots := 0, locals := 109 })).room s m ([.ref (q 0), .long a1, .int a2] : List Value).toArray below meth c s.heap locs 0 0 (MQ below (bRl s.heap tgt) ([.ref (q 0), .long a1, .int a2] : List Value).toArray s 0 0 (fun _ => False)) (F0 m 37 ls [])) → W p l e (headSpec wsX5_mixedBrand ({ frames := 5, cells := 0, slots := 0, locals := 109 })).room s m ([.ref (q 0), .long a1, .int a2] : List Value).toArray below meth c s.heap locs 0 0 (MQ below (bRl s.heap tgt) ([.ref (q 0), .long a1, .int a2] : List Value).toArray s 0 0 (fun _ => False)) (F0 m 6 ls []) := by
    intro n6
    induction n6 with
    | zero => intro j6 x4_6 locs ls hj hn; exact absurd hn (by omega)
    | succ n6 ih =>
      intro j6 x4_6 locs ls hj hn hl hS X hF kx
      refine lv_iload hx hb dX5_mixedBrand_6 (lv_at hl 4 rfl) ?_
      refine lv_bipush (v := 12) hx hb dX5_mixedBrand_8 (by decide) ?_
      refine lv_icmp_ge (tgt := 37) hx hb dX5_mixedBrand_10 (by decide) (fun c_1 => ?_) (fun c_1 => ?_)
      · obtain rfl : X = x4_6 := by rw [← hF, L5_mixedBrand_6, if_pos c_1]
        exact kx _ _ (lv_sub hl [0, 1, 2, 3] rfl) hS
      · have hlt_2 : j6 < 12 := bLt c_1 (by omega) (by decide)
        refine lv_lload hx hb dX5_mixedBrand_13 (lv_at hl 3 rfl) ?_
        refine lv_aload_n hx hb dX5_mixedBrand_15 rfl (lv_at hl 0 rfl) ?_
        refine va_get (D := D) (ci := 5) (C := RX5) (T := TX5) (N := 5) hx hb hts iX5 hown hk.1 hP 0 (wC_0 _ _ _ _) rfl 0 (by decide) (hts (.fieldLink RX5 20 "BottleLoop" "now" "LBottleLoop$State;") (List.mem_of_getElem? (i := 1) rfl)) (fun _ h9 => h9) rfl dX5_mixedBrand_16 ?_
        refine lv_iload_n hx hb dX5_mixedBrand_19 rfl (lv_at hl 2 rfl) ?_
        refine lv_iload hx hb dX5_mixedBrand_20 (lv_at hl 4 rfl) ?_
        refine bcall_Ri (va_runVN (As := [.int a2, .int (nI j6)]) (rest := [.long x4_6]) ⟨hx, hb, hml, hown, hts⟩ (C2_brandNumber l D cI cO q _ _ hP a2 (nI j6)) ⟨va_cnB 2 hts gX5_mixedBrand_X2_brandNumber_n185 rfl rfl rfl (hk.2 (.methodLinkNest RX5 185 yX2_brandNumber RX5) (List.mem_of_getElem? (i := 19) rfl)) (hts (.initialized RX2) (List.mem_of_getElem? (i := 4) rfl)) bd_X2brandNumber ⟨Nat.le_of_ble_eq_true rfl, Nat.le_of_ble_eq_true rfl⟩, (hts (.instanceMethod yX2_brandNumber) (List.mem_of_getElem? (i := 3) rfl)), (hts (.selects RX2 yX2_brandNumber yX2_brandNumber) (List.mem_of_getElem? (i := 5) rfl))⟩ (bPV hk (va_recv hk.1 hP (ci := 2) (q0 := 3) rfl (wC_3 _ _ _ _))) rfl rfl hl.1 rfl (lv_room (Nat.le_of_ble_eq_true rfl)) dX5_mixedBrand_22 ⟨Nat.zero_le _, Nat.zero_le _⟩) hS (fun locs hS => ?_)
        refine lv_i2l (v := ((F2_brandNumber u a2 (nI j6))).toInt64) hx hb dX5_mixedBrand_25 rfl ?_
        refine bcall_Rl (va_runS (As := [.long x4_6, .long (((F2_brandNumber u a2 (nI j6))).toInt64)]) (rest := []) ⟨hx, hb, hml, hown, hts⟩ (C5_mixed l D cI cO q _ x4_6 (((F2_brandNumber u a2 (nI j6))).toInt64)) (va_cwS 2 hts gX5_mixedBrand_X5_mixed rfl rfl rfl bd_X5mixed ⟨Nat.le_of_ble_eq_true rfl, Nat.le_of_ble_eq_true rfl⟩) (bPS hk) rfl rfl hl.1 rfl (lv_room (Nat.le_of_ble_eq_true rfl)) dX5_mixedBrand_26 ⟨Nat.zero_le _, Nat.zero_le _⟩) hS (fun locs hS => ?_)
        refine lv_lstore (lv' := [(4, .long (F5_mixed x4_6 (((F2_brandNumber u a2 (nI j6))).toInt64))), (0, .ref (q 0)), (1, .long a1), (3, .int a2), (6, .int (nI j6))]) hx hb dX5_mixedBrand_29 hl (by decide) rfl (fun ls hl => ?_)
        refine lv_iinc (v := (nI (j6 + 1))) (lv' := [(6, .int (nI (j6 + 1))), (4, .long (F5_mixed x4_6 (((F2_brandNumber u a2 (nI j6))).toInt64))), (0, .ref (q 0)), (1, .long a1), (3, .int a2)]) hx hb dX5_mixedBrand_31 hl (k := 4) rfl (bInc j6) (by decide) rfl (fun ls hl => ?_)
        refine lv_goto (tgt := 6) hx hb dX5_mixedBrand_34 (by decide) ?_
        exact ih (j6 + 1) (F5_mixed x4_6 (((F2_brandNumber u a2 (nI j6))).toInt64)) _ _ (by omega) (by omega) (lv_sub hl [2, 3, 4, 1, 0] rfl) hS X (by rw [← hF, L5_mixedBrand_6, if_neg c_1]) kx
  refine loop6 (12 + 1) 0 a1 _ _ (by omega) (by omega) (lv_sub hl [2, 3, 4, 1, 0] rfl) hS _ rfl (fun locs ls hl hS => ?_)
  refine lv_lload hx hb dX5_mixedBrand_37 (lv_at hl 3 rfl) ?_
  refine lv_bipush (v := 25) hx hb dX5_mixedBrand_39 (by decide) ?_
  refine lv_aload_n hx hb dX5_mixedBrand_41 rfl (lv_at hl 0 rfl) ?_
  refine va_get (D := D) (ci := 5) (C := RX5) (T := TX5) (N := 5) hx hb hts iX5 hown hk.1 hP 0 (wC_0 _ _ _ _) rfl 2 (by decide) (hts (.fieldLink RX5 12 "BottleLoop" "trade" "LBottleLoop$Trade;") (List.mem_of_getElem? (i := 2) rfl)) (fun _ h9 => h9) rfl dX5_mixedBrand_42 ?_
  refine lv_iload_n hx hb dX5_mixedBrand_45 rfl (lv_at hl 2 rfl) ?_
  refine lv_bipush (v := 25) hx hb dX5_mixedBrand_46 (by decide) ?_
  refine bcall_Ri (va_runVN (As := [.int a2, .int 25]) (rest := [.int 25, .long (L5_mixedBrand_6 u a2 (12 + 1) 0 a1)]) ⟨hx, hb, hml, hown, hts⟩ (C4_wornBy l D cI cO q _ _ hP a2 25) ⟨va_cnB 2 hts gX5_mixedBrand_X4_wornBy_n201 rfl rfl rfl (hk.2 (.methodLinkNest RX5 201 yX4_wornBy RX5) (List.mem_of_getElem? (i := 20) rfl)) (hts (.initialized RX4) (List.mem_of_getElem? (i := 30) rfl)) bd_X4wornBy ⟨Nat.le_of_ble_eq_true rfl, Nat.le_of_ble_eq_true rfl⟩, (hts (.instanceMethod yX4_wornBy) (List.mem_of_getElem? (i := 29) rfl)), (hts (.selects RX4 yX4_wornBy yX4_wornBy) (List.mem_of_getElem? (i := 31) rfl))⟩ (bPV hk (va_recv hk.1 hP (ci := 4) (q0 := 1) rfl (wC_1 _ _ _ _))) rfl rfl hl.1 rfl (lv_room (Nat.le_of_ble_eq_true rfl)) dX5_mixedBrand_48 ⟨Nat.zero_le _, Nat.zero_le _⟩) hS (fun locs hS => ?_)
  refine lv_isub hx hb dX5_mixedBrand_51 ?_
  refine lv_i2l (v := ((25 - (F4_wornBy u a2 25))).toInt64) hx hb dX5_mixedBrand_52 rfl ?_
  refine bcall_Rl (va_runS (As := [.long (L5_mixedBrand_6 u a2 (12 + 1) 0 a1), .long (((25 - (F4_wornBy u a2 25))).toInt64)]) (rest := []) ⟨hx, hb, hml, hown, hts⟩ (C5_mixed l D cI cO q _ (L5_mixedBrand_6 u a2 (12 + 1) 0 a1) (((25 - (F4_wornBy u a2 25))).toInt64)) (va_cwS 2 hts gX5_mixedBrand_X5_mixed rfl rfl rfl bd_X5mixed ⟨Nat.le_of_ble_eq_true rfl, Nat.le_of_ble_eq_true rfl⟩) (bPS hk) rfl rfl hl.1 rfl (lv_room (Nat.le_of_ble_eq_true rfl)) dX5_mixedBrand_53 ⟨Nat.zero_le _, Nat.zero_le _⟩) hS (fun locs hS => ?_)
  refine lv_lstore (lv' := [(4, .long (F5_mixed (L5_mixedBrand_6 u a2 (12 + 1) 0 a1) (((25 - (F4_wornBy u a2 25))).toInt64))), (0, .ref (q 0)), (1, .long a1), (3, .int a2)]) hx hb dX5_mixedBrand_56 hl (by decide) rfl (fun ls hl => ?_)
  refine lv_iconst (v := 0) hx hb dX5_mixedBrand_58 (by decide) ?_
  refine lv_istore (lv' := [(6, .int 0), (4, .long (F5_mixed (L5_mixedBrand_6 u a2 (12 + 1) 0 a1) (((25 - (F4_wornBy u a2 25))).toInt64))), (0, .ref (q 0)), (1, .long a1), (3, .int a2)]) hx hb dX5_mixedBrand_59 hl (by decide) rfl (fun ls hl => ?_)
  have hB61 := bClamp (F2_ofAll u 1)
  have loop61 : ∀ (n61 j61 : Nat) (x4_61 : Int64) (locs : List Loc) (ls : Array Slot), j61 ≤ (F2_ofAll u 1).toNatClampNeg → (F2_ofAll u 1).toNatClampNeg + 1 ≤ n61 + j61 → lv_has ls 7 [(0, .ref (q 0)), (1, .long a1), (3, .int a2), (4, .long x4_61), (6, .int (nI j61))] → va_S (fun _ => False) s.heap s.heap locs → ∀ X : Int64, L5_mixedBrand_61 u a2  n61 j61 x4_61 = X → (∀ (locs : List Loc) (ls : Array Slot), lv_has ls 7 [(0, .ref (q 0)), (1, .long a1), (3, .int a2), (4, .long X)] → va_S (fun _ => False) s.heap s.heap locs → W p l e (headSpec wsX5_mixedBrand ({ frames := 5, cells := 0, slots := 0, locals := 109 })).room s m ([.ref (q 0), .long a1, .int a2] : List Value).toArray below meth c s.heap locs 0 0 (MQ below (bRl s.heap tgt) ([.ref (q 0), .long a1, .int a2] : List Value).toArray s 0 0 (fun _ => False)) (F0 m 98 ls [])) → W p l e (headSpec wsX5_mixedBrand ({ frames := 5, cells := 0, slots := 0, locals := 109 })).room s m ([.ref (q 0), .long a1, .int a2] : List Value).toArray below meth c s.heap locs 0 0 (MQ below (bRl s.heap tgt) ([.ref (q 0), .long a1, .int a2] : List Value).toArray s 0 0 (fun _ => False)) (F0 m 61 ls []) := by
    intro n61
    induction n61 with
    | zero => intro j61 x4_61 locs ls hj hn; exact absurd hn (by omega)
    | succ n61 ih =>
      intro j61 x4_61 locs ls hj hn hl hS X hF kx
      refine lv_iload hx hb dX5_mixedBrand_61 (lv_at hl 4 rfl) ?_
      refine lv_aload_n hx hb dX5_mixedBrand_63 rfl (lv_at hl 0 rfl) ?_
      refine va_get (D := D) (ci := 5) (C := RX5) (T := TX5) (N := 5) hx hb hts iX5 hown hk.1 hP 0 (wC_0 _ _ _ _) rfl 0 (by decide) (hts (.fieldLink RX5 20 "BottleLoop" "now" "LBottleLoop$State;") (List.mem_of_getElem? (i := 1) rfl)) (fun _ h9 => h9) rfl dX5_mixedBrand_64 ?_
      refine lv_iconst (v := 1) hx hb dX5_mixedBrand_67 (by decide) ?_
      refine bcall_Ri (va_runVN (As := [.int 1]) (rest := [.int (nI j61)]) ⟨hx, hb, hml, hown, hts⟩ (C2_ofAll l D cI cO q _ _ hP 1) ⟨va_cnB 1 hts gX5_mixedBrand_X2_ofAll_n52 rfl rfl rfl (hk.2 (.methodLinkNest RX5 52 yX2_ofAll RX5) (List.mem_of_getElem? (i := 18) rfl)) (hts (.initialized RX2) (List.mem_of_getElem? (i := 4) rfl)) bd_X2ofAll ⟨Nat.le_of_ble_eq_true rfl, Nat.le_of_ble_eq_true rfl⟩, (hts (.instanceMethod yX2_ofAll) (List.mem_of_getElem? (i := 37) rfl)), (hts (.selects RX2 yX2_ofAll yX2_ofAll) (List.mem_of_getElem? (i := 38) rfl))⟩ (bPV hk (va_recv hk.1 hP (ci := 2) (q0 := 3) rfl (wC_3 _ _ _ _))) rfl rfl hl.1 rfl (lv_room (Nat.le_of_ble_eq_true rfl)) dX5_mixedBrand_68 ⟨Nat.zero_le _, Nat.zero_le _⟩) hS (fun locs hS => ?_)
      refine lv_icmp_ge (tgt := 98) hx hb dX5_mixedBrand_71 (by decide) (fun c_3 => ?_) (fun c_3 => ?_)
      · obtain rfl : X = x4_61 := by rw [← hF, L5_mixedBrand_61, if_pos c_3]
        exact kx _ _ (lv_sub hl [0, 1, 2, 3] rfl) hS
      · have hlt_4 : j61 < (F2_ofAll u 1).toNatClampNeg := bLtB c_3 (by omega)
        refine lv_lload hx hb dX5_mixedBrand_74 (lv_at hl 3 rfl) ?_
        refine lv_aload_n hx hb dX5_mixedBrand_76 rfl (lv_at hl 0 rfl) ?_
        refine va_get (D := D) (ci := 5) (C := RX5) (T := TX5) (N := 5) hx hb hts iX5 hown hk.1 hP 0 (wC_0 _ _ _ _) rfl 2 (by decide) (hts (.fieldLink RX5 12 "BottleLoop" "trade" "LBottleLoop$Trade;") (List.mem_of_getElem? (i := 2) rfl)) (fun _ h9 => h9) rfl dX5_mixedBrand_77 ?_
        refine lv_iload_n hx hb dX5_mixedBrand_80 rfl (lv_at hl 2 rfl) ?_
        refine lv_iload hx hb dX5_mixedBrand_81 (lv_at hl 4 rfl) ?_
        refine bcall_Ri (va_runVN (As := [.int a2, .int (nI j61)]) (rest := [.long x4_61]) ⟨hx, hb, hml, hown, hts⟩ (C4_mostDeliverable l D cI cO q _ _ hP a2 (nI j61)) ⟨va_cnB 2 hts gX5_mixedBrand_X4_mostDeliverable_n195 rfl rfl rfl (hk.2 (.methodLinkNest RX5 195 yX4_mostDeliverable RX5) (List.mem_of_getElem? (i := 23) rfl)) (hts (.initialized RX4) (List.mem_of_getElem? (i := 30) rfl)) bd_X4mostDeliverable ⟨Nat.le_of_ble_eq_true rfl, Nat.le_of_ble_eq_true rfl⟩, (hts (.instanceMethod yX4_mostDeliverable) (List.mem_of_getElem? (i := 40) rfl)), (hts (.selects RX4 yX4_mostDeliverable yX4_mostDeliverable) (List.mem_of_getElem? (i := 41) rfl))⟩ (bPV hk (va_recv hk.1 hP (ci := 4) (q0 := 1) rfl (wC_1 _ _ _ _))) rfl rfl hl.1 rfl (lv_room (Nat.le_of_ble_eq_true rfl)) dX5_mixedBrand_83 ⟨Nat.zero_le _, Nat.zero_le _⟩) hS (fun locs hS => ?_)
        refine lv_i2l (v := ((F4_mostDeliverable u a2 (nI j61))).toInt64) hx hb dX5_mixedBrand_86 rfl ?_
        refine bcall_Rl (va_runS (As := [.long x4_61, .long (((F4_mostDeliverable u a2 (nI j61))).toInt64)]) (rest := []) ⟨hx, hb, hml, hown, hts⟩ (C5_mixed l D cI cO q _ x4_61 (((F4_mostDeliverable u a2 (nI j61))).toInt64)) (va_cwS 2 hts gX5_mixedBrand_X5_mixed rfl rfl rfl bd_X5mixed ⟨Nat.le_of_ble_eq_true rfl, Nat.le_of_ble_eq_true rfl⟩) (bPS hk) rfl rfl hl.1 rfl (lv_room (Nat.le_of_ble_eq_true rfl)) dX5_mixedBrand_87 ⟨Nat.zero_le _, Nat.zero_le _⟩) hS (fun locs hS => ?_)
        refine lv_lstore (lv' := [(4, .long (F5_mixed x4_61 (((F4_mostDeliverable u a2 (nI j61))).toInt64))), (0, .ref (q 0)), (1, .long a1), (3, .int a2), (6, .int (nI j61))]) hx hb dX5_mixedBrand_90 hl (by decide) rfl (fun ls hl => ?_)
        refine lv_iinc (v := (nI (j61 + 1))) (lv' := [(6, .int (nI (j61 + 1))), (4, .long (F5_mixed x4_61 (((F4_mostDeliverable u a2 (nI j61))).toInt64))), (0, .ref (q 0)), (1, .long a1), (3, .int a2)]) hx hb dX5_mixedBrand_92 hl (k := 4) rfl (bInc j61) (by decide) rfl (fun ls hl => ?_)
        refine lv_goto (tgt := 61) hx hb dX5_mixedBrand_95 (by decide) ?_
        exact ih (j61 + 1) (F5_mixed x4_61 (((F4_mostDeliverable u a2 (nI j61))).toInt64)) _ _ (by omega) (by omega) (lv_sub hl [2, 3, 4, 1, 0] rfl) hS X (by rw [← hF, L5_mixedBrand_61, if_neg c_3]) kx
  refine loop61 ((F2_ofAll u 1).toNatClampNeg + 1) 0 (F5_mixed (L5_mixedBrand_6 u a2 (12 + 1) 0 a1) (((25 - (F4_wornBy u a2 25))).toInt64)) _ _ (by omega) (by omega) (lv_sub hl [2, 3, 4, 1, 0] rfl) hS _ rfl (fun locs ls hl hS => ?_)
  refine lv_lload hx hb dX5_mixedBrand_98 (lv_at hl 3 rfl) ?_
  exact bret_Rl hx hb hr hS hlocks dX5_mixedBrand_100 (by rw [← hF, F5_mixedBrand])
def L5_mixedShop_6 (u : bU) (a2 : Int32) : Nat → Nat → Int64 → Int64
  | 0, _, x4_6 => x4_6
  | n6 + 1, j6, x4_6 => (if (28 : Int32) ≤ (nI j6) then x4_6 else (if (F5_isShopNumber (nI j6)) = 0 then (L5_mixedShop_6 u a2 n6 (j6 + 1) x4_6) else (L5_mixedShop_6 u a2 n6 (j6 + 1) (F5_mixed x4_6 (((F2_shopNumber u a2 (nI j6))).toInt64)))))
def F5_mixedShop (u : bU) (a1 : Int64) (a2 : Int32) : Int64 := (L5_mixedShop_6 u a2 (28 + 1) 0 a1)
set_option maxHeartbeats 4000000 in
set_option maxRecDepth 100000 in
theorem C5_mixedShop (l : Launch) (D : va_G) (cI cO : ClassId) (q : Nat → Nat) (u : bU) (H0 : Heap) (hP : va_P D vwCl (wC cI cO q u) H0) (a1 : Int64) (a2 : Int32) : Met l yX5_mixedShop wsX5_mixedShop ({ frames := 4, cells := 0, slots := 0, locals := 89 }) (bP D [(cI, .int), (cO, .object RX2)] H0 [.ref (q 0), .long a1, .int a2]) (bRl H0 (F5_mixedShop u a1 a2)) 0 0 (fun _ => False) := by
  refine Met.ofW (cc := cX5_mixedShop) (maxL := 7) (ret := (some .long)) (by decide) rfl ?_
  intro p e s m args below meth c s₁ B hml hv
  obtain ⟨rfl, hH, hk⟩ := hv
  subst hH
  have hx := B.exec
  have hb := B.bytes
  have hr := B.returns
  have hts := atoms_spec (ws := wsX5_mixedShop) B.pre
  have hown : s.vm.findClass RX5 = some m.cls := findClass_of_methodNamed B.named
  have hlocks := B.notSynchronized
  have iX5 : ∀ w ∈ wsX50, w ∈ wsX5_mixedShop := by decide +kernel
  have hS : va_S (fun _ => False) s.heap s.heap [] := va_S.rf
  have hl := lv_entry ([.ref (q 0), .long a1, .int a2]) (n := 7) (Nat.le_of_ble_eq_true rfl)
  rw [lg_entry_eq]
  generalize (lg_sl ([.ref (q 0), .long a1, .int a2]) ++ List.replicate (7 - (lg_sl ([.ref (q 0), .long a1, .int a2])).length) Slot.unset).toArray = ls at hl ⊢
  have hl : lv_has ls 7 [(0, .ref (q 0)), (1, .long a1), (3, .int a2)] := hl
  generalize hF : F5_mixedShop u a1 a2 = tgt
  refine lv_lload_n hx hb dX5_mixedShop_0 rfl (lv_at hl 1 rfl) ?_
  refine lv_lstore (lv' := [(4, .long a1), (0, .ref (q 0)), (1, .long a1), (3, .int a2)]) hx hb dX5_mixedShop_1 hl (by decide) rfl (fun ls hl => ?_)
  refine lv_iconst (v := 0) hx hb dX5_mixedShop_3 (by decide) ?_
  refine lv_istore (lv' := [(6, .int 0), (4, .long a1), (0, .ref (q 0)), (1, .long a1), (3, .int a2)]) hx hb dX5_mixedShop_4 hl (by decide) rfl (fun ls hl => ?_)
  have loop6 : ∀ (n6 j6 : Nat) (x4_6 : Int64) (locs : List Loc) (ls : Array Slot), j6 ≤ 28 → 28 + 1 ≤ n6 + j6 → lv_has ls 7 [(0, .ref (q 0)), (1, .long a1), (3, .int a2), (4, .long x4_6), (6, .int (nI j6))] → va_S (fun _ => False) s.heap s.heap locs → ∀ X : Int64, L5_mixedShop_6 u a2  n6 j6 x4_6 = X → (∀ (locs : List Loc) (ls : Array Slot), lv_has ls 7 [(0, .ref (q 0)), (1, .long a1), (3, .int a2), (4, .long X)] → va_S (fun _ => False) s.heap s.heap locs → W p l e (headSpec wsX5_mixedShop ({ frames := 4, cells := 0, slots := 0, locals := 89 })).room s m ([.ref (q 0), .long a1, .int a2] : List Value).toArray below meth c s.heap locs 0 0 (MQ below (bRl s.heap tgt) ([.ref (q 0), .long a1, .int a2] : List Value).toArray s 0 0 (fun _ => False)) (F0 m 45 ls [])) → W p l e (headSpec wsX5_mixedShop ({ frames := 4, cells := 0, slots := 0, locals := 89 })).room s m ([.ref (q 0), .long a1, .int a2] : List Value).toArray below meth c s.heap locs 0 0 (MQ below (bRl s.heap tgt) ([.ref (q 0), .long a1, .int a2] : List Value).toArray s 0 0 (fun _ => False)) (F0 m 6 ls []) := by
    intro n6
    induction n6 with
    | zero => intro j6 x4_6 locs ls hj hn; exact absurd hn (by omega)
    | succ n6 ih =>
      intro j6 x4_6 locs ls hj hn hl hS X hF kx
      refine lv_iload hx hb dX5_mixedShop_6 (lv_at hl 4 rfl) ?_
      refine lv_bipush (v := 28) hx hb dX5_mixedShop_8 (by decide) ?_
      refine lv_icmp_ge (tgt := 45) hx hb dX5_mixedShop_10 (by decide) (fun c_1 => ?_) (fun c_1 => ?_)
      · obtain rfl : X = x4_6 := by rw [← hF, L5_mixedShop_6, if_pos c_1]
        exact kx _ _ (lv_sub hl [0, 1, 2, 3] rfl) hS
      · have hlt_2 : j6 < 28 := bLt c_1 (by omega) (by decide)
        refine lv_iload hx hb dX5_mixedShop_13 (lv_at hl 4 rfl) ?_
        refine bcall_Ri (va_runS (As := [.int (nI j6)]) (rest := []) ⟨hx, hb, hml, hown, hts⟩ (C5_isShopNumber l D cI cO q _ (nI j6)) (va_cwS 1 hts gX5_mixedShop_X5_isShopNumber rfl rfl rfl bd_X5isShopNumber ⟨Nat.le_of_ble_eq_true rfl, Nat.le_of_ble_eq_true rfl⟩) (bPS hk) rfl rfl hl.1 rfl (lv_room (Nat.le_of_ble_eq_true rfl)) dX5_mixedShop_15 ⟨Nat.zero_le _, Nat.zero_le _⟩) hS (fun locs hS => ?_)
        refine lv_if_eq (tgt := 39) hx hb dX5_mixedShop_18 (by decide) (fun c_3 => ?_) (fun c_3 => ?_)
        · refine lv_iinc (v := (nI (j6 + 1))) (lv' := [(6, .int (nI (j6 + 1))), (0, .ref (q 0)), (1, .long a1), (3, .int a2), (4, .long x4_6)]) hx hb dX5_mixedShop_39 hl (k := 4) rfl (bInc j6) (by decide) rfl (fun ls hl => ?_)
          refine lv_goto (tgt := 6) hx hb dX5_mixedShop_42 (by decide) ?_
          exact ih (j6 + 1) x4_6 _ _ (by omega) (by omega) (lv_sub hl [1, 2, 3, 4, 0] rfl) hS X (by rw [← hF, L5_mixedShop_6, if_neg c_1, if_pos c_3]) kx
        · refine lv_lload hx hb dX5_mixedShop_21 (lv_at hl 3 rfl) ?_
          refine lv_aload_n hx hb dX5_mixedShop_23 rfl (lv_at hl 0 rfl) ?_
          refine va_get (D := D) (ci := 5) (C := RX5) (T := TX5) (N := 5) hx hb hts iX5 hown hk.1 hP 0 (wC_0 _ _ _ _) rfl 0 (by decide) (hts (.fieldLink RX5 20 "BottleLoop" "now" "LBottleLoop$State;") (List.mem_of_getElem? (i := 1) rfl)) (fun _ h9 => h9) rfl dX5_mixedShop_24 ?_
          refine lv_iload_n hx hb dX5_mixedShop_27 rfl (lv_at hl 2 rfl) ?_
          refine lv_iload hx hb dX5_mixedShop_28 (lv_at hl 4 rfl) ?_
          refine bcall_Ri (va_runVN (As := [.int a2, .int (nI j6)]) (rest := [.long x4_6]) ⟨hx, hb, hml, hown, hts⟩ (C2_shopNumber l D cI cO q _ _ hP a2 (nI j6)) ⟨va_cnB 2 hts gX5_mixedShop_X2_shopNumber_n192 rfl rfl rfl (hk.2 (.methodLinkNest RX5 192 yX2_shopNumber RX5) (List.mem_of_getElem? (i := 26) rfl)) (hts (.initialized RX2) (List.mem_of_getElem? (i := 7) rfl)) bd_X2shopNumber ⟨Nat.le_of_ble_eq_true rfl, Nat.le_of_ble_eq_true rfl⟩, (hts (.instanceMethod yX2_shopNumber) (List.mem_of_getElem? (i := 6) rfl)), (hts (.selects RX2 yX2_shopNumber yX2_shopNumber) (List.mem_of_getElem? (i := 8) rfl))⟩ (bPV hk (va_recv hk.1 hP (ci := 2) (q0 := 3) rfl (wC_3 _ _ _ _))) rfl rfl hl.1 rfl (lv_room (Nat.le_of_ble_eq_true rfl)) dX5_mixedShop_30 ⟨Nat.zero_le _, Nat.zero_le _⟩) hS (fun locs hS => ?_)
          refine lv_i2l (v := ((F2_shopNumber u a2 (nI j6))).toInt64) hx hb dX5_mixedShop_33 rfl ?_
          refine bcall_Rl (va_runS (As := [.long x4_6, .long (((F2_shopNumber u a2 (nI j6))).toInt64)]) (rest := []) ⟨hx, hb, hml, hown, hts⟩ (C5_mixed l D cI cO q _ x4_6 (((F2_shopNumber u a2 (nI j6))).toInt64)) (va_cwS 2 hts gX5_mixedShop_X5_mixed rfl rfl rfl bd_X5mixed ⟨Nat.le_of_ble_eq_true rfl, Nat.le_of_ble_eq_true rfl⟩) (bPS hk) rfl rfl hl.1 rfl (lv_room (Nat.le_of_ble_eq_true rfl)) dX5_mixedShop_34 ⟨Nat.zero_le _, Nat.zero_le _⟩) hS (fun locs hS => ?_)
          refine lv_lstore (lv' := [(4, .long (F5_mixed x4_6 (((F2_shopNumber u a2 (nI j6))).toInt64))), (0, .ref (q 0)), (1, .long a1), (3, .int a2), (6, .int (nI j6))]) hx hb dX5_mixedShop_37 hl (by decide) rfl (fun ls hl => ?_)
          refine lv_iinc (v := (nI (j6 + 1))) (lv' := [(6, .int (nI (j6 + 1))), (4, .long (F5_mixed x4_6 (((F2_shopNumber u a2 (nI j6))).toInt64))), (0, .ref (q 0)), (1, .long a1), (3, .int a2)]) hx hb dX5_mixedShop_39 hl (k := 4) rfl (bInc j6) (by decide) rfl (fun ls hl => ?_)
          refine lv_goto (tgt := 6) hx hb dX5_mixedShop_42 (by decide) ?_
          exact ih (j6 + 1) (F5_mixed x4_6 (((F2_shopNumber u a2 (nI j6))).toInt64)) _ _ (by omega) (by omega) (lv_sub hl [2, 3, 4, 1, 0] rfl) hS X (by rw [← hF, L5_mixedShop_6, if_neg c_1, if_neg c_3]) kx
  refine loop6 (28 + 1) 0 a1 _ _ (by omega) (by omega) (lv_sub hl [2, 3, 4, 1, 0] rfl) hS _ rfl (fun locs ls hl hS => ?_)
  refine lv_lload hx hb dX5_mixedShop_45 (lv_at hl 3 rfl) ?_
  exact bret_Rl hx hb hr hS hlocks dX5_mixedShop_47 (by rw [← hF, F5_mixedShop])
def L5_mixedText_16 (u : bU) : Nat → Nat → Int64 → Int64
  | 0, _, x3_16 => x3_16
  | n16 + 1, j16, x3_16 => (if (F3_length u) ≤ (nI j16) then x3_16 else (L5_mixedText_16 u n16 (j16 + 1) (F5_mixed x3_16 (((F3_codeAt u (nI j16))).toInt64))))
def F5_mixedText (u : bU) (a1 : Int64) : Int64 := (L5_mixedText_16 u ((F3_length u).toNatClampNeg + 1) 0 (F5_mixed a1 (((F3_length u)).toInt64)))
set_option maxHeartbeats 4000000 in
set_option maxRecDepth 100000 in
theorem C5_mixedText (l : Launch) (D : va_G) (cI cO : ClassId) (q : Nat → Nat) (u : bU) (H0 : Heap) (hP : va_P D vwCl (wC cI cO q u) H0) (a1 : Int64) : Met l yX5_mixedText wsX5_mixedText ({ frames := 2, cells := 0, slots := 0, locals := 42 }) (bP D [(cI, .int), (cO, .object RX2)] H0 [.ref (q 0), .long a1]) (bRl H0 (F5_mixedText u a1)) 0 0 (fun _ => False) := by
  refine Met.ofW (cc := cX5_mixedText) (maxL := 6) (ret := (some .long)) (by decide) rfl ?_
  intro p e s m args below meth c s₁ B hml hv
  obtain ⟨rfl, hH, hk⟩ := hv
  subst hH
  have hx := B.exec
  have hb := B.bytes
  have hr := B.returns
  have hts := atoms_spec (ws := wsX5_mixedText) B.pre
  have hown : s.vm.findClass RX5 = some m.cls := findClass_of_methodNamed B.named
  have hlocks := B.notSynchronized
  have iX5 : ∀ w ∈ wsX50, w ∈ wsX5_mixedText := by decide +kernel
  have hS : va_S (fun _ => False) s.heap s.heap [] := va_S.rf
  have hl := lv_entry ([.ref (q 0), .long a1]) (n := 6) (Nat.le_of_ble_eq_true rfl)
  rw [lg_entry_eq]
  generalize (lg_sl ([.ref (q 0), .long a1]) ++ List.replicate (6 - (lg_sl ([.ref (q 0), .long a1])).length) Slot.unset).toArray = ls at hl ⊢
  have hl : lv_has ls 6 [(0, .ref (q 0)), (1, .long a1)] := hl
  generalize hF : F5_mixedText u a1 = tgt
  refine lv_lload_n hx hb dX5_mixedText_0 rfl (lv_at hl 1 rfl) ?_
  refine lv_aload_n hx hb dX5_mixedText_1 rfl (lv_at hl 0 rfl) ?_
  refine va_get (D := D) (ci := 5) (C := RX5) (T := TX5) (N := 5) hx hb hts iX5 hown hk.1 hP 0 (wC_0 _ _ _ _) rfl 3 (by decide) (hts (.fieldLink RX5 33 "BottleLoop" "text" "LBottleLoop$Text;") (List.mem_of_getElem? (i := 1) rfl)) (fun _ h9 => h9) rfl dX5_mixedText_2 ?_
  refine bcall_Ri (va_runVN (As := []) (rest := [.long a1]) ⟨hx, hb, hml, hown, hts⟩ (C3_length l D cI cO q _ _ hP ) ⟨va_cnB 0 hts gX5_mixedText_X3_length_n159 rfl rfl rfl (hk.2 (.methodLinkNest RX5 159 yX3_length RX5) (List.mem_of_getElem? (i := 8) rfl)) (hts (.initialized RX3) (List.mem_of_getElem? (i := 3) rfl)) bd_X3length ⟨Nat.le_of_ble_eq_true rfl, Nat.le_of_ble_eq_true rfl⟩, (hts (.instanceMethod yX3_length) (List.mem_of_getElem? (i := 2) rfl)), (hts (.selects RX3 yX3_length yX3_length) (List.mem_of_getElem? (i := 4) rfl))⟩ (bPV hk (va_recv hk.1 hP (ci := 3) (q0 := 19) rfl (wC_19 _ _ _ _))) rfl rfl hl.1 rfl (lv_room (Nat.le_of_ble_eq_true rfl)) dX5_mixedText_5 ⟨Nat.zero_le _, Nat.zero_le _⟩) hS (fun locs hS => ?_)
  refine lv_i2l (v := ((F3_length u)).toInt64) hx hb dX5_mixedText_8 rfl ?_
  refine bcall_Rl (va_runS (As := [.long a1, .long (((F3_length u)).toInt64)]) (rest := []) ⟨hx, hb, hml, hown, hts⟩ (C5_mixed l D cI cO q _ a1 (((F3_length u)).toInt64)) (va_cwS 2 hts gX5_mixedText_X5_mixed rfl rfl rfl bd_X5mixed ⟨Nat.le_of_ble_eq_true rfl, Nat.le_of_ble_eq_true rfl⟩) (bPS hk) rfl rfl hl.1 rfl (lv_room (Nat.le_of_ble_eq_true rfl)) dX5_mixedText_9 ⟨Nat.zero_le _, Nat.zero_le _⟩) hS (fun locs hS => ?_)
  refine lv_lstore_n (lv' := [(3, .long (F5_mixed a1 (((F3_length u)).toInt64))), (0, .ref (q 0)), (1, .long a1)]) hx hb dX5_mixedText_12 rfl hl (by decide) rfl (fun ls hl => ?_)
  refine lv_iconst (v := 0) hx hb dX5_mixedText_13 (by decide) ?_
  refine lv_istore (lv' := [(5, .int 0), (3, .long (F5_mixed a1 (((F3_length u)).toInt64))), (0, .ref (q 0)), (1, .long a1)]) hx hb dX5_mixedText_14 hl (by decide) rfl (fun ls hl => ?_)
  have hB16 := bClamp (F3_length u)
  have loop16 : ∀ (n16 j16 : Nat) (x3_16 : Int64) (locs : List Loc) (ls : Array Slot), j16 ≤ (F3_length u).toNatClampNeg → (F3_length u).toNatClampNeg + 1 ≤ n16 + j16 → lv_has ls 6 [(0, .ref (q 0)), (1, .long a1), (3, .long x3_16), (5, .int (nI j16))] → va_S (fun _ => False) s.heap s.heap locs → ∀ X : Int64, L5_mixedText_16 u  n16 j16 x3_16 = X → (∀ (locs : List Loc) (ls : Array Slot), lv_has ls 6 [(0, .ref (q 0)), (1, .long a1), (3, .long X)] → va_S (fun _ => False) s.heap s.heap locs → W p l e (headSpec wsX5_mixedText ({ frames := 2, cells := 0, slots := 0, locals := 42 })).room s m ([.ref (q 0), .long a1] : List Value).toArray below meth c s.heap locs 0 0 (MQ below (bRl s.heap tgt) ([.ref (q 0), .long a1] : List Value).toArray s 0 0 (fun _ => False)) (F0 m 49 ls [])) → W p l e (headSpec wsX5_mixedText ({ frames := 2, cells := 0, slots := 0, locals := 42 })).room s m ([.ref (q 0), .long a1] : List Value).toArray below meth c s.heap locs 0 0 (MQ below (bRl s.heap tgt) ([.ref (q 0), .long a1] : List Value).toArray s 0 0 (fun _ => False)) (F0 m 16 ls []) := by
    intro n16
    induction n16 with
    | zero => intro j16 x3_16 locs ls hj hn; exact absurd hn (by omega)
    | succ n16 ih =>
      intro j16 x3_16 locs ls hj hn hl hS X hF kx
      refine lv_iload hx hb dX5_mixedText_16 (lv_at hl 3 rfl) ?_
      refine lv_aload_n hx hb dX5_mixedText_18 rfl (lv_at hl 0 rfl) ?_
      refine va_get (D := D) (ci := 5) (C := RX5) (T := TX5) (N := 5) hx hb hts iX5 hown hk.1 hP 0 (wC_0 _ _ _ _) rfl 3 (by decide) (hts (.fieldLink RX5 33 "BottleLoop" "text" "LBottleLoop$Text;") (List.mem_of_getElem? (i := 1) rfl)) (fun _ h9 => h9) rfl dX5_mixedText_19 ?_
      refine bcall_Ri (va_runVN (As := []) (rest := [.int (nI j16)]) ⟨hx, hb, hml, hown, hts⟩ (C3_length l D cI cO q _ _ hP ) ⟨va_cnB 0 hts gX5_mixedText_X3_length_n159 rfl rfl rfl (hk.2 (.methodLinkNest RX5 159 yX3_length RX5) (List.mem_of_getElem? (i := 8) rfl)) (hts (.initialized RX3) (List.mem_of_getElem? (i := 3) rfl)) bd_X3length ⟨Nat.le_of_ble_eq_true rfl, Nat.le_of_ble_eq_true rfl⟩, (hts (.instanceMethod yX3_length) (List.mem_of_getElem? (i := 2) rfl)), (hts (.selects RX3 yX3_length yX3_length) (List.mem_of_getElem? (i := 4) rfl))⟩ (bPV hk (va_recv hk.1 hP (ci := 3) (q0 := 19) rfl (wC_19 _ _ _ _))) rfl rfl hl.1 rfl (lv_room (Nat.le_of_ble_eq_true rfl)) dX5_mixedText_22 ⟨Nat.zero_le _, Nat.zero_le _⟩) hS (fun locs hS => ?_)
      refine lv_icmp_ge (tgt := 49) hx hb dX5_mixedText_25 (by decide) (fun c_1 => ?_) (fun c_1 => ?_)
      · obtain rfl : X = x3_16 := by rw [← hF, L5_mixedText_16, if_pos c_1]
        exact kx _ _ (lv_sub hl [0, 1, 2] rfl) hS
      · have hlt_2 : j16 < (F3_length u).toNatClampNeg := bLtB c_1 (by omega)
        refine lv_lload_n hx hb dX5_mixedText_28 rfl (lv_at hl 2 rfl) ?_
        refine lv_aload_n hx hb dX5_mixedText_29 rfl (lv_at hl 0 rfl) ?_
        refine va_get (D := D) (ci := 5) (C := RX5) (T := TX5) (N := 5) hx hb hts iX5 hown hk.1 hP 0 (wC_0 _ _ _ _) rfl 3 (by decide) (hts (.fieldLink RX5 33 "BottleLoop" "text" "LBottleLoop$Text;") (List.mem_of_getElem? (i := 1) rfl)) (fun _ h9 => h9) rfl dX5_mixedText_30 ?_
        refine lv_iload hx hb dX5_mixedText_33 (lv_at hl 3 rfl) ?_
        refine bcall_Ri (va_runVN (As := [.int (nI j16)]) (rest := [.long x3_16]) ⟨hx, hb, hml, hown, hts⟩ (C3_codeAt l D cI cO q _ _ hP (nI j16)) ⟨va_cnB 1 hts gX5_mixedText_X3_codeAt_n243 rfl rfl rfl (hk.2 (.methodLinkNest RX5 243 yX3_codeAt RX5) (List.mem_of_getElem? (i := 30) rfl)) (hts (.initialized RX3) (List.mem_of_getElem? (i := 3) rfl)) bd_X3codeAt ⟨Nat.le_of_ble_eq_true rfl, Nat.le_of_ble_eq_true rfl⟩, (hts (.instanceMethod yX3_codeAt) (List.mem_of_getElem? (i := 12) rfl)), (hts (.selects RX3 yX3_codeAt yX3_codeAt) (List.mem_of_getElem? (i := 13) rfl))⟩ (bPV hk (va_recv hk.1 hP (ci := 3) (q0 := 19) rfl (wC_19 _ _ _ _))) rfl rfl hl.1 rfl (lv_room (Nat.le_of_ble_eq_true rfl)) dX5_mixedText_35 ⟨Nat.zero_le _, Nat.zero_le _⟩) hS (fun locs hS => ?_)
        refine lv_i2l (v := ((F3_codeAt u (nI j16))).toInt64) hx hb dX5_mixedText_38 rfl ?_
        refine bcall_Rl (va_runS (As := [.long x3_16, .long (((F3_codeAt u (nI j16))).toInt64)]) (rest := []) ⟨hx, hb, hml, hown, hts⟩ (C5_mixed l D cI cO q _ x3_16 (((F3_codeAt u (nI j16))).toInt64)) (va_cwS 2 hts gX5_mixedText_X5_mixed rfl rfl rfl bd_X5mixed ⟨Nat.le_of_ble_eq_true rfl, Nat.le_of_ble_eq_true rfl⟩) (bPS hk) rfl rfl hl.1 rfl (lv_room (Nat.le_of_ble_eq_true rfl)) dX5_mixedText_39 ⟨Nat.zero_le _, Nat.zero_le _⟩) hS (fun locs hS => ?_)
        refine lv_lstore_n (lv' := [(3, .long (F5_mixed x3_16 (((F3_codeAt u (nI j16))).toInt64))), (0, .ref (q 0)), (1, .long a1), (5, .int (nI j16))]) hx hb dX5_mixedText_42 rfl hl (by decide) rfl (fun ls hl => ?_)
        refine lv_iinc (v := (nI (j16 + 1))) (lv' := [(5, .int (nI (j16 + 1))), (3, .long (F5_mixed x3_16 (((F3_codeAt u (nI j16))).toInt64))), (0, .ref (q 0)), (1, .long a1)]) hx hb dX5_mixedText_43 hl (k := 3) rfl (bInc j16) (by decide) rfl (fun ls hl => ?_)
        refine lv_goto (tgt := 16) hx hb dX5_mixedText_46 (by decide) ?_
        exact ih (j16 + 1) (F5_mixed x3_16 (((F3_codeAt u (nI j16))).toInt64)) _ _ (by omega) (by omega) (lv_sub hl [2, 3, 1, 0] rfl) hS X (by rw [← hF, L5_mixedText_16, if_neg c_1]) kx
  refine loop16 ((F3_length u).toNatClampNeg + 1) 0 (F5_mixed a1 (((F3_length u)).toInt64)) _ _ (by omega) (by omega) (lv_sub hl [2, 3, 1, 0] rfl) hS _ rfl (fun locs ls hl hS => ?_)
  refine lv_lload_n hx hb dX5_mixedText_49 rfl (lv_at hl 2 rfl) ?_
  exact bret_Rl hx hb hr hS hlocks dX5_mixedText_50 (by rw [← hF, F5_mixedText])

theorem fr_put (u : bU) (a b : Int32) {k : Nat} (h0 : k ≠ 0) : F2_put u a b k = u k := by
  unfold F2_put
  (repeat' split) <;> first | rfl | exact bs_ne _ _ h0
theorem fr_putAll (u : bU) (a b : Int32) {k : Nat} (h0 : k ≠ 0) : F2_putAll u a b k = u k := fr_put _ _ _ h0
theorem fr_addToAll (u : bU) (a b : Int32) {k : Nat} (h0 : k ≠ 0) : F2_addToAll u a b k = u k := fr_put _ _ _ h0
theorem fr_putSetting (u : bU) (a b : Int32) {k : Nat} (h0 : k ≠ 0) : F2_putSetting u a b k = u k := fr_put _ _ _ h0
theorem fr_addToBrand (u : bU) (a b d : Int32) {k : Nat} (h0 : k ≠ 0) : F2_addToBrand u a b d k = u k := fr_put _ _ _ h0
theorem fr_addToShop (u : bU) (a b d : Int32) {k : Nat} (h0 : k ≠ 0) : F2_addToShop u a b d k = u k := fr_put _ _ _ h0
theorem fr_addToSwaps (u : bU) (a b d : Int32) {k : Nat} (h0 : k ≠ 0) : F2_addToSwaps u a b d k = u k := fr_put _ _ _ h0
theorem fr_fillBottles (u : bU) (a b : Int32) {k : Nat} (h0 : k ≠ 0) : (F4_fillBottles u a b).2 k = u k := by
  simp only [F4_fillBottles, fr_addToBrand _ _ _ _ h0]
theorem fr_deliverCrates (u : bU) (a b d : Int32) {k : Nat} (h0 : k ≠ 0) : (F4_deliverCrates u a b d).2 k = u k := by
  simp only [F4_deliverCrates, fr_addToBrand _ _ _ _ h0, fr_addToShop _ _ _ _ h0, fr_addToAll _ _ _ h0]
theorem fr_sellBottles (u : bU) (a b d : Int32) {k : Nat} (h0 : k ≠ 0) : (F4_sellBottles u a b d).2 k = u k := by
  simp only [F4_sellBottles, fr_addToBrand _ _ _ _ h0, fr_addToShop _ _ _ _ h0, fr_addToAll _ _ _ h0]
theorem fr_returnBottles (u : bU) (a b d : Int32) {k : Nat} (h0 : k ≠ 0) : (F4_returnBottles u a b d).2 k = u k := by
  simp only [F4_returnBottles, fr_addToBrand _ _ _ _ h0, fr_addToShop _ _ _ _ h0, fr_addToAll _ _ _ h0]
theorem fr_breakBottles (u : bU) (a b d : Int32) {k : Nat} (h0 : k ≠ 0) : (F4_breakBottles u a b d).2 k = u k := by
  simp only [F4_breakBottles, fr_addToBrand _ _ _ _ h0, fr_addToShop _ _ _ _ h0, fr_addToAll _ _ _ h0]
theorem fr_loseBottles (u : bU) (a b : Int32) {k : Nat} (h0 : k ≠ 0) : (F4_loseBottles u a b).2 k = u k := by
  simp only [F4_loseBottles, fr_addToBrand _ _ _ _ h0, fr_addToShop _ _ _ _ h0, fr_addToAll _ _ _ h0]
theorem fr_swapBottles (u : bU) (a b d : Int32) {k : Nat} (h0 : k ≠ 0) : (F4_swapBottles u a b d).2 k = u k := by
  simp only [F4_swapBottles, fr_addToBrand _ _ _ _ h0, fr_addToSwaps _ _ _ _ h0]
theorem fr_pickOne (u : bU) {k : Nat} (h1 : k ≠ 1) : F4_pickOne u k = u k := by
  unfold F4_pickOne
  (repeat' split) <;> first | rfl | exact bs_ne _ _ h1
theorem fr_pickL3 (a b : Int32) {k : Nat} (h1 : k ≠ 1) : ∀ (n j : Nat) (u : bU), L4_pickEmpties_3 a b u n j k = u k := by
  intro n
  induction n with
  | zero => intro j u; rfl
  | succ n ih =>
    intro j u
    rw [L4_pickEmpties_3]
    (repeat' split) <;> first | rfl | (rw [ih]; exact bs_ne _ _ h1)
theorem fr_pickL72 (a : Int32) {k : Nat} (h1 : k ≠ 1) : ∀ (n j : Nat) (u : bU), L4_pickEmpties_72 a u n j k = u k := by
  intro n
  induction n with
  | zero => intro j u; rfl
  | succ n ih =>
    intro j u
    rw [L4_pickEmpties_72]
    (repeat' split) <;> first | rfl | (rw [ih]; exact fr_pickOne _ h1)
theorem fr_pickEmpties (u : bU) (a b d : Int32) {k : Nat} (h1 : k ≠ 1) : F4_pickEmpties u a b d k = u k := by
  rw [F4_pickEmpties, fr_pickL72 _ h1, fr_pickL3 _ _ h1]
theorem fr_collectL (a b : Int32) {k : Nat} (h0 : k ≠ 0) : ∀ (n j : Nat) (u : bU), L4_collectCrates_22 a b u n j k = u k := by
  intro n
  induction n with
  | zero => intro j u; rfl
  | succ n ih =>
    intro j u
    rw [L4_collectCrates_22]
    (repeat' split) <;> first | rfl | exact ih _ _ | (rw [ih, fr_addToBrand _ _ _ _ h0, fr_addToShop _ _ _ _ h0])
theorem fr_collectCrates (u : bU) (a b d : Int32) {k : Nat} (h0 : k ≠ 0) (h1 : k ≠ 1) : (F4_collectCrates u a b d).2 k = u k := by
  simp only [F4_collectCrates, fr_addToBrand _ _ _ _ h0, fr_addToShop _ _ _ _ h0, fr_addToAll _ _ _ h0, fr_collectL _ _ h0, fr_pickEmpties _ _ _ _ h1]
theorem fr_sortL (a : Int32) {k : Nat} (h0 : k ≠ 0) : ∀ (n j : Nat) (x : Int32) (u : bU), (L4_sortBottles_5 a u n j x).2 k = u k := by
  intro n
  induction n with
  | zero => intro j x u; rfl
  | succ n ih =>
    intro j x u
    rw [L4_sortBottles_5]
    (repeat' split) <;> first | rfl | exact ih _ _ _ | (rw [ih, fr_addToBrand _ _ _ _ h0, fr_addToBrand _ _ _ _ h0])
theorem fr_sortBottles (u : bU) (a b : Int32) {k : Nat} (h0 : k ≠ 0) : (F4_sortBottles u a b).2 k = u k := by
  rw [F4_sortBottles]; exact fr_sortL _ h0 _ _ _ _
theorem fr_wouldCollect (u : bU) (a b d : Int32) {k : Nat} (h1 : k ≠ 1) : (F4_wouldCollect u a b d).2 k = u k := by
  unfold F4_wouldCollect
  (repeat' split) <;> first | rfl | exact fr_pickEmpties _ _ _ _ h1
theorem fr_carryOutOrder (u : bU) (a b d : Int32) {k : Nat} (h0 : k ≠ 0) (h1 : k ≠ 1) : F5_carryOutOrder u a b d k = u k := by
  rw [F5_carryOutOrder]
  split
  · exact fr_breakBottles _ _ _ _ h0
  · split
    · exact fr_deliverCrates _ _ _ _ h0
    · split
      · exact fr_returnBottles _ _ _ _ h0
      · split
        · exact fr_sellBottles _ _ _ _ h0
        · exact fr_collectCrates _ _ _ _ h0 h1
theorem fr_takesO (u : bU) (x : Int32) {k : Nat} (h : k ≠ 10) : (F0_takesO u x).2 k = u k := by
  simp only [F0_takesO, F0_takesNumberO, F0_keepO, F0_beginO]
  (repeat' split) <;> first | rfl | (simp only [bput, bs_ne _ _ h])
theorem ofAll_congr {u v : bU} (h : v 0 = u 0) (k : Int32) : F2_ofAll v k = F2_ofAll u k := by simp only [F2_ofAll, F2_get, h]


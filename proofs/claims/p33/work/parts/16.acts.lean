-- acts, swaps (by program)
theorem bd_Lswaps : yL_swaps.cls ≠ "java/lang/invoke/MethodHandle" ∧ yL_swaps.cls ≠ "java/lang/invoke/VarHandle" ∧ (parseMethodDescriptor yL_swaps.desc).map (fun d => d.parameters.length) = some 4 := by decide +kernel
theorem bd_X5bestShop : yX5_bestShop.cls ≠ "java/lang/invoke/MethodHandle" ∧ yX5_bestShop.cls ≠ "java/lang/invoke/VarHandle" ∧ (parseMethodDescriptor yX5_bestShop.desc).map (fun d => d.parameters.length) = some 1 := by decide +kernel
theorem bd_X5breaks : yX5_breaks.cls ≠ "java/lang/invoke/MethodHandle" ∧ yX5_breaks.cls ≠ "java/lang/invoke/VarHandle" ∧ (parseMethodDescriptor yX5_breaks.desc).map (fun d => d.parameters.length) = some 3 := by decide +kernel
theorem bd_X5collect : yX5_collect.cls ≠ "java/lang/invoke/MethodHandle" ∧ yX5_collect.cls ≠ "java/lang/invoke/VarHandle" ∧ (parseMethodDescriptor yX5_collect.desc).map (fun d => d.parameters.length) = some 3 := by decide +kernel
theorem bd_X5collected : yX5_collected.cls ≠ "java/lang/invoke/MethodHandle" ∧ yX5_collected.cls ≠ "java/lang/invoke/VarHandle" ∧ (parseMethodDescriptor yX5_collected.desc).map (fun d => d.parameters.length) = some 3 := by decide +kernel
theorem bd_X5deliver : yX5_deliver.cls ≠ "java/lang/invoke/MethodHandle" ∧ yX5_deliver.cls ≠ "java/lang/invoke/VarHandle" ∧ (parseMethodDescriptor yX5_deliver.desc).map (fun d => d.parameters.length) = some 3 := by decide +kernel
theorem bd_X5fill : yX5_fill.cls ≠ "java/lang/invoke/MethodHandle" ∧ yX5_fill.cls ≠ "java/lang/invoke/VarHandle" ∧ (parseMethodDescriptor yX5_fill.desc).map (fun d => d.parameters.length) = some 2 := by decide +kernel
theorem bd_X5filled : yX5_filled.cls ≠ "java/lang/invoke/MethodHandle" ∧ yX5_filled.cls ≠ "java/lang/invoke/VarHandle" ∧ (parseMethodDescriptor yX5_filled.desc).map (fun d => d.parameters.length) = some 2 := by decide +kernel
theorem bd_X5lose : yX5_lose.cls ≠ "java/lang/invoke/MethodHandle" ∧ yX5_lose.cls ≠ "java/lang/invoke/VarHandle" ∧ (parseMethodDescriptor yX5_lose.desc).map (fun d => d.parameters.length) = some 2 := by decide +kernel
theorem bd_X5mostCrates : yX5_mostCrates.cls ≠ "java/lang/invoke/MethodHandle" ∧ yX5_mostCrates.cls ≠ "java/lang/invoke/VarHandle" ∧ (parseMethodDescriptor yX5_mostCrates.desc).map (fun d => d.parameters.length) = some 2 := by decide +kernel
theorem bd_X5sell : yX5_sell.cls ≠ "java/lang/invoke/MethodHandle" ∧ yX5_sell.cls ≠ "java/lang/invoke/VarHandle" ∧ (parseMethodDescriptor yX5_sell.desc).map (fun d => d.parameters.length) = some 3 := by decide +kernel
theorem bd_X5sort : yX5_sort.cls ≠ "java/lang/invoke/MethodHandle" ∧ yX5_sort.cls ≠ "java/lang/invoke/VarHandle" ∧ (parseMethodDescriptor yX5_sort.desc).map (fun d => d.parameters.length) = some 2 := by decide +kernel
theorem bd_X5swap : yX5_swap.cls ≠ "java/lang/invoke/MethodHandle" ∧ yX5_swap.cls ≠ "java/lang/invoke/VarHandle" ∧ (parseMethodDescriptor yX5_swap.desc).map (fun d => d.parameters.length) = some 3 := by decide +kernel
theorem bd_X5takeBack : yX5_takeBack.cls ≠ "java/lang/invoke/MethodHandle" ∧ yX5_takeBack.cls ≠ "java/lang/invoke/VarHandle" ∧ (parseMethodDescriptor yX5_takeBack.desc).map (fun d => d.parameters.length) = some 3 := by decide +kernel
theorem bd_X5whyNotCollect : yX5_whyNotCollect.cls ≠ "java/lang/invoke/MethodHandle" ∧ yX5_whyNotCollect.cls ≠ "java/lang/invoke/VarHandle" ∧ (parseMethodDescriptor yX5_whyNotCollect.desc).map (fun d => d.parameters.length) = some 3 := by decide +kernel
theorem bd_X5whyNotDeliver : yX5_whyNotDeliver.cls ≠ "java/lang/invoke/MethodHandle" ∧ yX5_whyNotDeliver.cls ≠ "java/lang/invoke/VarHandle" ∧ (parseMethodDescriptor yX5_whyNotDeliver.desc).map (fun d => d.parameters.length) = some 3 := by decide +kernel
def FL_swaps (u : bU) (a2 : Int32) (a3 : Int32) (a4 : Int32) : Int32 × Int32 × bU := (if (F5_needBrand u a3) = 0 then (if (F5_swap u a2 a3 a4).1 = 0 then (if (F5_needBrand (F5_swap u a2 a3 a4).2.2 a3) = 0 then (if (F5_brand (F5_swap u a2 a3 a4).2.2 a3 1) = ((F5_brand u a3 1) + a4) then (if (F5_swap (F5_swap u a2 a3 a4).2.2 a3 a2 (1 + (a4 / 2))).1 = 0 then (if (F5_swap (F5_swap u a2 a3 a4).2.2 a3 a2 (1 + (a4 / 2))).2.1 = ((1 + (a4 / 2)) - (F5_swap u a2 a3 a4).2.1) then (if (F5_needBrand (F5_swap (F5_swap u a2 a3 a4).2.2 a3 a2 (1 + (a4 / 2))).2.2 a3) = 0 then (if (F5_brand (F5_swap (F5_swap u a2 a3 a4).2.2 a3 a2 (1 + (a4 / 2))).2.2 a3 1) = (((F5_brand u a3 1) + a4) - (1 + (a4 / 2))) then (0, 1, (F5_swap (F5_swap u a2 a3 a4).2.2 a3 a2 (1 + (a4 / 2))).2.2) else (0, 0, (F5_swap (F5_swap u a2 a3 a4).2.2 a3 a2 (1 + (a4 / 2))).2.2)) else ((F5_needBrand (F5_swap (F5_swap u a2 a3 a4).2.2 a3 a2 (1 + (a4 / 2))).2.2 a3), 0, (F5_swap (F5_swap u a2 a3 a4).2.2 a3 a2 (1 + (a4 / 2))).2.2)) else (0, 0, (F5_swap (F5_swap u a2 a3 a4).2.2 a3 a2 (1 + (a4 / 2))).2.2)) else ((F5_swap (F5_swap u a2 a3 a4).2.2 a3 a2 (1 + (a4 / 2))).1, 0, (F5_swap u a2 a3 a4).2.2)) else (0, 0, (F5_swap u a2 a3 a4).2.2)) else ((F5_needBrand (F5_swap u a2 a3 a4).2.2 a3), 0, (F5_swap u a2 a3 a4).2.2)) else ((F5_swap u a2 a3 a4).1, 0, u)) else ((F5_needBrand u a3), 0, u))
set_option maxHeartbeats 4000000 in
set_option maxRecDepth 100000 in
theorem CL_swaps (l : Launch) (D : va_G) (cI cO : ClassId) (q : Nat → Nat) (u : bU) (H0 : Heap) (hq : bInj 23 q) (hP : va_P D vwCl (wC cI cO q u) H0) (a2 : Int32) (a3 : Int32) (a4 : Int32) (hlat : bLat u) (h0 : (FL_swaps u a2 a3 a4).1 = 0) : Met l yL_swaps wsL_swaps ({ frames := 5, cells := 0, slots := 0, locals := 266 }) (bP D [(cI, .int), (cO, .object RX2)] H0 [.ref (q 0), .int a2, .int a3, .int a4]) (bWi D (wC cI cO q) bT (bA 23 q H0.size) ((FL_swaps u a2 a3 a4).2.1, (FL_swaps u a2 a3 a4).2.2)) 0 0 (bA 23 q H0.size) := by
  refine Met.ofW (cc := cL_swaps) (maxL := 7) (ret := (some .boolean)) (by decide) rfl ?_
  intro p e s m args below meth c s₁ B hml hv
  obtain ⟨rfl, hH, hk⟩ := hv
  subst hH
  have hx := B.exec
  have hb := B.bytes
  have hr := B.returns
  have hts := atoms_spec (ws := wsL_swaps) B.pre
  have hown : s.vm.findClass RL = some m.cls := findClass_of_methodNamed B.named
  have hlocks := B.notSynchronized
  have hS : va_S (bA 23 q s.heap.size) s.heap s.heap [] := va_S.rf
  have hl := lv_entry ([.ref (q 0), .int a2, .int a3, .int a4]) (n := 7) (Nat.le_of_ble_eq_true rfl)
  rw [lg_entry_eq]
  generalize (lg_sl ([.ref (q 0), .int a2, .int a3, .int a4]) ++ List.replicate (7 - (lg_sl ([.ref (q 0), .int a2, .int a3, .int a4])).length) Slot.unset).toArray = ls at hl ⊢
  have hl : lv_has ls 7 [(0, .ref (q 0)), (1, .int a2), (2, .int a3), (3, .int a4)] := hl
  generalize hF : FL_swaps u a2 a3 a4 = tgt at h0 ⊢
  refine lv_aload_n hx hb dL_swaps_0 rfl (lv_at hl 0 rfl) ?_
  refine lv_iload_n hx hb dL_swaps_1 rfl (lv_at hl 2 rfl) ?_
  refine lv_iconst (v := 1) hx hb dL_swaps_2 (by decide) ?_
  have c_1 : (F5_needBrand u a3) = 0 := Decidable.byContradiction (fun h9 => absurd ((congrArg Prod.fst (show ((F5_needBrand u a3), (0 : Int32), u) = tgt from by rw [← hF, FL_swaps, if_neg h9])).trans h0) h9)
  refine bcall_Ri (va_runV (As := [.int a3, .int 1]) (rest := []) ⟨hx, hb, hml, hown, hts⟩ (C5_brand l D cI cO q _ _ hP a3 1 c_1 (by decide)) (cwV 2 hts gL_swaps_X5_brand rfl rfl rfl ⟨rfl, bd_X5brand⟩ ⟨Nat.le_of_ble_eq_true rfl, Nat.le_of_ble_eq_true rfl⟩) (bPV hk (va_recv hk.1 hP (ci := 5) (q0 := 0) rfl (wC_0 _ _ _ _))) rfl rfl hl.1 rfl (lv_room (Nat.le_of_ble_eq_true rfl)) dL_swaps_3 ⟨Nat.zero_le _, Nat.zero_le _⟩) hS (fun locs hS => ?_)
  refine lv_istore (lv' := [(4, .int (F5_brand u a3 1)), (0, .ref (q 0)), (1, .int a2), (2, .int a3), (3, .int a4)]) hx hb dL_swaps_6 hl (by decide) rfl (fun ls hl => ?_)
  refine lv_aload_n hx hb dL_swaps_8 rfl (lv_at hl 1 rfl) ?_
  refine lv_iload_n hx hb dL_swaps_9 rfl (lv_at hl 2 rfl) ?_
  refine lv_iload_n hx hb dL_swaps_10 rfl (lv_at hl 3 rfl) ?_
  refine lv_iload_n hx hb dL_swaps_11 rfl (lv_at hl 4 rfl) ?_
  have c_2 : (F5_swap u a2 a3 a4).1 = 0 := Decidable.byContradiction (fun h9 => absurd ((congrArg Prod.fst (show ((F5_swap u a2 a3 a4).1, (0 : Int32), u) = tgt from by rw [← hF, FL_swaps, if_pos c_1, if_neg h9])).trans h0) h9)
  refine bcall_Wi (va_runV (As := [.int a2, .int a3, .int a4]) (rest := []) ⟨hx, hb, hml, hown, hts⟩ (C5_swap l D cI cO q _ _ hq hP a2 a3 a4 hlat c_2) (cwV 3 hts gL_swaps_X5_swap rfl rfl rfl ⟨rfl, bd_X5swap⟩ ⟨Nat.le_of_ble_eq_true rfl, Nat.le_of_ble_eq_true rfl⟩) (bPV hk (va_recv hk.1 hP (ci := 5) (q0 := 0) rfl (wC_0 _ _ _ _))) rfl rfl hl.1 rfl (lv_room (Nat.le_of_ble_eq_true rfl)) dL_swaps_12 ⟨Nat.zero_le _, Nat.zero_le _⟩) hS (fun H locs hP _ hS => ?_)
  refine lv_istore (lv' := [(5, .int (F5_swap u a2 a3 a4).2.1), (4, .int (F5_brand u a3 1)), (0, .ref (q 0)), (1, .int a2), (2, .int a3), (3, .int a4)]) hx hb dL_swaps_15 hl (by decide) rfl (fun ls hl => ?_)
  refine lv_iconst (v := 1) hx hb dL_swaps_17 (by decide) ?_
  refine lv_iload_n hx hb dL_swaps_18 rfl (lv_at hl 5 rfl) ?_
  refine lv_iconst (v := 2) hx hb dL_swaps_19 (by decide) ?_
  refine lv_idiv hx hb dL_swaps_20 (by decide) ?_
  refine lv_iadd hx hb dL_swaps_21 ?_
  refine lv_istore (lv' := [(6, .int (1 + (a4 / 2))), (5, .int (F5_swap u a2 a3 a4).2.1), (4, .int (F5_brand u a3 1)), (0, .ref (q 0)), (1, .int a2), (2, .int a3), (3, .int a4)]) hx hb dL_swaps_22 hl (by decide) rfl (fun ls hl => ?_)
  refine lv_aload_n hx hb dL_swaps_24 rfl (lv_at hl 3 rfl) ?_
  refine lv_iload_n hx hb dL_swaps_25 rfl (lv_at hl 5 rfl) ?_
  refine lv_iconst (v := 1) hx hb dL_swaps_26 (by decide) ?_
  have c_3 : (F5_needBrand (F5_swap u a2 a3 a4).2.2 a3) = 0 := Decidable.byContradiction (fun h9 => absurd ((congrArg Prod.fst (show ((F5_needBrand (F5_swap u a2 a3 a4).2.2 a3), (0 : Int32), (F5_swap u a2 a3 a4).2.2) = tgt from by rw [← hF, FL_swaps, if_pos c_1, if_pos c_2, if_neg h9])).trans h0) h9)
  refine bcall_Ri (va_runV (As := [.int a3, .int 1]) (rest := []) ⟨hx, hb, hml, hown, hts⟩ (C5_brand l D cI cO q _ _ hP a3 1 c_3 (by decide)) (cwV 2 hts gL_swaps_X5_brand rfl rfl rfl ⟨rfl, bd_X5brand⟩ ⟨Nat.le_of_ble_eq_true rfl, Nat.le_of_ble_eq_true rfl⟩) (bPV hk (va_recv hk.1 hP (ci := 5) (q0 := 0) rfl (wC_0 _ _ _ _))) rfl rfl hl.1 rfl (lv_room (Nat.le_of_ble_eq_true rfl)) dL_swaps_27 ⟨Nat.zero_le _, Nat.zero_le _⟩) hS (fun locs hS => ?_)
  refine lv_iload hx hb dL_swaps_30 (lv_at hl 2 rfl) ?_
  refine lv_iload_n hx hb dL_swaps_32 rfl (lv_at hl 6 rfl) ?_
  refine lv_iadd hx hb dL_swaps_33 ?_
  refine lv_icmp_ne (tgt := 73) hx hb dL_swaps_34 (by decide) (fun c_4 => ?_) (fun c_4 => ?_)
  · refine lv_iconst (v := 0) hx hb dL_swaps_73 (by decide) ?_
    exact bret_Yz hx hb hr hP hS hlocks dL_swaps_74 (Or.inl rfl) (by rw [← hF, FL_swaps, if_pos c_1, if_pos c_2, if_pos c_3, if_neg c_4])
  · refine lv_aload_n hx hb dL_swaps_37 rfl (lv_at hl 3 rfl) ?_
    refine lv_iload_n hx hb dL_swaps_38 rfl (lv_at hl 5 rfl) ?_
    refine lv_iload_n hx hb dL_swaps_39 rfl (lv_at hl 4 rfl) ?_
    refine lv_iload hx hb dL_swaps_40 (lv_at hl 0 rfl) ?_
    have c_5 : (F5_swap (F5_swap u a2 a3 a4).2.2 a3 a2 (1 + (a4 / 2))).1 = 0 := Decidable.byContradiction (fun h9 => absurd ((congrArg Prod.fst (show ((F5_swap (F5_swap u a2 a3 a4).2.2 a3 a2 (1 + (a4 / 2))).1, (0 : Int32), (F5_swap u a2 a3 a4).2.2) = tgt from by rw [← hF, FL_swaps, if_pos c_1, if_pos c_2, if_pos c_3, if_pos c_4, if_neg h9])).trans h0) h9)
    refine bcall_Wi (va_runV (As := [.int a3, .int a2, .int (1 + (a4 / 2))]) (rest := []) ⟨hx, hb, hml, hown, hts⟩ (C5_swap l D cI cO q _ _ hq hP a3 a2 (1 + (a4 / 2)) (lat_swap _ _ _ _ hlat) c_5) (cwV 3 hts gL_swaps_X5_swap rfl rfl rfl ⟨rfl, bd_X5swap⟩ ⟨Nat.le_of_ble_eq_true rfl, Nat.le_of_ble_eq_true rfl⟩) (bPV hk (va_recv hk.1 hP (ci := 5) (q0 := 0) rfl (wC_0 _ _ _ _))) rfl rfl hl.1 rfl (lv_room (Nat.le_of_ble_eq_true rfl)) dL_swaps_42 ⟨Nat.zero_le _, Nat.zero_le _⟩) hS (fun H locs hP _ hS => ?_)
    refine lv_iload hx hb dL_swaps_45 (lv_at hl 0 rfl) ?_
    refine lv_iload hx hb dL_swaps_47 (lv_at hl 1 rfl) ?_
    refine lv_isub hx hb dL_swaps_49 ?_
    refine lv_icmp_ne (tgt := 73) hx hb dL_swaps_50 (by decide) (fun c_6 => ?_) (fun c_6 => ?_)
    · refine lv_iconst (v := 0) hx hb dL_swaps_73 (by decide) ?_
      exact bret_Yz hx hb hr hP hS hlocks dL_swaps_74 (Or.inl rfl) (by rw [← hF, FL_swaps, if_pos c_1, if_pos c_2, if_pos c_3, if_pos c_4, if_pos c_5, if_neg c_6])
    · refine lv_aload_n hx hb dL_swaps_53 rfl (lv_at hl 3 rfl) ?_
      refine lv_iload_n hx hb dL_swaps_54 rfl (lv_at hl 5 rfl) ?_
      refine lv_iconst (v := 1) hx hb dL_swaps_55 (by decide) ?_
      have c_7 : (F5_needBrand (F5_swap (F5_swap u a2 a3 a4).2.2 a3 a2 (1 + (a4 / 2))).2.2 a3) = 0 := Decidable.byContradiction (fun h9 => absurd ((congrArg Prod.fst (show ((F5_needBrand (F5_swap (F5_swap u a2 a3 a4).2.2 a3 a2 (1 + (a4 / 2))).2.2 a3), (0 : Int32), (F5_swap (F5_swap u a2 a3 a4).2.2 a3 a2 (1 + (a4 / 2))).2.2) = tgt from by rw [← hF, FL_swaps, if_pos c_1, if_pos c_2, if_pos c_3, if_pos c_4, if_pos c_5, if_pos c_6, if_neg h9])).trans h0) h9)
      refine bcall_Ri (va_runV (As := [.int a3, .int 1]) (rest := []) ⟨hx, hb, hml, hown, hts⟩ (C5_brand l D cI cO q _ _ hP a3 1 c_7 (by decide)) (cwV 2 hts gL_swaps_X5_brand rfl rfl rfl ⟨rfl, bd_X5brand⟩ ⟨Nat.le_of_ble_eq_true rfl, Nat.le_of_ble_eq_true rfl⟩) (bPV hk (va_recv hk.1 hP (ci := 5) (q0 := 0) rfl (wC_0 _ _ _ _))) rfl rfl hl.1 rfl (lv_room (Nat.le_of_ble_eq_true rfl)) dL_swaps_56 ⟨Nat.zero_le _, Nat.zero_le _⟩) hS (fun locs hS => ?_)
      refine lv_iload hx hb dL_swaps_59 (lv_at hl 2 rfl) ?_
      refine lv_iload_n hx hb dL_swaps_61 rfl (lv_at hl 6 rfl) ?_
      refine lv_iadd hx hb dL_swaps_62 ?_
      refine lv_iload hx hb dL_swaps_63 (lv_at hl 0 rfl) ?_
      refine lv_isub hx hb dL_swaps_65 ?_
      refine lv_icmp_ne (tgt := 73) hx hb dL_swaps_66 (by decide) (fun c_8 => ?_) (fun c_8 => ?_)
      · refine lv_iconst (v := 0) hx hb dL_swaps_73 (by decide) ?_
        exact bret_Yz hx hb hr hP hS hlocks dL_swaps_74 (Or.inl rfl) (by rw [← hF, FL_swaps, if_pos c_1, if_pos c_2, if_pos c_3, if_pos c_4, if_pos c_5, if_pos c_6, if_pos c_7, if_neg c_8])
      · refine lv_iconst (v := 1) hx hb dL_swaps_69 (by decide) ?_
        refine lv_goto (tgt := 74) hx hb dL_swaps_70 (by decide) ?_
        exact bret_Yz hx hb hr hP hS hlocks dL_swaps_74 (Or.inr rfl) (by rw [← hF, FL_swaps, if_pos c_1, if_pos c_2, if_pos c_3, if_pos c_4, if_pos c_5, if_pos c_6, if_pos c_7, if_pos c_8])
def LL_acts_626 (u : bU) (bb : Int32) : Nat → Nat → Int32 → Int32
  | 0, _, x22_626 => x22_626
  | n626 + 1, j626, x22_626 => (if (F5_count u 0) ≤ (nI j626) then x22_626 else (if (F5_brand u (nI j626) 0) = (F5_brand u bb 0) then (LL_acts_626 u bb n626 (j626 + 1) (x22_626 + (F5_brand u (nI j626) 6))) else (LL_acts_626 u bb n626 (j626 + 1) (x22_626 + 0))))
def FL_acts (u : bU) (a2 : Int32) (zz : Int32) (bb : Int32) (ss : Int32) (nn : Int32) (xc : Int32) (xb : Int32) (xt : Int32) : Int32 × Int32 × bU := (if (a2 &&& 7) = 0 then (if (F5_needRange nn 1 5000) = 0 then (if (F5_brand u bb 1) < nn then (0, 1, u) else (if (F5_fill u bb nn).1 = 0 then (if (F5_fill u bb nn).2.1 = (F5_filled u bb nn) then (if (F5_needBrand (F5_fill u bb nn).2.2 bb) = 0 then (if (F5_brand (F5_fill u bb nn).2.2 bb 1) = ((F5_brand u bb 1) - nn) then (0, 1, (F5_fill u bb nn).2.2) else (0, 0, (F5_fill u bb nn).2.2)) else ((F5_needBrand (F5_fill u bb nn).2.2 bb), 0, (F5_fill u bb nn).2.2)) else (0, 0, (F5_fill u bb nn).2.2)) else ((F5_fill u bb nn).1, 0, u))) else ((F5_needRange nn 1 5000), 0, u)) else (if (a2 &&& 7) = 1 then (if (F5_needRange xc 1 50) = 0 then (if (F5_needSetting (F5_brand u bb 0)) = 0 then (if (F5_whyNotDeliver u bb ss xc) = 0 then (if (F5_mostCrates u bb ss) < xc then (0, 0, u) else (if 0 < (F5_whyNotDeliver u bb ss xc) then (0, 1, u) else (if (F5_deliver u bb ss xc).1 = 0 then (if (F5_deliver u bb ss xc).2.1 = (xc * (((12 * (F5_setting u (F5_brand u bb 0))) + (F5_setting u 3)) + (F5_setting u 4))) then (0, 1, (F5_deliver u bb ss xc).2.2) else (0, 0, (F5_deliver u bb ss xc).2.2)) else ((F5_deliver u bb ss xc).1, 0, u)))) else (if (F5_mostCrates u bb ss) < xc then (if 0 < (F5_whyNotDeliver u bb ss xc) then (0, 1, u) else (if (F5_deliver u bb ss xc).1 = 0 then (if (F5_deliver u bb ss xc).2.1 = (xc * (((12 * (F5_setting u (F5_brand u bb 0))) + (F5_setting u 3)) + (F5_setting u 4))) then (0, 1, (F5_deliver u bb ss xc).2.2) else (0, 0, (F5_deliver u bb ss xc).2.2)) else ((F5_deliver u bb ss xc).1, 0, u))) else (0, 0, u))) else ((F5_needSetting (F5_brand u bb 0)), 0, u)) else ((F5_needRange xc 1 50), 0, u)) else (if (a2 &&& 7) = 2 then (if (F5_needRange xc 1 50) = 0 then (if (F5_needSetting (F5_brand u bb 0)) = 0 then (if (F5_whyNotDeliver u bb ss xc) = 0 then (if (F5_mostCrates u bb ss) < xc then (0, 0, u) else (if 0 < (F5_whyNotDeliver u bb ss xc) then (0, 1, u) else (if (F5_deliver u bb ss xc).1 = 0 then (if (F5_deliver u bb ss xc).2.1 = (xc * (((12 * (F5_setting u (F5_brand u bb 0))) + (F5_setting u 3)) + (F5_setting u 4))) then (0, 1, (F5_deliver u bb ss xc).2.2) else (0, 0, (F5_deliver u bb ss xc).2.2)) else ((F5_deliver u bb ss xc).1, 0, u)))) else (if (F5_mostCrates u bb ss) < xc then (if 0 < (F5_whyNotDeliver u bb ss xc) then (0, 1, u) else (if (F5_deliver u bb ss xc).1 = 0 then (if (F5_deliver u bb ss xc).2.1 = (xc * (((12 * (F5_setting u (F5_brand u bb 0))) + (F5_setting u 3)) + (F5_setting u 4))) then (0, 1, (F5_deliver u bb ss xc).2.2) else (0, 0, (F5_deliver u bb ss xc).2.2)) else ((F5_deliver u bb ss xc).1, 0, u))) else (0, 0, u))) else ((F5_needSetting (F5_brand u bb 0)), 0, u)) else ((F5_needRange xc 1 50), 0, u)) else (if (a2 &&& 7) = 3 then (if (F5_needArgument (F5_isShopNumber (10 + bb))) = 0 then (if (F5_shop u ss (10 + bb)) < nn then (0, 1, u) else (if (F5_sell u ss bb nn).1 = 0 then (if (F5_needBrand (F5_sell u ss bb nn).2.2 bb) = 0 then (if (F5_needSetting (F5_brand (F5_sell u ss bb nn).2.2 bb 0)) = 0 then (if (F5_sell u ss bb nn).2.1 = ((F5_shop u ss 0) + (nn * (F5_setting (F5_sell u ss bb nn).2.2 (F5_brand (F5_sell u ss bb nn).2.2 bb 0)))) then (0, 1, (F5_sell u ss bb nn).2.2) else (0, 0, (F5_sell u ss bb nn).2.2)) else ((F5_needSetting (F5_brand (F5_sell u ss bb nn).2.2 bb 0)), 0, (F5_sell u ss bb nn).2.2)) else ((F5_needBrand (F5_sell u ss bb nn).2.2 bb), 0, (F5_sell u ss bb nn).2.2)) else ((F5_sell u ss bb nn).1, 0, u))) else ((F5_needArgument (F5_isShopNumber (10 + bb))), 0, u)) else (if (a2 &&& 7) = 4 then (if (F5_needSetting (F5_brand u bb 0)) = 0 then (if (F5_brand u bb 5) < nn then (0, 1, u) else (if (F5_shop u ss 0) < (nn * (F5_setting u (F5_brand u bb 0))) then (0, 1, u) else (if (F5_takeBack u ss bb nn).1 = 0 then (if (F5_takeBack u ss bb nn).2.1 = ((F5_shop u ss 0) - (nn * (F5_setting u (F5_brand u bb 0)))) then (0, 1, (F5_takeBack u ss bb nn).2.2) else (0, 0, (F5_takeBack u ss bb nn).2.2)) else ((F5_takeBack u ss bb nn).1, 0, u)))) else ((F5_needSetting (F5_brand u bb 0)), 0, u)) else (if (a2 &&& 7) = 5 then (if (F5_needBrand (F5_collected u ss bb 1).2 bb) = 0 then (if (F5_needShop (F5_collected u ss bb 1).2 ss) = 0 then (if (F5_needKind (F5_brand u bb 0)) = 0 then (if (F5_whyNotCollect (F5_collected u ss bb 1).2 ss (F5_brand u bb 0) 1) ≤ 0 then (if (F5_bestShop (F5_collected u ss bb 1).2 (F5_brand u bb 0)) < 0 then (0, 0, (F5_collected u ss bb 1).2) else (if (F5_collect (F5_collected u ss bb 1).2 ss (F5_brand u bb 0) 1).1 = 0 then (if (F5_needSetting (F5_brand u bb 0)) = 0 then (if (F5_collect (F5_collected u ss bb 1).2 ss (F5_brand u bb 0) 1).2.1 = ((12 * (F5_setting (F5_collect (F5_collected u ss bb 1).2 ss (F5_brand u bb 0) 1).2.2 (F5_brand u bb 0))) + (F5_setting (F5_collect (F5_collected u ss bb 1).2 ss (F5_brand u bb 0) 1).2.2 3)) then (if (F5_count (F5_collect (F5_collected u ss bb 1).2 ss (F5_brand u bb 0) 1).2.2 8) = ((F5_count u 8) + 12) then (if (F5_needBrand (F5_collect (F5_collected u ss bb 1).2 ss (F5_brand u bb 0) 1).2.2 bb) = 0 then (if (F5_brand (F5_collect (F5_collected u ss bb 1).2 ss (F5_brand u bb 0) 1).2.2 bb 6) = ((F5_brand (F5_collected u ss bb 1).2 bb 6) + (F5_collected u ss bb 1).1) then (0, 1, (F5_collect (F5_collected u ss bb 1).2 ss (F5_brand u bb 0) 1).2.2) else (0, 0, (F5_collect (F5_collected u ss bb 1).2 ss (F5_brand u bb 0) 1).2.2)) else ((F5_needBrand (F5_collect (F5_collected u ss bb 1).2 ss (F5_brand u bb 0) 1).2.2 bb), 0, (F5_collect (F5_collected u ss bb 1).2 ss (F5_brand u bb 0) 1).2.2)) else (0, 0, (F5_collect (F5_collected u ss bb 1).2 ss (F5_brand u bb 0) 1).2.2)) else (0, 0, (F5_collect (F5_collected u ss bb 1).2 ss (F5_brand u bb 0) 1).2.2)) else ((F5_needSetting (F5_brand u bb 0)), 0, (F5_collect (F5_collected u ss bb 1).2 ss (F5_brand u bb 0) 1).2.2)) else ((F5_collect (F5_collected u ss bb 1).2 ss (F5_brand u bb 0) 1).1, 0, (F5_collected u ss bb 1).2))) else (if (F5_collected u ss bb 1).1 = (-1) then (0, 1, (F5_collected u ss bb 1).2) else (0, 0, (F5_collected u ss bb 1).2))) else ((F5_needKind (F5_brand u bb 0)), 0, (F5_collected u ss bb 1).2)) else ((F5_needShop (F5_collected u ss bb 1).2 ss), 0, (F5_collected u ss bb 1).2)) else ((F5_needBrand (F5_collected u ss bb 1).2 bb), 0, (F5_collected u ss bb 1).2)) else (if (a2 &&& 7) = 6 then (if (F5_needSetting (F5_brand u bb 0)) = 0 then (if (zz &&& 1) = 0 then (if (F5_needArgument (F5_isShopNumber (20 + bb))) = 0 then (if (F5_shop u ss (20 + bb)) < xb then (0, 1, u) else (if (F5_breaks u ss bb xb).1 = 0 then (if (F5_count u 6) ≤ (xb * (F5_setting u (F5_brand u bb 0))) then (if (F5_breaks u ss bb xb).2.1 = (F5_count u 6) then (0, 1, (F5_breaks u ss bb xb).2.2) else (0, 0, (F5_breaks u ss bb xb).2.2)) else (if (F5_breaks u ss bb xb).2.1 = (xb * (F5_setting u (F5_brand u bb 0))) then (0, 1, (F5_breaks u ss bb xb).2.2) else (0, 0, (F5_breaks u ss bb xb).2.2))) else ((F5_breaks u ss bb xb).1, 0, u))) else ((F5_needArgument (F5_isShopNumber (20 + bb))), 0, u)) else (if (F5_brand u bb 5) < xb then (0, 1, u) else (if (F5_lose u bb xb).1 = 0 then (if (F5_needBrand (F5_lose u bb xb).2.2 bb) = 0 then (if (F5_lose u bb xb).2.1 = (F5_brand (F5_lose u bb xb).2.2 bb 5) then (0, 1, (F5_lose u bb xb).2.2) else (0, 0, (F5_lose u bb xb).2.2)) else ((F5_needBrand (F5_lose u bb xb).2.2 bb), 0, (F5_lose u bb xb).2.2)) else ((F5_lose u bb xb).1, 0, u)))) else ((F5_needSetting (F5_brand u bb 0)), 0, u)) else (if (zz &&& 1) = 0 then (if (LL_acts_626 u bb ((F5_count u 0).toNatClampNeg + 1) 0 0) < nn then (0, 1, u) else (if (F5_sort u (F5_brand u bb 0) nn).1 = 0 then (if (F5_sort u (F5_brand u bb 0) nn).2.1 = ((LL_acts_626 u bb ((F5_count u 0).toNatClampNeg + 1) 0 0) - nn) then (0, 1, (F5_sort u (F5_brand u bb 0) nn).2.2) else (0, 0, (F5_sort u (F5_brand u bb 0) nn).2.2)) else ((F5_sort u (F5_brand u bb 0) nn).1, 0, u))) else (if bb = xt then (0, 1, u) else (if (F5_needBrand u xt) = 0 then (if (F5_brand u bb 0) = (F5_brand u xt 0) then (if (F5_brand u bb 1) < nn then (0, 1, u) else (if (FL_swaps u bb xt nn).1 = 0 then (if (FL_swaps u bb xt nn).2.1 = 0 then (0, 0, (FL_swaps u bb xt nn).2.2) else (0, 1, (FL_swaps u bb xt nn).2.2)) else ((FL_swaps u bb xt nn).1, 0, u))) else (0, 1, u)) else ((F5_needBrand u xt), 0, u)))))))))))
set_option maxHeartbeats 4000000 in
set_option maxRecDepth 100000 in
theorem CL_acts (l : Launch) (D : va_G) (cI cO : ClassId) (q : Nat → Nat) (u : bU) (H0 : Heap) (hq : bInj 23 q) (hP : va_P D vwCl (wC cI cO q u) H0) (a2 : Int32) (zz : Int32) (bb : Int32) (ss : Int32) (nn : Int32) (xc : Int32) (xb : Int32) (xt : Int32) (hok : rdOK u) (hlat : bLat u) (ez : (a2 >>> (3 &&& 31)) = zz) (eb : zz - zz / (F5_count u 0) * (F5_count u 0) = bb) (es : (zz >>> (4 &&& 31)) - (zz >>> (4 &&& 31)) / (F5_count u 1) * (F5_count u 1) = ss) (en : (1 : Int32) + ((zz >>> (7 &&& 31)) - (zz >>> (7 &&& 31)) / 40 * 40) = nn) (ec : (1 : Int32) + ((zz >>> (7 &&& 31)) - (zz >>> (7 &&& 31)) / 3 * 3) = xc) (ek : (1 : Int32) + (nn - nn / 5 * 5) = xb) (et : (zz >>> (10 &&& 31)) - (zz >>> (10 &&& 31)) / (F5_count u 0) * (F5_count u 0) = xt) (hb9 : F5_needBrand u bb = 0) (hs9 : F5_needShop u ss = 0) (h0 : (FL_acts u a2 zz bb ss nn xc xb xt).1 = 0) : Met l yL_acts wsL_acts ({ frames := 6, cells := 0, slots := 0, locals := 292 }) (bP D [(cI, .int), (cO, .object RX2)] H0 [.ref (q 0), .int a2]) (bWi D (wC cI cO q) bT (bA 23 q H0.size) ((FL_acts u a2 zz bb ss nn xc xb xt).2.1, (FL_acts u a2 zz bb ss nn xc xb xt).2.2)) 0 0 (bA 23 q H0.size) := by
  refine Met.ofW (cc := cL_acts) (maxL := 24) (ret := (some .boolean)) (by decide) rfl ?_
  intro p e s m args below meth c s₁ B hml hv
  obtain ⟨rfl, hH, hk⟩ := hv
  subst hH
  have hx := B.exec
  have hb := B.bytes
  have hr := B.returns
  have hts := atoms_spec (ws := wsL_acts) B.pre
  have hown : s.vm.findClass RL = some m.cls := findClass_of_methodNamed B.named
  have hlocks := B.notSynchronized
  have hS : va_S (bA 23 q s.heap.size) s.heap s.heap [] := va_S.rf
  have hl := lv_entry ([.ref (q 0), .int a2]) (n := 24) (Nat.le_of_ble_eq_true rfl)
  rw [lg_entry_eq]
  generalize (lg_sl ([.ref (q 0), .int a2]) ++ List.replicate (24 - (lg_sl ([.ref (q 0), .int a2])).length) Slot.unset).toArray = ls at hl ⊢
  have hl : lv_has ls 24 [(0, .ref (q 0)), (1, .int a2)] := hl
  generalize hF : FL_acts u a2 zz bb ss nn xc xb xt = tgt at h0 ⊢
  refine lv_iload_n hx hb dL_acts_0 rfl (lv_at hl 1 rfl) ?_
  refine lv_iconst (v := 3) hx hb dL_acts_1 (by decide) ?_
  refine lv_ishr hx hb dL_acts_2 ?_
  refine lv_topi (fun z9 hz9 => ?_)
  rw [hz9.trans ez]
  refine lv_istore_n (lv' := [(2, .int zz), (0, .ref (q 0)), (1, .int a2)]) hx hb dL_acts_3 rfl hl (by decide) rfl (fun ls hl => ?_)
  refine lv_iload_n hx hb dL_acts_4 rfl (lv_at hl 0 rfl) ?_
  refine lv_aload_n hx hb dL_acts_5 rfl (lv_at hl 1 rfl) ?_
  refine lv_iconst (v := 0) hx hb dL_acts_6 (by decide) ?_
  refine bcall_Ri (va_runV (As := [.int 0]) (rest := [.int zz]) ⟨hx, hb, hml, hown, hts⟩ (C5_count l D cI cO q _ _ hP 0 (by decide)) (cwV 1 hts gL_acts_X5_count rfl rfl rfl ⟨rfl, bd_X5count⟩ ⟨Nat.le_of_ble_eq_true rfl, Nat.le_of_ble_eq_true rfl⟩) (bPV hk (va_recv hk.1 hP (ci := 5) (q0 := 0) rfl (wC_0 _ _ _ _))) rfl rfl hl.1 rfl (lv_room (Nat.le_of_ble_eq_true rfl)) dL_acts_7 ⟨Nat.zero_le _, Nat.zero_le _⟩) hS (fun locs hS => ?_)
  refine lv_irem hx hb dL_acts_10 (ok_c0 hok) ?_
  refine lv_topi (fun z9 hz9 => ?_)
  rw [hz9.trans eb]
  refine lv_istore_n (lv' := [(3, .int bb), (2, .int zz), (0, .ref (q 0)), (1, .int a2)]) hx hb dL_acts_11 rfl hl (by decide) rfl (fun ls hl => ?_)
  refine lv_iload_n hx hb dL_acts_12 rfl (lv_at hl 1 rfl) ?_
  refine lv_iconst (v := 4) hx hb dL_acts_13 (by decide) ?_
  refine lv_ishr hx hb dL_acts_14 ?_
  refine lv_aload_n hx hb dL_acts_15 rfl (lv_at hl 2 rfl) ?_
  refine lv_iconst (v := 1) hx hb dL_acts_16 (by decide) ?_
  refine bcall_Ri (va_runV (As := [.int 1]) (rest := [.int (zz >>> (4 &&& 31))]) ⟨hx, hb, hml, hown, hts⟩ (C5_count l D cI cO q _ _ hP 1 (by decide)) (cwV 1 hts gL_acts_X5_count rfl rfl rfl ⟨rfl, bd_X5count⟩ ⟨Nat.le_of_ble_eq_true rfl, Nat.le_of_ble_eq_true rfl⟩) (bPV hk (va_recv hk.1 hP (ci := 5) (q0 := 0) rfl (wC_0 _ _ _ _))) rfl rfl hl.1 rfl (lv_room (Nat.le_of_ble_eq_true rfl)) dL_acts_17 ⟨Nat.zero_le _, Nat.zero_le _⟩) hS (fun locs hS => ?_)
  refine lv_irem hx hb dL_acts_20 (ok_c1 hok) ?_
  refine lv_topi (fun z9 hz9 => ?_)
  rw [hz9.trans es]
  refine lv_istore (lv' := [(4, .int ss), (3, .int bb), (2, .int zz), (0, .ref (q 0)), (1, .int a2)]) hx hb dL_acts_21 hl (by decide) rfl (fun ls hl => ?_)
  refine lv_iconst (v := 1) hx hb dL_acts_23 (by decide) ?_
  refine lv_iload_n hx hb dL_acts_24 rfl (lv_at hl 2 rfl) ?_
  refine lv_bipush (v := 7) hx hb dL_acts_25 (by decide) ?_
  refine lv_ishr hx hb dL_acts_27 ?_
  refine lv_bipush (v := 40) hx hb dL_acts_28 (by decide) ?_
  refine lv_irem hx hb dL_acts_30 (by decide) ?_
  refine lv_iadd hx hb dL_acts_31 ?_
  refine lv_topi (fun z9 hz9 => ?_)
  rw [hz9.trans en]
  refine lv_istore (lv' := [(5, .int nn), (4, .int ss), (3, .int bb), (2, .int zz), (0, .ref (q 0)), (1, .int a2)]) hx hb dL_acts_32 hl (by decide) rfl (fun ls hl => ?_)
  refine lv_iload_n hx hb dL_acts_34 rfl (lv_at hl 5 rfl) ?_
  refine lv_bipush (v := 7) hx hb dL_acts_35 (by decide) ?_
  refine lv_iand hx hb dL_acts_37 ?_
  by_cases c_1 : (a2 &&& 7) = 0
  · refine lv_tableIn (off := 42) (tgt := 80) hx hb dL_acts_38 (by rw [c_1]; decide) (by rw [c_1]; decide) (by rw [c_1]; rfl) (by decide) ?_
    refine lv_aload_n hx hb dL_acts_80 rfl (lv_at hl 4 rfl) ?_
    refine lv_iload_n hx hb dL_acts_81 rfl (lv_at hl 2 rfl) ?_
    refine lv_iconst (v := 1) hx hb dL_acts_82 (by decide) ?_
    refine bcall_Ri (va_runV (As := [.int bb, .int 1]) (rest := []) ⟨hx, hb, hml, hown, hts⟩ (C5_brand l D cI cO q _ _ hP bb 1 hb9 (by decide)) (cwV 2 hts gL_acts_X5_brand rfl rfl rfl ⟨rfl, bd_X5brand⟩ ⟨Nat.le_of_ble_eq_true rfl, Nat.le_of_ble_eq_true rfl⟩) (bPV hk (va_recv hk.1 hP (ci := 5) (q0 := 0) rfl (wC_0 _ _ _ _))) rfl rfl hl.1 rfl (lv_room (Nat.le_of_ble_eq_true rfl)) dL_acts_83 ⟨Nat.zero_le _, Nat.zero_le _⟩) hS (fun locs hS => ?_)
    refine lv_istore (lv' := [(6, .int (F5_brand u bb 1)), (5, .int nn), (4, .int ss), (3, .int bb), (2, .int zz), (0, .ref (q 0)), (1, .int a2)]) hx hb dL_acts_86 hl (by decide) rfl (fun ls hl => ?_)
    refine lv_aload_n hx hb dL_acts_88 rfl (lv_at hl 5 rfl) ?_
    refine lv_iload_n hx hb dL_acts_89 rfl (lv_at hl 3 rfl) ?_
    refine lv_iload hx hb dL_acts_90 (lv_at hl 1 rfl) ?_
    have c_2 : (F5_needRange nn 1 5000) = 0 := Decidable.byContradiction (fun h9 => absurd ((congrArg Prod.fst (show ((F5_needRange nn 1 5000), (0 : Int32), u) = tgt from by rw [← hF, FL_acts, if_pos c_1, if_neg h9])).trans h0) h9)
    refine bcall_Ri (va_runV (As := [.int bb, .int nn]) (rest := []) ⟨hx, hb, hml, hown, hts⟩ (C5_filled l D cI cO q _ _ hP bb nn hb9 c_2) (cwV 2 hts gL_acts_X5_filled rfl rfl rfl ⟨rfl, bd_X5filled⟩ ⟨Nat.le_of_ble_eq_true rfl, Nat.le_of_ble_eq_true rfl⟩) (bPV hk (va_recv hk.1 hP (ci := 5) (q0 := 0) rfl (wC_0 _ _ _ _))) rfl rfl hl.1 rfl (lv_room (Nat.le_of_ble_eq_true rfl)) dL_acts_92 ⟨Nat.zero_le _, Nat.zero_le _⟩) hS (fun locs hS => ?_)
    refine lv_istore (lv' := [(7, .int (F5_filled u bb nn)), (6, .int (F5_brand u bb 1)), (5, .int nn), (4, .int ss), (3, .int bb), (2, .int zz), (0, .ref (q 0)), (1, .int a2)]) hx hb dL_acts_95 hl (by decide) rfl (fun ls hl => ?_)
    refine lv_iload hx hb dL_acts_97 (lv_at hl 1 rfl) ?_
    refine lv_iload hx hb dL_acts_99 (lv_at hl 2 rfl) ?_
    refine lv_icmp_lt (tgt := 130) hx hb dL_acts_101 (by decide) (fun c_3 => ?_) (fun c_3 => ?_)
    · refine lv_iconst (v := 1) hx hb dL_acts_130 (by decide) ?_
      refine lv_goto (tgt := 135) hx hb dL_acts_131 (by decide) ?_
      exact bret_Yz hx hb hr hP hS hlocks dL_acts_135 (Or.inr rfl) (by rw [← hF, FL_acts, if_pos c_1, if_pos c_2, if_pos c_3])
    · refine lv_aload_n hx hb dL_acts_104 rfl (lv_at hl 6 rfl) ?_
      refine lv_iload_n hx hb dL_acts_105 rfl (lv_at hl 4 rfl) ?_
      refine lv_iload hx hb dL_acts_106 (lv_at hl 2 rfl) ?_
      have c_4 : (F5_fill u bb nn).1 = 0 := Decidable.byContradiction (fun h9 => absurd ((congrArg Prod.fst (show ((F5_fill u bb nn).1, (0 : Int32), u) = tgt from by rw [← hF, FL_acts, if_pos c_1, if_pos c_2, if_neg c_3, if_neg h9])).trans h0) h9)
      refine bcall_Wi (va_runV (As := [.int bb, .int nn]) (rest := []) ⟨hx, hb, hml, hown, hts⟩ (C5_fill l D cI cO q _ _ hq hP bb nn hlat c_4) (cwV 2 hts gL_acts_X5_fill rfl rfl rfl ⟨rfl, bd_X5fill⟩ ⟨Nat.le_of_ble_eq_true rfl, Nat.le_of_ble_eq_true rfl⟩) (bPV hk (va_recv hk.1 hP (ci := 5) (q0 := 0) rfl (wC_0 _ _ _ _))) rfl rfl hl.1 rfl (lv_room (Nat.le_of_ble_eq_true rfl)) dL_acts_108 ⟨Nat.zero_le _, Nat.zero_le _⟩) hS (fun H locs hP _ hS => ?_)
      refine lv_iload hx hb dL_acts_111 (lv_at hl 0 rfl) ?_
      refine lv_icmp_ne (tgt := 134) hx hb dL_acts_113 (by decide) (fun c_5 => ?_) (fun c_5 => ?_)
      · refine lv_iconst (v := 0) hx hb dL_acts_134 (by decide) ?_
        exact bret_Yz hx hb hr hP hS hlocks dL_acts_135 (Or.inl rfl) (by rw [← hF, FL_acts, if_pos c_1, if_pos c_2, if_neg c_3, if_pos c_4, if_neg c_5])
      · refine lv_aload_n hx hb dL_acts_116 rfl (lv_at hl 6 rfl) ?_
        refine lv_iload_n hx hb dL_acts_117 rfl (lv_at hl 4 rfl) ?_
        refine lv_iconst (v := 1) hx hb dL_acts_118 (by decide) ?_
        have c_6 : (F5_needBrand (F5_fill u bb nn).2.2 bb) = 0 := Decidable.byContradiction (fun h9 => absurd ((congrArg Prod.fst (show ((F5_needBrand (F5_fill u bb nn).2.2 bb), (0 : Int32), (F5_fill u bb nn).2.2) = tgt from by rw [← hF, FL_acts, if_pos c_1, if_pos c_2, if_neg c_3, if_pos c_4, if_pos c_5, if_neg h9])).trans h0) h9)
        refine bcall_Ri (va_runV (As := [.int bb, .int 1]) (rest := []) ⟨hx, hb, hml, hown, hts⟩ (C5_brand l D cI cO q _ _ hP bb 1 c_6 (by decide)) (cwV 2 hts gL_acts_X5_brand rfl rfl rfl ⟨rfl, bd_X5brand⟩ ⟨Nat.le_of_ble_eq_true rfl, Nat.le_of_ble_eq_true rfl⟩) (bPV hk (va_recv hk.1 hP (ci := 5) (q0 := 0) rfl (wC_0 _ _ _ _))) rfl rfl hl.1 rfl (lv_room (Nat.le_of_ble_eq_true rfl)) dL_acts_119 ⟨Nat.zero_le _, Nat.zero_le _⟩) hS (fun locs hS => ?_)
        refine lv_iload hx hb dL_acts_122 (lv_at hl 1 rfl) ?_
        refine lv_iload hx hb dL_acts_124 (lv_at hl 2 rfl) ?_
        refine lv_isub hx hb dL_acts_126 ?_
        refine lv_icmp_ne (tgt := 134) hx hb dL_acts_127 (by decide) (fun c_7 => ?_) (fun c_7 => ?_)
        · refine lv_iconst (v := 0) hx hb dL_acts_134 (by decide) ?_
          exact bret_Yz hx hb hr hP hS hlocks dL_acts_135 (Or.inl rfl) (by rw [← hF, FL_acts, if_pos c_1, if_pos c_2, if_neg c_3, if_pos c_4, if_pos c_5, if_pos c_6, if_neg c_7])
        · refine lv_iconst (v := 1) hx hb dL_acts_130 (by decide) ?_
          refine lv_goto (tgt := 135) hx hb dL_acts_131 (by decide) ?_
          exact bret_Yz hx hb hr hP hS hlocks dL_acts_135 (Or.inr rfl) (by rw [← hF, FL_acts, if_pos c_1, if_pos c_2, if_neg c_3, if_pos c_4, if_pos c_5, if_pos c_6, if_pos c_7])
  · by_cases c_8 : (a2 &&& 7) = 1
    · refine lv_tableIn (off := 98) (tgt := 136) hx hb dL_acts_38 (by rw [c_8]; decide) (by rw [c_8]; decide) (by rw [c_8]; rfl) (by decide) ?_
      refine lv_iconst (v := 1) hx hb dL_acts_136 (by decide) ?_
      refine lv_iload_n hx hb dL_acts_137 rfl (lv_at hl 3 rfl) ?_
      refine lv_bipush (v := 7) hx hb dL_acts_138 (by decide) ?_
      refine lv_ishr hx hb dL_acts_140 ?_
      refine lv_iconst (v := 3) hx hb dL_acts_141 (by decide) ?_
      refine lv_irem hx hb dL_acts_142 (by decide) ?_
      refine lv_iadd hx hb dL_acts_143 ?_
      refine lv_topi (fun z9 hz9 => ?_)
      rw [hz9.trans ec]
      refine lv_istore (lv' := [(8, .int xc), (5, .int nn), (4, .int ss), (3, .int bb), (2, .int zz), (0, .ref (q 0)), (1, .int a2)]) hx hb dL_acts_144 hl (by decide) rfl (fun ls hl => ?_)
      refine lv_aload_n hx hb dL_acts_146 rfl (lv_at hl 5 rfl) ?_
      refine lv_iload_n hx hb dL_acts_147 rfl (lv_at hl 3 rfl) ?_
      refine lv_iload hx hb dL_acts_148 (lv_at hl 2 rfl) ?_
      refine lv_iload hx hb dL_acts_150 (lv_at hl 0 rfl) ?_
      have c_9 : (F5_needRange xc 1 50) = 0 := Decidable.byContradiction (fun h9 => absurd ((congrArg Prod.fst (show ((F5_needRange xc 1 50), (0 : Int32), u) = tgt from by rw [← hF, FL_acts, if_neg c_1, if_pos c_8, if_neg h9])).trans h0) h9)
      refine bcall_Ri (va_runV (As := [.int bb, .int ss, .int xc]) (rest := []) ⟨hx, hb, hml, hown, hts⟩ (C5_whyNotDeliver l D cI cO q _ _ hP bb ss xc hb9 hs9 c_9) (cwV 3 hts gL_acts_X5_whyNotDeliver rfl rfl rfl ⟨rfl, bd_X5whyNotDeliver⟩ ⟨Nat.le_of_ble_eq_true rfl, Nat.le_of_ble_eq_true rfl⟩) (bPV hk (va_recv hk.1 hP (ci := 5) (q0 := 0) rfl (wC_0 _ _ _ _))) rfl rfl hl.1 rfl (lv_room (Nat.le_of_ble_eq_true rfl)) dL_acts_152 ⟨Nat.zero_le _, Nat.zero_le _⟩) hS (fun locs hS => ?_)
      refine lv_istore (lv' := [(9, .int (F5_whyNotDeliver u bb ss xc)), (8, .int xc), (5, .int nn), (4, .int ss), (3, .int bb), (2, .int zz), (0, .ref (q 0)), (1, .int a2)]) hx hb dL_acts_155 hl (by decide) rfl (fun ls hl => ?_)
      refine lv_aload_n hx hb dL_acts_157 rfl (lv_at hl 6 rfl) ?_
      refine lv_iload_n hx hb dL_acts_158 rfl (lv_at hl 4 rfl) ?_
      refine lv_iload hx hb dL_acts_159 (lv_at hl 3 rfl) ?_
      refine bcall_Ri (va_runV (As := [.int bb, .int ss]) (rest := []) ⟨hx, hb, hml, hown, hts⟩ (C5_mostCrates l D cI cO q _ _ hP bb ss hb9 hs9) (cwV 2 hts gL_acts_X5_mostCrates rfl rfl rfl ⟨rfl, bd_X5mostCrates⟩ ⟨Nat.le_of_ble_eq_true rfl, Nat.le_of_ble_eq_true rfl⟩) (bPV hk (va_recv hk.1 hP (ci := 5) (q0 := 0) rfl (wC_0 _ _ _ _))) rfl rfl hl.1 rfl (lv_room (Nat.le_of_ble_eq_true rfl)) dL_acts_161 ⟨Nat.zero_le _, Nat.zero_le _⟩) hS (fun locs hS => ?_)
      refine lv_istore (lv' := [(10, .int (F5_mostCrates u bb ss)), (9, .int (F5_whyNotDeliver u bb ss xc)), (8, .int xc), (5, .int nn), (4, .int ss), (3, .int bb), (2, .int zz), (0, .ref (q 0)), (1, .int a2)]) hx hb dL_acts_164 hl (by decide) rfl (fun ls hl => ?_)
      refine lv_bipush (v := 12) hx hb dL_acts_166 (by decide) ?_
      refine lv_aload_n hx hb dL_acts_168 rfl (lv_at hl 7 rfl) ?_
      refine lv_aload_n hx hb dL_acts_169 rfl (lv_at hl 7 rfl) ?_
      refine lv_iload_n hx hb dL_acts_170 rfl (lv_at hl 5 rfl) ?_
      refine lv_iconst (v := 0) hx hb dL_acts_171 (by decide) ?_
      refine bcall_Ri (va_runV (As := [.int bb, .int 0]) (rest := [.ref (q 0), .int 12]) ⟨hx, hb, hml, hown, hts⟩ (C5_brand l D cI cO q _ _ hP bb 0 hb9 (by decide)) (cwV 2 hts gL_acts_X5_brand rfl rfl rfl ⟨rfl, bd_X5brand⟩ ⟨Nat.le_of_ble_eq_true rfl, Nat.le_of_ble_eq_true rfl⟩) (bPV hk (va_recv hk.1 hP (ci := 5) (q0 := 0) rfl (wC_0 _ _ _ _))) rfl rfl hl.1 rfl (lv_room (Nat.le_of_ble_eq_true rfl)) dL_acts_172 ⟨Nat.zero_le _, Nat.zero_le _⟩) hS (fun locs hS => ?_)
      have c_10 : (F5_needSetting (F5_brand u bb 0)) = 0 := Decidable.byContradiction (fun h9 => absurd ((congrArg Prod.fst (show ((F5_needSetting (F5_brand u bb 0)), (0 : Int32), u) = tgt from by rw [← hF, FL_acts, if_neg c_1, if_pos c_8, if_pos c_9, if_neg h9])).trans h0) h9)
      refine bcall_Ri (va_runV (As := [.int (F5_brand u bb 0)]) (rest := [.int 12]) ⟨hx, hb, hml, hown, hts⟩ (C5_setting l D cI cO q _ _ hP (F5_brand u bb 0) c_10) (cwV 1 hts gL_acts_X5_setting rfl rfl rfl ⟨rfl, bd_X5setting⟩ ⟨Nat.le_of_ble_eq_true rfl, Nat.le_of_ble_eq_true rfl⟩) (bPV hk (va_recv hk.1 hP (ci := 5) (q0 := 0) rfl (wC_0 _ _ _ _))) rfl rfl hl.1 rfl (lv_room (Nat.le_of_ble_eq_true rfl)) dL_acts_175 ⟨Nat.zero_le _, Nat.zero_le _⟩) hS (fun locs hS => ?_)
      refine lv_imul hx hb dL_acts_178 ?_
      refine lv_aload_n hx hb dL_acts_179 rfl (lv_at hl 7 rfl) ?_
      refine lv_iconst (v := 3) hx hb dL_acts_180 (by decide) ?_
      refine bcall_Ri (va_runV (As := [.int 3]) (rest := [.int (12 * (F5_setting u (F5_brand u bb 0)))]) ⟨hx, hb, hml, hown, hts⟩ (C5_setting l D cI cO q _ _ hP 3 (by decide)) (cwV 1 hts gL_acts_X5_setting rfl rfl rfl ⟨rfl, bd_X5setting⟩ ⟨Nat.le_of_ble_eq_true rfl, Nat.le_of_ble_eq_true rfl⟩) (bPV hk (va_recv hk.1 hP (ci := 5) (q0 := 0) rfl (wC_0 _ _ _ _))) rfl rfl hl.1 rfl (lv_room (Nat.le_of_ble_eq_true rfl)) dL_acts_181 ⟨Nat.zero_le _, Nat.zero_le _⟩) hS (fun locs hS => ?_)
      refine lv_iadd hx hb dL_acts_184 ?_
      refine lv_aload_n hx hb dL_acts_185 rfl (lv_at hl 7 rfl) ?_
      refine lv_iconst (v := 4) hx hb dL_acts_186 (by decide) ?_
      refine bcall_Ri (va_runV (As := [.int 4]) (rest := [.int ((12 * (F5_setting u (F5_brand u bb 0))) + (F5_setting u 3))]) ⟨hx, hb, hml, hown, hts⟩ (C5_setting l D cI cO q _ _ hP 4 (by decide)) (cwV 1 hts gL_acts_X5_setting rfl rfl rfl ⟨rfl, bd_X5setting⟩ ⟨Nat.le_of_ble_eq_true rfl, Nat.le_of_ble_eq_true rfl⟩) (bPV hk (va_recv hk.1 hP (ci := 5) (q0 := 0) rfl (wC_0 _ _ _ _))) rfl rfl hl.1 rfl (lv_room (Nat.le_of_ble_eq_true rfl)) dL_acts_187 ⟨Nat.zero_le _, Nat.zero_le _⟩) hS (fun locs hS => ?_)
      refine lv_iadd hx hb dL_acts_190 ?_
      refine lv_istore (lv' := [(11, .int (((12 * (F5_setting u (F5_brand u bb 0))) + (F5_setting u 3)) + (F5_setting u 4))), (10, .int (F5_mostCrates u bb ss)), (9, .int (F5_whyNotDeliver u bb ss xc)), (8, .int xc), (5, .int nn), (4, .int ss), (3, .int bb), (2, .int zz), (0, .ref (q 0)), (1, .int a2)]) hx hb dL_acts_191 hl (by decide) rfl (fun ls hl => ?_)
      refine lv_iload hx hb dL_acts_193 (lv_at hl 2 rfl) ?_
      refine lv_if_ne (tgt := 202) hx hb dL_acts_195 (by decide) (fun c_11 => ?_) (fun c_11 => ?_)
      · refine lv_iconst (v := 0) hx hb dL_acts_202 (by decide) ?_
        refine lv_iload hx hb dL_acts_203 (lv_at hl 1 rfl) ?_
        refine lv_iload hx hb dL_acts_205 (lv_at hl 3 rfl) ?_
        refine lv_icmp_lt (tgt := 214) hx hb dL_acts_207 (by decide) (fun c_12 => ?_) (fun c_12 => ?_)
        · refine lv_iconst (v := 0) hx hb dL_acts_214 (by decide) ?_
          refine lv_icmp_ne (tgt := 244) hx hb dL_acts_215 (by decide) (fun h9 => absurd (by decide) h9) (fun _ => ?_)
          refine lv_iload hx hb dL_acts_218 (lv_at hl 2 rfl) ?_
          refine lv_if_gt (tgt := 240) hx hb dL_acts_220 (by decide) (fun c_13 => ?_) (fun c_13 => ?_)
          · refine lv_iconst (v := 1) hx hb dL_acts_240 (by decide) ?_
            refine lv_goto (tgt := 245) hx hb dL_acts_241 (by decide) ?_
            exact bret_Yz hx hb hr hP hS hlocks dL_acts_245 (Or.inr rfl) (by rw [← hF, FL_acts, if_neg c_1, if_pos c_8, if_pos c_9, if_pos c_10, if_neg c_11, if_pos c_12, if_pos c_13])
          · refine lv_aload_n hx hb dL_acts_223 rfl (lv_at hl 8 rfl) ?_
            refine lv_iload_n hx hb dL_acts_224 rfl (lv_at hl 6 rfl) ?_
            refine lv_iload hx hb dL_acts_225 (lv_at hl 5 rfl) ?_
            refine lv_iload hx hb dL_acts_227 (lv_at hl 3 rfl) ?_
            have c_14 : (F5_deliver u bb ss xc).1 = 0 := Decidable.byContradiction (fun h9 => absurd ((congrArg Prod.fst (show ((F5_deliver u bb ss xc).1, (0 : Int32), u) = tgt from by rw [← hF, FL_acts, if_neg c_1, if_pos c_8, if_pos c_9, if_pos c_10, if_neg c_11, if_pos c_12, if_neg c_13, if_neg h9])).trans h0) h9)
            refine bcall_Wi (va_runV (As := [.int bb, .int ss, .int xc]) (rest := []) ⟨hx, hb, hml, hown, hts⟩ (C5_deliver l D cI cO q _ _ hq hP bb ss xc hlat c_14) (cwV 3 hts gL_acts_X5_deliver rfl rfl rfl ⟨rfl, bd_X5deliver⟩ ⟨Nat.le_of_ble_eq_true rfl, Nat.le_of_ble_eq_true rfl⟩) (bPV hk (va_recv hk.1 hP (ci := 5) (q0 := 0) rfl (wC_0 _ _ _ _))) rfl rfl hl.1 rfl (lv_room (Nat.le_of_ble_eq_true rfl)) dL_acts_229 ⟨Nat.zero_le _, Nat.zero_le _⟩) hS (fun H locs hP _ hS => ?_)
            refine lv_iload hx hb dL_acts_232 (lv_at hl 3 rfl) ?_
            refine lv_iload hx hb dL_acts_234 (lv_at hl 0 rfl) ?_
            refine lv_imul hx hb dL_acts_236 ?_
            refine lv_icmp_ne (tgt := 244) hx hb dL_acts_237 (by decide) (fun c_15 => ?_) (fun c_15 => ?_)
            · refine lv_iconst (v := 0) hx hb dL_acts_244 (by decide) ?_
              exact bret_Yz hx hb hr hP hS hlocks dL_acts_245 (Or.inl rfl) (by rw [← hF, FL_acts, if_neg c_1, if_pos c_8, if_pos c_9, if_pos c_10, if_neg c_11, if_pos c_12, if_neg c_13, if_pos c_14, if_neg c_15])
            · refine lv_iconst (v := 1) hx hb dL_acts_240 (by decide) ?_
              refine lv_goto (tgt := 245) hx hb dL_acts_241 (by decide) ?_
              exact bret_Yz hx hb hr hP hS hlocks dL_acts_245 (Or.inr rfl) (by rw [← hF, FL_acts, if_neg c_1, if_pos c_8, if_pos c_9, if_pos c_10, if_neg c_11, if_pos c_12, if_neg c_13, if_pos c_14, if_pos c_15])
        · refine lv_iconst (v := 1) hx hb dL_acts_210 (by decide) ?_
          refine lv_goto (tgt := 215) hx hb dL_acts_211 (by decide) ?_
          refine lv_icmp_ne (tgt := 244) hx hb dL_acts_215 (by decide) (fun _ => ?_) (fun h9 => absurd h9 (by decide))
          refine lv_iconst (v := 0) hx hb dL_acts_244 (by decide) ?_
          exact bret_Yz hx hb hr hP hS hlocks dL_acts_245 (Or.inl rfl) (by rw [← hF, FL_acts, if_neg c_1, if_pos c_8, if_pos c_9, if_pos c_10, if_neg c_11, if_neg c_12])
      · refine lv_iconst (v := 1) hx hb dL_acts_198 (by decide) ?_
        refine lv_goto (tgt := 203) hx hb dL_acts_199 (by decide) ?_
        refine lv_iload hx hb dL_acts_203 (lv_at hl 1 rfl) ?_
        refine lv_iload hx hb dL_acts_205 (lv_at hl 3 rfl) ?_
        refine lv_icmp_lt (tgt := 214) hx hb dL_acts_207 (by decide) (fun c_16 => ?_) (fun c_16 => ?_)
        · refine lv_iconst (v := 0) hx hb dL_acts_214 (by decide) ?_
          refine lv_icmp_ne (tgt := 244) hx hb dL_acts_215 (by decide) (fun _ => ?_) (fun h9 => absurd h9 (by decide))
          refine lv_iconst (v := 0) hx hb dL_acts_244 (by decide) ?_
          exact bret_Yz hx hb hr hP hS hlocks dL_acts_245 (Or.inl rfl) (by rw [← hF, FL_acts, if_neg c_1, if_pos c_8, if_pos c_9, if_pos c_10, if_pos c_11, if_pos c_16])
        · refine lv_iconst (v := 1) hx hb dL_acts_210 (by decide) ?_
          refine lv_goto (tgt := 215) hx hb dL_acts_211 (by decide) ?_
          refine lv_icmp_ne (tgt := 244) hx hb dL_acts_215 (by decide) (fun h9 => absurd (by decide) h9) (fun _ => ?_)
          refine lv_iload hx hb dL_acts_218 (lv_at hl 2 rfl) ?_
          refine lv_if_gt (tgt := 240) hx hb dL_acts_220 (by decide) (fun c_17 => ?_) (fun c_17 => ?_)
          · refine lv_iconst (v := 1) hx hb dL_acts_240 (by decide) ?_
            refine lv_goto (tgt := 245) hx hb dL_acts_241 (by decide) ?_
            exact bret_Yz hx hb hr hP hS hlocks dL_acts_245 (Or.inr rfl) (by rw [← hF, FL_acts, if_neg c_1, if_pos c_8, if_pos c_9, if_pos c_10, if_pos c_11, if_neg c_16, if_pos c_17])
          · refine lv_aload_n hx hb dL_acts_223 rfl (lv_at hl 8 rfl) ?_
            refine lv_iload_n hx hb dL_acts_224 rfl (lv_at hl 6 rfl) ?_
            refine lv_iload hx hb dL_acts_225 (lv_at hl 5 rfl) ?_
            refine lv_iload hx hb dL_acts_227 (lv_at hl 3 rfl) ?_
            have c_18 : (F5_deliver u bb ss xc).1 = 0 := Decidable.byContradiction (fun h9 => absurd ((congrArg Prod.fst (show ((F5_deliver u bb ss xc).1, (0 : Int32), u) = tgt from by rw [← hF, FL_acts, if_neg c_1, if_pos c_8, if_pos c_9, if_pos c_10, if_pos c_11, if_neg c_16, if_neg c_17, if_neg h9])).trans h0) h9)
            refine bcall_Wi (va_runV (As := [.int bb, .int ss, .int xc]) (rest := []) ⟨hx, hb, hml, hown, hts⟩ (C5_deliver l D cI cO q _ _ hq hP bb ss xc hlat c_18) (cwV 3 hts gL_acts_X5_deliver rfl rfl rfl ⟨rfl, bd_X5deliver⟩ ⟨Nat.le_of_ble_eq_true rfl, Nat.le_of_ble_eq_true rfl⟩) (bPV hk (va_recv hk.1 hP (ci := 5) (q0 := 0) rfl (wC_0 _ _ _ _))) rfl rfl hl.1 rfl (lv_room (Nat.le_of_ble_eq_true rfl)) dL_acts_229 ⟨Nat.zero_le _, Nat.zero_le _⟩) hS (fun H locs hP _ hS => ?_)
            refine lv_iload hx hb dL_acts_232 (lv_at hl 3 rfl) ?_
            refine lv_iload hx hb dL_acts_234 (lv_at hl 0 rfl) ?_
            refine lv_imul hx hb dL_acts_236 ?_
            refine lv_icmp_ne (tgt := 244) hx hb dL_acts_237 (by decide) (fun c_19 => ?_) (fun c_19 => ?_)
            · refine lv_iconst (v := 0) hx hb dL_acts_244 (by decide) ?_
              exact bret_Yz hx hb hr hP hS hlocks dL_acts_245 (Or.inl rfl) (by rw [← hF, FL_acts, if_neg c_1, if_pos c_8, if_pos c_9, if_pos c_10, if_pos c_11, if_neg c_16, if_neg c_17, if_pos c_18, if_neg c_19])
            · refine lv_iconst (v := 1) hx hb dL_acts_240 (by decide) ?_
              refine lv_goto (tgt := 245) hx hb dL_acts_241 (by decide) ?_
              exact bret_Yz hx hb hr hP hS hlocks dL_acts_245 (Or.inr rfl) (by rw [← hF, FL_acts, if_neg c_1, if_pos c_8, if_pos c_9, if_pos c_10, if_pos c_11, if_neg c_16, if_neg c_17, if_pos c_18, if_pos c_19])
    · by_cases c_20 : (a2 &&& 7) = 2
      · refine lv_tableIn (off := 98) (tgt := 136) hx hb dL_acts_38 (by rw [c_20]; decide) (by rw [c_20]; decide) (by rw [c_20]; rfl) (by decide) ?_
        refine lv_iconst (v := 1) hx hb dL_acts_136 (by decide) ?_
        refine lv_iload_n hx hb dL_acts_137 rfl (lv_at hl 3 rfl) ?_
        refine lv_bipush (v := 7) hx hb dL_acts_138 (by decide) ?_
        refine lv_ishr hx hb dL_acts_140 ?_
        refine lv_iconst (v := 3) hx hb dL_acts_141 (by decide) ?_
        refine lv_irem hx hb dL_acts_142 (by decide) ?_
        refine lv_iadd hx hb dL_acts_143 ?_
        refine lv_topi (fun z9 hz9 => ?_)
        rw [hz9.trans ec]
        refine lv_istore (lv' := [(8, .int xc), (5, .int nn), (4, .int ss), (3, .int bb), (2, .int zz), (0, .ref (q 0)), (1, .int a2)]) hx hb dL_acts_144 hl (by decide) rfl (fun ls hl => ?_)
        refine lv_aload_n hx hb dL_acts_146 rfl (lv_at hl 5 rfl) ?_
        refine lv_iload_n hx hb dL_acts_147 rfl (lv_at hl 3 rfl) ?_
        refine lv_iload hx hb dL_acts_148 (lv_at hl 2 rfl) ?_
        refine lv_iload hx hb dL_acts_150 (lv_at hl 0 rfl) ?_
        have c_21 : (F5_needRange xc 1 50) = 0 := Decidable.byContradiction (fun h9 => absurd ((congrArg Prod.fst (show ((F5_needRange xc 1 50), (0 : Int32), u) = tgt from by rw [← hF, FL_acts, if_neg c_1, if_neg c_8, if_pos c_20, if_neg h9])).trans h0) h9)
        refine bcall_Ri (va_runV (As := [.int bb, .int ss, .int xc]) (rest := []) ⟨hx, hb, hml, hown, hts⟩ (C5_whyNotDeliver l D cI cO q _ _ hP bb ss xc hb9 hs9 c_21) (cwV 3 hts gL_acts_X5_whyNotDeliver rfl rfl rfl ⟨rfl, bd_X5whyNotDeliver⟩ ⟨Nat.le_of_ble_eq_true rfl, Nat.le_of_ble_eq_true rfl⟩) (bPV hk (va_recv hk.1 hP (ci := 5) (q0 := 0) rfl (wC_0 _ _ _ _))) rfl rfl hl.1 rfl (lv_room (Nat.le_of_ble_eq_true rfl)) dL_acts_152 ⟨Nat.zero_le _, Nat.zero_le _⟩) hS (fun locs hS => ?_)
        refine lv_istore (lv' := [(9, .int (F5_whyNotDeliver u bb ss xc)), (8, .int xc), (5, .int nn), (4, .int ss), (3, .int bb), (2, .int zz), (0, .ref (q 0)), (1, .int a2)]) hx hb dL_acts_155 hl (by decide) rfl (fun ls hl => ?_)
        refine lv_aload_n hx hb dL_acts_157 rfl (lv_at hl 6 rfl) ?_
        refine lv_iload_n hx hb dL_acts_158 rfl (lv_at hl 4 rfl) ?_
        refine lv_iload hx hb dL_acts_159 (lv_at hl 3 rfl) ?_
        refine bcall_Ri (va_runV (As := [.int bb, .int ss]) (rest := []) ⟨hx, hb, hml, hown, hts⟩ (C5_mostCrates l D cI cO q _ _ hP bb ss hb9 hs9) (cwV 2 hts gL_acts_X5_mostCrates rfl rfl rfl ⟨rfl, bd_X5mostCrates⟩ ⟨Nat.le_of_ble_eq_true rfl, Nat.le_of_ble_eq_true rfl⟩) (bPV hk (va_recv hk.1 hP (ci := 5) (q0 := 0) rfl (wC_0 _ _ _ _))) rfl rfl hl.1 rfl (lv_room (Nat.le_of_ble_eq_true rfl)) dL_acts_161 ⟨Nat.zero_le _, Nat.zero_le _⟩) hS (fun locs hS => ?_)
        refine lv_istore (lv' := [(10, .int (F5_mostCrates u bb ss)), (9, .int (F5_whyNotDeliver u bb ss xc)), (8, .int xc), (5, .int nn), (4, .int ss), (3, .int bb), (2, .int zz), (0, .ref (q 0)), (1, .int a2)]) hx hb dL_acts_164 hl (by decide) rfl (fun ls hl => ?_)
        refine lv_bipush (v := 12) hx hb dL_acts_166 (by decide) ?_
        refine lv_aload_n hx hb dL_acts_168 rfl (lv_at hl 7 rfl) ?_
        refine lv_aload_n hx hb dL_acts_169 rfl (lv_at hl 7 rfl) ?_
        refine lv_iload_n hx hb dL_acts_170 rfl (lv_at hl 5 rfl) ?_
        refine lv_iconst (v := 0) hx hb dL_acts_171 (by decide) ?_
        refine bcall_Ri (va_runV (As := [.int bb, .int 0]) (rest := [.ref (q 0), .int 12]) ⟨hx, hb, hml, hown, hts⟩ (C5_brand l D cI cO q _ _ hP bb 0 hb9 (by decide)) (cwV 2 hts gL_acts_X5_brand rfl rfl rfl ⟨rfl, bd_X5brand⟩ ⟨Nat.le_of_ble_eq_true rfl, Nat.le_of_ble_eq_true rfl⟩) (bPV hk (va_recv hk.1 hP (ci := 5) (q0 := 0) rfl (wC_0 _ _ _ _))) rfl rfl hl.1 rfl (lv_room (Nat.le_of_ble_eq_true rfl)) dL_acts_172 ⟨Nat.zero_le _, Nat.zero_le _⟩) hS (fun locs hS => ?_)
        have c_22 : (F5_needSetting (F5_brand u bb 0)) = 0 := Decidable.byContradiction (fun h9 => absurd ((congrArg Prod.fst (show ((F5_needSetting (F5_brand u bb 0)), (0 : Int32), u) = tgt from by rw [← hF, FL_acts, if_neg c_1, if_neg c_8, if_pos c_20, if_pos c_21, if_neg h9])).trans h0) h9)
        refine bcall_Ri (va_runV (As := [.int (F5_brand u bb 0)]) (rest := [.int 12]) ⟨hx, hb, hml, hown, hts⟩ (C5_setting l D cI cO q _ _ hP (F5_brand u bb 0) c_22) (cwV 1 hts gL_acts_X5_setting rfl rfl rfl ⟨rfl, bd_X5setting⟩ ⟨Nat.le_of_ble_eq_true rfl, Nat.le_of_ble_eq_true rfl⟩) (bPV hk (va_recv hk.1 hP (ci := 5) (q0 := 0) rfl (wC_0 _ _ _ _))) rfl rfl hl.1 rfl (lv_room (Nat.le_of_ble_eq_true rfl)) dL_acts_175 ⟨Nat.zero_le _, Nat.zero_le _⟩) hS (fun locs hS => ?_)
        refine lv_imul hx hb dL_acts_178 ?_
        refine lv_aload_n hx hb dL_acts_179 rfl (lv_at hl 7 rfl) ?_
        refine lv_iconst (v := 3) hx hb dL_acts_180 (by decide) ?_
        refine bcall_Ri (va_runV (As := [.int 3]) (rest := [.int (12 * (F5_setting u (F5_brand u bb 0)))]) ⟨hx, hb, hml, hown, hts⟩ (C5_setting l D cI cO q _ _ hP 3 (by decide)) (cwV 1 hts gL_acts_X5_setting rfl rfl rfl ⟨rfl, bd_X5setting⟩ ⟨Nat.le_of_ble_eq_true rfl, Nat.le_of_ble_eq_true rfl⟩) (bPV hk (va_recv hk.1 hP (ci := 5) (q0 := 0) rfl (wC_0 _ _ _ _))) rfl rfl hl.1 rfl (lv_room (Nat.le_of_ble_eq_true rfl)) dL_acts_181 ⟨Nat.zero_le _, Nat.zero_le _⟩) hS (fun locs hS => ?_)
        refine lv_iadd hx hb dL_acts_184 ?_
        refine lv_aload_n hx hb dL_acts_185 rfl (lv_at hl 7 rfl) ?_
        refine lv_iconst (v := 4) hx hb dL_acts_186 (by decide) ?_
        refine bcall_Ri (va_runV (As := [.int 4]) (rest := [.int ((12 * (F5_setting u (F5_brand u bb 0))) + (F5_setting u 3))]) ⟨hx, hb, hml, hown, hts⟩ (C5_setting l D cI cO q _ _ hP 4 (by decide)) (cwV 1 hts gL_acts_X5_setting rfl rfl rfl ⟨rfl, bd_X5setting⟩ ⟨Nat.le_of_ble_eq_true rfl, Nat.le_of_ble_eq_true rfl⟩) (bPV hk (va_recv hk.1 hP (ci := 5) (q0 := 0) rfl (wC_0 _ _ _ _))) rfl rfl hl.1 rfl (lv_room (Nat.le_of_ble_eq_true rfl)) dL_acts_187 ⟨Nat.zero_le _, Nat.zero_le _⟩) hS (fun locs hS => ?_)
        refine lv_iadd hx hb dL_acts_190 ?_
        refine lv_istore (lv' := [(11, .int (((12 * (F5_setting u (F5_brand u bb 0))) + (F5_setting u 3)) + (F5_setting u 4))), (10, .int (F5_mostCrates u bb ss)), (9, .int (F5_whyNotDeliver u bb ss xc)), (8, .int xc), (5, .int nn), (4, .int ss), (3, .int bb), (2, .int zz), (0, .ref (q 0)), (1, .int a2)]) hx hb dL_acts_191 hl (by decide) rfl (fun ls hl => ?_)
        refine lv_iload hx hb dL_acts_193 (lv_at hl 2 rfl) ?_
        refine lv_if_ne (tgt := 202) hx hb dL_acts_195 (by decide) (fun c_23 => ?_) (fun c_23 => ?_)
        · refine lv_iconst (v := 0) hx hb dL_acts_202 (by decide) ?_
          refine lv_iload hx hb dL_acts_203 (lv_at hl 1 rfl) ?_
          refine lv_iload hx hb dL_acts_205 (lv_at hl 3 rfl) ?_
          refine lv_icmp_lt (tgt := 214) hx hb dL_acts_207 (by decide) (fun c_24 => ?_) (fun c_24 => ?_)
          · refine lv_iconst (v := 0) hx hb dL_acts_214 (by decide) ?_
            refine lv_icmp_ne (tgt := 244) hx hb dL_acts_215 (by decide) (fun h9 => absurd (by decide) h9) (fun _ => ?_)
            refine lv_iload hx hb dL_acts_218 (lv_at hl 2 rfl) ?_
            refine lv_if_gt (tgt := 240) hx hb dL_acts_220 (by decide) (fun c_25 => ?_) (fun c_25 => ?_)
            · refine lv_iconst (v := 1) hx hb dL_acts_240 (by decide) ?_
              refine lv_goto (tgt := 245) hx hb dL_acts_241 (by decide) ?_
              exact bret_Yz hx hb hr hP hS hlocks dL_acts_245 (Or.inr rfl) (by rw [← hF, FL_acts, if_neg c_1, if_neg c_8, if_pos c_20, if_pos c_21, if_pos c_22, if_neg c_23, if_pos c_24, if_pos c_25])
            · refine lv_aload_n hx hb dL_acts_223 rfl (lv_at hl 8 rfl) ?_
              refine lv_iload_n hx hb dL_acts_224 rfl (lv_at hl 6 rfl) ?_
              refine lv_iload hx hb dL_acts_225 (lv_at hl 5 rfl) ?_
              refine lv_iload hx hb dL_acts_227 (lv_at hl 3 rfl) ?_
              have c_26 : (F5_deliver u bb ss xc).1 = 0 := Decidable.byContradiction (fun h9 => absurd ((congrArg Prod.fst (show ((F5_deliver u bb ss xc).1, (0 : Int32), u) = tgt from by rw [← hF, FL_acts, if_neg c_1, if_neg c_8, if_pos c_20, if_pos c_21, if_pos c_22, if_neg c_23, if_pos c_24, if_neg c_25, if_neg h9])).trans h0) h9)
              refine bcall_Wi (va_runV (As := [.int bb, .int ss, .int xc]) (rest := []) ⟨hx, hb, hml, hown, hts⟩ (C5_deliver l D cI cO q _ _ hq hP bb ss xc hlat c_26) (cwV 3 hts gL_acts_X5_deliver rfl rfl rfl ⟨rfl, bd_X5deliver⟩ ⟨Nat.le_of_ble_eq_true rfl, Nat.le_of_ble_eq_true rfl⟩) (bPV hk (va_recv hk.1 hP (ci := 5) (q0 := 0) rfl (wC_0 _ _ _ _))) rfl rfl hl.1 rfl (lv_room (Nat.le_of_ble_eq_true rfl)) dL_acts_229 ⟨Nat.zero_le _, Nat.zero_le _⟩) hS (fun H locs hP _ hS => ?_)
              refine lv_iload hx hb dL_acts_232 (lv_at hl 3 rfl) ?_
              refine lv_iload hx hb dL_acts_234 (lv_at hl 0 rfl) ?_
              refine lv_imul hx hb dL_acts_236 ?_
              refine lv_icmp_ne (tgt := 244) hx hb dL_acts_237 (by decide) (fun c_27 => ?_) (fun c_27 => ?_)
              · refine lv_iconst (v := 0) hx hb dL_acts_244 (by decide) ?_
                exact bret_Yz hx hb hr hP hS hlocks dL_acts_245 (Or.inl rfl) (by rw [← hF, FL_acts, if_neg c_1, if_neg c_8, if_pos c_20, if_pos c_21, if_pos c_22, if_neg c_23, if_pos c_24, if_neg c_25, if_pos c_26, if_neg c_27])
              · refine lv_iconst (v := 1) hx hb dL_acts_240 (by decide) ?_
                refine lv_goto (tgt := 245) hx hb dL_acts_241 (by decide) ?_
                exact bret_Yz hx hb hr hP hS hlocks dL_acts_245 (Or.inr rfl) (by rw [← hF, FL_acts, if_neg c_1, if_neg c_8, if_pos c_20, if_pos c_21, if_pos c_22, if_neg c_23, if_pos c_24, if_neg c_25, if_pos c_26, if_pos c_27])
          · refine lv_iconst (v := 1) hx hb dL_acts_210 (by decide) ?_
            refine lv_goto (tgt := 215) hx hb dL_acts_211 (by decide) ?_
            refine lv_icmp_ne (tgt := 244) hx hb dL_acts_215 (by decide) (fun _ => ?_) (fun h9 => absurd h9 (by decide))
            refine lv_iconst (v := 0) hx hb dL_acts_244 (by decide) ?_
            exact bret_Yz hx hb hr hP hS hlocks dL_acts_245 (Or.inl rfl) (by rw [← hF, FL_acts, if_neg c_1, if_neg c_8, if_pos c_20, if_pos c_21, if_pos c_22, if_neg c_23, if_neg c_24])
        · refine lv_iconst (v := 1) hx hb dL_acts_198 (by decide) ?_
          refine lv_goto (tgt := 203) hx hb dL_acts_199 (by decide) ?_
          refine lv_iload hx hb dL_acts_203 (lv_at hl 1 rfl) ?_
          refine lv_iload hx hb dL_acts_205 (lv_at hl 3 rfl) ?_
          refine lv_icmp_lt (tgt := 214) hx hb dL_acts_207 (by decide) (fun c_28 => ?_) (fun c_28 => ?_)
          · refine lv_iconst (v := 0) hx hb dL_acts_214 (by decide) ?_
            refine lv_icmp_ne (tgt := 244) hx hb dL_acts_215 (by decide) (fun _ => ?_) (fun h9 => absurd h9 (by decide))
            refine lv_iconst (v := 0) hx hb dL_acts_244 (by decide) ?_
            exact bret_Yz hx hb hr hP hS hlocks dL_acts_245 (Or.inl rfl) (by rw [← hF, FL_acts, if_neg c_1, if_neg c_8, if_pos c_20, if_pos c_21, if_pos c_22, if_pos c_23, if_pos c_28])
          · refine lv_iconst (v := 1) hx hb dL_acts_210 (by decide) ?_
            refine lv_goto (tgt := 215) hx hb dL_acts_211 (by decide) ?_
            refine lv_icmp_ne (tgt := 244) hx hb dL_acts_215 (by decide) (fun h9 => absurd (by decide) h9) (fun _ => ?_)
            refine lv_iload hx hb dL_acts_218 (lv_at hl 2 rfl) ?_
            refine lv_if_gt (tgt := 240) hx hb dL_acts_220 (by decide) (fun c_29 => ?_) (fun c_29 => ?_)
            · refine lv_iconst (v := 1) hx hb dL_acts_240 (by decide) ?_
              refine lv_goto (tgt := 245) hx hb dL_acts_241 (by decide) ?_
              exact bret_Yz hx hb hr hP hS hlocks dL_acts_245 (Or.inr rfl) (by rw [← hF, FL_acts, if_neg c_1, if_neg c_8, if_pos c_20, if_pos c_21, if_pos c_22, if_pos c_23, if_neg c_28, if_pos c_29])
            · refine lv_aload_n hx hb dL_acts_223 rfl (lv_at hl 8 rfl) ?_
              refine lv_iload_n hx hb dL_acts_224 rfl (lv_at hl 6 rfl) ?_
              refine lv_iload hx hb dL_acts_225 (lv_at hl 5 rfl) ?_
              refine lv_iload hx hb dL_acts_227 (lv_at hl 3 rfl) ?_
              have c_30 : (F5_deliver u bb ss xc).1 = 0 := Decidable.byContradiction (fun h9 => absurd ((congrArg Prod.fst (show ((F5_deliver u bb ss xc).1, (0 : Int32), u) = tgt from by rw [← hF, FL_acts, if_neg c_1, if_neg c_8, if_pos c_20, if_pos c_21, if_pos c_22, if_pos c_23, if_neg c_28, if_neg c_29, if_neg h9])).trans h0) h9)
              refine bcall_Wi (va_runV (As := [.int bb, .int ss, .int xc]) (rest := []) ⟨hx, hb, hml, hown, hts⟩ (C5_deliver l D cI cO q _ _ hq hP bb ss xc hlat c_30) (cwV 3 hts gL_acts_X5_deliver rfl rfl rfl ⟨rfl, bd_X5deliver⟩ ⟨Nat.le_of_ble_eq_true rfl, Nat.le_of_ble_eq_true rfl⟩) (bPV hk (va_recv hk.1 hP (ci := 5) (q0 := 0) rfl (wC_0 _ _ _ _))) rfl rfl hl.1 rfl (lv_room (Nat.le_of_ble_eq_true rfl)) dL_acts_229 ⟨Nat.zero_le _, Nat.zero_le _⟩) hS (fun H locs hP _ hS => ?_)
              refine lv_iload hx hb dL_acts_232 (lv_at hl 3 rfl) ?_
              refine lv_iload hx hb dL_acts_234 (lv_at hl 0 rfl) ?_
              refine lv_imul hx hb dL_acts_236 ?_
              refine lv_icmp_ne (tgt := 244) hx hb dL_acts_237 (by decide) (fun c_31 => ?_) (fun c_31 => ?_)
              · refine lv_iconst (v := 0) hx hb dL_acts_244 (by decide) ?_
                exact bret_Yz hx hb hr hP hS hlocks dL_acts_245 (Or.inl rfl) (by rw [← hF, FL_acts, if_neg c_1, if_neg c_8, if_pos c_20, if_pos c_21, if_pos c_22, if_pos c_23, if_neg c_28, if_neg c_29, if_pos c_30, if_neg c_31])
              · refine lv_iconst (v := 1) hx hb dL_acts_240 (by decide) ?_
                refine lv_goto (tgt := 245) hx hb dL_acts_241 (by decide) ?_
                exact bret_Yz hx hb hr hP hS hlocks dL_acts_245 (Or.inr rfl) (by rw [← hF, FL_acts, if_neg c_1, if_neg c_8, if_pos c_20, if_pos c_21, if_pos c_22, if_pos c_23, if_neg c_28, if_neg c_29, if_pos c_30, if_pos c_31])
      · by_cases c_32 : (a2 &&& 7) = 3
        · refine lv_tableIn (off := 208) (tgt := 246) hx hb dL_acts_38 (by rw [c_32]; decide) (by rw [c_32]; decide) (by rw [c_32]; rfl) (by decide) ?_
          refine lv_aload_n hx hb dL_acts_246 rfl (lv_at hl 4 rfl) ?_
          refine lv_iload hx hb dL_acts_247 (lv_at hl 1 rfl) ?_
          refine lv_iconst (v := 0) hx hb dL_acts_249 (by decide) ?_
          refine bcall_Ri (va_runV (As := [.int ss, .int 0]) (rest := []) ⟨hx, hb, hml, hown, hts⟩ (C5_shop l D cI cO q _ _ hP ss 0 hs9 (by decide)) (cwV 2 hts gL_acts_X5_shop rfl rfl rfl ⟨rfl, bd_X5shop⟩ ⟨Nat.le_of_ble_eq_true rfl, Nat.le_of_ble_eq_true rfl⟩) (bPV hk (va_recv hk.1 hP (ci := 5) (q0 := 0) rfl (wC_0 _ _ _ _))) rfl rfl hl.1 rfl (lv_room (Nat.le_of_ble_eq_true rfl)) dL_acts_250 ⟨Nat.zero_le _, Nat.zero_le _⟩) hS (fun locs hS => ?_)
          refine lv_istore (lv' := [(12, .int (F5_shop u ss 0)), (5, .int nn), (4, .int ss), (3, .int bb), (2, .int zz), (0, .ref (q 0)), (1, .int a2)]) hx hb dL_acts_253 hl (by decide) rfl (fun ls hl => ?_)
          refine lv_aload_n hx hb dL_acts_255 rfl (lv_at hl 5 rfl) ?_
          refine lv_iload hx hb dL_acts_256 (lv_at hl 2 rfl) ?_
          refine lv_bipush (v := 10) hx hb dL_acts_258 (by decide) ?_
          refine lv_iload_n hx hb dL_acts_260 rfl (lv_at hl 3 rfl) ?_
          refine lv_iadd hx hb dL_acts_261 ?_
          have c_33 : (F5_needArgument (F5_isShopNumber (10 + bb))) = 0 := Decidable.byContradiction (fun h9 => absurd ((congrArg Prod.fst (show ((F5_needArgument (F5_isShopNumber (10 + bb))), (0 : Int32), u) = tgt from by rw [← hF, FL_acts, if_neg c_1, if_neg c_8, if_neg c_20, if_pos c_32, if_neg h9])).trans h0) h9)
          refine bcall_Ri (va_runV (As := [.int ss, .int (10 + bb)]) (rest := []) ⟨hx, hb, hml, hown, hts⟩ (C5_shop l D cI cO q _ _ hP ss (10 + bb) hs9 c_33) (cwV 2 hts gL_acts_X5_shop rfl rfl rfl ⟨rfl, bd_X5shop⟩ ⟨Nat.le_of_ble_eq_true rfl, Nat.le_of_ble_eq_true rfl⟩) (bPV hk (va_recv hk.1 hP (ci := 5) (q0 := 0) rfl (wC_0 _ _ _ _))) rfl rfl hl.1 rfl (lv_room (Nat.le_of_ble_eq_true rfl)) dL_acts_262 ⟨Nat.zero_le _, Nat.zero_le _⟩) hS (fun locs hS => ?_)
          refine lv_iload hx hb dL_acts_265 (lv_at hl 1 rfl) ?_
          refine lv_icmp_lt (tgt := 298) hx hb dL_acts_267 (by decide) (fun c_34 => ?_) (fun c_34 => ?_)
          · refine lv_iconst (v := 1) hx hb dL_acts_298 (by decide) ?_
            refine lv_goto (tgt := 303) hx hb dL_acts_299 (by decide) ?_
            exact bret_Yz hx hb hr hP hS hlocks dL_acts_303 (Or.inr rfl) (by rw [← hF, FL_acts, if_neg c_1, if_neg c_8, if_neg c_20, if_pos c_32, if_pos c_33, if_pos c_34])
          · refine lv_aload_n hx hb dL_acts_270 rfl (lv_at hl 5 rfl) ?_
            refine lv_iload hx hb dL_acts_271 (lv_at hl 2 rfl) ?_
            refine lv_iload_n hx hb dL_acts_273 rfl (lv_at hl 3 rfl) ?_
            refine lv_iload hx hb dL_acts_274 (lv_at hl 1 rfl) ?_
            have c_35 : (F5_sell u ss bb nn).1 = 0 := Decidable.byContradiction (fun h9 => absurd ((congrArg Prod.fst (show ((F5_sell u ss bb nn).1, (0 : Int32), u) = tgt from by rw [← hF, FL_acts, if_neg c_1, if_neg c_8, if_neg c_20, if_pos c_32, if_pos c_33, if_neg c_34, if_neg h9])).trans h0) h9)
            refine bcall_Wi (va_runV (As := [.int ss, .int bb, .int nn]) (rest := []) ⟨hx, hb, hml, hown, hts⟩ (C5_sell l D cI cO q _ _ hq hP ss bb nn hlat c_35) (cwV 3 hts gL_acts_X5_sell rfl rfl rfl ⟨rfl, bd_X5sell⟩ ⟨Nat.le_of_ble_eq_true rfl, Nat.le_of_ble_eq_true rfl⟩) (bPV hk (va_recv hk.1 hP (ci := 5) (q0 := 0) rfl (wC_0 _ _ _ _))) rfl rfl hl.1 rfl (lv_room (Nat.le_of_ble_eq_true rfl)) dL_acts_276 ⟨Nat.zero_le _, Nat.zero_le _⟩) hS (fun H locs hP _ hS => ?_)
            refine lv_iload hx hb dL_acts_279 (lv_at hl 0 rfl) ?_
            refine lv_iload hx hb dL_acts_281 (lv_at hl 1 rfl) ?_
            refine lv_aload_n hx hb dL_acts_283 rfl (lv_at hl 5 rfl) ?_
            refine lv_aload_n hx hb dL_acts_284 rfl (lv_at hl 5 rfl) ?_
            refine lv_iload_n hx hb dL_acts_285 rfl (lv_at hl 3 rfl) ?_
            refine lv_iconst (v := 0) hx hb dL_acts_286 (by decide) ?_
            have c_36 : (F5_needBrand (F5_sell u ss bb nn).2.2 bb) = 0 := Decidable.byContradiction (fun h9 => absurd ((congrArg Prod.fst (show ((F5_needBrand (F5_sell u ss bb nn).2.2 bb), (0 : Int32), (F5_sell u ss bb nn).2.2) = tgt from by rw [← hF, FL_acts, if_neg c_1, if_neg c_8, if_neg c_20, if_pos c_32, if_pos c_33, if_neg c_34, if_pos c_35, if_neg h9])).trans h0) h9)
            refine bcall_Ri (va_runV (As := [.int bb, .int 0]) (rest := [.ref (q 0), .int nn, .int (F5_shop u ss 0), .int (F5_sell u ss bb nn).2.1]) ⟨hx, hb, hml, hown, hts⟩ (C5_brand l D cI cO q _ _ hP bb 0 c_36 (by decide)) (cwV 2 hts gL_acts_X5_brand rfl rfl rfl ⟨rfl, bd_X5brand⟩ ⟨Nat.le_of_ble_eq_true rfl, Nat.le_of_ble_eq_true rfl⟩) (bPV hk (va_recv hk.1 hP (ci := 5) (q0 := 0) rfl (wC_0 _ _ _ _))) rfl rfl hl.1 rfl (lv_room (Nat.le_of_ble_eq_true rfl)) dL_acts_287 ⟨Nat.zero_le _, Nat.zero_le _⟩) hS (fun locs hS => ?_)
            have c_37 : (F5_needSetting (F5_brand (F5_sell u ss bb nn).2.2 bb 0)) = 0 := Decidable.byContradiction (fun h9 => absurd ((congrArg Prod.fst (show ((F5_needSetting (F5_brand (F5_sell u ss bb nn).2.2 bb 0)), (0 : Int32), (F5_sell u ss bb nn).2.2) = tgt from by rw [← hF, FL_acts, if_neg c_1, if_neg c_8, if_neg c_20, if_pos c_32, if_pos c_33, if_neg c_34, if_pos c_35, if_pos c_36, if_neg h9])).trans h0) h9)
            refine bcall_Ri (va_runV (As := [.int (F5_brand (F5_sell u ss bb nn).2.2 bb 0)]) (rest := [.int nn, .int (F5_shop u ss 0), .int (F5_sell u ss bb nn).2.1]) ⟨hx, hb, hml, hown, hts⟩ (C5_setting l D cI cO q _ _ hP (F5_brand (F5_sell u ss bb nn).2.2 bb 0) c_37) (cwV 1 hts gL_acts_X5_setting rfl rfl rfl ⟨rfl, bd_X5setting⟩ ⟨Nat.le_of_ble_eq_true rfl, Nat.le_of_ble_eq_true rfl⟩) (bPV hk (va_recv hk.1 hP (ci := 5) (q0 := 0) rfl (wC_0 _ _ _ _))) rfl rfl hl.1 rfl (lv_room (Nat.le_of_ble_eq_true rfl)) dL_acts_290 ⟨Nat.zero_le _, Nat.zero_le _⟩) hS (fun locs hS => ?_)
            refine lv_imul hx hb dL_acts_293 ?_
            refine lv_iadd hx hb dL_acts_294 ?_
            refine lv_icmp_ne (tgt := 302) hx hb dL_acts_295 (by decide) (fun c_38 => ?_) (fun c_38 => ?_)
            · refine lv_iconst (v := 0) hx hb dL_acts_302 (by decide) ?_
              exact bret_Yz hx hb hr hP hS hlocks dL_acts_303 (Or.inl rfl) (by rw [← hF, FL_acts, if_neg c_1, if_neg c_8, if_neg c_20, if_pos c_32, if_pos c_33, if_neg c_34, if_pos c_35, if_pos c_36, if_pos c_37, if_neg c_38])
            · refine lv_iconst (v := 1) hx hb dL_acts_298 (by decide) ?_
              refine lv_goto (tgt := 303) hx hb dL_acts_299 (by decide) ?_
              exact bret_Yz hx hb hr hP hS hlocks dL_acts_303 (Or.inr rfl) (by rw [← hF, FL_acts, if_neg c_1, if_neg c_8, if_neg c_20, if_pos c_32, if_pos c_33, if_neg c_34, if_pos c_35, if_pos c_36, if_pos c_37, if_pos c_38])
        · by_cases c_39 : (a2 &&& 7) = 4
          · refine lv_tableIn (off := 266) (tgt := 304) hx hb dL_acts_38 (by rw [c_39]; decide) (by rw [c_39]; decide) (by rw [c_39]; rfl) (by decide) ?_
            refine lv_aload_n hx hb dL_acts_304 rfl (lv_at hl 4 rfl) ?_
            refine lv_iload hx hb dL_acts_305 (lv_at hl 1 rfl) ?_
            refine lv_iconst (v := 0) hx hb dL_acts_307 (by decide) ?_
            refine bcall_Ri (va_runV (As := [.int ss, .int 0]) (rest := []) ⟨hx, hb, hml, hown, hts⟩ (C5_shop l D cI cO q _ _ hP ss 0 hs9 (by decide)) (cwV 2 hts gL_acts_X5_shop rfl rfl rfl ⟨rfl, bd_X5shop⟩ ⟨Nat.le_of_ble_eq_true rfl, Nat.le_of_ble_eq_true rfl⟩) (bPV hk (va_recv hk.1 hP (ci := 5) (q0 := 0) rfl (wC_0 _ _ _ _))) rfl rfl hl.1 rfl (lv_room (Nat.le_of_ble_eq_true rfl)) dL_acts_308 ⟨Nat.zero_le _, Nat.zero_le _⟩) hS (fun locs hS => ?_)
            refine lv_istore (lv' := [(13, .int (F5_shop u ss 0)), (5, .int nn), (4, .int ss), (3, .int bb), (2, .int zz), (0, .ref (q 0)), (1, .int a2)]) hx hb dL_acts_311 hl (by decide) rfl (fun ls hl => ?_)
            refine lv_iload hx hb dL_acts_313 (lv_at hl 1 rfl) ?_
            refine lv_aload_n hx hb dL_acts_315 rfl (lv_at hl 5 rfl) ?_
            refine lv_aload_n hx hb dL_acts_316 rfl (lv_at hl 5 rfl) ?_
            refine lv_iload_n hx hb dL_acts_317 rfl (lv_at hl 3 rfl) ?_
            refine lv_iconst (v := 0) hx hb dL_acts_318 (by decide) ?_
            refine bcall_Ri (va_runV (As := [.int bb, .int 0]) (rest := [.ref (q 0), .int nn]) ⟨hx, hb, hml, hown, hts⟩ (C5_brand l D cI cO q _ _ hP bb 0 hb9 (by decide)) (cwV 2 hts gL_acts_X5_brand rfl rfl rfl ⟨rfl, bd_X5brand⟩ ⟨Nat.le_of_ble_eq_true rfl, Nat.le_of_ble_eq_true rfl⟩) (bPV hk (va_recv hk.1 hP (ci := 5) (q0 := 0) rfl (wC_0 _ _ _ _))) rfl rfl hl.1 rfl (lv_room (Nat.le_of_ble_eq_true rfl)) dL_acts_319 ⟨Nat.zero_le _, Nat.zero_le _⟩) hS (fun locs hS => ?_)
            have c_40 : (F5_needSetting (F5_brand u bb 0)) = 0 := Decidable.byContradiction (fun h9 => absurd ((congrArg Prod.fst (show ((F5_needSetting (F5_brand u bb 0)), (0 : Int32), u) = tgt from by rw [← hF, FL_acts, if_neg c_1, if_neg c_8, if_neg c_20, if_neg c_32, if_pos c_39, if_neg h9])).trans h0) h9)
            refine bcall_Ri (va_runV (As := [.int (F5_brand u bb 0)]) (rest := [.int nn]) ⟨hx, hb, hml, hown, hts⟩ (C5_setting l D cI cO q _ _ hP (F5_brand u bb 0) c_40) (cwV 1 hts gL_acts_X5_setting rfl rfl rfl ⟨rfl, bd_X5setting⟩ ⟨Nat.le_of_ble_eq_true rfl, Nat.le_of_ble_eq_true rfl⟩) (bPV hk (va_recv hk.1 hP (ci := 5) (q0 := 0) rfl (wC_0 _ _ _ _))) rfl rfl hl.1 rfl (lv_room (Nat.le_of_ble_eq_true rfl)) dL_acts_322 ⟨Nat.zero_le _, Nat.zero_le _⟩) hS (fun locs hS => ?_)
            refine lv_imul hx hb dL_acts_325 ?_
            refine lv_istore (lv' := [(14, .int (nn * (F5_setting u (F5_brand u bb 0)))), (13, .int (F5_shop u ss 0)), (5, .int nn), (4, .int ss), (3, .int bb), (2, .int zz), (0, .ref (q 0)), (1, .int a2)]) hx hb dL_acts_326 hl (by decide) rfl (fun ls hl => ?_)
            refine lv_aload_n hx hb dL_acts_328 rfl (lv_at hl 6 rfl) ?_
            refine lv_iload_n hx hb dL_acts_329 rfl (lv_at hl 4 rfl) ?_
            refine lv_iconst (v := 5) hx hb dL_acts_330 (by decide) ?_
            refine bcall_Ri (va_runV (As := [.int bb, .int 5]) (rest := []) ⟨hx, hb, hml, hown, hts⟩ (C5_brand l D cI cO q _ _ hP bb 5 hb9 (by decide)) (cwV 2 hts gL_acts_X5_brand rfl rfl rfl ⟨rfl, bd_X5brand⟩ ⟨Nat.le_of_ble_eq_true rfl, Nat.le_of_ble_eq_true rfl⟩) (bPV hk (va_recv hk.1 hP (ci := 5) (q0 := 0) rfl (wC_0 _ _ _ _))) rfl rfl hl.1 rfl (lv_room (Nat.le_of_ble_eq_true rfl)) dL_acts_331 ⟨Nat.zero_le _, Nat.zero_le _⟩) hS (fun locs hS => ?_)
            refine lv_iload hx hb dL_acts_334 (lv_at hl 2 rfl) ?_
            refine lv_icmp_lt (tgt := 363) hx hb dL_acts_336 (by decide) (fun c_41 => ?_) (fun c_41 => ?_)
            · refine lv_iconst (v := 1) hx hb dL_acts_363 (by decide) ?_
              refine lv_goto (tgt := 368) hx hb dL_acts_364 (by decide) ?_
              exact bret_Yz hx hb hr hP hS hlocks dL_acts_368 (Or.inr rfl) (by rw [← hF, FL_acts, if_neg c_1, if_neg c_8, if_neg c_20, if_neg c_32, if_pos c_39, if_pos c_40, if_pos c_41])
            · refine lv_iload hx hb dL_acts_339 (lv_at hl 1 rfl) ?_
              refine lv_iload hx hb dL_acts_341 (lv_at hl 0 rfl) ?_
              refine lv_icmp_lt (tgt := 363) hx hb dL_acts_343 (by decide) (fun c_42 => ?_) (fun c_42 => ?_)
              · refine lv_iconst (v := 1) hx hb dL_acts_363 (by decide) ?_
                refine lv_goto (tgt := 368) hx hb dL_acts_364 (by decide) ?_
                exact bret_Yz hx hb hr hP hS hlocks dL_acts_368 (Or.inr rfl) (by rw [← hF, FL_acts, if_neg c_1, if_neg c_8, if_neg c_20, if_neg c_32, if_pos c_39, if_pos c_40, if_neg c_41, if_pos c_42])
              · refine lv_aload_n hx hb dL_acts_346 rfl (lv_at hl 6 rfl) ?_
                refine lv_iload hx hb dL_acts_347 (lv_at hl 3 rfl) ?_
                refine lv_iload_n hx hb dL_acts_349 rfl (lv_at hl 4 rfl) ?_
                refine lv_iload hx hb dL_acts_350 (lv_at hl 2 rfl) ?_
                have c_43 : (F5_takeBack u ss bb nn).1 = 0 := Decidable.byContradiction (fun h9 => absurd ((congrArg Prod.fst (show ((F5_takeBack u ss bb nn).1, (0 : Int32), u) = tgt from by rw [← hF, FL_acts, if_neg c_1, if_neg c_8, if_neg c_20, if_neg c_32, if_pos c_39, if_pos c_40, if_neg c_41, if_neg c_42, if_neg h9])).trans h0) h9)
                refine bcall_Wi (va_runV (As := [.int ss, .int bb, .int nn]) (rest := []) ⟨hx, hb, hml, hown, hts⟩ (C5_takeBack l D cI cO q _ _ hq hP ss bb nn hlat c_43) (cwV 3 hts gL_acts_X5_takeBack rfl rfl rfl ⟨rfl, bd_X5takeBack⟩ ⟨Nat.le_of_ble_eq_true rfl, Nat.le_of_ble_eq_true rfl⟩) (bPV hk (va_recv hk.1 hP (ci := 5) (q0 := 0) rfl (wC_0 _ _ _ _))) rfl rfl hl.1 rfl (lv_room (Nat.le_of_ble_eq_true rfl)) dL_acts_352 ⟨Nat.zero_le _, Nat.zero_le _⟩) hS (fun H locs hP _ hS => ?_)
                refine lv_iload hx hb dL_acts_355 (lv_at hl 1 rfl) ?_
                refine lv_iload hx hb dL_acts_357 (lv_at hl 0 rfl) ?_
                refine lv_isub hx hb dL_acts_359 ?_
                refine lv_icmp_ne (tgt := 367) hx hb dL_acts_360 (by decide) (fun c_44 => ?_) (fun c_44 => ?_)
                · refine lv_iconst (v := 0) hx hb dL_acts_367 (by decide) ?_
                  exact bret_Yz hx hb hr hP hS hlocks dL_acts_368 (Or.inl rfl) (by rw [← hF, FL_acts, if_neg c_1, if_neg c_8, if_neg c_20, if_neg c_32, if_pos c_39, if_pos c_40, if_neg c_41, if_neg c_42, if_pos c_43, if_neg c_44])
                · refine lv_iconst (v := 1) hx hb dL_acts_363 (by decide) ?_
                  refine lv_goto (tgt := 368) hx hb dL_acts_364 (by decide) ?_
                  exact bret_Yz hx hb hr hP hS hlocks dL_acts_368 (Or.inr rfl) (by rw [← hF, FL_acts, if_neg c_1, if_neg c_8, if_neg c_20, if_neg c_32, if_pos c_39, if_pos c_40, if_neg c_41, if_neg c_42, if_pos c_43, if_pos c_44])
          · by_cases c_45 : (a2 &&& 7) = 5
            · refine lv_tableIn (off := 331) (tgt := 369) hx hb dL_acts_38 (by rw [c_45]; decide) (by rw [c_45]; decide) (by rw [c_45]; rfl) (by decide) ?_
              refine lv_aload_n hx hb dL_acts_369 rfl (lv_at hl 4 rfl) ?_
              refine lv_iload_n hx hb dL_acts_370 rfl (lv_at hl 2 rfl) ?_
              refine lv_iconst (v := 0) hx hb dL_acts_371 (by decide) ?_
              refine bcall_Ri (va_runV (As := [.int bb, .int 0]) (rest := []) ⟨hx, hb, hml, hown, hts⟩ (C5_brand l D cI cO q _ _ hP bb 0 hb9 (by decide)) (cwV 2 hts gL_acts_X5_brand rfl rfl rfl ⟨rfl, bd_X5brand⟩ ⟨Nat.le_of_ble_eq_true rfl, Nat.le_of_ble_eq_true rfl⟩) (bPV hk (va_recv hk.1 hP (ci := 5) (q0 := 0) rfl (wC_0 _ _ _ _))) rfl rfl hl.1 rfl (lv_room (Nat.le_of_ble_eq_true rfl)) dL_acts_372 ⟨Nat.zero_le _, Nat.zero_le _⟩) hS (fun locs hS => ?_)
              refine lv_istore (lv' := [(15, .int (F5_brand u bb 0)), (5, .int nn), (4, .int ss), (3, .int bb), (2, .int zz), (0, .ref (q 0)), (1, .int a2)]) hx hb dL_acts_375 hl (by decide) rfl (fun ls hl => ?_)
              refine lv_aload_n hx hb dL_acts_377 rfl (lv_at hl 5 rfl) ?_
              refine lv_bipush (v := 8) hx hb dL_acts_378 (by decide) ?_
              refine bcall_Ri (va_runV (As := [.int 8]) (rest := []) ⟨hx, hb, hml, hown, hts⟩ (C5_count l D cI cO q _ _ hP 8 (by decide)) (cwV 1 hts gL_acts_X5_count rfl rfl rfl ⟨rfl, bd_X5count⟩ ⟨Nat.le_of_ble_eq_true rfl, Nat.le_of_ble_eq_true rfl⟩) (bPV hk (va_recv hk.1 hP (ci := 5) (q0 := 0) rfl (wC_0 _ _ _ _))) rfl rfl hl.1 rfl (lv_room (Nat.le_of_ble_eq_true rfl)) dL_acts_380 ⟨Nat.zero_le _, Nat.zero_le _⟩) hS (fun locs hS => ?_)
              refine lv_istore (lv' := [(16, .int (F5_count u 8)), (15, .int (F5_brand u bb 0)), (5, .int nn), (4, .int ss), (3, .int bb), (2, .int zz), (0, .ref (q 0)), (1, .int a2)]) hx hb dL_acts_383 hl (by decide) rfl (fun ls hl => ?_)
              refine lv_aload_n hx hb dL_acts_385 rfl (lv_at hl 6 rfl) ?_
              refine lv_iload hx hb dL_acts_386 (lv_at hl 3 rfl) ?_
              refine lv_iload_n hx hb dL_acts_388 rfl (lv_at hl 4 rfl) ?_
              refine lv_iconst (v := 1) hx hb dL_acts_389 (by decide) ?_
              refine bcall_Wi (va_runV (As := [.int ss, .int bb, .int 1]) (rest := []) ⟨hx, hb, hml, hown, hts⟩ (C5_collected l D cI cO q _ _ hq hP ss bb 1 hs9 hb9 (by decide)) (cwV 3 hts gL_acts_X5_collected rfl rfl rfl ⟨rfl, bd_X5collected⟩ ⟨Nat.le_of_ble_eq_true rfl, Nat.le_of_ble_eq_true rfl⟩) (bPV hk (va_recv hk.1 hP (ci := 5) (q0 := 0) rfl (wC_0 _ _ _ _))) rfl rfl hl.1 rfl (lv_room (Nat.le_of_ble_eq_true rfl)) dL_acts_390 ⟨Nat.zero_le _, Nat.zero_le _⟩) hS (fun H locs hP _ hS => ?_)
              refine lv_istore (lv' := [(17, .int (F5_collected u ss bb 1).1), (16, .int (F5_count u 8)), (15, .int (F5_brand u bb 0)), (5, .int nn), (4, .int ss), (3, .int bb), (2, .int zz), (0, .ref (q 0)), (1, .int a2)]) hx hb dL_acts_393 hl (by decide) rfl (fun ls hl => ?_)
              refine lv_aload_n hx hb dL_acts_395 rfl (lv_at hl 7 rfl) ?_
              refine lv_iload_n hx hb dL_acts_396 rfl (lv_at hl 5 rfl) ?_
              refine lv_bipush (v := 6) hx hb dL_acts_397 (by decide) ?_
              have c_46 : (F5_needBrand (F5_collected u ss bb 1).2 bb) = 0 := Decidable.byContradiction (fun h9 => absurd ((congrArg Prod.fst (show ((F5_needBrand (F5_collected u ss bb 1).2 bb), (0 : Int32), (F5_collected u ss bb 1).2) = tgt from by rw [← hF, FL_acts, if_neg c_1, if_neg c_8, if_neg c_20, if_neg c_32, if_neg c_39, if_pos c_45, if_neg h9])).trans h0) h9)
              refine bcall_Ri (va_runV (As := [.int bb, .int 6]) (rest := []) ⟨hx, hb, hml, hown, hts⟩ (C5_brand l D cI cO q _ _ hP bb 6 c_46 (by decide)) (cwV 2 hts gL_acts_X5_brand rfl rfl rfl ⟨rfl, bd_X5brand⟩ ⟨Nat.le_of_ble_eq_true rfl, Nat.le_of_ble_eq_true rfl⟩) (bPV hk (va_recv hk.1 hP (ci := 5) (q0 := 0) rfl (wC_0 _ _ _ _))) rfl rfl hl.1 rfl (lv_room (Nat.le_of_ble_eq_true rfl)) dL_acts_399 ⟨Nat.zero_le _, Nat.zero_le _⟩) hS (fun locs hS => ?_)
              refine lv_istore (lv' := [(18, .int (F5_brand (F5_collected u ss bb 1).2 bb 6)), (17, .int (F5_collected u ss bb 1).1), (16, .int (F5_count u 8)), (15, .int (F5_brand u bb 0)), (5, .int nn), (4, .int ss), (3, .int bb), (2, .int zz), (0, .ref (q 0)), (1, .int a2)]) hx hb dL_acts_402 hl (by decide) rfl (fun ls hl => ?_)
              refine lv_aload_n hx hb dL_acts_404 rfl (lv_at hl 8 rfl) ?_
              refine lv_iload hx hb dL_acts_405 (lv_at hl 5 rfl) ?_
              refine lv_iload hx hb dL_acts_407 (lv_at hl 3 rfl) ?_
              refine lv_iconst (v := 1) hx hb dL_acts_409 (by decide) ?_
              have c_47 : (F5_needShop (F5_collected u ss bb 1).2 ss) = 0 := Decidable.byContradiction (fun h9 => absurd ((congrArg Prod.fst (show ((F5_needShop (F5_collected u ss bb 1).2 ss), (0 : Int32), (F5_collected u ss bb 1).2) = tgt from by rw [← hF, FL_acts, if_neg c_1, if_neg c_8, if_neg c_20, if_neg c_32, if_neg c_39, if_pos c_45, if_pos c_46, if_neg h9])).trans h0) h9)
              have c_48 : (F5_needKind (F5_brand u bb 0)) = 0 := Decidable.byContradiction (fun h9 => absurd ((congrArg Prod.fst (show ((F5_needKind (F5_brand u bb 0)), (0 : Int32), (F5_collected u ss bb 1).2) = tgt from by rw [← hF, FL_acts, if_neg c_1, if_neg c_8, if_neg c_20, if_neg c_32, if_neg c_39, if_pos c_45, if_pos c_46, if_pos c_47, if_neg h9])).trans h0) h9)
              refine bcall_Ri (va_runV (As := [.int ss, .int (F5_brand u bb 0), .int 1]) (rest := []) ⟨hx, hb, hml, hown, hts⟩ (C5_whyNotCollect l D cI cO q _ _ hP ss (F5_brand u bb 0) 1 c_47 c_48 (by decide)) (cwV 3 hts gL_acts_X5_whyNotCollect rfl rfl rfl ⟨rfl, bd_X5whyNotCollect⟩ ⟨Nat.le_of_ble_eq_true rfl, Nat.le_of_ble_eq_true rfl⟩) (bPV hk (va_recv hk.1 hP (ci := 5) (q0 := 0) rfl (wC_0 _ _ _ _))) rfl rfl hl.1 rfl (lv_room (Nat.le_of_ble_eq_true rfl)) dL_acts_410 ⟨Nat.zero_le _, Nat.zero_le _⟩) hS (fun locs hS => ?_)
              refine lv_if_le (tgt := 430) hx hb dL_acts_413 (by decide) (fun c_49 => ?_) (fun c_49 => ?_)
              · refine lv_aload_n hx hb dL_acts_430 rfl (lv_at hl 8 rfl) ?_
                refine lv_iload hx hb dL_acts_431 (lv_at hl 3 rfl) ?_
                refine bcall_Ri (va_runV (As := [.int (F5_brand u bb 0)]) (rest := []) ⟨hx, hb, hml, hown, hts⟩ (C5_bestShop l D cI cO q _ _ hP (F5_brand u bb 0) c_48) (cwV 1 hts gL_acts_X5_bestShop rfl rfl rfl ⟨rfl, bd_X5bestShop⟩ ⟨Nat.le_of_ble_eq_true rfl, Nat.le_of_ble_eq_true rfl⟩) (bPV hk (va_recv hk.1 hP (ci := 5) (q0 := 0) rfl (wC_0 _ _ _ _))) rfl rfl hl.1 rfl (lv_room (Nat.le_of_ble_eq_true rfl)) dL_acts_433 ⟨Nat.zero_le _, Nat.zero_le _⟩) hS (fun locs hS => ?_)
                refine lv_if_lt (tgt := 499) hx hb dL_acts_436 (by decide) (fun c_50 => ?_) (fun c_50 => ?_)
                · refine lv_iconst (v := 0) hx hb dL_acts_499 (by decide) ?_
                  exact bret_Yz hx hb hr hP hS hlocks dL_acts_500 (Or.inl rfl) (by rw [← hF, FL_acts, if_neg c_1, if_neg c_8, if_neg c_20, if_neg c_32, if_neg c_39, if_pos c_45, if_pos c_46, if_pos c_47, if_pos c_48, if_pos c_49, if_pos c_50])
                · refine lv_aload_n hx hb dL_acts_439 rfl (lv_at hl 8 rfl) ?_
                  refine lv_iload hx hb dL_acts_440 (lv_at hl 5 rfl) ?_
                  refine lv_iload hx hb dL_acts_442 (lv_at hl 3 rfl) ?_
                  refine lv_iconst (v := 1) hx hb dL_acts_444 (by decide) ?_
                  have c_51 : (F5_collect (F5_collected u ss bb 1).2 ss (F5_brand u bb 0) 1).1 = 0 := Decidable.byContradiction (fun h9 => absurd ((congrArg Prod.fst (show ((F5_collect (F5_collected u ss bb 1).2 ss (F5_brand u bb 0) 1).1, (0 : Int32), (F5_collected u ss bb 1).2) = tgt from by rw [← hF, FL_acts, if_neg c_1, if_neg c_8, if_neg c_20, if_neg c_32, if_neg c_39, if_pos c_45, if_pos c_46, if_pos c_47, if_pos c_48, if_pos c_49, if_neg c_50, if_neg h9])).trans h0) h9)
                  refine bcall_Wi (va_runV (As := [.int ss, .int (F5_brand u bb 0), .int 1]) (rest := []) ⟨hx, hb, hml, hown, hts⟩ (C5_collect l D cI cO q _ _ hq hP ss (F5_brand u bb 0) 1 (lat_collected _ _ _ _ hlat) c_51) (cwV 3 hts gL_acts_X5_collect rfl rfl rfl ⟨rfl, bd_X5collect⟩ ⟨Nat.le_of_ble_eq_true rfl, Nat.le_of_ble_eq_true rfl⟩) (bPV hk (va_recv hk.1 hP (ci := 5) (q0 := 0) rfl (wC_0 _ _ _ _))) rfl rfl hl.1 rfl (lv_room (Nat.le_of_ble_eq_true rfl)) dL_acts_445 ⟨Nat.zero_le _, Nat.zero_le _⟩) hS (fun H locs hP _ hS => ?_)
                  refine lv_bipush (v := 12) hx hb dL_acts_448 (by decide) ?_
                  refine lv_aload_n hx hb dL_acts_450 rfl (lv_at hl 8 rfl) ?_
                  refine lv_iload hx hb dL_acts_451 (lv_at hl 3 rfl) ?_
                  have c_52 : (F5_needSetting (F5_brand u bb 0)) = 0 := Decidable.byContradiction (fun h9 => absurd ((congrArg Prod.fst (show ((F5_needSetting (F5_brand u bb 0)), (0 : Int32), (F5_collect (F5_collected u ss bb 1).2 ss (F5_brand u bb 0) 1).2.2) = tgt from by rw [← hF, FL_acts, if_neg c_1, if_neg c_8, if_neg c_20, if_neg c_32, if_neg c_39, if_pos c_45, if_pos c_46, if_pos c_47, if_pos c_48, if_pos c_49, if_neg c_50, if_pos c_51, if_neg h9])).trans h0) h9)
                  refine bcall_Ri (va_runV (As := [.int (F5_brand u bb 0)]) (rest := [.int 12, .int (F5_collect (F5_collected u ss bb 1).2 ss (F5_brand u bb 0) 1).2.1]) ⟨hx, hb, hml, hown, hts⟩ (C5_setting l D cI cO q _ _ hP (F5_brand u bb 0) c_52) (cwV 1 hts gL_acts_X5_setting rfl rfl rfl ⟨rfl, bd_X5setting⟩ ⟨Nat.le_of_ble_eq_true rfl, Nat.le_of_ble_eq_true rfl⟩) (bPV hk (va_recv hk.1 hP (ci := 5) (q0 := 0) rfl (wC_0 _ _ _ _))) rfl rfl hl.1 rfl (lv_room (Nat.le_of_ble_eq_true rfl)) dL_acts_453 ⟨Nat.zero_le _, Nat.zero_le _⟩) hS (fun locs hS => ?_)
                  refine lv_imul hx hb dL_acts_456 ?_
                  refine lv_aload_n hx hb dL_acts_457 rfl (lv_at hl 8 rfl) ?_
                  refine lv_iconst (v := 3) hx hb dL_acts_458 (by decide) ?_
                  refine bcall_Ri (va_runV (As := [.int 3]) (rest := [.int (12 * (F5_setting (F5_collect (F5_collected u ss bb 1).2 ss (F5_brand u bb 0) 1).2.2 (F5_brand u bb 0))), .int (F5_collect (F5_collected u ss bb 1).2 ss (F5_brand u bb 0) 1).2.1]) ⟨hx, hb, hml, hown, hts⟩ (C5_setting l D cI cO q _ _ hP 3 (by decide)) (cwV 1 hts gL_acts_X5_setting rfl rfl rfl ⟨rfl, bd_X5setting⟩ ⟨Nat.le_of_ble_eq_true rfl, Nat.le_of_ble_eq_true rfl⟩) (bPV hk (va_recv hk.1 hP (ci := 5) (q0 := 0) rfl (wC_0 _ _ _ _))) rfl rfl hl.1 rfl (lv_room (Nat.le_of_ble_eq_true rfl)) dL_acts_459 ⟨Nat.zero_le _, Nat.zero_le _⟩) hS (fun locs hS => ?_)
                  refine lv_iadd hx hb dL_acts_462 ?_
                  refine lv_icmp_ne (tgt := 499) hx hb dL_acts_463 (by decide) (fun c_53 => ?_) (fun c_53 => ?_)
                  · refine lv_iconst (v := 0) hx hb dL_acts_499 (by decide) ?_
                    exact bret_Yz hx hb hr hP hS hlocks dL_acts_500 (Or.inl rfl) (by rw [← hF, FL_acts, if_neg c_1, if_neg c_8, if_neg c_20, if_neg c_32, if_neg c_39, if_pos c_45, if_pos c_46, if_pos c_47, if_pos c_48, if_pos c_49, if_neg c_50, if_pos c_51, if_pos c_52, if_neg c_53])
                  · refine lv_aload_n hx hb dL_acts_466 rfl (lv_at hl 8 rfl) ?_
                    refine lv_bipush (v := 8) hx hb dL_acts_467 (by decide) ?_
                    refine bcall_Ri (va_runV (As := [.int 8]) (rest := []) ⟨hx, hb, hml, hown, hts⟩ (C5_count l D cI cO q _ _ hP 8 (by decide)) (cwV 1 hts gL_acts_X5_count rfl rfl rfl ⟨rfl, bd_X5count⟩ ⟨Nat.le_of_ble_eq_true rfl, Nat.le_of_ble_eq_true rfl⟩) (bPV hk (va_recv hk.1 hP (ci := 5) (q0 := 0) rfl (wC_0 _ _ _ _))) rfl rfl hl.1 rfl (lv_room (Nat.le_of_ble_eq_true rfl)) dL_acts_469 ⟨Nat.zero_le _, Nat.zero_le _⟩) hS (fun locs hS => ?_)
                    refine lv_iload hx hb dL_acts_472 (lv_at hl 2 rfl) ?_
                    refine lv_bipush (v := 12) hx hb dL_acts_474 (by decide) ?_
                    refine lv_iadd hx hb dL_acts_476 ?_
                    refine lv_icmp_ne (tgt := 499) hx hb dL_acts_477 (by decide) (fun c_54 => ?_) (fun c_54 => ?_)
                    · refine lv_iconst (v := 0) hx hb dL_acts_499 (by decide) ?_
                      exact bret_Yz hx hb hr hP hS hlocks dL_acts_500 (Or.inl rfl) (by rw [← hF, FL_acts, if_neg c_1, if_neg c_8, if_neg c_20, if_neg c_32, if_neg c_39, if_pos c_45, if_pos c_46, if_pos c_47, if_pos c_48, if_pos c_49, if_neg c_50, if_pos c_51, if_pos c_52, if_pos c_53, if_neg c_54])
                    · refine lv_aload_n hx hb dL_acts_480 rfl (lv_at hl 8 rfl) ?_
                      refine lv_iload_n hx hb dL_acts_481 rfl (lv_at hl 6 rfl) ?_
                      refine lv_bipush (v := 6) hx hb dL_acts_482 (by decide) ?_
                      have c_55 : (F5_needBrand (F5_collect (F5_collected u ss bb 1).2 ss (F5_brand u bb 0) 1).2.2 bb) = 0 := Decidable.byContradiction (fun h9 => absurd ((congrArg Prod.fst (show ((F5_needBrand (F5_collect (F5_collected u ss bb 1).2 ss (F5_brand u bb 0) 1).2.2 bb), (0 : Int32), (F5_collect (F5_collected u ss bb 1).2 ss (F5_brand u bb 0) 1).2.2) = tgt from by rw [← hF, FL_acts, if_neg c_1, if_neg c_8, if_neg c_20, if_neg c_32, if_neg c_39, if_pos c_45, if_pos c_46, if_pos c_47, if_pos c_48, if_pos c_49, if_neg c_50, if_pos c_51, if_pos c_52, if_pos c_53, if_pos c_54, if_neg h9])).trans h0) h9)
                      refine bcall_Ri (va_runV (As := [.int bb, .int 6]) (rest := []) ⟨hx, hb, hml, hown, hts⟩ (C5_brand l D cI cO q _ _ hP bb 6 c_55 (by decide)) (cwV 2 hts gL_acts_X5_brand rfl rfl rfl ⟨rfl, bd_X5brand⟩ ⟨Nat.le_of_ble_eq_true rfl, Nat.le_of_ble_eq_true rfl⟩) (bPV hk (va_recv hk.1 hP (ci := 5) (q0 := 0) rfl (wC_0 _ _ _ _))) rfl rfl hl.1 rfl (lv_room (Nat.le_of_ble_eq_true rfl)) dL_acts_484 ⟨Nat.zero_le _, Nat.zero_le _⟩) hS (fun locs hS => ?_)
                      refine lv_iload hx hb dL_acts_487 (lv_at hl 0 rfl) ?_
                      refine lv_iload hx hb dL_acts_489 (lv_at hl 1 rfl) ?_
                      refine lv_iadd hx hb dL_acts_491 ?_
                      refine lv_icmp_ne (tgt := 499) hx hb dL_acts_492 (by decide) (fun c_56 => ?_) (fun c_56 => ?_)
                      · refine lv_iconst (v := 0) hx hb dL_acts_499 (by decide) ?_
                        exact bret_Yz hx hb hr hP hS hlocks dL_acts_500 (Or.inl rfl) (by rw [← hF, FL_acts, if_neg c_1, if_neg c_8, if_neg c_20, if_neg c_32, if_neg c_39, if_pos c_45, if_pos c_46, if_pos c_47, if_pos c_48, if_pos c_49, if_neg c_50, if_pos c_51, if_pos c_52, if_pos c_53, if_pos c_54, if_pos c_55, if_neg c_56])
                      · refine lv_iconst (v := 1) hx hb dL_acts_495 (by decide) ?_
                        refine lv_goto (tgt := 500) hx hb dL_acts_496 (by decide) ?_
                        exact bret_Yz hx hb hr hP hS hlocks dL_acts_500 (Or.inr rfl) (by rw [← hF, FL_acts, if_neg c_1, if_neg c_8, if_neg c_20, if_neg c_32, if_neg c_39, if_pos c_45, if_pos c_46, if_pos c_47, if_pos c_48, if_pos c_49, if_neg c_50, if_pos c_51, if_pos c_52, if_pos c_53, if_pos c_54, if_pos c_55, if_pos c_56])
              · refine lv_iload hx hb dL_acts_416 (lv_at hl 1 rfl) ?_
                refine lv_iconst (v := (-1)) hx hb dL_acts_418 (by decide) ?_
                refine lv_icmp_ne (tgt := 426) hx hb dL_acts_419 (by decide) (fun c_57 => ?_) (fun c_57 => ?_)
                · refine lv_iconst (v := 0) hx hb dL_acts_426 (by decide) ?_
                  refine lv_goto (tgt := 500) hx hb dL_acts_427 (by decide) ?_
                  exact bret_Yz hx hb hr hP hS hlocks dL_acts_500 (Or.inl rfl) (by rw [← hF, FL_acts, if_neg c_1, if_neg c_8, if_neg c_20, if_neg c_32, if_neg c_39, if_pos c_45, if_pos c_46, if_pos c_47, if_pos c_48, if_neg c_49, if_neg c_57])
                · refine lv_iconst (v := 1) hx hb dL_acts_422 (by decide) ?_
                  refine lv_goto (tgt := 500) hx hb dL_acts_423 (by decide) ?_
                  exact bret_Yz hx hb hr hP hS hlocks dL_acts_500 (Or.inr rfl) (by rw [← hF, FL_acts, if_neg c_1, if_neg c_8, if_neg c_20, if_neg c_32, if_neg c_39, if_pos c_45, if_pos c_46, if_pos c_47, if_pos c_48, if_neg c_49, if_pos c_57])
            · by_cases c_58 : (a2 &&& 7) = 6
              · refine lv_tableIn (off := 463) (tgt := 501) hx hb dL_acts_38 (by rw [c_58]; decide) (by rw [c_58]; decide) (by rw [c_58]; rfl) (by decide) ?_
                refine lv_iconst (v := 1) hx hb dL_acts_501 (by decide) ?_
                refine lv_iload hx hb dL_acts_502 (lv_at hl 0 rfl) ?_
                refine lv_iconst (v := 5) hx hb dL_acts_504 (by decide) ?_
                refine lv_irem hx hb dL_acts_505 (by decide) ?_
                refine lv_iadd hx hb dL_acts_506 ?_
                refine lv_topi (fun z9 hz9 => ?_)
                rw [hz9.trans ek]
                refine lv_istore (lv' := [(19, .int xb), (5, .int nn), (4, .int ss), (3, .int bb), (2, .int zz), (0, .ref (q 0)), (1, .int a2)]) hx hb dL_acts_507 hl (by decide) rfl (fun ls hl => ?_)
                refine lv_aload_n hx hb dL_acts_509 rfl (lv_at hl 5 rfl) ?_
                refine lv_bipush (v := 6) hx hb dL_acts_510 (by decide) ?_
                refine bcall_Ri (va_runV (As := [.int 6]) (rest := []) ⟨hx, hb, hml, hown, hts⟩ (C5_count l D cI cO q _ _ hP 6 (by decide)) (cwV 1 hts gL_acts_X5_count rfl rfl rfl ⟨rfl, bd_X5count⟩ ⟨Nat.le_of_ble_eq_true rfl, Nat.le_of_ble_eq_true rfl⟩) (bPV hk (va_recv hk.1 hP (ci := 5) (q0 := 0) rfl (wC_0 _ _ _ _))) rfl rfl hl.1 rfl (lv_room (Nat.le_of_ble_eq_true rfl)) dL_acts_512 ⟨Nat.zero_le _, Nat.zero_le _⟩) hS (fun locs hS => ?_)
                refine lv_istore (lv' := [(20, .int (F5_count u 6)), (19, .int xb), (5, .int nn), (4, .int ss), (3, .int bb), (2, .int zz), (0, .ref (q 0)), (1, .int a2)]) hx hb dL_acts_515 hl (by decide) rfl (fun ls hl => ?_)
                refine lv_iload hx hb dL_acts_517 (lv_at hl 1 rfl) ?_
                refine lv_aload_n hx hb dL_acts_519 rfl (lv_at hl 6 rfl) ?_
                refine lv_aload_n hx hb dL_acts_520 rfl (lv_at hl 6 rfl) ?_
                refine lv_iload_n hx hb dL_acts_521 rfl (lv_at hl 4 rfl) ?_
                refine lv_iconst (v := 0) hx hb dL_acts_522 (by decide) ?_
                refine bcall_Ri (va_runV (As := [.int bb, .int 0]) (rest := [.ref (q 0), .int xb]) ⟨hx, hb, hml, hown, hts⟩ (C5_brand l D cI cO q _ _ hP bb 0 hb9 (by decide)) (cwV 2 hts gL_acts_X5_brand rfl rfl rfl ⟨rfl, bd_X5brand⟩ ⟨Nat.le_of_ble_eq_true rfl, Nat.le_of_ble_eq_true rfl⟩) (bPV hk (va_recv hk.1 hP (ci := 5) (q0 := 0) rfl (wC_0 _ _ _ _))) rfl rfl hl.1 rfl (lv_room (Nat.le_of_ble_eq_true rfl)) dL_acts_523 ⟨Nat.zero_le _, Nat.zero_le _⟩) hS (fun locs hS => ?_)
                have c_59 : (F5_needSetting (F5_brand u bb 0)) = 0 := Decidable.byContradiction (fun h9 => absurd ((congrArg Prod.fst (show ((F5_needSetting (F5_brand u bb 0)), (0 : Int32), u) = tgt from by rw [← hF, FL_acts, if_neg c_1, if_neg c_8, if_neg c_20, if_neg c_32, if_neg c_39, if_neg c_45, if_pos c_58, if_neg h9])).trans h0) h9)
                refine bcall_Ri (va_runV (As := [.int (F5_brand u bb 0)]) (rest := [.int xb]) ⟨hx, hb, hml, hown, hts⟩ (C5_setting l D cI cO q _ _ hP (F5_brand u bb 0) c_59) (cwV 1 hts gL_acts_X5_setting rfl rfl rfl ⟨rfl, bd_X5setting⟩ ⟨Nat.le_of_ble_eq_true rfl, Nat.le_of_ble_eq_true rfl⟩) (bPV hk (va_recv hk.1 hP (ci := 5) (q0 := 0) rfl (wC_0 _ _ _ _))) rfl rfl hl.1 rfl (lv_room (Nat.le_of_ble_eq_true rfl)) dL_acts_526 ⟨Nat.zero_le _, Nat.zero_le _⟩) hS (fun locs hS => ?_)
                refine lv_imul hx hb dL_acts_529 ?_
                refine lv_istore (lv' := [(21, .int (xb * (F5_setting u (F5_brand u bb 0)))), (20, .int (F5_count u 6)), (19, .int xb), (5, .int nn), (4, .int ss), (3, .int bb), (2, .int zz), (0, .ref (q 0)), (1, .int a2)]) hx hb dL_acts_530 hl (by decide) rfl (fun ls hl => ?_)
                refine lv_iload_n hx hb dL_acts_532 rfl (lv_at hl 6 rfl) ?_
                refine lv_iconst (v := 1) hx hb dL_acts_533 (by decide) ?_
                refine lv_iand hx hb dL_acts_534 ?_
                refine lv_if_ne (tgt := 587) hx hb dL_acts_535 (by decide) (fun c_60 => ?_) (fun c_60 => ?_)
                · refine lv_aload_n hx hb dL_acts_587 rfl (lv_at hl 7 rfl) ?_
                  refine lv_iload_n hx hb dL_acts_588 rfl (lv_at hl 5 rfl) ?_
                  refine lv_iconst (v := 5) hx hb dL_acts_589 (by decide) ?_
                  refine bcall_Ri (va_runV (As := [.int bb, .int 5]) (rest := []) ⟨hx, hb, hml, hown, hts⟩ (C5_brand l D cI cO q _ _ hP bb 5 hb9 (by decide)) (cwV 2 hts gL_acts_X5_brand rfl rfl rfl ⟨rfl, bd_X5brand⟩ ⟨Nat.le_of_ble_eq_true rfl, Nat.le_of_ble_eq_true rfl⟩) (bPV hk (va_recv hk.1 hP (ci := 5) (q0 := 0) rfl (wC_0 _ _ _ _))) rfl rfl hl.1 rfl (lv_room (Nat.le_of_ble_eq_true rfl)) dL_acts_590 ⟨Nat.zero_le _, Nat.zero_le _⟩) hS (fun locs hS => ?_)
                  refine lv_iload hx hb dL_acts_593 (lv_at hl 2 rfl) ?_
                  refine lv_icmp_lt (tgt := 614) hx hb dL_acts_595 (by decide) (fun c_61 => ?_) (fun c_61 => ?_)
                  · refine lv_iconst (v := 1) hx hb dL_acts_614 (by decide) ?_
                    refine lv_goto (tgt := 619) hx hb dL_acts_615 (by decide) ?_
                    exact bret_Yz hx hb hr hP hS hlocks dL_acts_619 (Or.inr rfl) (by rw [← hF, FL_acts, if_neg c_1, if_neg c_8, if_neg c_20, if_neg c_32, if_neg c_39, if_neg c_45, if_pos c_58, if_pos c_59, if_neg c_60, if_pos c_61])
                  · refine lv_aload_n hx hb dL_acts_598 rfl (lv_at hl 7 rfl) ?_
                    refine lv_iload_n hx hb dL_acts_599 rfl (lv_at hl 5 rfl) ?_
                    refine lv_iload hx hb dL_acts_600 (lv_at hl 2 rfl) ?_
                    have c_62 : (F5_lose u bb xb).1 = 0 := Decidable.byContradiction (fun h9 => absurd ((congrArg Prod.fst (show ((F5_lose u bb xb).1, (0 : Int32), u) = tgt from by rw [← hF, FL_acts, if_neg c_1, if_neg c_8, if_neg c_20, if_neg c_32, if_neg c_39, if_neg c_45, if_pos c_58, if_pos c_59, if_neg c_60, if_neg c_61, if_neg h9])).trans h0) h9)
                    refine bcall_Wi (va_runV (As := [.int bb, .int xb]) (rest := []) ⟨hx, hb, hml, hown, hts⟩ (C5_lose l D cI cO q _ _ hq hP bb xb hlat c_62) (cwV 2 hts gL_acts_X5_lose rfl rfl rfl ⟨rfl, bd_X5lose⟩ ⟨Nat.le_of_ble_eq_true rfl, Nat.le_of_ble_eq_true rfl⟩) (bPV hk (va_recv hk.1 hP (ci := 5) (q0 := 0) rfl (wC_0 _ _ _ _))) rfl rfl hl.1 rfl (lv_room (Nat.le_of_ble_eq_true rfl)) dL_acts_602 ⟨Nat.zero_le _, Nat.zero_le _⟩) hS (fun H locs hP _ hS => ?_)
                    refine lv_aload_n hx hb dL_acts_605 rfl (lv_at hl 7 rfl) ?_
                    refine lv_iload_n hx hb dL_acts_606 rfl (lv_at hl 5 rfl) ?_
                    refine lv_iconst (v := 5) hx hb dL_acts_607 (by decide) ?_
                    have c_63 : (F5_needBrand (F5_lose u bb xb).2.2 bb) = 0 := Decidable.byContradiction (fun h9 => absurd ((congrArg Prod.fst (show ((F5_needBrand (F5_lose u bb xb).2.2 bb), (0 : Int32), (F5_lose u bb xb).2.2) = tgt from by rw [← hF, FL_acts, if_neg c_1, if_neg c_8, if_neg c_20, if_neg c_32, if_neg c_39, if_neg c_45, if_pos c_58, if_pos c_59, if_neg c_60, if_neg c_61, if_pos c_62, if_neg h9])).trans h0) h9)
                    refine bcall_Ri (va_runV (As := [.int bb, .int 5]) (rest := [.int (F5_lose u bb xb).2.1]) ⟨hx, hb, hml, hown, hts⟩ (C5_brand l D cI cO q _ _ hP bb 5 c_63 (by decide)) (cwV 2 hts gL_acts_X5_brand rfl rfl rfl ⟨rfl, bd_X5brand⟩ ⟨Nat.le_of_ble_eq_true rfl, Nat.le_of_ble_eq_true rfl⟩) (bPV hk (va_recv hk.1 hP (ci := 5) (q0 := 0) rfl (wC_0 _ _ _ _))) rfl rfl hl.1 rfl (lv_room (Nat.le_of_ble_eq_true rfl)) dL_acts_608 ⟨Nat.zero_le _, Nat.zero_le _⟩) hS (fun locs hS => ?_)
                    refine lv_icmp_ne (tgt := 618) hx hb dL_acts_611 (by decide) (fun c_64 => ?_) (fun c_64 => ?_)
                    · refine lv_iconst (v := 0) hx hb dL_acts_618 (by decide) ?_
                      exact bret_Yz hx hb hr hP hS hlocks dL_acts_619 (Or.inl rfl) (by rw [← hF, FL_acts, if_neg c_1, if_neg c_8, if_neg c_20, if_neg c_32, if_neg c_39, if_neg c_45, if_pos c_58, if_pos c_59, if_neg c_60, if_neg c_61, if_pos c_62, if_pos c_63, if_neg c_64])
                    · refine lv_iconst (v := 1) hx hb dL_acts_614 (by decide) ?_
                      refine lv_goto (tgt := 619) hx hb dL_acts_615 (by decide) ?_
                      exact bret_Yz hx hb hr hP hS hlocks dL_acts_619 (Or.inr rfl) (by rw [← hF, FL_acts, if_neg c_1, if_neg c_8, if_neg c_20, if_neg c_32, if_neg c_39, if_neg c_45, if_pos c_58, if_pos c_59, if_neg c_60, if_neg c_61, if_pos c_62, if_pos c_63, if_pos c_64])
                · refine lv_aload_n hx hb dL_acts_538 rfl (lv_at hl 7 rfl) ?_
                  refine lv_iload hx hb dL_acts_539 (lv_at hl 4 rfl) ?_
                  refine lv_bipush (v := 20) hx hb dL_acts_541 (by decide) ?_
                  refine lv_iload_n hx hb dL_acts_543 rfl (lv_at hl 5 rfl) ?_
                  refine lv_iadd hx hb dL_acts_544 ?_
                  have c_65 : (F5_needArgument (F5_isShopNumber (20 + bb))) = 0 := Decidable.byContradiction (fun h9 => absurd ((congrArg Prod.fst (show ((F5_needArgument (F5_isShopNumber (20 + bb))), (0 : Int32), u) = tgt from by rw [← hF, FL_acts, if_neg c_1, if_neg c_8, if_neg c_20, if_neg c_32, if_neg c_39, if_neg c_45, if_pos c_58, if_pos c_59, if_pos c_60, if_neg h9])).trans h0) h9)
                  refine bcall_Ri (va_runV (As := [.int ss, .int (20 + bb)]) (rest := []) ⟨hx, hb, hml, hown, hts⟩ (C5_shop l D cI cO q _ _ hP ss (20 + bb) hs9 c_65) (cwV 2 hts gL_acts_X5_shop rfl rfl rfl ⟨rfl, bd_X5shop⟩ ⟨Nat.le_of_ble_eq_true rfl, Nat.le_of_ble_eq_true rfl⟩) (bPV hk (va_recv hk.1 hP (ci := 5) (q0 := 0) rfl (wC_0 _ _ _ _))) rfl rfl hl.1 rfl (lv_room (Nat.le_of_ble_eq_true rfl)) dL_acts_545 ⟨Nat.zero_le _, Nat.zero_le _⟩) hS (fun locs hS => ?_)
                  refine lv_iload hx hb dL_acts_548 (lv_at hl 2 rfl) ?_
                  refine lv_icmp_lt (tgt := 579) hx hb dL_acts_550 (by decide) (fun c_66 => ?_) (fun c_66 => ?_)
                  · refine lv_iconst (v := 1) hx hb dL_acts_579 (by decide) ?_
                    refine lv_goto (tgt := 619) hx hb dL_acts_580 (by decide) ?_
                    exact bret_Yz hx hb hr hP hS hlocks dL_acts_619 (Or.inr rfl) (by rw [← hF, FL_acts, if_neg c_1, if_neg c_8, if_neg c_20, if_neg c_32, if_neg c_39, if_neg c_45, if_pos c_58, if_pos c_59, if_pos c_60, if_pos c_65, if_pos c_66])
                  · refine lv_aload_n hx hb dL_acts_553 rfl (lv_at hl 7 rfl) ?_
                    refine lv_iload hx hb dL_acts_554 (lv_at hl 4 rfl) ?_
                    refine lv_iload_n hx hb dL_acts_556 rfl (lv_at hl 5 rfl) ?_
                    refine lv_iload hx hb dL_acts_557 (lv_at hl 2 rfl) ?_
                    have c_67 : (F5_breaks u ss bb xb).1 = 0 := Decidable.byContradiction (fun h9 => absurd ((congrArg Prod.fst (show ((F5_breaks u ss bb xb).1, (0 : Int32), u) = tgt from by rw [← hF, FL_acts, if_neg c_1, if_neg c_8, if_neg c_20, if_neg c_32, if_neg c_39, if_neg c_45, if_pos c_58, if_pos c_59, if_pos c_60, if_pos c_65, if_neg c_66, if_neg h9])).trans h0) h9)
                    refine bcall_Wi (va_runV (As := [.int ss, .int bb, .int xb]) (rest := []) ⟨hx, hb, hml, hown, hts⟩ (C5_breaks l D cI cO q _ _ hq hP ss bb xb hlat c_67) (cwV 3 hts gL_acts_X5_breaks rfl rfl rfl ⟨rfl, bd_X5breaks⟩ ⟨Nat.le_of_ble_eq_true rfl, Nat.le_of_ble_eq_true rfl⟩) (bPV hk (va_recv hk.1 hP (ci := 5) (q0 := 0) rfl (wC_0 _ _ _ _))) rfl rfl hl.1 rfl (lv_room (Nat.le_of_ble_eq_true rfl)) dL_acts_559 ⟨Nat.zero_le _, Nat.zero_le _⟩) hS (fun H locs hP _ hS => ?_)
                    refine lv_iload hx hb dL_acts_562 (lv_at hl 0 rfl) ?_
                    refine lv_iload hx hb dL_acts_564 (lv_at hl 1 rfl) ?_
                    refine lv_icmp_ge (tgt := 574) hx hb dL_acts_566 (by decide) (fun c_68 => ?_) (fun c_68 => ?_)
                    · refine lv_iload hx hb dL_acts_574 (lv_at hl 1 rfl) ?_
                      refine lv_icmp_ne (tgt := 583) hx hb dL_acts_576 (by decide) (fun c_69 => ?_) (fun c_69 => ?_)
                      · refine lv_iconst (v := 0) hx hb dL_acts_583 (by decide) ?_
                        refine lv_goto (tgt := 619) hx hb dL_acts_584 (by decide) ?_
                        exact bret_Yz hx hb hr hP hS hlocks dL_acts_619 (Or.inl rfl) (by rw [← hF, FL_acts, if_neg c_1, if_neg c_8, if_neg c_20, if_neg c_32, if_neg c_39, if_neg c_45, if_pos c_58, if_pos c_59, if_pos c_60, if_pos c_65, if_neg c_66, if_pos c_67, if_pos c_68, if_neg c_69])
                      · refine lv_iconst (v := 1) hx hb dL_acts_579 (by decide) ?_
                        refine lv_goto (tgt := 619) hx hb dL_acts_580 (by decide) ?_
                        exact bret_Yz hx hb hr hP hS hlocks dL_acts_619 (Or.inr rfl) (by rw [← hF, FL_acts, if_neg c_1, if_neg c_8, if_neg c_20, if_neg c_32, if_neg c_39, if_neg c_45, if_pos c_58, if_pos c_59, if_pos c_60, if_pos c_65, if_neg c_66, if_pos c_67, if_pos c_68, if_pos c_69])
                    · refine lv_iload hx hb dL_acts_569 (lv_at hl 0 rfl) ?_
                      refine lv_goto (tgt := 576) hx hb dL_acts_571 (by decide) ?_
                      refine lv_icmp_ne (tgt := 583) hx hb dL_acts_576 (by decide) (fun c_70 => ?_) (fun c_70 => ?_)
                      · refine lv_iconst (v := 0) hx hb dL_acts_583 (by decide) ?_
                        refine lv_goto (tgt := 619) hx hb dL_acts_584 (by decide) ?_
                        exact bret_Yz hx hb hr hP hS hlocks dL_acts_619 (Or.inl rfl) (by rw [← hF, FL_acts, if_neg c_1, if_neg c_8, if_neg c_20, if_neg c_32, if_neg c_39, if_neg c_45, if_pos c_58, if_pos c_59, if_pos c_60, if_pos c_65, if_neg c_66, if_pos c_67, if_neg c_68, if_neg c_70])
                      · refine lv_iconst (v := 1) hx hb dL_acts_579 (by decide) ?_
                        refine lv_goto (tgt := 619) hx hb dL_acts_580 (by decide) ?_
                        exact bret_Yz hx hb hr hP hS hlocks dL_acts_619 (Or.inr rfl) (by rw [← hF, FL_acts, if_neg c_1, if_neg c_8, if_neg c_20, if_neg c_32, if_neg c_39, if_neg c_45, if_pos c_58, if_pos c_59, if_pos c_60, if_pos c_65, if_neg c_66, if_pos c_67, if_neg c_68, if_pos c_70])
              · have hn_38_0 := lv_neT c_1 (a := 0) rfl
                have hn_38_1 := lv_neT c_8 (a := 1) rfl
                have hn_38_2 := lv_neT c_20 (a := 2) rfl
                have hn_38_3 := lv_neT c_32 (a := 3) rfl
                have hn_38_4 := lv_neT c_39 (a := 4) rfl
                have hn_38_5 := lv_neT c_45 (a := 5) rfl
                have hn_38_6 := lv_neT c_58 (a := 6) rfl
                refine lv_tableOut (tgt := 620) hx hb dL_acts_38 (by omega) (by decide) ?_
                refine lv_iconst (v := 0) hx hb dL_acts_620 (by decide) ?_
                refine lv_istore (lv' := [(22, .int 0), (5, .int nn), (4, .int ss), (3, .int bb), (2, .int zz), (0, .ref (q 0)), (1, .int a2)]) hx hb dL_acts_621 hl (by decide) rfl (fun ls hl => ?_)
                refine lv_iconst (v := 0) hx hb dL_acts_623 (by decide) ?_
                refine lv_istore (lv' := [(23, .int 0), (22, .int 0), (5, .int nn), (4, .int ss), (3, .int bb), (2, .int zz), (0, .ref (q 0)), (1, .int a2)]) hx hb dL_acts_624 hl (by decide) rfl (fun ls hl => ?_)
                have hB626 := bClamp (F5_count u 0)
                have loop626 : ∀ (n626 j626 : Nat) (x22_626 : Int32) (locs : List Loc) (ls : Array Slot), j626 ≤ (F5_count u 0).toNatClampNeg → (F5_count u 0).toNatClampNeg + 1 ≤ n626 + j626 → lv_has ls 24 [(0, .ref (q 0)), (1, .int a2), (2, .int zz), (3, .int bb), (4, .int ss), (5, .int nn), (22, .int x22_626), (23, .int (nI j626))] → va_S (bA 23 q s.heap.size) s.heap s.heap locs → ∀ X : Int32, LL_acts_626 u bb  n626 j626 x22_626 = X → (∀ (locs : List Loc) (ls : Array Slot), lv_has ls 24 [(0, .ref (q 0)), (1, .int a2), (2, .int zz), (3, .int bb), (4, .int ss), (5, .int nn), (22, .int X)] → va_S (bA 23 q s.heap.size) s.heap s.heap locs → W p l e (headSpec wsL_acts ({ frames := 6, cells := 0, slots := 0, locals := 292 })).room s m ([.ref (q 0), .int a2] : List Value).toArray below meth c s.heap locs 0 0 (MQ below (bWi D (wC cI cO q) bT (bA 23 q s.heap.size) (tgt.2.1, tgt.2.2)) ([.ref (q 0), .int a2] : List Value).toArray s 0 0 (bA 23 q s.heap.size)) (F0 m 675 ls [])) → W p l e (headSpec wsL_acts ({ frames := 6, cells := 0, slots := 0, locals := 292 })).room s m ([.ref (q 0), .int a2] : List Value).toArray below meth c s.heap locs 0 0 (MQ below (bWi D (wC cI cO q) bT (bA 23 q s.heap.size) (tgt.2.1, tgt.2.2)) ([.ref (q 0), .int a2] : List Value).toArray s 0 0 (bA 23 q s.heap.size)) (F0 m 626 ls []) := by
                  intro n626
                  induction n626 with
                  | zero => intro j626 x22_626 locs ls hj hn; exact absurd hn (by omega)
                  | succ n626 ih =>
                    intro j626 x22_626 locs ls hj hn hl hS X hF kx
                    refine lv_iload hx hb dL_acts_626 (lv_at hl 7 rfl) ?_
                    refine lv_aload_n hx hb dL_acts_628 rfl (lv_at hl 0 rfl) ?_
                    refine lv_iconst (v := 0) hx hb dL_acts_629 (by decide) ?_
                    refine bcall_Ri (va_runV (As := [.int 0]) (rest := [.int (nI j626)]) ⟨hx, hb, hml, hown, hts⟩ (C5_count l D cI cO q _ _ hP 0 (by decide)) (cwV 1 hts gL_acts_X5_count rfl rfl rfl ⟨rfl, bd_X5count⟩ ⟨Nat.le_of_ble_eq_true rfl, Nat.le_of_ble_eq_true rfl⟩) (bPV hk (va_recv hk.1 hP (ci := 5) (q0 := 0) rfl (wC_0 _ _ _ _))) rfl rfl hl.1 rfl (lv_room (Nat.le_of_ble_eq_true rfl)) dL_acts_630 ⟨Nat.zero_le _, Nat.zero_le _⟩) hS (fun locs hS => ?_)
                    refine lv_icmp_ge (tgt := 675) hx hb dL_acts_633 (by decide) (fun c_71 => ?_) (fun c_71 => ?_)
                    · obtain rfl : X = x22_626 := by rw [← hF, LL_acts_626, if_pos c_71]
                      exact kx _ _ (lv_sub hl [0, 1, 2, 3, 4, 5, 6] rfl) hS
                    · have hlt_72 : j626 < (F5_count u 0).toNatClampNeg := bLtB c_71 (by omega)
                      refine lv_iload hx hb dL_acts_636 (lv_at hl 6 rfl) ?_
                      refine lv_aload_n hx hb dL_acts_638 rfl (lv_at hl 0 rfl) ?_
                      refine lv_iload hx hb dL_acts_639 (lv_at hl 7 rfl) ?_
                      refine lv_iconst (v := 0) hx hb dL_acts_641 (by decide) ?_
                      refine bcall_Ri (va_runV (As := [.int (nI j626), .int 0]) (rest := [.int x22_626]) ⟨hx, hb, hml, hown, hts⟩ (C5_brand l D cI cO q _ _ hP (nI j626) 0 (ok_nb hok hlt_72) (by decide)) (cwV 2 hts gL_acts_X5_brand rfl rfl rfl ⟨rfl, bd_X5brand⟩ ⟨Nat.le_of_ble_eq_true rfl, Nat.le_of_ble_eq_true rfl⟩) (bPV hk (va_recv hk.1 hP (ci := 5) (q0 := 0) rfl (wC_0 _ _ _ _))) rfl rfl hl.1 rfl (lv_room (Nat.le_of_ble_eq_true rfl)) dL_acts_642 ⟨Nat.zero_le _, Nat.zero_le _⟩) hS (fun locs hS => ?_)
                      refine lv_aload_n hx hb dL_acts_645 rfl (lv_at hl 0 rfl) ?_
                      refine lv_iload_n hx hb dL_acts_646 rfl (lv_at hl 3 rfl) ?_
                      refine lv_iconst (v := 0) hx hb dL_acts_647 (by decide) ?_
                      refine bcall_Ri (va_runV (As := [.int bb, .int 0]) (rest := [.int (F5_brand u (nI j626) 0), .int x22_626]) ⟨hx, hb, hml, hown, hts⟩ (C5_brand l D cI cO q _ _ hP bb 0 hb9 (by decide)) (cwV 2 hts gL_acts_X5_brand rfl rfl rfl ⟨rfl, bd_X5brand⟩ ⟨Nat.le_of_ble_eq_true rfl, Nat.le_of_ble_eq_true rfl⟩) (bPV hk (va_recv hk.1 hP (ci := 5) (q0 := 0) rfl (wC_0 _ _ _ _))) rfl rfl hl.1 rfl (lv_room (Nat.le_of_ble_eq_true rfl)) dL_acts_648 ⟨Nat.zero_le _, Nat.zero_le _⟩) hS (fun locs hS => ?_)
                      refine lv_icmp_ne (tgt := 665) hx hb dL_acts_651 (by decide) (fun c_73 => ?_) (fun c_73 => ?_)
                      · refine lv_iconst (v := 0) hx hb dL_acts_665 (by decide) ?_
                        refine lv_iadd hx hb dL_acts_666 ?_
                        refine lv_istore (lv' := [(22, .int (x22_626 + 0)), (0, .ref (q 0)), (1, .int a2), (2, .int zz), (3, .int bb), (4, .int ss), (5, .int nn), (23, .int (nI j626))]) hx hb dL_acts_667 hl (by decide) rfl (fun ls hl => ?_)
                        refine lv_iinc (v := (nI (j626 + 1))) (lv' := [(23, .int (nI (j626 + 1))), (22, .int (x22_626 + 0)), (0, .ref (q 0)), (1, .int a2), (2, .int zz), (3, .int bb), (4, .int ss), (5, .int nn)]) hx hb dL_acts_669 hl (k := 7) rfl (bInc j626) (by decide) rfl (fun ls hl => ?_)
                        refine lv_goto (tgt := 626) hx hb dL_acts_672 (by decide) ?_
                        exact ih (j626 + 1) (x22_626 + 0) _ _ (by omega) (by omega) (lv_sub hl [2, 3, 4, 5, 6, 7, 1, 0] rfl) hS X (by rw [← hF, LL_acts_626, if_neg c_71, if_neg c_73]) kx
                      · refine lv_aload_n hx hb dL_acts_654 rfl (lv_at hl 0 rfl) ?_
                        refine lv_iload hx hb dL_acts_655 (lv_at hl 7 rfl) ?_
                        refine lv_bipush (v := 6) hx hb dL_acts_657 (by decide) ?_
                        refine bcall_Ri (va_runV (As := [.int (nI j626), .int 6]) (rest := [.int x22_626]) ⟨hx, hb, hml, hown, hts⟩ (C5_brand l D cI cO q _ _ hP (nI j626) 6 (ok_nb hok hlt_72) (by decide)) (cwV 2 hts gL_acts_X5_brand rfl rfl rfl ⟨rfl, bd_X5brand⟩ ⟨Nat.le_of_ble_eq_true rfl, Nat.le_of_ble_eq_true rfl⟩) (bPV hk (va_recv hk.1 hP (ci := 5) (q0 := 0) rfl (wC_0 _ _ _ _))) rfl rfl hl.1 rfl (lv_room (Nat.le_of_ble_eq_true rfl)) dL_acts_659 ⟨Nat.zero_le _, Nat.zero_le _⟩) hS (fun locs hS => ?_)
                        refine lv_goto (tgt := 666) hx hb dL_acts_662 (by decide) ?_
                        refine lv_iadd hx hb dL_acts_666 ?_
                        refine lv_istore (lv' := [(22, .int (x22_626 + (F5_brand u (nI j626) 6))), (0, .ref (q 0)), (1, .int a2), (2, .int zz), (3, .int bb), (4, .int ss), (5, .int nn), (23, .int (nI j626))]) hx hb dL_acts_667 hl (by decide) rfl (fun ls hl => ?_)
                        refine lv_iinc (v := (nI (j626 + 1))) (lv' := [(23, .int (nI (j626 + 1))), (22, .int (x22_626 + (F5_brand u (nI j626) 6))), (0, .ref (q 0)), (1, .int a2), (2, .int zz), (3, .int bb), (4, .int ss), (5, .int nn)]) hx hb dL_acts_669 hl (k := 7) rfl (bInc j626) (by decide) rfl (fun ls hl => ?_)
                        refine lv_goto (tgt := 626) hx hb dL_acts_672 (by decide) ?_
                        exact ih (j626 + 1) (x22_626 + (F5_brand u (nI j626) 6)) _ _ (by omega) (by omega) (lv_sub hl [2, 3, 4, 5, 6, 7, 1, 0] rfl) hS X (by rw [← hF, LL_acts_626, if_neg c_71, if_pos c_73]) kx
                refine loop626 ((F5_count u 0).toNatClampNeg + 1) 0 0 _ _ (by omega) (by omega) (lv_sub hl [6, 7, 5, 4, 3, 2, 1, 0] rfl) hS _ rfl (fun locs ls hl hS => ?_)
                refine lv_iload_n hx hb dL_acts_675 rfl (lv_at hl 2 rfl) ?_
                refine lv_bipush (v := 10) hx hb dL_acts_676 (by decide) ?_
                refine lv_ishr hx hb dL_acts_678 ?_
                refine lv_aload_n hx hb dL_acts_679 rfl (lv_at hl 0 rfl) ?_
                refine lv_iconst (v := 0) hx hb dL_acts_680 (by decide) ?_
                refine bcall_Ri (va_runV (As := [.int 0]) (rest := [.int (zz >>> (10 &&& 31))]) ⟨hx, hb, hml, hown, hts⟩ (C5_count l D cI cO q _ _ hP 0 (by decide)) (cwV 1 hts gL_acts_X5_count rfl rfl rfl ⟨rfl, bd_X5count⟩ ⟨Nat.le_of_ble_eq_true rfl, Nat.le_of_ble_eq_true rfl⟩) (bPV hk (va_recv hk.1 hP (ci := 5) (q0 := 0) rfl (wC_0 _ _ _ _))) rfl rfl hl.1 rfl (lv_room (Nat.le_of_ble_eq_true rfl)) dL_acts_681 ⟨Nat.zero_le _, Nat.zero_le _⟩) hS (fun locs hS => ?_)
                refine lv_irem hx hb dL_acts_684 (ok_c0 hok) ?_
                refine lv_topi (fun z9 hz9 => ?_)
                rw [hz9.trans et]
                refine lv_istore (lv' := [(23, .int xt), (0, .ref (q 0)), (1, .int a2), (2, .int zz), (3, .int bb), (4, .int ss), (5, .int nn), (22, .int (LL_acts_626 u bb ((F5_count u 0).toNatClampNeg + 1) 0 0))]) hx hb dL_acts_685 hl (by decide) rfl (fun ls hl => ?_)
                refine lv_iload_n hx hb dL_acts_687 rfl (lv_at hl 3 rfl) ?_
                refine lv_iconst (v := 1) hx hb dL_acts_688 (by decide) ?_
                refine lv_iand hx hb dL_acts_689 ?_
                refine lv_if_ne (tgt := 726) hx hb dL_acts_690 (by decide) (fun c_74 => ?_) (fun c_74 => ?_)
                · refine lv_iload_n hx hb dL_acts_726 rfl (lv_at hl 4 rfl) ?_
                  refine lv_iload hx hb dL_acts_727 (lv_at hl 0 rfl) ?_
                  refine lv_icmp_eq (tgt := 771) hx hb dL_acts_729 (by decide) (fun c_75 => ?_) (fun c_75 => ?_)
                  · refine lv_iconst (v := 1) hx hb dL_acts_771 (by decide) ?_
                    refine lv_goto (tgt := 776) hx hb dL_acts_772 (by decide) ?_
                    exact bret_Yz hx hb hr hP hS hlocks dL_acts_776 (Or.inr rfl) (by rw [← hF, FL_acts, if_neg c_1, if_neg c_8, if_neg c_20, if_neg c_32, if_neg c_39, if_neg c_45, if_neg c_58, if_neg c_74, if_pos c_75])
                  · refine lv_aload_n hx hb dL_acts_732 rfl (lv_at hl 1 rfl) ?_
                    refine lv_iload_n hx hb dL_acts_733 rfl (lv_at hl 4 rfl) ?_
                    refine lv_iconst (v := 0) hx hb dL_acts_734 (by decide) ?_
                    refine bcall_Ri (va_runV (As := [.int bb, .int 0]) (rest := []) ⟨hx, hb, hml, hown, hts⟩ (C5_brand l D cI cO q _ _ hP bb 0 hb9 (by decide)) (cwV 2 hts gL_acts_X5_brand rfl rfl rfl ⟨rfl, bd_X5brand⟩ ⟨Nat.le_of_ble_eq_true rfl, Nat.le_of_ble_eq_true rfl⟩) (bPV hk (va_recv hk.1 hP (ci := 5) (q0 := 0) rfl (wC_0 _ _ _ _))) rfl rfl hl.1 rfl (lv_room (Nat.le_of_ble_eq_true rfl)) dL_acts_735 ⟨Nat.zero_le _, Nat.zero_le _⟩) hS (fun locs hS => ?_)
                    refine lv_aload_n hx hb dL_acts_738 rfl (lv_at hl 1 rfl) ?_
                    refine lv_iload hx hb dL_acts_739 (lv_at hl 0 rfl) ?_
                    refine lv_iconst (v := 0) hx hb dL_acts_741 (by decide) ?_
                    have c_76 : (F5_needBrand u xt) = 0 := Decidable.byContradiction (fun h9 => absurd ((congrArg Prod.fst (show ((F5_needBrand u xt), (0 : Int32), u) = tgt from by rw [← hF, FL_acts, if_neg c_1, if_neg c_8, if_neg c_20, if_neg c_32, if_neg c_39, if_neg c_45, if_neg c_58, if_neg c_74, if_neg c_75, if_neg h9])).trans h0) h9)
                    refine bcall_Ri (va_runV (As := [.int xt, .int 0]) (rest := [.int (F5_brand u bb 0)]) ⟨hx, hb, hml, hown, hts⟩ (C5_brand l D cI cO q _ _ hP xt 0 c_76 (by decide)) (cwV 2 hts gL_acts_X5_brand rfl rfl rfl ⟨rfl, bd_X5brand⟩ ⟨Nat.le_of_ble_eq_true rfl, Nat.le_of_ble_eq_true rfl⟩) (bPV hk (va_recv hk.1 hP (ci := 5) (q0 := 0) rfl (wC_0 _ _ _ _))) rfl rfl hl.1 rfl (lv_room (Nat.le_of_ble_eq_true rfl)) dL_acts_742 ⟨Nat.zero_le _, Nat.zero_le _⟩) hS (fun locs hS => ?_)
                    refine lv_icmp_ne (tgt := 771) hx hb dL_acts_745 (by decide) (fun c_77 => ?_) (fun c_77 => ?_)
                    · refine lv_iconst (v := 1) hx hb dL_acts_771 (by decide) ?_
                      refine lv_goto (tgt := 776) hx hb dL_acts_772 (by decide) ?_
                      exact bret_Yz hx hb hr hP hS hlocks dL_acts_776 (Or.inr rfl) (by rw [← hF, FL_acts, if_neg c_1, if_neg c_8, if_neg c_20, if_neg c_32, if_neg c_39, if_neg c_45, if_neg c_58, if_neg c_74, if_neg c_75, if_pos c_76, if_neg c_77])
                    · refine lv_aload_n hx hb dL_acts_748 rfl (lv_at hl 1 rfl) ?_
                      refine lv_iload_n hx hb dL_acts_749 rfl (lv_at hl 4 rfl) ?_
                      refine lv_iconst (v := 1) hx hb dL_acts_750 (by decide) ?_
                      refine bcall_Ri (va_runV (As := [.int bb, .int 1]) (rest := []) ⟨hx, hb, hml, hown, hts⟩ (C5_brand l D cI cO q _ _ hP bb 1 hb9 (by decide)) (cwV 2 hts gL_acts_X5_brand rfl rfl rfl ⟨rfl, bd_X5brand⟩ ⟨Nat.le_of_ble_eq_true rfl, Nat.le_of_ble_eq_true rfl⟩) (bPV hk (va_recv hk.1 hP (ci := 5) (q0 := 0) rfl (wC_0 _ _ _ _))) rfl rfl hl.1 rfl (lv_room (Nat.le_of_ble_eq_true rfl)) dL_acts_751 ⟨Nat.zero_le _, Nat.zero_le _⟩) hS (fun locs hS => ?_)
                      refine lv_iload hx hb dL_acts_754 (lv_at hl 6 rfl) ?_
                      refine lv_icmp_lt (tgt := 771) hx hb dL_acts_756 (by decide) (fun c_78 => ?_) (fun c_78 => ?_)
                      · refine lv_iconst (v := 1) hx hb dL_acts_771 (by decide) ?_
                        refine lv_goto (tgt := 776) hx hb dL_acts_772 (by decide) ?_
                        exact bret_Yz hx hb hr hP hS hlocks dL_acts_776 (Or.inr rfl) (by rw [← hF, FL_acts, if_neg c_1, if_neg c_8, if_neg c_20, if_neg c_32, if_neg c_39, if_neg c_45, if_neg c_58, if_neg c_74, if_neg c_75, if_pos c_76, if_pos c_77, if_pos c_78])
                      · refine lv_aload_n hx hb dL_acts_759 rfl (lv_at hl 1 rfl) ?_
                        refine lv_iload_n hx hb dL_acts_760 rfl (lv_at hl 4 rfl) ?_
                        refine lv_iload hx hb dL_acts_761 (lv_at hl 0 rfl) ?_
                        refine lv_iload hx hb dL_acts_763 (lv_at hl 6 rfl) ?_
                        have c_79 : (FL_swaps u bb xt nn).1 = 0 := Decidable.byContradiction (fun h9 => absurd ((congrArg Prod.fst (show ((FL_swaps u bb xt nn).1, (0 : Int32), u) = tgt from by rw [← hF, FL_acts, if_neg c_1, if_neg c_8, if_neg c_20, if_neg c_32, if_neg c_39, if_neg c_45, if_neg c_58, if_neg c_74, if_neg c_75, if_pos c_76, if_pos c_77, if_neg c_78, if_neg h9])).trans h0) h9)
                        refine bcall_Wi (va_runS (As := [.ref (q 0), .int bb, .int xt, .int nn]) (rest := []) ⟨hx, hb, hml, hown, hts⟩ (CL_swaps l D cI cO q _ _ hq hP bb xt nn hlat c_79) (va_cwS 4 hts gL_acts_L_swaps rfl rfl rfl bd_Lswaps ⟨Nat.le_of_ble_eq_true rfl, Nat.le_of_ble_eq_true rfl⟩) (bPS hk) rfl rfl hl.1 rfl (lv_room (Nat.le_of_ble_eq_true rfl)) dL_acts_765 ⟨Nat.zero_le _, Nat.zero_le _⟩) hS (fun H locs hP _ hS => ?_)
                        refine lv_if_eq (tgt := 775) hx hb dL_acts_768 (by decide) (fun c_80 => ?_) (fun c_80 => ?_)
                        · refine lv_iconst (v := 0) hx hb dL_acts_775 (by decide) ?_
                          exact bret_Yz hx hb hr hP hS hlocks dL_acts_776 (Or.inl rfl) (by rw [← hF, FL_acts, if_neg c_1, if_neg c_8, if_neg c_20, if_neg c_32, if_neg c_39, if_neg c_45, if_neg c_58, if_neg c_74, if_neg c_75, if_pos c_76, if_pos c_77, if_neg c_78, if_pos c_79, if_pos c_80])
                        · refine lv_iconst (v := 1) hx hb dL_acts_771 (by decide) ?_
                          refine lv_goto (tgt := 776) hx hb dL_acts_772 (by decide) ?_
                          exact bret_Yz hx hb hr hP hS hlocks dL_acts_776 (Or.inr rfl) (by rw [← hF, FL_acts, if_neg c_1, if_neg c_8, if_neg c_20, if_neg c_32, if_neg c_39, if_neg c_45, if_neg c_58, if_neg c_74, if_neg c_75, if_pos c_76, if_pos c_77, if_neg c_78, if_pos c_79, if_neg c_80])
                · refine lv_iload hx hb dL_acts_693 (lv_at hl 7 rfl) ?_
                  refine lv_iload hx hb dL_acts_695 (lv_at hl 6 rfl) ?_
                  refine lv_icmp_lt (tgt := 720) hx hb dL_acts_697 (by decide) (fun c_81 => ?_) (fun c_81 => ?_)
                  · refine lv_iconst (v := 1) hx hb dL_acts_720 (by decide) ?_
                    refine lv_goto (tgt := 725) hx hb dL_acts_721 (by decide) ?_
                    exact bret_Yz hx hb hr hP hS hlocks dL_acts_725 (Or.inr rfl) (by rw [← hF, FL_acts, if_neg c_1, if_neg c_8, if_neg c_20, if_neg c_32, if_neg c_39, if_neg c_45, if_neg c_58, if_pos c_74, if_pos c_81])
                  · refine lv_aload_n hx hb dL_acts_700 rfl (lv_at hl 1 rfl) ?_
                    refine lv_aload_n hx hb dL_acts_701 rfl (lv_at hl 1 rfl) ?_
                    refine lv_iload_n hx hb dL_acts_702 rfl (lv_at hl 4 rfl) ?_
                    refine lv_iconst (v := 0) hx hb dL_acts_703 (by decide) ?_
                    refine bcall_Ri (va_runV (As := [.int bb, .int 0]) (rest := [.ref (q 0)]) ⟨hx, hb, hml, hown, hts⟩ (C5_brand l D cI cO q _ _ hP bb 0 hb9 (by decide)) (cwV 2 hts gL_acts_X5_brand rfl rfl rfl ⟨rfl, bd_X5brand⟩ ⟨Nat.le_of_ble_eq_true rfl, Nat.le_of_ble_eq_true rfl⟩) (bPV hk (va_recv hk.1 hP (ci := 5) (q0 := 0) rfl (wC_0 _ _ _ _))) rfl rfl hl.1 rfl (lv_room (Nat.le_of_ble_eq_true rfl)) dL_acts_704 ⟨Nat.zero_le _, Nat.zero_le _⟩) hS (fun locs hS => ?_)
                    refine lv_iload hx hb dL_acts_707 (lv_at hl 6 rfl) ?_
                    have c_82 : (F5_sort u (F5_brand u bb 0) nn).1 = 0 := Decidable.byContradiction (fun h9 => absurd ((congrArg Prod.fst (show ((F5_sort u (F5_brand u bb 0) nn).1, (0 : Int32), u) = tgt from by rw [← hF, FL_acts, if_neg c_1, if_neg c_8, if_neg c_20, if_neg c_32, if_neg c_39, if_neg c_45, if_neg c_58, if_pos c_74, if_neg c_81, if_neg h9])).trans h0) h9)
                    refine bcall_Wi (va_runV (As := [.int (F5_brand u bb 0), .int nn]) (rest := []) ⟨hx, hb, hml, hown, hts⟩ (C5_sort l D cI cO q _ _ hq hP (F5_brand u bb 0) nn hlat c_82) (cwV 2 hts gL_acts_X5_sort rfl rfl rfl ⟨rfl, bd_X5sort⟩ ⟨Nat.le_of_ble_eq_true rfl, Nat.le_of_ble_eq_true rfl⟩) (bPV hk (va_recv hk.1 hP (ci := 5) (q0 := 0) rfl (wC_0 _ _ _ _))) rfl rfl hl.1 rfl (lv_room (Nat.le_of_ble_eq_true rfl)) dL_acts_709 ⟨Nat.zero_le _, Nat.zero_le _⟩) hS (fun H locs hP _ hS => ?_)
                    refine lv_iload hx hb dL_acts_712 (lv_at hl 7 rfl) ?_
                    refine lv_iload hx hb dL_acts_714 (lv_at hl 6 rfl) ?_
                    refine lv_isub hx hb dL_acts_716 ?_
                    refine lv_icmp_ne (tgt := 724) hx hb dL_acts_717 (by decide) (fun c_83 => ?_) (fun c_83 => ?_)
                    · refine lv_iconst (v := 0) hx hb dL_acts_724 (by decide) ?_
                      exact bret_Yz hx hb hr hP hS hlocks dL_acts_725 (Or.inl rfl) (by rw [← hF, FL_acts, if_neg c_1, if_neg c_8, if_neg c_20, if_neg c_32, if_neg c_39, if_neg c_45, if_neg c_58, if_pos c_74, if_neg c_81, if_pos c_82, if_neg c_83])
                    · refine lv_iconst (v := 1) hx hb dL_acts_720 (by decide) ?_
                      refine lv_goto (tgt := 725) hx hb dL_acts_721 (by decide) ?_
                      exact bret_Yz hx hb hr hP hS hlocks dL_acts_725 (Or.inr rfl) (by rw [← hF, FL_acts, if_neg c_1, if_neg c_8, if_neg c_20, if_neg c_32, if_neg c_39, if_neg c_45, if_neg c_58, if_pos c_74, if_neg c_81, if_pos c_82, if_pos c_83])

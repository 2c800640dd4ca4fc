theorem bd_X5isBrand : yX5_isBrand.cls ≠ "java/lang/invoke/MethodHandle" ∧ yX5_isBrand.cls ≠ "java/lang/invoke/VarHandle" ∧ (parseMethodDescriptor yX5_isBrand.desc).map (fun d => d.parameters.length) = some 1 := by decide +kernel
theorem bd_X5isShop : yX5_isShop.cls ≠ "java/lang/invoke/MethodHandle" ∧ yX5_isShop.cls ≠ "java/lang/invoke/VarHandle" ∧ (parseMethodDescriptor yX5_isShop.desc).map (fun d => d.parameters.length) = some 1 := by decide +kernel
theorem bd_X5needArgument : yX5_needArgument.cls ≠ "java/lang/invoke/MethodHandle" ∧ yX5_needArgument.cls ≠ "java/lang/invoke/VarHandle" ∧ (parseMethodDescriptor yX5_needArgument.desc).map (fun d => d.parameters.length) = some 1 := by decide +kernel
theorem bd_X5needRange : yX5_needRange.cls ≠ "java/lang/invoke/MethodHandle" ∧ yX5_needRange.cls ≠ "java/lang/invoke/VarHandle" ∧ (parseMethodDescriptor yX5_needRange.desc).map (fun d => d.parameters.length) = some 3 := by decide +kernel
def F5_needArgument (a1 : Int32) : Int32 := (if a1 = 0 then 2 else 0)
set_option maxHeartbeats 4000000 in
set_option maxRecDepth 100000 in
theorem C5_needArgument (l : Launch) (D : va_G) (cI cO : ClassId) (q : Nat → Nat) (H0 : Heap) (a1 : Int32) (h0 : (F5_needArgument a1) = 0) : Met l yX5_needArgument wsX5_needArgument ({ frames := 0, cells := 0, slots := 0, locals := 0 }) (bP D [(cI, .int), (cO, .object RX2)] H0 [.int a1]) (bRv H0) 0 0 (fun _ => False) := by
  refine Met.ofW (cc := cX5_needArgument) (maxL := 1) (ret := none) (by decide) rfl ?_
  intro p e s m args below meth c s₁ B hml hv
  obtain ⟨rfl, hH, hk⟩ := hv
  subst hH
  have hx := B.exec
  have hb := B.bytes
  have hr := B.returns
  have hts := atoms_spec (ws := wsX5_needArgument) B.pre
  have hown : s.vm.findClass RX5 = some m.cls := findClass_of_methodNamed B.named
  have hlocks := B.notSynchronized
  have hS : va_S (fun _ => False) s.heap s.heap [] := va_S.rf
  have hl := lv_entry ([.int a1]) (n := 1) (Nat.le_of_ble_eq_true rfl)
  rw [lg_entry_eq]
  generalize (lg_sl ([.int a1]) ++ List.replicate (1 - (lg_sl ([.int a1])).length) Slot.unset).toArray = ls at hl ⊢
  have hl : lv_has ls 1 [(0, .int a1)] := hl
  generalize hF : F5_needArgument a1 = tgt at h0 ⊢
  refine lv_iload_n hx hb dX5_needArgument_0 rfl (lv_at hl 0 rfl) ?_
  refine lv_if_ne (tgt := 15) hx hb dX5_needArgument_1 (by decide) (fun c_1 => ?_) (fun c_1 => ?_)
  · exact bret_Rv hx hb hr hS hlocks dX5_needArgument_15
  · exact absurd ((show (2 : Int32) = tgt from (by rw [← hF, F5_needArgument, if_pos c_1])).trans h0) (by decide)
def F5_needState (a1 : Int32) : Int32 := (if a1 = 0 then 3 else 0)
set_option maxHeartbeats 4000000 in
set_option maxRecDepth 100000 in
theorem C5_needState (l : Launch) (D : va_G) (cI cO : ClassId) (q : Nat → Nat) (H0 : Heap) (a1 : Int32) (h0 : (F5_needState a1) = 0) : Met l yX5_needState wsX5_needState ({ frames := 0, cells := 0, slots := 0, locals := 0 }) (bP D [(cI, .int), (cO, .object RX2)] H0 [.int a1]) (bRv H0) 0 0 (fun _ => False) := by
  refine Met.ofW (cc := cX5_needState) (maxL := 1) (ret := none) (by decide) rfl ?_
  intro p e s m args below meth c s₁ B hml hv
  obtain ⟨rfl, hH, hk⟩ := hv
  subst hH
  have hx := B.exec
  have hb := B.bytes
  have hr := B.returns
  have hts := atoms_spec (ws := wsX5_needState) B.pre
  have hown : s.vm.findClass RX5 = some m.cls := findClass_of_methodNamed B.named
  have hlocks := B.notSynchronized
  have hS : va_S (fun _ => False) s.heap s.heap [] := va_S.rf
  have hl := lv_entry ([.int a1]) (n := 1) (Nat.le_of_ble_eq_true rfl)
  rw [lg_entry_eq]
  generalize (lg_sl ([.int a1]) ++ List.replicate (1 - (lg_sl ([.int a1])).length) Slot.unset).toArray = ls at hl ⊢
  have hl : lv_has ls 1 [(0, .int a1)] := hl
  generalize hF : F5_needState a1 = tgt at h0 ⊢
  refine lv_iload_n hx hb dX5_needState_0 rfl (lv_at hl 0 rfl) ?_
  refine lv_if_ne (tgt := 15) hx hb dX5_needState_1 (by decide) (fun c_1 => ?_) (fun c_1 => ?_)
  · exact bret_Rv hx hb hr hS hlocks dX5_needState_15
  · exact absurd ((show (3 : Int32) = tgt from (by rw [← hF, F5_needState, if_pos c_1])).trans h0) (by decide)
def F5_needRange (a1 : Int32) (a2 : Int32) (a3 : Int32) : Int32 := (if a1 < a2 then (if (F5_needArgument 0) = 0 then 0 else (F5_needArgument 0)) else (if a3 < a1 then (if (F5_needArgument 0) = 0 then 0 else (F5_needArgument 0)) else 0))
set_option maxHeartbeats 4000000 in
set_option maxRecDepth 100000 in
theorem C5_needRange (l : Launch) (D : va_G) (cI cO : ClassId) (q : Nat → Nat) (H0 : Heap) (a1 : Int32) (a2 : Int32) (a3 : Int32) (h0 : (F5_needRange a1 a2 a3) = 0) : Met l yX5_needRange wsX5_needRange ({ frames := 1, cells := 0, slots := 0, locals := 20 }) (bP D [(cI, .int), (cO, .object RX2)] H0 [.int a1, .int a2, .int a3]) (bRv H0) 0 0 (fun _ => False) := by
  refine Met.ofW (cc := cX5_needRange) (maxL := 3) (ret := none) (by decide) rfl ?_
  intro p e s m args below meth c s₁ B hml hv
  obtain ⟨rfl, hH, hk⟩ := hv
  subst hH
  have hx := B.exec
  have hb := B.bytes
  have hr := B.returns
  have hts := atoms_spec (ws := wsX5_needRange) B.pre
  have hown : s.vm.findClass RX5 = some m.cls := findClass_of_methodNamed B.named
  have hlocks := B.notSynchronized
  have hS : va_S (fun _ => False) s.heap s.heap [] := va_S.rf
  have hl := lv_entry ([.int a1, .int a2, .int a3]) (n := 3) (Nat.le_of_ble_eq_true rfl)
  rw [lg_entry_eq]
  generalize (lg_sl ([.int a1, .int a2, .int a3]) ++ List.replicate (3 - (lg_sl ([.int a1, .int a2, .int a3])).length) Slot.unset).toArray = ls at hl ⊢
  have hl : lv_has ls 3 [(0, .int a1), (1, .int a2), (2, .int a3)] := hl
  generalize hF : F5_needRange a1 a2 a3 = tgt at h0 ⊢
  refine lv_iload_n hx hb dX5_needRange_0 rfl (lv_at hl 0 rfl) ?_
  refine lv_iload_n hx hb dX5_needRange_1 rfl (lv_at hl 1 rfl) ?_
  refine lv_icmp_lt (tgt := 14) hx hb dX5_needRange_2 (by decide) (fun c_1 => ?_) (fun c_1 => ?_)
  · refine lv_iconst (v := 0) hx hb dX5_needRange_14 (by decide) ?_
    have c_2 : (F5_needArgument 0) = 0 := Decidable.byContradiction (fun h9 => absurd ((show (F5_needArgument 0) = tgt from by rw [← hF, F5_needRange, if_pos c_1, if_neg h9]).trans h0) h9)
    exact absurd c_2 (by decide)
  · refine lv_iload_n hx hb dX5_needRange_5 rfl (lv_at hl 0 rfl) ?_
    refine lv_iload_n hx hb dX5_needRange_6 rfl (lv_at hl 2 rfl) ?_
    refine lv_icmp_gt (tgt := 14) hx hb dX5_needRange_7 (by decide) (fun c_3 => ?_) (fun c_3 => ?_)
    · refine lv_iconst (v := 0) hx hb dX5_needRange_14 (by decide) ?_
      have c_4 : (F5_needArgument 0) = 0 := Decidable.byContradiction (fun h9 => absurd ((show (F5_needArgument 0) = tgt from by rw [← hF, F5_needRange, if_neg c_1, if_pos c_3, if_neg h9]).trans h0) h9)
      exact absurd c_4 (by decide)
    · refine lv_iconst (v := 1) hx hb dX5_needRange_10 (by decide) ?_
      refine lv_goto (tgt := 15) hx hb dX5_needRange_11 (by decide) ?_
      refine bcall_Rv (va_runS (As := [.int 1]) (rest := []) ⟨hx, hb, hml, hown, hts⟩ (C5_needArgument l D cI cO q _ 1 (by decide)) (va_cwS 1 hts gX5_needRange_X5_needArgument rfl rfl rfl bd_X5needArgument ⟨Nat.le_of_ble_eq_true rfl, Nat.le_of_ble_eq_true rfl⟩) (bPS hk) rfl rfl hl.1 rfl (lv_room (Nat.le_of_ble_eq_true rfl)) dX5_needRange_15 ⟨Nat.zero_le _, Nat.zero_le _⟩) hS (fun locs hS => ?_)
      exact bret_Rv hx hb hr hS hlocks dX5_needRange_18
def F5_needKind (a1 : Int32) : Int32 := (if (F5_needRange a1 0 2) = 0 then 0 else (F5_needRange a1 0 2))
set_option maxHeartbeats 4000000 in
set_option maxRecDepth 100000 in
theorem C5_needKind (l : Launch) (D : va_G) (cI cO : ClassId) (q : Nat → Nat) (H0 : Heap) (a1 : Int32) (h0 : (F5_needKind a1) = 0) : Met l yX5_needKind wsX5_needKind ({ frames := 2, cells := 0, slots := 0, locals := 42 }) (bP D [(cI, .int), (cO, .object RX2)] H0 [.int a1]) (bRv H0) 0 0 (fun _ => False) := by
  refine Met.ofW (cc := cX5_needKind) (maxL := 1) (ret := none) (by decide) rfl ?_
  intro p e s m args below meth c s₁ B hml hv
  obtain ⟨rfl, hH, hk⟩ := hv
  subst hH
  have hx := B.exec
  have hb := B.bytes
  have hr := B.returns
  have hts := atoms_spec (ws := wsX5_needKind) B.pre
  have hown : s.vm.findClass RX5 = some m.cls := findClass_of_methodNamed B.named
  have hlocks := B.notSynchronized
  have hS : va_S (fun _ => False) s.heap s.heap [] := va_S.rf
  have hl := lv_entry ([.int a1]) (n := 1) (Nat.le_of_ble_eq_true rfl)
  rw [lg_entry_eq]
  generalize (lg_sl ([.int a1]) ++ List.replicate (1 - (lg_sl ([.int a1])).length) Slot.unset).toArray = ls at hl ⊢
  have hl : lv_has ls 1 [(0, .int a1)] := hl
  generalize hF : F5_needKind a1 = tgt at h0 ⊢
  refine lv_iload_n hx hb dX5_needKind_0 rfl (lv_at hl 0 rfl) ?_
  refine lv_iconst (v := 0) hx hb dX5_needKind_1 (by decide) ?_
  refine lv_iconst (v := 2) hx hb dX5_needKind_2 (by decide) ?_
  have c_1 : (F5_needRange a1 0 2) = 0 := Decidable.byContradiction (fun h9 => absurd ((show (F5_needRange a1 0 2) = tgt from by rw [← hF, F5_needKind, if_neg h9]).trans h0) h9)
  refine bcall_Rv (va_runS (As := [.int a1, .int 0, .int 2]) (rest := []) ⟨hx, hb, hml, hown, hts⟩ (C5_needRange l D cI cO q _ a1 0 2 c_1) (va_cwS 3 hts gX5_needKind_X5_needRange rfl rfl rfl bd_X5needRange ⟨Nat.le_of_ble_eq_true rfl, Nat.le_of_ble_eq_true rfl⟩) (bPS hk) rfl rfl hl.1 rfl (lv_room (Nat.le_of_ble_eq_true rfl)) dX5_needKind_3 ⟨Nat.zero_le _, Nat.zero_le _⟩) hS (fun locs hS => ?_)
  exact bret_Rv hx hb hr hS hlocks dX5_needKind_6
def F5_needSetting (a1 : Int32) : Int32 := (if a1 < 0 then 1 else (if a1 < (6 : Int32) then 0 else 1))
set_option maxHeartbeats 4000000 in
set_option maxRecDepth 100000 in
theorem C5_needSetting (l : Launch) (D : va_G) (cI cO : ClassId) (q : Nat → Nat) (H0 : Heap) (a1 : Int32) (h0 : (F5_needSetting a1) = 0) : Met l yX5_needSetting wsX5_needSetting ({ frames := 0, cells := 0, slots := 0, locals := 0 }) (bP D [(cI, .int), (cO, .object RX2)] H0 [.int a1]) (bRv H0) 0 0 (fun _ => False) := by
  refine Met.ofW (cc := cX5_needSetting) (maxL := 1) (ret := none) (by decide) rfl ?_
  intro p e s m args below meth c s₁ B hml hv
  obtain ⟨rfl, hH, hk⟩ := hv
  subst hH
  have hx := B.exec
  have hb := B.bytes
  have hr := B.returns
  have hts := atoms_spec (ws := wsX5_needSetting) B.pre
  have hown : s.vm.findClass RX5 = some m.cls := findClass_of_methodNamed B.named
  have hlocks := B.notSynchronized
  have hS : va_S (fun _ => False) s.heap s.heap [] := va_S.rf
  have hl := lv_entry ([.int a1]) (n := 1) (Nat.le_of_ble_eq_true rfl)
  rw [lg_entry_eq]
  generalize (lg_sl ([.int a1]) ++ List.replicate (1 - (lg_sl ([.int a1])).length) Slot.unset).toArray = ls at hl ⊢
  have hl : lv_has ls 1 [(0, .int a1)] := hl
  generalize hF : F5_needSetting a1 = tgt at h0 ⊢
  refine lv_iload_n hx hb dX5_needSetting_0 rfl (lv_at hl 0 rfl) ?_
  refine lv_if_lt (tgt := 10) hx hb dX5_needSetting_1 (by decide) (fun c_1 => ?_) (fun c_1 => ?_)
  · exact absurd ((show (1 : Int32) = tgt from (by rw [← hF, F5_needSetting, if_pos c_1])).trans h0) (by decide)
  · refine lv_iload_n hx hb dX5_needSetting_4 rfl (lv_at hl 0 rfl) ?_
    refine lv_bipush (v := 6) hx hb dX5_needSetting_5 (by decide) ?_
    refine lv_icmp_lt (tgt := 21) hx hb dX5_needSetting_7 (by decide) (fun c_2 => ?_) (fun c_2 => ?_)
    · exact bret_Rv hx hb hr hS hlocks dX5_needSetting_21
    · exact absurd ((show (1 : Int32) = tgt from (by rw [← hF, F5_needSetting, if_neg c_1, if_neg c_2])).trans h0) (by decide)
def F5_needBrand (u : bU) (a1 : Int32) : Int32 := (if (F5_isBrand u a1) = 0 then 1 else 0)
set_option maxHeartbeats 4000000 in
set_option maxRecDepth 100000 in
theorem C5_needBrand (l : Launch) (D : va_G) (cI cO : ClassId) (q : Nat → Nat) (u : bU) (H0 : Heap) (hP : va_P D vwCl (wC cI cO q u) H0) (a1 : Int32) (h0 : (F5_needBrand u a1) = 0) : Met l yX5_needBrand wsX5_needBrand ({ frames := 3, cells := 0, slots := 0, locals := 63 }) (bP D [(cI, .int), (cO, .object RX2)] H0 [.ref (q 0), .int a1]) (bRv H0) 0 0 (fun _ => False) := by
  refine Met.ofW (cc := cX5_needBrand) (maxL := 2) (ret := none) (by decide) rfl ?_
  intro p e s m args below meth c s₁ B hml hv
  obtain ⟨rfl, hH, hk⟩ := hv
  subst hH
  have hx := B.exec
  have hb := B.bytes
  have hr := B.returns
  have hts := atoms_spec (ws := wsX5_needBrand) B.pre
  have hown : s.vm.findClass RX5 = some m.cls := findClass_of_methodNamed B.named
  have hlocks := B.notSynchronized
  have hS : va_S (fun _ => False) s.heap s.heap [] := va_S.rf
  have hl := lv_entry ([.ref (q 0), .int a1]) (n := 2) (Nat.le_of_ble_eq_true rfl)
  rw [lg_entry_eq]
  generalize (lg_sl ([.ref (q 0), .int a1]) ++ List.replicate (2 - (lg_sl ([.ref (q 0), .int a1])).length) Slot.unset).toArray = ls at hl ⊢
  have hl : lv_has ls 2 [(0, .ref (q 0)), (1, .int a1)] := hl
  generalize hF : F5_needBrand u a1 = tgt at h0 ⊢
  refine lv_aload_n hx hb dX5_needBrand_0 rfl (lv_at hl 0 rfl) ?_
  refine lv_iload_n hx hb dX5_needBrand_1 rfl (lv_at hl 1 rfl) ?_
  refine bcall_Ri (va_runV (As := [.int a1]) (rest := []) ⟨hx, hb, hml, hown, hts⟩ (C5_isBrand l D cI cO q _ _ hP a1) (cwV 1 hts gX5_needBrand_X5_isBrand rfl rfl rfl ⟨rfl, bd_X5isBrand⟩ ⟨Nat.le_of_ble_eq_true rfl, Nat.le_of_ble_eq_true rfl⟩) (bPV hk (va_recv hk.1 hP (ci := 5) (q0 := 0) rfl (wC_0 _ _ _ _))) rfl rfl hl.1 rfl (lv_room (Nat.le_of_ble_eq_true rfl)) dX5_needBrand_2 ⟨Nat.zero_le _, Nat.zero_le _⟩) hS (fun locs hS => ?_)
  refine lv_if_ne (tgt := 19) hx hb dX5_needBrand_5 (by decide) (fun c_1 => ?_) (fun c_1 => ?_)
  · exact bret_Rv hx hb hr hS hlocks dX5_needBrand_19
  · exact absurd ((show (1 : Int32) = tgt from (by rw [← hF, F5_needBrand, if_pos c_1])).trans h0) (by decide)
def F5_needShop (u : bU) (a1 : Int32) : Int32 := (if (F5_isShop u a1) = 0 then 1 else 0)
set_option maxHeartbeats 4000000 in
set_option maxRecDepth 100000 in
theorem C5_needShop (l : Launch) (D : va_G) (cI cO : ClassId) (q : Nat → Nat) (u : bU) (H0 : Heap) (hP : va_P D vwCl (wC cI cO q u) H0) (a1 : Int32) (h0 : (F5_needShop u a1) = 0) : Met l yX5_needShop wsX5_needShop ({ frames := 3, cells := 0, slots := 0, locals := 63 }) (bP D [(cI, .int), (cO, .object RX2)] H0 [.ref (q 0), .int a1]) (bRv H0) 0 0 (fun _ => False) := by
  refine Met.ofW (cc := cX5_needShop) (maxL := 2) (ret := none) (by decide) rfl ?_
  intro p e s m args below meth c s₁ B hml hv
  obtain ⟨rfl, hH, hk⟩ := hv
  subst hH
  have hx := B.exec
  have hb := B.bytes
  have hr := B.returns
  have hts := atoms_spec (ws := wsX5_needShop) B.pre
  have hown : s.vm.findClass RX5 = some m.cls := findClass_of_methodNamed B.named
  have hlocks := B.notSynchronized
  have hS : va_S (fun _ => False) s.heap s.heap [] := va_S.rf
  have hl := lv_entry ([.ref (q 0), .int a1]) (n := 2) (Nat.le_of_ble_eq_true rfl)
  rw [lg_entry_eq]
  generalize (lg_sl ([.ref (q 0), .int a1]) ++ List.replicate (2 - (lg_sl ([.ref (q 0), .int a1])).length) Slot.unset).toArray = ls at hl ⊢
  have hl : lv_has ls 2 [(0, .ref (q 0)), (1, .int a1)] := hl
  generalize hF : F5_needShop u a1 = tgt at h0 ⊢
  refine lv_aload_n hx hb dX5_needShop_0 rfl (lv_at hl 0 rfl) ?_
  refine lv_iload_n hx hb dX5_needShop_1 rfl (lv_at hl 1 rfl) ?_
  refine bcall_Ri (va_runV (As := [.int a1]) (rest := []) ⟨hx, hb, hml, hown, hts⟩ (C5_isShop l D cI cO q _ _ hP a1) (cwV 1 hts gX5_needShop_X5_isShop rfl rfl rfl ⟨rfl, bd_X5isShop⟩ ⟨Nat.le_of_ble_eq_true rfl, Nat.le_of_ble_eq_true rfl⟩) (bPV hk (va_recv hk.1 hP (ci := 5) (q0 := 0) rfl (wC_0 _ _ _ _))) rfl rfl hl.1 rfl (lv_room (Nat.le_of_ble_eq_true rfl)) dX5_needShop_2 ⟨Nat.zero_le _, Nat.zero_le _⟩) hS (fun locs hS => ?_)
  refine lv_if_ne (tgt := 19) hx hb dX5_needShop_5 (by decide) (fun c_1 => ?_) (fun c_1 => ?_)
  · exact bret_Rv hx hb hr hS hlocks dX5_needShop_19
  · exact absurd ((show (1 : Int32) = tgt from (by rw [← hF, F5_needShop, if_pos c_1])).trans h0) (by decide)

theorem bd_X2brandNumber : yX2_brandNumber.cls ≠ "java/lang/invoke/MethodHandle" ∧ yX2_brandNumber.cls ≠ "java/lang/invoke/VarHandle" ∧ (parseMethodDescriptor yX2_brandNumber.desc).map (fun d => d.parameters.length) = some 2 := by decide +kernel
theorem bd_X2get : yX2_get.cls ≠ "java/lang/invoke/MethodHandle" ∧ yX2_get.cls ≠ "java/lang/invoke/VarHandle" ∧ (parseMethodDescriptor yX2_get.desc).map (fun d => d.parameters.length) = some 1 := by decide +kernel
theorem bd_X2ofAll : yX2_ofAll.cls ≠ "java/lang/invoke/MethodHandle" ∧ yX2_ofAll.cls ≠ "java/lang/invoke/VarHandle" ∧ (parseMethodDescriptor yX2_ofAll.desc).map (fun d => d.parameters.length) = some 1 := by decide +kernel
theorem bd_X2ofBrand : yX2_ofBrand.cls ≠ "java/lang/invoke/MethodHandle" ∧ yX2_ofBrand.cls ≠ "java/lang/invoke/VarHandle" ∧ (parseMethodDescriptor yX2_ofBrand.desc).map (fun d => d.parameters.length) = some 2 := by decide +kernel
theorem bd_X2ofShop : yX2_ofShop.cls ≠ "java/lang/invoke/MethodHandle" ∧ yX2_ofShop.cls ≠ "java/lang/invoke/VarHandle" ∧ (parseMethodDescriptor yX2_ofShop.desc).map (fun d => d.parameters.length) = some 2 := by decide +kernel
theorem bd_X2overBrands : yX2_overBrands.cls ≠ "java/lang/invoke/MethodHandle" ∧ yX2_overBrands.cls ≠ "java/lang/invoke/VarHandle" ∧ (parseMethodDescriptor yX2_overBrands.desc).map (fun d => d.parameters.length) = some 1 := by decide +kernel
theorem bd_X2overBrandsOf : yX2_overBrandsOf.cls ≠ "java/lang/invoke/MethodHandle" ∧ yX2_overBrandsOf.cls ≠ "java/lang/invoke/VarHandle" ∧ (parseMethodDescriptor yX2_overBrandsOf.desc).map (fun d => d.parameters.length) = some 2 := by decide +kernel
theorem bd_X2overShops : yX2_overShops.cls ≠ "java/lang/invoke/MethodHandle" ∧ yX2_overShops.cls ≠ "java/lang/invoke/VarHandle" ∧ (parseMethodDescriptor yX2_overShops.desc).map (fun d => d.parameters.length) = some 1 := by decide +kernel
theorem bd_X2put : yX2_put.cls ≠ "java/lang/invoke/MethodHandle" ∧ yX2_put.cls ≠ "java/lang/invoke/VarHandle" ∧ (parseMethodDescriptor yX2_put.desc).map (fun d => d.parameters.length) = some 2 := by decide +kernel

/-- entry(row, at), of a row in the heap -/
def F5_entry (n : Nat) (f : Nat → Int32) (i : Int32) : Int32 := if i < 0 then 0 else if Int32.ofNat n ≤ i then 0 else f i.toNatClampNeg
set_option maxHeartbeats 4000000 in
set_option maxRecDepth 100000 in
theorem C5_entry (l : Launch) (D : va_G) (cI cO : ClassId) (q : Nat → Nat) (H0 : Heap) {n : Nat} {f : Nat → Int32} {a : Nat} (hP : va_P D vwCl [(a, .inl (cI, n, .inl f))] H0) (hn : n < 2 ^ 31) (i : Int32) : Met l yX5_entry wsX5_entry ({ frames := 0, cells := 0, slots := 0, locals := 0 }) (bP D [(cI, .int), (cO, .object RX2)] H0 [.ref a, .int i]) (bRi H0 (F5_entry n f i)) 0 0 (fun _ => False) := by
  refine Met.ofW (cc := cX5_entry) (maxL := 2) (ret := (some .int)) (by decide) rfl ?_
  intro p e s m args below meth c s₁ B hml hv
  obtain ⟨rfl, hH, hk⟩ := hv
  subst hH
  have hx := B.exec
  have hb := B.bytes
  have hr := B.returns
  have hlocks := B.notSynchronized
  have hS : va_S (fun _ => False) s.heap s.heap [] := va_S.rf
  have hl := lv_entry ([.ref a, .int i]) (n := 2) (Nat.le_of_ble_eq_true rfl)
  rw [lg_entry_eq]
  generalize (lg_sl ([.ref a, .int i]) ++ List.replicate (2 - (lg_sl ([.ref a, .int i])).length) Slot.unset).toArray = ls at hl ⊢
  have hl : lv_has ls 2 [(0, .ref a), (1, .int i)] := hl
  generalize hF : F5_entry n f i = tgt
  refine lv_aload_n hx hb dX5_entry_0 rfl (lv_at hl 0 rfl) ?_
  refine lv_ifnull hx hb dX5_entry_1 ?_
  refine lv_iload_n hx hb dX5_entry_4 rfl (lv_at hl 1 rfl) ?_
  refine lv_if_lt (tgt := 20) hx hb dX5_entry_5 (by decide) (fun c_1 => ?_) (fun c_1 => ?_)
  · refine lv_iconst (v := 0) hx hb dX5_entry_20 (by decide) ?_
    exact bret_Ri hx hb hr hS hlocks dX5_entry_21 (by rw [← hF, F5_entry, if_pos c_1])
  · refine lv_iload_n hx hb dX5_entry_8 rfl (lv_at hl 1 rfl) ?_
    refine lv_aload_n hx hb dX5_entry_9 rfl (lv_at hl 0 rfl) ?_
    refine va_alen (v := Int32.ofNat n) hx hb hk.1 hP 0 0 rfl rfl rfl dX5_entry_10 ?_
    refine lv_icmp_ge (tgt := 20) hx hb dX5_entry_11 (by decide) (fun c_2 => ?_) (fun c_2 => ?_)
    · refine lv_iconst (v := 0) hx hb dX5_entry_20 (by decide) ?_
      exact bret_Ri hx hb hr hS hlocks dX5_entry_21 (by rw [← hF, F5_entry, if_neg c_1, if_pos c_2])
    · refine lv_aload_n hx hb dX5_entry_14 rfl (lv_at hl 0 rfl) ?_
      refine lv_iload_n hx hb dX5_entry_15 rfl (lv_at hl 1 rfl) ?_
      refine va_iald hx hb hk.1 hP 0 0 rfl rfl (bIn c_1 c_2 hn) dX5_entry_16 ?_
      refine lv_goto (tgt := 21) hx hb dX5_entry_17 (by decide) ?_
      exact bret_Ri hx hb hr hS hlocks dX5_entry_21 (by rw [← hF, F5_entry, if_neg c_1, if_neg c_2])

def F2_get (u : bU) (a1 : Int32) : Int32 := (if a1 < 0 then 0 else (if (345 : Int32) ≤ a1 then 0 else (u 0 a1.toNatClampNeg)))
set_option maxHeartbeats 4000000 in
set_option maxRecDepth 100000 in
theorem C2_get (l : Launch) (D : va_G) (cI cO : ClassId) (q : Nat → Nat) (u : bU) (H0 : Heap) (hP : va_P D vwCl (wC cI cO q u) H0) (a1 : Int32) : Met l yX2_get wsX2_get ({ frames := 0, cells := 0, slots := 0, locals := 0 }) (bP D [(cI, .int), (cO, .object RX2)] H0 [.ref (q 3), .int a1]) (bRi H0 (F2_get u a1)) 0 0 (fun _ => False) := by
  refine Met.ofW (cc := cX2_get) (maxL := 2) (ret := (some .int)) (by decide) rfl ?_
  intro p e s m args below meth c s₁ B hml hv
  obtain ⟨rfl, hH, hk⟩ := hv
  subst hH
  have hx := B.exec
  have hb := B.bytes
  have hr := B.returns
  have hts := atoms_spec (ws := wsX2_get) B.pre
  have hown : s.vm.findClass RX2 = some m.cls := findClass_of_methodNamed B.named
  have hlocks := B.notSynchronized
  have iX2 : ∀ w ∈ wsX20, w ∈ wsX2_get := by decide +kernel
  have hS : va_S (fun _ => False) s.heap s.heap [] := va_S.rf
  have hl := lv_entry ([.ref (q 3), .int a1]) (n := 2) (Nat.le_of_ble_eq_true rfl)
  rw [lg_entry_eq]
  generalize (lg_sl ([.ref (q 3), .int a1]) ++ List.replicate (2 - (lg_sl ([.ref (q 3), .int a1])).length) Slot.unset).toArray = ls at hl ⊢
  have hl : lv_has ls 2 [(0, .ref (q 3)), (1, .int a1)] := hl
  generalize hF : F2_get u a1 = tgt
  refine lv_iload_n hx hb dX2_get_0 rfl (lv_at hl 1 rfl) ?_
  refine lv_if_lt (tgt := 22) hx hb dX2_get_1 (by decide) (fun c_1 => ?_) (fun c_1 => ?_)
  · refine lv_iconst (v := 0) hx hb dX2_get_22 (by decide) ?_
    exact bret_Ri hx hb hr hS hlocks dX2_get_23 (by rw [← hF, F2_get, if_pos c_1])
  · refine lv_iload_n hx hb dX2_get_4 rfl (lv_at hl 1 rfl) ?_
    refine lv_aload_n hx hb dX2_get_5 rfl (lv_at hl 0 rfl) ?_
    refine va_get (D := D) (ci := 2) (C := RX2) (T := TX2) (N := 1) hx hb hts iX2 hown hk.1 hP 3 (wC_3 _ _ _ _) rfl 0 (by decide) (hts (.fieldLink RX2 11 "BottleLoop$State" "cells" "[I") (List.mem_of_getElem? (i := 1) rfl)) (fun _ h9 => h9) rfl dX2_get_6 ?_
    refine va_alen (v := 345) hx hb hk.1 hP 4 0 (wC_4 _ _ _ _) rfl rfl dX2_get_9 ?_
    refine lv_icmp_ge (tgt := 22) hx hb dX2_get_10 (by decide) (fun c_2 => ?_) (fun c_2 => ?_)
    · refine lv_iconst (v := 0) hx hb dX2_get_22 (by decide) ?_
      exact bret_Ri hx hb hr hS hlocks dX2_get_23 (by rw [← hF, F2_get, if_neg c_1, if_pos c_2])
    · refine lv_aload_n hx hb dX2_get_13 rfl (lv_at hl 0 rfl) ?_
      refine va_get (D := D) (ci := 2) (C := RX2) (T := TX2) (N := 1) hx hb hts iX2 hown hk.1 hP 3 (wC_3 _ _ _ _) rfl 0 (by decide) (hts (.fieldLink RX2 11 "BottleLoop$State" "cells" "[I") (List.mem_of_getElem? (i := 1) rfl)) (fun _ h9 => h9) rfl dX2_get_14 ?_
      refine lv_iload_n hx hb dX2_get_17 rfl (lv_at hl 1 rfl) ?_
      refine va_iald hx hb hk.1 hP 4 0 (wC_4 _ _ _ _) rfl (bIn c_1 c_2 (by decide)) dX2_get_18 ?_
      refine lv_goto (tgt := 23) hx hb dX2_get_19 (by decide) ?_
      exact bret_Ri hx hb hr hS hlocks dX2_get_23 (by rw [← hF, F2_get, if_neg c_1, if_neg c_2])
def F2_put (u : bU) (a1 : Int32) (a2 : Int32) : bU := (if a1 < 0 then u else (if (345 : Int32) ≤ a1 then u else (bput u 0 a1.toNatClampNeg a2)))
set_option maxHeartbeats 4000000 in
set_option maxRecDepth 100000 in
theorem C2_put (l : Launch) (D : va_G) (cI cO : ClassId) (q : Nat → Nat) (u : bU) (H0 : Heap) (hq : bInj 23 q) (hP : va_P D vwCl (wC cI cO q u) H0) (a1 : Int32) (a2 : Int32) : Met l yX2_put wsX2_put ({ frames := 0, cells := 0, slots := 0, locals := 0 }) (bP D [(cI, .int), (cO, .object RX2)] H0 [.ref (q 3), .int a1, .int a2]) (bWv D (wC cI cO q) bT (bA 23 q H0.size) (F2_put u a1 a2)) 0 0 (bA 23 q H0.size) := by
  refine Met.ofW (cc := cX2_put) (maxL := 3) (ret := none) (by decide) rfl ?_
  intro p e s m args below meth c s₁ B hml hv
  obtain ⟨rfl, hH, hk⟩ := hv
  subst hH
  have hx := B.exec
  have hb := B.bytes
  have hr := B.returns
  have hts := atoms_spec (ws := wsX2_put) B.pre
  have hown : s.vm.findClass RX2 = some m.cls := findClass_of_methodNamed B.named
  have hlocks := B.notSynchronized
  have iX2 : ∀ w ∈ wsX20, w ∈ wsX2_put := by decide +kernel
  have hS : va_S (bA 23 q s.heap.size) s.heap s.heap [] := va_S.rf
  have hl := lv_entry ([.ref (q 3), .int a1, .int a2]) (n := 3) (Nat.le_of_ble_eq_true rfl)
  rw [lg_entry_eq]
  generalize (lg_sl ([.ref (q 3), .int a1, .int a2]) ++ List.replicate (3 - (lg_sl ([.ref (q 3), .int a1, .int a2])).length) Slot.unset).toArray = ls at hl ⊢
  have hl : lv_has ls 3 [(0, .ref (q 3)), (1, .int a1), (2, .int a2)] := hl
  generalize hF : F2_put u a1 a2 = tgt
  refine lv_iload_n hx hb dX2_put_0 rfl (lv_at hl 1 rfl) ?_
  refine lv_if_lt (tgt := 20) hx hb dX2_put_1 (by decide) (fun c_1 => ?_) (fun c_1 => ?_)
  · exact bret_Wv hx hb hr hP trivial hS hlocks dX2_put_20 (by rw [← hF, F2_put, if_pos c_1])
  · refine lv_iload_n hx hb dX2_put_4 rfl (lv_at hl 1 rfl) ?_
    refine lv_aload_n hx hb dX2_put_5 rfl (lv_at hl 0 rfl) ?_
    refine va_get (D := D) (ci := 2) (C := RX2) (T := TX2) (N := 1) hx hb hts iX2 hown hk.1 hP 3 (wC_3 _ _ _ _) rfl 0 (by decide) (hts (.fieldLink RX2 11 "BottleLoop$State" "cells" "[I") (List.mem_of_getElem? (i := 1) rfl)) (fun _ h9 => h9) rfl dX2_put_6 ?_
    refine va_alen (v := 345) hx hb hk.1 hP 4 0 (wC_4 _ _ _ _) rfl rfl dX2_put_9 ?_
    refine lv_icmp_ge (tgt := 20) hx hb dX2_put_10 (by decide) (fun c_2 => ?_) (fun c_2 => ?_)
    · exact bret_Wv hx hb hr hP trivial hS hlocks dX2_put_20 (by rw [← hF, F2_put, if_neg c_1, if_pos c_2])
    · refine lv_aload_n hx hb dX2_put_13 rfl (lv_at hl 0 rfl) ?_
      refine va_get (D := D) (ci := 2) (C := RX2) (T := TX2) (N := 1) hx hb hts iX2 hown hk.1 hP 3 (wC_3 _ _ _ _) rfl 0 (by decide) (hts (.fieldLink RX2 11 "BottleLoop$State" "cells" "[I") (List.mem_of_getElem? (i := 1) rfl)) (fun _ h9 => h9) rfl dX2_put_14 ?_
      refine lv_iload_n hx hb dX2_put_17 rfl (lv_at hl 1 rfl) ?_
      refine lv_iload_n hx hb dX2_put_18 rfl (lv_at hl 2 rfl) ?_
      refine va_iast hx hb hk.1 hP (wC_D hq) hS 4 0 (wC_4 _ _ _ _) rfl (bIn c_1 c_2 (by decide)) dX2_put_19 (fun H locs hP _ hS => ?_)
      have hP : va_P D vwCl (wC cI cO q (bput u 0 a1.toNatClampNeg a2)) H := hP
      exact bret_Wv hx hb hr hP trivial hS hlocks dX2_put_20 (by rw [← hF, F2_put, if_neg c_1, if_neg c_2])
def F2_ofAll (u : bU) (a1 : Int32) : Int32 := (F2_get u a1)
set_option maxHeartbeats 4000000 in
set_option maxRecDepth 100000 in
theorem C2_ofAll (l : Launch) (D : va_G) (cI cO : ClassId) (q : Nat → Nat) (u : bU) (H0 : Heap) (hP : va_P D vwCl (wC cI cO q u) H0) (a1 : Int32) : Met l yX2_ofAll wsX2_ofAll ({ frames := 1, cells := 0, slots := 0, locals := 21 }) (bP D [(cI, .int), (cO, .object RX2)] H0 [.ref (q 3), .int a1]) (bRi H0 (F2_ofAll u a1)) 0 0 (fun _ => False) := by
  refine Met.ofW (cc := cX2_ofAll) (maxL := 2) (ret := (some .int)) (by decide) rfl ?_
  intro p e s m args below meth c s₁ B hml hv
  obtain ⟨rfl, hH, hk⟩ := hv
  subst hH
  have hx := B.exec
  have hb := B.bytes
  have hr := B.returns
  have hts := atoms_spec (ws := wsX2_ofAll) B.pre
  have hown : s.vm.findClass RX2 = some m.cls := findClass_of_methodNamed B.named
  have hlocks := B.notSynchronized
  have hS : va_S (fun _ => False) s.heap s.heap [] := va_S.rf
  have hl := lv_entry ([.ref (q 3), .int a1]) (n := 2) (Nat.le_of_ble_eq_true rfl)
  rw [lg_entry_eq]
  generalize (lg_sl ([.ref (q 3), .int a1]) ++ List.replicate (2 - (lg_sl ([.ref (q 3), .int a1])).length) Slot.unset).toArray = ls at hl ⊢
  have hl : lv_has ls 2 [(0, .ref (q 3)), (1, .int a1)] := hl
  generalize hF : F2_ofAll u a1 = tgt
  refine lv_aload_n hx hb dX2_ofAll_0 rfl (lv_at hl 0 rfl) ?_
  refine lv_iload_n hx hb dX2_ofAll_1 rfl (lv_at hl 1 rfl) ?_
  refine bcall_Ri (va_runV (As := [.int a1]) (rest := []) ⟨hx, hb, hml, hown, hts⟩ (C2_get l D cI cO q _ _ hP a1) (cwV 1 hts gX2_ofAll_X2_get rfl rfl rfl ⟨rfl, bd_X2get⟩ ⟨Nat.le_of_ble_eq_true rfl, Nat.le_of_ble_eq_true rfl⟩) (bPV hk (va_recv hk.1 hP (ci := 2) (q0 := 3) rfl (wC_3 _ _ _ _))) rfl rfl hl.1 rfl (lv_room (Nat.le_of_ble_eq_true rfl)) dX2_ofAll_2 ⟨Nat.zero_le _, Nat.zero_le _⟩) hS (fun locs hS => ?_)
  exact bret_Ri hx hb hr hS hlocks dX2_ofAll_5 (by rw [← hF, F2_ofAll])
def F2_addToAll (u : bU) (a1 : Int32) (a2 : Int32) : bU := (F2_put u a1 ((F2_get u a1) + a2))
set_option maxHeartbeats 4000000 in
set_option maxRecDepth 100000 in
theorem C2_addToAll (l : Launch) (D : va_G) (cI cO : ClassId) (q : Nat → Nat) (u : bU) (H0 : Heap) (hq : bInj 23 q) (hP : va_P D vwCl (wC cI cO q u) H0) (a1 : Int32) (a2 : Int32) : Met l yX2_addToAll wsX2_addToAll ({ frames := 1, cells := 0, slots := 0, locals := 22 }) (bP D [(cI, .int), (cO, .object RX2)] H0 [.ref (q 3), .int a1, .int a2]) (bWv D (wC cI cO q) bT (bA 23 q H0.size) (F2_addToAll u a1 a2)) 0 0 (bA 23 q H0.size) := by
  refine Met.ofW (cc := cX2_addToAll) (maxL := 3) (ret := none) (by decide) rfl ?_
  intro p e s m args below meth c s₁ B hml hv
  obtain ⟨rfl, hH, hk⟩ := hv
  subst hH
  have hx := B.exec
  have hb := B.bytes
  have hr := B.returns
  have hts := atoms_spec (ws := wsX2_addToAll) B.pre
  have hown : s.vm.findClass RX2 = some m.cls := findClass_of_methodNamed B.named
  have hlocks := B.notSynchronized
  have hS : va_S (bA 23 q s.heap.size) s.heap s.heap [] := va_S.rf
  have hl := lv_entry ([.ref (q 3), .int a1, .int a2]) (n := 3) (Nat.le_of_ble_eq_true rfl)
  rw [lg_entry_eq]
  generalize (lg_sl ([.ref (q 3), .int a1, .int a2]) ++ List.replicate (3 - (lg_sl ([.ref (q 3), .int a1, .int a2])).length) Slot.unset).toArray = ls at hl ⊢
  have hl : lv_has ls 3 [(0, .ref (q 3)), (1, .int a1), (2, .int a2)] := hl
  generalize hF : F2_addToAll u a1 a2 = tgt
  refine lv_aload_n hx hb dX2_addToAll_0 rfl (lv_at hl 0 rfl) ?_
  refine lv_iload_n hx hb dX2_addToAll_1 rfl (lv_at hl 1 rfl) ?_
  refine lv_aload_n hx hb dX2_addToAll_2 rfl (lv_at hl 0 rfl) ?_
  refine lv_iload_n hx hb dX2_addToAll_3 rfl (lv_at hl 1 rfl) ?_
  refine bcall_Ri (va_runV (As := [.int a1]) (rest := [.int a1, .ref (q 3)]) ⟨hx, hb, hml, hown, hts⟩ (C2_get l D cI cO q _ _ hP a1) (cwV 1 hts gX2_addToAll_X2_get rfl rfl rfl ⟨rfl, bd_X2get⟩ ⟨Nat.le_of_ble_eq_true rfl, Nat.le_of_ble_eq_true rfl⟩) (bPV hk (va_recv hk.1 hP (ci := 2) (q0 := 3) rfl (wC_3 _ _ _ _))) rfl rfl hl.1 rfl (lv_room (Nat.le_of_ble_eq_true rfl)) dX2_addToAll_4 ⟨Nat.zero_le _, Nat.zero_le _⟩) hS (fun locs hS => ?_)
  refine lv_iload_n hx hb dX2_addToAll_7 rfl (lv_at hl 2 rfl) ?_
  refine lv_iadd hx hb dX2_addToAll_8 ?_
  refine bcall_Wv (va_runV (As := [.int a1, .int ((F2_get u a1) + a2)]) (rest := []) ⟨hx, hb, hml, hown, hts⟩ (C2_put l D cI cO q _ _ hq hP a1 ((F2_get u a1) + a2)) (cwV 2 hts gX2_addToAll_X2_put rfl rfl rfl ⟨rfl, bd_X2put⟩ ⟨Nat.le_of_ble_eq_true rfl, Nat.le_of_ble_eq_true rfl⟩) (bPV hk (va_recv hk.1 hP (ci := 2) (q0 := 3) rfl (wC_3 _ _ _ _))) rfl rfl hl.1 rfl (lv_room (Nat.le_of_ble_eq_true rfl)) dX2_addToAll_9 ⟨Nat.zero_le _, Nat.zero_le _⟩) hS (fun H locs hP _ hS => ?_)
  exact bret_Wv hx hb hr hP trivial hS hlocks dX2_addToAll_12 (by rw [← hF, F2_addToAll])
def F2_ofSetting (u : bU) (a1 : Int32) : Int32 := (F2_get u (11 + a1))
set_option maxHeartbeats 4000000 in
set_option maxRecDepth 100000 in
theorem C2_ofSetting (l : Launch) (D : va_G) (cI cO : ClassId) (q : Nat → Nat) (u : bU) (H0 : Heap) (hP : va_P D vwCl (wC cI cO q u) H0) (a1 : Int32) : Met l yX2_ofSetting wsX2_ofSetting ({ frames := 1, cells := 0, slots := 0, locals := 21 }) (bP D [(cI, .int), (cO, .object RX2)] H0 [.ref (q 3), .int a1]) (bRi H0 (F2_ofSetting u a1)) 0 0 (fun _ => False) := by
  refine Met.ofW (cc := cX2_ofSetting) (maxL := 2) (ret := (some .int)) (by decide) rfl ?_
  intro p e s m args below meth c s₁ B hml hv
  obtain ⟨rfl, hH, hk⟩ := hv
  subst hH
  have hx := B.exec
  have hb := B.bytes
  have hr := B.returns
  have hts := atoms_spec (ws := wsX2_ofSetting) B.pre
  have hown : s.vm.findClass RX2 = some m.cls := findClass_of_methodNamed B.named
  have hlocks := B.notSynchronized
  have hS : va_S (fun _ => False) s.heap s.heap [] := va_S.rf
  have hl := lv_entry ([.ref (q 3), .int a1]) (n := 2) (Nat.le_of_ble_eq_true rfl)
  rw [lg_entry_eq]
  generalize (lg_sl ([.ref (q 3), .int a1]) ++ List.replicate (2 - (lg_sl ([.ref (q 3), .int a1])).length) Slot.unset).toArray = ls at hl ⊢
  have hl : lv_has ls 2 [(0, .ref (q 3)), (1, .int a1)] := hl
  generalize hF : F2_ofSetting u a1 = tgt
  refine lv_aload_n hx hb dX2_ofSetting_0 rfl (lv_at hl 0 rfl) ?_
  refine lv_bipush (v := 11) hx hb dX2_ofSetting_1 (by decide) ?_
  refine lv_iload_n hx hb dX2_ofSetting_3 rfl (lv_at hl 1 rfl) ?_
  refine lv_iadd hx hb dX2_ofSetting_4 ?_
  refine bcall_Ri (va_runV (As := [.int (11 + a1)]) (rest := []) ⟨hx, hb, hml, hown, hts⟩ (C2_get l D cI cO q _ _ hP (11 + a1)) (cwV 1 hts gX2_ofSetting_X2_get rfl rfl rfl ⟨rfl, bd_X2get⟩ ⟨Nat.le_of_ble_eq_true rfl, Nat.le_of_ble_eq_true rfl⟩) (bPV hk (va_recv hk.1 hP (ci := 2) (q0 := 3) rfl (wC_3 _ _ _ _))) rfl rfl hl.1 rfl (lv_room (Nat.le_of_ble_eq_true rfl)) dX2_ofSetting_5 ⟨Nat.zero_le _, Nat.zero_le _⟩) hS (fun locs hS => ?_)
  exact bret_Ri hx hb hr hS hlocks dX2_ofSetting_8 (by rw [← hF, F2_ofSetting])
def F2_putSetting (u : bU) (a1 : Int32) (a2 : Int32) : bU := (F2_put u (11 + a1) a2)
set_option maxHeartbeats 4000000 in
set_option maxRecDepth 100000 in
theorem C2_putSetting (l : Launch) (D : va_G) (cI cO : ClassId) (q : Nat → Nat) (u : bU) (H0 : Heap) (hq : bInj 23 q) (hP : va_P D vwCl (wC cI cO q u) H0) (a1 : Int32) (a2 : Int32) : Met l yX2_putSetting wsX2_putSetting ({ frames := 1, cells := 0, slots := 0, locals := 22 }) (bP D [(cI, .int), (cO, .object RX2)] H0 [.ref (q 3), .int a1, .int a2]) (bWv D (wC cI cO q) bT (bA 23 q H0.size) (F2_putSetting u a1 a2)) 0 0 (bA 23 q H0.size) := by
  refine Met.ofW (cc := cX2_putSetting) (maxL := 3) (ret := none) (by decide) rfl ?_
  intro p e s m args below meth c s₁ B hml hv
  obtain ⟨rfl, hH, hk⟩ := hv
  subst hH
  have hx := B.exec
  have hb := B.bytes
  have hr := B.returns
  have hts := atoms_spec (ws := wsX2_putSetting) B.pre
  have hown : s.vm.findClass RX2 = some m.cls := findClass_of_methodNamed B.named
  have hlocks := B.notSynchronized
  have hS : va_S (bA 23 q s.heap.size) s.heap s.heap [] := va_S.rf
  have hl := lv_entry ([.ref (q 3), .int a1, .int a2]) (n := 3) (Nat.le_of_ble_eq_true rfl)
  rw [lg_entry_eq]
  generalize (lg_sl ([.ref (q 3), .int a1, .int a2]) ++ List.replicate (3 - (lg_sl ([.ref (q 3), .int a1, .int a2])).length) Slot.unset).toArray = ls at hl ⊢
  have hl : lv_has ls 3 [(0, .ref (q 3)), (1, .int a1), (2, .int a2)] := hl
  generalize hF : F2_putSetting u a1 a2 = tgt
  refine lv_aload_n hx hb dX2_putSetting_0 rfl (lv_at hl 0 rfl) ?_
  refine lv_bipush (v := 11) hx hb dX2_putSetting_1 (by decide) ?_
  refine lv_iload_n hx hb dX2_putSetting_3 rfl (lv_at hl 1 rfl) ?_
  refine lv_iadd hx hb dX2_putSetting_4 ?_
  refine lv_iload_n hx hb dX2_putSetting_5 rfl (lv_at hl 2 rfl) ?_
  refine bcall_Wv (va_runV (As := [.int (11 + a1), .int a2]) (rest := []) ⟨hx, hb, hml, hown, hts⟩ (C2_put l D cI cO q _ _ hq hP (11 + a1) a2) (cwV 2 hts gX2_putSetting_X2_put rfl rfl rfl ⟨rfl, bd_X2put⟩ ⟨Nat.le_of_ble_eq_true rfl, Nat.le_of_ble_eq_true rfl⟩) (bPV hk (va_recv hk.1 hP (ci := 2) (q0 := 3) rfl (wC_3 _ _ _ _))) rfl rfl hl.1 rfl (lv_room (Nat.le_of_ble_eq_true rfl)) dX2_putSetting_6 ⟨Nat.zero_le _, Nat.zero_le _⟩) hS (fun H locs hP _ hS => ?_)
  exact bret_Wv hx hb hr hP trivial hS hlocks dX2_putSetting_9 (by rw [← hF, F2_putSetting])
def F2_ofBrand (u : bU) (a1 : Int32) (a2 : Int32) : Int32 := (F2_get u ((17 + (a1 * 12)) + a2))
set_option maxHeartbeats 4000000 in
set_option maxRecDepth 100000 in
theorem C2_ofBrand (l : Launch) (D : va_G) (cI cO : ClassId) (q : Nat → Nat) (u : bU) (H0 : Heap) (hP : va_P D vwCl (wC cI cO q u) H0) (a1 : Int32) (a2 : Int32) : Met l yX2_ofBrand wsX2_ofBrand ({ frames := 1, cells := 0, slots := 0, locals := 21 }) (bP D [(cI, .int), (cO, .object RX2)] H0 [.ref (q 3), .int a1, .int a2]) (bRi H0 (F2_ofBrand u a1 a2)) 0 0 (fun _ => False) := by
  refine Met.ofW (cc := cX2_ofBrand) (maxL := 3) (ret := (some .int)) (by decide) rfl ?_
  intro p e s m args below meth c s₁ B hml hv
  obtain ⟨rfl, hH, hk⟩ := hv
  subst hH
  have hx := B.exec
  have hb := B.bytes
  have hr := B.returns
  have hts := atoms_spec (ws := wsX2_ofBrand) B.pre
  have hown : s.vm.findClass RX2 = some m.cls := findClass_of_methodNamed B.named
  have hlocks := B.notSynchronized
  have hS : va_S (fun _ => False) s.heap s.heap [] := va_S.rf
  have hl := lv_entry ([.ref (q 3), .int a1, .int a2]) (n := 3) (Nat.le_of_ble_eq_true rfl)
  rw [lg_entry_eq]
  generalize (lg_sl ([.ref (q 3), .int a1, .int a2]) ++ List.replicate (3 - (lg_sl ([.ref (q 3), .int a1, .int a2])).length) Slot.unset).toArray = ls at hl ⊢
  have hl : lv_has ls 3 [(0, .ref (q 3)), (1, .int a1), (2, .int a2)] := hl
  generalize hF : F2_ofBrand u a1 a2 = tgt
  refine lv_aload_n hx hb dX2_ofBrand_0 rfl (lv_at hl 0 rfl) ?_
  refine lv_bipush (v := 17) hx hb dX2_ofBrand_1 (by decide) ?_
  refine lv_iload_n hx hb dX2_ofBrand_3 rfl (lv_at hl 1 rfl) ?_
  refine lv_bipush (v := 12) hx hb dX2_ofBrand_4 (by decide) ?_
  refine lv_imul hx hb dX2_ofBrand_6 ?_
  refine lv_iadd hx hb dX2_ofBrand_7 ?_
  refine lv_iload_n hx hb dX2_ofBrand_8 rfl (lv_at hl 2 rfl) ?_
  refine lv_iadd hx hb dX2_ofBrand_9 ?_
  refine bcall_Ri (va_runV (As := [.int ((17 + (a1 * 12)) + a2)]) (rest := []) ⟨hx, hb, hml, hown, hts⟩ (C2_get l D cI cO q _ _ hP ((17 + (a1 * 12)) + a2)) (cwV 1 hts gX2_ofBrand_X2_get rfl rfl rfl ⟨rfl, bd_X2get⟩ ⟨Nat.le_of_ble_eq_true rfl, Nat.le_of_ble_eq_true rfl⟩) (bPV hk (va_recv hk.1 hP (ci := 2) (q0 := 3) rfl (wC_3 _ _ _ _))) rfl rfl hl.1 rfl (lv_room (Nat.le_of_ble_eq_true rfl)) dX2_ofBrand_10 ⟨Nat.zero_le _, Nat.zero_le _⟩) hS (fun locs hS => ?_)
  exact bret_Ri hx hb hr hS hlocks dX2_ofBrand_13 (by rw [← hF, F2_ofBrand])
def F2_addToBrand (u : bU) (a1 : Int32) (a2 : Int32) (a3 : Int32) : bU := (F2_put u ((17 + (a1 * 12)) + a2) ((F2_get u ((17 + (a1 * 12)) + a2)) + a3))
set_option maxHeartbeats 4000000 in
set_option maxRecDepth 100000 in
theorem C2_addToBrand (l : Launch) (D : va_G) (cI cO : ClassId) (q : Nat → Nat) (u : bU) (H0 : Heap) (hq : bInj 23 q) (hP : va_P D vwCl (wC cI cO q u) H0) (a1 : Int32) (a2 : Int32) (a3 : Int32) : Met l yX2_addToBrand wsX2_addToBrand ({ frames := 1, cells := 0, slots := 0, locals := 22 }) (bP D [(cI, .int), (cO, .object RX2)] H0 [.ref (q 3), .int a1, .int a2, .int a3]) (bWv D (wC cI cO q) bT (bA 23 q H0.size) (F2_addToBrand u a1 a2 a3)) 0 0 (bA 23 q H0.size) := by
  refine Met.ofW (cc := cX2_addToBrand) (maxL := 5) (ret := none) (by decide) rfl ?_
  intro p e s m args below meth c s₁ B hml hv
  obtain ⟨rfl, hH, hk⟩ := hv
  subst hH
  have hx := B.exec
  have hb := B.bytes
  have hr := B.returns
  have hts := atoms_spec (ws := wsX2_addToBrand) B.pre
  have hown : s.vm.findClass RX2 = some m.cls := findClass_of_methodNamed B.named
  have hlocks := B.notSynchronized
  have hS : va_S (bA 23 q s.heap.size) s.heap s.heap [] := va_S.rf
  have hl := lv_entry ([.ref (q 3), .int a1, .int a2, .int a3]) (n := 5) (Nat.le_of_ble_eq_true rfl)
  rw [lg_entry_eq]
  generalize (lg_sl ([.ref (q 3), .int a1, .int a2, .int a3]) ++ List.replicate (5 - (lg_sl ([.ref (q 3), .int a1, .int a2, .int a3])).length) Slot.unset).toArray = ls at hl ⊢
  have hl : lv_has ls 5 [(0, .ref (q 3)), (1, .int a1), (2, .int a2), (3, .int a3)] := hl
  generalize hF : F2_addToBrand u a1 a2 a3 = tgt
  refine lv_bipush (v := 17) hx hb dX2_addToBrand_0 (by decide) ?_
  refine lv_iload_n hx hb dX2_addToBrand_2 rfl (lv_at hl 1 rfl) ?_
  refine lv_bipush (v := 12) hx hb dX2_addToBrand_3 (by decide) ?_
  refine lv_imul hx hb dX2_addToBrand_5 ?_
  refine lv_iadd hx hb dX2_addToBrand_6 ?_
  refine lv_iload_n hx hb dX2_addToBrand_7 rfl (lv_at hl 2 rfl) ?_
  refine lv_iadd hx hb dX2_addToBrand_8 ?_
  refine lv_istore (lv' := [(4, .int ((17 + (a1 * 12)) + a2)), (0, .ref (q 3)), (1, .int a1), (2, .int a2), (3, .int a3)]) hx hb dX2_addToBrand_9 hl (by decide) rfl (fun ls hl => ?_)
  refine lv_aload_n hx hb dX2_addToBrand_11 rfl (lv_at hl 1 rfl) ?_
  refine lv_iload hx hb dX2_addToBrand_12 (lv_at hl 0 rfl) ?_
  refine lv_aload_n hx hb dX2_addToBrand_14 rfl (lv_at hl 1 rfl) ?_
  refine lv_iload hx hb dX2_addToBrand_15 (lv_at hl 0 rfl) ?_
  refine bcall_Ri (va_runV (As := [.int ((17 + (a1 * 12)) + a2)]) (rest := [.int ((17 + (a1 * 12)) + a2), .ref (q 3)]) ⟨hx, hb, hml, hown, hts⟩ (C2_get l D cI cO q _ _ hP ((17 + (a1 * 12)) + a2)) (cwV 1 hts gX2_addToBrand_X2_get rfl rfl rfl ⟨rfl, bd_X2get⟩ ⟨Nat.le_of_ble_eq_true rfl, Nat.le_of_ble_eq_true rfl⟩) (bPV hk (va_recv hk.1 hP (ci := 2) (q0 := 3) rfl (wC_3 _ _ _ _))) rfl rfl hl.1 rfl (lv_room (Nat.le_of_ble_eq_true rfl)) dX2_addToBrand_17 ⟨Nat.zero_le _, Nat.zero_le _⟩) hS (fun locs hS => ?_)
  refine lv_iload_n hx hb dX2_addToBrand_20 rfl (lv_at hl 4 rfl) ?_
  refine lv_iadd hx hb dX2_addToBrand_21 ?_
  refine bcall_Wv (va_runV (As := [.int ((17 + (a1 * 12)) + a2), .int ((F2_get u ((17 + (a1 * 12)) + a2)) + a3)]) (rest := []) ⟨hx, hb, hml, hown, hts⟩ (C2_put l D cI cO q _ _ hq hP ((17 + (a1 * 12)) + a2) ((F2_get u ((17 + (a1 * 12)) + a2)) + a3)) (cwV 2 hts gX2_addToBrand_X2_put rfl rfl rfl ⟨rfl, bd_X2put⟩ ⟨Nat.le_of_ble_eq_true rfl, Nat.le_of_ble_eq_true rfl⟩) (bPV hk (va_recv hk.1 hP (ci := 2) (q0 := 3) rfl (wC_3 _ _ _ _))) rfl rfl hl.1 rfl (lv_room (Nat.le_of_ble_eq_true rfl)) dX2_addToBrand_22 ⟨Nat.zero_le _, Nat.zero_le _⟩) hS (fun H locs hP _ hS => ?_)
  exact bret_Wv hx hb hr hP trivial hS hlocks dX2_addToBrand_25 (by rw [← hF, F2_addToBrand])
def F2_ofShop (u : bU) (a1 : Int32) (a2 : Int32) : Int32 := (F2_get u ((113 + (a1 * 28)) + a2))
set_option maxHeartbeats 4000000 in
set_option maxRecDepth 100000 in
theorem C2_ofShop (l : Launch) (D : va_G) (cI cO : ClassId) (q : Nat → Nat) (u : bU) (H0 : Heap) (hP : va_P D vwCl (wC cI cO q u) H0) (a1 : Int32) (a2 : Int32) : Met l yX2_ofShop wsX2_ofShop ({ frames := 1, cells := 0, slots := 0, locals := 21 }) (bP D [(cI, .int), (cO, .object RX2)] H0 [.ref (q 3), .int a1, .int a2]) (bRi H0 (F2_ofShop u a1 a2)) 0 0 (fun _ => False) := by
  refine Met.ofW (cc := cX2_ofShop) (maxL := 3) (ret := (some .int)) (by decide) rfl ?_
  intro p e s m args below meth c s₁ B hml hv
  obtain ⟨rfl, hH, hk⟩ := hv
  subst hH
  have hx := B.exec
  have hb := B.bytes
  have hr := B.returns
  have hts := atoms_spec (ws := wsX2_ofShop) B.pre
  have hown : s.vm.findClass RX2 = some m.cls := findClass_of_methodNamed B.named
  have hlocks := B.notSynchronized
  have hS : va_S (fun _ => False) s.heap s.heap [] := va_S.rf
  have hl := lv_entry ([.ref (q 3), .int a1, .int a2]) (n := 3) (Nat.le_of_ble_eq_true rfl)
  rw [lg_entry_eq]
  generalize (lg_sl ([.ref (q 3), .int a1, .int a2]) ++ List.replicate (3 - (lg_sl ([.ref (q 3), .int a1, .int a2])).length) Slot.unset).toArray = ls at hl ⊢
  have hl : lv_has ls 3 [(0, .ref (q 3)), (1, .int a1), (2, .int a2)] := hl
  generalize hF : F2_ofShop u a1 a2 = tgt
  refine lv_aload_n hx hb dX2_ofShop_0 rfl (lv_at hl 0 rfl) ?_
  refine lv_bipush (v := 113) hx hb dX2_ofShop_1 (by decide) ?_
  refine lv_iload_n hx hb dX2_ofShop_3 rfl (lv_at hl 1 rfl) ?_
  refine lv_bipush (v := 28) hx hb dX2_ofShop_4 (by decide) ?_
  refine lv_imul hx hb dX2_ofShop_6 ?_
  refine lv_iadd hx hb dX2_ofShop_7 ?_
  refine lv_iload_n hx hb dX2_ofShop_8 rfl (lv_at hl 2 rfl) ?_
  refine lv_iadd hx hb dX2_ofShop_9 ?_
  refine bcall_Ri (va_runV (As := [.int ((113 + (a1 * 28)) + a2)]) (rest := []) ⟨hx, hb, hml, hown, hts⟩ (C2_get l D cI cO q _ _ hP ((113 + (a1 * 28)) + a2)) (cwV 1 hts gX2_ofShop_X2_get rfl rfl rfl ⟨rfl, bd_X2get⟩ ⟨Nat.le_of_ble_eq_true rfl, Nat.le_of_ble_eq_true rfl⟩) (bPV hk (va_recv hk.1 hP (ci := 2) (q0 := 3) rfl (wC_3 _ _ _ _))) rfl rfl hl.1 rfl (lv_room (Nat.le_of_ble_eq_true rfl)) dX2_ofShop_10 ⟨Nat.zero_le _, Nat.zero_le _⟩) hS (fun locs hS => ?_)
  exact bret_Ri hx hb hr hS hlocks dX2_ofShop_13 (by rw [← hF, F2_ofShop])
def F2_addToShop (u : bU) (a1 : Int32) (a2 : Int32) (a3 : Int32) : bU := (F2_put u ((113 + (a1 * 28)) + a2) ((F2_get u ((113 + (a1 * 28)) + a2)) + a3))
set_option maxHeartbeats 4000000 in
set_option maxRecDepth 100000 in
theorem C2_addToShop (l : Launch) (D : va_G) (cI cO : ClassId) (q : Nat → Nat) (u : bU) (H0 : Heap) (hq : bInj 23 q) (hP : va_P D vwCl (wC cI cO q u) H0) (a1 : Int32) (a2 : Int32) (a3 : Int32) : Met l yX2_addToShop wsX2_addToShop ({ frames := 1, cells := 0, slots := 0, locals := 22 }) (bP D [(cI, .int), (cO, .object RX2)] H0 [.ref (q 3), .int a1, .int a2, .int a3]) (bWv D (wC cI cO q) bT (bA 23 q H0.size) (F2_addToShop u a1 a2 a3)) 0 0 (bA 23 q H0.size) := by
  refine Met.ofW (cc := cX2_addToShop) (maxL := 5) (ret := none) (by decide) rfl ?_
  intro p e s m args below meth c s₁ B hml hv
  obtain ⟨rfl, hH, hk⟩ := hv
  subst hH
  have hx := B.exec
  have hb := B.bytes
  have hr := B.returns
  have hts := atoms_spec (ws := wsX2_addToShop) B.pre
  have hown : s.vm.findClass RX2 = some m.cls := findClass_of_methodNamed B.named
  have hlocks := B.notSynchronized
  have hS : va_S (bA 23 q s.heap.size) s.heap s.heap [] := va_S.rf
  have hl := lv_entry ([.ref (q 3), .int a1, .int a2, .int a3]) (n := 5) (Nat.le_of_ble_eq_true rfl)
  rw [lg_entry_eq]
  generalize (lg_sl ([.ref (q 3), .int a1, .int a2, .int a3]) ++ List.replicate (5 - (lg_sl ([.ref (q 3), .int a1, .int a2, .int a3])).length) Slot.unset).toArray = ls at hl ⊢
  have hl : lv_has ls 5 [(0, .ref (q 3)), (1, .int a1), (2, .int a2), (3, .int a3)] := hl
  generalize hF : F2_addToShop u a1 a2 a3 = tgt
  refine lv_bipush (v := 113) hx hb dX2_addToShop_0 (by decide) ?_
  refine lv_iload_n hx hb dX2_addToShop_2 rfl (lv_at hl 1 rfl) ?_
  refine lv_bipush (v := 28) hx hb dX2_addToShop_3 (by decide) ?_
  refine lv_imul hx hb dX2_addToShop_5 ?_
  refine lv_iadd hx hb dX2_addToShop_6 ?_
  refine lv_iload_n hx hb dX2_addToShop_7 rfl (lv_at hl 2 rfl) ?_
  refine lv_iadd hx hb dX2_addToShop_8 ?_
  refine lv_istore (lv' := [(4, .int ((113 + (a1 * 28)) + a2)), (0, .ref (q 3)), (1, .int a1), (2, .int a2), (3, .int a3)]) hx hb dX2_addToShop_9 hl (by decide) rfl (fun ls hl => ?_)
  refine lv_aload_n hx hb dX2_addToShop_11 rfl (lv_at hl 1 rfl) ?_
  refine lv_iload hx hb dX2_addToShop_12 (lv_at hl 0 rfl) ?_
  refine lv_aload_n hx hb dX2_addToShop_14 rfl (lv_at hl 1 rfl) ?_
  refine lv_iload hx hb dX2_addToShop_15 (lv_at hl 0 rfl) ?_
  refine bcall_Ri (va_runV (As := [.int ((113 + (a1 * 28)) + a2)]) (rest := [.int ((113 + (a1 * 28)) + a2), .ref (q 3)]) ⟨hx, hb, hml, hown, hts⟩ (C2_get l D cI cO q _ _ hP ((113 + (a1 * 28)) + a2)) (cwV 1 hts gX2_addToShop_X2_get rfl rfl rfl ⟨rfl, bd_X2get⟩ ⟨Nat.le_of_ble_eq_true rfl, Nat.le_of_ble_eq_true rfl⟩) (bPV hk (va_recv hk.1 hP (ci := 2) (q0 := 3) rfl (wC_3 _ _ _ _))) rfl rfl hl.1 rfl (lv_room (Nat.le_of_ble_eq_true rfl)) dX2_addToShop_17 ⟨Nat.zero_le _, Nat.zero_le _⟩) hS (fun locs hS => ?_)
  refine lv_iload_n hx hb dX2_addToShop_20 rfl (lv_at hl 4 rfl) ?_
  refine lv_iadd hx hb dX2_addToShop_21 ?_
  refine bcall_Wv (va_runV (As := [.int ((113 + (a1 * 28)) + a2), .int ((F2_get u ((113 + (a1 * 28)) + a2)) + a3)]) (rest := []) ⟨hx, hb, hml, hown, hts⟩ (C2_put l D cI cO q _ _ hq hP ((113 + (a1 * 28)) + a2) ((F2_get u ((113 + (a1 * 28)) + a2)) + a3)) (cwV 2 hts gX2_addToShop_X2_put rfl rfl rfl ⟨rfl, bd_X2put⟩ ⟨Nat.le_of_ble_eq_true rfl, Nat.le_of_ble_eq_true rfl⟩) (bPV hk (va_recv hk.1 hP (ci := 2) (q0 := 3) rfl (wC_3 _ _ _ _))) rfl rfl hl.1 rfl (lv_room (Nat.le_of_ble_eq_true rfl)) dX2_addToShop_22 ⟨Nat.zero_le _, Nat.zero_le _⟩) hS (fun H locs hP _ hS => ?_)
  exact bret_Wv hx hb hr hP trivial hS hlocks dX2_addToShop_25 (by rw [← hF, F2_addToShop])
def F2_ofSwaps (u : bU) (a1 : Int32) (a2 : Int32) : Int32 := (F2_get u ((281 + (a1 * 8)) + a2))
set_option maxHeartbeats 4000000 in
set_option maxRecDepth 100000 in
theorem C2_ofSwaps (l : Launch) (D : va_G) (cI cO : ClassId) (q : Nat → Nat) (u : bU) (H0 : Heap) (hP : va_P D vwCl (wC cI cO q u) H0) (a1 : Int32) (a2 : Int32) : Met l yX2_ofSwaps wsX2_ofSwaps ({ frames := 1, cells := 0, slots := 0, locals := 21 }) (bP D [(cI, .int), (cO, .object RX2)] H0 [.ref (q 3), .int a1, .int a2]) (bRi H0 (F2_ofSwaps u a1 a2)) 0 0 (fun _ => False) := by
  refine Met.ofW (cc := cX2_ofSwaps) (maxL := 3) (ret := (some .int)) (by decide) rfl ?_
  intro p e s m args below meth c s₁ B hml hv
  obtain ⟨rfl, hH, hk⟩ := hv
  subst hH
  have hx := B.exec
  have hb := B.bytes
  have hr := B.returns
  have hts := atoms_spec (ws := wsX2_ofSwaps) B.pre
  have hown : s.vm.findClass RX2 = some m.cls := findClass_of_methodNamed B.named
  have hlocks := B.notSynchronized
  have hS : va_S (fun _ => False) s.heap s.heap [] := va_S.rf
  have hl := lv_entry ([.ref (q 3), .int a1, .int a2]) (n := 3) (Nat.le_of_ble_eq_true rfl)
  rw [lg_entry_eq]
  generalize (lg_sl ([.ref (q 3), .int a1, .int a2]) ++ List.replicate (3 - (lg_sl ([.ref (q 3), .int a1, .int a2])).length) Slot.unset).toArray = ls at hl ⊢
  have hl : lv_has ls 3 [(0, .ref (q 3)), (1, .int a1), (2, .int a2)] := hl
  generalize hF : F2_ofSwaps u a1 a2 = tgt
  refine lv_aload_n hx hb dX2_ofSwaps_0 rfl (lv_at hl 0 rfl) ?_
  refine lv_sipush (v := 281) hx hb dX2_ofSwaps_1 (by decide) ?_
  refine lv_iload_n hx hb dX2_ofSwaps_4 rfl (lv_at hl 1 rfl) ?_
  refine lv_bipush (v := 8) hx hb dX2_ofSwaps_5 (by decide) ?_
  refine lv_imul hx hb dX2_ofSwaps_7 ?_
  refine lv_iadd hx hb dX2_ofSwaps_8 ?_
  refine lv_iload_n hx hb dX2_ofSwaps_9 rfl (lv_at hl 2 rfl) ?_
  refine lv_iadd hx hb dX2_ofSwaps_10 ?_
  refine bcall_Ri (va_runV (As := [.int ((281 + (a1 * 8)) + a2)]) (rest := []) ⟨hx, hb, hml, hown, hts⟩ (C2_get l D cI cO q _ _ hP ((281 + (a1 * 8)) + a2)) (cwV 1 hts gX2_ofSwaps_X2_get rfl rfl rfl ⟨rfl, bd_X2get⟩ ⟨Nat.le_of_ble_eq_true rfl, Nat.le_of_ble_eq_true rfl⟩) (bPV hk (va_recv hk.1 hP (ci := 2) (q0 := 3) rfl (wC_3 _ _ _ _))) rfl rfl hl.1 rfl (lv_room (Nat.le_of_ble_eq_true rfl)) dX2_ofSwaps_11 ⟨Nat.zero_le _, Nat.zero_le _⟩) hS (fun locs hS => ?_)
  exact bret_Ri hx hb hr hS hlocks dX2_ofSwaps_14 (by rw [← hF, F2_ofSwaps])
def F2_addToSwaps (u : bU) (a1 : Int32) (a2 : Int32) (a3 : Int32) : bU := (F2_put u ((281 + (a1 * 8)) + a2) ((F2_get u ((281 + (a1 * 8)) + a2)) + a3))
set_option maxHeartbeats 4000000 in
set_option maxRecDepth 100000 in
theorem C2_addToSwaps (l : Launch) (D : va_G) (cI cO : ClassId) (q : Nat → Nat) (u : bU) (H0 : Heap) (hq : bInj 23 q) (hP : va_P D vwCl (wC cI cO q u) H0) (a1 : Int32) (a2 : Int32) (a3 : Int32) : Met l yX2_addToSwaps wsX2_addToSwaps ({ frames := 1, cells := 0, slots := 0, locals := 22 }) (bP D [(cI, .int), (cO, .object RX2)] H0 [.ref (q 3), .int a1, .int a2, .int a3]) (bWv D (wC cI cO q) bT (bA 23 q H0.size) (F2_addToSwaps u a1 a2 a3)) 0 0 (bA 23 q H0.size) := by
  refine Met.ofW (cc := cX2_addToSwaps) (maxL := 5) (ret := none) (by decide) rfl ?_
  intro p e s m args below meth c s₁ B hml hv
  obtain ⟨rfl, hH, hk⟩ := hv
  subst hH
  have hx := B.exec
  have hb := B.bytes
  have hr := B.returns
  have hts := atoms_spec (ws := wsX2_addToSwaps) B.pre
  have hown : s.vm.findClass RX2 = some m.cls := findClass_of_methodNamed B.named
  have hlocks := B.notSynchronized
  have hS : va_S (bA 23 q s.heap.size) s.heap s.heap [] := va_S.rf
  have hl := lv_entry ([.ref (q 3), .int a1, .int a2, .int a3]) (n := 5) (Nat.le_of_ble_eq_true rfl)
  rw [lg_entry_eq]
  generalize (lg_sl ([.ref (q 3), .int a1, .int a2, .int a3]) ++ List.replicate (5 - (lg_sl ([.ref (q 3), .int a1, .int a2, .int a3])).length) Slot.unset).toArray = ls at hl ⊢
  have hl : lv_has ls 5 [(0, .ref (q 3)), (1, .int a1), (2, .int a2), (3, .int a3)] := hl
  generalize hF : F2_addToSwaps u a1 a2 a3 = tgt
  refine lv_sipush (v := 281) hx hb dX2_addToSwaps_0 (by decide) ?_
  refine lv_iload_n hx hb dX2_addToSwaps_3 rfl (lv_at hl 1 rfl) ?_
  refine lv_bipush (v := 8) hx hb dX2_addToSwaps_4 (by decide) ?_
  refine lv_imul hx hb dX2_addToSwaps_6 ?_
  refine lv_iadd hx hb dX2_addToSwaps_7 ?_
  refine lv_iload_n hx hb dX2_addToSwaps_8 rfl (lv_at hl 2 rfl) ?_
  refine lv_iadd hx hb dX2_addToSwaps_9 ?_
  refine lv_istore (lv' := [(4, .int ((281 + (a1 * 8)) + a2)), (0, .ref (q 3)), (1, .int a1), (2, .int a2), (3, .int a3)]) hx hb dX2_addToSwaps_10 hl (by decide) rfl (fun ls hl => ?_)
  refine lv_aload_n hx hb dX2_addToSwaps_12 rfl (lv_at hl 1 rfl) ?_
  refine lv_iload hx hb dX2_addToSwaps_13 (lv_at hl 0 rfl) ?_
  refine lv_aload_n hx hb dX2_addToSwaps_15 rfl (lv_at hl 1 rfl) ?_
  refine lv_iload hx hb dX2_addToSwaps_16 (lv_at hl 0 rfl) ?_
  refine bcall_Ri (va_runV (As := [.int ((281 + (a1 * 8)) + a2)]) (rest := [.int ((281 + (a1 * 8)) + a2), .ref (q 3)]) ⟨hx, hb, hml, hown, hts⟩ (C2_get l D cI cO q _ _ hP ((281 + (a1 * 8)) + a2)) (cwV 1 hts gX2_addToSwaps_X2_get rfl rfl rfl ⟨rfl, bd_X2get⟩ ⟨Nat.le_of_ble_eq_true rfl, Nat.le_of_ble_eq_true rfl⟩) (bPV hk (va_recv hk.1 hP (ci := 2) (q0 := 3) rfl (wC_3 _ _ _ _))) rfl rfl hl.1 rfl (lv_room (Nat.le_of_ble_eq_true rfl)) dX2_addToSwaps_18 ⟨Nat.zero_le _, Nat.zero_le _⟩) hS (fun locs hS => ?_)
  refine lv_iload_n hx hb dX2_addToSwaps_21 rfl (lv_at hl 4 rfl) ?_
  refine lv_iadd hx hb dX2_addToSwaps_22 ?_
  refine bcall_Wv (va_runV (As := [.int ((281 + (a1 * 8)) + a2), .int ((F2_get u ((281 + (a1 * 8)) + a2)) + a3)]) (rest := []) ⟨hx, hb, hml, hown, hts⟩ (C2_put l D cI cO q _ _ hq hP ((281 + (a1 * 8)) + a2) ((F2_get u ((281 + (a1 * 8)) + a2)) + a3)) (cwV 2 hts gX2_addToSwaps_X2_put rfl rfl rfl ⟨rfl, bd_X2put⟩ ⟨Nat.le_of_ble_eq_true rfl, Nat.le_of_ble_eq_true rfl⟩) (bPV hk (va_recv hk.1 hP (ci := 2) (q0 := 3) rfl (wC_3 _ _ _ _))) rfl rfl hl.1 rfl (lv_room (Nat.le_of_ble_eq_true rfl)) dX2_addToSwaps_23 ⟨Nat.zero_le _, Nat.zero_le _⟩) hS (fun H locs hP _ hS => ?_)
  exact bret_Wv hx hb hr hP trivial hS hlocks dX2_addToSwaps_26 (by rw [← hF, F2_addToSwaps])
def L2_overShops_4 (u : bU) (a1 : Int32) : Nat → Nat → Int32 → Int32
  | 0, _, x2_4 => x2_4
  | n4 + 1, j4, x2_4 => (if (6 : Int32) ≤ (nI j4) then x2_4 else (L2_overShops_4 u a1 n4 (j4 + 1) (x2_4 + (F2_ofShop u (nI j4) a1))))
def F2_overShops (u : bU) (a1 : Int32) : Int32 := (L2_overShops_4 u a1 (6 + 1) 0 0)
set_option maxHeartbeats 4000000 in
set_option maxRecDepth 100000 in
theorem C2_overShops (l : Launch) (D : va_G) (cI cO : ClassId) (q : Nat → Nat) (u : bU) (H0 : Heap) (hP : va_P D vwCl (wC cI cO q u) H0) (a1 : Int32) : Met l yX2_overShops wsX2_overShops ({ frames := 2, cells := 0, slots := 0, locals := 43 }) (bP D [(cI, .int), (cO, .object RX2)] H0 [.ref (q 3), .int a1]) (bRi H0 (F2_overShops u a1)) 0 0 (fun _ => False) := by
  refine Met.ofW (cc := cX2_overShops) (maxL := 4) (ret := (some .int)) (by decide) rfl ?_
  intro p e s m args below meth c s₁ B hml hv
  obtain ⟨rfl, hH, hk⟩ := hv
  subst hH
  have hx := B.exec
  have hb := B.bytes
  have hr := B.returns
  have hts := atoms_spec (ws := wsX2_overShops) B.pre
  have hown : s.vm.findClass RX2 = some m.cls := findClass_of_methodNamed B.named
  have hlocks := B.notSynchronized
  have hS : va_S (fun _ => False) s.heap s.heap [] := va_S.rf
  have hl := lv_entry ([.ref (q 3), .int a1]) (n := 4) (Nat.le_of_ble_eq_true rfl)
  rw [lg_entry_eq]
  generalize (lg_sl ([.ref (q 3), .int a1]) ++ List.replicate (4 - (lg_sl ([.ref (q 3), .int a1])).length) Slot.unset).toArray = ls at hl ⊢
  have hl : lv_has ls 4 [(0, .ref (q 3)), (1, .int a1)] := hl
  generalize hF : F2_overShops u a1 = tgt
  refine lv_iconst (v := 0) hx hb dX2_overShops_0 (by decide) ?_
  refine lv_istore_n (lv' := [(2, .int 0), (0, .ref (q 3)), (1, .int a1)]) hx hb dX2_overShops_1 rfl hl (by decide) rfl (fun ls hl => ?_)
  refine lv_iconst (v := 0) hx hb dX2_overShops_2 (by decide) ?_
  refine lv_istore_n (lv' := [(3, .int 0), (2, .int 0), (0, .ref (q 3)), (1, .int a1)]) hx hb dX2_overShops_3 rfl hl (by decide) rfl (fun ls hl => ?_)
  have loop4 : ∀ (n4 j4 : Nat) (x2_4 : Int32) (locs : List Loc) (ls : Array Slot), j4 ≤ 6 → 6 + 1 ≤ n4 + j4 → lv_has ls 4 [(0, .ref (q 3)), (1, .int a1), (2, .int x2_4), (3, .int (nI j4))] → va_S (fun _ => False) s.heap s.heap locs → ∀ X : Int32, L2_overShops_4 u a1  n4 j4 x2_4 = X → (∀ (locs : List Loc) (ls : Array Slot), lv_has ls 4 [(0, .ref (q 3)), (1, .int a1), (2, .int X)] → va_S (fun _ => False) s.heap s.heap locs → W p l e (headSpec wsX2_overShops ({ frames := 2, cells := 0, slots := 0, locals := 43 })).room s m ([.ref (q 3), .int a1] : List Value).toArray below meth c s.heap locs 0 0 (MQ below (bRi s.heap tgt) ([.ref (q 3), .int a1] : List Value).toArray s 0 0 (fun _ => False)) (F0 m 25 ls [])) → W p l e (headSpec wsX2_overShops ({ frames := 2, cells := 0, slots := 0, locals := 43 })).room s m ([.ref (q 3), .int a1] : List Value).toArray below meth c s.heap locs 0 0 (MQ below (bRi s.heap tgt) ([.ref (q 3), .int a1] : List Value).toArray s 0 0 (fun _ => False)) (F0 m 4 ls []) := by
    intro n4
    induction n4 with
    | zero => intro j4 x2_4 locs ls hj hn; exact absurd hn (by omega)
    | succ n4 ih =>
      intro j4 x2_4 locs ls hj hn hl hS X hF kx
      refine lv_iload_n hx hb dX2_overShops_4 rfl (lv_at hl 3 rfl) ?_
      refine lv_bipush (v := 6) hx hb dX2_overShops_5 (by decide) ?_
      refine lv_icmp_ge (tgt := 25) hx hb dX2_overShops_7 (by decide) (fun c_1 => ?_) (fun c_1 => ?_)
      · obtain rfl : X = x2_4 := by rw [← hF, L2_overShops_4, if_pos c_1]
        exact kx _ _ (lv_sub hl [0, 1, 2] rfl) hS
      · have hlt_2 : j4 < 6 := bLt c_1 (by omega) (by decide)
        refine lv_iload_n hx hb dX2_overShops_10 rfl (lv_at hl 2 rfl) ?_
        refine lv_aload_n hx hb dX2_overShops_11 rfl (lv_at hl 0 rfl) ?_
        refine lv_iload_n hx hb dX2_overShops_12 rfl (lv_at hl 3 rfl) ?_
        refine lv_iload_n hx hb dX2_overShops_13 rfl (lv_at hl 1 rfl) ?_
        refine bcall_Ri (va_runV (As := [.int (nI j4), .int a1]) (rest := [.int x2_4]) ⟨hx, hb, hml, hown, hts⟩ (C2_ofShop l D cI cO q _ _ hP (nI j4) a1) (cwV 2 hts gX2_overShops_X2_ofShop rfl rfl rfl ⟨rfl, bd_X2ofShop⟩ ⟨Nat.le_of_ble_eq_true rfl, Nat.le_of_ble_eq_true rfl⟩) (bPV hk (va_recv hk.1 hP (ci := 2) (q0 := 3) rfl (wC_3 _ _ _ _))) rfl rfl hl.1 rfl (lv_room (Nat.le_of_ble_eq_true rfl)) dX2_overShops_14 ⟨Nat.zero_le _, Nat.zero_le _⟩) hS (fun locs hS => ?_)
        refine lv_iadd hx hb dX2_overShops_17 ?_
        refine lv_istore_n (lv' := [(2, .int (x2_4 + (F2_ofShop u (nI j4) a1))), (0, .ref (q 3)), (1, .int a1), (3, .int (nI j4))]) hx hb dX2_overShops_18 rfl hl (by decide) rfl (fun ls hl => ?_)
        refine lv_iinc (v := (nI (j4 + 1))) (lv' := [(3, .int (nI (j4 + 1))), (2, .int (x2_4 + (F2_ofShop u (nI j4) a1))), (0, .ref (q 3)), (1, .int a1)]) hx hb dX2_overShops_19 hl (k := 3) rfl (bInc j4) (by decide) rfl (fun ls hl => ?_)
        refine lv_goto (tgt := 4) hx hb dX2_overShops_22 (by decide) ?_
        exact ih (j4 + 1) (x2_4 + (F2_ofShop u (nI j4) a1)) _ _ (by omega) (by omega) (lv_sub hl [2, 3, 1, 0] rfl) hS X (by rw [← hF, L2_overShops_4, if_neg c_1]) kx
  refine loop4 (6 + 1) 0 0 _ _ (by omega) (by omega) (lv_sub hl [2, 3, 1, 0] rfl) hS _ rfl (fun locs ls hl hS => ?_)
  refine lv_iload_n hx hb dX2_overShops_25 rfl (lv_at hl 2 rfl) ?_
  exact bret_Ri hx hb hr hS hlocks dX2_overShops_26 (by rw [← hF, F2_overShops])
def L2_overBrands_4 (u : bU) (a1 : Int32) : Nat → Nat → Int32 → Int32
  | 0, _, x2_4 => x2_4
  | n4 + 1, j4, x2_4 => (if (8 : Int32) ≤ (nI j4) then x2_4 else (L2_overBrands_4 u a1 n4 (j4 + 1) (x2_4 + (F2_ofBrand u (nI j4) a1))))
def F2_overBrands (u : bU) (a1 : Int32) : Int32 := (L2_overBrands_4 u a1 (8 + 1) 0 0)
set_option maxHeartbeats 4000000 in
set_option maxRecDepth 100000 in
theorem C2_overBrands (l : Launch) (D : va_G) (cI cO : ClassId) (q : Nat → Nat) (u : bU) (H0 : Heap) (hP : va_P D vwCl (wC cI cO q u) H0) (a1 : Int32) : Met l yX2_overBrands wsX2_overBrands ({ frames := 2, cells := 0, slots := 0, locals := 43 }) (bP D [(cI, .int), (cO, .object RX2)] H0 [.ref (q 3), .int a1]) (bRi H0 (F2_overBrands u a1)) 0 0 (fun _ => False) := by
  refine Met.ofW (cc := cX2_overBrands) (maxL := 4) (ret := (some .int)) (by decide) rfl ?_
  intro p e s m args below meth c s₁ B hml hv
  obtain ⟨rfl, hH, hk⟩ := hv
  subst hH
  have hx := B.exec
  have hb := B.bytes
  have hr := B.returns
  have hts := atoms_spec (ws := wsX2_overBrands) B.pre
  have hown : s.vm.findClass RX2 = some m.cls := findClass_of_methodNamed B.named
  have hlocks := B.notSynchronized
  have hS : va_S (fun _ => False) s.heap s.heap [] := va_S.rf
  have hl := lv_entry ([.ref (q 3), .int a1]) (n := 4) (Nat.le_of_ble_eq_true rfl)
  rw [lg_entry_eq]
  generalize (lg_sl ([.ref (q 3), .int a1]) ++ List.replicate (4 - (lg_sl ([.ref (q 3), .int a1])).length) Slot.unset).toArray = ls at hl ⊢
  have hl : lv_has ls 4 [(0, .ref (q 3)), (1, .int a1)] := hl
  generalize hF : F2_overBrands u a1 = tgt
  refine lv_iconst (v := 0) hx hb dX2_overBrands_0 (by decide) ?_
  refine lv_istore_n (lv' := [(2, .int 0), (0, .ref (q 3)), (1, .int a1)]) hx hb dX2_overBrands_1 rfl hl (by decide) rfl (fun ls hl => ?_)
  refine lv_iconst (v := 0) hx hb dX2_overBrands_2 (by decide) ?_
  refine lv_istore_n (lv' := [(3, .int 0), (2, .int 0), (0, .ref (q 3)), (1, .int a1)]) hx hb dX2_overBrands_3 rfl hl (by decide) rfl (fun ls hl => ?_)
  have loop4 : ∀ (n4 j4 : Nat) (x2_4 : Int32) (locs : List Loc) (ls : Array Slot), j4 ≤ 8 → 8 + 1 ≤ n4 + j4 → lv_has ls 4 [(0, .ref (q 3)), (1, .int a1), (2, .int x2_4), (3, .int (nI j4))] → va_S (fun _ => False) s.heap s.heap locs → ∀ X : Int32, L2_overBrands_4 u a1  n4 j4 x2_4 = X → (∀ (locs : List Loc) (ls : Array Slot), lv_has ls 4 [(0, .ref (q 3)), (1, .int a1), (2, .int X)] → va_S (fun _ => False) s.heap s.heap locs → W p l e (headSpec wsX2_overBrands ({ frames := 2, cells := 0, slots := 0, locals := 43 })).room s m ([.ref (q 3), .int a1] : List Value).toArray below meth c s.heap locs 0 0 (MQ below (bRi s.heap tgt) ([.ref (q 3), .int a1] : List Value).toArray s 0 0 (fun _ => False)) (F0 m 25 ls [])) → W p l e (headSpec wsX2_overBrands ({ frames := 2, cells := 0, slots := 0, locals := 43 })).room s m ([.ref (q 3), .int a1] : List Value).toArray below meth c s.heap locs 0 0 (MQ below (bRi s.heap tgt) ([.ref (q 3), .int a1] : List Value).toArray s 0 0 (fun _ => False)) (F0 m 4 ls []) := by
    intro n4
    induction n4 with
    | zero => intro j4 x2_4 locs ls hj hn; exact absurd hn (by omega)
    | succ n4 ih =>
      intro j4 x2_4 locs ls hj hn hl hS X hF kx
      refine lv_iload_n hx hb dX2_overBrands_4 rfl (lv_at hl 3 rfl) ?_
      refine lv_bipush (v := 8) hx hb dX2_overBrands_5 (by decide) ?_
      refine lv_icmp_ge (tgt := 25) hx hb dX2_overBrands_7 (by decide) (fun c_1 => ?_) (fun c_1 => ?_)
      · obtain rfl : X = x2_4 := by rw [← hF, L2_overBrands_4, if_pos c_1]
        exact kx _ _ (lv_sub hl [0, 1, 2] rfl) hS
      · have hlt_2 : j4 < 8 := bLt c_1 (by omega) (by decide)
        refine lv_iload_n hx hb dX2_overBrands_10 rfl (lv_at hl 2 rfl) ?_
        refine lv_aload_n hx hb dX2_overBrands_11 rfl (lv_at hl 0 rfl) ?_
        refine lv_iload_n hx hb dX2_overBrands_12 rfl (lv_at hl 3 rfl) ?_
        refine lv_iload_n hx hb dX2_overBrands_13 rfl (lv_at hl 1 rfl) ?_
        refine bcall_Ri (va_runV (As := [.int (nI j4), .int a1]) (rest := [.int x2_4]) ⟨hx, hb, hml, hown, hts⟩ (C2_ofBrand l D cI cO q _ _ hP (nI j4) a1) (cwV 2 hts gX2_overBrands_X2_ofBrand rfl rfl rfl ⟨rfl, bd_X2ofBrand⟩ ⟨Nat.le_of_ble_eq_true rfl, Nat.le_of_ble_eq_true rfl⟩) (bPV hk (va_recv hk.1 hP (ci := 2) (q0 := 3) rfl (wC_3 _ _ _ _))) rfl rfl hl.1 rfl (lv_room (Nat.le_of_ble_eq_true rfl)) dX2_overBrands_14 ⟨Nat.zero_le _, Nat.zero_le _⟩) hS (fun locs hS => ?_)
        refine lv_iadd hx hb dX2_overBrands_17 ?_
        refine lv_istore_n (lv' := [(2, .int (x2_4 + (F2_ofBrand u (nI j4) a1))), (0, .ref (q 3)), (1, .int a1), (3, .int (nI j4))]) hx hb dX2_overBrands_18 rfl hl (by decide) rfl (fun ls hl => ?_)
        refine lv_iinc (v := (nI (j4 + 1))) (lv' := [(3, .int (nI (j4 + 1))), (2, .int (x2_4 + (F2_ofBrand u (nI j4) a1))), (0, .ref (q 3)), (1, .int a1)]) hx hb dX2_overBrands_19 hl (k := 3) rfl (bInc j4) (by decide) rfl (fun ls hl => ?_)
        refine lv_goto (tgt := 4) hx hb dX2_overBrands_22 (by decide) ?_
        exact ih (j4 + 1) (x2_4 + (F2_ofBrand u (nI j4) a1)) _ _ (by omega) (by omega) (lv_sub hl [2, 3, 1, 0] rfl) hS X (by rw [← hF, L2_overBrands_4, if_neg c_1]) kx
  refine loop4 (8 + 1) 0 0 _ _ (by omega) (by omega) (lv_sub hl [2, 3, 1, 0] rfl) hS _ rfl (fun locs ls hl hS => ?_)
  refine lv_iload_n hx hb dX2_overBrands_25 rfl (lv_at hl 2 rfl) ?_
  exact bret_Ri hx hb hr hS hlocks dX2_overBrands_26 (by rw [← hF, F2_overBrands])
def L2_overBrandsOf_5 (u : bU) (a1 : Int32) (a2 : Int32) : Nat → Nat → Int32 → Int32
  | 0, _, x3_5 => x3_5
  | n5 + 1, j5, x3_5 => (if (8 : Int32) ≤ (nI j5) then x3_5 else (L2_overBrandsOf_5 u a1 a2 n5 (j5 + 1) (x3_5 + (F2_ofShop u a1 (a2 + (nI j5))))))
def F2_overBrandsOf (u : bU) (a1 : Int32) (a2 : Int32) : Int32 := (L2_overBrandsOf_5 u a1 a2 (8 + 1) 0 0)
set_option maxHeartbeats 4000000 in
set_option maxRecDepth 100000 in
theorem C2_overBrandsOf (l : Launch) (D : va_G) (cI cO : ClassId) (q : Nat → Nat) (u : bU) (H0 : Heap) (hP : va_P D vwCl (wC cI cO q u) H0) (a1 : Int32) (a2 : Int32) : Met l yX2_overBrandsOf wsX2_overBrandsOf ({ frames := 2, cells := 0, slots := 0, locals := 43 }) (bP D [(cI, .int), (cO, .object RX2)] H0 [.ref (q 3), .int a1, .int a2]) (bRi H0 (F2_overBrandsOf u a1 a2)) 0 0 (fun _ => False) := by
  refine Met.ofW (cc := cX2_overBrandsOf) (maxL := 5) (ret := (some .int)) (by decide) rfl ?_
  intro p e s m args below meth c s₁ B hml hv
  obtain ⟨rfl, hH, hk⟩ := hv
  subst hH
  have hx := B.exec
  have hb := B.bytes
  have hr := B.returns
  have hts := atoms_spec (ws := wsX2_overBrandsOf) B.pre
  have hown : s.vm.findClass RX2 = some m.cls := findClass_of_methodNamed B.named
  have hlocks := B.notSynchronized
  have hS : va_S (fun _ => False) s.heap s.heap [] := va_S.rf
  have hl := lv_entry ([.ref (q 3), .int a1, .int a2]) (n := 5) (Nat.le_of_ble_eq_true rfl)
  rw [lg_entry_eq]
  generalize (lg_sl ([.ref (q 3), .int a1, .int a2]) ++ List.replicate (5 - (lg_sl ([.ref (q 3), .int a1, .int a2])).length) Slot.unset).toArray = ls at hl ⊢
  have hl : lv_has ls 5 [(0, .ref (q 3)), (1, .int a1), (2, .int a2)] := hl
  generalize hF : F2_overBrandsOf u a1 a2 = tgt
  refine lv_iconst (v := 0) hx hb dX2_overBrandsOf_0 (by decide) ?_
  refine lv_istore_n (lv' := [(3, .int 0), (0, .ref (q 3)), (1, .int a1), (2, .int a2)]) hx hb dX2_overBrandsOf_1 rfl hl (by decide) rfl (fun ls hl => ?_)
  refine lv_iconst (v := 0) hx hb dX2_overBrandsOf_2 (by decide) ?_
  refine lv_istore (lv' := [(4, .int 0), (3, .int 0), (0, .ref (q 3)), (1, .int a1), (2, .int a2)]) hx hb dX2_overBrandsOf_3 hl (by decide) rfl (fun ls hl => ?_)
  have loop5 : ∀ (n5 j5 : Nat) (x3_5 : Int32) (locs : List Loc) (ls : Array Slot), j5 ≤ 8 → 8 + 1 ≤ n5 + j5 → lv_has ls 5 [(0, .ref (q 3)), (1, .int a1), (2, .int a2), (3, .int x3_5), (4, .int (nI j5))] → va_S (fun _ => False) s.heap s.heap locs → ∀ X : Int32, L2_overBrandsOf_5 u a1 a2  n5 j5 x3_5 = X → (∀ (locs : List Loc) (ls : Array Slot), lv_has ls 5 [(0, .ref (q 3)), (1, .int a1), (2, .int a2), (3, .int X)] → va_S (fun _ => False) s.heap s.heap locs → W p l e (headSpec wsX2_overBrandsOf ({ frames := 2, cells := 0, slots := 0, locals := 43 })).room s m ([.ref (q 3), .int a1, .int a2] : List Value).toArray below meth c s.heap locs 0 0 (MQ below (bRi s.heap tgt) ([.ref (q 3), .int a1, .int a2] : List Value).toArray s 0 0 (fun _ => False)) (F0 m 30 ls [])) → W p l e (headSpec wsX2_overBrandsOf ({ frames := 2, cells := 0, slots := 0, locals := 43 })).room s m ([.ref (q 3), .int a1, .int a2] : List Value).toArray below meth c s.heap locs 0 0 (MQ below (bRi s.heap tgt) ([.ref (q 3), .int a1, .int a2] : List Value).toArray s 0 0 (fun _ => False)) (F0 m 5 ls []) := by
    intro n5
    induction n5 with
    | zero => intro j5 x3_5 locs ls hj hn; exact absurd hn (by omega)
    | succ n5 ih =>
      intro j5 x3_5 locs ls hj hn hl hS X hF kx
      refine lv_iload hx hb dX2_overBrandsOf_5 (lv_at hl 4 rfl) ?_
      refine lv_bipush (v := 8) hx hb dX2_overBrandsOf_7 (by decide) ?_
      refine lv_icmp_ge (tgt := 30) hx hb dX2_overBrandsOf_9 (by decide) (fun c_1 => ?_) (fun c_1 => ?_)
      · obtain rfl : X = x3_5 := by rw [← hF, L2_overBrandsOf_5, if_pos c_1]
        exact kx _ _ (lv_sub hl [0, 1, 2, 3] rfl) hS
      · have hlt_2 : j5 < 8 := bLt c_1 (by omega) (by decide)
        refine lv_iload_n hx hb dX2_overBrandsOf_12 rfl (lv_at hl 3 rfl) ?_
        refine lv_aload_n hx hb dX2_overBrandsOf_13 rfl (lv_at hl 0 rfl) ?_
        refine lv_iload_n hx hb dX2_overBrandsOf_14 rfl (lv_at hl 1 rfl) ?_
        refine lv_iload_n hx hb dX2_overBrandsOf_15 rfl (lv_at hl 2 rfl) ?_
        refine lv_iload hx hb dX2_overBrandsOf_16 (lv_at hl 4 rfl) ?_
        refine lv_iadd hx hb dX2_overBrandsOf_18 ?_
        refine bcall_Ri (va_runV (As := [.int a1, .int (a2 + (nI j5))]) (rest := [.int x3_5]) ⟨hx, hb, hml, hown, hts⟩ (C2_ofShop l D cI cO q _ _ hP a1 (a2 + (nI j5))) (cwV 2 hts gX2_overBrandsOf_X2_ofShop rfl rfl rfl ⟨rfl, bd_X2ofShop⟩ ⟨Nat.le_of_ble_eq_true rfl, Nat.le_of_ble_eq_true rfl⟩) (bPV hk (va_recv hk.1 hP (ci := 2) (q0 := 3) rfl (wC_3 _ _ _ _))) rfl rfl hl.1 rfl (lv_room (Nat.le_of_ble_eq_true rfl)) dX2_overBrandsOf_19 ⟨Nat.zero_le _, Nat.zero_le _⟩) hS (fun locs hS => ?_)
        refine lv_iadd hx hb dX2_overBrandsOf_22 ?_
        refine lv_istore_n (lv' := [(3, .int (x3_5 + (F2_ofShop u a1 (a2 + (nI j5))))), (0, .ref (q 3)), (1, .int a1), (2, .int a2), (4, .int (nI j5))]) hx hb dX2_overBrandsOf_23 rfl hl (by decide) rfl (fun ls hl => ?_)
        refine lv_iinc (v := (nI (j5 + 1))) (lv' := [(4, .int (nI (j5 + 1))), (3, .int (x3_5 + (F2_ofShop u a1 (a2 + (nI j5))))), (0, .ref (q 3)), (1, .int a1), (2, .int a2)]) hx hb dX2_overBrandsOf_24 hl (k := 4) rfl (bInc j5) (by decide) rfl (fun ls hl => ?_)
        refine lv_goto (tgt := 5) hx hb dX2_overBrandsOf_27 (by decide) ?_
        exact ih (j5 + 1) (x3_5 + (F2_ofShop u a1 (a2 + (nI j5)))) _ _ (by omega) (by omega) (lv_sub hl [2, 3, 4, 1, 0] rfl) hS X (by rw [← hF, L2_overBrandsOf_5, if_neg c_1]) kx
  refine loop5 (8 + 1) 0 0 _ _ (by omega) (by omega) (lv_sub hl [2, 3, 4, 1, 0] rfl) hS _ rfl (fun locs ls hl hS => ?_)
  refine lv_iload_n hx hb dX2_overBrandsOf_30 rfl (lv_at hl 3 rfl) ?_
  exact bret_Ri hx hb hr hS hlocks dX2_overBrandsOf_31 (by rw [← hF, F2_overBrandsOf])
def F2_brandNumber (u : bU) (a1 : Int32) (a2 : Int32) : Int32 := (if a2 = 3 then (F2_overShops u (10 + a1)) else (if a2 = 4 then (F2_overShops u (20 + a1)) else (F2_ofBrand u a1 a2)))
set_option maxHeartbeats 4000000 in
set_option maxRecDepth 100000 in
theorem C2_brandNumber (l : Launch) (D : va_G) (cI cO : ClassId) (q : Nat → Nat) (u : bU) (H0 : Heap) (hP : va_P D vwCl (wC cI cO q u) H0) (a1 : Int32) (a2 : Int32) : Met l yX2_brandNumber wsX2_brandNumber ({ frames := 3, cells := 0, slots := 0, locals := 66 }) (bP D [(cI, .int), (cO, .object RX2)] H0 [.ref (q 3), .int a1, .int a2]) (bRi H0 (F2_brandNumber u a1 a2)) 0 0 (fun _ => False) := by
  refine Met.ofW (cc := cX2_brandNumber) (maxL := 3) (ret := (some .int)) (by decide) rfl ?_
  intro p e s m args below meth c s₁ B hml hv
  obtain ⟨rfl, hH, hk⟩ := hv
  subst hH
  have hx := B.exec
  have hb := B.bytes
  have hr := B.returns
  have hts := atoms_spec (ws := wsX2_brandNumber) B.pre
  have hown : s.vm.findClass RX2 = some m.cls := findClass_of_methodNamed B.named
  have hlocks := B.notSynchronized
  have hS : va_S (fun _ => False) s.heap s.heap [] := va_S.rf
  have hl := lv_entry ([.ref (q 3), .int a1, .int a2]) (n := 3) (Nat.le_of_ble_eq_true rfl)
  rw [lg_entry_eq]
  generalize (lg_sl ([.ref (q 3), .int a1, .int a2]) ++ List.replicate (3 - (lg_sl ([.ref (q 3), .int a1, .int a2])).length) Slot.unset).toArray = ls at hl ⊢
  have hl : lv_has ls 3 [(0, .ref (q 3)), (1, .int a1), (2, .int a2)] := hl
  generalize hF : F2_brandNumber u a1 a2 = tgt
  refine lv_iload_n hx hb dX2_brandNumber_0 rfl (lv_at hl 2 rfl) ?_
  by_cases c_1 : a2 = 3
  · refine lv_lookup (off := 27) (tgt := 28) hx hb dX2_brandNumber_1 (by decide) (by rw [c_1]; decide) (by decide) ?_
    refine lv_aload_n hx hb dX2_brandNumber_28 rfl (lv_at hl 0 rfl) ?_
    refine lv_bipush (v := 10) hx hb dX2_brandNumber_29 (by decide) ?_
    refine lv_iload_n hx hb dX2_brandNumber_31 rfl (lv_at hl 1 rfl) ?_
    refine lv_iadd hx hb dX2_brandNumber_32 ?_
    refine bcall_Ri (va_runV (As := [.int (10 + a1)]) (rest := []) ⟨hx, hb, hml, hown, hts⟩ (C2_overShops l D cI cO q _ _ hP (10 + a1)) (cwV 1 hts gX2_brandNumber_X2_overShops rfl rfl rfl ⟨rfl, bd_X2overShops⟩ ⟨Nat.le_of_ble_eq_true rfl, Nat.le_of_ble_eq_true rfl⟩) (bPV hk (va_recv hk.1 hP (ci := 2) (q0 := 3) rfl (wC_3 _ _ _ _))) rfl rfl hl.1 rfl (lv_room (Nat.le_of_ble_eq_true rfl)) dX2_brandNumber_33 ⟨Nat.zero_le _, Nat.zero_le _⟩) hS (fun locs hS => ?_)
    exact bret_Ri hx hb hr hS hlocks dX2_brandNumber_36 (by rw [← hF, F2_brandNumber, if_pos c_1])
  · by_cases c_2 : a2 = 4
    · refine lv_lookup (off := 36) (tgt := 37) hx hb dX2_brandNumber_1 (by decide) (by rw [c_2]; decide) (by decide) ?_
      refine lv_aload_n hx hb dX2_brandNumber_37 rfl (lv_at hl 0 rfl) ?_
      refine lv_bipush (v := 20) hx hb dX2_brandNumber_38 (by decide) ?_
      refine lv_iload_n hx hb dX2_brandNumber_40 rfl (lv_at hl 1 rfl) ?_
      refine lv_iadd hx hb dX2_brandNumber_41 ?_
      refine bcall_Ri (va_runV (As := [.int (20 + a1)]) (rest := []) ⟨hx, hb, hml, hown, hts⟩ (C2_overShops l D cI cO q _ _ hP (20 + a1)) (cwV 1 hts gX2_brandNumber_X2_overShops rfl rfl rfl ⟨rfl, bd_X2overShops⟩ ⟨Nat.le_of_ble_eq_true rfl, Nat.le_of_ble_eq_true rfl⟩) (bPV hk (va_recv hk.1 hP (ci := 2) (q0 := 3) rfl (wC_3 _ _ _ _))) rfl rfl hl.1 rfl (lv_room (Nat.le_of_ble_eq_true rfl)) dX2_brandNumber_42 ⟨Nat.zero_le _, Nat.zero_le _⟩) hS (fun locs hS => ?_)
      exact bret_Ri hx hb hr hS hlocks dX2_brandNumber_45 (by rw [← hF, F2_brandNumber, if_neg c_1, if_pos c_2])
    · refine lv_lookup (off := 45) (tgt := 46) hx hb dX2_brandNumber_1 (by decide) (by show Op.lookupswitch.offset [(3, 27), (4, 36)] (45) _ = _; rw [lv_osw (a := 3) c_1 rfl, lv_osw (a := 4) c_2 rfl]; rfl) (by decide) ?_
      refine lv_aload_n hx hb dX2_brandNumber_46 rfl (lv_at hl 0 rfl) ?_
      refine lv_iload_n hx hb dX2_brandNumber_47 rfl (lv_at hl 1 rfl) ?_
      refine lv_iload_n hx hb dX2_brandNumber_48 rfl (lv_at hl 2 rfl) ?_
      refine bcall_Ri (va_runV (As := [.int a1, .int a2]) (rest := []) ⟨hx, hb, hml, hown, hts⟩ (C2_ofBrand l D cI cO q _ _ hP a1 a2) (cwV 2 hts gX2_brandNumber_X2_ofBrand rfl rfl rfl ⟨rfl, bd_X2ofBrand⟩ ⟨Nat.le_of_ble_eq_true rfl, Nat.le_of_ble_eq_true rfl⟩) (bPV hk (va_recv hk.1 hP (ci := 2) (q0 := 3) rfl (wC_3 _ _ _ _))) rfl rfl hl.1 rfl (lv_room (Nat.le_of_ble_eq_true rfl)) dX2_brandNumber_49 ⟨Nat.zero_le _, Nat.zero_le _⟩) hS (fun locs hS => ?_)
      exact bret_Ri hx hb hr hS hlocks dX2_brandNumber_52 (by rw [← hF, F2_brandNumber, if_neg c_1, if_neg c_2])
def F2_shopNumber (u : bU) (a1 : Int32) (a2 : Int32) : Int32 := (if a2 = 2 then (F2_overBrandsOf u a1 10) else (if a2 = 3 then (F2_overBrandsOf u a1 20) else (F2_ofShop u a1 a2)))
set_option maxHeartbeats 4000000 in
set_option maxRecDepth 100000 in
theorem C2_shopNumber (l : Launch) (D : va_G) (cI cO : ClassId) (q : Nat → Nat) (u : bU) (H0 : Heap) (hP : va_P D vwCl (wC cI cO q u) H0) (a1 : Int32) (a2 : Int32) : Met l yX2_shopNumber wsX2_shopNumber ({ frames := 3, cells := 0, slots := 0, locals := 67 }) (bP D [(cI, .int), (cO, .object RX2)] H0 [.ref (q 3), .int a1, .int a2]) (bRi H0 (F2_shopNumber u a1 a2)) 0 0 (fun _ => False) := by
  refine Met.ofW (cc := cX2_shopNumber) (maxL := 3) (ret := (some .int)) (by decide) rfl ?_
  intro p e s m args below meth c s₁ B hml hv
  obtain ⟨rfl, hH, hk⟩ := hv
  subst hH
  have hx := B.exec
  have hb := B.bytes
  have hr := B.returns
  have hts := atoms_spec (ws := wsX2_shopNumber) B.pre
  have hown : s.vm.findClass RX2 = some m.cls := findClass_of_methodNamed B.named
  have hlocks := B.notSynchronized
  have hS : va_S (fun _ => False) s.heap s.heap [] := va_S.rf
  have hl := lv_entry ([.ref (q 3), .int a1, .int a2]) (n := 3) (Nat.le_of_ble_eq_true rfl)
  rw [lg_entry_eq]
  generalize (lg_sl ([.ref (q 3), .int a1, .int a2]) ++ List.replicate (3 - (lg_sl ([.ref (q 3), .int a1, .int a2])).length) Slot.unset).toArray = ls at hl ⊢
  have hl : lv_has ls 3 [(0, .ref (q 3)), (1, .int a1), (2, .int a2)] := hl
  generalize hF : F2_shopNumber u a1 a2 = tgt
  refine lv_iload_n hx hb dX2_shopNumber_0 rfl (lv_at hl 2 rfl) ?_
  by_cases c_1 : a2 = 2
  · refine lv_lookup (off := 27) (tgt := 28) hx hb dX2_shopNumber_1 (by decide) (by rw [c_1]; decide) (by decide) ?_
    refine lv_aload_n hx hb dX2_shopNumber_28 rfl (lv_at hl 0 rfl) ?_
    refine lv_iload_n hx hb dX2_shopNumber_29 rfl (lv_at hl 1 rfl) ?_
    refine lv_bipush (v := 10) hx hb dX2_shopNumber_30 (by decide) ?_
    refine bcall_Ri (va_runV (As := [.int a1, .int 10]) (rest := []) ⟨hx, hb, hml, hown, hts⟩ (C2_overBrandsOf l D cI cO q _ _ hP a1 10) (cwV 2 hts gX2_shopNumber_X2_overBrandsOf rfl rfl rfl ⟨rfl, bd_X2overBrandsOf⟩ ⟨Nat.le_of_ble_eq_true rfl, Nat.le_of_ble_eq_true rfl⟩) (bPV hk (va_recv hk.1 hP (ci := 2) (q0 := 3) rfl (wC_3 _ _ _ _))) rfl rfl hl.1 rfl (lv_room (Nat.le_of_ble_eq_true rfl)) dX2_shopNumber_32 ⟨Nat.zero_le _, Nat.zero_le _⟩) hS (fun locs hS => ?_)
    exact bret_Ri hx hb hr hS hlocks dX2_shopNumber_35 (by rw [← hF, F2_shopNumber, if_pos c_1])
  · by_cases c_2 : a2 = 3
    · refine lv_lookup (off := 35) (tgt := 36) hx hb dX2_shopNumber_1 (by decide) (by rw [c_2]; decide) (by decide) ?_
      refine lv_aload_n hx hb dX2_shopNumber_36 rfl (lv_at hl 0 rfl) ?_
      refine lv_iload_n hx hb dX2_shopNumber_37 rfl (lv_at hl 1 rfl) ?_
      refine lv_bipush (v := 20) hx hb dX2_shopNumber_38 (by decide) ?_
      refine bcall_Ri (va_runV (As := [.int a1, .int 20]) (rest := []) ⟨hx, hb, hml, hown, hts⟩ (C2_overBrandsOf l D cI cO q _ _ hP a1 20) (cwV 2 hts gX2_shopNumber_X2_overBrandsOf rfl rfl rfl ⟨rfl, bd_X2overBrandsOf⟩ ⟨Nat.le_of_ble_eq_true rfl, Nat.le_of_ble_eq_true rfl⟩) (bPV hk (va_recv hk.1 hP (ci := 2) (q0 := 3) rfl (wC_3 _ _ _ _))) rfl rfl hl.1 rfl (lv_room (Nat.le_of_ble_eq_true rfl)) dX2_shopNumber_40 ⟨Nat.zero_le _, Nat.zero_le _⟩) hS (fun locs hS => ?_)
      exact bret_Ri hx hb hr hS hlocks dX2_shopNumber_43 (by rw [← hF, F2_shopNumber, if_neg c_1, if_pos c_2])
    · refine lv_lookup (off := 43) (tgt := 44) hx hb dX2_shopNumber_1 (by decide) (by show Op.lookupswitch.offset [(2, 27), (3, 35)] (43) _ = _; rw [lv_osw (a := 2) c_1 rfl, lv_osw (a := 3) c_2 rfl]; rfl) (by decide) ?_
      refine lv_aload_n hx hb dX2_shopNumber_44 rfl (lv_at hl 0 rfl) ?_
      refine lv_iload_n hx hb dX2_shopNumber_45 rfl (lv_at hl 1 rfl) ?_
      refine lv_iload_n hx hb dX2_shopNumber_46 rfl (lv_at hl 2 rfl) ?_
      refine bcall_Ri (va_runV (As := [.int a1, .int a2]) (rest := []) ⟨hx, hb, hml, hown, hts⟩ (C2_ofShop l D cI cO q _ _ hP a1 a2) (cwV 2 hts gX2_shopNumber_X2_ofShop rfl rfl rfl ⟨rfl, bd_X2ofShop⟩ ⟨Nat.le_of_ble_eq_true rfl, Nat.le_of_ble_eq_true rfl⟩) (bPV hk (va_recv hk.1 hP (ci := 2) (q0 := 3) rfl (wC_3 _ _ _ _))) rfl rfl hl.1 rfl (lv_room (Nat.le_of_ble_eq_true rfl)) dX2_shopNumber_47 ⟨Nat.zero_le _, Nat.zero_le _⟩) hS (fun locs hS => ?_)
      exact bret_Ri hx hb hr hS hlocks dX2_shopNumber_50 (by rw [← hF, F2_shopNumber, if_neg c_1, if_neg c_2])
def F2_countNumber (u : bU) (a1 : Int32) : Int32 := (if a1 = 3 then (F2_overShops u 1) else (if a1 = 7 then (F2_overBrands u 5) else (if a1 = 8 then (F2_overBrands u 6) else (F2_ofAll u a1))))
set_option maxHeartbeats 4000000 in
set_option maxRecDepth 100000 in
theorem C2_countNumber (l : Launch) (D : va_G) (cI cO : ClassId) (q : Nat → Nat) (u : bU) (H0 : Heap) (hP : va_P D vwCl (wC cI cO q u) H0) (a1 : Int32) : Met l yX2_countNumber wsX2_countNumber ({ frames := 3, cells := 0, slots := 0, locals := 66 }) (bP D [(cI, .int), (cO, .object RX2)] H0 [.ref (q 3), .int a1]) (bRi H0 (F2_countNumber u a1)) 0 0 (fun _ => False) := by
  refine Met.ofW (cc := cX2_countNumber) (maxL := 2) (ret := (some .int)) (by decide) rfl ?_
  intro p e s m args below meth c s₁ B hml hv
  obtain ⟨rfl, hH, hk⟩ := hv
  subst hH
  have hx := B.exec
  have hb := B.bytes
  have hr := B.returns
  have hts := atoms_spec (ws := wsX2_countNumber) B.pre
  have hown : s.vm.findClass RX2 = some m.cls := findClass_of_methodNamed B.named
  have hlocks := B.notSynchronized
  have hS : va_S (fun _ => False) s.heap s.heap [] := va_S.rf
  have hl := lv_entry ([.ref (q 3), .int a1]) (n := 2) (Nat.le_of_ble_eq_true rfl)
  rw [lg_entry_eq]
  generalize (lg_sl ([.ref (q 3), .int a1]) ++ List.replicate (2 - (lg_sl ([.ref (q 3), .int a1])).length) Slot.unset).toArray = ls at hl ⊢
  have hl : lv_has ls 2 [(0, .ref (q 3)), (1, .int a1)] := hl
  generalize hF : F2_countNumber u a1 = tgt
  refine lv_iload_n hx hb dX2_countNumber_0 rfl (lv_at hl 1 rfl) ?_
  by_cases c_1 : a1 = 3
  · refine lv_lookup (off := 35) (tgt := 36) hx hb dX2_countNumber_1 (by decide) (by rw [c_1]; decide) (by decide) ?_
    refine lv_aload_n hx hb dX2_countNumber_36 rfl (lv_at hl 0 rfl) ?_
    refine lv_iconst (v := 1) hx hb dX2_countNumber_37 (by decide) ?_
    refine bcall_Ri (va_runV (As := [.int 1]) (rest := []) ⟨hx, hb, hml, hown, hts⟩ (C2_overShops l D cI cO q _ _ hP 1) (cwV 1 hts gX2_countNumber_X2_overShops rfl rfl rfl ⟨rfl, bd_X2overShops⟩ ⟨Nat.le_of_ble_eq_true rfl, Nat.le_of_ble_eq_true rfl⟩) (bPV hk (va_recv hk.1 hP (ci := 2) (q0 := 3) rfl (wC_3 _ _ _ _))) rfl rfl hl.1 rfl (lv_room (Nat.le_of_ble_eq_true rfl)) dX2_countNumber_38 ⟨Nat.zero_le _, Nat.zero_le _⟩) hS (fun locs hS => ?_)
    exact bret_Ri hx hb hr hS hlocks dX2_countNumber_41 (by rw [← hF, F2_countNumber, if_pos c_1])
  · by_cases c_2 : a1 = 7
    · refine lv_lookup (off := 41) (tgt := 42) hx hb dX2_countNumber_1 (by decide) (by rw [c_2]; decide) (by decide) ?_
      refine lv_aload_n hx hb dX2_countNumber_42 rfl (lv_at hl 0 rfl) ?_
      refine lv_iconst (v := 5) hx hb dX2_countNumber_43 (by decide) ?_
      refine bcall_Ri (va_runV (As := [.int 5]) (rest := []) ⟨hx, hb, hml, hown, hts⟩ (C2_overBrands l D cI cO q _ _ hP 5) (cwV 1 hts gX2_countNumber_X2_overBrands rfl rfl rfl ⟨rfl, bd_X2overBrands⟩ ⟨Nat.le_of_ble_eq_true rfl, Nat.le_of_ble_eq_true rfl⟩) (bPV hk (va_recv hk.1 hP (ci := 2) (q0 := 3) rfl (wC_3 _ _ _ _))) rfl rfl hl.1 rfl (lv_room (Nat.le_of_ble_eq_true rfl)) dX2_countNumber_44 ⟨Nat.zero_le _, Nat.zero_le _⟩) hS (fun locs hS => ?_)
      exact bret_Ri hx hb hr hS hlocks dX2_countNumber_47 (by rw [← hF, F2_countNumber, if_neg c_1, if_pos c_2])
    · by_cases c_3 : a1 = 8
      · refine lv_lookup (off := 47) (tgt := 48) hx hb dX2_countNumber_1 (by decide) (by rw [c_3]; decide) (by decide) ?_
        refine lv_aload_n hx hb dX2_countNumber_48 rfl (lv_at hl 0 rfl) ?_
        refine lv_bipush (v := 6) hx hb dX2_countNumber_49 (by decide) ?_
        refine bcall_Ri (va_runV (As := [.int 6]) (rest := []) ⟨hx, hb, hml, hown, hts⟩ (C2_overBrands l D cI cO q _ _ hP 6) (cwV 1 hts gX2_countNumber_X2_overBrands rfl rfl rfl ⟨rfl, bd_X2overBrands⟩ ⟨Nat.le_of_ble_eq_true rfl, Nat.le_of_ble_eq_true rfl⟩) (bPV hk (va_recv hk.1 hP (ci := 2) (q0 := 3) rfl (wC_3 _ _ _ _))) rfl rfl hl.1 rfl (lv_room (Nat.le_of_ble_eq_true rfl)) dX2_countNumber_51 ⟨Nat.zero_le _, Nat.zero_le _⟩) hS (fun locs hS => ?_)
        exact bret_Ri hx hb hr hS hlocks dX2_countNumber_54 (by rw [← hF, F2_countNumber, if_neg c_1, if_neg c_2, if_pos c_3])
      · refine lv_lookup (off := 54) (tgt := 55) hx hb dX2_countNumber_1 (by decide) (by show Op.lookupswitch.offset [(3, 35), (7, 41), (8, 47)] (54) _ = _; rw [lv_osw (a := 3) c_1 rfl, lv_osw (a := 7) c_2 rfl, lv_osw (a := 8) c_3 rfl]; rfl) (by decide) ?_
        refine lv_aload_n hx hb dX2_countNumber_55 rfl (lv_at hl 0 rfl) ?_
        refine lv_iload_n hx hb dX2_countNumber_56 rfl (lv_at hl 1 rfl) ?_
        refine bcall_Ri (va_runV (As := [.int a1]) (rest := []) ⟨hx, hb, hml, hown, hts⟩ (C2_ofAll l D cI cO q _ _ hP a1) (cwV 1 hts gX2_countNumber_X2_ofAll rfl rfl rfl ⟨rfl, bd_X2ofAll⟩ ⟨Nat.le_of_ble_eq_true rfl, Nat.le_of_ble_eq_true rfl⟩) (bPV hk (va_recv hk.1 hP (ci := 2) (q0 := 3) rfl (wC_3 _ _ _ _))) rfl rfl hl.1 rfl (lv_room (Nat.le_of_ble_eq_true rfl)) dX2_countNumber_57 ⟨Nat.zero_le _, Nat.zero_le _⟩) hS (fun locs hS => ?_)
        exact bret_Ri hx hb hr hS hlocks dX2_countNumber_60 (by rw [← hF, F2_countNumber, if_neg c_1, if_neg c_2, if_neg c_3])
def L2_brandSum1_15 (u : bU) (j5 : Nat) : Nat → Nat → Int32 → Int32
  | 0, _, x3_15 => x3_15
  | n15 + 1, j15, x3_15 => (if (9 : Int32) < (nI j15) then x3_15 else (L2_brandSum1_15 u j5 n15 (j15 + 1) (x3_15 + (F2_brandNumber u (nI j5) (nI j15)))))
def L2_brandSum1_5 (u : bU) : Nat → Nat → Int32 → Int32
  | 0, _, x3_5 => x3_5
  | n5 + 1, j5, x3_5 => (if (8 : Int32) ≤ (nI j5) then x3_5 else (L2_brandSum1_5 u n5 (j5 + 1) (L2_brandSum1_15 u j5 (10 + 1) 1 x3_5)))
def F2_brandSum1 (u : bU) : Int32 := (L2_brandSum1_5 u (8 + 1) 0 0)
set_option maxHeartbeats 4000000 in
set_option maxRecDepth 100000 in
theorem C2_brandSum1 (l : Launch) (D : va_G) (cI cO : ClassId) (q : Nat → Nat) (u : bU) (H0 : Heap) (hP : va_P D vwCl (wC cI cO q u) H0) : Met l yX2_brandSum wsX2_brandSum ({ frames := 4, cells := 0, slots := 0, locals := 88 }) (bP D [(cI, .int), (cO, .object RX2)] H0 [.ref (q 3), .int 1, .int 9]) (bRi H0 (F2_brandSum1 u)) 0 0 (fun _ => False) := by
  refine Met.ofW (cc := cX2_brandSum) (maxL := 6) (ret := (some .int)) (by decide) rfl ?_
  intro p e s m args below meth c s₁ B hml hv
  obtain ⟨rfl, hH, hk⟩ := hv
  subst hH
  have hx := B.exec
  have hb := B.bytes
  have hr := B.returns
  have hts := atoms_spec (ws := wsX2_brandSum) B.pre
  have hown : s.vm.findClass RX2 = some m.cls := findClass_of_methodNamed B.named
  have hlocks := B.notSynchronized
  have hS : va_S (fun _ => False) s.heap s.heap [] := va_S.rf
  have hl := lv_entry ([.ref (q 3), .int 1, .int 9]) (n := 6) (Nat.le_of_ble_eq_true rfl)
  rw [lg_entry_eq]
  generalize (lg_sl ([.ref (q 3), .int 1, .int 9]) ++ List.replicate (6 - (lg_sl ([.ref (q 3), .int 1, .int 9])).length) Slot.unset).toArray = ls at hl ⊢
  have hl : lv_has ls 6 [(0, .ref (q 3)), (1, .int 1), (2, .int 9)] := hl
  generalize hF : F2_brandSum1 u = tgt
  refine lv_iconst (v := 0) hx hb dX2_brandSum_0 (by decide) ?_
  refine lv_istore_n (lv' := [(3, .int 0), (0, .ref (q 3)), (1, .int 1), (2, .int 9)]) hx hb dX2_brandSum_1 rfl hl (by decide) rfl (fun ls hl => ?_)
  refine lv_iconst (v := 0) hx hb dX2_brandSum_2 (by decide) ?_
  refine lv_istore (lv' := [(4, .int 0), (3, .int 0), (0, .ref (q 3)), (1, .int 1), (2, .int 9)]) hx hb dX2_brandSum_3 hl (by decide) rfl (fun ls hl => ?_)
  have loop5 : ∀ (n5 j5 : Nat) (x3_5 : Int32) (locs : List Loc) (ls : Array Slot), j5 ≤ 8 → 8 + 1 ≤ n5 + j5 → lv_has ls 6 [(0, .ref (q 3)), (1, .int 1), (2, .int 9), (3, .int x3_5), (4, .int (nI j5))] → va_S (fun _ => False) s.heap s.heap locs → ∀ X : Int32, L2_brandSum1_5 u  n5 j5 x3_5 = X → (∀ (locs : List Loc) (ls : Array Slot), lv_has ls 6 [(0, .ref (q 3)), (1, .int 1), (2, .int 9), (3, .int X)] → va_S (fun _ => False) s.heap s.heap locs → W p l e (headSpec wsX2_brandSum ({ frames := 4, cells := 0, slots := 0, locals := 88 })).room s m ([.ref (q 3), .int 1, .int 9] : List Value).toArray below meth c s.heap locs 0 0 (MQ below (bRi s.heap tgt) ([.ref (q 3), .int 1, .int 9] : List Value).toArray s 0 0 (fun _ => False)) (F0 m 44 ls [])) → W p l e (headSpec wsX2_brandSum ({ frames := 4, cells := 0, slots := 0, locals := 88 })).room s m ([.ref (q 3), .int 1, .int 9] : List Value).toArray below meth c s.heap locs 0 0 (MQ below (bRi s.heap tgt) ([.ref (q 3), .int 1, .int 9] : List Value).toArray s 0 0 (fun _ => False)) (F0 m 5 ls []) := by
    intro n5
    induction n5 with
    | zero => intro j5 x3_5 locs ls hj hn; exact absurd hn (by omega)
    | succ n5 ih =>
      intro j5 x3_5 locs ls hj hn hl hS X hF kx
      refine lv_iload hx hb dX2_brandSum_5 (lv_at hl 4 rfl) ?_
      refine lv_bipush (v := 8) hx hb dX2_brandSum_7 (by decide) ?_
      refine lv_icmp_ge (tgt := 44) hx hb dX2_brandSum_9 (by decide) (fun c_1 => ?_) (fun c_1 => ?_)
      · obtain rfl : X = x3_5 := by rw [← hF, L2_brandSum1_5, if_pos c_1]
        exact kx _ _ (lv_sub hl [0, 1, 2, 3] rfl) hS
      · have hlt_2 : j5 < 8 := bLt c_1 (by omega) (by decide)
        refine lv_iload_n hx hb dX2_brandSum_12 rfl (lv_at hl 1 rfl) ?_
        refine lv_istore (lv' := [(5, .int 1), (0, .ref (q 3)), (1, .int 1), (2, .int 9), (3, .int x3_5), (4, .int (nI j5))]) hx hb dX2_brandSum_13 hl (by decide) rfl (fun ls hl => ?_)
        have loop15 : ∀ (n15 j15 : Nat) (x3_15 : Int32) (locs : List Loc) (ls : Array Slot), j15 ≤ 10 → 10 + 1 ≤ n15 + j15 → lv_has ls 6 [(0, .ref (q 3)), (1, .int 1), (2, .int 9), (3, .int x3_15), (4, .int (nI j5)), (5, .int (nI j15))] → va_S (fun _ => False) s.heap s.heap locs → ∀ X : Int32, L2_brandSum1_15 u j5  n15 j15 x3_15 = X → (∀ (locs : List Loc) (ls : Array Slot), lv_has ls 6 [(0, .ref (q 3)), (1, .int 1), (2, .int 9), (3, .int X), (4, .int (nI j5))] → va_S (fun _ => False) s.heap s.heap locs → W p l e (headSpec wsX2_brandSum ({ frames := 4, cells := 0, slots := 0, locals := 88 })).room s m ([.ref (q 3), .int 1, .int 9] : List Value).toArray below meth c s.heap locs 0 0 (MQ below (bRi s.heap tgt) ([.ref (q 3), .int 1, .int 9] : List Value).toArray s 0 0 (fun _ => False)) (F0 m 38 ls [])) → W p l e (headSpec wsX2_brandSum ({ frames := 4, cells := 0, slots := 0, locals := 88 })).room s m ([.ref (q 3), .int 1, .int 9] : List Value).toArray below meth c s.heap locs 0 0 (MQ below (bRi s.heap tgt) ([.ref (q 3), .int 1, .int 9] : List Value).toArray s 0 0 (fun _ => False)) (F0 m 15 ls []) := by
          intro n15
          induction n15 with
          | zero => intro j15 x3_15 locs ls hj hn; exact absurd hn (by omega)
          | succ n15 ih =>
            intro j15 x3_15 locs ls hj hn hl hS X hF kx
            refine lv_iload hx hb dX2_brandSum_15 (lv_at hl 5 rfl) ?_
            refine lv_iload_n hx hb dX2_brandSum_17 rfl (lv_at hl 2 rfl) ?_
            refine lv_icmp_gt (tgt := 38) hx hb dX2_brandSum_18 (by decide) (fun c_3 => ?_) (fun c_3 => ?_)
            · obtain rfl : X = x3_15 := by rw [← hF, L2_brandSum1_15, if_pos c_3]
              exact kx _ _ (lv_sub hl [0, 1, 2, 3, 4] rfl) hS
            · have hlt_4 : j15 < 10 := bLtG c_3 (by omega) (by decide)
              refine lv_iload_n hx hb dX2_brandSum_21 rfl (lv_at hl 3 rfl) ?_
              refine lv_aload_n hx hb dX2_brandSum_22 rfl (lv_at hl 0 rfl) ?_
              refine lv_iload hx hb dX2_brandSum_23 (lv_at hl 4 rfl) ?_
              refine lv_iload hx hb dX2_brandSum_25 (lv_at hl 5 rfl) ?_
              refine bcall_Ri (va_runV (As := [.int (nI j5), .int (nI j15)]) (rest := [.int x3_15]) ⟨hx, hb, hml, hown, hts⟩ (C2_brandNumber l D cI cO q _ _ hP (nI j5) (nI j15)) (cwV 2 hts gX2_brandSum_X2_brandNumber rfl rfl rfl ⟨rfl, bd_X2brandNumber⟩ ⟨Nat.le_of_ble_eq_true rfl, Nat.le_of_ble_eq_true rfl⟩) (bPV hk (va_recv hk.1 hP (ci := 2) (q0 := 3) rfl (wC_3 _ _ _ _))) rfl rfl hl.1 rfl (lv_room (Nat.le_of_ble_eq_true rfl)) dX2_brandSum_27 ⟨Nat.zero_le _, Nat.zero_le _⟩) hS (fun locs hS => ?_)
              refine lv_iadd hx hb dX2_brandSum_30 ?_
              refine lv_istore_n (lv' := [(3, .int (x3_15 + (F2_brandNumber u (nI j5) (nI j15)))), (0, .ref (q 3)), (1, .int 1), (2, .int 9), (4, .int (nI j5)), (5, .int (nI j15))]) hx hb dX2_brandSum_31 rfl hl (by decide) rfl (fun ls hl => ?_)
              refine lv_iinc (v := (nI (j15 + 1))) (lv' := [(5, .int (nI (j15 + 1))), (3, .int (x3_15 + (F2_brandNumber u (nI j5) (nI j15)))), (0, .ref (q 3)), (1, .int 1), (2, .int 9), (4, .int (nI j5))]) hx hb dX2_brandSum_32 hl (k := 5) rfl (bInc j15) (by decide) rfl (fun ls hl => ?_)
              refine lv_goto (tgt := 15) hx hb dX2_brandSum_35 (by decide) ?_
              exact ih (j15 + 1) (x3_15 + (F2_brandNumber u (nI j5) (nI j15))) _ _ (by omega) (by omega) (lv_sub hl [2, 3, 4, 1, 5, 0] rfl) hS X (by rw [← hF, L2_brandSum1_15, if_neg c_3]) kx
        refine loop15 (10 + 1) 1 x3_5 _ _ (by omega) (by omega) (lv_sub hl [1, 2, 3, 4, 5, 0] rfl) hS _ rfl (fun locs ls hl hS => ?_)
        refine lv_iinc (v := (nI (j5 + 1))) (lv' := [(4, .int (nI (j5 + 1))), (0, .ref (q 3)), (1, .int 1), (2, .int 9), (3, .int (L2_brandSum1_15 u j5 (10 + 1) 1 x3_5))]) hx hb dX2_brandSum_38 hl (k := 4) rfl (bInc j5) (by decide) rfl (fun ls hl => ?_)
        refine lv_goto (tgt := 5) hx hb dX2_brandSum_41 (by decide) ?_
        exact ih (j5 + 1) (L2_brandSum1_15 u j5 (10 + 1) 1 x3_5) _ _ (by omega) (by omega) (lv_sub hl [1, 2, 3, 4, 0] rfl) hS X (by rw [← hF, L2_brandSum1_5, if_neg c_1]) kx
  refine loop5 (8 + 1) 0 0 _ _ (by omega) (by omega) (lv_sub hl [2, 3, 4, 1, 0] rfl) hS _ rfl (fun locs ls hl hS => ?_)
  refine lv_iload_n hx hb dX2_brandSum_44 rfl (lv_at hl 3 rfl) ?_
  exact bret_Ri hx hb hr hS hlocks dX2_brandSum_45 (by rw [← hF, F2_brandSum1])
def L2_brandSum7_15 (u : bU) (j5 : Nat) : Nat → Nat → Int32 → Int32
  | 0, _, x3_15 => x3_15
  | n15 + 1, j15, x3_15 => (if (9 : Int32) < (nI j15) then x3_15 else (L2_brandSum7_15 u j5 n15 (j15 + 1) (x3_15 + (F2_brandNumber u (nI j5) (nI j15)))))
def L2_brandSum7_5 (u : bU) : Nat → Nat → Int32 → Int32
  | 0, _, x3_5 => x3_5
  | n5 + 1, j5, x3_5 => (if (8 : Int32) ≤ (nI j5) then x3_5 else (L2_brandSum7_5 u n5 (j5 + 1) (L2_brandSum7_15 u j5 (10 + 1) 7 x3_5)))
def F2_brandSum7 (u : bU) : Int32 := (L2_brandSum7_5 u (8 + 1) 0 0)
set_option maxHeartbeats 4000000 in
set_option maxRecDepth 100000 in
theorem C2_brandSum7 (l : Launch) (D : va_G) (cI cO : ClassId) (q : Nat → Nat) (u : bU) (H0 : Heap) (hP : va_P D vwCl (wC cI cO q u) H0) : Met l yX2_brandSum wsX2_brandSum ({ frames := 4, cells := 0, slots := 0, locals := 88 }) (bP D [(cI, .int), (cO, .object RX2)] H0 [.ref (q 3), .int 7, .int 9]) (bRi H0 (F2_brandSum7 u)) 0 0 (fun _ => False) := by
  refine Met.ofW (cc := cX2_brandSum) (maxL := 6) (ret := (some .int)) (by decide) rfl ?_
  intro p e s m args below meth c s₁ B hml hv
  obtain ⟨rfl, hH, hk⟩ := hv
  subst hH
  have hx := B.exec
  have hb := B.bytes
  have hr := B.returns
  have hts := atoms_spec (ws := wsX2_brandSum) B.pre
  have hown : s.vm.findClass RX2 = some m.cls := findClass_of_methodNamed B.named
  have hlocks := B.notSynchronized
  have hS : va_S (fun _ => False) s.heap s.heap [] := va_S.rf
  have hl := lv_entry ([.ref (q 3), .int 7, .int 9]) (n := 6) (Nat.le_of_ble_eq_true rfl)
  rw [lg_entry_eq]
  generalize (lg_sl ([.ref (q 3), .int 7, .int 9]) ++ List.replicate (6 - (lg_sl ([.ref (q 3), .int 7, .int 9])).length) Slot.unset).toArray = ls at hl ⊢
  have hl : lv_has ls 6 [(0, .ref (q 3)), (1, .int 7), (2, .int 9)] := hl
  generalize hF : F2_brandSum7 u = tgt
  refine lv_iconst (v := 0) hx hb dX2_brandSum_0 (by decide) ?_
  refine lv_istore_n (lv' := [(3, .int 0), (0, .ref (q 3)), (1, .int 7), (2, .int 9)]) hx hb dX2_brandSum_1 rfl hl (by decide) rfl (fun ls hl => ?_)
  refine lv_iconst (v := 0) hx hb dX2_brandSum_2 (by decide) ?_
  refine lv_istore (lv' := [(4, .int 0), (3, .int 0), (0, .ref (q 3)), (1, .int 7), (2, .int 9)]) hx hb dX2_brandSum_3 hl (by decide) rfl (fun ls hl => ?_)
  have loop5 : ∀ (n5 j5 : Nat) (x3_5 : Int32) (locs : List Loc) (ls : Array Slot), j5 ≤ 8 → 8 + 1 ≤ n5 + j5 → lv_has ls 6 [(0, .ref (q 3)), (1, .int 7), (2, .int 9), (3, .int x3_5), (4, .int (nI j5))] → va_S (fun _ => False) s.heap s.heap locs → ∀ X : Int32, L2_brandSum7_5 u  n5 j5 x3_5 = X → (∀ (locs : List Loc) (ls : Array Slot), lv_has ls 6 [(0, .ref (q 3)), (1, .int 7), (2, .int 9), (3, .int X)] → va_S (fun _ => False) s.heap s.heap locs → W p l e (headSpec wsX2_brandSum ({ frames := 4, cells := 0, slots := 0, locals := 88 })).room s m ([.ref (q 3), .int 7, .int 9] : List Value).toArray below meth c s.heap locs 0 0 (MQ below (bRi s.heap tgt) ([.ref (q 3), .int 7, .int 9] : List Value).toArray s 0 0 (fun _ => False)) (F0 m 44 ls [])) → W p l e (headSpec wsX2_brandSum ({ frames := 4, cells := 0, slots := 0, locals := 88 })).room s m ([.ref (q 3), .int 7, .int 9] : List Value).toArray below meth c s.heap locs 0 0 (MQ below (bRi s.heap tgt) ([.ref (q 3), .int 7, .int 9] : List Value).toArray s 0 0 (fun _ => False)) (F0 m 5 ls []) := by
    intro n5
    induction n5 with
    | zero => intro j5 x3_5 locs ls hj hn; exact absurd hn (by omega)
    | succ n5 ih =>
      intro j5 x3_5 locs ls hj hn hl hS X hF kx
      refine lv_iload hx hb dX2_brandSum_5 (lv_at hl 4 rfl) ?_
      refine lv_bipush (v := 8) hx hb dX2_brandSum_7 (by decide) ?_
      refine lv_icmp_ge (tgt := 44) hx hb dX2_brandSum_9 (by decide) (fun c_1 => ?_) (fun c_1 => ?_)
      · obtain rfl : X = x3_5 := by rw [← hF, L2_brandSum7_5, if_pos c_1]
        exact kx _ _ (lv_sub hl [0, 1, 2, 3] rfl) hS
      · have hlt_2 : j5 < 8 := bLt c_1 (by omega) (by decide)
        refine lv_iload_n hx hb dX2_brandSum_12 rfl (lv_at hl 1 rfl) ?_
        refine lv_istore (lv' := [(5, .int 7), (0, .ref (q 3)), (1, .int 7), (2, .int 9), (3, .int x3_5), (4, .int (nI j5))]) hx hb dX2_brandSum_13 hl (by decide) rfl (fun ls hl => ?_)
        have loop15 : ∀ (n15 j15 : Nat) (x3_15 : Int32) (locs : List Loc) (ls : Array Slot), j15 ≤ 10 → 10 + 1 ≤ n15 + j15 → lv_has ls 6 [(0, .ref (q 3)), (1, .int 7), (2, .int 9), (3, .int x3_15), (4, .int (nI j5)), (5, .int (nI j15))] → va_S (fun _ => False) s.heap s.heap locs → ∀ X : Int32, L2_brandSum7_15 u j5  n15 j15 x3_15 = X → (∀ (locs : List Loc) (ls : Array Slot), lv_has ls 6 [(0, .ref (q 3)), (1, .int 7), (2, .int 9), (3, .int X), (4, .int (nI j5))] → va_S (fun _ => False) s.heap s.heap locs → W p l e (headSpec wsX2_brandSum ({ frames := 4, cells := 0, slots := 0, locals := 88 })).room s m ([.ref (q 3), .int 7, .int 9] : List Value).toArray below meth c s.heap locs 0 0 (MQ below (bRi s.heap tgt) ([.ref (q 3), .int 7, .int 9] : List Value).toArray s 0 0 (fun _ => False)) (F0 m 38 ls [])) → W p l e (headSpec wsX2_brandSum ({ frames := 4, cells := 0, slots := 0, locals := 88 })).room s m ([.ref (q 3), .int 7, .int 9] : List Value).toArray below meth c s.heap locs 0 0 (MQ below (bRi s.heap tgt) ([.ref (q 3), .int 7, .int 9] : List Value).toArray s 0 0 (fun _ => False)) (F0 m 15 ls []) := by
          intro n15
          induction n15 with
          | zero => intro j15 x3_15 locs ls hj hn; exact absurd hn (by omega)
          | succ n15 ih =>
            intro j15 x3_15 locs ls hj hn hl hS X hF kx
            refine lv_iload hx hb dX2_brandSum_15 (lv_at hl 5 rfl) ?_
            refine lv_iload_n hx hb dX2_brandSum_17 rfl (lv_at hl 2 rfl) ?_
            refine lv_icmp_gt (tgt := 38) hx hb dX2_brandSum_18 (by decide) (fun c_3 => ?_) (fun c_3 => ?_)
            · obtain rfl : X = x3_15 := by rw [← hF, L2_brandSum7_15, if_pos c_3]
              exact kx _ _ (lv_sub hl [0, 1, 2, 3, 4] rfl) hS
            · have hlt_4 : j15 < 10 := bLtG c_3 (by omega) (by decide)
              refine lv_iload_n hx hb dX2_brandSum_21 rfl (lv_at hl 3 rfl) ?_
              refine lv_aload_n hx hb dX2_brandSum_22 rfl (lv_at hl 0 rfl) ?_
              refine lv_iload hx hb dX2_brandSum_23 (lv_at hl 4 rfl) ?_
              refine lv_iload hx hb dX2_brandSum_25 (lv_at hl 5 rfl) ?_
              refine bcall_Ri (va_runV (As := [.int (nI j5), .int (nI j15)]) (rest := [.int x3_15]) ⟨hx, hb, hml, hown, hts⟩ (C2_brandNumber l D cI cO q _ _ hP (nI j5) (nI j15)) (cwV 2 hts gX2_brandSum_X2_brandNumber rfl rfl rfl ⟨rfl, bd_X2brandNumber⟩ ⟨Nat.le_of_ble_eq_true rfl, Nat.le_of_ble_eq_true rfl⟩) (bPV hk (va_recv hk.1 hP (ci := 2) (q0 := 3) rfl (wC_3 _ _ _ _))) rfl rfl hl.1 rfl (lv_room (Nat.le_of_ble_eq_true rfl)) dX2_brandSum_27 ⟨Nat.zero_le _, Nat.zero_le _⟩) hS (fun locs hS => ?_)
              refine lv_iadd hx hb dX2_brandSum_30 ?_
              refine lv_istore_n (lv' := [(3, .int (x3_15 + (F2_brandNumber u (nI j5) (nI j15)))), (0, .ref (q 3)), (1, .int 7), (2, .int 9), (4, .int (nI j5)), (5, .int (nI j15))]) hx hb dX2_brandSum_31 rfl hl (by decide) rfl (fun ls hl => ?_)
              refine lv_iinc (v := (nI (j15 + 1))) (lv' := [(5, .int (nI (j15 + 1))), (3, .int (x3_15 + (F2_brandNumber u (nI j5) (nI j15)))), (0, .ref (q 3)), (1, .int 7), (2, .int 9), (4, .int (nI j5))]) hx hb dX2_brandSum_32 hl (k := 5) rfl (bInc j15) (by decide) rfl (fun ls hl => ?_)
              refine lv_goto (tgt := 15) hx hb dX2_brandSum_35 (by decide) ?_
              exact ih (j15 + 1) (x3_15 + (F2_brandNumber u (nI j5) (nI j15))) _ _ (by omega) (by omega) (lv_sub hl [2, 3, 4, 1, 5, 0] rfl) hS X (by rw [← hF, L2_brandSum7_15, if_neg c_3]) kx
        refine loop15 (10 + 1) 7 x3_5 _ _ (by omega) (by omega) (lv_sub hl [1, 2, 3, 4, 5, 0] rfl) hS _ rfl (fun locs ls hl hS => ?_)
        refine lv_iinc (v := (nI (j5 + 1))) (lv' := [(4, .int (nI (j5 + 1))), (0, .ref (q 3)), (1, .int 7), (2, .int 9), (3, .int (L2_brandSum7_15 u j5 (10 + 1) 7 x3_5))]) hx hb dX2_brandSum_38 hl (k := 4) rfl (bInc j5) (by decide) rfl (fun ls hl => ?_)
        refine lv_goto (tgt := 5) hx hb dX2_brandSum_41 (by decide) ?_
        exact ih (j5 + 1) (L2_brandSum7_15 u j5 (10 + 1) 7 x3_5) _ _ (by omega) (by omega) (lv_sub hl [1, 2, 3, 4, 0] rfl) hS X (by rw [← hF, L2_brandSum7_5, if_neg c_1]) kx
  refine loop5 (8 + 1) 0 0 _ _ (by omega) (by omega) (lv_sub hl [2, 3, 4, 1, 0] rfl) hS _ rfl (fun locs ls hl hS => ?_)
  refine lv_iload_n hx hb dX2_brandSum_44 rfl (lv_at hl 3 rfl) ?_
  exact bret_Ri hx hb hr hS hlocks dX2_brandSum_45 (by rw [← hF, F2_brandSum7])

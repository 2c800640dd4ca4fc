theorem bd_X0begin : yX0_begin.cls ≠ "java/lang/invoke/MethodHandle" ∧ yX0_begin.cls ≠ "java/lang/invoke/VarHandle" ∧ (parseMethodDescriptor yX0_begin.desc).map (fun d => d.parameters.length) = some 0 := by decide +kernel
theorem bd_X0fits : yX0_fits.cls ≠ "java/lang/invoke/MethodHandle" ∧ yX0_fits.cls ≠ "java/lang/invoke/VarHandle" ∧ (parseMethodDescriptor yX0_fits.desc).map (fun d => d.parameters.length) = some 1 := by decide +kernel
theorem bd_X0isDigitBelow : yX0_isDigitBelow.cls ≠ "java/lang/invoke/MethodHandle" ∧ yX0_isDigitBelow.cls ≠ "java/lang/invoke/VarHandle" ∧ (parseMethodDescriptor yX0_isDigitBelow.desc).map (fun d => d.parameters.length) = some 2 := by decide +kernel
theorem bd_X0isWhole : yX0_isWhole.cls ≠ "java/lang/invoke/MethodHandle" ∧ yX0_isWhole.cls ≠ "java/lang/invoke/VarHandle" ∧ (parseMethodDescriptor yX0_isWhole.desc).map (fun d => d.parameters.length) = some 0 := by decide +kernel
theorem bd_X0keep : yX0_keep.cls ≠ "java/lang/invoke/MethodHandle" ∧ yX0_keep.cls ≠ "java/lang/invoke/VarHandle" ∧ (parseMethodDescriptor yX0_keep.desc).map (fun d => d.parameters.length) = some 1 := by decide +kernel
theorem bd_X0mostNumber : yX0_mostNumber.cls ≠ "java/lang/invoke/MethodHandle" ∧ yX0_mostNumber.cls ≠ "java/lang/invoke/VarHandle" ∧ (parseMethodDescriptor yX0_mostNumber.desc).map (fun d => d.parameters.length) = some 0 := by decide +kernel
theorem bd_X0secondBound : yX0_secondBound.cls ≠ "java/lang/invoke/MethodHandle" ∧ yX0_secondBound.cls ≠ "java/lang/invoke/VarHandle" ∧ (parseMethodDescriptor yX0_secondBound.desc).map (fun d => d.parameters.length) = some 0 := by decide +kernel
theorem bd_X0takesNumber : yX0_takesNumber.cls ≠ "java/lang/invoke/MethodHandle" ∧ yX0_takesNumber.cls ≠ "java/lang/invoke/VarHandle" ∧ (parseMethodDescriptor yX0_takesNumber.desc).map (fun d => d.parameters.length) = some 1 := by decide +kernel
def F0_isDigitBelow (a1 : Int32) (a2 : Int32) : Int32 := (if a1 < (48 : Int32) then 0 else (if (48 + a2) ≤ a1 then 0 else 1))
set_option maxHeartbeats 4000000 in
set_option maxRecDepth 100000 in
theorem C0_isDigitBelow (l : Launch) (D : va_G) (cI cO : ClassId) (q : Nat → Nat) (H0 : Heap) (a1 : Int32) (a2 : Int32) : Met l yX0_isDigitBelow wsX0_isDigitBelow ({ frames := 0, cells := 0, slots := 0, locals := 0 }) (bP D [(cI, .int), (cO, .object RX2)] H0 [.int a1, .int a2]) (bRi H0 (F0_isDigitBelow a1 a2)) 0 0 (fun _ => False) := by
  refine Met.ofW (cc := cX0_isDigitBelow) (maxL := 2) (ret := (some .boolean)) (by decide) rfl ?_
  intro p e s m args below meth c s₁ B hml hv
  obtain ⟨rfl, hH, hk⟩ := hv
  subst hH
  have hx := B.exec
  have hb := B.bytes
  have hr := B.returns
  have hts := atoms_spec (ws := wsX0_isDigitBelow) B.pre
  have hown : s.vm.findClass RX0 = some m.cls := findClass_of_methodNamed B.named
  have hlocks := B.notSynchronized
  have hS : va_S (fun _ => False) s.heap s.heap [] := va_S.rf
  have hl := lv_entry ([.int a1, .int a2]) (n := 2) (Nat.le_of_ble_eq_true rfl)
  rw [lg_entry_eq]
  generalize (lg_sl ([.int a1, .int a2]) ++ List.replicate (2 - (lg_sl ([.int a1, .int a2])).length) Slot.unset).toArray = ls at hl ⊢
  have hl : lv_has ls 2 [(0, .int a1), (1, .int a2)] := hl
  generalize hF : F0_isDigitBelow a1 a2 = tgt
  refine lv_iload_n hx hb dX0_isDigitBelow_0 rfl (lv_at hl 0 rfl) ?_
  refine lv_bipush (v := 48) hx hb dX0_isDigitBelow_1 (by decide) ?_
  refine lv_icmp_lt (tgt := 18) hx hb dX0_isDigitBelow_3 (by decide) (fun c_1 => ?_) (fun c_1 => ?_)
  · refine lv_iconst (v := 0) hx hb dX0_isDigitBelow_18 (by decide) ?_
    exact bret_Rz hx hb hr hS hlocks dX0_isDigitBelow_19 (Or.inl rfl) (by rw [← hF, F0_isDigitBelow, if_pos c_1])
  · refine lv_iload_n hx hb dX0_isDigitBelow_6 rfl (lv_at hl 0 rfl) ?_
    refine lv_bipush (v := 48) hx hb dX0_isDigitBelow_7 (by decide) ?_
    refine lv_iload_n hx hb dX0_isDigitBelow_9 rfl (lv_at hl 1 rfl) ?_
    refine lv_iadd hx hb dX0_isDigitBelow_10 ?_
    refine lv_icmp_ge (tgt := 18) hx hb dX0_isDigitBelow_11 (by decide) (fun c_2 => ?_) (fun c_2 => ?_)
    · refine lv_iconst (v := 0) hx hb dX0_isDigitBelow_18 (by decide) ?_
      exact bret_Rz hx hb hr hS hlocks dX0_isDigitBelow_19 (Or.inl rfl) (by rw [← hF, F0_isDigitBelow, if_neg c_1, if_pos c_2])
    · refine lv_iconst (v := 1) hx hb dX0_isDigitBelow_14 (by decide) ?_
      refine lv_goto (tgt := 19) hx hb dX0_isDigitBelow_15 (by decide) ?_
      exact bret_Rz hx hb hr hS hlocks dX0_isDigitBelow_19 (Or.inr rfl) (by rw [← hF, F0_isDigitBelow, if_neg c_1, if_neg c_2])
theorem B0_isDigitBelow (a1 : Int32) (a2 : Int32) : (F0_isDigitBelow a1 a2) = 0 ∨ (F0_isDigitBelow a1 a2) = 1 := by
  unfold F0_isDigitBelow
  (repeat' split) <;> first | exact Or.inl rfl | exact Or.inr rfl
def F0_letterT (u : bU) : Int32 := (u 9 1)
set_option maxHeartbeats 4000000 in
set_option maxRecDepth 100000 in
theorem C0_letterT (l : Launch) (D : va_G) (cI cO : ClassId) (q : Nat → Nat) (u : bU) (H0 : Heap) (hP : va_P D vwCl (wC cI cO q u) H0) : Met l yX0_letter wsX0_letter ({ frames := 0, cells := 0, slots := 0, locals := 0 }) (bP D [(cI, .int), (cO, .object RX2)] H0 [.ref (q 21)]) (bRi H0 (F0_letterT u)) 0 0 (fun _ => False) := by
  refine Met.ofW (cc := cX0_letter) (maxL := 1) (ret := (some .int)) (by decide) rfl ?_
  intro p e s m args below meth c s₁ B hml hv
  obtain ⟨rfl, hH, hk⟩ := hv
  subst hH
  have hx := B.exec
  have hb := B.bytes
  have hr := B.returns
  have hts := atoms_spec (ws := wsX0_letter) B.pre
  have hown : s.vm.findClass RX0 = some m.cls := findClass_of_methodNamed B.named
  have hlocks := B.notSynchronized
  have iX0 : ∀ w ∈ wsX00, w ∈ wsX0_letter := by decide +kernel
  have hS : va_S (fun _ => False) s.heap s.heap [] := va_S.rf
  have hl := lv_entry ([.ref (q 21)]) (n := 1) (Nat.le_of_ble_eq_true rfl)
  rw [lg_entry_eq]
  generalize (lg_sl ([.ref (q 21)]) ++ List.replicate (1 - (lg_sl ([.ref (q 21)])).length) Slot.unset).toArray = ls at hl ⊢
  have hl : lv_has ls 1 [(0, .ref (q 21))] := hl
  generalize hF : F0_letterT u = tgt
  refine lv_aload_n hx hb dX0_letter_0 rfl (lv_at hl 0 rfl) ?_
  refine va_get (D := D) (ci := 0) (C := RX0) (T := TX0) (N := 5) hx hb hts iX0 hown hk.1 hP 21 (wC_21 _ _ _ _) rfl 1 (by decide) (hts (.fieldLink RX0 15 "BottleLoop$Order" "letter" "I") (List.mem_of_getElem? (i := 1) rfl)) (fun _ h9 => h9) rfl dX0_letter_1 ?_
  exact bret_Ri hx hb hr hS hlocks dX0_letter_4 (by rw [← hF, F0_letterT])
def F0_firstT (u : bU) : Int32 := (u 9 2)
set_option maxHeartbeats 4000000 in
set_option maxRecDepth 100000 in
theorem C0_firstT (l : Launch) (D : va_G) (cI cO : ClassId) (q : Nat → Nat) (u : bU) (H0 : Heap) (hP : va_P D vwCl (wC cI cO q u) H0) : Met l yX0_first wsX0_first ({ frames := 0, cells := 0, slots := 0, locals := 0 }) (bP D [(cI, .int), (cO, .object RX2)] H0 [.ref (q 21)]) (bRi H0 (F0_firstT u)) 0 0 (fun _ => False) := by
  refine Met.ofW (cc := cX0_first) (maxL := 1) (ret := (some .int)) (by decide) rfl ?_
  intro p e s m args below meth c s₁ B hml hv
  obtain ⟨rfl, hH, hk⟩ := hv
  subst hH
  have hx := B.exec
  have hb := B.bytes
  have hr := B.returns
  have hts := atoms_spec (ws := wsX0_first) B.pre
  have hown : s.vm.findClass RX0 = some m.cls := findClass_of_methodNamed B.named
  have hlocks := B.notSynchronized
  have iX0 : ∀ w ∈ wsX00, w ∈ wsX0_first := by decide +kernel
  have hS : va_S (fun _ => False) s.heap s.heap [] := va_S.rf
  have hl := lv_entry ([.ref (q 21)]) (n := 1) (Nat.le_of_ble_eq_true rfl)
  rw [lg_entry_eq]
  generalize (lg_sl ([.ref (q 21)]) ++ List.replicate (1 - (lg_sl ([.ref (q 21)])).length) Slot.unset).toArray = ls at hl ⊢
  have hl : lv_has ls 1 [(0, .ref (q 21))] := hl
  generalize hF : F0_firstT u = tgt
  refine lv_aload_n hx hb dX0_first_0 rfl (lv_at hl 0 rfl) ?_
  refine va_get (D := D) (ci := 0) (C := RX0) (T := TX0) (N := 5) hx hb hts iX0 hown hk.1 hP 21 (wC_21 _ _ _ _) rfl 2 (by decide) (hts (.fieldLink RX0 18 "BottleLoop$Order" "first" "I") (List.mem_of_getElem? (i := 1) rfl)) (fun _ h9 => h9) rfl dX0_first_1 ?_
  exact bret_Ri hx hb hr hS hlocks dX0_first_4 (by rw [← hF, F0_firstT])
def F0_secondT (u : bU) : Int32 := (u 9 3)
set_option maxHeartbeats 4000000 in
set_option maxRecDepth 100000 in
theorem C0_secondT (l : Launch) (D : va_G) (cI cO : ClassId) (q : Nat → Nat) (u : bU) (H0 : Heap) (hP : va_P D vwCl (wC cI cO q u) H0) : Met l yX0_second wsX0_second ({ frames := 0, cells := 0, slots := 0, locals := 0 }) (bP D [(cI, .int), (cO, .object RX2)] H0 [.ref (q 21)]) (bRi H0 (F0_secondT u)) 0 0 (fun _ => False) := by
  refine Met.ofW (cc := cX0_second) (maxL := 1) (ret := (some .int)) (by decide) rfl ?_
  intro p e s m args below meth c s₁ B hml hv
  obtain ⟨rfl, hH, hk⟩ := hv
  subst hH
  have hx := B.exec
  have hb := B.bytes
  have hr := B.returns
  have hts := atoms_spec (ws := wsX0_second) B.pre
  have hown : s.vm.findClass RX0 = some m.cls := findClass_of_methodNamed B.named
  have hlocks := B.notSynchronized
  have iX0 : ∀ w ∈ wsX00, w ∈ wsX0_second := by decide +kernel
  have hS : va_S (fun _ => False) s.heap s.heap [] := va_S.rf
  have hl := lv_entry ([.ref (q 21)]) (n := 1) (Nat.le_of_ble_eq_true rfl)
  rw [lg_entry_eq]
  generalize (lg_sl ([.ref (q 21)]) ++ List.replicate (1 - (lg_sl ([.ref (q 21)])).length) Slot.unset).toArray = ls at hl ⊢
  have hl : lv_has ls 1 [(0, .ref (q 21))] := hl
  generalize hF : F0_secondT u = tgt
  refine lv_aload_n hx hb dX0_second_0 rfl (lv_at hl 0 rfl) ?_
  refine va_get (D := D) (ci := 0) (C := RX0) (T := TX0) (N := 5) hx hb hts iX0 hown hk.1 hP 21 (wC_21 _ _ _ _) rfl 3 (by decide) (hts (.fieldLink RX0 21 "BottleLoop$Order" "second" "I") (List.mem_of_getElem? (i := 1) rfl)) (fun _ h9 => h9) rfl dX0_second_1 ?_
  exact bret_Ri hx hb hr hS hlocks dX0_second_4 (by rw [← hF, F0_secondT])
def F0_numberT (u : bU) : Int32 := (u 9 4)
set_option maxHeartbeats 4000000 in
set_option maxRecDepth 100000 in
theorem C0_numberT (l : Launch) (D : va_G) (cI cO : ClassId) (q : Nat → Nat) (u : bU) (H0 : Heap) (hP : va_P D vwCl (wC cI cO q u) H0) : Met l yX0_number wsX0_number ({ frames := 0, cells := 0, slots := 0, locals := 0 }) (bP D [(cI, .int), (cO, .object RX2)] H0 [.ref (q 21)]) (bRi H0 (F0_numberT u)) 0 0 (fun _ => False) := by
  refine Met.ofW (cc := cX0_number) (maxL := 1) (ret := (some .int)) (by decide) rfl ?_
  intro p e s m args below meth c s₁ B hml hv
  obtain ⟨rfl, hH, hk⟩ := hv
  subst hH
  have hx := B.exec
  have hb := B.bytes
  have hr := B.returns
  have hts := atoms_spec (ws := wsX0_number) B.pre
  have hown : s.vm.findClass RX0 = some m.cls := findClass_of_methodNamed B.named
  have hlocks := B.notSynchronized
  have iX0 : ∀ w ∈ wsX00, w ∈ wsX0_number := by decide +kernel
  have hS : va_S (fun _ => False) s.heap s.heap [] := va_S.rf
  have hl := lv_entry ([.ref (q 21)]) (n := 1) (Nat.le_of_ble_eq_true rfl)
  rw [lg_entry_eq]
  generalize (lg_sl ([.ref (q 21)]) ++ List.replicate (1 - (lg_sl ([.ref (q 21)])).length) Slot.unset).toArray = ls at hl ⊢
  have hl : lv_has ls 1 [(0, .ref (q 21))] := hl
  generalize hF : F0_numberT u = tgt
  refine lv_aload_n hx hb dX0_number_0 rfl (lv_at hl 0 rfl) ?_
  refine va_get (D := D) (ci := 0) (C := RX0) (T := TX0) (N := 5) hx hb hts iX0 hown hk.1 hP 21 (wC_21 _ _ _ _) rfl 4 (by decide) (hts (.fieldLink RX0 24 "BottleLoop$Order" "number" "I") (List.mem_of_getElem? (i := 1) rfl)) (fun _ h9 => h9) rfl dX0_number_1 ?_
  exact bret_Ri hx hb hr hS hlocks dX0_number_4 (by rw [← hF, F0_numberT])
def F0_isWholeT (u : bU) : Int32 := (if (u 9 0) = (5 : Int32) then (if (u 9 4) ≤ 0 then 0 else 1) else 0)
set_option maxHeartbeats 4000000 in
set_option maxRecDepth 100000 in
theorem C0_isWholeT (l : Launch) (D : va_G) (cI cO : ClassId) (q : Nat → Nat) (u : bU) (H0 : Heap) (hP : va_P D vwCl (wC cI cO q u) H0) : Met l yX0_isWhole wsX0_isWhole ({ frames := 0, cells := 0, slots := 0, locals := 0 }) (bP D [(cI, .int), (cO, .object RX2)] H0 [.ref (q 21)]) (bRi H0 (F0_isWholeT u)) 0 0 (fun _ => False) := by
  refine Met.ofW (cc := cX0_isWhole) (maxL := 1) (ret := (some .boolean)) (by decide) rfl ?_
  intro p e s m args below meth c s₁ B hml hv
  obtain ⟨rfl, hH, hk⟩ := hv
  subst hH
  have hx := B.exec
  have hb := B.bytes
  have hr := B.returns
  have hts := atoms_spec (ws := wsX0_isWhole) B.pre
  have hown : s.vm.findClass RX0 = some m.cls := findClass_of_methodNamed B.named
  have hlocks := B.notSynchronized
  have iX0 : ∀ w ∈ wsX00, w ∈ wsX0_isWhole := by decide +kernel
  have hS : va_S (fun _ => False) s.heap s.heap [] := va_S.rf
  have hl := lv_entry ([.ref (q 21)]) (n := 1) (Nat.le_of_ble_eq_true rfl)
  rw [lg_entry_eq]
  generalize (lg_sl ([.ref (q 21)]) ++ List.replicate (1 - (lg_sl ([.ref (q 21)])).length) Slot.unset).toArray = ls at hl ⊢
  have hl : lv_has ls 1 [(0, .ref (q 21))] := hl
  generalize hF : F0_isWholeT u = tgt
  refine lv_aload_n hx hb dX0_isWhole_0 rfl (lv_at hl 0 rfl) ?_
  refine va_get (D := D) (ci := 0) (C := RX0) (T := TX0) (N := 5) hx hb hts iX0 hown hk.1 hP 21 (wC_21 _ _ _ _) rfl 0 (by decide) (hts (.fieldLink RX0 11 "BottleLoop$Order" "step" "I") (List.mem_of_getElem? (i := 1) rfl)) (fun _ h9 => h9) rfl dX0_isWhole_1 ?_
  refine lv_iconst (v := 5) hx hb dX0_isWhole_4 (by decide) ?_
  refine lv_icmp_ne (tgt := 19) hx hb dX0_isWhole_5 (by decide) (fun c_1 => ?_) (fun c_1 => ?_)
  · refine lv_iconst (v := 0) hx hb dX0_isWhole_19 (by decide) ?_
    exact bret_Rz hx hb hr hS hlocks dX0_isWhole_20 (Or.inl rfl) (by rw [← hF, F0_isWholeT, if_neg c_1])
  · refine lv_aload_n hx hb dX0_isWhole_8 rfl (lv_at hl 0 rfl) ?_
    refine va_get (D := D) (ci := 0) (C := RX0) (T := TX0) (N := 5) hx hb hts iX0 hown hk.1 hP 21 (wC_21 _ _ _ _) rfl 4 (by decide) (hts (.fieldLink RX0 24 "BottleLoop$Order" "number" "I") (List.mem_of_getElem? (i := 2) rfl)) (fun _ h9 => h9) rfl dX0_isWhole_9 ?_
    refine lv_if_le (tgt := 19) hx hb dX0_isWhole_12 (by decide) (fun c_2 => ?_) (fun c_2 => ?_)
    · refine lv_iconst (v := 0) hx hb dX0_isWhole_19 (by decide) ?_
      exact bret_Rz hx hb hr hS hlocks dX0_isWhole_20 (Or.inl rfl) (by rw [← hF, F0_isWholeT, if_pos c_1, if_pos c_2])
    · refine lv_iconst (v := 1) hx hb dX0_isWhole_15 (by decide) ?_
      refine lv_goto (tgt := 20) hx hb dX0_isWhole_16 (by decide) ?_
      exact bret_Rz hx hb hr hS hlocks dX0_isWhole_20 (Or.inr rfl) (by rw [← hF, F0_isWholeT, if_pos c_1, if_neg c_2])
theorem B0_isWholeT (u : bU) : (F0_isWholeT u) = 0 ∨ (F0_isWholeT u) = 1 := by
  unfold F0_isWholeT
  (repeat' split) <;> first | exact Or.inl rfl | exact Or.inr rfl
def F0_secondBoundT (u : bU) : Int32 := (if (u 9 1) = (100 : Int32) then 6 else (if (u 9 1) = (99 : Int32) then 3 else 8))
set_option maxHeartbeats 4000000 in
set_option maxRecDepth 100000 in
theorem C0_secondBoundT (l : Launch) (D : va_G) (cI cO : ClassId) (q : Nat → Nat) (u : bU) (H0 : Heap) (hP : va_P D vwCl (wC cI cO q u) H0) : Met l yX0_secondBound wsX0_secondBound ({ frames := 0, cells := 0, slots := 0, locals := 0 }) (bP D [(cI, .int), (cO, .object RX2)] H0 [.ref (q 21)]) (bRi H0 (F0_secondBoundT u)) 0 0 (fun _ => False) := by
  refine Met.ofW (cc := cX0_secondBound) (maxL := 1) (ret := (some .int)) (by decide) rfl ?_
  intro p e s m args below meth c s₁ B hml hv
  obtain ⟨rfl, hH, hk⟩ := hv
  subst hH
  have hx := B.exec
  have hb := B.bytes
  have hr := B.returns
  have hts := atoms_spec (ws := wsX0_secondBound) B.pre
  have hown : s.vm.findClass RX0 = some m.cls := findClass_of_methodNamed B.named
  have hlocks := B.notSynchronized
  have iX0 : ∀ w ∈ wsX00, w ∈ wsX0_secondBound := by decide +kernel
  have hS : va_S (fun _ => False) s.heap s.heap [] := va_S.rf
  have hl := lv_entry ([.ref (q 21)]) (n := 1) (Nat.le_of_ble_eq_true rfl)
  rw [lg_entry_eq]
  generalize (lg_sl ([.ref (q 21)]) ++ List.replicate (1 - (lg_sl ([.ref (q 21)])).length) Slot.unset).toArray = ls at hl ⊢
  have hl : lv_has ls 1 [(0, .ref (q 21))] := hl
  generalize hF : F0_secondBoundT u = tgt
  refine lv_aload_n hx hb dX0_secondBound_0 rfl (lv_at hl 0 rfl) ?_
  refine va_get (D := D) (ci := 0) (C := RX0) (T := TX0) (N := 5) hx hb hts iX0 hown hk.1 hP 21 (wC_21 _ _ _ _) rfl 1 (by decide) (hts (.fieldLink RX0 15 "BottleLoop$Order" "letter" "I") (List.mem_of_getElem? (i := 1) rfl)) (fun _ h9 => h9) rfl dX0_secondBound_1 ?_
  refine lv_bipush (v := 100) hx hb dX0_secondBound_4 (by decide) ?_
  refine lv_icmp_ne (tgt := 12) hx hb dX0_secondBound_6 (by decide) (fun c_1 => ?_) (fun c_1 => ?_)
  · refine lv_aload_n hx hb dX0_secondBound_12 rfl (lv_at hl 0 rfl) ?_
    refine va_get (D := D) (ci := 0) (C := RX0) (T := TX0) (N := 5) hx hb hts iX0 hown hk.1 hP 21 (wC_21 _ _ _ _) rfl 1 (by decide) (hts (.fieldLink RX0 15 "BottleLoop$Order" "letter" "I") (List.mem_of_getElem? (i := 1) rfl)) (fun _ h9 => h9) rfl dX0_secondBound_13 ?_
    refine lv_bipush (v := 99) hx hb dX0_secondBound_16 (by decide) ?_
    refine lv_icmp_ne (tgt := 25) hx hb dX0_secondBound_18 (by decide) (fun c_2 => ?_) (fun c_2 => ?_)
    · refine lv_bipush (v := 8) hx hb dX0_secondBound_25 (by decide) ?_
      exact bret_Ri hx hb hr hS hlocks dX0_secondBound_27 (by rw [← hF, F0_secondBoundT, if_neg c_1, if_neg c_2])
    · refine lv_iconst (v := 3) hx hb dX0_secondBound_21 (by decide) ?_
      refine lv_goto (tgt := 27) hx hb dX0_secondBound_22 (by decide) ?_
      exact bret_Ri hx hb hr hS hlocks dX0_secondBound_27 (by rw [← hF, F0_secondBoundT, if_neg c_1, if_pos c_2])
  · refine lv_bipush (v := 6) hx hb dX0_secondBound_9 (by decide) ?_
    exact bret_Ri hx hb hr hS hlocks dX0_secondBound_11 (by rw [← hF, F0_secondBoundT, if_pos c_1])
def F0_mostNumberT (u : bU) : Int32 := (if (u 9 1) = (100 : Int32) then 50 else (if (u 9 1) = (99 : Int32) then 50 else 500))
set_option maxHeartbeats 4000000 in
set_option maxRecDepth 100000 in
theorem C0_mostNumberT (l : Launch) (D : va_G) (cI cO : ClassId) (q : Nat → Nat) (u : bU) (H0 : Heap) (hP : va_P D vwCl (wC cI cO q u) H0) : Met l yX0_mostNumber wsX0_mostNumber ({ frames := 0, cells := 0, slots := 0, locals := 0 }) (bP D [(cI, .int), (cO, .object RX2)] H0 [.ref (q 21)]) (bRi H0 (F0_mostNumberT u)) 0 0 (fun _ => False) := by
  refine Met.ofW (cc := cX0_mostNumber) (maxL := 1) (ret := (some .int)) (by decide) rfl ?_
  intro p e s m args below meth c s₁ B hml hv
  obtain ⟨rfl, hH, hk⟩ := hv
  subst hH
  have hx := B.exec
  have hb := B.bytes
  have hr := B.returns
  have hts := atoms_spec (ws := wsX0_mostNumber) B.pre
  have hown : s.vm.findClass RX0 = some m.cls := findClass_of_methodNamed B.named
  have hlocks := B.notSynchronized
  have iX0 : ∀ w ∈ wsX00, w ∈ wsX0_mostNumber := by decide +kernel
  have hS : va_S (fun _ => False) s.heap s.heap [] := va_S.rf
  have hl := lv_entry ([.ref (q 21)]) (n := 1) (Nat.le_of_ble_eq_true rfl)
  rw [lg_entry_eq]
  generalize (lg_sl ([.ref (q 21)]) ++ List.replicate (1 - (lg_sl ([.ref (q 21)])).length) Slot.unset).toArray = ls at hl ⊢
  have hl : lv_has ls 1 [(0, .ref (q 21))] := hl
  generalize hF : F0_mostNumberT u = tgt
  refine lv_aload_n hx hb dX0_mostNumber_0 rfl (lv_at hl 0 rfl) ?_
  refine va_get (D := D) (ci := 0) (C := RX0) (T := TX0) (N := 5) hx hb hts iX0 hown hk.1 hP 21 (wC_21 _ _ _ _) rfl 1 (by decide) (hts (.fieldLink RX0 15 "BottleLoop$Order" "letter" "I") (List.mem_of_getElem? (i := 1) rfl)) (fun _ h9 => h9) rfl dX0_mostNumber_1 ?_
  refine lv_bipush (v := 100) hx hb dX0_mostNumber_4 (by decide) ?_
  refine lv_icmp_eq (tgt := 18) hx hb dX0_mostNumber_6 (by decide) (fun c_1 => ?_) (fun c_1 => ?_)
  · refine lv_bipush (v := 50) hx hb dX0_mostNumber_18 (by decide) ?_
    refine lv_goto (tgt := 26) hx hb dX0_mostNumber_20 (by decide) ?_
    exact bret_Ri hx hb hr hS hlocks dX0_mostNumber_26 (by rw [← hF, F0_mostNumberT, if_pos c_1])
  · refine lv_aload_n hx hb dX0_mostNumber_9 rfl (lv_at hl 0 rfl) ?_
    refine va_get (D := D) (ci := 0) (C := RX0) (T := TX0) (N := 5) hx hb hts iX0 hown hk.1 hP 21 (wC_21 _ _ _ _) rfl 1 (by decide) (hts (.fieldLink RX0 15 "BottleLoop$Order" "letter" "I") (List.mem_of_getElem? (i := 1) rfl)) (fun _ h9 => h9) rfl dX0_mostNumber_10 ?_
    refine lv_bipush (v := 99) hx hb dX0_mostNumber_13 (by decide) ?_
    refine lv_icmp_ne (tgt := 23) hx hb dX0_mostNumber_15 (by decide) (fun c_2 => ?_) (fun c_2 => ?_)
    · refine lv_sipush (v := 500) hx hb dX0_mostNumber_23 (by decide) ?_
      exact bret_Ri hx hb hr hS hlocks dX0_mostNumber_26 (by rw [← hF, F0_mostNumberT, if_neg c_1, if_neg c_2])
    · refine lv_bipush (v := 50) hx hb dX0_mostNumber_18 (by decide) ?_
      refine lv_goto (tgt := 26) hx hb dX0_mostNumber_20 (by decide) ?_
      exact bret_Ri hx hb hr hS hlocks dX0_mostNumber_26 (by rw [← hF, F0_mostNumberT, if_neg c_1, if_pos c_2])
def F0_beginT (u : bU) : bU := (bput (bput (bput (bput (bput u 9 0 0) 9 1 0) 9 2 0) 9 3 0) 9 4 0)
set_option maxHeartbeats 4000000 in
set_option maxRecDepth 100000 in
theorem C0_beginT (l : Launch) (D : va_G) (cI cO : ClassId) (q : Nat → Nat) (u : bU) (H0 : Heap) (hq : bInj 23 q) (hP : va_P D vwCl (wC cI cO q u) H0) : Met l yX0_begin wsX0_begin ({ frames := 0, cells := 0, slots := 0, locals := 0 }) (bP D [(cI, .int), (cO, .object RX2)] H0 [.ref (q 21)]) (bWv D (wC cI cO q) bT (bA 23 q H0.size) (F0_beginT u)) 0 0 (bA 23 q H0.size) := by
  refine Met.ofW (cc := cX0_begin) (maxL := 1) (ret := none) (by decide) rfl ?_
  intro p e s m args below meth c s₁ B hml hv
  obtain ⟨rfl, hH, hk⟩ := hv
  subst hH
  have hx := B.exec
  have hb := B.bytes
  have hr := B.returns
  have hts := atoms_spec (ws := wsX0_begin) B.pre
  have hown : s.vm.findClass RX0 = some m.cls := findClass_of_methodNamed B.named
  have hlocks := B.notSynchronized
  have iX0 : ∀ w ∈ wsX00, w ∈ wsX0_begin := by decide +kernel
  have hS : va_S (bA 23 q s.heap.size) s.heap s.heap [] := va_S.rf
  have hl := lv_entry ([.ref (q 21)]) (n := 1) (Nat.le_of_ble_eq_true rfl)
  rw [lg_entry_eq]
  generalize (lg_sl ([.ref (q 21)]) ++ List.replicate (1 - (lg_sl ([.ref (q 21)])).length) Slot.unset).toArray = ls at hl ⊢
  have hl : lv_has ls 1 [(0, .ref (q 21))] := hl
  generalize hF : F0_beginT u = tgt
  refine lv_aload_n hx hb dX0_begin_0 rfl (lv_at hl 0 rfl) ?_
  refine lv_iconst (v := 0) hx hb dX0_begin_1 (by decide) ?_
  refine va_put (D := D) (ci := 0) (v := .int 0) (ty := .int) (C := RX0) (T := TX0) (N := 5) hx hb hts iX0 tyX0 tyX0_ok nmX0 hown hk.1 hP (wC_D hq) hS 21 (wC_21 _ _ _ _) rfl 0 (by decide) (hts (.fieldLink RX0 11 "BottleLoop$Order" "step" "I") (List.mem_of_getElem? (i := 1) rfl)) (fun _ h9 => h9) rfl (by decide +kernel) rfl rfl (Nat.le_of_ble_eq_true rfl) dX0_begin_2 (fun H locs hP _ hS => ?_)
  have hP : va_P D vwCl (wC cI cO q (bput u 9 0 0)) H := hP
  refine lv_aload_n hx hb dX0_begin_5 rfl (lv_at hl 0 rfl) ?_
  refine lv_iconst (v := 0) hx hb dX0_begin_6 (by decide) ?_
  refine va_put (D := D) (ci := 0) (v := .int 0) (ty := .int) (C := RX0) (T := TX0) (N := 5) hx hb hts iX0 tyX0 tyX0_ok nmX0 hown hk.1 hP (wC_D hq) hS 21 (wC_21 _ _ _ _) rfl 1 (by decide) (hts (.fieldLink RX0 15 "BottleLoop$Order" "letter" "I") (List.mem_of_getElem? (i := 2) rfl)) (fun _ h9 => h9) rfl (by decide +kernel) rfl rfl (Nat.le_of_ble_eq_true rfl) dX0_begin_7 (fun H locs hP _ hS => ?_)
  have hP : va_P D vwCl (wC cI cO q (bput (bput u 9 0 0) 9 1 0)) H := hP
  refine lv_aload_n hx hb dX0_begin_10 rfl (lv_at hl 0 rfl) ?_
  refine lv_iconst (v := 0) hx hb dX0_begin_11 (by decide) ?_
  refine va_put (D := D) (ci := 0) (v := .int 0) (ty := .int) (C := RX0) (T := TX0) (N := 5) hx hb hts iX0 tyX0 tyX0_ok nmX0 hown hk.1 hP (wC_D hq) hS 21 (wC_21 _ _ _ _) rfl 2 (by decide) (hts (.fieldLink RX0 18 "BottleLoop$Order" "first" "I") (List.mem_of_getElem? (i := 3) rfl)) (fun _ h9 => h9) rfl (by decide +kernel) rfl rfl (Nat.le_of_ble_eq_true rfl) dX0_begin_12 (fun H locs hP _ hS => ?_)
  have hP : va_P D vwCl (wC cI cO q (bput (bput (bput u 9 0 0) 9 1 0) 9 2 0)) H := hP
  refine lv_aload_n hx hb dX0_begin_15 rfl (lv_at hl 0 rfl) ?_
  refine lv_iconst (v := 0) hx hb dX0_begin_16 (by decide) ?_
  refine va_put (D := D) (ci := 0) (v := .int 0) (ty := .int) (C := RX0) (T := TX0) (N := 5) hx hb hts iX0 tyX0 tyX0_ok nmX0 hown hk.1 hP (wC_D hq) hS 21 (wC_21 _ _ _ _) rfl 3 (by decide) (hts (.fieldLink RX0 21 "BottleLoop$Order" "second" "I") (List.mem_of_getElem? (i := 4) rfl)) (fun _ h9 => h9) rfl (by decide +kernel) rfl rfl (Nat.le_of_ble_eq_true rfl) dX0_begin_17 (fun H locs hP _ hS => ?_)
  have hP : va_P D vwCl (wC cI cO q (bput (bput (bput (bput u 9 0 0) 9 1 0) 9 2 0) 9 3 0)) H := hP
  refine lv_aload_n hx hb dX0_begin_20 rfl (lv_at hl 0 rfl) ?_
  refine lv_iconst (v := 0) hx hb dX0_begin_21 (by decide) ?_
  refine va_put (D := D) (ci := 0) (v := .int 0) (ty := .int) (C := RX0) (T := TX0) (N := 5) hx hb hts iX0 tyX0 tyX0_ok nmX0 hown hk.1 hP (wC_D hq) hS 21 (wC_21 _ _ _ _) rfl 4 (by decide) (hts (.fieldLink RX0 24 "BottleLoop$Order" "number" "I") (List.mem_of_getElem? (i := 5) rfl)) (fun _ h9 => h9) rfl (by decide +kernel) rfl rfl (Nat.le_of_ble_eq_true rfl) dX0_begin_22 (fun H locs hP _ hS => ?_)
  have hP : va_P D vwCl (wC cI cO q (bput (bput (bput (bput (bput u 9 0 0) 9 1 0) 9 2 0) 9 3 0) 9 4 0)) H := hP
  exact bret_Wv hx hb hr hP trivial hS hlocks dX0_begin_25 (by rw [← hF, F0_beginT])
def F0_takesNumberT (u : bU) (a1 : Int32) : Int32 × bU := (if a1 = (59 : Int32) then ((F0_isWholeT u), (F0_beginT u)) else (if (F0_isDigitBelow a1 10) = 0 then (0, u) else (if (((10 * (u 9 4)) + a1) - 48) < (1 : Int32) then (0, u) else (if (F0_mostNumberT u) < (((10 * (u 9 4)) + a1) - 48) then (0, u) else (1, (bput u 9 4 (((10 * (u 9 4)) + a1) - 48)))))))
set_option maxHeartbeats 4000000 in
set_option maxRecDepth 100000 in
theorem C0_takesNumberT (l : Launch) (D : va_G) (cI cO : ClassId) (q : Nat → Nat) (u : bU) (H0 : Heap) (hq : bInj 23 q) (hP : va_P D vwCl (wC cI cO q u) H0) (a1 : Int32) : Met l yX0_takesNumber wsX0_takesNumber ({ frames := 1, cells := 0, slots := 0, locals := 21 }) (bP D [(cI, .int), (cO, .object RX2)] H0 [.ref (q 21), .int a1]) (bWi D (wC cI cO q) bT (bA 23 q H0.size) (F0_takesNumberT u a1)) 0 0 (bA 23 q H0.size) := by
  refine Met.ofW (cc := cX0_takesNumber) (maxL := 3) (ret := (some .boolean)) (by decide) rfl ?_
  intro p e s m args below meth c s₁ B hml hv
  obtain ⟨rfl, hH, hk⟩ := hv
  subst hH
  have hx := B.exec
  have hb := B.bytes
  have hr := B.returns
  have hts := atoms_spec (ws := wsX0_takesNumber) B.pre
  have hown : s.vm.findClass RX0 = some m.cls := findClass_of_methodNamed B.named
  have hlocks := B.notSynchronized
  have iX0 : ∀ w ∈ wsX00, w ∈ wsX0_takesNumber := by decide +kernel
  have hS : va_S (bA 23 q s.heap.size) s.heap s.heap [] := va_S.rf
  have hl := lv_entry ([.ref (q 21), .int a1]) (n := 3) (Nat.le_of_ble_eq_true rfl)
  rw [lg_entry_eq]
  generalize (lg_sl ([.ref (q 21), .int a1]) ++ List.replicate (3 - (lg_sl ([.ref (q 21), .int a1])).length) Slot.unset).toArray = ls at hl ⊢
  have hl : lv_has ls 3 [(0, .ref (q 21)), (1, .int a1)] := hl
  generalize hF : F0_takesNumberT u a1 = tgt
  refine lv_iload_n hx hb dX0_takesNumber_0 rfl (lv_at hl 1 rfl) ?_
  refine lv_bipush (v := 59) hx hb dX0_takesNumber_1 (by decide) ?_
  refine lv_icmp_ne (tgt := 17) hx hb dX0_takesNumber_3 (by decide) (fun c_1 => ?_) (fun c_1 => ?_)
  · refine lv_iload_n hx hb dX0_takesNumber_17 rfl (lv_at hl 1 rfl) ?_
    refine lv_bipush (v := 10) hx hb dX0_takesNumber_18 (by decide) ?_
    refine bcall_Ri (va_runS (As := [.int a1, .int 10]) (rest := []) ⟨hx, hb, hml, hown, hts⟩ (C0_isDigitBelow l D cI cO q _ a1 10) (va_cwS 2 hts gX0_takesNumber_X0_isDigitBelow rfl rfl rfl bd_X0isDigitBelow ⟨Nat.le_of_ble_eq_true rfl, Nat.le_of_ble_eq_true rfl⟩) (bPS hk) rfl rfl hl.1 rfl (lv_room (Nat.le_of_ble_eq_true rfl)) dX0_takesNumber_20 ⟨Nat.zero_le _, Nat.zero_le _⟩) hS (fun locs hS => ?_)
    refine lv_if_eq (tgt := 65) hx hb dX0_takesNumber_23 (by decide) (fun c_2 => ?_) (fun c_2 => ?_)
    · refine lv_iconst (v := 0) hx hb dX0_takesNumber_65 (by decide) ?_
      refine lv_istore_n (lv' := [(2, .int 0), (0, .ref (q 21)), (1, .int a1)]) hx hb dX0_takesNumber_66 rfl hl (by decide) rfl (fun ls hl => ?_)
      refine lv_iload_n hx hb dX0_takesNumber_67 rfl (lv_at hl 0 rfl) ?_
      refine lv_if_eq (tgt := 87) hx hb dX0_takesNumber_68 (by decide) (fun _ => ?_) (fun h9 => absurd (by decide) h9)
      refine lv_iload_n hx hb dX0_takesNumber_87 rfl (lv_at hl 0 rfl) ?_
      exact bret_Wz hx hb hr hP trivial hS hlocks dX0_takesNumber_88 (Or.inl rfl) (by rw [← hF, F0_takesNumberT, if_neg c_1, if_pos c_2])
    · refine lv_bipush (v := 10) hx hb dX0_takesNumber_26 (by decide) ?_
      refine lv_aload_n hx hb dX0_takesNumber_28 rfl (lv_at hl 0 rfl) ?_
      refine va_get (D := D) (ci := 0) (C := RX0) (T := TX0) (N := 5) hx hb hts iX0 hown hk.1 hP 21 (wC_21 _ _ _ _) rfl 4 (by decide) (hts (.fieldLink RX0 24 "BottleLoop$Order" "number" "I") (List.mem_of_getElem? (i := 1) rfl)) (fun _ h9 => h9) rfl dX0_takesNumber_29 ?_
      refine lv_imul hx hb dX0_takesNumber_32 ?_
      refine lv_iload_n hx hb dX0_takesNumber_33 rfl (lv_at hl 1 rfl) ?_
      refine lv_iadd hx hb dX0_takesNumber_34 ?_
      refine lv_bipush (v := 48) hx hb dX0_takesNumber_35 (by decide) ?_
      refine lv_isub hx hb dX0_takesNumber_37 ?_
      refine lv_iconst (v := 1) hx hb dX0_takesNumber_38 (by decide) ?_
      refine lv_icmp_lt (tgt := 65) hx hb dX0_takesNumber_39 (by decide) (fun c_3 => ?_) (fun c_3 => ?_)
      · refine lv_iconst (v := 0) hx hb dX0_takesNumber_65 (by decide) ?_
        refine lv_istore_n (lv' := [(2, .int 0), (0, .ref (q 21)), (1, .int a1)]) hx hb dX0_takesNumber_66 rfl hl (by decide) rfl (fun ls hl => ?_)
        refine lv_iload_n hx hb dX0_takesNumber_67 rfl (lv_at hl 0 rfl) ?_
        refine lv_if_eq (tgt := 87) hx hb dX0_takesNumber_68 (by decide) (fun _ => ?_) (fun h9 => absurd (by decide) h9)
        refine lv_iload_n hx hb dX0_takesNumber_87 rfl (lv_at hl 0 rfl) ?_
        exact bret_Wz hx hb hr hP trivial hS hlocks dX0_takesNumber_88 (Or.inl rfl) (by rw [← hF, F0_takesNumberT, if_neg c_1, if_neg c_2, if_pos c_3])
      · refine lv_bipush (v := 10) hx hb dX0_takesNumber_42 (by decide) ?_
        refine lv_aload_n hx hb dX0_takesNumber_44 rfl (lv_at hl 0 rfl) ?_
        refine va_get (D := D) (ci := 0) (C := RX0) (T := TX0) (N := 5) hx hb hts iX0 hown hk.1 hP 21 (wC_21 _ _ _ _) rfl 4 (by decide) (hts (.fieldLink RX0 24 "BottleLoop$Order" "number" "I") (List.mem_of_getElem? (i := 1) rfl)) (fun _ h9 => h9) rfl dX0_takesNumber_45 ?_
        refine lv_imul hx hb dX0_takesNumber_48 ?_
        refine lv_iload_n hx hb dX0_takesNumber_49 rfl (lv_at hl 1 rfl) ?_
        refine lv_iadd hx hb dX0_takesNumber_50 ?_
        refine lv_bipush (v := 48) hx hb dX0_takesNumber_51 (by decide) ?_
        refine lv_isub hx hb dX0_takesNumber_53 ?_
        refine lv_aload_n hx hb dX0_takesNumber_54 rfl (lv_at hl 0 rfl) ?_
        refine bcall_Ri (va_runV (As := []) (rest := [.int (((10 * (u 9 4)) + a1) - 48)]) ⟨hx, hb, hml, hown, hts⟩ (C0_mostNumberT l D cI cO q _ _ hP ) (cwV 0 hts gX0_takesNumber_X0_mostNumber rfl rfl rfl ⟨rfl, bd_X0mostNumber⟩ ⟨Nat.le_of_ble_eq_true rfl, Nat.le_of_ble_eq_true rfl⟩) (bPV hk (va_recv hk.1 hP (ci := 0) (q0 := 21) rfl (wC_21 _ _ _ _))) rfl rfl hl.1 rfl (lv_room (Nat.le_of_ble_eq_true rfl)) dX0_takesNumber_55 ⟨Nat.zero_le _, Nat.zero_le _⟩) hS (fun locs hS => ?_)
        refine lv_icmp_gt (tgt := 65) hx hb dX0_takesNumber_58 (by decide) (fun c_4 => ?_) (fun c_4 => ?_)
        · refine lv_iconst (v := 0) hx hb dX0_takesNumber_65 (by decide) ?_
          refine lv_istore_n (lv' := [(2, .int 0), (0, .ref (q 21)), (1, .int a1)]) hx hb dX0_takesNumber_66 rfl hl (by decide) rfl (fun ls hl => ?_)
          refine lv_iload_n hx hb dX0_takesNumber_67 rfl (lv_at hl 0 rfl) ?_
          refine lv_if_eq (tgt := 87) hx hb dX0_takesNumber_68 (by decide) (fun _ => ?_) (fun h9 => absurd (by decide) h9)
          refine lv_iload_n hx hb dX0_takesNumber_87 rfl (lv_at hl 0 rfl) ?_
          exact bret_Wz hx hb hr hP trivial hS hlocks dX0_takesNumber_88 (Or.inl rfl) (by rw [← hF, F0_takesNumberT, if_neg c_1, if_neg c_2, if_neg c_3, if_pos c_4])
        · refine lv_iconst (v := 1) hx hb dX0_takesNumber_61 (by decide) ?_
          refine lv_goto (tgt := 66) hx hb dX0_takesNumber_62 (by decide) ?_
          refine lv_istore_n (lv' := [(2, .int 1), (0, .ref (q 21)), (1, .int a1)]) hx hb dX0_takesNumber_66 rfl hl (by decide) rfl (fun ls hl => ?_)
          refine lv_iload_n hx hb dX0_takesNumber_67 rfl (lv_at hl 0 rfl) ?_
          refine lv_if_eq (tgt := 87) hx hb dX0_takesNumber_68 (by decide) (fun h9 => absurd h9 (by decide)) (fun _ => ?_)
          refine lv_aload_n hx hb dX0_takesNumber_71 rfl (lv_at hl 1 rfl) ?_
          refine lv_bipush (v := 10) hx hb dX0_takesNumber_72 (by decide) ?_
          refine lv_aload_n hx hb dX0_takesNumber_74 rfl (lv_at hl 1 rfl) ?_
          refine va_get (D := D) (ci := 0) (C := RX0) (T := TX0) (N := 5) hx hb hts iX0 hown hk.1 hP 21 (wC_21 _ _ _ _) rfl 4 (by decide) (hts (.fieldLink RX0 24 "BottleLoop$Order" "number" "I") (List.mem_of_getElem? (i := 1) rfl)) (fun _ h9 => h9) rfl dX0_takesNumber_75 ?_
          refine lv_imul hx hb dX0_takesNumber_78 ?_
          refine lv_iload_n hx hb dX0_takesNumber_79 rfl (lv_at hl 2 rfl) ?_
          refine lv_iadd hx hb dX0_takesNumber_80 ?_
          refine lv_bipush (v := 48) hx hb dX0_takesNumber_81 (by decide) ?_
          refine lv_isub hx hb dX0_takesNumber_83 ?_
          refine va_put (D := D) (ci := 0) (v := .int (((10 * (u 9 4)) + a1) - 48)) (ty := .int) (C := RX0) (T := TX0) (N := 5) hx hb hts iX0 tyX0 tyX0_ok nmX0 hown hk.1 hP (wC_D hq) hS 21 (wC_21 _ _ _ _) rfl 4 (by decide) (hts (.fieldLink RX0 24 "BottleLoop$Order" "number" "I") (List.mem_of_getElem? (i := 1) rfl)) (fun _ h9 => h9) rfl (by decide +kernel) rfl rfl (Nat.le_of_ble_eq_true rfl) dX0_takesNumber_84 (fun H locs hP _ hS => ?_)
          have hP : va_P D vwCl (wC cI cO q (bput u 9 4 (((10 * (u 9 4)) + a1) - 48))) H := hP
          refine lv_iload_n hx hb dX0_takesNumber_87 rfl (lv_at hl 0 rfl) ?_
          exact bret_Wz hx hb hr hP trivial hS hlocks dX0_takesNumber_88 (Or.inr rfl) (by rw [← hF, F0_takesNumberT, if_neg c_1, if_neg c_2, if_neg c_3, if_neg c_4])
  · refine lv_aload_n hx hb dX0_takesNumber_6 rfl (lv_at hl 0 rfl) ?_
    refine bcall_Ri (va_runV (As := []) (rest := []) ⟨hx, hb, hml, hown, hts⟩ (C0_isWholeT l D cI cO q _ _ hP ) (cwV 0 hts gX0_takesNumber_X0_isWhole rfl rfl rfl ⟨rfl, bd_X0isWhole⟩ ⟨Nat.le_of_ble_eq_true rfl, Nat.le_of_ble_eq_true rfl⟩) (bPV hk (va_recv hk.1 hP (ci := 0) (q0 := 21) rfl (wC_21 _ _ _ _))) rfl rfl hl.1 rfl (lv_room (Nat.le_of_ble_eq_true rfl)) dX0_takesNumber_7 ⟨Nat.zero_le _, Nat.zero_le _⟩) hS (fun locs hS => ?_)
    refine lv_istore_n (lv' := [(2, .int (F0_isWholeT u)), (0, .ref (q 21)), (1, .int a1)]) hx hb dX0_takesNumber_10 rfl hl (by decide) rfl (fun ls hl => ?_)
    refine lv_aload_n hx hb dX0_takesNumber_11 rfl (lv_at hl 1 rfl) ?_
    refine bcall_Wv (va_runV (As := []) (rest := []) ⟨hx, hb, hml, hown, hts⟩ (C0_beginT l D cI cO q _ _ hq hP ) (cwV 0 hts gX0_takesNumber_X0_begin rfl rfl rfl ⟨rfl, bd_X0begin⟩ ⟨Nat.le_of_ble_eq_true rfl, Nat.le_of_ble_eq_true rfl⟩) (bPV hk (va_recv hk.1 hP (ci := 0) (q0 := 21) rfl (wC_21 _ _ _ _))) rfl rfl hl.1 rfl (lv_room (Nat.le_of_ble_eq_true rfl)) dX0_takesNumber_12 ⟨Nat.zero_le _, Nat.zero_le _⟩) hS (fun H locs hP _ hS => ?_)
    refine lv_iload_n hx hb dX0_takesNumber_15 rfl (lv_at hl 0 rfl) ?_
    exact bret_Wz hx hb hr hP trivial hS hlocks dX0_takesNumber_16 (B0_isWholeT u) (by rw [← hF, F0_takesNumberT, if_pos c_1])
theorem B0_takesNumberT (u : bU) (a1 : Int32) : (F0_takesNumberT u a1).1 = 0 ∨ (F0_takesNumberT u a1).1 = 1 := by
  unfold F0_takesNumberT
  (repeat' split) <;> first | exact Or.inl rfl | exact Or.inr rfl | exact (B0_isDigitBelow a1 10) | exact (B0_isWholeT u)
def F0_fitsT (u : bU) (a1 : Int32) : Int32 := (if (u 9 0) = 0 then (if a1 = (100 : Int32) then 1 else (if a1 = (115 : Int32) then 1 else (if a1 = (114 : Int32) then 1 else (if a1 = (98 : Int32) then 1 else (if a1 = (99 : Int32) then 1 else 0))))) else (if (u 9 0) = 1 then (if (u 9 1) = (100 : Int32) then (F0_isDigitBelow a1 8) else (F0_isDigitBelow a1 6)) else (if (u 9 0) = 2 then (if (u 9 1) = (100 : Int32) then (if a1 = (62 : Int32) then 1 else 0) else (if a1 = (58 : Int32) then 1 else 0)) else (if (u 9 0) = 3 then (F0_isDigitBelow a1 (F0_secondBoundT u)) else (if a1 = (42 : Int32) then 1 else 0)))))
set_option maxHeartbeats 4000000 in
set_option maxRecDepth 100000 in
theorem C0_fitsT (l : Launch) (D : va_G) (cI cO : ClassId) (q : Nat → Nat) (u : bU) (H0 : Heap) (hP : va_P D vwCl (wC cI cO q u) H0) (a1 : Int32) : Met l yX0_fits wsX0_fits ({ frames := 1, cells := 0, slots := 0, locals := 21 }) (bP D [(cI, .int), (cO, .object RX2)] H0 [.ref (q 21), .int a1]) (bRi H0 (F0_fitsT u a1)) 0 0 (fun _ => False) := by
  refine Met.ofW (cc := cX0_fits) (maxL := 2) (ret := (some .boolean)) (by decide) rfl ?_
  intro p e s m args below meth c s₁ B hml hv
  obtain ⟨rfl, hH, hk⟩ := hv
  subst hH
  have hx := B.exec
  have hb := B.bytes
  have hr := B.returns
  have hts := atoms_spec (ws := wsX0_fits) B.pre
  have hown : s.vm.findClass RX0 = some m.cls := findClass_of_methodNamed B.named
  have hlocks := B.notSynchronized
  have iX0 : ∀ w ∈ wsX00, w ∈ wsX0_fits := by decide +kernel
  have hS : va_S (fun _ => False) s.heap s.heap [] := va_S.rf
  have hl := lv_entry ([.ref (q 21), .int a1]) (n := 2) (Nat.le_of_ble_eq_true rfl)
  rw [lg_entry_eq]
  generalize (lg_sl ([.ref (q 21), .int a1]) ++ List.replicate (2 - (lg_sl ([.ref (q 21), .int a1])).length) Slot.unset).toArray = ls at hl ⊢
  have hl : lv_has ls 2 [(0, .ref (q 21)), (1, .int a1)] := hl
  generalize hF : F0_fitsT u a1 = tgt
  refine lv_aload_n hx hb dX0_fits_0 rfl (lv_at hl 0 rfl) ?_
  refine va_get (D := D) (ci := 0) (C := RX0) (T := TX0) (N := 5) hx hb hts iX0 hown hk.1 hP 21 (wC_21 _ _ _ _) rfl 0 (by decide) (hts (.fieldLink RX0 11 "BottleLoop$Order" "step" "I") (List.mem_of_getElem? (i := 1) rfl)) (fun _ h9 => h9) rfl dX0_fits_1 ?_
  by_cases c_1 : (u 9 0) = 0
  · refine lv_tableIn (off := 32) (tgt := 36) hx hb dX0_fits_4 (by rw [c_1]; decide) (by rw [c_1]; decide) (by rw [c_1]; rfl) (by decide) ?_
    refine lv_iload_n hx hb dX0_fits_36 rfl (lv_at hl 1 rfl) ?_
    refine lv_bipush (v := 100) hx hb dX0_fits_37 (by decide) ?_
    refine lv_icmp_eq (tgt := 66) hx hb dX0_fits_39 (by decide) (fun c_2 => ?_) (fun c_2 => ?_)
    · refine lv_iconst (v := 1) hx hb dX0_fits_66 (by decide) ?_
      refine lv_goto (tgt := 71) hx hb dX0_fits_67 (by decide) ?_
      exact bret_Rz hx hb hr hS hlocks dX0_fits_71 (Or.inr rfl) (by rw [← hF, F0_fitsT, if_pos c_1, if_pos c_2])
    · refine lv_iload_n hx hb dX0_fits_42 rfl (lv_at hl 1 rfl) ?_
      refine lv_bipush (v := 115) hx hb dX0_fits_43 (by decide) ?_
      refine lv_icmp_eq (tgt := 66) hx hb dX0_fits_45 (by decide) (fun c_3 => ?_) (fun c_3 => ?_)
      · refine lv_iconst (v := 1) hx hb dX0_fits_66 (by decide) ?_
        refine lv_goto (tgt := 71) hx hb dX0_fits_67 (by decide) ?_
        exact bret_Rz hx hb hr hS hlocks dX0_fits_71 (Or.inr rfl) (by rw [← hF, F0_fitsT, if_pos c_1, if_neg c_2, if_pos c_3])
      · refine lv_iload_n hx hb dX0_fits_48 rfl (lv_at hl 1 rfl) ?_
        refine lv_bipush (v := 114) hx hb dX0_fits_49 (by decide) ?_
        refine lv_icmp_eq (tgt := 66) hx hb dX0_fits_51 (by decide) (fun c_4 => ?_) (fun c_4 => ?_)
        · refine lv_iconst (v := 1) hx hb dX0_fits_66 (by decide) ?_
          refine lv_goto (tgt := 71) hx hb dX0_fits_67 (by decide) ?_
          exact bret_Rz hx hb hr hS hlocks dX0_fits_71 (Or.inr rfl) (by rw [← hF, F0_fitsT, if_pos c_1, if_neg c_2, if_neg c_3, if_pos c_4])
        · refine lv_iload_n hx hb dX0_fits_54 rfl (lv_at hl 1 rfl) ?_
          refine lv_bipush (v := 98) hx hb dX0_fits_55 (by decide) ?_
          refine lv_icmp_eq (tgt := 66) hx hb dX0_fits_57 (by decide) (fun c_5 => ?_) (fun c_5 => ?_)
          · refine lv_iconst (v := 1) hx hb dX0_fits_66 (by decide) ?_
            refine lv_goto (tgt := 71) hx hb dX0_fits_67 (by decide) ?_
            exact bret_Rz hx hb hr hS hlocks dX0_fits_71 (Or.inr rfl) (by rw [← hF, F0_fitsT, if_pos c_1, if_neg c_2, if_neg c_3, if_neg c_4, if_pos c_5])
          · refine lv_iload_n hx hb dX0_fits_60 rfl (lv_at hl 1 rfl) ?_
            refine lv_bipush (v := 99) hx hb dX0_fits_61 (by decide) ?_
            refine lv_icmp_ne (tgt := 70) hx hb dX0_fits_63 (by decide) (fun c_6 => ?_) (fun c_6 => ?_)
            · refine lv_iconst (v := 0) hx hb dX0_fits_70 (by decide) ?_
              exact bret_Rz hx hb hr hS hlocks dX0_fits_71 (Or.inl rfl) (by rw [← hF, F0_fitsT, if_pos c_1, if_neg c_2, if_neg c_3, if_neg c_4, if_neg c_5, if_neg c_6])
            · refine lv_iconst (v := 1) hx hb dX0_fits_66 (by decide) ?_
              refine lv_goto (tgt := 71) hx hb dX0_fits_67 (by decide) ?_
              exact bret_Rz hx hb hr hS hlocks dX0_fits_71 (Or.inr rfl) (by rw [← hF, F0_fitsT, if_pos c_1, if_neg c_2, if_neg c_3, if_neg c_4, if_neg c_5, if_pos c_6])
  · by_cases c_7 : (u 9 0) = 1
    · refine lv_tableIn (off := 68) (tgt := 72) hx hb dX0_fits_4 (by rw [c_7]; decide) (by rw [c_7]; decide) (by rw [c_7]; rfl) (by decide) ?_
      refine lv_iload_n hx hb dX0_fits_72 rfl (lv_at hl 1 rfl) ?_
      refine lv_aload_n hx hb dX0_fits_73 rfl (lv_at hl 0 rfl) ?_
      refine va_get (D := D) (ci := 0) (C := RX0) (T := TX0) (N := 5) hx hb hts iX0 hown hk.1 hP 21 (wC_21 _ _ _ _) rfl 1 (by decide) (hts (.fieldLink RX0 15 "BottleLoop$Order" "letter" "I") (List.mem_of_getElem? (i := 2) rfl)) (fun _ h9 => h9) rfl dX0_fits_74 ?_
      refine lv_bipush (v := 100) hx hb dX0_fits_77 (by decide) ?_
      refine lv_icmp_ne (tgt := 87) hx hb dX0_fits_79 (by decide) (fun c_8 => ?_) (fun c_8 => ?_)
      · refine lv_bipush (v := 6) hx hb dX0_fits_87 (by decide) ?_
        refine bcall_Ri (va_runS (As := [.int a1, .int 6]) (rest := []) ⟨hx, hb, hml, hown, hts⟩ (C0_isDigitBelow l D cI cO q _ a1 6) (va_cwS 2 hts gX0_fits_X0_isDigitBelow rfl rfl rfl bd_X0isDigitBelow ⟨Nat.le_of_ble_eq_true rfl, Nat.le_of_ble_eq_true rfl⟩) (bPS hk) rfl rfl hl.1 rfl (lv_room (Nat.le_of_ble_eq_true rfl)) dX0_fits_89 ⟨Nat.zero_le _, Nat.zero_le _⟩) hS (fun locs hS => ?_)
        exact bret_Rz hx hb hr hS hlocks dX0_fits_92 (B0_isDigitBelow a1 6) (by rw [← hF, F0_fitsT, if_neg c_1, if_pos c_7, if_neg c_8])
      · refine lv_bipush (v := 8) hx hb dX0_fits_82 (by decide) ?_
        refine lv_goto (tgt := 89) hx hb dX0_fits_84 (by decide) ?_
        refine bcall_Ri (va_runS (As := [.int a1, .int 8]) (rest := []) ⟨hx, hb, hml, hown, hts⟩ (C0_isDigitBelow l D cI cO q _ a1 8) (va_cwS 2 hts gX0_fits_X0_isDigitBelow rfl rfl rfl bd_X0isDigitBelow ⟨Nat.le_of_ble_eq_true rfl, Nat.le_of_ble_eq_true rfl⟩) (bPS hk) rfl rfl hl.1 rfl (lv_room (Nat.le_of_ble_eq_true rfl)) dX0_fits_89 ⟨Nat.zero_le _, Nat.zero_le _⟩) hS (fun locs hS => ?_)
        exact bret_Rz hx hb hr hS hlocks dX0_fits_92 (B0_isDigitBelow a1 8) (by rw [← hF, F0_fitsT, if_neg c_1, if_pos c_7, if_pos c_8])
    · by_cases c_9 : (u 9 0) = 2
      · refine lv_tableIn (off := 89) (tgt := 93) hx hb dX0_fits_4 (by rw [c_9]; decide) (by rw [c_9]; decide) (by rw [c_9]; rfl) (by decide) ?_
        refine lv_iload_n hx hb dX0_fits_93 rfl (lv_at hl 1 rfl) ?_
        refine lv_aload_n hx hb dX0_fits_94 rfl (lv_at hl 0 rfl) ?_
        refine va_get (D := D) (ci := 0) (C := RX0) (T := TX0) (N := 5) hx hb hts iX0 hown hk.1 hP 21 (wC_21 _ _ _ _) rfl 1 (by decide) (hts (.fieldLink RX0 15 "BottleLoop$Order" "letter" "I") (List.mem_of_getElem? (i := 2) rfl)) (fun _ h9 => h9) rfl dX0_fits_95 ?_
        refine lv_bipush (v := 100) hx hb dX0_fits_98 (by decide) ?_
        refine lv_icmp_ne (tgt := 108) hx hb dX0_fits_100 (by decide) (fun c_10 => ?_) (fun c_10 => ?_)
        · refine lv_bipush (v := 58) hx hb dX0_fits_108 (by decide) ?_
          refine lv_icmp_ne (tgt := 117) hx hb dX0_fits_110 (by decide) (fun c_11 => ?_) (fun c_11 => ?_)
          · refine lv_iconst (v := 0) hx hb dX0_fits_117 (by decide) ?_
            exact bret_Rz hx hb hr hS hlocks dX0_fits_118 (Or.inl rfl) (by rw [← hF, F0_fitsT, if_neg c_1, if_neg c_7, if_pos c_9, if_neg c_10, if_neg c_11])
          · refine lv_iconst (v := 1) hx hb dX0_fits_113 (by decide) ?_
            refine lv_goto (tgt := 118) hx hb dX0_fits_114 (by decide) ?_
            exact bret_Rz hx hb hr hS hlocks dX0_fits_118 (Or.inr rfl) (by rw [← hF, F0_fitsT, if_neg c_1, if_neg c_7, if_pos c_9, if_neg c_10, if_pos c_11])
        · refine lv_bipush (v := 62) hx hb dX0_fits_103 (by decide) ?_
          refine lv_goto (tgt := 110) hx hb dX0_fits_105 (by decide) ?_
          refine lv_icmp_ne (tgt := 117) hx hb dX0_fits_110 (by decide) (fun c_12 => ?_) (fun c_12 => ?_)
          · refine lv_iconst (v := 0) hx hb dX0_fits_117 (by decide) ?_
            exact bret_Rz hx hb hr hS hlocks dX0_fits_118 (Or.inl rfl) (by rw [← hF, F0_fitsT, if_neg c_1, if_neg c_7, if_pos c_9, if_pos c_10, if_neg c_12])
          · refine lv_iconst (v := 1) hx hb dX0_fits_113 (by decide) ?_
            refine lv_goto (tgt := 118) hx hb dX0_fits_114 (by decide) ?_
            exact bret_Rz hx hb hr hS hlocks dX0_fits_118 (Or.inr rfl) (by rw [← hF, F0_fitsT, if_neg c_1, if_neg c_7, if_pos c_9, if_pos c_10, if_pos c_12])
      · by_cases c_13 : (u 9 0) = 3
        · refine lv_tableIn (off := 115) (tgt := 119) hx hb dX0_fits_4 (by rw [c_13]; decide) (by rw [c_13]; decide) (by rw [c_13]; rfl) (by decide) ?_
          refine lv_iload_n hx hb dX0_fits_119 rfl (lv_at hl 1 rfl) ?_
          refine lv_aload_n hx hb dX0_fits_120 rfl (lv_at hl 0 rfl) ?_
          refine bcall_Ri (va_runV (As := []) (rest := [.int a1]) ⟨hx, hb, hml, hown, hts⟩ (C0_secondBoundT l D cI cO q _ _ hP ) (cwV 0 hts gX0_fits_X0_secondBound rfl rfl rfl ⟨rfl, bd_X0secondBound⟩ ⟨Nat.le_of_ble_eq_true rfl, Nat.le_of_ble_eq_true rfl⟩) (bPV hk (va_recv hk.1 hP (ci := 0) (q0 := 21) rfl (wC_21 _ _ _ _))) rfl rfl hl.1 rfl (lv_room (Nat.le_of_ble_eq_true rfl)) dX0_fits_121 ⟨Nat.zero_le _, Nat.zero_le _⟩) hS (fun locs hS => ?_)
          refine bcall_Ri (va_runS (As := [.int a1, .int (F0_secondBoundT u)]) (rest := []) ⟨hx, hb, hml, hown, hts⟩ (C0_isDigitBelow l D cI cO q _ a1 (F0_secondBoundT u)) (va_cwS 2 hts gX0_fits_X0_isDigitBelow rfl rfl rfl bd_X0isDigitBelow ⟨Nat.le_of_ble_eq_true rfl, Nat.le_of_ble_eq_true rfl⟩) (bPS hk) rfl rfl hl.1 rfl (lv_room (Nat.le_of_ble_eq_true rfl)) dX0_fits_124 ⟨Nat.zero_le _, Nat.zero_le _⟩) hS (fun locs hS => ?_)
          exact bret_Rz hx hb hr hS hlocks dX0_fits_127 (B0_isDigitBelow a1 (F0_secondBoundT u)) (by rw [← hF, F0_fitsT, if_neg c_1, if_neg c_7, if_neg c_9, if_pos c_13])
        · have hn_4_0 := lv_neT c_1 (a := 0) rfl
          have hn_4_1 := lv_neT c_7 (a := 1) rfl
          have hn_4_2 := lv_neT c_9 (a := 2) rfl
          have hn_4_3 := lv_neT c_13 (a := 3) rfl
          refine lv_tableOut (tgt := 128) hx hb dX0_fits_4 (by omega) (by decide) ?_
          refine lv_iload_n hx hb dX0_fits_128 rfl (lv_at hl 1 rfl) ?_
          refine lv_bipush (v := 42) hx hb dX0_fits_129 (by decide) ?_
          refine lv_icmp_ne (tgt := 138) hx hb dX0_fits_131 (by decide) (fun c_14 => ?_) (fun c_14 => ?_)
          · refine lv_iconst (v := 0) hx hb dX0_fits_138 (by decide) ?_
            exact bret_Rz hx hb hr hS hlocks dX0_fits_139 (Or.inl rfl) (by rw [← hF, F0_fitsT, if_neg c_1, if_neg c_7, if_neg c_9, if_neg c_13, if_neg c_14])
          · refine lv_iconst (v := 1) hx hb dX0_fits_134 (by decide) ?_
            refine lv_goto (tgt := 139) hx hb dX0_fits_135 (by decide) ?_
            exact bret_Rz hx hb hr hS hlocks dX0_fits_139 (Or.inr rfl) (by rw [← hF, F0_fitsT, if_neg c_1, if_neg c_7, if_neg c_9, if_neg c_13, if_pos c_14])
theorem B0_fitsT (u : bU) (a1 : Int32) : (F0_fitsT u a1) = 0 ∨ (F0_fitsT u a1) = 1 := by
  unfold F0_fitsT
  (repeat' split) <;> first | exact Or.inl rfl | exact Or.inr rfl | exact (B0_isDigitBelow a1 6) | exact (B0_isDigitBelow a1 8) | exact (B0_isDigitBelow a1 (F0_secondBoundT u))
def F0_keepT (u : bU) (a1 : Int32) : bU := (if (u 9 0) = 0 then (bput u 9 1 a1) else (if (u 9 0) = (1 : Int32) then (bput u 9 2 (a1 - 48)) else (if (u 9 0) = (3 : Int32) then (bput u 9 3 (a1 - 48)) else u)))
set_option maxHeartbeats 4000000 in
set_option maxRecDepth 100000 in
theorem C0_keepT (l : Launch) (D : va_G) (cI cO : ClassId) (q : Nat → Nat) (u : bU) (H0 : Heap) (hq : bInj 23 q) (hP : va_P D vwCl (wC cI cO q u) H0) (a1 : Int32) : Met l yX0_keep wsX0_keep ({ frames := 0, cells := 0, slots := 0, locals := 0 }) (bP D [(cI, .int), (cO, .object RX2)] H0 [.ref (q 21), .int a1]) (bWv D (wC cI cO q) bT (bA 23 q H0.size) (F0_keepT u a1)) 0 0 (bA 23 q H0.size) := by
  refine Met.ofW (cc := cX0_keep) (maxL := 2) (ret := none) (by decide) rfl ?_
  intro p e s m args below meth c s₁ B hml hv
  obtain ⟨rfl, hH, hk⟩ := hv
  subst hH
  have hx := B.exec
  have hb := B.bytes
  have hr := B.returns
  have hts := atoms_spec (ws := wsX0_keep) B.pre
  have hown : s.vm.findClass RX0 = some m.cls := findClass_of_methodNamed B.named
  have hlocks := B.notSynchronized
  have iX0 : ∀ w ∈ wsX00, w ∈ wsX0_keep := by decide +kernel
  have hS : va_S (bA 23 q s.heap.size) s.heap s.heap [] := va_S.rf
  have hl := lv_entry ([.ref (q 21), .int a1]) (n := 2) (Nat.le_of_ble_eq_true rfl)
  rw [lg_entry_eq]
  generalize (lg_sl ([.ref (q 21), .int a1]) ++ List.replicate (2 - (lg_sl ([.ref (q 21), .int a1])).length) Slot.unset).toArray = ls at hl ⊢
  have hl : lv_has ls 2 [(0, .ref (q 21)), (1, .int a1)] := hl
  generalize hF : F0_keepT u a1 = tgt
  refine lv_aload_n hx hb dX0_keep_0 rfl (lv_at hl 0 rfl) ?_
  refine va_get (D := D) (ci := 0) (C := RX0) (T := TX0) (N := 5) hx hb hts iX0 hown hk.1 hP 21 (wC_21 _ _ _ _) rfl 0 (by decide) (hts (.fieldLink RX0 11 "BottleLoop$Order" "step" "I") (List.mem_of_getElem? (i := 1) rfl)) (fun _ h9 => h9) rfl dX0_keep_1 ?_
  refine lv_if_ne (tgt := 15) hx hb dX0_keep_4 (by decide) (fun c_1 => ?_) (fun c_1 => ?_)
  · refine lv_aload_n hx hb dX0_keep_15 rfl (lv_at hl 0 rfl) ?_
    refine va_get (D := D) (ci := 0) (C := RX0) (T := TX0) (N := 5) hx hb hts iX0 hown hk.1 hP 21 (wC_21 _ _ _ _) rfl 0 (by decide) (hts (.fieldLink RX0 11 "BottleLoop$Order" "step" "I") (List.mem_of_getElem? (i := 1) rfl)) (fun _ h9 => h9) rfl dX0_keep_16 ?_
    refine lv_iconst (v := 1) hx hb dX0_keep_19 (by decide) ?_
    refine lv_icmp_ne (tgt := 34) hx hb dX0_keep_20 (by decide) (fun c_2 => ?_) (fun c_2 => ?_)
    · refine lv_aload_n hx hb dX0_keep_34 rfl (lv_at hl 0 rfl) ?_
      refine va_get (D := D) (ci := 0) (C := RX0) (T := TX0) (N := 5) hx hb hts iX0 hown hk.1 hP 21 (wC_21 _ _ _ _) rfl 0 (by decide) (hts (.fieldLink RX0 11 "BottleLoop$Order" "step" "I") (List.mem_of_getElem? (i := 1) rfl)) (fun _ h9 => h9) rfl dX0_keep_35 ?_
      refine lv_iconst (v := 3) hx hb dX0_keep_38 (by decide) ?_
      refine lv_icmp_ne (tgt := 50) hx hb dX0_keep_39 (by decide) (fun c_3 => ?_) (fun c_3 => ?_)
      · exact bret_Wv hx hb hr hP trivial hS hlocks dX0_keep_50 (by rw [← hF, F0_keepT, if_neg c_1, if_neg c_2, if_neg c_3])
      · refine lv_aload_n hx hb dX0_keep_42 rfl (lv_at hl 0 rfl) ?_
        refine lv_iload_n hx hb dX0_keep_43 rfl (lv_at hl 1 rfl) ?_
        refine lv_bipush (v := 48) hx hb dX0_keep_44 (by decide) ?_
        refine lv_isub hx hb dX0_keep_46 ?_
        refine va_put (D := D) (ci := 0) (v := .int (a1 - 48)) (ty := .int) (C := RX0) (T := TX0) (N := 5) hx hb hts iX0 tyX0 tyX0_ok nmX0 hown hk.1 hP (wC_D hq) hS 21 (wC_21 _ _ _ _) rfl 3 (by decide) (hts (.fieldLink RX0 21 "BottleLoop$Order" "second" "I") (List.mem_of_getElem? (i := 4) rfl)) (fun _ h9 => h9) rfl (by decide +kernel) rfl rfl (Nat.le_of_ble_eq_true rfl) dX0_keep_47 (fun H locs hP _ hS => ?_)
        have hP : va_P D vwCl (wC cI cO q (bput u 9 3 (a1 - 48))) H := hP
        exact bret_Wv hx hb hr hP trivial hS hlocks dX0_keep_50 (by rw [← hF, F0_keepT, if_neg c_1, if_neg c_2, if_pos c_3])
    · refine lv_aload_n hx hb dX0_keep_23 rfl (lv_at hl 0 rfl) ?_
      refine lv_iload_n hx hb dX0_keep_24 rfl (lv_at hl 1 rfl) ?_
      refine lv_bipush (v := 48) hx hb dX0_keep_25 (by decide) ?_
      refine lv_isub hx hb dX0_keep_27 ?_
      refine va_put (D := D) (ci := 0) (v := .int (a1 - 48)) (ty := .int) (C := RX0) (T := TX0) (N := 5) hx hb hts iX0 tyX0 tyX0_ok nmX0 hown hk.1 hP (wC_D hq) hS 21 (wC_21 _ _ _ _) rfl 2 (by decide) (hts (.fieldLink RX0 18 "BottleLoop$Order" "first" "I") (List.mem_of_getElem? (i := 3) rfl)) (fun _ h9 => h9) rfl (by decide +kernel) rfl rfl (Nat.le_of_ble_eq_true rfl) dX0_keep_28 (fun H locs hP _ hS => ?_)
      have hP : va_P D vwCl (wC cI cO q (bput u 9 2 (a1 - 48))) H := hP
      refine lv_goto (tgt := 50) hx hb dX0_keep_31 (by decide) ?_
      exact bret_Wv hx hb hr hP trivial hS hlocks dX0_keep_50 (by rw [← hF, F0_keepT, if_neg c_1, if_pos c_2])
  · refine lv_aload_n hx hb dX0_keep_7 rfl (lv_at hl 0 rfl) ?_
    refine lv_iload_n hx hb dX0_keep_8 rfl (lv_at hl 1 rfl) ?_
    refine va_put (D := D) (ci := 0) (v := .int a1) (ty := .int) (C := RX0) (T := TX0) (N := 5) hx hb hts iX0 tyX0 tyX0_ok nmX0 hown hk.1 hP (wC_D hq) hS 21 (wC_21 _ _ _ _) rfl 1 (by decide) (hts (.fieldLink RX0 15 "BottleLoop$Order" "letter" "I") (List.mem_of_getElem? (i := 2) rfl)) (fun _ h9 => h9) rfl (by decide +kernel) rfl rfl (Nat.le_of_ble_eq_true rfl) dX0_keep_9 (fun H locs hP _ hS => ?_)
    have hP : va_P D vwCl (wC cI cO q (bput u 9 1 a1)) H := hP
    refine lv_goto (tgt := 50) hx hb dX0_keep_12 (by decide) ?_
    exact bret_Wv hx hb hr hP trivial hS hlocks dX0_keep_50 (by rw [← hF, F0_keepT, if_pos c_1])
def F0_takesT (u : bU) (a1 : Int32) : Int32 × bU := (if (u 9 0) = (5 : Int32) then ((F0_takesNumberT u a1).1, (F0_takesNumberT u a1).2) else (if (F0_fitsT u a1) = 0 then ((F0_fitsT u a1), u) else ((F0_fitsT u a1), (bput (F0_keepT u a1) 9 0 (((F0_keepT u a1) 9 0) + 1)))))
set_option maxHeartbeats 4000000 in
set_option maxRecDepth 100000 in
theorem C0_takesT (l : Launch) (D : va_G) (cI cO : ClassId) (q : Nat → Nat) (u : bU) (H0 : Heap) (hq : bInj 23 q) (hP : va_P D vwCl (wC cI cO q u) H0) (a1 : Int32) : Met l yX0_takes wsX0_takes ({ frames := 2, cells := 0, slots := 0, locals := 43 }) (bP D [(cI, .int), (cO, .object RX2)] H0 [.ref (q 21), .int a1]) (bWi D (wC cI cO q) bT (bA 23 q H0.size) (F0_takesT u a1)) 0 0 (bA 23 q H0.size) := by
  refine Met.ofW (cc := cX0_takes) (maxL := 3) (ret := (some .boolean)) (by decide) rfl ?_
  intro p e s m args below meth c s₁ B hml hv
  obtain ⟨rfl, hH, hk⟩ := hv
  subst hH
  have hx := B.exec
  have hb := B.bytes
  have hr := B.returns
  have hts := atoms_spec (ws := wsX0_takes) B.pre
  have hown : s.vm.findClass RX0 = some m.cls := findClass_of_methodNamed B.named
  have hlocks := B.notSynchronized
  have iX0 : ∀ w ∈ wsX00, w ∈ wsX0_takes := by decide +kernel
  have hS : va_S (bA 23 q s.heap.size) s.heap s.heap [] := va_S.rf
  have hl := lv_entry ([.ref (q 21), .int a1]) (n := 3) (Nat.le_of_ble_eq_true rfl)
  rw [lg_entry_eq]
  generalize (lg_sl ([.ref (q 21), .int a1]) ++ List.replicate (3 - (lg_sl ([.ref (q 21), .int a1])).length) Slot.unset).toArray = ls at hl ⊢
  have hl : lv_has ls 3 [(0, .ref (q 21)), (1, .int a1)] := hl
  generalize hF : F0_takesT u a1 = tgt
  refine lv_aload_n hx hb dX0_takes_0 rfl (lv_at hl 0 rfl) ?_
  refine va_get (D := D) (ci := 0) (C := RX0) (T := TX0) (N := 5) hx hb hts iX0 hown hk.1 hP 21 (wC_21 _ _ _ _) rfl 0 (by decide) (hts (.fieldLink RX0 11 "BottleLoop$Order" "step" "I") (List.mem_of_getElem? (i := 1) rfl)) (fun _ h9 => h9) rfl dX0_takes_1 ?_
  refine lv_iconst (v := 5) hx hb dX0_takes_4 (by decide) ?_
  refine lv_icmp_ne (tgt := 14) hx hb dX0_takes_5 (by decide) (fun c_1 => ?_) (fun c_1 => ?_)
  · refine lv_aload_n hx hb dX0_takes_14 rfl (lv_at hl 0 rfl) ?_
    refine lv_iload_n hx hb dX0_takes_15 rfl (lv_at hl 1 rfl) ?_
    refine bcall_Ri (va_runV (As := [.int a1]) (rest := []) ⟨hx, hb, hml, hown, hts⟩ (C0_fitsT l D cI cO q _ _ hP a1) (cwV 1 hts gX0_takes_X0_fits rfl rfl rfl ⟨rfl, bd_X0fits⟩ ⟨Nat.le_of_ble_eq_true rfl, Nat.le_of_ble_eq_true rfl⟩) (bPV hk (va_recv hk.1 hP (ci := 0) (q0 := 21) rfl (wC_21 _ _ _ _))) rfl rfl hl.1 rfl (lv_room (Nat.le_of_ble_eq_true rfl)) dX0_takes_16 ⟨Nat.zero_le _, Nat.zero_le _⟩) hS (fun locs hS => ?_)
    refine lv_istore_n (lv' := [(2, .int (F0_fitsT u a1)), (0, .ref (q 21)), (1, .int a1)]) hx hb dX0_takes_19 rfl hl (by decide) rfl (fun ls hl => ?_)
    refine lv_iload_n hx hb dX0_takes_20 rfl (lv_at hl 0 rfl) ?_
    refine lv_if_eq (tgt := 39) hx hb dX0_takes_21 (by decide) (fun c_2 => ?_) (fun c_2 => ?_)
    · refine lv_iload_n hx hb dX0_takes_39 rfl (lv_at hl 0 rfl) ?_
      exact bret_Wz hx hb hr hP trivial hS hlocks dX0_takes_40 (B0_fitsT u a1) (by rw [← hF, F0_takesT, if_neg c_1, if_pos c_2])
    · refine lv_aload_n hx hb dX0_takes_24 rfl (lv_at hl 1 rfl) ?_
      refine lv_iload_n hx hb dX0_takes_25 rfl (lv_at hl 2 rfl) ?_
      refine bcall_Wv (va_runV (As := [.int a1]) (rest := []) ⟨hx, hb, hml, hown, hts⟩ (C0_keepT l D cI cO q _ _ hq hP a1) (cwV 1 hts gX0_takes_X0_keep rfl rfl rfl ⟨rfl, bd_X0keep⟩ ⟨Nat.le_of_ble_eq_true rfl, Nat.le_of_ble_eq_true rfl⟩) (bPV hk (va_recv hk.1 hP (ci := 0) (q0 := 21) rfl (wC_21 _ _ _ _))) rfl rfl hl.1 rfl (lv_room (Nat.le_of_ble_eq_true rfl)) dX0_takes_26 ⟨Nat.zero_le _, Nat.zero_le _⟩) hS (fun H locs hP _ hS => ?_)
      refine lv_aload_n hx hb dX0_takes_29 rfl (lv_at hl 1 rfl) ?_
      refine lv_dup hx hb dX0_takes_30 rfl ?_
      refine va_get (D := D) (ci := 0) (C := RX0) (T := TX0) (N := 5) hx hb hts iX0 hown hk.1 hP 21 (wC_21 _ _ _ _) rfl 0 (by decide) (hts (.fieldLink RX0 11 "BottleLoop$Order" "step" "I") (List.mem_of_getElem? (i := 1) rfl)) (fun _ h9 => h9) rfl dX0_takes_31 ?_
      refine lv_iconst (v := 1) hx hb dX0_takes_34 (by decide) ?_
      refine lv_iadd hx hb dX0_takes_35 ?_
      refine va_put (D := D) (ci := 0) (v := .int (((F0_keepT u a1) 9 0) + 1)) (ty := .int) (C := RX0) (T := TX0) (N := 5) hx hb hts iX0 tyX0 tyX0_ok nmX0 hown hk.1 hP (wC_D hq) hS 21 (wC_21 _ _ _ _) rfl 0 (by decide) (hts (.fieldLink RX0 11 "BottleLoop$Order" "step" "I") (List.mem_of_getElem? (i := 1) rfl)) (fun _ h9 => h9) rfl (by decide +kernel) rfl rfl (Nat.le_of_ble_eq_true rfl) dX0_takes_36 (fun H locs hP _ hS => ?_)
      have hP : va_P D vwCl (wC cI cO q (bput (F0_keepT u a1) 9 0 (((F0_keepT u a1) 9 0) + 1))) H := hP
      refine lv_iload_n hx hb dX0_takes_39 rfl (lv_at hl 0 rfl) ?_
      exact bret_Wz hx hb hr hP trivial hS hlocks dX0_takes_40 (B0_fitsT u a1) (by rw [← hF, F0_takesT, if_neg c_1, if_neg c_2])
  · refine lv_aload_n hx hb dX0_takes_8 rfl (lv_at hl 0 rfl) ?_
    refine lv_iload_n hx hb dX0_takes_9 rfl (lv_at hl 1 rfl) ?_
    refine bcall_Wi (va_runV (As := [.int a1]) (rest := []) ⟨hx, hb, hml, hown, hts⟩ (C0_takesNumberT l D cI cO q _ _ hq hP a1) (cwV 1 hts gX0_takes_X0_takesNumber rfl rfl rfl ⟨rfl, bd_X0takesNumber⟩ ⟨Nat.le_of_ble_eq_true rfl, Nat.le_of_ble_eq_true rfl⟩) (bPV hk (va_recv hk.1 hP (ci := 0) (q0 := 21) rfl (wC_21 _ _ _ _))) rfl rfl hl.1 rfl (lv_room (Nat.le_of_ble_eq_true rfl)) dX0_takes_10 ⟨Nat.zero_le _, Nat.zero_le _⟩) hS (fun H locs hP _ hS => ?_)
    exact bret_Wz hx hb hr hP trivial hS hlocks dX0_takes_13 (B0_takesNumberT u a1) (by rw [← hF, F0_takesT, if_pos c_1])
theorem B0_takesT (u : bU) (a1 : Int32) : (F0_takesT u a1).1 = 0 ∨ (F0_takesT u a1).1 = 1 := by
  unfold F0_takesT
  (repeat' split) <;> first | exact Or.inl rfl | exact Or.inr rfl | exact (B0_fitsT u a1) | exact (B0_takesNumberT u a1)
def F0_letterO (u : bU) : Int32 := (u 10 1)
set_option maxHeartbeats 4000000 in
set_option maxRecDepth 100000 in
theorem C0_letterO (l : Launch) (D : va_G) (cI cO : ClassId) (q : Nat → Nat) (u : bU) (H0 : Heap) (hP : va_P D vwCl (wC cI cO q u) H0) : Met l yX0_letter wsX0_letter ({ frames := 0, cells := 0, slots := 0, locals := 0 }) (bP D [(cI, .int), (cO, .object RX2)] H0 [.ref (q 22)]) (bRi H0 (F0_letterO u)) 0 0 (fun _ => False) := by
  refine Met.ofW (cc := cX0_letter) (maxL := 1) (ret := (some .int)) (by decide) rfl ?_
  intro p e s m args below meth c s₁ B hml hv
  obtain ⟨rfl, hH, hk⟩ := hv
  subst hH
  have hx := B.exec
  have hb := B.bytes
  have hr := B.returns
  have hts := atoms_spec (ws := wsX0_letter) B.pre
  have hown : s.vm.findClass RX0 = some m.cls := findClass_of_methodNamed B.named
  have hlocks := B.notSynchronized
  have iX0 : ∀ w ∈ wsX00, w ∈ wsX0_letter := by decide +kernel
  have hS : va_S (fun _ => False) s.heap s.heap [] := va_S.rf
  have hl := lv_entry ([.ref (q 22)]) (n := 1) (Nat.le_of_ble_eq_true rfl)
  rw [lg_entry_eq]
  generalize (lg_sl ([.ref (q 22)]) ++ List.replicate (1 - (lg_sl ([.ref (q 22)])).length) Slot.unset).toArray = ls at hl ⊢
  have hl : lv_has ls 1 [(0, .ref (q 22))] := hl
  generalize hF : F0_letterO u = tgt
  refine lv_aload_n hx hb dX0_letter_0 rfl (lv_at hl 0 rfl) ?_
  refine va_get (D := D) (ci := 0) (C := RX0) (T := TX0) (N := 5) hx hb hts iX0 hown hk.1 hP 22 (wC_22 _ _ _ _) rfl 1 (by decide) (hts (.fieldLink RX0 15 "BottleLoop$Order" "letter" "I") (List.mem_of_getElem? (i := 1) rfl)) (fun _ h9 => h9) rfl dX0_letter_1 ?_
  exact bret_Ri hx hb hr hS hlocks dX0_letter_4 (by rw [← hF, F0_letterO])
def F0_firstO (u : bU) : Int32 := (u 10 2)
set_option maxHeartbeats 4000000 in
set_option maxRecDepth 100000 in
theorem C0_firstO (l : Launch) (D : va_G) (cI cO : ClassId) (q : Nat → Nat) (u : bU) (H0 : Heap) (hP : va_P D vwCl (wC cI cO q u) H0) : Met l yX0_first wsX0_first ({ frames := 0, cells := 0, slots := 0, locals := 0 }) (bP D [(cI, .int), (cO, .object RX2)] H0 [.ref (q 22)]) (bRi H0 (F0_firstO u)) 0 0 (fun _ => False) := by
  refine Met.ofW (cc := cX0_first) (maxL := 1) (ret := (some .int)) (by decide) rfl ?_
  intro p e s m args below meth c s₁ B hml hv
  obtain ⟨rfl, hH, hk⟩ := hv
  subst hH
  have hx := B.exec
  have hb := B.bytes
  have hr := B.returns
  have hts := atoms_spec (ws := wsX0_first) B.pre
  have hown : s.vm.findClass RX0 = some m.cls := findClass_of_methodNamed B.named
  have hlocks := B.notSynchronized
  have iX0 : ∀ w ∈ wsX00, w ∈ wsX0_first := by decide +kernel
  have hS : va_S (fun _ => False) s.heap s.heap [] := va_S.rf
  have hl := lv_entry ([.ref (q 22)]) (n := 1) (Nat.le_of_ble_eq_true rfl)
  rw [lg_entry_eq]
  generalize (lg_sl ([.ref (q 22)]) ++ List.replicate (1 - (lg_sl ([.ref (q 22)])).length) Slot.unset).toArray = ls at hl ⊢
  have hl : lv_has ls 1 [(0, .ref (q 22))] := hl
  generalize hF : F0_firstO u = tgt
  refine lv_aload_n hx hb dX0_first_0 rfl (lv_at hl 0 rfl) ?_
  refine va_get (D := D) (ci := 0) (C := RX0) (T := TX0) (N := 5) hx hb hts iX0 hown hk.1 hP 22 (wC_22 _ _ _ _) rfl 2 (by decide) (hts (.fieldLink RX0 18 "BottleLoop$Order" "first" "I") (List.mem_of_getElem? (i := 1) rfl)) (fun _ h9 => h9) rfl dX0_first_1 ?_
  exact bret_Ri hx hb hr hS hlocks dX0_first_4 (by rw [← hF, F0_firstO])
def F0_secondO (u : bU) : Int32 := (u 10 3)
set_option maxHeartbeats 4000000 in
set_option maxRecDepth 100000 in
theorem C0_secondO (l : Launch) (D : va_G) (cI cO : ClassId) (q : Nat → Nat) (u : bU) (H0 : Heap) (hP : va_P D vwCl (wC cI cO q u) H0) : Met l yX0_second wsX0_second ({ frames := 0, cells := 0, slots := 0, locals := 0 }) (bP D [(cI, .int), (cO, .object RX2)] H0 [.ref (q 22)]) (bRi H0 (F0_secondO u)) 0 0 (fun _ => False) := by
  refine Met.ofW (cc := cX0_second) (maxL := 1) (ret := (some .int)) (by decide) rfl ?_
  intro p e s m args below meth c s₁ B hml hv
  obtain ⟨rfl, hH, hk⟩ := hv
  subst hH
  have hx := B.exec
  have hb := B.bytes
  have hr := B.returns
  have hts := atoms_spec (ws := wsX0_second) B.pre
  have hown : s.vm.findClass RX0 = some m.cls := findClass_of_methodNamed B.named
  have hlocks := B.notSynchronized
  have iX0 : ∀ w ∈ wsX00, w ∈ wsX0_second := by decide +kernel
  have hS : va_S (fun _ => False) s.heap s.heap [] := va_S.rf
  have hl := lv_entry ([.ref (q 22)]) (n := 1) (Nat.le_of_ble_eq_true rfl)
  rw [lg_entry_eq]
  generalize (lg_sl ([.ref (q 22)]) ++ List.replicate (1 - (lg_sl ([.ref (q 22)])).length) Slot.unset).toArray = ls at hl ⊢
  have hl : lv_has ls 1 [(0, .ref (q 22))] := hl
  generalize hF : F0_secondO u = tgt
  refine lv_aload_n hx hb dX0_second_0 rfl (lv_at hl 0 rfl) ?_
  refine va_get (D := D) (ci := 0) (C := RX0) (T := TX0) (N := 5) hx hb hts iX0 hown hk.1 hP 22 (wC_22 _ _ _ _) rfl 3 (by decide) (hts (.fieldLink RX0 21 "BottleLoop$Order" "second" "I") (List.mem_of_getElem? (i := 1) rfl)) (fun _ h9 => h9) rfl dX0_second_1 ?_
  exact bret_Ri hx hb hr hS hlocks dX0_second_4 (by rw [← hF, F0_secondO])
def F0_numberO (u : bU) : Int32 := (u 10 4)
set_option maxHeartbeats 4000000 in
set_option maxRecDepth 100000 in
theorem C0_numberO (l : Launch) (D : va_G) (cI cO : ClassId) (q : Nat → Nat) (u : bU) (H0 : Heap) (hP : va_P D vwCl (wC cI cO q u) H0) : Met l yX0_number wsX0_number ({ frames := 0, cells := 0, slots := 0, locals := 0 }) (bP D [(cI, .int), (cO, .object RX2)] H0 [.ref (q 22)]) (bRi H0 (F0_numberO u)) 0 0 (fun _ => False) := by
  refine Met.ofW (cc := cX0_number) (maxL := 1) (ret := (some .int)) (by decide) rfl ?_
  intro p e s m args below meth c s₁ B hml hv
  obtain ⟨rfl, hH, hk⟩ := hv
  subst hH
  have hx := B.exec
  have hb := B.bytes
  have hr := B.returns
  have hts := atoms_spec (ws := wsX0_number) B.pre
  have hown : s.vm.findClass RX0 = some m.cls := findClass_of_methodNamed B.named
  have hlocks := B.notSynchronized
  have iX0 : ∀ w ∈ wsX00, w ∈ wsX0_number := by decide +kernel
  have hS : va_S (fun _ => False) s.heap s.heap [] := va_S.rf
  have hl := lv_entry ([.ref (q 22)]) (n := 1) (Nat.le_of_ble_eq_true rfl)
  rw [lg_entry_eq]
  generalize (lg_sl ([.ref (q 22)]) ++ List.replicate (1 - (lg_sl ([.ref (q 22)])).length) Slot.unset).toArray = ls at hl ⊢
  have hl : lv_has ls 1 [(0, .ref (q 22))] := hl
  generalize hF : F0_numberO u = tgt
  refine lv_aload_n hx hb dX0_number_0 rfl (lv_at hl 0 rfl) ?_
  refine va_get (D := D) (ci := 0) (C := RX0) (T := TX0) (N := 5) hx hb hts iX0 hown hk.1 hP 22 (wC_22 _ _ _ _) rfl 4 (by decide) (hts (.fieldLink RX0 24 "BottleLoop$Order" "number" "I") (List.mem_of_getElem? (i := 1) rfl)) (fun _ h9 => h9) rfl dX0_number_1 ?_
  exact bret_Ri hx hb hr hS hlocks dX0_number_4 (by rw [← hF, F0_numberO])
def F0_isWholeO (u : bU) : Int32 := (if (u 10 0) = (5 : Int32) then (if (u 10 4) ≤ 0 then 0 else 1) else 0)
set_option maxHeartbeats 4000000 in
set_option maxRecDepth 100000 in
theorem C0_isWholeO (l : Launch) (D : va_G) (cI cO : ClassId) (q : Nat → Nat) (u : bU) (H0 : Heap) (hP : va_P D vwCl (wC cI cO q u) H0) : Met l yX0_isWhole wsX0_isWhole ({ frames := 0, cells := 0, slots := 0, locals := 0 }) (bP D [(cI, .int), (cO, .object RX2)] H0 [.ref (q 22)]) (bRi H0 (F0_isWholeO u)) 0 0 (fun _ => False) := by
  refine Met.ofW (cc := cX0_isWhole) (maxL := 1) (ret := (some .boolean)) (by decide) rfl ?_
  intro p e s m args below meth c s₁ B hml hv
  obtain ⟨rfl, hH, hk⟩ := hv
  subst hH
  have hx := B.exec
  have hb := B.bytes
  have hr := B.returns
  have hts := atoms_spec (ws := wsX0_isWhole) B.pre
  have hown : s.vm.findClass RX0 = some m.cls := findClass_of_methodNamed B.named
  have hlocks := B.notSynchronized
  have iX0 : ∀ w ∈ wsX00, w ∈ wsX0_isWhole := by decide +kernel
  have hS : va_S (fun _ => False) s.heap s.heap [] := va_S.rf
  have hl := lv_entry ([.ref (q 22)]) (n := 1) (Nat.le_of_ble_eq_true rfl)
  rw [lg_entry_eq]
  generalize (lg_sl ([.ref (q 22)]) ++ List.replicate (1 - (lg_sl ([.ref (q 22)])).length) Slot.unset).toArray = ls at hl ⊢
  have hl : lv_has ls 1 [(0, .ref (q 22))] := hl
  generalize hF : F0_isWholeO u = tgt
  refine lv_aload_n hx hb dX0_isWhole_0 rfl (lv_at hl 0 rfl) ?_
  refine va_get (D := D) (ci := 0) (C := RX0) (T := TX0) (N := 5) hx hb hts iX0 hown hk.1 hP 22 (wC_22 _ _ _ _) rfl 0 (by decide) (hts (.fieldLink RX0 11 "BottleLoop$Order" "step" "I") (List.mem_of_getElem? (i := 1) rfl)) (fun _ h9 => h9) rfl dX0_isWhole_1 ?_
  refine lv_iconst (v := 5) hx hb dX0_isWhole_4 (by decide) ?_
  refine lv_icmp_ne (tgt := 19) hx hb dX0_isWhole_5 (by decide) (fun c_1 => ?_) (fun c_1 => ?_)
  · refine lv_iconst (v := 0) hx hb dX0_isWhole_19 (by decide) ?_
    exact bret_Rz hx hb hr hS hlocks dX0_isWhole_20 (Or.inl rfl) (by rw [← hF, F0_isWholeO, if_neg c_1])
  · refine lv_aload_n hx hb dX0_isWhole_8 rfl (lv_at hl 0 rfl) ?_
    refine va_get (D := D) (ci := 0) (C := RX0) (T := TX0) (N := 5) hx hb hts iX0 hown hk.1 hP 22 (wC_22 _ _ _ _) rfl 4 (by decide) (hts (.fieldLink RX0 24 "BottleLoop$Order" "number" "I") (List.mem_of_getElem? (i := 2) rfl)) (fun _ h9 => h9) rfl dX0_isWhole_9 ?_
    refine lv_if_le (tgt := 19) hx hb dX0_isWhole_12 (by decide) (fun c_2 => ?_) (fun c_2 => ?_)
    · refine lv_iconst (v := 0) hx hb dX0_isWhole_19 (by decide) ?_
      exact bret_Rz hx hb hr hS hlocks dX0_isWhole_20 (Or.inl rfl) (by rw [← hF, F0_isWholeO, if_pos c_1, if_pos c_2])
    · refine lv_iconst (v := 1) hx hb dX0_isWhole_15 (by decide) ?_
      refine lv_goto (tgt := 20) hx hb dX0_isWhole_16 (by decide) ?_
      exact bret_Rz hx hb hr hS hlocks dX0_isWhole_20 (Or.inr rfl) (by rw [← hF, F0_isWholeO, if_pos c_1, if_neg c_2])
theorem B0_isWholeO (u : bU) : (F0_isWholeO u) = 0 ∨ (F0_isWholeO u) = 1 := by
  unfold F0_isWholeO
  (repeat' split) <;> first | exact Or.inl rfl | exact Or.inr rfl
def F0_secondBoundO (u : bU) : Int32 := (if (u 10 1) = (100 : Int32) then 6 else (if (u 10 1) = (99 : Int32) then 3 else 8))
set_option maxHeartbeats 4000000 in
set_option maxRecDepth 100000 in
theorem C0_secondBoundO (l : Launch) (D : va_G) (cI cO : ClassId) (q : Nat → Nat) (u : bU) (H0 : Heap) (hP : va_P D vwCl (wC cI cO q u) H0) : Met l yX0_secondBound wsX0_secondBound ({ frames := 0, cells := 0, slots := 0, locals := 0 }) (bP D [(cI, .int), (cO, .object RX2)] H0 [.ref (q 22)]) (bRi H0 (F0_secondBoundO u)) 0 0 (fun _ => False) := by
  refine Met.ofW (cc := cX0_secondBound) (maxL := 1) (ret := (some .int)) (by decide) rfl ?_
  intro p e s m args below meth c s₁ B hml hv
  obtain ⟨rfl, hH, hk⟩ := hv
  subst hH
  have hx := B.exec
  have hb := B.bytes
  have hr := B.returns
  have hts := atoms_spec (ws := wsX0_secondBound) B.pre
  have hown : s.vm.findClass RX0 = some m.cls := findClass_of_methodNamed B.named
  have hlocks := B.notSynchronized
  have iX0 : ∀ w ∈ wsX00, w ∈ wsX0_secondBound := by decide +kernel
  have hS : va_S (fun _ => False) s.heap s.heap [] := va_S.rf
  have hl := lv_entry ([.ref (q 22)]) (n := 1) (Nat.le_of_ble_eq_true rfl)
  rw [lg_entry_eq]
  generalize (lg_sl ([.ref (q 22)]) ++ List.replicate (1 - (lg_sl ([.ref (q 22)])).length) Slot.unset).toArray = ls at hl ⊢
  have hl : lv_has ls 1 [(0, .ref (q 22))] := hl
  generalize hF : F0_secondBoundO u = tgt
  refine lv_aload_n hx hb dX0_secondBound_0 rfl (lv_at hl 0 rfl) ?_
  refine va_get (D := D) (ci := 0) (C := RX0) (T := TX0) (N := 5) hx hb hts iX0 hown hk.1 hP 22 (wC_22 _ _ _ _) rfl 1 (by decide) (hts (.fieldLink RX0 15 "BottleLoop$Order" "letter" "I") (List.mem_of_getElem? (i := 1) rfl)) (fun _ h9 => h9) rfl dX0_secondBound_1 ?_
  refine lv_bipush (v := 100) hx hb dX0_secondBound_4 (by decide) ?_
  refine lv_icmp_ne (tgt := 12) hx hb dX0_secondBound_6 (by decide) (fun c_1 => ?_) (fun c_1 => ?_)
  · refine lv_aload_n hx hb dX0_secondBound_12 rfl (lv_at hl 0 rfl) ?_
    refine va_get (D := D) (ci := 0) (C := RX0) (T := TX0) (N := 5) hx hb hts iX0 hown hk.1 hP 22 (wC_22 _ _ _ _) rfl 1 (by decide) (hts (.fieldLink RX0 15 "BottleLoop$Order" "letter" "I") (List.mem_of_getElem? (i := 1) rfl)) (fun _ h9 => h9) rfl dX0_secondBound_13 ?_
    refine lv_bipush (v := 99) hx hb dX0_secondBound_16 (by decide) ?_
    refine lv_icmp_ne (tgt := 25) hx hb dX0_secondBound_18 (by decide) (fun c_2 => ?_) (fun c_2 => ?_)
    · refine lv_bipush (v := 8) hx hb dX0_secondBound_25 (by decide) ?_
      exact bret_Ri hx hb hr hS hlocks dX0_secondBound_27 (by rw [← hF, F0_secondBoundO, if_neg c_1, if_neg c_2])
    · refine lv_iconst (v := 3) hx hb dX0_secondBound_21 (by decide) ?_
      refine lv_goto (tgt := 27) hx hb dX0_secondBound_22 (by decide) ?_
      exact bret_Ri hx hb hr hS hlocks dX0_secondBound_27 (by rw [← hF, F0_secondBoundO, if_neg c_1, if_pos c_2])
  · refine lv_bipush (v := 6) hx hb dX0_secondBound_9 (by decide) ?_
    exact bret_Ri hx hb hr hS hlocks dX0_secondBound_11 (by rw [← hF, F0_secondBoundO, if_pos c_1])
def F0_mostNumberO (u : bU) : Int32 := (if (u 10 1) = (100 : Int32) then 50 else (if (u 10 1) = (99 : Int32) then 50 else 500))
set_option maxHeartbeats 4000000 in
set_option maxRecDepth 100000 in
theorem C0_mostNumberO (l : Launch) (D : va_G) (cI cO : ClassId) (q : Nat → Nat) (u : bU) (H0 : Heap) (hP : va_P D vwCl (wC cI cO q u) H0) : Met l yX0_mostNumber wsX0_mostNumber ({ frames := 0, cells := 0, slots := 0, locals := 0 }) (bP D [(cI, .int), (cO, .object RX2)] H0 [.ref (q 22)]) (bRi H0 (F0_mostNumberO u)) 0 0 (fun _ => False) := by
  refine Met.ofW (cc := cX0_mostNumber) (maxL := 1) (ret := (some .int)) (by decide) rfl ?_
  intro p e s m args below meth c s₁ B hml hv
  obtain ⟨rfl, hH, hk⟩ := hv
  subst hH
  have hx := B.exec
  have hb := B.bytes
  have hr := B.returns
  have hts := atoms_spec (ws := wsX0_mostNumber) B.pre
  have hown : s.vm.findClass RX0 = some m.cls := findClass_of_methodNamed B.named
  have hlocks := B.notSynchronized
  have iX0 : ∀ w ∈ wsX00, w ∈ wsX0_mostNumber := by decide +kernel
  have hS : va_S (fun _ => False) s.heap s.heap [] := va_S.rf
  have hl := lv_entry ([.ref (q 22)]) (n := 1) (Nat.le_of_ble_eq_true rfl)
  rw [lg_entry_eq]
  generalize (lg_sl ([.ref (q 22)]) ++ List.replicate (1 - (lg_sl ([.ref (q 22)])).length) Slot.unset).toArray = ls at hl ⊢
  have hl : lv_has ls 1 [(0, .ref (q 22))] := hl
  generalize hF : F0_mostNumberO u = tgt
  refine lv_aload_n hx hb dX0_mostNumber_0 rfl (lv_at hl 0 rfl) ?_
  refine va_get (D := D) (ci := 0) (C := RX0) (T := TX0) (N := 5) hx hb hts iX0 hown hk.1 hP 22 (wC_22 _ _ _ _) rfl 1 (by decide) (hts (.fieldLink RX0 15 "BottleLoop$Order" "letter" "I") (List.mem_of_getElem? (i := 1) rfl)) (fun _ h9 => h9) rfl dX0_mostNumber_1 ?_
  refine lv_bipush (v := 100) hx hb dX0_mostNumber_4 (by decide) ?_
  refine lv_icmp_eq (tgt := 18) hx hb dX0_mostNumber_6 (by decide) (fun c_1 => ?_) (fun c_1 => ?_)
  · refine lv_bipush (v := 50) hx hb dX0_mostNumber_18 (by decide) ?_
    refine lv_goto (tgt := 26) hx hb dX0_mostNumber_20 (by decide) ?_
    exact bret_Ri hx hb hr hS hlocks dX0_mostNumber_26 (by rw [← hF, F0_mostNumberO, if_pos c_1])
  · refine lv_aload_n hx hb dX0_mostNumber_9 rfl (lv_at hl 0 rfl) ?_
    refine va_get (D := D) (ci := 0) (C := RX0) (T := TX0) (N := 5) hx hb hts iX0 hown hk.1 hP 22 (wC_22 _ _ _ _) rfl 1 (by decide) (hts (.fieldLink RX0 15 "BottleLoop$Order" "letter" "I") (List.mem_of_getElem? (i := 1) rfl)) (fun _ h9 => h9) rfl dX0_mostNumber_10 ?_
    refine lv_bipush (v := 99) hx hb dX0_mostNumber_13 (by decide) ?_
    refine lv_icmp_ne (tgt := 23) hx hb dX0_mostNumber_15 (by decide) (fun c_2 => ?_) (fun c_2 => ?_)
    · refine lv_sipush (v := 500) hx hb dX0_mostNumber_23 (by decide) ?_
      exact bret_Ri hx hb hr hS hlocks dX0_mostNumber_26 (by rw [← hF, F0_mostNumberO, if_neg c_1, if_neg c_2])
    · refine lv_bipush (v := 50) hx hb dX0_mostNumber_18 (by decide) ?_
      refine lv_goto (tgt := 26) hx hb dX0_mostNumber_20 (by decide) ?_
      exact bret_Ri hx hb hr hS hlocks dX0_mostNumber_26 (by rw [← hF, F0_mostNumberO, if_neg c_1, if_pos c_2])
def F0_beginO (u : bU) : bU := (bput (bput (bput (bput (bput u 10 0 0) 10 1 0) 10 2 0) 10 3 0) 10 4 0)
set_option maxHeartbeats 4000000 in
set_option maxRecDepth 100000 in
theorem C0_beginO (l : Launch) (D : va_G) (cI cO : ClassId) (q : Nat → Nat) (u : bU) (H0 : Heap) (hq : bInj 23 q) (hP : va_P D vwCl (wC cI cO q u) H0) : Met l yX0_begin wsX0_begin ({ frames := 0, cells := 0, slots := 0, locals := 0 }) (bP D [(cI, .int), (cO, .object RX2)] H0 [.ref (q 22)]) (bWv D (wC cI cO q) bT (bA 23 q H0.size) (F0_beginO u)) 0 0 (bA 23 q H0.size) := by
  refine Met.ofW (cc := cX0_begin) (maxL := 1) (ret := none) (by decide) rfl ?_
  intro p e s m args below meth c s₁ B hml hv
  obtain ⟨rfl, hH, hk⟩ := hv
  subst hH
  have hx := B.exec
  have hb := B.bytes
  have hr := B.returns
  have hts := atoms_spec (ws := wsX0_begin) B.pre
  have hown : s.vm.findClass RX0 = some m.cls := findClass_of_methodNamed B.named
  have hlocks := B.notSynchronized
  have iX0 : ∀ w ∈ wsX00, w ∈ wsX0_begin := by decide +kernel
  have hS : va_S (bA 23 q s.heap.size) s.heap s.heap [] := va_S.rf
  have hl := lv_entry ([.ref (q 22)]) (n := 1) (Nat.le_of_ble_eq_true rfl)
  rw [lg_entry_eq]
  generalize (lg_sl ([.ref (q 22)]) ++ List.replicate (1 - (lg_sl ([.ref (q 22)])).length) Slot.unset).toArray = ls at hl ⊢
  have hl : lv_has ls 1 [(0, .ref (q 22))] := hl
  generalize hF : F0_beginO u = tgt
  refine lv_aload_n hx hb dX0_begin_0 rfl (lv_at hl 0 rfl) ?_
  refine lv_iconst (v := 0) hx hb dX0_begin_1 (by decide) ?_
  refine va_put (D := D) (ci := 0) (v := .int 0) (ty := .int) (C := RX0) (T := TX0) (N := 5) hx hb hts iX0 tyX0 tyX0_ok nmX0 hown hk.1 hP (wC_D hq) hS 22 (wC_22 _ _ _ _) rfl 0 (by decide) (hts (.fieldLink RX0 11 "BottleLoop$Order" "step" "I") (List.mem_of_getElem? (i := 1) rfl)) (fun _ h9 => h9) rfl (by decide +kernel) rfl rfl (Nat.le_of_ble_eq_true rfl) dX0_begin_2 (fun H locs hP _ hS => ?_)
  have hP : va_P D vwCl (wC cI cO q (bput u 10 0 0)) H := hP
  refine lv_aload_n hx hb dX0_begin_5 rfl (lv_at hl 0 rfl) ?_
  refine lv_iconst (v := 0) hx hb dX0_begin_6 (by decide) ?_
  refine va_put (D := D) (ci := 0) (v := .int 0) (ty := .int) (C := RX0) (T := TX0) (N := 5) hx hb hts iX0 tyX0 tyX0_ok nmX0 hown hk.1 hP (wC_D hq) hS 22 (wC_22 _ _ _ _) rfl 1 (by decide) (hts (.fieldLink RX0 15 "BottleLoop$Order" "letter" "I") (List.mem_of_getElem? (i := 2) rfl)) (fun _ h9 => h9) rfl (by decide +kernel) rfl rfl (Nat.le_of_ble_eq_true rfl) dX0_begin_7 (fun H locs hP _ hS => ?_)
  have hP : va_P D vwCl (wC cI cO q (bput (bput u 10 0 0) 10 1 0)) H := hP
  refine lv_aload_n hx hb dX0_begin_10 rfl (lv_at hl 0 rfl) ?_
  refine lv_iconst (v := 0) hx hb dX0_begin_11 (by decide) ?_
  refine va_put (D := D) (ci := 0) (v := .int 0) (ty := .int) (C := RX0) (T := TX0) (N := 5) hx hb hts iX0 tyX0 tyX0_ok nmX0 hown hk.1 hP (wC_D hq) hS 22 (wC_22 _ _ _ _) rfl 2 (by decide) (hts (.fieldLink RX0 18 "BottleLoop$Order" "first" "I") (List.mem_of_getElem? (i := 3) rfl)) (fun _ h9 => h9) rfl (by decide +kernel) rfl rfl (Nat.le_of_ble_eq_true rfl) dX0_begin_12 (fun H locs hP _ hS => ?_)
  have hP : va_P D vwCl (wC cI cO q (bput (bput (bput u 10 0 0) 10 1 0) 10 2 0)) H := hP
  refine lv_aload_n hx hb dX0_begin_15 rfl (lv_at hl 0 rfl) ?_
  refine lv_iconst (v := 0) hx hb dX0_begin_16 (by decide) ?_
  refine va_put (D := D) (ci := 0) (v := .int 0) (ty := .int) (C := RX0) (T := TX0) (N := 5) hx hb hts iX0 tyX0 tyX0_ok nmX0 hown hk.1 hP (wC_D hq) hS 22 (wC_22 _ _ _ _) rfl 3 (by decide) (hts (.fieldLink RX0 21 "BottleLoop$Order" "second" "I") (List.mem_of_getElem? (i := 4) rfl)) (fun _ h9 => h9) rfl (by decide +kernel) rfl rfl (Nat.le_of_ble_eq_true rfl) dX0_begin_17 (fun H locs hP _ hS => ?_)
  have hP : va_P D vwCl (wC cI cO q (bput (bput (bput (bput u 10 0 0) 10 1 0) 10 2 0) 10 3 0)) H := hP
  refine lv_aload_n hx hb dX0_begin_20 rfl (lv_at hl 0 rfl) ?_
  refine lv_iconst (v := 0) hx hb dX0_begin_21 (by decide) ?_
  refine va_put (D := D) (ci := 0) (v := .int 0) (ty := .int) (C := RX0) (T := TX0) (N := 5) hx hb hts iX0 tyX0 tyX0_ok nmX0 hown hk.1 hP (wC_D hq) hS 22 (wC_22 _ _ _ _) rfl 4 (by decide) (hts (.fieldLink RX0 24 "BottleLoop$Order" "number" "I") (List.mem_of_getElem? (i := 5) rfl)) (fun _ h9 => h9) rfl (by decide +kernel) rfl rfl (Nat.le_of_ble_eq_true rfl) dX0_begin_22 (fun H locs hP _ hS => ?_)
  have hP : va_P D vwCl (wC cI cO q (bput (bput (bput (bput (bput u 10 0 0) 10 1 0) 10 2 0) 10 3 0) 10 4 0)) H := hP
  exact bret_Wv hx hb hr hP trivial hS hlocks dX0_begin_25 (by rw [← hF, F0_beginO])
def F0_takesNumberO (u : bU) (a1 : Int32) : Int32 × bU := (if a1 = (59 : Int32) then ((F0_isWholeO u), (F0_beginO u)) else (if (F0_isDigitBelow a1 10) = 0 then (0, u) else (if (((10 * (u 10 4)) + a1) - 48) < (1 : Int32) then (0, u) else (if (F0_mostNumberO u) < (((10 * (u 10 4)) + a1) - 48) then (0, u) else (1, (bput u 10 4 (((10 * (u 10 4)) + a1) - 48)))))))
set_option maxHeartbeats 4000000 in
set_option maxRecDepth 100000 in
theorem C0_takesNumberO (l : Launch) (D : va_G) (cI cO : ClassId) (q : Nat → Nat) (u : bU) (H0 : Heap) (hq : bInj 23 q) (hP : va_P D vwCl (wC cI cO q u) H0) (a1 : Int32) : Met l yX0_takesNumber wsX0_takesNumber ({ frames := 1, cells := 0, slots := 0, locals := 21 }) (bP D [(cI, .int), (cO, .object RX2)] H0 [.ref (q 22), .int a1]) (bWi D (wC cI cO q) bT (bA 23 q H0.size) (F0_takesNumberO u a1)) 0 0 (bA 23 q H0.size) := by
  refine Met.ofW (cc := cX0_takesNumber) (maxL := 3) (ret := (some .boolean)) (by decide) rfl ?_
  intro p e s m args below meth c s₁ B hml hv
  obtain ⟨rfl, hH, hk⟩ := hv
  subst hH
  have hx := B.exec
  have hb := B.bytes
  have hr := B.returns
  have hts := atoms_spec (ws := wsX0_takesNumber) B.pre
  have hown : s.vm.findClass RX0 = some m.cls := findClass_of_methodNamed B.named
  have hlocks := B.notSynchronized
  have iX0 : ∀ w ∈ wsX00, w ∈ wsX0_takesNumber := by decide +kernel
  have hS : va_S (bA 23 q s.heap.size) s.heap s.heap [] := va_S.rf
  have hl := lv_entry ([.ref (q 22), .int a1]) (n := 3) (Nat.le_of_ble_eq_true rfl)
  rw [lg_entry_eq]
  generalize (lg_sl ([.ref (q 22), .int a1]) ++ List.replicate (3 - (lg_sl ([.ref (q 22), .int a1])).length) Slot.unset).toArray = ls at hl ⊢
  have hl : lv_has ls 3 [(0, .ref (q 22)), (1, .int a1)] := hl
  generalize hF : F0_takesNumberO u a1 = tgt
  refine lv_iload_n hx hb dX0_takesNumber_0 rfl (lv_at hl 1 rfl) ?_
  refine lv_bipush (v := 59) hx hb dX0_takesNumber_1 (by decide) ?_
  refine lv_icmp_ne (tgt := 17) hx hb dX0_takesNumber_3 (by decide) (fun c_1 => ?_) (fun c_1 => ?_)
  · refine lv_iload_n hx hb dX0_takesNumber_17 rfl (lv_at hl 1 rfl) ?_
    refine lv_bipush (v := 10) hx hb dX0_takesNumber_18 (by decide) ?_
    refine bcall_Ri (va_runS (As := [.int a1, .int 10]) (rest := []) ⟨hx, hb, hml, hown, hts⟩ (C0_isDigitBelow l D cI cO q _ a1 10) (va_cwS 2 hts gX0_takesNumber_X0_isDigitBelow rfl rfl rfl bd_X0isDigitBelow ⟨Nat.le_of_ble_eq_true rfl, Nat.le_of_ble_eq_true rfl⟩) (bPS hk) rfl rfl hl.1 rfl (lv_room (Nat.le_of_ble_eq_true rfl)) dX0_takesNumber_20 ⟨Nat.zero_le _, Nat.zero_le _⟩) hS (fun locs hS => ?_)
    refine lv_if_eq (tgt := 65) hx hb dX0_takesNumber_23 (by decide) (fun c_2 => ?_) (fun c_2 => ?_)
    · refine lv_iconst (v := 0) hx hb dX0_takesNumber_65 (by decide) ?_
      refine lv_istore_n (lv' := [(2, .int 0), (0, .ref (q 22)), (1, .int a1)]) hx hb dX0_takesNumber_66 rfl hl (by decide) rfl (fun ls hl => ?_)
      refine lv_iload_n hx hb dX0_takesNumber_67 rfl (lv_at hl 0 rfl) ?_
      refine lv_if_eq (tgt := 87) hx hb dX0_takesNumber_68 (by decide) (fun _ => ?_) (fun h9 => absurd (by decide) h9)
      refine lv_iload_n hx hb dX0_takesNumber_87 rfl (lv_at hl 0 rfl) ?_
      exact bret_Wz hx hb hr hP trivial hS hlocks dX0_takesNumber_88 (Or.inl rfl) (by rw [← hF, F0_takesNumberO, if_neg c_1, if_pos c_2])
    · refine lv_bipush (v := 10) hx hb dX0_takesNumber_26 (by decide) ?_
      refine lv_aload_n hx hb dX0_takesNumber_28 rfl (lv_at hl 0 rfl) ?_
      refine va_get (D := D) (ci := 0) (C := RX0) (T := TX0) (N := 5) hx hb hts iX0 hown hk.1 hP 22 (wC_22 _ _ _ _) rfl 4 (by decide) (hts (.fieldLink RX0 24 "BottleLoop$Order" "number" "I") (List.mem_of_getElem? (i := 1) rfl)) (fun _ h9 => h9) rfl dX0_takesNumber_29 ?_
      refine lv_imul hx hb dX0_takesNumber_32 ?_
      refine lv_iload_n hx hb dX0_takesNumber_33 rfl (lv_at hl 1 rfl) ?_
      refine lv_iadd hx hb dX0_takesNumber_34 ?_
      refine lv_bipush (v := 48) hx hb dX0_takesNumber_35 (by decide) ?_
      refine lv_isub hx hb dX0_takesNumber_37 ?_
      refine lv_iconst (v := 1) hx hb dX0_takesNumber_38 (by decide) ?_
      refine lv_icmp_lt (tgt := 65) hx hb dX0_takesNumber_39 (by decide) (fun c_3 => ?_) (fun c_3 => ?_)
      · refine lv_iconst (v := 0) hx hb dX0_takesNumber_65 (by decide) ?_
        refine lv_istore_n (lv' := [(2, .int 0), (0, .ref (q 22)), (1, .int a1)]) hx hb dX0_takesNumber_66 rfl hl (by decide) rfl (fun ls hl => ?_)
        refine lv_iload_n hx hb dX0_takesNumber_67 rfl (lv_at hl 0 rfl) ?_
        refine lv_if_eq (tgt := 87) hx hb dX0_takesNumber_68 (by decide) (fun _ => ?_) (fun h9 => absurd (by decide) h9)
        refine lv_iload_n hx hb dX0_takesNumber_87 rfl (lv_at hl 0 rfl) ?_
        exact bret_Wz hx hb hr hP trivial hS hlocks dX0_takesNumber_88 (Or.inl rfl) (by rw [← hF, F0_takesNumberO, if_neg c_1, if_neg c_2, if_pos c_3])
      · refine lv_bipush (v := 10) hx hb dX0_takesNumber_42 (by decide) ?_
        refine lv_aload_n hx hb dX0_takesNumber_44 rfl (lv_at hl 0 rfl) ?_
        refine va_get (D := D) (ci := 0) (C := RX0) (T := TX0) (N := 5) hx hb hts iX0 hown hk.1 hP 22 (wC_22 _ _ _ _) rfl 4 (by decide) (hts (.fieldLink RX0 24 "BottleLoop$Order" "number" "I") (List.mem_of_getElem? (i := 1) rfl)) (fun _ h9 => h9) rfl dX0_takesNumber_45 ?_
        refine lv_imul hx hb dX0_takesNumber_48 ?_
        refine lv_iload_n hx hb dX0_takesNumber_49 rfl (lv_at hl 1 rfl) ?_
        refine lv_iadd hx hb dX0_takesNumber_50 ?_
        refine lv_bipush (v := 48) hx hb dX0_takesNumber_51 (by decide) ?_
        refine lv_isub hx hb dX0_takesNumber_53 ?_
        refine lv_aload_n hx hb dX0_takesNumber_54 rfl (lv_at hl 0 rfl) ?_
        refine bcall_Ri (va_runV (As := []) (rest := [.int (((10 * (u 10 4)) + a1) - 48)]) ⟨hx, hb, hml, hown, hts⟩ (C0_mostNumberO l D cI cO q _ _ hP ) (cwV 0 hts gX0_takesNumber_X0_mostNumber rfl rfl rfl ⟨rfl, bd_X0mostNumber⟩ ⟨Nat.le_of_ble_eq_true rfl, Nat.le_of_ble_eq_true rfl⟩) (bPV hk (va_recv hk.1 hP (ci := 0) (q0 := 22) rfl (wC_22 _ _ _ _))) rfl rfl hl.1 rfl (lv_room (Nat.le_of_ble_eq_true rfl)) dX0_takesNumber_55 ⟨Nat.zero_le _, Nat.zero_le _⟩) hS (fun locs hS => ?_)
        refine lv_icmp_gt (tgt := 65) hx hb dX0_takesNumber_58 (by decide) (fun c_4 => ?_) (fun c_4 => ?_)
        · refine lv_iconst (v := 0) hx hb dX0_takesNumber_65 (by decide) ?_
          refine lv_istore_n (lv' := [(2, .int 0), (0, .ref (q 22)), (1, .int a1)]) hx hb dX0_takesNumber_66 rfl hl (by decide) rfl (fun ls hl => ?_)
          refine lv_iload_n hx hb dX0_takesNumber_67 rfl (lv_at hl 0 rfl) ?_
          refine lv_if_eq (tgt := 87) hx hb dX0_takesNumber_68 (by decide) (fun _ => ?_) (fun h9 => absurd (by decide) h9)
          refine lv_iload_n hx hb dX0_takesNumber_87 rfl (lv_at hl 0 rfl) ?_
          exact bret_Wz hx hb hr hP trivial hS hlocks dX0_takesNumber_88 (Or.inl rfl) (by rw [← hF, F0_takesNumberO, if_neg c_1, if_neg c_2, if_neg c_3, if_pos c_4])
        · refine lv_iconst (v := 1) hx hb dX0_takesNumber_61 (by decide) ?_
          refine lv_goto (tgt := 66) hx hb dX0_takesNumber_62 (by decide) ?_
          refine lv_istore_n (lv' := [(2, .int 1), (0, .ref (q 22)), (1, .int a1)]) hx hb dX0_takesNumber_66 rfl hl (by decide) rfl (fun ls hl => ?_)
          refine lv_iload_n hx hb dX0_takesNumber_67 rfl (lv_at hl 0 rfl) ?_
          refine lv_if_eq (tgt := 87) hx hb dX0_takesNumber_68 (by decide) (fun h9 => absurd h9 (by decide)) (fun _ => ?_)
          refine lv_aload_n hx hb dX0_takesNumber_71 rfl (lv_at hl 1 rfl) ?_
          refine lv_bipush (v := 10) hx hb dX0_takesNumber_72 (by decide) ?_
          refine lv_aload_n hx hb dX0_takesNumber_74 rfl (lv_at hl 1 rfl) ?_
          refine va_get (D := D) (ci := 0) (C := RX0) (T := TX0) (N := 5) hx hb hts iX0 hown hk.1 hP 22 (wC_22 _ _ _ _) rfl 4 (by decide) (hts (.fieldLink RX0 24 "BottleLoop$Order" "number" "I") (List.mem_of_getElem? (i := 1) rfl)) (fun _ h9 => h9) rfl dX0_takesNumber_75 ?_
          refine lv_imul hx hb dX0_takesNumber_78 ?_
          refine lv_iload_n hx hb dX0_takesNumber_79 rfl (lv_at hl 2 rfl) ?_
          refine lv_iadd hx hb dX0_takesNumber_80 ?_
          refine lv_bipush (v := 48) hx hb dX0_takesNumber_81 (by decide) ?_
          refine lv_isub hx hb dX0_takesNumber_83 ?_
          refine va_put (D := D) (ci := 0) (v := .int (((10 * (u 10 4)) + a1) - 48)) (ty := .int) (C := RX0) (T := TX0) (N := 5) hx hb hts iX0 tyX0 tyX0_ok nmX0 hown hk.1 hP (wC_D hq) hS 22 (wC_22 _ _ _ _) rfl 4 (by decide) (hts (.fieldLink RX0 24 "BottleLoop$Order" "number" "I") (List.mem_of_getElem? (i := 1) rfl)) (fun _ h9 => h9) rfl (by decide +kernel) rfl rfl (Nat.le_of_ble_eq_true rfl) dX0_takesNumber_84 (fun H locs hP _ hS => ?_)
          have hP : va_P D vwCl (wC cI cO q (bput u 10 4 (((10 * (u 10 4)) + a1) - 48))) H := hP
          refine lv_iload_n hx hb dX0_takesNumber_87 rfl (lv_at hl 0 rfl) ?_
          exact bret_Wz hx hb hr hP trivial hS hlocks dX0_takesNumber_88 (Or.inr rfl) (by rw [← hF, F0_takesNumberO, if_neg c_1, if_neg c_2, if_neg c_3, if_neg c_4])
  · refine lv_aload_n hx hb dX0_takesNumber_6 rfl (lv_at hl 0 rfl) ?_
    refine bcall_Ri (va_runV (As := []) (rest := []) ⟨hx, hb, hml, hown, hts⟩ (C0_isWholeO l D cI cO q _ _ hP ) (cwV 0 hts gX0_takesNumber_X0_isWhole rfl rfl rfl ⟨rfl, bd_X0isWhole⟩ ⟨Nat.le_of_ble_eq_true rfl, Nat.le_of_ble_eq_true rfl⟩) (bPV hk (va_recv hk.1 hP (ci := 0) (q0 := 22) rfl (wC_22 _ _ _ _))) rfl rfl hl.1 rfl (lv_room (Nat.le_of_ble_eq_true rfl)) dX0_takesNumber_7 ⟨Nat.zero_le _, Nat.zero_le _⟩) hS (fun locs hS => ?_)
    refine lv_istore_n (lv' := [(2, .int (F0_isWholeO u)), (0, .ref (q 22)), (1, .int a1)]) hx hb dX0_takesNumber_10 rfl hl (by decide) rfl (fun ls hl => ?_)
    refine lv_aload_n hx hb dX0_takesNumber_11 rfl (lv_at hl 1 rfl) ?_
    refine bcall_Wv (va_runV (As := []) (rest := []) ⟨hx, hb, hml, hown, hts⟩ (C0_beginO l D cI cO q _ _ hq hP ) (cwV 0 hts gX0_takesNumber_X0_begin rfl rfl rfl ⟨rfl, bd_X0begin⟩ ⟨Nat.le_of_ble_eq_true rfl, Nat.le_of_ble_eq_true rfl⟩) (bPV hk (va_recv hk.1 hP (ci := 0) (q0 := 22) rfl (wC_22 _ _ _ _))) rfl rfl hl.1 rfl (lv_room (Nat.le_of_ble_eq_true rfl)) dX0_takesNumber_12 ⟨Nat.zero_le _, Nat.zero_le _⟩) hS (fun H locs hP _ hS => ?_)
    refine lv_iload_n hx hb dX0_takesNumber_15 rfl (lv_at hl 0 rfl) ?_
    exact bret_Wz hx hb hr hP trivial hS hlocks dX0_takesNumber_16 (B0_isWholeO u) (by rw [← hF, F0_takesNumberO, if_pos c_1])
theorem B0_takesNumberO (u : bU) (a1 : Int32) : (F0_takesNumberO u a1).1 = 0 ∨ (F0_takesNumberO u a1).1 = 1 := by
  unfold F0_takesNumberO
  (repeat' split) <;> first | exact Or.inl rfl | exact Or.inr rfl | exact (B0_isDigitBelow a1 10) | exact (B0_isWholeO u)
def F0_fitsO (u : bU) (a1 : Int32) : Int32 := (if (u 10 0) = 0 then (if a1 = (100 : Int32) then 1 else (if a1 = (115 : Int32) then 1 else (if a1 = (114 : Int32) then 1 else (if a1 = (98 : Int32) then 1 else (if a1 = (99 : Int32) then 1 else 0))))) else (if (u 10 0) = 1 then (if (u 10 1) = (100 : Int32) then (F0_isDigitBelow a1 8) else (F0_isDigitBelow a1 6)) else (if (u 10 0) = 2 then (if (u 10 1) = (100 : Int32) then (if a1 = (62 : Int32) then 1 else 0) else (if a1 = (58 : Int32) then 1 else 0)) else (if (u 10 0) = 3 then (F0_isDigitBelow a1 (F0_secondBoundO u)) else (if a1 = (42 : Int32) then 1 else 0)))))
set_option maxHeartbeats 4000000 in
set_option maxRecDepth 100000 in
theorem C0_fitsO (l : Launch) (D : va_G) (cI cO : ClassId) (q : Nat → Nat) (u : bU) (H0 : Heap) (hP : va_P D vwCl (wC cI cO q u) H0) (a1 : Int32) : Met l yX0_fits wsX0_fits ({ frames := 1, cells := 0, slots := 0, locals := 21 }) (bP D [(cI, .int), (cO, .object RX2)] H0 [.ref (q 22), .int a1]) (bRi H0 (F0_fitsO u a1)) 0 0 (fun _ => False) := by
  refine Met.ofW (cc := cX0_fits) (maxL := 2) (ret := (some .boolean)) (by decide) rfl ?_
  intro p e s m args below meth c s₁ B hml hv
  obtain ⟨rfl, hH, hk⟩ := hv
  subst hH
  have hx := B.exec
  have hb := B.bytes
  have hr := B.returns
  have hts := atoms_spec (ws := wsX0_fits) B.pre
  have hown : s.vm.findClass RX0 = some m.cls := findClass_of_methodNamed B.named
  have hlocks := B.notSynchronized
  have iX0 : ∀ w ∈ wsX00, w ∈ wsX0_fits := by decide +kernel
  have hS : va_S (fun _ => False) s.heap s.heap [] := va_S.rf
  have hl := lv_entry ([.ref (q 22), .int a1]) (n := 2) (Nat.le_of_ble_eq_true rfl)
  rw [lg_entry_eq]
  generalize (lg_sl ([.ref (q 22), .int a1]) ++ List.replicate (2 - (lg_sl ([.ref (q 22), .int a1])).length) Slot.unset).toArray = ls at hl ⊢
  have hl : lv_has ls 2 [(0, .ref (q 22)), (1, .int a1)] := hl
  generalize hF : F0_fitsO u a1 = tgt
  refine lv_aload_n hx hb dX0_fits_0 rfl (lv_at hl 0 rfl) ?_
  refine va_get (D := D) (ci := 0) (C := RX0) (T := TX0) (N := 5) hx hb hts iX0 hown hk.1 hP 22 (wC_22 _ _ _ _) rfl 0 (by decide) (hts (.fieldLink RX0 11 "BottleLoop$Order" "step" "I") (List.mem_of_getElem? (i := 1) rfl)) (fun _ h9 => h9) rfl dX0_fits_1 ?_
  by_cases c_1 : (u 10 0) = 0
  · refine lv_tableIn (off := 32) (tgt := 36) hx hb dX0_fits_4 (by rw [c_1]; decide) (by rw [c_1]; decide) (by rw [c_1]; rfl) (by decide) ?_
    refine lv_iload_n hx hb dX0_fits_36 rfl (lv_at hl 1 rfl) ?_
    refine lv_bipush (v := 100) hx hb dX0_fits_37 (by decide) ?_
    refine lv_icmp_eq (tgt := 66) hx hb dX0_fits_39 (by decide) (fun c_2 => ?_) (fun c_2 => ?_)
    · refine lv_iconst (v := 1) hx hb dX0_fits_66 (by decide) ?_
      refine lv_goto (tgt := 71) hx hb dX0_fits_67 (by decide) ?_
      exact bret_Rz hx hb hr hS hlocks dX0_fits_71 (Or.inr rfl) (by rw [← hF, F0_fitsO, if_pos c_1, if_pos c_2])
    · refine lv_iload_n hx hb dX0_fits_42 rfl (lv_at hl 1 rfl) ?_
      refine lv_bipush (v := 115) hx hb dX0_fits_43 (by decide) ?_
      refine lv_icmp_eq (tgt := 66) hx hb dX0_fits_45 (by decide) (fun c_3 => ?_) (fun c_3 => ?_)
      · refine lv_iconst (v := 1) hx hb dX0_fits_66 (by decide) ?_
        refine lv_goto (tgt := 71) hx hb dX0_fits_67 (by decide) ?_
        exact bret_Rz hx hb hr hS hlocks dX0_fits_71 (Or.inr rfl) (by rw [← hF, F0_fitsO, if_pos c_1, if_neg c_2, if_pos c_3])
      · refine lv_iload_n hx hb dX0_fits_48 rfl (lv_at hl 1 rfl) ?_
        refine lv_bipush (v := 114) hx hb dX0_fits_49 (by decide) ?_
        refine lv_icmp_eq (tgt := 66) hx hb dX0_fits_51 (by decide) (fun c_4 => ?_) (fun c_4 => ?_)
        · refine lv_iconst (v := 1) hx hb dX0_fits_66 (by decide) ?_
          refine lv_goto (tgt := 71) hx hb dX0_fits_67 (by decide) ?_
          exact bret_Rz hx hb hr hS hlocks dX0_fits_71 (Or.inr rfl) (by rw [← hF, F0_fitsO, if_pos c_1, if_neg c_2, if_neg c_3, if_pos c_4])
        · refine lv_iload_n hx hb dX0_fits_54 rfl (lv_at hl 1 rfl) ?_
          refine lv_bipush (v := 98) hx hb dX0_fits_55 (by decide) ?_
          refine lv_icmp_eq (tgt := 66) hx hb dX0_fits_57 (by decide) (fun c_5 => ?_) (fun c_5 => ?_)
          · refine lv_iconst (v := 1) hx hb dX0_fits_66 (by decide) ?_
            refine lv_goto (tgt := 71) hx hb dX0_fits_67 (by decide) ?_
            exact bret_Rz hx hb hr hS hlocks dX0_fits_71 (Or.inr rfl) (by rw [← hF, F0_fitsO, if_pos c_1, if_neg c_2, if_neg c_3, if_neg c_4, if_pos c_5])
          · refine lv_iload_n hx hb dX0_fits_60 rfl (lv_at hl 1 rfl) ?_
            refine lv_bipush (v := 99) hx hb dX0_fits_61 (by decide) ?_
            refine lv_icmp_ne (tgt := 70) hx hb dX0_fits_63 (by decide) (fun c_6 => ?_) (fun c_6 => ?_)
            · refine lv_iconst (v := 0) hx hb dX0_fits_70 (by decide) ?_
              exact bret_Rz hx hb hr hS hlocks dX0_fits_71 (Or.inl rfl) (by rw [← hF, F0_fitsO, if_pos c_1, if_neg c_2, if_neg c_3, if_neg c_4, if_neg c_5, if_neg c_6])
            · refine lv_iconst (v := 1) hx hb dX0_fits_66 (by decide) ?_
              refine lv_goto (tgt := 71) hx hb dX0_fits_67 (by decide) ?_
              exact bret_Rz hx hb hr hS hlocks dX0_fits_71 (Or.inr rfl) (by rw [← hF, F0_fitsO, if_pos c_1, if_neg c_2, if_neg c_3, if_neg c_4, if_neg c_5, if_pos c_6])
  · by_cases c_7 : (u 10 0) = 1
    · refine lv_tableIn (off := 68) (tgt := 72) hx hb dX0_fits_4 (by rw [c_7]; decide) (by rw [c_7]; decide) (by rw [c_7]; rfl) (by decide) ?_
      refine lv_iload_n hx hb dX0_fits_72 rfl (lv_at hl 1 rfl) ?_
      refine lv_aload_n hx hb dX0_fits_73 rfl (lv_at hl 0 rfl) ?_
      refine va_get (D := D) (ci := 0) (C := RX0) (T := TX0) (N := 5) hx hb hts iX0 hown hk.1 hP 22 (wC_22 _ _ _ _) rfl 1 (by decide) (hts (.fieldLink RX0 15 "BottleLoop$Order" "letter" "I") (List.mem_of_getElem? (i := 2) rfl)) (fun _ h9 => h9) rfl dX0_fits_74 ?_
      refine lv_bipush (v := 100) hx hb dX0_fits_77 (by decide) ?_
      refine lv_icmp_ne (tgt := 87) hx hb dX0_fits_79 (by decide) (fun c_8 => ?_) (fun c_8 => ?_)
      · refine lv_bipush (v := 6) hx hb dX0_fits_87 (by decide) ?_
        refine bcall_Ri (va_runS (As := [.int a1, .int 6]) (rest := []) ⟨hx, hb, hml, hown, hts⟩ (C0_isDigitBelow l D cI cO q _ a1 6) (va_cwS 2 hts gX0_fits_X0_isDigitBelow rfl rfl rfl bd_X0isDigitBelow ⟨Nat.le_of_ble_eq_true rfl, Nat.le_of_ble_eq_true rfl⟩) (bPS hk) rfl rfl hl.1 rfl (lv_room (Nat.le_of_ble_eq_true rfl)) dX0_fits_89 ⟨Nat.zero_le _, Nat.zero_le _⟩) hS (fun locs hS => ?_)
        exact bret_Rz hx hb hr hS hlocks dX0_fits_92 (B0_isDigitBelow a1 6) (by rw [← hF, F0_fitsO, if_neg c_1, if_pos c_7, if_neg c_8])
      · refine lv_bipush (v := 8) hx hb dX0_fits_82 (by decide) ?_
        refine lv_goto (tgt := 89) hx hb dX0_fits_84 (by decide) ?_
        refine bcall_Ri (va_runS (As := [.int a1, .int 8]) (rest := []) ⟨hx, hb, hml, hown, hts⟩ (C0_isDigitBelow l D cI cO q _ a1 8) (va_cwS 2 hts gX0_fits_X0_isDigitBelow rfl rfl rfl bd_X0isDigitBelow ⟨Nat.le_of_ble_eq_true rfl, Nat.le_of_ble_eq_true rfl⟩) (bPS hk) rfl rfl hl.1 rfl (lv_room (Nat.le_of_ble_eq_true rfl)) dX0_fits_89 ⟨Nat.zero_le _, Nat.zero_le _⟩) hS (fun locs hS => ?_)
        exact bret_Rz hx hb hr hS hlocks dX0_fits_92 (B0_isDigitBelow a1 8) (by rw [← hF, F0_fitsO, if_neg c_1, if_pos c_7, if_pos c_8])
    · by_cases c_9 : (u 10 0) = 2
      · refine lv_tableIn (off := 89) (tgt := 93) hx hb dX0_fits_4 (by rw [c_9]; decide) (by rw [c_9]; decide) (by rw [c_9]; rfl) (by decide) ?_
        refine lv_iload_n hx hb dX0_fits_93 rfl (lv_at hl 1 rfl) ?_
        refine lv_aload_n hx hb dX0_fits_94 rfl (lv_at hl 0 rfl) ?_
        refine va_get (D := D) (ci := 0) (C := RX0) (T := TX0) (N := 5) hx hb hts iX0 hown hk.1 hP 22 (wC_22 _ _ _ _) rfl 1 (by decide) (hts (.fieldLink RX0 15 "BottleLoop$Order" "letter" "I") (List.mem_of_getElem? (i := 2) rfl)) (fun _ h9 => h9) rfl dX0_fits_95 ?_
        refine lv_bipush (v := 100) hx hb dX0_fits_98 (by decide) ?_
        refine lv_icmp_ne (tgt := 108) hx hb dX0_fits_100 (by decide) (fun c_10 => ?_) (fun c_10 => ?_)
        · refine lv_bipush (v := 58) hx hb dX0_fits_108 (by decide) ?_
          refine lv_icmp_ne (tgt := 117) hx hb dX0_fits_110 (by decide) (fun c_11 => ?_) (fun c_11 => ?_)
          · refine lv_iconst (v := 0) hx hb dX0_fits_117 (by decide) ?_
            exact bret_Rz hx hb hr hS hlocks dX0_fits_118 (Or.inl rfl) (by rw [← hF, F0_fitsO, if_neg c_1, if_neg c_7, if_pos c_9, if_neg c_10, if_neg c_11])
          · refine lv_iconst (v := 1) hx hb dX0_fits_113 (by decide) ?_
            refine lv_goto (tgt := 118) hx hb dX0_fits_114 (by decide) ?_
            exact bret_Rz hx hb hr hS hlocks dX0_fits_118 (Or.inr rfl) (by rw [← hF, F0_fitsO, if_neg c_1, if_neg c_7, if_pos c_9, if_neg c_10, if_pos c_11])
        · refine lv_bipush (v := 62) hx hb dX0_fits_103 (by decide) ?_
          refine lv_goto (tgt := 110) hx hb dX0_fits_105 (by decide) ?_
          refine lv_icmp_ne (tgt := 117) hx hb dX0_fits_110 (by decide) (fun c_12 => ?_) (fun c_12 => ?_)
          · refine lv_iconst (v := 0) hx hb dX0_fits_117 (by decide) ?_
            exact bret_Rz hx hb hr hS hlocks dX0_fits_118 (Or.inl rfl) (by rw [← hF, F0_fitsO, if_neg c_1, if_neg c_7, if_pos c_9, if_pos c_10, if_neg c_12])
          · refine lv_iconst (v := 1) hx hb dX0_fits_113 (by decide) ?_
            refine lv_goto (tgt := 118) hx hb dX0_fits_114 (by decide) ?_
            exact bret_Rz hx hb hr hS hlocks dX0_fits_118 (Or.inr rfl) (by rw [← hF, F0_fitsO, if_neg c_1, if_neg c_7, if_pos c_9, if_pos c_10, if_pos c_12])
      · by_cases c_13 : (u 10 0) = 3
        · refine lv_tableIn (off := 115) (tgt := 119) hx hb dX0_fits_4 (by rw [c_13]; decide) (by rw [c_13]; decide) (by rw [c_13]; rfl) (by decide) ?_
          refine lv_iload_n hx hb dX0_fits_119 rfl (lv_at hl 1 rfl) ?_
          refine lv_aload_n hx hb dX0_fits_120 rfl (lv_at hl 0 rfl) ?_
          refine bcall_Ri (va_runV (As := []) (rest := [.int a1]) ⟨hx, hb, hml, hown, hts⟩ (C0_secondBoundO l D cI cO q _ _ hP ) (cwV 0 hts gX0_fits_X0_secondBound rfl rfl rfl ⟨rfl, bd_X0secondBound⟩ ⟨Nat.le_of_ble_eq_true rfl, Nat.le_of_ble_eq_true rfl⟩) (bPV hk (va_recv hk.1 hP (ci := 0) (q0 := 22) rfl (wC_22 _ _ _ _))) rfl rfl hl.1 rfl (lv_room (Nat.le_of_ble_eq_true rfl)) dX0_fits_121 ⟨Nat.zero_le _, Nat.zero_le _⟩) hS (fun locs hS => ?_)
          refine bcall_Ri (va_runS (As := [.int a1, .int (F0_secondBoundO u)]) (rest := []) ⟨hx, hb, hml, hown, hts⟩ (C0_isDigitBelow l D cI cO q _ a1 (F0_secondBoundO u)) (va_cwS 2 hts gX0_fits_X0_isDigitBelow rfl rfl rfl bd_X0isDigitBelow ⟨Nat.le_of_ble_eq_true rfl, Nat.le_of_ble_eq_true rfl⟩) (bPS hk) rfl rfl hl.1 rfl (lv_room (Nat.le_of_ble_eq_true rfl)) dX0_fits_124 ⟨Nat.zero_le _, Nat.zero_le _⟩) hS (fun locs hS => ?_)
          exact bret_Rz hx hb hr hS hlocks dX0_fits_127 (B0_isDigitBelow a1 (F0_secondBoundO u)) (by rw [← hF, F0_fitsO, if_neg c_1, if_neg c_7, if_neg c_9, if_pos c_13])
        · have hn_4_0 := lv_neT c_1 (a := 0) rfl
          have hn_4_1 := lv_neT c_7 (a := 1) rfl
          have hn_4_2 := lv_neT c_9 (a := 2) rfl
          have hn_4_3 := lv_neT c_13 (a := 3) rfl
          refine lv_tableOut (tgt := 128) hx hb dX0_fits_4 (by omega) (by decide) ?_
          refine lv_iload_n hx hb dX0_fits_128 rfl (lv_at hl 1 rfl) ?_
          refine lv_bipush (v := 42) hx hb dX0_fits_129 (by decide) ?_
          refine lv_icmp_ne (tgt := 138) hx hb dX0_fits_131 (by decide) (fun c_14 => ?_) (fun c_14 => ?_)
          · refine lv_iconst (v := 0) hx hb dX0_fits_138 (by decide) ?_
            exact bret_Rz hx hb hr hS hlocks dX0_fits_139 (Or.inl rfl) (by rw [← hF, F0_fitsO, if_neg c_1, if_neg c_7, if_neg c_9, if_neg c_13, if_neg c_14])
          · refine lv_iconst (v := 1) hx hb dX0_fits_134 (by decide) ?_
            refine lv_goto (tgt := 139) hx hb dX0_fits_135 (by decide) ?_
            exact bret_Rz hx hb hr hS hlocks dX0_fits_139 (Or.inr rfl) (by rw [← hF, F0_fitsO, if_neg c_1, if_neg c_7, if_neg c_9, if_neg c_13, if_pos c_14])
theorem B0_fitsO (u : bU) (a1 : Int32) : (F0_fitsO u a1) = 0 ∨ (F0_fitsO u a1) = 1 := by
  unfold F0_fitsO
  (repeat' split) <;> first | exact Or.inl rfl | exact Or.inr rfl | exact (B0_isDigitBelow a1 6) | exact (B0_isDigitBelow a1 8) | exact (B0_isDigitBelow a1 (F0_secondBoundO u))
def F0_keepO (u : bU) (a1 : Int32) : bU := (if (u 10 0) = 0 then (bput u 10 1 a1) else (if (u 10 0) = (1 : Int32) then (bput u 10 2 (a1 - 48)) else (if (u 10 0) = (3 : Int32) then (bput u 10 3 (a1 - 48)) else u)))
set_option maxHeartbeats 4000000 in
set_option maxRecDepth 100000 in
theorem C0_keepO (l : Launch) (D : va_G) (cI cO : ClassId) (q : Nat → Nat) (u : bU) (H0 : Heap) (hq : bInj 23 q) (hP : va_P D vwCl (wC cI cO q u) H0) (a1 : Int32) : Met l yX0_keep wsX0_keep ({ frames := 0, cells := 0, slots := 0, locals := 0 }) (bP D [(cI, .int), (cO, .object RX2)] H0 [.ref (q 22), .int a1]) (bWv D (wC cI cO q) bT (bA 23 q H0.size) (F0_keepO u a1)) 0 0 (bA 23 q H0.size) := by
  refine Met.ofW (cc := cX0_keep) (maxL := 2) (ret := none) (by decide) rfl ?_
  intro p e s m args below meth c s₁ B hml hv
  obtain ⟨rfl, hH, hk⟩ := hv
  subst hH
  have hx := B.exec
  have hb := B.bytes
  have hr := B.returns
  have hts := atoms_spec (ws := wsX0_keep) B.pre
  have hown : s.vm.findClass RX0 = some m.cls := findClass_of_methodNamed B.named
  have hlocks := B.notSynchronized
  have iX0 : ∀ w ∈ wsX00, w ∈ wsX0_keep := by decide +kernel
  have hS : va_S (bA 23 q s.heap.size) s.heap s.heap [] := va_S.rf
  have hl := lv_entry ([.ref (q 22), .int a1]) (n := 2) (Nat.le_of_ble_eq_true rfl)
  rw [lg_entry_eq]
  generalize (lg_sl ([.ref (q 22), .int a1]) ++ List.replicate (2 - (lg_sl ([.ref (q 22), .int a1])).length) Slot.unset).toArray = ls at hl ⊢
  have hl : lv_has ls 2 [(0, .ref (q 22)), (1, .int a1)] := hl
  generalize hF : F0_keepO u a1 = tgt
  refine lv_aload_n hx hb dX0_keep_0 rfl (lv_at hl 0 rfl) ?_
  refine va_get (D := D) (ci := 0) (C := RX0) (T := TX0) (N := 5) hx hb hts iX0 hown hk.1 hP 22 (wC_22 _ _ _ _) rfl 0 (by decide) (hts (.fieldLink RX0 11 "BottleLoop$Order" "step" "I") (List.mem_of_getElem? (i := 1) rfl)) (fun _ h9 => h9) rfl dX0_keep_1 ?_
  refine lv_if_ne (tgt := 15) hx hb dX0_keep_4 (by decide) (fun c_1 => ?_) (fun c_1 => ?_)
  · refine lv_aload_n hx hb dX0_keep_15 rfl (lv_at hl 0 rfl) ?_
    refine va_get (D := D) (ci := 0) (C := RX0) (T := TX0) (N := 5) hx hb hts iX0 hown hk.1 hP 22 (wC_22 _ _ _ _) rfl 0 (by decide) (hts (.fieldLink RX0 11 "BottleLoop$Order" "step" "I") (List.mem_of_getElem? (i := 1) rfl)) (fun _ h9 => h9) rfl dX0_keep_16 ?_
    refine lv_iconst (v := 1) hx hb dX0_keep_19 (by decide) ?_
    refine lv_icmp_ne (tgt := 34) hx hb dX0_keep_20 (by decide) (fun c_2 => ?_) (fun c_2 => ?_)
    · refine lv_aload_n hx hb dX0_keep_34 rfl (lv_at hl 0 rfl) ?_
      refine va_get (D := D) (ci := 0) (C := RX0) (T := TX0) (N := 5) hx hb hts iX0 hown hk.1 hP 22 (wC_22 _ _ _ _) rfl 0 (by decide) (hts (.fieldLink RX0 11 "BottleLoop$Order" "step" "I") (List.mem_of_getElem? (i := 1) rfl)) (fun _ h9 => h9) rfl dX0_keep_35 ?_
      refine lv_iconst (v := 3) hx hb dX0_keep_38 (by decide) ?_
      refine lv_icmp_ne (tgt := 50) hx hb dX0_keep_39 (by decide) (fun c_3 => ?_) (fun c_3 => ?_)
      · exact bret_Wv hx hb hr hP trivial hS hlocks dX0_keep_50 (by rw [← hF, F0_keepO, if_neg c_1, if_neg c_2, if_neg c_3])
      · refine lv_aload_n hx hb dX0_keep_42 rfl (lv_at hl 0 rfl) ?_
        refine lv_iload_n hx hb dX0_keep_43 rfl (lv_at hl 1 rfl) ?_
        refine lv_bipush (v := 48) hx hb dX0_keep_44 (by decide) ?_
        refine lv_isub hx hb dX0_keep_46 ?_
        refine va_put (D := D) (ci := 0) (v := .int (a1 - 48)) (ty := .int) (C := RX0) (T := TX0) (N := 5) hx hb hts iX0 tyX0 tyX0_ok nmX0 hown hk.1 hP (wC_D hq) hS 22 (wC_22 _ _ _ _) rfl 3 (by decide) (hts (.fieldLink RX0 21 "BottleLoop$Order" "second" "I") (List.mem_of_getElem? (i := 4) rfl)) (fun _ h9 => h9) rfl (by decide +kernel) rfl rfl (Nat.le_of_ble_eq_true rfl) dX0_keep_47 (fun H locs hP _ hS => ?_)
        have hP : va_P D vwCl (wC cI cO q (bput u 10 3 (a1 - 48))) H := hP
        exact bret_Wv hx hb hr hP trivial hS hlocks dX0_keep_50 (by rw [← hF, F0_keepO, if_neg c_1, if_neg c_2, if_pos c_3])
    · refine lv_aload_n hx hb dX0_keep_23 rfl (lv_at hl 0 rfl) ?_
      refine lv_iload_n hx hb dX0_keep_24 rfl (lv_at hl 1 rfl) ?_
      refine lv_bipush (v := 48) hx hb dX0_keep_25 (by decide) ?_
      refine lv_isub hx hb dX0_keep_27 ?_
      refine va_put (D := D) (ci := 0) (v := .int (a1 - 48)) (ty := .int) (C := RX0) (T := TX0) (N := 5) hx hb hts iX0 tyX0 tyX0_ok nmX0 hown hk.1 hP (wC_D hq) hS 22 (wC_22 _ _ _ _) rfl 2 (by decide) (hts (.fieldLink RX0 18 "BottleLoop$Order" "first" "I") (List.mem_of_getElem? (i := 3) rfl)) (fun _ h9 => h9) rfl (by decide +kernel) rfl rfl (Nat.le_of_ble_eq_true rfl) dX0_keep_28 (fun H locs hP _ hS => ?_)
      have hP : va_P D vwCl (wC cI cO q (bput u 10 2 (a1 - 48))) H := hP
      refine lv_goto (tgt := 50) hx hb dX0_keep_31 (by decide) ?_
      exact bret_Wv hx hb hr hP trivial hS hlocks dX0_keep_50 (by rw [← hF, F0_keepO, if_neg c_1, if_pos c_2])
  · refine lv_aload_n hx hb dX0_keep_7 rfl (lv_at hl 0 rfl) ?_
    refine lv_iload_n hx hb dX0_keep_8 rfl (lv_at hl 1 rfl) ?_
    refine va_put (D := D) (ci := 0) (v := .int a1) (ty := .int) (C := RX0) (T := TX0) (N := 5) hx hb hts iX0 tyX0 tyX0_ok nmX0 hown hk.1 hP (wC_D hq) hS 22 (wC_22 _ _ _ _) rfl 1 (by decide) (hts (.fieldLink RX0 15 "BottleLoop$Order" "letter" "I") (List.mem_of_getElem? (i := 2) rfl)) (fun _ h9 => h9) rfl (by decide +kernel) rfl rfl (Nat.le_of_ble_eq_true rfl) dX0_keep_9 (fun H locs hP _ hS => ?_)
    have hP : va_P D vwCl (wC cI cO q (bput u 10 1 a1)) H := hP
    refine lv_goto (tgt := 50) hx hb dX0_keep_12 (by decide) ?_
    exact bret_Wv hx hb hr hP trivial hS hlocks dX0_keep_50 (by rw [← hF, F0_keepO, if_pos c_1])
def F0_takesO (u : bU) (a1 : Int32) : Int32 × bU := (if (u 10 0) = (5 : Int32) then ((F0_takesNumberO u a1).1, (F0_takesNumberO u a1).2) else (if (F0_fitsO u a1) = 0 then ((F0_fitsO u a1), u) else ((F0_fitsO u a1), (bput (F0_keepO u a1) 10 0 (((F0_keepO u a1) 10 0) + 1)))))
set_option maxHeartbeats 4000000 in
set_option maxRecDepth 100000 in
theorem C0_takesO (l : Launch) (D : va_G) (cI cO : ClassId) (q : Nat → Nat) (u : bU) (H0 : Heap) (hq : bInj 23 q) (hP : va_P D vwCl (wC cI cO q u) H0) (a1 : Int32) : Met l yX0_takes wsX0_takes ({ frames := 2, cells := 0, slots := 0, locals := 43 }) (bP D [(cI, .int), (cO, .object RX2)] H0 [.ref (q 22), .int a1]) (bWi D (wC cI cO q) bT (bA 23 q H0.size) (F0_takesO u a1)) 0 0 (bA 23 q H0.size) := by
  refine Met.ofW (cc := cX0_takes) (maxL := 3) (ret := (some .boolean)) (by decide) rfl ?_
  intro p e s m args below meth c s₁ B hml hv
  obtain ⟨rfl, hH, hk⟩ := hv
  subst hH
  have hx := B.exec
  have hb := B.bytes
  have hr := B.returns
  have hts := atoms_spec (ws := wsX0_takes) B.pre
  have hown : s.vm.findClass RX0 = some m.cls := findClass_of_methodNamed B.named
  have hlocks := B.notSynchronized
  have iX0 : ∀ w ∈ wsX00, w ∈ wsX0_takes := by decide +kernel
  have hS : va_S (bA 23 q s.heap.size) s.heap s.heap [] := va_S.rf
  have hl := lv_entry ([.ref (q 22), .int a1]) (n := 3) (Nat.le_of_ble_eq_true rfl)
  rw [lg_entry_eq]
  generalize (lg_sl ([.ref (q 22), .int a1]) ++ List.replicate (3 - (lg_sl ([.ref (q 22), .int a1])).length) Slot.unset).toArray = ls at hl ⊢
  have hl : lv_has ls 3 [(0, .ref (q 22)), (1, .int a1)] := hl
  generalize hF : F0_takesO u a1 = tgt
  refine lv_aload_n hx hb dX0_takes_0 rfl (lv_at hl 0 rfl) ?_
  refine va_get (D := D) (ci := 0) (C := RX0) (T := TX0) (N := 5) hx hb hts iX0 hown hk.1 hP 22 (wC_22 _ _ _ _) rfl 0 (by decide) (hts (.fieldLink RX0 11 "BottleLoop$Order" "step" "I") (List.mem_of_getElem? (i := 1) rfl)) (fun _ h9 => h9) rfl dX0_takes_1 ?_
  refine lv_iconst (v := 5) hx hb dX0_takes_4 (by decide) ?_
  refine lv_icmp_ne (tgt := 14) hx hb dX0_takes_5 (by decide) (fun c_1 => ?_) (fun c_1 => ?_)
  · refine lv_aload_n hx hb dX0_takes_14 rfl (lv_at hl 0 rfl) ?_
    refine lv_iload_n hx hb dX0_takes_15 rfl (lv_at hl 1 rfl) ?_
    refine bcall_Ri (va_runV (As := [.int a1]) (rest := []) ⟨hx, hb, hml, hown, hts⟩ (C0_fitsO l D cI cO q _ _ hP a1) (cwV 1 hts gX0_takes_X0_fits rfl rfl rfl ⟨rfl, bd_X0fits⟩ ⟨Nat.le_of_ble_eq_true rfl, Nat.le_of_ble_eq_true rfl⟩) (bPV hk (va_recv hk.1 hP (ci := 0) (q0 := 22) rfl (wC_22 _ _ _ _))) rfl rfl hl.1 rfl (lv_room (Nat.le_of_ble_eq_true rfl)) dX0_takes_16 ⟨Nat.zero_le _, Nat.zero_le _⟩) hS (fun locs hS => ?_)
    refine lv_istore_n (lv' := [(2, .int (F0_fitsO u a1)), (0, .ref (q 22)), (1, .int a1)]) hx hb dX0_takes_19 rfl hl (by decide) rfl (fun ls hl => ?_)
    refine lv_iload_n hx hb dX0_takes_20 rfl (lv_at hl 0 rfl) ?_
    refine lv_if_eq (tgt := 39) hx hb dX0_takes_21 (by decide) (fun c_2 => ?_) (fun c_2 => ?_)
    · refine lv_iload_n hx hb dX0_takes_39 rfl (lv_at hl 0 rfl) ?_
      exact bret_Wz hx hb hr hP trivial hS hlocks dX0_takes_40 (B0_fitsO u a1) (by rw [← hF, F0_takesO, if_neg c_1, if_pos c_2])
    · refine lv_aload_n hx hb dX0_takes_24 rfl (lv_at hl 1 rfl) ?_
      refine lv_iload_n hx hb dX0_takes_25 rfl (lv_at hl 2 rfl) ?_
      refine bcall_Wv (va_runV (As := [.int a1]) (rest := []) ⟨hx, hb, hml, hown, hts⟩ (C0_keepO l D cI cO q _ _ hq hP a1) (cwV 1 hts gX0_takes_X0_keep rfl rfl rfl ⟨rfl, bd_X0keep⟩ ⟨Nat.le_of_ble_eq_true rfl, Nat.le_of_ble_eq_true rfl⟩) (bPV hk (va_recv hk.1 hP (ci := 0) (q0 := 22) rfl (wC_22 _ _ _ _))) rfl rfl hl.1 rfl (lv_room (Nat.le_of_ble_eq_true rfl)) dX0_takes_26 ⟨Nat.zero_le _, Nat.zero_le _⟩) hS (fun H locs hP _ hS => ?_)
      refine lv_aload_n hx hb dX0_takes_29 rfl (lv_at hl 1 rfl) ?_
      refine lv_dup hx hb dX0_takes_30 rfl ?_
      refine va_get (D := D) (ci := 0) (C := RX0) (T := TX0) (N := 5) hx hb hts iX0 hown hk.1 hP 22 (wC_22 _ _ _ _) rfl 0 (by decide) (hts (.fieldLink RX0 11 "BottleLoop$Order" "step" "I") (List.mem_of_getElem? (i := 1) rfl)) (fun _ h9 => h9) rfl dX0_takes_31 ?_
      refine lv_iconst (v := 1) hx hb dX0_takes_34 (by decide) ?_
      refine lv_iadd hx hb dX0_takes_35 ?_
      refine va_put (D := D) (ci := 0) (v := .int (((F0_keepO u a1) 10 0) + 1)) (ty := .int) (C := RX0) (T := TX0) (N := 5) hx hb hts iX0 tyX0 tyX0_ok nmX0 hown hk.1 hP (wC_D hq) hS 22 (wC_22 _ _ _ _) rfl 0 (by decide) (hts (.fieldLink RX0 11 "BottleLoop$Order" "step" "I") (List.mem_of_getElem? (i := 1) rfl)) (fun _ h9 => h9) rfl (by decide +kernel) rfl rfl (Nat.le_of_ble_eq_true rfl) dX0_takes_36 (fun H locs hP _ hS => ?_)
      have hP : va_P D vwCl (wC cI cO q (bput (F0_keepO u a1) 10 0 (((F0_keepO u a1) 10 0) + 1))) H := hP
      refine lv_iload_n hx hb dX0_takes_39 rfl (lv_at hl 0 rfl) ?_
      exact bret_Wz hx hb hr hP trivial hS hlocks dX0_takes_40 (B0_fitsO u a1) (by rw [← hF, F0_takesO, if_neg c_1, if_neg c_2])
  · refine lv_aload_n hx hb dX0_takes_8 rfl (lv_at hl 0 rfl) ?_
    refine lv_iload_n hx hb dX0_takes_9 rfl (lv_at hl 1 rfl) ?_
    refine bcall_Wi (va_runV (As := [.int a1]) (rest := []) ⟨hx, hb, hml, hown, hts⟩ (C0_takesNumberO l D cI cO q _ _ hq hP a1) (cwV 1 hts gX0_takes_X0_takesNumber rfl rfl rfl ⟨rfl, bd_X0takesNumber⟩ ⟨Nat.le_of_ble_eq_true rfl, Nat.le_of_ble_eq_true rfl⟩) (bPV hk (va_recv hk.1 hP (ci := 0) (q0 := 22) rfl (wC_22 _ _ _ _))) rfl rfl hl.1 rfl (lv_room (Nat.le_of_ble_eq_true rfl)) dX0_takes_10 ⟨Nat.zero_le _, Nat.zero_le _⟩) hS (fun H locs hP _ hS => ?_)
    exact bret_Wz hx hb hr hP trivial hS hlocks dX0_takes_13 (B0_takesNumberO u a1) (by rw [← hF, F0_takesO, if_pos c_1])
theorem B0_takesO (u : bU) (a1 : Int32) : (F0_takesO u a1).1 = 0 ∨ (F0_takesO u a1).1 = 1 := by
  unfold F0_takesO
  (repeat' split) <;> first | exact Or.inl rfl | exact Or.inr rfl | exact (B0_fitsO u a1) | exact (B0_takesNumberO u a1)

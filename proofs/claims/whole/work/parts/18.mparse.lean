theorem bd_X6digitTo : yX6_digitTo.cls ≠ "java/lang/invoke/MethodHandle" ∧ yX6_digitTo.cls ≠ "java/lang/invoke/VarHandle" ∧ (parseMethodDescriptor yX6_digitTo.desc).map (fun d => d.parameters.length) = some 1 := by decide +kernel
theorem bd_X6readNumber : yX6_readNumber.cls ≠ "java/lang/invoke/MethodHandle" ∧ yX6_readNumber.cls ≠ "java/lang/invoke/VarHandle" ∧ (parseMethodDescriptor yX6_readNumber.desc).map (fun d => d.parameters.length) = some 1 := by decide +kernel
theorem bd_X6readOrder : yX6_readOrder.cls ≠ "java/lang/invoke/MethodHandle" ∧ yX6_readOrder.cls ≠ "java/lang/invoke/VarHandle" ∧ (parseMethodDescriptor yX6_readOrder.desc).map (fun d => d.parameters.length) = some 0 := by decide +kernel
theorem bd_X6reads : yX6_reads.cls ≠ "java/lang/invoke/MethodHandle" ∧ yX6_reads.cls ≠ "java/lang/invoke/VarHandle" ∧ (parseMethodDescriptor yX6_reads.desc).map (fun d => d.parameters.length) = some 0 := by decide +kernel
theorem bd_X6sign : yX6_sign.cls ≠ "java/lang/invoke/MethodHandle" ∧ yX6_sign.cls ≠ "java/lang/invoke/VarHandle" ∧ (parseMethodDescriptor yX6_sign.desc).map (fun d => d.parameters.length) = some 1 := by decide +kernel
def F6_sign (u : bU) (a1 : Int32) : Int32 × bU := (if (u 6 1) ≤ (u 6 3) then (0, (bput u 6 3 ((u 6 3) + 0))) else (if (u 3 (u 6 3).toNatClampNeg) = a1 then (1, (bput u 6 3 ((u 6 3) + 1))) else (0, (bput u 6 3 ((u 6 3) + 0)))))
set_option maxHeartbeats 4000000 in
set_option maxRecDepth 100000 in
theorem C6_sign (l : Launch) (D : va_G) (cI : ClassId) (q : Nat → Nat) (u : bU) (H0 : Heap) (hq : bInj 7 q) (hP : va_P D vwCl (wM cI q u) H0) (hI : mInv u) (a1 : Int32) : Met l yX6_sign wsX6_sign ({ frames := 0, cells := 0, slots := 0, locals := 0 }) (bP D [(cI, .int)] H0 [.ref (q 0), .int a1]) (bWi D (wM cI q) mInv (bA 7 q H0.size) (F6_sign u a1)) 0 0 (bA 7 q H0.size) := by
  refine Met.ofW (cc := cX6_sign) (maxL := 3) (ret := (some .boolean)) (by decide) rfl ?_
  intro p e s m args below meth c s₁ B hml hv
  obtain ⟨rfl, hH, hk⟩ := hv
  subst hH
  have hx := B.exec
  have hb := B.bytes
  have hr := B.returns
  have hts := atoms_spec (ws := wsX6_sign) B.pre
  have hown : s.vm.findClass RX6 = some m.cls := findClass_of_methodNamed B.named
  have hlocks := B.notSynchronized
  have hNB := mNB hI
  have hNS := mNS hI
  have hI0 := hI
  have iX6 : ∀ w ∈ wsX60, w ∈ wsX6_sign := by decide +kernel
  have hS : va_S (bA 7 q s.heap.size) s.heap s.heap [] := va_S.rf
  have hl := lv_entry ([.ref (q 0), .int a1]) (n := 3) (Nat.le_of_ble_eq_true rfl)
  rw [lg_entry_eq]
  generalize (lg_sl ([.ref (q 0), .int a1]) ++ List.replicate (3 - (lg_sl ([.ref (q 0), .int a1])).length) Slot.unset).toArray = ls at hl ⊢
  have hl : lv_has ls 3 [(0, .ref (q 0)), (1, .int a1)] := hl
  generalize hF : F6_sign u a1 = tgt
  refine lv_aload_n hx hb dX6_sign_0 rfl (lv_at hl 0 rfl) ?_
  refine va_get (D := D) (ci := 6) (C := RX6) (T := TX6) (N := 16) hx hb hts iX6 hown hk.1 hP 0 (wM_0 _ _ _) rfl 9 (by decide) (hts (.fieldLink RX6 132 "BottleLoopModel" "place" "I") (List.mem_of_getElem? (i := 1) rfl)) (fun _ h9 => h9) rfl dX6_sign_1 ?_
  refine lv_aload_n hx hb dX6_sign_4 rfl (lv_at hl 0 rfl) ?_
  refine va_get (D := D) (ci := 6) (C := RX6) (T := TX6) (N := 16) hx hb hts iX6 hown hk.1 hP 0 (wM_0 _ _ _) rfl 5 (by decide) (hts (.fieldLink RX6 129 "BottleLoopModel" "length" "I") (List.mem_of_getElem? (i := 2) rfl)) (fun _ h9 => h9) rfl dX6_sign_5 ?_
  refine lv_icmp_ge (tgt := 28) hx hb dX6_sign_8 (by decide) (fun c_1 => ?_) (fun c_1 => ?_)
  · refine lv_iconst (v := 0) hx hb dX6_sign_28 (by decide) ?_
    refine lv_istore_n (lv' := [(2, .int 0), (0, .ref (q 0)), (1, .int a1)]) hx hb dX6_sign_29 rfl hl (by decide) rfl (fun ls hl => ?_)
    refine lv_aload_n hx hb dX6_sign_30 rfl (lv_at hl 1 rfl) ?_
    refine lv_dup hx hb dX6_sign_31 rfl ?_
    refine va_get (D := D) (ci := 6) (C := RX6) (T := TX6) (N := 16) hx hb hts iX6 hown hk.1 hP 0 (wM_0 _ _ _) rfl 9 (by decide) (hts (.fieldLink RX6 132 "BottleLoopModel" "place" "I") (List.mem_of_getElem? (i := 1) rfl)) (fun _ h9 => h9) rfl dX6_sign_32 ?_
    refine lv_iload_n hx hb dX6_sign_35 rfl (lv_at hl 0 rfl) ?_
    refine lv_if_eq (tgt := 43) hx hb dX6_sign_36 (by decide) (fun _ => ?_) (fun h9 => absurd (by decide) h9)
    refine lv_iconst (v := 0) hx hb dX6_sign_43 (by decide) ?_
    refine lv_iadd hx hb dX6_sign_44 ?_
    refine va_put (D := D) (ci := 6) (v := .int ((u 6 3) + 0)) (ty := .int) (C := RX6) (T := TX6) (N := 16) hx hb hts iX6 tyX6 tyX6_ok nmX6 hown hk.1 hP (wM_D hq) hS 0 (wM_0 _ _ _) rfl 9 (by decide) (hts (.fieldLink RX6 132 "BottleLoopModel" "place" "I") (List.mem_of_getElem? (i := 1) rfl)) (fun _ h9 => h9) rfl (by decide +kernel) rfl rfl (Nat.le_of_ble_eq_true rfl) dX6_sign_45 (fun H locs hP _ hS => ?_)
    have hP : va_P D vwCl (wM cI q (bput u 6 3 ((u 6 3) + 0))) H := pM_f3 hP
    have hI_2 : mInv (bput u 6 3 ((u 6 3) + 0)) := mInv_pl0 hI
    refine lv_iload_n hx hb dX6_sign_48 rfl (lv_at hl 0 rfl) ?_
    exact bret_Wz hx hb hr hP hI_2 hS hlocks dX6_sign_49 (Or.inl rfl) (by rw [← hF, F6_sign, if_pos c_1])
  · refine lv_aload_n hx hb dX6_sign_11 rfl (lv_at hl 0 rfl) ?_
    refine va_get (D := D) (ci := 6) (C := RX6) (T := TX6) (N := 16) hx hb hts iX6 hown hk.1 hP 0 (wM_0 _ _ _) rfl 4 (by decide) (hts (.fieldLink RX6 19 "BottleLoopModel" "text" "[I") (List.mem_of_getElem? (i := 3) rfl)) (fun _ h9 => h9) rfl dX6_sign_12 ?_
    refine lv_aload_n hx hb dX6_sign_15 rfl (lv_at hl 0 rfl) ?_
    refine va_get (D := D) (ci := 6) (C := RX6) (T := TX6) (N := 16) hx hb hts iX6 hown hk.1 hP 0 (wM_0 _ _ _) rfl 9 (by decide) (hts (.fieldLink RX6 132 "BottleLoopModel" "place" "I") (List.mem_of_getElem? (i := 1) rfl)) (fun _ h9 => h9) rfl dX6_sign_16 ?_
    refine va_iald hx hb hk.1 hP 4 0 (wM_4 _ _ _) rfl (mXpl hI c_1) dX6_sign_19 ?_
    refine lv_iload_n hx hb dX6_sign_20 rfl (lv_at hl 1 rfl) ?_
    refine lv_icmp_ne (tgt := 28) hx hb dX6_sign_21 (by decide) (fun c_3 => ?_) (fun c_3 => ?_)
    · refine lv_iconst (v := 0) hx hb dX6_sign_28 (by decide) ?_
      refine lv_istore_n (lv' := [(2, .int 0), (0, .ref (q 0)), (1, .int a1)]) hx hb dX6_sign_29 rfl hl (by decide) rfl (fun ls hl => ?_)
      refine lv_aload_n hx hb dX6_sign_30 rfl (lv_at hl 1 rfl) ?_
      refine lv_dup hx hb dX6_sign_31 rfl ?_
      refine va_get (D := D) (ci := 6) (C := RX6) (T := TX6) (N := 16) hx hb hts iX6 hown hk.1 hP 0 (wM_0 _ _ _) rfl 9 (by decide) (hts (.fieldLink RX6 132 "BottleLoopModel" "place" "I") (List.mem_of_getElem? (i := 1) rfl)) (fun _ h9 => h9) rfl dX6_sign_32 ?_
      refine lv_iload_n hx hb dX6_sign_35 rfl (lv_at hl 0 rfl) ?_
      refine lv_if_eq (tgt := 43) hx hb dX6_sign_36 (by decide) (fun _ => ?_) (fun h9 => absurd (by decide) h9)
      refine lv_iconst (v := 0) hx hb dX6_sign_43 (by decide) ?_
      refine lv_iadd hx hb dX6_sign_44 ?_
      refine va_put (D := D) (ci := 6) (v := .int ((u 6 3) + 0)) (ty := .int) (C := RX6) (T := TX6) (N := 16) hx hb hts iX6 tyX6 tyX6_ok nmX6 hown hk.1 hP (wM_D hq) hS 0 (wM_0 _ _ _) rfl 9 (by decide) (hts (.fieldLink RX6 132 "BottleLoopModel" "place" "I") (List.mem_of_getElem? (i := 1) rfl)) (fun _ h9 => h9) rfl (by decide +kernel) rfl rfl (Nat.le_of_ble_eq_true rfl) dX6_sign_45 (fun H locs hP _ hS => ?_)
      have hP : va_P D vwCl (wM cI q (bput u 6 3 ((u 6 3) + 0))) H := pM_f3 hP
      have hI_4 : mInv (bput u 6 3 ((u 6 3) + 0)) := mInv_pl0 hI
      refine lv_iload_n hx hb dX6_sign_48 rfl (lv_at hl 0 rfl) ?_
      exact bret_Wz hx hb hr hP hI_4 hS hlocks dX6_sign_49 (Or.inl rfl) (by rw [← hF, F6_sign, if_neg c_1, if_neg c_3])
    · refine lv_iconst (v := 1) hx hb dX6_sign_24 (by decide) ?_
      refine lv_goto (tgt := 29) hx hb dX6_sign_25 (by decide) ?_
      refine lv_istore_n (lv' := [(2, .int 1), (0, .ref (q 0)), (1, .int a1)]) hx hb dX6_sign_29 rfl hl (by decide) rfl (fun ls hl => ?_)
      refine lv_aload_n hx hb dX6_sign_30 rfl (lv_at hl 1 rfl) ?_
      refine lv_dup hx hb dX6_sign_31 rfl ?_
      refine va_get (D := D) (ci := 6) (C := RX6) (T := TX6) (N := 16) hx hb hts iX6 hown hk.1 hP 0 (wM_0 _ _ _) rfl 9 (by decide) (hts (.fieldLink RX6 132 "BottleLoopModel" "place" "I") (List.mem_of_getElem? (i := 1) rfl)) (fun _ h9 => h9) rfl dX6_sign_32 ?_
      refine lv_iload_n hx hb dX6_sign_35 rfl (lv_at hl 0 rfl) ?_
      refine lv_if_eq (tgt := 43) hx hb dX6_sign_36 (by decide) (fun h9 => absurd h9 (by decide)) (fun _ => ?_)
      refine lv_iconst (v := 1) hx hb dX6_sign_39 (by decide) ?_
      refine lv_goto (tgt := 44) hx hb dX6_sign_40 (by decide) ?_
      refine lv_iadd hx hb dX6_sign_44 ?_
      refine va_put (D := D) (ci := 6) (v := .int ((u 6 3) + 1)) (ty := .int) (C := RX6) (T := TX6) (N := 16) hx hb hts iX6 tyX6 tyX6_ok nmX6 hown hk.1 hP (wM_D hq) hS 0 (wM_0 _ _ _) rfl 9 (by decide) (hts (.fieldLink RX6 132 "BottleLoopModel" "place" "I") (List.mem_of_getElem? (i := 1) rfl)) (fun _ h9 => h9) rfl (by decide +kernel) rfl rfl (Nat.le_of_ble_eq_true rfl) dX6_sign_45 (fun H locs hP _ hS => ?_)
      have hP : va_P D vwCl (wM cI q (bput u 6 3 ((u 6 3) + 1))) H := pM_f3 hP
      have hI_5 : mInv (bput u 6 3 ((u 6 3) + 1)) := mInv_pl1 hI c_1
      refine lv_iload_n hx hb dX6_sign_48 rfl (lv_at hl 0 rfl) ?_
      exact bret_Wz hx hb hr hP hI_5 hS hlocks dX6_sign_49 (Or.inr rfl) (by rw [← hF, F6_sign, if_neg c_1, if_pos c_3])
theorem B6_sign (u : bU) (a1 : Int32) : (F6_sign u a1).1 = 0 ∨ (F6_sign u a1).1 = 1 := by
  unfold F6_sign
  (repeat' split) <;> first | exact Or.inl rfl | exact Or.inr rfl
def F6_digitTo (u : bU) (a1 : Int32) : Int32 × bU := (if (u 6 1) ≤ (u 6 3) then (if (F6_in ((bput u 6 9 (-1)) 6 9) 0 a1) = 0 then ((F6_in ((bput u 6 9 (-1)) 6 9) 0 a1), (bput (bput u 6 9 (-1)) 6 3 (((bput u 6 9 (-1)) 6 3) + 0))) else ((F6_in ((bput u 6 9 (-1)) 6 9) 0 a1), (bput (bput u 6 9 (-1)) 6 3 (((bput u 6 9 (-1)) 6 3) + 1)))) else (if (F6_in ((bput u 6 9 ((u 3 (u 6 3).toNatClampNeg) - 48)) 6 9) 0 a1) = 0 then ((F6_in ((bput u 6 9 ((u 3 (u 6 3).toNatClampNeg) - 48)) 6 9) 0 a1), (bput (bput u 6 9 ((u 3 (u 6 3).toNatClampNeg) - 48)) 6 3 (((bput u 6 9 ((u 3 (u 6 3).toNatClampNeg) - 48)) 6 3) + 0))) else ((F6_in ((bput u 6 9 ((u 3 (u 6 3).toNatClampNeg) - 48)) 6 9) 0 a1), (bput (bput u 6 9 ((u 3 (u 6 3).toNatClampNeg) - 48)) 6 3 (((bput u 6 9 ((u 3 (u 6 3).toNatClampNeg) - 48)) 6 3) + 1)))))
set_option maxHeartbeats 4000000 in
set_option maxRecDepth 100000 in
theorem C6_digitTo (l : Launch) (D : va_G) (cI : ClassId) (q : Nat → Nat) (u : bU) (H0 : Heap) (hq : bInj 7 q) (hP : va_P D vwCl (wM cI q u) H0) (hI : mInv u) (a1 : Int32) : Met l yX6_digitTo wsX6_digitTo ({ frames := 1, cells := 0, slots := 0, locals := 22 }) (bP D [(cI, .int)] H0 [.ref (q 0), .int a1]) (bWi D (wM cI q) mInv (bA 7 q H0.size) (F6_digitTo u a1)) 0 0 (bA 7 q H0.size) := by
  refine Met.ofW (cc := cX6_digitTo) (maxL := 3) (ret := (some .boolean)) (by decide) rfl ?_
  intro p e s m args below meth c s₁ B hml hv
  obtain ⟨rfl, hH, hk⟩ := hv
  subst hH
  have hx := B.exec
  have hb := B.bytes
  have hr := B.returns
  have hts := atoms_spec (ws := wsX6_digitTo) B.pre
  have hown : s.vm.findClass RX6 = some m.cls := findClass_of_methodNamed B.named
  have hlocks := B.notSynchronized
  have hNB := mNB hI
  have hNS := mNS hI
  have hI0 := hI
  have iX6 : ∀ w ∈ wsX60, w ∈ wsX6_digitTo := by decide +kernel
  have hS : va_S (bA 7 q s.heap.size) s.heap s.heap [] := va_S.rf
  have hl := lv_entry ([.ref (q 0), .int a1]) (n := 3) (Nat.le_of_ble_eq_true rfl)
  rw [lg_entry_eq]
  generalize (lg_sl ([.ref (q 0), .int a1]) ++ List.replicate (3 - (lg_sl ([.ref (q 0), .int a1])).length) Slot.unset).toArray = ls at hl ⊢
  have hl : lv_has ls 3 [(0, .ref (q 0)), (1, .int a1)] := hl
  generalize hF : F6_digitTo u a1 = tgt
  refine lv_aload_n hx hb dX6_digitTo_0 rfl (lv_at hl 0 rfl) ?_
  refine lv_aload_n hx hb dX6_digitTo_1 rfl (lv_at hl 0 rfl) ?_
  refine va_get (D := D) (ci := 6) (C := RX6) (T := TX6) (N := 16) hx hb hts iX6 hown hk.1 hP 0 (wM_0 _ _ _) rfl 9 (by decide) (hts (.fieldLink RX6 132 "BottleLoopModel" "place" "I") (List.mem_of_getElem? (i := 1) rfl)) (fun _ h9 => h9) rfl dX6_digitTo_2 ?_
  refine lv_aload_n hx hb dX6_digitTo_5 rfl (lv_at hl 0 rfl) ?_
  refine va_get (D := D) (ci := 6) (C := RX6) (T := TX6) (N := 16) hx hb hts iX6 hown hk.1 hP 0 (wM_0 _ _ _) rfl 5 (by decide) (hts (.fieldLink RX6 129 "BottleLoopModel" "length" "I") (List.mem_of_getElem? (i := 2) rfl)) (fun _ h9 => h9) rfl dX6_digitTo_6 ?_
  refine lv_icmp_ge (tgt := 27) hx hb dX6_digitTo_9 (by decide) (fun c_1 => ?_) (fun c_1 => ?_)
  · refine lv_iconst (v := (-1)) hx hb dX6_digitTo_27 (by decide) ?_
    refine va_put (D := D) (ci := 6) (v := .int (-1)) (ty := .int) (C := RX6) (T := TX6) (N := 16) hx hb hts iX6 tyX6 tyX6_ok nmX6 hown hk.1 hP (wM_D hq) hS 0 (wM_0 _ _ _) rfl 15 (by decide) (hts (.fieldLink RX6 135 "BottleLoopModel" "digit" "I") (List.mem_of_getElem? (i := 4) rfl)) (fun _ h9 => h9) rfl (by decide +kernel) rfl rfl (Nat.le_of_ble_eq_true rfl) dX6_digitTo_28 (fun H locs hP _ hS => ?_)
    have hP : va_P D vwCl (wM cI q (bput u 6 9 (-1))) H := pM_f9 hP
    have hI_2 : mInv (bput u 6 9 (-1)) := mInv_sc (k := 9) hI (by decide) (by decide) (by decide)
    refine lv_aload_n hx hb dX6_digitTo_31 rfl (lv_at hl 0 rfl) ?_
    refine va_get (D := D) (ci := 6) (C := RX6) (T := TX6) (N := 16) hx hb hts iX6 hown hk.1 hP 0 (wM_0 _ _ _) rfl 15 (by decide) (hts (.fieldLink RX6 135 "BottleLoopModel" "digit" "I") (List.mem_of_getElem? (i := 4) rfl)) (fun _ h9 => h9) rfl dX6_digitTo_32 ?_
    refine lv_iconst (v := 0) hx hb dX6_digitTo_35 (by decide) ?_
    refine lv_iload_n hx hb dX6_digitTo_36 rfl (lv_at hl 1 rfl) ?_
    refine bcall_Ri (va_runS (As := [.int ((bput u 6 9 (-1)) 6 9), .int 0, .int a1]) (rest := []) ⟨hx, hb, hml, hown, hts⟩ (C6_in l D cI q _ ((bput u 6 9 (-1)) 6 9) 0 a1) (va_cwS 3 hts gX6_digitTo_X6_in rfl rfl rfl bd_X6in ⟨Nat.le_of_ble_eq_true rfl, Nat.le_of_ble_eq_true rfl⟩) (bPS hk) rfl rfl hl.1 rfl (lv_room (Nat.le_of_ble_eq_true rfl)) dX6_digitTo_37 ⟨Nat.zero_le _, Nat.zero_le _⟩) hS (fun locs hS => ?_)
    refine lv_istore_n (lv' := [(2, .int (F6_in ((bput u 6 9 (-1)) 6 9) 0 a1)), (0, .ref (q 0)), (1, .int a1)]) hx hb dX6_digitTo_40 rfl hl (by decide) rfl (fun ls hl => ?_)
    refine lv_aload_n hx hb dX6_digitTo_41 rfl (lv_at hl 1 rfl) ?_
    refine lv_dup hx hb dX6_digitTo_42 rfl ?_
    refine va_get (D := D) (ci := 6) (C := RX6) (T := TX6) (N := 16) hx hb hts iX6 hown hk.1 hP 0 (wM_0 _ _ _) rfl 9 (by decide) (hts (.fieldLink RX6 132 "BottleLoopModel" "place" "I") (List.mem_of_getElem? (i := 1) rfl)) (fun _ h9 => h9) rfl dX6_digitTo_43 ?_
    refine lv_iload_n hx hb dX6_digitTo_46 rfl (lv_at hl 0 rfl) ?_
    refine lv_if_eq (tgt := 54) hx hb dX6_digitTo_47 (by decide) (fun c_3 => ?_) (fun c_3 => ?_)
    · refine lv_iconst (v := 0) hx hb dX6_digitTo_54 (by decide) ?_
      refine lv_iadd hx hb dX6_digitTo_55 ?_
      refine va_put (D := D) (ci := 6) (v := .int (((bput u 6 9 (-1)) 6 3) + 0)) (ty := .int) (C := RX6) (T := TX6) (N := 16) hx hb hts iX6 tyX6 tyX6_ok nmX6 hown hk.1 hP (wM_D hq) hS 0 (wM_0 _ _ _) rfl 9 (by decide) (hts (.fieldLink RX6 132 "BottleLoopModel" "place" "I") (List.mem_of_getElem? (i := 1) rfl)) (fun _ h9 => h9) rfl (by decide +kernel) rfl rfl (Nat.le_of_ble_eq_true rfl) dX6_digitTo_56 (fun H locs hP _ hS => ?_)
      have hP : va_P D vwCl (wM cI q (bput (bput u 6 9 (-1)) 6 3 (((bput u 6 9 (-1)) 6 3) + 0))) H := pM_f3 hP
      have hI_4 : mInv (bput (bput u 6 9 (-1)) 6 3 (((bput u 6 9 (-1)) 6 3) + 0)) := mInv_pl0 hI_2
      refine lv_iload_n hx hb dX6_digitTo_59 rfl (lv_at hl 0 rfl) ?_
      exact bret_Wz hx hb hr hP hI_4 hS hlocks dX6_digitTo_60 (B6_in ((bput u 6 9 (-1)) 6 9) 0 a1) (by rw [← hF, F6_digitTo, if_pos c_1, if_pos c_3])
    · refine lv_iconst (v := 1) hx hb dX6_digitTo_50 (by decide) ?_
      refine lv_goto (tgt := 55) hx hb dX6_digitTo_51 (by decide) ?_
      refine lv_iadd hx hb dX6_digitTo_55 ?_
      refine va_put (D := D) (ci := 6) (v := .int (((bput u 6 9 (-1)) 6 3) + 1)) (ty := .int) (C := RX6) (T := TX6) (N := 16) hx hb hts iX6 tyX6 tyX6_ok nmX6 hown hk.1 hP (wM_D hq) hS 0 (wM_0 _ _ _) rfl 9 (by decide) (hts (.fieldLink RX6 132 "BottleLoopModel" "place" "I") (List.mem_of_getElem? (i := 1) rfl)) (fun _ h9 => h9) rfl (by decide +kernel) rfl rfl (Nat.le_of_ble_eq_true rfl) dX6_digitTo_56 (fun H locs hP _ hS => ?_)
      have hP : va_P D vwCl (wM cI q (bput (bput u 6 9 (-1)) 6 3 (((bput u 6 9 (-1)) 6 3) + 1))) H := pM_f3 hP
      have hI_5 : mInv (bput (bput u 6 9 (-1)) 6 3 (((bput u 6 9 (-1)) 6 3) + 1)) := (mNoDigit c_3).elim
      refine lv_iload_n hx hb dX6_digitTo_59 rfl (lv_at hl 0 rfl) ?_
      exact bret_Wz hx hb hr hP hI_5 hS hlocks dX6_digitTo_60 (B6_in ((bput u 6 9 (-1)) 6 9) 0 a1) (by rw [← hF, F6_digitTo, if_pos c_1, if_neg c_3])
  · refine lv_aload_n hx hb dX6_digitTo_12 rfl (lv_at hl 0 rfl) ?_
    refine va_get (D := D) (ci := 6) (C := RX6) (T := TX6) (N := 16) hx hb hts iX6 hown hk.1 hP 0 (wM_0 _ _ _) rfl 4 (by decide) (hts (.fieldLink RX6 19 "BottleLoopModel" "text" "[I") (List.mem_of_getElem? (i := 3) rfl)) (fun _ h9 => h9) rfl dX6_digitTo_13 ?_
    refine lv_aload_n hx hb dX6_digitTo_16 rfl (lv_at hl 0 rfl) ?_
    refine va_get (D := D) (ci := 6) (C := RX6) (T := TX6) (N := 16) hx hb hts iX6 hown hk.1 hP 0 (wM_0 _ _ _) rfl 9 (by decide) (hts (.fieldLink RX6 132 "BottleLoopModel" "place" "I") (List.mem_of_getElem? (i := 1) rfl)) (fun _ h9 => h9) rfl dX6_digitTo_17 ?_
    refine va_iald hx hb hk.1 hP 4 0 (wM_4 _ _ _) rfl (mXpl hI c_1) dX6_digitTo_20 ?_
    refine lv_bipush (v := 48) hx hb dX6_digitTo_21 (by decide) ?_
    refine lv_isub hx hb dX6_digitTo_23 ?_
    refine lv_goto (tgt := 28) hx hb dX6_digitTo_24 (by decide) ?_
    refine va_put (D := D) (ci := 6) (v := .int ((u 3 (u 6 3).toNatClampNeg) - 48)) (ty := .int) (C := RX6) (T := TX6) (N := 16) hx hb hts iX6 tyX6 tyX6_ok nmX6 hown hk.1 hP (wM_D hq) hS 0 (wM_0 _ _ _) rfl 15 (by decide) (hts (.fieldLink RX6 135 "BottleLoopModel" "digit" "I") (List.mem_of_getElem? (i := 4) rfl)) (fun _ h9 => h9) rfl (by decide +kernel) rfl rfl (Nat.le_of_ble_eq_true rfl) dX6_digitTo_28 (fun H locs hP _ hS => ?_)
    have hP : va_P D vwCl (wM cI q (bput u 6 9 ((u 3 (u 6 3).toNatClampNeg) - 48))) H := pM_f9 hP
    have hI_6 : mInv (bput u 6 9 ((u 3 (u 6 3).toNatClampNeg) - 48)) := mInv_sc (k := 9) hI (by decide) (by decide) (by decide)
    refine lv_aload_n hx hb dX6_digitTo_31 rfl (lv_at hl 0 rfl) ?_
    refine va_get (D := D) (ci := 6) (C := RX6) (T := TX6) (N := 16) hx hb hts iX6 hown hk.1 hP 0 (wM_0 _ _ _) rfl 15 (by decide) (hts (.fieldLink RX6 135 "BottleLoopModel" "digit" "I") (List.mem_of_getElem? (i := 4) rfl)) (fun _ h9 => h9) rfl dX6_digitTo_32 ?_
    refine lv_iconst (v := 0) hx hb dX6_digitTo_35 (by decide) ?_
    refine lv_iload_n hx hb dX6_digitTo_36 rfl (lv_at hl 1 rfl) ?_
    refine bcall_Ri (va_runS (As := [.int ((bput u 6 9 ((u 3 (u 6 3).toNatClampNeg) - 48)) 6 9), .int 0, .int a1]) (rest := []) ⟨hx, hb, hml, hown, hts⟩ (C6_in l D cI q _ ((bput u 6 9 ((u 3 (u 6 3).toNatClampNeg) - 48)) 6 9) 0 a1) (va_cwS 3 hts gX6_digitTo_X6_in rfl rfl rfl bd_X6in ⟨Nat.le_of_ble_eq_true rfl, Nat.le_of_ble_eq_true rfl⟩) (bPS hk) rfl rfl hl.1 rfl (lv_room (Nat.le_of_ble_eq_true rfl)) dX6_digitTo_37 ⟨Nat.zero_le _, Nat.zero_le _⟩) hS (fun locs hS => ?_)
    refine lv_istore_n (lv' := [(2, .int (F6_in ((bput u 6 9 ((u 3 (u 6 3).toNatClampNeg) - 48)) 6 9) 0 a1)), (0, .ref (q 0)), (1, .int a1)]) hx hb dX6_digitTo_40 rfl hl (by decide) rfl (fun ls hl => ?_)
    refine lv_aload_n hx hb dX6_digitTo_41 rfl (lv_at hl 1 rfl) ?_
    refine lv_dup hx hb dX6_digitTo_42 rfl ?_
    refine va_get (D := D) (ci := 6) (C := RX6) (T := TX6) (N := 16) hx hb hts iX6 hown hk.1 hP 0 (wM_0 _ _ _) rfl 9 (by decide) (hts (.fieldLink RX6 132 "BottleLoopModel" "place" "I") (List.mem_of_getElem? (i := 1) rfl)) (fun _ h9 => h9) rfl dX6_digitTo_43 ?_
    refine lv_iload_n hx hb dX6_digitTo_46 rfl (lv_at hl 0 rfl) ?_
    refine lv_if_eq (tgt := 54) hx hb dX6_digitTo_47 (by decide) (fun c_7 => ?_) (fun c_7 => ?_)
    · refine lv_iconst (v := 0) hx hb dX6_digitTo_54 (by decide) ?_
      refine lv_iadd hx hb dX6_digitTo_55 ?_
      refine va_put (D := D) (ci := 6) (v := .int (((bput u 6 9 ((u 3 (u 6 3).toNatClampNeg) - 48)) 6 3) + 0)) (ty := .int) (C := RX6) (T := TX6) (N := 16) hx hb hts iX6 tyX6 tyX6_ok nmX6 hown hk.1 hP (wM_D hq) hS 0 (wM_0 _ _ _) rfl 9 (by decide) (hts (.fieldLink RX6 132 "BottleLoopModel" "place" "I") (List.mem_of_getElem? (i := 1) rfl)) (fun _ h9 => h9) rfl (by decide +kernel) rfl rfl (Nat.le_of_ble_eq_true rfl) dX6_digitTo_56 (fun H locs hP _ hS => ?_)
      have hP : va_P D vwCl (wM cI q (bput (bput u 6 9 ((u 3 (u 6 3).toNatClampNeg) - 48)) 6 3 (((bput u 6 9 ((u 3 (u 6 3).toNatClampNeg) - 48)) 6 3) + 0))) H := pM_f3 hP
      have hI_8 : mInv (bput (bput u 6 9 ((u 3 (u 6 3).toNatClampNeg) - 48)) 6 3 (((bput u 6 9 ((u 3 (u 6 3).toNatClampNeg) - 48)) 6 3) + 0)) := mInv_pl0 hI_6
      refine lv_iload_n hx hb dX6_digitTo_59 rfl (lv_at hl 0 rfl) ?_
      exact bret_Wz hx hb hr hP hI_8 hS hlocks dX6_digitTo_60 (B6_in ((bput u 6 9 ((u 3 (u 6 3).toNatClampNeg) - 48)) 6 9) 0 a1) (by rw [← hF, F6_digitTo, if_neg c_1, if_pos c_7])
    · refine lv_iconst (v := 1) hx hb dX6_digitTo_50 (by decide) ?_
      refine lv_goto (tgt := 55) hx hb dX6_digitTo_51 (by decide) ?_
      refine lv_iadd hx hb dX6_digitTo_55 ?_
      refine va_put (D := D) (ci := 6) (v := .int (((bput u 6 9 ((u 3 (u 6 3).toNatClampNeg) - 48)) 6 3) + 1)) (ty := .int) (C := RX6) (T := TX6) (N := 16) hx hb hts iX6 tyX6 tyX6_ok nmX6 hown hk.1 hP (wM_D hq) hS 0 (wM_0 _ _ _) rfl 9 (by decide) (hts (.fieldLink RX6 132 "BottleLoopModel" "place" "I") (List.mem_of_getElem? (i := 1) rfl)) (fun _ h9 => h9) rfl (by decide +kernel) rfl rfl (Nat.le_of_ble_eq_true rfl) dX6_digitTo_56 (fun H locs hP _ hS => ?_)
      have hP : va_P D vwCl (wM cI q (bput (bput u 6 9 ((u 3 (u 6 3).toNatClampNeg) - 48)) 6 3 (((bput u 6 9 ((u 3 (u 6 3).toNatClampNeg) - 48)) 6 3) + 1))) H := pM_f3 hP
      have hI_9 : mInv (bput (bput u 6 9 ((u 3 (u 6 3).toNatClampNeg) - 48)) 6 3 (((bput u 6 9 ((u 3 (u 6 3).toNatClampNeg) - 48)) 6 3) + 1)) := mInv_pl1 hI_6 c_1
      refine lv_iload_n hx hb dX6_digitTo_59 rfl (lv_at hl 0 rfl) ?_
      exact bret_Wz hx hb hr hP hI_9 hS hlocks dX6_digitTo_60 (B6_in ((bput u 6 9 ((u 3 (u 6 3).toNatClampNeg) - 48)) 6 9) 0 a1) (by rw [← hF, F6_digitTo, if_neg c_1, if_neg c_7])
theorem B6_digitTo (u : bU) (a1 : Int32) : (F6_digitTo u a1).1 = 0 ∨ (F6_digitTo u a1).1 = 1 := by
  unfold F6_digitTo
  (repeat' split) <;> first | exact Or.inl rfl | exact Or.inr rfl | exact (B6_in ((bput u 6 9 (-1)) 6 9) 0 a1) | exact (B6_in ((bput u 6 9 ((u 3 (u 6 3).toNatClampNeg) - 48)) 6 9) 0 a1)
def L6_readNumber_5 (a1 : Int32) : bU → Nat → Nat → bU
  | u5, 0, _ => u5
  | u5, n5 + 1, j5 => (if (u5 6 1) ≤ (u5 6 3) then u5 else (if (u5 6 8) = 0 then (if (F6_in (u5 3 (u5 6 3).toNatClampNeg) 49 57) = 0 then u5 else (if a1 < (((10 * (u5 6 8)) + (u5 3 (u5 6 3).toNatClampNeg)) - 48) then u5 else (L6_readNumber_5 a1 (bput (bput u5 6 8 (((10 * (u5 6 8)) + (u5 3 (u5 6 3).toNatClampNeg)) - 48)) 6 3 (((bput u5 6 8 (((10 * (u5 6 8)) + (u5 3 (u5 6 3).toNatClampNeg)) - 48)) 6 3) + 1)) n5 (j5 + 1)))) else (if (F6_in (u5 3 (u5 6 3).toNatClampNeg) 48 57) = 0 then u5 else (if a1 < (((10 * (u5 6 8)) + (u5 3 (u5 6 3).toNatClampNeg)) - 48) then u5 else (L6_readNumber_5 a1 (bput (bput u5 6 8 (((10 * (u5 6 8)) + (u5 3 (u5 6 3).toNatClampNeg)) - 48)) 6 3 (((bput u5 6 8 (((10 * (u5 6 8)) + (u5 3 (u5 6 3).toNatClampNeg)) - 48)) 6 3) + 1)) n5 (j5 + 1))))))
def F6_readNumber (u : bU) (a1 : Int32) : Int32 × bU := (if ((L6_readNumber_5 a1 (bput u 6 8 0) (60 + 1) 0) 6 8) ≤ 0 then (0, (L6_readNumber_5 a1 (bput u 6 8 0) (60 + 1) 0)) else (1, (L6_readNumber_5 a1 (bput u 6 8 0) (60 + 1) 0)))
set_option maxHeartbeats 4000000 in
set_option maxRecDepth 100000 in
theorem C6_readNumber (l : Launch) (D : va_G) (cI : ClassId) (q : Nat → Nat) (u : bU) (H0 : Heap) (hq : bInj 7 q) (hP : va_P D vwCl (wM cI q u) H0) (hI : mInv u) (a1 : Int32) : Met l yX6_readNumber wsX6_readNumber ({ frames := 1, cells := 0, slots := 0, locals := 22 }) (bP D [(cI, .int)] H0 [.ref (q 0), .int a1]) (bWi D (wM cI q) mInv (bA 7 q H0.size) (F6_readNumber u a1)) 0 0 (bA 7 q H0.size) := by
  refine Met.ofW (cc := cX6_readNumber) (maxL := 2) (ret := (some .boolean)) (by decide) rfl ?_
  intro p e s m args below meth c s₁ B hml hv
  obtain ⟨rfl, hH, hk⟩ := hv
  subst hH
  have hx := B.exec
  have hb := B.bytes
  have hr := B.returns
  have hts := atoms_spec (ws := wsX6_readNumber) B.pre
  have hown : s.vm.findClass RX6 = some m.cls := findClass_of_methodNamed B.named
  have hlocks := B.notSynchronized
  have hNB := mNB hI
  have hNS := mNS hI
  have hI0 := hI
  have iX6 : ∀ w ∈ wsX60, w ∈ wsX6_readNumber := by decide +kernel
  have hS : va_S (bA 7 q s.heap.size) s.heap s.heap [] := va_S.rf
  have hl := lv_entry ([.ref (q 0), .int a1]) (n := 2) (Nat.le_of_ble_eq_true rfl)
  rw [lg_entry_eq]
  generalize (lg_sl ([.ref (q 0), .int a1]) ++ List.replicate (2 - (lg_sl ([.ref (q 0), .int a1])).length) Slot.unset).toArray = ls at hl ⊢
  have hl : lv_has ls 2 [(0, .ref (q 0)), (1, .int a1)] := hl
  generalize hF : F6_readNumber u a1 = tgt
  refine lv_aload_n hx hb dX6_readNumber_0 rfl (lv_at hl 0 rfl) ?_
  refine lv_iconst (v := 0) hx hb dX6_readNumber_1 (by decide) ?_
  refine va_put (D := D) (ci := 6) (v := .int 0) (ty := .int) (C := RX6) (T := TX6) (N := 16) hx hb hts iX6 tyX6 tyX6_ok nmX6 hown hk.1 hP (wM_D hq) hS 0 (wM_0 _ _ _) rfl 14 (by decide) (hts (.fieldLink RX6 138 "BottleLoopModel" "number" "I") (List.mem_of_getElem? (i := 1) rfl)) (fun _ h9 => h9) rfl (by decide +kernel) rfl rfl (Nat.le_of_ble_eq_true rfl) dX6_readNumber_2 (fun H locs hP _ hS => ?_)
  have hP : va_P D vwCl (wM cI q (bput u 6 8 0)) H := pM_f8 hP
  have hI_1 : mInv (bput u 6 8 0) := mInv_sc (k := 8) hI (by decide) (by decide) (by decide)
  have hNB5 := mNB hI_1
  have hNS5 := mNS hI_1
  have loop5 : ∀ (n5 j5 : Nat) (u5 : bU) (H : Heap) (locs : List Loc) (ls : Array Slot), j5 ≤ 60 → 60 + 1 ≤ n5 + j5 → mPl j5 u5 → lv_has ls 2 [(0, .ref (q 0)), (1, .int a1)] → va_P D vwCl (wM cI q u5) H → mInv u5 → va_S (bA 7 q s.heap.size) s.heap H locs → ∀ X : bU, L6_readNumber_5 a1 u5 n5 j5 = X → (∀ (H : Heap) (locs : List Loc) (ls : Array Slot), lv_has ls 2 [(0, .ref (q 0)), (1, .int a1)] → va_P D vwCl (wM cI q X) H → mInv X → va_S (bA 7 q s.heap.size) s.heap H locs → W p l e (headSpec wsX6_readNumber ({ frames := 1, cells := 0, slots := 0, locals := 22 })).room s m ([.ref (q 0), .int a1] : List Value).toArray below meth c H locs 0 0 (MQ below (bWi D (wM cI q) mInv (bA 7 q s.heap.size) tgt) ([.ref (q 0), .int a1] : List Value).toArray s 0 0 (bA 7 q s.heap.size)) (F0 m 108 ls [])) → W p l e (headSpec wsX6_readNumber ({ frames := 1, cells := 0, slots := 0, locals := 22 })).room s m ([.ref (q 0), .int a1] : List Value).toArray below meth c H locs 0 0 (MQ below (bWi D (wM cI q) mInv (bA 7 q s.heap.size) tgt) ([.ref (q 0), .int a1] : List Value).toArray s 0 0 (bA 7 q s.heap.size)) (F0 m 5 ls []) := by
    intro n5
    induction n5 with
    | zero => intro j5 u5 H locs ls hj hn; exact absurd hn (by omega)
    | succ n5 ih =>
      intro j5 u5 H locs ls hj hn hinv hl hP hI hS X hF kx
      refine lv_aload_n hx hb dX6_readNumber_5 rfl (lv_at hl 0 rfl) ?_
      refine va_get (D := D) (ci := 6) (C := RX6) (T := TX6) (N := 16) hx hb hts iX6 hown hk.1 hP 0 (wM_0 _ _ _) rfl 9 (by decide) (hts (.fieldLink RX6 132 "BottleLoopModel" "place" "I") (List.mem_of_getElem? (i := 2) rfl)) (fun _ h9 => h9) rfl dX6_readNumber_6 ?_
      refine lv_aload_n hx hb dX6_readNumber_9 rfl (lv_at hl 0 rfl) ?_
      refine va_get (D := D) (ci := 6) (C := RX6) (T := TX6) (N := 16) hx hb hts iX6 hown hk.1 hP 0 (wM_0 _ _ _) rfl 5 (by decide) (hts (.fieldLink RX6 129 "BottleLoopModel" "length" "I") (List.mem_of_getElem? (i := 3) rfl)) (fun _ h9 => h9) rfl dX6_readNumber_10 ?_
      refine lv_icmp_ge (tgt := 108) hx hb dX6_readNumber_13 (by decide) (fun c_2 => ?_) (fun c_2 => ?_)
      · obtain rfl : X = u5 := by rw [← hF, L6_readNumber_5, if_pos c_2]
        exact kx _ _ _ (lv_sub hl [0, 1] rfl) hP hI hS
      · have hlt_3 : j5 < 60 := mPl_lt hI hinv c_2
        refine lv_aload_n hx hb dX6_readNumber_16 rfl (lv_at hl 0 rfl) ?_
        refine va_get (D := D) (ci := 6) (C := RX6) (T := TX6) (N := 16) hx hb hts iX6 hown hk.1 hP 0 (wM_0 _ _ _) rfl 4 (by decide) (hts (.fieldLink RX6 19 "BottleLoopModel" "text" "[I") (List.mem_of_getElem? (i := 4) rfl)) (fun _ h9 => h9) rfl dX6_readNumber_17 ?_
        refine lv_aload_n hx hb dX6_readNumber_20 rfl (lv_at hl 0 rfl) ?_
        refine va_get (D := D) (ci := 6) (C := RX6) (T := TX6) (N := 16) hx hb hts iX6 hown hk.1 hP 0 (wM_0 _ _ _) rfl 9 (by decide) (hts (.fieldLink RX6 132 "BottleLoopModel" "place" "I") (List.mem_of_getElem? (i := 2) rfl)) (fun _ h9 => h9) rfl dX6_readNumber_21 ?_
        refine va_iald hx hb hk.1 hP 4 0 (wM_4 _ _ _) rfl (mXpl hI c_2) dX6_readNumber_24 ?_
        refine lv_aload_n hx hb dX6_readNumber_25 rfl (lv_at hl 0 rfl) ?_
        refine va_get (D := D) (ci := 6) (C := RX6) (T := TX6) (N := 16) hx hb hts iX6 hown hk.1 hP 0 (wM_0 _ _ _) rfl 14 (by decide) (hts (.fieldLink RX6 138 "BottleLoopModel" "number" "I") (List.mem_of_getElem? (i := 1) rfl)) (fun _ h9 => h9) rfl dX6_readNumber_26 ?_
        refine lv_if_ne (tgt := 37) hx hb dX6_readNumber_29 (by decide) (fun c_4 => ?_) (fun c_4 => ?_)
        · refine lv_bipush (v := 48) hx hb dX6_readNumber_37 (by decide) ?_
          refine lv_bipush (v := 57) hx hb dX6_readNumber_39 (by decide) ?_
          refine bcall_Ri (va_runS (As := [.int (u5 3 (u5 6 3).toNatClampNeg), .int 48, .int 57]) (rest := []) ⟨hx, hb, hml, hown, hts⟩ (C6_in l D cI q _ (u5 3 (u5 6 3).toNatClampNeg) 48 57) (va_cwS 3 hts gX6_readNumber_X6_in rfl rfl rfl bd_X6in ⟨Nat.le_of_ble_eq_true rfl, Nat.le_of_ble_eq_true rfl⟩) (bPS hk) rfl rfl hl.1 rfl (lv_room (Nat.le_of_ble_eq_true rfl)) dX6_readNumber_41 ⟨Nat.zero_le _, Nat.zero_le _⟩) hS (fun locs hS => ?_)
          refine lv_if_eq (tgt := 108) hx hb dX6_readNumber_44 (by decide) (fun c_5 => ?_) (fun c_5 => ?_)
          · obtain rfl : X = u5 := by rw [← hF, L6_readNumber_5, if_neg c_2, if_neg c_4, if_pos c_5]
            exact kx _ _ _ (lv_sub hl [0, 1] rfl) hP hI hS
          · refine lv_bipush (v := 10) hx hb dX6_readNumber_47 (by decide) ?_
            refine lv_aload_n hx hb dX6_readNumber_49 rfl (lv_at hl 0 rfl) ?_
            refine va_get (D := D) (ci := 6) (C := RX6) (T := TX6) (N := 16) hx hb hts iX6 hown hk.1 hP 0 (wM_0 _ _ _) rfl 14 (by decide) (hts (.fieldLink RX6 138 "BottleLoopModel" "number" "I") (List.mem_of_getElem? (i := 1) rfl)) (fun _ h9 => h9) rfl dX6_readNumber_50 ?_
            refine lv_imul hx hb dX6_readNumber_53 ?_
            refine lv_aload_n hx hb dX6_readNumber_54 rfl (lv_at hl 0 rfl) ?_
            refine va_get (D := D) (ci := 6) (C := RX6) (T := TX6) (N := 16) hx hb hts iX6 hown hk.1 hP 0 (wM_0 _ _ _) rfl 4 (by decide) (hts (.fieldLink RX6 19 "BottleLoopModel" "text" "[I") (List.mem_of_getElem? (i := 4) rfl)) (fun _ h9 => h9) rfl dX6_readNumber_55 ?_
            refine lv_aload_n hx hb dX6_readNumber_58 rfl (lv_at hl 0 rfl) ?_
            refine va_get (D := D) (ci := 6) (C := RX6) (T := TX6) (N := 16) hx hb hts iX6 hown hk.1 hP 0 (wM_0 _ _ _) rfl 9 (by decide) (hts (.fieldLink RX6 132 "BottleLoopModel" "place" "I") (List.mem_of_getElem? (i := 2) rfl)) (fun _ h9 => h9) rfl dX6_readNumber_59 ?_
            refine va_iald hx hb hk.1 hP 4 0 (wM_4 _ _ _) rfl (mXpl hI c_2) dX6_readNumber_62 ?_
            refine lv_iadd hx hb dX6_readNumber_63 ?_
            refine lv_bipush (v := 48) hx hb dX6_readNumber_64 (by decide) ?_
            refine lv_isub hx hb dX6_readNumber_66 ?_
            refine lv_iload_n hx hb dX6_readNumber_67 rfl (lv_at hl 1 rfl) ?_
            refine lv_icmp_gt (tgt := 108) hx hb dX6_readNumber_68 (by decide) (fun c_6 => ?_) (fun c_6 => ?_)
            · obtain rfl : X = u5 := by rw [← hF, L6_readNumber_5, if_neg c_2, if_neg c_4, if_neg c_5, if_pos c_6]
              exact kx _ _ _ (lv_sub hl [0, 1] rfl) hP hI hS
            · refine lv_aload_n hx hb dX6_readNumber_71 rfl (lv_at hl 0 rfl) ?_
              refine lv_bipush (v := 10) hx hb dX6_readNumber_72 (by decide) ?_
              refine lv_aload_n hx hb dX6_readNumber_74 rfl (lv_at hl 0 rfl) ?_
              refine va_get (D := D) (ci := 6) (C := RX6) (T := TX6) (N := 16) hx hb hts iX6 hown hk.1 hP 0 (wM_0 _ _ _) rfl 14 (by decide) (hts (.fieldLink RX6 138 "BottleLoopModel" "number" "I") (List.mem_of_getElem? (i := 1) rfl)) (fun _ h9 => h9) rfl dX6_readNumber_75 ?_
              refine lv_imul hx hb dX6_readNumber_78 ?_
              refine lv_aload_n hx hb dX6_readNumber_79 rfl (lv_at hl 0 rfl) ?_
              refine va_get (D := D) (ci := 6) (C := RX6) (T := TX6) (N := 16) hx hb hts iX6 hown hk.1 hP 0 (wM_0 _ _ _) rfl 4 (by decide) (hts (.fieldLink RX6 19 "BottleLoopModel" "text" "[I") (List.mem_of_getElem? (i := 4) rfl)) (fun _ h9 => h9) rfl dX6_readNumber_80 ?_
              refine lv_aload_n hx hb dX6_readNumber_83 rfl (lv_at hl 0 rfl) ?_
              refine va_get (D := D) (ci := 6) (C := RX6) (T := TX6) (N := 16) hx hb hts iX6 hown hk.1 hP 0 (wM_0 _ _ _) rfl 9 (by decide) (hts (.fieldLink RX6 132 "BottleLoopModel" "place" "I") (List.mem_of_getElem? (i := 2) rfl)) (fun _ h9 => h9) rfl dX6_readNumber_84 ?_
              refine va_iald hx hb hk.1 hP 4 0 (wM_4 _ _ _) rfl (mXpl hI c_2) dX6_readNumber_87 ?_
              refine lv_iadd hx hb dX6_readNumber_88 ?_
              refine lv_bipush (v := 48) hx hb dX6_readNumber_89 (by decide) ?_
              refine lv_isub hx hb dX6_readNumber_91 ?_
              refine va_put (D := D) (ci := 6) (v := .int (((10 * (u5 6 8)) + (u5 3 (u5 6 3).toNatClampNeg)) - 48)) (ty := .int) (C := RX6) (T := TX6) (N := 16) hx hb hts iX6 tyX6 tyX6_ok nmX6 hown hk.1 hP (wM_D hq) hS 0 (wM_0 _ _ _) rfl 14 (by decide) (hts (.fieldLink RX6 138 "BottleLoopModel" "number" "I") (List.mem_of_getElem? (i := 1) rfl)) (fun _ h9 => h9) rfl (by decide +kernel) rfl rfl (Nat.le_of_ble_eq_true rfl) dX6_readNumber_92 (fun H locs hP _ hS => ?_)
              have hP : va_P D vwCl (wM cI q (bput u5 6 8 (((10 * (u5 6 8)) + (u5 3 (u5 6 3).toNatClampNeg)) - 48))) H := pM_f8 hP
              have hI_7 : mInv (bput u5 6 8 (((10 * (u5 6 8)) + (u5 3 (u5 6 3).toNatClampNeg)) - 48)) := mInv_sc (k := 8) hI (by decide) (by decide) (by decide)
              refine lv_aload_n hx hb dX6_readNumber_95 rfl (lv_at hl 0 rfl) ?_
              refine lv_dup hx hb dX6_readNumber_96 rfl ?_
              refine va_get (D := D) (ci := 6) (C := RX6) (T := TX6) (N := 16) hx hb hts iX6 hown hk.1 hP 0 (wM_0 _ _ _) rfl 9 (by decide) (hts (.fieldLink RX6 132 "BottleLoopModel" "place" "I") (List.mem_of_getElem? (i := 2) rfl)) (fun _ h9 => h9) rfl dX6_readNumber_97 ?_
              refine lv_iconst (v := 1) hx hb dX6_readNumber_100 (by decide) ?_
              refine lv_iadd hx hb dX6_readNumber_101 ?_
              refine va_put (D := D) (ci := 6) (v := .int (((bput u5 6 8 (((10 * (u5 6 8)) + (u5 3 (u5 6 3).toNatClampNeg)) - 48)) 6 3) + 1)) (ty := .int) (C := RX6) (T := TX6) (N := 16) hx hb hts iX6 tyX6 tyX6_ok nmX6 hown hk.1 hP (wM_D hq) hS 0 (wM_0 _ _ _) rfl 9 (by decide) (hts (.fieldLink RX6 132 "BottleLoopModel" "place" "I") (List.mem_of_getElem? (i := 2) rfl)) (fun _ h9 => h9) rfl (by decide +kernel) rfl rfl (Nat.le_of_ble_eq_true rfl) dX6_readNumber_102 (fun H locs hP _ hS => ?_)
              have hP : va_P D vwCl (wM cI q (bput (bput u5 6 8 (((10 * (u5 6 8)) + (u5 3 (u5 6 3).toNatClampNeg)) - 48)) 6 3 (((bput u5 6 8 (((10 * (u5 6 8)) + (u5 3 (u5 6 3).toNatClampNeg)) - 48)) 6 3) + 1))) H := pM_f3 hP
              have hI_8 : mInv (bput (bput u5 6 8 (((10 * (u5 6 8)) + (u5 3 (u5 6 3).toNatClampNeg)) - 48)) 6 3 (((bput u5 6 8 (((10 * (u5 6 8)) + (u5 3 (u5 6 3).toNatClampNeg)) - 48)) 6 3) + 1)) := mInv_pl1 hI_7 c_2
              refine lv_goto (tgt := 5) hx hb dX6_readNumber_105 (by decide) ?_
              exact ih (j5 + 1)  (bput (bput u5 6 8 (((10 * (u5 6 8)) + (u5 3 (u5 6 3).toNatClampNeg)) - 48)) 6 3 (((bput u5 6 8 (((10 * (u5 6 8)) + (u5 3 (u5 6 3).toNatClampNeg)) - 48)) 6 3) + 1)) _ _ _ (by omega) (by omega) (mPl_step hI_7 hinv c_2) (lv_sub hl [0, 1] rfl) hP hI_8 hS X (by rw [← hF, L6_readNumber_5, if_neg c_2, if_neg c_4, if_neg c_5, if_neg c_6]) kx
        · refine lv_bipush (v := 49) hx hb dX6_readNumber_32 (by decide) ?_
          refine lv_goto (tgt := 39) hx hb dX6_readNumber_34 (by decide) ?_
          refine lv_bipush (v := 57) hx hb dX6_readNumber_39 (by decide) ?_
          refine bcall_Ri (va_runS (As := [.int (u5 3 (u5 6 3).toNatClampNeg), .int 49, .int 57]) (rest := []) ⟨hx, hb, hml, hown, hts⟩ (C6_in l D cI q _ (u5 3 (u5 6 3).toNatClampNeg) 49 57) (va_cwS 3 hts gX6_readNumber_X6_in rfl rfl rfl bd_X6in ⟨Nat.le_of_ble_eq_true rfl, Nat.le_of_ble_eq_true rfl⟩) (bPS hk) rfl rfl hl.1 rfl (lv_room (Nat.le_of_ble_eq_true rfl)) dX6_readNumber_41 ⟨Nat.zero_le _, Nat.zero_le _⟩) hS (fun locs hS => ?_)
          refine lv_if_eq (tgt := 108) hx hb dX6_readNumber_44 (by decide) (fun c_9 => ?_) (fun c_9 => ?_)
          · obtain rfl : X = u5 := by rw [← hF, L6_readNumber_5, if_neg c_2, if_pos c_4, if_pos c_9]
            exact kx _ _ _ (lv_sub hl [0, 1] rfl) hP hI hS
          · refine lv_bipush (v := 10) hx hb dX6_readNumber_47 (by decide) ?_
            refine lv_aload_n hx hb dX6_readNumber_49 rfl (lv_at hl 0 rfl) ?_
            refine va_get (D := D) (ci := 6) (C := RX6) (T := TX6) (N := 16) hx hb hts iX6 hown hk.1 hP 0 (wM_0 _ _ _) rfl 14 (by decide) (hts (.fieldLink RX6 138 "BottleLoopModel" "number" "I") (List.mem_of_getElem? (i := 1) rfl)) (fun _ h9 => h9) rfl dX6_readNumber_50 ?_
            refine lv_imul hx hb dX6_readNumber_53 ?_
            refine lv_aload_n hx hb dX6_readNumber_54 rfl (lv_at hl 0 rfl) ?_
            refine va_get (D := D) (ci := 6) (C := RX6) (T := TX6) (N := 16) hx hb hts iX6 hown hk.1 hP 0 (wM_0 _ _ _) rfl 4 (by decide) (hts (.fieldLink RX6 19 "BottleLoopModel" "text" "[I") (List.mem_of_getElem? (i := 4) rfl)) (fun _ h9 => h9) rfl dX6_readNumber_55 ?_
            refine lv_aload_n hx hb dX6_readNumber_58 rfl (lv_at hl 0 rfl) ?_
            refine va_get (D := D) (ci := 6) (C := RX6) (T := TX6) (N := 16) hx hb hts iX6 hown hk.1 hP 0 (wM_0 _ _ _) rfl 9 (by decide) (hts (.fieldLink RX6 132 "BottleLoopModel" "place" "I") (List.mem_of_getElem? (i := 2) rfl)) (fun _ h9 => h9) rfl dX6_readNumber_59 ?_
            refine va_iald hx hb hk.1 hP 4 0 (wM_4 _ _ _) rfl (mXpl hI c_2) dX6_readNumber_62 ?_
            refine lv_iadd hx hb dX6_readNumber_63 ?_
            refine lv_bipush (v := 48) hx hb dX6_readNumber_64 (by decide) ?_
            refine lv_isub hx hb dX6_readNumber_66 ?_
            refine lv_iload_n hx hb dX6_readNumber_67 rfl (lv_at hl 1 rfl) ?_
            refine lv_icmp_gt (tgt := 108) hx hb dX6_readNumber_68 (by decide) (fun c_10 => ?_) (fun c_10 => ?_)
            · obtain rfl : X = u5 := by rw [← hF, L6_readNumber_5, if_neg c_2, if_pos c_4, if_neg c_9, if_pos c_10]
              exact kx _ _ _ (lv_sub hl [0, 1] rfl) hP hI hS
            · refine lv_aload_n hx hb dX6_readNumber_71 rfl (lv_at hl 0 rfl) ?_
              refine lv_bipush (v := 10) hx hb dX6_readNumber_72 (by decide) ?_
              refine lv_aload_n hx hb dX6_readNumber_74 rfl (lv_at hl 0 rfl) ?_
              refine va_get (D := D) (ci := 6) (C := RX6) (T := TX6) (N := 16) hx hb hts iX6 hown hk.1 hP 0 (wM_0 _ _ _) rfl 14 (by decide) (hts (.fieldLink RX6 138 "BottleLoopModel" "number" "I") (List.mem_of_getElem? (i := 1) rfl)) (fun _ h9 => h9) rfl dX6_readNumber_75 ?_
              refine lv_imul hx hb dX6_readNumber_78 ?_
              refine lv_aload_n hx hb dX6_readNumber_79 rfl (lv_at hl 0 rfl) ?_
              refine va_get (D := D) (ci := 6) (C := RX6) (T := TX6) (N := 16) hx hb hts iX6 hown hk.1 hP 0 (wM_0 _ _ _) rfl 4 (by decide) (hts (.fieldLink RX6 19 "BottleLoopModel" "text" "[I") (List.mem_of_getElem? (i := 4) rfl)) (fun _ h9 => h9) rfl dX6_readNumber_80 ?_
              refine lv_aload_n hx hb dX6_readNumber_83 rfl (lv_at hl 0 rfl) ?_
              refine va_get (D := D) (ci := 6) (C := RX6) (T := TX6) (N := 16) hx hb hts iX6 hown hk.1 hP 0 (wM_0 _ _ _) rfl 9 (by decide) (hts (.fieldLink RX6 132 "BottleLoopModel" "place" "I") (List.mem_of_getElem? (i := 2) rfl)) (fun _ h9 => h9) rfl dX6_readNumber_84 ?_
              refine va_iald hx hb hk.1 hP 4 0 (wM_4 _ _ _) rfl (mXpl hI c_2) dX6_readNumber_87 ?_
              refine lv_iadd hx hb dX6_readNumber_88 ?_
              refine lv_bipush (v := 48) hx hb dX6_readNumber_89 (by decide) ?_
              refine lv_isub hx hb dX6_readNumber_91 ?_
              refine va_put (D := D) (ci := 6) (v := .int (((10 * (u5 6 8)) + (u5 3 (u5 6 3).toNatClampNeg)) - 48)) (ty := .int) (C := RX6) (T := TX6) (N := 16) hx hb hts iX6 tyX6 tyX6_ok nmX6 hown hk.1 hP (wM_D hq) hS 0 (wM_0 _ _ _) rfl 14 (by decide) (hts (.fieldLink RX6 138 "BottleLoopModel" "number" "I") (List.mem_of_getElem? (i := 1) rfl)) (fun _ h9 => h9) rfl (by decide +kernel) rfl rfl (Nat.le_of_ble_eq_true rfl) dX6_readNumber_92 (fun H locs hP _ hS => ?_)
              have hP : va_P D vwCl (wM cI q (bput u5 6 8 (((10 * (u5 6 8)) + (u5 3 (u5 6 3).toNatClampNeg)) - 48))) H := pM_f8 hP
              have hI_11 : mInv (bput u5 6 8 (((10 * (u5 6 8)) + (u5 3 (u5 6 3).toNatClampNeg)) - 48)) := mInv_sc (k := 8) hI (by decide) (by decide) (by decide)
              refine lv_aload_n hx hb dX6_readNumber_95 rfl (lv_at hl 0 rfl) ?_
              refine lv_dup hx hb dX6_readNumber_96 rfl ?_
              refine va_get (D := D) (ci := 6) (C := RX6) (T := TX6) (N := 16) hx hb hts iX6 hown hk.1 hP 0 (wM_0 _ _ _) rfl 9 (by decide) (hts (.fieldLink RX6 132 "BottleLoopModel" "place" "I") (List.mem_of_getElem? (i := 2) rfl)) (fun _ h9 => h9) rfl dX6_readNumber_97 ?_
              refine lv_iconst (v := 1) hx hb dX6_readNumber_100 (by decide) ?_
              refine lv_iadd hx hb dX6_readNumber_101 ?_
              refine va_put (D := D) (ci := 6) (v := .int (((bput u5 6 8 (((10 * (u5 6 8)) + (u5 3 (u5 6 3).toNatClampNeg)) - 48)) 6 3) + 1)) (ty := .int) (C := RX6) (T := TX6) (N := 16) hx hb hts iX6 tyX6 tyX6_ok nmX6 hown hk.1 hP (wM_D hq) hS 0 (wM_0 _ _ _) rfl 9 (by decide) (hts (.fieldLink RX6 132 "BottleLoopModel" "place" "I") (List.mem_of_getElem? (i := 2) rfl)) (fun _ h9 => h9) rfl (by decide +kernel) rfl rfl (Nat.le_of_ble_eq_true rfl) dX6_readNumber_102 (fun H locs hP _ hS => ?_)
              have hP : va_P D vwCl (wM cI q (bput (bput u5 6 8 (((10 * (u5 6 8)) + (u5 3 (u5 6 3).toNatClampNeg)) - 48)) 6 3 (((bput u5 6 8 (((10 * (u5 6 8)) + (u5 3 (u5 6 3).toNatClampNeg)) - 48)) 6 3) + 1))) H := pM_f3 hP
              have hI_12 : mInv (bput (bput u5 6 8 (((10 * (u5 6 8)) + (u5 3 (u5 6 3).toNatClampNeg)) - 48)) 6 3 (((bput u5 6 8 (((10 * (u5 6 8)) + (u5 3 (u5 6 3).toNatClampNeg)) - 48)) 6 3) + 1)) := mInv_pl1 hI_11 c_2
              refine lv_goto (tgt := 5) hx hb dX6_readNumber_105 (by decide) ?_
              exact ih (j5 + 1)  (bput (bput u5 6 8 (((10 * (u5 6 8)) + (u5 3 (u5 6 3).toNatClampNeg)) - 48)) 6 3 (((bput u5 6 8 (((10 * (u5 6 8)) + (u5 3 (u5 6 3).toNatClampNeg)) - 48)) 6 3) + 1)) _ _ _ (by omega) (by omega) (mPl_step hI_11 hinv c_2) (lv_sub hl [0, 1] rfl) hP hI_12 hS X (by rw [← hF, L6_readNumber_5, if_neg c_2, if_pos c_4, if_neg c_9, if_neg c_10]) kx
  refine loop5 (60 + 1) 0  (bput u 6 8 0) _ _ _ (by omega) (by omega) (mPl_0 hI_1) (lv_sub hl [0, 1] rfl) hP hI_1 hS _ rfl (fun H locs ls hl hP hI hS => ?_)
  have hI_13 : mInv (L6_readNumber_5 a1 (bput u 6 8 0) (60 + 1) 0) := hI
  refine lv_aload_n hx hb dX6_readNumber_108 rfl (lv_at hl 0 rfl) ?_
  refine va_get (D := D) (ci := 6) (C := RX6) (T := TX6) (N := 16) hx hb hts iX6 hown hk.1 hP 0 (wM_0 _ _ _) rfl 14 (by decide) (hts (.fieldLink RX6 138 "BottleLoopModel" "number" "I") (List.mem_of_getElem? (i := 1) rfl)) (fun _ h9 => h9) rfl dX6_readNumber_109 ?_
  refine lv_if_le (tgt := 119) hx hb dX6_readNumber_112 (by decide) (fun c_14 => ?_) (fun c_14 => ?_)
  · refine lv_iconst (v := 0) hx hb dX6_readNumber_119 (by decide) ?_
    exact bret_Wz hx hb hr hP hI_13 hS hlocks dX6_readNumber_120 (Or.inl rfl) (by rw [← hF, F6_readNumber, if_pos c_14])
  · refine lv_iconst (v := 1) hx hb dX6_readNumber_115 (by decide) ?_
    refine lv_goto (tgt := 120) hx hb dX6_readNumber_116 (by decide) ?_
    exact bret_Wz hx hb hr hP hI_13 hS hlocks dX6_readNumber_120 (Or.inr rfl) (by rw [← hF, F6_readNumber, if_neg c_14])
theorem B6_readNumber (u : bU) (a1 : Int32) : (F6_readNumber u a1).1 = 0 ∨ (F6_readNumber u a1).1 = 1 := by
  unfold F6_readNumber
  (repeat' split) <;> first | exact Or.inl rfl | exact Or.inr rfl | exact (B6_in (u5 3 (u5 6 3).toNatClampNeg) 48 57) | exact (B6_in (u5 3 (u5 6 3).toNatClampNeg) 49 57)
def J6_readOrder_236 (u236 : bU) (y0_236 : Int32) : Int32 × bU := (if ((bput u236 6 4 y0_236) 6 4) = 0 then (0, (bput u236 6 4 y0_236)) else (if (F6_sign (bput u236 6 4 y0_236) 59).1 = 0 then (0, (F6_sign (bput u236 6 4 y0_236) 59).2) else (1, (F6_sign (bput u236 6 4 y0_236) 59).2)))
def J6_readOrder_225 (u225 : bU) (y0_225 : Int32) : Int32 × bU := (if (F6_readNumber u225 y0_225).1 = 0 then (J6_readOrder_236 (F6_readNumber u225 y0_225).2 0) else (J6_readOrder_236 (F6_readNumber u225 y0_225).2 1))
def J6_readOrder_180 (u180 : bU) (y0_180 : Int32) (x1_180 : Int32) : Int32 × bU := (if y0_180 = 0 then (J6_readOrder_236 (bput u180 6 7 (u180 6 9)) 0) else (if (F6_sign (bput u180 6 7 (u180 6 9)) 42).1 = 0 then (J6_readOrder_236 (F6_sign (bput u180 6 7 (u180 6 9)) 42).2 0) else (if x1_180 = 0 then (if ((F6_sign (bput u180 6 7 (u180 6 9)) 42).2 6 5) = (99 : Int32) then (J6_readOrder_225 (F6_sign (bput u180 6 7 (u180 6 9)) 42).2 50) else (J6_readOrder_225 (F6_sign (bput u180 6 7 (u180 6 9)) 42).2 500)) else (J6_readOrder_225 (F6_sign (bput u180 6 7 (u180 6 9)) 42).2 50))))
def J6_readOrder_169 (u169 : bU) (y0_169 : Int32) (x1_169 : Int32) : Int32 × bU := (if (F6_digitTo u169 y0_169).1 = 0 then (J6_readOrder_180 (F6_digitTo u169 y0_169).2 0 x1_169) else (J6_readOrder_180 (F6_digitTo u169 y0_169).2 1 x1_169))
def J6_readOrder_139 (u139 : bU) (y0_139 : Int32) (x1_139 : Int32) : Int32 × bU := (if (F6_sign u139 y0_139).1 = 0 then (J6_readOrder_180 (F6_sign u139 y0_139).2 0 x1_139) else (if x1_139 = 0 then (if ((F6_sign u139 y0_139).2 6 5) = (99 : Int32) then (J6_readOrder_169 (F6_sign u139 y0_139).2 2 x1_139) else (J6_readOrder_169 (F6_sign u139 y0_139).2 7 x1_139)) else (J6_readOrder_169 (F6_sign u139 y0_139).2 5 x1_139)))
def J6_readOrder_111 (u111 : bU) (y0_111 : Int32) (x1_111 : Int32) : Int32 × bU := (if (F6_digitTo u111 y0_111).1 = 0 then (J6_readOrder_180 (bput (F6_digitTo u111 y0_111).2 6 6 ((F6_digitTo u111 y0_111).2 6 9)) 0 x1_111) else (if x1_111 = 0 then (J6_readOrder_139 (bput (F6_digitTo u111 y0_111).2 6 6 ((F6_digitTo u111 y0_111).2 6 9)) 58 x1_111) else (J6_readOrder_139 (bput (F6_digitTo u111 y0_111).2 6 6 ((F6_digitTo u111 y0_111).2 6 9)) 62 x1_111)))
def J6_readOrder_90 (u90 : bU) (x1_90 : Int32) : Int32 × bU := (if x1_90 = 0 then (J6_readOrder_111 (bput u90 6 3 ((u90 6 3) + 1)) 5 x1_90) else (J6_readOrder_111 (bput u90 6 3 ((u90 6 3) + 1)) 7 x1_90))
def F6_readOrder (u : bU) : Int32 × bU := (if ((bput u 6 4 0) 6 1) ≤ ((bput u 6 4 0) 6 3) then (0, (bput (bput u 6 4 0) 6 5 0)) else (if ((bput (bput u 6 4 0) 6 5 ((bput u 6 4 0) 3 ((bput u 6 4 0) 6 3).toNatClampNeg)) 6 5) = (100 : Int32) then (J6_readOrder_90 (bput (bput u 6 4 0) 6 5 ((bput u 6 4 0) 3 ((bput u 6 4 0) 6 3).toNatClampNeg)) 1) else (if ((bput (bput u 6 4 0) 6 5 ((bput u 6 4 0) 3 ((bput u 6 4 0) 6 3).toNatClampNeg)) 6 5) = (115 : Int32) then (J6_readOrder_90 (bput (bput u 6 4 0) 6 5 ((bput u 6 4 0) 3 ((bput u 6 4 0) 6 3).toNatClampNeg)) 0) else (if ((bput (bput u 6 4 0) 6 5 ((bput u 6 4 0) 3 ((bput u 6 4 0) 6 3).toNatClampNeg)) 6 5) = (114 : Int32) then (J6_readOrder_90 (bput (bput u 6 4 0) 6 5 ((bput u 6 4 0) 3 ((bput u 6 4 0) 6 3).toNatClampNeg)) 0) else (if ((bput (bput u 6 4 0) 6 5 ((bput u 6 4 0) 3 ((bput u 6 4 0) 6 3).toNatClampNeg)) 6 5) = (98 : Int32) then (J6_readOrder_90 (bput (bput u 6 4 0) 6 5 ((bput u 6 4 0) 3 ((bput u 6 4 0) 6 3).toNatClampNeg)) 0) else (if ((bput (bput u 6 4 0) 6 5 ((bput u 6 4 0) 3 ((bput u 6 4 0) 6 3).toNatClampNeg)) 6 5) = (99 : Int32) then (J6_readOrder_90 (bput (bput u 6 4 0) 6 5 ((bput u 6 4 0) 3 ((bput u 6 4 0) 6 3).toNatClampNeg)) 0) else (0, (bput (bput u 6 4 0) 6 5 ((bput u 6 4 0) 3 ((bput u 6 4 0) 6 3).toNatClampNeg)))))))))
set_option maxHeartbeats 4000000 in
set_option maxRecDepth 100000 in
theorem C6_readOrder (l : Launch) (D : va_G) (cI : ClassId) (q : Nat → Nat) (u : bU) (H0 : Heap) (hq : bInj 7 q) (hP : va_P D vwCl (wM cI q u) H0) (hI : mInv u) : Met l yX6_readOrder wsX6_readOrder ({ frames := 2, cells := 0, slots := 0, locals := 44 }) (bP D [(cI, .int)] H0 [.ref (q 0)]) (bWi D (wM cI q) mInv (bA 7 q H0.size) (F6_readOrder u)) 0 0 (bA 7 q H0.size) := by
  refine Met.ofW (cc := cX6_readOrder) (maxL := 3) (ret := (some .boolean)) (by decide) rfl ?_
  intro p e s m args below meth c s₁ B hml hv
  obtain ⟨rfl, hH, hk⟩ := hv
  subst hH
  have hx := B.exec
  have hb := B.bytes
  have hr := B.returns
  have hts := atoms_spec (ws := wsX6_readOrder) B.pre
  have hown : s.vm.findClass RX6 = some m.cls := findClass_of_methodNamed B.named
  have hlocks := B.notSynchronized
  have hNB := mNB hI
  have hNS := mNS hI
  have hI0 := hI
  have iX6 : ∀ w ∈ wsX60, w ∈ wsX6_readOrder := by decide +kernel
  have hS : va_S (bA 7 q s.heap.size) s.heap s.heap [] := va_S.rf
  have hl := lv_entry ([.ref (q 0)]) (n := 3) (Nat.le_of_ble_eq_true rfl)
  rw [lg_entry_eq]
  generalize (lg_sl ([.ref (q 0)]) ++ List.replicate (3 - (lg_sl ([.ref (q 0)])).length) Slot.unset).toArray = ls at hl ⊢
  have hl : lv_has ls 3 [(0, .ref (q 0))] := hl
  generalize hF : F6_readOrder u = tgt
  have join236 : ∀ (u236 : bU) (y0_236 : Int32) (H : Heap) (locs : List Loc) (ls : Array Slot), (y0_236 = 0 ∨ y0_236 = 1) → lv_has ls 3 [(0, .ref (q 0))] → va_P D vwCl (wM cI q u236) H → mInv u236 → va_S (bA 7 q s.heap.size) s.heap H locs → J6_readOrder_236 u236 y0_236 = tgt → W p l e (headSpec wsX6_readOrder ({ frames := 2, cells := 0, slots := 0, locals := 44 })).room s m ([.ref (q 0)] : List Value).toArray below meth c H locs 0 0 (MQ below (bWi D (wM cI q) mInv (bA 7 q s.heap.size) tgt) ([.ref (q 0)] : List Value).toArray s 0 0 (bA 7 q s.heap.size)) (F0 m 236 ls [.int y0_236, .ref (q 0)]) := by
    intro u236 y0_236 H locs ls hb_y0_236 hl hP hI hS hF
    refine va_put (D := D) (ci := 6) (v := .int y0_236) (ty := .boolean) (C := RX6) (T := TX6) (N := 16) hx hb hts iX6 tyX6 tyX6_ok nmX6 hown hk.1 hP (wM_D hq) hS 0 (wM_0 _ _ _) rfl 10 (by decide) (hts (.fieldLink RX6 141 "BottleLoopModel" "isWhole" "Z") (List.mem_of_getElem? (i := 1) rfl)) (fun _ h9 => h9) rfl (by decide +kernel) (by rcases (hb_y0_236 : y0_236 = 0 ∨ y0_236 = 1) with h9 | h9 <;> rw [h9] <;> decide) (by rcases (hb_y0_236 : y0_236 = 0 ∨ y0_236 = 1) with h9 | h9 <;> rw [h9] <;> decide) (Nat.le_of_ble_eq_true rfl) dX6_readOrder_236 (fun H locs hP _ hS => ?_)
    have hP : va_P D vwCl (wM cI q (bput u236 6 4 y0_236)) H := pM_f4 hP
    have hI_1 : mInv (bput u236 6 4 y0_236) := mInv_sc (k := 4) hI (by decide) (by decide) (by decide)
    refine lv_aload_n hx hb dX6_readOrder_239 rfl (lv_at hl 0 rfl) ?_
    refine va_get (D := D) (ci := 6) (C := RX6) (T := TX6) (N := 16) hx hb hts iX6 hown hk.1 hP 0 (wM_0 _ _ _) rfl 10 (by decide) (hts (.fieldLink RX6 141 "BottleLoopModel" "isWhole" "Z") (List.mem_of_getElem? (i := 1) rfl)) (fun _ h9 => h9) rfl dX6_readOrder_240 ?_
    refine lv_if_eq (tgt := 259) hx hb dX6_readOrder_243 (by decide) (fun c_2 => ?_) (fun c_2 => ?_)
    · refine lv_iconst (v := 0) hx hb dX6_readOrder_259 (by decide) ?_
      exact bret_Wz hx hb hr hP hI_1 hS hlocks dX6_readOrder_260 (Or.inl rfl) (by rw [← hF, J6_readOrder_236, if_pos c_2])
    · refine lv_aload_n hx hb dX6_readOrder_246 rfl (lv_at hl 0 rfl) ?_
      refine lv_bipush (v := 59) hx hb dX6_readOrder_247 (by decide) ?_
      refine bcall_Wi (va_runV (As := [.int 59]) (rest := []) ⟨hx, hb, hml, hown, hts⟩ (C6_sign l D cI q _ _ hq hP hI_1 59) (cwV 1 hts gX6_readOrder_X6_sign rfl rfl rfl ⟨rfl, bd_X6sign⟩ ⟨Nat.le_of_ble_eq_true rfl, Nat.le_of_ble_eq_true rfl⟩) (bPV hk (va_recv hk.1 hP (ci := 6) (q0 := 0) rfl (wM_0 _ _ _))) rfl rfl hl.1 rfl (lv_room (Nat.le_of_ble_eq_true rfl)) dX6_readOrder_249 ⟨Nat.zero_le _, Nat.zero_le _⟩) hS (fun H locs hP hI_3 hS => ?_)
      refine lv_if_eq (tgt := 259) hx hb dX6_readOrder_252 (by decide) (fun c_4 => ?_) (fun c_4 => ?_)
      · refine lv_iconst (v := 0) hx hb dX6_readOrder_259 (by decide) ?_
        exact bret_Wz hx hb hr hP hI_3 hS hlocks dX6_readOrder_260 (Or.inl rfl) (by rw [← hF, J6_readOrder_236, if_neg c_2, if_pos c_4])
      · refine lv_iconst (v := 1) hx hb dX6_readOrder_255 (by decide) ?_
        refine lv_goto (tgt := 260) hx hb dX6_readOrder_256 (by decide) ?_
        exact bret_Wz hx hb hr hP hI_3 hS hlocks dX6_readOrder_260 (Or.inr rfl) (by rw [← hF, J6_readOrder_236, if_neg c_2, if_neg c_4])
  have join225 : ∀ (u225 : bU) (y0_225 : Int32) (H : Heap) (locs : List Loc) (ls : Array Slot), lv_has ls 3 [(0, .ref (q 0))] → va_P D vwCl (wM cI q u225) H → mInv u225 → va_S (bA 7 q s.heap.size) s.heap H locs → J6_readOrder_225 u225 y0_225 = tgt → W p l e (headSpec wsX6_readOrder ({ frames := 2, cells := 0, slots := 0, locals := 44 })).room s m ([.ref (q 0)] : List Value).toArray below meth c H locs 0 0 (MQ below (bWi D (wM cI q) mInv (bA 7 q s.heap.size) tgt) ([.ref (q 0)] : List Value).toArray s 0 0 (bA 7 q s.heap.size)) (F0 m 225 ls [.int y0_225, .ref (q 0), .ref (q 0)]) := by
    intro u225 y0_225 H locs ls hl hP hI hS hF
    refine bcall_Wi (va_runV (As := [.int y0_225]) (rest := [.ref (q 0)]) ⟨hx, hb, hml, hown, hts⟩ (C6_readNumber l D cI q _ _ hq hP hI y0_225) (cwV 1 hts gX6_readOrder_X6_readNumber rfl rfl rfl ⟨rfl, bd_X6readNumber⟩ ⟨Nat.le_of_ble_eq_true rfl, Nat.le_of_ble_eq_true rfl⟩) (bPV hk (va_recv hk.1 hP (ci := 6) (q0 := 0) rfl (wM_0 _ _ _))) rfl rfl hl.1 rfl (lv_room (Nat.le_of_ble_eq_true rfl)) dX6_readOrder_225 ⟨Nat.zero_le _, Nat.zero_le _⟩) hS (fun H locs hP hI_5 hS => ?_)
    refine lv_if_eq (tgt := 235) hx hb dX6_readOrder_228 (by decide) (fun c_6 => ?_) (fun c_6 => ?_)
    · refine lv_iconst (v := 0) hx hb dX6_readOrder_235 (by decide) ?_
      exact join236 _ 0 _ _ _ (Or.inl rfl) (lv_sub hl [0] rfl) hP hI_5 hS (by rw [← hF, J6_readOrder_225, if_pos c_6])
    · refine lv_iconst (v := 1) hx hb dX6_readOrder_231 (by decide) ?_
      refine lv_goto (tgt := 236) hx hb dX6_readOrder_232 (by decide) ?_
      exact join236 _ 1 _ _ _ (Or.inr rfl) (lv_sub hl [0] rfl) hP hI_5 hS (by rw [← hF, J6_readOrder_225, if_neg c_6])
  have join180 : ∀ (u180 : bU) (y0_180 : Int32) (x1_180 : Int32) (H : Heap) (locs : List Loc) (ls : Array Slot), lv_has ls 3 [(0, .ref (q 0)), (1, .int x1_180)] → va_P D vwCl (wM cI q u180) H → mInv u180 → va_S (bA 7 q s.heap.size) s.heap H locs → J6_readOrder_180 u180 y0_180 x1_180 = tgt → W p l e (headSpec wsX6_readOrder ({ frames := 2, cells := 0, slots := 0, locals := 44 })).room s m ([.ref (q 0)] : List Value).toArray below meth c H locs 0 0 (MQ below (bWi D (wM cI q) mInv (bA 7 q s.heap.size) tgt) ([.ref (q 0)] : List Value).toArray s 0 0 (bA 7 q s.heap.size)) (F0 m 180 ls [.int y0_180]) := by
    intro u180 y0_180 x1_180 H locs ls hl hP hI hS hF
    refine lv_istore_n (lv' := [(2, .int y0_180), (0, .ref (q 0)), (1, .int x1_180)]) hx hb dX6_readOrder_180 rfl hl (by decide) rfl (fun ls hl => ?_)
    refine lv_aload_n hx hb dX6_readOrder_181 rfl (lv_at hl 1 rfl) ?_
    refine lv_aload_n hx hb dX6_readOrder_182 rfl (lv_at hl 1 rfl) ?_
    refine va_get (D := D) (ci := 6) (C := RX6) (T := TX6) (N := 16) hx hb hts iX6 hown hk.1 hP 0 (wM_0 _ _ _) rfl 15 (by decide) (hts (.fieldLink RX6 135 "BottleLoopModel" "digit" "I") (List.mem_of_getElem? (i := 6) rfl)) (fun _ h9 => h9) rfl dX6_readOrder_183 ?_
    refine va_put (D := D) (ci := 6) (v := .int (u180 6 9)) (ty := .int) (C := RX6) (T := TX6) (N := 16) hx hb hts iX6 tyX6 tyX6_ok nmX6 hown hk.1 hP (wM_D hq) hS 0 (wM_0 _ _ _) rfl 13 (by decide) (hts (.fieldLink RX6 157 "BottleLoopModel" "other" "I") (List.mem_of_getElem? (i := 8) rfl)) (fun _ h9 => h9) rfl (by decide +kernel) rfl rfl (Nat.le_of_ble_eq_true rfl) dX6_readOrder_186 (fun H locs hP _ hS => ?_)
    have hP : va_P D vwCl (wM cI q (bput u180 6 7 (u180 6 9))) H := pM_f7 hP
    have hI_7 : mInv (bput u180 6 7 (u180 6 9)) := mInv_sc (k := 7) hI (by decide) (by decide) (by decide)
    refine lv_aload_n hx hb dX6_readOrder_189 rfl (lv_at hl 1 rfl) ?_
    refine lv_iload_n hx hb dX6_readOrder_190 rfl (lv_at hl 0 rfl) ?_
    refine lv_if_eq (tgt := 235) hx hb dX6_readOrder_191 (by decide) (fun c_8 => ?_) (fun c_8 => ?_)
    · refine lv_iconst (v := 0) hx hb dX6_readOrder_235 (by decide) ?_
      exact join236 _ 0 _ _ _ (Or.inl rfl) (lv_sub hl [1] rfl) hP hI_7 hS (by rw [← hF, J6_readOrder_180, if_pos c_8])
    · refine lv_aload_n hx hb dX6_readOrder_194 rfl (lv_at hl 1 rfl) ?_
      refine lv_bipush (v := 42) hx hb dX6_readOrder_195 (by decide) ?_
      refine bcall_Wi (va_runV (As := [.int 42]) (rest := [.ref (q 0)]) ⟨hx, hb, hml, hown, hts⟩ (C6_sign l D cI q _ _ hq hP hI_7 42) (cwV 1 hts gX6_readOrder_X6_sign rfl rfl rfl ⟨rfl, bd_X6sign⟩ ⟨Nat.le_of_ble_eq_true rfl, Nat.le_of_ble_eq_true rfl⟩) (bPV hk (va_recv hk.1 hP (ci := 6) (q0 := 0) rfl (wM_0 _ _ _))) rfl rfl hl.1 rfl (lv_room (Nat.le_of_ble_eq_true rfl)) dX6_readOrder_197 ⟨Nat.zero_le _, Nat.zero_le _⟩) hS (fun H locs hP hI_9 hS => ?_)
      refine lv_if_eq (tgt := 235) hx hb dX6_readOrder_200 (by decide) (fun c_10 => ?_) (fun c_10 => ?_)
      · refine lv_iconst (v := 0) hx hb dX6_readOrder_235 (by decide) ?_
        exact join236 _ 0 _ _ _ (Or.inl rfl) (lv_sub hl [1] rfl) hP hI_9 hS (by rw [← hF, J6_readOrder_180, if_neg c_8, if_pos c_10])
      · refine lv_aload_n hx hb dX6_readOrder_203 rfl (lv_at hl 1 rfl) ?_
        refine lv_iload_n hx hb dX6_readOrder_204 rfl (lv_at hl 2 rfl) ?_
        refine lv_if_ne (tgt := 217) hx hb dX6_readOrder_205 (by decide) (fun c_11 => ?_) (fun c_11 => ?_)
        · refine lv_bipush (v := 50) hx hb dX6_readOrder_217 (by decide) ?_
          refine lv_goto (tgt := 225) hx hb dX6_readOrder_219 (by decide) ?_
          exact join225 _ 50 _ _ _ (lv_sub hl [1] rfl) hP hI_9 hS (by rw [← hF, J6_readOrder_180, if_neg c_8, if_neg c_10, if_neg c_11])
        · refine lv_aload_n hx hb dX6_readOrder_208 rfl (lv_at hl 1 rfl) ?_
          refine va_get (D := D) (ci := 6) (C := RX6) (T := TX6) (N := 16) hx hb hts iX6 hown hk.1 hP 0 (wM_0 _ _ _) rfl 11 (by decide) (hts (.fieldLink RX6 145 "BottleLoopModel" "letter" "I") (List.mem_of_getElem? (i := 5) rfl)) (fun _ h9 => h9) rfl dX6_readOrder_209 ?_
          refine lv_bipush (v := 99) hx hb dX6_readOrder_212 (by decide) ?_
          refine lv_icmp_ne (tgt := 222) hx hb dX6_readOrder_214 (by decide) (fun c_12 => ?_) (fun c_12 => ?_)
          · refine lv_sipush (v := 500) hx hb dX6_readOrder_222 (by decide) ?_
            exact join225 _ 500 _ _ _ (lv_sub hl [1] rfl) hP hI_9 hS (by rw [← hF, J6_readOrder_180, if_neg c_8, if_neg c_10, if_pos c_11, if_neg c_12])
          · refine lv_bipush (v := 50) hx hb dX6_readOrder_217 (by decide) ?_
            refine lv_goto (tgt := 225) hx hb dX6_readOrder_219 (by decide) ?_
            exact join225 _ 50 _ _ _ (lv_sub hl [1] rfl) hP hI_9 hS (by rw [← hF, J6_readOrder_180, if_neg c_8, if_neg c_10, if_pos c_11, if_pos c_12])
  have join169 : ∀ (u169 : bU) (y0_169 : Int32) (x1_169 : Int32) (H : Heap) (locs : List Loc) (ls : Array Slot), lv_has ls 3 [(0, .ref (q 0)), (1, .int x1_169)] → va_P D vwCl (wM cI q u169) H → mInv u169 → va_S (bA 7 q s.heap.size) s.heap H locs → J6_readOrder_169 u169 y0_169 x1_169 = tgt → W p l e (headSpec wsX6_readOrder ({ frames := 2, cells := 0, slots := 0, locals := 44 })).room s m ([.ref (q 0)] : List Value).toArray below meth c H locs 0 0 (MQ below (bWi D (wM cI q) mInv (bA 7 q s.heap.size) tgt) ([.ref (q 0)] : List Value).toArray s 0 0 (bA 7 q s.heap.size)) (F0 m 169 ls [.int y0_169, .ref (q 0)]) := by
    intro u169 y0_169 x1_169 H locs ls hl hP hI hS hF
    refine bcall_Wi (va_runV (As := [.int y0_169]) (rest := []) ⟨hx, hb, hml, hown, hts⟩ (C6_digitTo l D cI q _ _ hq hP hI y0_169) (cwV 1 hts gX6_readOrder_X6_digitTo rfl rfl rfl ⟨rfl, bd_X6digitTo⟩ ⟨Nat.le_of_ble_eq_true rfl, Nat.le_of_ble_eq_true rfl⟩) (bPV hk (va_recv hk.1 hP (ci := 6) (q0 := 0) rfl (wM_0 _ _ _))) rfl rfl hl.1 rfl (lv_room (Nat.le_of_ble_eq_true rfl)) dX6_readOrder_169 ⟨Nat.zero_le _, Nat.zero_le _⟩) hS (fun H locs hP hI_13 hS => ?_)
    refine lv_if_eq (tgt := 179) hx hb dX6_readOrder_172 (by decide) (fun c_14 => ?_) (fun c_14 => ?_)
    · refine lv_iconst (v := 0) hx hb dX6_readOrder_179 (by decide) ?_
      exact join180 _ 0 x1_169 _ _ _ (lv_sub hl [0, 1] rfl) hP hI_13 hS (by rw [← hF, J6_readOrder_169, if_pos c_14])
    · refine lv_iconst (v := 1) hx hb dX6_readOrder_175 (by decide) ?_
      refine lv_goto (tgt := 180) hx hb dX6_readOrder_176 (by decide) ?_
      exact join180 _ 1 x1_169 _ _ _ (lv_sub hl [0, 1] rfl) hP hI_13 hS (by rw [← hF, J6_readOrder_169, if_neg c_14])
  have join139 : ∀ (u139 : bU) (y0_139 : Int32) (x1_139 : Int32) (H : Heap) (locs : List Loc) (ls : Array Slot), lv_has ls 3 [(0, .ref (q 0)), (1, .int x1_139)] → va_P D vwCl (wM cI q u139) H → mInv u139 → va_S (bA 7 q s.heap.size) s.heap H locs → J6_readOrder_139 u139 y0_139 x1_139 = tgt → W p l e (headSpec wsX6_readOrder ({ frames := 2, cells := 0, slots := 0, locals := 44 })).room s m ([.ref (q 0)] : List Value).toArray below meth c H locs 0 0 (MQ below (bWi D (wM cI q) mInv (bA 7 q s.heap.size) tgt) ([.ref (q 0)] : List Value).toArray s 0 0 (bA 7 q s.heap.size)) (F0 m 139 ls [.int y0_139, .ref (q 0)]) := by
    intro u139 y0_139 x1_139 H locs ls hl hP hI hS hF
    refine bcall_Wi (va_runV (As := [.int y0_139]) (rest := []) ⟨hx, hb, hml, hown, hts⟩ (C6_sign l D cI q _ _ hq hP hI y0_139) (cwV 1 hts gX6_readOrder_X6_sign rfl rfl rfl ⟨rfl, bd_X6sign⟩ ⟨Nat.le_of_ble_eq_true rfl, Nat.le_of_ble_eq_true rfl⟩) (bPV hk (va_recv hk.1 hP (ci := 6) (q0 := 0) rfl (wM_0 _ _ _))) rfl rfl hl.1 rfl (lv_room (Nat.le_of_ble_eq_true rfl)) dX6_readOrder_139 ⟨Nat.zero_le _, Nat.zero_le _⟩) hS (fun H locs hP hI_15 hS => ?_)
    refine lv_if_eq (tgt := 179) hx hb dX6_readOrder_142 (by decide) (fun c_16 => ?_) (fun c_16 => ?_)
    · refine lv_iconst (v := 0) hx hb dX6_readOrder_179 (by decide) ?_
      exact join180 _ 0 x1_139 _ _ _ (lv_sub hl [0, 1] rfl) hP hI_15 hS (by rw [← hF, J6_readOrder_139, if_pos c_16])
    · refine lv_aload_n hx hb dX6_readOrder_145 rfl (lv_at hl 0 rfl) ?_
      refine lv_iload_n hx hb dX6_readOrder_146 rfl (lv_at hl 1 rfl) ?_
      refine lv_if_eq (tgt := 154) hx hb dX6_readOrder_147 (by decide) (fun c_17 => ?_) (fun c_17 => ?_)
      · refine lv_aload_n hx hb dX6_readOrder_154 rfl (lv_at hl 0 rfl) ?_
        refine va_get (D := D) (ci := 6) (C := RX6) (T := TX6) (N := 16) hx hb hts iX6 hown hk.1 hP 0 (wM_0 _ _ _) rfl 11 (by decide) (hts (.fieldLink RX6 145 "BottleLoopModel" "letter" "I") (List.mem_of_getElem? (i := 5) rfl)) (fun _ h9 => h9) rfl dX6_readOrder_155 ?_
        refine lv_bipush (v := 99) hx hb dX6_readOrder_158 (by decide) ?_
        refine lv_icmp_ne (tgt := 167) hx hb dX6_readOrder_160 (by decide) (fun c_18 => ?_) (fun c_18 => ?_)
        · refine lv_bipush (v := 7) hx hb dX6_readOrder_167 (by decide) ?_
          exact join169 _ 7 x1_139 _ _ _ (lv_sub hl [0, 1] rfl) hP hI_15 hS (by rw [← hF, J6_readOrder_139, if_neg c_16, if_pos c_17, if_neg c_18])
        · refine lv_iconst (v := 2) hx hb dX6_readOrder_163 (by decide) ?_
          refine lv_goto (tgt := 169) hx hb dX6_readOrder_164 (by decide) ?_
          exact join169 _ 2 x1_139 _ _ _ (lv_sub hl [0, 1] rfl) hP hI_15 hS (by rw [← hF, J6_readOrder_139, if_neg c_16, if_pos c_17, if_pos c_18])
      · refine lv_iconst (v := 5) hx hb dX6_readOrder_150 (by decide) ?_
        refine lv_goto (tgt := 169) hx hb dX6_readOrder_151 (by decide) ?_
        exact join169 _ 5 x1_139 _ _ _ (lv_sub hl [0, 1] rfl) hP hI_15 hS (by rw [← hF, J6_readOrder_139, if_neg c_16, if_neg c_17])
  have join111 : ∀ (u111 : bU) (y0_111 : Int32) (x1_111 : Int32) (H : Heap) (locs : List Loc) (ls : Array Slot), lv_has ls 3 [(0, .ref (q 0)), (1, .int x1_111)] → va_P D vwCl (wM cI q u111) H → mInv u111 → va_S (bA 7 q s.heap.size) s.heap H locs → J6_readOrder_111 u111 y0_111 x1_111 = tgt → W p l e (headSpec wsX6_readOrder ({ frames := 2, cells := 0, slots := 0, locals := 44 })).room s m ([.ref (q 0)] : List Value).toArray below meth c H locs 0 0 (MQ below (bWi D (wM cI q) mInv (bA 7 q s.heap.size) tgt) ([.ref (q 0)] : List Value).toArray s 0 0 (bA 7 q s.heap.size)) (F0 m 111 ls [.int y0_111, .ref (q 0)]) := by
    intro u111 y0_111 x1_111 H locs ls hl hP hI hS hF
    refine bcall_Wi (va_runV (As := [.int y0_111]) (rest := []) ⟨hx, hb, hml, hown, hts⟩ (C6_digitTo l D cI q _ _ hq hP hI y0_111) (cwV 1 hts gX6_readOrder_X6_digitTo rfl rfl rfl ⟨rfl, bd_X6digitTo⟩ ⟨Nat.le_of_ble_eq_true rfl, Nat.le_of_ble_eq_true rfl⟩) (bPV hk (va_recv hk.1 hP (ci := 6) (q0 := 0) rfl (wM_0 _ _ _))) rfl rfl hl.1 rfl (lv_room (Nat.le_of_ble_eq_true rfl)) dX6_readOrder_111 ⟨Nat.zero_le _, Nat.zero_le _⟩) hS (fun H locs hP hI_19 hS => ?_)
    refine lv_istore_n (lv' := [(2, .int (F6_digitTo u111 y0_111).1), (0, .ref (q 0)), (1, .int x1_111)]) hx hb dX6_readOrder_114 rfl hl (by decide) rfl (fun ls hl => ?_)
    refine lv_aload_n hx hb dX6_readOrder_115 rfl (lv_at hl 1 rfl) ?_
    refine lv_aload_n hx hb dX6_readOrder_116 rfl (lv_at hl 1 rfl) ?_
    refine va_get (D := D) (ci := 6) (C := RX6) (T := TX6) (N := 16) hx hb hts iX6 hown hk.1 hP 0 (wM_0 _ _ _) rfl 15 (by decide) (hts (.fieldLink RX6 135 "BottleLoopModel" "digit" "I") (List.mem_of_getElem? (i := 6) rfl)) (fun _ h9 => h9) rfl dX6_readOrder_117 ?_
    refine va_put (D := D) (ci := 6) (v := .int ((F6_digitTo u111 y0_111).2 6 9)) (ty := .int) (C := RX6) (T := TX6) (N := 16) hx hb hts iX6 tyX6 tyX6_ok nmX6 hown hk.1 hP (wM_D hq) hS 0 (wM_0 _ _ _) rfl 12 (by decide) (hts (.fieldLink RX6 151 "BottleLoopModel" "one" "I") (List.mem_of_getElem? (i := 7) rfl)) (fun _ h9 => h9) rfl (by decide +kernel) rfl rfl (Nat.le_of_ble_eq_true rfl) dX6_readOrder_120 (fun H locs hP _ hS => ?_)
    have hP : va_P D vwCl (wM cI q (bput (F6_digitTo u111 y0_111).2 6 6 ((F6_digitTo u111 y0_111).2 6 9))) H := pM_f6 hP
    have hI_20 : mInv (bput (F6_digitTo u111 y0_111).2 6 6 ((F6_digitTo u111 y0_111).2 6 9)) := mInv_sc (k := 6) hI_19 (by decide) (by decide) (by decide)
    refine lv_iload_n hx hb dX6_readOrder_123 rfl (lv_at hl 0 rfl) ?_
    refine lv_if_eq (tgt := 179) hx hb dX6_readOrder_124 (by decide) (fun c_21 => ?_) (fun c_21 => ?_)
    · refine lv_iconst (v := 0) hx hb dX6_readOrder_179 (by decide) ?_
      exact join180 _ 0 x1_111 _ _ _ (lv_sub hl [1, 2] rfl) hP hI_20 hS (by rw [← hF, J6_readOrder_111, if_pos c_21])
    · refine lv_aload_n hx hb dX6_readOrder_127 rfl (lv_at hl 1 rfl) ?_
      refine lv_iload_n hx hb dX6_readOrder_128 rfl (lv_at hl 2 rfl) ?_
      refine lv_if_eq (tgt := 137) hx hb dX6_readOrder_129 (by decide) (fun c_22 => ?_) (fun c_22 => ?_)
      · refine lv_bipush (v := 58) hx hb dX6_readOrder_137 (by decide) ?_
        exact join139 _ 58 x1_111 _ _ _ (lv_sub hl [1, 2] rfl) hP hI_20 hS (by rw [← hF, J6_readOrder_111, if_neg c_21, if_pos c_22])
      · refine lv_bipush (v := 62) hx hb dX6_readOrder_132 (by decide) ?_
        refine lv_goto (tgt := 139) hx hb dX6_readOrder_134 (by decide) ?_
        exact join139 _ 62 x1_111 _ _ _ (lv_sub hl [1, 2] rfl) hP hI_20 hS (by rw [← hF, J6_readOrder_111, if_neg c_21, if_neg c_22])
  have join90 : ∀ (u90 : bU) (x1_90 : Int32) (H : Heap) (locs : List Loc) (ls : Array Slot), (¬(u90 6 1) ≤ (u90 6 3)) → lv_has ls 3 [(0, .ref (q 0)), (1, .int x1_90)] → va_P D vwCl (wM cI q u90) H → mInv u90 → va_S (bA 7 q s.heap.size) s.heap H locs → J6_readOrder_90 u90 x1_90 = tgt → W p l e (headSpec wsX6_readOrder ({ frames := 2, cells := 0, slots := 0, locals := 44 })).room s m ([.ref (q 0)] : List Value).toArray below meth c H locs 0 0 (MQ below (bWi D (wM cI q) mInv (bA 7 q s.heap.size) tgt) ([.ref (q 0)] : List Value).toArray s 0 0 (bA 7 q s.heap.size)) (F0 m 90 ls []) := by
    intro u90 x1_90 H locs ls hpl hl hP hI hS hF
    refine lv_aload_n hx hb dX6_readOrder_90 rfl (lv_at hl 0 rfl) ?_
    refine lv_dup hx hb dX6_readOrder_91 rfl ?_
    refine va_get (D := D) (ci := 6) (C := RX6) (T := TX6) (N := 16) hx hb hts iX6 hown hk.1 hP 0 (wM_0 _ _ _) rfl 9 (by decide) (hts (.fieldLink RX6 132 "BottleLoopModel" "place" "I") (List.mem_of_getElem? (i := 2) rfl)) (fun _ h9 => h9) rfl dX6_readOrder_92 ?_
    refine lv_iconst (v := 1) hx hb dX6_readOrder_95 (by decide) ?_
    refine lv_iadd hx hb dX6_readOrder_96 ?_
    refine va_put (D := D) (ci := 6) (v := .int ((u90 6 3) + 1)) (ty := .int) (C := RX6) (T := TX6) (N := 16) hx hb hts iX6 tyX6 tyX6_ok nmX6 hown hk.1 hP (wM_D hq) hS 0 (wM_0 _ _ _) rfl 9 (by decide) (hts (.fieldLink RX6 132 "BottleLoopModel" "place" "I") (List.mem_of_getElem? (i := 2) rfl)) (fun _ h9 => h9) rfl (by decide +kernel) rfl rfl (Nat.le_of_ble_eq_true rfl) dX6_readOrder_97 (fun H locs hP _ hS => ?_)
    have hP : va_P D vwCl (wM cI q (bput u90 6 3 ((u90 6 3) + 1))) H := pM_f3 hP
    have hI_23 : mInv (bput u90 6 3 ((u90 6 3) + 1)) := mInv_pl1 hI hpl
    refine lv_aload_n hx hb dX6_readOrder_100 rfl (lv_at hl 0 rfl) ?_
    refine lv_iload_n hx hb dX6_readOrder_101 rfl (lv_at hl 1 rfl) ?_
    refine lv_if_eq (tgt := 110) hx hb dX6_readOrder_102 (by decide) (fun c_24 => ?_) (fun c_24 => ?_)
    · refine lv_iconst (v := 5) hx hb dX6_readOrder_110 (by decide) ?_
      exact join111 _ 5 x1_90 _ _ _ (lv_sub hl [0, 1] rfl) hP hI_23 hS (by rw [← hF, J6_readOrder_90, if_pos c_24])
    · refine lv_bipush (v := 7) hx hb dX6_readOrder_105 (by decide) ?_
      refine lv_goto (tgt := 111) hx hb dX6_readOrder_107 (by decide) ?_
      exact join111 _ 7 x1_90 _ _ _ (lv_sub hl [0, 1] rfl) hP hI_23 hS (by rw [← hF, J6_readOrder_90, if_neg c_24])
  refine lv_aload_n hx hb dX6_readOrder_0 rfl (lv_at hl 0 rfl) ?_
  refine lv_iconst (v := 0) hx hb dX6_readOrder_1 (by decide) ?_
  refine va_put (D := D) (ci := 6) (v := .int 0) (ty := .boolean) (C := RX6) (T := TX6) (N := 16) hx hb hts iX6 tyX6 tyX6_ok nmX6 hown hk.1 hP (wM_D hq) hS 0 (wM_0 _ _ _) rfl 10 (by decide) (hts (.fieldLink RX6 141 "BottleLoopModel" "isWhole" "Z") (List.mem_of_getElem? (i := 1) rfl)) (fun _ h9 => h9) rfl (by decide +kernel) (by rcases ((Or.inl rfl) : (0 : Int32) = 0 ∨ (0 : Int32) = 1) with h9 | h9 <;> rw [h9] <;> decide) (by rcases ((Or.inl rfl) : (0 : Int32) = 0 ∨ (0 : Int32) = 1) with h9 | h9 <;> rw [h9] <;> decide) (Nat.le_of_ble_eq_true rfl) dX6_readOrder_2 (fun H locs hP _ hS => ?_)
  have hP : va_P D vwCl (wM cI q (bput u 6 4 0)) H := pM_f4 hP
  have hI_25 : mInv (bput u 6 4 0) := mInv_sc (k := 4) hI (by decide) (by decide) (by decide)
  refine lv_aload_n hx hb dX6_readOrder_5 rfl (lv_at hl 0 rfl) ?_
  refine lv_aload_n hx hb dX6_readOrder_6 rfl (lv_at hl 0 rfl) ?_
  refine va_get (D := D) (ci := 6) (C := RX6) (T := TX6) (N := 16) hx hb hts iX6 hown hk.1 hP 0 (wM_0 _ _ _) rfl 9 (by decide) (hts (.fieldLink RX6 132 "BottleLoopModel" "place" "I") (List.mem_of_getElem? (i := 2) rfl)) (fun _ h9 => h9) rfl dX6_readOrder_7 ?_
  refine lv_aload_n hx hb dX6_readOrder_10 rfl (lv_at hl 0 rfl) ?_
  refine va_get (D := D) (ci := 6) (C := RX6) (T := TX6) (N := 16) hx hb hts iX6 hown hk.1 hP 0 (wM_0 _ _ _) rfl 5 (by decide) (hts (.fieldLink RX6 129 "BottleLoopModel" "length" "I") (List.mem_of_getElem? (i := 3) rfl)) (fun _ h9 => h9) rfl dX6_readOrder_11 ?_
  refine lv_icmp_ge (tgt := 29) hx hb dX6_readOrder_14 (by decide) (fun c_26 => ?_) (fun c_26 => ?_)
  · refine lv_iconst (v := 0) hx hb dX6_readOrder_29 (by decide) ?_
    refine va_put (D := D) (ci := 6) (v := .int 0) (ty := .int) (C := RX6) (T := TX6) (N := 16) hx hb hts iX6 tyX6 tyX6_ok nmX6 hown hk.1 hP (wM_D hq) hS 0 (wM_0 _ _ _) rfl 11 (by decide) (hts (.fieldLink RX6 145 "BottleLoopModel" "letter" "I") (List.mem_of_getElem? (i := 5) rfl)) (fun _ h9 => h9) rfl (by decide +kernel) rfl rfl (Nat.le_of_ble_eq_true rfl) dX6_readOrder_30 (fun H locs hP _ hS => ?_)
    have hP : va_P D vwCl (wM cI q (bput (bput u 6 4 0) 6 5 0)) H := pM_f5 hP
    have hI_27 : mInv (bput (bput u 6 4 0) 6 5 0) := mInv_sc (k := 5) hI_25 (by decide) (by decide) (by decide)
    refine lv_aload_n hx hb dX6_readOrder_33 rfl (lv_at hl 0 rfl) ?_
    refine va_get (D := D) (ci := 6) (C := RX6) (T := TX6) (N := 16) hx hb hts iX6 hown hk.1 hP 0 (wM_0 _ _ _) rfl 11 (by decide) (hts (.fieldLink RX6 145 "BottleLoopModel" "letter" "I") (List.mem_of_getElem? (i := 5) rfl)) (fun _ h9 => h9) rfl dX6_readOrder_34 ?_
    refine lv_topi (fun z9 hz9 => ?_)
    obtain rfl : z9 = 0 := hz9.trans rfl
    refine lv_bipush (v := 100) hx hb dX6_readOrder_37 (by decide) ?_
    refine lv_icmp_ne (tgt := 46) hx hb dX6_readOrder_39 (by decide) (fun _ => ?_) (fun h9 => absurd h9 (by decide))
    refine lv_iconst (v := 0) hx hb dX6_readOrder_46 (by decide) ?_
    refine lv_istore_n (lv' := [(1, .int 0), (0, .ref (q 0))]) hx hb dX6_readOrder_47 rfl hl (by decide) rfl (fun ls hl => ?_)
    refine lv_iload_n hx hb dX6_readOrder_48 rfl (lv_at hl 0 rfl) ?_
    refine lv_if_ne (tgt := 90) hx hb dX6_readOrder_49 (by decide) (fun h9 => absurd (by decide) h9) (fun _ => ?_)
    refine lv_aload_n hx hb dX6_readOrder_52 rfl (lv_at hl 1 rfl) ?_
    refine va_get (D := D) (ci := 6) (C := RX6) (T := TX6) (N := 16) hx hb hts iX6 hown hk.1 hP 0 (wM_0 _ _ _) rfl 11 (by decide) (hts (.fieldLink RX6 145 "BottleLoopModel" "letter" "I") (List.mem_of_getElem? (i := 5) rfl)) (fun _ h9 => h9) rfl dX6_readOrder_53 ?_
    refine lv_topi (fun z9 hz9 => ?_)
    obtain rfl : z9 = 0 := hz9.trans rfl
    refine lv_bipush (v := 115) hx hb dX6_readOrder_56 (by decide) ?_
    refine lv_icmp_eq (tgt := 90) hx hb dX6_readOrder_58 (by decide) (fun h9 => absurd h9 (by decide)) (fun _ => ?_)
    refine lv_aload_n hx hb dX6_readOrder_61 rfl (lv_at hl 1 rfl) ?_
    refine va_get (D := D) (ci := 6) (C := RX6) (T := TX6) (N := 16) hx hb hts iX6 hown hk.1 hP 0 (wM_0 _ _ _) rfl 11 (by decide) (hts (.fieldLink RX6 145 "BottleLoopModel" "letter" "I") (List.mem_of_getElem? (i := 5) rfl)) (fun _ h9 => h9) rfl dX6_readOrder_62 ?_
    refine lv_topi (fun z9 hz9 => ?_)
    obtain rfl : z9 = 0 := hz9.trans rfl
    refine lv_bipush (v := 114) hx hb dX6_readOrder_65 (by decide) ?_
    refine lv_icmp_eq (tgt := 90) hx hb dX6_readOrder_67 (by decide) (fun h9 => absurd h9 (by decide)) (fun _ => ?_)
    refine lv_aload_n hx hb dX6_readOrder_70 rfl (lv_at hl 1 rfl) ?_
    refine va_get (D := D) (ci := 6) (C := RX6) (T := TX6) (N := 16) hx hb hts iX6 hown hk.1 hP 0 (wM_0 _ _ _) rfl 11 (by decide) (hts (.fieldLink RX6 145 "BottleLoopModel" "letter" "I") (List.mem_of_getElem? (i := 5) rfl)) (fun _ h9 => h9) rfl dX6_readOrder_71 ?_
    refine lv_topi (fun z9 hz9 => ?_)
    obtain rfl : z9 = 0 := hz9.trans rfl
    refine lv_bipush (v := 98) hx hb dX6_readOrder_74 (by decide) ?_
    refine lv_icmp_eq (tgt := 90) hx hb dX6_readOrder_76 (by decide) (fun h9 => absurd h9 (by decide)) (fun _ => ?_)
    refine lv_aload_n hx hb dX6_readOrder_79 rfl (lv_at hl 1 rfl) ?_
    refine va_get (D := D) (ci := 6) (C := RX6) (T := TX6) (N := 16) hx hb hts iX6 hown hk.1 hP 0 (wM_0 _ _ _) rfl 11 (by decide) (hts (.fieldLink RX6 145 "BottleLoopModel" "letter" "I") (List.mem_of_getElem? (i := 5) rfl)) (fun _ h9 => h9) rfl dX6_readOrder_80 ?_
    refine lv_topi (fun z9 hz9 => ?_)
    obtain rfl : z9 = 0 := hz9.trans rfl
    refine lv_bipush (v := 99) hx hb dX6_readOrder_83 (by decide) ?_
    refine lv_icmp_eq (tgt := 90) hx hb dX6_readOrder_85 (by decide) (fun h9 => absurd h9 (by decide)) (fun _ => ?_)
    refine lv_iconst (v := 0) hx hb dX6_readOrder_88 (by decide) ?_
    exact bret_Wz hx hb hr hP hI_27 hS hlocks dX6_readOrder_89 (Or.inl rfl) (by rw [← hF, F6_readOrder, if_pos c_26])
  · refine lv_aload_n hx hb dX6_readOrder_17 rfl (lv_at hl 0 rfl) ?_
    refine va_get (D := D) (ci := 6) (C := RX6) (T := TX6) (N := 16) hx hb hts iX6 hown hk.1 hP 0 (wM_0 _ _ _) rfl 4 (by decide) (hts (.fieldLink RX6 19 "BottleLoopModel" "text" "[I") (List.mem_of_getElem? (i := 4) rfl)) (fun _ h9 => h9) rfl dX6_readOrder_18 ?_
    refine lv_aload_n hx hb dX6_readOrder_21 rfl (lv_at hl 0 rfl) ?_
    refine va_get (D := D) (ci := 6) (C := RX6) (T := TX6) (N := 16) hx hb hts iX6 hown hk.1 hP 0 (wM_0 _ _ _) rfl 9 (by decide) (hts (.fieldLink RX6 132 "BottleLoopModel" "place" "I") (List.mem_of_getElem? (i := 2) rfl)) (fun _ h9 => h9) rfl dX6_readOrder_22 ?_
    refine va_iald hx hb hk.1 hP 4 0 (wM_4 _ _ _) rfl (mXpl hI_25 c_26) dX6_readOrder_25 ?_
    refine lv_goto (tgt := 30) hx hb dX6_readOrder_26 (by decide) ?_
    refine va_put (D := D) (ci := 6) (v := .int ((bput u 6 4 0) 3 ((bput u 6 4 0) 6 3).toNatClampNeg)) (ty := .int) (C := RX6) (T := TX6) (N := 16) hx hb hts iX6 tyX6 tyX6_ok nmX6 hown hk.1 hP (wM_D hq) hS 0 (wM_0 _ _ _) rfl 11 (by decide) (hts (.fieldLink RX6 145 "BottleLoopModel" "letter" "I") (List.mem_of_getElem? (i := 5) rfl)) (fun _ h9 => h9) rfl (by decide +kernel) rfl rfl (Nat.le_of_ble_eq_true rfl) dX6_readOrder_30 (fun H locs hP _ hS => ?_)
    have hP : va_P D vwCl (wM cI q (bput (bput u 6 4 0) 6 5 ((bput u 6 4 0) 3 ((bput u 6 4 0) 6 3).toNatClampNeg))) H := pM_f5 hP
    have hI_28 : mInv (bput (bput u 6 4 0) 6 5 ((bput u 6 4 0) 3 ((bput u 6 4 0) 6 3).toNatClampNeg)) := mInv_sc (k := 5) hI_25 (by decide) (by decide) (by decide)
    refine lv_aload_n hx hb dX6_readOrder_33 rfl (lv_at hl 0 rfl) ?_
    refine va_get (D := D) (ci := 6) (C := RX6) (T := TX6) (N := 16) hx hb hts iX6 hown hk.1 hP 0 (wM_0 _ _ _) rfl 11 (by decide) (hts (.fieldLink RX6 145 "BottleLoopModel" "letter" "I") (List.mem_of_getElem? (i := 5) rfl)) (fun _ h9 => h9) rfl dX6_readOrder_34 ?_
    refine lv_bipush (v := 100) hx hb dX6_readOrder_37 (by decide) ?_
    refine lv_icmp_ne (tgt := 46) hx hb dX6_readOrder_39 (by decide) (fun c_29 => ?_) (fun c_29 => ?_)
    · refine lv_iconst (v := 0) hx hb dX6_readOrder_46 (by decide) ?_
      refine lv_istore_n (lv' := [(1, .int 0), (0, .ref (q 0))]) hx hb dX6_readOrder_47 rfl hl (by decide) rfl (fun ls hl => ?_)
      refine lv_iload_n hx hb dX6_readOrder_48 rfl (lv_at hl 0 rfl) ?_
      refine lv_if_ne (tgt := 90) hx hb dX6_readOrder_49 (by decide) (fun h9 => absurd (by decide) h9) (fun _ => ?_)
      refine lv_aload_n hx hb dX6_readOrder_52 rfl (lv_at hl 1 rfl) ?_
      refine va_get (D := D) (ci := 6) (C := RX6) (T := TX6) (N := 16) hx hb hts iX6 hown hk.1 hP 0 (wM_0 _ _ _) rfl 11 (by decide) (hts (.fieldLink RX6 145 "BottleLoopModel" "letter" "I") (List.mem_of_getElem? (i := 5) rfl)) (fun _ h9 => h9) rfl dX6_readOrder_53 ?_
      refine lv_bipush (v := 115) hx hb dX6_readOrder_56 (by decide) ?_
      refine lv_icmp_eq (tgt := 90) hx hb dX6_readOrder_58 (by decide) (fun c_30 => ?_) (fun c_30 => ?_)
      · exact join90 _ 0 _ _ _ c_26 (lv_sub hl [1, 0] rfl) hP hI_28 hS (by rw [← hF, F6_readOrder, if_neg c_26, if_neg c_29, if_pos c_30])
      · refine lv_aload_n hx hb dX6_readOrder_61 rfl (lv_at hl 1 rfl) ?_
        refine va_get (D := D) (ci := 6) (C := RX6) (T := TX6) (N := 16) hx hb hts iX6 hown hk.1 hP 0 (wM_0 _ _ _) rfl 11 (by decide) (hts (.fieldLink RX6 145 "BottleLoopModel" "letter" "I") (List.mem_of_getElem? (i := 5) rfl)) (fun _ h9 => h9) rfl dX6_readOrder_62 ?_
        refine lv_bipush (v := 114) hx hb dX6_readOrder_65 (by decide) ?_
        refine lv_icmp_eq (tgt := 90) hx hb dX6_readOrder_67 (by decide) (fun c_31 => ?_) (fun c_31 => ?_)
        · exact join90 _ 0 _ _ _ c_26 (lv_sub hl [1, 0] rfl) hP hI_28 hS (by rw [← hF, F6_readOrder, if_neg c_26, if_neg c_29, if_neg c_30, if_pos c_31])
        · refine lv_aload_n hx hb dX6_readOrder_70 rfl (lv_at hl 1 rfl) ?_
          refine va_get (D := D) (ci := 6) (C := RX6) (T := TX6) (N := 16) hx hb hts iX6 hown hk.1 hP 0 (wM_0 _ _ _) rfl 11 (by decide) (hts (.fieldLink RX6 145 "BottleLoopModel" "letter" "I") (List.mem_of_getElem? (i := 5) rfl)) (fun _ h9 => h9) rfl dX6_readOrder_71 ?_
          refine lv_bipush (v := 98) hx hb dX6_readOrder_74 (by decide) ?_
          refine lv_icmp_eq (tgt := 90) hx hb dX6_readOrder_76 (by decide) (fun c_32 => ?_) (fun c_32 => ?_)
          · exact join90 _ 0 _ _ _ c_26 (lv_sub hl [1, 0] rfl) hP hI_28 hS (by rw [← hF, F6_readOrder, if_neg c_26, if_neg c_29, if_neg c_30, if_neg c_31, if_pos c_32])
          · refine lv_aload_n hx hb dX6_readOrder_79 rfl (lv_at hl 1 rfl) ?_
            refine va_get (D := D) (ci := 6) (C := RX6) (T := TX6) (N := 16) hx hb hts iX6 hown hk.1 hP 0 (wM_0 _ _ _) rfl 11 (by decide) (hts (.fieldLink RX6 145 "BottleLoopModel" "letter" "I") (List.mem_of_getElem? (i := 5) rfl)) (fun _ h9 => h9) rfl dX6_readOrder_80 ?_
            refine lv_bipush (v := 99) hx hb dX6_readOrder_83 (by decide) ?_
            refine lv_icmp_eq (tgt := 90) hx hb dX6_readOrder_85 (by decide) (fun c_33 => ?_) (fun c_33 => ?_)
            · exact join90 _ 0 _ _ _ c_26 (lv_sub hl [1, 0] rfl) hP hI_28 hS (by rw [← hF, F6_readOrder, if_neg c_26, if_neg c_29, if_neg c_30, if_neg c_31, if_neg c_32, if_pos c_33])
            · refine lv_iconst (v := 0) hx hb dX6_readOrder_88 (by decide) ?_
              exact bret_Wz hx hb hr hP hI_28 hS hlocks dX6_readOrder_89 (Or.inl rfl) (by rw [← hF, F6_readOrder, if_neg c_26, if_neg c_29, if_neg c_30, if_neg c_31, if_neg c_32, if_neg c_33])
    · refine lv_iconst (v := 1) hx hb dX6_readOrder_42 (by decide) ?_
      refine lv_goto (tgt := 47) hx hb dX6_readOrder_43 (by decide) ?_
      refine lv_istore_n (lv' := [(1, .int 1), (0, .ref (q 0))]) hx hb dX6_readOrder_47 rfl hl (by decide) rfl (fun ls hl => ?_)
      refine lv_iload_n hx hb dX6_readOrder_48 rfl (lv_at hl 0 rfl) ?_
      refine lv_if_ne (tgt := 90) hx hb dX6_readOrder_49 (by decide) (fun _ => ?_) (fun h9 => absurd h9 (by decide))
      exact join90 _ 1 _ _ _ c_26 (lv_sub hl [1, 0] rfl) hP hI_28 hS (by rw [← hF, F6_readOrder, if_neg c_26, if_pos c_29])
theorem B6_readOrder (u : bU) : (F6_readOrder u).1 = 0 ∨ (F6_readOrder u).1 = 1 := by
  unfold F6_readOrder
  (repeat' split) <;> first | exact Or.inl rfl | exact Or.inr rfl | exact hb_y0_236 | exact (B6_sign (bput u236 6 4 y0_236) 59) | exact (B6_readNumber u225 y0_225) | exact (B6_sign (bput u180 6 7 (u180 6 9)) 42) | exact (B6_digitTo u169 y0_169) | exact (B6_sign u139 y0_139) | exact (B6_digitTo u111 y0_111)
def mRdOk : Nat → Int32 → bU → Prop
  | 0, x, _ => x = 0
  | n + 1, x, u => x = 0 ∨ mRdOk n (F6_readOrder u).1 (F6_readOrder u).2
theorem mRdOk_lt {j : Nat} {x : Int32} {u : bU} (h : mRdOk (61 - j) x u) (c : ¬ x = 0) : j < 61 := by
  rcases Nat.lt_or_ge j 61 with q | q
  · exact q
  · rw [show 61 - j = 0 by omega] at h
    exact absurd h c
theorem mRdOk_step {j : Nat} {x : Int32} {u : bU} (h : mRdOk (61 - j) x u) (c : ¬ x = 0) : mRdOk (61 - (j + 1)) (F6_readOrder u).1 (F6_readOrder u).2 := by
  have q := mRdOk_lt h c
  rw [show 61 - j = (61 - (j + 1)) + 1 by omega] at h
  rcases h with h | h
  · exact absurd h c
  · exact h
def L6_reads_7  : bU → Nat → Nat → Int32 → Int32 × bU
  | u7, 0, _, x1_7 => (x1_7, u7)
  | u7, n7 + 1, j7, x1_7 => (if x1_7 = 0 then (x1_7, u7) else (L6_reads_7 (F6_readOrder u7).2 n7 (j7 + 1) (F6_readOrder u7).1))
def F6_reads (u : bU) : Int32 × bU := (((L6_reads_7 (bput u 6 3 0) (61 + 1) 0 1).2 6 3), (L6_reads_7 (bput u 6 3 0) (61 + 1) 0 1).2)
set_option maxHeartbeats 4000000 in
set_option maxRecDepth 100000 in
theorem C6_reads (l : Launch) (D : va_G) (cI : ClassId) (q : Nat → Nat) (u : bU) (H0 : Heap) (hq : bInj 7 q) (hP : va_P D vwCl (wM cI q u) H0) (hI : mInv u) (hrd : mRdOk 61 1 (bput u 6 3 0)) : Met l yX6_reads wsX6_reads ({ frames := 3, cells := 0, slots := 0, locals := 66 }) (bP D [(cI, .int)] H0 [.ref (q 0)]) (bWi D (wM cI q) mInv (bA 7 q H0.size) (F6_reads u)) 0 0 (bA 7 q H0.size) := by
  refine Met.ofW (cc := cX6_reads) (maxL := 2) (ret := (some .int)) (by decide) rfl ?_
  intro p e s m args below meth c s₁ B hml hv
  obtain ⟨rfl, hH, hk⟩ := hv
  subst hH
  have hx := B.exec
  have hb := B.bytes
  have hr := B.returns
  have hts := atoms_spec (ws := wsX6_reads) B.pre
  have hown : s.vm.findClass RX6 = some m.cls := findClass_of_methodNamed B.named
  have hlocks := B.notSynchronized
  have hNB := mNB hI
  have hNS := mNS hI
  have hI0 := hI
  have iX6 : ∀ w ∈ wsX60, w ∈ wsX6_reads := by decide +kernel
  have hS : va_S (bA 7 q s.heap.size) s.heap s.heap [] := va_S.rf
  have hl := lv_entry ([.ref (q 0)]) (n := 2) (Nat.le_of_ble_eq_true rfl)
  rw [lg_entry_eq]
  generalize (lg_sl ([.ref (q 0)]) ++ List.replicate (2 - (lg_sl ([.ref (q 0)])).length) Slot.unset).toArray = ls at hl ⊢
  have hl : lv_has ls 2 [(0, .ref (q 0))] := hl
  generalize hF : F6_reads u = tgt
  refine lv_aload_n hx hb dX6_reads_0 rfl (lv_at hl 0 rfl) ?_
  refine lv_iconst (v := 0) hx hb dX6_reads_1 (by decide) ?_
  refine va_put (D := D) (ci := 6) (v := .int 0) (ty := .int) (C := RX6) (T := TX6) (N := 16) hx hb hts iX6 tyX6 tyX6_ok nmX6 hown hk.1 hP (wM_D hq) hS 0 (wM_0 _ _ _) rfl 9 (by decide) (hts (.fieldLink RX6 132 "BottleLoopModel" "place" "I") (List.mem_of_getElem? (i := 1) rfl)) (fun _ h9 => h9) rfl (by decide +kernel) rfl rfl (Nat.le_of_ble_eq_true rfl) dX6_reads_2 (fun H locs hP _ hS => ?_)
  have hP : va_P D vwCl (wM cI q (bput u 6 3 0)) H := pM_f3 hP
  have hI_1 : mInv (bput u 6 3 0) := mInv_pl hI (by decide)
  refine lv_iconst (v := 1) hx hb dX6_reads_5 (by decide) ?_
  refine lv_istore_n (lv' := [(1, .int 1), (0, .ref (q 0))]) hx hb dX6_reads_6 rfl hl (by decide) rfl (fun ls hl => ?_)
  have hNB7 := mNB hI_1
  have hNS7 := mNS hI_1
  have loop7 : ∀ (n7 j7 : Nat) (x1_7 : Int32) (u7 : bU) (H : Heap) (locs : List Loc) (ls : Array Slot), j7 ≤ 61 → 61 + 1 ≤ n7 + j7 → mRdOk (61 - j7) x1_7 u7 → lv_has ls 2 [(0, .ref (q 0)), (1, .int x1_7)] → va_P D vwCl (wM cI q u7) H → mInv u7 → va_S (bA 7 q s.heap.size) s.heap H locs → ∀ X : Int32 × bU, L6_reads_7 u7 n7 j7 x1_7 = X → (∀ (H : Heap) (locs : List Loc) (ls : Array Slot), lv_has ls 2 [(0, .ref (q 0)), (1, .int X.1)] → va_P D vwCl (wM cI q X.2) H → mInv X.2 → va_S (bA 7 q s.heap.size) s.heap H locs → W p l e (headSpec wsX6_reads ({ frames := 3, cells := 0, slots := 0, locals := 66 })).room s m ([.ref (q 0)] : List Value).toArray below meth c H locs 0 0 (MQ below (bWi D (wM cI q) mInv (bA 7 q s.heap.size) tgt) ([.ref (q 0)] : List Value).toArray s 0 0 (bA 7 q s.heap.size)) (F0 m 19 ls [])) → W p l e (headSpec wsX6_reads ({ frames := 3, cells := 0, slots := 0, locals := 66 })).room s m ([.ref (q 0)] : List Value).toArray below meth c H locs 0 0 (MQ below (bWi D (wM cI q) mInv (bA 7 q s.heap.size) tgt) ([.ref (q 0)] : List Value).toArray s 0 0 (bA 7 q s.heap.size)) (F0 m 7 ls []) := by
    intro n7
    induction n7 with
    | zero => intro j7 x1_7 u7 H locs ls hj hn; exact absurd hn (by omega)
    | succ n7 ih =>
      intro j7 x1_7 u7 H locs ls hj hn hinv hl hP hI hS X hF kx
      refine lv_iload_n hx hb dX6_reads_7 rfl (lv_at hl 1 rfl) ?_
      refine lv_if_eq (tgt := 19) hx hb dX6_reads_8 (by decide) (fun c_2 => ?_) (fun c_2 => ?_)
      · obtain rfl : X = (x1_7, u7) := by rw [← hF, L6_reads_7, if_pos c_2]
        exact kx _ _ _ (lv_sub hl [0, 1] rfl) hP hI hS
      · have hlt_3 : j7 < 61 := mRdOk_lt hinv c_2
        refine lv_aload_n hx hb dX6_reads_11 rfl (lv_at hl 0 rfl) ?_
        refine bcall_Wi (va_runV (As := []) (rest := []) ⟨hx, hb, hml, hown, hts⟩ (C6_readOrder l D cI q _ _ hq hP hI ) (cwV 0 hts gX6_reads_X6_readOrder rfl rfl rfl ⟨rfl, bd_X6readOrder⟩ ⟨Nat.le_of_ble_eq_true rfl, Nat.le_of_ble_eq_true rfl⟩) (bPV hk (va_recv hk.1 hP (ci := 6) (q0 := 0) rfl (wM_0 _ _ _))) rfl rfl hl.1 rfl (lv_room (Nat.le_of_ble_eq_true rfl)) dX6_reads_12 ⟨Nat.zero_le _, Nat.zero_le _⟩) hS (fun H locs hP hI_4 hS => ?_)
        refine lv_istore_n (lv' := [(1, .int (F6_readOrder u7).1), (0, .ref (q 0))]) hx hb dX6_reads_15 rfl hl (by decide) rfl (fun ls hl => ?_)
        refine lv_goto (tgt := 7) hx hb dX6_reads_16 (by decide) ?_
        exact ih (j7 + 1) (F6_readOrder u7).1 (F6_readOrder u7).2 _ _ _ (by omega) (by omega) (mRdOk_step hinv c_2) (lv_sub hl [1, 0] rfl) hP hI_4 hS X (by rw [← hF, L6_reads_7, if_neg c_2]) kx
  refine loop7 (61 + 1) 0 1 (bput u 6 3 0) _ _ _ (by omega) (by omega) hrd (lv_sub hl [1, 0] rfl) hP hI_1 hS _ rfl (fun H locs ls hl hP hI hS => ?_)
  have hI_5 : mInv (L6_reads_7 (bput u 6 3 0) (61 + 1) 0 1).2 := hI
  refine lv_aload_n hx hb dX6_reads_19 rfl (lv_at hl 0 rfl) ?_
  refine va_get (D := D) (ci := 6) (C := RX6) (T := TX6) (N := 16) hx hb hts iX6 hown hk.1 hP 0 (wM_0 _ _ _) rfl 9 (by decide) (hts (.fieldLink RX6 132 "BottleLoopModel" "place" "I") (List.mem_of_getElem? (i := 1) rfl)) (fun _ h9 => h9) rfl dX6_reads_20 ?_
  exact bret_Wi hx hb hr hP hI_5 hS hlocks dX6_reads_23 (by rw [← hF, F6_reads])
def F6_firstError (u : bU) : Int32 × bU := ((F6_reads (bput u 6 2 0)).1, (F6_reads (bput u 6 2 0)).2)
set_option maxHeartbeats 4000000 in
set_option maxRecDepth 100000 in
theorem C6_firstError (l : Launch) (D : va_G) (cI : ClassId) (q : Nat → Nat) (u : bU) (H0 : Heap) (hq : bInj 7 q) (hP : va_P D vwCl (wM cI q u) H0) (hI : mInv u) (hrd : mRdOk 61 1 (bput (bput u 6 2 0) 6 3 0)) : Met l yX6_firstError wsX6_firstError ({ frames := 4, cells := 0, slots := 0, locals := 87 }) (bP D [(cI, .int)] H0 [.ref (q 0)]) (bWi D (wM cI q) mInv (bA 7 q H0.size) (F6_firstError u)) 0 0 (bA 7 q H0.size) := by
  refine Met.ofW (cc := cX6_firstError) (maxL := 1) (ret := (some .int)) (by decide) rfl ?_
  intro p e s m args below meth c s₁ B hml hv
  obtain ⟨rfl, hH, hk⟩ := hv
  subst hH
  have hx := B.exec
  have hb := B.bytes
  have hr := B.returns
  have hts := atoms_spec (ws := wsX6_firstError) B.pre
  have hown : s.vm.findClass RX6 = some m.cls := findClass_of_methodNamed B.named
  have hlocks := B.notSynchronized
  have hNB := mNB hI
  have hNS := mNS hI
  have hI0 := hI
  have iX6 : ∀ w ∈ wsX60, w ∈ wsX6_firstError := by decide +kernel
  have hS : va_S (bA 7 q s.heap.size) s.heap s.heap [] := va_S.rf
  have hl := lv_entry ([.ref (q 0)]) (n := 1) (Nat.le_of_ble_eq_true rfl)
  rw [lg_entry_eq]
  generalize (lg_sl ([.ref (q 0)]) ++ List.replicate (1 - (lg_sl ([.ref (q 0)])).length) Slot.unset).toArray = ls at hl ⊢
  have hl : lv_has ls 1 [(0, .ref (q 0))] := hl
  generalize hF : F6_firstError u = tgt
  refine lv_aload_n hx hb dX6_firstError_0 rfl (lv_at hl 0 rfl) ?_
  refine lv_iconst (v := 0) hx hb dX6_firstError_1 (by decide) ?_
  refine va_put (D := D) (ci := 6) (v := .int 0) (ty := .int) (C := RX6) (T := TX6) (N := 16) hx hb hts iX6 tyX6 tyX6_ok nmX6 hown hk.1 hP (wM_D hq) hS 0 (wM_0 _ _ _) rfl 6 (by decide) (hts (.fieldLink RX6 28 "BottleLoopModel" "thrown" "I") (List.mem_of_getElem? (i := 1) rfl)) (fun _ h9 => h9) rfl (by decide +kernel) rfl rfl (Nat.le_of_ble_eq_true rfl) dX6_firstError_2 (fun H locs hP _ hS => ?_)
  have hP : va_P D vwCl (wM cI q (bput u 6 2 0)) H := pM_f2 hP
  have hI_1 : mInv (bput u 6 2 0) := mInv_sc (k := 2) hI (by decide) (by decide) (by decide)
  refine lv_aload_n hx hb dX6_firstError_5 rfl (lv_at hl 0 rfl) ?_
  refine bcall_Wi (va_runV (As := []) (rest := []) ⟨hx, hb, hml, hown, hts⟩ (C6_reads l D cI q _ _ hq hP hI_1  hrd) (cwV 0 hts gX6_firstError_X6_reads rfl rfl rfl ⟨rfl, bd_X6reads⟩ ⟨Nat.le_of_ble_eq_true rfl, Nat.le_of_ble_eq_true rfl⟩) (bPV hk (va_recv hk.1 hP (ci := 6) (q0 := 0) rfl (wM_0 _ _ _))) rfl rfl hl.1 rfl (lv_room (Nat.le_of_ble_eq_true rfl)) dX6_firstError_6 ⟨Nat.zero_le _, Nat.zero_le _⟩) hS (fun H locs hP hI_2 hS => ?_)
  exact bret_Wi hx hb hr hP hI_2 hS hlocks dX6_firstError_9 (by rw [← hF, F6_firstError])
theorem bd_X6againstOrder : yX6_againstOrder.cls ≠ "java/lang/invoke/MethodHandle" ∧ yX6_againstOrder.cls ≠ "java/lang/invoke/VarHandle" ∧ (parseMethodDescriptor yX6_againstOrder.desc).map (fun d => d.parameters.length) = some 0 := by decide +kernel
theorem bd_X6doOrder : yX6_doOrder.cls ≠ "java/lang/invoke/MethodHandle" ∧ yX6_doOrder.cls ≠ "java/lang/invoke/VarHandle" ∧ (parseMethodDescriptor yX6_doOrder.desc).map (fun d => d.parameters.length) = some 0 := by decide +kernel
def F6_againstOrder (u : bU) : Int32 := (if (u 6 5) = (100 : Int32) then (if (F6_isShop u (u 6 7)) = 0 then 4 else (if (F6_isBrand u (u 6 6)) = 0 then 4 else (F6_againstDeliver u (u 6 6) (u 6 7) (u 6 8)))) else (if (F6_isShop u (u 6 6)) = 0 then 4 else (if (u 6 5) = (99 : Int32) then (F6_againstCollect u (u 6 6) (u 6 7) (u 6 8)) else (if (F6_isBrand u (u 6 7)) = 0 then 4 else (if (u 6 5) = 98 then (F6_againstBreak u (u 6 6) (u 6 7) (u 6 8)) else (if (u 6 5) = 100 then (F6_againstDeliver u (u 6 7) (u 6 6) (u 6 8)) else (if (u 6 5) = 114 then (F6_againstTakeBack u (u 6 6) (u 6 7) (u 6 8)) else (if (u 6 5) = 115 then (F6_againstSell u (u 6 6) (u 6 7) (u 6 8)) else (F6_againstCollect u (u 6 6) (u 6 7) (u 6 8))))))))))
set_option maxHeartbeats 4000000 in
set_option maxRecDepth 100000 in
theorem C6_againstOrder (l : Launch) (D : va_G) (cI : ClassId) (q : Nat → Nat) (u : bU) (H0 : Heap) (hP : va_P D vwCl (wM cI q u) H0) (hI : mInv u) : Met l yX6_againstOrder wsX6_againstOrder ({ frames := 4, cells := 0, slots := 0, locals := 90 }) (bP D [(cI, .int)] H0 [.ref (q 0)]) (bRi H0 (F6_againstOrder u)) 0 0 (fun _ => False) := by
  refine Met.ofW (cc := cX6_againstOrder) (maxL := 4) (ret := (some .int)) (by decide) rfl ?_
  intro p e s m args below meth c s₁ B hml hv
  obtain ⟨rfl, hH, hk⟩ := hv
  subst hH
  have hx := B.exec
  have hb := B.bytes
  have hr := B.returns
  have hts := atoms_spec (ws := wsX6_againstOrder) B.pre
  have hown : s.vm.findClass RX6 = some m.cls := findClass_of_methodNamed B.named
  have hlocks := B.notSynchronized
  have hNB := mNB hI
  have hNS := mNS hI
  have hI0 := hI
  have iX6 : ∀ w ∈ wsX60, w ∈ wsX6_againstOrder := by decide +kernel
  have hS : va_S (fun _ => False) s.heap s.heap [] := va_S.rf
  have hl := lv_entry ([.ref (q 0)]) (n := 4) (Nat.le_of_ble_eq_true rfl)
  rw [lg_entry_eq]
  generalize (lg_sl ([.ref (q 0)]) ++ List.replicate (4 - (lg_sl ([.ref (q 0)])).length) Slot.unset).toArray = ls at hl ⊢
  have hl : lv_has ls 4 [(0, .ref (q 0))] := hl
  generalize hF : F6_againstOrder u = tgt
  refine lv_aload_n hx hb dX6_againstOrder_0 rfl (lv_at hl 0 rfl) ?_
  refine va_get (D := D) (ci := 6) (C := RX6) (T := TX6) (N := 16) hx hb hts iX6 hown hk.1 hP 0 (wM_0 _ _ _) rfl 11 (by decide) (hts (.fieldLink RX6 145 "BottleLoopModel" "letter" "I") (List.mem_of_getElem? (i := 1) rfl)) (fun _ h9 => h9) rfl dX6_againstOrder_1 ?_
  refine lv_bipush (v := 100) hx hb dX6_againstOrder_4 (by decide) ?_
  refine lv_icmp_ne (tgt := 13) hx hb dX6_againstOrder_6 (by decide) (fun c_1 => ?_) (fun c_1 => ?_)
  · refine lv_iconst (v := 0) hx hb dX6_againstOrder_13 (by decide) ?_
    refine lv_istore_n (lv' := [(1, .int 0), (0, .ref (q 0))]) hx hb dX6_againstOrder_14 rfl hl (by decide) rfl (fun ls hl => ?_)
    refine lv_iload_n hx hb dX6_againstOrder_15 rfl (lv_at hl 0 rfl) ?_
    refine lv_if_eq (tgt := 26) hx hb dX6_againstOrder_16 (by decide) (fun _ => ?_) (fun h9 => absurd (by decide) h9)
    refine lv_aload_n hx hb dX6_againstOrder_26 rfl (lv_at hl 1 rfl) ?_
    refine va_get (D := D) (ci := 6) (C := RX6) (T := TX6) (N := 16) hx hb hts iX6 hown hk.1 hP 0 (wM_0 _ _ _) rfl 12 (by decide) (hts (.fieldLink RX6 151 "BottleLoopModel" "one" "I") (List.mem_of_getElem? (i := 3) rfl)) (fun _ h9 => h9) rfl dX6_againstOrder_27 ?_
    refine lv_istore_n (lv' := [(2, .int (u 6 6)), (1, .int 0), (0, .ref (q 0))]) hx hb dX6_againstOrder_30 rfl hl (by decide) rfl (fun ls hl => ?_)
    refine lv_iload_n hx hb dX6_againstOrder_31 rfl (lv_at hl 1 rfl) ?_
    refine lv_if_eq (tgt := 42) hx hb dX6_againstOrder_32 (by decide) (fun _ => ?_) (fun h9 => absurd (by decide) h9)
    refine lv_aload_n hx hb dX6_againstOrder_42 rfl (lv_at hl 2 rfl) ?_
    refine va_get (D := D) (ci := 6) (C := RX6) (T := TX6) (N := 16) hx hb hts iX6 hown hk.1 hP 0 (wM_0 _ _ _) rfl 13 (by decide) (hts (.fieldLink RX6 157 "BottleLoopModel" "other" "I") (List.mem_of_getElem? (i := 2) rfl)) (fun _ h9 => h9) rfl dX6_againstOrder_43 ?_
    refine lv_istore_n (lv' := [(3, .int (u 6 7)), (2, .int (u 6 6)), (1, .int 0), (0, .ref (q 0))]) hx hb dX6_againstOrder_46 rfl hl (by decide) rfl (fun ls hl => ?_)
    refine lv_aload_n hx hb dX6_againstOrder_47 rfl (lv_at hl 3 rfl) ?_
    refine lv_iload_n hx hb dX6_againstOrder_48 rfl (lv_at hl 1 rfl) ?_
    refine bcall_Ri (va_runV (As := [.int (u 6 6)]) (rest := []) ⟨hx, hb, hml, hown, hts⟩ (C6_isShop l D cI q _ _ hP hI (u 6 6)) (cwV 1 hts gX6_againstOrder_X6_isShop rfl rfl rfl ⟨rfl, bd_X6isShop⟩ ⟨Nat.le_of_ble_eq_true rfl, Nat.le_of_ble_eq_true rfl⟩) (bPV hk (va_recv hk.1 hP (ci := 6) (q0 := 0) rfl (wM_0 _ _ _))) rfl rfl hl.1 rfl (lv_room (Nat.le_of_ble_eq_true rfl)) dX6_againstOrder_49 ⟨Nat.zero_le _, Nat.zero_le _⟩) hS (fun locs hS => ?_)
    refine lv_if_eq (tgt := 72) hx hb dX6_againstOrder_52 (by decide) (fun c_2 => ?_) (fun c_2 => ?_)
    · refine lv_iconst (v := 4) hx hb dX6_againstOrder_72 (by decide) ?_
      exact bret_Ri hx hb hr hS hlocks dX6_againstOrder_73 (by rw [← hF, F6_againstOrder, if_neg c_1, if_pos c_2])
    · have hm_3 : mS (u 6 6) := mS_is hI c_2
      refine lv_aload_n hx hb dX6_againstOrder_55 rfl (lv_at hl 3 rfl) ?_
      refine va_get (D := D) (ci := 6) (C := RX6) (T := TX6) (N := 16) hx hb hts iX6 hown hk.1 hP 0 (wM_0 _ _ _) rfl 11 (by decide) (hts (.fieldLink RX6 145 "BottleLoopModel" "letter" "I") (List.mem_of_getElem? (i := 1) rfl)) (fun _ h9 => h9) rfl dX6_againstOrder_56 ?_
      refine lv_bipush (v := 99) hx hb dX6_againstOrder_59 (by decide) ?_
      refine lv_icmp_eq (tgt := 74) hx hb dX6_againstOrder_61 (by decide) (fun c_4 => ?_) (fun c_4 => ?_)
      · refine lv_aload_n hx hb dX6_againstOrder_74 rfl (lv_at hl 3 rfl) ?_
        refine va_get (D := D) (ci := 6) (C := RX6) (T := TX6) (N := 16) hx hb hts iX6 hown hk.1 hP 0 (wM_0 _ _ _) rfl 11 (by decide) (hts (.fieldLink RX6 145 "BottleLoopModel" "letter" "I") (List.mem_of_getElem? (i := 1) rfl)) (fun _ h9 => h9) rfl dX6_againstOrder_75 ?_
        refine lv_lookup (off := 86) (tgt := 164) hx hb dX6_againstOrder_78 (by decide) (by rw [c_4]; decide) (by decide) ?_
        refine lv_aload_n hx hb dX6_againstOrder_164 rfl (lv_at hl 3 rfl) ?_
        refine lv_iload_n hx hb dX6_againstOrder_165 rfl (lv_at hl 1 rfl) ?_
        refine lv_iload_n hx hb dX6_againstOrder_166 rfl (lv_at hl 0 rfl) ?_
        refine lv_aload_n hx hb dX6_againstOrder_167 rfl (lv_at hl 3 rfl) ?_
        refine va_get (D := D) (ci := 6) (C := RX6) (T := TX6) (N := 16) hx hb hts iX6 hown hk.1 hP 0 (wM_0 _ _ _) rfl 14 (by decide) (hts (.fieldLink RX6 138 "BottleLoopModel" "number" "I") (List.mem_of_getElem? (i := 4) rfl)) (fun _ h9 => h9) rfl dX6_againstOrder_168 ?_
        refine bcall_Ri (va_runV (As := [.int (u 6 6), .int (u 6 7), .int (u 6 8)]) (rest := []) ⟨hx, hb, hml, hown, hts⟩ (C6_againstCollect l D cI q _ _ hP hI (u 6 6) (u 6 7) (u 6 8) hm_3) (cwV 3 hts gX6_againstOrder_X6_againstCollect rfl rfl rfl ⟨rfl, bd_X6againstCollect⟩ ⟨Nat.le_of_ble_eq_true rfl, Nat.le_of_ble_eq_true rfl⟩) (bPV hk (va_recv hk.1 hP (ci := 6) (q0 := 0) rfl (wM_0 _ _ _))) rfl rfl hl.1 rfl (lv_room (Nat.le_of_ble_eq_true rfl)) dX6_againstOrder_171 ⟨Nat.zero_le _, Nat.zero_le _⟩) hS (fun locs hS => ?_)
        exact bret_Ri hx hb hr hS hlocks dX6_againstOrder_174 (by rw [← hF, F6_againstOrder, if_neg c_1, if_neg c_2, if_pos c_4])
      · refine lv_aload_n hx hb dX6_againstOrder_64 rfl (lv_at hl 3 rfl) ?_
        refine lv_iload_n hx hb dX6_againstOrder_65 rfl (lv_at hl 0 rfl) ?_
        refine bcall_Ri (va_runV (As := [.int (u 6 7)]) (rest := []) ⟨hx, hb, hml, hown, hts⟩ (C6_isBrand l D cI q _ _ hP hI (u 6 7)) (cwV 1 hts gX6_againstOrder_X6_isBrand rfl rfl rfl ⟨rfl, bd_X6isBrand⟩ ⟨Nat.le_of_ble_eq_true rfl, Nat.le_of_ble_eq_true rfl⟩) (bPV hk (va_recv hk.1 hP (ci := 6) (q0 := 0) rfl (wM_0 _ _ _))) rfl rfl hl.1 rfl (lv_room (Nat.le_of_ble_eq_true rfl)) dX6_againstOrder_66 ⟨Nat.zero_le _, Nat.zero_le _⟩) hS (fun locs hS => ?_)
        refine lv_if_ne (tgt := 74) hx hb dX6_againstOrder_69 (by decide) (fun c_5 => ?_) (fun c_5 => ?_)
        · have hm_6 : mB (u 6 7) := mB_is hI c_5
          refine lv_aload_n hx hb dX6_againstOrder_74 rfl (lv_at hl 3 rfl) ?_
          refine va_get (D := D) (ci := 6) (C := RX6) (T := TX6) (N := 16) hx hb hts iX6 hown hk.1 hP 0 (wM_0 _ _ _) rfl 11 (by decide) (hts (.fieldLink RX6 145 "BottleLoopModel" "letter" "I") (List.mem_of_getElem? (i := 1) rfl)) (fun _ h9 => h9) rfl dX6_againstOrder_75 ?_
          by_cases c_7 : (u 6 5) = 98
          · refine lv_lookup (off := 75) (tgt := 153) hx hb dX6_againstOrder_78 (by decide) (by rw [c_7]; decide) (by decide) ?_
            refine lv_aload_n hx hb dX6_againstOrder_153 rfl (lv_at hl 3 rfl) ?_
            refine lv_iload_n hx hb dX6_againstOrder_154 rfl (lv_at hl 1 rfl) ?_
            refine lv_iload_n hx hb dX6_againstOrder_155 rfl (lv_at hl 0 rfl) ?_
            refine lv_aload_n hx hb dX6_againstOrder_156 rfl (lv_at hl 3 rfl) ?_
            refine va_get (D := D) (ci := 6) (C := RX6) (T := TX6) (N := 16) hx hb hts iX6 hown hk.1 hP 0 (wM_0 _ _ _) rfl 14 (by decide) (hts (.fieldLink RX6 138 "BottleLoopModel" "number" "I") (List.mem_of_getElem? (i := 4) rfl)) (fun _ h9 => h9) rfl dX6_againstOrder_157 ?_
            refine bcall_Ri (va_runV (As := [.int (u 6 6), .int (u 6 7), .int (u 6 8)]) (rest := []) ⟨hx, hb, hml, hown, hts⟩ (C6_againstBreak l D cI q _ _ hP hI (u 6 6) (u 6 7) (u 6 8) hm_3 hm_6) (cwV 3 hts gX6_againstOrder_X6_againstBreak rfl rfl rfl ⟨rfl, bd_X6againstBreak⟩ ⟨Nat.le_of_ble_eq_true rfl, Nat.le_of_ble_eq_true rfl⟩) (bPV hk (va_recv hk.1 hP (ci := 6) (q0 := 0) rfl (wM_0 _ _ _))) rfl rfl hl.1 rfl (lv_room (Nat.le_of_ble_eq_true rfl)) dX6_againstOrder_160 ⟨Nat.zero_le _, Nat.zero_le _⟩) hS (fun locs hS => ?_)
            exact bret_Ri hx hb hr hS hlocks dX6_againstOrder_163 (by rw [← hF, F6_againstOrder, if_neg c_1, if_neg c_2, if_neg c_4, if_neg c_5, if_pos c_7])
          · by_cases c_8 : (u 6 5) = 100
            · refine lv_lookup (off := 42) (tgt := 120) hx hb dX6_againstOrder_78 (by decide) (by rw [c_8]; decide) (by decide) ?_
              refine lv_aload_n hx hb dX6_againstOrder_120 rfl (lv_at hl 3 rfl) ?_
              refine lv_iload_n hx hb dX6_againstOrder_121 rfl (lv_at hl 0 rfl) ?_
              refine lv_iload_n hx hb dX6_againstOrder_122 rfl (lv_at hl 1 rfl) ?_
              refine lv_aload_n hx hb dX6_againstOrder_123 rfl (lv_at hl 3 rfl) ?_
              refine va_get (D := D) (ci := 6) (C := RX6) (T := TX6) (N := 16) hx hb hts iX6 hown hk.1 hP 0 (wM_0 _ _ _) rfl 14 (by decide) (hts (.fieldLink RX6 138 "BottleLoopModel" "number" "I") (List.mem_of_getElem? (i := 4) rfl)) (fun _ h9 => h9) rfl dX6_againstOrder_124 ?_
              refine bcall_Ri (va_runV (As := [.int (u 6 7), .int (u 6 6), .int (u 6 8)]) (rest := []) ⟨hx, hb, hml, hown, hts⟩ (C6_againstDeliver l D cI q _ _ hP hI (u 6 7) (u 6 6) (u 6 8) hm_6 hm_3) (cwV 3 hts gX6_againstOrder_X6_againstDeliver rfl rfl rfl ⟨rfl, bd_X6againstDeliver⟩ ⟨Nat.le_of_ble_eq_true rfl, Nat.le_of_ble_eq_true rfl⟩) (bPV hk (va_recv hk.1 hP (ci := 6) (q0 := 0) rfl (wM_0 _ _ _))) rfl rfl hl.1 rfl (lv_room (Nat.le_of_ble_eq_true rfl)) dX6_againstOrder_127 ⟨Nat.zero_le _, Nat.zero_le _⟩) hS (fun locs hS => ?_)
              exact bret_Ri hx hb hr hS hlocks dX6_againstOrder_130 (by rw [← hF, F6_againstOrder, if_neg c_1, if_neg c_2, if_neg c_4, if_neg c_5, if_neg c_7, if_pos c_8])
            · by_cases c_9 : (u 6 5) = 114
              · refine lv_lookup (off := 64) (tgt := 142) hx hb dX6_againstOrder_78 (by decide) (by rw [c_9]; decide) (by decide) ?_
                refine lv_aload_n hx hb dX6_againstOrder_142 rfl (lv_at hl 3 rfl) ?_
                refine lv_iload_n hx hb dX6_againstOrder_143 rfl (lv_at hl 1 rfl) ?_
                refine lv_iload_n hx hb dX6_againstOrder_144 rfl (lv_at hl 0 rfl) ?_
                refine lv_aload_n hx hb dX6_againstOrder_145 rfl (lv_at hl 3 rfl) ?_
                refine va_get (D := D) (ci := 6) (C := RX6) (T := TX6) (N := 16) hx hb hts iX6 hown hk.1 hP 0 (wM_0 _ _ _) rfl 14 (by decide) (hts (.fieldLink RX6 138 "BottleLoopModel" "number" "I") (List.mem_of_getElem? (i := 4) rfl)) (fun _ h9 => h9) rfl dX6_againstOrder_146 ?_
                refine bcall_Ri (va_runV (As := [.int (u 6 6), .int (u 6 7), .int (u 6 8)]) (rest := []) ⟨hx, hb, hml, hown, hts⟩ (C6_againstTakeBack l D cI q _ _ hP hI (u 6 6) (u 6 7) (u 6 8) hm_3 hm_6) (cwV 3 hts gX6_againstOrder_X6_againstTakeBack rfl rfl rfl ⟨rfl, bd_X6againstTakeBack⟩ ⟨Nat.le_of_ble_eq_true rfl, Nat.le_of_ble_eq_true rfl⟩) (bPV hk (va_recv hk.1 hP (ci := 6) (q0 := 0) rfl (wM_0 _ _ _))) rfl rfl hl.1 rfl (lv_room (Nat.le_of_ble_eq_true rfl)) dX6_againstOrder_149 ⟨Nat.zero_le _, Nat.zero_le _⟩) hS (fun locs hS => ?_)
                exact bret_Ri hx hb hr hS hlocks dX6_againstOrder_152 (by rw [← hF, F6_againstOrder, if_neg c_1, if_neg c_2, if_neg c_4, if_neg c_5, if_neg c_7, if_neg c_8, if_pos c_9])
              · by_cases c_10 : (u 6 5) = 115
                · refine lv_lookup (off := 53) (tgt := 131) hx hb dX6_againstOrder_78 (by decide) (by rw [c_10]; decide) (by decide) ?_
                  refine lv_aload_n hx hb dX6_againstOrder_131 rfl (lv_at hl 3 rfl) ?_
                  refine lv_iload_n hx hb dX6_againstOrder_132 rfl (lv_at hl 1 rfl) ?_
                  refine lv_iload_n hx hb dX6_againstOrder_133 rfl (lv_at hl 0 rfl) ?_
                  refine lv_aload_n hx hb dX6_againstOrder_134 rfl (lv_at hl 3 rfl) ?_
                  refine va_get (D := D) (ci := 6) (C := RX6) (T := TX6) (N := 16) hx hb hts iX6 hown hk.1 hP 0 (wM_0 _ _ _) rfl 14 (by decide) (hts (.fieldLink RX6 138 "BottleLoopModel" "number" "I") (List.mem_of_getElem? (i := 4) rfl)) (fun _ h9 => h9) rfl dX6_againstOrder_135 ?_
                  refine bcall_Ri (va_runV (As := [.int (u 6 6), .int (u 6 7), .int (u 6 8)]) (rest := []) ⟨hx, hb, hml, hown, hts⟩ (C6_againstSell l D cI q _ _ hP hI (u 6 6) (u 6 7) (u 6 8) hm_3 hm_6) (cwV 3 hts gX6_againstOrder_X6_againstSell rfl rfl rfl ⟨rfl, bd_X6againstSell⟩ ⟨Nat.le_of_ble_eq_true rfl, Nat.le_of_ble_eq_true rfl⟩) (bPV hk (va_recv hk.1 hP (ci := 6) (q0 := 0) rfl (wM_0 _ _ _))) rfl rfl hl.1 rfl (lv_room (Nat.le_of_ble_eq_true rfl)) dX6_againstOrder_138 ⟨Nat.zero_le _, Nat.zero_le _⟩) hS (fun locs hS => ?_)
                  exact bret_Ri hx hb hr hS hlocks dX6_againstOrder_141 (by rw [← hF, F6_againstOrder, if_neg c_1, if_neg c_2, if_neg c_4, if_neg c_5, if_neg c_7, if_neg c_8, if_neg c_9, if_pos c_10])
                · refine lv_lookup (off := 86) (tgt := 164) hx hb dX6_againstOrder_78 (by decide) (by show Op.lookupswitch.offset [(98, 75), (100, 42), (114, 64), (115, 53)] (86) _ = _; rw [lv_osw (a := 98) c_7 rfl, lv_osw (a := 100) c_8 rfl, lv_osw (a := 114) c_9 rfl, lv_osw (a := 115) c_10 rfl]; rfl) (by decide) ?_
                  refine lv_aload_n hx hb dX6_againstOrder_164 rfl (lv_at hl 3 rfl) ?_
                  refine lv_iload_n hx hb dX6_againstOrder_165 rfl (lv_at hl 1 rfl) ?_
                  refine lv_iload_n hx hb dX6_againstOrder_166 rfl (lv_at hl 0 rfl) ?_
                  refine lv_aload_n hx hb dX6_againstOrder_167 rfl (lv_at hl 3 rfl) ?_
                  refine va_get (D := D) (ci := 6) (C := RX6) (T := TX6) (N := 16) hx hb hts iX6 hown hk.1 hP 0 (wM_0 _ _ _) rfl 14 (by decide) (hts (.fieldLink RX6 138 "BottleLoopModel" "number" "I") (List.mem_of_getElem? (i := 4) rfl)) (fun _ h9 => h9) rfl dX6_againstOrder_168 ?_
                  refine bcall_Ri (va_runV (As := [.int (u 6 6), .int (u 6 7), .int (u 6 8)]) (rest := []) ⟨hx, hb, hml, hown, hts⟩ (C6_againstCollect l D cI q _ _ hP hI (u 6 6) (u 6 7) (u 6 8) hm_3) (cwV 3 hts gX6_againstOrder_X6_againstCollect rfl rfl rfl ⟨rfl, bd_X6againstCollect⟩ ⟨Nat.le_of_ble_eq_true rfl, Nat.le_of_ble_eq_true rfl⟩) (bPV hk (va_recv hk.1 hP (ci := 6) (q0 := 0) rfl (wM_0 _ _ _))) rfl rfl hl.1 rfl (lv_room (Nat.le_of_ble_eq_true rfl)) dX6_againstOrder_171 ⟨Nat.zero_le _, Nat.zero_le _⟩) hS (fun locs hS => ?_)
                  exact bret_Ri hx hb hr hS hlocks dX6_againstOrder_174 (by rw [← hF, F6_againstOrder, if_neg c_1, if_neg c_2, if_neg c_4, if_neg c_5, if_neg c_7, if_neg c_8, if_neg c_9, if_neg c_10])
        · refine lv_iconst (v := 4) hx hb dX6_againstOrder_72 (by decide) ?_
          exact bret_Ri hx hb hr hS hlocks dX6_againstOrder_73 (by rw [← hF, F6_againstOrder, if_neg c_1, if_neg c_2, if_neg c_4, if_pos c_5])
  · refine lv_iconst (v := 1) hx hb dX6_againstOrder_9 (by decide) ?_
    refine lv_goto (tgt := 14) hx hb dX6_againstOrder_10 (by decide) ?_
    refine lv_istore_n (lv' := [(1, .int 1), (0, .ref (q 0))]) hx hb dX6_againstOrder_14 rfl hl (by decide) rfl (fun ls hl => ?_)
    refine lv_iload_n hx hb dX6_againstOrder_15 rfl (lv_at hl 0 rfl) ?_
    refine lv_if_eq (tgt := 26) hx hb dX6_againstOrder_16 (by decide) (fun h9 => absurd h9 (by decide)) (fun _ => ?_)
    refine lv_aload_n hx hb dX6_againstOrder_19 rfl (lv_at hl 1 rfl) ?_
    refine va_get (D := D) (ci := 6) (C := RX6) (T := TX6) (N := 16) hx hb hts iX6 hown hk.1 hP 0 (wM_0 _ _ _) rfl 13 (by decide) (hts (.fieldLink RX6 157 "BottleLoopModel" "other" "I") (List.mem_of_getElem? (i := 2) rfl)) (fun _ h9 => h9) rfl dX6_againstOrder_20 ?_
    refine lv_goto (tgt := 30) hx hb dX6_againstOrder_23 (by decide) ?_
    refine lv_istore_n (lv' := [(2, .int (u 6 7)), (1, .int 1), (0, .ref (q 0))]) hx hb dX6_againstOrder_30 rfl hl (by decide) rfl (fun ls hl => ?_)
    refine lv_iload_n hx hb dX6_againstOrder_31 rfl (lv_at hl 1 rfl) ?_
    refine lv_if_eq (tgt := 42) hx hb dX6_againstOrder_32 (by decide) (fun h9 => absurd h9 (by decide)) (fun _ => ?_)
    refine lv_aload_n hx hb dX6_againstOrder_35 rfl (lv_at hl 2 rfl) ?_
    refine va_get (D := D) (ci := 6) (C := RX6) (T := TX6) (N := 16) hx hb hts iX6 hown hk.1 hP 0 (wM_0 _ _ _) rfl 12 (by decide) (hts (.fieldLink RX6 151 "BottleLoopModel" "one" "I") (List.mem_of_getElem? (i := 3) rfl)) (fun _ h9 => h9) rfl dX6_againstOrder_36 ?_
    refine lv_goto (tgt := 46) hx hb dX6_againstOrder_39 (by decide) ?_
    refine lv_istore_n (lv' := [(3, .int (u 6 6)), (2, .int (u 6 7)), (1, .int 1), (0, .ref (q 0))]) hx hb dX6_againstOrder_46 rfl hl (by decide) rfl (fun ls hl => ?_)
    refine lv_aload_n hx hb dX6_againstOrder_47 rfl (lv_at hl 3 rfl) ?_
    refine lv_iload_n hx hb dX6_againstOrder_48 rfl (lv_at hl 1 rfl) ?_
    refine bcall_Ri (va_runV (As := [.int (u 6 7)]) (rest := []) ⟨hx, hb, hml, hown, hts⟩ (C6_isShop l D cI q _ _ hP hI (u 6 7)) (cwV 1 hts gX6_againstOrder_X6_isShop rfl rfl rfl ⟨rfl, bd_X6isShop⟩ ⟨Nat.le_of_ble_eq_true rfl, Nat.le_of_ble_eq_true rfl⟩) (bPV hk (va_recv hk.1 hP (ci := 6) (q0 := 0) rfl (wM_0 _ _ _))) rfl rfl hl.1 rfl (lv_room (Nat.le_of_ble_eq_true rfl)) dX6_againstOrder_49 ⟨Nat.zero_le _, Nat.zero_le _⟩) hS (fun locs hS => ?_)
    refine lv_if_eq (tgt := 72) hx hb dX6_againstOrder_52 (by decide) (fun c_11 => ?_) (fun c_11 => ?_)
    · refine lv_iconst (v := 4) hx hb dX6_againstOrder_72 (by decide) ?_
      exact bret_Ri hx hb hr hS hlocks dX6_againstOrder_73 (by rw [← hF, F6_againstOrder, if_pos c_1, if_pos c_11])
    · have hm_12 : mS (u 6 7) := mS_is hI c_11
      refine lv_aload_n hx hb dX6_againstOrder_55 rfl (lv_at hl 3 rfl) ?_
      refine va_get (D := D) (ci := 6) (C := RX6) (T := TX6) (N := 16) hx hb hts iX6 hown hk.1 hP 0 (wM_0 _ _ _) rfl 11 (by decide) (hts (.fieldLink RX6 145 "BottleLoopModel" "letter" "I") (List.mem_of_getElem? (i := 1) rfl)) (fun _ h9 => h9) rfl dX6_againstOrder_56 ?_
      refine lv_bipush (v := 99) hx hb dX6_againstOrder_59 (by decide) ?_
      refine lv_icmp_eq (tgt := 74) hx hb dX6_againstOrder_61 (by decide) (fun h9 => absurd (c_1.symm.trans h9) (by decide)) (fun _ => ?_)
      refine lv_aload_n hx hb dX6_againstOrder_64 rfl (lv_at hl 3 rfl) ?_
      refine lv_iload_n hx hb dX6_againstOrder_65 rfl (lv_at hl 0 rfl) ?_
      refine bcall_Ri (va_runV (As := [.int (u 6 6)]) (rest := []) ⟨hx, hb, hml, hown, hts⟩ (C6_isBrand l D cI q _ _ hP hI (u 6 6)) (cwV 1 hts gX6_againstOrder_X6_isBrand rfl rfl rfl ⟨rfl, bd_X6isBrand⟩ ⟨Nat.le_of_ble_eq_true rfl, Nat.le_of_ble_eq_true rfl⟩) (bPV hk (va_recv hk.1 hP (ci := 6) (q0 := 0) rfl (wM_0 _ _ _))) rfl rfl hl.1 rfl (lv_room (Nat.le_of_ble_eq_true rfl)) dX6_againstOrder_66 ⟨Nat.zero_le _, Nat.zero_le _⟩) hS (fun locs hS => ?_)
      refine lv_if_ne (tgt := 74) hx hb dX6_againstOrder_69 (by decide) (fun c_13 => ?_) (fun c_13 => ?_)
      · have hm_14 : mB (u 6 6) := mB_is hI c_13
        refine lv_aload_n hx hb dX6_againstOrder_74 rfl (lv_at hl 3 rfl) ?_
        refine va_get (D := D) (ci := 6) (C := RX6) (T := TX6) (N := 16) hx hb hts iX6 hown hk.1 hP 0 (wM_0 _ _ _) rfl 11 (by decide) (hts (.fieldLink RX6 145 "BottleLoopModel" "letter" "I") (List.mem_of_getElem? (i := 1) rfl)) (fun _ h9 => h9) rfl dX6_againstOrder_75 ?_
        refine lv_lookup (off := 42) (tgt := 120) hx hb dX6_againstOrder_78 (by decide) (by rw [c_1]; decide) (by decide) ?_
        refine lv_aload_n hx hb dX6_againstOrder_120 rfl (lv_at hl 3 rfl) ?_
        refine lv_iload_n hx hb dX6_againstOrder_121 rfl (lv_at hl 0 rfl) ?_
        refine lv_iload_n hx hb dX6_againstOrder_122 rfl (lv_at hl 1 rfl) ?_
        refine lv_aload_n hx hb dX6_againstOrder_123 rfl (lv_at hl 3 rfl) ?_
        refine va_get (D := D) (ci := 6) (C := RX6) (T := TX6) (N := 16) hx hb hts iX6 hown hk.1 hP 0 (wM_0 _ _ _) rfl 14 (by decide) (hts (.fieldLink RX6 138 "BottleLoopModel" "number" "I") (List.mem_of_getElem? (i := 4) rfl)) (fun _ h9 => h9) rfl dX6_againstOrder_124 ?_
        refine bcall_Ri (va_runV (As := [.int (u 6 6), .int (u 6 7), .int (u 6 8)]) (rest := []) ⟨hx, hb, hml, hown, hts⟩ (C6_againstDeliver l D cI q _ _ hP hI (u 6 6) (u 6 7) (u 6 8) hm_14 hm_12) (cwV 3 hts gX6_againstOrder_X6_againstDeliver rfl rfl rfl ⟨rfl, bd_X6againstDeliver⟩ ⟨Nat.le_of_ble_eq_true rfl, Nat.le_of_ble_eq_true rfl⟩) (bPV hk (va_recv hk.1 hP (ci := 6) (q0 := 0) rfl (wM_0 _ _ _))) rfl rfl hl.1 rfl (lv_room (Nat.le_of_ble_eq_true rfl)) dX6_againstOrder_127 ⟨Nat.zero_le _, Nat.zero_le _⟩) hS (fun locs hS => ?_)
        exact bret_Ri hx hb hr hS hlocks dX6_againstOrder_130 (by rw [← hF, F6_againstOrder, if_pos c_1, if_neg c_11, if_neg c_13])
      · refine lv_iconst (v := 4) hx hb dX6_againstOrder_72 (by decide) ?_
        exact bret_Ri hx hb hr hS hlocks dX6_againstOrder_73 (by rw [← hF, F6_againstOrder, if_pos c_1, if_neg c_11, if_pos c_13])
/-- what an order that is carried out must be -/
def mDo (u : bU) : Prop := (u 6 5 = 100 → mB (u 6 6) ∧ mS (u 6 7)) ∧ (¬ u 6 5 = 100 → mS (u 6 6)) ∧ (u 6 5 = 98 ∨ u 6 5 = 114 ∨ u 6 5 = 115 → mB (u 6 7)) ∧ (¬ u 6 5 = 98 → ¬ u 6 5 = 100 → ¬ u 6 5 = 114 → ¬ u 6 5 = 115 → mK (u 6 7))
theorem mDo_v {u : bU} {i : Nat} {x : Int32} (h : mDo u) : mDo (bput u 0 i x) := h
def F6_doOrder (u : bU) : bU := (if (u 6 5) = 98 then (F6_breaksThem u (u 6 6) (u 6 7) (u 6 8)).2 else (if (u 6 5) = 100 then (F6_delivers u (u 6 6) (u 6 7) (u 6 8)).2 else (if (u 6 5) = 114 then (F6_takesBack u (u 6 6) (u 6 7) (u 6 8)).2 else (if (u 6 5) = 115 then (F6_sells u (u 6 6) (u 6 7) (u 6 8)).2 else (F6_collects u (u 6 6) (u 6 7) (u 6 8)).2))))
set_option maxHeartbeats 4000000 in
set_option maxRecDepth 100000 in
theorem C6_doOrder (l : Launch) (D : va_G) (cI : ClassId) (q : Nat → Nat) (u : bU) (H0 : Heap) (hq : bInj 7 q) (hP : va_P D vwCl (wM cI q u) H0) (hI : mInv u) (hdo : mDo u) : Met l yX6_doOrder wsX6_doOrder ({ frames := 4, cells := 0, slots := 0, locals := 93 }) (bP D [(cI, .int)] H0 [.ref (q 0)]) (bWv D (wM cI q) mInv (bA 7 q H0.size) (F6_doOrder u)) 0 0 (bA 7 q H0.size) := by
  refine Met.ofW (cc := cX6_doOrder) (maxL := 1) (ret := none) (by decide) rfl ?_
  intro p e s m args below meth c s₁ B hml hv
  obtain ⟨rfl, hH, hk⟩ := hv
  subst hH
  have hx := B.exec
  have hb := B.bytes
  have hr := B.returns
  have hts := atoms_spec (ws := wsX6_doOrder) B.pre
  have hown : s.vm.findClass RX6 = some m.cls := findClass_of_methodNamed B.named
  have hlocks := B.notSynchronized
  have hNB := mNB hI
  have hNS := mNS hI
  have hI0 := hI
  have iX6 : ∀ w ∈ wsX60, w ∈ wsX6_doOrder := by decide +kernel
  have hS : va_S (bA 7 q s.heap.size) s.heap s.heap [] := va_S.rf
  have hl := lv_entry ([.ref (q 0)]) (n := 1) (Nat.le_of_ble_eq_true rfl)
  rw [lg_entry_eq]
  generalize (lg_sl ([.ref (q 0)]) ++ List.replicate (1 - (lg_sl ([.ref (q 0)])).length) Slot.unset).toArray = ls at hl ⊢
  have hl : lv_has ls 1 [(0, .ref (q 0))] := hl
  generalize hF : F6_doOrder u = tgt
  refine lv_aload_n hx hb dX6_doOrder_0 rfl (lv_at hl 0 rfl) ?_
  refine va_get (D := D) (ci := 6) (C := RX6) (T := TX6) (N := 16) hx hb hts iX6 hown hk.1 hP 0 (wM_0 _ _ _) rfl 11 (by decide) (hts (.fieldLink RX6 145 "BottleLoopModel" "letter" "I") (List.mem_of_getElem? (i := 1) rfl)) (fun _ h9 => h9) rfl dX6_doOrder_1 ?_
  by_cases c_1 : (u 6 5) = 98
  · refine lv_lookup (off := 104) (tgt := 108) hx hb dX6_doOrder_4 (by decide) (by rw [c_1]; decide) (by decide) ?_
    refine lv_aload_n hx hb dX6_doOrder_108 rfl (lv_at hl 0 rfl) ?_
    refine lv_aload_n hx hb dX6_doOrder_109 rfl (lv_at hl 0 rfl) ?_
    refine va_get (D := D) (ci := 6) (C := RX6) (T := TX6) (N := 16) hx hb hts iX6 hown hk.1 hP 0 (wM_0 _ _ _) rfl 12 (by decide) (hts (.fieldLink RX6 151 "BottleLoopModel" "one" "I") (List.mem_of_getElem? (i := 2) rfl)) (fun _ h9 => h9) rfl dX6_doOrder_110 ?_
    refine lv_aload_n hx hb dX6_doOrder_113 rfl (lv_at hl 0 rfl) ?_
    refine va_get (D := D) (ci := 6) (C := RX6) (T := TX6) (N := 16) hx hb hts iX6 hown hk.1 hP 0 (wM_0 _ _ _) rfl 13 (by decide) (hts (.fieldLink RX6 157 "BottleLoopModel" "other" "I") (List.mem_of_getElem? (i := 3) rfl)) (fun _ h9 => h9) rfl dX6_doOrder_114 ?_
    refine lv_aload_n hx hb dX6_doOrder_117 rfl (lv_at hl 0 rfl) ?_
    refine va_get (D := D) (ci := 6) (C := RX6) (T := TX6) (N := 16) hx hb hts iX6 hown hk.1 hP 0 (wM_0 _ _ _) rfl 14 (by decide) (hts (.fieldLink RX6 138 "BottleLoopModel" "number" "I") (List.mem_of_getElem? (i := 4) rfl)) (fun _ h9 => h9) rfl dX6_doOrder_118 ?_
    refine bcall_Wi (va_runV (As := [.int (u 6 6), .int (u 6 7), .int (u 6 8)]) (rest := []) ⟨hx, hb, hml, hown, hts⟩ (C6_breaksThem l D cI q _ _ hq hP hI (u 6 6) (u 6 7) (u 6 8) (hdo.2.1 (fun h9 => absurd (c_1.symm.trans h9) (by decide))) (hdo.2.2.1 (by rw [c_1]; decide))) (cwV 3 hts gX6_doOrder_X6_breaksThem rfl rfl rfl ⟨rfl, bd_X6breaksThem⟩ ⟨Nat.le_of_ble_eq_true rfl, Nat.le_of_ble_eq_true rfl⟩) (bPV hk (va_recv hk.1 hP (ci := 6) (q0 := 0) rfl (wM_0 _ _ _))) rfl rfl hl.1 rfl (lv_room (Nat.le_of_ble_eq_true rfl)) dX6_doOrder_121 ⟨Nat.zero_le _, Nat.zero_le _⟩) hS (fun H locs hP hI_2 hS => ?_)
    refine lv_pop hx hb dX6_doOrder_124 rfl ?_
    refine lv_goto (tgt := 145) hx hb dX6_doOrder_125 (by decide) ?_
    exact bret_Wv hx hb hr hP hI_2 hS hlocks dX6_doOrder_145 (by rw [← hF, F6_doOrder, if_pos c_1])
  · by_cases c_3 : (u 6 5) = 100
    · refine lv_lookup (off := 44) (tgt := 48) hx hb dX6_doOrder_4 (by decide) (by rw [c_3]; decide) (by decide) ?_
      refine lv_aload_n hx hb dX6_doOrder_48 rfl (lv_at hl 0 rfl) ?_
      refine lv_aload_n hx hb dX6_doOrder_49 rfl (lv_at hl 0 rfl) ?_
      refine va_get (D := D) (ci := 6) (C := RX6) (T := TX6) (N := 16) hx hb hts iX6 hown hk.1 hP 0 (wM_0 _ _ _) rfl 12 (by decide) (hts (.fieldLink RX6 151 "BottleLoopModel" "one" "I") (List.mem_of_getElem? (i := 2) rfl)) (fun _ h9 => h9) rfl dX6_doOrder_50 ?_
      refine lv_aload_n hx hb dX6_doOrder_53 rfl (lv_at hl 0 rfl) ?_
      refine va_get (D := D) (ci := 6) (C := RX6) (T := TX6) (N := 16) hx hb hts iX6 hown hk.1 hP 0 (wM_0 _ _ _) rfl 13 (by decide) (hts (.fieldLink RX6 157 "BottleLoopModel" "other" "I") (List.mem_of_getElem? (i := 3) rfl)) (fun _ h9 => h9) rfl dX6_doOrder_54 ?_
      refine lv_aload_n hx hb dX6_doOrder_57 rfl (lv_at hl 0 rfl) ?_
      refine va_get (D := D) (ci := 6) (C := RX6) (T := TX6) (N := 16) hx hb hts iX6 hown hk.1 hP 0 (wM_0 _ _ _) rfl 14 (by decide) (hts (.fieldLink RX6 138 "BottleLoopModel" "number" "I") (List.mem_of_getElem? (i := 4) rfl)) (fun _ h9 => h9) rfl dX6_doOrder_58 ?_
      refine bcall_Wi (va_runV (As := [.int (u 6 6), .int (u 6 7), .int (u 6 8)]) (rest := []) ⟨hx, hb, hml, hown, hts⟩ (C6_delivers l D cI q _ _ hq hP hI (u 6 6) (u 6 7) (u 6 8) (hdo.1 c_3).1 (hdo.1 c_3).2) (cwV 3 hts gX6_doOrder_X6_delivers rfl rfl rfl ⟨rfl, bd_X6delivers⟩ ⟨Nat.le_of_ble_eq_true rfl, Nat.le_of_ble_eq_true rfl⟩) (bPV hk (va_recv hk.1 hP (ci := 6) (q0 := 0) rfl (wM_0 _ _ _))) rfl rfl hl.1 rfl (lv_room (Nat.le_of_ble_eq_true rfl)) dX6_doOrder_61 ⟨Nat.zero_le _, Nat.zero_le _⟩) hS (fun H locs hP hI_4 hS => ?_)
      refine lv_pop hx hb dX6_doOrder_64 rfl ?_
      refine lv_goto (tgt := 145) hx hb dX6_doOrder_65 (by decide) ?_
      exact bret_Wv hx hb hr hP hI_4 hS hlocks dX6_doOrder_145 (by rw [← hF, F6_doOrder, if_neg c_1, if_pos c_3])
    · by_cases c_5 : (u 6 5) = 114
      · refine lv_lookup (off := 84) (tgt := 88) hx hb dX6_doOrder_4 (by decide) (by rw [c_5]; decide) (by decide) ?_
        refine lv_aload_n hx hb dX6_doOrder_88 rfl (lv_at hl 0 rfl) ?_
        refine lv_aload_n hx hb dX6_doOrder_89 rfl (lv_at hl 0 rfl) ?_
        refine va_get (D := D) (ci := 6) (C := RX6) (T := TX6) (N := 16) hx hb hts iX6 hown hk.1 hP 0 (wM_0 _ _ _) rfl 12 (by decide) (hts (.fieldLink RX6 151 "BottleLoopModel" "one" "I") (List.mem_of_getElem? (i := 2) rfl)) (fun _ h9 => h9) rfl dX6_doOrder_90 ?_
        refine lv_aload_n hx hb dX6_doOrder_93 rfl (lv_at hl 0 rfl) ?_
        refine va_get (D := D) (ci := 6) (C := RX6) (T := TX6) (N := 16) hx hb hts iX6 hown hk.1 hP 0 (wM_0 _ _ _) rfl 13 (by decide) (hts (.fieldLink RX6 157 "BottleLoopModel" "other" "I") (List.mem_of_getElem? (i := 3) rfl)) (fun _ h9 => h9) rfl dX6_doOrder_94 ?_
        refine lv_aload_n hx hb dX6_doOrder_97 rfl (lv_at hl 0 rfl) ?_
        refine va_get (D := D) (ci := 6) (C := RX6) (T := TX6) (N := 16) hx hb hts iX6 hown hk.1 hP 0 (wM_0 _ _ _) rfl 14 (by decide) (hts (.fieldLink RX6 138 "BottleLoopModel" "number" "I") (List.mem_of_getElem? (i := 4) rfl)) (fun _ h9 => h9) rfl dX6_doOrder_98 ?_
        refine bcall_Wi (va_runV (As := [.int (u 6 6), .int (u 6 7), .int (u 6 8)]) (rest := []) ⟨hx, hb, hml, hown, hts⟩ (C6_takesBack l D cI q _ _ hq hP hI (u 6 6) (u 6 7) (u 6 8) (hdo.2.1 (fun h9 => absurd (c_5.symm.trans h9) (by decide))) (hdo.2.2.1 (by rw [c_5]; decide))) (cwV 3 hts gX6_doOrder_X6_takesBack rfl rfl rfl ⟨rfl, bd_X6takesBack⟩ ⟨Nat.le_of_ble_eq_true rfl, Nat.le_of_ble_eq_true rfl⟩) (bPV hk (va_recv hk.1 hP (ci := 6) (q0 := 0) rfl (wM_0 _ _ _))) rfl rfl hl.1 rfl (lv_room (Nat.le_of_ble_eq_true rfl)) dX6_doOrder_101 ⟨Nat.zero_le _, Nat.zero_le _⟩) hS (fun H locs hP hI_6 hS => ?_)
        refine lv_pop hx hb dX6_doOrder_104 rfl ?_
        refine lv_goto (tgt := 145) hx hb dX6_doOrder_105 (by decide) ?_
        exact bret_Wv hx hb hr hP hI_6 hS hlocks dX6_doOrder_145 (by rw [← hF, F6_doOrder, if_neg c_1, if_neg c_3, if_pos c_5])
      · by_cases c_7 : (u 6 5) = 115
        · refine lv_lookup (off := 64) (tgt := 68) hx hb dX6_doOrder_4 (by decide) (by rw [c_7]; decide) (by decide) ?_
          refine lv_aload_n hx hb dX6_doOrder_68 rfl (lv_at hl 0 rfl) ?_
          refine lv_aload_n hx hb dX6_doOrder_69 rfl (lv_at hl 0 rfl) ?_
          refine va_get (D := D) (ci := 6) (C := RX6) (T := TX6) (N := 16) hx hb hts iX6 hown hk.1 hP 0 (wM_0 _ _ _) rfl 12 (by decide) (hts (.fieldLink RX6 151 "BottleLoopModel" "one" "I") (List.mem_of_getElem? (i := 2) rfl)) (fun _ h9 => h9) rfl dX6_doOrder_70 ?_
          refine lv_aload_n hx hb dX6_doOrder_73 rfl (lv_at hl 0 rfl) ?_
          refine va_get (D := D) (ci := 6) (C := RX6) (T := TX6) (N := 16) hx hb hts iX6 hown hk.1 hP 0 (wM_0 _ _ _) rfl 13 (by decide) (hts (.fieldLink RX6 157 "BottleLoopModel" "other" "I") (List.mem_of_getElem? (i := 3) rfl)) (fun _ h9 => h9) rfl dX6_doOrder_74 ?_
          refine lv_aload_n hx hb dX6_doOrder_77 rfl (lv_at hl 0 rfl) ?_
          refine va_get (D := D) (ci := 6) (C := RX6) (T := TX6) (N := 16) hx hb hts iX6 hown hk.1 hP 0 (wM_0 _ _ _) rfl 14 (by decide) (hts (.fieldLink RX6 138 "BottleLoopModel" "number" "I") (List.mem_of_getElem? (i := 4) rfl)) (fun _ h9 => h9) rfl dX6_doOrder_78 ?_
          refine bcall_Wi (va_runV (As := [.int (u 6 6), .int (u 6 7), .int (u 6 8)]) (rest := []) ⟨hx, hb, hml, hown, hts⟩ (C6_sells l D cI q _ _ hq hP hI (u 6 6) (u 6 7) (u 6 8) (hdo.2.1 (fun h9 => absurd (c_7.symm.trans h9) (by decide))) (hdo.2.2.1 (by rw [c_7]; decide))) (cwV 3 hts gX6_doOrder_X6_sells rfl rfl rfl ⟨rfl, bd_X6sells⟩ ⟨Nat.le_of_ble_eq_true rfl, Nat.le_of_ble_eq_true rfl⟩) (bPV hk (va_recv hk.1 hP (ci := 6) (q0 := 0) rfl (wM_0 _ _ _))) rfl rfl hl.1 rfl (lv_room (Nat.le_of_ble_eq_true rfl)) dX6_doOrder_81 ⟨Nat.zero_le _, Nat.zero_le _⟩) hS (fun H locs hP hI_8 hS => ?_)
          refine lv_pop hx hb dX6_doOrder_84 rfl ?_
          refine lv_goto (tgt := 145) hx hb dX6_doOrder_85 (by decide) ?_
          exact bret_Wv hx hb hr hP hI_8 hS hlocks dX6_doOrder_145 (by rw [← hF, F6_doOrder, if_neg c_1, if_neg c_3, if_neg c_5, if_pos c_7])
        · refine lv_lookup (off := 124) (tgt := 128) hx hb dX6_doOrder_4 (by decide) (by show Op.lookupswitch.offset [(98, 104), (100, 44), (114, 84), (115, 64)] (124) _ = _; rw [lv_osw (a := 98) c_1 rfl, lv_osw (a := 100) c_3 rfl, lv_osw (a := 114) c_5 rfl, lv_osw (a := 115) c_7 rfl]; rfl) (by decide) ?_
          refine lv_aload_n hx hb dX6_doOrder_128 rfl (lv_at hl 0 rfl) ?_
          refine lv_aload_n hx hb dX6_doOrder_129 rfl (lv_at hl 0 rfl) ?_
          refine va_get (D := D) (ci := 6) (C := RX6) (T := TX6) (N := 16) hx hb hts iX6 hown hk.1 hP 0 (wM_0 _ _ _) rfl 12 (by decide) (hts (.fieldLink RX6 151 "BottleLoopModel" "one" "I") (List.mem_of_getElem? (i := 2) rfl)) (fun _ h9 => h9) rfl dX6_doOrder_130 ?_
          refine lv_aload_n hx hb dX6_doOrder_133 rfl (lv_at hl 0 rfl) ?_
          refine va_get (D := D) (ci := 6) (C := RX6) (T := TX6) (N := 16) hx hb hts iX6 hown hk.1 hP 0 (wM_0 _ _ _) rfl 13 (by decide) (hts (.fieldLink RX6 157 "BottleLoopModel" "other" "I") (List.mem_of_getElem? (i := 3) rfl)) (fun _ h9 => h9) rfl dX6_doOrder_134 ?_
          refine lv_aload_n hx hb dX6_doOrder_137 rfl (lv_at hl 0 rfl) ?_
          refine va_get (D := D) (ci := 6) (C := RX6) (T := TX6) (N := 16) hx hb hts iX6 hown hk.1 hP 0 (wM_0 _ _ _) rfl 14 (by decide) (hts (.fieldLink RX6 138 "BottleLoopModel" "number" "I") (List.mem_of_getElem? (i := 4) rfl)) (fun _ h9 => h9) rfl dX6_doOrder_138 ?_
          refine bcall_Wi (va_runV (As := [.int (u 6 6), .int (u 6 7), .int (u 6 8)]) (rest := []) ⟨hx, hb, hml, hown, hts⟩ (C6_collects l D cI q _ _ hq hP hI (u 6 6) (u 6 7) (u 6 8) (hdo.2.1 c_3) (hdo.2.2.2 c_1 c_3 c_5 c_7)) (cwV 3 hts gX6_doOrder_X6_collects rfl rfl rfl ⟨rfl, bd_X6collects⟩ ⟨Nat.le_of_ble_eq_true rfl, Nat.le_of_ble_eq_true rfl⟩) (bPV hk (va_recv hk.1 hP (ci := 6) (q0 := 0) rfl (wM_0 _ _ _))) rfl rfl hl.1 rfl (lv_room (Nat.le_of_ble_eq_true rfl)) dX6_doOrder_141 ⟨Nat.zero_le _, Nat.zero_le _⟩) hS (fun H locs hP hI_9 hS => ?_)
          refine lv_pop hx hb dX6_doOrder_144 rfl ?_
          exact bret_Wv hx hb hr hP hI_9 hS hlocks dX6_doOrder_145 (by rw [← hF, F6_doOrder, if_neg c_1, if_neg c_3, if_neg c_5, if_neg c_7])
def mRunOk : Nat → Int32 → bU → Prop
  | 0, x, _ => x = 0
  | n + 1, x, u => x = 0 ∨ ((¬ (F6_readOrder u).2 6 5 = 98 → ¬ (F6_readOrder u).2 6 5 = 100 → ¬ (F6_readOrder u).2 6 5 = 114 → ¬ (F6_readOrder u).2 6 5 = 115 → mK ((F6_readOrder u).2 6 7)) ∧ (F6_againstOrder (F6_readOrder u).2 = 0 → mRunOk n (F6_readOrder u).1 (F6_doOrder (bput (F6_readOrder u).2 0 6 (F6_againstOrder (F6_readOrder u).2)))))
theorem mRunOk_lt {j : Nat} {x : Int32} {u : bU} (h : mRunOk (61 - j) x u) (c : ¬ x = 0) : j < 61 := by
  rcases Nat.lt_or_ge j 61 with q | q
  · exact q
  · rw [show 61 - j = 0 by omega] at h
    exact absurd h c
theorem mRunOk_0 (n : Nat) (u : bU) : mRunOk n 0 u := by
  cases n with
  | zero => exact rfl
  | succ n => exact Or.inl rfl
theorem mRunOk_k {j : Nat} {x : Int32} {u : bU} (h : mRunOk (61 - j) x u) (c : ¬ x = 0) : (¬ (F6_readOrder u).2 6 5 = 98 → ¬ (F6_readOrder u).2 6 5 = 100 → ¬ (F6_readOrder u).2 6 5 = 114 → ¬ (F6_readOrder u).2 6 5 = 115 → mK ((F6_readOrder u).2 6 7)) ∧ (F6_againstOrder (F6_readOrder u).2 = 0 → mRunOk (61 - (j + 1)) (F6_readOrder u).1 (F6_doOrder (bput (F6_readOrder u).2 0 6 (F6_againstOrder (F6_readOrder u).2)))) := by
  have q := mRunOk_lt h c
  rw [show 61 - j = (61 - (j + 1)) + 1 by omega] at h
  rcases h with h | h
  · exact absurd h c
  · exact h
theorem mDo_of {u : bU} (hI : mInv u) (h : F6_againstOrder u = 0) (hk : ¬ u 6 5 = 98 → ¬ u 6 5 = 100 → ¬ u 6 5 = 114 → ¬ u 6 5 = 115 → mK (u 6 7)) : mDo u := by
  unfold F6_againstOrder at h
  by_cases h1 : u 6 5 = 100
  · rw [if_pos h1] at h
    by_cases h2 : F6_isShop u (u 6 7) = 0
    · rw [if_pos h2] at h; exact absurd h (by decide)
    · rw [if_neg h2] at h
      by_cases h3 : F6_isBrand u (u 6 6) = 0
      · rw [if_pos h3] at h; exact absurd h (by decide)
      · refine ⟨fun _ => ⟨mB_is hI h3, mS_is hI h2⟩, fun q => absurd h1 q, fun q => ?_, fun _ q => absurd h1 q⟩
        rw [h1] at q
        rcases q with q | q | q <;> exact absurd q (by decide)
  · rw [if_neg h1] at h
    by_cases h2 : F6_isShop u (u 6 6) = 0
    · rw [if_pos h2] at h; exact absurd h (by decide)
    · rw [if_neg h2] at h
      refine ⟨fun q => absurd q h1, fun _ => mS_is hI h2, fun q => ?_, hk⟩
      have h4 : ¬ u 6 5 = 99 := by
        intro e
        rw [e] at q
        rcases q with q | q | q <;> exact absurd q (by decide)
      rw [if_neg h4] at h
      by_cases h3 : F6_isBrand u (u 6 7) = 0
      · rw [if_pos h3] at h; exact absurd h (by decide)
      · exact mB_is hI h3
def L6_run_50  : bU → Nat → Nat → Int32 → Int32 → Int32 × Int32 × bU
  | u50, 0, _, x1_50, x2_50 => (x1_50, x2_50, u50)
  | u50, n50 + 1, j50, x1_50, x2_50 => (if x2_50 = 0 then (x1_50, x2_50, u50) else (if ((bput (F6_readOrder u50).2 0 6 (F6_againstOrder (F6_readOrder u50).2)) 0 6) = 0 then (L6_run_50 (F6_doOrder (bput (F6_readOrder u50).2 0 6 (F6_againstOrder (F6_readOrder u50).2))) n50 (j50 + 1) (x1_50 + 1) (F6_readOrder u50).1) else (L6_run_50 (bput (F6_readOrder u50).2 0 6 (F6_againstOrder (F6_readOrder u50).2)) n50 (j50 + 1) x1_50 0)))
def F6_run (u : bU) : Int32 × bU := (if (F6_reads (bput u 6 2 0)).1 < ((F6_reads (bput u 6 2 0)).2 6 1) then ((F6_fails (F6_reads (bput u 6 2 0)).2 1).1, (F6_fails (F6_reads (bput u 6 2 0)).2 1).2) else (if ((F6_reads (bput u 6 2 0)).2 6 4) = 0 then ((F6_fails (F6_reads (bput u 6 2 0)).2 1).1, (F6_fails (F6_reads (bput u 6 2 0)).2 1).2) else ((L6_run_50 (bput (bput (F6_save (F6_reads (bput u 6 2 0)).2) 0 6 0) 6 3 0) (61 + 1) 0 0 1).1, (bput (L6_run_50 (bput (bput (F6_save (F6_reads (bput u 6 2 0)).2) 0 6 0) 6 3 0) (61 + 1) 0 0 1).2.2 6 1 0))))
set_option maxHeartbeats 4000000 in
set_option maxRecDepth 100000 in
theorem C6_run (l : Launch) (D : va_G) (cI : ClassId) (q : Nat → Nat) (u : bU) (H0 : Heap) (hq : bInj 7 q) (hP : va_P D vwCl (wM cI q u) H0) (hI : mInv u) (hrd : mRdOk 61 1 (bput (bput u 6 2 0) 6 3 0)) (hrun : mRunOk 61 1 (bput (bput (F6_save (F6_reads (bput u 6 2 0)).2) 0 6 0) 6 3 0)) : Met l yX6_run wsX6_run ({ frames := 5, cells := 0, slots := 0, locals := 113 }) (bP D [(cI, .int)] H0 [.ref (q 0)]) (bWi D (wM cI q) mInv (bA 7 q H0.size) (F6_run u)) 0 0 (bA 7 q H0.size) := by
  refine Met.ofW (cc := cX6_run) (maxL := 3) (ret := (some .int)) (by decide) rfl ?_
  intro p e s m args below meth c s₁ B hml hv
  obtain ⟨rfl, hH, hk⟩ := hv
  subst hH
  have hx := B.exec
  have hb := B.bytes
  have hr := B.returns
  have hts := atoms_spec (ws := wsX6_run) B.pre
  have hown : s.vm.findClass RX6 = some m.cls := findClass_of_methodNamed B.named
  have hlocks := B.notSynchronized
  have hNB := mNB hI
  have hNS := mNS hI
  have hI0 := hI
  have iX6 : ∀ w ∈ wsX60, w ∈ wsX6_run := by decide +kernel
  have hS : va_S (bA 7 q s.heap.size) s.heap s.heap [] := va_S.rf
  have hl := lv_entry ([.ref (q 0)]) (n := 3) (Nat.le_of_ble_eq_true rfl)
  rw [lg_entry_eq]
  generalize (lg_sl ([.ref (q 0)]) ++ List.replicate (3 - (lg_sl ([.ref (q 0)])).length) Slot.unset).toArray = ls at hl ⊢
  have hl : lv_has ls 3 [(0, .ref (q 0))] := hl
  generalize hF : F6_run u = tgt
  refine lv_aload_n hx hb dX6_run_0 rfl (lv_at hl 0 rfl) ?_
  refine lv_iconst (v := 0) hx hb dX6_run_1 (by decide) ?_
  refine va_put (D := D) (ci := 6) (v := .int 0) (ty := .int) (C := RX6) (T := TX6) (N := 16) hx hb hts iX6 tyX6 tyX6_ok nmX6 hown hk.1 hP (wM_D hq) hS 0 (wM_0 _ _ _) rfl 6 (by decide) (hts (.fieldLink RX6 28 "BottleLoopModel" "thrown" "I") (List.mem_of_getElem? (i := 1) rfl)) (fun _ h9 => h9) rfl (by decide +kernel) rfl rfl (Nat.le_of_ble_eq_true rfl) dX6_run_2 (fun H locs hP _ hS => ?_)
  have hP : va_P D vwCl (wM cI q (bput u 6 2 0)) H := pM_f2 hP
  have hI_1 : mInv (bput u 6 2 0) := mInv_sc (k := 2) hI (by decide) (by decide) (by decide)
  refine lv_aload_n hx hb dX6_run_5 rfl (lv_at hl 0 rfl) ?_
  refine bcall_Wi (va_runV (As := []) (rest := []) ⟨hx, hb, hml, hown, hts⟩ (C6_reads l D cI q _ _ hq hP hI_1  hrd) (cwV 0 hts gX6_run_X6_reads rfl rfl rfl ⟨rfl, bd_X6reads⟩ ⟨Nat.le_of_ble_eq_true rfl, Nat.le_of_ble_eq_true rfl⟩) (bPV hk (va_recv hk.1 hP (ci := 6) (q0 := 0) rfl (wM_0 _ _ _))) rfl rfl hl.1 rfl (lv_room (Nat.le_of_ble_eq_true rfl)) dX6_run_6 ⟨Nat.zero_le _, Nat.zero_le _⟩) hS (fun H locs hP hI_2 hS => ?_)
  refine lv_aload_n hx hb dX6_run_9 rfl (lv_at hl 0 rfl) ?_
  refine va_get (D := D) (ci := 6) (C := RX6) (T := TX6) (N := 16) hx hb hts iX6 hown hk.1 hP 0 (wM_0 _ _ _) rfl 5 (by decide) (hts (.fieldLink RX6 129 "BottleLoopModel" "length" "I") (List.mem_of_getElem? (i := 2) rfl)) (fun _ h9 => h9) rfl dX6_run_10 ?_
  refine lv_icmp_lt (tgt := 23) hx hb dX6_run_13 (by decide) (fun c_3 => ?_) (fun c_3 => ?_)
  · refine lv_aload_n hx hb dX6_run_23 rfl (lv_at hl 0 rfl) ?_
    refine lv_iconst (v := 1) hx hb dX6_run_24 (by decide) ?_
    refine bcall_Wi (va_runV (As := [.int 1]) (rest := []) ⟨hx, hb, hml, hown, hts⟩ (C6_fails l D cI q _ _ hq hP hI_2 1) (cwV 1 hts gX6_run_X6_fails rfl rfl rfl ⟨rfl, bd_X6fails⟩ ⟨Nat.le_of_ble_eq_true rfl, Nat.le_of_ble_eq_true rfl⟩) (bPV hk (va_recv hk.1 hP (ci := 6) (q0 := 0) rfl (wM_0 _ _ _))) rfl rfl hl.1 rfl (lv_room (Nat.le_of_ble_eq_true rfl)) dX6_run_25 ⟨Nat.zero_le _, Nat.zero_le _⟩) hS (fun H locs hP hI_4 hS => ?_)
    exact bret_Wi hx hb hr hP hI_4 hS hlocks dX6_run_28 (by rw [← hF, F6_run, if_pos c_3])
  · refine lv_aload_n hx hb dX6_run_16 rfl (lv_at hl 0 rfl) ?_
    refine va_get (D := D) (ci := 6) (C := RX6) (T := TX6) (N := 16) hx hb hts iX6 hown hk.1 hP 0 (wM_0 _ _ _) rfl 10 (by decide) (hts (.fieldLink RX6 141 "BottleLoopModel" "isWhole" "Z") (List.mem_of_getElem? (i := 3) rfl)) (fun _ h9 => h9) rfl dX6_run_17 ?_
    refine lv_if_ne (tgt := 29) hx hb dX6_run_20 (by decide) (fun c_5 => ?_) (fun c_5 => ?_)
    · refine lv_aload_n hx hb dX6_run_29 rfl (lv_at hl 0 rfl) ?_
      refine bcall_Wv (va_runV (As := []) (rest := []) ⟨hx, hb, hml, hown, hts⟩ (C6_save l D cI q _ _ hq hP hI_2 ) (cwV 0 hts gX6_run_X6_save rfl rfl rfl ⟨rfl, bd_X6save⟩ ⟨Nat.le_of_ble_eq_true rfl, Nat.le_of_ble_eq_true rfl⟩) (bPV hk (va_recv hk.1 hP (ci := 6) (q0 := 0) rfl (wM_0 _ _ _))) rfl rfl hl.1 rfl (lv_room (Nat.le_of_ble_eq_true rfl)) dX6_run_30 ⟨Nat.zero_le _, Nat.zero_le _⟩) hS (fun H locs hP hI_6 hS => ?_)
      refine lv_aload_n hx hb dX6_run_33 rfl (lv_at hl 0 rfl) ?_
      refine va_get (D := D) (ci := 6) (C := RX6) (T := TX6) (N := 16) hx hb hts iX6 hown hk.1 hP 0 (wM_0 _ _ _) rfl 0 (by decide) (hts (.fieldLink RX6 7 "BottleLoopModel" "v" "[I") (List.mem_of_getElem? (i := 4) rfl)) (fun _ h9 => h9) rfl dX6_run_34 ?_
      refine lv_bipush (v := 6) hx hb dX6_run_37 (by decide) ?_
      refine lv_iconst (v := 0) hx hb dX6_run_39 (by decide) ?_
      refine va_iast hx hb hk.1 hP (wM_D hq) hS 1 0 (wM_1 _ _ _) rfl (vp_in_nI (n := 6) (by decide) (by decide)) dX6_run_40 (fun H locs hP _ hS => ?_)
      have hP : va_P D vwCl (wM cI q (bput (F6_save (F6_reads (bput u 6 2 0)).2) 0 6 0)) H := pM_0 hP
      have hI_7 : mInv (bput (F6_save (F6_reads (bput u 6 2 0)).2) 0 6 0) := mInv_g (k := 6) hI_6 (by decide) (by decide)
      refine lv_aload_n hx hb dX6_run_41 rfl (lv_at hl 0 rfl) ?_
      refine lv_iconst (v := 0) hx hb dX6_run_42 (by decide) ?_
      refine va_put (D := D) (ci := 6) (v := .int 0) (ty := .int) (C := RX6) (T := TX6) (N := 16) hx hb hts iX6 tyX6 tyX6_ok nmX6 hown hk.1 hP (wM_D hq) hS 0 (wM_0 _ _ _) rfl 9 (by decide) (hts (.fieldLink RX6 132 "BottleLoopModel" "place" "I") (List.mem_of_getElem? (i := 5) rfl)) (fun _ h9 => h9) rfl (by decide +kernel) rfl rfl (Nat.le_of_ble_eq_true rfl) dX6_run_43 (fun H locs hP _ hS => ?_)
      have hP : va_P D vwCl (wM cI q (bput (bput (F6_save (F6_reads (bput u 6 2 0)).2) 0 6 0) 6 3 0)) H := pM_f3 hP
      have hI_8 : mInv (bput (bput (F6_save (F6_reads (bput u 6 2 0)).2) 0 6 0) 6 3 0) := mInv_pl hI_7 (by decide)
      refine lv_iconst (v := 0) hx hb dX6_run_46 (by decide) ?_
      refine lv_istore_n (lv' := [(1, .int 0), (0, .ref (q 0))]) hx hb dX6_run_47 rfl hl (by decide) rfl (fun ls hl => ?_)
      refine lv_iconst (v := 1) hx hb dX6_run_48 (by decide) ?_
      refine lv_istore_n (lv' := [(2, .int 1), (1, .int 0), (0, .ref (q 0))]) hx hb dX6_run_49 rfl hl (by decide) rfl (fun ls hl => ?_)
      have hNB50 := mNB hI_8
      have hNS50 := mNS hI_8
      have loop50 : ∀ (n50 j50 : Nat) (x1_50 : Int32) (x2_50 : Int32) (u50 : bU) (H : Heap) (locs : List Loc) (ls : Array Slot), j50 ≤ 61 → 61 + 1 ≤ n50 + j50 → mRunOk (61 - j50) x2_50 u50 → lv_has ls 3 [(0, .ref (q 0)), (1, .int x1_50), (2, .int x2_50)] → va_P D vwCl (wM cI q u50) H → mInv u50 → va_S (bA 7 q s.heap.size) s.heap H locs → ∀ X : Int32 × Int32 × bU, L6_run_50 u50 n50 j50 x1_50 x2_50 = X → (∀ (H : Heap) (locs : List Loc) (ls : Array Slot), lv_has ls 3 [(0, .ref (q 0)), (1, .int X.1), (2, .int X.2.1)] → va_P D vwCl (wM cI q X.2.2) H → mInv X.2.2 → va_S (bA 7 q s.heap.size) s.heap H locs → W p l e (headSpec wsX6_run ({ frames := 5, cells := 0, slots := 0, locals := 113 })).room s m ([.ref (q 0)] : List Value).toArray below meth c H locs 0 0 (MQ below (bWi D (wM cI q) mInv (bA 7 q s.heap.size) tgt) ([.ref (q 0)] : List Value).toArray s 0 0 (bA 7 q s.heap.size)) (F0 m 95 ls [])) → W p l e (headSpec wsX6_run ({ frames := 5, cells := 0, slots := 0, locals := 113 })).room s m ([.ref (q 0)] : List Value).toArray below meth c H locs 0 0 (MQ below (bWi D (wM cI q) mInv (bA 7 q s.heap.size) tgt) ([.ref (q 0)] : List Value).toArray s 0 0 (bA 7 q s.heap.size)) (F0 m 50 ls []) := by
        intro n50
        induction n50 with
        | zero => intro j50 x1_50 x2_50 u50 H locs ls hj hn; exact absurd hn (by omega)
        | succ n50 ih =>
          intro j50 x1_50 x2_50 u50 H locs ls hj hn hinv hl hP hI hS X hF kx
          refine lv_iload_n hx hb dX6_run_50 rfl (lv_at hl 2 rfl) ?_
          refine lv_if_eq (tgt := 95) hx hb dX6_run_51 (by decide) (fun c_9 => ?_) (fun c_9 => ?_)
          · obtain rfl : X = (x1_50, x2_50, u50) := by rw [← hF, L6_run_50, if_pos c_9]
            exact kx _ _ _ (lv_sub hl [0, 1, 2] rfl) hP hI hS
          · have hlt_10 : j50 < 61 := mRunOk_lt hinv c_9
            refine lv_aload_n hx hb dX6_run_54 rfl (lv_at hl 0 rfl) ?_
            refine bcall_Wi (va_runV (As := []) (rest := []) ⟨hx, hb, hml, hown, hts⟩ (C6_readOrder l D cI q _ _ hq hP hI ) (cwV 0 hts gX6_run_X6_readOrder rfl rfl rfl ⟨rfl, bd_X6readOrder⟩ ⟨Nat.le_of_ble_eq_true rfl, Nat.le_of_ble_eq_true rfl⟩) (bPV hk (va_recv hk.1 hP (ci := 6) (q0 := 0) rfl (wM_0 _ _ _))) rfl rfl hl.1 rfl (lv_room (Nat.le_of_ble_eq_true rfl)) dX6_run_55 ⟨Nat.zero_le _, Nat.zero_le _⟩) hS (fun H locs hP hI_11 hS => ?_)
            refine lv_istore_n (lv' := [(2, .int (F6_readOrder u50).1), (0, .ref (q 0)), (1, .int x1_50)]) hx hb dX6_run_58 rfl hl (by decide) rfl (fun ls hl => ?_)
            refine lv_aload_n hx hb dX6_run_59 rfl (lv_at hl 1 rfl) ?_
            refine va_get (D := D) (ci := 6) (C := RX6) (T := TX6) (N := 16) hx hb hts iX6 hown hk.1 hP 0 (wM_0 _ _ _) rfl 0 (by decide) (hts (.fieldLink RX6 7 "BottleLoopModel" "v" "[I") (List.mem_of_getElem? (i := 4) rfl)) (fun _ h9 => h9) rfl dX6_run_60 ?_
            refine lv_bipush (v := 6) hx hb dX6_run_63 (by decide) ?_
            refine lv_aload_n hx hb dX6_run_65 rfl (lv_at hl 1 rfl) ?_
            refine bcall_Ri (va_runV (As := []) (rest := [.int 6, .ref (q 1)]) ⟨hx, hb, hml, hown, hts⟩ (C6_againstOrder l D cI q _ _ hP hI_11 ) (cwV 0 hts gX6_run_X6_againstOrder rfl rfl rfl ⟨rfl, bd_X6againstOrder⟩ ⟨Nat.le_of_ble_eq_true rfl, Nat.le_of_ble_eq_true rfl⟩) (bPV hk (va_recv hk.1 hP (ci := 6) (q0 := 0) rfl (wM_0 _ _ _))) rfl rfl hl.1 rfl (lv_room (Nat.le_of_ble_eq_true rfl)) dX6_run_66 ⟨Nat.zero_le _, Nat.zero_le _⟩) hS (fun locs hS => ?_)
            refine va_iast hx hb hk.1 hP (wM_D hq) hS 1 0 (wM_1 _ _ _) rfl (vp_in_nI (n := 6) (by decide) (by decide)) dX6_run_69 (fun H locs hP _ hS => ?_)
            have hP : va_P D vwCl (wM cI q (bput (F6_readOrder u50).2 0 6 (F6_againstOrder (F6_readOrder u50).2))) H := pM_0 hP
            have hI_12 : mInv (bput (F6_readOrder u50).2 0 6 (F6_againstOrder (F6_readOrder u50).2)) := mInv_g (k := 6) hI_11 (by decide) (by decide)
            refine lv_aload_n hx hb dX6_run_70 rfl (lv_at hl 1 rfl) ?_
            refine va_get (D := D) (ci := 6) (C := RX6) (T := TX6) (N := 16) hx hb hts iX6 hown hk.1 hP 0 (wM_0 _ _ _) rfl 0 (by decide) (hts (.fieldLink RX6 7 "BottleLoopModel" "v" "[I") (List.mem_of_getElem? (i := 4) rfl)) (fun _ h9 => h9) rfl dX6_run_71 ?_
            refine lv_bipush (v := 6) hx hb dX6_run_74 (by decide) ?_
            refine va_iald hx hb hk.1 hP 1 0 (wM_1 _ _ _) rfl (vp_in_nI (n := 6) (by decide) (by decide)) dX6_run_76 ?_
            refine lv_topi (fun z9 hz9 => ?_)
            obtain rfl : z9 = ((bput (F6_readOrder u50).2 0 6 (F6_againstOrder (F6_readOrder u50).2)) 0 6) := hz9.trans rfl
            refine lv_if_ne (tgt := 90) hx hb dX6_run_77 (by decide) (fun c_13 => ?_) (fun c_13 => ?_)
            · refine lv_iconst (v := 0) hx hb dX6_run_90 (by decide) ?_
              refine lv_istore_n (lv' := [(2, .int 0), (0, .ref (q 0)), (1, .int x1_50)]) hx hb dX6_run_91 rfl hl (by decide) rfl (fun ls hl => ?_)
              refine lv_goto (tgt := 50) hx hb dX6_run_92 (by decide) ?_
              exact ih (j50 + 1) x1_50 0 (bput (F6_readOrder u50).2 0 6 (F6_againstOrder (F6_readOrder u50).2)) _ _ _ (by omega) (by omega) (mRunOk_0 _ _) (lv_sub hl [1, 2, 0] rfl) hP hI_12 hS X (by rw [← hF, L6_run_50, if_neg c_9, if_neg c_13]) kx
            · refine lv_aload_n hx hb dX6_run_80 rfl (lv_at hl 1 rfl) ?_
              refine bcall_Wv (va_runV (As := []) (rest := []) ⟨hx, hb, hml, hown, hts⟩ (C6_doOrder l D cI q _ _ hq hP hI_12  (mDo_v (mDo_of hI_11 c_13 (mRunOk_k hinv c_9).1))) (cwV 0 hts gX6_run_X6_doOrder rfl rfl rfl ⟨rfl, bd_X6doOrder⟩ ⟨Nat.le_of_ble_eq_true rfl, Nat.le_of_ble_eq_true rfl⟩) (bPV hk (va_recv hk.1 hP (ci := 6) (q0 := 0) rfl (wM_0 _ _ _))) rfl rfl hl.1 rfl (lv_room (Nat.le_of_ble_eq_true rfl)) dX6_run_81 ⟨Nat.zero_le _, Nat.zero_le _⟩) hS (fun H locs hP hI_14 hS => ?_)
              refine lv_iinc (v := (x1_50 + 1)) (lv' := [(1, .int (x1_50 + 1)), (2, .int (F6_readOrder u50).1), (0, .ref (q 0))]) hx hb dX6_run_84 hl (k := 2) rfl rfl (by decide) rfl (fun ls hl => ?_)
              refine lv_goto (tgt := 50) hx hb dX6_run_87 (by decide) ?_
              exact ih (j50 + 1) (x1_50 + 1) (F6_readOrder u50).1 (F6_doOrder (bput (F6_readOrder u50).2 0 6 (F6_againstOrder (F6_readOrder u50).2))) _ _ _ (by omega) (by omega) ((mRunOk_k hinv c_9).2 c_13) (lv_sub hl [2, 0, 1] rfl) hP hI_14 hS X (by rw [← hF, L6_run_50, if_neg c_9, if_pos c_13]) kx
      refine loop50 (61 + 1) 0 0 1 (bput (bput (F6_save (F6_reads (bput u 6 2 0)).2) 0 6 0) 6 3 0) _ _ _ (by omega) (by omega) hrun (lv_sub hl [2, 1, 0] rfl) hP hI_8 hS _ rfl (fun H locs ls hl hP hI hS => ?_)
      have hI_15 : mInv (L6_run_50 (bput (bput (F6_save (F6_reads (bput u 6 2 0)).2) 0 6 0) 6 3 0) (61 + 1) 0 0 1).2.2 := hI
      refine lv_aload_n hx hb dX6_run_95 rfl (lv_at hl 0 rfl) ?_
      refine lv_iconst (v := 0) hx hb dX6_run_96 (by decide) ?_
      refine va_put (D := D) (ci := 6) (v := .int 0) (ty := .int) (C := RX6) (T := TX6) (N := 16) hx hb hts iX6 tyX6 tyX6_ok nmX6 hown hk.1 hP (wM_D hq) hS 0 (wM_0 _ _ _) rfl 5 (by decide) (hts (.fieldLink RX6 129 "BottleLoopModel" "length" "I") (List.mem_of_getElem? (i := 2) rfl)) (fun _ h9 => h9) rfl (by decide +kernel) rfl rfl (Nat.le_of_ble_eq_true rfl) dX6_run_97 (fun H locs hP _ hS => ?_)
      have hP : va_P D vwCl (wM cI q (bput (L6_run_50 (bput (bput (F6_save (F6_reads (bput u 6 2 0)).2) 0 6 0) 6 3 0) (61 + 1) 0 0 1).2.2 6 1 0)) H := pM_f1 hP
      have hI_16 : mInv (bput (L6_run_50 (bput (bput (F6_save (F6_reads (bput u 6 2 0)).2) 0 6 0) 6 3 0) (61 + 1) 0 0 1).2.2 6 1 0) := mInv_ln0 hI_15
      refine lv_iload_n hx hb dX6_run_100 rfl (lv_at hl 1 rfl) ?_
      exact bret_Wi hx hb hr hP hI_16 hS hlocks dX6_run_101 (by rw [← hF, F6_run, if_neg c_3, if_neg c_5])
    · refine lv_aload_n hx hb dX6_run_23 rfl (lv_at hl 0 rfl) ?_
      refine lv_iconst (v := 1) hx hb dX6_run_24 (by decide) ?_
      refine bcall_Wi (va_runV (As := [.int 1]) (rest := []) ⟨hx, hb, hml, hown, hts⟩ (C6_fails l D cI q _ _ hq hP hI_2 1) (cwV 1 hts gX6_run_X6_fails rfl rfl rfl ⟨rfl, bd_X6fails⟩ ⟨Nat.le_of_ble_eq_true rfl, Nat.le_of_ble_eq_true rfl⟩) (bPV hk (va_recv hk.1 hP (ci := 6) (q0 := 0) rfl (wM_0 _ _ _))) rfl rfl hl.1 rfl (lv_room (Nat.le_of_ble_eq_true rfl)) dX6_run_25 ⟨Nat.zero_le _, Nat.zero_le _⟩) hS (fun H locs hP hI_17 hS => ?_)
      exact bret_Wi hx hb hr hP hI_17 hS hlocks dX6_run_28 (by rw [← hF, F6_run, if_neg c_3, if_pos c_5])

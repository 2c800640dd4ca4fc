def F6_sign (u : bU) (a1 : Int32) : Int32 × bU := (if (u 6 1) ≤ (u 6 3) then (0, (bput u 6 3 ((u 6 3) + 0))) else (if (u 3 (u 6 3).toNatClampNeg) = a1 then (1, (bput u 6 3 ((u 6 3) + 1))) else (0, (bput u 6 3 ((u 6 3) + 0)))))
set_option maxHeartbeats 4000000 in
set_option maxRecDepth 100000 in
theorem C6_sign (l : Launch) (D : va_G) (cI : ClassId) (q : Nat → Nat) (u : bU) (H0 : Heap) (hq : bInj 7 q) (hP : va_P D vwCl (wM cI q u) H0) (hI : mInv u) (a1 : Int32) : Met l yX6_sign wsX6_sign ({ frames := 0, cells := 0, slots := 0, locals := 0 }) (bP D [(cI, .int)] H0 [.ref (q 0), .int a1]) (bWi D (wM cI q) mInv (bA 7 q H0.size) (F6_sign u a1)) 0 0 (bA 7 q H0.size) := by
  refine Met.ofW (cc := cX6_sign) (maxL := 3) (ret := (some .boolean)) (by decide) rfl ?_
  intro p e s m args below meth c s₁ B hml hv
  obtain ⟨rfl, hH, hk⟩ := hv
  subst hH
  have hx := B.exec
  have hb := B.bytes
  have hr := B.returns
  have hts := atoms_spec (ws := wsX6_sign) B.pre
  have hown : s.vm.findClass RX6 = some m.cls := findClass_of_methodNamed B.named
  have hlocks := B.notSynchronized
  have hNB := mNB hI
  have hNS := mNS hI
  have hI0 := hI
  have iX6 : ∀ w ∈ wsX60, w ∈ wsX6_sign := by decide +kernel
  have hS : va_S (bA 7 q s.heap.size) s.heap s.heap [] := va_S.rf
  have hl := lv_entry ([.ref (q 0), .int a1]) (n := 3) (Nat.le_of_ble_eq_true rfl)
  rw [lg_entry_eq]
  generalize (lg_sl ([.ref (q 0), .int a1]) ++ List.replicate (3 - (lg_sl ([.ref (q 0), .int a1])).length) Slot.unset).toArray = ls at hl ⊢
  have hl : lv_has ls 3 [(0, .ref (q 0)), (1, .int a1)] := hl
  generalize hF : F6_sign u a1 = tgt
  refine lv_aload_n hx hb dX6_sign_0 rfl (lv_at hl 0 rfl) ?_
  refine va_get (D := D) (ci := 6) (C := RX6) (T := TX6) (N := 16) hx hb hts iX6 hown hk.1 hP 0 (wM_0 _ _ _) rfl 9 (by decide) (hts (.fieldLink RX6 132 "BottleLoopModel" "place" "I") (List.mem_of_getElem? (i := 1) rfl)) (fun _ h9 => h9) rfl dX6_sign_1 ?_
  refine lv_aload_n hx hb dX6_sign_4 rfl (lv_at hl 0 rfl) ?_
  refine va_get (D := D) (ci := 6) (C := RX6) (T := TX6) (N := 16) hx hb hts iX6 hown hk.1 hP 0 (wM_0 _ _ _) rfl 5 (by decide) (hts (.fieldLink RX6 129 "BottleLoopModel" "length" "I") (List.mem_of_getElem? (i := 2) rfl)) (fun _ h9 => h9) rfl dX6_sign_5 ?_
  refine lv_icmp_ge (tgt := 28) hx hb dX6_sign_8 (by decide) (fun c_1 => ?_) (fun c_1 => ?_)
  · refine lv_iconst (v := 0) hx hb dX6_sign_28 (by decide) ?_
    refine lv_istore_n (lv' := [(2, .int 0), (0, .ref (q 0)), (1, .int a1)]) hx hb dX6_sign_29 rfl hl (by decide) rfl (fun ls hl => ?_)
    refine lv_aload_n hx hb dX6_sign_30 rfl (lv_at hl 1 rfl) ?_
    refine lv_dup hx hb dX6_sign_31 rfl ?_
    refine va_get (D := D) (ci := 6) (C := RX6) (T := TX6) (N := 16) hx hb hts iX6 hown hk.1 hP 0 (wM_0 _ _ _) rfl 9 (by decide) (hts (.fieldLink RX6 132 "BottleLoopModel" "place" "I") (List.mem_of_getElem? (i := 1) rfl)) (fun _ h9 => h9) rfl dX6_sign_32 ?_
    refine lv_iload_n hx hb dX6_sign_35 rfl (lv_at hl 0 rfl) ?_
    refine lv_if_eq (tgt := 43) hx hb dX6_sign_36 (by decide) (fun _ => ?_) (fun h9 => absurd (by decide) h9)
    refine lv_iconst (v := 0) hx hb dX6_sign_43 (by decide) ?_
    refine lv_iadd hx hb dX6_sign_44 ?_
    refine va_put (D := D) (ci := 6) (v := .int ((u 6 3) + 0)) (ty := .int) (C := RX6) (T := TX6) (N := 16) hx hb hts iX6 tyX6 tyX6_ok nmX6 hown hk.1 hP (wM_D hq) hS 0 (wM_0 _ _ _) rfl 9 (by decide) (hts (.fieldLink RX6 132 "BottleLoopModel" "place" "I") (List.mem_of_getElem? (i := 1) rfl)) (fun _ h9 => h9) rfl (by decide +kernel) rfl rfl (Nat.le_of_ble_eq_true rfl) dX6_sign_45 (fun H locs hP _ hS => ?_)
    have hP : va_P D vwCl (wM cI q (bput u 6 3 ((u 6 3) + 0))) H := pM_f3 hP
    have hI_2 : mInv (bput u 6 3 ((u 6 3) + 0)) := mInv_pl0 hI
    refine lv_iload_n hx hb dX6_sign_48 rfl (lv_at hl 0 rfl) ?_
    exact bret_Wz hx hb hr hP hI_2 hS hlocks dX6_sign_49 (Or.inl rfl) (by rw [← hF, F6_sign, if_pos c_1])
  · refine lv_aload_n hx hb dX6_sign_11 rfl (lv_at hl 0 rfl) ?_
    refine va_get (D := D) (ci := 6) (C := RX6) (T := TX6) (N := 16) hx hb hts iX6 hown hk.1 hP 0 (wM_0 _ _ _) rfl 4 (by decide) (hts (.fieldLink RX6 19 "BottleLoopModel" "text" "[I") (List.mem_of_getElem? (i := 3) rfl)) (fun _ h9 => h9) rfl dX6_sign_12 ?_
    refine lv_aload_n hx hb dX6_sign_15 rfl (lv_at hl 0 rfl) ?_
    refine va_get (D := D) (ci := 6) (C := RX6) (T := TX6) (N := 16) hx hb hts iX6 hown hk.1 hP 0 (wM_0 _ _ _) rfl 9 (by decide) (hts (.fieldLink RX6 132 "BottleLoopModel" "place" "I") (List.mem_of_getElem? (i := 1) rfl)) (fun _ h9 => h9) rfl dX6_sign_16 ?_
    refine va_iald hx hb hk.1 hP 4 0 (wM_4 _ _ _) rfl (mXpl hI c_1) dX6_sign_19 ?_
    refine lv_iload_n hx hb dX6_sign_20 rfl (lv_at hl 1 rfl) ?_
    refine lv_icmp_ne (tgt := 28) hx hb dX6_sign_21 (by decide) (fun c_3 => ?_) (fun c_3 => ?_)
    · refine lv_iconst (v := 0) hx hb dX6_sign_28 (by decide) ?_
      refine lv_istore_n (lv' := [(2, .int 0), (0, .ref (q 0)), (1, .int a1)]) hx hb dX6_sign_29 rfl hl (by decide) rfl (fun ls hl => ?_)
      refine lv_aload_n hx hb dX6_sign_30 rfl (lv_at hl 1 rfl) ?_
      refine lv_dup hx hb dX6_sign_31 rfl ?_
      refine va_get (D := D) (ci := 6) (C := RX6) (T := TX6) (N := 16) hx hb hts iX6 hown hk.1 hP 0 (wM_0 _ _ _) rfl 9 (by decide) (hts (.fieldLink RX6 132 "BottleLoopModel" "place" "I") (List.mem_of_getElem? (i := 1) rfl)) (fun _ h9 => h9) rfl dX6_sign_32 ?_
      refine lv_iload_n hx hb dX6_sign_35 rfl (lv_at hl 0 rfl) ?_
      refine lv_if_eq (tgt := 43) hx hb dX6_sign_36 (by decide) (fun _ => ?_) (fun h9 => absurd (by decide) h9)
      refine lv_iconst (v := 0) hx hb dX6_sign_43 (by decide) ?_
      refine lv_iadd hx hb dX6_sign_44 ?_
      refine va_put (D := D) (ci := 6) (v := .int ((u 6 3) + 0)) (ty := .int) (C := RX6) (T := TX6) (N := 16) hx hb hts iX6 tyX6 tyX6_ok nmX6 hown hk.1 hP (wM_D hq) hS 0 (wM_0 _ _ _) rfl 9 (by decide) (hts (.fieldLink RX6 132 "BottleLoopModel" "place" "I") (List.mem_of_getElem? (i := 1) rfl)) (fun _ h9 => h9) rfl (by decide +kernel) rfl rfl (Nat.le_of_ble_eq_true rfl) dX6_sign_45 (fun H locs hP _ hS => ?_)
      have hP : va_P D vwCl (wM cI q (bput u 6 3 ((u 6 3) + 0))) H := pM_f3 hP
      have hI_4 : mInv (bput u 6 3 ((u 6 3) + 0)) := mInv_pl0 hI
      refine lv_iload_n hx hb dX6_sign_48 rfl (lv_at hl 0 rfl) ?_
      exact bret_Wz hx hb hr hP hI_4 hS hlocks dX6_sign_49 (Or.inl rfl) (by rw [← hF, F6_sign, if_neg c_1, if_neg c_3])
    · refine lv_iconst (v := 1) hx hb dX6_sign_24 (by decide) ?_
      refine lv_goto (tgt := 29) hx hb dX6_sign_25 (by decide) ?_
      refine lv_istore_n (lv' := [(2, .int 1), (0, .ref (q 0)), (1, .int a1)]) hx hb dX6_sign_29 rfl hl (by decide) rfl (fun ls hl => ?_)
      refine lv_aload_n hx hb dX6_sign_30 rfl (lv_at hl 1 rfl) ?_
      refine lv_dup hx hb dX6_sign_31 rfl ?_
      refine va_get (D := D) (ci := 6) (C := RX6) (T := TX6) (N := 16) hx hb hts iX6 hown hk.1 hP 0 (wM_0 _ _ _) rfl 9 (by decide) (hts (.fieldLink RX6 132 "BottleLoopModel" "place" "I") (List.mem_of_getElem? (i := 1) rfl)) (fun _ h9 => h9) rfl dX6_sign_32 ?_
      refine lv_iload_n hx hb dX6_sign_35 rfl (lv_at hl 0 rfl) ?_
      refine lv_if_eq (tgt := 43) hx hb dX6_sign_36 (by decide) (fun h9 => absurd h9 (by decide)) (fun _ => ?_)
      refine lv_iconst (v := 1) hx hb dX6_sign_39 (by decide) ?_
      refine lv_goto (tgt := 44) hx hb dX6_sign_40 (by decide) ?_
      refine lv_iadd hx hb dX6_sign_44 ?_
      refine va_put (D := D) (ci := 6) (v := .int ((u 6 3) + 1)) (ty := .int) (C := RX6) (T := TX6) (N := 16) hx hb hts iX6 tyX6 tyX6_ok nmX6 hown hk.1 hP (wM_D hq) hS 0 (wM_0 _ _ _) rfl 9 (by decide) (hts (.fieldLink RX6 132 "BottleLoopModel" "place" "I") (List.mem_of_getElem? (i := 1) rfl)) (fun _ h9 => h9) rfl (by decide +kernel) rfl rfl (Nat.le_of_ble_eq_true rfl) dX6_sign_45 (fun H locs hP _ hS => ?_)
      have hP : va_P D vwCl (wM cI q (bput u 6 3 ((u 6 3) + 1))) H := pM_f3 hP
      have hI_5 : mInv (bput u 6 3 ((u 6 3) + 1)) := mInv_pl1 hI c_1
      refine lv_iload_n hx hb dX6_sign_48 rfl (lv_at hl 0 rfl) ?_
      exact bret_Wz hx hb hr hP hI_5 hS hlocks dX6_sign_49 (Or.inr rfl) (by rw [← hF, F6_sign, if_neg c_1, if_pos c_3])
theorem B6_sign (u : bU) (a1 : Int32) : (F6_sign u a1).1 = 0 ∨ (F6_sign u a1).1 = 1 := by
  unfold F6_sign
  (repeat' split) <;> first | exact Or.inl rfl | exact Or.inr rfl
def F6_digitTo (u : bU) (a1 : Int32) : Int32 × bU := (if (u 6 1) ≤ (u 6 3) then (if (F6_in ((bput u 6 9 (-1)) 6 9) 0 a1) = 0 then ((F6_in ((bput u 6 9 (-1)) 6 9) 0 a1), (bput (bput u 6 9 (-1)) 6 3 (((bput u 6 9 (-1)) 6 3) + 0))) else ((F6_in ((bput u 6 9 (-1)) 6 9) 0 a1), (bput (bput u 6 9 (-1)) 6 3 (((bput u 6 9 (-1)) 6 3) + 1)))) else (if (F6_in ((bput u 6 9 ((u 3 (u 6 3).toNatClampNeg) - 48)) 6 9) 0 a1) = 0 then ((F6_in ((bput u 6 9 ((u 3 (u 6 3).toNatClampNeg) - 48)) 6 9) 0 a1), (bput (bput u 6 9 ((u 3 (u 6 3).toNatClampNeg) - 48)) 6 3 (((bput u 6 9 ((u 3 (u 6 3).toNatClampNeg) - 48)) 6 3) + 0))) else ((F6_in ((bput u 6 9 ((u 3 (u 6 3).toNatClampNeg) - 48)) 6 9) 0 a1), (bput (bput u 6 9 ((u 3 (u 6 3).toNatClampNeg) - 48)) 6 3 (((bput u 6 9 ((u 3 (u 6 3).toNatClampNeg) - 48)) 6 3) + 1)))))
set_option maxHeartbeats 4000000 in
set_option maxRecDepth 100000 in
theorem C6_digitTo (l : Launch) (D : va_G) (cI : ClassId) (q : Nat → Nat) (u : bU) (H0 : Heap) (hq : bInj 7 q) (hP : va_P D vwCl (wM cI q u) H0) (hI : mInv u) (a1 : Int32) : Met l yX6_digitTo wsX6_digitTo ({ frames := 1, cells := 0, slots := 0, locals := 22 }) (bP D [(cI, .int)] H0 [.ref (q 0), .int a1]) (bWi D (wM cI q) mInv (bA 7 q H0.size) (F6_digitTo u a1)) 0 0 (bA 7 q H0.size) := by
  refine Met.ofW (cc := cX6_digitTo) (maxL := 3) (ret := (some .boolean)) (by decide) rfl ?_
  intro p e s m args below meth c s₁ B hml hv
  obtain ⟨rfl, hH, hk⟩ := hv
  subst hH
  have hx := B.exec
  have hb := B.bytes
  have hr := B.returns
  have hts := atoms_spec (ws := wsX6_digitTo) B.pre
  have hown : s.vm.findClass RX6 = some m.cls := findClass_of_methodNamed B.named
  have hlocks := B.notSynchronized
  have hNB := mNB hI
  have hNS := mNS hI
  have hI0 := hI
  have iX6 : ∀ w ∈ wsX60, w ∈ wsX6_digitTo := by decide +kernel
  have hS : va_S (bA 7 q s.heap.size) s.heap s.heap [] := va_S.rf
  have hl := lv_entry ([.ref (q 0), .int a1]) (n := 3) (Nat.le_of_ble_eq_true rfl)
  rw [lg_entry_eq]
  generalize (lg_sl ([.ref (q 0), .int a1]) ++ List.replicate (3 - (lg_sl ([.ref (q 0), .int a1])).length) Slot.unset).toArray = ls at hl ⊢
  have hl : lv_has ls 3 [(0, .ref (q 0)), (1, .int a1)] := hl
  generalize hF : F6_digitTo u a1 = tgt
  refine lv_aload_n hx hb dX6_digitTo_0 rfl (lv_at hl 0 rfl) ?_
  refine lv_aload_n hx hb dX6_digitTo_1 rfl (lv_at hl 0 rfl) ?_
  refine va_get (D := D) (ci := 6) (C := RX6) (T := TX6) (N := 16) hx hb hts iX6 hown hk.1 hP 0 (wM_0 _ _ _) rfl 9 (by decide) (hts (.fieldLink RX6 132 "BottleLoopModel" "place" "I") (List.mem_of_getElem? (i := 1) rfl)) (fun _ h9 => h9) rfl dX6_digitTo_2 ?_
  refine lv_aload_n hx hb dX6_digitTo_5 rfl (lv_at hl 0 rfl) ?_
  refine va_get (D := D) (ci := 6) (C := RX6) (T := TX6) (N := 16) hx hb hts iX6 hown hk.1 hP 0 (wM_0 _ _ _) rfl 5 (by decide) (hts (.fieldLink RX6 129 "BottleLoopModel" "length" "I") (List.mem_of_getElem? (i := 2) rfl)) (fun _ h9 => h9) rfl dX6_digitTo_6 ?_
  refine lv_icmp_ge (tgt := 27) hx hb dX6_digitTo_9 (by decide) (fun c_1 => ?_) (fun c_1 => ?_)
  · refine lv_iconst (v := (-1)) hx hb dX6_digitTo_27 (by decide) ?_
    refine va_put (D := D) (ci := 6) (v := .int (-1)) (ty := .int) (C := RX6) (T := TX6) (N := 16) hx hb hts iX6 tyX6 tyX6_ok nmX6 hown hk.1 hP (wM_D hq) hS 0 (wM_0 _ _ _) rfl 15 (by decide) (hts (.fieldLink RX6 135 "BottleLoopModel" "digit" "I") (List.mem_of_getElem? (i := 4) rfl)) (fun _ h9 => h9) rfl (by decide +kernel) rfl rfl (Nat.le_of_ble_eq_true rfl) dX6_digitTo_28 (fun H locs hP _ hS => ?_)
    have hP : va_P D vwCl (wM cI q (bput u 6 9 (-1))) H := pM_f9 hP
    have hI_2 : mInv (bput u 6 9 (-1)) := mInv_sc (k := 9) hI (by decide) (by decide) (by decide)
    refine lv_aload_n hx hb dX6_digitTo_31 rfl (lv_at hl 0 rfl) ?_
    refine va_get (D := D) (ci := 6) (C := RX6) (T := TX6) (N := 16) hx hb hts iX6 hown hk.1 hP 0 (wM_0 _ _ _) rfl 15 (by decide) (hts (.fieldLink RX6 135 "BottleLoopModel" "digit" "I") (List.mem_of_getElem? (i := 4) rfl)) (fun _ h9 => h9) rfl dX6_digitTo_32 ?_
    refine lv_iconst (v := 0) hx hb dX6_digitTo_35 (by decide) ?_
    refine lv_iload_n hx hb dX6_digitTo_36 rfl (lv_at hl 1 rfl) ?_
    refine bcall_Ri (va_runS (As := [.int ((bput u 6 9 (-1)) 6 9), .int 0, .int a1]) (rest := []) ⟨hx, hb, hml, hown, hts⟩ (C6_in l D cI q _ ((bput u 6 9 (-1)) 6 9) 0 a1) (va_cwS 3 hts gX6_digitTo_X6_in rfl rfl rfl bd_X6in ⟨Nat.le_of_ble_eq_true rfl, Nat.le_of_ble_eq_true rfl⟩) (bPS hk) rfl rfl hl.1 rfl (lv_room (Nat.le_of_ble_eq_true rfl)) dX6_digitTo_37 ⟨Nat.zero_le _, Nat.zero_le _⟩) hS (fun locs hS => ?_)
    refine lv_istore_n (lv' := [(2, .int (F6_in ((bput u 6 9 (-1)) 6 9) 0 a1)), (0, .ref (q 0)), (1, .int a1)]) hx hb dX6_digitTo_40 rfl hl (by decide) rfl (fun ls hl => ?_)
    refine lv_aload_n hx hb dX6_digitTo_41 rfl (lv_at hl 1 rfl) ?_
    refine lv_dup hx hb dX6_digitTo_42 rfl ?_
    refine va_get (D := D) (ci := 6) (C := RX6) (T := TX6) (N := 16) hx hb hts iX6 hown hk.1 hP 0 (wM_0 _ _ _) rfl 9 (by decide) (hts (.fieldLink RX6 132 "BottleLoopModel" "place" "I") (List.mem_of_getElem? (i := 1) rfl)) (fun _ h9 => h9) rfl dX6_digitTo_43 ?_
    refine lv_iload_n hx hb dX6_digitTo_46 rfl (lv_at hl 0 rfl) ?_
    refine lv_if_eq (tgt := 54) hx hb dX6_digitTo_47 (by decide) (fun c_3 => ?_) (fun c_3 => ?_)
    · refine lv_iconst (v := 0) hx hb dX6_digitTo_54 (by decide) ?_
      refine lv_iadd hx hb dX6_digitTo_55 ?_
      refine va_put (D := D) (ci := 6) (v := .int (((bput u 6 9 (-1)) 6 3) + 0)) (ty := .int) (C := RX6) (T := TX6) (N := 16) hx hb hts iX6 tyX6 tyX6_ok nmX6 hown hk.1 hP (wM_D hq) hS 0 (wM_0 _ _ _) rfl 9 (by decide) (hts (.fieldLink RX6 132 "BottleLoopModel" "place" "I") (List.mem_of_getElem? (i := 1) rfl)) (fun _ h9 => h9) rfl (by decide +kernel) rfl rfl (Nat.le_of_ble_eq_true rfl) dX6_digitTo_56 (fun H locs hP _ hS => ?_)
      have hP : va_P D vwCl (wM cI q (bput (bput u 6 9 (-1)) 6 3 (((bput u 6 9 (-1)) 6 3) + 0))) H := pM_f3 hP
      have hI_4 : mInv (bput (bput u 6 9 (-1)) 6 3 (((bput u 6 9 (-1)) 6 3) + 0)) := mInv_pl0 hI_2
      refine lv_iload_n hx hb dX6_digitTo_59 rfl (lv_at hl 0 rfl) ?_
      exact bret_Wz hx hb hr hP hI_4 hS hlocks dX6_digitTo_60 (B6_in ((bput u 6 9 (-1)) 6 9) 0 a1) (by rw [← hF, F6_digitTo, if_pos c_1, if_pos c_3])
    · refine lv_iconst (v := 1) hx hb dX6_digitTo_50 (by decide) ?_
      refine lv_goto (tgt := 55) hx hb dX6_digitTo_51 (by decide) ?_
      refine lv_iadd hx hb dX6_digitTo_55 ?_
      refine va_put (D := D) (ci := 6) (v := .int (((bput u 6 9 (-1)) 6 3) + 1)) (ty := .int) (C := RX6) (T := TX6) (N := 16) hx hb hts iX6 tyX6 tyX6_ok nmX6 hown hk.1 hP (wM_D hq) hS 0 (wM_0 _ _ _) rfl 9 (by decide) (hts (.fieldLink RX6 132 "BottleLoopModel" "place" "I") (List.mem_of_getElem? (i := 1) rfl)) (fun _ h9 => h9) rfl (by decide +kernel) rfl rfl (Nat.le_of_ble_eq_true rfl) dX6_digitTo_56 (fun H locs hP _ hS => ?_)
      have hP : va_P D vwCl (wM cI q (bput (bput u 6 9 (-1)) 6 3 (((bput u 6 9 (-1)) 6 3) + 1))) H := pM_f3 hP
      have hI_5 : mInv (bput (bput u 6 9 (-1)) 6 3 (((bput u 6 9 (-1)) 6 3) + 1)) := (mNoDigit c_3).elim
      refine lv_iload_n hx hb dX6_digitTo_59 rfl (lv_at hl 0 rfl) ?_
      exact bret_Wz hx hb hr hP hI_5 hS hlocks dX6_digitTo_60 (B6_in ((bput u 6 9 (-1)) 6 9) 0 a1) (by rw [← hF, F6_digitTo, if_pos c_1, if_neg c_3])
  · refine lv_aload_n hx hb dX6_digitTo_12 rfl (lv_at hl 0 rfl) ?_
    refine va_get (D := D) (ci := 6) (C := RX6) (T := TX6) (N := 16) hx hb hts iX6 hown hk.1 hP 0 (wM_0 _ _ _) rfl 4 (by decide) (hts (.fieldLink RX6 19 "BottleLoopModel" "text" "[I") (List.mem_of_getElem? (i := 3) rfl)) (fun _ h9 => h9) rfl dX6_digitTo_13 ?_
    refine lv_aload_n hx hb dX6_digitTo_16 rfl (lv_at hl 0 rfl) ?_
    refine va_get (D := D) (ci := 6) (C := RX6) (T := TX6) (N := 16) hx hb hts iX6 hown hk.1 hP 0 (wM_0 _ _ _) rfl 9 (by decide) (hts (.fieldLink RX6 132 "BottleLoopModel" "place" "I") (List.mem_of_getElem? (i := 1) rfl)) (fun _ h9 => h9) rfl dX6_digitTo_17 ?_
    refine va_iald hx hb hk.1 hP 4 0 (wM_4 _ _ _) rfl (mXpl hI c_1) dX6_digitTo_20 ?_
    refine lv_bipush (v := 48) hx hb dX6_digitTo_21 (by decide) ?_
    refine lv_isub hx hb dX6_digitTo_23 ?_
    refine lv_goto (tgt := 28) hx hb dX6_digitTo_24 (by decide) ?_
    refine va_put (D := D) (ci := 6) (v := .int ((u 3 (u 6 3).toNatClampNeg) - 48)) (ty := .int) (C := RX6) (T := TX6) (N := 16) hx hb hts iX6 tyX6 tyX6_ok nmX6 hown hk.1 hP (wM_D hq) hS 0 (wM_0 _ _ _) rfl 15 (by decide) (hts (.fieldLink RX6 135 "BottleLoopModel" "digit" "I") (List.mem_of_getElem? (i := 4) rfl)) (fun _ h9 => h9) rfl (by decide +kernel) rfl rfl (Nat.le_of_ble_eq_true rfl) dX6_digitTo_28 (fun H locs hP _ hS => ?_)
    have hP : va_P D vwCl (wM cI q (bput u 6 9 ((u 3 (u 6 3).toNatClampNeg) - 48))) H := pM_f9 hP
    have hI_6 : mInv (bput u 6 9 ((u 3 (u 6 3).toNatClampNeg) - 48)) := mInv_sc (k := 9) hI (by decide) (by decide) (by decide)
    refine lv_aload_n hx hb dX6_digitTo_31 rfl (lv_at hl 0 rfl) ?_
    refine va_get (D := D) (ci := 6) (C := RX6) (T := TX6) (N := 16) hx hb hts iX6 hown hk.1 hP 0 (wM_0 _ _ _) rfl 15 (by decide) (hts (.fieldLink RX6 135 "BottleLoopModel" "digit" "I") (List.mem_of_getElem? (i := 4) rfl)) (fun _ h9 => h9) rfl dX6_digitTo_32 ?_
    refine lv_iconst (v := 0) hx hb dX6_digitTo_35 (by decide) ?_
    refine lv_iload_n hx hb dX6_digitTo_36 rfl (lv_at hl 1 rfl) ?_
    refine bcall_Ri (va_runS (As := [.int ((bput u 6 9 ((u 3 (u 6 3).toNatClampNeg) - 48)) 6 9), .int 0, .int a1]) (rest := []) ⟨hx, hb, hml, hown, hts⟩ (C6_in l D cI q _ ((bput u 6 9 ((u 3 (u 6 3).toNatClampNeg) - 48)) 6 9) 0 a1) (va_cwS 3 hts gX6_digitTo_X6_in rfl rfl rfl bd_X6in ⟨Nat.le_of_ble_eq_true rfl, Nat.le_of_ble_eq_true rfl⟩) (bPS hk) rfl rfl hl.1 rfl (lv_room (Nat.le_of_ble_eq_true rfl)) dX6_digitTo_37 ⟨Nat.zero_le _, Nat.zero_le _⟩) hS (fun locs hS => ?_)
    refine lv_istore_n (lv' := [(2, .int (F6_in ((bput u 6 9 ((u 3 (u 6 3).toNatClampNeg) - 48)) 6 9) 0 a1)), (0, .ref (q 0)), (1, .int a1)]) hx hb dX6_digitTo_40 rfl hl (by decide) rfl (fun ls hl => ?_)
    refine lv_aload_n hx hb dX6_digitTo_41 rfl (lv_at hl 1 rfl) ?_
    refine lv_dup hx hb dX6_digitTo_42 rfl ?_
    refine va_get (D := D) (ci := 6) (C := RX6) (T := TX6) (N := 16) hx hb hts iX6 hown hk.1 hP 0 (wM_0 _ _ _) rfl 9 (by decide) (hts (.fieldLink RX6 132 "BottleLoopModel" "place" "I") (List.mem_of_getElem? (i := 1) rfl)) (fun _ h9 => h9) rfl dX6_digitTo_43 ?_
    refine lv_iload_n hx hb dX6_digitTo_46 rfl (lv_at hl 0 rfl) ?_
    refine lv_if_eq (tgt := 54) hx hb dX6_digitTo_47 (by decide) (fun c_7 => ?_) (fun c_7 => ?_)
    · refine lv_iconst (v := 0) hx hb dX6_digitTo_54 (by decide) ?_
      refine lv_iadd hx hb dX6_digitTo_55 ?_
      refine va_put (D := D) (ci := 6) (v := .int (((bput u 6 9 ((u 3 (u 6 3).toNatClampNeg) - 48)) 6 3) + 0)) (ty := .int) (C := RX6) (T := TX6) (N := 16) hx hb hts iX6 tyX6 tyX6_ok nmX6 hown hk.1 hP (wM_D hq) hS 0 (wM_0 _ _ _) rfl 9 (by decide) (hts (.fieldLink RX6 132 "BottleLoopModel" "place" "I") (List.mem_of_getElem? (i := 1) rfl)) (fun _ h9 => h9) rfl (by decide +kernel) rfl rfl (Nat.le_of_ble_eq_true rfl) dX6_digitTo_56 (fun H locs hP _ hS => ?_)
      have hP : va_P D vwCl (wM cI q (bput (bput u 6 9 ((u 3 (u 6 3).toNatClampNeg) - 48)) 6 3 (((bput u 6 9 ((u 3 (u 6 3).toNatClampNeg) - 48)) 6 3) + 0))) H := pM_f3 hP
      have hI_8 : mInv (bput (bput u 6 9 ((u 3 (u 6 3).toNatClampNeg) - 48)) 6 3 (((bput u 6 9 ((u 3 (u 6 3).toNatClampNeg) - 48)) 6 3) + 0)) := mInv_pl0 hI_6
      refine lv_iload_n hx hb dX6_digitTo_59 rfl (lv_at hl 0 rfl) ?_
      exact bret_Wz hx hb hr hP hI_8 hS hlocks dX6_digitTo_60 (B6_in ((bput u 6 9 ((u 3 (u 6 3).toNatClampNeg) - 48)) 6 9) 0 a1) (by rw [← hF, F6_digitTo, if_neg c_1, if_pos c_7])
    · refine lv_iconst (v := 1) hx hb dX6_digitTo_50 (by decide) ?_
      refine lv_goto (tgt := 55) hx hb dX6_digitTo_51 (by decide) ?_
      refine lv_iadd hx hb dX6_digitTo_55 ?_
      refine va_put (D := D) (ci := 6) (v := .int (((bput u 6 9 ((u 3 (u 6 3).toNatClampNeg) - 48)) 6 3) + 1)) (ty := .int) (C := RX6) (T := TX6) (N := 16) hx hb hts iX6 tyX6 tyX6_ok nmX6 hown hk.1 hP (wM_D hq) hS 0 (wM_0 _ _ _) rfl 9 (by decide) (hts (.fieldLink RX6 132 "BottleLoopModel" "place" "I") (List.mem_of_getElem? (i := 1) rfl)) (fun _ h9 => h9) rfl (by decide +kernel) rfl rfl (Nat.le_of_ble_eq_true rfl) dX6_digitTo_56 (fun H locs hP _ hS => ?_)
      have hP : va_P D vwCl (wM cI q (bput (bput u 6 9 ((u 3 (u 6 3).toNatClampNeg) - 48)) 6 3 (((bput u 6 9 ((u 3 (u 6 3).toNatClampNeg) - 48)) 6 3) + 1))) H := pM_f3 hP
      have hI_9 : mInv (bput (bput u 6 9 ((u 3 (u 6 3).toNatClampNeg) - 48)) 6 3 (((bput u 6 9 ((u 3 (u 6 3).toNatClampNeg) - 48)) 6 3) + 1)) := mInv_pl1 hI_6 c_1
      refine lv_iload_n hx hb dX6_digitTo_59 rfl (lv_at hl 0 rfl) ?_
      exact bret_Wz hx hb hr hP hI_9 hS hlocks dX6_digitTo_60 (B6_in ((bput u 6 9 ((u 3 (u 6 3).toNatClampNeg) - 48)) 6 9) 0 a1) (by rw [← hF, F6_digitTo, if_neg c_1, if_neg c_7])
theorem B6_digitTo (u : bU) (a1 : Int32) : (F6_digitTo u a1).1 = 0 ∨ (F6_digitTo u a1).1 = 1 := by
  unfold F6_digitTo
  (repeat' split) <;> first | exact Or.inl rfl | exact Or.inr rfl | exact (B6_in ((bput u 6 9 (-1)) 6 9) 0 a1) | exact (B6_in ((bput u 6 9 ((u 3 (u 6 3).toNatClampNeg) - 48)) 6 9) 0 a1)

theorem bd_X6aboutBrand : yX6_aboutBrand.cls ≠ "java/lang/invoke/MethodHandle" ∧ yX6_aboutBrand.cls ≠ "java/lang/invoke/VarHandle" ∧ (parseMethodDescriptor yX6_aboutBrand.desc).map (fun d => d.parameters.length) = some 2 := by decide +kernel
theorem bd_X6aboutShop : yX6_aboutShop.cls ≠ "java/lang/invoke/MethodHandle" ∧ yX6_aboutShop.cls ≠ "java/lang/invoke/VarHandle" ∧ (parseMethodDescriptor yX6_aboutShop.desc).map (fun d => d.parameters.length) = some 2 := by decide +kernel
theorem bd_X6deliverable : yX6_deliverable.cls ≠ "java/lang/invoke/MethodHandle" ∧ yX6_deliverable.cls ≠ "java/lang/invoke/VarHandle" ∧ (parseMethodDescriptor yX6_deliverable.desc).map (fun d => d.parameters.length) = some 2 := by decide +kernel
theorem bd_X6number : yX6_number.cls ≠ "java/lang/invoke/MethodHandle" ∧ yX6_number.cls ≠ "java/lang/invoke/VarHandle" ∧ (parseMethodDescriptor yX6_number.desc).map (fun d => d.parameters.length) = some 1 := by decide +kernel
def F6_brand (u : bU) (a1 : Int32) (a2 : Int32) : Int32 × bU := (if (F6_isBrand (bput u 6 2 0) a1) = 0 then ((F6_fails (bput u 6 2 0) 1).1, (F6_fails (bput u 6 2 0) 1).2) else (if (F6_in a2 0 11) = 0 then ((F6_fails (bput u 6 2 0) 2).1, (F6_fails (bput u 6 2 0) 2).2) else ((F6_aboutBrand (bput u 6 2 0) a1 a2), (bput u 6 2 0))))
set_option maxHeartbeats 4000000 in
set_option maxRecDepth 100000 in
theorem C6_brand (l : Launch) (D : va_G) (cI : ClassId) (q : Nat → Nat) (u : bU) (H0 : Heap) (hq : bInj 7 q) (hP : va_P D vwCl (wM cI q u) H0) (hI : mInv u) (a1 : Int32) (a2 : Int32) : Met l yX6_brand wsX6_brand ({ frames := 4, cells := 0, slots := 0, locals := 89 }) (bP D [(cI, .int)] H0 [.ref (q 0), .int a1, .int a2]) (bWi D (wM cI q) mInv (bA 7 q H0.size) (F6_brand u a1 a2)) 0 0 (bA 7 q H0.size) := by
  refine Met.ofW (cc := cX6_brand) (maxL := 3) (ret := (some .int)) (by decide) rfl ?_
  intro p e s m args below meth c s₁ B hml hv
  obtain ⟨rfl, hH, hk⟩ := hv
  subst hH
  have hx := B.exec
  have hb := B.bytes
  have hr := B.returns
  have hts := atoms_spec (ws := wsX6_brand) B.pre
  have hown : s.vm.findClass RX6 = some m.cls := findClass_of_methodNamed B.named
  have hlocks := B.notSynchronized
  have hNB := mNB hI
  have hNS := mNS hI
  have hI0 := hI
  have iX6 : ∀ w ∈ wsX60, w ∈ wsX6_brand := by decide +kernel
  have hS : va_S (bA 7 q s.heap.size) s.heap s.heap [] := va_S.rf
  have hl := lv_entry ([.ref (q 0), .int a1, .int a2]) (n := 3) (Nat.le_of_ble_eq_true rfl)
  rw [lg_entry_eq]
  generalize (lg_sl ([.ref (q 0), .int a1, .int a2]) ++ List.replicate (3 - (lg_sl ([.ref (q 0), .int a1, .int a2])).length) Slot.unset).toArray = ls at hl ⊢
  have hl : lv_has ls 3 [(0, .ref (q 0)), (1, .int a1), (2, .int a2)] := hl
  generalize hF : F6_brand u a1 a2 = tgt
  refine lv_aload_n hx hb dX6_brand_0 rfl (lv_at hl 0 rfl) ?_
  refine lv_iconst (v := 0) hx hb dX6_brand_1 (by decide) ?_
  refine va_put (D := D) (ci := 6) (v := .int 0) (ty := .int) (C := RX6) (T := TX6) (N := 16) hx hb hts iX6 tyX6 tyX6_ok nmX6 hown hk.1 hP (wM_D hq) hS 0 (wM_0 _ _ _) rfl 6 (by decide) (hts (.fieldLink RX6 28 "BottleLoopModel" "thrown" "I") (List.mem_of_getElem? (i := 1) rfl)) (fun _ h9 => h9) rfl (by decide +kernel) rfl rfl (Nat.le_of_ble_eq_true rfl) dX6_brand_2 (fun H locs hP _ hS => ?_)
  have hP : va_P D vwCl (wM cI q (bput u 6 2 0)) H := pM_f2 hP
  have hI_1 : mInv (bput u 6 2 0) := mInv_sc (k := 2) hI (by decide) (by decide) (by decide)
  refine lv_aload_n hx hb dX6_brand_5 rfl (lv_at hl 0 rfl) ?_
  refine lv_iload_n hx hb dX6_brand_6 rfl (lv_at hl 1 rfl) ?_
  refine bcall_Ri (va_runV (As := [.int a1]) (rest := []) ⟨hx, hb, hml, hown, hts⟩ (C6_isBrand l D cI q _ _ hP hI_1 a1) (cwV 1 hts gX6_brand_X6_isBrand rfl rfl rfl ⟨rfl, bd_X6isBrand⟩ ⟨Nat.le_of_ble_eq_true rfl, Nat.le_of_ble_eq_true rfl⟩) (bPV hk (va_recv hk.1 hP (ci := 6) (q0 := 0) rfl (wM_0 _ _ _))) rfl rfl hl.1 rfl (lv_room (Nat.le_of_ble_eq_true rfl)) dX6_brand_7 ⟨Nat.zero_le _, Nat.zero_le _⟩) hS (fun locs hS => ?_)
  refine lv_if_ne (tgt := 19) hx hb dX6_brand_10 (by decide) (fun c_2 => ?_) (fun c_2 => ?_)
  · have hm_3 : mB a1 := mB_is hI_1 c_2
    refine lv_iload_n hx hb dX6_brand_19 rfl (lv_at hl 2 rfl) ?_
    refine lv_iconst (v := 0) hx hb dX6_brand_20 (by decide) ?_
    refine lv_bipush (v := 11) hx hb dX6_brand_21 (by decide) ?_
    refine bcall_Ri (va_runS (As := [.int a2, .int 0, .int 11]) (rest := []) ⟨hx, hb, hml, hown, hts⟩ (C6_in l D cI q _ a2 0 11) (va_cwS 3 hts gX6_brand_X6_in rfl rfl rfl bd_X6in ⟨Nat.le_of_ble_eq_true rfl, Nat.le_of_ble_eq_true rfl⟩) (bPS hk) rfl rfl hl.1 rfl (lv_room (Nat.le_of_ble_eq_true rfl)) dX6_brand_23 ⟨Nat.zero_le _, Nat.zero_le _⟩) hS (fun locs hS => ?_)
    refine lv_if_eq (tgt := 38) hx hb dX6_brand_26 (by decide) (fun c_4 => ?_) (fun c_4 => ?_)
    · refine lv_aload_n hx hb dX6_brand_38 rfl (lv_at hl 0 rfl) ?_
      refine lv_iconst (v := 2) hx hb dX6_brand_39 (by decide) ?_
      refine bcall_Wi (va_runV (As := [.int 2]) (rest := []) ⟨hx, hb, hml, hown, hts⟩ (C6_fails l D cI q _ _ hq hP hI_1 2) (cwV 1 hts gX6_brand_X6_fails rfl rfl rfl ⟨rfl, bd_X6fails⟩ ⟨Nat.le_of_ble_eq_true rfl, Nat.le_of_ble_eq_true rfl⟩) (bPV hk (va_recv hk.1 hP (ci := 6) (q0 := 0) rfl (wM_0 _ _ _))) rfl rfl hl.1 rfl (lv_room (Nat.le_of_ble_eq_true rfl)) dX6_brand_40 ⟨Nat.zero_le _, Nat.zero_le _⟩) hS (fun H locs hP hI_5 hS => ?_)
      exact bret_Wi hx hb hr hP hI_5 hS hlocks dX6_brand_43 (by rw [← hF, F6_brand, if_neg c_2, if_pos c_4])
    · refine lv_aload_n hx hb dX6_brand_29 rfl (lv_at hl 0 rfl) ?_
      refine lv_iload_n hx hb dX6_brand_30 rfl (lv_at hl 1 rfl) ?_
      refine lv_iload_n hx hb dX6_brand_31 rfl (lv_at hl 2 rfl) ?_
      refine bcall_Ri (va_runV (As := [.int a1, .int a2]) (rest := []) ⟨hx, hb, hml, hown, hts⟩ (C6_aboutBrand l D cI q _ _ hP hI_1 a1 a2 hm_3 (mW12_in c_4)) (cwV 2 hts gX6_brand_X6_aboutBrand rfl rfl rfl ⟨rfl, bd_X6aboutBrand⟩ ⟨Nat.le_of_ble_eq_true rfl, Nat.le_of_ble_eq_true rfl⟩) (bPV hk (va_recv hk.1 hP (ci := 6) (q0 := 0) rfl (wM_0 _ _ _))) rfl rfl hl.1 rfl (lv_room (Nat.le_of_ble_eq_true rfl)) dX6_brand_32 ⟨Nat.zero_le _, Nat.zero_le _⟩) hS (fun locs hS => ?_)
      refine lv_goto (tgt := 43) hx hb dX6_brand_35 (by decide) ?_
      exact bret_Wi hx hb hr hP hI_1 hS hlocks dX6_brand_43 (by rw [← hF, F6_brand, if_neg c_2, if_neg c_4])
  · refine lv_aload_n hx hb dX6_brand_13 rfl (lv_at hl 0 rfl) ?_
    refine lv_iconst (v := 1) hx hb dX6_brand_14 (by decide) ?_
    refine bcall_Wi (va_runV (As := [.int 1]) (rest := []) ⟨hx, hb, hml, hown, hts⟩ (C6_fails l D cI q _ _ hq hP hI_1 1) (cwV 1 hts gX6_brand_X6_fails rfl rfl rfl ⟨rfl, bd_X6fails⟩ ⟨Nat.le_of_ble_eq_true rfl, Nat.le_of_ble_eq_true rfl⟩) (bPV hk (va_recv hk.1 hP (ci := 6) (q0 := 0) rfl (wM_0 _ _ _))) rfl rfl hl.1 rfl (lv_room (Nat.le_of_ble_eq_true rfl)) dX6_brand_15 ⟨Nat.zero_le _, Nat.zero_le _⟩) hS (fun H locs hP hI_6 hS => ?_)
    exact bret_Wi hx hb hr hP hI_6 hS hlocks dX6_brand_18 (by rw [← hF, F6_brand, if_pos c_2])
def F6_shop (u : bU) (a1 : Int32) (a2 : Int32) : Int32 × bU := (if (F6_isShop (bput u 6 2 0) a1) = 0 then ((F6_fails (bput u 6 2 0) 1).1, (F6_fails (bput u 6 2 0) 1).2) else (if (F6_in a2 0 6) = 0 then (if (F6_in a2 10 17) = 0 then (if (F6_in a2 20 27) = 0 then ((F6_fails (bput u 6 2 0) 2).1, (F6_fails (bput u 6 2 0) 2).2) else ((F6_aboutShop (bput u 6 2 0) a1 a2), (bput u 6 2 0))) else ((F6_aboutShop (bput u 6 2 0) a1 a2), (bput u 6 2 0))) else ((F6_aboutShop (bput u 6 2 0) a1 a2), (bput u 6 2 0))))
set_option maxHeartbeats 4000000 in
set_option maxRecDepth 100000 in
theorem C6_shop (l : Launch) (D : va_G) (cI : ClassId) (q : Nat → Nat) (u : bU) (H0 : Heap) (hq : bInj 7 q) (hP : va_P D vwCl (wM cI q u) H0) (hI : mInv u) (a1 : Int32) (a2 : Int32) : Met l yX6_shop wsX6_shop ({ frames := 4, cells := 0, slots := 0, locals := 89 }) (bP D [(cI, .int)] H0 [.ref (q 0), .int a1, .int a2]) (bWi D (wM cI q) mInv (bA 7 q H0.size) (F6_shop u a1 a2)) 0 0 (bA 7 q H0.size) := by
  refine Met.ofW (cc := cX6_shop) (maxL := 3) (ret := (some .int)) (by decide) rfl ?_
  intro p e s m args below meth c s₁ B hml hv
  obtain ⟨rfl, hH, hk⟩ := hv
  subst hH
  have hx := B.exec
  have hb := B.bytes
  have hr := B.returns
  have hts := atoms_spec (ws := wsX6_shop) B.pre
  have hown : s.vm.findClass RX6 = some m.cls := findClass_of_methodNamed B.named
  have hlocks := B.notSynchronized
  have hNB := mNB hI
  have hNS := mNS hI
  have hI0 := hI
  have iX6 : ∀ w ∈ wsX60, w ∈ wsX6_shop := by decide +kernel
  have hS : va_S (bA 7 q s.heap.size) s.heap s.heap [] := va_S.rf
  have hl := lv_entry ([.ref (q 0), .int a1, .int a2]) (n := 3) (Nat.le_of_ble_eq_true rfl)
  rw [lg_entry_eq]
  generalize (lg_sl ([.ref (q 0), .int a1, .int a2]) ++ List.replicate (3 - (lg_sl ([.ref (q 0), .int a1, .int a2])).length) Slot.unset).toArray = ls at hl ⊢
  have hl : lv_has ls 3 [(0, .ref (q 0)), (1, .int a1), (2, .int a2)] := hl
  generalize hF : F6_shop u a1 a2 = tgt
  refine lv_aload_n hx hb dX6_shop_0 rfl (lv_at hl 0 rfl) ?_
  refine lv_iconst (v := 0) hx hb dX6_shop_1 (by decide) ?_
  refine va_put (D := D) (ci := 6) (v := .int 0) (ty := .int) (C := RX6) (T := TX6) (N := 16) hx hb hts iX6 tyX6 tyX6_ok nmX6 hown hk.1 hP (wM_D hq) hS 0 (wM_0 _ _ _) rfl 6 (by decide) (hts (.fieldLink RX6 28 "BottleLoopModel" "thrown" "I") (List.mem_of_getElem? (i := 1) rfl)) (fun _ h9 => h9) rfl (by decide +kernel) rfl rfl (Nat.le_of_ble_eq_true rfl) dX6_shop_2 (fun H locs hP _ hS => ?_)
  have hP : va_P D vwCl (wM cI q (bput u 6 2 0)) H := pM_f2 hP
  have hI_1 : mInv (bput u 6 2 0) := mInv_sc (k := 2) hI (by decide) (by decide) (by decide)
  refine lv_aload_n hx hb dX6_shop_5 rfl (lv_at hl 0 rfl) ?_
  refine lv_iload_n hx hb dX6_shop_6 rfl (lv_at hl 1 rfl) ?_
  refine bcall_Ri (va_runV (As := [.int a1]) (rest := []) ⟨hx, hb, hml, hown, hts⟩ (C6_isShop l D cI q _ _ hP hI_1 a1) (cwV 1 hts gX6_shop_X6_isShop rfl rfl rfl ⟨rfl, bd_X6isShop⟩ ⟨Nat.le_of_ble_eq_true rfl, Nat.le_of_ble_eq_true rfl⟩) (bPV hk (va_recv hk.1 hP (ci := 6) (q0 := 0) rfl (wM_0 _ _ _))) rfl rfl hl.1 rfl (lv_room (Nat.le_of_ble_eq_true rfl)) dX6_shop_7 ⟨Nat.zero_le _, Nat.zero_le _⟩) hS (fun locs hS => ?_)
  refine lv_if_ne (tgt := 19) hx hb dX6_shop_10 (by decide) (fun c_2 => ?_) (fun c_2 => ?_)
  · have hm_3 : mS a1 := mS_is hI_1 c_2
    refine lv_iload_n hx hb dX6_shop_19 rfl (lv_at hl 2 rfl) ?_
    refine lv_iconst (v := 0) hx hb dX6_shop_20 (by decide) ?_
    refine lv_bipush (v := 6) hx hb dX6_shop_21 (by decide) ?_
    refine bcall_Ri (va_runS (As := [.int a2, .int 0, .int 6]) (rest := []) ⟨hx, hb, hml, hown, hts⟩ (C6_in l D cI q _ a2 0 6) (va_cwS 3 hts gX6_shop_X6_in rfl rfl rfl bd_X6in ⟨Nat.le_of_ble_eq_true rfl, Nat.le_of_ble_eq_true rfl⟩) (bPS hk) rfl rfl hl.1 rfl (lv_room (Nat.le_of_ble_eq_true rfl)) dX6_shop_23 ⟨Nat.zero_le _, Nat.zero_le _⟩) hS (fun locs hS => ?_)
    refine lv_if_ne (tgt := 51) hx hb dX6_shop_26 (by decide) (fun c_4 => ?_) (fun c_4 => ?_)
    · refine lv_aload_n hx hb dX6_shop_51 rfl (lv_at hl 0 rfl) ?_
      refine lv_iload_n hx hb dX6_shop_52 rfl (lv_at hl 1 rfl) ?_
      refine lv_iload_n hx hb dX6_shop_53 rfl (lv_at hl 2 rfl) ?_
      refine bcall_Ri (va_runV (As := [.int a1, .int a2]) (rest := []) ⟨hx, hb, hml, hown, hts⟩ (C6_aboutShop l D cI q _ _ hP hI_1 a1 a2 hm_3 (mW28_in (lo := 0) (hi := 6) c_4 (by decide) (by decide))) (cwV 2 hts gX6_shop_X6_aboutShop rfl rfl rfl ⟨rfl, bd_X6aboutShop⟩ ⟨Nat.le_of_ble_eq_true rfl, Nat.le_of_ble_eq_true rfl⟩) (bPV hk (va_recv hk.1 hP (ci := 6) (q0 := 0) rfl (wM_0 _ _ _))) rfl rfl hl.1 rfl (lv_room (Nat.le_of_ble_eq_true rfl)) dX6_shop_54 ⟨Nat.zero_le _, Nat.zero_le _⟩) hS (fun locs hS => ?_)
      refine lv_goto (tgt := 65) hx hb dX6_shop_57 (by decide) ?_
      exact bret_Wi hx hb hr hP hI_1 hS hlocks dX6_shop_65 (by rw [← hF, F6_shop, if_neg c_2, if_neg c_4])
    · refine lv_iload_n hx hb dX6_shop_29 rfl (lv_at hl 2 rfl) ?_
      refine lv_bipush (v := 10) hx hb dX6_shop_30 (by decide) ?_
      refine lv_bipush (v := 17) hx hb dX6_shop_32 (by decide) ?_
      refine bcall_Ri (va_runS (As := [.int a2, .int 10, .int 17]) (rest := []) ⟨hx, hb, hml, hown, hts⟩ (C6_in l D cI q _ a2 10 17) (va_cwS 3 hts gX6_shop_X6_in rfl rfl rfl bd_X6in ⟨Nat.le_of_ble_eq_true rfl, Nat.le_of_ble_eq_true rfl⟩) (bPS hk) rfl rfl hl.1 rfl (lv_room (Nat.le_of_ble_eq_true rfl)) dX6_shop_34 ⟨Nat.zero_le _, Nat.zero_le _⟩) hS (fun locs hS => ?_)
      refine lv_if_ne (tgt := 51) hx hb dX6_shop_37 (by decide) (fun c_5 => ?_) (fun c_5 => ?_)
      · refine lv_aload_n hx hb dX6_shop_51 rfl (lv_at hl 0 rfl) ?_
        refine lv_iload_n hx hb dX6_shop_52 rfl (lv_at hl 1 rfl) ?_
        refine lv_iload_n hx hb dX6_shop_53 rfl (lv_at hl 2 rfl) ?_
        refine bcall_Ri (va_runV (As := [.int a1, .int a2]) (rest := []) ⟨hx, hb, hml, hown, hts⟩ (C6_aboutShop l D cI q _ _ hP hI_1 a1 a2 hm_3 (mW28_in (lo := 10) (hi := 17) c_5 (by decide) (by decide))) (cwV 2 hts gX6_shop_X6_aboutShop rfl rfl rfl ⟨rfl, bd_X6aboutShop⟩ ⟨Nat.le_of_ble_eq_true rfl, Nat.le_of_ble_eq_true rfl⟩) (bPV hk (va_recv hk.1 hP (ci := 6) (q0 := 0) rfl (wM_0 _ _ _))) rfl rfl hl.1 rfl (lv_room (Nat.le_of_ble_eq_true rfl)) dX6_shop_54 ⟨Nat.zero_le _, Nat.zero_le _⟩) hS (fun locs hS => ?_)
        refine lv_goto (tgt := 65) hx hb dX6_shop_57 (by decide) ?_
        exact bret_Wi hx hb hr hP hI_1 hS hlocks dX6_shop_65 (by rw [← hF, F6_shop, if_neg c_2, if_pos c_4, if_neg c_5])
      · refine lv_iload_n hx hb dX6_shop_40 rfl (lv_at hl 2 rfl) ?_
        refine lv_bipush (v := 20) hx hb dX6_shop_41 (by decide) ?_
        refine lv_bipush (v := 27) hx hb dX6_shop_43 (by decide) ?_
        refine bcall_Ri (va_runS (As := [.int a2, .int 20, .int 27]) (rest := []) ⟨hx, hb, hml, hown, hts⟩ (C6_in l D cI q _ a2 20 27) (va_cwS 3 hts gX6_shop_X6_in rfl rfl rfl bd_X6in ⟨Nat.le_of_ble_eq_true rfl, Nat.le_of_ble_eq_true rfl⟩) (bPS hk) rfl rfl hl.1 rfl (lv_room (Nat.le_of_ble_eq_true rfl)) dX6_shop_45 ⟨Nat.zero_le _, Nat.zero_le _⟩) hS (fun locs hS => ?_)
        refine lv_if_eq (tgt := 60) hx hb dX6_shop_48 (by decide) (fun c_6 => ?_) (fun c_6 => ?_)
        · refine lv_aload_n hx hb dX6_shop_60 rfl (lv_at hl 0 rfl) ?_
          refine lv_iconst (v := 2) hx hb dX6_shop_61 (by decide) ?_
          refine bcall_Wi (va_runV (As := [.int 2]) (rest := []) ⟨hx, hb, hml, hown, hts⟩ (C6_fails l D cI q _ _ hq hP hI_1 2) (cwV 1 hts gX6_shop_X6_fails rfl rfl rfl ⟨rfl, bd_X6fails⟩ ⟨Nat.le_of_ble_eq_true rfl, Nat.le_of_ble_eq_true rfl⟩) (bPV hk (va_recv hk.1 hP (ci := 6) (q0 := 0) rfl (wM_0 _ _ _))) rfl rfl hl.1 rfl (lv_room (Nat.le_of_ble_eq_true rfl)) dX6_shop_62 ⟨Nat.zero_le _, Nat.zero_le _⟩) hS (fun H locs hP hI_7 hS => ?_)
          exact bret_Wi hx hb hr hP hI_7 hS hlocks dX6_shop_65 (by rw [← hF, F6_shop, if_neg c_2, if_pos c_4, if_pos c_5, if_pos c_6])
        · refine lv_aload_n hx hb dX6_shop_51 rfl (lv_at hl 0 rfl) ?_
          refine lv_iload_n hx hb dX6_shop_52 rfl (lv_at hl 1 rfl) ?_
          refine lv_iload_n hx hb dX6_shop_53 rfl (lv_at hl 2 rfl) ?_
          refine bcall_Ri (va_runV (As := [.int a1, .int a2]) (rest := []) ⟨hx, hb, hml, hown, hts⟩ (C6_aboutShop l D cI q _ _ hP hI_1 a1 a2 hm_3 (mW28_in (lo := 20) (hi := 27) c_6 (by decide) (by decide))) (cwV 2 hts gX6_shop_X6_aboutShop rfl rfl rfl ⟨rfl, bd_X6aboutShop⟩ ⟨Nat.le_of_ble_eq_true rfl, Nat.le_of_ble_eq_true rfl⟩) (bPV hk (va_recv hk.1 hP (ci := 6) (q0 := 0) rfl (wM_0 _ _ _))) rfl rfl hl.1 rfl (lv_room (Nat.le_of_ble_eq_true rfl)) dX6_shop_54 ⟨Nat.zero_le _, Nat.zero_le _⟩) hS (fun locs hS => ?_)
          refine lv_goto (tgt := 65) hx hb dX6_shop_57 (by decide) ?_
          exact bret_Wi hx hb hr hP hI_1 hS hlocks dX6_shop_65 (by rw [← hF, F6_shop, if_neg c_2, if_pos c_4, if_pos c_5, if_neg c_6])
  · refine lv_aload_n hx hb dX6_shop_13 rfl (lv_at hl 0 rfl) ?_
    refine lv_iconst (v := 1) hx hb dX6_shop_14 (by decide) ?_
    refine bcall_Wi (va_runV (As := [.int 1]) (rest := []) ⟨hx, hb, hml, hown, hts⟩ (C6_fails l D cI q _ _ hq hP hI_1 1) (cwV 1 hts gX6_shop_X6_fails rfl rfl rfl ⟨rfl, bd_X6fails⟩ ⟨Nat.le_of_ble_eq_true rfl, Nat.le_of_ble_eq_true rfl⟩) (bPV hk (va_recv hk.1 hP (ci := 6) (q0 := 0) rfl (wM_0 _ _ _))) rfl rfl hl.1 rfl (lv_room (Nat.le_of_ble_eq_true rfl)) dX6_shop_15 ⟨Nat.zero_le _, Nat.zero_le _⟩) hS (fun H locs hP hI_8 hS => ?_)
    exact bret_Wi hx hb hr hP hI_8 hS hlocks dX6_shop_18 (by rw [← hF, F6_shop, if_pos c_2])
def F6_count (u : bU) (a1 : Int32) : Int32 × bU := (if (F6_in a1 0 10) = 0 then ((F6_fails (bput u 6 2 0) 1).1, (F6_fails (bput u 6 2 0) 1).2) else ((F6_number (bput u 6 2 0) a1), (bput u 6 2 0)))
set_option maxHeartbeats 4000000 in
set_option maxRecDepth 100000 in
theorem C6_count (l : Launch) (D : va_G) (cI : ClassId) (q : Nat → Nat) (u : bU) (H0 : Heap) (hq : bInj 7 q) (hP : va_P D vwCl (wM cI q u) H0) (hI : mInv u) (a1 : Int32) : Met l yX6_count wsX6_count ({ frames := 4, cells := 0, slots := 0, locals := 89 }) (bP D [(cI, .int)] H0 [.ref (q 0), .int a1]) (bWi D (wM cI q) mInv (bA 7 q H0.size) (F6_count u a1)) 0 0 (bA 7 q H0.size) := by
  refine Met.ofW (cc := cX6_count) (maxL := 2) (ret := (some .int)) (by decide) rfl ?_
  intro p e s m args below meth c s₁ B hml hv
  obtain ⟨rfl, hH, hk⟩ := hv
  subst hH
  have hx := B.exec
  have hb := B.bytes
  have hr := B.returns
  have hts := atoms_spec (ws := wsX6_count) B.pre
  have hown : s.vm.findClass RX6 = some m.cls := findClass_of_methodNamed B.named
  have hlocks := B.notSynchronized
  have hNB := mNB hI
  have hNS := mNS hI
  have hI0 := hI
  have iX6 : ∀ w ∈ wsX60, w ∈ wsX6_count := by decide +kernel
  have hS : va_S (bA 7 q s.heap.size) s.heap s.heap [] := va_S.rf
  have hl := lv_entry ([.ref (q 0), .int a1]) (n := 2) (Nat.le_of_ble_eq_true rfl)
  rw [lg_entry_eq]
  generalize (lg_sl ([.ref (q 0), .int a1]) ++ List.replicate (2 - (lg_sl ([.ref (q 0), .int a1])).length) Slot.unset).toArray = ls at hl ⊢
  have hl : lv_has ls 2 [(0, .ref (q 0)), (1, .int a1)] := hl
  generalize hF : F6_count u a1 = tgt
  refine lv_aload_n hx hb dX6_count_0 rfl (lv_at hl 0 rfl) ?_
  refine lv_iconst (v := 0) hx hb dX6_count_1 (by decide) ?_
  refine va_put (D := D) (ci := 6) (v := .int 0) (ty := .int) (C := RX6) (T := TX6) (N := 16) hx hb hts iX6 tyX6 tyX6_ok nmX6 hown hk.1 hP (wM_D hq) hS 0 (wM_0 _ _ _) rfl 6 (by decide) (hts (.fieldLink RX6 28 "BottleLoopModel" "thrown" "I") (List.mem_of_getElem? (i := 1) rfl)) (fun _ h9 => h9) rfl (by decide +kernel) rfl rfl (Nat.le_of_ble_eq_true rfl) dX6_count_2 (fun H locs hP _ hS => ?_)
  have hP : va_P D vwCl (wM cI q (bput u 6 2 0)) H := pM_f2 hP
  have hI_1 : mInv (bput u 6 2 0) := mInv_sc (k := 2) hI (by decide) (by decide) (by decide)
  refine lv_iload_n hx hb dX6_count_5 rfl (lv_at hl 1 rfl) ?_
  refine lv_iconst (v := 0) hx hb dX6_count_6 (by decide) ?_
  refine lv_bipush (v := 10) hx hb dX6_count_7 (by decide) ?_
  refine bcall_Ri (va_runS (As := [.int a1, .int 0, .int 10]) (rest := []) ⟨hx, hb, hml, hown, hts⟩ (C6_in l D cI q _ a1 0 10) (va_cwS 3 hts gX6_count_X6_in rfl rfl rfl bd_X6in ⟨Nat.le_of_ble_eq_true rfl, Nat.le_of_ble_eq_true rfl⟩) (bPS hk) rfl rfl hl.1 rfl (lv_room (Nat.le_of_ble_eq_true rfl)) dX6_count_9 ⟨Nat.zero_le _, Nat.zero_le _⟩) hS (fun locs hS => ?_)
  refine lv_if_eq (tgt := 23) hx hb dX6_count_12 (by decide) (fun c_2 => ?_) (fun c_2 => ?_)
  · refine lv_aload_n hx hb dX6_count_23 rfl (lv_at hl 0 rfl) ?_
    refine lv_iconst (v := 1) hx hb dX6_count_24 (by decide) ?_
    refine bcall_Wi (va_runV (As := [.int 1]) (rest := []) ⟨hx, hb, hml, hown, hts⟩ (C6_fails l D cI q _ _ hq hP hI_1 1) (cwV 1 hts gX6_count_X6_fails rfl rfl rfl ⟨rfl, bd_X6fails⟩ ⟨Nat.le_of_ble_eq_true rfl, Nat.le_of_ble_eq_true rfl⟩) (bPV hk (va_recv hk.1 hP (ci := 6) (q0 := 0) rfl (wM_0 _ _ _))) rfl rfl hl.1 rfl (lv_room (Nat.le_of_ble_eq_true rfl)) dX6_count_25 ⟨Nat.zero_le _, Nat.zero_le _⟩) hS (fun H locs hP hI_3 hS => ?_)
    exact bret_Wi hx hb hr hP hI_3 hS hlocks dX6_count_28 (by rw [← hF, F6_count, if_pos c_2])
  · refine lv_aload_n hx hb dX6_count_15 rfl (lv_at hl 0 rfl) ?_
    refine lv_iload_n hx hb dX6_count_16 rfl (lv_at hl 1 rfl) ?_
    refine bcall_Ri (va_runV (As := [.int a1]) (rest := []) ⟨hx, hb, hml, hown, hts⟩ (C6_number l D cI q _ _ hP hI_1 a1) (cwV 1 hts gX6_count_X6_number rfl rfl rfl ⟨rfl, bd_X6number⟩ ⟨Nat.le_of_ble_eq_true rfl, Nat.le_of_ble_eq_true rfl⟩) (bPV hk (va_recv hk.1 hP (ci := 6) (q0 := 0) rfl (wM_0 _ _ _))) rfl rfl hl.1 rfl (lv_room (Nat.le_of_ble_eq_true rfl)) dX6_count_17 ⟨Nat.zero_le _, Nat.zero_le _⟩) hS (fun locs hS => ?_)
    refine lv_goto (tgt := 28) hx hb dX6_count_20 (by decide) ?_
    exact bret_Wi hx hb hr hP hI_1 hS hlocks dX6_count_28 (by rw [← hF, F6_count, if_neg c_2])
def F6_setting (u : bU) (a1 : Int32) : Int32 × bU := (if (F6_in a1 0 5) = 0 then ((F6_fails (bput u 6 2 0) 1).1, (F6_fails (bput u 6 2 0) 1).2) else (((bput u 6 2 0) 0 (7 + a1).toNatClampNeg), (bput u 6 2 0)))
set_option maxHeartbeats 4000000 in
set_option maxRecDepth 100000 in
theorem C6_setting (l : Launch) (D : va_G) (cI : ClassId) (q : Nat → Nat) (u : bU) (H0 : Heap) (hq : bInj 7 q) (hP : va_P D vwCl (wM cI q u) H0) (hI : mInv u) (a1 : Int32) : Met l yX6_setting wsX6_setting ({ frames := 1, cells := 0, slots := 0, locals := 22 }) (bP D [(cI, .int)] H0 [.ref (q 0), .int a1]) (bWi D (wM cI q) mInv (bA 7 q H0.size) (F6_setting u a1)) 0 0 (bA 7 q H0.size) := by
  refine Met.ofW (cc := cX6_setting) (maxL := 2) (ret := (some .int)) (by decide) rfl ?_
  intro p e s m args below meth c s₁ B hml hv
  obtain ⟨rfl, hH, hk⟩ := hv
  subst hH
  have hx := B.exec
  have hb := B.bytes
  have hr := B.returns
  have hts := atoms_spec (ws := wsX6_setting) B.pre
  have hown : s.vm.findClass RX6 = some m.cls := findClass_of_methodNamed B.named
  have hlocks := B.notSynchronized
  have hNB := mNB hI
  have hNS := mNS hI
  have hI0 := hI
  have iX6 : ∀ w ∈ wsX60, w ∈ wsX6_setting := by decide +kernel
  have hS : va_S (bA 7 q s.heap.size) s.heap s.heap [] := va_S.rf
  have hl := lv_entry ([.ref (q 0), .int a1]) (n := 2) (Nat.le_of_ble_eq_true rfl)
  rw [lg_entry_eq]
  generalize (lg_sl ([.ref (q 0), .int a1]) ++ List.replicate (2 - (lg_sl ([.ref (q 0), .int a1])).length) Slot.unset).toArray = ls at hl ⊢
  have hl : lv_has ls 2 [(0, .ref (q 0)), (1, .int a1)] := hl
  generalize hF : F6_setting u a1 = tgt
  refine lv_aload_n hx hb dX6_setting_0 rfl (lv_at hl 0 rfl) ?_
  refine lv_iconst (v := 0) hx hb dX6_setting_1 (by decide) ?_
  refine va_put (D := D) (ci := 6) (v := .int 0) (ty := .int) (C := RX6) (T := TX6) (N := 16) hx hb hts iX6 tyX6 tyX6_ok nmX6 hown hk.1 hP (wM_D hq) hS 0 (wM_0 _ _ _) rfl 6 (by decide) (hts (.fieldLink RX6 28 "BottleLoopModel" "thrown" "I") (List.mem_of_getElem? (i := 1) rfl)) (fun _ h9 => h9) rfl (by decide +kernel) rfl rfl (Nat.le_of_ble_eq_true rfl) dX6_setting_2 (fun H locs hP _ hS => ?_)
  have hP : va_P D vwCl (wM cI q (bput u 6 2 0)) H := pM_f2 hP
  have hI_1 : mInv (bput u 6 2 0) := mInv_sc (k := 2) hI (by decide) (by decide) (by decide)
  refine lv_iload_n hx hb dX6_setting_5 rfl (lv_at hl 1 rfl) ?_
  refine lv_iconst (v := 0) hx hb dX6_setting_6 (by decide) ?_
  refine lv_iconst (v := 5) hx hb dX6_setting_7 (by decide) ?_
  refine bcall_Ri (va_runS (As := [.int a1, .int 0, .int 5]) (rest := []) ⟨hx, hb, hml, hown, hts⟩ (C6_in l D cI q _ a1 0 5) (va_cwS 3 hts gX6_setting_X6_in rfl rfl rfl bd_X6in ⟨Nat.le_of_ble_eq_true rfl, Nat.le_of_ble_eq_true rfl⟩) (bPS hk) rfl rfl hl.1 rfl (lv_room (Nat.le_of_ble_eq_true rfl)) dX6_setting_8 ⟨Nat.zero_le _, Nat.zero_le _⟩) hS (fun locs hS => ?_)
  refine lv_if_eq (tgt := 26) hx hb dX6_setting_11 (by decide) (fun c_2 => ?_) (fun c_2 => ?_)
  · refine lv_aload_n hx hb dX6_setting_26 rfl (lv_at hl 0 rfl) ?_
    refine lv_iconst (v := 1) hx hb dX6_setting_27 (by decide) ?_
    refine bcall_Wi (va_runV (As := [.int 1]) (rest := []) ⟨hx, hb, hml, hown, hts⟩ (C6_fails l D cI q _ _ hq hP hI_1 1) (cwV 1 hts gX6_setting_X6_fails rfl rfl rfl ⟨rfl, bd_X6fails⟩ ⟨Nat.le_of_ble_eq_true rfl, Nat.le_of_ble_eq_true rfl⟩) (bPV hk (va_recv hk.1 hP (ci := 6) (q0 := 0) rfl (wM_0 _ _ _))) rfl rfl hl.1 rfl (lv_room (Nat.le_of_ble_eq_true rfl)) dX6_setting_28 ⟨Nat.zero_le _, Nat.zero_le _⟩) hS (fun H locs hP hI_3 hS => ?_)
    exact bret_Wi hx hb hr hP hI_3 hS hlocks dX6_setting_31 (by rw [← hF, F6_setting, if_pos c_2])
  · refine lv_aload_n hx hb dX6_setting_14 rfl (lv_at hl 0 rfl) ?_
    refine va_get (D := D) (ci := 6) (C := RX6) (T := TX6) (N := 16) hx hb hts iX6 hown hk.1 hP 0 (wM_0 _ _ _) rfl 0 (by decide) (hts (.fieldLink RX6 7 "BottleLoopModel" "v" "[I") (List.mem_of_getElem? (i := 2) rfl)) (fun _ h9 => h9) rfl dX6_setting_15 ?_
    refine lv_bipush (v := 7) hx hb dX6_setting_18 (by decide) ?_
    refine lv_iload_n hx hb dX6_setting_20 rfl (lv_at hl 1 rfl) ?_
    refine lv_iadd hx hb dX6_setting_21 ?_
    refine va_iald hx hb hk.1 hP 1 0 (wM_1 _ _ _) rfl (mX7s c_2) dX6_setting_22 ?_
    refine lv_goto (tgt := 31) hx hb dX6_setting_23 (by decide) ?_
    exact bret_Wi hx hb hr hP hI_1 hS hlocks dX6_setting_31 (by rw [← hF, F6_setting, if_neg c_2])
def F6_whyNotDeliver (u : bU) (a1 : Int32) (a2 : Int32) (a3 : Int32) : Int32 × bU := (if (F6_isBrand (bput u 6 2 0) a1) = 0 then ((F6_fails (bput u 6 2 0) 1).1, (F6_fails (bput u 6 2 0) 1).2) else (if (F6_isShop (bput u 6 2 0) a2) = 0 then ((F6_fails (bput u 6 2 0) 1).1, (F6_fails (bput u 6 2 0) 1).2) else (if (F6_in a3 1 50) = 0 then ((F6_fails (bput u 6 2 0) 2).1, (F6_fails (bput u 6 2 0) 2).2) else ((F6_againstDeliver (bput u 6 2 0) a1 a2 a3), (bput u 6 2 0)))))
set_option maxHeartbeats 4000000 in
set_option maxRecDepth 100000 in
theorem C6_whyNotDeliver (l : Launch) (D : va_G) (cI : ClassId) (q : Nat → Nat) (u : bU) (H0 : Heap) (hq : bInj 7 q) (hP : va_P D vwCl (wM cI q u) H0) (hI : mInv u) (a1 : Int32) (a2 : Int32) (a3 : Int32) : Met l yX6_whyNotDeliver wsX6_whyNotDeliver ({ frames := 4, cells := 0, slots := 0, locals := 88 }) (bP D [(cI, .int)] H0 [.ref (q 0), .int a1, .int a2, .int a3]) (bWi D (wM cI q) mInv (bA 7 q H0.size) (F6_whyNotDeliver u a1 a2 a3)) 0 0 (bA 7 q H0.size) := by
  refine Met.ofW (cc := cX6_whyNotDeliver) (maxL := 4) (ret := (some .int)) (by decide) rfl ?_
  intro p e s m args below meth c s₁ B hml hv
  obtain ⟨rfl, hH, hk⟩ := hv
  subst hH
  have hx := B.exec
  have hb := B.bytes
  have hr := B.returns
  have hts := atoms_spec (ws := wsX6_whyNotDeliver) B.pre
  have hown : s.vm.findClass RX6 = some m.cls := findClass_of_methodNamed B.named
  have hlocks := B.notSynchronized
  have hNB := mNB hI
  have hNS := mNS hI
  have hI0 := hI
  have iX6 : ∀ w ∈ wsX60, w ∈ wsX6_whyNotDeliver := by decide +kernel
  have hS : va_S (bA 7 q s.heap.size) s.heap s.heap [] := va_S.rf
  have hl := lv_entry ([.ref (q 0), .int a1, .int a2, .int a3]) (n := 4) (Nat.le_of_ble_eq_true rfl)
  rw [lg_entry_eq]
  generalize (lg_sl ([.ref (q 0), .int a1, .int a2, .int a3]) ++ List.replicate (4 - (lg_sl ([.ref (q 0), .int a1, .int a2, .int a3])).length) Slot.unset).toArray = ls at hl ⊢
  have hl : lv_has ls 4 [(0, .ref (q 0)), (1, .int a1), (2, .int a2), (3, .int a3)] := hl
  generalize hF : F6_whyNotDeliver u a1 a2 a3 = tgt
  refine lv_aload_n hx hb dX6_whyNotDeliver_0 rfl (lv_at hl 0 rfl) ?_
  refine lv_iconst (v := 0) hx hb dX6_whyNotDeliver_1 (by decide) ?_
  refine va_put (D := D) (ci := 6) (v := .int 0) (ty := .int) (C := RX6) (T := TX6) (N := 16) hx hb hts iX6 tyX6 tyX6_ok nmX6 hown hk.1 hP (wM_D hq) hS 0 (wM_0 _ _ _) rfl 6 (by decide) (hts (.fieldLink RX6 28 "BottleLoopModel" "thrown" "I") (List.mem_of_getElem? (i := 1) rfl)) (fun _ h9 => h9) rfl (by decide +kernel) rfl rfl (Nat.le_of_ble_eq_true rfl) dX6_whyNotDeliver_2 (fun H locs hP _ hS => ?_)
  have hP : va_P D vwCl (wM cI q (bput u 6 2 0)) H := pM_f2 hP
  have hI_1 : mInv (bput u 6 2 0) := mInv_sc (k := 2) hI (by decide) (by decide) (by decide)
  refine lv_aload_n hx hb dX6_whyNotDeliver_5 rfl (lv_at hl 0 rfl) ?_
  refine lv_iload_n hx hb dX6_whyNotDeliver_6 rfl (lv_at hl 1 rfl) ?_
  refine bcall_Ri (va_runV (As := [.int a1]) (rest := []) ⟨hx, hb, hml, hown, hts⟩ (C6_isBrand l D cI q _ _ hP hI_1 a1) (cwV 1 hts gX6_whyNotDeliver_X6_isBrand rfl rfl rfl ⟨rfl, bd_X6isBrand⟩ ⟨Nat.le_of_ble_eq_true rfl, Nat.le_of_ble_eq_true rfl⟩) (bPV hk (va_recv hk.1 hP (ci := 6) (q0 := 0) rfl (wM_0 _ _ _))) rfl rfl hl.1 rfl (lv_room (Nat.le_of_ble_eq_true rfl)) dX6_whyNotDeliver_7 ⟨Nat.zero_le _, Nat.zero_le _⟩) hS (fun locs hS => ?_)
  refine lv_if_eq (tgt := 21) hx hb dX6_whyNotDeliver_10 (by decide) (fun c_2 => ?_) (fun c_2 => ?_)
  · refine lv_aload_n hx hb dX6_whyNotDeliver_21 rfl (lv_at hl 0 rfl) ?_
    refine lv_iconst (v := 1) hx hb dX6_whyNotDeliver_22 (by decide) ?_
    refine bcall_Wi (va_runV (As := [.int 1]) (rest := []) ⟨hx, hb, hml, hown, hts⟩ (C6_fails l D cI q _ _ hq hP hI_1 1) (cwV 1 hts gX6_whyNotDeliver_X6_fails rfl rfl rfl ⟨rfl, bd_X6fails⟩ ⟨Nat.le_of_ble_eq_true rfl, Nat.le_of_ble_eq_true rfl⟩) (bPV hk (va_recv hk.1 hP (ci := 6) (q0 := 0) rfl (wM_0 _ _ _))) rfl rfl hl.1 rfl (lv_room (Nat.le_of_ble_eq_true rfl)) dX6_whyNotDeliver_23 ⟨Nat.zero_le _, Nat.zero_le _⟩) hS (fun H locs hP hI_3 hS => ?_)
    exact bret_Wi hx hb hr hP hI_3 hS hlocks dX6_whyNotDeliver_26 (by rw [← hF, F6_whyNotDeliver, if_pos c_2])
  · have hm_4 : mB a1 := mB_is hI_1 c_2
    refine lv_aload_n hx hb dX6_whyNotDeliver_13 rfl (lv_at hl 0 rfl) ?_
    refine lv_iload_n hx hb dX6_whyNotDeliver_14 rfl (lv_at hl 2 rfl) ?_
    refine bcall_Ri (va_runV (As := [.int a2]) (rest := []) ⟨hx, hb, hml, hown, hts⟩ (C6_isShop l D cI q _ _ hP hI_1 a2) (cwV 1 hts gX6_whyNotDeliver_X6_isShop rfl rfl rfl ⟨rfl, bd_X6isShop⟩ ⟨Nat.le_of_ble_eq_true rfl, Nat.le_of_ble_eq_true rfl⟩) (bPV hk (va_recv hk.1 hP (ci := 6) (q0 := 0) rfl (wM_0 _ _ _))) rfl rfl hl.1 rfl (lv_room (Nat.le_of_ble_eq_true rfl)) dX6_whyNotDeliver_15 ⟨Nat.zero_le _, Nat.zero_le _⟩) hS (fun locs hS => ?_)
    refine lv_if_ne (tgt := 27) hx hb dX6_whyNotDeliver_18 (by decide) (fun c_5 => ?_) (fun c_5 => ?_)
    · have hm_6 : mS a2 := mS_is hI_1 c_5
      refine lv_iload_n hx hb dX6_whyNotDeliver_27 rfl (lv_at hl 3 rfl) ?_
      refine lv_iconst (v := 1) hx hb dX6_whyNotDeliver_28 (by decide) ?_
      refine lv_bipush (v := 50) hx hb dX6_whyNotDeliver_29 (by decide) ?_
      refine bcall_Ri (va_runS (As := [.int a3, .int 1, .int 50]) (rest := []) ⟨hx, hb, hml, hown, hts⟩ (C6_in l D cI q _ a3 1 50) (va_cwS 3 hts gX6_whyNotDeliver_X6_in rfl rfl rfl bd_X6in ⟨Nat.le_of_ble_eq_true rfl, Nat.le_of_ble_eq_true rfl⟩) (bPS hk) rfl rfl hl.1 rfl (lv_room (Nat.le_of_ble_eq_true rfl)) dX6_whyNotDeliver_31 ⟨Nat.zero_le _, Nat.zero_le _⟩) hS (fun locs hS => ?_)
      refine lv_if_eq (tgt := 47) hx hb dX6_whyNotDeliver_34 (by decide) (fun c_7 => ?_) (fun c_7 => ?_)
      · refine lv_aload_n hx hb dX6_whyNotDeliver_47 rfl (lv_at hl 0 rfl) ?_
        refine lv_iconst (v := 2) hx hb dX6_whyNotDeliver_48 (by decide) ?_
        refine bcall_Wi (va_runV (As := [.int 2]) (rest := []) ⟨hx, hb, hml, hown, hts⟩ (C6_fails l D cI q _ _ hq hP hI_1 2) (cwV 1 hts gX6_whyNotDeliver_X6_fails rfl rfl rfl ⟨rfl, bd_X6fails⟩ ⟨Nat.le_of_ble_eq_true rfl, Nat.le_of_ble_eq_true rfl⟩) (bPV hk (va_recv hk.1 hP (ci := 6) (q0 := 0) rfl (wM_0 _ _ _))) rfl rfl hl.1 rfl (lv_room (Nat.le_of_ble_eq_true rfl)) dX6_whyNotDeliver_49 ⟨Nat.zero_le _, Nat.zero_le _⟩) hS (fun H locs hP hI_8 hS => ?_)
        exact bret_Wi hx hb hr hP hI_8 hS hlocks dX6_whyNotDeliver_52 (by rw [← hF, F6_whyNotDeliver, if_neg c_2, if_neg c_5, if_pos c_7])
      · refine lv_aload_n hx hb dX6_whyNotDeliver_37 rfl (lv_at hl 0 rfl) ?_
        refine lv_iload_n hx hb dX6_whyNotDeliver_38 rfl (lv_at hl 1 rfl) ?_
        refine lv_iload_n hx hb dX6_whyNotDeliver_39 rfl (lv_at hl 2 rfl) ?_
        refine lv_iload_n hx hb dX6_whyNotDeliver_40 rfl (lv_at hl 3 rfl) ?_
        refine bcall_Ri (va_runV (As := [.int a1, .int a2, .int a3]) (rest := []) ⟨hx, hb, hml, hown, hts⟩ (C6_againstDeliver l D cI q _ _ hP hI_1 a1 a2 a3 hm_4 hm_6) (cwV 3 hts gX6_whyNotDeliver_X6_againstDeliver rfl rfl rfl ⟨rfl, bd_X6againstDeliver⟩ ⟨Nat.le_of_ble_eq_true rfl, Nat.le_of_ble_eq_true rfl⟩) (bPV hk (va_recv hk.1 hP (ci := 6) (q0 := 0) rfl (wM_0 _ _ _))) rfl rfl hl.1 rfl (lv_room (Nat.le_of_ble_eq_true rfl)) dX6_whyNotDeliver_41 ⟨Nat.zero_le _, Nat.zero_le _⟩) hS (fun locs hS => ?_)
        refine lv_goto (tgt := 52) hx hb dX6_whyNotDeliver_44 (by decide) ?_
        exact bret_Wi hx hb hr hP hI_1 hS hlocks dX6_whyNotDeliver_52 (by rw [← hF, F6_whyNotDeliver, if_neg c_2, if_neg c_5, if_neg c_7])
    · refine lv_aload_n hx hb dX6_whyNotDeliver_21 rfl (lv_at hl 0 rfl) ?_
      refine lv_iconst (v := 1) hx hb dX6_whyNotDeliver_22 (by decide) ?_
      refine bcall_Wi (va_runV (As := [.int 1]) (rest := []) ⟨hx, hb, hml, hown, hts⟩ (C6_fails l D cI q _ _ hq hP hI_1 1) (cwV 1 hts gX6_whyNotDeliver_X6_fails rfl rfl rfl ⟨rfl, bd_X6fails⟩ ⟨Nat.le_of_ble_eq_true rfl, Nat.le_of_ble_eq_true rfl⟩) (bPV hk (va_recv hk.1 hP (ci := 6) (q0 := 0) rfl (wM_0 _ _ _))) rfl rfl hl.1 rfl (lv_room (Nat.le_of_ble_eq_true rfl)) dX6_whyNotDeliver_23 ⟨Nat.zero_le _, Nat.zero_le _⟩) hS (fun H locs hP hI_9 hS => ?_)
      exact bret_Wi hx hb hr hP hI_9 hS hlocks dX6_whyNotDeliver_26 (by rw [← hF, F6_whyNotDeliver, if_neg c_2, if_pos c_5])
def F6_whyNotCollect (u : bU) (a1 : Int32) (a2 : Int32) (a3 : Int32) : Int32 × bU := (if (F6_isShop (bput u 6 2 0) a1) = 0 then ((F6_fails (bput u 6 2 0) 1).1, (F6_fails (bput u 6 2 0) 1).2) else (if (F6_in a2 0 2) = 0 then ((F6_fails (bput u 6 2 0) 2).1, (F6_fails (bput u 6 2 0) 2).2) else (if (F6_in a3 1 50) = 0 then ((F6_fails (bput u 6 2 0) 2).1, (F6_fails (bput u 6 2 0) 2).2) else ((F6_againstCollect (bput u 6 2 0) a1 a2 a3), (bput u 6 2 0)))))
set_option maxHeartbeats 4000000 in
set_option maxRecDepth 100000 in
theorem C6_whyNotCollect (l : Launch) (D : va_G) (cI : ClassId) (q : Nat → Nat) (u : bU) (H0 : Heap) (hq : bInj 7 q) (hP : va_P D vwCl (wM cI q u) H0) (hI : mInv u) (a1 : Int32) (a2 : Int32) (a3 : Int32) : Met l yX6_whyNotCollect wsX6_whyNotCollect ({ frames := 4, cells := 0, slots := 0, locals := 90 }) (bP D [(cI, .int)] H0 [.ref (q 0), .int a1, .int a2, .int a3]) (bWi D (wM cI q) mInv (bA 7 q H0.size) (F6_whyNotCollect u a1 a2 a3)) 0 0 (bA 7 q H0.size) := by
  refine Met.ofW (cc := cX6_whyNotCollect) (maxL := 4) (ret := (some .int)) (by decide) rfl ?_
  intro p e s m args below meth c s₁ B hml hv
  obtain ⟨rfl, hH, hk⟩ := hv
  subst hH
  have hx := B.exec
  have hb := B.bytes
  have hr := B.returns
  have hts := atoms_spec (ws := wsX6_whyNotCollect) B.pre
  have hown : s.vm.findClass RX6 = some m.cls := findClass_of_methodNamed B.named
  have hlocks := B.notSynchronized
  have hNB := mNB hI
  have hNS := mNS hI
  have hI0 := hI
  have iX6 : ∀ w ∈ wsX60, w ∈ wsX6_whyNotCollect := by decide +kernel
  have hS : va_S (bA 7 q s.heap.size) s.heap s.heap [] := va_S.rf
  have hl := lv_entry ([.ref (q 0), .int a1, .int a2, .int a3]) (n := 4) (Nat.le_of_ble_eq_true rfl)
  rw [lg_entry_eq]
  generalize (lg_sl ([.ref (q 0), .int a1, .int a2, .int a3]) ++ List.replicate (4 - (lg_sl ([.ref (q 0), .int a1, .int a2, .int a3])).length) Slot.unset).toArray = ls at hl ⊢
  have hl : lv_has ls 4 [(0, .ref (q 0)), (1, .int a1), (2, .int a2), (3, .int a3)] := hl
  generalize hF : F6_whyNotCollect u a1 a2 a3 = tgt
  refine lv_aload_n hx hb dX6_whyNotCollect_0 rfl (lv_at hl 0 rfl) ?_
  refine lv_iconst (v := 0) hx hb dX6_whyNotCollect_1 (by decide) ?_
  refine va_put (D := D) (ci := 6) (v := .int 0) (ty := .int) (C := RX6) (T := TX6) (N := 16) hx hb hts iX6 tyX6 tyX6_ok nmX6 hown hk.1 hP (wM_D hq) hS 0 (wM_0 _ _ _) rfl 6 (by decide) (hts (.fieldLink RX6 28 "BottleLoopModel" "thrown" "I") (List.mem_of_getElem? (i := 1) rfl)) (fun _ h9 => h9) rfl (by decide +kernel) rfl rfl (Nat.le_of_ble_eq_true rfl) dX6_whyNotCollect_2 (fun H locs hP _ hS => ?_)
  have hP : va_P D vwCl (wM cI q (bput u 6 2 0)) H := pM_f2 hP
  have hI_1 : mInv (bput u 6 2 0) := mInv_sc (k := 2) hI (by decide) (by decide) (by decide)
  refine lv_aload_n hx hb dX6_whyNotCollect_5 rfl (lv_at hl 0 rfl) ?_
  refine lv_iload_n hx hb dX6_whyNotCollect_6 rfl (lv_at hl 1 rfl) ?_
  refine bcall_Ri (va_runV (As := [.int a1]) (rest := []) ⟨hx, hb, hml, hown, hts⟩ (C6_isShop l D cI q _ _ hP hI_1 a1) (cwV 1 hts gX6_whyNotCollect_X6_isShop rfl rfl rfl ⟨rfl, bd_X6isShop⟩ ⟨Nat.le_of_ble_eq_true rfl, Nat.le_of_ble_eq_true rfl⟩) (bPV hk (va_recv hk.1 hP (ci := 6) (q0 := 0) rfl (wM_0 _ _ _))) rfl rfl hl.1 rfl (lv_room (Nat.le_of_ble_eq_true rfl)) dX6_whyNotCollect_7 ⟨Nat.zero_le _, Nat.zero_le _⟩) hS (fun locs hS => ?_)
  refine lv_if_ne (tgt := 19) hx hb dX6_whyNotCollect_10 (by decide) (fun c_2 => ?_) (fun c_2 => ?_)
  · have hm_3 : mS a1 := mS_is hI_1 c_2
    refine lv_iload_n hx hb dX6_whyNotCollect_19 rfl (lv_at hl 2 rfl) ?_
    refine lv_iconst (v := 0) hx hb dX6_whyNotCollect_20 (by decide) ?_
    refine lv_iconst (v := 2) hx hb dX6_whyNotCollect_21 (by decide) ?_
    refine bcall_Ri (va_runS (As := [.int a2, .int 0, .int 2]) (rest := []) ⟨hx, hb, hml, hown, hts⟩ (C6_in l D cI q _ a2 0 2) (va_cwS 3 hts gX6_whyNotCollect_X6_in rfl rfl rfl bd_X6in ⟨Nat.le_of_ble_eq_true rfl, Nat.le_of_ble_eq_true rfl⟩) (bPS hk) rfl rfl hl.1 rfl (lv_room (Nat.le_of_ble_eq_true rfl)) dX6_whyNotCollect_22 ⟨Nat.zero_le _, Nat.zero_le _⟩) hS (fun locs hS => ?_)
    refine lv_if_eq (tgt := 48) hx hb dX6_whyNotCollect_25 (by decide) (fun c_4 => ?_) (fun c_4 => ?_)
    · refine lv_aload_n hx hb dX6_whyNotCollect_48 rfl (lv_at hl 0 rfl) ?_
      refine lv_iconst (v := 2) hx hb dX6_whyNotCollect_49 (by decide) ?_
      refine bcall_Wi (va_runV (As := [.int 2]) (rest := []) ⟨hx, hb, hml, hown, hts⟩ (C6_fails l D cI q _ _ hq hP hI_1 2) (cwV 1 hts gX6_whyNotCollect_X6_fails rfl rfl rfl ⟨rfl, bd_X6fails⟩ ⟨Nat.le_of_ble_eq_true rfl, Nat.le_of_ble_eq_true rfl⟩) (bPV hk (va_recv hk.1 hP (ci := 6) (q0 := 0) rfl (wM_0 _ _ _))) rfl rfl hl.1 rfl (lv_room (Nat.le_of_ble_eq_true rfl)) dX6_whyNotCollect_50 ⟨Nat.zero_le _, Nat.zero_le _⟩) hS (fun H locs hP hI_5 hS => ?_)
      exact bret_Wi hx hb hr hP hI_5 hS hlocks dX6_whyNotCollect_53 (by rw [← hF, F6_whyNotCollect, if_neg c_2, if_pos c_4])
    · have hm_6 : mK a2 := mK_in c_4
      refine lv_iload_n hx hb dX6_whyNotCollect_28 rfl (lv_at hl 3 rfl) ?_
      refine lv_iconst (v := 1) hx hb dX6_whyNotCollect_29 (by decide) ?_
      refine lv_bipush (v := 50) hx hb dX6_whyNotCollect_30 (by decide) ?_
      refine bcall_Ri (va_runS (As := [.int a3, .int 1, .int 50]) (rest := []) ⟨hx, hb, hml, hown, hts⟩ (C6_in l D cI q _ a3 1 50) (va_cwS 3 hts gX6_whyNotCollect_X6_in rfl rfl rfl bd_X6in ⟨Nat.le_of_ble_eq_true rfl, Nat.le_of_ble_eq_true rfl⟩) (bPS hk) rfl rfl hl.1 rfl (lv_room (Nat.le_of_ble_eq_true rfl)) dX6_whyNotCollect_32 ⟨Nat.zero_le _, Nat.zero_le _⟩) hS (fun locs hS => ?_)
      refine lv_if_eq (tgt := 48) hx hb dX6_whyNotCollect_35 (by decide) (fun c_7 => ?_) (fun c_7 => ?_)
      · refine lv_aload_n hx hb dX6_whyNotCollect_48 rfl (lv_at hl 0 rfl) ?_
        refine lv_iconst (v := 2) hx hb dX6_whyNotCollect_49 (by decide) ?_
        refine bcall_Wi (va_runV (As := [.int 2]) (rest := []) ⟨hx, hb, hml, hown, hts⟩ (C6_fails l D cI q _ _ hq hP hI_1 2) (cwV 1 hts gX6_whyNotCollect_X6_fails rfl rfl rfl ⟨rfl, bd_X6fails⟩ ⟨Nat.le_of_ble_eq_true rfl, Nat.le_of_ble_eq_true rfl⟩) (bPV hk (va_recv hk.1 hP (ci := 6) (q0 := 0) rfl (wM_0 _ _ _))) rfl rfl hl.1 rfl (lv_room (Nat.le_of_ble_eq_true rfl)) dX6_whyNotCollect_50 ⟨Nat.zero_le _, Nat.zero_le _⟩) hS (fun H locs hP hI_8 hS => ?_)
        exact bret_Wi hx hb hr hP hI_8 hS hlocks dX6_whyNotCollect_53 (by rw [← hF, F6_whyNotCollect, if_neg c_2, if_neg c_4, if_pos c_7])
      · refine lv_aload_n hx hb dX6_whyNotCollect_38 rfl (lv_at hl 0 rfl) ?_
        refine lv_iload_n hx hb dX6_whyNotCollect_39 rfl (lv_at hl 1 rfl) ?_
        refine lv_iload_n hx hb dX6_whyNotCollect_40 rfl (lv_at hl 2 rfl) ?_
        refine lv_iload_n hx hb dX6_whyNotCollect_41 rfl (lv_at hl 3 rfl) ?_
        refine bcall_Ri (va_runV (As := [.int a1, .int a2, .int a3]) (rest := []) ⟨hx, hb, hml, hown, hts⟩ (C6_againstCollect l D cI q _ _ hP hI_1 a1 a2 a3 hm_3) (cwV 3 hts gX6_whyNotCollect_X6_againstCollect rfl rfl rfl ⟨rfl, bd_X6againstCollect⟩ ⟨Nat.le_of_ble_eq_true rfl, Nat.le_of_ble_eq_true rfl⟩) (bPV hk (va_recv hk.1 hP (ci := 6) (q0 := 0) rfl (wM_0 _ _ _))) rfl rfl hl.1 rfl (lv_room (Nat.le_of_ble_eq_true rfl)) dX6_whyNotCollect_42 ⟨Nat.zero_le _, Nat.zero_le _⟩) hS (fun locs hS => ?_)
        refine lv_goto (tgt := 53) hx hb dX6_whyNotCollect_45 (by decide) ?_
        exact bret_Wi hx hb hr hP hI_1 hS hlocks dX6_whyNotCollect_53 (by rw [← hF, F6_whyNotCollect, if_neg c_2, if_neg c_4, if_neg c_7])
  · refine lv_aload_n hx hb dX6_whyNotCollect_13 rfl (lv_at hl 0 rfl) ?_
    refine lv_iconst (v := 1) hx hb dX6_whyNotCollect_14 (by decide) ?_
    refine bcall_Wi (va_runV (As := [.int 1]) (rest := []) ⟨hx, hb, hml, hown, hts⟩ (C6_fails l D cI q _ _ hq hP hI_1 1) (cwV 1 hts gX6_whyNotCollect_X6_fails rfl rfl rfl ⟨rfl, bd_X6fails⟩ ⟨Nat.le_of_ble_eq_true rfl, Nat.le_of_ble_eq_true rfl⟩) (bPV hk (va_recv hk.1 hP (ci := 6) (q0 := 0) rfl (wM_0 _ _ _))) rfl rfl hl.1 rfl (lv_room (Nat.le_of_ble_eq_true rfl)) dX6_whyNotCollect_15 ⟨Nat.zero_le _, Nat.zero_le _⟩) hS (fun H locs hP hI_9 hS => ?_)
    exact bret_Wi hx hb hr hP hI_9 hS hlocks dX6_whyNotCollect_18 (by rw [← hF, F6_whyNotCollect, if_pos c_2])
def F6_mostCrates (u : bU) (a1 : Int32) (a2 : Int32) : Int32 × bU := (if (F6_isBrand (bput u 6 2 0) a1) = 0 then ((F6_fails (bput u 6 2 0) 1).1, (F6_fails (bput u 6 2 0) 1).2) else (if (F6_isShop (bput u 6 2 0) a2) = 0 then ((F6_fails (bput u 6 2 0) 1).1, (F6_fails (bput u 6 2 0) 1).2) else ((F6_deliverable (bput u 6 2 0) a1 a2), (bput u 6 2 0))))
set_option maxHeartbeats 4000000 in
set_option maxRecDepth 100000 in
theorem C6_mostCrates (l : Launch) (D : va_G) (cI : ClassId) (q : Nat → Nat) (u : bU) (H0 : Heap) (hq : bInj 7 q) (hP : va_P D vwCl (wM cI q u) H0) (hI : mInv u) (a1 : Int32) (a2 : Int32) : Met l yX6_mostCrates wsX6_mostCrates ({ frames := 5, cells := 0, slots := 0, locals := 111 }) (bP D [(cI, .int)] H0 [.ref (q 0), .int a1, .int a2]) (bWi D (wM cI q) mInv (bA 7 q H0.size) (F6_mostCrates u a1 a2)) 0 0 (bA 7 q H0.size) := by
  refine Met.ofW (cc := cX6_mostCrates) (maxL := 3) (ret := (some .int)) (by decide) rfl ?_
  intro p e s m args below meth c s₁ B hml hv
  obtain ⟨rfl, hH, hk⟩ := hv
  subst hH
  have hx := B.exec
  have hb := B.bytes
  have hr := B.returns
  have hts := atoms_spec (ws := wsX6_mostCrates) B.pre
  have hown : s.vm.findClass RX6 = some m.cls := findClass_of_methodNamed B.named
  have hlocks := B.notSynchronized
  have hNB := mNB hI
  have hNS := mNS hI
  have hI0 := hI
  have iX6 : ∀ w ∈ wsX60, w ∈ wsX6_mostCrates := by decide +kernel
  have hS : va_S (bA 7 q s.heap.size) s.heap s.heap [] := va_S.rf
  have hl := lv_entry ([.ref (q 0), .int a1, .int a2]) (n := 3) (Nat.le_of_ble_eq_true rfl)
  rw [lg_entry_eq]
  generalize (lg_sl ([.ref (q 0), .int a1, .int a2]) ++ List.replicate (3 - (lg_sl ([.ref (q 0), .int a1, .int a2])).length) Slot.unset).toArray = ls at hl ⊢
  have hl : lv_has ls 3 [(0, .ref (q 0)), (1, .int a1), (2, .int a2)] := hl
  generalize hF : F6_mostCrates u a1 a2 = tgt
  refine lv_aload_n hx hb dX6_mostCrates_0 rfl (lv_at hl 0 rfl) ?_
  refine lv_iconst (v := 0) hx hb dX6_mostCrates_1 (by decide) ?_
  refine va_put (D := D) (ci := 6) (v := .int 0) (ty := .int) (C := RX6) (T := TX6) (N := 16) hx hb hts iX6 tyX6 tyX6_ok nmX6 hown hk.1 hP (wM_D hq) hS 0 (wM_0 _ _ _) rfl 6 (by decide) (hts (.fieldLink RX6 28 "BottleLoopModel" "thrown" "I") (List.mem_of_getElem? (i := 1) rfl)) (fun _ h9 => h9) rfl (by decide +kernel) rfl rfl (Nat.le_of_ble_eq_true rfl) dX6_mostCrates_2 (fun H locs hP _ hS => ?_)
  have hP : va_P D vwCl (wM cI q (bput u 6 2 0)) H := pM_f2 hP
  have hI_1 : mInv (bput u 6 2 0) := mInv_sc (k := 2) hI (by decide) (by decide) (by decide)
  refine lv_aload_n hx hb dX6_mostCrates_5 rfl (lv_at hl 0 rfl) ?_
  refine lv_iload_n hx hb dX6_mostCrates_6 rfl (lv_at hl 1 rfl) ?_
  refine bcall_Ri (va_runV (As := [.int a1]) (rest := []) ⟨hx, hb, hml, hown, hts⟩ (C6_isBrand l D cI q _ _ hP hI_1 a1) (cwV 1 hts gX6_mostCrates_X6_isBrand rfl rfl rfl ⟨rfl, bd_X6isBrand⟩ ⟨Nat.le_of_ble_eq_true rfl, Nat.le_of_ble_eq_true rfl⟩) (bPV hk (va_recv hk.1 hP (ci := 6) (q0 := 0) rfl (wM_0 _ _ _))) rfl rfl hl.1 rfl (lv_room (Nat.le_of_ble_eq_true rfl)) dX6_mostCrates_7 ⟨Nat.zero_le _, Nat.zero_le _⟩) hS (fun locs hS => ?_)
  refine lv_if_eq (tgt := 30) hx hb dX6_mostCrates_10 (by decide) (fun c_2 => ?_) (fun c_2 => ?_)
  · refine lv_aload_n hx hb dX6_mostCrates_30 rfl (lv_at hl 0 rfl) ?_
    refine lv_iconst (v := 1) hx hb dX6_mostCrates_31 (by decide) ?_
    refine bcall_Wi (va_runV (As := [.int 1]) (rest := []) ⟨hx, hb, hml, hown, hts⟩ (C6_fails l D cI q _ _ hq hP hI_1 1) (cwV 1 hts gX6_mostCrates_X6_fails rfl rfl rfl ⟨rfl, bd_X6fails⟩ ⟨Nat.le_of_ble_eq_true rfl, Nat.le_of_ble_eq_true rfl⟩) (bPV hk (va_recv hk.1 hP (ci := 6) (q0 := 0) rfl (wM_0 _ _ _))) rfl rfl hl.1 rfl (lv_room (Nat.le_of_ble_eq_true rfl)) dX6_mostCrates_32 ⟨Nat.zero_le _, Nat.zero_le _⟩) hS (fun H locs hP hI_3 hS => ?_)
    exact bret_Wi hx hb hr hP hI_3 hS hlocks dX6_mostCrates_35 (by rw [← hF, F6_mostCrates, if_pos c_2])
  · have hm_4 : mB a1 := mB_is hI_1 c_2
    refine lv_aload_n hx hb dX6_mostCrates_13 rfl (lv_at hl 0 rfl) ?_
    refine lv_iload_n hx hb dX6_mostCrates_14 rfl (lv_at hl 2 rfl) ?_
    refine bcall_Ri (va_runV (As := [.int a2]) (rest := []) ⟨hx, hb, hml, hown, hts⟩ (C6_isShop l D cI q _ _ hP hI_1 a2) (cwV 1 hts gX6_mostCrates_X6_isShop rfl rfl rfl ⟨rfl, bd_X6isShop⟩ ⟨Nat.le_of_ble_eq_true rfl, Nat.le_of_ble_eq_true rfl⟩) (bPV hk (va_recv hk.1 hP (ci := 6) (q0 := 0) rfl (wM_0 _ _ _))) rfl rfl hl.1 rfl (lv_room (Nat.le_of_ble_eq_true rfl)) dX6_mostCrates_15 ⟨Nat.zero_le _, Nat.zero_le _⟩) hS (fun locs hS => ?_)
    refine lv_if_eq (tgt := 30) hx hb dX6_mostCrates_18 (by decide) (fun c_5 => ?_) (fun c_5 => ?_)
    · refine lv_aload_n hx hb dX6_mostCrates_30 rfl (lv_at hl 0 rfl) ?_
      refine lv_iconst (v := 1) hx hb dX6_mostCrates_31 (by decide) ?_
      refine bcall_Wi (va_runV (As := [.int 1]) (rest := []) ⟨hx, hb, hml, hown, hts⟩ (C6_fails l D cI q _ _ hq hP hI_1 1) (cwV 1 hts gX6_mostCrates_X6_fails rfl rfl rfl ⟨rfl, bd_X6fails⟩ ⟨Nat.le_of_ble_eq_true rfl, Nat.le_of_ble_eq_true rfl⟩) (bPV hk (va_recv hk.1 hP (ci := 6) (q0 := 0) rfl (wM_0 _ _ _))) rfl rfl hl.1 rfl (lv_room (Nat.le_of_ble_eq_true rfl)) dX6_mostCrates_32 ⟨Nat.zero_le _, Nat.zero_le _⟩) hS (fun H locs hP hI_6 hS => ?_)
      exact bret_Wi hx hb hr hP hI_6 hS hlocks dX6_mostCrates_35 (by rw [← hF, F6_mostCrates, if_neg c_2, if_pos c_5])
    · have hm_7 : mS a2 := mS_is hI_1 c_5
      refine lv_aload_n hx hb dX6_mostCrates_21 rfl (lv_at hl 0 rfl) ?_
      refine lv_iload_n hx hb dX6_mostCrates_22 rfl (lv_at hl 1 rfl) ?_
      refine lv_iload_n hx hb dX6_mostCrates_23 rfl (lv_at hl 2 rfl) ?_
      refine bcall_Ri (va_runV (As := [.int a1, .int a2]) (rest := []) ⟨hx, hb, hml, hown, hts⟩ (C6_deliverable l D cI q _ _ hP hI_1 a1 a2 hm_4 hm_7) (cwV 2 hts gX6_mostCrates_X6_deliverable rfl rfl rfl ⟨rfl, bd_X6deliverable⟩ ⟨Nat.le_of_ble_eq_true rfl, Nat.le_of_ble_eq_true rfl⟩) (bPV hk (va_recv hk.1 hP (ci := 6) (q0 := 0) rfl (wM_0 _ _ _))) rfl rfl hl.1 rfl (lv_room (Nat.le_of_ble_eq_true rfl)) dX6_mostCrates_24 ⟨Nat.zero_le _, Nat.zero_le _⟩) hS (fun locs hS => ?_)
      refine lv_goto (tgt := 35) hx hb dX6_mostCrates_27 (by decide) ?_
      exact bret_Wi hx hb hr hP hI_1 hS hlocks dX6_mostCrates_35 (by rw [← hF, F6_mostCrates, if_neg c_2, if_neg c_5])
def F6_filled (u : bU) (a1 : Int32) (a2 : Int32) : Int32 × bU := (if (F6_isBrand (bput u 6 2 0) a1) = 0 then ((F6_fails (bput u 6 2 0) 1).1, (F6_fails (bput u 6 2 0) 1).2) else (if (F6_in a2 1 5000) = 0 then ((F6_fails (bput u 6 2 0) 2).1, (F6_fails (bput u 6 2 0) 2).2) else ((F6_full (bput u 6 2 0) a1 a2), (bput u 6 2 0))))
set_option maxHeartbeats 4000000 in
set_option maxRecDepth 100000 in
theorem C6_filled (l : Launch) (D : va_G) (cI : ClassId) (q : Nat → Nat) (u : bU) (H0 : Heap) (hq : bInj 7 q) (hP : va_P D vwCl (wM cI q u) H0) (hI : mInv u) (a1 : Int32) (a2 : Int32) : Met l yX6_filled wsX6_filled ({ frames := 3, cells := 0, slots := 0, locals := 66 }) (bP D [(cI, .int)] H0 [.ref (q 0), .int a1, .int a2]) (bWi D (wM cI q) mInv (bA 7 q H0.size) (F6_filled u a1 a2)) 0 0 (bA 7 q H0.size) := by
  refine Met.ofW (cc := cX6_filled) (maxL := 3) (ret := (some .int)) (by decide) rfl ?_
  intro p e s m args below meth c s₁ B hml hv
  obtain ⟨rfl, hH, hk⟩ := hv
  subst hH
  have hx := B.exec
  have hb := B.bytes
  have hr := B.returns
  have hts := atoms_spec (ws := wsX6_filled) B.pre
  have hown : s.vm.findClass RX6 = some m.cls := findClass_of_methodNamed B.named
  have hlocks := B.notSynchronized
  have hNB := mNB hI
  have hNS := mNS hI
  have hI0 := hI
  have iX6 : ∀ w ∈ wsX60, w ∈ wsX6_filled := by decide +kernel
  have hS : va_S (bA 7 q s.heap.size) s.heap s.heap [] := va_S.rf
  have hl := lv_entry ([.ref (q 0), .int a1, .int a2]) (n := 3) (Nat.le_of_ble_eq_true rfl)
  rw [lg_entry_eq]
  generalize (lg_sl ([.ref (q 0), .int a1, .int a2]) ++ List.replicate (3 - (lg_sl ([.ref (q 0), .int a1, .int a2])).length) Slot.unset).toArray = ls at hl ⊢
  have hl : lv_has ls 3 [(0, .ref (q 0)), (1, .int a1), (2, .int a2)] := hl
  generalize hF : F6_filled u a1 a2 = tgt
  refine lv_aload_n hx hb dX6_filled_0 rfl (lv_at hl 0 rfl) ?_
  refine lv_iconst (v := 0) hx hb dX6_filled_1 (by decide) ?_
  refine va_put (D := D) (ci := 6) (v := .int 0) (ty := .int) (C := RX6) (T := TX6) (N := 16) hx hb hts iX6 tyX6 tyX6_ok nmX6 hown hk.1 hP (wM_D hq) hS 0 (wM_0 _ _ _) rfl 6 (by decide) (hts (.fieldLink RX6 28 "BottleLoopModel" "thrown" "I") (List.mem_of_getElem? (i := 1) rfl)) (fun _ h9 => h9) rfl (by decide +kernel) rfl rfl (Nat.le_of_ble_eq_true rfl) dX6_filled_2 (fun H locs hP _ hS => ?_)
  have hP : va_P D vwCl (wM cI q (bput u 6 2 0)) H := pM_f2 hP
  have hI_1 : mInv (bput u 6 2 0) := mInv_sc (k := 2) hI (by decide) (by decide) (by decide)
  refine lv_aload_n hx hb dX6_filled_5 rfl (lv_at hl 0 rfl) ?_
  refine lv_iload_n hx hb dX6_filled_6 rfl (lv_at hl 1 rfl) ?_
  refine bcall_Ri (va_runV (As := [.int a1]) (rest := []) ⟨hx, hb, hml, hown, hts⟩ (C6_isBrand l D cI q _ _ hP hI_1 a1) (cwV 1 hts gX6_filled_X6_isBrand rfl rfl rfl ⟨rfl, bd_X6isBrand⟩ ⟨Nat.le_of_ble_eq_true rfl, Nat.le_of_ble_eq_true rfl⟩) (bPV hk (va_recv hk.1 hP (ci := 6) (q0 := 0) rfl (wM_0 _ _ _))) rfl rfl hl.1 rfl (lv_room (Nat.le_of_ble_eq_true rfl)) dX6_filled_7 ⟨Nat.zero_le _, Nat.zero_le _⟩) hS (fun locs hS => ?_)
  refine lv_if_ne (tgt := 19) hx hb dX6_filled_10 (by decide) (fun c_2 => ?_) (fun c_2 => ?_)
  · have hm_3 : mB a1 := mB_is hI_1 c_2
    refine lv_iload_n hx hb dX6_filled_19 rfl (lv_at hl 2 rfl) ?_
    refine lv_iconst (v := 1) hx hb dX6_filled_20 (by decide) ?_
    refine lv_sipush (v := 5000) hx hb dX6_filled_21 (by decide) ?_
    refine bcall_Ri (va_runS (As := [.int a2, .int 1, .int 5000]) (rest := []) ⟨hx, hb, hml, hown, hts⟩ (C6_in l D cI q _ a2 1 5000) (va_cwS 3 hts gX6_filled_X6_in rfl rfl rfl bd_X6in ⟨Nat.le_of_ble_eq_true rfl, Nat.le_of_ble_eq_true rfl⟩) (bPS hk) rfl rfl hl.1 rfl (lv_room (Nat.le_of_ble_eq_true rfl)) dX6_filled_24 ⟨Nat.zero_le _, Nat.zero_le _⟩) hS (fun locs hS => ?_)
    refine lv_if_eq (tgt := 39) hx hb dX6_filled_27 (by decide) (fun c_4 => ?_) (fun c_4 => ?_)
    · refine lv_aload_n hx hb dX6_filled_39 rfl (lv_at hl 0 rfl) ?_
      refine lv_iconst (v := 2) hx hb dX6_filled_40 (by decide) ?_
      refine bcall_Wi (va_runV (As := [.int 2]) (rest := []) ⟨hx, hb, hml, hown, hts⟩ (C6_fails l D cI q _ _ hq hP hI_1 2) (cwV 1 hts gX6_filled_X6_fails rfl rfl rfl ⟨rfl, bd_X6fails⟩ ⟨Nat.le_of_ble_eq_true rfl, Nat.le_of_ble_eq_true rfl⟩) (bPV hk (va_recv hk.1 hP (ci := 6) (q0 := 0) rfl (wM_0 _ _ _))) rfl rfl hl.1 rfl (lv_room (Nat.le_of_ble_eq_true rfl)) dX6_filled_41 ⟨Nat.zero_le _, Nat.zero_le _⟩) hS (fun H locs hP hI_5 hS => ?_)
      exact bret_Wi hx hb hr hP hI_5 hS hlocks dX6_filled_44 (by rw [← hF, F6_filled, if_neg c_2, if_pos c_4])
    · refine lv_aload_n hx hb dX6_filled_30 rfl (lv_at hl 0 rfl) ?_
      refine lv_iload_n hx hb dX6_filled_31 rfl (lv_at hl 1 rfl) ?_
      refine lv_iload_n hx hb dX6_filled_32 rfl (lv_at hl 2 rfl) ?_
      refine bcall_Ri (va_runV (As := [.int a1, .int a2]) (rest := []) ⟨hx, hb, hml, hown, hts⟩ (C6_full l D cI q _ _ hP hI_1 a1 a2 hm_3) (cwV 2 hts gX6_filled_X6_full rfl rfl rfl ⟨rfl, bd_X6full⟩ ⟨Nat.le_of_ble_eq_true rfl, Nat.le_of_ble_eq_true rfl⟩) (bPV hk (va_recv hk.1 hP (ci := 6) (q0 := 0) rfl (wM_0 _ _ _))) rfl rfl hl.1 rfl (lv_room (Nat.le_of_ble_eq_true rfl)) dX6_filled_33 ⟨Nat.zero_le _, Nat.zero_le _⟩) hS (fun locs hS => ?_)
      refine lv_goto (tgt := 44) hx hb dX6_filled_36 (by decide) ?_
      exact bret_Wi hx hb hr hP hI_1 hS hlocks dX6_filled_44 (by rw [← hF, F6_filled, if_neg c_2, if_neg c_4])
  · refine lv_aload_n hx hb dX6_filled_13 rfl (lv_at hl 0 rfl) ?_
    refine lv_iconst (v := 1) hx hb dX6_filled_14 (by decide) ?_
    refine bcall_Wi (va_runV (As := [.int 1]) (rest := []) ⟨hx, hb, hml, hown, hts⟩ (C6_fails l D cI q _ _ hq hP hI_1 1) (cwV 1 hts gX6_filled_X6_fails rfl rfl rfl ⟨rfl, bd_X6fails⟩ ⟨Nat.le_of_ble_eq_true rfl, Nat.le_of_ble_eq_true rfl⟩) (bPV hk (va_recv hk.1 hP (ci := 6) (q0 := 0) rfl (wM_0 _ _ _))) rfl rfl hl.1 rfl (lv_room (Nat.le_of_ble_eq_true rfl)) dX6_filled_15 ⟨Nat.zero_le _, Nat.zero_le _⟩) hS (fun H locs hP hI_6 hS => ?_)
    exact bret_Wi hx hb hr hP hI_6 hS hlocks dX6_filled_18 (by rw [← hF, F6_filled, if_pos c_2])

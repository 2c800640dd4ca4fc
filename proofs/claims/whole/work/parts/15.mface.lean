theorem bd_X6againstBreak : yX6_againstBreak.cls ≠ "java/lang/invoke/MethodHandle" ∧ yX6_againstBreak.cls ≠ "java/lang/invoke/VarHandle" ∧ (parseMethodDescriptor yX6_againstBreak.desc).map (fun d => d.parameters.length) = some 3 := by decide +kernel
theorem bd_X6againstCollect : yX6_againstCollect.cls ≠ "java/lang/invoke/MethodHandle" ∧ yX6_againstCollect.cls ≠ "java/lang/invoke/VarHandle" ∧ (parseMethodDescriptor yX6_againstCollect.desc).map (fun d => d.parameters.length) = some 3 := by decide +kernel
theorem bd_X6againstDeliver : yX6_againstDeliver.cls ≠ "java/lang/invoke/MethodHandle" ∧ yX6_againstDeliver.cls ≠ "java/lang/invoke/VarHandle" ∧ (parseMethodDescriptor yX6_againstDeliver.desc).map (fun d => d.parameters.length) = some 3 := by decide +kernel
theorem bd_X6againstSell : yX6_againstSell.cls ≠ "java/lang/invoke/MethodHandle" ∧ yX6_againstSell.cls ≠ "java/lang/invoke/VarHandle" ∧ (parseMethodDescriptor yX6_againstSell.desc).map (fun d => d.parameters.length) = some 3 := by decide +kernel
theorem bd_X6againstTakeBack : yX6_againstTakeBack.cls ≠ "java/lang/invoke/MethodHandle" ∧ yX6_againstTakeBack.cls ≠ "java/lang/invoke/VarHandle" ∧ (parseMethodDescriptor yX6_againstTakeBack.desc).map (fun d => d.parameters.length) = some 3 := by decide +kernel
theorem bd_X6breaksThem : yX6_breaksThem.cls ≠ "java/lang/invoke/MethodHandle" ∧ yX6_breaksThem.cls ≠ "java/lang/invoke/VarHandle" ∧ (parseMethodDescriptor yX6_breaksThem.desc).map (fun d => d.parameters.length) = some 3 := by decide +kernel
theorem bd_X6collects : yX6_collects.cls ≠ "java/lang/invoke/MethodHandle" ∧ yX6_collects.cls ≠ "java/lang/invoke/VarHandle" ∧ (parseMethodDescriptor yX6_collects.desc).map (fun d => d.parameters.length) = some 3 := by decide +kernel
theorem bd_X6cratesInShops : yX6_cratesInShops.cls ≠ "java/lang/invoke/MethodHandle" ∧ yX6_cratesInShops.cls ≠ "java/lang/invoke/VarHandle" ∧ (parseMethodDescriptor yX6_cratesInShops.desc).map (fun d => d.parameters.length) = some 0 := by decide +kernel
theorem bd_X6delivers : yX6_delivers.cls ≠ "java/lang/invoke/MethodHandle" ∧ yX6_delivers.cls ≠ "java/lang/invoke/VarHandle" ∧ (parseMethodDescriptor yX6_delivers.desc).map (fun d => d.parameters.length) = some 3 := by decide +kernel
theorem bd_X6fails : yX6_fails.cls ≠ "java/lang/invoke/MethodHandle" ∧ yX6_fails.cls ≠ "java/lang/invoke/VarHandle" ∧ (parseMethodDescriptor yX6_fails.desc).map (fun d => d.parameters.length) = some 1 := by decide +kernel
theorem bd_X6fills : yX6_fills.cls ≠ "java/lang/invoke/MethodHandle" ∧ yX6_fills.cls ≠ "java/lang/invoke/VarHandle" ∧ (parseMethodDescriptor yX6_fills.desc).map (fun d => d.parameters.length) = some 2 := by decide +kernel
theorem bd_X6isBrand : yX6_isBrand.cls ≠ "java/lang/invoke/MethodHandle" ∧ yX6_isBrand.cls ≠ "java/lang/invoke/VarHandle" ∧ (parseMethodDescriptor yX6_isBrand.desc).map (fun d => d.parameters.length) = some 1 := by decide +kernel
theorem bd_X6isShop : yX6_isShop.cls ≠ "java/lang/invoke/MethodHandle" ∧ yX6_isShop.cls ≠ "java/lang/invoke/VarHandle" ∧ (parseMethodDescriptor yX6_isShop.desc).map (fun d => d.parameters.length) = some 1 := by decide +kernel
theorem bd_X6save : yX6_save.cls ≠ "java/lang/invoke/MethodHandle" ∧ yX6_save.cls ≠ "java/lang/invoke/VarHandle" ∧ (parseMethodDescriptor yX6_save.desc).map (fun d => d.parameters.length) = some 0 := by decide +kernel
theorem bd_X6sells : yX6_sells.cls ≠ "java/lang/invoke/MethodHandle" ∧ yX6_sells.cls ≠ "java/lang/invoke/VarHandle" ∧ (parseMethodDescriptor yX6_sells.desc).map (fun d => d.parameters.length) = some 3 := by decide +kernel
theorem bd_X6takesBack : yX6_takesBack.cls ≠ "java/lang/invoke/MethodHandle" ∧ yX6_takesBack.cls ≠ "java/lang/invoke/VarHandle" ∧ (parseMethodDescriptor yX6_takesBack.desc).map (fun d => d.parameters.length) = some 3 := by decide +kernel
theorem bd_X6yardOf : yX6_yardOf.cls ≠ "java/lang/invoke/MethodHandle" ∧ yX6_yardOf.cls ≠ "java/lang/invoke/VarHandle" ∧ (parseMethodDescriptor yX6_yardOf.desc).map (fun d => d.parameters.length) = some 1 := by decide +kernel
theorem mSet5 {u : bU} {x y hi : Int32} (hx : ¬ F6_in x 0 5 = 0) (hlo : u 4 5 = 2) (hin : ¬ F6_in y (u 4 x.toNatClampNeg) hi = 0) : x = 5 → ¬ y = 0 := by
  intro e h
  subst e
  have h1 := (mIn_iff.mp hin).1
  have h2 : u 4 (5 : Int32).toNatClampNeg = 2 := hlo
  rw [h2, h] at h1
  exact absurd h1 (by decide)
def F6_addBrand (u : bU) (a1 : Int32) (a2 : Int32) : Int32 × bU := (if (F6_in a1 0 2) = 0 then ((F6_fails (bput u 6 2 0) 1).1, (F6_fails (bput u 6 2 0) 1).2) else (if (F6_in a2 0 5000) = 0 then ((F6_fails (bput u 6 2 0) 1).1, (F6_fails (bput u 6 2 0) 1).2) else (if ((bput u 6 2 0) 0 0) = (8 : Int32) then ((F6_fails (bput u 6 2 0) 2).1, (F6_fails (bput u 6 2 0) 2).2) else ((((badd (bput (bput (F6_save (bput u 6 2 0)) 0 (F6_brandAt ((F6_save (bput u 6 2 0)) 0 0) 0).toNatClampNeg a1) 0 (F6_brandAt ((bput (F6_save (bput u 6 2 0)) 0 (F6_brandAt ((F6_save (bput u 6 2 0)) 0 0) 0).toNatClampNeg a1) 0 0) 1).toNatClampNeg a2) 0 0 1) 0 0) - 1), (badd (bput (bput (F6_save (bput u 6 2 0)) 0 (F6_brandAt ((F6_save (bput u 6 2 0)) 0 0) 0).toNatClampNeg a1) 0 (F6_brandAt ((bput (F6_save (bput u 6 2 0)) 0 (F6_brandAt ((F6_save (bput u 6 2 0)) 0 0) 0).toNatClampNeg a1) 0 0) 1).toNatClampNeg a2) 0 0 1)))))
set_option maxHeartbeats 4000000 in
set_option maxRecDepth 100000 in
theorem C6_addBrand (l : Launch) (D : va_G) (cI : ClassId) (q : Nat → Nat) (u : bU) (H0 : Heap) (hq : bInj 7 q) (hP : va_P D vwCl (wM cI q u) H0) (hI : mInv u) (a1 : Int32) (a2 : Int32) : Met l yX6_addBrand wsX6_addBrand ({ frames := 1, cells := 0, slots := 0, locals := 22 }) (bP D [(cI, .int)] H0 [.ref (q 0), .int a1, .int a2]) (bWi D (wM cI q) mInv (bA 7 q H0.size) (F6_addBrand u a1 a2)) 0 0 (bA 7 q H0.size) := by
  refine Met.ofW (cc := cX6_addBrand) (maxL := 3) (ret := (some .int)) (by decide) rfl ?_
  intro p e s m args below meth c s₁ B hml hv
  obtain ⟨rfl, hH, hk⟩ := hv
  subst hH
  have hx := B.exec
  have hb := B.bytes
  have hr := B.returns
  have hts := atoms_spec (ws := wsX6_addBrand) B.pre
  have hown : s.vm.findClass RX6 = some m.cls := findClass_of_methodNamed B.named
  have hlocks := B.notSynchronized
  have hNB := mNB hI
  have hNS := mNS hI
  have hI0 := hI
  have iX6 : ∀ w ∈ wsX60, w ∈ wsX6_addBrand := by decide +kernel
  have hS : va_S (bA 7 q s.heap.size) s.heap s.heap [] := va_S.rf
  have hl := lv_entry ([.ref (q 0), .int a1, .int a2]) (n := 3) (Nat.le_of_ble_eq_true rfl)
  rw [lg_entry_eq]
  generalize (lg_sl ([.ref (q 0), .int a1, .int a2]) ++ List.replicate (3 - (lg_sl ([.ref (q 0), .int a1, .int a2])).length) Slot.unset).toArray = ls at hl ⊢
  have hl : lv_has ls 3 [(0, .ref (q 0)), (1, .int a1), (2, .int a2)] := hl
  generalize hF : F6_addBrand u a1 a2 = tgt
  refine lv_aload_n hx hb dX6_addBrand_0 rfl (lv_at hl 0 rfl) ?_
  refine lv_iconst (v := 0) hx hb dX6_addBrand_1 (by decide) ?_
  refine va_put (D := D) (ci := 6) (v := .int 0) (ty := .int) (C := RX6) (T := TX6) (N := 16) hx hb hts iX6 tyX6 tyX6_ok nmX6 hown hk.1 hP (wM_D hq) hS 0 (wM_0 _ _ _) rfl 6 (by decide) (hts (.fieldLink RX6 28 "BottleLoopModel" "thrown" "I") (List.mem_of_getElem? (i := 1) rfl)) (fun _ h9 => h9) rfl (by decide +kernel) rfl rfl (Nat.le_of_ble_eq_true rfl) dX6_addBrand_2 (fun H locs hP _ hS => ?_)
  have hP : va_P D vwCl (wM cI q (bput u 6 2 0)) H := pM_f2 hP
  have hI_1 : mInv (bput u 6 2 0) := mInv_sc (k := 2) hI (by decide) (by decide) (by decide)
  refine lv_iload_n hx hb dX6_addBrand_5 rfl (lv_at hl 1 rfl) ?_
  refine lv_iconst (v := 0) hx hb dX6_addBrand_6 (by decide) ?_
  refine lv_iconst (v := 2) hx hb dX6_addBrand_7 (by decide) ?_
  refine bcall_Ri (va_runS (As := [.int a1, .int 0, .int 2]) (rest := []) ⟨hx, hb, hml, hown, hts⟩ (C6_in l D cI q _ a1 0 2) (va_cwS 3 hts gX6_addBrand_X6_in rfl rfl rfl bd_X6in ⟨Nat.le_of_ble_eq_true rfl, Nat.le_of_ble_eq_true rfl⟩) (bPS hk) rfl rfl hl.1 rfl (lv_room (Nat.le_of_ble_eq_true rfl)) dX6_addBrand_8 ⟨Nat.zero_le _, Nat.zero_le _⟩) hS (fun locs hS => ?_)
  refine lv_if_eq (tgt := 25) hx hb dX6_addBrand_11 (by decide) (fun c_2 => ?_) (fun c_2 => ?_)
  · refine lv_aload_n hx hb dX6_addBrand_25 rfl (lv_at hl 0 rfl) ?_
    refine lv_iconst (v := 1) hx hb dX6_addBrand_26 (by decide) ?_
    refine bcall_Wi (va_runV (As := [.int 1]) (rest := []) ⟨hx, hb, hml, hown, hts⟩ (C6_fails l D cI q _ _ hq hP hI_1 1) (cwV 1 hts gX6_addBrand_X6_fails rfl rfl rfl ⟨rfl, bd_X6fails⟩ ⟨Nat.le_of_ble_eq_true rfl, Nat.le_of_ble_eq_true rfl⟩) (bPV hk (va_recv hk.1 hP (ci := 6) (q0 := 0) rfl (wM_0 _ _ _))) rfl rfl hl.1 rfl (lv_room (Nat.le_of_ble_eq_true rfl)) dX6_addBrand_27 ⟨Nat.zero_le _, Nat.zero_le _⟩) hS (fun H locs hP hI_3 hS => ?_)
    exact bret_Wi hx hb hr hP hI_3 hS hlocks dX6_addBrand_30 (by rw [← hF, F6_addBrand, if_pos c_2])
  · have hm_4 : mK a1 := mK_in c_2
    refine lv_iload_n hx hb dX6_addBrand_14 rfl (lv_at hl 2 rfl) ?_
    refine lv_iconst (v := 0) hx hb dX6_addBrand_15 (by decide) ?_
    refine lv_sipush (v := 5000) hx hb dX6_addBrand_16 (by decide) ?_
    refine bcall_Ri (va_runS (As := [.int a2, .int 0, .int 5000]) (rest := []) ⟨hx, hb, hml, hown, hts⟩ (C6_in l D cI q _ a2 0 5000) (va_cwS 3 hts gX6_addBrand_X6_in rfl rfl rfl bd_X6in ⟨Nat.le_of_ble_eq_true rfl, Nat.le_of_ble_eq_true rfl⟩) (bPS hk) rfl rfl hl.1 rfl (lv_room (Nat.le_of_ble_eq_true rfl)) dX6_addBrand_19 ⟨Nat.zero_le _, Nat.zero_le _⟩) hS (fun locs hS => ?_)
    refine lv_if_ne (tgt := 31) hx hb dX6_addBrand_22 (by decide) (fun c_5 => ?_) (fun c_5 => ?_)
    · refine lv_aload_n hx hb dX6_addBrand_31 rfl (lv_at hl 0 rfl) ?_
      refine va_get (D := D) (ci := 6) (C := RX6) (T := TX6) (N := 16) hx hb hts iX6 hown hk.1 hP 0 (wM_0 _ _ _) rfl 0 (by decide) (hts (.fieldLink RX6 7 "BottleLoopModel" "v" "[I") (List.mem_of_getElem? (i := 2) rfl)) (fun _ h9 => h9) rfl dX6_addBrand_32 ?_
      refine lv_iconst (v := 0) hx hb dX6_addBrand_35 (by decide) ?_
      refine va_iald hx hb hk.1 hP 1 0 (wM_1 _ _ _) rfl (vp_in_nI (n := 0) (by decide) (by decide)) dX6_addBrand_36 ?_
      refine lv_topi (fun z9 hz9 => ?_)
      obtain rfl : z9 = ((bput u 6 2 0) 0 0) := hz9.trans rfl
      refine lv_bipush (v := 8) hx hb dX6_addBrand_37 (by decide) ?_
      refine lv_icmp_ne (tgt := 48) hx hb dX6_addBrand_39 (by decide) (fun c_6 => ?_) (fun c_6 => ?_)
      · have hm_7 : mB ((bput u 6 2 0) 0 0) := mB_0 hI_1 c_6
        refine lv_aload_n hx hb dX6_addBrand_48 rfl (lv_at hl 0 rfl) ?_
        refine bcall_Wv (va_runV (As := []) (rest := []) ⟨hx, hb, hml, hown, hts⟩ (C6_save l D cI q _ _ hq hP hI_1 ) (cwV 0 hts gX6_addBrand_X6_save rfl rfl rfl ⟨rfl, bd_X6save⟩ ⟨Nat.le_of_ble_eq_true rfl, Nat.le_of_ble_eq_true rfl⟩) (bPV hk (va_recv hk.1 hP (ci := 6) (q0 := 0) rfl (wM_0 _ _ _))) rfl rfl hl.1 rfl (lv_room (Nat.le_of_ble_eq_true rfl)) dX6_addBrand_49 ⟨Nat.zero_le _, Nat.zero_le _⟩) hS (fun H locs hP hI_8 hS => ?_)
        refine lv_aload_n hx hb dX6_addBrand_52 rfl (lv_at hl 0 rfl) ?_
        refine va_get (D := D) (ci := 6) (C := RX6) (T := TX6) (N := 16) hx hb hts iX6 hown hk.1 hP 0 (wM_0 _ _ _) rfl 0 (by decide) (hts (.fieldLink RX6 7 "BottleLoopModel" "v" "[I") (List.mem_of_getElem? (i := 2) rfl)) (fun _ h9 => h9) rfl dX6_addBrand_53 ?_
        refine lv_aload_n hx hb dX6_addBrand_56 rfl (lv_at hl 0 rfl) ?_
        refine va_get (D := D) (ci := 6) (C := RX6) (T := TX6) (N := 16) hx hb hts iX6 hown hk.1 hP 0 (wM_0 _ _ _) rfl 0 (by decide) (hts (.fieldLink RX6 7 "BottleLoopModel" "v" "[I") (List.mem_of_getElem? (i := 2) rfl)) (fun _ h9 => h9) rfl dX6_addBrand_57 ?_
        refine lv_iconst (v := 0) hx hb dX6_addBrand_60 (by decide) ?_
        refine va_iald hx hb hk.1 hP 1 0 (wM_1 _ _ _) rfl (vp_in_nI (n := 0) (by decide) (by decide)) dX6_addBrand_61 ?_
        refine lv_topi (fun z9 hz9 => ?_)
        obtain rfl : z9 = ((F6_save (bput u 6 2 0)) 0 0) := hz9.trans rfl
        refine lv_iconst (v := 0) hx hb dX6_addBrand_62 (by decide) ?_
        refine bcall_Ri (va_runS (As := [.int ((F6_save (bput u 6 2 0)) 0 0), .int 0]) (rest := [.ref (q 1)]) ⟨hx, hb, hml, hown, hts⟩ (C6_brandAt l D cI q _ ((F6_save (bput u 6 2 0)) 0 0) 0) (va_cwS 2 hts gX6_addBrand_X6_brandAt rfl rfl rfl bd_X6brandAt ⟨Nat.le_of_ble_eq_true rfl, Nat.le_of_ble_eq_true rfl⟩) (bPS hk) rfl rfl hl.1 rfl (lv_room (Nat.le_of_ble_eq_true rfl)) dX6_addBrand_63 ⟨Nat.zero_le _, Nat.zero_le _⟩) hS (fun locs hS => ?_)
        refine lv_iload_n hx hb dX6_addBrand_66 rfl (lv_at hl 1 rfl) ?_
        refine va_iast hx hb hk.1 hP (wM_D hq) hS 1 0 (wM_1 _ _ _) rfl (mXB (w := 0) (mB0_save hm_7) (by decide)) dX6_addBrand_67 (fun H locs hP _ hS => ?_)
        have hP : va_P D vwCl (wM cI q (bput (F6_save (bput u 6 2 0)) 0 (F6_brandAt ((F6_save (bput u 6 2 0)) 0 0) 0).toNatClampNeg a1)) H := pM_0 hP
        have hI_9 : mInv (bput (F6_save (bput u 6 2 0)) 0 (F6_brandAt ((F6_save (bput u 6 2 0)) 0 0) 0).toNatClampNeg a1) := mInv_B0 hI_8 (mB0_save hm_7) hm_4
        refine lv_aload_n hx hb dX6_addBrand_68 rfl (lv_at hl 0 rfl) ?_
        refine va_get (D := D) (ci := 6) (C := RX6) (T := TX6) (N := 16) hx hb hts iX6 hown hk.1 hP 0 (wM_0 _ _ _) rfl 0 (by decide) (hts (.fieldLink RX6 7 "BottleLoopModel" "v" "[I") (List.mem_of_getElem? (i := 2) rfl)) (fun _ h9 => h9) rfl dX6_addBrand_69 ?_
        refine lv_aload_n hx hb dX6_addBrand_72 rfl (lv_at hl 0 rfl) ?_
        refine va_get (D := D) (ci := 6) (C := RX6) (T := TX6) (N := 16) hx hb hts iX6 hown hk.1 hP 0 (wM_0 _ _ _) rfl 0 (by decide) (hts (.fieldLink RX6 7 "BottleLoopModel" "v" "[I") (List.mem_of_getElem? (i := 2) rfl)) (fun _ h9 => h9) rfl dX6_addBrand_73 ?_
        refine lv_iconst (v := 0) hx hb dX6_addBrand_76 (by decide) ?_
        refine va_iald hx hb hk.1 hP 1 0 (wM_1 _ _ _) rfl (vp_in_nI (n := 0) (by decide) (by decide)) dX6_addBrand_77 ?_
        refine lv_topi (fun z9 hz9 => ?_)
        obtain rfl : z9 = ((bput (F6_save (bput u 6 2 0)) 0 (F6_brandAt ((F6_save (bput u 6 2 0)) 0 0) 0).toNatClampNeg a1) 0 0) := hz9.trans rfl
        refine lv_iconst (v := 1) hx hb dX6_addBrand_78 (by decide) ?_
        refine bcall_Ri (va_runS (As := [.int ((bput (F6_save (bput u 6 2 0)) 0 (F6_brandAt ((F6_save (bput u 6 2 0)) 0 0) 0).toNatClampNeg a1) 0 0), .int 1]) (rest := [.ref (q 1)]) ⟨hx, hb, hml, hown, hts⟩ (C6_brandAt l D cI q _ ((bput (F6_save (bput u 6 2 0)) 0 (F6_brandAt ((F6_save (bput u 6 2 0)) 0 0) 0).toNatClampNeg a1) 0 0) 1) (va_cwS 2 hts gX6_addBrand_X6_brandAt rfl rfl rfl bd_X6brandAt ⟨Nat.le_of_ble_eq_true rfl, Nat.le_of_ble_eq_true rfl⟩) (bPS hk) rfl rfl hl.1 rfl (lv_room (Nat.le_of_ble_eq_true rfl)) dX6_addBrand_79 ⟨Nat.zero_le _, Nat.zero_le _⟩) hS (fun locs hS => ?_)
        refine lv_iload_n hx hb dX6_addBrand_82 rfl (lv_at hl 2 rfl) ?_
        refine va_iast hx hb hk.1 hP (wM_D hq) hS 1 0 (wM_1 _ _ _) rfl (mXB (w := 1) (mB0_keep (w := 0) (mB0_save hm_7) (mB0_save hm_7) (by decide)) (by decide)) dX6_addBrand_83 (fun H locs hP _ hS => ?_)
        have hP : va_P D vwCl (wM cI q (bput (bput (F6_save (bput u 6 2 0)) 0 (F6_brandAt ((F6_save (bput u 6 2 0)) 0 0) 0).toNatClampNeg a1) 0 (F6_brandAt ((bput (F6_save (bput u 6 2 0)) 0 (F6_brandAt ((F6_save (bput u 6 2 0)) 0 0) 0).toNatClampNeg a1) 0 0) 1).toNatClampNeg a2)) H := pM_0 hP
        have hI_10 : mInv (bput (bput (F6_save (bput u 6 2 0)) 0 (F6_brandAt ((F6_save (bput u 6 2 0)) 0 0) 0).toNatClampNeg a1) 0 (F6_brandAt ((bput (F6_save (bput u 6 2 0)) 0 (F6_brandAt ((F6_save (bput u 6 2 0)) 0 0) 0).toNatClampNeg a1) 0 0) 1).toNatClampNeg a2) := mInv_B (w := 1) hI_9 (mB0_keep (w := 0) (mB0_save hm_7) (mB0_save hm_7) (by decide)) (by decide) (by decide)
        refine lv_aload_n hx hb dX6_addBrand_84 rfl (lv_at hl 0 rfl) ?_
        refine va_get (D := D) (ci := 6) (C := RX6) (T := TX6) (N := 16) hx hb hts iX6 hown hk.1 hP 0 (wM_0 _ _ _) rfl 0 (by decide) (hts (.fieldLink RX6 7 "BottleLoopModel" "v" "[I") (List.mem_of_getElem? (i := 2) rfl)) (fun _ h9 => h9) rfl dX6_addBrand_85 ?_
        refine lv_iconst (v := 0) hx hb dX6_addBrand_88 (by decide) ?_
        refine lv_dup2_11 hx hb dX6_addBrand_89 rfl rfl ?_
        refine va_iald hx hb hk.1 hP 1 0 (wM_1 _ _ _) rfl (vp_in_nI (n := 0) (by decide) (by decide)) dX6_addBrand_90 ?_
        refine lv_topi (fun z9 hz9 => ?_)
        obtain rfl : z9 = ((bput (bput (F6_save (bput u 6 2 0)) 0 (F6_brandAt ((F6_save (bput u 6 2 0)) 0 0) 0).toNatClampNeg a1) 0 (F6_brandAt ((bput (F6_save (bput u 6 2 0)) 0 (F6_brandAt ((F6_save (bput u 6 2 0)) 0 0) 0).toNatClampNeg a1) 0 0) 1).toNatClampNeg a2) 0 0) := hz9.trans rfl
        refine lv_iconst (v := 1) hx hb dX6_addBrand_91 (by decide) ?_
        refine lv_iadd hx hb dX6_addBrand_92 ?_
        refine va_iast hx hb hk.1 hP (wM_D hq) hS 1 0 (wM_1 _ _ _) rfl (vp_in_nI (n := 0) (by decide) (by decide)) dX6_addBrand_93 (fun H locs hP _ hS => ?_)
        have hP : va_P D vwCl (wM cI q (badd (bput (bput (F6_save (bput u 6 2 0)) 0 (F6_brandAt ((F6_save (bput u 6 2 0)) 0 0) 0).toNatClampNeg a1) 0 (F6_brandAt ((bput (F6_save (bput u 6 2 0)) 0 (F6_brandAt ((F6_save (bput u 6 2 0)) 0 0) 0).toNatClampNeg a1) 0 0) 1).toNatClampNeg a2) 0 0 1)) H := pM_0a hP
        have hI_11 : mInv (badd (bput (bput (F6_save (bput u 6 2 0)) 0 (F6_brandAt ((F6_save (bput u 6 2 0)) 0 0) 0).toNatClampNeg a1) 0 (F6_brandAt ((bput (F6_save (bput u 6 2 0)) 0 (F6_brandAt ((F6_save (bput u 6 2 0)) 0 0) 0).toNatClampNeg a1) 0 0) 1).toNatClampNeg a2) 0 0 1) := mInv_0 hI_10 (mB0_keep (w := 1) (mB0_keep (w := 0) (mB0_save hm_7) (mB0_save hm_7) (by decide)) (mB0_keep (w := 0) (mB0_save hm_7) (mB0_save hm_7) (by decide)) (by decide))
        refine lv_aload_n hx hb dX6_addBrand_94 rfl (lv_at hl 0 rfl) ?_
        refine va_get (D := D) (ci := 6) (C := RX6) (T := TX6) (N := 16) hx hb hts iX6 hown hk.1 hP 0 (wM_0 _ _ _) rfl 0 (by decide) (hts (.fieldLink RX6 7 "BottleLoopModel" "v" "[I") (List.mem_of_getElem? (i := 2) rfl)) (fun _ h9 => h9) rfl dX6_addBrand_95 ?_
        refine lv_iconst (v := 0) hx hb dX6_addBrand_98 (by decide) ?_
        refine va_iald hx hb hk.1 hP 1 0 (wM_1 _ _ _) rfl (vp_in_nI (n := 0) (by decide) (by decide)) dX6_addBrand_99 ?_
        refine lv_topi (fun z9 hz9 => ?_)
        obtain rfl : z9 = ((badd (bput (bput (F6_save (bput u 6 2 0)) 0 (F6_brandAt ((F6_save (bput u 6 2 0)) 0 0) 0).toNatClampNeg a1) 0 (F6_brandAt ((bput (F6_save (bput u 6 2 0)) 0 (F6_brandAt ((F6_save (bput u 6 2 0)) 0 0) 0).toNatClampNeg a1) 0 0) 1).toNatClampNeg a2) 0 0 1) 0 0) := hz9.trans rfl
        refine lv_iconst (v := 1) hx hb dX6_addBrand_100 (by decide) ?_
        refine lv_isub hx hb dX6_addBrand_101 ?_
        exact bret_Wi hx hb hr hP hI_11 hS hlocks dX6_addBrand_102 (by rw [← hF, F6_addBrand, if_neg c_2, if_neg c_5, if_neg c_6])
      · refine lv_aload_n hx hb dX6_addBrand_42 rfl (lv_at hl 0 rfl) ?_
        refine lv_iconst (v := 2) hx hb dX6_addBrand_43 (by decide) ?_
        refine bcall_Wi (va_runV (As := [.int 2]) (rest := []) ⟨hx, hb, hml, hown, hts⟩ (C6_fails l D cI q _ _ hq hP hI_1 2) (cwV 1 hts gX6_addBrand_X6_fails rfl rfl rfl ⟨rfl, bd_X6fails⟩ ⟨Nat.le_of_ble_eq_true rfl, Nat.le_of_ble_eq_true rfl⟩) (bPV hk (va_recv hk.1 hP (ci := 6) (q0 := 0) rfl (wM_0 _ _ _))) rfl rfl hl.1 rfl (lv_room (Nat.le_of_ble_eq_true rfl)) dX6_addBrand_44 ⟨Nat.zero_le _, Nat.zero_le _⟩) hS (fun H locs hP hI_12 hS => ?_)
        exact bret_Wi hx hb hr hP hI_12 hS hlocks dX6_addBrand_47 (by rw [← hF, F6_addBrand, if_neg c_2, if_neg c_5, if_pos c_6])
    · refine lv_aload_n hx hb dX6_addBrand_25 rfl (lv_at hl 0 rfl) ?_
      refine lv_iconst (v := 1) hx hb dX6_addBrand_26 (by decide) ?_
      refine bcall_Wi (va_runV (As := [.int 1]) (rest := []) ⟨hx, hb, hml, hown, hts⟩ (C6_fails l D cI q _ _ hq hP hI_1 1) (cwV 1 hts gX6_addBrand_X6_fails rfl rfl rfl ⟨rfl, bd_X6fails⟩ ⟨Nat.le_of_ble_eq_true rfl, Nat.le_of_ble_eq_true rfl⟩) (bPV hk (va_recv hk.1 hP (ci := 6) (q0 := 0) rfl (wM_0 _ _ _))) rfl rfl hl.1 rfl (lv_room (Nat.le_of_ble_eq_true rfl)) dX6_addBrand_27 ⟨Nat.zero_le _, Nat.zero_le _⟩) hS (fun H locs hP hI_13 hS => ?_)
      exact bret_Wi hx hb hr hP hI_13 hS hlocks dX6_addBrand_30 (by rw [← hF, F6_addBrand, if_neg c_2, if_pos c_5])
def F6_addShop (u : bU) (a1 : Int32) : Int32 × bU := (if (F6_in a1 0 100000) = 0 then ((F6_fails (bput u 6 2 0) 1).1, (F6_fails (bput u 6 2 0) 1).2) else (if ((bput u 6 2 0) 0 1) = (6 : Int32) then ((F6_fails (bput u 6 2 0) 2).1, (F6_fails (bput u 6 2 0) 2).2) else ((((badd (bput (F6_save (bput u 6 2 0)) 0 (F6_shopAt ((F6_save (bput u 6 2 0)) 0 1) 0).toNatClampNeg a1) 0 1 1) 0 1) - 1), (badd (bput (F6_save (bput u 6 2 0)) 0 (F6_shopAt ((F6_save (bput u 6 2 0)) 0 1) 0).toNatClampNeg a1) 0 1 1))))
set_option maxHeartbeats 4000000 in
set_option maxRecDepth 100000 in
theorem C6_addShop (l : Launch) (D : va_G) (cI : ClassId) (q : Nat → Nat) (u : bU) (H0 : Heap) (hq : bInj 7 q) (hP : va_P D vwCl (wM cI q u) H0) (hI : mInv u) (a1 : Int32) : Met l yX6_addShop wsX6_addShop ({ frames := 1, cells := 0, slots := 0, locals := 22 }) (bP D [(cI, .int)] H0 [.ref (q 0), .int a1]) (bWi D (wM cI q) mInv (bA 7 q H0.size) (F6_addShop u a1)) 0 0 (bA 7 q H0.size) := by
  refine Met.ofW (cc := cX6_addShop) (maxL := 2) (ret := (some .int)) (by decide) rfl ?_
  intro p e s m args below meth c s₁ B hml hv
  obtain ⟨rfl, hH, hk⟩ := hv
  subst hH
  have hx := B.exec
  have hb := B.bytes
  have hr := B.returns
  have hts := atoms_spec (ws := wsX6_addShop) B.pre
  have hown : s.vm.findClass RX6 = some m.cls := findClass_of_methodNamed B.named
  have hlocks := B.notSynchronized
  have hNB := mNB hI
  have hNS := mNS hI
  have hI0 := hI
  have iX6 : ∀ w ∈ wsX60, w ∈ wsX6_addShop := by decide +kernel
  have hS : va_S (bA 7 q s.heap.size) s.heap s.heap [] := va_S.rf
  have hl := lv_entry ([.ref (q 0), .int a1]) (n := 2) (Nat.le_of_ble_eq_true rfl)
  rw [lg_entry_eq]
  generalize (lg_sl ([.ref (q 0), .int a1]) ++ List.replicate (2 - (lg_sl ([.ref (q 0), .int a1])).length) Slot.unset).toArray = ls at hl ⊢
  have hl : lv_has ls 2 [(0, .ref (q 0)), (1, .int a1)] := hl
  generalize hF : F6_addShop u a1 = tgt
  refine lv_aload_n hx hb dX6_addShop_0 rfl (lv_at hl 0 rfl) ?_
  refine lv_iconst (v := 0) hx hb dX6_addShop_1 (by decide) ?_
  refine va_put (D := D) (ci := 6) (v := .int 0) (ty := .int) (C := RX6) (T := TX6) (N := 16) hx hb hts iX6 tyX6 tyX6_ok nmX6 hown hk.1 hP (wM_D hq) hS 0 (wM_0 _ _ _) rfl 6 (by decide) (hts (.fieldLink RX6 28 "BottleLoopModel" "thrown" "I") (List.mem_of_getElem? (i := 1) rfl)) (fun _ h9 => h9) rfl (by decide +kernel) rfl rfl (Nat.le_of_ble_eq_true rfl) dX6_addShop_2 (fun H locs hP _ hS => ?_)
  have hP : va_P D vwCl (wM cI q (bput u 6 2 0)) H := pM_f2 hP
  have hI_1 : mInv (bput u 6 2 0) := mInv_sc (k := 2) hI (by decide) (by decide) (by decide)
  refine lv_iload_n hx hb dX6_addShop_5 rfl (lv_at hl 1 rfl) ?_
  refine lv_iconst (v := 0) hx hb dX6_addShop_6 (by decide) ?_
  refine lv_ldc (v := 100000) hx hb hown (hts (.constant RX6 56 (100000)) (List.mem_of_getElem? (i := 2) rfl)) dX6_addShop_7 ?_
  refine bcall_Ri (va_runS (As := [.int a1, .int 0, .int 100000]) (rest := []) ⟨hx, hb, hml, hown, hts⟩ (C6_in l D cI q _ a1 0 100000) (va_cwS 3 hts gX6_addShop_X6_in rfl rfl rfl bd_X6in ⟨Nat.le_of_ble_eq_true rfl, Nat.le_of_ble_eq_true rfl⟩) (bPS hk) rfl rfl hl.1 rfl (lv_room (Nat.le_of_ble_eq_true rfl)) dX6_addShop_9 ⟨Nat.zero_le _, Nat.zero_le _⟩) hS (fun locs hS => ?_)
  refine lv_if_ne (tgt := 21) hx hb dX6_addShop_12 (by decide) (fun c_2 => ?_) (fun c_2 => ?_)
  · refine lv_aload_n hx hb dX6_addShop_21 rfl (lv_at hl 0 rfl) ?_
    refine va_get (D := D) (ci := 6) (C := RX6) (T := TX6) (N := 16) hx hb hts iX6 hown hk.1 hP 0 (wM_0 _ _ _) rfl 0 (by decide) (hts (.fieldLink RX6 7 "BottleLoopModel" "v" "[I") (List.mem_of_getElem? (i := 3) rfl)) (fun _ h9 => h9) rfl dX6_addShop_22 ?_
    refine lv_iconst (v := 1) hx hb dX6_addShop_25 (by decide) ?_
    refine va_iald hx hb hk.1 hP 1 0 (wM_1 _ _ _) rfl (vp_in_nI (n := 1) (by decide) (by decide)) dX6_addShop_26 ?_
    refine lv_topi (fun z9 hz9 => ?_)
    obtain rfl : z9 = ((bput u 6 2 0) 0 1) := hz9.trans rfl
    refine lv_bipush (v := 6) hx hb dX6_addShop_27 (by decide) ?_
    refine lv_icmp_ne (tgt := 38) hx hb dX6_addShop_29 (by decide) (fun c_3 => ?_) (fun c_3 => ?_)
    · have hm_4 : mS ((bput u 6 2 0) 0 1) := mS_0 hI_1 c_3
      refine lv_aload_n hx hb dX6_addShop_38 rfl (lv_at hl 0 rfl) ?_
      refine bcall_Wv (va_runV (As := []) (rest := []) ⟨hx, hb, hml, hown, hts⟩ (C6_save l D cI q _ _ hq hP hI_1 ) (cwV 0 hts gX6_addShop_X6_save rfl rfl rfl ⟨rfl, bd_X6save⟩ ⟨Nat.le_of_ble_eq_true rfl, Nat.le_of_ble_eq_true rfl⟩) (bPV hk (va_recv hk.1 hP (ci := 6) (q0 := 0) rfl (wM_0 _ _ _))) rfl rfl hl.1 rfl (lv_room (Nat.le_of_ble_eq_true rfl)) dX6_addShop_39 ⟨Nat.zero_le _, Nat.zero_le _⟩) hS (fun H locs hP hI_5 hS => ?_)
      refine lv_aload_n hx hb dX6_addShop_42 rfl (lv_at hl 0 rfl) ?_
      refine va_get (D := D) (ci := 6) (C := RX6) (T := TX6) (N := 16) hx hb hts iX6 hown hk.1 hP 0 (wM_0 _ _ _) rfl 0 (by decide) (hts (.fieldLink RX6 7 "BottleLoopModel" "v" "[I") (List.mem_of_getElem? (i := 3) rfl)) (fun _ h9 => h9) rfl dX6_addShop_43 ?_
      refine lv_aload_n hx hb dX6_addShop_46 rfl (lv_at hl 0 rfl) ?_
      refine va_get (D := D) (ci := 6) (C := RX6) (T := TX6) (N := 16) hx hb hts iX6 hown hk.1 hP 0 (wM_0 _ _ _) rfl 0 (by decide) (hts (.fieldLink RX6 7 "BottleLoopModel" "v" "[I") (List.mem_of_getElem? (i := 3) rfl)) (fun _ h9 => h9) rfl dX6_addShop_47 ?_
      refine lv_iconst (v := 1) hx hb dX6_addShop_50 (by decide) ?_
      refine va_iald hx hb hk.1 hP 1 0 (wM_1 _ _ _) rfl (vp_in_nI (n := 1) (by decide) (by decide)) dX6_addShop_51 ?_
      refine lv_topi (fun z9 hz9 => ?_)
      obtain rfl : z9 = ((F6_save (bput u 6 2 0)) 0 1) := hz9.trans rfl
      refine lv_iconst (v := 0) hx hb dX6_addShop_52 (by decide) ?_
      refine bcall_Ri (va_runS (As := [.int ((F6_save (bput u 6 2 0)) 0 1), .int 0]) (rest := [.ref (q 1)]) ⟨hx, hb, hml, hown, hts⟩ (C6_shopAt l D cI q _ ((F6_save (bput u 6 2 0)) 0 1) 0) (va_cwS 2 hts gX6_addShop_X6_shopAt rfl rfl rfl bd_X6shopAt ⟨Nat.le_of_ble_eq_true rfl, Nat.le_of_ble_eq_true rfl⟩) (bPS hk) rfl rfl hl.1 rfl (lv_room (Nat.le_of_ble_eq_true rfl)) dX6_addShop_53 ⟨Nat.zero_le _, Nat.zero_le _⟩) hS (fun locs hS => ?_)
      refine lv_iload_n hx hb dX6_addShop_56 rfl (lv_at hl 1 rfl) ?_
      refine va_iast hx hb hk.1 hP (wM_D hq) hS 1 0 (wM_1 _ _ _) rfl (mXS (w := 0) (mS0_save hm_4) (by decide)) dX6_addShop_57 (fun H locs hP _ hS => ?_)
      have hP : va_P D vwCl (wM cI q (bput (F6_save (bput u 6 2 0)) 0 (F6_shopAt ((F6_save (bput u 6 2 0)) 0 1) 0).toNatClampNeg a1)) H := pM_0 hP
      have hI_6 : mInv (bput (F6_save (bput u 6 2 0)) 0 (F6_shopAt ((F6_save (bput u 6 2 0)) 0 1) 0).toNatClampNeg a1) := mInv_S (w := 0) hI_5 (mS0_save hm_4) (by decide)
      refine lv_aload_n hx hb dX6_addShop_58 rfl (lv_at hl 0 rfl) ?_
      refine va_get (D := D) (ci := 6) (C := RX6) (T := TX6) (N := 16) hx hb hts iX6 hown hk.1 hP 0 (wM_0 _ _ _) rfl 0 (by decide) (hts (.fieldLink RX6 7 "BottleLoopModel" "v" "[I") (List.mem_of_getElem? (i := 3) rfl)) (fun _ h9 => h9) rfl dX6_addShop_59 ?_
      refine lv_iconst (v := 1) hx hb dX6_addShop_62 (by decide) ?_
      refine lv_dup2_11 hx hb dX6_addShop_63 rfl rfl ?_
      refine va_iald hx hb hk.1 hP 1 0 (wM_1 _ _ _) rfl (vp_in_nI (n := 1) (by decide) (by decide)) dX6_addShop_64 ?_
      refine lv_topi (fun z9 hz9 => ?_)
      obtain rfl : z9 = ((bput (F6_save (bput u 6 2 0)) 0 (F6_shopAt ((F6_save (bput u 6 2 0)) 0 1) 0).toNatClampNeg a1) 0 1) := hz9.trans rfl
      refine lv_iconst (v := 1) hx hb dX6_addShop_65 (by decide) ?_
      refine lv_iadd hx hb dX6_addShop_66 ?_
      refine va_iast hx hb hk.1 hP (wM_D hq) hS 1 0 (wM_1 _ _ _) rfl (vp_in_nI (n := 1) (by decide) (by decide)) dX6_addShop_67 (fun H locs hP _ hS => ?_)
      have hP : va_P D vwCl (wM cI q (badd (bput (F6_save (bput u 6 2 0)) 0 (F6_shopAt ((F6_save (bput u 6 2 0)) 0 1) 0).toNatClampNeg a1) 0 1 1)) H := pM_0a hP
      have hI_7 : mInv (badd (bput (F6_save (bput u 6 2 0)) 0 (F6_shopAt ((F6_save (bput u 6 2 0)) 0 1) 0).toNatClampNeg a1) 0 1 1) := mInv_1 hI_6 (mS0_keep (w := 0) (mS0_save hm_4) (mS0_save hm_4) (by decide))
      refine lv_aload_n hx hb dX6_addShop_68 rfl (lv_at hl 0 rfl) ?_
      refine va_get (D := D) (ci := 6) (C := RX6) (T := TX6) (N := 16) hx hb hts iX6 hown hk.1 hP 0 (wM_0 _ _ _) rfl 0 (by decide) (hts (.fieldLink RX6 7 "BottleLoopModel" "v" "[I") (List.mem_of_getElem? (i := 3) rfl)) (fun _ h9 => h9) rfl dX6_addShop_69 ?_
      refine lv_iconst (v := 1) hx hb dX6_addShop_72 (by decide) ?_
      refine va_iald hx hb hk.1 hP 1 0 (wM_1 _ _ _) rfl (vp_in_nI (n := 1) (by decide) (by decide)) dX6_addShop_73 ?_
      refine lv_topi (fun z9 hz9 => ?_)
      obtain rfl : z9 = ((badd (bput (F6_save (bput u 6 2 0)) 0 (F6_shopAt ((F6_save (bput u 6 2 0)) 0 1) 0).toNatClampNeg a1) 0 1 1) 0 1) := hz9.trans rfl
      refine lv_iconst (v := 1) hx hb dX6_addShop_74 (by decide) ?_
      refine lv_isub hx hb dX6_addShop_75 ?_
      exact bret_Wi hx hb hr hP hI_7 hS hlocks dX6_addShop_76 (by rw [← hF, F6_addShop, if_neg c_2, if_neg c_3])
    · refine lv_aload_n hx hb dX6_addShop_32 rfl (lv_at hl 0 rfl) ?_
      refine lv_iconst (v := 2) hx hb dX6_addShop_33 (by decide) ?_
      refine bcall_Wi (va_runV (As := [.int 2]) (rest := []) ⟨hx, hb, hml, hown, hts⟩ (C6_fails l D cI q _ _ hq hP hI_1 2) (cwV 1 hts gX6_addShop_X6_fails rfl rfl rfl ⟨rfl, bd_X6fails⟩ ⟨Nat.le_of_ble_eq_true rfl, Nat.le_of_ble_eq_true rfl⟩) (bPV hk (va_recv hk.1 hP (ci := 6) (q0 := 0) rfl (wM_0 _ _ _))) rfl rfl hl.1 rfl (lv_room (Nat.le_of_ble_eq_true rfl)) dX6_addShop_34 ⟨Nat.zero_le _, Nat.zero_le _⟩) hS (fun H locs hP hI_8 hS => ?_)
      exact bret_Wi hx hb hr hP hI_8 hS hlocks dX6_addShop_37 (by rw [← hF, F6_addShop, if_neg c_2, if_pos c_3])
  · refine lv_aload_n hx hb dX6_addShop_15 rfl (lv_at hl 0 rfl) ?_
    refine lv_iconst (v := 1) hx hb dX6_addShop_16 (by decide) ?_
    refine bcall_Wi (va_runV (As := [.int 1]) (rest := []) ⟨hx, hb, hml, hown, hts⟩ (C6_fails l D cI q _ _ hq hP hI_1 1) (cwV 1 hts gX6_addShop_X6_fails rfl rfl rfl ⟨rfl, bd_X6fails⟩ ⟨Nat.le_of_ble_eq_true rfl, Nat.le_of_ble_eq_true rfl⟩) (bPV hk (va_recv hk.1 hP (ci := 6) (q0 := 0) rfl (wM_0 _ _ _))) rfl rfl hl.1 rfl (lv_room (Nat.le_of_ble_eq_true rfl)) dX6_addShop_17 ⟨Nat.zero_le _, Nat.zero_le _⟩) hS (fun H locs hP hI_9 hS => ?_)
    exact bret_Wi hx hb hr hP hI_9 hS hlocks dX6_addShop_20 (by rw [← hF, F6_addShop, if_pos c_2])
def F6_buyCrates (u : bU) (a1 : Int32) : Int32 × bU := (if (F6_in a1 1 500) = 0 then ((F6_fails (bput u 6 2 0) 1).1, (F6_fails (bput u 6 2 0) 1).2) else (if ((((bput u 6 2 0) 0 2) + (F6_cratesInShops (bput u 6 2 0))) + a1) ≤ (1000 : Int32) then (((badd (F6_save (bput u 6 2 0)) 0 2 a1) 0 2), (badd (F6_save (bput u 6 2 0)) 0 2 a1)) else ((F6_fails (bput u 6 2 0) 2).1, (F6_fails (bput u 6 2 0) 2).2)))
set_option maxHeartbeats 4000000 in
set_option maxRecDepth 100000 in
theorem C6_buyCrates (l : Launch) (D : va_G) (cI : ClassId) (q : Nat → Nat) (u : bU) (H0 : Heap) (hq : bInj 7 q) (hP : va_P D vwCl (wM cI q u) H0) (hI : mInv u) (a1 : Int32) : Met l yX6_buyCrates wsX6_buyCrates ({ frames := 3, cells := 0, slots := 0, locals := 65 }) (bP D [(cI, .int)] H0 [.ref (q 0), .int a1]) (bWi D (wM cI q) mInv (bA 7 q H0.size) (F6_buyCrates u a1)) 0 0 (bA 7 q H0.size) := by
  refine Met.ofW (cc := cX6_buyCrates) (maxL := 2) (ret := (some .int)) (by decide) rfl ?_
  intro p e s m args below meth c s₁ B hml hv
  obtain ⟨rfl, hH, hk⟩ := hv
  subst hH
  have hx := B.exec
  have hb := B.bytes
  have hr := B.returns
  have hts := atoms_spec (ws := wsX6_buyCrates) B.pre
  have hown : s.vm.findClass RX6 = some m.cls := findClass_of_methodNamed B.named
  have hlocks := B.notSynchronized
  have hNB := mNB hI
  have hNS := mNS hI
  have hI0 := hI
  have iX6 : ∀ w ∈ wsX60, w ∈ wsX6_buyCrates := by decide +kernel
  have hS : va_S (bA 7 q s.heap.size) s.heap s.heap [] := va_S.rf
  have hl := lv_entry ([.ref (q 0), .int a1]) (n := 2) (Nat.le_of_ble_eq_true rfl)
  rw [lg_entry_eq]
  generalize (lg_sl ([.ref (q 0), .int a1]) ++ List.replicate (2 - (lg_sl ([.ref (q 0), .int a1])).length) Slot.unset).toArray = ls at hl ⊢
  have hl : lv_has ls 2 [(0, .ref (q 0)), (1, .int a1)] := hl
  generalize hF : F6_buyCrates u a1 = tgt
  refine lv_aload_n hx hb dX6_buyCrates_0 rfl (lv_at hl 0 rfl) ?_
  refine lv_iconst (v := 0) hx hb dX6_buyCrates_1 (by decide) ?_
  refine va_put (D := D) (ci := 6) (v := .int 0) (ty := .int) (C := RX6) (T := TX6) (N := 16) hx hb hts iX6 tyX6 tyX6_ok nmX6 hown hk.1 hP (wM_D hq) hS 0 (wM_0 _ _ _) rfl 6 (by decide) (hts (.fieldLink RX6 28 "BottleLoopModel" "thrown" "I") (List.mem_of_getElem? (i := 1) rfl)) (fun _ h9 => h9) rfl (by decide +kernel) rfl rfl (Nat.le_of_ble_eq_true rfl) dX6_buyCrates_2 (fun H locs hP _ hS => ?_)
  have hP : va_P D vwCl (wM cI q (bput u 6 2 0)) H := pM_f2 hP
  have hI_1 : mInv (bput u 6 2 0) := mInv_sc (k := 2) hI (by decide) (by decide) (by decide)
  refine lv_iload_n hx hb dX6_buyCrates_5 rfl (lv_at hl 1 rfl) ?_
  refine lv_iconst (v := 1) hx hb dX6_buyCrates_6 (by decide) ?_
  refine lv_sipush (v := 500) hx hb dX6_buyCrates_7 (by decide) ?_
  refine bcall_Ri (va_runS (As := [.int a1, .int 1, .int 500]) (rest := []) ⟨hx, hb, hml, hown, hts⟩ (C6_in l D cI q _ a1 1 500) (va_cwS 3 hts gX6_buyCrates_X6_in rfl rfl rfl bd_X6in ⟨Nat.le_of_ble_eq_true rfl, Nat.le_of_ble_eq_true rfl⟩) (bPS hk) rfl rfl hl.1 rfl (lv_room (Nat.le_of_ble_eq_true rfl)) dX6_buyCrates_10 ⟨Nat.zero_le _, Nat.zero_le _⟩) hS (fun locs hS => ?_)
  refine lv_if_ne (tgt := 22) hx hb dX6_buyCrates_13 (by decide) (fun c_2 => ?_) (fun c_2 => ?_)
  · refine lv_aload_n hx hb dX6_buyCrates_22 rfl (lv_at hl 0 rfl) ?_
    refine va_get (D := D) (ci := 6) (C := RX6) (T := TX6) (N := 16) hx hb hts iX6 hown hk.1 hP 0 (wM_0 _ _ _) rfl 0 (by decide) (hts (.fieldLink RX6 7 "BottleLoopModel" "v" "[I") (List.mem_of_getElem? (i := 2) rfl)) (fun _ h9 => h9) rfl dX6_buyCrates_23 ?_
    refine lv_iconst (v := 2) hx hb dX6_buyCrates_26 (by decide) ?_
    refine va_iald hx hb hk.1 hP 1 0 (wM_1 _ _ _) rfl (vp_in_nI (n := 2) (by decide) (by decide)) dX6_buyCrates_27 ?_
    refine lv_topi (fun z9 hz9 => ?_)
    obtain rfl : z9 = ((bput u 6 2 0) 0 2) := hz9.trans rfl
    refine lv_aload_n hx hb dX6_buyCrates_28 rfl (lv_at hl 0 rfl) ?_
    refine bcall_Ri (va_runV (As := []) (rest := [.int ((bput u 6 2 0) 0 2)]) ⟨hx, hb, hml, hown, hts⟩ (C6_cratesInShops l D cI q _ _ hP hI_1 ) (cwV 0 hts gX6_buyCrates_X6_cratesInShops rfl rfl rfl ⟨rfl, bd_X6cratesInShops⟩ ⟨Nat.le_of_ble_eq_true rfl, Nat.le_of_ble_eq_true rfl⟩) (bPV hk (va_recv hk.1 hP (ci := 6) (q0 := 0) rfl (wM_0 _ _ _))) rfl rfl hl.1 rfl (lv_room (Nat.le_of_ble_eq_true rfl)) dX6_buyCrates_29 ⟨Nat.zero_le _, Nat.zero_le _⟩) hS (fun locs hS => ?_)
    refine lv_iadd hx hb dX6_buyCrates_32 ?_
    refine lv_iload_n hx hb dX6_buyCrates_33 rfl (lv_at hl 1 rfl) ?_
    refine lv_iadd hx hb dX6_buyCrates_34 ?_
    refine lv_sipush (v := 1000) hx hb dX6_buyCrates_35 (by decide) ?_
    refine lv_icmp_le (tgt := 47) hx hb dX6_buyCrates_38 (by decide) (fun c_3 => ?_) (fun c_3 => ?_)
    · refine lv_aload_n hx hb dX6_buyCrates_47 rfl (lv_at hl 0 rfl) ?_
      refine bcall_Wv (va_runV (As := []) (rest := []) ⟨hx, hb, hml, hown, hts⟩ (C6_save l D cI q _ _ hq hP hI_1 ) (cwV 0 hts gX6_buyCrates_X6_save rfl rfl rfl ⟨rfl, bd_X6save⟩ ⟨Nat.le_of_ble_eq_true rfl, Nat.le_of_ble_eq_true rfl⟩) (bPV hk (va_recv hk.1 hP (ci := 6) (q0 := 0) rfl (wM_0 _ _ _))) rfl rfl hl.1 rfl (lv_room (Nat.le_of_ble_eq_true rfl)) dX6_buyCrates_48 ⟨Nat.zero_le _, Nat.zero_le _⟩) hS (fun H locs hP hI_4 hS => ?_)
      refine lv_aload_n hx hb dX6_buyCrates_51 rfl (lv_at hl 0 rfl) ?_
      refine va_get (D := D) (ci := 6) (C := RX6) (T := TX6) (N := 16) hx hb hts iX6 hown hk.1 hP 0 (wM_0 _ _ _) rfl 0 (by decide) (hts (.fieldLink RX6 7 "BottleLoopModel" "v" "[I") (List.mem_of_getElem? (i := 2) rfl)) (fun _ h9 => h9) rfl dX6_buyCrates_52 ?_
      refine lv_iconst (v := 2) hx hb dX6_buyCrates_55 (by decide) ?_
      refine lv_dup2_11 hx hb dX6_buyCrates_56 rfl rfl ?_
      refine va_iald hx hb hk.1 hP 1 0 (wM_1 _ _ _) rfl (vp_in_nI (n := 2) (by decide) (by decide)) dX6_buyCrates_57 ?_
      refine lv_topi (fun z9 hz9 => ?_)
      obtain rfl : z9 = ((F6_save (bput u 6 2 0)) 0 2) := hz9.trans rfl
      refine lv_iload_n hx hb dX6_buyCrates_58 rfl (lv_at hl 1 rfl) ?_
      refine lv_iadd hx hb dX6_buyCrates_59 ?_
      refine va_iast hx hb hk.1 hP (wM_D hq) hS 1 0 (wM_1 _ _ _) rfl (vp_in_nI (n := 2) (by decide) (by decide)) dX6_buyCrates_60 (fun H locs hP _ hS => ?_)
      have hP : va_P D vwCl (wM cI q (badd (F6_save (bput u 6 2 0)) 0 2 a1)) H := pM_0a hP
      have hI_5 : mInv (badd (F6_save (bput u 6 2 0)) 0 2 a1) := mInv_g (k := 2) hI_4 (by decide) (by decide)
      refine lv_aload_n hx hb dX6_buyCrates_61 rfl (lv_at hl 0 rfl) ?_
      refine va_get (D := D) (ci := 6) (C := RX6) (T := TX6) (N := 16) hx hb hts iX6 hown hk.1 hP 0 (wM_0 _ _ _) rfl 0 (by decide) (hts (.fieldLink RX6 7 "BottleLoopModel" "v" "[I") (List.mem_of_getElem? (i := 2) rfl)) (fun _ h9 => h9) rfl dX6_buyCrates_62 ?_
      refine lv_iconst (v := 2) hx hb dX6_buyCrates_65 (by decide) ?_
      refine va_iald hx hb hk.1 hP 1 0 (wM_1 _ _ _) rfl (vp_in_nI (n := 2) (by decide) (by decide)) dX6_buyCrates_66 ?_
      refine lv_topi (fun z9 hz9 => ?_)
      obtain rfl : z9 = ((badd (F6_save (bput u 6 2 0)) 0 2 a1) 0 2) := hz9.trans rfl
      exact bret_Wi hx hb hr hP hI_5 hS hlocks dX6_buyCrates_67 (by rw [← hF, F6_buyCrates, if_neg c_2, if_pos c_3])
    · refine lv_aload_n hx hb dX6_buyCrates_41 rfl (lv_at hl 0 rfl) ?_
      refine lv_iconst (v := 2) hx hb dX6_buyCrates_42 (by decide) ?_
      refine bcall_Wi (va_runV (As := [.int 2]) (rest := []) ⟨hx, hb, hml, hown, hts⟩ (C6_fails l D cI q _ _ hq hP hI_1 2) (cwV 1 hts gX6_buyCrates_X6_fails rfl rfl rfl ⟨rfl, bd_X6fails⟩ ⟨Nat.le_of_ble_eq_true rfl, Nat.le_of_ble_eq_true rfl⟩) (bPV hk (va_recv hk.1 hP (ci := 6) (q0 := 0) rfl (wM_0 _ _ _))) rfl rfl hl.1 rfl (lv_room (Nat.le_of_ble_eq_true rfl)) dX6_buyCrates_43 ⟨Nat.zero_le _, Nat.zero_le _⟩) hS (fun H locs hP hI_6 hS => ?_)
      exact bret_Wi hx hb hr hP hI_6 hS hlocks dX6_buyCrates_46 (by rw [← hF, F6_buyCrates, if_neg c_2, if_neg c_3])
  · refine lv_aload_n hx hb dX6_buyCrates_16 rfl (lv_at hl 0 rfl) ?_
    refine lv_iconst (v := 1) hx hb dX6_buyCrates_17 (by decide) ?_
    refine bcall_Wi (va_runV (As := [.int 1]) (rest := []) ⟨hx, hb, hml, hown, hts⟩ (C6_fails l D cI q _ _ hq hP hI_1 1) (cwV 1 hts gX6_buyCrates_X6_fails rfl rfl rfl ⟨rfl, bd_X6fails⟩ ⟨Nat.le_of_ble_eq_true rfl, Nat.le_of_ble_eq_true rfl⟩) (bPV hk (va_recv hk.1 hP (ci := 6) (q0 := 0) rfl (wM_0 _ _ _))) rfl rfl hl.1 rfl (lv_room (Nat.le_of_ble_eq_true rfl)) dX6_buyCrates_18 ⟨Nat.zero_le _, Nat.zero_le _⟩) hS (fun H locs hP hI_7 hS => ?_)
    exact bret_Wi hx hb hr hP hI_7 hS hlocks dX6_buyCrates_21 (by rw [← hF, F6_buyCrates, if_pos c_2])
def F6_set (u : bU) (a1 : Int32) (a2 : Int32) : Int32 × bU := (if (F6_in a1 0 5) = 0 then ((F6_fails (bput u 6 2 0) 1).1, (F6_fails (bput u 6 2 0) 1).2) else (if (F6_in a2 ((bput u 6 2 0) 4 a1.toNatClampNeg) ((bput u 6 2 0) 5 a1.toNatClampNeg)) = 0 then ((F6_fails (bput u 6 2 0) 2).1, (F6_fails (bput u 6 2 0) 2).2) else (if (4 : Int32) ≤ a1 then (((F6_save (bput u 6 2 0)) 0 (7 + a1).toNatClampNeg), (bput (F6_save (bput u 6 2 0)) 0 (7 + a1).toNatClampNeg a2)) else (if ((bput u 6 2 0) 0 3) ≤ 0 then (((F6_save (bput u 6 2 0)) 0 (7 + a1).toNatClampNeg), (bput (F6_save (bput u 6 2 0)) 0 (7 + a1).toNatClampNeg a2)) else ((F6_fails (bput u 6 2 0) 3).1, (F6_fails (bput u 6 2 0) 3).2)))))
set_option maxHeartbeats 4000000 in
set_option maxRecDepth 100000 in
theorem C6_set (l : Launch) (D : va_G) (cI : ClassId) (q : Nat → Nat) (u : bU) (H0 : Heap) (hq : bInj 7 q) (hP : va_P D vwCl (wM cI q u) H0) (hI : mInv u) (a1 : Int32) (a2 : Int32) (hlo : u 4 5 = 2) : Met l yX6_set wsX6_set ({ frames := 1, cells := 0, slots := 0, locals := 22 }) (bP D [(cI, .int)] H0 [.ref (q 0), .int a1, .int a2]) (bWi D (wM cI q) mInv (bA 7 q H0.size) (F6_set u a1 a2)) 0 0 (bA 7 q H0.size) := by
  refine Met.ofW (cc := cX6_set) (maxL := 4) (ret := (some .int)) (by decide) rfl ?_
  intro p e s m args below meth c s₁ B hml hv
  obtain ⟨rfl, hH, hk⟩ := hv
  subst hH
  have hx := B.exec
  have hb := B.bytes
  have hr := B.returns
  have hts := atoms_spec (ws := wsX6_set) B.pre
  have hown : s.vm.findClass RX6 = some m.cls := findClass_of_methodNamed B.named
  have hlocks := B.notSynchronized
  have hNB := mNB hI
  have hNS := mNS hI
  have hI0 := hI
  have iX6 : ∀ w ∈ wsX60, w ∈ wsX6_set := by decide +kernel
  have hS : va_S (bA 7 q s.heap.size) s.heap s.heap [] := va_S.rf
  have hl := lv_entry ([.ref (q 0), .int a1, .int a2]) (n := 4) (Nat.le_of_ble_eq_true rfl)
  rw [lg_entry_eq]
  generalize (lg_sl ([.ref (q 0), .int a1, .int a2]) ++ List.replicate (4 - (lg_sl ([.ref (q 0), .int a1, .int a2])).length) Slot.unset).toArray = ls at hl ⊢
  have hl : lv_has ls 4 [(0, .ref (q 0)), (1, .int a1), (2, .int a2)] := hl
  generalize hF : F6_set u a1 a2 = tgt
  refine lv_aload_n hx hb dX6_set_0 rfl (lv_at hl 0 rfl) ?_
  refine lv_iconst (v := 0) hx hb dX6_set_1 (by decide) ?_
  refine va_put (D := D) (ci := 6) (v := .int 0) (ty := .int) (C := RX6) (T := TX6) (N := 16) hx hb hts iX6 tyX6 tyX6_ok nmX6 hown hk.1 hP (wM_D hq) hS 0 (wM_0 _ _ _) rfl 6 (by decide) (hts (.fieldLink RX6 28 "BottleLoopModel" "thrown" "I") (List.mem_of_getElem? (i := 1) rfl)) (fun _ h9 => h9) rfl (by decide +kernel) rfl rfl (Nat.le_of_ble_eq_true rfl) dX6_set_2 (fun H locs hP _ hS => ?_)
  have hP : va_P D vwCl (wM cI q (bput u 6 2 0)) H := pM_f2 hP
  have hI_1 : mInv (bput u 6 2 0) := mInv_sc (k := 2) hI (by decide) (by decide) (by decide)
  refine lv_iload_n hx hb dX6_set_5 rfl (lv_at hl 1 rfl) ?_
  refine lv_iconst (v := 0) hx hb dX6_set_6 (by decide) ?_
  refine lv_iconst (v := 5) hx hb dX6_set_7 (by decide) ?_
  refine bcall_Ri (va_runS (As := [.int a1, .int 0, .int 5]) (rest := []) ⟨hx, hb, hml, hown, hts⟩ (C6_in l D cI q _ a1 0 5) (va_cwS 3 hts gX6_set_X6_in rfl rfl rfl bd_X6in ⟨Nat.le_of_ble_eq_true rfl, Nat.le_of_ble_eq_true rfl⟩) (bPS hk) rfl rfl hl.1 rfl (lv_room (Nat.le_of_ble_eq_true rfl)) dX6_set_8 ⟨Nat.zero_le _, Nat.zero_le _⟩) hS (fun locs hS => ?_)
  refine lv_if_ne (tgt := 20) hx hb dX6_set_11 (by decide) (fun c_2 => ?_) (fun c_2 => ?_)
  · refine lv_iload_n hx hb dX6_set_20 rfl (lv_at hl 2 rfl) ?_
    refine lv_aload_n hx hb dX6_set_21 rfl (lv_at hl 0 rfl) ?_
    refine va_get (D := D) (ci := 6) (C := RX6) (T := TX6) (N := 16) hx hb hts iX6 hown hk.1 hP 0 (wM_0 _ _ _) rfl 7 (by decide) (hts (.fieldLink RX6 22 "BottleLoopModel" "lows" "[I") (List.mem_of_getElem? (i := 2) rfl)) (fun _ h9 => h9) rfl dX6_set_22 ?_
    refine lv_iload_n hx hb dX6_set_25 rfl (lv_at hl 1 rfl) ?_
    refine va_iald hx hb hk.1 hP 5 0 (wM_5 _ _ _) rfl (mX6 c_2) dX6_set_26 ?_
    refine lv_aload_n hx hb dX6_set_27 rfl (lv_at hl 0 rfl) ?_
    refine va_get (D := D) (ci := 6) (C := RX6) (T := TX6) (N := 16) hx hb hts iX6 hown hk.1 hP 0 (wM_0 _ _ _) rfl 8 (by decide) (hts (.fieldLink RX6 25 "BottleLoopModel" "highs" "[I") (List.mem_of_getElem? (i := 3) rfl)) (fun _ h9 => h9) rfl dX6_set_28 ?_
    refine lv_iload_n hx hb dX6_set_31 rfl (lv_at hl 1 rfl) ?_
    refine va_iald hx hb hk.1 hP 6 0 (wM_6 _ _ _) rfl (mX6 c_2) dX6_set_32 ?_
    refine bcall_Ri (va_runS (As := [.int a2, .int ((bput u 6 2 0) 4 a1.toNatClampNeg), .int ((bput u 6 2 0) 5 a1.toNatClampNeg)]) (rest := []) ⟨hx, hb, hml, hown, hts⟩ (C6_in l D cI q _ a2 ((bput u 6 2 0) 4 a1.toNatClampNeg) ((bput u 6 2 0) 5 a1.toNatClampNeg)) (va_cwS 3 hts gX6_set_X6_in rfl rfl rfl bd_X6in ⟨Nat.le_of_ble_eq_true rfl, Nat.le_of_ble_eq_true rfl⟩) (bPS hk) rfl rfl hl.1 rfl (lv_room (Nat.le_of_ble_eq_true rfl)) dX6_set_33 ⟨Nat.zero_le _, Nat.zero_le _⟩) hS (fun locs hS => ?_)
    refine lv_if_ne (tgt := 45) hx hb dX6_set_36 (by decide) (fun c_3 => ?_) (fun c_3 => ?_)
    · refine lv_iload_n hx hb dX6_set_45 rfl (lv_at hl 1 rfl) ?_
      refine lv_iconst (v := 4) hx hb dX6_set_46 (by decide) ?_
      refine lv_icmp_ge (tgt := 65) hx hb dX6_set_47 (by decide) (fun c_4 => ?_) (fun c_4 => ?_)
      · refine lv_aload_n hx hb dX6_set_65 rfl (lv_at hl 0 rfl) ?_
        refine bcall_Wv (va_runV (As := []) (rest := []) ⟨hx, hb, hml, hown, hts⟩ (C6_save l D cI q _ _ hq hP hI_1 ) (cwV 0 hts gX6_set_X6_save rfl rfl rfl ⟨rfl, bd_X6save⟩ ⟨Nat.le_of_ble_eq_true rfl, Nat.le_of_ble_eq_true rfl⟩) (bPV hk (va_recv hk.1 hP (ci := 6) (q0 := 0) rfl (wM_0 _ _ _))) rfl rfl hl.1 rfl (lv_room (Nat.le_of_ble_eq_true rfl)) dX6_set_66 ⟨Nat.zero_le _, Nat.zero_le _⟩) hS (fun H locs hP hI_5 hS => ?_)
        refine lv_aload_n hx hb dX6_set_69 rfl (lv_at hl 0 rfl) ?_
        refine va_get (D := D) (ci := 6) (C := RX6) (T := TX6) (N := 16) hx hb hts iX6 hown hk.1 hP 0 (wM_0 _ _ _) rfl 0 (by decide) (hts (.fieldLink RX6 7 "BottleLoopModel" "v" "[I") (List.mem_of_getElem? (i := 4) rfl)) (fun _ h9 => h9) rfl dX6_set_70 ?_
        refine lv_bipush (v := 7) hx hb dX6_set_73 (by decide) ?_
        refine lv_iload_n hx hb dX6_set_75 rfl (lv_at hl 1 rfl) ?_
        refine lv_iadd hx hb dX6_set_76 ?_
        refine va_iald hx hb hk.1 hP 1 0 (wM_1 _ _ _) rfl (mX7s c_2) dX6_set_77 ?_
        refine lv_istore_n (lv' := [(3, .int ((F6_save (bput u 6 2 0)) 0 (7 + a1).toNatClampNeg)), (0, .ref (q 0)), (1, .int a1), (2, .int a2)]) hx hb dX6_set_78 rfl hl (by decide) rfl (fun ls hl => ?_)
        refine lv_aload_n hx hb dX6_set_79 rfl (lv_at hl 1 rfl) ?_
        refine va_get (D := D) (ci := 6) (C := RX6) (T := TX6) (N := 16) hx hb hts iX6 hown hk.1 hP 0 (wM_0 _ _ _) rfl 0 (by decide) (hts (.fieldLink RX6 7 "BottleLoopModel" "v" "[I") (List.mem_of_getElem? (i := 4) rfl)) (fun _ h9 => h9) rfl dX6_set_80 ?_
        refine lv_bipush (v := 7) hx hb dX6_set_83 (by decide) ?_
        refine lv_iload_n hx hb dX6_set_85 rfl (lv_at hl 2 rfl) ?_
        refine lv_iadd hx hb dX6_set_86 ?_
        refine lv_iload_n hx hb dX6_set_87 rfl (lv_at hl 3 rfl) ?_
        refine va_iast hx hb hk.1 hP (wM_D hq) hS 1 0 (wM_1 _ _ _) rfl (mX7s c_2) dX6_set_88 (fun H locs hP _ hS => ?_)
        have hP : va_P D vwCl (wM cI q (bput (F6_save (bput u 6 2 0)) 0 (7 + a1).toNatClampNeg a2)) H := pM_0 hP
        have hI_6 : mInv (bput (F6_save (bput u 6 2 0)) 0 (7 + a1).toNatClampNeg a2) := mInv_7 hI_5 c_2 (mSet5 c_2 hlo c_3)
        refine lv_iload_n hx hb dX6_set_89 rfl (lv_at hl 0 rfl) ?_
        exact bret_Wi hx hb hr hP hI_6 hS hlocks dX6_set_90 (by rw [← hF, F6_set, if_neg c_2, if_neg c_3, if_pos c_4])
      · refine lv_aload_n hx hb dX6_set_50 rfl (lv_at hl 0 rfl) ?_
        refine va_get (D := D) (ci := 6) (C := RX6) (T := TX6) (N := 16) hx hb hts iX6 hown hk.1 hP 0 (wM_0 _ _ _) rfl 0 (by decide) (hts (.fieldLink RX6 7 "BottleLoopModel" "v" "[I") (List.mem_of_getElem? (i := 4) rfl)) (fun _ h9 => h9) rfl dX6_set_51 ?_
        refine lv_iconst (v := 3) hx hb dX6_set_54 (by decide) ?_
        refine va_iald hx hb hk.1 hP 1 0 (wM_1 _ _ _) rfl (vp_in_nI (n := 3) (by decide) (by decide)) dX6_set_55 ?_
        refine lv_topi (fun z9 hz9 => ?_)
        obtain rfl : z9 = ((bput u 6 2 0) 0 3) := hz9.trans rfl
        refine lv_if_le (tgt := 65) hx hb dX6_set_56 (by decide) (fun c_7 => ?_) (fun c_7 => ?_)
        · refine lv_aload_n hx hb dX6_set_65 rfl (lv_at hl 0 rfl) ?_
          refine bcall_Wv (va_runV (As := []) (rest := []) ⟨hx, hb, hml, hown, hts⟩ (C6_save l D cI q _ _ hq hP hI_1 ) (cwV 0 hts gX6_set_X6_save rfl rfl rfl ⟨rfl, bd_X6save⟩ ⟨Nat.le_of_ble_eq_true rfl, Nat.le_of_ble_eq_true rfl⟩) (bPV hk (va_recv hk.1 hP (ci := 6) (q0 := 0) rfl (wM_0 _ _ _))) rfl rfl hl.1 rfl (lv_room (Nat.le_of_ble_eq_true rfl)) dX6_set_66 ⟨Nat.zero_le _, Nat.zero_le _⟩) hS (fun H locs hP hI_8 hS => ?_)
          refine lv_aload_n hx hb dX6_set_69 rfl (lv_at hl 0 rfl) ?_
          refine va_get (D := D) (ci := 6) (C := RX6) (T := TX6) (N := 16) hx hb hts iX6 hown hk.1 hP 0 (wM_0 _ _ _) rfl 0 (by decide) (hts (.fieldLink RX6 7 "BottleLoopModel" "v" "[I") (List.mem_of_getElem? (i := 4) rfl)) (fun _ h9 => h9) rfl dX6_set_70 ?_
          refine lv_bipush (v := 7) hx hb dX6_set_73 (by decide) ?_
          refine lv_iload_n hx hb dX6_set_75 rfl (lv_at hl 1 rfl) ?_
          refine lv_iadd hx hb dX6_set_76 ?_
          refine va_iald hx hb hk.1 hP 1 0 (wM_1 _ _ _) rfl (mX7s c_2) dX6_set_77 ?_
          refine lv_istore_n (lv' := [(3, .int ((F6_save (bput u 6 2 0)) 0 (7 + a1).toNatClampNeg)), (0, .ref (q 0)), (1, .int a1), (2, .int a2)]) hx hb dX6_set_78 rfl hl (by decide) rfl (fun ls hl => ?_)
          refine lv_aload_n hx hb dX6_set_79 rfl (lv_at hl 1 rfl) ?_
          refine va_get (D := D) (ci := 6) (C := RX6) (T := TX6) (N := 16) hx hb hts iX6 hown hk.1 hP 0 (wM_0 _ _ _) rfl 0 (by decide) (hts (.fieldLink RX6 7 "BottleLoopModel" "v" "[I") (List.mem_of_getElem? (i := 4) rfl)) (fun _ h9 => h9) rfl dX6_set_80 ?_
          refine lv_bipush (v := 7) hx hb dX6_set_83 (by decide) ?_
          refine lv_iload_n hx hb dX6_set_85 rfl (lv_at hl 2 rfl) ?_
          refine lv_iadd hx hb dX6_set_86 ?_
          refine lv_iload_n hx hb dX6_set_87 rfl (lv_at hl 3 rfl) ?_
          refine va_iast hx hb hk.1 hP (wM_D hq) hS 1 0 (wM_1 _ _ _) rfl (mX7s c_2) dX6_set_88 (fun H locs hP _ hS => ?_)
          have hP : va_P D vwCl (wM cI q (bput (F6_save (bput u 6 2 0)) 0 (7 + a1).toNatClampNeg a2)) H := pM_0 hP
          have hI_9 : mInv (bput (F6_save (bput u 6 2 0)) 0 (7 + a1).toNatClampNeg a2) := mInv_7 hI_8 c_2 (mSet5 c_2 hlo c_3)
          refine lv_iload_n hx hb dX6_set_89 rfl (lv_at hl 0 rfl) ?_
          exact bret_Wi hx hb hr hP hI_9 hS hlocks dX6_set_90 (by rw [← hF, F6_set, if_neg c_2, if_neg c_3, if_neg c_4, if_pos c_7])
        · refine lv_aload_n hx hb dX6_set_59 rfl (lv_at hl 0 rfl) ?_
          refine lv_iconst (v := 3) hx hb dX6_set_60 (by decide) ?_
          refine bcall_Wi (va_runV (As := [.int 3]) (rest := []) ⟨hx, hb, hml, hown, hts⟩ (C6_fails l D cI q _ _ hq hP hI_1 3) (cwV 1 hts gX6_set_X6_fails rfl rfl rfl ⟨rfl, bd_X6fails⟩ ⟨Nat.le_of_ble_eq_true rfl, Nat.le_of_ble_eq_true rfl⟩) (bPV hk (va_recv hk.1 hP (ci := 6) (q0 := 0) rfl (wM_0 _ _ _))) rfl rfl hl.1 rfl (lv_room (Nat.le_of_ble_eq_true rfl)) dX6_set_61 ⟨Nat.zero_le _, Nat.zero_le _⟩) hS (fun H locs hP hI_10 hS => ?_)
          exact bret_Wi hx hb hr hP hI_10 hS hlocks dX6_set_64 (by rw [← hF, F6_set, if_neg c_2, if_neg c_3, if_neg c_4, if_neg c_7])
    · refine lv_aload_n hx hb dX6_set_39 rfl (lv_at hl 0 rfl) ?_
      refine lv_iconst (v := 2) hx hb dX6_set_40 (by decide) ?_
      refine bcall_Wi (va_runV (As := [.int 2]) (rest := []) ⟨hx, hb, hml, hown, hts⟩ (C6_fails l D cI q _ _ hq hP hI_1 2) (cwV 1 hts gX6_set_X6_fails rfl rfl rfl ⟨rfl, bd_X6fails⟩ ⟨Nat.le_of_ble_eq_true rfl, Nat.le_of_ble_eq_true rfl⟩) (bPV hk (va_recv hk.1 hP (ci := 6) (q0 := 0) rfl (wM_0 _ _ _))) rfl rfl hl.1 rfl (lv_room (Nat.le_of_ble_eq_true rfl)) dX6_set_41 ⟨Nat.zero_le _, Nat.zero_le _⟩) hS (fun H locs hP hI_11 hS => ?_)
      exact bret_Wi hx hb hr hP hI_11 hS hlocks dX6_set_44 (by rw [← hF, F6_set, if_neg c_2, if_pos c_3])
  · refine lv_aload_n hx hb dX6_set_14 rfl (lv_at hl 0 rfl) ?_
    refine lv_iconst (v := 1) hx hb dX6_set_15 (by decide) ?_
    refine bcall_Wi (va_runV (As := [.int 1]) (rest := []) ⟨hx, hb, hml, hown, hts⟩ (C6_fails l D cI q _ _ hq hP hI_1 1) (cwV 1 hts gX6_set_X6_fails rfl rfl rfl ⟨rfl, bd_X6fails⟩ ⟨Nat.le_of_ble_eq_true rfl, Nat.le_of_ble_eq_true rfl⟩) (bPV hk (va_recv hk.1 hP (ci := 6) (q0 := 0) rfl (wM_0 _ _ _))) rfl rfl hl.1 rfl (lv_room (Nat.le_of_ble_eq_true rfl)) dX6_set_16 ⟨Nat.zero_le _, Nat.zero_le _⟩) hS (fun H locs hP hI_12 hS => ?_)
    exact bret_Wi hx hb hr hP hI_12 hS hlocks dX6_set_19 (by rw [← hF, F6_set, if_pos c_2])
def F6_fill (u : bU) (a1 : Int32) (a2 : Int32) : Int32 × bU := (if (F6_isBrand (bput u 6 2 0) a1) = 0 then ((F6_fails (bput u 6 2 0) 1).1, (F6_fails (bput u 6 2 0) 1).2) else (if (F6_in a2 1 5000) = 0 then ((F6_fails (bput u 6 2 0) 2).1, (F6_fails (bput u 6 2 0) 2).2) else (if a2 ≤ (F6_of (bput u 6 2 0) a1 1) then ((F6_fills (F6_save (bput u 6 2 0)) a1 a2).1, (F6_fills (F6_save (bput u 6 2 0)) a1 a2).2) else ((F6_fails (bput u 6 2 0) 3).1, (F6_fails (bput u 6 2 0) 3).2))))
set_option maxHeartbeats 4000000 in
set_option maxRecDepth 100000 in
theorem C6_fill (l : Launch) (D : va_G) (cI : ClassId) (q : Nat → Nat) (u : bU) (H0 : Heap) (hq : bInj 7 q) (hP : va_P D vwCl (wM cI q u) H0) (hI : mInv u) (a1 : Int32) (a2 : Int32) : Met l yX6_fill wsX6_fill ({ frames := 4, cells := 0, slots := 0, locals := 89 }) (bP D [(cI, .int)] H0 [.ref (q 0), .int a1, .int a2]) (bWi D (wM cI q) mInv (bA 7 q H0.size) (F6_fill u a1 a2)) 0 0 (bA 7 q H0.size) := by
  refine Met.ofW (cc := cX6_fill) (maxL := 3) (ret := (some .int)) (by decide) rfl ?_
  intro p e s m args below meth c s₁ B hml hv
  obtain ⟨rfl, hH, hk⟩ := hv
  subst hH
  have hx := B.exec
  have hb := B.bytes
  have hr := B.returns
  have hts := atoms_spec (ws := wsX6_fill) B.pre
  have hown : s.vm.findClass RX6 = some m.cls := findClass_of_methodNamed B.named
  have hlocks := B.notSynchronized
  have hNB := mNB hI
  have hNS := mNS hI
  have hI0 := hI
  have iX6 : ∀ w ∈ wsX60, w ∈ wsX6_fill := by decide +kernel
  have hS : va_S (bA 7 q s.heap.size) s.heap s.heap [] := va_S.rf
  have hl := lv_entry ([.ref (q 0), .int a1, .int a2]) (n := 3) (Nat.le_of_ble_eq_true rfl)
  rw [lg_entry_eq]
  generalize (lg_sl ([.ref (q 0), .int a1, .int a2]) ++ List.replicate (3 - (lg_sl ([.ref (q 0), .int a1, .int a2])).length) Slot.unset).toArray = ls at hl ⊢
  have hl : lv_has ls 3 [(0, .ref (q 0)), (1, .int a1), (2, .int a2)] := hl
  generalize hF : F6_fill u a1 a2 = tgt
  refine lv_aload_n hx hb dX6_fill_0 rfl (lv_at hl 0 rfl) ?_
  refine lv_iconst (v := 0) hx hb dX6_fill_1 (by decide) ?_
  refine va_put (D := D) (ci := 6) (v := .int 0) (ty := .int) (C := RX6) (T := TX6) (N := 16) hx hb hts iX6 tyX6 tyX6_ok nmX6 hown hk.1 hP (wM_D hq) hS 0 (wM_0 _ _ _) rfl 6 (by decide) (hts (.fieldLink RX6 28 "BottleLoopModel" "thrown" "I") (List.mem_of_getElem? (i := 1) rfl)) (fun _ h9 => h9) rfl (by decide +kernel) rfl rfl (Nat.le_of_ble_eq_true rfl) dX6_fill_2 (fun H locs hP _ hS => ?_)
  have hP : va_P D vwCl (wM cI q (bput u 6 2 0)) H := pM_f2 hP
  have hI_1 : mInv (bput u 6 2 0) := mInv_sc (k := 2) hI (by decide) (by decide) (by decide)
  refine lv_aload_n hx hb dX6_fill_5 rfl (lv_at hl 0 rfl) ?_
  refine lv_iload_n hx hb dX6_fill_6 rfl (lv_at hl 1 rfl) ?_
  refine bcall_Ri (va_runV (As := [.int a1]) (rest := []) ⟨hx, hb, hml, hown, hts⟩ (C6_isBrand l D cI q _ _ hP hI_1 a1) (cwV 1 hts gX6_fill_X6_isBrand rfl rfl rfl ⟨rfl, bd_X6isBrand⟩ ⟨Nat.le_of_ble_eq_true rfl, Nat.le_of_ble_eq_true rfl⟩) (bPV hk (va_recv hk.1 hP (ci := 6) (q0 := 0) rfl (wM_0 _ _ _))) rfl rfl hl.1 rfl (lv_room (Nat.le_of_ble_eq_true rfl)) dX6_fill_7 ⟨Nat.zero_le _, Nat.zero_le _⟩) hS (fun locs hS => ?_)
  refine lv_if_ne (tgt := 19) hx hb dX6_fill_10 (by decide) (fun c_2 => ?_) (fun c_2 => ?_)
  · have hm_3 : mB a1 := mB_is hI_1 c_2
    refine lv_iload_n hx hb dX6_fill_19 rfl (lv_at hl 2 rfl) ?_
    refine lv_iconst (v := 1) hx hb dX6_fill_20 (by decide) ?_
    refine lv_sipush (v := 5000) hx hb dX6_fill_21 (by decide) ?_
    refine bcall_Ri (va_runS (As := [.int a2, .int 1, .int 5000]) (rest := []) ⟨hx, hb, hml, hown, hts⟩ (C6_in l D cI q _ a2 1 5000) (va_cwS 3 hts gX6_fill_X6_in rfl rfl rfl bd_X6in ⟨Nat.le_of_ble_eq_true rfl, Nat.le_of_ble_eq_true rfl⟩) (bPS hk) rfl rfl hl.1 rfl (lv_room (Nat.le_of_ble_eq_true rfl)) dX6_fill_24 ⟨Nat.zero_le _, Nat.zero_le _⟩) hS (fun locs hS => ?_)
    refine lv_if_ne (tgt := 36) hx hb dX6_fill_27 (by decide) (fun c_4 => ?_) (fun c_4 => ?_)
    · refine lv_aload_n hx hb dX6_fill_36 rfl (lv_at hl 0 rfl) ?_
      refine lv_iload_n hx hb dX6_fill_37 rfl (lv_at hl 1 rfl) ?_
      refine lv_iconst (v := 1) hx hb dX6_fill_38 (by decide) ?_
      refine bcall_Ri (va_runV (As := [.int a1, .int 1]) (rest := []) ⟨hx, hb, hml, hown, hts⟩ (C6_of l D cI q _ _ hP hI_1 a1 1 (mXB (w := 1) hm_3 (by decide))) (cwV 2 hts gX6_fill_X6_of rfl rfl rfl ⟨rfl, bd_X6of⟩ ⟨Nat.le_of_ble_eq_true rfl, Nat.le_of_ble_eq_true rfl⟩) (bPV hk (va_recv hk.1 hP (ci := 6) (q0 := 0) rfl (wM_0 _ _ _))) rfl rfl hl.1 rfl (lv_room (Nat.le_of_ble_eq_true rfl)) dX6_fill_39 ⟨Nat.zero_le _, Nat.zero_le _⟩) hS (fun locs hS => ?_)
      refine lv_iload_n hx hb dX6_fill_42 rfl (lv_at hl 2 rfl) ?_
      refine lv_icmp_ge (tgt := 52) hx hb dX6_fill_43 (by decide) (fun c_5 => ?_) (fun c_5 => ?_)
      · refine lv_aload_n hx hb dX6_fill_52 rfl (lv_at hl 0 rfl) ?_
        refine bcall_Wv (va_runV (As := []) (rest := []) ⟨hx, hb, hml, hown, hts⟩ (C6_save l D cI q _ _ hq hP hI_1 ) (cwV 0 hts gX6_fill_X6_save rfl rfl rfl ⟨rfl, bd_X6save⟩ ⟨Nat.le_of_ble_eq_true rfl, Nat.le_of_ble_eq_true rfl⟩) (bPV hk (va_recv hk.1 hP (ci := 6) (q0 := 0) rfl (wM_0 _ _ _))) rfl rfl hl.1 rfl (lv_room (Nat.le_of_ble_eq_true rfl)) dX6_fill_53 ⟨Nat.zero_le _, Nat.zero_le _⟩) hS (fun H locs hP hI_6 hS => ?_)
        refine lv_aload_n hx hb dX6_fill_56 rfl (lv_at hl 0 rfl) ?_
        refine lv_iload_n hx hb dX6_fill_57 rfl (lv_at hl 1 rfl) ?_
        refine lv_iload_n hx hb dX6_fill_58 rfl (lv_at hl 2 rfl) ?_
        refine bcall_Wi (va_runV (As := [.int a1, .int a2]) (rest := []) ⟨hx, hb, hml, hown, hts⟩ (C6_fills l D cI q _ _ hq hP hI_6 a1 a2 hm_3) (cwV 2 hts gX6_fill_X6_fills rfl rfl rfl ⟨rfl, bd_X6fills⟩ ⟨Nat.le_of_ble_eq_true rfl, Nat.le_of_ble_eq_true rfl⟩) (bPV hk (va_recv hk.1 hP (ci := 6) (q0 := 0) rfl (wM_0 _ _ _))) rfl rfl hl.1 rfl (lv_room (Nat.le_of_ble_eq_true rfl)) dX6_fill_59 ⟨Nat.zero_le _, Nat.zero_le _⟩) hS (fun H locs hP hI_7 hS => ?_)
        exact bret_Wi hx hb hr hP hI_7 hS hlocks dX6_fill_62 (by rw [← hF, F6_fill, if_neg c_2, if_neg c_4, if_pos c_5])
      · refine lv_aload_n hx hb dX6_fill_46 rfl (lv_at hl 0 rfl) ?_
        refine lv_iconst (v := 3) hx hb dX6_fill_47 (by decide) ?_
        refine bcall_Wi (va_runV (As := [.int 3]) (rest := []) ⟨hx, hb, hml, hown, hts⟩ (C6_fails l D cI q _ _ hq hP hI_1 3) (cwV 1 hts gX6_fill_X6_fails rfl rfl rfl ⟨rfl, bd_X6fails⟩ ⟨Nat.le_of_ble_eq_true rfl, Nat.le_of_ble_eq_true rfl⟩) (bPV hk (va_recv hk.1 hP (ci := 6) (q0 := 0) rfl (wM_0 _ _ _))) rfl rfl hl.1 rfl (lv_room (Nat.le_of_ble_eq_true rfl)) dX6_fill_48 ⟨Nat.zero_le _, Nat.zero_le _⟩) hS (fun H locs hP hI_8 hS => ?_)
        exact bret_Wi hx hb hr hP hI_8 hS hlocks dX6_fill_51 (by rw [← hF, F6_fill, if_neg c_2, if_neg c_4, if_neg c_5])
    · refine lv_aload_n hx hb dX6_fill_30 rfl (lv_at hl 0 rfl) ?_
      refine lv_iconst (v := 2) hx hb dX6_fill_31 (by decide) ?_
      refine bcall_Wi (va_runV (As := [.int 2]) (rest := []) ⟨hx, hb, hml, hown, hts⟩ (C6_fails l D cI q _ _ hq hP hI_1 2) (cwV 1 hts gX6_fill_X6_fails rfl rfl rfl ⟨rfl, bd_X6fails⟩ ⟨Nat.le_of_ble_eq_true rfl, Nat.le_of_ble_eq_true rfl⟩) (bPV hk (va_recv hk.1 hP (ci := 6) (q0 := 0) rfl (wM_0 _ _ _))) rfl rfl hl.1 rfl (lv_room (Nat.le_of_ble_eq_true rfl)) dX6_fill_32 ⟨Nat.zero_le _, Nat.zero_le _⟩) hS (fun H locs hP hI_9 hS => ?_)
      exact bret_Wi hx hb hr hP hI_9 hS hlocks dX6_fill_35 (by rw [← hF, F6_fill, if_neg c_2, if_pos c_4])
  · refine lv_aload_n hx hb dX6_fill_13 rfl (lv_at hl 0 rfl) ?_
    refine lv_iconst (v := 1) hx hb dX6_fill_14 (by decide) ?_
    refine bcall_Wi (va_runV (As := [.int 1]) (rest := []) ⟨hx, hb, hml, hown, hts⟩ (C6_fails l D cI q _ _ hq hP hI_1 1) (cwV 1 hts gX6_fill_X6_fails rfl rfl rfl ⟨rfl, bd_X6fails⟩ ⟨Nat.le_of_ble_eq_true rfl, Nat.le_of_ble_eq_true rfl⟩) (bPV hk (va_recv hk.1 hP (ci := 6) (q0 := 0) rfl (wM_0 _ _ _))) rfl rfl hl.1 rfl (lv_room (Nat.le_of_ble_eq_true rfl)) dX6_fill_15 ⟨Nat.zero_le _, Nat.zero_le _⟩) hS (fun H locs hP hI_10 hS => ?_)
    exact bret_Wi hx hb hr hP hI_10 hS hlocks dX6_fill_18 (by rw [← hF, F6_fill, if_pos c_2])
def F6_deliver (u : bU) (a1 : Int32) (a2 : Int32) (a3 : Int32) : Int32 × bU := (if (F6_isBrand (bput u 6 2 0) a1) = 0 then ((F6_fails (bput u 6 2 0) 1).1, (F6_fails (bput u 6 2 0) 1).2) else (if (F6_isShop (bput u 6 2 0) a2) = 0 then ((F6_fails (bput u 6 2 0) 1).1, (F6_fails (bput u 6 2 0) 1).2) else (if (F6_in a3 1 50) = 0 then ((F6_fails (bput u 6 2 0) 2).1, (F6_fails (bput u 6 2 0) 2).2) else (if (F6_againstDeliver (bput u 6 2 0) a1 a2 a3) ≤ 0 then ((F6_delivers (F6_save (bput u 6 2 0)) a1 a2 a3).1, (F6_delivers (F6_save (bput u 6 2 0)) a1 a2 a3).2) else ((F6_fails (bput u 6 2 0) 3).1, (F6_fails (bput u 6 2 0) 3).2)))))
set_option maxHeartbeats 4000000 in
set_option maxRecDepth 100000 in
theorem C6_deliver (l : Launch) (D : va_G) (cI : ClassId) (q : Nat → Nat) (u : bU) (H0 : Heap) (hq : bInj 7 q) (hP : va_P D vwCl (wM cI q u) H0) (hI : mInv u) (a1 : Int32) (a2 : Int32) (a3 : Int32) : Met l yX6_deliver wsX6_deliver ({ frames := 4, cells := 0, slots := 0, locals := 88 }) (bP D [(cI, .int)] H0 [.ref (q 0), .int a1, .int a2, .int a3]) (bWi D (wM cI q) mInv (bA 7 q H0.size) (F6_deliver u a1 a2 a3)) 0 0 (bA 7 q H0.size) := by
  refine Met.ofW (cc := cX6_deliver) (maxL := 4) (ret := (some .int)) (by decide) rfl ?_
  intro p e s m args below meth c s₁ B hml hv
  obtain ⟨rfl, hH, hk⟩ := hv
  subst hH
  have hx := B.exec
  have hb := B.bytes
  have hr := B.returns
  have hts := atoms_spec (ws := wsX6_deliver) B.pre
  have hown : s.vm.findClass RX6 = some m.cls := findClass_of_methodNamed B.named
  have hlocks := B.notSynchronized
  have hNB := mNB hI
  have hNS := mNS hI
  have hI0 := hI
  have iX6 : ∀ w ∈ wsX60, w ∈ wsX6_deliver := by decide +kernel
  have hS : va_S (bA 7 q s.heap.size) s.heap s.heap [] := va_S.rf
  have hl := lv_entry ([.ref (q 0), .int a1, .int a2, .int a3]) (n := 4) (Nat.le_of_ble_eq_true rfl)
  rw [lg_entry_eq]
  generalize (lg_sl ([.ref (q 0), .int a1, .int a2, .int a3]) ++ List.replicate (4 - (lg_sl ([.ref (q 0), .int a1, .int a2, .int a3])).length) Slot.unset).toArray = ls at hl ⊢
  have hl : lv_has ls 4 [(0, .ref (q 0)), (1, .int a1), (2, .int a2), (3, .int a3)] := hl
  generalize hF : F6_deliver u a1 a2 a3 = tgt
  refine lv_aload_n hx hb dX6_deliver_0 rfl (lv_at hl 0 rfl) ?_
  refine lv_iconst (v := 0) hx hb dX6_deliver_1 (by decide) ?_
  refine va_put (D := D) (ci := 6) (v := .int 0) (ty := .int) (C := RX6) (T := TX6) (N := 16) hx hb hts iX6 tyX6 tyX6_ok nmX6 hown hk.1 hP (wM_D hq) hS 0 (wM_0 _ _ _) rfl 6 (by decide) (hts (.fieldLink RX6 28 "BottleLoopModel" "thrown" "I") (List.mem_of_getElem? (i := 1) rfl)) (fun _ h9 => h9) rfl (by decide +kernel) rfl rfl (Nat.le_of_ble_eq_true rfl) dX6_deliver_2 (fun H locs hP _ hS => ?_)
  have hP : va_P D vwCl (wM cI q (bput u 6 2 0)) H := pM_f2 hP
  have hI_1 : mInv (bput u 6 2 0) := mInv_sc (k := 2) hI (by decide) (by decide) (by decide)
  refine lv_aload_n hx hb dX6_deliver_5 rfl (lv_at hl 0 rfl) ?_
  refine lv_iload_n hx hb dX6_deliver_6 rfl (lv_at hl 1 rfl) ?_
  refine bcall_Ri (va_runV (As := [.int a1]) (rest := []) ⟨hx, hb, hml, hown, hts⟩ (C6_isBrand l D cI q _ _ hP hI_1 a1) (cwV 1 hts gX6_deliver_X6_isBrand rfl rfl rfl ⟨rfl, bd_X6isBrand⟩ ⟨Nat.le_of_ble_eq_true rfl, Nat.le_of_ble_eq_true rfl⟩) (bPV hk (va_recv hk.1 hP (ci := 6) (q0 := 0) rfl (wM_0 _ _ _))) rfl rfl hl.1 rfl (lv_room (Nat.le_of_ble_eq_true rfl)) dX6_deliver_7 ⟨Nat.zero_le _, Nat.zero_le _⟩) hS (fun locs hS => ?_)
  refine lv_if_eq (tgt := 21) hx hb dX6_deliver_10 (by decide) (fun c_2 => ?_) (fun c_2 => ?_)
  · refine lv_aload_n hx hb dX6_deliver_21 rfl (lv_at hl 0 rfl) ?_
    refine lv_iconst (v := 1) hx hb dX6_deliver_22 (by decide) ?_
    refine bcall_Wi (va_runV (As := [.int 1]) (rest := []) ⟨hx, hb, hml, hown, hts⟩ (C6_fails l D cI q _ _ hq hP hI_1 1) (cwV 1 hts gX6_deliver_X6_fails rfl rfl rfl ⟨rfl, bd_X6fails⟩ ⟨Nat.le_of_ble_eq_true rfl, Nat.le_of_ble_eq_true rfl⟩) (bPV hk (va_recv hk.1 hP (ci := 6) (q0 := 0) rfl (wM_0 _ _ _))) rfl rfl hl.1 rfl (lv_room (Nat.le_of_ble_eq_true rfl)) dX6_deliver_23 ⟨Nat.zero_le _, Nat.zero_le _⟩) hS (fun H locs hP hI_3 hS => ?_)
    exact bret_Wi hx hb hr hP hI_3 hS hlocks dX6_deliver_26 (by rw [← hF, F6_deliver, if_pos c_2])
  · have hm_4 : mB a1 := mB_is hI_1 c_2
    refine lv_aload_n hx hb dX6_deliver_13 rfl (lv_at hl 0 rfl) ?_
    refine lv_iload_n hx hb dX6_deliver_14 rfl (lv_at hl 2 rfl) ?_
    refine bcall_Ri (va_runV (As := [.int a2]) (rest := []) ⟨hx, hb, hml, hown, hts⟩ (C6_isShop l D cI q _ _ hP hI_1 a2) (cwV 1 hts gX6_deliver_X6_isShop rfl rfl rfl ⟨rfl, bd_X6isShop⟩ ⟨Nat.le_of_ble_eq_true rfl, Nat.le_of_ble_eq_true rfl⟩) (bPV hk (va_recv hk.1 hP (ci := 6) (q0 := 0) rfl (wM_0 _ _ _))) rfl rfl hl.1 rfl (lv_room (Nat.le_of_ble_eq_true rfl)) dX6_deliver_15 ⟨Nat.zero_le _, Nat.zero_le _⟩) hS (fun locs hS => ?_)
    refine lv_if_ne (tgt := 27) hx hb dX6_deliver_18 (by decide) (fun c_5 => ?_) (fun c_5 => ?_)
    · have hm_6 : mS a2 := mS_is hI_1 c_5
      refine lv_iload_n hx hb dX6_deliver_27 rfl (lv_at hl 3 rfl) ?_
      refine lv_iconst (v := 1) hx hb dX6_deliver_28 (by decide) ?_
      refine lv_bipush (v := 50) hx hb dX6_deliver_29 (by decide) ?_
      refine bcall_Ri (va_runS (As := [.int a3, .int 1, .int 50]) (rest := []) ⟨hx, hb, hml, hown, hts⟩ (C6_in l D cI q _ a3 1 50) (va_cwS 3 hts gX6_deliver_X6_in rfl rfl rfl bd_X6in ⟨Nat.le_of_ble_eq_true rfl, Nat.le_of_ble_eq_true rfl⟩) (bPS hk) rfl rfl hl.1 rfl (lv_room (Nat.le_of_ble_eq_true rfl)) dX6_deliver_31 ⟨Nat.zero_le _, Nat.zero_le _⟩) hS (fun locs hS => ?_)
      refine lv_if_ne (tgt := 43) hx hb dX6_deliver_34 (by decide) (fun c_7 => ?_) (fun c_7 => ?_)
      · refine lv_aload_n hx hb dX6_deliver_43 rfl (lv_at hl 0 rfl) ?_
        refine lv_iload_n hx hb dX6_deliver_44 rfl (lv_at hl 1 rfl) ?_
        refine lv_iload_n hx hb dX6_deliver_45 rfl (lv_at hl 2 rfl) ?_
        refine lv_iload_n hx hb dX6_deliver_46 rfl (lv_at hl 3 rfl) ?_
        refine bcall_Ri (va_runV (As := [.int a1, .int a2, .int a3]) (rest := []) ⟨hx, hb, hml, hown, hts⟩ (C6_againstDeliver l D cI q _ _ hP hI_1 a1 a2 a3 hm_4 hm_6) (cwV 3 hts gX6_deliver_X6_againstDeliver rfl rfl rfl ⟨rfl, bd_X6againstDeliver⟩ ⟨Nat.le_of_ble_eq_true rfl, Nat.le_of_ble_eq_true rfl⟩) (bPV hk (va_recv hk.1 hP (ci := 6) (q0 := 0) rfl (wM_0 _ _ _))) rfl rfl hl.1 rfl (lv_room (Nat.le_of_ble_eq_true rfl)) dX6_deliver_47 ⟨Nat.zero_le _, Nat.zero_le _⟩) hS (fun locs hS => ?_)
        refine lv_if_le (tgt := 59) hx hb dX6_deliver_50 (by decide) (fun c_8 => ?_) (fun c_8 => ?_)
        · refine lv_aload_n hx hb dX6_deliver_59 rfl (lv_at hl 0 rfl) ?_
          refine bcall_Wv (va_runV (As := []) (rest := []) ⟨hx, hb, hml, hown, hts⟩ (C6_save l D cI q _ _ hq hP hI_1 ) (cwV 0 hts gX6_deliver_X6_save rfl rfl rfl ⟨rfl, bd_X6save⟩ ⟨Nat.le_of_ble_eq_true rfl, Nat.le_of_ble_eq_true rfl⟩) (bPV hk (va_recv hk.1 hP (ci := 6) (q0 := 0) rfl (wM_0 _ _ _))) rfl rfl hl.1 rfl (lv_room (Nat.le_of_ble_eq_true rfl)) dX6_deliver_60 ⟨Nat.zero_le _, Nat.zero_le _⟩) hS (fun H locs hP hI_9 hS => ?_)
          refine lv_aload_n hx hb dX6_deliver_63 rfl (lv_at hl 0 rfl) ?_
          refine lv_iload_n hx hb dX6_deliver_64 rfl (lv_at hl 1 rfl) ?_
          refine lv_iload_n hx hb dX6_deliver_65 rfl (lv_at hl 2 rfl) ?_
          refine lv_iload_n hx hb dX6_deliver_66 rfl (lv_at hl 3 rfl) ?_
          refine bcall_Wi (va_runV (As := [.int a1, .int a2, .int a3]) (rest := []) ⟨hx, hb, hml, hown, hts⟩ (C6_delivers l D cI q _ _ hq hP hI_9 a1 a2 a3 hm_4 hm_6) (cwV 3 hts gX6_deliver_X6_delivers rfl rfl rfl ⟨rfl, bd_X6delivers⟩ ⟨Nat.le_of_ble_eq_true rfl, Nat.le_of_ble_eq_true rfl⟩) (bPV hk (va_recv hk.1 hP (ci := 6) (q0 := 0) rfl (wM_0 _ _ _))) rfl rfl hl.1 rfl (lv_room (Nat.le_of_ble_eq_true rfl)) dX6_deliver_67 ⟨Nat.zero_le _, Nat.zero_le _⟩) hS (fun H locs hP hI_10 hS => ?_)
          exact bret_Wi hx hb hr hP hI_10 hS hlocks dX6_deliver_70 (by rw [← hF, F6_deliver, if_neg c_2, if_neg c_5, if_neg c_7, if_pos c_8])
        · refine lv_aload_n hx hb dX6_deliver_53 rfl (lv_at hl 0 rfl) ?_
          refine lv_iconst (v := 3) hx hb dX6_deliver_54 (by decide) ?_
          refine bcall_Wi (va_runV (As := [.int 3]) (rest := []) ⟨hx, hb, hml, hown, hts⟩ (C6_fails l D cI q _ _ hq hP hI_1 3) (cwV 1 hts gX6_deliver_X6_fails rfl rfl rfl ⟨rfl, bd_X6fails⟩ ⟨Nat.le_of_ble_eq_true rfl, Nat.le_of_ble_eq_true rfl⟩) (bPV hk (va_recv hk.1 hP (ci := 6) (q0 := 0) rfl (wM_0 _ _ _))) rfl rfl hl.1 rfl (lv_room (Nat.le_of_ble_eq_true rfl)) dX6_deliver_55 ⟨Nat.zero_le _, Nat.zero_le _⟩) hS (fun H locs hP hI_11 hS => ?_)
          exact bret_Wi hx hb hr hP hI_11 hS hlocks dX6_deliver_58 (by rw [← hF, F6_deliver, if_neg c_2, if_neg c_5, if_neg c_7, if_neg c_8])
      · refine lv_aload_n hx hb dX6_deliver_37 rfl (lv_at hl 0 rfl) ?_
        refine lv_iconst (v := 2) hx hb dX6_deliver_38 (by decide) ?_
        refine bcall_Wi (va_runV (As := [.int 2]) (rest := []) ⟨hx, hb, hml, hown, hts⟩ (C6_fails l D cI q _ _ hq hP hI_1 2) (cwV 1 hts gX6_deliver_X6_fails rfl rfl rfl ⟨rfl, bd_X6fails⟩ ⟨Nat.le_of_ble_eq_true rfl, Nat.le_of_ble_eq_true rfl⟩) (bPV hk (va_recv hk.1 hP (ci := 6) (q0 := 0) rfl (wM_0 _ _ _))) rfl rfl hl.1 rfl (lv_room (Nat.le_of_ble_eq_true rfl)) dX6_deliver_39 ⟨Nat.zero_le _, Nat.zero_le _⟩) hS (fun H locs hP hI_12 hS => ?_)
        exact bret_Wi hx hb hr hP hI_12 hS hlocks dX6_deliver_42 (by rw [← hF, F6_deliver, if_neg c_2, if_neg c_5, if_pos c_7])
    · refine lv_aload_n hx hb dX6_deliver_21 rfl (lv_at hl 0 rfl) ?_
      refine lv_iconst (v := 1) hx hb dX6_deliver_22 (by decide) ?_
      refine bcall_Wi (va_runV (As := [.int 1]) (rest := []) ⟨hx, hb, hml, hown, hts⟩ (C6_fails l D cI q _ _ hq hP hI_1 1) (cwV 1 hts gX6_deliver_X6_fails rfl rfl rfl ⟨rfl, bd_X6fails⟩ ⟨Nat.le_of_ble_eq_true rfl, Nat.le_of_ble_eq_true rfl⟩) (bPV hk (va_recv hk.1 hP (ci := 6) (q0 := 0) rfl (wM_0 _ _ _))) rfl rfl hl.1 rfl (lv_room (Nat.le_of_ble_eq_true rfl)) dX6_deliver_23 ⟨Nat.zero_le _, Nat.zero_le _⟩) hS (fun H locs hP hI_13 hS => ?_)
      exact bret_Wi hx hb hr hP hI_13 hS hlocks dX6_deliver_26 (by rw [← hF, F6_deliver, if_neg c_2, if_pos c_5])
def F6_sell (u : bU) (a1 : Int32) (a2 : Int32) (a3 : Int32) : Int32 × bU := (if (F6_isShop (bput u 6 2 0) a1) = 0 then ((F6_fails (bput u 6 2 0) 1).1, (F6_fails (bput u 6 2 0) 1).2) else (if (F6_isBrand (bput u 6 2 0) a2) = 0 then ((F6_fails (bput u 6 2 0) 1).1, (F6_fails (bput u 6 2 0) 1).2) else (if (F6_in a3 1 500) = 0 then ((F6_fails (bput u 6 2 0) 2).1, (F6_fails (bput u 6 2 0) 2).2) else (if (F6_againstSell (bput u 6 2 0) a1 a2 a3) ≤ 0 then ((F6_sells (F6_save (bput u 6 2 0)) a1 a2 a3).1, (F6_sells (F6_save (bput u 6 2 0)) a1 a2 a3).2) else ((F6_fails (bput u 6 2 0) 3).1, (F6_fails (bput u 6 2 0) 3).2)))))
set_option maxHeartbeats 4000000 in
set_option maxRecDepth 100000 in
theorem C6_sell (l : Launch) (D : va_G) (cI : ClassId) (q : Nat → Nat) (u : bU) (H0 : Heap) (hq : bInj 7 q) (hP : va_P D vwCl (wM cI q u) H0) (hI : mInv u) (a1 : Int32) (a2 : Int32) (a3 : Int32) : Met l yX6_sell wsX6_sell ({ frames := 4, cells := 0, slots := 0, locals := 87 }) (bP D [(cI, .int)] H0 [.ref (q 0), .int a1, .int a2, .int a3]) (bWi D (wM cI q) mInv (bA 7 q H0.size) (F6_sell u a1 a2 a3)) 0 0 (bA 7 q H0.size) := by
  refine Met.ofW (cc := cX6_sell) (maxL := 4) (ret := (some .int)) (by decide) rfl ?_
  intro p e s m args below meth c s₁ B hml hv
  obtain ⟨rfl, hH, hk⟩ := hv
  subst hH
  have hx := B.exec
  have hb := B.bytes
  have hr := B.returns
  have hts := atoms_spec (ws := wsX6_sell) B.pre
  have hown : s.vm.findClass RX6 = some m.cls := findClass_of_methodNamed B.named
  have hlocks := B.notSynchronized
  have hNB := mNB hI
  have hNS := mNS hI
  have hI0 := hI
  have iX6 : ∀ w ∈ wsX60, w ∈ wsX6_sell := by decide +kernel
  have hS : va_S (bA 7 q s.heap.size) s.heap s.heap [] := va_S.rf
  have hl := lv_entry ([.ref (q 0), .int a1, .int a2, .int a3]) (n := 4) (Nat.le_of_ble_eq_true rfl)
  rw [lg_entry_eq]
  generalize (lg_sl ([.ref (q 0), .int a1, .int a2, .int a3]) ++ List.replicate (4 - (lg_sl ([.ref (q 0), .int a1, .int a2, .int a3])).length) Slot.unset).toArray = ls at hl ⊢
  have hl : lv_has ls 4 [(0, .ref (q 0)), (1, .int a1), (2, .int a2), (3, .int a3)] := hl
  generalize hF : F6_sell u a1 a2 a3 = tgt
  refine lv_aload_n hx hb dX6_sell_0 rfl (lv_at hl 0 rfl) ?_
  refine lv_iconst (v := 0) hx hb dX6_sell_1 (by decide) ?_
  refine va_put (D := D) (ci := 6) (v := .int 0) (ty := .int) (C := RX6) (T := TX6) (N := 16) hx hb hts iX6 tyX6 tyX6_ok nmX6 hown hk.1 hP (wM_D hq) hS 0 (wM_0 _ _ _) rfl 6 (by decide) (hts (.fieldLink RX6 28 "BottleLoopModel" "thrown" "I") (List.mem_of_getElem? (i := 1) rfl)) (fun _ h9 => h9) rfl (by decide +kernel) rfl rfl (Nat.le_of_ble_eq_true rfl) dX6_sell_2 (fun H locs hP _ hS => ?_)
  have hP : va_P D vwCl (wM cI q (bput u 6 2 0)) H := pM_f2 hP
  have hI_1 : mInv (bput u 6 2 0) := mInv_sc (k := 2) hI (by decide) (by decide) (by decide)
  refine lv_aload_n hx hb dX6_sell_5 rfl (lv_at hl 0 rfl) ?_
  refine lv_iload_n hx hb dX6_sell_6 rfl (lv_at hl 1 rfl) ?_
  refine bcall_Ri (va_runV (As := [.int a1]) (rest := []) ⟨hx, hb, hml, hown, hts⟩ (C6_isShop l D cI q _ _ hP hI_1 a1) (cwV 1 hts gX6_sell_X6_isShop rfl rfl rfl ⟨rfl, bd_X6isShop⟩ ⟨Nat.le_of_ble_eq_true rfl, Nat.le_of_ble_eq_true rfl⟩) (bPV hk (va_recv hk.1 hP (ci := 6) (q0 := 0) rfl (wM_0 _ _ _))) rfl rfl hl.1 rfl (lv_room (Nat.le_of_ble_eq_true rfl)) dX6_sell_7 ⟨Nat.zero_le _, Nat.zero_le _⟩) hS (fun locs hS => ?_)
  refine lv_if_eq (tgt := 21) hx hb dX6_sell_10 (by decide) (fun c_2 => ?_) (fun c_2 => ?_)
  · refine lv_aload_n hx hb dX6_sell_21 rfl (lv_at hl 0 rfl) ?_
    refine lv_iconst (v := 1) hx hb dX6_sell_22 (by decide) ?_
    refine bcall_Wi (va_runV (As := [.int 1]) (rest := []) ⟨hx, hb, hml, hown, hts⟩ (C6_fails l D cI q _ _ hq hP hI_1 1) (cwV 1 hts gX6_sell_X6_fails rfl rfl rfl ⟨rfl, bd_X6fails⟩ ⟨Nat.le_of_ble_eq_true rfl, Nat.le_of_ble_eq_true rfl⟩) (bPV hk (va_recv hk.1 hP (ci := 6) (q0 := 0) rfl (wM_0 _ _ _))) rfl rfl hl.1 rfl (lv_room (Nat.le_of_ble_eq_true rfl)) dX6_sell_23 ⟨Nat.zero_le _, Nat.zero_le _⟩) hS (fun H locs hP hI_3 hS => ?_)
    exact bret_Wi hx hb hr hP hI_3 hS hlocks dX6_sell_26 (by rw [← hF, F6_sell, if_pos c_2])
  · have hm_4 : mS a1 := mS_is hI_1 c_2
    refine lv_aload_n hx hb dX6_sell_13 rfl (lv_at hl 0 rfl) ?_
    refine lv_iload_n hx hb dX6_sell_14 rfl (lv_at hl 2 rfl) ?_
    refine bcall_Ri (va_runV (As := [.int a2]) (rest := []) ⟨hx, hb, hml, hown, hts⟩ (C6_isBrand l D cI q _ _ hP hI_1 a2) (cwV 1 hts gX6_sell_X6_isBrand rfl rfl rfl ⟨rfl, bd_X6isBrand⟩ ⟨Nat.le_of_ble_eq_true rfl, Nat.le_of_ble_eq_true rfl⟩) (bPV hk (va_recv hk.1 hP (ci := 6) (q0 := 0) rfl (wM_0 _ _ _))) rfl rfl hl.1 rfl (lv_room (Nat.le_of_ble_eq_true rfl)) dX6_sell_15 ⟨Nat.zero_le _, Nat.zero_le _⟩) hS (fun locs hS => ?_)
    refine lv_if_ne (tgt := 27) hx hb dX6_sell_18 (by decide) (fun c_5 => ?_) (fun c_5 => ?_)
    · have hm_6 : mB a2 := mB_is hI_1 c_5
      refine lv_iload_n hx hb dX6_sell_27 rfl (lv_at hl 3 rfl) ?_
      refine lv_iconst (v := 1) hx hb dX6_sell_28 (by decide) ?_
      refine lv_sipush (v := 500) hx hb dX6_sell_29 (by decide) ?_
      refine bcall_Ri (va_runS (As := [.int a3, .int 1, .int 500]) (rest := []) ⟨hx, hb, hml, hown, hts⟩ (C6_in l D cI q _ a3 1 500) (va_cwS 3 hts gX6_sell_X6_in rfl rfl rfl bd_X6in ⟨Nat.le_of_ble_eq_true rfl, Nat.le_of_ble_eq_true rfl⟩) (bPS hk) rfl rfl hl.1 rfl (lv_room (Nat.le_of_ble_eq_true rfl)) dX6_sell_32 ⟨Nat.zero_le _, Nat.zero_le _⟩) hS (fun locs hS => ?_)
      refine lv_if_ne (tgt := 44) hx hb dX6_sell_35 (by decide) (fun c_7 => ?_) (fun c_7 => ?_)
      · refine lv_aload_n hx hb dX6_sell_44 rfl (lv_at hl 0 rfl) ?_
        refine lv_iload_n hx hb dX6_sell_45 rfl (lv_at hl 1 rfl) ?_
        refine lv_iload_n hx hb dX6_sell_46 rfl (lv_at hl 2 rfl) ?_
        refine lv_iload_n hx hb dX6_sell_47 rfl (lv_at hl 3 rfl) ?_
        refine bcall_Ri (va_runV (As := [.int a1, .int a2, .int a3]) (rest := []) ⟨hx, hb, hml, hown, hts⟩ (C6_againstSell l D cI q _ _ hP hI_1 a1 a2 a3 hm_4 hm_6) (cwV 3 hts gX6_sell_X6_againstSell rfl rfl rfl ⟨rfl, bd_X6againstSell⟩ ⟨Nat.le_of_ble_eq_true rfl, Nat.le_of_ble_eq_true rfl⟩) (bPV hk (va_recv hk.1 hP (ci := 6) (q0 := 0) rfl (wM_0 _ _ _))) rfl rfl hl.1 rfl (lv_room (Nat.le_of_ble_eq_true rfl)) dX6_sell_48 ⟨Nat.zero_le _, Nat.zero_le _⟩) hS (fun locs hS => ?_)
        refine lv_if_le (tgt := 60) hx hb dX6_sell_51 (by decide) (fun c_8 => ?_) (fun c_8 => ?_)
        · refine lv_aload_n hx hb dX6_sell_60 rfl (lv_at hl 0 rfl) ?_
          refine bcall_Wv (va_runV (As := []) (rest := []) ⟨hx, hb, hml, hown, hts⟩ (C6_save l D cI q _ _ hq hP hI_1 ) (cwV 0 hts gX6_sell_X6_save rfl rfl rfl ⟨rfl, bd_X6save⟩ ⟨Nat.le_of_ble_eq_true rfl, Nat.le_of_ble_eq_true rfl⟩) (bPV hk (va_recv hk.1 hP (ci := 6) (q0 := 0) rfl (wM_0 _ _ _))) rfl rfl hl.1 rfl (lv_room (Nat.le_of_ble_eq_true rfl)) dX6_sell_61 ⟨Nat.zero_le _, Nat.zero_le _⟩) hS (fun H locs hP hI_9 hS => ?_)
          refine lv_aload_n hx hb dX6_sell_64 rfl (lv_at hl 0 rfl) ?_
          refine lv_iload_n hx hb dX6_sell_65 rfl (lv_at hl 1 rfl) ?_
          refine lv_iload_n hx hb dX6_sell_66 rfl (lv_at hl 2 rfl) ?_
          refine lv_iload_n hx hb dX6_sell_67 rfl (lv_at hl 3 rfl) ?_
          refine bcall_Wi (va_runV (As := [.int a1, .int a2, .int a3]) (rest := []) ⟨hx, hb, hml, hown, hts⟩ (C6_sells l D cI q _ _ hq hP hI_9 a1 a2 a3 hm_4 hm_6) (cwV 3 hts gX6_sell_X6_sells rfl rfl rfl ⟨rfl, bd_X6sells⟩ ⟨Nat.le_of_ble_eq_true rfl, Nat.le_of_ble_eq_true rfl⟩) (bPV hk (va_recv hk.1 hP (ci := 6) (q0 := 0) rfl (wM_0 _ _ _))) rfl rfl hl.1 rfl (lv_room (Nat.le_of_ble_eq_true rfl)) dX6_sell_68 ⟨Nat.zero_le _, Nat.zero_le _⟩) hS (fun H locs hP hI_10 hS => ?_)
          exact bret_Wi hx hb hr hP hI_10 hS hlocks dX6_sell_71 (by rw [← hF, F6_sell, if_neg c_2, if_neg c_5, if_neg c_7, if_pos c_8])
        · refine lv_aload_n hx hb dX6_sell_54 rfl (lv_at hl 0 rfl) ?_
          refine lv_iconst (v := 3) hx hb dX6_sell_55 (by decide) ?_
          refine bcall_Wi (va_runV (As := [.int 3]) (rest := []) ⟨hx, hb, hml, hown, hts⟩ (C6_fails l D cI q _ _ hq hP hI_1 3) (cwV 1 hts gX6_sell_X6_fails rfl rfl rfl ⟨rfl, bd_X6fails⟩ ⟨Nat.le_of_ble_eq_true rfl, Nat.le_of_ble_eq_true rfl⟩) (bPV hk (va_recv hk.1 hP (ci := 6) (q0 := 0) rfl (wM_0 _ _ _))) rfl rfl hl.1 rfl (lv_room (Nat.le_of_ble_eq_true rfl)) dX6_sell_56 ⟨Nat.zero_le _, Nat.zero_le _⟩) hS (fun H locs hP hI_11 hS => ?_)
          exact bret_Wi hx hb hr hP hI_11 hS hlocks dX6_sell_59 (by rw [← hF, F6_sell, if_neg c_2, if_neg c_5, if_neg c_7, if_neg c_8])
      · refine lv_aload_n hx hb dX6_sell_38 rfl (lv_at hl 0 rfl) ?_
        refine lv_iconst (v := 2) hx hb dX6_sell_39 (by decide) ?_
        refine bcall_Wi (va_runV (As := [.int 2]) (rest := []) ⟨hx, hb, hml, hown, hts⟩ (C6_fails l D cI q _ _ hq hP hI_1 2) (cwV 1 hts gX6_sell_X6_fails rfl rfl rfl ⟨rfl, bd_X6fails⟩ ⟨Nat.le_of_ble_eq_true rfl, Nat.le_of_ble_eq_true rfl⟩) (bPV hk (va_recv hk.1 hP (ci := 6) (q0 := 0) rfl (wM_0 _ _ _))) rfl rfl hl.1 rfl (lv_room (Nat.le_of_ble_eq_true rfl)) dX6_sell_40 ⟨Nat.zero_le _, Nat.zero_le _⟩) hS (fun H locs hP hI_12 hS => ?_)
        exact bret_Wi hx hb hr hP hI_12 hS hlocks dX6_sell_43 (by rw [← hF, F6_sell, if_neg c_2, if_neg c_5, if_pos c_7])
    · refine lv_aload_n hx hb dX6_sell_21 rfl (lv_at hl 0 rfl) ?_
      refine lv_iconst (v := 1) hx hb dX6_sell_22 (by decide) ?_
      refine bcall_Wi (va_runV (As := [.int 1]) (rest := []) ⟨hx, hb, hml, hown, hts⟩ (C6_fails l D cI q _ _ hq hP hI_1 1) (cwV 1 hts gX6_sell_X6_fails rfl rfl rfl ⟨rfl, bd_X6fails⟩ ⟨Nat.le_of_ble_eq_true rfl, Nat.le_of_ble_eq_true rfl⟩) (bPV hk (va_recv hk.1 hP (ci := 6) (q0 := 0) rfl (wM_0 _ _ _))) rfl rfl hl.1 rfl (lv_room (Nat.le_of_ble_eq_true rfl)) dX6_sell_23 ⟨Nat.zero_le _, Nat.zero_le _⟩) hS (fun H locs hP hI_13 hS => ?_)
      exact bret_Wi hx hb hr hP hI_13 hS hlocks dX6_sell_26 (by rw [← hF, F6_sell, if_neg c_2, if_pos c_5])
def F6_takeBack (u : bU) (a1 : Int32) (a2 : Int32) (a3 : Int32) : Int32 × bU := (if (F6_isShop (bput u 6 2 0) a1) = 0 then ((F6_fails (bput u 6 2 0) 1).1, (F6_fails (bput u 6 2 0) 1).2) else (if (F6_isBrand (bput u 6 2 0) a2) = 0 then ((F6_fails (bput u 6 2 0) 1).1, (F6_fails (bput u 6 2 0) 1).2) else (if (F6_in a3 1 500) = 0 then ((F6_fails (bput u 6 2 0) 2).1, (F6_fails (bput u 6 2 0) 2).2) else (if (F6_againstTakeBack (bput u 6 2 0) a1 a2 a3) ≤ 0 then ((F6_takesBack (F6_save (bput u 6 2 0)) a1 a2 a3).1, (F6_takesBack (F6_save (bput u 6 2 0)) a1 a2 a3).2) else ((F6_fails (bput u 6 2 0) 3).1, (F6_fails (bput u 6 2 0) 3).2)))))
set_option maxHeartbeats 4000000 in
set_option maxRecDepth 100000 in
theorem C6_takeBack (l : Launch) (D : va_G) (cI : ClassId) (q : Nat → Nat) (u : bU) (H0 : Heap) (hq : bInj 7 q) (hP : va_P D vwCl (wM cI q u) H0) (hI : mInv u) (a1 : Int32) (a2 : Int32) (a3 : Int32) : Met l yX6_takeBack wsX6_takeBack ({ frames := 4, cells := 0, slots := 0, locals := 87 }) (bP D [(cI, .int)] H0 [.ref (q 0), .int a1, .int a2, .int a3]) (bWi D (wM cI q) mInv (bA 7 q H0.size) (F6_takeBack u a1 a2 a3)) 0 0 (bA 7 q H0.size) := by
  refine Met.ofW (cc := cX6_takeBack) (maxL := 4) (ret := (some .int)) (by decide) rfl ?_
  intro p e s m args below meth c s₁ B hml hv
  obtain ⟨rfl, hH, hk⟩ := hv
  subst hH
  have hx := B.exec
  have hb := B.bytes
  have hr := B.returns
  have hts := atoms_spec (ws := wsX6_takeBack) B.pre
  have hown : s.vm.findClass RX6 = some m.cls := findClass_of_methodNamed B.named
  have hlocks := B.notSynchronized
  have hNB := mNB hI
  have hNS := mNS hI
  have hI0 := hI
  have iX6 : ∀ w ∈ wsX60, w ∈ wsX6_takeBack := by decide +kernel
  have hS : va_S (bA 7 q s.heap.size) s.heap s.heap [] := va_S.rf
  have hl := lv_entry ([.ref (q 0), .int a1, .int a2, .int a3]) (n := 4) (Nat.le_of_ble_eq_true rfl)
  rw [lg_entry_eq]
  generalize (lg_sl ([.ref (q 0), .int a1, .int a2, .int a3]) ++ List.replicate (4 - (lg_sl ([.ref (q 0), .int a1, .int a2, .int a3])).length) Slot.unset).toArray = ls at hl ⊢
  have hl : lv_has ls 4 [(0, .ref (q 0)), (1, .int a1), (2, .int a2), (3, .int a3)] := hl
  generalize hF : F6_takeBack u a1 a2 a3 = tgt
  refine lv_aload_n hx hb dX6_takeBack_0 rfl (lv_at hl 0 rfl) ?_
  refine lv_iconst (v := 0) hx hb dX6_takeBack_1 (by decide) ?_
  refine va_put (D := D) (ci := 6) (v := .int 0) (ty := .int) (C := RX6) (T := TX6) (N := 16) hx hb hts iX6 tyX6 tyX6_ok nmX6 hown hk.1 hP (wM_D hq) hS 0 (wM_0 _ _ _) rfl 6 (by decide) (hts (.fieldLink RX6 28 "BottleLoopModel" "thrown" "I") (List.mem_of_getElem? (i := 1) rfl)) (fun _ h9 => h9) rfl (by decide +kernel) rfl rfl (Nat.le_of_ble_eq_true rfl) dX6_takeBack_2 (fun H locs hP _ hS => ?_)
  have hP : va_P D vwCl (wM cI q (bput u 6 2 0)) H := pM_f2 hP
  have hI_1 : mInv (bput u 6 2 0) := mInv_sc (k := 2) hI (by decide) (by decide) (by decide)
  refine lv_aload_n hx hb dX6_takeBack_5 rfl (lv_at hl 0 rfl) ?_
  refine lv_iload_n hx hb dX6_takeBack_6 rfl (lv_at hl 1 rfl) ?_
  refine bcall_Ri (va_runV (As := [.int a1]) (rest := []) ⟨hx, hb, hml, hown, hts⟩ (C6_isShop l D cI q _ _ hP hI_1 a1) (cwV 1 hts gX6_takeBack_X6_isShop rfl rfl rfl ⟨rfl, bd_X6isShop⟩ ⟨Nat.le_of_ble_eq_true rfl, Nat.le_of_ble_eq_true rfl⟩) (bPV hk (va_recv hk.1 hP (ci := 6) (q0 := 0) rfl (wM_0 _ _ _))) rfl rfl hl.1 rfl (lv_room (Nat.le_of_ble_eq_true rfl)) dX6_takeBack_7 ⟨Nat.zero_le _, Nat.zero_le _⟩) hS (fun locs hS => ?_)
  refine lv_if_eq (tgt := 21) hx hb dX6_takeBack_10 (by decide) (fun c_2 => ?_) (fun c_2 => ?_)
  · refine lv_aload_n hx hb dX6_takeBack_21 rfl (lv_at hl 0 rfl) ?_
    refine lv_iconst (v := 1) hx hb dX6_takeBack_22 (by decide) ?_
    refine bcall_Wi (va_runV (As := [.int 1]) (rest := []) ⟨hx, hb, hml, hown, hts⟩ (C6_fails l D cI q _ _ hq hP hI_1 1) (cwV 1 hts gX6_takeBack_X6_fails rfl rfl rfl ⟨rfl, bd_X6fails⟩ ⟨Nat.le_of_ble_eq_true rfl, Nat.le_of_ble_eq_true rfl⟩) (bPV hk (va_recv hk.1 hP (ci := 6) (q0 := 0) rfl (wM_0 _ _ _))) rfl rfl hl.1 rfl (lv_room (Nat.le_of_ble_eq_true rfl)) dX6_takeBack_23 ⟨Nat.zero_le _, Nat.zero_le _⟩) hS (fun H locs hP hI_3 hS => ?_)
    exact bret_Wi hx hb hr hP hI_3 hS hlocks dX6_takeBack_26 (by rw [← hF, F6_takeBack, if_pos c_2])
  · have hm_4 : mS a1 := mS_is hI_1 c_2
    refine lv_aload_n hx hb dX6_takeBack_13 rfl (lv_at hl 0 rfl) ?_
    refine lv_iload_n hx hb dX6_takeBack_14 rfl (lv_at hl 2 rfl) ?_
    refine bcall_Ri (va_runV (As := [.int a2]) (rest := []) ⟨hx, hb, hml, hown, hts⟩ (C6_isBrand l D cI q _ _ hP hI_1 a2) (cwV 1 hts gX6_takeBack_X6_isBrand rfl rfl rfl ⟨rfl, bd_X6isBrand⟩ ⟨Nat.le_of_ble_eq_true rfl, Nat.le_of_ble_eq_true rfl⟩) (bPV hk (va_recv hk.1 hP (ci := 6) (q0 := 0) rfl (wM_0 _ _ _))) rfl rfl hl.1 rfl (lv_room (Nat.le_of_ble_eq_true rfl)) dX6_takeBack_15 ⟨Nat.zero_le _, Nat.zero_le _⟩) hS (fun locs hS => ?_)
    refine lv_if_ne (tgt := 27) hx hb dX6_takeBack_18 (by decide) (fun c_5 => ?_) (fun c_5 => ?_)
    · have hm_6 : mB a2 := mB_is hI_1 c_5
      refine lv_iload_n hx hb dX6_takeBack_27 rfl (lv_at hl 3 rfl) ?_
      refine lv_iconst (v := 1) hx hb dX6_takeBack_28 (by decide) ?_
      refine lv_sipush (v := 500) hx hb dX6_takeBack_29 (by decide) ?_
      refine bcall_Ri (va_runS (As := [.int a3, .int 1, .int 500]) (rest := []) ⟨hx, hb, hml, hown, hts⟩ (C6_in l D cI q _ a3 1 500) (va_cwS 3 hts gX6_takeBack_X6_in rfl rfl rfl bd_X6in ⟨Nat.le_of_ble_eq_true rfl, Nat.le_of_ble_eq_true rfl⟩) (bPS hk) rfl rfl hl.1 rfl (lv_room (Nat.le_of_ble_eq_true rfl)) dX6_takeBack_32 ⟨Nat.zero_le _, Nat.zero_le _⟩) hS (fun locs hS => ?_)
      refine lv_if_ne (tgt := 44) hx hb dX6_takeBack_35 (by decide) (fun c_7 => ?_) (fun c_7 => ?_)
      · refine lv_aload_n hx hb dX6_takeBack_44 rfl (lv_at hl 0 rfl) ?_
        refine lv_iload_n hx hb dX6_takeBack_45 rfl (lv_at hl 1 rfl) ?_
        refine lv_iload_n hx hb dX6_takeBack_46 rfl (lv_at hl 2 rfl) ?_
        refine lv_iload_n hx hb dX6_takeBack_47 rfl (lv_at hl 3 rfl) ?_
        refine bcall_Ri (va_runV (As := [.int a1, .int a2, .int a3]) (rest := []) ⟨hx, hb, hml, hown, hts⟩ (C6_againstTakeBack l D cI q _ _ hP hI_1 a1 a2 a3 hm_4 hm_6) (cwV 3 hts gX6_takeBack_X6_againstTakeBack rfl rfl rfl ⟨rfl, bd_X6againstTakeBack⟩ ⟨Nat.le_of_ble_eq_true rfl, Nat.le_of_ble_eq_true rfl⟩) (bPV hk (va_recv hk.1 hP (ci := 6) (q0 := 0) rfl (wM_0 _ _ _))) rfl rfl hl.1 rfl (lv_room (Nat.le_of_ble_eq_true rfl)) dX6_takeBack_48 ⟨Nat.zero_le _, Nat.zero_le _⟩) hS (fun locs hS => ?_)
        refine lv_if_le (tgt := 60) hx hb dX6_takeBack_51 (by decide) (fun c_8 => ?_) (fun c_8 => ?_)
        · refine lv_aload_n hx hb dX6_takeBack_60 rfl (lv_at hl 0 rfl) ?_
          refine bcall_Wv (va_runV (As := []) (rest := []) ⟨hx, hb, hml, hown, hts⟩ (C6_save l D cI q _ _ hq hP hI_1 ) (cwV 0 hts gX6_takeBack_X6_save rfl rfl rfl ⟨rfl, bd_X6save⟩ ⟨Nat.le_of_ble_eq_true rfl, Nat.le_of_ble_eq_true rfl⟩) (bPV hk (va_recv hk.1 hP (ci := 6) (q0 := 0) rfl (wM_0 _ _ _))) rfl rfl hl.1 rfl (lv_room (Nat.le_of_ble_eq_true rfl)) dX6_takeBack_61 ⟨Nat.zero_le _, Nat.zero_le _⟩) hS (fun H locs hP hI_9 hS => ?_)
          refine lv_aload_n hx hb dX6_takeBack_64 rfl (lv_at hl 0 rfl) ?_
          refine lv_iload_n hx hb dX6_takeBack_65 rfl (lv_at hl 1 rfl) ?_
          refine lv_iload_n hx hb dX6_takeBack_66 rfl (lv_at hl 2 rfl) ?_
          refine lv_iload_n hx hb dX6_takeBack_67 rfl (lv_at hl 3 rfl) ?_
          refine bcall_Wi (va_runV (As := [.int a1, .int a2, .int a3]) (rest := []) ⟨hx, hb, hml, hown, hts⟩ (C6_takesBack l D cI q _ _ hq hP hI_9 a1 a2 a3 hm_4 hm_6) (cwV 3 hts gX6_takeBack_X6_takesBack rfl rfl rfl ⟨rfl, bd_X6takesBack⟩ ⟨Nat.le_of_ble_eq_true rfl, Nat.le_of_ble_eq_true rfl⟩) (bPV hk (va_recv hk.1 hP (ci := 6) (q0 := 0) rfl (wM_0 _ _ _))) rfl rfl hl.1 rfl (lv_room (Nat.le_of_ble_eq_true rfl)) dX6_takeBack_68 ⟨Nat.zero_le _, Nat.zero_le _⟩) hS (fun H locs hP hI_10 hS => ?_)
          exact bret_Wi hx hb hr hP hI_10 hS hlocks dX6_takeBack_71 (by rw [← hF, F6_takeBack, if_neg c_2, if_neg c_5, if_neg c_7, if_pos c_8])
        · refine lv_aload_n hx hb dX6_takeBack_54 rfl (lv_at hl 0 rfl) ?_
          refine lv_iconst (v := 3) hx hb dX6_takeBack_55 (by decide) ?_
          refine bcall_Wi (va_runV (As := [.int 3]) (rest := []) ⟨hx, hb, hml, hown, hts⟩ (C6_fails l D cI q _ _ hq hP hI_1 3) (cwV 1 hts gX6_takeBack_X6_fails rfl rfl rfl ⟨rfl, bd_X6fails⟩ ⟨Nat.le_of_ble_eq_true rfl, Nat.le_of_ble_eq_true rfl⟩) (bPV hk (va_recv hk.1 hP (ci := 6) (q0 := 0) rfl (wM_0 _ _ _))) rfl rfl hl.1 rfl (lv_room (Nat.le_of_ble_eq_true rfl)) dX6_takeBack_56 ⟨Nat.zero_le _, Nat.zero_le _⟩) hS (fun H locs hP hI_11 hS => ?_)
          exact bret_Wi hx hb hr hP hI_11 hS hlocks dX6_takeBack_59 (by rw [← hF, F6_takeBack, if_neg c_2, if_neg c_5, if_neg c_7, if_neg c_8])
      · refine lv_aload_n hx hb dX6_takeBack_38 rfl (lv_at hl 0 rfl) ?_
        refine lv_iconst (v := 2) hx hb dX6_takeBack_39 (by decide) ?_
        refine bcall_Wi (va_runV (As := [.int 2]) (rest := []) ⟨hx, hb, hml, hown, hts⟩ (C6_fails l D cI q _ _ hq hP hI_1 2) (cwV 1 hts gX6_takeBack_X6_fails rfl rfl rfl ⟨rfl, bd_X6fails⟩ ⟨Nat.le_of_ble_eq_true rfl, Nat.le_of_ble_eq_true rfl⟩) (bPV hk (va_recv hk.1 hP (ci := 6) (q0 := 0) rfl (wM_0 _ _ _))) rfl rfl hl.1 rfl (lv_room (Nat.le_of_ble_eq_true rfl)) dX6_takeBack_40 ⟨Nat.zero_le _, Nat.zero_le _⟩) hS (fun H locs hP hI_12 hS => ?_)
        exact bret_Wi hx hb hr hP hI_12 hS hlocks dX6_takeBack_43 (by rw [← hF, F6_takeBack, if_neg c_2, if_neg c_5, if_pos c_7])
    · refine lv_aload_n hx hb dX6_takeBack_21 rfl (lv_at hl 0 rfl) ?_
      refine lv_iconst (v := 1) hx hb dX6_takeBack_22 (by decide) ?_
      refine bcall_Wi (va_runV (As := [.int 1]) (rest := []) ⟨hx, hb, hml, hown, hts⟩ (C6_fails l D cI q _ _ hq hP hI_1 1) (cwV 1 hts gX6_takeBack_X6_fails rfl rfl rfl ⟨rfl, bd_X6fails⟩ ⟨Nat.le_of_ble_eq_true rfl, Nat.le_of_ble_eq_true rfl⟩) (bPV hk (va_recv hk.1 hP (ci := 6) (q0 := 0) rfl (wM_0 _ _ _))) rfl rfl hl.1 rfl (lv_room (Nat.le_of_ble_eq_true rfl)) dX6_takeBack_23 ⟨Nat.zero_le _, Nat.zero_le _⟩) hS (fun H locs hP hI_13 hS => ?_)
      exact bret_Wi hx hb hr hP hI_13 hS hlocks dX6_takeBack_26 (by rw [← hF, F6_takeBack, if_neg c_2, if_pos c_5])
def F6_breaks (u : bU) (a1 : Int32) (a2 : Int32) (a3 : Int32) : Int32 × bU := (if (F6_isShop (bput u 6 2 0) a1) = 0 then ((F6_fails (bput u 6 2 0) 1).1, (F6_fails (bput u 6 2 0) 1).2) else (if (F6_isBrand (bput u 6 2 0) a2) = 0 then ((F6_fails (bput u 6 2 0) 1).1, (F6_fails (bput u 6 2 0) 1).2) else (if (F6_in a3 1 500) = 0 then ((F6_fails (bput u 6 2 0) 2).1, (F6_fails (bput u 6 2 0) 2).2) else (if (F6_againstBreak (bput u 6 2 0) a1 a2 a3) ≤ 0 then ((F6_breaksThem (F6_save (bput u 6 2 0)) a1 a2 a3).1, (F6_breaksThem (F6_save (bput u 6 2 0)) a1 a2 a3).2) else ((F6_fails (bput u 6 2 0) 3).1, (F6_fails (bput u 6 2 0) 3).2)))))
set_option maxHeartbeats 4000000 in
set_option maxRecDepth 100000 in
theorem C6_breaks (l : Launch) (D : va_G) (cI : ClassId) (q : Nat → Nat) (u : bU) (H0 : Heap) (hq : bInj 7 q) (hP : va_P D vwCl (wM cI q u) H0) (hI : mInv u) (a1 : Int32) (a2 : Int32) (a3 : Int32) : Met l yX6_breaks wsX6_breaks ({ frames := 4, cells := 0, slots := 0, locals := 89 }) (bP D [(cI, .int)] H0 [.ref (q 0), .int a1, .int a2, .int a3]) (bWi D (wM cI q) mInv (bA 7 q H0.size) (F6_breaks u a1 a2 a3)) 0 0 (bA 7 q H0.size) := by
  refine Met.ofW (cc := cX6_breaks) (maxL := 4) (ret := (some .int)) (by decide) rfl ?_
  intro p e s m args below meth c s₁ B hml hv
  obtain ⟨rfl, hH, hk⟩ := hv
  subst hH
  have hx := B.exec
  have hb := B.bytes
  have hr := B.returns
  have hts := atoms_spec (ws := wsX6_breaks) B.pre
  have hown : s.vm.findClass RX6 = some m.cls := findClass_of_methodNamed B.named
  have hlocks := B.notSynchronized
  have hNB := mNB hI
  have hNS := mNS hI
  have hI0 := hI
  have iX6 : ∀ w ∈ wsX60, w ∈ wsX6_breaks := by decide +kernel
  have hS : va_S (bA 7 q s.heap.size) s.heap s.heap [] := va_S.rf
  have hl := lv_entry ([.ref (q 0), .int a1, .int a2, .int a3]) (n := 4) (Nat.le_of_ble_eq_true rfl)
  rw [lg_entry_eq]
  generalize (lg_sl ([.ref (q 0), .int a1, .int a2, .int a3]) ++ List.replicate (4 - (lg_sl ([.ref (q 0), .int a1, .int a2, .int a3])).length) Slot.unset).toArray = ls at hl ⊢
  have hl : lv_has ls 4 [(0, .ref (q 0)), (1, .int a1), (2, .int a2), (3, .int a3)] := hl
  generalize hF : F6_breaks u a1 a2 a3 = tgt
  refine lv_aload_n hx hb dX6_breaks_0 rfl (lv_at hl 0 rfl) ?_
  refine lv_iconst (v := 0) hx hb dX6_breaks_1 (by decide) ?_
  refine va_put (D := D) (ci := 6) (v := .int 0) (ty := .int) (C := RX6) (T := TX6) (N := 16) hx hb hts iX6 tyX6 tyX6_ok nmX6 hown hk.1 hP (wM_D hq) hS 0 (wM_0 _ _ _) rfl 6 (by decide) (hts (.fieldLink RX6 28 "BottleLoopModel" "thrown" "I") (List.mem_of_getElem? (i := 1) rfl)) (fun _ h9 => h9) rfl (by decide +kernel) rfl rfl (Nat.le_of_ble_eq_true rfl) dX6_breaks_2 (fun H locs hP _ hS => ?_)
  have hP : va_P D vwCl (wM cI q (bput u 6 2 0)) H := pM_f2 hP
  have hI_1 : mInv (bput u 6 2 0) := mInv_sc (k := 2) hI (by decide) (by decide) (by decide)
  refine lv_aload_n hx hb dX6_breaks_5 rfl (lv_at hl 0 rfl) ?_
  refine lv_iload_n hx hb dX6_breaks_6 rfl (lv_at hl 1 rfl) ?_
  refine bcall_Ri (va_runV (As := [.int a1]) (rest := []) ⟨hx, hb, hml, hown, hts⟩ (C6_isShop l D cI q _ _ hP hI_1 a1) (cwV 1 hts gX6_breaks_X6_isShop rfl rfl rfl ⟨rfl, bd_X6isShop⟩ ⟨Nat.le_of_ble_eq_true rfl, Nat.le_of_ble_eq_true rfl⟩) (bPV hk (va_recv hk.1 hP (ci := 6) (q0 := 0) rfl (wM_0 _ _ _))) rfl rfl hl.1 rfl (lv_room (Nat.le_of_ble_eq_true rfl)) dX6_breaks_7 ⟨Nat.zero_le _, Nat.zero_le _⟩) hS (fun locs hS => ?_)
  refine lv_if_eq (tgt := 21) hx hb dX6_breaks_10 (by decide) (fun c_2 => ?_) (fun c_2 => ?_)
  · refine lv_aload_n hx hb dX6_breaks_21 rfl (lv_at hl 0 rfl) ?_
    refine lv_iconst (v := 1) hx hb dX6_breaks_22 (by decide) ?_
    refine bcall_Wi (va_runV (As := [.int 1]) (rest := []) ⟨hx, hb, hml, hown, hts⟩ (C6_fails l D cI q _ _ hq hP hI_1 1) (cwV 1 hts gX6_breaks_X6_fails rfl rfl rfl ⟨rfl, bd_X6fails⟩ ⟨Nat.le_of_ble_eq_true rfl, Nat.le_of_ble_eq_true rfl⟩) (bPV hk (va_recv hk.1 hP (ci := 6) (q0 := 0) rfl (wM_0 _ _ _))) rfl rfl hl.1 rfl (lv_room (Nat.le_of_ble_eq_true rfl)) dX6_breaks_23 ⟨Nat.zero_le _, Nat.zero_le _⟩) hS (fun H locs hP hI_3 hS => ?_)
    exact bret_Wi hx hb hr hP hI_3 hS hlocks dX6_breaks_26 (by rw [← hF, F6_breaks, if_pos c_2])
  · have hm_4 : mS a1 := mS_is hI_1 c_2
    refine lv_aload_n hx hb dX6_breaks_13 rfl (lv_at hl 0 rfl) ?_
    refine lv_iload_n hx hb dX6_breaks_14 rfl (lv_at hl 2 rfl) ?_
    refine bcall_Ri (va_runV (As := [.int a2]) (rest := []) ⟨hx, hb, hml, hown, hts⟩ (C6_isBrand l D cI q _ _ hP hI_1 a2) (cwV 1 hts gX6_breaks_X6_isBrand rfl rfl rfl ⟨rfl, bd_X6isBrand⟩ ⟨Nat.le_of_ble_eq_true rfl, Nat.le_of_ble_eq_true rfl⟩) (bPV hk (va_recv hk.1 hP (ci := 6) (q0 := 0) rfl (wM_0 _ _ _))) rfl rfl hl.1 rfl (lv_room (Nat.le_of_ble_eq_true rfl)) dX6_breaks_15 ⟨Nat.zero_le _, Nat.zero_le _⟩) hS (fun locs hS => ?_)
    refine lv_if_ne (tgt := 27) hx hb dX6_breaks_18 (by decide) (fun c_5 => ?_) (fun c_5 => ?_)
    · have hm_6 : mB a2 := mB_is hI_1 c_5
      refine lv_iload_n hx hb dX6_breaks_27 rfl (lv_at hl 3 rfl) ?_
      refine lv_iconst (v := 1) hx hb dX6_breaks_28 (by decide) ?_
      refine lv_sipush (v := 500) hx hb dX6_breaks_29 (by decide) ?_
      refine bcall_Ri (va_runS (As := [.int a3, .int 1, .int 500]) (rest := []) ⟨hx, hb, hml, hown, hts⟩ (C6_in l D cI q _ a3 1 500) (va_cwS 3 hts gX6_breaks_X6_in rfl rfl rfl bd_X6in ⟨Nat.le_of_ble_eq_true rfl, Nat.le_of_ble_eq_true rfl⟩) (bPS hk) rfl rfl hl.1 rfl (lv_room (Nat.le_of_ble_eq_true rfl)) dX6_breaks_32 ⟨Nat.zero_le _, Nat.zero_le _⟩) hS (fun locs hS => ?_)
      refine lv_if_ne (tgt := 44) hx hb dX6_breaks_35 (by decide) (fun c_7 => ?_) (fun c_7 => ?_)
      · refine lv_aload_n hx hb dX6_breaks_44 rfl (lv_at hl 0 rfl) ?_
        refine lv_iload_n hx hb dX6_breaks_45 rfl (lv_at hl 1 rfl) ?_
        refine lv_iload_n hx hb dX6_breaks_46 rfl (lv_at hl 2 rfl) ?_
        refine lv_iload_n hx hb dX6_breaks_47 rfl (lv_at hl 3 rfl) ?_
        refine bcall_Ri (va_runV (As := [.int a1, .int a2, .int a3]) (rest := []) ⟨hx, hb, hml, hown, hts⟩ (C6_againstBreak l D cI q _ _ hP hI_1 a1 a2 a3 hm_4 hm_6) (cwV 3 hts gX6_breaks_X6_againstBreak rfl rfl rfl ⟨rfl, bd_X6againstBreak⟩ ⟨Nat.le_of_ble_eq_true rfl, Nat.le_of_ble_eq_true rfl⟩) (bPV hk (va_recv hk.1 hP (ci := 6) (q0 := 0) rfl (wM_0 _ _ _))) rfl rfl hl.1 rfl (lv_room (Nat.le_of_ble_eq_true rfl)) dX6_breaks_48 ⟨Nat.zero_le _, Nat.zero_le _⟩) hS (fun locs hS => ?_)
        refine lv_if_le (tgt := 60) hx hb dX6_breaks_51 (by decide) (fun c_8 => ?_) (fun c_8 => ?_)
        · refine lv_aload_n hx hb dX6_breaks_60 rfl (lv_at hl 0 rfl) ?_
          refine bcall_Wv (va_runV (As := []) (rest := []) ⟨hx, hb, hml, hown, hts⟩ (C6_save l D cI q _ _ hq hP hI_1 ) (cwV 0 hts gX6_breaks_X6_save rfl rfl rfl ⟨rfl, bd_X6save⟩ ⟨Nat.le_of_ble_eq_true rfl, Nat.le_of_ble_eq_true rfl⟩) (bPV hk (va_recv hk.1 hP (ci := 6) (q0 := 0) rfl (wM_0 _ _ _))) rfl rfl hl.1 rfl (lv_room (Nat.le_of_ble_eq_true rfl)) dX6_breaks_61 ⟨Nat.zero_le _, Nat.zero_le _⟩) hS (fun H locs hP hI_9 hS => ?_)
          refine lv_aload_n hx hb dX6_breaks_64 rfl (lv_at hl 0 rfl) ?_
          refine lv_iload_n hx hb dX6_breaks_65 rfl (lv_at hl 1 rfl) ?_
          refine lv_iload_n hx hb dX6_breaks_66 rfl (lv_at hl 2 rfl) ?_
          refine lv_iload_n hx hb dX6_breaks_67 rfl (lv_at hl 3 rfl) ?_
          refine bcall_Wi (va_runV (As := [.int a1, .int a2, .int a3]) (rest := []) ⟨hx, hb, hml, hown, hts⟩ (C6_breaksThem l D cI q _ _ hq hP hI_9 a1 a2 a3 hm_4 hm_6) (cwV 3 hts gX6_breaks_X6_breaksThem rfl rfl rfl ⟨rfl, bd_X6breaksThem⟩ ⟨Nat.le_of_ble_eq_true rfl, Nat.le_of_ble_eq_true rfl⟩) (bPV hk (va_recv hk.1 hP (ci := 6) (q0 := 0) rfl (wM_0 _ _ _))) rfl rfl hl.1 rfl (lv_room (Nat.le_of_ble_eq_true rfl)) dX6_breaks_68 ⟨Nat.zero_le _, Nat.zero_le _⟩) hS (fun H locs hP hI_10 hS => ?_)
          exact bret_Wi hx hb hr hP hI_10 hS hlocks dX6_breaks_71 (by rw [← hF, F6_breaks, if_neg c_2, if_neg c_5, if_neg c_7, if_pos c_8])
        · refine lv_aload_n hx hb dX6_breaks_54 rfl (lv_at hl 0 rfl) ?_
          refine lv_iconst (v := 3) hx hb dX6_breaks_55 (by decide) ?_
          refine bcall_Wi (va_runV (As := [.int 3]) (rest := []) ⟨hx, hb, hml, hown, hts⟩ (C6_fails l D cI q _ _ hq hP hI_1 3) (cwV 1 hts gX6_breaks_X6_fails rfl rfl rfl ⟨rfl, bd_X6fails⟩ ⟨Nat.le_of_ble_eq_true rfl, Nat.le_of_ble_eq_true rfl⟩) (bPV hk (va_recv hk.1 hP (ci := 6) (q0 := 0) rfl (wM_0 _ _ _))) rfl rfl hl.1 rfl (lv_room (Nat.le_of_ble_eq_true rfl)) dX6_breaks_56 ⟨Nat.zero_le _, Nat.zero_le _⟩) hS (fun H locs hP hI_11 hS => ?_)
          exact bret_Wi hx hb hr hP hI_11 hS hlocks dX6_breaks_59 (by rw [← hF, F6_breaks, if_neg c_2, if_neg c_5, if_neg c_7, if_neg c_8])
      · refine lv_aload_n hx hb dX6_breaks_38 rfl (lv_at hl 0 rfl) ?_
        refine lv_iconst (v := 2) hx hb dX6_breaks_39 (by decide) ?_
        refine bcall_Wi (va_runV (As := [.int 2]) (rest := []) ⟨hx, hb, hml, hown, hts⟩ (C6_fails l D cI q _ _ hq hP hI_1 2) (cwV 1 hts gX6_breaks_X6_fails rfl rfl rfl ⟨rfl, bd_X6fails⟩ ⟨Nat.le_of_ble_eq_true rfl, Nat.le_of_ble_eq_true rfl⟩) (bPV hk (va_recv hk.1 hP (ci := 6) (q0 := 0) rfl (wM_0 _ _ _))) rfl rfl hl.1 rfl (lv_room (Nat.le_of_ble_eq_true rfl)) dX6_breaks_40 ⟨Nat.zero_le _, Nat.zero_le _⟩) hS (fun H locs hP hI_12 hS => ?_)
        exact bret_Wi hx hb hr hP hI_12 hS hlocks dX6_breaks_43 (by rw [← hF, F6_breaks, if_neg c_2, if_neg c_5, if_pos c_7])
    · refine lv_aload_n hx hb dX6_breaks_21 rfl (lv_at hl 0 rfl) ?_
      refine lv_iconst (v := 1) hx hb dX6_breaks_22 (by decide) ?_
      refine bcall_Wi (va_runV (As := [.int 1]) (rest := []) ⟨hx, hb, hml, hown, hts⟩ (C6_fails l D cI q _ _ hq hP hI_1 1) (cwV 1 hts gX6_breaks_X6_fails rfl rfl rfl ⟨rfl, bd_X6fails⟩ ⟨Nat.le_of_ble_eq_true rfl, Nat.le_of_ble_eq_true rfl⟩) (bPV hk (va_recv hk.1 hP (ci := 6) (q0 := 0) rfl (wM_0 _ _ _))) rfl rfl hl.1 rfl (lv_room (Nat.le_of_ble_eq_true rfl)) dX6_breaks_23 ⟨Nat.zero_le _, Nat.zero_le _⟩) hS (fun H locs hP hI_13 hS => ?_)
      exact bret_Wi hx hb hr hP hI_13 hS hlocks dX6_breaks_26 (by rw [← hF, F6_breaks, if_neg c_2, if_pos c_5])
def F6_lose (u : bU) (a1 : Int32) (a2 : Int32) : Int32 × bU := (if (F6_isBrand (bput u 6 2 0) a1) = 0 then ((F6_fails (bput u 6 2 0) 1).1, (F6_fails (bput u 6 2 0) 1).2) else (if (F6_in a2 1 5000) = 0 then ((F6_fails (bput u 6 2 0) 2).1, (F6_fails (bput u 6 2 0) 2).2) else (if a2 ≤ (F6_of (bput u 6 2 0) a1 3) then ((F6_of (badd (badd (bsub (F6_save (bput u 6 2 0)) 0 (F6_brandAt a1 3).toNatClampNeg a2) 0 (F6_brandAt a1 6).toNatClampNeg a2) 0 4 (a2 * (F6_deposit (badd (bsub (F6_save (bput u 6 2 0)) 0 (F6_brandAt a1 3).toNatClampNeg a2) 0 (F6_brandAt a1 6).toNatClampNeg a2) a1))) a1 3), (badd (badd (bsub (F6_save (bput u 6 2 0)) 0 (F6_brandAt a1 3).toNatClampNeg a2) 0 (F6_brandAt a1 6).toNatClampNeg a2) 0 4 (a2 * (F6_deposit (badd (bsub (F6_save (bput u 6 2 0)) 0 (F6_brandAt a1 3).toNatClampNeg a2) 0 (F6_brandAt a1 6).toNatClampNeg a2) a1)))) else ((F6_fails (bput u 6 2 0) 3).1, (F6_fails (bput u 6 2 0) 3).2))))
set_option maxHeartbeats 4000000 in
set_option maxRecDepth 100000 in
theorem C6_lose (l : Launch) (D : va_G) (cI : ClassId) (q : Nat → Nat) (u : bU) (H0 : Heap) (hq : bInj 7 q) (hP : va_P D vwCl (wM cI q u) H0) (hI : mInv u) (a1 : Int32) (a2 : Int32) : Met l yX6_lose wsX6_lose ({ frames := 3, cells := 0, slots := 0, locals := 64 }) (bP D [(cI, .int)] H0 [.ref (q 0), .int a1, .int a2]) (bWi D (wM cI q) mInv (bA 7 q H0.size) (F6_lose u a1 a2)) 0 0 (bA 7 q H0.size) := by
  refine Met.ofW (cc := cX6_lose) (maxL := 3) (ret := (some .int)) (by decide) rfl ?_
  intro p e s m args below meth c s₁ B hml hv
  obtain ⟨rfl, hH, hk⟩ := hv
  subst hH
  have hx := B.exec
  have hb := B.bytes
  have hr := B.returns
  have hts := atoms_spec (ws := wsX6_lose) B.pre
  have hown : s.vm.findClass RX6 = some m.cls := findClass_of_methodNamed B.named
  have hlocks := B.notSynchronized
  have hNB := mNB hI
  have hNS := mNS hI
  have hI0 := hI
  have iX6 : ∀ w ∈ wsX60, w ∈ wsX6_lose := by decide +kernel
  have hS : va_S (bA 7 q s.heap.size) s.heap s.heap [] := va_S.rf
  have hl := lv_entry ([.ref (q 0), .int a1, .int a2]) (n := 3) (Nat.le_of_ble_eq_true rfl)
  rw [lg_entry_eq]
  generalize (lg_sl ([.ref (q 0), .int a1, .int a2]) ++ List.replicate (3 - (lg_sl ([.ref (q 0), .int a1, .int a2])).length) Slot.unset).toArray = ls at hl ⊢
  have hl : lv_has ls 3 [(0, .ref (q 0)), (1, .int a1), (2, .int a2)] := hl
  generalize hF : F6_lose u a1 a2 = tgt
  refine lv_aload_n hx hb dX6_lose_0 rfl (lv_at hl 0 rfl) ?_
  refine lv_iconst (v := 0) hx hb dX6_lose_1 (by decide) ?_
  refine va_put (D := D) (ci := 6) (v := .int 0) (ty := .int) (C := RX6) (T := TX6) (N := 16) hx hb hts iX6 tyX6 tyX6_ok nmX6 hown hk.1 hP (wM_D hq) hS 0 (wM_0 _ _ _) rfl 6 (by decide) (hts (.fieldLink RX6 28 "BottleLoopModel" "thrown" "I") (List.mem_of_getElem? (i := 1) rfl)) (fun _ h9 => h9) rfl (by decide +kernel) rfl rfl (Nat.le_of_ble_eq_true rfl) dX6_lose_2 (fun H locs hP _ hS => ?_)
  have hP : va_P D vwCl (wM cI q (bput u 6 2 0)) H := pM_f2 hP
  have hI_1 : mInv (bput u 6 2 0) := mInv_sc (k := 2) hI (by decide) (by decide) (by decide)
  refine lv_aload_n hx hb dX6_lose_5 rfl (lv_at hl 0 rfl) ?_
  refine lv_iload_n hx hb dX6_lose_6 rfl (lv_at hl 1 rfl) ?_
  refine bcall_Ri (va_runV (As := [.int a1]) (rest := []) ⟨hx, hb, hml, hown, hts⟩ (C6_isBrand l D cI q _ _ hP hI_1 a1) (cwV 1 hts gX6_lose_X6_isBrand rfl rfl rfl ⟨rfl, bd_X6isBrand⟩ ⟨Nat.le_of_ble_eq_true rfl, Nat.le_of_ble_eq_true rfl⟩) (bPV hk (va_recv hk.1 hP (ci := 6) (q0 := 0) rfl (wM_0 _ _ _))) rfl rfl hl.1 rfl (lv_room (Nat.le_of_ble_eq_true rfl)) dX6_lose_7 ⟨Nat.zero_le _, Nat.zero_le _⟩) hS (fun locs hS => ?_)
  refine lv_if_ne (tgt := 19) hx hb dX6_lose_10 (by decide) (fun c_2 => ?_) (fun c_2 => ?_)
  · have hm_3 : mB a1 := mB_is hI_1 c_2
    refine lv_iload_n hx hb dX6_lose_19 rfl (lv_at hl 2 rfl) ?_
    refine lv_iconst (v := 1) hx hb dX6_lose_20 (by decide) ?_
    refine lv_sipush (v := 5000) hx hb dX6_lose_21 (by decide) ?_
    refine bcall_Ri (va_runS (As := [.int a2, .int 1, .int 5000]) (rest := []) ⟨hx, hb, hml, hown, hts⟩ (C6_in l D cI q _ a2 1 5000) (va_cwS 3 hts gX6_lose_X6_in rfl rfl rfl bd_X6in ⟨Nat.le_of_ble_eq_true rfl, Nat.le_of_ble_eq_true rfl⟩) (bPS hk) rfl rfl hl.1 rfl (lv_room (Nat.le_of_ble_eq_true rfl)) dX6_lose_24 ⟨Nat.zero_le _, Nat.zero_le _⟩) hS (fun locs hS => ?_)
    refine lv_if_ne (tgt := 36) hx hb dX6_lose_27 (by decide) (fun c_4 => ?_) (fun c_4 => ?_)
    · refine lv_aload_n hx hb dX6_lose_36 rfl (lv_at hl 0 rfl) ?_
      refine lv_iload_n hx hb dX6_lose_37 rfl (lv_at hl 1 rfl) ?_
      refine lv_iconst (v := 3) hx hb dX6_lose_38 (by decide) ?_
      refine bcall_Ri (va_runV (As := [.int a1, .int 3]) (rest := []) ⟨hx, hb, hml, hown, hts⟩ (C6_of l D cI q _ _ hP hI_1 a1 3 (mXB (w := 3) hm_3 (by decide))) (cwV 2 hts gX6_lose_X6_of rfl rfl rfl ⟨rfl, bd_X6of⟩ ⟨Nat.le_of_ble_eq_true rfl, Nat.le_of_ble_eq_true rfl⟩) (bPV hk (va_recv hk.1 hP (ci := 6) (q0 := 0) rfl (wM_0 _ _ _))) rfl rfl hl.1 rfl (lv_room (Nat.le_of_ble_eq_true rfl)) dX6_lose_39 ⟨Nat.zero_le _, Nat.zero_le _⟩) hS (fun locs hS => ?_)
      refine lv_iload_n hx hb dX6_lose_42 rfl (lv_at hl 2 rfl) ?_
      refine lv_icmp_ge (tgt := 52) hx hb dX6_lose_43 (by decide) (fun c_5 => ?_) (fun c_5 => ?_)
      · refine lv_aload_n hx hb dX6_lose_52 rfl (lv_at hl 0 rfl) ?_
        refine bcall_Wv (va_runV (As := []) (rest := []) ⟨hx, hb, hml, hown, hts⟩ (C6_save l D cI q _ _ hq hP hI_1 ) (cwV 0 hts gX6_lose_X6_save rfl rfl rfl ⟨rfl, bd_X6save⟩ ⟨Nat.le_of_ble_eq_true rfl, Nat.le_of_ble_eq_true rfl⟩) (bPV hk (va_recv hk.1 hP (ci := 6) (q0 := 0) rfl (wM_0 _ _ _))) rfl rfl hl.1 rfl (lv_room (Nat.le_of_ble_eq_true rfl)) dX6_lose_53 ⟨Nat.zero_le _, Nat.zero_le _⟩) hS (fun H locs hP hI_6 hS => ?_)
        refine lv_aload_n hx hb dX6_lose_56 rfl (lv_at hl 0 rfl) ?_
        refine va_get (D := D) (ci := 6) (C := RX6) (T := TX6) (N := 16) hx hb hts iX6 hown hk.1 hP 0 (wM_0 _ _ _) rfl 0 (by decide) (hts (.fieldLink RX6 7 "BottleLoopModel" "v" "[I") (List.mem_of_getElem? (i := 2) rfl)) (fun _ h9 => h9) rfl dX6_lose_57 ?_
        refine lv_iload_n hx hb dX6_lose_60 rfl (lv_at hl 1 rfl) ?_
        refine lv_iconst (v := 3) hx hb dX6_lose_61 (by decide) ?_
        refine bcall_Ri (va_runS (As := [.int a1, .int 3]) (rest := [.ref (q 1)]) ⟨hx, hb, hml, hown, hts⟩ (C6_brandAt l D cI q _ a1 3) (va_cwS 2 hts gX6_lose_X6_brandAt rfl rfl rfl bd_X6brandAt ⟨Nat.le_of_ble_eq_true rfl, Nat.le_of_ble_eq_true rfl⟩) (bPS hk) rfl rfl hl.1 rfl (lv_room (Nat.le_of_ble_eq_true rfl)) dX6_lose_62 ⟨Nat.zero_le _, Nat.zero_le _⟩) hS (fun locs hS => ?_)
        refine lv_dup2_11 hx hb dX6_lose_65 rfl rfl ?_
        refine va_iald hx hb hk.1 hP 1 0 (wM_1 _ _ _) rfl (mXB (w := 3) hm_3 (by decide)) dX6_lose_66 ?_
        refine lv_iload_n hx hb dX6_lose_67 rfl (lv_at hl 2 rfl) ?_
        refine lv_isub hx hb dX6_lose_68 ?_
        refine va_iast hx hb hk.1 hP (wM_D hq) hS 1 0 (wM_1 _ _ _) rfl (mXB (w := 3) hm_3 (by decide)) dX6_lose_69 (fun H locs hP _ hS => ?_)
        have hP : va_P D vwCl (wM cI q (bsub (F6_save (bput u 6 2 0)) 0 (F6_brandAt a1 3).toNatClampNeg a2)) H := pM_0s hP
        have hI_7 : mInv (bsub (F6_save (bput u 6 2 0)) 0 (F6_brandAt a1 3).toNatClampNeg a2) := mInv_B (w := 3) hI_6 hm_3 (by decide) (by decide)
        refine lv_aload_n hx hb dX6_lose_70 rfl (lv_at hl 0 rfl) ?_
        refine va_get (D := D) (ci := 6) (C := RX6) (T := TX6) (N := 16) hx hb hts iX6 hown hk.1 hP 0 (wM_0 _ _ _) rfl 0 (by decide) (hts (.fieldLink RX6 7 "BottleLoopModel" "v" "[I") (List.mem_of_getElem? (i := 2) rfl)) (fun _ h9 => h9) rfl dX6_lose_71 ?_
        refine lv_iload_n hx hb dX6_lose_74 rfl (lv_at hl 1 rfl) ?_
        refine lv_bipush (v := 6) hx hb dX6_lose_75 (by decide) ?_
        refine bcall_Ri (va_runS (As := [.int a1, .int 6]) (rest := [.ref (q 1)]) ⟨hx, hb, hml, hown, hts⟩ (C6_brandAt l D cI q _ a1 6) (va_cwS 2 hts gX6_lose_X6_brandAt rfl rfl rfl bd_X6brandAt ⟨Nat.le_of_ble_eq_true rfl, Nat.le_of_ble_eq_true rfl⟩) (bPS hk) rfl rfl hl.1 rfl (lv_room (Nat.le_of_ble_eq_true rfl)) dX6_lose_77 ⟨Nat.zero_le _, Nat.zero_le _⟩) hS (fun locs hS => ?_)
        refine lv_dup2_11 hx hb dX6_lose_80 rfl rfl ?_
        refine va_iald hx hb hk.1 hP 1 0 (wM_1 _ _ _) rfl (mXB (w := 6) hm_3 (by decide)) dX6_lose_81 ?_
        refine lv_iload_n hx hb dX6_lose_82 rfl (lv_at hl 2 rfl) ?_
        refine lv_iadd hx hb dX6_lose_83 ?_
        refine va_iast hx hb hk.1 hP (wM_D hq) hS 1 0 (wM_1 _ _ _) rfl (mXB (w := 6) hm_3 (by decide)) dX6_lose_84 (fun H locs hP _ hS => ?_)
        have hP : va_P D vwCl (wM cI q (badd (bsub (F6_save (bput u 6 2 0)) 0 (F6_brandAt a1 3).toNatClampNeg a2) 0 (F6_brandAt a1 6).toNatClampNeg a2)) H := pM_0a hP
        have hI_8 : mInv (badd (bsub (F6_save (bput u 6 2 0)) 0 (F6_brandAt a1 3).toNatClampNeg a2) 0 (F6_brandAt a1 6).toNatClampNeg a2) := mInv_B (w := 6) hI_7 hm_3 (by decide) (by decide)
        refine lv_aload_n hx hb dX6_lose_85 rfl (lv_at hl 0 rfl) ?_
        refine va_get (D := D) (ci := 6) (C := RX6) (T := TX6) (N := 16) hx hb hts iX6 hown hk.1 hP 0 (wM_0 _ _ _) rfl 0 (by decide) (hts (.fieldLink RX6 7 "BottleLoopModel" "v" "[I") (List.mem_of_getElem? (i := 2) rfl)) (fun _ h9 => h9) rfl dX6_lose_86 ?_
        refine lv_iconst (v := 4) hx hb dX6_lose_89 (by decide) ?_
        refine lv_dup2_11 hx hb dX6_lose_90 rfl rfl ?_
        refine va_iald hx hb hk.1 hP 1 0 (wM_1 _ _ _) rfl (vp_in_nI (n := 4) (by decide) (by decide)) dX6_lose_91 ?_
        refine lv_topi (fun z9 hz9 => ?_)
        obtain rfl : z9 = ((badd (bsub (F6_save (bput u 6 2 0)) 0 (F6_brandAt a1 3).toNatClampNeg a2) 0 (F6_brandAt a1 6).toNatClampNeg a2) 0 4) := hz9.trans rfl
        refine lv_iload_n hx hb dX6_lose_92 rfl (lv_at hl 2 rfl) ?_
        refine lv_aload_n hx hb dX6_lose_93 rfl (lv_at hl 0 rfl) ?_
        refine lv_iload_n hx hb dX6_lose_94 rfl (lv_at hl 1 rfl) ?_
        refine bcall_Ri (va_runV (As := [.int a1]) (rest := [.int a2, .int ((badd (bsub (F6_save (bput u 6 2 0)) 0 (F6_brandAt a1 3).toNatClampNeg a2) 0 (F6_brandAt a1 6).toNatClampNeg a2) 0 4), .int 4, .ref (q 1)]) ⟨hx, hb, hml, hown, hts⟩ (C6_deposit l D cI q _ _ hP hI_8 a1 hm_3) (cwV 1 hts gX6_lose_X6_deposit rfl rfl rfl ⟨rfl, bd_X6deposit⟩ ⟨Nat.le_of_ble_eq_true rfl, Nat.le_of_ble_eq_true rfl⟩) (bPV hk (va_recv hk.1 hP (ci := 6) (q0 := 0) rfl (wM_0 _ _ _))) rfl rfl hl.1 rfl (lv_room (Nat.le_of_ble_eq_true rfl)) dX6_lose_95 ⟨Nat.zero_le _, Nat.zero_le _⟩) hS (fun locs hS => ?_)
        refine lv_imul hx hb dX6_lose_98 ?_
        refine lv_iadd hx hb dX6_lose_99 ?_
        refine va_iast hx hb hk.1 hP (wM_D hq) hS 1 0 (wM_1 _ _ _) rfl (vp_in_nI (n := 4) (by decide) (by decide)) dX6_lose_100 (fun H locs hP _ hS => ?_)
        have hP : va_P D vwCl (wM cI q (badd (badd (bsub (F6_save (bput u 6 2 0)) 0 (F6_brandAt a1 3).toNatClampNeg a2) 0 (F6_brandAt a1 6).toNatClampNeg a2) 0 4 (a2 * (F6_deposit (badd (bsub (F6_save (bput u 6 2 0)) 0 (F6_brandAt a1 3).toNatClampNeg a2) 0 (F6_brandAt a1 6).toNatClampNeg a2) a1)))) H := pM_0a hP
        have hI_9 : mInv (badd (badd (bsub (F6_save (bput u 6 2 0)) 0 (F6_brandAt a1 3).toNatClampNeg a2) 0 (F6_brandAt a1 6).toNatClampNeg a2) 0 4 (a2 * (F6_deposit (badd (bsub (F6_save (bput u 6 2 0)) 0 (F6_brandAt a1 3).toNatClampNeg a2) 0 (F6_brandAt a1 6).toNatClampNeg a2) a1))) := mInv_g (k := 4) hI_8 (by decide) (by decide)
        refine lv_aload_n hx hb dX6_lose_101 rfl (lv_at hl 0 rfl) ?_
        refine lv_iload_n hx hb dX6_lose_102 rfl (lv_at hl 1 rfl) ?_
        refine lv_iconst (v := 3) hx hb dX6_lose_103 (by decide) ?_
        refine bcall_Ri (va_runV (As := [.int a1, .int 3]) (rest := []) ⟨hx, hb, hml, hown, hts⟩ (C6_of l D cI q _ _ hP hI_9 a1 3 (mXB (w := 3) hm_3 (by decide))) (cwV 2 hts gX6_lose_X6_of rfl rfl rfl ⟨rfl, bd_X6of⟩ ⟨Nat.le_of_ble_eq_true rfl, Nat.le_of_ble_eq_true rfl⟩) (bPV hk (va_recv hk.1 hP (ci := 6) (q0 := 0) rfl (wM_0 _ _ _))) rfl rfl hl.1 rfl (lv_room (Nat.le_of_ble_eq_true rfl)) dX6_lose_104 ⟨Nat.zero_le _, Nat.zero_le _⟩) hS (fun locs hS => ?_)
        exact bret_Wi hx hb hr hP hI_9 hS hlocks dX6_lose_107 (by rw [← hF, F6_lose, if_neg c_2, if_neg c_4, if_pos c_5])
      · refine lv_aload_n hx hb dX6_lose_46 rfl (lv_at hl 0 rfl) ?_
        refine lv_iconst (v := 3) hx hb dX6_lose_47 (by decide) ?_
        refine bcall_Wi (va_runV (As := [.int 3]) (rest := []) ⟨hx, hb, hml, hown, hts⟩ (C6_fails l D cI q _ _ hq hP hI_1 3) (cwV 1 hts gX6_lose_X6_fails rfl rfl rfl ⟨rfl, bd_X6fails⟩ ⟨Nat.le_of_ble_eq_true rfl, Nat.le_of_ble_eq_true rfl⟩) (bPV hk (va_recv hk.1 hP (ci := 6) (q0 := 0) rfl (wM_0 _ _ _))) rfl rfl hl.1 rfl (lv_room (Nat.le_of_ble_eq_true rfl)) dX6_lose_48 ⟨Nat.zero_le _, Nat.zero_le _⟩) hS (fun H locs hP hI_10 hS => ?_)
        exact bret_Wi hx hb hr hP hI_10 hS hlocks dX6_lose_51 (by rw [← hF, F6_lose, if_neg c_2, if_neg c_4, if_neg c_5])
    · refine lv_aload_n hx hb dX6_lose_30 rfl (lv_at hl 0 rfl) ?_
      refine lv_iconst (v := 2) hx hb dX6_lose_31 (by decide) ?_
      refine bcall_Wi (va_runV (As := [.int 2]) (rest := []) ⟨hx, hb, hml, hown, hts⟩ (C6_fails l D cI q _ _ hq hP hI_1 2) (cwV 1 hts gX6_lose_X6_fails rfl rfl rfl ⟨rfl, bd_X6fails⟩ ⟨Nat.le_of_ble_eq_true rfl, Nat.le_of_ble_eq_true rfl⟩) (bPV hk (va_recv hk.1 hP (ci := 6) (q0 := 0) rfl (wM_0 _ _ _))) rfl rfl hl.1 rfl (lv_room (Nat.le_of_ble_eq_true rfl)) dX6_lose_32 ⟨Nat.zero_le _, Nat.zero_le _⟩) hS (fun H locs hP hI_11 hS => ?_)
      exact bret_Wi hx hb hr hP hI_11 hS hlocks dX6_lose_35 (by rw [← hF, F6_lose, if_neg c_2, if_pos c_4])
  · refine lv_aload_n hx hb dX6_lose_13 rfl (lv_at hl 0 rfl) ?_
    refine lv_iconst (v := 1) hx hb dX6_lose_14 (by decide) ?_
    refine bcall_Wi (va_runV (As := [.int 1]) (rest := []) ⟨hx, hb, hml, hown, hts⟩ (C6_fails l D cI q _ _ hq hP hI_1 1) (cwV 1 hts gX6_lose_X6_fails rfl rfl rfl ⟨rfl, bd_X6fails⟩ ⟨Nat.le_of_ble_eq_true rfl, Nat.le_of_ble_eq_true rfl⟩) (bPV hk (va_recv hk.1 hP (ci := 6) (q0 := 0) rfl (wM_0 _ _ _))) rfl rfl hl.1 rfl (lv_room (Nat.le_of_ble_eq_true rfl)) dX6_lose_15 ⟨Nat.zero_le _, Nat.zero_le _⟩) hS (fun H locs hP hI_12 hS => ?_)
    exact bret_Wi hx hb hr hP hI_12 hS hlocks dX6_lose_18 (by rw [← hF, F6_lose, if_pos c_2])
def F6_collect (u : bU) (a1 : Int32) (a2 : Int32) (a3 : Int32) : Int32 × bU := (if (F6_isShop (bput u 6 2 0) a1) = 0 then ((F6_fails (bput u 6 2 0) 1).1, (F6_fails (bput u 6 2 0) 1).2) else (if (F6_in a2 0 2) = 0 then ((F6_fails (bput u 6 2 0) 2).1, (F6_fails (bput u 6 2 0) 2).2) else (if (F6_in a3 1 50) = 0 then ((F6_fails (bput u 6 2 0) 2).1, (F6_fails (bput u 6 2 0) 2).2) else (if (F6_againstCollect (bput u 6 2 0) a1 a2 a3) ≤ 0 then ((F6_collects (F6_save (bput u 6 2 0)) a1 a2 a3).1, (F6_collects (F6_save (bput u 6 2 0)) a1 a2 a3).2) else ((F6_fails (bput u 6 2 0) 3).1, (F6_fails (bput u 6 2 0) 3).2)))))
set_option maxHeartbeats 4000000 in
set_option maxRecDepth 100000 in
theorem C6_collect (l : Launch) (D : va_G) (cI : ClassId) (q : Nat → Nat) (u : bU) (H0 : Heap) (hq : bInj 7 q) (hP : va_P D vwCl (wM cI q u) H0) (hI : mInv u) (a1 : Int32) (a2 : Int32) (a3 : Int32) : Met l yX6_collect wsX6_collect ({ frames := 4, cells := 0, slots := 0, locals := 93 }) (bP D [(cI, .int)] H0 [.ref (q 0), .int a1, .int a2, .int a3]) (bWi D (wM cI q) mInv (bA 7 q H0.size) (F6_collect u a1 a2 a3)) 0 0 (bA 7 q H0.size) := by
  refine Met.ofW (cc := cX6_collect) (maxL := 4) (ret := (some .int)) (by decide) rfl ?_
  intro p e s m args below meth c s₁ B hml hv
  obtain ⟨rfl, hH, hk⟩ := hv
  subst hH
  have hx := B.exec
  have hb := B.bytes
  have hr := B.returns
  have hts := atoms_spec (ws := wsX6_collect) B.pre
  have hown : s.vm.findClass RX6 = some m.cls := findClass_of_methodNamed B.named
  have hlocks := B.notSynchronized
  have hNB := mNB hI
  have hNS := mNS hI
  have hI0 := hI
  have iX6 : ∀ w ∈ wsX60, w ∈ wsX6_collect := by decide +kernel
  have hS : va_S (bA 7 q s.heap.size) s.heap s.heap [] := va_S.rf
  have hl := lv_entry ([.ref (q 0), .int a1, .int a2, .int a3]) (n := 4) (Nat.le_of_ble_eq_true rfl)
  rw [lg_entry_eq]
  generalize (lg_sl ([.ref (q 0), .int a1, .int a2, .int a3]) ++ List.replicate (4 - (lg_sl ([.ref (q 0), .int a1, .int a2, .int a3])).length) Slot.unset).toArray = ls at hl ⊢
  have hl : lv_has ls 4 [(0, .ref (q 0)), (1, .int a1), (2, .int a2), (3, .int a3)] := hl
  generalize hF : F6_collect u a1 a2 a3 = tgt
  refine lv_aload_n hx hb dX6_collect_0 rfl (lv_at hl 0 rfl) ?_
  refine lv_iconst (v := 0) hx hb dX6_collect_1 (by decide) ?_
  refine va_put (D := D) (ci := 6) (v := .int 0) (ty := .int) (C := RX6) (T := TX6) (N := 16) hx hb hts iX6 tyX6 tyX6_ok nmX6 hown hk.1 hP (wM_D hq) hS 0 (wM_0 _ _ _) rfl 6 (by decide) (hts (.fieldLink RX6 28 "BottleLoopModel" "thrown" "I") (List.mem_of_getElem? (i := 1) rfl)) (fun _ h9 => h9) rfl (by decide +kernel) rfl rfl (Nat.le_of_ble_eq_true rfl) dX6_collect_2 (fun H locs hP _ hS => ?_)
  have hP : va_P D vwCl (wM cI q (bput u 6 2 0)) H := pM_f2 hP
  have hI_1 : mInv (bput u 6 2 0) := mInv_sc (k := 2) hI (by decide) (by decide) (by decide)
  refine lv_aload_n hx hb dX6_collect_5 rfl (lv_at hl 0 rfl) ?_
  refine lv_iload_n hx hb dX6_collect_6 rfl (lv_at hl 1 rfl) ?_
  refine bcall_Ri (va_runV (As := [.int a1]) (rest := []) ⟨hx, hb, hml, hown, hts⟩ (C6_isShop l D cI q _ _ hP hI_1 a1) (cwV 1 hts gX6_collect_X6_isShop rfl rfl rfl ⟨rfl, bd_X6isShop⟩ ⟨Nat.le_of_ble_eq_true rfl, Nat.le_of_ble_eq_true rfl⟩) (bPV hk (va_recv hk.1 hP (ci := 6) (q0 := 0) rfl (wM_0 _ _ _))) rfl rfl hl.1 rfl (lv_room (Nat.le_of_ble_eq_true rfl)) dX6_collect_7 ⟨Nat.zero_le _, Nat.zero_le _⟩) hS (fun locs hS => ?_)
  refine lv_if_ne (tgt := 19) hx hb dX6_collect_10 (by decide) (fun c_2 => ?_) (fun c_2 => ?_)
  · have hm_3 : mS a1 := mS_is hI_1 c_2
    refine lv_iload_n hx hb dX6_collect_19 rfl (lv_at hl 2 rfl) ?_
    refine lv_iconst (v := 0) hx hb dX6_collect_20 (by decide) ?_
    refine lv_iconst (v := 2) hx hb dX6_collect_21 (by decide) ?_
    refine bcall_Ri (va_runS (As := [.int a2, .int 0, .int 2]) (rest := []) ⟨hx, hb, hml, hown, hts⟩ (C6_in l D cI q _ a2 0 2) (va_cwS 3 hts gX6_collect_X6_in rfl rfl rfl bd_X6in ⟨Nat.le_of_ble_eq_true rfl, Nat.le_of_ble_eq_true rfl⟩) (bPS hk) rfl rfl hl.1 rfl (lv_room (Nat.le_of_ble_eq_true rfl)) dX6_collect_22 ⟨Nat.zero_le _, Nat.zero_le _⟩) hS (fun locs hS => ?_)
    refine lv_if_eq (tgt := 38) hx hb dX6_collect_25 (by decide) (fun c_4 => ?_) (fun c_4 => ?_)
    · refine lv_aload_n hx hb dX6_collect_38 rfl (lv_at hl 0 rfl) ?_
      refine lv_iconst (v := 2) hx hb dX6_collect_39 (by decide) ?_
      refine bcall_Wi (va_runV (As := [.int 2]) (rest := []) ⟨hx, hb, hml, hown, hts⟩ (C6_fails l D cI q _ _ hq hP hI_1 2) (cwV 1 hts gX6_collect_X6_fails rfl rfl rfl ⟨rfl, bd_X6fails⟩ ⟨Nat.le_of_ble_eq_true rfl, Nat.le_of_ble_eq_true rfl⟩) (bPV hk (va_recv hk.1 hP (ci := 6) (q0 := 0) rfl (wM_0 _ _ _))) rfl rfl hl.1 rfl (lv_room (Nat.le_of_ble_eq_true rfl)) dX6_collect_40 ⟨Nat.zero_le _, Nat.zero_le _⟩) hS (fun H locs hP hI_5 hS => ?_)
      exact bret_Wi hx hb hr hP hI_5 hS hlocks dX6_collect_43 (by rw [← hF, F6_collect, if_neg c_2, if_pos c_4])
    · have hm_6 : mK a2 := mK_in c_4
      refine lv_iload_n hx hb dX6_collect_28 rfl (lv_at hl 3 rfl) ?_
      refine lv_iconst (v := 1) hx hb dX6_collect_29 (by decide) ?_
      refine lv_bipush (v := 50) hx hb dX6_collect_30 (by decide) ?_
      refine bcall_Ri (va_runS (As := [.int a3, .int 1, .int 50]) (rest := []) ⟨hx, hb, hml, hown, hts⟩ (C6_in l D cI q _ a3 1 50) (va_cwS 3 hts gX6_collect_X6_in rfl rfl rfl bd_X6in ⟨Nat.le_of_ble_eq_true rfl, Nat.le_of_ble_eq_true rfl⟩) (bPS hk) rfl rfl hl.1 rfl (lv_room (Nat.le_of_ble_eq_true rfl)) dX6_collect_32 ⟨Nat.zero_le _, Nat.zero_le _⟩) hS (fun locs hS => ?_)
      refine lv_if_ne (tgt := 44) hx hb dX6_collect_35 (by decide) (fun c_7 => ?_) (fun c_7 => ?_)
      · refine lv_aload_n hx hb dX6_collect_44 rfl (lv_at hl 0 rfl) ?_
        refine lv_iload_n hx hb dX6_collect_45 rfl (lv_at hl 1 rfl) ?_
        refine lv_iload_n hx hb dX6_collect_46 rfl (lv_at hl 2 rfl) ?_
        refine lv_iload_n hx hb dX6_collect_47 rfl (lv_at hl 3 rfl) ?_
        refine bcall_Ri (va_runV (As := [.int a1, .int a2, .int a3]) (rest := []) ⟨hx, hb, hml, hown, hts⟩ (C6_againstCollect l D cI q _ _ hP hI_1 a1 a2 a3 hm_3) (cwV 3 hts gX6_collect_X6_againstCollect rfl rfl rfl ⟨rfl, bd_X6againstCollect⟩ ⟨Nat.le_of_ble_eq_true rfl, Nat.le_of_ble_eq_true rfl⟩) (bPV hk (va_recv hk.1 hP (ci := 6) (q0 := 0) rfl (wM_0 _ _ _))) rfl rfl hl.1 rfl (lv_room (Nat.le_of_ble_eq_true rfl)) dX6_collect_48 ⟨Nat.zero_le _, Nat.zero_le _⟩) hS (fun locs hS => ?_)
        refine lv_if_le (tgt := 60) hx hb dX6_collect_51 (by decide) (fun c_8 => ?_) (fun c_8 => ?_)
        · refine lv_aload_n hx hb dX6_collect_60 rfl (lv_at hl 0 rfl) ?_
          refine bcall_Wv (va_runV (As := []) (rest := []) ⟨hx, hb, hml, hown, hts⟩ (C6_save l D cI q _ _ hq hP hI_1 ) (cwV 0 hts gX6_collect_X6_save rfl rfl rfl ⟨rfl, bd_X6save⟩ ⟨Nat.le_of_ble_eq_true rfl, Nat.le_of_ble_eq_true rfl⟩) (bPV hk (va_recv hk.1 hP (ci := 6) (q0 := 0) rfl (wM_0 _ _ _))) rfl rfl hl.1 rfl (lv_room (Nat.le_of_ble_eq_true rfl)) dX6_collect_61 ⟨Nat.zero_le _, Nat.zero_le _⟩) hS (fun H locs hP hI_9 hS => ?_)
          refine lv_aload_n hx hb dX6_collect_64 rfl (lv_at hl 0 rfl) ?_
          refine lv_iload_n hx hb dX6_collect_65 rfl (lv_at hl 1 rfl) ?_
          refine lv_iload_n hx hb dX6_collect_66 rfl (lv_at hl 2 rfl) ?_
          refine lv_iload_n hx hb dX6_collect_67 rfl (lv_at hl 3 rfl) ?_
          refine bcall_Wi (va_runV (As := [.int a1, .int a2, .int a3]) (rest := []) ⟨hx, hb, hml, hown, hts⟩ (C6_collects l D cI q _ _ hq hP hI_9 a1 a2 a3 hm_3 hm_6) (cwV 3 hts gX6_collect_X6_collects rfl rfl rfl ⟨rfl, bd_X6collects⟩ ⟨Nat.le_of_ble_eq_true rfl, Nat.le_of_ble_eq_true rfl⟩) (bPV hk (va_recv hk.1 hP (ci := 6) (q0 := 0) rfl (wM_0 _ _ _))) rfl rfl hl.1 rfl (lv_room (Nat.le_of_ble_eq_true rfl)) dX6_collect_68 ⟨Nat.zero_le _, Nat.zero_le _⟩) hS (fun H locs hP hI_10 hS => ?_)
          exact bret_Wi hx hb hr hP hI_10 hS hlocks dX6_collect_71 (by rw [← hF, F6_collect, if_neg c_2, if_neg c_4, if_neg c_7, if_pos c_8])
        · refine lv_aload_n hx hb dX6_collect_54 rfl (lv_at hl 0 rfl) ?_
          refine lv_iconst (v := 3) hx hb dX6_collect_55 (by decide) ?_
          refine bcall_Wi (va_runV (As := [.int 3]) (rest := []) ⟨hx, hb, hml, hown, hts⟩ (C6_fails l D cI q _ _ hq hP hI_1 3) (cwV 1 hts gX6_collect_X6_fails rfl rfl rfl ⟨rfl, bd_X6fails⟩ ⟨Nat.le_of_ble_eq_true rfl, Nat.le_of_ble_eq_true rfl⟩) (bPV hk (va_recv hk.1 hP (ci := 6) (q0 := 0) rfl (wM_0 _ _ _))) rfl rfl hl.1 rfl (lv_room (Nat.le_of_ble_eq_true rfl)) dX6_collect_56 ⟨Nat.zero_le _, Nat.zero_le _⟩) hS (fun H locs hP hI_11 hS => ?_)
          exact bret_Wi hx hb hr hP hI_11 hS hlocks dX6_collect_59 (by rw [← hF, F6_collect, if_neg c_2, if_neg c_4, if_neg c_7, if_neg c_8])
      · refine lv_aload_n hx hb dX6_collect_38 rfl (lv_at hl 0 rfl) ?_
        refine lv_iconst (v := 2) hx hb dX6_collect_39 (by decide) ?_
        refine bcall_Wi (va_runV (As := [.int 2]) (rest := []) ⟨hx, hb, hml, hown, hts⟩ (C6_fails l D cI q _ _ hq hP hI_1 2) (cwV 1 hts gX6_collect_X6_fails rfl rfl rfl ⟨rfl, bd_X6fails⟩ ⟨Nat.le_of_ble_eq_true rfl, Nat.le_of_ble_eq_true rfl⟩) (bPV hk (va_recv hk.1 hP (ci := 6) (q0 := 0) rfl (wM_0 _ _ _))) rfl rfl hl.1 rfl (lv_room (Nat.le_of_ble_eq_true rfl)) dX6_collect_40 ⟨Nat.zero_le _, Nat.zero_le _⟩) hS (fun H locs hP hI_12 hS => ?_)
        exact bret_Wi hx hb hr hP hI_12 hS hlocks dX6_collect_43 (by rw [← hF, F6_collect, if_neg c_2, if_neg c_4, if_pos c_7])
  · refine lv_aload_n hx hb dX6_collect_13 rfl (lv_at hl 0 rfl) ?_
    refine lv_iconst (v := 1) hx hb dX6_collect_14 (by decide) ?_
    refine bcall_Wi (va_runV (As := [.int 1]) (rest := []) ⟨hx, hb, hml, hown, hts⟩ (C6_fails l D cI q _ _ hq hP hI_1 1) (cwV 1 hts gX6_collect_X6_fails rfl rfl rfl ⟨rfl, bd_X6fails⟩ ⟨Nat.le_of_ble_eq_true rfl, Nat.le_of_ble_eq_true rfl⟩) (bPV hk (va_recv hk.1 hP (ci := 6) (q0 := 0) rfl (wM_0 _ _ _))) rfl rfl hl.1 rfl (lv_room (Nat.le_of_ble_eq_true rfl)) dX6_collect_15 ⟨Nat.zero_le _, Nat.zero_le _⟩) hS (fun H locs hP hI_13 hS => ?_)
    exact bret_Wi hx hb hr hP hI_13 hS hlocks dX6_collect_18 (by rw [← hF, F6_collect, if_pos c_2])
def L6_sort_55 (a1 : Int32) : bU → Nat → Nat → Int32 → Int32 × bU
  | u55, 0, _, x3_55 => (x3_55, u55)
  | u55, n55 + 1, j55, x3_55 => (if (u55 0 0) ≤ (nI j55) then (x3_55, u55) else (if (F6_of u55 (nI j55) 0) = a1 then (L6_sort_55 a1 (badd (bsub u55 0 (F6_brandAt (nI j55) 4).toNatClampNeg (F6_least x3_55 (F6_of u55 (nI j55) 4))) 0 (F6_brandAt (nI j55) 1).toNatClampNeg (F6_least x3_55 (F6_of u55 (nI j55) 4))) n55 (j55 + 1) (x3_55 - (F6_least x3_55 (F6_of u55 (nI j55) 4)))) else (L6_sort_55 a1 (badd (bsub u55 0 (F6_brandAt (nI j55) 4).toNatClampNeg 0) 0 (F6_brandAt (nI j55) 1).toNatClampNeg 0) n55 (j55 + 1) (x3_55 - 0))))
def F6_sort (u : bU) (a1 : Int32) (a2 : Int32) : Int32 × bU := (if (F6_in a1 0 2) = 0 then ((F6_fails (bput u 6 2 0) 1).1, (F6_fails (bput u 6 2 0) 1).2) else (if (F6_in a2 1 5000) = 0 then ((F6_fails (bput u 6 2 0) 1).1, (F6_fails (bput u 6 2 0) 1).2) else (if a2 ≤ (F6_yardOf (bput u 6 2 0) a1) then ((F6_yardOf (L6_sort_55 a1 (F6_save (bput u 6 2 0)) (((F6_save (bput u 6 2 0)) 0 0).toNatClampNeg + 1) 0 a2).2 a1), (L6_sort_55 a1 (F6_save (bput u 6 2 0)) (((F6_save (bput u 6 2 0)) 0 0).toNatClampNeg + 1) 0 a2).2) else ((F6_fails (bput u 6 2 0) 2).1, (F6_fails (bput u 6 2 0) 2).2))))
set_option maxHeartbeats 4000000 in
set_option maxRecDepth 100000 in
theorem C6_sort (l : Launch) (D : va_G) (cI : ClassId) (q : Nat → Nat) (u : bU) (H0 : Heap) (hq : bInj 7 q) (hP : va_P D vwCl (wM cI q u) H0) (hI : mInv u) (a1 : Int32) (a2 : Int32) : Met l yX6_sort wsX6_sort ({ frames := 3, cells := 0, slots := 0, locals := 66 }) (bP D [(cI, .int)] H0 [.ref (q 0), .int a1, .int a2]) (bWi D (wM cI q) mInv (bA 7 q H0.size) (F6_sort u a1 a2)) 0 0 (bA 7 q H0.size) := by
  refine Met.ofW (cc := cX6_sort) (maxL := 6) (ret := (some .int)) (by decide) rfl ?_
  intro p e s m args below meth c s₁ B hml hv
  obtain ⟨rfl, hH, hk⟩ := hv
  subst hH
  have hx := B.exec
  have hb := B.bytes
  have hr := B.returns
  have hts := atoms_spec (ws := wsX6_sort) B.pre
  have hown : s.vm.findClass RX6 = some m.cls := findClass_of_methodNamed B.named
  have hlocks := B.notSynchronized
  have hNB := mNB hI
  have hNS := mNS hI
  have hI0 := hI
  have iX6 : ∀ w ∈ wsX60, w ∈ wsX6_sort := by decide +kernel
  have hS : va_S (bA 7 q s.heap.size) s.heap s.heap [] := va_S.rf
  have hl := lv_entry ([.ref (q 0), .int a1, .int a2]) (n := 6) (Nat.le_of_ble_eq_true rfl)
  rw [lg_entry_eq]
  generalize (lg_sl ([.ref (q 0), .int a1, .int a2]) ++ List.replicate (6 - (lg_sl ([.ref (q 0), .int a1, .int a2])).length) Slot.unset).toArray = ls at hl ⊢
  have hl : lv_has ls 6 [(0, .ref (q 0)), (1, .int a1), (2, .int a2)] := hl
  generalize hF : F6_sort u a1 a2 = tgt
  refine lv_aload_n hx hb dX6_sort_0 rfl (lv_at hl 0 rfl) ?_
  refine lv_iconst (v := 0) hx hb dX6_sort_1 (by decide) ?_
  refine va_put (D := D) (ci := 6) (v := .int 0) (ty := .int) (C := RX6) (T := TX6) (N := 16) hx hb hts iX6 tyX6 tyX6_ok nmX6 hown hk.1 hP (wM_D hq) hS 0 (wM_0 _ _ _) rfl 6 (by decide) (hts (.fieldLink RX6 28 "BottleLoopModel" "thrown" "I") (List.mem_of_getElem? (i := 1) rfl)) (fun _ h9 => h9) rfl (by decide +kernel) rfl rfl (Nat.le_of_ble_eq_true rfl) dX6_sort_2 (fun H locs hP _ hS => ?_)
  have hP : va_P D vwCl (wM cI q (bput u 6 2 0)) H := pM_f2 hP
  have hI_1 : mInv (bput u 6 2 0) := mInv_sc (k := 2) hI (by decide) (by decide) (by decide)
  refine lv_iload_n hx hb dX6_sort_5 rfl (lv_at hl 1 rfl) ?_
  refine lv_iconst (v := 0) hx hb dX6_sort_6 (by decide) ?_
  refine lv_iconst (v := 2) hx hb dX6_sort_7 (by decide) ?_
  refine bcall_Ri (va_runS (As := [.int a1, .int 0, .int 2]) (rest := []) ⟨hx, hb, hml, hown, hts⟩ (C6_in l D cI q _ a1 0 2) (va_cwS 3 hts gX6_sort_X6_in rfl rfl rfl bd_X6in ⟨Nat.le_of_ble_eq_true rfl, Nat.le_of_ble_eq_true rfl⟩) (bPS hk) rfl rfl hl.1 rfl (lv_room (Nat.le_of_ble_eq_true rfl)) dX6_sort_8 ⟨Nat.zero_le _, Nat.zero_le _⟩) hS (fun locs hS => ?_)
  refine lv_if_eq (tgt := 25) hx hb dX6_sort_11 (by decide) (fun c_2 => ?_) (fun c_2 => ?_)
  · refine lv_aload_n hx hb dX6_sort_25 rfl (lv_at hl 0 rfl) ?_
    refine lv_iconst (v := 1) hx hb dX6_sort_26 (by decide) ?_
    refine bcall_Wi (va_runV (As := [.int 1]) (rest := []) ⟨hx, hb, hml, hown, hts⟩ (C6_fails l D cI q _ _ hq hP hI_1 1) (cwV 1 hts gX6_sort_X6_fails rfl rfl rfl ⟨rfl, bd_X6fails⟩ ⟨Nat.le_of_ble_eq_true rfl, Nat.le_of_ble_eq_true rfl⟩) (bPV hk (va_recv hk.1 hP (ci := 6) (q0 := 0) rfl (wM_0 _ _ _))) rfl rfl hl.1 rfl (lv_room (Nat.le_of_ble_eq_true rfl)) dX6_sort_27 ⟨Nat.zero_le _, Nat.zero_le _⟩) hS (fun H locs hP hI_3 hS => ?_)
    exact bret_Wi hx hb hr hP hI_3 hS hlocks dX6_sort_30 (by rw [← hF, F6_sort, if_pos c_2])
  · have hm_4 : mK a1 := mK_in c_2
    refine lv_iload_n hx hb dX6_sort_14 rfl (lv_at hl 2 rfl) ?_
    refine lv_iconst (v := 1) hx hb dX6_sort_15 (by decide) ?_
    refine lv_sipush (v := 5000) hx hb dX6_sort_16 (by decide) ?_
    refine bcall_Ri (va_runS (As := [.int a2, .int 1, .int 5000]) (rest := []) ⟨hx, hb, hml, hown, hts⟩ (C6_in l D cI q _ a2 1 5000) (va_cwS 3 hts gX6_sort_X6_in rfl rfl rfl bd_X6in ⟨Nat.le_of_ble_eq_true rfl, Nat.le_of_ble_eq_true rfl⟩) (bPS hk) rfl rfl hl.1 rfl (lv_room (Nat.le_of_ble_eq_true rfl)) dX6_sort_19 ⟨Nat.zero_le _, Nat.zero_le _⟩) hS (fun locs hS => ?_)
    refine lv_if_ne (tgt := 31) hx hb dX6_sort_22 (by decide) (fun c_5 => ?_) (fun c_5 => ?_)
    · refine lv_aload_n hx hb dX6_sort_31 rfl (lv_at hl 0 rfl) ?_
      refine lv_iload_n hx hb dX6_sort_32 rfl (lv_at hl 1 rfl) ?_
      refine bcall_Ri (va_runV (As := [.int a1]) (rest := []) ⟨hx, hb, hml, hown, hts⟩ (C6_yardOf l D cI q _ _ hP hI_1 a1) (cwV 1 hts gX6_sort_X6_yardOf rfl rfl rfl ⟨rfl, bd_X6yardOf⟩ ⟨Nat.le_of_ble_eq_true rfl, Nat.le_of_ble_eq_true rfl⟩) (bPV hk (va_recv hk.1 hP (ci := 6) (q0 := 0) rfl (wM_0 _ _ _))) rfl rfl hl.1 rfl (lv_room (Nat.le_of_ble_eq_true rfl)) dX6_sort_33 ⟨Nat.zero_le _, Nat.zero_le _⟩) hS (fun locs hS => ?_)
      refine lv_iload_n hx hb dX6_sort_36 rfl (lv_at hl 2 rfl) ?_
      refine lv_icmp_ge (tgt := 46) hx hb dX6_sort_37 (by decide) (fun c_6 => ?_) (fun c_6 => ?_)
      · refine lv_aload_n hx hb dX6_sort_46 rfl (lv_at hl 0 rfl) ?_
        refine bcall_Wv (va_runV (As := []) (rest := []) ⟨hx, hb, hml, hown, hts⟩ (C6_save l D cI q _ _ hq hP hI_1 ) (cwV 0 hts gX6_sort_X6_save rfl rfl rfl ⟨rfl, bd_X6save⟩ ⟨Nat.le_of_ble_eq_true rfl, Nat.le_of_ble_eq_true rfl⟩) (bPV hk (va_recv hk.1 hP (ci := 6) (q0 := 0) rfl (wM_0 _ _ _))) rfl rfl hl.1 rfl (lv_room (Nat.le_of_ble_eq_true rfl)) dX6_sort_47 ⟨Nat.zero_le _, Nat.zero_le _⟩) hS (fun H locs hP hI_7 hS => ?_)
        refine lv_iload_n hx hb dX6_sort_50 rfl (lv_at hl 2 rfl) ?_
        refine lv_istore_n (lv' := [(3, .int a2), (0, .ref (q 0)), (1, .int a1), (2, .int a2)]) hx hb dX6_sort_51 rfl hl (by decide) rfl (fun ls hl => ?_)
        refine lv_iconst (v := 0) hx hb dX6_sort_52 (by decide) ?_
        refine lv_istore (lv' := [(4, .int 0), (3, .int a2), (0, .ref (q 0)), (1, .int a1), (2, .int a2)]) hx hb dX6_sort_53 hl (by decide) rfl (fun ls hl => ?_)
        have hB55 := bClamp ((F6_save (bput u 6 2 0)) 0 0)
        have hNB55 := mNB hI_7
        have hNS55 := mNS hI_7
        have loop55 : ∀ (n55 j55 : Nat) (x3_55 : Int32) (u55 : bU) (H : Heap) (locs : List Loc) (ls : Array Slot), j55 ≤ ((F6_save (bput u 6 2 0)) 0 0).toNatClampNeg → ((F6_save (bput u 6 2 0)) 0 0).toNatClampNeg + 1 ≤ n55 + j55 → u55 0 0 = (F6_save (bput u 6 2 0)) 0 0 → lv_has ls 6 [(0, .ref (q 0)), (1, .int a1), (2, .int a2), (3, .int x3_55), (4, .int (nI j55))] → va_P D vwCl (wM cI q u55) H → mInv u55 → va_S (bA 7 q s.heap.size) s.heap H locs → ∀ X : Int32 × bU, L6_sort_55 a1 u55 n55 j55 x3_55 = X → (∀ (H : Heap) (locs : List Loc) (ls : Array Slot), lv_has ls 6 [(0, .ref (q 0)), (1, .int a1), (2, .int a2), (3, .int X.1)] → va_P D vwCl (wM cI q X.2) H → mInv X.2 → va_S (bA 7 q s.heap.size) s.heap H locs → W p l e (headSpec wsX6_sort ({ frames := 3, cells := 0, slots := 0, locals := 66 })).room s m ([.ref (q 0), .int a1, .int a2] : List Value).toArray below meth c H locs 0 0 (MQ below (bWi D (wM cI q) mInv (bA 7 q s.heap.size) tgt) ([.ref (q 0), .int a1, .int a2] : List Value).toArray s 0 0 (bA 7 q s.heap.size)) (F0 m 137 ls [])) → W p l e (headSpec wsX6_sort ({ frames := 3, cells := 0, slots := 0, locals := 66 })).room s m ([.ref (q 0), .int a1, .int a2] : List Value).toArray below meth c H locs 0 0 (MQ below (bWi D (wM cI q) mInv (bA 7 q s.heap.size) tgt) ([.ref (q 0), .int a1, .int a2] : List Value).toArray s 0 0 (bA 7 q s.heap.size)) (F0 m 55 ls []) := by
          intro n55
          induction n55 with
          | zero => intro j55 x3_55 u55 H locs ls hj hn; exact absurd hn (by omega)
          | succ n55 ih =>
            intro j55 x3_55 u55 H locs ls hj hn hinv hl hP hI hS X hF kx
            refine lv_iload hx hb dX6_sort_55 (lv_at hl 4 rfl) ?_
            refine lv_aload_n hx hb dX6_sort_57 rfl (lv_at hl 0 rfl) ?_
            refine va_get (D := D) (ci := 6) (C := RX6) (T := TX6) (N := 16) hx hb hts iX6 hown hk.1 hP 0 (wM_0 _ _ _) rfl 0 (by decide) (hts (.fieldLink RX6 7 "BottleLoopModel" "v" "[I") (List.mem_of_getElem? (i := 2) rfl)) (fun _ h9 => h9) rfl dX6_sort_58 ?_
            refine lv_iconst (v := 0) hx hb dX6_sort_61 (by decide) ?_
            refine va_iald hx hb hk.1 hP 1 0 (wM_1 _ _ _) rfl (vp_in_nI (n := 0) (by decide) (by decide)) dX6_sort_62 ?_
            refine lv_topi (fun z9 hz9 => ?_)
            obtain rfl : z9 = (u55 0 0) := hz9.trans rfl
            refine lv_icmp_ge (tgt := 137) hx hb dX6_sort_63 (by decide) (fun c_8 => ?_) (fun c_8 => ?_)
            · obtain rfl : X = (x3_55, u55) := by rw [← hF, L6_sort_55, if_pos c_8]
              exact kx _ _ _ (lv_sub hl [0, 1, 2, 3] rfl) hP hI hS
            · have hlt_9 : j55 < ((F6_save (bput u 6 2 0)) 0 0).toNatClampNeg := by rw [← hinv]; exact bLtB c_8 (by omega)
              refine lv_aload_n hx hb dX6_sort_66 rfl (lv_at hl 0 rfl) ?_
              refine lv_iload hx hb dX6_sort_67 (lv_at hl 4 rfl) ?_
              refine lv_iconst (v := 0) hx hb dX6_sort_69 (by decide) ?_
              refine bcall_Ri (va_runV (As := [.int (nI j55), .int 0]) (rest := []) ⟨hx, hb, hml, hown, hts⟩ (C6_of l D cI q _ _ hP hI (nI j55) 0 (mXB (w := 0) (mB_nI (by omega)) (by decide))) (cwV 2 hts gX6_sort_X6_of rfl rfl rfl ⟨rfl, bd_X6of⟩ ⟨Nat.le_of_ble_eq_true rfl, Nat.le_of_ble_eq_true rfl⟩) (bPV hk (va_recv hk.1 hP (ci := 6) (q0 := 0) rfl (wM_0 _ _ _))) rfl rfl hl.1 rfl (lv_room (Nat.le_of_ble_eq_true rfl)) dX6_sort_70 ⟨Nat.zero_le _, Nat.zero_le _⟩) hS (fun locs hS => ?_)
              refine lv_iload_n hx hb dX6_sort_73 rfl (lv_at hl 1 rfl) ?_
              refine lv_icmp_ne (tgt := 91) hx hb dX6_sort_74 (by decide) (fun c_10 => ?_) (fun c_10 => ?_)
              · refine lv_iconst (v := 0) hx hb dX6_sort_91 (by decide) ?_
                refine lv_istore (lv' := [(5, .int 0), (0, .ref (q 0)), (1, .int a1), (2, .int a2), (3, .int x3_55), (4, .int (nI j55))]) hx hb dX6_sort_92 hl (by decide) rfl (fun ls hl => ?_)
                refine lv_aload_n hx hb dX6_sort_94 rfl (lv_at hl 1 rfl) ?_
                refine va_get (D := D) (ci := 6) (C := RX6) (T := TX6) (N := 16) hx hb hts iX6 hown hk.1 hP 0 (wM_0 _ _ _) rfl 0 (by decide) (hts (.fieldLink RX6 7 "BottleLoopModel" "v" "[I") (List.mem_of_getElem? (i := 2) rfl)) (fun _ h9 => h9) rfl dX6_sort_95 ?_
                refine lv_iload hx hb dX6_sort_98 (lv_at hl 5 rfl) ?_
                refine lv_iconst (v := 4) hx hb dX6_sort_100 (by decide) ?_
                refine bcall_Ri (va_runS (As := [.int (nI j55), .int 4]) (rest := [.ref (q 1)]) ⟨hx, hb, hml, hown, hts⟩ (C6_brandAt l D cI q _ (nI j55) 4) (va_cwS 2 hts gX6_sort_X6_brandAt rfl rfl rfl bd_X6brandAt ⟨Nat.le_of_ble_eq_true rfl, Nat.le_of_ble_eq_true rfl⟩) (bPS hk) rfl rfl hl.1 rfl (lv_room (Nat.le_of_ble_eq_true rfl)) dX6_sort_101 ⟨Nat.zero_le _, Nat.zero_le _⟩) hS (fun locs hS => ?_)
                refine lv_dup2_11 hx hb dX6_sort_104 rfl rfl ?_
                refine va_iald hx hb hk.1 hP 1 0 (wM_1 _ _ _) rfl (mXB (w := 4) (mB_nI (by omega)) (by decide)) dX6_sort_105 ?_
                refine lv_iload hx hb dX6_sort_106 (lv_at hl 0 rfl) ?_
                refine lv_isub hx hb dX6_sort_108 ?_
                refine va_iast hx hb hk.1 hP (wM_D hq) hS 1 0 (wM_1 _ _ _) rfl (mXB (w := 4) (mB_nI (by omega)) (by decide)) dX6_sort_109 (fun H locs hP _ hS => ?_)
                have hP : va_P D vwCl (wM cI q (bsub u55 0 (F6_brandAt (nI j55) 4).toNatClampNeg 0)) H := pM_0s hP
                have hI_11 : mInv (bsub u55 0 (F6_brandAt (nI j55) 4).toNatClampNeg 0) := mInv_B (w := 4) hI (mB_nI (by omega)) (by decide) (by decide)
                refine lv_aload_n hx hb dX6_sort_110 rfl (lv_at hl 1 rfl) ?_
                refine va_get (D := D) (ci := 6) (C := RX6) (T := TX6) (N := 16) hx hb hts iX6 hown hk.1 hP 0 (wM_0 _ _ _) rfl 0 (by decide) (hts (.fieldLink RX6 7 "BottleLoopModel" "v" "[I") (List.mem_of_getElem? (i := 2) rfl)) (fun _ h9 => h9) rfl dX6_sort_111 ?_
                refine lv_iload hx hb dX6_sort_114 (lv_at hl 5 rfl) ?_
                refine lv_iconst (v := 1) hx hb dX6_sort_116 (by decide) ?_
                refine bcall_Ri (va_runS (As := [.int (nI j55), .int 1]) (rest := [.ref (q 1)]) ⟨hx, hb, hml, hown, hts⟩ (C6_brandAt l D cI q _ (nI j55) 1) (va_cwS 2 hts gX6_sort_X6_brandAt rfl rfl rfl bd_X6brandAt ⟨Nat.le_of_ble_eq_true rfl, Nat.le_of_ble_eq_true rfl⟩) (bPS hk) rfl rfl hl.1 rfl (lv_room (Nat.le_of_ble_eq_true rfl)) dX6_sort_117 ⟨Nat.zero_le _, Nat.zero_le _⟩) hS (fun locs hS => ?_)
                refine lv_dup2_11 hx hb dX6_sort_120 rfl rfl ?_
                refine va_iald hx hb hk.1 hP 1 0 (wM_1 _ _ _) rfl (mXB (w := 1) (mB_nI (by omega)) (by decide)) dX6_sort_121 ?_
                refine lv_iload hx hb dX6_sort_122 (lv_at hl 0 rfl) ?_
                refine lv_iadd hx hb dX6_sort_124 ?_
                refine va_iast hx hb hk.1 hP (wM_D hq) hS 1 0 (wM_1 _ _ _) rfl (mXB (w := 1) (mB_nI (by omega)) (by decide)) dX6_sort_125 (fun H locs hP _ hS => ?_)
                have hP : va_P D vwCl (wM cI q (badd (bsub u55 0 (F6_brandAt (nI j55) 4).toNatClampNeg 0) 0 (F6_brandAt (nI j55) 1).toNatClampNeg 0)) H := pM_0a hP
                have hI_12 : mInv (badd (bsub u55 0 (F6_brandAt (nI j55) 4).toNatClampNeg 0) 0 (F6_brandAt (nI j55) 1).toNatClampNeg 0) := mInv_B (w := 1) hI_11 (mB_nI (by omega)) (by decide) (by decide)
                refine lv_iload_n hx hb dX6_sort_126 rfl (lv_at hl 4 rfl) ?_
                refine lv_iload hx hb dX6_sort_127 (lv_at hl 0 rfl) ?_
                refine lv_isub hx hb dX6_sort_129 ?_
                refine lv_istore_n (lv' := [(3, .int (x3_55 - 0)), (5, .int 0), (0, .ref (q 0)), (1, .int a1), (2, .int a2), (4, .int (nI j55))]) hx hb dX6_sort_130 rfl hl (by decide) rfl (fun ls hl => ?_)
                refine lv_iinc (v := (nI (j55 + 1))) (lv' := [(4, .int (nI (j55 + 1))), (3, .int (x3_55 - 0)), (5, .int 0), (0, .ref (q 0)), (1, .int a1), (2, .int a2)]) hx hb dX6_sort_131 hl (k := 5) rfl (bInc j55) (by decide) rfl (fun ls hl => ?_)
                refine lv_goto (tgt := 55) hx hb dX6_sort_134 (by decide) ?_
                exact ih (j55 + 1) (x3_55 - 0) (badd (bsub u55 0 (F6_brandAt (nI j55) 4).toNatClampNeg 0) 0 (F6_brandAt (nI j55) 1).toNatClampNeg 0) _ _ _ (by omega) (by omega) ((mKeep0 (w := 1) (mB_nI (by omega)) (by decide)).trans ((mKeep0 (w := 4) (mB_nI (by omega)) (by decide)).trans hinv)) (lv_sub hl [3, 4, 5, 1, 0] rfl) hP hI_12 hS X (by rw [← hF, L6_sort_55, if_neg c_8, if_neg c_10]) kx
              · refine lv_iload_n hx hb dX6_sort_77 rfl (lv_at hl 3 rfl) ?_
                refine lv_aload_n hx hb dX6_sort_78 rfl (lv_at hl 0 rfl) ?_
                refine lv_iload hx hb dX6_sort_79 (lv_at hl 4 rfl) ?_
                refine lv_iconst (v := 4) hx hb dX6_sort_81 (by decide) ?_
                refine bcall_Ri (va_runV (As := [.int (nI j55), .int 4]) (rest := [.int x3_55]) ⟨hx, hb, hml, hown, hts⟩ (C6_of l D cI q _ _ hP hI (nI j55) 4 (mXB (w := 4) (mB_nI (by omega)) (by decide))) (cwV 2 hts gX6_sort_X6_of rfl rfl rfl ⟨rfl, bd_X6of⟩ ⟨Nat.le_of_ble_eq_true rfl, Nat.le_of_ble_eq_true rfl⟩) (bPV hk (va_recv hk.1 hP (ci := 6) (q0 := 0) rfl (wM_0 _ _ _))) rfl rfl hl.1 rfl (lv_room (Nat.le_of_ble_eq_true rfl)) dX6_sort_82 ⟨Nat.zero_le _, Nat.zero_le _⟩) hS (fun locs hS => ?_)
                refine bcall_Ri (va_runS (As := [.int x3_55, .int (F6_of u55 (nI j55) 4)]) (rest := []) ⟨hx, hb, hml, hown, hts⟩ (C6_least l D cI q _ x3_55 (F6_of u55 (nI j55) 4)) (va_cwS 2 hts gX6_sort_X6_least rfl rfl rfl bd_X6least ⟨Nat.le_of_ble_eq_true rfl, Nat.le_of_ble_eq_true rfl⟩) (bPS hk) rfl rfl hl.1 rfl (lv_room (Nat.le_of_ble_eq_true rfl)) dX6_sort_85 ⟨Nat.zero_le _, Nat.zero_le _⟩) hS (fun locs hS => ?_)
                refine lv_goto (tgt := 92) hx hb dX6_sort_88 (by decide) ?_
                refine lv_istore (lv' := [(5, .int (F6_least x3_55 (F6_of u55 (nI j55) 4))), (0, .ref (q 0)), (1, .int a1), (2, .int a2), (3, .int x3_55), (4, .int (nI j55))]) hx hb dX6_sort_92 hl (by decide) rfl (fun ls hl => ?_)
                refine lv_aload_n hx hb dX6_sort_94 rfl (lv_at hl 1 rfl) ?_
                refine va_get (D := D) (ci := 6) (C := RX6) (T := TX6) (N := 16) hx hb hts iX6 hown hk.1 hP 0 (wM_0 _ _ _) rfl 0 (by decide) (hts (.fieldLink RX6 7 "BottleLoopModel" "v" "[I") (List.mem_of_getElem? (i := 2) rfl)) (fun _ h9 => h9) rfl dX6_sort_95 ?_
                refine lv_iload hx hb dX6_sort_98 (lv_at hl 5 rfl) ?_
                refine lv_iconst (v := 4) hx hb dX6_sort_100 (by decide) ?_
                refine bcall_Ri (va_runS (As := [.int (nI j55), .int 4]) (rest := [.ref (q 1)]) ⟨hx, hb, hml, hown, hts⟩ (C6_brandAt l D cI q _ (nI j55) 4) (va_cwS 2 hts gX6_sort_X6_brandAt rfl rfl rfl bd_X6brandAt ⟨Nat.le_of_ble_eq_true rfl, Nat.le_of_ble_eq_true rfl⟩) (bPS hk) rfl rfl hl.1 rfl (lv_room (Nat.le_of_ble_eq_true rfl)) dX6_sort_101 ⟨Nat.zero_le _, Nat.zero_le _⟩) hS (fun locs hS => ?_)
                refine lv_dup2_11 hx hb dX6_sort_104 rfl rfl ?_
                refine va_iald hx hb hk.1 hP 1 0 (wM_1 _ _ _) rfl (mXB (w := 4) (mB_nI (by omega)) (by decide)) dX6_sort_105 ?_
                refine lv_iload hx hb dX6_sort_106 (lv_at hl 0 rfl) ?_
                refine lv_isub hx hb dX6_sort_108 ?_
                refine va_iast hx hb hk.1 hP (wM_D hq) hS 1 0 (wM_1 _ _ _) rfl (mXB (w := 4) (mB_nI (by omega)) (by decide)) dX6_sort_109 (fun H locs hP _ hS => ?_)
                have hP : va_P D vwCl (wM cI q (bsub u55 0 (F6_brandAt (nI j55) 4).toNatClampNeg (F6_least x3_55 (F6_of u55 (nI j55) 4)))) H := pM_0s hP
                have hI_13 : mInv (bsub u55 0 (F6_brandAt (nI j55) 4).toNatClampNeg (F6_least x3_55 (F6_of u55 (nI j55) 4))) := mInv_B (w := 4) hI (mB_nI (by omega)) (by decide) (by decide)
                refine lv_aload_n hx hb dX6_sort_110 rfl (lv_at hl 1 rfl) ?_
                refine va_get (D := D) (ci := 6) (C := RX6) (T := TX6) (N := 16) hx hb hts iX6 hown hk.1 hP 0 (wM_0 _ _ _) rfl 0 (by decide) (hts (.fieldLink RX6 7 "BottleLoopModel" "v" "[I") (List.mem_of_getElem? (i := 2) rfl)) (fun _ h9 => h9) rfl dX6_sort_111 ?_
                refine lv_iload hx hb dX6_sort_114 (lv_at hl 5 rfl) ?_
                refine lv_iconst (v := 1) hx hb dX6_sort_116 (by decide) ?_
                refine bcall_Ri (va_runS (As := [.int (nI j55), .int 1]) (rest := [.ref (q 1)]) ⟨hx, hb, hml, hown, hts⟩ (C6_brandAt l D cI q _ (nI j55) 1) (va_cwS 2 hts gX6_sort_X6_brandAt rfl rfl rfl bd_X6brandAt ⟨Nat.le_of_ble_eq_true rfl, Nat.le_of_ble_eq_true rfl⟩) (bPS hk) rfl rfl hl.1 rfl (lv_room (Nat.le_of_ble_eq_true rfl)) dX6_sort_117 ⟨Nat.zero_le _, Nat.zero_le _⟩) hS (fun locs hS => ?_)
                refine lv_dup2_11 hx hb dX6_sort_120 rfl rfl ?_
                refine va_iald hx hb hk.1 hP 1 0 (wM_1 _ _ _) rfl (mXB (w := 1) (mB_nI (by omega)) (by decide)) dX6_sort_121 ?_
                refine lv_iload hx hb dX6_sort_122 (lv_at hl 0 rfl) ?_
                refine lv_iadd hx hb dX6_sort_124 ?_
                refine va_iast hx hb hk.1 hP (wM_D hq) hS 1 0 (wM_1 _ _ _) rfl (mXB (w := 1) (mB_nI (by omega)) (by decide)) dX6_sort_125 (fun H locs hP _ hS => ?_)
                have hP : va_P D vwCl (wM cI q (badd (bsub u55 0 (F6_brandAt (nI j55) 4).toNatClampNeg (F6_least x3_55 (F6_of u55 (nI j55) 4))) 0 (F6_brandAt (nI j55) 1).toNatClampNeg (F6_least x3_55 (F6_of u55 (nI j55) 4)))) H := pM_0a hP
                have hI_14 : mInv (badd (bsub u55 0 (F6_brandAt (nI j55) 4).toNatClampNeg (F6_least x3_55 (F6_of u55 (nI j55) 4))) 0 (F6_brandAt (nI j55) 1).toNatClampNeg (F6_least x3_55 (F6_of u55 (nI j55) 4))) := mInv_B (w := 1) hI_13 (mB_nI (by omega)) (by decide) (by decide)
                refine lv_iload_n hx hb dX6_sort_126 rfl (lv_at hl 4 rfl) ?_
                refine lv_iload hx hb dX6_sort_127 (lv_at hl 0 rfl) ?_
                refine lv_isub hx hb dX6_sort_129 ?_
                refine lv_istore_n (lv' := [(3, .int (x3_55 - (F6_least x3_55 (F6_of u55 (nI j55) 4)))), (5, .int (F6_least x3_55 (F6_of u55 (nI j55) 4))), (0, .ref (q 0)), (1, .int a1), (2, .int a2), (4, .int (nI j55))]) hx hb dX6_sort_130 rfl hl (by decide) rfl (fun ls hl => ?_)
                refine lv_iinc (v := (nI (j55 + 1))) (lv' := [(4, .int (nI (j55 + 1))), (3, .int (x3_55 - (F6_least x3_55 (F6_of u55 (nI j55) 4)))), (5, .int (F6_least x3_55 (F6_of u55 (nI j55) 4))), (0, .ref (q 0)), (1, .int a1), (2, .int a2)]) hx hb dX6_sort_131 hl (k := 5) rfl (bInc j55) (by decide) rfl (fun ls hl => ?_)
                refine lv_goto (tgt := 55) hx hb dX6_sort_134 (by decide) ?_
                exact ih (j55 + 1) (x3_55 - (F6_least x3_55 (F6_of u55 (nI j55) 4))) (badd (bsub u55 0 (F6_brandAt (nI j55) 4).toNatClampNeg (F6_least x3_55 (F6_of u55 (nI j55) 4))) 0 (F6_brandAt (nI j55) 1).toNatClampNeg (F6_least x3_55 (F6_of u55 (nI j55) 4))) _ _ _ (by omega) (by omega) ((mKeep0 (w := 1) (mB_nI (by omega)) (by decide)).trans ((mKeep0 (w := 4) (mB_nI (by omega)) (by decide)).trans hinv)) (lv_sub hl [3, 4, 5, 1, 0] rfl) hP hI_14 hS X (by rw [← hF, L6_sort_55, if_neg c_8, if_pos c_10]) kx
        refine loop55 (((F6_save (bput u 6 2 0)) 0 0).toNatClampNeg + 1) 0 a2 (F6_save (bput u 6 2 0)) _ _ _ (by omega) (by omega) rfl (lv_sub hl [2, 3, 4, 1, 0] rfl) hP hI_7 hS _ rfl (fun H locs ls hl hP hI hS => ?_)
        have hI_15 : mInv (L6_sort_55 a1 (F6_save (bput u 6 2 0)) (((F6_save (bput u 6 2 0)) 0 0).toNatClampNeg + 1) 0 a2).2 := hI
        refine lv_aload_n hx hb dX6_sort_137 rfl (lv_at hl 0 rfl) ?_
        refine lv_iload_n hx hb dX6_sort_138 rfl (lv_at hl 1 rfl) ?_
        refine bcall_Ri (va_runV (As := [.int a1]) (rest := []) ⟨hx, hb, hml, hown, hts⟩ (C6_yardOf l D cI q _ _ hP hI_15 a1) (cwV 1 hts gX6_sort_X6_yardOf rfl rfl rfl ⟨rfl, bd_X6yardOf⟩ ⟨Nat.le_of_ble_eq_true rfl, Nat.le_of_ble_eq_true rfl⟩) (bPV hk (va_recv hk.1 hP (ci := 6) (q0 := 0) rfl (wM_0 _ _ _))) rfl rfl hl.1 rfl (lv_room (Nat.le_of_ble_eq_true rfl)) dX6_sort_139 ⟨Nat.zero_le _, Nat.zero_le _⟩) hS (fun locs hS => ?_)
        exact bret_Wi hx hb hr hP hI_15 hS hlocks dX6_sort_142 (by rw [← hF, F6_sort, if_neg c_2, if_neg c_5, if_pos c_6])
      · refine lv_aload_n hx hb dX6_sort_40 rfl (lv_at hl 0 rfl) ?_
        refine lv_iconst (v := 2) hx hb dX6_sort_41 (by decide) ?_
        refine bcall_Wi (va_runV (As := [.int 2]) (rest := []) ⟨hx, hb, hml, hown, hts⟩ (C6_fails l D cI q _ _ hq hP hI_1 2) (cwV 1 hts gX6_sort_X6_fails rfl rfl rfl ⟨rfl, bd_X6fails⟩ ⟨Nat.le_of_ble_eq_true rfl, Nat.le_of_ble_eq_true rfl⟩) (bPV hk (va_recv hk.1 hP (ci := 6) (q0 := 0) rfl (wM_0 _ _ _))) rfl rfl hl.1 rfl (lv_room (Nat.le_of_ble_eq_true rfl)) dX6_sort_42 ⟨Nat.zero_le _, Nat.zero_le _⟩) hS (fun H locs hP hI_16 hS => ?_)
        exact bret_Wi hx hb hr hP hI_16 hS hlocks dX6_sort_45 (by rw [← hF, F6_sort, if_neg c_2, if_neg c_5, if_neg c_6])
    · refine lv_aload_n hx hb dX6_sort_25 rfl (lv_at hl 0 rfl) ?_
      refine lv_iconst (v := 1) hx hb dX6_sort_26 (by decide) ?_
      refine bcall_Wi (va_runV (As := [.int 1]) (rest := []) ⟨hx, hb, hml, hown, hts⟩ (C6_fails l D cI q _ _ hq hP hI_1 1) (cwV 1 hts gX6_sort_X6_fails rfl rfl rfl ⟨rfl, bd_X6fails⟩ ⟨Nat.le_of_ble_eq_true rfl, Nat.le_of_ble_eq_true rfl⟩) (bPV hk (va_recv hk.1 hP (ci := 6) (q0 := 0) rfl (wM_0 _ _ _))) rfl rfl hl.1 rfl (lv_room (Nat.le_of_ble_eq_true rfl)) dX6_sort_27 ⟨Nat.zero_le _, Nat.zero_le _⟩) hS (fun H locs hP hI_17 hS => ?_)
      exact bret_Wi hx hb hr hP hI_17 hS hlocks dX6_sort_30 (by rw [← hF, F6_sort, if_neg c_2, if_pos c_5])
def F6_swap (u : bU) (a1 : Int32) (a2 : Int32) (a3 : Int32) : Int32 × bU := (if (F6_isBrand (bput u 6 2 0) a1) = 0 then ((F6_fails (bput u 6 2 0) 1).1, (F6_fails (bput u 6 2 0) 1).2) else (if (F6_isBrand (bput u 6 2 0) a2) = 0 then ((F6_fails (bput u 6 2 0) 1).1, (F6_fails (bput u 6 2 0) 1).2) else (if a1 = a2 then ((F6_fails (bput u 6 2 0) 2).1, (F6_fails (bput u 6 2 0) 2).2) else (if (F6_of (bput u 6 2 0) a1 0) = (F6_of (bput u 6 2 0) a2 0) then (if (F6_in a3 1 5000) = 0 then ((F6_fails (bput u 6 2 0) 2).1, (F6_fails (bput u 6 2 0) 2).2) else (if a3 ≤ (F6_of (bput u 6 2 0) a1 1) then ((((badd (bsub (badd (badd (bsub (F6_save (bput u 6 2 0)) 0 (F6_brandAt a1 1).toNatClampNeg a3) 0 (F6_brandAt a2 1).toNatClampNeg a3) 0 (F6_brandAt a1 9).toNatClampNeg a3) 0 (F6_brandAt a2 9).toNatClampNeg a3) 0 ((219 + (8 * a1)) + a2).toNatClampNeg a3) 0 ((219 + (8 * a1)) + a2).toNatClampNeg) - ((badd (bsub (badd (badd (bsub (F6_save (bput u 6 2 0)) 0 (F6_brandAt a1 1).toNatClampNeg a3) 0 (F6_brandAt a2 1).toNatClampNeg a3) 0 (F6_brandAt a1 9).toNatClampNeg a3) 0 (F6_brandAt a2 9).toNatClampNeg a3) 0 ((219 + (8 * a1)) + a2).toNatClampNeg a3) 0 ((219 + (8 * a2)) + a1).toNatClampNeg)), (badd (bsub (badd (badd (bsub (F6_save (bput u 6 2 0)) 0 (F6_brandAt a1 1).toNatClampNeg a3) 0 (F6_brandAt a2 1).toNatClampNeg a3) 0 (F6_brandAt a1 9).toNatClampNeg a3) 0 (F6_brandAt a2 9).toNatClampNeg a3) 0 ((219 + (8 * a1)) + a2).toNatClampNeg a3)) else ((F6_fails (bput u 6 2 0) 3).1, (F6_fails (bput u 6 2 0) 3).2))) else ((F6_fails (bput u 6 2 0) 2).1, (F6_fails (bput u 6 2 0) 2).2)))))
set_option maxHeartbeats 4000000 in
set_option maxRecDepth 100000 in
theorem C6_swap (l : Launch) (D : va_G) (cI : ClassId) (q : Nat → Nat) (u : bU) (H0 : Heap) (hq : bInj 7 q) (hP : va_P D vwCl (wM cI q u) H0) (hI : mInv u) (a1 : Int32) (a2 : Int32) (a3 : Int32) : Met l yX6_swap wsX6_swap ({ frames := 2, cells := 0, slots := 0, locals := 43 }) (bP D [(cI, .int)] H0 [.ref (q 0), .int a1, .int a2, .int a3]) (bWi D (wM cI q) mInv (bA 7 q H0.size) (F6_swap u a1 a2 a3)) 0 0 (bA 7 q H0.size) := by
  refine Met.ofW (cc := cX6_swap) (maxL := 4) (ret := (some .int)) (by decide) rfl ?_
  intro p e s m args below meth c s₁ B hml hv
  obtain ⟨rfl, hH, hk⟩ := hv
  subst hH
  have hx := B.exec
  have hb := B.bytes
  have hr := B.returns
  have hts := atoms_spec (ws := wsX6_swap) B.pre
  have hown : s.vm.findClass RX6 = some m.cls := findClass_of_methodNamed B.named
  have hlocks := B.notSynchronized
  have hNB := mNB hI
  have hNS := mNS hI
  have hI0 := hI
  have iX6 : ∀ w ∈ wsX60, w ∈ wsX6_swap := by decide +kernel
  have hS : va_S (bA 7 q s.heap.size) s.heap s.heap [] := va_S.rf
  have hl := lv_entry ([.ref (q 0), .int a1, .int a2, .int a3]) (n := 4) (Nat.le_of_ble_eq_true rfl)
  rw [lg_entry_eq]
  generalize (lg_sl ([.ref (q 0), .int a1, .int a2, .int a3]) ++ List.replicate (4 - (lg_sl ([.ref (q 0), .int a1, .int a2, .int a3])).length) Slot.unset).toArray = ls at hl ⊢
  have hl : lv_has ls 4 [(0, .ref (q 0)), (1, .int a1), (2, .int a2), (3, .int a3)] := hl
  generalize hF : F6_swap u a1 a2 a3 = tgt
  refine lv_aload_n hx hb dX6_swap_0 rfl (lv_at hl 0 rfl) ?_
  refine lv_iconst (v := 0) hx hb dX6_swap_1 (by decide) ?_
  refine va_put (D := D) (ci := 6) (v := .int 0) (ty := .int) (C := RX6) (T := TX6) (N := 16) hx hb hts iX6 tyX6 tyX6_ok nmX6 hown hk.1 hP (wM_D hq) hS 0 (wM_0 _ _ _) rfl 6 (by decide) (hts (.fieldLink RX6 28 "BottleLoopModel" "thrown" "I") (List.mem_of_getElem? (i := 1) rfl)) (fun _ h9 => h9) rfl (by decide +kernel) rfl rfl (Nat.le_of_ble_eq_true rfl) dX6_swap_2 (fun H locs hP _ hS => ?_)
  have hP : va_P D vwCl (wM cI q (bput u 6 2 0)) H := pM_f2 hP
  have hI_1 : mInv (bput u 6 2 0) := mInv_sc (k := 2) hI (by decide) (by decide) (by decide)
  refine lv_aload_n hx hb dX6_swap_5 rfl (lv_at hl 0 rfl) ?_
  refine lv_iload_n hx hb dX6_swap_6 rfl (lv_at hl 1 rfl) ?_
  refine bcall_Ri (va_runV (As := [.int a1]) (rest := []) ⟨hx, hb, hml, hown, hts⟩ (C6_isBrand l D cI q _ _ hP hI_1 a1) (cwV 1 hts gX6_swap_X6_isBrand rfl rfl rfl ⟨rfl, bd_X6isBrand⟩ ⟨Nat.le_of_ble_eq_true rfl, Nat.le_of_ble_eq_true rfl⟩) (bPV hk (va_recv hk.1 hP (ci := 6) (q0 := 0) rfl (wM_0 _ _ _))) rfl rfl hl.1 rfl (lv_room (Nat.le_of_ble_eq_true rfl)) dX6_swap_7 ⟨Nat.zero_le _, Nat.zero_le _⟩) hS (fun locs hS => ?_)
  refine lv_if_eq (tgt := 21) hx hb dX6_swap_10 (by decide) (fun c_2 => ?_) (fun c_2 => ?_)
  · refine lv_aload_n hx hb dX6_swap_21 rfl (lv_at hl 0 rfl) ?_
    refine lv_iconst (v := 1) hx hb dX6_swap_22 (by decide) ?_
    refine bcall_Wi (va_runV (As := [.int 1]) (rest := []) ⟨hx, hb, hml, hown, hts⟩ (C6_fails l D cI q _ _ hq hP hI_1 1) (cwV 1 hts gX6_swap_X6_fails rfl rfl rfl ⟨rfl, bd_X6fails⟩ ⟨Nat.le_of_ble_eq_true rfl, Nat.le_of_ble_eq_true rfl⟩) (bPV hk (va_recv hk.1 hP (ci := 6) (q0 := 0) rfl (wM_0 _ _ _))) rfl rfl hl.1 rfl (lv_room (Nat.le_of_ble_eq_true rfl)) dX6_swap_23 ⟨Nat.zero_le _, Nat.zero_le _⟩) hS (fun H locs hP hI_3 hS => ?_)
    exact bret_Wi hx hb hr hP hI_3 hS hlocks dX6_swap_26 (by rw [← hF, F6_swap, if_pos c_2])
  · have hm_4 : mB a1 := mB_is hI_1 c_2
    refine lv_aload_n hx hb dX6_swap_13 rfl (lv_at hl 0 rfl) ?_
    refine lv_iload_n hx hb dX6_swap_14 rfl (lv_at hl 2 rfl) ?_
    refine bcall_Ri (va_runV (As := [.int a2]) (rest := []) ⟨hx, hb, hml, hown, hts⟩ (C6_isBrand l D cI q _ _ hP hI_1 a2) (cwV 1 hts gX6_swap_X6_isBrand rfl rfl rfl ⟨rfl, bd_X6isBrand⟩ ⟨Nat.le_of_ble_eq_true rfl, Nat.le_of_ble_eq_true rfl⟩) (bPV hk (va_recv hk.1 hP (ci := 6) (q0 := 0) rfl (wM_0 _ _ _))) rfl rfl hl.1 rfl (lv_room (Nat.le_of_ble_eq_true rfl)) dX6_swap_15 ⟨Nat.zero_le _, Nat.zero_le _⟩) hS (fun locs hS => ?_)
    refine lv_if_ne (tgt := 27) hx hb dX6_swap_18 (by decide) (fun c_5 => ?_) (fun c_5 => ?_)
    · have hm_6 : mB a2 := mB_is hI_1 c_5
      refine lv_iload_n hx hb dX6_swap_27 rfl (lv_at hl 1 rfl) ?_
      refine lv_iload_n hx hb dX6_swap_28 rfl (lv_at hl 2 rfl) ?_
      refine lv_icmp_eq (tgt := 58) hx hb dX6_swap_29 (by decide) (fun c_7 => ?_) (fun c_7 => ?_)
      · refine lv_aload_n hx hb dX6_swap_58 rfl (lv_at hl 0 rfl) ?_
        refine lv_iconst (v := 2) hx hb dX6_swap_59 (by decide) ?_
        refine bcall_Wi (va_runV (As := [.int 2]) (rest := []) ⟨hx, hb, hml, hown, hts⟩ (C6_fails l D cI q _ _ hq hP hI_1 2) (cwV 1 hts gX6_swap_X6_fails rfl rfl rfl ⟨rfl, bd_X6fails⟩ ⟨Nat.le_of_ble_eq_true rfl, Nat.le_of_ble_eq_true rfl⟩) (bPV hk (va_recv hk.1 hP (ci := 6) (q0 := 0) rfl (wM_0 _ _ _))) rfl rfl hl.1 rfl (lv_room (Nat.le_of_ble_eq_true rfl)) dX6_swap_60 ⟨Nat.zero_le _, Nat.zero_le _⟩) hS (fun H locs hP hI_8 hS => ?_)
        exact bret_Wi hx hb hr hP hI_8 hS hlocks dX6_swap_63 (by rw [← hF, F6_swap, if_neg c_2, if_neg c_5, if_pos c_7])
      · refine lv_aload_n hx hb dX6_swap_32 rfl (lv_at hl 0 rfl) ?_
        refine lv_iload_n hx hb dX6_swap_33 rfl (lv_at hl 1 rfl) ?_
        refine lv_iconst (v := 0) hx hb dX6_swap_34 (by decide) ?_
        refine bcall_Ri (va_runV (As := [.int a1, .int 0]) (rest := []) ⟨hx, hb, hml, hown, hts⟩ (C6_of l D cI q _ _ hP hI_1 a1 0 (mXB (w := 0) hm_4 (by decide))) (cwV 2 hts gX6_swap_X6_of rfl rfl rfl ⟨rfl, bd_X6of⟩ ⟨Nat.le_of_ble_eq_true rfl, Nat.le_of_ble_eq_true rfl⟩) (bPV hk (va_recv hk.1 hP (ci := 6) (q0 := 0) rfl (wM_0 _ _ _))) rfl rfl hl.1 rfl (lv_room (Nat.le_of_ble_eq_true rfl)) dX6_swap_35 ⟨Nat.zero_le _, Nat.zero_le _⟩) hS (fun locs hS => ?_)
        refine lv_aload_n hx hb dX6_swap_38 rfl (lv_at hl 0 rfl) ?_
        refine lv_iload_n hx hb dX6_swap_39 rfl (lv_at hl 2 rfl) ?_
        refine lv_iconst (v := 0) hx hb dX6_swap_40 (by decide) ?_
        refine bcall_Ri (va_runV (As := [.int a2, .int 0]) (rest := [.int (F6_of (bput u 6 2 0) a1 0)]) ⟨hx, hb, hml, hown, hts⟩ (C6_of l D cI q _ _ hP hI_1 a2 0 (mXB (w := 0) hm_6 (by decide))) (cwV 2 hts gX6_swap_X6_of rfl rfl rfl ⟨rfl, bd_X6of⟩ ⟨Nat.le_of_ble_eq_true rfl, Nat.le_of_ble_eq_true rfl⟩) (bPV hk (va_recv hk.1 hP (ci := 6) (q0 := 0) rfl (wM_0 _ _ _))) rfl rfl hl.1 rfl (lv_room (Nat.le_of_ble_eq_true rfl)) dX6_swap_41 ⟨Nat.zero_le _, Nat.zero_le _⟩) hS (fun locs hS => ?_)
        refine lv_icmp_ne (tgt := 58) hx hb dX6_swap_44 (by decide) (fun c_9 => ?_) (fun c_9 => ?_)
        · refine lv_aload_n hx hb dX6_swap_58 rfl (lv_at hl 0 rfl) ?_
          refine lv_iconst (v := 2) hx hb dX6_swap_59 (by decide) ?_
          refine bcall_Wi (va_runV (As := [.int 2]) (rest := []) ⟨hx, hb, hml, hown, hts⟩ (C6_fails l D cI q _ _ hq hP hI_1 2) (cwV 1 hts gX6_swap_X6_fails rfl rfl rfl ⟨rfl, bd_X6fails⟩ ⟨Nat.le_of_ble_eq_true rfl, Nat.le_of_ble_eq_true rfl⟩) (bPV hk (va_recv hk.1 hP (ci := 6) (q0 := 0) rfl (wM_0 _ _ _))) rfl rfl hl.1 rfl (lv_room (Nat.le_of_ble_eq_true rfl)) dX6_swap_60 ⟨Nat.zero_le _, Nat.zero_le _⟩) hS (fun H locs hP hI_10 hS => ?_)
          exact bret_Wi hx hb hr hP hI_10 hS hlocks dX6_swap_63 (by rw [← hF, F6_swap, if_neg c_2, if_neg c_5, if_neg c_7, if_neg c_9])
        · refine lv_iload_n hx hb dX6_swap_47 rfl (lv_at hl 3 rfl) ?_
          refine lv_iconst (v := 1) hx hb dX6_swap_48 (by decide) ?_
          refine lv_sipush (v := 5000) hx hb dX6_swap_49 (by decide) ?_
          refine bcall_Ri (va_runS (As := [.int a3, .int 1, .int 5000]) (rest := []) ⟨hx, hb, hml, hown, hts⟩ (C6_in l D cI q _ a3 1 5000) (va_cwS 3 hts gX6_swap_X6_in rfl rfl rfl bd_X6in ⟨Nat.le_of_ble_eq_true rfl, Nat.le_of_ble_eq_true rfl⟩) (bPS hk) rfl rfl hl.1 rfl (lv_room (Nat.le_of_ble_eq_true rfl)) dX6_swap_52 ⟨Nat.zero_le _, Nat.zero_le _⟩) hS (fun locs hS => ?_)
          refine lv_if_ne (tgt := 64) hx hb dX6_swap_55 (by decide) (fun c_11 => ?_) (fun c_11 => ?_)
          · refine lv_aload_n hx hb dX6_swap_64 rfl (lv_at hl 0 rfl) ?_
            refine lv_iload_n hx hb dX6_swap_65 rfl (lv_at hl 1 rfl) ?_
            refine lv_iconst (v := 1) hx hb dX6_swap_66 (by decide) ?_
            refine bcall_Ri (va_runV (As := [.int a1, .int 1]) (rest := []) ⟨hx, hb, hml, hown, hts⟩ (C6_of l D cI q _ _ hP hI_1 a1 1 (mXB (w := 1) hm_4 (by decide))) (cwV 2 hts gX6_swap_X6_of rfl rfl rfl ⟨rfl, bd_X6of⟩ ⟨Nat.le_of_ble_eq_true rfl, Nat.le_of_ble_eq_true rfl⟩) (bPV hk (va_recv hk.1 hP (ci := 6) (q0 := 0) rfl (wM_0 _ _ _))) rfl rfl hl.1 rfl (lv_room (Nat.le_of_ble_eq_true rfl)) dX6_swap_67 ⟨Nat.zero_le _, Nat.zero_le _⟩) hS (fun locs hS => ?_)
            refine lv_iload_n hx hb dX6_swap_70 rfl (lv_at hl 3 rfl) ?_
            refine lv_icmp_ge (tgt := 80) hx hb dX6_swap_71 (by decide) (fun c_12 => ?_) (fun c_12 => ?_)
            · refine lv_aload_n hx hb dX6_swap_80 rfl (lv_at hl 0 rfl) ?_
              refine bcall_Wv (va_runV (As := []) (rest := []) ⟨hx, hb, hml, hown, hts⟩ (C6_save l D cI q _ _ hq hP hI_1 ) (cwV 0 hts gX6_swap_X6_save rfl rfl rfl ⟨rfl, bd_X6save⟩ ⟨Nat.le_of_ble_eq_true rfl, Nat.le_of_ble_eq_true rfl⟩) (bPV hk (va_recv hk.1 hP (ci := 6) (q0 := 0) rfl (wM_0 _ _ _))) rfl rfl hl.1 rfl (lv_room (Nat.le_of_ble_eq_true rfl)) dX6_swap_81 ⟨Nat.zero_le _, Nat.zero_le _⟩) hS (fun H locs hP hI_13 hS => ?_)
              refine lv_aload_n hx hb dX6_swap_84 rfl (lv_at hl 0 rfl) ?_
              refine va_get (D := D) (ci := 6) (C := RX6) (T := TX6) (N := 16) hx hb hts iX6 hown hk.1 hP 0 (wM_0 _ _ _) rfl 0 (by decide) (hts (.fieldLink RX6 7 "BottleLoopModel" "v" "[I") (List.mem_of_getElem? (i := 2) rfl)) (fun _ h9 => h9) rfl dX6_swap_85 ?_
              refine lv_iload_n hx hb dX6_swap_88 rfl (lv_at hl 1 rfl) ?_
              refine lv_iconst (v := 1) hx hb dX6_swap_89 (by decide) ?_
              refine bcall_Ri (va_runS (As := [.int a1, .int 1]) (rest := [.ref (q 1)]) ⟨hx, hb, hml, hown, hts⟩ (C6_brandAt l D cI q _ a1 1) (va_cwS 2 hts gX6_swap_X6_brandAt rfl rfl rfl bd_X6brandAt ⟨Nat.le_of_ble_eq_true rfl, Nat.le_of_ble_eq_true rfl⟩) (bPS hk) rfl rfl hl.1 rfl (lv_room (Nat.le_of_ble_eq_true rfl)) dX6_swap_90 ⟨Nat.zero_le _, Nat.zero_le _⟩) hS (fun locs hS => ?_)
              refine lv_dup2_11 hx hb dX6_swap_93 rfl rfl ?_
              refine va_iald hx hb hk.1 hP 1 0 (wM_1 _ _ _) rfl (mXB (w := 1) hm_4 (by decide)) dX6_swap_94 ?_
              refine lv_iload_n hx hb dX6_swap_95 rfl (lv_at hl 3 rfl) ?_
              refine lv_isub hx hb dX6_swap_96 ?_
              refine va_iast hx hb hk.1 hP (wM_D hq) hS 1 0 (wM_1 _ _ _) rfl (mXB (w := 1) hm_4 (by decide)) dX6_swap_97 (fun H locs hP _ hS => ?_)
              have hP : va_P D vwCl (wM cI q (bsub (F6_save (bput u 6 2 0)) 0 (F6_brandAt a1 1).toNatClampNeg a3)) H := pM_0s hP
              have hI_14 : mInv (bsub (F6_save (bput u 6 2 0)) 0 (F6_brandAt a1 1).toNatClampNeg a3) := mInv_B (w := 1) hI_13 hm_4 (by decide) (by decide)
              refine lv_aload_n hx hb dX6_swap_98 rfl (lv_at hl 0 rfl) ?_
              refine va_get (D := D) (ci := 6) (C := RX6) (T := TX6) (N := 16) hx hb hts iX6 hown hk.1 hP 0 (wM_0 _ _ _) rfl 0 (by decide) (hts (.fieldLink RX6 7 "BottleLoopModel" "v" "[I") (List.mem_of_getElem? (i := 2) rfl)) (fun _ h9 => h9) rfl dX6_swap_99 ?_
              refine lv_iload_n hx hb dX6_swap_102 rfl (lv_at hl 2 rfl) ?_
              refine lv_iconst (v := 1) hx hb dX6_swap_103 (by decide) ?_
              refine bcall_Ri (va_runS (As := [.int a2, .int 1]) (rest := [.ref (q 1)]) ⟨hx, hb, hml, hown, hts⟩ (C6_brandAt l D cI q _ a2 1) (va_cwS 2 hts gX6_swap_X6_brandAt rfl rfl rfl bd_X6brandAt ⟨Nat.le_of_ble_eq_true rfl, Nat.le_of_ble_eq_true rfl⟩) (bPS hk) rfl rfl hl.1 rfl (lv_room (Nat.le_of_ble_eq_true rfl)) dX6_swap_104 ⟨Nat.zero_le _, Nat.zero_le _⟩) hS (fun locs hS => ?_)
              refine lv_dup2_11 hx hb dX6_swap_107 rfl rfl ?_
              refine va_iald hx hb hk.1 hP 1 0 (wM_1 _ _ _) rfl (mXB (w := 1) hm_6 (by decide)) dX6_swap_108 ?_
              refine lv_iload_n hx hb dX6_swap_109 rfl (lv_at hl 3 rfl) ?_
              refine lv_iadd hx hb dX6_swap_110 ?_
              refine va_iast hx hb hk.1 hP (wM_D hq) hS 1 0 (wM_1 _ _ _) rfl (mXB (w := 1) hm_6 (by decide)) dX6_swap_111 (fun H locs hP _ hS => ?_)
              have hP : va_P D vwCl (wM cI q (badd (bsub (F6_save (bput u 6 2 0)) 0 (F6_brandAt a1 1).toNatClampNeg a3) 0 (F6_brandAt a2 1).toNatClampNeg a3)) H := pM_0a hP
              have hI_15 : mInv (badd (bsub (F6_save (bput u 6 2 0)) 0 (F6_brandAt a1 1).toNatClampNeg a3) 0 (F6_brandAt a2 1).toNatClampNeg a3) := mInv_B (w := 1) hI_14 hm_6 (by decide) (by decide)
              refine lv_aload_n hx hb dX6_swap_112 rfl (lv_at hl 0 rfl) ?_
              refine va_get (D := D) (ci := 6) (C := RX6) (T := TX6) (N := 16) hx hb hts iX6 hown hk.1 hP 0 (wM_0 _ _ _) rfl 0 (by decide) (hts (.fieldLink RX6 7 "BottleLoopModel" "v" "[I") (List.mem_of_getElem? (i := 2) rfl)) (fun _ h9 => h9) rfl dX6_swap_113 ?_
              refine lv_iload_n hx hb dX6_swap_116 rfl (lv_at hl 1 rfl) ?_
              refine lv_bipush (v := 9) hx hb dX6_swap_117 (by decide) ?_
              refine bcall_Ri (va_runS (As := [.int a1, .int 9]) (rest := [.ref (q 1)]) ⟨hx, hb, hml, hown, hts⟩ (C6_brandAt l D cI q _ a1 9) (va_cwS 2 hts gX6_swap_X6_brandAt rfl rfl rfl bd_X6brandAt ⟨Nat.le_of_ble_eq_true rfl, Nat.le_of_ble_eq_true rfl⟩) (bPS hk) rfl rfl hl.1 rfl (lv_room (Nat.le_of_ble_eq_true rfl)) dX6_swap_119 ⟨Nat.zero_le _, Nat.zero_le _⟩) hS (fun locs hS => ?_)
              refine lv_dup2_11 hx hb dX6_swap_122 rfl rfl ?_
              refine va_iald hx hb hk.1 hP 1 0 (wM_1 _ _ _) rfl (mXB (w := 9) hm_4 (by decide)) dX6_swap_123 ?_
              refine lv_iload_n hx hb dX6_swap_124 rfl (lv_at hl 3 rfl) ?_
              refine lv_iadd hx hb dX6_swap_125 ?_
              refine va_iast hx hb hk.1 hP (wM_D hq) hS 1 0 (wM_1 _ _ _) rfl (mXB (w := 9) hm_4 (by decide)) dX6_swap_126 (fun H locs hP _ hS => ?_)
              have hP : va_P D vwCl (wM cI q (badd (badd (bsub (F6_save (bput u 6 2 0)) 0 (F6_brandAt a1 1).toNatClampNeg a3) 0 (F6_brandAt a2 1).toNatClampNeg a3) 0 (F6_brandAt a1 9).toNatClampNeg a3)) H := pM_0a hP
              have hI_16 : mInv (badd (badd (bsub (F6_save (bput u 6 2 0)) 0 (F6_brandAt a1 1).toNatClampNeg a3) 0 (F6_brandAt a2 1).toNatClampNeg a3) 0 (F6_brandAt a1 9).toNatClampNeg a3) := mInv_B (w := 9) hI_15 hm_4 (by decide) (by decide)
              refine lv_aload_n hx hb dX6_swap_127 rfl (lv_at hl 0 rfl) ?_
              refine va_get (D := D) (ci := 6) (C := RX6) (T := TX6) (N := 16) hx hb hts iX6 hown hk.1 hP 0 (wM_0 _ _ _) rfl 0 (by decide) (hts (.fieldLink RX6 7 "BottleLoopModel" "v" "[I") (List.mem_of_getElem? (i := 2) rfl)) (fun _ h9 => h9) rfl dX6_swap_128 ?_
              refine lv_iload_n hx hb dX6_swap_131 rfl (lv_at hl 2 rfl) ?_
              refine lv_bipush (v := 9) hx hb dX6_swap_132 (by decide) ?_
              refine bcall_Ri (va_runS (As := [.int a2, .int 9]) (rest := [.ref (q 1)]) ⟨hx, hb, hml, hown, hts⟩ (C6_brandAt l D cI q _ a2 9) (va_cwS 2 hts gX6_swap_X6_brandAt rfl rfl rfl bd_X6brandAt ⟨Nat.le_of_ble_eq_true rfl, Nat.le_of_ble_eq_true rfl⟩) (bPS hk) rfl rfl hl.1 rfl (lv_room (Nat.le_of_ble_eq_true rfl)) dX6_swap_134 ⟨Nat.zero_le _, Nat.zero_le _⟩) hS (fun locs hS => ?_)
              refine lv_dup2_11 hx hb dX6_swap_137 rfl rfl ?_
              refine va_iald hx hb hk.1 hP 1 0 (wM_1 _ _ _) rfl (mXB (w := 9) hm_6 (by decide)) dX6_swap_138 ?_
              refine lv_iload_n hx hb dX6_swap_139 rfl (lv_at hl 3 rfl) ?_
              refine lv_isub hx hb dX6_swap_140 ?_
              refine va_iast hx hb hk.1 hP (wM_D hq) hS 1 0 (wM_1 _ _ _) rfl (mXB (w := 9) hm_6 (by decide)) dX6_swap_141 (fun H locs hP _ hS => ?_)
              have hP : va_P D vwCl (wM cI q (bsub (badd (badd (bsub (F6_save (bput u 6 2 0)) 0 (F6_brandAt a1 1).toNatClampNeg a3) 0 (F6_brandAt a2 1).toNatClampNeg a3) 0 (F6_brandAt a1 9).toNatClampNeg a3) 0 (F6_brandAt a2 9).toNatClampNeg a3)) H := pM_0s hP
              have hI_17 : mInv (bsub (badd (badd (bsub (F6_save (bput u 6 2 0)) 0 (F6_brandAt a1 1).toNatClampNeg a3) 0 (F6_brandAt a2 1).toNatClampNeg a3) 0 (F6_brandAt a1 9).toNatClampNeg a3) 0 (F6_brandAt a2 9).toNatClampNeg a3) := mInv_B (w := 9) hI_16 hm_6 (by decide) (by decide)
              refine lv_aload_n hx hb dX6_swap_142 rfl (lv_at hl 0 rfl) ?_
              refine va_get (D := D) (ci := 6) (C := RX6) (T := TX6) (N := 16) hx hb hts iX6 hown hk.1 hP 0 (wM_0 _ _ _) rfl 0 (by decide) (hts (.fieldLink RX6 7 "BottleLoopModel" "v" "[I") (List.mem_of_getElem? (i := 2) rfl)) (fun _ h9 => h9) rfl dX6_swap_143 ?_
              refine lv_sipush (v := 219) hx hb dX6_swap_146 (by decide) ?_
              refine lv_bipush (v := 8) hx hb dX6_swap_149 (by decide) ?_
              refine lv_iload_n hx hb dX6_swap_151 rfl (lv_at hl 1 rfl) ?_
              refine lv_imul hx hb dX6_swap_152 ?_
              refine lv_iadd hx hb dX6_swap_153 ?_
              refine lv_iload_n hx hb dX6_swap_154 rfl (lv_at hl 2 rfl) ?_
              refine lv_iadd hx hb dX6_swap_155 ?_
              refine lv_dup2_11 hx hb dX6_swap_156 rfl rfl ?_
              refine va_iald hx hb hk.1 hP 1 0 (wM_1 _ _ _) rfl (mXG hm_4 hm_6) dX6_swap_157 ?_
              refine lv_iload_n hx hb dX6_swap_158 rfl (lv_at hl 3 rfl) ?_
              refine lv_iadd hx hb dX6_swap_159 ?_
              refine va_iast hx hb hk.1 hP (wM_D hq) hS 1 0 (wM_1 _ _ _) rfl (mXG hm_4 hm_6) dX6_swap_160 (fun H locs hP _ hS => ?_)
              have hP : va_P D vwCl (wM cI q (badd (bsub (badd (badd (bsub (F6_save (bput u 6 2 0)) 0 (F6_brandAt a1 1).toNatClampNeg a3) 0 (F6_brandAt a2 1).toNatClampNeg a3) 0 (F6_brandAt a1 9).toNatClampNeg a3) 0 (F6_brandAt a2 9).toNatClampNeg a3) 0 ((219 + (8 * a1)) + a2).toNatClampNeg a3)) H := pM_0a hP
              have hI_18 : mInv (badd (bsub (badd (badd (bsub (F6_save (bput u 6 2 0)) 0 (F6_brandAt a1 1).toNatClampNeg a3) 0 (F6_brandAt a2 1).toNatClampNeg a3) 0 (F6_brandAt a1 9).toNatClampNeg a3) 0 (F6_brandAt a2 9).toNatClampNeg a3) 0 ((219 + (8 * a1)) + a2).toNatClampNeg a3) := mInv_G hI_17 hm_4 hm_6
              refine lv_aload_n hx hb dX6_swap_161 rfl (lv_at hl 0 rfl) ?_
              refine va_get (D := D) (ci := 6) (C := RX6) (T := TX6) (N := 16) hx hb hts iX6 hown hk.1 hP 0 (wM_0 _ _ _) rfl 0 (by decide) (hts (.fieldLink RX6 7 "BottleLoopModel" "v" "[I") (List.mem_of_getElem? (i := 2) rfl)) (fun _ h9 => h9) rfl dX6_swap_162 ?_
              refine lv_sipush (v := 219) hx hb dX6_swap_165 (by decide) ?_
              refine lv_bipush (v := 8) hx hb dX6_swap_168 (by decide) ?_
              refine lv_iload_n hx hb dX6_swap_170 rfl (lv_at hl 1 rfl) ?_
              refine lv_imul hx hb dX6_swap_171 ?_
              refine lv_iadd hx hb dX6_swap_172 ?_
              refine lv_iload_n hx hb dX6_swap_173 rfl (lv_at hl 2 rfl) ?_
              refine lv_iadd hx hb dX6_swap_174 ?_
              refine va_iald hx hb hk.1 hP 1 0 (wM_1 _ _ _) rfl (mXG hm_4 hm_6) dX6_swap_175 ?_
              refine lv_aload_n hx hb dX6_swap_176 rfl (lv_at hl 0 rfl) ?_
              refine va_get (D := D) (ci := 6) (C := RX6) (T := TX6) (N := 16) hx hb hts iX6 hown hk.1 hP 0 (wM_0 _ _ _) rfl 0 (by decide) (hts (.fieldLink RX6 7 "BottleLoopModel" "v" "[I") (List.mem_of_getElem? (i := 2) rfl)) (fun _ h9 => h9) rfl dX6_swap_177 ?_
              refine lv_sipush (v := 219) hx hb dX6_swap_180 (by decide) ?_
              refine lv_bipush (v := 8) hx hb dX6_swap_183 (by decide) ?_
              refine lv_iload_n hx hb dX6_swap_185 rfl (lv_at hl 2 rfl) ?_
              refine lv_imul hx hb dX6_swap_186 ?_
              refine lv_iadd hx hb dX6_swap_187 ?_
              refine lv_iload_n hx hb dX6_swap_188 rfl (lv_at hl 1 rfl) ?_
              refine lv_iadd hx hb dX6_swap_189 ?_
              refine va_iald hx hb hk.1 hP 1 0 (wM_1 _ _ _) rfl (mXG hm_6 hm_4) dX6_swap_190 ?_
              refine lv_isub hx hb dX6_swap_191 ?_
              exact bret_Wi hx hb hr hP hI_18 hS hlocks dX6_swap_192 (by rw [← hF, F6_swap, if_neg c_2, if_neg c_5, if_neg c_7, if_pos c_9, if_neg c_11, if_pos c_12])
            · refine lv_aload_n hx hb dX6_swap_74 rfl (lv_at hl 0 rfl) ?_
              refine lv_iconst (v := 3) hx hb dX6_swap_75 (by decide) ?_
              refine bcall_Wi (va_runV (As := [.int 3]) (rest := []) ⟨hx, hb, hml, hown, hts⟩ (C6_fails l D cI q _ _ hq hP hI_1 3) (cwV 1 hts gX6_swap_X6_fails rfl rfl rfl ⟨rfl, bd_X6fails⟩ ⟨Nat.le_of_ble_eq_true rfl, Nat.le_of_ble_eq_true rfl⟩) (bPV hk (va_recv hk.1 hP (ci := 6) (q0 := 0) rfl (wM_0 _ _ _))) rfl rfl hl.1 rfl (lv_room (Nat.le_of_ble_eq_true rfl)) dX6_swap_76 ⟨Nat.zero_le _, Nat.zero_le _⟩) hS (fun H locs hP hI_19 hS => ?_)
              exact bret_Wi hx hb hr hP hI_19 hS hlocks dX6_swap_79 (by rw [← hF, F6_swap, if_neg c_2, if_neg c_5, if_neg c_7, if_pos c_9, if_neg c_11, if_neg c_12])
          · refine lv_aload_n hx hb dX6_swap_58 rfl (lv_at hl 0 rfl) ?_
            refine lv_iconst (v := 2) hx hb dX6_swap_59 (by decide) ?_
            refine bcall_Wi (va_runV (As := [.int 2]) (rest := []) ⟨hx, hb, hml, hown, hts⟩ (C6_fails l D cI q _ _ hq hP hI_1 2) (cwV 1 hts gX6_swap_X6_fails rfl rfl rfl ⟨rfl, bd_X6fails⟩ ⟨Nat.le_of_ble_eq_true rfl, Nat.le_of_ble_eq_true rfl⟩) (bPV hk (va_recv hk.1 hP (ci := 6) (q0 := 0) rfl (wM_0 _ _ _))) rfl rfl hl.1 rfl (lv_room (Nat.le_of_ble_eq_true rfl)) dX6_swap_60 ⟨Nat.zero_le _, Nat.zero_le _⟩) hS (fun H locs hP hI_20 hS => ?_)
            exact bret_Wi hx hb hr hP hI_20 hS hlocks dX6_swap_63 (by rw [← hF, F6_swap, if_neg c_2, if_neg c_5, if_neg c_7, if_pos c_9, if_pos c_11])
    · refine lv_aload_n hx hb dX6_swap_21 rfl (lv_at hl 0 rfl) ?_
      refine lv_iconst (v := 1) hx hb dX6_swap_22 (by decide) ?_
      refine bcall_Wi (va_runV (As := [.int 1]) (rest := []) ⟨hx, hb, hml, hown, hts⟩ (C6_fails l D cI q _ _ hq hP hI_1 1) (cwV 1 hts gX6_swap_X6_fails rfl rfl rfl ⟨rfl, bd_X6fails⟩ ⟨Nat.le_of_ble_eq_true rfl, Nat.le_of_ble_eq_true rfl⟩) (bPV hk (va_recv hk.1 hP (ci := 6) (q0 := 0) rfl (wM_0 _ _ _))) rfl rfl hl.1 rfl (lv_room (Nat.le_of_ble_eq_true rfl)) dX6_swap_23 ⟨Nat.zero_le _, Nat.zero_le _⟩) hS (fun H locs hP hI_21 hS => ?_)
      exact bret_Wi hx hb hr hP hI_21 hS hlocks dX6_swap_26 (by rw [← hF, F6_swap, if_neg c_2, if_pos c_5])
def F6_append (u : bU) (a1 : Int32) : Int32 × bU := (if (F6_in a1 33 126) = 0 then ((F6_fails (bput u 6 2 0) 1).1, (F6_fails (bput u 6 2 0) 1).2) else (if ((bput u 6 2 0) 6 1) = (60 : Int32) then ((F6_fails (bput u 6 2 0) 2).1, (F6_fails (bput u 6 2 0) 2).2) else (((bput (bput (bput u 6 2 0) 3 ((bput u 6 2 0) 6 1).toNatClampNeg a1) 6 1 (((bput (bput u 6 2 0) 3 ((bput u 6 2 0) 6 1).toNatClampNeg a1) 6 1) + 1)) 6 1), (bput (bput (bput u 6 2 0) 3 ((bput u 6 2 0) 6 1).toNatClampNeg a1) 6 1 (((bput (bput u 6 2 0) 3 ((bput u 6 2 0) 6 1).toNatClampNeg a1) 6 1) + 1)))))
set_option maxHeartbeats 4000000 in
set_option maxRecDepth 100000 in
theorem C6_append (l : Launch) (D : va_G) (cI : ClassId) (q : Nat → Nat) (u : bU) (H0 : Heap) (hq : bInj 7 q) (hP : va_P D vwCl (wM cI q u) H0) (hI : mInv u) (a1 : Int32) : Met l yX6_append wsX6_append ({ frames := 1, cells := 0, slots := 0, locals := 22 }) (bP D [(cI, .int)] H0 [.ref (q 0), .int a1]) (bWi D (wM cI q) mInv (bA 7 q H0.size) (F6_append u a1)) 0 0 (bA 7 q H0.size) := by
  refine Met.ofW (cc := cX6_append) (maxL := 2) (ret := (some .int)) (by decide) rfl ?_
  intro p e s m args below meth c s₁ B hml hv
  obtain ⟨rfl, hH, hk⟩ := hv
  subst hH
  have hx := B.exec
  have hb := B.bytes
  have hr := B.returns
  have hts := atoms_spec (ws := wsX6_append) B.pre
  have hown : s.vm.findClass RX6 = some m.cls := findClass_of_methodNamed B.named
  have hlocks := B.notSynchronized
  have hNB := mNB hI
  have hNS := mNS hI
  have hI0 := hI
  have iX6 : ∀ w ∈ wsX60, w ∈ wsX6_append := by decide +kernel
  have hS : va_S (bA 7 q s.heap.size) s.heap s.heap [] := va_S.rf
  have hl := lv_entry ([.ref (q 0), .int a1]) (n := 2) (Nat.le_of_ble_eq_true rfl)
  rw [lg_entry_eq]
  generalize (lg_sl ([.ref (q 0), .int a1]) ++ List.replicate (2 - (lg_sl ([.ref (q 0), .int a1])).length) Slot.unset).toArray = ls at hl ⊢
  have hl : lv_has ls 2 [(0, .ref (q 0)), (1, .int a1)] := hl
  generalize hF : F6_append u a1 = tgt
  refine lv_aload_n hx hb dX6_append_0 rfl (lv_at hl 0 rfl) ?_
  refine lv_iconst (v := 0) hx hb dX6_append_1 (by decide) ?_
  refine va_put (D := D) (ci := 6) (v := .int 0) (ty := .int) (C := RX6) (T := TX6) (N := 16) hx hb hts iX6 tyX6 tyX6_ok nmX6 hown hk.1 hP (wM_D hq) hS 0 (wM_0 _ _ _) rfl 6 (by decide) (hts (.fieldLink RX6 28 "BottleLoopModel" "thrown" "I") (List.mem_of_getElem? (i := 1) rfl)) (fun _ h9 => h9) rfl (by decide +kernel) rfl rfl (Nat.le_of_ble_eq_true rfl) dX6_append_2 (fun H locs hP _ hS => ?_)
  have hP : va_P D vwCl (wM cI q (bput u 6 2 0)) H := pM_f2 hP
  have hI_1 : mInv (bput u 6 2 0) := mInv_sc (k := 2) hI (by decide) (by decide) (by decide)
  refine lv_iload_n hx hb dX6_append_5 rfl (lv_at hl 1 rfl) ?_
  refine lv_bipush (v := 33) hx hb dX6_append_6 (by decide) ?_
  refine lv_bipush (v := 126) hx hb dX6_append_8 (by decide) ?_
  refine bcall_Ri (va_runS (As := [.int a1, .int 33, .int 126]) (rest := []) ⟨hx, hb, hml, hown, hts⟩ (C6_in l D cI q _ a1 33 126) (va_cwS 3 hts gX6_append_X6_in rfl rfl rfl bd_X6in ⟨Nat.le_of_ble_eq_true rfl, Nat.le_of_ble_eq_true rfl⟩) (bPS hk) rfl rfl hl.1 rfl (lv_room (Nat.le_of_ble_eq_true rfl)) dX6_append_10 ⟨Nat.zero_le _, Nat.zero_le _⟩) hS (fun locs hS => ?_)
  refine lv_if_ne (tgt := 22) hx hb dX6_append_13 (by decide) (fun c_2 => ?_) (fun c_2 => ?_)
  · refine lv_aload_n hx hb dX6_append_22 rfl (lv_at hl 0 rfl) ?_
    refine va_get (D := D) (ci := 6) (C := RX6) (T := TX6) (N := 16) hx hb hts iX6 hown hk.1 hP 0 (wM_0 _ _ _) rfl 5 (by decide) (hts (.fieldLink RX6 129 "BottleLoopModel" "length" "I") (List.mem_of_getElem? (i := 2) rfl)) (fun _ h9 => h9) rfl dX6_append_23 ?_
    refine lv_bipush (v := 60) hx hb dX6_append_26 (by decide) ?_
    refine lv_icmp_ne (tgt := 37) hx hb dX6_append_28 (by decide) (fun c_3 => ?_) (fun c_3 => ?_)
    · refine lv_aload_n hx hb dX6_append_37 rfl (lv_at hl 0 rfl) ?_
      refine va_get (D := D) (ci := 6) (C := RX6) (T := TX6) (N := 16) hx hb hts iX6 hown hk.1 hP 0 (wM_0 _ _ _) rfl 4 (by decide) (hts (.fieldLink RX6 19 "BottleLoopModel" "text" "[I") (List.mem_of_getElem? (i := 3) rfl)) (fun _ h9 => h9) rfl dX6_append_38 ?_
      refine lv_aload_n hx hb dX6_append_41 rfl (lv_at hl 0 rfl) ?_
      refine va_get (D := D) (ci := 6) (C := RX6) (T := TX6) (N := 16) hx hb hts iX6 hown hk.1 hP 0 (wM_0 _ _ _) rfl 5 (by decide) (hts (.fieldLink RX6 129 "BottleLoopModel" "length" "I") (List.mem_of_getElem? (i := 2) rfl)) (fun _ h9 => h9) rfl dX6_append_42 ?_
      refine lv_iload_n hx hb dX6_append_45 rfl (lv_at hl 1 rfl) ?_
      refine va_iast hx hb hk.1 hP (wM_D hq) hS 4 0 (wM_4 _ _ _) rfl (mXln hI_1 c_3) dX6_append_46 (fun H locs hP _ hS => ?_)
      have hP : va_P D vwCl (wM cI q (bput (bput u 6 2 0) 3 ((bput u 6 2 0) 6 1).toNatClampNeg a1)) H := pM_3 hP
      have hI_4 : mInv (bput (bput u 6 2 0) 3 ((bput u 6 2 0) 6 1).toNatClampNeg a1) := mInv_c (k := 3) hI_1 (by decide) (by decide) (by decide)
      refine lv_aload_n hx hb dX6_append_47 rfl (lv_at hl 0 rfl) ?_
      refine lv_dup hx hb dX6_append_48 rfl ?_
      refine va_get (D := D) (ci := 6) (C := RX6) (T := TX6) (N := 16) hx hb hts iX6 hown hk.1 hP 0 (wM_0 _ _ _) rfl 5 (by decide) (hts (.fieldLink RX6 129 "BottleLoopModel" "length" "I") (List.mem_of_getElem? (i := 2) rfl)) (fun _ h9 => h9) rfl dX6_append_49 ?_
      refine lv_iconst (v := 1) hx hb dX6_append_52 (by decide) ?_
      refine lv_iadd hx hb dX6_append_53 ?_
      refine va_put (D := D) (ci := 6) (v := .int (((bput (bput u 6 2 0) 3 ((bput u 6 2 0) 6 1).toNatClampNeg a1) 6 1) + 1)) (ty := .int) (C := RX6) (T := TX6) (N := 16) hx hb hts iX6 tyX6 tyX6_ok nmX6 hown hk.1 hP (wM_D hq) hS 0 (wM_0 _ _ _) rfl 5 (by decide) (hts (.fieldLink RX6 129 "BottleLoopModel" "length" "I") (List.mem_of_getElem? (i := 2) rfl)) (fun _ h9 => h9) rfl (by decide +kernel) rfl rfl (Nat.le_of_ble_eq_true rfl) dX6_append_54 (fun H locs hP _ hS => ?_)
      have hP : va_P D vwCl (wM cI q (bput (bput (bput u 6 2 0) 3 ((bput u 6 2 0) 6 1).toNatClampNeg a1) 6 1 (((bput (bput u 6 2 0) 3 ((bput u 6 2 0) 6 1).toNatClampNeg a1) 6 1) + 1))) H := pM_f1 hP
      have hI_5 : mInv (bput (bput (bput u 6 2 0) 3 ((bput u 6 2 0) 6 1).toNatClampNeg a1) 6 1 (((bput (bput u 6 2 0) 3 ((bput u 6 2 0) 6 1).toNatClampNeg a1) 6 1) + 1)) := mInv_ln1 hI_4 c_3
      refine lv_aload_n hx hb dX6_append_57 rfl (lv_at hl 0 rfl) ?_
      refine va_get (D := D) (ci := 6) (C := RX6) (T := TX6) (N := 16) hx hb hts iX6 hown hk.1 hP 0 (wM_0 _ _ _) rfl 5 (by decide) (hts (.fieldLink RX6 129 "BottleLoopModel" "length" "I") (List.mem_of_getElem? (i := 2) rfl)) (fun _ h9 => h9) rfl dX6_append_58 ?_
      exact bret_Wi hx hb hr hP hI_5 hS hlocks dX6_append_61 (by rw [← hF, F6_append, if_neg c_2, if_neg c_3])
    · refine lv_aload_n hx hb dX6_append_31 rfl (lv_at hl 0 rfl) ?_
      refine lv_iconst (v := 2) hx hb dX6_append_32 (by decide) ?_
      refine bcall_Wi (va_runV (As := [.int 2]) (rest := []) ⟨hx, hb, hml, hown, hts⟩ (C6_fails l D cI q _ _ hq hP hI_1 2) (cwV 1 hts gX6_append_X6_fails rfl rfl rfl ⟨rfl, bd_X6fails⟩ ⟨Nat.le_of_ble_eq_true rfl, Nat.le_of_ble_eq_true rfl⟩) (bPV hk (va_recv hk.1 hP (ci := 6) (q0 := 0) rfl (wM_0 _ _ _))) rfl rfl hl.1 rfl (lv_room (Nat.le_of_ble_eq_true rfl)) dX6_append_33 ⟨Nat.zero_le _, Nat.zero_le _⟩) hS (fun H locs hP hI_6 hS => ?_)
      exact bret_Wi hx hb hr hP hI_6 hS hlocks dX6_append_36 (by rw [← hF, F6_append, if_neg c_2, if_pos c_3])
  · refine lv_aload_n hx hb dX6_append_16 rfl (lv_at hl 0 rfl) ?_
    refine lv_iconst (v := 1) hx hb dX6_append_17 (by decide) ?_
    refine bcall_Wi (va_runV (As := [.int 1]) (rest := []) ⟨hx, hb, hml, hown, hts⟩ (C6_fails l D cI q _ _ hq hP hI_1 1) (cwV 1 hts gX6_append_X6_fails rfl rfl rfl ⟨rfl, bd_X6fails⟩ ⟨Nat.le_of_ble_eq_true rfl, Nat.le_of_ble_eq_true rfl⟩) (bPV hk (va_recv hk.1 hP (ci := 6) (q0 := 0) rfl (wM_0 _ _ _))) rfl rfl hl.1 rfl (lv_room (Nat.le_of_ble_eq_true rfl)) dX6_append_18 ⟨Nat.zero_le _, Nat.zero_le _⟩) hS (fun H locs hP hI_7 hS => ?_)
    exact bret_Wi hx hb hr hP hI_7 hS hlocks dX6_append_21 (by rw [← hF, F6_append, if_pos c_2])
def F6_clearBuffer (u : bU) : Int32 × bU := (((bput u 6 2 0) 6 1), (bput (bput u 6 2 0) 6 1 0))
set_option maxHeartbeats 4000000 in
set_option maxRecDepth 100000 in
theorem C6_clearBuffer (l : Launch) (D : va_G) (cI : ClassId) (q : Nat → Nat) (u : bU) (H0 : Heap) (hq : bInj 7 q) (hP : va_P D vwCl (wM cI q u) H0) (hI : mInv u) : Met l yX6_clearBuffer wsX6_clearBuffer ({ frames := 0, cells := 0, slots := 0, locals := 0 }) (bP D [(cI, .int)] H0 [.ref (q 0)]) (bWi D (wM cI q) mInv (bA 7 q H0.size) (F6_clearBuffer u)) 0 0 (bA 7 q H0.size) := by
  refine Met.ofW (cc := cX6_clearBuffer) (maxL := 2) (ret := (some .int)) (by decide) rfl ?_
  intro p e s m args below meth c s₁ B hml hv
  obtain ⟨rfl, hH, hk⟩ := hv
  subst hH
  have hx := B.exec
  have hb := B.bytes
  have hr := B.returns
  have hts := atoms_spec (ws := wsX6_clearBuffer) B.pre
  have hown : s.vm.findClass RX6 = some m.cls := findClass_of_methodNamed B.named
  have hlocks := B.notSynchronized
  have hNB := mNB hI
  have hNS := mNS hI
  have hI0 := hI
  have iX6 : ∀ w ∈ wsX60, w ∈ wsX6_clearBuffer := by decide +kernel
  have hS : va_S (bA 7 q s.heap.size) s.heap s.heap [] := va_S.rf
  have hl := lv_entry ([.ref (q 0)]) (n := 2) (Nat.le_of_ble_eq_true rfl)
  rw [lg_entry_eq]
  generalize (lg_sl ([.ref (q 0)]) ++ List.replicate (2 - (lg_sl ([.ref (q 0)])).length) Slot.unset).toArray = ls at hl ⊢
  have hl : lv_has ls 2 [(0, .ref (q 0))] := hl
  generalize hF : F6_clearBuffer u = tgt
  refine lv_aload_n hx hb dX6_clearBuffer_0 rfl (lv_at hl 0 rfl) ?_
  refine lv_iconst (v := 0) hx hb dX6_clearBuffer_1 (by decide) ?_
  refine va_put (D := D) (ci := 6) (v := .int 0) (ty := .int) (C := RX6) (T := TX6) (N := 16) hx hb hts iX6 tyX6 tyX6_ok nmX6 hown hk.1 hP (wM_D hq) hS 0 (wM_0 _ _ _) rfl 6 (by decide) (hts (.fieldLink RX6 28 "BottleLoopModel" "thrown" "I") (List.mem_of_getElem? (i := 1) rfl)) (fun _ h9 => h9) rfl (by decide +kernel) rfl rfl (Nat.le_of_ble_eq_true rfl) dX6_clearBuffer_2 (fun H locs hP _ hS => ?_)
  have hP : va_P D vwCl (wM cI q (bput u 6 2 0)) H := pM_f2 hP
  have hI_1 : mInv (bput u 6 2 0) := mInv_sc (k := 2) hI (by decide) (by decide) (by decide)
  refine lv_aload_n hx hb dX6_clearBuffer_5 rfl (lv_at hl 0 rfl) ?_
  refine va_get (D := D) (ci := 6) (C := RX6) (T := TX6) (N := 16) hx hb hts iX6 hown hk.1 hP 0 (wM_0 _ _ _) rfl 5 (by decide) (hts (.fieldLink RX6 129 "BottleLoopModel" "length" "I") (List.mem_of_getElem? (i := 2) rfl)) (fun _ h9 => h9) rfl dX6_clearBuffer_6 ?_
  refine lv_istore_n (lv' := [(1, .int ((bput u 6 2 0) 6 1)), (0, .ref (q 0))]) hx hb dX6_clearBuffer_9 rfl hl (by decide) rfl (fun ls hl => ?_)
  refine lv_aload_n hx hb dX6_clearBuffer_10 rfl (lv_at hl 1 rfl) ?_
  refine lv_iconst (v := 0) hx hb dX6_clearBuffer_11 (by decide) ?_
  refine va_put (D := D) (ci := 6) (v := .int 0) (ty := .int) (C := RX6) (T := TX6) (N := 16) hx hb hts iX6 tyX6 tyX6_ok nmX6 hown hk.1 hP (wM_D hq) hS 0 (wM_0 _ _ _) rfl 5 (by decide) (hts (.fieldLink RX6 129 "BottleLoopModel" "length" "I") (List.mem_of_getElem? (i := 2) rfl)) (fun _ h9 => h9) rfl (by decide +kernel) rfl rfl (Nat.le_of_ble_eq_true rfl) dX6_clearBuffer_12 (fun H locs hP _ hS => ?_)
  have hP : va_P D vwCl (wM cI q (bput (bput u 6 2 0) 6 1 0)) H := pM_f1 hP
  have hI_2 : mInv (bput (bput u 6 2 0) 6 1 0) := mInv_ln0 hI_1
  refine lv_iload_n hx hb dX6_clearBuffer_15 rfl (lv_at hl 0 rfl) ?_
  exact bret_Wi hx hb hr hP hI_2 hS hlocks dX6_clearBuffer_16 (by rw [← hF, F6_clearBuffer])

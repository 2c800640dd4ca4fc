theorem bd_X6inShops : yX6_inShops.cls ≠ "java/lang/invoke/MethodHandle" ∧ yX6_inShops.cls ≠ "java/lang/invoke/VarHandle" ∧ (parseMethodDescriptor yX6_inShops.desc).map (fun d => d.parameters.length) = some 2 := by decide +kernel
theorem bd_X6sumOf : yX6_sumOf.cls ≠ "java/lang/invoke/MethodHandle" ∧ yX6_sumOf.cls ≠ "java/lang/invoke/VarHandle" ∧ (parseMethodDescriptor yX6_sumOf.desc).map (fun d => d.parameters.length) = some 2 := by decide +kernel
theorem mXSb {x y z : Int32} (h : mS x) (hy : ∃ w : Nat, w < 14 ∧ y = nI w) (hz : mB z) : vp_in (F6_shopAt x (y + z)) 283 := by
  obtain ⟨b, hb, rfl⟩ := hz
  exact mXSf h hy hb
theorem mXBx {x y : Int32} (h : mB x) (hy : ∃ w : Nat, w < 12 ∧ y = nI w) : vp_in (F6_brandAt x y) 283 := by
  obtain ⟨w, hw, rfl⟩ := hy
  obtain ⟨j, hj, rfl⟩ := h
  rw [brandAt_nI]
  exact vp_in_nI (by omega) (by decide)
def L6_inShops_5 (u : bU) (a1 : Int32) (a2 : Int32) : Nat → Nat → Int32 → Int32
  | 0, _, x3_5 => x3_5
  | n5 + 1, j5, x3_5 => (if (u 0 1) ≤ (nI j5) then x3_5 else (L6_inShops_5 u a1 a2 n5 (j5 + 1) (x3_5 + (F6_ofShop u (nI j5) (a2 + a1)))))
def F6_inShops (u : bU) (a1 : Int32) (a2 : Int32) : Int32 := (L6_inShops_5 u a1 a2 ((u 0 1).toNatClampNeg + 1) 0 0)
set_option maxHeartbeats 4000000 in
set_option maxRecDepth 100000 in
theorem C6_inShops (l : Launch) (D : va_G) (cI : ClassId) (q : Nat → Nat) (u : bU) (H0 : Heap) (hP : va_P D vwCl (wM cI q u) H0) (hI : mInv u) (a1 : Int32) (a2 : Int32) (h_a1 : mB a1) (h_w : ∃ w : Nat, w < 14 ∧ a2 = nI w) : Met l yX6_inShops wsX6_inShops ({ frames := 2, cells := 0, slots := 0, locals := 43 }) (bP D [(cI, .int)] H0 [.ref (q 0), .int a1, .int a2]) (bRi H0 (F6_inShops u a1 a2)) 0 0 (fun _ => False) := by
  refine Met.ofW (cc := cX6_inShops) (maxL := 5) (ret := (some .int)) (by decide) rfl ?_
  intro p e s m args below meth c s₁ B hml hv
  obtain ⟨rfl, hH, hk⟩ := hv
  subst hH
  have hx := B.exec
  have hb := B.bytes
  have hr := B.returns
  have hts := atoms_spec (ws := wsX6_inShops) B.pre
  have hown : s.vm.findClass RX6 = some m.cls := findClass_of_methodNamed B.named
  have hlocks := B.notSynchronized
  have hNB := mNB hI
  have hNS := mNS hI
  have hI0 := hI
  have iX6 : ∀ w ∈ wsX60, w ∈ wsX6_inShops := by decide +kernel
  have hS : va_S (fun _ => False) s.heap s.heap [] := va_S.rf
  have hl := lv_entry ([.ref (q 0), .int a1, .int a2]) (n := 5) (Nat.le_of_ble_eq_true rfl)
  rw [lg_entry_eq]
  generalize (lg_sl ([.ref (q 0), .int a1, .int a2]) ++ List.replicate (5 - (lg_sl ([.ref (q 0), .int a1, .int a2])).length) Slot.unset).toArray = ls at hl ⊢
  have hl : lv_has ls 5 [(0, .ref (q 0)), (1, .int a1), (2, .int a2)] := hl
  generalize hF : F6_inShops u a1 a2 = tgt
  refine lv_iconst (v := 0) hx hb dX6_inShops_0 (by decide) ?_
  refine lv_istore_n (lv' := [(3, .int 0), (0, .ref (q 0)), (1, .int a1), (2, .int a2)]) hx hb dX6_inShops_1 rfl hl (by decide) rfl (fun ls hl => ?_)
  refine lv_iconst (v := 0) hx hb dX6_inShops_2 (by decide) ?_
  refine lv_istore (lv' := [(4, .int 0), (3, .int 0), (0, .ref (q 0)), (1, .int a1), (2, .int a2)]) hx hb dX6_inShops_3 hl (by decide) rfl (fun ls hl => ?_)
  have hB5 := bClamp (u 0 1)
  have loop5 : ∀ (n5 j5 : Nat) (x3_5 : Int32) (locs : List Loc) (ls : Array Slot), j5 ≤ (u 0 1).toNatClampNeg → (u 0 1).toNatClampNeg + 1 ≤ n5 + j5 → lv_has ls 5 [(0, .ref (q 0)), (1, .int a1), (2, .int a2), (3, .int x3_5), (4, .int (nI j5))] → va_S (fun _ => False) s.heap s.heap locs → ∀ X : Int32, L6_inShops_5 u a1 a2  n5 j5 x3_5 = X → (∀ (locs : List Loc) (ls : Array Slot), lv_has ls 5 [(0, .ref (q 0)), (1, .int a1), (2, .int a2), (3, .int X)] → va_S (fun _ => False) s.heap s.heap locs → W p l e (headSpec wsX6_inShops ({ frames := 2, cells := 0, slots := 0, locals := 43 })).room s m ([.ref (q 0), .int a1, .int a2] : List Value).toArray below meth c s.heap locs 0 0 (MQ below (bRi s.heap tgt) ([.ref (q 0), .int a1, .int a2] : List Value).toArray s 0 0 (fun _ => False)) (F0 m 34 ls [])) → W p l e (headSpec wsX6_inShops ({ frames := 2, cells := 0, slots := 0, locals := 43 })).room s m ([.ref (q 0), .int a1, .int a2] : List Value).toArray below meth c s.heap locs 0 0 (MQ below (bRi s.heap tgt) ([.ref (q 0), .int a1, .int a2] : List Value).toArray s 0 0 (fun _ => False)) (F0 m 5 ls []) := by
    intro n5
    induction n5 with
    | zero => intro j5 x3_5 locs ls hj hn; exact absurd hn (by omega)
    | succ n5 ih =>
      intro j5 x3_5 locs ls hj hn hl hS X hF kx
      refine lv_iload hx hb dX6_inShops_5 (lv_at hl 4 rfl) ?_
      refine lv_aload_n hx hb dX6_inShops_7 rfl (lv_at hl 0 rfl) ?_
      refine va_get (D := D) (ci := 6) (C := RX6) (T := TX6) (N := 16) hx hb hts iX6 hown hk.1 hP 0 (wM_0 _ _ _) rfl 0 (by decide) (hts (.fieldLink RX6 7 "BottleLoopModel" "v" "[I") (List.mem_of_getElem? (i := 1) rfl)) (fun _ h9 => h9) rfl dX6_inShops_8 ?_
      refine lv_iconst (v := 1) hx hb dX6_inShops_11 (by decide) ?_
      refine va_iald hx hb hk.1 hP 1 0 (wM_1 _ _ _) rfl (vp_in_nI (n := 1) (by decide) (by decide)) dX6_inShops_12 ?_
      refine lv_topi (fun z9 hz9 => ?_)
      obtain rfl : z9 = (u 0 1) := hz9.trans rfl
      refine lv_icmp_ge (tgt := 34) hx hb dX6_inShops_13 (by decide) (fun c_1 => ?_) (fun c_1 => ?_)
      · obtain rfl : X = x3_5 := by rw [← hF, L6_inShops_5, if_pos c_1]
        exact kx _ _ (lv_sub hl [0, 1, 2, 3] rfl) hS
      · have hlt_2 : j5 < (u 0 1).toNatClampNeg := bLtB c_1 (by omega)
        refine lv_iload_n hx hb dX6_inShops_16 rfl (lv_at hl 3 rfl) ?_
        refine lv_aload_n hx hb dX6_inShops_17 rfl (lv_at hl 0 rfl) ?_
        refine lv_iload hx hb dX6_inShops_18 (lv_at hl 4 rfl) ?_
        refine lv_iload_n hx hb dX6_inShops_20 rfl (lv_at hl 2 rfl) ?_
        refine lv_iload_n hx hb dX6_inShops_21 rfl (lv_at hl 1 rfl) ?_
        refine lv_iadd hx hb dX6_inShops_22 ?_
        refine bcall_Ri (va_runV (As := [.int (nI j5), .int (a2 + a1)]) (rest := [.int x3_5]) ⟨hx, hb, hml, hown, hts⟩ (C6_ofShop l D cI q _ _ hP hI (nI j5) (a2 + a1) (mXSb (mS_nI (by omega)) h_w h_a1)) (cwV 2 hts gX6_inShops_X6_ofShop rfl rfl rfl ⟨rfl, bd_X6ofShop⟩ ⟨Nat.le_of_ble_eq_true rfl, Nat.le_of_ble_eq_true rfl⟩) (bPV hk (va_recv hk.1 hP (ci := 6) (q0 := 0) rfl (wM_0 _ _ _))) rfl rfl hl.1 rfl (lv_room (Nat.le_of_ble_eq_true rfl)) dX6_inShops_23 ⟨Nat.zero_le _, Nat.zero_le _⟩) hS (fun locs hS => ?_)
        refine lv_iadd hx hb dX6_inShops_26 ?_
        refine lv_istore_n (lv' := [(3, .int (x3_5 + (F6_ofShop u (nI j5) (a2 + a1)))), (0, .ref (q 0)), (1, .int a1), (2, .int a2), (4, .int (nI j5))]) hx hb dX6_inShops_27 rfl hl (by decide) rfl (fun ls hl => ?_)
        refine lv_iinc (v := (nI (j5 + 1))) (lv' := [(4, .int (nI (j5 + 1))), (3, .int (x3_5 + (F6_ofShop u (nI j5) (a2 + a1)))), (0, .ref (q 0)), (1, .int a1), (2, .int a2)]) hx hb dX6_inShops_28 hl (k := 4) rfl (bInc j5) (by decide) rfl (fun ls hl => ?_)
        refine lv_goto (tgt := 5) hx hb dX6_inShops_31 (by decide) ?_
        exact ih (j5 + 1) (x3_5 + (F6_ofShop u (nI j5) (a2 + a1))) _ _ (by omega) (by omega) (lv_sub hl [2, 3, 4, 1, 0] rfl) hS X (by rw [← hF, L6_inShops_5, if_neg c_1]) kx
  refine loop5 ((u 0 1).toNatClampNeg + 1) 0 0 _ _ (by omega) (by omega) (lv_sub hl [2, 3, 4, 1, 0] rfl) hS _ rfl (fun locs ls hl hS => ?_)
  refine lv_iload_n hx hb dX6_inShops_34 rfl (lv_at hl 3 rfl) ?_
  exact bret_Ri hx hb hr hS hlocks dX6_inShops_35 (by rw [← hF, F6_inShops])
def F6_aboutBrand (u : bU) (a1 : Int32) (a2 : Int32) : Int32 := (if (3 : Int32) ≤ a2 then (if a2 = (3 : Int32) then (F6_inShops u a1 5) else (if a2 = (4 : Int32) then (F6_inShops u a1 13) else (F6_of u a1 (a2 - 2)))) else (F6_of u a1 a2))
set_option maxHeartbeats 4000000 in
set_option maxRecDepth 100000 in
theorem C6_aboutBrand (l : Launch) (D : va_G) (cI : ClassId) (q : Nat → Nat) (u : bU) (H0 : Heap) (hP : va_P D vwCl (wM cI q u) H0) (hI : mInv u) (a1 : Int32) (a2 : Int32) (h_a1 : mB a1) (h_w : ∃ w : Nat, w < 12 ∧ a2 = nI w) : Met l yX6_aboutBrand wsX6_aboutBrand ({ frames := 3, cells := 0, slots := 0, locals := 67 }) (bP D [(cI, .int)] H0 [.ref (q 0), .int a1, .int a2]) (bRi H0 (F6_aboutBrand u a1 a2)) 0 0 (fun _ => False) := by
  refine Met.ofW (cc := cX6_aboutBrand) (maxL := 3) (ret := (some .int)) (by decide) rfl ?_
  intro p e s m args below meth c s₁ B hml hv
  obtain ⟨rfl, hH, hk⟩ := hv
  subst hH
  have hx := B.exec
  have hb := B.bytes
  have hr := B.returns
  have hts := atoms_spec (ws := wsX6_aboutBrand) B.pre
  have hown : s.vm.findClass RX6 = some m.cls := findClass_of_methodNamed B.named
  have hlocks := B.notSynchronized
  have hNB := mNB hI
  have hNS := mNS hI
  have hI0 := hI
  have hS : va_S (fun _ => False) s.heap s.heap [] := va_S.rf
  have hl := lv_entry ([.ref (q 0), .int a1, .int a2]) (n := 3) (Nat.le_of_ble_eq_true rfl)
  rw [lg_entry_eq]
  generalize (lg_sl ([.ref (q 0), .int a1, .int a2]) ++ List.replicate (3 - (lg_sl ([.ref (q 0), .int a1, .int a2])).length) Slot.unset).toArray = ls at hl ⊢
  have hl : lv_has ls 3 [(0, .ref (q 0)), (1, .int a1), (2, .int a2)] := hl
  generalize hF : F6_aboutBrand u a1 a2 = tgt
  refine lv_iload_n hx hb dX6_aboutBrand_0 rfl (lv_at hl 2 rfl) ?_
  refine lv_iconst (v := 3) hx hb dX6_aboutBrand_1 (by decide) ?_
  refine lv_icmp_ge (tgt := 14) hx hb dX6_aboutBrand_2 (by decide) (fun c_1 => ?_) (fun c_1 => ?_)
  · refine lv_iload_n hx hb dX6_aboutBrand_14 rfl (lv_at hl 2 rfl) ?_
    refine lv_iconst (v := 3) hx hb dX6_aboutBrand_15 (by decide) ?_
    refine lv_icmp_ne (tgt := 28) hx hb dX6_aboutBrand_16 (by decide) (fun c_2 => ?_) (fun c_2 => ?_)
    · refine lv_iload_n hx hb dX6_aboutBrand_28 rfl (lv_at hl 2 rfl) ?_
      refine lv_iconst (v := 4) hx hb dX6_aboutBrand_29 (by decide) ?_
      refine lv_icmp_ne (tgt := 43) hx hb dX6_aboutBrand_30 (by decide) (fun c_3 => ?_) (fun c_3 => ?_)
      · refine lv_aload_n hx hb dX6_aboutBrand_43 rfl (lv_at hl 0 rfl) ?_
        refine lv_iload_n hx hb dX6_aboutBrand_44 rfl (lv_at hl 1 rfl) ?_
        refine lv_iload_n hx hb dX6_aboutBrand_45 rfl (lv_at hl 2 rfl) ?_
        refine lv_iconst (v := 2) hx hb dX6_aboutBrand_46 (by decide) ?_
        refine lv_isub hx hb dX6_aboutBrand_47 ?_
        refine bcall_Ri (va_runV (As := [.int a1, .int (a2 - 2)]) (rest := []) ⟨hx, hb, hml, hown, hts⟩ (C6_of l D cI q _ _ hP hI a1 (a2 - 2) (mXBm h_a1 h_w c_1)) (cwV 2 hts gX6_aboutBrand_X6_of rfl rfl rfl ⟨rfl, bd_X6of⟩ ⟨Nat.le_of_ble_eq_true rfl, Nat.le_of_ble_eq_true rfl⟩) (bPV hk (va_recv hk.1 hP (ci := 6) (q0 := 0) rfl (wM_0 _ _ _))) rfl rfl hl.1 rfl (lv_room (Nat.le_of_ble_eq_true rfl)) dX6_aboutBrand_48 ⟨Nat.zero_le _, Nat.zero_le _⟩) hS (fun locs hS => ?_)
        exact bret_Ri hx hb hr hS hlocks dX6_aboutBrand_51 (by rw [← hF, F6_aboutBrand, if_pos c_1, if_neg c_2, if_neg c_3])
      · refine lv_aload_n hx hb dX6_aboutBrand_33 rfl (lv_at hl 0 rfl) ?_
        refine lv_iload_n hx hb dX6_aboutBrand_34 rfl (lv_at hl 1 rfl) ?_
        refine lv_bipush (v := 13) hx hb dX6_aboutBrand_35 (by decide) ?_
        refine bcall_Ri (va_runV (As := [.int a1, .int 13]) (rest := []) ⟨hx, hb, hml, hown, hts⟩ (C6_inShops l D cI q _ _ hP hI a1 13 h_a1 (mW_nI (j := 13) (by decide))) (cwV 2 hts gX6_aboutBrand_X6_inShops rfl rfl rfl ⟨rfl, bd_X6inShops⟩ ⟨Nat.le_of_ble_eq_true rfl, Nat.le_of_ble_eq_true rfl⟩) (bPV hk (va_recv hk.1 hP (ci := 6) (q0 := 0) rfl (wM_0 _ _ _))) rfl rfl hl.1 rfl (lv_room (Nat.le_of_ble_eq_true rfl)) dX6_aboutBrand_37 ⟨Nat.zero_le _, Nat.zero_le _⟩) hS (fun locs hS => ?_)
        refine lv_goto (tgt := 51) hx hb dX6_aboutBrand_40 (by decide) ?_
        exact bret_Ri hx hb hr hS hlocks dX6_aboutBrand_51 (by rw [← hF, F6_aboutBrand, if_pos c_1, if_neg c_2, if_pos c_3])
    · refine lv_aload_n hx hb dX6_aboutBrand_19 rfl (lv_at hl 0 rfl) ?_
      refine lv_iload_n hx hb dX6_aboutBrand_20 rfl (lv_at hl 1 rfl) ?_
      refine lv_iconst (v := 5) hx hb dX6_aboutBrand_21 (by decide) ?_
      refine bcall_Ri (va_runV (As := [.int a1, .int 5]) (rest := []) ⟨hx, hb, hml, hown, hts⟩ (C6_inShops l D cI q _ _ hP hI a1 5 h_a1 (mW_nI (j := 5) (by decide))) (cwV 2 hts gX6_aboutBrand_X6_inShops rfl rfl rfl ⟨rfl, bd_X6inShops⟩ ⟨Nat.le_of_ble_eq_true rfl, Nat.le_of_ble_eq_true rfl⟩) (bPV hk (va_recv hk.1 hP (ci := 6) (q0 := 0) rfl (wM_0 _ _ _))) rfl rfl hl.1 rfl (lv_room (Nat.le_of_ble_eq_true rfl)) dX6_aboutBrand_22 ⟨Nat.zero_le _, Nat.zero_le _⟩) hS (fun locs hS => ?_)
      refine lv_goto (tgt := 51) hx hb dX6_aboutBrand_25 (by decide) ?_
      exact bret_Ri hx hb hr hS hlocks dX6_aboutBrand_51 (by rw [← hF, F6_aboutBrand, if_pos c_1, if_pos c_2])
  · refine lv_aload_n hx hb dX6_aboutBrand_5 rfl (lv_at hl 0 rfl) ?_
    refine lv_iload_n hx hb dX6_aboutBrand_6 rfl (lv_at hl 1 rfl) ?_
    refine lv_iload_n hx hb dX6_aboutBrand_7 rfl (lv_at hl 2 rfl) ?_
    refine bcall_Ri (va_runV (As := [.int a1, .int a2]) (rest := []) ⟨hx, hb, hml, hown, hts⟩ (C6_of l D cI q _ _ hP hI a1 a2 (mXBx h_a1 h_w)) (cwV 2 hts gX6_aboutBrand_X6_of rfl rfl rfl ⟨rfl, bd_X6of⟩ ⟨Nat.le_of_ble_eq_true rfl, Nat.le_of_ble_eq_true rfl⟩) (bPV hk (va_recv hk.1 hP (ci := 6) (q0 := 0) rfl (wM_0 _ _ _))) rfl rfl hl.1 rfl (lv_room (Nat.le_of_ble_eq_true rfl)) dX6_aboutBrand_8 ⟨Nat.zero_le _, Nat.zero_le _⟩) hS (fun locs hS => ?_)
    refine lv_goto (tgt := 51) hx hb dX6_aboutBrand_11 (by decide) ?_
    exact bret_Ri hx hb hr hS hlocks dX6_aboutBrand_51 (by rw [← hF, F6_aboutBrand, if_neg c_1])
def L6_sumOf_5 (u : bU) (a1 : Int32) (a2 : Int32) : Nat → Nat → Int32 → Int32
  | 0, _, x3_5 => x3_5
  | n5 + 1, j5, x3_5 => (if (8 : Int32) ≤ (nI j5) then x3_5 else (L6_sumOf_5 u a1 a2 n5 (j5 + 1) (x3_5 + (F6_ofShop u a1 (a2 + (nI j5))))))
def F6_sumOf (u : bU) (a1 : Int32) (a2 : Int32) : Int32 := (L6_sumOf_5 u a1 a2 (8 + 1) 0 0)
set_option maxHeartbeats 4000000 in
set_option maxRecDepth 100000 in
theorem C6_sumOf (l : Launch) (D : va_G) (cI : ClassId) (q : Nat → Nat) (u : bU) (H0 : Heap) (hP : va_P D vwCl (wM cI q u) H0) (hI : mInv u) (a1 : Int32) (a2 : Int32) (h_a1 : mS a1) (h_w : ∃ w : Nat, w < 14 ∧ a2 = nI w) : Met l yX6_sumOf wsX6_sumOf ({ frames := 2, cells := 0, slots := 0, locals := 43 }) (bP D [(cI, .int)] H0 [.ref (q 0), .int a1, .int a2]) (bRi H0 (F6_sumOf u a1 a2)) 0 0 (fun _ => False) := by
  refine Met.ofW (cc := cX6_sumOf) (maxL := 5) (ret := (some .int)) (by decide) rfl ?_
  intro p e s m args below meth c s₁ B hml hv
  obtain ⟨rfl, hH, hk⟩ := hv
  subst hH
  have hx := B.exec
  have hb := B.bytes
  have hr := B.returns
  have hts := atoms_spec (ws := wsX6_sumOf) B.pre
  have hown : s.vm.findClass RX6 = some m.cls := findClass_of_methodNamed B.named
  have hlocks := B.notSynchronized
  have hNB := mNB hI
  have hNS := mNS hI
  have hI0 := hI
  have hS : va_S (fun _ => False) s.heap s.heap [] := va_S.rf
  have hl := lv_entry ([.ref (q 0), .int a1, .int a2]) (n := 5) (Nat.le_of_ble_eq_true rfl)
  rw [lg_entry_eq]
  generalize (lg_sl ([.ref (q 0), .int a1, .int a2]) ++ List.replicate (5 - (lg_sl ([.ref (q 0), .int a1, .int a2])).length) Slot.unset).toArray = ls at hl ⊢
  have hl : lv_has ls 5 [(0, .ref (q 0)), (1, .int a1), (2, .int a2)] := hl
  generalize hF : F6_sumOf u a1 a2 = tgt
  refine lv_iconst (v := 0) hx hb dX6_sumOf_0 (by decide) ?_
  refine lv_istore_n (lv' := [(3, .int 0), (0, .ref (q 0)), (1, .int a1), (2, .int a2)]) hx hb dX6_sumOf_1 rfl hl (by decide) rfl (fun ls hl => ?_)
  refine lv_iconst (v := 0) hx hb dX6_sumOf_2 (by decide) ?_
  refine lv_istore (lv' := [(4, .int 0), (3, .int 0), (0, .ref (q 0)), (1, .int a1), (2, .int a2)]) hx hb dX6_sumOf_3 hl (by decide) rfl (fun ls hl => ?_)
  have loop5 : ∀ (n5 j5 : Nat) (x3_5 : Int32) (locs : List Loc) (ls : Array Slot), j5 ≤ 8 → 8 + 1 ≤ n5 + j5 → lv_has ls 5 [(0, .ref (q 0)), (1, .int a1), (2, .int a2), (3, .int x3_5), (4, .int (nI j5))] → va_S (fun _ => False) s.heap s.heap locs → ∀ X : Int32, L6_sumOf_5 u a1 a2  n5 j5 x3_5 = X → (∀ (locs : List Loc) (ls : Array Slot), lv_has ls 5 [(0, .ref (q 0)), (1, .int a1), (2, .int a2), (3, .int X)] → va_S (fun _ => False) s.heap s.heap locs → W p l e (headSpec wsX6_sumOf ({ frames := 2, cells := 0, slots := 0, locals := 43 })).room s m ([.ref (q 0), .int a1, .int a2] : List Value).toArray below meth c s.heap locs 0 0 (MQ below (bRi s.heap tgt) ([.ref (q 0), .int a1, .int a2] : List Value).toArray s 0 0 (fun _ => False)) (F0 m 30 ls [])) → W p l e (headSpec wsX6_sumOf ({ frames := 2, cells := 0, slots := 0, locals := 43 })).room s m ([.ref (q 0), .int a1, .int a2] : List Value).toArray below meth c s.heap locs 0 0 (MQ below (bRi s.heap tgt) ([.ref (q 0), .int a1, .int a2] : List Value).toArray s 0 0 (fun _ => False)) (F0 m 5 ls []) := by
    intro n5
    induction n5 with
    | zero => intro j5 x3_5 locs ls hj hn; exact absurd hn (by omega)
    | succ n5 ih =>
      intro j5 x3_5 locs ls hj hn hl hS X hF kx
      refine lv_iload hx hb dX6_sumOf_5 (lv_at hl 4 rfl) ?_
      refine lv_bipush (v := 8) hx hb dX6_sumOf_7 (by decide) ?_
      refine lv_icmp_ge (tgt := 30) hx hb dX6_sumOf_9 (by decide) (fun c_1 => ?_) (fun c_1 => ?_)
      · obtain rfl : X = x3_5 := by rw [← hF, L6_sumOf_5, if_pos c_1]
        exact kx _ _ (lv_sub hl [0, 1, 2, 3] rfl) hS
      · have hlt_2 : j5 < 8 := bLt c_1 (by omega) (by decide)
        refine lv_iload_n hx hb dX6_sumOf_12 rfl (lv_at hl 3 rfl) ?_
        refine lv_aload_n hx hb dX6_sumOf_13 rfl (lv_at hl 0 rfl) ?_
        refine lv_iload_n hx hb dX6_sumOf_14 rfl (lv_at hl 1 rfl) ?_
        refine lv_iload_n hx hb dX6_sumOf_15 rfl (lv_at hl 2 rfl) ?_
        refine lv_iload hx hb dX6_sumOf_16 (lv_at hl 4 rfl) ?_
        refine lv_iadd hx hb dX6_sumOf_18 ?_
        refine bcall_Ri (va_runV (As := [.int a1, .int (a2 + (nI j5))]) (rest := [.int x3_5]) ⟨hx, hb, hml, hown, hts⟩ (C6_ofShop l D cI q _ _ hP hI a1 (a2 + (nI j5)) (mXSf h_a1 h_w (by omega))) (cwV 2 hts gX6_sumOf_X6_ofShop rfl rfl rfl ⟨rfl, bd_X6ofShop⟩ ⟨Nat.le_of_ble_eq_true rfl, Nat.le_of_ble_eq_true rfl⟩) (bPV hk (va_recv hk.1 hP (ci := 6) (q0 := 0) rfl (wM_0 _ _ _))) rfl rfl hl.1 rfl (lv_room (Nat.le_of_ble_eq_true rfl)) dX6_sumOf_19 ⟨Nat.zero_le _, Nat.zero_le _⟩) hS (fun locs hS => ?_)
        refine lv_iadd hx hb dX6_sumOf_22 ?_
        refine lv_istore_n (lv' := [(3, .int (x3_5 + (F6_ofShop u a1 (a2 + (nI j5))))), (0, .ref (q 0)), (1, .int a1), (2, .int a2), (4, .int (nI j5))]) hx hb dX6_sumOf_23 rfl hl (by decide) rfl (fun ls hl => ?_)
        refine lv_iinc (v := (nI (j5 + 1))) (lv' := [(4, .int (nI (j5 + 1))), (3, .int (x3_5 + (F6_ofShop u a1 (a2 + (nI j5))))), (0, .ref (q 0)), (1, .int a1), (2, .int a2)]) hx hb dX6_sumOf_24 hl (k := 4) rfl (bInc j5) (by decide) rfl (fun ls hl => ?_)
        refine lv_goto (tgt := 5) hx hb dX6_sumOf_27 (by decide) ?_
        exact ih (j5 + 1) (x3_5 + (F6_ofShop u a1 (a2 + (nI j5)))) _ _ (by omega) (by omega) (lv_sub hl [2, 3, 4, 1, 0] rfl) hS X (by rw [← hF, L6_sumOf_5, if_neg c_1]) kx
  refine loop5 (8 + 1) 0 0 _ _ (by omega) (by omega) (lv_sub hl [2, 3, 4, 1, 0] rfl) hS _ rfl (fun locs ls hl hS => ?_)
  refine lv_iload_n hx hb dX6_sumOf_30 rfl (lv_at hl 3 rfl) ?_
  exact bret_Ri hx hb hr hS hlocks dX6_sumOf_31 (by rw [← hF, F6_sumOf])
def F6_aboutShop (u : bU) (a1 : Int32) (a2 : Int32) : Int32 := (if a2 ≤ (9 : Int32) then (if a2 = (2 : Int32) then (F6_sumOf u a1 5) else (if a2 = (3 : Int32) then (F6_sumOf u a1 13) else (if (2 : Int32) ≤ a2 then (F6_ofShop u a1 (a2 - 2)) else (F6_ofShop u a1 a2)))) else (if (20 : Int32) ≤ a2 then (F6_ofShop u a1 (13 + (a2 - a2 / 10 * 10))) else (F6_ofShop u a1 (5 + (a2 - a2 / 10 * 10)))))
set_option maxHeartbeats 4000000 in
set_option maxRecDepth 100000 in
theorem C6_aboutShop (l : Launch) (D : va_G) (cI : ClassId) (q : Nat → Nat) (u : bU) (H0 : Heap) (hP : va_P D vwCl (wM cI q u) H0) (hI : mInv u) (a1 : Int32) (a2 : Int32) (h_a1 : mS a1) (h_w : ∃ w : Nat, w < 28 ∧ a2 = nI w) : Met l yX6_aboutShop wsX6_aboutShop ({ frames := 3, cells := 0, slots := 0, locals := 67 }) (bP D [(cI, .int)] H0 [.ref (q 0), .int a1, .int a2]) (bRi H0 (F6_aboutShop u a1 a2)) 0 0 (fun _ => False) := by
  refine Met.ofW (cc := cX6_aboutShop) (maxL := 3) (ret := (some .int)) (by decide) rfl ?_
  intro p e s m args below meth c s₁ B hml hv
  obtain ⟨rfl, hH, hk⟩ := hv
  subst hH
  have hx := B.exec
  have hb := B.bytes
  have hr := B.returns
  have hts := atoms_spec (ws := wsX6_aboutShop) B.pre
  have hown : s.vm.findClass RX6 = some m.cls := findClass_of_methodNamed B.named
  have hlocks := B.notSynchronized
  have hNB := mNB hI
  have hNS := mNS hI
  have hI0 := hI
  have hS : va_S (fun _ => False) s.heap s.heap [] := va_S.rf
  have hl := lv_entry ([.ref (q 0), .int a1, .int a2]) (n := 3) (Nat.le_of_ble_eq_true rfl)
  rw [lg_entry_eq]
  generalize (lg_sl ([.ref (q 0), .int a1, .int a2]) ++ List.replicate (3 - (lg_sl ([.ref (q 0), .int a1, .int a2])).length) Slot.unset).toArray = ls at hl ⊢
  have hl : lv_has ls 3 [(0, .ref (q 0)), (1, .int a1), (2, .int a2)] := hl
  generalize hF : F6_aboutShop u a1 a2 = tgt
  refine lv_iload_n hx hb dX6_aboutShop_0 rfl (lv_at hl 2 rfl) ?_
  refine lv_bipush (v := 9) hx hb dX6_aboutShop_1 (by decide) ?_
  refine lv_icmp_le (tgt := 29) hx hb dX6_aboutShop_3 (by decide) (fun c_1 => ?_) (fun c_1 => ?_)
  · refine lv_iload_n hx hb dX6_aboutShop_29 rfl (lv_at hl 2 rfl) ?_
    refine lv_iconst (v := 2) hx hb dX6_aboutShop_30 (by decide) ?_
    refine lv_icmp_ne (tgt := 43) hx hb dX6_aboutShop_31 (by decide) (fun c_2 => ?_) (fun c_2 => ?_)
    · refine lv_iload_n hx hb dX6_aboutShop_43 rfl (lv_at hl 2 rfl) ?_
      refine lv_iconst (v := 3) hx hb dX6_aboutShop_44 (by decide) ?_
      refine lv_icmp_ne (tgt := 58) hx hb dX6_aboutShop_45 (by decide) (fun c_3 => ?_) (fun c_3 => ?_)
      · refine lv_aload_n hx hb dX6_aboutShop_58 rfl (lv_at hl 0 rfl) ?_
        refine lv_iload_n hx hb dX6_aboutShop_59 rfl (lv_at hl 1 rfl) ?_
        refine lv_iload_n hx hb dX6_aboutShop_60 rfl (lv_at hl 2 rfl) ?_
        refine lv_iconst (v := 2) hx hb dX6_aboutShop_61 (by decide) ?_
        refine lv_icmp_ge (tgt := 69) hx hb dX6_aboutShop_62 (by decide) (fun c_4 => ?_) (fun c_4 => ?_)
        · refine lv_iload_n hx hb dX6_aboutShop_69 rfl (lv_at hl 2 rfl) ?_
          refine lv_iconst (v := 2) hx hb dX6_aboutShop_70 (by decide) ?_
          refine lv_isub hx hb dX6_aboutShop_71 ?_
          refine bcall_Ri (va_runV (As := [.int a1, .int (a2 - 2)]) (rest := []) ⟨hx, hb, hml, hown, hts⟩ (C6_ofShop l D cI q _ _ hP hI a1 (a2 - 2) (mXSm h_a1 h_w c_1 c_4)) (cwV 2 hts gX6_aboutShop_X6_ofShop rfl rfl rfl ⟨rfl, bd_X6ofShop⟩ ⟨Nat.le_of_ble_eq_true rfl, Nat.le_of_ble_eq_true rfl⟩) (bPV hk (va_recv hk.1 hP (ci := 6) (q0 := 0) rfl (wM_0 _ _ _))) rfl rfl hl.1 rfl (lv_room (Nat.le_of_ble_eq_true rfl)) dX6_aboutShop_72 ⟨Nat.zero_le _, Nat.zero_le _⟩) hS (fun locs hS => ?_)
          exact bret_Ri hx hb hr hS hlocks dX6_aboutShop_75 (by rw [← hF, F6_aboutShop, if_pos c_1, if_neg c_2, if_neg c_3, if_pos c_4])
        · refine lv_iload_n hx hb dX6_aboutShop_65 rfl (lv_at hl 2 rfl) ?_
          refine lv_goto (tgt := 72) hx hb dX6_aboutShop_66 (by decide) ?_
          refine bcall_Ri (va_runV (As := [.int a1, .int a2]) (rest := []) ⟨hx, hb, hml, hown, hts⟩ (C6_ofShop l D cI q _ _ hP hI a1 a2 (mXSc h_a1 h_w c_1)) (cwV 2 hts gX6_aboutShop_X6_ofShop rfl rfl rfl ⟨rfl, bd_X6ofShop⟩ ⟨Nat.le_of_ble_eq_true rfl, Nat.le_of_ble_eq_true rfl⟩) (bPV hk (va_recv hk.1 hP (ci := 6) (q0 := 0) rfl (wM_0 _ _ _))) rfl rfl hl.1 rfl (lv_room (Nat.le_of_ble_eq_true rfl)) dX6_aboutShop_72 ⟨Nat.zero_le _, Nat.zero_le _⟩) hS (fun locs hS => ?_)
          exact bret_Ri hx hb hr hS hlocks dX6_aboutShop_75 (by rw [← hF, F6_aboutShop, if_pos c_1, if_neg c_2, if_neg c_3, if_neg c_4])
      · refine lv_aload_n hx hb dX6_aboutShop_48 rfl (lv_at hl 0 rfl) ?_
        refine lv_iload_n hx hb dX6_aboutShop_49 rfl (lv_at hl 1 rfl) ?_
        refine lv_bipush (v := 13) hx hb dX6_aboutShop_50 (by decide) ?_
        refine bcall_Ri (va_runV (As := [.int a1, .int 13]) (rest := []) ⟨hx, hb, hml, hown, hts⟩ (C6_sumOf l D cI q _ _ hP hI a1 13 h_a1 (mW_nI (j := 13) (by decide))) (cwV 2 hts gX6_aboutShop_X6_sumOf rfl rfl rfl ⟨rfl, bd_X6sumOf⟩ ⟨Nat.le_of_ble_eq_true rfl, Nat.le_of_ble_eq_true rfl⟩) (bPV hk (va_recv hk.1 hP (ci := 6) (q0 := 0) rfl (wM_0 _ _ _))) rfl rfl hl.1 rfl (lv_room (Nat.le_of_ble_eq_true rfl)) dX6_aboutShop_52 ⟨Nat.zero_le _, Nat.zero_le _⟩) hS (fun locs hS => ?_)
        refine lv_goto (tgt := 75) hx hb dX6_aboutShop_55 (by decide) ?_
        exact bret_Ri hx hb hr hS hlocks dX6_aboutShop_75 (by rw [← hF, F6_aboutShop, if_pos c_1, if_neg c_2, if_pos c_3])
    · refine lv_aload_n hx hb dX6_aboutShop_34 rfl (lv_at hl 0 rfl) ?_
      refine lv_iload_n hx hb dX6_aboutShop_35 rfl (lv_at hl 1 rfl) ?_
      refine lv_iconst (v := 5) hx hb dX6_aboutShop_36 (by decide) ?_
      refine bcall_Ri (va_runV (As := [.int a1, .int 5]) (rest := []) ⟨hx, hb, hml, hown, hts⟩ (C6_sumOf l D cI q _ _ hP hI a1 5 h_a1 (mW_nI (j := 5) (by decide))) (cwV 2 hts gX6_aboutShop_X6_sumOf rfl rfl rfl ⟨rfl, bd_X6sumOf⟩ ⟨Nat.le_of_ble_eq_true rfl, Nat.le_of_ble_eq_true rfl⟩) (bPV hk (va_recv hk.1 hP (ci := 6) (q0 := 0) rfl (wM_0 _ _ _))) rfl rfl hl.1 rfl (lv_room (Nat.le_of_ble_eq_true rfl)) dX6_aboutShop_37 ⟨Nat.zero_le _, Nat.zero_le _⟩) hS (fun locs hS => ?_)
      refine lv_goto (tgt := 75) hx hb dX6_aboutShop_40 (by decide) ?_
      exact bret_Ri hx hb hr hS hlocks dX6_aboutShop_75 (by rw [← hF, F6_aboutShop, if_pos c_1, if_pos c_2])
  · refine lv_aload_n hx hb dX6_aboutShop_6 rfl (lv_at hl 0 rfl) ?_
    refine lv_iload_n hx hb dX6_aboutShop_7 rfl (lv_at hl 1 rfl) ?_
    refine lv_iload_n hx hb dX6_aboutShop_8 rfl (lv_at hl 2 rfl) ?_
    refine lv_bipush (v := 20) hx hb dX6_aboutShop_9 (by decide) ?_
    refine lv_icmp_ge (tgt := 18) hx hb dX6_aboutShop_11 (by decide) (fun c_5 => ?_) (fun c_5 => ?_)
    · refine lv_bipush (v := 13) hx hb dX6_aboutShop_18 (by decide) ?_
      refine lv_iload_n hx hb dX6_aboutShop_20 rfl (lv_at hl 2 rfl) ?_
      refine lv_bipush (v := 10) hx hb dX6_aboutShop_21 (by decide) ?_
      refine lv_irem hx hb dX6_aboutShop_23 (by decide) ?_
      refine lv_iadd hx hb dX6_aboutShop_24 ?_
      refine bcall_Ri (va_runV (As := [.int a1, .int (13 + (a2 - a2 / 10 * 10))]) (rest := []) ⟨hx, hb, hml, hown, hts⟩ (C6_ofShop l D cI q _ _ hP hI a1 (13 + (a2 - a2 / 10 * 10)) (mXSr (w := 13) h_a1 h_w (by decide))) (cwV 2 hts gX6_aboutShop_X6_ofShop rfl rfl rfl ⟨rfl, bd_X6ofShop⟩ ⟨Nat.le_of_ble_eq_true rfl, Nat.le_of_ble_eq_true rfl⟩) (bPV hk (va_recv hk.1 hP (ci := 6) (q0 := 0) rfl (wM_0 _ _ _))) rfl rfl hl.1 rfl (lv_room (Nat.le_of_ble_eq_true rfl)) dX6_aboutShop_25 ⟨Nat.zero_le _, Nat.zero_le _⟩) hS (fun locs hS => ?_)
      exact bret_Ri hx hb hr hS hlocks dX6_aboutShop_28 (by rw [← hF, F6_aboutShop, if_neg c_1, if_pos c_5])
    · refine lv_iconst (v := 5) hx hb dX6_aboutShop_14 (by decide) ?_
      refine lv_goto (tgt := 20) hx hb dX6_aboutShop_15 (by decide) ?_
      refine lv_iload_n hx hb dX6_aboutShop_20 rfl (lv_at hl 2 rfl) ?_
      refine lv_bipush (v := 10) hx hb dX6_aboutShop_21 (by decide) ?_
      refine lv_irem hx hb dX6_aboutShop_23 (by decide) ?_
      refine lv_iadd hx hb dX6_aboutShop_24 ?_
      refine bcall_Ri (va_runV (As := [.int a1, .int (5 + (a2 - a2 / 10 * 10))]) (rest := []) ⟨hx, hb, hml, hown, hts⟩ (C6_ofShop l D cI q _ _ hP hI a1 (5 + (a2 - a2 / 10 * 10)) (mXSr (w := 5) h_a1 h_w (by decide))) (cwV 2 hts gX6_aboutShop_X6_ofShop rfl rfl rfl ⟨rfl, bd_X6ofShop⟩ ⟨Nat.le_of_ble_eq_true rfl, Nat.le_of_ble_eq_true rfl⟩) (bPV hk (va_recv hk.1 hP (ci := 6) (q0 := 0) rfl (wM_0 _ _ _))) rfl rfl hl.1 rfl (lv_room (Nat.le_of_ble_eq_true rfl)) dX6_aboutShop_25 ⟨Nat.zero_le _, Nat.zero_le _⟩) hS (fun locs hS => ?_)
      exact bret_Ri hx hb hr hS hlocks dX6_aboutShop_28 (by rw [← hF, F6_aboutShop, if_neg c_1, if_neg c_5])

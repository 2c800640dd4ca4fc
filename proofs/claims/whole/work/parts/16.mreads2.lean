theorem bd_X6inShops : yX6_inShops.cls ≠ "java/lang/invoke/MethodHandle" ∧ yX6_inShops.cls ≠ "java/lang/invoke/VarHandle" ∧ (parseMethodDescriptor yX6_inShops.desc).map (fun d => d.parameters.length) = some 2 := by decide +kernel
theorem bd_X6sumOf : yX6_sumOf.cls ≠ "java/lang/invoke/MethodHandle" ∧ yX6_sumOf.cls ≠ "java/lang/invoke/VarHandle" ∧ (parseMethodDescriptor yX6_sumOf.desc).map (fun d => d.parameters.length) = some 2 := by decide +kernel
def L6_inShops_5 (u : bU) (a1 : Int32) (a2 : Int32) : Nat → Nat → Int32 → Int32
  | 0, _, x3_5 => x3_5
  | n5 + 1, j5, x3_5 => (if (u 0 1) ≤ (nI j5) then x3_5 else (L6_inShops_5 u a1 a2 n5 (j5 + 1) (x3_5 + (F6_ofShop u (nI j5) (a2 + a1)))))
def F6_inShops (u : bU) (a1 : Int32) (a2 : Int32) : Int32 := (L6_inShops_5 u a1 a2 ((u 0 1).toNatClampNeg + 1) 0 0)
set_option maxHeartbeats 4000000 in
set_option maxRecDepth 100000 in
theorem C6_inShops (l : Launch) (D : va_G) (cI : ClassId) (q : Nat → Nat) (u : bU) (H0 : Heap) (hP : va_P D vwCl (wM cI q u) H0) (hI : mInv u) (a1 : Int32) (a2 : Int32) (h_a1 : mB a1) (h_w : ∃ w : Nat, w < 14 ∧ a2 = nI w) : Met l yX6_inShops wsX6_inShops ({ frames := 2, cells := 0, slots := 0, locals := 43 }) (bP D [(cI, .int)] H0 [.ref (q 0), .int a1, .int a2]) (bRi H0 (F6_inShops u a1 a2)) 0 0 (fun _ => False) := by
  refine Met.ofW (cc := cX6_inShops) (maxL := 5) (ret := (some .int)) (by decide) rfl ?_
  intro p e s m args below meth c s₁ B hml hv
  obtain ⟨rfl, hH, hk⟩ := hv
  subst hH
  have hx := B.exec
  have hb := B.bytes
  have hr := B.returns
  have hts := atoms_spec (ws := wsX6_inShops) B.pre
  have hown : s.vm.findClass RX6 = some m.cls := findClass_of_methodNamed B.named
  have hlocks := B.notSynchronized
  have hNB := mNB hI
  have hNS := mNS hI
  have hI0 := hI
  have iX6 : ∀ w ∈ wsX60, w ∈ wsX6_inShops := by decide +kernel
  have hS : va_S (fun _ => False) s.heap s.heap [] := va_S.rf
  have hl := lv_entry ([.ref (q 0), .int a1, .int a2]) (n := 5) (Nat.le_of_ble_eq_true rfl)
  rw [lg_entry_eq]
  generalize (lg_sl ([.ref (q 0), .int a1, .int a2]) ++ List.replicate (5 - (lg_sl ([.ref (q 0), .int a1, .int a2])).length) Slot.unset).toArray = ls at hl ⊢
  have hl : lv_has ls 5 [(0, .ref (q 0)), (1, .int a1), (2, .int a2)] := hl
  generalize hF : F6_inShops u a1 a2 = tgt
  refine lv_iconst (v := 0) hx hb dX6_inShops_0 (by decide) ?_
  refine lv_istore_n (lv' := [(3, .int 0), (0, .ref (q 0)), (1, .int a1), (2, .int a2)]) hx hb dX6_inShops_1 rfl hl (by decide) rfl (fun ls hl => ?_)
  refine lv_iconst (v := 0) hx hb dX6_inShops_2 (by decide) ?_
  refine lv_istore (lv' := [(4, .int 0), (3, .int 0), (0, .ref (q 0)), (1, .int a1), (2, .int a2)]) hx hb dX6_inShops_3 hl (by decide) rfl (fun ls hl => ?_)
  have hB5 := bClamp (u 0 1)
  have loop5 : ∀ (n5 j5 : Nat) (x3_5 : Int32) (locs : List Loc) (ls : Array Slot), j5 ≤ (u 0 1).toNatClampNeg → (u 0 1).toNatClampNeg + 1 ≤ n5 + j5 → lv_has ls 5 [(0, .ref (q 0)), (1, .int a1), (2, .int a2), (3, .int x3_5), (4, .int (nI j5))] → va_S (fun _ => False) s.heap s.heap locs → ∀ X : Int32, L6_inShops_5 u a1 a2  n5 j5 x3_5 = X → (∀ (locs : List Loc) (ls : Array Slot), lv_has ls 5 [(0, .ref (q 0)), (1, .int a1), (2, .int a2), (3, .int X)] → va_S (fun _ => False) s.heap s.heap locs → W p l e (headSpec wsX6_inShops ({ frames := 2, cells := 0, slots := 0, locals := 43 })).room s m ([.ref (q 0), .int a1, .int a2] : List Value).toArray below meth c s.heap locs 0 0 (MQ below (bRi s.heap tgt) ([.ref (q 0), .int a1, .int a2] : List Value).toArray s 0 0 (fun _ => False)) (F0 m 34 ls [])) → W p l e (headSpec wsX6_inShops ({ frames := 2, cells := 0, slots := 0, locals := 43 })).room s m ([.ref (q 0), .int a1, .int a2] : List Value).toArray below meth c s.heap locs 0 0 (MQ below (bRi s.heap tgt) ([.ref (q 0), .int a1, .int a2] : List Value).toArray s 0 0 (fun _ => False)) (F0 m 5 ls []) := by
    intro n5
    induction n5 with
    | zero => intro j5 x3_5 locs ls hj hn; exact absurd hn (by omega)
    | succ n5 ih =>
      intro j5 x3_5 locs ls hj hn hl hS X hF kx
      refine lv_iload hx hb dX6_inShops_5 (lv_at hl 4 rfl) ?_
      refine lv_aload_n hx hb dX6_inShops_7 rfl (lv_at hl 0 rfl) ?_
      refine va_get (D := D) (ci := 6) (C := RX6) (T := TX6) (N := 16) hx hb hts iX6 hown hk.1 hP 0 (wM_0 _ _ _) rfl 0 (by decide) (hts (.fieldLink RX6 7 "BottleLoopModel" "v" "[I") (List.mem_of_getElem? (i := 1) rfl)) (fun _ h9 => h9) rfl dX6_inShops_8 ?_
      refine lv_iconst (v := 1) hx hb dX6_inShops_11 (by decide) ?_
      refine va_iald hx hb hk.1 hP 1 0 (wM_1 _ _ _) rfl (vp_in_nI (n := 1) (by decide) (by decide)) dX6_inShops_12 ?_
      refine lv_topi (fun z9 hz9 => ?_)
      obtain rfl : z9 = (u 0 1) := hz9.trans rfl
      refine lv_icmp_ge (tgt := 34) hx hb dX6_inShops_13 (by decide) (fun c_1 => ?_) (fun c_1 => ?_)
      · obtain rfl : X = x3_5 := by rw [← hF, L6_inShops_5, if_pos c_1]
        exact kx _ _ (lv_sub hl [0, 1, 2, 3] rfl) hS
      · have hlt_2 : j5 < (u 0 1).toNatClampNeg := bLtB c_1 (by omega)
        refine lv_iload_n hx hb dX6_inShops_16 rfl (lv_at hl 3 rfl) ?_
        refine lv_aload_n hx hb dX6_inShops_17 rfl (lv_at hl 0 rfl) ?_
        refine lv_iload hx hb dX6_inShops_18 (lv_at hl 4 rfl) ?_
        refine lv_iload_n hx hb dX6_inShops_20 rfl (lv_at hl 2 rfl) ?_
        refine lv_iload_n hx hb dX6_inShops_21 rfl (lv_at hl 1 rfl) ?_
        refine lv_iadd hx hb dX6_inShops_22 ?_
        refine bcall_Ri (va_runV (As := [.int (nI j5), .int (a2 + a1)]) (rest := [.int x3_5]) ⟨hx, hb, hml, hown, hts⟩ (C6_ofShop l D cI q _ _ hP hI (nI j5) (a2 + a1) (mXSf (mS_nI (by omega)) h_w (by omega))) (cwV 2 hts gX6_inShops_X6_ofShop rfl rfl rfl ⟨rfl, bd_X6ofShop⟩ ⟨Nat.le_of_ble_eq_true rfl, Nat.le_of_ble_eq_true rfl⟩) (bPV hk (va_recv hk.1 hP (ci := 6) (q0 := 0) rfl (wM_0 _ _ _))) rfl rfl hl.1 rfl (lv_room (Nat.le_of_ble_eq_true rfl)) dX6_inShops_23 ⟨Nat.zero_le _, Nat.zero_le _⟩) hS (fun locs hS => ?_)
        refine lv_iadd hx hb dX6_inShops_26 ?_
        refine lv_istore_n (lv' := [(3, .int (x3_5 + (F6_ofShop u (nI j5) (a2 + a1)))), (0, .ref (q 0)), (1, .int a1), (2, .int a2), (4, .int (nI j5))]) hx hb dX6_inShops_27 rfl hl (by decide) rfl (fun ls hl => ?_)
        refine lv_iinc (v := (nI (j5 + 1))) (lv' := [(4, .int (nI (j5 + 1))), (3, .int (x3_5 + (F6_ofShop u (nI j5) (a2 + a1)))), (0, .ref (q 0)), (1, .int a1), (2, .int a2)]) hx hb dX6_inShops_28 hl (k := 4) rfl (bInc j5) (by decide) rfl (fun ls hl => ?_)
        refine lv_goto (tgt := 5) hx hb dX6_inShops_31 (by decide) ?_
        exact ih (j5 + 1) (x3_5 + (F6_ofShop u (nI j5) (a2 + a1))) _ _ (by omega) (by omega) (lv_sub hl [2, 3, 4, 1, 0] rfl) hS X (by rw [← hF, L6_inShops_5, if_neg c_1]) kx
  refine loop5 ((u 0 1).toNatClampNeg + 1) 0 0 _ _ (by omega) (by omega) (lv_sub hl [2, 3, 4, 1, 0] rfl) hS _ rfl (fun locs ls hl hS => ?_)
  refine lv_iload_n hx hb dX6_inShops_34 rfl (lv_at hl 3 rfl) ?_
  exact bret_Ri hx hb hr hS hlocks dX6_inShops_35 (by rw [← hF, F6_inShops])
def F6_aboutBrand (u : bU) (a1 : Int32) (a2 : Int32) : Int32 := (if (3 : Int32) ≤ a2 then (if a2 = (3 : Int32) then (F6_inShops u a1 5) else (if a2 = (4 : Int32) then (F6_inShops u a1 13) else (F6_of u a1 (a2 - 2)))) else (F6_of u a1 a2))
set_option maxHeartbeats 4000000 in
set_option maxRecDepth 100000 in
theorem C6_aboutBrand (l : Launch) (D : va_G) (cI : ClassId) (q : Nat → Nat) (u : bU) (H0 : Heap) (hP : va_P D vwCl (wM cI q u) H0) (hI : mInv u) (a1 : Int32) (a2 : Int32) (h_a1 : mB a1) (h_w : ∃ w : Nat, w < 12 ∧ a2 = nI w) : Met l yX6_aboutBrand wsX6_aboutBrand ({ frames := 3, cells := 0, slots := 0, locals := 67 }) (bP D [(cI, .int)] H0 [.ref (q 0), .int a1, .int a2]) (bRi H0 (F6_aboutBrand u a1 a2)) 0 0 (fun _ => False) := by
  refine Met.ofW (cc := cX6_aboutBrand) (maxL := 3) (ret := (some .int)) (by decide) rfl ?_
  intro p e s m args below meth c s₁ B hml hv
  obtain ⟨rfl, hH, hk⟩ := hv
  subst hH
  have hx := B.exec
  have hb := B.bytes
  have hr := B.returns
  have hts := atoms_spec (ws := wsX6_aboutBrand) B.pre
  have hown : s.vm.findClass RX6 = some m.cls := findClass_of_methodNamed B.named
  have hlocks := B.notSynchronized
  have hNB := mNB hI
  have hNS := mNS hI
  have hI0 := hI
  have hS : va_S (fun _ => False) s.heap s.heap [] := va_S.rf
  have hl := lv_entry ([.ref (q 0), .int a1, .int a2]) (n := 3) (Nat.le_of_ble_eq_true rfl)
  rw [lg_entry_eq]
  generalize (lg_sl ([.ref (q 0), .int a1, .int a2]) ++ List.replicate (3 - (lg_sl ([.ref (q 0), .int a1, .int a2])).length) Slot.unset).toArray = ls at hl ⊢
  have hl : lv_has ls 3 [(0, .ref (q 0)), (1, .int a1), (2, .int a2)] := hl
  generalize hF : F6_aboutBrand u a1 a2 = tgt
  refine lv_iload_n hx hb dX6_aboutBrand_0 rfl (lv_at hl 2 rfl) ?_
  refine lv_iconst (v := 3) hx hb dX6_aboutBrand_1 (by decide) ?_
  refine lv_icmp_ge (tgt := 14) hx hb dX6_aboutBrand_2 (by decide) (fun c_1 => ?_) (fun c_1 => ?_)
  · refine lv_iload_n hx hb dX6_aboutBrand_14 rfl (lv_at hl 2 rfl) ?_
    refine lv_iconst (v := 3) hx hb dX6_aboutBrand_15 (by decide) ?_
    refine lv_icmp_ne (tgt := 28) hx hb dX6_aboutBrand_16 (by decide) (fun c_2 => ?_) (fun c_2 => ?_)
    · refine lv_iload_n hx hb dX6_aboutBrand_28 rfl (lv_at hl 2 rfl) ?_
      refine lv_iconst (v := 4) hx hb dX6_aboutBrand_29 (by decide) ?_
      refine lv_icmp_ne (tgt := 43) hx hb dX6_aboutBrand_30 (by decide) (fun c_3 => ?_) (fun c_3 => ?_)
      · refine lv_aload_n hx hb dX6_aboutBrand_43 rfl (lv_at hl 0 rfl) ?_
        refine lv_iload_n hx hb dX6_aboutBrand_44 rfl (lv_at hl 1 rfl) ?_
        refine lv_iload_n hx hb dX6_aboutBrand_45 rfl (lv_at hl 2 rfl) ?_
        refine lv_iconst (v := 2) hx hb dX6_aboutBrand_46 (by decide) ?_
        refine lv_isub hx hb dX6_aboutBrand_47 ?_
        refine bcall_Ri (va_runV (As := [.int a1, .int (a2 - 2)]) (rest := []) ⟨hx, hb, hml, hown, hts⟩ (C6_of l D cI q _ _ hP hI a1 (a2 - 2) (mXBm h_a1 h_w c_1)) (cwV 2 hts gX6_aboutBrand_X6_of rfl rfl rfl ⟨rfl, bd_X6of⟩ ⟨Nat.le_of_ble_eq_true rfl, Nat.le_of_ble_eq_true rfl⟩) (bPV hk (va_recv hk.1 hP (ci := 6) (q0 := 0) rfl (wM_0 _ _ _))) rfl rfl hl.1 rfl (lv_room (Nat.le_of_ble_eq_true rfl)) dX6_aboutBrand_48 ⟨Nat.zero_le _, Nat.zero_le _⟩) hS (fun locs hS => ?_)
        exact bret_Ri hx hb hr hS hlocks dX6_aboutBrand_51 (by rw [← hF, F6_aboutBrand, if_pos c_1, if_neg c_2, if_neg c_3])
      · refine lv_aload_n hx hb dX6_aboutBrand_33 rfl (lv_at hl 0 rfl) ?_
        refine lv_iload_n hx hb dX6_aboutBrand_34 rfl (lv_at hl 1 rfl) ?_
        refine lv_bipush (v := 13) hx hb dX6_aboutBrand_35 (by decide) ?_
        refine bcall_Ri (va_runV (As := [.int a1, .int 13]) (rest := []) ⟨hx, hb, hml, hown, hts⟩ (C6_inShops l D cI q _ _ hP hI a1 13 h_a1 (mW_nI (j := 13) (by decide))) (cwV 2 hts gX6_aboutBrand_X6_inShops rfl rfl rfl ⟨rfl, bd_X6inShops⟩ ⟨Nat.le_of_ble_eq_true rfl, Nat.le_of_ble_eq_true rfl⟩) (bPV hk (va_recv hk.1 hP (ci := 6) (q0 := 0) rfl (wM_0 _ _ _))) rfl rfl hl.1 rfl (lv_room (Nat.le_of_ble_eq_true rfl)) dX6_aboutBrand_37 ⟨Nat.zero_le _, Nat.zero_le _⟩) hS (fun locs hS => ?_)
        refine lv_goto (tgt := 51) hx hb dX6_aboutBrand_40 (by decide) ?_
        exact bret_Ri hx hb hr hS hlocks dX6_aboutBrand_51 (by rw [← hF, F6_aboutBrand, if_pos c_1, if_neg c_2, if_pos c_3])
    · refine lv_aload_n hx hb dX6_aboutBrand_19 rfl (lv_at hl 0 rfl) ?_
      refine lv_iload_n hx hb dX6_aboutBrand_20 rfl (lv_at hl 1 rfl) ?_
      refine lv_iconst (v := 5) hx hb dX6_aboutBrand_21 (by decide) ?_
      refine bcall_Ri (va_runV (As := [.int a1, .int 5]) (rest := []) ⟨hx, hb, hml, hown, hts⟩ (C6_inShops l D cI q _ _ hP hI a1 5 h_a1 (mW_nI (j := 5) (by decide))) (cwV 2 hts gX6_aboutBrand_X6_inShops rfl rfl rfl ⟨rfl, bd_X6inShops⟩ ⟨Nat.le_of_ble_eq_true rfl, Nat.le_of_ble_eq_true rfl⟩) (bPV hk (va_recv hk.1 hP (ci := 6) (q0 := 0) rfl (wM_0 _ _ _))) rfl rfl hl.1 rfl (lv_room (Nat.le_of_ble_eq_true rfl)) dX6_aboutBrand_22 ⟨Nat.zero_le _, Nat.zero_le _⟩) hS (fun locs hS => ?_)
      refine lv_goto (tgt := 51) hx hb dX6_aboutBrand_25 (by decide) ?_
      exact bret_Ri hx hb hr hS hlocks dX6_aboutBrand_51 (by rw [← hF, F6_aboutBrand, if_pos c_1, if_pos c_2])
  · refine lv_aload_n hx hb dX6_aboutBrand_5 rfl (lv_at hl 0 rfl) ?_
    refine lv_iload_n hx hb dX6_aboutBrand_6 rfl (lv_at hl 1 rfl) ?_
    refine lv_iload_n hx hb dX6_aboutBrand_7 rfl (lv_at hl 2 rfl) ?_
    refine bcall_Ri (va_runV (As := [.int a1, .int a2]) (rest := []) ⟨hx, hb, hml, hown, hts⟩ (C6_of l D cI q _ _ hP hI a1 a2 (mXBw h_a1 h_w (by decide))) (cwV 2 hts gX6_aboutBrand_X6_of rfl rfl rfl ⟨rfl, bd_X6of⟩ ⟨Nat.le_of_ble_eq_true rfl, Nat.le_of_ble_eq_true rfl⟩) (bPV hk (va_recv hk.1 hP (ci := 6) (q0 := 0) rfl (wM_0 _ _ _))) rfl rfl hl.1 rfl (lv_room (Nat.le_of_ble_eq_true rfl)) dX6_aboutBrand_8 ⟨Nat.zero_le _, Nat.zero_le _⟩) hS (fun locs hS => ?_)
    refine lv_goto (tgt := 51) hx hb dX6_aboutBrand_11 (by decide) ?_
    exact bret_Ri hx hb hr hS hlocks dX6_aboutBrand_51 (by rw [← hF, F6_aboutBrand, if_neg c_1])
def L6_sumOf_5 (u : bU) (a1 : Int32) (a2 : Int32) : Nat → Nat → Int32 → Int32
  | 0, _, x3_5 => x3_5
  | n5 + 1, j5, x3_5 => (if (8 : Int32) ≤ (nI j5) then x3_5 else (L6_sumOf_5 u a1 a2 n5 (j5 + 1) (x3_5 + (F6_ofShop u a1 (a2 + (nI j5))))))
def F6_sumOf (u : bU) (a1 : Int32) (a2 : Int32) : Int32 := (L6_sumOf_5 u a1 a2 (8 + 1) 0 0)
set_option maxHeartbeats 4000000 in
set_option maxRecDepth 100000 in
theorem C6_sumOf (l : Launch) (D : va_G) (cI : ClassId) (q : Nat → Nat) (u : bU) (H0 : Heap) (hP : va_P D vwCl (wM cI q u) H0) (hI : mInv u) (a1 : Int32) (a2 : Int32) (h_a1 : mS a1) (h_w : ∃ w : Nat, w < 14 ∧ a2 = nI w) : Met l yX6_sumOf wsX6_sumOf ({ frames := 2, cells := 0, slots := 0, locals := 43 }) (bP D [(cI, .int)] H0 [.ref (q 0), .int a1, .int a2]) (bRi H0 (F6_sumOf u a1 a2)) 0 0 (fun _ => False) := by
  refine Met.ofW (cc := cX6_sumOf) (maxL := 5) (ret := (some .int)) (by decide) rfl ?_
  intro p e s m args below meth c s₁ B hml hv
  obtain ⟨rfl, hH, hk⟩ := hv
  subst hH
  have hx := B.exec
  have hb := B.bytes
  have hr := B.returns
  have hts := atoms_spec (ws := wsX6_sumOf) B.pre
  have hown : s.vm.findClass RX6 = some m.cls := findClass_of_methodNamed B.named
  have hlocks := B.notSynchronized
  have hNB := mNB hI
  have hNS := mNS hI
  have hI0 := hI
  have hS : va_S (fun _ => False) s.heap s.heap [] := va_S.rf
  have hl := lv_entry ([.ref (q 0), .int a1, .int a2]) (n := 5) (Nat.le_of_ble_eq_true rfl)
  rw [lg_entry_eq]
  generalize (lg_sl ([.ref (q 0), .int a1, .int a2]) ++ List.replicate (5 - (lg_sl ([.ref (q 0), .int a1, .int a2])).length) Slot.unset).toArray = ls at hl ⊢
  have hl : lv_has ls 5 [(0, .ref (q 0)), (1, .int a1), (2, .int a2)] := hl
  generalize hF : F6_sumOf u a1 a2 = tgt
  refine lv_iconst (v := 0) hx hb dX6_sumOf_0 (by decide) ?_
  refine lv_istore_n (lv' := [(3, .int 0), (0, .ref (q 0)), (1, .int a1), (2, .int a2)]) hx hb dX6_sumOf_1 rfl hl (by decide) rfl (fun ls hl => ?_)
  refine lv_iconst (v := 0) hx hb dX6_sumOf_2 (by decide) ?_
  refine lv_istore (lv' := [(4, .int 0), (3, .int 0), (0, .ref (q 0)), (1, .int a1), (2, .int a2)]) hx hb dX6_sumOf_3 hl (by decide) rfl (fun ls hl => ?_)
  have loop5 : ∀ (n5 j5 : Nat) (x3_5 : Int32) (locs : List Loc) (ls : Array Slot), j5 ≤ 8 → 8 + 1 ≤ n5 + j5 → lv_has ls 5 [(0, .ref (q 0)), (1, .int a1), (2, .int a2), (3, .int x3_5), (4, .int (nI j5))] → va_S (fun _ => False) s.heap s.heap locs → ∀ X : Int32, L6_sumOf_5 u a1 a2  n5 j5 x3_5 = X → (∀ (locs : List Loc) (ls : Array Slot), lv_has ls 5 [(0, .ref (q 0)), (1, .int a1), (2, .int a2), (3, .int X)] → va_S (fun _ => False) s.heap s.heap locs → W p l e (headSpec wsX6_sumOf ({ frames := 2, cells := 0, slots := 0, locals := 43 })).room s m ([.ref (q 0), .int a1, .int a2] : List Value).toArray below meth c s.heap locs 0 0 (MQ below (bRi s.heap tgt) ([.ref (q 0), .int a1, .int a2] : List Value).toArray s 0 0 (fun _ => False)) (F0 m 30 ls [])) → W p l e (headSpec wsX6_sumOf ({ frames := 2, cells := 0, slots := 0, locals := 43 })).room s m ([.ref (q 0), .int a1, .int a2] : List Value).toArray below meth c s.heap locs 0 0 (MQ below (bRi s.heap tgt) ([.ref (q 0), .int a1, .int a2] : List Value).toArray s 0 0 (fun _ => False)) (F0 m 5 ls []) := by
    intro n5
    induction n5 with
    | zero => intro j5 x3_5 locs ls hj hn; exact absurd hn (by omega)
    | succ n5 ih =>
      intro j5 x3_5 locs ls hj hn hl hS X hF kx
      refine lv_iload hx hb dX6_sumOf_5 (lv_at hl 4 rfl) ?_
      refine lv_bipush (v := 8) hx hb dX6_sumOf_7 (by decide) ?_
      refine lv_icmp_ge (tgt := 30) hx hb dX6_sumOf_9 (by decide) (fun c_1 => ?_) (fun c_1 => ?_)
      · obtain rfl : X = x3_5 := by rw [← hF, L6_sumOf_5, if_pos c_1]
        exact kx _ _ (lv_sub hl [0, 1, 2, 3] rfl) hS
      · have hlt_2 : j5 < 8 := bLt c_1 (by omega) (by decide)
        refine lv_iload_n hx hb dX6_sumOf_12 rfl (lv_at hl 3 rfl) ?_
        refine lv_aload_n hx hb dX6_sumOf_13 rfl (lv_at hl 0 rfl) ?_
        refine lv_iload_n hx hb dX6_sumOf_14 rfl (lv_at hl 1 rfl) ?_
        refine lv_iload_n hx hb dX6_sumOf_15 rfl (lv_at hl 2 rfl) ?_
        refine lv_iload hx hb dX6_sumOf_16 (lv_at hl 4 rfl) ?_
        refine lv_iadd hx hb dX6_sumOf_18 ?_
        refine bcall_Ri (va_runV (As := [.int a1, .int (a2 + (nI j5))]) (rest := [.int x3_5]) ⟨hx, hb, hml, hown, hts⟩ (C6_ofShop l D cI q _ _ hP hI a1 (a2 + (nI j5)) (mXSf h_a1 h_w (by omega))) (cwV 2 hts gX6_sumOf_X6_ofShop rfl rfl rfl ⟨rfl, bd_X6ofShop⟩ ⟨Nat.le_of_ble_eq_true rfl, Nat.le_of_ble_eq_true rfl⟩) (bPV hk (va_recv hk.1 hP (ci := 6) (q0 := 0) rfl (wM_0 _ _ _))) rfl rfl hl.1 rfl (lv_room (Nat.le_of_ble_eq_true rfl)) dX6_sumOf_19 ⟨Nat.zero_le _, Nat.zero_le _⟩) hS (fun locs hS => ?_)
        refine lv_iadd hx hb dX6_sumOf_22 ?_
        refine lv_istore_n (lv' := [(3, .int (x3_5 + (F6_ofShop u a1 (a2 + (nI j5))))), (0, .ref (q 0)), (1, .int a1), (2, .int a2), (4, .int (nI j5))]) hx hb dX6_sumOf_23 rfl hl (by decide) rfl (fun ls hl => ?_)
        refine lv_iinc (v := (nI (j5 + 1))) (lv' := [(4, .int (nI (j5 + 1))), (3, .int (x3_5 + (F6_ofShop u a1 (a2 + (nI j5))))), (0, .ref (q 0)), (1, .int a1), (2, .int a2)]) hx hb dX6_sumOf_24 hl (k := 4) rfl (bInc j5) (by decide) rfl (fun ls hl => ?_)
        refine lv_goto (tgt := 5) hx hb dX6_sumOf_27 (by decide) ?_
        exact ih (j5 + 1) (x3_5 + (F6_ofShop u a1 (a2 + (nI j5)))) _ _ (by omega) (by omega) (lv_sub hl [2, 3, 4, 1, 0] rfl) hS X (by rw [← hF, L6_sumOf_5, if_neg c_1]) kx
  refine loop5 (8 + 1) 0 0 _ _ (by omega) (by omega) (lv_sub hl [2, 3, 4, 1, 0] rfl) hS _ rfl (fun locs ls hl hS => ?_)
  refine lv_iload_n hx hb dX6_sumOf_30 rfl (lv_at hl 3 rfl) ?_
  exact bret_Ri hx hb hr hS hlocks dX6_sumOf_31 (by rw [← hF, F6_sumOf])
def F6_aboutShop (u : bU) (a1 : Int32) (a2 : Int32) : Int32 := (if a2 ≤ (9 : Int32) then (if a2 = (2 : Int32) then (F6_sumOf u a1 5) else (if a2 = (3 : Int32) then (F6_sumOf u a1 13) else (if (2 : Int32) ≤ a2 then (F6_ofShop u a1 (a2 - 2)) else (F6_ofShop u a1 a2)))) else (if (20 : Int32) ≤ a2 then (F6_ofShop u a1 (13 + (a2 - a2 / 10 * 10))) else (F6_ofShop u a1 (5 + (a2 - a2 / 10 * 10)))))
set_option maxHeartbeats 4000000 in
set_option maxRecDepth 100000 in
theorem C6_aboutShop (l : Launch) (D : va_G) (cI : ClassId) (q : Nat → Nat) (u : bU) (H0 : Heap) (hP : va_P D vwCl (wM cI q u) H0) (hI : mInv u) (a1 : Int32) (a2 : Int32) (h_a1 : mS a1) (h_w : ∃ w : Nat, w < 28 ∧ a2 = nI w) : Met l yX6_aboutShop wsX6_aboutShop ({ frames := 3, cells := 0, slots := 0, locals := 67 }) (bP D [(cI, .int)] H0 [.ref (q 0), .int a1, .int a2]) (bRi H0 (F6_aboutShop u a1 a2)) 0 0 (fun _ => False) := by
  refine Met.ofW (cc := cX6_aboutShop) (maxL := 3) (ret := (some .int)) (by decide) rfl ?_
  intro p e s m args below meth c s₁ B hml hv
  obtain ⟨rfl, hH, hk⟩ := hv
  subst hH
  have hx := B.exec
  have hb := B.bytes
  have hr := B.returns
  have hts := atoms_spec (ws := wsX6_aboutShop) B.pre
  have hown : s.vm.findClass RX6 = some m.cls := findClass_of_methodNamed B.named
  have hlocks := B.notSynchronized
  have hNB := mNB hI
  have hNS := mNS hI
  have hI0 := hI
  have hS : va_S (fun _ => False) s.heap s.heap [] := va_S.rf
  have hl := lv_entry ([.ref (q 0), .int a1, .int a2]) (n := 3) (Nat.le_of_ble_eq_true rfl)
  rw [lg_entry_eq]
  generalize (lg_sl ([.ref (q 0), .int a1, .int a2]) ++ List.replicate (3 - (lg_sl ([.ref (q 0), .int a1, .int a2])).length) Slot.unset).toArray = ls at hl ⊢
  have hl : lv_has ls 3 [(0, .ref (q 0)), (1, .int a1), (2, .int a2)] := hl
  generalize hF : F6_aboutShop u a1 a2 = tgt
  refine lv_iload_n hx hb dX6_aboutShop_0 rfl (lv_at hl 2 rfl) ?_
  refine lv_bipush (v := 9) hx hb dX6_aboutShop_1 (by decide) ?_
  refine lv_icmp_le (tgt := 29) hx hb dX6_aboutShop_3 (by decide) (fun c_1 => ?_) (fun c_1 => ?_)
  · refine lv_iload_n hx hb dX6_aboutShop_29 rfl (lv_at hl 2 rfl) ?_
    refine lv_iconst (v := 2) hx hb dX6_aboutShop_30 (by decide) ?_
    refine lv_icmp_ne (tgt := 43) hx hb dX6_aboutShop_31 (by decide) (fun c_2 => ?_) (fun c_2 => ?_)
    · refine lv_iload_n hx hb dX6_aboutShop_43 rfl (lv_at hl 2 rfl) ?_
      refine lv_iconst (v := 3) hx hb dX6_aboutShop_44 (by decide) ?_
      refine lv_icmp_ne (tgt := 58) hx hb dX6_aboutShop_45 (by decide) (fun c_3 => ?_) (fun c_3 => ?_)
      · refine lv_aload_n hx hb dX6_aboutShop_58 rfl (lv_at hl 0 rfl) ?_
        refine lv_iload_n hx hb dX6_aboutShop_59 rfl (lv_at hl 1 rfl) ?_
        refine lv_iload_n hx hb dX6_aboutShop_60 rfl (lv_at hl 2 rfl) ?_
        refine lv_iconst (v := 2) hx hb dX6_aboutShop_61 (by decide) ?_
        refine lv_icmp_ge (tgt := 69) hx hb dX6_aboutShop_62 (by decide) (fun c_4 => ?_) (fun c_4 => ?_)
        · refine lv_iload_n hx hb dX6_aboutShop_69 rfl (lv_at hl 2 rfl) ?_
          refine lv_iconst (v := 2) hx hb dX6_aboutShop_70 (by decide) ?_
          refine lv_isub hx hb dX6_aboutShop_71 ?_
          refine bcall_Ri (va_runV (As := [.int a1, .int (a2 - 2)]) (rest := []) ⟨hx, hb, hml, hown, hts⟩ (C6_ofShop l D cI q _ _ hP hI a1 (a2 - 2) (mXSm h_a1 h_w c_1 c_4)) (cwV 2 hts gX6_aboutShop_X6_ofShop rfl rfl rfl ⟨rfl, bd_X6ofShop⟩ ⟨Nat.le_of_ble_eq_true rfl, Nat.le_of_ble_eq_true rfl⟩) (bPV hk (va_recv hk.1 hP (ci := 6) (q0 := 0) rfl (wM_0 _ _ _))) rfl rfl hl.1 rfl (lv_room (Nat.le_of_ble_eq_true rfl)) dX6_aboutShop_72 ⟨Nat.zero_le _, Nat.zero_le _⟩) hS (fun locs hS => ?_)
          exact bret_Ri hx hb hr hS hlocks dX6_aboutShop_75 (by rw [← hF, F6_aboutShop, if_pos c_1, if_neg c_2, if_neg c_3, if_pos c_4])
        · refine lv_iload_n hx hb dX6_aboutShop_65 rfl (lv_at hl 2 rfl) ?_
          refine lv_goto (tgt := 72) hx hb dX6_aboutShop_66 (by decide) ?_
          refine bcall_Ri (va_runV (As := [.int a1, .int a2]) (rest := []) ⟨hx, hb, hml, hown, hts⟩ (C6_ofShop l D cI q _ _ hP hI a1 a2 (mXSc h_a1 h_w c_1)) (cwV 2 hts gX6_aboutShop_X6_ofShop rfl rfl rfl ⟨rfl, bd_X6ofShop⟩ ⟨Nat.le_of_ble_eq_true rfl, Nat.le_of_ble_eq_true rfl⟩) (bPV hk (va_recv hk.1 hP (ci := 6) (q0 := 0) rfl (wM_0 _ _ _))) rfl rfl hl.1 rfl (lv_room (Nat.le_of_ble_eq_true rfl)) dX6_aboutShop_72 ⟨Nat.zero_le _, Nat.zero_le _⟩) hS (fun locs hS => ?_)
          exact bret_Ri hx hb hr hS hlocks dX6_aboutShop_75 (by rw [← hF, F6_aboutShop, if_pos c_1, if_neg c_2, if_neg c_3, if_neg c_4])
      · refine lv_aload_n hx hb dX6_aboutShop_48 rfl (lv_at hl 0 rfl) ?_
        refine lv_iload_n hx hb dX6_aboutShop_49 rfl (lv_at hl 1 rfl) ?_
        refine lv_bipush (v := 13) hx hb dX6_aboutShop_50 (by decide) ?_
        refine bcall_Ri (va_runV (As := [.int a1, .int 13]) (rest := []) ⟨hx, hb, hml, hown, hts⟩ (C6_sumOf l D cI q _ _ hP hI a1 13 h_a1 (mW_nI (j := 13) (by decide))) (cwV 2 hts gX6_aboutShop_X6_sumOf rfl rfl rfl ⟨rfl, bd_X6sumOf⟩ ⟨Nat.le_of_ble_eq_true rfl, Nat.le_of_ble_eq_true rfl⟩) (bPV hk (va_recv hk.1 hP (ci := 6) (q0 := 0) rfl (wM_0 _ _ _))) rfl rfl hl.1 rfl (lv_room (Nat.le_of_ble_eq_true rfl)) dX6_aboutShop_52 ⟨Nat.zero_le _, Nat.zero_le _⟩) hS (fun locs hS => ?_)
        refine lv_goto (tgt := 75) hx hb dX6_aboutShop_55 (by decide) ?_
        exact bret_Ri hx hb hr hS hlocks dX6_aboutShop_75 (by rw [← hF, F6_aboutShop, if_pos c_1, if_neg c_2, if_pos c_3])
    · refine lv_aload_n hx hb dX6_aboutShop_34 rfl (lv_at hl 0 rfl) ?_
      refine lv_iload_n hx hb dX6_aboutShop_35 rfl (lv_at hl 1 rfl) ?_
      refine lv_iconst (v := 5) hx hb dX6_aboutShop_36 (by decide) ?_
      refine bcall_Ri (va_runV (As := [.int a1, .int 5]) (rest := []) ⟨hx, hb, hml, hown, hts⟩ (C6_sumOf l D cI q _ _ hP hI a1 5 h_a1 (mW_nI (j := 5) (by decide))) (cwV 2 hts gX6_aboutShop_X6_sumOf rfl rfl rfl ⟨rfl, bd_X6sumOf⟩ ⟨Nat.le_of_ble_eq_true rfl, Nat.le_of_ble_eq_true rfl⟩) (bPV hk (va_recv hk.1 hP (ci := 6) (q0 := 0) rfl (wM_0 _ _ _))) rfl rfl hl.1 rfl (lv_room (Nat.le_of_ble_eq_true rfl)) dX6_aboutShop_37 ⟨Nat.zero_le _, Nat.zero_le _⟩) hS (fun locs hS => ?_)
      refine lv_goto (tgt := 75) hx hb dX6_aboutShop_40 (by decide) ?_
      exact bret_Ri hx hb hr hS hlocks dX6_aboutShop_75 (by rw [← hF, F6_aboutShop, if_pos c_1, if_pos c_2])
  · refine lv_aload_n hx hb dX6_aboutShop_6 rfl (lv_at hl 0 rfl) ?_
    refine lv_iload_n hx hb dX6_aboutShop_7 rfl (lv_at hl 1 rfl) ?_
    refine lv_iload_n hx hb dX6_aboutShop_8 rfl (lv_at hl 2 rfl) ?_
    refine lv_bipush (v := 20) hx hb dX6_aboutShop_9 (by decide) ?_
    refine lv_icmp_ge (tgt := 18) hx hb dX6_aboutShop_11 (by decide) (fun c_5 => ?_) (fun c_5 => ?_)
    · refine lv_bipush (v := 13) hx hb dX6_aboutShop_18 (by decide) ?_
      refine lv_iload_n hx hb dX6_aboutShop_20 rfl (lv_at hl 2 rfl) ?_
      refine lv_bipush (v := 10) hx hb dX6_aboutShop_21 (by decide) ?_
      refine lv_irem hx hb dX6_aboutShop_23 (by decide) ?_
      refine lv_iadd hx hb dX6_aboutShop_24 ?_
      refine bcall_Ri (va_runV (As := [.int a1, .int (13 + (a2 - a2 / 10 * 10))]) (rest := []) ⟨hx, hb, hml, hown, hts⟩ (C6_ofShop l D cI q _ _ hP hI a1 (13 + (a2 - a2 / 10 * 10)) (mXSr (w := 13) h_a1 h_w (by decide))) (cwV 2 hts gX6_aboutShop_X6_ofShop rfl rfl rfl ⟨rfl, bd_X6ofShop⟩ ⟨Nat.le_of_ble_eq_true rfl, Nat.le_of_ble_eq_true rfl⟩) (bPV hk (va_recv hk.1 hP (ci := 6) (q0 := 0) rfl (wM_0 _ _ _))) rfl rfl hl.1 rfl (lv_room (Nat.le_of_ble_eq_true rfl)) dX6_aboutShop_25 ⟨Nat.zero_le _, Nat.zero_le _⟩) hS (fun locs hS => ?_)
      exact bret_Ri hx hb hr hS hlocks dX6_aboutShop_28 (by rw [← hF, F6_aboutShop, if_neg c_1, if_pos c_5])
    · refine lv_iconst (v := 5) hx hb dX6_aboutShop_14 (by decide) ?_
      refine lv_goto (tgt := 20) hx hb dX6_aboutShop_15 (by decide) ?_
      refine lv_iload_n hx hb dX6_aboutShop_20 rfl (lv_at hl 2 rfl) ?_
      refine lv_bipush (v := 10) hx hb dX6_aboutShop_21 (by decide) ?_
      refine lv_irem hx hb dX6_aboutShop_23 (by decide) ?_
      refine lv_iadd hx hb dX6_aboutShop_24 ?_
      refine bcall_Ri (va_runV (As := [.int a1, .int (5 + (a2 - a2 / 10 * 10))]) (rest := []) ⟨hx, hb, hml, hown, hts⟩ (C6_ofShop l D cI q _ _ hP hI a1 (5 + (a2 - a2 / 10 * 10)) (mXSr (w := 5) h_a1 h_w (by decide))) (cwV 2 hts gX6_aboutShop_X6_ofShop rfl rfl rfl ⟨rfl, bd_X6ofShop⟩ ⟨Nat.le_of_ble_eq_true rfl, Nat.le_of_ble_eq_true rfl⟩) (bPV hk (va_recv hk.1 hP (ci := 6) (q0 := 0) rfl (wM_0 _ _ _))) rfl rfl hl.1 rfl (lv_room (Nat.le_of_ble_eq_true rfl)) dX6_aboutShop_25 ⟨Nat.zero_le _, Nat.zero_le _⟩) hS (fun locs hS => ?_)
      exact bret_Ri hx hb hr hS hlocks dX6_aboutShop_28 (by rw [← hF, F6_aboutShop, if_neg c_1, if_neg c_5])
def L6_number_7 (u : bU) : Nat → Nat → Int32 → Int32 → Int32 × Int32
  | 0, _, x2_7, x3_7 => (x2_7, x3_7)
  | n7 + 1, j7, x2_7, x3_7 => (if (u 0 0) ≤ (nI j7) then (x2_7, x3_7) else (L6_number_7 u n7 (j7 + 1) (x2_7 + (F6_of u (nI j7) 3)) (x3_7 + (F6_of u (nI j7) 4))))
def F6_number (u : bU) (a1 : Int32) : Int32 := (if a1 = 0 then (u 0 a1.toNatClampNeg) else (if a1 = 1 then (u 0 a1.toNatClampNeg) else (if a1 = 2 then (u 0 a1.toNatClampNeg) else (if a1 = 3 then (F6_cratesInShops u) else (if a1 = 4 then (u 0 (a1 - 1).toNatClampNeg) else (if a1 = 5 then (u 0 (a1 - 1).toNatClampNeg) else (if a1 = 6 then (u 0 (a1 - 1).toNatClampNeg) else (if a1 = 7 then (L6_number_7 u ((u 0 0).toNatClampNeg + 1) 0 0 0).1 else (if a1 = 8 then (L6_number_7 u ((u 0 0).toNatClampNeg + 1) 0 0 0).2 else (if a1 = 9 then (u 0 6) else (u 6 0)))))))))))
set_option maxHeartbeats 4000000 in
set_option maxRecDepth 100000 in
theorem C6_number (l : Launch) (D : va_G) (cI : ClassId) (q : Nat → Nat) (u : bU) (H0 : Heap) (hP : va_P D vwCl (wM cI q u) H0) (hI : mInv u) (a1 : Int32) : Met l yX6_number wsX6_number ({ frames := 3, cells := 0, slots := 0, locals := 65 }) (bP D [(cI, .int)] H0 [.ref (q 0), .int a1]) (bRi H0 (F6_number u a1)) 0 0 (fun _ => False) := by
  refine Met.ofW (cc := cX6_number) (maxL := 5) (ret := (some .int)) (by decide) rfl ?_
  intro p e s m args below meth c s₁ B hml hv
  obtain ⟨rfl, hH, hk⟩ := hv
  subst hH
  have hx := B.exec
  have hb := B.bytes
  have hr := B.returns
  have hts := atoms_spec (ws := wsX6_number) B.pre
  have hown : s.vm.findClass RX6 = some m.cls := findClass_of_methodNamed B.named
  have hlocks := B.notSynchronized
  have hNB := mNB hI
  have hNS := mNS hI
  have hI0 := hI
  have iX6 : ∀ w ∈ wsX60, w ∈ wsX6_number := by decide +kernel
  have hS : va_S (fun _ => False) s.heap s.heap [] := va_S.rf
  have hl := lv_entry ([.ref (q 0), .int a1]) (n := 5) (Nat.le_of_ble_eq_true rfl)
  rw [lg_entry_eq]
  generalize (lg_sl ([.ref (q 0), .int a1]) ++ List.replicate (5 - (lg_sl ([.ref (q 0), .int a1])).length) Slot.unset).toArray = ls at hl ⊢
  have hl : lv_has ls 5 [(0, .ref (q 0)), (1, .int a1)] := hl
  generalize hF : F6_number u a1 = tgt
  refine lv_iconst (v := 0) hx hb dX6_number_0 (by decide) ?_
  refine lv_istore_n (lv' := [(2, .int 0), (0, .ref (q 0)), (1, .int a1)]) hx hb dX6_number_1 rfl hl (by decide) rfl (fun ls hl => ?_)
  refine lv_iconst (v := 0) hx hb dX6_number_2 (by decide) ?_
  refine lv_istore_n (lv' := [(3, .int 0), (2, .int 0), (0, .ref (q 0)), (1, .int a1)]) hx hb dX6_number_3 rfl hl (by decide) rfl (fun ls hl => ?_)
  refine lv_iconst (v := 0) hx hb dX6_number_4 (by decide) ?_
  refine lv_istore (lv' := [(4, .int 0), (3, .int 0), (2, .int 0), (0, .ref (q 0)), (1, .int a1)]) hx hb dX6_number_5 hl (by decide) rfl (fun ls hl => ?_)
  have hB7 := bClamp (u 0 0)
  have loop7 : ∀ (n7 j7 : Nat) (x2_7 : Int32) (x3_7 : Int32) (locs : List Loc) (ls : Array Slot), j7 ≤ (u 0 0).toNatClampNeg → (u 0 0).toNatClampNeg + 1 ≤ n7 + j7 → lv_has ls 5 [(0, .ref (q 0)), (1, .int a1), (2, .int x2_7), (3, .int x3_7), (4, .int (nI j7))] → va_S (fun _ => False) s.heap s.heap locs → ∀ X : Int32 × Int32, L6_number_7 u  n7 j7 x2_7 x3_7 = X → (∀ (locs : List Loc) (ls : Array Slot), lv_has ls 5 [(0, .ref (q 0)), (1, .int a1), (2, .int X.1), (3, .int X.2)] → va_S (fun _ => False) s.heap s.heap locs → W p l e (headSpec wsX6_number ({ frames := 3, cells := 0, slots := 0, locals := 65 })).room s m ([.ref (q 0), .int a1] : List Value).toArray below meth c s.heap locs 0 0 (MQ below (bRi s.heap tgt) ([.ref (q 0), .int a1] : List Value).toArray s 0 0 (fun _ => False)) (F0 m 44 ls [])) → W p l e (headSpec wsX6_number ({ frames := 3, cells := 0, slots := 0, locals := 65 })).room s m ([.ref (q 0), .int a1] : List Value).toArray below meth c s.heap locs 0 0 (MQ below (bRi s.heap tgt) ([.ref (q 0), .int a1] : List Value).toArray s 0 0 (fun _ => False)) (F0 m 7 ls []) := by
    intro n7
    induction n7 with
    | zero => intro j7 x2_7 x3_7 locs ls hj hn; exact absurd hn (by omega)
    | succ n7 ih =>
      intro j7 x2_7 x3_7 locs ls hj hn hl hS X hF kx
      refine lv_iload hx hb dX6_number_7 (lv_at hl 4 rfl) ?_
      refine lv_aload_n hx hb dX6_number_9 rfl (lv_at hl 0 rfl) ?_
      refine va_get (D := D) (ci := 6) (C := RX6) (T := TX6) (N := 16) hx hb hts iX6 hown hk.1 hP 0 (wM_0 _ _ _) rfl 0 (by decide) (hts (.fieldLink RX6 7 "BottleLoopModel" "v" "[I") (List.mem_of_getElem? (i := 1) rfl)) (fun _ h9 => h9) rfl dX6_number_10 ?_
      refine lv_iconst (v := 0) hx hb dX6_number_13 (by decide) ?_
      refine va_iald hx hb hk.1 hP 1 0 (wM_1 _ _ _) rfl (vp_in_nI (n := 0) (by decide) (by decide)) dX6_number_14 ?_
      refine lv_topi (fun z9 hz9 => ?_)
      obtain rfl : z9 = (u 0 0) := hz9.trans rfl
      refine lv_icmp_ge (tgt := 44) hx hb dX6_number_15 (by decide) (fun c_1 => ?_) (fun c_1 => ?_)
      · obtain rfl : X = (x2_7, x3_7) := by rw [← hF, L6_number_7, if_pos c_1]
        exact kx _ _ (lv_sub hl [0, 1, 2, 3] rfl) hS
      · have hlt_2 : j7 < (u 0 0).toNatClampNeg := bLtB c_1 (by omega)
        refine lv_iload_n hx hb dX6_number_18 rfl (lv_at hl 2 rfl) ?_
        refine lv_aload_n hx hb dX6_number_19 rfl (lv_at hl 0 rfl) ?_
        refine lv_iload hx hb dX6_number_20 (lv_at hl 4 rfl) ?_
        refine lv_iconst (v := 3) hx hb dX6_number_22 (by decide) ?_
        refine bcall_Ri (va_runV (As := [.int (nI j7), .int 3]) (rest := [.int x2_7]) ⟨hx, hb, hml, hown, hts⟩ (C6_of l D cI q _ _ hP hI (nI j7) 3 (mXB (w := 3) (mB_nI (by omega)) (by decide))) (cwV 2 hts gX6_number_X6_of rfl rfl rfl ⟨rfl, bd_X6of⟩ ⟨Nat.le_of_ble_eq_true rfl, Nat.le_of_ble_eq_true rfl⟩) (bPV hk (va_recv hk.1 hP (ci := 6) (q0 := 0) rfl (wM_0 _ _ _))) rfl rfl hl.1 rfl (lv_room (Nat.le_of_ble_eq_true rfl)) dX6_number_23 ⟨Nat.zero_le _, Nat.zero_le _⟩) hS (fun locs hS => ?_)
        refine lv_iadd hx hb dX6_number_26 ?_
        refine lv_istore_n (lv' := [(2, .int (x2_7 + (F6_of u (nI j7) 3))), (0, .ref (q 0)), (1, .int a1), (3, .int x3_7), (4, .int (nI j7))]) hx hb dX6_number_27 rfl hl (by decide) rfl (fun ls hl => ?_)
        refine lv_iload_n hx hb dX6_number_28 rfl (lv_at hl 3 rfl) ?_
        refine lv_aload_n hx hb dX6_number_29 rfl (lv_at hl 1 rfl) ?_
        refine lv_iload hx hb dX6_number_30 (lv_at hl 4 rfl) ?_
        refine lv_iconst (v := 4) hx hb dX6_number_32 (by decide) ?_
        refine bcall_Ri (va_runV (As := [.int (nI j7), .int 4]) (rest := [.int x3_7]) ⟨hx, hb, hml, hown, hts⟩ (C6_of l D cI q _ _ hP hI (nI j7) 4 (mXB (w := 4) (mB_nI (by omega)) (by decide))) (cwV 2 hts gX6_number_X6_of rfl rfl rfl ⟨rfl, bd_X6of⟩ ⟨Nat.le_of_ble_eq_true rfl, Nat.le_of_ble_eq_true rfl⟩) (bPV hk (va_recv hk.1 hP (ci := 6) (q0 := 0) rfl (wM_0 _ _ _))) rfl rfl hl.1 rfl (lv_room (Nat.le_of_ble_eq_true rfl)) dX6_number_33 ⟨Nat.zero_le _, Nat.zero_le _⟩) hS (fun locs hS => ?_)
        refine lv_iadd hx hb dX6_number_36 ?_
        refine lv_istore_n (lv' := [(3, .int (x3_7 + (F6_of u (nI j7) 4))), (2, .int (x2_7 + (F6_of u (nI j7) 3))), (0, .ref (q 0)), (1, .int a1), (4, .int (nI j7))]) hx hb dX6_number_37 rfl hl (by decide) rfl (fun ls hl => ?_)
        refine lv_iinc (v := (nI (j7 + 1))) (lv' := [(4, .int (nI (j7 + 1))), (3, .int (x3_7 + (F6_of u (nI j7) 4))), (2, .int (x2_7 + (F6_of u (nI j7) 3))), (0, .ref (q 0)), (1, .int a1)]) hx hb dX6_number_38 hl (k := 4) rfl (bInc j7) (by decide) rfl (fun ls hl => ?_)
        refine lv_goto (tgt := 7) hx hb dX6_number_41 (by decide) ?_
        exact ih (j7 + 1) (x2_7 + (F6_of u (nI j7) 3)) (x3_7 + (F6_of u (nI j7) 4)) _ _ (by omega) (by omega) (lv_sub hl [3, 4, 2, 1, 0] rfl) hS X (by rw [← hF, L6_number_7, if_neg c_1]) kx
  refine loop7 ((u 0 0).toNatClampNeg + 1) 0 0 0 _ _ (by omega) (by omega) (lv_sub hl [3, 4, 2, 1, 0] rfl) hS _ rfl (fun locs ls hl hS => ?_)
  refine lv_iload_n hx hb dX6_number_44 rfl (lv_at hl 1 rfl) ?_
  by_cases c_3 : a1 = 0
  · refine lv_tableIn (off := 55) (tgt := 100) hx hb dX6_number_45 (by rw [c_3]; decide) (by rw [c_3]; decide) (by rw [c_3]; rfl) (by decide) ?_
    refine lv_aload_n hx hb dX6_number_100 rfl (lv_at hl 0 rfl) ?_
    refine va_get (D := D) (ci := 6) (C := RX6) (T := TX6) (N := 16) hx hb hts iX6 hown hk.1 hP 0 (wM_0 _ _ _) rfl 0 (by decide) (hts (.fieldLink RX6 7 "BottleLoopModel" "v" "[I") (List.mem_of_getElem? (i := 1) rfl)) (fun _ h9 => h9) rfl dX6_number_101 ?_
    refine lv_iload_n hx hb dX6_number_104 rfl (lv_at hl 1 rfl) ?_
    refine va_iald hx hb hk.1 hP 1 0 (wM_1 _ _ _) rfl (by rw [c_3]; exact vp_in_nI (n := 0) (by decide) (by decide)) dX6_number_105 ?_
    exact bret_Ri hx hb hr hS hlocks dX6_number_106 (by rw [← hF, F6_number, if_pos c_3])
  · by_cases c_4 : a1 = 1
    · refine lv_tableIn (off := 55) (tgt := 100) hx hb dX6_number_45 (by rw [c_4]; decide) (by rw [c_4]; decide) (by rw [c_4]; rfl) (by decide) ?_
      refine lv_aload_n hx hb dX6_number_100 rfl (lv_at hl 0 rfl) ?_
      refine va_get (D := D) (ci := 6) (C := RX6) (T := TX6) (N := 16) hx hb hts iX6 hown hk.1 hP 0 (wM_0 _ _ _) rfl 0 (by decide) (hts (.fieldLink RX6 7 "BottleLoopModel" "v" "[I") (List.mem_of_getElem? (i := 1) rfl)) (fun _ h9 => h9) rfl dX6_number_101 ?_
      refine lv_iload_n hx hb dX6_number_104 rfl (lv_at hl 1 rfl) ?_
      refine va_iald hx hb hk.1 hP 1 0 (wM_1 _ _ _) rfl (by rw [c_4]; exact vp_in_nI (n := 1) (by decide) (by decide)) dX6_number_105 ?_
      exact bret_Ri hx hb hr hS hlocks dX6_number_106 (by rw [← hF, F6_number, if_neg c_3, if_pos c_4])
    · by_cases c_5 : a1 = 2
      · refine lv_tableIn (off := 55) (tgt := 100) hx hb dX6_number_45 (by rw [c_5]; decide) (by rw [c_5]; decide) (by rw [c_5]; rfl) (by decide) ?_
        refine lv_aload_n hx hb dX6_number_100 rfl (lv_at hl 0 rfl) ?_
        refine va_get (D := D) (ci := 6) (C := RX6) (T := TX6) (N := 16) hx hb hts iX6 hown hk.1 hP 0 (wM_0 _ _ _) rfl 0 (by decide) (hts (.fieldLink RX6 7 "BottleLoopModel" "v" "[I") (List.mem_of_getElem? (i := 1) rfl)) (fun _ h9 => h9) rfl dX6_number_101 ?_
        refine lv_iload_n hx hb dX6_number_104 rfl (lv_at hl 1 rfl) ?_
        refine va_iald hx hb hk.1 hP 1 0 (wM_1 _ _ _) rfl (by rw [c_5]; exact vp_in_nI (n := 2) (by decide) (by decide)) dX6_number_105 ?_
        exact bret_Ri hx hb hr hS hlocks dX6_number_106 (by rw [← hF, F6_number, if_neg c_3, if_neg c_4, if_pos c_5])
      · by_cases c_6 : a1 = 3
        · refine lv_tableIn (off := 62) (tgt := 107) hx hb dX6_number_45 (by rw [c_6]; decide) (by rw [c_6]; decide) (by rw [c_6]; rfl) (by decide) ?_
          refine lv_aload_n hx hb dX6_number_107 rfl (lv_at hl 0 rfl) ?_
          refine bcall_Ri (va_runV (As := []) (rest := []) ⟨hx, hb, hml, hown, hts⟩ (C6_cratesInShops l D cI q _ _ hP hI ) (cwV 0 hts gX6_number_X6_cratesInShops rfl rfl rfl ⟨rfl, bd_X6cratesInShops⟩ ⟨Nat.le_of_ble_eq_true rfl, Nat.le_of_ble_eq_true rfl⟩) (bPV hk (va_recv hk.1 hP (ci := 6) (q0 := 0) rfl (wM_0 _ _ _))) rfl rfl hl.1 rfl (lv_room (Nat.le_of_ble_eq_true rfl)) dX6_number_108 ⟨Nat.zero_le _, Nat.zero_le _⟩) hS (fun locs hS => ?_)
          exact bret_Ri hx hb hr hS hlocks dX6_number_111 (by rw [← hF, F6_number, if_neg c_3, if_neg c_4, if_neg c_5, if_pos c_6])
        · by_cases c_7 : a1 = 4
          · refine lv_tableIn (off := 67) (tgt := 112) hx hb dX6_number_45 (by rw [c_7]; decide) (by rw [c_7]; decide) (by rw [c_7]; rfl) (by decide) ?_
            refine lv_aload_n hx hb dX6_number_112 rfl (lv_at hl 0 rfl) ?_
            refine va_get (D := D) (ci := 6) (C := RX6) (T := TX6) (N := 16) hx hb hts iX6 hown hk.1 hP 0 (wM_0 _ _ _) rfl 0 (by decide) (hts (.fieldLink RX6 7 "BottleLoopModel" "v" "[I") (List.mem_of_getElem? (i := 1) rfl)) (fun _ h9 => h9) rfl dX6_number_113 ?_
            refine lv_iload_n hx hb dX6_number_116 rfl (lv_at hl 1 rfl) ?_
            refine lv_iconst (v := 1) hx hb dX6_number_117 (by decide) ?_
            refine lv_isub hx hb dX6_number_118 ?_
            refine va_iald hx hb hk.1 hP 1 0 (wM_1 _ _ _) rfl (by rw [c_7]; exact vp_in_nI (n := 3) (by decide) (by decide)) dX6_number_119 ?_
            exact bret_Ri hx hb hr hS hlocks dX6_number_120 (by rw [← hF, F6_number, if_neg c_3, if_neg c_4, if_neg c_5, if_neg c_6, if_pos c_7])
          · by_cases c_8 : a1 = 5
            · refine lv_tableIn (off := 67) (tgt := 112) hx hb dX6_number_45 (by rw [c_8]; decide) (by rw [c_8]; decide) (by rw [c_8]; rfl) (by decide) ?_
              refine lv_aload_n hx hb dX6_number_112 rfl (lv_at hl 0 rfl) ?_
              refine va_get (D := D) (ci := 6) (C := RX6) (T := TX6) (N := 16) hx hb hts iX6 hown hk.1 hP 0 (wM_0 _ _ _) rfl 0 (by decide) (hts (.fieldLink RX6 7 "BottleLoopModel" "v" "[I") (List.mem_of_getElem? (i := 1) rfl)) (fun _ h9 => h9) rfl dX6_number_113 ?_
              refine lv_iload_n hx hb dX6_number_116 rfl (lv_at hl 1 rfl) ?_
              refine lv_iconst (v := 1) hx hb dX6_number_117 (by decide) ?_
              refine lv_isub hx hb dX6_number_118 ?_
              refine va_iald hx hb hk.1 hP 1 0 (wM_1 _ _ _) rfl (by rw [c_8]; exact vp_in_nI (n := 4) (by decide) (by decide)) dX6_number_119 ?_
              exact bret_Ri hx hb hr hS hlocks dX6_number_120 (by rw [← hF, F6_number, if_neg c_3, if_neg c_4, if_neg c_5, if_neg c_6, if_neg c_7, if_pos c_8])
            · by_cases c_9 : a1 = 6
              · refine lv_tableIn (off := 67) (tgt := 112) hx hb dX6_number_45 (by rw [c_9]; decide) (by rw [c_9]; decide) (by rw [c_9]; rfl) (by decide) ?_
                refine lv_aload_n hx hb dX6_number_112 rfl (lv_at hl 0 rfl) ?_
                refine va_get (D := D) (ci := 6) (C := RX6) (T := TX6) (N := 16) hx hb hts iX6 hown hk.1 hP 0 (wM_0 _ _ _) rfl 0 (by decide) (hts (.fieldLink RX6 7 "BottleLoopModel" "v" "[I") (List.mem_of_getElem? (i := 1) rfl)) (fun _ h9 => h9) rfl dX6_number_113 ?_
                refine lv_iload_n hx hb dX6_number_116 rfl (lv_at hl 1 rfl) ?_
                refine lv_iconst (v := 1) hx hb dX6_number_117 (by decide) ?_
                refine lv_isub hx hb dX6_number_118 ?_
                refine va_iald hx hb hk.1 hP 1 0 (wM_1 _ _ _) rfl (by rw [c_9]; exact vp_in_nI (n := 5) (by decide) (by decide)) dX6_number_119 ?_
                exact bret_Ri hx hb hr hS hlocks dX6_number_120 (by rw [← hF, F6_number, if_neg c_3, if_neg c_4, if_neg c_5, if_neg c_6, if_neg c_7, if_neg c_8, if_pos c_9])
              · by_cases c_10 : a1 = 7
                · refine lv_tableIn (off := 76) (tgt := 121) hx hb dX6_number_45 (by rw [c_10]; decide) (by rw [c_10]; decide) (by rw [c_10]; rfl) (by decide) ?_
                  refine lv_iload_n hx hb dX6_number_121 rfl (lv_at hl 2 rfl) ?_
                  exact bret_Ri hx hb hr hS hlocks dX6_number_122 (by rw [← hF, F6_number, if_neg c_3, if_neg c_4, if_neg c_5, if_neg c_6, if_neg c_7, if_neg c_8, if_neg c_9, if_pos c_10])
                · by_cases c_11 : a1 = 8
                  · refine lv_tableIn (off := 78) (tgt := 123) hx hb dX6_number_45 (by rw [c_11]; decide) (by rw [c_11]; decide) (by rw [c_11]; rfl) (by decide) ?_
                    refine lv_iload_n hx hb dX6_number_123 rfl (lv_at hl 3 rfl) ?_
                    exact bret_Ri hx hb hr hS hlocks dX6_number_124 (by rw [← hF, F6_number, if_neg c_3, if_neg c_4, if_neg c_5, if_neg c_6, if_neg c_7, if_neg c_8, if_neg c_9, if_neg c_10, if_pos c_11])
                  · by_cases c_12 : a1 = 9
                    · refine lv_tableIn (off := 80) (tgt := 125) hx hb dX6_number_45 (by rw [c_12]; decide) (by rw [c_12]; decide) (by rw [c_12]; rfl) (by decide) ?_
                      refine lv_aload_n hx hb dX6_number_125 rfl (lv_at hl 0 rfl) ?_
                      refine va_get (D := D) (ci := 6) (C := RX6) (T := TX6) (N := 16) hx hb hts iX6 hown hk.1 hP 0 (wM_0 _ _ _) rfl 0 (by decide) (hts (.fieldLink RX6 7 "BottleLoopModel" "v" "[I") (List.mem_of_getElem? (i := 1) rfl)) (fun _ h9 => h9) rfl dX6_number_126 ?_
                      refine lv_bipush (v := 6) hx hb dX6_number_129 (by decide) ?_
                      refine va_iald hx hb hk.1 hP 1 0 (wM_1 _ _ _) rfl (vp_in_nI (n := 6) (by decide) (by decide)) dX6_number_131 ?_
                      refine lv_topi (fun z9 hz9 => ?_)
                      obtain rfl : z9 = (u 0 6) := hz9.trans rfl
                      exact bret_Ri hx hb hr hS hlocks dX6_number_132 (by rw [← hF, F6_number, if_neg c_3, if_neg c_4, if_neg c_5, if_neg c_6, if_neg c_7, if_neg c_8, if_neg c_9, if_neg c_10, if_neg c_11, if_pos c_12])
                    · have hn_45_0 := lv_neT c_3 (a := 0) rfl
                      have hn_45_1 := lv_neT c_4 (a := 1) rfl
                      have hn_45_2 := lv_neT c_5 (a := 2) rfl
                      have hn_45_3 := lv_neT c_6 (a := 3) rfl
                      have hn_45_4 := lv_neT c_7 (a := 4) rfl
                      have hn_45_5 := lv_neT c_8 (a := 5) rfl
                      have hn_45_6 := lv_neT c_9 (a := 6) rfl
                      have hn_45_7 := lv_neT c_10 (a := 7) rfl
                      have hn_45_8 := lv_neT c_11 (a := 8) rfl
                      have hn_45_9 := lv_neT c_12 (a := 9) rfl
                      refine lv_tableOut (tgt := 133) hx hb dX6_number_45 (by omega) (by decide) ?_
                      refine lv_aload_n hx hb dX6_number_133 rfl (lv_at hl 0 rfl) ?_
                      refine va_get (D := D) (ci := 6) (C := RX6) (T := TX6) (N := 16) hx hb hts iX6 hown hk.1 hP 0 (wM_0 _ _ _) rfl 3 (by decide) (hts (.fieldLink RX6 32 "BottleLoopModel" "saves" "I") (List.mem_of_getElem? (i := 2) rfl)) (fun _ h9 => h9) rfl dX6_number_134 ?_
                      exact bret_Ri hx hb hr hS hlocks dX6_number_137 (by rw [← hF, F6_number, if_neg c_3, if_neg c_4, if_neg c_5, if_neg c_6, if_neg c_7, if_neg c_8, if_neg c_9, if_neg c_10, if_neg c_11, if_neg c_12])
def L6_deliverable_2 (u : bU) (a1 : Int32) (a2 : Int32) : Nat → Nat → Int32
  | 0, _ => 0
  | n2 + 1, j2 => (if (50 : Int32) ≤ (nI j2) then (nI j2) else (if (F6_againstDeliver u a1 a2 ((nI j2) + 1)) = 0 then (L6_deliverable_2 u a1 a2 n2 (j2 + 1)) else (nI j2)))
def F6_deliverable (u : bU) (a1 : Int32) (a2 : Int32) : Int32 := (L6_deliverable_2 u a1 a2 (50 + 1) 0)
set_option maxHeartbeats 4000000 in
set_option maxRecDepth 100000 in
theorem C6_deliverable (l : Launch) (D : va_G) (cI : ClassId) (q : Nat → Nat) (u : bU) (H0 : Heap) (hP : va_P D vwCl (wM cI q u) H0) (hI : mInv u) (a1 : Int32) (a2 : Int32) (h_a1 : mB a1) (h_a2 : mS a2) : Met l yX6_deliverable wsX6_deliverable ({ frames := 4, cells := 0, slots := 0, locals := 88 }) (bP D [(cI, .int)] H0 [.ref (q 0), .int a1, .int a2]) (bRi H0 (F6_deliverable u a1 a2)) 0 0 (fun _ => False) := by
  refine Met.ofW (cc := cX6_deliverable) (maxL := 4) (ret := (some .int)) (by decide) rfl ?_
  intro p e s m args below meth c s₁ B hml hv
  obtain ⟨rfl, hH, hk⟩ := hv
  subst hH
  have hx := B.exec
  have hb := B.bytes
  have hr := B.returns
  have hts := atoms_spec (ws := wsX6_deliverable) B.pre
  have hown : s.vm.findClass RX6 = some m.cls := findClass_of_methodNamed B.named
  have hlocks := B.notSynchronized
  have hNB := mNB hI
  have hNS := mNS hI
  have hI0 := hI
  have hS : va_S (fun _ => False) s.heap s.heap [] := va_S.rf
  have hl := lv_entry ([.ref (q 0), .int a1, .int a2]) (n := 4) (Nat.le_of_ble_eq_true rfl)
  rw [lg_entry_eq]
  generalize (lg_sl ([.ref (q 0), .int a1, .int a2]) ++ List.replicate (4 - (lg_sl ([.ref (q 0), .int a1, .int a2])).length) Slot.unset).toArray = ls at hl ⊢
  have hl : lv_has ls 4 [(0, .ref (q 0)), (1, .int a1), (2, .int a2)] := hl
  generalize hF : F6_deliverable u a1 a2 = tgt
  refine lv_iconst (v := 0) hx hb dX6_deliverable_0 (by decide) ?_
  refine lv_istore_n (lv' := [(3, .int 0), (0, .ref (q 0)), (1, .int a1), (2, .int a2)]) hx hb dX6_deliverable_1 rfl hl (by decide) rfl (fun ls hl => ?_)
  have loop2 : ∀ (n2 j2 : Nat) (locs : List Loc) (ls : Array Slot), j2 ≤ 50 → 50 + 1 ≤ n2 + j2 → lv_has ls 4 [(0, .ref (q 0)), (1, .int a1), (2, .int a2), (3, .int (nI j2))] → va_S (fun _ => False) s.heap s.heap locs → L6_deliverable_2 u a1 a2  n2 j2 = tgt → W p l e (headSpec wsX6_deliverable ({ frames := 4, cells := 0, slots := 0, locals := 88 })).room s m ([.ref (q 0), .int a1, .int a2] : List Value).toArray below meth c s.heap locs 0 0 (MQ below (bRi s.heap tgt) ([.ref (q 0), .int a1, .int a2] : List Value).toArray s 0 0 (fun _ => False)) (F0 m 2 ls []) := by
    intro n2
    induction n2 with
    | zero => intro j2 locs ls hj hn; exact absurd hn (by omega)
    | succ n2 ih =>
      intro j2 locs ls hj hn hl hS hF
      refine lv_iload_n hx hb dX6_deliverable_2 rfl (lv_at hl 3 rfl) ?_
      refine lv_bipush (v := 50) hx hb dX6_deliverable_3 (by decide) ?_
      refine lv_icmp_ge (tgt := 26) hx hb dX6_deliverable_5 (by decide) (fun c_1 => ?_) (fun c_1 => ?_)
      · refine lv_iload_n hx hb dX6_deliverable_26 rfl (lv_at hl 3 rfl) ?_
        exact bret_Ri hx hb hr hS hlocks dX6_deliverable_27 (by rw [← hF, L6_deliverable_2, if_pos c_1])
      · have hlt_2 : j2 < 50 := bLt c_1 (by omega) (by decide)
        refine lv_aload_n hx hb dX6_deliverable_8 rfl (lv_at hl 0 rfl) ?_
        refine lv_iload_n hx hb dX6_deliverable_9 rfl (lv_at hl 1 rfl) ?_
        refine lv_iload_n hx hb dX6_deliverable_10 rfl (lv_at hl 2 rfl) ?_
        refine lv_iload_n hx hb dX6_deliverable_11 rfl (lv_at hl 3 rfl) ?_
        refine lv_iconst (v := 1) hx hb dX6_deliverable_12 (by decide) ?_
        refine lv_iadd hx hb dX6_deliverable_13 ?_
        refine bcall_Ri (va_runV (As := [.int a1, .int a2, .int ((nI j2) + 1)]) (rest := []) ⟨hx, hb, hml, hown, hts⟩ (C6_againstDeliver l D cI q _ _ hP hI a1 a2 ((nI j2) + 1) h_a1 h_a2) (cwV 3 hts gX6_deliverable_X6_againstDeliver rfl rfl rfl ⟨rfl, bd_X6againstDeliver⟩ ⟨Nat.le_of_ble_eq_true rfl, Nat.le_of_ble_eq_true rfl⟩) (bPV hk (va_recv hk.1 hP (ci := 6) (q0 := 0) rfl (wM_0 _ _ _))) rfl rfl hl.1 rfl (lv_room (Nat.le_of_ble_eq_true rfl)) dX6_deliverable_14 ⟨Nat.zero_le _, Nat.zero_le _⟩) hS (fun locs hS => ?_)
        refine lv_if_ne (tgt := 26) hx hb dX6_deliverable_17 (by decide) (fun c_3 => ?_) (fun c_3 => ?_)
        · refine lv_iload_n hx hb dX6_deliverable_26 rfl (lv_at hl 3 rfl) ?_
          exact bret_Ri hx hb hr hS hlocks dX6_deliverable_27 (by rw [← hF, L6_deliverable_2, if_neg c_1, if_neg c_3])
        · refine lv_iinc (v := (nI (j2 + 1))) (lv' := [(3, .int (nI (j2 + 1))), (0, .ref (q 0)), (1, .int a1), (2, .int a2)]) hx hb dX6_deliverable_20 hl (k := 3) rfl (bInc j2) (by decide) rfl (fun ls hl => ?_)
          refine lv_goto (tgt := 2) hx hb dX6_deliverable_23 (by decide) ?_
          exact ih (j2 + 1)  _ _ (by omega) (by omega) (lv_sub hl [1, 2, 3, 0] rfl) hS (by rw [← hF, L6_deliverable_2, if_neg c_1, if_pos c_3])
  exact loop2 (50 + 1) 0  _ _ (by omega) (by omega) (lv_sub hl [1, 2, 3, 0] rfl) hS (by rw [← hF, F6_deliverable])
theorem bd_X6aboutBrand : yX6_aboutBrand.cls ≠ "java/lang/invoke/MethodHandle" ∧ yX6_aboutBrand.cls ≠ "java/lang/invoke/VarHandle" ∧ (parseMethodDescriptor yX6_aboutBrand.desc).map (fun d => d.parameters.length) = some 2 := by decide +kernel
theorem bd_X6aboutShop : yX6_aboutShop.cls ≠ "java/lang/invoke/MethodHandle" ∧ yX6_aboutShop.cls ≠ "java/lang/invoke/VarHandle" ∧ (parseMethodDescriptor yX6_aboutShop.desc).map (fun d => d.parameters.length) = some 2 := by decide +kernel
theorem bd_X6deliverable : yX6_deliverable.cls ≠ "java/lang/invoke/MethodHandle" ∧ yX6_deliverable.cls ≠ "java/lang/invoke/VarHandle" ∧ (parseMethodDescriptor yX6_deliverable.desc).map (fun d => d.parameters.length) = some 2 := by decide +kernel
theorem bd_X6number : yX6_number.cls ≠ "java/lang/invoke/MethodHandle" ∧ yX6_number.cls ≠ "java/lang/invoke/VarHandle" ∧ (parseMethodDescriptor yX6_number.desc).map (fun d => d.parameters.length) = some 1 := by decide +kernel
def F6_brand (u : bU) (a1 : Int32) (a2 : Int32) : Int32 × bU := (if (F6_isBrand (bput u 6 2 0) a1) = 0 then ((F6_fails (bput u 6 2 0) 1).1, (F6_fails (bput u 6 2 0) 1).2) else (if (F6_in a2 0 11) = 0 then ((F6_fails (bput u 6 2 0) 2).1, (F6_fails (bput u 6 2 0) 2).2) else ((F6_aboutBrand (bput u 6 2 0) a1 a2), (bput u 6 2 0))))
set_option maxHeartbeats 4000000 in
set_option maxRecDepth 100000 in
theorem C6_brand (l : Launch) (D : va_G) (cI : ClassId) (q : Nat → Nat) (u : bU) (H0 : Heap) (hq : bInj 7 q) (hP : va_P D vwCl (wM cI q u) H0) (hI : mInv u) (a1 : Int32) (a2 : Int32) : Met l yX6_brand wsX6_brand ({ frames := 4, cells := 0, slots := 0, locals := 89 }) (bP D [(cI, .int)] H0 [.ref (q 0), .int a1, .int a2]) (bWi D (wM cI q) mInv (bA 7 q H0.size) (F6_brand u a1 a2)) 0 0 (bA 7 q H0.size) := by
  refine Met.ofW (cc := cX6_brand) (maxL := 3) (ret := (some .int)) (by decide) rfl ?_
  intro p e s m args below meth c s₁ B hml hv
  obtain ⟨rfl, hH, hk⟩ := hv
  subst hH
  have hx := B.exec
  have hb := B.bytes
  have hr := B.returns
  have hts := atoms_spec (ws := wsX6_brand) B.pre
  have hown : s.vm.findClass RX6 = some m.cls := findClass_of_methodNamed B.named
  have hlocks := B.notSynchronized
  have hNB := mNB hI
  have hNS := mNS hI
  have hI0 := hI
  have iX6 : ∀ w ∈ wsX60, w ∈ wsX6_brand := by decide +kernel
  have hS : va_S (bA 7 q s.heap.size) s.heap s.heap [] := va_S.rf
  have hl := lv_entry ([.ref (q 0), .int a1, .int a2]) (n := 3) (Nat.le_of_ble_eq_true rfl)
  rw [lg_entry_eq]
  generalize (lg_sl ([.ref (q 0), .int a1, .int a2]) ++ List.replicate (3 - (lg_sl ([.ref (q 0), .int a1, .int a2])).length) Slot.unset).toArray = ls at hl ⊢
  have hl : lv_has ls 3 [(0, .ref (q 0)), (1, .int a1), (2, .int a2)] := hl
  generalize hF : F6_brand u a1 a2 = tgt
  refine lv_aload_n hx hb dX6_brand_0 rfl (lv_at hl 0 rfl) ?_
  refine lv_iconst (v := 0) hx hb dX6_brand_1 (by decide) ?_
  refine va_put (D := D) (ci := 6) (v := .int 0) (ty := .int) (C := RX6) (T := TX6) (N := 16) hx hb hts iX6 tyX6 tyX6_ok nmX6 hown hk.1 hP (wM_D hq) hS 0 (wM_0 _ _ _) rfl 6 (by decide) (hts (.fieldLink RX6 28 "BottleLoopModel" "thrown" "I") (List.mem_of_getElem? (i := 1) rfl)) (fun _ h9 => h9) rfl (by decide +kernel) rfl rfl (Nat.le_of_ble_eq_true rfl) dX6_brand_2 (fun H locs hP _ hS => ?_)
  have hP : va_P D vwCl (wM cI q (bput u 6 2 0)) H := pM_f2 hP
  have hI_1 : mInv (bput u 6 2 0) := mInv_sc (k := 2) hI (by decide) (by decide) (by decide)
  refine lv_aload_n hx hb dX6_brand_5 rfl (lv_at hl 0 rfl) ?_
  refine lv_iload_n hx hb dX6_brand_6 rfl (lv_at hl 1 rfl) ?_
  refine bcall_Ri (va_runV (As := [.int a1]) (rest := []) ⟨hx, hb, hml, hown, hts⟩ (C6_isBrand l D cI q _ _ hP hI_1 a1) (cwV 1 hts gX6_brand_X6_isBrand rfl rfl rfl ⟨rfl, bd_X6isBrand⟩ ⟨Nat.le_of_ble_eq_true rfl, Nat.le_of_ble_eq_true rfl⟩) (bPV hk (va_recv hk.1 hP (ci := 6) (q0 := 0) rfl (wM_0 _ _ _))) rfl rfl hl.1 rfl (lv_room (Nat.le_of_ble_eq_true rfl)) dX6_brand_7 ⟨Nat.zero_le _, Nat.zero_le _⟩) hS (fun locs hS => ?_)
  refine lv_if_ne (tgt := 19) hx hb dX6_brand_10 (by decide) (fun c_2 => ?_) (fun c_2 => ?_)
  · have hm_3 : mB a1 := mB_is hI_1 c_2
    refine lv_iload_n hx hb dX6_brand_19 rfl (lv_at hl 2 rfl) ?_
    refine lv_iconst (v := 0) hx hb dX6_brand_20 (by decide) ?_
    refine lv_bipush (v := 11) hx hb dX6_brand_21 (by decide) ?_
    refine bcall_Ri (va_runS (As := [.int a2, .int 0, .int 11]) (rest := []) ⟨hx, hb, hml, hown, hts⟩ (C6_in l D cI q _ a2 0 11) (va_cwS 3 hts gX6_brand_X6_in rfl rfl rfl bd_X6in ⟨Nat.le_of_ble_eq_true rfl, Nat.le_of_ble_eq_true rfl⟩) (bPS hk) rfl rfl hl.1 rfl (lv_room (Nat.le_of_ble_eq_true rfl)) dX6_brand_23 ⟨Nat.zero_le _, Nat.zero_le _⟩) hS (fun locs hS => ?_)
    refine lv_if_eq (tgt := 38) hx hb dX6_brand_26 (by decide) (fun c_4 => ?_) (fun c_4 => ?_)
    · refine lv_aload_n hx hb dX6_brand_38 rfl (lv_at hl 0 rfl) ?_
      refine lv_iconst (v := 2) hx hb dX6_brand_39 (by decide) ?_
      refine bcall_Wi (va_runV (As := [.int 2]) (rest := []) ⟨hx, hb, hml, hown, hts⟩ (C6_fails l D cI q _ _ hq hP hI_1 2) (cwV 1 hts gX6_brand_X6_fails rfl rfl rfl ⟨rfl, bd_X6fails⟩ ⟨Nat.le_of_ble_eq_true rfl, Nat.le_of_ble_eq_true rfl⟩) (bPV hk (va_recv hk.1 hP (ci := 6) (q0 := 0) rfl (wM_0 _ _ _))) rfl rfl hl.1 rfl (lv_room (Nat.le_of_ble_eq_true rfl)) dX6_brand_40 ⟨Nat.zero_le _, Nat.zero_le _⟩) hS (fun H locs hP hI_5 hS => ?_)
      exact bret_Wi hx hb hr hP hI_5 hS hlocks dX6_brand_43 (by rw [← hF, F6_brand, if_neg c_2, if_pos c_4])
    · refine lv_aload_n hx hb dX6_brand_29 rfl (lv_at hl 0 rfl) ?_
      refine lv_iload_n hx hb dX6_brand_30 rfl (lv_at hl 1 rfl) ?_
      refine lv_iload_n hx hb dX6_brand_31 rfl (lv_at hl 2 rfl) ?_
      refine bcall_Ri (va_runV (As := [.int a1, .int a2]) (rest := []) ⟨hx, hb, hml, hown, hts⟩ (C6_aboutBrand l D cI q _ _ hP hI_1 a1 a2 hm_3 (mW12_in c_4)) (cwV 2 hts gX6_brand_X6_aboutBrand rfl rfl rfl ⟨rfl, bd_X6aboutBrand⟩ ⟨Nat.le_of_ble_eq_true rfl, Nat.le_of_ble_eq_true rfl⟩) (bPV hk (va_recv hk.1 hP (ci := 6) (q0 := 0) rfl (wM_0 _ _ _))) rfl rfl hl.1 rfl (lv_room (Nat.le_of_ble_eq_true rfl)) dX6_brand_32 ⟨Nat.zero_le _, Nat.zero_le _⟩) hS (fun locs hS => ?_)
      refine lv_goto (tgt := 43) hx hb dX6_brand_35 (by decide) ?_
      exact bret_Wi hx hb hr hP hI_1 hS hlocks dX6_brand_43 (by rw [← hF, F6_brand, if_neg c_2, if_neg c_4])
  · refine lv_aload_n hx hb dX6_brand_13 rfl (lv_at hl 0 rfl) ?_
    refine lv_iconst (v := 1) hx hb dX6_brand_14 (by decide) ?_
    refine bcall_Wi (va_runV (As := [.int 1]) (rest := []) ⟨hx, hb, hml, hown, hts⟩ (C6_fails l D cI q _ _ hq hP hI_1 1) (cwV 1 hts gX6_brand_X6_fails rfl rfl rfl ⟨rfl, bd_X6fails⟩ ⟨Nat.le_of_ble_eq_true rfl, Nat.le_of_ble_eq_true rfl⟩) (bPV hk (va_recv hk.1 hP (ci := 6) (q0 := 0) rfl (wM_0 _ _ _))) rfl rfl hl.1 rfl (lv_room (Nat.le_of_ble_eq_true rfl)) dX6_brand_15 ⟨Nat.zero_le _, Nat.zero_le _⟩) hS (fun H locs hP hI_6 hS => ?_)
    exact bret_Wi hx hb hr hP hI_6 hS hlocks dX6_brand_18 (by rw [← hF, F6_brand, if_pos c_2])
def F6_shop (u : bU) (a1 : Int32) (a2 : Int32) : Int32 × bU := (if (F6_isShop (bput u 6 2 0) a1) = 0 then ((F6_fails (bput u 6 2 0) 1).1, (F6_fails (bput u 6 2 0) 1).2) else (if (F6_in a2 0 6) = 0 then (if (F6_in a2 10 17) = 0 then (if (F6_in a2 20 27) = 0 then ((F6_fails (bput u 6 2 0) 2).1, (F6_fails (bput u 6 2 0) 2).2) else ((F6_aboutShop (bput u 6 2 0) a1 a2), (bput u 6 2 0))) else ((F6_aboutShop (bput u 6 2 0) a1 a2), (bput u 6 2 0))) else ((F6_aboutShop (bput u 6 2 0) a1 a2), (bput u 6 2 0))))
set_option maxHeartbeats 4000000 in
set_option maxRecDepth 100000 in
theorem C6_shop (l : Launch) (D : va_G) (cI : ClassId) (q : Nat → Nat) (u : bU) (H0 : Heap) (hq : bInj 7 q) (hP : va_P D vwCl (wM cI q u) H0) (hI : mInv u) (a1 : Int32) (a2 : Int32) : Met l yX6_shop wsX6_shop ({ frames := 4, cells := 0, slots := 0, locals := 89 }) (bP D [(cI, .int)] H0 [.ref (q 0), .int a1, .int a2]) (bWi D (wM cI q) mInv (bA 7 q H0.size) (F6_shop u a1 a2)) 0 0 (bA 7 q H0.size) := by
  refine Met.ofW (cc := cX6_shop) (maxL := 3) (ret := (some .int)) (by decide) rfl ?_
  intro p e s m args below meth c s₁ B hml hv
  obtain ⟨rfl, hH, hk⟩ := hv
  subst hH
  have hx := B.exec
  have hb := B.bytes
  have hr := B.returns
  have hts := atoms_spec (ws := wsX6_shop) B.pre
  have hown : s.vm.findClass RX6 = some m.cls := findClass_of_methodNamed B.named
  have hlocks := B.notSynchronized
  have hNB := mNB hI
  have hNS := mNS hI
  have hI0 := hI
  have iX6 : ∀ w ∈ wsX60, w ∈ wsX6_shop := by decide +kernel
  have hS : va_S (bA 7 q s.heap.size) s.heap s.heap [] := va_S.rf
  have hl := lv_entry ([.ref (q 0), .int a1, .int a2]) (n := 3) (Nat.le_of_ble_eq_true rfl)
  rw [lg_entry_eq]
  generalize (lg_sl ([.ref (q 0), .int a1, .int a2]) ++ List.replicate (3 - (lg_sl ([.ref (q 0), .int a1, .int a2])).length) Slot.unset).toArray = ls at hl ⊢
  have hl : lv_has ls 3 [(0, .ref (q 0)), (1, .int a1), (2, .int a2)] := hl
  generalize hF : F6_shop u a1 a2 = tgt
  refine lv_aload_n hx hb dX6_shop_0 rfl (lv_at hl 0 rfl) ?_
  refine lv_iconst (v := 0) hx hb dX6_shop_1 (by decide) ?_
  refine va_put (D := D) (ci := 6) (v := .int 0) (ty := .int) (C := RX6) (T := TX6) (N := 16) hx hb hts iX6 tyX6 tyX6_ok nmX6 hown hk.1 hP (wM_D hq) hS 0 (wM_0 _ _ _) rfl 6 (by decide) (hts (.fieldLink RX6 28 "BottleLoopModel" "thrown" "I") (List.mem_of_getElem? (i := 1) rfl)) (fun _ h9 => h9) rfl (by decide +kernel) rfl rfl (Nat.le_of_ble_eq_true rfl) dX6_shop_2 (fun H locs hP _ hS => ?_)
  have hP : va_P D vwCl (wM cI q (bput u 6 2 0)) H := pM_f2 hP
  have hI_1 : mInv (bput u 6 2 0) := mInv_sc (k := 2) hI (by decide) (by decide) (by decide)
  refine lv_aload_n hx hb dX6_shop_5 rfl (lv_at hl 0 rfl) ?_
  refine lv_iload_n hx hb dX6_shop_6 rfl (lv_at hl 1 rfl) ?_
  refine bcall_Ri (va_runV (As := [.int a1]) (rest := []) ⟨hx, hb, hml, hown, hts⟩ (C6_isShop l D cI q _ _ hP hI_1 a1) (cwV 1 hts gX6_shop_X6_isShop rfl rfl rfl ⟨rfl, bd_X6isShop⟩ ⟨Nat.le_of_ble_eq_true rfl, Nat.le_of_ble_eq_true rfl⟩) (bPV hk (va_recv hk.1 hP (ci := 6) (q0 := 0) rfl (wM_0 _ _ _))) rfl rfl hl.1 rfl (lv_room (Nat.le_of_ble_eq_true rfl)) dX6_shop_7 ⟨Nat.zero_le _, Nat.zero_le _⟩) hS (fun locs hS => ?_)
  refine lv_if_ne (tgt := 19) hx hb dX6_shop_10 (by decide) (fun c_2 => ?_) (fun c_2 => ?_)
  · have hm_3 : mS a1 := mS_is hI_1 c_2
    refine lv_iload_n hx hb dX6_shop_19 rfl (lv_at hl 2 rfl) ?_
    refine lv_iconst (v := 0) hx hb dX6_shop_20 (by decide) ?_
    refine lv_bipush (v := 6) hx hb dX6_shop_21 (by decide) ?_
    refine bcall_Ri (va_runS (As := [.int a2, .int 0, .int 6]) (rest := []) ⟨hx, hb, hml, hown, hts⟩ (C6_in l D cI q _ a2 0 6) (va_cwS 3 hts gX6_shop_X6_in rfl rfl rfl bd_X6in ⟨Nat.le_of_ble_eq_true rfl, Nat.le_of_ble_eq_true rfl⟩) (bPS hk) rfl rfl hl.1 rfl (lv_room (Nat.le_of_ble_eq_true rfl)) dX6_shop_23 ⟨Nat.zero_le _, Nat.zero_le _⟩) hS (fun locs hS => ?_)
    refine lv_if_ne (tgt := 51) hx hb dX6_shop_26 (by decide) (fun c_4 => ?_) (fun c_4 => ?_)
    · refine lv_aload_n hx hb dX6_shop_51 rfl (lv_at hl 0 rfl) ?_
      refine lv_iload_n hx hb dX6_shop_52 rfl (lv_at hl 1 rfl) ?_
      refine lv_iload_n hx hb dX6_shop_53 rfl (lv_at hl 2 rfl) ?_
      refine bcall_Ri (va_runV (As := [.int a1, .int a2]) (rest := []) ⟨hx, hb, hml, hown, hts⟩ (C6_aboutShop l D cI q _ _ hP hI_1 a1 a2 hm_3 (mW28_in (lo := 0) (hi := 6) c_4 (by decide) (by decide))) (cwV 2 hts gX6_shop_X6_aboutShop rfl rfl rfl ⟨rfl, bd_X6aboutShop⟩ ⟨Nat.le_of_ble_eq_true rfl, Nat.le_of_ble_eq_true rfl⟩) (bPV hk (va_recv hk.1 hP (ci := 6) (q0 := 0) rfl (wM_0 _ _ _))) rfl rfl hl.1 rfl (lv_room (Nat.le_of_ble_eq_true rfl)) dX6_shop_54 ⟨Nat.zero_le _, Nat.zero_le _⟩) hS (fun locs hS => ?_)
      refine lv_goto (tgt := 65) hx hb dX6_shop_57 (by decide) ?_
      exact bret_Wi hx hb hr hP hI_1 hS hlocks dX6_shop_65 (by rw [← hF, F6_shop, if_neg c_2, if_neg c_4])
    · refine lv_iload_n hx hb dX6_shop_29 rfl (lv_at hl 2 rfl) ?_
      refine lv_bipush (v := 10) hx hb dX6_shop_30 (by decide) ?_
      refine lv_bipush (v := 17) hx hb dX6_shop_32 (by decide) ?_
      refine bcall_Ri (va_runS (As := [.int a2, .int 10, .int 17]) (rest := []) ⟨hx, hb, hml, hown, hts⟩ (C6_in l D cI q _ a2 10 17) (va_cwS 3 hts gX6_shop_X6_in rfl rfl rfl bd_X6in ⟨Nat.le_of_ble_eq_true rfl, Nat.le_of_ble_eq_true rfl⟩) (bPS hk) rfl rfl hl.1 rfl (lv_room (Nat.le_of_ble_eq_true rfl)) dX6_shop_34 ⟨Nat.zero_le _, Nat.zero_le _⟩) hS (fun locs hS => ?_)
      refine lv_if_ne (tgt := 51) hx hb dX6_shop_37 (by decide) (fun c_5 => ?_) (fun c_5 => ?_)
      · refine lv_aload_n hx hb dX6_shop_51 rfl (lv_at hl 0 rfl) ?_
        refine lv_iload_n hx hb dX6_shop_52 rfl (lv_at hl 1 rfl) ?_
        refine lv_iload_n hx hb dX6_shop_53 rfl (lv_at hl 2 rfl) ?_
        refine bcall_Ri (va_runV (As := [.int a1, .int a2]) (rest := []) ⟨hx, hb, hml, hown, hts⟩ (C6_aboutShop l D cI q _ _ hP hI_1 a1 a2 hm_3 (mW28_in (lo := 10) (hi := 17) c_5 (by decide) (by decide))) (cwV 2 hts gX6_shop_X6_aboutShop rfl rfl rfl ⟨rfl, bd_X6aboutShop⟩ ⟨Nat.le_of_ble_eq_true rfl, Nat.le_of_ble_eq_true rfl⟩) (bPV hk (va_recv hk.1 hP (ci := 6) (q0 := 0) rfl (wM_0 _ _ _))) rfl rfl hl.1 rfl (lv_room (Nat.le_of_ble_eq_true rfl)) dX6_shop_54 ⟨Nat.zero_le _, Nat.zero_le _⟩) hS (fun locs hS => ?_)
        refine lv_goto (tgt := 65) hx hb dX6_shop_57 (by decide) ?_
        exact bret_Wi hx hb hr hP hI_1 hS hlocks dX6_shop_65 (by rw [← hF, F6_shop, if_neg c_2, if_pos c_4, if_neg c_5])
      · refine lv_iload_n hx hb dX6_shop_40 rfl (lv_at hl 2 rfl) ?_
        refine lv_bipush (v := 20) hx hb dX6_shop_41 (by decide) ?_
        refine lv_bipush (v := 27) hx hb dX6_shop_43 (by decide) ?_
        refine bcall_Ri (va_runS (As := [.int a2, .int 20, .int 27]) (rest := []) ⟨hx, hb, hml, hown, hts⟩ (C6_in l D cI q _ a2 20 27) (va_cwS 3 hts gX6_shop_X6_in rfl rfl rfl bd_X6in ⟨Nat.le_of_ble_eq_true rfl, Nat.le_of_ble_eq_true rfl⟩) (bPS hk) rfl rfl hl.1 rfl (lv_room (Nat.le_of_ble_eq_true rfl)) dX6_shop_45 ⟨Nat.zero_le _, Nat.zero_le _⟩) hS (fun locs hS => ?_)
        refine lv_if_eq (tgt := 60) hx hb dX6_shop_48 (by decide) (fun c_6 => ?_) (fun c_6 => ?_)
        · refine lv_aload_n hx hb dX6_shop_60 rfl (lv_at hl 0 rfl) ?_
          refine lv_iconst (v := 2) hx hb dX6_shop_61 (by decide) ?_
          refine bcall_Wi (va_runV (As := [.int 2]) (rest := []) ⟨hx, hb, hml, hown, hts⟩ (C6_fails l D cI q _ _ hq hP hI_1 2) (cwV 1 hts gX6_shop_X6_fails rfl rfl rfl ⟨rfl, bd_X6fails⟩ ⟨Nat.le_of_ble_eq_true rfl, Nat.le_of_ble_eq_true rfl⟩) (bPV hk (va_recv hk.1 hP (ci := 6) (q0 := 0) rfl (wM_0 _ _ _))) rfl rfl hl.1 rfl (lv_room (Nat.le_of_ble_eq_true rfl)) dX6_shop_62 ⟨Nat.zero_le _, Nat.zero_le _⟩) hS (fun H locs hP hI_7 hS => ?_)
          exact bret_Wi hx hb hr hP hI_7 hS hlocks dX6_shop_65 (by rw [← hF, F6_shop, if_neg c_2, if_pos c_4, if_pos c_5, if_pos c_6])
        · refine lv_aload_n hx hb dX6_shop_51 rfl (lv_at hl 0 rfl) ?_
          refine lv_iload_n hx hb dX6_shop_52 rfl (lv_at hl 1 rfl) ?_
          refine lv_iload_n hx hb dX6_shop_53 rfl (lv_at hl 2 rfl) ?_
          refine bcall_Ri (va_runV (As := [.int a1, .int a2]) (rest := []) ⟨hx, hb, hml, hown, hts⟩ (C6_aboutShop l D cI q _ _ hP hI_1 a1 a2 hm_3 (mW28_in (lo := 20) (hi := 27) c_6 (by decide) (by decide))) (cwV 2 hts gX6_shop_X6_aboutShop rfl rfl rfl ⟨rfl, bd_X6aboutShop⟩ ⟨Nat.le_of_ble_eq_true rfl, Nat.le_of_ble_eq_true rfl⟩) (bPV hk (va_recv hk.1 hP (ci := 6) (q0 := 0) rfl (wM_0 _ _ _))) rfl rfl hl.1 rfl (lv_room (Nat.le_of_ble_eq_true rfl)) dX6_shop_54 ⟨Nat.zero_le _, Nat.zero_le _⟩) hS (fun locs hS => ?_)
          refine lv_goto (tgt := 65) hx hb dX6_shop_57 (by decide) ?_
          exact bret_Wi hx hb hr hP hI_1 hS hlocks dX6_shop_65 (by rw [← hF, F6_shop, if_neg c_2, if_pos c_4, if_pos c_5, if_neg c_6])
  · refine lv_aload_n hx hb dX6_shop_13 rfl (lv_at hl 0 rfl) ?_
    refine lv_iconst (v := 1) hx hb dX6_shop_14 (by decide) ?_
    refine bcall_Wi (va_runV (As := [.int 1]) (rest := []) ⟨hx, hb, hml, hown, hts⟩ (C6_fails l D cI q _ _ hq hP hI_1 1) (cwV 1 hts gX6_shop_X6_fails rfl rfl rfl ⟨rfl, bd_X6fails⟩ ⟨Nat.le_of_ble_eq_true rfl, Nat.le_of_ble_eq_true rfl⟩) (bPV hk (va_recv hk.1 hP (ci := 6) (q0 := 0) rfl (wM_0 _ _ _))) rfl rfl hl.1 rfl (lv_room (Nat.le_of_ble_eq_true rfl)) dX6_shop_15 ⟨Nat.zero_le _, Nat.zero_le _⟩) hS (fun H locs hP hI_8 hS => ?_)
    exact bret_Wi hx hb hr hP hI_8 hS hlocks dX6_shop_18 (by rw [← hF, F6_shop, if_pos c_2])
def F6_count (u : bU) (a1 : Int32) : Int32 × bU := (if (F6_in a1 0 10) = 0 then ((F6_fails (bput u 6 2 0) 1).1, (F6_fails (bput u 6 2 0) 1).2) else ((F6_number (bput u 6 2 0) a1), (bput u 6 2 0)))
set_option maxHeartbeats 4000000 in
set_option maxRecDepth 100000 in
theorem C6_count (l : Launch) (D : va_G) (cI : ClassId) (q : Nat → Nat) (u : bU) (H0 : Heap) (hq : bInj 7 q) (hP : va_P D vwCl (wM cI q u) H0) (hI : mInv u) (a1 : Int32) : Met l yX6_count wsX6_count ({ frames := 4, cells := 0, slots := 0, locals := 89 }) (bP D [(cI, .int)] H0 [.ref (q 0), .int a1]) (bWi D (wM cI q) mInv (bA 7 q H0.size) (F6_count u a1)) 0 0 (bA 7 q H0.size) := by
  refine Met.ofW (cc := cX6_count) (maxL := 2) (ret := (some .int)) (by decide) rfl ?_
  intro p e s m args below meth c s₁ B hml hv
  obtain ⟨rfl, hH, hk⟩ := hv
  subst hH
  have hx := B.exec
  have hb := B.bytes
  have hr := B.returns
  have hts := atoms_spec (ws := wsX6_count) B.pre
  have hown : s.vm.findClass RX6 = some m.cls := findClass_of_methodNamed B.named
  have hlocks := B.notSynchronized
  have hNB := mNB hI
  have hNS := mNS hI
  have hI0 := hI
  have iX6 : ∀ w ∈ wsX60, w ∈ wsX6_count := by decide +kernel
  have hS : va_S (bA 7 q s.heap.size) s.heap s.heap [] := va_S.rf
  have hl := lv_entry ([.ref (q 0), .int a1]) (n := 2) (Nat.le_of_ble_eq_true rfl)
  rw [lg_entry_eq]
  generalize (lg_sl ([.ref (q 0), .int a1]) ++ List.replicate (2 - (lg_sl ([.ref (q 0), .int a1])).length) Slot.unset).toArray = ls at hl ⊢
  have hl : lv_has ls 2 [(0, .ref (q 0)), (1, .int a1)] := hl
  generalize hF : F6_count u a1 = tgt
  refine lv_aload_n hx hb dX6_count_0 rfl (lv_at hl 0 rfl) ?_
  refine lv_iconst (v := 0) hx hb dX6_count_1 (by decide) ?_
  refine va_put (D := D) (ci := 6) (v := .int 0) (ty := .int) (C := RX6) (T := TX6) (N := 16) hx hb hts iX6 tyX6 tyX6_ok nmX6 hown hk.1 hP (wM_D hq) hS 0 (wM_0 _ _ _) rfl 6 (by decide) (hts (.fieldLink RX6 28 "BottleLoopModel" "thrown" "I") (List.mem_of_getElem? (i := 1) rfl)) (fun _ h9 => h9) rfl (by decide +kernel) rfl rfl (Nat.le_of_ble_eq_true rfl) dX6_count_2 (fun H locs hP _ hS => ?_)
  have hP : va_P D vwCl (wM cI q (bput u 6 2 0)) H := pM_f2 hP
  have hI_1 : mInv (bput u 6 2 0) := mInv_sc (k := 2) hI (by decide) (by decide) (by decide)
  refine lv_iload_n hx hb dX6_count_5 rfl (lv_at hl 1 rfl) ?_
  refine lv_iconst (v := 0) hx hb dX6_count_6 (by decide) ?_
  refine lv_bipush (v := 10) hx hb dX6_count_7 (by decide) ?_
  refine bcall_Ri (va_runS (As := [.int a1, .int 0, .int 10]) (rest := []) ⟨hx, hb, hml, hown, hts⟩ (C6_in l D cI q _ a1 0 10) (va_cwS 3 hts gX6_count_X6_in rfl rfl rfl bd_X6in ⟨Nat.le_of_ble_eq_true rfl, Nat.le_of_ble_eq_true rfl⟩) (bPS hk) rfl rfl hl.1 rfl (lv_room (Nat.le_of_ble_eq_true rfl)) dX6_count_9 ⟨Nat.zero_le _, Nat.zero_le _⟩) hS (fun locs hS => ?_)
  refine lv_if_eq (tgt := 23) hx hb dX6_count_12 (by decide) (fun c_2 => ?_) (fun c_2 => ?_)
  · refine lv_aload_n hx hb dX6_count_23 rfl (lv_at hl 0 rfl) ?_
    refine lv_iconst (v := 1) hx hb dX6_count_24 (by decide) ?_
    refine bcall_Wi (va_runV (As := [.int 1]) (rest := []) ⟨hx, hb, hml, hown, hts⟩ (C6_fails l D cI q _ _ hq hP hI_1 1) (cwV 1 hts gX6_count_X6_fails rfl rfl rfl ⟨rfl, bd_X6fails⟩ ⟨Nat.le_of_ble_eq_true rfl, Nat.le_of_ble_eq_true rfl⟩) (bPV hk (va_recv hk.1 hP (ci := 6) (q0 := 0) rfl (wM_0 _ _ _))) rfl rfl hl.1 rfl (lv_room (Nat.le_of_ble_eq_true rfl)) dX6_count_25 ⟨Nat.zero_le _, Nat.zero_le _⟩) hS (fun H locs hP hI_3 hS => ?_)
    exact bret_Wi hx hb hr hP hI_3 hS hlocks dX6_count_28 (by rw [← hF, F6_count, if_pos c_2])
  · refine lv_aload_n hx hb dX6_count_15 rfl (lv_at hl 0 rfl) ?_
    refine lv_iload_n hx hb dX6_count_16 rfl (lv_at hl 1 rfl) ?_
    refine bcall_Ri (va_runV (As := [.int a1]) (rest := []) ⟨hx, hb, hml, hown, hts⟩ (C6_number l D cI q _ _ hP hI_1 a1) (cwV 1 hts gX6_count_X6_number rfl rfl rfl ⟨rfl, bd_X6number⟩ ⟨Nat.le_of_ble_eq_true rfl, Nat.le_of_ble_eq_true rfl⟩) (bPV hk (va_recv hk.1 hP (ci := 6) (q0 := 0) rfl (wM_0 _ _ _))) rfl rfl hl.1 rfl (lv_room (Nat.le_of_ble_eq_true rfl)) dX6_count_17 ⟨Nat.zero_le _, Nat.zero_le _⟩) hS (fun locs hS => ?_)
    refine lv_goto (tgt := 28) hx hb dX6_count_20 (by decide) ?_
    exact bret_Wi hx hb hr hP hI_1 hS hlocks dX6_count_28 (by rw [← hF, F6_count, if_neg c_2])
def F6_setting (u : bU) (a1 : Int32) : Int32 × bU := (if (F6_in a1 0 5) = 0 then ((F6_fails (bput u 6 2 0) 1).1, (F6_fails (bput u 6 2 0) 1).2) else (((bput u 6 2 0) 0 (7 + a1).toNatClampNeg), (bput u 6 2 0)))
set_option maxHeartbeats 4000000 in
set_option maxRecDepth 100000 in
theorem C6_setting (l : Launch) (D : va_G) (cI : ClassId) (q : Nat → Nat) (u : bU) (H0 : Heap) (hq : bInj 7 q) (hP : va_P D vwCl (wM cI q u) H0) (hI : mInv u) (a1 : Int32) : Met l yX6_setting wsX6_setting ({ frames := 1, cells := 0, slots := 0, locals := 22 }) (bP D [(cI, .int)] H0 [.ref (q 0), .int a1]) (bWi D (wM cI q) mInv (bA 7 q H0.size) (F6_setting u a1)) 0 0 (bA 7 q H0.size) := by
  refine Met.ofW (cc := cX6_setting) (maxL := 2) (ret := (some .int)) (by decide) rfl ?_
  intro p e s m args below meth c s₁ B hml hv
  obtain ⟨rfl, hH, hk⟩ := hv
  subst hH
  have hx := B.exec
  have hb := B.bytes
  have hr := B.returns
  have hts := atoms_spec (ws := wsX6_setting) B.pre
  have hown : s.vm.findClass RX6 = some m.cls := findClass_of_methodNamed B.named
  have hlocks := B.notSynchronized
  have hNB := mNB hI
  have hNS := mNS hI
  have hI0 := hI
  have iX6 : ∀ w ∈ wsX60, w ∈ wsX6_setting := by decide +kernel
  have hS : va_S (bA 7 q s.heap.size) s.heap s.heap [] := va_S.rf
  have hl := lv_entry ([.ref (q 0), .int a1]) (n := 2) (Nat.le_of_ble_eq_true rfl)
  rw [lg_entry_eq]
  generalize (lg_sl ([.ref (q 0), .int a1]) ++ List.replicate (2 - (lg_sl ([.ref (q 0), .int a1])).length) Slot.unset).toArray = ls at hl ⊢
  have hl : lv_has ls 2 [(0, .ref (q 0)), (1, .int a1)] := hl
  generalize hF : F6_setting u a1 = tgt
  refine lv_aload_n hx hb dX6_setting_0 rfl (lv_at hl 0 rfl) ?_
  refine lv_iconst (v := 0) hx hb dX6_setting_1 (by decide) ?_
  refine va_put (D := D) (ci := 6) (v := .int 0) (ty := .int) (C := RX6) (T := TX6) (N := 16) hx hb hts iX6 tyX6 tyX6_ok nmX6 hown hk.1 hP (wM_D hq) hS 0 (wM_0 _ _ _) rfl 6 (by decide) (hts (.fieldLink RX6 28 "BottleLoopModel" "thrown" "I") (List.mem_of_getElem? (i := 1) rfl)) (fun _ h9 => h9) rfl (by decide +kernel) rfl rfl (Nat.le_of_ble_eq_true rfl) dX6_setting_2 (fun H locs hP _ hS => ?_)
  have hP : va_P D vwCl (wM cI q (bput u 6 2 0)) H := pM_f2 hP
  have hI_1 : mInv (bput u 6 2 0) := mInv_sc (k := 2) hI (by decide) (by decide) (by decide)
  refine lv_iload_n hx hb dX6_setting_5 rfl (lv_at hl 1 rfl) ?_
  refine lv_iconst (v := 0) hx hb dX6_setting_6 (by decide) ?_
  refine lv_iconst (v := 5) hx hb dX6_setting_7 (by decide) ?_
  refine bcall_Ri (va_runS (As := [.int a1, .int 0, .int 5]) (rest := []) ⟨hx, hb, hml, hown, hts⟩ (C6_in l D cI q _ a1 0 5) (va_cwS 3 hts gX6_setting_X6_in rfl rfl rfl bd_X6in ⟨Nat.le_of_ble_eq_true rfl, Nat.le_of_ble_eq_true rfl⟩) (bPS hk) rfl rfl hl.1 rfl (lv_room (Nat.le_of_ble_eq_true rfl)) dX6_setting_8 ⟨Nat.zero_le _, Nat.zero_le _⟩) hS (fun locs hS => ?_)
  refine lv_if_eq (tgt := 26) hx hb dX6_setting_11 (by decide) (fun c_2 => ?_) (fun c_2 => ?_)
  · refine lv_aload_n hx hb dX6_setting_26 rfl (lv_at hl 0 rfl) ?_
    refine lv_iconst (v := 1) hx hb dX6_setting_27 (by decide) ?_
    refine bcall_Wi (va_runV (As := [.int 1]) (rest := []) ⟨hx, hb, hml, hown, hts⟩ (C6_fails l D cI q _ _ hq hP hI_1 1) (cwV 1 hts gX6_setting_X6_fails rfl rfl rfl ⟨rfl, bd_X6fails⟩ ⟨Nat.le_of_ble_eq_true rfl, Nat.le_of_ble_eq_true rfl⟩) (bPV hk (va_recv hk.1 hP (ci := 6) (q0 := 0) rfl (wM_0 _ _ _))) rfl rfl hl.1 rfl (lv_room (Nat.le_of_ble_eq_true rfl)) dX6_setting_28 ⟨Nat.zero_le _, Nat.zero_le _⟩) hS (fun H locs hP hI_3 hS => ?_)
    exact bret_Wi hx hb hr hP hI_3 hS hlocks dX6_setting_31 (by rw [← hF, F6_setting, if_pos c_2])
  · refine lv_aload_n hx hb dX6_setting_14 rfl (lv_at hl 0 rfl) ?_
    refine va_get (D := D) (ci := 6) (C := RX6) (T := TX6) (N := 16) hx hb hts iX6 hown hk.1 hP 0 (wM_0 _ _ _) rfl 0 (by decide) (hts (.fieldLink RX6 7 "BottleLoopModel" "v" "[I") (List.mem_of_getElem? (i := 2) rfl)) (fun _ h9 => h9) rfl dX6_setting_15 ?_
    refine lv_bipush (v := 7) hx hb dX6_setting_18 (by decide) ?_
    refine lv_iload_n hx hb dX6_setting_20 rfl (lv_at hl 1 rfl) ?_
    refine lv_iadd hx hb dX6_setting_21 ?_
    refine va_iald hx hb hk.1 hP 1 0 (wM_1 _ _ _) rfl (mX7s c_2) dX6_setting_22 ?_
    refine lv_goto (tgt := 31) hx hb dX6_setting_23 (by decide) ?_
    exact bret_Wi hx hb hr hP hI_1 hS hlocks dX6_setting_31 (by rw [← hF, F6_setting, if_neg c_2])
def F6_whyNotDeliver (u : bU) (a1 : Int32) (a2 : Int32) (a3 : Int32) : Int32 × bU := (if (F6_isBrand (bput u 6 2 0) a1) = 0 then ((F6_fails (bput u 6 2 0) 1).1, (F6_fails (bput u 6 2 0) 1).2) else (if (F6_isShop (bput u 6 2 0) a2) = 0 then ((F6_fails (bput u 6 2 0) 1).1, (F6_fails (bput u 6 2 0) 1).2) else (if (F6_in a3 1 50) = 0 then ((F6_fails (bput u 6 2 0) 2).1, (F6_fails (bput u 6 2 0) 2).2) else ((F6_againstDeliver (bput u 6 2 0) a1 a2 a3), (bput u 6 2 0)))))
set_option maxHeartbeats 4000000 in
set_option maxRecDepth 100000 in
theorem C6_whyNotDeliver (l : Launch) (D : va_G) (cI : ClassId) (q : Nat → Nat) (u : bU) (H0 : Heap) (hq : bInj 7 q) (hP : va_P D vwCl (wM cI q u) H0) (hI : mInv u) (a1 : Int32) (a2 : Int32) (a3 : Int32) : Met l yX6_whyNotDeliver wsX6_whyNotDeliver ({ frames := 4, cells := 0, slots := 0, locals := 88 }) (bP D [(cI, .int)] H0 [.ref (q 0), .int a1, .int a2, .int a3]) (bWi D (wM cI q) mInv (bA 7 q H0.size) (F6_whyNotDeliver u a1 a2 a3)) 0 0 (bA 7 q H0.size) := by
  refine Met.ofW (cc := cX6_whyNotDeliver) (maxL := 4) (ret := (some .int)) (by decide) rfl ?_
  intro p e s m args below meth c s₁ B hml hv
  obtain ⟨rfl, hH, hk⟩ := hv
  subst hH
  have hx := B.exec
  have hb := B.bytes
  have hr := B.returns
  have hts := atoms_spec (ws := wsX6_whyNotDeliver) B.pre
  have hown : s.vm.findClass RX6 = some m.cls := findClass_of_methodNamed B.named
  have hlocks := B.notSynchronized
  have hNB := mNB hI
  have hNS := mNS hI
  have hI0 := hI
  have iX6 : ∀ w ∈ wsX60, w ∈ wsX6_whyNotDeliver := by decide +kernel
  have hS : va_S (bA 7 q s.heap.size) s.heap s.heap [] := va_S.rf
  have hl := lv_entry ([.ref (q 0), .int a1, .int a2, .int a3]) (n := 4) (Nat.le_of_ble_eq_true rfl)
  rw [lg_entry_eq]
  generalize (lg_sl ([.ref (q 0), .int a1, .int a2, .int a3]) ++ List.replicate (4 - (lg_sl ([.ref (q 0), .int a1, .int a2, .int a3])).length) Slot.unset).toArray = ls at hl ⊢
  have hl : lv_has ls 4 [(0, .ref (q 0)), (1, .int a1), (2, .int a2), (3, .int a3)] := hl
  generalize hF : F6_whyNotDeliver u a1 a2 a3 = tgt
  refine lv_aload_n hx hb dX6_whyNotDeliver_0 rfl (lv_at hl 0 rfl) ?_
  refine lv_iconst (v := 0) hx hb dX6_whyNotDeliver_1 (by decide) ?_
  refine va_put (D := D) (ci := 6) (v := .int 0) (ty := .int) (C := RX6) (T := TX6) (N := 16) hx hb hts iX6 tyX6 tyX6_ok nmX6 hown hk.1 hP (wM_D hq) hS 0 (wM_0 _ _ _) rfl 6 (by decide) (hts (.fieldLink RX6 28 "BottleLoopModel" "thrown" "I") (List.mem_of_getElem? (i := 1) rfl)) (fun _ h9 => h9) rfl (by decide +kernel) rfl rfl (Nat.le_of_ble_eq_true rfl) dX6_whyNotDeliver_2 (fun H locs hP _ hS => ?_)
  have hP : va_P D vwCl (wM cI q (bput u 6 2 0)) H := pM_f2 hP
  have hI_1 : mInv (bput u 6 2 0) := mInv_sc (k := 2) hI (by decide) (by decide) (by decide)
  refine lv_aload_n hx hb dX6_whyNotDeliver_5 rfl (lv_at hl 0 rfl) ?_
  refine lv_iload_n hx hb dX6_whyNotDeliver_6 rfl (lv_at hl 1 rfl) ?_
  refine bcall_Ri (va_runV (As := [.int a1]) (rest := []) ⟨hx, hb, hml, hown, hts⟩ (C6_isBrand l D cI q _ _ hP hI_1 a1) (cwV 1 hts gX6_whyNotDeliver_X6_isBrand rfl rfl rfl ⟨rfl, bd_X6isBrand⟩ ⟨Nat.le_of_ble_eq_true rfl, Nat.le_of_ble_eq_true rfl⟩) (bPV hk (va_recv hk.1 hP (ci := 6) (q0 := 0) rfl (wM_0 _ _ _))) rfl rfl hl.1 rfl (lv_room (Nat.le_of_ble_eq_true rfl)) dX6_whyNotDeliver_7 ⟨Nat.zero_le _, Nat.zero_le _⟩) hS (fun locs hS => ?_)
  refine lv_if_eq (tgt := 21) hx hb dX6_whyNotDeliver_10 (by decide) (fun c_2 => ?_) (fun c_2 => ?_)
  · refine lv_aload_n hx hb dX6_whyNotDeliver_21 rfl (lv_at hl 0 rfl) ?_
    refine lv_iconst (v := 1) hx hb dX6_whyNotDeliver_22 (by decide) ?_
    refine bcall_Wi (va_runV (As := [.int 1]) (rest := []) ⟨hx, hb, hml, hown, hts⟩ (C6_fails l D cI q _ _ hq hP hI_1 1) (cwV 1 hts gX6_whyNotDeliver_X6_fails rfl rfl rfl ⟨rfl, bd_X6fails⟩ ⟨Nat.le_of_ble_eq_true rfl, Nat.le_of_ble_eq_true rfl⟩) (bPV hk (va_recv hk.1 hP (ci := 6) (q0 := 0) rfl (wM_0 _ _ _))) rfl rfl hl.1 rfl (lv_room (Nat.le_of_ble_eq_true rfl)) dX6_whyNotDeliver_23 ⟨Nat.zero_le _, Nat.zero_le _⟩) hS (fun H locs hP hI_3 hS => ?_)
    exact bret_Wi hx hb hr hP hI_3 hS hlocks dX6_whyNotDeliver_26 (by rw [← hF, F6_whyNotDeliver, if_pos c_2])
  · have hm_4 : mB a1 := mB_is hI_1 c_2
    refine lv_aload_n hx hb dX6_whyNotDeliver_13 rfl (lv_at hl 0 rfl) ?_
    refine lv_iload_n hx hb dX6_whyNotDeliver_14 rfl (lv_at hl 2 rfl) ?_
    refine bcall_Ri (va_runV (As := [.int a2]) (rest := []) ⟨hx, hb, hml, hown, hts⟩ (C6_isShop l D cI q _ _ hP hI_1 a2) (cwV 1 hts gX6_whyNotDeliver_X6_isShop rfl rfl rfl ⟨rfl, bd_X6isShop⟩ ⟨Nat.le_of_ble_eq_true rfl, Nat.le_of_ble_eq_true rfl⟩) (bPV hk (va_recv hk.1 hP (ci := 6) (q0 := 0) rfl (wM_0 _ _ _))) rfl rfl hl.1 rfl (lv_room (Nat.le_of_ble_eq_true rfl)) dX6_whyNotDeliver_15 ⟨Nat.zero_le _, Nat.zero_le _⟩) hS (fun locs hS => ?_)
    refine lv_if_ne (tgt := 27) hx hb dX6_whyNotDeliver_18 (by decide) (fun c_5 => ?_) (fun c_5 => ?_)
    · have hm_6 : mS a2 := mS_is hI_1 c_5
      refine lv_iload_n hx hb dX6_whyNotDeliver_27 rfl (lv_at hl 3 rfl) ?_
      refine lv_iconst (v := 1) hx hb dX6_whyNotDeliver_28 (by decide) ?_
      refine lv_bipush (v := 50) hx hb dX6_whyNotDeliver_29 (by decide) ?_
      refine bcall_Ri (va_runS (As := [.int a3, .int 1, .int 50]) (rest := []) ⟨hx, hb, hml, hown, hts⟩ (C6_in l D cI q _ a3 1 50) (va_cwS 3 hts gX6_whyNotDeliver_X6_in rfl rfl rfl bd_X6in ⟨Nat.le_of_ble_eq_true rfl, Nat.le_of_ble_eq_true rfl⟩) (bPS hk) rfl rfl hl.1 rfl (lv_room (Nat.le_of_ble_eq_true rfl)) dX6_whyNotDeliver_31 ⟨Nat.zero_le _, Nat.zero_le _⟩) hS (fun locs hS => ?_)
      refine lv_if_eq (tgt := 47) hx hb dX6_whyNotDeliver_34 (by decide) (fun c_7 => ?_) (fun c_7 => ?_)
      · refine lv_aload_n hx hb dX6_whyNotDeliver_47 rfl (lv_at hl 0 rfl) ?_
        refine lv_iconst (v := 2) hx hb dX6_whyNotDeliver_48 (by decide) ?_
        refine bcall_Wi (va_runV (As := [.int 2]) (rest := []) ⟨hx, hb, hml, hown, hts⟩ (C6_fails l D cI q _ _ hq hP hI_1 2) (cwV 1 hts gX6_whyNotDeliver_X6_fails rfl rfl rfl ⟨rfl, bd_X6fails⟩ ⟨Nat.le_of_ble_eq_true rfl, Nat.le_of_ble_eq_true rfl⟩) (bPV hk (va_recv hk.1 hP (ci := 6) (q0 := 0) rfl (wM_0 _ _ _))) rfl rfl hl.1 rfl (lv_room (Nat.le_of_ble_eq_true rfl)) dX6_whyNotDeliver_49 ⟨Nat.zero_le _, Nat.zero_le _⟩) hS (fun H locs hP hI_8 hS => ?_)
        exact bret_Wi hx hb hr hP hI_8 hS hlocks dX6_whyNotDeliver_52 (by rw [← hF, F6_whyNotDeliver, if_neg c_2, if_neg c_5, if_pos c_7])
      · refine lv_aload_n hx hb dX6_whyNotDeliver_37 rfl (lv_at hl 0 rfl) ?_
        refine lv_iload_n hx hb dX6_whyNotDeliver_38 rfl (lv_at hl 1 rfl) ?_
        refine lv_iload_n hx hb dX6_whyNotDeliver_39 rfl (lv_at hl 2 rfl) ?_
        refine lv_iload_n hx hb dX6_whyNotDeliver_40 rfl (lv_at hl 3 rfl) ?_
        refine bcall_Ri (va_runV (As := [.int a1, .int a2, .int a3]) (rest := []) ⟨hx, hb, hml, hown, hts⟩ (C6_againstDeliver l D cI q _ _ hP hI_1 a1 a2 a3 hm_4 hm_6) (cwV 3 hts gX6_whyNotDeliver_X6_againstDeliver rfl rfl rfl ⟨rfl, bd_X6againstDeliver⟩ ⟨Nat.le_of_ble_eq_true rfl, Nat.le_of_ble_eq_true rfl⟩) (bPV hk (va_recv hk.1 hP (ci := 6) (q0 := 0) rfl (wM_0 _ _ _))) rfl rfl hl.1 rfl (lv_room (Nat.le_of_ble_eq_true rfl)) dX6_whyNotDeliver_41 ⟨Nat.zero_le _, Nat.zero_le _⟩) hS (fun locs hS => ?_)
        refine lv_goto (tgt := 52) hx hb dX6_whyNotDeliver_44 (by decide) ?_
        exact bret_Wi hx hb hr hP hI_1 hS hlocks dX6_whyNotDeliver_52 (by rw [← hF, F6_whyNotDeliver, if_neg c_2, if_neg c_5, if_neg c_7])
    · refine lv_aload_n hx hb dX6_whyNotDeliver_21 rfl (lv_at hl 0 rfl) ?_
      refine lv_iconst (v := 1) hx hb dX6_whyNotDeliver_22 (by decide) ?_
      refine bcall_Wi (va_runV (As := [.int 1]) (rest := []) ⟨hx, hb, hml, hown, hts⟩ (C6_fails l D cI q _ _ hq hP hI_1 1) (cwV 1 hts gX6_whyNotDeliver_X6_fails rfl rfl rfl ⟨rfl, bd_X6fails⟩ ⟨Nat.le_of_ble_eq_true rfl, Nat.le_of_ble_eq_true rfl⟩) (bPV hk (va_recv hk.1 hP (ci := 6) (q0 := 0) rfl (wM_0 _ _ _))) rfl rfl hl.1 rfl (lv_room (Nat.le_of_ble_eq_true rfl)) dX6_whyNotDeliver_23 ⟨Nat.zero_le _, Nat.zero_le _⟩) hS (fun H locs hP hI_9 hS => ?_)
      exact bret_Wi hx hb hr hP hI_9 hS hlocks dX6_whyNotDeliver_26 (by rw [← hF, F6_whyNotDeliver, if_neg c_2, if_pos c_5])
def F6_whyNotCollect (u : bU) (a1 : Int32) (a2 : Int32) (a3 : Int32) : Int32 × bU := (if (F6_isShop (bput u 6 2 0) a1) = 0 then ((F6_fails (bput u 6 2 0) 1).1, (F6_fails (bput u 6 2 0) 1).2) else (if (F6_in a2 0 2) = 0 then ((F6_fails (bput u 6 2 0) 2).1, (F6_fails (bput u 6 2 0) 2).2) else (if (F6_in a3 1 50) = 0 then ((F6_fails (bput u 6 2 0) 2).1, (F6_fails (bput u 6 2 0) 2).2) else ((F6_againstCollect (bput u 6 2 0) a1 a2 a3), (bput u 6 2 0)))))
set_option maxHeartbeats 4000000 in
set_option maxRecDepth 100000 in
theorem C6_whyNotCollect (l : Launch) (D : va_G) (cI : ClassId) (q : Nat → Nat) (u : bU) (H0 : Heap) (hq : bInj 7 q) (hP : va_P D vwCl (wM cI q u) H0) (hI : mInv u) (a1 : Int32) (a2 : Int32) (a3 : Int32) : Met l yX6_whyNotCollect wsX6_whyNotCollect ({ frames := 4, cells := 0, slots := 0, locals := 90 }) (bP D [(cI, .int)] H0 [.ref (q 0), .int a1, .int a2, .int a3]) (bWi D (wM cI q) mInv (bA 7 q H0.size) (F6_whyNotCollect u a1 a2 a3)) 0 0 (bA 7 q H0.size) := by
  refine Met.ofW (cc := cX6_whyNotCollect) (maxL := 4) (ret := (some .int)) (by decide) rfl ?_
  intro p e s m args below meth c s₁ B hml hv
  obtain ⟨rfl, hH, hk⟩ := hv
  subst hH
  have hx := B.exec
  have hb := B.bytes
  have hr := B.returns
  have hts := atoms_spec (ws := wsX6_whyNotCollect) B.pre
  have hown : s.vm.findClass RX6 = some m.cls := findClass_of_methodNamed B.named
  have hlocks := B.notSynchronized
  have hNB := mNB hI
  have hNS := mNS hI
  have hI0 := hI
  have iX6 : ∀ w ∈ wsX60, w ∈ wsX6_whyNotCollect := by decide +kernel
  have hS : va_S (bA 7 q s.heap.size) s.heap s.heap [] := va_S.rf
  have hl := lv_entry ([.ref (q 0), .int a1, .int a2, .int a3]) (n := 4) (Nat.le_of_ble_eq_true rfl)
  rw [lg_entry_eq]
  generalize (lg_sl ([.ref (q 0), .int a1, .int a2, .int a3]) ++ List.replicate (4 - (lg_sl ([.ref (q 0), .int a1, .int a2, .int a3])).length) Slot.unset).toArray = ls at hl ⊢
  have hl : lv_has ls 4 [(0, .ref (q 0)), (1, .int a1), (2, .int a2), (3, .int a3)] := hl
  generalize hF : F6_whyNotCollect u a1 a2 a3 = tgt
  refine lv_aload_n hx hb dX6_whyNotCollect_0 rfl (lv_at hl 0 rfl) ?_
  refine lv_iconst (v := 0) hx hb dX6_whyNotCollect_1 (by decide) ?_
  refine va_put (D := D) (ci := 6) (v := .int 0) (ty := .int) (C := RX6) (T := TX6) (N := 16) hx hb hts iX6 tyX6 tyX6_ok nmX6 hown hk.1 hP (wM_D hq) hS 0 (wM_0 _ _ _) rfl 6 (by decide) (hts (.fieldLink RX6 28 "BottleLoopModel" "thrown" "I") (List.mem_of_getElem? (i := 1) rfl)) (fun _ h9 => h9) rfl (by decide +kernel) rfl rfl (Nat.le_of_ble_eq_true rfl) dX6_whyNotCollect_2 (fun H locs hP _ hS => ?_)
  have hP : va_P D vwCl (wM cI q (bput u 6 2 0)) H := pM_f2 hP
  have hI_1 : mInv (bput u 6 2 0) := mInv_sc (k := 2) hI (by decide) (by decide) (by decide)
  refine lv_aload_n hx hb dX6_whyNotCollect_5 rfl (lv_at hl 0 rfl) ?_
  refine lv_iload_n hx hb dX6_whyNotCollect_6 rfl (lv_at hl 1 rfl) ?_
  refine bcall_Ri (va_runV (As := [.int a1]) (rest := []) ⟨hx, hb, hml, hown, hts⟩ (C6_isShop l D cI q _ _ hP hI_1 a1) (cwV 1 hts gX6_whyNotCollect_X6_isShop rfl rfl rfl ⟨rfl, bd_X6isShop⟩ ⟨Nat.le_of_ble_eq_true rfl, Nat.le_of_ble_eq_true rfl⟩) (bPV hk (va_recv hk.1 hP (ci := 6) (q0 := 0) rfl (wM_0 _ _ _))) rfl rfl hl.1 rfl (lv_room (Nat.le_of_ble_eq_true rfl)) dX6_whyNotCollect_7 ⟨Nat.zero_le _, Nat.zero_le _⟩) hS (fun locs hS => ?_)
  refine lv_if_ne (tgt := 19) hx hb dX6_whyNotCollect_10 (by decide) (fun c_2 => ?_) (fun c_2 => ?_)
  · have hm_3 : mS a1 := mS_is hI_1 c_2
    refine lv_iload_n hx hb dX6_whyNotCollect_19 rfl (lv_at hl 2 rfl) ?_
    refine lv_iconst (v := 0) hx hb dX6_whyNotCollect_20 (by decide) ?_
    refine lv_iconst (v := 2) hx hb dX6_whyNotCollect_21 (by decide) ?_
    refine bcall_Ri (va_runS (As := [.int a2, .int 0, .int 2]) (rest := []) ⟨hx, hb, hml, hown, hts⟩ (C6_in l D cI q _ a2 0 2) (va_cwS 3 hts gX6_whyNotCollect_X6_in rfl rfl rfl bd_X6in ⟨Nat.le_of_ble_eq_true rfl, Nat.le_of_ble_eq_true rfl⟩) (bPS hk) rfl rfl hl.1 rfl (lv_room (Nat.le_of_ble_eq_true rfl)) dX6_whyNotCollect_22 ⟨Nat.zero_le _, Nat.zero_le _⟩) hS (fun locs hS => ?_)
    refine lv_if_eq (tgt := 48) hx hb dX6_whyNotCollect_25 (by decide) (fun c_4 => ?_) (fun c_4 => ?_)
    · refine lv_aload_n hx hb dX6_whyNotCollect_48 rfl (lv_at hl 0 rfl) ?_
      refine lv_iconst (v := 2) hx hb dX6_whyNotCollect_49 (by decide) ?_
      refine bcall_Wi (va_runV (As := [.int 2]) (rest := []) ⟨hx, hb, hml, hown, hts⟩ (C6_fails l D cI q _ _ hq hP hI_1 2) (cwV 1 hts gX6_whyNotCollect_X6_fails rfl rfl rfl ⟨rfl, bd_X6fails⟩ ⟨Nat.le_of_ble_eq_true rfl, Nat.le_of_ble_eq_true rfl⟩) (bPV hk (va_recv hk.1 hP (ci := 6) (q0 := 0) rfl (wM_0 _ _ _))) rfl rfl hl.1 rfl (lv_room (Nat.le_of_ble_eq_true rfl)) dX6_whyNotCollect_50 ⟨Nat.zero_le _, Nat.zero_le _⟩) hS (fun H locs hP hI_5 hS => ?_)
      exact bret_Wi hx hb hr hP hI_5 hS hlocks dX6_whyNotCollect_53 (by rw [← hF, F6_whyNotCollect, if_neg c_2, if_pos c_4])
    · have hm_6 : mK a2 := mK_in c_4
      refine lv_iload_n hx hb dX6_whyNotCollect_28 rfl (lv_at hl 3 rfl) ?_
      refine lv_iconst (v := 1) hx hb dX6_whyNotCollect_29 (by decide) ?_
      refine lv_bipush (v := 50) hx hb dX6_whyNotCollect_30 (by decide) ?_
      refine bcall_Ri (va_runS (As := [.int a3, .int 1, .int 50]) (rest := []) ⟨hx, hb, hml, hown, hts⟩ (C6_in l D cI q _ a3 1 50) (va_cwS 3 hts gX6_whyNotCollect_X6_in rfl rfl rfl bd_X6in ⟨Nat.le_of_ble_eq_true rfl, Nat.le_of_ble_eq_true rfl⟩) (bPS hk) rfl rfl hl.1 rfl (lv_room (Nat.le_of_ble_eq_true rfl)) dX6_whyNotCollect_32 ⟨Nat.zero_le _, Nat.zero_le _⟩) hS (fun locs hS => ?_)
      refine lv_if_eq (tgt := 48) hx hb dX6_whyNotCollect_35 (by decide) (fun c_7 => ?_) (fun c_7 => ?_)
      · refine lv_aload_n hx hb dX6_whyNotCollect_48 rfl (lv_at hl 0 rfl) ?_
        refine lv_iconst (v := 2) hx hb dX6_whyNotCollect_49 (by decide) ?_
        refine bcall_Wi (va_runV (As := [.int 2]) (rest := []) ⟨hx, hb, hml, hown, hts⟩ (C6_fails l D cI q _ _ hq hP hI_1 2) (cwV 1 hts gX6_whyNotCollect_X6_fails rfl rfl rfl ⟨rfl, bd_X6fails⟩ ⟨Nat.le_of_ble_eq_true rfl, Nat.le_of_ble_eq_true rfl⟩) (bPV hk (va_recv hk.1 hP (ci := 6) (q0 := 0) rfl (wM_0 _ _ _))) rfl rfl hl.1 rfl (lv_room (Nat.le_of_ble_eq_true rfl)) dX6_whyNotCollect_50 ⟨Nat.zero_le _, Nat.zero_le _⟩) hS (fun H locs hP hI_8 hS => ?_)
        exact bret_Wi hx hb hr hP hI_8 hS hlocks dX6_whyNotCollect_53 (by rw [← hF, F6_whyNotCollect, if_neg c_2, if_neg c_4, if_pos c_7])
      · refine lv_aload_n hx hb dX6_whyNotCollect_38 rfl (lv_at hl 0 rfl) ?_
        refine lv_iload_n hx hb dX6_whyNotCollect_39 rfl (lv_at hl 1 rfl) ?_
        refine lv_iload_n hx hb dX6_whyNotCollect_40 rfl (lv_at hl 2 rfl) ?_
        refine lv_iload_n hx hb dX6_whyNotCollect_41 rfl (lv_at hl 3 rfl) ?_
        refine bcall_Ri (va_runV (As := [.int a1, .int a2, .int a3]) (rest := []) ⟨hx, hb, hml, hown, hts⟩ (C6_againstCollect l D cI q _ _ hP hI_1 a1 a2 a3 hm_3) (cwV 3 hts gX6_whyNotCollect_X6_againstCollect rfl rfl rfl ⟨rfl, bd_X6againstCollect⟩ ⟨Nat.le_of_ble_eq_true rfl, Nat.le_of_ble_eq_true rfl⟩) (bPV hk (va_recv hk.1 hP (ci := 6) (q0 := 0) rfl (wM_0 _ _ _))) rfl rfl hl.1 rfl (lv_room (Nat.le_of_ble_eq_true rfl)) dX6_whyNotCollect_42 ⟨Nat.zero_le _, Nat.zero_le _⟩) hS (fun locs hS => ?_)
        refine lv_goto (tgt := 53) hx hb dX6_whyNotCollect_45 (by decide) ?_
        exact bret_Wi hx hb hr hP hI_1 hS hlocks dX6_whyNotCollect_53 (by rw [← hF, F6_whyNotCollect, if_neg c_2, if_neg c_4, if_neg c_7])
  · refine lv_aload_n hx hb dX6_whyNotCollect_13 rfl (lv_at hl 0 rfl) ?_
    refine lv_iconst (v := 1) hx hb dX6_whyNotCollect_14 (by decide) ?_
    refine bcall_Wi (va_runV (As := [.int 1]) (rest := []) ⟨hx, hb, hml, hown, hts⟩ (C6_fails l D cI q _ _ hq hP hI_1 1) (cwV 1 hts gX6_whyNotCollect_X6_fails rfl rfl rfl ⟨rfl, bd_X6fails⟩ ⟨Nat.le_of_ble_eq_true rfl, Nat.le_of_ble_eq_true rfl⟩) (bPV hk (va_recv hk.1 hP (ci := 6) (q0 := 0) rfl (wM_0 _ _ _))) rfl rfl hl.1 rfl (lv_room (Nat.le_of_ble_eq_true rfl)) dX6_whyNotCollect_15 ⟨Nat.zero_le _, Nat.zero_le _⟩) hS (fun H locs hP hI_9 hS => ?_)
    exact bret_Wi hx hb hr hP hI_9 hS hlocks dX6_whyNotCollect_18 (by rw [← hF, F6_whyNotCollect, if_pos c_2])
def F6_mostCrates (u : bU) (a1 : Int32) (a2 : Int32) : Int32 × bU := (if (F6_isBrand (bput u 6 2 0) a1) = 0 then ((F6_fails (bput u 6 2 0) 1).1, (F6_fails (bput u 6 2 0) 1).2) else (if (F6_isShop (bput u 6 2 0) a2) = 0 then ((F6_fails (bput u 6 2 0) 1).1, (F6_fails (bput u 6 2 0) 1).2) else ((F6_deliverable (bput u 6 2 0) a1 a2), (bput u 6 2 0))))
set_option maxHeartbeats 4000000 in
set_option maxRecDepth 100000 in
theorem C6_mostCrates (l : Launch) (D : va_G) (cI : ClassId) (q : Nat → Nat) (u : bU) (H0 : Heap) (hq : bInj 7 q) (hP : va_P D vwCl (wM cI q u) H0) (hI : mInv u) (a1 : Int32) (a2 : Int32) : Met l yX6_mostCrates wsX6_mostCrates ({ frames := 5, cells := 0, slots := 0, locals := 111 }) (bP D [(cI, .int)] H0 [.ref (q 0), .int a1, .int a2]) (bWi D (wM cI q) mInv (bA 7 q H0.size) (F6_mostCrates u a1 a2)) 0 0 (bA 7 q H0.size) := by
  refine Met.ofW (cc := cX6_mostCrates) (maxL := 3) (ret := (some .int)) (by decide) rfl ?_
  intro p e s m args below meth c s₁ B hml hv
  obtain ⟨rfl, hH, hk⟩ := hv
  subst hH
  have hx := B.exec
  have hb := B.bytes
  have hr := B.returns
  have hts := atoms_spec (ws := wsX6_mostCrates) B.pre
  have hown : s.vm.findClass RX6 = some m.cls := findClass_of_methodNamed B.named
  have hlocks := B.notSynchronized
  have hNB := mNB hI
  have hNS := mNS hI
  have hI0 := hI
  have iX6 : ∀ w ∈ wsX60, w ∈ wsX6_mostCrates := by decide +kernel
  have hS : va_S (bA 7 q s.heap.size) s.heap s.heap [] := va_S.rf
  have hl := lv_entry ([.ref (q 0), .int a1, .int a2]) (n := 3) (Nat.le_of_ble_eq_true rfl)
  rw [lg_entry_eq]
  generalize (lg_sl ([.ref (q 0), .int a1, .int a2]) ++ List.replicate (3 - (lg_sl ([.ref (q 0), .int a1, .int a2])).length) Slot.unset).toArray = ls at hl ⊢
  have hl : lv_has ls 3 [(0, .ref (q 0)), (1, .int a1), (2, .int a2)] := hl
  generalize hF : F6_mostCrates u a1 a2 = tgt
  refine lv_aload_n hx hb dX6_mostCrates_0 rfl (lv_at hl 0 rfl) ?_
  refine lv_iconst (v := 0) hx hb dX6_mostCrates_1 (by decide) ?_
  refine va_put (D := D) (ci := 6) (v := .int 0) (ty := .int) (C := RX6) (T := TX6) (N := 16) hx hb hts iX6 tyX6 tyX6_ok nmX6 hown hk.1 hP (wM_D hq) hS 0 (wM_0 _ _ _) rfl 6 (by decide) (hts (.fieldLink RX6 28 "BottleLoopModel" "thrown" "I") (List.mem_of_getElem? (i := 1) rfl)) (fun _ h9 => h9) rfl (by decide +kernel) rfl rfl (Nat.le_of_ble_eq_true rfl) dX6_mostCrates_2 (fun H locs hP _ hS => ?_)
  have hP : va_P D vwCl (wM cI q (bput u 6 2 0)) H := pM_f2 hP
  have hI_1 : mInv (bput u 6 2 0) := mInv_sc (k := 2) hI (by decide) (by decide) (by decide)
  refine lv_aload_n hx hb dX6_mostCrates_5 rfl (lv_at hl 0 rfl) ?_
  refine lv_iload_n hx hb dX6_mostCrates_6 rfl (lv_at hl 1 rfl) ?_
  refine bcall_Ri (va_runV (As := [.int a1]) (rest := []) ⟨hx, hb, hml, hown, hts⟩ (C6_isBrand l D cI q _ _ hP hI_1 a1) (cwV 1 hts gX6_mostCrates_X6_isBrand rfl rfl rfl ⟨rfl, bd_X6isBrand⟩ ⟨Nat.le_of_ble_eq_true rfl, Nat.le_of_ble_eq_true rfl⟩) (bPV hk (va_recv hk.1 hP (ci := 6) (q0 := 0) rfl (wM_0 _ _ _))) rfl rfl hl.1 rfl (lv_room (Nat.le_of_ble_eq_true rfl)) dX6_mostCrates_7 ⟨Nat.zero_le _, Nat.zero_le _⟩) hS (fun locs hS => ?_)
  refine lv_if_eq (tgt := 30) hx hb dX6_mostCrates_10 (by decide) (fun c_2 => ?_) (fun c_2 => ?_)
  · refine lv_aload_n hx hb dX6_mostCrates_30 rfl (lv_at hl 0 rfl) ?_
    refine lv_iconst (v := 1) hx hb dX6_mostCrates_31 (by decide) ?_
    refine bcall_Wi (va_runV (As := [.int 1]) (rest := []) ⟨hx, hb, hml, hown, hts⟩ (C6_fails l D cI q _ _ hq hP hI_1 1) (cwV 1 hts gX6_mostCrates_X6_fails rfl rfl rfl ⟨rfl, bd_X6fails⟩ ⟨Nat.le_of_ble_eq_true rfl, Nat.le_of_ble_eq_true rfl⟩) (bPV hk (va_recv hk.1 hP (ci := 6) (q0 := 0) rfl (wM_0 _ _ _))) rfl rfl hl.1 rfl (lv_room (Nat.le_of_ble_eq_true rfl)) dX6_mostCrates_32 ⟨Nat.zero_le _, Nat.zero_le _⟩) hS (fun H locs hP hI_3 hS => ?_)
    exact bret_Wi hx hb hr hP hI_3 hS hlocks dX6_mostCrates_35 (by rw [← hF, F6_mostCrates, if_pos c_2])
  · have hm_4 : mB a1 := mB_is hI_1 c_2
    refine lv_aload_n hx hb dX6_mostCrates_13 rfl (lv_at hl 0 rfl) ?_
    refine lv_iload_n hx hb dX6_mostCrates_14 rfl (lv_at hl 2 rfl) ?_
    refine bcall_Ri (va_runV (As := [.int a2]) (rest := []) ⟨hx, hb, hml, hown, hts⟩ (C6_isShop l D cI q _ _ hP hI_1 a2) (cwV 1 hts gX6_mostCrates_X6_isShop rfl rfl rfl ⟨rfl, bd_X6isShop⟩ ⟨Nat.le_of_ble_eq_true rfl, Nat.le_of_ble_eq_true rfl⟩) (bPV hk (va_recv hk.1 hP (ci := 6) (q0 := 0) rfl (wM_0 _ _ _))) rfl rfl hl.1 rfl (lv_room (Nat.le_of_ble_eq_true rfl)) dX6_mostCrates_15 ⟨Nat.zero_le _, Nat.zero_le _⟩) hS (fun locs hS => ?_)
    refine lv_if_eq (tgt := 30) hx hb dX6_mostCrates_18 (by decide) (fun c_5 => ?_) (fun c_5 => ?_)
    · refine lv_aload_n hx hb dX6_mostCrates_30 rfl (lv_at hl 0 rfl) ?_
      refine lv_iconst (v := 1) hx hb dX6_mostCrates_31 (by decide) ?_
      refine bcall_Wi (va_runV (As := [.int 1]) (rest := []) ⟨hx, hb, hml, hown, hts⟩ (C6_fails l D cI q _ _ hq hP hI_1 1) (cwV 1 hts gX6_mostCrates_X6_fails rfl rfl rfl ⟨rfl, bd_X6fails⟩ ⟨Nat.le_of_ble_eq_true rfl, Nat.le_of_ble_eq_true rfl⟩) (bPV hk (va_recv hk.1 hP (ci := 6) (q0 := 0) rfl (wM_0 _ _ _))) rfl rfl hl.1 rfl (lv_room (Nat.le_of_ble_eq_true rfl)) dX6_mostCrates_32 ⟨Nat.zero_le _, Nat.zero_le _⟩) hS (fun H locs hP hI_6 hS => ?_)
      exact bret_Wi hx hb hr hP hI_6 hS hlocks dX6_mostCrates_35 (by rw [← hF, F6_mostCrates, if_neg c_2, if_pos c_5])
    · have hm_7 : mS a2 := mS_is hI_1 c_5
      refine lv_aload_n hx hb dX6_mostCrates_21 rfl (lv_at hl 0 rfl) ?_
      refine lv_iload_n hx hb dX6_mostCrates_22 rfl (lv_at hl 1 rfl) ?_
      refine lv_iload_n hx hb dX6_mostCrates_23 rfl (lv_at hl 2 rfl) ?_
      refine bcall_Ri (va_runV (As := [.int a1, .int a2]) (rest := []) ⟨hx, hb, hml, hown, hts⟩ (C6_deliverable l D cI q _ _ hP hI_1 a1 a2 hm_4 hm_7) (cwV 2 hts gX6_mostCrates_X6_deliverable rfl rfl rfl ⟨rfl, bd_X6deliverable⟩ ⟨Nat.le_of_ble_eq_true rfl, Nat.le_of_ble_eq_true rfl⟩) (bPV hk (va_recv hk.1 hP (ci := 6) (q0 := 0) rfl (wM_0 _ _ _))) rfl rfl hl.1 rfl (lv_room (Nat.le_of_ble_eq_true rfl)) dX6_mostCrates_24 ⟨Nat.zero_le _, Nat.zero_le _⟩) hS (fun locs hS => ?_)
      refine lv_goto (tgt := 35) hx hb dX6_mostCrates_27 (by decide) ?_
      exact bret_Wi hx hb hr hP hI_1 hS hlocks dX6_mostCrates_35 (by rw [← hF, F6_mostCrates, if_neg c_2, if_neg c_5])
def F6_filled (u : bU) (a1 : Int32) (a2 : Int32) : Int32 × bU := (if (F6_isBrand (bput u 6 2 0) a1) = 0 then ((F6_fails (bput u 6 2 0) 1).1, (F6_fails (bput u 6 2 0) 1).2) else (if (F6_in a2 1 5000) = 0 then ((F6_fails (bput u 6 2 0) 2).1, (F6_fails (bput u 6 2 0) 2).2) else ((F6_full (bput u 6 2 0) a1 a2), (bput u 6 2 0))))
set_option maxHeartbeats 4000000 in
set_option maxRecDepth 100000 in
theorem C6_filled (l : Launch) (D : va_G) (cI : ClassId) (q : Nat → Nat) (u : bU) (H0 : Heap) (hq : bInj 7 q) (hP : va_P D vwCl (wM cI q u) H0) (hI : mInv u) (a1 : Int32) (a2 : Int32) : Met l yX6_filled wsX6_filled ({ frames := 3, cells := 0, slots := 0, locals := 66 }) (bP D [(cI, .int)] H0 [.ref (q 0), .int a1, .int a2]) (bWi D (wM cI q) mInv (bA 7 q H0.size) (F6_filled u a1 a2)) 0 0 (bA 7 q H0.size) := by
  refine Met.ofW (cc := cX6_filled) (maxL := 3) (ret := (some .int)) (by decide) rfl ?_
  intro p e s m args below meth c s₁ B hml hv
  obtain ⟨rfl, hH, hk⟩ := hv
  subst hH
  have hx := B.exec
  have hb := B.bytes
  have hr := B.returns
  have hts := atoms_spec (ws := wsX6_filled) B.pre
  have hown : s.vm.findClass RX6 = some m.cls := findClass_of_methodNamed B.named
  have hlocks := B.notSynchronized
  have hNB := mNB hI
  have hNS := mNS hI
  have hI0 := hI
  have iX6 : ∀ w ∈ wsX60, w ∈ wsX6_filled := by decide +kernel
  have hS : va_S (bA 7 q s.heap.size) s.heap s.heap [] := va_S.rf
  have hl := lv_entry ([.ref (q 0), .int a1, .int a2]) (n := 3) (Nat.le_of_ble_eq_true rfl)
  rw [lg_entry_eq]
  generalize (lg_sl ([.ref (q 0), .int a1, .int a2]) ++ List.replicate (3 - (lg_sl ([.ref (q 0), .int a1, .int a2])).length) Slot.unset).toArray = ls at hl ⊢
  have hl : lv_has ls 3 [(0, .ref (q 0)), (1, .int a1), (2, .int a2)] := hl
  generalize hF : F6_filled u a1 a2 = tgt
  refine lv_aload_n hx hb dX6_filled_0 rfl (lv_at hl 0 rfl) ?_
  refine lv_iconst (v := 0) hx hb dX6_filled_1 (by decide) ?_
  refine va_put (D := D) (ci := 6) (v := .int 0) (ty := .int) (C := RX6) (T := TX6) (N := 16) hx hb hts iX6 tyX6 tyX6_ok nmX6 hown hk.1 hP (wM_D hq) hS 0 (wM_0 _ _ _) rfl 6 (by decide) (hts (.fieldLink RX6 28 "BottleLoopModel" "thrown" "I") (List.mem_of_getElem? (i := 1) rfl)) (fun _ h9 => h9) rfl (by decide +kernel) rfl rfl (Nat.le_of_ble_eq_true rfl) dX6_filled_2 (fun H locs hP _ hS => ?_)
  have hP : va_P D vwCl (wM cI q (bput u 6 2 0)) H := pM_f2 hP
  have hI_1 : mInv (bput u 6 2 0) := mInv_sc (k := 2) hI (by decide) (by decide) (by decide)
  refine lv_aload_n hx hb dX6_filled_5 rfl (lv_at hl 0 rfl) ?_
  refine lv_iload_n hx hb dX6_filled_6 rfl (lv_at hl 1 rfl) ?_
  refine bcall_Ri (va_runV (As := [.int a1]) (rest := []) ⟨hx, hb, hml, hown, hts⟩ (C6_isBrand l D cI q _ _ hP hI_1 a1) (cwV 1 hts gX6_filled_X6_isBrand rfl rfl rfl ⟨rfl, bd_X6isBrand⟩ ⟨Nat.le_of_ble_eq_true rfl, Nat.le_of_ble_eq_true rfl⟩) (bPV hk (va_recv hk.1 hP (ci := 6) (q0 := 0) rfl (wM_0 _ _ _))) rfl rfl hl.1 rfl (lv_room (Nat.le_of_ble_eq_true rfl)) dX6_filled_7 ⟨Nat.zero_le _, Nat.zero_le _⟩) hS (fun locs hS => ?_)
  refine lv_if_ne (tgt := 19) hx hb dX6_filled_10 (by decide) (fun c_2 => ?_) (fun c_2 => ?_)
  · have hm_3 : mB a1 := mB_is hI_1 c_2
    refine lv_iload_n hx hb dX6_filled_19 rfl (lv_at hl 2 rfl) ?_
    refine lv_iconst (v := 1) hx hb dX6_filled_20 (by decide) ?_
    refine lv_sipush (v := 5000) hx hb dX6_filled_21 (by decide) ?_
    refine bcall_Ri (va_runS (As := [.int a2, .int 1, .int 5000]) (rest := []) ⟨hx, hb, hml, hown, hts⟩ (C6_in l D cI q _ a2 1 5000) (va_cwS 3 hts gX6_filled_X6_in rfl rfl rfl bd_X6in ⟨Nat.le_of_ble_eq_true rfl, Nat.le_of_ble_eq_true rfl⟩) (bPS hk) rfl rfl hl.1 rfl (lv_room (Nat.le_of_ble_eq_true rfl)) dX6_filled_24 ⟨Nat.zero_le _, Nat.zero_le _⟩) hS (fun locs hS => ?_)
    refine lv_if_eq (tgt := 39) hx hb dX6_filled_27 (by decide) (fun c_4 => ?_) (fun c_4 => ?_)
    · refine lv_aload_n hx hb dX6_filled_39 rfl (lv_at hl 0 rfl) ?_
      refine lv_iconst (v := 2) hx hb dX6_filled_40 (by decide) ?_
      refine bcall_Wi (va_runV (As := [.int 2]) (rest := []) ⟨hx, hb, hml, hown, hts⟩ (C6_fails l D cI q _ _ hq hP hI_1 2) (cwV 1 hts gX6_filled_X6_fails rfl rfl rfl ⟨rfl, bd_X6fails⟩ ⟨Nat.le_of_ble_eq_true rfl, Nat.le_of_ble_eq_true rfl⟩) (bPV hk (va_recv hk.1 hP (ci := 6) (q0 := 0) rfl (wM_0 _ _ _))) rfl rfl hl.1 rfl (lv_room (Nat.le_of_ble_eq_true rfl)) dX6_filled_41 ⟨Nat.zero_le _, Nat.zero_le _⟩) hS (fun H locs hP hI_5 hS => ?_)
      exact bret_Wi hx hb hr hP hI_5 hS hlocks dX6_filled_44 (by rw [← hF, F6_filled, if_neg c_2, if_pos c_4])
    · refine lv_aload_n hx hb dX6_filled_30 rfl (lv_at hl 0 rfl) ?_
      refine lv_iload_n hx hb dX6_filled_31 rfl (lv_at hl 1 rfl) ?_
      refine lv_iload_n hx hb dX6_filled_32 rfl (lv_at hl 2 rfl) ?_
      refine bcall_Ri (va_runV (As := [.int a1, .int a2]) (rest := []) ⟨hx, hb, hml, hown, hts⟩ (C6_full l D cI q _ _ hP hI_1 a1 a2 hm_3) (cwV 2 hts gX6_filled_X6_full rfl rfl rfl ⟨rfl, bd_X6full⟩ ⟨Nat.le_of_ble_eq_true rfl, Nat.le_of_ble_eq_true rfl⟩) (bPV hk (va_recv hk.1 hP (ci := 6) (q0 := 0) rfl (wM_0 _ _ _))) rfl rfl hl.1 rfl (lv_room (Nat.le_of_ble_eq_true rfl)) dX6_filled_33 ⟨Nat.zero_le _, Nat.zero_le _⟩) hS (fun locs hS => ?_)
      refine lv_goto (tgt := 44) hx hb dX6_filled_36 (by decide) ?_
      exact bret_Wi hx hb hr hP hI_1 hS hlocks dX6_filled_44 (by rw [← hF, F6_filled, if_neg c_2, if_neg c_4])
  · refine lv_aload_n hx hb dX6_filled_13 rfl (lv_at hl 0 rfl) ?_
    refine lv_iconst (v := 1) hx hb dX6_filled_14 (by decide) ?_
    refine bcall_Wi (va_runV (As := [.int 1]) (rest := []) ⟨hx, hb, hml, hown, hts⟩ (C6_fails l D cI q _ _ hq hP hI_1 1) (cwV 1 hts gX6_filled_X6_fails rfl rfl rfl ⟨rfl, bd_X6fails⟩ ⟨Nat.le_of_ble_eq_true rfl, Nat.le_of_ble_eq_true rfl⟩) (bPV hk (va_recv hk.1 hP (ci := 6) (q0 := 0) rfl (wM_0 _ _ _))) rfl rfl hl.1 rfl (lv_room (Nat.le_of_ble_eq_true rfl)) dX6_filled_15 ⟨Nat.zero_le _, Nat.zero_le _⟩) hS (fun H locs hP hI_6 hS => ?_)
    exact bret_Wi hx hb hr hP hI_6 hS hlocks dX6_filled_18 (by rw [← hF, F6_filled, if_pos c_2])

theorem bd_X6deposit : yX6_deposit.cls ≠ "java/lang/invoke/MethodHandle" ∧ yX6_deposit.cls ≠ "java/lang/invoke/VarHandle" ∧ (parseMethodDescriptor yX6_deposit.desc).map (fun d => d.parameters.length) = some 1 := by decide +kernel
theorem bd_X6depositsFor : yX6_depositsFor.cls ≠ "java/lang/invoke/MethodHandle" ∧ yX6_depositsFor.cls ≠ "java/lang/invoke/VarHandle" ∧ (parseMethodDescriptor yX6_depositsFor.desc).map (fun d => d.parameters.length) = some 2 := by decide +kernel
theorem bd_X6emptiesOf : yX6_emptiesOf.cls ≠ "java/lang/invoke/MethodHandle" ∧ yX6_emptiesOf.cls ≠ "java/lang/invoke/VarHandle" ∧ (parseMethodDescriptor yX6_emptiesOf.desc).map (fun d => d.parameters.length) = some 2 := by decide +kernel
theorem bd_X6of : yX6_of.cls ≠ "java/lang/invoke/MethodHandle" ∧ yX6_of.cls ≠ "java/lang/invoke/VarHandle" ∧ (parseMethodDescriptor yX6_of.desc).map (fun d => d.parameters.length) = some 2 := by decide +kernel
theorem bd_X6ofShop : yX6_ofShop.cls ≠ "java/lang/invoke/MethodHandle" ∧ yX6_ofShop.cls ≠ "java/lang/invoke/VarHandle" ∧ (parseMethodDescriptor yX6_ofShop.desc).map (fun d => d.parameters.length) = some 2 := by decide +kernel
theorem bd_X6priceFor : yX6_priceFor.cls ≠ "java/lang/invoke/MethodHandle" ∧ yX6_priceFor.cls ≠ "java/lang/invoke/VarHandle" ∧ (parseMethodDescriptor yX6_priceFor.desc).map (fun d => d.parameters.length) = some 2 := by decide +kernel
def F6_thrown (u : bU) : Int32 := (u 6 2)
set_option maxHeartbeats 4000000 in
set_option maxRecDepth 100000 in
theorem C6_thrown (l : Launch) (D : va_G) (cI : ClassId) (q : Nat → Nat) (u : bU) (H0 : Heap) (hP : va_P D vwCl (wM cI q u) H0) (hI : mInv u) : Met l yX6_thrown wsX6_thrown ({ frames := 0, cells := 0, slots := 0, locals := 0 }) (bP D [(cI, .int)] H0 [.ref (q 0)]) (bRi H0 (F6_thrown u)) 0 0 (fun _ => False) := by
  refine Met.ofW (cc := cX6_thrown) (maxL := 1) (ret := (some .int)) (by decide) rfl ?_
  intro p e s m args below meth c s₁ B hml hv
  obtain ⟨rfl, hH, hk⟩ := hv
  subst hH
  have hx := B.exec
  have hb := B.bytes
  have hr := B.returns
  have hts := atoms_spec (ws := wsX6_thrown) B.pre
  have hown : s.vm.findClass RX6 = some m.cls := findClass_of_methodNamed B.named
  have hlocks := B.notSynchronized
  have hNB := mNB hI
  have hNS := mNS hI
  have hI0 := hI
  have iX6 : ∀ w ∈ wsX60, w ∈ wsX6_thrown := by decide +kernel
  have hS : va_S (fun _ => False) s.heap s.heap [] := va_S.rf
  have hl := lv_entry ([.ref (q 0)]) (n := 1) (Nat.le_of_ble_eq_true rfl)
  rw [lg_entry_eq]
  generalize (lg_sl ([.ref (q 0)]) ++ List.replicate (1 - (lg_sl ([.ref (q 0)])).length) Slot.unset).toArray = ls at hl ⊢
  have hl : lv_has ls 1 [(0, .ref (q 0))] := hl
  generalize hF : F6_thrown u = tgt
  refine lv_aload_n hx hb dX6_thrown_0 rfl (lv_at hl 0 rfl) ?_
  refine va_get (D := D) (ci := 6) (C := RX6) (T := TX6) (N := 16) hx hb hts iX6 hown hk.1 hP 0 (wM_0 _ _ _) rfl 6 (by decide) (hts (.fieldLink RX6 28 "BottleLoopModel" "thrown" "I") (List.mem_of_getElem? (i := 1) rfl)) (fun _ h9 => h9) rfl dX6_thrown_1 ?_
  exact bret_Ri hx hb hr hS hlocks dX6_thrown_4 (by rw [← hF, F6_thrown])
def F6_deposit (u : bU) (a1 : Int32) : Int32 := (u 0 (7 + (F6_of u a1 0)).toNatClampNeg)
set_option maxHeartbeats 4000000 in
set_option maxRecDepth 100000 in
theorem C6_deposit (l : Launch) (D : va_G) (cI : ClassId) (q : Nat → Nat) (u : bU) (H0 : Heap) (hP : va_P D vwCl (wM cI q u) H0) (hI : mInv u) (a1 : Int32) (h_a1 : mB a1) : Met l yX6_deposit wsX6_deposit ({ frames := 2, cells := 0, slots := 0, locals := 43 }) (bP D [(cI, .int)] H0 [.ref (q 0), .int a1]) (bRi H0 (F6_deposit u a1)) 0 0 (fun _ => False) := by
  refine Met.ofW (cc := cX6_deposit) (maxL := 2) (ret := (some .int)) (by decide) rfl ?_
  intro p e s m args below meth c s₁ B hml hv
  obtain ⟨rfl, hH, hk⟩ := hv
  subst hH
  have hx := B.exec
  have hb := B.bytes
  have hr := B.returns
  have hts := atoms_spec (ws := wsX6_deposit) B.pre
  have hown : s.vm.findClass RX6 = some m.cls := findClass_of_methodNamed B.named
  have hlocks := B.notSynchronized
  have hNB := mNB hI
  have hNS := mNS hI
  have hI0 := hI
  have iX6 : ∀ w ∈ wsX60, w ∈ wsX6_deposit := by decide +kernel
  have hS : va_S (fun _ => False) s.heap s.heap [] := va_S.rf
  have hl := lv_entry ([.ref (q 0), .int a1]) (n := 2) (Nat.le_of_ble_eq_true rfl)
  rw [lg_entry_eq]
  generalize (lg_sl ([.ref (q 0), .int a1]) ++ List.replicate (2 - (lg_sl ([.ref (q 0), .int a1])).length) Slot.unset).toArray = ls at hl ⊢
  have hl : lv_has ls 2 [(0, .ref (q 0)), (1, .int a1)] := hl
  generalize hF : F6_deposit u a1 = tgt
  refine lv_aload_n hx hb dX6_deposit_0 rfl (lv_at hl 0 rfl) ?_
  refine va_get (D := D) (ci := 6) (C := RX6) (T := TX6) (N := 16) hx hb hts iX6 hown hk.1 hP 0 (wM_0 _ _ _) rfl 0 (by decide) (hts (.fieldLink RX6 7 "BottleLoopModel" "v" "[I") (List.mem_of_getElem? (i := 1) rfl)) (fun _ h9 => h9) rfl dX6_deposit_1 ?_
  refine lv_bipush (v := 7) hx hb dX6_deposit_4 (by decide) ?_
  refine lv_aload_n hx hb dX6_deposit_6 rfl (lv_at hl 0 rfl) ?_
  refine lv_iload_n hx hb dX6_deposit_7 rfl (lv_at hl 1 rfl) ?_
  refine lv_iconst (v := 0) hx hb dX6_deposit_8 (by decide) ?_
  refine bcall_Ri (va_runV (As := [.int a1, .int 0]) (rest := [.int 7, .ref (q 1)]) ⟨hx, hb, hml, hown, hts⟩ (C6_of l D cI q _ _ hP hI a1 0 (mXB (w := 0) h_a1 (by decide))) (cwV 2 hts gX6_deposit_X6_of rfl rfl rfl ⟨rfl, bd_X6of⟩ ⟨Nat.le_of_ble_eq_true rfl, Nat.le_of_ble_eq_true rfl⟩) (bPV hk (va_recv hk.1 hP (ci := 6) (q0 := 0) rfl (wM_0 _ _ _))) rfl rfl hl.1 rfl (lv_room (Nat.le_of_ble_eq_true rfl)) dX6_deposit_9 ⟨Nat.zero_le _, Nat.zero_le _⟩) hS (fun locs hS => ?_)
  refine lv_iadd hx hb dX6_deposit_12 ?_
  refine va_iald hx hb hk.1 hP 1 0 (wM_1 _ _ _) rfl (mX7 (mK_of hI0 h_a1)) dX6_deposit_13 ?_
  exact bret_Ri hx hb hr hS hlocks dX6_deposit_14 (by rw [← hF, F6_deposit])
def L6_cratesInShops_4 (u : bU) : Nat → Nat → Int32 → Int32
  | 0, _, x1_4 => x1_4
  | n4 + 1, j4, x1_4 => (if (u 0 1) ≤ (nI j4) then x1_4 else (L6_cratesInShops_4 u n4 (j4 + 1) (x1_4 + (F6_ofShop u (nI j4) 1))))
def F6_cratesInShops (u : bU) : Int32 := (L6_cratesInShops_4 u ((u 0 1).toNatClampNeg + 1) 0 0)
set_option maxHeartbeats 4000000 in
set_option maxRecDepth 100000 in
theorem C6_cratesInShops (l : Launch) (D : va_G) (cI : ClassId) (q : Nat → Nat) (u : bU) (H0 : Heap) (hP : va_P D vwCl (wM cI q u) H0) (hI : mInv u) : Met l yX6_cratesInShops wsX6_cratesInShops ({ frames := 2, cells := 0, slots := 0, locals := 43 }) (bP D [(cI, .int)] H0 [.ref (q 0)]) (bRi H0 (F6_cratesInShops u)) 0 0 (fun _ => False) := by
  refine Met.ofW (cc := cX6_cratesInShops) (maxL := 3) (ret := (some .int)) (by decide) rfl ?_
  intro p e s m args below meth c s₁ B hml hv
  obtain ⟨rfl, hH, hk⟩ := hv
  subst hH
  have hx := B.exec
  have hb := B.bytes
  have hr := B.returns
  have hts := atoms_spec (ws := wsX6_cratesInShops) B.pre
  have hown : s.vm.findClass RX6 = some m.cls := findClass_of_methodNamed B.named
  have hlocks := B.notSynchronized
  have hNB := mNB hI
  have hNS := mNS hI
  have hI0 := hI
  have iX6 : ∀ w ∈ wsX60, w ∈ wsX6_cratesInShops := by decide +kernel
  have hS : va_S (fun _ => False) s.heap s.heap [] := va_S.rf
  have hl := lv_entry ([.ref (q 0)]) (n := 3) (Nat.le_of_ble_eq_true rfl)
  rw [lg_entry_eq]
  generalize (lg_sl ([.ref (q 0)]) ++ List.replicate (3 - (lg_sl ([.ref (q 0)])).length) Slot.unset).toArray = ls at hl ⊢
  have hl : lv_has ls 3 [(0, .ref (q 0))] := hl
  generalize hF : F6_cratesInShops u = tgt
  refine lv_iconst (v := 0) hx hb dX6_cratesInShops_0 (by decide) ?_
  refine lv_istore_n (lv' := [(1, .int 0), (0, .ref (q 0))]) hx hb dX6_cratesInShops_1 rfl hl (by decide) rfl (fun ls hl => ?_)
  refine lv_iconst (v := 0) hx hb dX6_cratesInShops_2 (by decide) ?_
  refine lv_istore_n (lv' := [(2, .int 0), (1, .int 0), (0, .ref (q 0))]) hx hb dX6_cratesInShops_3 rfl hl (by decide) rfl (fun ls hl => ?_)
  have hB4 := bClamp (u 0 1)
  have loop4 : ∀ (n4 j4 : Nat) (x1_4 : Int32) (locs : List Loc) (ls : Array Slot), j4 ≤ (u 0 1).toNatClampNeg → (u 0 1).toNatClampNeg + 1 ≤ n4 + j4 → lv_has ls 3 [(0, .ref (q 0)), (1, .int x1_4), (2, .int (nI j4))] → va_S (fun _ => False) s.heap s.heap locs → ∀ X : Int32, L6_cratesInShops_4 u  n4 j4 x1_4 = X → (∀ (locs : List Loc) (ls : Array Slot), lv_has ls 3 [(0, .ref (q 0)), (1, .int X)] → va_S (fun _ => False) s.heap s.heap locs → W p l e (headSpec wsX6_cratesInShops ({ frames := 2, cells := 0, slots := 0, locals := 43 })).room s m ([.ref (q 0)] : List Value).toArray below meth c s.heap locs 0 0 (MQ below (bRi s.heap tgt) ([.ref (q 0)] : List Value).toArray s 0 0 (fun _ => False)) (F0 m 29 ls [])) → W p l e (headSpec wsX6_cratesInShops ({ frames := 2, cells := 0, slots := 0, locals := 43 })).room s m ([.ref (q 0)] : List Value).toArray below meth c s.heap locs 0 0 (MQ below (bRi s.heap tgt) ([.ref (q 0)] : List Value).toArray s 0 0 (fun _ => False)) (F0 m 4 ls []) := by
    intro n4
    induction n4 with
    | zero => intro j4 x1_4 locs ls hj hn; exact absurd hn (by omega)
    | succ n4 ih =>
      intro j4 x1_4 locs ls hj hn hl hS X hF kx
      refine lv_iload_n hx hb dX6_cratesInShops_4 rfl (lv_at hl 2 rfl) ?_
      refine lv_aload_n hx hb dX6_cratesInShops_5 rfl (lv_at hl 0 rfl) ?_
      refine va_get (D := D) (ci := 6) (C := RX6) (T := TX6) (N := 16) hx hb hts iX6 hown hk.1 hP 0 (wM_0 _ _ _) rfl 0 (by decide) (hts (.fieldLink RX6 7 "BottleLoopModel" "v" "[I") (List.mem_of_getElem? (i := 1) rfl)) (fun _ h9 => h9) rfl dX6_cratesInShops_6 ?_
      refine lv_iconst (v := 1) hx hb dX6_cratesInShops_9 (by decide) ?_
      refine va_iald hx hb hk.1 hP 1 0 (wM_1 _ _ _) rfl (vp_in_nI (n := 1) (by decide) (by decide)) dX6_cratesInShops_10 ?_
      refine lv_topi (fun z9 hz9 => ?_)
      obtain rfl : z9 = (u 0 1) := hz9.trans rfl
      refine lv_icmp_ge (tgt := 29) hx hb dX6_cratesInShops_11 (by decide) (fun c_1 => ?_) (fun c_1 => ?_)
      · obtain rfl : X = x1_4 := by rw [← hF, L6_cratesInShops_4, if_pos c_1]
        exact kx _ _ (lv_sub hl [0, 1] rfl) hS
      · have hlt_2 : j4 < (u 0 1).toNatClampNeg := bLtB c_1 (by omega)
        refine lv_iload_n hx hb dX6_cratesInShops_14 rfl (lv_at hl 1 rfl) ?_
        refine lv_aload_n hx hb dX6_cratesInShops_15 rfl (lv_at hl 0 rfl) ?_
        refine lv_iload_n hx hb dX6_cratesInShops_16 rfl (lv_at hl 2 rfl) ?_
        refine lv_iconst (v := 1) hx hb dX6_cratesInShops_17 (by decide) ?_
        refine bcall_Ri (va_runV (As := [.int (nI j4), .int 1]) (rest := [.int x1_4]) ⟨hx, hb, hml, hown, hts⟩ (C6_ofShop l D cI q _ _ hP hI (nI j4) 1 (mXS (w := 1) (mS_nI (by omega)) (by decide))) (cwV 2 hts gX6_cratesInShops_X6_ofShop rfl rfl rfl ⟨rfl, bd_X6ofShop⟩ ⟨Nat.le_of_ble_eq_true rfl, Nat.le_of_ble_eq_true rfl⟩) (bPV hk (va_recv hk.1 hP (ci := 6) (q0 := 0) rfl (wM_0 _ _ _))) rfl rfl hl.1 rfl (lv_room (Nat.le_of_ble_eq_true rfl)) dX6_cratesInShops_18 ⟨Nat.zero_le _, Nat.zero_le _⟩) hS (fun locs hS => ?_)
        refine lv_iadd hx hb dX6_cratesInShops_21 ?_
        refine lv_istore_n (lv' := [(1, .int (x1_4 + (F6_ofShop u (nI j4) 1))), (0, .ref (q 0)), (2, .int (nI j4))]) hx hb dX6_cratesInShops_22 rfl hl (by decide) rfl (fun ls hl => ?_)
        refine lv_iinc (v := (nI (j4 + 1))) (lv' := [(2, .int (nI (j4 + 1))), (1, .int (x1_4 + (F6_ofShop u (nI j4) 1))), (0, .ref (q 0))]) hx hb dX6_cratesInShops_23 hl (k := 2) rfl (bInc j4) (by decide) rfl (fun ls hl => ?_)
        refine lv_goto (tgt := 4) hx hb dX6_cratesInShops_26 (by decide) ?_
        exact ih (j4 + 1) (x1_4 + (F6_ofShop u (nI j4) 1)) _ _ (by omega) (by omega) (lv_sub hl [2, 1, 0] rfl) hS X (by rw [← hF, L6_cratesInShops_4, if_neg c_1]) kx
  refine loop4 ((u 0 1).toNatClampNeg + 1) 0 0 _ _ (by omega) (by omega) (lv_sub hl [2, 1, 0] rfl) hS _ rfl (fun locs ls hl hS => ?_)
  refine lv_iload_n hx hb dX6_cratesInShops_29 rfl (lv_at hl 1 rfl) ?_
  exact bret_Ri hx hb hr hS hlocks dX6_cratesInShops_30 (by rw [← hF, F6_cratesInShops])
def F6_full (u : bU) (a1 : Int32) (a2 : Int32) : Int32 := (a2 - ((((F6_of u a1 8) + a2) / (u 0 12)) - ((F6_of u a1 8) / (u 0 12))))
set_option maxHeartbeats 4000000 in
set_option maxRecDepth 100000 in
theorem C6_full (l : Launch) (D : va_G) (cI : ClassId) (q : Nat → Nat) (u : bU) (H0 : Heap) (hP : va_P D vwCl (wM cI q u) H0) (hI : mInv u) (a1 : Int32) (a2 : Int32) (h_a1 : mB a1) : Met l yX6_full wsX6_full ({ frames := 2, cells := 0, slots := 0, locals := 43 }) (bP D [(cI, .int)] H0 [.ref (q 0), .int a1, .int a2]) (bRi H0 (F6_full u a1 a2)) 0 0 (fun _ => False) := by
  refine Met.ofW (cc := cX6_full) (maxL := 4) (ret := (some .int)) (by decide) rfl ?_
  intro p e s m args below meth c s₁ B hml hv
  obtain ⟨rfl, hH, hk⟩ := hv
  subst hH
  have hx := B.exec
  have hb := B.bytes
  have hr := B.returns
  have hts := atoms_spec (ws := wsX6_full) B.pre
  have hown : s.vm.findClass RX6 = some m.cls := findClass_of_methodNamed B.named
  have hlocks := B.notSynchronized
  have hNB := mNB hI
  have hNS := mNS hI
  have hI0 := hI
  have iX6 : ∀ w ∈ wsX60, w ∈ wsX6_full := by decide +kernel
  have hS : va_S (fun _ => False) s.heap s.heap [] := va_S.rf
  have hl := lv_entry ([.ref (q 0), .int a1, .int a2]) (n := 4) (Nat.le_of_ble_eq_true rfl)
  rw [lg_entry_eq]
  generalize (lg_sl ([.ref (q 0), .int a1, .int a2]) ++ List.replicate (4 - (lg_sl ([.ref (q 0), .int a1, .int a2])).length) Slot.unset).toArray = ls at hl ⊢
  have hl : lv_has ls 4 [(0, .ref (q 0)), (1, .int a1), (2, .int a2)] := hl
  generalize hF : F6_full u a1 a2 = tgt
  refine lv_aload_n hx hb dX6_full_0 rfl (lv_at hl 0 rfl) ?_
  refine va_get (D := D) (ci := 6) (C := RX6) (T := TX6) (N := 16) hx hb hts iX6 hown hk.1 hP 0 (wM_0 _ _ _) rfl 0 (by decide) (hts (.fieldLink RX6 7 "BottleLoopModel" "v" "[I") (List.mem_of_getElem? (i := 1) rfl)) (fun _ h9 => h9) rfl dX6_full_1 ?_
  refine lv_bipush (v := 12) hx hb dX6_full_4 (by decide) ?_
  refine va_iald hx hb hk.1 hP 1 0 (wM_1 _ _ _) rfl (vp_in_nI (n := 12) (by decide) (by decide)) dX6_full_6 ?_
  refine lv_topi (fun z9 hz9 => ?_)
  obtain rfl : z9 = (u 0 12) := hz9.trans rfl
  refine lv_istore_n (lv' := [(3, .int (u 0 12)), (0, .ref (q 0)), (1, .int a1), (2, .int a2)]) hx hb dX6_full_7 rfl hl (by decide) rfl (fun ls hl => ?_)
  refine lv_iload_n hx hb dX6_full_8 rfl (lv_at hl 3 rfl) ?_
  refine lv_aload_n hx hb dX6_full_9 rfl (lv_at hl 1 rfl) ?_
  refine lv_iload_n hx hb dX6_full_10 rfl (lv_at hl 2 rfl) ?_
  refine lv_bipush (v := 8) hx hb dX6_full_11 (by decide) ?_
  refine bcall_Ri (va_runV (As := [.int a1, .int 8]) (rest := [.int a2]) ⟨hx, hb, hml, hown, hts⟩ (C6_of l D cI q _ _ hP hI a1 8 (mXB (w := 8) h_a1 (by decide))) (cwV 2 hts gX6_full_X6_of rfl rfl rfl ⟨rfl, bd_X6of⟩ ⟨Nat.le_of_ble_eq_true rfl, Nat.le_of_ble_eq_true rfl⟩) (bPV hk (va_recv hk.1 hP (ci := 6) (q0 := 0) rfl (wM_0 _ _ _))) rfl rfl hl.1 rfl (lv_room (Nat.le_of_ble_eq_true rfl)) dX6_full_13 ⟨Nat.zero_le _, Nat.zero_le _⟩) hS (fun locs hS => ?_)
  refine lv_iload_n hx hb dX6_full_16 rfl (lv_at hl 3 rfl) ?_
  refine lv_iadd hx hb dX6_full_17 ?_
  refine lv_iload_n hx hb dX6_full_18 rfl (lv_at hl 0 rfl) ?_
  refine lv_idiv hx hb dX6_full_19 (mWear hI) ?_
  refine lv_aload_n hx hb dX6_full_20 rfl (lv_at hl 1 rfl) ?_
  refine lv_iload_n hx hb dX6_full_21 rfl (lv_at hl 2 rfl) ?_
  refine lv_bipush (v := 8) hx hb dX6_full_22 (by decide) ?_
  refine bcall_Ri (va_runV (As := [.int a1, .int 8]) (rest := [.int (((F6_of u a1 8) + a2) / (u 0 12)), .int a2]) ⟨hx, hb, hml, hown, hts⟩ (C6_of l D cI q _ _ hP hI a1 8 (mXB (w := 8) h_a1 (by decide))) (cwV 2 hts gX6_full_X6_of rfl rfl rfl ⟨rfl, bd_X6of⟩ ⟨Nat.le_of_ble_eq_true rfl, Nat.le_of_ble_eq_true rfl⟩) (bPV hk (va_recv hk.1 hP (ci := 6) (q0 := 0) rfl (wM_0 _ _ _))) rfl rfl hl.1 rfl (lv_room (Nat.le_of_ble_eq_true rfl)) dX6_full_24 ⟨Nat.zero_le _, Nat.zero_le _⟩) hS (fun locs hS => ?_)
  refine lv_iload_n hx hb dX6_full_27 rfl (lv_at hl 0 rfl) ?_
  refine lv_idiv hx hb dX6_full_28 (mWear hI) ?_
  refine lv_isub hx hb dX6_full_29 ?_
  refine lv_isub hx hb dX6_full_30 ?_
  exact bret_Ri hx hb hr hS hlocks dX6_full_31 (by rw [← hF, F6_full])
def F6_depositsFor (u : bU) (a1 : Int32) (a2 : Int32) : Int32 := (a2 * ((12 * (u 0 (7 + a1).toNatClampNeg)) + (u 0 10)))
set_option maxHeartbeats 4000000 in
set_option maxRecDepth 100000 in
theorem C6_depositsFor (l : Launch) (D : va_G) (cI : ClassId) (q : Nat → Nat) (u : bU) (H0 : Heap) (hP : va_P D vwCl (wM cI q u) H0) (hI : mInv u) (a1 : Int32) (a2 : Int32) (h_a1 : mK a1) : Met l yX6_depositsFor wsX6_depositsFor ({ frames := 0, cells := 0, slots := 0, locals := 0 }) (bP D [(cI, .int)] H0 [.ref (q 0), .int a1, .int a2]) (bRi H0 (F6_depositsFor u a1 a2)) 0 0 (fun _ => False) := by
  refine Met.ofW (cc := cX6_depositsFor) (maxL := 3) (ret := (some .int)) (by decide) rfl ?_
  intro p e s m args below meth c s₁ B hml hv
  obtain ⟨rfl, hH, hk⟩ := hv
  subst hH
  have hx := B.exec
  have hb := B.bytes
  have hr := B.returns
  have hts := atoms_spec (ws := wsX6_depositsFor) B.pre
  have hown : s.vm.findClass RX6 = some m.cls := findClass_of_methodNamed B.named
  have hlocks := B.notSynchronized
  have hNB := mNB hI
  have hNS := mNS hI
  have hI0 := hI
  have iX6 : ∀ w ∈ wsX60, w ∈ wsX6_depositsFor := by decide +kernel
  have hS : va_S (fun _ => False) s.heap s.heap [] := va_S.rf
  have hl := lv_entry ([.ref (q 0), .int a1, .int a2]) (n := 3) (Nat.le_of_ble_eq_true rfl)
  rw [lg_entry_eq]
  generalize (lg_sl ([.ref (q 0), .int a1, .int a2]) ++ List.replicate (3 - (lg_sl ([.ref (q 0), .int a1, .int a2])).length) Slot.unset).toArray = ls at hl ⊢
  have hl : lv_has ls 3 [(0, .ref (q 0)), (1, .int a1), (2, .int a2)] := hl
  generalize hF : F6_depositsFor u a1 a2 = tgt
  refine lv_iload_n hx hb dX6_depositsFor_0 rfl (lv_at hl 2 rfl) ?_
  refine lv_bipush (v := 12) hx hb dX6_depositsFor_1 (by decide) ?_
  refine lv_aload_n hx hb dX6_depositsFor_3 rfl (lv_at hl 0 rfl) ?_
  refine va_get (D := D) (ci := 6) (C := RX6) (T := TX6) (N := 16) hx hb hts iX6 hown hk.1 hP 0 (wM_0 _ _ _) rfl 0 (by decide) (hts (.fieldLink RX6 7 "BottleLoopModel" "v" "[I") (List.mem_of_getElem? (i := 1) rfl)) (fun _ h9 => h9) rfl dX6_depositsFor_4 ?_
  refine lv_bipush (v := 7) hx hb dX6_depositsFor_7 (by decide) ?_
  refine lv_iload_n hx hb dX6_depositsFor_9 rfl (lv_at hl 1 rfl) ?_
  refine lv_iadd hx hb dX6_depositsFor_10 ?_
  refine va_iald hx hb hk.1 hP 1 0 (wM_1 _ _ _) rfl (mX7 h_a1) dX6_depositsFor_11 ?_
  refine lv_imul hx hb dX6_depositsFor_12 ?_
  refine lv_aload_n hx hb dX6_depositsFor_13 rfl (lv_at hl 0 rfl) ?_
  refine va_get (D := D) (ci := 6) (C := RX6) (T := TX6) (N := 16) hx hb hts iX6 hown hk.1 hP 0 (wM_0 _ _ _) rfl 0 (by decide) (hts (.fieldLink RX6 7 "BottleLoopModel" "v" "[I") (List.mem_of_getElem? (i := 1) rfl)) (fun _ h9 => h9) rfl dX6_depositsFor_14 ?_
  refine lv_bipush (v := 10) hx hb dX6_depositsFor_17 (by decide) ?_
  refine va_iald hx hb hk.1 hP 1 0 (wM_1 _ _ _) rfl (vp_in_nI (n := 10) (by decide) (by decide)) dX6_depositsFor_19 ?_
  refine lv_topi (fun z9 hz9 => ?_)
  obtain rfl : z9 = (u 0 10) := hz9.trans rfl
  refine lv_iadd hx hb dX6_depositsFor_20 ?_
  refine lv_imul hx hb dX6_depositsFor_21 ?_
  exact bret_Ri hx hb hr hS hlocks dX6_depositsFor_22 (by rw [← hF, F6_depositsFor])
def F6_priceFor (u : bU) (a1 : Int32) (a2 : Int32) : Int32 := ((F6_depositsFor u (F6_of u a1 0) a2) + (a2 * (u 0 11)))
set_option maxHeartbeats 4000000 in
set_option maxRecDepth 100000 in
theorem C6_priceFor (l : Launch) (D : va_G) (cI : ClassId) (q : Nat → Nat) (u : bU) (H0 : Heap) (hP : va_P D vwCl (wM cI q u) H0) (hI : mInv u) (a1 : Int32) (a2 : Int32) (h_a1 : mB a1) : Met l yX6_priceFor wsX6_priceFor ({ frames := 2, cells := 0, slots := 0, locals := 43 }) (bP D [(cI, .int)] H0 [.ref (q 0), .int a1, .int a2]) (bRi H0 (F6_priceFor u a1 a2)) 0 0 (fun _ => False) := by
  refine Met.ofW (cc := cX6_priceFor) (maxL := 3) (ret := (some .int)) (by decide) rfl ?_
  intro p e s m args below meth c s₁ B hml hv
  obtain ⟨rfl, hH, hk⟩ := hv
  subst hH
  have hx := B.exec
  have hb := B.bytes
  have hr := B.returns
  have hts := atoms_spec (ws := wsX6_priceFor) B.pre
  have hown : s.vm.findClass RX6 = some m.cls := findClass_of_methodNamed B.named
  have hlocks := B.notSynchronized
  have hNB := mNB hI
  have hNS := mNS hI
  have hI0 := hI
  have iX6 : ∀ w ∈ wsX60, w ∈ wsX6_priceFor := by decide +kernel
  have hS : va_S (fun _ => False) s.heap s.heap [] := va_S.rf
  have hl := lv_entry ([.ref (q 0), .int a1, .int a2]) (n := 3) (Nat.le_of_ble_eq_true rfl)
  rw [lg_entry_eq]
  generalize (lg_sl ([.ref (q 0), .int a1, .int a2]) ++ List.replicate (3 - (lg_sl ([.ref (q 0), .int a1, .int a2])).length) Slot.unset).toArray = ls at hl ⊢
  have hl : lv_has ls 3 [(0, .ref (q 0)), (1, .int a1), (2, .int a2)] := hl
  generalize hF : F6_priceFor u a1 a2 = tgt
  refine lv_aload_n hx hb dX6_priceFor_0 rfl (lv_at hl 0 rfl) ?_
  refine lv_aload_n hx hb dX6_priceFor_1 rfl (lv_at hl 0 rfl) ?_
  refine lv_iload_n hx hb dX6_priceFor_2 rfl (lv_at hl 1 rfl) ?_
  refine lv_iconst (v := 0) hx hb dX6_priceFor_3 (by decide) ?_
  refine bcall_Ri (va_runV (As := [.int a1, .int 0]) (rest := [.ref (q 0)]) ⟨hx, hb, hml, hown, hts⟩ (C6_of l D cI q _ _ hP hI a1 0 (mXB (w := 0) h_a1 (by decide))) (cwV 2 hts gX6_priceFor_X6_of rfl rfl rfl ⟨rfl, bd_X6of⟩ ⟨Nat.le_of_ble_eq_true rfl, Nat.le_of_ble_eq_true rfl⟩) (bPV hk (va_recv hk.1 hP (ci := 6) (q0 := 0) rfl (wM_0 _ _ _))) rfl rfl hl.1 rfl (lv_room (Nat.le_of_ble_eq_true rfl)) dX6_priceFor_4 ⟨Nat.zero_le _, Nat.zero_le _⟩) hS (fun locs hS => ?_)
  refine lv_iload_n hx hb dX6_priceFor_7 rfl (lv_at hl 2 rfl) ?_
  refine bcall_Ri (va_runV (As := [.int (F6_of u a1 0), .int a2]) (rest := []) ⟨hx, hb, hml, hown, hts⟩ (C6_depositsFor l D cI q _ _ hP hI (F6_of u a1 0) a2 (mK_of hI0 h_a1)) (cwV 2 hts gX6_priceFor_X6_depositsFor rfl rfl rfl ⟨rfl, bd_X6depositsFor⟩ ⟨Nat.le_of_ble_eq_true rfl, Nat.le_of_ble_eq_true rfl⟩) (bPV hk (va_recv hk.1 hP (ci := 6) (q0 := 0) rfl (wM_0 _ _ _))) rfl rfl hl.1 rfl (lv_room (Nat.le_of_ble_eq_true rfl)) dX6_priceFor_8 ⟨Nat.zero_le _, Nat.zero_le _⟩) hS (fun locs hS => ?_)
  refine lv_iload_n hx hb dX6_priceFor_11 rfl (lv_at hl 2 rfl) ?_
  refine lv_aload_n hx hb dX6_priceFor_12 rfl (lv_at hl 0 rfl) ?_
  refine va_get (D := D) (ci := 6) (C := RX6) (T := TX6) (N := 16) hx hb hts iX6 hown hk.1 hP 0 (wM_0 _ _ _) rfl 0 (by decide) (hts (.fieldLink RX6 7 "BottleLoopModel" "v" "[I") (List.mem_of_getElem? (i := 1) rfl)) (fun _ h9 => h9) rfl dX6_priceFor_13 ?_
  refine lv_bipush (v := 11) hx hb dX6_priceFor_16 (by decide) ?_
  refine va_iald hx hb hk.1 hP 1 0 (wM_1 _ _ _) rfl (vp_in_nI (n := 11) (by decide) (by decide)) dX6_priceFor_18 ?_
  refine lv_topi (fun z9 hz9 => ?_)
  obtain rfl : z9 = (u 0 11) := hz9.trans rfl
  refine lv_imul hx hb dX6_priceFor_19 ?_
  refine lv_iadd hx hb dX6_priceFor_20 ?_
  exact bret_Ri hx hb hr hS hlocks dX6_priceFor_21 (by rw [← hF, F6_priceFor])
def F6_againstDeliver (u : bU) (a1 : Int32) (a2 : Int32) (a3 : Int32) : Int32 := (if (12 * a3) ≤ (F6_of u a1 2) then (if a3 ≤ (u 0 2) then (if (F6_priceFor u a1 a3) ≤ (F6_ofShop u a2 0) then 0 else 3) else 2) else 1)
set_option maxHeartbeats 4000000 in
set_option maxRecDepth 100000 in
theorem C6_againstDeliver (l : Launch) (D : va_G) (cI : ClassId) (q : Nat → Nat) (u : bU) (H0 : Heap) (hP : va_P D vwCl (wM cI q u) H0) (hI : mInv u) (a1 : Int32) (a2 : Int32) (a3 : Int32) (h_a1 : mB a1) (h_a2 : mS a2) : Met l yX6_againstDeliver wsX6_againstDeliver ({ frames := 3, cells := 0, slots := 0, locals := 65 }) (bP D [(cI, .int)] H0 [.ref (q 0), .int a1, .int a2, .int a3]) (bRi H0 (F6_againstDeliver u a1 a2 a3)) 0 0 (fun _ => False) := by
  refine Met.ofW (cc := cX6_againstDeliver) (maxL := 4) (ret := (some .int)) (by decide) rfl ?_
  intro p e s m args below meth c s₁ B hml hv
  obtain ⟨rfl, hH, hk⟩ := hv
  subst hH
  have hx := B.exec
  have hb := B.bytes
  have hr := B.returns
  have hts := atoms_spec (ws := wsX6_againstDeliver) B.pre
  have hown : s.vm.findClass RX6 = some m.cls := findClass_of_methodNamed B.named
  have hlocks := B.notSynchronized
  have hNB := mNB hI
  have hNS := mNS hI
  have hI0 := hI
  have iX6 : ∀ w ∈ wsX60, w ∈ wsX6_againstDeliver := by decide +kernel
  have hS : va_S (fun _ => False) s.heap s.heap [] := va_S.rf
  have hl := lv_entry ([.ref (q 0), .int a1, .int a2, .int a3]) (n := 4) (Nat.le_of_ble_eq_true rfl)
  rw [lg_entry_eq]
  generalize (lg_sl ([.ref (q 0), .int a1, .int a2, .int a3]) ++ List.replicate (4 - (lg_sl ([.ref (q 0), .int a1, .int a2, .int a3])).length) Slot.unset).toArray = ls at hl ⊢
  have hl : lv_has ls 4 [(0, .ref (q 0)), (1, .int a1), (2, .int a2), (3, .int a3)] := hl
  generalize hF : F6_againstDeliver u a1 a2 a3 = tgt
  refine lv_aload_n hx hb dX6_againstDeliver_0 rfl (lv_at hl 0 rfl) ?_
  refine lv_iload_n hx hb dX6_againstDeliver_1 rfl (lv_at hl 1 rfl) ?_
  refine lv_iconst (v := 2) hx hb dX6_againstDeliver_2 (by decide) ?_
  refine bcall_Ri (va_runV (As := [.int a1, .int 2]) (rest := []) ⟨hx, hb, hml, hown, hts⟩ (C6_of l D cI q _ _ hP hI a1 2 (mXB (w := 2) h_a1 (by decide))) (cwV 2 hts gX6_againstDeliver_X6_of rfl rfl rfl ⟨rfl, bd_X6of⟩ ⟨Nat.le_of_ble_eq_true rfl, Nat.le_of_ble_eq_true rfl⟩) (bPV hk (va_recv hk.1 hP (ci := 6) (q0 := 0) rfl (wM_0 _ _ _))) rfl rfl hl.1 rfl (lv_room (Nat.le_of_ble_eq_true rfl)) dX6_againstDeliver_3 ⟨Nat.zero_le _, Nat.zero_le _⟩) hS (fun locs hS => ?_)
  refine lv_bipush (v := 12) hx hb dX6_againstDeliver_6 (by decide) ?_
  refine lv_iload_n hx hb dX6_againstDeliver_8 rfl (lv_at hl 3 rfl) ?_
  refine lv_imul hx hb dX6_againstDeliver_9 ?_
  refine lv_icmp_ge (tgt := 17) hx hb dX6_againstDeliver_10 (by decide) (fun c_1 => ?_) (fun c_1 => ?_)
  · refine lv_aload_n hx hb dX6_againstDeliver_17 rfl (lv_at hl 0 rfl) ?_
    refine va_get (D := D) (ci := 6) (C := RX6) (T := TX6) (N := 16) hx hb hts iX6 hown hk.1 hP 0 (wM_0 _ _ _) rfl 0 (by decide) (hts (.fieldLink RX6 7 "BottleLoopModel" "v" "[I") (List.mem_of_getElem? (i := 1) rfl)) (fun _ h9 => h9) rfl dX6_againstDeliver_18 ?_
    refine lv_iconst (v := 2) hx hb dX6_againstDeliver_21 (by decide) ?_
    refine va_iald hx hb hk.1 hP 1 0 (wM_1 _ _ _) rfl (vp_in_nI (n := 2) (by decide) (by decide)) dX6_againstDeliver_22 ?_
    refine lv_topi (fun z9 hz9 => ?_)
    obtain rfl : z9 = (u 0 2) := hz9.trans rfl
    refine lv_iload_n hx hb dX6_againstDeliver_23 rfl (lv_at hl 3 rfl) ?_
    refine lv_icmp_ge (tgt := 31) hx hb dX6_againstDeliver_24 (by decide) (fun c_2 => ?_) (fun c_2 => ?_)
    · refine lv_aload_n hx hb dX6_againstDeliver_31 rfl (lv_at hl 0 rfl) ?_
      refine lv_iload_n hx hb dX6_againstDeliver_32 rfl (lv_at hl 2 rfl) ?_
      refine lv_iconst (v := 0) hx hb dX6_againstDeliver_33 (by decide) ?_
      refine bcall_Ri (va_runV (As := [.int a2, .int 0]) (rest := []) ⟨hx, hb, hml, hown, hts⟩ (C6_ofShop l D cI q _ _ hP hI a2 0 (mXS (w := 0) h_a2 (by decide))) (cwV 2 hts gX6_againstDeliver_X6_ofShop rfl rfl rfl ⟨rfl, bd_X6ofShop⟩ ⟨Nat.le_of_ble_eq_true rfl, Nat.le_of_ble_eq_true rfl⟩) (bPV hk (va_recv hk.1 hP (ci := 6) (q0 := 0) rfl (wM_0 _ _ _))) rfl rfl hl.1 rfl (lv_room (Nat.le_of_ble_eq_true rfl)) dX6_againstDeliver_34 ⟨Nat.zero_le _, Nat.zero_le _⟩) hS (fun locs hS => ?_)
      refine lv_aload_n hx hb dX6_againstDeliver_37 rfl (lv_at hl 0 rfl) ?_
      refine lv_iload_n hx hb dX6_againstDeliver_38 rfl (lv_at hl 1 rfl) ?_
      refine lv_iload_n hx hb dX6_againstDeliver_39 rfl (lv_at hl 3 rfl) ?_
      refine bcall_Ri (va_runV (As := [.int a1, .int a3]) (rest := [.int (F6_ofShop u a2 0)]) ⟨hx, hb, hml, hown, hts⟩ (C6_priceFor l D cI q _ _ hP hI a1 a3 h_a1) (cwV 2 hts gX6_againstDeliver_X6_priceFor rfl rfl rfl ⟨rfl, bd_X6priceFor⟩ ⟨Nat.le_of_ble_eq_true rfl, Nat.le_of_ble_eq_true rfl⟩) (bPV hk (va_recv hk.1 hP (ci := 6) (q0 := 0) rfl (wM_0 _ _ _))) rfl rfl hl.1 rfl (lv_room (Nat.le_of_ble_eq_true rfl)) dX6_againstDeliver_40 ⟨Nat.zero_le _, Nat.zero_le _⟩) hS (fun locs hS => ?_)
      refine lv_icmp_ge (tgt := 50) hx hb dX6_againstDeliver_43 (by decide) (fun c_3 => ?_) (fun c_3 => ?_)
      · refine lv_iconst (v := 0) hx hb dX6_againstDeliver_50 (by decide) ?_
        exact bret_Ri hx hb hr hS hlocks dX6_againstDeliver_51 (by rw [← hF, F6_againstDeliver, if_pos c_1, if_pos c_2, if_pos c_3])
      · refine lv_iconst (v := 3) hx hb dX6_againstDeliver_46 (by decide) ?_
        refine lv_goto (tgt := 51) hx hb dX6_againstDeliver_47 (by decide) ?_
        exact bret_Ri hx hb hr hS hlocks dX6_againstDeliver_51 (by rw [← hF, F6_againstDeliver, if_pos c_1, if_pos c_2, if_neg c_3])
    · refine lv_iconst (v := 2) hx hb dX6_againstDeliver_27 (by decide) ?_
      refine lv_goto (tgt := 51) hx hb dX6_againstDeliver_28 (by decide) ?_
      exact bret_Ri hx hb hr hS hlocks dX6_againstDeliver_51 (by rw [← hF, F6_againstDeliver, if_pos c_1, if_neg c_2])
  · refine lv_iconst (v := 1) hx hb dX6_againstDeliver_13 (by decide) ?_
    refine lv_goto (tgt := 51) hx hb dX6_againstDeliver_14 (by decide) ?_
    exact bret_Ri hx hb hr hS hlocks dX6_againstDeliver_51 (by rw [← hF, F6_againstDeliver, if_neg c_1])
def F6_againstSell (u : bU) (a1 : Int32) (a2 : Int32) (a3 : Int32) : Int32 := (if a3 ≤ (F6_ofShop u a1 (5 + a2)) then 0 else 1)
set_option maxHeartbeats 4000000 in
set_option maxRecDepth 100000 in
theorem C6_againstSell (l : Launch) (D : va_G) (cI : ClassId) (q : Nat → Nat) (u : bU) (H0 : Heap) (hP : va_P D vwCl (wM cI q u) H0) (hI : mInv u) (a1 : Int32) (a2 : Int32) (a3 : Int32) (h_a1 : mS a1) (h_a2 : mB a2) : Met l yX6_againstSell wsX6_againstSell ({ frames := 2, cells := 0, slots := 0, locals := 43 }) (bP D [(cI, .int)] H0 [.ref (q 0), .int a1, .int a2, .int a3]) (bRi H0 (F6_againstSell u a1 a2 a3)) 0 0 (fun _ => False) := by
  refine Met.ofW (cc := cX6_againstSell) (maxL := 4) (ret := (some .int)) (by decide) rfl ?_
  intro p e s m args below meth c s₁ B hml hv
  obtain ⟨rfl, hH, hk⟩ := hv
  subst hH
  have hx := B.exec
  have hb := B.bytes
  have hr := B.returns
  have hts := atoms_spec (ws := wsX6_againstSell) B.pre
  have hown : s.vm.findClass RX6 = some m.cls := findClass_of_methodNamed B.named
  have hlocks := B.notSynchronized
  have hNB := mNB hI
  have hNS := mNS hI
  have hI0 := hI
  have hS : va_S (fun _ => False) s.heap s.heap [] := va_S.rf
  have hl := lv_entry ([.ref (q 0), .int a1, .int a2, .int a3]) (n := 4) (Nat.le_of_ble_eq_true rfl)
  rw [lg_entry_eq]
  generalize (lg_sl ([.ref (q 0), .int a1, .int a2, .int a3]) ++ List.replicate (4 - (lg_sl ([.ref (q 0), .int a1, .int a2, .int a3])).length) Slot.unset).toArray = ls at hl ⊢
  have hl : lv_has ls 4 [(0, .ref (q 0)), (1, .int a1), (2, .int a2), (3, .int a3)] := hl
  generalize hF : F6_againstSell u a1 a2 a3 = tgt
  refine lv_aload_n hx hb dX6_againstSell_0 rfl (lv_at hl 0 rfl) ?_
  refine lv_iload_n hx hb dX6_againstSell_1 rfl (lv_at hl 1 rfl) ?_
  refine lv_iconst (v := 5) hx hb dX6_againstSell_2 (by decide) ?_
  refine lv_iload_n hx hb dX6_againstSell_3 rfl (lv_at hl 2 rfl) ?_
  refine lv_iadd hx hb dX6_againstSell_4 ?_
  refine bcall_Ri (va_runV (As := [.int a1, .int (5 + a2)]) (rest := []) ⟨hx, hb, hml, hown, hts⟩ (C6_ofShop l D cI q _ _ hP hI a1 (5 + a2) (mXS2 (w := 5) h_a1 h_a2 (by decide))) (cwV 2 hts gX6_againstSell_X6_ofShop rfl rfl rfl ⟨rfl, bd_X6ofShop⟩ ⟨Nat.le_of_ble_eq_true rfl, Nat.le_of_ble_eq_true rfl⟩) (bPV hk (va_recv hk.1 hP (ci := 6) (q0 := 0) rfl (wM_0 _ _ _))) rfl rfl hl.1 rfl (lv_room (Nat.le_of_ble_eq_true rfl)) dX6_againstSell_5 ⟨Nat.zero_le _, Nat.zero_le _⟩) hS (fun locs hS => ?_)
  refine lv_iload_n hx hb dX6_againstSell_8 rfl (lv_at hl 3 rfl) ?_
  refine lv_icmp_ge (tgt := 16) hx hb dX6_againstSell_9 (by decide) (fun c_1 => ?_) (fun c_1 => ?_)
  · refine lv_iconst (v := 0) hx hb dX6_againstSell_16 (by decide) ?_
    exact bret_Ri hx hb hr hS hlocks dX6_againstSell_17 (by rw [← hF, F6_againstSell, if_pos c_1])
  · refine lv_iconst (v := 1) hx hb dX6_againstSell_12 (by decide) ?_
    refine lv_goto (tgt := 17) hx hb dX6_againstSell_13 (by decide) ?_
    exact bret_Ri hx hb hr hS hlocks dX6_againstSell_17 (by rw [← hF, F6_againstSell, if_neg c_1])
def F6_againstTakeBack (u : bU) (a1 : Int32) (a2 : Int32) (a3 : Int32) : Int32 := (if a3 ≤ (F6_of u a2 3) then (if (a3 * (F6_deposit u a2)) ≤ (F6_ofShop u a1 0) then 0 else 3) else 1)
set_option maxHeartbeats 4000000 in
set_option maxRecDepth 100000 in
theorem C6_againstTakeBack (l : Launch) (D : va_G) (cI : ClassId) (q : Nat → Nat) (u : bU) (H0 : Heap) (hP : va_P D vwCl (wM cI q u) H0) (hI : mInv u) (a1 : Int32) (a2 : Int32) (a3 : Int32) (h_a1 : mS a1) (h_a2 : mB a2) : Met l yX6_againstTakeBack wsX6_againstTakeBack ({ frames := 3, cells := 0, slots := 0, locals := 64 }) (bP D [(cI, .int)] H0 [.ref (q 0), .int a1, .int a2, .int a3]) (bRi H0 (F6_againstTakeBack u a1 a2 a3)) 0 0 (fun _ => False) := by
  refine Met.ofW (cc := cX6_againstTakeBack) (maxL := 4) (ret := (some .int)) (by decide) rfl ?_
  intro p e s m args below meth c s₁ B hml hv
  obtain ⟨rfl, hH, hk⟩ := hv
  subst hH
  have hx := B.exec
  have hb := B.bytes
  have hr := B.returns
  have hts := atoms_spec (ws := wsX6_againstTakeBack) B.pre
  have hown : s.vm.findClass RX6 = some m.cls := findClass_of_methodNamed B.named
  have hlocks := B.notSynchronized
  have hNB := mNB hI
  have hNS := mNS hI
  have hI0 := hI
  have hS : va_S (fun _ => False) s.heap s.heap [] := va_S.rf
  have hl := lv_entry ([.ref (q 0), .int a1, .int a2, .int a3]) (n := 4) (Nat.le_of_ble_eq_true rfl)
  rw [lg_entry_eq]
  generalize (lg_sl ([.ref (q 0), .int a1, .int a2, .int a3]) ++ List.replicate (4 - (lg_sl ([.ref (q 0), .int a1, .int a2, .int a3])).length) Slot.unset).toArray = ls at hl ⊢
  have hl : lv_has ls 4 [(0, .ref (q 0)), (1, .int a1), (2, .int a2), (3, .int a3)] := hl
  generalize hF : F6_againstTakeBack u a1 a2 a3 = tgt
  refine lv_aload_n hx hb dX6_againstTakeBack_0 rfl (lv_at hl 0 rfl) ?_
  refine lv_iload_n hx hb dX6_againstTakeBack_1 rfl (lv_at hl 2 rfl) ?_
  refine lv_iconst (v := 3) hx hb dX6_againstTakeBack_2 (by decide) ?_
  refine bcall_Ri (va_runV (As := [.int a2, .int 3]) (rest := []) ⟨hx, hb, hml, hown, hts⟩ (C6_of l D cI q _ _ hP hI a2 3 (mXB (w := 3) h_a2 (by decide))) (cwV 2 hts gX6_againstTakeBack_X6_of rfl rfl rfl ⟨rfl, bd_X6of⟩ ⟨Nat.le_of_ble_eq_true rfl, Nat.le_of_ble_eq_true rfl⟩) (bPV hk (va_recv hk.1 hP (ci := 6) (q0 := 0) rfl (wM_0 _ _ _))) rfl rfl hl.1 rfl (lv_room (Nat.le_of_ble_eq_true rfl)) dX6_againstTakeBack_3 ⟨Nat.zero_le _, Nat.zero_le _⟩) hS (fun locs hS => ?_)
  refine lv_iload_n hx hb dX6_againstTakeBack_6 rfl (lv_at hl 3 rfl) ?_
  refine lv_icmp_ge (tgt := 14) hx hb dX6_againstTakeBack_7 (by decide) (fun c_1 => ?_) (fun c_1 => ?_)
  · refine lv_aload_n hx hb dX6_againstTakeBack_14 rfl (lv_at hl 0 rfl) ?_
    refine lv_iload_n hx hb dX6_againstTakeBack_15 rfl (lv_at hl 1 rfl) ?_
    refine lv_iconst (v := 0) hx hb dX6_againstTakeBack_16 (by decide) ?_
    refine bcall_Ri (va_runV (As := [.int a1, .int 0]) (rest := []) ⟨hx, hb, hml, hown, hts⟩ (C6_ofShop l D cI q _ _ hP hI a1 0 (mXS (w := 0) h_a1 (by decide))) (cwV 2 hts gX6_againstTakeBack_X6_ofShop rfl rfl rfl ⟨rfl, bd_X6ofShop⟩ ⟨Nat.le_of_ble_eq_true rfl, Nat.le_of_ble_eq_true rfl⟩) (bPV hk (va_recv hk.1 hP (ci := 6) (q0 := 0) rfl (wM_0 _ _ _))) rfl rfl hl.1 rfl (lv_room (Nat.le_of_ble_eq_true rfl)) dX6_againstTakeBack_17 ⟨Nat.zero_le _, Nat.zero_le _⟩) hS (fun locs hS => ?_)
    refine lv_iload_n hx hb dX6_againstTakeBack_20 rfl (lv_at hl 3 rfl) ?_
    refine lv_aload_n hx hb dX6_againstTakeBack_21 rfl (lv_at hl 0 rfl) ?_
    refine lv_iload_n hx hb dX6_againstTakeBack_22 rfl (lv_at hl 2 rfl) ?_
    refine bcall_Ri (va_runV (As := [.int a2]) (rest := [.int a3, .int (F6_ofShop u a1 0)]) ⟨hx, hb, hml, hown, hts⟩ (C6_deposit l D cI q _ _ hP hI a2 h_a2) (cwV 1 hts gX6_againstTakeBack_X6_deposit rfl rfl rfl ⟨rfl, bd_X6deposit⟩ ⟨Nat.le_of_ble_eq_true rfl, Nat.le_of_ble_eq_true rfl⟩) (bPV hk (va_recv hk.1 hP (ci := 6) (q0 := 0) rfl (wM_0 _ _ _))) rfl rfl hl.1 rfl (lv_room (Nat.le_of_ble_eq_true rfl)) dX6_againstTakeBack_23 ⟨Nat.zero_le _, Nat.zero_le _⟩) hS (fun locs hS => ?_)
    refine lv_imul hx hb dX6_againstTakeBack_26 ?_
    refine lv_icmp_ge (tgt := 34) hx hb dX6_againstTakeBack_27 (by decide) (fun c_2 => ?_) (fun c_2 => ?_)
    · refine lv_iconst (v := 0) hx hb dX6_againstTakeBack_34 (by decide) ?_
      exact bret_Ri hx hb hr hS hlocks dX6_againstTakeBack_35 (by rw [← hF, F6_againstTakeBack, if_pos c_1, if_pos c_2])
    · refine lv_iconst (v := 3) hx hb dX6_againstTakeBack_30 (by decide) ?_
      refine lv_goto (tgt := 35) hx hb dX6_againstTakeBack_31 (by decide) ?_
      exact bret_Ri hx hb hr hS hlocks dX6_againstTakeBack_35 (by rw [← hF, F6_againstTakeBack, if_pos c_1, if_neg c_2])
  · refine lv_iconst (v := 1) hx hb dX6_againstTakeBack_10 (by decide) ?_
    refine lv_goto (tgt := 35) hx hb dX6_againstTakeBack_11 (by decide) ?_
    exact bret_Ri hx hb hr hS hlocks dX6_againstTakeBack_35 (by rw [← hF, F6_againstTakeBack, if_neg c_1])
def F6_againstBreak (u : bU) (a1 : Int32) (a2 : Int32) (a3 : Int32) : Int32 := (if a3 ≤ (F6_ofShop u a1 (13 + a2)) then 0 else 1)
set_option maxHeartbeats 4000000 in
set_option maxRecDepth 100000 in
theorem C6_againstBreak (l : Launch) (D : va_G) (cI : ClassId) (q : Nat → Nat) (u : bU) (H0 : Heap) (hP : va_P D vwCl (wM cI q u) H0) (hI : mInv u) (a1 : Int32) (a2 : Int32) (a3 : Int32) (h_a1 : mS a1) (h_a2 : mB a2) : Met l yX6_againstBreak wsX6_againstBreak ({ frames := 2, cells := 0, slots := 0, locals := 43 }) (bP D [(cI, .int)] H0 [.ref (q 0), .int a1, .int a2, .int a3]) (bRi H0 (F6_againstBreak u a1 a2 a3)) 0 0 (fun _ => False) := by
  refine Met.ofW (cc := cX6_againstBreak) (maxL := 4) (ret := (some .int)) (by decide) rfl ?_
  intro p e s m args below meth c s₁ B hml hv
  obtain ⟨rfl, hH, hk⟩ := hv
  subst hH
  have hx := B.exec
  have hb := B.bytes
  have hr := B.returns
  have hts := atoms_spec (ws := wsX6_againstBreak) B.pre
  have hown : s.vm.findClass RX6 = some m.cls := findClass_of_methodNamed B.named
  have hlocks := B.notSynchronized
  have hNB := mNB hI
  have hNS := mNS hI
  have hI0 := hI
  have hS : va_S (fun _ => False) s.heap s.heap [] := va_S.rf
  have hl := lv_entry ([.ref (q 0), .int a1, .int a2, .int a3]) (n := 4) (Nat.le_of_ble_eq_true rfl)
  rw [lg_entry_eq]
  generalize (lg_sl ([.ref (q 0), .int a1, .int a2, .int a3]) ++ List.replicate (4 - (lg_sl ([.ref (q 0), .int a1, .int a2, .int a3])).length) Slot.unset).toArray = ls at hl ⊢
  have hl : lv_has ls 4 [(0, .ref (q 0)), (1, .int a1), (2, .int a2), (3, .int a3)] := hl
  generalize hF : F6_againstBreak u a1 a2 a3 = tgt
  refine lv_aload_n hx hb dX6_againstBreak_0 rfl (lv_at hl 0 rfl) ?_
  refine lv_iload_n hx hb dX6_againstBreak_1 rfl (lv_at hl 1 rfl) ?_
  refine lv_bipush (v := 13) hx hb dX6_againstBreak_2 (by decide) ?_
  refine lv_iload_n hx hb dX6_againstBreak_4 rfl (lv_at hl 2 rfl) ?_
  refine lv_iadd hx hb dX6_againstBreak_5 ?_
  refine bcall_Ri (va_runV (As := [.int a1, .int (13 + a2)]) (rest := []) ⟨hx, hb, hml, hown, hts⟩ (C6_ofShop l D cI q _ _ hP hI a1 (13 + a2) (mXS2 (w := 13) h_a1 h_a2 (by decide))) (cwV 2 hts gX6_againstBreak_X6_ofShop rfl rfl rfl ⟨rfl, bd_X6ofShop⟩ ⟨Nat.le_of_ble_eq_true rfl, Nat.le_of_ble_eq_true rfl⟩) (bPV hk (va_recv hk.1 hP (ci := 6) (q0 := 0) rfl (wM_0 _ _ _))) rfl rfl hl.1 rfl (lv_room (Nat.le_of_ble_eq_true rfl)) dX6_againstBreak_6 ⟨Nat.zero_le _, Nat.zero_le _⟩) hS (fun locs hS => ?_)
  refine lv_iload_n hx hb dX6_againstBreak_9 rfl (lv_at hl 3 rfl) ?_
  refine lv_icmp_ge (tgt := 17) hx hb dX6_againstBreak_10 (by decide) (fun c_1 => ?_) (fun c_1 => ?_)
  · refine lv_iconst (v := 0) hx hb dX6_againstBreak_17 (by decide) ?_
    exact bret_Ri hx hb hr hS hlocks dX6_againstBreak_18 (by rw [← hF, F6_againstBreak, if_pos c_1])
  · refine lv_iconst (v := 1) hx hb dX6_againstBreak_13 (by decide) ?_
    refine lv_goto (tgt := 18) hx hb dX6_againstBreak_14 (by decide) ?_
    exact bret_Ri hx hb hr hS hlocks dX6_againstBreak_18 (by rw [← hF, F6_againstBreak, if_neg c_1])
def L6_emptiesOf_5 (u : bU) (a1 : Int32) (a2 : Int32) : Nat → Nat → Int32 → Int32
  | 0, _, x3_5 => x3_5
  | n5 + 1, j5, x3_5 => (if (u 0 0) ≤ (nI j5) then x3_5 else (if (F6_of u (nI j5) 0) = a2 then (L6_emptiesOf_5 u a1 a2 n5 (j5 + 1) (x3_5 + (F6_ofShop u a1 (13 + (nI j5))))) else (L6_emptiesOf_5 u a1 a2 n5 (j5 + 1) (x3_5 + 0))))
def F6_emptiesOf (u : bU) (a1 : Int32) (a2 : Int32) : Int32 := (L6_emptiesOf_5 u a1 a2 ((u 0 0).toNatClampNeg + 1) 0 0)
set_option maxHeartbeats 4000000 in
set_option maxRecDepth 100000 in
theorem C6_emptiesOf (l : Launch) (D : va_G) (cI : ClassId) (q : Nat → Nat) (u : bU) (H0 : Heap) (hP : va_P D vwCl (wM cI q u) H0) (hI : mInv u) (a1 : Int32) (a2 : Int32) (h_a1 : mS a1) : Met l yX6_emptiesOf wsX6_emptiesOf ({ frames := 2, cells := 0, slots := 0, locals := 43 }) (bP D [(cI, .int)] H0 [.ref (q 0), .int a1, .int a2]) (bRi H0 (F6_emptiesOf u a1 a2)) 0 0 (fun _ => False) := by
  refine Met.ofW (cc := cX6_emptiesOf) (maxL := 5) (ret := (some .int)) (by decide) rfl ?_
  intro p e s m args below meth c s₁ B hml hv
  obtain ⟨rfl, hH, hk⟩ := hv
  subst hH
  have hx := B.exec
  have hb := B.bytes
  have hr := B.returns
  have hts := atoms_spec (ws := wsX6_emptiesOf) B.pre
  have hown : s.vm.findClass RX6 = some m.cls := findClass_of_methodNamed B.named
  have hlocks := B.notSynchronized
  have hNB := mNB hI
  have hNS := mNS hI
  have hI0 := hI
  have iX6 : ∀ w ∈ wsX60, w ∈ wsX6_emptiesOf := by decide +kernel
  have hS : va_S (fun _ => False) s.heap s.heap [] := va_S.rf
  have hl := lv_entry ([.ref (q 0), .int a1, .int a2]) (n := 5) (Nat.le_of_ble_eq_true rfl)
  rw [lg_entry_eq]
  generalize (lg_sl ([.ref (q 0), .int a1, .int a2]) ++ List.replicate (5 - (lg_sl ([.ref (q 0), .int a1, .int a2])).length) Slot.unset).toArray = ls at hl ⊢
  have hl : lv_has ls 5 [(0, .ref (q 0)), (1, .int a1), (2, .int a2)] := hl
  generalize hF : F6_emptiesOf u a1 a2 = tgt
  refine lv_iconst (v := 0) hx hb dX6_emptiesOf_0 (by decide) ?_
  refine lv_istore_n (lv' := [(3, .int 0), (0, .ref (q 0)), (1, .int a1), (2, .int a2)]) hx hb dX6_emptiesOf_1 rfl hl (by decide) rfl (fun ls hl => ?_)
  refine lv_iconst (v := 0) hx hb dX6_emptiesOf_2 (by decide) ?_
  refine lv_istore (lv' := [(4, .int 0), (3, .int 0), (0, .ref (q 0)), (1, .int a1), (2, .int a2)]) hx hb dX6_emptiesOf_3 hl (by decide) rfl (fun ls hl => ?_)
  have hB5 := bClamp (u 0 0)
  have loop5 : ∀ (n5 j5 : Nat) (x3_5 : Int32) (locs : List Loc) (ls : Array Slot), j5 ≤ (u 0 0).toNatClampNeg → (u 0 0).toNatClampNeg + 1 ≤ n5 + j5 → lv_has ls 5 [(0, .ref (q 0)), (1, .int a1), (2, .int a2), (3, .int x3_5), (4, .int (nI j5))] → va_S (fun _ => False) s.heap s.heap locs → ∀ X : Int32, L6_emptiesOf_5 u a1 a2  n5 j5 x3_5 = X → (∀ (locs : List Loc) (ls : Array Slot), lv_has ls 5 [(0, .ref (q 0)), (1, .int a1), (2, .int a2), (3, .int X)] → va_S (fun _ => False) s.heap s.heap locs → W p l e (headSpec wsX6_emptiesOf ({ frames := 2, cells := 0, slots := 0, locals := 43 })).room s m ([.ref (q 0), .int a1, .int a2] : List Value).toArray below meth c s.heap locs 0 0 (MQ below (bRi s.heap tgt) ([.ref (q 0), .int a1, .int a2] : List Value).toArray s 0 0 (fun _ => False)) (F0 m 50 ls [])) → W p l e (headSpec wsX6_emptiesOf ({ frames := 2, cells := 0, slots := 0, locals := 43 })).room s m ([.ref (q 0), .int a1, .int a2] : List Value).toArray below meth c s.heap locs 0 0 (MQ below (bRi s.heap tgt) ([.ref (q 0), .int a1, .int a2] : List Value).toArray s 0 0 (fun _ => False)) (F0 m 5 ls []) := by
    intro n5
    induction n5 with
    | zero => intro j5 x3_5 locs ls hj hn; exact absurd hn (by omega)
    | succ n5 ih =>
      intro j5 x3_5 locs ls hj hn hl hS X hF kx
      refine lv_iload hx hb dX6_emptiesOf_5 (lv_at hl 4 rfl) ?_
      refine lv_aload_n hx hb dX6_emptiesOf_7 rfl (lv_at hl 0 rfl) ?_
      refine va_get (D := D) (ci := 6) (C := RX6) (T := TX6) (N := 16) hx hb hts iX6 hown hk.1 hP 0 (wM_0 _ _ _) rfl 0 (by decide) (hts (.fieldLink RX6 7 "BottleLoopModel" "v" "[I") (List.mem_of_getElem? (i := 1) rfl)) (fun _ h9 => h9) rfl dX6_emptiesOf_8 ?_
      refine lv_iconst (v := 0) hx hb dX6_emptiesOf_11 (by decide) ?_
      refine va_iald hx hb hk.1 hP 1 0 (wM_1 _ _ _) rfl (vp_in_nI (n := 0) (by decide) (by decide)) dX6_emptiesOf_12 ?_
      refine lv_topi (fun z9 hz9 => ?_)
      obtain rfl : z9 = (u 0 0) := hz9.trans rfl
      refine lv_icmp_ge (tgt := 50) hx hb dX6_emptiesOf_13 (by decide) (fun c_1 => ?_) (fun c_1 => ?_)
      · obtain rfl : X = x3_5 := by rw [← hF, L6_emptiesOf_5, if_pos c_1]
        exact kx _ _ (lv_sub hl [0, 1, 2, 3] rfl) hS
      · have hlt_2 : j5 < (u 0 0).toNatClampNeg := bLtB c_1 (by omega)
        refine lv_iload_n hx hb dX6_emptiesOf_16 rfl (lv_at hl 3 rfl) ?_
        refine lv_aload_n hx hb dX6_emptiesOf_17 rfl (lv_at hl 0 rfl) ?_
        refine lv_iload hx hb dX6_emptiesOf_18 (lv_at hl 4 rfl) ?_
        refine lv_iconst (v := 0) hx hb dX6_emptiesOf_20 (by decide) ?_
        refine bcall_Ri (va_runV (As := [.int (nI j5), .int 0]) (rest := [.int x3_5]) ⟨hx, hb, hml, hown, hts⟩ (C6_of l D cI q _ _ hP hI (nI j5) 0 (mXB (w := 0) (mB_nI (by omega)) (by decide))) (cwV 2 hts gX6_emptiesOf_X6_of rfl rfl rfl ⟨rfl, bd_X6of⟩ ⟨Nat.le_of_ble_eq_true rfl, Nat.le_of_ble_eq_true rfl⟩) (bPV hk (va_recv hk.1 hP (ci := 6) (q0 := 0) rfl (wM_0 _ _ _))) rfl rfl hl.1 rfl (lv_room (Nat.le_of_ble_eq_true rfl)) dX6_emptiesOf_21 ⟨Nat.zero_le _, Nat.zero_le _⟩) hS (fun locs hS => ?_)
        refine lv_iload_n hx hb dX6_emptiesOf_24 rfl (lv_at hl 2 rfl) ?_
        refine lv_icmp_ne (tgt := 41) hx hb dX6_emptiesOf_25 (by decide) (fun c_3 => ?_) (fun c_3 => ?_)
        · refine lv_iconst (v := 0) hx hb dX6_emptiesOf_41 (by decide) ?_
          refine lv_iadd hx hb dX6_emptiesOf_42 ?_
          refine lv_istore_n (lv' := [(3, .int (x3_5 + 0)), (0, .ref (q 0)), (1, .int a1), (2, .int a2), (4, .int (nI j5))]) hx hb dX6_emptiesOf_43 rfl hl (by decide) rfl (fun ls hl => ?_)
          refine lv_iinc (v := (nI (j5 + 1))) (lv' := [(4, .int (nI (j5 + 1))), (3, .int (x3_5 + 0)), (0, .ref (q 0)), (1, .int a1), (2, .int a2)]) hx hb dX6_emptiesOf_44 hl (k := 4) rfl (bInc j5) (by decide) rfl (fun ls hl => ?_)
          refine lv_goto (tgt := 5) hx hb dX6_emptiesOf_47 (by decide) ?_
          exact ih (j5 + 1) (x3_5 + 0) _ _ (by omega) (by omega) (lv_sub hl [2, 3, 4, 1, 0] rfl) hS X (by rw [← hF, L6_emptiesOf_5, if_neg c_1, if_neg c_3]) kx
        · refine lv_aload_n hx hb dX6_emptiesOf_28 rfl (lv_at hl 0 rfl) ?_
          refine lv_iload_n hx hb dX6_emptiesOf_29 rfl (lv_at hl 1 rfl) ?_
          refine lv_bipush (v := 13) hx hb dX6_emptiesOf_30 (by decide) ?_
          refine lv_iload hx hb dX6_emptiesOf_32 (lv_at hl 4 rfl) ?_
          refine lv_iadd hx hb dX6_emptiesOf_34 ?_
          refine bcall_Ri (va_runV (As := [.int a1, .int (13 + (nI j5))]) (rest := [.int x3_5]) ⟨hx, hb, hml, hown, hts⟩ (C6_ofShop l D cI q _ _ hP hI a1 (13 + (nI j5)) (mXS2 (w := 13) h_a1 (mB_nI (by omega)) (by decide))) (cwV 2 hts gX6_emptiesOf_X6_ofShop rfl rfl rfl ⟨rfl, bd_X6ofShop⟩ ⟨Nat.le_of_ble_eq_true rfl, Nat.le_of_ble_eq_true rfl⟩) (bPV hk (va_recv hk.1 hP (ci := 6) (q0 := 0) rfl (wM_0 _ _ _))) rfl rfl hl.1 rfl (lv_room (Nat.le_of_ble_eq_true rfl)) dX6_emptiesOf_35 ⟨Nat.zero_le _, Nat.zero_le _⟩) hS (fun locs hS => ?_)
          refine lv_goto (tgt := 42) hx hb dX6_emptiesOf_38 (by decide) ?_
          refine lv_iadd hx hb dX6_emptiesOf_42 ?_
          refine lv_istore_n (lv' := [(3, .int (x3_5 + (F6_ofShop u a1 (13 + (nI j5))))), (0, .ref (q 0)), (1, .int a1), (2, .int a2), (4, .int (nI j5))]) hx hb dX6_emptiesOf_43 rfl hl (by decide) rfl (fun ls hl => ?_)
          refine lv_iinc (v := (nI (j5 + 1))) (lv' := [(4, .int (nI (j5 + 1))), (3, .int (x3_5 + (F6_ofShop u a1 (13 + (nI j5))))), (0, .ref (q 0)), (1, .int a1), (2, .int a2)]) hx hb dX6_emptiesOf_44 hl (k := 4) rfl (bInc j5) (by decide) rfl (fun ls hl => ?_)
          refine lv_goto (tgt := 5) hx hb dX6_emptiesOf_47 (by decide) ?_
          exact ih (j5 + 1) (x3_5 + (F6_ofShop u a1 (13 + (nI j5)))) _ _ (by omega) (by omega) (lv_sub hl [2, 3, 4, 1, 0] rfl) hS X (by rw [← hF, L6_emptiesOf_5, if_neg c_1, if_pos c_3]) kx
  refine loop5 ((u 0 0).toNatClampNeg + 1) 0 0 _ _ (by omega) (by omega) (lv_sub hl [2, 3, 4, 1, 0] rfl) hS _ rfl (fun locs ls hl hS => ?_)
  refine lv_iload_n hx hb dX6_emptiesOf_50 rfl (lv_at hl 3 rfl) ?_
  exact bret_Ri hx hb hr hS hlocks dX6_emptiesOf_51 (by rw [← hF, F6_emptiesOf])
def F6_againstCollect (u : bU) (a1 : Int32) (a2 : Int32) (a3 : Int32) : Int32 := (if (12 * a3) ≤ (F6_emptiesOf u a1 a2) then (if a3 ≤ (F6_ofShop u a1 1) then 0 else 2) else 1)
set_option maxHeartbeats 4000000 in
set_option maxRecDepth 100000 in
theorem C6_againstCollect (l : Launch) (D : va_G) (cI : ClassId) (q : Nat → Nat) (u : bU) (H0 : Heap) (hP : va_P D vwCl (wM cI q u) H0) (hI : mInv u) (a1 : Int32) (a2 : Int32) (a3 : Int32) (h_a1 : mS a1) : Met l yX6_againstCollect wsX6_againstCollect ({ frames := 3, cells := 0, slots := 0, locals := 67 }) (bP D [(cI, .int)] H0 [.ref (q 0), .int a1, .int a2, .int a3]) (bRi H0 (F6_againstCollect u a1 a2 a3)) 0 0 (fun _ => False) := by
  refine Met.ofW (cc := cX6_againstCollect) (maxL := 4) (ret := (some .int)) (by decide) rfl ?_
  intro p e s m args below meth c s₁ B hml hv
  obtain ⟨rfl, hH, hk⟩ := hv
  subst hH
  have hx := B.exec
  have hb := B.bytes
  have hr := B.returns
  have hts := atoms_spec (ws := wsX6_againstCollect) B.pre
  have hown : s.vm.findClass RX6 = some m.cls := findClass_of_methodNamed B.named
  have hlocks := B.notSynchronized
  have hNB := mNB hI
  have hNS := mNS hI
  have hI0 := hI
  have hS : va_S (fun _ => False) s.heap s.heap [] := va_S.rf
  have hl := lv_entry ([.ref (q 0), .int a1, .int a2, .int a3]) (n := 4) (Nat.le_of_ble_eq_true rfl)
  rw [lg_entry_eq]
  generalize (lg_sl ([.ref (q 0), .int a1, .int a2, .int a3]) ++ List.replicate (4 - (lg_sl ([.ref (q 0), .int a1, .int a2, .int a3])).length) Slot.unset).toArray = ls at hl ⊢
  have hl : lv_has ls 4 [(0, .ref (q 0)), (1, .int a1), (2, .int a2), (3, .int a3)] := hl
  generalize hF : F6_againstCollect u a1 a2 a3 = tgt
  refine lv_aload_n hx hb dX6_againstCollect_0 rfl (lv_at hl 0 rfl) ?_
  refine lv_iload_n hx hb dX6_againstCollect_1 rfl (lv_at hl 1 rfl) ?_
  refine lv_iload_n hx hb dX6_againstCollect_2 rfl (lv_at hl 2 rfl) ?_
  refine bcall_Ri (va_runV (As := [.int a1, .int a2]) (rest := []) ⟨hx, hb, hml, hown, hts⟩ (C6_emptiesOf l D cI q _ _ hP hI a1 a2 h_a1) (cwV 2 hts gX6_againstCollect_X6_emptiesOf rfl rfl rfl ⟨rfl, bd_X6emptiesOf⟩ ⟨Nat.le_of_ble_eq_true rfl, Nat.le_of_ble_eq_true rfl⟩) (bPV hk (va_recv hk.1 hP (ci := 6) (q0 := 0) rfl (wM_0 _ _ _))) rfl rfl hl.1 rfl (lv_room (Nat.le_of_ble_eq_true rfl)) dX6_againstCollect_3 ⟨Nat.zero_le _, Nat.zero_le _⟩) hS (fun locs hS => ?_)
  refine lv_bipush (v := 12) hx hb dX6_againstCollect_6 (by decide) ?_
  refine lv_iload_n hx hb dX6_againstCollect_8 rfl (lv_at hl 3 rfl) ?_
  refine lv_imul hx hb dX6_againstCollect_9 ?_
  refine lv_icmp_ge (tgt := 17) hx hb dX6_againstCollect_10 (by decide) (fun c_1 => ?_) (fun c_1 => ?_)
  · refine lv_aload_n hx hb dX6_againstCollect_17 rfl (lv_at hl 0 rfl) ?_
    refine lv_iload_n hx hb dX6_againstCollect_18 rfl (lv_at hl 1 rfl) ?_
    refine lv_iconst (v := 1) hx hb dX6_againstCollect_19 (by decide) ?_
    refine bcall_Ri (va_runV (As := [.int a1, .int 1]) (rest := []) ⟨hx, hb, hml, hown, hts⟩ (C6_ofShop l D cI q _ _ hP hI a1 1 (mXS (w := 1) h_a1 (by decide))) (cwV 2 hts gX6_againstCollect_X6_ofShop rfl rfl rfl ⟨rfl, bd_X6ofShop⟩ ⟨Nat.le_of_ble_eq_true rfl, Nat.le_of_ble_eq_true rfl⟩) (bPV hk (va_recv hk.1 hP (ci := 6) (q0 := 0) rfl (wM_0 _ _ _))) rfl rfl hl.1 rfl (lv_room (Nat.le_of_ble_eq_true rfl)) dX6_againstCollect_20 ⟨Nat.zero_le _, Nat.zero_le _⟩) hS (fun locs hS => ?_)
    refine lv_iload_n hx hb dX6_againstCollect_23 rfl (lv_at hl 3 rfl) ?_
    refine lv_icmp_ge (tgt := 31) hx hb dX6_againstCollect_24 (by decide) (fun c_2 => ?_) (fun c_2 => ?_)
    · refine lv_iconst (v := 0) hx hb dX6_againstCollect_31 (by decide) ?_
      exact bret_Ri hx hb hr hS hlocks dX6_againstCollect_32 (by rw [← hF, F6_againstCollect, if_pos c_1, if_pos c_2])
    · refine lv_iconst (v := 2) hx hb dX6_againstCollect_27 (by decide) ?_
      refine lv_goto (tgt := 32) hx hb dX6_againstCollect_28 (by decide) ?_
      exact bret_Ri hx hb hr hS hlocks dX6_againstCollect_32 (by rw [← hF, F6_againstCollect, if_pos c_1, if_neg c_2])
  · refine lv_iconst (v := 1) hx hb dX6_againstCollect_13 (by decide) ?_
    refine lv_goto (tgt := 32) hx hb dX6_againstCollect_14 (by decide) ?_
    exact bret_Ri hx hb hr hS hlocks dX6_againstCollect_32 (by rw [← hF, F6_againstCollect, if_neg c_1])
def L6_yardOf_4 (u : bU) (a1 : Int32) : Nat → Nat → Int32 → Int32
  | 0, _, x2_4 => x2_4
  | n4 + 1, j4, x2_4 => (if (u 0 0) ≤ (nI j4) then x2_4 else (if (F6_of u (nI j4) 0) = a1 then (L6_yardOf_4 u a1 n4 (j4 + 1) (x2_4 + (F6_of u (nI j4) 4))) else (L6_yardOf_4 u a1 n4 (j4 + 1) (x2_4 + 0))))
def F6_yardOf (u : bU) (a1 : Int32) : Int32 := (L6_yardOf_4 u a1 ((u 0 0).toNatClampNeg + 1) 0 0)
set_option maxHeartbeats 4000000 in
set_option maxRecDepth 100000 in
theorem C6_yardOf (l : Launch) (D : va_G) (cI : ClassId) (q : Nat → Nat) (u : bU) (H0 : Heap) (hP : va_P D vwCl (wM cI q u) H0) (hI : mInv u) (a1 : Int32) : Met l yX6_yardOf wsX6_yardOf ({ frames := 2, cells := 0, slots := 0, locals := 43 }) (bP D [(cI, .int)] H0 [.ref (q 0), .int a1]) (bRi H0 (F6_yardOf u a1)) 0 0 (fun _ => False) := by
  refine Met.ofW (cc := cX6_yardOf) (maxL := 4) (ret := (some .int)) (by decide) rfl ?_
  intro p e s m args below meth c s₁ B hml hv
  obtain ⟨rfl, hH, hk⟩ := hv
  subst hH
  have hx := B.exec
  have hb := B.bytes
  have hr := B.returns
  have hts := atoms_spec (ws := wsX6_yardOf) B.pre
  have hown : s.vm.findClass RX6 = some m.cls := findClass_of_methodNamed B.named
  have hlocks := B.notSynchronized
  have hNB := mNB hI
  have hNS := mNS hI
  have hI0 := hI
  have iX6 : ∀ w ∈ wsX60, w ∈ wsX6_yardOf := by decide +kernel
  have hS : va_S (fun _ => False) s.heap s.heap [] := va_S.rf
  have hl := lv_entry ([.ref (q 0), .int a1]) (n := 4) (Nat.le_of_ble_eq_true rfl)
  rw [lg_entry_eq]
  generalize (lg_sl ([.ref (q 0), .int a1]) ++ List.replicate (4 - (lg_sl ([.ref (q 0), .int a1])).length) Slot.unset).toArray = ls at hl ⊢
  have hl : lv_has ls 4 [(0, .ref (q 0)), (1, .int a1)] := hl
  generalize hF : F6_yardOf u a1 = tgt
  refine lv_iconst (v := 0) hx hb dX6_yardOf_0 (by decide) ?_
  refine lv_istore_n (lv' := [(2, .int 0), (0, .ref (q 0)), (1, .int a1)]) hx hb dX6_yardOf_1 rfl hl (by decide) rfl (fun ls hl => ?_)
  refine lv_iconst (v := 0) hx hb dX6_yardOf_2 (by decide) ?_
  refine lv_istore_n (lv' := [(3, .int 0), (2, .int 0), (0, .ref (q 0)), (1, .int a1)]) hx hb dX6_yardOf_3 rfl hl (by decide) rfl (fun ls hl => ?_)
  have hB4 := bClamp (u 0 0)
  have loop4 : ∀ (n4 j4 : Nat) (x2_4 : Int32) (locs : List Loc) (ls : Array Slot), j4 ≤ (u 0 0).toNatClampNeg → (u 0 0).toNatClampNeg + 1 ≤ n4 + j4 → lv_has ls 4 [(0, .ref (q 0)), (1, .int a1), (2, .int x2_4), (3, .int (nI j4))] → va_S (fun _ => False) s.heap s.heap locs → ∀ X : Int32, L6_yardOf_4 u a1  n4 j4 x2_4 = X → (∀ (locs : List Loc) (ls : Array Slot), lv_has ls 4 [(0, .ref (q 0)), (1, .int a1), (2, .int X)] → va_S (fun _ => False) s.heap s.heap locs → W p l e (headSpec wsX6_yardOf ({ frames := 2, cells := 0, slots := 0, locals := 43 })).room s m ([.ref (q 0), .int a1] : List Value).toArray below meth c s.heap locs 0 0 (MQ below (bRi s.heap tgt) ([.ref (q 0), .int a1] : List Value).toArray s 0 0 (fun _ => False)) (F0 m 43 ls [])) → W p l e (headSpec wsX6_yardOf ({ frames := 2, cells := 0, slots := 0, locals := 43 })).room s m ([.ref (q 0), .int a1] : List Value).toArray below meth c s.heap locs 0 0 (MQ below (bRi s.heap tgt) ([.ref (q 0), .int a1] : List Value).toArray s 0 0 (fun _ => False)) (F0 m 4 ls []) := by
    intro n4
    induction n4 with
    | zero => intro j4 x2_4 locs ls hj hn; exact absurd hn (by omega)
    | succ n4 ih =>
      intro j4 x2_4 locs ls hj hn hl hS X hF kx
      refine lv_iload_n hx hb dX6_yardOf_4 rfl (lv_at hl 3 rfl) ?_
      refine lv_aload_n hx hb dX6_yardOf_5 rfl (lv_at hl 0 rfl) ?_
      refine va_get (D := D) (ci := 6) (C := RX6) (T := TX6) (N := 16) hx hb hts iX6 hown hk.1 hP 0 (wM_0 _ _ _) rfl 0 (by decide) (hts (.fieldLink RX6 7 "BottleLoopModel" "v" "[I") (List.mem_of_getElem? (i := 1) rfl)) (fun _ h9 => h9) rfl dX6_yardOf_6 ?_
      refine lv_iconst (v := 0) hx hb dX6_yardOf_9 (by decide) ?_
      refine va_iald hx hb hk.1 hP 1 0 (wM_1 _ _ _) rfl (vp_in_nI (n := 0) (by decide) (by decide)) dX6_yardOf_10 ?_
      refine lv_topi (fun z9 hz9 => ?_)
      obtain rfl : z9 = (u 0 0) := hz9.trans rfl
      refine lv_icmp_ge (tgt := 43) hx hb dX6_yardOf_11 (by decide) (fun c_1 => ?_) (fun c_1 => ?_)
      · obtain rfl : X = x2_4 := by rw [← hF, L6_yardOf_4, if_pos c_1]
        exact kx _ _ (lv_sub hl [0, 1, 2] rfl) hS
      · have hlt_2 : j4 < (u 0 0).toNatClampNeg := bLtB c_1 (by omega)
        refine lv_iload_n hx hb dX6_yardOf_14 rfl (lv_at hl 2 rfl) ?_
        refine lv_aload_n hx hb dX6_yardOf_15 rfl (lv_at hl 0 rfl) ?_
        refine lv_iload_n hx hb dX6_yardOf_16 rfl (lv_at hl 3 rfl) ?_
        refine lv_iconst (v := 0) hx hb dX6_yardOf_17 (by decide) ?_
        refine bcall_Ri (va_runV (As := [.int (nI j4), .int 0]) (rest := [.int x2_4]) ⟨hx, hb, hml, hown, hts⟩ (C6_of l D cI q _ _ hP hI (nI j4) 0 (mXB (w := 0) (mB_nI (by omega)) (by decide))) (cwV 2 hts gX6_yardOf_X6_of rfl rfl rfl ⟨rfl, bd_X6of⟩ ⟨Nat.le_of_ble_eq_true rfl, Nat.le_of_ble_eq_true rfl⟩) (bPV hk (va_recv hk.1 hP (ci := 6) (q0 := 0) rfl (wM_0 _ _ _))) rfl rfl hl.1 rfl (lv_room (Nat.le_of_ble_eq_true rfl)) dX6_yardOf_18 ⟨Nat.zero_le _, Nat.zero_le _⟩) hS (fun locs hS => ?_)
        refine lv_iload_n hx hb dX6_yardOf_21 rfl (lv_at hl 1 rfl) ?_
        refine lv_icmp_ne (tgt := 34) hx hb dX6_yardOf_22 (by decide) (fun c_3 => ?_) (fun c_3 => ?_)
        · refine lv_iconst (v := 0) hx hb dX6_yardOf_34 (by decide) ?_
          refine lv_iadd hx hb dX6_yardOf_35 ?_
          refine lv_istore_n (lv' := [(2, .int (x2_4 + 0)), (0, .ref (q 0)), (1, .int a1), (3, .int (nI j4))]) hx hb dX6_yardOf_36 rfl hl (by decide) rfl (fun ls hl => ?_)
          refine lv_iinc (v := (nI (j4 + 1))) (lv' := [(3, .int (nI (j4 + 1))), (2, .int (x2_4 + 0)), (0, .ref (q 0)), (1, .int a1)]) hx hb dX6_yardOf_37 hl (k := 3) rfl (bInc j4) (by decide) rfl (fun ls hl => ?_)
          refine lv_goto (tgt := 4) hx hb dX6_yardOf_40 (by decide) ?_
          exact ih (j4 + 1) (x2_4 + 0) _ _ (by omega) (by omega) (lv_sub hl [2, 3, 1, 0] rfl) hS X (by rw [← hF, L6_yardOf_4, if_neg c_1, if_neg c_3]) kx
        · refine lv_aload_n hx hb dX6_yardOf_25 rfl (lv_at hl 0 rfl) ?_
          refine lv_iload_n hx hb dX6_yardOf_26 rfl (lv_at hl 3 rfl) ?_
          refine lv_iconst (v := 4) hx hb dX6_yardOf_27 (by decide) ?_
          refine bcall_Ri (va_runV (As := [.int (nI j4), .int 4]) (rest := [.int x2_4]) ⟨hx, hb, hml, hown, hts⟩ (C6_of l D cI q _ _ hP hI (nI j4) 4 (mXB (w := 4) (mB_nI (by omega)) (by decide))) (cwV 2 hts gX6_yardOf_X6_of rfl rfl rfl ⟨rfl, bd_X6of⟩ ⟨Nat.le_of_ble_eq_true rfl, Nat.le_of_ble_eq_true rfl⟩) (bPV hk (va_recv hk.1 hP (ci := 6) (q0 := 0) rfl (wM_0 _ _ _))) rfl rfl hl.1 rfl (lv_room (Nat.le_of_ble_eq_true rfl)) dX6_yardOf_28 ⟨Nat.zero_le _, Nat.zero_le _⟩) hS (fun locs hS => ?_)
          refine lv_goto (tgt := 35) hx hb dX6_yardOf_31 (by decide) ?_
          refine lv_iadd hx hb dX6_yardOf_35 ?_
          refine lv_istore_n (lv' := [(2, .int (x2_4 + (F6_of u (nI j4) 4))), (0, .ref (q 0)), (1, .int a1), (3, .int (nI j4))]) hx hb dX6_yardOf_36 rfl hl (by decide) rfl (fun ls hl => ?_)
          refine lv_iinc (v := (nI (j4 + 1))) (lv' := [(3, .int (nI (j4 + 1))), (2, .int (x2_4 + (F6_of u (nI j4) 4))), (0, .ref (q 0)), (1, .int a1)]) hx hb dX6_yardOf_37 hl (k := 3) rfl (bInc j4) (by decide) rfl (fun ls hl => ?_)
          refine lv_goto (tgt := 4) hx hb dX6_yardOf_40 (by decide) ?_
          exact ih (j4 + 1) (x2_4 + (F6_of u (nI j4) 4)) _ _ (by omega) (by omega) (lv_sub hl [2, 3, 1, 0] rfl) hS X (by rw [← hF, L6_yardOf_4, if_neg c_1, if_pos c_3]) kx
  refine loop4 ((u 0 0).toNatClampNeg + 1) 0 0 _ _ (by omega) (by omega) (lv_sub hl [2, 3, 1, 0] rfl) hS _ rfl (fun locs ls hl hS => ?_)
  refine lv_iload_n hx hb dX6_yardOf_43 rfl (lv_at hl 2 rfl) ?_
  exact bret_Ri hx hb hr hS hlocks dX6_yardOf_44 (by rw [← hF, F6_yardOf])
def L6_mostEmpties_5 (u : bU) (a1 : Int32) (a2 : Int32) : Nat → Nat → Int32 → Int32
  | 0, _, x3_5 => x3_5
  | n5 + 1, j5, x3_5 => (if (u 0 0) ≤ (nI j5) then x3_5 else (if (F6_of u (nI j5) 0) = a2 then (if x3_5 < 0 then (L6_mostEmpties_5 u a1 a2 n5 (j5 + 1) (nI j5)) else (if (F6_ofShop u a1 (13 + (nI j5))) ≤ (F6_ofShop u a1 (13 + x3_5)) then (L6_mostEmpties_5 u a1 a2 n5 (j5 + 1) x3_5) else (L6_mostEmpties_5 u a1 a2 n5 (j5 + 1) (nI j5)))) else (L6_mostEmpties_5 u a1 a2 n5 (j5 + 1) x3_5)))
def F6_mostEmpties (u : bU) (a1 : Int32) (a2 : Int32) : Int32 := (L6_mostEmpties_5 u a1 a2 ((u 0 0).toNatClampNeg + 1) 0 (-1))
set_option maxHeartbeats 4000000 in
set_option maxRecDepth 100000 in
theorem C6_mostEmpties (l : Launch) (D : va_G) (cI : ClassId) (q : Nat → Nat) (u : bU) (H0 : Heap) (hP : va_P D vwCl (wM cI q u) H0) (hI : mInv u) (a1 : Int32) (a2 : Int32) (h_a1 : mS a1) : Met l yX6_mostEmpties wsX6_mostEmpties ({ frames := 2, cells := 0, slots := 0, locals := 43 }) (bP D [(cI, .int)] H0 [.ref (q 0), .int a1, .int a2]) (bRi H0 (F6_mostEmpties u a1 a2)) 0 0 (fun _ => False) := by
  refine Met.ofW (cc := cX6_mostEmpties) (maxL := 6) (ret := (some .int)) (by decide) rfl ?_
  intro p e s m args below meth c s₁ B hml hv
  obtain ⟨rfl, hH, hk⟩ := hv
  subst hH
  have hx := B.exec
  have hb := B.bytes
  have hr := B.returns
  have hts := atoms_spec (ws := wsX6_mostEmpties) B.pre
  have hown : s.vm.findClass RX6 = some m.cls := findClass_of_methodNamed B.named
  have hlocks := B.notSynchronized
  have hNB := mNB hI
  have hNS := mNS hI
  have hI0 := hI
  have iX6 : ∀ w ∈ wsX60, w ∈ wsX6_mostEmpties := by decide +kernel
  have hS : va_S (fun _ => False) s.heap s.heap [] := va_S.rf
  have hl := lv_entry ([.ref (q 0), .int a1, .int a2]) (n := 6) (Nat.le_of_ble_eq_true rfl)
  rw [lg_entry_eq]
  generalize (lg_sl ([.ref (q 0), .int a1, .int a2]) ++ List.replicate (6 - (lg_sl ([.ref (q 0), .int a1, .int a2])).length) Slot.unset).toArray = ls at hl ⊢
  have hl : lv_has ls 6 [(0, .ref (q 0)), (1, .int a1), (2, .int a2)] := hl
  generalize hF : F6_mostEmpties u a1 a2 = tgt
  refine lv_iconst (v := (-1)) hx hb dX6_mostEmpties_0 (by decide) ?_
  refine lv_istore_n (lv' := [(3, .int (-1)), (0, .ref (q 0)), (1, .int a1), (2, .int a2)]) hx hb dX6_mostEmpties_1 rfl hl (by decide) rfl (fun ls hl => ?_)
  refine lv_iconst (v := 0) hx hb dX6_mostEmpties_2 (by decide) ?_
  refine lv_istore (lv' := [(4, .int 0), (3, .int (-1)), (0, .ref (q 0)), (1, .int a1), (2, .int a2)]) hx hb dX6_mostEmpties_3 hl (by decide) rfl (fun ls hl => ?_)
  have hB5 := bClamp (u 0 0)
  have loop5 : ∀ (n5 j5 : Nat) (x3_5 : Int32) (locs : List Loc) (ls : Array Slot), j5 ≤ (u 0 0).toNatClampNeg → (u 0 0).toNatClampNeg + 1 ≤ n5 + j5 → (x3_5 = -1 ∨ mB x3_5) → lv_has ls 6 [(0, .ref (q 0)), (1, .int a1), (2, .int a2), (3, .int x3_5), (4, .int (nI j5))] → va_S (fun _ => False) s.heap s.heap locs → ∀ X : Int32, L6_mostEmpties_5 u a1 a2  n5 j5 x3_5 = X → (∀ (locs : List Loc) (ls : Array Slot), lv_has ls 6 [(0, .ref (q 0)), (1, .int a1), (2, .int a2), (3, .int X)] → va_S (fun _ => False) s.heap s.heap locs → W p l e (headSpec wsX6_mostEmpties ({ frames := 2, cells := 0, slots := 0, locals := 43 })).room s m ([.ref (q 0), .int a1, .int a2] : List Value).toArray below meth c s.heap locs 0 0 (MQ below (bRi s.heap tgt) ([.ref (q 0), .int a1, .int a2] : List Value).toArray s 0 0 (fun _ => False)) (F0 m 78 ls [])) → W p l e (headSpec wsX6_mostEmpties ({ frames := 2, cells := 0, slots := 0, locals := 43 })).room s m ([.ref (q 0), .int a1, .int a2] : List Value).toArray below meth c s.heap locs 0 0 (MQ below (bRi s.heap tgt) ([.ref (q 0), .int a1, .int a2] : List Value).toArray s 0 0 (fun _ => False)) (F0 m 5 ls []) := by
    intro n5
    induction n5 with
    | zero => intro j5 x3_5 locs ls hj hn; exact absurd hn (by omega)
    | succ n5 ih =>
      intro j5 x3_5 locs ls hj hn hinv hl hS X hF kx
      refine lv_iload hx hb dX6_mostEmpties_5 (lv_at hl 4 rfl) ?_
      refine lv_aload_n hx hb dX6_mostEmpties_7 rfl (lv_at hl 0 rfl) ?_
      refine va_get (D := D) (ci := 6) (C := RX6) (T := TX6) (N := 16) hx hb hts iX6 hown hk.1 hP 0 (wM_0 _ _ _) rfl 0 (by decide) (hts (.fieldLink RX6 7 "BottleLoopModel" "v" "[I") (List.mem_of_getElem? (i := 1) rfl)) (fun _ h9 => h9) rfl dX6_mostEmpties_8 ?_
      refine lv_iconst (v := 0) hx hb dX6_mostEmpties_11 (by decide) ?_
      refine va_iald hx hb hk.1 hP 1 0 (wM_1 _ _ _) rfl (vp_in_nI (n := 0) (by decide) (by decide)) dX6_mostEmpties_12 ?_
      refine lv_topi (fun z9 hz9 => ?_)
      obtain rfl : z9 = (u 0 0) := hz9.trans rfl
      refine lv_icmp_ge (tgt := 78) hx hb dX6_mostEmpties_13 (by decide) (fun c_1 => ?_) (fun c_1 => ?_)
      · obtain rfl : X = x3_5 := by rw [← hF, L6_mostEmpties_5, if_pos c_1]
        exact kx _ _ (lv_sub hl [0, 1, 2, 3] rfl) hS
      · have hlt_2 : j5 < (u 0 0).toNatClampNeg := bLtB c_1 (by omega)
        refine lv_aload_n hx hb dX6_mostEmpties_16 rfl (lv_at hl 0 rfl) ?_
        refine lv_iload hx hb dX6_mostEmpties_17 (lv_at hl 4 rfl) ?_
        refine lv_iconst (v := 0) hx hb dX6_mostEmpties_19 (by decide) ?_
        refine bcall_Ri (va_runV (As := [.int (nI j5), .int 0]) (rest := []) ⟨hx, hb, hml, hown, hts⟩ (C6_of l D cI q _ _ hP hI (nI j5) 0 (mXB (w := 0) (mB_nI (by omega)) (by decide))) (cwV 2 hts gX6_mostEmpties_X6_of rfl rfl rfl ⟨rfl, bd_X6of⟩ ⟨Nat.le_of_ble_eq_true rfl, Nat.le_of_ble_eq_true rfl⟩) (bPV hk (va_recv hk.1 hP (ci := 6) (q0 := 0) rfl (wM_0 _ _ _))) rfl rfl hl.1 rfl (lv_room (Nat.le_of_ble_eq_true rfl)) dX6_mostEmpties_20 ⟨Nat.zero_le _, Nat.zero_le _⟩) hS (fun locs hS => ?_)
        refine lv_iload_n hx hb dX6_mostEmpties_23 rfl (lv_at hl 2 rfl) ?_
        refine lv_icmp_ne (tgt := 57) hx hb dX6_mostEmpties_24 (by decide) (fun c_3 => ?_) (fun c_3 => ?_)
        · refine lv_iconst (v := 0) hx hb dX6_mostEmpties_57 (by decide) ?_
          refine lv_istore (lv' := [(5, .int 0), (0, .ref (q 0)), (1, .int a1), (2, .int a2), (3, .int x3_5), (4, .int (nI j5))]) hx hb dX6_mostEmpties_58 hl (by decide) rfl (fun ls hl => ?_)
          refine lv_iload hx hb dX6_mostEmpties_60 (lv_at hl 0 rfl) ?_
          refine lv_if_eq (tgt := 70) hx hb dX6_mostEmpties_62 (by decide) (fun _ => ?_) (fun h9 => absurd (by decide) h9)
          refine lv_iload_n hx hb dX6_mostEmpties_70 rfl (lv_at hl 4 rfl) ?_
          refine lv_istore_n (lv' := [(3, .int x3_5), (5, .int 0), (0, .ref (q 0)), (1, .int a1), (2, .int a2), (4, .int (nI j5))]) hx hb dX6_mostEmpties_71 rfl hl (by decide) rfl (fun ls hl => ?_)
          refine lv_iinc (v := (nI (j5 + 1))) (lv' := [(4, .int (nI (j5 + 1))), (3, .int x3_5), (5, .int 0), (0, .ref (q 0)), (1, .int a1), (2, .int a2)]) hx hb dX6_mostEmpties_72 hl (k := 5) rfl (bInc j5) (by decide) rfl (fun ls hl => ?_)
          refine lv_goto (tgt := 5) hx hb dX6_mostEmpties_75 (by decide) ?_
          exact ih (j5 + 1) x3_5 _ _ (by omega) (by omega) hinv (lv_sub hl [3, 4, 5, 1, 0] rfl) hS X (by rw [← hF, L6_mostEmpties_5, if_neg c_1, if_neg c_3]) kx
        · refine lv_iload_n hx hb dX6_mostEmpties_27 rfl (lv_at hl 3 rfl) ?_
          refine lv_if_lt (tgt := 53) hx hb dX6_mostEmpties_28 (by decide) (fun c_4 => ?_) (fun c_4 => ?_)
          · refine lv_iconst (v := 1) hx hb dX6_mostEmpties_53 (by decide) ?_
            refine lv_goto (tgt := 58) hx hb dX6_mostEmpties_54 (by decide) ?_
            refine lv_istore (lv' := [(5, .int 1), (0, .ref (q 0)), (1, .int a1), (2, .int a2), (3, .int x3_5), (4, .int (nI j5))]) hx hb dX6_mostEmpties_58 hl (by decide) rfl (fun ls hl => ?_)
            refine lv_iload hx hb dX6_mostEmpties_60 (lv_at hl 0 rfl) ?_
            refine lv_if_eq (tgt := 70) hx hb dX6_mostEmpties_62 (by decide) (fun h9 => absurd h9 (by decide)) (fun _ => ?_)
            refine lv_iload hx hb dX6_mostEmpties_65 (lv_at hl 5 rfl) ?_
            refine lv_goto (tgt := 71) hx hb dX6_mostEmpties_67 (by decide) ?_
            refine lv_istore_n (lv' := [(3, .int (nI j5)), (5, .int 1), (0, .ref (q 0)), (1, .int a1), (2, .int a2), (4, .int (nI j5))]) hx hb dX6_mostEmpties_71 rfl hl (by decide) rfl (fun ls hl => ?_)
            refine lv_iinc (v := (nI (j5 + 1))) (lv' := [(4, .int (nI (j5 + 1))), (3, .int (nI j5)), (5, .int 1), (0, .ref (q 0)), (1, .int a1), (2, .int a2)]) hx hb dX6_mostEmpties_72 hl (k := 5) rfl (bInc j5) (by decide) rfl (fun ls hl => ?_)
            refine lv_goto (tgt := 5) hx hb dX6_mostEmpties_75 (by decide) ?_
            exact ih (j5 + 1) (nI j5) _ _ (by omega) (by omega) (Or.inr (mB_nI (by omega))) (lv_sub hl [3, 4, 5, 1, 0] rfl) hS X (by rw [← hF, L6_mostEmpties_5, if_neg c_1, if_pos c_3, if_pos c_4]) kx
          · refine lv_aload_n hx hb dX6_mostEmpties_31 rfl (lv_at hl 0 rfl) ?_
            refine lv_iload_n hx hb dX6_mostEmpties_32 rfl (lv_at hl 1 rfl) ?_
            refine lv_bipush (v := 13) hx hb dX6_mostEmpties_33 (by decide) ?_
            refine lv_iload hx hb dX6_mostEmpties_35 (lv_at hl 4 rfl) ?_
            refine lv_iadd hx hb dX6_mostEmpties_37 ?_
            refine bcall_Ri (va_runV (As := [.int a1, .int (13 + (nI j5))]) (rest := []) ⟨hx, hb, hml, hown, hts⟩ (C6_ofShop l D cI q _ _ hP hI a1 (13 + (nI j5)) (mXS2 (w := 13) h_a1 (mB_nI (by omega)) (by decide))) (cwV 2 hts gX6_mostEmpties_X6_ofShop rfl rfl rfl ⟨rfl, bd_X6ofShop⟩ ⟨Nat.le_of_ble_eq_true rfl, Nat.le_of_ble_eq_true rfl⟩) (bPV hk (va_recv hk.1 hP (ci := 6) (q0 := 0) rfl (wM_0 _ _ _))) rfl rfl hl.1 rfl (lv_room (Nat.le_of_ble_eq_true rfl)) dX6_mostEmpties_38 ⟨Nat.zero_le _, Nat.zero_le _⟩) hS (fun locs hS => ?_)
            refine lv_aload_n hx hb dX6_mostEmpties_41 rfl (lv_at hl 0 rfl) ?_
            refine lv_iload_n hx hb dX6_mostEmpties_42 rfl (lv_at hl 1 rfl) ?_
            refine lv_bipush (v := 13) hx hb dX6_mostEmpties_43 (by decide) ?_
            refine lv_iload_n hx hb dX6_mostEmpties_45 rfl (lv_at hl 3 rfl) ?_
            refine lv_iadd hx hb dX6_mostEmpties_46 ?_
            refine bcall_Ri (va_runV (As := [.int a1, .int (13 + x3_5)]) (rest := [.int (F6_ofShop u a1 (13 + (nI j5)))]) ⟨hx, hb, hml, hown, hts⟩ (C6_ofShop l D cI q _ _ hP hI a1 (13 + x3_5) (mXS2 (w := 13) h_a1 (mMEp hinv c_4) (by decide))) (cwV 2 hts gX6_mostEmpties_X6_ofShop rfl rfl rfl ⟨rfl, bd_X6ofShop⟩ ⟨Nat.le_of_ble_eq_true rfl, Nat.le_of_ble_eq_true rfl⟩) (bPV hk (va_recv hk.1 hP (ci := 6) (q0 := 0) rfl (wM_0 _ _ _))) rfl rfl hl.1 rfl (lv_room (Nat.le_of_ble_eq_true rfl)) dX6_mostEmpties_47 ⟨Nat.zero_le _, Nat.zero_le _⟩) hS (fun locs hS => ?_)
            refine lv_icmp_le (tgt := 57) hx hb dX6_mostEmpties_50 (by decide) (fun c_5 => ?_) (fun c_5 => ?_)
            · refine lv_iconst (v := 0) hx hb dX6_mostEmpties_57 (by decide) ?_
              refine lv_istore (lv' := [(5, .int 0), (0, .ref (q 0)), (1, .int a1), (2, .int a2), (3, .int x3_5), (4, .int (nI j5))]) hx hb dX6_mostEmpties_58 hl (by decide) rfl (fun ls hl => ?_)
              refine lv_iload hx hb dX6_mostEmpties_60 (lv_at hl 0 rfl) ?_
              refine lv_if_eq (tgt := 70) hx hb dX6_mostEmpties_62 (by decide) (fun _ => ?_) (fun h9 => absurd (by decide) h9)
              refine lv_iload_n hx hb dX6_mostEmpties_70 rfl (lv_at hl 4 rfl) ?_
              refine lv_istore_n (lv' := [(3, .int x3_5), (5, .int 0), (0, .ref (q 0)), (1, .int a1), (2, .int a2), (4, .int (nI j5))]) hx hb dX6_mostEmpties_71 rfl hl (by decide) rfl (fun ls hl => ?_)
              refine lv_iinc (v := (nI (j5 + 1))) (lv' := [(4, .int (nI (j5 + 1))), (3, .int x3_5), (5, .int 0), (0, .ref (q 0)), (1, .int a1), (2, .int a2)]) hx hb dX6_mostEmpties_72 hl (k := 5) rfl (bInc j5) (by decide) rfl (fun ls hl => ?_)
              refine lv_goto (tgt := 5) hx hb dX6_mostEmpties_75 (by decide) ?_
              exact ih (j5 + 1) x3_5 _ _ (by omega) (by omega) hinv (lv_sub hl [3, 4, 5, 1, 0] rfl) hS X (by rw [← hF, L6_mostEmpties_5, if_neg c_1, if_pos c_3, if_neg c_4, if_pos c_5]) kx
            · refine lv_iconst (v := 1) hx hb dX6_mostEmpties_53 (by decide) ?_
              refine lv_goto (tgt := 58) hx hb dX6_mostEmpties_54 (by decide) ?_
              refine lv_istore (lv' := [(5, .int 1), (0, .ref (q 0)), (1, .int a1), (2, .int a2), (3, .int x3_5), (4, .int (nI j5))]) hx hb dX6_mostEmpties_58 hl (by decide) rfl (fun ls hl => ?_)
              refine lv_iload hx hb dX6_mostEmpties_60 (lv_at hl 0 rfl) ?_
              refine lv_if_eq (tgt := 70) hx hb dX6_mostEmpties_62 (by decide) (fun h9 => absurd h9 (by decide)) (fun _ => ?_)
              refine lv_iload hx hb dX6_mostEmpties_65 (lv_at hl 5 rfl) ?_
              refine lv_goto (tgt := 71) hx hb dX6_mostEmpties_67 (by decide) ?_
              refine lv_istore_n (lv' := [(3, .int (nI j5)), (5, .int 1), (0, .ref (q 0)), (1, .int a1), (2, .int a2), (4, .int (nI j5))]) hx hb dX6_mostEmpties_71 rfl hl (by decide) rfl (fun ls hl => ?_)
              refine lv_iinc (v := (nI (j5 + 1))) (lv' := [(4, .int (nI (j5 + 1))), (3, .int (nI j5)), (5, .int 1), (0, .ref (q 0)), (1, .int a1), (2, .int a2)]) hx hb dX6_mostEmpties_72 hl (k := 5) rfl (bInc j5) (by decide) rfl (fun ls hl => ?_)
              refine lv_goto (tgt := 5) hx hb dX6_mostEmpties_75 (by decide) ?_
              exact ih (j5 + 1) (nI j5) _ _ (by omega) (by omega) (Or.inr (mB_nI (by omega))) (lv_sub hl [3, 4, 5, 1, 0] rfl) hS X (by rw [← hF, L6_mostEmpties_5, if_neg c_1, if_pos c_3, if_neg c_4, if_neg c_5]) kx
  refine loop5 ((u 0 0).toNatClampNeg + 1) 0 (-1) _ _ (by omega) (by omega) (Or.inl rfl) (lv_sub hl [2, 3, 4, 1, 0] rfl) hS _ rfl (fun locs ls hl hS => ?_)
  refine lv_iload_n hx hb dX6_mostEmpties_78 rfl (lv_at hl 3 rfl) ?_
  exact bret_Ri hx hb hr hS hlocks dX6_mostEmpties_79 (by rw [← hF, F6_mostEmpties])

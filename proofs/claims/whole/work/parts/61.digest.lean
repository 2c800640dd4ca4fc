-- the class's digest (own text, part by program)
theorem os_congr {u v : bU} (e : v 0 = u 0) (a : Int32) : F2_overShops v a = F2_overShops u a := by
  unfold F2_overShops
  rw [aL_cShops v a 6 (6 + 1) 0 0 (by decide) (by decide), aL_cShops u a 6 (6 + 1) 0 0 (by decide) (by decide)]
  exact acc_congr 6 0 0 (fun i _ _ => by unfold F2_ofShop F2_get; rw [e])
theorem bn_congr {u v : bU} (e : v 0 = u 0) (a b : Int32) : F2_brandNumber v a b = F2_brandNumber u a b := by
  unfold F2_brandNumber
  rw [os_congr e, os_congr e, show F2_ofBrand v a b = F2_ofBrand u a b from by unfold F2_ofBrand F2_get; rw [e]]
theorem bs15_congr {u v : bU} (e : v 0 = u 0) (j5 : Nat) : ∀ (n j : Nat) (x : Int32), L2_brandSum1_15 v j5 n j x = L2_brandSum1_15 u j5 n j x ∧ L2_brandSum7_15 v j5 n j x = L2_brandSum7_15 u j5 n j x := by
  intro n
  induction n with
  | zero => intro j x; exact ⟨rfl, rfl⟩
  | succ n ih =>
    intro j x
    rw [L2_brandSum1_15, L2_brandSum1_15, L2_brandSum7_15, L2_brandSum7_15, bn_congr e, (ih _ _).1, (ih _ _).2]
    exact ⟨rfl, rfl⟩
theorem bs5_congr {u v : bU} (e : v 0 = u 0) : ∀ (n j : Nat) (x : Int32), L2_brandSum1_5 v n j x = L2_brandSum1_5 u n j x ∧ L2_brandSum7_5 v n j x = L2_brandSum7_5 u n j x := by
  intro n
  induction n with
  | zero => intro j x; exact ⟨rfl, rfl⟩
  | succ n ih =>
    intro j x
    rw [L2_brandSum1_5, L2_brandSum1_5, L2_brandSum7_5, L2_brandSum7_5, (bs15_congr e _ _ _ _).1, (bs15_congr e _ _ _ _).2, (ih _ _).1, (ih _ _).2]
    exact ⟨rfl, rfl⟩
theorem bsum_congr {u v : bU} (e : v 0 = u 0) : F2_brandSum1 v = F2_brandSum1 u ∧ F2_brandSum7 v = F2_brandSum7 u := ⟨(bs5_congr e _ _ _).1, (bs5_congr e _ _ _).2⟩
def gsOK (u : bU) : Prop := (¬ F2_brandSum1 u ≤ 0 → vf_n64 (FP.ddiv (FP.i2d (F2_brandSum7 u)) (FP.i2d (F2_brandSum1 u)))) ∧ shOK (F5_goneShare u)
theorem gsOK_of {u v : bU} (h : gsOK u) (e : v 0 = u 0) : gsOK v := by
  unfold gsOK F5_goneShare at h ⊢
  rw [(bsum_congr e).1, (bsum_congr e).2]
  exact h
theorem mixCol5_0 (u : bU) : ∀ (n j : Nat) (x : Int64) (w : bU), (L5_mixedCollected_5 u w n j x).2 0 = w 0 := by
  intro n
  induction n with
  | zero => intro j x w; rfl
  | succ n ih =>
    intro j x w
    rw [L5_mixedCollected_5]
    split
    · rfl
    · rw [ih]; exact fr_mixCL _ (by decide) _ _ _ _
theorem mixCol_0 (u : bU) (x : Int64) : (F5_mixedCollected u x).2 0 = u 0 := mixCol5_0 u _ _ _ _
theorem bd_X5bitsOf : yX5_bitsOf.cls ≠ "java/lang/invoke/MethodHandle" ∧ yX5_bitsOf.cls ≠ "java/lang/invoke/VarHandle" ∧ (parseMethodDescriptor yX5_bitsOf.desc).map (fun d => d.parameters.length) = some 1 := by decide +kernel
theorem bd_X5count : yX5_count.cls ≠ "java/lang/invoke/MethodHandle" ∧ yX5_count.cls ≠ "java/lang/invoke/VarHandle" ∧ (parseMethodDescriptor yX5_count.desc).map (fun d => d.parameters.length) = some 1 := by decide +kernel
theorem bd_X5goneShare : yX5_goneShare.cls ≠ "java/lang/invoke/MethodHandle" ∧ yX5_goneShare.cls ≠ "java/lang/invoke/VarHandle" ∧ (parseMethodDescriptor yX5_goneShare.desc).map (fun d => d.parameters.length) = some 0 := by decide +kernel
theorem bd_X5mixedBrand : yX5_mixedBrand.cls ≠ "java/lang/invoke/MethodHandle" ∧ yX5_mixedBrand.cls ≠ "java/lang/invoke/VarHandle" ∧ (parseMethodDescriptor yX5_mixedBrand.desc).map (fun d => d.parameters.length) = some 2 := by decide +kernel
theorem bd_X5mixedCollected : yX5_mixedCollected.cls ≠ "java/lang/invoke/MethodHandle" ∧ yX5_mixedCollected.cls ≠ "java/lang/invoke/VarHandle" ∧ (parseMethodDescriptor yX5_mixedCollected.desc).map (fun d => d.parameters.length) = some 1 := by decide +kernel
theorem bd_X5mixedShop : yX5_mixedShop.cls ≠ "java/lang/invoke/MethodHandle" ∧ yX5_mixedShop.cls ≠ "java/lang/invoke/VarHandle" ∧ (parseMethodDescriptor yX5_mixedShop.desc).map (fun d => d.parameters.length) = some 2 := by decide +kernel
theorem bd_X5mixedText : yX5_mixedText.cls ≠ "java/lang/invoke/MethodHandle" ∧ yX5_mixedText.cls ≠ "java/lang/invoke/VarHandle" ∧ (parseMethodDescriptor yX5_mixedText.desc).map (fun d => d.parameters.length) = some 1 := by decide +kernel
def L5_digest_6 (u : bU) : Nat → Nat → Int64 → Int64
  | 0, _, x1_6 => x1_6
  | n6 + 1, j6, x1_6 => (if (11 : Int32) ≤ (nI j6) then x1_6 else (L5_digest_6 u n6 (j6 + 1) (F5_mixed x1_6 (((F5_countD u (nI j6))).toInt64))))
def L5_digest_31 (u : bU) : Nat → Nat → Int64 → Int64
  | 0, _, x1_31 => x1_31
  | n31 + 1, j31, x1_31 => (if (6 : Int32) ≤ (nI j31) then x1_31 else (L5_digest_31 u n31 (j31 + 1) (F5_mixed x1_31 (((F2_ofSetting u (nI j31))).toInt64))))
def L5_digest_59 (u : bU) : Nat → Nat → Int64 → Int64
  | 0, _, x1_59 => x1_59
  | n59 + 1, j59, x1_59 => (if (F2_ofAll u 0) ≤ (nI j59) then x1_59 else (L5_digest_59 u n59 (j59 + 1) (F5_mixedBrand u x1_59 (nI j59))))
def L5_digest_86 (u : bU) : Nat → Nat → Int64 → Int64
  | 0, _, x1_86 => x1_86
  | n86 + 1, j86, x1_86 => (if (F2_ofAll u 1) ≤ (nI j86) then x1_86 else (L5_digest_86 u n86 (j86 + 1) (F5_mixedShop u x1_86 (nI j86))))
def L5_digest_113 (u : bU) : Nat → Nat → Int64 → Int64
  | 0, _, x1_113 => x1_113
  | n113 + 1, j113, x1_113 => (if (3 : Int32) ≤ (nI j113) then x1_113 else (L5_digest_113 u n113 (j113 + 1) (F5_mixed x1_113 (((F4_bestToCollect u (nI j113))).toInt64))))
def F5_digest (u : bU) : Int64 × bU := ((F5_mixedText (F5_mixedCollected u (L5_digest_113 u (3 + 1) 0 (L5_digest_86 u ((F2_ofAll u 1).toNatClampNeg + 1) 0 (L5_digest_59 u ((F2_ofAll u 0).toNatClampNeg + 1) 0 (L5_digest_31 u (6 + 1) 0 (L5_digest_6 u (11 + 1) 0 2411)))))).2 (F5_mixed (F5_mixedCollected u (L5_digest_113 u (3 + 1) 0 (L5_digest_86 u ((F2_ofAll u 1).toNatClampNeg + 1) 0 (L5_digest_59 u ((F2_ofAll u 0).toNatClampNeg + 1) 0 (L5_digest_31 u (6 + 1) 0 (L5_digest_6 u (11 + 1) 0 2411)))))).1 (F5_bitsOf (F5_goneShare (F5_mixedCollected u (L5_digest_113 u (3 + 1) 0 (L5_digest_86 u ((F2_ofAll u 1).toNatClampNeg + 1) 0 (L5_digest_59 u ((F2_ofAll u 0).toNatClampNeg + 1) 0 (L5_digest_31 u (6 + 1) 0 (L5_digest_6 u (11 + 1) 0 2411)))))).2)))), (F5_mixedCollected u (L5_digest_113 u (3 + 1) 0 (L5_digest_86 u ((F2_ofAll u 1).toNatClampNeg + 1) 0 (L5_digest_59 u ((F2_ofAll u 0).toNatClampNeg + 1) 0 (L5_digest_31 u (6 + 1) 0 (L5_digest_6 u (11 + 1) 0 2411)))))).2)
set_option maxHeartbeats 4000000 in
set_option maxRecDepth 100000 in
theorem C5_digest (l : Launch) (D : va_G) (cI cO : ClassId) (q : Nat → Nat) (u : bU) (H0 : Heap) (hq : bInj 23 q) (hP : va_P D vwCl (wC cI cO q u) H0) (hg : gsOK u) : Met l yX5_digest wsX5_digest ({ frames := 6, cells := 0, slots := 0, locals := 140 }) (bP D [(cI, .int), (cO, .object RX2)] H0 [.ref (q 0)]) (bWl D (wC cI cO q) bT (bA 23 q H0.size) (F5_digest u)) 0 0 (bA 23 q H0.size) := by
  refine Met.ofW (cc := cX5_digest) (maxL := 4) (ret := (some .long)) (by decide) rfl ?_
  intro p e s m args below meth c s₁ B hml hv
  obtain ⟨rfl, hH, hk⟩ := hv
  subst hH
  have hx := B.exec
  have hb := B.bytes
  have hr := B.returns
  have hts := atoms_spec (ws := wsX5_digest) B.pre
  have hown : s.vm.findClass RX5 = some m.cls := findClass_of_methodNamed B.named
  have hlocks := B.notSynchronized
  have iX5 : ∀ w ∈ wsX50, w ∈ wsX5_digest := by decide +kernel
  have hS : va_S (bA 23 q s.heap.size) s.heap s.heap [] := va_S.rf
  have hl := lv_entry ([.ref (q 0)]) (n := 4) (Nat.le_of_ble_eq_true rfl)
  rw [lg_entry_eq]
  generalize (lg_sl ([.ref (q 0)]) ++ List.replicate (4 - (lg_sl ([.ref (q 0)])).length) Slot.unset).toArray = ls at hl ⊢
  have hl : lv_has ls 4 [(0, .ref (q 0))] := hl
  generalize hF : F5_digest u = tgt
  refine lv_ldc2 (v := 2411) hx hb hown (hts (.constantLong RX5 210 (2411)) (List.mem_of_getElem? (i := 1) rfl)) dX5_digest_0 ?_
  refine lv_lstore_n (lv' := [(1, .long 2411), (0, .ref (q 0))]) hx hb dX5_digest_3 rfl hl (by decide) rfl (fun ls hl => ?_)
  refine lv_iconst (v := 0) hx hb dX5_digest_4 (by decide) ?_
  refine lv_istore_n (lv' := [(3, .int 0), (1, .long 2411), (0, .ref (q 0))]) hx hb dX5_digest_5 rfl hl (by decide) rfl (fun ls hl => ?_)
  have loop6 : ∀ (n6 j6 : Nat) (x1_6 : Int64) (locs : List Loc) (ls : Array Slot), j6 ≤ 11 → 11 + 1 ≤ n6 + j6 → lv_has ls 4 [(0, .ref (q 0)), (1, .long x1_6), (3, .int (nI j6))] → va_S (bA 23 q s.heap.size) s.heap s.heap locs → ∀ X : Int64, L5_digest_6 u  n6 j6 x1_6 = X → (∀ (locs : List Loc) (ls : Array Slot), lv_has ls 4 [(0, .ref (q 0)), (1, .long X)] → va_S (bA 23 q s.heap.size) s.heap s.heap locs → W p l e (headSpec wsX5_digest ({ frames := 6, cells := 0, slots := 0, locals := 140 })).room s m ([.ref (q 0)] : List Value).toArray below meth c s.heap locs 0 0 (MQ below (bWl D (wC cI cO q) bT (bA 23 q s.heap.size) tgt) ([.ref (q 0)] : List Value).toArray s 0 0 (bA 23 q s.heap.size)) (F0 m 29 ls [])) → W p l e (headSpec wsX5_digest ({ frames := 6, cells := 0, slots := 0, locals := 140 })).room s m ([.ref (q 0)] : List Value).toArray below meth c s.heap locs 0 0 (MQ below (bWl D (wC cI cO q) bT (bA 23 q s.heap.size) tgt) ([.ref (q 0)] : List Value).toArray s 0 0 (bA 23 q s.heap.size)) (F0 m 6 ls []) := by
    intro n6
    induction n6 with
    | zero => intro j6 x1_6 locs ls hj hn; exact absurd hn (by omega)
    | succ n6 ih =>
      intro j6 x1_6 locs ls hj hn hl hS X hF kx
      refine lv_iload_n hx hb dX5_digest_6 rfl (lv_at hl 2 rfl) ?_
      refine lv_bipush (v := 11) hx hb dX5_digest_7 (by decide) ?_
      refine lv_icmp_ge (tgt := 29) hx hb dX5_digest_9 (by decide) (fun c_1 => ?_) (fun c_1 => ?_)
      · obtain rfl : X = x1_6 := by rw [← hF, L5_digest_6, if_pos c_1]
        exact kx _ _ (lv_sub hl [0, 1] rfl) hS
      · have hlt_2 : j6 < 11 := bLt c_1 (by omega) (by decide)
        refine lv_lload_n hx hb dX5_digest_12 rfl (lv_at hl 1 rfl) ?_
        refine lv_aload_n hx hb dX5_digest_13 rfl (lv_at hl 0 rfl) ?_
        refine lv_iload_n hx hb dX5_digest_14 rfl (lv_at hl 2 rfl) ?_
        refine bcall_Ri (va_runV (As := [.int (nI j6)]) (rest := [.long x1_6]) ⟨hx, hb, hml, hown, hts⟩ (C5_countD l D cI cO q _ _ hP (nI j6) (nI_pos (by omega)) (nI_nlt (a := 10) (by omega) (by decide))) (cwV 1 hts gX5_digest_X5_count rfl rfl rfl ⟨rfl, bd_X5count⟩ ⟨Nat.le_of_ble_eq_true rfl, Nat.le_of_ble_eq_true rfl⟩) (bPV hk (va_recv hk.1 hP (ci := 5) (q0 := 0) rfl (wC_0 _ _ _ _))) rfl rfl hl.1 rfl (lv_room (Nat.le_of_ble_eq_true rfl)) dX5_digest_15 ⟨Nat.zero_le _, Nat.zero_le _⟩) hS (fun locs hS => ?_)
        refine lv_i2l (v := ((F5_countD u (nI j6))).toInt64) hx hb dX5_digest_18 rfl ?_
        refine bcall_Rl (va_runS (As := [.long x1_6, .long (((F5_countD u (nI j6))).toInt64)]) (rest := []) ⟨hx, hb, hml, hown, hts⟩ (C5_mixed l D cI cO q _ x1_6 (((F5_countD u (nI j6))).toInt64)) (va_cwS 2 hts gX5_digest_X5_mixed rfl rfl rfl bd_X5mixed ⟨Nat.le_of_ble_eq_true rfl, Nat.le_of_ble_eq_true rfl⟩) (bPS hk) rfl rfl hl.1 rfl (lv_room (Nat.le_of_ble_eq_true rfl)) dX5_digest_19 ⟨Nat.zero_le _, Nat.zero_le _⟩) hS (fun locs hS => ?_)
        refine lv_lstore_n (lv' := [(1, .long (F5_mixed x1_6 (((F5_countD u (nI j6))).toInt64))), (0, .ref (q 0)), (3, .int (nI j6))]) hx hb dX5_digest_22 rfl hl (by decide) rfl (fun ls hl => ?_)
        refine lv_iinc (v := (nI (j6 + 1))) (lv' := [(3, .int (nI (j6 + 1))), (1, .long (F5_mixed x1_6 (((F5_countD u (nI j6))).toInt64))), (0, .ref (q 0))]) hx hb dX5_digest_23 hl (k := 2) rfl (bInc j6) (by decide) rfl (fun ls hl => ?_)
        refine lv_goto (tgt := 6) hx hb dX5_digest_26 (by decide) ?_
        exact ih (j6 + 1) (F5_mixed x1_6 (((F5_countD u (nI j6))).toInt64)) _ _ (by omega) (by omega) (lv_sub hl [2, 1, 0] rfl) hS X (by rw [← hF, L5_digest_6, if_neg c_1]) kx
  refine loop6 (11 + 1) 0 2411 _ _ (by omega) (by omega) (lv_sub hl [2, 1, 0] rfl) hS _ rfl (fun locs ls hl hS => ?_)
  refine lv_iconst (v := 0) hx hb dX5_digest_29 (by decide) ?_
  refine lv_istore_n (lv' := [(3, .int 0), (0, .ref (q 0)), (1, .long (L5_digest_6 u (11 + 1) 0 2411))]) hx hb dX5_digest_30 rfl hl (by decide) rfl (fun ls hl => ?_)
  have loop31 : ∀ (n31 j31 : Nat) (x1_31 : Int64) (locs : List Loc) (ls : Array Slot), j31 ≤ 6 → 6 + 1 ≤ n31 + j31 → lv_has ls 4 [(0, .ref (q 0)), (1, .long x1_31), (3, .int (nI j31))] → va_S (bA 23 q s.heap.size) s.heap s.heap locs → ∀ X : Int64, L5_digest_31 u  n31 j31 x1_31 = X → (∀ (locs : List Loc) (ls : Array Slot), lv_has ls 4 [(0, .ref (q 0)), (1, .long X)] → va_S (bA 23 q s.heap.size) s.heap s.heap locs → W p l e (headSpec wsX5_digest ({ frames := 6, cells := 0, slots := 0, locals := 140 })).room s m ([.ref (q 0)] : List Value).toArray below meth c s.heap locs 0 0 (MQ below (bWl D (wC cI cO q) bT (bA 23 q s.heap.size) tgt) ([.ref (q 0)] : List Value).toArray s 0 0 (bA 23 q s.heap.size)) (F0 m 57 ls [])) → W p l e (headSpec wsX5_digest ({ frames := 6, cells := 0, slots := 0, locals := 140 })).room s m ([.ref (q 0)] : List Value).toArray below meth c s.heap locs 0 0 (MQ below (bWl D (wC cI cO q) bT (bA 23 q s.heap.size) tgt) ([.ref (q 0)] : List Value).toArray s 0 0 (bA 23 q s.heap.size)) (F0 m 31 ls []) := by
    intro n31
    induction n31 with
    | zero => intro j31 x1_31 locs ls hj hn; exact absurd hn (by omega)
    | succ n31 ih =>
      intro j31 x1_31 locs ls hj hn hl hS X hF kx
      refine lv_iload_n hx hb dX5_digest_31 rfl (lv_at hl 2 rfl) ?_
      refine lv_bipush (v := 6) hx hb dX5_digest_32 (by decide) ?_
      refine lv_icmp_ge (tgt := 57) hx hb dX5_digest_34 (by decide) (fun c_3 => ?_) (fun c_3 => ?_)
      · obtain rfl : X = x1_31 := by rw [← hF, L5_digest_31, if_pos c_3]
        exact kx _ _ (lv_sub hl [0, 1] rfl) hS
      · have hlt_4 : j31 < 6 := bLt c_3 (by omega) (by decide)
        refine lv_lload_n hx hb dX5_digest_37 rfl (lv_at hl 1 rfl) ?_
        refine lv_aload_n hx hb dX5_digest_38 rfl (lv_at hl 0 rfl) ?_
        refine va_get (D := D) (ci := 5) (C := RX5) (T := TX5) (N := 5) hx hb hts iX5 hown hk.1 hP 0 (wC_0 _ _ _ _) rfl 0 (by decide) (hts (.fieldLink RX5 20 "BottleLoop" "now" "LBottleLoop$State;") (List.mem_of_getElem? (i := 2) rfl)) (fun _ h9 => h9) rfl dX5_digest_39 ?_
        refine lv_iload_n hx hb dX5_digest_42 rfl (lv_at hl 2 rfl) ?_
        refine bcall_Ri (va_runVN (As := [.int (nI j31)]) (rest := [.long x1_31]) ⟨hx, hb, hml, hown, hts⟩ (C2_ofSetting l D cI cO q _ _ hP (nI j31)) ⟨va_cnB 1 hts gX5_digest_X2_ofSetting_n94 rfl rfl rfl (hk.2 (.methodLinkNest RX5 94 yX2_ofSetting RX5) (List.mem_of_getElem? (i := 17) rfl)) (hts (.initialized RX2) (List.mem_of_getElem? (i := 24) rfl)) bd_X2ofSetting ⟨Nat.le_of_ble_eq_true rfl, Nat.le_of_ble_eq_true rfl⟩, (hts (.instanceMethod yX2_ofSetting) (List.mem_of_getElem? (i := 56) rfl)), (hts (.selects RX2 yX2_ofSetting yX2_ofSetting) (List.mem_of_getElem? (i := 57) rfl))⟩ (bPV hk (va_recv hk.1 hP (ci := 2) (q0 := 3) rfl (wC_3 _ _ _ _))) rfl rfl hl.1 rfl (lv_room (Nat.le_of_ble_eq_true rfl)) dX5_digest_43 ⟨Nat.zero_le _, Nat.zero_le _⟩) hS (fun locs hS => ?_)
        refine lv_i2l (v := ((F2_ofSetting u (nI j31))).toInt64) hx hb dX5_digest_46 rfl ?_
        refine bcall_Rl (va_runS (As := [.long x1_31, .long (((F2_ofSetting u (nI j31))).toInt64)]) (rest := []) ⟨hx, hb, hml, hown, hts⟩ (C5_mixed l D cI cO q _ x1_31 (((F2_ofSetting u (nI j31))).toInt64)) (va_cwS 2 hts gX5_digest_X5_mixed rfl rfl rfl bd_X5mixed ⟨Nat.le_of_ble_eq_true rfl, Nat.le_of_ble_eq_true rfl⟩) (bPS hk) rfl rfl hl.1 rfl (lv_room (Nat.le_of_ble_eq_true rfl)) dX5_digest_47 ⟨Nat.zero_le _, Nat.zero_le _⟩) hS (fun locs hS => ?_)
        refine lv_lstore_n (lv' := [(1, .long (F5_mixed x1_31 (((F2_ofSetting u (nI j31))).toInt64))), (0, .ref (q 0)), (3, .int (nI j31))]) hx hb dX5_digest_50 rfl hl (by decide) rfl (fun ls hl => ?_)
        refine lv_iinc (v := (nI (j31 + 1))) (lv' := [(3, .int (nI (j31 + 1))), (1, .long (F5_mixed x1_31 (((F2_ofSetting u (nI j31))).toInt64))), (0, .ref (q 0))]) hx hb dX5_digest_51 hl (k := 2) rfl (bInc j31) (by decide) rfl (fun ls hl => ?_)
        refine lv_goto (tgt := 31) hx hb dX5_digest_54 (by decide) ?_
        exact ih (j31 + 1) (F5_mixed x1_31 (((F2_ofSetting u (nI j31))).toInt64)) _ _ (by omega) (by omega) (lv_sub hl [2, 1, 0] rfl) hS X (by rw [← hF, L5_digest_31, if_neg c_3]) kx
  refine loop31 (6 + 1) 0 (L5_digest_6 u (11 + 1) 0 2411) _ _ (by omega) (by omega) (lv_sub hl [1, 2, 0] rfl) hS _ rfl (fun locs ls hl hS => ?_)
  refine lv_iconst (v := 0) hx hb dX5_digest_57 (by decide) ?_
  refine lv_istore_n (lv' := [(3, .int 0), (0, .ref (q 0)), (1, .long (L5_digest_31 u (6 + 1) 0 (L5_digest_6 u (11 + 1) 0 2411)))]) hx hb dX5_digest_58 rfl hl (by decide) rfl (fun ls hl => ?_)
  have hB59 := bClamp (F2_ofAll u 0)
  have loop59 : ∀ (n59 j59 : Nat) (x1_59 : Int64) (locs : List Loc) (ls : Array Slot), j59 ≤ (F2_ofAll u 0).toNatClampNeg → (F2_ofAll u 0).toNatClampNeg + 1 ≤ n59 + j59 → lv_has ls 4 [(0, .ref (q 0)), (1, .long x1_59), (3, .int (nI j59))] → va_S (bA 23 q s.heap.size) s.heap s.heap locs → ∀ X : Int64, L5_digest_59 u  n59 j59 x1_59 = X → (∀ (locs : List Loc) (ls : Array Slot), lv_has ls 4 [(0, .ref (q 0)), (1, .long X)] → va_S (bA 23 q s.heap.size) s.heap s.heap locs → W p l e (headSpec wsX5_digest ({ frames := 6, cells := 0, slots := 0, locals := 140 })).room s m ([.ref (q 0)] : List Value).toArray below meth c s.heap locs 0 0 (MQ below (bWl D (wC cI cO q) bT (bA 23 q s.heap.size) tgt) ([.ref (q 0)] : List Value).toArray s 0 0 (bA 23 q s.heap.size)) (F0 m 84 ls [])) → W p l e (headSpec wsX5_digest ({ frames := 6, cells := 0, slots := 0, locals := 140 })).room s m ([.ref (q 0)] : List Value).toArray below meth c s.heap locs 0 0 (MQ below (bWl D (wC cI cO q) bT (bA 23 q s.heap.size) tgt) ([.ref (q 0)] : List Value).toArray s 0 0 (bA 23 q s.heap.size)) (F0 m 59 ls []) := by
    intro n59
    induction n59 with
    | zero => intro j59 x1_59 locs ls hj hn; exact absurd hn (by omega)
    | succ n59 ih =>
      intro j59 x1_59 locs ls hj hn hl hS X hF kx
      refine lv_iload_n hx hb dX5_digest_59 rfl (lv_at hl 2 rfl) ?_
      refine lv_aload_n hx hb dX5_digest_60 rfl (lv_at hl 0 rfl) ?_
      refine va_get (D := D) (ci := 5) (C := RX5) (T := TX5) (N := 5) hx hb hts iX5 hown hk.1 hP 0 (wC_0 _ _ _ _) rfl 0 (by decide) (hts (.fieldLink RX5 20 "BottleLoop" "now" "LBottleLoop$State;") (List.mem_of_getElem? (i := 2) rfl)) (fun _ h9 => h9) rfl dX5_digest_61 ?_
      refine lv_iconst (v := 0) hx hb dX5_digest_64 (by decide) ?_
      refine bcall_Ri (va_runVN (As := [.int 0]) (rest := [.int (nI j59)]) ⟨hx, hb, hml, hown, hts⟩ (C2_ofAll l D cI cO q _ _ hP 0) ⟨va_cnB 1 hts gX5_digest_X2_ofAll_n52 rfl rfl rfl (hk.2 (.methodLinkNest RX5 52 yX2_ofAll RX5) (List.mem_of_getElem? (i := 18) rfl)) (hts (.initialized RX2) (List.mem_of_getElem? (i := 24) rfl)) bd_X2ofAll ⟨Nat.le_of_ble_eq_true rfl, Nat.le_of_ble_eq_true rfl⟩, (hts (.instanceMethod yX2_ofAll) (List.mem_of_getElem? (i := 49) rfl)), (hts (.selects RX2 yX2_ofAll yX2_ofAll) (List.mem_of_getElem? (i := 50) rfl))⟩ (bPV hk (va_recv hk.1 hP (ci := 2) (q0 := 3) rfl (wC_3 _ _ _ _))) rfl rfl hl.1 rfl (lv_room (Nat.le_of_ble_eq_true rfl)) dX5_digest_65 ⟨Nat.zero_le _, Nat.zero_le _⟩) hS (fun locs hS => ?_)
      refine lv_icmp_ge (tgt := 84) hx hb dX5_digest_68 (by decide) (fun c_5 => ?_) (fun c_5 => ?_)
      · obtain rfl : X = x1_59 := by rw [← hF, L5_digest_59, if_pos c_5]
        exact kx _ _ (lv_sub hl [0, 1] rfl) hS
      · have hlt_6 : j59 < (F2_ofAll u 0).toNatClampNeg := bLtB c_5 (by omega)
        refine lv_aload_n hx hb dX5_digest_71 rfl (lv_at hl 0 rfl) ?_
        refine lv_lload_n hx hb dX5_digest_72 rfl (lv_at hl 1 rfl) ?_
        refine lv_iload_n hx hb dX5_digest_73 rfl (lv_at hl 2 rfl) ?_
        refine bcall_Rl (va_runV (As := [.long x1_59, .int (nI j59)]) (rest := []) ⟨hx, hb, hml, hown, hts⟩ (C5_mixedBrand l D cI cO q _ _ hP x1_59 (nI j59)) (cwV 2 hts gX5_digest_X5_mixedBrand rfl rfl rfl ⟨rfl, bd_X5mixedBrand⟩ ⟨Nat.le_of_ble_eq_true rfl, Nat.le_of_ble_eq_true rfl⟩) (bPV hk (va_recv hk.1 hP (ci := 5) (q0 := 0) rfl (wC_0 _ _ _ _))) rfl rfl hl.1 rfl (lv_room (Nat.le_of_ble_eq_true rfl)) dX5_digest_74 ⟨Nat.zero_le _, Nat.zero_le _⟩) hS (fun locs hS => ?_)
        refine lv_lstore_n (lv' := [(1, .long (F5_mixedBrand u x1_59 (nI j59))), (0, .ref (q 0)), (3, .int (nI j59))]) hx hb dX5_digest_77 rfl hl (by decide) rfl (fun ls hl => ?_)
        refine lv_iinc (v := (nI (j59 + 1))) (lv' := [(3, .int (nI (j59 + 1))), (1, .long (F5_mixedBrand u x1_59 (nI j59))), (0, .ref (q 0))]) hx hb dX5_digest_78 hl (k := 2) rfl (bInc j59) (by decide) rfl (fun ls hl => ?_)
        refine lv_goto (tgt := 59) hx hb dX5_digest_81 (by decide) ?_
        exact ih (j59 + 1) (F5_mixedBrand u x1_59 (nI j59)) _ _ (by omega) (by omega) (lv_sub hl [2, 1, 0] rfl) hS X (by rw [← hF, L5_digest_59, if_neg c_5]) kx
  refine loop59 ((F2_ofAll u 0).toNatClampNeg + 1) 0 (L5_digest_31 u (6 + 1) 0 (L5_digest_6 u (11 + 1) 0 2411)) _ _ (by omega) (by omega) (lv_sub hl [1, 2, 0] rfl) hS _ rfl (fun locs ls hl hS => ?_)
  refine lv_iconst (v := 0) hx hb dX5_digest_84 (by decide) ?_
  refine lv_istore_n (lv' := [(3, .int 0), (0, .ref (q 0)), (1, .long (L5_digest_59 u ((F2_ofAll u 0).toNatClampNeg + 1) 0 (L5_digest_31 u (6 + 1) 0 (L5_digest_6 u (11 + 1) 0 2411))))]) hx hb dX5_digest_85 rfl hl (by decide) rfl (fun ls hl => ?_)
  have hB86 := bClamp (F2_ofAll u 1)
  have loop86 : ∀ (n86 j86 : Nat) (x1_86 : Int64) (locs : List Loc) (ls : Array Slot), j86 ≤ (F2_ofAll u 1).toNatClampNeg → (F2_ofAll u 1).toNatClampNeg + 1 ≤ n86 + j86 → lv_has ls 4 [(0, .ref (q 0)), (1, .long x1_86), (3, .int (nI j86))] → va_S (bA 23 q s.heap.size) s.heap s.heap locs → ∀ X : Int64, L5_digest_86 u  n86 j86 x1_86 = X → (∀ (locs : List Loc) (ls : Array Slot), lv_has ls 4 [(0, .ref (q 0)), (1, .long X)] → va_S (bA 23 q s.heap.size) s.heap s.heap locs → W p l e (headSpec wsX5_digest ({ frames := 6, cells := 0, slots := 0, locals := 140 })).room s m ([.ref (q 0)] : List Value).toArray below meth c s.heap locs 0 0 (MQ below (bWl D (wC cI cO q) bT (bA 23 q s.heap.size) tgt) ([.ref (q 0)] : List Value).toArray s 0 0 (bA 23 q s.heap.size)) (F0 m 111 ls [])) → W p l e (headSpec wsX5_digest ({ frames := 6, cells := 0, slots := 0, locals := 140 })).room s m ([.ref (q 0)] : List Value).toArray below meth c s.heap locs 0 0 (MQ below (bWl D (wC cI cO q) bT (bA 23 q s.heap.size) tgt) ([.ref (q 0)] : List Value).toArray s 0 0 (bA 23 q s.heap.size)) (F0 m 86 ls []) := by
    intro n86
    induction n86 with
    | zero => intro j86 x1_86 locs ls hj hn; exact absurd hn (by omega)
    | succ n86 ih =>
      intro j86 x1_86 locs ls hj hn hl hS X hF kx
      refine lv_iload_n hx hb dX5_digest_86 rfl (lv_at hl 2 rfl) ?_
      refine lv_aload_n hx hb dX5_digest_87 rfl (lv_at hl 0 rfl) ?_
      refine va_get (D := D) (ci := 5) (C := RX5) (T := TX5) (N := 5) hx hb hts iX5 hown hk.1 hP 0 (wC_0 _ _ _ _) rfl 0 (by decide) (hts (.fieldLink RX5 20 "BottleLoop" "now" "LBottleLoop$State;") (List.mem_of_getElem? (i := 2) rfl)) (fun _ h9 => h9) rfl dX5_digest_88 ?_
      refine lv_iconst (v := 1) hx hb dX5_digest_91 (by decide) ?_
      refine bcall_Ri (va_runVN (As := [.int 1]) (rest := [.int (nI j86)]) ⟨hx, hb, hml, hown, hts⟩ (C2_ofAll l D cI cO q _ _ hP 1) ⟨va_cnB 1 hts gX5_digest_X2_ofAll_n52 rfl rfl rfl (hk.2 (.methodLinkNest RX5 52 yX2_ofAll RX5) (List.mem_of_getElem? (i := 18) rfl)) (hts (.initialized RX2) (List.mem_of_getElem? (i := 24) rfl)) bd_X2ofAll ⟨Nat.le_of_ble_eq_true rfl, Nat.le_of_ble_eq_true rfl⟩, (hts (.instanceMethod yX2_ofAll) (List.mem_of_getElem? (i := 49) rfl)), (hts (.selects RX2 yX2_ofAll yX2_ofAll) (List.mem_of_getElem? (i := 50) rfl))⟩ (bPV hk (va_recv hk.1 hP (ci := 2) (q0 := 3) rfl (wC_3 _ _ _ _))) rfl rfl hl.1 rfl (lv_room (Nat.le_of_ble_eq_true rfl)) dX5_digest_92 ⟨Nat.zero_le _, Nat.zero_le _⟩) hS (fun locs hS => ?_)
      refine lv_icmp_ge (tgt := 111) hx hb dX5_digest_95 (by decide) (fun c_7 => ?_) (fun c_7 => ?_)
      · obtain rfl : X = x1_86 := by rw [← hF, L5_digest_86, if_pos c_7]
        exact kx _ _ (lv_sub hl [0, 1] rfl) hS
      · have hlt_8 : j86 < (F2_ofAll u 1).toNatClampNeg := bLtB c_7 (by omega)
        refine lv_aload_n hx hb dX5_digest_98 rfl (lv_at hl 0 rfl) ?_
        refine lv_lload_n hx hb dX5_digest_99 rfl (lv_at hl 1 rfl) ?_
        refine lv_iload_n hx hb dX5_digest_100 rfl (lv_at hl 2 rfl) ?_
        refine bcall_Rl (va_runV (As := [.long x1_86, .int (nI j86)]) (rest := []) ⟨hx, hb, hml, hown, hts⟩ (C5_mixedShop l D cI cO q _ _ hP x1_86 (nI j86)) (cwV 2 hts gX5_digest_X5_mixedShop rfl rfl rfl ⟨rfl, bd_X5mixedShop⟩ ⟨Nat.le_of_ble_eq_true rfl, Nat.le_of_ble_eq_true rfl⟩) (bPV hk (va_recv hk.1 hP (ci := 5) (q0 := 0) rfl (wC_0 _ _ _ _))) rfl rfl hl.1 rfl (lv_room (Nat.le_of_ble_eq_true rfl)) dX5_digest_101 ⟨Nat.zero_le _, Nat.zero_le _⟩) hS (fun locs hS => ?_)
        refine lv_lstore_n (lv' := [(1, .long (F5_mixedShop u x1_86 (nI j86))), (0, .ref (q 0)), (3, .int (nI j86))]) hx hb dX5_digest_104 rfl hl (by decide) rfl (fun ls hl => ?_)
        refine lv_iinc (v := (nI (j86 + 1))) (lv' := [(3, .int (nI (j86 + 1))), (1, .long (F5_mixedShop u x1_86 (nI j86))), (0, .ref (q 0))]) hx hb dX5_digest_105 hl (k := 2) rfl (bInc j86) (by decide) rfl (fun ls hl => ?_)
        refine lv_goto (tgt := 86) hx hb dX5_digest_108 (by decide) ?_
        exact ih (j86 + 1) (F5_mixedShop u x1_86 (nI j86)) _ _ (by omega) (by omega) (lv_sub hl [2, 1, 0] rfl) hS X (by rw [← hF, L5_digest_86, if_neg c_7]) kx
  refine loop86 ((F2_ofAll u 1).toNatClampNeg + 1) 0 (L5_digest_59 u ((F2_ofAll u 0).toNatClampNeg + 1) 0 (L5_digest_31 u (6 + 1) 0 (L5_digest_6 u (11 + 1) 0 2411))) _ _ (by omega) (by omega) (lv_sub hl [1, 2, 0] rfl) hS _ rfl (fun locs ls hl hS => ?_)
  refine lv_iconst (v := 0) hx hb dX5_digest_111 (by decide) ?_
  refine lv_istore_n (lv' := [(3, .int 0), (0, .ref (q 0)), (1, .long (L5_digest_86 u ((F2_ofAll u 1).toNatClampNeg + 1) 0 (L5_digest_59 u ((F2_ofAll u 0).toNatClampNeg + 1) 0 (L5_digest_31 u (6 + 1) 0 (L5_digest_6 u (11 + 1) 0 2411)))))]) hx hb dX5_digest_112 rfl hl (by decide) rfl (fun ls hl => ?_)
  have loop113 : ∀ (n113 j113 : Nat) (x1_113 : Int64) (locs : List Loc) (ls : Array Slot), j113 ≤ 3 → 3 + 1 ≤ n113 + j113 → lv_has ls 4 [(0, .ref (q 0)), (1, .long x1_113), (3, .int (nI j113))] → va_S (bA 23 q s.heap.size) s.heap s.heap locs → ∀ X : Int64, L5_digest_113 u  n113 j113 x1_113 = X → (∀ (locs : List Loc) (ls : Array Slot), lv_has ls 4 [(0, .ref (q 0)), (1, .long X)] → va_S (bA 23 q s.heap.size) s.heap s.heap locs → W p l e (headSpec wsX5_digest ({ frames := 6, cells := 0, slots := 0, locals := 140 })).room s m ([.ref (q 0)] : List Value).toArray below meth c s.heap locs 0 0 (MQ below (bWl D (wC cI cO q) bT (bA 23 q s.heap.size) tgt) ([.ref (q 0)] : List Value).toArray s 0 0 (bA 23 q s.heap.size)) (F0 m 138 ls [])) → W p l e (headSpec wsX5_digest ({ frames := 6, cells := 0, slots := 0, locals := 140 })).room s m ([.ref (q 0)] : List Value).toArray below meth c s.heap locs 0 0 (MQ below (bWl D (wC cI cO q) bT (bA 23 q s.heap.size) tgt) ([.ref (q 0)] : List Value).toArray s 0 0 (bA 23 q s.heap.size)) (F0 m 113 ls []) := by
    intro n113
    induction n113 with
    | zero => intro j113 x1_113 locs ls hj hn; exact absurd hn (by omega)
    | succ n113 ih =>
      intro j113 x1_113 locs ls hj hn hl hS X hF kx
      refine lv_iload_n hx hb dX5_digest_113 rfl (lv_at hl 2 rfl) ?_
      refine lv_iconst (v := 3) hx hb dX5_digest_114 (by decide) ?_
      refine lv_icmp_ge (tgt := 138) hx hb dX5_digest_115 (by decide) (fun c_9 => ?_) (fun c_9 => ?_)
      · obtain rfl : X = x1_113 := by rw [← hF, L5_digest_113, if_pos c_9]
        exact kx _ _ (lv_sub hl [0, 1] rfl) hS
      · have hlt_10 : j113 < 3 := bLt c_9 (by omega) (by decide)
        refine lv_lload_n hx hb dX5_digest_118 rfl (lv_at hl 1 rfl) ?_
        refine lv_aload_n hx hb dX5_digest_119 rfl (lv_at hl 0 rfl) ?_
        refine va_get (D := D) (ci := 5) (C := RX5) (T := TX5) (N := 5) hx hb hts iX5 hown hk.1 hP 0 (wC_0 _ _ _ _) rfl 2 (by decide) (hts (.fieldLink RX5 12 "BottleLoop" "trade" "LBottleLoop$Trade;") (List.mem_of_getElem? (i := 3) rfl)) (fun _ h9 => h9) rfl dX5_digest_120 ?_
        refine lv_iload_n hx hb dX5_digest_123 rfl (lv_at hl 2 rfl) ?_
        refine bcall_Ri (va_runVN (As := [.int (nI j113)]) (rest := [.long x1_113]) ⟨hx, hb, hml, hown, hts⟩ (C4_bestToCollect l D cI cO q _ _ hP (nI j113)) ⟨va_cnB 1 hts gX5_digest_X4_bestToCollect_n204 rfl rfl rfl (hk.2 (.methodLinkNest RX5 204 yX4_bestToCollect RX5) (List.mem_of_getElem? (i := 27) rfl)) (hts (.initialized RX4) (List.mem_of_getElem? (i := 67) rfl)) bd_X4bestToCollect ⟨Nat.le_of_ble_eq_true rfl, Nat.le_of_ble_eq_true rfl⟩, (hts (.instanceMethod yX4_bestToCollect) (List.mem_of_getElem? (i := 100) rfl)), (hts (.selects RX4 yX4_bestToCollect yX4_bestToCollect) (List.mem_of_getElem? (i := 101) rfl))⟩ (bPV hk (va_recv hk.1 hP (ci := 4) (q0 := 1) rfl (wC_1 _ _ _ _))) rfl rfl hl.1 rfl (lv_room (Nat.le_of_ble_eq_true rfl)) dX5_digest_124 ⟨Nat.zero_le _, Nat.zero_le _⟩) hS (fun locs hS => ?_)
        refine lv_i2l (v := ((F4_bestToCollect u (nI j113))).toInt64) hx hb dX5_digest_127 rfl ?_
        refine bcall_Rl (va_runS (As := [.long x1_113, .long (((F4_bestToCollect u (nI j113))).toInt64)]) (rest := []) ⟨hx, hb, hml, hown, hts⟩ (C5_mixed l D cI cO q _ x1_113 (((F4_bestToCollect u (nI j113))).toInt64)) (va_cwS 2 hts gX5_digest_X5_mixed rfl rfl rfl bd_X5mixed ⟨Nat.le_of_ble_eq_true rfl, Nat.le_of_ble_eq_true rfl⟩) (bPS hk) rfl rfl hl.1 rfl (lv_room (Nat.le_of_ble_eq_true rfl)) dX5_digest_128 ⟨Nat.zero_le _, Nat.zero_le _⟩) hS (fun locs hS => ?_)
        refine lv_lstore_n (lv' := [(1, .long (F5_mixed x1_113 (((F4_bestToCollect u (nI j113))).toInt64))), (0, .ref (q 0)), (3, .int (nI j113))]) hx hb dX5_digest_131 rfl hl (by decide) rfl (fun ls hl => ?_)
        refine lv_iinc (v := (nI (j113 + 1))) (lv' := [(3, .int (nI (j113 + 1))), (1, .long (F5_mixed x1_113 (((F4_bestToCollect u (nI j113))).toInt64))), (0, .ref (q 0))]) hx hb dX5_digest_132 hl (k := 2) rfl (bInc j113) (by decide) rfl (fun ls hl => ?_)
        refine lv_goto (tgt := 113) hx hb dX5_digest_135 (by decide) ?_
        exact ih (j113 + 1) (F5_mixed x1_113 (((F4_bestToCollect u (nI j113))).toInt64)) _ _ (by omega) (by omega) (lv_sub hl [2, 1, 0] rfl) hS X (by rw [← hF, L5_digest_113, if_neg c_9]) kx
  refine loop113 (3 + 1) 0 (L5_digest_86 u ((F2_ofAll u 1).toNatClampNeg + 1) 0 (L5_digest_59 u ((F2_ofAll u 0).toNatClampNeg + 1) 0 (L5_digest_31 u (6 + 1) 0 (L5_digest_6 u (11 + 1) 0 2411)))) _ _ (by omega) (by omega) (lv_sub hl [1, 2, 0] rfl) hS _ rfl (fun locs ls hl hS => ?_)
  refine lv_aload_n hx hb dX5_digest_138 rfl (lv_at hl 0 rfl) ?_
  refine lv_aload_n hx hb dX5_digest_139 rfl (lv_at hl 0 rfl) ?_
  refine lv_lload_n hx hb dX5_digest_140 rfl (lv_at hl 1 rfl) ?_
  refine bcall_Wl (va_runV (As := [.long (L5_digest_113 u (3 + 1) 0 (L5_digest_86 u ((F2_ofAll u 1).toNatClampNeg + 1) 0 (L5_digest_59 u ((F2_ofAll u 0).toNatClampNeg + 1) 0 (L5_digest_31 u (6 + 1) 0 (L5_digest_6 u (11 + 1) 0 2411)))))]) (rest := [.ref (q 0)]) ⟨hx, hb, hml, hown, hts⟩ (C5_mixedCollected l D cI cO q _ _ hq hP (L5_digest_113 u (3 + 1) 0 (L5_digest_86 u ((F2_ofAll u 1).toNatClampNeg + 1) 0 (L5_digest_59 u ((F2_ofAll u 0).toNatClampNeg + 1) 0 (L5_digest_31 u (6 + 1) 0 (L5_digest_6 u (11 + 1) 0 2411)))))) (cwV 1 hts gX5_digest_X5_mixedCollected rfl rfl rfl ⟨rfl, bd_X5mixedCollected⟩ ⟨Nat.le_of_ble_eq_true rfl, Nat.le_of_ble_eq_true rfl⟩) (bPV hk (va_recv hk.1 hP (ci := 5) (q0 := 0) rfl (wC_0 _ _ _ _))) rfl rfl hl.1 rfl (lv_room (Nat.le_of_ble_eq_true rfl)) dX5_digest_141 ⟨Nat.zero_le _, Nat.zero_le _⟩) hS (fun H locs hP _ hS => ?_)
  refine lv_aload_n hx hb dX5_digest_144 rfl (lv_at hl 0 rfl) ?_
  refine bcall_Rd (va_runV (As := []) (rest := [.long (F5_mixedCollected u (L5_digest_113 u (3 + 1) 0 (L5_digest_86 u ((F2_ofAll u 1).toNatClampNeg + 1) 0 (L5_digest_59 u ((F2_ofAll u 0).toNatClampNeg + 1) 0 (L5_digest_31 u (6 + 1) 0 (L5_digest_6 u (11 + 1) 0 2411)))))).1, .ref (q 0)]) ⟨hx, hb, hml, hown, hts⟩ (C5_goneShare l D cI cO q _ _ hP  (gsOK_of hg (mixCol_0 _ _)).1) (cwV 0 hts gX5_digest_X5_goneShare rfl rfl rfl ⟨rfl, bd_X5goneShare⟩ ⟨Nat.le_of_ble_eq_true rfl, Nat.le_of_ble_eq_true rfl⟩) (bPV hk (va_recv hk.1 hP (ci := 5) (q0 := 0) rfl (wC_0 _ _ _ _))) rfl rfl hl.1 rfl (lv_room (Nat.le_of_ble_eq_true rfl)) dX5_digest_145 ⟨Nat.zero_le _, Nat.zero_le _⟩) hS (fun locs hS => ?_)
  refine bcall_Rl (va_runS (As := [.double (F5_goneShare (F5_mixedCollected u (L5_digest_113 u (3 + 1) 0 (L5_digest_86 u ((F2_ofAll u 1).toNatClampNeg + 1) 0 (L5_digest_59 u ((F2_ofAll u 0).toNatClampNeg + 1) 0 (L5_digest_31 u (6 + 1) 0 (L5_digest_6 u (11 + 1) 0 2411)))))).2)]) (rest := [.long (F5_mixedCollected u (L5_digest_113 u (3 + 1) 0 (L5_digest_86 u ((F2_ofAll u 1).toNatClampNeg + 1) 0 (L5_digest_59 u ((F2_ofAll u 0).toNatClampNeg + 1) 0 (L5_digest_31 u (6 + 1) 0 (L5_digest_6 u (11 + 1) 0 2411)))))).1, .ref (q 0)]) ⟨hx, hb, hml, hown, hts⟩ (C5_bitsOf l D cI cO q _ (F5_goneShare (F5_mixedCollected u (L5_digest_113 u (3 + 1) 0 (L5_digest_86 u ((F2_ofAll u 1).toNatClampNeg + 1) 0 (L5_digest_59 u ((F2_ofAll u 0).toNatClampNeg + 1) 0 (L5_digest_31 u (6 + 1) 0 (L5_digest_6 u (11 + 1) 0 2411)))))).2) (gsOK_of hg (mixCol_0 _ _)).2) (va_cwS 1 hts gX5_digest_X5_bitsOf rfl rfl rfl bd_X5bitsOf ⟨Nat.le_of_ble_eq_true rfl, Nat.le_of_ble_eq_true rfl⟩) (bPS hk) rfl rfl hl.1 rfl (lv_room (Nat.le_of_ble_eq_true rfl)) dX5_digest_148 ⟨Nat.zero_le _, Nat.zero_le _⟩) hS (fun locs hS => ?_)
  refine bcall_Rl (va_runS (As := [.long (F5_mixedCollected u (L5_digest_113 u (3 + 1) 0 (L5_digest_86 u ((F2_ofAll u 1).toNatClampNeg + 1) 0 (L5_digest_59 u ((F2_ofAll u 0).toNatClampNeg + 1) 0 (L5_digest_31 u (6 + 1) 0 (L5_digest_6 u (11 + 1) 0 2411)))))).1, .long (F5_bitsOf (F5_goneShare (F5_mixedCollected u (L5_digest_113 u (3 + 1) 0 (L5_digest_86 u ((F2_ofAll u 1).toNatClampNeg + 1) 0 (L5_digest_59 u ((F2_ofAll u 0).toNatClampNeg + 1) 0 (L5_digest_31 u (6 + 1) 0 (L5_digest_6 u (11 + 1) 0 2411)))))).2))]) (rest := [.ref (q 0)]) ⟨hx, hb, hml, hown, hts⟩ (C5_mixed l D cI cO q _ (F5_mixedCollected u (L5_digest_113 u (3 + 1) 0 (L5_digest_86 u ((F2_ofAll u 1).toNatClampNeg + 1) 0 (L5_digest_59 u ((F2_ofAll u 0).toNatClampNeg + 1) 0 (L5_digest_31 u (6 + 1) 0 (L5_digest_6 u (11 + 1) 0 2411)))))).1 (F5_bitsOf (F5_goneShare (F5_mixedCollected u (L5_digest_113 u (3 + 1) 0 (L5_digest_86 u ((F2_ofAll u 1).toNatClampNeg + 1) 0 (L5_digest_59 u ((F2_ofAll u 0).toNatClampNeg + 1) 0 (L5_digest_31 u (6 + 1) 0 (L5_digest_6 u (11 + 1) 0 2411)))))).2))) (va_cwS 2 hts gX5_digest_X5_mixed rfl rfl rfl bd_X5mixed ⟨Nat.le_of_ble_eq_true rfl, Nat.le_of_ble_eq_true rfl⟩) (bPS hk) rfl rfl hl.1 rfl (lv_room (Nat.le_of_ble_eq_true rfl)) dX5_digest_151 ⟨Nat.zero_le _, Nat.zero_le _⟩) hS (fun locs hS => ?_)
  refine bcall_Rl (va_runV (As := [.long (F5_mixed (F5_mixedCollected u (L5_digest_113 u (3 + 1) 0 (L5_digest_86 u ((F2_ofAll u 1).toNatClampNeg + 1) 0 (L5_digest_59 u ((F2_ofAll u 0).toNatClampNeg + 1) 0 (L5_digest_31 u (6 + 1) 0 (L5_digest_6 u (11 + 1) 0 2411)))))).1 (F5_bitsOf (F5_goneShare (F5_mixedCollected u (L5_digest_113 u (3 + 1) 0 (L5_digest_86 u ((F2_ofAll u 1).toNatClampNeg + 1) 0 (L5_digest_59 u ((F2_ofAll u 0).toNatClampNeg + 1) 0 (L5_digest_31 u (6 + 1) 0 (L5_digest_6 u (11 + 1) 0 2411)))))).2)))]) (rest := []) ⟨hx, hb, hml, hown, hts⟩ (C5_mixedText l D cI cO q _ _ hP (F5_mixed (F5_mixedCollected u (L5_digest_113 u (3 + 1) 0 (L5_digest_86 u ((F2_ofAll u 1).toNatClampNeg + 1) 0 (L5_digest_59 u ((F2_ofAll u 0).toNatClampNeg + 1) 0 (L5_digest_31 u (6 + 1) 0 (L5_digest_6 u (11 + 1) 0 2411)))))).1 (F5_bitsOf (F5_goneShare (F5_mixedCollected u (L5_digest_113 u (3 + 1) 0 (L5_digest_86 u ((F2_ofAll u 1).toNatClampNeg + 1) 0 (L5_digest_59 u ((F2_ofAll u 0).toNatClampNeg + 1) 0 (L5_digest_31 u (6 + 1) 0 (L5_digest_6 u (11 + 1) 0 2411)))))).2)))) (cwV 1 hts gX5_digest_X5_mixedText rfl rfl rfl ⟨rfl, bd_X5mixedText⟩ ⟨Nat.le_of_ble_eq_true rfl, Nat.le_of_ble_eq_true rfl⟩) (bPV hk (va_recv hk.1 hP (ci := 5) (q0 := 0) rfl (wC_0 _ _ _ _))) rfl rfl hl.1 rfl (lv_room (Nat.le_of_ble_eq_true rfl)) dX5_digest_154 ⟨Nat.zero_le _, Nat.zero_le _⟩) hS (fun locs hS => ?_)
  exact bret_Wl hx hb hr hP trivial hS hlocks dX5_digest_157 (by rw [← hF, F5_digest])

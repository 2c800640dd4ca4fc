-- Double.doubleToLongBits; gone; goneShare (own text, part by program)
theorem sh_eq {x : UInt64} (h : shOK x) : Op.cmpValue (FP.dcmp x x) .l = 0 := by
  rcases h with rfl | ⟨c, q, ⟨h1, h2, h3, h4⟩, rfl⟩
  · decide +kernel
  · have h : FP.dcmp (nd c q) (nd c q) = some .eq := by
      show FP.Core.order (FP.Core.decode FP.Core.b64 (nd c q).toNat) (FP.Core.decode FP.Core.b64 (nd c q).toNat) = _
      rw [dec_nd h1 h2 (by omega) (by omega), ord_pos, cmp_int, if_neg (Int.lt_irrefl _), if_pos rfl]
    rw [h]; rfl
set_option maxHeartbeats 4000000 in
set_option maxRecDepth 100000 in
theorem C6_isNaN (l : Launch) (D : va_G) (cI : ClassId) (H0 : Heap) (x : UInt64) (hsh : shOK x) : Met l yJxe99ae_isNaN_b9ae7 wsJxe99ae_isNaN_b9ae7 ({ frames := 0, cells := 0, slots := 0, locals := 0 }) (bP D [(cI, .int)] H0 [.double x]) (bRi H0 0) 0 0 (fun _ => False) := by
  refine Met.ofW (cc := cJxe99ae_isNaN_b9ae7) (maxL := 2) (ret := (some .boolean)) (by decide) rfl ?_
  intro p e s m args below meth c s₁ B hml hv
  obtain ⟨rfl, hH, hk⟩ := hv
  subst hH
  have hx := B.exec
  have hb := B.bytes
  have hr := B.returns
  have hlocks := B.notSynchronized
  have hS : va_S (fun _ => False) s.heap s.heap [] := va_S.rf
  have hl := lv_entry ([.double x]) (n := 2) (Nat.le_of_ble_eq_true rfl)
  rw [lg_entry_eq]
  generalize (lg_sl ([.double x]) ++ List.replicate (2 - (lg_sl ([.double x])).length) Slot.unset).toArray = ls at hl ⊢
  have hl : lv_has ls 2 [(0, .double x)] := hl
  refine lv_dload_n hx hb dJxe99ae_isNaN_b9ae7_0 rfl (lv_at hl 0 rfl) ?_
  refine lv_dload_n hx hb dJxe99ae_isNaN_b9ae7_1 rfl (lv_at hl 0 rfl) ?_
  refine lv_dcmp hx hb dJxe99ae_isNaN_b9ae7_2 ?_
  rw [sh_eq hsh]
  refine lv_if_eq (tgt := 10) hx hb dJxe99ae_isNaN_b9ae7_3 (by decide) (fun _ => ?_) (fun h9 => absurd (by decide) h9)
  refine lv_iconst (v := 0) hx hb dJxe99ae_isNaN_b9ae7_10 (by decide) ?_
  exact bret_Rz hx hb hr hS hlocks dJxe99ae_isNaN_b9ae7_11 (Or.inl rfl) rfl
theorem bd_JisNaN : yJxe99ae_isNaN_b9ae7.cls ≠ "java/lang/invoke/MethodHandle" ∧ yJxe99ae_isNaN_b9ae7.cls ≠ "java/lang/invoke/VarHandle" ∧ (parseMethodDescriptor yJxe99ae_isNaN_b9ae7.desc).map (fun d => d.parameters.length) = some 1 := by decide +kernel
set_option maxHeartbeats 4000000 in
set_option maxRecDepth 100000 in
theorem C6_dtlb (l : Launch) (D : va_G) (cI : ClassId) (H0 : Heap) (x : UInt64) (hsh : shOK x) : Met l yJxe99ae_doubleToLongBits_ccdee wsJxe99ae_doubleToLongBits_ccdee ({ frames := 2, cells := 0, slots := 0, locals := 61 }) (bP D [(cI, .int)] H0 [.double x]) (bRl H0 x.toInt64) 0 0 (fun _ => False) := by
  refine Met.ofW (cc := cJxe99ae_doubleToLongBits_ccdee) (maxL := 2) (ret := (some .long)) (by decide) rfl ?_
  intro p e s m args below meth c s₁ B hml hv
  obtain ⟨rfl, hH, hk⟩ := hv
  subst hH
  have hx := B.exec
  have hb := B.bytes
  have hr := B.returns
  have hts := atoms_spec (ws := wsJxe99ae_doubleToLongBits_ccdee) B.pre
  have hown : s.vm.findClass RJxe99ae = some m.cls := findClass_of_methodNamed B.named
  have hlocks := B.notSynchronized
  have hS : va_S (fun _ => False) s.heap s.heap [] := va_S.rf
  have hl := lv_entry ([.double x]) (n := 2) (Nat.le_of_ble_eq_true rfl)
  rw [lg_entry_eq]
  generalize (lg_sl ([.double x]) ++ List.replicate (2 - (lg_sl ([.double x])).length) Slot.unset).toArray = ls at hl ⊢
  have hl : lv_has ls 2 [(0, .double x)] := hl
  refine lv_dload_n hx hb dJxe99ae_doubleToLongBits_ccdee_0 rfl (lv_at hl 0 rfl) ?_
  refine bcall_Ri (va_runS (As := [.double x]) (rest := []) ⟨hx, hb, hml, hown, hts⟩ (C6_isNaN l D cI _ x hsh) (va_cwS 1 hts gJxe99ae_doubleToLongBits_ccdee_Jxe99ae_isNaN_b9ae7 rfl rfl rfl bd_JisNaN ⟨Nat.le_of_ble_eq_true rfl, Nat.le_of_ble_eq_true rfl⟩) (bPS hk) rfl rfl hl.1 rfl (lv_room (Nat.le_of_ble_eq_true rfl)) dJxe99ae_doubleToLongBits_ccdee_1 ⟨Nat.zero_le _, Nat.zero_le _⟩) hS (fun locs hS => ?_)
  refine lv_if_ne (tgt := 12) hx hb dJxe99ae_doubleToLongBits_ccdee_4 (by decide) (fun h9 => absurd rfl h9) (fun _ => ?_)
  refine lv_dload_n hx hb dJxe99ae_doubleToLongBits_ccdee_7 rfl (lv_at hl 0 rfl) ?_
  refine vn_d2l hx hb (hml.trans hl.1.symm) hown (hts (.methodLink RJxe99ae 134 ⟨"java/lang/Double", "doubleToRawLongBits", "(D)J"⟩) (List.mem_of_getElem? (i := 1) rfl)) (hts (.native ⟨"java/lang/Double", "doubleToRawLongBits", "(D)J"⟩) (List.mem_of_getElem? (i := 2) rfl)) (hts (.static ⟨"java/lang/Double", "doubleToRawLongBits", "(D)J"⟩) (List.mem_of_getElem? (i := 3) rfl)) (hts (.initialized "java/lang/Double") (List.mem_of_getElem? (i := 4) rfl)) (Nat.le_of_ble_eq_true rfl) (Nat.le_of_ble_eq_true rfl) dJxe99ae_doubleToLongBits_ccdee_8 ?_
  exact bret_Rl hx hb hr hS hlocks dJxe99ae_doubleToLongBits_ccdee_11 rfl
theorem bd_X6gone : yX6_gone.cls ≠ "java/lang/invoke/MethodHandle" ∧ yX6_gone.cls ≠ "java/lang/invoke/VarHandle" ∧ (parseMethodDescriptor yX6_gone.desc).map (fun d => d.parameters.length) = some 0 := by decide +kernel
def L6_gone_19 (u : bU) (j6 : Nat) : Nat → Nat → Int32 → Int32 → Int32 × Int32
  | 0, _, x1_19, x2_19 => (x1_19, x2_19)
  | n19 + 1, j19, x1_19, x2_19 => (if (10 : Int32) ≤ (nI j19) then (x1_19, x2_19) else (if (nI j19) ≤ (6 : Int32) then (L6_gone_19 u j6 n19 (j19 + 1) (x1_19 + (F6_aboutBrand u (nI j6) (nI j19))) (x2_19 + 0)) else (L6_gone_19 u j6 n19 (j19 + 1) (x1_19 + (F6_aboutBrand u (nI j6) (nI j19))) (x2_19 + (F6_aboutBrand u (nI j6) (nI j19))))))
def L6_gone_6 (u : bU) : Nat → Nat → Int32 → Int32 → Int32 × Int32
  | 0, _, x1_6, x2_6 => (x1_6, x2_6)
  | n6 + 1, j6, x1_6, x2_6 => (if (u 0 0) ≤ (nI j6) then (x1_6, x2_6) else (L6_gone_6 u n6 (j6 + 1) (L6_gone_19 u j6 (10 + 1) 1 x1_6 x2_6).1 (L6_gone_19 u j6 (10 + 1) 1 x1_6 x2_6).2))
def F6_gone (u : bU) : UInt64 := (if (L6_gone_6 u ((u 0 0).toNatClampNeg + 1) 0 0 0).1 = 0 then FP.dconst0 else (FP.ddiv (FP.i2d (L6_gone_6 u ((u 0 0).toNatClampNeg + 1) 0 0 0).2) (FP.i2d (L6_gone_6 u ((u 0 0).toNatClampNeg + 1) 0 0 0).1)))
set_option maxHeartbeats 4000000 in
set_option maxRecDepth 100000 in
theorem C6_gone (l : Launch) (D : va_G) (cI : ClassId) (q : Nat → Nat) (u : bU) (H0 : Heap) (hP : va_P D vwCl (wM cI q u) H0) (hI : mInv u) (hnn : ¬ (L6_gone_6 u ((u 0 0).toNatClampNeg + 1) 0 0 0).1 = 0 → vf_n64 (FP.ddiv (FP.i2d (L6_gone_6 u ((u 0 0).toNatClampNeg + 1) 0 0 0).2) (FP.i2d (L6_gone_6 u ((u 0 0).toNatClampNeg + 1) 0 0 0).1))) : Met l yX6_gone wsX6_gone ({ frames := 4, cells := 0, slots := 0, locals := 89 }) (bP D [(cI, .int)] H0 [.ref (q 0)]) (bRd H0 (F6_gone u)) 0 0 (fun _ => False) := by
  refine Met.ofW (cc := cX6_gone) (maxL := 5) (ret := (some .double)) (by decide) rfl ?_
  intro p e s m args below meth c s₁ B hml hv
  obtain ⟨rfl, hH, hk⟩ := hv
  subst hH
  have hx := B.exec
  have hb := B.bytes
  have hr := B.returns
  have hts := atoms_spec (ws := wsX6_gone) B.pre
  have hown : s.vm.findClass RX6 = some m.cls := findClass_of_methodNamed B.named
  have hlocks := B.notSynchronized
  have hNB := mNB hI
  have hNS := mNS hI
  have hI0 := hI
  have iX6 : ∀ w ∈ wsX60, w ∈ wsX6_gone := by decide +kernel
  have hS : va_S (fun _ => False) s.heap s.heap [] := va_S.rf
  have hl := lv_entry ([.ref (q 0)]) (n := 5) (Nat.le_of_ble_eq_true rfl)
  rw [lg_entry_eq]
  generalize (lg_sl ([.ref (q 0)]) ++ List.replicate (5 - (lg_sl ([.ref (q 0)])).length) Slot.unset).toArray = ls at hl ⊢
  have hl : lv_has ls 5 [(0, .ref (q 0))] := hl
  generalize hF : F6_gone u = tgt
  refine lv_iconst (v := 0) hx hb dX6_gone_0 (by decide) ?_
  refine lv_istore_n (lv' := [(1, .int 0), (0, .ref (q 0))]) hx hb dX6_gone_1 rfl hl (by decide) rfl (fun ls hl => ?_)
  refine lv_iconst (v := 0) hx hb dX6_gone_2 (by decide) ?_
  refine lv_istore_n (lv' := [(2, .int 0), (1, .int 0), (0, .ref (q 0))]) hx hb dX6_gone_3 rfl hl (by decide) rfl (fun ls hl => ?_)
  refine lv_iconst (v := 0) hx hb dX6_gone_4 (by decide) ?_
  refine lv_istore_n (lv' := [(3, .int 0), (2, .int 0), (1, .int 0), (0, .ref (q 0))]) hx hb dX6_gone_5 rfl hl (by decide) rfl (fun ls hl => ?_)
  have hB6 := bClamp (u 0 0)
  have loop6 : ∀ (n6 j6 : Nat) (x1_6 : Int32) (x2_6 : Int32) (locs : List Loc) (ls : Array Slot), j6 ≤ (u 0 0).toNatClampNeg → (u 0 0).toNatClampNeg + 1 ≤ n6 + j6 → lv_has ls 5 [(0, .ref (q 0)), (1, .int x1_6), (2, .int x2_6), (3, .int (nI j6))] → va_S (fun _ => False) s.heap s.heap locs → ∀ X : Int32 × Int32, L6_gone_6 u  n6 j6 x1_6 x2_6 = X → (∀ (locs : List Loc) (ls : Array Slot), lv_has ls 5 [(0, .ref (q 0)), (1, .int X.1), (2, .int X.2)] → va_S (fun _ => False) s.heap s.heap locs → W p l e (headSpec wsX6_gone ({ frames := 4, cells := 0, slots := 0, locals := 89 })).room s m ([.ref (q 0)] : List Value).toArray below meth c s.heap locs 0 0 (MQ below (bRd s.heap tgt) ([.ref (q 0)] : List Value).toArray s 0 0 (fun _ => False)) (F0 m 69 ls [])) → W p l e (headSpec wsX6_gone ({ frames := 4, cells := 0, slots := 0, locals := 89 })).room s m ([.ref (q 0)] : List Value).toArray below meth c s.heap locs 0 0 (MQ below (bRd s.heap tgt) ([.ref (q 0)] : List Value).toArray s 0 0 (fun _ => False)) (F0 m 6 ls []) := by
    intro n6
    induction n6 with
    | zero => intro j6 x1_6 x2_6 locs ls hj hn; exact absurd hn (by omega)
    | succ n6 ih =>
      intro j6 x1_6 x2_6 locs ls hj hn hl hS X hF kx
      refine lv_iload_n hx hb dX6_gone_6 rfl (lv_at hl 3 rfl) ?_
      refine lv_aload_n hx hb dX6_gone_7 rfl (lv_at hl 0 rfl) ?_
      refine va_get (D := D) (ci := 6) (C := RX6) (T := TX6) (N := 16) hx hb hts iX6 hown hk.1 hP 0 (wM_0 _ _ _) rfl 0 (by decide) (hts (.fieldLink RX6 7 "BottleLoopModel" "v" "[I") (List.mem_of_getElem? (i := 1) rfl)) (fun _ h9 => h9) rfl dX6_gone_8 ?_
      refine lv_iconst (v := 0) hx hb dX6_gone_11 (by decide) ?_
      refine va_iald hx hb hk.1 hP 1 0 (wM_1 _ _ _) rfl (vp_in_nI (n := 0) (by decide) (by decide)) dX6_gone_12 ?_
      refine lv_topi (fun z9 hz9 => ?_)
      obtain rfl : z9 = (u 0 0) := hz9.trans rfl
      refine lv_icmp_ge (tgt := 69) hx hb dX6_gone_13 (by decide) (fun c_1 => ?_) (fun c_1 => ?_)
      · obtain rfl : X = (x1_6, x2_6) := by rw [← hF, L6_gone_6, if_pos c_1]
        exact kx _ _ (lv_sub hl [0, 1, 2] rfl) hS
      · have hlt_2 : j6 < (u 0 0).toNatClampNeg := bLtB c_1 (by omega)
        refine lv_iconst (v := 1) hx hb dX6_gone_16 (by decide) ?_
        refine lv_istore (lv' := [(4, .int 1), (0, .ref (q 0)), (1, .int x1_6), (2, .int x2_6), (3, .int (nI j6))]) hx hb dX6_gone_17 hl (by decide) rfl (fun ls hl => ?_)
        have loop19 : ∀ (n19 j19 : Nat) (x1_19 : Int32) (x2_19 : Int32) (locs : List Loc) (ls : Array Slot), j19 ≤ 10 → 10 + 1 ≤ n19 + j19 → lv_has ls 5 [(0, .ref (q 0)), (1, .int x1_19), (2, .int x2_19), (3, .int (nI j6)), (4, .int (nI j19))] → va_S (fun _ => False) s.heap s.heap locs → ∀ X : Int32 × Int32, L6_gone_19 u j6  n19 j19 x1_19 x2_19 = X → (∀ (locs : List Loc) (ls : Array Slot), lv_has ls 5 [(0, .ref (q 0)), (1, .int X.1), (2, .int X.2), (3, .int (nI j6))] → va_S (fun _ => False) s.heap s.heap locs → W p l e (headSpec wsX6_gone ({ frames := 4, cells := 0, slots := 0, locals := 89 })).room s m ([.ref (q 0)] : List Value).toArray below meth c s.heap locs 0 0 (MQ below (bRd s.heap tgt) ([.ref (q 0)] : List Value).toArray s 0 0 (fun _ => False)) (F0 m 63 ls [])) → W p l e (headSpec wsX6_gone ({ frames := 4, cells := 0, slots := 0, locals := 89 })).room s m ([.ref (q 0)] : List Value).toArray below meth c s.heap locs 0 0 (MQ below (bRd s.heap tgt) ([.ref (q 0)] : List Value).toArray s 0 0 (fun _ => False)) (F0 m 19 ls []) := by
          intro n19
          induction n19 with
          | zero => intro j19 x1_19 x2_19 locs ls hj hn; exact absurd hn (by omega)
          | succ n19 ih =>
            intro j19 x1_19 x2_19 locs ls hj hn hl hS X hF kx
            refine lv_iload hx hb dX6_gone_19 (lv_at hl 4 rfl) ?_
            refine lv_bipush (v := 10) hx hb dX6_gone_21 (by decide) ?_
            refine lv_icmp_ge (tgt := 63) hx hb dX6_gone_23 (by decide) (fun c_3 => ?_) (fun c_3 => ?_)
            · obtain rfl : X = (x1_19, x2_19) := by rw [← hF, L6_gone_19, if_pos c_3]
              exact kx _ _ (lv_sub hl [0, 1, 2, 3] rfl) hS
            · have hlt_4 : j19 < 10 := bLt c_3 (by omega) (by decide)
              refine lv_iload_n hx hb dX6_gone_26 rfl (lv_at hl 1 rfl) ?_
              refine lv_aload_n hx hb dX6_gone_27 rfl (lv_at hl 0 rfl) ?_
              refine lv_iload_n hx hb dX6_gone_28 rfl (lv_at hl 3 rfl) ?_
              refine lv_iload hx hb dX6_gone_29 (lv_at hl 4 rfl) ?_
              refine bcall_Ri (va_runV (As := [.int (nI j6), .int (nI j19)]) (rest := [.int x1_19]) ⟨hx, hb, hml, hown, hts⟩ (C6_aboutBrand l D cI q _ _ hP hI (nI j6) (nI j19) (mB_nI (by omega)) (mW_nI (by omega))) (cwV 2 hts gX6_gone_X6_aboutBrand rfl rfl rfl ⟨rfl, bd_X6aboutBrand⟩ ⟨Nat.le_of_ble_eq_true rfl, Nat.le_of_ble_eq_true rfl⟩) (bPV hk (va_recv hk.1 hP (ci := 6) (q0 := 0) rfl (wM_0 _ _ _))) rfl rfl hl.1 rfl (lv_room (Nat.le_of_ble_eq_true rfl)) dX6_gone_31 ⟨Nat.zero_le _, Nat.zero_le _⟩) hS (fun locs hS => ?_)
              refine lv_iadd hx hb dX6_gone_34 ?_
              refine lv_istore_n (lv' := [(1, .int (x1_19 + (F6_aboutBrand u (nI j6) (nI j19)))), (0, .ref (q 0)), (2, .int x2_19), (3, .int (nI j6)), (4, .int (nI j19))]) hx hb dX6_gone_35 rfl hl (by decide) rfl (fun ls hl => ?_)
              refine lv_iload_n hx hb dX6_gone_36 rfl (lv_at hl 2 rfl) ?_
              refine lv_iload hx hb dX6_gone_37 (lv_at hl 4 rfl) ?_
              refine lv_bipush (v := 6) hx hb dX6_gone_39 (by decide) ?_
              refine lv_icmp_le (tgt := 54) hx hb dX6_gone_41 (by decide) (fun c_5 => ?_) (fun c_5 => ?_)
              · refine lv_iconst (v := 0) hx hb dX6_gone_54 (by decide) ?_
                refine lv_iadd hx hb dX6_gone_55 ?_
                refine lv_istore_n (lv' := [(2, .int (x2_19 + 0)), (1, .int (x1_19 + (F6_aboutBrand u (nI j6) (nI j19)))), (0, .ref (q 0)), (3, .int (nI j6)), (4, .int (nI j19))]) hx hb dX6_gone_56 rfl hl (by decide) rfl (fun ls hl => ?_)
                refine lv_iinc (v := (nI (j19 + 1))) (lv' := [(4, .int (nI (j19 + 1))), (2, .int (x2_19 + 0)), (1, .int (x1_19 + (F6_aboutBrand u (nI j6) (nI j19)))), (0, .ref (q 0)), (3, .int (nI j6))]) hx hb dX6_gone_57 hl (k := 4) rfl (bInc j19) (by decide) rfl (fun ls hl => ?_)
                refine lv_goto (tgt := 19) hx hb dX6_gone_60 (by decide) ?_
                exact ih (j19 + 1) (x1_19 + (F6_aboutBrand u (nI j6) (nI j19))) (x2_19 + 0) _ _ (by omega) (by omega) (lv_sub hl [3, 2, 1, 4, 0] rfl) hS X (by rw [← hF, L6_gone_19, if_neg c_3, if_pos c_5]) kx
              · refine lv_aload_n hx hb dX6_gone_44 rfl (lv_at hl 1 rfl) ?_
                refine lv_iload_n hx hb dX6_gone_45 rfl (lv_at hl 3 rfl) ?_
                refine lv_iload hx hb dX6_gone_46 (lv_at hl 4 rfl) ?_
                refine bcall_Ri (va_runV (As := [.int (nI j6), .int (nI j19)]) (rest := [.int x2_19]) ⟨hx, hb, hml, hown, hts⟩ (C6_aboutBrand l D cI q _ _ hP hI (nI j6) (nI j19) (mB_nI (by omega)) (mW_nI (by omega))) (cwV 2 hts gX6_gone_X6_aboutBrand rfl rfl rfl ⟨rfl, bd_X6aboutBrand⟩ ⟨Nat.le_of_ble_eq_true rfl, Nat.le_of_ble_eq_true rfl⟩) (bPV hk (va_recv hk.1 hP (ci := 6) (q0 := 0) rfl (wM_0 _ _ _))) rfl rfl hl.1 rfl (lv_room (Nat.le_of_ble_eq_true rfl)) dX6_gone_48 ⟨Nat.zero_le _, Nat.zero_le _⟩) hS (fun locs hS => ?_)
                refine lv_goto (tgt := 55) hx hb dX6_gone_51 (by decide) ?_
                refine lv_iadd hx hb dX6_gone_55 ?_
                refine lv_istore_n (lv' := [(2, .int (x2_19 + (F6_aboutBrand u (nI j6) (nI j19)))), (1, .int (x1_19 + (F6_aboutBrand u (nI j6) (nI j19)))), (0, .ref (q 0)), (3, .int (nI j6)), (4, .int (nI j19))]) hx hb dX6_gone_56 rfl hl (by decide) rfl (fun ls hl => ?_)
                refine lv_iinc (v := (nI (j19 + 1))) (lv' := [(4, .int (nI (j19 + 1))), (2, .int (x2_19 + (F6_aboutBrand u (nI j6) (nI j19)))), (1, .int (x1_19 + (F6_aboutBrand u (nI j6) (nI j19)))), (0, .ref (q 0)), (3, .int (nI j6))]) hx hb dX6_gone_57 hl (k := 4) rfl (bInc j19) (by decide) rfl (fun ls hl => ?_)
                refine lv_goto (tgt := 19) hx hb dX6_gone_60 (by decide) ?_
                exact ih (j19 + 1) (x1_19 + (F6_aboutBrand u (nI j6) (nI j19))) (x2_19 + (F6_aboutBrand u (nI j6) (nI j19))) _ _ (by omega) (by omega) (lv_sub hl [3, 2, 1, 4, 0] rfl) hS X (by rw [← hF, L6_gone_19, if_neg c_3, if_neg c_5]) kx
        refine loop19 (10 + 1) 1 x1_6 x2_6 _ _ (by omega) (by omega) (lv_sub hl [1, 2, 3, 4, 0] rfl) hS _ rfl (fun locs ls hl hS => ?_)
        refine lv_iinc (v := (nI (j6 + 1))) (lv' := [(3, .int (nI (j6 + 1))), (0, .ref (q 0)), (1, .int (L6_gone_19 u j6 (10 + 1) 1 x1_6 x2_6).1), (2, .int (L6_gone_19 u j6 (10 + 1) 1 x1_6 x2_6).2)]) hx hb dX6_gone_63 hl (k := 3) rfl (bInc j6) (by decide) rfl (fun ls hl => ?_)
        refine lv_goto (tgt := 6) hx hb dX6_gone_66 (by decide) ?_
        exact ih (j6 + 1) (L6_gone_19 u j6 (10 + 1) 1 x1_6 x2_6).1 (L6_gone_19 u j6 (10 + 1) 1 x1_6 x2_6).2 _ _ (by omega) (by omega) (lv_sub hl [1, 2, 3, 0] rfl) hS X (by rw [← hF, L6_gone_6, if_neg c_1]) kx
  refine loop6 ((u 0 0).toNatClampNeg + 1) 0 0 0 _ _ (by omega) (by omega) (lv_sub hl [3, 2, 1, 0] rfl) hS _ rfl (fun locs ls hl hS => ?_)
  refine lv_iload_n hx hb dX6_gone_69 rfl (lv_at hl 1 rfl) ?_
  refine lv_if_ne (tgt := 77) hx hb dX6_gone_70 (by decide) (fun c_6 => ?_) (fun c_6 => ?_)
  · refine lv_iload_n hx hb dX6_gone_77 rfl (lv_at hl 2 rfl) ?_
    refine lv_i2d hx hb dX6_gone_78 ?_
    refine lv_iload_n hx hb dX6_gone_79 rfl (lv_at hl 1 rfl) ?_
    refine lv_i2d hx hb dX6_gone_80 ?_
    refine lv_ddiv hx hb dX6_gone_81 (hnn c_6) ?_
    exact bret_Rd hx hb hr hS hlocks dX6_gone_82 (by rw [← hF, F6_gone, if_neg c_6])
  · refine lv_dconst0 hx hb dX6_gone_73 ?_
    refine lv_goto (tgt := 82) hx hb dX6_gone_74 (by decide) ?_
    exact bret_Rd hx hb hr hS hlocks dX6_gone_82 (by rw [← hF, F6_gone, if_pos c_6])
def gmOK (u : bU) : Prop := (¬ (L6_gone_6 u ((u 0 0).toNatClampNeg + 1) 0 0 0).1 = 0 → vf_n64 (FP.ddiv (FP.i2d (L6_gone_6 u ((u 0 0).toNatClampNeg + 1) 0 0 0).2) (FP.i2d (L6_gone_6 u ((u 0 0).toNatClampNeg + 1) 0 0 0).1))) ∧ shOK (F6_gone u)
def F6_goneShare (u : bU) : UInt64 × bU := ((F6_gone (bput u 6 2 0)), (bput u 6 2 0))
set_option maxHeartbeats 4000000 in
set_option maxRecDepth 100000 in
theorem C6_goneShare (l : Launch) (D : va_G) (cI : ClassId) (q : Nat → Nat) (u : bU) (H0 : Heap) (hq : bInj 7 q) (hP : va_P D vwCl (wM cI q u) H0) (hI : mInv u) (hg : gmOK (bput u 6 2 0)) : Met l yX6_goneShare wsX6_goneShare ({ frames := 5, cells := 0, slots := 0, locals := 113 }) (bP D [(cI, .int)] H0 [.ref (q 0)]) (bWd D (wM cI q) mInv (bA 7 q H0.size) (F6_goneShare u)) 0 0 (bA 7 q H0.size) := by
  refine Met.ofW (cc := cX6_goneShare) (maxL := 1) (ret := (some .double)) (by decide) rfl ?_
  intro p e s m args below meth c s₁ B hml hv
  obtain ⟨rfl, hH, hk⟩ := hv
  subst hH
  have hx := B.exec
  have hb := B.bytes
  have hr := B.returns
  have hts := atoms_spec (ws := wsX6_goneShare) B.pre
  have hown : s.vm.findClass RX6 = some m.cls := findClass_of_methodNamed B.named
  have hlocks := B.notSynchronized
  have hNB := mNB hI
  have hNS := mNS hI
  have hI0 := hI
  have iX6 : ∀ w ∈ wsX60, w ∈ wsX6_goneShare := by decide +kernel
  have hS : va_S (bA 7 q s.heap.size) s.heap s.heap [] := va_S.rf
  have hl := lv_entry ([.ref (q 0)]) (n := 1) (Nat.le_of_ble_eq_true rfl)
  rw [lg_entry_eq]
  generalize (lg_sl ([.ref (q 0)]) ++ List.replicate (1 - (lg_sl ([.ref (q 0)])).length) Slot.unset).toArray = ls at hl ⊢
  have hl : lv_has ls 1 [(0, .ref (q 0))] := hl
  generalize hF : F6_goneShare u = tgt
  refine lv_aload_n hx hb dX6_goneShare_0 rfl (lv_at hl 0 rfl) ?_
  refine lv_iconst (v := 0) hx hb dX6_goneShare_1 (by decide) ?_
  refine va_put (D := D) (ci := 6) (v := .int 0) (ty := .int) (C := RX6) (T := TX6) (N := 16) hx hb hts iX6 tyX6 tyX6_ok nmX6 hown hk.1 hP (wM_D hq) hS 0 (wM_0 _ _ _) rfl 6 (by decide) (hts (.fieldLink RX6 28 "BottleLoopModel" "thrown" "I") (List.mem_of_getElem? (i := 1) rfl)) (fun _ h9 => h9) rfl (by decide +kernel) rfl rfl (Nat.le_of_ble_eq_true rfl) dX6_goneShare_2 (fun H locs hP _ hS => ?_)
  have hP : va_P D vwCl (wM cI q (bput u 6 2 0)) H := pM_f2 hP
  have hI_1 : mInv (bput u 6 2 0) := mInv_sc (k := 2) hI (by decide) (by decide) (by decide)
  refine lv_aload_n hx hb dX6_goneShare_5 rfl (lv_at hl 0 rfl) ?_
  refine bcall_Rd (va_runV (As := []) (rest := []) ⟨hx, hb, hml, hown, hts⟩ (C6_gone l D cI q _ _ hP hI_1  hg.1) (cwV 0 hts gX6_goneShare_X6_gone rfl rfl rfl ⟨rfl, bd_X6gone⟩ ⟨Nat.le_of_ble_eq_true rfl, Nat.le_of_ble_eq_true rfl⟩) (bPV hk (va_recv hk.1 hP (ci := 6) (q0 := 0) rfl (wM_0 _ _ _))) rfl rfl hl.1 rfl (lv_room (Nat.le_of_ble_eq_true rfl)) dX6_goneShare_6 ⟨Nat.zero_le _, Nat.zero_le _⟩) hS (fun locs hS => ?_)
  exact bret_Wd hx hb hr hP hI_1 hS hlocks dX6_goneShare_9 (by rw [← hF, F6_goneShare])

theorem bd_X6digitTo : yX6_digitTo.cls ≠ "java/lang/invoke/MethodHandle" ∧ yX6_digitTo.cls ≠ "java/lang/invoke/VarHandle" ∧ (parseMethodDescriptor yX6_digitTo.desc).map (fun d => d.parameters.length) = some 1 := by decide +kernel
theorem bd_X6readNumber : yX6_readNumber.cls ≠ "java/lang/invoke/MethodHandle" ∧ yX6_readNumber.cls ≠ "java/lang/invoke/VarHandle" ∧ (parseMethodDescriptor yX6_readNumber.desc).map (fun d => d.parameters.length) = some 1 := by decide +kernel
theorem bd_X6sign : yX6_sign.cls ≠ "java/lang/invoke/MethodHandle" ∧ yX6_sign.cls ≠ "java/lang/invoke/VarHandle" ∧ (parseMethodDescriptor yX6_sign.desc).map (fun d => d.parameters.length) = some 1 := by decide +kernel
def J6_readOrder_236 (u236 : bU) (y0_236 : Int32) : Int32 × bU := (if ((bput u236 6 4 y0_236) 6 4) = 0 then (0, (bput u236 6 4 y0_236)) else (if (F6_sign (bput u236 6 4 y0_236) 59).1 = 0 then (0, (F6_sign (bput u236 6 4 y0_236) 59).2) else (1, (F6_sign (bput u236 6 4 y0_236) 59).2)))
def J6_readOrder_225 (u225 : bU) (y0_225 : Int32) : Int32 × bU := (if (F6_readNumber u225 y0_225).1 = 0 then (J6_readOrder_236 (F6_readNumber u225 y0_225).2 0) else (J6_readOrder_236 (F6_readNumber u225 y0_225).2 1))
def J6_readOrder_180 (u180 : bU) (y0_180 : Int32) (x1_180 : Int32) : Int32 × bU := (if y0_180 = 0 then (J6_readOrder_236 (bput u180 6 7 (u180 6 9)) 0) else (if (F6_sign (bput u180 6 7 (u180 6 9)) 42).1 = 0 then (J6_readOrder_236 (F6_sign (bput u180 6 7 (u180 6 9)) 42).2 0) else (if x1_180 = 0 then (if ((F6_sign (bput u180 6 7 (u180 6 9)) 42).2 6 5) = (99 : Int32) then (J6_readOrder_225 (F6_sign (bput u180 6 7 (u180 6 9)) 42).2 50) else (J6_readOrder_225 (F6_sign (bput u180 6 7 (u180 6 9)) 42).2 500)) else (J6_readOrder_225 (F6_sign (bput u180 6 7 (u180 6 9)) 42).2 50))))
def J6_readOrder_169 (u169 : bU) (y0_169 : Int32) (x1_169 : Int32) : Int32 × bU := (if (F6_digitTo u169 y0_169).1 = 0 then (J6_readOrder_180 (F6_digitTo u169 y0_169).2 0 x1_169) else (J6_readOrder_180 (F6_digitTo u169 y0_169).2 1 x1_169))
def J6_readOrder_139 (u139 : bU) (y0_139 : Int32) (x1_139 : Int32) : Int32 × bU := (if (F6_sign u139 y0_139).1 = 0 then (J6_readOrder_180 (F6_sign u139 y0_139).2 0 x1_139) else (if x1_139 = 0 then (if ((F6_sign u139 y0_139).2 6 5) = (99 : Int32) then (J6_readOrder_169 (F6_sign u139 y0_139).2 2 x1_139) else (J6_readOrder_169 (F6_sign u139 y0_139).2 7 x1_139)) else (J6_readOrder_169 (F6_sign u139 y0_139).2 5 x1_139)))
def J6_readOrder_111 (u111 : bU) (y0_111 : Int32) (x1_111 : Int32) : Int32 × bU := (if (F6_digitTo u111 y0_111).1 = 0 then (J6_readOrder_180 (bput (F6_digitTo u111 y0_111).2 6 6 ((F6_digitTo u111 y0_111).2 6 9)) 0 x1_111) else (if x1_111 = 0 then (J6_readOrder_139 (bput (F6_digitTo u111 y0_111).2 6 6 ((F6_digitTo u111 y0_111).2 6 9)) 58 x1_111) else (J6_readOrder_139 (bput (F6_digitTo u111 y0_111).2 6 6 ((F6_digitTo u111 y0_111).2 6 9)) 62 x1_111)))
def J6_readOrder_90 (u90 : bU) (x1_90 : Int32) : Int32 × bU := (if x1_90 = 0 then (J6_readOrder_111 (bput u90 6 3 ((u90 6 3) + 1)) 5 x1_90) else (J6_readOrder_111 (bput u90 6 3 ((u90 6 3) + 1)) 7 x1_90))
def F6_readOrder (u : bU) : Int32 × bU := (if ((bput u 6 4 0) 6 1) ≤ ((bput u 6 4 0) 6 3) then (0, (bput (bput u 6 4 0) 6 5 0)) else (if ((bput (bput u 6 4 0) 6 5 ((bput u 6 4 0) 3 ((bput u 6 4 0) 6 3).toNatClampNeg)) 6 5) = (100 : Int32) then (J6_readOrder_90 (bput (bput u 6 4 0) 6 5 ((bput u 6 4 0) 3 ((bput u 6 4 0) 6 3).toNatClampNeg)) 1) else (if ((bput (bput u 6 4 0) 6 5 ((bput u 6 4 0) 3 ((bput u 6 4 0) 6 3).toNatClampNeg)) 6 5) = (115 : Int32) then (J6_readOrder_90 (bput (bput u 6 4 0) 6 5 ((bput u 6 4 0) 3 ((bput u 6 4 0) 6 3).toNatClampNeg)) 0) else (if ((bput (bput u 6 4 0) 6 5 ((bput u 6 4 0) 3 ((bput u 6 4 0) 6 3).toNatClampNeg)) 6 5) = (114 : Int32) then (J6_readOrder_90 (bput (bput u 6 4 0) 6 5 ((bput u 6 4 0) 3 ((bput u 6 4 0) 6 3).toNatClampNeg)) 0) else (if ((bput (bput u 6 4 0) 6 5 ((bput u 6 4 0) 3 ((bput u 6 4 0) 6 3).toNatClampNeg)) 6 5) = (98 : Int32) then (J6_readOrder_90 (bput (bput u 6 4 0) 6 5 ((bput u 6 4 0) 3 ((bput u 6 4 0) 6 3).toNatClampNeg)) 0) else (if ((bput (bput u 6 4 0) 6 5 ((bput u 6 4 0) 3 ((bput u 6 4 0) 6 3).toNatClampNeg)) 6 5) = (99 : Int32) then (J6_readOrder_90 (bput (bput u 6 4 0) 6 5 ((bput u 6 4 0) 3 ((bput u 6 4 0) 6 3).toNatClampNeg)) 0) else (0, (bput (bput u 6 4 0) 6 5 ((bput u 6 4 0) 3 ((bput u 6 4 0) 6 3).toNatClampNeg)))))))))
set_option maxHeartbeats 4000000 in
set_option maxRecDepth 100000 in
theorem C6_readOrder (l : Launch) (D : va_G) (cI : ClassId) (q : Nat → Nat) (u : bU) (H0 : Heap) (hq : bInj 7 q) (hP : va_P D vwCl (wM cI q u) H0) (hI : mInv u) : Met l yX6_readOrder wsX6_readOrder ({ frames := 2, cells := 0, slots := 0, locals := 44 }) (bP D [(cI, .int)] H0 [.ref (q 0)]) (bWi D (wM cI q) mInv (bA 7 q H0.size) (F6_readOrder u)) 0 0 (bA 7 q H0.size) := by
  refine Met.ofW (cc := cX6_readOrder) (maxL := 3) (ret := (some .boolean)) (by decide) rfl ?_
  intro p e s m args below meth c s₁ B hml hv
  obtain ⟨rfl, hH, hk⟩ := hv
  subst hH
  have hx := B.exec
  have hb := B.bytes
  have hr := B.returns
  have hts := atoms_spec (ws := wsX6_readOrder) B.pre
  have hown : s.vm.findClass RX6 = some m.cls := findClass_of_methodNamed B.named
  have hlocks := B.notSynchronized
  have hNB := mNB hI
  have hNS := mNS hI
  have hI0 := hI
  have iX6 : ∀ w ∈ wsX60, w ∈ wsX6_readOrder := by decide +kernel
  have hS : va_S (bA 7 q s.heap.size) s.heap s.heap [] := va_S.rf
  have hl := lv_entry ([.ref (q 0)]) (n := 3) (Nat.le_of_ble_eq_true rfl)
  rw [lg_entry_eq]
  generalize (lg_sl ([.ref (q 0)]) ++ List.replicate (3 - (lg_sl ([.ref (q 0)])).length) Slot.unset).toArray = ls at hl ⊢
  have hl : lv_has ls 3 [(0, .ref (q 0))] := hl
  generalize hF : F6_readOrder u = tgt
  have join236 : ∀ (u236 : bU) (y0_236 : Int32) (H : Heap) (locs : List Loc) (ls : Array Slot), (y0_236 = 0 ∨ y0_236 = 1) → lv_has ls 3 [(0, .ref (q 0))] → va_P D vwCl (wM cI q u236) H → mInv u236 → va_S (bA 7 q s.heap.size) s.heap H locs → J6_readOrder_236 u236 y0_236 = tgt → W p l e (headSpec wsX6_readOrder ({ frames := 2, cells := 0, slots := 0, locals := 44 })).room s m ([.ref (q 0)] : List Value).toArray below meth c H locs 0 0 (MQ below (bWi D (wM cI q) mInv (bA 7 q s.heap.size) tgt) ([.ref (q 0)] : List Value).toArray s 0 0 (bA 7 q s.heap.size)) (F0 m 236 ls [.int y0_236, .ref (q 0)]) := by
    intro u236 y0_236 H locs ls hb_y0_236 hl hP hI hS hF
    refine va_put (D := D) (ci := 6) (v := .int y0_236) (ty := .boolean) (C := RX6) (T := TX6) (N := 16) hx hb hts iX6 tyX6 tyX6_ok nmX6 hown hk.1 hP (wM_D hq) hS 0 (wM_0 _ _ _) rfl 10 (by decide) (hts (.fieldLink RX6 141 "BottleLoopModel" "isWhole" "Z") (List.mem_of_getElem? (i := 1) rfl)) (fun _ h9 => h9) rfl (by decide +kernel) (by rcases (hb_y0_236 : y0_236 = 0 ∨ y0_236 = 1) with h9 | h9 <;> rw [h9] <;> decide) (by rcases (hb_y0_236 : y0_236 = 0 ∨ y0_236 = 1) with h9 | h9 <;> rw [h9] <;> decide) (Nat.le_of_ble_eq_true rfl) dX6_readOrder_236 (fun H locs hP _ hS => ?_)
    have hP : va_P D vwCl (wM cI q (bput u236 6 4 y0_236)) H := pM_f4 hP
    have hI_1 : mInv (bput u236 6 4 y0_236) := mInv_sc (k := 4) hI (by decide) (by decide) (by decide)
    refine lv_aload_n hx hb dX6_readOrder_239 rfl (lv_at hl 0 rfl) ?_
    refine va_get (D := D) (ci := 6) (C := RX6) (T := TX6) (N := 16) hx hb hts iX6 hown hk.1 hP 0 (wM_0 _ _ _) rfl 10 (by decide) (hts (.fieldLink RX6 141 "BottleLoopModel" "isWhole" "Z") (List.mem_of_getElem? (i := 1) rfl)) (fun _ h9 => h9) rfl dX6_readOrder_240 ?_
    refine lv_if_eq (tgt := 259) hx hb dX6_readOrder_243 (by decide) (fun c_2 => ?_) (fun c_2 => ?_)
    · refine lv_iconst (v := 0) hx hb dX6_readOrder_259 (by decide) ?_
      exact bret_Wz hx hb hr hP hI_1 hS hlocks dX6_readOrder_260 (Or.inl rfl) (by rw [← hF, J6_readOrder_236, if_pos c_2])
    · refine lv_aload_n hx hb dX6_readOrder_246 rfl (lv_at hl 0 rfl) ?_
      refine lv_bipush (v := 59) hx hb dX6_readOrder_247 (by decide) ?_
      refine bcall_Wi (va_runV (As := [.int 59]) (rest := []) ⟨hx, hb, hml, hown, hts⟩ (C6_sign l D cI q _ _ hq hP hI_1 59) (cwV 1 hts gX6_readOrder_X6_sign rfl rfl rfl ⟨rfl, bd_X6sign⟩ ⟨Nat.le_of_ble_eq_true rfl, Nat.le_of_ble_eq_true rfl⟩) (bPV hk (va_recv hk.1 hP (ci := 6) (q0 := 0) rfl (wM_0 _ _ _))) rfl rfl hl.1 rfl (lv_room (Nat.le_of_ble_eq_true rfl)) dX6_readOrder_249 ⟨Nat.zero_le _, Nat.zero_le _⟩) hS (fun H locs hP hI_3 hS => ?_)
      refine lv_if_eq (tgt := 259) hx hb dX6_readOrder_252 (by decide) (fun c_4 => ?_) (fun c_4 => ?_)
      · refine lv_iconst (v := 0) hx hb dX6_readOrder_259 (by decide) ?_
        exact bret_Wz hx hb hr hP hI_3 hS hlocks dX6_readOrder_260 (Or.inl rfl) (by rw [← hF, J6_readOrder_236, if_neg c_2, if_pos c_4])
      · refine lv_iconst (v := 1) hx hb dX6_readOrder_255 (by decide) ?_
        refine lv_goto (tgt := 260) hx hb dX6_readOrder_256 (by decide) ?_
        exact bret_Wz hx hb hr hP hI_3 hS hlocks dX6_readOrder_260 (Or.inr rfl) (by rw [← hF, J6_readOrder_236, if_neg c_2, if_neg c_4])
  have join225 : ∀ (u225 : bU) (y0_225 : Int32) (H : Heap) (locs : List Loc) (ls : Array Slot), lv_has ls 3 [(0, .ref (q 0))] → va_P D vwCl (wM cI q u225) H → mInv u225 → va_S (bA 7 q s.heap.size) s.heap H locs → J6_readOrder_225 u225 y0_225 = tgt → W p l e (headSpec wsX6_readOrder ({ frames := 2, cells := 0, slots := 0, locals := 44 })).room s m ([.ref (q 0)] : List Value).toArray below meth c H locs 0 0 (MQ below (bWi D (wM cI q) mInv (bA 7 q s.heap.size) tgt) ([.ref (q 0)] : List Value).toArray s 0 0 (bA 7 q s.heap.size)) (F0 m 225 ls [.int y0_225, .ref (q 0), .ref (q 0)]) := by
    intro u225 y0_225 H locs ls hl hP hI hS hF
    refine bcall_Wi (va_runV (As := [.int y0_225]) (rest := [.ref (q 0)]) ⟨hx, hb, hml, hown, hts⟩ (C6_readNumber l D cI q _ _ hq hP hI y0_225) (cwV 1 hts gX6_readOrder_X6_readNumber rfl rfl rfl ⟨rfl, bd_X6readNumber⟩ ⟨Nat.le_of_ble_eq_true rfl, Nat.le_of_ble_eq_true rfl⟩) (bPV hk (va_recv hk.1 hP (ci := 6) (q0 := 0) rfl (wM_0 _ _ _))) rfl rfl hl.1 rfl (lv_room (Nat.le_of_ble_eq_true rfl)) dX6_readOrder_225 ⟨Nat.zero_le _, Nat.zero_le _⟩) hS (fun H locs hP hI_5 hS => ?_)
    refine lv_if_eq (tgt := 235) hx hb dX6_readOrder_228 (by decide) (fun c_6 => ?_) (fun c_6 => ?_)
    · refine lv_iconst (v := 0) hx hb dX6_readOrder_235 (by decide) ?_
      exact join236 (F6_readNumber u225 y0_225).2 0 _ _ _ (Or.inl rfl) (lv_sub hl [0] rfl) hP hI_5 hS (by rw [← hF, J6_readOrder_225, if_pos c_6])
    · refine lv_iconst (v := 1) hx hb dX6_readOrder_231 (by decide) ?_
      refine lv_goto (tgt := 236) hx hb dX6_readOrder_232 (by decide) ?_
      exact join236 (F6_readNumber u225 y0_225).2 1 _ _ _ (Or.inr rfl) (lv_sub hl [0] rfl) hP hI_5 hS (by rw [← hF, J6_readOrder_225, if_neg c_6])
  have join180 : ∀ (u180 : bU) (y0_180 : Int32) (x1_180 : Int32) (H : Heap) (locs : List Loc) (ls : Array Slot), lv_has ls 3 [(0, .ref (q 0)), (1, .int x1_180)] → va_P D vwCl (wM cI q u180) H → mInv u180 → va_S (bA 7 q s.heap.size) s.heap H locs → J6_readOrder_180 u180 y0_180 x1_180 = tgt → W p l e (headSpec wsX6_readOrder ({ frames := 2, cells := 0, slots := 0, locals := 44 })).room s m ([.ref (q 0)] : List Value).toArray below meth c H locs 0 0 (MQ below (bWi D (wM cI q) mInv (bA 7 q s.heap.size) tgt) ([.ref (q 0)] : List Value).toArray s 0 0 (bA 7 q s.heap.size)) (F0 m 180 ls [.int y0_180]) := by
    intro u180 y0_180 x1_180 H locs ls hl hP hI hS hF
    refine lv_istore_n (lv' := [(2, .int y0_180), (0, .ref (q 0)), (1, .int x1_180)]) hx hb dX6_readOrder_180 rfl hl (by decide) rfl (fun ls hl => ?_)
    refine lv_aload_n hx hb dX6_readOrder_181 rfl (lv_at hl 1 rfl) ?_
    refine lv_aload_n hx hb dX6_readOrder_182 rfl (lv_at hl 1 rfl) ?_
    refine va_get (D := D) (ci := 6) (C := RX6) (T := TX6) (N := 16) hx hb hts iX6 hown hk.1 hP 0 (wM_0 _ _ _) rfl 15 (by decide) (hts (.fieldLink RX6 135 "BottleLoopModel" "digit" "I") (List.mem_of_getElem? (i := 6) rfl)) (fun _ h9 => h9) rfl dX6_readOrder_183 ?_
    refine va_put (D := D) (ci := 6) (v := .int (u180 6 9)) (ty := .int) (C := RX6) (T := TX6) (N := 16) hx hb hts iX6 tyX6 tyX6_ok nmX6 hown hk.1 hP (wM_D hq) hS 0 (wM_0 _ _ _) rfl 13 (by decide) (hts (.fieldLink RX6 157 "BottleLoopModel" "other" "I") (List.mem_of_getElem? (i := 8) rfl)) (fun _ h9 => h9) rfl (by decide +kernel) rfl rfl (Nat.le_of_ble_eq_true rfl) dX6_readOrder_186 (fun H locs hP _ hS => ?_)
    have hP : va_P D vwCl (wM cI q (bput u180 6 7 (u180 6 9))) H := pM_f7 hP
    have hI_7 : mInv (bput u180 6 7 (u180 6 9)) := mInv_sc (k := 7) hI (by decide) (by decide) (by decide)
    refine lv_aload_n hx hb dX6_readOrder_189 rfl (lv_at hl 1 rfl) ?_
    refine lv_iload_n hx hb dX6_readOrder_190 rfl (lv_at hl 0 rfl) ?_
    refine lv_if_eq (tgt := 235) hx hb dX6_readOrder_191 (by decide) (fun c_8 => ?_) (fun c_8 => ?_)
    · refine lv_iconst (v := 0) hx hb dX6_readOrder_235 (by decide) ?_
      exact join236 (bput u180 6 7 (u180 6 9)) 0 _ _ _ (Or.inl rfl) (lv_sub hl [1] rfl) hP hI_7 hS (by rw [← hF, J6_readOrder_180, if_pos c_8])
    · refine lv_aload_n hx hb dX6_readOrder_194 rfl (lv_at hl 1 rfl) ?_
      refine lv_bipush (v := 42) hx hb dX6_readOrder_195 (by decide) ?_
      refine bcall_Wi (va_runV (As := [.int 42]) (rest := [.ref (q 0)]) ⟨hx, hb, hml, hown, hts⟩ (C6_sign l D cI q _ _ hq hP hI_7 42) (cwV 1 hts gX6_readOrder_X6_sign rfl rfl rfl ⟨rfl, bd_X6sign⟩ ⟨Nat.le_of_ble_eq_true rfl, Nat.le_of_ble_eq_true rfl⟩) (bPV hk (va_recv hk.1 hP (ci := 6) (q0 := 0) rfl (wM_0 _ _ _))) rfl rfl hl.1 rfl (lv_room (Nat.le_of_ble_eq_true rfl)) dX6_readOrder_197 ⟨Nat.zero_le _, Nat.zero_le _⟩) hS (fun H locs hP hI_9 hS => ?_)
      refine lv_if_eq (tgt := 235) hx hb dX6_readOrder_200 (by decide) (fun c_10 => ?_) (fun c_10 => ?_)
      · refine lv_iconst (v := 0) hx hb dX6_readOrder_235 (by decide) ?_
        exact join236 (F6_sign (bput u180 6 7 (u180 6 9)) 42).2 0 _ _ _ (Or.inl rfl) (lv_sub hl [1] rfl) hP hI_9 hS (by rw [← hF, J6_readOrder_180, if_neg c_8, if_pos c_10])
      · refine lv_aload_n hx hb dX6_readOrder_203 rfl (lv_at hl 1 rfl) ?_
        refine lv_iload_n hx hb dX6_readOrder_204 rfl (lv_at hl 2 rfl) ?_
        refine lv_if_ne (tgt := 217) hx hb dX6_readOrder_205 (by decide) (fun c_11 => ?_) (fun c_11 => ?_)
        · refine lv_bipush (v := 50) hx hb dX6_readOrder_217 (by decide) ?_
          refine lv_goto (tgt := 225) hx hb dX6_readOrder_219 (by decide) ?_
          exact join225 (F6_sign (bput u180 6 7 (u180 6 9)) 42).2 50 _ _ _ (lv_sub hl [1] rfl) hP hI_9 hS (by rw [← hF, J6_readOrder_180, if_neg c_8, if_neg c_10, if_neg c_11])
        · refine lv_aload_n hx hb dX6_readOrder_208 rfl (lv_at hl 1 rfl) ?_
          refine va_get (D := D) (ci := 6) (C := RX6) (T := TX6) (N := 16) hx hb hts iX6 hown hk.1 hP 0 (wM_0 _ _ _) rfl 11 (by decide) (hts (.fieldLink RX6 145 "BottleLoopModel" "letter" "I") (List.mem_of_getElem? (i := 5) rfl)) (fun _ h9 => h9) rfl dX6_readOrder_209 ?_
          refine lv_bipush (v := 99) hx hb dX6_readOrder_212 (by decide) ?_
          refine lv_icmp_ne (tgt := 222) hx hb dX6_readOrder_214 (by decide) (fun c_12 => ?_) (fun c_12 => ?_)
          · refine lv_sipush (v := 500) hx hb dX6_readOrder_222 (by decide) ?_
            exact join225 (F6_sign (bput u180 6 7 (u180 6 9)) 42).2 500 _ _ _ (lv_sub hl [1] rfl) hP hI_9 hS (by rw [← hF, J6_readOrder_180, if_neg c_8, if_neg c_10, if_pos c_11, if_neg c_12])
          · refine lv_bipush (v := 50) hx hb dX6_readOrder_217 (by decide) ?_
            refine lv_goto (tgt := 225) hx hb dX6_readOrder_219 (by decide) ?_
            exact join225 (F6_sign (bput u180 6 7 (u180 6 9)) 42).2 50 _ _ _ (lv_sub hl [1] rfl) hP hI_9 hS (by rw [← hF, J6_readOrder_180, if_neg c_8, if_neg c_10, if_pos c_11, if_pos c_12])
  have join169 : ∀ (u169 : bU) (y0_169 : Int32) (x1_169 : Int32) (H : Heap) (locs : List Loc) (ls : Array Slot), lv_has ls 3 [(0, .ref (q 0)), (1, .int x1_169)] → va_P D vwCl (wM cI q u169) H → mInv u169 → va_S (bA 7 q s.heap.size) s.heap H locs → J6_readOrder_169 u169 y0_169 x1_169 = tgt → W p l e (headSpec wsX6_readOrder ({ frames := 2, cells := 0, slots := 0, locals := 44 })).room s m ([.ref (q 0)] : List Value).toArray below meth c H locs 0 0 (MQ below (bWi D (wM cI q) mInv (bA 7 q s.heap.size) tgt) ([.ref (q 0)] : List Value).toArray s 0 0 (bA 7 q s.heap.size)) (F0 m 169 ls [.int y0_169, .ref (q 0)]) := by
    intro u169 y0_169 x1_169 H locs ls hl hP hI hS hF
    refine bcall_Wi (va_runV (As := [.int y0_169]) (rest := []) ⟨hx, hb, hml, hown, hts⟩ (C6_digitTo l D cI q _ _ hq hP hI y0_169) (cwV 1 hts gX6_readOrder_X6_digitTo rfl rfl rfl ⟨rfl, bd_X6digitTo⟩ ⟨Nat.le_of_ble_eq_true rfl, Nat.le_of_ble_eq_true rfl⟩) (bPV hk (va_recv hk.1 hP (ci := 6) (q0 := 0) rfl (wM_0 _ _ _))) rfl rfl hl.1 rfl (lv_room (Nat.le_of_ble_eq_true rfl)) dX6_readOrder_169 ⟨Nat.zero_le _, Nat.zero_le _⟩) hS (fun H locs hP hI_13 hS => ?_)
    refine lv_if_eq (tgt := 179) hx hb dX6_readOrder_172 (by decide) (fun c_14 => ?_) (fun c_14 => ?_)
    · refine lv_iconst (v := 0) hx hb dX6_readOrder_179 (by decide) ?_
      exact join180 (F6_digitTo u169 y0_169).2 0 x1_169 _ _ _ (lv_sub hl [0, 1] rfl) hP hI_13 hS (by rw [← hF, J6_readOrder_169, if_pos c_14])
    · refine lv_iconst (v := 1) hx hb dX6_readOrder_175 (by decide) ?_
      refine lv_goto (tgt := 180) hx hb dX6_readOrder_176 (by decide) ?_
      exact join180 (F6_digitTo u169 y0_169).2 1 x1_169 _ _ _ (lv_sub hl [0, 1] rfl) hP hI_13 hS (by rw [← hF, J6_readOrder_169, if_neg c_14])
  have join139 : ∀ (u139 : bU) (y0_139 : Int32) (x1_139 : Int32) (H : Heap) (locs : List Loc) (ls : Array Slot), lv_has ls 3 [(0, .ref (q 0)), (1, .int x1_139)] → va_P D vwCl (wM cI q u139) H → mInv u139 → va_S (bA 7 q s.heap.size) s.heap H locs → J6_readOrder_139 u139 y0_139 x1_139 = tgt → W p l e (headSpec wsX6_readOrder ({ frames := 2, cells := 0, slots := 0, locals := 44 })).room s m ([.ref (q 0)] : List Value).toArray below meth c H locs 0 0 (MQ below (bWi D (wM cI q) mInv (bA 7 q s.heap.size) tgt) ([.ref (q 0)] : List Value).toArray s 0 0 (bA 7 q s.heap.size)) (F0 m 139 ls [.int y0_139, .ref (q 0)]) := by
    intro u139 y0_139 x1_139 H locs ls hl hP hI hS hF
    refine bcall_Wi (va_runV (As := [.int y0_139]) (rest := []) ⟨hx, hb, hml, hown, hts⟩ (C6_sign l D cI q _ _ hq hP hI y0_139) (cwV 1 hts gX6_readOrder_X6_sign rfl rfl rfl ⟨rfl, bd_X6sign⟩ ⟨Nat.le_of_ble_eq_true rfl, Nat.le_of_ble_eq_true rfl⟩) (bPV hk (va_recv hk.1 hP (ci := 6) (q0 := 0) rfl (wM_0 _ _ _))) rfl rfl hl.1 rfl (lv_room (Nat.le_of_ble_eq_true rfl)) dX6_readOrder_139 ⟨Nat.zero_le _, Nat.zero_le _⟩) hS (fun H locs hP hI_15 hS => ?_)
    refine lv_if_eq (tgt := 179) hx hb dX6_readOrder_142 (by decide) (fun c_16 => ?_) (fun c_16 => ?_)
    · refine lv_iconst (v := 0) hx hb dX6_readOrder_179 (by decide) ?_
      exact join180 (F6_sign u139 y0_139).2 0 x1_139 _ _ _ (lv_sub hl [0, 1] rfl) hP hI_15 hS (by rw [← hF, J6_readOrder_139, if_pos c_16])
    · refine lv_aload_n hx hb dX6_readOrder_145 rfl (lv_at hl 0 rfl) ?_
      refine lv_iload_n hx hb dX6_readOrder_146 rfl (lv_at hl 1 rfl) ?_
      refine lv_if_eq (tgt := 154) hx hb dX6_readOrder_147 (by decide) (fun c_17 => ?_) (fun c_17 => ?_)
      · refine lv_aload_n hx hb dX6_readOrder_154 rfl (lv_at hl 0 rfl) ?_
        refine va_get (D := D) (ci := 6) (C := RX6) (T := TX6) (N := 16) hx hb hts iX6 hown hk.1 hP 0 (wM_0 _ _ _) rfl 11 (by decide) (hts (.fieldLink RX6 145 "BottleLoopModel" "letter" "I") (List.mem_of_getElem? (i := 5) rfl)) (fun _ h9 => h9) rfl dX6_readOrder_155 ?_
        refine lv_bipush (v := 99) hx hb dX6_readOrder_158 (by decide) ?_
        refine lv_icmp_ne (tgt := 167) hx hb dX6_readOrder_160 (by decide) (fun c_18 => ?_) (fun c_18 => ?_)
        · refine lv_bipush (v := 7) hx hb dX6_readOrder_167 (by decide) ?_
          exact join169 (F6_sign u139 y0_139).2 7 x1_139 _ _ _ (lv_sub hl [0, 1] rfl) hP hI_15 hS (by rw [← hF, J6_readOrder_139, if_neg c_16, if_pos c_17, if_neg c_18])
        · refine lv_iconst (v := 2) hx hb dX6_readOrder_163 (by decide) ?_
          refine lv_goto (tgt := 169) hx hb dX6_readOrder_164 (by decide) ?_
          exact join169 (F6_sign u139 y0_139).2 2 x1_139 _ _ _ (lv_sub hl [0, 1] rfl) hP hI_15 hS (by rw [← hF, J6_readOrder_139, if_neg c_16, if_pos c_17, if_pos c_18])
      · refine lv_iconst (v := 5) hx hb dX6_readOrder_150 (by decide) ?_
        refine lv_goto (tgt := 169) hx hb dX6_readOrder_151 (by decide) ?_
        exact join169 (F6_sign u139 y0_139).2 5 x1_139 _ _ _ (lv_sub hl [0, 1] rfl) hP hI_15 hS (by rw [← hF, J6_readOrder_139, if_neg c_16, if_neg c_17])
  have join111 : ∀ (u111 : bU) (y0_111 : Int32) (x1_111 : Int32) (H : Heap) (locs : List Loc) (ls : Array Slot), lv_has ls 3 [(0, .ref (q 0)), (1, .int x1_111)] → va_P D vwCl (wM cI q u111) H → mInv u111 → va_S (bA 7 q s.heap.size) s.heap H locs → J6_readOrder_111 u111 y0_111 x1_111 = tgt → W p l e (headSpec wsX6_readOrder ({ frames := 2, cells := 0, slots := 0, locals := 44 })).room s m ([.ref (q 0)] : List Value).toArray below meth c H locs 0 0 (MQ below (bWi D (wM cI q) mInv (bA 7 q s.heap.size) tgt) ([.ref (q 0)] : List Value).toArray s 0 0 (bA 7 q s.heap.size)) (F0 m 111 ls [.int y0_111, .ref (q 0)]) := by
    intro u111 y0_111 x1_111 H locs ls hl hP hI hS hF
    refine bcall_Wi (va_runV (As := [.int y0_111]) (rest := []) ⟨hx, hb, hml, hown, hts⟩ (C6_digitTo l D cI q _ _ hq hP hI y0_111) (cwV 1 hts gX6_readOrder_X6_digitTo rfl rfl rfl ⟨rfl, bd_X6digitTo⟩ ⟨Nat.le_of_ble_eq_true rfl, Nat.le_of_ble_eq_true rfl⟩) (bPV hk (va_recv hk.1 hP (ci := 6) (q0 := 0) rfl (wM_0 _ _ _))) rfl rfl hl.1 rfl (lv_room (Nat.le_of_ble_eq_true rfl)) dX6_readOrder_111 ⟨Nat.zero_le _, Nat.zero_le _⟩) hS (fun H locs hP hI_19 hS => ?_)
    refine lv_istore_n (lv' := [(2, .int (F6_digitTo u111 y0_111).1), (0, .ref (q 0)), (1, .int x1_111)]) hx hb dX6_readOrder_114 rfl hl (by decide) rfl (fun ls hl => ?_)
    refine lv_aload_n hx hb dX6_readOrder_115 rfl (lv_at hl 1 rfl) ?_
    refine lv_aload_n hx hb dX6_readOrder_116 rfl (lv_at hl 1 rfl) ?_
    refine va_get (D := D) (ci := 6) (C := RX6) (T := TX6) (N := 16) hx hb hts iX6 hown hk.1 hP 0 (wM_0 _ _ _) rfl 15 (by decide) (hts (.fieldLink RX6 135 "BottleLoopModel" "digit" "I") (List.mem_of_getElem? (i := 6) rfl)) (fun _ h9 => h9) rfl dX6_readOrder_117 ?_
    refine va_put (D := D) (ci := 6) (v := .int ((F6_digitTo u111 y0_111).2 6 9)) (ty := .int) (C := RX6) (T := TX6) (N := 16) hx hb hts iX6 tyX6 tyX6_ok nmX6 hown hk.1 hP (wM_D hq) hS 0 (wM_0 _ _ _) rfl 12 (by decide) (hts (.fieldLink RX6 151 "BottleLoopModel" "one" "I") (List.mem_of_getElem? (i := 7) rfl)) (fun _ h9 => h9) rfl (by decide +kernel) rfl rfl (Nat.le_of_ble_eq_true rfl) dX6_readOrder_120 (fun H locs hP _ hS => ?_)
    have hP : va_P D vwCl (wM cI q (bput (F6_digitTo u111 y0_111).2 6 6 ((F6_digitTo u111 y0_111).2 6 9))) H := pM_f6 hP
    have hI_20 : mInv (bput (F6_digitTo u111 y0_111).2 6 6 ((F6_digitTo u111 y0_111).2 6 9)) := mInv_sc (k := 6) hI_19 (by decide) (by decide) (by decide)
    refine lv_iload_n hx hb dX6_readOrder_123 rfl (lv_at hl 0 rfl) ?_
    refine lv_if_eq (tgt := 179) hx hb dX6_readOrder_124 (by decide) (fun c_21 => ?_) (fun c_21 => ?_)
    · refine lv_iconst (v := 0) hx hb dX6_readOrder_179 (by decide) ?_
      exact join180 (bput (F6_digitTo u111 y0_111).2 6 6 ((F6_digitTo u111 y0_111).2 6 9)) 0 x1_111 _ _ _ (lv_sub hl [1, 2] rfl) hP hI_20 hS (by rw [← hF, J6_readOrder_111, if_pos c_21])
    · refine lv_aload_n hx hb dX6_readOrder_127 rfl (lv_at hl 1 rfl) ?_
      refine lv_iload_n hx hb dX6_readOrder_128 rfl (lv_at hl 2 rfl) ?_
      refine lv_if_eq (tgt := 137) hx hb dX6_readOrder_129 (by decide) (fun c_22 => ?_) (fun c_22 => ?_)
      · refine lv_bipush (v := 58) hx hb dX6_readOrder_137 (by decide) ?_
        exact join139 (bput (F6_digitTo u111 y0_111).2 6 6 ((F6_digitTo u111 y0_111).2 6 9)) 58 x1_111 _ _ _ (lv_sub hl [1, 2] rfl) hP hI_20 hS (by rw [← hF, J6_readOrder_111, if_neg c_21, if_pos c_22])
      · refine lv_bipush (v := 62) hx hb dX6_readOrder_132 (by decide) ?_
        refine lv_goto (tgt := 139) hx hb dX6_readOrder_134 (by decide) ?_
        exact join139 (bput (F6_digitTo u111 y0_111).2 6 6 ((F6_digitTo u111 y0_111).2 6 9)) 62 x1_111 _ _ _ (lv_sub hl [1, 2] rfl) hP hI_20 hS (by rw [← hF, J6_readOrder_111, if_neg c_21, if_neg c_22])
  have join90 : ∀ (u90 : bU) (x1_90 : Int32) (H : Heap) (locs : List Loc) (ls : Array Slot), (¬(u90 6 1) ≤ (u90 6 3)) → lv_has ls 3 [(0, .ref (q 0)), (1, .int x1_90)] → va_P D vwCl (wM cI q u90) H → mInv u90 → va_S (bA 7 q s.heap.size) s.heap H locs → J6_readOrder_90 u90 x1_90 = tgt → W p l e (headSpec wsX6_readOrder ({ frames := 2, cells := 0, slots := 0, locals := 44 })).room s m ([.ref (q 0)] : List Value).toArray below meth c H locs 0 0 (MQ below (bWi D (wM cI q) mInv (bA 7 q s.heap.size) tgt) ([.ref (q 0)] : List Value).toArray s 0 0 (bA 7 q s.heap.size)) (F0 m 90 ls []) := by
    intro u90 x1_90 H locs ls hpl hl hP hI hS hF
    refine lv_aload_n hx hb dX6_readOrder_90 rfl (lv_at hl 0 rfl) ?_
    refine lv_dup hx hb dX6_readOrder_91 rfl ?_
    refine va_get (D := D) (ci := 6) (C := RX6) (T := TX6) (N := 16) hx hb hts iX6 hown hk.1 hP 0 (wM_0 _ _ _) rfl 9 (by decide) (hts (.fieldLink RX6 132 "BottleLoopModel" "place" "I") (List.mem_of_getElem? (i := 2) rfl)) (fun _ h9 => h9) rfl dX6_readOrder_92 ?_
    refine lv_iconst (v := 1) hx hb dX6_readOrder_95 (by decide) ?_
    refine lv_iadd hx hb dX6_readOrder_96 ?_
    refine va_put (D := D) (ci := 6) (v := .int ((u90 6 3) + 1)) (ty := .int) (C := RX6) (T := TX6) (N := 16) hx hb hts iX6 tyX6 tyX6_ok nmX6 hown hk.1 hP (wM_D hq) hS 0 (wM_0 _ _ _) rfl 9 (by decide) (hts (.fieldLink RX6 132 "BottleLoopModel" "place" "I") (List.mem_of_getElem? (i := 2) rfl)) (fun _ h9 => h9) rfl (by decide +kernel) rfl rfl (Nat.le_of_ble_eq_true rfl) dX6_readOrder_97 (fun H locs hP _ hS => ?_)
    have hP : va_P D vwCl (wM cI q (bput u90 6 3 ((u90 6 3) + 1))) H := pM_f3 hP
    have hI_23 : mInv (bput u90 6 3 ((u90 6 3) + 1)) := mInv_pl1 hI hpl
    refine lv_aload_n hx hb dX6_readOrder_100 rfl (lv_at hl 0 rfl) ?_
    refine lv_iload_n hx hb dX6_readOrder_101 rfl (lv_at hl 1 rfl) ?_
    refine lv_if_eq (tgt := 110) hx hb dX6_readOrder_102 (by decide) (fun c_24 => ?_) (fun c_24 => ?_)
    · refine lv_iconst (v := 5) hx hb dX6_readOrder_110 (by decide) ?_
      exact join111 (bput u90 6 3 ((u90 6 3) + 1)) 5 x1_90 _ _ _ (lv_sub hl [0, 1] rfl) hP hI_23 hS (by rw [← hF, J6_readOrder_90, if_pos c_24])
    · refine lv_bipush (v := 7) hx hb dX6_readOrder_105 (by decide) ?_
      refine lv_goto (tgt := 111) hx hb dX6_readOrder_107 (by decide) ?_
      exact join111 (bput u90 6 3 ((u90 6 3) + 1)) 7 x1_90 _ _ _ (lv_sub hl [0, 1] rfl) hP hI_23 hS (by rw [← hF, J6_readOrder_90, if_neg c_24])
  refine lv_aload_n hx hb dX6_readOrder_0 rfl (lv_at hl 0 rfl) ?_
  refine lv_iconst (v := 0) hx hb dX6_readOrder_1 (by decide) ?_
  refine va_put (D := D) (ci := 6) (v := .int 0) (ty := .boolean) (C := RX6) (T := TX6) (N := 16) hx hb hts iX6 tyX6 tyX6_ok nmX6 hown hk.1 hP (wM_D hq) hS 0 (wM_0 _ _ _) rfl 10 (by decide) (hts (.fieldLink RX6 141 "BottleLoopModel" "isWhole" "Z") (List.mem_of_getElem? (i := 1) rfl)) (fun _ h9 => h9) rfl (by decide +kernel) (by rcases ((Or.inl rfl) : (0 : Int32) = 0 ∨ (0 : Int32) = 1) with h9 | h9 <;> rw [h9] <;> decide) (by rcases ((Or.inl rfl) : (0 : Int32) = 0 ∨ (0 : Int32) = 1) with h9 | h9 <;> rw [h9] <;> decide) (Nat.le_of_ble_eq_true rfl) dX6_readOrder_2 (fun H locs hP _ hS => ?_)
  have hP : va_P D vwCl (wM cI q (bput u 6 4 0)) H := pM_f4 hP
  have hI_25 : mInv (bput u 6 4 0) := mInv_sc (k := 4) hI (by decide) (by decide) (by decide)
  refine lv_aload_n hx hb dX6_readOrder_5 rfl (lv_at hl 0 rfl) ?_
  refine lv_aload_n hx hb dX6_readOrder_6 rfl (lv_at hl 0 rfl) ?_
  refine va_get (D := D) (ci := 6) (C := RX6) (T := TX6) (N := 16) hx hb hts iX6 hown hk.1 hP 0 (wM_0 _ _ _) rfl 9 (by decide) (hts (.fieldLink RX6 132 "BottleLoopModel" "place" "I") (List.mem_of_getElem? (i := 2) rfl)) (fun _ h9 => h9) rfl dX6_readOrder_7 ?_
  refine lv_aload_n hx hb dX6_readOrder_10 rfl (lv_at hl 0 rfl) ?_
  refine va_get (D := D) (ci := 6) (C := RX6) (T := TX6) (N := 16) hx hb hts iX6 hown hk.1 hP 0 (wM_0 _ _ _) rfl 5 (by decide) (hts (.fieldLink RX6 129 "BottleLoopModel" "length" "I") (List.mem_of_getElem? (i := 3) rfl)) (fun _ h9 => h9) rfl dX6_readOrder_11 ?_
  refine lv_icmp_ge (tgt := 29) hx hb dX6_readOrder_14 (by decide) (fun c_26 => ?_) (fun c_26 => ?_)
  · refine lv_iconst (v := 0) hx hb dX6_readOrder_29 (by decide) ?_
    refine va_put (D := D) (ci := 6) (v := .int 0) (ty := .int) (C := RX6) (T := TX6) (N := 16) hx hb hts iX6 tyX6 tyX6_ok nmX6 hown hk.1 hP (wM_D hq) hS 0 (wM_0 _ _ _) rfl 11 (by decide) (hts (.fieldLink RX6 145 "BottleLoopModel" "letter" "I") (List.mem_of_getElem? (i := 5) rfl)) (fun _ h9 => h9) rfl (by decide +kernel) rfl rfl (Nat.le_of_ble_eq_true rfl) dX6_readOrder_30 (fun H locs hP _ hS => ?_)
    have hP : va_P D vwCl (wM cI q (bput (bput u 6 4 0) 6 5 0)) H := pM_f5 hP
    have hI_27 : mInv (bput (bput u 6 4 0) 6 5 0) := mInv_sc (k := 5) hI_25 (by decide) (by decide) (by decide)
    refine lv_aload_n hx hb dX6_readOrder_33 rfl (lv_at hl 0 rfl) ?_
    refine va_get (D := D) (ci := 6) (C := RX6) (T := TX6) (N := 16) hx hb hts iX6 hown hk.1 hP 0 (wM_0 _ _ _) rfl 11 (by decide) (hts (.fieldLink RX6 145 "BottleLoopModel" "letter" "I") (List.mem_of_getElem? (i := 5) rfl)) (fun _ h9 => h9) rfl dX6_readOrder_34 ?_
    refine lv_topi (fun z9 hz9 => ?_)
    obtain rfl : z9 = 0 := hz9.trans rfl
    refine lv_bipush (v := 100) hx hb dX6_readOrder_37 (by decide) ?_
    refine lv_icmp_ne (tgt := 46) hx hb dX6_readOrder_39 (by decide) (fun _ => ?_) (fun h9 => absurd h9 (by decide))
    refine lv_iconst (v := 0) hx hb dX6_readOrder_46 (by decide) ?_
    refine lv_istore_n (lv' := [(1, .int 0), (0, .ref (q 0))]) hx hb dX6_readOrder_47 rfl hl (by decide) rfl (fun ls hl => ?_)
    refine lv_iload_n hx hb dX6_readOrder_48 rfl (lv_at hl 0 rfl) ?_
    refine lv_if_ne (tgt := 90) hx hb dX6_readOrder_49 (by decide) (fun h9 => absurd (by decide) h9) (fun _ => ?_)
    refine lv_aload_n hx hb dX6_readOrder_52 rfl (lv_at hl 1 rfl) ?_
    refine va_get (D := D) (ci := 6) (C := RX6) (T := TX6) (N := 16) hx hb hts iX6 hown hk.1 hP 0 (wM_0 _ _ _) rfl 11 (by decide) (hts (.fieldLink RX6 145 "BottleLoopModel" "letter" "I") (List.mem_of_getElem? (i := 5) rfl)) (fun _ h9 => h9) rfl dX6_readOrder_53 ?_
    refine lv_topi (fun z9 hz9 => ?_)
    obtain rfl : z9 = 0 := hz9.trans rfl
    refine lv_bipush (v := 115) hx hb dX6_readOrder_56 (by decide) ?_
    refine lv_icmp_eq (tgt := 90) hx hb dX6_readOrder_58 (by decide) (fun h9 => absurd h9 (by decide)) (fun _ => ?_)
    refine lv_aload_n hx hb dX6_readOrder_61 rfl (lv_at hl 1 rfl) ?_
    refine va_get (D := D) (ci := 6) (C := RX6) (T := TX6) (N := 16) hx hb hts iX6 hown hk.1 hP 0 (wM_0 _ _ _) rfl 11 (by decide) (hts (.fieldLink RX6 145 "BottleLoopModel" "letter" "I") (List.mem_of_getElem? (i := 5) rfl)) (fun _ h9 => h9) rfl dX6_readOrder_62 ?_
    refine lv_topi (fun z9 hz9 => ?_)
    obtain rfl : z9 = 0 := hz9.trans rfl
    refine lv_bipush (v := 114) hx hb dX6_readOrder_65 (by decide) ?_
    refine lv_icmp_eq (tgt := 90) hx hb dX6_readOrder_67 (by decide) (fun h9 => absurd h9 (by decide)) (fun _ => ?_)
    refine lv_aload_n hx hb dX6_readOrder_70 rfl (lv_at hl 1 rfl) ?_
    refine va_get (D := D) (ci := 6) (C := RX6) (T := TX6) (N := 16) hx hb hts iX6 hown hk.1 hP 0 (wM_0 _ _ _) rfl 11 (by decide) (hts (.fieldLink RX6 145 "BottleLoopModel" "letter" "I") (List.mem_of_getElem? (i := 5) rfl)) (fun _ h9 => h9) rfl dX6_readOrder_71 ?_
    refine lv_topi (fun z9 hz9 => ?_)
    obtain rfl : z9 = 0 := hz9.trans rfl
    refine lv_bipush (v := 98) hx hb dX6_readOrder_74 (by decide) ?_
    refine lv_icmp_eq (tgt := 90) hx hb dX6_readOrder_76 (by decide) (fun h9 => absurd h9 (by decide)) (fun _ => ?_)
    refine lv_aload_n hx hb dX6_readOrder_79 rfl (lv_at hl 1 rfl) ?_
    refine va_get (D := D) (ci := 6) (C := RX6) (T := TX6) (N := 16) hx hb hts iX6 hown hk.1 hP 0 (wM_0 _ _ _) rfl 11 (by decide) (hts (.fieldLink RX6 145 "BottleLoopModel" "letter" "I") (List.mem_of_getElem? (i := 5) rfl)) (fun _ h9 => h9) rfl dX6_readOrder_80 ?_
    refine lv_topi (fun z9 hz9 => ?_)
    obtain rfl : z9 = 0 := hz9.trans rfl
    refine lv_bipush (v := 99) hx hb dX6_readOrder_83 (by decide) ?_
    refine lv_icmp_eq (tgt := 90) hx hb dX6_readOrder_85 (by decide) (fun h9 => absurd h9 (by decide)) (fun _ => ?_)
    refine lv_iconst (v := 0) hx hb dX6_readOrder_88 (by decide) ?_
    exact bret_Wz hx hb hr hP hI_27 hS hlocks dX6_readOrder_89 (Or.inl rfl) (by rw [← hF, F6_readOrder, if_pos c_26])
  · refine lv_aload_n hx hb dX6_readOrder_17 rfl (lv_at hl 0 rfl) ?_
    refine va_get (D := D) (ci := 6) (C := RX6) (T := TX6) (N := 16) hx hb hts iX6 hown hk.1 hP 0 (wM_0 _ _ _) rfl 4 (by decide) (hts (.fieldLink RX6 19 "BottleLoopModel" "text" "[I") (List.mem_of_getElem? (i := 4) rfl)) (fun _ h9 => h9) rfl dX6_readOrder_18 ?_
    refine lv_aload_n hx hb dX6_readOrder_21 rfl (lv_at hl 0 rfl) ?_
    refine va_get (D := D) (ci := 6) (C := RX6) (T := TX6) (N := 16) hx hb hts iX6 hown hk.1 hP 0 (wM_0 _ _ _) rfl 9 (by decide) (hts (.fieldLink RX6 132 "BottleLoopModel" "place" "I") (List.mem_of_getElem? (i := 2) rfl)) (fun _ h9 => h9) rfl dX6_readOrder_22 ?_
    refine va_iald hx hb hk.1 hP 4 0 (wM_4 _ _ _) rfl (mXpl hI_25 c_26) dX6_readOrder_25 ?_
    refine lv_goto (tgt := 30) hx hb dX6_readOrder_26 (by decide) ?_
    refine va_put (D := D) (ci := 6) (v := .int ((bput u 6 4 0) 3 ((bput u 6 4 0) 6 3).toNatClampNeg)) (ty := .int) (C := RX6) (T := TX6) (N := 16) hx hb hts iX6 tyX6 tyX6_ok nmX6 hown hk.1 hP (wM_D hq) hS 0 (wM_0 _ _ _) rfl 11 (by decide) (hts (.fieldLink RX6 145 "BottleLoopModel" "letter" "I") (List.mem_of_getElem? (i := 5) rfl)) (fun _ h9 => h9) rfl (by decide +kernel) rfl rfl (Nat.le_of_ble_eq_true rfl) dX6_readOrder_30 (fun H locs hP _ hS => ?_)
    have hP : va_P D vwCl (wM cI q (bput (bput u 6 4 0) 6 5 ((bput u 6 4 0) 3 ((bput u 6 4 0) 6 3).toNatClampNeg))) H := pM_f5 hP
    have hI_28 : mInv (bput (bput u 6 4 0) 6 5 ((bput u 6 4 0) 3 ((bput u 6 4 0) 6 3).toNatClampNeg)) := mInv_sc (k := 5) hI_25 (by decide) (by decide) (by decide)
    refine lv_aload_n hx hb dX6_readOrder_33 rfl (lv_at hl 0 rfl) ?_
    refine va_get (D := D) (ci := 6) (C := RX6) (T := TX6) (N := 16) hx hb hts iX6 hown hk.1 hP 0 (wM_0 _ _ _) rfl 11 (by decide) (hts (.fieldLink RX6 145 "BottleLoopModel" "letter" "I") (List.mem_of_getElem? (i := 5) rfl)) (fun _ h9 => h9) rfl dX6_readOrder_34 ?_
    refine lv_bipush (v := 100) hx hb dX6_readOrder_37 (by decide) ?_
    refine lv_icmp_ne (tgt := 46) hx hb dX6_readOrder_39 (by decide) (fun c_29 => ?_) (fun c_29 => ?_)
    · refine lv_iconst (v := 0) hx hb dX6_readOrder_46 (by decide) ?_
      refine lv_istore_n (lv' := [(1, .int 0), (0, .ref (q 0))]) hx hb dX6_readOrder_47 rfl hl (by decide) rfl (fun ls hl => ?_)
      refine lv_iload_n hx hb dX6_readOrder_48 rfl (lv_at hl 0 rfl) ?_
      refine lv_if_ne (tgt := 90) hx hb dX6_readOrder_49 (by decide) (fun h9 => absurd (by decide) h9) (fun _ => ?_)
      refine lv_aload_n hx hb dX6_readOrder_52 rfl (lv_at hl 1 rfl) ?_
      refine va_get (D := D) (ci := 6) (C := RX6) (T := TX6) (N := 16) hx hb hts iX6 hown hk.1 hP 0 (wM_0 _ _ _) rfl 11 (by decide) (hts (.fieldLink RX6 145 "BottleLoopModel" "letter" "I") (List.mem_of_getElem? (i := 5) rfl)) (fun _ h9 => h9) rfl dX6_readOrder_53 ?_
      refine lv_bipush (v := 115) hx hb dX6_readOrder_56 (by decide) ?_
      refine lv_icmp_eq (tgt := 90) hx hb dX6_readOrder_58 (by decide) (fun c_30 => ?_) (fun c_30 => ?_)
      · exact join90 (bput (bput u 6 4 0) 6 5 ((bput u 6 4 0) 3 ((bput u 6 4 0) 6 3).toNatClampNeg)) 0 _ _ _ c_26 (lv_sub hl [1, 0] rfl) hP hI_28 hS (by rw [← hF, F6_readOrder, if_neg c_26, if_neg c_29, if_pos c_30])
      · refine lv_aload_n hx hb dX6_readOrder_61 rfl (lv_at hl 1 rfl) ?_
        refine va_get (D := D) (ci := 6) (C := RX6) (T := TX6) (N := 16) hx hb hts iX6 hown hk.1 hP 0 (wM_0 _ _ _) rfl 11 (by decide) (hts (.fieldLink RX6 145 "BottleLoopModel" "letter" "I") (List.mem_of_getElem? (i := 5) rfl)) (fun _ h9 => h9) rfl dX6_readOrder_62 ?_
        refine lv_bipush (v := 114) hx hb dX6_readOrder_65 (by decide) ?_
        refine lv_icmp_eq (tgt := 90) hx hb dX6_readOrder_67 (by decide) (fun c_31 => ?_) (fun c_31 => ?_)
        · exact join90 (bput (bput u 6 4 0) 6 5 ((bput u 6 4 0) 3 ((bput u 6 4 0) 6 3).toNatClampNeg)) 0 _ _ _ c_26 (lv_sub hl [1, 0] rfl) hP hI_28 hS (by rw [← hF, F6_readOrder, if_neg c_26, if_neg c_29, if_neg c_30, if_pos c_31])
        · refine lv_aload_n hx hb dX6_readOrder_70 rfl (lv_at hl 1 rfl) ?_
          refine va_get (D := D) (ci := 6) (C := RX6) (T := TX6) (N := 16) hx hb hts iX6 hown hk.1 hP 0 (wM_0 _ _ _) rfl 11 (by decide) (hts (.fieldLink RX6 145 "BottleLoopModel" "letter" "I") (List.mem_of_getElem? (i := 5) rfl)) (fun _ h9 => h9) rfl dX6_readOrder_71 ?_
          refine lv_bipush (v := 98) hx hb dX6_readOrder_74 (by decide) ?_
          refine lv_icmp_eq (tgt := 90) hx hb dX6_readOrder_76 (by decide) (fun c_32 => ?_) (fun c_32 => ?_)
          · exact join90 (bput (bput u 6 4 0) 6 5 ((bput u 6 4 0) 3 ((bput u 6 4 0) 6 3).toNatClampNeg)) 0 _ _ _ c_26 (lv_sub hl [1, 0] rfl) hP hI_28 hS (by rw [← hF, F6_readOrder, if_neg c_26, if_neg c_29, if_neg c_30, if_neg c_31, if_pos c_32])
          · refine lv_aload_n hx hb dX6_readOrder_79 rfl (lv_at hl 1 rfl) ?_
            refine va_get (D := D) (ci := 6) (C := RX6) (T := TX6) (N := 16) hx hb hts iX6 hown hk.1 hP 0 (wM_0 _ _ _) rfl 11 (by decide) (hts (.fieldLink RX6 145 "BottleLoopModel" "letter" "I") (List.mem_of_getElem? (i := 5) rfl)) (fun _ h9 => h9) rfl dX6_readOrder_80 ?_
            refine lv_bipush (v := 99) hx hb dX6_readOrder_83 (by decide) ?_
            refine lv_icmp_eq (tgt := 90) hx hb dX6_readOrder_85 (by decide) (fun c_33 => ?_) (fun c_33 => ?_)
            · exact join90 (bput (bput u 6 4 0) 6 5 ((bput u 6 4 0) 3 ((bput u 6 4 0) 6 3).toNatClampNeg)) 0 _ _ _ c_26 (lv_sub hl [1, 0] rfl) hP hI_28 hS (by rw [← hF, F6_readOrder, if_neg c_26, if_neg c_29, if_neg c_30, if_neg c_31, if_neg c_32, if_pos c_33])
            · refine lv_iconst (v := 0) hx hb dX6_readOrder_88 (by decide) ?_
              exact bret_Wz hx hb hr hP hI_28 hS hlocks dX6_readOrder_89 (Or.inl rfl) (by rw [← hF, F6_readOrder, if_neg c_26, if_neg c_29, if_neg c_30, if_neg c_31, if_neg c_32, if_neg c_33])
    · refine lv_iconst (v := 1) hx hb dX6_readOrder_42 (by decide) ?_
      refine lv_goto (tgt := 47) hx hb dX6_readOrder_43 (by decide) ?_
      refine lv_istore_n (lv' := [(1, .int 1), (0, .ref (q 0))]) hx hb dX6_readOrder_47 rfl hl (by decide) rfl (fun ls hl => ?_)
      refine lv_iload_n hx hb dX6_readOrder_48 rfl (lv_at hl 0 rfl) ?_
      refine lv_if_ne (tgt := 90) hx hb dX6_readOrder_49 (by decide) (fun _ => ?_) (fun h9 => absurd h9 (by decide))
      exact join90 (bput (bput u 6 4 0) 6 5 ((bput u 6 4 0) 3 ((bput u 6 4 0) 6 3).toNatClampNeg)) 1 _ _ _ c_26 (lv_sub hl [1, 0] rfl) hP hI_28 hS (by rw [← hF, F6_readOrder, if_neg c_26, if_pos c_29])
theorem BJ6_readOrder_236 (u236 : bU) (y0_236 : Int32) : (J6_readOrder_236 u236 y0_236).1 = 0 ∨ (J6_readOrder_236 u236 y0_236).1 = 1 := by
  unfold J6_readOrder_236
  (repeat' split) <;> first | with_reducible exact Or.inl rfl | with_reducible exact Or.inr rfl
theorem BJ6_readOrder_225 (u225 : bU) (y0_225 : Int32) : (J6_readOrder_225 u225 y0_225).1 = 0 ∨ (J6_readOrder_225 u225 y0_225).1 = 1 := by
  unfold J6_readOrder_225
  (repeat' split) <;> first | with_reducible exact BJ6_readOrder_236 _ _ | with_reducible exact Or.inl rfl | with_reducible exact Or.inr rfl
theorem BJ6_readOrder_180 (u180 : bU) (y0_180 : Int32) (x1_180 : Int32) : (J6_readOrder_180 u180 y0_180 x1_180).1 = 0 ∨ (J6_readOrder_180 u180 y0_180 x1_180).1 = 1 := by
  unfold J6_readOrder_180
  (repeat' split) <;> first | with_reducible exact BJ6_readOrder_236 _ _ | with_reducible exact BJ6_readOrder_225 _ _ | with_reducible exact Or.inl rfl | with_reducible exact Or.inr rfl
theorem BJ6_readOrder_169 (u169 : bU) (y0_169 : Int32) (x1_169 : Int32) : (J6_readOrder_169 u169 y0_169 x1_169).1 = 0 ∨ (J6_readOrder_169 u169 y0_169 x1_169).1 = 1 := by
  unfold J6_readOrder_169
  (repeat' split) <;> first | with_reducible exact BJ6_readOrder_236 _ _ | with_reducible exact BJ6_readOrder_225 _ _ | with_reducible exact BJ6_readOrder_180 _ _ _ | with_reducible exact Or.inl rfl | with_reducible exact Or.inr rfl
theorem BJ6_readOrder_139 (u139 : bU) (y0_139 : Int32) (x1_139 : Int32) : (J6_readOrder_139 u139 y0_139 x1_139).1 = 0 ∨ (J6_readOrder_139 u139 y0_139 x1_139).1 = 1 := by
  unfold J6_readOrder_139
  (repeat' split) <;> first | with_reducible exact BJ6_readOrder_236 _ _ | with_reducible exact BJ6_readOrder_225 _ _ | with_reducible exact BJ6_readOrder_180 _ _ _ | with_reducible exact BJ6_readOrder_169 _ _ _ | with_reducible exact Or.inl rfl | with_reducible exact Or.inr rfl
theorem BJ6_readOrder_111 (u111 : bU) (y0_111 : Int32) (x1_111 : Int32) : (J6_readOrder_111 u111 y0_111 x1_111).1 = 0 ∨ (J6_readOrder_111 u111 y0_111 x1_111).1 = 1 := by
  unfold J6_readOrder_111
  (repeat' split) <;> first | with_reducible exact BJ6_readOrder_236 _ _ | with_reducible exact BJ6_readOrder_225 _ _ | with_reducible exact BJ6_readOrder_180 _ _ _ | with_reducible exact BJ6_readOrder_169 _ _ _ | with_reducible exact BJ6_readOrder_139 _ _ _ | with_reducible exact Or.inl rfl | with_reducible exact Or.inr rfl
theorem BJ6_readOrder_90 (u90 : bU) (x1_90 : Int32) : (J6_readOrder_90 u90 x1_90).1 = 0 ∨ (J6_readOrder_90 u90 x1_90).1 = 1 := by
  unfold J6_readOrder_90
  (repeat' split) <;> first | with_reducible exact BJ6_readOrder_236 _ _ | with_reducible exact BJ6_readOrder_225 _ _ | with_reducible exact BJ6_readOrder_180 _ _ _ | with_reducible exact BJ6_readOrder_169 _ _ _ | with_reducible exact BJ6_readOrder_139 _ _ _ | with_reducible exact BJ6_readOrder_111 _ _ _ | with_reducible exact Or.inl rfl | with_reducible exact Or.inr rfl
theorem B6_readOrder (u : bU) : (F6_readOrder u).1 = 0 ∨ (F6_readOrder u).1 = 1 := by
  unfold F6_readOrder
  (repeat' split) <;> first | with_reducible exact BJ6_readOrder_236 _ _ | with_reducible exact BJ6_readOrder_225 _ _ | with_reducible exact BJ6_readOrder_180 _ _ _ | with_reducible exact BJ6_readOrder_169 _ _ _ | with_reducible exact BJ6_readOrder_139 _ _ _ | with_reducible exact BJ6_readOrder_111 _ _ _ | with_reducible exact BJ6_readOrder_90 _ _ | with_reducible exact Or.inl rfl | with_reducible exact Or.inr rfl

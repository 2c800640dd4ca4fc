def F5_isBrand (u : bU) (a1 : Int32) : Int32 := (if a1 < 0 then 0 else (if (F2_ofAll u 0) ≤ a1 then 0 else 1))
set_option maxHeartbeats 4000000 in
set_option maxRecDepth 100000 in
theorem C5_isBrand (l : Launch) (D : va_G) (cI cO : ClassId) (q : Nat → Nat) (u : bU) (H0 : Heap) (hP : va_P D vwCl (wC cI cO q u) H0) (a1 : Int32) : Met l yX5_isBrand wsX5_isBrand ({ frames := 2, cells := 0, slots := 0, locals := 42 }) (bP D [(cI, .int), (cO, .object RX2)] H0 [.ref (q 0), .int a1]) (bRi H0 (F5_isBrand u a1)) 0 0 (fun _ => False) := by
  refine Met.ofW (cc := cX5_isBrand) (maxL := 2) (ret := (some .boolean)) (by decide) rfl ?_
  intro p e s m args below meth c s₁ B hml hv
  obtain ⟨rfl, hH, hk⟩ := hv
  subst hH
  have hx := B.exec
  have hb := B.bytes
  have hr := B.returns
  have hts := atoms_spec (ws := wsX5_isBrand) B.pre
  have hown : s.vm.findClass RX5 = some m.cls := findClass_of_methodNamed B.named
  have hlocks := B.notSynchronized
  have iX5 : ∀ w ∈ wsX50, w ∈ wsX5_isBrand := by decide +kernel
  have hS : va_S (fun _ => False) s.heap s.heap [] := va_S.rf
  have hl := lv_entry ([.ref (q 0), .int a1]) (n := 2) (Nat.le_of_ble_eq_true rfl)
  rw [lg_entry_eq]
  generalize (lg_sl ([.ref (q 0), .int a1]) ++ List.replicate (2 - (lg_sl ([.ref (q 0), .int a1])).length) Slot.unset).toArray = ls at hl ⊢
  have hl : lv_has ls 2 [(0, .ref (q 0)), (1, .int a1)] := hl
  generalize hF : F5_isBrand u a1 = tgt
  refine lv_iload_n hx hb dX5_isBrand_0 rfl (lv_at hl 1 rfl) ?_
  refine lv_if_lt (tgt := 20) hx hb dX5_isBrand_1 (by decide) (fun c_1 => ?_) (fun c_1 => ?_)
  · refine lv_iconst (v := 0) hx hb dX5_isBrand_20 (by decide) ?_
    exact bret_Rz hx hb hr hS hlocks dX5_isBrand_21 (Or.inl rfl) (by rw [← hF, F5_isBrand, if_pos c_1])
  · refine lv_iload_n hx hb dX5_isBrand_4 rfl (lv_at hl 1 rfl) ?_
    refine lv_aload_n hx hb dX5_isBrand_5 rfl (lv_at hl 0 rfl) ?_
    refine va_get (D := D) (ci := 5) (C := RX5) (T := TX5) (N := 5) hx hb hts iX5 hown hk.1 hP 0 (wC_0 _ _ _ _) rfl 0 (by decide) (hts (.fieldLink RX5 20 "BottleLoop" "now" "LBottleLoop$State;") (List.mem_of_getElem? (i := 1) rfl)) (fun _ h9 => h9) rfl dX5_isBrand_6 ?_
    refine lv_iconst (v := 0) hx hb dX5_isBrand_9 (by decide) ?_
    refine bcall_Ri (va_runVN (As := [.int 0]) (rest := [.int a1]) ⟨hx, hb, hml, hown, hts⟩ (C2_ofAll l D cI cO q _ _ hP 0) ⟨va_cnB 1 hts gX5_isBrand_X2_ofAll_n52 rfl rfl rfl (hk.2 (.methodLinkNest RX5 52 yX2_ofAll RX5) (List.mem_of_getElem? (i := 8) rfl)) (hts (.initialized RX2) (List.mem_of_getElem? (i := 3) rfl)) bd_X2ofAll ⟨Nat.le_of_ble_eq_true rfl, Nat.le_of_ble_eq_true rfl⟩, (hts (.instanceMethod yX2_ofAll) (List.mem_of_getElem? (i := 2) rfl)), (hts (.selects RX2 yX2_ofAll yX2_ofAll) (List.mem_of_getElem? (i := 4) rfl))⟩ (bPV hk (va_recv hk.1 hP (ci := 2) (q0 := 3) rfl (wC_3 _ _ _ _))) rfl rfl hl.1 rfl (lv_room (Nat.le_of_ble_eq_true rfl)) dX5_isBrand_10 ⟨Nat.zero_le _, Nat.zero_le _⟩) hS (fun locs hS => ?_)
    refine lv_icmp_ge (tgt := 20) hx hb dX5_isBrand_13 (by decide) (fun c_2 => ?_) (fun c_2 => ?_)
    · refine lv_iconst (v := 0) hx hb dX5_isBrand_20 (by decide) ?_
      exact bret_Rz hx hb hr hS hlocks dX5_isBrand_21 (Or.inl rfl) (by rw [← hF, F5_isBrand, if_neg c_1, if_pos c_2])
    · refine lv_iconst (v := 1) hx hb dX5_isBrand_16 (by decide) ?_
      refine lv_goto (tgt := 21) hx hb dX5_isBrand_17 (by decide) ?_
      exact bret_Rz hx hb hr hS hlocks dX5_isBrand_21 (Or.inr rfl) (by rw [← hF, F5_isBrand, if_neg c_1, if_neg c_2])
theorem B5_isBrand (u : bU) (a1 : Int32) : (F5_isBrand u a1) = 0 ∨ (F5_isBrand u a1) = 1 := by
  unfold F5_isBrand
  (repeat' split) <;> first | exact Or.inl rfl | exact Or.inr rfl
def F5_isShop (u : bU) (a1 : Int32) : Int32 := (if a1 < 0 then 0 else (if (F2_ofAll u 1) ≤ a1 then 0 else 1))
set_option maxHeartbeats 4000000 in
set_option maxRecDepth 100000 in
theorem C5_isShop (l : Launch) (D : va_G) (cI cO : ClassId) (q : Nat → Nat) (u : bU) (H0 : Heap) (hP : va_P D vwCl (wC cI cO q u) H0) (a1 : Int32) : Met l yX5_isShop wsX5_isShop ({ frames := 2, cells := 0, slots := 0, locals := 42 }) (bP D [(cI, .int), (cO, .object RX2)] H0 [.ref (q 0), .int a1]) (bRi H0 (F5_isShop u a1)) 0 0 (fun _ => False) := by
  refine Met.ofW (cc := cX5_isShop) (maxL := 2) (ret := (some .boolean)) (by decide) rfl ?_
  intro p e s m args below meth c s₁ B hml hv
  obtain ⟨rfl, hH, hk⟩ := hv
  subst hH
  have hx := B.exec
  have hb := B.bytes
  have hr := B.returns
  have hts := atoms_spec (ws := wsX5_isShop) B.pre
  have hown : s.vm.findClass RX5 = some m.cls := findClass_of_methodNamed B.named
  have hlocks := B.notSynchronized
  have iX5 : ∀ w ∈ wsX50, w ∈ wsX5_isShop := by decide +kernel
  have hS : va_S (fun _ => False) s.heap s.heap [] := va_S.rf
  have hl := lv_entry ([.ref (q 0), .int a1]) (n := 2) (Nat.le_of_ble_eq_true rfl)
  rw [lg_entry_eq]
  generalize (lg_sl ([.ref (q 0), .int a1]) ++ List.replicate (2 - (lg_sl ([.ref (q 0), .int a1])).length) Slot.unset).toArray = ls at hl ⊢
  have hl : lv_has ls 2 [(0, .ref (q 0)), (1, .int a1)] := hl
  generalize hF : F5_isShop u a1 = tgt
  refine lv_iload_n hx hb dX5_isShop_0 rfl (lv_at hl 1 rfl) ?_
  refine lv_if_lt (tgt := 20) hx hb dX5_isShop_1 (by decide) (fun c_1 => ?_) (fun c_1 => ?_)
  · refine lv_iconst (v := 0) hx hb dX5_isShop_20 (by decide) ?_
    exact bret_Rz hx hb hr hS hlocks dX5_isShop_21 (Or.inl rfl) (by rw [← hF, F5_isShop, if_pos c_1])
  · refine lv_iload_n hx hb dX5_isShop_4 rfl (lv_at hl 1 rfl) ?_
    refine lv_aload_n hx hb dX5_isShop_5 rfl (lv_at hl 0 rfl) ?_
    refine va_get (D := D) (ci := 5) (C := RX5) (T := TX5) (N := 5) hx hb hts iX5 hown hk.1 hP 0 (wC_0 _ _ _ _) rfl 0 (by decide) (hts (.fieldLink RX5 20 "BottleLoop" "now" "LBottleLoop$State;") (List.mem_of_getElem? (i := 1) rfl)) (fun _ h9 => h9) rfl dX5_isShop_6 ?_
    refine lv_iconst (v := 1) hx hb dX5_isShop_9 (by decide) ?_
    refine bcall_Ri (va_runVN (As := [.int 1]) (rest := [.int a1]) ⟨hx, hb, hml, hown, hts⟩ (C2_ofAll l D cI cO q _ _ hP 1) ⟨va_cnB 1 hts gX5_isShop_X2_ofAll_n52 rfl rfl rfl (hk.2 (.methodLinkNest RX5 52 yX2_ofAll RX5) (List.mem_of_getElem? (i := 8) rfl)) (hts (.initialized RX2) (List.mem_of_getElem? (i := 3) rfl)) bd_X2ofAll ⟨Nat.le_of_ble_eq_true rfl, Nat.le_of_ble_eq_true rfl⟩, (hts (.instanceMethod yX2_ofAll) (List.mem_of_getElem? (i := 2) rfl)), (hts (.selects RX2 yX2_ofAll yX2_ofAll) (List.mem_of_getElem? (i := 4) rfl))⟩ (bPV hk (va_recv hk.1 hP (ci := 2) (q0 := 3) rfl (wC_3 _ _ _ _))) rfl rfl hl.1 rfl (lv_room (Nat.le_of_ble_eq_true rfl)) dX5_isShop_10 ⟨Nat.zero_le _, Nat.zero_le _⟩) hS (fun locs hS => ?_)
    refine lv_icmp_ge (tgt := 20) hx hb dX5_isShop_13 (by decide) (fun c_2 => ?_) (fun c_2 => ?_)
    · refine lv_iconst (v := 0) hx hb dX5_isShop_20 (by decide) ?_
      exact bret_Rz hx hb hr hS hlocks dX5_isShop_21 (Or.inl rfl) (by rw [← hF, F5_isShop, if_neg c_1, if_pos c_2])
    · refine lv_iconst (v := 1) hx hb dX5_isShop_16 (by decide) ?_
      refine lv_goto (tgt := 21) hx hb dX5_isShop_17 (by decide) ?_
      exact bret_Rz hx hb hr hS hlocks dX5_isShop_21 (Or.inr rfl) (by rw [← hF, F5_isShop, if_neg c_1, if_neg c_2])
theorem B5_isShop (u : bU) (a1 : Int32) : (F5_isShop u a1) = 0 ∨ (F5_isShop u a1) = 1 := by
  unfold F5_isShop
  (repeat' split) <;> first | exact Or.inl rfl | exact Or.inr rfl
def F5_isShopNumber (a1 : Int32) : Int32 := (if a1 < 0 then (if a1 < (10 : Int32) then (if a1 < (20 : Int32) then 0 else (if (28 : Int32) ≤ a1 then 0 else 1)) else (if a1 < (18 : Int32) then 1 else (if a1 < (20 : Int32) then 0 else (if (28 : Int32) ≤ a1 then 0 else 1)))) else (if a1 ≤ (6 : Int32) then 1 else (if a1 < (10 : Int32) then (if a1 < (20 : Int32) then 0 else (if (28 : Int32) ≤ a1 then 0 else 1)) else (if a1 < (18 : Int32) then 1 else (if a1 < (20 : Int32) then 0 else (if (28 : Int32) ≤ a1 then 0 else 1))))))
set_option maxHeartbeats 4000000 in
set_option maxRecDepth 100000 in
theorem C5_isShopNumber (l : Launch) (D : va_G) (cI cO : ClassId) (q : Nat → Nat) (H0 : Heap) (a1 : Int32) : Met l yX5_isShopNumber wsX5_isShopNumber ({ frames := 0, cells := 0, slots := 0, locals := 0 }) (bP D [(cI, .int), (cO, .object RX2)] H0 [.int a1]) (bRi H0 (F5_isShopNumber a1)) 0 0 (fun _ => False) := by
  refine Met.ofW (cc := cX5_isShopNumber) (maxL := 1) (ret := (some .boolean)) (by decide) rfl ?_
  intro p e s m args below meth c s₁ B hml hv
  obtain ⟨rfl, hH, hk⟩ := hv
  subst hH
  have hx := B.exec
  have hb := B.bytes
  have hr := B.returns
  have hts := atoms_spec (ws := wsX5_isShopNumber) B.pre
  have hown : s.vm.findClass RX5 = some m.cls := findClass_of_methodNamed B.named
  have hlocks := B.notSynchronized
  have hS : va_S (fun _ => False) s.heap s.heap [] := va_S.rf
  have hl := lv_entry ([.int a1]) (n := 1) (Nat.le_of_ble_eq_true rfl)
  rw [lg_entry_eq]
  generalize (lg_sl ([.int a1]) ++ List.replicate (1 - (lg_sl ([.int a1])).length) Slot.unset).toArray = ls at hl ⊢
  have hl : lv_has ls 1 [(0, .int a1)] := hl
  generalize hF : F5_isShopNumber a1 = tgt
  refine lv_iload_n hx hb dX5_isShopNumber_0 rfl (lv_at hl 0 rfl) ?_
  refine lv_if_lt (tgt := 10) hx hb dX5_isShopNumber_1 (by decide) (fun c_1 => ?_) (fun c_1 => ?_)
  · refine lv_iload_n hx hb dX5_isShopNumber_10 rfl (lv_at hl 0 rfl) ?_
    refine lv_bipush (v := 10) hx hb dX5_isShopNumber_11 (by decide) ?_
    refine lv_icmp_lt (tgt := 22) hx hb dX5_isShopNumber_13 (by decide) (fun c_2 => ?_) (fun c_2 => ?_)
    · refine lv_iload_n hx hb dX5_isShopNumber_22 rfl (lv_at hl 0 rfl) ?_
      refine lv_bipush (v := 20) hx hb dX5_isShopNumber_23 (by decide) ?_
      refine lv_icmp_lt (tgt := 38) hx hb dX5_isShopNumber_25 (by decide) (fun c_3 => ?_) (fun c_3 => ?_)
      · refine lv_iconst (v := 0) hx hb dX5_isShopNumber_38 (by decide) ?_
        exact bret_Rz hx hb hr hS hlocks dX5_isShopNumber_39 (Or.inl rfl) (by rw [← hF, F5_isShopNumber, if_pos c_1, if_pos c_2, if_pos c_3])
      · refine lv_iload_n hx hb dX5_isShopNumber_28 rfl (lv_at hl 0 rfl) ?_
        refine lv_bipush (v := 28) hx hb dX5_isShopNumber_29 (by decide) ?_
        refine lv_icmp_ge (tgt := 38) hx hb dX5_isShopNumber_31 (by decide) (fun c_4 => ?_) (fun c_4 => ?_)
        · refine lv_iconst (v := 0) hx hb dX5_isShopNumber_38 (by decide) ?_
          exact bret_Rz hx hb hr hS hlocks dX5_isShopNumber_39 (Or.inl rfl) (by rw [← hF, F5_isShopNumber, if_pos c_1, if_pos c_2, if_neg c_3, if_pos c_4])
        · refine lv_iconst (v := 1) hx hb dX5_isShopNumber_34 (by decide) ?_
          refine lv_goto (tgt := 39) hx hb dX5_isShopNumber_35 (by decide) ?_
          exact bret_Rz hx hb hr hS hlocks dX5_isShopNumber_39 (Or.inr rfl) (by rw [← hF, F5_isShopNumber, if_pos c_1, if_pos c_2, if_neg c_3, if_neg c_4])
    · refine lv_iload_n hx hb dX5_isShopNumber_16 rfl (lv_at hl 0 rfl) ?_
      refine lv_bipush (v := 18) hx hb dX5_isShopNumber_17 (by decide) ?_
      refine lv_icmp_lt (tgt := 34) hx hb dX5_isShopNumber_19 (by decide) (fun c_5 => ?_) (fun c_5 => ?_)
      · refine lv_iconst (v := 1) hx hb dX5_isShopNumber_34 (by decide) ?_
        refine lv_goto (tgt := 39) hx hb dX5_isShopNumber_35 (by decide) ?_
        exact bret_Rz hx hb hr hS hlocks dX5_isShopNumber_39 (Or.inr rfl) (by rw [← hF, F5_isShopNumber, if_pos c_1, if_neg c_2, if_pos c_5])
      · refine lv_iload_n hx hb dX5_isShopNumber_22 rfl (lv_at hl 0 rfl) ?_
        refine lv_bipush (v := 20) hx hb dX5_isShopNumber_23 (by decide) ?_
        refine lv_icmp_lt (tgt := 38) hx hb dX5_isShopNumber_25 (by decide) (fun c_6 => ?_) (fun c_6 => ?_)
        · refine lv_iconst (v := 0) hx hb dX5_isShopNumber_38 (by decide) ?_
          exact bret_Rz hx hb hr hS hlocks dX5_isShopNumber_39 (Or.inl rfl) (by rw [← hF, F5_isShopNumber, if_pos c_1, if_neg c_2, if_neg c_5, if_pos c_6])
        · refine lv_iload_n hx hb dX5_isShopNumber_28 rfl (lv_at hl 0 rfl) ?_
          refine lv_bipush (v := 28) hx hb dX5_isShopNumber_29 (by decide) ?_
          refine lv_icmp_ge (tgt := 38) hx hb dX5_isShopNumber_31 (by decide) (fun c_7 => ?_) (fun c_7 => ?_)
          · refine lv_iconst (v := 0) hx hb dX5_isShopNumber_38 (by decide) ?_
            exact bret_Rz hx hb hr hS hlocks dX5_isShopNumber_39 (Or.inl rfl) (by rw [← hF, F5_isShopNumber, if_pos c_1, if_neg c_2, if_neg c_5, if_neg c_6, if_pos c_7])
          · refine lv_iconst (v := 1) hx hb dX5_isShopNumber_34 (by decide) ?_
            refine lv_goto (tgt := 39) hx hb dX5_isShopNumber_35 (by decide) ?_
            exact bret_Rz hx hb hr hS hlocks dX5_isShopNumber_39 (Or.inr rfl) (by rw [← hF, F5_isShopNumber, if_pos c_1, if_neg c_2, if_neg c_5, if_neg c_6, if_neg c_7])
  · refine lv_iload_n hx hb dX5_isShopNumber_4 rfl (lv_at hl 0 rfl) ?_
    refine lv_bipush (v := 6) hx hb dX5_isShopNumber_5 (by decide) ?_
    refine lv_icmp_le (tgt := 34) hx hb dX5_isShopNumber_7 (by decide) (fun c_8 => ?_) (fun c_8 => ?_)
    · refine lv_iconst (v := 1) hx hb dX5_isShopNumber_34 (by decide) ?_
      refine lv_goto (tgt := 39) hx hb dX5_isShopNumber_35 (by decide) ?_
      exact bret_Rz hx hb hr hS hlocks dX5_isShopNumber_39 (Or.inr rfl) (by rw [← hF, F5_isShopNumber, if_neg c_1, if_pos c_8])
    · refine lv_iload_n hx hb dX5_isShopNumber_10 rfl (lv_at hl 0 rfl) ?_
      refine lv_bipush (v := 10) hx hb dX5_isShopNumber_11 (by decide) ?_
      refine lv_icmp_lt (tgt := 22) hx hb dX5_isShopNumber_13 (by decide) (fun c_9 => ?_) (fun c_9 => ?_)
      · refine lv_iload_n hx hb dX5_isShopNumber_22 rfl (lv_at hl 0 rfl) ?_
        refine lv_bipush (v := 20) hx hb dX5_isShopNumber_23 (by decide) ?_
        refine lv_icmp_lt (tgt := 38) hx hb dX5_isShopNumber_25 (by decide) (fun c_10 => ?_) (fun c_10 => ?_)
        · refine lv_iconst (v := 0) hx hb dX5_isShopNumber_38 (by decide) ?_
          exact bret_Rz hx hb hr hS hlocks dX5_isShopNumber_39 (Or.inl rfl) (by rw [← hF, F5_isShopNumber, if_neg c_1, if_neg c_8, if_pos c_9, if_pos c_10])
        · refine lv_iload_n hx hb dX5_isShopNumber_28 rfl (lv_at hl 0 rfl) ?_
          refine lv_bipush (v := 28) hx hb dX5_isShopNumber_29 (by decide) ?_
          refine lv_icmp_ge (tgt := 38) hx hb dX5_isShopNumber_31 (by decide) (fun c_11 => ?_) (fun c_11 => ?_)
          · refine lv_iconst (v := 0) hx hb dX5_isShopNumber_38 (by decide) ?_
            exact bret_Rz hx hb hr hS hlocks dX5_isShopNumber_39 (Or.inl rfl) (by rw [← hF, F5_isShopNumber, if_neg c_1, if_neg c_8, if_pos c_9, if_neg c_10, if_pos c_11])
          · refine lv_iconst (v := 1) hx hb dX5_isShopNumber_34 (by decide) ?_
            refine lv_goto (tgt := 39) hx hb dX5_isShopNumber_35 (by decide) ?_
            exact bret_Rz hx hb hr hS hlocks dX5_isShopNumber_39 (Or.inr rfl) (by rw [← hF, F5_isShopNumber, if_neg c_1, if_neg c_8, if_pos c_9, if_neg c_10, if_neg c_11])
      · refine lv_iload_n hx hb dX5_isShopNumber_16 rfl (lv_at hl 0 rfl) ?_
        refine lv_bipush (v := 18) hx hb dX5_isShopNumber_17 (by decide) ?_
        refine lv_icmp_lt (tgt := 34) hx hb dX5_isShopNumber_19 (by decide) (fun c_12 => ?_) (fun c_12 => ?_)
        · refine lv_iconst (v := 1) hx hb dX5_isShopNumber_34 (by decide) ?_
          refine lv_goto (tgt := 39) hx hb dX5_isShopNumber_35 (by decide) ?_
          exact bret_Rz hx hb hr hS hlocks dX5_isShopNumber_39 (Or.inr rfl) (by rw [← hF, F5_isShopNumber, if_neg c_1, if_neg c_8, if_neg c_9, if_pos c_12])
        · refine lv_iload_n hx hb dX5_isShopNumber_22 rfl (lv_at hl 0 rfl) ?_
          refine lv_bipush (v := 20) hx hb dX5_isShopNumber_23 (by decide) ?_
          refine lv_icmp_lt (tgt := 38) hx hb dX5_isShopNumber_25 (by decide) (fun c_13 => ?_) (fun c_13 => ?_)
          · refine lv_iconst (v := 0) hx hb dX5_isShopNumber_38 (by decide) ?_
            exact bret_Rz hx hb hr hS hlocks dX5_isShopNumber_39 (Or.inl rfl) (by rw [← hF, F5_isShopNumber, if_neg c_1, if_neg c_8, if_neg c_9, if_neg c_12, if_pos c_13])
          · refine lv_iload_n hx hb dX5_isShopNumber_28 rfl (lv_at hl 0 rfl) ?_
            refine lv_bipush (v := 28) hx hb dX5_isShopNumber_29 (by decide) ?_
            refine lv_icmp_ge (tgt := 38) hx hb dX5_isShopNumber_31 (by decide) (fun c_14 => ?_) (fun c_14 => ?_)
            · refine lv_iconst (v := 0) hx hb dX5_isShopNumber_38 (by decide) ?_
              exact bret_Rz hx hb hr hS hlocks dX5_isShopNumber_39 (Or.inl rfl) (by rw [← hF, F5_isShopNumber, if_neg c_1, if_neg c_8, if_neg c_9, if_neg c_12, if_neg c_13, if_pos c_14])
            · refine lv_iconst (v := 1) hx hb dX5_isShopNumber_34 (by decide) ?_
              refine lv_goto (tgt := 39) hx hb dX5_isShopNumber_35 (by decide) ?_
              exact bret_Rz hx hb hr hS hlocks dX5_isShopNumber_39 (Or.inr rfl) (by rw [← hF, F5_isShopNumber, if_neg c_1, if_neg c_8, if_neg c_9, if_neg c_12, if_neg c_13, if_neg c_14])
theorem B5_isShopNumber (a1 : Int32) : (F5_isShopNumber a1) = 0 ∨ (F5_isShopNumber a1) = 1 := by
  unfold F5_isShopNumber
  (repeat' split) <;> first | exact Or.inl rfl | exact Or.inr rfl

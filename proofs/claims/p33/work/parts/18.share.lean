-- goneShare (by program)
theorem bd_X2brandSum : yX2_brandSum.cls ≠ "java/lang/invoke/MethodHandle" ∧ yX2_brandSum.cls ≠ "java/lang/invoke/VarHandle" ∧ (parseMethodDescriptor yX2_brandSum.desc).map (fun d => d.parameters.length) = some 2 := by decide +kernel
def F5_goneShare (u : bU) : UInt64 := (if (F2_brandSum1 u) ≤ 0 then FP.dconst0 else (FP.ddiv (FP.i2d (F2_brandSum7 u)) (FP.i2d (F2_brandSum1 u))))
set_option maxHeartbeats 4000000 in
set_option maxRecDepth 100000 in
theorem C5_goneShare (l : Launch) (D : va_G) (cI cO : ClassId) (q : Nat → Nat) (u : bU) (H0 : Heap) (hP : va_P D vwCl (wC cI cO q u) H0) (hnn : ¬ F2_brandSum1 u ≤ 0 → vf_n64 (FP.ddiv (FP.i2d (F2_brandSum7 u)) (FP.i2d (F2_brandSum1 u)))) : Met l yX5_goneShare wsX5_goneShare ({ frames := 5, cells := 0, slots := 0, locals := 113 }) (bP D [(cI, .int), (cO, .object RX2)] H0 [.ref (q 0)]) (bRd H0 (F5_goneShare u)) 0 0 (fun _ => False) := by
  refine Met.ofW (cc := cX5_goneShare) (maxL := 2) (ret := (some .double)) (by decide) rfl ?_
  intro p e s m args below meth c s₁ B hml hv
  obtain ⟨rfl, hH, hk⟩ := hv
  subst hH
  have hx := B.exec
  have hb := B.bytes
  have hr := B.returns
  have hts := atoms_spec (ws := wsX5_goneShare) B.pre
  have hown : s.vm.findClass RX5 = some m.cls := findClass_of_methodNamed B.named
  have hlocks := B.notSynchronized
  have iX5 : ∀ w ∈ wsX50, w ∈ wsX5_goneShare := by decide +kernel
  have hS : va_S (fun _ => False) s.heap s.heap [] := va_S.rf
  have hl := lv_entry ([.ref (q 0)]) (n := 2) (Nat.le_of_ble_eq_true rfl)
  rw [lg_entry_eq]
  generalize (lg_sl ([.ref (q 0)]) ++ List.replicate (2 - (lg_sl ([.ref (q 0)])).length) Slot.unset).toArray = ls at hl ⊢
  have hl : lv_has ls 2 [(0, .ref (q 0))] := hl
  generalize hF : F5_goneShare u = tgt
  refine lv_aload_n hx hb dX5_goneShare_0 rfl (lv_at hl 0 rfl) ?_
  refine va_get (D := D) (ci := 5) (C := RX5) (T := TX5) (N := 5) hx hb hts iX5 hown hk.1 hP 0 (wC_0 _ _ _ _) rfl 0 (by decide) (hts (.fieldLink RX5 20 "BottleLoop" "now" "LBottleLoop$State;") (List.mem_of_getElem? (i := 1) rfl)) (fun _ h9 => h9) rfl dX5_goneShare_1 ?_
  refine lv_iconst (v := 1) hx hb dX5_goneShare_4 (by decide) ?_
  refine lv_bipush (v := 9) hx hb dX5_goneShare_5 (by decide) ?_
  refine bcall_Ri (va_runVN (As := [.int 1, .int 9]) (rest := []) ⟨hx, hb, hml, hown, hts⟩ (C2_brandSum1 l D cI cO q _ _ hP ) ⟨va_cnB 2 hts gX5_goneShare_X2_brandSum_n207 rfl rfl rfl (hk.2 (.methodLinkNest RX5 207 yX2_brandSum RX5) (List.mem_of_getElem? (i := 27) rfl)) (hts (.initialized RX2) (List.mem_of_getElem? (i := 3) rfl)) bd_X2brandSum ⟨Nat.le_of_ble_eq_true rfl, Nat.le_of_ble_eq_true rfl⟩, (hts (.instanceMethod yX2_brandSum) (List.mem_of_getElem? (i := 2) rfl)), (hts (.selects RX2 yX2_brandSum yX2_brandSum) (List.mem_of_getElem? (i := 4) rfl))⟩ (bPV hk (va_recv hk.1 hP (ci := 2) (q0 := 3) rfl (wC_3 _ _ _ _))) rfl rfl hl.1 rfl (lv_room (Nat.le_of_ble_eq_true rfl)) dX5_goneShare_7 ⟨Nat.zero_le _, Nat.zero_le _⟩) hS (fun locs hS => ?_)
  refine lv_istore_n (lv' := [(1, .int (F2_brandSum1 u)), (0, .ref (q 0))]) hx hb dX5_goneShare_10 rfl hl (by decide) rfl (fun ls hl => ?_)
  refine lv_iload_n hx hb dX5_goneShare_11 rfl (lv_at hl 0 rfl) ?_
  refine lv_if_le (tgt := 33) hx hb dX5_goneShare_12 (by decide) (fun c_1 => ?_) (fun c_1 => ?_)
  · refine lv_dconst0 hx hb dX5_goneShare_33 ?_
    exact bret_Rd hx hb hr hS hlocks dX5_goneShare_34 (by rw [← hF, F5_goneShare, if_pos c_1])
  · refine lv_aload_n hx hb dX5_goneShare_15 rfl (lv_at hl 1 rfl) ?_
    refine va_get (D := D) (ci := 5) (C := RX5) (T := TX5) (N := 5) hx hb hts iX5 hown hk.1 hP 0 (wC_0 _ _ _ _) rfl 0 (by decide) (hts (.fieldLink RX5 20 "BottleLoop" "now" "LBottleLoop$State;") (List.mem_of_getElem? (i := 1) rfl)) (fun _ h9 => h9) rfl dX5_goneShare_16 ?_
    refine lv_bipush (v := 7) hx hb dX5_goneShare_19 (by decide) ?_
    refine lv_bipush (v := 9) hx hb dX5_goneShare_21 (by decide) ?_
    refine bcall_Ri (va_runVN (As := [.int 7, .int 9]) (rest := []) ⟨hx, hb, hml, hown, hts⟩ (C2_brandSum7 l D cI cO q _ _ hP ) ⟨va_cnB 2 hts gX5_goneShare_X2_brandSum_n207 rfl rfl rfl (hk.2 (.methodLinkNest RX5 207 yX2_brandSum RX5) (List.mem_of_getElem? (i := 27) rfl)) (hts (.initialized RX2) (List.mem_of_getElem? (i := 3) rfl)) bd_X2brandSum ⟨Nat.le_of_ble_eq_true rfl, Nat.le_of_ble_eq_true rfl⟩, (hts (.instanceMethod yX2_brandSum) (List.mem_of_getElem? (i := 2) rfl)), (hts (.selects RX2 yX2_brandSum yX2_brandSum) (List.mem_of_getElem? (i := 4) rfl))⟩ (bPV hk (va_recv hk.1 hP (ci := 2) (q0 := 3) rfl (wC_3 _ _ _ _))) rfl rfl hl.1 rfl (lv_room (Nat.le_of_ble_eq_true rfl)) dX5_goneShare_23 ⟨Nat.zero_le _, Nat.zero_le _⟩) hS (fun locs hS => ?_)
    refine lv_i2d hx hb dX5_goneShare_26 ?_
    refine lv_iload_n hx hb dX5_goneShare_27 rfl (lv_at hl 0 rfl) ?_
    refine lv_i2d hx hb dX5_goneShare_28 ?_
    refine lv_ddiv hx hb dX5_goneShare_29 (hnn c_1) ?_
    refine lv_goto (tgt := 34) hx hb dX5_goneShare_30 (by decide) ?_
    exact bret_Rd hx hb hr hS hlocks dX5_goneShare_34 (by rw [← hF, F5_goneShare, if_neg c_1])

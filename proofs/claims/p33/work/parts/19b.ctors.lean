-- the other constructors (own text, by program)
theorem va_D1 {a : Nat} {e : va_E} {sz : Nat} : va_D (va_A [(a, e)] sz) [(a, e)] := ⟨fun i j p p2 hi hj _ => by
    have h1 : i < 1 := (List.getElem?_eq_some_iff.mp hi).1
    have h2 : j < 1 := (List.getElem?_eq_some_iff.mp hj).1
    omega, fun _ _ hk => va_A.in hk⟩
theorem va_refs {D : va_G} {cl : List vw_C} {ws : va_W} {H : Heap} {k n a : Nat} {cA : ClassId} {f g : Nat → Option Nat} (h : va_P D cl ws H) (e : ws[k]? = some (a, .inl (cA, n, .inr (.inr (.inr (.inr f)))))) (hfg : ∀ j : Nat, j < n → f j = g j) : va_P D cl (ws.set k (a, .inl (cA, n, .inr (.inr (.inr (.inr g)))))) H := by
  intro i q hq
  by_cases c : i = k
  · subst c
    have hl : i < ws.length := (List.getElem?_eq_some_iff.mp e).1
    rw [List.getElem?_set_self hl] at hq
    cases hq
    have h1 : H[a]? = some (vp_cell cA (n, .inr (.inr (.inr (.inr f))))) := h i _ e
    show H[a]? = some (vp_cell cA (n, .inr (.inr (.inr (.inr g)))))
    rw [h1]
    show some (arrV cA n (fun j => va_rf (f j))) = some (arrV cA n (fun j => va_rf (g j)))
    have : (fun j : Fin n => va_rf (f j.val)) = (fun j : Fin n => va_rf (g j.val)) := funext fun j => by rw [hfg j.val j.isLt]
    unfold arrV
    rw [this]
  · rw [List.getElem?_set_ne (fun q9 => c q9.symm)] at hq
    exact h i q hq
def uC0 : bU := fun k => match k with
  | 0 => sF 6
  | 3 => sF 6
  | 4 => sF 6
  | 5 => sF 6
  | 6 => sF 6
  | 7 => sF 6
  | 8 => sF 6
  | _ => fun _ => 0
theorem bd_X0init : yX0_init.cls ≠ "java/lang/invoke/MethodHandle" ∧ yX0_init.cls ≠ "java/lang/invoke/VarHandle" ∧ (parseMethodDescriptor yX0_init.desc).map (fun d => d.parameters.length) = some 0 := by decide +kernel
theorem bd_X1init : yX1_init.cls ≠ "java/lang/invoke/MethodHandle" ∧ yX1_init.cls ≠ "java/lang/invoke/VarHandle" ∧ (parseMethodDescriptor yX1_init.desc).map (fun d => d.parameters.length) = some 0 := by decide +kernel
theorem bd_X2init : yX2_init.cls ≠ "java/lang/invoke/MethodHandle" ∧ yX2_init.cls ≠ "java/lang/invoke/VarHandle" ∧ (parseMethodDescriptor yX2_init.desc).map (fun d => d.parameters.length) = some 0 := by decide +kernel
theorem bd_X3init : yX3_init.cls ≠ "java/lang/invoke/MethodHandle" ∧ yX3_init.cls ≠ "java/lang/invoke/VarHandle" ∧ (parseMethodDescriptor yX3_init.desc).map (fun d => d.parameters.length) = some 0 := by decide +kernel
theorem bd_X4init : yX4_init.cls ≠ "java/lang/invoke/MethodHandle" ∧ yX4_init.cls ≠ "java/lang/invoke/VarHandle" ∧ (parseMethodDescriptor yX4_init.desc).map (fun d => d.parameters.length) = some 0 := by decide +kernel
set_option maxHeartbeats 4000000 in
set_option maxRecDepth 100000 in
theorem C3_init (l : Launch) (D : va_G) (cI cO : ClassId) (h0 : Nat) (H0 : Heap) (hP : va_P D vwCl [(h0, .inr (3, [.null, .null, .int 0]))] H0) : Met l yX3_init wsX3_init ({ frames := 2, cells := 2, slots := 65, locals := 32 }) (bP D [(cI, .int), (cO, .object RX2)] H0 [.ref h0]) (va_Qv (fun _ : Unit => True) (fun _ t => ∃ q7 n1_13 : Nat, va_P D vwCl [(h0, .inr (3, [.ref q7, .ref n1_13, .int 0])), (q7, .inl (cI, 60, .inl (fun _ => 0))), (n1_13, .inr (0, [.int 0, .int 0, .int 0, .int 0, .int 0]))] t.heap ∧ va_D (va_A [(h0, .inr (3, [.null, .null, .int 0]))] H0.size) [(h0, .inr (3, [.ref q7, .ref n1_13, .int 0])), (q7, .inl (cI, 60, .inl (fun _ => 0))), (n1_13, .inr (0, [.int 0, .int 0, .int 0, .int 0, .int 0]))]) (va_A [(h0, .inr (3, [.null, .null, .int 0]))] H0.size)) 2 65 (va_A [(h0, .inr (3, [.null, .null, .int 0]))] H0.size) := by
  refine Met.ofW (cc := cX3_init) (maxL := 1) (ret := none) (by decide) rfl ?_
  intro p e s m args below meth c s₁ B hml hv
  obtain ⟨rfl, hH, hk⟩ := hv
  subst hH
  have hx := B.exec
  have hb := B.bytes
  have hr := B.returns
  have hts := atoms_spec (ws := wsX3_init) B.pre
  have hown : s.vm.findClass RX3 = some m.cls := findClass_of_methodNamed B.named
  have hlocks := B.notSynchronized
  have hin : meth.name = "<init>" := (name_of_methodNamed B.named B.method).1
  have hD := va_D1 (a := h0) (e := .inr (3, [.null, .null, .int 0])) (sz := s.heap.size)
  generalize hAe : (va_A [(h0, .inr (3, [.null, .null, .int 0]))] s.heap.size) = A at hD ⊢
  have hA : ∀ q : Nat, s.heap.size ≤ q → A q := fun q h => by rw [← hAe]; exact Or.inr h
  have hS : va_S A s.heap s.heap [] := va_S.rf
  have iX0 : ∀ w ∈ wsX00, w ∈ wsX3_init := by decide +kernel
  have iX3 : ∀ w ∈ wsX30, w ∈ wsX3_init := by decide +kernel
  have hl := lv_entry ([.ref h0]) (n := 1) (Nat.le_of_ble_eq_true rfl)
  rw [lg_entry_eq]
  generalize (lg_sl ([.ref h0]) ++ List.replicate (1 - (lg_sl ([.ref h0])).length) Slot.unset).toArray = ls at hl ⊢
  have hl : lv_has ls 1 [(0, .ref h0)] := hl
  refine lv_aload_n hx hb dX3_init_0 rfl (lv_at hl 0 rfl) ?_
  refine W.objInit hx hb hown (hts (.methodLink RX3 1 objectInit) (List.mem_of_getElem? (i := 1) rfl)) (hts (.instanceMethod objectInit) (List.mem_of_getElem? (i := 2) rfl)) (hts _ (List.mem_of_getElem? (i := 3) rfl)) rfl (by rw [hml]; exact hl.1) rfl dX3_init_1 (Nat.le_of_ble_eq_true rfl) (Nat.le_of_ble_eq_true rfl) ?_
  refine W.eq (g2 := F0 m 4 ls []) rfl ?_
  refine lv_aload_n hx hb dX3_init_4 rfl (lv_at hl 0 rfl) ?_
  refine lv_bipush (v := 60) hx hb dX3_init_5 (by decide) ?_
  refine va_newa (atype := .int) (ty := .int) (N' := 60) (a0 := (60, .inl (fun _ => 0))) hx hb (hts (.arrayClass .int) (List.mem_of_getElem? (i := 4) rfl)) rfl hk.1 hP hD hS hA (fun _ => rfl) (by decide) (by decide) (by decide) (Nat.le_of_ble_eq_true rfl) (Nat.le_of_ble_eq_true rfl) dX3_init_7 (fun q7 cA H hK2 hP hD hS => ?_)
  have e9 := ty_I (k := 0) hk.1 hK2 rfl
  rw [e9] at hP hD
  clear hK2 e9
  have hP : va_P D vwCl [(h0, .inr (3, [.null, .null, .int 0])), (q7, .inl (cI, 60, .inl (fun _ => 0)))] H := hP
  have hD : va_D A [(h0, .inr (3, [.null, .null, .int 0])), (q7, .inl (cI, 60, .inl (fun _ => 0)))] := hD
  refine W.widen (k := 1) (n := 60) (by omega) (by omega) ?_
  refine va_putF (D := D) (ci := 3) (v := .ref q7) (ty := .array .int) (C := RX3) (T := TX3) (N := 3) hx hb hts iX3 tyX3 tyX3_ok nmX3 hown hk.1 hP hD hS 0 rfl rfl 0 (by decide) (hts (.fieldLink RX3 9 "BottleLoop$Text" "codes" "[I") (List.mem_of_getElem? (i := 5) rfl)) (fun _ h9 => h9) rfl hin rfl (by decide +kernel) rfl rfl (Nat.le_of_ble_eq_true rfl) dX3_init_9 (fun H locs hP hD hS => ?_)
  have hP : va_P D vwCl [(h0, .inr (3, [.ref q7, .null, .int 0])), (q7, .inl (cI, 60, .inl (fun _ => 0)))] H := hP
  have hD : va_D A [(h0, .inr (3, [.ref q7, .null, .int 0])), (q7, .inl (cI, 60, .inl (fun _ => 0)))] := hD
  refine lv_aload_n hx hb dX3_init_12 rfl (lv_at hl 0 rfl) ?_
  refine va_new (D := D) (ci := 0) (fs := [.int 0, .int 0, .int 0, .int 0, .int 0]) (C := RX0) (T := TX0) (N := 5) hx hb hts iX0 tyX0 tyX0_ok hown (hts (.classLink RX3 13 RX0) (List.mem_of_getElem? (i := 6) rfl)) (hts (.instantiable RX0 5) (List.mem_of_getElem? (i := 7) rfl)) (hts (.initialized RX0) (List.mem_of_getElem? (i := 8) rfl)) hk.1 hP hD hS hA rfl (fun j hj => by rcases (show j = 0 ∨ j = 1 ∨ j = 2 ∨ j = 3 ∨ j = 4 by omega) with rfl | rfl | rfl | rfl | rfl <;> rfl) (Nat.le_of_ble_eq_true rfl) (Nat.le_of_ble_eq_true rfl) dX3_init_13 (fun n1_13 H hP hD hS => ?_)
  have hP : va_P D vwCl [(h0, .inr (3, [.ref q7, .null, .int 0])), (q7, .inl (cI, 60, .inl (fun _ => 0))), (n1_13, .inr (0, [.int 0, .int 0, .int 0, .int 0, .int 0]))] H := hP
  have hD : va_D A [(h0, .inr (3, [.ref q7, .null, .int 0])), (q7, .inl (cI, 60, .inl (fun _ => 0))), (n1_13, .inr (0, [.int 0, .int 0, .int 0, .int 0, .int 0]))] := hD
  refine W.widen (k := 2) (n := 65) (by omega) (by omega) ?_
  refine lv_dup hx hb dX3_init_16 rfl ?_
  refine bcall_Rv (va_runIN (As := []) (rest := [.ref n1_13, .ref h0]) ⟨hx, hb, hml, hown, hts⟩ (C0_init l D cI cO n1_13 H) ⟨va_cnB 0 hts gX3_init_X0_init_n15 rfl rfl rfl (hk.2 (.methodLinkNest RX3 15 yX0_init RX5) (List.mem_of_getElem? (i := 6) rfl)) (hts (.initialized RX0) (List.mem_of_getElem? (i := 8) rfl)) bd_X0init ⟨Nat.le_of_ble_eq_true rfl, Nat.le_of_ble_eq_true rfl⟩, rfl, (hts (.instanceMethod yX0_init) (List.mem_of_getElem? (i := 10) rfl))⟩ (bPS hk) rfl rfl hl.1 rfl (lv_room (Nat.le_of_ble_eq_true rfl)) dX3_init_17 ⟨Nat.le_of_ble_eq_true rfl, Nat.le_of_ble_eq_true rfl⟩) hS (fun locs hS => ?_)
  refine va_putF (D := D) (ci := 3) (v := .ref n1_13) (ty := .object "BottleLoop$Order") (C := RX3) (T := TX3) (N := 3) hx hb hts iX3 tyX3 tyX3_ok nmX3 hown hk.1 hP hD hS 0 rfl rfl 1 (by decide) (hts (.fieldLink RX3 16 "BottleLoop$Text" "order" "LBottleLoop$Order;") (List.mem_of_getElem? (i := 9) rfl)) (fun _ h9 => h9) rfl hin rfl (by decide +kernel) rfl rfl (Nat.le_of_ble_eq_true rfl) dX3_init_20 (fun H locs hP hD hS => ?_)
  have hP : va_P D vwCl [(h0, .inr (3, [.ref q7, .ref n1_13, .int 0])), (q7, .inl (cI, 60, .inl (fun _ => 0))), (n1_13, .inr (0, [.int 0, .int 0, .int 0, .int 0, .int 0]))] H := hP
  have hD : va_D A [(h0, .inr (3, [.ref q7, .ref n1_13, .int 0])), (q7, .inl (cI, 60, .inl (fun _ => 0))), (n1_13, .inr (0, [.int 0, .int 0, .int 0, .int 0, .int 0]))] := hD
  refine W.widen (k := 2) (n := 65) (by omega) (by omega) ?_
  exact W.vret hx hb hr (fun t ht hW => ⟨⟨(), rfl, trivial, q7, n1_13, by rw [ht]; exact hP, hD⟩, hS.F ht⟩) hS.2.2 dX3_init_23
set_option maxHeartbeats 4000000 in
set_option maxRecDepth 100000 in
theorem C4_init (l : Launch) (D : va_G) (cI cO : ClassId) (h0 : Nat) (H0 : Heap) (hP : va_P D vwCl [(h0, .inr (4, [.null, .null]))] H0) : Met l yX4_init wsX4_init ({ frames := 3, cells := 3, slots := 354, locals := 65 }) (bPF D cI cO (va_A [(h0, .inr (4, [.null, .null]))] H0.size) H0 [.ref h0]) (va_Qv (fun _ : Unit => True) (fun _ t => ∃ n1_5 r_n1_5 q18 : Nat, va_P D vwCl [(h0, .inr (4, [.ref n1_5, .ref q18])), (n1_5, .inr (2, [.ref r_n1_5])), (r_n1_5, .inl (cI, 345, .inl (sF 6))), (q18, .inl (cI, 8, .inl (fun _ => 0)))] t.heap ∧ va_D (va_A [(h0, .inr (4, [.null, .null]))] H0.size) [(h0, .inr (4, [.ref n1_5, .ref q18])), (n1_5, .inr (2, [.ref r_n1_5])), (r_n1_5, .inl (cI, 345, .inl (sF 6))), (q18, .inl (cI, 8, .inl (fun _ => 0)))]) (va_A [(h0, .inr (4, [.null, .null]))] H0.size)) 3 354 (va_A [(h0, .inr (4, [.null, .null]))] H0.size) := by
  refine Met.ofW (cc := cX4_init) (maxL := 1) (ret := none) (by decide) rfl ?_
  intro p e s m args below meth c s₁ B hml hv
  obtain ⟨rfl, hH, hk, hT, hO⟩ := hv
  subst hH
  have hx := B.exec
  have hb := B.bytes
  have hr := B.returns
  have hts := atoms_spec (ws := wsX4_init) B.pre
  have hown : s.vm.findClass RX4 = some m.cls := findClass_of_methodNamed B.named
  have hlocks := B.notSynchronized
  have hin : meth.name = "<init>" := (name_of_methodNamed B.named B.method).1
  have hD := va_D1 (a := h0) (e := .inr (4, [.null, .null])) (sz := s.heap.size)
  generalize hAe : (va_A [(h0, .inr (4, [.null, .null]))] s.heap.size) = A at hD hT ⊢
  have hA : ∀ q : Nat, s.heap.size ≤ q → A q := fun q h => by rw [← hAe]; exact Or.inr h
  have hS : va_S A s.heap s.heap [] := va_S.rf
  have iX2 : ∀ w ∈ wsX20, w ∈ wsX4_init := by decide +kernel
  have iX4 : ∀ w ∈ wsX40, w ∈ wsX4_init := by decide +kernel
  have hl := lv_entry ([.ref h0]) (n := 1) (Nat.le_of_ble_eq_true rfl)
  rw [lg_entry_eq]
  generalize (lg_sl ([.ref h0]) ++ List.replicate (1 - (lg_sl ([.ref h0])).length) Slot.unset).toArray = ls at hl ⊢
  have hl : lv_has ls 1 [(0, .ref h0)] := hl
  refine lv_aload_n hx hb dX4_init_0 rfl (lv_at hl 0 rfl) ?_
  refine W.objInit hx hb hown (hts (.methodLink RX4 3 objectInit) (List.mem_of_getElem? (i := 1) rfl)) (hts (.instanceMethod objectInit) (List.mem_of_getElem? (i := 2) rfl)) (hts _ (List.mem_of_getElem? (i := 3) rfl)) rfl (by rw [hml]; exact hl.1) rfl dX4_init_1 (Nat.le_of_ble_eq_true rfl) (Nat.le_of_ble_eq_true rfl) ?_
  refine W.eq (g2 := F0 m 4 ls []) rfl ?_
  refine lv_aload_n hx hb dX4_init_4 rfl (lv_at hl 0 rfl) ?_
  refine va_new (D := D) (ci := 2) (fs := [.null]) (C := RX2) (T := TX2) (N := 1) hx hb hts iX2 tyX2 tyX2_ok hown (hts (.classLink RX4 9 RX2) (List.mem_of_getElem? (i := 4) rfl)) (hts (.instantiable RX2 1) (List.mem_of_getElem? (i := 5) rfl)) (hts (.initialized RX2) (List.mem_of_getElem? (i := 6) rfl)) hk.1 hP hD hS hA rfl (fun j hj => by rcases (show j = 0 by omega) with rfl <;> rfl) (Nat.le_of_ble_eq_true rfl) (Nat.le_of_ble_eq_true rfl) dX4_init_5 (fun n1_5 H hP hD hS => ?_)
  have hP : va_P D vwCl [(h0, .inr (4, [.null, .null])), (n1_5, .inr (2, [.null]))] H := hP
  have hD : va_D A [(h0, .inr (4, [.null, .null])), (n1_5, .inr (2, [.null]))] := hD
  refine W.widen (k := 1) (n := 1) (by omega) (by omega) ?_
  refine lv_dup hx hb dX4_init_8 rfl ?_
  have hPc := hP.sub (ws' := [(n1_5, .inr (2, [.null]))]) [1] rfl
  have hFc := va_free (wc := [(n1_5, .inr (2, [.null]))]) hD hS hA [1] rfl
  refine va_callv (va_runIN (As := []) (rest := [.ref n1_5, .ref h0]) ⟨hx, hb, hml, hown, hts⟩ (C2_init l D cI cO n1_5 H hPc) ⟨va_cnB 0 hts gX4_init_X2_init_n11 rfl rfl rfl (hk.2 (.methodLinkNest RX4 11 yX2_init RX5) (List.mem_of_getElem? (i := 1) rfl)) (hts (.initialized RX2) (List.mem_of_getElem? (i := 6) rfl)) bd_X2init ⟨Nat.le_of_ble_eq_true rfl, Nat.le_of_ble_eq_true rfl⟩, rfl, (hts (.instanceMethod yX2_init) (List.mem_of_getElem? (i := 10) rfl))⟩ (bPSF hk hT hO hS hFc) rfl rfl hl.1 rfl (lv_room (Nat.le_of_ble_eq_true rfl)) dX4_init_9 ⟨Nat.le_of_ble_eq_true rfl, Nat.le_of_ble_eq_true rfl⟩) hS (fun q _ h => hFc q h) hFc (fun u9 t H1 locs ht _ _ hB _ hk1 hS => ?_)
  obtain ⟨r_n1_5, hP1, hD1⟩ := hB
  rw [ht] at hP1
  obtain ⟨hP, hD⟩ := va_join (wr := [(h0, .inr (4, [.null, .null]))]) (w1 := [(n1_5, .inr (2, [.ref r_n1_5])), (r_n1_5, .inl (cI, 345, .inl (sF 6)))]) hP hD [1] [0] rfl rfl (by decide) (by decide) hk1 hFc hP1 hD1
  clear hk1 hFc hP1 hD1 hPc
  subst ht
  generalize t.heap = H at hP hS ⊢
  have hP : va_P D vwCl [(h0, .inr (4, [.null, .null])), (n1_5, .inr (2, [.ref r_n1_5])), (r_n1_5, .inl (cI, 345, .inl (sF 6)))] H := hP
  have hD : va_D A [(h0, .inr (4, [.null, .null])), (n1_5, .inr (2, [.ref r_n1_5])), (r_n1_5, .inl (cI, 345, .inl (sF 6)))] := hD
  refine W.widen (k := 2) (n := 346) (by omega) (by omega) ?_
  refine va_putF (D := D) (ci := 4) (v := .ref n1_5) (ty := .object "BottleLoop$State") (C := RX4) (T := TX4) (N := 2) hx hb hts iX4 tyX4 tyX4_ok nmX4 hown hk.1 hP hD hS 0 rfl rfl 0 (by decide) (hts (.fieldLink RX4 12 "BottleLoop$Trade" "state" "LBottleLoop$State;") (List.mem_of_getElem? (i := 7) rfl)) (fun _ h9 => h9) rfl hin rfl (by decide +kernel) rfl rfl (Nat.le_of_ble_eq_true rfl) dX4_init_12 (fun H locs hP hD hS => ?_)
  have hP : va_P D vwCl [(h0, .inr (4, [.ref n1_5, .null])), (n1_5, .inr (2, [.ref r_n1_5])), (r_n1_5, .inl (cI, 345, .inl (sF 6)))] H := hP
  have hD : va_D A [(h0, .inr (4, [.ref n1_5, .null])), (n1_5, .inr (2, [.ref r_n1_5])), (r_n1_5, .inl (cI, 345, .inl (sF 6)))] := hD
  refine lv_aload_n hx hb dX4_init_15 rfl (lv_at hl 0 rfl) ?_
  refine lv_bipush (v := 8) hx hb dX4_init_16 (by decide) ?_
  refine va_newa (atype := .int) (ty := .int) (N' := 8) (a0 := (8, .inl (fun _ => 0))) hx hb (hts (.arrayClass .int) (List.mem_of_getElem? (i := 8) rfl)) rfl hk.1 hP hD hS hA (fun _ => rfl) (by decide) (by decide) (by decide) (Nat.le_of_ble_eq_true rfl) (Nat.le_of_ble_eq_true rfl) dX4_init_18 (fun q18 cA H hK2 hP hD hS => ?_)
  have e9 := ty_I (k := 0) hk.1 hK2 rfl
  rw [e9] at hP hD
  clear hK2 e9
  have hP : va_P D vwCl [(h0, .inr (4, [.ref n1_5, .null])), (n1_5, .inr (2, [.ref r_n1_5])), (r_n1_5, .inl (cI, 345, .inl (sF 6))), (q18, .inl (cI, 8, .inl (fun _ => 0)))] H := hP
  have hD : va_D A [(h0, .inr (4, [.ref n1_5, .null])), (n1_5, .inr (2, [.ref r_n1_5])), (r_n1_5, .inl (cI, 345, .inl (sF 6))), (q18, .inl (cI, 8, .inl (fun _ => 0)))] := hD
  refine W.widen (k := 3) (n := 354) (by omega) (by omega) ?_
  refine va_putF (D := D) (ci := 4) (v := .ref q18) (ty := .array .int) (C := RX4) (T := TX4) (N := 2) hx hb hts iX4 tyX4 tyX4_ok nmX4 hown hk.1 hP hD hS 0 rfl rfl 1 (by decide) (hts (.fieldLink RX4 18 "BottleLoop$Trade" "left" "[I") (List.mem_of_getElem? (i := 9) rfl)) (fun _ h9 => h9) rfl hin rfl (by decide +kernel) rfl rfl (Nat.le_of_ble_eq_true rfl) dX4_init_20 (fun H locs hP hD hS => ?_)
  have hP : va_P D vwCl [(h0, .inr (4, [.ref n1_5, .ref q18])), (n1_5, .inr (2, [.ref r_n1_5])), (r_n1_5, .inl (cI, 345, .inl (sF 6))), (q18, .inl (cI, 8, .inl (fun _ => 0)))] H := hP
  have hD : va_D A [(h0, .inr (4, [.ref n1_5, .ref q18])), (n1_5, .inr (2, [.ref r_n1_5])), (r_n1_5, .inl (cI, 345, .inl (sF 6))), (q18, .inl (cI, 8, .inl (fun _ => 0)))] := hD
  refine W.widen (k := 3) (n := 354) (by omega) (by omega) ?_
  exact W.vret hx hb hr (fun t ht hW => ⟨⟨(), rfl, trivial, n1_5, r_n1_5, q18, by rw [ht]; exact hP, hD⟩, hS.F ht⟩) hS.2.2 dX4_init_23
set_option maxHeartbeats 4000000 in
set_option maxRecDepth 100000 in
theorem C1_init (l : Launch) (D : va_G) (cI cO : ClassId) (h0 : Nat) (H0 : Heap) (hP : va_P D vwCl [(h0, .inr (1, [.null, .int 0, .int 0]))] H0) : Met l yX1_init wsX1_init ({ frames := 3, cells := 13, slots := 2082, locals := 65 }) (bPF D cI cO (va_A [(h0, .inr (1, [.null, .int 0, .int 0]))] H0.size) H0 [.ref h0]) (va_Qv (fun _ : Unit => True) (fun _ t => ∃ q7 n1_29 r_n1_29 n2_29 r_n2_29 n3_29 r_n3_29 n4_29 r_n4_29 n5_29 r_n5_29 n6_29 r_n6_29 : Nat, va_P D vwCl [(h0, .inr (1, [.ref q7, .int 0, .int 0])), (q7, .inl (cO, 6, .inr (.inr (.inr (.inr (fun i => some (qL [n1_29, n2_29, n3_29, n4_29, n5_29, n6_29] i))))))), (n1_29, .inr (2, [.ref r_n1_29])), (r_n1_29, .inl (cI, 345, .inl (sF 6))), (n2_29, .inr (2, [.ref r_n2_29])), (r_n2_29, .inl (cI, 345, .inl (sF 6))), (n3_29, .inr (2, [.ref r_n3_29])), (r_n3_29, .inl (cI, 345, .inl (sF 6))), (n4_29, .inr (2, [.ref r_n4_29])), (r_n4_29, .inl (cI, 345, .inl (sF 6))), (n5_29, .inr (2, [.ref r_n5_29])), (r_n5_29, .inl (cI, 345, .inl (sF 6))), (n6_29, .inr (2, [.ref r_n6_29])), (r_n6_29, .inl (cI, 345, .inl (sF 6)))] t.heap ∧ va_D (va_A [(h0, .inr (1, [.null, .int 0, .int 0]))] H0.size) [(h0, .inr (1, [.ref q7, .int 0, .int 0])), (q7, .inl (cO, 6, .inr (.inr (.inr (.inr (fun i => some (qL [n1_29, n2_29, n3_29, n4_29, n5_29, n6_29] i))))))), (n1_29, .inr (2, [.ref r_n1_29])), (r_n1_29, .inl (cI, 345, .inl (sF 6))), (n2_29, .inr (2, [.ref r_n2_29])), (r_n2_29, .inl (cI, 345, .inl (sF 6))), (n3_29, .inr (2, [.ref r_n3_29])), (r_n3_29, .inl (cI, 345, .inl (sF 6))), (n4_29, .inr (2, [.ref r_n4_29])), (r_n4_29, .inl (cI, 345, .inl (sF 6))), (n5_29, .inr (2, [.ref r_n5_29])), (r_n5_29, .inl (cI, 345, .inl (sF 6))), (n6_29, .inr (2, [.ref r_n6_29])), (r_n6_29, .inl (cI, 345, .inl (sF 6)))]) (va_A [(h0, .inr (1, [.null, .int 0, .int 0]))] H0.size)) 13 2082 (va_A [(h0, .inr (1, [.null, .int 0, .int 0]))] H0.size) := by
  refine Met.ofW (cc := cX1_init) (maxL := 2) (ret := none) (by decide) rfl ?_
  intro p e s m args below meth c s₁ B hml hv
  obtain ⟨rfl, hH, hk, hT, hO⟩ := hv
  subst hH
  have hx := B.exec
  have hb := B.bytes
  have hr := B.returns
  have hts := atoms_spec (ws := wsX1_init) B.pre
  have hown : s.vm.findClass RX1 = some m.cls := findClass_of_methodNamed B.named
  have hlocks := B.notSynchronized
  have hin : meth.name = "<init>" := (name_of_methodNamed B.named B.method).1
  have hD := va_D1 (a := h0) (e := .inr (1, [.null, .int 0, .int 0])) (sz := s.heap.size)
  generalize hAe : (va_A [(h0, .inr (1, [.null, .int 0, .int 0]))] s.heap.size) = A at hD hT ⊢
  have hA : ∀ q : Nat, s.heap.size ≤ q → A q := fun q h => by rw [← hAe]; exact Or.inr h
  have hS : va_S A s.heap s.heap [] := va_S.rf
  have iX1 : ∀ w ∈ wsX10, w ∈ wsX1_init := by decide +kernel
  have iX2 : ∀ w ∈ wsX20, w ∈ wsX1_init := by decide +kernel
  have hl := lv_entry ([.ref h0]) (n := 2) (Nat.le_of_ble_eq_true rfl)
  rw [lg_entry_eq]
  generalize (lg_sl ([.ref h0]) ++ List.replicate (2 - (lg_sl ([.ref h0])).length) Slot.unset).toArray = ls at hl ⊢
  have hl : lv_has ls 2 [(0, .ref h0)] := hl
  refine lv_aload_n hx hb dX1_init_0 rfl (lv_at hl 0 rfl) ?_
  refine W.objInit hx hb hown (hts (.methodLink RX1 1 objectInit) (List.mem_of_getElem? (i := 1) rfl)) (hts (.instanceMethod objectInit) (List.mem_of_getElem? (i := 2) rfl)) (hts _ (List.mem_of_getElem? (i := 3) rfl)) rfl (by rw [hml]; exact hl.1) rfl dX1_init_1 (Nat.le_of_ble_eq_true rfl) (Nat.le_of_ble_eq_true rfl) ?_
  refine W.eq (g2 := F0 m 4 ls []) rfl ?_
  refine lv_aload_n hx hb dX1_init_4 rfl (lv_at hl 0 rfl) ?_
  refine lv_bipush (v := 6) hx hb dX1_init_5 (by decide) ?_
  refine va_newq (C := RX2) (N' := 6) hx hb hown (hts (.classLink RX1 9 RX2) (List.mem_of_getElem? (i := 4) rfl)) hO hk.1 hP hD hS hA (by decide) (by decide) (by decide) (Nat.le_of_ble_eq_true rfl) (Nat.le_of_ble_eq_true rfl) dX1_init_7 (fun q7 cA H hK2 hP hD hS => ?_)
  have e9 := ty_O (k := 1) hk.1 hK2 rfl
  rw [e9] at hP hD
  clear hK2 e9
  have hP : va_P D vwCl [(h0, .inr (1, [.null, .int 0, .int 0])), (q7, .inl (cO, 6, .inr (.inr (.inr (.inr (fun _ => none))))))] H := hP
  have hD : va_D A [(h0, .inr (1, [.null, .int 0, .int 0])), (q7, .inl (cO, 6, .inr (.inr (.inr (.inr (fun _ => none))))))] := hD
  refine W.widen (k := 1) (n := 6) (by omega) (by omega) ?_
  refine va_putF (D := D) (ci := 1) (v := .ref q7) (ty := .array (.object "BottleLoop$State")) (C := RX1) (T := TX1) (N := 3) hx hb hts iX1 tyX1 tyX1_ok nmX1 hown hk.1 hP hD hS 0 rfl rfl 0 (by decide) (hts (.fieldLink RX1 11 "BottleLoop$Past" "states" "[LBottleLoop$State;") (List.mem_of_getElem? (i := 5) rfl)) (fun _ h9 => h9) rfl hin rfl (by decide +kernel) rfl rfl (Nat.le_of_ble_eq_true rfl) dX1_init_10 (fun H locs hP hD hS => ?_)
  have hP : va_P D vwCl [(h0, .inr (1, [.ref q7, .int 0, .int 0])), (q7, .inl (cO, 6, .inr (.inr (.inr (.inr (fun _ => none))))))] H := hP
  have hD : va_D A [(h0, .inr (1, [.ref q7, .int 0, .int 0])), (q7, .inl (cO, 6, .inr (.inr (.inr (.inr (fun _ => none))))))] := hD
  refine lv_iconst (v := 0) hx hb dX1_init_13 (by decide) ?_
  refine lv_istore_n (lv' := [(1, .int 0), (0, .ref h0)]) hx hb dX1_init_14 rfl hl (by decide) rfl (fun ls hl => ?_)
  refine lv_iload_n hx hb dX1_init_15 rfl (lv_at hl 0 rfl) ?_
  refine lv_aload_n hx hb dX1_init_16 rfl (lv_at hl 1 rfl) ?_
  refine va_get (D := D) (ci := 1) (C := RX1) (T := TX1) (N := 3) hx hb hts iX1 hown hk.1 hP 0 rfl rfl 0 (by decide) (hts (.fieldLink RX1 11 "BottleLoop$Past" "states" "[LBottleLoop$State;") (List.mem_of_getElem? (i := 5) rfl)) (fun _ h9 => h9) rfl dX1_init_17 ?_
  refine va_alen (v := 6) hx hb hk.1 hP 1 1 rfl rfl rfl dX1_init_20 ?_
  refine lv_icmp_ge (tgt := 43) hx hb dX1_init_21 (by decide) (fun h9 => absurd h9 (by decide)) (fun _ => ?_)
  refine lv_aload_n hx hb dX1_init_24 rfl (lv_at hl 1 rfl) ?_
  refine va_get (D := D) (ci := 1) (C := RX1) (T := TX1) (N := 3) hx hb hts iX1 hown hk.1 hP 0 rfl rfl 0 (by decide) (hts (.fieldLink RX1 11 "BottleLoop$Past" "states" "[LBottleLoop$State;") (List.mem_of_getElem? (i := 5) rfl)) (fun _ h9 => h9) rfl dX1_init_25 ?_
  refine lv_iload_n hx hb dX1_init_28 rfl (lv_at hl 0 rfl) ?_
  refine va_new (D := D) (ci := 2) (fs := [.null]) (C := RX2) (T := TX2) (N := 1) hx hb hts iX2 tyX2 tyX2_ok hown (hts (.classLink RX1 9 RX2) (List.mem_of_getElem? (i := 4) rfl)) (hts (.instantiable RX2 1) (List.mem_of_getElem? (i := 6) rfl)) (hts (.initialized RX2) (List.mem_of_getElem? (i := 7) rfl)) hk.1 hP hD hS hA rfl (fun j hj => by rcases (show j = 0 by omega) with rfl <;> rfl) (Nat.le_of_ble_eq_true rfl) (Nat.le_of_ble_eq_true rfl) dX1_init_29 (fun n1_29 H hP hD hS => ?_)
  have hP : va_P D vwCl [(h0, .inr (1, [.ref q7, .int 0, .int 0])), (q7, .inl (cO, 6, .inr (.inr (.inr (.inr (fun _ => none)))))), (n1_29, .inr (2, [.null]))] H := hP
  have hD : va_D A [(h0, .inr (1, [.ref q7, .int 0, .int 0])), (q7, .inl (cO, 6, .inr (.inr (.inr (.inr (fun _ => none)))))), (n1_29, .inr (2, [.null]))] := hD
  refine W.widen (k := 2) (n := 7) (by omega) (by omega) ?_
  refine lv_dup hx hb dX1_init_32 rfl ?_
  have hPc := hP.sub (ws' := [(n1_29, .inr (2, [.null]))]) [2] rfl
  have hFc := va_free (wc := [(n1_29, .inr (2, [.null]))]) hD hS hA [2] rfl
  refine va_callv (va_runIN (As := []) (rest := [.ref n1_29, .int 0, .ref q7]) ⟨hx, hb, hml, hown, hts⟩ (C2_init l D cI cO n1_29 H hPc) ⟨va_cnB 0 hts gX1_init_X2_init_n15 rfl rfl rfl (hk.2 (.methodLinkNest RX1 15 yX2_init RX5) (List.mem_of_getElem? (i := 4) rfl)) (hts (.initialized RX2) (List.mem_of_getElem? (i := 7) rfl)) bd_X2init ⟨Nat.le_of_ble_eq_true rfl, Nat.le_of_ble_eq_true rfl⟩, rfl, (hts (.instanceMethod yX2_init) (List.mem_of_getElem? (i := 8) rfl))⟩ (bPSF hk hT hO hS hFc) rfl rfl hl.1 rfl (lv_room (Nat.le_of_ble_eq_true rfl)) dX1_init_33 ⟨Nat.le_of_ble_eq_true rfl, Nat.le_of_ble_eq_true rfl⟩) hS (fun q _ h => hFc q h) hFc (fun u9 t H1 locs ht _ _ hB _ hk1 hS => ?_)
  obtain ⟨r_n1_29, hP1, hD1⟩ := hB
  rw [ht] at hP1
  obtain ⟨hP, hD⟩ := va_join (wr := [(h0, .inr (1, [.ref q7, .int 0, .int 0])), (q7, .inl (cO, 6, .inr (.inr (.inr (.inr (fun _ => none))))))]) (w1 := [(n1_29, .inr (2, [.ref r_n1_29])), (r_n1_29, .inl (cI, 345, .inl (sF 6)))]) hP hD [2] [0, 1] rfl rfl (by decide) (by decide) hk1 hFc hP1 hD1
  clear hk1 hFc hP1 hD1 hPc
  subst ht
  generalize t.heap = H at hP hS ⊢
  have hP : va_P D vwCl [(h0, .inr (1, [.ref q7, .int 0, .int 0])), (q7, .inl (cO, 6, .inr (.inr (.inr (.inr (fun _ => none)))))), (n1_29, .inr (2, [.ref r_n1_29])), (r_n1_29, .inl (cI, 345, .inl (sF 6)))] H := hP
  have hD : va_D A [(h0, .inr (1, [.ref q7, .int 0, .int 0])), (q7, .inl (cO, 6, .inr (.inr (.inr (.inr (fun _ => none)))))), (n1_29, .inr (2, [.ref r_n1_29])), (r_n1_29, .inl (cI, 345, .inl (sF 6)))] := hD
  refine W.widen (k := 3) (n := 352) (by omega) (by omega) ?_
  refine va_astq (r := (RX2, TX2, 1)) hx hb hk.1 hP hD hS 1 1 2 2 rfl rfl rfl rfl (vp_in_nI (n := 0) (by decide) (by decide)) dX1_init_36 (fun H locs hP hD hS => ?_)
  have hP : va_P D vwCl [(h0, .inr (1, [.ref q7, .int 0, .int 0])), (q7, .inl (cO, 6, .inr (.inr (.inr (.inr (va_up (fun _ => none) 0 (some n1_29))))))), (n1_29, .inr (2, [.ref r_n1_29])), (r_n1_29, .inl (cI, 345, .inl (sF 6)))] H := hP
  have hD : va_D A [(h0, .inr (1, [.ref q7, .int 0, .int 0])), (q7, .inl (cO, 6, .inr (.inr (.inr (.inr (va_up (fun _ => none) 0 (some n1_29))))))), (n1_29, .inr (2, [.ref r_n1_29])), (r_n1_29, .inl (cI, 345, .inl (sF 6)))] := hD
  refine lv_iinc (v := 1) (lv' := [(1, .int 1), (0, .ref h0)]) hx hb dX1_init_37 hl (k := 0) rfl (by decide) (by decide) rfl (fun ls hl => ?_)
  refine lv_goto (tgt := 15) hx hb dX1_init_40 (by decide) ?_
  refine lv_iload_n hx hb dX1_init_15 rfl (lv_at hl 0 rfl) ?_
  refine lv_aload_n hx hb dX1_init_16 rfl (lv_at hl 1 rfl) ?_
  refine va_get (D := D) (ci := 1) (C := RX1) (T := TX1) (N := 3) hx hb hts iX1 hown hk.1 hP 0 rfl rfl 0 (by decide) (hts (.fieldLink RX1 11 "BottleLoop$Past" "states" "[LBottleLoop$State;") (List.mem_of_getElem? (i := 5) rfl)) (fun _ h9 => h9) rfl dX1_init_17 ?_
  refine va_alen (v := 6) hx hb hk.1 hP 1 1 rfl rfl rfl dX1_init_20 ?_
  refine lv_icmp_ge (tgt := 43) hx hb dX1_init_21 (by decide) (fun h9 => absurd h9 (by decide)) (fun _ => ?_)
  refine lv_aload_n hx hb dX1_init_24 rfl (lv_at hl 1 rfl) ?_
  refine va_get (D := D) (ci := 1) (C := RX1) (T := TX1) (N := 3) hx hb hts iX1 hown hk.1 hP 0 rfl rfl 0 (by decide) (hts (.fieldLink RX1 11 "BottleLoop$Past" "states" "[LBottleLoop$State;") (List.mem_of_getElem? (i := 5) rfl)) (fun _ h9 => h9) rfl dX1_init_25 ?_
  refine lv_iload_n hx hb dX1_init_28 rfl (lv_at hl 0 rfl) ?_
  refine va_new (D := D) (ci := 2) (fs := [.null]) (C := RX2) (T := TX2) (N := 1) hx hb hts iX2 tyX2 tyX2_ok hown (hts (.classLink RX1 9 RX2) (List.mem_of_getElem? (i := 4) rfl)) (hts (.instantiable RX2 1) (List.mem_of_getElem? (i := 6) rfl)) (hts (.initialized RX2) (List.mem_of_getElem? (i := 7) rfl)) hk.1 hP hD hS hA rfl (fun j hj => by rcases (show j = 0 by omega) with rfl <;> rfl) (Nat.le_of_ble_eq_true rfl) (Nat.le_of_ble_eq_true rfl) dX1_init_29 (fun n2_29 H hP hD hS => ?_)
  have hP : va_P D vwCl [(h0, .inr (1, [.ref q7, .int 0, .int 0])), (q7, .inl (cO, 6, .inr (.inr (.inr (.inr (va_up (fun _ => none) 0 (some n1_29))))))), (n1_29, .inr (2, [.ref r_n1_29])), (r_n1_29, .inl (cI, 345, .inl (sF 6))), (n2_29, .inr (2, [.null]))] H := hP
  have hD : va_D A [(h0, .inr (1, [.ref q7, .int 0, .int 0])), (q7, .inl (cO, 6, .inr (.inr (.inr (.inr (va_up (fun _ => none) 0 (some n1_29))))))), (n1_29, .inr (2, [.ref r_n1_29])), (r_n1_29, .inl (cI, 345, .inl (sF 6))), (n2_29, .inr (2, [.null]))] := hD
  refine W.widen (k := 4) (n := 353) (by omega) (by omega) ?_
  refine lv_dup hx hb dX1_init_32 rfl ?_
  have hPc := hP.sub (ws' := [(n2_29, .inr (2, [.null]))]) [4] rfl
  have hFc := va_free (wc := [(n2_29, .inr (2, [.null]))]) hD hS hA [4] rfl
  refine va_callv (va_runIN (As := []) (rest := [.ref n2_29, .int 1, .ref q7]) ⟨hx, hb, hml, hown, hts⟩ (C2_init l D cI cO n2_29 H hPc) ⟨va_cnB 0 hts gX1_init_X2_init_n15 rfl rfl rfl (hk.2 (.methodLinkNest RX1 15 yX2_init RX5) (List.mem_of_getElem? (i := 4) rfl)) (hts (.initialized RX2) (List.mem_of_getElem? (i := 7) rfl)) bd_X2init ⟨Nat.le_of_ble_eq_true rfl, Nat.le_of_ble_eq_true rfl⟩, rfl, (hts (.instanceMethod yX2_init) (List.mem_of_getElem? (i := 8) rfl))⟩ (bPSF hk hT hO hS hFc) rfl rfl hl.1 rfl (lv_room (Nat.le_of_ble_eq_true rfl)) dX1_init_33 ⟨Nat.le_of_ble_eq_true rfl, Nat.le_of_ble_eq_true rfl⟩) hS (fun q _ h => hFc q h) hFc (fun u9 t H1 locs ht _ _ hB _ hk1 hS => ?_)
  obtain ⟨r_n2_29, hP1, hD1⟩ := hB
  rw [ht] at hP1
  obtain ⟨hP, hD⟩ := va_join (wr := [(h0, .inr (1, [.ref q7, .int 0, .int 0])), (q7, .inl (cO, 6, .inr (.inr (.inr (.inr (va_up (fun _ => none) 0 (some n1_29))))))), (n1_29, .inr (2, [.ref r_n1_29])), (r_n1_29, .inl (cI, 345, .inl (sF 6)))]) (w1 := [(n2_29, .inr (2, [.ref r_n2_29])), (r_n2_29, .inl (cI, 345, .inl (sF 6)))]) hP hD [4] [0, 1, 2, 3] rfl rfl (by decide) (by decide) hk1 hFc hP1 hD1
  clear hk1 hFc hP1 hD1 hPc
  subst ht
  generalize t.heap = H at hP hS ⊢
  have hP : va_P D vwCl [(h0, .inr (1, [.ref q7, .int 0, .int 0])), (q7, .inl (cO, 6, .inr (.inr (.inr (.inr (va_up (fun _ => none) 0 (some n1_29))))))), (n1_29, .inr (2, [.ref r_n1_29])), (r_n1_29, .inl (cI, 345, .inl (sF 6))), (n2_29, .inr (2, [.ref r_n2_29])), (r_n2_29, .inl (cI, 345, .inl (sF 6)))] H := hP
  have hD : va_D A [(h0, .inr (1, [.ref q7, .int 0, .int 0])), (q7, .inl (cO, 6, .inr (.inr (.inr (.inr (va_up (fun _ => none) 0 (some n1_29))))))), (n1_29, .inr (2, [.ref r_n1_29])), (r_n1_29, .inl (cI, 345, .inl (sF 6))), (n2_29, .inr (2, [.ref r_n2_29])), (r_n2_29, .inl (cI, 345, .inl (sF 6)))] := hD
  refine W.widen (k := 5) (n := 698) (by omega) (by omega) ?_
  refine va_astq (r := (RX2, TX2, 1)) hx hb hk.1 hP hD hS 1 1 4 2 rfl rfl rfl rfl (vp_in_nI (n := 1) (by decide) (by decide)) dX1_init_36 (fun H locs hP hD hS => ?_)
  have hP : va_P D vwCl [(h0, .inr (1, [.ref q7, .int 0, .int 0])), (q7, .inl (cO, 6, .inr (.inr (.inr (.inr (va_up (va_up (fun _ => none) 0 (some n1_29)) 1 (some n2_29))))))), (n1_29, .inr (2, [.ref r_n1_29])), (r_n1_29, .inl (cI, 345, .inl (sF 6))), (n2_29, .inr (2, [.ref r_n2_29])), (r_n2_29, .inl (cI, 345, .inl (sF 6)))] H := hP
  have hD : va_D A [(h0, .inr (1, [.ref q7, .int 0, .int 0])), (q7, .inl (cO, 6, .inr (.inr (.inr (.inr (va_up (va_up (fun _ => none) 0 (some n1_29)) 1 (some n2_29))))))), (n1_29, .inr (2, [.ref r_n1_29])), (r_n1_29, .inl (cI, 345, .inl (sF 6))), (n2_29, .inr (2, [.ref r_n2_29])), (r_n2_29, .inl (cI, 345, .inl (sF 6)))] := hD
  refine lv_iinc (v := 2) (lv' := [(1, .int 2), (0, .ref h0)]) hx hb dX1_init_37 hl (k := 0) rfl (by decide) (by decide) rfl (fun ls hl => ?_)
  refine lv_goto (tgt := 15) hx hb dX1_init_40 (by decide) ?_
  refine lv_iload_n hx hb dX1_init_15 rfl (lv_at hl 0 rfl) ?_
  refine lv_aload_n hx hb dX1_init_16 rfl (lv_at hl 1 rfl) ?_
  refine va_get (D := D) (ci := 1) (C := RX1) (T := TX1) (N := 3) hx hb hts iX1 hown hk.1 hP 0 rfl rfl 0 (by decide) (hts (.fieldLink RX1 11 "BottleLoop$Past" "states" "[LBottleLoop$State;") (List.mem_of_getElem? (i := 5) rfl)) (fun _ h9 => h9) rfl dX1_init_17 ?_
  refine va_alen (v := 6) hx hb hk.1 hP 1 1 rfl rfl rfl dX1_init_20 ?_
  refine lv_icmp_ge (tgt := 43) hx hb dX1_init_21 (by decide) (fun h9 => absurd h9 (by decide)) (fun _ => ?_)
  refine lv_aload_n hx hb dX1_init_24 rfl (lv_at hl 1 rfl) ?_
  refine va_get (D := D) (ci := 1) (C := RX1) (T := TX1) (N := 3) hx hb hts iX1 hown hk.1 hP 0 rfl rfl 0 (by decide) (hts (.fieldLink RX1 11 "BottleLoop$Past" "states" "[LBottleLoop$State;") (List.mem_of_getElem? (i := 5) rfl)) (fun _ h9 => h9) rfl dX1_init_25 ?_
  refine lv_iload_n hx hb dX1_init_28 rfl (lv_at hl 0 rfl) ?_
  refine va_new (D := D) (ci := 2) (fs := [.null]) (C := RX2) (T := TX2) (N := 1) hx hb hts iX2 tyX2 tyX2_ok hown (hts (.classLink RX1 9 RX2) (List.mem_of_getElem? (i := 4) rfl)) (hts (.instantiable RX2 1) (List.mem_of_getElem? (i := 6) rfl)) (hts (.initialized RX2) (List.mem_of_getElem? (i := 7) rfl)) hk.1 hP hD hS hA rfl (fun j hj => by rcases (show j = 0 by omega) with rfl <;> rfl) (Nat.le_of_ble_eq_true rfl) (Nat.le_of_ble_eq_true rfl) dX1_init_29 (fun n3_29 H hP hD hS => ?_)
  have hP : va_P D vwCl [(h0, .inr (1, [.ref q7, .int 0, .int 0])), (q7, .inl (cO, 6, .inr (.inr (.inr (.inr (va_up (va_up (fun _ => none) 0 (some n1_29)) 1 (some n2_29))))))), (n1_29, .inr (2, [.ref r_n1_29])), (r_n1_29, .inl (cI, 345, .inl (sF 6))), (n2_29, .inr (2, [.ref r_n2_29])), (r_n2_29, .inl (cI, 345, .inl (sF 6))), (n3_29, .inr (2, [.null]))] H := hP
  have hD : va_D A [(h0, .inr (1, [.ref q7, .int 0, .int 0])), (q7, .inl (cO, 6, .inr (.inr (.inr (.inr (va_up (va_up (fun _ => none) 0 (some n1_29)) 1 (some n2_29))))))), (n1_29, .inr (2, [.ref r_n1_29])), (r_n1_29, .inl (cI, 345, .inl (sF 6))), (n2_29, .inr (2, [.ref r_n2_29])), (r_n2_29, .inl (cI, 345, .inl (sF 6))), (n3_29, .inr (2, [.null]))] := hD
  refine W.widen (k := 6) (n := 699) (by omega) (by omega) ?_
  refine lv_dup hx hb dX1_init_32 rfl ?_
  have hPc := hP.sub (ws' := [(n3_29, .inr (2, [.null]))]) [6] rfl
  have hFc := va_free (wc := [(n3_29, .inr (2, [.null]))]) hD hS hA [6] rfl
  refine va_callv (va_runIN (As := []) (rest := [.ref n3_29, .int 2, .ref q7]) ⟨hx, hb, hml, hown, hts⟩ (C2_init l D cI cO n3_29 H hPc) ⟨va_cnB 0 hts gX1_init_X2_init_n15 rfl rfl rfl (hk.2 (.methodLinkNest RX1 15 yX2_init RX5) (List.mem_of_getElem? (i := 4) rfl)) (hts (.initialized RX2) (List.mem_of_getElem? (i := 7) rfl)) bd_X2init ⟨Nat.le_of_ble_eq_true rfl, Nat.le_of_ble_eq_true rfl⟩, rfl, (hts (.instanceMethod yX2_init) (List.mem_of_getElem? (i := 8) rfl))⟩ (bPSF hk hT hO hS hFc) rfl rfl hl.1 rfl (lv_room (Nat.le_of_ble_eq_true rfl)) dX1_init_33 ⟨Nat.le_of_ble_eq_true rfl, Nat.le_of_ble_eq_true rfl⟩) hS (fun q _ h => hFc q h) hFc (fun u9 t H1 locs ht _ _ hB _ hk1 hS => ?_)
  obtain ⟨r_n3_29, hP1, hD1⟩ := hB
  rw [ht] at hP1
  obtain ⟨hP, hD⟩ := va_join (wr := [(h0, .inr (1, [.ref q7, .int 0, .int 0])), (q7, .inl (cO, 6, .inr (.inr (.inr (.inr (va_up (va_up (fun _ => none) 0 (some n1_29)) 1 (some n2_29))))))), (n1_29, .inr (2, [.ref r_n1_29])), (r_n1_29, .inl (cI, 345, .inl (sF 6))), (n2_29, .inr (2, [.ref r_n2_29])), (r_n2_29, .inl (cI, 345, .inl (sF 6)))]) (w1 := [(n3_29, .inr (2, [.ref r_n3_29])), (r_n3_29, .inl (cI, 345, .inl (sF 6)))]) hP hD [6] [0, 1, 2, 3, 4, 5] rfl rfl (by decide) (by decide) hk1 hFc hP1 hD1
  clear hk1 hFc hP1 hD1 hPc
  subst ht
  generalize t.heap = H at hP hS ⊢
  have hP : va_P D vwCl [(h0, .inr (1, [.ref q7, .int 0, .int 0])), (q7, .inl (cO, 6, .inr (.inr (.inr (.inr (va_up (va_up (fun _ => none) 0 (some n1_29)) 1 (some n2_29))))))), (n1_29, .inr (2, [.ref r_n1_29])), (r_n1_29, .inl (cI, 345, .inl (sF 6))), (n2_29, .inr (2, [.ref r_n2_29])), (r_n2_29, .inl (cI, 345, .inl (sF 6))), (n3_29, .inr (2, [.ref r_n3_29])), (r_n3_29, .inl (cI, 345, .inl (sF 6)))] H := hP
  have hD : va_D A [(h0, .inr (1, [.ref q7, .int 0, .int 0])), (q7, .inl (cO, 6, .inr (.inr (.inr (.inr (va_up (va_up (fun _ => none) 0 (some n1_29)) 1 (some n2_29))))))), (n1_29, .inr (2, [.ref r_n1_29])), (r_n1_29, .inl (cI, 345, .inl (sF 6))), (n2_29, .inr (2, [.ref r_n2_29])), (r_n2_29, .inl (cI, 345, .inl (sF 6))), (n3_29, .inr (2, [.ref r_n3_29])), (r_n3_29, .inl (cI, 345, .inl (sF 6)))] := hD
  refine W.widen (k := 7) (n := 1044) (by omega) (by omega) ?_
  refine va_astq (r := (RX2, TX2, 1)) hx hb hk.1 hP hD hS 1 1 6 2 rfl rfl rfl rfl (vp_in_nI (n := 2) (by decide) (by decide)) dX1_init_36 (fun H locs hP hD hS => ?_)
  have hP : va_P D vwCl [(h0, .inr (1, [.ref q7, .int 0, .int 0])), (q7, .inl (cO, 6, .inr (.inr (.inr (.inr (va_up (va_up (va_up (fun _ => none) 0 (some n1_29)) 1 (some n2_29)) 2 (some n3_29))))))), (n1_29, .inr (2, [.ref r_n1_29])), (r_n1_29, .inl (cI, 345, .inl (sF 6))), (n2_29, .inr (2, [.ref r_n2_29])), (r_n2_29, .inl (cI, 345, .inl (sF 6))), (n3_29, .inr (2, [.ref r_n3_29])), (r_n3_29, .inl (cI, 345, .inl (sF 6)))] H := hP
  have hD : va_D A [(h0, .inr (1, [.ref q7, .int 0, .int 0])), (q7, .inl (cO, 6, .inr (.inr (.inr (.inr (va_up (va_up (va_up (fun _ => none) 0 (some n1_29)) 1 (some n2_29)) 2 (some n3_29))))))), (n1_29, .inr (2, [.ref r_n1_29])), (r_n1_29, .inl (cI, 345, .inl (sF 6))), (n2_29, .inr (2, [.ref r_n2_29])), (r_n2_29, .inl (cI, 345, .inl (sF 6))), (n3_29, .inr (2, [.ref r_n3_29])), (r_n3_29, .inl (cI, 345, .inl (sF 6)))] := hD
  refine lv_iinc (v := 3) (lv' := [(1, .int 3), (0, .ref h0)]) hx hb dX1_init_37 hl (k := 0) rfl (by decide) (by decide) rfl (fun ls hl => ?_)
  refine lv_goto (tgt := 15) hx hb dX1_init_40 (by decide) ?_
  refine lv_iload_n hx hb dX1_init_15 rfl (lv_at hl 0 rfl) ?_
  refine lv_aload_n hx hb dX1_init_16 rfl (lv_at hl 1 rfl) ?_
  refine va_get (D := D) (ci := 1) (C := RX1) (T := TX1) (N := 3) hx hb hts iX1 hown hk.1 hP 0 rfl rfl 0 (by decide) (hts (.fieldLink RX1 11 "BottleLoop$Past" "states" "[LBottleLoop$State;") (List.mem_of_getElem? (i := 5) rfl)) (fun _ h9 => h9) rfl dX1_init_17 ?_
  refine va_alen (v := 6) hx hb hk.1 hP 1 1 rfl rfl rfl dX1_init_20 ?_
  refine lv_icmp_ge (tgt := 43) hx hb dX1_init_21 (by decide) (fun h9 => absurd h9 (by decide)) (fun _ => ?_)
  refine lv_aload_n hx hb dX1_init_24 rfl (lv_at hl 1 rfl) ?_
  refine va_get (D := D) (ci := 1) (C := RX1) (T := TX1) (N := 3) hx hb hts iX1 hown hk.1 hP 0 rfl rfl 0 (by decide) (hts (.fieldLink RX1 11 "BottleLoop$Past" "states" "[LBottleLoop$State;") (List.mem_of_getElem? (i := 5) rfl)) (fun _ h9 => h9) rfl dX1_init_25 ?_
  refine lv_iload_n hx hb dX1_init_28 rfl (lv_at hl 0 rfl) ?_
  refine va_new (D := D) (ci := 2) (fs := [.null]) (C := RX2) (T := TX2) (N := 1) hx hb hts iX2 tyX2 tyX2_ok hown (hts (.classLink RX1 9 RX2) (List.mem_of_getElem? (i := 4) rfl)) (hts (.instantiable RX2 1) (List.mem_of_getElem? (i := 6) rfl)) (hts (.initialized RX2) (List.mem_of_getElem? (i := 7) rfl)) hk.1 hP hD hS hA rfl (fun j hj => by rcases (show j = 0 by omega) with rfl <;> rfl) (Nat.le_of_ble_eq_true rfl) (Nat.le_of_ble_eq_true rfl) dX1_init_29 (fun n4_29 H hP hD hS => ?_)
  have hP : va_P D vwCl [(h0, .inr (1, [.ref q7, .int 0, .int 0])), (q7, .inl (cO, 6, .inr (.inr (.inr (.inr (va_up (va_up (va_up (fun _ => none) 0 (some n1_29)) 1 (some n2_29)) 2 (some n3_29))))))), (n1_29, .inr (2, [.ref r_n1_29])), (r_n1_29, .inl (cI, 345, .inl (sF 6))), (n2_29, .inr (2, [.ref r_n2_29])), (r_n2_29, .inl (cI, 345, .inl (sF 6))), (n3_29, .inr (2, [.ref r_n3_29])), (r_n3_29, .inl (cI, 345, .inl (sF 6))), (n4_29, .inr (2, [.null]))] H := hP
  have hD : va_D A [(h0, .inr (1, [.ref q7, .int 0, .int 0])), (q7, .inl (cO, 6, .inr (.inr (.inr (.inr (va_up (va_up (va_up (fun _ => none) 0 (some n1_29)) 1 (some n2_29)) 2 (some n3_29))))))), (n1_29, .inr (2, [.ref r_n1_29])), (r_n1_29, .inl (cI, 345, .inl (sF 6))), (n2_29, .inr (2, [.ref r_n2_29])), (r_n2_29, .inl (cI, 345, .inl (sF 6))), (n3_29, .inr (2, [.ref r_n3_29])), (r_n3_29, .inl (cI, 345, .inl (sF 6))), (n4_29, .inr (2, [.null]))] := hD
  refine W.widen (k := 8) (n := 1045) (by omega) (by omega) ?_
  refine lv_dup hx hb dX1_init_32 rfl ?_
  have hPc := hP.sub (ws' := [(n4_29, .inr (2, [.null]))]) [8] rfl
  have hFc := va_free (wc := [(n4_29, .inr (2, [.null]))]) hD hS hA [8] rfl
  refine va_callv (va_runIN (As := []) (rest := [.ref n4_29, .int 3, .ref q7]) ⟨hx, hb, hml, hown, hts⟩ (C2_init l D cI cO n4_29 H hPc) ⟨va_cnB 0 hts gX1_init_X2_init_n15 rfl rfl rfl (hk.2 (.methodLinkNest RX1 15 yX2_init RX5) (List.mem_of_getElem? (i := 4) rfl)) (hts (.initialized RX2) (List.mem_of_getElem? (i := 7) rfl)) bd_X2init ⟨Nat.le_of_ble_eq_true rfl, Nat.le_of_ble_eq_true rfl⟩, rfl, (hts (.instanceMethod yX2_init) (List.mem_of_getElem? (i := 8) rfl))⟩ (bPSF hk hT hO hS hFc) rfl rfl hl.1 rfl (lv_room (Nat.le_of_ble_eq_true rfl)) dX1_init_33 ⟨Nat.le_of_ble_eq_true rfl, Nat.le_of_ble_eq_true rfl⟩) hS (fun q _ h => hFc q h) hFc (fun u9 t H1 locs ht _ _ hB _ hk1 hS => ?_)
  obtain ⟨r_n4_29, hP1, hD1⟩ := hB
  rw [ht] at hP1
  obtain ⟨hP, hD⟩ := va_join (wr := [(h0, .inr (1, [.ref q7, .int 0, .int 0])), (q7, .inl (cO, 6, .inr (.inr (.inr (.inr (va_up (va_up (va_up (fun _ => none) 0 (some n1_29)) 1 (some n2_29)) 2 (some n3_29))))))), (n1_29, .inr (2, [.ref r_n1_29])), (r_n1_29, .inl (cI, 345, .inl (sF 6))), (n2_29, .inr (2, [.ref r_n2_29])), (r_n2_29, .inl (cI, 345, .inl (sF 6))), (n3_29, .inr (2, [.ref r_n3_29])), (r_n3_29, .inl (cI, 345, .inl (sF 6)))]) (w1 := [(n4_29, .inr (2, [.ref r_n4_29])), (r_n4_29, .inl (cI, 345, .inl (sF 6)))]) hP hD [8] [0, 1, 2, 3, 4, 5, 6, 7] rfl rfl (by decide) (by decide) hk1 hFc hP1 hD1
  clear hk1 hFc hP1 hD1 hPc
  subst ht
  generalize t.heap = H at hP hS ⊢
  have hP : va_P D vwCl [(h0, .inr (1, [.ref q7, .int 0, .int 0])), (q7, .inl (cO, 6, .inr (.inr (.inr (.inr (va_up (va_up (va_up (fun _ => none) 0 (some n1_29)) 1 (some n2_29)) 2 (some n3_29))))))), (n1_29, .inr (2, [.ref r_n1_29])), (r_n1_29, .inl (cI, 345, .inl (sF 6))), (n2_29, .inr (2, [.ref r_n2_29])), (r_n2_29, .inl (cI, 345, .inl (sF 6))), (n3_29, .inr (2, [.ref r_n3_29])), (r_n3_29, .inl (cI, 345, .inl (sF 6))), (n4_29, .inr (2, [.ref r_n4_29])), (r_n4_29, .inl (cI, 345, .inl (sF 6)))] H := hP
  have hD : va_D A [(h0, .inr (1, [.ref q7, .int 0, .int 0])), (q7, .inl (cO, 6, .inr (.inr (.inr (.inr (va_up (va_up (va_up (fun _ => none) 0 (some n1_29)) 1 (some n2_29)) 2 (some n3_29))))))), (n1_29, .inr (2, [.ref r_n1_29])), (r_n1_29, .inl (cI, 345, .inl (sF 6))), (n2_29, .inr (2, [.ref r_n2_29])), (r_n2_29, .inl (cI, 345, .inl (sF 6))), (n3_29, .inr (2, [.ref r_n3_29])), (r_n3_29, .inl (cI, 345, .inl (sF 6))), (n4_29, .inr (2, [.ref r_n4_29])), (r_n4_29, .inl (cI, 345, .inl (sF 6)))] := hD
  refine W.widen (k := 9) (n := 1390) (by omega) (by omega) ?_
  refine va_astq (r := (RX2, TX2, 1)) hx hb hk.1 hP hD hS 1 1 8 2 rfl rfl rfl rfl (vp_in_nI (n := 3) (by decide) (by decide)) dX1_init_36 (fun H locs hP hD hS => ?_)
  have hP : va_P D vwCl [(h0, .inr (1, [.ref q7, .int 0, .int 0])), (q7, .inl (cO, 6, .inr (.inr (.inr (.inr (va_up (va_up (va_up (va_up (fun _ => none) 0 (some n1_29)) 1 (some n2_29)) 2 (some n3_29)) 3 (some n4_29))))))), (n1_29, .inr (2, [.ref r_n1_29])), (r_n1_29, .inl (cI, 345, .inl (sF 6))), (n2_29, .inr (2, [.ref r_n2_29])), (r_n2_29, .inl (cI, 345, .inl (sF 6))), (n3_29, .inr (2, [.ref r_n3_29])), (r_n3_29, .inl (cI, 345, .inl (sF 6))), (n4_29, .inr (2, [.ref r_n4_29])), (r_n4_29, .inl (cI, 345, .inl (sF 6)))] H := hP
  have hD : va_D A [(h0, .inr (1, [.ref q7, .int 0, .int 0])), (q7, .inl (cO, 6, .inr (.inr (.inr (.inr (va_up (va_up (va_up (va_up (fun _ => none) 0 (some n1_29)) 1 (some n2_29)) 2 (some n3_29)) 3 (some n4_29))))))), (n1_29, .inr (2, [.ref r_n1_29])), (r_n1_29, .inl (cI, 345, .inl (sF 6))), (n2_29, .inr (2, [.ref r_n2_29])), (r_n2_29, .inl (cI, 345, .inl (sF 6))), (n3_29, .inr (2, [.ref r_n3_29])), (r_n3_29, .inl (cI, 345, .inl (sF 6))), (n4_29, .inr (2, [.ref r_n4_29])), (r_n4_29, .inl (cI, 345, .inl (sF 6)))] := hD
  refine lv_iinc (v := 4) (lv' := [(1, .int 4), (0, .ref h0)]) hx hb dX1_init_37 hl (k := 0) rfl (by decide) (by decide) rfl (fun ls hl => ?_)
  refine lv_goto (tgt := 15) hx hb dX1_init_40 (by decide) ?_
  refine lv_iload_n hx hb dX1_init_15 rfl (lv_at hl 0 rfl) ?_
  refine lv_aload_n hx hb dX1_init_16 rfl (lv_at hl 1 rfl) ?_
  refine va_get (D := D) (ci := 1) (C := RX1) (T := TX1) (N := 3) hx hb hts iX1 hown hk.1 hP 0 rfl rfl 0 (by decide) (hts (.fieldLink RX1 11 "BottleLoop$Past" "states" "[LBottleLoop$State;") (List.mem_of_getElem? (i := 5) rfl)) (fun _ h9 => h9) rfl dX1_init_17 ?_
  refine va_alen (v := 6) hx hb hk.1 hP 1 1 rfl rfl rfl dX1_init_20 ?_
  refine lv_icmp_ge (tgt := 43) hx hb dX1_init_21 (by decide) (fun h9 => absurd h9 (by decide)) (fun _ => ?_)
  refine lv_aload_n hx hb dX1_init_24 rfl (lv_at hl 1 rfl) ?_
  refine va_get (D := D) (ci := 1) (C := RX1) (T := TX1) (N := 3) hx hb hts iX1 hown hk.1 hP 0 rfl rfl 0 (by decide) (hts (.fieldLink RX1 11 "BottleLoop$Past" "states" "[LBottleLoop$State;") (List.mem_of_getElem? (i := 5) rfl)) (fun _ h9 => h9) rfl dX1_init_25 ?_
  refine lv_iload_n hx hb dX1_init_28 rfl (lv_at hl 0 rfl) ?_
  refine va_new (D := D) (ci := 2) (fs := [.null]) (C := RX2) (T := TX2) (N := 1) hx hb hts iX2 tyX2 tyX2_ok hown (hts (.classLink RX1 9 RX2) (List.mem_of_getElem? (i := 4) rfl)) (hts (.instantiable RX2 1) (List.mem_of_getElem? (i := 6) rfl)) (hts (.initialized RX2) (List.mem_of_getElem? (i := 7) rfl)) hk.1 hP hD hS hA rfl (fun j hj => by rcases (show j = 0 by omega) with rfl <;> rfl) (Nat.le_of_ble_eq_true rfl) (Nat.le_of_ble_eq_true rfl) dX1_init_29 (fun n5_29 H hP hD hS => ?_)
  have hP : va_P D vwCl [(h0, .inr (1, [.ref q7, .int 0, .int 0])), (q7, .inl (cO, 6, .inr (.inr (.inr (.inr (va_up (va_up (va_up (va_up (fun _ => none) 0 (some n1_29)) 1 (some n2_29)) 2 (some n3_29)) 3 (some n4_29))))))), (n1_29, .inr (2, [.ref r_n1_29])), (r_n1_29, .inl (cI, 345, .inl (sF 6))), (n2_29, .inr (2, [.ref r_n2_29])), (r_n2_29, .inl (cI, 345, .inl (sF 6))), (n3_29, .inr (2, [.ref r_n3_29])), (r_n3_29, .inl (cI, 345, .inl (sF 6))), (n4_29, .inr (2, [.ref r_n4_29])), (r_n4_29, .inl (cI, 345, .inl (sF 6))), (n5_29, .inr (2, [.null]))] H := hP
  have hD : va_D A [(h0, .inr (1, [.ref q7, .int 0, .int 0])), (q7, .inl (cO, 6, .inr (.inr (.inr (.inr (va_up (va_up (va_up (va_up (fun _ => none) 0 (some n1_29)) 1 (some n2_29)) 2 (some n3_29)) 3 (some n4_29))))))), (n1_29, .inr (2, [.ref r_n1_29])), (r_n1_29, .inl (cI, 345, .inl (sF 6))), (n2_29, .inr (2, [.ref r_n2_29])), (r_n2_29, .inl (cI, 345, .inl (sF 6))), (n3_29, .inr (2, [.ref r_n3_29])), (r_n3_29, .inl (cI, 345, .inl (sF 6))), (n4_29, .inr (2, [.ref r_n4_29])), (r_n4_29, .inl (cI, 345, .inl (sF 6))), (n5_29, .inr (2, [.null]))] := hD
  refine W.widen (k := 10) (n := 1391) (by omega) (by omega) ?_
  refine lv_dup hx hb dX1_init_32 rfl ?_
  have hPc := hP.sub (ws' := [(n5_29, .inr (2, [.null]))]) [10] rfl
  have hFc := va_free (wc := [(n5_29, .inr (2, [.null]))]) hD hS hA [10] rfl
  refine va_callv (va_runIN (As := []) (rest := [.ref n5_29, .int 4, .ref q7]) ⟨hx, hb, hml, hown, hts⟩ (C2_init l D cI cO n5_29 H hPc) ⟨va_cnB 0 hts gX1_init_X2_init_n15 rfl rfl rfl (hk.2 (.methodLinkNest RX1 15 yX2_init RX5) (List.mem_of_getElem? (i := 4) rfl)) (hts (.initialized RX2) (List.mem_of_getElem? (i := 7) rfl)) bd_X2init ⟨Nat.le_of_ble_eq_true rfl, Nat.le_of_ble_eq_true rfl⟩, rfl, (hts (.instanceMethod yX2_init) (List.mem_of_getElem? (i := 8) rfl))⟩ (bPSF hk hT hO hS hFc) rfl rfl hl.1 rfl (lv_room (Nat.le_of_ble_eq_true rfl)) dX1_init_33 ⟨Nat.le_of_ble_eq_true rfl, Nat.le_of_ble_eq_true rfl⟩) hS (fun q _ h => hFc q h) hFc (fun u9 t H1 locs ht _ _ hB _ hk1 hS => ?_)
  obtain ⟨r_n5_29, hP1, hD1⟩ := hB
  rw [ht] at hP1
  obtain ⟨hP, hD⟩ := va_join (wr := [(h0, .inr (1, [.ref q7, .int 0, .int 0])), (q7, .inl (cO, 6, .inr (.inr (.inr (.inr (va_up (va_up (va_up (va_up (fun _ => none) 0 (some n1_29)) 1 (some n2_29)) 2 (some n3_29)) 3 (some n4_29))))))), (n1_29, .inr (2, [.ref r_n1_29])), (r_n1_29, .inl (cI, 345, .inl (sF 6))), (n2_29, .inr (2, [.ref r_n2_29])), (r_n2_29, .inl (cI, 345, .inl (sF 6))), (n3_29, .inr (2, [.ref r_n3_29])), (r_n3_29, .inl (cI, 345, .inl (sF 6))), (n4_29, .inr (2, [.ref r_n4_29])), (r_n4_29, .inl (cI, 345, .inl (sF 6)))]) (w1 := [(n5_29, .inr (2, [.ref r_n5_29])), (r_n5_29, .inl (cI, 345, .inl (sF 6)))]) hP hD [10] [0, 1, 2, 3, 4, 5, 6, 7, 8, 9] rfl rfl (by decide) (by decide) hk1 hFc hP1 hD1
  clear hk1 hFc hP1 hD1 hPc
  subst ht
  generalize t.heap = H at hP hS ⊢
  have hP : va_P D vwCl [(h0, .inr (1, [.ref q7, .int 0, .int 0])), (q7, .inl (cO, 6, .inr (.inr (.inr (.inr (va_up (va_up (va_up (va_up (fun _ => none) 0 (some n1_29)) 1 (some n2_29)) 2 (some n3_29)) 3 (some n4_29))))))), (n1_29, .inr (2, [.ref r_n1_29])), (r_n1_29, .inl (cI, 345, .inl (sF 6))), (n2_29, .inr (2, [.ref r_n2_29])), (r_n2_29, .inl (cI, 345, .inl (sF 6))), (n3_29, .inr (2, [.ref r_n3_29])), (r_n3_29, .inl (cI, 345, .inl (sF 6))), (n4_29, .inr (2, [.ref r_n4_29])), (r_n4_29, .inl (cI, 345, .inl (sF 6))), (n5_29, .inr (2, [.ref r_n5_29])), (r_n5_29, .inl (cI, 345, .inl (sF 6)))] H := hP
  have hD : va_D A [(h0, .inr (1, [.ref q7, .int 0, .int 0])), (q7, .inl (cO, 6, .inr (.inr (.inr (.inr (va_up (va_up (va_up (va_up (fun _ => none) 0 (some n1_29)) 1 (some n2_29)) 2 (some n3_29)) 3 (some n4_29))))))), (n1_29, .inr (2, [.ref r_n1_29])), (r_n1_29, .inl (cI, 345, .inl (sF 6))), (n2_29, .inr (2, [.ref r_n2_29])), (r_n2_29, .inl (cI, 345, .inl (sF 6))), (n3_29, .inr (2, [.ref r_n3_29])), (r_n3_29, .inl (cI, 345, .inl (sF 6))), (n4_29, .inr (2, [.ref r_n4_29])), (r_n4_29, .inl (cI, 345, .inl (sF 6))), (n5_29, .inr (2, [.ref r_n5_29])), (r_n5_29, .inl (cI, 345, .inl (sF 6)))] := hD
  refine W.widen (k := 11) (n := 1736) (by omega) (by omega) ?_
  refine va_astq (r := (RX2, TX2, 1)) hx hb hk.1 hP hD hS 1 1 10 2 rfl rfl rfl rfl (vp_in_nI (n := 4) (by decide) (by decide)) dX1_init_36 (fun H locs hP hD hS => ?_)
  have hP : va_P D vwCl [(h0, .inr (1, [.ref q7, .int 0, .int 0])), (q7, .inl (cO, 6, .inr (.inr (.inr (.inr (va_up (va_up (va_up (va_up (va_up (fun _ => none) 0 (some n1_29)) 1 (some n2_29)) 2 (some n3_29)) 3 (some n4_29)) 4 (some n5_29))))))), (n1_29, .inr (2, [.ref r_n1_29])), (r_n1_29, .inl (cI, 345, .inl (sF 6))), (n2_29, .inr (2, [.ref r_n2_29])), (r_n2_29, .inl (cI, 345, .inl (sF 6))), (n3_29, .inr (2, [.ref r_n3_29])), (r_n3_29, .inl (cI, 345, .inl (sF 6))), (n4_29, .inr (2, [.ref r_n4_29])), (r_n4_29, .inl (cI, 345, .inl (sF 6))), (n5_29, .inr (2, [.ref r_n5_29])), (r_n5_29, .inl (cI, 345, .inl (sF 6)))] H := hP
  have hD : va_D A [(h0, .inr (1, [.ref q7, .int 0, .int 0])), (q7, .inl (cO, 6, .inr (.inr (.inr (.inr (va_up (va_up (va_up (va_up (va_up (fun _ => none) 0 (some n1_29)) 1 (some n2_29)) 2 (some n3_29)) 3 (some n4_29)) 4 (some n5_29))))))), (n1_29, .inr (2, [.ref r_n1_29])), (r_n1_29, .inl (cI, 345, .inl (sF 6))), (n2_29, .inr (2, [.ref r_n2_29])), (r_n2_29, .inl (cI, 345, .inl (sF 6))), (n3_29, .inr (2, [.ref r_n3_29])), (r_n3_29, .inl (cI, 345, .inl (sF 6))), (n4_29, .inr (2, [.ref r_n4_29])), (r_n4_29, .inl (cI, 345, .inl (sF 6))), (n5_29, .inr (2, [.ref r_n5_29])), (r_n5_29, .inl (cI, 345, .inl (sF 6)))] := hD
  refine lv_iinc (v := 5) (lv' := [(1, .int 5), (0, .ref h0)]) hx hb dX1_init_37 hl (k := 0) rfl (by decide) (by decide) rfl (fun ls hl => ?_)
  refine lv_goto (tgt := 15) hx hb dX1_init_40 (by decide) ?_
  refine lv_iload_n hx hb dX1_init_15 rfl (lv_at hl 0 rfl) ?_
  refine lv_aload_n hx hb dX1_init_16 rfl (lv_at hl 1 rfl) ?_
  refine va_get (D := D) (ci := 1) (C := RX1) (T := TX1) (N := 3) hx hb hts iX1 hown hk.1 hP 0 rfl rfl 0 (by decide) (hts (.fieldLink RX1 11 "BottleLoop$Past" "states" "[LBottleLoop$State;") (List.mem_of_getElem? (i := 5) rfl)) (fun _ h9 => h9) rfl dX1_init_17 ?_
  refine va_alen (v := 6) hx hb hk.1 hP 1 1 rfl rfl rfl dX1_init_20 ?_
  refine lv_icmp_ge (tgt := 43) hx hb dX1_init_21 (by decide) (fun h9 => absurd h9 (by decide)) (fun _ => ?_)
  refine lv_aload_n hx hb dX1_init_24 rfl (lv_at hl 1 rfl) ?_
  refine va_get (D := D) (ci := 1) (C := RX1) (T := TX1) (N := 3) hx hb hts iX1 hown hk.1 hP 0 rfl rfl 0 (by decide) (hts (.fieldLink RX1 11 "BottleLoop$Past" "states" "[LBottleLoop$State;") (List.mem_of_getElem? (i := 5) rfl)) (fun _ h9 => h9) rfl dX1_init_25 ?_
  refine lv_iload_n hx hb dX1_init_28 rfl (lv_at hl 0 rfl) ?_
  refine va_new (D := D) (ci := 2) (fs := [.null]) (C := RX2) (T := TX2) (N := 1) hx hb hts iX2 tyX2 tyX2_ok hown (hts (.classLink RX1 9 RX2) (List.mem_of_getElem? (i := 4) rfl)) (hts (.instantiable RX2 1) (List.mem_of_getElem? (i := 6) rfl)) (hts (.initialized RX2) (List.mem_of_getElem? (i := 7) rfl)) hk.1 hP hD hS hA rfl (fun j hj => by rcases (show j = 0 by omega) with rfl <;> rfl) (Nat.le_of_ble_eq_true rfl) (Nat.le_of_ble_eq_true rfl) dX1_init_29 (fun n6_29 H hP hD hS => ?_)
  have hP : va_P D vwCl [(h0, .inr (1, [.ref q7, .int 0, .int 0])), (q7, .inl (cO, 6, .inr (.inr (.inr (.inr (va_up (va_up (va_up (va_up (va_up (fun _ => none) 0 (some n1_29)) 1 (some n2_29)) 2 (some n3_29)) 3 (some n4_29)) 4 (some n5_29))))))), (n1_29, .inr (2, [.ref r_n1_29])), (r_n1_29, .inl (cI, 345, .inl (sF 6))), (n2_29, .inr (2, [.ref r_n2_29])), (r_n2_29, .inl (cI, 345, .inl (sF 6))), (n3_29, .inr (2, [.ref r_n3_29])), (r_n3_29, .inl (cI, 345, .inl (sF 6))), (n4_29, .inr (2, [.ref r_n4_29])), (r_n4_29, .inl (cI, 345, .inl (sF 6))), (n5_29, .inr (2, [.ref r_n5_29])), (r_n5_29, .inl (cI, 345, .inl (sF 6))), (n6_29, .inr (2, [.null]))] H := hP
  have hD : va_D A [(h0, .inr (1, [.ref q7, .int 0, .int 0])), (q7, .inl (cO, 6, .inr (.inr (.inr (.inr (va_up (va_up (va_up (va_up (va_up (fun _ => none) 0 (some n1_29)) 1 (some n2_29)) 2 (some n3_29)) 3 (some n4_29)) 4 (some n5_29))))))), (n1_29, .inr (2, [.ref r_n1_29])), (r_n1_29, .inl (cI, 345, .inl (sF 6))), (n2_29, .inr (2, [.ref r_n2_29])), (r_n2_29, .inl (cI, 345, .inl (sF 6))), (n3_29, .inr (2, [.ref r_n3_29])), (r_n3_29, .inl (cI, 345, .inl (sF 6))), (n4_29, .inr (2, [.ref r_n4_29])), (r_n4_29, .inl (cI, 345, .inl (sF 6))), (n5_29, .inr (2, [.ref r_n5_29])), (r_n5_29, .inl (cI, 345, .inl (sF 6))), (n6_29, .inr (2, [.null]))] := hD
  refine W.widen (k := 12) (n := 1737) (by omega) (by omega) ?_
  refine lv_dup hx hb dX1_init_32 rfl ?_
  have hPc := hP.sub (ws' := [(n6_29, .inr (2, [.null]))]) [12] rfl
  have hFc := va_free (wc := [(n6_29, .inr (2, [.null]))]) hD hS hA [12] rfl
  refine va_callv (va_runIN (As := []) (rest := [.ref n6_29, .int 5, .ref q7]) ⟨hx, hb, hml, hown, hts⟩ (C2_init l D cI cO n6_29 H hPc) ⟨va_cnB 0 hts gX1_init_X2_init_n15 rfl rfl rfl (hk.2 (.methodLinkNest RX1 15 yX2_init RX5) (List.mem_of_getElem? (i := 4) rfl)) (hts (.initialized RX2) (List.mem_of_getElem? (i := 7) rfl)) bd_X2init ⟨Nat.le_of_ble_eq_true rfl, Nat.le_of_ble_eq_true rfl⟩, rfl, (hts (.instanceMethod yX2_init) (List.mem_of_getElem? (i := 8) rfl))⟩ (bPSF hk hT hO hS hFc) rfl rfl hl.1 rfl (lv_room (Nat.le_of_ble_eq_true rfl)) dX1_init_33 ⟨Nat.le_of_ble_eq_true rfl, Nat.le_of_ble_eq_true rfl⟩) hS (fun q _ h => hFc q h) hFc (fun u9 t H1 locs ht _ _ hB _ hk1 hS => ?_)
  obtain ⟨r_n6_29, hP1, hD1⟩ := hB
  rw [ht] at hP1
  obtain ⟨hP, hD⟩ := va_join (wr := [(h0, .inr (1, [.ref q7, .int 0, .int 0])), (q7, .inl (cO, 6, .inr (.inr (.inr (.inr (va_up (va_up (va_up (va_up (va_up (fun _ => none) 0 (some n1_29)) 1 (some n2_29)) 2 (some n3_29)) 3 (some n4_29)) 4 (some n5_29))))))), (n1_29, .inr (2, [.ref r_n1_29])), (r_n1_29, .inl (cI, 345, .inl (sF 6))), (n2_29, .inr (2, [.ref r_n2_29])), (r_n2_29, .inl (cI, 345, .inl (sF 6))), (n3_29, .inr (2, [.ref r_n3_29])), (r_n3_29, .inl (cI, 345, .inl (sF 6))), (n4_29, .inr (2, [.ref r_n4_29])), (r_n4_29, .inl (cI, 345, .inl (sF 6))), (n5_29, .inr (2, [.ref r_n5_29])), (r_n5_29, .inl (cI, 345, .inl (sF 6)))]) (w1 := [(n6_29, .inr (2, [.ref r_n6_29])), (r_n6_29, .inl (cI, 345, .inl (sF 6)))]) hP hD [12] [0, 1, 2, 3, 4, 5, 6, 7, 8, 9, 10, 11] rfl rfl (by decide) (by decide) hk1 hFc hP1 hD1
  clear hk1 hFc hP1 hD1 hPc
  subst ht
  generalize t.heap = H at hP hS ⊢
  have hP : va_P D vwCl [(h0, .inr (1, [.ref q7, .int 0, .int 0])), (q7, .inl (cO, 6, .inr (.inr (.inr (.inr (va_up (va_up (va_up (va_up (va_up (fun _ => none) 0 (some n1_29)) 1 (some n2_29)) 2 (some n3_29)) 3 (some n4_29)) 4 (some n5_29))))))), (n1_29, .inr (2, [.ref r_n1_29])), (r_n1_29, .inl (cI, 345, .inl (sF 6))), (n2_29, .inr (2, [.ref r_n2_29])), (r_n2_29, .inl (cI, 345, .inl (sF 6))), (n3_29, .inr (2, [.ref r_n3_29])), (r_n3_29, .inl (cI, 345, .inl (sF 6))), (n4_29, .inr (2, [.ref r_n4_29])), (r_n4_29, .inl (cI, 345, .inl (sF 6))), (n5_29, .inr (2, [.ref r_n5_29])), (r_n5_29, .inl (cI, 345, .inl (sF 6))), (n6_29, .inr (2, [.ref r_n6_29])), (r_n6_29, .inl (cI, 345, .inl (sF 6)))] H := hP
  have hD : va_D A [(h0, .inr (1, [.ref q7, .int 0, .int 0])), (q7, .inl (cO, 6, .inr (.inr (.inr (.inr (va_up (va_up (va_up (va_up (va_up (fun _ => none) 0 (some n1_29)) 1 (some n2_29)) 2 (some n3_29)) 3 (some n4_29)) 4 (some n5_29))))))), (n1_29, .inr (2, [.ref r_n1_29])), (r_n1_29, .inl (cI, 345, .inl (sF 6))), (n2_29, .inr (2, [.ref r_n2_29])), (r_n2_29, .inl (cI, 345, .inl (sF 6))), (n3_29, .inr (2, [.ref r_n3_29])), (r_n3_29, .inl (cI, 345, .inl (sF 6))), (n4_29, .inr (2, [.ref r_n4_29])), (r_n4_29, .inl (cI, 345, .inl (sF 6))), (n5_29, .inr (2, [.ref r_n5_29])), (r_n5_29, .inl (cI, 345, .inl (sF 6))), (n6_29, .inr (2, [.ref r_n6_29])), (r_n6_29, .inl (cI, 345, .inl (sF 6)))] := hD
  refine W.widen (k := 13) (n := 2082) (by omega) (by omega) ?_
  refine va_astq (r := (RX2, TX2, 1)) hx hb hk.1 hP hD hS 1 1 12 2 rfl rfl rfl rfl (vp_in_nI (n := 5) (by decide) (by decide)) dX1_init_36 (fun H locs hP hD hS => ?_)
  have hP : va_P D vwCl [(h0, .inr (1, [.ref q7, .int 0, .int 0])), (q7, .inl (cO, 6, .inr (.inr (.inr (.inr (va_up (va_up (va_up (va_up (va_up (va_up (fun _ => none) 0 (some n1_29)) 1 (some n2_29)) 2 (some n3_29)) 3 (some n4_29)) 4 (some n5_29)) 5 (some n6_29))))))), (n1_29, .inr (2, [.ref r_n1_29])), (r_n1_29, .inl (cI, 345, .inl (sF 6))), (n2_29, .inr (2, [.ref r_n2_29])), (r_n2_29, .inl (cI, 345, .inl (sF 6))), (n3_29, .inr (2, [.ref r_n3_29])), (r_n3_29, .inl (cI, 345, .inl (sF 6))), (n4_29, .inr (2, [.ref r_n4_29])), (r_n4_29, .inl (cI, 345, .inl (sF 6))), (n5_29, .inr (2, [.ref r_n5_29])), (r_n5_29, .inl (cI, 345, .inl (sF 6))), (n6_29, .inr (2, [.ref r_n6_29])), (r_n6_29, .inl (cI, 345, .inl (sF 6)))] H := hP
  have hD : va_D A [(h0, .inr (1, [.ref q7, .int 0, .int 0])), (q7, .inl (cO, 6, .inr (.inr (.inr (.inr (va_up (va_up (va_up (va_up (va_up (va_up (fun _ => none) 0 (some n1_29)) 1 (some n2_29)) 2 (some n3_29)) 3 (some n4_29)) 4 (some n5_29)) 5 (some n6_29))))))), (n1_29, .inr (2, [.ref r_n1_29])), (r_n1_29, .inl (cI, 345, .inl (sF 6))), (n2_29, .inr (2, [.ref r_n2_29])), (r_n2_29, .inl (cI, 345, .inl (sF 6))), (n3_29, .inr (2, [.ref r_n3_29])), (r_n3_29, .inl (cI, 345, .inl (sF 6))), (n4_29, .inr (2, [.ref r_n4_29])), (r_n4_29, .inl (cI, 345, .inl (sF 6))), (n5_29, .inr (2, [.ref r_n5_29])), (r_n5_29, .inl (cI, 345, .inl (sF 6))), (n6_29, .inr (2, [.ref r_n6_29])), (r_n6_29, .inl (cI, 345, .inl (sF 6)))] := hD
  refine lv_iinc (v := 6) (lv' := [(1, .int 6), (0, .ref h0)]) hx hb dX1_init_37 hl (k := 0) rfl (by decide) (by decide) rfl (fun ls hl => ?_)
  refine lv_goto (tgt := 15) hx hb dX1_init_40 (by decide) ?_
  refine lv_iload_n hx hb dX1_init_15 rfl (lv_at hl 0 rfl) ?_
  refine lv_aload_n hx hb dX1_init_16 rfl (lv_at hl 1 rfl) ?_
  refine va_get (D := D) (ci := 1) (C := RX1) (T := TX1) (N := 3) hx hb hts iX1 hown hk.1 hP 0 rfl rfl 0 (by decide) (hts (.fieldLink RX1 11 "BottleLoop$Past" "states" "[LBottleLoop$State;") (List.mem_of_getElem? (i := 5) rfl)) (fun _ h9 => h9) rfl dX1_init_17 ?_
  refine va_alen (v := 6) hx hb hk.1 hP 1 1 rfl rfl rfl dX1_init_20 ?_
  refine lv_icmp_ge (tgt := 43) hx hb dX1_init_21 (by decide) (fun _ => ?_) (fun h9 => absurd (by decide) h9)
  have hP := va_refs (k := 1) (g := fun i => some (qL [n1_29, n2_29, n3_29, n4_29, n5_29, n6_29] i)) hP rfl (fun j hj => by rcases (show j = 0 ∨ j = 1 ∨ j = 2 ∨ j = 3 ∨ j = 4 ∨ j = 5 by omega) with rfl | rfl | rfl | rfl | rfl | rfl <;> rfl)
  have hD := hD.set (p := 1) (e := .inl (cO, 6, .inr (.inr (.inr (.inr (fun i => some (qL [n1_29, n2_29, n3_29, n4_29, n5_29, n6_29] i))))))) rfl
  have hP := hP.sub (ws' := [(h0, .inr (1, [.ref q7, .int 0, .int 0])), (q7, .inl (cO, 6, .inr (.inr (.inr (.inr (fun i => some (qL [n1_29, n2_29, n3_29, n4_29, n5_29, n6_29] i))))))), (n1_29, .inr (2, [.ref r_n1_29])), (r_n1_29, .inl (cI, 345, .inl (sF 6))), (n2_29, .inr (2, [.ref r_n2_29])), (r_n2_29, .inl (cI, 345, .inl (sF 6))), (n3_29, .inr (2, [.ref r_n3_29])), (r_n3_29, .inl (cI, 345, .inl (sF 6))), (n4_29, .inr (2, [.ref r_n4_29])), (r_n4_29, .inl (cI, 345, .inl (sF 6))), (n5_29, .inr (2, [.ref r_n5_29])), (r_n5_29, .inl (cI, 345, .inl (sF 6))), (n6_29, .inr (2, [.ref r_n6_29])), (r_n6_29, .inl (cI, 345, .inl (sF 6)))]) [0, 1, 2, 3, 4, 5, 6, 7, 8, 9, 10, 11, 12, 13] rfl
  have hD := hD.sub (ws' := [(h0, .inr (1, [.ref q7, .int 0, .int 0])), (q7, .inl (cO, 6, .inr (.inr (.inr (.inr (fun i => some (qL [n1_29, n2_29, n3_29, n4_29, n5_29, n6_29] i))))))), (n1_29, .inr (2, [.ref r_n1_29])), (r_n1_29, .inl (cI, 345, .inl (sF 6))), (n2_29, .inr (2, [.ref r_n2_29])), (r_n2_29, .inl (cI, 345, .inl (sF 6))), (n3_29, .inr (2, [.ref r_n3_29])), (r_n3_29, .inl (cI, 345, .inl (sF 6))), (n4_29, .inr (2, [.ref r_n4_29])), (r_n4_29, .inl (cI, 345, .inl (sF 6))), (n5_29, .inr (2, [.ref r_n5_29])), (r_n5_29, .inl (cI, 345, .inl (sF 6))), (n6_29, .inr (2, [.ref r_n6_29])), (r_n6_29, .inl (cI, 345, .inl (sF 6)))]) [0, 1, 2, 3, 4, 5, 6, 7, 8, 9, 10, 11, 12, 13] (by decide) rfl
  refine W.widen (k := 13) (n := 2082) (by omega) (by omega) ?_
  exact W.vret hx hb hr (fun t ht hW => ⟨⟨(), rfl, trivial, q7, n1_29, r_n1_29, n2_29, r_n2_29, n3_29, r_n3_29, n4_29, r_n4_29, n5_29, r_n5_29, n6_29, r_n6_29, by rw [ht]; exact hP, hD⟩, hS.F ht⟩) hS.2.2 dX1_init_43
set_option maxHeartbeats 4000000 in
set_option maxRecDepth 100000 in
theorem C5_init (l : Launch) (D : va_G) (cI cO : ClassId) (h0 : Nat) (H0 : Heap) (hP : va_P D vwCl [(h0, .inr (5, [.null, .null, .null, .null, .null]))] H0) : Met l yX5_init wsX5_init ({ frames := 4, cells := 22, slots := 2514, locals := 86 }) (bPF D cI cO (va_A [(h0, .inr (5, [.null, .null, .null, .null, .null]))] H0.size) H0 [.ref h0]) (va_Qv (fun _ : Unit => True) (fun _ t => ∃ q : Nat → Nat, q 0 = h0 ∧ va_P D vwCl (wC cI cO q uC0) t.heap ∧ va_D (va_A [(h0, .inr (5, [.null, .null, .null, .null, .null]))] H0.size) (wC cI cO q uC0)) (va_A [(h0, .inr (5, [.null, .null, .null, .null, .null]))] H0.size)) 22 2514 (va_A [(h0, .inr (5, [.null, .null, .null, .null, .null]))] H0.size) := by
  refine Met.ofW (cc := cX5_init) (maxL := 1) (ret := none) (by decide) rfl ?_
  intro p e s m args below meth c s₁ B hml hv
  obtain ⟨rfl, hH, hk, hT, hO⟩ := hv
  subst hH
  have hx := B.exec
  have hb := B.bytes
  have hr := B.returns
  have hts := atoms_spec (ws := wsX5_init) B.pre
  have hown : s.vm.findClass RX5 = some m.cls := findClass_of_methodNamed B.named
  have hlocks := B.notSynchronized
  have hin : meth.name = "<init>" := (name_of_methodNamed B.named B.method).1
  have hD := va_D1 (a := h0) (e := .inr (5, [.null, .null, .null, .null, .null])) (sz := s.heap.size)
  generalize hAe : (va_A [(h0, .inr (5, [.null, .null, .null, .null, .null]))] s.heap.size) = A at hD hT ⊢
  have hA : ∀ q : Nat, s.heap.size ≤ q → A q := fun q h => by rw [← hAe]; exact Or.inr h
  have hS : va_S A s.heap s.heap [] := va_S.rf
  have iX0 : ∀ w ∈ wsX00, w ∈ wsX5_init := by decide +kernel
  have iX1 : ∀ w ∈ wsX10, w ∈ wsX5_init := by decide +kernel
  have iX3 : ∀ w ∈ wsX30, w ∈ wsX5_init := by decide +kernel
  have iX4 : ∀ w ∈ wsX40, w ∈ wsX5_init := by decide +kernel
  have iX5 : ∀ w ∈ wsX50, w ∈ wsX5_init := by decide +kernel
  have hl := lv_entry ([.ref h0]) (n := 1) (Nat.le_of_ble_eq_true rfl)
  rw [lg_entry_eq]
  generalize (lg_sl ([.ref h0]) ++ List.replicate (1 - (lg_sl ([.ref h0])).length) Slot.unset).toArray = ls at hl ⊢
  have hl : lv_has ls 1 [(0, .ref h0)] := hl
  refine lv_aload_n hx hb dX5_init_0 rfl (lv_at hl 0 rfl) ?_
  refine W.objInit hx hb hown (hts (.methodLink RX5 3 objectInit) (List.mem_of_getElem? (i := 1) rfl)) (hts (.instanceMethod objectInit) (List.mem_of_getElem? (i := 2) rfl)) (hts _ (List.mem_of_getElem? (i := 3) rfl)) rfl (by rw [hml]; exact hl.1) rfl dX5_init_1 (Nat.le_of_ble_eq_true rfl) (Nat.le_of_ble_eq_true rfl) ?_
  refine W.eq (g2 := F0 m 4 ls []) rfl ?_
  refine lv_aload_n hx hb dX5_init_4 rfl (lv_at hl 0 rfl) ?_
  refine va_new (D := D) (ci := 4) (fs := [.null, .null]) (C := RX4) (T := TX4) (N := 2) hx hb hts iX4 tyX4 tyX4_ok hown (hts (.classLink RX5 9 RX4) (List.mem_of_getElem? (i := 4) rfl)) (hts (.instantiable RX4 2) (List.mem_of_getElem? (i := 5) rfl)) (hts (.initialized RX4) (List.mem_of_getElem? (i := 6) rfl)) hk.1 hP hD hS hA rfl (fun j hj => by rcases (show j = 0 ∨ j = 1 by omega) with rfl | rfl <;> rfl) (Nat.le_of_ble_eq_true rfl) (Nat.le_of_ble_eq_true rfl) dX5_init_5 (fun n1_5 H hP hD hS => ?_)
  have hP : va_P D vwCl [(h0, .inr (5, [.null, .null, .null, .null, .null])), (n1_5, .inr (4, [.null, .null]))] H := hP
  have hD : va_D A [(h0, .inr (5, [.null, .null, .null, .null, .null])), (n1_5, .inr (4, [.null, .null]))] := hD
  refine W.widen (k := 1) (n := 2) (by omega) (by omega) ?_
  refine lv_dup hx hb dX5_init_8 rfl ?_
  have hPc := hP.sub (ws' := [(n1_5, .inr (4, [.null, .null]))]) [1] rfl
  have hFc := va_free (wc := [(n1_5, .inr (4, [.null, .null]))]) hD hS hA [1] rfl
  refine va_callv (va_runIN (As := []) (rest := [.ref n1_5, .ref h0]) ⟨hx, hb, hml, hown, hts⟩ (C4_init l D cI cO n1_5 H hPc) ⟨va_cnB 0 hts gX5_init_X4_init_n11 rfl rfl rfl (hk.2 (.methodLinkNest RX5 11 yX4_init RX5) (List.mem_of_getElem? (i := 0) rfl)) (hts (.initialized RX4) (List.mem_of_getElem? (i := 6) rfl)) bd_X4init ⟨Nat.le_of_ble_eq_true rfl, Nat.le_of_ble_eq_true rfl⟩, rfl, (hts (.instanceMethod yX4_init) (List.mem_of_getElem? (i := 21) rfl))⟩ (bPSF hk hT hO hS hFc) rfl rfl hl.1 rfl (lv_room (Nat.le_of_ble_eq_true rfl)) dX5_init_9 ⟨Nat.le_of_ble_eq_true rfl, Nat.le_of_ble_eq_true rfl⟩) hS (fun q _ h => hFc q h) hFc (fun u9 t H1 locs ht _ _ hB _ hk1 hS => ?_)
  obtain ⟨s_n1_5, r_n1_5, l_n1_5, hP1, hD1⟩ := hB
  rw [ht] at hP1
  obtain ⟨hP, hD⟩ := va_join (wr := [(h0, .inr (5, [.null, .null, .null, .null, .null]))]) (w1 := [(n1_5, .inr (4, [.ref s_n1_5, .ref l_n1_5])), (s_n1_5, .inr (2, [.ref r_n1_5])), (r_n1_5, .inl (cI, 345, .inl (sF 6))), (l_n1_5, .inl (cI, 8, .inl (fun _ => 0)))]) hP hD [1] [0] rfl rfl (by decide) (by decide) hk1 hFc hP1 hD1
  clear hk1 hFc hP1 hD1 hPc
  subst ht
  generalize t.heap = H at hP hS ⊢
  have hP : va_P D vwCl [(h0, .inr (5, [.null, .null, .null, .null, .null])), (n1_5, .inr (4, [.ref s_n1_5, .ref l_n1_5])), (s_n1_5, .inr (2, [.ref r_n1_5])), (r_n1_5, .inl (cI, 345, .inl (sF 6))), (l_n1_5, .inl (cI, 8, .inl (fun _ => 0)))] H := hP
  have hD : va_D A [(h0, .inr (5, [.null, .null, .null, .null, .null])), (n1_5, .inr (4, [.ref s_n1_5, .ref l_n1_5])), (s_n1_5, .inr (2, [.ref r_n1_5])), (r_n1_5, .inl (cI, 345, .inl (sF 6))), (l_n1_5, .inl (cI, 8, .inl (fun _ => 0)))] := hD
  refine W.widen (k := 4) (n := 356) (by omega) (by omega) ?_
  refine va_putF (D := D) (ci := 5) (v := .ref n1_5) (ty := .object "BottleLoop$Trade") (C := RX5) (T := TX5) (N := 5) hx hb hts iX5 tyX5 tyX5_ok nmX5 hown hk.1 hP hD hS 0 rfl rfl 2 (by decide) (hts (.fieldLink RX5 12 "BottleLoop" "trade" "LBottleLoop$Trade;") (List.mem_of_getElem? (i := 7) rfl)) (fun _ h9 => h9) rfl hin rfl (by decide +kernel) rfl rfl (Nat.le_of_ble_eq_true rfl) dX5_init_12 (fun H locs hP hD hS => ?_)
  have hP : va_P D vwCl [(h0, .inr (5, [.null, .null, .ref n1_5, .null, .null])), (n1_5, .inr (4, [.ref s_n1_5, .ref l_n1_5])), (s_n1_5, .inr (2, [.ref r_n1_5])), (r_n1_5, .inl (cI, 345, .inl (sF 6))), (l_n1_5, .inl (cI, 8, .inl (fun _ => 0)))] H := hP
  have hD : va_D A [(h0, .inr (5, [.null, .null, .ref n1_5, .null, .null])), (n1_5, .inr (4, [.ref s_n1_5, .ref l_n1_5])), (s_n1_5, .inr (2, [.ref r_n1_5])), (r_n1_5, .inl (cI, 345, .inl (sF 6))), (l_n1_5, .inl (cI, 8, .inl (fun _ => 0)))] := hD
  refine lv_aload_n hx hb dX5_init_15 rfl (lv_at hl 0 rfl) ?_
  refine lv_aload_n hx hb dX5_init_16 rfl (lv_at hl 0 rfl) ?_
  refine va_get (D := D) (ci := 5) (C := RX5) (T := TX5) (N := 5) hx hb hts iX5 hown hk.1 hP 0 rfl rfl 2 (by decide) (hts (.fieldLink RX5 12 "BottleLoop" "trade" "LBottleLoop$Trade;") (List.mem_of_getElem? (i := 7) rfl)) (fun _ h9 => h9) rfl dX5_init_17 ?_
  refine va_getN (D := D) (ci := 4) (C := RX4) (T := TX4) (N := 2) hx hb hts iX4 hown hk.1 hP 1 rfl rfl 0 (by decide) (va_Nw.use rfl (hk.2 (.fieldLinkNest RX5 16 "BottleLoop$Trade" "state" "LBottleLoop$State;" RX5) (List.mem_of_getElem? (i := 53) rfl))) (fun _ h9 => h9) rfl dX5_init_20 ?_
  refine va_putF (D := D) (ci := 5) (v := .ref s_n1_5) (ty := .object "BottleLoop$State") (C := RX5) (T := TX5) (N := 5) hx hb hts iX5 tyX5 tyX5_ok nmX5 hown hk.1 hP hD hS 0 rfl rfl 0 (by decide) (hts (.fieldLink RX5 20 "BottleLoop" "now" "LBottleLoop$State;") (List.mem_of_getElem? (i := 8) rfl)) (fun _ h9 => h9) rfl hin rfl (by decide +kernel) rfl rfl (Nat.le_of_ble_eq_true rfl) dX5_init_23 (fun H locs hP hD hS => ?_)
  have hP : va_P D vwCl [(h0, .inr (5, [.ref s_n1_5, .null, .ref n1_5, .null, .null])), (n1_5, .inr (4, [.ref s_n1_5, .ref l_n1_5])), (s_n1_5, .inr (2, [.ref r_n1_5])), (r_n1_5, .inl (cI, 345, .inl (sF 6))), (l_n1_5, .inl (cI, 8, .inl (fun _ => 0)))] H := hP
  have hD : va_D A [(h0, .inr (5, [.ref s_n1_5, .null, .ref n1_5, .null, .null])), (n1_5, .inr (4, [.ref s_n1_5, .ref l_n1_5])), (s_n1_5, .inr (2, [.ref r_n1_5])), (r_n1_5, .inl (cI, 345, .inl (sF 6))), (l_n1_5, .inl (cI, 8, .inl (fun _ => 0)))] := hD
  refine lv_aload_n hx hb dX5_init_26 rfl (lv_at hl 0 rfl) ?_
  refine va_new (D := D) (ci := 1) (fs := [.null, .int 0, .int 0]) (C := RX1) (T := TX1) (N := 3) hx hb hts iX1 tyX1 tyX1_ok hown (hts (.classLink RX5 23 RX1) (List.mem_of_getElem? (i := 9) rfl)) (hts (.instantiable RX1 3) (List.mem_of_getElem? (i := 10) rfl)) (hts (.initialized RX1) (List.mem_of_getElem? (i := 11) rfl)) hk.1 hP hD hS hA rfl (fun j hj => by rcases (show j = 0 ∨ j = 1 ∨ j = 2 by omega) with rfl | rfl | rfl <;> rfl) (Nat.le_of_ble_eq_true rfl) (Nat.le_of_ble_eq_true rfl) dX5_init_27 (fun n2_27 H hP hD hS => ?_)
  have hP : va_P D vwCl [(h0, .inr (5, [.ref s_n1_5, .null, .ref n1_5, .null, .null])), (n1_5, .inr (4, [.ref s_n1_5, .ref l_n1_5])), (s_n1_5, .inr (2, [.ref r_n1_5])), (r_n1_5, .inl (cI, 345, .inl (sF 6))), (l_n1_5, .inl (cI, 8, .inl (fun _ => 0))), (n2_27, .inr (1, [.null, .int 0, .int 0]))] H := hP
  have hD : va_D A [(h0, .inr (5, [.ref s_n1_5, .null, .ref n1_5, .null, .null])), (n1_5, .inr (4, [.ref s_n1_5, .ref l_n1_5])), (s_n1_5, .inr (2, [.ref r_n1_5])), (r_n1_5, .inl (cI, 345, .inl (sF 6))), (l_n1_5, .inl (cI, 8, .inl (fun _ => 0))), (n2_27, .inr (1, [.null, .int 0, .int 0]))] := hD
  refine W.widen (k := 5) (n := 359) (by omega) (by omega) ?_
  refine lv_dup hx hb dX5_init_30 rfl ?_
  have hPc := hP.sub (ws' := [(n2_27, .inr (1, [.null, .int 0, .int 0]))]) [5] rfl
  have hFc := va_free (wc := [(n2_27, .inr (1, [.null, .int 0, .int 0]))]) hD hS hA [5] rfl
  refine va_callv (va_runIN (As := []) (rest := [.ref n2_27, .ref h0]) ⟨hx, hb, hml, hown, hts⟩ (C1_init l D cI cO n2_27 H hPc) ⟨va_cnB 0 hts gX5_init_X1_init_n25 rfl rfl rfl (hk.2 (.methodLinkNest RX5 25 yX1_init RX5) (List.mem_of_getElem? (i := 3) rfl)) (hts (.initialized RX1) (List.mem_of_getElem? (i := 11) rfl)) bd_X1init ⟨Nat.le_of_ble_eq_true rfl, Nat.le_of_ble_eq_true rfl⟩, rfl, (hts (.instanceMethod yX1_init) (List.mem_of_getElem? (i := 45) rfl))⟩ (bPSF hk hT hO hS hFc) rfl rfl hl.1 rfl (lv_room (Nat.le_of_ble_eq_true rfl)) dX5_init_31 ⟨Nat.le_of_ble_eq_true rfl, Nat.le_of_ble_eq_true rfl⟩) hS (fun q _ h => hFc q h) hFc (fun u9 t H1 locs ht _ _ hB _ hk1 hS => ?_)
  obtain ⟨p_n2_27, s0_n2_27, r0_n2_27, s1_n2_27, r1_n2_27, s2_n2_27, r2_n2_27, s3_n2_27, r3_n2_27, s4_n2_27, r4_n2_27, s5_n2_27, r5_n2_27, hP1, hD1⟩ := hB
  rw [ht] at hP1
  obtain ⟨hP, hD⟩ := va_join (wr := [(h0, .inr (5, [.ref s_n1_5, .null, .ref n1_5, .null, .null])), (n1_5, .inr (4, [.ref s_n1_5, .ref l_n1_5])), (s_n1_5, .inr (2, [.ref r_n1_5])), (r_n1_5, .inl (cI, 345, .inl (sF 6))), (l_n1_5, .inl (cI, 8, .inl (fun _ => 0)))]) (w1 := [(n2_27, .inr (1, [.ref p_n2_27, .int 0, .int 0])), (p_n2_27, .inl (cO, 6, .inr (.inr (.inr (.inr (fun i => some (qL [s0_n2_27, s1_n2_27, s2_n2_27, s3_n2_27, s4_n2_27, s5_n2_27] i))))))), (s0_n2_27, .inr (2, [.ref r0_n2_27])), (r0_n2_27, .inl (cI, 345, .inl (sF 6))), (s1_n2_27, .inr (2, [.ref r1_n2_27])), (r1_n2_27, .inl (cI, 345, .inl (sF 6))), (s2_n2_27, .inr (2, [.ref r2_n2_27])), (r2_n2_27, .inl (cI, 345, .inl (sF 6))), (s3_n2_27, .inr (2, [.ref r3_n2_27])), (r3_n2_27, .inl (cI, 345, .inl (sF 6))), (s4_n2_27, .inr (2, [.ref r4_n2_27])), (r4_n2_27, .inl (cI, 345, .inl (sF 6))), (s5_n2_27, .inr (2, [.ref r5_n2_27])), (r5_n2_27, .inl (cI, 345, .inl (sF 6)))]) hP hD [5] [0, 1, 2, 3, 4] rfl rfl (by decide) (by decide) hk1 hFc hP1 hD1
  clear hk1 hFc hP1 hD1 hPc
  subst ht
  generalize t.heap = H at hP hS ⊢
  have hP : va_P D vwCl [(h0, .inr (5, [.ref s_n1_5, .null, .ref n1_5, .null, .null])), (n1_5, .inr (4, [.ref s_n1_5, .ref l_n1_5])), (s_n1_5, .inr (2, [.ref r_n1_5])), (r_n1_5, .inl (cI, 345, .inl (sF 6))), (l_n1_5, .inl (cI, 8, .inl (fun _ => 0))), (n2_27, .inr (1, [.ref p_n2_27, .int 0, .int 0])), (p_n2_27, .inl (cO, 6, .inr (.inr (.inr (.inr (fun i => some (qL [s0_n2_27, s1_n2_27, s2_n2_27, s3_n2_27, s4_n2_27, s5_n2_27] i))))))), (s0_n2_27, .inr (2, [.ref r0_n2_27])), (r0_n2_27, .inl (cI, 345, .inl (sF 6))), (s1_n2_27, .inr (2, [.ref r1_n2_27])), (r1_n2_27, .inl (cI, 345, .inl (sF 6))), (s2_n2_27, .inr (2, [.ref r2_n2_27])), (r2_n2_27, .inl (cI, 345, .inl (sF 6))), (s3_n2_27, .inr (2, [.ref r3_n2_27])), (r3_n2_27, .inl (cI, 345, .inl (sF 6))), (s4_n2_27, .inr (2, [.ref r4_n2_27])), (r4_n2_27, .inl (cI, 345, .inl (sF 6))), (s5_n2_27, .inr (2, [.ref r5_n2_27])), (r5_n2_27, .inl (cI, 345, .inl (sF 6)))] H := hP
  have hD : va_D A [(h0, .inr (5, [.ref s_n1_5, .null, .ref n1_5, .null, .null])), (n1_5, .inr (4, [.ref s_n1_5, .ref l_n1_5])), (s_n1_5, .inr (2, [.ref r_n1_5])), (r_n1_5, .inl (cI, 345, .inl (sF 6))), (l_n1_5, .inl (cI, 8, .inl (fun _ => 0))), (n2_27, .inr (1, [.ref p_n2_27, .int 0, .int 0])), (p_n2_27, .inl (cO, 6, .inr (.inr (.inr (.inr (fun i => some (qL [s0_n2_27, s1_n2_27, s2_n2_27, s3_n2_27, s4_n2_27, s5_n2_27] i))))))), (s0_n2_27, .inr (2, [.ref r0_n2_27])), (r0_n2_27, .inl (cI, 345, .inl (sF 6))), (s1_n2_27, .inr (2, [.ref r1_n2_27])), (r1_n2_27, .inl (cI, 345, .inl (sF 6))), (s2_n2_27, .inr (2, [.ref r2_n2_27])), (r2_n2_27, .inl (cI, 345, .inl (sF 6))), (s3_n2_27, .inr (2, [.ref r3_n2_27])), (r3_n2_27, .inl (cI, 345, .inl (sF 6))), (s4_n2_27, .inr (2, [.ref r4_n2_27])), (r4_n2_27, .inl (cI, 345, .inl (sF 6))), (s5_n2_27, .inr (2, [.ref r5_n2_27])), (r5_n2_27, .inl (cI, 345, .inl (sF 6)))] := hD
  refine W.widen (k := 18) (n := 2441) (by omega) (by omega) ?_
  refine va_putF (D := D) (ci := 5) (v := .ref n2_27) (ty := .object "BottleLoop$Past") (C := RX5) (T := TX5) (N := 5) hx hb hts iX5 tyX5 tyX5_ok nmX5 hown hk.1 hP hD hS 0 rfl rfl 1 (by decide) (hts (.fieldLink RX5 26 "BottleLoop" "past" "LBottleLoop$Past;") (List.mem_of_getElem? (i := 12) rfl)) (fun _ h9 => h9) rfl hin rfl (by decide +kernel) rfl rfl (Nat.le_of_ble_eq_true rfl) dX5_init_34 (fun H locs hP hD hS => ?_)
  have hP : va_P D vwCl [(h0, .inr (5, [.ref s_n1_5, .ref n2_27, .ref n1_5, .null, .null])), (n1_5, .inr (4, [.ref s_n1_5, .ref l_n1_5])), (s_n1_5, .inr (2, [.ref r_n1_5])), (r_n1_5, .inl (cI, 345, .inl (sF 6))), (l_n1_5, .inl (cI, 8, .inl (fun _ => 0))), (n2_27, .inr (1, [.ref p_n2_27, .int 0, .int 0])), (p_n2_27, .inl (cO, 6, .inr (.inr (.inr (.inr (fun i => some (qL [s0_n2_27, s1_n2_27, s2_n2_27, s3_n2_27, s4_n2_27, s5_n2_27] i))))))), (s0_n2_27, .inr (2, [.ref r0_n2_27])), (r0_n2_27, .inl (cI, 345, .inl (sF 6))), (s1_n2_27, .inr (2, [.ref r1_n2_27])), (r1_n2_27, .inl (cI, 345, .inl (sF 6))), (s2_n2_27, .inr (2, [.ref r2_n2_27])), (r2_n2_27, .inl (cI, 345, .inl (sF 6))), (s3_n2_27, .inr (2, [.ref r3_n2_27])), (r3_n2_27, .inl (cI, 345, .inl (sF 6))), (s4_n2_27, .inr (2, [.ref r4_n2_27])), (r4_n2_27, .inl (cI, 345, .inl (sF 6))), (s5_n2_27, .inr (2, [.ref r5_n2_27])), (r5_n2_27, .inl (cI, 345, .inl (sF 6)))] H := hP
  have hD : va_D A [(h0, .inr (5, [.ref s_n1_5, .ref n2_27, .ref n1_5, .null, .null])), (n1_5, .inr (4, [.ref s_n1_5, .ref l_n1_5])), (s_n1_5, .inr (2, [.ref r_n1_5])), (r_n1_5, .inl (cI, 345, .inl (sF 6))), (l_n1_5, .inl (cI, 8, .inl (fun _ => 0))), (n2_27, .inr (1, [.ref p_n2_27, .int 0, .int 0])), (p_n2_27, .inl (cO, 6, .inr (.inr (.inr (.inr (fun i => some (qL [s0_n2_27, s1_n2_27, s2_n2_27, s3_n2_27, s4_n2_27, s5_n2_27] i))))))), (s0_n2_27, .inr (2, [.ref r0_n2_27])), (r0_n2_27, .inl (cI, 345, .inl (sF 6))), (s1_n2_27, .inr (2, [.ref r1_n2_27])), (r1_n2_27, .inl (cI, 345, .inl (sF 6))), (s2_n2_27, .inr (2, [.ref r2_n2_27])), (r2_n2_27, .inl (cI, 345, .inl (sF 6))), (s3_n2_27, .inr (2, [.ref r3_n2_27])), (r3_n2_27, .inl (cI, 345, .inl (sF 6))), (s4_n2_27, .inr (2, [.ref r4_n2_27])), (r4_n2_27, .inl (cI, 345, .inl (sF 6))), (s5_n2_27, .inr (2, [.ref r5_n2_27])), (r5_n2_27, .inl (cI, 345, .inl (sF 6)))] := hD
  refine lv_aload_n hx hb dX5_init_37 rfl (lv_at hl 0 rfl) ?_
  refine va_new (D := D) (ci := 3) (fs := [.null, .null, .int 0]) (C := RX3) (T := TX3) (N := 3) hx hb hts iX3 tyX3 tyX3_ok hown (hts (.classLink RX5 30 RX3) (List.mem_of_getElem? (i := 13) rfl)) (hts (.instantiable RX3 3) (List.mem_of_getElem? (i := 14) rfl)) (hts (.initialized RX3) (List.mem_of_getElem? (i := 15) rfl)) hk.1 hP hD hS hA rfl (fun j hj => by rcases (show j = 0 ∨ j = 1 ∨ j = 2 by omega) with rfl | rfl | rfl <;> rfl) (Nat.le_of_ble_eq_true rfl) (Nat.le_of_ble_eq_true rfl) dX5_init_38 (fun n3_38 H hP hD hS => ?_)
  have hP : va_P D vwCl [(h0, .inr (5, [.ref s_n1_5, .ref n2_27, .ref n1_5, .null, .null])), (n1_5, .inr (4, [.ref s_n1_5, .ref l_n1_5])), (s_n1_5, .inr (2, [.ref r_n1_5])), (r_n1_5, .inl (cI, 345, .inl (sF 6))), (l_n1_5, .inl (cI, 8, .inl (fun _ => 0))), (n2_27, .inr (1, [.ref p_n2_27, .int 0, .int 0])), (p_n2_27, .inl (cO, 6, .inr (.inr (.inr (.inr (fun i => some (qL [s0_n2_27, s1_n2_27, s2_n2_27, s3_n2_27, s4_n2_27, s5_n2_27] i))))))), (s0_n2_27, .inr (2, [.ref r0_n2_27])), (r0_n2_27, .inl (cI, 345, .inl (sF 6))), (s1_n2_27, .inr (2, [.ref r1_n2_27])), (r1_n2_27, .inl (cI, 345, .inl (sF 6))), (s2_n2_27, .inr (2, [.ref r2_n2_27])), (r2_n2_27, .inl (cI, 345, .inl (sF 6))), (s3_n2_27, .inr (2, [.ref r3_n2_27])), (r3_n2_27, .inl (cI, 345, .inl (sF 6))), (s4_n2_27, .inr (2, [.ref r4_n2_27])), (r4_n2_27, .inl (cI, 345, .inl (sF 6))), (s5_n2_27, .inr (2, [.ref r5_n2_27])), (r5_n2_27, .inl (cI, 345, .inl (sF 6))), (n3_38, .inr (3, [.null, .null, .int 0]))] H := hP
  have hD : va_D A [(h0, .inr (5, [.ref s_n1_5, .ref n2_27, .ref n1_5, .null, .null])), (n1_5, .inr (4, [.ref s_n1_5, .ref l_n1_5])), (s_n1_5, .inr (2, [.ref r_n1_5])), (r_n1_5, .inl (cI, 345, .inl (sF 6))), (l_n1_5, .inl (cI, 8, .inl (fun _ => 0))), (n2_27, .inr (1, [.ref p_n2_27, .int 0, .int 0])), (p_n2_27, .inl (cO, 6, .inr (.inr (.inr (.inr (fun i => some (qL [s0_n2_27, s1_n2_27, s2_n2_27, s3_n2_27, s4_n2_27, s5_n2_27] i))))))), (s0_n2_27, .inr (2, [.ref r0_n2_27])), (r0_n2_27, .inl (cI, 345, .inl (sF 6))), (s1_n2_27, .inr (2, [.ref r1_n2_27])), (r1_n2_27, .inl (cI, 345, .inl (sF 6))), (s2_n2_27, .inr (2, [.ref r2_n2_27])), (r2_n2_27, .inl (cI, 345, .inl (sF 6))), (s3_n2_27, .inr (2, [.ref r3_n2_27])), (r3_n2_27, .inl (cI, 345, .inl (sF 6))), (s4_n2_27, .inr (2, [.ref r4_n2_27])), (r4_n2_27, .inl (cI, 345, .inl (sF 6))), (s5_n2_27, .inr (2, [.ref r5_n2_27])), (r5_n2_27, .inl (cI, 345, .inl (sF 6))), (n3_38, .inr (3, [.null, .null, .int 0]))] := hD
  refine W.widen (k := 19) (n := 2444) (by omega) (by omega) ?_
  refine lv_dup hx hb dX5_init_41 rfl ?_
  have hPc := hP.sub (ws' := [(n3_38, .inr (3, [.null, .null, .int 0]))]) [19] rfl
  have hFc := va_free (wc := [(n3_38, .inr (3, [.null, .null, .int 0]))]) hD hS hA [19] rfl
  refine va_callv (va_runIN (As := []) (rest := [.ref n3_38, .ref h0]) ⟨hx, hb, hml, hown, hts⟩ (C3_init l D cI cO n3_38 H hPc) ⟨va_cnB 0 hts gX5_init_X3_init_n32 rfl rfl rfl (hk.2 (.methodLinkNest RX5 32 yX3_init RX5) (List.mem_of_getElem? (i := 5) rfl)) (hts (.initialized RX3) (List.mem_of_getElem? (i := 15) rfl)) bd_X3init ⟨Nat.le_of_ble_eq_true rfl, Nat.le_of_ble_eq_true rfl⟩, rfl, (hts (.instanceMethod yX3_init) (List.mem_of_getElem? (i := 50) rfl))⟩ (bPS hk) rfl rfl hl.1 rfl (lv_room (Nat.le_of_ble_eq_true rfl)) dX5_init_42 ⟨Nat.le_of_ble_eq_true rfl, Nat.le_of_ble_eq_true rfl⟩) hS (fun q _ h => hFc q h) hFc (fun u9 t H1 locs ht _ _ hB _ hk1 hS => ?_)
  obtain ⟨t_n3_38, o_n3_38, hP1, hD1⟩ := hB
  rw [ht] at hP1
  obtain ⟨hP, hD⟩ := va_join (wr := [(h0, .inr (5, [.ref s_n1_5, .ref n2_27, .ref n1_5, .null, .null])), (n1_5, .inr (4, [.ref s_n1_5, .ref l_n1_5])), (s_n1_5, .inr (2, [.ref r_n1_5])), (r_n1_5, .inl (cI, 345, .inl (sF 6))), (l_n1_5, .inl (cI, 8, .inl (fun _ => 0))), (n2_27, .inr (1, [.ref p_n2_27, .int 0, .int 0])), (p_n2_27, .inl (cO, 6, .inr (.inr (.inr (.inr (fun i => some (qL [s0_n2_27, s1_n2_27, s2_n2_27, s3_n2_27, s4_n2_27, s5_n2_27] i))))))), (s0_n2_27, .inr (2, [.ref r0_n2_27])), (r0_n2_27, .inl (cI, 345, .inl (sF 6))), (s1_n2_27, .inr (2, [.ref r1_n2_27])), (r1_n2_27, .inl (cI, 345, .inl (sF 6))), (s2_n2_27, .inr (2, [.ref r2_n2_27])), (r2_n2_27, .inl (cI, 345, .inl (sF 6))), (s3_n2_27, .inr (2, [.ref r3_n2_27])), (r3_n2_27, .inl (cI, 345, .inl (sF 6))), (s4_n2_27, .inr (2, [.ref r4_n2_27])), (r4_n2_27, .inl (cI, 345, .inl (sF 6))), (s5_n2_27, .inr (2, [.ref r5_n2_27])), (r5_n2_27, .inl (cI, 345, .inl (sF 6)))]) (w1 := [(n3_38, .inr (3, [.ref t_n3_38, .ref o_n3_38, .int 0])), (t_n3_38, .inl (cI, 60, .inl (fun _ => 0))), (o_n3_38, .inr (0, [.int 0, .int 0, .int 0, .int 0, .int 0]))]) hP hD [19] [0, 1, 2, 3, 4, 5, 6, 7, 8, 9, 10, 11, 12, 13, 14, 15, 16, 17, 18] rfl rfl (by decide) (by decide) hk1 hFc hP1 hD1
  clear hk1 hFc hP1 hD1 hPc
  subst ht
  generalize t.heap = H at hP hS ⊢
  have hP : va_P D vwCl [(h0, .inr (5, [.ref s_n1_5, .ref n2_27, .ref n1_5, .null, .null])), (n1_5, .inr (4, [.ref s_n1_5, .ref l_n1_5])), (s_n1_5, .inr (2, [.ref r_n1_5])), (r_n1_5, .inl (cI, 345, .inl (sF 6))), (l_n1_5, .inl (cI, 8, .inl (fun _ => 0))), (n2_27, .inr (1, [.ref p_n2_27, .int 0, .int 0])), (p_n2_27, .inl (cO, 6, .inr (.inr (.inr (.inr (fun i => some (qL [s0_n2_27, s1_n2_27, s2_n2_27, s3_n2_27, s4_n2_27, s5_n2_27] i))))))), (s0_n2_27, .inr (2, [.ref r0_n2_27])), (r0_n2_27, .inl (cI, 345, .inl (sF 6))), (s1_n2_27, .inr (2, [.ref r1_n2_27])), (r1_n2_27, .inl (cI, 345, .inl (sF 6))), (s2_n2_27, .inr (2, [.ref r2_n2_27])), (r2_n2_27, .inl (cI, 345, .inl (sF 6))), (s3_n2_27, .inr (2, [.ref r3_n2_27])), (r3_n2_27, .inl (cI, 345, .inl (sF 6))), (s4_n2_27, .inr (2, [.ref r4_n2_27])), (r4_n2_27, .inl (cI, 345, .inl (sF 6))), (s5_n2_27, .inr (2, [.ref r5_n2_27])), (r5_n2_27, .inl (cI, 345, .inl (sF 6))), (n3_38, .inr (3, [.ref t_n3_38, .ref o_n3_38, .int 0])), (t_n3_38, .inl (cI, 60, .inl (fun _ => 0))), (o_n3_38, .inr (0, [.int 0, .int 0, .int 0, .int 0, .int 0]))] H := hP
  have hD : va_D A [(h0, .inr (5, [.ref s_n1_5, .ref n2_27, .ref n1_5, .null, .null])), (n1_5, .inr (4, [.ref s_n1_5, .ref l_n1_5])), (s_n1_5, .inr (2, [.ref r_n1_5])), (r_n1_5, .inl (cI, 345, .inl (sF 6))), (l_n1_5, .inl (cI, 8, .inl (fun _ => 0))), (n2_27, .inr (1, [.ref p_n2_27, .int 0, .int 0])), (p_n2_27, .inl (cO, 6, .inr (.inr (.inr (.inr (fun i => some (qL [s0_n2_27, s1_n2_27, s2_n2_27, s3_n2_27, s4_n2_27, s5_n2_27] i))))))), (s0_n2_27, .inr (2, [.ref r0_n2_27])), (r0_n2_27, .inl (cI, 345, .inl (sF 6))), (s1_n2_27, .inr (2, [.ref r1_n2_27])), (r1_n2_27, .inl (cI, 345, .inl (sF 6))), (s2_n2_27, .inr (2, [.ref r2_n2_27])), (r2_n2_27, .inl (cI, 345, .inl (sF 6))), (s3_n2_27, .inr (2, [.ref r3_n2_27])), (r3_n2_27, .inl (cI, 345, .inl (sF 6))), (s4_n2_27, .inr (2, [.ref r4_n2_27])), (r4_n2_27, .inl (cI, 345, .inl (sF 6))), (s5_n2_27, .inr (2, [.ref r5_n2_27])), (r5_n2_27, .inl (cI, 345, .inl (sF 6))), (n3_38, .inr (3, [.ref t_n3_38, .ref o_n3_38, .int 0])), (t_n3_38, .inl (cI, 60, .inl (fun _ => 0))), (o_n3_38, .inr (0, [.int 0, .int 0, .int 0, .int 0, .int 0]))] := hD
  refine W.widen (k := 21) (n := 2509) (by omega) (by omega) ?_
  refine va_putF (D := D) (ci := 5) (v := .ref n3_38) (ty := .object "BottleLoop$Text") (C := RX5) (T := TX5) (N := 5) hx hb hts iX5 tyX5 tyX5_ok nmX5 hown hk.1 hP hD hS 0 rfl rfl 3 (by decide) (hts (.fieldLink RX5 33 "BottleLoop" "text" "LBottleLoop$Text;") (List.mem_of_getElem? (i := 16) rfl)) (fun _ h9 => h9) rfl hin rfl (by decide +kernel) rfl rfl (Nat.le_of_ble_eq_true rfl) dX5_init_45 (fun H locs hP hD hS => ?_)
  have hP : va_P D vwCl [(h0, .inr (5, [.ref s_n1_5, .ref n2_27, .ref n1_5, .ref n3_38, .null])), (n1_5, .inr (4, [.ref s_n1_5, .ref l_n1_5])), (s_n1_5, .inr (2, [.ref r_n1_5])), (r_n1_5, .inl (cI, 345, .inl (sF 6))), (l_n1_5, .inl (cI, 8, .inl (fun _ => 0))), (n2_27, .inr (1, [.ref p_n2_27, .int 0, .int 0])), (p_n2_27, .inl (cO, 6, .inr (.inr (.inr (.inr (fun i => some (qL [s0_n2_27, s1_n2_27, s2_n2_27, s3_n2_27, s4_n2_27, s5_n2_27] i))))))), (s0_n2_27, .inr (2, [.ref r0_n2_27])), (r0_n2_27, .inl (cI, 345, .inl (sF 6))), (s1_n2_27, .inr (2, [.ref r1_n2_27])), (r1_n2_27, .inl (cI, 345, .inl (sF 6))), (s2_n2_27, .inr (2, [.ref r2_n2_27])), (r2_n2_27, .inl (cI, 345, .inl (sF 6))), (s3_n2_27, .inr (2, [.ref r3_n2_27])), (r3_n2_27, .inl (cI, 345, .inl (sF 6))), (s4_n2_27, .inr (2, [.ref r4_n2_27])), (r4_n2_27, .inl (cI, 345, .inl (sF 6))), (s5_n2_27, .inr (2, [.ref r5_n2_27])), (r5_n2_27, .inl (cI, 345, .inl (sF 6))), (n3_38, .inr (3, [.ref t_n3_38, .ref o_n3_38, .int 0])), (t_n3_38, .inl (cI, 60, .inl (fun _ => 0))), (o_n3_38, .inr (0, [.int 0, .int 0, .int 0, .int 0, .int 0]))] H := hP
  have hD : va_D A [(h0, .inr (5, [.ref s_n1_5, .ref n2_27, .ref n1_5, .ref n3_38, .null])), (n1_5, .inr (4, [.ref s_n1_5, .ref l_n1_5])), (s_n1_5, .inr (2, [.ref r_n1_5])), (r_n1_5, .inl (cI, 345, .inl (sF 6))), (l_n1_5, .inl (cI, 8, .inl (fun _ => 0))), (n2_27, .inr (1, [.ref p_n2_27, .int 0, .int 0])), (p_n2_27, .inl (cO, 6, .inr (.inr (.inr (.inr (fun i => some (qL [s0_n2_27, s1_n2_27, s2_n2_27, s3_n2_27, s4_n2_27, s5_n2_27] i))))))), (s0_n2_27, .inr (2, [.ref r0_n2_27])), (r0_n2_27, .inl (cI, 345, .inl (sF 6))), (s1_n2_27, .inr (2, [.ref r1_n2_27])), (r1_n2_27, .inl (cI, 345, .inl (sF 6))), (s2_n2_27, .inr (2, [.ref r2_n2_27])), (r2_n2_27, .inl (cI, 345, .inl (sF 6))), (s3_n2_27, .inr (2, [.ref r3_n2_27])), (r3_n2_27, .inl (cI, 345, .inl (sF 6))), (s4_n2_27, .inr (2, [.ref r4_n2_27])), (r4_n2_27, .inl (cI, 345, .inl (sF 6))), (s5_n2_27, .inr (2, [.ref r5_n2_27])), (r5_n2_27, .inl (cI, 345, .inl (sF 6))), (n3_38, .inr (3, [.ref t_n3_38, .ref o_n3_38, .int 0])), (t_n3_38, .inl (cI, 60, .inl (fun _ => 0))), (o_n3_38, .inr (0, [.int 0, .int 0, .int 0, .int 0, .int 0]))] := hD
  refine lv_aload_n hx hb dX5_init_48 rfl (lv_at hl 0 rfl) ?_
  refine va_new (D := D) (ci := 0) (fs := [.int 0, .int 0, .int 0, .int 0, .int 0]) (C := RX0) (T := TX0) (N := 5) hx hb hts iX0 tyX0 tyX0_ok hown (hts (.classLink RX5 37 RX0) (List.mem_of_getElem? (i := 17) rfl)) (hts (.instantiable RX0 5) (List.mem_of_getElem? (i := 18) rfl)) (hts (.initialized RX0) (List.mem_of_getElem? (i := 19) rfl)) hk.1 hP hD hS hA rfl (fun j hj => by rcases (show j = 0 ∨ j = 1 ∨ j = 2 ∨ j = 3 ∨ j = 4 by omega) with rfl | rfl | rfl | rfl | rfl <;> rfl) (Nat.le_of_ble_eq_true rfl) (Nat.le_of_ble_eq_true rfl) dX5_init_49 (fun n4_49 H hP hD hS => ?_)
  have hP : va_P D vwCl [(h0, .inr (5, [.ref s_n1_5, .ref n2_27, .ref n1_5, .ref n3_38, .null])), (n1_5, .inr (4, [.ref s_n1_5, .ref l_n1_5])), (s_n1_5, .inr (2, [.ref r_n1_5])), (r_n1_5, .inl (cI, 345, .inl (sF 6))), (l_n1_5, .inl (cI, 8, .inl (fun _ => 0))), (n2_27, .inr (1, [.ref p_n2_27, .int 0, .int 0])), (p_n2_27, .inl (cO, 6, .inr (.inr (.inr (.inr (fun i => some (qL [s0_n2_27, s1_n2_27, s2_n2_27, s3_n2_27, s4_n2_27, s5_n2_27] i))))))), (s0_n2_27, .inr (2, [.ref r0_n2_27])), (r0_n2_27, .inl (cI, 345, .inl (sF 6))), (s1_n2_27, .inr (2, [.ref r1_n2_27])), (r1_n2_27, .inl (cI, 345, .inl (sF 6))), (s2_n2_27, .inr (2, [.ref r2_n2_27])), (r2_n2_27, .inl (cI, 345, .inl (sF 6))), (s3_n2_27, .inr (2, [.ref r3_n2_27])), (r3_n2_27, .inl (cI, 345, .inl (sF 6))), (s4_n2_27, .inr (2, [.ref r4_n2_27])), (r4_n2_27, .inl (cI, 345, .inl (sF 6))), (s5_n2_27, .inr (2, [.ref r5_n2_27])), (r5_n2_27, .inl (cI, 345, .inl (sF 6))), (n3_38, .inr (3, [.ref t_n3_38, .ref o_n3_38, .int 0])), (t_n3_38, .inl (cI, 60, .inl (fun _ => 0))), (o_n3_38, .inr (0, [.int 0, .int 0, .int 0, .int 0, .int 0])), (n4_49, .inr (0, [.int 0, .int 0, .int 0, .int 0, .int 0]))] H := hP
  have hD : va_D A [(h0, .inr (5, [.ref s_n1_5, .ref n2_27, .ref n1_5, .ref n3_38, .null])), (n1_5, .inr (4, [.ref s_n1_5, .ref l_n1_5])), (s_n1_5, .inr (2, [.ref r_n1_5])), (r_n1_5, .inl (cI, 345, .inl (sF 6))), (l_n1_5, .inl (cI, 8, .inl (fun _ => 0))), (n2_27, .inr (1, [.ref p_n2_27, .int 0, .int 0])), (p_n2_27, .inl (cO, 6, .inr (.inr (.inr (.inr (fun i => some (qL [s0_n2_27, s1_n2_27, s2_n2_27, s3_n2_27, s4_n2_27, s5_n2_27] i))))))), (s0_n2_27, .inr (2, [.ref r0_n2_27])), (r0_n2_27, .inl (cI, 345, .inl (sF 6))), (s1_n2_27, .inr (2, [.ref r1_n2_27])), (r1_n2_27, .inl (cI, 345, .inl (sF 6))), (s2_n2_27, .inr (2, [.ref r2_n2_27])), (r2_n2_27, .inl (cI, 345, .inl (sF 6))), (s3_n2_27, .inr (2, [.ref r3_n2_27])), (r3_n2_27, .inl (cI, 345, .inl (sF 6))), (s4_n2_27, .inr (2, [.ref r4_n2_27])), (r4_n2_27, .inl (cI, 345, .inl (sF 6))), (s5_n2_27, .inr (2, [.ref r5_n2_27])), (r5_n2_27, .inl (cI, 345, .inl (sF 6))), (n3_38, .inr (3, [.ref t_n3_38, .ref o_n3_38, .int 0])), (t_n3_38, .inl (cI, 60, .inl (fun _ => 0))), (o_n3_38, .inr (0, [.int 0, .int 0, .int 0, .int 0, .int 0])), (n4_49, .inr (0, [.int 0, .int 0, .int 0, .int 0, .int 0]))] := hD
  refine W.widen (k := 22) (n := 2514) (by omega) (by omega) ?_
  refine lv_dup hx hb dX5_init_52 rfl ?_
  refine bcall_Rv (va_runIN (As := []) (rest := [.ref n4_49, .ref h0]) ⟨hx, hb, hml, hown, hts⟩ (C0_init l D cI cO n4_49 H) ⟨va_cnB 0 hts gX5_init_X0_init_n39 rfl rfl rfl (hk.2 (.methodLinkNest RX5 39 yX0_init RX5) (List.mem_of_getElem? (i := 7) rfl)) (hts (.initialized RX0) (List.mem_of_getElem? (i := 19) rfl)) bd_X0init ⟨Nat.le_of_ble_eq_true rfl, Nat.le_of_ble_eq_true rfl⟩, rfl, (hts (.instanceMethod yX0_init) (List.mem_of_getElem? (i := 56) rfl))⟩ (bPS hk) rfl rfl hl.1 rfl (lv_room (Nat.le_of_ble_eq_true rfl)) dX5_init_53 ⟨Nat.le_of_ble_eq_true rfl, Nat.le_of_ble_eq_true rfl⟩) hS (fun locs hS => ?_)
  refine va_putF (D := D) (ci := 5) (v := .ref n4_49) (ty := .object "BottleLoop$Order") (C := RX5) (T := TX5) (N := 5) hx hb hts iX5 tyX5 tyX5_ok nmX5 hown hk.1 hP hD hS 0 rfl rfl 4 (by decide) (hts (.fieldLink RX5 40 "BottleLoop" "order" "LBottleLoop$Order;") (List.mem_of_getElem? (i := 20) rfl)) (fun _ h9 => h9) rfl hin rfl (by decide +kernel) rfl rfl (Nat.le_of_ble_eq_true rfl) dX5_init_56 (fun H locs hP hD hS => ?_)
  have hP : va_P D vwCl [(h0, .inr (5, [.ref s_n1_5, .ref n2_27, .ref n1_5, .ref n3_38, .ref n4_49])), (n1_5, .inr (4, [.ref s_n1_5, .ref l_n1_5])), (s_n1_5, .inr (2, [.ref r_n1_5])), (r_n1_5, .inl (cI, 345, .inl (sF 6))), (l_n1_5, .inl (cI, 8, .inl (fun _ => 0))), (n2_27, .inr (1, [.ref p_n2_27, .int 0, .int 0])), (p_n2_27, .inl (cO, 6, .inr (.inr (.inr (.inr (fun i => some (qL [s0_n2_27, s1_n2_27, s2_n2_27, s3_n2_27, s4_n2_27, s5_n2_27] i))))))), (s0_n2_27, .inr (2, [.ref r0_n2_27])), (r0_n2_27, .inl (cI, 345, .inl (sF 6))), (s1_n2_27, .inr (2, [.ref r1_n2_27])), (r1_n2_27, .inl (cI, 345, .inl (sF 6))), (s2_n2_27, .inr (2, [.ref r2_n2_27])), (r2_n2_27, .inl (cI, 345, .inl (sF 6))), (s3_n2_27, .inr (2, [.ref r3_n2_27])), (r3_n2_27, .inl (cI, 345, .inl (sF 6))), (s4_n2_27, .inr (2, [.ref r4_n2_27])), (r4_n2_27, .inl (cI, 345, .inl (sF 6))), (s5_n2_27, .inr (2, [.ref r5_n2_27])), (r5_n2_27, .inl (cI, 345, .inl (sF 6))), (n3_38, .inr (3, [.ref t_n3_38, .ref o_n3_38, .int 0])), (t_n3_38, .inl (cI, 60, .inl (fun _ => 0))), (o_n3_38, .inr (0, [.int 0, .int 0, .int 0, .int 0, .int 0])), (n4_49, .inr (0, [.int 0, .int 0, .int 0, .int 0, .int 0]))] H := hP
  have hD : va_D A [(h0, .inr (5, [.ref s_n1_5, .ref n2_27, .ref n1_5, .ref n3_38, .ref n4_49])), (n1_5, .inr (4, [.ref s_n1_5, .ref l_n1_5])), (s_n1_5, .inr (2, [.ref r_n1_5])), (r_n1_5, .inl (cI, 345, .inl (sF 6))), (l_n1_5, .inl (cI, 8, .inl (fun _ => 0))), (n2_27, .inr (1, [.ref p_n2_27, .int 0, .int 0])), (p_n2_27, .inl (cO, 6, .inr (.inr (.inr (.inr (fun i => some (qL [s0_n2_27, s1_n2_27, s2_n2_27, s3_n2_27, s4_n2_27, s5_n2_27] i))))))), (s0_n2_27, .inr (2, [.ref r0_n2_27])), (r0_n2_27, .inl (cI, 345, .inl (sF 6))), (s1_n2_27, .inr (2, [.ref r1_n2_27])), (r1_n2_27, .inl (cI, 345, .inl (sF 6))), (s2_n2_27, .inr (2, [.ref r2_n2_27])), (r2_n2_27, .inl (cI, 345, .inl (sF 6))), (s3_n2_27, .inr (2, [.ref r3_n2_27])), (r3_n2_27, .inl (cI, 345, .inl (sF 6))), (s4_n2_27, .inr (2, [.ref r4_n2_27])), (r4_n2_27, .inl (cI, 345, .inl (sF 6))), (s5_n2_27, .inr (2, [.ref r5_n2_27])), (r5_n2_27, .inl (cI, 345, .inl (sF 6))), (n3_38, .inr (3, [.ref t_n3_38, .ref o_n3_38, .int 0])), (t_n3_38, .inl (cI, 60, .inl (fun _ => 0))), (o_n3_38, .inr (0, [.int 0, .int 0, .int 0, .int 0, .int 0])), (n4_49, .inr (0, [.int 0, .int 0, .int 0, .int 0, .int 0]))] := hD
  have hP := va_refs (k := 6) (g := fun i => some ((qL [h0, n1_5, l_n1_5, s_n1_5, r_n1_5, n2_27, p_n2_27, s0_n2_27, s1_n2_27, s2_n2_27, s3_n2_27, s4_n2_27, s5_n2_27, r0_n2_27, r1_n2_27, r2_n2_27, r3_n2_27, r4_n2_27, r5_n2_27, n3_38, t_n3_38, o_n3_38, n4_49]) (7 + i))) hP rfl (fun j hj => by rcases (show j = 0 ∨ j = 1 ∨ j = 2 ∨ j = 3 ∨ j = 4 ∨ j = 5 by omega) with rfl | rfl | rfl | rfl | rfl | rfl <;> rfl)
  have hD := hD.set (p := 6) (e := .inl (cO, 6, .inr (.inr (.inr (.inr (fun i => some ((qL [h0, n1_5, l_n1_5, s_n1_5, r_n1_5, n2_27, p_n2_27, s0_n2_27, s1_n2_27, s2_n2_27, s3_n2_27, s4_n2_27, s5_n2_27, r0_n2_27, r1_n2_27, r2_n2_27, r3_n2_27, r4_n2_27, r5_n2_27, n3_38, t_n3_38, o_n3_38, n4_49]) (7 + i)))))))) rfl
  have hP := hP.sub (ws' := wC cI cO (qL [h0, n1_5, l_n1_5, s_n1_5, r_n1_5, n2_27, p_n2_27, s0_n2_27, s1_n2_27, s2_n2_27, s3_n2_27, s4_n2_27, s5_n2_27, r0_n2_27, r1_n2_27, r2_n2_27, r3_n2_27, r4_n2_27, r5_n2_27, n3_38, t_n3_38, o_n3_38, n4_49]) uC0) [0, 1, 4, 2, 3, 5, 6, 7, 9, 11, 13, 15, 17, 8, 10, 12, 14, 16, 18, 19, 20, 21, 22] rfl
  have hD := hD.sub (ws' := wC cI cO (qL [h0, n1_5, l_n1_5, s_n1_5, r_n1_5, n2_27, p_n2_27, s0_n2_27, s1_n2_27, s2_n2_27, s3_n2_27, s4_n2_27, s5_n2_27, r0_n2_27, r1_n2_27, r2_n2_27, r3_n2_27, r4_n2_27, r5_n2_27, n3_38, t_n3_38, o_n3_38, n4_49]) uC0) [0, 1, 4, 2, 3, 5, 6, 7, 9, 11, 13, 15, 17, 8, 10, 12, 14, 16, 18, 19, 20, 21, 22] (by decide) rfl
  refine W.widen (k := 22) (n := 2514) (by omega) (by omega) ?_
  exact W.vret hx hb hr (fun t ht hW => ⟨⟨(), rfl, trivial, (qL [h0, n1_5, l_n1_5, s_n1_5, r_n1_5, n2_27, p_n2_27, s0_n2_27, s1_n2_27, s2_n2_27, s3_n2_27, s4_n2_27, s5_n2_27, r0_n2_27, r1_n2_27, r2_n2_27, r3_n2_27, r4_n2_27, r5_n2_27, n3_38, t_n3_38, o_n3_38, n4_49]), rfl, by rw [ht]; exact hP, hD⟩, hS.F ht⟩) hS.2.2 dX5_init_59

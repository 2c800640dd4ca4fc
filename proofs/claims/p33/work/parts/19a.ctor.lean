-- constructors: the small world of a State, Order(), State() (own text, part by program)
def wS (cI : ClassId) (q : Nat → Nat) (u : bU) : va_W := [(q 0, .inr (2, [.ref (q 1)])), (q 1, .inl (cI, 345, .inl (u 0)))]
theorem wS_addr (cI : ClassId) (q : Nat → Nat) (u : bU) : (wS cI q u).map Prod.fst = (List.range 2).map q := rfl
theorem wS_D {cI : ClassId} {q : Nat → Nat} {u : bU} {sz : Nat} (hq : bInj 2 q) : va_D (bA 2 q sz) (wS cI q u) := bD_of (wS_addr cI q u) hq
theorem wS_0 (cI : ClassId) (q : Nat → Nat) (u : bU) : (wS cI q u)[0]? = some (q 0, .inr (2, [.ref (q 1)])) := rfl
theorem wS_1 (cI : ClassId) (q : Nat → Nat) (u : bU) : (wS cI q u)[1]? = some (q 1, .inl (cI, 345, .inl (u 0))) := rfl
def F2_putS (u : bU) (a1 : Int32) (a2 : Int32) : bU := (if a1 < 0 then u else (if (345 : Int32) ≤ a1 then u else (bput u 0 a1.toNatClampNeg a2)))
set_option maxHeartbeats 4000000 in
set_option maxRecDepth 100000 in
theorem C2_putS (l : Launch) (D : va_G) (cI cO : ClassId) (q : Nat → Nat) (u : bU) (H0 : Heap) (hq : bInj 2 q) (hP : va_P D vwCl (wS cI q u) H0) (a1 : Int32) (a2 : Int32) : Met l yX2_put wsX2_put ({ frames := 0, cells := 0, slots := 0, locals := 0 }) (bP D [(cI, .int), (cO, .object RX2)] H0 [.ref (q 0), .int a1, .int a2]) (bWv D (wS cI q) bT (bA 2 q H0.size) (F2_putS u a1 a2)) 0 0 (bA 2 q H0.size) := by
  refine Met.ofW (cc := cX2_put) (maxL := 3) (ret := none) (by decide) rfl ?_
  intro p e s m args below meth c s₁ B hml hv
  obtain ⟨rfl, hH, hk⟩ := hv
  subst hH
  have hx := B.exec
  have hb := B.bytes
  have hr := B.returns
  have hts := atoms_spec (ws := wsX2_put) B.pre
  have hown : s.vm.findClass RX2 = some m.cls := findClass_of_methodNamed B.named
  have hlocks := B.notSynchronized
  have iX2 : ∀ w ∈ wsX20, w ∈ wsX2_put := by decide +kernel
  have hS : va_S (bA 2 q s.heap.size) s.heap s.heap [] := va_S.rf
  have hl := lv_entry ([.ref (q 0), .int a1, .int a2]) (n := 3) (Nat.le_of_ble_eq_true rfl)
  rw [lg_entry_eq]
  generalize (lg_sl ([.ref (q 0), .int a1, .int a2]) ++ List.replicate (3 - (lg_sl ([.ref (q 0), .int a1, .int a2])).length) Slot.unset).toArray = ls at hl ⊢
  have hl : lv_has ls 3 [(0, .ref (q 0)), (1, .int a1), (2, .int a2)] := hl
  generalize hF : F2_putS u a1 a2 = tgt
  refine lv_iload_n hx hb dX2_put_0 rfl (lv_at hl 1 rfl) ?_
  refine lv_if_lt (tgt := 20) hx hb dX2_put_1 (by decide) (fun c_1 => ?_) (fun c_1 => ?_)
  · exact bret_Wv hx hb hr hP trivial hS hlocks dX2_put_20 (by rw [← hF, F2_putS, if_pos c_1])
  · refine lv_iload_n hx hb dX2_put_4 rfl (lv_at hl 1 rfl) ?_
    refine lv_aload_n hx hb dX2_put_5 rfl (lv_at hl 0 rfl) ?_
    refine va_get (D := D) (ci := 2) (C := RX2) (T := TX2) (N := 1) hx hb hts iX2 hown hk.1 hP 0 (wS_0 _ _ _) rfl 0 (by decide) (hts (.fieldLink RX2 11 "BottleLoop$State" "cells" "[I") (List.mem_of_getElem? (i := 1) rfl)) (fun _ h9 => h9) rfl dX2_put_6 ?_
    refine va_alen (v := 345) hx hb hk.1 hP 1 0 (wS_1 _ _ _) rfl rfl dX2_put_9 ?_
    refine lv_icmp_ge (tgt := 20) hx hb dX2_put_10 (by decide) (fun c_2 => ?_) (fun c_2 => ?_)
    · exact bret_Wv hx hb hr hP trivial hS hlocks dX2_put_20 (by rw [← hF, F2_putS, if_neg c_1, if_pos c_2])
    · refine lv_aload_n hx hb dX2_put_13 rfl (lv_at hl 0 rfl) ?_
      refine va_get (D := D) (ci := 2) (C := RX2) (T := TX2) (N := 1) hx hb hts iX2 hown hk.1 hP 0 (wS_0 _ _ _) rfl 0 (by decide) (hts (.fieldLink RX2 11 "BottleLoop$State" "cells" "[I") (List.mem_of_getElem? (i := 1) rfl)) (fun _ h9 => h9) rfl dX2_put_14 ?_
      refine lv_iload_n hx hb dX2_put_17 rfl (lv_at hl 1 rfl) ?_
      refine lv_iload_n hx hb dX2_put_18 rfl (lv_at hl 2 rfl) ?_
      refine va_iast hx hb hk.1 hP (wS_D hq) hS 1 0 (wS_1 _ _ _) rfl (bIn c_1 c_2 (by decide)) dX2_put_19 (fun H locs hP _ hS => ?_)
      have hP : va_P D vwCl (wS cI q (bput u 0 a1.toNatClampNeg a2)) H := hP
      exact bret_Wv hx hb hr hP trivial hS hlocks dX2_put_20 (by rw [← hF, F2_putS, if_neg c_1, if_neg c_2])
def F2_putSettingS (u : bU) (a1 : Int32) (a2 : Int32) : bU := (F2_putS u (11 + a1) a2)
set_option maxHeartbeats 4000000 in
set_option maxRecDepth 100000 in
theorem C2_putSettingS (l : Launch) (D : va_G) (cI cO : ClassId) (q : Nat → Nat) (u : bU) (H0 : Heap) (hq : bInj 2 q) (hP : va_P D vwCl (wS cI q u) H0) (a1 : Int32) (a2 : Int32) : Met l yX2_putSetting wsX2_putSetting ({ frames := 1, cells := 0, slots := 0, locals := 22 }) (bP D [(cI, .int), (cO, .object RX2)] H0 [.ref (q 0), .int a1, .int a2]) (bWv D (wS cI q) bT (bA 2 q H0.size) (F2_putSettingS u a1 a2)) 0 0 (bA 2 q H0.size) := by
  refine Met.ofW (cc := cX2_putSetting) (maxL := 3) (ret := none) (by decide) rfl ?_
  intro p e s m args below meth c s₁ B hml hv
  obtain ⟨rfl, hH, hk⟩ := hv
  subst hH
  have hx := B.exec
  have hb := B.bytes
  have hr := B.returns
  have hts := atoms_spec (ws := wsX2_putSetting) B.pre
  have hown : s.vm.findClass RX2 = some m.cls := findClass_of_methodNamed B.named
  have hlocks := B.notSynchronized
  have hS : va_S (bA 2 q s.heap.size) s.heap s.heap [] := va_S.rf
  have hl := lv_entry ([.ref (q 0), .int a1, .int a2]) (n := 3) (Nat.le_of_ble_eq_true rfl)
  rw [lg_entry_eq]
  generalize (lg_sl ([.ref (q 0), .int a1, .int a2]) ++ List.replicate (3 - (lg_sl ([.ref (q 0), .int a1, .int a2])).length) Slot.unset).toArray = ls at hl ⊢
  have hl : lv_has ls 3 [(0, .ref (q 0)), (1, .int a1), (2, .int a2)] := hl
  generalize hF : F2_putSettingS u a1 a2 = tgt
  refine lv_aload_n hx hb dX2_putSetting_0 rfl (lv_at hl 0 rfl) ?_
  refine lv_bipush (v := 11) hx hb dX2_putSetting_1 (by decide) ?_
  refine lv_iload_n hx hb dX2_putSetting_3 rfl (lv_at hl 1 rfl) ?_
  refine lv_iadd hx hb dX2_putSetting_4 ?_
  refine lv_iload_n hx hb dX2_putSetting_5 rfl (lv_at hl 2 rfl) ?_
  refine bcall_Wv (va_runV (As := [.int (11 + a1), .int a2]) (rest := []) ⟨hx, hb, hml, hown, hts⟩ (C2_putS l D cI cO q _ _ hq hP (11 + a1) a2) (cwV 2 hts gX2_putSetting_X2_put rfl rfl rfl ⟨rfl, bd_X2put⟩ ⟨Nat.le_of_ble_eq_true rfl, Nat.le_of_ble_eq_true rfl⟩) (bPV hk (va_recv hk.1 hP (ci := 2) (q0 := 0) rfl (wS_0 _ _ _))) rfl rfl hl.1 rfl (lv_room (Nat.le_of_ble_eq_true rfl)) dX2_putSetting_6 ⟨Nat.zero_le _, Nat.zero_le _⟩) hS (fun H locs hP _ hS => ?_)
  exact bret_Wv hx hb hr hP trivial hS hlocks dX2_putSetting_9 (by rw [← hF, F2_putSettingS])
abbrev bPF (D : va_G) (cI cO : ClassId) (A : Nat → Prop) (H0 : Heap) (av : List Value) : Array Value → State → Prop := va_Pc av (fun U => U.heap = H0 ∧ bK D [(cI, .int), (cO, .object RX2)] U ∧ bTb "FIRST_SETTING" tFirst A U H0 ∧ va_AO RX2 U)
theorem bPSF {s : State} {H0 H : Heap} {As : List Value} {D : va_G} {cI cO : ClassId} {A B : Nat → Prop} {locs : List Loc} (hk : bK D [(cI, .int), (cO, .object RX2)] s) (hT : bTb "FIRST_SETTING" tFirst A s H0) (hO : va_AO RX2 s) (hS : va_S A H0 H locs) (hAB : ∀ q, B q → A q) : PreS s H (bPF D cI cO B H As) As :=
  ⟨fun a U g mk q => ⟨q.1, q.2.1, q.2.2.1.calling, bTb.moved (u := U) (U := U.calling g mk a) (Vm.Alike.refl U.vm) q.2.2.2.1, va_AO.moved (u := U) (U := U.calling g mk a) (Vm.Alike.refl U.vm) q.2.2.2.2⟩, fun U hU hW => ⟨rfl, hU, hk.warm hW, bTb.moved hW.alike (hT.kept hS.2.1 hAB), va_AO.moved hW.alike hO⟩⟩
theorem ty_I {D : va_G} {cI cA : ClassId} {tys : List (ClassId × FieldType)} {k : Nat} {s : State} (h : va_K D vwCl tys s) (h2 : va_K D vwCl (tys ++ [(cA, .int)]) s) (e : tys[k]? = some (cI, .int)) : cA = cI := by
  have a : s.vm.findClass ("[" ++ FieldType.int.toString) = some cI := (h.2 k _ e).2
  have b : s.vm.findClass ("[" ++ FieldType.int.toString) = some cA := (h2.2 tys.length (cA, .int) (by rw [List.getElem?_append_right (Nat.le_refl _), Nat.sub_self]; rfl)).2
  exact Option.some.inj (b.symm.trans a)
theorem ty_O {D : va_G} {cO cA : ClassId} {tys : List (ClassId × FieldType)} {k : Nat} {s : State} {C : String} (h : va_K D vwCl tys s) (h2 : va_K D vwCl (tys ++ [(cA, .object C)]) s) (e : tys[k]? = some (cO, .object C)) : cA = cO := by
  obtain ⟨_, _, _, _, _, a⟩ := (h.2 k _ e).2
  obtain ⟨_, _, _, _, _, b⟩ := (h2.2 tys.length (cA, .object C) (by rw [List.getElem?_append_right (Nat.le_refl _), Nat.sub_self]; rfl)).2
  exact Option.some.inj (b.symm.trans a)
def qL (l : List Nat) : Nat → Nat := fun k => l.getD k 0
set_option maxHeartbeats 4000000 in
set_option maxRecDepth 100000 in
theorem C0_init (l : Launch) (D : va_G) (cI cO : ClassId) (h0 : Nat) (H0 : Heap) : Met l yX0_init wsX0_init ({ frames := 1, cells := 0, slots := 0, locals := 12 }) (bP D [(cI, .int), (cO, .object RX2)] H0 [.ref h0]) (bRv H0) 0 0 (fun _ => False) := by
  refine Met.ofW (cc := cX0_init) (maxL := 1) (ret := none) (by decide) rfl ?_
  intro p e s m args below meth c s₁ B hml hv
  obtain ⟨rfl, hH, hk⟩ := hv
  subst hH
  have hx := B.exec
  have hb := B.bytes
  have hr := B.returns
  have hts := atoms_spec (ws := wsX0_init) B.pre
  have hown : s.vm.findClass RX0 = some m.cls := findClass_of_methodNamed B.named
  have hlocks := B.notSynchronized
  have hS : va_S (fun _ => False) s.heap s.heap [] := va_S.rf
  have hl := lv_entry ([.ref h0]) (n := 1) (Nat.le_of_ble_eq_true rfl)
  rw [lg_entry_eq]
  generalize (lg_sl ([.ref h0]) ++ List.replicate (1 - (lg_sl ([.ref h0])).length) Slot.unset).toArray = ls at hl ⊢
  have hl : lv_has ls 1 [(0, .ref h0)] := hl
  refine lv_aload_n hx hb dX0_init_0 rfl (lv_at hl 0 rfl) ?_
  refine W.objInit hx hb hown (hts (.methodLink RX0 3 objectInit) (List.mem_of_getElem? (i := 1) rfl)) (hts (.instanceMethod objectInit) (List.mem_of_getElem? (i := 2) rfl)) (hts _ (List.mem_of_getElem? (i := 3) rfl)) rfl (by rw [hml]; exact hl.1) rfl dX0_init_1 (Nat.le_of_ble_eq_true rfl) (Nat.le_of_ble_eq_true rfl) ?_
  refine W.eq (g2 := F0 m 4 ls []) rfl ?_
  exact bret_Rv hx hb hr hS hlocks dX0_init_4
def sF (k : Nat) : Nat → Int32 := fun j => if 11 ≤ j ∧ j < 11 + k then tFirst (j - 11) else 0
theorem sF_step {i : Nat} (hi : i < 6) (u : bU) (h : u 0 = sF i) : (F2_putSettingS u (nI i) (F5_entry 6 tFirst (nI i))) 0 = sF (i + 1) := by
  have key : (F2_putSettingS u (nI i) (F5_entry 6 tFirst (nI i))) 0 = upd (sF i) (11 + i) (tFirst i) := by
    have e1 : F5_entry 6 tFirst (nI i) = tFirst i := by
      unfold F5_entry
      rw [if_neg (nI_pos (by omega)), if_neg (show ¬ Int32.ofNat 6 ≤ nI i from nI_ge (b := 6) hi (by decide)), mC (by omega)]
    rw [e1]
    unfold F2_putSettingS F2_putS
    rw [show (11 + nI i : Int32) = nI (11 + i) from nI_add 11 i, if_neg (nI_pos (by omega)), if_neg (show ¬ (345 : Int32) ≤ nI (11 + i) from nI_ge (b := 345) (by omega) (by decide)), mC (by omega)]
    unfold bput
    rw [bs_eq, h]
  rw [key]
  funext j
  by_cases e : j = 11 + i
  · subst e
    rw [pk_us]
    unfold sF
    rw [if_pos (by omega)]
    congr 1
    omega
  · rw [pk_un e]
    unfold sF
    by_cases q : 11 ≤ j ∧ j < 11 + i
    · rw [if_pos q, if_pos (by omega)]
    · rw [if_neg q, if_neg (by omega)]
set_option maxHeartbeats 4000000 in
set_option maxRecDepth 100000 in
theorem C2_init (l : Launch) (D : va_G) (cI cO : ClassId) (h0 : Nat) (H0 : Heap) (hP : va_P D vwCl [(h0, .inr (2, [.null]))] H0) : Met l yX2_init wsX2_init ({ frames := 2, cells := 1, slots := 345, locals := 44 }) (bPF D cI cO (va_A [(h0, .inr (2, [.null]))] H0.size) H0 [.ref h0]) (va_Qv (fun _ : Unit => True) (fun _ t => ∃ q1 : Nat, va_P D vwCl [(h0, .inr (2, [.ref q1])), (q1, .inl (cI, 345, .inl (sF 6)))] t.heap ∧ va_D (va_A [(h0, .inr (2, [.null]))] H0.size) [(h0, .inr (2, [.ref q1])), (q1, .inl (cI, 345, .inl (sF 6)))]) (va_A [(h0, .inr (2, [.null]))] H0.size)) 1 345 (va_A [(h0, .inr (2, [.null]))] H0.size) := by
  refine Met.ofW (cc := cX2_init) (maxL := 2) (ret := none) (by decide) rfl ?_
  intro p e s m args below meth c s₁ B hml hv
  obtain ⟨rfl, hH, hk, hT, hO⟩ := hv
  subst hH
  have hx := B.exec
  have hb := B.bytes
  have hr := B.returns
  have hts := atoms_spec (ws := wsX2_init) B.pre
  have hown : s.vm.findClass RX2 = some m.cls := findClass_of_methodNamed B.named
  have hlocks := B.notSynchronized
  have hin : meth.name = "<init>" := (name_of_methodNamed B.named B.method).1
  have hD : va_D (va_A [(h0, .inr (2, [.null]))] s.heap.size) [(h0, .inr (2, [.null]))] := ⟨fun i j p p2 hi hj _ => by
    have h1 : i < 1 := (List.getElem?_eq_some_iff.mp hi).1
    have h2 : j < 1 := (List.getElem?_eq_some_iff.mp hj).1
    omega, fun _ _ hk => va_A.in hk⟩
  have hA0 : va_A [(h0, .inr (2, [.null]))] s.heap.size h0 := Or.inl ⟨0, _, rfl⟩
  generalize hAe : va_A [(h0, .inr (2, [.null]))] s.heap.size = A at hD hT hA0 ⊢
  have hA : ∀ q : Nat, s.heap.size ≤ q → A q := fun q h => by rw [← hAe]; exact Or.inr h
  have hS : va_S A s.heap s.heap [] := va_S.rf
  have hl := lv_entry ([.ref h0]) (n := 2) (Nat.le_of_ble_eq_true rfl)
  rw [lg_entry_eq]
  generalize (lg_sl ([.ref h0]) ++ List.replicate (2 - (lg_sl ([.ref h0])).length) Slot.unset).toArray = ls at hl ⊢
  have hl : lv_has ls 2 [(0, .ref h0)] := hl
  refine lv_aload_n hx hb dX2_init_0 rfl (lv_at hl 0 rfl) ?_
  refine W.objInit hx hb hown (hts (.methodLink RX2 5 objectInit) (List.mem_of_getElem? (i := 1) rfl)) (hts (.instanceMethod objectInit) (List.mem_of_getElem? (i := 2) rfl)) (hts _ (List.mem_of_getElem? (i := 3) rfl)) rfl (by rw [hml]; exact hl.1) rfl dX2_init_1 (Nat.le_of_ble_eq_true rfl) (Nat.le_of_ble_eq_true rfl) ?_
  refine W.eq (g2 := F0 m 4 ls []) rfl ?_
  refine lv_aload_n hx hb dX2_init_4 rfl (lv_at hl 0 rfl) ?_
  refine lv_sipush (v := 345) hx hb dX2_init_5 (by decide) ?_
  refine va_newa (atype := .int) (ty := .int) (N' := 345) (a0 := (345, .inl (fun _ => 0))) hx hb (hts (.arrayClass .int) (List.mem_of_getElem? (i := 4) rfl)) rfl hk.1 hP hD hS hA (fun _ => rfl) (by decide) (by decide) (by decide) (Nat.le_of_ble_eq_true rfl) (Nat.le_of_ble_eq_true rfl) dX2_init_8 (fun q1 cA H hK2 hP hD hS => ?_)
  obtain rfl := ty_I (k := 0) hk.1 hK2 rfl
  refine W.widen (k := 1) (n := 345) (by omega) (by omega) ?_
  have iX2 : ∀ w ∈ wsX20, w ∈ wsX2_init := by decide +kernel
  refine va_putF (D := D) (ci := 2) (v := .ref q1) (ty := .array .int) (C := RX2) (T := TX2) (N := 1) hx hb hts iX2 tyX2 tyX2_ok nmX2 hown hk.1 hP hD hS 0 rfl rfl 0 (by decide) (hts (.fieldLink RX2 11 "BottleLoop$State" "cells" "[I") (List.mem_of_getElem? (i := 5) rfl)) (fun _ h9 => h9) rfl hin rfl (by decide +kernel) rfl rfl (Nat.le_of_ble_eq_true rfl) dX2_init_10 (fun H locs hP hD hS => ?_)
  have hP : va_P D vwCl [(h0, .inr (2, [.ref q1])), (q1, .inl (cA, 345, .inl (fun _ => 0)))] H := hP
  have hD : va_D A [(h0, .inr (2, [.ref q1])), (q1, .inl (cA, 345, .inl (fun _ => 0)))] := hD
  have hne : h0 ≠ q1 := fun h9 => absurd (hD.1 0 1 _ _ rfl rfl h9) (by decide)
  have hA1 : A q1 := hD.2 1 _ rfl
  have hq : bInj 2 (qL [h0, q1]) := by
    intro i j hi hj hij
    have : (i = 0 ∨ i = 1) ∧ (j = 0 ∨ j = 1) := by omega
    rcases this with ⟨rfl | rfl, rfl | rfl⟩
    · rfl
    · exact absurd hij hne
    · exact absurd hij.symm hne
    · rfl
  refine lv_iconst (v := 0) hx hb dX2_init_13 (by decide) ?_
  refine lv_istore_n (lv' := [(1, .int 0), (0, .ref h0)]) hx hb dX2_init_14 rfl hl (by decide) rfl (fun ls hl => ?_)
  obtain ⟨tF, hZ, hTF⟩ := hT
  have loop : ∀ (n i : Nat) (u : bU) (H : Heap) (locs : List Loc) (ls : Array Slot), i ≤ 6 → 7 ≤ n + i → u 0 = sF i → va_P D vwCl (wS cA (qL [h0, q1]) u) H → va_S A s.heap H locs → lv_has ls 2 [(1, .int (nI i)), (0, .ref h0)] → W p l e (headSpec wsX2_init ({ frames := 2, cells := 1, slots := 345, locals := 44 })).room s m ([.ref h0] : List Value).toArray below meth c H locs 1 345 (MQ below (va_Qv (fun _ : Unit => True) (fun _ t => ∃ q1 : Nat, va_P D vwCl [(h0, .inr (2, [.ref q1])), (q1, .inl (cA, 345, .inl (sF 6)))] t.heap ∧ va_D A [(h0, .inr (2, [.ref q1])), (q1, .inl (cA, 345, .inl (sF 6)))]) A) ([.ref h0] : List Value).toArray s 1 345 A) (F0 m 15 ls []) := by
    intro n
    induction n with
    | zero => intro i u H locs ls hi hn; omega
    | succ n ih =>
      intro i u H locs ls hi hn hu hP hS hl
      refine lv_iload_n hx hb dX2_init_15 rfl (lv_at hl 0 rfl) ?_
      refine lv_bipush (v := 6) hx hb dX2_init_16 (by decide) ?_
      refine lv_icmp_ge (tgt := 39) hx hb dX2_init_18 (by decide) (fun c_1 => ?_) (fun c_1 => ?_)
      · have hi6 : i = 6 := by
          rcases Nat.lt_or_ge i 6 with q9 | q9
          · exact absurd c_1 (nI_ge (b := 6) q9 (by decide))
          · omega
        subst hi6
        have hPe : va_P D vwCl [(h0, .inr (2, [.ref q1])), (q1, .inl (cA, 345, .inl (sF 6)))] H := by rw [← hu]; exact hP
        have hDe : va_D A [(h0, .inr (2, [.ref q1])), (q1, .inl (cA, 345, .inl (sF 6)))] := hD.set (p := 1) (a := q1) (e := .inl (cA, 345, .inl (sF 6))) rfl
        exact W.vret hx hb hr (fun t ht hW => ⟨⟨(), rfl, trivial, q1, by rw [ht]; exact hPe, hDe⟩, hS.F ht⟩) hS.2.2 dX2_init_39
      · have hi6 : i < 6 := by
          rcases Nat.lt_or_ge i 6 with q9 | q9
          · exact q9
          · exact absurd (nI_le (a := 6) q9 (by omega)) c_1
        refine lv_aload_n hx hb dX2_init_21 rfl (lv_at hl 1 rfl) ?_
        refine lv_iload_n hx hb dX2_init_22 rfl (lv_at hl 0 rfl) ?_
        refine va_getsN hx hb hZ hS hown (va_Nw.use rfl (hk.2 (.fieldLinkNest RX2 15 "BottleLoop" "FIRST_SETTING" "[I" RX5) (List.mem_of_getElem? (i := 52) rfl))) (fun _ h9 => h9) dX2_init_23 ?_
        refine lv_iload_n hx hb dX2_init_26 rfl (lv_at hl 0 rfl) ?_
        refine bcall_Ri (va_runSN (As := [.ref tF, .int (nI i)]) (rest := [.int (nI i), .ref h0]) ⟨hx, hb, hml, hown, hts⟩ (C5_entryT l D cA cO (fun _ => 0) _ (nI i)) ⟨va_cnB 2 hts gX2_init_X5_entry_n18 rfl rfl rfl (hk.2 (.methodLinkNest RX2 18 yX5_entry RX5) (List.mem_of_getElem? (i := 2) rfl)) (hts (.initialized RX5) (List.mem_of_getElem? (i := 7) rfl)) bd_X5entry ⟨Nat.le_of_ble_eq_true rfl, Nat.le_of_ble_eq_true rfl⟩, (hts (.static yX5_entry) (List.mem_of_getElem? (i := 6) rfl)), trivial⟩ (bPST hk hTF hS) rfl rfl hl.1 rfl (lv_room (Nat.le_of_ble_eq_true rfl)) dX2_init_27 ⟨Nat.le_of_ble_eq_true rfl, Nat.le_of_ble_eq_true rfl⟩) hS (fun locs hS => ?_)
        refine va_callv (va_runV (As := [.int (nI i), .int (F5_entry 6 tFirst (nI i))]) (rest := []) ⟨hx, hb, hml, hown, hts⟩ (C2_putSettingS l D cA cO (qL [h0, q1]) u _ hq hP (nI i) (F5_entry 6 tFirst (nI i))) (cwV 2 hts gX2_init_X2_putSetting rfl rfl rfl ⟨rfl, bd_X2putSetting⟩ ⟨Nat.le_of_ble_eq_true rfl, Nat.le_of_ble_eq_true rfl⟩) (bPV hk (va_recv hk.1 hP (ci := 2) (q0 := 0) rfl (wS_0 _ _ _))) rfl rfl hl.1 rfl (lv_room (Nat.le_of_ble_eq_true rfl)) dX2_init_30 ⟨Nat.le_of_ble_eq_true rfl, Nat.le_of_ble_eq_true rfl⟩) hS (fun x _ h => ?_) (fun x h => ?_) (fun u2 t H1 locs1 ht _ hw hB _ _ hS1 => ?_)
        · rcases h with ⟨k, hk2, e⟩ | h
          · have : k = 0 ∨ k = 1 := by omega
            rcases this with rfl | rfl
            · rw [← e]; exact hA0
            · rw [← e]; exact hA1
          · exact hA x (Nat.le_trans hS.1 h)
        · rcases h with ⟨k, hk2, e⟩ | h
          · have : k = 0 ∨ k = 1 := by omega
            rcases this with rfl | rfl
            · rw [← e]; exact hA0
            · rw [← e]; exact hA1
          · exact hA x (Nat.le_trans hS.1 h)
        · subst hw; subst ht
          refine W.widen (k := 1) (n := 345) (by omega) (by omega) ?_
          refine lv_iinc (v := nI (i + 1)) (lv' := [(1, .int (nI (i + 1))), (0, .ref h0)]) hx hb dX2_init_33 hl (k := 0) rfl (bInc i) (by decide) rfl (fun ls hl => ?_)
          refine lv_goto (tgt := 15) hx hb dX2_init_36 (by decide) ?_
          exact ih (i + 1) _ _ _ _ (by omega) (by omega) (sF_step hi6 u hu) hB.1 hS1 hl
  exact loop 7 0 (fun _ => sF 0) H locs ls (by decide) (by decide) rfl (by
    have e0 : (fun _ => 0 : Nat → Int32) = sF 0 := by
      funext j
      unfold sF
      rw [if_neg (by omega)]
    rw [e0] at hP
    exact hP) hS hl

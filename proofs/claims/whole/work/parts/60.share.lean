-- doubles on the machine; needs that hold; bitsOf; goneShare (own text, part by program)
abbrev bRv (H0 : Heap) : Array Value → State → Outcome → State → Prop := va_Qv (fun (_ : Unit) => True) (fun _ t => t.heap = H0) (fun _ => False)
section BRV
variable {p : Program} {l : Launch} {e : Env} {R : Room} {s : State} {m : MethodId} {args : Array Value} {below : List Frame} {meth : Method} {c : Code} {H : Heap} {locs : List Loc} {cells slots : Nat} {Q : State → Prop}
variable {pc : Nat} {ls : Array Slot} {rest st0 : List Value} {a : Array Value} {A0 : Nat → Prop} {H0 : Heap} {cc : ByteArray}
theorem bcall_Rv (hr : va_Run p l e R s m args below meth c H locs cells slots 0 0 (F0 m pc ls st0) rest (bRv H a) (fun _ => False)) (hS : va_S A0 H0 H locs)
    (kk : ∀ locs1 : List Loc, va_S A0 H0 H locs1 → W p l e R s m args below meth c H locs1 cells slots Q (F0 m (pc + 3) ls rest)) : W p l e R s m args below meth c H locs cells slots Q (F0 m pc ls st0) :=
  va_callv hr hS (fun _ _ h => h.elim) (fun _ h => h.elim) (fun u t H1 locs1 ht _ hw hB _ _ hS1 => by
    have e : H1 = H := ht.symm.trans hB
    subst e
    exact kk locs1 hS1)
theorem bret_Rv (hx : p.tables.exec = Jvm.exec) (hb : c.code = cc) (hr : meth.sig.returnType = none) (hS : va_S (fun _ => False) s.heap s.heap locs) (hlocks : meth.locks = false) (hdg : decode cc pc = .ok (.return_, 1)) : W p l e R s m args below meth c s.heap locs 0 0 (MQ below (bRv s.heap) args s 0 0 (fun _ => False)) (F0 m pc ls []) :=
  W.vret hx hb hr (fun t ht _ => ⟨⟨(), rfl, trivial, ht⟩, va_S.F hS ht⟩) hS.2.2 hdg
theorem bret_Rd {v tgt : UInt64} (hx : p.tables.exec = Jvm.exec) (hb : c.code = cc) (hr : meth.sig.returnType = some .double) (hS : va_S (fun _ => False) s.heap s.heap locs) (hlocks : meth.locks = false) (hdg : decode cc pc = .ok (.dreturn, 1)) (hv : v = tgt) : W p l e R s m args below meth c s.heap locs 0 0 (MQ below (bRd s.heap tgt) args s 0 0 (fun _ => False)) (F0 m pc ls [.double v]) :=
  W.dret hx hb hr (fun t ht _ => ⟨⟨v, (), rfl, hv, ht⟩, va_S.F hS ht⟩) hS.2.2 hdg hlocks
theorem bret_Wd {D : va_G} {WD : bU → va_W} {I : bU → Prop} {A : Nat → Prop} {v : UInt64} {u : bU} {tgt : UInt64 × bU} (hx : p.tables.exec = Jvm.exec) (hb : c.code = cc) (hr : meth.sig.returnType = some .double) (hP : va_P D vwCl (WD u) H) (hI : I u) (hS : va_S A s.heap H locs) (hlocks : meth.locks = false) (hdg : decode cc pc = .ok (.dreturn, 1)) (hv : (v, u) = tgt) : W p l e R s m args below meth c H locs 0 0 (MQ below (bWd D WD I A tgt) args s 0 0 A) (F0 m pc ls [.double v]) :=
  W.dret hx hb hr (fun t ht _ => ⟨⟨v, u, rfl, hv, by rw [ht]; exact hP, hI⟩, va_S.F hS ht⟩) hS.2.2 hdg hlocks
end BRV
set_option maxHeartbeats 4000000 in
set_option maxRecDepth 100000 in
theorem C5_needArg1 (l : Launch) (D : va_G) (cI cO : ClassId) (q : Nat → Nat) (H0 : Heap) : Met l yX5_needArgument wsX5_needArgument ({ frames := 0, cells := 0, slots := 0, locals := 0 }) (bP D [(cI, .int), (cO, .object RX2)] H0 [.int 1]) (bRv H0) 0 0 (fun _ => False) := by
  refine Met.ofW (cc := cX5_needArgument) (maxL := 1) (ret := none) (by decide) rfl ?_
  intro p e s m args below meth c s₁ B hml hv
  obtain ⟨rfl, hH, hk⟩ := hv
  subst hH
  have hx := B.exec
  have hb := B.bytes
  have hr := B.returns
  have hlocks := B.notSynchronized
  have hS : va_S (fun _ => False) s.heap s.heap [] := va_S.rf
  have hl := lv_entry ([.int 1]) (n := 1) (Nat.le_of_ble_eq_true rfl)
  rw [lg_entry_eq]
  generalize (lg_sl ([.int 1]) ++ List.replicate (1 - (lg_sl ([.int 1])).length) Slot.unset).toArray = ls at hl ⊢
  have hl : lv_has ls 1 [(0, .int 1)] := hl
  refine lv_iload_n hx hb dX5_needArgument_0 rfl (lv_at hl 0 rfl) ?_
  refine lv_if_ne (tgt := 15) hx hb dX5_needArgument_1 (by decide) (fun _ => ?_) (fun h9 => absurd h9 (by decide))
  exact bret_Rv hx hb hr hS hlocks dX5_needArgument_15
set_option maxHeartbeats 4000000 in
set_option maxRecDepth 100000 in
theorem C5_needRange1 (l : Launch) (D : va_G) (cI cO : ClassId) (q : Nat → Nat) (H0 : Heap) (a1 a2 a3 : Int32) (h1 : ¬ a1 < a2) (h2 : ¬ a3 < a1) : Met l yX5_needRange wsX5_needRange ({ frames := 1, cells := 0, slots := 0, locals := 20 }) (bP D [(cI, .int), (cO, .object RX2)] H0 [.int a1, .int a2, .int a3]) (bRv H0) 0 0 (fun _ => False) := by
  refine Met.ofW (cc := cX5_needRange) (maxL := 3) (ret := none) (by decide) rfl ?_
  intro p e s m args below meth c s₁ B hml hv
  obtain ⟨rfl, hH, hk⟩ := hv
  subst hH
  have hx := B.exec
  have hb := B.bytes
  have hr := B.returns
  have hts := atoms_spec (ws := wsX5_needRange) B.pre
  have hown : s.vm.findClass RX5 = some m.cls := findClass_of_methodNamed B.named
  have hlocks := B.notSynchronized
  have hS : va_S (fun _ => False) s.heap s.heap [] := va_S.rf
  have hl := lv_entry ([.int a1, .int a2, .int a3]) (n := 3) (Nat.le_of_ble_eq_true rfl)
  rw [lg_entry_eq]
  generalize (lg_sl ([.int a1, .int a2, .int a3]) ++ List.replicate (3 - (lg_sl ([.int a1, .int a2, .int a3])).length) Slot.unset).toArray = ls at hl ⊢
  have hl : lv_has ls 3 [(0, .int a1), (1, .int a2), (2, .int a3)] := hl
  refine lv_iload_n hx hb dX5_needRange_0 rfl (lv_at hl 0 rfl) ?_
  refine lv_iload_n hx hb dX5_needRange_1 rfl (lv_at hl 1 rfl) ?_
  refine lv_icmp_lt (tgt := 14) hx hb dX5_needRange_2 (by decide) (fun c_1 => absurd c_1 h1) (fun c_1 => ?_)
  refine lv_iload_n hx hb dX5_needRange_5 rfl (lv_at hl 0 rfl) ?_
  refine lv_iload_n hx hb dX5_needRange_6 rfl (lv_at hl 2 rfl) ?_
  refine lv_icmp_gt (tgt := 14) hx hb dX5_needRange_7 (by decide) (fun c_3 => absurd c_3 h2) (fun c_3 => ?_)
  refine lv_iconst (v := 1) hx hb dX5_needRange_10 (by decide) ?_
  refine lv_goto (tgt := 15) hx hb dX5_needRange_11 (by decide) ?_
  refine bcall_Rv (va_runS (As := [.int 1]) (rest := []) ⟨hx, hb, hml, hown, hts⟩ (C5_needArg1 l D cI cO q _) (va_cwS 1 hts gX5_needRange_X5_needArgument rfl rfl rfl bd_X5needArgument ⟨Nat.le_of_ble_eq_true rfl, Nat.le_of_ble_eq_true rfl⟩) (bPS hk) rfl rfl hl.1 rfl (lv_room (Nat.le_of_ble_eq_true rfl)) dX5_needRange_15 ⟨Nat.zero_le _, Nat.zero_le _⟩) hS (fun locs hS => ?_)
  exact bret_Rv hx hb hr hS hlocks dX5_needRange_18
def F5_countD (u : bU) (a1 : Int32) : Int32 := if a1 = (10 : Int32) then F1_kept u else F2_countNumber u a1
set_option maxHeartbeats 4000000 in
set_option maxRecDepth 100000 in
theorem C5_countD (l : Launch) (D : va_G) (cI cO : ClassId) (q : Nat → Nat) (u : bU) (H0 : Heap) (hP : va_P D vwCl (wC cI cO q u) H0) (a1 : Int32) (h1 : ¬ a1 < 0) (h2 : ¬ nI 10 < a1) : Met l yX5_count wsX5_count ({ frames := 4, cells := 0, slots := 0, locals := 87 }) (bP D [(cI, .int), (cO, .object RX2)] H0 [.ref (q 0), .int a1]) (bRi H0 (F5_countD u a1)) 0 0 (fun _ => False) := by
  refine Met.ofW (cc := cX5_count) (maxL := 2) (ret := (some .int)) (by decide) rfl ?_
  intro p e s m args below meth c s₁ B hml hv
  obtain ⟨rfl, hH, hk⟩ := hv
  subst hH
  have hx := B.exec
  have hb := B.bytes
  have hr := B.returns
  have hts := atoms_spec (ws := wsX5_count) B.pre
  have hown : s.vm.findClass RX5 = some m.cls := findClass_of_methodNamed B.named
  have hlocks := B.notSynchronized
  have iX5 : ∀ w ∈ wsX50, w ∈ wsX5_count := by decide +kernel
  have hS : va_S (fun _ => False) s.heap s.heap [] := va_S.rf
  have hl := lv_entry ([.ref (q 0), .int a1]) (n := 2) (Nat.le_of_ble_eq_true rfl)
  rw [lg_entry_eq]
  generalize (lg_sl ([.ref (q 0), .int a1]) ++ List.replicate (2 - (lg_sl ([.ref (q 0), .int a1])).length) Slot.unset).toArray = ls at hl ⊢
  have hl : lv_has ls 2 [(0, .ref (q 0)), (1, .int a1)] := hl
  generalize hF : F5_countD u a1 = tgt
  refine lv_iload_n hx hb dX5_count_0 rfl (lv_at hl 1 rfl) ?_
  refine lv_iconst (v := 0) hx hb dX5_count_1 (by decide) ?_
  refine lv_bipush (v := 10) hx hb dX5_count_2 (by decide) ?_
  refine bcall_Rv (va_runS (As := [.int a1, .int 0, .int 10]) (rest := []) ⟨hx, hb, hml, hown, hts⟩ (C5_needRange1 l D cI cO q _ a1 0 10 h1 h2) (va_cwS 3 hts gX5_count_X5_needRange rfl rfl rfl bd_X5needRange ⟨Nat.le_of_ble_eq_true rfl, Nat.le_of_ble_eq_true rfl⟩) (bPS hk) rfl rfl hl.1 rfl (lv_room (Nat.le_of_ble_eq_true rfl)) dX5_count_4 ⟨Nat.zero_le _, Nat.zero_le _⟩) hS (fun locs hS => ?_)
  refine lv_iload_n hx hb dX5_count_7 rfl (lv_at hl 1 rfl) ?_
  refine lv_bipush (v := 10) hx hb dX5_count_8 (by decide) ?_
  refine lv_icmp_ne (tgt := 23) hx hb dX5_count_10 (by decide) (fun c_2 => ?_) (fun c_2 => ?_)
  · refine lv_aload_n hx hb dX5_count_23 rfl (lv_at hl 0 rfl) ?_
    refine va_get (D := D) (ci := 5) (C := RX5) (T := TX5) (N := 5) hx hb hts iX5 hown hk.1 hP 0 (wC_0 _ _ _ _) rfl 0 (by decide) (hts (.fieldLink RX5 20 "BottleLoop" "now" "LBottleLoop$State;") (List.mem_of_getElem? (i := 2) rfl)) (fun _ h9 => h9) rfl dX5_count_24 ?_
    refine lv_iload_n hx hb dX5_count_27 rfl (lv_at hl 1 rfl) ?_
    refine bcall_Ri (va_runVN (As := [.int a1]) (rest := []) ⟨hx, hb, hml, hown, hts⟩ (C2_countNumber l D cI cO q _ _ hP a1) ⟨va_cnB 1 hts gX5_count_X2_countNumber_n77 rfl rfl rfl (hk.2 (.methodLinkNest RX5 77 yX2_countNumber RX5) (List.mem_of_getElem? (i := 16) rfl)) (hts (.initialized RX2) (List.mem_of_getElem? (i := 18) rfl)) bd_X2countNumber ⟨Nat.le_of_ble_eq_true rfl, Nat.le_of_ble_eq_true rfl⟩, (hts (.instanceMethod yX2_countNumber) (List.mem_of_getElem? (i := 17) rfl)), (hts (.selects RX2 yX2_countNumber yX2_countNumber) (List.mem_of_getElem? (i := 19) rfl))⟩ (bPV hk (va_recv hk.1 hP (ci := 2) (q0 := 3) rfl (wC_3 _ _ _ _))) rfl rfl hl.1 rfl (lv_room (Nat.le_of_ble_eq_true rfl)) dX5_count_28 ⟨Nat.zero_le _, Nat.zero_le _⟩) hS (fun locs hS => ?_)
    exact bret_Ri hx hb hr hS hlocks dX5_count_31 (by rw [← hF, F5_countD, if_neg c_2])
  · refine lv_aload_n hx hb dX5_count_13 rfl (lv_at hl 0 rfl) ?_
    refine va_get (D := D) (ci := 5) (C := RX5) (T := TX5) (N := 5) hx hb hts iX5 hown hk.1 hP 0 (wC_0 _ _ _ _) rfl 1 (by decide) (hts (.fieldLink RX5 26 "BottleLoop" "past" "LBottleLoop$Past;") (List.mem_of_getElem? (i := 1) rfl)) (fun _ h9 => h9) rfl dX5_count_14 ?_
    refine bcall_Ri (va_runVN (As := []) (rest := []) ⟨hx, hb, hml, hown, hts⟩ (C1_kept l D cI cO q _ _ hP ) ⟨va_cnB 0 hts gX5_count_X1_kept_n179 rfl rfl rfl (hk.2 (.methodLinkNest RX5 179 yX1_kept RX5) (List.mem_of_getElem? (i := 15) rfl)) (hts (.initialized RX1) (List.mem_of_getElem? (i := 13) rfl)) bd_X1kept ⟨Nat.le_of_ble_eq_true rfl, Nat.le_of_ble_eq_true rfl⟩, (hts (.instanceMethod yX1_kept) (List.mem_of_getElem? (i := 12) rfl)), (hts (.selects RX1 yX1_kept yX1_kept) (List.mem_of_getElem? (i := 14) rfl))⟩ (bPV hk (va_recv hk.1 hP (ci := 1) (q0 := 5) rfl (wC_5 _ _ _ _))) rfl rfl hl.1 rfl (lv_room (Nat.le_of_ble_eq_true rfl)) dX5_count_17 ⟨Nat.zero_le _, Nat.zero_le _⟩) hS (fun locs hS => ?_)
    refine lv_goto (tgt := 31) hx hb dX5_count_20 (by decide) ?_
    exact bret_Ri hx hb hr hS hlocks dX5_count_31 (by rw [← hF, F5_countD, if_pos c_2])
theorem cmp_E {E : Nat} (h : E < 1100) : lg_cmp (Int64.ofNat (E + 2)) 1 = 1 := by
  revert h E
  decide +kernel
theorem sub_E (E : Nat) : Int64.ofNat (E + 2) - 1 = Int64.ofNat (E + 1) := by
  rw [show E + 2 = (E + 1) + 1 from rfl, Int64.ofNat_add (E + 1) 1]
  exact Int64.add_sub_cancel _ _
def F5_bitsOf (x : UInt64) : Int64 := x.toInt64
set_option maxHeartbeats 4000000 in
set_option maxRecDepth 100000 in
theorem C5_bitsOf (l : Launch) (D : va_G) (cI cO : ClassId) (q : Nat → Nat) (H0 : Heap) (x : UInt64) (hsh : shOK x) : Met l yX5_bitsOf wsX5_bitsOf ({ frames := 0, cells := 0, slots := 0, locals := 0 }) (bP D [(cI, .int), (cO, .object RX2)] H0 [.double x]) (bRl H0 (F5_bitsOf x)) 0 0 (fun _ => False) := by
  refine Met.ofW (cc := cX5_bitsOf) (maxL := 6) (ret := (some .long)) (by decide) rfl ?_
  intro p e s m args below meth c s₁ B hml hv
  obtain ⟨rfl, hH, hk⟩ := hv
  subst hH
  have hx := B.exec
  have hb := B.bytes
  have hr := B.returns
  have hts := atoms_spec (ws := wsX5_bitsOf) B.pre
  have hown : s.vm.findClass RX5 = some m.cls := findClass_of_methodNamed B.named
  have hlocks := B.notSynchronized
  have hS : va_S (fun _ => False) s.heap s.heap [] := va_S.rf
  have hl := lv_entry ([.double x]) (n := 6) (Nat.le_of_ble_eq_true rfl)
  rw [lg_entry_eq]
  generalize (lg_sl ([.double x]) ++ List.replicate (6 - (lg_sl ([.double x])).length) Slot.unset).toArray = ls at hl ⊢
  have hl : lv_has ls 6 [(0, .double x)] := hl
  refine lv_dload_n hx hb dX5_bitsOf_0 rfl (lv_at hl 0 rfl) ?_
  refine lv_dconst0 hx hb dX5_bitsOf_1 ?_
  refine lv_dcmp hx hb dX5_bitsOf_2 ?_
  rcases hsh with rfl | ⟨c0, q0, ⟨h1, h2, h3, h4⟩, rfl⟩
  · rw [show Op.cmpValue (FP.dcmp 0 FP.dconst0) .l = 0 from by decide +kernel]
    refine lv_if_gt (tgt := 8) hx hb dX5_bitsOf_3 (by decide) (fun h9 => absurd h9 (by decide)) (fun _ => ?_)
    refine lv_lconst (v := 0) hx hb dX5_bitsOf_6 (by decide) ?_
    exact bret_Rl hx hb hr hS hlocks dX5_bitsOf_7 (by decide)
  · rw [cmp_pos h1 h2 (by omega) (by omega)]
    refine lv_if_gt (tgt := 8) hx hb dX5_bitsOf_3 (by decide) (fun _ => ?_) (fun h9 => absurd (by decide) h9)
    refine lv_dload_n hx hb dX5_bitsOf_8 rfl (lv_at hl 0 rfl) ?_
    refine lv_dstore_n (lv' := [(2, .double (nd c0 q0)), (0, .double (nd c0 q0))]) hx hb dX5_bitsOf_9 rfl hl (by decide) rfl (fun ls hl => ?_)
    refine lv_ldc2 (v := 1023) hx hb hown (hts (.constantLong RX5 246 (1023)) (List.mem_of_getElem? (i := 1) rfl)) dX5_bitsOf_10 ?_
    refine lv_lstore (lv' := [(4, .long 1023), (2, .double (nd c0 q0)), (0, .double (nd c0 q0))]) hx hb dX5_bitsOf_13 hl (by decide) rfl (fun ls hl => ?_)
    have loop : ∀ (n E : Nat) (q : Int) (ls : Array Slot), q0 ≤ q → q ≤ -52 → n = (-52 - q).toNat → (E : Int) - 1023 = q0 - q → lv_has ls 6 [(4, .long (Int64.ofNat E)), (2, .double (nd c0 q)), (0, .double (nd c0 q0))] → W p l e (headSpec wsX5_bitsOf ({ frames := 0, cells := 0, slots := 0, locals := 0 })).room s m ([.double (nd c0 q0)] : List Value).toArray below meth c s.heap [] 0 0 (MQ below (bRl s.heap (F5_bitsOf (nd c0 q0))) ([.double (nd c0 q0)] : List Value).toArray s 0 0 (fun _ => False)) (F0 m 15 ls []) := by
      intro n
      induction n with
      | zero =>
        intro E q ls k1 k2 k3 k4 hl
        obtain rfl : q = -52 := by omega
        refine lv_dload_n hx hb dX5_bitsOf_15 rfl (lv_at hl 1 rfl) ?_
        refine lv_dconst1 hx hb dX5_bitsOf_16 ?_
        refine lv_dcmp hx hb dX5_bitsOf_17 ?_
        refine lv_if_ge (tgt := 43) hx hb dX5_bitsOf_18 (by decide) (fun _ => ?_) (fun h9 => absurd (cmp_ge h1 h2) h9)
        obtain ⟨z1, z2, z3⟩ := nd_last h1 h2
        refine lv_lload hx hb dX5_bitsOf_43 (lv_at hl 0 rfl) ?_
        refine lv_bipush (v := 52) hx hb dX5_bitsOf_45 (by decide) ?_
        refine lv_lshl hx hb dX5_bitsOf_47 (sh52 E (by omega)) ?_
        refine lv_dload_n hx hb dX5_bitsOf_48 rfl (lv_at hl 1 rfl) ?_
        refine lv_dconst1 hx hb dX5_bitsOf_49 ?_
        refine lv_dsub hx hb dX5_bitsOf_50 z1 ?_
        refine lv_ldc2d (v := 4841369599423283200) hx hb hown (hts (.constantDouble RX5 250 (4841369599423283200)) (List.mem_of_getElem? (i := 3) rfl)) dX5_bitsOf_51 ?_
        refine lv_dmul hx hb dX5_bitsOf_54 z2 ?_
        refine lv_d2l hx hb dX5_bitsOf_55 ?_
        refine lv_ladd hx hb dX5_bitsOf_56 ?_
        exact bret_Rl hx hb hr hS hlocks dX5_bitsOf_57 (by rw [z3]; exact nd_long h1 (by omega) (by omega))
      | succ n ih =>
        intro E q ls k1 k2 k3 k4 hl
        refine lv_dload_n hx hb dX5_bitsOf_15 rfl (lv_at hl 1 rfl) ?_
        refine lv_dconst1 hx hb dX5_bitsOf_16 ?_
        refine lv_dcmp hx hb dX5_bitsOf_17 ?_
        rw [cmp_lt h1 h2 (by omega) (by omega)]
        refine lv_if_ge (tgt := 43) hx hb dX5_bitsOf_18 (by decide) (fun h9 => absurd h9 (by decide)) (fun _ => ?_)
        refine lv_lload hx hb dX5_bitsOf_21 (lv_at hl 0 rfl) ?_
        refine lv_lconst (v := 1) hx hb dX5_bitsOf_23 (by decide) ?_
        refine W.lcmp hx hb dX5_bitsOf_24 ?_
        obtain ⟨E, rfl⟩ : ∃ y, E = y + 2 := ⟨E - 2, by omega⟩
        rw [show lg_cmp (Int64.ofNat (E + 2)) 1 = 1 from cmp_E (by omega)]
        refine lv_if_le (tgt := 43) hx hb dX5_bitsOf_25 (by decide) (fun h9 => absurd h9 (by decide)) (fun _ => ?_)
        refine lv_dload_n hx hb dX5_bitsOf_28 rfl (lv_at hl 1 rfl) ?_
        refine lv_ldc2d (v := 4611686018427387904) hx hb hown (hts (.constantDouble RX5 248 (4611686018427387904)) (List.mem_of_getElem? (i := 2) rfl)) dX5_bitsOf_29 ?_
        have e2 := nd_two h1 h2 (show -1074 ≤ q by omega) (by omega)
        refine lv_dmul hx hb dX5_bitsOf_32 (by rw [e2]; exact nd_n64 h1 h2 (by omega) (by omega)) ?_
        rw [e2]
        refine lv_dstore_n (lv' := [(2, .double (nd c0 (q + 1))), (4, .long (Int64.ofNat (E + 2))), (0, .double (nd c0 q0))]) hx hb dX5_bitsOf_33 rfl hl (by decide) rfl (fun ls hl => ?_)
        refine lv_lload hx hb dX5_bitsOf_34 (lv_at hl 1 rfl) ?_
        refine lv_lconst (v := 1) hx hb dX5_bitsOf_36 (by decide) ?_
        refine lv_lsub hx hb dX5_bitsOf_37 ?_
        rw [show Int64.ofNat (E + 2) - 1 = Int64.ofNat (E + 1) from sub_E E]
        refine lv_lstore (lv' := [(4, .long (Int64.ofNat (E + 1))), (2, .double (nd c0 (q + 1))), (0, .double (nd c0 q0))]) hx hb dX5_bitsOf_38 hl (by decide) rfl (fun ls hl => ?_)
        refine lv_goto (tgt := 15) hx hb dX5_bitsOf_40 (by decide) ?_
        exact ih (E + 1) (q + 1) _ (by omega) (by omega) (by omega) (by omega) hl
    exact loop _ 1023 q0 _ (by omega) h4 rfl (by omega) hl
theorem bd_X2brandSum : yX2_brandSum.cls ≠ "java/lang/invoke/MethodHandle" ∧ yX2_brandSum.cls ≠ "java/lang/invoke/VarHandle" ∧ (parseMethodDescriptor yX2_brandSum.desc).map (fun d => d.parameters.length) = some 2 := by decide +kernel
def F5_goneShare (u : bU) : UInt64 := (if (F2_brandSum1 u) ≤ 0 then FP.dconst0 else (FP.ddiv (FP.i2d (F2_brandSum7 u)) (FP.i2d (F2_brandSum1 u))))
set_option maxHeartbeats 4000000 in
set_option maxRecDepth 100000 in
theorem C5_goneShare (l : Launch) (D : va_G) (cI cO : ClassId) (q : Nat → Nat) (u : bU) (H0 : Heap) (hP : va_P D vwCl (wC cI cO q u) H0) (hnn : ¬ F2_brandSum1 u ≤ 0 → vf_n64 (FP.ddiv (FP.i2d (F2_brandSum7 u)) (FP.i2d (F2_brandSum1 u)))) : Met l yX5_goneShare wsX5_goneShare ({ frames := 5, cells := 0, slots := 0, locals := 113 }) (bP D [(cI, .int), (cO, .object RX2)] H0 [.ref (q 0)]) (bRd H0 (F5_goneShare u)) 0 0 (fun _ => False) := by
  refine Met.ofW (cc := cX5_goneShare) (maxL := 2) (ret := (some .double)) (by decide) rfl ?_
  intro p e s m args below meth c s₁ B hml hv
  obtain ⟨rfl, hH, hk⟩ := hv
  subst hH
  have hx := B.exec
  have hb := B.bytes
  have hr := B.returns
  have hts := atoms_spec (ws := wsX5_goneShare) B.pre
  have hown : s.vm.findClass RX5 = some m.cls := findClass_of_methodNamed B.named
  have hlocks := B.notSynchronized
  have iX5 : ∀ w ∈ wsX50, w ∈ wsX5_goneShare := by decide +kernel
  have hS : va_S (fun _ => False) s.heap s.heap [] := va_S.rf
  have hl := lv_entry ([.ref (q 0)]) (n := 2) (Nat.le_of_ble_eq_true rfl)
  rw [lg_entry_eq]
  generalize (lg_sl ([.ref (q 0)]) ++ List.replicate (2 - (lg_sl ([.ref (q 0)])).length) Slot.unset).toArray = ls at hl ⊢
  have hl : lv_has ls 2 [(0, .ref (q 0))] := hl
  generalize hF : F5_goneShare u = tgt
  refine lv_aload_n hx hb dX5_goneShare_0 rfl (lv_at hl 0 rfl) ?_
  refine va_get (D := D) (ci := 5) (C := RX5) (T := TX5) (N := 5) hx hb hts iX5 hown hk.1 hP 0 (wC_0 _ _ _ _) rfl 0 (by decide) (hts (.fieldLink RX5 20 "BottleLoop" "now" "LBottleLoop$State;") (List.mem_of_getElem? (i := 1) rfl)) (fun _ h9 => h9) rfl dX5_goneShare_1 ?_
  refine lv_iconst (v := 1) hx hb dX5_goneShare_4 (by decide) ?_
  refine lv_bipush (v := 9) hx hb dX5_goneShare_5 (by decide) ?_
  refine bcall_Ri (va_runVN (As := [.int 1, .int 9]) (rest := []) ⟨hx, hb, hml, hown, hts⟩ (C2_brandSum1 l D cI cO q _ _ hP ) ⟨va_cnB 2 hts gX5_goneShare_X2_brandSum_n207 rfl rfl rfl (hk.2 (.methodLinkNest RX5 207 yX2_brandSum RX5) (List.mem_of_getElem? (i := 14) rfl)) (hts (.initialized RX2) (List.mem_of_getElem? (i := 3) rfl)) bd_X2brandSum ⟨Nat.le_of_ble_eq_true rfl, Nat.le_of_ble_eq_true rfl⟩, (hts (.instanceMethod yX2_brandSum) (List.mem_of_getElem? (i := 2) rfl)), (hts (.selects RX2 yX2_brandSum yX2_brandSum) (List.mem_of_getElem? (i := 4) rfl))⟩ (bPV hk (va_recv hk.1 hP (ci := 2) (q0 := 3) rfl (wC_3 _ _ _ _))) rfl rfl hl.1 rfl (lv_room (Nat.le_of_ble_eq_true rfl)) dX5_goneShare_7 ⟨Nat.zero_le _, Nat.zero_le _⟩) hS (fun locs hS => ?_)
  refine lv_istore_n (lv' := [(1, .int (F2_brandSum1 u)), (0, .ref (q 0))]) hx hb dX5_goneShare_10 rfl hl (by decide) rfl (fun ls hl => ?_)
  refine lv_iload_n hx hb dX5_goneShare_11 rfl (lv_at hl 0 rfl) ?_
  refine lv_if_le (tgt := 33) hx hb dX5_goneShare_12 (by decide) (fun c_1 => ?_) (fun c_1 => ?_)
  · refine lv_dconst0 hx hb dX5_goneShare_33 ?_
    exact bret_Rd hx hb hr hS hlocks dX5_goneShare_34 (by rw [← hF, F5_goneShare, if_pos c_1])
  · refine lv_aload_n hx hb dX5_goneShare_15 rfl (lv_at hl 1 rfl) ?_
    refine va_get (D := D) (ci := 5) (C := RX5) (T := TX5) (N := 5) hx hb hts iX5 hown hk.1 hP 0 (wC_0 _ _ _ _) rfl 0 (by decide) (hts (.fieldLink RX5 20 "BottleLoop" "now" "LBottleLoop$State;") (List.mem_of_getElem? (i := 1) rfl)) (fun _ h9 => h9) rfl dX5_goneShare_16 ?_
    refine lv_bipush (v := 7) hx hb dX5_goneShare_19 (by decide) ?_
    refine lv_bipush (v := 9) hx hb dX5_goneShare_21 (by decide) ?_
    refine bcall_Ri (va_runVN (As := [.int 7, .int 9]) (rest := []) ⟨hx, hb, hml, hown, hts⟩ (C2_brandSum7 l D cI cO q _ _ hP ) ⟨va_cnB 2 hts gX5_goneShare_X2_brandSum_n207 rfl rfl rfl (hk.2 (.methodLinkNest RX5 207 yX2_brandSum RX5) (List.mem_of_getElem? (i := 14) rfl)) (hts (.initialized RX2) (List.mem_of_getElem? (i := 3) rfl)) bd_X2brandSum ⟨Nat.le_of_ble_eq_true rfl, Nat.le_of_ble_eq_true rfl⟩, (hts (.instanceMethod yX2_brandSum) (List.mem_of_getElem? (i := 2) rfl)), (hts (.selects RX2 yX2_brandSum yX2_brandSum) (List.mem_of_getElem? (i := 4) rfl))⟩ (bPV hk (va_recv hk.1 hP (ci := 2) (q0 := 3) rfl (wC_3 _ _ _ _))) rfl rfl hl.1 rfl (lv_room (Nat.le_of_ble_eq_true rfl)) dX5_goneShare_23 ⟨Nat.zero_le _, Nat.zero_le _⟩) hS (fun locs hS => ?_)
    refine lv_i2d hx hb dX5_goneShare_26 ?_
    refine lv_iload_n hx hb dX5_goneShare_27 rfl (lv_at hl 0 rfl) ?_
    refine lv_i2d hx hb dX5_goneShare_28 ?_
    refine lv_ddiv hx hb dX5_goneShare_29 (hnn c_1) ?_
    refine lv_goto (tgt := 34) hx hb dX5_goneShare_30 (by decide) ?_
    exact bret_Rd hx hb hr hS hlocks dX5_goneShare_34 (by rw [← hF, F5_goneShare, if_neg c_1])

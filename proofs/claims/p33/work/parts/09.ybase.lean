-- STATIC ROWS, calls of methods that do not throw there (own text)
/-- a static row of six numbers -/
def bTb (n : String) (f : Nat → Int32) (A : Nat → Prop) (U : State) (H : Heap) : Prop := ∃ t : Nat, va_Z "BottleLoop" n "[I" (.ref t) A U H ∧ va_T .int t 6 (fun k => .int (f k)) A U H
theorem bTb.moved {n : String} {f : Nat → Int32} {A : Nat → Prop} {u U : State} {H : Heap} (hvm : u.vm.Alike U.vm) (h : bTb n f A u H) : bTb n f A U H := h.imp fun _ q => ⟨va_Z.moved hvm q.1, va_T.moved hvm q.2⟩
theorem bTb.kept {n : String} {f : Nat → Int32} {A B : Nat → Prop} {U : State} {H H1 : Heap} (h : bTb n f A U H) (hq : ∀ a : Nat, a < H.size → ¬ A a → H1[a]? = H[a]?) (hAB : ∀ q, B q → A q) : bTb n f B U H1 := h.imp fun _ q => ⟨(va_Z.kept q.1 hq).narrow hAB, (va_T.kept q.2 hq).narrow hAB⟩
def tFirst : Nat → Int32 := fun k => match k with
  | 0 => 8
  | 1 => 15
  | 2 => 25
  | 3 => 150
  | 4 => 6
  | _ => 20
def tLeast : Nat → Int32 := fun k => match k with
  | 0 => 1
  | 1 => 1
  | 2 => 1
  | 3 => 0
  | 4 => 0
  | _ => 2
def tMost : Nat → Int32 := fun k => match k with
  | 0 => 100
  | 1 => 100
  | 2 => 100
  | 3 => 500
  | 4 => 100
  | _ => 1000
/-- entry(row, at), of a static row of six -/
abbrev bPT (D : va_G) (tys : List (ClassId × FieldType)) (t : Nat) (f : Nat → Int32) (H0 : Heap) (av : List Value) : Array Value → State → Prop := va_Pc av (fun U => U.heap = H0 ∧ bK D tys U ∧ va_T .int t 6 (fun k => .int (f k)) (fun _ => False) U H0)
theorem bPST {s : State} {H0 H : Heap} {As : List Value} {D : va_G} {tys : List (ClassId × FieldType)} {A : Nat → Prop} {locs : List Loc} {t : Nat} {f : Nat → Int32} (hk : bK D tys s) (hT : va_T .int t 6 (fun k => .int (f k)) A s H0) (hS : va_S A H0 H locs) : PreS s H (bPT D tys t f H As) As :=
  ⟨fun a U g mk q => ⟨q.1, q.2.1, q.2.2.1.calling, va_T.moved (u := U) (U := U.calling g mk a) (Vm.Alike.refl U.vm) q.2.2.2⟩, fun U hU hW => ⟨rfl, hU, hk.warm hW, va_T.moved hW.alike ((va_T.kept hT hS.2.1).narrow (fun _ h => h.elim))⟩⟩
set_option maxHeartbeats 4000000 in
set_option maxRecDepth 100000 in
theorem C5_entryT (l : Launch) (D : va_G) (cI cO : ClassId) (q : Nat → Nat) (H0 : Heap) {f : Nat → Int32} {t : Nat} (i : Int32) : Met l yX5_entry wsX5_entry ({ frames := 0, cells := 0, slots := 0, locals := 0 }) (bPT D [(cI, .int), (cO, .object RX2)] t f H0 [.ref t, .int i]) (bRi H0 (F5_entry 6 f i)) 0 0 (fun _ => False) := by
  refine Met.ofW (cc := cX5_entry) (maxL := 2) (ret := (some .int)) (by decide) rfl ?_
  intro p e s m args below meth c s₁ B hml hv
  obtain ⟨rfl, hH, hk, hT⟩ := hv
  subst hH
  have hx := B.exec
  have hb := B.bytes
  have hr := B.returns
  have hlocks := B.notSynchronized
  have hS : va_S (fun _ => False) s.heap s.heap [] := va_S.rf
  have hl := lv_entry ([.ref t, .int i]) (n := 2) (Nat.le_of_ble_eq_true rfl)
  rw [lg_entry_eq]
  generalize (lg_sl ([.ref t, .int i]) ++ List.replicate (2 - (lg_sl ([.ref t, .int i])).length) Slot.unset).toArray = ls at hl ⊢
  have hl : lv_has ls 2 [(0, .ref t), (1, .int i)] := hl
  generalize hF : F5_entry 6 f i = tgt
  refine lv_aload_n hx hb dX5_entry_0 rfl (lv_at hl 0 rfl) ?_
  refine lv_ifnull hx hb dX5_entry_1 ?_
  refine lv_iload_n hx hb dX5_entry_4 rfl (lv_at hl 1 rfl) ?_
  refine lv_if_lt (tgt := 20) hx hb dX5_entry_5 (by decide) (fun c_1 => ?_) (fun c_1 => ?_)
  · refine lv_iconst (v := 0) hx hb dX5_entry_20 (by decide) ?_
    exact bret_Ri hx hb hr hS hlocks dX5_entry_21 (by rw [← hF, F5_entry, if_pos c_1])
  · refine lv_iload_n hx hb dX5_entry_8 rfl (lv_at hl 1 rfl) ?_
    refine lv_aload_n hx hb dX5_entry_9 rfl (lv_at hl 0 rfl) ?_
    refine va_tlen (v := Int32.ofNat 6) hx hb hT hS rfl dX5_entry_10 ?_
    refine lv_icmp_ge (tgt := 20) hx hb dX5_entry_11 (by decide) (fun c_2 => ?_) (fun c_2 => ?_)
    · refine lv_iconst (v := 0) hx hb dX5_entry_20 (by decide) ?_
      exact bret_Ri hx hb hr hS hlocks dX5_entry_21 (by rw [← hF, F5_entry, if_neg c_1, if_pos c_2])
    · refine lv_aload_n hx hb dX5_entry_14 rfl (lv_at hl 0 rfl) ?_
      refine lv_iload_n hx hb dX5_entry_15 rfl (lv_at hl 1 rfl) ?_
      refine va_ti (v := .int (f i.toNatClampNeg)) hx hb hT hS (bIn c_1 c_2 (by decide)) rfl dX5_entry_16 ?_
      refine lv_goto (tgt := 21) hx hb dX5_entry_17 (by decide) ?_
      exact bret_Ri hx hb hr hS hlocks dX5_entry_21 (by rw [← hF, F5_entry, if_neg c_1, if_neg c_2])
def bLat (u : bU) : Prop := u 11 0 = 0 ∨ u 11 0 = 1 ∨ u 11 0 = 2 ∨ u 11 0 = 3 ∨ u 11 0 = 4 ∨ u 11 0 = 5

abbrev bRv (H0 : Heap) : Array Value → State → Outcome → State → Prop := va_Qv (fun (_ : Unit) => True) (fun _ t => t.heap = H0) (fun _ => False)
section BRV
variable {p : Program} {l : Launch} {e : Env} {R : Room} {s : State} {m : MethodId} {args : Array Value} {below : List Frame} {meth : Method} {c : Code} {H : Heap} {locs : List Loc} {cells slots : Nat} {Q : State → Prop}
variable {pc : Nat} {ls : Array Slot} {rest st0 : List Value} {a : Array Value} {A0 : Nat → Prop} {H0 : Heap} {cc : ByteArray}
theorem bcall_Rv (hr : va_Run p l e R s m args below meth c H locs cells slots 0 0 (F0 m pc ls st0) rest (bRv H a) (fun _ => False)) (hS : va_S A0 H0 H locs)
    (kk : ∀ locs1 : List Loc, va_S A0 H0 H locs1 → W p l e R s m args below meth c H locs1 cells slots Q (F0 m (pc + 3) ls rest)) : W p l e R s m args below meth c H locs cells slots Q (F0 m pc ls st0) :=
  va_callv hr hS (fun _ _ h => h.elim) (fun _ h => h.elim) (fun u t H1 locs1 ht _ hw hB _ _ hS1 => by
    have e : H1 = H := ht.symm.trans hB
    subst e
    exact kk locs1 hS1)
theorem bret_Rv (hx : p.tables.exec = Jvm.exec) (hb : c.code = cc) (hr : meth.sig.returnType = none) (hS : va_S (fun _ => False) s.heap s.heap locs) (hlocks : meth.locks = false) (hdg : decode cc pc = .ok (.return_, 1)) : W p l e R s m args below meth c s.heap locs 0 0 (MQ below (bRv s.heap) args s 0 0 (fun _ => False)) (F0 m pc ls []) :=
  W.vret hx hb hr (fun t ht _ => ⟨⟨(), rfl, trivial, ht⟩, va_S.F hS ht⟩) hS.2.2 hdg
theorem bret_Rd {v tgt : UInt64} (hx : p.tables.exec = Jvm.exec) (hb : c.code = cc) (hr : meth.sig.returnType = some .double) (hS : va_S (fun _ => False) s.heap s.heap locs) (hlocks : meth.locks = false) (hdg : decode cc pc = .ok (.dreturn, 1)) (hv : v = tgt) : W p l e R s m args below meth c s.heap locs 0 0 (MQ below (bRd s.heap tgt) args s 0 0 (fun _ => False)) (F0 m pc ls [.double v]) :=
  W.dret hx hb hr (fun t ht _ => ⟨⟨v, (), rfl, hv, ht⟩, va_S.F hS ht⟩) hS.2.2 hdg hlocks
theorem bret_Wd {D : va_G} {WD : bU → va_W} {I : bU → Prop} {A : Nat → Prop} {v : UInt64} {u : bU} {tgt : UInt64 × bU} (hx : p.tables.exec = Jvm.exec) (hb : c.code = cc) (hr : meth.sig.returnType = some .double) (hP : va_P D vwCl (WD u) H) (hI : I u) (hS : va_S A s.heap H locs) (hlocks : meth.locks = false) (hdg : decode cc pc = .ok (.dreturn, 1)) (hv : (v, u) = tgt) : W p l e R s m args below meth c H locs 0 0 (MQ below (bWd D WD I A tgt) args s 0 0 A) (F0 m pc ls [.double v]) :=
  W.dret hx hb hr (fun t ht _ => ⟨⟨v, u, rfl, hv, by rw [ht]; exact hP, hI⟩, va_S.F hS ht⟩) hS.2.2 hdg hlocks
end BRV
abbrev bPY (D : va_G) (tys : List (ClassId × FieldType)) (A : Nat → Prop) (H0 : Heap) (av : List Value) : Array Value → State → Prop := va_Pc av (fun U => U.heap = H0 ∧ bK D tys U ∧ bTb "LEAST_SETTING" tLeast A U H0 ∧ bTb "MOST_SETTING" tMost A U H0)
theorem bPVY {s : State} {H0 H : Heap} {C : String} {b : Addr} {As : List Value} {D : va_G} {tys : List (ClassId × FieldType)} {A B : Nat → Prop} {locs : List Loc} (hk : bK D tys s) (hX : bTb "LEAST_SETTING" tLeast A s H0 ∧ bTb "MOST_SETTING" tMost A s H0) (hS : va_S A H0 H locs) (hAB : ∀ q, B q → A q) (hc : ∃ cell : Cell, H[b]? = some cell ∧ cell.vm.isStatics = false ∧ s.vm.findClass C = some cell.cls) : PreV s H C b (bPY D tys B H (.ref b :: As)) As :=
  ⟨fun a U g mk q => ⟨q.1, q.2.1, q.2.2.1.calling, bTb.moved (u := U) (U := U.calling g mk a) (Vm.Alike.refl U.vm) q.2.2.2.1, bTb.moved (u := U) (U := U.calling g mk a) (Vm.Alike.refl U.vm) q.2.2.2.2⟩, hc, fun U hU hW => ⟨rfl, hU, hk.warm hW, bTb.moved hW.alike (hX.1.kept hS.2.1 hAB), bTb.moved hW.alike (hX.2.kept hS.2.1 hAB)⟩⟩
section BY
variable {p : Program} {l : Launch} {e : Env} {R : Room} {s : State} {m : MethodId} {args : Array Value} {below : List Frame} {meth : Method} {c : Code} {H : Heap} {locs : List Loc} {pc : Nat} {ls : Array Slot} {cc : ByteArray}
theorem bret_Yi {D : va_G} {WD : bU → va_W} {A : Nat → Prop} {v : Int32} {u : bU} {tgt : Int32 × Int32 × bU} (hx : p.tables.exec = Jvm.exec) (hb : c.code = cc) (hr : meth.sig.returnType = some .int) (hP : va_P D vwCl (WD u) H) (hS : va_S A s.heap H locs) (hlocks : meth.locks = false) (hdg : decode cc pc = .ok (.ireturn, 1)) (hv : (0, v, u) = tgt) : W p l e R s m args below meth c H locs 0 0 (MQ below (bWi D WD bT A (tgt.2.1, tgt.2.2)) args s 0 0 A) (F0 m pc ls [.int v]) :=
  bret_Wi hx hb hr hP trivial hS hlocks hdg (by rw [← hv])
theorem bret_Yz {D : va_G} {WD : bU → va_W} {A : Nat → Prop} {v : Int32} {u : bU} {tgt : Int32 × Int32 × bU} (hx : p.tables.exec = Jvm.exec) (hb : c.code = cc) (hr : meth.sig.returnType = some .boolean) (hP : va_P D vwCl (WD u) H) (hS : va_S A s.heap H locs) (hlocks : meth.locks = false) (hdg : decode cc pc = .ok (.ireturn, 1)) (h01 : v = 0 ∨ v = 1) (hv : (0, v, u) = tgt) : W p l e R s m args below meth c H locs 0 0 (MQ below (bWi D WD bT A (tgt.2.1, tgt.2.2)) args s 0 0 A) (F0 m pc ls [.int v]) :=
  bret_Wz hx hb hr hP trivial hS hlocks hdg h01 (by rw [← hv])
end BY


-- THROWS: what a method that throws is told, its calls, its ends (own text)
def bStr : List (Nat × String) := [(291, "there is no such brand"), (296, "there is no such shop"), (298, "there is no such setting"), (302, "an argument is not allowed"), (307, "this cannot be done now")]
/-- a static row of six numbers -/
def bTb (n : String) (f : Nat → Int32) (A : Nat → Prop) (U : State) (H : Heap) : Prop := ∃ t : Nat, va_Z "BottleLoop" n "[I" (.ref t) A U H ∧ va_T .int t 6 (fun k => .int (f k)) A U H
theorem bTb.moved {n : String} {f : Nat → Int32} {A : Nat → Prop} {u U : State} {H : Heap} (hvm : u.vm.Alike U.vm) (h : bTb n f A u H) : bTb n f A U H := h.imp fun _ q => ⟨va_Z.moved hvm q.1, va_T.moved hvm q.2⟩
theorem bTb.kept {n : String} {f : Nat → Int32} {A B : Nat → Prop} {U : State} {H H1 : Heap} (h : bTb n f A U H) (hq : ∀ a : Nat, a < H.size → ¬ A a → H1[a]? = H[a]?) (hAB : ∀ q, B q → A q) : bTb n f B U H1 := h.imp fun _ q => ⟨(va_Z.kept q.1 hq).narrow hAB, (va_T.kept q.2 hq).narrow hAB⟩
def tFirst : Nat → Int32 := fun k => match k with
  | 0 => 8
  | 1 => 15
  | 2 => 25
  | 3 => 150
  | 4 => 6
  | _ => 20
def tLeast : Nat → Int32 := fun k => match k with
  | 0 => 1
  | 1 => 1
  | 2 => 1
  | 3 => 0
  | 4 => 0
  | _ => 2
def tMost : Nat → Int32 := fun k => match k with
  | 0 => 100
  | 1 => 100
  | 2 => 100
  | 3 => 500
  | 4 => 100
  | _ => 1000
def bXe (A : Nat → Prop) (U : State) (H : Heap) : Prop := vx_Zq Bundle.tN "UNASSIGNED_STACK" Bundle.steD A U H ∧ vx_Zq Bundle.tN "SUPPRESSED_SENTINEL" Bundle.listD A U H ∧ (∀ x ∈ bStr, ∃ sa : Nat, vk_R RX5 x.1 x.2 sa U) ∧ bTb "FIRST_SETTING" tFirst A U H ∧ bTb "LEAST_SETTING" tLeast A U H ∧ bTb "MOST_SETTING" tMost A U H
theorem bXe.warm {A : Nat → Prop} {s U : State} {H : Heap} (h : bXe A s H) (hW : s.WarmedH U.vm) : bXe A U H := ⟨vx_Zq.moved hW.alike h.1, vx_Zq.moved hW.alike h.2.1, fun x hx => (h.2.2.1 x hx).imp fun _ q => vk_R.warm hW q, bTb.moved hW.alike h.2.2.2.1, bTb.moved hW.alike h.2.2.2.2.1, bTb.moved hW.alike h.2.2.2.2.2⟩
theorem bXe.calling {A : Nat → Prop} {U : State} {H : Heap} {g : JFrame} {mk : MethodId} {a : Array Value} (h : bXe A U H) : bXe A (U.calling g mk a) H := ⟨vx_Zq.moved (u := U) (U := U.calling g mk a) (Vm.Alike.refl U.vm) h.1, vx_Zq.moved (u := U) (U := U.calling g mk a) (Vm.Alike.refl U.vm) h.2.1, fun x hx => (h.2.2.1 x hx).imp fun _ q => vk_R.same (u := U) (U := U.calling g mk a) rfl q, bTb.moved (u := U) (U := U.calling g mk a) (Vm.Alike.refl U.vm) h.2.2.2.1, bTb.moved (u := U) (U := U.calling g mk a) (Vm.Alike.refl U.vm) h.2.2.2.2.1, bTb.moved (u := U) (U := U.calling g mk a) (Vm.Alike.refl U.vm) h.2.2.2.2.2⟩
theorem bXe.kept {A B : Nat → Prop} {s : State} {H0 H : Heap} {locs : List Loc} (h : bXe A s H0) (hS : va_S A H0 H locs) (hAB : ∀ q, B q → A q) : bXe B s H := ⟨(h.1.kept hS.2.1).narrow hAB, (h.2.1.kept hS.2.1).narrow hAB, h.2.2.1, h.2.2.2.1.kept hS.2.1 hAB, h.2.2.2.2.1.kept hS.2.1 hAB, h.2.2.2.2.2.kept hS.2.1 hAB⟩
def bNw (sz : Nat) : Nat → Prop := fun a => sz ≤ a
/-- the class of what is thrown, by its number -/
def bEN (k : Int32) : String := if k = 1 then "java/lang/IndexOutOfBoundsException" else if k = 2 then "java/lang/IllegalArgumentException" else "java/lang/IllegalStateException"
abbrev bPX (D : va_G) (tys : List (ClassId × FieldType)) (A : Nat → Prop) (H0 : Heap) (av : List Value) : Array Value → State → Prop := va_Pc av (fun U => U.heap = H0 ∧ bK D tys U ∧ bXe A U H0)
theorem bPVX {s : State} {H0 H : Heap} {C : String} {b : Addr} {As : List Value} {D : va_G} {tys : List (ClassId × FieldType)} {A B : Nat → Prop} {locs : List Loc} (hk : bK D tys s) (hX : bXe A s H0) (hS : va_S A H0 H locs) (hAB : ∀ q, B q → A q) (hc : ∃ cell : Cell, H[b]? = some cell ∧ cell.vm.isStatics = false ∧ s.vm.findClass C = some cell.cls) : PreV s H C b (bPX D tys B H (.ref b :: As)) As :=
  ⟨fun a U g mk q => ⟨q.1, q.2.1, q.2.2.1.calling, q.2.2.2.calling⟩, hc, fun U hU hW => ⟨rfl, hU, hk.warm hW, (hX.kept hS hAB).warm hW⟩⟩
theorem bPSX {s : State} {H0 H : Heap} {As : List Value} {D : va_G} {tys : List (ClassId × FieldType)} {A B : Nat → Prop} {locs : List Loc} (hk : bK D tys s) (hX : bXe A s H0) (hS : va_S A H0 H locs) (hAB : ∀ q, B q → A q) : PreS s H (bPX D tys B H As) As :=
  ⟨fun a U g mk q => ⟨q.1, q.2.1, q.2.2.1.calling, q.2.2.2.calling⟩, fun U hU hW => ⟨rfl, hU, hk.warm hW, (hX.kept hS hAB).warm hW⟩⟩
theorem bNw_A {n : Nat} {q : Nat → Nat} {a b : Nat} (h : a ≤ b) : ∀ x, bNw b x → bA n q a x := fun _ hx => Or.inr (Nat.le_trans h hx)
theorem bNw_N {a b : Nat} (h : a ≤ b) : ∀ x, bNw b x → bNw a x := fun _ hx => Nat.le_trans h hx
/-- a need: it returns and nothing has changed, or throws, and what was there is there -/
abbrev bNQ (H0 : Heap) (k : Int32) : Array Value → State → Outcome → State → Prop := va_Qv (fun (_ : Unit) => k = 0) (fun _ t => t.heap = H0) (fun _ => False)
abbrev bNX (H0 : Heap) (k : Int32) : String → State → State → Prop := vx_X (fun (_ : Unit) => k ≠ 0) (fun E _ t => E = bEN k ∧ H0.size ≤ t.heap.size ∧ ∀ q : Nat, q < H0.size → t.heap[q]? = H0[q]?) (bNw H0.size)
/-- a method of the face: its answer and the state behind it with 0, or the number of what it throws; then the state is as it was -/
abbrev bXi (D : va_G) (WD : bU → va_W) (A : Nat → Prop) (v : Int32 × Int32 × bU) : Array Value → State → Outcome → State → Prop := va_Qi (fun (r : Int32) (u : bU) => (0, r, u) = v) (fun u t => va_P D vwCl (WD u) t.heap) A
abbrev bXX (D : va_G) (WD : bU → va_W) (A : Nat → Prop) (v : Int32 × Int32 × bU) : String → State → State → Prop := vx_X (fun (_ : Unit) => v.1 ≠ 0) (fun E _ t => E = bEN v.1 ∧ va_P D vwCl (WD v.2.2) t.heap) A
section BX
variable {p : Program} {l : Launch} {e : Env} {R : Room} {s : State} {m : MethodId} {args : Array Value} {below : List Frame} {meth : Method} {c : Code} {H : Heap} {locs : List Loc} {cells slots : Nat} {Q : State → Prop}
variable {pc : Nat} {ls : Array Slot} {rest st0 : List Value} {a : Array Value}
theorem bneedX {k : Int32} {u : bU} {D : va_G} {WD : bU → va_W} {n : Nat} {q : Nat → Nat} {mc ms : Nat} {tgt : Int32 × Int32 × bU} (hr : vx_Run p l e R s m args below meth c H locs cells slots 1 6 (F0 m pc ls st0) rest (bNQ H k a) (bNX H k) (bNw H.size)) (hS : va_S (bA n q s.heap.size) s.heap H locs) (hP : va_P D vwCl (WD u) H) (hnx : ∀ x ∈ c.exceptionTable.toList, False) (hlocks : meth.locks = false) (hc : cells + 1 ≤ mc) (hs : slots + 6 ≤ ms) (ht : k ≠ 0 → (k, 0, u) = tgt)
    (kk : k = 0 → ∀ locs1 : List Loc, va_S (bA n q s.heap.size) s.heap H locs1 → W p l e R s m args below meth c H locs1 (cells + 1) (slots + 6) (vx_MQ below (bXi D WD (bA n q s.heap.size) tgt) (bXX D WD (bA n q s.heap.size) tgt) args s mc ms (bA n q s.heap.size)) (F0 m (pc + 3) ls rest)) :
    W p l e R s m args below meth c H locs cells slots (vx_MQ below (bXi D WD (bA n q s.heap.size) tgt) (bXX D WD (bA n q s.heap.size) tgt) args s mc ms (bA n q s.heap.size)) (F0 m pc ls st0) := by
  refine vx_callv hr hS (fun _ _ h => h.elim) (fun x h => bNw_A hS.1 x h) (fun x _ h => bNw_A hS.1 x h) ?_ ?_
  · intro E ce q9 u' t H1 locs1 hth _ hk hB hz hkeep hS1 hcell hv hcl
    obtain ⟨hE, _, hq⟩ := hB
    rw [hth] at hq
    refine vx_out (fun x hx => (hnx x hx).elim) hlocks hcell hv hcl ?_ hS1.2.2 hc hs
    intro t2 h2 _
    have htt := ht hk
    subst htt
    refine ⟨(), hk, ⟨hE, ?_⟩, hS1.F h2⟩
    rw [h2]
    exact hP.kept fun k2 q2 hq2 => hq q2.1 (hP k2 q2 hq2).lt
  · intro u' t H1 locs1 hth _ hk hB _ _ hS1
    have e : H1 = H := hth.symm.trans hB
    subst e
    exact kk hk locs1 hS1
theorem bneedN {k tgt : Int32} {mc ms : Nat} (hr : vx_Run p l e R s m args below meth c s.heap locs cells slots 1 6 (F0 m pc ls st0) rest (bNQ s.heap k a) (bNX s.heap k) (bNw s.heap.size)) (hS : va_S (bNw s.heap.size) s.heap s.heap locs) (hnx : ∀ x ∈ c.exceptionTable.toList, False) (hlocks : meth.locks = false) (hc : cells + 1 ≤ mc) (hs : slots + 6 ≤ ms) (ht : k ≠ 0 → tgt = k)
    (kk : k = 0 → ∀ locs1 : List Loc, va_S (bNw s.heap.size) s.heap s.heap locs1 → W p l e R s m args below meth c s.heap locs1 (cells + 1) (slots + 6) (vx_MQ below (bNQ s.heap tgt) (bNX s.heap tgt) args s mc ms (bNw s.heap.size)) (F0 m (pc + 3) ls rest)) :
    W p l e R s m args below meth c s.heap locs cells slots (vx_MQ below (bNQ s.heap tgt) (bNX s.heap tgt) args s mc ms (bNw s.heap.size)) (F0 m pc ls st0) := by
  refine vx_callv hr hS (fun _ _ h => h.elim) (fun x h => h) (fun x _ h => h) ?_ ?_
  · intro E ce q9 u' t H1 locs1 hth _ hk hB hz hkeep hS1 hcell hv hcl
    obtain ⟨hE, hz2, hq⟩ := hB
    rw [hth] at hq hz2
    refine vx_out (fun x hx => (hnx x hx).elim) hlocks hcell hv hcl ?_ hS1.2.2 hc hs
    intro t2 h2 _
    exact ⟨(), by rw [ht hk]; exact hk, ⟨by rw [ht hk]; exact hE, by rw [h2]; exact hz2, by rw [h2]; exact hq⟩, hS1.F h2⟩
  · intro u' t H1 locs1 hth _ hk hB _ _ hS1
    have e : H1 = s.heap := hth.symm.trans hB
    subst e
    exact kk hk locs1 hS1
variable {cc : ByteArray}
theorem bret_N {k tgt : Int32} {mc ms : Nat} (hx : p.tables.exec = Jvm.exec) (hb : c.code = cc) (hr : meth.sig.returnType = none) (hS : va_S (bNw s.heap.size) s.heap s.heap locs) (hlocks : meth.locks = false) (hdg : decode cc pc = .ok (.return_, 1)) (hc : cells ≤ mc) (hs : slots ≤ ms) (h0 : k = 0) (hv : k = tgt) : W p l e R s m args below meth c s.heap locs cells slots (vx_MQ below (bNQ s.heap tgt) (bNX s.heap tgt) args s mc ms (bNw s.heap.size)) (F0 m pc ls []) := by
  refine vx_ret (W.widen hc hs (W.vret hx hb hr (fun t ht _ => ⟨⟨(), rfl, hv.symm.trans h0, ht⟩, ?_⟩) hS.2.2 hdg))
  exact ⟨by rw [ht]; exact Nat.le_refl _, fun q _ _ => by rw [ht]⟩
theorem bret_Xi {D : va_G} {WD : bU → va_W} {A : Nat → Prop} {v : Int32} {u : bU} {tgt : Int32 × Int32 × bU} {mc ms : Nat} (hx : p.tables.exec = Jvm.exec) (hb : c.code = cc) (hr : meth.sig.returnType = some .int) (hP : va_P D vwCl (WD u) H) (hS : va_S A s.heap H locs) (hlocks : meth.locks = false) (hdg : decode cc pc = .ok (.ireturn, 1)) (hc : cells ≤ mc) (hs : slots ≤ ms) (hv : (0, v, u) = tgt) : W p l e R s m args below meth c H locs cells slots (vx_MQ below (bXi D WD A tgt) (bXX D WD A tgt) args s mc ms A) (F0 m pc ls [.int v]) :=
  vx_ret (W.widen hc hs (W.iret hx hb hr (fun t ht _ => ⟨⟨v, u, rfl, hv, by show va_P D vwCl (WD u) t.heap; rw [ht]; exact hP⟩, va_S.F hS ht⟩) hS.2.2 hdg hlocks))
theorem bthrow {own cls text : String} {ik is ic : Nat} {k tgt : Int32} {Ts : List Cond} (hx : p.tables.exec = Jvm.exec) (hb : c.code = cc) (hl : l.stackTraces = false) (hown : s.vm.findClass own = some m.cls) (hcls : Bundle.fit cls = true) (hkl : (Cond.classLink own ik cls).before args s = true) (hini : (Cond.initialized cls).before args s = true) (hstr : ∃ sa : Nat, vk_R own is text sa s) (hts : ∀ w ∈ Ts, w.before args s = true) (hsub : ∀ w ∈ (vx_atS own ic cls ["java/lang/RuntimeException", "java/lang/Exception"]).filter goodWord, w ∈ Ts) (hcast : va_Nw (.castable cls cls) s) (hd1 : va_Nw (.declares ⟨"java/lang/RuntimeException", "<init>", "(Ljava/lang/String;)V"⟩) s) (hd2 : va_Nw (.declares ⟨"java/lang/Exception", "<init>", "(Ljava/lang/String;)V"⟩) s) (hd3 : va_Nw (.declares ⟨"java/lang/Throwable", "<init>", "(Ljava/lang/String;)V"⟩) s) (hbad : ∀ w ∈ (vx_atS own ic cls ["java/lang/RuntimeException", "java/lang/Exception"]).filter (fun w => !goodWord w), w ∈ [Cond.castable cls cls, .declares ⟨"java/lang/RuntimeException", "<init>", "(Ljava/lang/String;)V"⟩, .declares ⟨"java/lang/Exception", "<init>", "(Ljava/lang/String;)V"⟩, .declares ⟨"java/lang/Throwable", "<init>", "(Ljava/lang/String;)V"⟩])
    (hgood : ∀ w ∈ Cond.classLink own ik cls :: Cond.initialized cls :: vx_atS own ic cls ["java/lang/RuntimeException", "java/lang/Exception"], vx_ot w = true) (hX : bXe (bNw s.heap.size) s s.heap) (hS : va_S (bNw s.heap.size) s.heap s.heap locs) (hsize : ls.size = c.maxLocals)
    (d0 : decode cc pc = .ok (.new ik, 3)) (d3 : decode cc (pc + 3) = .ok (.dup, 1)) (d4 : decode cc (pc + 4) = .ok (.ldc_w is, 3)) (d7 : decode cc (pc + 7) = .ok (.invokespecial ic, 3)) (d10 : decode cc (pc + 10) = .ok (.athrow, 1)) (hnx : ∀ x ∈ c.exceptionTable.toList, False)
    (hRf : 5 < R.frames) (hRl : 82 ≤ R.locals) (hRc : cells + 1 ≤ R.cells) (hRs : slots + 6 ≤ R.slots) (hlocks : meth.locks = false) (hc : cells + 1 ≤ 1) (hs : slots + 6 ≤ 6) (hE : cls = bEN k) (hk : k ≠ 0) (hv : k = tgt) :
    W p l e R s m args below meth c s.heap locs cells slots (vx_MQ below (bNQ s.heap tgt) (bNX s.heap tgt) args s 1 6 (bNw s.heap.size)) (F0 m pc ls []) := by
  obtain ⟨sa, hstr⟩ := hstr
  subst hv
  exact vx_throwSW hx hb hl hown hcls (by decide +kernel) hkl hini hstr (vx_hat (fun w hw => hts w (hsub w hw)) hbad (vx_c (va_Nw.use rfl hcast) (vx_c (va_Nw.use rfl hd1) (vx_c (va_Nw.use rfl hd2) (vx_c (va_Nw.use rfl hd3) vx_n))))) hgood hX.1 hX.2.1 hS hsize d0 d3 d4 d7 d10 (fun x h => (hnx x h).elim) hRf hRl hRc hRs hlocks
    (fun t _ hz hq => ⟨(), hk, ⟨hE, hz, hq⟩, ⟨hz, fun q h1 _ => hq q h1⟩⟩) hS.2.2 hc hs
end BX

/-- entry(row, at), of a static row of six -/
abbrev bPT (D : va_G) (tys : List (ClassId × FieldType)) (t : Nat) (f : Nat → Int32) (H0 : Heap) (av : List Value) : Array Value → State → Prop := va_Pc av (fun U => U.heap = H0 ∧ bK D tys U ∧ va_T .int t 6 (fun k => .int (f k)) (fun _ => False) U H0)
theorem bPST {s : State} {H0 H : Heap} {As : List Value} {D : va_G} {tys : List (ClassId × FieldType)} {A : Nat → Prop} {locs : List Loc} {t : Nat} {f : Nat → Int32} (hk : bK D tys s) (hT : va_T .int t 6 (fun k => .int (f k)) A s H0) (hS : va_S A H0 H locs) : PreS s H (bPT D tys t f H As) As :=
  ⟨fun a U g mk q => ⟨q.1, q.2.1, q.2.2.1.calling, va_T.moved (u := U) (U := U.calling g mk a) (Vm.Alike.refl U.vm) q.2.2.2⟩, fun U hU hW => ⟨rfl, hU, hk.warm hW, va_T.moved hW.alike ((va_T.kept hT hS.2.1).narrow (fun _ h => h.elim))⟩⟩
set_option maxHeartbeats 4000000 in
set_option maxRecDepth 100000 in
theorem C5_entryT (l : Launch) (D : va_G) (cI cO : ClassId) (q : Nat → Nat) (H0 : Heap) {f : Nat → Int32} {t : Nat} (i : Int32) : Met l yX5_entry wsX5_entry ({ frames := 0, cells := 0, slots := 0, locals := 0 }) (bPT D [(cI, .int), (cO, .object RX2)] t f H0 [.ref t, .int i]) (bRi H0 (F5_entry 6 f i)) 0 0 (fun _ => False) := by
  refine Met.ofW (cc := cX5_entry) (maxL := 2) (ret := (some .int)) (by decide) rfl ?_
  intro p e s m args below meth c s₁ B hml hv
  obtain ⟨rfl, hH, hk, hT⟩ := hv
  subst hH
  have hx := B.exec
  have hb := B.bytes
  have hr := B.returns
  have hlocks := B.notSynchronized
  have hS : va_S (fun _ => False) s.heap s.heap [] := va_S.rf
  have hl := lv_entry ([.ref t, .int i]) (n := 2) (Nat.le_of_ble_eq_true rfl)
  rw [lg_entry_eq]
  generalize (lg_sl ([.ref t, .int i]) ++ List.replicate (2 - (lg_sl ([.ref t, .int i])).length) Slot.unset).toArray = ls at hl ⊢
  have hl : lv_has ls 2 [(0, .ref t), (1, .int i)] := hl
  generalize hF : F5_entry 6 f i = tgt
  refine lv_aload_n hx hb dX5_entry_0 rfl (lv_at hl 0 rfl) ?_
  refine lv_ifnull hx hb dX5_entry_1 ?_
  refine lv_iload_n hx hb dX5_entry_4 rfl (lv_at hl 1 rfl) ?_
  refine lv_if_lt (tgt := 20) hx hb dX5_entry_5 (by decide) (fun c_1 => ?_) (fun c_1 => ?_)
  · refine lv_iconst (v := 0) hx hb dX5_entry_20 (by decide) ?_
    exact bret_Ri hx hb hr hS hlocks dX5_entry_21 (by rw [← hF, F5_entry, if_pos c_1])
  · refine lv_iload_n hx hb dX5_entry_8 rfl (lv_at hl 1 rfl) ?_
    refine lv_aload_n hx hb dX5_entry_9 rfl (lv_at hl 0 rfl) ?_
    refine va_tlen (v := Int32.ofNat 6) hx hb hT hS rfl dX5_entry_10 ?_
    refine lv_icmp_ge (tgt := 20) hx hb dX5_entry_11 (by decide) (fun c_2 => ?_) (fun c_2 => ?_)
    · refine lv_iconst (v := 0) hx hb dX5_entry_20 (by decide) ?_
      exact bret_Ri hx hb hr hS hlocks dX5_entry_21 (by rw [← hF, F5_entry, if_neg c_1, if_pos c_2])
    · refine lv_aload_n hx hb dX5_entry_14 rfl (lv_at hl 0 rfl) ?_
      refine lv_iload_n hx hb dX5_entry_15 rfl (lv_at hl 1 rfl) ?_
      refine va_ti (v := .int (f i.toNatClampNeg)) hx hb hT hS (bIn c_1 c_2 (by decide)) rfl dX5_entry_16 ?_
      refine lv_goto (tgt := 21) hx hb dX5_entry_17 (by decide) ?_
      exact bret_Ri hx hb hr hS hlocks dX5_entry_21 (by rw [← hF, F5_entry, if_neg c_1, if_neg c_2])
def bLat (u : bU) : Prop := u 11 0 = 0 ∨ u 11 0 = 1 ∨ u 11 0 = 2 ∨ u 11 0 = 3 ∨ u 11 0 = 4 ∨ u 11 0 = 5


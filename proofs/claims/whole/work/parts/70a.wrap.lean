-- the law's wrappers: a call of the class, its answer put into a row of one long, what it throws turned into a number (own text, part by program)
def wCo (cI cO cL : ClassId) (q : Nat → Nat) (u : bU) (g : Nat → Int64) : va_W := wC cI cO q u ++ [(q 23, .inl (cL, 1, .inr (.inl g)))]
theorem wCo_addr (cI cO cL : ClassId) (q : Nat → Nat) (u : bU) (g : Nat → Int64) : (wCo cI cO cL q u g).map Prod.fst = (List.range 24).map q := rfl
theorem wCo_D {cI cO cL : ClassId} {q : Nat → Nat} {u : bU} {g : Nat → Int64} {sz : Nat} (hq : bInj 24 q) : va_D (bA 24 q sz) (wCo cI cO cL q u g) := bD_of (wCo_addr cI cO cL q u g) hq
theorem wCo_C {D : va_G} {cI cO cL : ClassId} {q : Nat → Nat} {u : bU} {g : Nat → Int64} {H : Heap} (h : va_P D vwCl (wCo cI cO cL q u g) H) : va_P D vwCl (wC cI cO q u) H := fun k x hk => h k x (by
  unfold wCo
  rw [List.getElem?_append_left (List.getElem?_eq_some_iff.mp hk).1]
  exact hk)
theorem wCo_o {D : va_G} {cI cO cL : ClassId} {q : Nat → Nat} {u : bU} {g : Nat → Int64} {H : Heap} (h : va_P D vwCl (wCo cI cO cL q u g) H) : H[q 23]? = some (vp_cell cL (1, .inr (.inl g))) := h 23 (q 23, .inl (cL, 1, .inr (.inl g))) rfl
theorem wCo_of {D : va_G} {cI cO cL : ClassId} {q : Nat → Nat} {u : bU} {g : Nat → Int64} {H : Heap} (h : va_P D vwCl (wC cI cO q u) H) (ho : H[q 23]? = some (vp_cell cL (1, .inr (.inl g)))) : va_P D vwCl (wCo cI cO cL q u g) H := va_P.app h (fun k x hk => by
  have h1 : k < 1 := (List.getElem?_eq_some_iff.mp hk).1
  obtain rfl : k = 0 := by omega
  cases hk
  exact ho)
theorem bInj_23 {q : Nat → Nat} (hq : bInj 24 q) : bInj 23 q := fun i j hi hj h => hq i j (by omega) (by omega) h
theorem bA_34 {q : Nat → Nat} {a b : Nat} (h : a ≤ b) : ∀ x, bA 23 q b x → bA 24 q a x := fun x hx => by
  rcases hx with ⟨k, hk, e⟩ | hx
  · exact Or.inl ⟨k, by omega, e⟩
  · exact Or.inr (Nat.le_trans h hx)
theorem wCo_k {q : Nat → Nat} {H H1 : Heap} {c : Cell} (h : H[q 23]? = some c) (hk : ∀ x : Nat, x < H.size → ¬ bA 23 q H.size x → H1[x]? = H[x]?) (hq : bInj 24 q) : H1[q 23]? = some c := by
  have hlt : q 23 < H.size := (Array.getElem?_eq_some_iff.mp h).1
  rw [hk _ hlt (fun hx => by
    rcases hx with ⟨k, hk2, e⟩ | hx
    · have := hq k 23 (by omega) (by omega) e
      omega
    · omega)]
  exact h
def bNC (U : State) : Prop := va_Nc "java/lang/IllegalArgumentException" "java/lang/IndexOutOfBoundsException" U ∧ va_Nc "java/lang/IllegalStateException" "java/lang/IndexOutOfBoundsException" U ∧ va_Nc "java/lang/IllegalStateException" "java/lang/IllegalArgumentException" U
theorem bNC.moved {u U : State} (hvm : u.vm.Alike U.vm) (h : bNC u) : bNC U := ⟨va_Nc.moved hvm h.1, va_Nc.moved hvm h.2.1, va_Nc.moved hvm h.2.2⟩
abbrev bPL (D : va_G) (cI cO cL : ClassId) (A : Nat → Prop) (H0 : Heap) (av : List Value) : Array Value → State → Prop := va_Pc av (fun U => U.heap = H0 ∧ bK D [(cI, .int), (cO, .object RX2)] U ∧ bXe A U H0 ∧ va_K D vwCl [(cL, .long)] U ∧ bNC U)
theorem bPSL {s : State} {H0 H : Heap} {As : List Value} {D : va_G} {cI cO cL : ClassId} {A B : Nat → Prop} {locs : List Loc} (hk : bK D [(cI, .int), (cO, .object RX2)] s) (hX : bXe A s H0) (hKL : va_K D vwCl [(cL, .long)] s) (hN : bNC s) (hS : va_S A H0 H locs) (hAB : ∀ q, B q → A q) : PreS s H (bPL D cI cO cL B H As) As :=
  ⟨fun a U g mk q => ⟨q.1, q.2.1, q.2.2.1.calling, q.2.2.2.1.calling, va_K.moved (u := U) (U := U.calling g mk a) (Vm.Alike.refl U.vm) q.2.2.2.2.1, bNC.moved (u := U) (U := U.calling g mk a) (Vm.Alike.refl U.vm) q.2.2.2.2.2⟩, fun U hU hW => ⟨rfl, hU, hk.warm hW, (hX.kept hS hAB).warm hW, va_K.moved hW.alike hKL, bNC.moved hW.alike hN⟩⟩
abbrev bLi (D : va_G) (cI cO cL : ClassId) (q : Nat → Nat) (A : Nat → Prop) (cd : Int32 → Int32) (v : Int32 × Int32 × bU) : Array Value → State → Outcome → State → Prop := va_Qi (fun (r : Int32) (g : Nat → Int64) => r = cd v.1 ∧ (v.1 = 0 → g 0 = v.2.1.toInt64)) (fun g t => va_P D vwCl (wCo cI cO cL q v.2.2 g) t.heap) A
theorem Met.ofWH {l : Launch} {y : MethodName} {ws ws' : List Cond} {rm : Room} {Pc : Array Value → State → Prop} {Qc : Array Value → State → Outcome → State → Prop} {mc ms : Nat} {free : Addr → Prop} {cc : ByteArray} {maxL : Nat} {ret : Option FieldType} {hh : List (Nat × Nat × Nat × Nat)} (hy : plainName y.cls = true) (hw : ws = Cond.codeWith y cc maxL ret hh :: ws')
    (body : ∀ p e s m args below meth c s₁, BodyLoose p l y (headSpec ws rm) cc maxL ret e s m args below meth c s₁ → c.maxLocals = maxL → Pc args s → W p l e (headSpec ws rm).room s m args below meth c s.heap [] 0 0 (MQ below Qc args s mc ms free) (entryFrame m args maxL)) : Met l y ws rm Pc Qc mc ms free := by
  refine MetFree.of_bodyS (code := cc) (maxLocals := maxL) (ret := ret) hy ?_ ?_
  · intro args s m h hn
    have hc := Cond.codeWith_spec (atoms_spec (ws := ws) h _ (by rw [hw]; exact List.mem_cons_self))
    obtain ⟨m9, meth, c, hn9, h1, h2, h3, h4, -, h5, h6, -⟩ := hc
    cases hn.symm.trans hn9
    exact ⟨meth, c, h1, h2, h3, h4, h5, h6⟩
  · intro p e s m args below meth c s₁ B hml hP _
    have hh0 : s₁.heap = s.heap := by rw [B.state]; rfl
    have hb := body p e s m args below meth c s₁ B hml hP s₁ hh0 (Stand.of_body B)
    obtain ⟨t, a1, o, b1, b2, b3⟩ := hb
    exact ⟨t, o, a1, b1, b2, b3⟩
theorem n_arg (x : Int32) : F5_needArgument x = 0 ∨ F5_needArgument x = 2 := by
  unfold F5_needArgument
  split
  · exact Or.inr rfl
  · exact Or.inl rfl
theorem n_st (x : Int32) : F5_needState x = 0 ∨ F5_needState x = 3 := by
  unfold F5_needState
  split
  · exact Or.inr rfl
  · exact Or.inl rfl
theorem n_rng (x a b : Int32) : F5_needRange x a b = 0 ∨ F5_needRange x a b = 2 := by
  unfold F5_needRange
  (repeat' split) <;> first | exact Or.inl rfl | exact n_arg _
theorem n_kd (x : Int32) : F5_needKind x = 0 ∨ F5_needKind x = 2 := by
  unfold F5_needKind
  split
  · exact Or.inl rfl
  · exact n_rng _ _ _
theorem n_set (x : Int32) : F5_needSetting x = 0 ∨ F5_needSetting x = 1 := by
  unfold F5_needSetting
  (repeat' split) <;> first | exact Or.inl rfl | exact Or.inr rfl
theorem n_br (u : bU) (x : Int32) : F5_needBrand u x = 0 ∨ F5_needBrand u x = 1 := by
  unfold F5_needBrand
  split
  · exact Or.inr rfl
  · exact Or.inl rfl
theorem n_sh (u : bU) (x : Int32) : F5_needShop u x = 0 ∨ F5_needShop u x = 1 := by
  unfold F5_needShop
  split
  · exact Or.inr rfl
  · exact Or.inl rfl
theorem bd_X5addBrand : yX5_addBrand.cls ≠ "java/lang/invoke/MethodHandle" ∧ yX5_addBrand.cls ≠ "java/lang/invoke/VarHandle" ∧ (parseMethodDescriptor yX5_addBrand.desc).map (fun d => d.parameters.length) = some 2 := by decide +kernel
theorem bd_X5addShop : yX5_addShop.cls ≠ "java/lang/invoke/MethodHandle" ∧ yX5_addShop.cls ≠ "java/lang/invoke/VarHandle" ∧ (parseMethodDescriptor yX5_addShop.desc).map (fun d => d.parameters.length) = some 1 := by decide +kernel
theorem bd_X5buyCrates : yX5_buyCrates.cls ≠ "java/lang/invoke/MethodHandle" ∧ yX5_buyCrates.cls ≠ "java/lang/invoke/VarHandle" ∧ (parseMethodDescriptor yX5_buyCrates.desc).map (fun d => d.parameters.length) = some 1 := by decide +kernel
theorem bd_X5set : yX5_set.cls ≠ "java/lang/invoke/MethodHandle" ∧ yX5_set.cls ≠ "java/lang/invoke/VarHandle" ∧ (parseMethodDescriptor yX5_set.desc).map (fun d => d.parameters.length) = some 2 := by decide +kernel
theorem bd_X5fill : yX5_fill.cls ≠ "java/lang/invoke/MethodHandle" ∧ yX5_fill.cls ≠ "java/lang/invoke/VarHandle" ∧ (parseMethodDescriptor yX5_fill.desc).map (fun d => d.parameters.length) = some 2 := by decide +kernel
theorem bd_X5deliver : yX5_deliver.cls ≠ "java/lang/invoke/MethodHandle" ∧ yX5_deliver.cls ≠ "java/lang/invoke/VarHandle" ∧ (parseMethodDescriptor yX5_deliver.desc).map (fun d => d.parameters.length) = some 3 := by decide +kernel
theorem bd_X5sell : yX5_sell.cls ≠ "java/lang/invoke/MethodHandle" ∧ yX5_sell.cls ≠ "java/lang/invoke/VarHandle" ∧ (parseMethodDescriptor yX5_sell.desc).map (fun d => d.parameters.length) = some 3 := by decide +kernel
theorem cd_addBrand (u : bU) (a1 : Int32) (a2 : Int32) : (F5_addBrand u a1 a2).1 = 0 ∨ (F5_addBrand u a1 a2).1 = 2 ∨ (F5_addBrand u a1 a2).1 = 3 := by
  unfold F5_addBrand
  (repeat' split) <;> first | with_reducible exact Or.inl rfl | (dsimp only; first | with_reducible exact (n_arg _).elim Or.inl (fun h => Or.inr (Or.inl h)) | with_reducible exact (n_st _).elim Or.inl (fun h => Or.inr (Or.inr (h))) | with_reducible exact (n_rng _ _ _).elim Or.inl (fun h => Or.inr (Or.inl h)) | with_reducible exact (n_kd _).elim Or.inl (fun h => Or.inr (Or.inl h)))
set_option maxHeartbeats 4000000 in
set_option maxRecDepth 100000 in
theorem CL_addBrand (l : Launch) (D : va_G) (cI cO cL : ClassId) (q : Nat → Nat) (u : bU) (g : Nat → Int64) (H0 : Heap) (hq : bInj 24 q) (hl9 : l.stackTraces = false) (hP : va_P D vwCl (wCo cI cO cL q u g) H0) (a1 : Int32) (a2 : Int32) (hlat : bLat u) : Met l yL_addBrand wsL_addBrand ({ frames := 10, cells := 3, slots := 18, locals := 266 }) (bPL D cI cO cL (bA 24 q H0.size) H0 [.ref (q 0), .int a1, .int a2, .ref (q 23)]) (bLi D cI cO cL q (bA 24 q H0.size) cdA (F5_addBrand u a1 a2)) 3 18 (bA 24 q H0.size) := by
  refine Met.ofWH (cc := cL_addBrand) (maxL := 5) (ret := (some .int)) (hh := [(0, 10, 13, 13), (0, 10, 17, 15)]) (by decide) rfl ?_
  intro p e s m args below meth c s₁ B hml hv
  obtain ⟨rfl, hH, hk, hX, hKL, hNC⟩ := hv
  subst hH
  have hx := B.exec
  have hb := B.bytes
  have hr := B.returns
  have hts := atoms_spec (ws := wsL_addBrand) B.pre
  have hown : s.vm.findClass RL = some m.cls := findClass_of_methodNamed B.named
  have hlocks := B.notSynchronized
  have htab : c.exceptionTable.toList = tableOf [(0, 10, 13, 13), (0, 10, 17, 15)] := vx_table (x := yL_addBrand) B (hts _ List.mem_cons_self)
  have hS : va_S (bA 24 q s.heap.size) s.heap s.heap [] := va_S.rf
  have hl := lv_entry ([.ref (q 0), .int a1, .int a2, .ref (q 23)]) (n := 5) (Nat.le_of_ble_eq_true rfl)
  rw [lg_entry_eq]
  generalize (lg_sl ([.ref (q 0), .int a1, .int a2, .ref (q 23)]) ++ List.replicate (5 - (lg_sl ([.ref (q 0), .int a1, .int a2, .ref (q 23)])).length) Slot.unset).toArray = ls at hl ⊢
  have hl : lv_has ls 5 [(0, .ref (q 0)), (1, .int a1), (2, .int a2), (3, .ref (q 23))] := hl
  have hPC := wCo_C hP
  have hPo := wCo_o hP
  have hq23 := bInj_23 hq
  refine lv_aload_n hx hb dL_addBrand_0 rfl (lv_at hl 3 rfl) ?_
  refine lv_iconst (v := 0) hx hb dL_addBrand_1 (by decide) ?_
  refine lv_aload_n hx hb dL_addBrand_2 rfl (lv_at hl 0 rfl) ?_
  refine lv_iload_n hx hb dL_addBrand_3 rfl (lv_at hl 1 rfl) ?_
  refine lv_iload_n hx hb dL_addBrand_4 rfl (lv_at hl 2 rfl) ?_
  refine vx_calli (vx_runV (As := [.int a1, .int a2]) (rest := [.int 0, .ref (q 23)]) ⟨hx, hb, hml, hown, hts⟩ (C5_addBrand l D cI cO q u _ hq23 hl9 hPC a1 a2 hlat) (cwV 2 hts gL_addBrand_X5_addBrand rfl rfl rfl ⟨rfl, bd_X5addBrand⟩ ⟨Nat.le_of_ble_eq_true rfl, Nat.le_of_ble_eq_true rfl⟩) (bPVX hk hX hS (bA_34 (Nat.le_refl _)) (va_recv hk.1 hPC (ci := 5) (q0 := 0) rfl (wC_0 _ _ _ _))) rfl rfl hl.1 rfl (lv_room (Nat.le_of_ble_eq_true rfl)) dL_addBrand_5 ⟨Nat.le_of_ble_eq_true rfl, Nat.le_of_ble_eq_true rfl⟩) hS (fun x _ h => bA_34 (Nat.le_refl _) x h) (fun x h => bA_34 (Nat.le_refl _) x h) (fun x _ h => bA_34 (Nat.le_refl _) x h) ?_ ?_
  · intro E ce q9 u9 t H1 locs1 ht _ hne hB hz hk1 hS1 hcell hv9 hcl
    obtain ⟨hE, hPx⟩ := hB
    rw [ht] at hPx
    have hPj := wCo_of (g := g) (u := (F5_addBrand u a1 a2).2.2) hPx (wCo_k hPo hk1 hq)
    refine vx_widen (k := 3) (n := 18) (by omega) (by omega) ?_
    rcases cd_addBrand u a1 a2 with h9 | h9 | h9
    · exact absurd h9 hne
    · rw [h9] at hE
      obtain rfl : E = "java/lang/IllegalArgumentException" := hE.trans (by decide +kernel)
      refine vx_catch (own := RL) (name := "java/lang/IllegalArgumentException") hown [] ⟨0, 10, 13, 13⟩ [⟨0, 10, 17, 15⟩] (by rw [htab]; rfl) (fun z hz => by cases hz) (by decide) (by decide) (hts (.classLink RL 13 "java/lang/IllegalArgumentException") (List.mem_of_getElem? (i := 1) rfl)) (va_Nw.use rfl (hk.2 (.castable "java/lang/IllegalArgumentException" "java/lang/IllegalArgumentException") (List.mem_of_getElem? (i := 72) rfl))) hcell hv9 hcl ?_
      refine lv_astore (lv' := [(4, .ref q9), (0, .ref (q 0)), (1, .int a1), (2, .int a2), (3, .ref (q 23))]) hx hb dL_addBrand_13 hl (by decide) rfl (fun ls hl => ?_)
      refine lv_iconst (v := 1) hx hb dL_addBrand_15 (by decide) ?_
      exact W.iret hx hb hr (fun t2 ht2 _ => ⟨⟨1, g, rfl, ⟨by rw [h9]; rfl, fun h0 => absurd h0 hne⟩, by show va_P D vwCl _ t2.heap; rw [ht2]; exact hPj⟩, hS1.F ht2⟩) hS1.2.2 dL_addBrand_16 hlocks
    · rw [h9] at hE
      obtain rfl : E = "java/lang/IllegalStateException" := hE.trans (by decide +kernel)
      refine vx_catch (own := RL) (name := "java/lang/IllegalStateException") hown [⟨0, 10, 13, 13⟩] ⟨0, 10, 17, 15⟩ [] (by rw [htab]; rfl) (fun z hz => by rcases List.mem_cons.mp hz with rfl | hz; exact Or.inr ⟨(by decide), "java/lang/IllegalArgumentException", (hts (.classLink RL 13 "java/lang/IllegalArgumentException") (List.mem_of_getElem? (i := 1) rfl)), hNC.2.2⟩; cases hz) (by decide) (by decide) (hts (.classLink RL 15 "java/lang/IllegalStateException") (List.mem_of_getElem? (i := 2) rfl)) (va_Nw.use rfl (hk.2 (.castable "java/lang/IllegalStateException" "java/lang/IllegalStateException") (List.mem_of_getElem? (i := 73) rfl))) hcell hv9 hcl ?_
      refine lv_astore (lv' := [(4, .ref q9), (0, .ref (q 0)), (1, .int a1), (2, .int a2), (3, .ref (q 23))]) hx hb dL_addBrand_17 hl (by decide) rfl (fun ls hl => ?_)
      refine lv_iconst (v := 2) hx hb dL_addBrand_19 (by decide) ?_
      exact W.iret hx hb hr (fun t2 ht2 _ => ⟨⟨2, g, rfl, ⟨by rw [h9]; rfl, fun h0 => absurd h0 hne⟩, by show va_P D vwCl _ t2.heap; rw [ht2]; exact hPj⟩, hS1.F ht2⟩) hS1.2.2 dL_addBrand_20 hlocks
  · intro r u2 t H1 locs1 ht _ hw hB hz hk1 hS1
    rw [ht] at hB
    have hPj := wCo_of (g := g) (u := u2) hB (wCo_k hPo hk1 hq)
    refine W.widen (k := 3) (n := 18) (by omega) (by omega) ?_
    refine lv_i2l (v := r.toInt64) hx hb dL_addBrand_8 rfl ?_
    refine va_last hx hb hKL hPj (wCo_D hq) hS1 23 0 rfl rfl (vp_in_nI (n := 0) (by decide) (by decide)) dL_addBrand_9 (fun H2 locs2 hP2 _ hS2 => ?_)
    have hP2 : va_P D vwCl (wCo cI cO cL q u2 (vp_updL g (0 : Int32).toNatClampNeg r.toInt64)) H2 := hP2
    refine lv_goto (tgt := 21) hx hb dL_addBrand_10 (by decide) ?_
    refine lv_iconst (v := 0) hx hb dL_addBrand_21 (by decide) ?_
    exact W.iret hx hb hr (fun t2 ht2 _ => ⟨⟨0, vp_updL g (0 : Int32).toNatClampNeg r.toInt64, rfl, ⟨by rw [← hw]; rfl, fun _ => by rw [← hw]; exact if_pos rfl⟩, by show va_P D vwCl _ t2.heap; rw [ht2, ← hw]; exact hP2⟩, hS2.F ht2⟩) hS2.2.2 dL_addBrand_22 hlocks
theorem cd_addShop (u : bU) (a1 : Int32) : (F5_addShop u a1).1 = 0 ∨ (F5_addShop u a1).1 = 2 ∨ (F5_addShop u a1).1 = 3 := by
  unfold F5_addShop
  (repeat' split) <;> first | with_reducible exact Or.inl rfl | (dsimp only; first | with_reducible exact (n_arg _).elim Or.inl (fun h => Or.inr (Or.inl h)) | with_reducible exact (n_st _).elim Or.inl (fun h => Or.inr (Or.inr (h))) | with_reducible exact (n_rng _ _ _).elim Or.inl (fun h => Or.inr (Or.inl h)) | with_reducible exact (n_kd _).elim Or.inl (fun h => Or.inr (Or.inl h)))
set_option maxHeartbeats 4000000 in
set_option maxRecDepth 100000 in
theorem CL_addShop (l : Launch) (D : va_G) (cI cO cL : ClassId) (q : Nat → Nat) (u : bU) (g : Nat → Int64) (H0 : Heap) (hq : bInj 24 q) (hl9 : l.stackTraces = false) (hP : va_P D vwCl (wCo cI cO cL q u g) H0) (a1 : Int32) (hlat : bLat u) : Met l yL_addShop wsL_addShop ({ frames := 9, cells := 2, slots := 12, locals := 265 }) (bPL D cI cO cL (bA 24 q H0.size) H0 [.ref (q 0), .int a1, .ref (q 23)]) (bLi D cI cO cL q (bA 24 q H0.size) cdA (F5_addShop u a1)) 2 12 (bA 24 q H0.size) := by
  refine Met.ofWH (cc := cL_addShop) (maxL := 4) (ret := (some .int)) (hh := [(0, 9, 12, 13), (0, 9, 15, 15)]) (by decide) rfl ?_
  intro p e s m args below meth c s₁ B hml hv
  obtain ⟨rfl, hH, hk, hX, hKL, hNC⟩ := hv
  subst hH
  have hx := B.exec
  have hb := B.bytes
  have hr := B.returns
  have hts := atoms_spec (ws := wsL_addShop) B.pre
  have hown : s.vm.findClass RL = some m.cls := findClass_of_methodNamed B.named
  have hlocks := B.notSynchronized
  have htab : c.exceptionTable.toList = tableOf [(0, 9, 12, 13), (0, 9, 15, 15)] := vx_table (x := yL_addShop) B (hts _ List.mem_cons_self)
  have hS : va_S (bA 24 q s.heap.size) s.heap s.heap [] := va_S.rf
  have hl := lv_entry ([.ref (q 0), .int a1, .ref (q 23)]) (n := 4) (Nat.le_of_ble_eq_true rfl)
  rw [lg_entry_eq]
  generalize (lg_sl ([.ref (q 0), .int a1, .ref (q 23)]) ++ List.replicate (4 - (lg_sl ([.ref (q 0), .int a1, .ref (q 23)])).length) Slot.unset).toArray = ls at hl ⊢
  have hl : lv_has ls 4 [(0, .ref (q 0)), (1, .int a1), (2, .ref (q 23))] := hl
  have hPC := wCo_C hP
  have hPo := wCo_o hP
  have hq23 := bInj_23 hq
  refine lv_aload_n hx hb dL_addShop_0 rfl (lv_at hl 2 rfl) ?_
  refine lv_iconst (v := 0) hx hb dL_addShop_1 (by decide) ?_
  refine lv_aload_n hx hb dL_addShop_2 rfl (lv_at hl 0 rfl) ?_
  refine lv_iload_n hx hb dL_addShop_3 rfl (lv_at hl 1 rfl) ?_
  refine vx_calli (vx_runV (As := [.int a1]) (rest := [.int 0, .ref (q 23)]) ⟨hx, hb, hml, hown, hts⟩ (C5_addShop l D cI cO q u _ hq23 hl9 hPC a1 hlat) (cwV 1 hts gL_addShop_X5_addShop rfl rfl rfl ⟨rfl, bd_X5addShop⟩ ⟨Nat.le_of_ble_eq_true rfl, Nat.le_of_ble_eq_true rfl⟩) (bPVX hk hX hS (bA_34 (Nat.le_refl _)) (va_recv hk.1 hPC (ci := 5) (q0 := 0) rfl (wC_0 _ _ _ _))) rfl rfl hl.1 rfl (lv_room (Nat.le_of_ble_eq_true rfl)) dL_addShop_4 ⟨Nat.le_of_ble_eq_true rfl, Nat.le_of_ble_eq_true rfl⟩) hS (fun x _ h => bA_34 (Nat.le_refl _) x h) (fun x h => bA_34 (Nat.le_refl _) x h) (fun x _ h => bA_34 (Nat.le_refl _) x h) ?_ ?_
  · intro E ce q9 u9 t H1 locs1 ht _ hne hB hz hk1 hS1 hcell hv9 hcl
    obtain ⟨hE, hPx⟩ := hB
    rw [ht] at hPx
    have hPj := wCo_of (g := g) (u := (F5_addShop u a1).2.2) hPx (wCo_k hPo hk1 hq)
    refine vx_widen (k := 2) (n := 12) (by omega) (by omega) ?_
    rcases cd_addShop u a1 with h9 | h9 | h9
    · exact absurd h9 hne
    · rw [h9] at hE
      obtain rfl : E = "java/lang/IllegalArgumentException" := hE.trans (by decide +kernel)
      refine vx_catch (own := RL) (name := "java/lang/IllegalArgumentException") hown [] ⟨0, 9, 12, 13⟩ [⟨0, 9, 15, 15⟩] (by rw [htab]; rfl) (fun z hz => by cases hz) (by decide) (by decide) (hts (.classLink RL 13 "java/lang/IllegalArgumentException") (List.mem_of_getElem? (i := 1) rfl)) (va_Nw.use rfl (hk.2 (.castable "java/lang/IllegalArgumentException" "java/lang/IllegalArgumentException") (List.mem_of_getElem? (i := 72) rfl))) hcell hv9 hcl ?_
      refine lv_astore_n (lv' := [(3, .ref q9), (0, .ref (q 0)), (1, .int a1), (2, .ref (q 23))]) hx hb dL_addShop_12 rfl hl (by decide) rfl (fun ls hl => ?_)
      refine lv_iconst (v := 1) hx hb dL_addShop_13 (by decide) ?_
      exact W.iret hx hb hr (fun t2 ht2 _ => ⟨⟨1, g, rfl, ⟨by rw [h9]; rfl, fun h0 => absurd h0 hne⟩, by show va_P D vwCl _ t2.heap; rw [ht2]; exact hPj⟩, hS1.F ht2⟩) hS1.2.2 dL_addShop_14 hlocks
    · rw [h9] at hE
      obtain rfl : E = "java/lang/IllegalStateException" := hE.trans (by decide +kernel)
      refine vx_catch (own := RL) (name := "java/lang/IllegalStateException") hown [⟨0, 9, 12, 13⟩] ⟨0, 9, 15, 15⟩ [] (by rw [htab]; rfl) (fun z hz => by rcases List.mem_cons.mp hz with rfl | hz; exact Or.inr ⟨(by decide), "java/lang/IllegalArgumentException", (hts (.classLink RL 13 "java/lang/IllegalArgumentException") (List.mem_of_getElem? (i := 1) rfl)), hNC.2.2⟩; cases hz) (by decide) (by decide) (hts (.classLink RL 15 "java/lang/IllegalStateException") (List.mem_of_getElem? (i := 2) rfl)) (va_Nw.use rfl (hk.2 (.castable "java/lang/IllegalStateException" "java/lang/IllegalStateException") (List.mem_of_getElem? (i := 73) rfl))) hcell hv9 hcl ?_
      refine lv_astore_n (lv' := [(3, .ref q9), (0, .ref (q 0)), (1, .int a1), (2, .ref (q 23))]) hx hb dL_addShop_15 rfl hl (by decide) rfl (fun ls hl => ?_)
      refine lv_iconst (v := 2) hx hb dL_addShop_16 (by decide) ?_
      exact W.iret hx hb hr (fun t2 ht2 _ => ⟨⟨2, g, rfl, ⟨by rw [h9]; rfl, fun h0 => absurd h0 hne⟩, by show va_P D vwCl _ t2.heap; rw [ht2]; exact hPj⟩, hS1.F ht2⟩) hS1.2.2 dL_addShop_17 hlocks
  · intro r u2 t H1 locs1 ht _ hw hB hz hk1 hS1
    rw [ht] at hB
    have hPj := wCo_of (g := g) (u := u2) hB (wCo_k hPo hk1 hq)
    refine W.widen (k := 2) (n := 12) (by omega) (by omega) ?_
    refine lv_i2l (v := r.toInt64) hx hb dL_addShop_7 rfl ?_
    refine va_last hx hb hKL hPj (wCo_D hq) hS1 23 0 rfl rfl (vp_in_nI (n := 0) (by decide) (by decide)) dL_addShop_8 (fun H2 locs2 hP2 _ hS2 => ?_)
    have hP2 : va_P D vwCl (wCo cI cO cL q u2 (vp_updL g (0 : Int32).toNatClampNeg r.toInt64)) H2 := hP2
    refine lv_goto (tgt := 18) hx hb dL_addShop_9 (by decide) ?_
    refine lv_iconst (v := 0) hx hb dL_addShop_18 (by decide) ?_
    exact W.iret hx hb hr (fun t2 ht2 _ => ⟨⟨0, vp_updL g (0 : Int32).toNatClampNeg r.toInt64, rfl, ⟨by rw [← hw]; rfl, fun _ => by rw [← hw]; exact if_pos rfl⟩, by show va_P D vwCl _ t2.heap; rw [ht2, ← hw]; exact hP2⟩, hS2.F ht2⟩) hS2.2.2 dL_addShop_19 hlocks
theorem cd_buyCrates (u : bU) (a1 : Int32) : (F5_buyCrates u a1).1 = 0 ∨ (F5_buyCrates u a1).1 = 2 ∨ (F5_buyCrates u a1).1 = 3 := by
  unfold F5_buyCrates
  (repeat' split) <;> first | with_reducible exact Or.inl rfl | (dsimp only; first | with_reducible exact (n_arg _).elim Or.inl (fun h => Or.inr (Or.inl h)) | with_reducible exact (n_st _).elim Or.inl (fun h => Or.inr (Or.inr (h))) | with_reducible exact (n_rng _ _ _).elim Or.inl (fun h => Or.inr (Or.inl h)) | with_reducible exact (n_kd _).elim Or.inl (fun h => Or.inr (Or.inl h)))
set_option maxHeartbeats 4000000 in
set_option maxRecDepth 100000 in
theorem CL_buyCrates (l : Launch) (D : va_G) (cI cO cL : ClassId) (q : Nat → Nat) (u : bU) (g : Nat → Int64) (H0 : Heap) (hq : bInj 24 q) (hl9 : l.stackTraces = false) (hP : va_P D vwCl (wCo cI cO cL q u g) H0) (a1 : Int32) (hlat : bLat u) : Met l yL_buyCrates wsL_buyCrates ({ frames := 9, cells := 2, slots := 12, locals := 264 }) (bPL D cI cO cL (bA 24 q H0.size) H0 [.ref (q 0), .int a1, .ref (q 23)]) (bLi D cI cO cL q (bA 24 q H0.size) cdA (F5_buyCrates u a1)) 2 12 (bA 24 q H0.size) := by
  refine Met.ofWH (cc := cL_buyCrates) (maxL := 4) (ret := (some .int)) (hh := [(0, 9, 12, 13), (0, 9, 15, 15)]) (by decide) rfl ?_
  intro p e s m args below meth c s₁ B hml hv
  obtain ⟨rfl, hH, hk, hX, hKL, hNC⟩ := hv
  subst hH
  have hx := B.exec
  have hb := B.bytes
  have hr := B.returns
  have hts := atoms_spec (ws := wsL_buyCrates) B.pre
  have hown : s.vm.findClass RL = some m.cls := findClass_of_methodNamed B.named
  have hlocks := B.notSynchronized
  have htab : c.exceptionTable.toList = tableOf [(0, 9, 12, 13), (0, 9, 15, 15)] := vx_table (x := yL_buyCrates) B (hts _ List.mem_cons_self)
  have hS : va_S (bA 24 q s.heap.size) s.heap s.heap [] := va_S.rf
  have hl := lv_entry ([.ref (q 0), .int a1, .ref (q 23)]) (n := 4) (Nat.le_of_ble_eq_true rfl)
  rw [lg_entry_eq]
  generalize (lg_sl ([.ref (q 0), .int a1, .ref (q 23)]) ++ List.replicate (4 - (lg_sl ([.ref (q 0), .int a1, .ref (q 23)])).length) Slot.unset).toArray = ls at hl ⊢
  have hl : lv_has ls 4 [(0, .ref (q 0)), (1, .int a1), (2, .ref (q 23))] := hl
  have hPC := wCo_C hP
  have hPo := wCo_o hP
  have hq23 := bInj_23 hq
  refine lv_aload_n hx hb dL_buyCrates_0 rfl (lv_at hl 2 rfl) ?_
  refine lv_iconst (v := 0) hx hb dL_buyCrates_1 (by decide) ?_
  refine lv_aload_n hx hb dL_buyCrates_2 rfl (lv_at hl 0 rfl) ?_
  refine lv_iload_n hx hb dL_buyCrates_3 rfl (lv_at hl 1 rfl) ?_
  refine vx_calli (vx_runV (As := [.int a1]) (rest := [.int 0, .ref (q 23)]) ⟨hx, hb, hml, hown, hts⟩ (C5_buyCrates l D cI cO q u _ hq23 hl9 hPC a1 hlat) (cwV 1 hts gL_buyCrates_X5_buyCrates rfl rfl rfl ⟨rfl, bd_X5buyCrates⟩ ⟨Nat.le_of_ble_eq_true rfl, Nat.le_of_ble_eq_true rfl⟩) (bPVX hk hX hS (bA_34 (Nat.le_refl _)) (va_recv hk.1 hPC (ci := 5) (q0 := 0) rfl (wC_0 _ _ _ _))) rfl rfl hl.1 rfl (lv_room (Nat.le_of_ble_eq_true rfl)) dL_buyCrates_4 ⟨Nat.le_of_ble_eq_true rfl, Nat.le_of_ble_eq_true rfl⟩) hS (fun x _ h => bA_34 (Nat.le_refl _) x h) (fun x h => bA_34 (Nat.le_refl _) x h) (fun x _ h => bA_34 (Nat.le_refl _) x h) ?_ ?_
  · intro E ce q9 u9 t H1 locs1 ht _ hne hB hz hk1 hS1 hcell hv9 hcl
    obtain ⟨hE, hPx⟩ := hB
    rw [ht] at hPx
    have hPj := wCo_of (g := g) (u := (F5_buyCrates u a1).2.2) hPx (wCo_k hPo hk1 hq)
    refine vx_widen (k := 2) (n := 12) (by omega) (by omega) ?_
    rcases cd_buyCrates u a1 with h9 | h9 | h9
    · exact absurd h9 hne
    · rw [h9] at hE
      obtain rfl : E = "java/lang/IllegalArgumentException" := hE.trans (by decide +kernel)
      refine vx_catch (own := RL) (name := "java/lang/IllegalArgumentException") hown [] ⟨0, 9, 12, 13⟩ [⟨0, 9, 15, 15⟩] (by rw [htab]; rfl) (fun z hz => by cases hz) (by decide) (by decide) (hts (.classLink RL 13 "java/lang/IllegalArgumentException") (List.mem_of_getElem? (i := 1) rfl)) (va_Nw.use rfl (hk.2 (.castable "java/lang/IllegalArgumentException" "java/lang/IllegalArgumentException") (List.mem_of_getElem? (i := 72) rfl))) hcell hv9 hcl ?_
      refine lv_astore_n (lv' := [(3, .ref q9), (0, .ref (q 0)), (1, .int a1), (2, .ref (q 23))]) hx hb dL_buyCrates_12 rfl hl (by decide) rfl (fun ls hl => ?_)
      refine lv_iconst (v := 1) hx hb dL_buyCrates_13 (by decide) ?_
      exact W.iret hx hb hr (fun t2 ht2 _ => ⟨⟨1, g, rfl, ⟨by rw [h9]; rfl, fun h0 => absurd h0 hne⟩, by show va_P D vwCl _ t2.heap; rw [ht2]; exact hPj⟩, hS1.F ht2⟩) hS1.2.2 dL_buyCrates_14 hlocks
    · rw [h9] at hE
      obtain rfl : E = "java/lang/IllegalStateException" := hE.trans (by decide +kernel)
      refine vx_catch (own := RL) (name := "java/lang/IllegalStateException") hown [⟨0, 9, 12, 13⟩] ⟨0, 9, 15, 15⟩ [] (by rw [htab]; rfl) (fun z hz => by rcases List.mem_cons.mp hz with rfl | hz; exact Or.inr ⟨(by decide), "java/lang/IllegalArgumentException", (hts (.classLink RL 13 "java/lang/IllegalArgumentException") (List.mem_of_getElem? (i := 1) rfl)), hNC.2.2⟩; cases hz) (by decide) (by decide) (hts (.classLink RL 15 "java/lang/IllegalStateException") (List.mem_of_getElem? (i := 2) rfl)) (va_Nw.use rfl (hk.2 (.castable "java/lang/IllegalStateException" "java/lang/IllegalStateException") (List.mem_of_getElem? (i := 73) rfl))) hcell hv9 hcl ?_
      refine lv_astore_n (lv' := [(3, .ref q9), (0, .ref (q 0)), (1, .int a1), (2, .ref (q 23))]) hx hb dL_buyCrates_15 rfl hl (by decide) rfl (fun ls hl => ?_)
      refine lv_iconst (v := 2) hx hb dL_buyCrates_16 (by decide) ?_
      exact W.iret hx hb hr (fun t2 ht2 _ => ⟨⟨2, g, rfl, ⟨by rw [h9]; rfl, fun h0 => absurd h0 hne⟩, by show va_P D vwCl _ t2.heap; rw [ht2]; exact hPj⟩, hS1.F ht2⟩) hS1.2.2 dL_buyCrates_17 hlocks
  · intro r u2 t H1 locs1 ht _ hw hB hz hk1 hS1
    rw [ht] at hB
    have hPj := wCo_of (g := g) (u := u2) hB (wCo_k hPo hk1 hq)
    refine W.widen (k := 2) (n := 12) (by omega) (by omega) ?_
    refine lv_i2l (v := r.toInt64) hx hb dL_buyCrates_7 rfl ?_
    refine va_last hx hb hKL hPj (wCo_D hq) hS1 23 0 rfl rfl (vp_in_nI (n := 0) (by decide) (by decide)) dL_buyCrates_8 (fun H2 locs2 hP2 _ hS2 => ?_)
    have hP2 : va_P D vwCl (wCo cI cO cL q u2 (vp_updL g (0 : Int32).toNatClampNeg r.toInt64)) H2 := hP2
    refine lv_goto (tgt := 18) hx hb dL_buyCrates_9 (by decide) ?_
    refine lv_iconst (v := 0) hx hb dL_buyCrates_18 (by decide) ?_
    exact W.iret hx hb hr (fun t2 ht2 _ => ⟨⟨0, vp_updL g (0 : Int32).toNatClampNeg r.toInt64, rfl, ⟨by rw [← hw]; rfl, fun _ => by rw [← hw]; exact if_pos rfl⟩, by show va_P D vwCl _ t2.heap; rw [ht2, ← hw]; exact hP2⟩, hS2.F ht2⟩) hS2.2.2 dL_buyCrates_19 hlocks
theorem cd_set (u : bU) (a1 : Int32) (a2 : Int32) : (F5_set u a1 a2).1 = 0 ∨ (F5_set u a1 a2).1 = 1 ∨ (F5_set u a1 a2).1 = 2 ∨ (F5_set u a1 a2).1 = 3 := by
  unfold F5_set
  (repeat' split) <;> first | with_reducible exact Or.inl rfl | (dsimp only; first | with_reducible exact (n_arg _).elim Or.inl (fun h => Or.inr (Or.inr (Or.inl h))) | with_reducible exact (n_st _).elim Or.inl (fun h => Or.inr (Or.inr (Or.inr (h)))) | with_reducible exact (n_rng _ _ _).elim Or.inl (fun h => Or.inr (Or.inr (Or.inl h))) | with_reducible exact (n_kd _).elim Or.inl (fun h => Or.inr (Or.inr (Or.inl h))) | with_reducible exact (n_set _).elim Or.inl (fun h => Or.inr (Or.inl h)) | with_reducible exact (n_br _ _).elim Or.inl (fun h => Or.inr (Or.inl h)) | with_reducible exact (n_sh _ _).elim Or.inl (fun h => Or.inr (Or.inl h)))
set_option maxHeartbeats 4000000 in
set_option maxRecDepth 100000 in
theorem CL_set (l : Launch) (D : va_G) (cI cO cL : ClassId) (q : Nat → Nat) (u : bU) (g : Nat → Int64) (H0 : Heap) (hq : bInj 24 q) (hl9 : l.stackTraces = false) (hP : va_P D vwCl (wCo cI cO cL q u g) H0) (a1 : Int32) (a2 : Int32) (hlat : bLat u) : Met l yL_set wsL_set ({ frames := 9, cells := 3, slots := 18, locals := 266 }) (bPL D cI cO cL (bA 24 q H0.size) H0 [.ref (q 0), .int a1, .int a2, .ref (q 23)]) (bLi D cI cO cL q (bA 24 q H0.size) id (F5_set u a1 a2)) 3 18 (bA 24 q H0.size) := by
  refine Met.ofWH (cc := cL_set) (maxL := 5) (ret := (some .int)) (hh := [(0, 10, 13, 27), (0, 10, 17, 13), (0, 10, 21, 15)]) (by decide) rfl ?_
  intro p e s m args below meth c s₁ B hml hv
  obtain ⟨rfl, hH, hk, hX, hKL, hNC⟩ := hv
  subst hH
  have hx := B.exec
  have hb := B.bytes
  have hr := B.returns
  have hts := atoms_spec (ws := wsL_set) B.pre
  have hown : s.vm.findClass RL = some m.cls := findClass_of_methodNamed B.named
  have hlocks := B.notSynchronized
  have htab : c.exceptionTable.toList = tableOf [(0, 10, 13, 27), (0, 10, 17, 13), (0, 10, 21, 15)] := vx_table (x := yL_set) B (hts _ List.mem_cons_self)
  have hS : va_S (bA 24 q s.heap.size) s.heap s.heap [] := va_S.rf
  have hl := lv_entry ([.ref (q 0), .int a1, .int a2, .ref (q 23)]) (n := 5) (Nat.le_of_ble_eq_true rfl)
  rw [lg_entry_eq]
  generalize (lg_sl ([.ref (q 0), .int a1, .int a2, .ref (q 23)]) ++ List.replicate (5 - (lg_sl ([.ref (q 0), .int a1, .int a2, .ref (q 23)])).length) Slot.unset).toArray = ls at hl ⊢
  have hl : lv_has ls 5 [(0, .ref (q 0)), (1, .int a1), (2, .int a2), (3, .ref (q 23))] := hl
  have hPC := wCo_C hP
  have hPo := wCo_o hP
  have hq23 := bInj_23 hq
  refine lv_aload_n hx hb dL_set_0 rfl (lv_at hl 3 rfl) ?_
  refine lv_iconst (v := 0) hx hb dL_set_1 (by decide) ?_
  refine lv_aload_n hx hb dL_set_2 rfl (lv_at hl 0 rfl) ?_
  refine lv_iload_n hx hb dL_set_3 rfl (lv_at hl 1 rfl) ?_
  refine lv_iload_n hx hb dL_set_4 rfl (lv_at hl 2 rfl) ?_
  refine vx_calli (vx_runV (As := [.int a1, .int a2]) (rest := [.int 0, .ref (q 23)]) ⟨hx, hb, hml, hown, hts⟩ (C5_set l D cI cO q u _ hq23 hl9 hPC a1 a2 hlat) (cwV 2 hts gL_set_X5_set rfl rfl rfl ⟨rfl, bd_X5set⟩ ⟨Nat.le_of_ble_eq_true rfl, Nat.le_of_ble_eq_true rfl⟩) (bPVX hk hX hS (bA_34 (Nat.le_refl _)) (va_recv hk.1 hPC (ci := 5) (q0 := 0) rfl (wC_0 _ _ _ _))) rfl rfl hl.1 rfl (lv_room (Nat.le_of_ble_eq_true rfl)) dL_set_5 ⟨Nat.le_of_ble_eq_true rfl, Nat.le_of_ble_eq_true rfl⟩) hS (fun x _ h => bA_34 (Nat.le_refl _) x h) (fun x h => bA_34 (Nat.le_refl _) x h) (fun x _ h => bA_34 (Nat.le_refl _) x h) ?_ ?_
  · intro E ce q9 u9 t H1 locs1 ht _ hne hB hz hk1 hS1 hcell hv9 hcl
    obtain ⟨hE, hPx⟩ := hB
    rw [ht] at hPx
    have hPj := wCo_of (g := g) (u := (F5_set u a1 a2).2.2) hPx (wCo_k hPo hk1 hq)
    refine vx_widen (k := 3) (n := 18) (by omega) (by omega) ?_
    rcases cd_set u a1 a2 with h9 | h9 | h9 | h9
    · exact absurd h9 hne
    · rw [h9] at hE
      obtain rfl : E = "java/lang/IndexOutOfBoundsException" := hE.trans (by decide +kernel)
      refine vx_catch (own := RL) (name := "java/lang/IndexOutOfBoundsException") hown [] ⟨0, 10, 13, 27⟩ [⟨0, 10, 17, 13⟩, ⟨0, 10, 21, 15⟩] (by rw [htab]; rfl) (fun z hz => by cases hz) (by decide) (by decide) (hts (.classLink RL 27 "java/lang/IndexOutOfBoundsException") (List.mem_of_getElem? (i := 1) rfl)) (va_Nw.use rfl (hk.2 (.castable "java/lang/IndexOutOfBoundsException" "java/lang/IndexOutOfBoundsException") (List.mem_of_getElem? (i := 71) rfl))) hcell hv9 hcl ?_
      refine lv_astore (lv' := [(4, .ref q9), (0, .ref (q 0)), (1, .int a1), (2, .int a2), (3, .ref (q 23))]) hx hb dL_set_13 hl (by decide) rfl (fun ls hl => ?_)
      refine lv_iconst (v := 1) hx hb dL_set_15 (by decide) ?_
      exact W.iret hx hb hr (fun t2 ht2 _ => ⟨⟨1, g, rfl, ⟨by rw [h9]; rfl, fun h0 => absurd h0 hne⟩, by show va_P D vwCl _ t2.heap; rw [ht2]; exact hPj⟩, hS1.F ht2⟩) hS1.2.2 dL_set_16 hlocks
    · rw [h9] at hE
      obtain rfl : E = "java/lang/IllegalArgumentException" := hE.trans (by decide +kernel)
      refine vx_catch (own := RL) (name := "java/lang/IllegalArgumentException") hown [⟨0, 10, 13, 27⟩] ⟨0, 10, 17, 13⟩ [⟨0, 10, 21, 15⟩] (by rw [htab]; rfl) (fun z hz => by rcases List.mem_cons.mp hz with rfl | hz; exact Or.inr ⟨(by decide), "java/lang/IndexOutOfBoundsException", (hts (.classLink RL 27 "java/lang/IndexOutOfBoundsException") (List.mem_of_getElem? (i := 1) rfl)), hNC.1⟩; cases hz) (by decide) (by decide) (hts (.classLink RL 13 "java/lang/IllegalArgumentException") (List.mem_of_getElem? (i := 2) rfl)) (va_Nw.use rfl (hk.2 (.castable "java/lang/IllegalArgumentException" "java/lang/IllegalArgumentException") (List.mem_of_getElem? (i := 72) rfl))) hcell hv9 hcl ?_
      refine lv_astore (lv' := [(4, .ref q9), (0, .ref (q 0)), (1, .int a1), (2, .int a2), (3, .ref (q 23))]) hx hb dL_set_17 hl (by decide) rfl (fun ls hl => ?_)
      refine lv_iconst (v := 2) hx hb dL_set_19 (by decide) ?_
      exact W.iret hx hb hr (fun t2 ht2 _ => ⟨⟨2, g, rfl, ⟨by rw [h9]; rfl, fun h0 => absurd h0 hne⟩, by show va_P D vwCl _ t2.heap; rw [ht2]; exact hPj⟩, hS1.F ht2⟩) hS1.2.2 dL_set_20 hlocks
    · rw [h9] at hE
      obtain rfl : E = "java/lang/IllegalStateException" := hE.trans (by decide +kernel)
      refine vx_catch (own := RL) (name := "java/lang/IllegalStateException") hown [⟨0, 10, 13, 27⟩, ⟨0, 10, 17, 13⟩] ⟨0, 10, 21, 15⟩ [] (by rw [htab]; rfl) (fun z hz => by rcases List.mem_cons.mp hz with rfl | hz; exact Or.inr ⟨(by decide), "java/lang/IndexOutOfBoundsException", (hts (.classLink RL 27 "java/lang/IndexOutOfBoundsException") (List.mem_of_getElem? (i := 1) rfl)), hNC.2.1⟩; rcases List.mem_cons.mp hz with rfl | hz; exact Or.inr ⟨(by decide), "java/lang/IllegalArgumentException", (hts (.classLink RL 13 "java/lang/IllegalArgumentException") (List.mem_of_getElem? (i := 2) rfl)), hNC.2.2⟩; cases hz) (by decide) (by decide) (hts (.classLink RL 15 "java/lang/IllegalStateException") (List.mem_of_getElem? (i := 3) rfl)) (va_Nw.use rfl (hk.2 (.castable "java/lang/IllegalStateException" "java/lang/IllegalStateException") (List.mem_of_getElem? (i := 73) rfl))) hcell hv9 hcl ?_
      refine lv_astore (lv' := [(4, .ref q9), (0, .ref (q 0)), (1, .int a1), (2, .int a2), (3, .ref (q 23))]) hx hb dL_set_21 hl (by decide) rfl (fun ls hl => ?_)
      refine lv_iconst (v := 3) hx hb dL_set_23 (by decide) ?_
      exact W.iret hx hb hr (fun t2 ht2 _ => ⟨⟨3, g, rfl, ⟨by rw [h9]; rfl, fun h0 => absurd h0 hne⟩, by show va_P D vwCl _ t2.heap; rw [ht2]; exact hPj⟩, hS1.F ht2⟩) hS1.2.2 dL_set_24 hlocks
  · intro r u2 t H1 locs1 ht _ hw hB hz hk1 hS1
    rw [ht] at hB
    have hPj := wCo_of (g := g) (u := u2) hB (wCo_k hPo hk1 hq)
    refine W.widen (k := 3) (n := 18) (by omega) (by omega) ?_
    refine lv_i2l (v := r.toInt64) hx hb dL_set_8 rfl ?_
    refine va_last hx hb hKL hPj (wCo_D hq) hS1 23 0 rfl rfl (vp_in_nI (n := 0) (by decide) (by decide)) dL_set_9 (fun H2 locs2 hP2 _ hS2 => ?_)
    have hP2 : va_P D vwCl (wCo cI cO cL q u2 (vp_updL g (0 : Int32).toNatClampNeg r.toInt64)) H2 := hP2
    refine lv_goto (tgt := 25) hx hb dL_set_10 (by decide) ?_
    refine lv_iconst (v := 0) hx hb dL_set_25 (by decide) ?_
    exact W.iret hx hb hr (fun t2 ht2 _ => ⟨⟨0, vp_updL g (0 : Int32).toNatClampNeg r.toInt64, rfl, ⟨by rw [← hw]; rfl, fun _ => by rw [← hw]; exact if_pos rfl⟩, by show va_P D vwCl _ t2.heap; rw [ht2, ← hw]; exact hP2⟩, hS2.F ht2⟩) hS2.2.2 dL_set_26 hlocks
theorem cd_fill (u : bU) (a1 : Int32) (a2 : Int32) : (F5_fill u a1 a2).1 = 0 ∨ (F5_fill u a1 a2).1 = 1 ∨ (F5_fill u a1 a2).1 = 2 ∨ (F5_fill u a1 a2).1 = 3 := by
  unfold F5_fill
  (repeat' split) <;> first | with_reducible exact Or.inl rfl | (dsimp only; first | with_reducible exact (n_arg _).elim Or.inl (fun h => Or.inr (Or.inr (Or.inl h))) | with_reducible exact (n_st _).elim Or.inl (fun h => Or.inr (Or.inr (Or.inr (h)))) | with_reducible exact (n_rng _ _ _).elim Or.inl (fun h => Or.inr (Or.inr (Or.inl h))) | with_reducible exact (n_kd _).elim Or.inl (fun h => Or.inr (Or.inr (Or.inl h))) | with_reducible exact (n_set _).elim Or.inl (fun h => Or.inr (Or.inl h)) | with_reducible exact (n_br _ _).elim Or.inl (fun h => Or.inr (Or.inl h)) | with_reducible exact (n_sh _ _).elim Or.inl (fun h => Or.inr (Or.inl h)))
set_option maxHeartbeats 4000000 in
set_option maxRecDepth 100000 in
theorem CL_fill (l : Launch) (D : va_G) (cI cO cL : ClassId) (q : Nat → Nat) (u : bU) (g : Nat → Int64) (H0 : Heap) (hq : bInj 24 q) (hl9 : l.stackTraces = false) (hP : va_P D vwCl (wCo cI cO cL q u g) H0) (a1 : Int32) (a2 : Int32) (hlat : bLat u) : Met l yL_fill wsL_fill ({ frames := 9, cells := 3, slots := 18, locals := 265 }) (bPL D cI cO cL (bA 24 q H0.size) H0 [.ref (q 0), .int a1, .int a2, .ref (q 23)]) (bLi D cI cO cL q (bA 24 q H0.size) id (F5_fill u a1 a2)) 3 18 (bA 24 q H0.size) := by
  refine Met.ofWH (cc := cL_fill) (maxL := 5) (ret := (some .int)) (hh := [(0, 10, 13, 27), (0, 10, 17, 13), (0, 10, 21, 15)]) (by decide) rfl ?_
  intro p e s m args below meth c s₁ B hml hv
  obtain ⟨rfl, hH, hk, hX, hKL, hNC⟩ := hv
  subst hH
  have hx := B.exec
  have hb := B.bytes
  have hr := B.returns
  have hts := atoms_spec (ws := wsL_fill) B.pre
  have hown : s.vm.findClass RL = some m.cls := findClass_of_methodNamed B.named
  have hlocks := B.notSynchronized
  have htab : c.exceptionTable.toList = tableOf [(0, 10, 13, 27), (0, 10, 17, 13), (0, 10, 21, 15)] := vx_table (x := yL_fill) B (hts _ List.mem_cons_self)
  have hS : va_S (bA 24 q s.heap.size) s.heap s.heap [] := va_S.rf
  have hl := lv_entry ([.ref (q 0), .int a1, .int a2, .ref (q 23)]) (n := 5) (Nat.le_of_ble_eq_true rfl)
  rw [lg_entry_eq]
  generalize (lg_sl ([.ref (q 0), .int a1, .int a2, .ref (q 23)]) ++ List.replicate (5 - (lg_sl ([.ref (q 0), .int a1, .int a2, .ref (q 23)])).length) Slot.unset).toArray = ls at hl ⊢
  have hl : lv_has ls 5 [(0, .ref (q 0)), (1, .int a1), (2, .int a2), (3, .ref (q 23))] := hl
  have hPC := wCo_C hP
  have hPo := wCo_o hP
  have hq23 := bInj_23 hq
  refine lv_aload_n hx hb dL_fill_0 rfl (lv_at hl 3 rfl) ?_
  refine lv_iconst (v := 0) hx hb dL_fill_1 (by decide) ?_
  refine lv_aload_n hx hb dL_fill_2 rfl (lv_at hl 0 rfl) ?_
  refine lv_iload_n hx hb dL_fill_3 rfl (lv_at hl 1 rfl) ?_
  refine lv_iload_n hx hb dL_fill_4 rfl (lv_at hl 2 rfl) ?_
  refine vx_calli (vx_runV (As := [.int a1, .int a2]) (rest := [.int 0, .ref (q 23)]) ⟨hx, hb, hml, hown, hts⟩ (C5_fill l D cI cO q u _ hq23 hl9 hPC a1 a2 hlat) (cwV 2 hts gL_fill_X5_fill rfl rfl rfl ⟨rfl, bd_X5fill⟩ ⟨Nat.le_of_ble_eq_true rfl, Nat.le_of_ble_eq_true rfl⟩) (bPVX hk hX hS (bA_34 (Nat.le_refl _)) (va_recv hk.1 hPC (ci := 5) (q0 := 0) rfl (wC_0 _ _ _ _))) rfl rfl hl.1 rfl (lv_room (Nat.le_of_ble_eq_true rfl)) dL_fill_5 ⟨Nat.le_of_ble_eq_true rfl, Nat.le_of_ble_eq_true rfl⟩) hS (fun x _ h => bA_34 (Nat.le_refl _) x h) (fun x h => bA_34 (Nat.le_refl _) x h) (fun x _ h => bA_34 (Nat.le_refl _) x h) ?_ ?_
  · intro E ce q9 u9 t H1 locs1 ht _ hne hB hz hk1 hS1 hcell hv9 hcl
    obtain ⟨hE, hPx⟩ := hB
    rw [ht] at hPx
    have hPj := wCo_of (g := g) (u := (F5_fill u a1 a2).2.2) hPx (wCo_k hPo hk1 hq)
    refine vx_widen (k := 3) (n := 18) (by omega) (by omega) ?_
    rcases cd_fill u a1 a2 with h9 | h9 | h9 | h9
    · exact absurd h9 hne
    · rw [h9] at hE
      obtain rfl : E = "java/lang/IndexOutOfBoundsException" := hE.trans (by decide +kernel)
      refine vx_catch (own := RL) (name := "java/lang/IndexOutOfBoundsException") hown [] ⟨0, 10, 13, 27⟩ [⟨0, 10, 17, 13⟩, ⟨0, 10, 21, 15⟩] (by rw [htab]; rfl) (fun z hz => by cases hz) (by decide) (by decide) (hts (.classLink RL 27 "java/lang/IndexOutOfBoundsException") (List.mem_of_getElem? (i := 1) rfl)) (va_Nw.use rfl (hk.2 (.castable "java/lang/IndexOutOfBoundsException" "java/lang/IndexOutOfBoundsException") (List.mem_of_getElem? (i := 71) rfl))) hcell hv9 hcl ?_
      refine lv_astore (lv' := [(4, .ref q9), (0, .ref (q 0)), (1, .int a1), (2, .int a2), (3, .ref (q 23))]) hx hb dL_fill_13 hl (by decide) rfl (fun ls hl => ?_)
      refine lv_iconst (v := 1) hx hb dL_fill_15 (by decide) ?_
      exact W.iret hx hb hr (fun t2 ht2 _ => ⟨⟨1, g, rfl, ⟨by rw [h9]; rfl, fun h0 => absurd h0 hne⟩, by show va_P D vwCl _ t2.heap; rw [ht2]; exact hPj⟩, hS1.F ht2⟩) hS1.2.2 dL_fill_16 hlocks
    · rw [h9] at hE
      obtain rfl : E = "java/lang/IllegalArgumentException" := hE.trans (by decide +kernel)
      refine vx_catch (own := RL) (name := "java/lang/IllegalArgumentException") hown [⟨0, 10, 13, 27⟩] ⟨0, 10, 17, 13⟩ [⟨0, 10, 21, 15⟩] (by rw [htab]; rfl) (fun z hz => by rcases List.mem_cons.mp hz with rfl | hz; exact Or.inr ⟨(by decide), "java/lang/IndexOutOfBoundsException", (hts (.classLink RL 27 "java/lang/IndexOutOfBoundsException") (List.mem_of_getElem? (i := 1) rfl)), hNC.1⟩; cases hz) (by decide) (by decide) (hts (.classLink RL 13 "java/lang/IllegalArgumentException") (List.mem_of_getElem? (i := 2) rfl)) (va_Nw.use rfl (hk.2 (.castable "java/lang/IllegalArgumentException" "java/lang/IllegalArgumentException") (List.mem_of_getElem? (i := 72) rfl))) hcell hv9 hcl ?_
      refine lv_astore (lv' := [(4, .ref q9), (0, .ref (q 0)), (1, .int a1), (2, .int a2), (3, .ref (q 23))]) hx hb dL_fill_17 hl (by decide) rfl (fun ls hl => ?_)
      refine lv_iconst (v := 2) hx hb dL_fill_19 (by decide) ?_
      exact W.iret hx hb hr (fun t2 ht2 _ => ⟨⟨2, g, rfl, ⟨by rw [h9]; rfl, fun h0 => absurd h0 hne⟩, by show va_P D vwCl _ t2.heap; rw [ht2]; exact hPj⟩, hS1.F ht2⟩) hS1.2.2 dL_fill_20 hlocks
    · rw [h9] at hE
      obtain rfl : E = "java/lang/IllegalStateException" := hE.trans (by decide +kernel)
      refine vx_catch (own := RL) (name := "java/lang/IllegalStateException") hown [⟨0, 10, 13, 27⟩, ⟨0, 10, 17, 13⟩] ⟨0, 10, 21, 15⟩ [] (by rw [htab]; rfl) (fun z hz => by rcases List.mem_cons.mp hz with rfl | hz; exact Or.inr ⟨(by decide), "java/lang/IndexOutOfBoundsException", (hts (.classLink RL 27 "java/lang/IndexOutOfBoundsException") (List.mem_of_getElem? (i := 1) rfl)), hNC.2.1⟩; rcases List.mem_cons.mp hz with rfl | hz; exact Or.inr ⟨(by decide), "java/lang/IllegalArgumentException", (hts (.classLink RL 13 "java/lang/IllegalArgumentException") (List.mem_of_getElem? (i := 2) rfl)), hNC.2.2⟩; cases hz) (by decide) (by decide) (hts (.classLink RL 15 "java/lang/IllegalStateException") (List.mem_of_getElem? (i := 3) rfl)) (va_Nw.use rfl (hk.2 (.castable "java/lang/IllegalStateException" "java/lang/IllegalStateException") (List.mem_of_getElem? (i := 73) rfl))) hcell hv9 hcl ?_
      refine lv_astore (lv' := [(4, .ref q9), (0, .ref (q 0)), (1, .int a1), (2, .int a2), (3, .ref (q 23))]) hx hb dL_fill_21 hl (by decide) rfl (fun ls hl => ?_)
      refine lv_iconst (v := 3) hx hb dL_fill_23 (by decide) ?_
      exact W.iret hx hb hr (fun t2 ht2 _ => ⟨⟨3, g, rfl, ⟨by rw [h9]; rfl, fun h0 => absurd h0 hne⟩, by show va_P D vwCl _ t2.heap; rw [ht2]; exact hPj⟩, hS1.F ht2⟩) hS1.2.2 dL_fill_24 hlocks
  · intro r u2 t H1 locs1 ht _ hw hB hz hk1 hS1
    rw [ht] at hB
    have hPj := wCo_of (g := g) (u := u2) hB (wCo_k hPo hk1 hq)
    refine W.widen (k := 3) (n := 18) (by omega) (by omega) ?_
    refine lv_i2l (v := r.toInt64) hx hb dL_fill_8 rfl ?_
    refine va_last hx hb hKL hPj (wCo_D hq) hS1 23 0 rfl rfl (vp_in_nI (n := 0) (by decide) (by decide)) dL_fill_9 (fun H2 locs2 hP2 _ hS2 => ?_)
    have hP2 : va_P D vwCl (wCo cI cO cL q u2 (vp_updL g (0 : Int32).toNatClampNeg r.toInt64)) H2 := hP2
    refine lv_goto (tgt := 25) hx hb dL_fill_10 (by decide) ?_
    refine lv_iconst (v := 0) hx hb dL_fill_25 (by decide) ?_
    exact W.iret hx hb hr (fun t2 ht2 _ => ⟨⟨0, vp_updL g (0 : Int32).toNatClampNeg r.toInt64, rfl, ⟨by rw [← hw]; rfl, fun _ => by rw [← hw]; exact if_pos rfl⟩, by show va_P D vwCl _ t2.heap; rw [ht2, ← hw]; exact hP2⟩, hS2.F ht2⟩) hS2.2.2 dL_fill_26 hlocks
theorem cd_deliver (u : bU) (a1 : Int32) (a2 : Int32) (a3 : Int32) : (F5_deliver u a1 a2 a3).1 = 0 ∨ (F5_deliver u a1 a2 a3).1 = 1 ∨ (F5_deliver u a1 a2 a3).1 = 2 ∨ (F5_deliver u a1 a2 a3).1 = 3 := by
  unfold F5_deliver
  (repeat' split) <;> first | with_reducible exact Or.inl rfl | (dsimp only; first | with_reducible exact (n_arg _).elim Or.inl (fun h => Or.inr (Or.inr (Or.inl h))) | with_reducible exact (n_st _).elim Or.inl (fun h => Or.inr (Or.inr (Or.inr (h)))) | with_reducible exact (n_rng _ _ _).elim Or.inl (fun h => Or.inr (Or.inr (Or.inl h))) | with_reducible exact (n_kd _).elim Or.inl (fun h => Or.inr (Or.inr (Or.inl h))) | with_reducible exact (n_set _).elim Or.inl (fun h => Or.inr (Or.inl h)) | with_reducible exact (n_br _ _).elim Or.inl (fun h => Or.inr (Or.inl h)) | with_reducible exact (n_sh _ _).elim Or.inl (fun h => Or.inr (Or.inl h)))
set_option maxHeartbeats 4000000 in
set_option maxRecDepth 100000 in
theorem CL_deliver (l : Launch) (D : va_G) (cI cO cL : ClassId) (q : Nat → Nat) (u : bU) (g : Nat → Int64) (H0 : Heap) (hq : bInj 24 q) (hl9 : l.stackTraces = false) (hP : va_P D vwCl (wCo cI cO cL q u g) H0) (a1 : Int32) (a2 : Int32) (a3 : Int32) (hlat : bLat u) : Met l yL_deliver wsL_deliver ({ frames := 9, cells := 4, slots := 24, locals := 266 }) (bPL D cI cO cL (bA 24 q H0.size) H0 [.ref (q 0), .int a1, .int a2, .int a3, .ref (q 23)]) (bLi D cI cO cL q (bA 24 q H0.size) id (F5_deliver u a1 a2 a3)) 4 24 (bA 24 q H0.size) := by
  refine Met.ofWH (cc := cL_deliver) (maxL := 6) (ret := (some .int)) (hh := [(0, 12, 15, 27), (0, 12, 19, 13), (0, 12, 23, 15)]) (by decide) rfl ?_
  intro p e s m args below meth c s₁ B hml hv
  obtain ⟨rfl, hH, hk, hX, hKL, hNC⟩ := hv
  subst hH
  have hx := B.exec
  have hb := B.bytes
  have hr := B.returns
  have hts := atoms_spec (ws := wsL_deliver) B.pre
  have hown : s.vm.findClass RL = some m.cls := findClass_of_methodNamed B.named
  have hlocks := B.notSynchronized
  have htab : c.exceptionTable.toList = tableOf [(0, 12, 15, 27), (0, 12, 19, 13), (0, 12, 23, 15)] := vx_table (x := yL_deliver) B (hts _ List.mem_cons_self)
  have hS : va_S (bA 24 q s.heap.size) s.heap s.heap [] := va_S.rf
  have hl := lv_entry ([.ref (q 0), .int a1, .int a2, .int a3, .ref (q 23)]) (n := 6) (Nat.le_of_ble_eq_true rfl)
  rw [lg_entry_eq]
  generalize (lg_sl ([.ref (q 0), .int a1, .int a2, .int a3, .ref (q 23)]) ++ List.replicate (6 - (lg_sl ([.ref (q 0), .int a1, .int a2, .int a3, .ref (q 23)])).length) Slot.unset).toArray = ls at hl ⊢
  have hl : lv_has ls 6 [(0, .ref (q 0)), (1, .int a1), (2, .int a2), (3, .int a3), (4, .ref (q 23))] := hl
  have hPC := wCo_C hP
  have hPo := wCo_o hP
  have hq23 := bInj_23 hq
  refine lv_aload hx hb dL_deliver_0 (lv_at hl 4 rfl) ?_
  refine lv_iconst (v := 0) hx hb dL_deliver_2 (by decide) ?_
  refine lv_aload_n hx hb dL_deliver_3 rfl (lv_at hl 0 rfl) ?_
  refine lv_iload_n hx hb dL_deliver_4 rfl (lv_at hl 1 rfl) ?_
  refine lv_iload_n hx hb dL_deliver_5 rfl (lv_at hl 2 rfl) ?_
  refine lv_iload_n hx hb dL_deliver_6 rfl (lv_at hl 3 rfl) ?_
  refine vx_calli (vx_runV (As := [.int a1, .int a2, .int a3]) (rest := [.int 0, .ref (q 23)]) ⟨hx, hb, hml, hown, hts⟩ (C5_deliver l D cI cO q u _ hq23 hl9 hPC a1 a2 a3 hlat) (cwV 3 hts gL_deliver_X5_deliver rfl rfl rfl ⟨rfl, bd_X5deliver⟩ ⟨Nat.le_of_ble_eq_true rfl, Nat.le_of_ble_eq_true rfl⟩) (bPVX hk hX hS (bA_34 (Nat.le_refl _)) (va_recv hk.1 hPC (ci := 5) (q0 := 0) rfl (wC_0 _ _ _ _))) rfl rfl hl.1 rfl (lv_room (Nat.le_of_ble_eq_true rfl)) dL_deliver_7 ⟨Nat.le_of_ble_eq_true rfl, Nat.le_of_ble_eq_true rfl⟩) hS (fun x _ h => bA_34 (Nat.le_refl _) x h) (fun x h => bA_34 (Nat.le_refl _) x h) (fun x _ h => bA_34 (Nat.le_refl _) x h) ?_ ?_
  · intro E ce q9 u9 t H1 locs1 ht _ hne hB hz hk1 hS1 hcell hv9 hcl
    obtain ⟨hE, hPx⟩ := hB
    rw [ht] at hPx
    have hPj := wCo_of (g := g) (u := (F5_deliver u a1 a2 a3).2.2) hPx (wCo_k hPo hk1 hq)
    refine vx_widen (k := 4) (n := 24) (by omega) (by omega) ?_
    rcases cd_deliver u a1 a2 a3 with h9 | h9 | h9 | h9
    · exact absurd h9 hne
    · rw [h9] at hE
      obtain rfl : E = "java/lang/IndexOutOfBoundsException" := hE.trans (by decide +kernel)
      refine vx_catch (own := RL) (name := "java/lang/IndexOutOfBoundsException") hown [] ⟨0, 12, 15, 27⟩ [⟨0, 12, 19, 13⟩, ⟨0, 12, 23, 15⟩] (by rw [htab]; rfl) (fun z hz => by cases hz) (by decide) (by decide) (hts (.classLink RL 27 "java/lang/IndexOutOfBoundsException") (List.mem_of_getElem? (i := 1) rfl)) (va_Nw.use rfl (hk.2 (.castable "java/lang/IndexOutOfBoundsException" "java/lang/IndexOutOfBoundsException") (List.mem_of_getElem? (i := 71) rfl))) hcell hv9 hcl ?_
      refine lv_astore (lv' := [(5, .ref q9), (0, .ref (q 0)), (1, .int a1), (2, .int a2), (3, .int a3), (4, .ref (q 23))]) hx hb dL_deliver_15 hl (by decide) rfl (fun ls hl => ?_)
      refine lv_iconst (v := 1) hx hb dL_deliver_17 (by decide) ?_
      exact W.iret hx hb hr (fun t2 ht2 _ => ⟨⟨1, g, rfl, ⟨by rw [h9]; rfl, fun h0 => absurd h0 hne⟩, by show va_P D vwCl _ t2.heap; rw [ht2]; exact hPj⟩, hS1.F ht2⟩) hS1.2.2 dL_deliver_18 hlocks
    · rw [h9] at hE
      obtain rfl : E = "java/lang/IllegalArgumentException" := hE.trans (by decide +kernel)
      refine vx_catch (own := RL) (name := "java/lang/IllegalArgumentException") hown [⟨0, 12, 15, 27⟩] ⟨0, 12, 19, 13⟩ [⟨0, 12, 23, 15⟩] (by rw [htab]; rfl) (fun z hz => by rcases List.mem_cons.mp hz with rfl | hz; exact Or.inr ⟨(by decide), "java/lang/IndexOutOfBoundsException", (hts (.classLink RL 27 "java/lang/IndexOutOfBoundsException") (List.mem_of_getElem? (i := 1) rfl)), hNC.1⟩; cases hz) (by decide) (by decide) (hts (.classLink RL 13 "java/lang/IllegalArgumentException") (List.mem_of_getElem? (i := 2) rfl)) (va_Nw.use rfl (hk.2 (.castable "java/lang/IllegalArgumentException" "java/lang/IllegalArgumentException") (List.mem_of_getElem? (i := 72) rfl))) hcell hv9 hcl ?_
      refine lv_astore (lv' := [(5, .ref q9), (0, .ref (q 0)), (1, .int a1), (2, .int a2), (3, .int a3), (4, .ref (q 23))]) hx hb dL_deliver_19 hl (by decide) rfl (fun ls hl => ?_)
      refine lv_iconst (v := 2) hx hb dL_deliver_21 (by decide) ?_
      exact W.iret hx hb hr (fun t2 ht2 _ => ⟨⟨2, g, rfl, ⟨by rw [h9]; rfl, fun h0 => absurd h0 hne⟩, by show va_P D vwCl _ t2.heap; rw [ht2]; exact hPj⟩, hS1.F ht2⟩) hS1.2.2 dL_deliver_22 hlocks
    · rw [h9] at hE
      obtain rfl : E = "java/lang/IllegalStateException" := hE.trans (by decide +kernel)
      refine vx_catch (own := RL) (name := "java/lang/IllegalStateException") hown [⟨0, 12, 15, 27⟩, ⟨0, 12, 19, 13⟩] ⟨0, 12, 23, 15⟩ [] (by rw [htab]; rfl) (fun z hz => by rcases List.mem_cons.mp hz with rfl | hz; exact Or.inr ⟨(by decide), "java/lang/IndexOutOfBoundsException", (hts (.classLink RL 27 "java/lang/IndexOutOfBoundsException") (List.mem_of_getElem? (i := 1) rfl)), hNC.2.1⟩; rcases List.mem_cons.mp hz with rfl | hz; exact Or.inr ⟨(by decide), "java/lang/IllegalArgumentException", (hts (.classLink RL 13 "java/lang/IllegalArgumentException") (List.mem_of_getElem? (i := 2) rfl)), hNC.2.2⟩; cases hz) (by decide) (by decide) (hts (.classLink RL 15 "java/lang/IllegalStateException") (List.mem_of_getElem? (i := 3) rfl)) (va_Nw.use rfl (hk.2 (.castable "java/lang/IllegalStateException" "java/lang/IllegalStateException") (List.mem_of_getElem? (i := 73) rfl))) hcell hv9 hcl ?_
      refine lv_astore (lv' := [(5, .ref q9), (0, .ref (q 0)), (1, .int a1), (2, .int a2), (3, .int a3), (4, .ref (q 23))]) hx hb dL_deliver_23 hl (by decide) rfl (fun ls hl => ?_)
      refine lv_iconst (v := 3) hx hb dL_deliver_25 (by decide) ?_
      exact W.iret hx hb hr (fun t2 ht2 _ => ⟨⟨3, g, rfl, ⟨by rw [h9]; rfl, fun h0 => absurd h0 hne⟩, by show va_P D vwCl _ t2.heap; rw [ht2]; exact hPj⟩, hS1.F ht2⟩) hS1.2.2 dL_deliver_26 hlocks
  · intro r u2 t H1 locs1 ht _ hw hB hz hk1 hS1
    rw [ht] at hB
    have hPj := wCo_of (g := g) (u := u2) hB (wCo_k hPo hk1 hq)
    refine W.widen (k := 4) (n := 24) (by omega) (by omega) ?_
    refine lv_i2l (v := r.toInt64) hx hb dL_deliver_10 rfl ?_
    refine va_last hx hb hKL hPj (wCo_D hq) hS1 23 0 rfl rfl (vp_in_nI (n := 0) (by decide) (by decide)) dL_deliver_11 (fun H2 locs2 hP2 _ hS2 => ?_)
    have hP2 : va_P D vwCl (wCo cI cO cL q u2 (vp_updL g (0 : Int32).toNatClampNeg r.toInt64)) H2 := hP2
    refine lv_goto (tgt := 27) hx hb dL_deliver_12 (by decide) ?_
    refine lv_iconst (v := 0) hx hb dL_deliver_27 (by decide) ?_
    exact W.iret hx hb hr (fun t2 ht2 _ => ⟨⟨0, vp_updL g (0 : Int32).toNatClampNeg r.toInt64, rfl, ⟨by rw [← hw]; rfl, fun _ => by rw [← hw]; exact if_pos rfl⟩, by show va_P D vwCl _ t2.heap; rw [ht2, ← hw]; exact hP2⟩, hS2.F ht2⟩) hS2.2.2 dL_deliver_28 hlocks
theorem cd_sell (u : bU) (a1 : Int32) (a2 : Int32) (a3 : Int32) : (F5_sell u a1 a2 a3).1 = 0 ∨ (F5_sell u a1 a2 a3).1 = 1 ∨ (F5_sell u a1 a2 a3).1 = 2 ∨ (F5_sell u a1 a2 a3).1 = 3 := by
  unfold F5_sell
  (repeat' split) <;> first | with_reducible exact Or.inl rfl | (dsimp only; first | with_reducible exact (n_arg _).elim Or.inl (fun h => Or.inr (Or.inr (Or.inl h))) | with_reducible exact (n_st _).elim Or.inl (fun h => Or.inr (Or.inr (Or.inr (h)))) | with_reducible exact (n_rng _ _ _).elim Or.inl (fun h => Or.inr (Or.inr (Or.inl h))) | with_reducible exact (n_kd _).elim Or.inl (fun h => Or.inr (Or.inr (Or.inl h))) | with_reducible exact (n_set _).elim Or.inl (fun h => Or.inr (Or.inl h)) | with_reducible exact (n_br _ _).elim Or.inl (fun h => Or.inr (Or.inl h)) | with_reducible exact (n_sh _ _).elim Or.inl (fun h => Or.inr (Or.inl h)))
set_option maxHeartbeats 4000000 in
set_option maxRecDepth 100000 in
theorem CL_sell (l : Launch) (D : va_G) (cI cO cL : ClassId) (q : Nat → Nat) (u : bU) (g : Nat → Int64) (H0 : Heap) (hq : bInj 24 q) (hl9 : l.stackTraces = false) (hP : va_P D vwCl (wCo cI cO cL q u g) H0) (a1 : Int32) (a2 : Int32) (a3 : Int32) (hlat : bLat u) : Met l yL_sell wsL_sell ({ frames := 9, cells := 4, slots := 24, locals := 266 }) (bPL D cI cO cL (bA 24 q H0.size) H0 [.ref (q 0), .int a1, .int a2, .int a3, .ref (q 23)]) (bLi D cI cO cL q (bA 24 q H0.size) id (F5_sell u a1 a2 a3)) 4 24 (bA 24 q H0.size) := by
  refine Met.ofWH (cc := cL_sell) (maxL := 6) (ret := (some .int)) (hh := [(0, 12, 15, 27), (0, 12, 19, 13), (0, 12, 23, 15)]) (by decide) rfl ?_
  intro p e s m args below meth c s₁ B hml hv
  obtain ⟨rfl, hH, hk, hX, hKL, hNC⟩ := hv
  subst hH
  have hx := B.exec
  have hb := B.bytes
  have hr := B.returns
  have hts := atoms_spec (ws := wsL_sell) B.pre
  have hown : s.vm.findClass RL = some m.cls := findClass_of_methodNamed B.named
  have hlocks := B.notSynchronized
  have htab : c.exceptionTable.toList = tableOf [(0, 12, 15, 27), (0, 12, 19, 13), (0, 12, 23, 15)] := vx_table (x := yL_sell) B (hts _ List.mem_cons_self)
  have hS : va_S (bA 24 q s.heap.size) s.heap s.heap [] := va_S.rf
  have hl := lv_entry ([.ref (q 0), .int a1, .int a2, .int a3, .ref (q 23)]) (n := 6) (Nat.le_of_ble_eq_true rfl)
  rw [lg_entry_eq]
  generalize (lg_sl ([.ref (q 0), .int a1, .int a2, .int a3, .ref (q 23)]) ++ List.replicate (6 - (lg_sl ([.ref (q 0), .int a1, .int a2, .int a3, .ref (q 23)])).length) Slot.unset).toArray = ls at hl ⊢
  have hl : lv_has ls 6 [(0, .ref (q 0)), (1, .int a1), (2, .int a2), (3, .int a3), (4, .ref (q 23))] := hl
  have hPC := wCo_C hP
  have hPo := wCo_o hP
  have hq23 := bInj_23 hq
  refine lv_aload hx hb dL_sell_0 (lv_at hl 4 rfl) ?_
  refine lv_iconst (v := 0) hx hb dL_sell_2 (by decide) ?_
  refine lv_aload_n hx hb dL_sell_3 rfl (lv_at hl 0 rfl) ?_
  refine lv_iload_n hx hb dL_sell_4 rfl (lv_at hl 1 rfl) ?_
  refine lv_iload_n hx hb dL_sell_5 rfl (lv_at hl 2 rfl) ?_
  refine lv_iload_n hx hb dL_sell_6 rfl (lv_at hl 3 rfl) ?_
  refine vx_calli (vx_runV (As := [.int a1, .int a2, .int a3]) (rest := [.int 0, .ref (q 23)]) ⟨hx, hb, hml, hown, hts⟩ (C5_sell l D cI cO q u _ hq23 hl9 hPC a1 a2 a3 hlat) (cwV 3 hts gL_sell_X5_sell rfl rfl rfl ⟨rfl, bd_X5sell⟩ ⟨Nat.le_of_ble_eq_true rfl, Nat.le_of_ble_eq_true rfl⟩) (bPVX hk hX hS (bA_34 (Nat.le_refl _)) (va_recv hk.1 hPC (ci := 5) (q0 := 0) rfl (wC_0 _ _ _ _))) rfl rfl hl.1 rfl (lv_room (Nat.le_of_ble_eq_true rfl)) dL_sell_7 ⟨Nat.le_of_ble_eq_true rfl, Nat.le_of_ble_eq_true rfl⟩) hS (fun x _ h => bA_34 (Nat.le_refl _) x h) (fun x h => bA_34 (Nat.le_refl _) x h) (fun x _ h => bA_34 (Nat.le_refl _) x h) ?_ ?_
  · intro E ce q9 u9 t H1 locs1 ht _ hne hB hz hk1 hS1 hcell hv9 hcl
    obtain ⟨hE, hPx⟩ := hB
    rw [ht] at hPx
    have hPj := wCo_of (g := g) (u := (F5_sell u a1 a2 a3).2.2) hPx (wCo_k hPo hk1 hq)
    refine vx_widen (k := 4) (n := 24) (by omega) (by omega) ?_
    rcases cd_sell u a1 a2 a3 with h9 | h9 | h9 | h9
    · exact absurd h9 hne
    · rw [h9] at hE
      obtain rfl : E = "java/lang/IndexOutOfBoundsException" := hE.trans (by decide +kernel)
      refine vx_catch (own := RL) (name := "java/lang/IndexOutOfBoundsException") hown [] ⟨0, 12, 15, 27⟩ [⟨0, 12, 19, 13⟩, ⟨0, 12, 23, 15⟩] (by rw [htab]; rfl) (fun z hz => by cases hz) (by decide) (by decide) (hts (.classLink RL 27 "java/lang/IndexOutOfBoundsException") (List.mem_of_getElem? (i := 1) rfl)) (va_Nw.use rfl (hk.2 (.castable "java/lang/IndexOutOfBoundsException" "java/lang/IndexOutOfBoundsException") (List.mem_of_getElem? (i := 71) rfl))) hcell hv9 hcl ?_
      refine lv_astore (lv' := [(5, .ref q9), (0, .ref (q 0)), (1, .int a1), (2, .int a2), (3, .int a3), (4, .ref (q 23))]) hx hb dL_sell_15 hl (by decide) rfl (fun ls hl => ?_)
      refine lv_iconst (v := 1) hx hb dL_sell_17 (by decide) ?_
      exact W.iret hx hb hr (fun t2 ht2 _ => ⟨⟨1, g, rfl, ⟨by rw [h9]; rfl, fun h0 => absurd h0 hne⟩, by show va_P D vwCl _ t2.heap; rw [ht2]; exact hPj⟩, hS1.F ht2⟩) hS1.2.2 dL_sell_18 hlocks
    · rw [h9] at hE
      obtain rfl : E = "java/lang/IllegalArgumentException" := hE.trans (by decide +kernel)
      refine vx_catch (own := RL) (name := "java/lang/IllegalArgumentException") hown [⟨0, 12, 15, 27⟩] ⟨0, 12, 19, 13⟩ [⟨0, 12, 23, 15⟩] (by rw [htab]; rfl) (fun z hz => by rcases List.mem_cons.mp hz with rfl | hz; exact Or.inr ⟨(by decide), "java/lang/IndexOutOfBoundsException", (hts (.classLink RL 27 "java/lang/IndexOutOfBoundsException") (List.mem_of_getElem? (i := 1) rfl)), hNC.1⟩; cases hz) (by decide) (by decide) (hts (.classLink RL 13 "java/lang/IllegalArgumentException") (List.mem_of_getElem? (i := 2) rfl)) (va_Nw.use rfl (hk.2 (.castable "java/lang/IllegalArgumentException" "java/lang/IllegalArgumentException") (List.mem_of_getElem? (i := 72) rfl))) hcell hv9 hcl ?_
      refine lv_astore (lv' := [(5, .ref q9), (0, .ref (q 0)), (1, .int a1), (2, .int a2), (3, .int a3), (4, .ref (q 23))]) hx hb dL_sell_19 hl (by decide) rfl (fun ls hl => ?_)
      refine lv_iconst (v := 2) hx hb dL_sell_21 (by decide) ?_
      exact W.iret hx hb hr (fun t2 ht2 _ => ⟨⟨2, g, rfl, ⟨by rw [h9]; rfl, fun h0 => absurd h0 hne⟩, by show va_P D vwCl _ t2.heap; rw [ht2]; exact hPj⟩, hS1.F ht2⟩) hS1.2.2 dL_sell_22 hlocks
    · rw [h9] at hE
      obtain rfl : E = "java/lang/IllegalStateException" := hE.trans (by decide +kernel)
      refine vx_catch (own := RL) (name := "java/lang/IllegalStateException") hown [⟨0, 12, 15, 27⟩, ⟨0, 12, 19, 13⟩] ⟨0, 12, 23, 15⟩ [] (by rw [htab]; rfl) (fun z hz => by rcases List.mem_cons.mp hz with rfl | hz; exact Or.inr ⟨(by decide), "java/lang/IndexOutOfBoundsException", (hts (.classLink RL 27 "java/lang/IndexOutOfBoundsException") (List.mem_of_getElem? (i := 1) rfl)), hNC.2.1⟩; rcases List.mem_cons.mp hz with rfl | hz; exact Or.inr ⟨(by decide), "java/lang/IllegalArgumentException", (hts (.classLink RL 13 "java/lang/IllegalArgumentException") (List.mem_of_getElem? (i := 2) rfl)), hNC.2.2⟩; cases hz) (by decide) (by decide) (hts (.classLink RL 15 "java/lang/IllegalStateException") (List.mem_of_getElem? (i := 3) rfl)) (va_Nw.use rfl (hk.2 (.castable "java/lang/IllegalStateException" "java/lang/IllegalStateException") (List.mem_of_getElem? (i := 73) rfl))) hcell hv9 hcl ?_
      refine lv_astore (lv' := [(5, .ref q9), (0, .ref (q 0)), (1, .int a1), (2, .int a2), (3, .int a3), (4, .ref (q 23))]) hx hb dL_sell_23 hl (by decide) rfl (fun ls hl => ?_)
      refine lv_iconst (v := 3) hx hb dL_sell_25 (by decide) ?_
      exact W.iret hx hb hr (fun t2 ht2 _ => ⟨⟨3, g, rfl, ⟨by rw [h9]; rfl, fun h0 => absurd h0 hne⟩, by show va_P D vwCl _ t2.heap; rw [ht2]; exact hPj⟩, hS1.F ht2⟩) hS1.2.2 dL_sell_26 hlocks
  · intro r u2 t H1 locs1 ht _ hw hB hz hk1 hS1
    rw [ht] at hB
    have hPj := wCo_of (g := g) (u := u2) hB (wCo_k hPo hk1 hq)
    refine W.widen (k := 4) (n := 24) (by omega) (by omega) ?_
    refine lv_i2l (v := r.toInt64) hx hb dL_sell_10 rfl ?_
    refine va_last hx hb hKL hPj (wCo_D hq) hS1 23 0 rfl rfl (vp_in_nI (n := 0) (by decide) (by decide)) dL_sell_11 (fun H2 locs2 hP2 _ hS2 => ?_)
    have hP2 : va_P D vwCl (wCo cI cO cL q u2 (vp_updL g (0 : Int32).toNatClampNeg r.toInt64)) H2 := hP2
    refine lv_goto (tgt := 27) hx hb dL_sell_12 (by decide) ?_
    refine lv_iconst (v := 0) hx hb dL_sell_27 (by decide) ?_
    exact W.iret hx hb hr (fun t2 ht2 _ => ⟨⟨0, vp_updL g (0 : Int32).toNatClampNeg r.toInt64, rfl, ⟨by rw [← hw]; rfl, fun _ => by rw [← hw]; exact if_pos rfl⟩, by show va_P D vwCl _ t2.heap; rw [ht2, ← hw]; exact hP2⟩, hS2.F ht2⟩) hS2.2.2 dL_sell_28 hlocks

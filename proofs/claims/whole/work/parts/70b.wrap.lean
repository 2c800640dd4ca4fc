-- wrappers, on (by program)
theorem bd_X5takeBack : yX5_takeBack.cls ≠ "java/lang/invoke/MethodHandle" ∧ yX5_takeBack.cls ≠ "java/lang/invoke/VarHandle" ∧ (parseMethodDescriptor yX5_takeBack.desc).map (fun d => d.parameters.length) = some 3 := by decide +kernel
theorem bd_X5breaks : yX5_breaks.cls ≠ "java/lang/invoke/MethodHandle" ∧ yX5_breaks.cls ≠ "java/lang/invoke/VarHandle" ∧ (parseMethodDescriptor yX5_breaks.desc).map (fun d => d.parameters.length) = some 3 := by decide +kernel
theorem bd_X5lose : yX5_lose.cls ≠ "java/lang/invoke/MethodHandle" ∧ yX5_lose.cls ≠ "java/lang/invoke/VarHandle" ∧ (parseMethodDescriptor yX5_lose.desc).map (fun d => d.parameters.length) = some 2 := by decide +kernel
theorem bd_X5collect : yX5_collect.cls ≠ "java/lang/invoke/MethodHandle" ∧ yX5_collect.cls ≠ "java/lang/invoke/VarHandle" ∧ (parseMethodDescriptor yX5_collect.desc).map (fun d => d.parameters.length) = some 3 := by decide +kernel
theorem bd_X5sort : yX5_sort.cls ≠ "java/lang/invoke/MethodHandle" ∧ yX5_sort.cls ≠ "java/lang/invoke/VarHandle" ∧ (parseMethodDescriptor yX5_sort.desc).map (fun d => d.parameters.length) = some 2 := by decide +kernel
theorem bd_X5swap : yX5_swap.cls ≠ "java/lang/invoke/MethodHandle" ∧ yX5_swap.cls ≠ "java/lang/invoke/VarHandle" ∧ (parseMethodDescriptor yX5_swap.desc).map (fun d => d.parameters.length) = some 3 := by decide +kernel
theorem bd_X5append : yX5_append.cls ≠ "java/lang/invoke/MethodHandle" ∧ yX5_append.cls ≠ "java/lang/invoke/VarHandle" ∧ (parseMethodDescriptor yX5_append.desc).map (fun d => d.parameters.length) = some 1 := by decide +kernel
theorem cd_takeBack (u : bU) (a1 : Int32) (a2 : Int32) (a3 : Int32) : (F5_takeBack u a1 a2 a3).1 = 0 ∨ (F5_takeBack u a1 a2 a3).1 = 1 ∨ (F5_takeBack u a1 a2 a3).1 = 2 ∨ (F5_takeBack u a1 a2 a3).1 = 3 := by
  unfold F5_takeBack
  (repeat' split) <;> first | with_reducible exact Or.inl rfl | (dsimp only; first | with_reducible exact (n_arg _).elim Or.inl (fun h => Or.inr (Or.inr (Or.inl h))) | with_reducible exact (n_st _).elim Or.inl (fun h => Or.inr (Or.inr (Or.inr (h)))) | with_reducible exact (n_rng _ _ _).elim Or.inl (fun h => Or.inr (Or.inr (Or.inl h))) | with_reducible exact (n_kd _).elim Or.inl (fun h => Or.inr (Or.inr (Or.inl h))) | with_reducible exact (n_set _).elim Or.inl (fun h => Or.inr (Or.inl h)) | with_reducible exact (n_br _ _).elim Or.inl (fun h => Or.inr (Or.inl h)) | with_reducible exact (n_sh _ _).elim Or.inl (fun h => Or.inr (Or.inl h)))
set_option maxHeartbeats 4000000 in
set_option maxRecDepth 100000 in
theorem CL_takeBack (l : Launch) (D : va_G) (cI cO cL : ClassId) (q : Nat → Nat) (u : bU) (g : Nat → Int64) (H0 : Heap) (hq : bInj 24 q) (hl9 : l.stackTraces = false) (hP : va_P D vwCl (wCo cI cO cL q u g) H0) (a1 : Int32) (a2 : Int32) (a3 : Int32) (hlat : bLat u) : Met l yL_takeBack wsL_takeBack ({ frames := 9, cells := 4, slots := 24, locals := 266 }) (bPL D cI cO cL (bA 24 q H0.size) H0 [.ref (q 0), .int a1, .int a2, .int a3, .ref (q 23)]) (bLi D cI cO cL q (bA 24 q H0.size) id (F5_takeBack u a1 a2 a3)) 4 24 (bA 24 q H0.size) := by
  refine Met.ofWH (cc := cL_takeBack) (maxL := 6) (ret := (some .int)) (hh := [(0, 12, 15, 27), (0, 12, 19, 13), (0, 12, 23, 15)]) (by decide) rfl ?_
  intro p e s m args below meth c s₁ B hml hv
  obtain ⟨rfl, hH, hk, hX, hKL, hNC⟩ := hv
  subst hH
  have hx := B.exec
  have hb := B.bytes
  have hr := B.returns
  have hts := atoms_spec (ws := wsL_takeBack) B.pre
  have hown : s.vm.findClass RL = some m.cls := findClass_of_methodNamed B.named
  have hlocks := B.notSynchronized
  have htab : c.exceptionTable.toList = tableOf [(0, 12, 15, 27), (0, 12, 19, 13), (0, 12, 23, 15)] := vx_table (x := yL_takeBack) B (hts _ List.mem_cons_self)
  have hS : va_S (bA 24 q s.heap.size) s.heap s.heap [] := va_S.rf
  have hl := lv_entry ([.ref (q 0), .int a1, .int a2, .int a3, .ref (q 23)]) (n := 6) (Nat.le_of_ble_eq_true rfl)
  rw [lg_entry_eq]
  generalize (lg_sl ([.ref (q 0), .int a1, .int a2, .int a3, .ref (q 23)]) ++ List.replicate (6 - (lg_sl ([.ref (q 0), .int a1, .int a2, .int a3, .ref (q 23)])).length) Slot.unset).toArray = ls at hl ⊢
  have hl : lv_has ls 6 [(0, .ref (q 0)), (1, .int a1), (2, .int a2), (3, .int a3), (4, .ref (q 23))] := hl
  have hPC := wCo_C hP
  have hPo := wCo_o hP
  have hq23 := bInj_23 hq
  refine lv_aload hx hb dL_takeBack_0 (lv_at hl 4 rfl) ?_
  refine lv_iconst (v := 0) hx hb dL_takeBack_2 (by decide) ?_
  refine lv_aload_n hx hb dL_takeBack_3 rfl (lv_at hl 0 rfl) ?_
  refine lv_iload_n hx hb dL_takeBack_4 rfl (lv_at hl 1 rfl) ?_
  refine lv_iload_n hx hb dL_takeBack_5 rfl (lv_at hl 2 rfl) ?_
  refine lv_iload_n hx hb dL_takeBack_6 rfl (lv_at hl 3 rfl) ?_
  refine vx_calli (vx_runV (As := [.int a1, .int a2, .int a3]) (rest := [.int 0, .ref (q 23)]) ⟨hx, hb, hml, hown, hts⟩ (C5_takeBack l D cI cO q u _ hq23 hl9 hPC a1 a2 a3 hlat) (cwV 3 hts gL_takeBack_X5_takeBack rfl rfl rfl ⟨rfl, bd_X5takeBack⟩ ⟨Nat.le_of_ble_eq_true rfl, Nat.le_of_ble_eq_true rfl⟩) (bPVX hk hX hS (bA_34 (Nat.le_refl _)) (va_recv hk.1 hPC (ci := 5) (q0 := 0) rfl (wC_0 _ _ _ _))) rfl rfl hl.1 rfl (lv_room (Nat.le_of_ble_eq_true rfl)) dL_takeBack_7 ⟨Nat.le_of_ble_eq_true rfl, Nat.le_of_ble_eq_true rfl⟩) hS (fun x _ h => bA_34 (Nat.le_refl _) x h) (fun x h => bA_34 (Nat.le_refl _) x h) (fun x _ h => bA_34 (Nat.le_refl _) x h) ?_ ?_
  · intro E ce q9 u9 t H1 locs1 ht _ hne hB hz hk1 hS1 hcell hv9 hcl
    obtain ⟨hE, hPx⟩ := hB
    rw [ht] at hPx
    have hPj := wCo_of (g := g) (u := (F5_takeBack u a1 a2 a3).2.2) hPx (wCo_k hPo hk1 hq)
    refine vx_widen (k := 4) (n := 24) (by omega) (by omega) ?_
    rcases cd_takeBack u a1 a2 a3 with h9 | h9 | h9 | h9
    · exact absurd h9 hne
    · rw [h9] at hE
      obtain rfl : E = "java/lang/IndexOutOfBoundsException" := hE.trans (by decide +kernel)
      refine vx_catch (own := RL) (name := "java/lang/IndexOutOfBoundsException") hown [] ⟨0, 12, 15, 27⟩ [⟨0, 12, 19, 13⟩, ⟨0, 12, 23, 15⟩] (by rw [htab]; rfl) (fun z hz => by cases hz) (by decide) (by decide) (hts (.classLink RL 27 "java/lang/IndexOutOfBoundsException") (List.mem_of_getElem? (i := 1) rfl)) (va_Nw.use rfl (hk.2 (.castable "java/lang/IndexOutOfBoundsException" "java/lang/IndexOutOfBoundsException") (List.mem_of_getElem? (i := 71) rfl))) hcell hv9 hcl ?_
      refine lv_astore (lv' := [(5, .ref q9), (0, .ref (q 0)), (1, .int a1), (2, .int a2), (3, .int a3), (4, .ref (q 23))]) hx hb dL_takeBack_15 hl (by decide) rfl (fun ls hl => ?_)
      refine lv_iconst (v := 1) hx hb dL_takeBack_17 (by decide) ?_
      exact W.iret hx hb hr (fun t2 ht2 _ => ⟨⟨1, g, rfl, ⟨by rw [h9]; rfl, fun h0 => absurd h0 hne⟩, by show va_P D vwCl _ t2.heap; rw [ht2]; exact hPj⟩, hS1.F ht2⟩) hS1.2.2 dL_takeBack_18 hlocks
    · rw [h9] at hE
      obtain rfl : E = "java/lang/IllegalArgumentException" := hE.trans (by decide +kernel)
      refine vx_catch (own := RL) (name := "java/lang/IllegalArgumentException") hown [⟨0, 12, 15, 27⟩] ⟨0, 12, 19, 13⟩ [⟨0, 12, 23, 15⟩] (by rw [htab]; rfl) (fun z hz => by rcases List.mem_cons.mp hz with rfl | hz; exact Or.inr ⟨(by decide), "java/lang/IndexOutOfBoundsException", (hts (.classLink RL 27 "java/lang/IndexOutOfBoundsException") (List.mem_of_getElem? (i := 1) rfl)), hNC.1⟩; cases hz) (by decide) (by decide) (hts (.classLink RL 13 "java/lang/IllegalArgumentException") (List.mem_of_getElem? (i := 2) rfl)) (va_Nw.use rfl (hk.2 (.castable "java/lang/IllegalArgumentException" "java/lang/IllegalArgumentException") (List.mem_of_getElem? (i := 72) rfl))) hcell hv9 hcl ?_
      refine lv_astore (lv' := [(5, .ref q9), (0, .ref (q 0)), (1, .int a1), (2, .int a2), (3, .int a3), (4, .ref (q 23))]) hx hb dL_takeBack_19 hl (by decide) rfl (fun ls hl => ?_)
      refine lv_iconst (v := 2) hx hb dL_takeBack_21 (by decide) ?_
      exact W.iret hx hb hr (fun t2 ht2 _ => ⟨⟨2, g, rfl, ⟨by rw [h9]; rfl, fun h0 => absurd h0 hne⟩, by show va_P D vwCl _ t2.heap; rw [ht2]; exact hPj⟩, hS1.F ht2⟩) hS1.2.2 dL_takeBack_22 hlocks
    · rw [h9] at hE
      obtain rfl : E = "java/lang/IllegalStateException" := hE.trans (by decide +kernel)
      refine vx_catch (own := RL) (name := "java/lang/IllegalStateException") hown [⟨0, 12, 15, 27⟩, ⟨0, 12, 19, 13⟩] ⟨0, 12, 23, 15⟩ [] (by rw [htab]; rfl) (fun z hz => by rcases List.mem_cons.mp hz with rfl | hz; exact Or.inr ⟨(by decide), "java/lang/IndexOutOfBoundsException", (hts (.classLink RL 27 "java/lang/IndexOutOfBoundsException") (List.mem_of_getElem? (i := 1) rfl)), hNC.2.1⟩; rcases List.mem_cons.mp hz with rfl | hz; exact Or.inr ⟨(by decide), "java/lang/IllegalArgumentException", (hts (.classLink RL 13 "java/lang/IllegalArgumentException") (List.mem_of_getElem? (i := 2) rfl)), hNC.2.2⟩; cases hz) (by decide) (by decide) (hts (.classLink RL 15 "java/lang/IllegalStateException") (List.mem_of_getElem? (i := 3) rfl)) (va_Nw.use rfl (hk.2 (.castable "java/lang/IllegalStateException" "java/lang/IllegalStateException") (List.mem_of_getElem? (i := 73) rfl))) hcell hv9 hcl ?_
      refine lv_astore (lv' := [(5, .ref q9), (0, .ref (q 0)), (1, .int a1), (2, .int a2), (3, .int a3), (4, .ref (q 23))]) hx hb dL_takeBack_23 hl (by decide) rfl (fun ls hl => ?_)
      refine lv_iconst (v := 3) hx hb dL_takeBack_25 (by decide) ?_
      exact W.iret hx hb hr (fun t2 ht2 _ => ⟨⟨3, g, rfl, ⟨by rw [h9]; rfl, fun h0 => absurd h0 hne⟩, by show va_P D vwCl _ t2.heap; rw [ht2]; exact hPj⟩, hS1.F ht2⟩) hS1.2.2 dL_takeBack_26 hlocks
  · intro r u2 t H1 locs1 ht _ hw hB hz hk1 hS1
    rw [ht] at hB
    have hPj := wCo_of (g := g) (u := u2) hB (wCo_k hPo hk1 hq)
    refine W.widen (k := 4) (n := 24) (by omega) (by omega) ?_
    refine lv_i2l (v := r.toInt64) hx hb dL_takeBack_10 rfl ?_
    refine va_last hx hb hKL hPj (wCo_D hq) hS1 23 0 rfl rfl (vp_in_nI (n := 0) (by decide) (by decide)) dL_takeBack_11 (fun H2 locs2 hP2 _ hS2 => ?_)
    have hP2 : va_P D vwCl (wCo cI cO cL q u2 (vp_updL g (0 : Int32).toNatClampNeg r.toInt64)) H2 := hP2
    refine lv_goto (tgt := 27) hx hb dL_takeBack_12 (by decide) ?_
    refine lv_iconst (v := 0) hx hb dL_takeBack_27 (by decide) ?_
    exact W.iret hx hb hr (fun t2 ht2 _ => ⟨⟨0, vp_updL g (0 : Int32).toNatClampNeg r.toInt64, rfl, ⟨by rw [← hw]; rfl, fun _ => by rw [← hw]; exact if_pos rfl⟩, by show va_P D vwCl _ t2.heap; rw [ht2, ← hw]; exact hP2⟩, hS2.F ht2⟩) hS2.2.2 dL_takeBack_28 hlocks
theorem cd_breaks (u : bU) (a1 : Int32) (a2 : Int32) (a3 : Int32) : (F5_breaks u a1 a2 a3).1 = 0 ∨ (F5_breaks u a1 a2 a3).1 = 1 ∨ (F5_breaks u a1 a2 a3).1 = 2 ∨ (F5_breaks u a1 a2 a3).1 = 3 := by
  unfold F5_breaks
  (repeat' split) <;> first | with_reducible exact Or.inl rfl | (dsimp only; first | with_reducible exact (n_arg _).elim Or.inl (fun h => Or.inr (Or.inr (Or.inl h))) | with_reducible exact (n_st _).elim Or.inl (fun h => Or.inr (Or.inr (Or.inr (h)))) | with_reducible exact (n_rng _ _ _).elim Or.inl (fun h => Or.inr (Or.inr (Or.inl h))) | with_reducible exact (n_kd _).elim Or.inl (fun h => Or.inr (Or.inr (Or.inl h))) | with_reducible exact (n_set _).elim Or.inl (fun h => Or.inr (Or.inl h)) | with_reducible exact (n_br _ _).elim Or.inl (fun h => Or.inr (Or.inl h)) | with_reducible exact (n_sh _ _).elim Or.inl (fun h => Or.inr (Or.inl h)))
set_option maxHeartbeats 4000000 in
set_option maxRecDepth 100000 in
theorem CL_breaks (l : Launch) (D : va_G) (cI cO cL : ClassId) (q : Nat → Nat) (u : bU) (g : Nat → Int64) (H0 : Heap) (hq : bInj 24 q) (hl9 : l.stackTraces = false) (hP : va_P D vwCl (wCo cI cO cL q u g) H0) (a1 : Int32) (a2 : Int32) (a3 : Int32) (hlat : bLat u) : Met l yL_breaks wsL_breaks ({ frames := 9, cells := 4, slots := 24, locals := 266 }) (bPL D cI cO cL (bA 24 q H0.size) H0 [.ref (q 0), .int a1, .int a2, .int a3, .ref (q 23)]) (bLi D cI cO cL q (bA 24 q H0.size) id (F5_breaks u a1 a2 a3)) 4 24 (bA 24 q H0.size) := by
  refine Met.ofWH (cc := cL_breaks) (maxL := 6) (ret := (some .int)) (hh := [(0, 12, 15, 27), (0, 12, 19, 13), (0, 12, 23, 15)]) (by decide) rfl ?_
  intro p e s m args below meth c s₁ B hml hv
  obtain ⟨rfl, hH, hk, hX, hKL, hNC⟩ := hv
  subst hH
  have hx := B.exec
  have hb := B.bytes
  have hr := B.returns
  have hts := atoms_spec (ws := wsL_breaks) B.pre
  have hown : s.vm.findClass RL = some m.cls := findClass_of_methodNamed B.named
  have hlocks := B.notSynchronized
  have htab : c.exceptionTable.toList = tableOf [(0, 12, 15, 27), (0, 12, 19, 13), (0, 12, 23, 15)] := vx_table (x := yL_breaks) B (hts _ List.mem_cons_self)
  have hS : va_S (bA 24 q s.heap.size) s.heap s.heap [] := va_S.rf
  have hl := lv_entry ([.ref (q 0), .int a1, .int a2, .int a3, .ref (q 23)]) (n := 6) (Nat.le_of_ble_eq_true rfl)
  rw [lg_entry_eq]
  generalize (lg_sl ([.ref (q 0), .int a1, .int a2, .int a3, .ref (q 23)]) ++ List.replicate (6 - (lg_sl ([.ref (q 0), .int a1, .int a2, .int a3, .ref (q 23)])).length) Slot.unset).toArray = ls at hl ⊢
  have hl : lv_has ls 6 [(0, .ref (q 0)), (1, .int a1), (2, .int a2), (3, .int a3), (4, .ref (q 23))] := hl
  have hPC := wCo_C hP
  have hPo := wCo_o hP
  have hq23 := bInj_23 hq
  refine lv_aload hx hb dL_breaks_0 (lv_at hl 4 rfl) ?_
  refine lv_iconst (v := 0) hx hb dL_breaks_2 (by decide) ?_
  refine lv_aload_n hx hb dL_breaks_3 rfl (lv_at hl 0 rfl) ?_
  refine lv_iload_n hx hb dL_breaks_4 rfl (lv_at hl 1 rfl) ?_
  refine lv_iload_n hx hb dL_breaks_5 rfl (lv_at hl 2 rfl) ?_
  refine lv_iload_n hx hb dL_breaks_6 rfl (lv_at hl 3 rfl) ?_
  refine vx_calli (vx_runV (As := [.int a1, .int a2, .int a3]) (rest := [.int 0, .ref (q 23)]) ⟨hx, hb, hml, hown, hts⟩ (C5_breaks l D cI cO q u _ hq23 hl9 hPC a1 a2 a3 hlat) (cwV 3 hts gL_breaks_X5_breaks rfl rfl rfl ⟨rfl, bd_X5breaks⟩ ⟨Nat.le_of_ble_eq_true rfl, Nat.le_of_ble_eq_true rfl⟩) (bPVX hk hX hS (bA_34 (Nat.le_refl _)) (va_recv hk.1 hPC (ci := 5) (q0 := 0) rfl (wC_0 _ _ _ _))) rfl rfl hl.1 rfl (lv_room (Nat.le_of_ble_eq_true rfl)) dL_breaks_7 ⟨Nat.le_of_ble_eq_true rfl, Nat.le_of_ble_eq_true rfl⟩) hS (fun x _ h => bA_34 (Nat.le_refl _) x h) (fun x h => bA_34 (Nat.le_refl _) x h) (fun x _ h => bA_34 (Nat.le_refl _) x h) ?_ ?_
  · intro E ce q9 u9 t H1 locs1 ht _ hne hB hz hk1 hS1 hcell hv9 hcl
    obtain ⟨hE, hPx⟩ := hB
    rw [ht] at hPx
    have hPj := wCo_of (g := g) (u := (F5_breaks u a1 a2 a3).2.2) hPx (wCo_k hPo hk1 hq)
    refine vx_widen (k := 4) (n := 24) (by omega) (by omega) ?_
    rcases cd_breaks u a1 a2 a3 with h9 | h9 | h9 | h9
    · exact absurd h9 hne
    · rw [h9] at hE
      obtain rfl : E = "java/lang/IndexOutOfBoundsException" := hE.trans (by decide +kernel)
      refine vx_catch (own := RL) (name := "java/lang/IndexOutOfBoundsException") hown [] ⟨0, 12, 15, 27⟩ [⟨0, 12, 19, 13⟩, ⟨0, 12, 23, 15⟩] (by rw [htab]; rfl) (fun z hz => by cases hz) (by decide) (by decide) (hts (.classLink RL 27 "java/lang/IndexOutOfBoundsException") (List.mem_of_getElem? (i := 1) rfl)) (va_Nw.use rfl (hk.2 (.castable "java/lang/IndexOutOfBoundsException" "java/lang/IndexOutOfBoundsException") (List.mem_of_getElem? (i := 71) rfl))) hcell hv9 hcl ?_
      refine lv_astore (lv' := [(5, .ref q9), (0, .ref (q 0)), (1, .int a1), (2, .int a2), (3, .int a3), (4, .ref (q 23))]) hx hb dL_breaks_15 hl (by decide) rfl (fun ls hl => ?_)
      refine lv_iconst (v := 1) hx hb dL_breaks_17 (by decide) ?_
      exact W.iret hx hb hr (fun t2 ht2 _ => ⟨⟨1, g, rfl, ⟨by rw [h9]; rfl, fun h0 => absurd h0 hne⟩, by show va_P D vwCl _ t2.heap; rw [ht2]; exact hPj⟩, hS1.F ht2⟩) hS1.2.2 dL_breaks_18 hlocks
    · rw [h9] at hE
      obtain rfl : E = "java/lang/IllegalArgumentException" := hE.trans (by decide +kernel)
      refine vx_catch (own := RL) (name := "java/lang/IllegalArgumentException") hown [⟨0, 12, 15, 27⟩] ⟨0, 12, 19, 13⟩ [⟨0, 12, 23, 15⟩] (by rw [htab]; rfl) (fun z hz => by rcases List.mem_cons.mp hz with rfl | hz; exact Or.inr ⟨(by decide), "java/lang/IndexOutOfBoundsException", (hts (.classLink RL 27 "java/lang/IndexOutOfBoundsException") (List.mem_of_getElem? (i := 1) rfl)), hNC.1⟩; cases hz) (by decide) (by decide) (hts (.classLink RL 13 "java/lang/IllegalArgumentException") (List.mem_of_getElem? (i := 2) rfl)) (va_Nw.use rfl (hk.2 (.castable "java/lang/IllegalArgumentException" "java/lang/IllegalArgumentException") (List.mem_of_getElem? (i := 72) rfl))) hcell hv9 hcl ?_
      refine lv_astore (lv' := [(5, .ref q9), (0, .ref (q 0)), (1, .int a1), (2, .int a2), (3, .int a3), (4, .ref (q 23))]) hx hb dL_breaks_19 hl (by decide) rfl (fun ls hl => ?_)
      refine lv_iconst (v := 2) hx hb dL_breaks_21 (by decide) ?_
      exact W.iret hx hb hr (fun t2 ht2 _ => ⟨⟨2, g, rfl, ⟨by rw [h9]; rfl, fun h0 => absurd h0 hne⟩, by show va_P D vwCl _ t2.heap; rw [ht2]; exact hPj⟩, hS1.F ht2⟩) hS1.2.2 dL_breaks_22 hlocks
    · rw [h9] at hE
      obtain rfl : E = "java/lang/IllegalStateException" := hE.trans (by decide +kernel)
      refine vx_catch (own := RL) (name := "java/lang/IllegalStateException") hown [⟨0, 12, 15, 27⟩, ⟨0, 12, 19, 13⟩] ⟨0, 12, 23, 15⟩ [] (by rw [htab]; rfl) (fun z hz => by rcases List.mem_cons.mp hz with rfl | hz; exact Or.inr ⟨(by decide), "java/lang/IndexOutOfBoundsException", (hts (.classLink RL 27 "java/lang/IndexOutOfBoundsException") (List.mem_of_getElem? (i := 1) rfl)), hNC.2.1⟩; rcases List.mem_cons.mp hz with rfl | hz; exact Or.inr ⟨(by decide), "java/lang/IllegalArgumentException", (hts (.classLink RL 13 "java/lang/IllegalArgumentException") (List.mem_of_getElem? (i := 2) rfl)), hNC.2.2⟩; cases hz) (by decide) (by decide) (hts (.classLink RL 15 "java/lang/IllegalStateException") (List.mem_of_getElem? (i := 3) rfl)) (va_Nw.use rfl (hk.2 (.castable "java/lang/IllegalStateException" "java/lang/IllegalStateException") (List.mem_of_getElem? (i := 73) rfl))) hcell hv9 hcl ?_
      refine lv_astore (lv' := [(5, .ref q9), (0, .ref (q 0)), (1, .int a1), (2, .int a2), (3, .int a3), (4, .ref (q 23))]) hx hb dL_breaks_23 hl (by decide) rfl (fun ls hl => ?_)
      refine lv_iconst (v := 3) hx hb dL_breaks_25 (by decide) ?_
      exact W.iret hx hb hr (fun t2 ht2 _ => ⟨⟨3, g, rfl, ⟨by rw [h9]; rfl, fun h0 => absurd h0 hne⟩, by show va_P D vwCl _ t2.heap; rw [ht2]; exact hPj⟩, hS1.F ht2⟩) hS1.2.2 dL_breaks_26 hlocks
  · intro r u2 t H1 locs1 ht _ hw hB hz hk1 hS1
    rw [ht] at hB
    have hPj := wCo_of (g := g) (u := u2) hB (wCo_k hPo hk1 hq)
    refine W.widen (k := 4) (n := 24) (by omega) (by omega) ?_
    refine lv_i2l (v := r.toInt64) hx hb dL_breaks_10 rfl ?_
    refine va_last hx hb hKL hPj (wCo_D hq) hS1 23 0 rfl rfl (vp_in_nI (n := 0) (by decide) (by decide)) dL_breaks_11 (fun H2 locs2 hP2 _ hS2 => ?_)
    have hP2 : va_P D vwCl (wCo cI cO cL q u2 (vp_updL g (0 : Int32).toNatClampNeg r.toInt64)) H2 := hP2
    refine lv_goto (tgt := 27) hx hb dL_breaks_12 (by decide) ?_
    refine lv_iconst (v := 0) hx hb dL_breaks_27 (by decide) ?_
    exact W.iret hx hb hr (fun t2 ht2 _ => ⟨⟨0, vp_updL g (0 : Int32).toNatClampNeg r.toInt64, rfl, ⟨by rw [← hw]; rfl, fun _ => by rw [← hw]; exact if_pos rfl⟩, by show va_P D vwCl _ t2.heap; rw [ht2, ← hw]; exact hP2⟩, hS2.F ht2⟩) hS2.2.2 dL_breaks_28 hlocks
theorem cd_lose (u : bU) (a1 : Int32) (a2 : Int32) : (F5_lose u a1 a2).1 = 0 ∨ (F5_lose u a1 a2).1 = 1 ∨ (F5_lose u a1 a2).1 = 2 ∨ (F5_lose u a1 a2).1 = 3 := by
  unfold F5_lose
  (repeat' split) <;> first | with_reducible exact Or.inl rfl | (dsimp only; first | with_reducible exact (n_arg _).elim Or.inl (fun h => Or.inr (Or.inr (Or.inl h))) | with_reducible exact (n_st _).elim Or.inl (fun h => Or.inr (Or.inr (Or.inr (h)))) | with_reducible exact (n_rng _ _ _).elim Or.inl (fun h => Or.inr (Or.inr (Or.inl h))) | with_reducible exact (n_kd _).elim Or.inl (fun h => Or.inr (Or.inr (Or.inl h))) | with_reducible exact (n_set _).elim Or.inl (fun h => Or.inr (Or.inl h)) | with_reducible exact (n_br _ _).elim Or.inl (fun h => Or.inr (Or.inl h)) | with_reducible exact (n_sh _ _).elim Or.inl (fun h => Or.inr (Or.inl h)))
set_option maxHeartbeats 4000000 in
set_option maxRecDepth 100000 in
theorem CL_lose (l : Launch) (D : va_G) (cI cO cL : ClassId) (q : Nat → Nat) (u : bU) (g : Nat → Int64) (H0 : Heap) (hq : bInj 24 q) (hl9 : l.stackTraces = false) (hP : va_P D vwCl (wCo cI cO cL q u g) H0) (a1 : Int32) (a2 : Int32) (hlat : bLat u) : Met l yL_lose wsL_lose ({ frames := 9, cells := 3, slots := 18, locals := 265 }) (bPL D cI cO cL (bA 24 q H0.size) H0 [.ref (q 0), .int a1, .int a2, .ref (q 23)]) (bLi D cI cO cL q (bA 24 q H0.size) id (F5_lose u a1 a2)) 3 18 (bA 24 q H0.size) := by
  refine Met.ofWH (cc := cL_lose) (maxL := 5) (ret := (some .int)) (hh := [(0, 10, 13, 27), (0, 10, 17, 13), (0, 10, 21, 15)]) (by decide) rfl ?_
  intro p e s m args below meth c s₁ B hml hv
  obtain ⟨rfl, hH, hk, hX, hKL, hNC⟩ := hv
  subst hH
  have hx := B.exec
  have hb := B.bytes
  have hr := B.returns
  have hts := atoms_spec (ws := wsL_lose) B.pre
  have hown : s.vm.findClass RL = some m.cls := findClass_of_methodNamed B.named
  have hlocks := B.notSynchronized
  have htab : c.exceptionTable.toList = tableOf [(0, 10, 13, 27), (0, 10, 17, 13), (0, 10, 21, 15)] := vx_table (x := yL_lose) B (hts _ List.mem_cons_self)
  have hS : va_S (bA 24 q s.heap.size) s.heap s.heap [] := va_S.rf
  have hl := lv_entry ([.ref (q 0), .int a1, .int a2, .ref (q 23)]) (n := 5) (Nat.le_of_ble_eq_true rfl)
  rw [lg_entry_eq]
  generalize (lg_sl ([.ref (q 0), .int a1, .int a2, .ref (q 23)]) ++ List.replicate (5 - (lg_sl ([.ref (q 0), .int a1, .int a2, .ref (q 23)])).length) Slot.unset).toArray = ls at hl ⊢
  have hl : lv_has ls 5 [(0, .ref (q 0)), (1, .int a1), (2, .int a2), (3, .ref (q 23))] := hl
  have hPC := wCo_C hP
  have hPo := wCo_o hP
  have hq23 := bInj_23 hq
  refine lv_aload_n hx hb dL_lose_0 rfl (lv_at hl 3 rfl) ?_
  refine lv_iconst (v := 0) hx hb dL_lose_1 (by decide) ?_
  refine lv_aload_n hx hb dL_lose_2 rfl (lv_at hl 0 rfl) ?_
  refine lv_iload_n hx hb dL_lose_3 rfl (lv_at hl 1 rfl) ?_
  refine lv_iload_n hx hb dL_lose_4 rfl (lv_at hl 2 rfl) ?_
  refine vx_calli (vx_runV (As := [.int a1, .int a2]) (rest := [.int 0, .ref (q 23)]) ⟨hx, hb, hml, hown, hts⟩ (C5_lose l D cI cO q u _ hq23 hl9 hPC a1 a2 hlat) (cwV 2 hts gL_lose_X5_lose rfl rfl rfl ⟨rfl, bd_X5lose⟩ ⟨Nat.le_of_ble_eq_true rfl, Nat.le_of_ble_eq_true rfl⟩) (bPVX hk hX hS (bA_34 (Nat.le_refl _)) (va_recv hk.1 hPC (ci := 5) (q0 := 0) rfl (wC_0 _ _ _ _))) rfl rfl hl.1 rfl (lv_room (Nat.le_of_ble_eq_true rfl)) dL_lose_5 ⟨Nat.le_of_ble_eq_true rfl, Nat.le_of_ble_eq_true rfl⟩) hS (fun x _ h => bA_34 (Nat.le_refl _) x h) (fun x h => bA_34 (Nat.le_refl _) x h) (fun x _ h => bA_34 (Nat.le_refl _) x h) ?_ ?_
  · intro E ce q9 u9 t H1 locs1 ht _ hne hB hz hk1 hS1 hcell hv9 hcl
    obtain ⟨hE, hPx⟩ := hB
    rw [ht] at hPx
    have hPj := wCo_of (g := g) (u := (F5_lose u a1 a2).2.2) hPx (wCo_k hPo hk1 hq)
    refine vx_widen (k := 3) (n := 18) (by omega) (by omega) ?_
    rcases cd_lose u a1 a2 with h9 | h9 | h9 | h9
    · exact absurd h9 hne
    · rw [h9] at hE
      obtain rfl : E = "java/lang/IndexOutOfBoundsException" := hE.trans (by decide +kernel)
      refine vx_catch (own := RL) (name := "java/lang/IndexOutOfBoundsException") hown [] ⟨0, 10, 13, 27⟩ [⟨0, 10, 17, 13⟩, ⟨0, 10, 21, 15⟩] (by rw [htab]; rfl) (fun z hz => by cases hz) (by decide) (by decide) (hts (.classLink RL 27 "java/lang/IndexOutOfBoundsException") (List.mem_of_getElem? (i := 1) rfl)) (va_Nw.use rfl (hk.2 (.castable "java/lang/IndexOutOfBoundsException" "java/lang/IndexOutOfBoundsException") (List.mem_of_getElem? (i := 71) rfl))) hcell hv9 hcl ?_
      refine lv_astore (lv' := [(4, .ref q9), (0, .ref (q 0)), (1, .int a1), (2, .int a2), (3, .ref (q 23))]) hx hb dL_lose_13 hl (by decide) rfl (fun ls hl => ?_)
      refine lv_iconst (v := 1) hx hb dL_lose_15 (by decide) ?_
      exact W.iret hx hb hr (fun t2 ht2 _ => ⟨⟨1, g, rfl, ⟨by rw [h9]; rfl, fun h0 => absurd h0 hne⟩, by show va_P D vwCl _ t2.heap; rw [ht2]; exact hPj⟩, hS1.F ht2⟩) hS1.2.2 dL_lose_16 hlocks
    · rw [h9] at hE
      obtain rfl : E = "java/lang/IllegalArgumentException" := hE.trans (by decide +kernel)
      refine vx_catch (own := RL) (name := "java/lang/IllegalArgumentException") hown [⟨0, 10, 13, 27⟩] ⟨0, 10, 17, 13⟩ [⟨0, 10, 21, 15⟩] (by rw [htab]; rfl) (fun z hz => by rcases List.mem_cons.mp hz with rfl | hz; exact Or.inr ⟨(by decide), "java/lang/IndexOutOfBoundsException", (hts (.classLink RL 27 "java/lang/IndexOutOfBoundsException") (List.mem_of_getElem? (i := 1) rfl)), hNC.1⟩; cases hz) (by decide) (by decide) (hts (.classLink RL 13 "java/lang/IllegalArgumentException") (List.mem_of_getElem? (i := 2) rfl)) (va_Nw.use rfl (hk.2 (.castable "java/lang/IllegalArgumentException" "java/lang/IllegalArgumentException") (List.mem_of_getElem? (i := 72) rfl))) hcell hv9 hcl ?_
      refine lv_astore (lv' := [(4, .ref q9), (0, .ref (q 0)), (1, .int a1), (2, .int a2), (3, .ref (q 23))]) hx hb dL_lose_17 hl (by decide) rfl (fun ls hl => ?_)
      refine lv_iconst (v := 2) hx hb dL_lose_19 (by decide) ?_
      exact W.iret hx hb hr (fun t2 ht2 _ => ⟨⟨2, g, rfl, ⟨by rw [h9]; rfl, fun h0 => absurd h0 hne⟩, by show va_P D vwCl _ t2.heap; rw [ht2]; exact hPj⟩, hS1.F ht2⟩) hS1.2.2 dL_lose_20 hlocks
    · rw [h9] at hE
      obtain rfl : E = "java/lang/IllegalStateException" := hE.trans (by decide +kernel)
      refine vx_catch (own := RL) (name := "java/lang/IllegalStateException") hown [⟨0, 10, 13, 27⟩, ⟨0, 10, 17, 13⟩] ⟨0, 10, 21, 15⟩ [] (by rw [htab]; rfl) (fun z hz => by rcases List.mem_cons.mp hz with rfl | hz; exact Or.inr ⟨(by decide), "java/lang/IndexOutOfBoundsException", (hts (.classLink RL 27 "java/lang/IndexOutOfBoundsException") (List.mem_of_getElem? (i := 1) rfl)), hNC.2.1⟩; rcases List.mem_cons.mp hz with rfl | hz; exact Or.inr ⟨(by decide), "java/lang/IllegalArgumentException", (hts (.classLink RL 13 "java/lang/IllegalArgumentException") (List.mem_of_getElem? (i := 2) rfl)), hNC.2.2⟩; cases hz) (by decide) (by decide) (hts (.classLink RL 15 "java/lang/IllegalStateException") (List.mem_of_getElem? (i := 3) rfl)) (va_Nw.use rfl (hk.2 (.castable "java/lang/IllegalStateException" "java/lang/IllegalStateException") (List.mem_of_getElem? (i := 73) rfl))) hcell hv9 hcl ?_
      refine lv_astore (lv' := [(4, .ref q9), (0, .ref (q 0)), (1, .int a1), (2, .int a2), (3, .ref (q 23))]) hx hb dL_lose_21 hl (by decide) rfl (fun ls hl => ?_)
      refine lv_iconst (v := 3) hx hb dL_lose_23 (by decide) ?_
      exact W.iret hx hb hr (fun t2 ht2 _ => ⟨⟨3, g, rfl, ⟨by rw [h9]; rfl, fun h0 => absurd h0 hne⟩, by show va_P D vwCl _ t2.heap; rw [ht2]; exact hPj⟩, hS1.F ht2⟩) hS1.2.2 dL_lose_24 hlocks
  · intro r u2 t H1 locs1 ht _ hw hB hz hk1 hS1
    rw [ht] at hB
    have hPj := wCo_of (g := g) (u := u2) hB (wCo_k hPo hk1 hq)
    refine W.widen (k := 3) (n := 18) (by omega) (by omega) ?_
    refine lv_i2l (v := r.toInt64) hx hb dL_lose_8 rfl ?_
    refine va_last hx hb hKL hPj (wCo_D hq) hS1 23 0 rfl rfl (vp_in_nI (n := 0) (by decide) (by decide)) dL_lose_9 (fun H2 locs2 hP2 _ hS2 => ?_)
    have hP2 : va_P D vwCl (wCo cI cO cL q u2 (vp_updL g (0 : Int32).toNatClampNeg r.toInt64)) H2 := hP2
    refine lv_goto (tgt := 25) hx hb dL_lose_10 (by decide) ?_
    refine lv_iconst (v := 0) hx hb dL_lose_25 (by decide) ?_
    exact W.iret hx hb hr (fun t2 ht2 _ => ⟨⟨0, vp_updL g (0 : Int32).toNatClampNeg r.toInt64, rfl, ⟨by rw [← hw]; rfl, fun _ => by rw [← hw]; exact if_pos rfl⟩, by show va_P D vwCl _ t2.heap; rw [ht2, ← hw]; exact hP2⟩, hS2.F ht2⟩) hS2.2.2 dL_lose_26 hlocks
theorem cd_collect (u : bU) (a1 : Int32) (a2 : Int32) (a3 : Int32) : (F5_collect u a1 a2 a3).1 = 0 ∨ (F5_collect u a1 a2 a3).1 = 1 ∨ (F5_collect u a1 a2 a3).1 = 2 ∨ (F5_collect u a1 a2 a3).1 = 3 := by
  unfold F5_collect
  (repeat' split) <;> first | with_reducible exact Or.inl rfl | (dsimp only; first | with_reducible exact (n_arg _).elim Or.inl (fun h => Or.inr (Or.inr (Or.inl h))) | with_reducible exact (n_st _).elim Or.inl (fun h => Or.inr (Or.inr (Or.inr (h)))) | with_reducible exact (n_rng _ _ _).elim Or.inl (fun h => Or.inr (Or.inr (Or.inl h))) | with_reducible exact (n_kd _).elim Or.inl (fun h => Or.inr (Or.inr (Or.inl h))) | with_reducible exact (n_set _).elim Or.inl (fun h => Or.inr (Or.inl h)) | with_reducible exact (n_br _ _).elim Or.inl (fun h => Or.inr (Or.inl h)) | with_reducible exact (n_sh _ _).elim Or.inl (fun h => Or.inr (Or.inl h)))
set_option maxHeartbeats 4000000 in
set_option maxRecDepth 100000 in
theorem CL_collect (l : Launch) (D : va_G) (cI cO cL : ClassId) (q : Nat → Nat) (u : bU) (g : Nat → Int64) (H0 : Heap) (hq : bInj 24 q) (hl9 : l.stackTraces = false) (hP : va_P D vwCl (wCo cI cO cL q u g) H0) (a1 : Int32) (a2 : Int32) (a3 : Int32) (hlat : bLat u) : Met l yL_collect wsL_collect ({ frames := 10, cells := 4, slots := 24, locals := 266 }) (bPL D cI cO cL (bA 24 q H0.size) H0 [.ref (q 0), .int a1, .int a2, .int a3, .ref (q 23)]) (bLi D cI cO cL q (bA 24 q H0.size) id (F5_collect u a1 a2 a3)) 4 24 (bA 24 q H0.size) := by
  refine Met.ofWH (cc := cL_collect) (maxL := 6) (ret := (some .int)) (hh := [(0, 12, 15, 27), (0, 12, 19, 13), (0, 12, 23, 15)]) (by decide) rfl ?_
  intro p e s m args below meth c s₁ B hml hv
  obtain ⟨rfl, hH, hk, hX, hKL, hNC⟩ := hv
  subst hH
  have hx := B.exec
  have hb := B.bytes
  have hr := B.returns
  have hts := atoms_spec (ws := wsL_collect) B.pre
  have hown : s.vm.findClass RL = some m.cls := findClass_of_methodNamed B.named
  have hlocks := B.notSynchronized
  have htab : c.exceptionTable.toList = tableOf [(0, 12, 15, 27), (0, 12, 19, 13), (0, 12, 23, 15)] := vx_table (x := yL_collect) B (hts _ List.mem_cons_self)
  have hS : va_S (bA 24 q s.heap.size) s.heap s.heap [] := va_S.rf
  have hl := lv_entry ([.ref (q 0), .int a1, .int a2, .int a3, .ref (q 23)]) (n := 6) (Nat.le_of_ble_eq_true rfl)
  rw [lg_entry_eq]
  generalize (lg_sl ([.ref (q 0), .int a1, .int a2, .int a3, .ref (q 23)]) ++ List.replicate (6 - (lg_sl ([.ref (q 0), .int a1, .int a2, .int a3, .ref (q 23)])).length) Slot.unset).toArray = ls at hl ⊢
  have hl : lv_has ls 6 [(0, .ref (q 0)), (1, .int a1), (2, .int a2), (3, .int a3), (4, .ref (q 23))] := hl
  have hPC := wCo_C hP
  have hPo := wCo_o hP
  have hq23 := bInj_23 hq
  refine lv_aload hx hb dL_collect_0 (lv_at hl 4 rfl) ?_
  refine lv_iconst (v := 0) hx hb dL_collect_2 (by decide) ?_
  refine lv_aload_n hx hb dL_collect_3 rfl (lv_at hl 0 rfl) ?_
  refine lv_iload_n hx hb dL_collect_4 rfl (lv_at hl 1 rfl) ?_
  refine lv_iload_n hx hb dL_collect_5 rfl (lv_at hl 2 rfl) ?_
  refine lv_iload_n hx hb dL_collect_6 rfl (lv_at hl 3 rfl) ?_
  refine vx_calli (vx_runV (As := [.int a1, .int a2, .int a3]) (rest := [.int 0, .ref (q 23)]) ⟨hx, hb, hml, hown, hts⟩ (C5_collect l D cI cO q u _ hq23 hl9 hPC a1 a2 a3 hlat) (cwV 3 hts gL_collect_X5_collect rfl rfl rfl ⟨rfl, bd_X5collect⟩ ⟨Nat.le_of_ble_eq_true rfl, Nat.le_of_ble_eq_true rfl⟩) (bPVX hk hX hS (bA_34 (Nat.le_refl _)) (va_recv hk.1 hPC (ci := 5) (q0 := 0) rfl (wC_0 _ _ _ _))) rfl rfl hl.1 rfl (lv_room (Nat.le_of_ble_eq_true rfl)) dL_collect_7 ⟨Nat.le_of_ble_eq_true rfl, Nat.le_of_ble_eq_true rfl⟩) hS (fun x _ h => bA_34 (Nat.le_refl _) x h) (fun x h => bA_34 (Nat.le_refl _) x h) (fun x _ h => bA_34 (Nat.le_refl _) x h) ?_ ?_
  · intro E ce q9 u9 t H1 locs1 ht _ hne hB hz hk1 hS1 hcell hv9 hcl
    obtain ⟨hE, hPx⟩ := hB
    rw [ht] at hPx
    have hPj := wCo_of (g := g) (u := (F5_collect u a1 a2 a3).2.2) hPx (wCo_k hPo hk1 hq)
    refine vx_widen (k := 4) (n := 24) (by omega) (by omega) ?_
    rcases cd_collect u a1 a2 a3 with h9 | h9 | h9 | h9
    · exact absurd h9 hne
    · rw [h9] at hE
      obtain rfl : E = "java/lang/IndexOutOfBoundsException" := hE.trans (by decide +kernel)
      refine vx_catch (own := RL) (name := "java/lang/IndexOutOfBoundsException") hown [] ⟨0, 12, 15, 27⟩ [⟨0, 12, 19, 13⟩, ⟨0, 12, 23, 15⟩] (by rw [htab]; rfl) (fun z hz => by cases hz) (by decide) (by decide) (hts (.classLink RL 27 "java/lang/IndexOutOfBoundsException") (List.mem_of_getElem? (i := 1) rfl)) (va_Nw.use rfl (hk.2 (.castable "java/lang/IndexOutOfBoundsException" "java/lang/IndexOutOfBoundsException") (List.mem_of_getElem? (i := 71) rfl))) hcell hv9 hcl ?_
      refine lv_astore (lv' := [(5, .ref q9), (0, .ref (q 0)), (1, .int a1), (2, .int a2), (3, .int a3), (4, .ref (q 23))]) hx hb dL_collect_15 hl (by decide) rfl (fun ls hl => ?_)
      refine lv_iconst (v := 1) hx hb dL_collect_17 (by decide) ?_
      exact W.iret hx hb hr (fun t2 ht2 _ => ⟨⟨1, g, rfl, ⟨by rw [h9]; rfl, fun h0 => absurd h0 hne⟩, by show va_P D vwCl _ t2.heap; rw [ht2]; exact hPj⟩, hS1.F ht2⟩) hS1.2.2 dL_collect_18 hlocks
    · rw [h9] at hE
      obtain rfl : E = "java/lang/IllegalArgumentException" := hE.trans (by decide +kernel)
      refine vx_catch (own := RL) (name := "java/lang/IllegalArgumentException") hown [⟨0, 12, 15, 27⟩] ⟨0, 12, 19, 13⟩ [⟨0, 12, 23, 15⟩] (by rw [htab]; rfl) (fun z hz => by rcases List.mem_cons.mp hz with rfl | hz; exact Or.inr ⟨(by decide), "java/lang/IndexOutOfBoundsException", (hts (.classLink RL 27 "java/lang/IndexOutOfBoundsException") (List.mem_of_getElem? (i := 1) rfl)), hNC.1⟩; cases hz) (by decide) (by decide) (hts (.classLink RL 13 "java/lang/IllegalArgumentException") (List.mem_of_getElem? (i := 2) rfl)) (va_Nw.use rfl (hk.2 (.castable "java/lang/IllegalArgumentException" "java/lang/IllegalArgumentException") (List.mem_of_getElem? (i := 72) rfl))) hcell hv9 hcl ?_
      refine lv_astore (lv' := [(5, .ref q9), (0, .ref (q 0)), (1, .int a1), (2, .int a2), (3, .int a3), (4, .ref (q 23))]) hx hb dL_collect_19 hl (by decide) rfl (fun ls hl => ?_)
      refine lv_iconst (v := 2) hx hb dL_collect_21 (by decide) ?_
      exact W.iret hx hb hr (fun t2 ht2 _ => ⟨⟨2, g, rfl, ⟨by rw [h9]; rfl, fun h0 => absurd h0 hne⟩, by show va_P D vwCl _ t2.heap; rw [ht2]; exact hPj⟩, hS1.F ht2⟩) hS1.2.2 dL_collect_22 hlocks
    · rw [h9] at hE
      obtain rfl : E = "java/lang/IllegalStateException" := hE.trans (by decide +kernel)
      refine vx_catch (own := RL) (name := "java/lang/IllegalStateException") hown [⟨0, 12, 15, 27⟩, ⟨0, 12, 19, 13⟩] ⟨0, 12, 23, 15⟩ [] (by rw [htab]; rfl) (fun z hz => by rcases List.mem_cons.mp hz with rfl | hz; exact Or.inr ⟨(by decide), "java/lang/IndexOutOfBoundsException", (hts (.classLink RL 27 "java/lang/IndexOutOfBoundsException") (List.mem_of_getElem? (i := 1) rfl)), hNC.2.1⟩; rcases List.mem_cons.mp hz with rfl | hz; exact Or.inr ⟨(by decide), "java/lang/IllegalArgumentException", (hts (.classLink RL 13 "java/lang/IllegalArgumentException") (List.mem_of_getElem? (i := 2) rfl)), hNC.2.2⟩; cases hz) (by decide) (by decide) (hts (.classLink RL 15 "java/lang/IllegalStateException") (List.mem_of_getElem? (i := 3) rfl)) (va_Nw.use rfl (hk.2 (.castable "java/lang/IllegalStateException" "java/lang/IllegalStateException") (List.mem_of_getElem? (i := 73) rfl))) hcell hv9 hcl ?_
      refine lv_astore (lv' := [(5, .ref q9), (0, .ref (q 0)), (1, .int a1), (2, .int a2), (3, .int a3), (4, .ref (q 23))]) hx hb dL_collect_23 hl (by decide) rfl (fun ls hl => ?_)
      refine lv_iconst (v := 3) hx hb dL_collect_25 (by decide) ?_
      exact W.iret hx hb hr (fun t2 ht2 _ => ⟨⟨3, g, rfl, ⟨by rw [h9]; rfl, fun h0 => absurd h0 hne⟩, by show va_P D vwCl _ t2.heap; rw [ht2]; exact hPj⟩, hS1.F ht2⟩) hS1.2.2 dL_collect_26 hlocks
  · intro r u2 t H1 locs1 ht _ hw hB hz hk1 hS1
    rw [ht] at hB
    have hPj := wCo_of (g := g) (u := u2) hB (wCo_k hPo hk1 hq)
    refine W.widen (k := 4) (n := 24) (by omega) (by omega) ?_
    refine lv_i2l (v := r.toInt64) hx hb dL_collect_10 rfl ?_
    refine va_last hx hb hKL hPj (wCo_D hq) hS1 23 0 rfl rfl (vp_in_nI (n := 0) (by decide) (by decide)) dL_collect_11 (fun H2 locs2 hP2 _ hS2 => ?_)
    have hP2 : va_P D vwCl (wCo cI cO cL q u2 (vp_updL g (0 : Int32).toNatClampNeg r.toInt64)) H2 := hP2
    refine lv_goto (tgt := 27) hx hb dL_collect_12 (by decide) ?_
    refine lv_iconst (v := 0) hx hb dL_collect_27 (by decide) ?_
    exact W.iret hx hb hr (fun t2 ht2 _ => ⟨⟨0, vp_updL g (0 : Int32).toNatClampNeg r.toInt64, rfl, ⟨by rw [← hw]; rfl, fun _ => by rw [← hw]; exact if_pos rfl⟩, by show va_P D vwCl _ t2.heap; rw [ht2, ← hw]; exact hP2⟩, hS2.F ht2⟩) hS2.2.2 dL_collect_28 hlocks
theorem cd_sort (u : bU) (a1 : Int32) (a2 : Int32) : (F5_sort u a1 a2).1 = 0 ∨ (F5_sort u a1 a2).1 = 2 ∨ (F5_sort u a1 a2).1 = 3 := by
  unfold F5_sort
  (repeat' split) <;> first | with_reducible exact Or.inl rfl | (dsimp only; first | with_reducible exact (n_arg _).elim Or.inl (fun h => Or.inr (Or.inl h)) | with_reducible exact (n_st _).elim Or.inl (fun h => Or.inr (Or.inr (h))) | with_reducible exact (n_rng _ _ _).elim Or.inl (fun h => Or.inr (Or.inl h)) | with_reducible exact (n_kd _).elim Or.inl (fun h => Or.inr (Or.inl h)))
set_option maxHeartbeats 4000000 in
set_option maxRecDepth 100000 in
theorem CL_sort (l : Launch) (D : va_G) (cI cO cL : ClassId) (q : Nat → Nat) (u : bU) (g : Nat → Int64) (H0 : Heap) (hq : bInj 24 q) (hl9 : l.stackTraces = false) (hP : va_P D vwCl (wCo cI cO cL q u g) H0) (a1 : Int32) (a2 : Int32) (hlat : bLat u) : Met l yL_sort wsL_sort ({ frames := 10, cells := 3, slots := 18, locals := 265 }) (bPL D cI cO cL (bA 24 q H0.size) H0 [.ref (q 0), .int a1, .int a2, .ref (q 23)]) (bLi D cI cO cL q (bA 24 q H0.size) cdA (F5_sort u a1 a2)) 3 18 (bA 24 q H0.size) := by
  refine Met.ofWH (cc := cL_sort) (maxL := 5) (ret := (some .int)) (hh := [(0, 10, 13, 13), (0, 10, 17, 15)]) (by decide) rfl ?_
  intro p e s m args below meth c s₁ B hml hv
  obtain ⟨rfl, hH, hk, hX, hKL, hNC⟩ := hv
  subst hH
  have hx := B.exec
  have hb := B.bytes
  have hr := B.returns
  have hts := atoms_spec (ws := wsL_sort) B.pre
  have hown : s.vm.findClass RL = some m.cls := findClass_of_methodNamed B.named
  have hlocks := B.notSynchronized
  have htab : c.exceptionTable.toList = tableOf [(0, 10, 13, 13), (0, 10, 17, 15)] := vx_table (x := yL_sort) B (hts _ List.mem_cons_self)
  have hS : va_S (bA 24 q s.heap.size) s.heap s.heap [] := va_S.rf
  have hl := lv_entry ([.ref (q 0), .int a1, .int a2, .ref (q 23)]) (n := 5) (Nat.le_of_ble_eq_true rfl)
  rw [lg_entry_eq]
  generalize (lg_sl ([.ref (q 0), .int a1, .int a2, .ref (q 23)]) ++ List.replicate (5 - (lg_sl ([.ref (q 0), .int a1, .int a2, .ref (q 23)])).length) Slot.unset).toArray = ls at hl ⊢
  have hl : lv_has ls 5 [(0, .ref (q 0)), (1, .int a1), (2, .int a2), (3, .ref (q 23))] := hl
  have hPC := wCo_C hP
  have hPo := wCo_o hP
  have hq23 := bInj_23 hq
  refine lv_aload_n hx hb dL_sort_0 rfl (lv_at hl 3 rfl) ?_
  refine lv_iconst (v := 0) hx hb dL_sort_1 (by decide) ?_
  refine lv_aload_n hx hb dL_sort_2 rfl (lv_at hl 0 rfl) ?_
  refine lv_iload_n hx hb dL_sort_3 rfl (lv_at hl 1 rfl) ?_
  refine lv_iload_n hx hb dL_sort_4 rfl (lv_at hl 2 rfl) ?_
  refine vx_calli (vx_runV (As := [.int a1, .int a2]) (rest := [.int 0, .ref (q 23)]) ⟨hx, hb, hml, hown, hts⟩ (C5_sort l D cI cO q u _ hq23 hl9 hPC a1 a2 hlat) (cwV 2 hts gL_sort_X5_sort rfl rfl rfl ⟨rfl, bd_X5sort⟩ ⟨Nat.le_of_ble_eq_true rfl, Nat.le_of_ble_eq_true rfl⟩) (bPVX hk hX hS (bA_34 (Nat.le_refl _)) (va_recv hk.1 hPC (ci := 5) (q0 := 0) rfl (wC_0 _ _ _ _))) rfl rfl hl.1 rfl (lv_room (Nat.le_of_ble_eq_true rfl)) dL_sort_5 ⟨Nat.le_of_ble_eq_true rfl, Nat.le_of_ble_eq_true rfl⟩) hS (fun x _ h => bA_34 (Nat.le_refl _) x h) (fun x h => bA_34 (Nat.le_refl _) x h) (fun x _ h => bA_34 (Nat.le_refl _) x h) ?_ ?_
  · intro E ce q9 u9 t H1 locs1 ht _ hne hB hz hk1 hS1 hcell hv9 hcl
    obtain ⟨hE, hPx⟩ := hB
    rw [ht] at hPx
    have hPj := wCo_of (g := g) (u := (F5_sort u a1 a2).2.2) hPx (wCo_k hPo hk1 hq)
    refine vx_widen (k := 3) (n := 18) (by omega) (by omega) ?_
    rcases cd_sort u a1 a2 with h9 | h9 | h9
    · exact absurd h9 hne
    · rw [h9] at hE
      obtain rfl : E = "java/lang/IllegalArgumentException" := hE.trans (by decide +kernel)
      refine vx_catch (own := RL) (name := "java/lang/IllegalArgumentException") hown [] ⟨0, 10, 13, 13⟩ [⟨0, 10, 17, 15⟩] (by rw [htab]; rfl) (fun z hz => by cases hz) (by decide) (by decide) (hts (.classLink RL 13 "java/lang/IllegalArgumentException") (List.mem_of_getElem? (i := 1) rfl)) (va_Nw.use rfl (hk.2 (.castable "java/lang/IllegalArgumentException" "java/lang/IllegalArgumentException") (List.mem_of_getElem? (i := 72) rfl))) hcell hv9 hcl ?_
      refine lv_astore (lv' := [(4, .ref q9), (0, .ref (q 0)), (1, .int a1), (2, .int a2), (3, .ref (q 23))]) hx hb dL_sort_13 hl (by decide) rfl (fun ls hl => ?_)
      refine lv_iconst (v := 1) hx hb dL_sort_15 (by decide) ?_
      exact W.iret hx hb hr (fun t2 ht2 _ => ⟨⟨1, g, rfl, ⟨by rw [h9]; rfl, fun h0 => absurd h0 hne⟩, by show va_P D vwCl _ t2.heap; rw [ht2]; exact hPj⟩, hS1.F ht2⟩) hS1.2.2 dL_sort_16 hlocks
    · rw [h9] at hE
      obtain rfl : E = "java/lang/IllegalStateException" := hE.trans (by decide +kernel)
      refine vx_catch (own := RL) (name := "java/lang/IllegalStateException") hown [⟨0, 10, 13, 13⟩] ⟨0, 10, 17, 15⟩ [] (by rw [htab]; rfl) (fun z hz => by rcases List.mem_cons.mp hz with rfl | hz; exact Or.inr ⟨(by decide), "java/lang/IllegalArgumentException", (hts (.classLink RL 13 "java/lang/IllegalArgumentException") (List.mem_of_getElem? (i := 1) rfl)), hNC.2.2⟩; cases hz) (by decide) (by decide) (hts (.classLink RL 15 "java/lang/IllegalStateException") (List.mem_of_getElem? (i := 2) rfl)) (va_Nw.use rfl (hk.2 (.castable "java/lang/IllegalStateException" "java/lang/IllegalStateException") (List.mem_of_getElem? (i := 73) rfl))) hcell hv9 hcl ?_
      refine lv_astore (lv' := [(4, .ref q9), (0, .ref (q 0)), (1, .int a1), (2, .int a2), (3, .ref (q 23))]) hx hb dL_sort_17 hl (by decide) rfl (fun ls hl => ?_)
      refine lv_iconst (v := 2) hx hb dL_sort_19 (by decide) ?_
      exact W.iret hx hb hr (fun t2 ht2 _ => ⟨⟨2, g, rfl, ⟨by rw [h9]; rfl, fun h0 => absurd h0 hne⟩, by show va_P D vwCl _ t2.heap; rw [ht2]; exact hPj⟩, hS1.F ht2⟩) hS1.2.2 dL_sort_20 hlocks
  · intro r u2 t H1 locs1 ht _ hw hB hz hk1 hS1
    rw [ht] at hB
    have hPj := wCo_of (g := g) (u := u2) hB (wCo_k hPo hk1 hq)
    refine W.widen (k := 3) (n := 18) (by omega) (by omega) ?_
    refine lv_i2l (v := r.toInt64) hx hb dL_sort_8 rfl ?_
    refine va_last hx hb hKL hPj (wCo_D hq) hS1 23 0 rfl rfl (vp_in_nI (n := 0) (by decide) (by decide)) dL_sort_9 (fun H2 locs2 hP2 _ hS2 => ?_)
    have hP2 : va_P D vwCl (wCo cI cO cL q u2 (vp_updL g (0 : Int32).toNatClampNeg r.toInt64)) H2 := hP2
    refine lv_goto (tgt := 21) hx hb dL_sort_10 (by decide) ?_
    refine lv_iconst (v := 0) hx hb dL_sort_21 (by decide) ?_
    exact W.iret hx hb hr (fun t2 ht2 _ => ⟨⟨0, vp_updL g (0 : Int32).toNatClampNeg r.toInt64, rfl, ⟨by rw [← hw]; rfl, fun _ => by rw [← hw]; exact if_pos rfl⟩, by show va_P D vwCl _ t2.heap; rw [ht2, ← hw]; exact hP2⟩, hS2.F ht2⟩) hS2.2.2 dL_sort_22 hlocks
theorem cd_swap (u : bU) (a1 : Int32) (a2 : Int32) (a3 : Int32) : (F5_swap u a1 a2 a3).1 = 0 ∨ (F5_swap u a1 a2 a3).1 = 1 ∨ (F5_swap u a1 a2 a3).1 = 2 ∨ (F5_swap u a1 a2 a3).1 = 3 := by
  unfold F5_swap
  (repeat' split) <;> first | with_reducible exact Or.inl rfl | (dsimp only; first | with_reducible exact (n_arg _).elim Or.inl (fun h => Or.inr (Or.inr (Or.inl h))) | with_reducible exact (n_st _).elim Or.inl (fun h => Or.inr (Or.inr (Or.inr (h)))) | with_reducible exact (n_rng _ _ _).elim Or.inl (fun h => Or.inr (Or.inr (Or.inl h))) | with_reducible exact (n_kd _).elim Or.inl (fun h => Or.inr (Or.inr (Or.inl h))) | with_reducible exact (n_set _).elim Or.inl (fun h => Or.inr (Or.inl h)) | with_reducible exact (n_br _ _).elim Or.inl (fun h => Or.inr (Or.inl h)) | with_reducible exact (n_sh _ _).elim Or.inl (fun h => Or.inr (Or.inl h)))
set_option maxHeartbeats 4000000 in
set_option maxRecDepth 100000 in
theorem CL_swap (l : Launch) (D : va_G) (cI cO cL : ClassId) (q : Nat → Nat) (u : bU) (g : Nat → Int64) (H0 : Heap) (hq : bInj 24 q) (hl9 : l.stackTraces = false) (hP : va_P D vwCl (wCo cI cO cL q u g) H0) (a1 : Int32) (a2 : Int32) (a3 : Int32) (hlat : bLat u) : Met l yL_swap wsL_swap ({ frames := 9, cells := 5, slots := 30, locals := 266 }) (bPL D cI cO cL (bA 24 q H0.size) H0 [.ref (q 0), .int a1, .int a2, .int a3, .ref (q 23)]) (bLi D cI cO cL q (bA 24 q H0.size) id (F5_swap u a1 a2 a3)) 5 30 (bA 24 q H0.size) := by
  refine Met.ofWH (cc := cL_swap) (maxL := 6) (ret := (some .int)) (hh := [(0, 12, 15, 27), (0, 12, 19, 13), (0, 12, 23, 15)]) (by decide) rfl ?_
  intro p e s m args below meth c s₁ B hml hv
  obtain ⟨rfl, hH, hk, hX, hKL, hNC⟩ := hv
  subst hH
  have hx := B.exec
  have hb := B.bytes
  have hr := B.returns
  have hts := atoms_spec (ws := wsL_swap) B.pre
  have hown : s.vm.findClass RL = some m.cls := findClass_of_methodNamed B.named
  have hlocks := B.notSynchronized
  have htab : c.exceptionTable.toList = tableOf [(0, 12, 15, 27), (0, 12, 19, 13), (0, 12, 23, 15)] := vx_table (x := yL_swap) B (hts _ List.mem_cons_self)
  have hS : va_S (bA 24 q s.heap.size) s.heap s.heap [] := va_S.rf
  have hl := lv_entry ([.ref (q 0), .int a1, .int a2, .int a3, .ref (q 23)]) (n := 6) (Nat.le_of_ble_eq_true rfl)
  rw [lg_entry_eq]
  generalize (lg_sl ([.ref (q 0), .int a1, .int a2, .int a3, .ref (q 23)]) ++ List.replicate (6 - (lg_sl ([.ref (q 0), .int a1, .int a2, .int a3, .ref (q 23)])).length) Slot.unset).toArray = ls at hl ⊢
  have hl : lv_has ls 6 [(0, .ref (q 0)), (1, .int a1), (2, .int a2), (3, .int a3), (4, .ref (q 23))] := hl
  have hPC := wCo_C hP
  have hPo := wCo_o hP
  have hq23 := bInj_23 hq
  refine lv_aload hx hb dL_swap_0 (lv_at hl 4 rfl) ?_
  refine lv_iconst (v := 0) hx hb dL_swap_2 (by decide) ?_
  refine lv_aload_n hx hb dL_swap_3 rfl (lv_at hl 0 rfl) ?_
  refine lv_iload_n hx hb dL_swap_4 rfl (lv_at hl 1 rfl) ?_
  refine lv_iload_n hx hb dL_swap_5 rfl (lv_at hl 2 rfl) ?_
  refine lv_iload_n hx hb dL_swap_6 rfl (lv_at hl 3 rfl) ?_
  refine vx_calli (vx_runV (As := [.int a1, .int a2, .int a3]) (rest := [.int 0, .ref (q 23)]) ⟨hx, hb, hml, hown, hts⟩ (C5_swap l D cI cO q u _ hq23 hl9 hPC a1 a2 a3 hlat) (cwV 3 hts gL_swap_X5_swap rfl rfl rfl ⟨rfl, bd_X5swap⟩ ⟨Nat.le_of_ble_eq_true rfl, Nat.le_of_ble_eq_true rfl⟩) (bPVX hk hX hS (bA_34 (Nat.le_refl _)) (va_recv hk.1 hPC (ci := 5) (q0 := 0) rfl (wC_0 _ _ _ _))) rfl rfl hl.1 rfl (lv_room (Nat.le_of_ble_eq_true rfl)) dL_swap_7 ⟨Nat.le_of_ble_eq_true rfl, Nat.le_of_ble_eq_true rfl⟩) hS (fun x _ h => bA_34 (Nat.le_refl _) x h) (fun x h => bA_34 (Nat.le_refl _) x h) (fun x _ h => bA_34 (Nat.le_refl _) x h) ?_ ?_
  · intro E ce q9 u9 t H1 locs1 ht _ hne hB hz hk1 hS1 hcell hv9 hcl
    obtain ⟨hE, hPx⟩ := hB
    rw [ht] at hPx
    have hPj := wCo_of (g := g) (u := (F5_swap u a1 a2 a3).2.2) hPx (wCo_k hPo hk1 hq)
    refine vx_widen (k := 5) (n := 30) (by omega) (by omega) ?_
    rcases cd_swap u a1 a2 a3 with h9 | h9 | h9 | h9
    · exact absurd h9 hne
    · rw [h9] at hE
      obtain rfl : E = "java/lang/IndexOutOfBoundsException" := hE.trans (by decide +kernel)
      refine vx_catch (own := RL) (name := "java/lang/IndexOutOfBoundsException") hown [] ⟨0, 12, 15, 27⟩ [⟨0, 12, 19, 13⟩, ⟨0, 12, 23, 15⟩] (by rw [htab]; rfl) (fun z hz => by cases hz) (by decide) (by decide) (hts (.classLink RL 27 "java/lang/IndexOutOfBoundsException") (List.mem_of_getElem? (i := 1) rfl)) (va_Nw.use rfl (hk.2 (.castable "java/lang/IndexOutOfBoundsException" "java/lang/IndexOutOfBoundsException") (List.mem_of_getElem? (i := 71) rfl))) hcell hv9 hcl ?_
      refine lv_astore (lv' := [(5, .ref q9), (0, .ref (q 0)), (1, .int a1), (2, .int a2), (3, .int a3), (4, .ref (q 23))]) hx hb dL_swap_15 hl (by decide) rfl (fun ls hl => ?_)
      refine lv_iconst (v := 1) hx hb dL_swap_17 (by decide) ?_
      exact W.iret hx hb hr (fun t2 ht2 _ => ⟨⟨1, g, rfl, ⟨by rw [h9]; rfl, fun h0 => absurd h0 hne⟩, by show va_P D vwCl _ t2.heap; rw [ht2]; exact hPj⟩, hS1.F ht2⟩) hS1.2.2 dL_swap_18 hlocks
    · rw [h9] at hE
      obtain rfl : E = "java/lang/IllegalArgumentException" := hE.trans (by decide +kernel)
      refine vx_catch (own := RL) (name := "java/lang/IllegalArgumentException") hown [⟨0, 12, 15, 27⟩] ⟨0, 12, 19, 13⟩ [⟨0, 12, 23, 15⟩] (by rw [htab]; rfl) (fun z hz => by rcases List.mem_cons.mp hz with rfl | hz; exact Or.inr ⟨(by decide), "java/lang/IndexOutOfBoundsException", (hts (.classLink RL 27 "java/lang/IndexOutOfBoundsException") (List.mem_of_getElem? (i := 1) rfl)), hNC.1⟩; cases hz) (by decide) (by decide) (hts (.classLink RL 13 "java/lang/IllegalArgumentException") (List.mem_of_getElem? (i := 2) rfl)) (va_Nw.use rfl (hk.2 (.castable "java/lang/IllegalArgumentException" "java/lang/IllegalArgumentException") (List.mem_of_getElem? (i := 72) rfl))) hcell hv9 hcl ?_
      refine lv_astore (lv' := [(5, .ref q9), (0, .ref (q 0)), (1, .int a1), (2, .int a2), (3, .int a3), (4, .ref (q 23))]) hx hb dL_swap_19 hl (by decide) rfl (fun ls hl => ?_)
      refine lv_iconst (v := 2) hx hb dL_swap_21 (by decide) ?_
      exact W.iret hx hb hr (fun t2 ht2 _ => ⟨⟨2, g, rfl, ⟨by rw [h9]; rfl, fun h0 => absurd h0 hne⟩, by show va_P D vwCl _ t2.heap; rw [ht2]; exact hPj⟩, hS1.F ht2⟩) hS1.2.2 dL_swap_22 hlocks
    · rw [h9] at hE
      obtain rfl : E = "java/lang/IllegalStateException" := hE.trans (by decide +kernel)
      refine vx_catch (own := RL) (name := "java/lang/IllegalStateException") hown [⟨0, 12, 15, 27⟩, ⟨0, 12, 19, 13⟩] ⟨0, 12, 23, 15⟩ [] (by rw [htab]; rfl) (fun z hz => by rcases List.mem_cons.mp hz with rfl | hz; exact Or.inr ⟨(by decide), "java/lang/IndexOutOfBoundsException", (hts (.classLink RL 27 "java/lang/IndexOutOfBoundsException") (List.mem_of_getElem? (i := 1) rfl)), hNC.2.1⟩; rcases List.mem_cons.mp hz with rfl | hz; exact Or.inr ⟨(by decide), "java/lang/IllegalArgumentException", (hts (.classLink RL 13 "java/lang/IllegalArgumentException") (List.mem_of_getElem? (i := 2) rfl)), hNC.2.2⟩; cases hz) (by decide) (by decide) (hts (.classLink RL 15 "java/lang/IllegalStateException") (List.mem_of_getElem? (i := 3) rfl)) (va_Nw.use rfl (hk.2 (.castable "java/lang/IllegalStateException" "java/lang/IllegalStateException") (List.mem_of_getElem? (i := 73) rfl))) hcell hv9 hcl ?_
      refine lv_astore (lv' := [(5, .ref q9), (0, .ref (q 0)), (1, .int a1), (2, .int a2), (3, .int a3), (4, .ref (q 23))]) hx hb dL_swap_23 hl (by decide) rfl (fun ls hl => ?_)
      refine lv_iconst (v := 3) hx hb dL_swap_25 (by decide) ?_
      exact W.iret hx hb hr (fun t2 ht2 _ => ⟨⟨3, g, rfl, ⟨by rw [h9]; rfl, fun h0 => absurd h0 hne⟩, by show va_P D vwCl _ t2.heap; rw [ht2]; exact hPj⟩, hS1.F ht2⟩) hS1.2.2 dL_swap_26 hlocks
  · intro r u2 t H1 locs1 ht _ hw hB hz hk1 hS1
    rw [ht] at hB
    have hPj := wCo_of (g := g) (u := u2) hB (wCo_k hPo hk1 hq)
    refine W.widen (k := 5) (n := 30) (by omega) (by omega) ?_
    refine lv_i2l (v := r.toInt64) hx hb dL_swap_10 rfl ?_
    refine va_last hx hb hKL hPj (wCo_D hq) hS1 23 0 rfl rfl (vp_in_nI (n := 0) (by decide) (by decide)) dL_swap_11 (fun H2 locs2 hP2 _ hS2 => ?_)
    have hP2 : va_P D vwCl (wCo cI cO cL q u2 (vp_updL g (0 : Int32).toNatClampNeg r.toInt64)) H2 := hP2
    refine lv_goto (tgt := 27) hx hb dL_swap_12 (by decide) ?_
    refine lv_iconst (v := 0) hx hb dL_swap_27 (by decide) ?_
    exact W.iret hx hb hr (fun t2 ht2 _ => ⟨⟨0, vp_updL g (0 : Int32).toNatClampNeg r.toInt64, rfl, ⟨by rw [← hw]; rfl, fun _ => by rw [← hw]; exact if_pos rfl⟩, by show va_P D vwCl _ t2.heap; rw [ht2, ← hw]; exact hP2⟩, hS2.F ht2⟩) hS2.2.2 dL_swap_28 hlocks
theorem cd_append (u : bU) (a1 : Int32) : (F5_append u a1).1 = 0 ∨ (F5_append u a1).1 = 2 ∨ (F5_append u a1).1 = 3 := by
  unfold F5_append
  (repeat' split) <;> first | with_reducible exact Or.inl rfl | (dsimp only; first | with_reducible exact (n_arg _).elim Or.inl (fun h => Or.inr (Or.inl h)) | with_reducible exact (n_st _).elim Or.inl (fun h => Or.inr (Or.inr (h))) | with_reducible exact (n_rng _ _ _).elim Or.inl (fun h => Or.inr (Or.inl h)) | with_reducible exact (n_kd _).elim Or.inl (fun h => Or.inr (Or.inl h)))
set_option maxHeartbeats 4000000 in
set_option maxRecDepth 100000 in
theorem CL_append (l : Launch) (D : va_G) (cI cO cL : ClassId) (q : Nat → Nat) (u : bU) (g : Nat → Int64) (H0 : Heap) (hq : bInj 24 q) (hl9 : l.stackTraces = false) (hP : va_P D vwCl (wCo cI cO cL q u g) H0) (a1 : Int32) : Met l yL_append wsL_append ({ frames := 9, cells := 2, slots := 12, locals := 145 }) (bPL D cI cO cL (bA 24 q H0.size) H0 [.ref (q 0), .int a1, .ref (q 23)]) (bLi D cI cO cL q (bA 24 q H0.size) cdA (F5_append u a1)) 2 12 (bA 24 q H0.size) := by
  refine Met.ofWH (cc := cL_append) (maxL := 4) (ret := (some .int)) (hh := [(0, 9, 12, 13), (0, 9, 15, 15)]) (by decide) rfl ?_
  intro p e s m args below meth c s₁ B hml hv
  obtain ⟨rfl, hH, hk, hX, hKL, hNC⟩ := hv
  subst hH
  have hx := B.exec
  have hb := B.bytes
  have hr := B.returns
  have hts := atoms_spec (ws := wsL_append) B.pre
  have hown : s.vm.findClass RL = some m.cls := findClass_of_methodNamed B.named
  have hlocks := B.notSynchronized
  have htab : c.exceptionTable.toList = tableOf [(0, 9, 12, 13), (0, 9, 15, 15)] := vx_table (x := yL_append) B (hts _ List.mem_cons_self)
  have hS : va_S (bA 24 q s.heap.size) s.heap s.heap [] := va_S.rf
  have hl := lv_entry ([.ref (q 0), .int a1, .ref (q 23)]) (n := 4) (Nat.le_of_ble_eq_true rfl)
  rw [lg_entry_eq]
  generalize (lg_sl ([.ref (q 0), .int a1, .ref (q 23)]) ++ List.replicate (4 - (lg_sl ([.ref (q 0), .int a1, .ref (q 23)])).length) Slot.unset).toArray = ls at hl ⊢
  have hl : lv_has ls 4 [(0, .ref (q 0)), (1, .int a1), (2, .ref (q 23))] := hl
  have hPC := wCo_C hP
  have hPo := wCo_o hP
  have hq23 := bInj_23 hq
  refine lv_aload_n hx hb dL_append_0 rfl (lv_at hl 2 rfl) ?_
  refine lv_iconst (v := 0) hx hb dL_append_1 (by decide) ?_
  refine lv_aload_n hx hb dL_append_2 rfl (lv_at hl 0 rfl) ?_
  refine lv_iload_n hx hb dL_append_3 rfl (lv_at hl 1 rfl) ?_
  refine vx_calli (vx_runV (As := [.int a1]) (rest := [.int 0, .ref (q 23)]) ⟨hx, hb, hml, hown, hts⟩ (C5_append l D cI cO q u _ hq23 hl9 hPC a1) (cwV 1 hts gL_append_X5_append rfl rfl rfl ⟨rfl, bd_X5append⟩ ⟨Nat.le_of_ble_eq_true rfl, Nat.le_of_ble_eq_true rfl⟩) (bPVX hk hX hS (bA_34 (Nat.le_refl _)) (va_recv hk.1 hPC (ci := 5) (q0 := 0) rfl (wC_0 _ _ _ _))) rfl rfl hl.1 rfl (lv_room (Nat.le_of_ble_eq_true rfl)) dL_append_4 ⟨Nat.le_of_ble_eq_true rfl, Nat.le_of_ble_eq_true rfl⟩) hS (fun x _ h => bA_34 (Nat.le_refl _) x h) (fun x h => bA_34 (Nat.le_refl _) x h) (fun x _ h => bA_34 (Nat.le_refl _) x h) ?_ ?_
  · intro E ce q9 u9 t H1 locs1 ht _ hne hB hz hk1 hS1 hcell hv9 hcl
    obtain ⟨hE, hPx⟩ := hB
    rw [ht] at hPx
    have hPj := wCo_of (g := g) (u := (F5_append u a1).2.2) hPx (wCo_k hPo hk1 hq)
    refine vx_widen (k := 2) (n := 12) (by omega) (by omega) ?_
    rcases cd_append u a1 with h9 | h9 | h9
    · exact absurd h9 hne
    · rw [h9] at hE
      obtain rfl : E = "java/lang/IllegalArgumentException" := hE.trans (by decide +kernel)
      refine vx_catch (own := RL) (name := "java/lang/IllegalArgumentException") hown [] ⟨0, 9, 12, 13⟩ [⟨0, 9, 15, 15⟩] (by rw [htab]; rfl) (fun z hz => by cases hz) (by decide) (by decide) (hts (.classLink RL 13 "java/lang/IllegalArgumentException") (List.mem_of_getElem? (i := 1) rfl)) (va_Nw.use rfl (hk.2 (.castable "java/lang/IllegalArgumentException" "java/lang/IllegalArgumentException") (List.mem_of_getElem? (i := 72) rfl))) hcell hv9 hcl ?_
      refine lv_astore_n (lv' := [(3, .ref q9), (0, .ref (q 0)), (1, .int a1), (2, .ref (q 23))]) hx hb dL_append_12 rfl hl (by decide) rfl (fun ls hl => ?_)
      refine lv_iconst (v := 1) hx hb dL_append_13 (by decide) ?_
      exact W.iret hx hb hr (fun t2 ht2 _ => ⟨⟨1, g, rfl, ⟨by rw [h9]; rfl, fun h0 => absurd h0 hne⟩, by show va_P D vwCl _ t2.heap; rw [ht2]; exact hPj⟩, hS1.F ht2⟩) hS1.2.2 dL_append_14 hlocks
    · rw [h9] at hE
      obtain rfl : E = "java/lang/IllegalStateException" := hE.trans (by decide +kernel)
      refine vx_catch (own := RL) (name := "java/lang/IllegalStateException") hown [⟨0, 9, 12, 13⟩] ⟨0, 9, 15, 15⟩ [] (by rw [htab]; rfl) (fun z hz => by rcases List.mem_cons.mp hz with rfl | hz; exact Or.inr ⟨(by decide), "java/lang/IllegalArgumentException", (hts (.classLink RL 13 "java/lang/IllegalArgumentException") (List.mem_of_getElem? (i := 1) rfl)), hNC.2.2⟩; cases hz) (by decide) (by decide) (hts (.classLink RL 15 "java/lang/IllegalStateException") (List.mem_of_getElem? (i := 2) rfl)) (va_Nw.use rfl (hk.2 (.castable "java/lang/IllegalStateException" "java/lang/IllegalStateException") (List.mem_of_getElem? (i := 73) rfl))) hcell hv9 hcl ?_
      refine lv_astore_n (lv' := [(3, .ref q9), (0, .ref (q 0)), (1, .int a1), (2, .ref (q 23))]) hx hb dL_append_15 rfl hl (by decide) rfl (fun ls hl => ?_)
      refine lv_iconst (v := 2) hx hb dL_append_16 (by decide) ?_
      exact W.iret hx hb hr (fun t2 ht2 _ => ⟨⟨2, g, rfl, ⟨by rw [h9]; rfl, fun h0 => absurd h0 hne⟩, by show va_P D vwCl _ t2.heap; rw [ht2]; exact hPj⟩, hS1.F ht2⟩) hS1.2.2 dL_append_17 hlocks
  · intro r u2 t H1 locs1 ht _ hw hB hz hk1 hS1
    rw [ht] at hB
    have hPj := wCo_of (g := g) (u := u2) hB (wCo_k hPo hk1 hq)
    refine W.widen (k := 2) (n := 12) (by omega) (by omega) ?_
    refine lv_i2l (v := r.toInt64) hx hb dL_append_7 rfl ?_
    refine va_last hx hb hKL hPj (wCo_D hq) hS1 23 0 rfl rfl (vp_in_nI (n := 0) (by decide) (by decide)) dL_append_8 (fun H2 locs2 hP2 _ hS2 => ?_)
    have hP2 : va_P D vwCl (wCo cI cO cL q u2 (vp_updL g (0 : Int32).toNatClampNeg r.toInt64)) H2 := hP2
    refine lv_goto (tgt := 18) hx hb dL_append_9 (by decide) ?_
    refine lv_iconst (v := 0) hx hb dL_append_18 (by decide) ?_
    exact W.iret hx hb hr (fun t2 ht2 _ => ⟨⟨0, vp_updL g (0 : Int32).toNatClampNeg r.toInt64, rfl, ⟨by rw [← hw]; rfl, fun _ => by rw [← hw]; exact if_pos rfl⟩, by show va_P D vwCl _ t2.heap; rw [ht2, ← hw]; exact hP2⟩, hS2.F ht2⟩) hS2.2.2 dL_append_19 hlocks

-- wrappers, on (by program)
theorem bd_X5whyNotDeliver : yX5_whyNotDeliver.cls ≠ "java/lang/invoke/MethodHandle" ∧ yX5_whyNotDeliver.cls ≠ "java/lang/invoke/VarHandle" ∧ (parseMethodDescriptor yX5_whyNotDeliver.desc).map (fun d => d.parameters.length) = some 3 := by decide +kernel
theorem bd_X5whyNotCollect : yX5_whyNotCollect.cls ≠ "java/lang/invoke/MethodHandle" ∧ yX5_whyNotCollect.cls ≠ "java/lang/invoke/VarHandle" ∧ (parseMethodDescriptor yX5_whyNotCollect.desc).map (fun d => d.parameters.length) = some 3 := by decide +kernel
theorem bd_X5mostCrates : yX5_mostCrates.cls ≠ "java/lang/invoke/MethodHandle" ∧ yX5_mostCrates.cls ≠ "java/lang/invoke/VarHandle" ∧ (parseMethodDescriptor yX5_mostCrates.desc).map (fun d => d.parameters.length) = some 2 := by decide +kernel
theorem bd_X5collected : yX5_collected.cls ≠ "java/lang/invoke/MethodHandle" ∧ yX5_collected.cls ≠ "java/lang/invoke/VarHandle" ∧ (parseMethodDescriptor yX5_collected.desc).map (fun d => d.parameters.length) = some 3 := by decide +kernel
theorem bd_X5filled : yX5_filled.cls ≠ "java/lang/invoke/MethodHandle" ∧ yX5_filled.cls ≠ "java/lang/invoke/VarHandle" ∧ (parseMethodDescriptor yX5_filled.desc).map (fun d => d.parameters.length) = some 2 := by decide +kernel
theorem bd_X5bestShop : yX5_bestShop.cls ≠ "java/lang/invoke/MethodHandle" ∧ yX5_bestShop.cls ≠ "java/lang/invoke/VarHandle" ∧ (parseMethodDescriptor yX5_bestShop.desc).map (fun d => d.parameters.length) = some 1 := by decide +kernel
theorem cd_whyNotDeliver (u : bU) (a1 : Int32) (a2 : Int32) (a3 : Int32) : (F5_whyNotDeliver u a1 a2 a3).1 = 0 ∨ (F5_whyNotDeliver u a1 a2 a3).1 = 1 ∨ (F5_whyNotDeliver u a1 a2 a3).1 = 2 := by
  unfold F5_whyNotDeliver
  (repeat' split) <;> first | with_reducible exact Or.inl rfl | (dsimp only; first | with_reducible exact (n_arg _).elim Or.inl (fun h => Or.inr (Or.inr (h))) | with_reducible exact (n_rng _ _ _).elim Or.inl (fun h => Or.inr (Or.inr (h))) | with_reducible exact (n_kd _).elim Or.inl (fun h => Or.inr (Or.inr (h))) | with_reducible exact (n_set _).elim Or.inl (fun h => Or.inr (Or.inl h)) | with_reducible exact (n_br _ _).elim Or.inl (fun h => Or.inr (Or.inl h)) | with_reducible exact (n_sh _ _).elim Or.inl (fun h => Or.inr (Or.inl h)))
set_option maxHeartbeats 4000000 in
set_option maxRecDepth 100000 in
theorem CL_whyNotDeliver (l : Launch) (D : va_G) (cI cO cL : ClassId) (q : Nat → Nat) (u : bU) (g : Nat → Int64) (H0 : Heap) (hq : bInj 24 q) (hl9 : l.stackTraces = false) (hP : va_P D vwCl (wCo cI cO cL q u g) H0) (a1 : Int32) (a2 : Int32) (a3 : Int32) : Met l yL_whyNotDeliver wsL_whyNotDeliver ({ frames := 9, cells := 3, slots := 18, locals := 147 }) (bPL D cI cO cL (bA 24 q H0.size) H0 [.ref (q 0), .int a1, .int a2, .int a3, .ref (q 23)]) (bLi D cI cO cL q (bA 24 q H0.size) id (F5_whyNotDeliver u a1 a2 a3)) 3 18 (bA 24 q H0.size) := by
  refine Met.ofWH (cc := cL_whyNotDeliver) (maxL := 6) (ret := (some .int)) (hh := [(0, 12, 15, 27), (0, 12, 19, 13)]) (by decide) rfl ?_
  intro p e s m args below meth c s₁ B hml hv
  obtain ⟨rfl, hH, hk, hX, hKL, hNC⟩ := hv
  subst hH
  have hx := B.exec
  have hb := B.bytes
  have hr := B.returns
  have hts := atoms_spec (ws := wsL_whyNotDeliver) B.pre
  have hown : s.vm.findClass RL = some m.cls := findClass_of_methodNamed B.named
  have hlocks := B.notSynchronized
  have htab : c.exceptionTable.toList = tableOf [(0, 12, 15, 27), (0, 12, 19, 13)] := vx_table (x := yL_whyNotDeliver) B (hts _ List.mem_cons_self)
  have hS : va_S (bA 24 q s.heap.size) s.heap s.heap [] := va_S.rf
  have hl := lv_entry ([.ref (q 0), .int a1, .int a2, .int a3, .ref (q 23)]) (n := 6) (Nat.le_of_ble_eq_true rfl)
  rw [lg_entry_eq]
  generalize (lg_sl ([.ref (q 0), .int a1, .int a2, .int a3, .ref (q 23)]) ++ List.replicate (6 - (lg_sl ([.ref (q 0), .int a1, .int a2, .int a3, .ref (q 23)])).length) Slot.unset).toArray = ls at hl ⊢
  have hl : lv_has ls 6 [(0, .ref (q 0)), (1, .int a1), (2, .int a2), (3, .int a3), (4, .ref (q 23))] := hl
  have hPC := wCo_C hP
  have hPo := wCo_o hP
  have hq23 := bInj_23 hq
  refine lv_aload hx hb dL_whyNotDeliver_0 (lv_at hl 4 rfl) ?_
  refine lv_iconst (v := 0) hx hb dL_whyNotDeliver_2 (by decide) ?_
  refine lv_aload_n hx hb dL_whyNotDeliver_3 rfl (lv_at hl 0 rfl) ?_
  refine lv_iload_n hx hb dL_whyNotDeliver_4 rfl (lv_at hl 1 rfl) ?_
  refine lv_iload_n hx hb dL_whyNotDeliver_5 rfl (lv_at hl 2 rfl) ?_
  refine lv_iload_n hx hb dL_whyNotDeliver_6 rfl (lv_at hl 3 rfl) ?_
  refine vx_calli (vx_runV (As := [.int a1, .int a2, .int a3]) (rest := [.int 0, .ref (q 23)]) ⟨hx, hb, hml, hown, hts⟩ (C5_whyNotDeliver l D cI cO q u _ hq23 hl9 hPC a1 a2 a3) (cwV 3 hts gL_whyNotDeliver_X5_whyNotDeliver rfl rfl rfl ⟨rfl, bd_X5whyNotDeliver⟩ ⟨Nat.le_of_ble_eq_true rfl, Nat.le_of_ble_eq_true rfl⟩) (bPVX hk hX hS (bA_34 (Nat.le_refl _)) (va_recv hk.1 hPC (ci := 5) (q0 := 0) rfl (wC_0 _ _ _ _))) rfl rfl hl.1 rfl (lv_room (Nat.le_of_ble_eq_true rfl)) dL_whyNotDeliver_7 ⟨Nat.le_of_ble_eq_true rfl, Nat.le_of_ble_eq_true rfl⟩) hS (fun x _ h => bA_34 (Nat.le_refl _) x h) (fun x h => bA_34 (Nat.le_refl _) x h) (fun x _ h => bA_34 (Nat.le_refl _) x h) ?_ ?_
  · intro E ce q9 u9 t H1 locs1 ht _ hne hB hz hk1 hS1 hcell hv9 hcl
    obtain ⟨hE, hPx⟩ := hB
    rw [ht] at hPx
    have hPj := wCo_of (g := g) (u := (F5_whyNotDeliver u a1 a2 a3).2.2) hPx (wCo_k hPo hk1 hq)
    refine vx_widen (k := 3) (n := 18) (by omega) (by omega) ?_
    rcases cd_whyNotDeliver u a1 a2 a3 with h9 | h9 | h9
    · exact absurd h9 hne
    · rw [h9] at hE
      obtain rfl : E = "java/lang/IndexOutOfBoundsException" := hE.trans (by decide +kernel)
      refine vx_catch (own := RL) (name := "java/lang/IndexOutOfBoundsException") hown [] ⟨0, 12, 15, 27⟩ [⟨0, 12, 19, 13⟩] (by rw [htab]; rfl) (fun z hz => by cases hz) (by decide) (by decide) (hts (.classLink RL 27 "java/lang/IndexOutOfBoundsException") (List.mem_of_getElem? (i := 1) rfl)) (va_Nw.use rfl (hk.2 (.castable "java/lang/IndexOutOfBoundsException" "java/lang/IndexOutOfBoundsException") (List.mem_of_getElem? (i := 71) rfl))) hcell hv9 hcl ?_
      refine lv_astore (lv' := [(5, .ref q9), (0, .ref (q 0)), (1, .int a1), (2, .int a2), (3, .int a3), (4, .ref (q 23))]) hx hb dL_whyNotDeliver_15 hl (by decide) rfl (fun ls hl => ?_)
      refine lv_iconst (v := 1) hx hb dL_whyNotDeliver_17 (by decide) ?_
      exact W.iret hx hb hr (fun t2 ht2 _ => ⟨⟨1, g, rfl, ⟨by rw [h9]; rfl, fun h0 => absurd h0 hne⟩, by show va_P D vwCl _ t2.heap; rw [ht2]; exact hPj⟩, hS1.F ht2⟩) hS1.2.2 dL_whyNotDeliver_18 hlocks
    · rw [h9] at hE
      obtain rfl : E = "java/lang/IllegalArgumentException" := hE.trans (by decide +kernel)
      refine vx_catch (own := RL) (name := "java/lang/IllegalArgumentException") hown [⟨0, 12, 15, 27⟩] ⟨0, 12, 19, 13⟩ [] (by rw [htab]; rfl) (fun z hz => by rcases List.mem_cons.mp hz with rfl | hz; exact Or.inr ⟨(by decide), "java/lang/IndexOutOfBoundsException", (hts (.classLink RL 27 "java/lang/IndexOutOfBoundsException") (List.mem_of_getElem? (i := 1) rfl)), hNC.1⟩; cases hz) (by decide) (by decide) (hts (.classLink RL 13 "java/lang/IllegalArgumentException") (List.mem_of_getElem? (i := 2) rfl)) (va_Nw.use rfl (hk.2 (.castable "java/lang/IllegalArgumentException" "java/lang/IllegalArgumentException") (List.mem_of_getElem? (i := 72) rfl))) hcell hv9 hcl ?_
      refine lv_astore (lv' := [(5, .ref q9), (0, .ref (q 0)), (1, .int a1), (2, .int a2), (3, .int a3), (4, .ref (q 23))]) hx hb dL_whyNotDeliver_19 hl (by decide) rfl (fun ls hl => ?_)
      refine lv_iconst (v := 2) hx hb dL_whyNotDeliver_21 (by decide) ?_
      exact W.iret hx hb hr (fun t2 ht2 _ => ⟨⟨2, g, rfl, ⟨by rw [h9]; rfl, fun h0 => absurd h0 hne⟩, by show va_P D vwCl _ t2.heap; rw [ht2]; exact hPj⟩, hS1.F ht2⟩) hS1.2.2 dL_whyNotDeliver_22 hlocks
  · intro r u2 t H1 locs1 ht _ hw hB hz hk1 hS1
    rw [ht] at hB
    have hPj := wCo_of (g := g) (u := u2) hB (wCo_k hPo hk1 hq)
    refine W.widen (k := 3) (n := 18) (by omega) (by omega) ?_
    refine lv_i2l (v := r.toInt64) hx hb dL_whyNotDeliver_10 rfl ?_
    refine va_last hx hb hKL hPj (wCo_D hq) hS1 23 0 rfl rfl (vp_in_nI (n := 0) (by decide) (by decide)) dL_whyNotDeliver_11 (fun H2 locs2 hP2 _ hS2 => ?_)
    have hP2 : va_P D vwCl (wCo cI cO cL q u2 (vp_updL g (0 : Int32).toNatClampNeg r.toInt64)) H2 := hP2
    refine lv_goto (tgt := 23) hx hb dL_whyNotDeliver_12 (by decide) ?_
    refine lv_iconst (v := 0) hx hb dL_whyNotDeliver_23 (by decide) ?_
    exact W.iret hx hb hr (fun t2 ht2 _ => ⟨⟨0, vp_updL g (0 : Int32).toNatClampNeg r.toInt64, rfl, ⟨by rw [← hw]; rfl, fun _ => by rw [← hw]; exact if_pos rfl⟩, by show va_P D vwCl _ t2.heap; rw [ht2, ← hw]; exact hP2⟩, hS2.F ht2⟩) hS2.2.2 dL_whyNotDeliver_24 hlocks
theorem cd_whyNotCollect (u : bU) (a1 : Int32) (a2 : Int32) (a3 : Int32) : (F5_whyNotCollect u a1 a2 a3).1 = 0 ∨ (F5_whyNotCollect u a1 a2 a3).1 = 1 ∨ (F5_whyNotCollect u a1 a2 a3).1 = 2 := by
  unfold F5_whyNotCollect
  (repeat' split) <;> first | with_reducible exact Or.inl rfl | (dsimp only; first | with_reducible exact (n_arg _).elim Or.inl (fun h => Or.inr (Or.inr (h))) | with_reducible exact (n_rng _ _ _).elim Or.inl (fun h => Or.inr (Or.inr (h))) | with_reducible exact (n_kd _).elim Or.inl (fun h => Or.inr (Or.inr (h))) | with_reducible exact (n_set _).elim Or.inl (fun h => Or.inr (Or.inl h)) | with_reducible exact (n_br _ _).elim Or.inl (fun h => Or.inr (Or.inl h)) | with_reducible exact (n_sh _ _).elim Or.inl (fun h => Or.inr (Or.inl h)))
set_option maxHeartbeats 4000000 in
set_option maxRecDepth 100000 in
theorem CL_whyNotCollect (l : Launch) (D : va_G) (cI cO cL : ClassId) (q : Nat → Nat) (u : bU) (g : Nat → Int64) (H0 : Heap) (hq : bInj 24 q) (hl9 : l.stackTraces = false) (hP : va_P D vwCl (wCo cI cO cL q u g) H0) (a1 : Int32) (a2 : Int32) (a3 : Int32) : Met l yL_whyNotCollect wsL_whyNotCollect ({ frames := 10, cells := 3, slots := 18, locals := 167 }) (bPL D cI cO cL (bA 24 q H0.size) H0 [.ref (q 0), .int a1, .int a2, .int a3, .ref (q 23)]) (bLi D cI cO cL q (bA 24 q H0.size) id (F5_whyNotCollect u a1 a2 a3)) 3 18 (bA 24 q H0.size) := by
  refine Met.ofWH (cc := cL_whyNotCollect) (maxL := 6) (ret := (some .int)) (hh := [(0, 12, 15, 27), (0, 12, 19, 13)]) (by decide) rfl ?_
  intro p e s m args below meth c s₁ B hml hv
  obtain ⟨rfl, hH, hk, hX, hKL, hNC⟩ := hv
  subst hH
  have hx := B.exec
  have hb := B.bytes
  have hr := B.returns
  have hts := atoms_spec (ws := wsL_whyNotCollect) B.pre
  have hown : s.vm.findClass RL = some m.cls := findClass_of_methodNamed B.named
  have hlocks := B.notSynchronized
  have htab : c.exceptionTable.toList = tableOf [(0, 12, 15, 27), (0, 12, 19, 13)] := vx_table (x := yL_whyNotCollect) B (hts _ List.mem_cons_self)
  have hS : va_S (bA 24 q s.heap.size) s.heap s.heap [] := va_S.rf
  have hl := lv_entry ([.ref (q 0), .int a1, .int a2, .int a3, .ref (q 23)]) (n := 6) (Nat.le_of_ble_eq_true rfl)
  rw [lg_entry_eq]
  generalize (lg_sl ([.ref (q 0), .int a1, .int a2, .int a3, .ref (q 23)]) ++ List.replicate (6 - (lg_sl ([.ref (q 0), .int a1, .int a2, .int a3, .ref (q 23)])).length) Slot.unset).toArray = ls at hl ⊢
  have hl : lv_has ls 6 [(0, .ref (q 0)), (1, .int a1), (2, .int a2), (3, .int a3), (4, .ref (q 23))] := hl
  have hPC := wCo_C hP
  have hPo := wCo_o hP
  have hq23 := bInj_23 hq
  refine lv_aload hx hb dL_whyNotCollect_0 (lv_at hl 4 rfl) ?_
  refine lv_iconst (v := 0) hx hb dL_whyNotCollect_2 (by decide) ?_
  refine lv_aload_n hx hb dL_whyNotCollect_3 rfl (lv_at hl 0 rfl) ?_
  refine lv_iload_n hx hb dL_whyNotCollect_4 rfl (lv_at hl 1 rfl) ?_
  refine lv_iload_n hx hb dL_whyNotCollect_5 rfl (lv_at hl 2 rfl) ?_
  refine lv_iload_n hx hb dL_whyNotCollect_6 rfl (lv_at hl 3 rfl) ?_
  refine vx_calli (vx_runV (As := [.int a1, .int a2, .int a3]) (rest := [.int 0, .ref (q 23)]) ⟨hx, hb, hml, hown, hts⟩ (C5_whyNotCollect l D cI cO q u _ hq23 hl9 hPC a1 a2 a3) (cwV 3 hts gL_whyNotCollect_X5_whyNotCollect rfl rfl rfl ⟨rfl, bd_X5whyNotCollect⟩ ⟨Nat.le_of_ble_eq_true rfl, Nat.le_of_ble_eq_true rfl⟩) (bPVX hk hX hS (bA_34 (Nat.le_refl _)) (va_recv hk.1 hPC (ci := 5) (q0 := 0) rfl (wC_0 _ _ _ _))) rfl rfl hl.1 rfl (lv_room (Nat.le_of_ble_eq_true rfl)) dL_whyNotCollect_7 ⟨Nat.le_of_ble_eq_true rfl, Nat.le_of_ble_eq_true rfl⟩) hS (fun x _ h => bA_34 (Nat.le_refl _) x h) (fun x h => bA_34 (Nat.le_refl _) x h) (fun x _ h => bA_34 (Nat.le_refl _) x h) ?_ ?_
  · intro E ce q9 u9 t H1 locs1 ht _ hne hB hz hk1 hS1 hcell hv9 hcl
    obtain ⟨hE, hPx⟩ := hB
    rw [ht] at hPx
    have hPj := wCo_of (g := g) (u := (F5_whyNotCollect u a1 a2 a3).2.2) hPx (wCo_k hPo hk1 hq)
    refine vx_widen (k := 3) (n := 18) (by omega) (by omega) ?_
    rcases cd_whyNotCollect u a1 a2 a3 with h9 | h9 | h9
    · exact absurd h9 hne
    · rw [h9] at hE
      obtain rfl : E = "java/lang/IndexOutOfBoundsException" := hE.trans (by decide +kernel)
      refine vx_catch (own := RL) (name := "java/lang/IndexOutOfBoundsException") hown [] ⟨0, 12, 15, 27⟩ [⟨0, 12, 19, 13⟩] (by rw [htab]; rfl) (fun z hz => by cases hz) (by decide) (by decide) (hts (.classLink RL 27 "java/lang/IndexOutOfBoundsException") (List.mem_of_getElem? (i := 1) rfl)) (va_Nw.use rfl (hk.2 (.castable "java/lang/IndexOutOfBoundsException" "java/lang/IndexOutOfBoundsException") (List.mem_of_getElem? (i := 71) rfl))) hcell hv9 hcl ?_
      refine lv_astore (lv' := [(5, .ref q9), (0, .ref (q 0)), (1, .int a1), (2, .int a2), (3, .int a3), (4, .ref (q 23))]) hx hb dL_whyNotCollect_15 hl (by decide) rfl (fun ls hl => ?_)
      refine lv_iconst (v := 1) hx hb dL_whyNotCollect_17 (by decide) ?_
      exact W.iret hx hb hr (fun t2 ht2 _ => ⟨⟨1, g, rfl, ⟨by rw [h9]; rfl, fun h0 => absurd h0 hne⟩, by show va_P D vwCl _ t2.heap; rw [ht2]; exact hPj⟩, hS1.F ht2⟩) hS1.2.2 dL_whyNotCollect_18 hlocks
    · rw [h9] at hE
      obtain rfl : E = "java/lang/IllegalArgumentException" := hE.trans (by decide +kernel)
      refine vx_catch (own := RL) (name := "java/lang/IllegalArgumentException") hown [⟨0, 12, 15, 27⟩] ⟨0, 12, 19, 13⟩ [] (by rw [htab]; rfl) (fun z hz => by rcases List.mem_cons.mp hz with rfl | hz; exact Or.inr ⟨(by decide), "java/lang/IndexOutOfBoundsException", (hts (.classLink RL 27 "java/lang/IndexOutOfBoundsException") (List.mem_of_getElem? (i := 1) rfl)), hNC.1⟩; cases hz) (by decide) (by decide) (hts (.classLink RL 13 "java/lang/IllegalArgumentException") (List.mem_of_getElem? (i := 2) rfl)) (va_Nw.use rfl (hk.2 (.castable "java/lang/IllegalArgumentException" "java/lang/IllegalArgumentException") (List.mem_of_getElem? (i := 72) rfl))) hcell hv9 hcl ?_
      refine lv_astore (lv' := [(5, .ref q9), (0, .ref (q 0)), (1, .int a1), (2, .int a2), (3, .int a3), (4, .ref (q 23))]) hx hb dL_whyNotCollect_19 hl (by decide) rfl (fun ls hl => ?_)
      refine lv_iconst (v := 2) hx hb dL_whyNotCollect_21 (by decide) ?_
      exact W.iret hx hb hr (fun t2 ht2 _ => ⟨⟨2, g, rfl, ⟨by rw [h9]; rfl, fun h0 => absurd h0 hne⟩, by show va_P D vwCl _ t2.heap; rw [ht2]; exact hPj⟩, hS1.F ht2⟩) hS1.2.2 dL_whyNotCollect_22 hlocks
  · intro r u2 t H1 locs1 ht _ hw hB hz hk1 hS1
    rw [ht] at hB
    have hPj := wCo_of (g := g) (u := u2) hB (wCo_k hPo hk1 hq)
    refine W.widen (k := 3) (n := 18) (by omega) (by omega) ?_
    refine lv_i2l (v := r.toInt64) hx hb dL_whyNotCollect_10 rfl ?_
    refine va_last hx hb hKL hPj (wCo_D hq) hS1 23 0 rfl rfl (vp_in_nI (n := 0) (by decide) (by decide)) dL_whyNotCollect_11 (fun H2 locs2 hP2 _ hS2 => ?_)
    have hP2 : va_P D vwCl (wCo cI cO cL q u2 (vp_updL g (0 : Int32).toNatClampNeg r.toInt64)) H2 := hP2
    refine lv_goto (tgt := 23) hx hb dL_whyNotCollect_12 (by decide) ?_
    refine lv_iconst (v := 0) hx hb dL_whyNotCollect_23 (by decide) ?_
    exact W.iret hx hb hr (fun t2 ht2 _ => ⟨⟨0, vp_updL g (0 : Int32).toNatClampNeg r.toInt64, rfl, ⟨by rw [← hw]; rfl, fun _ => by rw [← hw]; exact if_pos rfl⟩, by show va_P D vwCl _ t2.heap; rw [ht2, ← hw]; exact hP2⟩, hS2.F ht2⟩) hS2.2.2 dL_whyNotCollect_24 hlocks
theorem cd_mostCrates (u : bU) (a1 : Int32) (a2 : Int32) : (F5_mostCrates u a1 a2).1 = 0 ∨ (F5_mostCrates u a1 a2).1 = 1 := by
  unfold F5_mostCrates
  (repeat' split) <;> first | with_reducible exact Or.inl rfl | (dsimp only; first | with_reducible exact (n_set _).elim Or.inl (fun h => Or.inr (h)) | with_reducible exact (n_br _ _).elim Or.inl (fun h => Or.inr (h)) | with_reducible exact (n_sh _ _).elim Or.inl (fun h => Or.inr (h)))
set_option maxHeartbeats 4000000 in
set_option maxRecDepth 100000 in
theorem CL_mostCrates (l : Launch) (D : va_G) (cI cO cL : ClassId) (q : Nat → Nat) (u : bU) (g : Nat → Int64) (H0 : Heap) (hq : bInj 24 q) (hl9 : l.stackTraces = false) (hP : va_P D vwCl (wCo cI cO cL q u g) H0) (a1 : Int32) (a2 : Int32) : Met l yL_mostCrates wsL_mostCrates ({ frames := 8, cells := 2, slots := 12, locals := 131 }) (bPL D cI cO cL (bA 24 q H0.size) H0 [.ref (q 0), .int a1, .int a2, .ref (q 23)]) (bLi D cI cO cL q (bA 24 q H0.size) id (F5_mostCrates u a1 a2)) 2 12 (bA 24 q H0.size) := by
  refine Met.ofWH (cc := cL_mostCrates) (maxL := 5) (ret := (some .int)) (hh := [(0, 10, 13, 27)]) (by decide) rfl ?_
  intro p e s m args below meth c s₁ B hml hv
  obtain ⟨rfl, hH, hk, hX, hKL, hNC⟩ := hv
  subst hH
  have hx := B.exec
  have hb := B.bytes
  have hr := B.returns
  have hts := atoms_spec (ws := wsL_mostCrates) B.pre
  have hown : s.vm.findClass RL = some m.cls := findClass_of_methodNamed B.named
  have hlocks := B.notSynchronized
  have htab : c.exceptionTable.toList = tableOf [(0, 10, 13, 27)] := vx_table (x := yL_mostCrates) B (hts _ List.mem_cons_self)
  have hS : va_S (bA 24 q s.heap.size) s.heap s.heap [] := va_S.rf
  have hl := lv_entry ([.ref (q 0), .int a1, .int a2, .ref (q 23)]) (n := 5) (Nat.le_of_ble_eq_true rfl)
  rw [lg_entry_eq]
  generalize (lg_sl ([.ref (q 0), .int a1, .int a2, .ref (q 23)]) ++ List.replicate (5 - (lg_sl ([.ref (q 0), .int a1, .int a2, .ref (q 23)])).length) Slot.unset).toArray = ls at hl ⊢
  have hl : lv_has ls 5 [(0, .ref (q 0)), (1, .int a1), (2, .int a2), (3, .ref (q 23))] := hl
  have hPC := wCo_C hP
  have hPo := wCo_o hP
  have hq23 := bInj_23 hq
  refine lv_aload_n hx hb dL_mostCrates_0 rfl (lv_at hl 3 rfl) ?_
  refine lv_iconst (v := 0) hx hb dL_mostCrates_1 (by decide) ?_
  refine lv_aload_n hx hb dL_mostCrates_2 rfl (lv_at hl 0 rfl) ?_
  refine lv_iload_n hx hb dL_mostCrates_3 rfl (lv_at hl 1 rfl) ?_
  refine lv_iload_n hx hb dL_mostCrates_4 rfl (lv_at hl 2 rfl) ?_
  refine vx_calli (vx_runV (As := [.int a1, .int a2]) (rest := [.int 0, .ref (q 23)]) ⟨hx, hb, hml, hown, hts⟩ (C5_mostCrates l D cI cO q u _ hq23 hl9 hPC a1 a2) (cwV 2 hts gL_mostCrates_X5_mostCrates rfl rfl rfl ⟨rfl, bd_X5mostCrates⟩ ⟨Nat.le_of_ble_eq_true rfl, Nat.le_of_ble_eq_true rfl⟩) (bPVX hk hX hS (bA_34 (Nat.le_refl _)) (va_recv hk.1 hPC (ci := 5) (q0 := 0) rfl (wC_0 _ _ _ _))) rfl rfl hl.1 rfl (lv_room (Nat.le_of_ble_eq_true rfl)) dL_mostCrates_5 ⟨Nat.le_of_ble_eq_true rfl, Nat.le_of_ble_eq_true rfl⟩) hS (fun x _ h => bA_34 (Nat.le_refl _) x h) (fun x h => bA_34 (Nat.le_refl _) x h) (fun x _ h => bA_34 (Nat.le_refl _) x h) ?_ ?_
  · intro E ce q9 u9 t H1 locs1 ht _ hne hB hz hk1 hS1 hcell hv9 hcl
    obtain ⟨hE, hPx⟩ := hB
    rw [ht] at hPx
    have hPj := wCo_of (g := g) (u := (F5_mostCrates u a1 a2).2.2) hPx (wCo_k hPo hk1 hq)
    refine vx_widen (k := 2) (n := 12) (by omega) (by omega) ?_
    rcases cd_mostCrates u a1 a2 with h9 | h9
    · exact absurd h9 hne
    · rw [h9] at hE
      obtain rfl : E = "java/lang/IndexOutOfBoundsException" := hE.trans (by decide +kernel)
      refine vx_catch (own := RL) (name := "java/lang/IndexOutOfBoundsException") hown [] ⟨0, 10, 13, 27⟩ [] (by rw [htab]; rfl) (fun z hz => by cases hz) (by decide) (by decide) (hts (.classLink RL 27 "java/lang/IndexOutOfBoundsException") (List.mem_of_getElem? (i := 1) rfl)) (va_Nw.use rfl (hk.2 (.castable "java/lang/IndexOutOfBoundsException" "java/lang/IndexOutOfBoundsException") (List.mem_of_getElem? (i := 71) rfl))) hcell hv9 hcl ?_
      refine lv_astore (lv' := [(4, .ref q9), (0, .ref (q 0)), (1, .int a1), (2, .int a2), (3, .ref (q 23))]) hx hb dL_mostCrates_13 hl (by decide) rfl (fun ls hl => ?_)
      refine lv_iconst (v := 1) hx hb dL_mostCrates_15 (by decide) ?_
      exact W.iret hx hb hr (fun t2 ht2 _ => ⟨⟨1, g, rfl, ⟨by rw [h9]; rfl, fun h0 => absurd h0 hne⟩, by show va_P D vwCl _ t2.heap; rw [ht2]; exact hPj⟩, hS1.F ht2⟩) hS1.2.2 dL_mostCrates_16 hlocks
  · intro r u2 t H1 locs1 ht _ hw hB hz hk1 hS1
    rw [ht] at hB
    have hPj := wCo_of (g := g) (u := u2) hB (wCo_k hPo hk1 hq)
    refine W.widen (k := 2) (n := 12) (by omega) (by omega) ?_
    refine lv_i2l (v := r.toInt64) hx hb dL_mostCrates_8 rfl ?_
    refine va_last hx hb hKL hPj (wCo_D hq) hS1 23 0 rfl rfl (vp_in_nI (n := 0) (by decide) (by decide)) dL_mostCrates_9 (fun H2 locs2 hP2 _ hS2 => ?_)
    have hP2 : va_P D vwCl (wCo cI cO cL q u2 (vp_updL g (0 : Int32).toNatClampNeg r.toInt64)) H2 := hP2
    refine lv_goto (tgt := 17) hx hb dL_mostCrates_10 (by decide) ?_
    refine lv_iconst (v := 0) hx hb dL_mostCrates_17 (by decide) ?_
    exact W.iret hx hb hr (fun t2 ht2 _ => ⟨⟨0, vp_updL g (0 : Int32).toNatClampNeg r.toInt64, rfl, ⟨by rw [← hw]; rfl, fun _ => by rw [← hw]; exact if_pos rfl⟩, by show va_P D vwCl _ t2.heap; rw [ht2, ← hw]; exact hP2⟩, hS2.F ht2⟩) hS2.2.2 dL_mostCrates_18 hlocks
theorem cd_collected (u : bU) (a1 : Int32) (a2 : Int32) (a3 : Int32) : (F5_collected u a1 a2 a3).1 = 0 ∨ (F5_collected u a1 a2 a3).1 = 1 ∨ (F5_collected u a1 a2 a3).1 = 2 := by
  unfold F5_collected
  (repeat' split) <;> first | with_reducible exact Or.inl rfl | (dsimp only; first | with_reducible exact (n_arg _).elim Or.inl (fun h => Or.inr (Or.inr (h))) | with_reducible exact (n_rng _ _ _).elim Or.inl (fun h => Or.inr (Or.inr (h))) | with_reducible exact (n_kd _).elim Or.inl (fun h => Or.inr (Or.inr (h))) | with_reducible exact (n_set _).elim Or.inl (fun h => Or.inr (Or.inl h)) | with_reducible exact (n_br _ _).elim Or.inl (fun h => Or.inr (Or.inl h)) | with_reducible exact (n_sh _ _).elim Or.inl (fun h => Or.inr (Or.inl h)))
set_option maxHeartbeats 4000000 in
set_option maxRecDepth 100000 in
theorem CL_collected (l : Launch) (D : va_G) (cI cO cL : ClassId) (q : Nat → Nat) (u : bU) (g : Nat → Int64) (H0 : Heap) (hq : bInj 24 q) (hl9 : l.stackTraces = false) (hP : va_P D vwCl (wCo cI cO cL q u g) H0) (a1 : Int32) (a2 : Int32) (a3 : Int32) : Met l yL_collected wsL_collected ({ frames := 9, cells := 3, slots := 18, locals := 147 }) (bPL D cI cO cL (bA 24 q H0.size) H0 [.ref (q 0), .int a1, .int a2, .int a3, .ref (q 23)]) (bLi D cI cO cL q (bA 24 q H0.size) id (F5_collected u a1 a2 a3)) 3 18 (bA 24 q H0.size) := by
  refine Met.ofWH (cc := cL_collected) (maxL := 6) (ret := (some .int)) (hh := [(0, 12, 15, 27), (0, 12, 19, 13)]) (by decide) rfl ?_
  intro p e s m args below meth c s₁ B hml hv
  obtain ⟨rfl, hH, hk, hX, hKL, hNC⟩ := hv
  subst hH
  have hx := B.exec
  have hb := B.bytes
  have hr := B.returns
  have hts := atoms_spec (ws := wsL_collected) B.pre
  have hown : s.vm.findClass RL = some m.cls := findClass_of_methodNamed B.named
  have hlocks := B.notSynchronized
  have htab : c.exceptionTable.toList = tableOf [(0, 12, 15, 27), (0, 12, 19, 13)] := vx_table (x := yL_collected) B (hts _ List.mem_cons_self)
  have hS : va_S (bA 24 q s.heap.size) s.heap s.heap [] := va_S.rf
  have hl := lv_entry ([.ref (q 0), .int a1, .int a2, .int a3, .ref (q 23)]) (n := 6) (Nat.le_of_ble_eq_true rfl)
  rw [lg_entry_eq]
  generalize (lg_sl ([.ref (q 0), .int a1, .int a2, .int a3, .ref (q 23)]) ++ List.replicate (6 - (lg_sl ([.ref (q 0), .int a1, .int a2, .int a3, .ref (q 23)])).length) Slot.unset).toArray = ls at hl ⊢
  have hl : lv_has ls 6 [(0, .ref (q 0)), (1, .int a1), (2, .int a2), (3, .int a3), (4, .ref (q 23))] := hl
  have hPC := wCo_C hP
  have hPo := wCo_o hP
  have hq23 := bInj_23 hq
  refine lv_aload hx hb dL_collected_0 (lv_at hl 4 rfl) ?_
  refine lv_iconst (v := 0) hx hb dL_collected_2 (by decide) ?_
  refine lv_aload_n hx hb dL_collected_3 rfl (lv_at hl 0 rfl) ?_
  refine lv_iload_n hx hb dL_collected_4 rfl (lv_at hl 1 rfl) ?_
  refine lv_iload_n hx hb dL_collected_5 rfl (lv_at hl 2 rfl) ?_
  refine lv_iload_n hx hb dL_collected_6 rfl (lv_at hl 3 rfl) ?_
  refine vx_calli (vx_runV (As := [.int a1, .int a2, .int a3]) (rest := [.int 0, .ref (q 23)]) ⟨hx, hb, hml, hown, hts⟩ (C5_collected l D cI cO q u _ hq23 hl9 hPC a1 a2 a3) (cwV 3 hts gL_collected_X5_collected rfl rfl rfl ⟨rfl, bd_X5collected⟩ ⟨Nat.le_of_ble_eq_true rfl, Nat.le_of_ble_eq_true rfl⟩) (bPVX hk hX hS (bA_34 (Nat.le_refl _)) (va_recv hk.1 hPC (ci := 5) (q0 := 0) rfl (wC_0 _ _ _ _))) rfl rfl hl.1 rfl (lv_room (Nat.le_of_ble_eq_true rfl)) dL_collected_7 ⟨Nat.le_of_ble_eq_true rfl, Nat.le_of_ble_eq_true rfl⟩) hS (fun x _ h => bA_34 (Nat.le_refl _) x h) (fun x h => bA_34 (Nat.le_refl _) x h) (fun x _ h => bA_34 (Nat.le_refl _) x h) ?_ ?_
  · intro E ce q9 u9 t H1 locs1 ht _ hne hB hz hk1 hS1 hcell hv9 hcl
    obtain ⟨hE, hPx⟩ := hB
    rw [ht] at hPx
    have hPj := wCo_of (g := g) (u := (F5_collected u a1 a2 a3).2.2) hPx (wCo_k hPo hk1 hq)
    refine vx_widen (k := 3) (n := 18) (by omega) (by omega) ?_
    rcases cd_collected u a1 a2 a3 with h9 | h9 | h9
    · exact absurd h9 hne
    · rw [h9] at hE
      obtain rfl : E = "java/lang/IndexOutOfBoundsException" := hE.trans (by decide +kernel)
      refine vx_catch (own := RL) (name := "java/lang/IndexOutOfBoundsException") hown [] ⟨0, 12, 15, 27⟩ [⟨0, 12, 19, 13⟩] (by rw [htab]; rfl) (fun z hz => by cases hz) (by decide) (by decide) (hts (.classLink RL 27 "java/lang/IndexOutOfBoundsException") (List.mem_of_getElem? (i := 1) rfl)) (va_Nw.use rfl (hk.2 (.castable "java/lang/IndexOutOfBoundsException" "java/lang/IndexOutOfBoundsException") (List.mem_of_getElem? (i := 71) rfl))) hcell hv9 hcl ?_
      refine lv_astore (lv' := [(5, .ref q9), (0, .ref (q 0)), (1, .int a1), (2, .int a2), (3, .int a3), (4, .ref (q 23))]) hx hb dL_collected_15 hl (by decide) rfl (fun ls hl => ?_)
      refine lv_iconst (v := 1) hx hb dL_collected_17 (by decide) ?_
      exact W.iret hx hb hr (fun t2 ht2 _ => ⟨⟨1, g, rfl, ⟨by rw [h9]; rfl, fun h0 => absurd h0 hne⟩, by show va_P D vwCl _ t2.heap; rw [ht2]; exact hPj⟩, hS1.F ht2⟩) hS1.2.2 dL_collected_18 hlocks
    · rw [h9] at hE
      obtain rfl : E = "java/lang/IllegalArgumentException" := hE.trans (by decide +kernel)
      refine vx_catch (own := RL) (name := "java/lang/IllegalArgumentException") hown [⟨0, 12, 15, 27⟩] ⟨0, 12, 19, 13⟩ [] (by rw [htab]; rfl) (fun z hz => by rcases List.mem_cons.mp hz with rfl | hz; exact Or.inr ⟨(by decide), "java/lang/IndexOutOfBoundsException", (hts (.classLink RL 27 "java/lang/IndexOutOfBoundsException") (List.mem_of_getElem? (i := 1) rfl)), hNC.1⟩; cases hz) (by decide) (by decide) (hts (.classLink RL 13 "java/lang/IllegalArgumentException") (List.mem_of_getElem? (i := 2) rfl)) (va_Nw.use rfl (hk.2 (.castable "java/lang/IllegalArgumentException" "java/lang/IllegalArgumentException") (List.mem_of_getElem? (i := 72) rfl))) hcell hv9 hcl ?_
      refine lv_astore (lv' := [(5, .ref q9), (0, .ref (q 0)), (1, .int a1), (2, .int a2), (3, .int a3), (4, .ref (q 23))]) hx hb dL_collected_19 hl (by decide) rfl (fun ls hl => ?_)
      refine lv_iconst (v := 2) hx hb dL_collected_21 (by decide) ?_
      exact W.iret hx hb hr (fun t2 ht2 _ => ⟨⟨2, g, rfl, ⟨by rw [h9]; rfl, fun h0 => absurd h0 hne⟩, by show va_P D vwCl _ t2.heap; rw [ht2]; exact hPj⟩, hS1.F ht2⟩) hS1.2.2 dL_collected_22 hlocks
  · intro r u2 t H1 locs1 ht _ hw hB hz hk1 hS1
    rw [ht] at hB
    have hPj := wCo_of (g := g) (u := u2) hB (wCo_k hPo hk1 hq)
    refine W.widen (k := 3) (n := 18) (by omega) (by omega) ?_
    refine lv_i2l (v := r.toInt64) hx hb dL_collected_10 rfl ?_
    refine va_last hx hb hKL hPj (wCo_D hq) hS1 23 0 rfl rfl (vp_in_nI (n := 0) (by decide) (by decide)) dL_collected_11 (fun H2 locs2 hP2 _ hS2 => ?_)
    have hP2 : va_P D vwCl (wCo cI cO cL q u2 (vp_updL g (0 : Int32).toNatClampNeg r.toInt64)) H2 := hP2
    refine lv_goto (tgt := 23) hx hb dL_collected_12 (by decide) ?_
    refine lv_iconst (v := 0) hx hb dL_collected_23 (by decide) ?_
    exact W.iret hx hb hr (fun t2 ht2 _ => ⟨⟨0, vp_updL g (0 : Int32).toNatClampNeg r.toInt64, rfl, ⟨by rw [← hw]; rfl, fun _ => by rw [← hw]; exact if_pos rfl⟩, by show va_P D vwCl _ t2.heap; rw [ht2, ← hw]; exact hP2⟩, hS2.F ht2⟩) hS2.2.2 dL_collected_24 hlocks
theorem cd_filled (u : bU) (a1 : Int32) (a2 : Int32) : (F5_filled u a1 a2).1 = 0 ∨ (F5_filled u a1 a2).1 = 1 ∨ (F5_filled u a1 a2).1 = 2 := by
  unfold F5_filled
  (repeat' split) <;> first | with_reducible exact Or.inl rfl | (dsimp only; first | with_reducible exact (n_arg _).elim Or.inl (fun h => Or.inr (Or.inr (h))) | with_reducible exact (n_rng _ _ _).elim Or.inl (fun h => Or.inr (Or.inr (h))) | with_reducible exact (n_kd _).elim Or.inl (fun h => Or.inr (Or.inr (h))) | with_reducible exact (n_set _).elim Or.inl (fun h => Or.inr (Or.inl h)) | with_reducible exact (n_br _ _).elim Or.inl (fun h => Or.inr (Or.inl h)) | with_reducible exact (n_sh _ _).elim Or.inl (fun h => Or.inr (Or.inl h)))
set_option maxHeartbeats 4000000 in
set_option maxRecDepth 100000 in
theorem CL_filled (l : Launch) (D : va_G) (cI cO cL : ClassId) (q : Nat → Nat) (u : bU) (g : Nat → Int64) (H0 : Heap) (hq : bInj 24 q) (hl9 : l.stackTraces = false) (hP : va_P D vwCl (wCo cI cO cL q u g) H0) (a1 : Int32) (a2 : Int32) : Met l yL_filled wsL_filled ({ frames := 9, cells := 2, slots := 12, locals := 146 }) (bPL D cI cO cL (bA 24 q H0.size) H0 [.ref (q 0), .int a1, .int a2, .ref (q 23)]) (bLi D cI cO cL q (bA 24 q H0.size) id (F5_filled u a1 a2)) 2 12 (bA 24 q H0.size) := by
  refine Met.ofWH (cc := cL_filled) (maxL := 5) (ret := (some .int)) (hh := [(0, 10, 13, 27), (0, 10, 17, 13)]) (by decide) rfl ?_
  intro p e s m args below meth c s₁ B hml hv
  obtain ⟨rfl, hH, hk, hX, hKL, hNC⟩ := hv
  subst hH
  have hx := B.exec
  have hb := B.bytes
  have hr := B.returns
  have hts := atoms_spec (ws := wsL_filled) B.pre
  have hown : s.vm.findClass RL = some m.cls := findClass_of_methodNamed B.named
  have hlocks := B.notSynchronized
  have htab : c.exceptionTable.toList = tableOf [(0, 10, 13, 27), (0, 10, 17, 13)] := vx_table (x := yL_filled) B (hts _ List.mem_cons_self)
  have hS : va_S (bA 24 q s.heap.size) s.heap s.heap [] := va_S.rf
  have hl := lv_entry ([.ref (q 0), .int a1, .int a2, .ref (q 23)]) (n := 5) (Nat.le_of_ble_eq_true rfl)
  rw [lg_entry_eq]
  generalize (lg_sl ([.ref (q 0), .int a1, .int a2, .ref (q 23)]) ++ List.replicate (5 - (lg_sl ([.ref (q 0), .int a1, .int a2, .ref (q 23)])).length) Slot.unset).toArray = ls at hl ⊢
  have hl : lv_has ls 5 [(0, .ref (q 0)), (1, .int a1), (2, .int a2), (3, .ref (q 23))] := hl
  have hPC := wCo_C hP
  have hPo := wCo_o hP
  have hq23 := bInj_23 hq
  refine lv_aload_n hx hb dL_filled_0 rfl (lv_at hl 3 rfl) ?_
  refine lv_iconst (v := 0) hx hb dL_filled_1 (by decide) ?_
  refine lv_aload_n hx hb dL_filled_2 rfl (lv_at hl 0 rfl) ?_
  refine lv_iload_n hx hb dL_filled_3 rfl (lv_at hl 1 rfl) ?_
  refine lv_iload_n hx hb dL_filled_4 rfl (lv_at hl 2 rfl) ?_
  refine vx_calli (vx_runV (As := [.int a1, .int a2]) (rest := [.int 0, .ref (q 23)]) ⟨hx, hb, hml, hown, hts⟩ (C5_filled l D cI cO q u _ hq23 hl9 hPC a1 a2) (cwV 2 hts gL_filled_X5_filled rfl rfl rfl ⟨rfl, bd_X5filled⟩ ⟨Nat.le_of_ble_eq_true rfl, Nat.le_of_ble_eq_true rfl⟩) (bPVX hk hX hS (bA_34 (Nat.le_refl _)) (va_recv hk.1 hPC (ci := 5) (q0 := 0) rfl (wC_0 _ _ _ _))) rfl rfl hl.1 rfl (lv_room (Nat.le_of_ble_eq_true rfl)) dL_filled_5 ⟨Nat.le_of_ble_eq_true rfl, Nat.le_of_ble_eq_true rfl⟩) hS (fun x _ h => bA_34 (Nat.le_refl _) x h) (fun x h => bA_34 (Nat.le_refl _) x h) (fun x _ h => bA_34 (Nat.le_refl _) x h) ?_ ?_
  · intro E ce q9 u9 t H1 locs1 ht _ hne hB hz hk1 hS1 hcell hv9 hcl
    obtain ⟨hE, hPx⟩ := hB
    rw [ht] at hPx
    have hPj := wCo_of (g := g) (u := (F5_filled u a1 a2).2.2) hPx (wCo_k hPo hk1 hq)
    refine vx_widen (k := 2) (n := 12) (by omega) (by omega) ?_
    rcases cd_filled u a1 a2 with h9 | h9 | h9
    · exact absurd h9 hne
    · rw [h9] at hE
      obtain rfl : E = "java/lang/IndexOutOfBoundsException" := hE.trans (by decide +kernel)
      refine vx_catch (own := RL) (name := "java/lang/IndexOutOfBoundsException") hown [] ⟨0, 10, 13, 27⟩ [⟨0, 10, 17, 13⟩] (by rw [htab]; rfl) (fun z hz => by cases hz) (by decide) (by decide) (hts (.classLink RL 27 "java/lang/IndexOutOfBoundsException") (List.mem_of_getElem? (i := 1) rfl)) (va_Nw.use rfl (hk.2 (.castable "java/lang/IndexOutOfBoundsException" "java/lang/IndexOutOfBoundsException") (List.mem_of_getElem? (i := 71) rfl))) hcell hv9 hcl ?_
      refine lv_astore (lv' := [(4, .ref q9), (0, .ref (q 0)), (1, .int a1), (2, .int a2), (3, .ref (q 23))]) hx hb dL_filled_13 hl (by decide) rfl (fun ls hl => ?_)
      refine lv_iconst (v := 1) hx hb dL_filled_15 (by decide) ?_
      exact W.iret hx hb hr (fun t2 ht2 _ => ⟨⟨1, g, rfl, ⟨by rw [h9]; rfl, fun h0 => absurd h0 hne⟩, by show va_P D vwCl _ t2.heap; rw [ht2]; exact hPj⟩, hS1.F ht2⟩) hS1.2.2 dL_filled_16 hlocks
    · rw [h9] at hE
      obtain rfl : E = "java/lang/IllegalArgumentException" := hE.trans (by decide +kernel)
      refine vx_catch (own := RL) (name := "java/lang/IllegalArgumentException") hown [⟨0, 10, 13, 27⟩] ⟨0, 10, 17, 13⟩ [] (by rw [htab]; rfl) (fun z hz => by rcases List.mem_cons.mp hz with rfl | hz; exact Or.inr ⟨(by decide), "java/lang/IndexOutOfBoundsException", (hts (.classLink RL 27 "java/lang/IndexOutOfBoundsException") (List.mem_of_getElem? (i := 1) rfl)), hNC.1⟩; cases hz) (by decide) (by decide) (hts (.classLink RL 13 "java/lang/IllegalArgumentException") (List.mem_of_getElem? (i := 2) rfl)) (va_Nw.use rfl (hk.2 (.castable "java/lang/IllegalArgumentException" "java/lang/IllegalArgumentException") (List.mem_of_getElem? (i := 72) rfl))) hcell hv9 hcl ?_
      refine lv_astore (lv' := [(4, .ref q9), (0, .ref (q 0)), (1, .int a1), (2, .int a2), (3, .ref (q 23))]) hx hb dL_filled_17 hl (by decide) rfl (fun ls hl => ?_)
      refine lv_iconst (v := 2) hx hb dL_filled_19 (by decide) ?_
      exact W.iret hx hb hr (fun t2 ht2 _ => ⟨⟨2, g, rfl, ⟨by rw [h9]; rfl, fun h0 => absurd h0 hne⟩, by show va_P D vwCl _ t2.heap; rw [ht2]; exact hPj⟩, hS1.F ht2⟩) hS1.2.2 dL_filled_20 hlocks
  · intro r u2 t H1 locs1 ht _ hw hB hz hk1 hS1
    rw [ht] at hB
    have hPj := wCo_of (g := g) (u := u2) hB (wCo_k hPo hk1 hq)
    refine W.widen (k := 2) (n := 12) (by omega) (by omega) ?_
    refine lv_i2l (v := r.toInt64) hx hb dL_filled_8 rfl ?_
    refine va_last hx hb hKL hPj (wCo_D hq) hS1 23 0 rfl rfl (vp_in_nI (n := 0) (by decide) (by decide)) dL_filled_9 (fun H2 locs2 hP2 _ hS2 => ?_)
    have hP2 : va_P D vwCl (wCo cI cO cL q u2 (vp_updL g (0 : Int32).toNatClampNeg r.toInt64)) H2 := hP2
    refine lv_goto (tgt := 21) hx hb dL_filled_10 (by decide) ?_
    refine lv_iconst (v := 0) hx hb dL_filled_21 (by decide) ?_
    exact W.iret hx hb hr (fun t2 ht2 _ => ⟨⟨0, vp_updL g (0 : Int32).toNatClampNeg r.toInt64, rfl, ⟨by rw [← hw]; rfl, fun _ => by rw [← hw]; exact if_pos rfl⟩, by show va_P D vwCl _ t2.heap; rw [ht2, ← hw]; exact hP2⟩, hS2.F ht2⟩) hS2.2.2 dL_filled_22 hlocks
theorem cd_bestShop (u : bU) (a1 : Int32) : (F5_bestShop u a1).1 = 0 ∨ (F5_bestShop u a1).1 = 2 := by
  unfold F5_bestShop
  (repeat' split) <;> first | with_reducible exact Or.inl rfl | (dsimp only; first | with_reducible exact (n_arg _).elim Or.inl (fun h => Or.inr (h)) | with_reducible exact (n_rng _ _ _).elim Or.inl (fun h => Or.inr (h)) | with_reducible exact (n_kd _).elim Or.inl (fun h => Or.inr (h)))
set_option maxHeartbeats 4000000 in
set_option maxRecDepth 100000 in
theorem CL_bestShop (l : Launch) (D : va_G) (cI cO cL : ClassId) (q : Nat → Nat) (u : bU) (g : Nat → Int64) (H0 : Heap) (hq : bInj 24 q) (hl9 : l.stackTraces = false) (hP : va_P D vwCl (wCo cI cO cL q u g) H0) (a1 : Int32) : Met l yL_bestShop wsL_bestShop ({ frames := 10, cells := 1, slots := 6, locals := 165 }) (bPL D cI cO cL (bA 24 q H0.size) H0 [.ref (q 0), .int a1, .ref (q 23)]) (bLi D cI cO cL q (bA 24 q H0.size) cdC (F5_bestShop u a1)) 1 6 (bA 24 q H0.size) := by
  refine Met.ofWH (cc := cL_bestShop) (maxL := 4) (ret := (some .int)) (hh := [(0, 9, 12, 13)]) (by decide) rfl ?_
  intro p e s m args below meth c s₁ B hml hv
  obtain ⟨rfl, hH, hk, hX, hKL, hNC⟩ := hv
  subst hH
  have hx := B.exec
  have hb := B.bytes
  have hr := B.returns
  have hts := atoms_spec (ws := wsL_bestShop) B.pre
  have hown : s.vm.findClass RL = some m.cls := findClass_of_methodNamed B.named
  have hlocks := B.notSynchronized
  have htab : c.exceptionTable.toList = tableOf [(0, 9, 12, 13)] := vx_table (x := yL_bestShop) B (hts _ List.mem_cons_self)
  have hS : va_S (bA 24 q s.heap.size) s.heap s.heap [] := va_S.rf
  have hl := lv_entry ([.ref (q 0), .int a1, .ref (q 23)]) (n := 4) (Nat.le_of_ble_eq_true rfl)
  rw [lg_entry_eq]
  generalize (lg_sl ([.ref (q 0), .int a1, .ref (q 23)]) ++ List.replicate (4 - (lg_sl ([.ref (q 0), .int a1, .ref (q 23)])).length) Slot.unset).toArray = ls at hl ⊢
  have hl : lv_has ls 4 [(0, .ref (q 0)), (1, .int a1), (2, .ref (q 23))] := hl
  have hPC := wCo_C hP
  have hPo := wCo_o hP
  have hq23 := bInj_23 hq
  refine lv_aload_n hx hb dL_bestShop_0 rfl (lv_at hl 2 rfl) ?_
  refine lv_iconst (v := 0) hx hb dL_bestShop_1 (by decide) ?_
  refine lv_aload_n hx hb dL_bestShop_2 rfl (lv_at hl 0 rfl) ?_
  refine lv_iload_n hx hb dL_bestShop_3 rfl (lv_at hl 1 rfl) ?_
  refine vx_calli (vx_runV (As := [.int a1]) (rest := [.int 0, .ref (q 23)]) ⟨hx, hb, hml, hown, hts⟩ (C5_bestShop l D cI cO q u _ hq23 hl9 hPC a1) (cwV 1 hts gL_bestShop_X5_bestShop rfl rfl rfl ⟨rfl, bd_X5bestShop⟩ ⟨Nat.le_of_ble_eq_true rfl, Nat.le_of_ble_eq_true rfl⟩) (bPVX hk hX hS (bA_34 (Nat.le_refl _)) (va_recv hk.1 hPC (ci := 5) (q0 := 0) rfl (wC_0 _ _ _ _))) rfl rfl hl.1 rfl (lv_room (Nat.le_of_ble_eq_true rfl)) dL_bestShop_4 ⟨Nat.le_of_ble_eq_true rfl, Nat.le_of_ble_eq_true rfl⟩) hS (fun x _ h => bA_34 (Nat.le_refl _) x h) (fun x h => bA_34 (Nat.le_refl _) x h) (fun x _ h => bA_34 (Nat.le_refl _) x h) ?_ ?_
  · intro E ce q9 u9 t H1 locs1 ht _ hne hB hz hk1 hS1 hcell hv9 hcl
    obtain ⟨hE, hPx⟩ := hB
    rw [ht] at hPx
    have hPj := wCo_of (g := g) (u := (F5_bestShop u a1).2.2) hPx (wCo_k hPo hk1 hq)
    refine vx_widen (k := 1) (n := 6) (by omega) (by omega) ?_
    rcases cd_bestShop u a1 with h9 | h9
    · exact absurd h9 hne
    · rw [h9] at hE
      obtain rfl : E = "java/lang/IllegalArgumentException" := hE.trans (by decide +kernel)
      refine vx_catch (own := RL) (name := "java/lang/IllegalArgumentException") hown [] ⟨0, 9, 12, 13⟩ [] (by rw [htab]; rfl) (fun z hz => by cases hz) (by decide) (by decide) (hts (.classLink RL 13 "java/lang/IllegalArgumentException") (List.mem_of_getElem? (i := 1) rfl)) (va_Nw.use rfl (hk.2 (.castable "java/lang/IllegalArgumentException" "java/lang/IllegalArgumentException") (List.mem_of_getElem? (i := 72) rfl))) hcell hv9 hcl ?_
      refine lv_astore_n (lv' := [(3, .ref q9), (0, .ref (q 0)), (1, .int a1), (2, .ref (q 23))]) hx hb dL_bestShop_12 rfl hl (by decide) rfl (fun ls hl => ?_)
      refine lv_iconst (v := 1) hx hb dL_bestShop_13 (by decide) ?_
      exact W.iret hx hb hr (fun t2 ht2 _ => ⟨⟨1, g, rfl, ⟨by rw [h9]; rfl, fun h0 => absurd h0 hne⟩, by show va_P D vwCl _ t2.heap; rw [ht2]; exact hPj⟩, hS1.F ht2⟩) hS1.2.2 dL_bestShop_14 hlocks
  · intro r u2 t H1 locs1 ht _ hw hB hz hk1 hS1
    rw [ht] at hB
    have hPj := wCo_of (g := g) (u := u2) hB (wCo_k hPo hk1 hq)
    refine W.widen (k := 1) (n := 6) (by omega) (by omega) ?_
    refine lv_i2l (v := r.toInt64) hx hb dL_bestShop_7 rfl ?_
    refine va_last hx hb hKL hPj (wCo_D hq) hS1 23 0 rfl rfl (vp_in_nI (n := 0) (by decide) (by decide)) dL_bestShop_8 (fun H2 locs2 hP2 _ hS2 => ?_)
    have hP2 : va_P D vwCl (wCo cI cO cL q u2 (vp_updL g (0 : Int32).toNatClampNeg r.toInt64)) H2 := hP2
    refine lv_goto (tgt := 15) hx hb dL_bestShop_9 (by decide) ?_
    refine lv_iconst (v := 0) hx hb dL_bestShop_15 (by decide) ?_
    exact W.iret hx hb hr (fun t2 ht2 _ => ⟨⟨0, vp_updL g (0 : Int32).toNatClampNeg r.toInt64, rfl, ⟨by rw [← hw]; rfl, fun _ => by rw [← hw]; exact if_pos rfl⟩, by show va_P D vwCl _ t2.heap; rw [ht2, ← hw]; exact hP2⟩, hS2.F ht2⟩) hS2.2.2 dL_bestShop_16 hlocks

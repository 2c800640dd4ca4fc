-- wrappers, on (by program)
theorem bd_X5run : yX5_run.cls ≠ "java/lang/invoke/MethodHandle" ∧ yX5_run.cls ≠ "java/lang/invoke/VarHandle" ∧ (parseMethodDescriptor yX5_run.desc).map (fun d => d.parameters.length) = some 0 := by decide +kernel
theorem bd_X5undo : yX5_undo.cls ≠ "java/lang/invoke/MethodHandle" ∧ yX5_undo.cls ≠ "java/lang/invoke/VarHandle" ∧ (parseMethodDescriptor yX5_undo.desc).map (fun d => d.parameters.length) = some 0 := by decide +kernel
theorem bd_X5brand : yX5_brand.cls ≠ "java/lang/invoke/MethodHandle" ∧ yX5_brand.cls ≠ "java/lang/invoke/VarHandle" ∧ (parseMethodDescriptor yX5_brand.desc).map (fun d => d.parameters.length) = some 2 := by decide +kernel
theorem bd_X5shop : yX5_shop.cls ≠ "java/lang/invoke/MethodHandle" ∧ yX5_shop.cls ≠ "java/lang/invoke/VarHandle" ∧ (parseMethodDescriptor yX5_shop.desc).map (fun d => d.parameters.length) = some 2 := by decide +kernel
theorem bd_X5setting : yX5_setting.cls ≠ "java/lang/invoke/MethodHandle" ∧ yX5_setting.cls ≠ "java/lang/invoke/VarHandle" ∧ (parseMethodDescriptor yX5_setting.desc).map (fun d => d.parameters.length) = some 1 := by decide +kernel
theorem cd_run (u : bU) : (F5_run u).1 = 0 ∨ (F5_run u).1 = 2 := by
  unfold F5_run
  (repeat' split) <;> first | with_reducible exact Or.inl rfl | (dsimp only; first | with_reducible exact (n_arg _).elim Or.inl (fun h => Or.inr (h)) | with_reducible exact (n_rng _ _ _).elim Or.inl (fun h => Or.inr (h)) | with_reducible exact (n_kd _).elim Or.inl (fun h => Or.inr (h)))
set_option maxHeartbeats 4000000 in
set_option maxRecDepth 100000 in
theorem CL_run (l : Launch) (D : va_G) (cI cO cL : ClassId) (q : Nat → Nat) (u : bU) (g : Nat → Int64) (H0 : Heap) (hq : bInj 24 q) (hl9 : l.stackTraces = false) (hP : va_P D vwCl (wCo cI cO cL q u g) H0) (hlat : bLat u) (hlen : (u 11 2).toNatClampNeg ≤ 60) : Met l yL_run wsL_run ({ frames := 8, cells := 1, slots := 6, locals := 264 }) (bPL D cI cO cL (bA 24 q H0.size) H0 [.ref (q 0), .ref (q 23)]) (bLi D cI cO cL q (bA 24 q H0.size) cdC (F5_run u)) 1 6 (bA 24 q H0.size) := by
  refine Met.ofWH (cc := cL_run) (maxL := 3) (ret := (some .int)) (hh := [(0, 8, 11, 13)]) (by decide) rfl ?_
  intro p e s m args below meth c s₁ B hml hv
  obtain ⟨rfl, hH, hk, hX, hKL, hNC⟩ := hv
  subst hH
  have hx := B.exec
  have hb := B.bytes
  have hr := B.returns
  have hts := atoms_spec (ws := wsL_run) B.pre
  have hown : s.vm.findClass RL = some m.cls := findClass_of_methodNamed B.named
  have hlocks := B.notSynchronized
  have htab : c.exceptionTable.toList = tableOf [(0, 8, 11, 13)] := vx_table (x := yL_run) B (hts _ List.mem_cons_self)
  have hS : va_S (bA 24 q s.heap.size) s.heap s.heap [] := va_S.rf
  have hl := lv_entry ([.ref (q 0), .ref (q 23)]) (n := 3) (Nat.le_of_ble_eq_true rfl)
  rw [lg_entry_eq]
  generalize (lg_sl ([.ref (q 0), .ref (q 23)]) ++ List.replicate (3 - (lg_sl ([.ref (q 0), .ref (q 23)])).length) Slot.unset).toArray = ls at hl ⊢
  have hl : lv_has ls 3 [(0, .ref (q 0)), (1, .ref (q 23))] := hl
  have hPC := wCo_C hP
  have hPo := wCo_o hP
  have hq23 := bInj_23 hq
  refine lv_aload_n hx hb dL_run_0 rfl (lv_at hl 1 rfl) ?_
  refine lv_iconst (v := 0) hx hb dL_run_1 (by decide) ?_
  refine lv_aload_n hx hb dL_run_2 rfl (lv_at hl 0 rfl) ?_
  refine vx_calli (vx_runV (As := []) (rest := [.int 0, .ref (q 23)]) ⟨hx, hb, hml, hown, hts⟩ (C5_run l D cI cO q u _ hq23 hl9 hPC hlat hlen) (cwV 0 hts gL_run_X5_run rfl rfl rfl ⟨rfl, bd_X5run⟩ ⟨Nat.le_of_ble_eq_true rfl, Nat.le_of_ble_eq_true rfl⟩) (bPVX hk hX hS (bA_34 (Nat.le_refl _)) (va_recv hk.1 hPC (ci := 5) (q0 := 0) rfl (wC_0 _ _ _ _))) rfl rfl hl.1 rfl (lv_room (Nat.le_of_ble_eq_true rfl)) dL_run_3 ⟨Nat.le_of_ble_eq_true rfl, Nat.le_of_ble_eq_true rfl⟩) hS (fun x _ h => bA_34 (Nat.le_refl _) x h) (fun x h => bA_34 (Nat.le_refl _) x h) (fun x _ h => bA_34 (Nat.le_refl _) x h) ?_ ?_
  · intro E ce q9 u9 t H1 locs1 ht _ hne hB hz hk1 hS1 hcell hv9 hcl
    obtain ⟨hE, hPx⟩ := hB
    rw [ht] at hPx
    have hPj := wCo_of (g := g) (u := (F5_run u).2.2) hPx (wCo_k hPo hk1 hq)
    refine vx_widen (k := 1) (n := 6) (by omega) (by omega) ?_
    rcases cd_run u with h9 | h9
    · exact absurd h9 hne
    · rw [h9] at hE
      obtain rfl : E = "java/lang/IllegalArgumentException" := hE.trans (by decide +kernel)
      refine vx_catch (own := RL) (name := "java/lang/IllegalArgumentException") hown [] ⟨0, 8, 11, 13⟩ [] (by rw [htab]; rfl) (fun z hz => by cases hz) (by decide) (by decide) (hts (.classLink RL 13 "java/lang/IllegalArgumentException") (List.mem_of_getElem? (i := 1) rfl)) (va_Nw.use rfl (hk.2 (.castable "java/lang/IllegalArgumentException" "java/lang/IllegalArgumentException") (List.mem_of_getElem? (i := 72) rfl))) hcell hv9 hcl ?_
      refine lv_astore_n (lv' := [(2, .ref q9), (0, .ref (q 0)), (1, .ref (q 23))]) hx hb dL_run_11 rfl hl (by decide) rfl (fun ls hl => ?_)
      refine lv_iconst (v := 1) hx hb dL_run_12 (by decide) ?_
      exact W.iret hx hb hr (fun t2 ht2 _ => ⟨⟨1, g, rfl, ⟨by rw [h9]; rfl, fun h0 => absurd h0 hne⟩, by show va_P D vwCl _ t2.heap; rw [ht2]; exact hPj⟩, hS1.F ht2⟩) hS1.2.2 dL_run_13 hlocks
  · intro r u2 t H1 locs1 ht _ hw hB hz hk1 hS1
    rw [ht] at hB
    have hPj := wCo_of (g := g) (u := u2) hB (wCo_k hPo hk1 hq)
    refine W.widen (k := 1) (n := 6) (by omega) (by omega) ?_
    refine lv_i2l (v := r.toInt64) hx hb dL_run_6 rfl ?_
    refine va_last hx hb hKL hPj (wCo_D hq) hS1 23 0 rfl rfl (vp_in_nI (n := 0) (by decide) (by decide)) dL_run_7 (fun H2 locs2 hP2 _ hS2 => ?_)
    have hP2 : va_P D vwCl (wCo cI cO cL q u2 (vp_updL g (0 : Int32).toNatClampNeg r.toInt64)) H2 := hP2
    refine lv_goto (tgt := 14) hx hb dL_run_8 (by decide) ?_
    refine lv_iconst (v := 0) hx hb dL_run_14 (by decide) ?_
    exact W.iret hx hb hr (fun t2 ht2 _ => ⟨⟨0, vp_updL g (0 : Int32).toNatClampNeg r.toInt64, rfl, ⟨by rw [← hw]; rfl, fun _ => by rw [← hw]; exact if_pos rfl⟩, by show va_P D vwCl _ t2.heap; rw [ht2, ← hw]; exact hP2⟩, hS2.F ht2⟩) hS2.2.2 dL_run_15 hlocks
theorem cd_undo (u : bU) : (F5_undo u).1 = 0 ∨ (F5_undo u).1 = 3 := by
  unfold F5_undo
  (repeat' split) <;> first | with_reducible exact Or.inl rfl | (dsimp only; first | with_reducible exact (n_st _).elim Or.inl (fun h => Or.inr (h)))
set_option maxHeartbeats 4000000 in
set_option maxRecDepth 100000 in
theorem CL_undo (l : Launch) (D : va_G) (cI cO cL : ClassId) (q : Nat → Nat) (u : bU) (g : Nat → Int64) (H0 : Heap) (hq : bInj 24 q) (hl9 : l.stackTraces = false) (hP : va_P D vwCl (wCo cI cO cL q u g) H0) (hlat : bLat u) : Met l yL_undo wsL_undo ({ frames := 8, cells := 1, slots := 6, locals := 262 }) (bPL D cI cO cL (bA 24 q H0.size) H0 [.ref (q 0), .ref (q 23)]) (bLi D cI cO cL q (bA 24 q H0.size) cdU (F5_undo u)) 1 6 (bA 24 q H0.size) := by
  refine Met.ofWH (cc := cL_undo) (maxL := 3) (ret := (some .int)) (hh := [(0, 8, 11, 15)]) (by decide) rfl ?_
  intro p e s m args below meth c s₁ B hml hv
  obtain ⟨rfl, hH, hk, hX, hKL, hNC⟩ := hv
  subst hH
  have hx := B.exec
  have hb := B.bytes
  have hr := B.returns
  have hts := atoms_spec (ws := wsL_undo) B.pre
  have hown : s.vm.findClass RL = some m.cls := findClass_of_methodNamed B.named
  have hlocks := B.notSynchronized
  have htab : c.exceptionTable.toList = tableOf [(0, 8, 11, 15)] := vx_table (x := yL_undo) B (hts _ List.mem_cons_self)
  have hS : va_S (bA 24 q s.heap.size) s.heap s.heap [] := va_S.rf
  have hl := lv_entry ([.ref (q 0), .ref (q 23)]) (n := 3) (Nat.le_of_ble_eq_true rfl)
  rw [lg_entry_eq]
  generalize (lg_sl ([.ref (q 0), .ref (q 23)]) ++ List.replicate (3 - (lg_sl ([.ref (q 0), .ref (q 23)])).length) Slot.unset).toArray = ls at hl ⊢
  have hl : lv_has ls 3 [(0, .ref (q 0)), (1, .ref (q 23))] := hl
  have hPC := wCo_C hP
  have hPo := wCo_o hP
  have hq23 := bInj_23 hq
  refine lv_aload_n hx hb dL_undo_0 rfl (lv_at hl 1 rfl) ?_
  refine lv_iconst (v := 0) hx hb dL_undo_1 (by decide) ?_
  refine lv_aload_n hx hb dL_undo_2 rfl (lv_at hl 0 rfl) ?_
  refine vx_calli (vx_runV (As := []) (rest := [.int 0, .ref (q 23)]) ⟨hx, hb, hml, hown, hts⟩ (C5_undo l D cI cO q u _ hq23 hl9 hPC hlat) (cwV 0 hts gL_undo_X5_undo rfl rfl rfl ⟨rfl, bd_X5undo⟩ ⟨Nat.le_of_ble_eq_true rfl, Nat.le_of_ble_eq_true rfl⟩) (bPVX hk hX hS (bA_34 (Nat.le_refl _)) (va_recv hk.1 hPC (ci := 5) (q0 := 0) rfl (wC_0 _ _ _ _))) rfl rfl hl.1 rfl (lv_room (Nat.le_of_ble_eq_true rfl)) dL_undo_3 ⟨Nat.le_of_ble_eq_true rfl, Nat.le_of_ble_eq_true rfl⟩) hS (fun x _ h => bA_34 (Nat.le_refl _) x h) (fun x h => bA_34 (Nat.le_refl _) x h) (fun x _ h => bA_34 (Nat.le_refl _) x h) ?_ ?_
  · intro E ce q9 u9 t H1 locs1 ht _ hne hB hz hk1 hS1 hcell hv9 hcl
    obtain ⟨hE, hPx⟩ := hB
    rw [ht] at hPx
    have hPj := wCo_of (g := g) (u := (F5_undo u).2.2) hPx (wCo_k hPo hk1 hq)
    refine vx_widen (k := 1) (n := 6) (by omega) (by omega) ?_
    rcases cd_undo u with h9 | h9
    · exact absurd h9 hne
    · rw [h9] at hE
      obtain rfl : E = "java/lang/IllegalStateException" := hE.trans (by decide +kernel)
      refine vx_catch (own := RL) (name := "java/lang/IllegalStateException") hown [] ⟨0, 8, 11, 15⟩ [] (by rw [htab]; rfl) (fun z hz => by cases hz) (by decide) (by decide) (hts (.classLink RL 15 "java/lang/IllegalStateException") (List.mem_of_getElem? (i := 1) rfl)) (va_Nw.use rfl (hk.2 (.castable "java/lang/IllegalStateException" "java/lang/IllegalStateException") (List.mem_of_getElem? (i := 73) rfl))) hcell hv9 hcl ?_
      refine lv_astore_n (lv' := [(2, .ref q9), (0, .ref (q 0)), (1, .ref (q 23))]) hx hb dL_undo_11 rfl hl (by decide) rfl (fun ls hl => ?_)
      refine lv_iconst (v := 1) hx hb dL_undo_12 (by decide) ?_
      exact W.iret hx hb hr (fun t2 ht2 _ => ⟨⟨1, g, rfl, ⟨by rw [h9]; rfl, fun h0 => absurd h0 hne⟩, by show va_P D vwCl _ t2.heap; rw [ht2]; exact hPj⟩, hS1.F ht2⟩) hS1.2.2 dL_undo_13 hlocks
  · intro r u2 t H1 locs1 ht _ hw hB hz hk1 hS1
    rw [ht] at hB
    have hPj := wCo_of (g := g) (u := u2) hB (wCo_k hPo hk1 hq)
    refine W.widen (k := 1) (n := 6) (by omega) (by omega) ?_
    refine lv_i2l (v := r.toInt64) hx hb dL_undo_6 rfl ?_
    refine va_last hx hb hKL hPj (wCo_D hq) hS1 23 0 rfl rfl (vp_in_nI (n := 0) (by decide) (by decide)) dL_undo_7 (fun H2 locs2 hP2 _ hS2 => ?_)
    have hP2 : va_P D vwCl (wCo cI cO cL q u2 (vp_updL g (0 : Int32).toNatClampNeg r.toInt64)) H2 := hP2
    refine lv_goto (tgt := 14) hx hb dL_undo_8 (by decide) ?_
    refine lv_iconst (v := 0) hx hb dL_undo_14 (by decide) ?_
    exact W.iret hx hb hr (fun t2 ht2 _ => ⟨⟨0, vp_updL g (0 : Int32).toNatClampNeg r.toInt64, rfl, ⟨by rw [← hw]; rfl, fun _ => by rw [← hw]; exact if_pos rfl⟩, by show va_P D vwCl _ t2.heap; rw [ht2, ← hw]; exact hP2⟩, hS2.F ht2⟩) hS2.2.2 dL_undo_15 hlocks
theorem cd_brand (u : bU) (a1 : Int32) (a2 : Int32) : (F5_brand u a1 a2).1 = 0 ∨ (F5_brand u a1 a2).1 = 1 ∨ (F5_brand u a1 a2).1 = 2 := by
  unfold F5_brand
  (repeat' split) <;> first | with_reducible exact Or.inl rfl | (dsimp only; first | with_reducible exact (n_arg _).elim Or.inl (fun h => Or.inr (Or.inr (h))) | with_reducible exact (n_rng _ _ _).elim Or.inl (fun h => Or.inr (Or.inr (h))) | with_reducible exact (n_kd _).elim Or.inl (fun h => Or.inr (Or.inr (h))) | with_reducible exact (n_set _).elim Or.inl (fun h => Or.inr (Or.inl h)) | with_reducible exact (n_br _ _).elim Or.inl (fun h => Or.inr (Or.inl h)) | with_reducible exact (n_sh _ _).elim Or.inl (fun h => Or.inr (Or.inl h)))
set_option maxHeartbeats 4000000 in
set_option maxRecDepth 100000 in
theorem CL_brand (l : Launch) (D : va_G) (cI cO cL : ClassId) (q : Nat → Nat) (u : bU) (g : Nat → Int64) (H0 : Heap) (hq : bInj 24 q) (hl9 : l.stackTraces = false) (hP : va_P D vwCl (wCo cI cO cL q u g) H0) (a1 : Int32) (a2 : Int32) : Met l yL_brand wsL_brand ({ frames := 9, cells := 2, slots := 12, locals := 146 }) (bPL D cI cO cL (bA 24 q H0.size) H0 [.ref (q 0), .int a1, .int a2, .ref (q 23)]) (bLi D cI cO cL q (bA 24 q H0.size) id (F5_brand u a1 a2)) 2 12 (bA 24 q H0.size) := by
  refine Met.ofWH (cc := cL_brand) (maxL := 5) (ret := (some .int)) (hh := [(0, 10, 13, 27), (0, 10, 17, 13)]) (by decide) rfl ?_
  intro p e s m args below meth c s₁ B hml hv
  obtain ⟨rfl, hH, hk, hX, hKL, hNC⟩ := hv
  subst hH
  have hx := B.exec
  have hb := B.bytes
  have hr := B.returns
  have hts := atoms_spec (ws := wsL_brand) B.pre
  have hown : s.vm.findClass RL = some m.cls := findClass_of_methodNamed B.named
  have hlocks := B.notSynchronized
  have htab : c.exceptionTable.toList = tableOf [(0, 10, 13, 27), (0, 10, 17, 13)] := vx_table (x := yL_brand) B (hts _ List.mem_cons_self)
  have hS : va_S (bA 24 q s.heap.size) s.heap s.heap [] := va_S.rf
  have hl := lv_entry ([.ref (q 0), .int a1, .int a2, .ref (q 23)]) (n := 5) (Nat.le_of_ble_eq_true rfl)
  rw [lg_entry_eq]
  generalize (lg_sl ([.ref (q 0), .int a1, .int a2, .ref (q 23)]) ++ List.replicate (5 - (lg_sl ([.ref (q 0), .int a1, .int a2, .ref (q 23)])).length) Slot.unset).toArray = ls at hl ⊢
  have hl : lv_has ls 5 [(0, .ref (q 0)), (1, .int a1), (2, .int a2), (3, .ref (q 23))] := hl
  have hPC := wCo_C hP
  have hPo := wCo_o hP
  have hq23 := bInj_23 hq
  refine lv_aload_n hx hb dL_brand_0 rfl (lv_at hl 3 rfl) ?_
  refine lv_iconst (v := 0) hx hb dL_brand_1 (by decide) ?_
  refine lv_aload_n hx hb dL_brand_2 rfl (lv_at hl 0 rfl) ?_
  refine lv_iload_n hx hb dL_brand_3 rfl (lv_at hl 1 rfl) ?_
  refine lv_iload_n hx hb dL_brand_4 rfl (lv_at hl 2 rfl) ?_
  refine vx_calli (vx_runV (As := [.int a1, .int a2]) (rest := [.int 0, .ref (q 23)]) ⟨hx, hb, hml, hown, hts⟩ (C5_brand l D cI cO q u _ hq23 hl9 hPC a1 a2) (cwV 2 hts gL_brand_X5_brand rfl rfl rfl ⟨rfl, bd_X5brand⟩ ⟨Nat.le_of_ble_eq_true rfl, Nat.le_of_ble_eq_true rfl⟩) (bPVX hk hX hS (bA_34 (Nat.le_refl _)) (va_recv hk.1 hPC (ci := 5) (q0 := 0) rfl (wC_0 _ _ _ _))) rfl rfl hl.1 rfl (lv_room (Nat.le_of_ble_eq_true rfl)) dL_brand_5 ⟨Nat.le_of_ble_eq_true rfl, Nat.le_of_ble_eq_true rfl⟩) hS (fun x _ h => bA_34 (Nat.le_refl _) x h) (fun x h => bA_34 (Nat.le_refl _) x h) (fun x _ h => bA_34 (Nat.le_refl _) x h) ?_ ?_
  · intro E ce q9 u9 t H1 locs1 ht _ hne hB hz hk1 hS1 hcell hv9 hcl
    obtain ⟨hE, hPx⟩ := hB
    rw [ht] at hPx
    have hPj := wCo_of (g := g) (u := (F5_brand u a1 a2).2.2) hPx (wCo_k hPo hk1 hq)
    refine vx_widen (k := 2) (n := 12) (by omega) (by omega) ?_
    rcases cd_brand u a1 a2 with h9 | h9 | h9
    · exact absurd h9 hne
    · rw [h9] at hE
      obtain rfl : E = "java/lang/IndexOutOfBoundsException" := hE.trans (by decide +kernel)
      refine vx_catch (own := RL) (name := "java/lang/IndexOutOfBoundsException") hown [] ⟨0, 10, 13, 27⟩ [⟨0, 10, 17, 13⟩] (by rw [htab]; rfl) (fun z hz => by cases hz) (by decide) (by decide) (hts (.classLink RL 27 "java/lang/IndexOutOfBoundsException") (List.mem_of_getElem? (i := 1) rfl)) (va_Nw.use rfl (hk.2 (.castable "java/lang/IndexOutOfBoundsException" "java/lang/IndexOutOfBoundsException") (List.mem_of_getElem? (i := 71) rfl))) hcell hv9 hcl ?_
      refine lv_astore (lv' := [(4, .ref q9), (0, .ref (q 0)), (1, .int a1), (2, .int a2), (3, .ref (q 23))]) hx hb dL_brand_13 hl (by decide) rfl (fun ls hl => ?_)
      refine lv_iconst (v := 1) hx hb dL_brand_15 (by decide) ?_
      exact W.iret hx hb hr (fun t2 ht2 _ => ⟨⟨1, g, rfl, ⟨by rw [h9]; rfl, fun h0 => absurd h0 hne⟩, by show va_P D vwCl _ t2.heap; rw [ht2]; exact hPj⟩, hS1.F ht2⟩) hS1.2.2 dL_brand_16 hlocks
    · rw [h9] at hE
      obtain rfl : E = "java/lang/IllegalArgumentException" := hE.trans (by decide +kernel)
      refine vx_catch (own := RL) (name := "java/lang/IllegalArgumentException") hown [⟨0, 10, 13, 27⟩] ⟨0, 10, 17, 13⟩ [] (by rw [htab]; rfl) (fun z hz => by rcases List.mem_cons.mp hz with rfl | hz; exact Or.inr ⟨(by decide), "java/lang/IndexOutOfBoundsException", (hts (.classLink RL 27 "java/lang/IndexOutOfBoundsException") (List.mem_of_getElem? (i := 1) rfl)), hNC.1⟩; cases hz) (by decide) (by decide) (hts (.classLink RL 13 "java/lang/IllegalArgumentException") (List.mem_of_getElem? (i := 2) rfl)) (va_Nw.use rfl (hk.2 (.castable "java/lang/IllegalArgumentException" "java/lang/IllegalArgumentException") (List.mem_of_getElem? (i := 72) rfl))) hcell hv9 hcl ?_
      refine lv_astore (lv' := [(4, .ref q9), (0, .ref (q 0)), (1, .int a1), (2, .int a2), (3, .ref (q 23))]) hx hb dL_brand_17 hl (by decide) rfl (fun ls hl => ?_)
      refine lv_iconst (v := 2) hx hb dL_brand_19 (by decide) ?_
      exact W.iret hx hb hr (fun t2 ht2 _ => ⟨⟨2, g, rfl, ⟨by rw [h9]; rfl, fun h0 => absurd h0 hne⟩, by show va_P D vwCl _ t2.heap; rw [ht2]; exact hPj⟩, hS1.F ht2⟩) hS1.2.2 dL_brand_20 hlocks
  · intro r u2 t H1 locs1 ht _ hw hB hz hk1 hS1
    rw [ht] at hB
    have hPj := wCo_of (g := g) (u := u2) hB (wCo_k hPo hk1 hq)
    refine W.widen (k := 2) (n := 12) (by omega) (by omega) ?_
    refine lv_i2l (v := r.toInt64) hx hb dL_brand_8 rfl ?_
    refine va_last hx hb hKL hPj (wCo_D hq) hS1 23 0 rfl rfl (vp_in_nI (n := 0) (by decide) (by decide)) dL_brand_9 (fun H2 locs2 hP2 _ hS2 => ?_)
    have hP2 : va_P D vwCl (wCo cI cO cL q u2 (vp_updL g (0 : Int32).toNatClampNeg r.toInt64)) H2 := hP2
    refine lv_goto (tgt := 21) hx hb dL_brand_10 (by decide) ?_
    refine lv_iconst (v := 0) hx hb dL_brand_21 (by decide) ?_
    exact W.iret hx hb hr (fun t2 ht2 _ => ⟨⟨0, vp_updL g (0 : Int32).toNatClampNeg r.toInt64, rfl, ⟨by rw [← hw]; rfl, fun _ => by rw [← hw]; exact if_pos rfl⟩, by show va_P D vwCl _ t2.heap; rw [ht2, ← hw]; exact hP2⟩, hS2.F ht2⟩) hS2.2.2 dL_brand_22 hlocks
theorem cd_shop (u : bU) (a1 : Int32) (a2 : Int32) : (F5_shop u a1 a2).1 = 0 ∨ (F5_shop u a1 a2).1 = 1 ∨ (F5_shop u a1 a2).1 = 2 := by
  unfold F5_shop
  (repeat' split) <;> first | with_reducible exact Or.inl rfl | (dsimp only; first | with_reducible exact (n_arg _).elim Or.inl (fun h => Or.inr (Or.inr (h))) | with_reducible exact (n_rng _ _ _).elim Or.inl (fun h => Or.inr (Or.inr (h))) | with_reducible exact (n_kd _).elim Or.inl (fun h => Or.inr (Or.inr (h))) | with_reducible exact (n_set _).elim Or.inl (fun h => Or.inr (Or.inl h)) | with_reducible exact (n_br _ _).elim Or.inl (fun h => Or.inr (Or.inl h)) | with_reducible exact (n_sh _ _).elim Or.inl (fun h => Or.inr (Or.inl h)))
set_option maxHeartbeats 4000000 in
set_option maxRecDepth 100000 in
theorem CL_shop (l : Launch) (D : va_G) (cI cO cL : ClassId) (q : Nat → Nat) (u : bU) (g : Nat → Int64) (H0 : Heap) (hq : bInj 24 q) (hl9 : l.stackTraces = false) (hP : va_P D vwCl (wCo cI cO cL q u g) H0) (a1 : Int32) (a2 : Int32) : Met l yL_shop wsL_shop ({ frames := 8, cells := 2, slots := 12, locals := 125 }) (bPL D cI cO cL (bA 24 q H0.size) H0 [.ref (q 0), .int a1, .int a2, .ref (q 23)]) (bLi D cI cO cL q (bA 24 q H0.size) id (F5_shop u a1 a2)) 2 12 (bA 24 q H0.size) := by
  refine Met.ofWH (cc := cL_shop) (maxL := 5) (ret := (some .int)) (hh := [(0, 10, 13, 27), (0, 10, 17, 13)]) (by decide) rfl ?_
  intro p e s m args below meth c s₁ B hml hv
  obtain ⟨rfl, hH, hk, hX, hKL, hNC⟩ := hv
  subst hH
  have hx := B.exec
  have hb := B.bytes
  have hr := B.returns
  have hts := atoms_spec (ws := wsL_shop) B.pre
  have hown : s.vm.findClass RL = some m.cls := findClass_of_methodNamed B.named
  have hlocks := B.notSynchronized
  have htab : c.exceptionTable.toList = tableOf [(0, 10, 13, 27), (0, 10, 17, 13)] := vx_table (x := yL_shop) B (hts _ List.mem_cons_self)
  have hS : va_S (bA 24 q s.heap.size) s.heap s.heap [] := va_S.rf
  have hl := lv_entry ([.ref (q 0), .int a1, .int a2, .ref (q 23)]) (n := 5) (Nat.le_of_ble_eq_true rfl)
  rw [lg_entry_eq]
  generalize (lg_sl ([.ref (q 0), .int a1, .int a2, .ref (q 23)]) ++ List.replicate (5 - (lg_sl ([.ref (q 0), .int a1, .int a2, .ref (q 23)])).length) Slot.unset).toArray = ls at hl ⊢
  have hl : lv_has ls 5 [(0, .ref (q 0)), (1, .int a1), (2, .int a2), (3, .ref (q 23))] := hl
  have hPC := wCo_C hP
  have hPo := wCo_o hP
  have hq23 := bInj_23 hq
  refine lv_aload_n hx hb dL_shop_0 rfl (lv_at hl 3 rfl) ?_
  refine lv_iconst (v := 0) hx hb dL_shop_1 (by decide) ?_
  refine lv_aload_n hx hb dL_shop_2 rfl (lv_at hl 0 rfl) ?_
  refine lv_iload_n hx hb dL_shop_3 rfl (lv_at hl 1 rfl) ?_
  refine lv_iload_n hx hb dL_shop_4 rfl (lv_at hl 2 rfl) ?_
  refine vx_calli (vx_runV (As := [.int a1, .int a2]) (rest := [.int 0, .ref (q 23)]) ⟨hx, hb, hml, hown, hts⟩ (C5_shop l D cI cO q u _ hq23 hl9 hPC a1 a2) (cwV 2 hts gL_shop_X5_shop rfl rfl rfl ⟨rfl, bd_X5shop⟩ ⟨Nat.le_of_ble_eq_true rfl, Nat.le_of_ble_eq_true rfl⟩) (bPVX hk hX hS (bA_34 (Nat.le_refl _)) (va_recv hk.1 hPC (ci := 5) (q0 := 0) rfl (wC_0 _ _ _ _))) rfl rfl hl.1 rfl (lv_room (Nat.le_of_ble_eq_true rfl)) dL_shop_5 ⟨Nat.le_of_ble_eq_true rfl, Nat.le_of_ble_eq_true rfl⟩) hS (fun x _ h => bA_34 (Nat.le_refl _) x h) (fun x h => bA_34 (Nat.le_refl _) x h) (fun x _ h => bA_34 (Nat.le_refl _) x h) ?_ ?_
  · intro E ce q9 u9 t H1 locs1 ht _ hne hB hz hk1 hS1 hcell hv9 hcl
    obtain ⟨hE, hPx⟩ := hB
    rw [ht] at hPx
    have hPj := wCo_of (g := g) (u := (F5_shop u a1 a2).2.2) hPx (wCo_k hPo hk1 hq)
    refine vx_widen (k := 2) (n := 12) (by omega) (by omega) ?_
    rcases cd_shop u a1 a2 with h9 | h9 | h9
    · exact absurd h9 hne
    · rw [h9] at hE
      obtain rfl : E = "java/lang/IndexOutOfBoundsException" := hE.trans (by decide +kernel)
      refine vx_catch (own := RL) (name := "java/lang/IndexOutOfBoundsException") hown [] ⟨0, 10, 13, 27⟩ [⟨0, 10, 17, 13⟩] (by rw [htab]; rfl) (fun z hz => by cases hz) (by decide) (by decide) (hts (.classLink RL 27 "java/lang/IndexOutOfBoundsException") (List.mem_of_getElem? (i := 1) rfl)) (va_Nw.use rfl (hk.2 (.castable "java/lang/IndexOutOfBoundsException" "java/lang/IndexOutOfBoundsException") (List.mem_of_getElem? (i := 71) rfl))) hcell hv9 hcl ?_
      refine lv_astore (lv' := [(4, .ref q9), (0, .ref (q 0)), (1, .int a1), (2, .int a2), (3, .ref (q 23))]) hx hb dL_shop_13 hl (by decide) rfl (fun ls hl => ?_)
      refine lv_iconst (v := 1) hx hb dL_shop_15 (by decide) ?_
      exact W.iret hx hb hr (fun t2 ht2 _ => ⟨⟨1, g, rfl, ⟨by rw [h9]; rfl, fun h0 => absurd h0 hne⟩, by show va_P D vwCl _ t2.heap; rw [ht2]; exact hPj⟩, hS1.F ht2⟩) hS1.2.2 dL_shop_16 hlocks
    · rw [h9] at hE
      obtain rfl : E = "java/lang/IllegalArgumentException" := hE.trans (by decide +kernel)
      refine vx_catch (own := RL) (name := "java/lang/IllegalArgumentException") hown [⟨0, 10, 13, 27⟩] ⟨0, 10, 17, 13⟩ [] (by rw [htab]; rfl) (fun z hz => by rcases List.mem_cons.mp hz with rfl | hz; exact Or.inr ⟨(by decide), "java/lang/IndexOutOfBoundsException", (hts (.classLink RL 27 "java/lang/IndexOutOfBoundsException") (List.mem_of_getElem? (i := 1) rfl)), hNC.1⟩; cases hz) (by decide) (by decide) (hts (.classLink RL 13 "java/lang/IllegalArgumentException") (List.mem_of_getElem? (i := 2) rfl)) (va_Nw.use rfl (hk.2 (.castable "java/lang/IllegalArgumentException" "java/lang/IllegalArgumentException") (List.mem_of_getElem? (i := 72) rfl))) hcell hv9 hcl ?_
      refine lv_astore (lv' := [(4, .ref q9), (0, .ref (q 0)), (1, .int a1), (2, .int a2), (3, .ref (q 23))]) hx hb dL_shop_17 hl (by decide) rfl (fun ls hl => ?_)
      refine lv_iconst (v := 2) hx hb dL_shop_19 (by decide) ?_
      exact W.iret hx hb hr (fun t2 ht2 _ => ⟨⟨2, g, rfl, ⟨by rw [h9]; rfl, fun h0 => absurd h0 hne⟩, by show va_P D vwCl _ t2.heap; rw [ht2]; exact hPj⟩, hS1.F ht2⟩) hS1.2.2 dL_shop_20 hlocks
  · intro r u2 t H1 locs1 ht _ hw hB hz hk1 hS1
    rw [ht] at hB
    have hPj := wCo_of (g := g) (u := u2) hB (wCo_k hPo hk1 hq)
    refine W.widen (k := 2) (n := 12) (by omega) (by omega) ?_
    refine lv_i2l (v := r.toInt64) hx hb dL_shop_8 rfl ?_
    refine va_last hx hb hKL hPj (wCo_D hq) hS1 23 0 rfl rfl (vp_in_nI (n := 0) (by decide) (by decide)) dL_shop_9 (fun H2 locs2 hP2 _ hS2 => ?_)
    have hP2 : va_P D vwCl (wCo cI cO cL q u2 (vp_updL g (0 : Int32).toNatClampNeg r.toInt64)) H2 := hP2
    refine lv_goto (tgt := 21) hx hb dL_shop_10 (by decide) ?_
    refine lv_iconst (v := 0) hx hb dL_shop_21 (by decide) ?_
    exact W.iret hx hb hr (fun t2 ht2 _ => ⟨⟨0, vp_updL g (0 : Int32).toNatClampNeg r.toInt64, rfl, ⟨by rw [← hw]; rfl, fun _ => by rw [← hw]; exact if_pos rfl⟩, by show va_P D vwCl _ t2.heap; rw [ht2, ← hw]; exact hP2⟩, hS2.F ht2⟩) hS2.2.2 dL_shop_22 hlocks
theorem cd_count (u : bU) (a1 : Int32) : (F5_count u a1).1 = 0 ∨ (F5_count u a1).1 = 2 := by
  unfold F5_count
  (repeat' split) <;> first | with_reducible exact Or.inl rfl | (dsimp only; first | with_reducible exact (n_arg _).elim Or.inl (fun h => Or.inr (h)) | with_reducible exact (n_rng _ _ _).elim Or.inl (fun h => Or.inr (h)) | with_reducible exact (n_kd _).elim Or.inl (fun h => Or.inr (h)))
set_option maxHeartbeats 4000000 in
set_option maxRecDepth 100000 in
theorem CL_count (l : Launch) (D : va_G) (cI cO cL : ClassId) (q : Nat → Nat) (u : bU) (g : Nat → Int64) (H0 : Heap) (hq : bInj 24 q) (hl9 : l.stackTraces = false) (hP : va_P D vwCl (wCo cI cO cL q u g) H0) (a1 : Int32) : Met l yL_count wsL_count ({ frames := 9, cells := 1, slots := 6, locals := 145 }) (bPL D cI cO cL (bA 24 q H0.size) H0 [.ref (q 0), .int a1, .ref (q 23)]) (bLi D cI cO cL q (bA 24 q H0.size) cdC (F5_count u a1)) 1 6 (bA 24 q H0.size) := by
  refine Met.ofWH (cc := cL_count) (maxL := 4) (ret := (some .int)) (hh := [(0, 9, 12, 13)]) (by decide) rfl ?_
  intro p e s m args below meth c s₁ B hml hv
  obtain ⟨rfl, hH, hk, hX, hKL, hNC⟩ := hv
  subst hH
  have hx := B.exec
  have hb := B.bytes
  have hr := B.returns
  have hts := atoms_spec (ws := wsL_count) B.pre
  have hown : s.vm.findClass RL = some m.cls := findClass_of_methodNamed B.named
  have hlocks := B.notSynchronized
  have htab : c.exceptionTable.toList = tableOf [(0, 9, 12, 13)] := vx_table (x := yL_count) B (hts _ List.mem_cons_self)
  have hS : va_S (bA 24 q s.heap.size) s.heap s.heap [] := va_S.rf
  have hl := lv_entry ([.ref (q 0), .int a1, .ref (q 23)]) (n := 4) (Nat.le_of_ble_eq_true rfl)
  rw [lg_entry_eq]
  generalize (lg_sl ([.ref (q 0), .int a1, .ref (q 23)]) ++ List.replicate (4 - (lg_sl ([.ref (q 0), .int a1, .ref (q 23)])).length) Slot.unset).toArray = ls at hl ⊢
  have hl : lv_has ls 4 [(0, .ref (q 0)), (1, .int a1), (2, .ref (q 23))] := hl
  have hPC := wCo_C hP
  have hPo := wCo_o hP
  have hq23 := bInj_23 hq
  refine lv_aload_n hx hb dL_count_0 rfl (lv_at hl 2 rfl) ?_
  refine lv_iconst (v := 0) hx hb dL_count_1 (by decide) ?_
  refine lv_aload_n hx hb dL_count_2 rfl (lv_at hl 0 rfl) ?_
  refine lv_iload_n hx hb dL_count_3 rfl (lv_at hl 1 rfl) ?_
  refine vx_calli (vx_runV (As := [.int a1]) (rest := [.int 0, .ref (q 23)]) ⟨hx, hb, hml, hown, hts⟩ (C5_count l D cI cO q u _ hq23 hl9 hPC a1) (cwV 1 hts gL_count_X5_count rfl rfl rfl ⟨rfl, bd_X5count⟩ ⟨Nat.le_of_ble_eq_true rfl, Nat.le_of_ble_eq_true rfl⟩) (bPVX hk hX hS (bA_34 (Nat.le_refl _)) (va_recv hk.1 hPC (ci := 5) (q0 := 0) rfl (wC_0 _ _ _ _))) rfl rfl hl.1 rfl (lv_room (Nat.le_of_ble_eq_true rfl)) dL_count_4 ⟨Nat.le_of_ble_eq_true rfl, Nat.le_of_ble_eq_true rfl⟩) hS (fun x _ h => bA_34 (Nat.le_refl _) x h) (fun x h => bA_34 (Nat.le_refl _) x h) (fun x _ h => bA_34 (Nat.le_refl _) x h) ?_ ?_
  · intro E ce q9 u9 t H1 locs1 ht _ hne hB hz hk1 hS1 hcell hv9 hcl
    obtain ⟨hE, hPx⟩ := hB
    rw [ht] at hPx
    have hPj := wCo_of (g := g) (u := (F5_count u a1).2.2) hPx (wCo_k hPo hk1 hq)
    refine vx_widen (k := 1) (n := 6) (by omega) (by omega) ?_
    rcases cd_count u a1 with h9 | h9
    · exact absurd h9 hne
    · rw [h9] at hE
      obtain rfl : E = "java/lang/IllegalArgumentException" := hE.trans (by decide +kernel)
      refine vx_catch (own := RL) (name := "java/lang/IllegalArgumentException") hown [] ⟨0, 9, 12, 13⟩ [] (by rw [htab]; rfl) (fun z hz => by cases hz) (by decide) (by decide) (hts (.classLink RL 13 "java/lang/IllegalArgumentException") (List.mem_of_getElem? (i := 1) rfl)) (va_Nw.use rfl (hk.2 (.castable "java/lang/IllegalArgumentException" "java/lang/IllegalArgumentException") (List.mem_of_getElem? (i := 72) rfl))) hcell hv9 hcl ?_
      refine lv_astore_n (lv' := [(3, .ref q9), (0, .ref (q 0)), (1, .int a1), (2, .ref (q 23))]) hx hb dL_count_12 rfl hl (by decide) rfl (fun ls hl => ?_)
      refine lv_iconst (v := 1) hx hb dL_count_13 (by decide) ?_
      exact W.iret hx hb hr (fun t2 ht2 _ => ⟨⟨1, g, rfl, ⟨by rw [h9]; rfl, fun h0 => absurd h0 hne⟩, by show va_P D vwCl _ t2.heap; rw [ht2]; exact hPj⟩, hS1.F ht2⟩) hS1.2.2 dL_count_14 hlocks
  · intro r u2 t H1 locs1 ht _ hw hB hz hk1 hS1
    rw [ht] at hB
    have hPj := wCo_of (g := g) (u := u2) hB (wCo_k hPo hk1 hq)
    refine W.widen (k := 1) (n := 6) (by omega) (by omega) ?_
    refine lv_i2l (v := r.toInt64) hx hb dL_count_7 rfl ?_
    refine va_last hx hb hKL hPj (wCo_D hq) hS1 23 0 rfl rfl (vp_in_nI (n := 0) (by decide) (by decide)) dL_count_8 (fun H2 locs2 hP2 _ hS2 => ?_)
    have hP2 : va_P D vwCl (wCo cI cO cL q u2 (vp_updL g (0 : Int32).toNatClampNeg r.toInt64)) H2 := hP2
    refine lv_goto (tgt := 15) hx hb dL_count_9 (by decide) ?_
    refine lv_iconst (v := 0) hx hb dL_count_15 (by decide) ?_
    exact W.iret hx hb hr (fun t2 ht2 _ => ⟨⟨0, vp_updL g (0 : Int32).toNatClampNeg r.toInt64, rfl, ⟨by rw [← hw]; rfl, fun _ => by rw [← hw]; exact if_pos rfl⟩, by show va_P D vwCl _ t2.heap; rw [ht2, ← hw]; exact hP2⟩, hS2.F ht2⟩) hS2.2.2 dL_count_16 hlocks
theorem cd_setting (u : bU) (a1 : Int32) : (F5_setting u a1).1 = 0 ∨ (F5_setting u a1).1 = 1 := by
  unfold F5_setting
  (repeat' split) <;> first | with_reducible exact Or.inl rfl | (dsimp only; first | with_reducible exact (n_set _).elim Or.inl (fun h => Or.inr (h)) | with_reducible exact (n_br _ _).elim Or.inl (fun h => Or.inr (h)) | with_reducible exact (n_sh _ _).elim Or.inl (fun h => Or.inr (h)))
set_option maxHeartbeats 4000000 in
set_option maxRecDepth 100000 in
theorem CL_setting (l : Launch) (D : va_G) (cI cO cL : ClassId) (q : Nat → Nat) (u : bU) (g : Nat → Int64) (H0 : Heap) (hq : bInj 24 q) (hl9 : l.stackTraces = false) (hP : va_P D vwCl (wCo cI cO cL q u g) H0) (a1 : Int32) : Met l yL_setting wsL_setting ({ frames := 8, cells := 1, slots := 6, locals := 123 }) (bPL D cI cO cL (bA 24 q H0.size) H0 [.ref (q 0), .int a1, .ref (q 23)]) (bLi D cI cO cL q (bA 24 q H0.size) id (F5_setting u a1)) 1 6 (bA 24 q H0.size) := by
  refine Met.ofWH (cc := cL_setting) (maxL := 4) (ret := (some .int)) (hh := [(0, 9, 12, 27)]) (by decide) rfl ?_
  intro p e s m args below meth c s₁ B hml hv
  obtain ⟨rfl, hH, hk, hX, hKL, hNC⟩ := hv
  subst hH
  have hx := B.exec
  have hb := B.bytes
  have hr := B.returns
  have hts := atoms_spec (ws := wsL_setting) B.pre
  have hown : s.vm.findClass RL = some m.cls := findClass_of_methodNamed B.named
  have hlocks := B.notSynchronized
  have htab : c.exceptionTable.toList = tableOf [(0, 9, 12, 27)] := vx_table (x := yL_setting) B (hts _ List.mem_cons_self)
  have hS : va_S (bA 24 q s.heap.size) s.heap s.heap [] := va_S.rf
  have hl := lv_entry ([.ref (q 0), .int a1, .ref (q 23)]) (n := 4) (Nat.le_of_ble_eq_true rfl)
  rw [lg_entry_eq]
  generalize (lg_sl ([.ref (q 0), .int a1, .ref (q 23)]) ++ List.replicate (4 - (lg_sl ([.ref (q 0), .int a1, .ref (q 23)])).length) Slot.unset).toArray = ls at hl ⊢
  have hl : lv_has ls 4 [(0, .ref (q 0)), (1, .int a1), (2, .ref (q 23))] := hl
  have hPC := wCo_C hP
  have hPo := wCo_o hP
  have hq23 := bInj_23 hq
  refine lv_aload_n hx hb dL_setting_0 rfl (lv_at hl 2 rfl) ?_
  refine lv_iconst (v := 0) hx hb dL_setting_1 (by decide) ?_
  refine lv_aload_n hx hb dL_setting_2 rfl (lv_at hl 0 rfl) ?_
  refine lv_iload_n hx hb dL_setting_3 rfl (lv_at hl 1 rfl) ?_
  refine vx_calli (vx_runV (As := [.int a1]) (rest := [.int 0, .ref (q 23)]) ⟨hx, hb, hml, hown, hts⟩ (C5_setting l D cI cO q u _ hq23 hl9 hPC a1) (cwV 1 hts gL_setting_X5_setting rfl rfl rfl ⟨rfl, bd_X5setting⟩ ⟨Nat.le_of_ble_eq_true rfl, Nat.le_of_ble_eq_true rfl⟩) (bPVX hk hX hS (bA_34 (Nat.le_refl _)) (va_recv hk.1 hPC (ci := 5) (q0 := 0) rfl (wC_0 _ _ _ _))) rfl rfl hl.1 rfl (lv_room (Nat.le_of_ble_eq_true rfl)) dL_setting_4 ⟨Nat.le_of_ble_eq_true rfl, Nat.le_of_ble_eq_true rfl⟩) hS (fun x _ h => bA_34 (Nat.le_refl _) x h) (fun x h => bA_34 (Nat.le_refl _) x h) (fun x _ h => bA_34 (Nat.le_refl _) x h) ?_ ?_
  · intro E ce q9 u9 t H1 locs1 ht _ hne hB hz hk1 hS1 hcell hv9 hcl
    obtain ⟨hE, hPx⟩ := hB
    rw [ht] at hPx
    have hPj := wCo_of (g := g) (u := (F5_setting u a1).2.2) hPx (wCo_k hPo hk1 hq)
    refine vx_widen (k := 1) (n := 6) (by omega) (by omega) ?_
    rcases cd_setting u a1 with h9 | h9
    · exact absurd h9 hne
    · rw [h9] at hE
      obtain rfl : E = "java/lang/IndexOutOfBoundsException" := hE.trans (by decide +kernel)
      refine vx_catch (own := RL) (name := "java/lang/IndexOutOfBoundsException") hown [] ⟨0, 9, 12, 27⟩ [] (by rw [htab]; rfl) (fun z hz => by cases hz) (by decide) (by decide) (hts (.classLink RL 27 "java/lang/IndexOutOfBoundsException") (List.mem_of_getElem? (i := 1) rfl)) (va_Nw.use rfl (hk.2 (.castable "java/lang/IndexOutOfBoundsException" "java/lang/IndexOutOfBoundsException") (List.mem_of_getElem? (i := 71) rfl))) hcell hv9 hcl ?_
      refine lv_astore_n (lv' := [(3, .ref q9), (0, .ref (q 0)), (1, .int a1), (2, .ref (q 23))]) hx hb dL_setting_12 rfl hl (by decide) rfl (fun ls hl => ?_)
      refine lv_iconst (v := 1) hx hb dL_setting_13 (by decide) ?_
      exact W.iret hx hb hr (fun t2 ht2 _ => ⟨⟨1, g, rfl, ⟨by rw [h9]; rfl, fun h0 => absurd h0 hne⟩, by show va_P D vwCl _ t2.heap; rw [ht2]; exact hPj⟩, hS1.F ht2⟩) hS1.2.2 dL_setting_14 hlocks
  · intro r u2 t H1 locs1 ht _ hw hB hz hk1 hS1
    rw [ht] at hB
    have hPj := wCo_of (g := g) (u := u2) hB (wCo_k hPo hk1 hq)
    refine W.widen (k := 1) (n := 6) (by omega) (by omega) ?_
    refine lv_i2l (v := r.toInt64) hx hb dL_setting_7 rfl ?_
    refine va_last hx hb hKL hPj (wCo_D hq) hS1 23 0 rfl rfl (vp_in_nI (n := 0) (by decide) (by decide)) dL_setting_8 (fun H2 locs2 hP2 _ hS2 => ?_)
    have hP2 : va_P D vwCl (wCo cI cO cL q u2 (vp_updL g (0 : Int32).toNatClampNeg r.toInt64)) H2 := hP2
    refine lv_goto (tgt := 15) hx hb dL_setting_9 (by decide) ?_
    refine lv_iconst (v := 0) hx hb dL_setting_15 (by decide) ?_
    exact W.iret hx hb hr (fun t2 ht2 _ => ⟨⟨0, vp_updL g (0 : Int32).toNatClampNeg r.toInt64, rfl, ⟨by rw [← hw]; rfl, fun _ => by rw [← hw]; exact if_pos rfl⟩, by show va_P D vwCl _ t2.heap; rw [ht2, ← hw]; exact hP2⟩, hS2.F ht2⟩) hS2.2.2 dL_setting_16 hlocks

theorem bd_X6readOrder : yX6_readOrder.cls ≠ "java/lang/invoke/MethodHandle" ∧ yX6_readOrder.cls ≠ "java/lang/invoke/VarHandle" ∧ (parseMethodDescriptor yX6_readOrder.desc).map (fun d => d.parameters.length) = some 0 := by decide +kernel
theorem bd_X6reads : yX6_reads.cls ≠ "java/lang/invoke/MethodHandle" ∧ yX6_reads.cls ≠ "java/lang/invoke/VarHandle" ∧ (parseMethodDescriptor yX6_reads.desc).map (fun d => d.parameters.length) = some 0 := by decide +kernel
def mRdOk : Nat → Int32 → bU → Prop
  | 0, x, _ => x = 0
  | n + 1, x, u => x = 0 ∨ mRdOk n (F6_readOrder u).1 (F6_readOrder u).2
theorem mRdOk_lt {j : Nat} {x : Int32} {u : bU} (h : mRdOk (61 - j) x u) (c : ¬ x = 0) : j < 61 := by
  rcases Nat.lt_or_ge j 61 with q | q
  · exact q
  · rw [show 61 - j = 0 by omega] at h
    exact absurd h c
theorem mRdOk_step {j : Nat} {x : Int32} {u : bU} (h : mRdOk (61 - j) x u) (c : ¬ x = 0) : mRdOk (61 - (j + 1)) (F6_readOrder u).1 (F6_readOrder u).2 := by
  have q := mRdOk_lt h c
  rw [show 61 - j = (61 - (j + 1)) + 1 by omega] at h
  rcases h with h | h
  · exact absurd h c
  · exact h
def L6_reads_7  : bU → Nat → Nat → Int32 → Int32 × bU
  | u7, 0, _, x1_7 => (x1_7, u7)
  | u7, n7 + 1, j7, x1_7 => (if x1_7 = 0 then (x1_7, u7) else (L6_reads_7 (F6_readOrder u7).2 n7 (j7 + 1) (F6_readOrder u7).1))
def F6_reads (u : bU) : Int32 × bU := (((L6_reads_7 (bput u 6 3 0) (61 + 1) 0 1).2 6 3), (L6_reads_7 (bput u 6 3 0) (61 + 1) 0 1).2)
set_option maxHeartbeats 4000000 in
set_option maxRecDepth 100000 in
theorem C6_reads (l : Launch) (D : va_G) (cI : ClassId) (q : Nat → Nat) (u : bU) (H0 : Heap) (hq : bInj 7 q) (hP : va_P D vwCl (wM cI q u) H0) (hI : mInv u) (hrd : mRdOk 61 1 (bput u 6 3 0)) : Met l yX6_reads wsX6_reads ({ frames := 3, cells := 0, slots := 0, locals := 66 }) (bP D [(cI, .int)] H0 [.ref (q 0)]) (bWi D (wM cI q) mInv (bA 7 q H0.size) (F6_reads u)) 0 0 (bA 7 q H0.size) := by
  refine Met.ofW (cc := cX6_reads) (maxL := 2) (ret := (some .int)) (by decide) rfl ?_
  intro p e s m args below meth c s₁ B hml hv
  obtain ⟨rfl, hH, hk⟩ := hv
  subst hH
  have hx := B.exec
  have hb := B.bytes
  have hr := B.returns
  have hts := atoms_spec (ws := wsX6_reads) B.pre
  have hown : s.vm.findClass RX6 = some m.cls := findClass_of_methodNamed B.named
  have hlocks := B.notSynchronized
  have hNB := mNB hI
  have hNS := mNS hI
  have hI0 := hI
  have iX6 : ∀ w ∈ wsX60, w ∈ wsX6_reads := by decide +kernel
  have hS : va_S (bA 7 q s.heap.size) s.heap s.heap [] := va_S.rf
  have hl := lv_entry ([.ref (q 0)]) (n := 2) (Nat.le_of_ble_eq_true rfl)
  rw [lg_entry_eq]
  generalize (lg_sl ([.ref (q 0)]) ++ List.replicate (2 - (lg_sl ([.ref (q 0)])).length) Slot.unset).toArray = ls at hl ⊢
  have hl : lv_has ls 2 [(0, .ref (q 0))] := hl
  generalize hF : F6_reads u = tgt
  refine lv_aload_n hx hb dX6_reads_0 rfl (lv_at hl 0 rfl) ?_
  refine lv_iconst (v := 0) hx hb dX6_reads_1 (by decide) ?_
  refine va_put (D := D) (ci := 6) (v := .int 0) (ty := .int) (C := RX6) (T := TX6) (N := 16) hx hb hts iX6 tyX6 tyX6_ok nmX6 hown hk.1 hP (wM_D hq) hS 0 (wM_0 _ _ _) rfl 9 (by decide) (hts (.fieldLink RX6 132 "BottleLoopModel" "place" "I") (List.mem_of_getElem? (i := 1) rfl)) (fun _ h9 => h9) rfl (by decide +kernel) rfl rfl (Nat.le_of_ble_eq_true rfl) dX6_reads_2 (fun H locs hP _ hS => ?_)
  have hP : va_P D vwCl (wM cI q (bput u 6 3 0)) H := pM_f3 hP
  have hI_1 : mInv (bput u 6 3 0) := mInv_pl hI (by decide)
  refine lv_iconst (v := 1) hx hb dX6_reads_5 (by decide) ?_
  refine lv_istore_n (lv' := [(1, .int 1), (0, .ref (q 0))]) hx hb dX6_reads_6 rfl hl (by decide) rfl (fun ls hl => ?_)
  have hNB7 := mNB hI_1
  have hNS7 := mNS hI_1
  have loop7 : ∀ (n7 j7 : Nat) (x1_7 : Int32) (u7 : bU) (H : Heap) (locs : List Loc) (ls : Array Slot), j7 ≤ 61 → 61 + 1 ≤ n7 + j7 → mRdOk (61 - j7) x1_7 u7 → lv_has ls 2 [(0, .ref (q 0)), (1, .int x1_7)] → va_P D vwCl (wM cI q u7) H → mInv u7 → va_S (bA 7 q s.heap.size) s.heap H locs → ∀ X : Int32 × bU, L6_reads_7 u7 n7 j7 x1_7 = X → (∀ (H : Heap) (locs : List Loc) (ls : Array Slot), lv_has ls 2 [(0, .ref (q 0)), (1, .int X.1)] → va_P D vwCl (wM cI q X.2) H → mInv X.2 → va_S (bA 7 q s.heap.size) s.heap H locs → W p l e (headSpec wsX6_reads ({ frames := 3, cells := 0, slots := 0, locals := 66 })).room s m ([.ref (q 0)] : List Value).toArray below meth c H locs 0 0 (MQ below (bWi D (wM cI q) mInv (bA 7 q s.heap.size) tgt) ([.ref (q 0)] : List Value).toArray s 0 0 (bA 7 q s.heap.size)) (F0 m 19 ls [])) → W p l e (headSpec wsX6_reads ({ frames := 3, cells := 0, slots := 0, locals := 66 })).room s m ([.ref (q 0)] : List Value).toArray below meth c H locs 0 0 (MQ below (bWi D (wM cI q) mInv (bA 7 q s.heap.size) tgt) ([.ref (q 0)] : List Value).toArray s 0 0 (bA 7 q s.heap.size)) (F0 m 7 ls []) := by
    intro n7
    induction n7 with
    | zero => intro j7 x1_7 u7 H locs ls hj hn; exact absurd hn (by omega)
    | succ n7 ih =>
      intro j7 x1_7 u7 H locs ls hj hn hinv hl hP hI hS X hF kx
      refine lv_iload_n hx hb dX6_reads_7 rfl (lv_at hl 1 rfl) ?_
      refine lv_if_eq (tgt := 19) hx hb dX6_reads_8 (by decide) (fun c_2 => ?_) (fun c_2 => ?_)
      · obtain rfl : X = (x1_7, u7) := by rw [← hF, L6_reads_7, if_pos c_2]
        exact kx _ _ _ (lv_sub hl [0, 1] rfl) hP hI hS
      · have hlt_3 : j7 < 61 := mRdOk_lt hinv c_2
        refine lv_aload_n hx hb dX6_reads_11 rfl (lv_at hl 0 rfl) ?_
        refine bcall_Wi (va_runV (As := []) (rest := []) ⟨hx, hb, hml, hown, hts⟩ (C6_readOrder l D cI q _ _ hq hP hI ) (cwV 0 hts gX6_reads_X6_readOrder rfl rfl rfl ⟨rfl, bd_X6readOrder⟩ ⟨Nat.le_of_ble_eq_true rfl, Nat.le_of_ble_eq_true rfl⟩) (bPV hk (va_recv hk.1 hP (ci := 6) (q0 := 0) rfl (wM_0 _ _ _))) rfl rfl hl.1 rfl (lv_room (Nat.le_of_ble_eq_true rfl)) dX6_reads_12 ⟨Nat.zero_le _, Nat.zero_le _⟩) hS (fun H locs hP hI_4 hS => ?_)
        refine lv_istore_n (lv' := [(1, .int (F6_readOrder u7).1), (0, .ref (q 0))]) hx hb dX6_reads_15 rfl hl (by decide) rfl (fun ls hl => ?_)
        refine lv_goto (tgt := 7) hx hb dX6_reads_16 (by decide) ?_
        exact ih (j7 + 1) (F6_readOrder u7).1 (F6_readOrder u7).2 _ _ _ (by omega) (by omega) (mRdOk_step hinv c_2) (lv_sub hl [1, 0] rfl) hP hI_4 hS X (by rw [← hF, L6_reads_7, if_neg c_2]) kx
  refine loop7 (61 + 1) 0 1 (bput u 6 3 0) _ _ _ (by omega) (by omega) hrd (lv_sub hl [1, 0] rfl) hP hI_1 hS _ rfl (fun H locs ls hl hP hI hS => ?_)
  have hI_5 : mInv (L6_reads_7 (bput u 6 3 0) (61 + 1) 0 1).2 := hI
  refine lv_aload_n hx hb dX6_reads_19 rfl (lv_at hl 0 rfl) ?_
  refine va_get (D := D) (ci := 6) (C := RX6) (T := TX6) (N := 16) hx hb hts iX6 hown hk.1 hP 0 (wM_0 _ _ _) rfl 9 (by decide) (hts (.fieldLink RX6 132 "BottleLoopModel" "place" "I") (List.mem_of_getElem? (i := 1) rfl)) (fun _ h9 => h9) rfl dX6_reads_20 ?_
  exact bret_Wi hx hb hr hP hI_5 hS hlocks dX6_reads_23 (by rw [← hF, F6_reads])
def F6_firstError (u : bU) : Int32 × bU := ((F6_reads (bput u 6 2 0)).1, (F6_reads (bput u 6 2 0)).2)
set_option maxHeartbeats 4000000 in
set_option maxRecDepth 100000 in
theorem C6_firstError (l : Launch) (D : va_G) (cI : ClassId) (q : Nat → Nat) (u : bU) (H0 : Heap) (hq : bInj 7 q) (hP : va_P D vwCl (wM cI q u) H0) (hI : mInv u) (hrd : mRdOk 61 1 (bput (bput u 6 2 0) 6 3 0)) : Met l yX6_firstError wsX6_firstError ({ frames := 4, cells := 0, slots := 0, locals := 87 }) (bP D [(cI, .int)] H0 [.ref (q 0)]) (bWi D (wM cI q) mInv (bA 7 q H0.size) (F6_firstError u)) 0 0 (bA 7 q H0.size) := by
  refine Met.ofW (cc := cX6_firstError) (maxL := 1) (ret := (some .int)) (by decide) rfl ?_
  intro p e s m args below meth c s₁ B hml hv
  obtain ⟨rfl, hH, hk⟩ := hv
  subst hH
  have hx := B.exec
  have hb := B.bytes
  have hr := B.returns
  have hts := atoms_spec (ws := wsX6_firstError) B.pre
  have hown : s.vm.findClass RX6 = some m.cls := findClass_of_methodNamed B.named
  have hlocks := B.notSynchronized
  have hNB := mNB hI
  have hNS := mNS hI
  have hI0 := hI
  have iX6 : ∀ w ∈ wsX60, w ∈ wsX6_firstError := by decide +kernel
  have hS : va_S (bA 7 q s.heap.size) s.heap s.heap [] := va_S.rf
  have hl := lv_entry ([.ref (q 0)]) (n := 1) (Nat.le_of_ble_eq_true rfl)
  rw [lg_entry_eq]
  generalize (lg_sl ([.ref (q 0)]) ++ List.replicate (1 - (lg_sl ([.ref (q 0)])).length) Slot.unset).toArray = ls at hl ⊢
  have hl : lv_has ls 1 [(0, .ref (q 0))] := hl
  generalize hF : F6_firstError u = tgt
  refine lv_aload_n hx hb dX6_firstError_0 rfl (lv_at hl 0 rfl) ?_
  refine lv_iconst (v := 0) hx hb dX6_firstError_1 (by decide) ?_
  refine va_put (D := D) (ci := 6) (v := .int 0) (ty := .int) (C := RX6) (T := TX6) (N := 16) hx hb hts iX6 tyX6 tyX6_ok nmX6 hown hk.1 hP (wM_D hq) hS 0 (wM_0 _ _ _) rfl 6 (by decide) (hts (.fieldLink RX6 28 "BottleLoopModel" "thrown" "I") (List.mem_of_getElem? (i := 1) rfl)) (fun _ h9 => h9) rfl (by decide +kernel) rfl rfl (Nat.le_of_ble_eq_true rfl) dX6_firstError_2 (fun H locs hP _ hS => ?_)
  have hP : va_P D vwCl (wM cI q (bput u 6 2 0)) H := pM_f2 hP
  have hI_1 : mInv (bput u 6 2 0) := mInv_sc (k := 2) hI (by decide) (by decide) (by decide)
  refine lv_aload_n hx hb dX6_firstError_5 rfl (lv_at hl 0 rfl) ?_
  refine bcall_Wi (va_runV (As := []) (rest := []) ⟨hx, hb, hml, hown, hts⟩ (C6_reads l D cI q _ _ hq hP hI_1  hrd) (cwV 0 hts gX6_firstError_X6_reads rfl rfl rfl ⟨rfl, bd_X6reads⟩ ⟨Nat.le_of_ble_eq_true rfl, Nat.le_of_ble_eq_true rfl⟩) (bPV hk (va_recv hk.1 hP (ci := 6) (q0 := 0) rfl (wM_0 _ _ _))) rfl rfl hl.1 rfl (lv_room (Nat.le_of_ble_eq_true rfl)) dX6_firstError_6 ⟨Nat.zero_le _, Nat.zero_le _⟩) hS (fun H locs hP hI_2 hS => ?_)
  exact bret_Wi hx hb hr hP hI_2 hS hlocks dX6_firstError_9 (by rw [← hF, F6_firstError])

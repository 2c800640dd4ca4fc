theorem bd_X6shopFor : yX6_shopFor.cls ≠ "java/lang/invoke/MethodHandle" ∧ yX6_shopFor.cls ≠ "java/lang/invoke/VarHandle" ∧ (parseMethodDescriptor yX6_shopFor.desc).map (fun d => d.parameters.length) = some 1 := by decide +kernel
theorem bd_X6wouldCollect : yX6_wouldCollect.cls ≠ "java/lang/invoke/MethodHandle" ∧ yX6_wouldCollect.cls ≠ "java/lang/invoke/VarHandle" ∧ (parseMethodDescriptor yX6_wouldCollect.desc).map (fun d => d.parameters.length) = some 3 := by decide +kernel
theorem mUn_v {u : bU} {i : Nat} {x : Int32} (h : mUn u) : mUn (bput u 0 i x) := h
theorem mSp_v {u : bU} {i j : Nat} {x : Int32} (h : mSp j u) : mSp j (bput u 0 i x) := mSp_congr h (bs_ne _ _ (by decide))
def mPl (j : Nat) (u : bU) : Prop := (j : Int) ≤ (u 6 3).toInt
theorem mPl_0 {u : bU} (hI : mInv u) : mPl 0 u := by
  have h := hI.2.2.2
  rw [iLt, i0] at h
  show ((0 : Nat) : Int) ≤ (u 6 3).toInt
  omega
theorem mPl_lt {u : bU} {j : Nat} (hI : mInv u) (h : mPl j u) (c : ¬ u 6 1 ≤ u 6 3) : j < 60 := by
  obtain ⟨n, hn, e⟩ := hI.2.2.1
  rw [e, iLe, nI_toInt (by omega)] at c
  have h2 : (j : Int) ≤ (u 6 3).toInt := h
  omega
theorem mPl_step {u : bU} {j : Nat} (hI : mInv u) (h : mPl j u) (c : ¬ u 6 1 ≤ u 6 3) : mPl (j + 1) (bput u 6 3 (u 6 3 + 1)) := by
  obtain ⟨n, hn, e⟩ := hI.2.2.1
  rw [e, iLe, nI_toInt (by omega)] at c
  have h2 : (j : Int) ≤ (u 6 3).toInt := h
  show ((j + 1 : Nat) : Int) ≤ ((bput u 6 3 (u 6 3 + 1)) 6 3).toInt
  have e3 : (bput u 6 3 (u 6 3 + 1)) 6 3 = u 6 3 + 1 := by simp [bput, bs, upd]
  rw [e3, iAdd (by rw [i1]; omega) (by rw [i1]; omega), i1]
  omega
def L6_undo_30  : bU → Nat → Nat → bU
  | u30, 0, _ => u30
  | u30, n30 + 1, j30 => (if (283 : Int32) ≤ (nI j30) then u30 else (L6_undo_30 (bput u30 0 j30 (u30 2 ((283 * (u30 6 0)) + (nI j30)).toNatClampNeg)) n30 (j30 + 1)))
def F6_undo (u : bU) : Int32 × bU := (if ((bput u 6 2 0) 6 0) = 0 then ((F6_fails (bput u 6 2 0) 1).1, (F6_fails (bput u 6 2 0) 1).2) else (((L6_undo_30 (bput (bput u 6 2 0) 6 0 (((bput u 6 2 0) 6 0) - 1)) (283 + 1) 0) 6 0), (L6_undo_30 (bput (bput u 6 2 0) 6 0 (((bput u 6 2 0) 6 0) - 1)) (283 + 1) 0)))
set_option maxHeartbeats 4000000 in
set_option maxRecDepth 100000 in
theorem C6_undo (l : Launch) (D : va_G) (cI : ClassId) (q : Nat → Nat) (u : bU) (H0 : Heap) (hq : bInj 7 q) (hP : va_P D vwCl (wM cI q u) H0) (hI : mInv u) : Met l yX6_undo wsX6_undo ({ frames := 1, cells := 0, slots := 0, locals := 21 }) (bP D [(cI, .int)] H0 [.ref (q 0)]) (bWi D (wM cI q) mInv (bA 7 q H0.size) (F6_undo u)) 0 0 (bA 7 q H0.size) := by
  refine Met.ofW (cc := cX6_undo) (maxL := 2) (ret := (some .int)) (by decide) rfl ?_
  intro p e s m args below meth c s₁ B hml hv
  obtain ⟨rfl, hH, hk⟩ := hv
  subst hH
  have hx := B.exec
  have hb := B.bytes
  have hr := B.returns
  have hts := atoms_spec (ws := wsX6_undo) B.pre
  have hown : s.vm.findClass RX6 = some m.cls := findClass_of_methodNamed B.named
  have hlocks := B.notSynchronized
  have hNB := mNB hI
  have hNS := mNS hI
  have hI0 := hI
  have iX6 : ∀ w ∈ wsX60, w ∈ wsX6_undo := by decide +kernel
  have hS : va_S (bA 7 q s.heap.size) s.heap s.heap [] := va_S.rf
  have hl := lv_entry ([.ref (q 0)]) (n := 2) (Nat.le_of_ble_eq_true rfl)
  rw [lg_entry_eq]
  generalize (lg_sl ([.ref (q 0)]) ++ List.replicate (2 - (lg_sl ([.ref (q 0)])).length) Slot.unset).toArray = ls at hl ⊢
  have hl : lv_has ls 2 [(0, .ref (q 0))] := hl
  generalize hF : F6_undo u = tgt
  refine lv_aload_n hx hb dX6_undo_0 rfl (lv_at hl 0 rfl) ?_
  refine lv_iconst (v := 0) hx hb dX6_undo_1 (by decide) ?_
  refine va_put (D := D) (ci := 6) (v := .int 0) (ty := .int) (C := RX6) (T := TX6) (N := 16) hx hb hts iX6 tyX6 tyX6_ok nmX6 hown hk.1 hP (wM_D hq) hS 0 (wM_0 _ _ _) rfl 6 (by decide) (hts (.fieldLink RX6 28 "BottleLoopModel" "thrown" "I") (List.mem_of_getElem? (i := 1) rfl)) (fun _ h9 => h9) rfl (by decide +kernel) rfl rfl (Nat.le_of_ble_eq_true rfl) dX6_undo_2 (fun H locs hP _ hS => ?_)
  have hP : va_P D vwCl (wM cI q (bput u 6 2 0)) H := pM_f2 hP
  have hI_1 : mInv (bput u 6 2 0) := mInv_sc (k := 2) hI (by decide) (by decide) (by decide)
  refine lv_aload_n hx hb dX6_undo_5 rfl (lv_at hl 0 rfl) ?_
  refine va_get (D := D) (ci := 6) (C := RX6) (T := TX6) (N := 16) hx hb hts iX6 hown hk.1 hP 0 (wM_0 _ _ _) rfl 3 (by decide) (hts (.fieldLink RX6 32 "BottleLoopModel" "saves" "I") (List.mem_of_getElem? (i := 2) rfl)) (fun _ h9 => h9) rfl dX6_undo_6 ?_
  refine lv_if_ne (tgt := 18) hx hb dX6_undo_9 (by decide) (fun c_2 => ?_) (fun c_2 => ?_)
  · refine lv_aload_n hx hb dX6_undo_18 rfl (lv_at hl 0 rfl) ?_
    refine lv_dup hx hb dX6_undo_19 rfl ?_
    refine va_get (D := D) (ci := 6) (C := RX6) (T := TX6) (N := 16) hx hb hts iX6 hown hk.1 hP 0 (wM_0 _ _ _) rfl 3 (by decide) (hts (.fieldLink RX6 32 "BottleLoopModel" "saves" "I") (List.mem_of_getElem? (i := 2) rfl)) (fun _ h9 => h9) rfl dX6_undo_20 ?_
    refine lv_iconst (v := 1) hx hb dX6_undo_23 (by decide) ?_
    refine lv_isub hx hb dX6_undo_24 ?_
    refine va_put (D := D) (ci := 6) (v := .int (((bput u 6 2 0) 6 0) - 1)) (ty := .int) (C := RX6) (T := TX6) (N := 16) hx hb hts iX6 tyX6 tyX6_ok nmX6 hown hk.1 hP (wM_D hq) hS 0 (wM_0 _ _ _) rfl 3 (by decide) (hts (.fieldLink RX6 32 "BottleLoopModel" "saves" "I") (List.mem_of_getElem? (i := 2) rfl)) (fun _ h9 => h9) rfl (by decide +kernel) rfl rfl (Nat.le_of_ble_eq_true rfl) dX6_undo_25 (fun H locs hP _ hS => ?_)
    have hP : va_P D vwCl (wM cI q (bput (bput u 6 2 0) 6 0 (((bput u 6 2 0) 6 0) - 1))) H := pM_f0 hP
    have hI_3 : mInv (bput (bput u 6 2 0) 6 0 (((bput u 6 2 0) 6 0) - 1)) := mInv_svm hI_1 c_2
    refine lv_iconst (v := 0) hx hb dX6_undo_28 (by decide) ?_
    refine lv_istore_n (lv' := [(1, .int 0), (0, .ref (q 0))]) hx hb dX6_undo_29 rfl hl (by decide) rfl (fun ls hl => ?_)
    have hNB30 := mNB hI_3
    have hNS30 := mNS hI_3
    have loop30 : ∀ (n30 j30 : Nat) (u30 : bU) (H : Heap) (locs : List Loc) (ls : Array Slot), j30 ≤ 283 → 283 + 1 ≤ n30 + j30 → mUn u30 → lv_has ls 2 [(0, .ref (q 0)), (1, .int (nI j30))] → va_P D vwCl (wM cI q u30) H → mInv u30 → va_S (bA 7 q s.heap.size) s.heap H locs → ∀ X : bU, L6_undo_30 u30 n30 j30 = X → (∀ (H : Heap) (locs : List Loc) (ls : Array Slot), lv_has ls 2 [(0, .ref (q 0))] → va_P D vwCl (wM cI q X) H → mInv X → va_S (bA 7 q s.heap.size) s.heap H locs → W p l e (headSpec wsX6_undo ({ frames := 1, cells := 0, slots := 0, locals := 21 })).room s m ([.ref (q 0)] : List Value).toArray below meth c H locs 0 0 (MQ below (bWi D (wM cI q) mInv (bA 7 q s.heap.size) tgt) ([.ref (q 0)] : List Value).toArray s 0 0 (bA 7 q s.heap.size)) (F0 m 64 ls [])) → W p l e (headSpec wsX6_undo ({ frames := 1, cells := 0, slots := 0, locals := 21 })).room s m ([.ref (q 0)] : List Value).toArray below meth c H locs 0 0 (MQ below (bWi D (wM cI q) mInv (bA 7 q s.heap.size) tgt) ([.ref (q 0)] : List Value).toArray s 0 0 (bA 7 q s.heap.size)) (F0 m 30 ls []) := by
      intro n30
      induction n30 with
      | zero => intro j30 u30 H locs ls hj hn; exact absurd hn (by omega)
      | succ n30 ih =>
        intro j30 u30 H locs ls hj hn hinv hl hP hI hS X hF kx
        refine lv_iload_n hx hb dX6_undo_30 rfl (lv_at hl 1 rfl) ?_
        refine lv_sipush (v := 283) hx hb dX6_undo_31 (by decide) ?_
        refine lv_icmp_ge (tgt := 64) hx hb dX6_undo_34 (by decide) (fun c_4 => ?_) (fun c_4 => ?_)
        · obtain rfl : X = u30 := by rw [← hF, L6_undo_30, if_pos c_4]
          exact kx _ _ _ (lv_sub hl [0] rfl) hP hI hS
        · have hlt_5 : j30 < 283 := bLt c_4 (by omega) (by decide)
          refine lv_aload_n hx hb dX6_undo_37 rfl (lv_at hl 0 rfl) ?_
          refine va_get (D := D) (ci := 6) (C := RX6) (T := TX6) (N := 16) hx hb hts iX6 hown hk.1 hP 0 (wM_0 _ _ _) rfl 0 (by decide) (hts (.fieldLink RX6 7 "BottleLoopModel" "v" "[I") (List.mem_of_getElem? (i := 3) rfl)) (fun _ h9 => h9) rfl dX6_undo_38 ?_
          refine lv_iload_n hx hb dX6_undo_41 rfl (lv_at hl 1 rfl) ?_
          refine lv_aload_n hx hb dX6_undo_42 rfl (lv_at hl 0 rfl) ?_
          refine va_get (D := D) (ci := 6) (C := RX6) (T := TX6) (N := 16) hx hb hts iX6 hown hk.1 hP 0 (wM_0 _ _ _) rfl 2 (by decide) (hts (.fieldLink RX6 16 "BottleLoopModel" "saved" "[I") (List.mem_of_getElem? (i := 4) rfl)) (fun _ h9 => h9) rfl dX6_undo_43 ?_
          refine lv_sipush (v := 283) hx hb dX6_undo_46 (by decide) ?_
          refine lv_aload_n hx hb dX6_undo_49 rfl (lv_at hl 0 rfl) ?_
          refine va_get (D := D) (ci := 6) (C := RX6) (T := TX6) (N := 16) hx hb hts iX6 hown hk.1 hP 0 (wM_0 _ _ _) rfl 3 (by decide) (hts (.fieldLink RX6 32 "BottleLoopModel" "saves" "I") (List.mem_of_getElem? (i := 2) rfl)) (fun _ h9 => h9) rfl dX6_undo_50 ?_
          refine lv_imul hx hb dX6_undo_53 ?_
          refine lv_iload_n hx hb dX6_undo_54 rfl (lv_at hl 1 rfl) ?_
          refine lv_iadd hx hb dX6_undo_55 ?_
          refine va_iald hx hb hk.1 hP 3 0 (wM_3 _ _ _) rfl (mUn_x hinv (by omega)) dX6_undo_56 ?_
          refine va_iast hx hb hk.1 hP (wM_D hq) hS 1 0 (wM_1 _ _ _) rfl (vp_in_nI (by omega) (by decide)) dX6_undo_57 (fun H locs hP _ hS => ?_)
          rw [mC (j := j30) (by omega)] at hP
          have hP : va_P D vwCl (wM cI q (bput u30 0 j30 (u30 2 ((283 * (u30 6 0)) + (nI j30)).toNatClampNeg))) H := pM_0 hP
          have hI_6 : mInv (bput u30 0 j30 (u30 2 ((283 * (u30 6 0)) + (nI j30)).toNatClampNeg)) := mInv_un hI hinv (by omega)
          refine lv_iinc (v := (nI (j30 + 1))) (lv' := [(1, .int (nI (j30 + 1))), (0, .ref (q 0))]) hx hb dX6_undo_58 hl (k := 1) rfl (bInc j30) (by decide) rfl (fun ls hl => ?_)
          refine lv_goto (tgt := 30) hx hb dX6_undo_61 (by decide) ?_
          exact ih (j30 + 1)  (bput u30 0 j30 (u30 2 ((283 * (u30 6 0)) + (nI j30)).toNatClampNeg)) _ _ _ (by omega) (by omega) (mUn_v hinv) (lv_sub hl [1, 0] rfl) hP hI_6 hS X (by rw [← hF, L6_undo_30, if_neg c_4]) kx
    refine loop30 (283 + 1) 0  (bput (bput u 6 2 0) 6 0 (((bput u 6 2 0) 6 0) - 1)) _ _ _ (by omega) (by omega) (mUn_ini hI_1 c_2) (lv_sub hl [1, 0] rfl) hP hI_3 hS _ rfl (fun H locs ls hl hP hI hS => ?_)
    have hI_7 : mInv (L6_undo_30 (bput (bput u 6 2 0) 6 0 (((bput u 6 2 0) 6 0) - 1)) (283 + 1) 0) := hI
    refine lv_aload_n hx hb dX6_undo_64 rfl (lv_at hl 0 rfl) ?_
    refine va_get (D := D) (ci := 6) (C := RX6) (T := TX6) (N := 16) hx hb hts iX6 hown hk.1 hP 0 (wM_0 _ _ _) rfl 3 (by decide) (hts (.fieldLink RX6 32 "BottleLoopModel" "saves" "I") (List.mem_of_getElem? (i := 2) rfl)) (fun _ h9 => h9) rfl dX6_undo_65 ?_
    exact bret_Wi hx hb hr hP hI_7 hS hlocks dX6_undo_68 (by rw [← hF, F6_undo, if_neg c_2])
  · refine lv_aload_n hx hb dX6_undo_12 rfl (lv_at hl 0 rfl) ?_
    refine lv_iconst (v := 1) hx hb dX6_undo_13 (by decide) ?_
    refine bcall_Wi (va_runV (As := [.int 1]) (rest := []) ⟨hx, hb, hml, hown, hts⟩ (C6_fails l D cI q _ _ hq hP hI_1 1) (cwV 1 hts gX6_undo_X6_fails rfl rfl rfl ⟨rfl, bd_X6fails⟩ ⟨Nat.le_of_ble_eq_true rfl, Nat.le_of_ble_eq_true rfl⟩) (bPV hk (va_recv hk.1 hP (ci := 6) (q0 := 0) rfl (wM_0 _ _ _))) rfl rfl hl.1 rfl (lv_room (Nat.le_of_ble_eq_true rfl)) dX6_undo_14 ⟨Nat.zero_le _, Nat.zero_le _⟩) hS (fun H locs hP hI_8 hS => ?_)
    exact bret_Wi hx hb hr hP hI_8 hS hlocks dX6_undo_17 (by rw [← hF, F6_undo, if_pos c_2])
def L6_wouldCollect_24  : bU → Nat → Nat → bU
  | u24, 0, _ => u24
  | u24, n24 + 1, j24 => (if (283 : Int32) ≤ (nI j24) then u24 else (L6_wouldCollect_24 (bput u24 1 j24 (u24 0 j24)) n24 (j24 + 1)))
def L6_wouldCollect_72  : bU → Nat → Nat → bU
  | u72, 0, _ => u72
  | u72, n72 + 1, j72 => (if (283 : Int32) ≤ (nI j72) then u72 else (L6_wouldCollect_72 (bput u72 0 j72 (u72 1 j72)) n72 (j72 + 1)))
def F6_wouldCollect (u : bU) (a1 : Int32) (a2 : Int32) (a3 : Int32) : Int32 × bU := (if (F6_againstCollect u a1 (F6_of u a2 0) a3) ≤ 0 then (((F6_of (F6_collects (L6_wouldCollect_24 u (283 + 1) 0) a1 (F6_of u a2 0) a3).2 a2 4) - (F6_of (L6_wouldCollect_72 (F6_collects (L6_wouldCollect_24 u (283 + 1) 0) a1 (F6_of u a2 0) a3).2 (283 + 1) 0) a2 4)), (L6_wouldCollect_72 (F6_collects (L6_wouldCollect_24 u (283 + 1) 0) a1 (F6_of u a2 0) a3).2 (283 + 1) 0)) else ((-1), u))
set_option maxHeartbeats 4000000 in
set_option maxRecDepth 100000 in
theorem C6_wouldCollect (l : Launch) (D : va_G) (cI : ClassId) (q : Nat → Nat) (u : bU) (H0 : Heap) (hq : bInj 7 q) (hP : va_P D vwCl (wM cI q u) H0) (hI : mInv u) (a1 : Int32) (a2 : Int32) (a3 : Int32) (h_a1 : mS a1) (h_a2 : mB a2) : Met l yX6_wouldCollect wsX6_wouldCollect ({ frames := 4, cells := 0, slots := 0, locals := 93 }) (bP D [(cI, .int)] H0 [.ref (q 0), .int a1, .int a2, .int a3]) (bWi D (wM cI q) mInv (bA 7 q H0.size) (F6_wouldCollect u a1 a2 a3)) 0 0 (bA 7 q H0.size) := by
  refine Met.ofW (cc := cX6_wouldCollect) (maxL := 7) (ret := (some .int)) (by decide) rfl ?_
  intro p e s m args below meth c s₁ B hml hv
  obtain ⟨rfl, hH, hk⟩ := hv
  subst hH
  have hx := B.exec
  have hb := B.bytes
  have hr := B.returns
  have hts := atoms_spec (ws := wsX6_wouldCollect) B.pre
  have hown : s.vm.findClass RX6 = some m.cls := findClass_of_methodNamed B.named
  have hlocks := B.notSynchronized
  have hNB := mNB hI
  have hNS := mNS hI
  have hI0 := hI
  have iX6 : ∀ w ∈ wsX60, w ∈ wsX6_wouldCollect := by decide +kernel
  have hS : va_S (bA 7 q s.heap.size) s.heap s.heap [] := va_S.rf
  have hl := lv_entry ([.ref (q 0), .int a1, .int a2, .int a3]) (n := 7) (Nat.le_of_ble_eq_true rfl)
  rw [lg_entry_eq]
  generalize (lg_sl ([.ref (q 0), .int a1, .int a2, .int a3]) ++ List.replicate (7 - (lg_sl ([.ref (q 0), .int a1, .int a2, .int a3])).length) Slot.unset).toArray = ls at hl ⊢
  have hl : lv_has ls 7 [(0, .ref (q 0)), (1, .int a1), (2, .int a2), (3, .int a3)] := hl
  generalize hF : F6_wouldCollect u a1 a2 a3 = tgt
  refine lv_aload_n hx hb dX6_wouldCollect_0 rfl (lv_at hl 0 rfl) ?_
  refine lv_iload_n hx hb dX6_wouldCollect_1 rfl (lv_at hl 2 rfl) ?_
  refine lv_iconst (v := 0) hx hb dX6_wouldCollect_2 (by decide) ?_
  refine bcall_Ri (va_runV (As := [.int a2, .int 0]) (rest := []) ⟨hx, hb, hml, hown, hts⟩ (C6_of l D cI q _ _ hP hI a2 0 (mXB (w := 0) h_a2 (by decide))) (cwV 2 hts gX6_wouldCollect_X6_of rfl rfl rfl ⟨rfl, bd_X6of⟩ ⟨Nat.le_of_ble_eq_true rfl, Nat.le_of_ble_eq_true rfl⟩) (bPV hk (va_recv hk.1 hP (ci := 6) (q0 := 0) rfl (wM_0 _ _ _))) rfl rfl hl.1 rfl (lv_room (Nat.le_of_ble_eq_true rfl)) dX6_wouldCollect_3 ⟨Nat.zero_le _, Nat.zero_le _⟩) hS (fun locs hS => ?_)
  refine lv_istore (lv' := [(4, .int (F6_of u a2 0)), (0, .ref (q 0)), (1, .int a1), (2, .int a2), (3, .int a3)]) hx hb dX6_wouldCollect_6 hl (by decide) rfl (fun ls hl => ?_)
  refine lv_aload_n hx hb dX6_wouldCollect_8 rfl (lv_at hl 1 rfl) ?_
  refine lv_iload_n hx hb dX6_wouldCollect_9 rfl (lv_at hl 2 rfl) ?_
  refine lv_iload hx hb dX6_wouldCollect_10 (lv_at hl 0 rfl) ?_
  refine lv_iload_n hx hb dX6_wouldCollect_12 rfl (lv_at hl 4 rfl) ?_
  refine bcall_Ri (va_runV (As := [.int a1, .int (F6_of u a2 0), .int a3]) (rest := []) ⟨hx, hb, hml, hown, hts⟩ (C6_againstCollect l D cI q _ _ hP hI a1 (F6_of u a2 0) a3 h_a1) (cwV 3 hts gX6_wouldCollect_X6_againstCollect rfl rfl rfl ⟨rfl, bd_X6againstCollect⟩ ⟨Nat.le_of_ble_eq_true rfl, Nat.le_of_ble_eq_true rfl⟩) (bPV hk (va_recv hk.1 hP (ci := 6) (q0 := 0) rfl (wM_0 _ _ _))) rfl rfl hl.1 rfl (lv_room (Nat.le_of_ble_eq_true rfl)) dX6_wouldCollect_13 ⟨Nat.zero_le _, Nat.zero_le _⟩) hS (fun locs hS => ?_)
  refine lv_if_le (tgt := 21) hx hb dX6_wouldCollect_16 (by decide) (fun c_1 => ?_) (fun c_1 => ?_)
  · refine lv_iconst (v := 0) hx hb dX6_wouldCollect_21 (by decide) ?_
    refine lv_istore (lv' := [(5, .int 0), (4, .int (F6_of u a2 0)), (0, .ref (q 0)), (1, .int a1), (2, .int a2), (3, .int a3)]) hx hb dX6_wouldCollect_22 hl (by decide) rfl (fun ls hl => ?_)
    have loop24 : ∀ (n24 j24 : Nat) (u24 : bU) (H : Heap) (locs : List Loc) (ls : Array Slot), j24 ≤ 283 → 283 + 1 ≤ n24 + j24 → mSp j24 u24 → lv_has ls 7 [(0, .ref (q 0)), (1, .int a1), (2, .int a2), (3, .int a3), (4, .int (F6_of u a2 0)), (5, .int (nI j24))] → va_P D vwCl (wM cI q u24) H → mInv u24 → va_S (bA 7 q s.heap.size) s.heap H locs → ∀ X : bU, L6_wouldCollect_24 u24 n24 j24 = X → (∀ (H : Heap) (locs : List Loc) (ls : Array Slot), lv_has ls 7 [(0, .ref (q 0)), (1, .int a1), (2, .int a2), (3, .int a3), (4, .int (F6_of u a2 0))] → va_P D vwCl (wM cI q X) H → mInv X → mSp 283 X → va_S (bA 7 q s.heap.size) s.heap H locs → W p l e (headSpec wsX6_wouldCollect ({ frames := 4, cells := 0, slots := 0, locals := 93 })).room s m ([.ref (q 0), .int a1, .int a2, .int a3] : List Value).toArray below meth c H locs 0 0 (MQ below (bWi D (wM cI q) mInv (bA 7 q s.heap.size) tgt) ([.ref (q 0), .int a1, .int a2, .int a3] : List Value).toArray s 0 0 (bA 7 q s.heap.size)) (F0 m 52 ls [])) → W p l e (headSpec wsX6_wouldCollect ({ frames := 4, cells := 0, slots := 0, locals := 93 })).room s m ([.ref (q 0), .int a1, .int a2, .int a3] : List Value).toArray below meth c H locs 0 0 (MQ below (bWi D (wM cI q) mInv (bA 7 q s.heap.size) tgt) ([.ref (q 0), .int a1, .int a2, .int a3] : List Value).toArray s 0 0 (bA 7 q s.heap.size)) (F0 m 24 ls []) := by
      intro n24
      induction n24 with
      | zero => intro j24 u24 H locs ls hj hn; exact absurd hn (by omega)
      | succ n24 ih =>
        intro j24 u24 H locs ls hj hn hinv hl hP hI hS X hF kx
        refine lv_iload hx hb dX6_wouldCollect_24 (lv_at hl 5 rfl) ?_
        refine lv_sipush (v := 283) hx hb dX6_wouldCollect_26 (by decide) ?_
        refine lv_icmp_ge (tgt := 52) hx hb dX6_wouldCollect_29 (by decide) (fun c_2 => ?_) (fun c_2 => ?_)
        · obtain rfl : X = u24 := by rw [← hF, L6_wouldCollect_24, if_pos c_2]
          exact kx _ _ _ (lv_sub hl [0, 1, 2, 3, 4] rfl) hP hI (mSp_out hinv c_2 hj) hS
        · have hlt_3 : j24 < 283 := bLt c_2 (by omega) (by decide)
          refine lv_aload_n hx hb dX6_wouldCollect_32 rfl (lv_at hl 0 rfl) ?_
          refine va_get (D := D) (ci := 6) (C := RX6) (T := TX6) (N := 16) hx hb hts iX6 hown hk.1 hP 0 (wM_0 _ _ _) rfl 1 (by decide) (hts (.fieldLink RX6 13 "BottleLoopModel" "spare" "[I") (List.mem_of_getElem? (i := 1) rfl)) (fun _ h9 => h9) rfl dX6_wouldCollect_33 ?_
          refine lv_iload hx hb dX6_wouldCollect_36 (lv_at hl 5 rfl) ?_
          refine lv_aload_n hx hb dX6_wouldCollect_38 rfl (lv_at hl 0 rfl) ?_
          refine va_get (D := D) (ci := 6) (C := RX6) (T := TX6) (N := 16) hx hb hts iX6 hown hk.1 hP 0 (wM_0 _ _ _) rfl 0 (by decide) (hts (.fieldLink RX6 7 "BottleLoopModel" "v" "[I") (List.mem_of_getElem? (i := 2) rfl)) (fun _ h9 => h9) rfl dX6_wouldCollect_39 ?_
          refine lv_iload hx hb dX6_wouldCollect_42 (lv_at hl 5 rfl) ?_
          refine va_iald hx hb hk.1 hP 1 0 (wM_1 _ _ _) rfl (vp_in_nI (by omega) (by decide)) dX6_wouldCollect_44 ?_
          refine lv_topi (fun z9 hz9 => ?_)
          obtain rfl : z9 = (u24 0 j24) := hz9.trans (by rw [mC (j := j24) (by omega)])
          refine va_iast hx hb hk.1 hP (wM_D hq) hS 2 0 (wM_2 _ _ _) rfl (vp_in_nI (by omega) (by decide)) dX6_wouldCollect_45 (fun H locs hP _ hS => ?_)
          rw [mC (j := j24) (by omega)] at hP
          have hP : va_P D vwCl (wM cI q (bput u24 1 j24 (u24 0 j24))) H := pM_1 hP
          have hI_4 : mInv (bput u24 1 j24 (u24 0 j24)) := mInv_c (k := 1) hI (by decide) (by decide) (by decide)
          refine lv_iinc (v := (nI (j24 + 1))) (lv' := [(5, .int (nI (j24 + 1))), (0, .ref (q 0)), (1, .int a1), (2, .int a2), (3, .int a3), (4, .int (F6_of u a2 0))]) hx hb dX6_wouldCollect_46 hl (k := 5) rfl (bInc j24) (by decide) rfl (fun ls hl => ?_)
          refine lv_goto (tgt := 24) hx hb dX6_wouldCollect_49 (by decide) ?_
          exact ih (j24 + 1)  (bput u24 1 j24 (u24 0 j24)) _ _ _ (by omega) (by omega) (mSp_step hI hinv (by omega)) (lv_sub hl [1, 2, 3, 4, 5, 0] rfl) hP hI_4 hS X (by rw [← hF, L6_wouldCollect_24, if_neg c_2]) kx
    refine loop24 (283 + 1) 0  u _ _ _ (by omega) (by omega) (fun k h9 => absurd h9 (by omega)) (lv_sub hl [2, 3, 4, 5, 1, 0] rfl) hP hI hS _ rfl (fun H locs ls hl hP hI hout hS => ?_)
    have hI_5 : mInv (L6_wouldCollect_24 u (283 + 1) 0) := hI
    have ho_6 := hout
    refine lv_aload_n hx hb dX6_wouldCollect_52 rfl (lv_at hl 0 rfl) ?_
    refine lv_iload_n hx hb dX6_wouldCollect_53 rfl (lv_at hl 1 rfl) ?_
    refine lv_iload hx hb dX6_wouldCollect_54 (lv_at hl 4 rfl) ?_
    refine lv_iload_n hx hb dX6_wouldCollect_56 rfl (lv_at hl 3 rfl) ?_
    refine bcall_Wi (va_runV (As := [.int a1, .int (F6_of u a2 0), .int a3]) (rest := []) ⟨hx, hb, hml, hown, hts⟩ (C6_collects l D cI q _ _ hq hP hI_5 a1 (F6_of u a2 0) a3 h_a1 (mK_of hI0 h_a2)) (cwV 3 hts gX6_wouldCollect_X6_collects rfl rfl rfl ⟨rfl, bd_X6collects⟩ ⟨Nat.le_of_ble_eq_true rfl, Nat.le_of_ble_eq_true rfl⟩) (bPV hk (va_recv hk.1 hP (ci := 6) (q0 := 0) rfl (wM_0 _ _ _))) rfl rfl hl.1 rfl (lv_room (Nat.le_of_ble_eq_true rfl)) dX6_wouldCollect_57 ⟨Nat.zero_le _, Nat.zero_le _⟩) hS (fun H locs hP hI_7 hS => ?_)
    refine lv_pop hx hb dX6_wouldCollect_60 rfl ?_
    refine lv_aload_n hx hb dX6_wouldCollect_61 rfl (lv_at hl 0 rfl) ?_
    refine lv_iload_n hx hb dX6_wouldCollect_62 rfl (lv_at hl 2 rfl) ?_
    refine lv_iconst (v := 4) hx hb dX6_wouldCollect_63 (by decide) ?_
    refine bcall_Ri (va_runV (As := [.int a2, .int 4]) (rest := []) ⟨hx, hb, hml, hown, hts⟩ (C6_of l D cI q _ _ hP hI_7 a2 4 (mXB (w := 4) h_a2 (by decide))) (cwV 2 hts gX6_wouldCollect_X6_of rfl rfl rfl ⟨rfl, bd_X6of⟩ ⟨Nat.le_of_ble_eq_true rfl, Nat.le_of_ble_eq_true rfl⟩) (bPV hk (va_recv hk.1 hP (ci := 6) (q0 := 0) rfl (wM_0 _ _ _))) rfl rfl hl.1 rfl (lv_room (Nat.le_of_ble_eq_true rfl)) dX6_wouldCollect_64 ⟨Nat.zero_le _, Nat.zero_le _⟩) hS (fun locs hS => ?_)
    refine lv_istore (lv' := [(5, .int (F6_of (F6_collects (L6_wouldCollect_24 u (283 + 1) 0) a1 (F6_of u a2 0) a3).2 a2 4)), (0, .ref (q 0)), (1, .int a1), (2, .int a2), (3, .int a3), (4, .int (F6_of u a2 0))]) hx hb dX6_wouldCollect_67 hl (by decide) rfl (fun ls hl => ?_)
    refine lv_iconst (v := 0) hx hb dX6_wouldCollect_69 (by decide) ?_
    refine lv_istore (lv' := [(6, .int 0), (5, .int (F6_of (F6_collects (L6_wouldCollect_24 u (283 + 1) 0) a1 (F6_of u a2 0) a3).2 a2 4)), (0, .ref (q 0)), (1, .int a1), (2, .int a2), (3, .int a3), (4, .int (F6_of u a2 0))]) hx hb dX6_wouldCollect_70 hl (by decide) rfl (fun ls hl => ?_)
    have hNB72 := mNB hI_7
    have hNS72 := mNS hI_7
    have loop72 : ∀ (n72 j72 : Nat) (u72 : bU) (H : Heap) (locs : List Loc) (ls : Array Slot), j72 ≤ 283 → 283 + 1 ≤ n72 + j72 → mSp 283 u72 → lv_has ls 7 [(0, .ref (q 0)), (1, .int a1), (2, .int a2), (3, .int a3), (4, .int (F6_of u a2 0)), (5, .int (F6_of (F6_collects (L6_wouldCollect_24 u (283 + 1) 0) a1 (F6_of u a2 0) a3).2 a2 4)), (6, .int (nI j72))] → va_P D vwCl (wM cI q u72) H → mInv u72 → va_S (bA 7 q s.heap.size) s.heap H locs → ∀ X : bU, L6_wouldCollect_72 u72 n72 j72 = X → (∀ (H : Heap) (locs : List Loc) (ls : Array Slot), lv_has ls 7 [(0, .ref (q 0)), (1, .int a1), (2, .int a2), (3, .int a3), (4, .int (F6_of u a2 0)), (5, .int (F6_of (F6_collects (L6_wouldCollect_24 u (283 + 1) 0) a1 (F6_of u a2 0) a3).2 a2 4))] → va_P D vwCl (wM cI q X) H → mInv X → va_S (bA 7 q s.heap.size) s.heap H locs → W p l e (headSpec wsX6_wouldCollect ({ frames := 4, cells := 0, slots := 0, locals := 93 })).room s m ([.ref (q 0), .int a1, .int a2, .int a3] : List Value).toArray below meth c H locs 0 0 (MQ below (bWi D (wM cI q) mInv (bA 7 q s.heap.size) tgt) ([.ref (q 0), .int a1, .int a2, .int a3] : List Value).toArray s 0 0 (bA 7 q s.heap.size)) (F0 m 100 ls [])) → W p l e (headSpec wsX6_wouldCollect ({ frames := 4, cells := 0, slots := 0, locals := 93 })).room s m ([.ref (q 0), .int a1, .int a2, .int a3] : List Value).toArray below meth c H locs 0 0 (MQ below (bWi D (wM cI q) mInv (bA 7 q s.heap.size) tgt) ([.ref (q 0), .int a1, .int a2, .int a3] : List Value).toArray s 0 0 (bA 7 q s.heap.size)) (F0 m 72 ls []) := by
      intro n72
      induction n72 with
      | zero => intro j72 u72 H locs ls hj hn; exact absurd hn (by omega)
      | succ n72 ih =>
        intro j72 u72 H locs ls hj hn hinv hl hP hI hS X hF kx
        refine lv_iload hx hb dX6_wouldCollect_72 (lv_at hl 6 rfl) ?_
        refine lv_sipush (v := 283) hx hb dX6_wouldCollect_74 (by decide) ?_
        refine lv_icmp_ge (tgt := 100) hx hb dX6_wouldCollect_77 (by decide) (fun c_8 => ?_) (fun c_8 => ?_)
        · obtain rfl : X = u72 := by rw [← hF, L6_wouldCollect_72, if_pos c_8]
          exact kx _ _ _ (lv_sub hl [0, 1, 2, 3, 4, 5] rfl) hP hI hS
        · have hlt_9 : j72 < 283 := bLt c_8 (by omega) (by decide)
          refine lv_aload_n hx hb dX6_wouldCollect_80 rfl (lv_at hl 0 rfl) ?_
          refine va_get (D := D) (ci := 6) (C := RX6) (T := TX6) (N := 16) hx hb hts iX6 hown hk.1 hP 0 (wM_0 _ _ _) rfl 0 (by decide) (hts (.fieldLink RX6 7 "BottleLoopModel" "v" "[I") (List.mem_of_getElem? (i := 2) rfl)) (fun _ h9 => h9) rfl dX6_wouldCollect_81 ?_
          refine lv_iload hx hb dX6_wouldCollect_84 (lv_at hl 6 rfl) ?_
          refine lv_aload_n hx hb dX6_wouldCollect_86 rfl (lv_at hl 0 rfl) ?_
          refine va_get (D := D) (ci := 6) (C := RX6) (T := TX6) (N := 16) hx hb hts iX6 hown hk.1 hP 0 (wM_0 _ _ _) rfl 1 (by decide) (hts (.fieldLink RX6 13 "BottleLoopModel" "spare" "[I") (List.mem_of_getElem? (i := 1) rfl)) (fun _ h9 => h9) rfl dX6_wouldCollect_87 ?_
          refine lv_iload hx hb dX6_wouldCollect_90 (lv_at hl 6 rfl) ?_
          refine va_iald hx hb hk.1 hP 2 0 (wM_2 _ _ _) rfl (vp_in_nI (by omega) (by decide)) dX6_wouldCollect_92 ?_
          refine lv_topi (fun z9 hz9 => ?_)
          obtain rfl : z9 = (u72 1 j72) := hz9.trans (by rw [mC (j := j72) (by omega)])
          refine va_iast hx hb hk.1 hP (wM_D hq) hS 1 0 (wM_1 _ _ _) rfl (vp_in_nI (by omega) (by decide)) dX6_wouldCollect_93 (fun H locs hP _ hS => ?_)
          rw [mC (j := j72) (by omega)] at hP
          have hP : va_P D vwCl (wM cI q (bput u72 0 j72 (u72 1 j72))) H := pM_0 hP
          have hI_10 : mInv (bput u72 0 j72 (u72 1 j72)) := mInv_sp hI hinv (by omega)
          refine lv_iinc (v := (nI (j72 + 1))) (lv' := [(6, .int (nI (j72 + 1))), (0, .ref (q 0)), (1, .int a1), (2, .int a2), (3, .int a3), (4, .int (F6_of u a2 0)), (5, .int (F6_of (F6_collects (L6_wouldCollect_24 u (283 + 1) 0) a1 (F6_of u a2 0) a3).2 a2 4))]) hx hb dX6_wouldCollect_94 hl (k := 6) rfl (bInc j72) (by decide) rfl (fun ls hl => ?_)
          refine lv_goto (tgt := 72) hx hb dX6_wouldCollect_97 (by decide) ?_
          exact ih (j72 + 1)  (bput u72 0 j72 (u72 1 j72)) _ _ _ (by omega) (by omega) (mSp_v hinv) (lv_sub hl [1, 2, 3, 4, 5, 6, 0] rfl) hP hI_10 hS X (by rw [← hF, L6_wouldCollect_72, if_neg c_8]) kx
    refine loop72 (283 + 1) 0  (F6_collects (L6_wouldCollect_24 u (283 + 1) 0) a1 (F6_of u a2 0) a3).2 _ _ _ (by omega) (by omega) (mSp_congr ho_6 (collects_1 _ _ _ _ (by decide))) (lv_sub hl [2, 3, 4, 5, 6, 1, 0] rfl) hP hI_7 hS _ rfl (fun H locs ls hl hP hI hS => ?_)
    have hI_11 : mInv (L6_wouldCollect_72 (F6_collects (L6_wouldCollect_24 u (283 + 1) 0) a1 (F6_of u a2 0) a3).2 (283 + 1) 0) := hI
    refine lv_iload hx hb dX6_wouldCollect_100 (lv_at hl 5 rfl) ?_
    refine lv_aload_n hx hb dX6_wouldCollect_102 rfl (lv_at hl 0 rfl) ?_
    refine lv_iload_n hx hb dX6_wouldCollect_103 rfl (lv_at hl 2 rfl) ?_
    refine lv_iconst (v := 4) hx hb dX6_wouldCollect_104 (by decide) ?_
    refine bcall_Ri (va_runV (As := [.int a2, .int 4]) (rest := [.int (F6_of (F6_collects (L6_wouldCollect_24 u (283 + 1) 0) a1 (F6_of u a2 0) a3).2 a2 4)]) ⟨hx, hb, hml, hown, hts⟩ (C6_of l D cI q _ _ hP hI_11 a2 4 (mXB (w := 4) h_a2 (by decide))) (cwV 2 hts gX6_wouldCollect_X6_of rfl rfl rfl ⟨rfl, bd_X6of⟩ ⟨Nat.le_of_ble_eq_true rfl, Nat.le_of_ble_eq_true rfl⟩) (bPV hk (va_recv hk.1 hP (ci := 6) (q0 := 0) rfl (wM_0 _ _ _))) rfl rfl hl.1 rfl (lv_room (Nat.le_of_ble_eq_true rfl)) dX6_wouldCollect_105 ⟨Nat.zero_le _, Nat.zero_le _⟩) hS (fun locs hS => ?_)
    refine lv_isub hx hb dX6_wouldCollect_108 ?_
    exact bret_Wi hx hb hr hP hI_11 hS hlocks dX6_wouldCollect_109 (by rw [← hF, F6_wouldCollect, if_pos c_1])
  · refine lv_iconst (v := (-1)) hx hb dX6_wouldCollect_19 (by decide) ?_
    exact bret_Wi hx hb hr hP hI hS hlocks dX6_wouldCollect_20 (by rw [← hF, F6_wouldCollect, if_neg c_1])
def F6_collected (u : bU) (a1 : Int32) (a2 : Int32) (a3 : Int32) : Int32 × bU := (if (F6_isShop (bput u 6 2 0) a1) = 0 then ((F6_fails (bput u 6 2 0) 1).1, (F6_fails (bput u 6 2 0) 1).2) else (if (F6_isBrand (bput u 6 2 0) a2) = 0 then ((F6_fails (bput u 6 2 0) 1).1, (F6_fails (bput u 6 2 0) 1).2) else (if (F6_in a3 1 50) = 0 then ((F6_fails (bput u 6 2 0) 2).1, (F6_fails (bput u 6 2 0) 2).2) else ((F6_wouldCollect (bput u 6 2 0) a1 a2 a3).1, (F6_wouldCollect (bput u 6 2 0) a1 a2 a3).2))))
set_option maxHeartbeats 4000000 in
set_option maxRecDepth 100000 in
theorem C6_collected (l : Launch) (D : va_G) (cI : ClassId) (q : Nat → Nat) (u : bU) (H0 : Heap) (hq : bInj 7 q) (hP : va_P D vwCl (wM cI q u) H0) (hI : mInv u) (a1 : Int32) (a2 : Int32) (a3 : Int32) : Met l yX6_collected wsX6_collected ({ frames := 5, cells := 0, slots := 0, locals := 119 }) (bP D [(cI, .int)] H0 [.ref (q 0), .int a1, .int a2, .int a3]) (bWi D (wM cI q) mInv (bA 7 q H0.size) (F6_collected u a1 a2 a3)) 0 0 (bA 7 q H0.size) := by
  refine Met.ofW (cc := cX6_collected) (maxL := 4) (ret := (some .int)) (by decide) rfl ?_
  intro p e s m args below meth c s₁ B hml hv
  obtain ⟨rfl, hH, hk⟩ := hv
  subst hH
  have hx := B.exec
  have hb := B.bytes
  have hr := B.returns
  have hts := atoms_spec (ws := wsX6_collected) B.pre
  have hown : s.vm.findClass RX6 = some m.cls := findClass_of_methodNamed B.named
  have hlocks := B.notSynchronized
  have hNB := mNB hI
  have hNS := mNS hI
  have hI0 := hI
  have iX6 : ∀ w ∈ wsX60, w ∈ wsX6_collected := by decide +kernel
  have hS : va_S (bA 7 q s.heap.size) s.heap s.heap [] := va_S.rf
  have hl := lv_entry ([.ref (q 0), .int a1, .int a2, .int a3]) (n := 4) (Nat.le_of_ble_eq_true rfl)
  rw [lg_entry_eq]
  generalize (lg_sl ([.ref (q 0), .int a1, .int a2, .int a3]) ++ List.replicate (4 - (lg_sl ([.ref (q 0), .int a1, .int a2, .int a3])).length) Slot.unset).toArray = ls at hl ⊢
  have hl : lv_has ls 4 [(0, .ref (q 0)), (1, .int a1), (2, .int a2), (3, .int a3)] := hl
  generalize hF : F6_collected u a1 a2 a3 = tgt
  refine lv_aload_n hx hb dX6_collected_0 rfl (lv_at hl 0 rfl) ?_
  refine lv_iconst (v := 0) hx hb dX6_collected_1 (by decide) ?_
  refine va_put (D := D) (ci := 6) (v := .int 0) (ty := .int) (C := RX6) (T := TX6) (N := 16) hx hb hts iX6 tyX6 tyX6_ok nmX6 hown hk.1 hP (wM_D hq) hS 0 (wM_0 _ _ _) rfl 6 (by decide) (hts (.fieldLink RX6 28 "BottleLoopModel" "thrown" "I") (List.mem_of_getElem? (i := 1) rfl)) (fun _ h9 => h9) rfl (by decide +kernel) rfl rfl (Nat.le_of_ble_eq_true rfl) dX6_collected_2 (fun H locs hP _ hS => ?_)
  have hP : va_P D vwCl (wM cI q (bput u 6 2 0)) H := pM_f2 hP
  have hI_1 : mInv (bput u 6 2 0) := mInv_sc (k := 2) hI (by decide) (by decide) (by decide)
  refine lv_aload_n hx hb dX6_collected_5 rfl (lv_at hl 0 rfl) ?_
  refine lv_iload_n hx hb dX6_collected_6 rfl (lv_at hl 1 rfl) ?_
  refine bcall_Ri (va_runV (As := [.int a1]) (rest := []) ⟨hx, hb, hml, hown, hts⟩ (C6_isShop l D cI q _ _ hP hI_1 a1) (cwV 1 hts gX6_collected_X6_isShop rfl rfl rfl ⟨rfl, bd_X6isShop⟩ ⟨Nat.le_of_ble_eq_true rfl, Nat.le_of_ble_eq_true rfl⟩) (bPV hk (va_recv hk.1 hP (ci := 6) (q0 := 0) rfl (wM_0 _ _ _))) rfl rfl hl.1 rfl (lv_room (Nat.le_of_ble_eq_true rfl)) dX6_collected_7 ⟨Nat.zero_le _, Nat.zero_le _⟩) hS (fun locs hS => ?_)
  refine lv_if_eq (tgt := 21) hx hb dX6_collected_10 (by decide) (fun c_2 => ?_) (fun c_2 => ?_)
  · refine lv_aload_n hx hb dX6_collected_21 rfl (lv_at hl 0 rfl) ?_
    refine lv_iconst (v := 1) hx hb dX6_collected_22 (by decide) ?_
    refine bcall_Wi (va_runV (As := [.int 1]) (rest := []) ⟨hx, hb, hml, hown, hts⟩ (C6_fails l D cI q _ _ hq hP hI_1 1) (cwV 1 hts gX6_collected_X6_fails rfl rfl rfl ⟨rfl, bd_X6fails⟩ ⟨Nat.le_of_ble_eq_true rfl, Nat.le_of_ble_eq_true rfl⟩) (bPV hk (va_recv hk.1 hP (ci := 6) (q0 := 0) rfl (wM_0 _ _ _))) rfl rfl hl.1 rfl (lv_room (Nat.le_of_ble_eq_true rfl)) dX6_collected_23 ⟨Nat.zero_le _, Nat.zero_le _⟩) hS (fun H locs hP hI_3 hS => ?_)
    exact bret_Wi hx hb hr hP hI_3 hS hlocks dX6_collected_26 (by rw [← hF, F6_collected, if_pos c_2])
  · have hm_4 : mS a1 := mS_is hI_1 c_2
    refine lv_aload_n hx hb dX6_collected_13 rfl (lv_at hl 0 rfl) ?_
    refine lv_iload_n hx hb dX6_collected_14 rfl (lv_at hl 2 rfl) ?_
    refine bcall_Ri (va_runV (As := [.int a2]) (rest := []) ⟨hx, hb, hml, hown, hts⟩ (C6_isBrand l D cI q _ _ hP hI_1 a2) (cwV 1 hts gX6_collected_X6_isBrand rfl rfl rfl ⟨rfl, bd_X6isBrand⟩ ⟨Nat.le_of_ble_eq_true rfl, Nat.le_of_ble_eq_true rfl⟩) (bPV hk (va_recv hk.1 hP (ci := 6) (q0 := 0) rfl (wM_0 _ _ _))) rfl rfl hl.1 rfl (lv_room (Nat.le_of_ble_eq_true rfl)) dX6_collected_15 ⟨Nat.zero_le _, Nat.zero_le _⟩) hS (fun locs hS => ?_)
    refine lv_if_ne (tgt := 27) hx hb dX6_collected_18 (by decide) (fun c_5 => ?_) (fun c_5 => ?_)
    · have hm_6 : mB a2 := mB_is hI_1 c_5
      refine lv_iload_n hx hb dX6_collected_27 rfl (lv_at hl 3 rfl) ?_
      refine lv_iconst (v := 1) hx hb dX6_collected_28 (by decide) ?_
      refine lv_bipush (v := 50) hx hb dX6_collected_29 (by decide) ?_
      refine bcall_Ri (va_runS (As := [.int a3, .int 1, .int 50]) (rest := []) ⟨hx, hb, hml, hown, hts⟩ (C6_in l D cI q _ a3 1 50) (va_cwS 3 hts gX6_collected_X6_in rfl rfl rfl bd_X6in ⟨Nat.le_of_ble_eq_true rfl, Nat.le_of_ble_eq_true rfl⟩) (bPS hk) rfl rfl hl.1 rfl (lv_room (Nat.le_of_ble_eq_true rfl)) dX6_collected_31 ⟨Nat.zero_le _, Nat.zero_le _⟩) hS (fun locs hS => ?_)
      refine lv_if_eq (tgt := 47) hx hb dX6_collected_34 (by decide) (fun c_7 => ?_) (fun c_7 => ?_)
      · refine lv_aload_n hx hb dX6_collected_47 rfl (lv_at hl 0 rfl) ?_
        refine lv_iconst (v := 2) hx hb dX6_collected_48 (by decide) ?_
        refine bcall_Wi (va_runV (As := [.int 2]) (rest := []) ⟨hx, hb, hml, hown, hts⟩ (C6_fails l D cI q _ _ hq hP hI_1 2) (cwV 1 hts gX6_collected_X6_fails rfl rfl rfl ⟨rfl, bd_X6fails⟩ ⟨Nat.le_of_ble_eq_true rfl, Nat.le_of_ble_eq_true rfl⟩) (bPV hk (va_recv hk.1 hP (ci := 6) (q0 := 0) rfl (wM_0 _ _ _))) rfl rfl hl.1 rfl (lv_room (Nat.le_of_ble_eq_true rfl)) dX6_collected_49 ⟨Nat.zero_le _, Nat.zero_le _⟩) hS (fun H locs hP hI_8 hS => ?_)
        exact bret_Wi hx hb hr hP hI_8 hS hlocks dX6_collected_52 (by rw [← hF, F6_collected, if_neg c_2, if_neg c_5, if_pos c_7])
      · refine lv_aload_n hx hb dX6_collected_37 rfl (lv_at hl 0 rfl) ?_
        refine lv_iload_n hx hb dX6_collected_38 rfl (lv_at hl 1 rfl) ?_
        refine lv_iload_n hx hb dX6_collected_39 rfl (lv_at hl 2 rfl) ?_
        refine lv_iload_n hx hb dX6_collected_40 rfl (lv_at hl 3 rfl) ?_
        refine bcall_Wi (va_runV (As := [.int a1, .int a2, .int a3]) (rest := []) ⟨hx, hb, hml, hown, hts⟩ (C6_wouldCollect l D cI q _ _ hq hP hI_1 a1 a2 a3 hm_4 hm_6) (cwV 3 hts gX6_collected_X6_wouldCollect rfl rfl rfl ⟨rfl, bd_X6wouldCollect⟩ ⟨Nat.le_of_ble_eq_true rfl, Nat.le_of_ble_eq_true rfl⟩) (bPV hk (va_recv hk.1 hP (ci := 6) (q0 := 0) rfl (wM_0 _ _ _))) rfl rfl hl.1 rfl (lv_room (Nat.le_of_ble_eq_true rfl)) dX6_collected_41 ⟨Nat.zero_le _, Nat.zero_le _⟩) hS (fun H locs hP hI_9 hS => ?_)
        refine lv_goto (tgt := 52) hx hb dX6_collected_44 (by decide) ?_
        exact bret_Wi hx hb hr hP hI_9 hS hlocks dX6_collected_52 (by rw [← hF, F6_collected, if_neg c_2, if_neg c_5, if_neg c_7])
    · refine lv_aload_n hx hb dX6_collected_21 rfl (lv_at hl 0 rfl) ?_
      refine lv_iconst (v := 1) hx hb dX6_collected_22 (by decide) ?_
      refine bcall_Wi (va_runV (As := [.int 1]) (rest := []) ⟨hx, hb, hml, hown, hts⟩ (C6_fails l D cI q _ _ hq hP hI_1 1) (cwV 1 hts gX6_collected_X6_fails rfl rfl rfl ⟨rfl, bd_X6fails⟩ ⟨Nat.le_of_ble_eq_true rfl, Nat.le_of_ble_eq_true rfl⟩) (bPV hk (va_recv hk.1 hP (ci := 6) (q0 := 0) rfl (wM_0 _ _ _))) rfl rfl hl.1 rfl (lv_room (Nat.le_of_ble_eq_true rfl)) dX6_collected_23 ⟨Nat.zero_le _, Nat.zero_le _⟩) hS (fun H locs hP hI_10 hS => ?_)
      exact bret_Wi hx hb hr hP hI_10 hS hlocks dX6_collected_26 (by rw [← hF, F6_collected, if_neg c_2, if_pos c_5])
def L6_shopFor_7 (u : bU) (a1 : Int32) : Nat → Nat → Int32 → Int32 → Int32 × Int32
  | 0, _, x2_7, x3_7 => (x2_7, x3_7)
  | n7 + 1, j7, x2_7, x3_7 => (if (u 0 1) ≤ (nI j7) then (x2_7, x3_7) else (if (F6_least 50 (F6_least ((F6_emptiesOf u (nI j7) a1) / 12) (F6_ofShop u (nI j7) 1))) ≤ x3_7 then (if (F6_least 50 (F6_least ((F6_emptiesOf u (nI j7) a1) / 12) (F6_ofShop u (nI j7) 1))) ≤ x3_7 then (L6_shopFor_7 u a1 n7 (j7 + 1) x2_7 x3_7) else (L6_shopFor_7 u a1 n7 (j7 + 1) x2_7 (F6_least 50 (F6_least ((F6_emptiesOf u (nI j7) a1) / 12) (F6_ofShop u (nI j7) 1))))) else (if (F6_least 50 (F6_least ((F6_emptiesOf u (nI j7) a1) / 12) (F6_ofShop u (nI j7) 1))) ≤ x3_7 then (L6_shopFor_7 u a1 n7 (j7 + 1) (nI j7) x3_7) else (L6_shopFor_7 u a1 n7 (j7 + 1) (nI j7) (F6_least 50 (F6_least ((F6_emptiesOf u (nI j7) a1) / 12) (F6_ofShop u (nI j7) 1)))))))
def F6_shopFor (u : bU) (a1 : Int32) : Int32 := (L6_shopFor_7 u a1 ((u 0 1).toNatClampNeg + 1) 0 (-1) 0).1
set_option maxHeartbeats 4000000 in
set_option maxRecDepth 100000 in
theorem C6_shopFor (l : Launch) (D : va_G) (cI : ClassId) (q : Nat → Nat) (u : bU) (H0 : Heap) (hP : va_P D vwCl (wM cI q u) H0) (hI : mInv u) (a1 : Int32) : Met l yX6_shopFor wsX6_shopFor ({ frames := 3, cells := 0, slots := 0, locals := 67 }) (bP D [(cI, .int)] H0 [.ref (q 0), .int a1]) (bRi H0 (F6_shopFor u a1)) 0 0 (fun _ => False) := by
  refine Met.ofW (cc := cX6_shopFor) (maxL := 6) (ret := (some .int)) (by decide) rfl ?_
  intro p e s m args below meth c s₁ B hml hv
  obtain ⟨rfl, hH, hk⟩ := hv
  subst hH
  have hx := B.exec
  have hb := B.bytes
  have hr := B.returns
  have hts := atoms_spec (ws := wsX6_shopFor) B.pre
  have hown : s.vm.findClass RX6 = some m.cls := findClass_of_methodNamed B.named
  have hlocks := B.notSynchronized
  have hNB := mNB hI
  have hNS := mNS hI
  have hI0 := hI
  have iX6 : ∀ w ∈ wsX60, w ∈ wsX6_shopFor := by decide +kernel
  have hS : va_S (fun _ => False) s.heap s.heap [] := va_S.rf
  have hl := lv_entry ([.ref (q 0), .int a1]) (n := 6) (Nat.le_of_ble_eq_true rfl)
  rw [lg_entry_eq]
  generalize (lg_sl ([.ref (q 0), .int a1]) ++ List.replicate (6 - (lg_sl ([.ref (q 0), .int a1])).length) Slot.unset).toArray = ls at hl ⊢
  have hl : lv_has ls 6 [(0, .ref (q 0)), (1, .int a1)] := hl
  generalize hF : F6_shopFor u a1 = tgt
  refine lv_iconst (v := (-1)) hx hb dX6_shopFor_0 (by decide) ?_
  refine lv_istore_n (lv' := [(2, .int (-1)), (0, .ref (q 0)), (1, .int a1)]) hx hb dX6_shopFor_1 rfl hl (by decide) rfl (fun ls hl => ?_)
  refine lv_iconst (v := 0) hx hb dX6_shopFor_2 (by decide) ?_
  refine lv_istore_n (lv' := [(3, .int 0), (2, .int (-1)), (0, .ref (q 0)), (1, .int a1)]) hx hb dX6_shopFor_3 rfl hl (by decide) rfl (fun ls hl => ?_)
  refine lv_iconst (v := 0) hx hb dX6_shopFor_4 (by decide) ?_
  refine lv_istore (lv' := [(4, .int 0), (3, .int 0), (2, .int (-1)), (0, .ref (q 0)), (1, .int a1)]) hx hb dX6_shopFor_5 hl (by decide) rfl (fun ls hl => ?_)
  have hB7 := bClamp (u 0 1)
  have loop7 : ∀ (n7 j7 : Nat) (x2_7 : Int32) (x3_7 : Int32) (locs : List Loc) (ls : Array Slot), j7 ≤ (u 0 1).toNatClampNeg → (u 0 1).toNatClampNeg + 1 ≤ n7 + j7 → lv_has ls 6 [(0, .ref (q 0)), (1, .int a1), (2, .int x2_7), (3, .int x3_7), (4, .int (nI j7))] → va_S (fun _ => False) s.heap s.heap locs → ∀ X : Int32 × Int32, L6_shopFor_7 u a1  n7 j7 x2_7 x3_7 = X → (∀ (locs : List Loc) (ls : Array Slot), lv_has ls 6 [(0, .ref (q 0)), (1, .int a1), (2, .int X.1), (3, .int X.2)] → va_S (fun _ => False) s.heap s.heap locs → W p l e (headSpec wsX6_shopFor ({ frames := 3, cells := 0, slots := 0, locals := 67 })).room s m ([.ref (q 0), .int a1] : List Value).toArray below meth c s.heap locs 0 0 (MQ below (bRi s.heap tgt) ([.ref (q 0), .int a1] : List Value).toArray s 0 0 (fun _ => False)) (F0 m 77 ls [])) → W p l e (headSpec wsX6_shopFor ({ frames := 3, cells := 0, slots := 0, locals := 67 })).room s m ([.ref (q 0), .int a1] : List Value).toArray below meth c s.heap locs 0 0 (MQ below (bRi s.heap tgt) ([.ref (q 0), .int a1] : List Value).toArray s 0 0 (fun _ => False)) (F0 m 7 ls []) := by
    intro n7
    induction n7 with
    | zero => intro j7 x2_7 x3_7 locs ls hj hn; exact absurd hn (by omega)
    | succ n7 ih =>
      intro j7 x2_7 x3_7 locs ls hj hn hl hS X hF kx
      refine lv_iload hx hb dX6_shopFor_7 (lv_at hl 4 rfl) ?_
      refine lv_aload_n hx hb dX6_shopFor_9 rfl (lv_at hl 0 rfl) ?_
      refine va_get (D := D) (ci := 6) (C := RX6) (T := TX6) (N := 16) hx hb hts iX6 hown hk.1 hP 0 (wM_0 _ _ _) rfl 0 (by decide) (hts (.fieldLink RX6 7 "BottleLoopModel" "v" "[I") (List.mem_of_getElem? (i := 1) rfl)) (fun _ h9 => h9) rfl dX6_shopFor_10 ?_
      refine lv_iconst (v := 1) hx hb dX6_shopFor_13 (by decide) ?_
      refine va_iald hx hb hk.1 hP 1 0 (wM_1 _ _ _) rfl (vp_in_nI (n := 1) (by decide) (by decide)) dX6_shopFor_14 ?_
      refine lv_topi (fun z9 hz9 => ?_)
      obtain rfl : z9 = (u 0 1) := hz9.trans rfl
      refine lv_icmp_ge (tgt := 77) hx hb dX6_shopFor_15 (by decide) (fun c_1 => ?_) (fun c_1 => ?_)
      · obtain rfl : X = (x2_7, x3_7) := by rw [← hF, L6_shopFor_7, if_pos c_1]
        exact kx _ _ (lv_sub hl [0, 1, 2, 3] rfl) hS
      · have hlt_2 : j7 < (u 0 1).toNatClampNeg := bLtB c_1 (by omega)
        refine lv_bipush (v := 50) hx hb dX6_shopFor_18 (by decide) ?_
        refine lv_aload_n hx hb dX6_shopFor_20 rfl (lv_at hl 0 rfl) ?_
        refine lv_iload hx hb dX6_shopFor_21 (lv_at hl 4 rfl) ?_
        refine lv_iload_n hx hb dX6_shopFor_23 rfl (lv_at hl 1 rfl) ?_
        refine bcall_Ri (va_runV (As := [.int (nI j7), .int a1]) (rest := [.int 50]) ⟨hx, hb, hml, hown, hts⟩ (C6_emptiesOf l D cI q _ _ hP hI (nI j7) a1 (mS_nI (by omega))) (cwV 2 hts gX6_shopFor_X6_emptiesOf rfl rfl rfl ⟨rfl, bd_X6emptiesOf⟩ ⟨Nat.le_of_ble_eq_true rfl, Nat.le_of_ble_eq_true rfl⟩) (bPV hk (va_recv hk.1 hP (ci := 6) (q0 := 0) rfl (wM_0 _ _ _))) rfl rfl hl.1 rfl (lv_room (Nat.le_of_ble_eq_true rfl)) dX6_shopFor_24 ⟨Nat.zero_le _, Nat.zero_le _⟩) hS (fun locs hS => ?_)
        refine lv_bipush (v := 12) hx hb dX6_shopFor_27 (by decide) ?_
        refine lv_idiv hx hb dX6_shopFor_29 (by decide) ?_
        refine lv_aload_n hx hb dX6_shopFor_30 rfl (lv_at hl 0 rfl) ?_
        refine lv_iload hx hb dX6_shopFor_31 (lv_at hl 4 rfl) ?_
        refine lv_iconst (v := 1) hx hb dX6_shopFor_33 (by decide) ?_
        refine bcall_Ri (va_runV (As := [.int (nI j7), .int 1]) (rest := [.int ((F6_emptiesOf u (nI j7) a1) / 12), .int 50]) ⟨hx, hb, hml, hown, hts⟩ (C6_ofShop l D cI q _ _ hP hI (nI j7) 1 (mXS (w := 1) (mS_nI (by omega)) (by decide))) (cwV 2 hts gX6_shopFor_X6_ofShop rfl rfl rfl ⟨rfl, bd_X6ofShop⟩ ⟨Nat.le_of_ble_eq_true rfl, Nat.le_of_ble_eq_true rfl⟩) (bPV hk (va_recv hk.1 hP (ci := 6) (q0 := 0) rfl (wM_0 _ _ _))) rfl rfl hl.1 rfl (lv_room (Nat.le_of_ble_eq_true rfl)) dX6_shopFor_34 ⟨Nat.zero_le _, Nat.zero_le _⟩) hS (fun locs hS => ?_)
        refine bcall_Ri (va_runS (As := [.int ((F6_emptiesOf u (nI j7) a1) / 12), .int (F6_ofShop u (nI j7) 1)]) (rest := [.int 50]) ⟨hx, hb, hml, hown, hts⟩ (C6_least l D cI q _ ((F6_emptiesOf u (nI j7) a1) / 12) (F6_ofShop u (nI j7) 1)) (va_cwS 2 hts gX6_shopFor_X6_least rfl rfl rfl bd_X6least ⟨Nat.le_of_ble_eq_true rfl, Nat.le_of_ble_eq_true rfl⟩) (bPS hk) rfl rfl hl.1 rfl (lv_room (Nat.le_of_ble_eq_true rfl)) dX6_shopFor_37 ⟨Nat.zero_le _, Nat.zero_le _⟩) hS (fun locs hS => ?_)
        refine bcall_Ri (va_runS (As := [.int 50, .int (F6_least ((F6_emptiesOf u (nI j7) a1) / 12) (F6_ofShop u (nI j7) 1))]) (rest := []) ⟨hx, hb, hml, hown, hts⟩ (C6_least l D cI q _ 50 (F6_least ((F6_emptiesOf u (nI j7) a1) / 12) (F6_ofShop u (nI j7) 1))) (va_cwS 2 hts gX6_shopFor_X6_least rfl rfl rfl bd_X6least ⟨Nat.le_of_ble_eq_true rfl, Nat.le_of_ble_eq_true rfl⟩) (bPS hk) rfl rfl hl.1 rfl (lv_room (Nat.le_of_ble_eq_true rfl)) dX6_shopFor_40 ⟨Nat.zero_le _, Nat.zero_le _⟩) hS (fun locs hS => ?_)
        refine lv_istore (lv' := [(5, .int (F6_least 50 (F6_least ((F6_emptiesOf u (nI j7) a1) / 12) (F6_ofShop u (nI j7) 1)))), (0, .ref (q 0)), (1, .int a1), (2, .int x2_7), (3, .int x3_7), (4, .int (nI j7))]) hx hb dX6_shopFor_43 hl (by decide) rfl (fun ls hl => ?_)
        refine lv_iload hx hb dX6_shopFor_45 (lv_at hl 0 rfl) ?_
        refine lv_iload_n hx hb dX6_shopFor_47 rfl (lv_at hl 4 rfl) ?_
        refine lv_icmp_le (tgt := 56) hx hb dX6_shopFor_48 (by decide) (fun c_3 => ?_) (fun c_3 => ?_)
        · refine lv_iload_n hx hb dX6_shopFor_56 rfl (lv_at hl 3 rfl) ?_
          refine lv_istore_n (lv' := [(2, .int x2_7), (5, .int (F6_least 50 (F6_least ((F6_emptiesOf u (nI j7) a1) / 12) (F6_ofShop u (nI j7) 1)))), (0, .ref (q 0)), (1, .int a1), (3, .int x3_7), (4, .int (nI j7))]) hx hb dX6_shopFor_57 rfl hl (by decide) rfl (fun ls hl => ?_)
          refine lv_iload hx hb dX6_shopFor_58 (lv_at hl 1 rfl) ?_
          refine lv_iload_n hx hb dX6_shopFor_60 rfl (lv_at hl 4 rfl) ?_
          refine lv_icmp_le (tgt := 69) hx hb dX6_shopFor_61 (by decide) (fun c_4 => ?_) (fun c_4 => ?_)
          · refine lv_iload_n hx hb dX6_shopFor_69 rfl (lv_at hl 4 rfl) ?_
            refine lv_istore_n (lv' := [(3, .int x3_7), (2, .int x2_7), (5, .int (F6_least 50 (F6_least ((F6_emptiesOf u (nI j7) a1) / 12) (F6_ofShop u (nI j7) 1)))), (0, .ref (q 0)), (1, .int a1), (4, .int (nI j7))]) hx hb dX6_shopFor_70 rfl hl (by decide) rfl (fun ls hl => ?_)
            refine lv_iinc (v := (nI (j7 + 1))) (lv' := [(4, .int (nI (j7 + 1))), (3, .int x3_7), (2, .int x2_7), (5, .int (F6_least 50 (F6_least ((F6_emptiesOf u (nI j7) a1) / 12) (F6_ofShop u (nI j7) 1)))), (0, .ref (q 0)), (1, .int a1)]) hx hb dX6_shopFor_71 hl (k := 5) rfl (bInc j7) (by decide) rfl (fun ls hl => ?_)
            refine lv_goto (tgt := 7) hx hb dX6_shopFor_74 (by decide) ?_
            exact ih (j7 + 1) x2_7 x3_7 _ _ (by omega) (by omega) (lv_sub hl [4, 5, 2, 1, 0] rfl) hS X (by rw [← hF, L6_shopFor_7, if_neg c_1, if_pos c_3, if_pos c_4]) kx
          · refine lv_iload hx hb dX6_shopFor_64 (lv_at hl 1 rfl) ?_
            refine lv_goto (tgt := 70) hx hb dX6_shopFor_66 (by decide) ?_
            refine lv_istore_n (lv' := [(3, .int (F6_least 50 (F6_least ((F6_emptiesOf u (nI j7) a1) / 12) (F6_ofShop u (nI j7) 1)))), (2, .int x2_7), (5, .int (F6_least 50 (F6_least ((F6_emptiesOf u (nI j7) a1) / 12) (F6_ofShop u (nI j7) 1)))), (0, .ref (q 0)), (1, .int a1), (4, .int (nI j7))]) hx hb dX6_shopFor_70 rfl hl (by decide) rfl (fun ls hl => ?_)
            refine lv_iinc (v := (nI (j7 + 1))) (lv' := [(4, .int (nI (j7 + 1))), (3, .int (F6_least 50 (F6_least ((F6_emptiesOf u (nI j7) a1) / 12) (F6_ofShop u (nI j7) 1)))), (2, .int x2_7), (5, .int (F6_least 50 (F6_least ((F6_emptiesOf u (nI j7) a1) / 12) (F6_ofShop u (nI j7) 1)))), (0, .ref (q 0)), (1, .int a1)]) hx hb dX6_shopFor_71 hl (k := 5) rfl (bInc j7) (by decide) rfl (fun ls hl => ?_)
            refine lv_goto (tgt := 7) hx hb dX6_shopFor_74 (by decide) ?_
            exact ih (j7 + 1) x2_7 (F6_least 50 (F6_least ((F6_emptiesOf u (nI j7) a1) / 12) (F6_ofShop u (nI j7) 1))) _ _ (by omega) (by omega) (lv_sub hl [4, 5, 2, 1, 0] rfl) hS X (by rw [← hF, L6_shopFor_7, if_neg c_1, if_pos c_3, if_neg c_4]) kx
        · refine lv_iload hx hb dX6_shopFor_51 (lv_at hl 5 rfl) ?_
          refine lv_goto (tgt := 57) hx hb dX6_shopFor_53 (by decide) ?_
          refine lv_istore_n (lv' := [(2, .int (nI j7)), (5, .int (F6_least 50 (F6_least ((F6_emptiesOf u (nI j7) a1) / 12) (F6_ofShop u (nI j7) 1)))), (0, .ref (q 0)), (1, .int a1), (3, .int x3_7), (4, .int (nI j7))]) hx hb dX6_shopFor_57 rfl hl (by decide) rfl (fun ls hl => ?_)
          refine lv_iload hx hb dX6_shopFor_58 (lv_at hl 1 rfl) ?_
          refine lv_iload_n hx hb dX6_shopFor_60 rfl (lv_at hl 4 rfl) ?_
          refine lv_icmp_le (tgt := 69) hx hb dX6_shopFor_61 (by decide) (fun c_5 => ?_) (fun c_5 => ?_)
          · refine lv_iload_n hx hb dX6_shopFor_69 rfl (lv_at hl 4 rfl) ?_
            refine lv_istore_n (lv' := [(3, .int x3_7), (2, .int (nI j7)), (5, .int (F6_least 50 (F6_least ((F6_emptiesOf u (nI j7) a1) / 12) (F6_ofShop u (nI j7) 1)))), (0, .ref (q 0)), (1, .int a1), (4, .int (nI j7))]) hx hb dX6_shopFor_70 rfl hl (by decide) rfl (fun ls hl => ?_)
            refine lv_iinc (v := (nI (j7 + 1))) (lv' := [(4, .int (nI (j7 + 1))), (3, .int x3_7), (2, .int (nI j7)), (5, .int (F6_least 50 (F6_least ((F6_emptiesOf u (nI j7) a1) / 12) (F6_ofShop u (nI j7) 1)))), (0, .ref (q 0)), (1, .int a1)]) hx hb dX6_shopFor_71 hl (k := 5) rfl (bInc j7) (by decide) rfl (fun ls hl => ?_)
            refine lv_goto (tgt := 7) hx hb dX6_shopFor_74 (by decide) ?_
            exact ih (j7 + 1) (nI j7) x3_7 _ _ (by omega) (by omega) (lv_sub hl [4, 5, 2, 1, 0] rfl) hS X (by rw [← hF, L6_shopFor_7, if_neg c_1, if_neg c_3, if_pos c_5]) kx
          · refine lv_iload hx hb dX6_shopFor_64 (lv_at hl 1 rfl) ?_
            refine lv_goto (tgt := 70) hx hb dX6_shopFor_66 (by decide) ?_
            refine lv_istore_n (lv' := [(3, .int (F6_least 50 (F6_least ((F6_emptiesOf u (nI j7) a1) / 12) (F6_ofShop u (nI j7) 1)))), (2, .int (nI j7)), (5, .int (F6_least 50 (F6_least ((F6_emptiesOf u (nI j7) a1) / 12) (F6_ofShop u (nI j7) 1)))), (0, .ref (q 0)), (1, .int a1), (4, .int (nI j7))]) hx hb dX6_shopFor_70 rfl hl (by decide) rfl (fun ls hl => ?_)
            refine lv_iinc (v := (nI (j7 + 1))) (lv' := [(4, .int (nI (j7 + 1))), (3, .int (F6_least 50 (F6_least ((F6_emptiesOf u (nI j7) a1) / 12) (F6_ofShop u (nI j7) 1)))), (2, .int (nI j7)), (5, .int (F6_least 50 (F6_least ((F6_emptiesOf u (nI j7) a1) / 12) (F6_ofShop u (nI j7) 1)))), (0, .ref (q 0)), (1, .int a1)]) hx hb dX6_shopFor_71 hl (k := 5) rfl (bInc j7) (by decide) rfl (fun ls hl => ?_)
            refine lv_goto (tgt := 7) hx hb dX6_shopFor_74 (by decide) ?_
            exact ih (j7 + 1) (nI j7) (F6_least 50 (F6_least ((F6_emptiesOf u (nI j7) a1) / 12) (F6_ofShop u (nI j7) 1))) _ _ (by omega) (by omega) (lv_sub hl [4, 5, 2, 1, 0] rfl) hS X (by rw [← hF, L6_shopFor_7, if_neg c_1, if_neg c_3, if_neg c_5]) kx
  refine loop7 ((u 0 1).toNatClampNeg + 1) 0 (-1) 0 _ _ (by omega) (by omega) (lv_sub hl [3, 4, 2, 1, 0] rfl) hS _ rfl (fun locs ls hl hS => ?_)
  refine lv_iload_n hx hb dX6_shopFor_77 rfl (lv_at hl 2 rfl) ?_
  exact bret_Ri hx hb hr hS hlocks dX6_shopFor_78 (by rw [← hF, F6_shopFor])
def F6_bestShop (u : bU) (a1 : Int32) : Int32 × bU := (if (F6_in a1 0 2) = 0 then ((F6_fails (bput u 6 2 0) 1).1, (F6_fails (bput u 6 2 0) 1).2) else ((F6_shopFor (bput u 6 2 0) a1), (bput u 6 2 0)))
set_option maxHeartbeats 4000000 in
set_option maxRecDepth 100000 in
theorem C6_bestShop (l : Launch) (D : va_G) (cI : ClassId) (q : Nat → Nat) (u : bU) (H0 : Heap) (hq : bInj 7 q) (hP : va_P D vwCl (wM cI q u) H0) (hI : mInv u) (a1 : Int32) : Met l yX6_bestShop wsX6_bestShop ({ frames := 4, cells := 0, slots := 0, locals := 92 }) (bP D [(cI, .int)] H0 [.ref (q 0), .int a1]) (bWi D (wM cI q) mInv (bA 7 q H0.size) (F6_bestShop u a1)) 0 0 (bA 7 q H0.size) := by
  refine Met.ofW (cc := cX6_bestShop) (maxL := 2) (ret := (some .int)) (by decide) rfl ?_
  intro p e s m args below meth c s₁ B hml hv
  obtain ⟨rfl, hH, hk⟩ := hv
  subst hH
  have hx := B.exec
  have hb := B.bytes
  have hr := B.returns
  have hts := atoms_spec (ws := wsX6_bestShop) B.pre
  have hown : s.vm.findClass RX6 = some m.cls := findClass_of_methodNamed B.named
  have hlocks := B.notSynchronized
  have hNB := mNB hI
  have hNS := mNS hI
  have hI0 := hI
  have iX6 : ∀ w ∈ wsX60, w ∈ wsX6_bestShop := by decide +kernel
  have hS : va_S (bA 7 q s.heap.size) s.heap s.heap [] := va_S.rf
  have hl := lv_entry ([.ref (q 0), .int a1]) (n := 2) (Nat.le_of_ble_eq_true rfl)
  rw [lg_entry_eq]
  generalize (lg_sl ([.ref (q 0), .int a1]) ++ List.replicate (2 - (lg_sl ([.ref (q 0), .int a1])).length) Slot.unset).toArray = ls at hl ⊢
  have hl : lv_has ls 2 [(0, .ref (q 0)), (1, .int a1)] := hl
  generalize hF : F6_bestShop u a1 = tgt
  refine lv_aload_n hx hb dX6_bestShop_0 rfl (lv_at hl 0 rfl) ?_
  refine lv_iconst (v := 0) hx hb dX6_bestShop_1 (by decide) ?_
  refine va_put (D := D) (ci := 6) (v := .int 0) (ty := .int) (C := RX6) (T := TX6) (N := 16) hx hb hts iX6 tyX6 tyX6_ok nmX6 hown hk.1 hP (wM_D hq) hS 0 (wM_0 _ _ _) rfl 6 (by decide) (hts (.fieldLink RX6 28 "BottleLoopModel" "thrown" "I") (List.mem_of_getElem? (i := 1) rfl)) (fun _ h9 => h9) rfl (by decide +kernel) rfl rfl (Nat.le_of_ble_eq_true rfl) dX6_bestShop_2 (fun H locs hP _ hS => ?_)
  have hP : va_P D vwCl (wM cI q (bput u 6 2 0)) H := pM_f2 hP
  have hI_1 : mInv (bput u 6 2 0) := mInv_sc (k := 2) hI (by decide) (by decide) (by decide)
  refine lv_iload_n hx hb dX6_bestShop_5 rfl (lv_at hl 1 rfl) ?_
  refine lv_iconst (v := 0) hx hb dX6_bestShop_6 (by decide) ?_
  refine lv_iconst (v := 2) hx hb dX6_bestShop_7 (by decide) ?_
  refine bcall_Ri (va_runS (As := [.int a1, .int 0, .int 2]) (rest := []) ⟨hx, hb, hml, hown, hts⟩ (C6_in l D cI q _ a1 0 2) (va_cwS 3 hts gX6_bestShop_X6_in rfl rfl rfl bd_X6in ⟨Nat.le_of_ble_eq_true rfl, Nat.le_of_ble_eq_true rfl⟩) (bPS hk) rfl rfl hl.1 rfl (lv_room (Nat.le_of_ble_eq_true rfl)) dX6_bestShop_8 ⟨Nat.zero_le _, Nat.zero_le _⟩) hS (fun locs hS => ?_)
  refine lv_if_eq (tgt := 22) hx hb dX6_bestShop_11 (by decide) (fun c_2 => ?_) (fun c_2 => ?_)
  · refine lv_aload_n hx hb dX6_bestShop_22 rfl (lv_at hl 0 rfl) ?_
    refine lv_iconst (v := 1) hx hb dX6_bestShop_23 (by decide) ?_
    refine bcall_Wi (va_runV (As := [.int 1]) (rest := []) ⟨hx, hb, hml, hown, hts⟩ (C6_fails l D cI q _ _ hq hP hI_1 1) (cwV 1 hts gX6_bestShop_X6_fails rfl rfl rfl ⟨rfl, bd_X6fails⟩ ⟨Nat.le_of_ble_eq_true rfl, Nat.le_of_ble_eq_true rfl⟩) (bPV hk (va_recv hk.1 hP (ci := 6) (q0 := 0) rfl (wM_0 _ _ _))) rfl rfl hl.1 rfl (lv_room (Nat.le_of_ble_eq_true rfl)) dX6_bestShop_24 ⟨Nat.zero_le _, Nat.zero_le _⟩) hS (fun H locs hP hI_3 hS => ?_)
    exact bret_Wi hx hb hr hP hI_3 hS hlocks dX6_bestShop_27 (by rw [← hF, F6_bestShop, if_pos c_2])
  · have hm_4 : mK a1 := mK_in c_2
    refine lv_aload_n hx hb dX6_bestShop_14 rfl (lv_at hl 0 rfl) ?_
    refine lv_iload_n hx hb dX6_bestShop_15 rfl (lv_at hl 1 rfl) ?_
    refine bcall_Ri (va_runV (As := [.int a1]) (rest := []) ⟨hx, hb, hml, hown, hts⟩ (C6_shopFor l D cI q _ _ hP hI_1 a1) (cwV 1 hts gX6_bestShop_X6_shopFor rfl rfl rfl ⟨rfl, bd_X6shopFor⟩ ⟨Nat.le_of_ble_eq_true rfl, Nat.le_of_ble_eq_true rfl⟩) (bPV hk (va_recv hk.1 hP (ci := 6) (q0 := 0) rfl (wM_0 _ _ _))) rfl rfl hl.1 rfl (lv_room (Nat.le_of_ble_eq_true rfl)) dX6_bestShop_16 ⟨Nat.zero_le _, Nat.zero_le _⟩) hS (fun locs hS => ?_)
    refine lv_goto (tgt := 27) hx hb dX6_bestShop_19 (by decide) ?_
    exact bret_Wi hx hb hr hP hI_1 hS hlocks dX6_bestShop_27 (by rw [← hF, F6_bestShop, if_neg c_2])

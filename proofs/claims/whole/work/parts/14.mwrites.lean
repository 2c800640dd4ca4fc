def F6_fails (u : bU) (a1 : Int32) : Int32 × bU := (0, (bput u 6 2 a1))
set_option maxHeartbeats 4000000 in
set_option maxRecDepth 100000 in
theorem C6_fails (l : Launch) (D : va_G) (cI : ClassId) (q : Nat → Nat) (u : bU) (H0 : Heap) (hq : bInj 7 q) (hP : va_P D vwCl (wM cI q u) H0) (hI : mInv u) (a1 : Int32) : Met l yX6_fails wsX6_fails ({ frames := 0, cells := 0, slots := 0, locals := 0 }) (bP D [(cI, .int)] H0 [.ref (q 0), .int a1]) (bWi D (wM cI q) mInv (bA 7 q H0.size) (F6_fails u a1)) 0 0 (bA 7 q H0.size) := by
  refine Met.ofW (cc := cX6_fails) (maxL := 2) (ret := (some .int)) (by decide) rfl ?_
  intro p e s m args below meth c s₁ B hml hv
  obtain ⟨rfl, hH, hk⟩ := hv
  subst hH
  have hx := B.exec
  have hb := B.bytes
  have hr := B.returns
  have hts := atoms_spec (ws := wsX6_fails) B.pre
  have hown : s.vm.findClass RX6 = some m.cls := findClass_of_methodNamed B.named
  have hlocks := B.notSynchronized
  have hNB := mNB hI
  have hNS := mNS hI
  have hI0 := hI
  have iX6 : ∀ w ∈ wsX60, w ∈ wsX6_fails := by decide +kernel
  have hS : va_S (bA 7 q s.heap.size) s.heap s.heap [] := va_S.rf
  have hl := lv_entry ([.ref (q 0), .int a1]) (n := 2) (Nat.le_of_ble_eq_true rfl)
  rw [lg_entry_eq]
  generalize (lg_sl ([.ref (q 0), .int a1]) ++ List.replicate (2 - (lg_sl ([.ref (q 0), .int a1])).length) Slot.unset).toArray = ls at hl ⊢
  have hl : lv_has ls 2 [(0, .ref (q 0)), (1, .int a1)] := hl
  generalize hF : F6_fails u a1 = tgt
  refine lv_aload_n hx hb dX6_fails_0 rfl (lv_at hl 0 rfl) ?_
  refine lv_iload_n hx hb dX6_fails_1 rfl (lv_at hl 1 rfl) ?_
  refine va_put (D := D) (ci := 6) (v := .int a1) (ty := .int) (C := RX6) (T := TX6) (N := 16) hx hb hts iX6 tyX6 tyX6_ok nmX6 hown hk.1 hP (wM_D hq) hS 0 (wM_0 _ _ _) rfl 6 (by decide) (hts (.fieldLink RX6 28 "BottleLoopModel" "thrown" "I") (List.mem_of_getElem? (i := 1) rfl)) (fun _ h9 => h9) rfl (by decide +kernel) rfl rfl (Nat.le_of_ble_eq_true rfl) dX6_fails_2 (fun H locs hP _ hS => ?_)
  have hP : va_P D vwCl (wM cI q (bput u 6 2 a1)) H := pM_f2 hP
  have hI_1 : mInv (bput u 6 2 a1) := mInv_sc (k := 2) hI (by decide) (by decide) (by decide)
  refine lv_iconst (v := 0) hx hb dX6_fails_5 (by decide) ?_
  exact bret_Wi hx hb hr hP hI_1 hS hlocks dX6_fails_6 (by rw [← hF, F6_fails])
def L6_save_52  : bU → Nat → Nat → bU
  | u52, 0, _ => u52
  | u52, n52 + 1, j52 => (if (283 : Int32) ≤ (nI j52) then u52 else (L6_save_52 (bput u52 2 ((283 * (u52 6 0)) + (nI j52)).toNatClampNeg (u52 0 j52)) n52 (j52 + 1)))
def L6_save_11  : bU → Nat → Nat → bU
  | u11, 0, _ => u11
  | u11, n11 + 1, j11 => (if (1415 : Int32) ≤ (nI j11) then u11 else (L6_save_11 (bput u11 2 j11 (u11 2 ((nI j11) + 283).toNatClampNeg)) n11 (j11 + 1)))
def F6_save (u : bU) : bU := (if (u 6 0) = (6 : Int32) then (bput (L6_save_52 (bput (L6_save_11 u (1415 + 1) 0) 6 0 (((L6_save_11 u (1415 + 1) 0) 6 0) - 1)) (283 + 1) 0) 6 0 (((L6_save_52 (bput (L6_save_11 u (1415 + 1) 0) 6 0 (((L6_save_11 u (1415 + 1) 0) 6 0) - 1)) (283 + 1) 0) 6 0) + 1)) else (bput (L6_save_52 u (283 + 1) 0) 6 0 (((L6_save_52 u (283 + 1) 0) 6 0) + 1)))
set_option maxHeartbeats 4000000 in
set_option maxRecDepth 100000 in
theorem C6_save (l : Launch) (D : va_G) (cI : ClassId) (q : Nat → Nat) (u : bU) (H0 : Heap) (hq : bInj 7 q) (hP : va_P D vwCl (wM cI q u) H0) (hI : mInv u) : Met l yX6_save wsX6_save ({ frames := 0, cells := 0, slots := 0, locals := 0 }) (bP D [(cI, .int)] H0 [.ref (q 0)]) (bWv D (wM cI q) mInv (bA 7 q H0.size) (F6_save u)) 0 0 (bA 7 q H0.size) := by
  refine Met.ofW (cc := cX6_save) (maxL := 2) (ret := none) (by decide) rfl ?_
  intro p e s m args below meth c s₁ B hml hv
  obtain ⟨rfl, hH, hk⟩ := hv
  subst hH
  have hx := B.exec
  have hb := B.bytes
  have hr := B.returns
  have hts := atoms_spec (ws := wsX6_save) B.pre
  have hown : s.vm.findClass RX6 = some m.cls := findClass_of_methodNamed B.named
  have hlocks := B.notSynchronized
  have hNB := mNB hI
  have hNS := mNS hI
  have hI0 := hI
  have iX6 : ∀ w ∈ wsX60, w ∈ wsX6_save := by decide +kernel
  have hS : va_S (bA 7 q s.heap.size) s.heap s.heap [] := va_S.rf
  have hl := lv_entry ([.ref (q 0)]) (n := 2) (Nat.le_of_ble_eq_true rfl)
  rw [lg_entry_eq]
  generalize (lg_sl ([.ref (q 0)]) ++ List.replicate (2 - (lg_sl ([.ref (q 0)])).length) Slot.unset).toArray = ls at hl ⊢
  have hl : lv_has ls 2 [(0, .ref (q 0))] := hl
  generalize hF : F6_save u = tgt
  refine lv_aload_n hx hb dX6_save_0 rfl (lv_at hl 0 rfl) ?_
  refine va_get (D := D) (ci := 6) (C := RX6) (T := TX6) (N := 16) hx hb hts iX6 hown hk.1 hP 0 (wM_0 _ _ _) rfl 3 (by decide) (hts (.fieldLink RX6 32 "BottleLoopModel" "saves" "I") (List.mem_of_getElem? (i := 1) rfl)) (fun _ h9 => h9) rfl dX6_save_1 ?_
  refine lv_bipush (v := 6) hx hb dX6_save_4 (by decide) ?_
  refine lv_icmp_ne (tgt := 50) hx hb dX6_save_6 (by decide) (fun c_1 => ?_) (fun c_1 => ?_)
  · refine lv_iconst (v := 0) hx hb dX6_save_50 (by decide) ?_
    refine lv_istore_n (lv' := [(1, .int 0), (0, .ref (q 0))]) hx hb dX6_save_51 rfl hl (by decide) rfl (fun ls hl => ?_)
    have loop52 : ∀ (n52 j52 : Nat) (u52 : bU) (H : Heap) (locs : List Loc) (ls : Array Slot), j52 ≤ 283 → 283 + 1 ≤ n52 + j52 → mSv j52 u52 → lv_has ls 2 [(0, .ref (q 0)), (1, .int (nI j52))] → va_P D vwCl (wM cI q u52) H → mInv u52 → va_S (bA 7 q s.heap.size) s.heap H locs → ∀ X : bU, L6_save_52 u52 n52 j52 = X → (∀ (H : Heap) (locs : List Loc) (ls : Array Slot), lv_has ls 2 [(0, .ref (q 0))] → va_P D vwCl (wM cI q X) H → mInv X → mSv 283 X → va_S (bA 7 q s.heap.size) s.heap H locs → W p l e (headSpec wsX6_save ({ frames := 0, cells := 0, slots := 0, locals := 0 })).room s m ([.ref (q 0)] : List Value).toArray below meth c H locs 0 0 (MQ below (bWv D (wM cI q) mInv (bA 7 q s.heap.size) tgt) ([.ref (q 0)] : List Value).toArray s 0 0 (bA 7 q s.heap.size)) (F0 m 86 ls [])) → W p l e (headSpec wsX6_save ({ frames := 0, cells := 0, slots := 0, locals := 0 })).room s m ([.ref (q 0)] : List Value).toArray below meth c H locs 0 0 (MQ below (bWv D (wM cI q) mInv (bA 7 q s.heap.size) tgt) ([.ref (q 0)] : List Value).toArray s 0 0 (bA 7 q s.heap.size)) (F0 m 52 ls []) := by
      intro n52
      induction n52 with
      | zero => intro j52 u52 H locs ls hj hn; exact absurd hn (by omega)
      | succ n52 ih =>
        intro j52 u52 H locs ls hj hn hinv hl hP hI hS X hF kx
        refine lv_iload_n hx hb dX6_save_52 rfl (lv_at hl 1 rfl) ?_
        refine lv_sipush (v := 283) hx hb dX6_save_53 (by decide) ?_
        refine lv_icmp_ge (tgt := 86) hx hb dX6_save_56 (by decide) (fun c_2 => ?_) (fun c_2 => ?_)
        · obtain rfl : X = u52 := by rw [← hF, L6_save_52, if_pos c_2]
          exact kx _ _ _ (lv_sub hl [0] rfl) hP hI (mSv_out hinv c_2 hj) hS
        · have hlt_3 : j52 < 283 := bLt c_2 (by omega) (by decide)
          refine lv_aload_n hx hb dX6_save_59 rfl (lv_at hl 0 rfl) ?_
          refine va_get (D := D) (ci := 6) (C := RX6) (T := TX6) (N := 16) hx hb hts iX6 hown hk.1 hP 0 (wM_0 _ _ _) rfl 2 (by decide) (hts (.fieldLink RX6 16 "BottleLoopModel" "saved" "[I") (List.mem_of_getElem? (i := 2) rfl)) (fun _ h9 => h9) rfl dX6_save_60 ?_
          refine lv_sipush (v := 283) hx hb dX6_save_63 (by decide) ?_
          refine lv_aload_n hx hb dX6_save_66 rfl (lv_at hl 0 rfl) ?_
          refine va_get (D := D) (ci := 6) (C := RX6) (T := TX6) (N := 16) hx hb hts iX6 hown hk.1 hP 0 (wM_0 _ _ _) rfl 3 (by decide) (hts (.fieldLink RX6 32 "BottleLoopModel" "saves" "I") (List.mem_of_getElem? (i := 1) rfl)) (fun _ h9 => h9) rfl dX6_save_67 ?_
          refine lv_imul hx hb dX6_save_70 ?_
          refine lv_iload_n hx hb dX6_save_71 rfl (lv_at hl 1 rfl) ?_
          refine lv_iadd hx hb dX6_save_72 ?_
          refine lv_aload_n hx hb dX6_save_73 rfl (lv_at hl 0 rfl) ?_
          refine va_get (D := D) (ci := 6) (C := RX6) (T := TX6) (N := 16) hx hb hts iX6 hown hk.1 hP 0 (wM_0 _ _ _) rfl 0 (by decide) (hts (.fieldLink RX6 7 "BottleLoopModel" "v" "[I") (List.mem_of_getElem? (i := 3) rfl)) (fun _ h9 => h9) rfl dX6_save_74 ?_
          refine lv_iload_n hx hb dX6_save_77 rfl (lv_at hl 1 rfl) ?_
          refine va_iald hx hb hk.1 hP 1 0 (wM_1 _ _ _) rfl (vp_in_nI (by omega) (by decide)) dX6_save_78 ?_
          refine lv_topi (fun z9 hz9 => ?_)
          obtain rfl : z9 = (u52 0 j52) := hz9.trans (by rw [mC (j := j52) (by omega)])
          refine va_iast hx hb hk.1 hP (wM_D hq) hS 3 0 (wM_3 _ _ _) rfl (mSv_x hinv (by omega)) dX6_save_79 (fun H locs hP _ hS => ?_)
          have hP : va_P D vwCl (wM cI q (bput u52 2 ((283 * (u52 6 0)) + (nI j52)).toNatClampNeg (u52 0 j52))) H := pM_2 hP
          have hI_4 : mInv (bput u52 2 ((283 * (u52 6 0)) + (nI j52)).toNatClampNeg (u52 0 j52)) := mInv_s2 hI hinv (by omega)
          refine lv_iinc (v := (nI (j52 + 1))) (lv' := [(1, .int (nI (j52 + 1))), (0, .ref (q 0))]) hx hb dX6_save_80 hl (k := 1) rfl (bInc j52) (by decide) rfl (fun ls hl => ?_)
          refine lv_goto (tgt := 52) hx hb dX6_save_83 (by decide) ?_
          exact ih (j52 + 1)  (bput u52 2 ((283 * (u52 6 0)) + (nI j52)).toNatClampNeg (u52 0 j52)) _ _ _ (by omega) (by omega) (mSv_step hinv (by omega)) (lv_sub hl [1, 0] rfl) hP hI_4 hS X (by rw [← hF, L6_save_52, if_neg c_2]) kx
    refine loop52 (283 + 1) 0  u _ _ _ (by omega) (by omega) (mSv_ini1 hI c_1) (lv_sub hl [1, 0] rfl) hP hI hS _ rfl (fun H locs ls hl hP hI hout hS => ?_)
    have hI_5 : mInv (L6_save_52 u (283 + 1) 0) := hI
    have ho_6 := hout
    refine lv_aload_n hx hb dX6_save_86 rfl (lv_at hl 0 rfl) ?_
    refine lv_dup hx hb dX6_save_87 rfl ?_
    refine va_get (D := D) (ci := 6) (C := RX6) (T := TX6) (N := 16) hx hb hts iX6 hown hk.1 hP 0 (wM_0 _ _ _) rfl 3 (by decide) (hts (.fieldLink RX6 32 "BottleLoopModel" "saves" "I") (List.mem_of_getElem? (i := 1) rfl)) (fun _ h9 => h9) rfl dX6_save_88 ?_
    refine lv_iconst (v := 1) hx hb dX6_save_91 (by decide) ?_
    refine lv_iadd hx hb dX6_save_92 ?_
    refine va_put (D := D) (ci := 6) (v := .int (((L6_save_52 u (283 + 1) 0) 6 0) + 1)) (ty := .int) (C := RX6) (T := TX6) (N := 16) hx hb hts iX6 tyX6 tyX6_ok nmX6 hown hk.1 hP (wM_D hq) hS 0 (wM_0 _ _ _) rfl 3 (by decide) (hts (.fieldLink RX6 32 "BottleLoopModel" "saves" "I") (List.mem_of_getElem? (i := 1) rfl)) (fun _ h9 => h9) rfl (by decide +kernel) rfl rfl (Nat.le_of_ble_eq_true rfl) dX6_save_93 (fun H locs hP _ hS => ?_)
    have hP : va_P D vwCl (wM cI q (bput (L6_save_52 u (283 + 1) 0) 6 0 (((L6_save_52 u (283 + 1) 0) 6 0) + 1))) H := pM_f0 hP
    have hI_7 : mInv (bput (L6_save_52 u (283 + 1) 0) 6 0 (((L6_save_52 u (283 + 1) 0) 6 0) + 1)) := mInv_sv1 hI_5 ho_6
    exact bret_Wv hx hb hr hP hI_7 hS hlocks dX6_save_96 (by rw [← hF, F6_save, if_neg c_1])
  · refine lv_iconst (v := 0) hx hb dX6_save_9 (by decide) ?_
    refine lv_istore_n (lv' := [(1, .int 0), (0, .ref (q 0))]) hx hb dX6_save_10 rfl hl (by decide) rfl (fun ls hl => ?_)
    have loop11 : ∀ (n11 j11 : Nat) (u11 : bU) (H : Heap) (locs : List Loc) (ls : Array Slot), j11 ≤ 1415 → 1415 + 1 ≤ n11 + j11 → u11 6 0 = 6 → lv_has ls 2 [(0, .ref (q 0)), (1, .int (nI j11))] → va_P D vwCl (wM cI q u11) H → mInv u11 → va_S (bA 7 q s.heap.size) s.heap H locs → ∀ X : bU, L6_save_11 u11 n11 j11 = X → (∀ (H : Heap) (locs : List Loc) (ls : Array Slot), lv_has ls 2 [(0, .ref (q 0))] → va_P D vwCl (wM cI q X) H → mInv X → X 6 0 = 6 → va_S (bA 7 q s.heap.size) s.heap H locs → W p l e (headSpec wsX6_save ({ frames := 0, cells := 0, slots := 0, locals := 0 })).room s m ([.ref (q 0)] : List Value).toArray below meth c H locs 0 0 (MQ below (bWv D (wM cI q) mInv (bA 7 q s.heap.size) tgt) ([.ref (q 0)] : List Value).toArray s 0 0 (bA 7 q s.heap.size)) (F0 m 40 ls [])) → W p l e (headSpec wsX6_save ({ frames := 0, cells := 0, slots := 0, locals := 0 })).room s m ([.ref (q 0)] : List Value).toArray below meth c H locs 0 0 (MQ below (bWv D (wM cI q) mInv (bA 7 q s.heap.size) tgt) ([.ref (q 0)] : List Value).toArray s 0 0 (bA 7 q s.heap.size)) (F0 m 11 ls []) := by
      intro n11
      induction n11 with
      | zero => intro j11 u11 H locs ls hj hn; exact absurd hn (by omega)
      | succ n11 ih =>
        intro j11 u11 H locs ls hj hn hinv hl hP hI hS X hF kx
        refine lv_iload_n hx hb dX6_save_11 rfl (lv_at hl 1 rfl) ?_
        refine lv_sipush (v := 1415) hx hb dX6_save_12 (by decide) ?_
        refine lv_icmp_ge (tgt := 40) hx hb dX6_save_15 (by decide) (fun c_8 => ?_) (fun c_8 => ?_)
        · obtain rfl : X = u11 := by rw [← hF, L6_save_11, if_pos c_8]
          exact kx _ _ _ (lv_sub hl [0] rfl) hP hI hinv hS
        · have hlt_9 : j11 < 1415 := bLt c_8 (by omega) (by decide)
          refine lv_aload_n hx hb dX6_save_18 rfl (lv_at hl 0 rfl) ?_
          refine va_get (D := D) (ci := 6) (C := RX6) (T := TX6) (N := 16) hx hb hts iX6 hown hk.1 hP 0 (wM_0 _ _ _) rfl 2 (by decide) (hts (.fieldLink RX6 16 "BottleLoopModel" "saved" "[I") (List.mem_of_getElem? (i := 2) rfl)) (fun _ h9 => h9) rfl dX6_save_19 ?_
          refine lv_iload_n hx hb dX6_save_22 rfl (lv_at hl 1 rfl) ?_
          refine lv_aload_n hx hb dX6_save_23 rfl (lv_at hl 0 rfl) ?_
          refine va_get (D := D) (ci := 6) (C := RX6) (T := TX6) (N := 16) hx hb hts iX6 hown hk.1 hP 0 (wM_0 _ _ _) rfl 2 (by decide) (hts (.fieldLink RX6 16 "BottleLoopModel" "saved" "[I") (List.mem_of_getElem? (i := 2) rfl)) (fun _ h9 => h9) rfl dX6_save_24 ?_
          refine lv_iload_n hx hb dX6_save_27 rfl (lv_at hl 1 rfl) ?_
          refine lv_sipush (v := 283) hx hb dX6_save_28 (by decide) ?_
          refine lv_iadd hx hb dX6_save_31 ?_
          refine va_iald hx hb hk.1 hP 3 0 (wM_3 _ _ _) rfl (mX283 (by omega)) dX6_save_32 ?_
          refine va_iast hx hb hk.1 hP (wM_D hq) hS 3 0 (wM_3 _ _ _) rfl (vp_in_nI (by omega) (by decide)) dX6_save_33 (fun H locs hP _ hS => ?_)
          rw [mC (j := j11) (by omega)] at hP
          have hP : va_P D vwCl (wM cI q (bput u11 2 j11 (u11 2 ((nI j11) + 283).toNatClampNeg))) H := pM_2 hP
          have hI_10 : mInv (bput u11 2 j11 (u11 2 ((nI j11) + 283).toNatClampNeg)) := mInv_sh hI hinv (by omega)
          refine lv_iinc (v := (nI (j11 + 1))) (lv' := [(1, .int (nI (j11 + 1))), (0, .ref (q 0))]) hx hb dX6_save_34 hl (k := 1) rfl (bInc j11) (by decide) rfl (fun ls hl => ?_)
          refine lv_goto (tgt := 11) hx hb dX6_save_37 (by decide) ?_
          exact ih (j11 + 1)  (bput u11 2 j11 (u11 2 ((nI j11) + 283).toNatClampNeg)) _ _ _ (by omega) (by omega) hinv (lv_sub hl [1, 0] rfl) hP hI_10 hS X (by rw [← hF, L6_save_11, if_neg c_8]) kx
    refine loop11 (1415 + 1) 0  u _ _ _ (by omega) (by omega) c_1 (lv_sub hl [1, 0] rfl) hP hI hS _ rfl (fun H locs ls hl hP hI hout hS => ?_)
    have hI_11 : mInv (L6_save_11 u (1415 + 1) 0) := hI
    have ho_12 := hout
    refine lv_aload_n hx hb dX6_save_40 rfl (lv_at hl 0 rfl) ?_
    refine lv_dup hx hb dX6_save_41 rfl ?_
    refine va_get (D := D) (ci := 6) (C := RX6) (T := TX6) (N := 16) hx hb hts iX6 hown hk.1 hP 0 (wM_0 _ _ _) rfl 3 (by decide) (hts (.fieldLink RX6 32 "BottleLoopModel" "saves" "I") (List.mem_of_getElem? (i := 1) rfl)) (fun _ h9 => h9) rfl dX6_save_42 ?_
    refine lv_iconst (v := 1) hx hb dX6_save_45 (by decide) ?_
    refine lv_isub hx hb dX6_save_46 ?_
    refine va_put (D := D) (ci := 6) (v := .int (((L6_save_11 u (1415 + 1) 0) 6 0) - 1)) (ty := .int) (C := RX6) (T := TX6) (N := 16) hx hb hts iX6 tyX6 tyX6_ok nmX6 hown hk.1 hP (wM_D hq) hS 0 (wM_0 _ _ _) rfl 3 (by decide) (hts (.fieldLink RX6 32 "BottleLoopModel" "saves" "I") (List.mem_of_getElem? (i := 1) rfl)) (fun _ h9 => h9) rfl (by decide +kernel) rfl rfl (Nat.le_of_ble_eq_true rfl) dX6_save_47 (fun H locs hP _ hS => ?_)
    have hP : va_P D vwCl (wM cI q (bput (L6_save_11 u (1415 + 1) 0) 6 0 (((L6_save_11 u (1415 + 1) 0) 6 0) - 1))) H := pM_f0 hP
    have hI_13 : mInv (bput (L6_save_11 u (1415 + 1) 0) 6 0 (((L6_save_11 u (1415 + 1) 0) 6 0) - 1)) := mInv_sv5 hI_11 ho_12
    refine lv_iconst (v := 0) hx hb dX6_save_50 (by decide) ?_
    refine lv_istore_n (lv' := [(1, .int 0), (0, .ref (q 0))]) hx hb dX6_save_51 rfl hl (by decide) rfl (fun ls hl => ?_)
    have hNB52 := mNB hI_13
    have hNS52 := mNS hI_13
    have loop52 : ∀ (n52 j52 : Nat) (u52 : bU) (H : Heap) (locs : List Loc) (ls : Array Slot), j52 ≤ 283 → 283 + 1 ≤ n52 + j52 → mSv j52 u52 → lv_has ls 2 [(0, .ref (q 0)), (1, .int (nI j52))] → va_P D vwCl (wM cI q u52) H → mInv u52 → va_S (bA 7 q s.heap.size) s.heap H locs → ∀ X : bU, L6_save_52 u52 n52 j52 = X → (∀ (H : Heap) (locs : List Loc) (ls : Array Slot), lv_has ls 2 [(0, .ref (q 0))] → va_P D vwCl (wM cI q X) H → mInv X → mSv 283 X → va_S (bA 7 q s.heap.size) s.heap H locs → W p l e (headSpec wsX6_save ({ frames := 0, cells := 0, slots := 0, locals := 0 })).room s m ([.ref (q 0)] : List Value).toArray below meth c H locs 0 0 (MQ below (bWv D (wM cI q) mInv (bA 7 q s.heap.size) tgt) ([.ref (q 0)] : List Value).toArray s 0 0 (bA 7 q s.heap.size)) (F0 m 86 ls [])) → W p l e (headSpec wsX6_save ({ frames := 0, cells := 0, slots := 0, locals := 0 })).room s m ([.ref (q 0)] : List Value).toArray below meth c H locs 0 0 (MQ below (bWv D (wM cI q) mInv (bA 7 q s.heap.size) tgt) ([.ref (q 0)] : List Value).toArray s 0 0 (bA 7 q s.heap.size)) (F0 m 52 ls []) := by
      intro n52
      induction n52 with
      | zero => intro j52 u52 H locs ls hj hn; exact absurd hn (by omega)
      | succ n52 ih =>
        intro j52 u52 H locs ls hj hn hinv hl hP hI hS X hF kx
        refine lv_iload_n hx hb dX6_save_52 rfl (lv_at hl 1 rfl) ?_
        refine lv_sipush (v := 283) hx hb dX6_save_53 (by decide) ?_
        refine lv_icmp_ge (tgt := 86) hx hb dX6_save_56 (by decide) (fun c_14 => ?_) (fun c_14 => ?_)
        · obtain rfl : X = u52 := by rw [← hF, L6_save_52, if_pos c_14]
          exact kx _ _ _ (lv_sub hl [0] rfl) hP hI (mSv_out hinv c_14 hj) hS
        · have hlt_15 : j52 < 283 := bLt c_14 (by omega) (by decide)
          refine lv_aload_n hx hb dX6_save_59 rfl (lv_at hl 0 rfl) ?_
          refine va_get (D := D) (ci := 6) (C := RX6) (T := TX6) (N := 16) hx hb hts iX6 hown hk.1 hP 0 (wM_0 _ _ _) rfl 2 (by decide) (hts (.fieldLink RX6 16 "BottleLoopModel" "saved" "[I") (List.mem_of_getElem? (i := 2) rfl)) (fun _ h9 => h9) rfl dX6_save_60 ?_
          refine lv_sipush (v := 283) hx hb dX6_save_63 (by decide) ?_
          refine lv_aload_n hx hb dX6_save_66 rfl (lv_at hl 0 rfl) ?_
          refine va_get (D := D) (ci := 6) (C := RX6) (T := TX6) (N := 16) hx hb hts iX6 hown hk.1 hP 0 (wM_0 _ _ _) rfl 3 (by decide) (hts (.fieldLink RX6 32 "BottleLoopModel" "saves" "I") (List.mem_of_getElem? (i := 1) rfl)) (fun _ h9 => h9) rfl dX6_save_67 ?_
          refine lv_imul hx hb dX6_save_70 ?_
          refine lv_iload_n hx hb dX6_save_71 rfl (lv_at hl 1 rfl) ?_
          refine lv_iadd hx hb dX6_save_72 ?_
          refine lv_aload_n hx hb dX6_save_73 rfl (lv_at hl 0 rfl) ?_
          refine va_get (D := D) (ci := 6) (C := RX6) (T := TX6) (N := 16) hx hb hts iX6 hown hk.1 hP 0 (wM_0 _ _ _) rfl 0 (by decide) (hts (.fieldLink RX6 7 "BottleLoopModel" "v" "[I") (List.mem_of_getElem? (i := 3) rfl)) (fun _ h9 => h9) rfl dX6_save_74 ?_
          refine lv_iload_n hx hb dX6_save_77 rfl (lv_at hl 1 rfl) ?_
          refine va_iald hx hb hk.1 hP 1 0 (wM_1 _ _ _) rfl (vp_in_nI (by omega) (by decide)) dX6_save_78 ?_
          refine lv_topi (fun z9 hz9 => ?_)
          obtain rfl : z9 = (u52 0 j52) := hz9.trans (by rw [mC (j := j52) (by omega)])
          refine va_iast hx hb hk.1 hP (wM_D hq) hS 3 0 (wM_3 _ _ _) rfl (mSv_x hinv (by omega)) dX6_save_79 (fun H locs hP _ hS => ?_)
          have hP : va_P D vwCl (wM cI q (bput u52 2 ((283 * (u52 6 0)) + (nI j52)).toNatClampNeg (u52 0 j52))) H := pM_2 hP
          have hI_16 : mInv (bput u52 2 ((283 * (u52 6 0)) + (nI j52)).toNatClampNeg (u52 0 j52)) := mInv_s2 hI hinv (by omega)
          refine lv_iinc (v := (nI (j52 + 1))) (lv' := [(1, .int (nI (j52 + 1))), (0, .ref (q 0))]) hx hb dX6_save_80 hl (k := 1) rfl (bInc j52) (by decide) rfl (fun ls hl => ?_)
          refine lv_goto (tgt := 52) hx hb dX6_save_83 (by decide) ?_
          exact ih (j52 + 1)  (bput u52 2 ((283 * (u52 6 0)) + (nI j52)).toNatClampNeg (u52 0 j52)) _ _ _ (by omega) (by omega) (mSv_step hinv (by omega)) (lv_sub hl [1, 0] rfl) hP hI_16 hS X (by rw [← hF, L6_save_52, if_neg c_14]) kx
    refine loop52 (283 + 1) 0  (bput (L6_save_11 u (1415 + 1) 0) 6 0 (((L6_save_11 u (1415 + 1) 0) 6 0) - 1)) _ _ _ (by omega) (by omega) (mSv_ini2 ho_12) (lv_sub hl [1, 0] rfl) hP hI_13 hS _ rfl (fun H locs ls hl hP hI hout hS => ?_)
    have hI_17 : mInv (L6_save_52 (bput (L6_save_11 u (1415 + 1) 0) 6 0 (((L6_save_11 u (1415 + 1) 0) 6 0) - 1)) (283 + 1) 0) := hI
    have ho_18 := hout
    refine lv_aload_n hx hb dX6_save_86 rfl (lv_at hl 0 rfl) ?_
    refine lv_dup hx hb dX6_save_87 rfl ?_
    refine va_get (D := D) (ci := 6) (C := RX6) (T := TX6) (N := 16) hx hb hts iX6 hown hk.1 hP 0 (wM_0 _ _ _) rfl 3 (by decide) (hts (.fieldLink RX6 32 "BottleLoopModel" "saves" "I") (List.mem_of_getElem? (i := 1) rfl)) (fun _ h9 => h9) rfl dX6_save_88 ?_
    refine lv_iconst (v := 1) hx hb dX6_save_91 (by decide) ?_
    refine lv_iadd hx hb dX6_save_92 ?_
    refine va_put (D := D) (ci := 6) (v := .int (((L6_save_52 (bput (L6_save_11 u (1415 + 1) 0) 6 0 (((L6_save_11 u (1415 + 1) 0) 6 0) - 1)) (283 + 1) 0) 6 0) + 1)) (ty := .int) (C := RX6) (T := TX6) (N := 16) hx hb hts iX6 tyX6 tyX6_ok nmX6 hown hk.1 hP (wM_D hq) hS 0 (wM_0 _ _ _) rfl 3 (by decide) (hts (.fieldLink RX6 32 "BottleLoopModel" "saves" "I") (List.mem_of_getElem? (i := 1) rfl)) (fun _ h9 => h9) rfl (by decide +kernel) rfl rfl (Nat.le_of_ble_eq_true rfl) dX6_save_93 (fun H locs hP _ hS => ?_)
    have hP : va_P D vwCl (wM cI q (bput (L6_save_52 (bput (L6_save_11 u (1415 + 1) 0) 6 0 (((L6_save_11 u (1415 + 1) 0) 6 0) - 1)) (283 + 1) 0) 6 0 (((L6_save_52 (bput (L6_save_11 u (1415 + 1) 0) 6 0 (((L6_save_11 u (1415 + 1) 0) 6 0) - 1)) (283 + 1) 0) 6 0) + 1))) H := pM_f0 hP
    have hI_19 : mInv (bput (L6_save_52 (bput (L6_save_11 u (1415 + 1) 0) 6 0 (((L6_save_11 u (1415 + 1) 0) 6 0) - 1)) (283 + 1) 0) 6 0 (((L6_save_52 (bput (L6_save_11 u (1415 + 1) 0) 6 0 (((L6_save_11 u (1415 + 1) 0) 6 0) - 1)) (283 + 1) 0) 6 0) + 1)) := mInv_sv1 hI_17 ho_18
    exact bret_Wv hx hb hr hP hI_19 hS hlocks dX6_save_96 (by rw [← hF, F6_save, if_pos c_1])
theorem saveL11_0 : ∀ (n j : Nat) (u : bU), (L6_save_11 u n j) 0 = u 0 := by
  intro n
  induction n with
  | zero => intro j u; rfl
  | succ n ih =>
    intro j u
    rw [L6_save_11]
    split
    · rfl
    · rw [ih]; exact bs_ne _ _ (by decide)
theorem saveL52_0 : ∀ (n j : Nat) (u : bU), (L6_save_52 u n j) 0 = u 0 := by
  intro n
  induction n with
  | zero => intro j u; rfl
  | succ n ih =>
    intro j u
    rw [L6_save_52]
    split
    · rfl
    · rw [ih]; exact bs_ne _ _ (by decide)
theorem save_0 (u : bU) : (F6_save u) 0 = u 0 := by
  unfold F6_save
  split
  · rw [show ∀ (v : bU) x, (bput v 6 0 x) 0 = v 0 from fun v x => bs_ne _ _ (by decide), saveL52_0, show ∀ (v : bU) x, (bput v 6 0 x) 0 = v 0 from fun v x => bs_ne _ _ (by decide), saveL11_0]
  · rw [show ∀ (v : bU) x, (bput v 6 0 x) 0 = v 0 from fun v x => bs_ne _ _ (by decide), saveL52_0]
theorem mB0_save {u : bU} (h : mB (u 0 0)) : mB ((F6_save u) 0 0) := by rw [save_0]; exact h
theorem mS0_save {u : bU} (h : mS (u 0 1)) : mS ((F6_save u) 0 1) := by rw [save_0]; exact h
theorem mME_loop (a b : Int32) {u : bU} (hN : (u 0 0).toNatClampNeg ≤ 8) : ∀ (n j : Nat) (x : Int32), n + j < 2 ^ 31 → (x = -1 ∨ mB x) → (L6_mostEmpties_5 u a b n j x = -1 ∨ mB (L6_mostEmpties_5 u a b n j x)) := by
  intro n
  induction n with
  | zero => intro j x _ h; exact h
  | succ n ih =>
    intro j x hj h
    rw [L6_mostEmpties_5]
    split
    · exact h
    · rename_i c
      have hlt := bLtB c (by omega)
      (repeat' split) <;> first | exact ih _ _ (by omega) h | exact ih _ _ (by omega) (Or.inr (mB_nI (by omega)))
theorem mME {u : bU} (a b : Int32) (hI : mInv u) : F6_mostEmpties u a b = -1 ∨ mB (F6_mostEmpties u a b) := by
  rw [F6_mostEmpties]
  exact mME_loop a b (mNB hI) _ _ _ (by have := mNB hI; omega) (Or.inl rfl)
theorem mMEn {x : Int32} (h : x = -1 ∨ mB x) : ∃ j : Nat, j < 9 ∧ x = nI j - 1 := by
  rcases h with h | ⟨j, hj, h⟩
  · exact ⟨0, by decide, h.trans (by decide)⟩
  · exact ⟨j + 1, by omega, by rw [h, nI_pred]⟩
theorem mMEb {j : Nat} : F6_brandAt (nI j - 1) 4 = nI (7 + 10 * j) := by
  show (nI 13 + nI 10 * (nI j - 1)) + nI 4 = _
  rw [show (7 + 10 * j) = 13 + 10 * j + 4 - 10 by omega, ← pk_sub (show 10 ≤ 13 + 10 * j + 4 by omega), ← nI_add, ← nI_add, ← pk_mul]
  have : nI 10 * (nI j - 1) = nI 10 * nI j - nI 10 := by rw [Int32.mul_sub, Int32.mul_one]
  rw [this]
  grind
theorem mMEs {s j : Nat} : F6_shopAt (nI s) (13 + (nI j - 1)) = nI (93 + 21 * s + 12 + j) := by
  rw [show (13 + (nI j - 1) : Int32) = nI (12 + j) from by
    rw [← nI_add]
    show (13 : Int32) + (nI j - 1) = 12 + nI j
    grind, shopAt_nI]
  rw [show 93 + 21 * s + (12 + j) = 93 + 21 * s + 12 + j by omega]
theorem mXMEb {u : bU} {a b : Int32} (hI : mInv u) : vp_in (F6_brandAt (F6_mostEmpties u a b) 4) 283 := by
  obtain ⟨j, hj, e⟩ := mMEn (mME a b hI)
  rw [e, mMEb]
  exact vp_in_nI (by omega) (by decide)
theorem mXMEb2 {x : Int32} (h : x = -1 ∨ mB x) : vp_in (F6_brandAt x 4) 283 := by
  obtain ⟨j, hj, e⟩ := mMEn h
  rw [e, mMEb]
  exact vp_in_nI (by omega) (by decide)
theorem mXMEs {u : bU} {s a b : Int32} (hI : mInv u) (hs : mS s) : vp_in (F6_shopAt s (13 + F6_mostEmpties u a b)) 283 := by
  obtain ⟨j, hj, e⟩ := mMEn (mME a b hI)
  obtain ⟨i, hi, rfl⟩ := hs
  rw [e, mMEs]
  exact vp_in_nI (by omega) (by decide)
theorem mInv_MEs {u v : bU} {s a b z : Int32} (hv : mInv v) (hI : mInv u) (hs : mS s) : mInv (bput u 0 (F6_shopAt s (13 + F6_mostEmpties v a b)).toNatClampNeg z) := by
  obtain ⟨j, hj, e⟩ := mMEn (mME a b hv)
  obtain ⟨i, hi, rfl⟩ := hs
  rw [e, mMEs, mC (by omega)]
  exact mInv_v hI (mP_any (by omega) (by omega) (by omega) (fun c hc => by omega))
theorem mInv_MEb {u v : bU} {a b z : Int32} (hv : mInv v) (hI : mInv u) : mInv (bput u 0 (F6_brandAt (F6_mostEmpties v a b) 4).toNatClampNeg z) := by
  obtain ⟨j, hj, e⟩ := mMEn (mME a b hv)
  rw [e, mMEb, mC (by omega)]
  exact mInv_v hI (mP_any (by omega) (by omega) (by omega) (fun c hc => by omega))
theorem bd_X6full : yX6_full.cls ≠ "java/lang/invoke/MethodHandle" ∧ yX6_full.cls ≠ "java/lang/invoke/VarHandle" ∧ (parseMethodDescriptor yX6_full.desc).map (fun d => d.parameters.length) = some 2 := by decide +kernel
theorem bd_X6least : yX6_least.cls ≠ "java/lang/invoke/MethodHandle" ∧ yX6_least.cls ≠ "java/lang/invoke/VarHandle" ∧ (parseMethodDescriptor yX6_least.desc).map (fun d => d.parameters.length) = some 2 := by decide +kernel
def F6_fills (u : bU) (a1 : Int32) (a2 : Int32) : Int32 × bU := ((F6_full u a1 a2), (badd (badd (badd (bsub u 0 (F6_brandAt a1 1).toNatClampNeg a2) 0 (F6_brandAt a1 2).toNatClampNeg (F6_full u a1 a2)) 0 (F6_brandAt a1 7).toNatClampNeg (a2 - (F6_full u a1 a2))) 0 (F6_brandAt a1 8).toNatClampNeg a2))
set_option maxHeartbeats 4000000 in
set_option maxRecDepth 100000 in
theorem C6_fills (l : Launch) (D : va_G) (cI : ClassId) (q : Nat → Nat) (u : bU) (H0 : Heap) (hq : bInj 7 q) (hP : va_P D vwCl (wM cI q u) H0) (hI : mInv u) (a1 : Int32) (a2 : Int32) (h_a1 : mB a1) : Met l yX6_fills wsX6_fills ({ frames := 3, cells := 0, slots := 0, locals := 66 }) (bP D [(cI, .int)] H0 [.ref (q 0), .int a1, .int a2]) (bWi D (wM cI q) mInv (bA 7 q H0.size) (F6_fills u a1 a2)) 0 0 (bA 7 q H0.size) := by
  refine Met.ofW (cc := cX6_fills) (maxL := 4) (ret := (some .int)) (by decide) rfl ?_
  intro p e s m args below meth c s₁ B hml hv
  obtain ⟨rfl, hH, hk⟩ := hv
  subst hH
  have hx := B.exec
  have hb := B.bytes
  have hr := B.returns
  have hts := atoms_spec (ws := wsX6_fills) B.pre
  have hown : s.vm.findClass RX6 = some m.cls := findClass_of_methodNamed B.named
  have hlocks := B.notSynchronized
  have hNB := mNB hI
  have hNS := mNS hI
  have hI0 := hI
  have iX6 : ∀ w ∈ wsX60, w ∈ wsX6_fills := by decide +kernel
  have hS : va_S (bA 7 q s.heap.size) s.heap s.heap [] := va_S.rf
  have hl := lv_entry ([.ref (q 0), .int a1, .int a2]) (n := 4) (Nat.le_of_ble_eq_true rfl)
  rw [lg_entry_eq]
  generalize (lg_sl ([.ref (q 0), .int a1, .int a2]) ++ List.replicate (4 - (lg_sl ([.ref (q 0), .int a1, .int a2])).length) Slot.unset).toArray = ls at hl ⊢
  have hl : lv_has ls 4 [(0, .ref (q 0)), (1, .int a1), (2, .int a2)] := hl
  generalize hF : F6_fills u a1 a2 = tgt
  refine lv_aload_n hx hb dX6_fills_0 rfl (lv_at hl 0 rfl) ?_
  refine lv_iload_n hx hb dX6_fills_1 rfl (lv_at hl 1 rfl) ?_
  refine lv_iload_n hx hb dX6_fills_2 rfl (lv_at hl 2 rfl) ?_
  refine bcall_Ri (va_runV (As := [.int a1, .int a2]) (rest := []) ⟨hx, hb, hml, hown, hts⟩ (C6_full l D cI q _ _ hP hI a1 a2 h_a1) (cwV 2 hts gX6_fills_X6_full rfl rfl rfl ⟨rfl, bd_X6full⟩ ⟨Nat.le_of_ble_eq_true rfl, Nat.le_of_ble_eq_true rfl⟩) (bPV hk (va_recv hk.1 hP (ci := 6) (q0 := 0) rfl (wM_0 _ _ _))) rfl rfl hl.1 rfl (lv_room (Nat.le_of_ble_eq_true rfl)) dX6_fills_3 ⟨Nat.zero_le _, Nat.zero_le _⟩) hS (fun locs hS => ?_)
  refine lv_istore_n (lv' := [(3, .int (F6_full u a1 a2)), (0, .ref (q 0)), (1, .int a1), (2, .int a2)]) hx hb dX6_fills_6 rfl hl (by decide) rfl (fun ls hl => ?_)
  refine lv_aload_n hx hb dX6_fills_7 rfl (lv_at hl 1 rfl) ?_
  refine va_get (D := D) (ci := 6) (C := RX6) (T := TX6) (N := 16) hx hb hts iX6 hown hk.1 hP 0 (wM_0 _ _ _) rfl 0 (by decide) (hts (.fieldLink RX6 7 "BottleLoopModel" "v" "[I") (List.mem_of_getElem? (i := 1) rfl)) (fun _ h9 => h9) rfl dX6_fills_8 ?_
  refine lv_iload_n hx hb dX6_fills_11 rfl (lv_at hl 2 rfl) ?_
  refine lv_iconst (v := 1) hx hb dX6_fills_12 (by decide) ?_
  refine bcall_Ri (va_runS (As := [.int a1, .int 1]) (rest := [.ref (q 1)]) ⟨hx, hb, hml, hown, hts⟩ (C6_brandAt l D cI q _ a1 1) (va_cwS 2 hts gX6_fills_X6_brandAt rfl rfl rfl bd_X6brandAt ⟨Nat.le_of_ble_eq_true rfl, Nat.le_of_ble_eq_true rfl⟩) (bPS hk) rfl rfl hl.1 rfl (lv_room (Nat.le_of_ble_eq_true rfl)) dX6_fills_13 ⟨Nat.zero_le _, Nat.zero_le _⟩) hS (fun locs hS => ?_)
  refine lv_dup2_11 hx hb dX6_fills_16 rfl rfl ?_
  refine va_iald hx hb hk.1 hP 1 0 (wM_1 _ _ _) rfl (mXB (w := 1) h_a1 (by decide)) dX6_fills_17 ?_
  refine lv_iload_n hx hb dX6_fills_18 rfl (lv_at hl 3 rfl) ?_
  refine lv_isub hx hb dX6_fills_19 ?_
  refine va_iast hx hb hk.1 hP (wM_D hq) hS 1 0 (wM_1 _ _ _) rfl (mXB (w := 1) h_a1 (by decide)) dX6_fills_20 (fun H locs hP _ hS => ?_)
  have hP : va_P D vwCl (wM cI q (bsub u 0 (F6_brandAt a1 1).toNatClampNeg a2)) H := pM_0s hP
  have hI_1 : mInv (bsub u 0 (F6_brandAt a1 1).toNatClampNeg a2) := mInv_B (w := 1) hI h_a1 (by decide) (by decide)
  refine lv_aload_n hx hb dX6_fills_21 rfl (lv_at hl 1 rfl) ?_
  refine va_get (D := D) (ci := 6) (C := RX6) (T := TX6) (N := 16) hx hb hts iX6 hown hk.1 hP 0 (wM_0 _ _ _) rfl 0 (by decide) (hts (.fieldLink RX6 7 "BottleLoopModel" "v" "[I") (List.mem_of_getElem? (i := 1) rfl)) (fun _ h9 => h9) rfl dX6_fills_22 ?_
  refine lv_iload_n hx hb dX6_fills_25 rfl (lv_at hl 2 rfl) ?_
  refine lv_iconst (v := 2) hx hb dX6_fills_26 (by decide) ?_
  refine bcall_Ri (va_runS (As := [.int a1, .int 2]) (rest := [.ref (q 1)]) ⟨hx, hb, hml, hown, hts⟩ (C6_brandAt l D cI q _ a1 2) (va_cwS 2 hts gX6_fills_X6_brandAt rfl rfl rfl bd_X6brandAt ⟨Nat.le_of_ble_eq_true rfl, Nat.le_of_ble_eq_true rfl⟩) (bPS hk) rfl rfl hl.1 rfl (lv_room (Nat.le_of_ble_eq_true rfl)) dX6_fills_27 ⟨Nat.zero_le _, Nat.zero_le _⟩) hS (fun locs hS => ?_)
  refine lv_dup2_11 hx hb dX6_fills_30 rfl rfl ?_
  refine va_iald hx hb hk.1 hP 1 0 (wM_1 _ _ _) rfl (mXB (w := 2) h_a1 (by decide)) dX6_fills_31 ?_
  refine lv_iload_n hx hb dX6_fills_32 rfl (lv_at hl 0 rfl) ?_
  refine lv_iadd hx hb dX6_fills_33 ?_
  refine va_iast hx hb hk.1 hP (wM_D hq) hS 1 0 (wM_1 _ _ _) rfl (mXB (w := 2) h_a1 (by decide)) dX6_fills_34 (fun H locs hP _ hS => ?_)
  have hP : va_P D vwCl (wM cI q (badd (bsub u 0 (F6_brandAt a1 1).toNatClampNeg a2) 0 (F6_brandAt a1 2).toNatClampNeg (F6_full u a1 a2))) H := pM_0a hP
  have hI_2 : mInv (badd (bsub u 0 (F6_brandAt a1 1).toNatClampNeg a2) 0 (F6_brandAt a1 2).toNatClampNeg (F6_full u a1 a2)) := mInv_B (w := 2) hI_1 h_a1 (by decide) (by decide)
  refine lv_aload_n hx hb dX6_fills_35 rfl (lv_at hl 1 rfl) ?_
  refine va_get (D := D) (ci := 6) (C := RX6) (T := TX6) (N := 16) hx hb hts iX6 hown hk.1 hP 0 (wM_0 _ _ _) rfl 0 (by decide) (hts (.fieldLink RX6 7 "BottleLoopModel" "v" "[I") (List.mem_of_getElem? (i := 1) rfl)) (fun _ h9 => h9) rfl dX6_fills_36 ?_
  refine lv_iload_n hx hb dX6_fills_39 rfl (lv_at hl 2 rfl) ?_
  refine lv_bipush (v := 7) hx hb dX6_fills_40 (by decide) ?_
  refine bcall_Ri (va_runS (As := [.int a1, .int 7]) (rest := [.ref (q 1)]) ⟨hx, hb, hml, hown, hts⟩ (C6_brandAt l D cI q _ a1 7) (va_cwS 2 hts gX6_fills_X6_brandAt rfl rfl rfl bd_X6brandAt ⟨Nat.le_of_ble_eq_true rfl, Nat.le_of_ble_eq_true rfl⟩) (bPS hk) rfl rfl hl.1 rfl (lv_room (Nat.le_of_ble_eq_true rfl)) dX6_fills_42 ⟨Nat.zero_le _, Nat.zero_le _⟩) hS (fun locs hS => ?_)
  refine lv_dup2_11 hx hb dX6_fills_45 rfl rfl ?_
  refine va_iald hx hb hk.1 hP 1 0 (wM_1 _ _ _) rfl (mXB (w := 7) h_a1 (by decide)) dX6_fills_46 ?_
  refine lv_iload_n hx hb dX6_fills_47 rfl (lv_at hl 3 rfl) ?_
  refine lv_iload_n hx hb dX6_fills_48 rfl (lv_at hl 0 rfl) ?_
  refine lv_isub hx hb dX6_fills_49 ?_
  refine lv_iadd hx hb dX6_fills_50 ?_
  refine va_iast hx hb hk.1 hP (wM_D hq) hS 1 0 (wM_1 _ _ _) rfl (mXB (w := 7) h_a1 (by decide)) dX6_fills_51 (fun H locs hP _ hS => ?_)
  have hP : va_P D vwCl (wM cI q (badd (badd (bsub u 0 (F6_brandAt a1 1).toNatClampNeg a2) 0 (F6_brandAt a1 2).toNatClampNeg (F6_full u a1 a2)) 0 (F6_brandAt a1 7).toNatClampNeg (a2 - (F6_full u a1 a2)))) H := pM_0a hP
  have hI_3 : mInv (badd (badd (bsub u 0 (F6_brandAt a1 1).toNatClampNeg a2) 0 (F6_brandAt a1 2).toNatClampNeg (F6_full u a1 a2)) 0 (F6_brandAt a1 7).toNatClampNeg (a2 - (F6_full u a1 a2))) := mInv_B (w := 7) hI_2 h_a1 (by decide) (by decide)
  refine lv_aload_n hx hb dX6_fills_52 rfl (lv_at hl 1 rfl) ?_
  refine va_get (D := D) (ci := 6) (C := RX6) (T := TX6) (N := 16) hx hb hts iX6 hown hk.1 hP 0 (wM_0 _ _ _) rfl 0 (by decide) (hts (.fieldLink RX6 7 "BottleLoopModel" "v" "[I") (List.mem_of_getElem? (i := 1) rfl)) (fun _ h9 => h9) rfl dX6_fills_53 ?_
  refine lv_iload_n hx hb dX6_fills_56 rfl (lv_at hl 2 rfl) ?_
  refine lv_bipush (v := 8) hx hb dX6_fills_57 (by decide) ?_
  refine bcall_Ri (va_runS (As := [.int a1, .int 8]) (rest := [.ref (q 1)]) ⟨hx, hb, hml, hown, hts⟩ (C6_brandAt l D cI q _ a1 8) (va_cwS 2 hts gX6_fills_X6_brandAt rfl rfl rfl bd_X6brandAt ⟨Nat.le_of_ble_eq_true rfl, Nat.le_of_ble_eq_true rfl⟩) (bPS hk) rfl rfl hl.1 rfl (lv_room (Nat.le_of_ble_eq_true rfl)) dX6_fills_59 ⟨Nat.zero_le _, Nat.zero_le _⟩) hS (fun locs hS => ?_)
  refine lv_dup2_11 hx hb dX6_fills_62 rfl rfl ?_
  refine va_iald hx hb hk.1 hP 1 0 (wM_1 _ _ _) rfl (mXB (w := 8) h_a1 (by decide)) dX6_fills_63 ?_
  refine lv_iload_n hx hb dX6_fills_64 rfl (lv_at hl 3 rfl) ?_
  refine lv_iadd hx hb dX6_fills_65 ?_
  refine va_iast hx hb hk.1 hP (wM_D hq) hS 1 0 (wM_1 _ _ _) rfl (mXB (w := 8) h_a1 (by decide)) dX6_fills_66 (fun H locs hP _ hS => ?_)
  have hP : va_P D vwCl (wM cI q (badd (badd (badd (bsub u 0 (F6_brandAt a1 1).toNatClampNeg a2) 0 (F6_brandAt a1 2).toNatClampNeg (F6_full u a1 a2)) 0 (F6_brandAt a1 7).toNatClampNeg (a2 - (F6_full u a1 a2))) 0 (F6_brandAt a1 8).toNatClampNeg a2)) H := pM_0a hP
  have hI_4 : mInv (badd (badd (badd (bsub u 0 (F6_brandAt a1 1).toNatClampNeg a2) 0 (F6_brandAt a1 2).toNatClampNeg (F6_full u a1 a2)) 0 (F6_brandAt a1 7).toNatClampNeg (a2 - (F6_full u a1 a2))) 0 (F6_brandAt a1 8).toNatClampNeg a2) := mInv_B (w := 8) hI_3 h_a1 (by decide) (by decide)
  refine lv_iload_n hx hb dX6_fills_67 rfl (lv_at hl 0 rfl) ?_
  exact bret_Wi hx hb hr hP hI_4 hS hlocks dX6_fills_68 (by rw [← hF, F6_fills])
def F6_delivers (u : bU) (a1 : Int32) (a2 : Int32) (a3 : Int32) : Int32 × bU := (((F6_depositsFor u (F6_of u a1 0) a3) + (a3 * (u 0 11))), (badd (badd (badd (badd (bsub (badd (bsub (badd (bsub u 0 (F6_brandAt a1 2).toNatClampNeg (12 * a3)) 0 (F6_shopAt a2 (5 + a1)).toNatClampNeg (12 * a3)) 0 2 a3) 0 (F6_shopAt a2 1).toNatClampNeg a3) 0 (F6_shopAt a2 0).toNatClampNeg ((F6_depositsFor u (F6_of u a1 0) a3) + (a3 * (u 0 11)))) 0 (F6_shopAt a2 2).toNatClampNeg (F6_depositsFor u (F6_of u a1 0) a3)) 0 (F6_shopAt a2 3).toNatClampNeg (a3 * (u 0 11))) 0 3 (F6_depositsFor u (F6_of u a1 0) a3)) 0 5 (a3 * (u 0 11))))
set_option maxHeartbeats 4000000 in
set_option maxRecDepth 100000 in
theorem C6_delivers (l : Launch) (D : va_G) (cI : ClassId) (q : Nat → Nat) (u : bU) (H0 : Heap) (hq : bInj 7 q) (hP : va_P D vwCl (wM cI q u) H0) (hI : mInv u) (a1 : Int32) (a2 : Int32) (a3 : Int32) (h_a1 : mB a1) (h_a2 : mS a2) : Met l yX6_delivers wsX6_delivers ({ frames := 2, cells := 0, slots := 0, locals := 43 }) (bP D [(cI, .int)] H0 [.ref (q 0), .int a1, .int a2, .int a3]) (bWi D (wM cI q) mInv (bA 7 q H0.size) (F6_delivers u a1 a2 a3)) 0 0 (bA 7 q H0.size) := by
  refine Met.ofW (cc := cX6_delivers) (maxL := 6) (ret := (some .int)) (by decide) rfl ?_
  intro p e s m args below meth c s₁ B hml hv
  obtain ⟨rfl, hH, hk⟩ := hv
  subst hH
  have hx := B.exec
  have hb := B.bytes
  have hr := B.returns
  have hts := atoms_spec (ws := wsX6_delivers) B.pre
  have hown : s.vm.findClass RX6 = some m.cls := findClass_of_methodNamed B.named
  have hlocks := B.notSynchronized
  have hNB := mNB hI
  have hNS := mNS hI
  have hI0 := hI
  have iX6 : ∀ w ∈ wsX60, w ∈ wsX6_delivers := by decide +kernel
  have hS : va_S (bA 7 q s.heap.size) s.heap s.heap [] := va_S.rf
  have hl := lv_entry ([.ref (q 0), .int a1, .int a2, .int a3]) (n := 6) (Nat.le_of_ble_eq_true rfl)
  rw [lg_entry_eq]
  generalize (lg_sl ([.ref (q 0), .int a1, .int a2, .int a3]) ++ List.replicate (6 - (lg_sl ([.ref (q 0), .int a1, .int a2, .int a3])).length) Slot.unset).toArray = ls at hl ⊢
  have hl : lv_has ls 6 [(0, .ref (q 0)), (1, .int a1), (2, .int a2), (3, .int a3)] := hl
  generalize hF : F6_delivers u a1 a2 a3 = tgt
  refine lv_aload_n hx hb dX6_delivers_0 rfl (lv_at hl 0 rfl) ?_
  refine lv_aload_n hx hb dX6_delivers_1 rfl (lv_at hl 0 rfl) ?_
  refine lv_iload_n hx hb dX6_delivers_2 rfl (lv_at hl 1 rfl) ?_
  refine lv_iconst (v := 0) hx hb dX6_delivers_3 (by decide) ?_
  refine bcall_Ri (va_runV (As := [.int a1, .int 0]) (rest := [.ref (q 0)]) ⟨hx, hb, hml, hown, hts⟩ (C6_of l D cI q _ _ hP hI a1 0 (mXB (w := 0) h_a1 (by decide))) (cwV 2 hts gX6_delivers_X6_of rfl rfl rfl ⟨rfl, bd_X6of⟩ ⟨Nat.le_of_ble_eq_true rfl, Nat.le_of_ble_eq_true rfl⟩) (bPV hk (va_recv hk.1 hP (ci := 6) (q0 := 0) rfl (wM_0 _ _ _))) rfl rfl hl.1 rfl (lv_room (Nat.le_of_ble_eq_true rfl)) dX6_delivers_4 ⟨Nat.zero_le _, Nat.zero_le _⟩) hS (fun locs hS => ?_)
  refine lv_iload_n hx hb dX6_delivers_7 rfl (lv_at hl 3 rfl) ?_
  refine bcall_Ri (va_runV (As := [.int (F6_of u a1 0), .int a3]) (rest := []) ⟨hx, hb, hml, hown, hts⟩ (C6_depositsFor l D cI q _ _ hP hI (F6_of u a1 0) a3 (mK_of hI0 h_a1)) (cwV 2 hts gX6_delivers_X6_depositsFor rfl rfl rfl ⟨rfl, bd_X6depositsFor⟩ ⟨Nat.le_of_ble_eq_true rfl, Nat.le_of_ble_eq_true rfl⟩) (bPV hk (va_recv hk.1 hP (ci := 6) (q0 := 0) rfl (wM_0 _ _ _))) rfl rfl hl.1 rfl (lv_room (Nat.le_of_ble_eq_true rfl)) dX6_delivers_8 ⟨Nat.zero_le _, Nat.zero_le _⟩) hS (fun locs hS => ?_)
  refine lv_istore (lv' := [(4, .int (F6_depositsFor u (F6_of u a1 0) a3)), (0, .ref (q 0)), (1, .int a1), (2, .int a2), (3, .int a3)]) hx hb dX6_delivers_11 hl (by decide) rfl (fun ls hl => ?_)
  refine lv_iload_n hx hb dX6_delivers_13 rfl (lv_at hl 4 rfl) ?_
  refine lv_aload_n hx hb dX6_delivers_14 rfl (lv_at hl 1 rfl) ?_
  refine va_get (D := D) (ci := 6) (C := RX6) (T := TX6) (N := 16) hx hb hts iX6 hown hk.1 hP 0 (wM_0 _ _ _) rfl 0 (by decide) (hts (.fieldLink RX6 7 "BottleLoopModel" "v" "[I") (List.mem_of_getElem? (i := 1) rfl)) (fun _ h9 => h9) rfl dX6_delivers_15 ?_
  refine lv_bipush (v := 11) hx hb dX6_delivers_18 (by decide) ?_
  refine va_iald hx hb hk.1 hP 1 0 (wM_1 _ _ _) rfl (vp_in_nI (n := 11) (by decide) (by decide)) dX6_delivers_20 ?_
  refine lv_topi (fun z9 hz9 => ?_)
  obtain rfl : z9 = (u 0 11) := hz9.trans rfl
  refine lv_imul hx hb dX6_delivers_21 ?_
  refine lv_istore (lv' := [(5, .int (a3 * (u 0 11))), (4, .int (F6_depositsFor u (F6_of u a1 0) a3)), (0, .ref (q 0)), (1, .int a1), (2, .int a2), (3, .int a3)]) hx hb dX6_delivers_22 hl (by decide) rfl (fun ls hl => ?_)
  refine lv_aload_n hx hb dX6_delivers_24 rfl (lv_at hl 2 rfl) ?_
  refine va_get (D := D) (ci := 6) (C := RX6) (T := TX6) (N := 16) hx hb hts iX6 hown hk.1 hP 0 (wM_0 _ _ _) rfl 0 (by decide) (hts (.fieldLink RX6 7 "BottleLoopModel" "v" "[I") (List.mem_of_getElem? (i := 1) rfl)) (fun _ h9 => h9) rfl dX6_delivers_25 ?_
  refine lv_iload_n hx hb dX6_delivers_28 rfl (lv_at hl 3 rfl) ?_
  refine lv_iconst (v := 2) hx hb dX6_delivers_29 (by decide) ?_
  refine bcall_Ri (va_runS (As := [.int a1, .int 2]) (rest := [.ref (q 1)]) ⟨hx, hb, hml, hown, hts⟩ (C6_brandAt l D cI q _ a1 2) (va_cwS 2 hts gX6_delivers_X6_brandAt rfl rfl rfl bd_X6brandAt ⟨Nat.le_of_ble_eq_true rfl, Nat.le_of_ble_eq_true rfl⟩) (bPS hk) rfl rfl hl.1 rfl (lv_room (Nat.le_of_ble_eq_true rfl)) dX6_delivers_30 ⟨Nat.zero_le _, Nat.zero_le _⟩) hS (fun locs hS => ?_)
  refine lv_dup2_11 hx hb dX6_delivers_33 rfl rfl ?_
  refine va_iald hx hb hk.1 hP 1 0 (wM_1 _ _ _) rfl (mXB (w := 2) h_a1 (by decide)) dX6_delivers_34 ?_
  refine lv_bipush (v := 12) hx hb dX6_delivers_35 (by decide) ?_
  refine lv_iload_n hx hb dX6_delivers_37 rfl (lv_at hl 5 rfl) ?_
  refine lv_imul hx hb dX6_delivers_38 ?_
  refine lv_isub hx hb dX6_delivers_39 ?_
  refine va_iast hx hb hk.1 hP (wM_D hq) hS 1 0 (wM_1 _ _ _) rfl (mXB (w := 2) h_a1 (by decide)) dX6_delivers_40 (fun H locs hP _ hS => ?_)
  have hP : va_P D vwCl (wM cI q (bsub u 0 (F6_brandAt a1 2).toNatClampNeg (12 * a3))) H := pM_0s hP
  have hI_1 : mInv (bsub u 0 (F6_brandAt a1 2).toNatClampNeg (12 * a3)) := mInv_B (w := 2) hI h_a1 (by decide) (by decide)
  refine lv_aload_n hx hb dX6_delivers_41 rfl (lv_at hl 2 rfl) ?_
  refine va_get (D := D) (ci := 6) (C := RX6) (T := TX6) (N := 16) hx hb hts iX6 hown hk.1 hP 0 (wM_0 _ _ _) rfl 0 (by decide) (hts (.fieldLink RX6 7 "BottleLoopModel" "v" "[I") (List.mem_of_getElem? (i := 1) rfl)) (fun _ h9 => h9) rfl dX6_delivers_42 ?_
  refine lv_iload_n hx hb dX6_delivers_45 rfl (lv_at hl 4 rfl) ?_
  refine lv_iconst (v := 5) hx hb dX6_delivers_46 (by decide) ?_
  refine lv_iload_n hx hb dX6_delivers_47 rfl (lv_at hl 3 rfl) ?_
  refine lv_iadd hx hb dX6_delivers_48 ?_
  refine bcall_Ri (va_runS (As := [.int a2, .int (5 + a1)]) (rest := [.ref (q 1)]) ⟨hx, hb, hml, hown, hts⟩ (C6_shopAt l D cI q _ a2 (5 + a1)) (va_cwS 2 hts gX6_delivers_X6_shopAt rfl rfl rfl bd_X6shopAt ⟨Nat.le_of_ble_eq_true rfl, Nat.le_of_ble_eq_true rfl⟩) (bPS hk) rfl rfl hl.1 rfl (lv_room (Nat.le_of_ble_eq_true rfl)) dX6_delivers_49 ⟨Nat.zero_le _, Nat.zero_le _⟩) hS (fun locs hS => ?_)
  refine lv_dup2_11 hx hb dX6_delivers_52 rfl rfl ?_
  refine va_iald hx hb hk.1 hP 1 0 (wM_1 _ _ _) rfl (mXS2 (w := 5) h_a2 h_a1 (by decide)) dX6_delivers_53 ?_
  refine lv_bipush (v := 12) hx hb dX6_delivers_54 (by decide) ?_
  refine lv_iload_n hx hb dX6_delivers_56 rfl (lv_at hl 5 rfl) ?_
  refine lv_imul hx hb dX6_delivers_57 ?_
  refine lv_iadd hx hb dX6_delivers_58 ?_
  refine va_iast hx hb hk.1 hP (wM_D hq) hS 1 0 (wM_1 _ _ _) rfl (mXS2 (w := 5) h_a2 h_a1 (by decide)) dX6_delivers_59 (fun H locs hP _ hS => ?_)
  have hP : va_P D vwCl (wM cI q (badd (bsub u 0 (F6_brandAt a1 2).toNatClampNeg (12 * a3)) 0 (F6_shopAt a2 (5 + a1)).toNatClampNeg (12 * a3))) H := pM_0a hP
  have hI_2 : mInv (badd (bsub u 0 (F6_brandAt a1 2).toNatClampNeg (12 * a3)) 0 (F6_shopAt a2 (5 + a1)).toNatClampNeg (12 * a3)) := mInv_S2 (w := 5) hI_1 h_a2 h_a1 (by decide)
  refine lv_aload_n hx hb dX6_delivers_60 rfl (lv_at hl 2 rfl) ?_
  refine va_get (D := D) (ci := 6) (C := RX6) (T := TX6) (N := 16) hx hb hts iX6 hown hk.1 hP 0 (wM_0 _ _ _) rfl 0 (by decide) (hts (.fieldLink RX6 7 "BottleLoopModel" "v" "[I") (List.mem_of_getElem? (i := 1) rfl)) (fun _ h9 => h9) rfl dX6_delivers_61 ?_
  refine lv_iconst (v := 2) hx hb dX6_delivers_64 (by decide) ?_
  refine lv_dup2_11 hx hb dX6_delivers_65 rfl rfl ?_
  refine va_iald hx hb hk.1 hP 1 0 (wM_1 _ _ _) rfl (vp_in_nI (n := 2) (by decide) (by decide)) dX6_delivers_66 ?_
  refine lv_topi (fun z9 hz9 => ?_)
  obtain rfl : z9 = ((badd (bsub u 0 (F6_brandAt a1 2).toNatClampNeg (12 * a3)) 0 (F6_shopAt a2 (5 + a1)).toNatClampNeg (12 * a3)) 0 2) := hz9.trans rfl
  refine lv_iload_n hx hb dX6_delivers_67 rfl (lv_at hl 5 rfl) ?_
  refine lv_isub hx hb dX6_delivers_68 ?_
  refine va_iast hx hb hk.1 hP (wM_D hq) hS 1 0 (wM_1 _ _ _) rfl (vp_in_nI (n := 2) (by decide) (by decide)) dX6_delivers_69 (fun H locs hP _ hS => ?_)
  have hP : va_P D vwCl (wM cI q (bsub (badd (bsub u 0 (F6_brandAt a1 2).toNatClampNeg (12 * a3)) 0 (F6_shopAt a2 (5 + a1)).toNatClampNeg (12 * a3)) 0 2 a3)) H := pM_0s hP
  have hI_3 : mInv (bsub (badd (bsub u 0 (F6_brandAt a1 2).toNatClampNeg (12 * a3)) 0 (F6_shopAt a2 (5 + a1)).toNatClampNeg (12 * a3)) 0 2 a3) := mInv_g (k := 2) hI_2 (by decide) (by decide)
  refine lv_aload_n hx hb dX6_delivers_70 rfl (lv_at hl 2 rfl) ?_
  refine va_get (D := D) (ci := 6) (C := RX6) (T := TX6) (N := 16) hx hb hts iX6 hown hk.1 hP 0 (wM_0 _ _ _) rfl 0 (by decide) (hts (.fieldLink RX6 7 "BottleLoopModel" "v" "[I") (List.mem_of_getElem? (i := 1) rfl)) (fun _ h9 => h9) rfl dX6_delivers_71 ?_
  refine lv_iload_n hx hb dX6_delivers_74 rfl (lv_at hl 4 rfl) ?_
  refine lv_iconst (v := 1) hx hb dX6_delivers_75 (by decide) ?_
  refine bcall_Ri (va_runS (As := [.int a2, .int 1]) (rest := [.ref (q 1)]) ⟨hx, hb, hml, hown, hts⟩ (C6_shopAt l D cI q _ a2 1) (va_cwS 2 hts gX6_delivers_X6_shopAt rfl rfl rfl bd_X6shopAt ⟨Nat.le_of_ble_eq_true rfl, Nat.le_of_ble_eq_true rfl⟩) (bPS hk) rfl rfl hl.1 rfl (lv_room (Nat.le_of_ble_eq_true rfl)) dX6_delivers_76 ⟨Nat.zero_le _, Nat.zero_le _⟩) hS (fun locs hS => ?_)
  refine lv_dup2_11 hx hb dX6_delivers_79 rfl rfl ?_
  refine va_iald hx hb hk.1 hP 1 0 (wM_1 _ _ _) rfl (mXS (w := 1) h_a2 (by decide)) dX6_delivers_80 ?_
  refine lv_iload_n hx hb dX6_delivers_81 rfl (lv_at hl 5 rfl) ?_
  refine lv_iadd hx hb dX6_delivers_82 ?_
  refine va_iast hx hb hk.1 hP (wM_D hq) hS 1 0 (wM_1 _ _ _) rfl (mXS (w := 1) h_a2 (by decide)) dX6_delivers_83 (fun H locs hP _ hS => ?_)
  have hP : va_P D vwCl (wM cI q (badd (bsub (badd (bsub u 0 (F6_brandAt a1 2).toNatClampNeg (12 * a3)) 0 (F6_shopAt a2 (5 + a1)).toNatClampNeg (12 * a3)) 0 2 a3) 0 (F6_shopAt a2 1).toNatClampNeg a3)) H := pM_0a hP
  have hI_4 : mInv (badd (bsub (badd (bsub u 0 (F6_brandAt a1 2).toNatClampNeg (12 * a3)) 0 (F6_shopAt a2 (5 + a1)).toNatClampNeg (12 * a3)) 0 2 a3) 0 (F6_shopAt a2 1).toNatClampNeg a3) := mInv_S (w := 1) hI_3 h_a2 (by decide)
  refine lv_aload_n hx hb dX6_delivers_84 rfl (lv_at hl 2 rfl) ?_
  refine va_get (D := D) (ci := 6) (C := RX6) (T := TX6) (N := 16) hx hb hts iX6 hown hk.1 hP 0 (wM_0 _ _ _) rfl 0 (by decide) (hts (.fieldLink RX6 7 "BottleLoopModel" "v" "[I") (List.mem_of_getElem? (i := 1) rfl)) (fun _ h9 => h9) rfl dX6_delivers_85 ?_
  refine lv_iload_n hx hb dX6_delivers_88 rfl (lv_at hl 4 rfl) ?_
  refine lv_iconst (v := 0) hx hb dX6_delivers_89 (by decide) ?_
  refine bcall_Ri (va_runS (As := [.int a2, .int 0]) (rest := [.ref (q 1)]) ⟨hx, hb, hml, hown, hts⟩ (C6_shopAt l D cI q _ a2 0) (va_cwS 2 hts gX6_delivers_X6_shopAt rfl rfl rfl bd_X6shopAt ⟨Nat.le_of_ble_eq_true rfl, Nat.le_of_ble_eq_true rfl⟩) (bPS hk) rfl rfl hl.1 rfl (lv_room (Nat.le_of_ble_eq_true rfl)) dX6_delivers_90 ⟨Nat.zero_le _, Nat.zero_le _⟩) hS (fun locs hS => ?_)
  refine lv_dup2_11 hx hb dX6_delivers_93 rfl rfl ?_
  refine va_iald hx hb hk.1 hP 1 0 (wM_1 _ _ _) rfl (mXS (w := 0) h_a2 (by decide)) dX6_delivers_94 ?_
  refine lv_iload hx hb dX6_delivers_95 (lv_at hl 1 rfl) ?_
  refine lv_iload hx hb dX6_delivers_97 (lv_at hl 0 rfl) ?_
  refine lv_iadd hx hb dX6_delivers_99 ?_
  refine lv_isub hx hb dX6_delivers_100 ?_
  refine va_iast hx hb hk.1 hP (wM_D hq) hS 1 0 (wM_1 _ _ _) rfl (mXS (w := 0) h_a2 (by decide)) dX6_delivers_101 (fun H locs hP _ hS => ?_)
  have hP : va_P D vwCl (wM cI q (bsub (badd (bsub (badd (bsub u 0 (F6_brandAt a1 2).toNatClampNeg (12 * a3)) 0 (F6_shopAt a2 (5 + a1)).toNatClampNeg (12 * a3)) 0 2 a3) 0 (F6_shopAt a2 1).toNatClampNeg a3) 0 (F6_shopAt a2 0).toNatClampNeg ((F6_depositsFor u (F6_of u a1 0) a3) + (a3 * (u 0 11))))) H := pM_0s hP
  have hI_5 : mInv (bsub (badd (bsub (badd (bsub u 0 (F6_brandAt a1 2).toNatClampNeg (12 * a3)) 0 (F6_shopAt a2 (5 + a1)).toNatClampNeg (12 * a3)) 0 2 a3) 0 (F6_shopAt a2 1).toNatClampNeg a3) 0 (F6_shopAt a2 0).toNatClampNeg ((F6_depositsFor u (F6_of u a1 0) a3) + (a3 * (u 0 11)))) := mInv_S (w := 0) hI_4 h_a2 (by decide)
  refine lv_aload_n hx hb dX6_delivers_102 rfl (lv_at hl 2 rfl) ?_
  refine va_get (D := D) (ci := 6) (C := RX6) (T := TX6) (N := 16) hx hb hts iX6 hown hk.1 hP 0 (wM_0 _ _ _) rfl 0 (by decide) (hts (.fieldLink RX6 7 "BottleLoopModel" "v" "[I") (List.mem_of_getElem? (i := 1) rfl)) (fun _ h9 => h9) rfl dX6_delivers_103 ?_
  refine lv_iload_n hx hb dX6_delivers_106 rfl (lv_at hl 4 rfl) ?_
  refine lv_iconst (v := 2) hx hb dX6_delivers_107 (by decide) ?_
  refine bcall_Ri (va_runS (As := [.int a2, .int 2]) (rest := [.ref (q 1)]) ⟨hx, hb, hml, hown, hts⟩ (C6_shopAt l D cI q _ a2 2) (va_cwS 2 hts gX6_delivers_X6_shopAt rfl rfl rfl bd_X6shopAt ⟨Nat.le_of_ble_eq_true rfl, Nat.le_of_ble_eq_true rfl⟩) (bPS hk) rfl rfl hl.1 rfl (lv_room (Nat.le_of_ble_eq_true rfl)) dX6_delivers_108 ⟨Nat.zero_le _, Nat.zero_le _⟩) hS (fun locs hS => ?_)
  refine lv_dup2_11 hx hb dX6_delivers_111 rfl rfl ?_
  refine va_iald hx hb hk.1 hP 1 0 (wM_1 _ _ _) rfl (mXS (w := 2) h_a2 (by decide)) dX6_delivers_112 ?_
  refine lv_iload hx hb dX6_delivers_113 (lv_at hl 1 rfl) ?_
  refine lv_iadd hx hb dX6_delivers_115 ?_
  refine va_iast hx hb hk.1 hP (wM_D hq) hS 1 0 (wM_1 _ _ _) rfl (mXS (w := 2) h_a2 (by decide)) dX6_delivers_116 (fun H locs hP _ hS => ?_)
  have hP : va_P D vwCl (wM cI q (badd (bsub (badd (bsub (badd (bsub u 0 (F6_brandAt a1 2).toNatClampNeg (12 * a3)) 0 (F6_shopAt a2 (5 + a1)).toNatClampNeg (12 * a3)) 0 2 a3) 0 (F6_shopAt a2 1).toNatClampNeg a3) 0 (F6_shopAt a2 0).toNatClampNeg ((F6_depositsFor u (F6_of u a1 0) a3) + (a3 * (u 0 11)))) 0 (F6_shopAt a2 2).toNatClampNeg (F6_depositsFor u (F6_of u a1 0) a3))) H := pM_0a hP
  have hI_6 : mInv (badd (bsub (badd (bsub (badd (bsub u 0 (F6_brandAt a1 2).toNatClampNeg (12 * a3)) 0 (F6_shopAt a2 (5 + a1)).toNatClampNeg (12 * a3)) 0 2 a3) 0 (F6_shopAt a2 1).toNatClampNeg a3) 0 (F6_shopAt a2 0).toNatClampNeg ((F6_depositsFor u (F6_of u a1 0) a3) + (a3 * (u 0 11)))) 0 (F6_shopAt a2 2).toNatClampNeg (F6_depositsFor u (F6_of u a1 0) a3)) := mInv_S (w := 2) hI_5 h_a2 (by decide)
  refine lv_aload_n hx hb dX6_delivers_117 rfl (lv_at hl 2 rfl) ?_
  refine va_get (D := D) (ci := 6) (C := RX6) (T := TX6) (N := 16) hx hb hts iX6 hown hk.1 hP 0 (wM_0 _ _ _) rfl 0 (by decide) (hts (.fieldLink RX6 7 "BottleLoopModel" "v" "[I") (List.mem_of_getElem? (i := 1) rfl)) (fun _ h9 => h9) rfl dX6_delivers_118 ?_
  refine lv_iload_n hx hb dX6_delivers_121 rfl (lv_at hl 4 rfl) ?_
  refine lv_iconst (v := 3) hx hb dX6_delivers_122 (by decide) ?_
  refine bcall_Ri (va_runS (As := [.int a2, .int 3]) (rest := [.ref (q 1)]) ⟨hx, hb, hml, hown, hts⟩ (C6_shopAt l D cI q _ a2 3) (va_cwS 2 hts gX6_delivers_X6_shopAt rfl rfl rfl bd_X6shopAt ⟨Nat.le_of_ble_eq_true rfl, Nat.le_of_ble_eq_true rfl⟩) (bPS hk) rfl rfl hl.1 rfl (lv_room (Nat.le_of_ble_eq_true rfl)) dX6_delivers_123 ⟨Nat.zero_le _, Nat.zero_le _⟩) hS (fun locs hS => ?_)
  refine lv_dup2_11 hx hb dX6_delivers_126 rfl rfl ?_
  refine va_iald hx hb hk.1 hP 1 0 (wM_1 _ _ _) rfl (mXS (w := 3) h_a2 (by decide)) dX6_delivers_127 ?_
  refine lv_iload hx hb dX6_delivers_128 (lv_at hl 0 rfl) ?_
  refine lv_iadd hx hb dX6_delivers_130 ?_
  refine va_iast hx hb hk.1 hP (wM_D hq) hS 1 0 (wM_1 _ _ _) rfl (mXS (w := 3) h_a2 (by decide)) dX6_delivers_131 (fun H locs hP _ hS => ?_)
  have hP : va_P D vwCl (wM cI q (badd (badd (bsub (badd (bsub (badd (bsub u 0 (F6_brandAt a1 2).toNatClampNeg (12 * a3)) 0 (F6_shopAt a2 (5 + a1)).toNatClampNeg (12 * a3)) 0 2 a3) 0 (F6_shopAt a2 1).toNatClampNeg a3) 0 (F6_shopAt a2 0).toNatClampNeg ((F6_depositsFor u (F6_of u a1 0) a3) + (a3 * (u 0 11)))) 0 (F6_shopAt a2 2).toNatClampNeg (F6_depositsFor u (F6_of u a1 0) a3)) 0 (F6_shopAt a2 3).toNatClampNeg (a3 * (u 0 11)))) H := pM_0a hP
  have hI_7 : mInv (badd (badd (bsub (badd (bsub (badd (bsub u 0 (F6_brandAt a1 2).toNatClampNeg (12 * a3)) 0 (F6_shopAt a2 (5 + a1)).toNatClampNeg (12 * a3)) 0 2 a3) 0 (F6_shopAt a2 1).toNatClampNeg a3) 0 (F6_shopAt a2 0).toNatClampNeg ((F6_depositsFor u (F6_of u a1 0) a3) + (a3 * (u 0 11)))) 0 (F6_shopAt a2 2).toNatClampNeg (F6_depositsFor u (F6_of u a1 0) a3)) 0 (F6_shopAt a2 3).toNatClampNeg (a3 * (u 0 11))) := mInv_S (w := 3) hI_6 h_a2 (by decide)
  refine lv_aload_n hx hb dX6_delivers_132 rfl (lv_at hl 2 rfl) ?_
  refine va_get (D := D) (ci := 6) (C := RX6) (T := TX6) (N := 16) hx hb hts iX6 hown hk.1 hP 0 (wM_0 _ _ _) rfl 0 (by decide) (hts (.fieldLink RX6 7 "BottleLoopModel" "v" "[I") (List.mem_of_getElem? (i := 1) rfl)) (fun _ h9 => h9) rfl dX6_delivers_133 ?_
  refine lv_iconst (v := 3) hx hb dX6_delivers_136 (by decide) ?_
  refine lv_dup2_11 hx hb dX6_delivers_137 rfl rfl ?_
  refine va_iald hx hb hk.1 hP 1 0 (wM_1 _ _ _) rfl (vp_in_nI (n := 3) (by decide) (by decide)) dX6_delivers_138 ?_
  refine lv_topi (fun z9 hz9 => ?_)
  obtain rfl : z9 = ((badd (badd (bsub (badd (bsub (badd (bsub u 0 (F6_brandAt a1 2).toNatClampNeg (12 * a3)) 0 (F6_shopAt a2 (5 + a1)).toNatClampNeg (12 * a3)) 0 2 a3) 0 (F6_shopAt a2 1).toNatClampNeg a3) 0 (F6_shopAt a2 0).toNatClampNeg ((F6_depositsFor u (F6_of u a1 0) a3) + (a3 * (u 0 11)))) 0 (F6_shopAt a2 2).toNatClampNeg (F6_depositsFor u (F6_of u a1 0) a3)) 0 (F6_shopAt a2 3).toNatClampNeg (a3 * (u 0 11))) 0 3) := hz9.trans rfl
  refine lv_iload hx hb dX6_delivers_139 (lv_at hl 1 rfl) ?_
  refine lv_iadd hx hb dX6_delivers_141 ?_
  refine va_iast hx hb hk.1 hP (wM_D hq) hS 1 0 (wM_1 _ _ _) rfl (vp_in_nI (n := 3) (by decide) (by decide)) dX6_delivers_142 (fun H locs hP _ hS => ?_)
  have hP : va_P D vwCl (wM cI q (badd (badd (badd (bsub (badd (bsub (badd (bsub u 0 (F6_brandAt a1 2).toNatClampNeg (12 * a3)) 0 (F6_shopAt a2 (5 + a1)).toNatClampNeg (12 * a3)) 0 2 a3) 0 (F6_shopAt a2 1).toNatClampNeg a3) 0 (F6_shopAt a2 0).toNatClampNeg ((F6_depositsFor u (F6_of u a1 0) a3) + (a3 * (u 0 11)))) 0 (F6_shopAt a2 2).toNatClampNeg (F6_depositsFor u (F6_of u a1 0) a3)) 0 (F6_shopAt a2 3).toNatClampNeg (a3 * (u 0 11))) 0 3 (F6_depositsFor u (F6_of u a1 0) a3))) H := pM_0a hP
  have hI_8 : mInv (badd (badd (badd (bsub (badd (bsub (badd (bsub u 0 (F6_brandAt a1 2).toNatClampNeg (12 * a3)) 0 (F6_shopAt a2 (5 + a1)).toNatClampNeg (12 * a3)) 0 2 a3) 0 (F6_shopAt a2 1).toNatClampNeg a3) 0 (F6_shopAt a2 0).toNatClampNeg ((F6_depositsFor u (F6_of u a1 0) a3) + (a3 * (u 0 11)))) 0 (F6_shopAt a2 2).toNatClampNeg (F6_depositsFor u (F6_of u a1 0) a3)) 0 (F6_shopAt a2 3).toNatClampNeg (a3 * (u 0 11))) 0 3 (F6_depositsFor u (F6_of u a1 0) a3)) := mInv_g (k := 3) hI_7 (by decide) (by decide)
  refine lv_aload_n hx hb dX6_delivers_143 rfl (lv_at hl 2 rfl) ?_
  refine va_get (D := D) (ci := 6) (C := RX6) (T := TX6) (N := 16) hx hb hts iX6 hown hk.1 hP 0 (wM_0 _ _ _) rfl 0 (by decide) (hts (.fieldLink RX6 7 "BottleLoopModel" "v" "[I") (List.mem_of_getElem? (i := 1) rfl)) (fun _ h9 => h9) rfl dX6_delivers_144 ?_
  refine lv_iconst (v := 5) hx hb dX6_delivers_147 (by decide) ?_
  refine lv_dup2_11 hx hb dX6_delivers_148 rfl rfl ?_
  refine va_iald hx hb hk.1 hP 1 0 (wM_1 _ _ _) rfl (vp_in_nI (n := 5) (by decide) (by decide)) dX6_delivers_149 ?_
  refine lv_topi (fun z9 hz9 => ?_)
  obtain rfl : z9 = ((badd (badd (badd (bsub (badd (bsub (badd (bsub u 0 (F6_brandAt a1 2).toNatClampNeg (12 * a3)) 0 (F6_shopAt a2 (5 + a1)).toNatClampNeg (12 * a3)) 0 2 a3) 0 (F6_shopAt a2 1).toNatClampNeg a3) 0 (F6_shopAt a2 0).toNatClampNeg ((F6_depositsFor u (F6_of u a1 0) a3) + (a3 * (u 0 11)))) 0 (F6_shopAt a2 2).toNatClampNeg (F6_depositsFor u (F6_of u a1 0) a3)) 0 (F6_shopAt a2 3).toNatClampNeg (a3 * (u 0 11))) 0 3 (F6_depositsFor u (F6_of u a1 0) a3)) 0 5) := hz9.trans rfl
  refine lv_iload hx hb dX6_delivers_150 (lv_at hl 0 rfl) ?_
  refine lv_iadd hx hb dX6_delivers_152 ?_
  refine va_iast hx hb hk.1 hP (wM_D hq) hS 1 0 (wM_1 _ _ _) rfl (vp_in_nI (n := 5) (by decide) (by decide)) dX6_delivers_153 (fun H locs hP _ hS => ?_)
  have hP : va_P D vwCl (wM cI q (badd (badd (badd (badd (bsub (badd (bsub (badd (bsub u 0 (F6_brandAt a1 2).toNatClampNeg (12 * a3)) 0 (F6_shopAt a2 (5 + a1)).toNatClampNeg (12 * a3)) 0 2 a3) 0 (F6_shopAt a2 1).toNatClampNeg a3) 0 (F6_shopAt a2 0).toNatClampNeg ((F6_depositsFor u (F6_of u a1 0) a3) + (a3 * (u 0 11)))) 0 (F6_shopAt a2 2).toNatClampNeg (F6_depositsFor u (F6_of u a1 0) a3)) 0 (F6_shopAt a2 3).toNatClampNeg (a3 * (u 0 11))) 0 3 (F6_depositsFor u (F6_of u a1 0) a3)) 0 5 (a3 * (u 0 11)))) H := pM_0a hP
  have hI_9 : mInv (badd (badd (badd (badd (bsub (badd (bsub (badd (bsub u 0 (F6_brandAt a1 2).toNatClampNeg (12 * a3)) 0 (F6_shopAt a2 (5 + a1)).toNatClampNeg (12 * a3)) 0 2 a3) 0 (F6_shopAt a2 1).toNatClampNeg a3) 0 (F6_shopAt a2 0).toNatClampNeg ((F6_depositsFor u (F6_of u a1 0) a3) + (a3 * (u 0 11)))) 0 (F6_shopAt a2 2).toNatClampNeg (F6_depositsFor u (F6_of u a1 0) a3)) 0 (F6_shopAt a2 3).toNatClampNeg (a3 * (u 0 11))) 0 3 (F6_depositsFor u (F6_of u a1 0) a3)) 0 5 (a3 * (u 0 11))) := mInv_g (k := 5) hI_8 (by decide) (by decide)
  refine lv_iload hx hb dX6_delivers_154 (lv_at hl 1 rfl) ?_
  refine lv_iload hx hb dX6_delivers_156 (lv_at hl 0 rfl) ?_
  refine lv_iadd hx hb dX6_delivers_158 ?_
  exact bret_Wi hx hb hr hP hI_9 hS hlocks dX6_delivers_159 (by rw [← hF, F6_delivers])
def F6_sells (u : bU) (a1 : Int32) (a2 : Int32) (a3 : Int32) : Int32 × bU := ((F6_ofShop (badd (badd (badd (bsub u 0 (F6_shopAt a1 (5 + a2)).toNatClampNeg a3) 0 (F6_brandAt a2 3).toNatClampNeg a3) 0 (F6_shopAt a1 4).toNatClampNeg a3) 0 (F6_shopAt a1 0).toNatClampNeg (a3 * (F6_deposit (badd (badd (bsub u 0 (F6_shopAt a1 (5 + a2)).toNatClampNeg a3) 0 (F6_brandAt a2 3).toNatClampNeg a3) 0 (F6_shopAt a1 4).toNatClampNeg a3) a2))) a1 0), (badd (badd (badd (bsub u 0 (F6_shopAt a1 (5 + a2)).toNatClampNeg a3) 0 (F6_brandAt a2 3).toNatClampNeg a3) 0 (F6_shopAt a1 4).toNatClampNeg a3) 0 (F6_shopAt a1 0).toNatClampNeg (a3 * (F6_deposit (badd (badd (bsub u 0 (F6_shopAt a1 (5 + a2)).toNatClampNeg a3) 0 (F6_brandAt a2 3).toNatClampNeg a3) 0 (F6_shopAt a1 4).toNatClampNeg a3) a2))))
set_option maxHeartbeats 4000000 in
set_option maxRecDepth 100000 in
theorem C6_sells (l : Launch) (D : va_G) (cI : ClassId) (q : Nat → Nat) (u : bU) (H0 : Heap) (hq : bInj 7 q) (hP : va_P D vwCl (wM cI q u) H0) (hI : mInv u) (a1 : Int32) (a2 : Int32) (a3 : Int32) (h_a1 : mS a1) (h_a2 : mB a2) : Met l yX6_sells wsX6_sells ({ frames := 3, cells := 0, slots := 0, locals := 64 }) (bP D [(cI, .int)] H0 [.ref (q 0), .int a1, .int a2, .int a3]) (bWi D (wM cI q) mInv (bA 7 q H0.size) (F6_sells u a1 a2 a3)) 0 0 (bA 7 q H0.size) := by
  refine Met.ofW (cc := cX6_sells) (maxL := 4) (ret := (some .int)) (by decide) rfl ?_
  intro p e s m args below meth c s₁ B hml hv
  obtain ⟨rfl, hH, hk⟩ := hv
  subst hH
  have hx := B.exec
  have hb := B.bytes
  have hr := B.returns
  have hts := atoms_spec (ws := wsX6_sells) B.pre
  have hown : s.vm.findClass RX6 = some m.cls := findClass_of_methodNamed B.named
  have hlocks := B.notSynchronized
  have hNB := mNB hI
  have hNS := mNS hI
  have hI0 := hI
  have iX6 : ∀ w ∈ wsX60, w ∈ wsX6_sells := by decide +kernel
  have hS : va_S (bA 7 q s.heap.size) s.heap s.heap [] := va_S.rf
  have hl := lv_entry ([.ref (q 0), .int a1, .int a2, .int a3]) (n := 4) (Nat.le_of_ble_eq_true rfl)
  rw [lg_entry_eq]
  generalize (lg_sl ([.ref (q 0), .int a1, .int a2, .int a3]) ++ List.replicate (4 - (lg_sl ([.ref (q 0), .int a1, .int a2, .int a3])).length) Slot.unset).toArray = ls at hl ⊢
  have hl : lv_has ls 4 [(0, .ref (q 0)), (1, .int a1), (2, .int a2), (3, .int a3)] := hl
  generalize hF : F6_sells u a1 a2 a3 = tgt
  refine lv_aload_n hx hb dX6_sells_0 rfl (lv_at hl 0 rfl) ?_
  refine va_get (D := D) (ci := 6) (C := RX6) (T := TX6) (N := 16) hx hb hts iX6 hown hk.1 hP 0 (wM_0 _ _ _) rfl 0 (by decide) (hts (.fieldLink RX6 7 "BottleLoopModel" "v" "[I") (List.mem_of_getElem? (i := 1) rfl)) (fun _ h9 => h9) rfl dX6_sells_1 ?_
  refine lv_iload_n hx hb dX6_sells_4 rfl (lv_at hl 1 rfl) ?_
  refine lv_iconst (v := 5) hx hb dX6_sells_5 (by decide) ?_
  refine lv_iload_n hx hb dX6_sells_6 rfl (lv_at hl 2 rfl) ?_
  refine lv_iadd hx hb dX6_sells_7 ?_
  refine bcall_Ri (va_runS (As := [.int a1, .int (5 + a2)]) (rest := [.ref (q 1)]) ⟨hx, hb, hml, hown, hts⟩ (C6_shopAt l D cI q _ a1 (5 + a2)) (va_cwS 2 hts gX6_sells_X6_shopAt rfl rfl rfl bd_X6shopAt ⟨Nat.le_of_ble_eq_true rfl, Nat.le_of_ble_eq_true rfl⟩) (bPS hk) rfl rfl hl.1 rfl (lv_room (Nat.le_of_ble_eq_true rfl)) dX6_sells_8 ⟨Nat.zero_le _, Nat.zero_le _⟩) hS (fun locs hS => ?_)
  refine lv_dup2_11 hx hb dX6_sells_11 rfl rfl ?_
  refine va_iald hx hb hk.1 hP 1 0 (wM_1 _ _ _) rfl (mXS2 (w := 5) h_a1 h_a2 (by decide)) dX6_sells_12 ?_
  refine lv_iload_n hx hb dX6_sells_13 rfl (lv_at hl 3 rfl) ?_
  refine lv_isub hx hb dX6_sells_14 ?_
  refine va_iast hx hb hk.1 hP (wM_D hq) hS 1 0 (wM_1 _ _ _) rfl (mXS2 (w := 5) h_a1 h_a2 (by decide)) dX6_sells_15 (fun H locs hP _ hS => ?_)
  have hP : va_P D vwCl (wM cI q (bsub u 0 (F6_shopAt a1 (5 + a2)).toNatClampNeg a3)) H := pM_0s hP
  have hI_1 : mInv (bsub u 0 (F6_shopAt a1 (5 + a2)).toNatClampNeg a3) := mInv_S2 (w := 5) hI h_a1 h_a2 (by decide)
  refine lv_aload_n hx hb dX6_sells_16 rfl (lv_at hl 0 rfl) ?_
  refine va_get (D := D) (ci := 6) (C := RX6) (T := TX6) (N := 16) hx hb hts iX6 hown hk.1 hP 0 (wM_0 _ _ _) rfl 0 (by decide) (hts (.fieldLink RX6 7 "BottleLoopModel" "v" "[I") (List.mem_of_getElem? (i := 1) rfl)) (fun _ h9 => h9) rfl dX6_sells_17 ?_
  refine lv_iload_n hx hb dX6_sells_20 rfl (lv_at hl 2 rfl) ?_
  refine lv_iconst (v := 3) hx hb dX6_sells_21 (by decide) ?_
  refine bcall_Ri (va_runS (As := [.int a2, .int 3]) (rest := [.ref (q 1)]) ⟨hx, hb, hml, hown, hts⟩ (C6_brandAt l D cI q _ a2 3) (va_cwS 2 hts gX6_sells_X6_brandAt rfl rfl rfl bd_X6brandAt ⟨Nat.le_of_ble_eq_true rfl, Nat.le_of_ble_eq_true rfl⟩) (bPS hk) rfl rfl hl.1 rfl (lv_room (Nat.le_of_ble_eq_true rfl)) dX6_sells_22 ⟨Nat.zero_le _, Nat.zero_le _⟩) hS (fun locs hS => ?_)
  refine lv_dup2_11 hx hb dX6_sells_25 rfl rfl ?_
  refine va_iald hx hb hk.1 hP 1 0 (wM_1 _ _ _) rfl (mXB (w := 3) h_a2 (by decide)) dX6_sells_26 ?_
  refine lv_iload_n hx hb dX6_sells_27 rfl (lv_at hl 3 rfl) ?_
  refine lv_iadd hx hb dX6_sells_28 ?_
  refine va_iast hx hb hk.1 hP (wM_D hq) hS 1 0 (wM_1 _ _ _) rfl (mXB (w := 3) h_a2 (by decide)) dX6_sells_29 (fun H locs hP _ hS => ?_)
  have hP : va_P D vwCl (wM cI q (badd (bsub u 0 (F6_shopAt a1 (5 + a2)).toNatClampNeg a3) 0 (F6_brandAt a2 3).toNatClampNeg a3)) H := pM_0a hP
  have hI_2 : mInv (badd (bsub u 0 (F6_shopAt a1 (5 + a2)).toNatClampNeg a3) 0 (F6_brandAt a2 3).toNatClampNeg a3) := mInv_B (w := 3) hI_1 h_a2 (by decide) (by decide)
  refine lv_aload_n hx hb dX6_sells_30 rfl (lv_at hl 0 rfl) ?_
  refine va_get (D := D) (ci := 6) (C := RX6) (T := TX6) (N := 16) hx hb hts iX6 hown hk.1 hP 0 (wM_0 _ _ _) rfl 0 (by decide) (hts (.fieldLink RX6 7 "BottleLoopModel" "v" "[I") (List.mem_of_getElem? (i := 1) rfl)) (fun _ h9 => h9) rfl dX6_sells_31 ?_
  refine lv_iload_n hx hb dX6_sells_34 rfl (lv_at hl 1 rfl) ?_
  refine lv_iconst (v := 4) hx hb dX6_sells_35 (by decide) ?_
  refine bcall_Ri (va_runS (As := [.int a1, .int 4]) (rest := [.ref (q 1)]) ⟨hx, hb, hml, hown, hts⟩ (C6_shopAt l D cI q _ a1 4) (va_cwS 2 hts gX6_sells_X6_shopAt rfl rfl rfl bd_X6shopAt ⟨Nat.le_of_ble_eq_true rfl, Nat.le_of_ble_eq_true rfl⟩) (bPS hk) rfl rfl hl.1 rfl (lv_room (Nat.le_of_ble_eq_true rfl)) dX6_sells_36 ⟨Nat.zero_le _, Nat.zero_le _⟩) hS (fun locs hS => ?_)
  refine lv_dup2_11 hx hb dX6_sells_39 rfl rfl ?_
  refine va_iald hx hb hk.1 hP 1 0 (wM_1 _ _ _) rfl (mXS (w := 4) h_a1 (by decide)) dX6_sells_40 ?_
  refine lv_iload_n hx hb dX6_sells_41 rfl (lv_at hl 3 rfl) ?_
  refine lv_iadd hx hb dX6_sells_42 ?_
  refine va_iast hx hb hk.1 hP (wM_D hq) hS 1 0 (wM_1 _ _ _) rfl (mXS (w := 4) h_a1 (by decide)) dX6_sells_43 (fun H locs hP _ hS => ?_)
  have hP : va_P D vwCl (wM cI q (badd (badd (bsub u 0 (F6_shopAt a1 (5 + a2)).toNatClampNeg a3) 0 (F6_brandAt a2 3).toNatClampNeg a3) 0 (F6_shopAt a1 4).toNatClampNeg a3)) H := pM_0a hP
  have hI_3 : mInv (badd (badd (bsub u 0 (F6_shopAt a1 (5 + a2)).toNatClampNeg a3) 0 (F6_brandAt a2 3).toNatClampNeg a3) 0 (F6_shopAt a1 4).toNatClampNeg a3) := mInv_S (w := 4) hI_2 h_a1 (by decide)
  refine lv_aload_n hx hb dX6_sells_44 rfl (lv_at hl 0 rfl) ?_
  refine va_get (D := D) (ci := 6) (C := RX6) (T := TX6) (N := 16) hx hb hts iX6 hown hk.1 hP 0 (wM_0 _ _ _) rfl 0 (by decide) (hts (.fieldLink RX6 7 "BottleLoopModel" "v" "[I") (List.mem_of_getElem? (i := 1) rfl)) (fun _ h9 => h9) rfl dX6_sells_45 ?_
  refine lv_iload_n hx hb dX6_sells_48 rfl (lv_at hl 1 rfl) ?_
  refine lv_iconst (v := 0) hx hb dX6_sells_49 (by decide) ?_
  refine bcall_Ri (va_runS (As := [.int a1, .int 0]) (rest := [.ref (q 1)]) ⟨hx, hb, hml, hown, hts⟩ (C6_shopAt l D cI q _ a1 0) (va_cwS 2 hts gX6_sells_X6_shopAt rfl rfl rfl bd_X6shopAt ⟨Nat.le_of_ble_eq_true rfl, Nat.le_of_ble_eq_true rfl⟩) (bPS hk) rfl rfl hl.1 rfl (lv_room (Nat.le_of_ble_eq_true rfl)) dX6_sells_50 ⟨Nat.zero_le _, Nat.zero_le _⟩) hS (fun locs hS => ?_)
  refine lv_dup2_11 hx hb dX6_sells_53 rfl rfl ?_
  refine va_iald hx hb hk.1 hP 1 0 (wM_1 _ _ _) rfl (mXS (w := 0) h_a1 (by decide)) dX6_sells_54 ?_
  refine lv_iload_n hx hb dX6_sells_55 rfl (lv_at hl 3 rfl) ?_
  refine lv_aload_n hx hb dX6_sells_56 rfl (lv_at hl 0 rfl) ?_
  refine lv_iload_n hx hb dX6_sells_57 rfl (lv_at hl 2 rfl) ?_
  refine bcall_Ri (va_runV (As := [.int a2]) (rest := [.int a3, .int ((badd (badd (bsub u 0 (F6_shopAt a1 (5 + a2)).toNatClampNeg a3) 0 (F6_brandAt a2 3).toNatClampNeg a3) 0 (F6_shopAt a1 4).toNatClampNeg a3) 0 (F6_shopAt a1 0).toNatClampNeg), .int (F6_shopAt a1 0), .ref (q 1)]) ⟨hx, hb, hml, hown, hts⟩ (C6_deposit l D cI q _ _ hP hI_3 a2 h_a2) (cwV 1 hts gX6_sells_X6_deposit rfl rfl rfl ⟨rfl, bd_X6deposit⟩ ⟨Nat.le_of_ble_eq_true rfl, Nat.le_of_ble_eq_true rfl⟩) (bPV hk (va_recv hk.1 hP (ci := 6) (q0 := 0) rfl (wM_0 _ _ _))) rfl rfl hl.1 rfl (lv_room (Nat.le_of_ble_eq_true rfl)) dX6_sells_58 ⟨Nat.zero_le _, Nat.zero_le _⟩) hS (fun locs hS => ?_)
  refine lv_imul hx hb dX6_sells_61 ?_
  refine lv_iadd hx hb dX6_sells_62 ?_
  refine va_iast hx hb hk.1 hP (wM_D hq) hS 1 0 (wM_1 _ _ _) rfl (mXS (w := 0) h_a1 (by decide)) dX6_sells_63 (fun H locs hP _ hS => ?_)
  have hP : va_P D vwCl (wM cI q (badd (badd (badd (bsub u 0 (F6_shopAt a1 (5 + a2)).toNatClampNeg a3) 0 (F6_brandAt a2 3).toNatClampNeg a3) 0 (F6_shopAt a1 4).toNatClampNeg a3) 0 (F6_shopAt a1 0).toNatClampNeg (a3 * (F6_deposit (badd (badd (bsub u 0 (F6_shopAt a1 (5 + a2)).toNatClampNeg a3) 0 (F6_brandAt a2 3).toNatClampNeg a3) 0 (F6_shopAt a1 4).toNatClampNeg a3) a2)))) H := pM_0a hP
  have hI_4 : mInv (badd (badd (badd (bsub u 0 (F6_shopAt a1 (5 + a2)).toNatClampNeg a3) 0 (F6_brandAt a2 3).toNatClampNeg a3) 0 (F6_shopAt a1 4).toNatClampNeg a3) 0 (F6_shopAt a1 0).toNatClampNeg (a3 * (F6_deposit (badd (badd (bsub u 0 (F6_shopAt a1 (5 + a2)).toNatClampNeg a3) 0 (F6_brandAt a2 3).toNatClampNeg a3) 0 (F6_shopAt a1 4).toNatClampNeg a3) a2))) := mInv_S (w := 0) hI_3 h_a1 (by decide)
  refine lv_aload_n hx hb dX6_sells_64 rfl (lv_at hl 0 rfl) ?_
  refine lv_iload_n hx hb dX6_sells_65 rfl (lv_at hl 1 rfl) ?_
  refine lv_iconst (v := 0) hx hb dX6_sells_66 (by decide) ?_
  refine bcall_Ri (va_runV (As := [.int a1, .int 0]) (rest := []) ⟨hx, hb, hml, hown, hts⟩ (C6_ofShop l D cI q _ _ hP hI_4 a1 0 (mXS (w := 0) h_a1 (by decide))) (cwV 2 hts gX6_sells_X6_ofShop rfl rfl rfl ⟨rfl, bd_X6ofShop⟩ ⟨Nat.le_of_ble_eq_true rfl, Nat.le_of_ble_eq_true rfl⟩) (bPV hk (va_recv hk.1 hP (ci := 6) (q0 := 0) rfl (wM_0 _ _ _))) rfl rfl hl.1 rfl (lv_room (Nat.le_of_ble_eq_true rfl)) dX6_sells_67 ⟨Nat.zero_le _, Nat.zero_le _⟩) hS (fun locs hS => ?_)
  exact bret_Wi hx hb hr hP hI_4 hS hlocks dX6_sells_70 (by rw [← hF, F6_sells])
def F6_takesBack (u : bU) (a1 : Int32) (a2 : Int32) (a3 : Int32) : Int32 × bU := ((F6_ofShop (bsub (bsub (badd (bsub u 0 (F6_brandAt a2 3).toNatClampNeg a3) 0 (F6_shopAt a1 (13 + a2)).toNatClampNeg a3) 0 (F6_shopAt a1 4).toNatClampNeg a3) 0 (F6_shopAt a1 0).toNatClampNeg (a3 * (F6_deposit (bsub (badd (bsub u 0 (F6_brandAt a2 3).toNatClampNeg a3) 0 (F6_shopAt a1 (13 + a2)).toNatClampNeg a3) 0 (F6_shopAt a1 4).toNatClampNeg a3) a2))) a1 0), (bsub (bsub (badd (bsub u 0 (F6_brandAt a2 3).toNatClampNeg a3) 0 (F6_shopAt a1 (13 + a2)).toNatClampNeg a3) 0 (F6_shopAt a1 4).toNatClampNeg a3) 0 (F6_shopAt a1 0).toNatClampNeg (a3 * (F6_deposit (bsub (badd (bsub u 0 (F6_brandAt a2 3).toNatClampNeg a3) 0 (F6_shopAt a1 (13 + a2)).toNatClampNeg a3) 0 (F6_shopAt a1 4).toNatClampNeg a3) a2))))
set_option maxHeartbeats 4000000 in
set_option maxRecDepth 100000 in
theorem C6_takesBack (l : Launch) (D : va_G) (cI : ClassId) (q : Nat → Nat) (u : bU) (H0 : Heap) (hq : bInj 7 q) (hP : va_P D vwCl (wM cI q u) H0) (hI : mInv u) (a1 : Int32) (a2 : Int32) (a3 : Int32) (h_a1 : mS a1) (h_a2 : mB a2) : Met l yX6_takesBack wsX6_takesBack ({ frames := 3, cells := 0, slots := 0, locals := 64 }) (bP D [(cI, .int)] H0 [.ref (q 0), .int a1, .int a2, .int a3]) (bWi D (wM cI q) mInv (bA 7 q H0.size) (F6_takesBack u a1 a2 a3)) 0 0 (bA 7 q H0.size) := by
  refine Met.ofW (cc := cX6_takesBack) (maxL := 4) (ret := (some .int)) (by decide) rfl ?_
  intro p e s m args below meth c s₁ B hml hv
  obtain ⟨rfl, hH, hk⟩ := hv
  subst hH
  have hx := B.exec
  have hb := B.bytes
  have hr := B.returns
  have hts := atoms_spec (ws := wsX6_takesBack) B.pre
  have hown : s.vm.findClass RX6 = some m.cls := findClass_of_methodNamed B.named
  have hlocks := B.notSynchronized
  have hNB := mNB hI
  have hNS := mNS hI
  have hI0 := hI
  have iX6 : ∀ w ∈ wsX60, w ∈ wsX6_takesBack := by decide +kernel
  have hS : va_S (bA 7 q s.heap.size) s.heap s.heap [] := va_S.rf
  have hl := lv_entry ([.ref (q 0), .int a1, .int a2, .int a3]) (n := 4) (Nat.le_of_ble_eq_true rfl)
  rw [lg_entry_eq]
  generalize (lg_sl ([.ref (q 0), .int a1, .int a2, .int a3]) ++ List.replicate (4 - (lg_sl ([.ref (q 0), .int a1, .int a2, .int a3])).length) Slot.unset).toArray = ls at hl ⊢
  have hl : lv_has ls 4 [(0, .ref (q 0)), (1, .int a1), (2, .int a2), (3, .int a3)] := hl
  generalize hF : F6_takesBack u a1 a2 a3 = tgt
  refine lv_aload_n hx hb dX6_takesBack_0 rfl (lv_at hl 0 rfl) ?_
  refine va_get (D := D) (ci := 6) (C := RX6) (T := TX6) (N := 16) hx hb hts iX6 hown hk.1 hP 0 (wM_0 _ _ _) rfl 0 (by decide) (hts (.fieldLink RX6 7 "BottleLoopModel" "v" "[I") (List.mem_of_getElem? (i := 1) rfl)) (fun _ h9 => h9) rfl dX6_takesBack_1 ?_
  refine lv_iload_n hx hb dX6_takesBack_4 rfl (lv_at hl 2 rfl) ?_
  refine lv_iconst (v := 3) hx hb dX6_takesBack_5 (by decide) ?_
  refine bcall_Ri (va_runS (As := [.int a2, .int 3]) (rest := [.ref (q 1)]) ⟨hx, hb, hml, hown, hts⟩ (C6_brandAt l D cI q _ a2 3) (va_cwS 2 hts gX6_takesBack_X6_brandAt rfl rfl rfl bd_X6brandAt ⟨Nat.le_of_ble_eq_true rfl, Nat.le_of_ble_eq_true rfl⟩) (bPS hk) rfl rfl hl.1 rfl (lv_room (Nat.le_of_ble_eq_true rfl)) dX6_takesBack_6 ⟨Nat.zero_le _, Nat.zero_le _⟩) hS (fun locs hS => ?_)
  refine lv_dup2_11 hx hb dX6_takesBack_9 rfl rfl ?_
  refine va_iald hx hb hk.1 hP 1 0 (wM_1 _ _ _) rfl (mXB (w := 3) h_a2 (by decide)) dX6_takesBack_10 ?_
  refine lv_iload_n hx hb dX6_takesBack_11 rfl (lv_at hl 3 rfl) ?_
  refine lv_isub hx hb dX6_takesBack_12 ?_
  refine va_iast hx hb hk.1 hP (wM_D hq) hS 1 0 (wM_1 _ _ _) rfl (mXB (w := 3) h_a2 (by decide)) dX6_takesBack_13 (fun H locs hP _ hS => ?_)
  have hP : va_P D vwCl (wM cI q (bsub u 0 (F6_brandAt a2 3).toNatClampNeg a3)) H := pM_0s hP
  have hI_1 : mInv (bsub u 0 (F6_brandAt a2 3).toNatClampNeg a3) := mInv_B (w := 3) hI h_a2 (by decide) (by decide)
  refine lv_aload_n hx hb dX6_takesBack_14 rfl (lv_at hl 0 rfl) ?_
  refine va_get (D := D) (ci := 6) (C := RX6) (T := TX6) (N := 16) hx hb hts iX6 hown hk.1 hP 0 (wM_0 _ _ _) rfl 0 (by decide) (hts (.fieldLink RX6 7 "BottleLoopModel" "v" "[I") (List.mem_of_getElem? (i := 1) rfl)) (fun _ h9 => h9) rfl dX6_takesBack_15 ?_
  refine lv_iload_n hx hb dX6_takesBack_18 rfl (lv_at hl 1 rfl) ?_
  refine lv_bipush (v := 13) hx hb dX6_takesBack_19 (by decide) ?_
  refine lv_iload_n hx hb dX6_takesBack_21 rfl (lv_at hl 2 rfl) ?_
  refine lv_iadd hx hb dX6_takesBack_22 ?_
  refine bcall_Ri (va_runS (As := [.int a1, .int (13 + a2)]) (rest := [.ref (q 1)]) ⟨hx, hb, hml, hown, hts⟩ (C6_shopAt l D cI q _ a1 (13 + a2)) (va_cwS 2 hts gX6_takesBack_X6_shopAt rfl rfl rfl bd_X6shopAt ⟨Nat.le_of_ble_eq_true rfl, Nat.le_of_ble_eq_true rfl⟩) (bPS hk) rfl rfl hl.1 rfl (lv_room (Nat.le_of_ble_eq_true rfl)) dX6_takesBack_23 ⟨Nat.zero_le _, Nat.zero_le _⟩) hS (fun locs hS => ?_)
  refine lv_dup2_11 hx hb dX6_takesBack_26 rfl rfl ?_
  refine va_iald hx hb hk.1 hP 1 0 (wM_1 _ _ _) rfl (mXS2 (w := 13) h_a1 h_a2 (by decide)) dX6_takesBack_27 ?_
  refine lv_iload_n hx hb dX6_takesBack_28 rfl (lv_at hl 3 rfl) ?_
  refine lv_iadd hx hb dX6_takesBack_29 ?_
  refine va_iast hx hb hk.1 hP (wM_D hq) hS 1 0 (wM_1 _ _ _) rfl (mXS2 (w := 13) h_a1 h_a2 (by decide)) dX6_takesBack_30 (fun H locs hP _ hS => ?_)
  have hP : va_P D vwCl (wM cI q (badd (bsub u 0 (F6_brandAt a2 3).toNatClampNeg a3) 0 (F6_shopAt a1 (13 + a2)).toNatClampNeg a3)) H := pM_0a hP
  have hI_2 : mInv (badd (bsub u 0 (F6_brandAt a2 3).toNatClampNeg a3) 0 (F6_shopAt a1 (13 + a2)).toNatClampNeg a3) := mInv_S2 (w := 13) hI_1 h_a1 h_a2 (by decide)
  refine lv_aload_n hx hb dX6_takesBack_31 rfl (lv_at hl 0 rfl) ?_
  refine va_get (D := D) (ci := 6) (C := RX6) (T := TX6) (N := 16) hx hb hts iX6 hown hk.1 hP 0 (wM_0 _ _ _) rfl 0 (by decide) (hts (.fieldLink RX6 7 "BottleLoopModel" "v" "[I") (List.mem_of_getElem? (i := 1) rfl)) (fun _ h9 => h9) rfl dX6_takesBack_32 ?_
  refine lv_iload_n hx hb dX6_takesBack_35 rfl (lv_at hl 1 rfl) ?_
  refine lv_iconst (v := 4) hx hb dX6_takesBack_36 (by decide) ?_
  refine bcall_Ri (va_runS (As := [.int a1, .int 4]) (rest := [.ref (q 1)]) ⟨hx, hb, hml, hown, hts⟩ (C6_shopAt l D cI q _ a1 4) (va_cwS 2 hts gX6_takesBack_X6_shopAt rfl rfl rfl bd_X6shopAt ⟨Nat.le_of_ble_eq_true rfl, Nat.le_of_ble_eq_true rfl⟩) (bPS hk) rfl rfl hl.1 rfl (lv_room (Nat.le_of_ble_eq_true rfl)) dX6_takesBack_37 ⟨Nat.zero_le _, Nat.zero_le _⟩) hS (fun locs hS => ?_)
  refine lv_dup2_11 hx hb dX6_takesBack_40 rfl rfl ?_
  refine va_iald hx hb hk.1 hP 1 0 (wM_1 _ _ _) rfl (mXS (w := 4) h_a1 (by decide)) dX6_takesBack_41 ?_
  refine lv_iload_n hx hb dX6_takesBack_42 rfl (lv_at hl 3 rfl) ?_
  refine lv_isub hx hb dX6_takesBack_43 ?_
  refine va_iast hx hb hk.1 hP (wM_D hq) hS 1 0 (wM_1 _ _ _) rfl (mXS (w := 4) h_a1 (by decide)) dX6_takesBack_44 (fun H locs hP _ hS => ?_)
  have hP : va_P D vwCl (wM cI q (bsub (badd (bsub u 0 (F6_brandAt a2 3).toNatClampNeg a3) 0 (F6_shopAt a1 (13 + a2)).toNatClampNeg a3) 0 (F6_shopAt a1 4).toNatClampNeg a3)) H := pM_0s hP
  have hI_3 : mInv (bsub (badd (bsub u 0 (F6_brandAt a2 3).toNatClampNeg a3) 0 (F6_shopAt a1 (13 + a2)).toNatClampNeg a3) 0 (F6_shopAt a1 4).toNatClampNeg a3) := mInv_S (w := 4) hI_2 h_a1 (by decide)
  refine lv_aload_n hx hb dX6_takesBack_45 rfl (lv_at hl 0 rfl) ?_
  refine va_get (D := D) (ci := 6) (C := RX6) (T := TX6) (N := 16) hx hb hts iX6 hown hk.1 hP 0 (wM_0 _ _ _) rfl 0 (by decide) (hts (.fieldLink RX6 7 "BottleLoopModel" "v" "[I") (List.mem_of_getElem? (i := 1) rfl)) (fun _ h9 => h9) rfl dX6_takesBack_46 ?_
  refine lv_iload_n hx hb dX6_takesBack_49 rfl (lv_at hl 1 rfl) ?_
  refine lv_iconst (v := 0) hx hb dX6_takesBack_50 (by decide) ?_
  refine bcall_Ri (va_runS (As := [.int a1, .int 0]) (rest := [.ref (q 1)]) ⟨hx, hb, hml, hown, hts⟩ (C6_shopAt l D cI q _ a1 0) (va_cwS 2 hts gX6_takesBack_X6_shopAt rfl rfl rfl bd_X6shopAt ⟨Nat.le_of_ble_eq_true rfl, Nat.le_of_ble_eq_true rfl⟩) (bPS hk) rfl rfl hl.1 rfl (lv_room (Nat.le_of_ble_eq_true rfl)) dX6_takesBack_51 ⟨Nat.zero_le _, Nat.zero_le _⟩) hS (fun locs hS => ?_)
  refine lv_dup2_11 hx hb dX6_takesBack_54 rfl rfl ?_
  refine va_iald hx hb hk.1 hP 1 0 (wM_1 _ _ _) rfl (mXS (w := 0) h_a1 (by decide)) dX6_takesBack_55 ?_
  refine lv_iload_n hx hb dX6_takesBack_56 rfl (lv_at hl 3 rfl) ?_
  refine lv_aload_n hx hb dX6_takesBack_57 rfl (lv_at hl 0 rfl) ?_
  refine lv_iload_n hx hb dX6_takesBack_58 rfl (lv_at hl 2 rfl) ?_
  refine bcall_Ri (va_runV (As := [.int a2]) (rest := [.int a3, .int ((bsub (badd (bsub u 0 (F6_brandAt a2 3).toNatClampNeg a3) 0 (F6_shopAt a1 (13 + a2)).toNatClampNeg a3) 0 (F6_shopAt a1 4).toNatClampNeg a3) 0 (F6_shopAt a1 0).toNatClampNeg), .int (F6_shopAt a1 0), .ref (q 1)]) ⟨hx, hb, hml, hown, hts⟩ (C6_deposit l D cI q _ _ hP hI_3 a2 h_a2) (cwV 1 hts gX6_takesBack_X6_deposit rfl rfl rfl ⟨rfl, bd_X6deposit⟩ ⟨Nat.le_of_ble_eq_true rfl, Nat.le_of_ble_eq_true rfl⟩) (bPV hk (va_recv hk.1 hP (ci := 6) (q0 := 0) rfl (wM_0 _ _ _))) rfl rfl hl.1 rfl (lv_room (Nat.le_of_ble_eq_true rfl)) dX6_takesBack_59 ⟨Nat.zero_le _, Nat.zero_le _⟩) hS (fun locs hS => ?_)
  refine lv_imul hx hb dX6_takesBack_62 ?_
  refine lv_isub hx hb dX6_takesBack_63 ?_
  refine va_iast hx hb hk.1 hP (wM_D hq) hS 1 0 (wM_1 _ _ _) rfl (mXS (w := 0) h_a1 (by decide)) dX6_takesBack_64 (fun H locs hP _ hS => ?_)
  have hP : va_P D vwCl (wM cI q (bsub (bsub (badd (bsub u 0 (F6_brandAt a2 3).toNatClampNeg a3) 0 (F6_shopAt a1 (13 + a2)).toNatClampNeg a3) 0 (F6_shopAt a1 4).toNatClampNeg a3) 0 (F6_shopAt a1 0).toNatClampNeg (a3 * (F6_deposit (bsub (badd (bsub u 0 (F6_brandAt a2 3).toNatClampNeg a3) 0 (F6_shopAt a1 (13 + a2)).toNatClampNeg a3) 0 (F6_shopAt a1 4).toNatClampNeg a3) a2)))) H := pM_0s hP
  have hI_4 : mInv (bsub (bsub (badd (bsub u 0 (F6_brandAt a2 3).toNatClampNeg a3) 0 (F6_shopAt a1 (13 + a2)).toNatClampNeg a3) 0 (F6_shopAt a1 4).toNatClampNeg a3) 0 (F6_shopAt a1 0).toNatClampNeg (a3 * (F6_deposit (bsub (badd (bsub u 0 (F6_brandAt a2 3).toNatClampNeg a3) 0 (F6_shopAt a1 (13 + a2)).toNatClampNeg a3) 0 (F6_shopAt a1 4).toNatClampNeg a3) a2))) := mInv_S (w := 0) hI_3 h_a1 (by decide)
  refine lv_aload_n hx hb dX6_takesBack_65 rfl (lv_at hl 0 rfl) ?_
  refine lv_iload_n hx hb dX6_takesBack_66 rfl (lv_at hl 1 rfl) ?_
  refine lv_iconst (v := 0) hx hb dX6_takesBack_67 (by decide) ?_
  refine bcall_Ri (va_runV (As := [.int a1, .int 0]) (rest := []) ⟨hx, hb, hml, hown, hts⟩ (C6_ofShop l D cI q _ _ hP hI_4 a1 0 (mXS (w := 0) h_a1 (by decide))) (cwV 2 hts gX6_takesBack_X6_ofShop rfl rfl rfl ⟨rfl, bd_X6ofShop⟩ ⟨Nat.le_of_ble_eq_true rfl, Nat.le_of_ble_eq_true rfl⟩) (bPV hk (va_recv hk.1 hP (ci := 6) (q0 := 0) rfl (wM_0 _ _ _))) rfl rfl hl.1 rfl (lv_room (Nat.le_of_ble_eq_true rfl)) dX6_takesBack_68 ⟨Nat.zero_le _, Nat.zero_le _⟩) hS (fun locs hS => ?_)
  exact bret_Wi hx hb hr hP hI_4 hS hlocks dX6_takesBack_71 (by rw [← hF, F6_takesBack])
def F6_breaksThem (u : bU) (a1 : Int32) (a2 : Int32) (a3 : Int32) : Int32 × bU := ((F6_least (a3 * (F6_deposit u a2)) (u 0 5)), (bsub (badd (bsub (badd (badd (bsub u 0 (F6_shopAt a1 (13 + a2)).toNatClampNeg a3) 0 (F6_brandAt a2 5).toNatClampNeg a3) 0 4 (a3 * (F6_deposit u a2))) 0 5 (F6_least (a3 * (F6_deposit u a2)) (u 0 5))) 0 (F6_shopAt a1 0).toNatClampNeg (F6_least (a3 * (F6_deposit u a2)) (u 0 5))) 0 (F6_shopAt a1 3).toNatClampNeg (F6_least (a3 * (F6_deposit u a2)) (u 0 5))))
set_option maxHeartbeats 4000000 in
set_option maxRecDepth 100000 in
theorem C6_breaksThem (l : Launch) (D : va_G) (cI : ClassId) (q : Nat → Nat) (u : bU) (H0 : Heap) (hq : bInj 7 q) (hP : va_P D vwCl (wM cI q u) H0) (hI : mInv u) (a1 : Int32) (a2 : Int32) (a3 : Int32) (h_a1 : mS a1) (h_a2 : mB a2) : Met l yX6_breaksThem wsX6_breaksThem ({ frames := 3, cells := 0, slots := 0, locals := 64 }) (bP D [(cI, .int)] H0 [.ref (q 0), .int a1, .int a2, .int a3]) (bWi D (wM cI q) mInv (bA 7 q H0.size) (F6_breaksThem u a1 a2 a3)) 0 0 (bA 7 q H0.size) := by
  refine Met.ofW (cc := cX6_breaksThem) (maxL := 6) (ret := (some .int)) (by decide) rfl ?_
  intro p e s m args below meth c s₁ B hml hv
  obtain ⟨rfl, hH, hk⟩ := hv
  subst hH
  have hx := B.exec
  have hb := B.bytes
  have hr := B.returns
  have hts := atoms_spec (ws := wsX6_breaksThem) B.pre
  have hown : s.vm.findClass RX6 = some m.cls := findClass_of_methodNamed B.named
  have hlocks := B.notSynchronized
  have hNB := mNB hI
  have hNS := mNS hI
  have hI0 := hI
  have iX6 : ∀ w ∈ wsX60, w ∈ wsX6_breaksThem := by decide +kernel
  have hS : va_S (bA 7 q s.heap.size) s.heap s.heap [] := va_S.rf
  have hl := lv_entry ([.ref (q 0), .int a1, .int a2, .int a3]) (n := 6) (Nat.le_of_ble_eq_true rfl)
  rw [lg_entry_eq]
  generalize (lg_sl ([.ref (q 0), .int a1, .int a2, .int a3]) ++ List.replicate (6 - (lg_sl ([.ref (q 0), .int a1, .int a2, .int a3])).length) Slot.unset).toArray = ls at hl ⊢
  have hl : lv_has ls 6 [(0, .ref (q 0)), (1, .int a1), (2, .int a2), (3, .int a3)] := hl
  generalize hF : F6_breaksThem u a1 a2 a3 = tgt
  refine lv_iload_n hx hb dX6_breaksThem_0 rfl (lv_at hl 3 rfl) ?_
  refine lv_aload_n hx hb dX6_breaksThem_1 rfl (lv_at hl 0 rfl) ?_
  refine lv_iload_n hx hb dX6_breaksThem_2 rfl (lv_at hl 2 rfl) ?_
  refine bcall_Ri (va_runV (As := [.int a2]) (rest := [.int a3]) ⟨hx, hb, hml, hown, hts⟩ (C6_deposit l D cI q _ _ hP hI a2 h_a2) (cwV 1 hts gX6_breaksThem_X6_deposit rfl rfl rfl ⟨rfl, bd_X6deposit⟩ ⟨Nat.le_of_ble_eq_true rfl, Nat.le_of_ble_eq_true rfl⟩) (bPV hk (va_recv hk.1 hP (ci := 6) (q0 := 0) rfl (wM_0 _ _ _))) rfl rfl hl.1 rfl (lv_room (Nat.le_of_ble_eq_true rfl)) dX6_breaksThem_3 ⟨Nat.zero_le _, Nat.zero_le _⟩) hS (fun locs hS => ?_)
  refine lv_imul hx hb dX6_breaksThem_6 ?_
  refine lv_istore (lv' := [(4, .int (a3 * (F6_deposit u a2))), (0, .ref (q 0)), (1, .int a1), (2, .int a2), (3, .int a3)]) hx hb dX6_breaksThem_7 hl (by decide) rfl (fun ls hl => ?_)
  refine lv_iload hx hb dX6_breaksThem_9 (lv_at hl 0 rfl) ?_
  refine lv_aload_n hx hb dX6_breaksThem_11 rfl (lv_at hl 1 rfl) ?_
  refine va_get (D := D) (ci := 6) (C := RX6) (T := TX6) (N := 16) hx hb hts iX6 hown hk.1 hP 0 (wM_0 _ _ _) rfl 0 (by decide) (hts (.fieldLink RX6 7 "BottleLoopModel" "v" "[I") (List.mem_of_getElem? (i := 1) rfl)) (fun _ h9 => h9) rfl dX6_breaksThem_12 ?_
  refine lv_iconst (v := 5) hx hb dX6_breaksThem_15 (by decide) ?_
  refine va_iald hx hb hk.1 hP 1 0 (wM_1 _ _ _) rfl (vp_in_nI (n := 5) (by decide) (by decide)) dX6_breaksThem_16 ?_
  refine lv_topi (fun z9 hz9 => ?_)
  obtain rfl : z9 = (u 0 5) := hz9.trans rfl
  refine bcall_Ri (va_runS (As := [.int (a3 * (F6_deposit u a2)), .int (u 0 5)]) (rest := []) ⟨hx, hb, hml, hown, hts⟩ (C6_least l D cI q _ (a3 * (F6_deposit u a2)) (u 0 5)) (va_cwS 2 hts gX6_breaksThem_X6_least rfl rfl rfl bd_X6least ⟨Nat.le_of_ble_eq_true rfl, Nat.le_of_ble_eq_true rfl⟩) (bPS hk) rfl rfl hl.1 rfl (lv_room (Nat.le_of_ble_eq_true rfl)) dX6_breaksThem_17 ⟨Nat.zero_le _, Nat.zero_le _⟩) hS (fun locs hS => ?_)
  refine lv_istore (lv' := [(5, .int (F6_least (a3 * (F6_deposit u a2)) (u 0 5))), (4, .int (a3 * (F6_deposit u a2))), (0, .ref (q 0)), (1, .int a1), (2, .int a2), (3, .int a3)]) hx hb dX6_breaksThem_20 hl (by decide) rfl (fun ls hl => ?_)
  refine lv_aload_n hx hb dX6_breaksThem_22 rfl (lv_at hl 2 rfl) ?_
  refine va_get (D := D) (ci := 6) (C := RX6) (T := TX6) (N := 16) hx hb hts iX6 hown hk.1 hP 0 (wM_0 _ _ _) rfl 0 (by decide) (hts (.fieldLink RX6 7 "BottleLoopModel" "v" "[I") (List.mem_of_getElem? (i := 1) rfl)) (fun _ h9 => h9) rfl dX6_breaksThem_23 ?_
  refine lv_iload_n hx hb dX6_breaksThem_26 rfl (lv_at hl 3 rfl) ?_
  refine lv_bipush (v := 13) hx hb dX6_breaksThem_27 (by decide) ?_
  refine lv_iload_n hx hb dX6_breaksThem_29 rfl (lv_at hl 4 rfl) ?_
  refine lv_iadd hx hb dX6_breaksThem_30 ?_
  refine bcall_Ri (va_runS (As := [.int a1, .int (13 + a2)]) (rest := [.ref (q 1)]) ⟨hx, hb, hml, hown, hts⟩ (C6_shopAt l D cI q _ a1 (13 + a2)) (va_cwS 2 hts gX6_breaksThem_X6_shopAt rfl rfl rfl bd_X6shopAt ⟨Nat.le_of_ble_eq_true rfl, Nat.le_of_ble_eq_true rfl⟩) (bPS hk) rfl rfl hl.1 rfl (lv_room (Nat.le_of_ble_eq_true rfl)) dX6_breaksThem_31 ⟨Nat.zero_le _, Nat.zero_le _⟩) hS (fun locs hS => ?_)
  refine lv_dup2_11 hx hb dX6_breaksThem_34 rfl rfl ?_
  refine va_iald hx hb hk.1 hP 1 0 (wM_1 _ _ _) rfl (mXS2 (w := 13) h_a1 h_a2 (by decide)) dX6_breaksThem_35 ?_
  refine lv_iload_n hx hb dX6_breaksThem_36 rfl (lv_at hl 5 rfl) ?_
  refine lv_isub hx hb dX6_breaksThem_37 ?_
  refine va_iast hx hb hk.1 hP (wM_D hq) hS 1 0 (wM_1 _ _ _) rfl (mXS2 (w := 13) h_a1 h_a2 (by decide)) dX6_breaksThem_38 (fun H locs hP _ hS => ?_)
  have hP : va_P D vwCl (wM cI q (bsub u 0 (F6_shopAt a1 (13 + a2)).toNatClampNeg a3)) H := pM_0s hP
  have hI_1 : mInv (bsub u 0 (F6_shopAt a1 (13 + a2)).toNatClampNeg a3) := mInv_S2 (w := 13) hI h_a1 h_a2 (by decide)
  refine lv_aload_n hx hb dX6_breaksThem_39 rfl (lv_at hl 2 rfl) ?_
  refine va_get (D := D) (ci := 6) (C := RX6) (T := TX6) (N := 16) hx hb hts iX6 hown hk.1 hP 0 (wM_0 _ _ _) rfl 0 (by decide) (hts (.fieldLink RX6 7 "BottleLoopModel" "v" "[I") (List.mem_of_getElem? (i := 1) rfl)) (fun _ h9 => h9) rfl dX6_breaksThem_40 ?_
  refine lv_iload_n hx hb dX6_breaksThem_43 rfl (lv_at hl 4 rfl) ?_
  refine lv_iconst (v := 5) hx hb dX6_breaksThem_44 (by decide) ?_
  refine bcall_Ri (va_runS (As := [.int a2, .int 5]) (rest := [.ref (q 1)]) ⟨hx, hb, hml, hown, hts⟩ (C6_brandAt l D cI q _ a2 5) (va_cwS 2 hts gX6_breaksThem_X6_brandAt rfl rfl rfl bd_X6brandAt ⟨Nat.le_of_ble_eq_true rfl, Nat.le_of_ble_eq_true rfl⟩) (bPS hk) rfl rfl hl.1 rfl (lv_room (Nat.le_of_ble_eq_true rfl)) dX6_breaksThem_45 ⟨Nat.zero_le _, Nat.zero_le _⟩) hS (fun locs hS => ?_)
  refine lv_dup2_11 hx hb dX6_breaksThem_48 rfl rfl ?_
  refine va_iald hx hb hk.1 hP 1 0 (wM_1 _ _ _) rfl (mXB (w := 5) h_a2 (by decide)) dX6_breaksThem_49 ?_
  refine lv_iload_n hx hb dX6_breaksThem_50 rfl (lv_at hl 5 rfl) ?_
  refine lv_iadd hx hb dX6_breaksThem_51 ?_
  refine va_iast hx hb hk.1 hP (wM_D hq) hS 1 0 (wM_1 _ _ _) rfl (mXB (w := 5) h_a2 (by decide)) dX6_breaksThem_52 (fun H locs hP _ hS => ?_)
  have hP : va_P D vwCl (wM cI q (badd (bsub u 0 (F6_shopAt a1 (13 + a2)).toNatClampNeg a3) 0 (F6_brandAt a2 5).toNatClampNeg a3)) H := pM_0a hP
  have hI_2 : mInv (badd (bsub u 0 (F6_shopAt a1 (13 + a2)).toNatClampNeg a3) 0 (F6_brandAt a2 5).toNatClampNeg a3) := mInv_B (w := 5) hI_1 h_a2 (by decide) (by decide)
  refine lv_aload_n hx hb dX6_breaksThem_53 rfl (lv_at hl 2 rfl) ?_
  refine va_get (D := D) (ci := 6) (C := RX6) (T := TX6) (N := 16) hx hb hts iX6 hown hk.1 hP 0 (wM_0 _ _ _) rfl 0 (by decide) (hts (.fieldLink RX6 7 "BottleLoopModel" "v" "[I") (List.mem_of_getElem? (i := 1) rfl)) (fun _ h9 => h9) rfl dX6_breaksThem_54 ?_
  refine lv_iconst (v := 4) hx hb dX6_breaksThem_57 (by decide) ?_
  refine lv_dup2_11 hx hb dX6_breaksThem_58 rfl rfl ?_
  refine va_iald hx hb hk.1 hP 1 0 (wM_1 _ _ _) rfl (vp_in_nI (n := 4) (by decide) (by decide)) dX6_breaksThem_59 ?_
  refine lv_topi (fun z9 hz9 => ?_)
  obtain rfl : z9 = ((badd (bsub u 0 (F6_shopAt a1 (13 + a2)).toNatClampNeg a3) 0 (F6_brandAt a2 5).toNatClampNeg a3) 0 4) := hz9.trans rfl
  refine lv_iload hx hb dX6_breaksThem_60 (lv_at hl 1 rfl) ?_
  refine lv_iadd hx hb dX6_breaksThem_62 ?_
  refine va_iast hx hb hk.1 hP (wM_D hq) hS 1 0 (wM_1 _ _ _) rfl (vp_in_nI (n := 4) (by decide) (by decide)) dX6_breaksThem_63 (fun H locs hP _ hS => ?_)
  have hP : va_P D vwCl (wM cI q (badd (badd (bsub u 0 (F6_shopAt a1 (13 + a2)).toNatClampNeg a3) 0 (F6_brandAt a2 5).toNatClampNeg a3) 0 4 (a3 * (F6_deposit u a2)))) H := pM_0a hP
  have hI_3 : mInv (badd (badd (bsub u 0 (F6_shopAt a1 (13 + a2)).toNatClampNeg a3) 0 (F6_brandAt a2 5).toNatClampNeg a3) 0 4 (a3 * (F6_deposit u a2))) := mInv_g (k := 4) hI_2 (by decide) (by decide)
  refine lv_aload_n hx hb dX6_breaksThem_64 rfl (lv_at hl 2 rfl) ?_
  refine va_get (D := D) (ci := 6) (C := RX6) (T := TX6) (N := 16) hx hb hts iX6 hown hk.1 hP 0 (wM_0 _ _ _) rfl 0 (by decide) (hts (.fieldLink RX6 7 "BottleLoopModel" "v" "[I") (List.mem_of_getElem? (i := 1) rfl)) (fun _ h9 => h9) rfl dX6_breaksThem_65 ?_
  refine lv_iconst (v := 5) hx hb dX6_breaksThem_68 (by decide) ?_
  refine lv_dup2_11 hx hb dX6_breaksThem_69 rfl rfl ?_
  refine va_iald hx hb hk.1 hP 1 0 (wM_1 _ _ _) rfl (vp_in_nI (n := 5) (by decide) (by decide)) dX6_breaksThem_70 ?_
  refine lv_topi (fun z9 hz9 => ?_)
  obtain rfl : z9 = ((badd (badd (bsub u 0 (F6_shopAt a1 (13 + a2)).toNatClampNeg a3) 0 (F6_brandAt a2 5).toNatClampNeg a3) 0 4 (a3 * (F6_deposit u a2))) 0 5) := hz9.trans rfl
  refine lv_iload hx hb dX6_breaksThem_71 (lv_at hl 0 rfl) ?_
  refine lv_isub hx hb dX6_breaksThem_73 ?_
  refine va_iast hx hb hk.1 hP (wM_D hq) hS 1 0 (wM_1 _ _ _) rfl (vp_in_nI (n := 5) (by decide) (by decide)) dX6_breaksThem_74 (fun H locs hP _ hS => ?_)
  have hP : va_P D vwCl (wM cI q (bsub (badd (badd (bsub u 0 (F6_shopAt a1 (13 + a2)).toNatClampNeg a3) 0 (F6_brandAt a2 5).toNatClampNeg a3) 0 4 (a3 * (F6_deposit u a2))) 0 5 (F6_least (a3 * (F6_deposit u a2)) (u 0 5)))) H := pM_0s hP
  have hI_4 : mInv (bsub (badd (badd (bsub u 0 (F6_shopAt a1 (13 + a2)).toNatClampNeg a3) 0 (F6_brandAt a2 5).toNatClampNeg a3) 0 4 (a3 * (F6_deposit u a2))) 0 5 (F6_least (a3 * (F6_deposit u a2)) (u 0 5))) := mInv_g (k := 5) hI_3 (by decide) (by decide)
  refine lv_aload_n hx hb dX6_breaksThem_75 rfl (lv_at hl 2 rfl) ?_
  refine va_get (D := D) (ci := 6) (C := RX6) (T := TX6) (N := 16) hx hb hts iX6 hown hk.1 hP 0 (wM_0 _ _ _) rfl 0 (by decide) (hts (.fieldLink RX6 7 "BottleLoopModel" "v" "[I") (List.mem_of_getElem? (i := 1) rfl)) (fun _ h9 => h9) rfl dX6_breaksThem_76 ?_
  refine lv_iload_n hx hb dX6_breaksThem_79 rfl (lv_at hl 3 rfl) ?_
  refine lv_iconst (v := 0) hx hb dX6_breaksThem_80 (by decide) ?_
  refine bcall_Ri (va_runS (As := [.int a1, .int 0]) (rest := [.ref (q 1)]) ⟨hx, hb, hml, hown, hts⟩ (C6_shopAt l D cI q _ a1 0) (va_cwS 2 hts gX6_breaksThem_X6_shopAt rfl rfl rfl bd_X6shopAt ⟨Nat.le_of_ble_eq_true rfl, Nat.le_of_ble_eq_true rfl⟩) (bPS hk) rfl rfl hl.1 rfl (lv_room (Nat.le_of_ble_eq_true rfl)) dX6_breaksThem_81 ⟨Nat.zero_le _, Nat.zero_le _⟩) hS (fun locs hS => ?_)
  refine lv_dup2_11 hx hb dX6_breaksThem_84 rfl rfl ?_
  refine va_iald hx hb hk.1 hP 1 0 (wM_1 _ _ _) rfl (mXS (w := 0) h_a1 (by decide)) dX6_breaksThem_85 ?_
  refine lv_iload hx hb dX6_breaksThem_86 (lv_at hl 0 rfl) ?_
  refine lv_iadd hx hb dX6_breaksThem_88 ?_
  refine va_iast hx hb hk.1 hP (wM_D hq) hS 1 0 (wM_1 _ _ _) rfl (mXS (w := 0) h_a1 (by decide)) dX6_breaksThem_89 (fun H locs hP _ hS => ?_)
  have hP : va_P D vwCl (wM cI q (badd (bsub (badd (badd (bsub u 0 (F6_shopAt a1 (13 + a2)).toNatClampNeg a3) 0 (F6_brandAt a2 5).toNatClampNeg a3) 0 4 (a3 * (F6_deposit u a2))) 0 5 (F6_least (a3 * (F6_deposit u a2)) (u 0 5))) 0 (F6_shopAt a1 0).toNatClampNeg (F6_least (a3 * (F6_deposit u a2)) (u 0 5)))) H := pM_0a hP
  have hI_5 : mInv (badd (bsub (badd (badd (bsub u 0 (F6_shopAt a1 (13 + a2)).toNatClampNeg a3) 0 (F6_brandAt a2 5).toNatClampNeg a3) 0 4 (a3 * (F6_deposit u a2))) 0 5 (F6_least (a3 * (F6_deposit u a2)) (u 0 5))) 0 (F6_shopAt a1 0).toNatClampNeg (F6_least (a3 * (F6_deposit u a2)) (u 0 5))) := mInv_S (w := 0) hI_4 h_a1 (by decide)
  refine lv_aload_n hx hb dX6_breaksThem_90 rfl (lv_at hl 2 rfl) ?_
  refine va_get (D := D) (ci := 6) (C := RX6) (T := TX6) (N := 16) hx hb hts iX6 hown hk.1 hP 0 (wM_0 _ _ _) rfl 0 (by decide) (hts (.fieldLink RX6 7 "BottleLoopModel" "v" "[I") (List.mem_of_getElem? (i := 1) rfl)) (fun _ h9 => h9) rfl dX6_breaksThem_91 ?_
  refine lv_iload_n hx hb dX6_breaksThem_94 rfl (lv_at hl 3 rfl) ?_
  refine lv_iconst (v := 3) hx hb dX6_breaksThem_95 (by decide) ?_
  refine bcall_Ri (va_runS (As := [.int a1, .int 3]) (rest := [.ref (q 1)]) ⟨hx, hb, hml, hown, hts⟩ (C6_shopAt l D cI q _ a1 3) (va_cwS 2 hts gX6_breaksThem_X6_shopAt rfl rfl rfl bd_X6shopAt ⟨Nat.le_of_ble_eq_true rfl, Nat.le_of_ble_eq_true rfl⟩) (bPS hk) rfl rfl hl.1 rfl (lv_room (Nat.le_of_ble_eq_true rfl)) dX6_breaksThem_96 ⟨Nat.zero_le _, Nat.zero_le _⟩) hS (fun locs hS => ?_)
  refine lv_dup2_11 hx hb dX6_breaksThem_99 rfl rfl ?_
  refine va_iald hx hb hk.1 hP 1 0 (wM_1 _ _ _) rfl (mXS (w := 3) h_a1 (by decide)) dX6_breaksThem_100 ?_
  refine lv_iload hx hb dX6_breaksThem_101 (lv_at hl 0 rfl) ?_
  refine lv_isub hx hb dX6_breaksThem_103 ?_
  refine va_iast hx hb hk.1 hP (wM_D hq) hS 1 0 (wM_1 _ _ _) rfl (mXS (w := 3) h_a1 (by decide)) dX6_breaksThem_104 (fun H locs hP _ hS => ?_)
  have hP : va_P D vwCl (wM cI q (bsub (badd (bsub (badd (badd (bsub u 0 (F6_shopAt a1 (13 + a2)).toNatClampNeg a3) 0 (F6_brandAt a2 5).toNatClampNeg a3) 0 4 (a3 * (F6_deposit u a2))) 0 5 (F6_least (a3 * (F6_deposit u a2)) (u 0 5))) 0 (F6_shopAt a1 0).toNatClampNeg (F6_least (a3 * (F6_deposit u a2)) (u 0 5))) 0 (F6_shopAt a1 3).toNatClampNeg (F6_least (a3 * (F6_deposit u a2)) (u 0 5)))) H := pM_0s hP
  have hI_6 : mInv (bsub (badd (bsub (badd (badd (bsub u 0 (F6_shopAt a1 (13 + a2)).toNatClampNeg a3) 0 (F6_brandAt a2 5).toNatClampNeg a3) 0 4 (a3 * (F6_deposit u a2))) 0 5 (F6_least (a3 * (F6_deposit u a2)) (u 0 5))) 0 (F6_shopAt a1 0).toNatClampNeg (F6_least (a3 * (F6_deposit u a2)) (u 0 5))) 0 (F6_shopAt a1 3).toNatClampNeg (F6_least (a3 * (F6_deposit u a2)) (u 0 5))) := mInv_S (w := 3) hI_5 h_a1 (by decide)
  refine lv_iload hx hb dX6_breaksThem_105 (lv_at hl 0 rfl) ?_
  exact bret_Wi hx hb hr hP hI_6 hS hlocks dX6_breaksThem_107 (by rw [← hF, F6_breaksThem])
theorem bd_X6mostEmpties : yX6_mostEmpties.cls ≠ "java/lang/invoke/MethodHandle" ∧ yX6_mostEmpties.cls ≠ "java/lang/invoke/VarHandle" ∧ (parseMethodDescriptor yX6_mostEmpties.desc).map (fun d => d.parameters.length) = some 2 := by decide +kernel
def L6_collects_3 (a1 : Int32) (a2 : Int32) (a3 : Int32) : bU → Nat → Nat → bU
  | u3, 0, _ => u3
  | u3, n3 + 1, j3 => (if (12 * a3) ≤ (nI j3) then u3 else (L6_collects_3 a1 a2 a3 (badd (bsub u3 0 (F6_shopAt a1 (13 + (F6_mostEmpties u3 a1 a2))).toNatClampNeg 1) 0 (F6_brandAt (F6_mostEmpties u3 a1 a2) 4).toNatClampNeg 1) n3 (j3 + 1)))
def F6_collects (u : bU) (a1 : Int32) (a2 : Int32) (a3 : Int32) : Int32 × bU := ((F6_depositsFor (L6_collects_3 a1 a2 a3 u ((12 * a3).toNatClampNeg + 1) 0) a2 a3), (bsub (bsub (badd (badd (bsub (L6_collects_3 a1 a2 a3 u ((12 * a3).toNatClampNeg + 1) 0) 0 (F6_shopAt a1 1).toNatClampNeg a3) 0 2 a3) 0 (F6_shopAt a1 0).toNatClampNeg (F6_depositsFor (L6_collects_3 a1 a2 a3 u ((12 * a3).toNatClampNeg + 1) 0) a2 a3)) 0 (F6_shopAt a1 2).toNatClampNeg (F6_depositsFor (L6_collects_3 a1 a2 a3 u ((12 * a3).toNatClampNeg + 1) 0) a2 a3)) 0 3 (F6_depositsFor (L6_collects_3 a1 a2 a3 u ((12 * a3).toNatClampNeg + 1) 0) a2 a3)))
set_option maxHeartbeats 4000000 in
set_option maxRecDepth 100000 in
theorem C6_collects (l : Launch) (D : va_G) (cI : ClassId) (q : Nat → Nat) (u : bU) (H0 : Heap) (hq : bInj 7 q) (hP : va_P D vwCl (wM cI q u) H0) (hI : mInv u) (a1 : Int32) (a2 : Int32) (a3 : Int32) (h_a1 : mS a1) (h_a2 : mK a2) : Met l yX6_collects wsX6_collects ({ frames := 3, cells := 0, slots := 0, locals := 68 }) (bP D [(cI, .int)] H0 [.ref (q 0), .int a1, .int a2, .int a3]) (bWi D (wM cI q) mInv (bA 7 q H0.size) (F6_collects u a1 a2 a3)) 0 0 (bA 7 q H0.size) := by
  refine Met.ofW (cc := cX6_collects) (maxL := 6) (ret := (some .int)) (by decide) rfl ?_
  intro p e s m args below meth c s₁ B hml hv
  obtain ⟨rfl, hH, hk⟩ := hv
  subst hH
  have hx := B.exec
  have hb := B.bytes
  have hr := B.returns
  have hts := atoms_spec (ws := wsX6_collects) B.pre
  have hown : s.vm.findClass RX6 = some m.cls := findClass_of_methodNamed B.named
  have hlocks := B.notSynchronized
  have hNB := mNB hI
  have hNS := mNS hI
  have hI0 := hI
  have iX6 : ∀ w ∈ wsX60, w ∈ wsX6_collects := by decide +kernel
  have hS : va_S (bA 7 q s.heap.size) s.heap s.heap [] := va_S.rf
  have hl := lv_entry ([.ref (q 0), .int a1, .int a2, .int a3]) (n := 6) (Nat.le_of_ble_eq_true rfl)
  rw [lg_entry_eq]
  generalize (lg_sl ([.ref (q 0), .int a1, .int a2, .int a3]) ++ List.replicate (6 - (lg_sl ([.ref (q 0), .int a1, .int a2, .int a3])).length) Slot.unset).toArray = ls at hl ⊢
  have hl : lv_has ls 6 [(0, .ref (q 0)), (1, .int a1), (2, .int a2), (3, .int a3)] := hl
  generalize hF : F6_collects u a1 a2 a3 = tgt
  refine lv_iconst (v := 0) hx hb dX6_collects_0 (by decide) ?_
  refine lv_istore (lv' := [(4, .int 0), (0, .ref (q 0)), (1, .int a1), (2, .int a2), (3, .int a3)]) hx hb dX6_collects_1 hl (by decide) rfl (fun ls hl => ?_)
  have hB3 := bClamp (12 * a3)
  have loop3 : ∀ (n3 j3 : Nat) (u3 : bU) (H : Heap) (locs : List Loc) (ls : Array Slot), j3 ≤ (12 * a3).toNatClampNeg → (12 * a3).toNatClampNeg + 1 ≤ n3 + j3 → lv_has ls 6 [(0, .ref (q 0)), (1, .int a1), (2, .int a2), (3, .int a3), (4, .int (nI j3))] → va_P D vwCl (wM cI q u3) H → mInv u3 → va_S (bA 7 q s.heap.size) s.heap H locs → ∀ X : bU, L6_collects_3 a1 a2 a3 u3 n3 j3 = X → (∀ (H : Heap) (locs : List Loc) (ls : Array Slot), lv_has ls 6 [(0, .ref (q 0)), (1, .int a1), (2, .int a2), (3, .int a3)] → va_P D vwCl (wM cI q X) H → mInv X → va_S (bA 7 q s.heap.size) s.heap H locs → W p l e (headSpec wsX6_collects ({ frames := 3, cells := 0, slots := 0, locals := 68 })).room s m ([.ref (q 0), .int a1, .int a2, .int a3] : List Value).toArray below meth c H locs 0 0 (MQ below (bWi D (wM cI q) mInv (bA 7 q s.heap.size) tgt) ([.ref (q 0), .int a1, .int a2, .int a3] : List Value).toArray s 0 0 (bA 7 q s.heap.size)) (F0 m 59 ls [])) → W p l e (headSpec wsX6_collects ({ frames := 3, cells := 0, slots := 0, locals := 68 })).room s m ([.ref (q 0), .int a1, .int a2, .int a3] : List Value).toArray below meth c H locs 0 0 (MQ below (bWi D (wM cI q) mInv (bA 7 q s.heap.size) tgt) ([.ref (q 0), .int a1, .int a2, .int a3] : List Value).toArray s 0 0 (bA 7 q s.heap.size)) (F0 m 3 ls []) := by
    intro n3
    induction n3 with
    | zero => intro j3 u3 H locs ls hj hn; exact absurd hn (by omega)
    | succ n3 ih =>
      intro j3 u3 H locs ls hj hn hl hP hI hS X hF kx
      refine lv_iload hx hb dX6_collects_3 (lv_at hl 4 rfl) ?_
      refine lv_bipush (v := 12) hx hb dX6_collects_5 (by decide) ?_
      refine lv_iload_n hx hb dX6_collects_7 rfl (lv_at hl 3 rfl) ?_
      refine lv_imul hx hb dX6_collects_8 ?_
      refine lv_icmp_ge (tgt := 59) hx hb dX6_collects_9 (by decide) (fun c_1 => ?_) (fun c_1 => ?_)
      · obtain rfl : X = u3 := by rw [← hF, L6_collects_3, if_pos c_1]
        exact kx _ _ _ (lv_sub hl [0, 1, 2, 3] rfl) hP hI hS
      · have hlt_2 : j3 < (12 * a3).toNatClampNeg := bLtB c_1 (by omega)
        refine lv_aload_n hx hb dX6_collects_12 rfl (lv_at hl 0 rfl) ?_
        refine lv_iload_n hx hb dX6_collects_13 rfl (lv_at hl 1 rfl) ?_
        refine lv_iload_n hx hb dX6_collects_14 rfl (lv_at hl 2 rfl) ?_
        refine bcall_Ri (va_runV (As := [.int a1, .int a2]) (rest := []) ⟨hx, hb, hml, hown, hts⟩ (C6_mostEmpties l D cI q _ _ hP hI a1 a2 h_a1) (cwV 2 hts gX6_collects_X6_mostEmpties rfl rfl rfl ⟨rfl, bd_X6mostEmpties⟩ ⟨Nat.le_of_ble_eq_true rfl, Nat.le_of_ble_eq_true rfl⟩) (bPV hk (va_recv hk.1 hP (ci := 6) (q0 := 0) rfl (wM_0 _ _ _))) rfl rfl hl.1 rfl (lv_room (Nat.le_of_ble_eq_true rfl)) dX6_collects_15 ⟨Nat.zero_le _, Nat.zero_le _⟩) hS (fun locs hS => ?_)
        refine lv_istore (lv' := [(5, .int (F6_mostEmpties u3 a1 a2)), (0, .ref (q 0)), (1, .int a1), (2, .int a2), (3, .int a3), (4, .int (nI j3))]) hx hb dX6_collects_18 hl (by decide) rfl (fun ls hl => ?_)
        refine lv_aload_n hx hb dX6_collects_20 rfl (lv_at hl 1 rfl) ?_
        refine va_get (D := D) (ci := 6) (C := RX6) (T := TX6) (N := 16) hx hb hts iX6 hown hk.1 hP 0 (wM_0 _ _ _) rfl 0 (by decide) (hts (.fieldLink RX6 7 "BottleLoopModel" "v" "[I") (List.mem_of_getElem? (i := 1) rfl)) (fun _ h9 => h9) rfl dX6_collects_21 ?_
        refine lv_iload_n hx hb dX6_collects_24 rfl (lv_at hl 2 rfl) ?_
        refine lv_bipush (v := 13) hx hb dX6_collects_25 (by decide) ?_
        refine lv_iload hx hb dX6_collects_27 (lv_at hl 0 rfl) ?_
        refine lv_iadd hx hb dX6_collects_29 ?_
        refine bcall_Ri (va_runS (As := [.int a1, .int (13 + (F6_mostEmpties u3 a1 a2))]) (rest := [.ref (q 1)]) ⟨hx, hb, hml, hown, hts⟩ (C6_shopAt l D cI q _ a1 (13 + (F6_mostEmpties u3 a1 a2))) (va_cwS 2 hts gX6_collects_X6_shopAt rfl rfl rfl bd_X6shopAt ⟨Nat.le_of_ble_eq_true rfl, Nat.le_of_ble_eq_true rfl⟩) (bPS hk) rfl rfl hl.1 rfl (lv_room (Nat.le_of_ble_eq_true rfl)) dX6_collects_30 ⟨Nat.zero_le _, Nat.zero_le _⟩) hS (fun locs hS => ?_)
        refine lv_dup2_11 hx hb dX6_collects_33 rfl rfl ?_
        refine va_iald hx hb hk.1 hP 1 0 (wM_1 _ _ _) rfl (mXMEs hI h_a1) dX6_collects_34 ?_
        refine lv_iconst (v := 1) hx hb dX6_collects_35 (by decide) ?_
        refine lv_isub hx hb dX6_collects_36 ?_
        refine va_iast hx hb hk.1 hP (wM_D hq) hS 1 0 (wM_1 _ _ _) rfl (mXMEs hI h_a1) dX6_collects_37 (fun H locs hP _ hS => ?_)
        have hP : va_P D vwCl (wM cI q (bsub u3 0 (F6_shopAt a1 (13 + (F6_mostEmpties u3 a1 a2))).toNatClampNeg 1)) H := pM_0s hP
        have hI_3 : mInv (bsub u3 0 (F6_shopAt a1 (13 + (F6_mostEmpties u3 a1 a2))).toNatClampNeg 1) := mInv_MEs hI hI h_a1
        refine lv_aload_n hx hb dX6_collects_38 rfl (lv_at hl 1 rfl) ?_
        refine va_get (D := D) (ci := 6) (C := RX6) (T := TX6) (N := 16) hx hb hts iX6 hown hk.1 hP 0 (wM_0 _ _ _) rfl 0 (by decide) (hts (.fieldLink RX6 7 "BottleLoopModel" "v" "[I") (List.mem_of_getElem? (i := 1) rfl)) (fun _ h9 => h9) rfl dX6_collects_39 ?_
        refine lv_iload hx hb dX6_collects_42 (lv_at hl 0 rfl) ?_
        refine lv_iconst (v := 4) hx hb dX6_collects_44 (by decide) ?_
        refine bcall_Ri (va_runS (As := [.int (F6_mostEmpties u3 a1 a2), .int 4]) (rest := [.ref (q 1)]) ⟨hx, hb, hml, hown, hts⟩ (C6_brandAt l D cI q _ (F6_mostEmpties u3 a1 a2) 4) (va_cwS 2 hts gX6_collects_X6_brandAt rfl rfl rfl bd_X6brandAt ⟨Nat.le_of_ble_eq_true rfl, Nat.le_of_ble_eq_true rfl⟩) (bPS hk) rfl rfl hl.1 rfl (lv_room (Nat.le_of_ble_eq_true rfl)) dX6_collects_45 ⟨Nat.zero_le _, Nat.zero_le _⟩) hS (fun locs hS => ?_)
        refine lv_dup2_11 hx hb dX6_collects_48 rfl rfl ?_
        refine va_iald hx hb hk.1 hP 1 0 (wM_1 _ _ _) rfl (mXMEb hI) dX6_collects_49 ?_
        refine lv_iconst (v := 1) hx hb dX6_collects_50 (by decide) ?_
        refine lv_iadd hx hb dX6_collects_51 ?_
        refine va_iast hx hb hk.1 hP (wM_D hq) hS 1 0 (wM_1 _ _ _) rfl (mXMEb hI) dX6_collects_52 (fun H locs hP _ hS => ?_)
        have hP : va_P D vwCl (wM cI q (badd (bsub u3 0 (F6_shopAt a1 (13 + (F6_mostEmpties u3 a1 a2))).toNatClampNeg 1) 0 (F6_brandAt (F6_mostEmpties u3 a1 a2) 4).toNatClampNeg 1)) H := pM_0a hP
        have hI_4 : mInv (badd (bsub u3 0 (F6_shopAt a1 (13 + (F6_mostEmpties u3 a1 a2))).toNatClampNeg 1) 0 (F6_brandAt (F6_mostEmpties u3 a1 a2) 4).toNatClampNeg 1) := mInv_MEb hI hI_3
        refine lv_iinc (v := (nI (j3 + 1))) (lv' := [(4, .int (nI (j3 + 1))), (5, .int (F6_mostEmpties u3 a1 a2)), (0, .ref (q 0)), (1, .int a1), (2, .int a2), (3, .int a3)]) hx hb dX6_collects_53 hl (k := 5) rfl (bInc j3) (by decide) rfl (fun ls hl => ?_)
        refine lv_goto (tgt := 3) hx hb dX6_collects_56 (by decide) ?_
        exact ih (j3 + 1)  _ _ _ _ (by omega) (by omega) (lv_sub hl [2, 3, 4, 5, 0] rfl) hP hI_4 hS X (by rw [← hF, L6_collects_3, if_neg c_1]) kx
  refine loop3 ((12 * a3).toNatClampNeg + 1) 0  _ _ _ _ (by omega) (by omega) (lv_sub hl [1, 2, 3, 4, 0] rfl) hP hI hS _ rfl (fun H locs ls hl hP hI hS => ?_)
  have hI_5 : mInv (L6_collects_3 a1 a2 a3 u ((12 * a3).toNatClampNeg + 1) 0) := hI
  refine lv_aload_n hx hb dX6_collects_59 rfl (lv_at hl 0 rfl) ?_
  refine lv_iload_n hx hb dX6_collects_60 rfl (lv_at hl 2 rfl) ?_
  refine lv_iload_n hx hb dX6_collects_61 rfl (lv_at hl 3 rfl) ?_
  refine bcall_Ri (va_runV (As := [.int a2, .int a3]) (rest := []) ⟨hx, hb, hml, hown, hts⟩ (C6_depositsFor l D cI q _ _ hP hI_5 a2 a3 h_a2) (cwV 2 hts gX6_collects_X6_depositsFor rfl rfl rfl ⟨rfl, bd_X6depositsFor⟩ ⟨Nat.le_of_ble_eq_true rfl, Nat.le_of_ble_eq_true rfl⟩) (bPV hk (va_recv hk.1 hP (ci := 6) (q0 := 0) rfl (wM_0 _ _ _))) rfl rfl hl.1 rfl (lv_room (Nat.le_of_ble_eq_true rfl)) dX6_collects_62 ⟨Nat.zero_le _, Nat.zero_le _⟩) hS (fun locs hS => ?_)
  refine lv_istore (lv' := [(4, .int (F6_depositsFor (L6_collects_3 a1 a2 a3 u ((12 * a3).toNatClampNeg + 1) 0) a2 a3)), (0, .ref (q 0)), (1, .int a1), (2, .int a2), (3, .int a3)]) hx hb dX6_collects_65 hl (by decide) rfl (fun ls hl => ?_)
  refine lv_aload_n hx hb dX6_collects_67 rfl (lv_at hl 1 rfl) ?_
  refine va_get (D := D) (ci := 6) (C := RX6) (T := TX6) (N := 16) hx hb hts iX6 hown hk.1 hP 0 (wM_0 _ _ _) rfl 0 (by decide) (hts (.fieldLink RX6 7 "BottleLoopModel" "v" "[I") (List.mem_of_getElem? (i := 1) rfl)) (fun _ h9 => h9) rfl dX6_collects_68 ?_
  refine lv_iload_n hx hb dX6_collects_71 rfl (lv_at hl 2 rfl) ?_
  refine lv_iconst (v := 1) hx hb dX6_collects_72 (by decide) ?_
  refine bcall_Ri (va_runS (As := [.int a1, .int 1]) (rest := [.ref (q 1)]) ⟨hx, hb, hml, hown, hts⟩ (C6_shopAt l D cI q _ a1 1) (va_cwS 2 hts gX6_collects_X6_shopAt rfl rfl rfl bd_X6shopAt ⟨Nat.le_of_ble_eq_true rfl, Nat.le_of_ble_eq_true rfl⟩) (bPS hk) rfl rfl hl.1 rfl (lv_room (Nat.le_of_ble_eq_true rfl)) dX6_collects_73 ⟨Nat.zero_le _, Nat.zero_le _⟩) hS (fun locs hS => ?_)
  refine lv_dup2_11 hx hb dX6_collects_76 rfl rfl ?_
  refine va_iald hx hb hk.1 hP 1 0 (wM_1 _ _ _) rfl (mXS (w := 1) h_a1 (by decide)) dX6_collects_77 ?_
  refine lv_iload_n hx hb dX6_collects_78 rfl (lv_at hl 4 rfl) ?_
  refine lv_isub hx hb dX6_collects_79 ?_
  refine va_iast hx hb hk.1 hP (wM_D hq) hS 1 0 (wM_1 _ _ _) rfl (mXS (w := 1) h_a1 (by decide)) dX6_collects_80 (fun H locs hP _ hS => ?_)
  have hP : va_P D vwCl (wM cI q (bsub (L6_collects_3 a1 a2 a3 u ((12 * a3).toNatClampNeg + 1) 0) 0 (F6_shopAt a1 1).toNatClampNeg a3)) H := pM_0s hP
  have hI_6 : mInv (bsub (L6_collects_3 a1 a2 a3 u ((12 * a3).toNatClampNeg + 1) 0) 0 (F6_shopAt a1 1).toNatClampNeg a3) := mInv_S (w := 1) hI_5 h_a1 (by decide)
  refine lv_aload_n hx hb dX6_collects_81 rfl (lv_at hl 1 rfl) ?_
  refine va_get (D := D) (ci := 6) (C := RX6) (T := TX6) (N := 16) hx hb hts iX6 hown hk.1 hP 0 (wM_0 _ _ _) rfl 0 (by decide) (hts (.fieldLink RX6 7 "BottleLoopModel" "v" "[I") (List.mem_of_getElem? (i := 1) rfl)) (fun _ h9 => h9) rfl dX6_collects_82 ?_
  refine lv_iconst (v := 2) hx hb dX6_collects_85 (by decide) ?_
  refine lv_dup2_11 hx hb dX6_collects_86 rfl rfl ?_
  refine va_iald hx hb hk.1 hP 1 0 (wM_1 _ _ _) rfl (vp_in_nI (n := 2) (by decide) (by decide)) dX6_collects_87 ?_
  refine lv_topi (fun z9 hz9 => ?_)
  obtain rfl : z9 = ((bsub (L6_collects_3 a1 a2 a3 u ((12 * a3).toNatClampNeg + 1) 0) 0 (F6_shopAt a1 1).toNatClampNeg a3) 0 2) := hz9.trans rfl
  refine lv_iload_n hx hb dX6_collects_88 rfl (lv_at hl 4 rfl) ?_
  refine lv_iadd hx hb dX6_collects_89 ?_
  refine va_iast hx hb hk.1 hP (wM_D hq) hS 1 0 (wM_1 _ _ _) rfl (vp_in_nI (n := 2) (by decide) (by decide)) dX6_collects_90 (fun H locs hP _ hS => ?_)
  have hP : va_P D vwCl (wM cI q (badd (bsub (L6_collects_3 a1 a2 a3 u ((12 * a3).toNatClampNeg + 1) 0) 0 (F6_shopAt a1 1).toNatClampNeg a3) 0 2 a3)) H := pM_0a hP
  have hI_7 : mInv (badd (bsub (L6_collects_3 a1 a2 a3 u ((12 * a3).toNatClampNeg + 1) 0) 0 (F6_shopAt a1 1).toNatClampNeg a3) 0 2 a3) := mInv_g (k := 2) hI_6 (by decide) (by decide)
  refine lv_aload_n hx hb dX6_collects_91 rfl (lv_at hl 1 rfl) ?_
  refine va_get (D := D) (ci := 6) (C := RX6) (T := TX6) (N := 16) hx hb hts iX6 hown hk.1 hP 0 (wM_0 _ _ _) rfl 0 (by decide) (hts (.fieldLink RX6 7 "BottleLoopModel" "v" "[I") (List.mem_of_getElem? (i := 1) rfl)) (fun _ h9 => h9) rfl dX6_collects_92 ?_
  refine lv_iload_n hx hb dX6_collects_95 rfl (lv_at hl 2 rfl) ?_
  refine lv_iconst (v := 0) hx hb dX6_collects_96 (by decide) ?_
  refine bcall_Ri (va_runS (As := [.int a1, .int 0]) (rest := [.ref (q 1)]) ⟨hx, hb, hml, hown, hts⟩ (C6_shopAt l D cI q _ a1 0) (va_cwS 2 hts gX6_collects_X6_shopAt rfl rfl rfl bd_X6shopAt ⟨Nat.le_of_ble_eq_true rfl, Nat.le_of_ble_eq_true rfl⟩) (bPS hk) rfl rfl hl.1 rfl (lv_room (Nat.le_of_ble_eq_true rfl)) dX6_collects_97 ⟨Nat.zero_le _, Nat.zero_le _⟩) hS (fun locs hS => ?_)
  refine lv_dup2_11 hx hb dX6_collects_100 rfl rfl ?_
  refine va_iald hx hb hk.1 hP 1 0 (wM_1 _ _ _) rfl (mXS (w := 0) h_a1 (by decide)) dX6_collects_101 ?_
  refine lv_iload hx hb dX6_collects_102 (lv_at hl 0 rfl) ?_
  refine lv_iadd hx hb dX6_collects_104 ?_
  refine va_iast hx hb hk.1 hP (wM_D hq) hS 1 0 (wM_1 _ _ _) rfl (mXS (w := 0) h_a1 (by decide)) dX6_collects_105 (fun H locs hP _ hS => ?_)
  have hP : va_P D vwCl (wM cI q (badd (badd (bsub (L6_collects_3 a1 a2 a3 u ((12 * a3).toNatClampNeg + 1) 0) 0 (F6_shopAt a1 1).toNatClampNeg a3) 0 2 a3) 0 (F6_shopAt a1 0).toNatClampNeg (F6_depositsFor (L6_collects_3 a1 a2 a3 u ((12 * a3).toNatClampNeg + 1) 0) a2 a3))) H := pM_0a hP
  have hI_8 : mInv (badd (badd (bsub (L6_collects_3 a1 a2 a3 u ((12 * a3).toNatClampNeg + 1) 0) 0 (F6_shopAt a1 1).toNatClampNeg a3) 0 2 a3) 0 (F6_shopAt a1 0).toNatClampNeg (F6_depositsFor (L6_collects_3 a1 a2 a3 u ((12 * a3).toNatClampNeg + 1) 0) a2 a3)) := mInv_S (w := 0) hI_7 h_a1 (by decide)
  refine lv_aload_n hx hb dX6_collects_106 rfl (lv_at hl 1 rfl) ?_
  refine va_get (D := D) (ci := 6) (C := RX6) (T := TX6) (N := 16) hx hb hts iX6 hown hk.1 hP 0 (wM_0 _ _ _) rfl 0 (by decide) (hts (.fieldLink RX6 7 "BottleLoopModel" "v" "[I") (List.mem_of_getElem? (i := 1) rfl)) (fun _ h9 => h9) rfl dX6_collects_107 ?_
  refine lv_iload_n hx hb dX6_collects_110 rfl (lv_at hl 2 rfl) ?_
  refine lv_iconst (v := 2) hx hb dX6_collects_111 (by decide) ?_
  refine bcall_Ri (va_runS (As := [.int a1, .int 2]) (rest := [.ref (q 1)]) ⟨hx, hb, hml, hown, hts⟩ (C6_shopAt l D cI q _ a1 2) (va_cwS 2 hts gX6_collects_X6_shopAt rfl rfl rfl bd_X6shopAt ⟨Nat.le_of_ble_eq_true rfl, Nat.le_of_ble_eq_true rfl⟩) (bPS hk) rfl rfl hl.1 rfl (lv_room (Nat.le_of_ble_eq_true rfl)) dX6_collects_112 ⟨Nat.zero_le _, Nat.zero_le _⟩) hS (fun locs hS => ?_)
  refine lv_dup2_11 hx hb dX6_collects_115 rfl rfl ?_
  refine va_iald hx hb hk.1 hP 1 0 (wM_1 _ _ _) rfl (mXS (w := 2) h_a1 (by decide)) dX6_collects_116 ?_
  refine lv_iload hx hb dX6_collects_117 (lv_at hl 0 rfl) ?_
  refine lv_isub hx hb dX6_collects_119 ?_
  refine va_iast hx hb hk.1 hP (wM_D hq) hS 1 0 (wM_1 _ _ _) rfl (mXS (w := 2) h_a1 (by decide)) dX6_collects_120 (fun H locs hP _ hS => ?_)
  have hP : va_P D vwCl (wM cI q (bsub (badd (badd (bsub (L6_collects_3 a1 a2 a3 u ((12 * a3).toNatClampNeg + 1) 0) 0 (F6_shopAt a1 1).toNatClampNeg a3) 0 2 a3) 0 (F6_shopAt a1 0).toNatClampNeg (F6_depositsFor (L6_collects_3 a1 a2 a3 u ((12 * a3).toNatClampNeg + 1) 0) a2 a3)) 0 (F6_shopAt a1 2).toNatClampNeg (F6_depositsFor (L6_collects_3 a1 a2 a3 u ((12 * a3).toNatClampNeg + 1) 0) a2 a3))) H := pM_0s hP
  have hI_9 : mInv (bsub (badd (badd (bsub (L6_collects_3 a1 a2 a3 u ((12 * a3).toNatClampNeg + 1) 0) 0 (F6_shopAt a1 1).toNatClampNeg a3) 0 2 a3) 0 (F6_shopAt a1 0).toNatClampNeg (F6_depositsFor (L6_collects_3 a1 a2 a3 u ((12 * a3).toNatClampNeg + 1) 0) a2 a3)) 0 (F6_shopAt a1 2).toNatClampNeg (F6_depositsFor (L6_collects_3 a1 a2 a3 u ((12 * a3).toNatClampNeg + 1) 0) a2 a3)) := mInv_S (w := 2) hI_8 h_a1 (by decide)
  refine lv_aload_n hx hb dX6_collects_121 rfl (lv_at hl 1 rfl) ?_
  refine va_get (D := D) (ci := 6) (C := RX6) (T := TX6) (N := 16) hx hb hts iX6 hown hk.1 hP 0 (wM_0 _ _ _) rfl 0 (by decide) (hts (.fieldLink RX6 7 "BottleLoopModel" "v" "[I") (List.mem_of_getElem? (i := 1) rfl)) (fun _ h9 => h9) rfl dX6_collects_122 ?_
  refine lv_iconst (v := 3) hx hb dX6_collects_125 (by decide) ?_
  refine lv_dup2_11 hx hb dX6_collects_126 rfl rfl ?_
  refine va_iald hx hb hk.1 hP 1 0 (wM_1 _ _ _) rfl (vp_in_nI (n := 3) (by decide) (by decide)) dX6_collects_127 ?_
  refine lv_topi (fun z9 hz9 => ?_)
  obtain rfl : z9 = ((bsub (badd (badd (bsub (L6_collects_3 a1 a2 a3 u ((12 * a3).toNatClampNeg + 1) 0) 0 (F6_shopAt a1 1).toNatClampNeg a3) 0 2 a3) 0 (F6_shopAt a1 0).toNatClampNeg (F6_depositsFor (L6_collects_3 a1 a2 a3 u ((12 * a3).toNatClampNeg + 1) 0) a2 a3)) 0 (F6_shopAt a1 2).toNatClampNeg (F6_depositsFor (L6_collects_3 a1 a2 a3 u ((12 * a3).toNatClampNeg + 1) 0) a2 a3)) 0 3) := hz9.trans rfl
  refine lv_iload hx hb dX6_collects_128 (lv_at hl 0 rfl) ?_
  refine lv_isub hx hb dX6_collects_130 ?_
  refine va_iast hx hb hk.1 hP (wM_D hq) hS 1 0 (wM_1 _ _ _) rfl (vp_in_nI (n := 3) (by decide) (by decide)) dX6_collects_131 (fun H locs hP _ hS => ?_)
  have hP : va_P D vwCl (wM cI q (bsub (bsub (badd (badd (bsub (L6_collects_3 a1 a2 a3 u ((12 * a3).toNatClampNeg + 1) 0) 0 (F6_shopAt a1 1).toNatClampNeg a3) 0 2 a3) 0 (F6_shopAt a1 0).toNatClampNeg (F6_depositsFor (L6_collects_3 a1 a2 a3 u ((12 * a3).toNatClampNeg + 1) 0) a2 a3)) 0 (F6_shopAt a1 2).toNatClampNeg (F6_depositsFor (L6_collects_3 a1 a2 a3 u ((12 * a3).toNatClampNeg + 1) 0) a2 a3)) 0 3 (F6_depositsFor (L6_collects_3 a1 a2 a3 u ((12 * a3).toNatClampNeg + 1) 0) a2 a3))) H := pM_0s hP
  have hI_10 : mInv (bsub (bsub (badd (badd (bsub (L6_collects_3 a1 a2 a3 u ((12 * a3).toNatClampNeg + 1) 0) 0 (F6_shopAt a1 1).toNatClampNeg a3) 0 2 a3) 0 (F6_shopAt a1 0).toNatClampNeg (F6_depositsFor (L6_collects_3 a1 a2 a3 u ((12 * a3).toNatClampNeg + 1) 0) a2 a3)) 0 (F6_shopAt a1 2).toNatClampNeg (F6_depositsFor (L6_collects_3 a1 a2 a3 u ((12 * a3).toNatClampNeg + 1) 0) a2 a3)) 0 3 (F6_depositsFor (L6_collects_3 a1 a2 a3 u ((12 * a3).toNatClampNeg + 1) 0) a2 a3)) := mInv_g (k := 3) hI_9 (by decide) (by decide)
  refine lv_iload hx hb dX6_collects_132 (lv_at hl 0 rfl) ?_
  exact bret_Wi hx hb hr hP hI_10 hS hlocks dX6_collects_134 (by rw [← hF, F6_collects])
theorem collectsL_1 (a b d : Int32) {k : Nat} (h0 : k ≠ 0) : ∀ (n j : Nat) (u : bU), (L6_collects_3 a b d u n j) k = u k := by
  intro n
  induction n with
  | zero => intro j u; rfl
  | succ n ih =>
    intro j u
    rw [L6_collects_3]
    split
    · rfl
    · rw [ih]; exact (bs_ne _ _ h0).trans (bs_ne _ _ h0)
theorem collects_1 (u : bU) (a b d : Int32) {k : Nat} (h0 : k ≠ 0) : (F6_collects u a b d).2 k = u k := by
  show (F6_collects u a b d).2 k = u k
  unfold F6_collects badd bsub
  simp only [bput, bs_ne _ _ h0, collectsL_1 _ _ _ h0]

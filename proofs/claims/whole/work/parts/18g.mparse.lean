theorem bd_X6againstOrder : yX6_againstOrder.cls ≠ "java/lang/invoke/MethodHandle" ∧ yX6_againstOrder.cls ≠ "java/lang/invoke/VarHandle" ∧ (parseMethodDescriptor yX6_againstOrder.desc).map (fun d => d.parameters.length) = some 0 := by decide +kernel
theorem bd_X6doOrder : yX6_doOrder.cls ≠ "java/lang/invoke/MethodHandle" ∧ yX6_doOrder.cls ≠ "java/lang/invoke/VarHandle" ∧ (parseMethodDescriptor yX6_doOrder.desc).map (fun d => d.parameters.length) = some 0 := by decide +kernel
def mRunOk : Nat → Int32 → bU → Prop
  | 0, x, _ => x = 0
  | n + 1, x, u => x = 0 ∨ ((¬ (F6_readOrder u).2 6 5 = 98 → ¬ (F6_readOrder u).2 6 5 = 100 → ¬ (F6_readOrder u).2 6 5 = 114 → ¬ (F6_readOrder u).2 6 5 = 115 → mK ((F6_readOrder u).2 6 7)) ∧ (F6_againstOrder (F6_readOrder u).2 = 0 → mRunOk n (F6_readOrder u).1 (F6_doOrder (bput (F6_readOrder u).2 0 6 (F6_againstOrder (F6_readOrder u).2)))))
theorem mRunOk_lt {j : Nat} {x : Int32} {u : bU} (h : mRunOk (61 - j) x u) (c : ¬ x = 0) : j < 61 := by
  rcases Nat.lt_or_ge j 61 with q | q
  · exact q
  · rw [show 61 - j = 0 by omega] at h
    exact absurd h c
theorem mRunOk_0 (n : Nat) (u : bU) : mRunOk n 0 u := by
  cases n with
  | zero => exact rfl
  | succ n => exact Or.inl rfl
theorem mRunOk_k {j : Nat} {x : Int32} {u : bU} (h : mRunOk (61 - j) x u) (c : ¬ x = 0) : (¬ (F6_readOrder u).2 6 5 = 98 → ¬ (F6_readOrder u).2 6 5 = 100 → ¬ (F6_readOrder u).2 6 5 = 114 → ¬ (F6_readOrder u).2 6 5 = 115 → mK ((F6_readOrder u).2 6 7)) ∧ (F6_againstOrder (F6_readOrder u).2 = 0 → mRunOk (61 - (j + 1)) (F6_readOrder u).1 (F6_doOrder (bput (F6_readOrder u).2 0 6 (F6_againstOrder (F6_readOrder u).2)))) := by
  have q := mRunOk_lt h c
  rw [show 61 - j = (61 - (j + 1)) + 1 by omega] at h
  rcases h with h | h
  · exact absurd h c
  · exact h
theorem mDo_of {u : bU} (hI : mInv u) (h : F6_againstOrder u = 0) (hk : ¬ u 6 5 = 98 → ¬ u 6 5 = 100 → ¬ u 6 5 = 114 → ¬ u 6 5 = 115 → mK (u 6 7)) : mDo u := by
  unfold F6_againstOrder at h
  by_cases h1 : u 6 5 = 100
  · rw [if_pos h1] at h
    by_cases h2 : F6_isShop u (u 6 7) = 0
    · rw [if_pos h2] at h; exact absurd h (by decide)
    · rw [if_neg h2] at h
      by_cases h3 : F6_isBrand u (u 6 6) = 0
      · rw [if_pos h3] at h; exact absurd h (by decide)
      · refine ⟨fun _ => ⟨mB_is hI h3, mS_is hI h2⟩, fun q => absurd h1 q, fun q => ?_, fun _ q => absurd h1 q⟩
        rw [h1] at q
        rcases q with q | q | q <;> exact absurd q (by decide)
  · rw [if_neg h1] at h
    by_cases h2 : F6_isShop u (u 6 6) = 0
    · rw [if_pos h2] at h; exact absurd h (by decide)
    · rw [if_neg h2] at h
      refine ⟨fun q => absurd q h1, fun _ => mS_is hI h2, fun q => ?_, hk⟩
      have h4 : ¬ u 6 5 = 99 := by
        intro e
        rw [e] at q
        rcases q with q | q | q <;> exact absurd q (by decide)
      rw [if_neg h4] at h
      by_cases h3 : F6_isBrand u (u 6 7) = 0
      · rw [if_pos h3] at h; exact absurd h (by decide)
      · exact mB_is hI h3
def L6_run_50  : bU → Nat → Nat → Int32 → Int32 → Int32 × Int32 × bU
  | u50, 0, _, x1_50, x2_50 => (x1_50, x2_50, u50)
  | u50, n50 + 1, j50, x1_50, x2_50 => (if x2_50 = 0 then (x1_50, x2_50, u50) else (if ((bput (F6_readOrder u50).2 0 6 (F6_againstOrder (F6_readOrder u50).2)) 0 6) = 0 then (L6_run_50 (F6_doOrder (bput (F6_readOrder u50).2 0 6 (F6_againstOrder (F6_readOrder u50).2))) n50 (j50 + 1) (x1_50 + 1) (F6_readOrder u50).1) else (L6_run_50 (bput (F6_readOrder u50).2 0 6 (F6_againstOrder (F6_readOrder u50).2)) n50 (j50 + 1) x1_50 0)))
def F6_run (u : bU) : Int32 × bU := (if (F6_reads (bput u 6 2 0)).1 < ((F6_reads (bput u 6 2 0)).2 6 1) then ((F6_fails (F6_reads (bput u 6 2 0)).2 1).1, (F6_fails (F6_reads (bput u 6 2 0)).2 1).2) else (if ((F6_reads (bput u 6 2 0)).2 6 4) = 0 then ((F6_fails (F6_reads (bput u 6 2 0)).2 1).1, (F6_fails (F6_reads (bput u 6 2 0)).2 1).2) else ((L6_run_50 (bput (bput (F6_save (F6_reads (bput u 6 2 0)).2) 0 6 0) 6 3 0) (61 + 1) 0 0 1).1, (bput (L6_run_50 (bput (bput (F6_save (F6_reads (bput u 6 2 0)).2) 0 6 0) 6 3 0) (61 + 1) 0 0 1).2.2 6 1 0))))
set_option maxHeartbeats 4000000 in
set_option maxRecDepth 100000 in
theorem C6_run (l : Launch) (D : va_G) (cI : ClassId) (q : Nat → Nat) (u : bU) (H0 : Heap) (hq : bInj 7 q) (hP : va_P D vwCl (wM cI q u) H0) (hI : mInv u) (hrd : mRdOk 61 1 (bput (bput u 6 2 0) 6 3 0)) (hrun : ¬ (F6_reads (bput u 6 2 0)).1 < ((F6_reads (bput u 6 2 0)).2 6 1) → ¬ ((F6_reads (bput u 6 2 0)).2 6 4) = 0 → mRunOk 61 1 (bput (bput (F6_save (F6_reads (bput u 6 2 0)).2) 0 6 0) 6 3 0)) : Met l yX6_run wsX6_run ({ frames := 5, cells := 0, slots := 0, locals := 113 }) (bP D [(cI, .int)] H0 [.ref (q 0)]) (bWi D (wM cI q) mInv (bA 7 q H0.size) (F6_run u)) 0 0 (bA 7 q H0.size) := by
  refine Met.ofW (cc := cX6_run) (maxL := 3) (ret := (some .int)) (by decide) rfl ?_
  intro p e s m args below meth c s₁ B hml hv
  obtain ⟨rfl, hH, hk⟩ := hv
  subst hH
  have hx := B.exec
  have hb := B.bytes
  have hr := B.returns
  have hts := atoms_spec (ws := wsX6_run) B.pre
  have hown : s.vm.findClass RX6 = some m.cls := findClass_of_methodNamed B.named
  have hlocks := B.notSynchronized
  have hNB := mNB hI
  have hNS := mNS hI
  have hI0 := hI
  have iX6 : ∀ w ∈ wsX60, w ∈ wsX6_run := by decide +kernel
  have hS : va_S (bA 7 q s.heap.size) s.heap s.heap [] := va_S.rf
  have hl := lv_entry ([.ref (q 0)]) (n := 3) (Nat.le_of_ble_eq_true rfl)
  rw [lg_entry_eq]
  generalize (lg_sl ([.ref (q 0)]) ++ List.replicate (3 - (lg_sl ([.ref (q 0)])).length) Slot.unset).toArray = ls at hl ⊢
  have hl : lv_has ls 3 [(0, .ref (q 0))] := hl
  generalize hF : F6_run u = tgt
  refine lv_aload_n hx hb dX6_run_0 rfl (lv_at hl 0 rfl) ?_
  refine lv_iconst (v := 0) hx hb dX6_run_1 (by decide) ?_
  refine va_put (D := D) (ci := 6) (v := .int 0) (ty := .int) (C := RX6) (T := TX6) (N := 16) hx hb hts iX6 tyX6 tyX6_ok nmX6 hown hk.1 hP (wM_D hq) hS 0 (wM_0 _ _ _) rfl 6 (by decide) (hts (.fieldLink RX6 28 "BottleLoopModel" "thrown" "I") (List.mem_of_getElem? (i := 1) rfl)) (fun _ h9 => h9) rfl (by decide +kernel) rfl rfl (Nat.le_of_ble_eq_true rfl) dX6_run_2 (fun H locs hP _ hS => ?_)
  have hP : va_P D vwCl (wM cI q (bput u 6 2 0)) H := pM_f2 hP
  have hI_1 : mInv (bput u 6 2 0) := mInv_sc (k := 2) hI (by decide) (by decide) (by decide)
  refine lv_aload_n hx hb dX6_run_5 rfl (lv_at hl 0 rfl) ?_
  refine bcall_Wi (va_runV (As := []) (rest := []) ⟨hx, hb, hml, hown, hts⟩ (C6_reads l D cI q _ _ hq hP hI_1  hrd) (cwV 0 hts gX6_run_X6_reads rfl rfl rfl ⟨rfl, bd_X6reads⟩ ⟨Nat.le_of_ble_eq_true rfl, Nat.le_of_ble_eq_true rfl⟩) (bPV hk (va_recv hk.1 hP (ci := 6) (q0 := 0) rfl (wM_0 _ _ _))) rfl rfl hl.1 rfl (lv_room (Nat.le_of_ble_eq_true rfl)) dX6_run_6 ⟨Nat.zero_le _, Nat.zero_le _⟩) hS (fun H locs hP hI_2 hS => ?_)
  refine lv_aload_n hx hb dX6_run_9 rfl (lv_at hl 0 rfl) ?_
  refine va_get (D := D) (ci := 6) (C := RX6) (T := TX6) (N := 16) hx hb hts iX6 hown hk.1 hP 0 (wM_0 _ _ _) rfl 5 (by decide) (hts (.fieldLink RX6 129 "BottleLoopModel" "length" "I") (List.mem_of_getElem? (i := 2) rfl)) (fun _ h9 => h9) rfl dX6_run_10 ?_
  refine lv_icmp_lt (tgt := 23) hx hb dX6_run_13 (by decide) (fun c_3 => ?_) (fun c_3 => ?_)
  · refine lv_aload_n hx hb dX6_run_23 rfl (lv_at hl 0 rfl) ?_
    refine lv_iconst (v := 1) hx hb dX6_run_24 (by decide) ?_
    refine bcall_Wi (va_runV (As := [.int 1]) (rest := []) ⟨hx, hb, hml, hown, hts⟩ (C6_fails l D cI q _ _ hq hP hI_2 1) (cwV 1 hts gX6_run_X6_fails rfl rfl rfl ⟨rfl, bd_X6fails⟩ ⟨Nat.le_of_ble_eq_true rfl, Nat.le_of_ble_eq_true rfl⟩) (bPV hk (va_recv hk.1 hP (ci := 6) (q0 := 0) rfl (wM_0 _ _ _))) rfl rfl hl.1 rfl (lv_room (Nat.le_of_ble_eq_true rfl)) dX6_run_25 ⟨Nat.zero_le _, Nat.zero_le _⟩) hS (fun H locs hP hI_4 hS => ?_)
    exact bret_Wi hx hb hr hP hI_4 hS hlocks dX6_run_28 (by rw [← hF, F6_run, if_pos c_3])
  · refine lv_aload_n hx hb dX6_run_16 rfl (lv_at hl 0 rfl) ?_
    refine va_get (D := D) (ci := 6) (C := RX6) (T := TX6) (N := 16) hx hb hts iX6 hown hk.1 hP 0 (wM_0 _ _ _) rfl 10 (by decide) (hts (.fieldLink RX6 141 "BottleLoopModel" "isWhole" "Z") (List.mem_of_getElem? (i := 3) rfl)) (fun _ h9 => h9) rfl dX6_run_17 ?_
    refine lv_if_ne (tgt := 29) hx hb dX6_run_20 (by decide) (fun c_5 => ?_) (fun c_5 => ?_)
    · refine lv_aload_n hx hb dX6_run_29 rfl (lv_at hl 0 rfl) ?_
      refine bcall_Wv (va_runV (As := []) (rest := []) ⟨hx, hb, hml, hown, hts⟩ (C6_save l D cI q _ _ hq hP hI_2 ) (cwV 0 hts gX6_run_X6_save rfl rfl rfl ⟨rfl, bd_X6save⟩ ⟨Nat.le_of_ble_eq_true rfl, Nat.le_of_ble_eq_true rfl⟩) (bPV hk (va_recv hk.1 hP (ci := 6) (q0 := 0) rfl (wM_0 _ _ _))) rfl rfl hl.1 rfl (lv_room (Nat.le_of_ble_eq_true rfl)) dX6_run_30 ⟨Nat.zero_le _, Nat.zero_le _⟩) hS (fun H locs hP hI_6 hS => ?_)
      refine lv_aload_n hx hb dX6_run_33 rfl (lv_at hl 0 rfl) ?_
      refine va_get (D := D) (ci := 6) (C := RX6) (T := TX6) (N := 16) hx hb hts iX6 hown hk.1 hP 0 (wM_0 _ _ _) rfl 0 (by decide) (hts (.fieldLink RX6 7 "BottleLoopModel" "v" "[I") (List.mem_of_getElem? (i := 4) rfl)) (fun _ h9 => h9) rfl dX6_run_34 ?_
      refine lv_bipush (v := 6) hx hb dX6_run_37 (by decide) ?_
      refine lv_iconst (v := 0) hx hb dX6_run_39 (by decide) ?_
      refine va_iast hx hb hk.1 hP (wM_D hq) hS 1 0 (wM_1 _ _ _) rfl (vp_in_nI (n := 6) (by decide) (by decide)) dX6_run_40 (fun H locs hP _ hS => ?_)
      have hP : va_P D vwCl (wM cI q (bput (F6_save (F6_reads (bput u 6 2 0)).2) 0 6 0)) H := pM_0 hP
      have hI_7 : mInv (bput (F6_save (F6_reads (bput u 6 2 0)).2) 0 6 0) := mInv_g (k := 6) hI_6 (by decide) (by decide)
      refine lv_aload_n hx hb dX6_run_41 rfl (lv_at hl 0 rfl) ?_
      refine lv_iconst (v := 0) hx hb dX6_run_42 (by decide) ?_
      refine va_put (D := D) (ci := 6) (v := .int 0) (ty := .int) (C := RX6) (T := TX6) (N := 16) hx hb hts iX6 tyX6 tyX6_ok nmX6 hown hk.1 hP (wM_D hq) hS 0 (wM_0 _ _ _) rfl 9 (by decide) (hts (.fieldLink RX6 132 "BottleLoopModel" "place" "I") (List.mem_of_getElem? (i := 5) rfl)) (fun _ h9 => h9) rfl (by decide +kernel) rfl rfl (Nat.le_of_ble_eq_true rfl) dX6_run_43 (fun H locs hP _ hS => ?_)
      have hP : va_P D vwCl (wM cI q (bput (bput (F6_save (F6_reads (bput u 6 2 0)).2) 0 6 0) 6 3 0)) H := pM_f3 hP
      have hI_8 : mInv (bput (bput (F6_save (F6_reads (bput u 6 2 0)).2) 0 6 0) 6 3 0) := mInv_pl hI_7 (by decide)
      refine lv_iconst (v := 0) hx hb dX6_run_46 (by decide) ?_
      refine lv_istore_n (lv' := [(1, .int 0), (0, .ref (q 0))]) hx hb dX6_run_47 rfl hl (by decide) rfl (fun ls hl => ?_)
      refine lv_iconst (v := 1) hx hb dX6_run_48 (by decide) ?_
      refine lv_istore_n (lv' := [(2, .int 1), (1, .int 0), (0, .ref (q 0))]) hx hb dX6_run_49 rfl hl (by decide) rfl (fun ls hl => ?_)
      have hNB50 := mNB hI_8
      have hNS50 := mNS hI_8
      have loop50 : ∀ (n50 j50 : Nat) (x1_50 : Int32) (x2_50 : Int32) (u50 : bU) (H : Heap) (locs : List Loc) (ls : Array Slot), j50 ≤ 61 → 61 + 1 ≤ n50 + j50 → mRunOk (61 - j50) x2_50 u50 → lv_has ls 3 [(0, .ref (q 0)), (1, .int x1_50), (2, .int x2_50)] → va_P D vwCl (wM cI q u50) H → mInv u50 → va_S (bA 7 q s.heap.size) s.heap H locs → ∀ X : Int32 × Int32 × bU, L6_run_50 u50 n50 j50 x1_50 x2_50 = X → (∀ (H : Heap) (locs : List Loc) (ls : Array Slot), lv_has ls 3 [(0, .ref (q 0)), (1, .int X.1), (2, .int X.2.1)] → va_P D vwCl (wM cI q X.2.2) H → mInv X.2.2 → va_S (bA 7 q s.heap.size) s.heap H locs → W p l e (headSpec wsX6_run ({ frames := 5, cells := 0, slots := 0, locals := 113 })).room s m ([.ref (q 0)] : List Value).toArray below meth c H locs 0 0 (MQ below (bWi D (wM cI q) mInv (bA 7 q s.heap.size) tgt) ([.ref (q 0)] : List Value).toArray s 0 0 (bA 7 q s.heap.size)) (F0 m 95 ls [])) → W p l e (headSpec wsX6_run ({ frames := 5, cells := 0, slots := 0, locals := 113 })).room s m ([.ref (q 0)] : List Value).toArray below meth c H locs 0 0 (MQ below (bWi D (wM cI q) mInv (bA 7 q s.heap.size) tgt) ([.ref (q 0)] : List Value).toArray s 0 0 (bA 7 q s.heap.size)) (F0 m 50 ls []) := by
        intro n50
        induction n50 with
        | zero => intro j50 x1_50 x2_50 u50 H locs ls hj hn; exact absurd hn (by omega)
        | succ n50 ih =>
          intro j50 x1_50 x2_50 u50 H locs ls hj hn hinv hl hP hI hS X hF kx
          refine lv_iload_n hx hb dX6_run_50 rfl (lv_at hl 2 rfl) ?_
          refine lv_if_eq (tgt := 95) hx hb dX6_run_51 (by decide) (fun c_9 => ?_) (fun c_9 => ?_)
          · obtain rfl : X = (x1_50, x2_50, u50) := by rw [← hF, L6_run_50, if_pos c_9]
            exact kx _ _ _ (lv_sub hl [0, 1, 2] rfl) hP hI hS
          · have hlt_10 : j50 < 61 := mRunOk_lt hinv c_9
            refine lv_aload_n hx hb dX6_run_54 rfl (lv_at hl 0 rfl) ?_
            refine bcall_Wi (va_runV (As := []) (rest := []) ⟨hx, hb, hml, hown, hts⟩ (C6_readOrder l D cI q _ _ hq hP hI ) (cwV 0 hts gX6_run_X6_readOrder rfl rfl rfl ⟨rfl, bd_X6readOrder⟩ ⟨Nat.le_of_ble_eq_true rfl, Nat.le_of_ble_eq_true rfl⟩) (bPV hk (va_recv hk.1 hP (ci := 6) (q0 := 0) rfl (wM_0 _ _ _))) rfl rfl hl.1 rfl (lv_room (Nat.le_of_ble_eq_true rfl)) dX6_run_55 ⟨Nat.zero_le _, Nat.zero_le _⟩) hS (fun H locs hP hI_11 hS => ?_)
            refine lv_istore_n (lv' := [(2, .int (F6_readOrder u50).1), (0, .ref (q 0)), (1, .int x1_50)]) hx hb dX6_run_58 rfl hl (by decide) rfl (fun ls hl => ?_)
            refine lv_aload_n hx hb dX6_run_59 rfl (lv_at hl 1 rfl) ?_
            refine va_get (D := D) (ci := 6) (C := RX6) (T := TX6) (N := 16) hx hb hts iX6 hown hk.1 hP 0 (wM_0 _ _ _) rfl 0 (by decide) (hts (.fieldLink RX6 7 "BottleLoopModel" "v" "[I") (List.mem_of_getElem? (i := 4) rfl)) (fun _ h9 => h9) rfl dX6_run_60 ?_
            refine lv_bipush (v := 6) hx hb dX6_run_63 (by decide) ?_
            refine lv_aload_n hx hb dX6_run_65 rfl (lv_at hl 1 rfl) ?_
            refine bcall_Ri (va_runV (As := []) (rest := [.int 6, .ref (q 1)]) ⟨hx, hb, hml, hown, hts⟩ (C6_againstOrder l D cI q _ _ hP hI_11 ) (cwV 0 hts gX6_run_X6_againstOrder rfl rfl rfl ⟨rfl, bd_X6againstOrder⟩ ⟨Nat.le_of_ble_eq_true rfl, Nat.le_of_ble_eq_true rfl⟩) (bPV hk (va_recv hk.1 hP (ci := 6) (q0 := 0) rfl (wM_0 _ _ _))) rfl rfl hl.1 rfl (lv_room (Nat.le_of_ble_eq_true rfl)) dX6_run_66 ⟨Nat.zero_le _, Nat.zero_le _⟩) hS (fun locs hS => ?_)
            refine va_iast hx hb hk.1 hP (wM_D hq) hS 1 0 (wM_1 _ _ _) rfl (vp_in_nI (n := 6) (by decide) (by decide)) dX6_run_69 (fun H locs hP _ hS => ?_)
            have hP : va_P D vwCl (wM cI q (bput (F6_readOrder u50).2 0 6 (F6_againstOrder (F6_readOrder u50).2))) H := pM_0 hP
            have hI_12 : mInv (bput (F6_readOrder u50).2 0 6 (F6_againstOrder (F6_readOrder u50).2)) := mInv_g (k := 6) hI_11 (by decide) (by decide)
            refine lv_aload_n hx hb dX6_run_70 rfl (lv_at hl 1 rfl) ?_
            refine va_get (D := D) (ci := 6) (C := RX6) (T := TX6) (N := 16) hx hb hts iX6 hown hk.1 hP 0 (wM_0 _ _ _) rfl 0 (by decide) (hts (.fieldLink RX6 7 "BottleLoopModel" "v" "[I") (List.mem_of_getElem? (i := 4) rfl)) (fun _ h9 => h9) rfl dX6_run_71 ?_
            refine lv_bipush (v := 6) hx hb dX6_run_74 (by decide) ?_
            refine va_iald hx hb hk.1 hP 1 0 (wM_1 _ _ _) rfl (vp_in_nI (n := 6) (by decide) (by decide)) dX6_run_76 ?_
            refine lv_topi (fun z9 hz9 => ?_)
            obtain rfl : z9 = ((bput (F6_readOrder u50).2 0 6 (F6_againstOrder (F6_readOrder u50).2)) 0 6) := hz9.trans rfl
            refine lv_if_ne (tgt := 90) hx hb dX6_run_77 (by decide) (fun c_13 => ?_) (fun c_13 => ?_)
            · refine lv_iconst (v := 0) hx hb dX6_run_90 (by decide) ?_
              refine lv_istore_n (lv' := [(2, .int 0), (0, .ref (q 0)), (1, .int x1_50)]) hx hb dX6_run_91 rfl hl (by decide) rfl (fun ls hl => ?_)
              refine lv_goto (tgt := 50) hx hb dX6_run_92 (by decide) ?_
              exact ih (j50 + 1) x1_50 0 (bput (F6_readOrder u50).2 0 6 (F6_againstOrder (F6_readOrder u50).2)) _ _ _ (by omega) (by omega) (mRunOk_0 _ _) (lv_sub hl [1, 2, 0] rfl) hP hI_12 hS X (by rw [← hF, L6_run_50, if_neg c_9, if_neg c_13]) kx
            · refine lv_aload_n hx hb dX6_run_80 rfl (lv_at hl 1 rfl) ?_
              refine bcall_Wv (va_runV (As := []) (rest := []) ⟨hx, hb, hml, hown, hts⟩ (C6_doOrder l D cI q _ _ hq hP hI_12  (mDo_v (mDo_of hI_11 c_13 (mRunOk_k hinv c_9).1))) (cwV 0 hts gX6_run_X6_doOrder rfl rfl rfl ⟨rfl, bd_X6doOrder⟩ ⟨Nat.le_of_ble_eq_true rfl, Nat.le_of_ble_eq_true rfl⟩) (bPV hk (va_recv hk.1 hP (ci := 6) (q0 := 0) rfl (wM_0 _ _ _))) rfl rfl hl.1 rfl (lv_room (Nat.le_of_ble_eq_true rfl)) dX6_run_81 ⟨Nat.zero_le _, Nat.zero_le _⟩) hS (fun H locs hP hI_14 hS => ?_)
              refine lv_iinc (v := (x1_50 + 1)) (lv' := [(1, .int (x1_50 + 1)), (2, .int (F6_readOrder u50).1), (0, .ref (q 0))]) hx hb dX6_run_84 hl (k := 2) rfl rfl (by decide) rfl (fun ls hl => ?_)
              refine lv_goto (tgt := 50) hx hb dX6_run_87 (by decide) ?_
              exact ih (j50 + 1) (x1_50 + 1) (F6_readOrder u50).1 (F6_doOrder (bput (F6_readOrder u50).2 0 6 (F6_againstOrder (F6_readOrder u50).2))) _ _ _ (by omega) (by omega) ((mRunOk_k hinv c_9).2 c_13) (lv_sub hl [2, 0, 1] rfl) hP hI_14 hS X (by rw [← hF, L6_run_50, if_neg c_9, if_pos c_13]) kx
      refine loop50 (61 + 1) 0 0 1 (bput (bput (F6_save (F6_reads (bput u 6 2 0)).2) 0 6 0) 6 3 0) _ _ _ (by omega) (by omega) (hrun c_3 c_5) (lv_sub hl [2, 1, 0] rfl) hP hI_8 hS _ rfl (fun H locs ls hl hP hI hS => ?_)
      have hI_15 : mInv (L6_run_50 (bput (bput (F6_save (F6_reads (bput u 6 2 0)).2) 0 6 0) 6 3 0) (61 + 1) 0 0 1).2.2 := hI
      refine lv_aload_n hx hb dX6_run_95 rfl (lv_at hl 0 rfl) ?_
      refine lv_iconst (v := 0) hx hb dX6_run_96 (by decide) ?_
      refine va_put (D := D) (ci := 6) (v := .int 0) (ty := .int) (C := RX6) (T := TX6) (N := 16) hx hb hts iX6 tyX6 tyX6_ok nmX6 hown hk.1 hP (wM_D hq) hS 0 (wM_0 _ _ _) rfl 5 (by decide) (hts (.fieldLink RX6 129 "BottleLoopModel" "length" "I") (List.mem_of_getElem? (i := 2) rfl)) (fun _ h9 => h9) rfl (by decide +kernel) rfl rfl (Nat.le_of_ble_eq_true rfl) dX6_run_97 (fun H locs hP _ hS => ?_)
      have hP : va_P D vwCl (wM cI q (bput (L6_run_50 (bput (bput (F6_save (F6_reads (bput u 6 2 0)).2) 0 6 0) 6 3 0) (61 + 1) 0 0 1).2.2 6 1 0)) H := pM_f1 hP
      have hI_16 : mInv (bput (L6_run_50 (bput (bput (F6_save (F6_reads (bput u 6 2 0)).2) 0 6 0) 6 3 0) (61 + 1) 0 0 1).2.2 6 1 0) := mInv_ln0 hI_15
      refine lv_iload_n hx hb dX6_run_100 rfl (lv_at hl 1 rfl) ?_
      exact bret_Wi hx hb hr hP hI_16 hS hlocks dX6_run_101 (by rw [← hF, F6_run, if_neg c_3, if_neg c_5])
    · refine lv_aload_n hx hb dX6_run_23 rfl (lv_at hl 0 rfl) ?_
      refine lv_iconst (v := 1) hx hb dX6_run_24 (by decide) ?_
      refine bcall_Wi (va_runV (As := [.int 1]) (rest := []) ⟨hx, hb, hml, hown, hts⟩ (C6_fails l D cI q _ _ hq hP hI_2 1) (cwV 1 hts gX6_run_X6_fails rfl rfl rfl ⟨rfl, bd_X6fails⟩ ⟨Nat.le_of_ble_eq_true rfl, Nat.le_of_ble_eq_true rfl⟩) (bPV hk (va_recv hk.1 hP (ci := 6) (q0 := 0) rfl (wM_0 _ _ _))) rfl rfl hl.1 rfl (lv_room (Nat.le_of_ble_eq_true rfl)) dX6_run_25 ⟨Nat.zero_le _, Nat.zero_le _⟩) hS (fun H locs hP hI_17 hS => ?_)
      exact bret_Wi hx hb hr hP hI_17 hS hlocks dX6_run_28 (by rw [← hF, F6_run, if_neg c_3, if_pos c_5])

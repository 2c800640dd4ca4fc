def L6_number_7 (u : bU) : Nat → Nat → Int32 → Int32 → Int32 × Int32
  | 0, _, x2_7, x3_7 => (x2_7, x3_7)
  | n7 + 1, j7, x2_7, x3_7 => (if (u 0 0) ≤ (nI j7) then (x2_7, x3_7) else (L6_number_7 u n7 (j7 + 1) (x2_7 + (F6_of u (nI j7) 3)) (x3_7 + (F6_of u (nI j7) 4))))
def F6_number (u : bU) (a1 : Int32) : Int32 := (if a1 = 0 then (u 0 a1.toNatClampNeg) else (if a1 = 1 then (u 0 a1.toNatClampNeg) else (if a1 = 2 then (u 0 a1.toNatClampNeg) else (if a1 = 3 then (F6_cratesInShops u) else (if a1 = 4 then (u 0 (a1 - 1).toNatClampNeg) else (if a1 = 5 then (u 0 (a1 - 1).toNatClampNeg) else (if a1 = 6 then (u 0 (a1 - 1).toNatClampNeg) else (if a1 = 7 then (L6_number_7 u ((u 0 0).toNatClampNeg + 1) 0 0 0).1 else (if a1 = 8 then (L6_number_7 u ((u 0 0).toNatClampNeg + 1) 0 0 0).2 else (if a1 = 9 then (u 0 6) else (u 6 0)))))))))))
set_option maxHeartbeats 4000000 in
set_option maxRecDepth 100000 in
theorem C6_number (l : Launch) (D : va_G) (cI : ClassId) (q : Nat → Nat) (u : bU) (H0 : Heap) (hP : va_P D vwCl (wM cI q u) H0) (hI : mInv u) (a1 : Int32) : Met l yX6_number wsX6_number ({ frames := 3, cells := 0, slots := 0, locals := 65 }) (bP D [(cI, .int)] H0 [.ref (q 0), .int a1]) (bRi H0 (F6_number u a1)) 0 0 (fun _ => False) := by
  refine Met.ofW (cc := cX6_number) (maxL := 5) (ret := (some .int)) (by decide) rfl ?_
  intro p e s m args below meth c s₁ B hml hv
  obtain ⟨rfl, hH, hk⟩ := hv
  subst hH
  have hx := B.exec
  have hb := B.bytes
  have hr := B.returns
  have hts := atoms_spec (ws := wsX6_number) B.pre
  have hown : s.vm.findClass RX6 = some m.cls := findClass_of_methodNamed B.named
  have hlocks := B.notSynchronized
  have hNB := mNB hI
  have hNS := mNS hI
  have hI0 := hI
  have iX6 : ∀ w ∈ wsX60, w ∈ wsX6_number := by decide +kernel
  have hS : va_S (fun _ => False) s.heap s.heap [] := va_S.rf
  have hl := lv_entry ([.ref (q 0), .int a1]) (n := 5) (Nat.le_of_ble_eq_true rfl)
  rw [lg_entry_eq]
  generalize (lg_sl ([.ref (q 0), .int a1]) ++ List.replicate (5 - (lg_sl ([.ref (q 0), .int a1])).length) Slot.unset).toArray = ls at hl ⊢
  have hl : lv_has ls 5 [(0, .ref (q 0)), (1, .int a1)] := hl
  generalize hF : F6_number u a1 = tgt
  refine lv_iconst (v := 0) hx hb dX6_number_0 (by decide) ?_
  refine lv_istore_n (lv' := [(2, .int 0), (0, .ref (q 0)), (1, .int a1)]) hx hb dX6_number_1 rfl hl (by decide) rfl (fun ls hl => ?_)
  refine lv_iconst (v := 0) hx hb dX6_number_2 (by decide) ?_
  refine lv_istore_n (lv' := [(3, .int 0), (2, .int 0), (0, .ref (q 0)), (1, .int a1)]) hx hb dX6_number_3 rfl hl (by decide) rfl (fun ls hl => ?_)
  refine lv_iconst (v := 0) hx hb dX6_number_4 (by decide) ?_
  refine lv_istore (lv' := [(4, .int 0), (3, .int 0), (2, .int 0), (0, .ref (q 0)), (1, .int a1)]) hx hb dX6_number_5 hl (by decide) rfl (fun ls hl => ?_)
  have hB7 := bClamp (u 0 0)
  have loop7 : ∀ (n7 j7 : Nat) (x2_7 : Int32) (x3_7 : Int32) (locs : List Loc) (ls : Array Slot), j7 ≤ (u 0 0).toNatClampNeg → (u 0 0).toNatClampNeg + 1 ≤ n7 + j7 → lv_has ls 5 [(0, .ref (q 0)), (1, .int a1), (2, .int x2_7), (3, .int x3_7), (4, .int (nI j7))] → va_S (fun _ => False) s.heap s.heap locs → ∀ X : Int32 × Int32, L6_number_7 u  n7 j7 x2_7 x3_7 = X → (∀ (locs : List Loc) (ls : Array Slot), lv_has ls 5 [(0, .ref (q 0)), (1, .int a1), (2, .int X.1), (3, .int X.2)] → va_S (fun _ => False) s.heap s.heap locs → W p l e (headSpec wsX6_number ({ frames := 3, cells := 0, slots := 0, locals := 65 })).room s m ([.ref (q 0), .int a1] : List Value).toArray below meth c s.heap locs 0 0 (MQ below (bRi s.heap tgt) ([.ref (q 0), .int a1] : List Value).toArray s 0 0 (fun _ => False)) (F0 m 44 ls [])) → W p l e (headSpec wsX6_number ({ frames := 3, cells := 0, slots := 0, locals := 65 })).room s m ([.ref (q 0), .int a1] : List Value).toArray below meth c s.heap locs 0 0 (MQ below (bRi s.heap tgt) ([.ref (q 0), .int a1] : List Value).toArray s 0 0 (fun _ => False)) (F0 m 7 ls []) := by
    intro n7
    induction n7 with
    | zero => intro j7 x2_7 x3_7 locs ls hj hn; exact absurd hn (by omega)
    | succ n7 ih =>
      intro j7 x2_7 x3_7 locs ls hj hn hl hS X hF kx
      refine lv_iload hx hb dX6_number_7 (lv_at hl 4 rfl) ?_
      refine lv_aload_n hx hb dX6_number_9 rfl (lv_at hl 0 rfl) ?_
      refine va_get (D := D) (ci := 6) (C := RX6) (T := TX6) (N := 16) hx hb hts iX6 hown hk.1 hP 0 (wM_0 _ _ _) rfl 0 (by decide) (hts (.fieldLink RX6 7 "BottleLoopModel" "v" "[I") (List.mem_of_getElem? (i := 1) rfl)) (fun _ h9 => h9) rfl dX6_number_10 ?_
      refine lv_iconst (v := 0) hx hb dX6_number_13 (by decide) ?_
      refine va_iald hx hb hk.1 hP 1 0 (wM_1 _ _ _) rfl (vp_in_nI (n := 0) (by decide) (by decide)) dX6_number_14 ?_
      refine lv_topi (fun z9 hz9 => ?_)
      obtain rfl : z9 = (u 0 0) := hz9.trans rfl
      refine lv_icmp_ge (tgt := 44) hx hb dX6_number_15 (by decide) (fun c_1 => ?_) (fun c_1 => ?_)
      · obtain rfl : X = (x2_7, x3_7) := by rw [← hF, L6_number_7, if_pos c_1]
        exact kx _ _ (lv_sub hl [0, 1, 2, 3] rfl) hS
      · have hlt_2 : j7 < (u 0 0).toNatClampNeg := bLtB c_1 (by omega)
        refine lv_iload_n hx hb dX6_number_18 rfl (lv_at hl 2 rfl) ?_
        refine lv_aload_n hx hb dX6_number_19 rfl (lv_at hl 0 rfl) ?_
        refine lv_iload hx hb dX6_number_20 (lv_at hl 4 rfl) ?_
        refine lv_iconst (v := 3) hx hb dX6_number_22 (by decide) ?_
        refine bcall_Ri (va_runV (As := [.int (nI j7), .int 3]) (rest := [.int x2_7]) ⟨hx, hb, hml, hown, hts⟩ (C6_of l D cI q _ _ hP hI (nI j7) 3 (mXB (w := 3) (mB_nI (by omega)) (by decide))) (cwV 2 hts gX6_number_X6_of rfl rfl rfl ⟨rfl, bd_X6of⟩ ⟨Nat.le_of_ble_eq_true rfl, Nat.le_of_ble_eq_true rfl⟩) (bPV hk (va_recv hk.1 hP (ci := 6) (q0 := 0) rfl (wM_0 _ _ _))) rfl rfl hl.1 rfl (lv_room (Nat.le_of_ble_eq_true rfl)) dX6_number_23 ⟨Nat.zero_le _, Nat.zero_le _⟩) hS (fun locs hS => ?_)
        refine lv_iadd hx hb dX6_number_26 ?_
        refine lv_istore_n (lv' := [(2, .int (x2_7 + (F6_of u (nI j7) 3))), (0, .ref (q 0)), (1, .int a1), (3, .int x3_7), (4, .int (nI j7))]) hx hb dX6_number_27 rfl hl (by decide) rfl (fun ls hl => ?_)
        refine lv_iload_n hx hb dX6_number_28 rfl (lv_at hl 3 rfl) ?_
        refine lv_aload_n hx hb dX6_number_29 rfl (lv_at hl 1 rfl) ?_
        refine lv_iload hx hb dX6_number_30 (lv_at hl 4 rfl) ?_
        refine lv_iconst (v := 4) hx hb dX6_number_32 (by decide) ?_
        refine bcall_Ri (va_runV (As := [.int (nI j7), .int 4]) (rest := [.int x3_7]) ⟨hx, hb, hml, hown, hts⟩ (C6_of l D cI q _ _ hP hI (nI j7) 4 (mXB (w := 4) (mB_nI (by omega)) (by decide))) (cwV 2 hts gX6_number_X6_of rfl rfl rfl ⟨rfl, bd_X6of⟩ ⟨Nat.le_of_ble_eq_true rfl, Nat.le_of_ble_eq_true rfl⟩) (bPV hk (va_recv hk.1 hP (ci := 6) (q0 := 0) rfl (wM_0 _ _ _))) rfl rfl hl.1 rfl (lv_room (Nat.le_of_ble_eq_true rfl)) dX6_number_33 ⟨Nat.zero_le _, Nat.zero_le _⟩) hS (fun locs hS => ?_)
        refine lv_iadd hx hb dX6_number_36 ?_
        refine lv_istore_n (lv' := [(3, .int (x3_7 + (F6_of u (nI j7) 4))), (2, .int (x2_7 + (F6_of u (nI j7) 3))), (0, .ref (q 0)), (1, .int a1), (4, .int (nI j7))]) hx hb dX6_number_37 rfl hl (by decide) rfl (fun ls hl => ?_)
        refine lv_iinc (v := (nI (j7 + 1))) (lv' := [(4, .int (nI (j7 + 1))), (3, .int (x3_7 + (F6_of u (nI j7) 4))), (2, .int (x2_7 + (F6_of u (nI j7) 3))), (0, .ref (q 0)), (1, .int a1)]) hx hb dX6_number_38 hl (k := 4) rfl (bInc j7) (by decide) rfl (fun ls hl => ?_)
        refine lv_goto (tgt := 7) hx hb dX6_number_41 (by decide) ?_
        exact ih (j7 + 1) (x2_7 + (F6_of u (nI j7) 3)) (x3_7 + (F6_of u (nI j7) 4)) _ _ (by omega) (by omega) (lv_sub hl [3, 4, 2, 1, 0] rfl) hS X (by rw [← hF, L6_number_7, if_neg c_1]) kx
  refine loop7 ((u 0 0).toNatClampNeg + 1) 0 0 0 _ _ (by omega) (by omega) (lv_sub hl [3, 4, 2, 1, 0] rfl) hS _ rfl (fun locs ls hl hS => ?_)
  refine lv_iload_n hx hb dX6_number_44 rfl (lv_at hl 1 rfl) ?_
  by_cases c_3 : a1 = 0
  · refine lv_tableIn (off := 55) (tgt := 100) hx hb dX6_number_45 (by rw [c_3]; decide) (by rw [c_3]; decide) (by rw [c_3]; rfl) (by decide) ?_
    refine lv_aload_n hx hb dX6_number_100 rfl (lv_at hl 0 rfl) ?_
    refine va_get (D := D) (ci := 6) (C := RX6) (T := TX6) (N := 16) hx hb hts iX6 hown hk.1 hP 0 (wM_0 _ _ _) rfl 0 (by decide) (hts (.fieldLink RX6 7 "BottleLoopModel" "v" "[I") (List.mem_of_getElem? (i := 1) rfl)) (fun _ h9 => h9) rfl dX6_number_101 ?_
    refine lv_iload_n hx hb dX6_number_104 rfl (lv_at hl 1 rfl) ?_
    refine va_iald hx hb hk.1 hP 1 0 (wM_1 _ _ _) rfl (by rw [c_3]; exact vp_in_nI (n := 0) (by decide) (by decide)) dX6_number_105 ?_
    exact bret_Ri hx hb hr hS hlocks dX6_number_106 (by rw [← hF, F6_number, if_pos c_3])
  · by_cases c_4 : a1 = 1
    · refine lv_tableIn (off := 55) (tgt := 100) hx hb dX6_number_45 (by rw [c_4]; decide) (by rw [c_4]; decide) (by rw [c_4]; rfl) (by decide) ?_
      refine lv_aload_n hx hb dX6_number_100 rfl (lv_at hl 0 rfl) ?_
      refine va_get (D := D) (ci := 6) (C := RX6) (T := TX6) (N := 16) hx hb hts iX6 hown hk.1 hP 0 (wM_0 _ _ _) rfl 0 (by decide) (hts (.fieldLink RX6 7 "BottleLoopModel" "v" "[I") (List.mem_of_getElem? (i := 1) rfl)) (fun _ h9 => h9) rfl dX6_number_101 ?_
      refine lv_iload_n hx hb dX6_number_104 rfl (lv_at hl 1 rfl) ?_
      refine va_iald hx hb hk.1 hP 1 0 (wM_1 _ _ _) rfl (by rw [c_4]; exact vp_in_nI (n := 1) (by decide) (by decide)) dX6_number_105 ?_
      exact bret_Ri hx hb hr hS hlocks dX6_number_106 (by rw [← hF, F6_number, if_neg c_3, if_pos c_4])
    · by_cases c_5 : a1 = 2
      · refine lv_tableIn (off := 55) (tgt := 100) hx hb dX6_number_45 (by rw [c_5]; decide) (by rw [c_5]; decide) (by rw [c_5]; rfl) (by decide) ?_
        refine lv_aload_n hx hb dX6_number_100 rfl (lv_at hl 0 rfl) ?_
        refine va_get (D := D) (ci := 6) (C := RX6) (T := TX6) (N := 16) hx hb hts iX6 hown hk.1 hP 0 (wM_0 _ _ _) rfl 0 (by decide) (hts (.fieldLink RX6 7 "BottleLoopModel" "v" "[I") (List.mem_of_getElem? (i := 1) rfl)) (fun _ h9 => h9) rfl dX6_number_101 ?_
        refine lv_iload_n hx hb dX6_number_104 rfl (lv_at hl 1 rfl) ?_
        refine va_iald hx hb hk.1 hP 1 0 (wM_1 _ _ _) rfl (by rw [c_5]; exact vp_in_nI (n := 2) (by decide) (by decide)) dX6_number_105 ?_
        exact bret_Ri hx hb hr hS hlocks dX6_number_106 (by rw [← hF, F6_number, if_neg c_3, if_neg c_4, if_pos c_5])
      · by_cases c_6 : a1 = 3
        · refine lv_tableIn (off := 62) (tgt := 107) hx hb dX6_number_45 (by rw [c_6]; decide) (by rw [c_6]; decide) (by rw [c_6]; rfl) (by decide) ?_
          refine lv_aload_n hx hb dX6_number_107 rfl (lv_at hl 0 rfl) ?_
          refine bcall_Ri (va_runV (As := []) (rest := []) ⟨hx, hb, hml, hown, hts⟩ (C6_cratesInShops l D cI q _ _ hP hI ) (cwV 0 hts gX6_number_X6_cratesInShops rfl rfl rfl ⟨rfl, bd_X6cratesInShops⟩ ⟨Nat.le_of_ble_eq_true rfl, Nat.le_of_ble_eq_true rfl⟩) (bPV hk (va_recv hk.1 hP (ci := 6) (q0 := 0) rfl (wM_0 _ _ _))) rfl rfl hl.1 rfl (lv_room (Nat.le_of_ble_eq_true rfl)) dX6_number_108 ⟨Nat.zero_le _, Nat.zero_le _⟩) hS (fun locs hS => ?_)
          exact bret_Ri hx hb hr hS hlocks dX6_number_111 (by rw [← hF, F6_number, if_neg c_3, if_neg c_4, if_neg c_5, if_pos c_6])
        · by_cases c_7 : a1 = 4
          · refine lv_tableIn (off := 67) (tgt := 112) hx hb dX6_number_45 (by rw [c_7]; decide) (by rw [c_7]; decide) (by rw [c_7]; rfl) (by decide) ?_
            refine lv_aload_n hx hb dX6_number_112 rfl (lv_at hl 0 rfl) ?_
            refine va_get (D := D) (ci := 6) (C := RX6) (T := TX6) (N := 16) hx hb hts iX6 hown hk.1 hP 0 (wM_0 _ _ _) rfl 0 (by decide) (hts (.fieldLink RX6 7 "BottleLoopModel" "v" "[I") (List.mem_of_getElem? (i := 1) rfl)) (fun _ h9 => h9) rfl dX6_number_113 ?_
            refine lv_iload_n hx hb dX6_number_116 rfl (lv_at hl 1 rfl) ?_
            refine lv_iconst (v := 1) hx hb dX6_number_117 (by decide) ?_
            refine lv_isub hx hb dX6_number_118 ?_
            refine va_iald hx hb hk.1 hP 1 0 (wM_1 _ _ _) rfl (by rw [c_7]; exact vp_in_nI (n := 3) (by decide) (by decide)) dX6_number_119 ?_
            exact bret_Ri hx hb hr hS hlocks dX6_number_120 (by rw [← hF, F6_number, if_neg c_3, if_neg c_4, if_neg c_5, if_neg c_6, if_pos c_7])
          · by_cases c_8 : a1 = 5
            · refine lv_tableIn (off := 67) (tgt := 112) hx hb dX6_number_45 (by rw [c_8]; decide) (by rw [c_8]; decide) (by rw [c_8]; rfl) (by decide) ?_
              refine lv_aload_n hx hb dX6_number_112 rfl (lv_at hl 0 rfl) ?_
              refine va_get (D := D) (ci := 6) (C := RX6) (T := TX6) (N := 16) hx hb hts iX6 hown hk.1 hP 0 (wM_0 _ _ _) rfl 0 (by decide) (hts (.fieldLink RX6 7 "BottleLoopModel" "v" "[I") (List.mem_of_getElem? (i := 1) rfl)) (fun _ h9 => h9) rfl dX6_number_113 ?_
              refine lv_iload_n hx hb dX6_number_116 rfl (lv_at hl 1 rfl) ?_
              refine lv_iconst (v := 1) hx hb dX6_number_117 (by decide) ?_
              refine lv_isub hx hb dX6_number_118 ?_
              refine va_iald hx hb hk.1 hP 1 0 (wM_1 _ _ _) rfl (by rw [c_8]; exact vp_in_nI (n := 4) (by decide) (by decide)) dX6_number_119 ?_
              exact bret_Ri hx hb hr hS hlocks dX6_number_120 (by rw [← hF, F6_number, if_neg c_3, if_neg c_4, if_neg c_5, if_neg c_6, if_neg c_7, if_pos c_8])
            · by_cases c_9 : a1 = 6
              · refine lv_tableIn (off := 67) (tgt := 112) hx hb dX6_number_45 (by rw [c_9]; decide) (by rw [c_9]; decide) (by rw [c_9]; rfl) (by decide) ?_
                refine lv_aload_n hx hb dX6_number_112 rfl (lv_at hl 0 rfl) ?_
                refine va_get (D := D) (ci := 6) (C := RX6) (T := TX6) (N := 16) hx hb hts iX6 hown hk.1 hP 0 (wM_0 _ _ _) rfl 0 (by decide) (hts (.fieldLink RX6 7 "BottleLoopModel" "v" "[I") (List.mem_of_getElem? (i := 1) rfl)) (fun _ h9 => h9) rfl dX6_number_113 ?_
                refine lv_iload_n hx hb dX6_number_116 rfl (lv_at hl 1 rfl) ?_
                refine lv_iconst (v := 1) hx hb dX6_number_117 (by decide) ?_
                refine lv_isub hx hb dX6_number_118 ?_
                refine va_iald hx hb hk.1 hP 1 0 (wM_1 _ _ _) rfl (by rw [c_9]; exact vp_in_nI (n := 5) (by decide) (by decide)) dX6_number_119 ?_
                exact bret_Ri hx hb hr hS hlocks dX6_number_120 (by rw [← hF, F6_number, if_neg c_3, if_neg c_4, if_neg c_5, if_neg c_6, if_neg c_7, if_neg c_8, if_pos c_9])
              · by_cases c_10 : a1 = 7
                · refine lv_tableIn (off := 76) (tgt := 121) hx hb dX6_number_45 (by rw [c_10]; decide) (by rw [c_10]; decide) (by rw [c_10]; rfl) (by decide) ?_
                  refine lv_iload_n hx hb dX6_number_121 rfl (lv_at hl 2 rfl) ?_
                  exact bret_Ri hx hb hr hS hlocks dX6_number_122 (by rw [← hF, F6_number, if_neg c_3, if_neg c_4, if_neg c_5, if_neg c_6, if_neg c_7, if_neg c_8, if_neg c_9, if_pos c_10])
                · by_cases c_11 : a1 = 8
                  · refine lv_tableIn (off := 78) (tgt := 123) hx hb dX6_number_45 (by rw [c_11]; decide) (by rw [c_11]; decide) (by rw [c_11]; rfl) (by decide) ?_
                    refine lv_iload_n hx hb dX6_number_123 rfl (lv_at hl 3 rfl) ?_
                    exact bret_Ri hx hb hr hS hlocks dX6_number_124 (by rw [← hF, F6_number, if_neg c_3, if_neg c_4, if_neg c_5, if_neg c_6, if_neg c_7, if_neg c_8, if_neg c_9, if_neg c_10, if_pos c_11])
                  · by_cases c_12 : a1 = 9
                    · refine lv_tableIn (off := 80) (tgt := 125) hx hb dX6_number_45 (by rw [c_12]; decide) (by rw [c_12]; decide) (by rw [c_12]; rfl) (by decide) ?_
                      refine lv_aload_n hx hb dX6_number_125 rfl (lv_at hl 0 rfl) ?_
                      refine va_get (D := D) (ci := 6) (C := RX6) (T := TX6) (N := 16) hx hb hts iX6 hown hk.1 hP 0 (wM_0 _ _ _) rfl 0 (by decide) (hts (.fieldLink RX6 7 "BottleLoopModel" "v" "[I") (List.mem_of_getElem? (i := 1) rfl)) (fun _ h9 => h9) rfl dX6_number_126 ?_
                      refine lv_bipush (v := 6) hx hb dX6_number_129 (by decide) ?_
                      refine va_iald hx hb hk.1 hP 1 0 (wM_1 _ _ _) rfl (vp_in_nI (n := 6) (by decide) (by decide)) dX6_number_131 ?_
                      refine lv_topi (fun z9 hz9 => ?_)
                      obtain rfl : z9 = (u 0 6) := hz9.trans rfl
                      exact bret_Ri hx hb hr hS hlocks dX6_number_132 (by rw [← hF, F6_number, if_neg c_3, if_neg c_4, if_neg c_5, if_neg c_6, if_neg c_7, if_neg c_8, if_neg c_9, if_neg c_10, if_neg c_11, if_pos c_12])
                    · have hn_45_0 := lv_neT c_3 (a := 0) rfl
                      have hn_45_1 := lv_neT c_4 (a := 1) rfl
                      have hn_45_2 := lv_neT c_5 (a := 2) rfl
                      have hn_45_3 := lv_neT c_6 (a := 3) rfl
                      have hn_45_4 := lv_neT c_7 (a := 4) rfl
                      have hn_45_5 := lv_neT c_8 (a := 5) rfl
                      have hn_45_6 := lv_neT c_9 (a := 6) rfl
                      have hn_45_7 := lv_neT c_10 (a := 7) rfl
                      have hn_45_8 := lv_neT c_11 (a := 8) rfl
                      have hn_45_9 := lv_neT c_12 (a := 9) rfl
                      refine lv_tableOut (tgt := 133) hx hb dX6_number_45 (by omega) (by decide) ?_
                      refine lv_aload_n hx hb dX6_number_133 rfl (lv_at hl 0 rfl) ?_
                      refine va_get (D := D) (ci := 6) (C := RX6) (T := TX6) (N := 16) hx hb hts iX6 hown hk.1 hP 0 (wM_0 _ _ _) rfl 3 (by decide) (hts (.fieldLink RX6 32 "BottleLoopModel" "saves" "I") (List.mem_of_getElem? (i := 2) rfl)) (fun _ h9 => h9) rfl dX6_number_134 ?_
                      exact bret_Ri hx hb hr hS hlocks dX6_number_137 (by rw [← hF, F6_number, if_neg c_3, if_neg c_4, if_neg c_5, if_neg c_6, if_neg c_7, if_neg c_8, if_neg c_9, if_neg c_10, if_neg c_11, if_neg c_12])

def L6_readNumber_5 (a1 : Int32) : bU → Nat → Nat → bU
  | u5, 0, _ => u5
  | u5, n5 + 1, j5 => (if (u5 6 1) ≤ (u5 6 3) then u5 else (if (u5 6 8) = 0 then (if (F6_in (u5 3 (u5 6 3).toNatClampNeg) 49 57) = 0 then u5 else (if a1 < (((10 * (u5 6 8)) + (u5 3 (u5 6 3).toNatClampNeg)) - 48) then u5 else (L6_readNumber_5 a1 (bput (bput u5 6 8 (((10 * (u5 6 8)) + (u5 3 (u5 6 3).toNatClampNeg)) - 48)) 6 3 (((bput u5 6 8 (((10 * (u5 6 8)) + (u5 3 (u5 6 3).toNatClampNeg)) - 48)) 6 3) + 1)) n5 (j5 + 1)))) else (if (F6_in (u5 3 (u5 6 3).toNatClampNeg) 48 57) = 0 then u5 else (if a1 < (((10 * (u5 6 8)) + (u5 3 (u5 6 3).toNatClampNeg)) - 48) then u5 else (L6_readNumber_5 a1 (bput (bput u5 6 8 (((10 * (u5 6 8)) + (u5 3 (u5 6 3).toNatClampNeg)) - 48)) 6 3 (((bput u5 6 8 (((10 * (u5 6 8)) + (u5 3 (u5 6 3).toNatClampNeg)) - 48)) 6 3) + 1)) n5 (j5 + 1))))))
def F6_readNumber (u : bU) (a1 : Int32) : Int32 × bU := (if ((L6_readNumber_5 a1 (bput u 6 8 0) (60 + 1) 0) 6 8) ≤ 0 then (0, (L6_readNumber_5 a1 (bput u 6 8 0) (60 + 1) 0)) else (1, (L6_readNumber_5 a1 (bput u 6 8 0) (60 + 1) 0)))
set_option maxHeartbeats 4000000 in
set_option maxRecDepth 100000 in
theorem C6_readNumber (l : Launch) (D : va_G) (cI : ClassId) (q : Nat → Nat) (u : bU) (H0 : Heap) (hq : bInj 7 q) (hP : va_P D vwCl (wM cI q u) H0) (hI : mInv u) (a1 : Int32) : Met l yX6_readNumber wsX6_readNumber ({ frames := 1, cells := 0, slots := 0, locals := 22 }) (bP D [(cI, .int)] H0 [.ref (q 0), .int a1]) (bWi D (wM cI q) mInv (bA 7 q H0.size) (F6_readNumber u a1)) 0 0 (bA 7 q H0.size) := by
  refine Met.ofW (cc := cX6_readNumber) (maxL := 2) (ret := (some .boolean)) (by decide) rfl ?_
  intro p e s m args below meth c s₁ B hml hv
  obtain ⟨rfl, hH, hk⟩ := hv
  subst hH
  have hx := B.exec
  have hb := B.bytes
  have hr := B.returns
  have hts := atoms_spec (ws := wsX6_readNumber) B.pre
  have hown : s.vm.findClass RX6 = some m.cls := findClass_of_methodNamed B.named
  have hlocks := B.notSynchronized
  have hNB := mNB hI
  have hNS := mNS hI
  have hI0 := hI
  have iX6 : ∀ w ∈ wsX60, w ∈ wsX6_readNumber := by decide +kernel
  have hS : va_S (bA 7 q s.heap.size) s.heap s.heap [] := va_S.rf
  have hl := lv_entry ([.ref (q 0), .int a1]) (n := 2) (Nat.le_of_ble_eq_true rfl)
  rw [lg_entry_eq]
  generalize (lg_sl ([.ref (q 0), .int a1]) ++ List.replicate (2 - (lg_sl ([.ref (q 0), .int a1])).length) Slot.unset).toArray = ls at hl ⊢
  have hl : lv_has ls 2 [(0, .ref (q 0)), (1, .int a1)] := hl
  generalize hF : F6_readNumber u a1 = tgt
  refine lv_aload_n hx hb dX6_readNumber_0 rfl (lv_at hl 0 rfl) ?_
  refine lv_iconst (v := 0) hx hb dX6_readNumber_1 (by decide) ?_
  refine va_put (D := D) (ci := 6) (v := .int 0) (ty := .int) (C := RX6) (T := TX6) (N := 16) hx hb hts iX6 tyX6 tyX6_ok nmX6 hown hk.1 hP (wM_D hq) hS 0 (wM_0 _ _ _) rfl 14 (by decide) (hts (.fieldLink RX6 138 "BottleLoopModel" "number" "I") (List.mem_of_getElem? (i := 1) rfl)) (fun _ h9 => h9) rfl (by decide +kernel) rfl rfl (Nat.le_of_ble_eq_true rfl) dX6_readNumber_2 (fun H locs hP _ hS => ?_)
  have hP : va_P D vwCl (wM cI q (bput u 6 8 0)) H := pM_f8 hP
  have hI_1 : mInv (bput u 6 8 0) := mInv_sc (k := 8) hI (by decide) (by decide) (by decide)
  have hNB5 := mNB hI_1
  have hNS5 := mNS hI_1
  have loop5 : ∀ (n5 j5 : Nat) (u5 : bU) (H : Heap) (locs : List Loc) (ls : Array Slot), j5 ≤ 60 → 60 + 1 ≤ n5 + j5 → mPl j5 u5 → lv_has ls 2 [(0, .ref (q 0)), (1, .int a1)] → va_P D vwCl (wM cI q u5) H → mInv u5 → va_S (bA 7 q s.heap.size) s.heap H locs → ∀ X : bU, L6_readNumber_5 a1 u5 n5 j5 = X → (∀ (H : Heap) (locs : List Loc) (ls : Array Slot), lv_has ls 2 [(0, .ref (q 0)), (1, .int a1)] → va_P D vwCl (wM cI q X) H → mInv X → va_S (bA 7 q s.heap.size) s.heap H locs → W p l e (headSpec wsX6_readNumber ({ frames := 1, cells := 0, slots := 0, locals := 22 })).room s m ([.ref (q 0), .int a1] : List Value).toArray below meth c H locs 0 0 (MQ below (bWi D (wM cI q) mInv (bA 7 q s.heap.size) tgt) ([.ref (q 0), .int a1] : List Value).toArray s 0 0 (bA 7 q s.heap.size)) (F0 m 108 ls [])) → W p l e (headSpec wsX6_readNumber ({ frames := 1, cells := 0, slots := 0, locals := 22 })).room s m ([.ref (q 0), .int a1] : List Value).toArray below meth c H locs 0 0 (MQ below (bWi D (wM cI q) mInv (bA 7 q s.heap.size) tgt) ([.ref (q 0), .int a1] : List Value).toArray s 0 0 (bA 7 q s.heap.size)) (F0 m 5 ls []) := by
    intro n5
    induction n5 with
    | zero => intro j5 u5 H locs ls hj hn; exact absurd hn (by omega)
    | succ n5 ih =>
      intro j5 u5 H locs ls hj hn hinv hl hP hI hS X hF kx
      refine lv_aload_n hx hb dX6_readNumber_5 rfl (lv_at hl 0 rfl) ?_
      refine va_get (D := D) (ci := 6) (C := RX6) (T := TX6) (N := 16) hx hb hts iX6 hown hk.1 hP 0 (wM_0 _ _ _) rfl 9 (by decide) (hts (.fieldLink RX6 132 "BottleLoopModel" "place" "I") (List.mem_of_getElem? (i := 2) rfl)) (fun _ h9 => h9) rfl dX6_readNumber_6 ?_
      refine lv_aload_n hx hb dX6_readNumber_9 rfl (lv_at hl 0 rfl) ?_
      refine va_get (D := D) (ci := 6) (C := RX6) (T := TX6) (N := 16) hx hb hts iX6 hown hk.1 hP 0 (wM_0 _ _ _) rfl 5 (by decide) (hts (.fieldLink RX6 129 "BottleLoopModel" "length" "I") (List.mem_of_getElem? (i := 3) rfl)) (fun _ h9 => h9) rfl dX6_readNumber_10 ?_
      refine lv_icmp_ge (tgt := 108) hx hb dX6_readNumber_13 (by decide) (fun c_2 => ?_) (fun c_2 => ?_)
      · obtain rfl : X = u5 := by rw [← hF, L6_readNumber_5, if_pos c_2]
        exact kx _ _ _ (lv_sub hl [0, 1] rfl) hP hI hS
      · have hlt_3 : j5 < 60 := mPl_lt hI hinv c_2
        refine lv_aload_n hx hb dX6_readNumber_16 rfl (lv_at hl 0 rfl) ?_
        refine va_get (D := D) (ci := 6) (C := RX6) (T := TX6) (N := 16) hx hb hts iX6 hown hk.1 hP 0 (wM_0 _ _ _) rfl 4 (by decide) (hts (.fieldLink RX6 19 "BottleLoopModel" "text" "[I") (List.mem_of_getElem? (i := 4) rfl)) (fun _ h9 => h9) rfl dX6_readNumber_17 ?_
        refine lv_aload_n hx hb dX6_readNumber_20 rfl (lv_at hl 0 rfl) ?_
        refine va_get (D := D) (ci := 6) (C := RX6) (T := TX6) (N := 16) hx hb hts iX6 hown hk.1 hP 0 (wM_0 _ _ _) rfl 9 (by decide) (hts (.fieldLink RX6 132 "BottleLoopModel" "place" "I") (List.mem_of_getElem? (i := 2) rfl)) (fun _ h9 => h9) rfl dX6_readNumber_21 ?_
        refine va_iald hx hb hk.1 hP 4 0 (wM_4 _ _ _) rfl (mXpl hI c_2) dX6_readNumber_24 ?_
        refine lv_aload_n hx hb dX6_readNumber_25 rfl (lv_at hl 0 rfl) ?_
        refine va_get (D := D) (ci := 6) (C := RX6) (T := TX6) (N := 16) hx hb hts iX6 hown hk.1 hP 0 (wM_0 _ _ _) rfl 14 (by decide) (hts (.fieldLink RX6 138 "BottleLoopModel" "number" "I") (List.mem_of_getElem? (i := 1) rfl)) (fun _ h9 => h9) rfl dX6_readNumber_26 ?_
        refine lv_if_ne (tgt := 37) hx hb dX6_readNumber_29 (by decide) (fun c_4 => ?_) (fun c_4 => ?_)
        · refine lv_bipush (v := 48) hx hb dX6_readNumber_37 (by decide) ?_
          refine lv_bipush (v := 57) hx hb dX6_readNumber_39 (by decide) ?_
          refine bcall_Ri (va_runS (As := [.int (u5 3 (u5 6 3).toNatClampNeg), .int 48, .int 57]) (rest := []) ⟨hx, hb, hml, hown, hts⟩ (C6_in l D cI q _ (u5 3 (u5 6 3).toNatClampNeg) 48 57) (va_cwS 3 hts gX6_readNumber_X6_in rfl rfl rfl bd_X6in ⟨Nat.le_of_ble_eq_true rfl, Nat.le_of_ble_eq_true rfl⟩) (bPS hk) rfl rfl hl.1 rfl (lv_room (Nat.le_of_ble_eq_true rfl)) dX6_readNumber_41 ⟨Nat.zero_le _, Nat.zero_le _⟩) hS (fun locs hS => ?_)
          refine lv_if_eq (tgt := 108) hx hb dX6_readNumber_44 (by decide) (fun c_5 => ?_) (fun c_5 => ?_)
          · obtain rfl : X = u5 := by rw [← hF, L6_readNumber_5, if_neg c_2, if_neg c_4, if_pos c_5]
            exact kx _ _ _ (lv_sub hl [0, 1] rfl) hP hI hS
          · refine lv_bipush (v := 10) hx hb dX6_readNumber_47 (by decide) ?_
            refine lv_aload_n hx hb dX6_readNumber_49 rfl (lv_at hl 0 rfl) ?_
            refine va_get (D := D) (ci := 6) (C := RX6) (T := TX6) (N := 16) hx hb hts iX6 hown hk.1 hP 0 (wM_0 _ _ _) rfl 14 (by decide) (hts (.fieldLink RX6 138 "BottleLoopModel" "number" "I") (List.mem_of_getElem? (i := 1) rfl)) (fun _ h9 => h9) rfl dX6_readNumber_50 ?_
            refine lv_imul hx hb dX6_readNumber_53 ?_
            refine lv_aload_n hx hb dX6_readNumber_54 rfl (lv_at hl 0 rfl) ?_
            refine va_get (D := D) (ci := 6) (C := RX6) (T := TX6) (N := 16) hx hb hts iX6 hown hk.1 hP 0 (wM_0 _ _ _) rfl 4 (by decide) (hts (.fieldLink RX6 19 "BottleLoopModel" "text" "[I") (List.mem_of_getElem? (i := 4) rfl)) (fun _ h9 => h9) rfl dX6_readNumber_55 ?_
            refine lv_aload_n hx hb dX6_readNumber_58 rfl (lv_at hl 0 rfl) ?_
            refine va_get (D := D) (ci := 6) (C := RX6) (T := TX6) (N := 16) hx hb hts iX6 hown hk.1 hP 0 (wM_0 _ _ _) rfl 9 (by decide) (hts (.fieldLink RX6 132 "BottleLoopModel" "place" "I") (List.mem_of_getElem? (i := 2) rfl)) (fun _ h9 => h9) rfl dX6_readNumber_59 ?_
            refine va_iald hx hb hk.1 hP 4 0 (wM_4 _ _ _) rfl (mXpl hI c_2) dX6_readNumber_62 ?_
            refine lv_iadd hx hb dX6_readNumber_63 ?_
            refine lv_bipush (v := 48) hx hb dX6_readNumber_64 (by decide) ?_
            refine lv_isub hx hb dX6_readNumber_66 ?_
            refine lv_iload_n hx hb dX6_readNumber_67 rfl (lv_at hl 1 rfl) ?_
            refine lv_icmp_gt (tgt := 108) hx hb dX6_readNumber_68 (by decide) (fun c_6 => ?_) (fun c_6 => ?_)
            · obtain rfl : X = u5 := by rw [← hF, L6_readNumber_5, if_neg c_2, if_neg c_4, if_neg c_5, if_pos c_6]
              exact kx _ _ _ (lv_sub hl [0, 1] rfl) hP hI hS
            · refine lv_aload_n hx hb dX6_readNumber_71 rfl (lv_at hl 0 rfl) ?_
              refine lv_bipush (v := 10) hx hb dX6_readNumber_72 (by decide) ?_
              refine lv_aload_n hx hb dX6_readNumber_74 rfl (lv_at hl 0 rfl) ?_
              refine va_get (D := D) (ci := 6) (C := RX6) (T := TX6) (N := 16) hx hb hts iX6 hown hk.1 hP 0 (wM_0 _ _ _) rfl 14 (by decide) (hts (.fieldLink RX6 138 "BottleLoopModel" "number" "I") (List.mem_of_getElem? (i := 1) rfl)) (fun _ h9 => h9) rfl dX6_readNumber_75 ?_
              refine lv_imul hx hb dX6_readNumber_78 ?_
              refine lv_aload_n hx hb dX6_readNumber_79 rfl (lv_at hl 0 rfl) ?_
              refine va_get (D := D) (ci := 6) (C := RX6) (T := TX6) (N := 16) hx hb hts iX6 hown hk.1 hP 0 (wM_0 _ _ _) rfl 4 (by decide) (hts (.fieldLink RX6 19 "BottleLoopModel" "text" "[I") (List.mem_of_getElem? (i := 4) rfl)) (fun _ h9 => h9) rfl dX6_readNumber_80 ?_
              refine lv_aload_n hx hb dX6_readNumber_83 rfl (lv_at hl 0 rfl) ?_
              refine va_get (D := D) (ci := 6) (C := RX6) (T := TX6) (N := 16) hx hb hts iX6 hown hk.1 hP 0 (wM_0 _ _ _) rfl 9 (by decide) (hts (.fieldLink RX6 132 "BottleLoopModel" "place" "I") (List.mem_of_getElem? (i := 2) rfl)) (fun _ h9 => h9) rfl dX6_readNumber_84 ?_
              refine va_iald hx hb hk.1 hP 4 0 (wM_4 _ _ _) rfl (mXpl hI c_2) dX6_readNumber_87 ?_
              refine lv_iadd hx hb dX6_readNumber_88 ?_
              refine lv_bipush (v := 48) hx hb dX6_readNumber_89 (by decide) ?_
              refine lv_isub hx hb dX6_readNumber_91 ?_
              refine va_put (D := D) (ci := 6) (v := .int (((10 * (u5 6 8)) + (u5 3 (u5 6 3).toNatClampNeg)) - 48)) (ty := .int) (C := RX6) (T := TX6) (N := 16) hx hb hts iX6 tyX6 tyX6_ok nmX6 hown hk.1 hP (wM_D hq) hS 0 (wM_0 _ _ _) rfl 14 (by decide) (hts (.fieldLink RX6 138 "BottleLoopModel" "number" "I") (List.mem_of_getElem? (i := 1) rfl)) (fun _ h9 => h9) rfl (by decide +kernel) rfl rfl (Nat.le_of_ble_eq_true rfl) dX6_readNumber_92 (fun H locs hP _ hS => ?_)
              have hP : va_P D vwCl (wM cI q (bput u5 6 8 (((10 * (u5 6 8)) + (u5 3 (u5 6 3).toNatClampNeg)) - 48))) H := pM_f8 hP
              have hI_7 : mInv (bput u5 6 8 (((10 * (u5 6 8)) + (u5 3 (u5 6 3).toNatClampNeg)) - 48)) := mInv_sc (k := 8) hI (by decide) (by decide) (by decide)
              refine lv_aload_n hx hb dX6_readNumber_95 rfl (lv_at hl 0 rfl) ?_
              refine lv_dup hx hb dX6_readNumber_96 rfl ?_
              refine va_get (D := D) (ci := 6) (C := RX6) (T := TX6) (N := 16) hx hb hts iX6 hown hk.1 hP 0 (wM_0 _ _ _) rfl 9 (by decide) (hts (.fieldLink RX6 132 "BottleLoopModel" "place" "I") (List.mem_of_getElem? (i := 2) rfl)) (fun _ h9 => h9) rfl dX6_readNumber_97 ?_
              refine lv_iconst (v := 1) hx hb dX6_readNumber_100 (by decide) ?_
              refine lv_iadd hx hb dX6_readNumber_101 ?_
              refine va_put (D := D) (ci := 6) (v := .int (((bput u5 6 8 (((10 * (u5 6 8)) + (u5 3 (u5 6 3).toNatClampNeg)) - 48)) 6 3) + 1)) (ty := .int) (C := RX6) (T := TX6) (N := 16) hx hb hts iX6 tyX6 tyX6_ok nmX6 hown hk.1 hP (wM_D hq) hS 0 (wM_0 _ _ _) rfl 9 (by decide) (hts (.fieldLink RX6 132 "BottleLoopModel" "place" "I") (List.mem_of_getElem? (i := 2) rfl)) (fun _ h9 => h9) rfl (by decide +kernel) rfl rfl (Nat.le_of_ble_eq_true rfl) dX6_readNumber_102 (fun H locs hP _ hS => ?_)
              have hP : va_P D vwCl (wM cI q (bput (bput u5 6 8 (((10 * (u5 6 8)) + (u5 3 (u5 6 3).toNatClampNeg)) - 48)) 6 3 (((bput u5 6 8 (((10 * (u5 6 8)) + (u5 3 (u5 6 3).toNatClampNeg)) - 48)) 6 3) + 1))) H := pM_f3 hP
              have hI_8 : mInv (bput (bput u5 6 8 (((10 * (u5 6 8)) + (u5 3 (u5 6 3).toNatClampNeg)) - 48)) 6 3 (((bput u5 6 8 (((10 * (u5 6 8)) + (u5 3 (u5 6 3).toNatClampNeg)) - 48)) 6 3) + 1)) := mInv_pl1 hI_7 c_2
              refine lv_goto (tgt := 5) hx hb dX6_readNumber_105 (by decide) ?_
              exact ih (j5 + 1)  (bput (bput u5 6 8 (((10 * (u5 6 8)) + (u5 3 (u5 6 3).toNatClampNeg)) - 48)) 6 3 (((bput u5 6 8 (((10 * (u5 6 8)) + (u5 3 (u5 6 3).toNatClampNeg)) - 48)) 6 3) + 1)) _ _ _ (by omega) (by omega) (mPl_step hI_7 hinv c_2) (lv_sub hl [0, 1] rfl) hP hI_8 hS X (by rw [← hF, L6_readNumber_5, if_neg c_2, if_neg c_4, if_neg c_5, if_neg c_6]) kx
        · refine lv_bipush (v := 49) hx hb dX6_readNumber_32 (by decide) ?_
          refine lv_goto (tgt := 39) hx hb dX6_readNumber_34 (by decide) ?_
          refine lv_bipush (v := 57) hx hb dX6_readNumber_39 (by decide) ?_
          refine bcall_Ri (va_runS (As := [.int (u5 3 (u5 6 3).toNatClampNeg), .int 49, .int 57]) (rest := []) ⟨hx, hb, hml, hown, hts⟩ (C6_in l D cI q _ (u5 3 (u5 6 3).toNatClampNeg) 49 57) (va_cwS 3 hts gX6_readNumber_X6_in rfl rfl rfl bd_X6in ⟨Nat.le_of_ble_eq_true rfl, Nat.le_of_ble_eq_true rfl⟩) (bPS hk) rfl rfl hl.1 rfl (lv_room (Nat.le_of_ble_eq_true rfl)) dX6_readNumber_41 ⟨Nat.zero_le _, Nat.zero_le _⟩) hS (fun locs hS => ?_)
          refine lv_if_eq (tgt := 108) hx hb dX6_readNumber_44 (by decide) (fun c_9 => ?_) (fun c_9 => ?_)
          · obtain rfl : X = u5 := by rw [← hF, L6_readNumber_5, if_neg c_2, if_pos c_4, if_pos c_9]
            exact kx _ _ _ (lv_sub hl [0, 1] rfl) hP hI hS
          · refine lv_bipush (v := 10) hx hb dX6_readNumber_47 (by decide) ?_
            refine lv_aload_n hx hb dX6_readNumber_49 rfl (lv_at hl 0 rfl) ?_
            refine va_get (D := D) (ci := 6) (C := RX6) (T := TX6) (N := 16) hx hb hts iX6 hown hk.1 hP 0 (wM_0 _ _ _) rfl 14 (by decide) (hts (.fieldLink RX6 138 "BottleLoopModel" "number" "I") (List.mem_of_getElem? (i := 1) rfl)) (fun _ h9 => h9) rfl dX6_readNumber_50 ?_
            refine lv_imul hx hb dX6_readNumber_53 ?_
            refine lv_aload_n hx hb dX6_readNumber_54 rfl (lv_at hl 0 rfl) ?_
            refine va_get (D := D) (ci := 6) (C := RX6) (T := TX6) (N := 16) hx hb hts iX6 hown hk.1 hP 0 (wM_0 _ _ _) rfl 4 (by decide) (hts (.fieldLink RX6 19 "BottleLoopModel" "text" "[I") (List.mem_of_getElem? (i := 4) rfl)) (fun _ h9 => h9) rfl dX6_readNumber_55 ?_
            refine lv_aload_n hx hb dX6_readNumber_58 rfl (lv_at hl 0 rfl) ?_
            refine va_get (D := D) (ci := 6) (C := RX6) (T := TX6) (N := 16) hx hb hts iX6 hown hk.1 hP 0 (wM_0 _ _ _) rfl 9 (by decide) (hts (.fieldLink RX6 132 "BottleLoopModel" "place" "I") (List.mem_of_getElem? (i := 2) rfl)) (fun _ h9 => h9) rfl dX6_readNumber_59 ?_
            refine va_iald hx hb hk.1 hP 4 0 (wM_4 _ _ _) rfl (mXpl hI c_2) dX6_readNumber_62 ?_
            refine lv_iadd hx hb dX6_readNumber_63 ?_
            refine lv_bipush (v := 48) hx hb dX6_readNumber_64 (by decide) ?_
            refine lv_isub hx hb dX6_readNumber_66 ?_
            refine lv_iload_n hx hb dX6_readNumber_67 rfl (lv_at hl 1 rfl) ?_
            refine lv_icmp_gt (tgt := 108) hx hb dX6_readNumber_68 (by decide) (fun c_10 => ?_) (fun c_10 => ?_)
            · obtain rfl : X = u5 := by rw [← hF, L6_readNumber_5, if_neg c_2, if_pos c_4, if_neg c_9, if_pos c_10]
              exact kx _ _ _ (lv_sub hl [0, 1] rfl) hP hI hS
            · refine lv_aload_n hx hb dX6_readNumber_71 rfl (lv_at hl 0 rfl) ?_
              refine lv_bipush (v := 10) hx hb dX6_readNumber_72 (by decide) ?_
              refine lv_aload_n hx hb dX6_readNumber_74 rfl (lv_at hl 0 rfl) ?_
              refine va_get (D := D) (ci := 6) (C := RX6) (T := TX6) (N := 16) hx hb hts iX6 hown hk.1 hP 0 (wM_0 _ _ _) rfl 14 (by decide) (hts (.fieldLink RX6 138 "BottleLoopModel" "number" "I") (List.mem_of_getElem? (i := 1) rfl)) (fun _ h9 => h9) rfl dX6_readNumber_75 ?_
              refine lv_imul hx hb dX6_readNumber_78 ?_
              refine lv_aload_n hx hb dX6_readNumber_79 rfl (lv_at hl 0 rfl) ?_
              refine va_get (D := D) (ci := 6) (C := RX6) (T := TX6) (N := 16) hx hb hts iX6 hown hk.1 hP 0 (wM_0 _ _ _) rfl 4 (by decide) (hts (.fieldLink RX6 19 "BottleLoopModel" "text" "[I") (List.mem_of_getElem? (i := 4) rfl)) (fun _ h9 => h9) rfl dX6_readNumber_80 ?_
              refine lv_aload_n hx hb dX6_readNumber_83 rfl (lv_at hl 0 rfl) ?_
              refine va_get (D := D) (ci := 6) (C := RX6) (T := TX6) (N := 16) hx hb hts iX6 hown hk.1 hP 0 (wM_0 _ _ _) rfl 9 (by decide) (hts (.fieldLink RX6 132 "BottleLoopModel" "place" "I") (List.mem_of_getElem? (i := 2) rfl)) (fun _ h9 => h9) rfl dX6_readNumber_84 ?_
              refine va_iald hx hb hk.1 hP 4 0 (wM_4 _ _ _) rfl (mXpl hI c_2) dX6_readNumber_87 ?_
              refine lv_iadd hx hb dX6_readNumber_88 ?_
              refine lv_bipush (v := 48) hx hb dX6_readNumber_89 (by decide) ?_
              refine lv_isub hx hb dX6_readNumber_91 ?_
              refine va_put (D := D) (ci := 6) (v := .int (((10 * (u5 6 8)) + (u5 3 (u5 6 3).toNatClampNeg)) - 48)) (ty := .int) (C := RX6) (T := TX6) (N := 16) hx hb hts iX6 tyX6 tyX6_ok nmX6 hown hk.1 hP (wM_D hq) hS 0 (wM_0 _ _ _) rfl 14 (by decide) (hts (.fieldLink RX6 138 "BottleLoopModel" "number" "I") (List.mem_of_getElem? (i := 1) rfl)) (fun _ h9 => h9) rfl (by decide +kernel) rfl rfl (Nat.le_of_ble_eq_true rfl) dX6_readNumber_92 (fun H locs hP _ hS => ?_)
              have hP : va_P D vwCl (wM cI q (bput u5 6 8 (((10 * (u5 6 8)) + (u5 3 (u5 6 3).toNatClampNeg)) - 48))) H := pM_f8 hP
              have hI_11 : mInv (bput u5 6 8 (((10 * (u5 6 8)) + (u5 3 (u5 6 3).toNatClampNeg)) - 48)) := mInv_sc (k := 8) hI (by decide) (by decide) (by decide)
              refine lv_aload_n hx hb dX6_readNumber_95 rfl (lv_at hl 0 rfl) ?_
              refine lv_dup hx hb dX6_readNumber_96 rfl ?_
              refine va_get (D := D) (ci := 6) (C := RX6) (T := TX6) (N := 16) hx hb hts iX6 hown hk.1 hP 0 (wM_0 _ _ _) rfl 9 (by decide) (hts (.fieldLink RX6 132 "BottleLoopModel" "place" "I") (List.mem_of_getElem? (i := 2) rfl)) (fun _ h9 => h9) rfl dX6_readNumber_97 ?_
              refine lv_iconst (v := 1) hx hb dX6_readNumber_100 (by decide) ?_
              refine lv_iadd hx hb dX6_readNumber_101 ?_
              refine va_put (D := D) (ci := 6) (v := .int (((bput u5 6 8 (((10 * (u5 6 8)) + (u5 3 (u5 6 3).toNatClampNeg)) - 48)) 6 3) + 1)) (ty := .int) (C := RX6) (T := TX6) (N := 16) hx hb hts iX6 tyX6 tyX6_ok nmX6 hown hk.1 hP (wM_D hq) hS 0 (wM_0 _ _ _) rfl 9 (by decide) (hts (.fieldLink RX6 132 "BottleLoopModel" "place" "I") (List.mem_of_getElem? (i := 2) rfl)) (fun _ h9 => h9) rfl (by decide +kernel) rfl rfl (Nat.le_of_ble_eq_true rfl) dX6_readNumber_102 (fun H locs hP _ hS => ?_)
              have hP : va_P D vwCl (wM cI q (bput (bput u5 6 8 (((10 * (u5 6 8)) + (u5 3 (u5 6 3).toNatClampNeg)) - 48)) 6 3 (((bput u5 6 8 (((10 * (u5 6 8)) + (u5 3 (u5 6 3).toNatClampNeg)) - 48)) 6 3) + 1))) H := pM_f3 hP
              have hI_12 : mInv (bput (bput u5 6 8 (((10 * (u5 6 8)) + (u5 3 (u5 6 3).toNatClampNeg)) - 48)) 6 3 (((bput u5 6 8 (((10 * (u5 6 8)) + (u5 3 (u5 6 3).toNatClampNeg)) - 48)) 6 3) + 1)) := mInv_pl1 hI_11 c_2
              refine lv_goto (tgt := 5) hx hb dX6_readNumber_105 (by decide) ?_
              exact ih (j5 + 1)  (bput (bput u5 6 8 (((10 * (u5 6 8)) + (u5 3 (u5 6 3).toNatClampNeg)) - 48)) 6 3 (((bput u5 6 8 (((10 * (u5 6 8)) + (u5 3 (u5 6 3).toNatClampNeg)) - 48)) 6 3) + 1)) _ _ _ (by omega) (by omega) (mPl_step hI_11 hinv c_2) (lv_sub hl [0, 1] rfl) hP hI_12 hS X (by rw [← hF, L6_readNumber_5, if_neg c_2, if_pos c_4, if_neg c_9, if_neg c_10]) kx
  refine loop5 (60 + 1) 0  (bput u 6 8 0) _ _ _ (by omega) (by omega) (mPl_0 hI_1) (lv_sub hl [0, 1] rfl) hP hI_1 hS _ rfl (fun H locs ls hl hP hI hS => ?_)
  have hI_13 : mInv (L6_readNumber_5 a1 (bput u 6 8 0) (60 + 1) 0) := hI
  refine lv_aload_n hx hb dX6_readNumber_108 rfl (lv_at hl 0 rfl) ?_
  refine va_get (D := D) (ci := 6) (C := RX6) (T := TX6) (N := 16) hx hb hts iX6 hown hk.1 hP 0 (wM_0 _ _ _) rfl 14 (by decide) (hts (.fieldLink RX6 138 "BottleLoopModel" "number" "I") (List.mem_of_getElem? (i := 1) rfl)) (fun _ h9 => h9) rfl dX6_readNumber_109 ?_
  refine lv_if_le (tgt := 119) hx hb dX6_readNumber_112 (by decide) (fun c_14 => ?_) (fun c_14 => ?_)
  · refine lv_iconst (v := 0) hx hb dX6_readNumber_119 (by decide) ?_
    exact bret_Wz hx hb hr hP hI_13 hS hlocks dX6_readNumber_120 (Or.inl rfl) (by rw [← hF, F6_readNumber, if_pos c_14])
  · refine lv_iconst (v := 1) hx hb dX6_readNumber_115 (by decide) ?_
    refine lv_goto (tgt := 120) hx hb dX6_readNumber_116 (by decide) ?_
    exact bret_Wz hx hb hr hP hI_13 hS hlocks dX6_readNumber_120 (Or.inr rfl) (by rw [← hF, F6_readNumber, if_neg c_14])
theorem B6_readNumber (u : bU) (a1 : Int32) : (F6_readNumber u a1).1 = 0 ∨ (F6_readNumber u a1).1 = 1 := by
  unfold F6_readNumber
  (repeat' split) <;> first | exact Or.inl rfl | exact Or.inr rfl | exact (B6_in (u5 3 (u5 6 3).toNatClampNeg) 48 57) | exact (B6_in (u5 3 (u5 6 3).toNatClampNeg) 49 57)

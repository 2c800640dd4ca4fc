def F6_againstOrder (u : bU) : Int32 := (if (u 6 5) = (100 : Int32) then (if (F6_isShop u (u 6 7)) = 0 then 4 else (if (F6_isBrand u (u 6 6)) = 0 then 4 else (F6_againstDeliver u (u 6 6) (u 6 7) (u 6 8)))) else (if (F6_isShop u (u 6 6)) = 0 then 4 else (if (u 6 5) = (99 : Int32) then (F6_againstCollect u (u 6 6) (u 6 7) (u 6 8)) else (if (F6_isBrand u (u 6 7)) = 0 then 4 else (if (u 6 5) = 98 then (F6_againstBreak u (u 6 6) (u 6 7) (u 6 8)) else (if (u 6 5) = 100 then (F6_againstDeliver u (u 6 7) (u 6 6) (u 6 8)) else (if (u 6 5) = 114 then (F6_againstTakeBack u (u 6 6) (u 6 7) (u 6 8)) else (if (u 6 5) = 115 then (F6_againstSell u (u 6 6) (u 6 7) (u 6 8)) else (F6_againstCollect u (u 6 6) (u 6 7) (u 6 8))))))))))
set_option maxHeartbeats 4000000 in
set_option maxRecDepth 100000 in
theorem C6_againstOrder (l : Launch) (D : va_G) (cI : ClassId) (q : Nat → Nat) (u : bU) (H0 : Heap) (hP : va_P D vwCl (wM cI q u) H0) (hI : mInv u) : Met l yX6_againstOrder wsX6_againstOrder ({ frames := 4, cells := 0, slots := 0, locals := 90 }) (bP D [(cI, .int)] H0 [.ref (q 0)]) (bRi H0 (F6_againstOrder u)) 0 0 (fun _ => False) := by
  refine Met.ofW (cc := cX6_againstOrder) (maxL := 4) (ret := (some .int)) (by decide) rfl ?_
  intro p e s m args below meth c s₁ B hml hv
  obtain ⟨rfl, hH, hk⟩ := hv
  subst hH
  have hx := B.exec
  have hb := B.bytes
  have hr := B.returns
  have hts := atoms_spec (ws := wsX6_againstOrder) B.pre
  have hown : s.vm.findClass RX6 = some m.cls := findClass_of_methodNamed B.named
  have hlocks := B.notSynchronized
  have hNB := mNB hI
  have hNS := mNS hI
  have hI0 := hI
  have iX6 : ∀ w ∈ wsX60, w ∈ wsX6_againstOrder := by decide +kernel
  have hS : va_S (fun _ => False) s.heap s.heap [] := va_S.rf
  have hl := lv_entry ([.ref (q 0)]) (n := 4) (Nat.le_of_ble_eq_true rfl)
  rw [lg_entry_eq]
  generalize (lg_sl ([.ref (q 0)]) ++ List.replicate (4 - (lg_sl ([.ref (q 0)])).length) Slot.unset).toArray = ls at hl ⊢
  have hl : lv_has ls 4 [(0, .ref (q 0))] := hl
  generalize hF : F6_againstOrder u = tgt
  refine lv_aload_n hx hb dX6_againstOrder_0 rfl (lv_at hl 0 rfl) ?_
  refine va_get (D := D) (ci := 6) (C := RX6) (T := TX6) (N := 16) hx hb hts iX6 hown hk.1 hP 0 (wM_0 _ _ _) rfl 11 (by decide) (hts (.fieldLink RX6 145 "BottleLoopModel" "letter" "I") (List.mem_of_getElem? (i := 1) rfl)) (fun _ h9 => h9) rfl dX6_againstOrder_1 ?_
  refine lv_bipush (v := 100) hx hb dX6_againstOrder_4 (by decide) ?_
  refine lv_icmp_ne (tgt := 13) hx hb dX6_againstOrder_6 (by decide) (fun c_1 => ?_) (fun c_1 => ?_)
  · refine lv_iconst (v := 0) hx hb dX6_againstOrder_13 (by decide) ?_
    refine lv_istore_n (lv' := [(1, .int 0), (0, .ref (q 0))]) hx hb dX6_againstOrder_14 rfl hl (by decide) rfl (fun ls hl => ?_)
    refine lv_iload_n hx hb dX6_againstOrder_15 rfl (lv_at hl 0 rfl) ?_
    refine lv_if_eq (tgt := 26) hx hb dX6_againstOrder_16 (by decide) (fun _ => ?_) (fun h9 => absurd (by decide) h9)
    refine lv_aload_n hx hb dX6_againstOrder_26 rfl (lv_at hl 1 rfl) ?_
    refine va_get (D := D) (ci := 6) (C := RX6) (T := TX6) (N := 16) hx hb hts iX6 hown hk.1 hP 0 (wM_0 _ _ _) rfl 12 (by decide) (hts (.fieldLink RX6 151 "BottleLoopModel" "one" "I") (List.mem_of_getElem? (i := 3) rfl)) (fun _ h9 => h9) rfl dX6_againstOrder_27 ?_
    refine lv_istore_n (lv' := [(2, .int (u 6 6)), (1, .int 0), (0, .ref (q 0))]) hx hb dX6_againstOrder_30 rfl hl (by decide) rfl (fun ls hl => ?_)
    refine lv_iload_n hx hb dX6_againstOrder_31 rfl (lv_at hl 1 rfl) ?_
    refine lv_if_eq (tgt := 42) hx hb dX6_againstOrder_32 (by decide) (fun _ => ?_) (fun h9 => absurd (by decide) h9)
    refine lv_aload_n hx hb dX6_againstOrder_42 rfl (lv_at hl 2 rfl) ?_
    refine va_get (D := D) (ci := 6) (C := RX6) (T := TX6) (N := 16) hx hb hts iX6 hown hk.1 hP 0 (wM_0 _ _ _) rfl 13 (by decide) (hts (.fieldLink RX6 157 "BottleLoopModel" "other" "I") (List.mem_of_getElem? (i := 2) rfl)) (fun _ h9 => h9) rfl dX6_againstOrder_43 ?_
    refine lv_istore_n (lv' := [(3, .int (u 6 7)), (2, .int (u 6 6)), (1, .int 0), (0, .ref (q 0))]) hx hb dX6_againstOrder_46 rfl hl (by decide) rfl (fun ls hl => ?_)
    refine lv_aload_n hx hb dX6_againstOrder_47 rfl (lv_at hl 3 rfl) ?_
    refine lv_iload_n hx hb dX6_againstOrder_48 rfl (lv_at hl 1 rfl) ?_
    refine bcall_Ri (va_runV (As := [.int (u 6 6)]) (rest := []) ⟨hx, hb, hml, hown, hts⟩ (C6_isShop l D cI q _ _ hP hI (u 6 6)) (cwV 1 hts gX6_againstOrder_X6_isShop rfl rfl rfl ⟨rfl, bd_X6isShop⟩ ⟨Nat.le_of_ble_eq_true rfl, Nat.le_of_ble_eq_true rfl⟩) (bPV hk (va_recv hk.1 hP (ci := 6) (q0 := 0) rfl (wM_0 _ _ _))) rfl rfl hl.1 rfl (lv_room (Nat.le_of_ble_eq_true rfl)) dX6_againstOrder_49 ⟨Nat.zero_le _, Nat.zero_le _⟩) hS (fun locs hS => ?_)
    refine lv_if_eq (tgt := 72) hx hb dX6_againstOrder_52 (by decide) (fun c_2 => ?_) (fun c_2 => ?_)
    · refine lv_iconst (v := 4) hx hb dX6_againstOrder_72 (by decide) ?_
      exact bret_Ri hx hb hr hS hlocks dX6_againstOrder_73 (by rw [← hF, F6_againstOrder, if_neg c_1, if_pos c_2])
    · have hm_3 : mS (u 6 6) := mS_is hI c_2
      refine lv_aload_n hx hb dX6_againstOrder_55 rfl (lv_at hl 3 rfl) ?_
      refine va_get (D := D) (ci := 6) (C := RX6) (T := TX6) (N := 16) hx hb hts iX6 hown hk.1 hP 0 (wM_0 _ _ _) rfl 11 (by decide) (hts (.fieldLink RX6 145 "BottleLoopModel" "letter" "I") (List.mem_of_getElem? (i := 1) rfl)) (fun _ h9 => h9) rfl dX6_againstOrder_56 ?_
      refine lv_bipush (v := 99) hx hb dX6_againstOrder_59 (by decide) ?_
      refine lv_icmp_eq (tgt := 74) hx hb dX6_againstOrder_61 (by decide) (fun c_4 => ?_) (fun c_4 => ?_)
      · refine lv_aload_n hx hb dX6_againstOrder_74 rfl (lv_at hl 3 rfl) ?_
        refine va_get (D := D) (ci := 6) (C := RX6) (T := TX6) (N := 16) hx hb hts iX6 hown hk.1 hP 0 (wM_0 _ _ _) rfl 11 (by decide) (hts (.fieldLink RX6 145 "BottleLoopModel" "letter" "I") (List.mem_of_getElem? (i := 1) rfl)) (fun _ h9 => h9) rfl dX6_againstOrder_75 ?_
        refine lv_lookup (off := 86) (tgt := 164) hx hb dX6_againstOrder_78 (by decide) (by rw [c_4]; decide) (by decide) ?_
        refine lv_aload_n hx hb dX6_againstOrder_164 rfl (lv_at hl 3 rfl) ?_
        refine lv_iload_n hx hb dX6_againstOrder_165 rfl (lv_at hl 1 rfl) ?_
        refine lv_iload_n hx hb dX6_againstOrder_166 rfl (lv_at hl 0 rfl) ?_
        refine lv_aload_n hx hb dX6_againstOrder_167 rfl (lv_at hl 3 rfl) ?_
        refine va_get (D := D) (ci := 6) (C := RX6) (T := TX6) (N := 16) hx hb hts iX6 hown hk.1 hP 0 (wM_0 _ _ _) rfl 14 (by decide) (hts (.fieldLink RX6 138 "BottleLoopModel" "number" "I") (List.mem_of_getElem? (i := 4) rfl)) (fun _ h9 => h9) rfl dX6_againstOrder_168 ?_
        refine bcall_Ri (va_runV (As := [.int (u 6 6), .int (u 6 7), .int (u 6 8)]) (rest := []) ⟨hx, hb, hml, hown, hts⟩ (C6_againstCollect l D cI q _ _ hP hI (u 6 6) (u 6 7) (u 6 8) hm_3) (cwV 3 hts gX6_againstOrder_X6_againstCollect rfl rfl rfl ⟨rfl, bd_X6againstCollect⟩ ⟨Nat.le_of_ble_eq_true rfl, Nat.le_of_ble_eq_true rfl⟩) (bPV hk (va_recv hk.1 hP (ci := 6) (q0 := 0) rfl (wM_0 _ _ _))) rfl rfl hl.1 rfl (lv_room (Nat.le_of_ble_eq_true rfl)) dX6_againstOrder_171 ⟨Nat.zero_le _, Nat.zero_le _⟩) hS (fun locs hS => ?_)
        exact bret_Ri hx hb hr hS hlocks dX6_againstOrder_174 (by rw [← hF, F6_againstOrder, if_neg c_1, if_neg c_2, if_pos c_4])
      · refine lv_aload_n hx hb dX6_againstOrder_64 rfl (lv_at hl 3 rfl) ?_
        refine lv_iload_n hx hb dX6_againstOrder_65 rfl (lv_at hl 0 rfl) ?_
        refine bcall_Ri (va_runV (As := [.int (u 6 7)]) (rest := []) ⟨hx, hb, hml, hown, hts⟩ (C6_isBrand l D cI q _ _ hP hI (u 6 7)) (cwV 1 hts gX6_againstOrder_X6_isBrand rfl rfl rfl ⟨rfl, bd_X6isBrand⟩ ⟨Nat.le_of_ble_eq_true rfl, Nat.le_of_ble_eq_true rfl⟩) (bPV hk (va_recv hk.1 hP (ci := 6) (q0 := 0) rfl (wM_0 _ _ _))) rfl rfl hl.1 rfl (lv_room (Nat.le_of_ble_eq_true rfl)) dX6_againstOrder_66 ⟨Nat.zero_le _, Nat.zero_le _⟩) hS (fun locs hS => ?_)
        refine lv_if_ne (tgt := 74) hx hb dX6_againstOrder_69 (by decide) (fun c_5 => ?_) (fun c_5 => ?_)
        · have hm_6 : mB (u 6 7) := mB_is hI c_5
          refine lv_aload_n hx hb dX6_againstOrder_74 rfl (lv_at hl 3 rfl) ?_
          refine va_get (D := D) (ci := 6) (C := RX6) (T := TX6) (N := 16) hx hb hts iX6 hown hk.1 hP 0 (wM_0 _ _ _) rfl 11 (by decide) (hts (.fieldLink RX6 145 "BottleLoopModel" "letter" "I") (List.mem_of_getElem? (i := 1) rfl)) (fun _ h9 => h9) rfl dX6_againstOrder_75 ?_
          by_cases c_7 : (u 6 5) = 98
          · refine lv_lookup (off := 75) (tgt := 153) hx hb dX6_againstOrder_78 (by decide) (by rw [c_7]; decide) (by decide) ?_
            refine lv_aload_n hx hb dX6_againstOrder_153 rfl (lv_at hl 3 rfl) ?_
            refine lv_iload_n hx hb dX6_againstOrder_154 rfl (lv_at hl 1 rfl) ?_
            refine lv_iload_n hx hb dX6_againstOrder_155 rfl (lv_at hl 0 rfl) ?_
            refine lv_aload_n hx hb dX6_againstOrder_156 rfl (lv_at hl 3 rfl) ?_
            refine va_get (D := D) (ci := 6) (C := RX6) (T := TX6) (N := 16) hx hb hts iX6 hown hk.1 hP 0 (wM_0 _ _ _) rfl 14 (by decide) (hts (.fieldLink RX6 138 "BottleLoopModel" "number" "I") (List.mem_of_getElem? (i := 4) rfl)) (fun _ h9 => h9) rfl dX6_againstOrder_157 ?_
            refine bcall_Ri (va_runV (As := [.int (u 6 6), .int (u 6 7), .int (u 6 8)]) (rest := []) ⟨hx, hb, hml, hown, hts⟩ (C6_againstBreak l D cI q _ _ hP hI (u 6 6) (u 6 7) (u 6 8) hm_3 hm_6) (cwV 3 hts gX6_againstOrder_X6_againstBreak rfl rfl rfl ⟨rfl, bd_X6againstBreak⟩ ⟨Nat.le_of_ble_eq_true rfl, Nat.le_of_ble_eq_true rfl⟩) (bPV hk (va_recv hk.1 hP (ci := 6) (q0 := 0) rfl (wM_0 _ _ _))) rfl rfl hl.1 rfl (lv_room (Nat.le_of_ble_eq_true rfl)) dX6_againstOrder_160 ⟨Nat.zero_le _, Nat.zero_le _⟩) hS (fun locs hS => ?_)
            exact bret_Ri hx hb hr hS hlocks dX6_againstOrder_163 (by rw [← hF, F6_againstOrder, if_neg c_1, if_neg c_2, if_neg c_4, if_neg c_5, if_pos c_7])
          · by_cases c_8 : (u 6 5) = 100
            · refine lv_lookup (off := 42) (tgt := 120) hx hb dX6_againstOrder_78 (by decide) (by rw [c_8]; decide) (by decide) ?_
              refine lv_aload_n hx hb dX6_againstOrder_120 rfl (lv_at hl 3 rfl) ?_
              refine lv_iload_n hx hb dX6_againstOrder_121 rfl (lv_at hl 0 rfl) ?_
              refine lv_iload_n hx hb dX6_againstOrder_122 rfl (lv_at hl 1 rfl) ?_
              refine lv_aload_n hx hb dX6_againstOrder_123 rfl (lv_at hl 3 rfl) ?_
              refine va_get (D := D) (ci := 6) (C := RX6) (T := TX6) (N := 16) hx hb hts iX6 hown hk.1 hP 0 (wM_0 _ _ _) rfl 14 (by decide) (hts (.fieldLink RX6 138 "BottleLoopModel" "number" "I") (List.mem_of_getElem? (i := 4) rfl)) (fun _ h9 => h9) rfl dX6_againstOrder_124 ?_
              refine bcall_Ri (va_runV (As := [.int (u 6 7), .int (u 6 6), .int (u 6 8)]) (rest := []) ⟨hx, hb, hml, hown, hts⟩ (C6_againstDeliver l D cI q _ _ hP hI (u 6 7) (u 6 6) (u 6 8) hm_6 hm_3) (cwV 3 hts gX6_againstOrder_X6_againstDeliver rfl rfl rfl ⟨rfl, bd_X6againstDeliver⟩ ⟨Nat.le_of_ble_eq_true rfl, Nat.le_of_ble_eq_true rfl⟩) (bPV hk (va_recv hk.1 hP (ci := 6) (q0 := 0) rfl (wM_0 _ _ _))) rfl rfl hl.1 rfl (lv_room (Nat.le_of_ble_eq_true rfl)) dX6_againstOrder_127 ⟨Nat.zero_le _, Nat.zero_le _⟩) hS (fun locs hS => ?_)
              exact bret_Ri hx hb hr hS hlocks dX6_againstOrder_130 (by rw [← hF, F6_againstOrder, if_neg c_1, if_neg c_2, if_neg c_4, if_neg c_5, if_neg c_7, if_pos c_8])
            · by_cases c_9 : (u 6 5) = 114
              · refine lv_lookup (off := 64) (tgt := 142) hx hb dX6_againstOrder_78 (by decide) (by rw [c_9]; decide) (by decide) ?_
                refine lv_aload_n hx hb dX6_againstOrder_142 rfl (lv_at hl 3 rfl) ?_
                refine lv_iload_n hx hb dX6_againstOrder_143 rfl (lv_at hl 1 rfl) ?_
                refine lv_iload_n hx hb dX6_againstOrder_144 rfl (lv_at hl 0 rfl) ?_
                refine lv_aload_n hx hb dX6_againstOrder_145 rfl (lv_at hl 3 rfl) ?_
                refine va_get (D := D) (ci := 6) (C := RX6) (T := TX6) (N := 16) hx hb hts iX6 hown hk.1 hP 0 (wM_0 _ _ _) rfl 14 (by decide) (hts (.fieldLink RX6 138 "BottleLoopModel" "number" "I") (List.mem_of_getElem? (i := 4) rfl)) (fun _ h9 => h9) rfl dX6_againstOrder_146 ?_
                refine bcall_Ri (va_runV (As := [.int (u 6 6), .int (u 6 7), .int (u 6 8)]) (rest := []) ⟨hx, hb, hml, hown, hts⟩ (C6_againstTakeBack l D cI q _ _ hP hI (u 6 6) (u 6 7) (u 6 8) hm_3 hm_6) (cwV 3 hts gX6_againstOrder_X6_againstTakeBack rfl rfl rfl ⟨rfl, bd_X6againstTakeBack⟩ ⟨Nat.le_of_ble_eq_true rfl, Nat.le_of_ble_eq_true rfl⟩) (bPV hk (va_recv hk.1 hP (ci := 6) (q0 := 0) rfl (wM_0 _ _ _))) rfl rfl hl.1 rfl (lv_room (Nat.le_of_ble_eq_true rfl)) dX6_againstOrder_149 ⟨Nat.zero_le _, Nat.zero_le _⟩) hS (fun locs hS => ?_)
                exact bret_Ri hx hb hr hS hlocks dX6_againstOrder_152 (by rw [← hF, F6_againstOrder, if_neg c_1, if_neg c_2, if_neg c_4, if_neg c_5, if_neg c_7, if_neg c_8, if_pos c_9])
              · by_cases c_10 : (u 6 5) = 115
                · refine lv_lookup (off := 53) (tgt := 131) hx hb dX6_againstOrder_78 (by decide) (by rw [c_10]; decide) (by decide) ?_
                  refine lv_aload_n hx hb dX6_againstOrder_131 rfl (lv_at hl 3 rfl) ?_
                  refine lv_iload_n hx hb dX6_againstOrder_132 rfl (lv_at hl 1 rfl) ?_
                  refine lv_iload_n hx hb dX6_againstOrder_133 rfl (lv_at hl 0 rfl) ?_
                  refine lv_aload_n hx hb dX6_againstOrder_134 rfl (lv_at hl 3 rfl) ?_
                  refine va_get (D := D) (ci := 6) (C := RX6) (T := TX6) (N := 16) hx hb hts iX6 hown hk.1 hP 0 (wM_0 _ _ _) rfl 14 (by decide) (hts (.fieldLink RX6 138 "BottleLoopModel" "number" "I") (List.mem_of_getElem? (i := 4) rfl)) (fun _ h9 => h9) rfl dX6_againstOrder_135 ?_
                  refine bcall_Ri (va_runV (As := [.int (u 6 6), .int (u 6 7), .int (u 6 8)]) (rest := []) ⟨hx, hb, hml, hown, hts⟩ (C6_againstSell l D cI q _ _ hP hI (u 6 6) (u 6 7) (u 6 8) hm_3 hm_6) (cwV 3 hts gX6_againstOrder_X6_againstSell rfl rfl rfl ⟨rfl, bd_X6againstSell⟩ ⟨Nat.le_of_ble_eq_true rfl, Nat.le_of_ble_eq_true rfl⟩) (bPV hk (va_recv hk.1 hP (ci := 6) (q0 := 0) rfl (wM_0 _ _ _))) rfl rfl hl.1 rfl (lv_room (Nat.le_of_ble_eq_true rfl)) dX6_againstOrder_138 ⟨Nat.zero_le _, Nat.zero_le _⟩) hS (fun locs hS => ?_)
                  exact bret_Ri hx hb hr hS hlocks dX6_againstOrder_141 (by rw [← hF, F6_againstOrder, if_neg c_1, if_neg c_2, if_neg c_4, if_neg c_5, if_neg c_7, if_neg c_8, if_neg c_9, if_pos c_10])
                · refine lv_lookup (off := 86) (tgt := 164) hx hb dX6_againstOrder_78 (by decide) (by show Op.lookupswitch.offset [(98, 75), (100, 42), (114, 64), (115, 53)] (86) _ = _; rw [lv_osw (a := 98) c_7 rfl, lv_osw (a := 100) c_8 rfl, lv_osw (a := 114) c_9 rfl, lv_osw (a := 115) c_10 rfl]; rfl) (by decide) ?_
                  refine lv_aload_n hx hb dX6_againstOrder_164 rfl (lv_at hl 3 rfl) ?_
                  refine lv_iload_n hx hb dX6_againstOrder_165 rfl (lv_at hl 1 rfl) ?_
                  refine lv_iload_n hx hb dX6_againstOrder_166 rfl (lv_at hl 0 rfl) ?_
                  refine lv_aload_n hx hb dX6_againstOrder_167 rfl (lv_at hl 3 rfl) ?_
                  refine va_get (D := D) (ci := 6) (C := RX6) (T := TX6) (N := 16) hx hb hts iX6 hown hk.1 hP 0 (wM_0 _ _ _) rfl 14 (by decide) (hts (.fieldLink RX6 138 "BottleLoopModel" "number" "I") (List.mem_of_getElem? (i := 4) rfl)) (fun _ h9 => h9) rfl dX6_againstOrder_168 ?_
                  refine bcall_Ri (va_runV (As := [.int (u 6 6), .int (u 6 7), .int (u 6 8)]) (rest := []) ⟨hx, hb, hml, hown, hts⟩ (C6_againstCollect l D cI q _ _ hP hI (u 6 6) (u 6 7) (u 6 8) hm_3) (cwV 3 hts gX6_againstOrder_X6_againstCollect rfl rfl rfl ⟨rfl, bd_X6againstCollect⟩ ⟨Nat.le_of_ble_eq_true rfl, Nat.le_of_ble_eq_true rfl⟩) (bPV hk (va_recv hk.1 hP (ci := 6) (q0 := 0) rfl (wM_0 _ _ _))) rfl rfl hl.1 rfl (lv_room (Nat.le_of_ble_eq_true rfl)) dX6_againstOrder_171 ⟨Nat.zero_le _, Nat.zero_le _⟩) hS (fun locs hS => ?_)
                  exact bret_Ri hx hb hr hS hlocks dX6_againstOrder_174 (by rw [← hF, F6_againstOrder, if_neg c_1, if_neg c_2, if_neg c_4, if_neg c_5, if_neg c_7, if_neg c_8, if_neg c_9, if_neg c_10])
        · refine lv_iconst (v := 4) hx hb dX6_againstOrder_72 (by decide) ?_
          exact bret_Ri hx hb hr hS hlocks dX6_againstOrder_73 (by rw [← hF, F6_againstOrder, if_neg c_1, if_neg c_2, if_neg c_4, if_pos c_5])
  · refine lv_iconst (v := 1) hx hb dX6_againstOrder_9 (by decide) ?_
    refine lv_goto (tgt := 14) hx hb dX6_againstOrder_10 (by decide) ?_
    refine lv_istore_n (lv' := [(1, .int 1), (0, .ref (q 0))]) hx hb dX6_againstOrder_14 rfl hl (by decide) rfl (fun ls hl => ?_)
    refine lv_iload_n hx hb dX6_againstOrder_15 rfl (lv_at hl 0 rfl) ?_
    refine lv_if_eq (tgt := 26) hx hb dX6_againstOrder_16 (by decide) (fun h9 => absurd h9 (by decide)) (fun _ => ?_)
    refine lv_aload_n hx hb dX6_againstOrder_19 rfl (lv_at hl 1 rfl) ?_
    refine va_get (D := D) (ci := 6) (C := RX6) (T := TX6) (N := 16) hx hb hts iX6 hown hk.1 hP 0 (wM_0 _ _ _) rfl 13 (by decide) (hts (.fieldLink RX6 157 "BottleLoopModel" "other" "I") (List.mem_of_getElem? (i := 2) rfl)) (fun _ h9 => h9) rfl dX6_againstOrder_20 ?_
    refine lv_goto (tgt := 30) hx hb dX6_againstOrder_23 (by decide) ?_
    refine lv_istore_n (lv' := [(2, .int (u 6 7)), (1, .int 1), (0, .ref (q 0))]) hx hb dX6_againstOrder_30 rfl hl (by decide) rfl (fun ls hl => ?_)
    refine lv_iload_n hx hb dX6_againstOrder_31 rfl (lv_at hl 1 rfl) ?_
    refine lv_if_eq (tgt := 42) hx hb dX6_againstOrder_32 (by decide) (fun h9 => absurd h9 (by decide)) (fun _ => ?_)
    refine lv_aload_n hx hb dX6_againstOrder_35 rfl (lv_at hl 2 rfl) ?_
    refine va_get (D := D) (ci := 6) (C := RX6) (T := TX6) (N := 16) hx hb hts iX6 hown hk.1 hP 0 (wM_0 _ _ _) rfl 12 (by decide) (hts (.fieldLink RX6 151 "BottleLoopModel" "one" "I") (List.mem_of_getElem? (i := 3) rfl)) (fun _ h9 => h9) rfl dX6_againstOrder_36 ?_
    refine lv_goto (tgt := 46) hx hb dX6_againstOrder_39 (by decide) ?_
    refine lv_istore_n (lv' := [(3, .int (u 6 6)), (2, .int (u 6 7)), (1, .int 1), (0, .ref (q 0))]) hx hb dX6_againstOrder_46 rfl hl (by decide) rfl (fun ls hl => ?_)
    refine lv_aload_n hx hb dX6_againstOrder_47 rfl (lv_at hl 3 rfl) ?_
    refine lv_iload_n hx hb dX6_againstOrder_48 rfl (lv_at hl 1 rfl) ?_
    refine bcall_Ri (va_runV (As := [.int (u 6 7)]) (rest := []) ⟨hx, hb, hml, hown, hts⟩ (C6_isShop l D cI q _ _ hP hI (u 6 7)) (cwV 1 hts gX6_againstOrder_X6_isShop rfl rfl rfl ⟨rfl, bd_X6isShop⟩ ⟨Nat.le_of_ble_eq_true rfl, Nat.le_of_ble_eq_true rfl⟩) (bPV hk (va_recv hk.1 hP (ci := 6) (q0 := 0) rfl (wM_0 _ _ _))) rfl rfl hl.1 rfl (lv_room (Nat.le_of_ble_eq_true rfl)) dX6_againstOrder_49 ⟨Nat.zero_le _, Nat.zero_le _⟩) hS (fun locs hS => ?_)
    refine lv_if_eq (tgt := 72) hx hb dX6_againstOrder_52 (by decide) (fun c_11 => ?_) (fun c_11 => ?_)
    · refine lv_iconst (v := 4) hx hb dX6_againstOrder_72 (by decide) ?_
      exact bret_Ri hx hb hr hS hlocks dX6_againstOrder_73 (by rw [← hF, F6_againstOrder, if_pos c_1, if_pos c_11])
    · have hm_12 : mS (u 6 7) := mS_is hI c_11
      refine lv_aload_n hx hb dX6_againstOrder_55 rfl (lv_at hl 3 rfl) ?_
      refine va_get (D := D) (ci := 6) (C := RX6) (T := TX6) (N := 16) hx hb hts iX6 hown hk.1 hP 0 (wM_0 _ _ _) rfl 11 (by decide) (hts (.fieldLink RX6 145 "BottleLoopModel" "letter" "I") (List.mem_of_getElem? (i := 1) rfl)) (fun _ h9 => h9) rfl dX6_againstOrder_56 ?_
      refine lv_bipush (v := 99) hx hb dX6_againstOrder_59 (by decide) ?_
      refine lv_icmp_eq (tgt := 74) hx hb dX6_againstOrder_61 (by decide) (fun h9 => absurd (c_1.symm.trans h9) (by decide)) (fun _ => ?_)
      refine lv_aload_n hx hb dX6_againstOrder_64 rfl (lv_at hl 3 rfl) ?_
      refine lv_iload_n hx hb dX6_againstOrder_65 rfl (lv_at hl 0 rfl) ?_
      refine bcall_Ri (va_runV (As := [.int (u 6 6)]) (rest := []) ⟨hx, hb, hml, hown, hts⟩ (C6_isBrand l D cI q _ _ hP hI (u 6 6)) (cwV 1 hts gX6_againstOrder_X6_isBrand rfl rfl rfl ⟨rfl, bd_X6isBrand⟩ ⟨Nat.le_of_ble_eq_true rfl, Nat.le_of_ble_eq_true rfl⟩) (bPV hk (va_recv hk.1 hP (ci := 6) (q0 := 0) rfl (wM_0 _ _ _))) rfl rfl hl.1 rfl (lv_room (Nat.le_of_ble_eq_true rfl)) dX6_againstOrder_66 ⟨Nat.zero_le _, Nat.zero_le _⟩) hS (fun locs hS => ?_)
      refine lv_if_ne (tgt := 74) hx hb dX6_againstOrder_69 (by decide) (fun c_13 => ?_) (fun c_13 => ?_)
      · have hm_14 : mB (u 6 6) := mB_is hI c_13
        refine lv_aload_n hx hb dX6_againstOrder_74 rfl (lv_at hl 3 rfl) ?_
        refine va_get (D := D) (ci := 6) (C := RX6) (T := TX6) (N := 16) hx hb hts iX6 hown hk.1 hP 0 (wM_0 _ _ _) rfl 11 (by decide) (hts (.fieldLink RX6 145 "BottleLoopModel" "letter" "I") (List.mem_of_getElem? (i := 1) rfl)) (fun _ h9 => h9) rfl dX6_againstOrder_75 ?_
        refine lv_lookup (off := 42) (tgt := 120) hx hb dX6_againstOrder_78 (by decide) (by rw [c_1]; decide) (by decide) ?_
        refine lv_aload_n hx hb dX6_againstOrder_120 rfl (lv_at hl 3 rfl) ?_
        refine lv_iload_n hx hb dX6_againstOrder_121 rfl (lv_at hl 0 rfl) ?_
        refine lv_iload_n hx hb dX6_againstOrder_122 rfl (lv_at hl 1 rfl) ?_
        refine lv_aload_n hx hb dX6_againstOrder_123 rfl (lv_at hl 3 rfl) ?_
        refine va_get (D := D) (ci := 6) (C := RX6) (T := TX6) (N := 16) hx hb hts iX6 hown hk.1 hP 0 (wM_0 _ _ _) rfl 14 (by decide) (hts (.fieldLink RX6 138 "BottleLoopModel" "number" "I") (List.mem_of_getElem? (i := 4) rfl)) (fun _ h9 => h9) rfl dX6_againstOrder_124 ?_
        refine bcall_Ri (va_runV (As := [.int (u 6 6), .int (u 6 7), .int (u 6 8)]) (rest := []) ⟨hx, hb, hml, hown, hts⟩ (C6_againstDeliver l D cI q _ _ hP hI (u 6 6) (u 6 7) (u 6 8) hm_14 hm_12) (cwV 3 hts gX6_againstOrder_X6_againstDeliver rfl rfl rfl ⟨rfl, bd_X6againstDeliver⟩ ⟨Nat.le_of_ble_eq_true rfl, Nat.le_of_ble_eq_true rfl⟩) (bPV hk (va_recv hk.1 hP (ci := 6) (q0 := 0) rfl (wM_0 _ _ _))) rfl rfl hl.1 rfl (lv_room (Nat.le_of_ble_eq_true rfl)) dX6_againstOrder_127 ⟨Nat.zero_le _, Nat.zero_le _⟩) hS (fun locs hS => ?_)
        exact bret_Ri hx hb hr hS hlocks dX6_againstOrder_130 (by rw [← hF, F6_againstOrder, if_pos c_1, if_neg c_11, if_neg c_13])
      · refine lv_iconst (v := 4) hx hb dX6_againstOrder_72 (by decide) ?_
        exact bret_Ri hx hb hr hS hlocks dX6_againstOrder_73 (by rw [← hF, F6_againstOrder, if_pos c_1, if_neg c_11, if_pos c_13])

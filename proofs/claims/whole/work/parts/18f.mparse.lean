/-- what an order that is carried out must be -/
def mDo (u : bU) : Prop := (u 6 5 = 100 → mB (u 6 6) ∧ mS (u 6 7)) ∧ (¬ u 6 5 = 100 → mS (u 6 6)) ∧ (u 6 5 = 98 ∨ u 6 5 = 114 ∨ u 6 5 = 115 → mB (u 6 7)) ∧ (¬ u 6 5 = 98 → ¬ u 6 5 = 100 → ¬ u 6 5 = 114 → ¬ u 6 5 = 115 → mK (u 6 7))
theorem mDo_v {u : bU} {i : Nat} {x : Int32} (h : mDo u) : mDo (bput u 0 i x) := h
def F6_doOrder (u : bU) : bU := (if (u 6 5) = 98 then (F6_breaksThem u (u 6 6) (u 6 7) (u 6 8)).2 else (if (u 6 5) = 100 then (F6_delivers u (u 6 6) (u 6 7) (u 6 8)).2 else (if (u 6 5) = 114 then (F6_takesBack u (u 6 6) (u 6 7) (u 6 8)).2 else (if (u 6 5) = 115 then (F6_sells u (u 6 6) (u 6 7) (u 6 8)).2 else (F6_collects u (u 6 6) (u 6 7) (u 6 8)).2))))
set_option maxHeartbeats 4000000 in
set_option maxRecDepth 100000 in
theorem C6_doOrder (l : Launch) (D : va_G) (cI : ClassId) (q : Nat → Nat) (u : bU) (H0 : Heap) (hq : bInj 7 q) (hP : va_P D vwCl (wM cI q u) H0) (hI : mInv u) (hdo : mDo u) : Met l yX6_doOrder wsX6_doOrder ({ frames := 4, cells := 0, slots := 0, locals := 93 }) (bP D [(cI, .int)] H0 [.ref (q 0)]) (bWv D (wM cI q) mInv (bA 7 q H0.size) (F6_doOrder u)) 0 0 (bA 7 q H0.size) := by
  refine Met.ofW (cc := cX6_doOrder) (maxL := 1) (ret := none) (by decide) rfl ?_
  intro p e s m args below meth c s₁ B hml hv
  obtain ⟨rfl, hH, hk⟩ := hv
  subst hH
  have hx := B.exec
  have hb := B.bytes
  have hr := B.returns
  have hts := atoms_spec (ws := wsX6_doOrder) B.pre
  have hown : s.vm.findClass RX6 = some m.cls := findClass_of_methodNamed B.named
  have hlocks := B.notSynchronized
  have hNB := mNB hI
  have hNS := mNS hI
  have hI0 := hI
  have iX6 : ∀ w ∈ wsX60, w ∈ wsX6_doOrder := by decide +kernel
  have hS : va_S (bA 7 q s.heap.size) s.heap s.heap [] := va_S.rf
  have hl := lv_entry ([.ref (q 0)]) (n := 1) (Nat.le_of_ble_eq_true rfl)
  rw [lg_entry_eq]
  generalize (lg_sl ([.ref (q 0)]) ++ List.replicate (1 - (lg_sl ([.ref (q 0)])).length) Slot.unset).toArray = ls at hl ⊢
  have hl : lv_has ls 1 [(0, .ref (q 0))] := hl
  generalize hF : F6_doOrder u = tgt
  refine lv_aload_n hx hb dX6_doOrder_0 rfl (lv_at hl 0 rfl) ?_
  refine va_get (D := D) (ci := 6) (C := RX6) (T := TX6) (N := 16) hx hb hts iX6 hown hk.1 hP 0 (wM_0 _ _ _) rfl 11 (by decide) (hts (.fieldLink RX6 145 "BottleLoopModel" "letter" "I") (List.mem_of_getElem? (i := 1) rfl)) (fun _ h9 => h9) rfl dX6_doOrder_1 ?_
  by_cases c_1 : (u 6 5) = 98
  · refine lv_lookup (off := 104) (tgt := 108) hx hb dX6_doOrder_4 (by decide) (by rw [c_1]; decide) (by decide) ?_
    refine lv_aload_n hx hb dX6_doOrder_108 rfl (lv_at hl 0 rfl) ?_
    refine lv_aload_n hx hb dX6_doOrder_109 rfl (lv_at hl 0 rfl) ?_
    refine va_get (D := D) (ci := 6) (C := RX6) (T := TX6) (N := 16) hx hb hts iX6 hown hk.1 hP 0 (wM_0 _ _ _) rfl 12 (by decide) (hts (.fieldLink RX6 151 "BottleLoopModel" "one" "I") (List.mem_of_getElem? (i := 2) rfl)) (fun _ h9 => h9) rfl dX6_doOrder_110 ?_
    refine lv_aload_n hx hb dX6_doOrder_113 rfl (lv_at hl 0 rfl) ?_
    refine va_get (D := D) (ci := 6) (C := RX6) (T := TX6) (N := 16) hx hb hts iX6 hown hk.1 hP 0 (wM_0 _ _ _) rfl 13 (by decide) (hts (.fieldLink RX6 157 "BottleLoopModel" "other" "I") (List.mem_of_getElem? (i := 3) rfl)) (fun _ h9 => h9) rfl dX6_doOrder_114 ?_
    refine lv_aload_n hx hb dX6_doOrder_117 rfl (lv_at hl 0 rfl) ?_
    refine va_get (D := D) (ci := 6) (C := RX6) (T := TX6) (N := 16) hx hb hts iX6 hown hk.1 hP 0 (wM_0 _ _ _) rfl 14 (by decide) (hts (.fieldLink RX6 138 "BottleLoopModel" "number" "I") (List.mem_of_getElem? (i := 4) rfl)) (fun _ h9 => h9) rfl dX6_doOrder_118 ?_
    refine bcall_Wi (va_runV (As := [.int (u 6 6), .int (u 6 7), .int (u 6 8)]) (rest := []) ⟨hx, hb, hml, hown, hts⟩ (C6_breaksThem l D cI q _ _ hq hP hI (u 6 6) (u 6 7) (u 6 8) (hdo.2.1 (fun h9 => absurd (c_1.symm.trans h9) (by decide))) (hdo.2.2.1 (by rw [c_1]; decide))) (cwV 3 hts gX6_doOrder_X6_breaksThem rfl rfl rfl ⟨rfl, bd_X6breaksThem⟩ ⟨Nat.le_of_ble_eq_true rfl, Nat.le_of_ble_eq_true rfl⟩) (bPV hk (va_recv hk.1 hP (ci := 6) (q0 := 0) rfl (wM_0 _ _ _))) rfl rfl hl.1 rfl (lv_room (Nat.le_of_ble_eq_true rfl)) dX6_doOrder_121 ⟨Nat.zero_le _, Nat.zero_le _⟩) hS (fun H locs hP hI_2 hS => ?_)
    refine lv_pop hx hb dX6_doOrder_124 rfl ?_
    refine lv_goto (tgt := 145) hx hb dX6_doOrder_125 (by decide) ?_
    exact bret_Wv hx hb hr hP hI_2 hS hlocks dX6_doOrder_145 (by rw [← hF, F6_doOrder, if_pos c_1])
  · by_cases c_3 : (u 6 5) = 100
    · refine lv_lookup (off := 44) (tgt := 48) hx hb dX6_doOrder_4 (by decide) (by rw [c_3]; decide) (by decide) ?_
      refine lv_aload_n hx hb dX6_doOrder_48 rfl (lv_at hl 0 rfl) ?_
      refine lv_aload_n hx hb dX6_doOrder_49 rfl (lv_at hl 0 rfl) ?_
      refine va_get (D := D) (ci := 6) (C := RX6) (T := TX6) (N := 16) hx hb hts iX6 hown hk.1 hP 0 (wM_0 _ _ _) rfl 12 (by decide) (hts (.fieldLink RX6 151 "BottleLoopModel" "one" "I") (List.mem_of_getElem? (i := 2) rfl)) (fun _ h9 => h9) rfl dX6_doOrder_50 ?_
      refine lv_aload_n hx hb dX6_doOrder_53 rfl (lv_at hl 0 rfl) ?_
      refine va_get (D := D) (ci := 6) (C := RX6) (T := TX6) (N := 16) hx hb hts iX6 hown hk.1 hP 0 (wM_0 _ _ _) rfl 13 (by decide) (hts (.fieldLink RX6 157 "BottleLoopModel" "other" "I") (List.mem_of_getElem? (i := 3) rfl)) (fun _ h9 => h9) rfl dX6_doOrder_54 ?_
      refine lv_aload_n hx hb dX6_doOrder_57 rfl (lv_at hl 0 rfl) ?_
      refine va_get (D := D) (ci := 6) (C := RX6) (T := TX6) (N := 16) hx hb hts iX6 hown hk.1 hP 0 (wM_0 _ _ _) rfl 14 (by decide) (hts (.fieldLink RX6 138 "BottleLoopModel" "number" "I") (List.mem_of_getElem? (i := 4) rfl)) (fun _ h9 => h9) rfl dX6_doOrder_58 ?_
      refine bcall_Wi (va_runV (As := [.int (u 6 6), .int (u 6 7), .int (u 6 8)]) (rest := []) ⟨hx, hb, hml, hown, hts⟩ (C6_delivers l D cI q _ _ hq hP hI (u 6 6) (u 6 7) (u 6 8) (hdo.1 c_3).1 (hdo.1 c_3).2) (cwV 3 hts gX6_doOrder_X6_delivers rfl rfl rfl ⟨rfl, bd_X6delivers⟩ ⟨Nat.le_of_ble_eq_true rfl, Nat.le_of_ble_eq_true rfl⟩) (bPV hk (va_recv hk.1 hP (ci := 6) (q0 := 0) rfl (wM_0 _ _ _))) rfl rfl hl.1 rfl (lv_room (Nat.le_of_ble_eq_true rfl)) dX6_doOrder_61 ⟨Nat.zero_le _, Nat.zero_le _⟩) hS (fun H locs hP hI_4 hS => ?_)
      refine lv_pop hx hb dX6_doOrder_64 rfl ?_
      refine lv_goto (tgt := 145) hx hb dX6_doOrder_65 (by decide) ?_
      exact bret_Wv hx hb hr hP hI_4 hS hlocks dX6_doOrder_145 (by rw [← hF, F6_doOrder, if_neg c_1, if_pos c_3])
    · by_cases c_5 : (u 6 5) = 114
      · refine lv_lookup (off := 84) (tgt := 88) hx hb dX6_doOrder_4 (by decide) (by rw [c_5]; decide) (by decide) ?_
        refine lv_aload_n hx hb dX6_doOrder_88 rfl (lv_at hl 0 rfl) ?_
        refine lv_aload_n hx hb dX6_doOrder_89 rfl (lv_at hl 0 rfl) ?_
        refine va_get (D := D) (ci := 6) (C := RX6) (T := TX6) (N := 16) hx hb hts iX6 hown hk.1 hP 0 (wM_0 _ _ _) rfl 12 (by decide) (hts (.fieldLink RX6 151 "BottleLoopModel" "one" "I") (List.mem_of_getElem? (i := 2) rfl)) (fun _ h9 => h9) rfl dX6_doOrder_90 ?_
        refine lv_aload_n hx hb dX6_doOrder_93 rfl (lv_at hl 0 rfl) ?_
        refine va_get (D := D) (ci := 6) (C := RX6) (T := TX6) (N := 16) hx hb hts iX6 hown hk.1 hP 0 (wM_0 _ _ _) rfl 13 (by decide) (hts (.fieldLink RX6 157 "BottleLoopModel" "other" "I") (List.mem_of_getElem? (i := 3) rfl)) (fun _ h9 => h9) rfl dX6_doOrder_94 ?_
        refine lv_aload_n hx hb dX6_doOrder_97 rfl (lv_at hl 0 rfl) ?_
        refine va_get (D := D) (ci := 6) (C := RX6) (T := TX6) (N := 16) hx hb hts iX6 hown hk.1 hP 0 (wM_0 _ _ _) rfl 14 (by decide) (hts (.fieldLink RX6 138 "BottleLoopModel" "number" "I") (List.mem_of_getElem? (i := 4) rfl)) (fun _ h9 => h9) rfl dX6_doOrder_98 ?_
        refine bcall_Wi (va_runV (As := [.int (u 6 6), .int (u 6 7), .int (u 6 8)]) (rest := []) ⟨hx, hb, hml, hown, hts⟩ (C6_takesBack l D cI q _ _ hq hP hI (u 6 6) (u 6 7) (u 6 8) (hdo.2.1 (fun h9 => absurd (c_5.symm.trans h9) (by decide))) (hdo.2.2.1 (by rw [c_5]; decide))) (cwV 3 hts gX6_doOrder_X6_takesBack rfl rfl rfl ⟨rfl, bd_X6takesBack⟩ ⟨Nat.le_of_ble_eq_true rfl, Nat.le_of_ble_eq_true rfl⟩) (bPV hk (va_recv hk.1 hP (ci := 6) (q0 := 0) rfl (wM_0 _ _ _))) rfl rfl hl.1 rfl (lv_room (Nat.le_of_ble_eq_true rfl)) dX6_doOrder_101 ⟨Nat.zero_le _, Nat.zero_le _⟩) hS (fun H locs hP hI_6 hS => ?_)
        refine lv_pop hx hb dX6_doOrder_104 rfl ?_
        refine lv_goto (tgt := 145) hx hb dX6_doOrder_105 (by decide) ?_
        exact bret_Wv hx hb hr hP hI_6 hS hlocks dX6_doOrder_145 (by rw [← hF, F6_doOrder, if_neg c_1, if_neg c_3, if_pos c_5])
      · by_cases c_7 : (u 6 5) = 115
        · refine lv_lookup (off := 64) (tgt := 68) hx hb dX6_doOrder_4 (by decide) (by rw [c_7]; decide) (by decide) ?_
          refine lv_aload_n hx hb dX6_doOrder_68 rfl (lv_at hl 0 rfl) ?_
          refine lv_aload_n hx hb dX6_doOrder_69 rfl (lv_at hl 0 rfl) ?_
          refine va_get (D := D) (ci := 6) (C := RX6) (T := TX6) (N := 16) hx hb hts iX6 hown hk.1 hP 0 (wM_0 _ _ _) rfl 12 (by decide) (hts (.fieldLink RX6 151 "BottleLoopModel" "one" "I") (List.mem_of_getElem? (i := 2) rfl)) (fun _ h9 => h9) rfl dX6_doOrder_70 ?_
          refine lv_aload_n hx hb dX6_doOrder_73 rfl (lv_at hl 0 rfl) ?_
          refine va_get (D := D) (ci := 6) (C := RX6) (T := TX6) (N := 16) hx hb hts iX6 hown hk.1 hP 0 (wM_0 _ _ _) rfl 13 (by decide) (hts (.fieldLink RX6 157 "BottleLoopModel" "other" "I") (List.mem_of_getElem? (i := 3) rfl)) (fun _ h9 => h9) rfl dX6_doOrder_74 ?_
          refine lv_aload_n hx hb dX6_doOrder_77 rfl (lv_at hl 0 rfl) ?_
          refine va_get (D := D) (ci := 6) (C := RX6) (T := TX6) (N := 16) hx hb hts iX6 hown hk.1 hP 0 (wM_0 _ _ _) rfl 14 (by decide) (hts (.fieldLink RX6 138 "BottleLoopModel" "number" "I") (List.mem_of_getElem? (i := 4) rfl)) (fun _ h9 => h9) rfl dX6_doOrder_78 ?_
          refine bcall_Wi (va_runV (As := [.int (u 6 6), .int (u 6 7), .int (u 6 8)]) (rest := []) ⟨hx, hb, hml, hown, hts⟩ (C6_sells l D cI q _ _ hq hP hI (u 6 6) (u 6 7) (u 6 8) (hdo.2.1 (fun h9 => absurd (c_7.symm.trans h9) (by decide))) (hdo.2.2.1 (by rw [c_7]; decide))) (cwV 3 hts gX6_doOrder_X6_sells rfl rfl rfl ⟨rfl, bd_X6sells⟩ ⟨Nat.le_of_ble_eq_true rfl, Nat.le_of_ble_eq_true rfl⟩) (bPV hk (va_recv hk.1 hP (ci := 6) (q0 := 0) rfl (wM_0 _ _ _))) rfl rfl hl.1 rfl (lv_room (Nat.le_of_ble_eq_true rfl)) dX6_doOrder_81 ⟨Nat.zero_le _, Nat.zero_le _⟩) hS (fun H locs hP hI_8 hS => ?_)
          refine lv_pop hx hb dX6_doOrder_84 rfl ?_
          refine lv_goto (tgt := 145) hx hb dX6_doOrder_85 (by decide) ?_
          exact bret_Wv hx hb hr hP hI_8 hS hlocks dX6_doOrder_145 (by rw [← hF, F6_doOrder, if_neg c_1, if_neg c_3, if_neg c_5, if_pos c_7])
        · refine lv_lookup (off := 124) (tgt := 128) hx hb dX6_doOrder_4 (by decide) (by show Op.lookupswitch.offset [(98, 104), (100, 44), (114, 84), (115, 64)] (124) _ = _; rw [lv_osw (a := 98) c_1 rfl, lv_osw (a := 100) c_3 rfl, lv_osw (a := 114) c_5 rfl, lv_osw (a := 115) c_7 rfl]; rfl) (by decide) ?_
          refine lv_aload_n hx hb dX6_doOrder_128 rfl (lv_at hl 0 rfl) ?_
          refine lv_aload_n hx hb dX6_doOrder_129 rfl (lv_at hl 0 rfl) ?_
          refine va_get (D := D) (ci := 6) (C := RX6) (T := TX6) (N := 16) hx hb hts iX6 hown hk.1 hP 0 (wM_0 _ _ _) rfl 12 (by decide) (hts (.fieldLink RX6 151 "BottleLoopModel" "one" "I") (List.mem_of_getElem? (i := 2) rfl)) (fun _ h9 => h9) rfl dX6_doOrder_130 ?_
          refine lv_aload_n hx hb dX6_doOrder_133 rfl (lv_at hl 0 rfl) ?_
          refine va_get (D := D) (ci := 6) (C := RX6) (T := TX6) (N := 16) hx hb hts iX6 hown hk.1 hP 0 (wM_0 _ _ _) rfl 13 (by decide) (hts (.fieldLink RX6 157 "BottleLoopModel" "other" "I") (List.mem_of_getElem? (i := 3) rfl)) (fun _ h9 => h9) rfl dX6_doOrder_134 ?_
          refine lv_aload_n hx hb dX6_doOrder_137 rfl (lv_at hl 0 rfl) ?_
          refine va_get (D := D) (ci := 6) (C := RX6) (T := TX6) (N := 16) hx hb hts iX6 hown hk.1 hP 0 (wM_0 _ _ _) rfl 14 (by decide) (hts (.fieldLink RX6 138 "BottleLoopModel" "number" "I") (List.mem_of_getElem? (i := 4) rfl)) (fun _ h9 => h9) rfl dX6_doOrder_138 ?_
          refine bcall_Wi (va_runV (As := [.int (u 6 6), .int (u 6 7), .int (u 6 8)]) (rest := []) ⟨hx, hb, hml, hown, hts⟩ (C6_collects l D cI q _ _ hq hP hI (u 6 6) (u 6 7) (u 6 8) (hdo.2.1 c_3) (hdo.2.2.2 c_1 c_3 c_5 c_7)) (cwV 3 hts gX6_doOrder_X6_collects rfl rfl rfl ⟨rfl, bd_X6collects⟩ ⟨Nat.le_of_ble_eq_true rfl, Nat.le_of_ble_eq_true rfl⟩) (bPV hk (va_recv hk.1 hP (ci := 6) (q0 := 0) rfl (wM_0 _ _ _))) rfl rfl hl.1 rfl (lv_room (Nat.le_of_ble_eq_true rfl)) dX6_doOrder_141 ⟨Nat.zero_le _, Nat.zero_le _⟩) hS (fun H locs hP hI_9 hS => ?_)
          refine lv_pop hx hb dX6_doOrder_144 rfl ?_
          exact bret_Wv hx hb hr hP hI_9 hS hlocks dX6_doOrder_145 (by rw [← hF, F6_doOrder, if_neg c_1, if_neg c_3, if_neg c_5, if_neg c_7])

def F1_keep (u : bU) : bU := if u 11 0 = 0 then F1_keep_0 u else if u 11 0 = 1 then F1_keep_1 u else if u 11 0 = 2 then F1_keep_2 u else if u 11 0 = 3 then F1_keep_3 u else if u 11 0 = 4 then F1_keep_4 u else F1_keep_5 u
theorem F1_keep_at0 {u : bU} (h : u 11 0 = 0) : F1_keep u = F1_keep_0 u := by rw [F1_keep, if_pos h]
theorem F1_keep_at1 {u : bU} (h : u 11 0 = 1) : F1_keep u = F1_keep_1 u := by rw [F1_keep, if_neg (show ¬ u 11 0 = 0 by rw [h]; decide), if_pos h]
theorem F1_keep_at2 {u : bU} (h : u 11 0 = 2) : F1_keep u = F1_keep_2 u := by rw [F1_keep, if_neg (show ¬ u 11 0 = 0 by rw [h]; decide), if_neg (show ¬ u 11 0 = 1 by rw [h]; decide), if_pos h]
theorem F1_keep_at3 {u : bU} (h : u 11 0 = 3) : F1_keep u = F1_keep_3 u := by rw [F1_keep, if_neg (show ¬ u 11 0 = 0 by rw [h]; decide), if_neg (show ¬ u 11 0 = 1 by rw [h]; decide), if_neg (show ¬ u 11 0 = 2 by rw [h]; decide), if_pos h]
theorem F1_keep_at4 {u : bU} (h : u 11 0 = 4) : F1_keep u = F1_keep_4 u := by rw [F1_keep, if_neg (show ¬ u 11 0 = 0 by rw [h]; decide), if_neg (show ¬ u 11 0 = 1 by rw [h]; decide), if_neg (show ¬ u 11 0 = 2 by rw [h]; decide), if_neg (show ¬ u 11 0 = 3 by rw [h]; decide), if_pos h]
theorem F1_keep_at5 {u : bU} (h : u 11 0 = 5) : F1_keep u = F1_keep_5 u := by rw [F1_keep, if_neg (show ¬ u 11 0 = 0 by rw [h]; decide), if_neg (show ¬ u 11 0 = 1 by rw [h]; decide), if_neg (show ¬ u 11 0 = 2 by rw [h]; decide), if_neg (show ¬ u 11 0 = 3 by rw [h]; decide), if_neg (show ¬ u 11 0 = 4 by rw [h]; decide)]

theorem C1_keep (l : Launch) (D : va_G) (cI cO : ClassId) (q : Nat → Nat) (u : bU) (H0 : Heap) (hq : bInj 23 q) (hP : va_P D vwCl (wC cI cO q u) H0) (hlat : bLat u) : Met l yX1_keep wsX1_keep ({ frames := 2, cells := 0, slots := 0, locals := 221 }) (bP D [(cI, .int), (cO, .object RX2)] H0 [.ref (q 5), .ref (q 3)]) (bWv D (wC cI cO q) bT (bA 23 q H0.size) (F1_keep u)) 0 0 (bA 23 q H0.size) := by
  rcases hlat with h | h | h | h | h | h
  · rw [F1_keep_at0 h]; exact C1_keep_0 l D cI cO q u H0 hq hP h
  · rw [F1_keep_at1 h]; exact C1_keep_1 l D cI cO q u H0 hq hP h
  · rw [F1_keep_at2 h]; exact C1_keep_2 l D cI cO q u H0 hq hP h
  · rw [F1_keep_at3 h]; exact C1_keep_3 l D cI cO q u H0 hq hP h
  · rw [F1_keep_at4 h]; exact C1_keep_4 l D cI cO q u H0 hq hP h
  · rw [F1_keep_at5 h]; exact C1_keep_5 l D cI cO q u H0 hq hP h

def F1_giveBack (u : bU) : bU := if u 11 0 = 0 then F1_giveBack_0 u else if u 11 0 = 1 then F1_giveBack_1 u else if u 11 0 = 2 then F1_giveBack_2 u else if u 11 0 = 3 then F1_giveBack_3 u else if u 11 0 = 4 then F1_giveBack_4 u else F1_giveBack_5 u
theorem F1_giveBack_at0 {u : bU} (h : u 11 0 = 0) : F1_giveBack u = F1_giveBack_0 u := by rw [F1_giveBack, if_pos h]
theorem F1_giveBack_at1 {u : bU} (h : u 11 0 = 1) : F1_giveBack u = F1_giveBack_1 u := by rw [F1_giveBack, if_neg (show ¬ u 11 0 = 0 by rw [h]; decide), if_pos h]
theorem F1_giveBack_at2 {u : bU} (h : u 11 0 = 2) : F1_giveBack u = F1_giveBack_2 u := by rw [F1_giveBack, if_neg (show ¬ u 11 0 = 0 by rw [h]; decide), if_neg (show ¬ u 11 0 = 1 by rw [h]; decide), if_pos h]
theorem F1_giveBack_at3 {u : bU} (h : u 11 0 = 3) : F1_giveBack u = F1_giveBack_3 u := by rw [F1_giveBack, if_neg (show ¬ u 11 0 = 0 by rw [h]; decide), if_neg (show ¬ u 11 0 = 1 by rw [h]; decide), if_neg (show ¬ u 11 0 = 2 by rw [h]; decide), if_pos h]
theorem F1_giveBack_at4 {u : bU} (h : u 11 0 = 4) : F1_giveBack u = F1_giveBack_4 u := by rw [F1_giveBack, if_neg (show ¬ u 11 0 = 0 by rw [h]; decide), if_neg (show ¬ u 11 0 = 1 by rw [h]; decide), if_neg (show ¬ u 11 0 = 2 by rw [h]; decide), if_neg (show ¬ u 11 0 = 3 by rw [h]; decide), if_pos h]
theorem F1_giveBack_at5 {u : bU} (h : u 11 0 = 5) : F1_giveBack u = F1_giveBack_5 u := by rw [F1_giveBack, if_neg (show ¬ u 11 0 = 0 by rw [h]; decide), if_neg (show ¬ u 11 0 = 1 by rw [h]; decide), if_neg (show ¬ u 11 0 = 2 by rw [h]; decide), if_neg (show ¬ u 11 0 = 3 by rw [h]; decide), if_neg (show ¬ u 11 0 = 4 by rw [h]; decide)]

theorem C1_giveBack (l : Launch) (D : va_G) (cI cO : ClassId) (q : Nat → Nat) (u : bU) (H0 : Heap) (hq : bInj 23 q) (hP : va_P D vwCl (wC cI cO q u) H0) (hlat : bLat u) : Met l yX1_giveBack wsX1_giveBack ({ frames := 2, cells := 0, slots := 0, locals := 221 }) (bP D [(cI, .int), (cO, .object RX2)] H0 [.ref (q 5), .ref (q 3)]) (bWv D (wC cI cO q) bT (bA 23 q H0.size) (F1_giveBack u)) 0 0 (bA 23 q H0.size) := by
  rcases hlat with h | h | h | h | h | h
  · rw [F1_giveBack_at0 h]; exact C1_giveBack_0 l D cI cO q u H0 hq hP h
  · rw [F1_giveBack_at1 h]; exact C1_giveBack_1 l D cI cO q u H0 hq hP h
  · rw [F1_giveBack_at2 h]; exact C1_giveBack_2 l D cI cO q u H0 hq hP h
  · rw [F1_giveBack_at3 h]; exact C1_giveBack_3 l D cI cO q u H0 hq hP h
  · rw [F1_giveBack_at4 h]; exact C1_giveBack_4 l D cI cO q u H0 hq hP h
  · rw [F1_giveBack_at5 h]; exact C1_giveBack_5 l D cI cO q u H0 hq hP h

theorem bd_X1giveBack : yX1_giveBack.cls ≠ "java/lang/invoke/MethodHandle" ∧ yX1_giveBack.cls ≠ "java/lang/invoke/VarHandle" ∧ (parseMethodDescriptor yX1_giveBack.desc).map (fun d => d.parameters.length) = some 1 := by decide +kernel
theorem bd_X1keep : yX1_keep.cls ≠ "java/lang/invoke/MethodHandle" ∧ yX1_keep.cls ≠ "java/lang/invoke/VarHandle" ∧ (parseMethodDescriptor yX1_keep.desc).map (fun d => d.parameters.length) = some 1 := by decide +kernel
theorem bd_X1kept : yX1_kept.cls ≠ "java/lang/invoke/MethodHandle" ∧ yX1_kept.cls ≠ "java/lang/invoke/VarHandle" ∧ (parseMethodDescriptor yX1_kept.desc).map (fun d => d.parameters.length) = some 0 := by decide +kernel
theorem bd_X2countNumber : yX2_countNumber.cls ≠ "java/lang/invoke/MethodHandle" ∧ yX2_countNumber.cls ≠ "java/lang/invoke/VarHandle" ∧ (parseMethodDescriptor yX2_countNumber.desc).map (fun d => d.parameters.length) = some 1 := by decide +kernel
theorem bd_X2putSetting : yX2_putSetting.cls ≠ "java/lang/invoke/MethodHandle" ∧ yX2_putSetting.cls ≠ "java/lang/invoke/VarHandle" ∧ (parseMethodDescriptor yX2_putSetting.desc).map (fun d => d.parameters.length) = some 2 := by decide +kernel
theorem bd_X2shopNumber : yX2_shopNumber.cls ≠ "java/lang/invoke/MethodHandle" ∧ yX2_shopNumber.cls ≠ "java/lang/invoke/VarHandle" ∧ (parseMethodDescriptor yX2_shopNumber.desc).map (fun d => d.parameters.length) = some 2 := by decide +kernel
theorem bd_X4bestToCollect : yX4_bestToCollect.cls ≠ "java/lang/invoke/MethodHandle" ∧ yX4_bestToCollect.cls ≠ "java/lang/invoke/VarHandle" ∧ (parseMethodDescriptor yX4_bestToCollect.desc).map (fun d => d.parameters.length) = some 1 := by decide +kernel
theorem bd_X4breakBottles : yX4_breakBottles.cls ≠ "java/lang/invoke/MethodHandle" ∧ yX4_breakBottles.cls ≠ "java/lang/invoke/VarHandle" ∧ (parseMethodDescriptor yX4_breakBottles.desc).map (fun d => d.parameters.length) = some 3 := by decide +kernel
theorem bd_X4breakReason : yX4_breakReason.cls ≠ "java/lang/invoke/MethodHandle" ∧ yX4_breakReason.cls ≠ "java/lang/invoke/VarHandle" ∧ (parseMethodDescriptor yX4_breakReason.desc).map (fun d => d.parameters.length) = some 3 := by decide +kernel
theorem bd_X4collectCrates : yX4_collectCrates.cls ≠ "java/lang/invoke/MethodHandle" ∧ yX4_collectCrates.cls ≠ "java/lang/invoke/VarHandle" ∧ (parseMethodDescriptor yX4_collectCrates.desc).map (fun d => d.parameters.length) = some 3 := by decide +kernel
theorem bd_X4deliverCrates : yX4_deliverCrates.cls ≠ "java/lang/invoke/MethodHandle" ∧ yX4_deliverCrates.cls ≠ "java/lang/invoke/VarHandle" ∧ (parseMethodDescriptor yX4_deliverCrates.desc).map (fun d => d.parameters.length) = some 3 := by decide +kernel
theorem bd_X4deliverReason : yX4_deliverReason.cls ≠ "java/lang/invoke/MethodHandle" ∧ yX4_deliverReason.cls ≠ "java/lang/invoke/VarHandle" ∧ (parseMethodDescriptor yX4_deliverReason.desc).map (fun d => d.parameters.length) = some 3 := by decide +kernel
theorem bd_X4fillBottles : yX4_fillBottles.cls ≠ "java/lang/invoke/MethodHandle" ∧ yX4_fillBottles.cls ≠ "java/lang/invoke/VarHandle" ∧ (parseMethodDescriptor yX4_fillBottles.desc).map (fun d => d.parameters.length) = some 2 := by decide +kernel
theorem bd_X4loseBottles : yX4_loseBottles.cls ≠ "java/lang/invoke/MethodHandle" ∧ yX4_loseBottles.cls ≠ "java/lang/invoke/VarHandle" ∧ (parseMethodDescriptor yX4_loseBottles.desc).map (fun d => d.parameters.length) = some 2 := by decide +kernel
theorem bd_X4mostDeliverable : yX4_mostDeliverable.cls ≠ "java/lang/invoke/MethodHandle" ∧ yX4_mostDeliverable.cls ≠ "java/lang/invoke/VarHandle" ∧ (parseMethodDescriptor yX4_mostDeliverable.desc).map (fun d => d.parameters.length) = some 2 := by decide +kernel
theorem bd_X4returnBottles : yX4_returnBottles.cls ≠ "java/lang/invoke/MethodHandle" ∧ yX4_returnBottles.cls ≠ "java/lang/invoke/VarHandle" ∧ (parseMethodDescriptor yX4_returnBottles.desc).map (fun d => d.parameters.length) = some 3 := by decide +kernel
theorem bd_X4returnReason : yX4_returnReason.cls ≠ "java/lang/invoke/MethodHandle" ∧ yX4_returnReason.cls ≠ "java/lang/invoke/VarHandle" ∧ (parseMethodDescriptor yX4_returnReason.desc).map (fun d => d.parameters.length) = some 3 := by decide +kernel
theorem bd_X4sellBottles : yX4_sellBottles.cls ≠ "java/lang/invoke/MethodHandle" ∧ yX4_sellBottles.cls ≠ "java/lang/invoke/VarHandle" ∧ (parseMethodDescriptor yX4_sellBottles.desc).map (fun d => d.parameters.length) = some 3 := by decide +kernel
theorem bd_X4sellReason : yX4_sellReason.cls ≠ "java/lang/invoke/MethodHandle" ∧ yX4_sellReason.cls ≠ "java/lang/invoke/VarHandle" ∧ (parseMethodDescriptor yX4_sellReason.desc).map (fun d => d.parameters.length) = some 3 := by decide +kernel
theorem bd_X4sortBottles : yX4_sortBottles.cls ≠ "java/lang/invoke/MethodHandle" ∧ yX4_sortBottles.cls ≠ "java/lang/invoke/VarHandle" ∧ (parseMethodDescriptor yX4_sortBottles.desc).map (fun d => d.parameters.length) = some 2 := by decide +kernel
theorem bd_X4swapBottles : yX4_swapBottles.cls ≠ "java/lang/invoke/MethodHandle" ∧ yX4_swapBottles.cls ≠ "java/lang/invoke/VarHandle" ∧ (parseMethodDescriptor yX4_swapBottles.desc).map (fun d => d.parameters.length) = some 3 := by decide +kernel
theorem bd_X4wouldCollect : yX4_wouldCollect.cls ≠ "java/lang/invoke/MethodHandle" ∧ yX4_wouldCollect.cls ≠ "java/lang/invoke/VarHandle" ∧ (parseMethodDescriptor yX4_wouldCollect.desc).map (fun d => d.parameters.length) = some 3 := by decide +kernel
theorem bd_X5isShopNumber : yX5_isShopNumber.cls ≠ "java/lang/invoke/MethodHandle" ∧ yX5_isShopNumber.cls ≠ "java/lang/invoke/VarHandle" ∧ (parseMethodDescriptor yX5_isShopNumber.desc).map (fun d => d.parameters.length) = some 1 := by decide +kernel
theorem bd_X5needBrand : yX5_needBrand.cls ≠ "java/lang/invoke/MethodHandle" ∧ yX5_needBrand.cls ≠ "java/lang/invoke/VarHandle" ∧ (parseMethodDescriptor yX5_needBrand.desc).map (fun d => d.parameters.length) = some 1 := by decide +kernel
theorem bd_X5needKind : yX5_needKind.cls ≠ "java/lang/invoke/MethodHandle" ∧ yX5_needKind.cls ≠ "java/lang/invoke/VarHandle" ∧ (parseMethodDescriptor yX5_needKind.desc).map (fun d => d.parameters.length) = some 1 := by decide +kernel
theorem bd_X5needSetting : yX5_needSetting.cls ≠ "java/lang/invoke/MethodHandle" ∧ yX5_needSetting.cls ≠ "java/lang/invoke/VarHandle" ∧ (parseMethodDescriptor yX5_needSetting.desc).map (fun d => d.parameters.length) = some 1 := by decide +kernel
theorem bd_X5needShop : yX5_needShop.cls ≠ "java/lang/invoke/MethodHandle" ∧ yX5_needShop.cls ≠ "java/lang/invoke/VarHandle" ∧ (parseMethodDescriptor yX5_needShop.desc).map (fun d => d.parameters.length) = some 1 := by decide +kernel
theorem bd_X5needState : yX5_needState.cls ≠ "java/lang/invoke/MethodHandle" ∧ yX5_needState.cls ≠ "java/lang/invoke/VarHandle" ∧ (parseMethodDescriptor yX5_needState.desc).map (fun d => d.parameters.length) = some 1 := by decide +kernel
def F5_brand (u : bU) (a1 : Int32) (a2 : Int32) : Int32 := (F2_brandNumber u a1 a2)
set_option maxHeartbeats 4000000 in
set_option maxRecDepth 100000 in
theorem C5_brand (l : Launch) (D : va_G) (cI cO : ClassId) (q : Nat → Nat) (u : bU) (H0 : Heap) (hP : va_P D vwCl (wC cI cO q u) H0) (a1 : Int32) (a2 : Int32) (hn0 : (F5_needBrand u a1) = 0) (hn1 : (F5_needRange a2 0 11) = 0) : Met l yX5_brand wsX5_brand ({ frames := 4, cells := 0, slots := 0, locals := 88 }) (bP D [(cI, .int), (cO, .object RX2)] H0 [.ref (q 0), .int a1, .int a2]) (bRi H0 (F5_brand u a1 a2)) 0 0 (fun _ => False) := by
  refine Met.ofW (cc := cX5_brand) (maxL := 3) (ret := (some .int)) (by decide) rfl ?_
  intro p e s m args below meth c s₁ B hml hv
  obtain ⟨rfl, hH, hk⟩ := hv
  subst hH
  have hx := B.exec
  have hb := B.bytes
  have hr := B.returns
  have hts := atoms_spec (ws := wsX5_brand) B.pre
  have hown : s.vm.findClass RX5 = some m.cls := findClass_of_methodNamed B.named
  have hlocks := B.notSynchronized
  have iX5 : ∀ w ∈ wsX50, w ∈ wsX5_brand := by decide +kernel
  have hS : va_S (fun _ => False) s.heap s.heap [] := va_S.rf
  have hl := lv_entry ([.ref (q 0), .int a1, .int a2]) (n := 3) (Nat.le_of_ble_eq_true rfl)
  rw [lg_entry_eq]
  generalize (lg_sl ([.ref (q 0), .int a1, .int a2]) ++ List.replicate (3 - (lg_sl ([.ref (q 0), .int a1, .int a2])).length) Slot.unset).toArray = ls at hl ⊢
  have hl : lv_has ls 3 [(0, .ref (q 0)), (1, .int a1), (2, .int a2)] := hl
  generalize hF : F5_brand u a1 a2 = tgt
  refine lv_aload_n hx hb dX5_brand_0 rfl (lv_at hl 0 rfl) ?_
  refine lv_iload_n hx hb dX5_brand_1 rfl (lv_at hl 1 rfl) ?_
  refine bcall_Rv (va_runV (As := [.int a1]) (rest := []) ⟨hx, hb, hml, hown, hts⟩ (C5_needBrand l D cI cO q _ _ hP a1 hn0) (cwV 1 hts gX5_brand_X5_needBrand rfl rfl rfl ⟨rfl, bd_X5needBrand⟩ ⟨Nat.le_of_ble_eq_true rfl, Nat.le_of_ble_eq_true rfl⟩) (bPV hk (va_recv hk.1 hP (ci := 5) (q0 := 0) rfl (wC_0 _ _ _ _))) rfl rfl hl.1 rfl (lv_room (Nat.le_of_ble_eq_true rfl)) dX5_brand_2 ⟨Nat.zero_le _, Nat.zero_le _⟩) hS (fun locs hS => ?_)
  refine lv_iload_n hx hb dX5_brand_5 rfl (lv_at hl 2 rfl) ?_
  refine lv_iconst (v := 0) hx hb dX5_brand_6 (by decide) ?_
  refine lv_bipush (v := 11) hx hb dX5_brand_7 (by decide) ?_
  refine bcall_Rv (va_runS (As := [.int a2, .int 0, .int 11]) (rest := []) ⟨hx, hb, hml, hown, hts⟩ (C5_needRange l D cI cO q _ a2 0 11 hn1) (va_cwS 3 hts gX5_brand_X5_needRange rfl rfl rfl bd_X5needRange ⟨Nat.le_of_ble_eq_true rfl, Nat.le_of_ble_eq_true rfl⟩) (bPS hk) rfl rfl hl.1 rfl (lv_room (Nat.le_of_ble_eq_true rfl)) dX5_brand_9 ⟨Nat.zero_le _, Nat.zero_le _⟩) hS (fun locs hS => ?_)
  refine lv_aload_n hx hb dX5_brand_12 rfl (lv_at hl 0 rfl) ?_
  refine va_get (D := D) (ci := 5) (C := RX5) (T := TX5) (N := 5) hx hb hts iX5 hown hk.1 hP 0 (wC_0 _ _ _ _) rfl 0 (by decide) (hts (.fieldLink RX5 20 "BottleLoop" "now" "LBottleLoop$State;") (List.mem_of_getElem? (i := 1) rfl)) (fun _ h9 => h9) rfl dX5_brand_13 ?_
  refine lv_iload_n hx hb dX5_brand_16 rfl (lv_at hl 1 rfl) ?_
  refine lv_iload_n hx hb dX5_brand_17 rfl (lv_at hl 2 rfl) ?_
  refine bcall_Ri (va_runVN (As := [.int a1, .int a2]) (rest := []) ⟨hx, hb, hml, hown, hts⟩ (C2_brandNumber l D cI cO q _ _ hP a1 a2) ⟨va_cnB 2 hts gX5_brand_X2_brandNumber_n185 rfl rfl rfl (hk.2 (.methodLinkNest RX5 185 yX2_brandNumber RX5) (List.mem_of_getElem? (i := 24) rfl)) (hts (.initialized RX2) (List.mem_of_getElem? (i := 14) rfl)) bd_X2brandNumber ⟨Nat.le_of_ble_eq_true rfl, Nat.le_of_ble_eq_true rfl⟩, (hts (.instanceMethod yX2_brandNumber) (List.mem_of_getElem? (i := 30) rfl)), (hts (.selects RX2 yX2_brandNumber yX2_brandNumber) (List.mem_of_getElem? (i := 31) rfl))⟩ (bPV hk (va_recv hk.1 hP (ci := 2) (q0 := 3) rfl (wC_3 _ _ _ _))) rfl rfl hl.1 rfl (lv_room (Nat.le_of_ble_eq_true rfl)) dX5_brand_18 ⟨Nat.zero_le _, Nat.zero_le _⟩) hS (fun locs hS => ?_)
  exact bret_Ri hx hb hr hS hlocks dX5_brand_21 (by rw [← hF, F5_brand])
def F5_shop (u : bU) (a1 : Int32) (a2 : Int32) : Int32 := (F2_shopNumber u a1 a2)
set_option maxHeartbeats 4000000 in
set_option maxRecDepth 100000 in
theorem C5_shop (l : Launch) (D : va_G) (cI cO : ClassId) (q : Nat → Nat) (u : bU) (H0 : Heap) (hP : va_P D vwCl (wC cI cO q u) H0) (a1 : Int32) (a2 : Int32) (hn0 : (F5_needShop u a1) = 0) (hn1 : (F5_needArgument (F5_isShopNumber a2)) = 0) : Met l yX5_shop wsX5_shop ({ frames := 4, cells := 0, slots := 0, locals := 89 }) (bP D [(cI, .int), (cO, .object RX2)] H0 [.ref (q 0), .int a1, .int a2]) (bRi H0 (F5_shop u a1 a2)) 0 0 (fun _ => False) := by
  refine Met.ofW (cc := cX5_shop) (maxL := 3) (ret := (some .int)) (by decide) rfl ?_
  intro p e s m args below meth c s₁ B hml hv
  obtain ⟨rfl, hH, hk⟩ := hv
  subst hH
  have hx := B.exec
  have hb := B.bytes
  have hr := B.returns
  have hts := atoms_spec (ws := wsX5_shop) B.pre
  have hown : s.vm.findClass RX5 = some m.cls := findClass_of_methodNamed B.named
  have hlocks := B.notSynchronized
  have iX5 : ∀ w ∈ wsX50, w ∈ wsX5_shop := by decide +kernel
  have hS : va_S (fun _ => False) s.heap s.heap [] := va_S.rf
  have hl := lv_entry ([.ref (q 0), .int a1, .int a2]) (n := 3) (Nat.le_of_ble_eq_true rfl)
  rw [lg_entry_eq]
  generalize (lg_sl ([.ref (q 0), .int a1, .int a2]) ++ List.replicate (3 - (lg_sl ([.ref (q 0), .int a1, .int a2])).length) Slot.unset).toArray = ls at hl ⊢
  have hl : lv_has ls 3 [(0, .ref (q 0)), (1, .int a1), (2, .int a2)] := hl
  generalize hF : F5_shop u a1 a2 = tgt
  refine lv_aload_n hx hb dX5_shop_0 rfl (lv_at hl 0 rfl) ?_
  refine lv_iload_n hx hb dX5_shop_1 rfl (lv_at hl 1 rfl) ?_
  refine bcall_Rv (va_runV (As := [.int a1]) (rest := []) ⟨hx, hb, hml, hown, hts⟩ (C5_needShop l D cI cO q _ _ hP a1 hn0) (cwV 1 hts gX5_shop_X5_needShop rfl rfl rfl ⟨rfl, bd_X5needShop⟩ ⟨Nat.le_of_ble_eq_true rfl, Nat.le_of_ble_eq_true rfl⟩) (bPV hk (va_recv hk.1 hP (ci := 5) (q0 := 0) rfl (wC_0 _ _ _ _))) rfl rfl hl.1 rfl (lv_room (Nat.le_of_ble_eq_true rfl)) dX5_shop_2 ⟨Nat.zero_le _, Nat.zero_le _⟩) hS (fun locs hS => ?_)
  refine lv_iload_n hx hb dX5_shop_5 rfl (lv_at hl 2 rfl) ?_
  refine bcall_Ri (va_runS (As := [.int a2]) (rest := []) ⟨hx, hb, hml, hown, hts⟩ (C5_isShopNumber l D cI cO q _ a2) (va_cwS 1 hts gX5_shop_X5_isShopNumber rfl rfl rfl bd_X5isShopNumber ⟨Nat.le_of_ble_eq_true rfl, Nat.le_of_ble_eq_true rfl⟩) (bPS hk) rfl rfl hl.1 rfl (lv_room (Nat.le_of_ble_eq_true rfl)) dX5_shop_6 ⟨Nat.zero_le _, Nat.zero_le _⟩) hS (fun locs hS => ?_)
  refine bcall_Rv (va_runS (As := [.int (F5_isShopNumber a2)]) (rest := []) ⟨hx, hb, hml, hown, hts⟩ (C5_needArgument l D cI cO q _ (F5_isShopNumber a2) hn1) (va_cwS 1 hts gX5_shop_X5_needArgument rfl rfl rfl bd_X5needArgument ⟨Nat.le_of_ble_eq_true rfl, Nat.le_of_ble_eq_true rfl⟩) (bPS hk) rfl rfl hl.1 rfl (lv_room (Nat.le_of_ble_eq_true rfl)) dX5_shop_9 ⟨Nat.zero_le _, Nat.zero_le _⟩) hS (fun locs hS => ?_)
  refine lv_aload_n hx hb dX5_shop_12 rfl (lv_at hl 0 rfl) ?_
  refine va_get (D := D) (ci := 5) (C := RX5) (T := TX5) (N := 5) hx hb hts iX5 hown hk.1 hP 0 (wC_0 _ _ _ _) rfl 0 (by decide) (hts (.fieldLink RX5 20 "BottleLoop" "now" "LBottleLoop$State;") (List.mem_of_getElem? (i := 1) rfl)) (fun _ h9 => h9) rfl dX5_shop_13 ?_
  refine lv_iload_n hx hb dX5_shop_16 rfl (lv_at hl 1 rfl) ?_
  refine lv_iload_n hx hb dX5_shop_17 rfl (lv_at hl 2 rfl) ?_
  refine bcall_Ri (va_runVN (As := [.int a1, .int a2]) (rest := []) ⟨hx, hb, hml, hown, hts⟩ (C2_shopNumber l D cI cO q _ _ hP a1 a2) ⟨va_cnB 2 hts gX5_shop_X2_shopNumber_n192 rfl rfl rfl (hk.2 (.methodLinkNest RX5 192 yX2_shopNumber RX5) (List.mem_of_getElem? (i := 28) rfl)) (hts (.initialized RX2) (List.mem_of_getElem? (i := 14) rfl)) bd_X2shopNumber ⟨Nat.le_of_ble_eq_true rfl, Nat.le_of_ble_eq_true rfl⟩, (hts (.instanceMethod yX2_shopNumber) (List.mem_of_getElem? (i := 30) rfl)), (hts (.selects RX2 yX2_shopNumber yX2_shopNumber) (List.mem_of_getElem? (i := 31) rfl))⟩ (bPV hk (va_recv hk.1 hP (ci := 2) (q0 := 3) rfl (wC_3 _ _ _ _))) rfl rfl hl.1 rfl (lv_room (Nat.le_of_ble_eq_true rfl)) dX5_shop_18 ⟨Nat.zero_le _, Nat.zero_le _⟩) hS (fun locs hS => ?_)
  exact bret_Ri hx hb hr hS hlocks dX5_shop_21 (by rw [← hF, F5_shop])
def F5_count (u : bU) (a1 : Int32) : Int32 := (if a1 = (10 : Int32) then (F1_kept u) else (F2_countNumber u a1))
set_option maxHeartbeats 4000000 in
set_option maxRecDepth 100000 in
theorem C5_count (l : Launch) (D : va_G) (cI cO : ClassId) (q : Nat → Nat) (u : bU) (H0 : Heap) (hP : va_P D vwCl (wC cI cO q u) H0) (a1 : Int32) (hn0 : (F5_needRange a1 0 10) = 0) : Met l yX5_count wsX5_count ({ frames := 4, cells := 0, slots := 0, locals := 87 }) (bP D [(cI, .int), (cO, .object RX2)] H0 [.ref (q 0), .int a1]) (bRi H0 (F5_count u a1)) 0 0 (fun _ => False) := by
  refine Met.ofW (cc := cX5_count) (maxL := 2) (ret := (some .int)) (by decide) rfl ?_
  intro p e s m args below meth c s₁ B hml hv
  obtain ⟨rfl, hH, hk⟩ := hv
  subst hH
  have hx := B.exec
  have hb := B.bytes
  have hr := B.returns
  have hts := atoms_spec (ws := wsX5_count) B.pre
  have hown : s.vm.findClass RX5 = some m.cls := findClass_of_methodNamed B.named
  have hlocks := B.notSynchronized
  have iX5 : ∀ w ∈ wsX50, w ∈ wsX5_count := by decide +kernel
  have hS : va_S (fun _ => False) s.heap s.heap [] := va_S.rf
  have hl := lv_entry ([.ref (q 0), .int a1]) (n := 2) (Nat.le_of_ble_eq_true rfl)
  rw [lg_entry_eq]
  generalize (lg_sl ([.ref (q 0), .int a1]) ++ List.replicate (2 - (lg_sl ([.ref (q 0), .int a1])).length) Slot.unset).toArray = ls at hl ⊢
  have hl : lv_has ls 2 [(0, .ref (q 0)), (1, .int a1)] := hl
  generalize hF : F5_count u a1 = tgt
  refine lv_iload_n hx hb dX5_count_0 rfl (lv_at hl 1 rfl) ?_
  refine lv_iconst (v := 0) hx hb dX5_count_1 (by decide) ?_
  refine lv_bipush (v := 10) hx hb dX5_count_2 (by decide) ?_
  refine bcall_Rv (va_runS (As := [.int a1, .int 0, .int 10]) (rest := []) ⟨hx, hb, hml, hown, hts⟩ (C5_needRange l D cI cO q _ a1 0 10 hn0) (va_cwS 3 hts gX5_count_X5_needRange rfl rfl rfl bd_X5needRange ⟨Nat.le_of_ble_eq_true rfl, Nat.le_of_ble_eq_true rfl⟩) (bPS hk) rfl rfl hl.1 rfl (lv_room (Nat.le_of_ble_eq_true rfl)) dX5_count_4 ⟨Nat.zero_le _, Nat.zero_le _⟩) hS (fun locs hS => ?_)
  refine lv_iload_n hx hb dX5_count_7 rfl (lv_at hl 1 rfl) ?_
  refine lv_bipush (v := 10) hx hb dX5_count_8 (by decide) ?_
  refine lv_icmp_ne (tgt := 23) hx hb dX5_count_10 (by decide) (fun c_1 => ?_) (fun c_1 => ?_)
  · refine lv_aload_n hx hb dX5_count_23 rfl (lv_at hl 0 rfl) ?_
    refine va_get (D := D) (ci := 5) (C := RX5) (T := TX5) (N := 5) hx hb hts iX5 hown hk.1 hP 0 (wC_0 _ _ _ _) rfl 0 (by decide) (hts (.fieldLink RX5 20 "BottleLoop" "now" "LBottleLoop$State;") (List.mem_of_getElem? (i := 2) rfl)) (fun _ h9 => h9) rfl dX5_count_24 ?_
    refine lv_iload_n hx hb dX5_count_27 rfl (lv_at hl 1 rfl) ?_
    refine bcall_Ri (va_runVN (As := [.int a1]) (rest := []) ⟨hx, hb, hml, hown, hts⟩ (C2_countNumber l D cI cO q _ _ hP a1) ⟨va_cnB 1 hts gX5_count_X2_countNumber_n77 rfl rfl rfl (hk.2 (.methodLinkNest RX5 77 yX2_countNumber RX5) (List.mem_of_getElem? (i := 14) rfl)) (hts (.initialized RX2) (List.mem_of_getElem? (i := 18) rfl)) bd_X2countNumber ⟨Nat.le_of_ble_eq_true rfl, Nat.le_of_ble_eq_true rfl⟩, (hts (.instanceMethod yX2_countNumber) (List.mem_of_getElem? (i := 17) rfl)), (hts (.selects RX2 yX2_countNumber yX2_countNumber) (List.mem_of_getElem? (i := 19) rfl))⟩ (bPV hk (va_recv hk.1 hP (ci := 2) (q0 := 3) rfl (wC_3 _ _ _ _))) rfl rfl hl.1 rfl (lv_room (Nat.le_of_ble_eq_true rfl)) dX5_count_28 ⟨Nat.zero_le _, Nat.zero_le _⟩) hS (fun locs hS => ?_)
    exact bret_Ri hx hb hr hS hlocks dX5_count_31 (by rw [← hF, F5_count, if_neg c_1])
  · refine lv_aload_n hx hb dX5_count_13 rfl (lv_at hl 0 rfl) ?_
    refine va_get (D := D) (ci := 5) (C := RX5) (T := TX5) (N := 5) hx hb hts iX5 hown hk.1 hP 0 (wC_0 _ _ _ _) rfl 1 (by decide) (hts (.fieldLink RX5 26 "BottleLoop" "past" "LBottleLoop$Past;") (List.mem_of_getElem? (i := 1) rfl)) (fun _ h9 => h9) rfl dX5_count_14 ?_
    refine bcall_Ri (va_runVN (As := []) (rest := []) ⟨hx, hb, hml, hown, hts⟩ (C1_kept l D cI cO q _ _ hP ) ⟨va_cnB 0 hts gX5_count_X1_kept_n179 rfl rfl rfl (hk.2 (.methodLinkNest RX5 179 yX1_kept RX5) (List.mem_of_getElem? (i := 22) rfl)) (hts (.initialized RX1) (List.mem_of_getElem? (i := 13) rfl)) bd_X1kept ⟨Nat.le_of_ble_eq_true rfl, Nat.le_of_ble_eq_true rfl⟩, (hts (.instanceMethod yX1_kept) (List.mem_of_getElem? (i := 12) rfl)), (hts (.selects RX1 yX1_kept yX1_kept) (List.mem_of_getElem? (i := 14) rfl))⟩ (bPV hk (va_recv hk.1 hP (ci := 1) (q0 := 5) rfl (wC_5 _ _ _ _))) rfl rfl hl.1 rfl (lv_room (Nat.le_of_ble_eq_true rfl)) dX5_count_17 ⟨Nat.zero_le _, Nat.zero_le _⟩) hS (fun locs hS => ?_)
    refine lv_goto (tgt := 31) hx hb dX5_count_20 (by decide) ?_
    exact bret_Ri hx hb hr hS hlocks dX5_count_31 (by rw [← hF, F5_count, if_pos c_1])
def F5_setting (u : bU) (a1 : Int32) : Int32 := (F2_ofSetting u a1)
set_option maxHeartbeats 4000000 in
set_option maxRecDepth 100000 in
theorem C5_setting (l : Launch) (D : va_G) (cI cO : ClassId) (q : Nat → Nat) (u : bU) (H0 : Heap) (hP : va_P D vwCl (wC cI cO q u) H0) (a1 : Int32) (hn0 : (F5_needSetting a1) = 0) : Met l yX5_setting wsX5_setting ({ frames := 2, cells := 0, slots := 0, locals := 42 }) (bP D [(cI, .int), (cO, .object RX2)] H0 [.ref (q 0), .int a1]) (bRi H0 (F5_setting u a1)) 0 0 (fun _ => False) := by
  refine Met.ofW (cc := cX5_setting) (maxL := 2) (ret := (some .int)) (by decide) rfl ?_
  intro p e s m args below meth c s₁ B hml hv
  obtain ⟨rfl, hH, hk⟩ := hv
  subst hH
  have hx := B.exec
  have hb := B.bytes
  have hr := B.returns
  have hts := atoms_spec (ws := wsX5_setting) B.pre
  have hown : s.vm.findClass RX5 = some m.cls := findClass_of_methodNamed B.named
  have hlocks := B.notSynchronized
  have iX5 : ∀ w ∈ wsX50, w ∈ wsX5_setting := by decide +kernel
  have hS : va_S (fun _ => False) s.heap s.heap [] := va_S.rf
  have hl := lv_entry ([.ref (q 0), .int a1]) (n := 2) (Nat.le_of_ble_eq_true rfl)
  rw [lg_entry_eq]
  generalize (lg_sl ([.ref (q 0), .int a1]) ++ List.replicate (2 - (lg_sl ([.ref (q 0), .int a1])).length) Slot.unset).toArray = ls at hl ⊢
  have hl : lv_has ls 2 [(0, .ref (q 0)), (1, .int a1)] := hl
  generalize hF : F5_setting u a1 = tgt
  refine lv_iload_n hx hb dX5_setting_0 rfl (lv_at hl 1 rfl) ?_
  refine bcall_Rv (va_runS (As := [.int a1]) (rest := []) ⟨hx, hb, hml, hown, hts⟩ (C5_needSetting l D cI cO q _ a1 hn0) (va_cwS 1 hts gX5_setting_X5_needSetting rfl rfl rfl bd_X5needSetting ⟨Nat.le_of_ble_eq_true rfl, Nat.le_of_ble_eq_true rfl⟩) (bPS hk) rfl rfl hl.1 rfl (lv_room (Nat.le_of_ble_eq_true rfl)) dX5_setting_1 ⟨Nat.zero_le _, Nat.zero_le _⟩) hS (fun locs hS => ?_)
  refine lv_aload_n hx hb dX5_setting_4 rfl (lv_at hl 0 rfl) ?_
  refine va_get (D := D) (ci := 5) (C := RX5) (T := TX5) (N := 5) hx hb hts iX5 hown hk.1 hP 0 (wC_0 _ _ _ _) rfl 0 (by decide) (hts (.fieldLink RX5 20 "BottleLoop" "now" "LBottleLoop$State;") (List.mem_of_getElem? (i := 1) rfl)) (fun _ h9 => h9) rfl dX5_setting_5 ?_
  refine lv_iload_n hx hb dX5_setting_8 rfl (lv_at hl 1 rfl) ?_
  refine bcall_Ri (va_runVN (As := [.int a1]) (rest := []) ⟨hx, hb, hml, hown, hts⟩ (C2_ofSetting l D cI cO q _ _ hP a1) ⟨va_cnB 1 hts gX5_setting_X2_ofSetting_n94 rfl rfl rfl (hk.2 (.methodLinkNest RX5 94 yX2_ofSetting RX5) (List.mem_of_getElem? (i := 15) rfl)) (hts (.initialized RX2) (List.mem_of_getElem? (i := 9) rfl)) bd_X2ofSetting ⟨Nat.le_of_ble_eq_true rfl, Nat.le_of_ble_eq_true rfl⟩, (hts (.instanceMethod yX2_ofSetting) (List.mem_of_getElem? (i := 8) rfl)), (hts (.selects RX2 yX2_ofSetting yX2_ofSetting) (List.mem_of_getElem? (i := 10) rfl))⟩ (bPV hk (va_recv hk.1 hP (ci := 2) (q0 := 3) rfl (wC_3 _ _ _ _))) rfl rfl hl.1 rfl (lv_room (Nat.le_of_ble_eq_true rfl)) dX5_setting_9 ⟨Nat.zero_le _, Nat.zero_le _⟩) hS (fun locs hS => ?_)
  exact bret_Ri hx hb hr hS hlocks dX5_setting_12 (by rw [← hF, F5_setting])
def F5_whyNotDeliver (u : bU) (a1 : Int32) (a2 : Int32) (a3 : Int32) : Int32 := (F4_deliverReason u a1 a2 a3)
set_option maxHeartbeats 4000000 in
set_option maxRecDepth 100000 in
theorem C5_whyNotDeliver (l : Launch) (D : va_G) (cI cO : ClassId) (q : Nat → Nat) (u : bU) (H0 : Heap) (hP : va_P D vwCl (wC cI cO q u) H0) (a1 : Int32) (a2 : Int32) (a3 : Int32) (hn0 : (F5_needBrand u a1) = 0) (hn1 : (F5_needShop u a2) = 0) (hn2 : (F5_needRange a3 1 50) = 0) : Met l yX5_whyNotDeliver wsX5_whyNotDeliver ({ frames := 5, cells := 0, slots := 0, locals := 107 }) (bP D [(cI, .int), (cO, .object RX2)] H0 [.ref (q 0), .int a1, .int a2, .int a3]) (bRi H0 (F5_whyNotDeliver u a1 a2 a3)) 0 0 (fun _ => False) := by
  refine Met.ofW (cc := cX5_whyNotDeliver) (maxL := 4) (ret := (some .int)) (by decide) rfl ?_
  intro p e s m args below meth c s₁ B hml hv
  obtain ⟨rfl, hH, hk⟩ := hv
  subst hH
  have hx := B.exec
  have hb := B.bytes
  have hr := B.returns
  have hts := atoms_spec (ws := wsX5_whyNotDeliver) B.pre
  have hown : s.vm.findClass RX5 = some m.cls := findClass_of_methodNamed B.named
  have hlocks := B.notSynchronized
  have iX5 : ∀ w ∈ wsX50, w ∈ wsX5_whyNotDeliver := by decide +kernel
  have hS : va_S (fun _ => False) s.heap s.heap [] := va_S.rf
  have hl := lv_entry ([.ref (q 0), .int a1, .int a2, .int a3]) (n := 4) (Nat.le_of_ble_eq_true rfl)
  rw [lg_entry_eq]
  generalize (lg_sl ([.ref (q 0), .int a1, .int a2, .int a3]) ++ List.replicate (4 - (lg_sl ([.ref (q 0), .int a1, .int a2, .int a3])).length) Slot.unset).toArray = ls at hl ⊢
  have hl : lv_has ls 4 [(0, .ref (q 0)), (1, .int a1), (2, .int a2), (3, .int a3)] := hl
  generalize hF : F5_whyNotDeliver u a1 a2 a3 = tgt
  refine lv_aload_n hx hb dX5_whyNotDeliver_0 rfl (lv_at hl 0 rfl) ?_
  refine lv_iload_n hx hb dX5_whyNotDeliver_1 rfl (lv_at hl 1 rfl) ?_
  refine bcall_Rv (va_runV (As := [.int a1]) (rest := []) ⟨hx, hb, hml, hown, hts⟩ (C5_needBrand l D cI cO q _ _ hP a1 hn0) (cwV 1 hts gX5_whyNotDeliver_X5_needBrand rfl rfl rfl ⟨rfl, bd_X5needBrand⟩ ⟨Nat.le_of_ble_eq_true rfl, Nat.le_of_ble_eq_true rfl⟩) (bPV hk (va_recv hk.1 hP (ci := 5) (q0 := 0) rfl (wC_0 _ _ _ _))) rfl rfl hl.1 rfl (lv_room (Nat.le_of_ble_eq_true rfl)) dX5_whyNotDeliver_2 ⟨Nat.zero_le _, Nat.zero_le _⟩) hS (fun locs hS => ?_)
  refine lv_aload_n hx hb dX5_whyNotDeliver_5 rfl (lv_at hl 0 rfl) ?_
  refine lv_iload_n hx hb dX5_whyNotDeliver_6 rfl (lv_at hl 2 rfl) ?_
  refine bcall_Rv (va_runV (As := [.int a2]) (rest := []) ⟨hx, hb, hml, hown, hts⟩ (C5_needShop l D cI cO q _ _ hP a2 hn1) (cwV 1 hts gX5_whyNotDeliver_X5_needShop rfl rfl rfl ⟨rfl, bd_X5needShop⟩ ⟨Nat.le_of_ble_eq_true rfl, Nat.le_of_ble_eq_true rfl⟩) (bPV hk (va_recv hk.1 hP (ci := 5) (q0 := 0) rfl (wC_0 _ _ _ _))) rfl rfl hl.1 rfl (lv_room (Nat.le_of_ble_eq_true rfl)) dX5_whyNotDeliver_7 ⟨Nat.zero_le _, Nat.zero_le _⟩) hS (fun locs hS => ?_)
  refine lv_iload_n hx hb dX5_whyNotDeliver_10 rfl (lv_at hl 3 rfl) ?_
  refine lv_iconst (v := 1) hx hb dX5_whyNotDeliver_11 (by decide) ?_
  refine lv_bipush (v := 50) hx hb dX5_whyNotDeliver_12 (by decide) ?_
  refine bcall_Rv (va_runS (As := [.int a3, .int 1, .int 50]) (rest := []) ⟨hx, hb, hml, hown, hts⟩ (C5_needRange l D cI cO q _ a3 1 50 hn2) (va_cwS 3 hts gX5_whyNotDeliver_X5_needRange rfl rfl rfl bd_X5needRange ⟨Nat.le_of_ble_eq_true rfl, Nat.le_of_ble_eq_true rfl⟩) (bPS hk) rfl rfl hl.1 rfl (lv_room (Nat.le_of_ble_eq_true rfl)) dX5_whyNotDeliver_14 ⟨Nat.zero_le _, Nat.zero_le _⟩) hS (fun locs hS => ?_)
  refine lv_aload_n hx hb dX5_whyNotDeliver_17 rfl (lv_at hl 0 rfl) ?_
  refine va_get (D := D) (ci := 5) (C := RX5) (T := TX5) (N := 5) hx hb hts iX5 hown hk.1 hP 0 (wC_0 _ _ _ _) rfl 2 (by decide) (hts (.fieldLink RX5 12 "BottleLoop" "trade" "LBottleLoop$Trade;") (List.mem_of_getElem? (i := 1) rfl)) (fun _ h9 => h9) rfl dX5_whyNotDeliver_18 ?_
  refine lv_iload_n hx hb dX5_whyNotDeliver_21 rfl (lv_at hl 1 rfl) ?_
  refine lv_iload_n hx hb dX5_whyNotDeliver_22 rfl (lv_at hl 2 rfl) ?_
  refine lv_iload_n hx hb dX5_whyNotDeliver_23 rfl (lv_at hl 3 rfl) ?_
  refine bcall_Ri (va_runVN (As := [.int a1, .int a2, .int a3]) (rest := []) ⟨hx, hb, hml, hown, hts⟩ (C4_deliverReason l D cI cO q _ _ hP a1 a2 a3) ⟨va_cnB 3 hts gX5_whyNotDeliver_X4_deliverReason_n113 rfl rfl rfl (hk.2 (.methodLinkNest RX5 113 yX4_deliverReason RX5) (List.mem_of_getElem? (i := 30) rfl)) (hts (.initialized RX4) (List.mem_of_getElem? (i := 40) rfl)) bd_X4deliverReason ⟨Nat.le_of_ble_eq_true rfl, Nat.le_of_ble_eq_true rfl⟩, (hts (.instanceMethod yX4_deliverReason) (List.mem_of_getElem? (i := 39) rfl)), (hts (.selects RX4 yX4_deliverReason yX4_deliverReason) (List.mem_of_getElem? (i := 41) rfl))⟩ (bPV hk (va_recv hk.1 hP (ci := 4) (q0 := 1) rfl (wC_1 _ _ _ _))) rfl rfl hl.1 rfl (lv_room (Nat.le_of_ble_eq_true rfl)) dX5_whyNotDeliver_24 ⟨Nat.zero_le _, Nat.zero_le _⟩) hS (fun locs hS => ?_)
  exact bret_Ri hx hb hr hS hlocks dX5_whyNotDeliver_27 (by rw [← hF, F5_whyNotDeliver])
def F5_whyNotCollect (u : bU) (a1 : Int32) (a2 : Int32) (a3 : Int32) : Int32 := (F4_collectReason u a1 a2 a3)
set_option maxHeartbeats 4000000 in
set_option maxRecDepth 100000 in
theorem C5_whyNotCollect (l : Launch) (D : va_G) (cI cO : ClassId) (q : Nat → Nat) (u : bU) (H0 : Heap) (hP : va_P D vwCl (wC cI cO q u) H0) (a1 : Int32) (a2 : Int32) (a3 : Int32) (hn0 : (F5_needShop u a1) = 0) (hn1 : (F5_needKind a2) = 0) (hn2 : (F5_needRange a3 1 50) = 0) : Met l yX5_whyNotCollect wsX5_whyNotCollect ({ frames := 4, cells := 0, slots := 0, locals := 90 }) (bP D [(cI, .int), (cO, .object RX2)] H0 [.ref (q 0), .int a1, .int a2, .int a3]) (bRi H0 (F5_whyNotCollect u a1 a2 a3)) 0 0 (fun _ => False) := by
  refine Met.ofW (cc := cX5_whyNotCollect) (maxL := 4) (ret := (some .int)) (by decide) rfl ?_
  intro p e s m args below meth c s₁ B hml hv
  obtain ⟨rfl, hH, hk⟩ := hv
  subst hH
  have hx := B.exec
  have hb := B.bytes
  have hr := B.returns
  have hts := atoms_spec (ws := wsX5_whyNotCollect) B.pre
  have hown : s.vm.findClass RX5 = some m.cls := findClass_of_methodNamed B.named
  have hlocks := B.notSynchronized
  have iX5 : ∀ w ∈ wsX50, w ∈ wsX5_whyNotCollect := by decide +kernel
  have hS : va_S (fun _ => False) s.heap s.heap [] := va_S.rf
  have hl := lv_entry ([.ref (q 0), .int a1, .int a2, .int a3]) (n := 4) (Nat.le_of_ble_eq_true rfl)
  rw [lg_entry_eq]
  generalize (lg_sl ([.ref (q 0), .int a1, .int a2, .int a3]) ++ List.replicate (4 - (lg_sl ([.ref (q 0), .int a1, .int a2, .int a3])).length) Slot.unset).toArray = ls at hl ⊢
  have hl : lv_has ls 4 [(0, .ref (q 0)), (1, .int a1), (2, .int a2), (3, .int a3)] := hl
  generalize hF : F5_whyNotCollect u a1 a2 a3 = tgt
  refine lv_aload_n hx hb dX5_whyNotCollect_0 rfl (lv_at hl 0 rfl) ?_
  refine lv_iload_n hx hb dX5_whyNotCollect_1 rfl (lv_at hl 1 rfl) ?_
  refine bcall_Rv (va_runV (As := [.int a1]) (rest := []) ⟨hx, hb, hml, hown, hts⟩ (C5_needShop l D cI cO q _ _ hP a1 hn0) (cwV 1 hts gX5_whyNotCollect_X5_needShop rfl rfl rfl ⟨rfl, bd_X5needShop⟩ ⟨Nat.le_of_ble_eq_true rfl, Nat.le_of_ble_eq_true rfl⟩) (bPV hk (va_recv hk.1 hP (ci := 5) (q0 := 0) rfl (wC_0 _ _ _ _))) rfl rfl hl.1 rfl (lv_room (Nat.le_of_ble_eq_true rfl)) dX5_whyNotCollect_2 ⟨Nat.zero_le _, Nat.zero_le _⟩) hS (fun locs hS => ?_)
  refine lv_iload_n hx hb dX5_whyNotCollect_5 rfl (lv_at hl 2 rfl) ?_
  refine bcall_Rv (va_runS (As := [.int a2]) (rest := []) ⟨hx, hb, hml, hown, hts⟩ (C5_needKind l D cI cO q _ a2 hn1) (va_cwS 1 hts gX5_whyNotCollect_X5_needKind rfl rfl rfl bd_X5needKind ⟨Nat.le_of_ble_eq_true rfl, Nat.le_of_ble_eq_true rfl⟩) (bPS hk) rfl rfl hl.1 rfl (lv_room (Nat.le_of_ble_eq_true rfl)) dX5_whyNotCollect_6 ⟨Nat.zero_le _, Nat.zero_le _⟩) hS (fun locs hS => ?_)
  refine lv_iload_n hx hb dX5_whyNotCollect_9 rfl (lv_at hl 3 rfl) ?_
  refine lv_iconst (v := 1) hx hb dX5_whyNotCollect_10 (by decide) ?_
  refine lv_bipush (v := 50) hx hb dX5_whyNotCollect_11 (by decide) ?_
  refine bcall_Rv (va_runS (As := [.int a3, .int 1, .int 50]) (rest := []) ⟨hx, hb, hml, hown, hts⟩ (C5_needRange l D cI cO q _ a3 1 50 hn2) (va_cwS 3 hts gX5_whyNotCollect_X5_needRange rfl rfl rfl bd_X5needRange ⟨Nat.le_of_ble_eq_true rfl, Nat.le_of_ble_eq_true rfl⟩) (bPS hk) rfl rfl hl.1 rfl (lv_room (Nat.le_of_ble_eq_true rfl)) dX5_whyNotCollect_13 ⟨Nat.zero_le _, Nat.zero_le _⟩) hS (fun locs hS => ?_)
  refine lv_aload_n hx hb dX5_whyNotCollect_16 rfl (lv_at hl 0 rfl) ?_
  refine va_get (D := D) (ci := 5) (C := RX5) (T := TX5) (N := 5) hx hb hts iX5 hown hk.1 hP 0 (wC_0 _ _ _ _) rfl 2 (by decide) (hts (.fieldLink RX5 12 "BottleLoop" "trade" "LBottleLoop$Trade;") (List.mem_of_getElem? (i := 1) rfl)) (fun _ h9 => h9) rfl dX5_whyNotCollect_17 ?_
  refine lv_iload_n hx hb dX5_whyNotCollect_20 rfl (lv_at hl 1 rfl) ?_
  refine lv_iload_n hx hb dX5_whyNotCollect_21 rfl (lv_at hl 2 rfl) ?_
  refine lv_iload_n hx hb dX5_whyNotCollect_22 rfl (lv_at hl 3 rfl) ?_
  refine bcall_Ri (va_runVN (As := [.int a1, .int a2, .int a3]) (rest := []) ⟨hx, hb, hml, hown, hts⟩ (C4_collectReason l D cI cO q _ _ hP a1 a2 a3) ⟨va_cnB 3 hts gX5_whyNotCollect_X4_collectReason_n141 rfl rfl rfl (hk.2 (.methodLinkNest RX5 141 yX4_collectReason RX5) (List.mem_of_getElem? (i := 42) rfl)) (hts (.initialized RX4) (List.mem_of_getElem? (i := 35) rfl)) bd_X4collectReason ⟨Nat.le_of_ble_eq_true rfl, Nat.le_of_ble_eq_true rfl⟩, (hts (.instanceMethod yX4_collectReason) (List.mem_of_getElem? (i := 34) rfl)), (hts (.selects RX4 yX4_collectReason yX4_collectReason) (List.mem_of_getElem? (i := 36) rfl))⟩ (bPV hk (va_recv hk.1 hP (ci := 4) (q0 := 1) rfl (wC_1 _ _ _ _))) rfl rfl hl.1 rfl (lv_room (Nat.le_of_ble_eq_true rfl)) dX5_whyNotCollect_23 ⟨Nat.zero_le _, Nat.zero_le _⟩) hS (fun locs hS => ?_)
  exact bret_Ri hx hb hr hS hlocks dX5_whyNotCollect_26 (by rw [← hF, F5_whyNotCollect])
def F5_mostCrates (u : bU) (a1 : Int32) (a2 : Int32) : Int32 := (F4_mostDeliverable u a1 a2)
set_option maxHeartbeats 4000000 in
set_option maxRecDepth 100000 in
theorem C5_mostCrates (l : Launch) (D : va_G) (cI cO : ClassId) (q : Nat → Nat) (u : bU) (H0 : Heap) (hP : va_P D vwCl (wC cI cO q u) H0) (a1 : Int32) (a2 : Int32) (hn0 : (F5_needBrand u a1) = 0) (hn1 : (F5_needShop u a2) = 0) : Met l yX5_mostCrates wsX5_mostCrates ({ frames := 5, cells := 0, slots := 0, locals := 109 }) (bP D [(cI, .int), (cO, .object RX2)] H0 [.ref (q 0), .int a1, .int a2]) (bRi H0 (F5_mostCrates u a1 a2)) 0 0 (fun _ => False) := by
  refine Met.ofW (cc := cX5_mostCrates) (maxL := 3) (ret := (some .int)) (by decide) rfl ?_
  intro p e s m args below meth c s₁ B hml hv
  obtain ⟨rfl, hH, hk⟩ := hv
  subst hH
  have hx := B.exec
  have hb := B.bytes
  have hr := B.returns
  have hts := atoms_spec (ws := wsX5_mostCrates) B.pre
  have hown : s.vm.findClass RX5 = some m.cls := findClass_of_methodNamed B.named
  have hlocks := B.notSynchronized
  have iX5 : ∀ w ∈ wsX50, w ∈ wsX5_mostCrates := by decide +kernel
  have hS : va_S (fun _ => False) s.heap s.heap [] := va_S.rf
  have hl := lv_entry ([.ref (q 0), .int a1, .int a2]) (n := 3) (Nat.le_of_ble_eq_true rfl)
  rw [lg_entry_eq]
  generalize (lg_sl ([.ref (q 0), .int a1, .int a2]) ++ List.replicate (3 - (lg_sl ([.ref (q 0), .int a1, .int a2])).length) Slot.unset).toArray = ls at hl ⊢
  have hl : lv_has ls 3 [(0, .ref (q 0)), (1, .int a1), (2, .int a2)] := hl
  generalize hF : F5_mostCrates u a1 a2 = tgt
  refine lv_aload_n hx hb dX5_mostCrates_0 rfl (lv_at hl 0 rfl) ?_
  refine lv_iload_n hx hb dX5_mostCrates_1 rfl (lv_at hl 1 rfl) ?_
  refine bcall_Rv (va_runV (As := [.int a1]) (rest := []) ⟨hx, hb, hml, hown, hts⟩ (C5_needBrand l D cI cO q _ _ hP a1 hn0) (cwV 1 hts gX5_mostCrates_X5_needBrand rfl rfl rfl ⟨rfl, bd_X5needBrand⟩ ⟨Nat.le_of_ble_eq_true rfl, Nat.le_of_ble_eq_true rfl⟩) (bPV hk (va_recv hk.1 hP (ci := 5) (q0 := 0) rfl (wC_0 _ _ _ _))) rfl rfl hl.1 rfl (lv_room (Nat.le_of_ble_eq_true rfl)) dX5_mostCrates_2 ⟨Nat.zero_le _, Nat.zero_le _⟩) hS (fun locs hS => ?_)
  refine lv_aload_n hx hb dX5_mostCrates_5 rfl (lv_at hl 0 rfl) ?_
  refine lv_iload_n hx hb dX5_mostCrates_6 rfl (lv_at hl 2 rfl) ?_
  refine bcall_Rv (va_runV (As := [.int a2]) (rest := []) ⟨hx, hb, hml, hown, hts⟩ (C5_needShop l D cI cO q _ _ hP a2 hn1) (cwV 1 hts gX5_mostCrates_X5_needShop rfl rfl rfl ⟨rfl, bd_X5needShop⟩ ⟨Nat.le_of_ble_eq_true rfl, Nat.le_of_ble_eq_true rfl⟩) (bPV hk (va_recv hk.1 hP (ci := 5) (q0 := 0) rfl (wC_0 _ _ _ _))) rfl rfl hl.1 rfl (lv_room (Nat.le_of_ble_eq_true rfl)) dX5_mostCrates_7 ⟨Nat.zero_le _, Nat.zero_le _⟩) hS (fun locs hS => ?_)
  refine lv_aload_n hx hb dX5_mostCrates_10 rfl (lv_at hl 0 rfl) ?_
  refine va_get (D := D) (ci := 5) (C := RX5) (T := TX5) (N := 5) hx hb hts iX5 hown hk.1 hP 0 (wC_0 _ _ _ _) rfl 2 (by decide) (hts (.fieldLink RX5 12 "BottleLoop" "trade" "LBottleLoop$Trade;") (List.mem_of_getElem? (i := 1) rfl)) (fun _ h9 => h9) rfl dX5_mostCrates_11 ?_
  refine lv_iload_n hx hb dX5_mostCrates_14 rfl (lv_at hl 1 rfl) ?_
  refine lv_iload_n hx hb dX5_mostCrates_15 rfl (lv_at hl 2 rfl) ?_
  refine bcall_Ri (va_runVN (As := [.int a1, .int a2]) (rest := []) ⟨hx, hb, hml, hown, hts⟩ (C4_mostDeliverable l D cI cO q _ _ hP a1 a2) ⟨va_cnB 2 hts gX5_mostCrates_X4_mostDeliverable_n195 rfl rfl rfl (hk.2 (.methodLinkNest RX5 195 yX4_mostDeliverable RX5) (List.mem_of_getElem? (i := 32) rfl)) (hts (.initialized RX4) (List.mem_of_getElem? (i := 32) rfl)) bd_X4mostDeliverable ⟨Nat.le_of_ble_eq_true rfl, Nat.le_of_ble_eq_true rfl⟩, (hts (.instanceMethod yX4_mostDeliverable) (List.mem_of_getElem? (i := 31) rfl)), (hts (.selects RX4 yX4_mostDeliverable yX4_mostDeliverable) (List.mem_of_getElem? (i := 33) rfl))⟩ (bPV hk (va_recv hk.1 hP (ci := 4) (q0 := 1) rfl (wC_1 _ _ _ _))) rfl rfl hl.1 rfl (lv_room (Nat.le_of_ble_eq_true rfl)) dX5_mostCrates_16 ⟨Nat.zero_le _, Nat.zero_le _⟩) hS (fun locs hS => ?_)
  exact bret_Ri hx hb hr hS hlocks dX5_mostCrates_19 (by rw [← hF, F5_mostCrates])
def F5_filled (u : bU) (a1 : Int32) (a2 : Int32) : Int32 := (a2 - (F4_wornBy u a1 a2))
set_option maxHeartbeats 4000000 in
set_option maxRecDepth 100000 in
theorem C5_filled (l : Launch) (D : va_G) (cI cO : ClassId) (q : Nat → Nat) (u : bU) (H0 : Heap) (hP : va_P D vwCl (wC cI cO q u) H0) (a1 : Int32) (a2 : Int32) (hn0 : (F5_needBrand u a1) = 0) (hn1 : (F5_needRange a2 1 5000) = 0) : Met l yX5_filled wsX5_filled ({ frames := 4, cells := 0, slots := 0, locals := 84 }) (bP D [(cI, .int), (cO, .object RX2)] H0 [.ref (q 0), .int a1, .int a2]) (bRi H0 (F5_filled u a1 a2)) 0 0 (fun _ => False) := by
  refine Met.ofW (cc := cX5_filled) (maxL := 3) (ret := (some .int)) (by decide) rfl ?_
  intro p e s m args below meth c s₁ B hml hv
  obtain ⟨rfl, hH, hk⟩ := hv
  subst hH
  have hx := B.exec
  have hb := B.bytes
  have hr := B.returns
  have hts := atoms_spec (ws := wsX5_filled) B.pre
  have hown : s.vm.findClass RX5 = some m.cls := findClass_of_methodNamed B.named
  have hlocks := B.notSynchronized
  have iX5 : ∀ w ∈ wsX50, w ∈ wsX5_filled := by decide +kernel
  have hS : va_S (fun _ => False) s.heap s.heap [] := va_S.rf
  have hl := lv_entry ([.ref (q 0), .int a1, .int a2]) (n := 3) (Nat.le_of_ble_eq_true rfl)
  rw [lg_entry_eq]
  generalize (lg_sl ([.ref (q 0), .int a1, .int a2]) ++ List.replicate (3 - (lg_sl ([.ref (q 0), .int a1, .int a2])).length) Slot.unset).toArray = ls at hl ⊢
  have hl : lv_has ls 3 [(0, .ref (q 0)), (1, .int a1), (2, .int a2)] := hl
  generalize hF : F5_filled u a1 a2 = tgt
  refine lv_aload_n hx hb dX5_filled_0 rfl (lv_at hl 0 rfl) ?_
  refine lv_iload_n hx hb dX5_filled_1 rfl (lv_at hl 1 rfl) ?_
  refine bcall_Rv (va_runV (As := [.int a1]) (rest := []) ⟨hx, hb, hml, hown, hts⟩ (C5_needBrand l D cI cO q _ _ hP a1 hn0) (cwV 1 hts gX5_filled_X5_needBrand rfl rfl rfl ⟨rfl, bd_X5needBrand⟩ ⟨Nat.le_of_ble_eq_true rfl, Nat.le_of_ble_eq_true rfl⟩) (bPV hk (va_recv hk.1 hP (ci := 5) (q0 := 0) rfl (wC_0 _ _ _ _))) rfl rfl hl.1 rfl (lv_room (Nat.le_of_ble_eq_true rfl)) dX5_filled_2 ⟨Nat.zero_le _, Nat.zero_le _⟩) hS (fun locs hS => ?_)
  refine lv_iload_n hx hb dX5_filled_5 rfl (lv_at hl 2 rfl) ?_
  refine lv_iconst (v := 1) hx hb dX5_filled_6 (by decide) ?_
  refine lv_sipush (v := 5000) hx hb dX5_filled_7 (by decide) ?_
  refine bcall_Rv (va_runS (As := [.int a2, .int 1, .int 5000]) (rest := []) ⟨hx, hb, hml, hown, hts⟩ (C5_needRange l D cI cO q _ a2 1 5000 hn1) (va_cwS 3 hts gX5_filled_X5_needRange rfl rfl rfl bd_X5needRange ⟨Nat.le_of_ble_eq_true rfl, Nat.le_of_ble_eq_true rfl⟩) (bPS hk) rfl rfl hl.1 rfl (lv_room (Nat.le_of_ble_eq_true rfl)) dX5_filled_10 ⟨Nat.zero_le _, Nat.zero_le _⟩) hS (fun locs hS => ?_)
  refine lv_iload_n hx hb dX5_filled_13 rfl (lv_at hl 2 rfl) ?_
  refine lv_aload_n hx hb dX5_filled_14 rfl (lv_at hl 0 rfl) ?_
  refine va_get (D := D) (ci := 5) (C := RX5) (T := TX5) (N := 5) hx hb hts iX5 hown hk.1 hP 0 (wC_0 _ _ _ _) rfl 2 (by decide) (hts (.fieldLink RX5 12 "BottleLoop" "trade" "LBottleLoop$Trade;") (List.mem_of_getElem? (i := 1) rfl)) (fun _ h9 => h9) rfl dX5_filled_15 ?_
  refine lv_iload_n hx hb dX5_filled_18 rfl (lv_at hl 1 rfl) ?_
  refine lv_iload_n hx hb dX5_filled_19 rfl (lv_at hl 2 rfl) ?_
  refine bcall_Ri (va_runVN (As := [.int a1, .int a2]) (rest := [.int a2]) ⟨hx, hb, hml, hown, hts⟩ (C4_wornBy l D cI cO q _ _ hP a1 a2) ⟨va_cnB 2 hts gX5_filled_X4_wornBy_n201 rfl rfl rfl (hk.2 (.methodLinkNest RX5 201 yX4_wornBy RX5) (List.mem_of_getElem? (i := 29) rfl)) (hts (.initialized RX4) (List.mem_of_getElem? (i := 32) rfl)) bd_X4wornBy ⟨Nat.le_of_ble_eq_true rfl, Nat.le_of_ble_eq_true rfl⟩, (hts (.instanceMethod yX4_wornBy) (List.mem_of_getElem? (i := 31) rfl)), (hts (.selects RX4 yX4_wornBy yX4_wornBy) (List.mem_of_getElem? (i := 33) rfl))⟩ (bPV hk (va_recv hk.1 hP (ci := 4) (q0 := 1) rfl (wC_1 _ _ _ _))) rfl rfl hl.1 rfl (lv_room (Nat.le_of_ble_eq_true rfl)) dX5_filled_20 ⟨Nat.zero_le _, Nat.zero_le _⟩) hS (fun locs hS => ?_)
  refine lv_isub hx hb dX5_filled_23 ?_
  exact bret_Ri hx hb hr hS hlocks dX5_filled_24 (by rw [← hF, F5_filled])
def F5_bestShop (u : bU) (a1 : Int32) : Int32 := (F4_bestToCollect u a1)
set_option maxHeartbeats 4000000 in
set_option maxRecDepth 100000 in
theorem C5_bestShop (l : Launch) (D : va_G) (cI cO : ClassId) (q : Nat → Nat) (u : bU) (H0 : Heap) (hP : va_P D vwCl (wC cI cO q u) H0) (a1 : Int32) (hn0 : (F5_needKind a1) = 0) : Met l yX5_bestShop wsX5_bestShop ({ frames := 5, cells := 0, slots := 0, locals := 115 }) (bP D [(cI, .int), (cO, .object RX2)] H0 [.ref (q 0), .int a1]) (bRi H0 (F5_bestShop u a1)) 0 0 (fun _ => False) := by
  refine Met.ofW (cc := cX5_bestShop) (maxL := 2) (ret := (some .int)) (by decide) rfl ?_
  intro p e s m args below meth c s₁ B hml hv
  obtain ⟨rfl, hH, hk⟩ := hv
  subst hH
  have hx := B.exec
  have hb := B.bytes
  have hr := B.returns
  have hts := atoms_spec (ws := wsX5_bestShop) B.pre
  have hown : s.vm.findClass RX5 = some m.cls := findClass_of_methodNamed B.named
  have hlocks := B.notSynchronized
  have iX5 : ∀ w ∈ wsX50, w ∈ wsX5_bestShop := by decide +kernel
  have hS : va_S (fun _ => False) s.heap s.heap [] := va_S.rf
  have hl := lv_entry ([.ref (q 0), .int a1]) (n := 2) (Nat.le_of_ble_eq_true rfl)
  rw [lg_entry_eq]
  generalize (lg_sl ([.ref (q 0), .int a1]) ++ List.replicate (2 - (lg_sl ([.ref (q 0), .int a1])).length) Slot.unset).toArray = ls at hl ⊢
  have hl : lv_has ls 2 [(0, .ref (q 0)), (1, .int a1)] := hl
  generalize hF : F5_bestShop u a1 = tgt
  refine lv_iload_n hx hb dX5_bestShop_0 rfl (lv_at hl 1 rfl) ?_
  refine bcall_Rv (va_runS (As := [.int a1]) (rest := []) ⟨hx, hb, hml, hown, hts⟩ (C5_needKind l D cI cO q _ a1 hn0) (va_cwS 1 hts gX5_bestShop_X5_needKind rfl rfl rfl bd_X5needKind ⟨Nat.le_of_ble_eq_true rfl, Nat.le_of_ble_eq_true rfl⟩) (bPS hk) rfl rfl hl.1 rfl (lv_room (Nat.le_of_ble_eq_true rfl)) dX5_bestShop_1 ⟨Nat.zero_le _, Nat.zero_le _⟩) hS (fun locs hS => ?_)
  refine lv_aload_n hx hb dX5_bestShop_4 rfl (lv_at hl 0 rfl) ?_
  refine va_get (D := D) (ci := 5) (C := RX5) (T := TX5) (N := 5) hx hb hts iX5 hown hk.1 hP 0 (wC_0 _ _ _ _) rfl 2 (by decide) (hts (.fieldLink RX5 12 "BottleLoop" "trade" "LBottleLoop$Trade;") (List.mem_of_getElem? (i := 1) rfl)) (fun _ h9 => h9) rfl dX5_bestShop_5 ?_
  refine lv_iload_n hx hb dX5_bestShop_8 rfl (lv_at hl 1 rfl) ?_
  refine bcall_Ri (va_runVN (As := [.int a1]) (rest := []) ⟨hx, hb, hml, hown, hts⟩ (C4_bestToCollect l D cI cO q _ _ hP a1) ⟨va_cnB 1 hts gX5_bestShop_X4_bestToCollect_n204 rfl rfl rfl (hk.2 (.methodLinkNest RX5 204 yX4_bestToCollect RX5) (List.mem_of_getElem? (i := 25) rfl)) (hts (.initialized RX4) (List.mem_of_getElem? (i := 15) rfl)) bd_X4bestToCollect ⟨Nat.le_of_ble_eq_true rfl, Nat.le_of_ble_eq_true rfl⟩, (hts (.instanceMethod yX4_bestToCollect) (List.mem_of_getElem? (i := 14) rfl)), (hts (.selects RX4 yX4_bestToCollect yX4_bestToCollect) (List.mem_of_getElem? (i := 16) rfl))⟩ (bPV hk (va_recv hk.1 hP (ci := 4) (q0 := 1) rfl (wC_1 _ _ _ _))) rfl rfl hl.1 rfl (lv_room (Nat.le_of_ble_eq_true rfl)) dX5_bestShop_9 ⟨Nat.zero_le _, Nat.zero_le _⟩) hS (fun locs hS => ?_)
  exact bret_Ri hx hb hr hS hlocks dX5_bestShop_12 (by rw [← hF, F5_bestShop])
def F5_collected (u : bU) (a1 : Int32) (a2 : Int32) (a3 : Int32) : Int32 × bU := ((F4_wouldCollect u a1 a2 a3).1, (F4_wouldCollect u a1 a2 a3).2)
set_option maxHeartbeats 4000000 in
set_option maxRecDepth 100000 in
theorem C5_collected (l : Launch) (D : va_G) (cI cO : ClassId) (q : Nat → Nat) (u : bU) (H0 : Heap) (hq : bInj 23 q) (hP : va_P D vwCl (wC cI cO q u) H0) (a1 : Int32) (a2 : Int32) (a3 : Int32) (hn0 : (F5_needShop u a1) = 0) (hn1 : (F5_needBrand u a2) = 0) (hn2 : (F5_needRange a3 1 50) = 0) : Met l yX5_collected wsX5_collected ({ frames := 5, cells := 0, slots := 0, locals := 114 }) (bP D [(cI, .int), (cO, .object RX2)] H0 [.ref (q 0), .int a1, .int a2, .int a3]) (bWi D (wC cI cO q) bT (bA 23 q H0.size) (F5_collected u a1 a2 a3)) 0 0 (bA 23 q H0.size) := by
  refine Met.ofW (cc := cX5_collected) (maxL := 4) (ret := (some .int)) (by decide) rfl ?_
  intro p e s m args below meth c s₁ B hml hv
  obtain ⟨rfl, hH, hk⟩ := hv
  subst hH
  have hx := B.exec
  have hb := B.bytes
  have hr := B.returns
  have hts := atoms_spec (ws := wsX5_collected) B.pre
  have hown : s.vm.findClass RX5 = some m.cls := findClass_of_methodNamed B.named
  have hlocks := B.notSynchronized
  have iX5 : ∀ w ∈ wsX50, w ∈ wsX5_collected := by decide +kernel
  have hS : va_S (bA 23 q s.heap.size) s.heap s.heap [] := va_S.rf
  have hl := lv_entry ([.ref (q 0), .int a1, .int a2, .int a3]) (n := 4) (Nat.le_of_ble_eq_true rfl)
  rw [lg_entry_eq]
  generalize (lg_sl ([.ref (q 0), .int a1, .int a2, .int a3]) ++ List.replicate (4 - (lg_sl ([.ref (q 0), .int a1, .int a2, .int a3])).length) Slot.unset).toArray = ls at hl ⊢
  have hl : lv_has ls 4 [(0, .ref (q 0)), (1, .int a1), (2, .int a2), (3, .int a3)] := hl
  generalize hF : F5_collected u a1 a2 a3 = tgt
  refine lv_aload_n hx hb dX5_collected_0 rfl (lv_at hl 0 rfl) ?_
  refine lv_iload_n hx hb dX5_collected_1 rfl (lv_at hl 1 rfl) ?_
  refine bcall_Rv (va_runV (As := [.int a1]) (rest := []) ⟨hx, hb, hml, hown, hts⟩ (C5_needShop l D cI cO q _ _ hP a1 hn0) (cwV 1 hts gX5_collected_X5_needShop rfl rfl rfl ⟨rfl, bd_X5needShop⟩ ⟨Nat.le_of_ble_eq_true rfl, Nat.le_of_ble_eq_true rfl⟩) (bPV hk (va_recv hk.1 hP (ci := 5) (q0 := 0) rfl (wC_0 _ _ _ _))) rfl rfl hl.1 rfl (lv_room (Nat.le_of_ble_eq_true rfl)) dX5_collected_2 ⟨Nat.zero_le _, Nat.zero_le _⟩) hS (fun locs hS => ?_)
  refine lv_aload_n hx hb dX5_collected_5 rfl (lv_at hl 0 rfl) ?_
  refine lv_iload_n hx hb dX5_collected_6 rfl (lv_at hl 2 rfl) ?_
  refine bcall_Rv (va_runV (As := [.int a2]) (rest := []) ⟨hx, hb, hml, hown, hts⟩ (C5_needBrand l D cI cO q _ _ hP a2 hn1) (cwV 1 hts gX5_collected_X5_needBrand rfl rfl rfl ⟨rfl, bd_X5needBrand⟩ ⟨Nat.le_of_ble_eq_true rfl, Nat.le_of_ble_eq_true rfl⟩) (bPV hk (va_recv hk.1 hP (ci := 5) (q0 := 0) rfl (wC_0 _ _ _ _))) rfl rfl hl.1 rfl (lv_room (Nat.le_of_ble_eq_true rfl)) dX5_collected_7 ⟨Nat.zero_le _, Nat.zero_le _⟩) hS (fun locs hS => ?_)
  refine lv_iload_n hx hb dX5_collected_10 rfl (lv_at hl 3 rfl) ?_
  refine lv_iconst (v := 1) hx hb dX5_collected_11 (by decide) ?_
  refine lv_bipush (v := 50) hx hb dX5_collected_12 (by decide) ?_
  refine bcall_Rv (va_runS (As := [.int a3, .int 1, .int 50]) (rest := []) ⟨hx, hb, hml, hown, hts⟩ (C5_needRange l D cI cO q _ a3 1 50 hn2) (va_cwS 3 hts gX5_collected_X5_needRange rfl rfl rfl bd_X5needRange ⟨Nat.le_of_ble_eq_true rfl, Nat.le_of_ble_eq_true rfl⟩) (bPS hk) rfl rfl hl.1 rfl (lv_room (Nat.le_of_ble_eq_true rfl)) dX5_collected_14 ⟨Nat.zero_le _, Nat.zero_le _⟩) hS (fun locs hS => ?_)
  refine lv_aload_n hx hb dX5_collected_17 rfl (lv_at hl 0 rfl) ?_
  refine va_get (D := D) (ci := 5) (C := RX5) (T := TX5) (N := 5) hx hb hts iX5 hown hk.1 hP 0 (wC_0 _ _ _ _) rfl 2 (by decide) (hts (.fieldLink RX5 12 "BottleLoop" "trade" "LBottleLoop$Trade;") (List.mem_of_getElem? (i := 1) rfl)) (fun _ h9 => h9) rfl dX5_collected_18 ?_
  refine lv_iload_n hx hb dX5_collected_21 rfl (lv_at hl 1 rfl) ?_
  refine lv_iload_n hx hb dX5_collected_22 rfl (lv_at hl 2 rfl) ?_
  refine lv_iload_n hx hb dX5_collected_23 rfl (lv_at hl 3 rfl) ?_
  refine bcall_Wi (va_runVN (As := [.int a1, .int a2, .int a3]) (rest := []) ⟨hx, hb, hml, hown, hts⟩ (C4_wouldCollect l D cI cO q _ _ hq hP a1 a2 a3) ⟨va_cnB 3 hts gX5_collected_X4_wouldCollect_n198 rfl rfl rfl (hk.2 (.methodLinkNest RX5 198 yX4_wouldCollect RX5) (List.mem_of_getElem? (i := 40) rfl)) (hts (.initialized RX4) (List.mem_of_getElem? (i := 40) rfl)) bd_X4wouldCollect ⟨Nat.le_of_ble_eq_true rfl, Nat.le_of_ble_eq_true rfl⟩, (hts (.instanceMethod yX4_wouldCollect) (List.mem_of_getElem? (i := 39) rfl)), (hts (.selects RX4 yX4_wouldCollect yX4_wouldCollect) (List.mem_of_getElem? (i := 41) rfl))⟩ (bPV hk (va_recv hk.1 hP (ci := 4) (q0 := 1) rfl (wC_1 _ _ _ _))) rfl rfl hl.1 rfl (lv_room (Nat.le_of_ble_eq_true rfl)) dX5_collected_24 ⟨Nat.zero_le _, Nat.zero_le _⟩) hS (fun H locs hP _ hS => ?_)
  exact bret_Wi hx hb hr hP trivial hS hlocks dX5_collected_27 (by rw [← hF, F5_collected])
def F5_addBrand (u : bU) (a1 : Int32) (a2 : Int32) : Int32 × Int32 × bU := (if (F5_needKind a1) = 0 then (if (F5_needRange a2 0 5000) = 0 then (if (8 : Int32) ≤ (F2_ofAll u 0) then (if (F5_needState 0) = 0 then (0, 0, u) else ((F5_needState 0), 0, u)) else (0, (F2_ofAll u 0), (F2_addToBrand (F2_addToBrand (F2_addToAll (F1_keep u) 0 1) (F2_ofAll u 0) 0 a1) (F2_ofAll u 0) 1 a2))) else ((F5_needRange a2 0 5000), 0, u)) else ((F5_needKind a1), 0, u))
set_option maxHeartbeats 4000000 in
set_option maxRecDepth 100000 in
theorem C5_addBrand (l : Launch) (D : va_G) (cI cO : ClassId) (q : Nat → Nat) (u : bU) (H0 : Heap) (hq : bInj 23 q) (hP : va_P D vwCl (wC cI cO q u) H0) (a1 : Int32) (a2 : Int32) (hlat : bLat u) (h0 : (F5_addBrand u a1 a2).1 = 0) : Met l yX5_addBrand wsX5_addBrand ({ frames := 3, cells := 0, slots := 0, locals := 243 }) (bP D [(cI, .int), (cO, .object RX2)] H0 [.ref (q 0), .int a1, .int a2]) (bWi D (wC cI cO q) bT (bA 23 q H0.size) ((F5_addBrand u a1 a2).2.1, (F5_addBrand u a1 a2).2.2)) 0 0 (bA 23 q H0.size) := by
  refine Met.ofW (cc := cX5_addBrand) (maxL := 4) (ret := (some .int)) (by decide) rfl ?_
  intro p e s m args below meth c s₁ B hml hv
  obtain ⟨rfl, hH, hk⟩ := hv
  subst hH
  have hx := B.exec
  have hb := B.bytes
  have hr := B.returns
  have hts := atoms_spec (ws := wsX5_addBrand) B.pre
  have hown : s.vm.findClass RX5 = some m.cls := findClass_of_methodNamed B.named
  have hlocks := B.notSynchronized
  have iX5 : ∀ w ∈ wsX50, w ∈ wsX5_addBrand := by decide +kernel
  have hS : va_S (bA 23 q s.heap.size) s.heap s.heap [] := va_S.rf
  have hl := lv_entry ([.ref (q 0), .int a1, .int a2]) (n := 4) (Nat.le_of_ble_eq_true rfl)
  rw [lg_entry_eq]
  generalize (lg_sl ([.ref (q 0), .int a1, .int a2]) ++ List.replicate (4 - (lg_sl ([.ref (q 0), .int a1, .int a2])).length) Slot.unset).toArray = ls at hl ⊢
  have hl : lv_has ls 4 [(0, .ref (q 0)), (1, .int a1), (2, .int a2)] := hl
  generalize hF : F5_addBrand u a1 a2 = tgt at h0 ⊢
  refine lv_iload_n hx hb dX5_addBrand_0 rfl (lv_at hl 1 rfl) ?_
  have c_1 : (F5_needKind a1) = 0 := Decidable.byContradiction (fun h9 => absurd ((congrArg Prod.fst (show ((F5_needKind a1), (0 : Int32), u) = tgt from by rw [← hF, F5_addBrand, if_neg h9])).trans h0) h9)
  refine bcall_Rv (va_runS (As := [.int a1]) (rest := []) ⟨hx, hb, hml, hown, hts⟩ (C5_needKind l D cI cO q _ a1 c_1) (va_cwS 1 hts gX5_addBrand_X5_needKind rfl rfl rfl bd_X5needKind ⟨Nat.le_of_ble_eq_true rfl, Nat.le_of_ble_eq_true rfl⟩) (bPS hk) rfl rfl hl.1 rfl (lv_room (Nat.le_of_ble_eq_true rfl)) dX5_addBrand_1 ⟨Nat.zero_le _, Nat.zero_le _⟩) hS (fun locs hS => ?_)
  refine lv_iload_n hx hb dX5_addBrand_4 rfl (lv_at hl 2 rfl) ?_
  refine lv_iconst (v := 0) hx hb dX5_addBrand_5 (by decide) ?_
  refine lv_sipush (v := 5000) hx hb dX5_addBrand_6 (by decide) ?_
  have c_2 : (F5_needRange a2 0 5000) = 0 := Decidable.byContradiction (fun h9 => absurd ((congrArg Prod.fst (show ((F5_needRange a2 0 5000), (0 : Int32), u) = tgt from by rw [← hF, F5_addBrand, if_pos c_1, if_neg h9])).trans h0) h9)
  refine bcall_Rv (va_runS (As := [.int a2, .int 0, .int 5000]) (rest := []) ⟨hx, hb, hml, hown, hts⟩ (C5_needRange l D cI cO q _ a2 0 5000 c_2) (va_cwS 3 hts gX5_addBrand_X5_needRange rfl rfl rfl bd_X5needRange ⟨Nat.le_of_ble_eq_true rfl, Nat.le_of_ble_eq_true rfl⟩) (bPS hk) rfl rfl hl.1 rfl (lv_room (Nat.le_of_ble_eq_true rfl)) dX5_addBrand_9 ⟨Nat.zero_le _, Nat.zero_le _⟩) hS (fun locs hS => ?_)
  refine lv_aload_n hx hb dX5_addBrand_12 rfl (lv_at hl 0 rfl) ?_
  refine va_get (D := D) (ci := 5) (C := RX5) (T := TX5) (N := 5) hx hb hts iX5 hown hk.1 hP 0 (wC_0 _ _ _ _) rfl 0 (by decide) (hts (.fieldLink RX5 20 "BottleLoop" "now" "LBottleLoop$State;") (List.mem_of_getElem? (i := 1) rfl)) (fun _ h9 => h9) rfl dX5_addBrand_13 ?_
  refine lv_iconst (v := 0) hx hb dX5_addBrand_16 (by decide) ?_
  refine bcall_Ri (va_runVN (As := [.int 0]) (rest := []) ⟨hx, hb, hml, hown, hts⟩ (C2_ofAll l D cI cO q _ _ hP 0) ⟨va_cnB 1 hts gX5_addBrand_X2_ofAll_n52 rfl rfl rfl (hk.2 (.methodLinkNest RX5 52 yX2_ofAll RX5) (List.mem_of_getElem? (i := 8) rfl)) (hts (.initialized RX2) (List.mem_of_getElem? (i := 16) rfl)) bd_X2ofAll ⟨Nat.le_of_ble_eq_true rfl, Nat.le_of_ble_eq_true rfl⟩, (hts (.instanceMethod yX2_ofAll) (List.mem_of_getElem? (i := 15) rfl)), (hts (.selects RX2 yX2_ofAll yX2_ofAll) (List.mem_of_getElem? (i := 17) rfl))⟩ (bPV hk (va_recv hk.1 hP (ci := 2) (q0 := 3) rfl (wC_3 _ _ _ _))) rfl rfl hl.1 rfl (lv_room (Nat.le_of_ble_eq_true rfl)) dX5_addBrand_17 ⟨Nat.zero_le _, Nat.zero_le _⟩) hS (fun locs hS => ?_)
  refine lv_istore_n (lv' := [(3, .int (F2_ofAll u 0)), (0, .ref (q 0)), (1, .int a1), (2, .int a2)]) hx hb dX5_addBrand_20 rfl hl (by decide) rfl (fun ls hl => ?_)
  refine lv_iload_n hx hb dX5_addBrand_21 rfl (lv_at hl 0 rfl) ?_
  refine lv_bipush (v := 8) hx hb dX5_addBrand_22 (by decide) ?_
  refine lv_icmp_ge (tgt := 31) hx hb dX5_addBrand_24 (by decide) (fun c_3 => ?_) (fun c_3 => ?_)
  · refine lv_iconst (v := 0) hx hb dX5_addBrand_31 (by decide) ?_
    have c_4 : (F5_needState 0) = 0 := Decidable.byContradiction (fun h9 => absurd ((congrArg Prod.fst (show ((F5_needState 0), (0 : Int32), u) = tgt from by rw [← hF, F5_addBrand, if_pos c_1, if_pos c_2, if_pos c_3, if_neg h9])).trans h0) h9)
    exact absurd c_4 (by decide)
  · refine lv_iconst (v := 1) hx hb dX5_addBrand_27 (by decide) ?_
    refine lv_goto (tgt := 32) hx hb dX5_addBrand_28 (by decide) ?_
    refine bcall_Rv (va_runS (As := [.int 1]) (rest := []) ⟨hx, hb, hml, hown, hts⟩ (C5_needState l D cI cO q _ 1 (by decide)) (va_cwS 1 hts gX5_addBrand_X5_needState rfl rfl rfl bd_X5needState ⟨Nat.le_of_ble_eq_true rfl, Nat.le_of_ble_eq_true rfl⟩) (bPS hk) rfl rfl hl.1 rfl (lv_room (Nat.le_of_ble_eq_true rfl)) dX5_addBrand_32 ⟨Nat.zero_le _, Nat.zero_le _⟩) hS (fun locs hS => ?_)
    refine lv_aload_n hx hb dX5_addBrand_35 rfl (lv_at hl 1 rfl) ?_
    refine va_get (D := D) (ci := 5) (C := RX5) (T := TX5) (N := 5) hx hb hts iX5 hown hk.1 hP 0 (wC_0 _ _ _ _) rfl 1 (by decide) (hts (.fieldLink RX5 26 "BottleLoop" "past" "LBottleLoop$Past;") (List.mem_of_getElem? (i := 2) rfl)) (fun _ h9 => h9) rfl dX5_addBrand_36 ?_
    refine lv_aload_n hx hb dX5_addBrand_39 rfl (lv_at hl 1 rfl) ?_
    refine va_get (D := D) (ci := 5) (C := RX5) (T := TX5) (N := 5) hx hb hts iX5 hown hk.1 hP 0 (wC_0 _ _ _ _) rfl 0 (by decide) (hts (.fieldLink RX5 20 "BottleLoop" "now" "LBottleLoop$State;") (List.mem_of_getElem? (i := 1) rfl)) (fun _ h9 => h9) rfl dX5_addBrand_40 ?_
    refine bcall_Wv (va_runVN (As := [.ref (q 3)]) (rest := []) ⟨hx, hb, hml, hown, hts⟩ (C1_keep l D cI cO q _ _ hq hP  hlat) ⟨va_cnB 1 hts gX5_addBrand_X1_keep_n62 rfl rfl rfl (hk.2 (.methodLinkNest RX5 62 yX1_keep RX5) (List.mem_of_getElem? (i := 9) rfl)) (hts (.initialized RX1) (List.mem_of_getElem? (i := 30) rfl)) bd_X1keep ⟨Nat.le_of_ble_eq_true rfl, Nat.le_of_ble_eq_true rfl⟩, (hts (.instanceMethod yX1_keep) (List.mem_of_getElem? (i := 29) rfl)), (hts (.selects RX1 yX1_keep yX1_keep) (List.mem_of_getElem? (i := 31) rfl))⟩ (bPV hk (va_recv hk.1 hP (ci := 1) (q0 := 5) rfl (wC_5 _ _ _ _))) rfl rfl hl.1 rfl (lv_room (Nat.le_of_ble_eq_true rfl)) dX5_addBrand_43 ⟨Nat.zero_le _, Nat.zero_le _⟩) hS (fun H locs hP _ hS => ?_)
    refine lv_aload_n hx hb dX5_addBrand_46 rfl (lv_at hl 1 rfl) ?_
    refine va_get (D := D) (ci := 5) (C := RX5) (T := TX5) (N := 5) hx hb hts iX5 hown hk.1 hP 0 (wC_0 _ _ _ _) rfl 0 (by decide) (hts (.fieldLink RX5 20 "BottleLoop" "now" "LBottleLoop$State;") (List.mem_of_getElem? (i := 1) rfl)) (fun _ h9 => h9) rfl dX5_addBrand_47 ?_
    refine lv_iconst (v := 0) hx hb dX5_addBrand_50 (by decide) ?_
    refine lv_iconst (v := 1) hx hb dX5_addBrand_51 (by decide) ?_
    refine bcall_Wv (va_runVN (As := [.int 0, .int 1]) (rest := []) ⟨hx, hb, hml, hown, hts⟩ (C2_addToAll l D cI cO q _ _ hq hP 0 1) ⟨va_cnB 2 hts gX5_addBrand_X2_addToAll_n66 rfl rfl rfl (hk.2 (.methodLinkNest RX5 66 yX2_addToAll RX5) (List.mem_of_getElem? (i := 11) rfl)) (hts (.initialized RX2) (List.mem_of_getElem? (i := 16) rfl)) bd_X2addToAll ⟨Nat.le_of_ble_eq_true rfl, Nat.le_of_ble_eq_true rfl⟩, (hts (.instanceMethod yX2_addToAll) (List.mem_of_getElem? (i := 47) rfl)), (hts (.selects RX2 yX2_addToAll yX2_addToAll) (List.mem_of_getElem? (i := 48) rfl))⟩ (bPV hk (va_recv hk.1 hP (ci := 2) (q0 := 3) rfl (wC_3 _ _ _ _))) rfl rfl hl.1 rfl (lv_room (Nat.le_of_ble_eq_true rfl)) dX5_addBrand_52 ⟨Nat.zero_le _, Nat.zero_le _⟩) hS (fun H locs hP _ hS => ?_)
    refine lv_aload_n hx hb dX5_addBrand_55 rfl (lv_at hl 1 rfl) ?_
    refine va_get (D := D) (ci := 5) (C := RX5) (T := TX5) (N := 5) hx hb hts iX5 hown hk.1 hP 0 (wC_0 _ _ _ _) rfl 0 (by decide) (hts (.fieldLink RX5 20 "BottleLoop" "now" "LBottleLoop$State;") (List.mem_of_getElem? (i := 1) rfl)) (fun _ h9 => h9) rfl dX5_addBrand_56 ?_
    refine lv_iload_n hx hb dX5_addBrand_59 rfl (lv_at hl 0 rfl) ?_
    refine lv_iconst (v := 0) hx hb dX5_addBrand_60 (by decide) ?_
    refine lv_iload_n hx hb dX5_addBrand_61 rfl (lv_at hl 2 rfl) ?_
    refine bcall_Wv (va_runVN (As := [.int (F2_ofAll u 0), .int 0, .int a1]) (rest := []) ⟨hx, hb, hml, hown, hts⟩ (C2_addToBrand l D cI cO q _ _ hq hP (F2_ofAll u 0) 0 a1) ⟨va_cnB 3 hts gX5_addBrand_X2_addToBrand_n70 rfl rfl rfl (hk.2 (.methodLinkNest RX5 70 yX2_addToBrand RX5) (List.mem_of_getElem? (i := 12) rfl)) (hts (.initialized RX2) (List.mem_of_getElem? (i := 16) rfl)) bd_X2addToBrand ⟨Nat.le_of_ble_eq_true rfl, Nat.le_of_ble_eq_true rfl⟩, (hts (.instanceMethod yX2_addToBrand) (List.mem_of_getElem? (i := 54) rfl)), (hts (.selects RX2 yX2_addToBrand yX2_addToBrand) (List.mem_of_getElem? (i := 55) rfl))⟩ (bPV hk (va_recv hk.1 hP (ci := 2) (q0 := 3) rfl (wC_3 _ _ _ _))) rfl rfl hl.1 rfl (lv_room (Nat.le_of_ble_eq_true rfl)) dX5_addBrand_62 ⟨Nat.zero_le _, Nat.zero_le _⟩) hS (fun H locs hP _ hS => ?_)
    refine lv_aload_n hx hb dX5_addBrand_65 rfl (lv_at hl 1 rfl) ?_
    refine va_get (D := D) (ci := 5) (C := RX5) (T := TX5) (N := 5) hx hb hts iX5 hown hk.1 hP 0 (wC_0 _ _ _ _) rfl 0 (by decide) (hts (.fieldLink RX5 20 "BottleLoop" "now" "LBottleLoop$State;") (List.mem_of_getElem? (i := 1) rfl)) (fun _ h9 => h9) rfl dX5_addBrand_66 ?_
    refine lv_iload_n hx hb dX5_addBrand_69 rfl (lv_at hl 0 rfl) ?_
    refine lv_iconst (v := 1) hx hb dX5_addBrand_70 (by decide) ?_
    refine lv_iload_n hx hb dX5_addBrand_71 rfl (lv_at hl 3 rfl) ?_
    refine bcall_Wv (va_runVN (As := [.int (F2_ofAll u 0), .int 1, .int a2]) (rest := []) ⟨hx, hb, hml, hown, hts⟩ (C2_addToBrand l D cI cO q _ _ hq hP (F2_ofAll u 0) 1 a2) ⟨va_cnB 3 hts gX5_addBrand_X2_addToBrand_n70 rfl rfl rfl (hk.2 (.methodLinkNest RX5 70 yX2_addToBrand RX5) (List.mem_of_getElem? (i := 12) rfl)) (hts (.initialized RX2) (List.mem_of_getElem? (i := 16) rfl)) bd_X2addToBrand ⟨Nat.le_of_ble_eq_true rfl, Nat.le_of_ble_eq_true rfl⟩, (hts (.instanceMethod yX2_addToBrand) (List.mem_of_getElem? (i := 54) rfl)), (hts (.selects RX2 yX2_addToBrand yX2_addToBrand) (List.mem_of_getElem? (i := 55) rfl))⟩ (bPV hk (va_recv hk.1 hP (ci := 2) (q0 := 3) rfl (wC_3 _ _ _ _))) rfl rfl hl.1 rfl (lv_room (Nat.le_of_ble_eq_true rfl)) dX5_addBrand_72 ⟨Nat.zero_le _, Nat.zero_le _⟩) hS (fun H locs hP _ hS => ?_)
    refine lv_iload_n hx hb dX5_addBrand_75 rfl (lv_at hl 0 rfl) ?_
    exact bret_Yi hx hb hr hP hS hlocks dX5_addBrand_76 (by rw [← hF, F5_addBrand, if_pos c_1, if_pos c_2, if_neg c_3])
def F5_addShop (u : bU) (a1 : Int32) : Int32 × Int32 × bU := (if (F5_needRange a1 0 100000) = 0 then (if (6 : Int32) ≤ (F2_ofAll u 1) then (if (F5_needState 0) = 0 then (0, 0, u) else ((F5_needState 0), 0, u)) else (0, (F2_ofAll u 1), (F2_addToShop (F2_addToAll (F1_keep u) 1 1) (F2_ofAll u 1) 0 a1))) else ((F5_needRange a1 0 100000), 0, u))
set_option maxHeartbeats 4000000 in
set_option maxRecDepth 100000 in
theorem C5_addShop (l : Launch) (D : va_G) (cI cO : ClassId) (q : Nat → Nat) (u : bU) (H0 : Heap) (hq : bInj 23 q) (hP : va_P D vwCl (wC cI cO q u) H0) (a1 : Int32) (hlat : bLat u) (h0 : (F5_addShop u a1).1 = 0) : Met l yX5_addShop wsX5_addShop ({ frames := 3, cells := 0, slots := 0, locals := 243 }) (bP D [(cI, .int), (cO, .object RX2)] H0 [.ref (q 0), .int a1]) (bWi D (wC cI cO q) bT (bA 23 q H0.size) ((F5_addShop u a1).2.1, (F5_addShop u a1).2.2)) 0 0 (bA 23 q H0.size) := by
  refine Met.ofW (cc := cX5_addShop) (maxL := 3) (ret := (some .int)) (by decide) rfl ?_
  intro p e s m args below meth c s₁ B hml hv
  obtain ⟨rfl, hH, hk⟩ := hv
  subst hH
  have hx := B.exec
  have hb := B.bytes
  have hr := B.returns
  have hts := atoms_spec (ws := wsX5_addShop) B.pre
  have hown : s.vm.findClass RX5 = some m.cls := findClass_of_methodNamed B.named
  have hlocks := B.notSynchronized
  have iX5 : ∀ w ∈ wsX50, w ∈ wsX5_addShop := by decide +kernel
  have hS : va_S (bA 23 q s.heap.size) s.heap s.heap [] := va_S.rf
  have hl := lv_entry ([.ref (q 0), .int a1]) (n := 3) (Nat.le_of_ble_eq_true rfl)
  rw [lg_entry_eq]
  generalize (lg_sl ([.ref (q 0), .int a1]) ++ List.replicate (3 - (lg_sl ([.ref (q 0), .int a1])).length) Slot.unset).toArray = ls at hl ⊢
  have hl : lv_has ls 3 [(0, .ref (q 0)), (1, .int a1)] := hl
  generalize hF : F5_addShop u a1 = tgt at h0 ⊢
  refine lv_iload_n hx hb dX5_addShop_0 rfl (lv_at hl 1 rfl) ?_
  refine lv_iconst (v := 0) hx hb dX5_addShop_1 (by decide) ?_
  refine lv_ldc (v := 100000) hx hb hown (hts (.constant RX5 73 (100000)) (List.mem_of_getElem? (i := 1) rfl)) dX5_addShop_2 ?_
  have c_1 : (F5_needRange a1 0 100000) = 0 := Decidable.byContradiction (fun h9 => absurd ((congrArg Prod.fst (show ((F5_needRange a1 0 100000), (0 : Int32), u) = tgt from by rw [← hF, F5_addShop, if_neg h9])).trans h0) h9)
  refine bcall_Rv (va_runS (As := [.int a1, .int 0, .int 100000]) (rest := []) ⟨hx, hb, hml, hown, hts⟩ (C5_needRange l D cI cO q _ a1 0 100000 c_1) (va_cwS 3 hts gX5_addShop_X5_needRange rfl rfl rfl bd_X5needRange ⟨Nat.le_of_ble_eq_true rfl, Nat.le_of_ble_eq_true rfl⟩) (bPS hk) rfl rfl hl.1 rfl (lv_room (Nat.le_of_ble_eq_true rfl)) dX5_addShop_4 ⟨Nat.zero_le _, Nat.zero_le _⟩) hS (fun locs hS => ?_)
  refine lv_aload_n hx hb dX5_addShop_7 rfl (lv_at hl 0 rfl) ?_
  refine va_get (D := D) (ci := 5) (C := RX5) (T := TX5) (N := 5) hx hb hts iX5 hown hk.1 hP 0 (wC_0 _ _ _ _) rfl 0 (by decide) (hts (.fieldLink RX5 20 "BottleLoop" "now" "LBottleLoop$State;") (List.mem_of_getElem? (i := 2) rfl)) (fun _ h9 => h9) rfl dX5_addShop_8 ?_
  refine lv_iconst (v := 1) hx hb dX5_addShop_11 (by decide) ?_
  refine bcall_Ri (va_runVN (As := [.int 1]) (rest := []) ⟨hx, hb, hml, hown, hts⟩ (C2_ofAll l D cI cO q _ _ hP 1) ⟨va_cnB 1 hts gX5_addShop_X2_ofAll_n52 rfl rfl rfl (hk.2 (.methodLinkNest RX5 52 yX2_ofAll RX5) (List.mem_of_getElem? (i := 8) rfl)) (hts (.initialized RX2) (List.mem_of_getElem? (i := 14) rfl)) bd_X2ofAll ⟨Nat.le_of_ble_eq_true rfl, Nat.le_of_ble_eq_true rfl⟩, (hts (.instanceMethod yX2_ofAll) (List.mem_of_getElem? (i := 13) rfl)), (hts (.selects RX2 yX2_ofAll yX2_ofAll) (List.mem_of_getElem? (i := 15) rfl))⟩ (bPV hk (va_recv hk.1 hP (ci := 2) (q0 := 3) rfl (wC_3 _ _ _ _))) rfl rfl hl.1 rfl (lv_room (Nat.le_of_ble_eq_true rfl)) dX5_addShop_12 ⟨Nat.zero_le _, Nat.zero_le _⟩) hS (fun locs hS => ?_)
  refine lv_istore_n (lv' := [(2, .int (F2_ofAll u 1)), (0, .ref (q 0)), (1, .int a1)]) hx hb dX5_addShop_15 rfl hl (by decide) rfl (fun ls hl => ?_)
  refine lv_iload_n hx hb dX5_addShop_16 rfl (lv_at hl 0 rfl) ?_
  refine lv_bipush (v := 6) hx hb dX5_addShop_17 (by decide) ?_
  refine lv_icmp_ge (tgt := 26) hx hb dX5_addShop_19 (by decide) (fun c_2 => ?_) (fun c_2 => ?_)
  · refine lv_iconst (v := 0) hx hb dX5_addShop_26 (by decide) ?_
    have c_3 : (F5_needState 0) = 0 := Decidable.byContradiction (fun h9 => absurd ((congrArg Prod.fst (show ((F5_needState 0), (0 : Int32), u) = tgt from by rw [← hF, F5_addShop, if_pos c_1, if_pos c_2, if_neg h9])).trans h0) h9)
    exact absurd c_3 (by decide)
  · refine lv_iconst (v := 1) hx hb dX5_addShop_22 (by decide) ?_
    refine lv_goto (tgt := 27) hx hb dX5_addShop_23 (by decide) ?_
    refine bcall_Rv (va_runS (As := [.int 1]) (rest := []) ⟨hx, hb, hml, hown, hts⟩ (C5_needState l D cI cO q _ 1 (by decide)) (va_cwS 1 hts gX5_addShop_X5_needState rfl rfl rfl bd_X5needState ⟨Nat.le_of_ble_eq_true rfl, Nat.le_of_ble_eq_true rfl⟩) (bPS hk) rfl rfl hl.1 rfl (lv_room (Nat.le_of_ble_eq_true rfl)) dX5_addShop_27 ⟨Nat.zero_le _, Nat.zero_le _⟩) hS (fun locs hS => ?_)
    refine lv_aload_n hx hb dX5_addShop_30 rfl (lv_at hl 1 rfl) ?_
    refine va_get (D := D) (ci := 5) (C := RX5) (T := TX5) (N := 5) hx hb hts iX5 hown hk.1 hP 0 (wC_0 _ _ _ _) rfl 1 (by decide) (hts (.fieldLink RX5 26 "BottleLoop" "past" "LBottleLoop$Past;") (List.mem_of_getElem? (i := 3) rfl)) (fun _ h9 => h9) rfl dX5_addShop_31 ?_
    refine lv_aload_n hx hb dX5_addShop_34 rfl (lv_at hl 1 rfl) ?_
    refine va_get (D := D) (ci := 5) (C := RX5) (T := TX5) (N := 5) hx hb hts iX5 hown hk.1 hP 0 (wC_0 _ _ _ _) rfl 0 (by decide) (hts (.fieldLink RX5 20 "BottleLoop" "now" "LBottleLoop$State;") (List.mem_of_getElem? (i := 2) rfl)) (fun _ h9 => h9) rfl dX5_addShop_35 ?_
    refine bcall_Wv (va_runVN (As := [.ref (q 3)]) (rest := []) ⟨hx, hb, hml, hown, hts⟩ (C1_keep l D cI cO q _ _ hq hP  hlat) ⟨va_cnB 1 hts gX5_addShop_X1_keep_n62 rfl rfl rfl (hk.2 (.methodLinkNest RX5 62 yX1_keep RX5) (List.mem_of_getElem? (i := 9) rfl)) (hts (.initialized RX1) (List.mem_of_getElem? (i := 28) rfl)) bd_X1keep ⟨Nat.le_of_ble_eq_true rfl, Nat.le_of_ble_eq_true rfl⟩, (hts (.instanceMethod yX1_keep) (List.mem_of_getElem? (i := 27) rfl)), (hts (.selects RX1 yX1_keep yX1_keep) (List.mem_of_getElem? (i := 29) rfl))⟩ (bPV hk (va_recv hk.1 hP (ci := 1) (q0 := 5) rfl (wC_5 _ _ _ _))) rfl rfl hl.1 rfl (lv_room (Nat.le_of_ble_eq_true rfl)) dX5_addShop_38 ⟨Nat.zero_le _, Nat.zero_le _⟩) hS (fun H locs hP _ hS => ?_)
    refine lv_aload_n hx hb dX5_addShop_41 rfl (lv_at hl 1 rfl) ?_
    refine va_get (D := D) (ci := 5) (C := RX5) (T := TX5) (N := 5) hx hb hts iX5 hown hk.1 hP 0 (wC_0 _ _ _ _) rfl 0 (by decide) (hts (.fieldLink RX5 20 "BottleLoop" "now" "LBottleLoop$State;") (List.mem_of_getElem? (i := 2) rfl)) (fun _ h9 => h9) rfl dX5_addShop_42 ?_
    refine lv_iconst (v := 1) hx hb dX5_addShop_45 (by decide) ?_
    refine lv_iconst (v := 1) hx hb dX5_addShop_46 (by decide) ?_
    refine bcall_Wv (va_runVN (As := [.int 1, .int 1]) (rest := []) ⟨hx, hb, hml, hown, hts⟩ (C2_addToAll l D cI cO q _ _ hq hP 1 1) ⟨va_cnB 2 hts gX5_addShop_X2_addToAll_n66 rfl rfl rfl (hk.2 (.methodLinkNest RX5 66 yX2_addToAll RX5) (List.mem_of_getElem? (i := 11) rfl)) (hts (.initialized RX2) (List.mem_of_getElem? (i := 14) rfl)) bd_X2addToAll ⟨Nat.le_of_ble_eq_true rfl, Nat.le_of_ble_eq_true rfl⟩, (hts (.instanceMethod yX2_addToAll) (List.mem_of_getElem? (i := 45) rfl)), (hts (.selects RX2 yX2_addToAll yX2_addToAll) (List.mem_of_getElem? (i := 46) rfl))⟩ (bPV hk (va_recv hk.1 hP (ci := 2) (q0 := 3) rfl (wC_3 _ _ _ _))) rfl rfl hl.1 rfl (lv_room (Nat.le_of_ble_eq_true rfl)) dX5_addShop_47 ⟨Nat.zero_le _, Nat.zero_le _⟩) hS (fun H locs hP _ hS => ?_)
    refine lv_aload_n hx hb dX5_addShop_50 rfl (lv_at hl 1 rfl) ?_
    refine va_get (D := D) (ci := 5) (C := RX5) (T := TX5) (N := 5) hx hb hts iX5 hown hk.1 hP 0 (wC_0 _ _ _ _) rfl 0 (by decide) (hts (.fieldLink RX5 20 "BottleLoop" "now" "LBottleLoop$State;") (List.mem_of_getElem? (i := 2) rfl)) (fun _ h9 => h9) rfl dX5_addShop_51 ?_
    refine lv_iload_n hx hb dX5_addShop_54 rfl (lv_at hl 0 rfl) ?_
    refine lv_iconst (v := 0) hx hb dX5_addShop_55 (by decide) ?_
    refine lv_iload_n hx hb dX5_addShop_56 rfl (lv_at hl 2 rfl) ?_
    refine bcall_Wv (va_runVN (As := [.int (F2_ofAll u 1), .int 0, .int a1]) (rest := []) ⟨hx, hb, hml, hown, hts⟩ (C2_addToShop l D cI cO q _ _ hq hP (F2_ofAll u 1) 0 a1) ⟨va_cnB 3 hts gX5_addShop_X2_addToShop_n74 rfl rfl rfl (hk.2 (.methodLinkNest RX5 74 yX2_addToShop RX5) (List.mem_of_getElem? (i := 13) rfl)) (hts (.initialized RX2) (List.mem_of_getElem? (i := 14) rfl)) bd_X2addToShop ⟨Nat.le_of_ble_eq_true rfl, Nat.le_of_ble_eq_true rfl⟩, (hts (.instanceMethod yX2_addToShop) (List.mem_of_getElem? (i := 52) rfl)), (hts (.selects RX2 yX2_addToShop yX2_addToShop) (List.mem_of_getElem? (i := 53) rfl))⟩ (bPV hk (va_recv hk.1 hP (ci := 2) (q0 := 3) rfl (wC_3 _ _ _ _))) rfl rfl hl.1 rfl (lv_room (Nat.le_of_ble_eq_true rfl)) dX5_addShop_57 ⟨Nat.zero_le _, Nat.zero_le _⟩) hS (fun H locs hP _ hS => ?_)
    refine lv_iload_n hx hb dX5_addShop_60 rfl (lv_at hl 0 rfl) ?_
    exact bret_Yi hx hb hr hP hS hlocks dX5_addShop_61 (by rw [← hF, F5_addShop, if_pos c_1, if_neg c_2])
def F5_buyCrates (u : bU) (a1 : Int32) : Int32 × Int32 × bU := (if (F5_needRange a1 1 500) = 0 then (if (1000 : Int32) < (((F2_ofAll u 2) + (F2_countNumber u 3)) + a1) then (if (F5_needState 0) = 0 then (0, 0, u) else ((F5_needState 0), 0, u)) else (0, (F2_ofAll (F2_addToAll (F1_keep u) 2 a1) 2), (F2_addToAll (F1_keep u) 2 a1))) else ((F5_needRange a1 1 500), 0, u))
set_option maxHeartbeats 4000000 in
set_option maxRecDepth 100000 in
theorem C5_buyCrates (l : Launch) (D : va_G) (cI cO : ClassId) (q : Nat → Nat) (u : bU) (H0 : Heap) (hq : bInj 23 q) (hP : va_P D vwCl (wC cI cO q u) H0) (a1 : Int32) (hlat : bLat u) (h0 : (F5_buyCrates u a1).1 = 0) : Met l yX5_buyCrates wsX5_buyCrates ({ frames := 4, cells := 0, slots := 0, locals := 243 }) (bP D [(cI, .int), (cO, .object RX2)] H0 [.ref (q 0), .int a1]) (bWi D (wC cI cO q) bT (bA 23 q H0.size) ((F5_buyCrates u a1).2.1, (F5_buyCrates u a1).2.2)) 0 0 (bA 23 q H0.size) := by
  refine Met.ofW (cc := cX5_buyCrates) (maxL := 2) (ret := (some .int)) (by decide) rfl ?_
  intro p e s m args below meth c s₁ B hml hv
  obtain ⟨rfl, hH, hk⟩ := hv
  subst hH
  have hx := B.exec
  have hb := B.bytes
  have hr := B.returns
  have hts := atoms_spec (ws := wsX5_buyCrates) B.pre
  have hown : s.vm.findClass RX5 = some m.cls := findClass_of_methodNamed B.named
  have hlocks := B.notSynchronized
  have iX5 : ∀ w ∈ wsX50, w ∈ wsX5_buyCrates := by decide +kernel
  have hS : va_S (bA 23 q s.heap.size) s.heap s.heap [] := va_S.rf
  have hl := lv_entry ([.ref (q 0), .int a1]) (n := 2) (Nat.le_of_ble_eq_true rfl)
  rw [lg_entry_eq]
  generalize (lg_sl ([.ref (q 0), .int a1]) ++ List.replicate (2 - (lg_sl ([.ref (q 0), .int a1])).length) Slot.unset).toArray = ls at hl ⊢
  have hl : lv_has ls 2 [(0, .ref (q 0)), (1, .int a1)] := hl
  generalize hF : F5_buyCrates u a1 = tgt at h0 ⊢
  refine lv_iload_n hx hb dX5_buyCrates_0 rfl (lv_at hl 1 rfl) ?_
  refine lv_iconst (v := 1) hx hb dX5_buyCrates_1 (by decide) ?_
  refine lv_sipush (v := 500) hx hb dX5_buyCrates_2 (by decide) ?_
  have c_1 : (F5_needRange a1 1 500) = 0 := Decidable.byContradiction (fun h9 => absurd ((congrArg Prod.fst (show ((F5_needRange a1 1 500), (0 : Int32), u) = tgt from by rw [← hF, F5_buyCrates, if_neg h9])).trans h0) h9)
  refine bcall_Rv (va_runS (As := [.int a1, .int 1, .int 500]) (rest := []) ⟨hx, hb, hml, hown, hts⟩ (C5_needRange l D cI cO q _ a1 1 500 c_1) (va_cwS 3 hts gX5_buyCrates_X5_needRange rfl rfl rfl bd_X5needRange ⟨Nat.le_of_ble_eq_true rfl, Nat.le_of_ble_eq_true rfl⟩) (bPS hk) rfl rfl hl.1 rfl (lv_room (Nat.le_of_ble_eq_true rfl)) dX5_buyCrates_5 ⟨Nat.zero_le _, Nat.zero_le _⟩) hS (fun locs hS => ?_)
  refine lv_aload_n hx hb dX5_buyCrates_8 rfl (lv_at hl 0 rfl) ?_
  refine va_get (D := D) (ci := 5) (C := RX5) (T := TX5) (N := 5) hx hb hts iX5 hown hk.1 hP 0 (wC_0 _ _ _ _) rfl 0 (by decide) (hts (.fieldLink RX5 20 "BottleLoop" "now" "LBottleLoop$State;") (List.mem_of_getElem? (i := 1) rfl)) (fun _ h9 => h9) rfl dX5_buyCrates_9 ?_
  refine lv_iconst (v := 2) hx hb dX5_buyCrates_12 (by decide) ?_
  refine bcall_Ri (va_runVN (As := [.int 2]) (rest := []) ⟨hx, hb, hml, hown, hts⟩ (C2_ofAll l D cI cO q _ _ hP 2) ⟨va_cnB 1 hts gX5_buyCrates_X2_ofAll_n52 rfl rfl rfl (hk.2 (.methodLinkNest RX5 52 yX2_ofAll RX5) (List.mem_of_getElem? (i := 8) rfl)) (hts (.initialized RX2) (List.mem_of_getElem? (i := 13) rfl)) bd_X2ofAll ⟨Nat.le_of_ble_eq_true rfl, Nat.le_of_ble_eq_true rfl⟩, (hts (.instanceMethod yX2_ofAll) (List.mem_of_getElem? (i := 12) rfl)), (hts (.selects RX2 yX2_ofAll yX2_ofAll) (List.mem_of_getElem? (i := 14) rfl))⟩ (bPV hk (va_recv hk.1 hP (ci := 2) (q0 := 3) rfl (wC_3 _ _ _ _))) rfl rfl hl.1 rfl (lv_room (Nat.le_of_ble_eq_true rfl)) dX5_buyCrates_13 ⟨Nat.zero_le _, Nat.zero_le _⟩) hS (fun locs hS => ?_)
  refine lv_aload_n hx hb dX5_buyCrates_16 rfl (lv_at hl 0 rfl) ?_
  refine va_get (D := D) (ci := 5) (C := RX5) (T := TX5) (N := 5) hx hb hts iX5 hown hk.1 hP 0 (wC_0 _ _ _ _) rfl 0 (by decide) (hts (.fieldLink RX5 20 "BottleLoop" "now" "LBottleLoop$State;") (List.mem_of_getElem? (i := 1) rfl)) (fun _ h9 => h9) rfl dX5_buyCrates_17 ?_
  refine lv_iconst (v := 3) hx hb dX5_buyCrates_20 (by decide) ?_
  refine bcall_Ri (va_runVN (As := [.int 3]) (rest := [.int (F2_ofAll u 2)]) ⟨hx, hb, hml, hown, hts⟩ (C2_countNumber l D cI cO q _ _ hP 3) ⟨va_cnB 1 hts gX5_buyCrates_X2_countNumber_n77 rfl rfl rfl (hk.2 (.methodLinkNest RX5 77 yX2_countNumber RX5) (List.mem_of_getElem? (i := 14) rfl)) (hts (.initialized RX2) (List.mem_of_getElem? (i := 13) rfl)) bd_X2countNumber ⟨Nat.le_of_ble_eq_true rfl, Nat.le_of_ble_eq_true rfl⟩, (hts (.instanceMethod yX2_countNumber) (List.mem_of_getElem? (i := 21) rfl)), (hts (.selects RX2 yX2_countNumber yX2_countNumber) (List.mem_of_getElem? (i := 22) rfl))⟩ (bPV hk (va_recv hk.1 hP (ci := 2) (q0 := 3) rfl (wC_3 _ _ _ _))) rfl rfl hl.1 rfl (lv_room (Nat.le_of_ble_eq_true rfl)) dX5_buyCrates_21 ⟨Nat.zero_le _, Nat.zero_le _⟩) hS (fun locs hS => ?_)
  refine lv_iadd hx hb dX5_buyCrates_24 ?_
  refine lv_iload_n hx hb dX5_buyCrates_25 rfl (lv_at hl 1 rfl) ?_
  refine lv_iadd hx hb dX5_buyCrates_26 ?_
  refine lv_sipush (v := 1000) hx hb dX5_buyCrates_27 (by decide) ?_
  refine lv_icmp_gt (tgt := 37) hx hb dX5_buyCrates_30 (by decide) (fun c_2 => ?_) (fun c_2 => ?_)
  · refine lv_iconst (v := 0) hx hb dX5_buyCrates_37 (by decide) ?_
    have c_3 : (F5_needState 0) = 0 := Decidable.byContradiction (fun h9 => absurd ((congrArg Prod.fst (show ((F5_needState 0), (0 : Int32), u) = tgt from by rw [← hF, F5_buyCrates, if_pos c_1, if_pos c_2, if_neg h9])).trans h0) h9)
    exact absurd c_3 (by decide)
  · refine lv_iconst (v := 1) hx hb dX5_buyCrates_33 (by decide) ?_
    refine lv_goto (tgt := 38) hx hb dX5_buyCrates_34 (by decide) ?_
    refine bcall_Rv (va_runS (As := [.int 1]) (rest := []) ⟨hx, hb, hml, hown, hts⟩ (C5_needState l D cI cO q _ 1 (by decide)) (va_cwS 1 hts gX5_buyCrates_X5_needState rfl rfl rfl bd_X5needState ⟨Nat.le_of_ble_eq_true rfl, Nat.le_of_ble_eq_true rfl⟩) (bPS hk) rfl rfl hl.1 rfl (lv_room (Nat.le_of_ble_eq_true rfl)) dX5_buyCrates_38 ⟨Nat.zero_le _, Nat.zero_le _⟩) hS (fun locs hS => ?_)
    refine lv_aload_n hx hb dX5_buyCrates_41 rfl (lv_at hl 0 rfl) ?_
    refine va_get (D := D) (ci := 5) (C := RX5) (T := TX5) (N := 5) hx hb hts iX5 hown hk.1 hP 0 (wC_0 _ _ _ _) rfl 1 (by decide) (hts (.fieldLink RX5 26 "BottleLoop" "past" "LBottleLoop$Past;") (List.mem_of_getElem? (i := 2) rfl)) (fun _ h9 => h9) rfl dX5_buyCrates_42 ?_
    refine lv_aload_n hx hb dX5_buyCrates_45 rfl (lv_at hl 0 rfl) ?_
    refine va_get (D := D) (ci := 5) (C := RX5) (T := TX5) (N := 5) hx hb hts iX5 hown hk.1 hP 0 (wC_0 _ _ _ _) rfl 0 (by decide) (hts (.fieldLink RX5 20 "BottleLoop" "now" "LBottleLoop$State;") (List.mem_of_getElem? (i := 1) rfl)) (fun _ h9 => h9) rfl dX5_buyCrates_46 ?_
    refine bcall_Wv (va_runVN (As := [.ref (q 3)]) (rest := []) ⟨hx, hb, hml, hown, hts⟩ (C1_keep l D cI cO q _ _ hq hP  hlat) ⟨va_cnB 1 hts gX5_buyCrates_X1_keep_n62 rfl rfl rfl (hk.2 (.methodLinkNest RX5 62 yX1_keep RX5) (List.mem_of_getElem? (i := 9) rfl)) (hts (.initialized RX1) (List.mem_of_getElem? (i := 47) rfl)) bd_X1keep ⟨Nat.le_of_ble_eq_true rfl, Nat.le_of_ble_eq_true rfl⟩, (hts (.instanceMethod yX1_keep) (List.mem_of_getElem? (i := 46) rfl)), (hts (.selects RX1 yX1_keep yX1_keep) (List.mem_of_getElem? (i := 48) rfl))⟩ (bPV hk (va_recv hk.1 hP (ci := 1) (q0 := 5) rfl (wC_5 _ _ _ _))) rfl rfl hl.1 rfl (lv_room (Nat.le_of_ble_eq_true rfl)) dX5_buyCrates_49 ⟨Nat.zero_le _, Nat.zero_le _⟩) hS (fun H locs hP _ hS => ?_)
    refine lv_aload_n hx hb dX5_buyCrates_52 rfl (lv_at hl 0 rfl) ?_
    refine va_get (D := D) (ci := 5) (C := RX5) (T := TX5) (N := 5) hx hb hts iX5 hown hk.1 hP 0 (wC_0 _ _ _ _) rfl 0 (by decide) (hts (.fieldLink RX5 20 "BottleLoop" "now" "LBottleLoop$State;") (List.mem_of_getElem? (i := 1) rfl)) (fun _ h9 => h9) rfl dX5_buyCrates_53 ?_
    refine lv_iconst (v := 2) hx hb dX5_buyCrates_56 (by decide) ?_
    refine lv_iload_n hx hb dX5_buyCrates_57 rfl (lv_at hl 1 rfl) ?_
    refine bcall_Wv (va_runVN (As := [.int 2, .int a1]) (rest := []) ⟨hx, hb, hml, hown, hts⟩ (C2_addToAll l D cI cO q _ _ hq hP 2 a1) ⟨va_cnB 2 hts gX5_buyCrates_X2_addToAll_n66 rfl rfl rfl (hk.2 (.methodLinkNest RX5 66 yX2_addToAll RX5) (List.mem_of_getElem? (i := 11) rfl)) (hts (.initialized RX2) (List.mem_of_getElem? (i := 13) rfl)) bd_X2addToAll ⟨Nat.le_of_ble_eq_true rfl, Nat.le_of_ble_eq_true rfl⟩, (hts (.instanceMethod yX2_addToAll) (List.mem_of_getElem? (i := 64) rfl)), (hts (.selects RX2 yX2_addToAll yX2_addToAll) (List.mem_of_getElem? (i := 65) rfl))⟩ (bPV hk (va_recv hk.1 hP (ci := 2) (q0 := 3) rfl (wC_3 _ _ _ _))) rfl rfl hl.1 rfl (lv_room (Nat.le_of_ble_eq_true rfl)) dX5_buyCrates_58 ⟨Nat.zero_le _, Nat.zero_le _⟩) hS (fun H locs hP _ hS => ?_)
    refine lv_aload_n hx hb dX5_buyCrates_61 rfl (lv_at hl 0 rfl) ?_
    refine va_get (D := D) (ci := 5) (C := RX5) (T := TX5) (N := 5) hx hb hts iX5 hown hk.1 hP 0 (wC_0 _ _ _ _) rfl 0 (by decide) (hts (.fieldLink RX5 20 "BottleLoop" "now" "LBottleLoop$State;") (List.mem_of_getElem? (i := 1) rfl)) (fun _ h9 => h9) rfl dX5_buyCrates_62 ?_
    refine lv_iconst (v := 2) hx hb dX5_buyCrates_65 (by decide) ?_
    refine bcall_Ri (va_runVN (As := [.int 2]) (rest := []) ⟨hx, hb, hml, hown, hts⟩ (C2_ofAll l D cI cO q _ _ hP 2) ⟨va_cnB 1 hts gX5_buyCrates_X2_ofAll_n52 rfl rfl rfl (hk.2 (.methodLinkNest RX5 52 yX2_ofAll RX5) (List.mem_of_getElem? (i := 8) rfl)) (hts (.initialized RX2) (List.mem_of_getElem? (i := 13) rfl)) bd_X2ofAll ⟨Nat.le_of_ble_eq_true rfl, Nat.le_of_ble_eq_true rfl⟩, (hts (.instanceMethod yX2_ofAll) (List.mem_of_getElem? (i := 12) rfl)), (hts (.selects RX2 yX2_ofAll yX2_ofAll) (List.mem_of_getElem? (i := 14) rfl))⟩ (bPV hk (va_recv hk.1 hP (ci := 2) (q0 := 3) rfl (wC_3 _ _ _ _))) rfl rfl hl.1 rfl (lv_room (Nat.le_of_ble_eq_true rfl)) dX5_buyCrates_66 ⟨Nat.zero_le _, Nat.zero_le _⟩) hS (fun locs hS => ?_)
    exact bret_Yi hx hb hr hP hS hlocks dX5_buyCrates_69 (by rw [← hF, F5_buyCrates, if_pos c_1, if_neg c_2])
def F5_fill (u : bU) (a1 : Int32) (a2 : Int32) : Int32 × Int32 × bU := (if (F5_needBrand u a1) = 0 then (if (F5_needRange a2 1 5000) = 0 then (if (F2_ofBrand u a1 1) < a2 then (if (F5_needState 0) = 0 then (0, 0, u) else ((F5_needState 0), 0, u)) else (0, (F4_fillBottles (F1_keep u) a1 a2).1, (F4_fillBottles (F1_keep u) a1 a2).2)) else ((F5_needRange a2 1 5000), 0, u)) else ((F5_needBrand u a1), 0, u))
set_option maxHeartbeats 4000000 in
set_option maxRecDepth 100000 in
theorem C5_fill (l : Launch) (D : va_G) (cI cO : ClassId) (q : Nat → Nat) (u : bU) (H0 : Heap) (hq : bInj 23 q) (hP : va_P D vwCl (wC cI cO q u) H0) (a1 : Int32) (a2 : Int32) (hlat : bLat u) (h0 : (F5_fill u a1 a2).1 = 0) : Met l yX5_fill wsX5_fill ({ frames := 4, cells := 0, slots := 0, locals := 243 }) (bP D [(cI, .int), (cO, .object RX2)] H0 [.ref (q 0), .int a1, .int a2]) (bWi D (wC cI cO q) bT (bA 23 q H0.size) ((F5_fill u a1 a2).2.1, (F5_fill u a1 a2).2.2)) 0 0 (bA 23 q H0.size) := by
  refine Met.ofW (cc := cX5_fill) (maxL := 3) (ret := (some .int)) (by decide) rfl ?_
  intro p e s m args below meth c s₁ B hml hv
  obtain ⟨rfl, hH, hk⟩ := hv
  subst hH
  have hx := B.exec
  have hb := B.bytes
  have hr := B.returns
  have hts := atoms_spec (ws := wsX5_fill) B.pre
  have hown : s.vm.findClass RX5 = some m.cls := findClass_of_methodNamed B.named
  have hlocks := B.notSynchronized
  have iX5 : ∀ w ∈ wsX50, w ∈ wsX5_fill := by decide +kernel
  have hS : va_S (bA 23 q s.heap.size) s.heap s.heap [] := va_S.rf
  have hl := lv_entry ([.ref (q 0), .int a1, .int a2]) (n := 3) (Nat.le_of_ble_eq_true rfl)
  rw [lg_entry_eq]
  generalize (lg_sl ([.ref (q 0), .int a1, .int a2]) ++ List.replicate (3 - (lg_sl ([.ref (q 0), .int a1, .int a2])).length) Slot.unset).toArray = ls at hl ⊢
  have hl : lv_has ls 3 [(0, .ref (q 0)), (1, .int a1), (2, .int a2)] := hl
  generalize hF : F5_fill u a1 a2 = tgt at h0 ⊢
  refine lv_aload_n hx hb dX5_fill_0 rfl (lv_at hl 0 rfl) ?_
  refine lv_iload_n hx hb dX5_fill_1 rfl (lv_at hl 1 rfl) ?_
  have c_1 : (F5_needBrand u a1) = 0 := Decidable.byContradiction (fun h9 => absurd ((congrArg Prod.fst (show ((F5_needBrand u a1), (0 : Int32), u) = tgt from by rw [← hF, F5_fill, if_neg h9])).trans h0) h9)
  refine bcall_Rv (va_runV (As := [.int a1]) (rest := []) ⟨hx, hb, hml, hown, hts⟩ (C5_needBrand l D cI cO q _ _ hP a1 c_1) (cwV 1 hts gX5_fill_X5_needBrand rfl rfl rfl ⟨rfl, bd_X5needBrand⟩ ⟨Nat.le_of_ble_eq_true rfl, Nat.le_of_ble_eq_true rfl⟩) (bPV hk (va_recv hk.1 hP (ci := 5) (q0 := 0) rfl (wC_0 _ _ _ _))) rfl rfl hl.1 rfl (lv_room (Nat.le_of_ble_eq_true rfl)) dX5_fill_2 ⟨Nat.zero_le _, Nat.zero_le _⟩) hS (fun locs hS => ?_)
  refine lv_iload_n hx hb dX5_fill_5 rfl (lv_at hl 2 rfl) ?_
  refine lv_iconst (v := 1) hx hb dX5_fill_6 (by decide) ?_
  refine lv_sipush (v := 5000) hx hb dX5_fill_7 (by decide) ?_
  have c_2 : (F5_needRange a2 1 5000) = 0 := Decidable.byContradiction (fun h9 => absurd ((congrArg Prod.fst (show ((F5_needRange a2 1 5000), (0 : Int32), u) = tgt from by rw [← hF, F5_fill, if_pos c_1, if_neg h9])).trans h0) h9)
  refine bcall_Rv (va_runS (As := [.int a2, .int 1, .int 5000]) (rest := []) ⟨hx, hb, hml, hown, hts⟩ (C5_needRange l D cI cO q _ a2 1 5000 c_2) (va_cwS 3 hts gX5_fill_X5_needRange rfl rfl rfl bd_X5needRange ⟨Nat.le_of_ble_eq_true rfl, Nat.le_of_ble_eq_true rfl⟩) (bPS hk) rfl rfl hl.1 rfl (lv_room (Nat.le_of_ble_eq_true rfl)) dX5_fill_10 ⟨Nat.zero_le _, Nat.zero_le _⟩) hS (fun locs hS => ?_)
  refine lv_aload_n hx hb dX5_fill_13 rfl (lv_at hl 0 rfl) ?_
  refine va_get (D := D) (ci := 5) (C := RX5) (T := TX5) (N := 5) hx hb hts iX5 hown hk.1 hP 0 (wC_0 _ _ _ _) rfl 0 (by decide) (hts (.fieldLink RX5 20 "BottleLoop" "now" "LBottleLoop$State;") (List.mem_of_getElem? (i := 1) rfl)) (fun _ h9 => h9) rfl dX5_fill_14 ?_
  refine lv_iload_n hx hb dX5_fill_17 rfl (lv_at hl 1 rfl) ?_
  refine lv_iconst (v := 1) hx hb dX5_fill_18 (by decide) ?_
  refine bcall_Ri (va_runVN (As := [.int a1, .int 1]) (rest := []) ⟨hx, hb, hml, hown, hts⟩ (C2_ofBrand l D cI cO q _ _ hP a1 1) ⟨va_cnB 2 hts gX5_fill_X2_ofBrand_n103 rfl rfl rfl (hk.2 (.methodLinkNest RX5 103 yX2_ofBrand RX5) (List.mem_of_getElem? (i := 17) rfl)) (hts (.initialized RX2) (List.mem_of_getElem? (i := 16) rfl)) bd_X2ofBrand ⟨Nat.le_of_ble_eq_true rfl, Nat.le_of_ble_eq_true rfl⟩, (hts (.instanceMethod yX2_ofBrand) (List.mem_of_getElem? (i := 32) rfl)), (hts (.selects RX2 yX2_ofBrand yX2_ofBrand) (List.mem_of_getElem? (i := 33) rfl))⟩ (bPV hk (va_recv hk.1 hP (ci := 2) (q0 := 3) rfl (wC_3 _ _ _ _))) rfl rfl hl.1 rfl (lv_room (Nat.le_of_ble_eq_true rfl)) dX5_fill_19 ⟨Nat.zero_le _, Nat.zero_le _⟩) hS (fun locs hS => ?_)
  refine lv_iload_n hx hb dX5_fill_22 rfl (lv_at hl 2 rfl) ?_
  refine lv_icmp_lt (tgt := 30) hx hb dX5_fill_23 (by decide) (fun c_3 => ?_) (fun c_3 => ?_)
  · refine lv_iconst (v := 0) hx hb dX5_fill_30 (by decide) ?_
    have c_4 : (F5_needState 0) = 0 := Decidable.byContradiction (fun h9 => absurd ((congrArg Prod.fst (show ((F5_needState 0), (0 : Int32), u) = tgt from by rw [← hF, F5_fill, if_pos c_1, if_pos c_2, if_pos c_3, if_neg h9])).trans h0) h9)
    exact absurd c_4 (by decide)
  · refine lv_iconst (v := 1) hx hb dX5_fill_26 (by decide) ?_
    refine lv_goto (tgt := 31) hx hb dX5_fill_27 (by decide) ?_
    refine bcall_Rv (va_runS (As := [.int 1]) (rest := []) ⟨hx, hb, hml, hown, hts⟩ (C5_needState l D cI cO q _ 1 (by decide)) (va_cwS 1 hts gX5_fill_X5_needState rfl rfl rfl bd_X5needState ⟨Nat.le_of_ble_eq_true rfl, Nat.le_of_ble_eq_true rfl⟩) (bPS hk) rfl rfl hl.1 rfl (lv_room (Nat.le_of_ble_eq_true rfl)) dX5_fill_31 ⟨Nat.zero_le _, Nat.zero_le _⟩) hS (fun locs hS => ?_)
    refine lv_aload_n hx hb dX5_fill_34 rfl (lv_at hl 0 rfl) ?_
    refine va_get (D := D) (ci := 5) (C := RX5) (T := TX5) (N := 5) hx hb hts iX5 hown hk.1 hP 0 (wC_0 _ _ _ _) rfl 1 (by decide) (hts (.fieldLink RX5 26 "BottleLoop" "past" "LBottleLoop$Past;") (List.mem_of_getElem? (i := 2) rfl)) (fun _ h9 => h9) rfl dX5_fill_35 ?_
    refine lv_aload_n hx hb dX5_fill_38 rfl (lv_at hl 0 rfl) ?_
    refine va_get (D := D) (ci := 5) (C := RX5) (T := TX5) (N := 5) hx hb hts iX5 hown hk.1 hP 0 (wC_0 _ _ _ _) rfl 0 (by decide) (hts (.fieldLink RX5 20 "BottleLoop" "now" "LBottleLoop$State;") (List.mem_of_getElem? (i := 1) rfl)) (fun _ h9 => h9) rfl dX5_fill_39 ?_
    refine bcall_Wv (va_runVN (As := [.ref (q 3)]) (rest := []) ⟨hx, hb, hml, hown, hts⟩ (C1_keep l D cI cO q _ _ hq hP  hlat) ⟨va_cnB 1 hts gX5_fill_X1_keep_n62 rfl rfl rfl (hk.2 (.methodLinkNest RX5 62 yX1_keep RX5) (List.mem_of_getElem? (i := 9) rfl)) (hts (.initialized RX1) (List.mem_of_getElem? (i := 41) rfl)) bd_X1keep ⟨Nat.le_of_ble_eq_true rfl, Nat.le_of_ble_eq_true rfl⟩, (hts (.instanceMethod yX1_keep) (List.mem_of_getElem? (i := 40) rfl)), (hts (.selects RX1 yX1_keep yX1_keep) (List.mem_of_getElem? (i := 42) rfl))⟩ (bPV hk (va_recv hk.1 hP (ci := 1) (q0 := 5) rfl (wC_5 _ _ _ _))) rfl rfl hl.1 rfl (lv_room (Nat.le_of_ble_eq_true rfl)) dX5_fill_42 ⟨Nat.zero_le _, Nat.zero_le _⟩) hS (fun H locs hP _ hS => ?_)
    refine lv_aload_n hx hb dX5_fill_45 rfl (lv_at hl 0 rfl) ?_
    refine va_get (D := D) (ci := 5) (C := RX5) (T := TX5) (N := 5) hx hb hts iX5 hown hk.1 hP 0 (wC_0 _ _ _ _) rfl 2 (by decide) (hts (.fieldLink RX5 12 "BottleLoop" "trade" "LBottleLoop$Trade;") (List.mem_of_getElem? (i := 3) rfl)) (fun _ h9 => h9) rfl dX5_fill_46 ?_
    refine lv_iload_n hx hb dX5_fill_49 rfl (lv_at hl 1 rfl) ?_
    refine lv_iload_n hx hb dX5_fill_50 rfl (lv_at hl 2 rfl) ?_
    refine bcall_Wi (va_runVN (As := [.int a1, .int a2]) (rest := []) ⟨hx, hb, hml, hown, hts⟩ (C4_fillBottles l D cI cO q _ _ hq hP a1 a2) ⟨va_cnB 2 hts gX5_fill_X4_fillBottles_n107 rfl rfl rfl (hk.2 (.methodLinkNest RX5 107 yX4_fillBottles RX5) (List.mem_of_getElem? (i := 18) rfl)) (hts (.initialized RX4) (List.mem_of_getElem? (i := 59) rfl)) bd_X4fillBottles ⟨Nat.le_of_ble_eq_true rfl, Nat.le_of_ble_eq_true rfl⟩, (hts (.instanceMethod yX4_fillBottles) (List.mem_of_getElem? (i := 58) rfl)), (hts (.selects RX4 yX4_fillBottles yX4_fillBottles) (List.mem_of_getElem? (i := 60) rfl))⟩ (bPV hk (va_recv hk.1 hP (ci := 4) (q0 := 1) rfl (wC_1 _ _ _ _))) rfl rfl hl.1 rfl (lv_room (Nat.le_of_ble_eq_true rfl)) dX5_fill_51 ⟨Nat.zero_le _, Nat.zero_le _⟩) hS (fun H locs hP _ hS => ?_)
    exact bret_Yi hx hb hr hP hS hlocks dX5_fill_54 (by rw [← hF, F5_fill, if_pos c_1, if_pos c_2, if_neg c_3])
def F5_deliver (u : bU) (a1 : Int32) (a2 : Int32) (a3 : Int32) : Int32 × Int32 × bU := (if (F5_needBrand u a1) = 0 then (if (F5_needShop u a2) = 0 then (if (F5_needRange a3 1 50) = 0 then (if (F4_deliverReason u a1 a2 a3) = 0 then (0, (F4_deliverCrates (F1_keep u) a1 a2 a3).1, (F4_deliverCrates (F1_keep u) a1 a2 a3).2) else (if (F5_needState 0) = 0 then (0, 0, u) else ((F5_needState 0), 0, u))) else ((F5_needRange a3 1 50), 0, u)) else ((F5_needShop u a2), 0, u)) else ((F5_needBrand u a1), 0, u))
set_option maxHeartbeats 4000000 in
set_option maxRecDepth 100000 in
theorem C5_deliver (l : Launch) (D : va_G) (cI cO : ClassId) (q : Nat → Nat) (u : bU) (H0 : Heap) (hq : bInj 23 q) (hP : va_P D vwCl (wC cI cO q u) H0) (a1 : Int32) (a2 : Int32) (a3 : Int32) (hlat : bLat u) (h0 : (F5_deliver u a1 a2 a3).1 = 0) : Met l yX5_deliver wsX5_deliver ({ frames := 5, cells := 0, slots := 0, locals := 243 }) (bP D [(cI, .int), (cO, .object RX2)] H0 [.ref (q 0), .int a1, .int a2, .int a3]) (bWi D (wC cI cO q) bT (bA 23 q H0.size) ((F5_deliver u a1 a2 a3).2.1, (F5_deliver u a1 a2 a3).2.2)) 0 0 (bA 23 q H0.size) := by
  refine Met.ofW (cc := cX5_deliver) (maxL := 4) (ret := (some .int)) (by decide) rfl ?_
  intro p e s m args below meth c s₁ B hml hv
  obtain ⟨rfl, hH, hk⟩ := hv
  subst hH
  have hx := B.exec
  have hb := B.bytes
  have hr := B.returns
  have hts := atoms_spec (ws := wsX5_deliver) B.pre
  have hown : s.vm.findClass RX5 = some m.cls := findClass_of_methodNamed B.named
  have hlocks := B.notSynchronized
  have iX5 : ∀ w ∈ wsX50, w ∈ wsX5_deliver := by decide +kernel
  have hS : va_S (bA 23 q s.heap.size) s.heap s.heap [] := va_S.rf
  have hl := lv_entry ([.ref (q 0), .int a1, .int a2, .int a3]) (n := 4) (Nat.le_of_ble_eq_true rfl)
  rw [lg_entry_eq]
  generalize (lg_sl ([.ref (q 0), .int a1, .int a2, .int a3]) ++ List.replicate (4 - (lg_sl ([.ref (q 0), .int a1, .int a2, .int a3])).length) Slot.unset).toArray = ls at hl ⊢
  have hl : lv_has ls 4 [(0, .ref (q 0)), (1, .int a1), (2, .int a2), (3, .int a3)] := hl
  generalize hF : F5_deliver u a1 a2 a3 = tgt at h0 ⊢
  refine lv_aload_n hx hb dX5_deliver_0 rfl (lv_at hl 0 rfl) ?_
  refine lv_iload_n hx hb dX5_deliver_1 rfl (lv_at hl 1 rfl) ?_
  have c_1 : (F5_needBrand u a1) = 0 := Decidable.byContradiction (fun h9 => absurd ((congrArg Prod.fst (show ((F5_needBrand u a1), (0 : Int32), u) = tgt from by rw [← hF, F5_deliver, if_neg h9])).trans h0) h9)
  refine bcall_Rv (va_runV (As := [.int a1]) (rest := []) ⟨hx, hb, hml, hown, hts⟩ (C5_needBrand l D cI cO q _ _ hP a1 c_1) (cwV 1 hts gX5_deliver_X5_needBrand rfl rfl rfl ⟨rfl, bd_X5needBrand⟩ ⟨Nat.le_of_ble_eq_true rfl, Nat.le_of_ble_eq_true rfl⟩) (bPV hk (va_recv hk.1 hP (ci := 5) (q0 := 0) rfl (wC_0 _ _ _ _))) rfl rfl hl.1 rfl (lv_room (Nat.le_of_ble_eq_true rfl)) dX5_deliver_2 ⟨Nat.zero_le _, Nat.zero_le _⟩) hS (fun locs hS => ?_)
  refine lv_aload_n hx hb dX5_deliver_5 rfl (lv_at hl 0 rfl) ?_
  refine lv_iload_n hx hb dX5_deliver_6 rfl (lv_at hl 2 rfl) ?_
  have c_2 : (F5_needShop u a2) = 0 := Decidable.byContradiction (fun h9 => absurd ((congrArg Prod.fst (show ((F5_needShop u a2), (0 : Int32), u) = tgt from by rw [← hF, F5_deliver, if_pos c_1, if_neg h9])).trans h0) h9)
  refine bcall_Rv (va_runV (As := [.int a2]) (rest := []) ⟨hx, hb, hml, hown, hts⟩ (C5_needShop l D cI cO q _ _ hP a2 c_2) (cwV 1 hts gX5_deliver_X5_needShop rfl rfl rfl ⟨rfl, bd_X5needShop⟩ ⟨Nat.le_of_ble_eq_true rfl, Nat.le_of_ble_eq_true rfl⟩) (bPV hk (va_recv hk.1 hP (ci := 5) (q0 := 0) rfl (wC_0 _ _ _ _))) rfl rfl hl.1 rfl (lv_room (Nat.le_of_ble_eq_true rfl)) dX5_deliver_7 ⟨Nat.zero_le _, Nat.zero_le _⟩) hS (fun locs hS => ?_)
  refine lv_iload_n hx hb dX5_deliver_10 rfl (lv_at hl 3 rfl) ?_
  refine lv_iconst (v := 1) hx hb dX5_deliver_11 (by decide) ?_
  refine lv_bipush (v := 50) hx hb dX5_deliver_12 (by decide) ?_
  have c_3 : (F5_needRange a3 1 50) = 0 := Decidable.byContradiction (fun h9 => absurd ((congrArg Prod.fst (show ((F5_needRange a3 1 50), (0 : Int32), u) = tgt from by rw [← hF, F5_deliver, if_pos c_1, if_pos c_2, if_neg h9])).trans h0) h9)
  refine bcall_Rv (va_runS (As := [.int a3, .int 1, .int 50]) (rest := []) ⟨hx, hb, hml, hown, hts⟩ (C5_needRange l D cI cO q _ a3 1 50 c_3) (va_cwS 3 hts gX5_deliver_X5_needRange rfl rfl rfl bd_X5needRange ⟨Nat.le_of_ble_eq_true rfl, Nat.le_of_ble_eq_true rfl⟩) (bPS hk) rfl rfl hl.1 rfl (lv_room (Nat.le_of_ble_eq_true rfl)) dX5_deliver_14 ⟨Nat.zero_le _, Nat.zero_le _⟩) hS (fun locs hS => ?_)
  refine lv_aload_n hx hb dX5_deliver_17 rfl (lv_at hl 0 rfl) ?_
  refine va_get (D := D) (ci := 5) (C := RX5) (T := TX5) (N := 5) hx hb hts iX5 hown hk.1 hP 0 (wC_0 _ _ _ _) rfl 2 (by decide) (hts (.fieldLink RX5 12 "BottleLoop" "trade" "LBottleLoop$Trade;") (List.mem_of_getElem? (i := 1) rfl)) (fun _ h9 => h9) rfl dX5_deliver_18 ?_
  refine lv_iload_n hx hb dX5_deliver_21 rfl (lv_at hl 1 rfl) ?_
  refine lv_iload_n hx hb dX5_deliver_22 rfl (lv_at hl 2 rfl) ?_
  refine lv_iload_n hx hb dX5_deliver_23 rfl (lv_at hl 3 rfl) ?_
  refine bcall_Ri (va_runVN (As := [.int a1, .int a2, .int a3]) (rest := []) ⟨hx, hb, hml, hown, hts⟩ (C4_deliverReason l D cI cO q _ _ hP a1 a2 a3) ⟨va_cnB 3 hts gX5_deliver_X4_deliverReason_n113 rfl rfl rfl (hk.2 (.methodLinkNest RX5 113 yX4_deliverReason RX5) (List.mem_of_getElem? (i := 30) rfl)) (hts (.initialized RX4) (List.mem_of_getElem? (i := 41) rfl)) bd_X4deliverReason ⟨Nat.le_of_ble_eq_true rfl, Nat.le_of_ble_eq_true rfl⟩, (hts (.instanceMethod yX4_deliverReason) (List.mem_of_getElem? (i := 40) rfl)), (hts (.selects RX4 yX4_deliverReason yX4_deliverReason) (List.mem_of_getElem? (i := 42) rfl))⟩ (bPV hk (va_recv hk.1 hP (ci := 4) (q0 := 1) rfl (wC_1 _ _ _ _))) rfl rfl hl.1 rfl (lv_room (Nat.le_of_ble_eq_true rfl)) dX5_deliver_24 ⟨Nat.zero_le _, Nat.zero_le _⟩) hS (fun locs hS => ?_)
  refine lv_if_ne (tgt := 34) hx hb dX5_deliver_27 (by decide) (fun c_4 => ?_) (fun c_4 => ?_)
  · refine lv_iconst (v := 0) hx hb dX5_deliver_34 (by decide) ?_
    have c_5 : (F5_needState 0) = 0 := Decidable.byContradiction (fun h9 => absurd ((congrArg Prod.fst (show ((F5_needState 0), (0 : Int32), u) = tgt from by rw [← hF, F5_deliver, if_pos c_1, if_pos c_2, if_pos c_3, if_neg c_4, if_neg h9])).trans h0) h9)
    exact absurd c_5 (by decide)
  · refine lv_iconst (v := 1) hx hb dX5_deliver_30 (by decide) ?_
    refine lv_goto (tgt := 35) hx hb dX5_deliver_31 (by decide) ?_
    refine bcall_Rv (va_runS (As := [.int 1]) (rest := []) ⟨hx, hb, hml, hown, hts⟩ (C5_needState l D cI cO q _ 1 (by decide)) (va_cwS 1 hts gX5_deliver_X5_needState rfl rfl rfl bd_X5needState ⟨Nat.le_of_ble_eq_true rfl, Nat.le_of_ble_eq_true rfl⟩) (bPS hk) rfl rfl hl.1 rfl (lv_room (Nat.le_of_ble_eq_true rfl)) dX5_deliver_35 ⟨Nat.zero_le _, Nat.zero_le _⟩) hS (fun locs hS => ?_)
    refine lv_aload_n hx hb dX5_deliver_38 rfl (lv_at hl 0 rfl) ?_
    refine va_get (D := D) (ci := 5) (C := RX5) (T := TX5) (N := 5) hx hb hts iX5 hown hk.1 hP 0 (wC_0 _ _ _ _) rfl 1 (by decide) (hts (.fieldLink RX5 26 "BottleLoop" "past" "LBottleLoop$Past;") (List.mem_of_getElem? (i := 2) rfl)) (fun _ h9 => h9) rfl dX5_deliver_39 ?_
    refine lv_aload_n hx hb dX5_deliver_42 rfl (lv_at hl 0 rfl) ?_
    refine va_get (D := D) (ci := 5) (C := RX5) (T := TX5) (N := 5) hx hb hts iX5 hown hk.1 hP 0 (wC_0 _ _ _ _) rfl 0 (by decide) (hts (.fieldLink RX5 20 "BottleLoop" "now" "LBottleLoop$State;") (List.mem_of_getElem? (i := 3) rfl)) (fun _ h9 => h9) rfl dX5_deliver_43 ?_
    refine bcall_Wv (va_runVN (As := [.ref (q 3)]) (rest := []) ⟨hx, hb, hml, hown, hts⟩ (C1_keep l D cI cO q _ _ hq hP  hlat) ⟨va_cnB 1 hts gX5_deliver_X1_keep_n62 rfl rfl rfl (hk.2 (.methodLinkNest RX5 62 yX1_keep RX5) (List.mem_of_getElem? (i := 9) rfl)) (hts (.initialized RX1) (List.mem_of_getElem? (i := 68) rfl)) bd_X1keep ⟨Nat.le_of_ble_eq_true rfl, Nat.le_of_ble_eq_true rfl⟩, (hts (.instanceMethod yX1_keep) (List.mem_of_getElem? (i := 67) rfl)), (hts (.selects RX1 yX1_keep yX1_keep) (List.mem_of_getElem? (i := 69) rfl))⟩ (bPV hk (va_recv hk.1 hP (ci := 1) (q0 := 5) rfl (wC_5 _ _ _ _))) rfl rfl hl.1 rfl (lv_room (Nat.le_of_ble_eq_true rfl)) dX5_deliver_46 ⟨Nat.zero_le _, Nat.zero_le _⟩) hS (fun H locs hP _ hS => ?_)
    refine lv_aload_n hx hb dX5_deliver_49 rfl (lv_at hl 0 rfl) ?_
    refine va_get (D := D) (ci := 5) (C := RX5) (T := TX5) (N := 5) hx hb hts iX5 hown hk.1 hP 0 (wC_0 _ _ _ _) rfl 2 (by decide) (hts (.fieldLink RX5 12 "BottleLoop" "trade" "LBottleLoop$Trade;") (List.mem_of_getElem? (i := 1) rfl)) (fun _ h9 => h9) rfl dX5_deliver_50 ?_
    refine lv_iload_n hx hb dX5_deliver_53 rfl (lv_at hl 1 rfl) ?_
    refine lv_iload_n hx hb dX5_deliver_54 rfl (lv_at hl 2 rfl) ?_
    refine lv_iload_n hx hb dX5_deliver_55 rfl (lv_at hl 3 rfl) ?_
    refine bcall_Wi (va_runVN (As := [.int a1, .int a2, .int a3]) (rest := []) ⟨hx, hb, hml, hown, hts⟩ (C4_deliverCrates l D cI cO q _ _ hq hP a1 a2 a3) ⟨va_cnB 3 hts gX5_deliver_X4_deliverCrates_n117 rfl rfl rfl (hk.2 (.methodLinkNest RX5 117 yX4_deliverCrates RX5) (List.mem_of_getElem? (i := 33) rfl)) (hts (.initialized RX4) (List.mem_of_getElem? (i := 41) rfl)) bd_X4deliverCrates ⟨Nat.le_of_ble_eq_true rfl, Nat.le_of_ble_eq_true rfl⟩, (hts (.instanceMethod yX4_deliverCrates) (List.mem_of_getElem? (i := 85) rfl)), (hts (.selects RX4 yX4_deliverCrates yX4_deliverCrates) (List.mem_of_getElem? (i := 86) rfl))⟩ (bPV hk (va_recv hk.1 hP (ci := 4) (q0 := 1) rfl (wC_1 _ _ _ _))) rfl rfl hl.1 rfl (lv_room (Nat.le_of_ble_eq_true rfl)) dX5_deliver_56 ⟨Nat.zero_le _, Nat.zero_le _⟩) hS (fun H locs hP _ hS => ?_)
    exact bret_Yi hx hb hr hP hS hlocks dX5_deliver_59 (by rw [← hF, F5_deliver, if_pos c_1, if_pos c_2, if_pos c_3, if_pos c_4])
def F5_sell (u : bU) (a1 : Int32) (a2 : Int32) (a3 : Int32) : Int32 × Int32 × bU := (if (F5_needShop u a1) = 0 then (if (F5_needBrand u a2) = 0 then (if (F5_needRange a3 1 500) = 0 then (if (F4_sellReason u a1 a2 a3) = 0 then (0, (F4_sellBottles (F1_keep u) a1 a2 a3).1, (F4_sellBottles (F1_keep u) a1 a2 a3).2) else (if (F5_needState 0) = 0 then (0, 0, u) else ((F5_needState 0), 0, u))) else ((F5_needRange a3 1 500), 0, u)) else ((F5_needBrand u a2), 0, u)) else ((F5_needShop u a1), 0, u))
set_option maxHeartbeats 4000000 in
set_option maxRecDepth 100000 in
theorem C5_sell (l : Launch) (D : va_G) (cI cO : ClassId) (q : Nat → Nat) (u : bU) (H0 : Heap) (hq : bInj 23 q) (hP : va_P D vwCl (wC cI cO q u) H0) (a1 : Int32) (a2 : Int32) (a3 : Int32) (hlat : bLat u) (h0 : (F5_sell u a1 a2 a3).1 = 0) : Met l yX5_sell wsX5_sell ({ frames := 4, cells := 0, slots := 0, locals := 243 }) (bP D [(cI, .int), (cO, .object RX2)] H0 [.ref (q 0), .int a1, .int a2, .int a3]) (bWi D (wC cI cO q) bT (bA 23 q H0.size) ((F5_sell u a1 a2 a3).2.1, (F5_sell u a1 a2 a3).2.2)) 0 0 (bA 23 q H0.size) := by
  refine Met.ofW (cc := cX5_sell) (maxL := 4) (ret := (some .int)) (by decide) rfl ?_
  intro p e s m args below meth c s₁ B hml hv
  obtain ⟨rfl, hH, hk⟩ := hv
  subst hH
  have hx := B.exec
  have hb := B.bytes
  have hr := B.returns
  have hts := atoms_spec (ws := wsX5_sell) B.pre
  have hown : s.vm.findClass RX5 = some m.cls := findClass_of_methodNamed B.named
  have hlocks := B.notSynchronized
  have iX5 : ∀ w ∈ wsX50, w ∈ wsX5_sell := by decide +kernel
  have hS : va_S (bA 23 q s.heap.size) s.heap s.heap [] := va_S.rf
  have hl := lv_entry ([.ref (q 0), .int a1, .int a2, .int a3]) (n := 4) (Nat.le_of_ble_eq_true rfl)
  rw [lg_entry_eq]
  generalize (lg_sl ([.ref (q 0), .int a1, .int a2, .int a3]) ++ List.replicate (4 - (lg_sl ([.ref (q 0), .int a1, .int a2, .int a3])).length) Slot.unset).toArray = ls at hl ⊢
  have hl : lv_has ls 4 [(0, .ref (q 0)), (1, .int a1), (2, .int a2), (3, .int a3)] := hl
  generalize hF : F5_sell u a1 a2 a3 = tgt at h0 ⊢
  refine lv_aload_n hx hb dX5_sell_0 rfl (lv_at hl 0 rfl) ?_
  refine lv_iload_n hx hb dX5_sell_1 rfl (lv_at hl 1 rfl) ?_
  have c_1 : (F5_needShop u a1) = 0 := Decidable.byContradiction (fun h9 => absurd ((congrArg Prod.fst (show ((F5_needShop u a1), (0 : Int32), u) = tgt from by rw [← hF, F5_sell, if_neg h9])).trans h0) h9)
  refine bcall_Rv (va_runV (As := [.int a1]) (rest := []) ⟨hx, hb, hml, hown, hts⟩ (C5_needShop l D cI cO q _ _ hP a1 c_1) (cwV 1 hts gX5_sell_X5_needShop rfl rfl rfl ⟨rfl, bd_X5needShop⟩ ⟨Nat.le_of_ble_eq_true rfl, Nat.le_of_ble_eq_true rfl⟩) (bPV hk (va_recv hk.1 hP (ci := 5) (q0 := 0) rfl (wC_0 _ _ _ _))) rfl rfl hl.1 rfl (lv_room (Nat.le_of_ble_eq_true rfl)) dX5_sell_2 ⟨Nat.zero_le _, Nat.zero_le _⟩) hS (fun locs hS => ?_)
  refine lv_aload_n hx hb dX5_sell_5 rfl (lv_at hl 0 rfl) ?_
  refine lv_iload_n hx hb dX5_sell_6 rfl (lv_at hl 2 rfl) ?_
  have c_2 : (F5_needBrand u a2) = 0 := Decidable.byContradiction (fun h9 => absurd ((congrArg Prod.fst (show ((F5_needBrand u a2), (0 : Int32), u) = tgt from by rw [← hF, F5_sell, if_pos c_1, if_neg h9])).trans h0) h9)
  refine bcall_Rv (va_runV (As := [.int a2]) (rest := []) ⟨hx, hb, hml, hown, hts⟩ (C5_needBrand l D cI cO q _ _ hP a2 c_2) (cwV 1 hts gX5_sell_X5_needBrand rfl rfl rfl ⟨rfl, bd_X5needBrand⟩ ⟨Nat.le_of_ble_eq_true rfl, Nat.le_of_ble_eq_true rfl⟩) (bPV hk (va_recv hk.1 hP (ci := 5) (q0 := 0) rfl (wC_0 _ _ _ _))) rfl rfl hl.1 rfl (lv_room (Nat.le_of_ble_eq_true rfl)) dX5_sell_7 ⟨Nat.zero_le _, Nat.zero_le _⟩) hS (fun locs hS => ?_)
  refine lv_iload_n hx hb dX5_sell_10 rfl (lv_at hl 3 rfl) ?_
  refine lv_iconst (v := 1) hx hb dX5_sell_11 (by decide) ?_
  refine lv_sipush (v := 500) hx hb dX5_sell_12 (by decide) ?_
  have c_3 : (F5_needRange a3 1 500) = 0 := Decidable.byContradiction (fun h9 => absurd ((congrArg Prod.fst (show ((F5_needRange a3 1 500), (0 : Int32), u) = tgt from by rw [← hF, F5_sell, if_pos c_1, if_pos c_2, if_neg h9])).trans h0) h9)
  refine bcall_Rv (va_runS (As := [.int a3, .int 1, .int 500]) (rest := []) ⟨hx, hb, hml, hown, hts⟩ (C5_needRange l D cI cO q _ a3 1 500 c_3) (va_cwS 3 hts gX5_sell_X5_needRange rfl rfl rfl bd_X5needRange ⟨Nat.le_of_ble_eq_true rfl, Nat.le_of_ble_eq_true rfl⟩) (bPS hk) rfl rfl hl.1 rfl (lv_room (Nat.le_of_ble_eq_true rfl)) dX5_sell_15 ⟨Nat.zero_le _, Nat.zero_le _⟩) hS (fun locs hS => ?_)
  refine lv_aload_n hx hb dX5_sell_18 rfl (lv_at hl 0 rfl) ?_
  refine va_get (D := D) (ci := 5) (C := RX5) (T := TX5) (N := 5) hx hb hts iX5 hown hk.1 hP 0 (wC_0 _ _ _ _) rfl 2 (by decide) (hts (.fieldLink RX5 12 "BottleLoop" "trade" "LBottleLoop$Trade;") (List.mem_of_getElem? (i := 1) rfl)) (fun _ h9 => h9) rfl dX5_sell_19 ?_
  refine lv_iload_n hx hb dX5_sell_22 rfl (lv_at hl 1 rfl) ?_
  refine lv_iload_n hx hb dX5_sell_23 rfl (lv_at hl 2 rfl) ?_
  refine lv_iload_n hx hb dX5_sell_24 rfl (lv_at hl 3 rfl) ?_
  refine bcall_Ri (va_runVN (As := [.int a1, .int a2, .int a3]) (rest := []) ⟨hx, hb, hml, hown, hts⟩ (C4_sellReason l D cI cO q _ _ hP a1 a2 a3) ⟨va_cnB 3 hts gX5_sell_X4_sellReason_n120 rfl rfl rfl (hk.2 (.methodLinkNest RX5 120 yX4_sellReason RX5) (List.mem_of_getElem? (i := 36) rfl)) (hts (.initialized RX4) (List.mem_of_getElem? (i := 41) rfl)) bd_X4sellReason ⟨Nat.le_of_ble_eq_true rfl, Nat.le_of_ble_eq_true rfl⟩, (hts (.instanceMethod yX4_sellReason) (List.mem_of_getElem? (i := 40) rfl)), (hts (.selects RX4 yX4_sellReason yX4_sellReason) (List.mem_of_getElem? (i := 42) rfl))⟩ (bPV hk (va_recv hk.1 hP (ci := 4) (q0 := 1) rfl (wC_1 _ _ _ _))) rfl rfl hl.1 rfl (lv_room (Nat.le_of_ble_eq_true rfl)) dX5_sell_25 ⟨Nat.zero_le _, Nat.zero_le _⟩) hS (fun locs hS => ?_)
  refine lv_if_ne (tgt := 35) hx hb dX5_sell_28 (by decide) (fun c_4 => ?_) (fun c_4 => ?_)
  · refine lv_iconst (v := 0) hx hb dX5_sell_35 (by decide) ?_
    have c_5 : (F5_needState 0) = 0 := Decidable.byContradiction (fun h9 => absurd ((congrArg Prod.fst (show ((F5_needState 0), (0 : Int32), u) = tgt from by rw [← hF, F5_sell, if_pos c_1, if_pos c_2, if_pos c_3, if_neg c_4, if_neg h9])).trans h0) h9)
    exact absurd c_5 (by decide)
  · refine lv_iconst (v := 1) hx hb dX5_sell_31 (by decide) ?_
    refine lv_goto (tgt := 36) hx hb dX5_sell_32 (by decide) ?_
    refine bcall_Rv (va_runS (As := [.int 1]) (rest := []) ⟨hx, hb, hml, hown, hts⟩ (C5_needState l D cI cO q _ 1 (by decide)) (va_cwS 1 hts gX5_sell_X5_needState rfl rfl rfl bd_X5needState ⟨Nat.le_of_ble_eq_true rfl, Nat.le_of_ble_eq_true rfl⟩) (bPS hk) rfl rfl hl.1 rfl (lv_room (Nat.le_of_ble_eq_true rfl)) dX5_sell_36 ⟨Nat.zero_le _, Nat.zero_le _⟩) hS (fun locs hS => ?_)
    refine lv_aload_n hx hb dX5_sell_39 rfl (lv_at hl 0 rfl) ?_
    refine va_get (D := D) (ci := 5) (C := RX5) (T := TX5) (N := 5) hx hb hts iX5 hown hk.1 hP 0 (wC_0 _ _ _ _) rfl 1 (by decide) (hts (.fieldLink RX5 26 "BottleLoop" "past" "LBottleLoop$Past;") (List.mem_of_getElem? (i := 2) rfl)) (fun _ h9 => h9) rfl dX5_sell_40 ?_
    refine lv_aload_n hx hb dX5_sell_43 rfl (lv_at hl 0 rfl) ?_
    refine va_get (D := D) (ci := 5) (C := RX5) (T := TX5) (N := 5) hx hb hts iX5 hown hk.1 hP 0 (wC_0 _ _ _ _) rfl 0 (by decide) (hts (.fieldLink RX5 20 "BottleLoop" "now" "LBottleLoop$State;") (List.mem_of_getElem? (i := 3) rfl)) (fun _ h9 => h9) rfl dX5_sell_44 ?_
    refine bcall_Wv (va_runVN (As := [.ref (q 3)]) (rest := []) ⟨hx, hb, hml, hown, hts⟩ (C1_keep l D cI cO q _ _ hq hP  hlat) ⟨va_cnB 1 hts gX5_sell_X1_keep_n62 rfl rfl rfl (hk.2 (.methodLinkNest RX5 62 yX1_keep RX5) (List.mem_of_getElem? (i := 9) rfl)) (hts (.initialized RX1) (List.mem_of_getElem? (i := 57) rfl)) bd_X1keep ⟨Nat.le_of_ble_eq_true rfl, Nat.le_of_ble_eq_true rfl⟩, (hts (.instanceMethod yX1_keep) (List.mem_of_getElem? (i := 56) rfl)), (hts (.selects RX1 yX1_keep yX1_keep) (List.mem_of_getElem? (i := 58) rfl))⟩ (bPV hk (va_recv hk.1 hP (ci := 1) (q0 := 5) rfl (wC_5 _ _ _ _))) rfl rfl hl.1 rfl (lv_room (Nat.le_of_ble_eq_true rfl)) dX5_sell_47 ⟨Nat.zero_le _, Nat.zero_le _⟩) hS (fun H locs hP _ hS => ?_)
    refine lv_aload_n hx hb dX5_sell_50 rfl (lv_at hl 0 rfl) ?_
    refine va_get (D := D) (ci := 5) (C := RX5) (T := TX5) (N := 5) hx hb hts iX5 hown hk.1 hP 0 (wC_0 _ _ _ _) rfl 2 (by decide) (hts (.fieldLink RX5 12 "BottleLoop" "trade" "LBottleLoop$Trade;") (List.mem_of_getElem? (i := 1) rfl)) (fun _ h9 => h9) rfl dX5_sell_51 ?_
    refine lv_iload_n hx hb dX5_sell_54 rfl (lv_at hl 1 rfl) ?_
    refine lv_iload_n hx hb dX5_sell_55 rfl (lv_at hl 2 rfl) ?_
    refine lv_iload_n hx hb dX5_sell_56 rfl (lv_at hl 3 rfl) ?_
    refine bcall_Wi (va_runVN (As := [.int a1, .int a2, .int a3]) (rest := []) ⟨hx, hb, hml, hown, hts⟩ (C4_sellBottles l D cI cO q _ _ hq hP a1 a2 a3) ⟨va_cnB 3 hts gX5_sell_X4_sellBottles_n123 rfl rfl rfl (hk.2 (.methodLinkNest RX5 123 yX4_sellBottles RX5) (List.mem_of_getElem? (i := 37) rfl)) (hts (.initialized RX4) (List.mem_of_getElem? (i := 41) rfl)) bd_X4sellBottles ⟨Nat.le_of_ble_eq_true rfl, Nat.le_of_ble_eq_true rfl⟩, (hts (.instanceMethod yX4_sellBottles) (List.mem_of_getElem? (i := 74) rfl)), (hts (.selects RX4 yX4_sellBottles yX4_sellBottles) (List.mem_of_getElem? (i := 75) rfl))⟩ (bPV hk (va_recv hk.1 hP (ci := 4) (q0 := 1) rfl (wC_1 _ _ _ _))) rfl rfl hl.1 rfl (lv_room (Nat.le_of_ble_eq_true rfl)) dX5_sell_57 ⟨Nat.zero_le _, Nat.zero_le _⟩) hS (fun H locs hP _ hS => ?_)
    exact bret_Yi hx hb hr hP hS hlocks dX5_sell_60 (by rw [← hF, F5_sell, if_pos c_1, if_pos c_2, if_pos c_3, if_pos c_4])
def F5_takeBack (u : bU) (a1 : Int32) (a2 : Int32) (a3 : Int32) : Int32 × Int32 × bU := (if (F5_needShop u a1) = 0 then (if (F5_needBrand u a2) = 0 then (if (F5_needRange a3 1 500) = 0 then (if (F4_returnReason u a1 a2 a3) = 0 then (0, (F4_returnBottles (F1_keep u) a1 a2 a3).1, (F4_returnBottles (F1_keep u) a1 a2 a3).2) else (if (F5_needState 0) = 0 then (0, 0, u) else ((F5_needState 0), 0, u))) else ((F5_needRange a3 1 500), 0, u)) else ((F5_needBrand u a2), 0, u)) else ((F5_needShop u a1), 0, u))
set_option maxHeartbeats 4000000 in
set_option maxRecDepth 100000 in
theorem C5_takeBack (l : Launch) (D : va_G) (cI cO : ClassId) (q : Nat → Nat) (u : bU) (H0 : Heap) (hq : bInj 23 q) (hP : va_P D vwCl (wC cI cO q u) H0) (a1 : Int32) (a2 : Int32) (a3 : Int32) (hlat : bLat u) (h0 : (F5_takeBack u a1 a2 a3).1 = 0) : Met l yX5_takeBack wsX5_takeBack ({ frames := 4, cells := 0, slots := 0, locals := 243 }) (bP D [(cI, .int), (cO, .object RX2)] H0 [.ref (q 0), .int a1, .int a2, .int a3]) (bWi D (wC cI cO q) bT (bA 23 q H0.size) ((F5_takeBack u a1 a2 a3).2.1, (F5_takeBack u a1 a2 a3).2.2)) 0 0 (bA 23 q H0.size) := by
  refine Met.ofW (cc := cX5_takeBack) (maxL := 4) (ret := (some .int)) (by decide) rfl ?_
  intro p e s m args below meth c s₁ B hml hv
  obtain ⟨rfl, hH, hk⟩ := hv
  subst hH
  have hx := B.exec
  have hb := B.bytes
  have hr := B.returns
  have hts := atoms_spec (ws := wsX5_takeBack) B.pre
  have hown : s.vm.findClass RX5 = some m.cls := findClass_of_methodNamed B.named
  have hlocks := B.notSynchronized
  have iX5 : ∀ w ∈ wsX50, w ∈ wsX5_takeBack := by decide +kernel
  have hS : va_S (bA 23 q s.heap.size) s.heap s.heap [] := va_S.rf
  have hl := lv_entry ([.ref (q 0), .int a1, .int a2, .int a3]) (n := 4) (Nat.le_of_ble_eq_true rfl)
  rw [lg_entry_eq]
  generalize (lg_sl ([.ref (q 0), .int a1, .int a2, .int a3]) ++ List.replicate (4 - (lg_sl ([.ref (q 0), .int a1, .int a2, .int a3])).length) Slot.unset).toArray = ls at hl ⊢
  have hl : lv_has ls 4 [(0, .ref (q 0)), (1, .int a1), (2, .int a2), (3, .int a3)] := hl
  generalize hF : F5_takeBack u a1 a2 a3 = tgt at h0 ⊢
  refine lv_aload_n hx hb dX5_takeBack_0 rfl (lv_at hl 0 rfl) ?_
  refine lv_iload_n hx hb dX5_takeBack_1 rfl (lv_at hl 1 rfl) ?_
  have c_1 : (F5_needShop u a1) = 0 := Decidable.byContradiction (fun h9 => absurd ((congrArg Prod.fst (show ((F5_needShop u a1), (0 : Int32), u) = tgt from by rw [← hF, F5_takeBack, if_neg h9])).trans h0) h9)
  refine bcall_Rv (va_runV (As := [.int a1]) (rest := []) ⟨hx, hb, hml, hown, hts⟩ (C5_needShop l D cI cO q _ _ hP a1 c_1) (cwV 1 hts gX5_takeBack_X5_needShop rfl rfl rfl ⟨rfl, bd_X5needShop⟩ ⟨Nat.le_of_ble_eq_true rfl, Nat.le_of_ble_eq_true rfl⟩) (bPV hk (va_recv hk.1 hP (ci := 5) (q0 := 0) rfl (wC_0 _ _ _ _))) rfl rfl hl.1 rfl (lv_room (Nat.le_of_ble_eq_true rfl)) dX5_takeBack_2 ⟨Nat.zero_le _, Nat.zero_le _⟩) hS (fun locs hS => ?_)
  refine lv_aload_n hx hb dX5_takeBack_5 rfl (lv_at hl 0 rfl) ?_
  refine lv_iload_n hx hb dX5_takeBack_6 rfl (lv_at hl 2 rfl) ?_
  have c_2 : (F5_needBrand u a2) = 0 := Decidable.byContradiction (fun h9 => absurd ((congrArg Prod.fst (show ((F5_needBrand u a2), (0 : Int32), u) = tgt from by rw [← hF, F5_takeBack, if_pos c_1, if_neg h9])).trans h0) h9)
  refine bcall_Rv (va_runV (As := [.int a2]) (rest := []) ⟨hx, hb, hml, hown, hts⟩ (C5_needBrand l D cI cO q _ _ hP a2 c_2) (cwV 1 hts gX5_takeBack_X5_needBrand rfl rfl rfl ⟨rfl, bd_X5needBrand⟩ ⟨Nat.le_of_ble_eq_true rfl, Nat.le_of_ble_eq_true rfl⟩) (bPV hk (va_recv hk.1 hP (ci := 5) (q0 := 0) rfl (wC_0 _ _ _ _))) rfl rfl hl.1 rfl (lv_room (Nat.le_of_ble_eq_true rfl)) dX5_takeBack_7 ⟨Nat.zero_le _, Nat.zero_le _⟩) hS (fun locs hS => ?_)
  refine lv_iload_n hx hb dX5_takeBack_10 rfl (lv_at hl 3 rfl) ?_
  refine lv_iconst (v := 1) hx hb dX5_takeBack_11 (by decide) ?_
  refine lv_sipush (v := 500) hx hb dX5_takeBack_12 (by decide) ?_
  have c_3 : (F5_needRange a3 1 500) = 0 := Decidable.byContradiction (fun h9 => absurd ((congrArg Prod.fst (show ((F5_needRange a3 1 500), (0 : Int32), u) = tgt from by rw [← hF, F5_takeBack, if_pos c_1, if_pos c_2, if_neg h9])).trans h0) h9)
  refine bcall_Rv (va_runS (As := [.int a3, .int 1, .int 500]) (rest := []) ⟨hx, hb, hml, hown, hts⟩ (C5_needRange l D cI cO q _ a3 1 500 c_3) (va_cwS 3 hts gX5_takeBack_X5_needRange rfl rfl rfl bd_X5needRange ⟨Nat.le_of_ble_eq_true rfl, Nat.le_of_ble_eq_true rfl⟩) (bPS hk) rfl rfl hl.1 rfl (lv_room (Nat.le_of_ble_eq_true rfl)) dX5_takeBack_15 ⟨Nat.zero_le _, Nat.zero_le _⟩) hS (fun locs hS => ?_)
  refine lv_aload_n hx hb dX5_takeBack_18 rfl (lv_at hl 0 rfl) ?_
  refine va_get (D := D) (ci := 5) (C := RX5) (T := TX5) (N := 5) hx hb hts iX5 hown hk.1 hP 0 (wC_0 _ _ _ _) rfl 2 (by decide) (hts (.fieldLink RX5 12 "BottleLoop" "trade" "LBottleLoop$Trade;") (List.mem_of_getElem? (i := 1) rfl)) (fun _ h9 => h9) rfl dX5_takeBack_19 ?_
  refine lv_iload_n hx hb dX5_takeBack_22 rfl (lv_at hl 1 rfl) ?_
  refine lv_iload_n hx hb dX5_takeBack_23 rfl (lv_at hl 2 rfl) ?_
  refine lv_iload_n hx hb dX5_takeBack_24 rfl (lv_at hl 3 rfl) ?_
  refine bcall_Ri (va_runVN (As := [.int a1, .int a2, .int a3]) (rest := []) ⟨hx, hb, hml, hown, hts⟩ (C4_returnReason l D cI cO q _ _ hP a1 a2 a3) ⟨va_cnB 3 hts gX5_takeBack_X4_returnReason_n126 rfl rfl rfl (hk.2 (.methodLinkNest RX5 126 yX4_returnReason RX5) (List.mem_of_getElem? (i := 38) rfl)) (hts (.initialized RX4) (List.mem_of_getElem? (i := 41) rfl)) bd_X4returnReason ⟨Nat.le_of_ble_eq_true rfl, Nat.le_of_ble_eq_true rfl⟩, (hts (.instanceMethod yX4_returnReason) (List.mem_of_getElem? (i := 40) rfl)), (hts (.selects RX4 yX4_returnReason yX4_returnReason) (List.mem_of_getElem? (i := 42) rfl))⟩ (bPV hk (va_recv hk.1 hP (ci := 4) (q0 := 1) rfl (wC_1 _ _ _ _))) rfl rfl hl.1 rfl (lv_room (Nat.le_of_ble_eq_true rfl)) dX5_takeBack_25 ⟨Nat.zero_le _, Nat.zero_le _⟩) hS (fun locs hS => ?_)
  refine lv_if_ne (tgt := 35) hx hb dX5_takeBack_28 (by decide) (fun c_4 => ?_) (fun c_4 => ?_)
  · refine lv_iconst (v := 0) hx hb dX5_takeBack_35 (by decide) ?_
    have c_5 : (F5_needState 0) = 0 := Decidable.byContradiction (fun h9 => absurd ((congrArg Prod.fst (show ((F5_needState 0), (0 : Int32), u) = tgt from by rw [← hF, F5_takeBack, if_pos c_1, if_pos c_2, if_pos c_3, if_neg c_4, if_neg h9])).trans h0) h9)
    exact absurd c_5 (by decide)
  · refine lv_iconst (v := 1) hx hb dX5_takeBack_31 (by decide) ?_
    refine lv_goto (tgt := 36) hx hb dX5_takeBack_32 (by decide) ?_
    refine bcall_Rv (va_runS (As := [.int 1]) (rest := []) ⟨hx, hb, hml, hown, hts⟩ (C5_needState l D cI cO q _ 1 (by decide)) (va_cwS 1 hts gX5_takeBack_X5_needState rfl rfl rfl bd_X5needState ⟨Nat.le_of_ble_eq_true rfl, Nat.le_of_ble_eq_true rfl⟩) (bPS hk) rfl rfl hl.1 rfl (lv_room (Nat.le_of_ble_eq_true rfl)) dX5_takeBack_36 ⟨Nat.zero_le _, Nat.zero_le _⟩) hS (fun locs hS => ?_)
    refine lv_aload_n hx hb dX5_takeBack_39 rfl (lv_at hl 0 rfl) ?_
    refine va_get (D := D) (ci := 5) (C := RX5) (T := TX5) (N := 5) hx hb hts iX5 hown hk.1 hP 0 (wC_0 _ _ _ _) rfl 1 (by decide) (hts (.fieldLink RX5 26 "BottleLoop" "past" "LBottleLoop$Past;") (List.mem_of_getElem? (i := 2) rfl)) (fun _ h9 => h9) rfl dX5_takeBack_40 ?_
    refine lv_aload_n hx hb dX5_takeBack_43 rfl (lv_at hl 0 rfl) ?_
    refine va_get (D := D) (ci := 5) (C := RX5) (T := TX5) (N := 5) hx hb hts iX5 hown hk.1 hP 0 (wC_0 _ _ _ _) rfl 0 (by decide) (hts (.fieldLink RX5 20 "BottleLoop" "now" "LBottleLoop$State;") (List.mem_of_getElem? (i := 3) rfl)) (fun _ h9 => h9) rfl dX5_takeBack_44 ?_
    refine bcall_Wv (va_runVN (As := [.ref (q 3)]) (rest := []) ⟨hx, hb, hml, hown, hts⟩ (C1_keep l D cI cO q _ _ hq hP  hlat) ⟨va_cnB 1 hts gX5_takeBack_X1_keep_n62 rfl rfl rfl (hk.2 (.methodLinkNest RX5 62 yX1_keep RX5) (List.mem_of_getElem? (i := 9) rfl)) (hts (.initialized RX1) (List.mem_of_getElem? (i := 64) rfl)) bd_X1keep ⟨Nat.le_of_ble_eq_true rfl, Nat.le_of_ble_eq_true rfl⟩, (hts (.instanceMethod yX1_keep) (List.mem_of_getElem? (i := 63) rfl)), (hts (.selects RX1 yX1_keep yX1_keep) (List.mem_of_getElem? (i := 65) rfl))⟩ (bPV hk (va_recv hk.1 hP (ci := 1) (q0 := 5) rfl (wC_5 _ _ _ _))) rfl rfl hl.1 rfl (lv_room (Nat.le_of_ble_eq_true rfl)) dX5_takeBack_47 ⟨Nat.zero_le _, Nat.zero_le _⟩) hS (fun H locs hP _ hS => ?_)
    refine lv_aload_n hx hb dX5_takeBack_50 rfl (lv_at hl 0 rfl) ?_
    refine va_get (D := D) (ci := 5) (C := RX5) (T := TX5) (N := 5) hx hb hts iX5 hown hk.1 hP 0 (wC_0 _ _ _ _) rfl 2 (by decide) (hts (.fieldLink RX5 12 "BottleLoop" "trade" "LBottleLoop$Trade;") (List.mem_of_getElem? (i := 1) rfl)) (fun _ h9 => h9) rfl dX5_takeBack_51 ?_
    refine lv_iload_n hx hb dX5_takeBack_54 rfl (lv_at hl 1 rfl) ?_
    refine lv_iload_n hx hb dX5_takeBack_55 rfl (lv_at hl 2 rfl) ?_
    refine lv_iload_n hx hb dX5_takeBack_56 rfl (lv_at hl 3 rfl) ?_
    refine bcall_Wi (va_runVN (As := [.int a1, .int a2, .int a3]) (rest := []) ⟨hx, hb, hml, hown, hts⟩ (C4_returnBottles l D cI cO q _ _ hq hP a1 a2 a3) ⟨va_cnB 3 hts gX5_takeBack_X4_returnBottles_n129 rfl rfl rfl (hk.2 (.methodLinkNest RX5 129 yX4_returnBottles RX5) (List.mem_of_getElem? (i := 39) rfl)) (hts (.initialized RX4) (List.mem_of_getElem? (i := 41) rfl)) bd_X4returnBottles ⟨Nat.le_of_ble_eq_true rfl, Nat.le_of_ble_eq_true rfl⟩, (hts (.instanceMethod yX4_returnBottles) (List.mem_of_getElem? (i := 81) rfl)), (hts (.selects RX4 yX4_returnBottles yX4_returnBottles) (List.mem_of_getElem? (i := 82) rfl))⟩ (bPV hk (va_recv hk.1 hP (ci := 4) (q0 := 1) rfl (wC_1 _ _ _ _))) rfl rfl hl.1 rfl (lv_room (Nat.le_of_ble_eq_true rfl)) dX5_takeBack_57 ⟨Nat.zero_le _, Nat.zero_le _⟩) hS (fun H locs hP _ hS => ?_)
    exact bret_Yi hx hb hr hP hS hlocks dX5_takeBack_60 (by rw [← hF, F5_takeBack, if_pos c_1, if_pos c_2, if_pos c_3, if_pos c_4])
def F5_breaks (u : bU) (a1 : Int32) (a2 : Int32) (a3 : Int32) : Int32 × Int32 × bU := (if (F5_needShop u a1) = 0 then (if (F5_needBrand u a2) = 0 then (if (F5_needRange a3 1 500) = 0 then (if (F4_breakReason u a1 a2 a3) = 0 then (0, (F4_breakBottles (F1_keep u) a1 a2 a3).1, (F4_breakBottles (F1_keep u) a1 a2 a3).2) else (if (F5_needState 0) = 0 then (0, 0, u) else ((F5_needState 0), 0, u))) else ((F5_needRange a3 1 500), 0, u)) else ((F5_needBrand u a2), 0, u)) else ((F5_needShop u a1), 0, u))
set_option maxHeartbeats 4000000 in
set_option maxRecDepth 100000 in
theorem C5_breaks (l : Launch) (D : va_G) (cI cO : ClassId) (q : Nat → Nat) (u : bU) (H0 : Heap) (hq : bInj 23 q) (hP : va_P D vwCl (wC cI cO q u) H0) (a1 : Int32) (a2 : Int32) (a3 : Int32) (hlat : bLat u) (h0 : (F5_breaks u a1 a2 a3).1 = 0) : Met l yX5_breaks wsX5_breaks ({ frames := 4, cells := 0, slots := 0, locals := 243 }) (bP D [(cI, .int), (cO, .object RX2)] H0 [.ref (q 0), .int a1, .int a2, .int a3]) (bWi D (wC cI cO q) bT (bA 23 q H0.size) ((F5_breaks u a1 a2 a3).2.1, (F5_breaks u a1 a2 a3).2.2)) 0 0 (bA 23 q H0.size) := by
  refine Met.ofW (cc := cX5_breaks) (maxL := 4) (ret := (some .int)) (by decide) rfl ?_
  intro p e s m args below meth c s₁ B hml hv
  obtain ⟨rfl, hH, hk⟩ := hv
  subst hH
  have hx := B.exec
  have hb := B.bytes
  have hr := B.returns
  have hts := atoms_spec (ws := wsX5_breaks) B.pre
  have hown : s.vm.findClass RX5 = some m.cls := findClass_of_methodNamed B.named
  have hlocks := B.notSynchronized
  have iX5 : ∀ w ∈ wsX50, w ∈ wsX5_breaks := by decide +kernel
  have hS : va_S (bA 23 q s.heap.size) s.heap s.heap [] := va_S.rf
  have hl := lv_entry ([.ref (q 0), .int a1, .int a2, .int a3]) (n := 4) (Nat.le_of_ble_eq_true rfl)
  rw [lg_entry_eq]
  generalize (lg_sl ([.ref (q 0), .int a1, .int a2, .int a3]) ++ List.replicate (4 - (lg_sl ([.ref (q 0), .int a1, .int a2, .int a3])).length) Slot.unset).toArray = ls at hl ⊢
  have hl : lv_has ls 4 [(0, .ref (q 0)), (1, .int a1), (2, .int a2), (3, .int a3)] := hl
  generalize hF : F5_breaks u a1 a2 a3 = tgt at h0 ⊢
  refine lv_aload_n hx hb dX5_breaks_0 rfl (lv_at hl 0 rfl) ?_
  refine lv_iload_n hx hb dX5_breaks_1 rfl (lv_at hl 1 rfl) ?_
  have c_1 : (F5_needShop u a1) = 0 := Decidable.byContradiction (fun h9 => absurd ((congrArg Prod.fst (show ((F5_needShop u a1), (0 : Int32), u) = tgt from by rw [← hF, F5_breaks, if_neg h9])).trans h0) h9)
  refine bcall_Rv (va_runV (As := [.int a1]) (rest := []) ⟨hx, hb, hml, hown, hts⟩ (C5_needShop l D cI cO q _ _ hP a1 c_1) (cwV 1 hts gX5_breaks_X5_needShop rfl rfl rfl ⟨rfl, bd_X5needShop⟩ ⟨Nat.le_of_ble_eq_true rfl, Nat.le_of_ble_eq_true rfl⟩) (bPV hk (va_recv hk.1 hP (ci := 5) (q0 := 0) rfl (wC_0 _ _ _ _))) rfl rfl hl.1 rfl (lv_room (Nat.le_of_ble_eq_true rfl)) dX5_breaks_2 ⟨Nat.zero_le _, Nat.zero_le _⟩) hS (fun locs hS => ?_)
  refine lv_aload_n hx hb dX5_breaks_5 rfl (lv_at hl 0 rfl) ?_
  refine lv_iload_n hx hb dX5_breaks_6 rfl (lv_at hl 2 rfl) ?_
  have c_2 : (F5_needBrand u a2) = 0 := Decidable.byContradiction (fun h9 => absurd ((congrArg Prod.fst (show ((F5_needBrand u a2), (0 : Int32), u) = tgt from by rw [← hF, F5_breaks, if_pos c_1, if_neg h9])).trans h0) h9)
  refine bcall_Rv (va_runV (As := [.int a2]) (rest := []) ⟨hx, hb, hml, hown, hts⟩ (C5_needBrand l D cI cO q _ _ hP a2 c_2) (cwV 1 hts gX5_breaks_X5_needBrand rfl rfl rfl ⟨rfl, bd_X5needBrand⟩ ⟨Nat.le_of_ble_eq_true rfl, Nat.le_of_ble_eq_true rfl⟩) (bPV hk (va_recv hk.1 hP (ci := 5) (q0 := 0) rfl (wC_0 _ _ _ _))) rfl rfl hl.1 rfl (lv_room (Nat.le_of_ble_eq_true rfl)) dX5_breaks_7 ⟨Nat.zero_le _, Nat.zero_le _⟩) hS (fun locs hS => ?_)
  refine lv_iload_n hx hb dX5_breaks_10 rfl (lv_at hl 3 rfl) ?_
  refine lv_iconst (v := 1) hx hb dX5_breaks_11 (by decide) ?_
  refine lv_sipush (v := 500) hx hb dX5_breaks_12 (by decide) ?_
  have c_3 : (F5_needRange a3 1 500) = 0 := Decidable.byContradiction (fun h9 => absurd ((congrArg Prod.fst (show ((F5_needRange a3 1 500), (0 : Int32), u) = tgt from by rw [← hF, F5_breaks, if_pos c_1, if_pos c_2, if_neg h9])).trans h0) h9)
  refine bcall_Rv (va_runS (As := [.int a3, .int 1, .int 500]) (rest := []) ⟨hx, hb, hml, hown, hts⟩ (C5_needRange l D cI cO q _ a3 1 500 c_3) (va_cwS 3 hts gX5_breaks_X5_needRange rfl rfl rfl bd_X5needRange ⟨Nat.le_of_ble_eq_true rfl, Nat.le_of_ble_eq_true rfl⟩) (bPS hk) rfl rfl hl.1 rfl (lv_room (Nat.le_of_ble_eq_true rfl)) dX5_breaks_15 ⟨Nat.zero_le _, Nat.zero_le _⟩) hS (fun locs hS => ?_)
  refine lv_aload_n hx hb dX5_breaks_18 rfl (lv_at hl 0 rfl) ?_
  refine va_get (D := D) (ci := 5) (C := RX5) (T := TX5) (N := 5) hx hb hts iX5 hown hk.1 hP 0 (wC_0 _ _ _ _) rfl 2 (by decide) (hts (.fieldLink RX5 12 "BottleLoop" "trade" "LBottleLoop$Trade;") (List.mem_of_getElem? (i := 1) rfl)) (fun _ h9 => h9) rfl dX5_breaks_19 ?_
  refine lv_iload_n hx hb dX5_breaks_22 rfl (lv_at hl 1 rfl) ?_
  refine lv_iload_n hx hb dX5_breaks_23 rfl (lv_at hl 2 rfl) ?_
  refine lv_iload_n hx hb dX5_breaks_24 rfl (lv_at hl 3 rfl) ?_
  refine bcall_Ri (va_runVN (As := [.int a1, .int a2, .int a3]) (rest := []) ⟨hx, hb, hml, hown, hts⟩ (C4_breakReason l D cI cO q _ _ hP a1 a2 a3) ⟨va_cnB 3 hts gX5_breaks_X4_breakReason_n132 rfl rfl rfl (hk.2 (.methodLinkNest RX5 132 yX4_breakReason RX5) (List.mem_of_getElem? (i := 44) rfl)) (hts (.initialized RX4) (List.mem_of_getElem? (i := 41) rfl)) bd_X4breakReason ⟨Nat.le_of_ble_eq_true rfl, Nat.le_of_ble_eq_true rfl⟩, (hts (.instanceMethod yX4_breakReason) (List.mem_of_getElem? (i := 40) rfl)), (hts (.selects RX4 yX4_breakReason yX4_breakReason) (List.mem_of_getElem? (i := 42) rfl))⟩ (bPV hk (va_recv hk.1 hP (ci := 4) (q0 := 1) rfl (wC_1 _ _ _ _))) rfl rfl hl.1 rfl (lv_room (Nat.le_of_ble_eq_true rfl)) dX5_breaks_25 ⟨Nat.zero_le _, Nat.zero_le _⟩) hS (fun locs hS => ?_)
  refine lv_if_ne (tgt := 35) hx hb dX5_breaks_28 (by decide) (fun c_4 => ?_) (fun c_4 => ?_)
  · refine lv_iconst (v := 0) hx hb dX5_breaks_35 (by decide) ?_
    have c_5 : (F5_needState 0) = 0 := Decidable.byContradiction (fun h9 => absurd ((congrArg Prod.fst (show ((F5_needState 0), (0 : Int32), u) = tgt from by rw [← hF, F5_breaks, if_pos c_1, if_pos c_2, if_pos c_3, if_neg c_4, if_neg h9])).trans h0) h9)
    exact absurd c_5 (by decide)
  · refine lv_iconst (v := 1) hx hb dX5_breaks_31 (by decide) ?_
    refine lv_goto (tgt := 36) hx hb dX5_breaks_32 (by decide) ?_
    refine bcall_Rv (va_runS (As := [.int 1]) (rest := []) ⟨hx, hb, hml, hown, hts⟩ (C5_needState l D cI cO q _ 1 (by decide)) (va_cwS 1 hts gX5_breaks_X5_needState rfl rfl rfl bd_X5needState ⟨Nat.le_of_ble_eq_true rfl, Nat.le_of_ble_eq_true rfl⟩) (bPS hk) rfl rfl hl.1 rfl (lv_room (Nat.le_of_ble_eq_true rfl)) dX5_breaks_36 ⟨Nat.zero_le _, Nat.zero_le _⟩) hS (fun locs hS => ?_)
    refine lv_aload_n hx hb dX5_breaks_39 rfl (lv_at hl 0 rfl) ?_
    refine va_get (D := D) (ci := 5) (C := RX5) (T := TX5) (N := 5) hx hb hts iX5 hown hk.1 hP 0 (wC_0 _ _ _ _) rfl 1 (by decide) (hts (.fieldLink RX5 26 "BottleLoop" "past" "LBottleLoop$Past;") (List.mem_of_getElem? (i := 2) rfl)) (fun _ h9 => h9) rfl dX5_breaks_40 ?_
    refine lv_aload_n hx hb dX5_breaks_43 rfl (lv_at hl 0 rfl) ?_
    refine va_get (D := D) (ci := 5) (C := RX5) (T := TX5) (N := 5) hx hb hts iX5 hown hk.1 hP 0 (wC_0 _ _ _ _) rfl 0 (by decide) (hts (.fieldLink RX5 20 "BottleLoop" "now" "LBottleLoop$State;") (List.mem_of_getElem? (i := 3) rfl)) (fun _ h9 => h9) rfl dX5_breaks_44 ?_
    refine bcall_Wv (va_runVN (As := [.ref (q 3)]) (rest := []) ⟨hx, hb, hml, hown, hts⟩ (C1_keep l D cI cO q _ _ hq hP  hlat) ⟨va_cnB 1 hts gX5_breaks_X1_keep_n62 rfl rfl rfl (hk.2 (.methodLinkNest RX5 62 yX1_keep RX5) (List.mem_of_getElem? (i := 9) rfl)) (hts (.initialized RX1) (List.mem_of_getElem? (i := 57) rfl)) bd_X1keep ⟨Nat.le_of_ble_eq_true rfl, Nat.le_of_ble_eq_true rfl⟩, (hts (.instanceMethod yX1_keep) (List.mem_of_getElem? (i := 56) rfl)), (hts (.selects RX1 yX1_keep yX1_keep) (List.mem_of_getElem? (i := 58) rfl))⟩ (bPV hk (va_recv hk.1 hP (ci := 1) (q0 := 5) rfl (wC_5 _ _ _ _))) rfl rfl hl.1 rfl (lv_room (Nat.le_of_ble_eq_true rfl)) dX5_breaks_47 ⟨Nat.zero_le _, Nat.zero_le _⟩) hS (fun H locs hP _ hS => ?_)
    refine lv_aload_n hx hb dX5_breaks_50 rfl (lv_at hl 0 rfl) ?_
    refine va_get (D := D) (ci := 5) (C := RX5) (T := TX5) (N := 5) hx hb hts iX5 hown hk.1 hP 0 (wC_0 _ _ _ _) rfl 2 (by decide) (hts (.fieldLink RX5 12 "BottleLoop" "trade" "LBottleLoop$Trade;") (List.mem_of_getElem? (i := 1) rfl)) (fun _ h9 => h9) rfl dX5_breaks_51 ?_
    refine lv_iload_n hx hb dX5_breaks_54 rfl (lv_at hl 1 rfl) ?_
    refine lv_iload_n hx hb dX5_breaks_55 rfl (lv_at hl 2 rfl) ?_
    refine lv_iload_n hx hb dX5_breaks_56 rfl (lv_at hl 3 rfl) ?_
    refine bcall_Wi (va_runVN (As := [.int a1, .int a2, .int a3]) (rest := []) ⟨hx, hb, hml, hown, hts⟩ (C4_breakBottles l D cI cO q _ _ hq hP a1 a2 a3) ⟨va_cnB 3 hts gX5_breaks_X4_breakBottles_n135 rfl rfl rfl (hk.2 (.methodLinkNest RX5 135 yX4_breakBottles RX5) (List.mem_of_getElem? (i := 45) rfl)) (hts (.initialized RX4) (List.mem_of_getElem? (i := 41) rfl)) bd_X4breakBottles ⟨Nat.le_of_ble_eq_true rfl, Nat.le_of_ble_eq_true rfl⟩, (hts (.instanceMethod yX4_breakBottles) (List.mem_of_getElem? (i := 74) rfl)), (hts (.selects RX4 yX4_breakBottles yX4_breakBottles) (List.mem_of_getElem? (i := 75) rfl))⟩ (bPV hk (va_recv hk.1 hP (ci := 4) (q0 := 1) rfl (wC_1 _ _ _ _))) rfl rfl hl.1 rfl (lv_room (Nat.le_of_ble_eq_true rfl)) dX5_breaks_57 ⟨Nat.zero_le _, Nat.zero_le _⟩) hS (fun H locs hP _ hS => ?_)
    exact bret_Yi hx hb hr hP hS hlocks dX5_breaks_60 (by rw [← hF, F5_breaks, if_pos c_1, if_pos c_2, if_pos c_3, if_pos c_4])
def F5_lose (u : bU) (a1 : Int32) (a2 : Int32) : Int32 × Int32 × bU := (if (F5_needBrand u a1) = 0 then (if (F5_needRange a2 1 5000) = 0 then (if (F2_ofBrand u a1 5) < a2 then (if (F5_needState 0) = 0 then (0, 0, u) else ((F5_needState 0), 0, u)) else (0, (F4_loseBottles (F1_keep u) a1 a2).1, (F4_loseBottles (F1_keep u) a1 a2).2)) else ((F5_needRange a2 1 5000), 0, u)) else ((F5_needBrand u a1), 0, u))
set_option maxHeartbeats 4000000 in
set_option maxRecDepth 100000 in
theorem C5_lose (l : Launch) (D : va_G) (cI cO : ClassId) (q : Nat → Nat) (u : bU) (H0 : Heap) (hq : bInj 23 q) (hP : va_P D vwCl (wC cI cO q u) H0) (a1 : Int32) (a2 : Int32) (hlat : bLat u) (h0 : (F5_lose u a1 a2).1 = 0) : Met l yX5_lose wsX5_lose ({ frames := 4, cells := 0, slots := 0, locals := 243 }) (bP D [(cI, .int), (cO, .object RX2)] H0 [.ref (q 0), .int a1, .int a2]) (bWi D (wC cI cO q) bT (bA 23 q H0.size) ((F5_lose u a1 a2).2.1, (F5_lose u a1 a2).2.2)) 0 0 (bA 23 q H0.size) := by
  refine Met.ofW (cc := cX5_lose) (maxL := 3) (ret := (some .int)) (by decide) rfl ?_
  intro p e s m args below meth c s₁ B hml hv
  obtain ⟨rfl, hH, hk⟩ := hv
  subst hH
  have hx := B.exec
  have hb := B.bytes
  have hr := B.returns
  have hts := atoms_spec (ws := wsX5_lose) B.pre
  have hown : s.vm.findClass RX5 = some m.cls := findClass_of_methodNamed B.named
  have hlocks := B.notSynchronized
  have iX5 : ∀ w ∈ wsX50, w ∈ wsX5_lose := by decide +kernel
  have hS : va_S (bA 23 q s.heap.size) s.heap s.heap [] := va_S.rf
  have hl := lv_entry ([.ref (q 0), .int a1, .int a2]) (n := 3) (Nat.le_of_ble_eq_true rfl)
  rw [lg_entry_eq]
  generalize (lg_sl ([.ref (q 0), .int a1, .int a2]) ++ List.replicate (3 - (lg_sl ([.ref (q 0), .int a1, .int a2])).length) Slot.unset).toArray = ls at hl ⊢
  have hl : lv_has ls 3 [(0, .ref (q 0)), (1, .int a1), (2, .int a2)] := hl
  generalize hF : F5_lose u a1 a2 = tgt at h0 ⊢
  refine lv_aload_n hx hb dX5_lose_0 rfl (lv_at hl 0 rfl) ?_
  refine lv_iload_n hx hb dX5_lose_1 rfl (lv_at hl 1 rfl) ?_
  have c_1 : (F5_needBrand u a1) = 0 := Decidable.byContradiction (fun h9 => absurd ((congrArg Prod.fst (show ((F5_needBrand u a1), (0 : Int32), u) = tgt from by rw [← hF, F5_lose, if_neg h9])).trans h0) h9)
  refine bcall_Rv (va_runV (As := [.int a1]) (rest := []) ⟨hx, hb, hml, hown, hts⟩ (C5_needBrand l D cI cO q _ _ hP a1 c_1) (cwV 1 hts gX5_lose_X5_needBrand rfl rfl rfl ⟨rfl, bd_X5needBrand⟩ ⟨Nat.le_of_ble_eq_true rfl, Nat.le_of_ble_eq_true rfl⟩) (bPV hk (va_recv hk.1 hP (ci := 5) (q0 := 0) rfl (wC_0 _ _ _ _))) rfl rfl hl.1 rfl (lv_room (Nat.le_of_ble_eq_true rfl)) dX5_lose_2 ⟨Nat.zero_le _, Nat.zero_le _⟩) hS (fun locs hS => ?_)
  refine lv_iload_n hx hb dX5_lose_5 rfl (lv_at hl 2 rfl) ?_
  refine lv_iconst (v := 1) hx hb dX5_lose_6 (by decide) ?_
  refine lv_sipush (v := 5000) hx hb dX5_lose_7 (by decide) ?_
  have c_2 : (F5_needRange a2 1 5000) = 0 := Decidable.byContradiction (fun h9 => absurd ((congrArg Prod.fst (show ((F5_needRange a2 1 5000), (0 : Int32), u) = tgt from by rw [← hF, F5_lose, if_pos c_1, if_neg h9])).trans h0) h9)
  refine bcall_Rv (va_runS (As := [.int a2, .int 1, .int 5000]) (rest := []) ⟨hx, hb, hml, hown, hts⟩ (C5_needRange l D cI cO q _ a2 1 5000 c_2) (va_cwS 3 hts gX5_lose_X5_needRange rfl rfl rfl bd_X5needRange ⟨Nat.le_of_ble_eq_true rfl, Nat.le_of_ble_eq_true rfl⟩) (bPS hk) rfl rfl hl.1 rfl (lv_room (Nat.le_of_ble_eq_true rfl)) dX5_lose_10 ⟨Nat.zero_le _, Nat.zero_le _⟩) hS (fun locs hS => ?_)
  refine lv_aload_n hx hb dX5_lose_13 rfl (lv_at hl 0 rfl) ?_
  refine va_get (D := D) (ci := 5) (C := RX5) (T := TX5) (N := 5) hx hb hts iX5 hown hk.1 hP 0 (wC_0 _ _ _ _) rfl 0 (by decide) (hts (.fieldLink RX5 20 "BottleLoop" "now" "LBottleLoop$State;") (List.mem_of_getElem? (i := 1) rfl)) (fun _ h9 => h9) rfl dX5_lose_14 ?_
  refine lv_iload_n hx hb dX5_lose_17 rfl (lv_at hl 1 rfl) ?_
  refine lv_iconst (v := 5) hx hb dX5_lose_18 (by decide) ?_
  refine bcall_Ri (va_runVN (As := [.int a1, .int 5]) (rest := []) ⟨hx, hb, hml, hown, hts⟩ (C2_ofBrand l D cI cO q _ _ hP a1 5) ⟨va_cnB 2 hts gX5_lose_X2_ofBrand_n103 rfl rfl rfl (hk.2 (.methodLinkNest RX5 103 yX2_ofBrand RX5) (List.mem_of_getElem? (i := 17) rfl)) (hts (.initialized RX2) (List.mem_of_getElem? (i := 16) rfl)) bd_X2ofBrand ⟨Nat.le_of_ble_eq_true rfl, Nat.le_of_ble_eq_true rfl⟩, (hts (.instanceMethod yX2_ofBrand) (List.mem_of_getElem? (i := 32) rfl)), (hts (.selects RX2 yX2_ofBrand yX2_ofBrand) (List.mem_of_getElem? (i := 33) rfl))⟩ (bPV hk (va_recv hk.1 hP (ci := 2) (q0 := 3) rfl (wC_3 _ _ _ _))) rfl rfl hl.1 rfl (lv_room (Nat.le_of_ble_eq_true rfl)) dX5_lose_19 ⟨Nat.zero_le _, Nat.zero_le _⟩) hS (fun locs hS => ?_)
  refine lv_iload_n hx hb dX5_lose_22 rfl (lv_at hl 2 rfl) ?_
  refine lv_icmp_lt (tgt := 30) hx hb dX5_lose_23 (by decide) (fun c_3 => ?_) (fun c_3 => ?_)
  · refine lv_iconst (v := 0) hx hb dX5_lose_30 (by decide) ?_
    have c_4 : (F5_needState 0) = 0 := Decidable.byContradiction (fun h9 => absurd ((congrArg Prod.fst (show ((F5_needState 0), (0 : Int32), u) = tgt from by rw [← hF, F5_lose, if_pos c_1, if_pos c_2, if_pos c_3, if_neg h9])).trans h0) h9)
    exact absurd c_4 (by decide)
  · refine lv_iconst (v := 1) hx hb dX5_lose_26 (by decide) ?_
    refine lv_goto (tgt := 31) hx hb dX5_lose_27 (by decide) ?_
    refine bcall_Rv (va_runS (As := [.int 1]) (rest := []) ⟨hx, hb, hml, hown, hts⟩ (C5_needState l D cI cO q _ 1 (by decide)) (va_cwS 1 hts gX5_lose_X5_needState rfl rfl rfl bd_X5needState ⟨Nat.le_of_ble_eq_true rfl, Nat.le_of_ble_eq_true rfl⟩) (bPS hk) rfl rfl hl.1 rfl (lv_room (Nat.le_of_ble_eq_true rfl)) dX5_lose_31 ⟨Nat.zero_le _, Nat.zero_le _⟩) hS (fun locs hS => ?_)
    refine lv_aload_n hx hb dX5_lose_34 rfl (lv_at hl 0 rfl) ?_
    refine va_get (D := D) (ci := 5) (C := RX5) (T := TX5) (N := 5) hx hb hts iX5 hown hk.1 hP 0 (wC_0 _ _ _ _) rfl 1 (by decide) (hts (.fieldLink RX5 26 "BottleLoop" "past" "LBottleLoop$Past;") (List.mem_of_getElem? (i := 2) rfl)) (fun _ h9 => h9) rfl dX5_lose_35 ?_
    refine lv_aload_n hx hb dX5_lose_38 rfl (lv_at hl 0 rfl) ?_
    refine va_get (D := D) (ci := 5) (C := RX5) (T := TX5) (N := 5) hx hb hts iX5 hown hk.1 hP 0 (wC_0 _ _ _ _) rfl 0 (by decide) (hts (.fieldLink RX5 20 "BottleLoop" "now" "LBottleLoop$State;") (List.mem_of_getElem? (i := 1) rfl)) (fun _ h9 => h9) rfl dX5_lose_39 ?_
    refine bcall_Wv (va_runVN (As := [.ref (q 3)]) (rest := []) ⟨hx, hb, hml, hown, hts⟩ (C1_keep l D cI cO q _ _ hq hP  hlat) ⟨va_cnB 1 hts gX5_lose_X1_keep_n62 rfl rfl rfl (hk.2 (.methodLinkNest RX5 62 yX1_keep RX5) (List.mem_of_getElem? (i := 9) rfl)) (hts (.initialized RX1) (List.mem_of_getElem? (i := 41) rfl)) bd_X1keep ⟨Nat.le_of_ble_eq_true rfl, Nat.le_of_ble_eq_true rfl⟩, (hts (.instanceMethod yX1_keep) (List.mem_of_getElem? (i := 40) rfl)), (hts (.selects RX1 yX1_keep yX1_keep) (List.mem_of_getElem? (i := 42) rfl))⟩ (bPV hk (va_recv hk.1 hP (ci := 1) (q0 := 5) rfl (wC_5 _ _ _ _))) rfl rfl hl.1 rfl (lv_room (Nat.le_of_ble_eq_true rfl)) dX5_lose_42 ⟨Nat.zero_le _, Nat.zero_le _⟩) hS (fun H locs hP _ hS => ?_)
    refine lv_aload_n hx hb dX5_lose_45 rfl (lv_at hl 0 rfl) ?_
    refine va_get (D := D) (ci := 5) (C := RX5) (T := TX5) (N := 5) hx hb hts iX5 hown hk.1 hP 0 (wC_0 _ _ _ _) rfl 2 (by decide) (hts (.fieldLink RX5 12 "BottleLoop" "trade" "LBottleLoop$Trade;") (List.mem_of_getElem? (i := 3) rfl)) (fun _ h9 => h9) rfl dX5_lose_46 ?_
    refine lv_iload_n hx hb dX5_lose_49 rfl (lv_at hl 1 rfl) ?_
    refine lv_iload_n hx hb dX5_lose_50 rfl (lv_at hl 2 rfl) ?_
    refine bcall_Wi (va_runVN (As := [.int a1, .int a2]) (rest := []) ⟨hx, hb, hml, hown, hts⟩ (C4_loseBottles l D cI cO q _ _ hq hP a1 a2) ⟨va_cnB 2 hts gX5_lose_X4_loseBottles_n138 rfl rfl rfl (hk.2 (.methodLinkNest RX5 138 yX4_loseBottles RX5) (List.mem_of_getElem? (i := 46) rfl)) (hts (.initialized RX4) (List.mem_of_getElem? (i := 59) rfl)) bd_X4loseBottles ⟨Nat.le_of_ble_eq_true rfl, Nat.le_of_ble_eq_true rfl⟩, (hts (.instanceMethod yX4_loseBottles) (List.mem_of_getElem? (i := 58) rfl)), (hts (.selects RX4 yX4_loseBottles yX4_loseBottles) (List.mem_of_getElem? (i := 60) rfl))⟩ (bPV hk (va_recv hk.1 hP (ci := 4) (q0 := 1) rfl (wC_1 _ _ _ _))) rfl rfl hl.1 rfl (lv_room (Nat.le_of_ble_eq_true rfl)) dX5_lose_51 ⟨Nat.zero_le _, Nat.zero_le _⟩) hS (fun H locs hP _ hS => ?_)
    exact bret_Yi hx hb hr hP hS hlocks dX5_lose_54 (by rw [← hF, F5_lose, if_pos c_1, if_pos c_2, if_neg c_3])
def F5_collect (u : bU) (a1 : Int32) (a2 : Int32) (a3 : Int32) : Int32 × Int32 × bU := (if (F5_needShop u a1) = 0 then (if (F5_needKind a2) = 0 then (if (F5_needRange a3 1 50) = 0 then (if (F4_collectReason u a1 a2 a3) = 0 then (0, (F4_collectCrates (F1_keep u) a1 a2 a3).1, (F4_collectCrates (F1_keep u) a1 a2 a3).2) else (if (F5_needState 0) = 0 then (0, 0, u) else ((F5_needState 0), 0, u))) else ((F5_needRange a3 1 50), 0, u)) else ((F5_needKind a2), 0, u)) else ((F5_needShop u a1), 0, u))
set_option maxHeartbeats 4000000 in
set_option maxRecDepth 100000 in
theorem C5_collect (l : Launch) (D : va_G) (cI cO : ClassId) (q : Nat → Nat) (u : bU) (H0 : Heap) (hq : bInj 23 q) (hP : va_P D vwCl (wC cI cO q u) H0) (a1 : Int32) (a2 : Int32) (a3 : Int32) (hlat : bLat u) (h0 : (F5_collect u a1 a2 a3).1 = 0) : Met l yX5_collect wsX5_collect ({ frames := 4, cells := 0, slots := 0, locals := 243 }) (bP D [(cI, .int), (cO, .object RX2)] H0 [.ref (q 0), .int a1, .int a2, .int a3]) (bWi D (wC cI cO q) bT (bA 23 q H0.size) ((F5_collect u a1 a2 a3).2.1, (F5_collect u a1 a2 a3).2.2)) 0 0 (bA 23 q H0.size) := by
  refine Met.ofW (cc := cX5_collect) (maxL := 4) (ret := (some .int)) (by decide) rfl ?_
  intro p e s m args below meth c s₁ B hml hv
  obtain ⟨rfl, hH, hk⟩ := hv
  subst hH
  have hx := B.exec
  have hb := B.bytes
  have hr := B.returns
  have hts := atoms_spec (ws := wsX5_collect) B.pre
  have hown : s.vm.findClass RX5 = some m.cls := findClass_of_methodNamed B.named
  have hlocks := B.notSynchronized
  have iX5 : ∀ w ∈ wsX50, w ∈ wsX5_collect := by decide +kernel
  have hS : va_S (bA 23 q s.heap.size) s.heap s.heap [] := va_S.rf
  have hl := lv_entry ([.ref (q 0), .int a1, .int a2, .int a3]) (n := 4) (Nat.le_of_ble_eq_true rfl)
  rw [lg_entry_eq]
  generalize (lg_sl ([.ref (q 0), .int a1, .int a2, .int a3]) ++ List.replicate (4 - (lg_sl ([.ref (q 0), .int a1, .int a2, .int a3])).length) Slot.unset).toArray = ls at hl ⊢
  have hl : lv_has ls 4 [(0, .ref (q 0)), (1, .int a1), (2, .int a2), (3, .int a3)] := hl
  generalize hF : F5_collect u a1 a2 a3 = tgt at h0 ⊢
  refine lv_aload_n hx hb dX5_collect_0 rfl (lv_at hl 0 rfl) ?_
  refine lv_iload_n hx hb dX5_collect_1 rfl (lv_at hl 1 rfl) ?_
  have c_1 : (F5_needShop u a1) = 0 := Decidable.byContradiction (fun h9 => absurd ((congrArg Prod.fst (show ((F5_needShop u a1), (0 : Int32), u) = tgt from by rw [← hF, F5_collect, if_neg h9])).trans h0) h9)
  refine bcall_Rv (va_runV (As := [.int a1]) (rest := []) ⟨hx, hb, hml, hown, hts⟩ (C5_needShop l D cI cO q _ _ hP a1 c_1) (cwV 1 hts gX5_collect_X5_needShop rfl rfl rfl ⟨rfl, bd_X5needShop⟩ ⟨Nat.le_of_ble_eq_true rfl, Nat.le_of_ble_eq_true rfl⟩) (bPV hk (va_recv hk.1 hP (ci := 5) (q0 := 0) rfl (wC_0 _ _ _ _))) rfl rfl hl.1 rfl (lv_room (Nat.le_of_ble_eq_true rfl)) dX5_collect_2 ⟨Nat.zero_le _, Nat.zero_le _⟩) hS (fun locs hS => ?_)
  refine lv_iload_n hx hb dX5_collect_5 rfl (lv_at hl 2 rfl) ?_
  have c_2 : (F5_needKind a2) = 0 := Decidable.byContradiction (fun h9 => absurd ((congrArg Prod.fst (show ((F5_needKind a2), (0 : Int32), u) = tgt from by rw [← hF, F5_collect, if_pos c_1, if_neg h9])).trans h0) h9)
  refine bcall_Rv (va_runS (As := [.int a2]) (rest := []) ⟨hx, hb, hml, hown, hts⟩ (C5_needKind l D cI cO q _ a2 c_2) (va_cwS 1 hts gX5_collect_X5_needKind rfl rfl rfl bd_X5needKind ⟨Nat.le_of_ble_eq_true rfl, Nat.le_of_ble_eq_true rfl⟩) (bPS hk) rfl rfl hl.1 rfl (lv_room (Nat.le_of_ble_eq_true rfl)) dX5_collect_6 ⟨Nat.zero_le _, Nat.zero_le _⟩) hS (fun locs hS => ?_)
  refine lv_iload_n hx hb dX5_collect_9 rfl (lv_at hl 3 rfl) ?_
  refine lv_iconst (v := 1) hx hb dX5_collect_10 (by decide) ?_
  refine lv_bipush (v := 50) hx hb dX5_collect_11 (by decide) ?_
  have c_3 : (F5_needRange a3 1 50) = 0 := Decidable.byContradiction (fun h9 => absurd ((congrArg Prod.fst (show ((F5_needRange a3 1 50), (0 : Int32), u) = tgt from by rw [← hF, F5_collect, if_pos c_1, if_pos c_2, if_neg h9])).trans h0) h9)
  refine bcall_Rv (va_runS (As := [.int a3, .int 1, .int 50]) (rest := []) ⟨hx, hb, hml, hown, hts⟩ (C5_needRange l D cI cO q _ a3 1 50 c_3) (va_cwS 3 hts gX5_collect_X5_needRange rfl rfl rfl bd_X5needRange ⟨Nat.le_of_ble_eq_true rfl, Nat.le_of_ble_eq_true rfl⟩) (bPS hk) rfl rfl hl.1 rfl (lv_room (Nat.le_of_ble_eq_true rfl)) dX5_collect_13 ⟨Nat.zero_le _, Nat.zero_le _⟩) hS (fun locs hS => ?_)
  refine lv_aload_n hx hb dX5_collect_16 rfl (lv_at hl 0 rfl) ?_
  refine va_get (D := D) (ci := 5) (C := RX5) (T := TX5) (N := 5) hx hb hts iX5 hown hk.1 hP 0 (wC_0 _ _ _ _) rfl 2 (by decide) (hts (.fieldLink RX5 12 "BottleLoop" "trade" "LBottleLoop$Trade;") (List.mem_of_getElem? (i := 1) rfl)) (fun _ h9 => h9) rfl dX5_collect_17 ?_
  refine lv_iload_n hx hb dX5_collect_20 rfl (lv_at hl 1 rfl) ?_
  refine lv_iload_n hx hb dX5_collect_21 rfl (lv_at hl 2 rfl) ?_
  refine lv_iload_n hx hb dX5_collect_22 rfl (lv_at hl 3 rfl) ?_
  refine bcall_Ri (va_runVN (As := [.int a1, .int a2, .int a3]) (rest := []) ⟨hx, hb, hml, hown, hts⟩ (C4_collectReason l D cI cO q _ _ hP a1 a2 a3) ⟨va_cnB 3 hts gX5_collect_X4_collectReason_n141 rfl rfl rfl (hk.2 (.methodLinkNest RX5 141 yX4_collectReason RX5) (List.mem_of_getElem? (i := 42) rfl)) (hts (.initialized RX4) (List.mem_of_getElem? (i := 36) rfl)) bd_X4collectReason ⟨Nat.le_of_ble_eq_true rfl, Nat.le_of_ble_eq_true rfl⟩, (hts (.instanceMethod yX4_collectReason) (List.mem_of_getElem? (i := 35) rfl)), (hts (.selects RX4 yX4_collectReason yX4_collectReason) (List.mem_of_getElem? (i := 37) rfl))⟩ (bPV hk (va_recv hk.1 hP (ci := 4) (q0 := 1) rfl (wC_1 _ _ _ _))) rfl rfl hl.1 rfl (lv_room (Nat.le_of_ble_eq_true rfl)) dX5_collect_23 ⟨Nat.zero_le _, Nat.zero_le _⟩) hS (fun locs hS => ?_)
  refine lv_if_ne (tgt := 33) hx hb dX5_collect_26 (by decide) (fun c_4 => ?_) (fun c_4 => ?_)
  · refine lv_iconst (v := 0) hx hb dX5_collect_33 (by decide) ?_
    have c_5 : (F5_needState 0) = 0 := Decidable.byContradiction (fun h9 => absurd ((congrArg Prod.fst (show ((F5_needState 0), (0 : Int32), u) = tgt from by rw [← hF, F5_collect, if_pos c_1, if_pos c_2, if_pos c_3, if_neg c_4, if_neg h9])).trans h0) h9)
    exact absurd c_5 (by decide)
  · refine lv_iconst (v := 1) hx hb dX5_collect_29 (by decide) ?_
    refine lv_goto (tgt := 34) hx hb dX5_collect_30 (by decide) ?_
    refine bcall_Rv (va_runS (As := [.int 1]) (rest := []) ⟨hx, hb, hml, hown, hts⟩ (C5_needState l D cI cO q _ 1 (by decide)) (va_cwS 1 hts gX5_collect_X5_needState rfl rfl rfl bd_X5needState ⟨Nat.le_of_ble_eq_true rfl, Nat.le_of_ble_eq_true rfl⟩) (bPS hk) rfl rfl hl.1 rfl (lv_room (Nat.le_of_ble_eq_true rfl)) dX5_collect_34 ⟨Nat.zero_le _, Nat.zero_le _⟩) hS (fun locs hS => ?_)
    refine lv_aload_n hx hb dX5_collect_37 rfl (lv_at hl 0 rfl) ?_
    refine va_get (D := D) (ci := 5) (C := RX5) (T := TX5) (N := 5) hx hb hts iX5 hown hk.1 hP 0 (wC_0 _ _ _ _) rfl 1 (by decide) (hts (.fieldLink RX5 26 "BottleLoop" "past" "LBottleLoop$Past;") (List.mem_of_getElem? (i := 2) rfl)) (fun _ h9 => h9) rfl dX5_collect_38 ?_
    refine lv_aload_n hx hb dX5_collect_41 rfl (lv_at hl 0 rfl) ?_
    refine va_get (D := D) (ci := 5) (C := RX5) (T := TX5) (N := 5) hx hb hts iX5 hown hk.1 hP 0 (wC_0 _ _ _ _) rfl 0 (by decide) (hts (.fieldLink RX5 20 "BottleLoop" "now" "LBottleLoop$State;") (List.mem_of_getElem? (i := 3) rfl)) (fun _ h9 => h9) rfl dX5_collect_42 ?_
    refine bcall_Wv (va_runVN (As := [.ref (q 3)]) (rest := []) ⟨hx, hb, hml, hown, hts⟩ (C1_keep l D cI cO q _ _ hq hP  hlat) ⟨va_cnB 1 hts gX5_collect_X1_keep_n62 rfl rfl rfl (hk.2 (.methodLinkNest RX5 62 yX1_keep RX5) (List.mem_of_getElem? (i := 9) rfl)) (hts (.initialized RX1) (List.mem_of_getElem? (i := 56) rfl)) bd_X1keep ⟨Nat.le_of_ble_eq_true rfl, Nat.le_of_ble_eq_true rfl⟩, (hts (.instanceMethod yX1_keep) (List.mem_of_getElem? (i := 55) rfl)), (hts (.selects RX1 yX1_keep yX1_keep) (List.mem_of_getElem? (i := 57) rfl))⟩ (bPV hk (va_recv hk.1 hP (ci := 1) (q0 := 5) rfl (wC_5 _ _ _ _))) rfl rfl hl.1 rfl (lv_room (Nat.le_of_ble_eq_true rfl)) dX5_collect_45 ⟨Nat.zero_le _, Nat.zero_le _⟩) hS (fun H locs hP _ hS => ?_)
    refine lv_aload_n hx hb dX5_collect_48 rfl (lv_at hl 0 rfl) ?_
    refine va_get (D := D) (ci := 5) (C := RX5) (T := TX5) (N := 5) hx hb hts iX5 hown hk.1 hP 0 (wC_0 _ _ _ _) rfl 2 (by decide) (hts (.fieldLink RX5 12 "BottleLoop" "trade" "LBottleLoop$Trade;") (List.mem_of_getElem? (i := 1) rfl)) (fun _ h9 => h9) rfl dX5_collect_49 ?_
    refine lv_iload_n hx hb dX5_collect_52 rfl (lv_at hl 1 rfl) ?_
    refine lv_iload_n hx hb dX5_collect_53 rfl (lv_at hl 2 rfl) ?_
    refine lv_iload_n hx hb dX5_collect_54 rfl (lv_at hl 3 rfl) ?_
    refine bcall_Wi (va_runVN (As := [.int a1, .int a2, .int a3]) (rest := []) ⟨hx, hb, hml, hown, hts⟩ (C4_collectCrates l D cI cO q _ _ hq hP a1 a2 a3) ⟨va_cnB 3 hts gX5_collect_X4_collectCrates_n144 rfl rfl rfl (hk.2 (.methodLinkNest RX5 144 yX4_collectCrates RX5) (List.mem_of_getElem? (i := 43) rfl)) (hts (.initialized RX4) (List.mem_of_getElem? (i := 36) rfl)) bd_X4collectCrates ⟨Nat.le_of_ble_eq_true rfl, Nat.le_of_ble_eq_true rfl⟩, (hts (.instanceMethod yX4_collectCrates) (List.mem_of_getElem? (i := 73) rfl)), (hts (.selects RX4 yX4_collectCrates yX4_collectCrates) (List.mem_of_getElem? (i := 74) rfl))⟩ (bPV hk (va_recv hk.1 hP (ci := 4) (q0 := 1) rfl (wC_1 _ _ _ _))) rfl rfl hl.1 rfl (lv_room (Nat.le_of_ble_eq_true rfl)) dX5_collect_55 ⟨Nat.zero_le _, Nat.zero_le _⟩) hS (fun H locs hP _ hS => ?_)
    exact bret_Yi hx hb hr hP hS hlocks dX5_collect_58 (by rw [← hF, F5_collect, if_pos c_1, if_pos c_2, if_pos c_3, if_pos c_4])
def F5_sort (u : bU) (a1 : Int32) (a2 : Int32) : Int32 × Int32 × bU := (if (F5_needKind a1) = 0 then (if (F5_needRange a2 1 5000) = 0 then (if (F4_yardOf u a1) < a2 then (if (F5_needState 0) = 0 then (0, 0, u) else ((F5_needState 0), 0, u)) else (0, (F4_sortBottles (F1_keep u) a1 a2).1, (F4_sortBottles (F1_keep u) a1 a2).2)) else ((F5_needRange a2 1 5000), 0, u)) else ((F5_needKind a1), 0, u))
set_option maxHeartbeats 4000000 in
set_option maxRecDepth 100000 in
theorem C5_sort (l : Launch) (D : va_G) (cI cO : ClassId) (q : Nat → Nat) (u : bU) (H0 : Heap) (hq : bInj 23 q) (hP : va_P D vwCl (wC cI cO q u) H0) (a1 : Int32) (a2 : Int32) (hlat : bLat u) (h0 : (F5_sort u a1 a2).1 = 0) : Met l yX5_sort wsX5_sort ({ frames := 4, cells := 0, slots := 0, locals := 243 }) (bP D [(cI, .int), (cO, .object RX2)] H0 [.ref (q 0), .int a1, .int a2]) (bWi D (wC cI cO q) bT (bA 23 q H0.size) ((F5_sort u a1 a2).2.1, (F5_sort u a1 a2).2.2)) 0 0 (bA 23 q H0.size) := by
  refine Met.ofW (cc := cX5_sort) (maxL := 3) (ret := (some .int)) (by decide) rfl ?_
  intro p e s m args below meth c s₁ B hml hv
  obtain ⟨rfl, hH, hk⟩ := hv
  subst hH
  have hx := B.exec
  have hb := B.bytes
  have hr := B.returns
  have hts := atoms_spec (ws := wsX5_sort) B.pre
  have hown : s.vm.findClass RX5 = some m.cls := findClass_of_methodNamed B.named
  have hlocks := B.notSynchronized
  have iX5 : ∀ w ∈ wsX50, w ∈ wsX5_sort := by decide +kernel
  have hS : va_S (bA 23 q s.heap.size) s.heap s.heap [] := va_S.rf
  have hl := lv_entry ([.ref (q 0), .int a1, .int a2]) (n := 3) (Nat.le_of_ble_eq_true rfl)
  rw [lg_entry_eq]
  generalize (lg_sl ([.ref (q 0), .int a1, .int a2]) ++ List.replicate (3 - (lg_sl ([.ref (q 0), .int a1, .int a2])).length) Slot.unset).toArray = ls at hl ⊢
  have hl : lv_has ls 3 [(0, .ref (q 0)), (1, .int a1), (2, .int a2)] := hl
  generalize hF : F5_sort u a1 a2 = tgt at h0 ⊢
  refine lv_iload_n hx hb dX5_sort_0 rfl (lv_at hl 1 rfl) ?_
  have c_1 : (F5_needKind a1) = 0 := Decidable.byContradiction (fun h9 => absurd ((congrArg Prod.fst (show ((F5_needKind a1), (0 : Int32), u) = tgt from by rw [← hF, F5_sort, if_neg h9])).trans h0) h9)
  refine bcall_Rv (va_runS (As := [.int a1]) (rest := []) ⟨hx, hb, hml, hown, hts⟩ (C5_needKind l D cI cO q _ a1 c_1) (va_cwS 1 hts gX5_sort_X5_needKind rfl rfl rfl bd_X5needKind ⟨Nat.le_of_ble_eq_true rfl, Nat.le_of_ble_eq_true rfl⟩) (bPS hk) rfl rfl hl.1 rfl (lv_room (Nat.le_of_ble_eq_true rfl)) dX5_sort_1 ⟨Nat.zero_le _, Nat.zero_le _⟩) hS (fun locs hS => ?_)
  refine lv_iload_n hx hb dX5_sort_4 rfl (lv_at hl 2 rfl) ?_
  refine lv_iconst (v := 1) hx hb dX5_sort_5 (by decide) ?_
  refine lv_sipush (v := 5000) hx hb dX5_sort_6 (by decide) ?_
  have c_2 : (F5_needRange a2 1 5000) = 0 := Decidable.byContradiction (fun h9 => absurd ((congrArg Prod.fst (show ((F5_needRange a2 1 5000), (0 : Int32), u) = tgt from by rw [← hF, F5_sort, if_pos c_1, if_neg h9])).trans h0) h9)
  refine bcall_Rv (va_runS (As := [.int a2, .int 1, .int 5000]) (rest := []) ⟨hx, hb, hml, hown, hts⟩ (C5_needRange l D cI cO q _ a2 1 5000 c_2) (va_cwS 3 hts gX5_sort_X5_needRange rfl rfl rfl bd_X5needRange ⟨Nat.le_of_ble_eq_true rfl, Nat.le_of_ble_eq_true rfl⟩) (bPS hk) rfl rfl hl.1 rfl (lv_room (Nat.le_of_ble_eq_true rfl)) dX5_sort_9 ⟨Nat.zero_le _, Nat.zero_le _⟩) hS (fun locs hS => ?_)
  refine lv_aload_n hx hb dX5_sort_12 rfl (lv_at hl 0 rfl) ?_
  refine va_get (D := D) (ci := 5) (C := RX5) (T := TX5) (N := 5) hx hb hts iX5 hown hk.1 hP 0 (wC_0 _ _ _ _) rfl 2 (by decide) (hts (.fieldLink RX5 12 "BottleLoop" "trade" "LBottleLoop$Trade;") (List.mem_of_getElem? (i := 1) rfl)) (fun _ h9 => h9) rfl dX5_sort_13 ?_
  refine lv_iload_n hx hb dX5_sort_16 rfl (lv_at hl 1 rfl) ?_
  refine bcall_Ri (va_runVN (As := [.int a1]) (rest := []) ⟨hx, hb, hml, hown, hts⟩ (C4_yardOf l D cI cO q _ _ hP a1) ⟨va_cnB 1 hts gX5_sort_X4_yardOf_n147 rfl rfl rfl (hk.2 (.methodLinkNest RX5 147 yX4_yardOf RX5) (List.mem_of_getElem? (i := 47) rfl)) (hts (.initialized RX4) (List.mem_of_getElem? (i := 17) rfl)) bd_X4yardOf ⟨Nat.le_of_ble_eq_true rfl, Nat.le_of_ble_eq_true rfl⟩, (hts (.instanceMethod yX4_yardOf) (List.mem_of_getElem? (i := 16) rfl)), (hts (.selects RX4 yX4_yardOf yX4_yardOf) (List.mem_of_getElem? (i := 18) rfl))⟩ (bPV hk (va_recv hk.1 hP (ci := 4) (q0 := 1) rfl (wC_1 _ _ _ _))) rfl rfl hl.1 rfl (lv_room (Nat.le_of_ble_eq_true rfl)) dX5_sort_17 ⟨Nat.zero_le _, Nat.zero_le _⟩) hS (fun locs hS => ?_)
  refine lv_iload_n hx hb dX5_sort_20 rfl (lv_at hl 2 rfl) ?_
  refine lv_icmp_lt (tgt := 28) hx hb dX5_sort_21 (by decide) (fun c_3 => ?_) (fun c_3 => ?_)
  · refine lv_iconst (v := 0) hx hb dX5_sort_28 (by decide) ?_
    have c_4 : (F5_needState 0) = 0 := Decidable.byContradiction (fun h9 => absurd ((congrArg Prod.fst (show ((F5_needState 0), (0 : Int32), u) = tgt from by rw [← hF, F5_sort, if_pos c_1, if_pos c_2, if_pos c_3, if_neg h9])).trans h0) h9)
    exact absurd c_4 (by decide)
  · refine lv_iconst (v := 1) hx hb dX5_sort_24 (by decide) ?_
    refine lv_goto (tgt := 29) hx hb dX5_sort_25 (by decide) ?_
    refine bcall_Rv (va_runS (As := [.int 1]) (rest := []) ⟨hx, hb, hml, hown, hts⟩ (C5_needState l D cI cO q _ 1 (by decide)) (va_cwS 1 hts gX5_sort_X5_needState rfl rfl rfl bd_X5needState ⟨Nat.le_of_ble_eq_true rfl, Nat.le_of_ble_eq_true rfl⟩) (bPS hk) rfl rfl hl.1 rfl (lv_room (Nat.le_of_ble_eq_true rfl)) dX5_sort_29 ⟨Nat.zero_le _, Nat.zero_le _⟩) hS (fun locs hS => ?_)
    refine lv_aload_n hx hb dX5_sort_32 rfl (lv_at hl 0 rfl) ?_
    refine va_get (D := D) (ci := 5) (C := RX5) (T := TX5) (N := 5) hx hb hts iX5 hown hk.1 hP 0 (wC_0 _ _ _ _) rfl 1 (by decide) (hts (.fieldLink RX5 26 "BottleLoop" "past" "LBottleLoop$Past;") (List.mem_of_getElem? (i := 2) rfl)) (fun _ h9 => h9) rfl dX5_sort_33 ?_
    refine lv_aload_n hx hb dX5_sort_36 rfl (lv_at hl 0 rfl) ?_
    refine va_get (D := D) (ci := 5) (C := RX5) (T := TX5) (N := 5) hx hb hts iX5 hown hk.1 hP 0 (wC_0 _ _ _ _) rfl 0 (by decide) (hts (.fieldLink RX5 20 "BottleLoop" "now" "LBottleLoop$State;") (List.mem_of_getElem? (i := 3) rfl)) (fun _ h9 => h9) rfl dX5_sort_37 ?_
    refine bcall_Wv (va_runVN (As := [.ref (q 3)]) (rest := []) ⟨hx, hb, hml, hown, hts⟩ (C1_keep l D cI cO q _ _ hq hP  hlat) ⟨va_cnB 1 hts gX5_sort_X1_keep_n62 rfl rfl rfl (hk.2 (.methodLinkNest RX5 62 yX1_keep RX5) (List.mem_of_getElem? (i := 9) rfl)) (hts (.initialized RX1) (List.mem_of_getElem? (i := 36) rfl)) bd_X1keep ⟨Nat.le_of_ble_eq_true rfl, Nat.le_of_ble_eq_true rfl⟩, (hts (.instanceMethod yX1_keep) (List.mem_of_getElem? (i := 35) rfl)), (hts (.selects RX1 yX1_keep yX1_keep) (List.mem_of_getElem? (i := 37) rfl))⟩ (bPV hk (va_recv hk.1 hP (ci := 1) (q0 := 5) rfl (wC_5 _ _ _ _))) rfl rfl hl.1 rfl (lv_room (Nat.le_of_ble_eq_true rfl)) dX5_sort_40 ⟨Nat.zero_le _, Nat.zero_le _⟩) hS (fun H locs hP _ hS => ?_)
    refine lv_aload_n hx hb dX5_sort_43 rfl (lv_at hl 0 rfl) ?_
    refine va_get (D := D) (ci := 5) (C := RX5) (T := TX5) (N := 5) hx hb hts iX5 hown hk.1 hP 0 (wC_0 _ _ _ _) rfl 2 (by decide) (hts (.fieldLink RX5 12 "BottleLoop" "trade" "LBottleLoop$Trade;") (List.mem_of_getElem? (i := 1) rfl)) (fun _ h9 => h9) rfl dX5_sort_44 ?_
    refine lv_iload_n hx hb dX5_sort_47 rfl (lv_at hl 1 rfl) ?_
    refine lv_iload_n hx hb dX5_sort_48 rfl (lv_at hl 2 rfl) ?_
    refine bcall_Wi (va_runVN (As := [.int a1, .int a2]) (rest := []) ⟨hx, hb, hml, hown, hts⟩ (C4_sortBottles l D cI cO q _ _ hq hP a1 a2) ⟨va_cnB 2 hts gX5_sort_X4_sortBottles_n150 rfl rfl rfl (hk.2 (.methodLinkNest RX5 150 yX4_sortBottles RX5) (List.mem_of_getElem? (i := 48) rfl)) (hts (.initialized RX4) (List.mem_of_getElem? (i := 17) rfl)) bd_X4sortBottles ⟨Nat.le_of_ble_eq_true rfl, Nat.le_of_ble_eq_true rfl⟩, (hts (.instanceMethod yX4_sortBottles) (List.mem_of_getElem? (i := 53) rfl)), (hts (.selects RX4 yX4_sortBottles yX4_sortBottles) (List.mem_of_getElem? (i := 54) rfl))⟩ (bPV hk (va_recv hk.1 hP (ci := 4) (q0 := 1) rfl (wC_1 _ _ _ _))) rfl rfl hl.1 rfl (lv_room (Nat.le_of_ble_eq_true rfl)) dX5_sort_49 ⟨Nat.zero_le _, Nat.zero_le _⟩) hS (fun H locs hP _ hS => ?_)
    exact bret_Yi hx hb hr hP hS hlocks dX5_sort_52 (by rw [← hF, F5_sort, if_pos c_1, if_pos c_2, if_neg c_3])
def F5_swap (u : bU) (a1 : Int32) (a2 : Int32) (a3 : Int32) : Int32 × Int32 × bU := (if (F5_needBrand u a1) = 0 then (if (F5_needBrand u a2) = 0 then (if a1 = a2 then (if (F5_needArgument 0) = 0 then (0, 0, u) else ((F5_needArgument 0), 0, u)) else (if (F2_ofBrand u a1 0) = (F2_ofBrand u a2 0) then (if (F5_needRange a3 1 5000) = 0 then (if (F2_ofBrand u a1 1) < a3 then (if (F5_needState 0) = 0 then (0, 0, u) else ((F5_needState 0), 0, u)) else (0, (F4_swapBottles (F1_keep u) a1 a2 a3).1, (F4_swapBottles (F1_keep u) a1 a2 a3).2)) else ((F5_needRange a3 1 5000), 0, u)) else (if (F5_needArgument 0) = 0 then (0, 0, u) else ((F5_needArgument 0), 0, u)))) else ((F5_needBrand u a2), 0, u)) else ((F5_needBrand u a1), 0, u))
set_option maxHeartbeats 4000000 in
set_option maxRecDepth 100000 in
theorem C5_swap (l : Launch) (D : va_G) (cI cO : ClassId) (q : Nat → Nat) (u : bU) (H0 : Heap) (hq : bInj 23 q) (hP : va_P D vwCl (wC cI cO q u) H0) (a1 : Int32) (a2 : Int32) (a3 : Int32) (hlat : bLat u) (h0 : (F5_swap u a1 a2 a3).1 = 0) : Met l yX5_swap wsX5_swap ({ frames := 4, cells := 0, slots := 0, locals := 243 }) (bP D [(cI, .int), (cO, .object RX2)] H0 [.ref (q 0), .int a1, .int a2, .int a3]) (bWi D (wC cI cO q) bT (bA 23 q H0.size) ((F5_swap u a1 a2 a3).2.1, (F5_swap u a1 a2 a3).2.2)) 0 0 (bA 23 q H0.size) := by
  refine Met.ofW (cc := cX5_swap) (maxL := 4) (ret := (some .int)) (by decide) rfl ?_
  intro p e s m args below meth c s₁ B hml hv
  obtain ⟨rfl, hH, hk⟩ := hv
  subst hH
  have hx := B.exec
  have hb := B.bytes
  have hr := B.returns
  have hts := atoms_spec (ws := wsX5_swap) B.pre
  have hown : s.vm.findClass RX5 = some m.cls := findClass_of_methodNamed B.named
  have hlocks := B.notSynchronized
  have iX5 : ∀ w ∈ wsX50, w ∈ wsX5_swap := by decide +kernel
  have hS : va_S (bA 23 q s.heap.size) s.heap s.heap [] := va_S.rf
  have hl := lv_entry ([.ref (q 0), .int a1, .int a2, .int a3]) (n := 4) (Nat.le_of_ble_eq_true rfl)
  rw [lg_entry_eq]
  generalize (lg_sl ([.ref (q 0), .int a1, .int a2, .int a3]) ++ List.replicate (4 - (lg_sl ([.ref (q 0), .int a1, .int a2, .int a3])).length) Slot.unset).toArray = ls at hl ⊢
  have hl : lv_has ls 4 [(0, .ref (q 0)), (1, .int a1), (2, .int a2), (3, .int a3)] := hl
  generalize hF : F5_swap u a1 a2 a3 = tgt at h0 ⊢
  refine lv_aload_n hx hb dX5_swap_0 rfl (lv_at hl 0 rfl) ?_
  refine lv_iload_n hx hb dX5_swap_1 rfl (lv_at hl 1 rfl) ?_
  have c_1 : (F5_needBrand u a1) = 0 := Decidable.byContradiction (fun h9 => absurd ((congrArg Prod.fst (show ((F5_needBrand u a1), (0 : Int32), u) = tgt from by rw [← hF, F5_swap, if_neg h9])).trans h0) h9)
  refine bcall_Rv (va_runV (As := [.int a1]) (rest := []) ⟨hx, hb, hml, hown, hts⟩ (C5_needBrand l D cI cO q _ _ hP a1 c_1) (cwV 1 hts gX5_swap_X5_needBrand rfl rfl rfl ⟨rfl, bd_X5needBrand⟩ ⟨Nat.le_of_ble_eq_true rfl, Nat.le_of_ble_eq_true rfl⟩) (bPV hk (va_recv hk.1 hP (ci := 5) (q0 := 0) rfl (wC_0 _ _ _ _))) rfl rfl hl.1 rfl (lv_room (Nat.le_of_ble_eq_true rfl)) dX5_swap_2 ⟨Nat.zero_le _, Nat.zero_le _⟩) hS (fun locs hS => ?_)
  refine lv_aload_n hx hb dX5_swap_5 rfl (lv_at hl 0 rfl) ?_
  refine lv_iload_n hx hb dX5_swap_6 rfl (lv_at hl 2 rfl) ?_
  have c_2 : (F5_needBrand u a2) = 0 := Decidable.byContradiction (fun h9 => absurd ((congrArg Prod.fst (show ((F5_needBrand u a2), (0 : Int32), u) = tgt from by rw [← hF, F5_swap, if_pos c_1, if_neg h9])).trans h0) h9)
  refine bcall_Rv (va_runV (As := [.int a2]) (rest := []) ⟨hx, hb, hml, hown, hts⟩ (C5_needBrand l D cI cO q _ _ hP a2 c_2) (cwV 1 hts gX5_swap_X5_needBrand rfl rfl rfl ⟨rfl, bd_X5needBrand⟩ ⟨Nat.le_of_ble_eq_true rfl, Nat.le_of_ble_eq_true rfl⟩) (bPV hk (va_recv hk.1 hP (ci := 5) (q0 := 0) rfl (wC_0 _ _ _ _))) rfl rfl hl.1 rfl (lv_room (Nat.le_of_ble_eq_true rfl)) dX5_swap_7 ⟨Nat.zero_le _, Nat.zero_le _⟩) hS (fun locs hS => ?_)
  refine lv_iload_n hx hb dX5_swap_10 rfl (lv_at hl 1 rfl) ?_
  refine lv_iload_n hx hb dX5_swap_11 rfl (lv_at hl 2 rfl) ?_
  refine lv_icmp_eq (tgt := 40) hx hb dX5_swap_12 (by decide) (fun c_3 => ?_) (fun c_3 => ?_)
  · refine lv_iconst (v := 0) hx hb dX5_swap_40 (by decide) ?_
    have c_4 : (F5_needArgument 0) = 0 := Decidable.byContradiction (fun h9 => absurd ((congrArg Prod.fst (show ((F5_needArgument 0), (0 : Int32), u) = tgt from by rw [← hF, F5_swap, if_pos c_1, if_pos c_2, if_pos c_3, if_neg h9])).trans h0) h9)
    exact absurd c_4 (by decide)
  · refine lv_aload_n hx hb dX5_swap_15 rfl (lv_at hl 0 rfl) ?_
    refine va_get (D := D) (ci := 5) (C := RX5) (T := TX5) (N := 5) hx hb hts iX5 hown hk.1 hP 0 (wC_0 _ _ _ _) rfl 0 (by decide) (hts (.fieldLink RX5 20 "BottleLoop" "now" "LBottleLoop$State;") (List.mem_of_getElem? (i := 1) rfl)) (fun _ h9 => h9) rfl dX5_swap_16 ?_
    refine lv_iload_n hx hb dX5_swap_19 rfl (lv_at hl 1 rfl) ?_
    refine lv_iconst (v := 0) hx hb dX5_swap_20 (by decide) ?_
    refine bcall_Ri (va_runVN (As := [.int a1, .int 0]) (rest := []) ⟨hx, hb, hml, hown, hts⟩ (C2_ofBrand l D cI cO q _ _ hP a1 0) ⟨va_cnB 2 hts gX5_swap_X2_ofBrand_n103 rfl rfl rfl (hk.2 (.methodLinkNest RX5 103 yX2_ofBrand RX5) (List.mem_of_getElem? (i := 17) rfl)) (hts (.initialized RX2) (List.mem_of_getElem? (i := 16) rfl)) bd_X2ofBrand ⟨Nat.le_of_ble_eq_true rfl, Nat.le_of_ble_eq_true rfl⟩, (hts (.instanceMethod yX2_ofBrand) (List.mem_of_getElem? (i := 24) rfl)), (hts (.selects RX2 yX2_ofBrand yX2_ofBrand) (List.mem_of_getElem? (i := 25) rfl))⟩ (bPV hk (va_recv hk.1 hP (ci := 2) (q0 := 3) rfl (wC_3 _ _ _ _))) rfl rfl hl.1 rfl (lv_room (Nat.le_of_ble_eq_true rfl)) dX5_swap_21 ⟨Nat.zero_le _, Nat.zero_le _⟩) hS (fun locs hS => ?_)
    refine lv_aload_n hx hb dX5_swap_24 rfl (lv_at hl 0 rfl) ?_
    refine va_get (D := D) (ci := 5) (C := RX5) (T := TX5) (N := 5) hx hb hts iX5 hown hk.1 hP 0 (wC_0 _ _ _ _) rfl 0 (by decide) (hts (.fieldLink RX5 20 "BottleLoop" "now" "LBottleLoop$State;") (List.mem_of_getElem? (i := 1) rfl)) (fun _ h9 => h9) rfl dX5_swap_25 ?_
    refine lv_iload_n hx hb dX5_swap_28 rfl (lv_at hl 2 rfl) ?_
    refine lv_iconst (v := 0) hx hb dX5_swap_29 (by decide) ?_
    refine bcall_Ri (va_runVN (As := [.int a2, .int 0]) (rest := [.int (F2_ofBrand u a1 0)]) ⟨hx, hb, hml, hown, hts⟩ (C2_ofBrand l D cI cO q _ _ hP a2 0) ⟨va_cnB 2 hts gX5_swap_X2_ofBrand_n103 rfl rfl rfl (hk.2 (.methodLinkNest RX5 103 yX2_ofBrand RX5) (List.mem_of_getElem? (i := 17) rfl)) (hts (.initialized RX2) (List.mem_of_getElem? (i := 16) rfl)) bd_X2ofBrand ⟨Nat.le_of_ble_eq_true rfl, Nat.le_of_ble_eq_true rfl⟩, (hts (.instanceMethod yX2_ofBrand) (List.mem_of_getElem? (i := 24) rfl)), (hts (.selects RX2 yX2_ofBrand yX2_ofBrand) (List.mem_of_getElem? (i := 25) rfl))⟩ (bPV hk (va_recv hk.1 hP (ci := 2) (q0 := 3) rfl (wC_3 _ _ _ _))) rfl rfl hl.1 rfl (lv_room (Nat.le_of_ble_eq_true rfl)) dX5_swap_30 ⟨Nat.zero_le _, Nat.zero_le _⟩) hS (fun locs hS => ?_)
    refine lv_icmp_ne (tgt := 40) hx hb dX5_swap_33 (by decide) (fun c_5 => ?_) (fun c_5 => ?_)
    · refine lv_iconst (v := 0) hx hb dX5_swap_40 (by decide) ?_
      have c_6 : (F5_needArgument 0) = 0 := Decidable.byContradiction (fun h9 => absurd ((congrArg Prod.fst (show ((F5_needArgument 0), (0 : Int32), u) = tgt from by rw [← hF, F5_swap, if_pos c_1, if_pos c_2, if_neg c_3, if_neg c_5, if_neg h9])).trans h0) h9)
      exact absurd c_6 (by decide)
    · refine lv_iconst (v := 1) hx hb dX5_swap_36 (by decide) ?_
      refine lv_goto (tgt := 41) hx hb dX5_swap_37 (by decide) ?_
      refine bcall_Rv (va_runS (As := [.int 1]) (rest := []) ⟨hx, hb, hml, hown, hts⟩ (C5_needArgument l D cI cO q _ 1 (by decide)) (va_cwS 1 hts gX5_swap_X5_needArgument rfl rfl rfl bd_X5needArgument ⟨Nat.le_of_ble_eq_true rfl, Nat.le_of_ble_eq_true rfl⟩) (bPS hk) rfl rfl hl.1 rfl (lv_room (Nat.le_of_ble_eq_true rfl)) dX5_swap_41 ⟨Nat.zero_le _, Nat.zero_le _⟩) hS (fun locs hS => ?_)
      refine lv_iload_n hx hb dX5_swap_44 rfl (lv_at hl 3 rfl) ?_
      refine lv_iconst (v := 1) hx hb dX5_swap_45 (by decide) ?_
      refine lv_sipush (v := 5000) hx hb dX5_swap_46 (by decide) ?_
      have c_7 : (F5_needRange a3 1 5000) = 0 := Decidable.byContradiction (fun h9 => absurd ((congrArg Prod.fst (show ((F5_needRange a3 1 5000), (0 : Int32), u) = tgt from by rw [← hF, F5_swap, if_pos c_1, if_pos c_2, if_neg c_3, if_pos c_5, if_neg h9])).trans h0) h9)
      refine bcall_Rv (va_runS (As := [.int a3, .int 1, .int 5000]) (rest := []) ⟨hx, hb, hml, hown, hts⟩ (C5_needRange l D cI cO q _ a3 1 5000 c_7) (va_cwS 3 hts gX5_swap_X5_needRange rfl rfl rfl bd_X5needRange ⟨Nat.le_of_ble_eq_true rfl, Nat.le_of_ble_eq_true rfl⟩) (bPS hk) rfl rfl hl.1 rfl (lv_room (Nat.le_of_ble_eq_true rfl)) dX5_swap_49 ⟨Nat.zero_le _, Nat.zero_le _⟩) hS (fun locs hS => ?_)
      refine lv_aload_n hx hb dX5_swap_52 rfl (lv_at hl 0 rfl) ?_
      refine va_get (D := D) (ci := 5) (C := RX5) (T := TX5) (N := 5) hx hb hts iX5 hown hk.1 hP 0 (wC_0 _ _ _ _) rfl 0 (by decide) (hts (.fieldLink RX5 20 "BottleLoop" "now" "LBottleLoop$State;") (List.mem_of_getElem? (i := 1) rfl)) (fun _ h9 => h9) rfl dX5_swap_53 ?_
      refine lv_iload_n hx hb dX5_swap_56 rfl (lv_at hl 1 rfl) ?_
      refine lv_iconst (v := 1) hx hb dX5_swap_57 (by decide) ?_
      refine bcall_Ri (va_runVN (As := [.int a1, .int 1]) (rest := []) ⟨hx, hb, hml, hown, hts⟩ (C2_ofBrand l D cI cO q _ _ hP a1 1) ⟨va_cnB 2 hts gX5_swap_X2_ofBrand_n103 rfl rfl rfl (hk.2 (.methodLinkNest RX5 103 yX2_ofBrand RX5) (List.mem_of_getElem? (i := 17) rfl)) (hts (.initialized RX2) (List.mem_of_getElem? (i := 16) rfl)) bd_X2ofBrand ⟨Nat.le_of_ble_eq_true rfl, Nat.le_of_ble_eq_true rfl⟩, (hts (.instanceMethod yX2_ofBrand) (List.mem_of_getElem? (i := 24) rfl)), (hts (.selects RX2 yX2_ofBrand yX2_ofBrand) (List.mem_of_getElem? (i := 25) rfl))⟩ (bPV hk (va_recv hk.1 hP (ci := 2) (q0 := 3) rfl (wC_3 _ _ _ _))) rfl rfl hl.1 rfl (lv_room (Nat.le_of_ble_eq_true rfl)) dX5_swap_58 ⟨Nat.zero_le _, Nat.zero_le _⟩) hS (fun locs hS => ?_)
      refine lv_iload_n hx hb dX5_swap_61 rfl (lv_at hl 3 rfl) ?_
      refine lv_icmp_lt (tgt := 69) hx hb dX5_swap_62 (by decide) (fun c_8 => ?_) (fun c_8 => ?_)
      · refine lv_iconst (v := 0) hx hb dX5_swap_69 (by decide) ?_
        have c_9 : (F5_needState 0) = 0 := Decidable.byContradiction (fun h9 => absurd ((congrArg Prod.fst (show ((F5_needState 0), (0 : Int32), u) = tgt from by rw [← hF, F5_swap, if_pos c_1, if_pos c_2, if_neg c_3, if_pos c_5, if_pos c_7, if_pos c_8, if_neg h9])).trans h0) h9)
        exact absurd c_9 (by decide)
      · refine lv_iconst (v := 1) hx hb dX5_swap_65 (by decide) ?_
        refine lv_goto (tgt := 70) hx hb dX5_swap_66 (by decide) ?_
        refine bcall_Rv (va_runS (As := [.int 1]) (rest := []) ⟨hx, hb, hml, hown, hts⟩ (C5_needState l D cI cO q _ 1 (by decide)) (va_cwS 1 hts gX5_swap_X5_needState rfl rfl rfl bd_X5needState ⟨Nat.le_of_ble_eq_true rfl, Nat.le_of_ble_eq_true rfl⟩) (bPS hk) rfl rfl hl.1 rfl (lv_room (Nat.le_of_ble_eq_true rfl)) dX5_swap_70 ⟨Nat.zero_le _, Nat.zero_le _⟩) hS (fun locs hS => ?_)
        refine lv_aload_n hx hb dX5_swap_73 rfl (lv_at hl 0 rfl) ?_
        refine va_get (D := D) (ci := 5) (C := RX5) (T := TX5) (N := 5) hx hb hts iX5 hown hk.1 hP 0 (wC_0 _ _ _ _) rfl 1 (by decide) (hts (.fieldLink RX5 26 "BottleLoop" "past" "LBottleLoop$Past;") (List.mem_of_getElem? (i := 2) rfl)) (fun _ h9 => h9) rfl dX5_swap_74 ?_
        refine lv_aload_n hx hb dX5_swap_77 rfl (lv_at hl 0 rfl) ?_
        refine va_get (D := D) (ci := 5) (C := RX5) (T := TX5) (N := 5) hx hb hts iX5 hown hk.1 hP 0 (wC_0 _ _ _ _) rfl 0 (by decide) (hts (.fieldLink RX5 20 "BottleLoop" "now" "LBottleLoop$State;") (List.mem_of_getElem? (i := 1) rfl)) (fun _ h9 => h9) rfl dX5_swap_78 ?_
        refine bcall_Wv (va_runVN (As := [.ref (q 3)]) (rest := []) ⟨hx, hb, hml, hown, hts⟩ (C1_keep l D cI cO q _ _ hq hP  hlat) ⟨va_cnB 1 hts gX5_swap_X1_keep_n62 rfl rfl rfl (hk.2 (.methodLinkNest RX5 62 yX1_keep RX5) (List.mem_of_getElem? (i := 9) rfl)) (hts (.initialized RX1) (List.mem_of_getElem? (i := 41) rfl)) bd_X1keep ⟨Nat.le_of_ble_eq_true rfl, Nat.le_of_ble_eq_true rfl⟩, (hts (.instanceMethod yX1_keep) (List.mem_of_getElem? (i := 40) rfl)), (hts (.selects RX1 yX1_keep yX1_keep) (List.mem_of_getElem? (i := 42) rfl))⟩ (bPV hk (va_recv hk.1 hP (ci := 1) (q0 := 5) rfl (wC_5 _ _ _ _))) rfl rfl hl.1 rfl (lv_room (Nat.le_of_ble_eq_true rfl)) dX5_swap_81 ⟨Nat.zero_le _, Nat.zero_le _⟩) hS (fun H locs hP _ hS => ?_)
        refine lv_aload_n hx hb dX5_swap_84 rfl (lv_at hl 0 rfl) ?_
        refine va_get (D := D) (ci := 5) (C := RX5) (T := TX5) (N := 5) hx hb hts iX5 hown hk.1 hP 0 (wC_0 _ _ _ _) rfl 2 (by decide) (hts (.fieldLink RX5 12 "BottleLoop" "trade" "LBottleLoop$Trade;") (List.mem_of_getElem? (i := 3) rfl)) (fun _ h9 => h9) rfl dX5_swap_85 ?_
        refine lv_iload_n hx hb dX5_swap_88 rfl (lv_at hl 1 rfl) ?_
        refine lv_iload_n hx hb dX5_swap_89 rfl (lv_at hl 2 rfl) ?_
        refine lv_iload_n hx hb dX5_swap_90 rfl (lv_at hl 3 rfl) ?_
        refine bcall_Wi (va_runVN (As := [.int a1, .int a2, .int a3]) (rest := []) ⟨hx, hb, hml, hown, hts⟩ (C4_swapBottles l D cI cO q _ _ hq hP a1 a2 a3) ⟨va_cnB 3 hts gX5_swap_X4_swapBottles_n156 rfl rfl rfl (hk.2 (.methodLinkNest RX5 156 yX4_swapBottles RX5) (List.mem_of_getElem? (i := 49) rfl)) (hts (.initialized RX4) (List.mem_of_getElem? (i := 59) rfl)) bd_X4swapBottles ⟨Nat.le_of_ble_eq_true rfl, Nat.le_of_ble_eq_true rfl⟩, (hts (.instanceMethod yX4_swapBottles) (List.mem_of_getElem? (i := 58) rfl)), (hts (.selects RX4 yX4_swapBottles yX4_swapBottles) (List.mem_of_getElem? (i := 60) rfl))⟩ (bPV hk (va_recv hk.1 hP (ci := 4) (q0 := 1) rfl (wC_1 _ _ _ _))) rfl rfl hl.1 rfl (lv_room (Nat.le_of_ble_eq_true rfl)) dX5_swap_91 ⟨Nat.zero_le _, Nat.zero_le _⟩) hS (fun H locs hP _ hS => ?_)
        exact bret_Yi hx hb hr hP hS hlocks dX5_swap_94 (by rw [← hF, F5_swap, if_pos c_1, if_pos c_2, if_neg c_3, if_pos c_5, if_pos c_7, if_neg c_8])
def F5_undo (u : bU) : Int32 × Int32 × bU := (if (F1_kept u) ≤ 0 then (if (F5_needState 0) = 0 then (0, 0, u) else ((F5_needState 0), 0, u)) else (0, (F1_kept (F1_giveBack u)), (F1_giveBack u)))
set_option maxHeartbeats 4000000 in
set_option maxRecDepth 100000 in
theorem C5_undo (l : Launch) (D : va_G) (cI cO : ClassId) (q : Nat → Nat) (u : bU) (H0 : Heap) (hq : bInj 23 q) (hP : va_P D vwCl (wC cI cO q u) H0) (hlat : bLat u) (h0 : (F5_undo u).1 = 0) : Met l yX5_undo wsX5_undo ({ frames := 3, cells := 0, slots := 0, locals := 242 }) (bP D [(cI, .int), (cO, .object RX2)] H0 [.ref (q 0)]) (bWi D (wC cI cO q) bT (bA 23 q H0.size) ((F5_undo u).2.1, (F5_undo u).2.2)) 0 0 (bA 23 q H0.size) := by
  refine Met.ofW (cc := cX5_undo) (maxL := 1) (ret := (some .int)) (by decide) rfl ?_
  intro p e s m args below meth c s₁ B hml hv
  obtain ⟨rfl, hH, hk⟩ := hv
  subst hH
  have hx := B.exec
  have hb := B.bytes
  have hr := B.returns
  have hts := atoms_spec (ws := wsX5_undo) B.pre
  have hown : s.vm.findClass RX5 = some m.cls := findClass_of_methodNamed B.named
  have hlocks := B.notSynchronized
  have iX5 : ∀ w ∈ wsX50, w ∈ wsX5_undo := by decide +kernel
  have hS : va_S (bA 23 q s.heap.size) s.heap s.heap [] := va_S.rf
  have hl := lv_entry ([.ref (q 0)]) (n := 1) (Nat.le_of_ble_eq_true rfl)
  rw [lg_entry_eq]
  generalize (lg_sl ([.ref (q 0)]) ++ List.replicate (1 - (lg_sl ([.ref (q 0)])).length) Slot.unset).toArray = ls at hl ⊢
  have hl : lv_has ls 1 [(0, .ref (q 0))] := hl
  generalize hF : F5_undo u = tgt at h0 ⊢
  refine lv_aload_n hx hb dX5_undo_0 rfl (lv_at hl 0 rfl) ?_
  refine va_get (D := D) (ci := 5) (C := RX5) (T := TX5) (N := 5) hx hb hts iX5 hown hk.1 hP 0 (wC_0 _ _ _ _) rfl 1 (by decide) (hts (.fieldLink RX5 26 "BottleLoop" "past" "LBottleLoop$Past;") (List.mem_of_getElem? (i := 1) rfl)) (fun _ h9 => h9) rfl dX5_undo_1 ?_
  refine bcall_Ri (va_runVN (As := []) (rest := []) ⟨hx, hb, hml, hown, hts⟩ (C1_kept l D cI cO q _ _ hP ) ⟨va_cnB 0 hts gX5_undo_X1_kept_n179 rfl rfl rfl (hk.2 (.methodLinkNest RX5 179 yX1_kept RX5) (List.mem_of_getElem? (i := 22) rfl)) (hts (.initialized RX1) (List.mem_of_getElem? (i := 4) rfl)) bd_X1kept ⟨Nat.le_of_ble_eq_true rfl, Nat.le_of_ble_eq_true rfl⟩, (hts (.instanceMethod yX1_kept) (List.mem_of_getElem? (i := 3) rfl)), (hts (.selects RX1 yX1_kept yX1_kept) (List.mem_of_getElem? (i := 5) rfl))⟩ (bPV hk (va_recv hk.1 hP (ci := 1) (q0 := 5) rfl (wC_5 _ _ _ _))) rfl rfl hl.1 rfl (lv_room (Nat.le_of_ble_eq_true rfl)) dX5_undo_4 ⟨Nat.zero_le _, Nat.zero_le _⟩) hS (fun locs hS => ?_)
  refine lv_if_le (tgt := 14) hx hb dX5_undo_7 (by decide) (fun c_1 => ?_) (fun c_1 => ?_)
  · refine lv_iconst (v := 0) hx hb dX5_undo_14 (by decide) ?_
    have c_2 : (F5_needState 0) = 0 := Decidable.byContradiction (fun h9 => absurd ((congrArg Prod.fst (show ((F5_needState 0), (0 : Int32), u) = tgt from by rw [← hF, F5_undo, if_pos c_1, if_neg h9])).trans h0) h9)
    exact absurd c_2 (by decide)
  · refine lv_iconst (v := 1) hx hb dX5_undo_10 (by decide) ?_
    refine lv_goto (tgt := 15) hx hb dX5_undo_11 (by decide) ?_
    refine bcall_Rv (va_runS (As := [.int 1]) (rest := []) ⟨hx, hb, hml, hown, hts⟩ (C5_needState l D cI cO q _ 1 (by decide)) (va_cwS 1 hts gX5_undo_X5_needState rfl rfl rfl bd_X5needState ⟨Nat.le_of_ble_eq_true rfl, Nat.le_of_ble_eq_true rfl⟩) (bPS hk) rfl rfl hl.1 rfl (lv_room (Nat.le_of_ble_eq_true rfl)) dX5_undo_15 ⟨Nat.zero_le _, Nat.zero_le _⟩) hS (fun locs hS => ?_)
    refine lv_aload_n hx hb dX5_undo_18 rfl (lv_at hl 0 rfl) ?_
    refine va_get (D := D) (ci := 5) (C := RX5) (T := TX5) (N := 5) hx hb hts iX5 hown hk.1 hP 0 (wC_0 _ _ _ _) rfl 1 (by decide) (hts (.fieldLink RX5 26 "BottleLoop" "past" "LBottleLoop$Past;") (List.mem_of_getElem? (i := 1) rfl)) (fun _ h9 => h9) rfl dX5_undo_19 ?_
    refine lv_aload_n hx hb dX5_undo_22 rfl (lv_at hl 0 rfl) ?_
    refine va_get (D := D) (ci := 5) (C := RX5) (T := TX5) (N := 5) hx hb hts iX5 hown hk.1 hP 0 (wC_0 _ _ _ _) rfl 0 (by decide) (hts (.fieldLink RX5 20 "BottleLoop" "now" "LBottleLoop$State;") (List.mem_of_getElem? (i := 2) rfl)) (fun _ h9 => h9) rfl dX5_undo_23 ?_
    refine bcall_Wv (va_runVN (As := [.ref (q 3)]) (rest := []) ⟨hx, hb, hml, hown, hts⟩ (C1_giveBack l D cI cO q _ _ hq hP  hlat) ⟨va_cnB 1 hts gX5_undo_X1_giveBack_n182 rfl rfl rfl (hk.2 (.methodLinkNest RX5 182 yX1_giveBack RX5) (List.mem_of_getElem? (i := 23) rfl)) (hts (.initialized RX1) (List.mem_of_getElem? (i := 4) rfl)) bd_X1giveBack ⟨Nat.le_of_ble_eq_true rfl, Nat.le_of_ble_eq_true rfl⟩, (hts (.instanceMethod yX1_giveBack) (List.mem_of_getElem? (i := 14) rfl)), (hts (.selects RX1 yX1_giveBack yX1_giveBack) (List.mem_of_getElem? (i := 15) rfl))⟩ (bPV hk (va_recv hk.1 hP (ci := 1) (q0 := 5) rfl (wC_5 _ _ _ _))) rfl rfl hl.1 rfl (lv_room (Nat.le_of_ble_eq_true rfl)) dX5_undo_26 ⟨Nat.zero_le _, Nat.zero_le _⟩) hS (fun H locs hP _ hS => ?_)
    refine lv_aload_n hx hb dX5_undo_29 rfl (lv_at hl 0 rfl) ?_
    refine va_get (D := D) (ci := 5) (C := RX5) (T := TX5) (N := 5) hx hb hts iX5 hown hk.1 hP 0 (wC_0 _ _ _ _) rfl 1 (by decide) (hts (.fieldLink RX5 26 "BottleLoop" "past" "LBottleLoop$Past;") (List.mem_of_getElem? (i := 1) rfl)) (fun _ h9 => h9) rfl dX5_undo_30 ?_
    refine bcall_Ri (va_runVN (As := []) (rest := []) ⟨hx, hb, hml, hown, hts⟩ (C1_kept l D cI cO q _ _ hP ) ⟨va_cnB 0 hts gX5_undo_X1_kept_n179 rfl rfl rfl (hk.2 (.methodLinkNest RX5 179 yX1_kept RX5) (List.mem_of_getElem? (i := 22) rfl)) (hts (.initialized RX1) (List.mem_of_getElem? (i := 4) rfl)) bd_X1kept ⟨Nat.le_of_ble_eq_true rfl, Nat.le_of_ble_eq_true rfl⟩, (hts (.instanceMethod yX1_kept) (List.mem_of_getElem? (i := 3) rfl)), (hts (.selects RX1 yX1_kept yX1_kept) (List.mem_of_getElem? (i := 5) rfl))⟩ (bPV hk (va_recv hk.1 hP (ci := 1) (q0 := 5) rfl (wC_5 _ _ _ _))) rfl rfl hl.1 rfl (lv_room (Nat.le_of_ble_eq_true rfl)) dX5_undo_33 ⟨Nat.zero_le _, Nat.zero_le _⟩) hS (fun locs hS => ?_)
    exact bret_Yi hx hb hr hP hS hlocks dX5_undo_36 (by rw [← hF, F5_undo, if_neg c_1])
def F5_set (u : bU) (a1 : Int32) (a2 : Int32) : Int32 × Int32 × bU := (if (F5_needSetting a1) = 0 then (if (F5_needRange a2 (F5_entry 6 tLeast a1) (F5_entry 6 tMost a1)) = 0 then (if (3 : Int32) < a1 then (0, (F2_ofSetting (F1_keep u) a1), (F2_putSetting (F1_keep u) a1 a2)) else (if (F2_ofAll u 4) = 0 then (0, (F2_ofSetting (F1_keep u) a1), (F2_putSetting (F1_keep u) a1 a2)) else (if (F5_needState 0) = 0 then (0, 0, u) else ((F5_needState 0), 0, u)))) else ((F5_needRange a2 (F5_entry 6 tLeast a1) (F5_entry 6 tMost a1)), 0, u)) else ((F5_needSetting a1), 0, u))
set_option maxHeartbeats 4000000 in
set_option maxRecDepth 100000 in
theorem C5_set (l : Launch) (D : va_G) (cI cO : ClassId) (q : Nat → Nat) (u : bU) (H0 : Heap) (hq : bInj 23 q) (hP : va_P D vwCl (wC cI cO q u) H0) (a1 : Int32) (a2 : Int32) (hlat : bLat u) (h0 : (F5_set u a1 a2).1 = 0) : Met l yX5_set wsX5_set ({ frames := 3, cells := 0, slots := 0, locals := 243 }) (bPY D [(cI, .int), (cO, .object RX2)] (bA 23 q H0.size) H0 [.ref (q 0), .int a1, .int a2]) (bWi D (wC cI cO q) bT (bA 23 q H0.size) ((F5_set u a1 a2).2.1, (F5_set u a1 a2).2.2)) 0 0 (bA 23 q H0.size) := by
  refine Met.ofW (cc := cX5_set) (maxL := 4) (ret := (some .int)) (by decide) rfl ?_
  intro p e s m args below meth c s₁ B hml hv
  obtain ⟨rfl, hH, hk, hX⟩ := hv
  subst hH
  have hx := B.exec
  have hb := B.bytes
  have hr := B.returns
  have hts := atoms_spec (ws := wsX5_set) B.pre
  have hown : s.vm.findClass RX5 = some m.cls := findClass_of_methodNamed B.named
  have hlocks := B.notSynchronized
  obtain ⟨tL, hZL, hTL⟩ := hX.1
  obtain ⟨tM, hZM, hTM⟩ := hX.2
  have iX5 : ∀ w ∈ wsX50, w ∈ wsX5_set := by decide +kernel
  have hS : va_S (bA 23 q s.heap.size) s.heap s.heap [] := va_S.rf
  have hl := lv_entry ([.ref (q 0), .int a1, .int a2]) (n := 4) (Nat.le_of_ble_eq_true rfl)
  rw [lg_entry_eq]
  generalize (lg_sl ([.ref (q 0), .int a1, .int a2]) ++ List.replicate (4 - (lg_sl ([.ref (q 0), .int a1, .int a2])).length) Slot.unset).toArray = ls at hl ⊢
  have hl : lv_has ls 4 [(0, .ref (q 0)), (1, .int a1), (2, .int a2)] := hl
  generalize hF : F5_set u a1 a2 = tgt at h0 ⊢
  refine lv_iload_n hx hb dX5_set_0 rfl (lv_at hl 1 rfl) ?_
  have c_1 : (F5_needSetting a1) = 0 := Decidable.byContradiction (fun h9 => absurd ((congrArg Prod.fst (show ((F5_needSetting a1), (0 : Int32), u) = tgt from by rw [← hF, F5_set, if_neg h9])).trans h0) h9)
  refine bcall_Rv (va_runS (As := [.int a1]) (rest := []) ⟨hx, hb, hml, hown, hts⟩ (C5_needSetting l D cI cO q _ a1 c_1) (va_cwS 1 hts gX5_set_X5_needSetting rfl rfl rfl bd_X5needSetting ⟨Nat.le_of_ble_eq_true rfl, Nat.le_of_ble_eq_true rfl⟩) (bPS hk) rfl rfl hl.1 rfl (lv_room (Nat.le_of_ble_eq_true rfl)) dX5_set_1 ⟨Nat.zero_le _, Nat.zero_le _⟩) hS (fun locs hS => ?_)
  refine lv_iload_n hx hb dX5_set_4 rfl (lv_at hl 2 rfl) ?_
  refine va_gets hx hb hZL hS hown (hts (.fieldLink RX5 83 "BottleLoop" "LEAST_SETTING" "[I") (List.mem_of_getElem? (i := 1) rfl)) (fun _ h9 => h9) dX5_set_5 ?_
  refine lv_iload_n hx hb dX5_set_8 rfl (lv_at hl 1 rfl) ?_
  refine bcall_Ri (va_runS (As := [.ref tL, .int a1]) (rest := [.int a2]) ⟨hx, hb, hml, hown, hts⟩ (C5_entryT l D cI cO q _ a1) (va_cwS 2 hts gX5_set_X5_entry rfl rfl rfl bd_X5entry ⟨Nat.le_of_ble_eq_true rfl, Nat.le_of_ble_eq_true rfl⟩) (bPST hk hTL hS) rfl rfl hl.1 rfl (lv_room (Nat.le_of_ble_eq_true rfl)) dX5_set_9 ⟨Nat.zero_le _, Nat.zero_le _⟩) hS (fun locs hS => ?_)
  refine va_gets hx hb hZM hS hown (hts (.fieldLink RX5 91 "BottleLoop" "MOST_SETTING" "[I") (List.mem_of_getElem? (i := 2) rfl)) (fun _ h9 => h9) dX5_set_12 ?_
  refine lv_iload_n hx hb dX5_set_15 rfl (lv_at hl 1 rfl) ?_
  refine bcall_Ri (va_runS (As := [.ref tM, .int a1]) (rest := [.int (F5_entry 6 tLeast a1), .int a2]) ⟨hx, hb, hml, hown, hts⟩ (C5_entryT l D cI cO q _ a1) (va_cwS 2 hts gX5_set_X5_entry rfl rfl rfl bd_X5entry ⟨Nat.le_of_ble_eq_true rfl, Nat.le_of_ble_eq_true rfl⟩) (bPST hk hTM hS) rfl rfl hl.1 rfl (lv_room (Nat.le_of_ble_eq_true rfl)) dX5_set_16 ⟨Nat.zero_le _, Nat.zero_le _⟩) hS (fun locs hS => ?_)
  have c_2 : (F5_needRange a2 (F5_entry 6 tLeast a1) (F5_entry 6 tMost a1)) = 0 := Decidable.byContradiction (fun h9 => absurd ((congrArg Prod.fst (show ((F5_needRange a2 (F5_entry 6 tLeast a1) (F5_entry 6 tMost a1)), (0 : Int32), u) = tgt from by rw [← hF, F5_set, if_pos c_1, if_neg h9])).trans h0) h9)
  refine bcall_Rv (va_runS (As := [.int a2, .int (F5_entry 6 tLeast a1), .int (F5_entry 6 tMost a1)]) (rest := []) ⟨hx, hb, hml, hown, hts⟩ (C5_needRange l D cI cO q _ a2 (F5_entry 6 tLeast a1) (F5_entry 6 tMost a1) c_2) (va_cwS 3 hts gX5_set_X5_needRange rfl rfl rfl bd_X5needRange ⟨Nat.le_of_ble_eq_true rfl, Nat.le_of_ble_eq_true rfl⟩) (bPS hk) rfl rfl hl.1 rfl (lv_room (Nat.le_of_ble_eq_true rfl)) dX5_set_19 ⟨Nat.zero_le _, Nat.zero_le _⟩) hS (fun locs hS => ?_)
  refine lv_iload_n hx hb dX5_set_22 rfl (lv_at hl 1 rfl) ?_
  refine lv_iconst (v := 3) hx hb dX5_set_23 (by decide) ?_
  refine lv_icmp_gt (tgt := 38) hx hb dX5_set_24 (by decide) (fun c_3 => ?_) (fun c_3 => ?_)
  · refine lv_iconst (v := 1) hx hb dX5_set_38 (by decide) ?_
    refine lv_goto (tgt := 43) hx hb dX5_set_39 (by decide) ?_
    refine bcall_Rv (va_runS (As := [.int 1]) (rest := []) ⟨hx, hb, hml, hown, hts⟩ (C5_needState l D cI cO q _ 1 (by decide)) (va_cwS 1 hts gX5_set_X5_needState rfl rfl rfl bd_X5needState ⟨Nat.le_of_ble_eq_true rfl, Nat.le_of_ble_eq_true rfl⟩) (bPS hk) rfl rfl hl.1 rfl (lv_room (Nat.le_of_ble_eq_true rfl)) dX5_set_43 ⟨Nat.zero_le _, Nat.zero_le _⟩) hS (fun locs hS => ?_)
    refine lv_aload_n hx hb dX5_set_46 rfl (lv_at hl 0 rfl) ?_
    refine va_get (D := D) (ci := 5) (C := RX5) (T := TX5) (N := 5) hx hb hts iX5 hown hk.1 hP 0 (wC_0 _ _ _ _) rfl 1 (by decide) (hts (.fieldLink RX5 26 "BottleLoop" "past" "LBottleLoop$Past;") (List.mem_of_getElem? (i := 4) rfl)) (fun _ h9 => h9) rfl dX5_set_47 ?_
    refine lv_aload_n hx hb dX5_set_50 rfl (lv_at hl 0 rfl) ?_
    refine va_get (D := D) (ci := 5) (C := RX5) (T := TX5) (N := 5) hx hb hts iX5 hown hk.1 hP 0 (wC_0 _ _ _ _) rfl 0 (by decide) (hts (.fieldLink RX5 20 "BottleLoop" "now" "LBottleLoop$State;") (List.mem_of_getElem? (i := 3) rfl)) (fun _ h9 => h9) rfl dX5_set_51 ?_
    refine bcall_Wv (va_runVN (As := [.ref (q 3)]) (rest := []) ⟨hx, hb, hml, hown, hts⟩ (C1_keep l D cI cO q _ _ hq hP  hlat) ⟨va_cnB 1 hts gX5_set_X1_keep_n62 rfl rfl rfl (hk.2 (.methodLinkNest RX5 62 yX1_keep RX5) (List.mem_of_getElem? (i := 9) rfl)) (hts (.initialized RX1) (List.mem_of_getElem? (i := 37) rfl)) bd_X1keep ⟨Nat.le_of_ble_eq_true rfl, Nat.le_of_ble_eq_true rfl⟩, (hts (.instanceMethod yX1_keep) (List.mem_of_getElem? (i := 36) rfl)), (hts (.selects RX1 yX1_keep yX1_keep) (List.mem_of_getElem? (i := 38) rfl))⟩ (bPV hk (va_recv hk.1 hP (ci := 1) (q0 := 5) rfl (wC_5 _ _ _ _))) rfl rfl hl.1 rfl (lv_room (Nat.le_of_ble_eq_true rfl)) dX5_set_54 ⟨Nat.zero_le _, Nat.zero_le _⟩) hS (fun H locs hP _ hS => ?_)
    refine lv_aload_n hx hb dX5_set_57 rfl (lv_at hl 0 rfl) ?_
    refine va_get (D := D) (ci := 5) (C := RX5) (T := TX5) (N := 5) hx hb hts iX5 hown hk.1 hP 0 (wC_0 _ _ _ _) rfl 0 (by decide) (hts (.fieldLink RX5 20 "BottleLoop" "now" "LBottleLoop$State;") (List.mem_of_getElem? (i := 3) rfl)) (fun _ h9 => h9) rfl dX5_set_58 ?_
    refine lv_iload_n hx hb dX5_set_61 rfl (lv_at hl 1 rfl) ?_
    refine bcall_Ri (va_runVN (As := [.int a1]) (rest := []) ⟨hx, hb, hml, hown, hts⟩ (C2_ofSetting l D cI cO q _ _ hP a1) ⟨va_cnB 1 hts gX5_set_X2_ofSetting_n94 rfl rfl rfl (hk.2 (.methodLinkNest RX5 94 yX2_ofSetting RX5) (List.mem_of_getElem? (i := 15) rfl)) (hts (.initialized RX2) (List.mem_of_getElem? (i := 23) rfl)) bd_X2ofSetting ⟨Nat.le_of_ble_eq_true rfl, Nat.le_of_ble_eq_true rfl⟩, (hts (.instanceMethod yX2_ofSetting) (List.mem_of_getElem? (i := 54) rfl)), (hts (.selects RX2 yX2_ofSetting yX2_ofSetting) (List.mem_of_getElem? (i := 55) rfl))⟩ (bPV hk (va_recv hk.1 hP (ci := 2) (q0 := 3) rfl (wC_3 _ _ _ _))) rfl rfl hl.1 rfl (lv_room (Nat.le_of_ble_eq_true rfl)) dX5_set_62 ⟨Nat.zero_le _, Nat.zero_le _⟩) hS (fun locs hS => ?_)
    refine lv_istore_n (lv' := [(3, .int (F2_ofSetting (F1_keep u) a1)), (0, .ref (q 0)), (1, .int a1), (2, .int a2)]) hx hb dX5_set_65 rfl hl (by decide) rfl (fun ls hl => ?_)
    refine lv_aload_n hx hb dX5_set_66 rfl (lv_at hl 1 rfl) ?_
    refine va_get (D := D) (ci := 5) (C := RX5) (T := TX5) (N := 5) hx hb hts iX5 hown hk.1 hP 0 (wC_0 _ _ _ _) rfl 0 (by decide) (hts (.fieldLink RX5 20 "BottleLoop" "now" "LBottleLoop$State;") (List.mem_of_getElem? (i := 3) rfl)) (fun _ h9 => h9) rfl dX5_set_67 ?_
    refine lv_iload_n hx hb dX5_set_70 rfl (lv_at hl 2 rfl) ?_
    refine lv_iload_n hx hb dX5_set_71 rfl (lv_at hl 3 rfl) ?_
    refine bcall_Wv (va_runVN (As := [.int a1, .int a2]) (rest := []) ⟨hx, hb, hml, hown, hts⟩ (C2_putSetting l D cI cO q _ _ hq hP a1 a2) ⟨va_cnB 2 hts gX5_set_X2_putSetting_n97 rfl rfl rfl (hk.2 (.methodLinkNest RX5 97 yX2_putSetting RX5) (List.mem_of_getElem? (i := 16) rfl)) (hts (.initialized RX2) (List.mem_of_getElem? (i := 23) rfl)) bd_X2putSetting ⟨Nat.le_of_ble_eq_true rfl, Nat.le_of_ble_eq_true rfl⟩, (hts (.instanceMethod yX2_putSetting) (List.mem_of_getElem? (i := 57) rfl)), (hts (.selects RX2 yX2_putSetting yX2_putSetting) (List.mem_of_getElem? (i := 58) rfl))⟩ (bPV hk (va_recv hk.1 hP (ci := 2) (q0 := 3) rfl (wC_3 _ _ _ _))) rfl rfl hl.1 rfl (lv_room (Nat.le_of_ble_eq_true rfl)) dX5_set_72 ⟨Nat.zero_le _, Nat.zero_le _⟩) hS (fun H locs hP _ hS => ?_)
    refine lv_iload_n hx hb dX5_set_75 rfl (lv_at hl 0 rfl) ?_
    exact bret_Yi hx hb hr hP hS hlocks dX5_set_76 (by rw [← hF, F5_set, if_pos c_1, if_pos c_2, if_pos c_3])
  · refine lv_aload_n hx hb dX5_set_27 rfl (lv_at hl 0 rfl) ?_
    refine va_get (D := D) (ci := 5) (C := RX5) (T := TX5) (N := 5) hx hb hts iX5 hown hk.1 hP 0 (wC_0 _ _ _ _) rfl 0 (by decide) (hts (.fieldLink RX5 20 "BottleLoop" "now" "LBottleLoop$State;") (List.mem_of_getElem? (i := 3) rfl)) (fun _ h9 => h9) rfl dX5_set_28 ?_
    refine lv_iconst (v := 4) hx hb dX5_set_31 (by decide) ?_
    refine bcall_Ri (va_runVN (As := [.int 4]) (rest := []) ⟨hx, hb, hml, hown, hts⟩ (C2_ofAll l D cI cO q _ _ hP 4) ⟨va_cnB 1 hts gX5_set_X2_ofAll_n52 rfl rfl rfl (hk.2 (.methodLinkNest RX5 52 yX2_ofAll RX5) (List.mem_of_getElem? (i := 8) rfl)) (hts (.initialized RX2) (List.mem_of_getElem? (i := 23) rfl)) bd_X2ofAll ⟨Nat.le_of_ble_eq_true rfl, Nat.le_of_ble_eq_true rfl⟩, (hts (.instanceMethod yX2_ofAll) (List.mem_of_getElem? (i := 22) rfl)), (hts (.selects RX2 yX2_ofAll yX2_ofAll) (List.mem_of_getElem? (i := 24) rfl))⟩ (bPV hk (va_recv hk.1 hP (ci := 2) (q0 := 3) rfl (wC_3 _ _ _ _))) rfl rfl hl.1 rfl (lv_room (Nat.le_of_ble_eq_true rfl)) dX5_set_32 ⟨Nat.zero_le _, Nat.zero_le _⟩) hS (fun locs hS => ?_)
    refine lv_if_ne (tgt := 42) hx hb dX5_set_35 (by decide) (fun c_4 => ?_) (fun c_4 => ?_)
    · refine lv_iconst (v := 0) hx hb dX5_set_42 (by decide) ?_
      have c_5 : (F5_needState 0) = 0 := Decidable.byContradiction (fun h9 => absurd ((congrArg Prod.fst (show ((F5_needState 0), (0 : Int32), u) = tgt from by rw [← hF, F5_set, if_pos c_1, if_pos c_2, if_neg c_3, if_neg c_4, if_neg h9])).trans h0) h9)
      exact absurd c_5 (by decide)
    · refine lv_iconst (v := 1) hx hb dX5_set_38 (by decide) ?_
      refine lv_goto (tgt := 43) hx hb dX5_set_39 (by decide) ?_
      refine bcall_Rv (va_runS (As := [.int 1]) (rest := []) ⟨hx, hb, hml, hown, hts⟩ (C5_needState l D cI cO q _ 1 (by decide)) (va_cwS 1 hts gX5_set_X5_needState rfl rfl rfl bd_X5needState ⟨Nat.le_of_ble_eq_true rfl, Nat.le_of_ble_eq_true rfl⟩) (bPS hk) rfl rfl hl.1 rfl (lv_room (Nat.le_of_ble_eq_true rfl)) dX5_set_43 ⟨Nat.zero_le _, Nat.zero_le _⟩) hS (fun locs hS => ?_)
      refine lv_aload_n hx hb dX5_set_46 rfl (lv_at hl 0 rfl) ?_
      refine va_get (D := D) (ci := 5) (C := RX5) (T := TX5) (N := 5) hx hb hts iX5 hown hk.1 hP 0 (wC_0 _ _ _ _) rfl 1 (by decide) (hts (.fieldLink RX5 26 "BottleLoop" "past" "LBottleLoop$Past;") (List.mem_of_getElem? (i := 4) rfl)) (fun _ h9 => h9) rfl dX5_set_47 ?_
      refine lv_aload_n hx hb dX5_set_50 rfl (lv_at hl 0 rfl) ?_
      refine va_get (D := D) (ci := 5) (C := RX5) (T := TX5) (N := 5) hx hb hts iX5 hown hk.1 hP 0 (wC_0 _ _ _ _) rfl 0 (by decide) (hts (.fieldLink RX5 20 "BottleLoop" "now" "LBottleLoop$State;") (List.mem_of_getElem? (i := 3) rfl)) (fun _ h9 => h9) rfl dX5_set_51 ?_
      refine bcall_Wv (va_runVN (As := [.ref (q 3)]) (rest := []) ⟨hx, hb, hml, hown, hts⟩ (C1_keep l D cI cO q _ _ hq hP  hlat) ⟨va_cnB 1 hts gX5_set_X1_keep_n62 rfl rfl rfl (hk.2 (.methodLinkNest RX5 62 yX1_keep RX5) (List.mem_of_getElem? (i := 9) rfl)) (hts (.initialized RX1) (List.mem_of_getElem? (i := 37) rfl)) bd_X1keep ⟨Nat.le_of_ble_eq_true rfl, Nat.le_of_ble_eq_true rfl⟩, (hts (.instanceMethod yX1_keep) (List.mem_of_getElem? (i := 36) rfl)), (hts (.selects RX1 yX1_keep yX1_keep) (List.mem_of_getElem? (i := 38) rfl))⟩ (bPV hk (va_recv hk.1 hP (ci := 1) (q0 := 5) rfl (wC_5 _ _ _ _))) rfl rfl hl.1 rfl (lv_room (Nat.le_of_ble_eq_true rfl)) dX5_set_54 ⟨Nat.zero_le _, Nat.zero_le _⟩) hS (fun H locs hP _ hS => ?_)
      refine lv_aload_n hx hb dX5_set_57 rfl (lv_at hl 0 rfl) ?_
      refine va_get (D := D) (ci := 5) (C := RX5) (T := TX5) (N := 5) hx hb hts iX5 hown hk.1 hP 0 (wC_0 _ _ _ _) rfl 0 (by decide) (hts (.fieldLink RX5 20 "BottleLoop" "now" "LBottleLoop$State;") (List.mem_of_getElem? (i := 3) rfl)) (fun _ h9 => h9) rfl dX5_set_58 ?_
      refine lv_iload_n hx hb dX5_set_61 rfl (lv_at hl 1 rfl) ?_
      refine bcall_Ri (va_runVN (As := [.int a1]) (rest := []) ⟨hx, hb, hml, hown, hts⟩ (C2_ofSetting l D cI cO q _ _ hP a1) ⟨va_cnB 1 hts gX5_set_X2_ofSetting_n94 rfl rfl rfl (hk.2 (.methodLinkNest RX5 94 yX2_ofSetting RX5) (List.mem_of_getElem? (i := 15) rfl)) (hts (.initialized RX2) (List.mem_of_getElem? (i := 23) rfl)) bd_X2ofSetting ⟨Nat.le_of_ble_eq_true rfl, Nat.le_of_ble_eq_true rfl⟩, (hts (.instanceMethod yX2_ofSetting) (List.mem_of_getElem? (i := 54) rfl)), (hts (.selects RX2 yX2_ofSetting yX2_ofSetting) (List.mem_of_getElem? (i := 55) rfl))⟩ (bPV hk (va_recv hk.1 hP (ci := 2) (q0 := 3) rfl (wC_3 _ _ _ _))) rfl rfl hl.1 rfl (lv_room (Nat.le_of_ble_eq_true rfl)) dX5_set_62 ⟨Nat.zero_le _, Nat.zero_le _⟩) hS (fun locs hS => ?_)
      refine lv_istore_n (lv' := [(3, .int (F2_ofSetting (F1_keep u) a1)), (0, .ref (q 0)), (1, .int a1), (2, .int a2)]) hx hb dX5_set_65 rfl hl (by decide) rfl (fun ls hl => ?_)
      refine lv_aload_n hx hb dX5_set_66 rfl (lv_at hl 1 rfl) ?_
      refine va_get (D := D) (ci := 5) (C := RX5) (T := TX5) (N := 5) hx hb hts iX5 hown hk.1 hP 0 (wC_0 _ _ _ _) rfl 0 (by decide) (hts (.fieldLink RX5 20 "BottleLoop" "now" "LBottleLoop$State;") (List.mem_of_getElem? (i := 3) rfl)) (fun _ h9 => h9) rfl dX5_set_67 ?_
      refine lv_iload_n hx hb dX5_set_70 rfl (lv_at hl 2 rfl) ?_
      refine lv_iload_n hx hb dX5_set_71 rfl (lv_at hl 3 rfl) ?_
      refine bcall_Wv (va_runVN (As := [.int a1, .int a2]) (rest := []) ⟨hx, hb, hml, hown, hts⟩ (C2_putSetting l D cI cO q _ _ hq hP a1 a2) ⟨va_cnB 2 hts gX5_set_X2_putSetting_n97 rfl rfl rfl (hk.2 (.methodLinkNest RX5 97 yX2_putSetting RX5) (List.mem_of_getElem? (i := 16) rfl)) (hts (.initialized RX2) (List.mem_of_getElem? (i := 23) rfl)) bd_X2putSetting ⟨Nat.le_of_ble_eq_true rfl, Nat.le_of_ble_eq_true rfl⟩, (hts (.instanceMethod yX2_putSetting) (List.mem_of_getElem? (i := 57) rfl)), (hts (.selects RX2 yX2_putSetting yX2_putSetting) (List.mem_of_getElem? (i := 58) rfl))⟩ (bPV hk (va_recv hk.1 hP (ci := 2) (q0 := 3) rfl (wC_3 _ _ _ _))) rfl rfl hl.1 rfl (lv_room (Nat.le_of_ble_eq_true rfl)) dX5_set_72 ⟨Nat.zero_le _, Nat.zero_le _⟩) hS (fun H locs hP _ hS => ?_)
      refine lv_iload_n hx hb dX5_set_75 rfl (lv_at hl 0 rfl) ?_
      exact bret_Yi hx hb hr hP hS hlocks dX5_set_76 (by rw [← hF, F5_set, if_pos c_1, if_pos c_2, if_neg c_3, if_pos c_4])

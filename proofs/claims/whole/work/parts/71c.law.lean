-- the calls, on (by program)
theorem bd_Lbrand : yL_brand.cls ≠ "java/lang/invoke/MethodHandle" ∧ yL_brand.cls ≠ "java/lang/invoke/VarHandle" ∧ (parseMethodDescriptor yL_brand.desc).map (fun d => d.parameters.length) = some 4 := by decide +kernel
theorem bd_Lcount : yL_count.cls ≠ "java/lang/invoke/MethodHandle" ∧ yL_count.cls ≠ "java/lang/invoke/VarHandle" ∧ (parseMethodDescriptor yL_count.desc).map (fun d => d.parameters.length) = some 3 := by decide +kernel
theorem bd_Lrun : yL_run.cls ≠ "java/lang/invoke/MethodHandle" ∧ yL_run.cls ≠ "java/lang/invoke/VarHandle" ∧ (parseMethodDescriptor yL_run.desc).map (fun d => d.parameters.length) = some 2 := by decide +kernel
theorem bd_Lsetting : yL_setting.cls ≠ "java/lang/invoke/MethodHandle" ∧ yL_setting.cls ≠ "java/lang/invoke/VarHandle" ∧ (parseMethodDescriptor yL_setting.desc).map (fun d => d.parameters.length) = some 3 := by decide +kernel
theorem bd_Lshop : yL_shop.cls ≠ "java/lang/invoke/MethodHandle" ∧ yL_shop.cls ≠ "java/lang/invoke/VarHandle" ∧ (parseMethodDescriptor yL_shop.desc).map (fun d => d.parameters.length) = some 4 := by decide +kernel
theorem bd_Lundo : yL_undo.cls ≠ "java/lang/invoke/MethodHandle" ∧ yL_undo.cls ≠ "java/lang/invoke/VarHandle" ∧ (parseMethodDescriptor yL_undo.desc).map (fun d => d.parameters.length) = some 2 := by decide +kernel
theorem bd_LwhyNotDeliver : yL_whyNotDeliver.cls ≠ "java/lang/invoke/MethodHandle" ∧ yL_whyNotDeliver.cls ≠ "java/lang/invoke/VarHandle" ∧ (parseMethodDescriptor yL_whyNotDeliver.desc).map (fun d => d.parameters.length) = some 5 := by decide +kernel
theorem bd_X6brand : yX6_brand.cls ≠ "java/lang/invoke/MethodHandle" ∧ yX6_brand.cls ≠ "java/lang/invoke/VarHandle" ∧ (parseMethodDescriptor yX6_brand.desc).map (fun d => d.parameters.length) = some 2 := by decide +kernel
theorem bd_X6count : yX6_count.cls ≠ "java/lang/invoke/MethodHandle" ∧ yX6_count.cls ≠ "java/lang/invoke/VarHandle" ∧ (parseMethodDescriptor yX6_count.desc).map (fun d => d.parameters.length) = some 1 := by decide +kernel
theorem bd_X6run : yX6_run.cls ≠ "java/lang/invoke/MethodHandle" ∧ yX6_run.cls ≠ "java/lang/invoke/VarHandle" ∧ (parseMethodDescriptor yX6_run.desc).map (fun d => d.parameters.length) = some 0 := by decide +kernel
theorem bd_X6setting : yX6_setting.cls ≠ "java/lang/invoke/MethodHandle" ∧ yX6_setting.cls ≠ "java/lang/invoke/VarHandle" ∧ (parseMethodDescriptor yX6_setting.desc).map (fun d => d.parameters.length) = some 1 := by decide +kernel
theorem bd_X6shop : yX6_shop.cls ≠ "java/lang/invoke/MethodHandle" ∧ yX6_shop.cls ≠ "java/lang/invoke/VarHandle" ∧ (parseMethodDescriptor yX6_shop.desc).map (fun d => d.parameters.length) = some 2 := by decide +kernel
theorem bd_X6undo : yX6_undo.cls ≠ "java/lang/invoke/MethodHandle" ∧ yX6_undo.cls ≠ "java/lang/invoke/VarHandle" ∧ (parseMethodDescriptor yX6_undo.desc).map (fun d => d.parameters.length) = some 0 := by decide +kernel
theorem bd_X6whyNotDeliver : yX6_whyNotDeliver.cls ≠ "java/lang/invoke/MethodHandle" ∧ yX6_whyNotDeliver.cls ≠ "java/lang/invoke/VarHandle" ∧ (parseMethodDescriptor yX6_whyNotDeliver.desc).map (fun d => d.parameters.length) = some 3 := by decide +kernel
set_option maxHeartbeats 4000000 in
set_option maxRecDepth 100000 in
theorem LC_16 {p : Program} {e : Env} {s : State} {m : MethodId} {below : List Frame} {meth : Method} {c : Code} {l : Launch} {b L : Nat} {xs : Nat → Int32} {D : va_G} {cI cO cL : ClassId} {qc qm : Nat → Nat} (hl9 : l.stackTraces = false) (C0 : lw_At p s m meth c b L xs) (hk : bK D [(cI, .int), (cO, .object RX2)] s) (hX : bXe (fun q : Nat => s.heap.size ≤ q) s s.heap) (hKL : va_K D vwCl [(cL, .long)] s) (hN : bNC s) (hq : bInj 24 qc) (hqm : bInj 7 qm) (hqq : ∀ i j : Nat, i < 24 → j < 7 → qc i ≠ qm j) (hgc : ∀ i : Nat, i < 24 → s.heap.size ≤ qc i) (hgm : ∀ j : Nat, j < 7 → s.heap.size ≤ qm j) {B : Nat} (hB : B + 2600000 < 2000000000) (hB0 : 100000 ≤ B) {a bb : bU} {g : Nat → Int64} (hR : Rel B a bb) (hI : mInv bb) {i : Nat} (hi : i + 4 ≤ L) (hL : L ≤ 2048) {H : Heap} {locs : List Loc} (hPC : va_P D vwCl (wCo cI cO cL qc a g) H) (hPM : va_P D vwCl (wM cI qm bb) H) (hS : va_S (fun q : Nat => s.heap.size ≤ q) s.heap H locs) {ls : Array Slot} (hl : lv_has ls 9 [(0, .ref b), (1, .ref (qc 0)), (2, .ref (qm 0)), (3, .ref (qc 23)), (4, .int (nI i))]) {C S : Nat} (hC : C + 5 ≤ 601024) (hSl : S + 30 ≤ 7293034) {Q : State → Prop} (kk : ∀ (a2 b2 : bU) (g2 : Nat → Int64) (H2 : Heap) (locs2 : List Loc) (ls2 : Array Slot), Rel (B + 2600000) a2 b2 → mInv b2 → va_P D vwCl (wCo cI cO cL qc a2 g2) H2 → va_P D vwCl (wM cI qm b2) H2 → va_S (fun q : Nat => s.heap.size ≤ q) s.heap H2 locs2 → lv_has ls2 9 [(0, .ref b), (1, .ref (qc 0)), (2, .ref (qm 0)), (3, .ref (qc 23)), (4, .int (nI i))] → W p l e room_1 s m #[Value.ref b] below meth c H2 locs2 (C + 5) (S + 30) Q (F0 m 2009 ls2 [])) : W p l e room_1 s m #[Value.ref b] below meth c H locs C S Q (F0 m 1186 ls []) := by
  obtain ⟨hx, hb, hr, hml, hown, hts0, hXs, hbl, hlocks, hgv⟩ := C0
  have hts : ∀ w ∈ wsL_law, w.before #[Value.ref b] s = true := fun w h => hts0 w (wsL_law_in w h)
  have hbA : ¬ (fun q : Nat => s.heap.size ≤ q) b := Nat.not_le.mpr hbl
  have hk6 : bK D [(cI, .int)] s := ⟨va_K.sub hk.1 [0] rfl, hk.2⟩
  refine lv_aload_n hx hb dL_law_1186 rfl (lv_at hl 1 rfl) ?_
  refine lv_aload_n hx hb dL_law_1187 rfl (lv_at hl 3 rfl) ?_
  have hAB : ∀ x : Nat, bA 24 qc H.size x → s.heap.size ≤ x := fun x hx9 => hx9.elim (fun ⟨k9, h9, e9⟩ => e9 ▸ hgc k9 h9) (fun h9 => Nat.le_trans hS.1 h9)
  refine va_calli (vx_runSW (As := [.ref (qc 0), .ref (qc 23)]) (rest := []) ⟨hx, hb, hml, hown, hts⟩ (CL_run l D cI cO cL qc a g H hq hl9 hPC (lat_of hR) (len_of hR)) (vx_cwSW 2 hts gL_law_L_run rfl rfl rfl bd_Lrun ⟨Nat.le_of_ble_eq_true rfl, Nat.le_of_ble_eq_true rfl⟩) (bPSL hk hX hKL hN hS hAB) rfl rfl hl.1 rfl (lv_room (Nat.le_of_ble_eq_true rfl)) dL_law_1188 ⟨by show _ ≤ 601024; omega, by show _ ≤ 7293034; omega⟩) hS (fun x _ h => hAB x h) hAB (fun r g1 t H1 locs ht _ hw hB1 hz1 hk1 hS => ?_)
  rw [ht] at hB1
  clear ht
  have hPM := wM_k hPM hk1 hqq hqm
  refine W.widen (k := C + 5) (n := S + 30) (by omega) (by omega) ?_
  refine lv_istore (lv' := [(5, .int r), (0, .ref b), (1, .ref (qc 0)), (2, .ref (qm 0)), (3, .ref (qc 23)), (4, .int (nI i))]) hx hb dL_law_1191 hl (by decide) rfl (fun ls hl => ?_)
  refine lv_aload_n hx hb dL_law_1193 rfl (lv_at hl 3 rfl) ?_
  obtain ⟨hsim, hx_rd, hx_run⟩ := st_run hB hR
  have hAM : ∀ x : Nat, bA 7 qm H1.size x → s.heap.size ≤ x := fun x hx9 => hx9.elim (fun ⟨k9, h9, e9⟩ => e9 ▸ hgm k9 h9) (fun h9 => Nat.le_trans hS.1 h9)
  refine va_calli (va_runV (As := []) (rest := []) ⟨hx, hb, hml, hown, hts⟩ (C6_run l D cI qm bb H1 hqm hPM hI hx_rd hx_run) (cwV 0 hts gL_law_X6_run rfl rfl rfl ⟨rfl, bd_X6run⟩ ⟨Nat.le_of_ble_eq_true rfl, Nat.le_of_ble_eq_true rfl⟩) (bPV hk6 (va_recv hk6.1 hPM (ci := 6) (q0 := 0) rfl (wM_0 _ _ _))) rfl rfl hl.1 rfl (lv_room (Nat.le_of_ble_eq_true rfl)) dL_law_1194 ⟨by show _ ≤ 601024; omega, by show _ ≤ 7293034; omega⟩) hS (fun x _ h => hAM x h) hAM (fun y b2 t H2 locs ht _ hw2 hB2 hz2 hk2 hS => ?_)
  rw [ht] at hB2
  clear ht
  obtain rfl : y = (F6_run bb).1 := by rw [← hw2]
  obtain rfl : b2 = (F6_run bb).2 := by rw [← hw2]
  obtain ⟨hPM2, hI2⟩ := hB2
  have hPC2 := wCo_m hB1 hk2 hqq hq
  refine lv_istore (lv' := [(6, .int (F6_run bb).1), (5, .int r), (0, .ref b), (1, .ref (qc 0)), (2, .ref (qm 0)), (3, .ref (qc 23)), (4, .int (nI i))]) hx hb dL_law_1197 hl (by decide) rfl (fun ls hl => ?_)
  refine lv_aload_n hx hb dL_law_1199 rfl (lv_at hl 4 rfl) ?_
  refine bcall_Ri (va_runV (As := []) (rest := []) ⟨hx, hb, hml, hown, hts⟩ (C6_thrown l D cI qm _ _ hPM2 hI2) (cwV 0 hts gL_law_X6_thrown rfl rfl rfl ⟨rfl, bd_X6thrown⟩ ⟨Nat.le_of_ble_eq_true rfl, Nat.le_of_ble_eq_true rfl⟩) (bPV hk6 (va_recv hk6.1 hPM2 (ci := 6) (q0 := 0) rfl (wM_0 _ _ _))) rfl rfl hl.1 rfl (lv_room (Nat.le_of_ble_eq_true rfl)) dL_law_1200 ⟨by show _ ≤ 601024; omega, by show _ ≤ 7293034; omega⟩) hS (fun locs hS => ?_)
  refine lv_iload hx hb dL_law_1203 (lv_at hl 1 rfl) ?_
  refine lv_icmp_eq (tgt := 1210) hx hb dL_law_1205 (by decide) (fun _ => ?_) (fun c9 => absurd (hsim.1.trans hw.1.symm) c9)
  refine lv_iload hx hb dL_law_1210 (lv_at hl 1 rfl) ?_
  refine lv_if_ne (tgt := 1227) hx hb dL_law_1212 (by decide) (fun c9 => ?_) (fun c9 => ?_)
  · refine lv_goto (tgt := 2009) hx hb dL_law_1227 (by decide) ?_
    refine W.widen (k := C + 5) (n := S + 30) (by omega) (by omega) ?_
    exact kk _ _ _ _ _ _ (Rel_up hsim.2.2 (by omega)) hI2 hPC2 hPM2 hS (lv_sub hl [2, 3, 4, 5, 6] rfl)
  · refine lv_aload_n hx hb dL_law_1215 rfl (lv_at hl 5 rfl) ?_
    refine lv_iconst (v := 0) hx hb dL_law_1216 (by decide) ?_
    refine va_lald hx hb hKL hPC2 23 0 rfl rfl (vp_in_nI (n := 0) (by decide) (by decide)) dL_law_1217 ?_
    refine lv_iload hx hb dL_law_1218 (lv_at hl 0 rfl) ?_
    refine lv_i2l (v := ((F6_run bb).1).toInt64) hx hb dL_law_1220 rfl ?_
    refine W.lcmp hx hb dL_law_1221 ?_
    have hv0 : (F5_run a).1 = 0 := cdC_0 (hw.1.symm.trans c9)
    rw [show (0 : Int32).toNatClampNeg = 0 from by decide, lg_cmp_same ((hw.2 hv0).trans (congrArg Int32.toInt64 (hsim.2.1 hv0)))]
    refine lv_if_eq (tgt := 1227) hx hb dL_law_1222 (by decide) (fun _ => ?_) (fun h9 => absurd rfl h9)
    refine lv_goto (tgt := 2009) hx hb dL_law_1227 (by decide) ?_
    refine W.widen (k := C + 5) (n := S + 30) (by omega) (by omega) ?_
    exact kk _ _ _ _ _ _ (Rel_up hsim.2.2 (by omega)) hI2 hPC2 hPM2 hS (lv_sub hl [2, 3, 4, 5, 6] rfl)
set_option maxHeartbeats 4000000 in
set_option maxRecDepth 100000 in
theorem LC_17 {p : Program} {e : Env} {s : State} {m : MethodId} {below : List Frame} {meth : Method} {c : Code} {l : Launch} {b L : Nat} {xs : Nat → Int32} {D : va_G} {cI cO cL : ClassId} {qc qm : Nat → Nat} (hl9 : l.stackTraces = false) (C0 : lw_At p s m meth c b L xs) (hk : bK D [(cI, .int), (cO, .object RX2)] s) (hX : bXe (fun q : Nat => s.heap.size ≤ q) s s.heap) (hKL : va_K D vwCl [(cL, .long)] s) (hN : bNC s) (hq : bInj 24 qc) (hqm : bInj 7 qm) (hqq : ∀ i j : Nat, i < 24 → j < 7 → qc i ≠ qm j) (hgc : ∀ i : Nat, i < 24 → s.heap.size ≤ qc i) (hgm : ∀ j : Nat, j < 7 → s.heap.size ≤ qm j) {B : Nat} (hB : B + 2600000 < 2000000000) (hB0 : 100000 ≤ B) {a bb : bU} {g : Nat → Int64} (hR : Rel B a bb) (hI : mInv bb) {i : Nat} (hi : i + 4 ≤ L) (hL : L ≤ 2048) {H : Heap} {locs : List Loc} (hPC : va_P D vwCl (wCo cI cO cL qc a g) H) (hPM : va_P D vwCl (wM cI qm bb) H) (hS : va_S (fun q : Nat => s.heap.size ≤ q) s.heap H locs) {ls : Array Slot} (hl : lv_has ls 9 [(0, .ref b), (1, .ref (qc 0)), (2, .ref (qm 0)), (3, .ref (qc 23)), (4, .int (nI i))]) {C S : Nat} (hC : C + 5 ≤ 601024) (hSl : S + 30 ≤ 7293034) {Q : State → Prop} (kk : ∀ (a2 b2 : bU) (g2 : Nat → Int64) (H2 : Heap) (locs2 : List Loc) (ls2 : Array Slot), Rel (B + 2600000) a2 b2 → mInv b2 → va_P D vwCl (wCo cI cO cL qc a2 g2) H2 → va_P D vwCl (wM cI qm b2) H2 → va_S (fun q : Nat => s.heap.size ≤ q) s.heap H2 locs2 → lv_has ls2 9 [(0, .ref b), (1, .ref (qc 0)), (2, .ref (qm 0)), (3, .ref (qc 23)), (4, .int (nI i))] → W p l e room_1 s m #[Value.ref b] below meth c H2 locs2 (C + 5) (S + 30) Q (F0 m 2009 ls2 [])) : W p l e room_1 s m #[Value.ref b] below meth c H locs C S Q (F0 m 1230 ls []) := by
  obtain ⟨hx, hb, hr, hml, hown, hts0, hXs, hbl, hlocks, hgv⟩ := C0
  have hts : ∀ w ∈ wsL_law, w.before #[Value.ref b] s = true := fun w h => hts0 w (wsL_law_in w h)
  have hbA : ¬ (fun q : Nat => s.heap.size ≤ q) b := Nat.not_le.mpr hbl
  have hk6 : bK D [(cI, .int)] s := ⟨va_K.sub hk.1 [0] rfl, hk.2⟩
  refine lv_aload_n hx hb dL_law_1230 rfl (lv_at hl 1 rfl) ?_
  refine lv_aload_n hx hb dL_law_1231 rfl (lv_at hl 3 rfl) ?_
  have hAB : ∀ x : Nat, bA 24 qc H.size x → s.heap.size ≤ x := fun x hx9 => hx9.elim (fun ⟨k9, h9, e9⟩ => e9 ▸ hgc k9 h9) (fun h9 => Nat.le_trans hS.1 h9)
  refine va_calli (vx_runSW (As := [.ref (qc 0), .ref (qc 23)]) (rest := []) ⟨hx, hb, hml, hown, hts⟩ (CL_undo l D cI cO cL qc a g H hq hl9 hPC (lat_of hR)) (vx_cwSW 2 hts gL_law_L_undo rfl rfl rfl bd_Lundo ⟨Nat.le_of_ble_eq_true rfl, Nat.le_of_ble_eq_true rfl⟩) (bPSL hk hX hKL hN hS hAB) rfl rfl hl.1 rfl (lv_room (Nat.le_of_ble_eq_true rfl)) dL_law_1232 ⟨by show _ ≤ 601024; omega, by show _ ≤ 7293034; omega⟩) hS (fun x _ h => hAB x h) hAB (fun r g1 t H1 locs ht _ hw hB1 hz1 hk1 hS => ?_)
  rw [ht] at hB1
  clear ht
  have hPM := wM_k hPM hk1 hqq hqm
  refine W.widen (k := C + 5) (n := S + 30) (by omega) (by omega) ?_
  refine lv_istore (lv' := [(5, .int r), (0, .ref b), (1, .ref (qc 0)), (2, .ref (qm 0)), (3, .ref (qc 23)), (4, .int (nI i))]) hx hb dL_law_1235 hl (by decide) rfl (fun ls hl => ?_)
  refine lv_aload_n hx hb dL_law_1237 rfl (lv_at hl 3 rfl) ?_
  have hsim := st_undo hR
  have hAM : ∀ x : Nat, bA 7 qm H1.size x → s.heap.size ≤ x := fun x hx9 => hx9.elim (fun ⟨k9, h9, e9⟩ => e9 ▸ hgm k9 h9) (fun h9 => Nat.le_trans hS.1 h9)
  refine va_calli (va_runV (As := []) (rest := []) ⟨hx, hb, hml, hown, hts⟩ (C6_undo l D cI qm bb H1 hqm hPM hI) (cwV 0 hts gL_law_X6_undo rfl rfl rfl ⟨rfl, bd_X6undo⟩ ⟨Nat.le_of_ble_eq_true rfl, Nat.le_of_ble_eq_true rfl⟩) (bPV hk6 (va_recv hk6.1 hPM (ci := 6) (q0 := 0) rfl (wM_0 _ _ _))) rfl rfl hl.1 rfl (lv_room (Nat.le_of_ble_eq_true rfl)) dL_law_1238 ⟨by show _ ≤ 601024; omega, by show _ ≤ 7293034; omega⟩) hS (fun x _ h => hAM x h) hAM (fun y b2 t H2 locs ht _ hw2 hB2 hz2 hk2 hS => ?_)
  rw [ht] at hB2
  clear ht
  obtain rfl : y = (F6_undo bb).1 := by rw [← hw2]
  obtain rfl : b2 = (F6_undo bb).2 := by rw [← hw2]
  obtain ⟨hPM2, hI2⟩ := hB2
  have hPC2 := wCo_m hB1 hk2 hqq hq
  refine lv_istore (lv' := [(6, .int (F6_undo bb).1), (5, .int r), (0, .ref b), (1, .ref (qc 0)), (2, .ref (qm 0)), (3, .ref (qc 23)), (4, .int (nI i))]) hx hb dL_law_1241 hl (by decide) rfl (fun ls hl => ?_)
  refine lv_aload_n hx hb dL_law_1243 rfl (lv_at hl 4 rfl) ?_
  refine bcall_Ri (va_runV (As := []) (rest := []) ⟨hx, hb, hml, hown, hts⟩ (C6_thrown l D cI qm _ _ hPM2 hI2) (cwV 0 hts gL_law_X6_thrown rfl rfl rfl ⟨rfl, bd_X6thrown⟩ ⟨Nat.le_of_ble_eq_true rfl, Nat.le_of_ble_eq_true rfl⟩) (bPV hk6 (va_recv hk6.1 hPM2 (ci := 6) (q0 := 0) rfl (wM_0 _ _ _))) rfl rfl hl.1 rfl (lv_room (Nat.le_of_ble_eq_true rfl)) dL_law_1244 ⟨by show _ ≤ 601024; omega, by show _ ≤ 7293034; omega⟩) hS (fun locs hS => ?_)
  refine lv_iload hx hb dL_law_1247 (lv_at hl 1 rfl) ?_
  refine lv_icmp_eq (tgt := 1254) hx hb dL_law_1249 (by decide) (fun _ => ?_) (fun c9 => absurd (hsim.1.trans hw.1.symm) c9)
  refine lv_iload hx hb dL_law_1254 (lv_at hl 1 rfl) ?_
  refine lv_if_ne (tgt := 1271) hx hb dL_law_1256 (by decide) (fun c9 => ?_) (fun c9 => ?_)
  · refine lv_goto (tgt := 2009) hx hb dL_law_1271 (by decide) ?_
    refine W.widen (k := C + 5) (n := S + 30) (by omega) (by omega) ?_
    exact kk _ _ _ _ _ _ (Rel_up hsim.2.2 (by omega)) hI2 hPC2 hPM2 hS (lv_sub hl [2, 3, 4, 5, 6] rfl)
  · refine lv_aload_n hx hb dL_law_1259 rfl (lv_at hl 5 rfl) ?_
    refine lv_iconst (v := 0) hx hb dL_law_1260 (by decide) ?_
    refine va_lald hx hb hKL hPC2 23 0 rfl rfl (vp_in_nI (n := 0) (by decide) (by decide)) dL_law_1261 ?_
    refine lv_iload hx hb dL_law_1262 (lv_at hl 0 rfl) ?_
    refine lv_i2l (v := ((F6_undo bb).1).toInt64) hx hb dL_law_1264 rfl ?_
    refine W.lcmp hx hb dL_law_1265 ?_
    have hv0 : (F5_undo a).1 = 0 := cdC_0 (hw.1.symm.trans c9)
    rw [show (0 : Int32).toNatClampNeg = 0 from by decide, lg_cmp_same ((hw.2 hv0).trans (congrArg Int32.toInt64 (hsim.2.1 hv0)))]
    refine lv_if_eq (tgt := 1271) hx hb dL_law_1266 (by decide) (fun _ => ?_) (fun h9 => absurd rfl h9)
    refine lv_goto (tgt := 2009) hx hb dL_law_1271 (by decide) ?_
    refine W.widen (k := C + 5) (n := S + 30) (by omega) (by omega) ?_
    exact kk _ _ _ _ _ _ (Rel_up hsim.2.2 (by omega)) hI2 hPC2 hPM2 hS (lv_sub hl [2, 3, 4, 5, 6] rfl)
set_option maxHeartbeats 4000000 in
set_option maxRecDepth 100000 in
theorem LC_18 {p : Program} {e : Env} {s : State} {m : MethodId} {below : List Frame} {meth : Method} {c : Code} {l : Launch} {b L : Nat} {xs : Nat → Int32} {D : va_G} {cI cO cL : ClassId} {qc qm : Nat → Nat} (hl9 : l.stackTraces = false) (C0 : lw_At p s m meth c b L xs) (hk : bK D [(cI, .int), (cO, .object RX2)] s) (hX : bXe (fun q : Nat => s.heap.size ≤ q) s s.heap) (hKL : va_K D vwCl [(cL, .long)] s) (hN : bNC s) (hq : bInj 24 qc) (hqm : bInj 7 qm) (hqq : ∀ i j : Nat, i < 24 → j < 7 → qc i ≠ qm j) (hgc : ∀ i : Nat, i < 24 → s.heap.size ≤ qc i) (hgm : ∀ j : Nat, j < 7 → s.heap.size ≤ qm j) {B : Nat} (hB : B + 2600000 < 2000000000) (hB0 : 100000 ≤ B) {a bb : bU} {g : Nat → Int64} (hR : Rel B a bb) (hI : mInv bb) {i : Nat} (hi : i + 4 ≤ L) (hL : L ≤ 2048) {H : Heap} {locs : List Loc} (hPC : va_P D vwCl (wCo cI cO cL qc a g) H) (hPM : va_P D vwCl (wM cI qm bb) H) (hS : va_S (fun q : Nat => s.heap.size ≤ q) s.heap H locs) {ls : Array Slot} (hl : lv_has ls 9 [(0, .ref b), (1, .ref (qc 0)), (2, .ref (qm 0)), (3, .ref (qc 23)), (4, .int (nI i))]) {C S : Nat} (hC : C + 5 ≤ 601024) (hSl : S + 30 ≤ 7293034) {Q : State → Prop} (kk : ∀ (a2 b2 : bU) (g2 : Nat → Int64) (H2 : Heap) (locs2 : List Loc) (ls2 : Array Slot), Rel (B + 2600000) a2 b2 → mInv b2 → va_P D vwCl (wCo cI cO cL qc a2 g2) H2 → va_P D vwCl (wM cI qm b2) H2 → va_S (fun q : Nat => s.heap.size ≤ q) s.heap H2 locs2 → lv_has ls2 9 [(0, .ref b), (1, .ref (qc 0)), (2, .ref (qm 0)), (3, .ref (qc 23)), (4, .int (nI i))] → W p l e room_1 s m #[Value.ref b] below meth c H2 locs2 (C + 5) (S + 30) Q (F0 m 2009 ls2 [])) : W p l e room_1 s m #[Value.ref b] below meth c H locs C S Q (F0 m 1274 ls []) := by
  obtain ⟨hx, hb, hr, hml, hown, hts0, hXs, hbl, hlocks, hgv⟩ := C0
  have hts : ∀ w ∈ wsL_law, w.before #[Value.ref b] s = true := fun w h => hts0 w (wsL_law_in w h)
  have hbA : ¬ (fun q : Nat => s.heap.size ≤ q) b := Nat.not_le.mpr hbl
  have hk6 : bK D [(cI, .int)] s := ⟨va_K.sub hk.1 [0] rfl, hk.2⟩
  refine lv_aload_n hx hb dL_law_1274 rfl (lv_at hl 1 rfl) ?_
  refine lv_aload_n hx hb dL_law_1275 rfl (lv_at hl 0 rfl) ?_
  refine lv_iload hx hb dL_law_1276 (lv_at hl 4 rfl) ?_
  refine lv_iconst (v := 1) hx hb dL_law_1278 (by decide) ?_
  refine lv_iadd hx hb dL_law_1279 ?_
  refine lv_topi (fun z9 hz9 => ?_)
  obtain rfl : z9 = nI (i + 1) := hz9.trans (nI_add i 1)
  refine va_sld hx hb hXs hbl hbA hS (vp_in_nI (by omega) (by omega)) dL_law_1280 ?_
  refine lv_aload_n hx hb dL_law_1281 rfl (lv_at hl 0 rfl) ?_
  refine lv_iload hx hb dL_law_1282 (lv_at hl 4 rfl) ?_
  refine lv_iconst (v := 2) hx hb dL_law_1284 (by decide) ?_
  refine lv_iadd hx hb dL_law_1285 ?_
  refine lv_topi (fun z9 hz9 => ?_)
  obtain rfl : z9 = nI (i + 2) := hz9.trans (nI_add i 2)
  refine va_sld hx hb hXs hbl hbA hS (vp_in_nI (by omega) (by omega)) dL_law_1286 ?_
  refine lv_aload_n hx hb dL_law_1287 rfl (lv_at hl 3 rfl) ?_
  have hAB : ∀ x : Nat, bA 24 qc H.size x → s.heap.size ≤ x := fun x hx9 => hx9.elim (fun ⟨k9, h9, e9⟩ => e9 ▸ hgc k9 h9) (fun h9 => Nat.le_trans hS.1 h9)
  refine va_calli (vx_runSW (As := [.ref (qc 0), .int (xs (nI (i + 1)).toNatClampNeg), .int (xs (nI (i + 2)).toNatClampNeg), .ref (qc 23)]) (rest := []) ⟨hx, hb, hml, hown, hts⟩ (CL_brand l D cI cO cL qc a g H hq hl9 hPC (xs (nI (i + 1)).toNatClampNeg) (xs (nI (i + 2)).toNatClampNeg)) (vx_cwSW 4 hts gL_law_L_brand rfl rfl rfl bd_Lbrand ⟨Nat.le_of_ble_eq_true rfl, Nat.le_of_ble_eq_true rfl⟩) (bPSL hk hX hKL hN hS hAB) rfl rfl hl.1 rfl (lv_room (Nat.le_of_ble_eq_true rfl)) dL_law_1288 ⟨by show _ ≤ 601024; omega, by show _ ≤ 7293034; omega⟩) hS (fun x _ h => hAB x h) hAB (fun r g1 t H1 locs ht _ hw hB1 hz1 hk1 hS => ?_)
  rw [ht] at hB1
  clear ht
  have hPM := wM_k hPM hk1 hqq hqm
  refine W.widen (k := C + 5) (n := S + 30) (by omega) (by omega) ?_
  refine lv_istore (lv' := [(5, .int r), (0, .ref b), (1, .ref (qc 0)), (2, .ref (qm 0)), (3, .ref (qc 23)), (4, .int (nI i))]) hx hb dL_law_1291 hl (by decide) rfl (fun ls hl => ?_)
  refine lv_aload_n hx hb dL_law_1293 rfl (lv_at hl 3 rfl) ?_
  refine lv_aload_n hx hb dL_law_1294 rfl (lv_at hl 1 rfl) ?_
  refine lv_iload hx hb dL_law_1295 (lv_at hl 5 rfl) ?_
  refine lv_iconst (v := 1) hx hb dL_law_1297 (by decide) ?_
  refine lv_iadd hx hb dL_law_1298 ?_
  refine lv_topi (fun z9 hz9 => ?_)
  obtain rfl : z9 = nI (i + 1) := hz9.trans (nI_add i 1)
  refine va_sld hx hb hXs hbl hbA hS (vp_in_nI (by omega) (by omega)) dL_law_1299 ?_
  refine lv_aload_n hx hb dL_law_1300 rfl (lv_at hl 1 rfl) ?_
  refine lv_iload hx hb dL_law_1301 (lv_at hl 5 rfl) ?_
  refine lv_iconst (v := 2) hx hb dL_law_1303 (by decide) ?_
  refine lv_iadd hx hb dL_law_1304 ?_
  refine lv_topi (fun z9 hz9 => ?_)
  obtain rfl : z9 = nI (i + 2) := hz9.trans (nI_add i 2)
  refine va_sld hx hb hXs hbl hbA hS (vp_in_nI (by omega) (by omega)) dL_law_1305 ?_
  have hsim := st_brand hR (xs (nI (i + 1)).toNatClampNeg) (xs (nI (i + 2)).toNatClampNeg)
  have hAM : ∀ x : Nat, bA 7 qm H1.size x → s.heap.size ≤ x := fun x hx9 => hx9.elim (fun ⟨k9, h9, e9⟩ => e9 ▸ hgm k9 h9) (fun h9 => Nat.le_trans hS.1 h9)
  refine va_calli (va_runV (As := [.int (xs (nI (i + 1)).toNatClampNeg), .int (xs (nI (i + 2)).toNatClampNeg)]) (rest := []) ⟨hx, hb, hml, hown, hts⟩ (C6_brand l D cI qm bb H1 hqm hPM hI (xs (nI (i + 1)).toNatClampNeg) (xs (nI (i + 2)).toNatClampNeg)) (cwV 2 hts gL_law_X6_brand rfl rfl rfl ⟨rfl, bd_X6brand⟩ ⟨Nat.le_of_ble_eq_true rfl, Nat.le_of_ble_eq_true rfl⟩) (bPV hk6 (va_recv hk6.1 hPM (ci := 6) (q0 := 0) rfl (wM_0 _ _ _))) rfl rfl hl.1 rfl (lv_room (Nat.le_of_ble_eq_true rfl)) dL_law_1306 ⟨by show _ ≤ 601024; omega, by show _ ≤ 7293034; omega⟩) hS (fun x _ h => hAM x h) hAM (fun y b2 t H2 locs ht _ hw2 hB2 hz2 hk2 hS => ?_)
  rw [ht] at hB2
  clear ht
  obtain rfl : y = (F6_brand bb (xs (nI (i + 1)).toNatClampNeg) (xs (nI (i + 2)).toNatClampNeg)).1 := by rw [← hw2]
  obtain rfl : b2 = (F6_brand bb (xs (nI (i + 1)).toNatClampNeg) (xs (nI (i + 2)).toNatClampNeg)).2 := by rw [← hw2]
  obtain ⟨hPM2, hI2⟩ := hB2
  have hPC2 := wCo_m hB1 hk2 hqq hq
  refine lv_istore (lv' := [(6, .int (F6_brand bb (xs (nI (i + 1)).toNatClampNeg) (xs (nI (i + 2)).toNatClampNeg)).1), (5, .int r), (0, .ref b), (1, .ref (qc 0)), (2, .ref (qm 0)), (3, .ref (qc 23)), (4, .int (nI i))]) hx hb dL_law_1309 hl (by decide) rfl (fun ls hl => ?_)
  refine lv_aload_n hx hb dL_law_1311 rfl (lv_at hl 4 rfl) ?_
  refine bcall_Ri (va_runV (As := []) (rest := []) ⟨hx, hb, hml, hown, hts⟩ (C6_thrown l D cI qm _ _ hPM2 hI2) (cwV 0 hts gL_law_X6_thrown rfl rfl rfl ⟨rfl, bd_X6thrown⟩ ⟨Nat.le_of_ble_eq_true rfl, Nat.le_of_ble_eq_true rfl⟩) (bPV hk6 (va_recv hk6.1 hPM2 (ci := 6) (q0 := 0) rfl (wM_0 _ _ _))) rfl rfl hl.1 rfl (lv_room (Nat.le_of_ble_eq_true rfl)) dL_law_1312 ⟨by show _ ≤ 601024; omega, by show _ ≤ 7293034; omega⟩) hS (fun locs hS => ?_)
  refine lv_iload hx hb dL_law_1315 (lv_at hl 1 rfl) ?_
  refine lv_icmp_eq (tgt := 1322) hx hb dL_law_1317 (by decide) (fun _ => ?_) (fun c9 => absurd (hsim.1.trans hw.1.symm) c9)
  refine lv_iload hx hb dL_law_1322 (lv_at hl 1 rfl) ?_
  refine lv_if_ne (tgt := 1339) hx hb dL_law_1324 (by decide) (fun c9 => ?_) (fun c9 => ?_)
  · refine lv_goto (tgt := 2009) hx hb dL_law_1339 (by decide) ?_
    refine W.widen (k := C + 5) (n := S + 30) (by omega) (by omega) ?_
    exact kk _ _ _ _ _ _ (Rel_up hsim.2.2 (by omega)) hI2 hPC2 hPM2 hS (lv_sub hl [2, 3, 4, 5, 6] rfl)
  · refine lv_aload_n hx hb dL_law_1327 rfl (lv_at hl 5 rfl) ?_
    refine lv_iconst (v := 0) hx hb dL_law_1328 (by decide) ?_
    refine va_lald hx hb hKL hPC2 23 0 rfl rfl (vp_in_nI (n := 0) (by decide) (by decide)) dL_law_1329 ?_
    refine lv_iload hx hb dL_law_1330 (lv_at hl 0 rfl) ?_
    refine lv_i2l (v := ((F6_brand bb (xs (nI (i + 1)).toNatClampNeg) (xs (nI (i + 2)).toNatClampNeg)).1).toInt64) hx hb dL_law_1332 rfl ?_
    refine W.lcmp hx hb dL_law_1333 ?_
    have hv0 : (F5_brand a (xs (nI (i + 1)).toNatClampNeg) (xs (nI (i + 2)).toNatClampNeg)).1 = 0 := hw.1.symm.trans c9
    rw [show (0 : Int32).toNatClampNeg = 0 from by decide, lg_cmp_same ((hw.2 hv0).trans (congrArg Int32.toInt64 (hsim.2.1 hv0)))]
    refine lv_if_eq (tgt := 1339) hx hb dL_law_1334 (by decide) (fun _ => ?_) (fun h9 => absurd rfl h9)
    refine lv_goto (tgt := 2009) hx hb dL_law_1339 (by decide) ?_
    refine W.widen (k := C + 5) (n := S + 30) (by omega) (by omega) ?_
    exact kk _ _ _ _ _ _ (Rel_up hsim.2.2 (by omega)) hI2 hPC2 hPM2 hS (lv_sub hl [2, 3, 4, 5, 6] rfl)
set_option maxHeartbeats 4000000 in
set_option maxRecDepth 100000 in
theorem LC_19 {p : Program} {e : Env} {s : State} {m : MethodId} {below : List Frame} {meth : Method} {c : Code} {l : Launch} {b L : Nat} {xs : Nat → Int32} {D : va_G} {cI cO cL : ClassId} {qc qm : Nat → Nat} (hl9 : l.stackTraces = false) (C0 : lw_At p s m meth c b L xs) (hk : bK D [(cI, .int), (cO, .object RX2)] s) (hX : bXe (fun q : Nat => s.heap.size ≤ q) s s.heap) (hKL : va_K D vwCl [(cL, .long)] s) (hN : bNC s) (hq : bInj 24 qc) (hqm : bInj 7 qm) (hqq : ∀ i j : Nat, i < 24 → j < 7 → qc i ≠ qm j) (hgc : ∀ i : Nat, i < 24 → s.heap.size ≤ qc i) (hgm : ∀ j : Nat, j < 7 → s.heap.size ≤ qm j) {B : Nat} (hB : B + 2600000 < 2000000000) (hB0 : 100000 ≤ B) {a bb : bU} {g : Nat → Int64} (hR : Rel B a bb) (hI : mInv bb) {i : Nat} (hi : i + 4 ≤ L) (hL : L ≤ 2048) {H : Heap} {locs : List Loc} (hPC : va_P D vwCl (wCo cI cO cL qc a g) H) (hPM : va_P D vwCl (wM cI qm bb) H) (hS : va_S (fun q : Nat => s.heap.size ≤ q) s.heap H locs) {ls : Array Slot} (hl : lv_has ls 9 [(0, .ref b), (1, .ref (qc 0)), (2, .ref (qm 0)), (3, .ref (qc 23)), (4, .int (nI i))]) {C S : Nat} (hC : C + 5 ≤ 601024) (hSl : S + 30 ≤ 7293034) {Q : State → Prop} (kk : ∀ (a2 b2 : bU) (g2 : Nat → Int64) (H2 : Heap) (locs2 : List Loc) (ls2 : Array Slot), Rel (B + 2600000) a2 b2 → mInv b2 → va_P D vwCl (wCo cI cO cL qc a2 g2) H2 → va_P D vwCl (wM cI qm b2) H2 → va_S (fun q : Nat => s.heap.size ≤ q) s.heap H2 locs2 → lv_has ls2 9 [(0, .ref b), (1, .ref (qc 0)), (2, .ref (qm 0)), (3, .ref (qc 23)), (4, .int (nI i))] → W p l e room_1 s m #[Value.ref b] below meth c H2 locs2 (C + 5) (S + 30) Q (F0 m 2009 ls2 [])) : W p l e room_1 s m #[Value.ref b] below meth c H locs C S Q (F0 m 1342 ls []) := by
  obtain ⟨hx, hb, hr, hml, hown, hts0, hXs, hbl, hlocks, hgv⟩ := C0
  have hts : ∀ w ∈ wsL_law, w.before #[Value.ref b] s = true := fun w h => hts0 w (wsL_law_in w h)
  have hbA : ¬ (fun q : Nat => s.heap.size ≤ q) b := Nat.not_le.mpr hbl
  have hk6 : bK D [(cI, .int)] s := ⟨va_K.sub hk.1 [0] rfl, hk.2⟩
  refine lv_aload_n hx hb dL_law_1342 rfl (lv_at hl 1 rfl) ?_
  refine lv_aload_n hx hb dL_law_1343 rfl (lv_at hl 0 rfl) ?_
  refine lv_iload hx hb dL_law_1344 (lv_at hl 4 rfl) ?_
  refine lv_iconst (v := 1) hx hb dL_law_1346 (by decide) ?_
  refine lv_iadd hx hb dL_law_1347 ?_
  refine lv_topi (fun z9 hz9 => ?_)
  obtain rfl : z9 = nI (i + 1) := hz9.trans (nI_add i 1)
  refine va_sld hx hb hXs hbl hbA hS (vp_in_nI (by omega) (by omega)) dL_law_1348 ?_
  refine lv_aload_n hx hb dL_law_1349 rfl (lv_at hl 0 rfl) ?_
  refine lv_iload hx hb dL_law_1350 (lv_at hl 4 rfl) ?_
  refine lv_iconst (v := 2) hx hb dL_law_1352 (by decide) ?_
  refine lv_iadd hx hb dL_law_1353 ?_
  refine lv_topi (fun z9 hz9 => ?_)
  obtain rfl : z9 = nI (i + 2) := hz9.trans (nI_add i 2)
  refine va_sld hx hb hXs hbl hbA hS (vp_in_nI (by omega) (by omega)) dL_law_1354 ?_
  refine lv_aload_n hx hb dL_law_1355 rfl (lv_at hl 3 rfl) ?_
  have hAB : ∀ x : Nat, bA 24 qc H.size x → s.heap.size ≤ x := fun x hx9 => hx9.elim (fun ⟨k9, h9, e9⟩ => e9 ▸ hgc k9 h9) (fun h9 => Nat.le_trans hS.1 h9)
  refine va_calli (vx_runSW (As := [.ref (qc 0), .int (xs (nI (i + 1)).toNatClampNeg), .int (xs (nI (i + 2)).toNatClampNeg), .ref (qc 23)]) (rest := []) ⟨hx, hb, hml, hown, hts⟩ (CL_shop l D cI cO cL qc a g H hq hl9 hPC (xs (nI (i + 1)).toNatClampNeg) (xs (nI (i + 2)).toNatClampNeg)) (vx_cwSW 4 hts gL_law_L_shop rfl rfl rfl bd_Lshop ⟨Nat.le_of_ble_eq_true rfl, Nat.le_of_ble_eq_true rfl⟩) (bPSL hk hX hKL hN hS hAB) rfl rfl hl.1 rfl (lv_room (Nat.le_of_ble_eq_true rfl)) dL_law_1356 ⟨by show _ ≤ 601024; omega, by show _ ≤ 7293034; omega⟩) hS (fun x _ h => hAB x h) hAB (fun r g1 t H1 locs ht _ hw hB1 hz1 hk1 hS => ?_)
  rw [ht] at hB1
  clear ht
  have hPM := wM_k hPM hk1 hqq hqm
  refine W.widen (k := C + 5) (n := S + 30) (by omega) (by omega) ?_
  refine lv_istore (lv' := [(5, .int r), (0, .ref b), (1, .ref (qc 0)), (2, .ref (qm 0)), (3, .ref (qc 23)), (4, .int (nI i))]) hx hb dL_law_1359 hl (by decide) rfl (fun ls hl => ?_)
  refine lv_aload_n hx hb dL_law_1361 rfl (lv_at hl 3 rfl) ?_
  refine lv_aload_n hx hb dL_law_1362 rfl (lv_at hl 1 rfl) ?_
  refine lv_iload hx hb dL_law_1363 (lv_at hl 5 rfl) ?_
  refine lv_iconst (v := 1) hx hb dL_law_1365 (by decide) ?_
  refine lv_iadd hx hb dL_law_1366 ?_
  refine lv_topi (fun z9 hz9 => ?_)
  obtain rfl : z9 = nI (i + 1) := hz9.trans (nI_add i 1)
  refine va_sld hx hb hXs hbl hbA hS (vp_in_nI (by omega) (by omega)) dL_law_1367 ?_
  refine lv_aload_n hx hb dL_law_1368 rfl (lv_at hl 1 rfl) ?_
  refine lv_iload hx hb dL_law_1369 (lv_at hl 5 rfl) ?_
  refine lv_iconst (v := 2) hx hb dL_law_1371 (by decide) ?_
  refine lv_iadd hx hb dL_law_1372 ?_
  refine lv_topi (fun z9 hz9 => ?_)
  obtain rfl : z9 = nI (i + 2) := hz9.trans (nI_add i 2)
  refine va_sld hx hb hXs hbl hbA hS (vp_in_nI (by omega) (by omega)) dL_law_1373 ?_
  have hsim := st_shop hR (xs (nI (i + 1)).toNatClampNeg) (xs (nI (i + 2)).toNatClampNeg)
  have hAM : ∀ x : Nat, bA 7 qm H1.size x → s.heap.size ≤ x := fun x hx9 => hx9.elim (fun ⟨k9, h9, e9⟩ => e9 ▸ hgm k9 h9) (fun h9 => Nat.le_trans hS.1 h9)
  refine va_calli (va_runV (As := [.int (xs (nI (i + 1)).toNatClampNeg), .int (xs (nI (i + 2)).toNatClampNeg)]) (rest := []) ⟨hx, hb, hml, hown, hts⟩ (C6_shop l D cI qm bb H1 hqm hPM hI (xs (nI (i + 1)).toNatClampNeg) (xs (nI (i + 2)).toNatClampNeg)) (cwV 2 hts gL_law_X6_shop rfl rfl rfl ⟨rfl, bd_X6shop⟩ ⟨Nat.le_of_ble_eq_true rfl, Nat.le_of_ble_eq_true rfl⟩) (bPV hk6 (va_recv hk6.1 hPM (ci := 6) (q0 := 0) rfl (wM_0 _ _ _))) rfl rfl hl.1 rfl (lv_room (Nat.le_of_ble_eq_true rfl)) dL_law_1374 ⟨by show _ ≤ 601024; omega, by show _ ≤ 7293034; omega⟩) hS (fun x _ h => hAM x h) hAM (fun y b2 t H2 locs ht _ hw2 hB2 hz2 hk2 hS => ?_)
  rw [ht] at hB2
  clear ht
  obtain rfl : y = (F6_shop bb (xs (nI (i + 1)).toNatClampNeg) (xs (nI (i + 2)).toNatClampNeg)).1 := by rw [← hw2]
  obtain rfl : b2 = (F6_shop bb (xs (nI (i + 1)).toNatClampNeg) (xs (nI (i + 2)).toNatClampNeg)).2 := by rw [← hw2]
  obtain ⟨hPM2, hI2⟩ := hB2
  have hPC2 := wCo_m hB1 hk2 hqq hq
  refine lv_istore (lv' := [(6, .int (F6_shop bb (xs (nI (i + 1)).toNatClampNeg) (xs (nI (i + 2)).toNatClampNeg)).1), (5, .int r), (0, .ref b), (1, .ref (qc 0)), (2, .ref (qm 0)), (3, .ref (qc 23)), (4, .int (nI i))]) hx hb dL_law_1377 hl (by decide) rfl (fun ls hl => ?_)
  refine lv_aload_n hx hb dL_law_1379 rfl (lv_at hl 4 rfl) ?_
  refine bcall_Ri (va_runV (As := []) (rest := []) ⟨hx, hb, hml, hown, hts⟩ (C6_thrown l D cI qm _ _ hPM2 hI2) (cwV 0 hts gL_law_X6_thrown rfl rfl rfl ⟨rfl, bd_X6thrown⟩ ⟨Nat.le_of_ble_eq_true rfl, Nat.le_of_ble_eq_true rfl⟩) (bPV hk6 (va_recv hk6.1 hPM2 (ci := 6) (q0 := 0) rfl (wM_0 _ _ _))) rfl rfl hl.1 rfl (lv_room (Nat.le_of_ble_eq_true rfl)) dL_law_1380 ⟨by show _ ≤ 601024; omega, by show _ ≤ 7293034; omega⟩) hS (fun locs hS => ?_)
  refine lv_iload hx hb dL_law_1383 (lv_at hl 1 rfl) ?_
  refine lv_icmp_eq (tgt := 1390) hx hb dL_law_1385 (by decide) (fun _ => ?_) (fun c9 => absurd (hsim.1.trans hw.1.symm) c9)
  refine lv_iload hx hb dL_law_1390 (lv_at hl 1 rfl) ?_
  refine lv_if_ne (tgt := 1407) hx hb dL_law_1392 (by decide) (fun c9 => ?_) (fun c9 => ?_)
  · refine lv_goto (tgt := 2009) hx hb dL_law_1407 (by decide) ?_
    refine W.widen (k := C + 5) (n := S + 30) (by omega) (by omega) ?_
    exact kk _ _ _ _ _ _ (Rel_up hsim.2.2 (by omega)) hI2 hPC2 hPM2 hS (lv_sub hl [2, 3, 4, 5, 6] rfl)
  · refine lv_aload_n hx hb dL_law_1395 rfl (lv_at hl 5 rfl) ?_
    refine lv_iconst (v := 0) hx hb dL_law_1396 (by decide) ?_
    refine va_lald hx hb hKL hPC2 23 0 rfl rfl (vp_in_nI (n := 0) (by decide) (by decide)) dL_law_1397 ?_
    refine lv_iload hx hb dL_law_1398 (lv_at hl 0 rfl) ?_
    refine lv_i2l (v := ((F6_shop bb (xs (nI (i + 1)).toNatClampNeg) (xs (nI (i + 2)).toNatClampNeg)).1).toInt64) hx hb dL_law_1400 rfl ?_
    refine W.lcmp hx hb dL_law_1401 ?_
    have hv0 : (F5_shop a (xs (nI (i + 1)).toNatClampNeg) (xs (nI (i + 2)).toNatClampNeg)).1 = 0 := hw.1.symm.trans c9
    rw [show (0 : Int32).toNatClampNeg = 0 from by decide, lg_cmp_same ((hw.2 hv0).trans (congrArg Int32.toInt64 (hsim.2.1 hv0)))]
    refine lv_if_eq (tgt := 1407) hx hb dL_law_1402 (by decide) (fun _ => ?_) (fun h9 => absurd rfl h9)
    refine lv_goto (tgt := 2009) hx hb dL_law_1407 (by decide) ?_
    refine W.widen (k := C + 5) (n := S + 30) (by omega) (by omega) ?_
    exact kk _ _ _ _ _ _ (Rel_up hsim.2.2 (by omega)) hI2 hPC2 hPM2 hS (lv_sub hl [2, 3, 4, 5, 6] rfl)
set_option maxHeartbeats 4000000 in
set_option maxRecDepth 100000 in
theorem LC_20 {p : Program} {e : Env} {s : State} {m : MethodId} {below : List Frame} {meth : Method} {c : Code} {l : Launch} {b L : Nat} {xs : Nat → Int32} {D : va_G} {cI cO cL : ClassId} {qc qm : Nat → Nat} (hl9 : l.stackTraces = false) (C0 : lw_At p s m meth c b L xs) (hk : bK D [(cI, .int), (cO, .object RX2)] s) (hX : bXe (fun q : Nat => s.heap.size ≤ q) s s.heap) (hKL : va_K D vwCl [(cL, .long)] s) (hN : bNC s) (hq : bInj 24 qc) (hqm : bInj 7 qm) (hqq : ∀ i j : Nat, i < 24 → j < 7 → qc i ≠ qm j) (hgc : ∀ i : Nat, i < 24 → s.heap.size ≤ qc i) (hgm : ∀ j : Nat, j < 7 → s.heap.size ≤ qm j) {B : Nat} (hB : B + 2600000 < 2000000000) (hB0 : 100000 ≤ B) {a bb : bU} {g : Nat → Int64} (hR : Rel B a bb) (hI : mInv bb) {i : Nat} (hi : i + 4 ≤ L) (hL : L ≤ 2048) {H : Heap} {locs : List Loc} (hPC : va_P D vwCl (wCo cI cO cL qc a g) H) (hPM : va_P D vwCl (wM cI qm bb) H) (hS : va_S (fun q : Nat => s.heap.size ≤ q) s.heap H locs) {ls : Array Slot} (hl : lv_has ls 9 [(0, .ref b), (1, .ref (qc 0)), (2, .ref (qm 0)), (3, .ref (qc 23)), (4, .int (nI i))]) {C S : Nat} (hC : C + 5 ≤ 601024) (hSl : S + 30 ≤ 7293034) {Q : State → Prop} (kk : ∀ (a2 b2 : bU) (g2 : Nat → Int64) (H2 : Heap) (locs2 : List Loc) (ls2 : Array Slot), Rel (B + 2600000) a2 b2 → mInv b2 → va_P D vwCl (wCo cI cO cL qc a2 g2) H2 → va_P D vwCl (wM cI qm b2) H2 → va_S (fun q : Nat => s.heap.size ≤ q) s.heap H2 locs2 → lv_has ls2 9 [(0, .ref b), (1, .ref (qc 0)), (2, .ref (qm 0)), (3, .ref (qc 23)), (4, .int (nI i))] → W p l e room_1 s m #[Value.ref b] below meth c H2 locs2 (C + 5) (S + 30) Q (F0 m 2009 ls2 [])) : W p l e room_1 s m #[Value.ref b] below meth c H locs C S Q (F0 m 1410 ls []) := by
  obtain ⟨hx, hb, hr, hml, hown, hts0, hXs, hbl, hlocks, hgv⟩ := C0
  have hts : ∀ w ∈ wsL_law, w.before #[Value.ref b] s = true := fun w h => hts0 w (wsL_law_in w h)
  have hbA : ¬ (fun q : Nat => s.heap.size ≤ q) b := Nat.not_le.mpr hbl
  have hk6 : bK D [(cI, .int)] s := ⟨va_K.sub hk.1 [0] rfl, hk.2⟩
  refine lv_aload_n hx hb dL_law_1410 rfl (lv_at hl 1 rfl) ?_
  refine lv_aload_n hx hb dL_law_1411 rfl (lv_at hl 0 rfl) ?_
  refine lv_iload hx hb dL_law_1412 (lv_at hl 4 rfl) ?_
  refine lv_iconst (v := 1) hx hb dL_law_1414 (by decide) ?_
  refine lv_iadd hx hb dL_law_1415 ?_
  refine lv_topi (fun z9 hz9 => ?_)
  obtain rfl : z9 = nI (i + 1) := hz9.trans (nI_add i 1)
  refine va_sld hx hb hXs hbl hbA hS (vp_in_nI (by omega) (by omega)) dL_law_1416 ?_
  refine lv_aload_n hx hb dL_law_1417 rfl (lv_at hl 3 rfl) ?_
  have hAB : ∀ x : Nat, bA 24 qc H.size x → s.heap.size ≤ x := fun x hx9 => hx9.elim (fun ⟨k9, h9, e9⟩ => e9 ▸ hgc k9 h9) (fun h9 => Nat.le_trans hS.1 h9)
  refine va_calli (vx_runSW (As := [.ref (qc 0), .int (xs (nI (i + 1)).toNatClampNeg), .ref (qc 23)]) (rest := []) ⟨hx, hb, hml, hown, hts⟩ (CL_count l D cI cO cL qc a g H hq hl9 hPC (xs (nI (i + 1)).toNatClampNeg)) (vx_cwSW 3 hts gL_law_L_count rfl rfl rfl bd_Lcount ⟨Nat.le_of_ble_eq_true rfl, Nat.le_of_ble_eq_true rfl⟩) (bPSL hk hX hKL hN hS hAB) rfl rfl hl.1 rfl (lv_room (Nat.le_of_ble_eq_true rfl)) dL_law_1418 ⟨by show _ ≤ 601024; omega, by show _ ≤ 7293034; omega⟩) hS (fun x _ h => hAB x h) hAB (fun r g1 t H1 locs ht _ hw hB1 hz1 hk1 hS => ?_)
  rw [ht] at hB1
  clear ht
  have hPM := wM_k hPM hk1 hqq hqm
  refine W.widen (k := C + 5) (n := S + 30) (by omega) (by omega) ?_
  refine lv_istore (lv' := [(5, .int r), (0, .ref b), (1, .ref (qc 0)), (2, .ref (qm 0)), (3, .ref (qc 23)), (4, .int (nI i))]) hx hb dL_law_1421 hl (by decide) rfl (fun ls hl => ?_)
  refine lv_aload_n hx hb dL_law_1423 rfl (lv_at hl 3 rfl) ?_
  refine lv_aload_n hx hb dL_law_1424 rfl (lv_at hl 1 rfl) ?_
  refine lv_iload hx hb dL_law_1425 (lv_at hl 5 rfl) ?_
  refine lv_iconst (v := 1) hx hb dL_law_1427 (by decide) ?_
  refine lv_iadd hx hb dL_law_1428 ?_
  refine lv_topi (fun z9 hz9 => ?_)
  obtain rfl : z9 = nI (i + 1) := hz9.trans (nI_add i 1)
  refine va_sld hx hb hXs hbl hbA hS (vp_in_nI (by omega) (by omega)) dL_law_1429 ?_
  have hsim := st_count hR (xs (nI (i + 1)).toNatClampNeg)
  have hAM : ∀ x : Nat, bA 7 qm H1.size x → s.heap.size ≤ x := fun x hx9 => hx9.elim (fun ⟨k9, h9, e9⟩ => e9 ▸ hgm k9 h9) (fun h9 => Nat.le_trans hS.1 h9)
  refine va_calli (va_runV (As := [.int (xs (nI (i + 1)).toNatClampNeg)]) (rest := []) ⟨hx, hb, hml, hown, hts⟩ (C6_count l D cI qm bb H1 hqm hPM hI (xs (nI (i + 1)).toNatClampNeg)) (cwV 1 hts gL_law_X6_count rfl rfl rfl ⟨rfl, bd_X6count⟩ ⟨Nat.le_of_ble_eq_true rfl, Nat.le_of_ble_eq_true rfl⟩) (bPV hk6 (va_recv hk6.1 hPM (ci := 6) (q0 := 0) rfl (wM_0 _ _ _))) rfl rfl hl.1 rfl (lv_room (Nat.le_of_ble_eq_true rfl)) dL_law_1430 ⟨by show _ ≤ 601024; omega, by show _ ≤ 7293034; omega⟩) hS (fun x _ h => hAM x h) hAM (fun y b2 t H2 locs ht _ hw2 hB2 hz2 hk2 hS => ?_)
  rw [ht] at hB2
  clear ht
  obtain rfl : y = (F6_count bb (xs (nI (i + 1)).toNatClampNeg)).1 := by rw [← hw2]
  obtain rfl : b2 = (F6_count bb (xs (nI (i + 1)).toNatClampNeg)).2 := by rw [← hw2]
  obtain ⟨hPM2, hI2⟩ := hB2
  have hPC2 := wCo_m hB1 hk2 hqq hq
  refine lv_istore (lv' := [(6, .int (F6_count bb (xs (nI (i + 1)).toNatClampNeg)).1), (5, .int r), (0, .ref b), (1, .ref (qc 0)), (2, .ref (qm 0)), (3, .ref (qc 23)), (4, .int (nI i))]) hx hb dL_law_1433 hl (by decide) rfl (fun ls hl => ?_)
  refine lv_aload_n hx hb dL_law_1435 rfl (lv_at hl 4 rfl) ?_
  refine bcall_Ri (va_runV (As := []) (rest := []) ⟨hx, hb, hml, hown, hts⟩ (C6_thrown l D cI qm _ _ hPM2 hI2) (cwV 0 hts gL_law_X6_thrown rfl rfl rfl ⟨rfl, bd_X6thrown⟩ ⟨Nat.le_of_ble_eq_true rfl, Nat.le_of_ble_eq_true rfl⟩) (bPV hk6 (va_recv hk6.1 hPM2 (ci := 6) (q0 := 0) rfl (wM_0 _ _ _))) rfl rfl hl.1 rfl (lv_room (Nat.le_of_ble_eq_true rfl)) dL_law_1436 ⟨by show _ ≤ 601024; omega, by show _ ≤ 7293034; omega⟩) hS (fun locs hS => ?_)
  refine lv_iload hx hb dL_law_1439 (lv_at hl 1 rfl) ?_
  refine lv_icmp_eq (tgt := 1446) hx hb dL_law_1441 (by decide) (fun _ => ?_) (fun c9 => absurd (hsim.1.trans hw.1.symm) c9)
  refine lv_iload hx hb dL_law_1446 (lv_at hl 1 rfl) ?_
  refine lv_if_ne (tgt := 1463) hx hb dL_law_1448 (by decide) (fun c9 => ?_) (fun c9 => ?_)
  · refine lv_goto (tgt := 2009) hx hb dL_law_1463 (by decide) ?_
    refine W.widen (k := C + 5) (n := S + 30) (by omega) (by omega) ?_
    exact kk _ _ _ _ _ _ (Rel_up hsim.2.2 (by omega)) hI2 hPC2 hPM2 hS (lv_sub hl [2, 3, 4, 5, 6] rfl)
  · refine lv_aload_n hx hb dL_law_1451 rfl (lv_at hl 5 rfl) ?_
    refine lv_iconst (v := 0) hx hb dL_law_1452 (by decide) ?_
    refine va_lald hx hb hKL hPC2 23 0 rfl rfl (vp_in_nI (n := 0) (by decide) (by decide)) dL_law_1453 ?_
    refine lv_iload hx hb dL_law_1454 (lv_at hl 0 rfl) ?_
    refine lv_i2l (v := ((F6_count bb (xs (nI (i + 1)).toNatClampNeg)).1).toInt64) hx hb dL_law_1456 rfl ?_
    refine W.lcmp hx hb dL_law_1457 ?_
    have hv0 : (F5_count a (xs (nI (i + 1)).toNatClampNeg)).1 = 0 := cdC_0 (hw.1.symm.trans c9)
    rw [show (0 : Int32).toNatClampNeg = 0 from by decide, lg_cmp_same ((hw.2 hv0).trans (congrArg Int32.toInt64 (hsim.2.1 hv0)))]
    refine lv_if_eq (tgt := 1463) hx hb dL_law_1458 (by decide) (fun _ => ?_) (fun h9 => absurd rfl h9)
    refine lv_goto (tgt := 2009) hx hb dL_law_1463 (by decide) ?_
    refine W.widen (k := C + 5) (n := S + 30) (by omega) (by omega) ?_
    exact kk _ _ _ _ _ _ (Rel_up hsim.2.2 (by omega)) hI2 hPC2 hPM2 hS (lv_sub hl [2, 3, 4, 5, 6] rfl)
set_option maxHeartbeats 4000000 in
set_option maxRecDepth 100000 in
theorem LC_21 {p : Program} {e : Env} {s : State} {m : MethodId} {below : List Frame} {meth : Method} {c : Code} {l : Launch} {b L : Nat} {xs : Nat → Int32} {D : va_G} {cI cO cL : ClassId} {qc qm : Nat → Nat} (hl9 : l.stackTraces = false) (C0 : lw_At p s m meth c b L xs) (hk : bK D [(cI, .int), (cO, .object RX2)] s) (hX : bXe (fun q : Nat => s.heap.size ≤ q) s s.heap) (hKL : va_K D vwCl [(cL, .long)] s) (hN : bNC s) (hq : bInj 24 qc) (hqm : bInj 7 qm) (hqq : ∀ i j : Nat, i < 24 → j < 7 → qc i ≠ qm j) (hgc : ∀ i : Nat, i < 24 → s.heap.size ≤ qc i) (hgm : ∀ j : Nat, j < 7 → s.heap.size ≤ qm j) {B : Nat} (hB : B + 2600000 < 2000000000) (hB0 : 100000 ≤ B) {a bb : bU} {g : Nat → Int64} (hR : Rel B a bb) (hI : mInv bb) {i : Nat} (hi : i + 4 ≤ L) (hL : L ≤ 2048) {H : Heap} {locs : List Loc} (hPC : va_P D vwCl (wCo cI cO cL qc a g) H) (hPM : va_P D vwCl (wM cI qm bb) H) (hS : va_S (fun q : Nat => s.heap.size ≤ q) s.heap H locs) {ls : Array Slot} (hl : lv_has ls 9 [(0, .ref b), (1, .ref (qc 0)), (2, .ref (qm 0)), (3, .ref (qc 23)), (4, .int (nI i))]) {C S : Nat} (hC : C + 5 ≤ 601024) (hSl : S + 30 ≤ 7293034) {Q : State → Prop} (kk : ∀ (a2 b2 : bU) (g2 : Nat → Int64) (H2 : Heap) (locs2 : List Loc) (ls2 : Array Slot), Rel (B + 2600000) a2 b2 → mInv b2 → va_P D vwCl (wCo cI cO cL qc a2 g2) H2 → va_P D vwCl (wM cI qm b2) H2 → va_S (fun q : Nat => s.heap.size ≤ q) s.heap H2 locs2 → lv_has ls2 9 [(0, .ref b), (1, .ref (qc 0)), (2, .ref (qm 0)), (3, .ref (qc 23)), (4, .int (nI i))] → W p l e room_1 s m #[Value.ref b] below meth c H2 locs2 (C + 5) (S + 30) Q (F0 m 2009 ls2 [])) : W p l e room_1 s m #[Value.ref b] below meth c H locs C S Q (F0 m 1466 ls []) := by
  obtain ⟨hx, hb, hr, hml, hown, hts0, hXs, hbl, hlocks, hgv⟩ := C0
  have hts : ∀ w ∈ wsL_law, w.before #[Value.ref b] s = true := fun w h => hts0 w (wsL_law_in w h)
  have hbA : ¬ (fun q : Nat => s.heap.size ≤ q) b := Nat.not_le.mpr hbl
  have hk6 : bK D [(cI, .int)] s := ⟨va_K.sub hk.1 [0] rfl, hk.2⟩
  refine lv_aload_n hx hb dL_law_1466 rfl (lv_at hl 1 rfl) ?_
  refine lv_aload_n hx hb dL_law_1467 rfl (lv_at hl 0 rfl) ?_
  refine lv_iload hx hb dL_law_1468 (lv_at hl 4 rfl) ?_
  refine lv_iconst (v := 1) hx hb dL_law_1470 (by decide) ?_
  refine lv_iadd hx hb dL_law_1471 ?_
  refine lv_topi (fun z9 hz9 => ?_)
  obtain rfl : z9 = nI (i + 1) := hz9.trans (nI_add i 1)
  refine va_sld hx hb hXs hbl hbA hS (vp_in_nI (by omega) (by omega)) dL_law_1472 ?_
  refine lv_aload_n hx hb dL_law_1473 rfl (lv_at hl 3 rfl) ?_
  have hAB : ∀ x : Nat, bA 24 qc H.size x → s.heap.size ≤ x := fun x hx9 => hx9.elim (fun ⟨k9, h9, e9⟩ => e9 ▸ hgc k9 h9) (fun h9 => Nat.le_trans hS.1 h9)
  refine va_calli (vx_runSW (As := [.ref (qc 0), .int (xs (nI (i + 1)).toNatClampNeg), .ref (qc 23)]) (rest := []) ⟨hx, hb, hml, hown, hts⟩ (CL_setting l D cI cO cL qc a g H hq hl9 hPC (xs (nI (i + 1)).toNatClampNeg)) (vx_cwSW 3 hts gL_law_L_setting rfl rfl rfl bd_Lsetting ⟨Nat.le_of_ble_eq_true rfl, Nat.le_of_ble_eq_true rfl⟩) (bPSL hk hX hKL hN hS hAB) rfl rfl hl.1 rfl (lv_room (Nat.le_of_ble_eq_true rfl)) dL_law_1474 ⟨by show _ ≤ 601024; omega, by show _ ≤ 7293034; omega⟩) hS (fun x _ h => hAB x h) hAB (fun r g1 t H1 locs ht _ hw hB1 hz1 hk1 hS => ?_)
  rw [ht] at hB1
  clear ht
  have hPM := wM_k hPM hk1 hqq hqm
  refine W.widen (k := C + 5) (n := S + 30) (by omega) (by omega) ?_
  refine lv_istore (lv' := [(5, .int r), (0, .ref b), (1, .ref (qc 0)), (2, .ref (qm 0)), (3, .ref (qc 23)), (4, .int (nI i))]) hx hb dL_law_1477 hl (by decide) rfl (fun ls hl => ?_)
  refine lv_aload_n hx hb dL_law_1479 rfl (lv_at hl 3 rfl) ?_
  refine lv_aload_n hx hb dL_law_1480 rfl (lv_at hl 1 rfl) ?_
  refine lv_iload hx hb dL_law_1481 (lv_at hl 5 rfl) ?_
  refine lv_iconst (v := 1) hx hb dL_law_1483 (by decide) ?_
  refine lv_iadd hx hb dL_law_1484 ?_
  refine lv_topi (fun z9 hz9 => ?_)
  obtain rfl : z9 = nI (i + 1) := hz9.trans (nI_add i 1)
  refine va_sld hx hb hXs hbl hbA hS (vp_in_nI (by omega) (by omega)) dL_law_1485 ?_
  have hsim := st_setting hR (xs (nI (i + 1)).toNatClampNeg)
  have hAM : ∀ x : Nat, bA 7 qm H1.size x → s.heap.size ≤ x := fun x hx9 => hx9.elim (fun ⟨k9, h9, e9⟩ => e9 ▸ hgm k9 h9) (fun h9 => Nat.le_trans hS.1 h9)
  refine va_calli (va_runV (As := [.int (xs (nI (i + 1)).toNatClampNeg)]) (rest := []) ⟨hx, hb, hml, hown, hts⟩ (C6_setting l D cI qm bb H1 hqm hPM hI (xs (nI (i + 1)).toNatClampNeg)) (cwV 1 hts gL_law_X6_setting rfl rfl rfl ⟨rfl, bd_X6setting⟩ ⟨Nat.le_of_ble_eq_true rfl, Nat.le_of_ble_eq_true rfl⟩) (bPV hk6 (va_recv hk6.1 hPM (ci := 6) (q0 := 0) rfl (wM_0 _ _ _))) rfl rfl hl.1 rfl (lv_room (Nat.le_of_ble_eq_true rfl)) dL_law_1486 ⟨by show _ ≤ 601024; omega, by show _ ≤ 7293034; omega⟩) hS (fun x _ h => hAM x h) hAM (fun y b2 t H2 locs ht _ hw2 hB2 hz2 hk2 hS => ?_)
  rw [ht] at hB2
  clear ht
  obtain rfl : y = (F6_setting bb (xs (nI (i + 1)).toNatClampNeg)).1 := by rw [← hw2]
  obtain rfl : b2 = (F6_setting bb (xs (nI (i + 1)).toNatClampNeg)).2 := by rw [← hw2]
  obtain ⟨hPM2, hI2⟩ := hB2
  have hPC2 := wCo_m hB1 hk2 hqq hq
  refine lv_istore (lv' := [(6, .int (F6_setting bb (xs (nI (i + 1)).toNatClampNeg)).1), (5, .int r), (0, .ref b), (1, .ref (qc 0)), (2, .ref (qm 0)), (3, .ref (qc 23)), (4, .int (nI i))]) hx hb dL_law_1489 hl (by decide) rfl (fun ls hl => ?_)
  refine lv_aload_n hx hb dL_law_1491 rfl (lv_at hl 4 rfl) ?_
  refine bcall_Ri (va_runV (As := []) (rest := []) ⟨hx, hb, hml, hown, hts⟩ (C6_thrown l D cI qm _ _ hPM2 hI2) (cwV 0 hts gL_law_X6_thrown rfl rfl rfl ⟨rfl, bd_X6thrown⟩ ⟨Nat.le_of_ble_eq_true rfl, Nat.le_of_ble_eq_true rfl⟩) (bPV hk6 (va_recv hk6.1 hPM2 (ci := 6) (q0 := 0) rfl (wM_0 _ _ _))) rfl rfl hl.1 rfl (lv_room (Nat.le_of_ble_eq_true rfl)) dL_law_1492 ⟨by show _ ≤ 601024; omega, by show _ ≤ 7293034; omega⟩) hS (fun locs hS => ?_)
  refine lv_iload hx hb dL_law_1495 (lv_at hl 1 rfl) ?_
  refine lv_icmp_eq (tgt := 1502) hx hb dL_law_1497 (by decide) (fun _ => ?_) (fun c9 => absurd (hsim.1.trans hw.1.symm) c9)
  refine lv_iload hx hb dL_law_1502 (lv_at hl 1 rfl) ?_
  refine lv_if_ne (tgt := 1519) hx hb dL_law_1504 (by decide) (fun c9 => ?_) (fun c9 => ?_)
  · refine lv_goto (tgt := 2009) hx hb dL_law_1519 (by decide) ?_
    refine W.widen (k := C + 5) (n := S + 30) (by omega) (by omega) ?_
    exact kk _ _ _ _ _ _ (Rel_up hsim.2.2 (by omega)) hI2 hPC2 hPM2 hS (lv_sub hl [2, 3, 4, 5, 6] rfl)
  · refine lv_aload_n hx hb dL_law_1507 rfl (lv_at hl 5 rfl) ?_
    refine lv_iconst (v := 0) hx hb dL_law_1508 (by decide) ?_
    refine va_lald hx hb hKL hPC2 23 0 rfl rfl (vp_in_nI (n := 0) (by decide) (by decide)) dL_law_1509 ?_
    refine lv_iload hx hb dL_law_1510 (lv_at hl 0 rfl) ?_
    refine lv_i2l (v := ((F6_setting bb (xs (nI (i + 1)).toNatClampNeg)).1).toInt64) hx hb dL_law_1512 rfl ?_
    refine W.lcmp hx hb dL_law_1513 ?_
    have hv0 : (F5_setting a (xs (nI (i + 1)).toNatClampNeg)).1 = 0 := hw.1.symm.trans c9
    rw [show (0 : Int32).toNatClampNeg = 0 from by decide, lg_cmp_same ((hw.2 hv0).trans (congrArg Int32.toInt64 (hsim.2.1 hv0)))]
    refine lv_if_eq (tgt := 1519) hx hb dL_law_1514 (by decide) (fun _ => ?_) (fun h9 => absurd rfl h9)
    refine lv_goto (tgt := 2009) hx hb dL_law_1519 (by decide) ?_
    refine W.widen (k := C + 5) (n := S + 30) (by omega) (by omega) ?_
    exact kk _ _ _ _ _ _ (Rel_up hsim.2.2 (by omega)) hI2 hPC2 hPM2 hS (lv_sub hl [2, 3, 4, 5, 6] rfl)
set_option maxHeartbeats 4000000 in
set_option maxRecDepth 100000 in
theorem LC_22 {p : Program} {e : Env} {s : State} {m : MethodId} {below : List Frame} {meth : Method} {c : Code} {l : Launch} {b L : Nat} {xs : Nat → Int32} {D : va_G} {cI cO cL : ClassId} {qc qm : Nat → Nat} (hl9 : l.stackTraces = false) (C0 : lw_At p s m meth c b L xs) (hk : bK D [(cI, .int), (cO, .object RX2)] s) (hX : bXe (fun q : Nat => s.heap.size ≤ q) s s.heap) (hKL : va_K D vwCl [(cL, .long)] s) (hN : bNC s) (hq : bInj 24 qc) (hqm : bInj 7 qm) (hqq : ∀ i j : Nat, i < 24 → j < 7 → qc i ≠ qm j) (hgc : ∀ i : Nat, i < 24 → s.heap.size ≤ qc i) (hgm : ∀ j : Nat, j < 7 → s.heap.size ≤ qm j) {B : Nat} (hB : B + 2600000 < 2000000000) (hB0 : 100000 ≤ B) {a bb : bU} {g : Nat → Int64} (hR : Rel B a bb) (hI : mInv bb) {i : Nat} (hi : i + 4 ≤ L) (hL : L ≤ 2048) {H : Heap} {locs : List Loc} (hPC : va_P D vwCl (wCo cI cO cL qc a g) H) (hPM : va_P D vwCl (wM cI qm bb) H) (hS : va_S (fun q : Nat => s.heap.size ≤ q) s.heap H locs) {ls : Array Slot} (hl : lv_has ls 9 [(0, .ref b), (1, .ref (qc 0)), (2, .ref (qm 0)), (3, .ref (qc 23)), (4, .int (nI i))]) {C S : Nat} (hC : C + 5 ≤ 601024) (hSl : S + 30 ≤ 7293034) {Q : State → Prop} (kk : ∀ (a2 b2 : bU) (g2 : Nat → Int64) (H2 : Heap) (locs2 : List Loc) (ls2 : Array Slot), Rel (B + 2600000) a2 b2 → mInv b2 → va_P D vwCl (wCo cI cO cL qc a2 g2) H2 → va_P D vwCl (wM cI qm b2) H2 → va_S (fun q : Nat => s.heap.size ≤ q) s.heap H2 locs2 → lv_has ls2 9 [(0, .ref b), (1, .ref (qc 0)), (2, .ref (qm 0)), (3, .ref (qc 23)), (4, .int (nI i))] → W p l e room_1 s m #[Value.ref b] below meth c H2 locs2 (C + 5) (S + 30) Q (F0 m 2009 ls2 [])) : W p l e room_1 s m #[Value.ref b] below meth c H locs C S Q (F0 m 1522 ls []) := by
  obtain ⟨hx, hb, hr, hml, hown, hts0, hXs, hbl, hlocks, hgv⟩ := C0
  have hts : ∀ w ∈ wsL_law, w.before #[Value.ref b] s = true := fun w h => hts0 w (wsL_law_in w h)
  have hbA : ¬ (fun q : Nat => s.heap.size ≤ q) b := Nat.not_le.mpr hbl
  have hk6 : bK D [(cI, .int)] s := ⟨va_K.sub hk.1 [0] rfl, hk.2⟩
  refine lv_aload_n hx hb dL_law_1522 rfl (lv_at hl 1 rfl) ?_
  refine lv_aload_n hx hb dL_law_1523 rfl (lv_at hl 0 rfl) ?_
  refine lv_iload hx hb dL_law_1524 (lv_at hl 4 rfl) ?_
  refine lv_iconst (v := 1) hx hb dL_law_1526 (by decide) ?_
  refine lv_iadd hx hb dL_law_1527 ?_
  refine lv_topi (fun z9 hz9 => ?_)
  obtain rfl : z9 = nI (i + 1) := hz9.trans (nI_add i 1)
  refine va_sld hx hb hXs hbl hbA hS (vp_in_nI (by omega) (by omega)) dL_law_1528 ?_
  refine lv_aload_n hx hb dL_law_1529 rfl (lv_at hl 0 rfl) ?_
  refine lv_iload hx hb dL_law_1530 (lv_at hl 4 rfl) ?_
  refine lv_iconst (v := 2) hx hb dL_law_1532 (by decide) ?_
  refine lv_iadd hx hb dL_law_1533 ?_
  refine lv_topi (fun z9 hz9 => ?_)
  obtain rfl : z9 = nI (i + 2) := hz9.trans (nI_add i 2)
  refine va_sld hx hb hXs hbl hbA hS (vp_in_nI (by omega) (by omega)) dL_law_1534 ?_
  refine lv_aload_n hx hb dL_law_1535 rfl (lv_at hl 0 rfl) ?_
  refine lv_iload hx hb dL_law_1536 (lv_at hl 4 rfl) ?_
  refine lv_iconst (v := 3) hx hb dL_law_1538 (by decide) ?_
  refine lv_iadd hx hb dL_law_1539 ?_
  refine lv_topi (fun z9 hz9 => ?_)
  obtain rfl : z9 = nI (i + 3) := hz9.trans (nI_add i 3)
  refine va_sld hx hb hXs hbl hbA hS (vp_in_nI (by omega) (by omega)) dL_law_1540 ?_
  refine lv_aload_n hx hb dL_law_1541 rfl (lv_at hl 3 rfl) ?_
  have hAB : ∀ x : Nat, bA 24 qc H.size x → s.heap.size ≤ x := fun x hx9 => hx9.elim (fun ⟨k9, h9, e9⟩ => e9 ▸ hgc k9 h9) (fun h9 => Nat.le_trans hS.1 h9)
  refine va_calli (vx_runSW (As := [.ref (qc 0), .int (xs (nI (i + 1)).toNatClampNeg), .int (xs (nI (i + 2)).toNatClampNeg), .int (xs (nI (i + 3)).toNatClampNeg), .ref (qc 23)]) (rest := []) ⟨hx, hb, hml, hown, hts⟩ (CL_whyNotDeliver l D cI cO cL qc a g H hq hl9 hPC (xs (nI (i + 1)).toNatClampNeg) (xs (nI (i + 2)).toNatClampNeg) (xs (nI (i + 3)).toNatClampNeg)) (vx_cwSW 5 hts gL_law_L_whyNotDeliver rfl rfl rfl bd_LwhyNotDeliver ⟨Nat.le_of_ble_eq_true rfl, Nat.le_of_ble_eq_true rfl⟩) (bPSL hk hX hKL hN hS hAB) rfl rfl hl.1 rfl (lv_room (Nat.le_of_ble_eq_true rfl)) dL_law_1542 ⟨by show _ ≤ 601024; omega, by show _ ≤ 7293034; omega⟩) hS (fun x _ h => hAB x h) hAB (fun r g1 t H1 locs ht _ hw hB1 hz1 hk1 hS => ?_)
  rw [ht] at hB1
  clear ht
  have hPM := wM_k hPM hk1 hqq hqm
  refine W.widen (k := C + 5) (n := S + 30) (by omega) (by omega) ?_
  refine lv_istore (lv' := [(5, .int r), (0, .ref b), (1, .ref (qc 0)), (2, .ref (qm 0)), (3, .ref (qc 23)), (4, .int (nI i))]) hx hb dL_law_1545 hl (by decide) rfl (fun ls hl => ?_)
  refine lv_aload_n hx hb dL_law_1547 rfl (lv_at hl 3 rfl) ?_
  refine lv_aload_n hx hb dL_law_1548 rfl (lv_at hl 1 rfl) ?_
  refine lv_iload hx hb dL_law_1549 (lv_at hl 5 rfl) ?_
  refine lv_iconst (v := 1) hx hb dL_law_1551 (by decide) ?_
  refine lv_iadd hx hb dL_law_1552 ?_
  refine lv_topi (fun z9 hz9 => ?_)
  obtain rfl : z9 = nI (i + 1) := hz9.trans (nI_add i 1)
  refine va_sld hx hb hXs hbl hbA hS (vp_in_nI (by omega) (by omega)) dL_law_1553 ?_
  refine lv_aload_n hx hb dL_law_1554 rfl (lv_at hl 1 rfl) ?_
  refine lv_iload hx hb dL_law_1555 (lv_at hl 5 rfl) ?_
  refine lv_iconst (v := 2) hx hb dL_law_1557 (by decide) ?_
  refine lv_iadd hx hb dL_law_1558 ?_
  refine lv_topi (fun z9 hz9 => ?_)
  obtain rfl : z9 = nI (i + 2) := hz9.trans (nI_add i 2)
  refine va_sld hx hb hXs hbl hbA hS (vp_in_nI (by omega) (by omega)) dL_law_1559 ?_
  refine lv_aload_n hx hb dL_law_1560 rfl (lv_at hl 1 rfl) ?_
  refine lv_iload hx hb dL_law_1561 (lv_at hl 5 rfl) ?_
  refine lv_iconst (v := 3) hx hb dL_law_1563 (by decide) ?_
  refine lv_iadd hx hb dL_law_1564 ?_
  refine lv_topi (fun z9 hz9 => ?_)
  obtain rfl : z9 = nI (i + 3) := hz9.trans (nI_add i 3)
  refine va_sld hx hb hXs hbl hbA hS (vp_in_nI (by omega) (by omega)) dL_law_1565 ?_
  have hsim := st_whyNotDeliver hR (xs (nI (i + 1)).toNatClampNeg) (xs (nI (i + 2)).toNatClampNeg) (xs (nI (i + 3)).toNatClampNeg)
  have hAM : ∀ x : Nat, bA 7 qm H1.size x → s.heap.size ≤ x := fun x hx9 => hx9.elim (fun ⟨k9, h9, e9⟩ => e9 ▸ hgm k9 h9) (fun h9 => Nat.le_trans hS.1 h9)
  refine va_calli (va_runV (As := [.int (xs (nI (i + 1)).toNatClampNeg), .int (xs (nI (i + 2)).toNatClampNeg), .int (xs (nI (i + 3)).toNatClampNeg)]) (rest := []) ⟨hx, hb, hml, hown, hts⟩ (C6_whyNotDeliver l D cI qm bb H1 hqm hPM hI (xs (nI (i + 1)).toNatClampNeg) (xs (nI (i + 2)).toNatClampNeg) (xs (nI (i + 3)).toNatClampNeg)) (cwV 3 hts gL_law_X6_whyNotDeliver rfl rfl rfl ⟨rfl, bd_X6whyNotDeliver⟩ ⟨Nat.le_of_ble_eq_true rfl, Nat.le_of_ble_eq_true rfl⟩) (bPV hk6 (va_recv hk6.1 hPM (ci := 6) (q0 := 0) rfl (wM_0 _ _ _))) rfl rfl hl.1 rfl (lv_room (Nat.le_of_ble_eq_true rfl)) dL_law_1566 ⟨by show _ ≤ 601024; omega, by show _ ≤ 7293034; omega⟩) hS (fun x _ h => hAM x h) hAM (fun y b2 t H2 locs ht _ hw2 hB2 hz2 hk2 hS => ?_)
  rw [ht] at hB2
  clear ht
  obtain rfl : y = (F6_whyNotDeliver bb (xs (nI (i + 1)).toNatClampNeg) (xs (nI (i + 2)).toNatClampNeg) (xs (nI (i + 3)).toNatClampNeg)).1 := by rw [← hw2]
  obtain rfl : b2 = (F6_whyNotDeliver bb (xs (nI (i + 1)).toNatClampNeg) (xs (nI (i + 2)).toNatClampNeg) (xs (nI (i + 3)).toNatClampNeg)).2 := by rw [← hw2]
  obtain ⟨hPM2, hI2⟩ := hB2
  have hPC2 := wCo_m hB1 hk2 hqq hq
  refine lv_istore (lv' := [(6, .int (F6_whyNotDeliver bb (xs (nI (i + 1)).toNatClampNeg) (xs (nI (i + 2)).toNatClampNeg) (xs (nI (i + 3)).toNatClampNeg)).1), (5, .int r), (0, .ref b), (1, .ref (qc 0)), (2, .ref (qm 0)), (3, .ref (qc 23)), (4, .int (nI i))]) hx hb dL_law_1569 hl (by decide) rfl (fun ls hl => ?_)
  refine lv_aload_n hx hb dL_law_1571 rfl (lv_at hl 4 rfl) ?_
  refine bcall_Ri (va_runV (As := []) (rest := []) ⟨hx, hb, hml, hown, hts⟩ (C6_thrown l D cI qm _ _ hPM2 hI2) (cwV 0 hts gL_law_X6_thrown rfl rfl rfl ⟨rfl, bd_X6thrown⟩ ⟨Nat.le_of_ble_eq_true rfl, Nat.le_of_ble_eq_true rfl⟩) (bPV hk6 (va_recv hk6.1 hPM2 (ci := 6) (q0 := 0) rfl (wM_0 _ _ _))) rfl rfl hl.1 rfl (lv_room (Nat.le_of_ble_eq_true rfl)) dL_law_1572 ⟨by show _ ≤ 601024; omega, by show _ ≤ 7293034; omega⟩) hS (fun locs hS => ?_)
  refine lv_iload hx hb dL_law_1575 (lv_at hl 1 rfl) ?_
  refine lv_icmp_eq (tgt := 1582) hx hb dL_law_1577 (by decide) (fun _ => ?_) (fun c9 => absurd (hsim.1.trans hw.1.symm) c9)
  refine lv_iload hx hb dL_law_1582 (lv_at hl 1 rfl) ?_
  refine lv_if_ne (tgt := 1599) hx hb dL_law_1584 (by decide) (fun c9 => ?_) (fun c9 => ?_)
  · refine lv_goto (tgt := 2009) hx hb dL_law_1599 (by decide) ?_
    refine W.widen (k := C + 5) (n := S + 30) (by omega) (by omega) ?_
    exact kk _ _ _ _ _ _ (Rel_up hsim.2.2 (by omega)) hI2 hPC2 hPM2 hS (lv_sub hl [2, 3, 4, 5, 6] rfl)
  · refine lv_aload_n hx hb dL_law_1587 rfl (lv_at hl 5 rfl) ?_
    refine lv_iconst (v := 0) hx hb dL_law_1588 (by decide) ?_
    refine va_lald hx hb hKL hPC2 23 0 rfl rfl (vp_in_nI (n := 0) (by decide) (by decide)) dL_law_1589 ?_
    refine lv_iload hx hb dL_law_1590 (lv_at hl 0 rfl) ?_
    refine lv_i2l (v := ((F6_whyNotDeliver bb (xs (nI (i + 1)).toNatClampNeg) (xs (nI (i + 2)).toNatClampNeg) (xs (nI (i + 3)).toNatClampNeg)).1).toInt64) hx hb dL_law_1592 rfl ?_
    refine W.lcmp hx hb dL_law_1593 ?_
    have hv0 : (F5_whyNotDeliver a (xs (nI (i + 1)).toNatClampNeg) (xs (nI (i + 2)).toNatClampNeg) (xs (nI (i + 3)).toNatClampNeg)).1 = 0 := hw.1.symm.trans c9
    rw [show (0 : Int32).toNatClampNeg = 0 from by decide, lg_cmp_same ((hw.2 hv0).trans (congrArg Int32.toInt64 (hsim.2.1 hv0)))]
    refine lv_if_eq (tgt := 1599) hx hb dL_law_1594 (by decide) (fun _ => ?_) (fun h9 => absurd rfl h9)
    refine lv_goto (tgt := 2009) hx hb dL_law_1599 (by decide) ?_
    refine W.widen (k := C + 5) (n := S + 30) (by omega) (by omega) ?_
    exact kk _ _ _ _ _ _ (Rel_up hsim.2.2 (by omega)) hI2 hPC2 hPM2 hS (lv_sub hl [2, 3, 4, 5, 6] rfl)

-- the law's thirty calls, one by one: from the call to the loop's end (own text, part by program)
theorem lg_cmp_same {x y : Int64} (h : x = y) : lg_cmp x y = 0 := by
  subst h
  unfold lg_cmp
  rw [if_neg (fun h9 => by simp at h9), if_pos rfl]
theorem cdA_0 {k : Int32} (h : cdA k = 0) : k = 0 := by
  unfold cdA at h
  by_cases c : k = 0
  · exact c
  · rw [if_neg c] at h
    split at h
    · exact absurd h (by decide)
    · exact absurd h (by decide)
theorem cdC_0 {k : Int32} (h : cdC k = 0) : k = 0 := by
  unfold cdC at h
  by_cases c : k = 0
  · exact c
  · rw [if_neg c] at h; exact absurd h (by decide)
theorem wM_k {D : va_G} {cI : ClassId} {qc qm : Nat → Nat} {u : bU} {H H1 : Heap} (hP : va_P D vwCl (wM cI qm u) H) (hk : ∀ x : Nat, x < H.size → ¬ bA 24 qc H.size x → H1[x]? = H[x]?) (hqq : ∀ i j : Nat, i < 24 → j < 7 → qc i ≠ qm j) (hqm : bInj 7 qm) : va_P D vwCl (wM cI qm u) H1 := hP.kept fun k x hx => by
  have hlt : x.1 < H.size := (hP k x hx).lt
  refine hk _ hlt (fun h9 => ?_)
  rcases h9 with ⟨j, hj, ej⟩ | h9
  · have h1 : ((wM cI qm u).map Prod.fst)[k]? = some x.1 := by rw [List.getElem?_map, hx]; rfl
    rw [wM_addr, List.getElem?_map] at h1
    rcases Nat.lt_or_ge k 7 with hk7 | hk7
    · rw [List.getElem?_range hk7] at h1
      exact hqq j k hj hk7 (ej.trans (Option.some.inj h1).symm)
    · rw [List.getElem?_eq_none (by simpa using hk7)] at h1
      cases h1
  · omega
theorem wCo_m {D : va_G} {cI cO cL : ClassId} {qc qm : Nat → Nat} {u : bU} {g : Nat → Int64} {H H1 : Heap} (hP : va_P D vwCl (wCo cI cO cL qc u g) H) (hk : ∀ x : Nat, x < H.size → ¬ bA 7 qm H.size x → H1[x]? = H[x]?) (hqq : ∀ i j : Nat, i < 24 → j < 7 → qc i ≠ qm j) (hq : bInj 24 qc) : va_P D vwCl (wCo cI cO cL qc u g) H1 := hP.kept fun k x hx => by
  have hlt : x.1 < H.size := (hP k x hx).lt
  refine hk _ hlt (fun h9 => ?_)
  rcases h9 with ⟨j, hj, ej⟩ | h9
  · have h1 : ((wCo cI cO cL qc u g).map Prod.fst)[k]? = some x.1 := by rw [List.getElem?_map, hx]; rfl
    rw [wCo_addr, List.getElem?_map] at h1
    rcases Nat.lt_or_ge k 24 with hk7 | hk7
    · rw [List.getElem?_range hk7] at h1
      exact hqq k j hk7 hj ((Option.some.inj h1).trans ej.symm)
    · rw [List.getElem?_eq_none (by simpa using hk7)] at h1
      cases h1
  · omega
theorem bd_LaddBrand : yL_addBrand.cls ≠ "java/lang/invoke/MethodHandle" ∧ yL_addBrand.cls ≠ "java/lang/invoke/VarHandle" ∧ (parseMethodDescriptor yL_addBrand.desc).map (fun d => d.parameters.length) = some 4 := by decide +kernel
theorem bd_LaddShop : yL_addShop.cls ≠ "java/lang/invoke/MethodHandle" ∧ yL_addShop.cls ≠ "java/lang/invoke/VarHandle" ∧ (parseMethodDescriptor yL_addShop.desc).map (fun d => d.parameters.length) = some 3 := by decide +kernel
theorem bd_LbuyCrates : yL_buyCrates.cls ≠ "java/lang/invoke/MethodHandle" ∧ yL_buyCrates.cls ≠ "java/lang/invoke/VarHandle" ∧ (parseMethodDescriptor yL_buyCrates.desc).map (fun d => d.parameters.length) = some 3 := by decide +kernel
theorem bd_Ldeliver : yL_deliver.cls ≠ "java/lang/invoke/MethodHandle" ∧ yL_deliver.cls ≠ "java/lang/invoke/VarHandle" ∧ (parseMethodDescriptor yL_deliver.desc).map (fun d => d.parameters.length) = some 5 := by decide +kernel
theorem bd_Lfill : yL_fill.cls ≠ "java/lang/invoke/MethodHandle" ∧ yL_fill.cls ≠ "java/lang/invoke/VarHandle" ∧ (parseMethodDescriptor yL_fill.desc).map (fun d => d.parameters.length) = some 4 := by decide +kernel
theorem bd_Lsell : yL_sell.cls ≠ "java/lang/invoke/MethodHandle" ∧ yL_sell.cls ≠ "java/lang/invoke/VarHandle" ∧ (parseMethodDescriptor yL_sell.desc).map (fun d => d.parameters.length) = some 5 := by decide +kernel
theorem bd_Lset : yL_set.cls ≠ "java/lang/invoke/MethodHandle" ∧ yL_set.cls ≠ "java/lang/invoke/VarHandle" ∧ (parseMethodDescriptor yL_set.desc).map (fun d => d.parameters.length) = some 4 := by decide +kernel
theorem bd_LtakeBack : yL_takeBack.cls ≠ "java/lang/invoke/MethodHandle" ∧ yL_takeBack.cls ≠ "java/lang/invoke/VarHandle" ∧ (parseMethodDescriptor yL_takeBack.desc).map (fun d => d.parameters.length) = some 5 := by decide +kernel
theorem bd_X6addBrand : yX6_addBrand.cls ≠ "java/lang/invoke/MethodHandle" ∧ yX6_addBrand.cls ≠ "java/lang/invoke/VarHandle" ∧ (parseMethodDescriptor yX6_addBrand.desc).map (fun d => d.parameters.length) = some 2 := by decide +kernel
theorem bd_X6addShop : yX6_addShop.cls ≠ "java/lang/invoke/MethodHandle" ∧ yX6_addShop.cls ≠ "java/lang/invoke/VarHandle" ∧ (parseMethodDescriptor yX6_addShop.desc).map (fun d => d.parameters.length) = some 1 := by decide +kernel
theorem bd_X6buyCrates : yX6_buyCrates.cls ≠ "java/lang/invoke/MethodHandle" ∧ yX6_buyCrates.cls ≠ "java/lang/invoke/VarHandle" ∧ (parseMethodDescriptor yX6_buyCrates.desc).map (fun d => d.parameters.length) = some 1 := by decide +kernel
theorem bd_X6deliver : yX6_deliver.cls ≠ "java/lang/invoke/MethodHandle" ∧ yX6_deliver.cls ≠ "java/lang/invoke/VarHandle" ∧ (parseMethodDescriptor yX6_deliver.desc).map (fun d => d.parameters.length) = some 3 := by decide +kernel
theorem bd_X6fill : yX6_fill.cls ≠ "java/lang/invoke/MethodHandle" ∧ yX6_fill.cls ≠ "java/lang/invoke/VarHandle" ∧ (parseMethodDescriptor yX6_fill.desc).map (fun d => d.parameters.length) = some 2 := by decide +kernel
theorem bd_X6sell : yX6_sell.cls ≠ "java/lang/invoke/MethodHandle" ∧ yX6_sell.cls ≠ "java/lang/invoke/VarHandle" ∧ (parseMethodDescriptor yX6_sell.desc).map (fun d => d.parameters.length) = some 3 := by decide +kernel
theorem bd_X6set : yX6_set.cls ≠ "java/lang/invoke/MethodHandle" ∧ yX6_set.cls ≠ "java/lang/invoke/VarHandle" ∧ (parseMethodDescriptor yX6_set.desc).map (fun d => d.parameters.length) = some 2 := by decide +kernel
theorem bd_X6takeBack : yX6_takeBack.cls ≠ "java/lang/invoke/MethodHandle" ∧ yX6_takeBack.cls ≠ "java/lang/invoke/VarHandle" ∧ (parseMethodDescriptor yX6_takeBack.desc).map (fun d => d.parameters.length) = some 3 := by decide +kernel
theorem bd_X6thrown : yX6_thrown.cls ≠ "java/lang/invoke/MethodHandle" ∧ yX6_thrown.cls ≠ "java/lang/invoke/VarHandle" ∧ (parseMethodDescriptor yX6_thrown.desc).map (fun d => d.parameters.length) = some 0 := by decide +kernel
set_option maxHeartbeats 4000000 in
set_option maxRecDepth 100000 in
theorem LC_0 {p : Program} {e : Env} {s : State} {m : MethodId} {below : List Frame} {meth : Method} {c : Code} {l : Launch} {b L : Nat} {xs : Nat → Int32} {D : va_G} {cI cO cL : ClassId} {qc qm : Nat → Nat} (hl9 : l.stackTraces = false) (C0 : lw_At p s m meth c b L xs) (hk : bK D [(cI, .int), (cO, .object RX2)] s) (hX : bXe (fun q : Nat => s.heap.size ≤ q) s s.heap) (hKL : va_K D vwCl [(cL, .long)] s) (hN : bNC s) (hq : bInj 24 qc) (hqm : bInj 7 qm) (hqq : ∀ i j : Nat, i < 24 → j < 7 → qc i ≠ qm j) (hgc : ∀ i : Nat, i < 24 → s.heap.size ≤ qc i) (hgm : ∀ j : Nat, j < 7 → s.heap.size ≤ qm j) {B : Nat} (hB : B + 2600000 < 2000000000) (hB0 : 100000 ≤ B) {a bb : bU} {g : Nat → Int64} (hR : Rel B a bb) (hI : mInv bb) {i : Nat} (hi : i + 4 ≤ L) (hL : L ≤ 2048) {H : Heap} {locs : List Loc} (hPC : va_P D vwCl (wCo cI cO cL qc a g) H) (hPM : va_P D vwCl (wM cI qm bb) H) (hS : va_S (fun q : Nat => s.heap.size ≤ q) s.heap H locs) {ls : Array Slot} (hl : lv_has ls 9 [(0, .ref b), (1, .ref (qc 0)), (2, .ref (qm 0)), (3, .ref (qc 23)), (4, .int (nI i))]) {C S : Nat} (hC : C + 5 ≤ 601024) (hSl : S + 30 ≤ 7293034) {Q : State → Prop} (kk : ∀ (a2 b2 : bU) (g2 : Nat → Int64) (H2 : Heap) (locs2 : List Loc) (ls2 : Array Slot), Rel (B + 2600000) a2 b2 → mInv b2 → va_P D vwCl (wCo cI cO cL qc a2 g2) H2 → va_P D vwCl (wM cI qm b2) H2 → va_S (fun q : Nat => s.heap.size ≤ q) s.heap H2 locs2 → lv_has ls2 9 [(0, .ref b), (1, .ref (qc 0)), (2, .ref (qm 0)), (3, .ref (qc 23)), (4, .int (nI i))] → W p l e room_1 s m #[Value.ref b] below meth c H2 locs2 (C + 5) (S + 30) Q (F0 m 2009 ls2 [])) : W p l e room_1 s m #[Value.ref b] below meth c H locs C S Q (F0 m 172 ls []) := by
  obtain ⟨hx, hb, hr, hml, hown, hts0, hXs, hbl, hlocks, hgv⟩ := C0
  have hts : ∀ w ∈ wsL_law, w.before #[Value.ref b] s = true := fun w h => hts0 w (wsL_law_in w h)
  have hbA : ¬ (fun q : Nat => s.heap.size ≤ q) b := Nat.not_le.mpr hbl
  have hk6 : bK D [(cI, .int)] s := ⟨va_K.sub hk.1 [0] rfl, hk.2⟩
  refine lv_aload_n hx hb dL_law_172 rfl (lv_at hl 1 rfl) ?_
  refine lv_aload_n hx hb dL_law_173 rfl (lv_at hl 0 rfl) ?_
  refine lv_iload hx hb dL_law_174 (lv_at hl 4 rfl) ?_
  refine lv_iconst (v := 1) hx hb dL_law_176 (by decide) ?_
  refine lv_iadd hx hb dL_law_177 ?_
  refine lv_topi (fun z9 hz9 => ?_)
  obtain rfl : z9 = nI (i + 1) := hz9.trans (nI_add i 1)
  refine va_sld hx hb hXs hbl hbA hS (vp_in_nI (by omega) (by omega)) dL_law_178 ?_
  refine lv_aload_n hx hb dL_law_179 rfl (lv_at hl 0 rfl) ?_
  refine lv_iload hx hb dL_law_180 (lv_at hl 4 rfl) ?_
  refine lv_iconst (v := 2) hx hb dL_law_182 (by decide) ?_
  refine lv_iadd hx hb dL_law_183 ?_
  refine lv_topi (fun z9 hz9 => ?_)
  obtain rfl : z9 = nI (i + 2) := hz9.trans (nI_add i 2)
  refine va_sld hx hb hXs hbl hbA hS (vp_in_nI (by omega) (by omega)) dL_law_184 ?_
  refine lv_aload_n hx hb dL_law_185 rfl (lv_at hl 3 rfl) ?_
  have hAB : ∀ x : Nat, bA 24 qc H.size x → s.heap.size ≤ x := fun x hx9 => hx9.elim (fun ⟨k9, h9, e9⟩ => e9 ▸ hgc k9 h9) (fun h9 => Nat.le_trans hS.1 h9)
  refine va_calli (vx_runSW (As := [.ref (qc 0), .int (xs (nI (i + 1)).toNatClampNeg), .int (xs (nI (i + 2)).toNatClampNeg), .ref (qc 23)]) (rest := []) ⟨hx, hb, hml, hown, hts⟩ (CL_addBrand l D cI cO cL qc a g H hq hl9 hPC (xs (nI (i + 1)).toNatClampNeg) (xs (nI (i + 2)).toNatClampNeg) (lat_of hR)) (vx_cwSW 4 hts gL_law_L_addBrand rfl rfl rfl bd_LaddBrand ⟨Nat.le_of_ble_eq_true rfl, Nat.le_of_ble_eq_true rfl⟩) (bPSL hk hX hKL hN hS hAB) rfl rfl hl.1 rfl (lv_room (Nat.le_of_ble_eq_true rfl)) dL_law_186 ⟨by show _ ≤ 601024; omega, by show _ ≤ 7293034; omega⟩) hS (fun x _ h => hAB x h) hAB (fun r g1 t H1 locs ht _ hw hB1 hz1 hk1 hS => ?_)
  rw [ht] at hB1
  clear ht
  have hPM := wM_k hPM hk1 hqq hqm
  refine W.widen (k := C + 5) (n := S + 30) (by omega) (by omega) ?_
  refine lv_istore (lv' := [(5, .int r), (0, .ref b), (1, .ref (qc 0)), (2, .ref (qm 0)), (3, .ref (qc 23)), (4, .int (nI i))]) hx hb dL_law_189 hl (by decide) rfl (fun ls hl => ?_)
  refine lv_aload_n hx hb dL_law_191 rfl (lv_at hl 3 rfl) ?_
  refine lv_aload_n hx hb dL_law_192 rfl (lv_at hl 1 rfl) ?_
  refine lv_iload hx hb dL_law_193 (lv_at hl 5 rfl) ?_
  refine lv_iconst (v := 1) hx hb dL_law_195 (by decide) ?_
  refine lv_iadd hx hb dL_law_196 ?_
  refine lv_topi (fun z9 hz9 => ?_)
  obtain rfl : z9 = nI (i + 1) := hz9.trans (nI_add i 1)
  refine va_sld hx hb hXs hbl hbA hS (vp_in_nI (by omega) (by omega)) dL_law_197 ?_
  refine lv_aload_n hx hb dL_law_198 rfl (lv_at hl 1 rfl) ?_
  refine lv_iload hx hb dL_law_199 (lv_at hl 5 rfl) ?_
  refine lv_iconst (v := 2) hx hb dL_law_201 (by decide) ?_
  refine lv_iadd hx hb dL_law_202 ?_
  refine lv_topi (fun z9 hz9 => ?_)
  obtain rfl : z9 = nI (i + 2) := hz9.trans (nI_add i 2)
  refine va_sld hx hb hXs hbl hbA hS (vp_in_nI (by omega) (by omega)) dL_law_203 ?_
  have hsim := st_addBrand hR (xs (nI (i + 1)).toNatClampNeg) (xs (nI (i + 2)).toNatClampNeg)
  have hAM : ∀ x : Nat, bA 7 qm H1.size x → s.heap.size ≤ x := fun x hx9 => hx9.elim (fun ⟨k9, h9, e9⟩ => e9 ▸ hgm k9 h9) (fun h9 => Nat.le_trans hS.1 h9)
  refine va_calli (va_runV (As := [.int (xs (nI (i + 1)).toNatClampNeg), .int (xs (nI (i + 2)).toNatClampNeg)]) (rest := []) ⟨hx, hb, hml, hown, hts⟩ (C6_addBrand l D cI qm bb H1 hqm hPM hI (xs (nI (i + 1)).toNatClampNeg) (xs (nI (i + 2)).toNatClampNeg)) (cwV 2 hts gL_law_X6_addBrand rfl rfl rfl ⟨rfl, bd_X6addBrand⟩ ⟨Nat.le_of_ble_eq_true rfl, Nat.le_of_ble_eq_true rfl⟩) (bPV hk6 (va_recv hk6.1 hPM (ci := 6) (q0 := 0) rfl (wM_0 _ _ _))) rfl rfl hl.1 rfl (lv_room (Nat.le_of_ble_eq_true rfl)) dL_law_204 ⟨by show _ ≤ 601024; omega, by show _ ≤ 7293034; omega⟩) hS (fun x _ h => hAM x h) hAM (fun y b2 t H2 locs ht _ hw2 hB2 hz2 hk2 hS => ?_)
  rw [ht] at hB2
  clear ht
  obtain rfl : y = (F6_addBrand bb (xs (nI (i + 1)).toNatClampNeg) (xs (nI (i + 2)).toNatClampNeg)).1 := by rw [← hw2]
  obtain rfl : b2 = (F6_addBrand bb (xs (nI (i + 1)).toNatClampNeg) (xs (nI (i + 2)).toNatClampNeg)).2 := by rw [← hw2]
  obtain ⟨hPM2, hI2⟩ := hB2
  have hPC2 := wCo_m hB1 hk2 hqq hq
  refine lv_istore (lv' := [(6, .int (F6_addBrand bb (xs (nI (i + 1)).toNatClampNeg) (xs (nI (i + 2)).toNatClampNeg)).1), (5, .int r), (0, .ref b), (1, .ref (qc 0)), (2, .ref (qm 0)), (3, .ref (qc 23)), (4, .int (nI i))]) hx hb dL_law_207 hl (by decide) rfl (fun ls hl => ?_)
  refine lv_aload_n hx hb dL_law_209 rfl (lv_at hl 4 rfl) ?_
  refine bcall_Ri (va_runV (As := []) (rest := []) ⟨hx, hb, hml, hown, hts⟩ (C6_thrown l D cI qm _ _ hPM2 hI2) (cwV 0 hts gL_law_X6_thrown rfl rfl rfl ⟨rfl, bd_X6thrown⟩ ⟨Nat.le_of_ble_eq_true rfl, Nat.le_of_ble_eq_true rfl⟩) (bPV hk6 (va_recv hk6.1 hPM2 (ci := 6) (q0 := 0) rfl (wM_0 _ _ _))) rfl rfl hl.1 rfl (lv_room (Nat.le_of_ble_eq_true rfl)) dL_law_210 ⟨by show _ ≤ 601024; omega, by show _ ≤ 7293034; omega⟩) hS (fun locs hS => ?_)
  refine lv_iload hx hb dL_law_213 (lv_at hl 1 rfl) ?_
  refine lv_icmp_eq (tgt := 220) hx hb dL_law_215 (by decide) (fun _ => ?_) (fun c9 => absurd (hsim.1.trans hw.1.symm) c9)
  refine lv_iload hx hb dL_law_220 (lv_at hl 1 rfl) ?_
  refine lv_if_ne (tgt := 237) hx hb dL_law_222 (by decide) (fun c9 => ?_) (fun c9 => ?_)
  · refine lv_goto (tgt := 2009) hx hb dL_law_237 (by decide) ?_
    refine W.widen (k := C + 5) (n := S + 30) (by omega) (by omega) ?_
    exact kk _ _ _ _ _ _ (Rel_up hsim.2.2 (by omega)) hI2 hPC2 hPM2 hS (lv_sub hl [2, 3, 4, 5, 6] rfl)
  · refine lv_aload_n hx hb dL_law_225 rfl (lv_at hl 5 rfl) ?_
    refine lv_iconst (v := 0) hx hb dL_law_226 (by decide) ?_
    refine va_lald hx hb hKL hPC2 23 0 rfl rfl (vp_in_nI (n := 0) (by decide) (by decide)) dL_law_227 ?_
    refine lv_iload hx hb dL_law_228 (lv_at hl 0 rfl) ?_
    refine lv_i2l (v := ((F6_addBrand bb (xs (nI (i + 1)).toNatClampNeg) (xs (nI (i + 2)).toNatClampNeg)).1).toInt64) hx hb dL_law_230 rfl ?_
    refine W.lcmp hx hb dL_law_231 ?_
    have hv0 : (F5_addBrand a (xs (nI (i + 1)).toNatClampNeg) (xs (nI (i + 2)).toNatClampNeg)).1 = 0 := cdA_0 (hw.1.symm.trans c9)
    rw [show (0 : Int32).toNatClampNeg = 0 from by decide, lg_cmp_same ((hw.2 hv0).trans (congrArg Int32.toInt64 (hsim.2.1 hv0)))]
    refine lv_if_eq (tgt := 237) hx hb dL_law_232 (by decide) (fun _ => ?_) (fun h9 => absurd rfl h9)
    refine lv_goto (tgt := 2009) hx hb dL_law_237 (by decide) ?_
    refine W.widen (k := C + 5) (n := S + 30) (by omega) (by omega) ?_
    exact kk _ _ _ _ _ _ (Rel_up hsim.2.2 (by omega)) hI2 hPC2 hPM2 hS (lv_sub hl [2, 3, 4, 5, 6] rfl)
set_option maxHeartbeats 4000000 in
set_option maxRecDepth 100000 in
theorem LC_1 {p : Program} {e : Env} {s : State} {m : MethodId} {below : List Frame} {meth : Method} {c : Code} {l : Launch} {b L : Nat} {xs : Nat → Int32} {D : va_G} {cI cO cL : ClassId} {qc qm : Nat → Nat} (hl9 : l.stackTraces = false) (C0 : lw_At p s m meth c b L xs) (hk : bK D [(cI, .int), (cO, .object RX2)] s) (hX : bXe (fun q : Nat => s.heap.size ≤ q) s s.heap) (hKL : va_K D vwCl [(cL, .long)] s) (hN : bNC s) (hq : bInj 24 qc) (hqm : bInj 7 qm) (hqq : ∀ i j : Nat, i < 24 → j < 7 → qc i ≠ qm j) (hgc : ∀ i : Nat, i < 24 → s.heap.size ≤ qc i) (hgm : ∀ j : Nat, j < 7 → s.heap.size ≤ qm j) {B : Nat} (hB : B + 2600000 < 2000000000) (hB0 : 100000 ≤ B) {a bb : bU} {g : Nat → Int64} (hR : Rel B a bb) (hI : mInv bb) {i : Nat} (hi : i + 4 ≤ L) (hL : L ≤ 2048) {H : Heap} {locs : List Loc} (hPC : va_P D vwCl (wCo cI cO cL qc a g) H) (hPM : va_P D vwCl (wM cI qm bb) H) (hS : va_S (fun q : Nat => s.heap.size ≤ q) s.heap H locs) {ls : Array Slot} (hl : lv_has ls 9 [(0, .ref b), (1, .ref (qc 0)), (2, .ref (qm 0)), (3, .ref (qc 23)), (4, .int (nI i))]) {C S : Nat} (hC : C + 5 ≤ 601024) (hSl : S + 30 ≤ 7293034) {Q : State → Prop} (kk : ∀ (a2 b2 : bU) (g2 : Nat → Int64) (H2 : Heap) (locs2 : List Loc) (ls2 : Array Slot), Rel (B + 2600000) a2 b2 → mInv b2 → va_P D vwCl (wCo cI cO cL qc a2 g2) H2 → va_P D vwCl (wM cI qm b2) H2 → va_S (fun q : Nat => s.heap.size ≤ q) s.heap H2 locs2 → lv_has ls2 9 [(0, .ref b), (1, .ref (qc 0)), (2, .ref (qm 0)), (3, .ref (qc 23)), (4, .int (nI i))] → W p l e room_1 s m #[Value.ref b] below meth c H2 locs2 (C + 5) (S + 30) Q (F0 m 2009 ls2 [])) : W p l e room_1 s m #[Value.ref b] below meth c H locs C S Q (F0 m 240 ls []) := by
  obtain ⟨hx, hb, hr, hml, hown, hts0, hXs, hbl, hlocks, hgv⟩ := C0
  have hts : ∀ w ∈ wsL_law, w.before #[Value.ref b] s = true := fun w h => hts0 w (wsL_law_in w h)
  have hbA : ¬ (fun q : Nat => s.heap.size ≤ q) b := Nat.not_le.mpr hbl
  have hk6 : bK D [(cI, .int)] s := ⟨va_K.sub hk.1 [0] rfl, hk.2⟩
  refine lv_aload_n hx hb dL_law_240 rfl (lv_at hl 1 rfl) ?_
  refine lv_aload_n hx hb dL_law_241 rfl (lv_at hl 0 rfl) ?_
  refine lv_iload hx hb dL_law_242 (lv_at hl 4 rfl) ?_
  refine lv_iconst (v := 1) hx hb dL_law_244 (by decide) ?_
  refine lv_iadd hx hb dL_law_245 ?_
  refine lv_topi (fun z9 hz9 => ?_)
  obtain rfl : z9 = nI (i + 1) := hz9.trans (nI_add i 1)
  refine va_sld hx hb hXs hbl hbA hS (vp_in_nI (by omega) (by omega)) dL_law_246 ?_
  refine lv_aload_n hx hb dL_law_247 rfl (lv_at hl 3 rfl) ?_
  have hAB : ∀ x : Nat, bA 24 qc H.size x → s.heap.size ≤ x := fun x hx9 => hx9.elim (fun ⟨k9, h9, e9⟩ => e9 ▸ hgc k9 h9) (fun h9 => Nat.le_trans hS.1 h9)
  refine va_calli (vx_runSW (As := [.ref (qc 0), .int (xs (nI (i + 1)).toNatClampNeg), .ref (qc 23)]) (rest := []) ⟨hx, hb, hml, hown, hts⟩ (CL_addShop l D cI cO cL qc a g H hq hl9 hPC (xs (nI (i + 1)).toNatClampNeg) (lat_of hR)) (vx_cwSW 3 hts gL_law_L_addShop rfl rfl rfl bd_LaddShop ⟨Nat.le_of_ble_eq_true rfl, Nat.le_of_ble_eq_true rfl⟩) (bPSL hk hX hKL hN hS hAB) rfl rfl hl.1 rfl (lv_room (Nat.le_of_ble_eq_true rfl)) dL_law_248 ⟨by show _ ≤ 601024; omega, by show _ ≤ 7293034; omega⟩) hS (fun x _ h => hAB x h) hAB (fun r g1 t H1 locs ht _ hw hB1 hz1 hk1 hS => ?_)
  rw [ht] at hB1
  clear ht
  have hPM := wM_k hPM hk1 hqq hqm
  refine W.widen (k := C + 5) (n := S + 30) (by omega) (by omega) ?_
  refine lv_istore (lv' := [(5, .int r), (0, .ref b), (1, .ref (qc 0)), (2, .ref (qm 0)), (3, .ref (qc 23)), (4, .int (nI i))]) hx hb dL_law_251 hl (by decide) rfl (fun ls hl => ?_)
  refine lv_aload_n hx hb dL_law_253 rfl (lv_at hl 3 rfl) ?_
  refine lv_aload_n hx hb dL_law_254 rfl (lv_at hl 1 rfl) ?_
  refine lv_iload hx hb dL_law_255 (lv_at hl 5 rfl) ?_
  refine lv_iconst (v := 1) hx hb dL_law_257 (by decide) ?_
  refine lv_iadd hx hb dL_law_258 ?_
  refine lv_topi (fun z9 hz9 => ?_)
  obtain rfl : z9 = nI (i + 1) := hz9.trans (nI_add i 1)
  refine va_sld hx hb hXs hbl hbA hS (vp_in_nI (by omega) (by omega)) dL_law_259 ?_
  have hsim := st_addShop (by omega) hB0 hR (xs (nI (i + 1)).toNatClampNeg)
  have hAM : ∀ x : Nat, bA 7 qm H1.size x → s.heap.size ≤ x := fun x hx9 => hx9.elim (fun ⟨k9, h9, e9⟩ => e9 ▸ hgm k9 h9) (fun h9 => Nat.le_trans hS.1 h9)
  refine va_calli (va_runV (As := [.int (xs (nI (i + 1)).toNatClampNeg)]) (rest := []) ⟨hx, hb, hml, hown, hts⟩ (C6_addShop l D cI qm bb H1 hqm hPM hI (xs (nI (i + 1)).toNatClampNeg)) (cwV 1 hts gL_law_X6_addShop rfl rfl rfl ⟨rfl, bd_X6addShop⟩ ⟨Nat.le_of_ble_eq_true rfl, Nat.le_of_ble_eq_true rfl⟩) (bPV hk6 (va_recv hk6.1 hPM (ci := 6) (q0 := 0) rfl (wM_0 _ _ _))) rfl rfl hl.1 rfl (lv_room (Nat.le_of_ble_eq_true rfl)) dL_law_260 ⟨by show _ ≤ 601024; omega, by show _ ≤ 7293034; omega⟩) hS (fun x _ h => hAM x h) hAM (fun y b2 t H2 locs ht _ hw2 hB2 hz2 hk2 hS => ?_)
  rw [ht] at hB2
  clear ht
  obtain rfl : y = (F6_addShop bb (xs (nI (i + 1)).toNatClampNeg)).1 := by rw [← hw2]
  obtain rfl : b2 = (F6_addShop bb (xs (nI (i + 1)).toNatClampNeg)).2 := by rw [← hw2]
  obtain ⟨hPM2, hI2⟩ := hB2
  have hPC2 := wCo_m hB1 hk2 hqq hq
  refine lv_istore (lv' := [(6, .int (F6_addShop bb (xs (nI (i + 1)).toNatClampNeg)).1), (5, .int r), (0, .ref b), (1, .ref (qc 0)), (2, .ref (qm 0)), (3, .ref (qc 23)), (4, .int (nI i))]) hx hb dL_law_263 hl (by decide) rfl (fun ls hl => ?_)
  refine lv_aload_n hx hb dL_law_265 rfl (lv_at hl 4 rfl) ?_
  refine bcall_Ri (va_runV (As := []) (rest := []) ⟨hx, hb, hml, hown, hts⟩ (C6_thrown l D cI qm _ _ hPM2 hI2) (cwV 0 hts gL_law_X6_thrown rfl rfl rfl ⟨rfl, bd_X6thrown⟩ ⟨Nat.le_of_ble_eq_true rfl, Nat.le_of_ble_eq_true rfl⟩) (bPV hk6 (va_recv hk6.1 hPM2 (ci := 6) (q0 := 0) rfl (wM_0 _ _ _))) rfl rfl hl.1 rfl (lv_room (Nat.le_of_ble_eq_true rfl)) dL_law_266 ⟨by show _ ≤ 601024; omega, by show _ ≤ 7293034; omega⟩) hS (fun locs hS => ?_)
  refine lv_iload hx hb dL_law_269 (lv_at hl 1 rfl) ?_
  refine lv_icmp_eq (tgt := 276) hx hb dL_law_271 (by decide) (fun _ => ?_) (fun c9 => absurd (hsim.1.trans hw.1.symm) c9)
  refine lv_iload hx hb dL_law_276 (lv_at hl 1 rfl) ?_
  refine lv_if_ne (tgt := 293) hx hb dL_law_278 (by decide) (fun c9 => ?_) (fun c9 => ?_)
  · refine lv_goto (tgt := 2009) hx hb dL_law_293 (by decide) ?_
    refine W.widen (k := C + 5) (n := S + 30) (by omega) (by omega) ?_
    exact kk _ _ _ _ _ _ (Rel_up hsim.2.2 (by omega)) hI2 hPC2 hPM2 hS (lv_sub hl [2, 3, 4, 5, 6] rfl)
  · refine lv_aload_n hx hb dL_law_281 rfl (lv_at hl 5 rfl) ?_
    refine lv_iconst (v := 0) hx hb dL_law_282 (by decide) ?_
    refine va_lald hx hb hKL hPC2 23 0 rfl rfl (vp_in_nI (n := 0) (by decide) (by decide)) dL_law_283 ?_
    refine lv_iload hx hb dL_law_284 (lv_at hl 0 rfl) ?_
    refine lv_i2l (v := ((F6_addShop bb (xs (nI (i + 1)).toNatClampNeg)).1).toInt64) hx hb dL_law_286 rfl ?_
    refine W.lcmp hx hb dL_law_287 ?_
    have hv0 : (F5_addShop a (xs (nI (i + 1)).toNatClampNeg)).1 = 0 := cdA_0 (hw.1.symm.trans c9)
    rw [show (0 : Int32).toNatClampNeg = 0 from by decide, lg_cmp_same ((hw.2 hv0).trans (congrArg Int32.toInt64 (hsim.2.1 hv0)))]
    refine lv_if_eq (tgt := 293) hx hb dL_law_288 (by decide) (fun _ => ?_) (fun h9 => absurd rfl h9)
    refine lv_goto (tgt := 2009) hx hb dL_law_293 (by decide) ?_
    refine W.widen (k := C + 5) (n := S + 30) (by omega) (by omega) ?_
    exact kk _ _ _ _ _ _ (Rel_up hsim.2.2 (by omega)) hI2 hPC2 hPM2 hS (lv_sub hl [2, 3, 4, 5, 6] rfl)
set_option maxHeartbeats 4000000 in
set_option maxRecDepth 100000 in
theorem LC_2 {p : Program} {e : Env} {s : State} {m : MethodId} {below : List Frame} {meth : Method} {c : Code} {l : Launch} {b L : Nat} {xs : Nat → Int32} {D : va_G} {cI cO cL : ClassId} {qc qm : Nat → Nat} (hl9 : l.stackTraces = false) (C0 : lw_At p s m meth c b L xs) (hk : bK D [(cI, .int), (cO, .object RX2)] s) (hX : bXe (fun q : Nat => s.heap.size ≤ q) s s.heap) (hKL : va_K D vwCl [(cL, .long)] s) (hN : bNC s) (hq : bInj 24 qc) (hqm : bInj 7 qm) (hqq : ∀ i j : Nat, i < 24 → j < 7 → qc i ≠ qm j) (hgc : ∀ i : Nat, i < 24 → s.heap.size ≤ qc i) (hgm : ∀ j : Nat, j < 7 → s.heap.size ≤ qm j) {B : Nat} (hB : B + 2600000 < 2000000000) (hB0 : 100000 ≤ B) {a bb : bU} {g : Nat → Int64} (hR : Rel B a bb) (hI : mInv bb) {i : Nat} (hi : i + 4 ≤ L) (hL : L ≤ 2048) {H : Heap} {locs : List Loc} (hPC : va_P D vwCl (wCo cI cO cL qc a g) H) (hPM : va_P D vwCl (wM cI qm bb) H) (hS : va_S (fun q : Nat => s.heap.size ≤ q) s.heap H locs) {ls : Array Slot} (hl : lv_has ls 9 [(0, .ref b), (1, .ref (qc 0)), (2, .ref (qm 0)), (3, .ref (qc 23)), (4, .int (nI i))]) {C S : Nat} (hC : C + 5 ≤ 601024) (hSl : S + 30 ≤ 7293034) {Q : State → Prop} (kk : ∀ (a2 b2 : bU) (g2 : Nat → Int64) (H2 : Heap) (locs2 : List Loc) (ls2 : Array Slot), Rel (B + 2600000) a2 b2 → mInv b2 → va_P D vwCl (wCo cI cO cL qc a2 g2) H2 → va_P D vwCl (wM cI qm b2) H2 → va_S (fun q : Nat => s.heap.size ≤ q) s.heap H2 locs2 → lv_has ls2 9 [(0, .ref b), (1, .ref (qc 0)), (2, .ref (qm 0)), (3, .ref (qc 23)), (4, .int (nI i))] → W p l e room_1 s m #[Value.ref b] below meth c H2 locs2 (C + 5) (S + 30) Q (F0 m 2009 ls2 [])) : W p l e room_1 s m #[Value.ref b] below meth c H locs C S Q (F0 m 296 ls []) := by
  obtain ⟨hx, hb, hr, hml, hown, hts0, hXs, hbl, hlocks, hgv⟩ := C0
  have hts : ∀ w ∈ wsL_law, w.before #[Value.ref b] s = true := fun w h => hts0 w (wsL_law_in w h)
  have hbA : ¬ (fun q : Nat => s.heap.size ≤ q) b := Nat.not_le.mpr hbl
  have hk6 : bK D [(cI, .int)] s := ⟨va_K.sub hk.1 [0] rfl, hk.2⟩
  refine lv_aload_n hx hb dL_law_296 rfl (lv_at hl 1 rfl) ?_
  refine lv_aload_n hx hb dL_law_297 rfl (lv_at hl 0 rfl) ?_
  refine lv_iload hx hb dL_law_298 (lv_at hl 4 rfl) ?_
  refine lv_iconst (v := 1) hx hb dL_law_300 (by decide) ?_
  refine lv_iadd hx hb dL_law_301 ?_
  refine lv_topi (fun z9 hz9 => ?_)
  obtain rfl : z9 = nI (i + 1) := hz9.trans (nI_add i 1)
  refine va_sld hx hb hXs hbl hbA hS (vp_in_nI (by omega) (by omega)) dL_law_302 ?_
  refine lv_aload_n hx hb dL_law_303 rfl (lv_at hl 3 rfl) ?_
  have hAB : ∀ x : Nat, bA 24 qc H.size x → s.heap.size ≤ x := fun x hx9 => hx9.elim (fun ⟨k9, h9, e9⟩ => e9 ▸ hgc k9 h9) (fun h9 => Nat.le_trans hS.1 h9)
  refine va_calli (vx_runSW (As := [.ref (qc 0), .int (xs (nI (i + 1)).toNatClampNeg), .ref (qc 23)]) (rest := []) ⟨hx, hb, hml, hown, hts⟩ (CL_buyCrates l D cI cO cL qc a g H hq hl9 hPC (xs (nI (i + 1)).toNatClampNeg) (lat_of hR)) (vx_cwSW 3 hts gL_law_L_buyCrates rfl rfl rfl bd_LbuyCrates ⟨Nat.le_of_ble_eq_true rfl, Nat.le_of_ble_eq_true rfl⟩) (bPSL hk hX hKL hN hS hAB) rfl rfl hl.1 rfl (lv_room (Nat.le_of_ble_eq_true rfl)) dL_law_304 ⟨by show _ ≤ 601024; omega, by show _ ≤ 7293034; omega⟩) hS (fun x _ h => hAB x h) hAB (fun r g1 t H1 locs ht _ hw hB1 hz1 hk1 hS => ?_)
  rw [ht] at hB1
  clear ht
  have hPM := wM_k hPM hk1 hqq hqm
  refine W.widen (k := C + 5) (n := S + 30) (by omega) (by omega) ?_
  refine lv_istore (lv' := [(5, .int r), (0, .ref b), (1, .ref (qc 0)), (2, .ref (qm 0)), (3, .ref (qc 23)), (4, .int (nI i))]) hx hb dL_law_307 hl (by decide) rfl (fun ls hl => ?_)
  refine lv_aload_n hx hb dL_law_309 rfl (lv_at hl 3 rfl) ?_
  refine lv_aload_n hx hb dL_law_310 rfl (lv_at hl 1 rfl) ?_
  refine lv_iload hx hb dL_law_311 (lv_at hl 5 rfl) ?_
  refine lv_iconst (v := 1) hx hb dL_law_313 (by decide) ?_
  refine lv_iadd hx hb dL_law_314 ?_
  refine lv_topi (fun z9 hz9 => ?_)
  obtain rfl : z9 = nI (i + 1) := hz9.trans (nI_add i 1)
  refine va_sld hx hb hXs hbl hbA hS (vp_in_nI (by omega) (by omega)) dL_law_315 ?_
  have hsim := st_buyCrates hR (xs (nI (i + 1)).toNatClampNeg)
  have hAM : ∀ x : Nat, bA 7 qm H1.size x → s.heap.size ≤ x := fun x hx9 => hx9.elim (fun ⟨k9, h9, e9⟩ => e9 ▸ hgm k9 h9) (fun h9 => Nat.le_trans hS.1 h9)
  refine va_calli (va_runV (As := [.int (xs (nI (i + 1)).toNatClampNeg)]) (rest := []) ⟨hx, hb, hml, hown, hts⟩ (C6_buyCrates l D cI qm bb H1 hqm hPM hI (xs (nI (i + 1)).toNatClampNeg)) (cwV 1 hts gL_law_X6_buyCrates rfl rfl rfl ⟨rfl, bd_X6buyCrates⟩ ⟨Nat.le_of_ble_eq_true rfl, Nat.le_of_ble_eq_true rfl⟩) (bPV hk6 (va_recv hk6.1 hPM (ci := 6) (q0 := 0) rfl (wM_0 _ _ _))) rfl rfl hl.1 rfl (lv_room (Nat.le_of_ble_eq_true rfl)) dL_law_316 ⟨by show _ ≤ 601024; omega, by show _ ≤ 7293034; omega⟩) hS (fun x _ h => hAM x h) hAM (fun y b2 t H2 locs ht _ hw2 hB2 hz2 hk2 hS => ?_)
  rw [ht] at hB2
  clear ht
  obtain rfl : y = (F6_buyCrates bb (xs (nI (i + 1)).toNatClampNeg)).1 := by rw [← hw2]
  obtain rfl : b2 = (F6_buyCrates bb (xs (nI (i + 1)).toNatClampNeg)).2 := by rw [← hw2]
  obtain ⟨hPM2, hI2⟩ := hB2
  have hPC2 := wCo_m hB1 hk2 hqq hq
  refine lv_istore (lv' := [(6, .int (F6_buyCrates bb (xs (nI (i + 1)).toNatClampNeg)).1), (5, .int r), (0, .ref b), (1, .ref (qc 0)), (2, .ref (qm 0)), (3, .ref (qc 23)), (4, .int (nI i))]) hx hb dL_law_319 hl (by decide) rfl (fun ls hl => ?_)
  refine lv_aload_n hx hb dL_law_321 rfl (lv_at hl 4 rfl) ?_
  refine bcall_Ri (va_runV (As := []) (rest := []) ⟨hx, hb, hml, hown, hts⟩ (C6_thrown l D cI qm _ _ hPM2 hI2) (cwV 0 hts gL_law_X6_thrown rfl rfl rfl ⟨rfl, bd_X6thrown⟩ ⟨Nat.le_of_ble_eq_true rfl, Nat.le_of_ble_eq_true rfl⟩) (bPV hk6 (va_recv hk6.1 hPM2 (ci := 6) (q0 := 0) rfl (wM_0 _ _ _))) rfl rfl hl.1 rfl (lv_room (Nat.le_of_ble_eq_true rfl)) dL_law_322 ⟨by show _ ≤ 601024; omega, by show _ ≤ 7293034; omega⟩) hS (fun locs hS => ?_)
  refine lv_iload hx hb dL_law_325 (lv_at hl 1 rfl) ?_
  refine lv_icmp_eq (tgt := 332) hx hb dL_law_327 (by decide) (fun _ => ?_) (fun c9 => absurd (hsim.1.trans hw.1.symm) c9)
  refine lv_iload hx hb dL_law_332 (lv_at hl 1 rfl) ?_
  refine lv_if_ne (tgt := 349) hx hb dL_law_334 (by decide) (fun c9 => ?_) (fun c9 => ?_)
  · refine lv_goto (tgt := 2009) hx hb dL_law_349 (by decide) ?_
    refine W.widen (k := C + 5) (n := S + 30) (by omega) (by omega) ?_
    exact kk _ _ _ _ _ _ (Rel_up hsim.2.2 (by omega)) hI2 hPC2 hPM2 hS (lv_sub hl [2, 3, 4, 5, 6] rfl)
  · refine lv_aload_n hx hb dL_law_337 rfl (lv_at hl 5 rfl) ?_
    refine lv_iconst (v := 0) hx hb dL_law_338 (by decide) ?_
    refine va_lald hx hb hKL hPC2 23 0 rfl rfl (vp_in_nI (n := 0) (by decide) (by decide)) dL_law_339 ?_
    refine lv_iload hx hb dL_law_340 (lv_at hl 0 rfl) ?_
    refine lv_i2l (v := ((F6_buyCrates bb (xs (nI (i + 1)).toNatClampNeg)).1).toInt64) hx hb dL_law_342 rfl ?_
    refine W.lcmp hx hb dL_law_343 ?_
    have hv0 : (F5_buyCrates a (xs (nI (i + 1)).toNatClampNeg)).1 = 0 := cdA_0 (hw.1.symm.trans c9)
    rw [show (0 : Int32).toNatClampNeg = 0 from by decide, lg_cmp_same ((hw.2 hv0).trans (congrArg Int32.toInt64 (hsim.2.1 hv0)))]
    refine lv_if_eq (tgt := 349) hx hb dL_law_344 (by decide) (fun _ => ?_) (fun h9 => absurd rfl h9)
    refine lv_goto (tgt := 2009) hx hb dL_law_349 (by decide) ?_
    refine W.widen (k := C + 5) (n := S + 30) (by omega) (by omega) ?_
    exact kk _ _ _ _ _ _ (Rel_up hsim.2.2 (by omega)) hI2 hPC2 hPM2 hS (lv_sub hl [2, 3, 4, 5, 6] rfl)
set_option maxHeartbeats 4000000 in
set_option maxRecDepth 100000 in
theorem LC_3 {p : Program} {e : Env} {s : State} {m : MethodId} {below : List Frame} {meth : Method} {c : Code} {l : Launch} {b L : Nat} {xs : Nat → Int32} {D : va_G} {cI cO cL : ClassId} {qc qm : Nat → Nat} (hl9 : l.stackTraces = false) (C0 : lw_At p s m meth c b L xs) (hk : bK D [(cI, .int), (cO, .object RX2)] s) (hX : bXe (fun q : Nat => s.heap.size ≤ q) s s.heap) (hKL : va_K D vwCl [(cL, .long)] s) (hN : bNC s) (hq : bInj 24 qc) (hqm : bInj 7 qm) (hqq : ∀ i j : Nat, i < 24 → j < 7 → qc i ≠ qm j) (hgc : ∀ i : Nat, i < 24 → s.heap.size ≤ qc i) (hgm : ∀ j : Nat, j < 7 → s.heap.size ≤ qm j) {B : Nat} (hB : B + 2600000 < 2000000000) (hB0 : 100000 ≤ B) {a bb : bU} {g : Nat → Int64} (hR : Rel B a bb) (hI : mInv bb) {i : Nat} (hi : i + 4 ≤ L) (hL : L ≤ 2048) {H : Heap} {locs : List Loc} (hPC : va_P D vwCl (wCo cI cO cL qc a g) H) (hPM : va_P D vwCl (wM cI qm bb) H) (hS : va_S (fun q : Nat => s.heap.size ≤ q) s.heap H locs) {ls : Array Slot} (hl : lv_has ls 9 [(0, .ref b), (1, .ref (qc 0)), (2, .ref (qm 0)), (3, .ref (qc 23)), (4, .int (nI i))]) {C S : Nat} (hC : C + 5 ≤ 601024) (hSl : S + 30 ≤ 7293034) {Q : State → Prop} (kk : ∀ (a2 b2 : bU) (g2 : Nat → Int64) (H2 : Heap) (locs2 : List Loc) (ls2 : Array Slot), Rel (B + 2600000) a2 b2 → mInv b2 → va_P D vwCl (wCo cI cO cL qc a2 g2) H2 → va_P D vwCl (wM cI qm b2) H2 → va_S (fun q : Nat => s.heap.size ≤ q) s.heap H2 locs2 → lv_has ls2 9 [(0, .ref b), (1, .ref (qc 0)), (2, .ref (qm 0)), (3, .ref (qc 23)), (4, .int (nI i))] → W p l e room_1 s m #[Value.ref b] below meth c H2 locs2 (C + 5) (S + 30) Q (F0 m 2009 ls2 [])) : W p l e room_1 s m #[Value.ref b] below meth c H locs C S Q (F0 m 352 ls []) := by
  obtain ⟨hx, hb, hr, hml, hown, hts0, hXs, hbl, hlocks, hgv⟩ := C0
  have hts : ∀ w ∈ wsL_law, w.before #[Value.ref b] s = true := fun w h => hts0 w (wsL_law_in w h)
  have hbA : ¬ (fun q : Nat => s.heap.size ≤ q) b := Nat.not_le.mpr hbl
  have hk6 : bK D [(cI, .int)] s := ⟨va_K.sub hk.1 [0] rfl, hk.2⟩
  refine lv_aload_n hx hb dL_law_352 rfl (lv_at hl 1 rfl) ?_
  refine lv_aload_n hx hb dL_law_353 rfl (lv_at hl 0 rfl) ?_
  refine lv_iload hx hb dL_law_354 (lv_at hl 4 rfl) ?_
  refine lv_iconst (v := 1) hx hb dL_law_356 (by decide) ?_
  refine lv_iadd hx hb dL_law_357 ?_
  refine lv_topi (fun z9 hz9 => ?_)
  obtain rfl : z9 = nI (i + 1) := hz9.trans (nI_add i 1)
  refine va_sld hx hb hXs hbl hbA hS (vp_in_nI (by omega) (by omega)) dL_law_358 ?_
  refine lv_aload_n hx hb dL_law_359 rfl (lv_at hl 0 rfl) ?_
  refine lv_iload hx hb dL_law_360 (lv_at hl 4 rfl) ?_
  refine lv_iconst (v := 2) hx hb dL_law_362 (by decide) ?_
  refine lv_iadd hx hb dL_law_363 ?_
  refine lv_topi (fun z9 hz9 => ?_)
  obtain rfl : z9 = nI (i + 2) := hz9.trans (nI_add i 2)
  refine va_sld hx hb hXs hbl hbA hS (vp_in_nI (by omega) (by omega)) dL_law_364 ?_
  refine lv_aload_n hx hb dL_law_365 rfl (lv_at hl 3 rfl) ?_
  have hAB : ∀ x : Nat, bA 24 qc H.size x → s.heap.size ≤ x := fun x hx9 => hx9.elim (fun ⟨k9, h9, e9⟩ => e9 ▸ hgc k9 h9) (fun h9 => Nat.le_trans hS.1 h9)
  refine va_calli (vx_runSW (As := [.ref (qc 0), .int (xs (nI (i + 1)).toNatClampNeg), .int (xs (nI (i + 2)).toNatClampNeg), .ref (qc 23)]) (rest := []) ⟨hx, hb, hml, hown, hts⟩ (CL_set l D cI cO cL qc a g H hq hl9 hPC (xs (nI (i + 1)).toNatClampNeg) (xs (nI (i + 2)).toNatClampNeg) (lat_of hR)) (vx_cwSW 4 hts gL_law_L_set rfl rfl rfl bd_Lset ⟨Nat.le_of_ble_eq_true rfl, Nat.le_of_ble_eq_true rfl⟩) (bPSL hk hX hKL hN hS hAB) rfl rfl hl.1 rfl (lv_room (Nat.le_of_ble_eq_true rfl)) dL_law_366 ⟨by show _ ≤ 601024; omega, by show _ ≤ 7293034; omega⟩) hS (fun x _ h => hAB x h) hAB (fun r g1 t H1 locs ht _ hw hB1 hz1 hk1 hS => ?_)
  rw [ht] at hB1
  clear ht
  have hPM := wM_k hPM hk1 hqq hqm
  refine W.widen (k := C + 5) (n := S + 30) (by omega) (by omega) ?_
  refine lv_istore (lv' := [(5, .int r), (0, .ref b), (1, .ref (qc 0)), (2, .ref (qm 0)), (3, .ref (qc 23)), (4, .int (nI i))]) hx hb dL_law_369 hl (by decide) rfl (fun ls hl => ?_)
  refine lv_aload_n hx hb dL_law_371 rfl (lv_at hl 3 rfl) ?_
  refine lv_aload_n hx hb dL_law_372 rfl (lv_at hl 1 rfl) ?_
  refine lv_iload hx hb dL_law_373 (lv_at hl 5 rfl) ?_
  refine lv_iconst (v := 1) hx hb dL_law_375 (by decide) ?_
  refine lv_iadd hx hb dL_law_376 ?_
  refine lv_topi (fun z9 hz9 => ?_)
  obtain rfl : z9 = nI (i + 1) := hz9.trans (nI_add i 1)
  refine va_sld hx hb hXs hbl hbA hS (vp_in_nI (by omega) (by omega)) dL_law_377 ?_
  refine lv_aload_n hx hb dL_law_378 rfl (lv_at hl 1 rfl) ?_
  refine lv_iload hx hb dL_law_379 (lv_at hl 5 rfl) ?_
  refine lv_iconst (v := 2) hx hb dL_law_381 (by decide) ?_
  refine lv_iadd hx hb dL_law_382 ?_
  refine lv_topi (fun z9 hz9 => ?_)
  obtain rfl : z9 = nI (i + 2) := hz9.trans (nI_add i 2)
  refine va_sld hx hb hXs hbl hbA hS (vp_in_nI (by omega) (by omega)) dL_law_383 ?_
  have hsim := st_set hR (xs (nI (i + 1)).toNatClampNeg) (xs (nI (i + 2)).toNatClampNeg)
  have hAM : ∀ x : Nat, bA 7 qm H1.size x → s.heap.size ≤ x := fun x hx9 => hx9.elim (fun ⟨k9, h9, e9⟩ => e9 ▸ hgm k9 h9) (fun h9 => Nat.le_trans hS.1 h9)
  refine va_calli (va_runV (As := [.int (xs (nI (i + 1)).toNatClampNeg), .int (xs (nI (i + 2)).toNatClampNeg)]) (rest := []) ⟨hx, hb, hml, hown, hts⟩ (C6_set l D cI qm bb H1 hqm hPM hI (xs (nI (i + 1)).toNatClampNeg) (xs (nI (i + 2)).toNatClampNeg) (low_of hR)) (cwV 2 hts gL_law_X6_set rfl rfl rfl ⟨rfl, bd_X6set⟩ ⟨Nat.le_of_ble_eq_true rfl, Nat.le_of_ble_eq_true rfl⟩) (bPV hk6 (va_recv hk6.1 hPM (ci := 6) (q0 := 0) rfl (wM_0 _ _ _))) rfl rfl hl.1 rfl (lv_room (Nat.le_of_ble_eq_true rfl)) dL_law_384 ⟨by show _ ≤ 601024; omega, by show _ ≤ 7293034; omega⟩) hS (fun x _ h => hAM x h) hAM (fun y b2 t H2 locs ht _ hw2 hB2 hz2 hk2 hS => ?_)
  rw [ht] at hB2
  clear ht
  obtain rfl : y = (F6_set bb (xs (nI (i + 1)).toNatClampNeg) (xs (nI (i + 2)).toNatClampNeg)).1 := by rw [← hw2]
  obtain rfl : b2 = (F6_set bb (xs (nI (i + 1)).toNatClampNeg) (xs (nI (i + 2)).toNatClampNeg)).2 := by rw [← hw2]
  obtain ⟨hPM2, hI2⟩ := hB2
  have hPC2 := wCo_m hB1 hk2 hqq hq
  refine lv_istore (lv' := [(6, .int (F6_set bb (xs (nI (i + 1)).toNatClampNeg) (xs (nI (i + 2)).toNatClampNeg)).1), (5, .int r), (0, .ref b), (1, .ref (qc 0)), (2, .ref (qm 0)), (3, .ref (qc 23)), (4, .int (nI i))]) hx hb dL_law_387 hl (by decide) rfl (fun ls hl => ?_)
  refine lv_aload_n hx hb dL_law_389 rfl (lv_at hl 4 rfl) ?_
  refine bcall_Ri (va_runV (As := []) (rest := []) ⟨hx, hb, hml, hown, hts⟩ (C6_thrown l D cI qm _ _ hPM2 hI2) (cwV 0 hts gL_law_X6_thrown rfl rfl rfl ⟨rfl, bd_X6thrown⟩ ⟨Nat.le_of_ble_eq_true rfl, Nat.le_of_ble_eq_true rfl⟩) (bPV hk6 (va_recv hk6.1 hPM2 (ci := 6) (q0 := 0) rfl (wM_0 _ _ _))) rfl rfl hl.1 rfl (lv_room (Nat.le_of_ble_eq_true rfl)) dL_law_390 ⟨by show _ ≤ 601024; omega, by show _ ≤ 7293034; omega⟩) hS (fun locs hS => ?_)
  refine lv_iload hx hb dL_law_393 (lv_at hl 1 rfl) ?_
  refine lv_icmp_eq (tgt := 400) hx hb dL_law_395 (by decide) (fun _ => ?_) (fun c9 => absurd (hsim.1.trans hw.1.symm) c9)
  refine lv_iload hx hb dL_law_400 (lv_at hl 1 rfl) ?_
  refine lv_if_ne (tgt := 417) hx hb dL_law_402 (by decide) (fun c9 => ?_) (fun c9 => ?_)
  · refine lv_goto (tgt := 2009) hx hb dL_law_417 (by decide) ?_
    refine W.widen (k := C + 5) (n := S + 30) (by omega) (by omega) ?_
    exact kk _ _ _ _ _ _ (Rel_up hsim.2.2 (by omega)) hI2 hPC2 hPM2 hS (lv_sub hl [2, 3, 4, 5, 6] rfl)
  · refine lv_aload_n hx hb dL_law_405 rfl (lv_at hl 5 rfl) ?_
    refine lv_iconst (v := 0) hx hb dL_law_406 (by decide) ?_
    refine va_lald hx hb hKL hPC2 23 0 rfl rfl (vp_in_nI (n := 0) (by decide) (by decide)) dL_law_407 ?_
    refine lv_iload hx hb dL_law_408 (lv_at hl 0 rfl) ?_
    refine lv_i2l (v := ((F6_set bb (xs (nI (i + 1)).toNatClampNeg) (xs (nI (i + 2)).toNatClampNeg)).1).toInt64) hx hb dL_law_410 rfl ?_
    refine W.lcmp hx hb dL_law_411 ?_
    have hv0 : (F5_set a (xs (nI (i + 1)).toNatClampNeg) (xs (nI (i + 2)).toNatClampNeg)).1 = 0 := hw.1.symm.trans c9
    rw [show (0 : Int32).toNatClampNeg = 0 from by decide, lg_cmp_same ((hw.2 hv0).trans (congrArg Int32.toInt64 (hsim.2.1 hv0)))]
    refine lv_if_eq (tgt := 417) hx hb dL_law_412 (by decide) (fun _ => ?_) (fun h9 => absurd rfl h9)
    refine lv_goto (tgt := 2009) hx hb dL_law_417 (by decide) ?_
    refine W.widen (k := C + 5) (n := S + 30) (by omega) (by omega) ?_
    exact kk _ _ _ _ _ _ (Rel_up hsim.2.2 (by omega)) hI2 hPC2 hPM2 hS (lv_sub hl [2, 3, 4, 5, 6] rfl)
set_option maxHeartbeats 4000000 in
set_option maxRecDepth 100000 in
theorem LC_4 {p : Program} {e : Env} {s : State} {m : MethodId} {below : List Frame} {meth : Method} {c : Code} {l : Launch} {b L : Nat} {xs : Nat → Int32} {D : va_G} {cI cO cL : ClassId} {qc qm : Nat → Nat} (hl9 : l.stackTraces = false) (C0 : lw_At p s m meth c b L xs) (hk : bK D [(cI, .int), (cO, .object RX2)] s) (hX : bXe (fun q : Nat => s.heap.size ≤ q) s s.heap) (hKL : va_K D vwCl [(cL, .long)] s) (hN : bNC s) (hq : bInj 24 qc) (hqm : bInj 7 qm) (hqq : ∀ i j : Nat, i < 24 → j < 7 → qc i ≠ qm j) (hgc : ∀ i : Nat, i < 24 → s.heap.size ≤ qc i) (hgm : ∀ j : Nat, j < 7 → s.heap.size ≤ qm j) {B : Nat} (hB : B + 2600000 < 2000000000) (hB0 : 100000 ≤ B) {a bb : bU} {g : Nat → Int64} (hR : Rel B a bb) (hI : mInv bb) {i : Nat} (hi : i + 4 ≤ L) (hL : L ≤ 2048) {H : Heap} {locs : List Loc} (hPC : va_P D vwCl (wCo cI cO cL qc a g) H) (hPM : va_P D vwCl (wM cI qm bb) H) (hS : va_S (fun q : Nat => s.heap.size ≤ q) s.heap H locs) {ls : Array Slot} (hl : lv_has ls 9 [(0, .ref b), (1, .ref (qc 0)), (2, .ref (qm 0)), (3, .ref (qc 23)), (4, .int (nI i))]) {C S : Nat} (hC : C + 5 ≤ 601024) (hSl : S + 30 ≤ 7293034) {Q : State → Prop} (kk : ∀ (a2 b2 : bU) (g2 : Nat → Int64) (H2 : Heap) (locs2 : List Loc) (ls2 : Array Slot), Rel (B + 2600000) a2 b2 → mInv b2 → va_P D vwCl (wCo cI cO cL qc a2 g2) H2 → va_P D vwCl (wM cI qm b2) H2 → va_S (fun q : Nat => s.heap.size ≤ q) s.heap H2 locs2 → lv_has ls2 9 [(0, .ref b), (1, .ref (qc 0)), (2, .ref (qm 0)), (3, .ref (qc 23)), (4, .int (nI i))] → W p l e room_1 s m #[Value.ref b] below meth c H2 locs2 (C + 5) (S + 30) Q (F0 m 2009 ls2 [])) : W p l e room_1 s m #[Value.ref b] below meth c H locs C S Q (F0 m 420 ls []) := by
  obtain ⟨hx, hb, hr, hml, hown, hts0, hXs, hbl, hlocks, hgv⟩ := C0
  have hts : ∀ w ∈ wsL_law, w.before #[Value.ref b] s = true := fun w h => hts0 w (wsL_law_in w h)
  have hbA : ¬ (fun q : Nat => s.heap.size ≤ q) b := Nat.not_le.mpr hbl
  have hk6 : bK D [(cI, .int)] s := ⟨va_K.sub hk.1 [0] rfl, hk.2⟩
  refine lv_aload_n hx hb dL_law_420 rfl (lv_at hl 1 rfl) ?_
  refine lv_aload_n hx hb dL_law_421 rfl (lv_at hl 0 rfl) ?_
  refine lv_iload hx hb dL_law_422 (lv_at hl 4 rfl) ?_
  refine lv_iconst (v := 1) hx hb dL_law_424 (by decide) ?_
  refine lv_iadd hx hb dL_law_425 ?_
  refine lv_topi (fun z9 hz9 => ?_)
  obtain rfl : z9 = nI (i + 1) := hz9.trans (nI_add i 1)
  refine va_sld hx hb hXs hbl hbA hS (vp_in_nI (by omega) (by omega)) dL_law_426 ?_
  refine lv_aload_n hx hb dL_law_427 rfl (lv_at hl 0 rfl) ?_
  refine lv_iload hx hb dL_law_428 (lv_at hl 4 rfl) ?_
  refine lv_iconst (v := 2) hx hb dL_law_430 (by decide) ?_
  refine lv_iadd hx hb dL_law_431 ?_
  refine lv_topi (fun z9 hz9 => ?_)
  obtain rfl : z9 = nI (i + 2) := hz9.trans (nI_add i 2)
  refine va_sld hx hb hXs hbl hbA hS (vp_in_nI (by omega) (by omega)) dL_law_432 ?_
  refine lv_aload_n hx hb dL_law_433 rfl (lv_at hl 3 rfl) ?_
  have hAB : ∀ x : Nat, bA 24 qc H.size x → s.heap.size ≤ x := fun x hx9 => hx9.elim (fun ⟨k9, h9, e9⟩ => e9 ▸ hgc k9 h9) (fun h9 => Nat.le_trans hS.1 h9)
  refine va_calli (vx_runSW (As := [.ref (qc 0), .int (xs (nI (i + 1)).toNatClampNeg), .int (xs (nI (i + 2)).toNatClampNeg), .ref (qc 23)]) (rest := []) ⟨hx, hb, hml, hown, hts⟩ (CL_fill l D cI cO cL qc a g H hq hl9 hPC (xs (nI (i + 1)).toNatClampNeg) (xs (nI (i + 2)).toNatClampNeg) (lat_of hR)) (vx_cwSW 4 hts gL_law_L_fill rfl rfl rfl bd_Lfill ⟨Nat.le_of_ble_eq_true rfl, Nat.le_of_ble_eq_true rfl⟩) (bPSL hk hX hKL hN hS hAB) rfl rfl hl.1 rfl (lv_room (Nat.le_of_ble_eq_true rfl)) dL_law_434 ⟨by show _ ≤ 601024; omega, by show _ ≤ 7293034; omega⟩) hS (fun x _ h => hAB x h) hAB (fun r g1 t H1 locs ht _ hw hB1 hz1 hk1 hS => ?_)
  rw [ht] at hB1
  clear ht
  have hPM := wM_k hPM hk1 hqq hqm
  refine W.widen (k := C + 5) (n := S + 30) (by omega) (by omega) ?_
  refine lv_istore (lv' := [(5, .int r), (0, .ref b), (1, .ref (qc 0)), (2, .ref (qm 0)), (3, .ref (qc 23)), (4, .int (nI i))]) hx hb dL_law_437 hl (by decide) rfl (fun ls hl => ?_)
  refine lv_aload_n hx hb dL_law_439 rfl (lv_at hl 3 rfl) ?_
  refine lv_aload_n hx hb dL_law_440 rfl (lv_at hl 1 rfl) ?_
  refine lv_iload hx hb dL_law_441 (lv_at hl 5 rfl) ?_
  refine lv_iconst (v := 1) hx hb dL_law_443 (by decide) ?_
  refine lv_iadd hx hb dL_law_444 ?_
  refine lv_topi (fun z9 hz9 => ?_)
  obtain rfl : z9 = nI (i + 1) := hz9.trans (nI_add i 1)
  refine va_sld hx hb hXs hbl hbA hS (vp_in_nI (by omega) (by omega)) dL_law_445 ?_
  refine lv_aload_n hx hb dL_law_446 rfl (lv_at hl 1 rfl) ?_
  refine lv_iload hx hb dL_law_447 (lv_at hl 5 rfl) ?_
  refine lv_iconst (v := 2) hx hb dL_law_449 (by decide) ?_
  refine lv_iadd hx hb dL_law_450 ?_
  refine lv_topi (fun z9 hz9 => ?_)
  obtain rfl : z9 = nI (i + 2) := hz9.trans (nI_add i 2)
  refine va_sld hx hb hXs hbl hbA hS (vp_in_nI (by omega) (by omega)) dL_law_451 ?_
  have hsim := st_fill (by omega) hR (xs (nI (i + 1)).toNatClampNeg) (xs (nI (i + 2)).toNatClampNeg)
  have hAM : ∀ x : Nat, bA 7 qm H1.size x → s.heap.size ≤ x := fun x hx9 => hx9.elim (fun ⟨k9, h9, e9⟩ => e9 ▸ hgm k9 h9) (fun h9 => Nat.le_trans hS.1 h9)
  refine va_calli (va_runV (As := [.int (xs (nI (i + 1)).toNatClampNeg), .int (xs (nI (i + 2)).toNatClampNeg)]) (rest := []) ⟨hx, hb, hml, hown, hts⟩ (C6_fill l D cI qm bb H1 hqm hPM hI (xs (nI (i + 1)).toNatClampNeg) (xs (nI (i + 2)).toNatClampNeg)) (cwV 2 hts gL_law_X6_fill rfl rfl rfl ⟨rfl, bd_X6fill⟩ ⟨Nat.le_of_ble_eq_true rfl, Nat.le_of_ble_eq_true rfl⟩) (bPV hk6 (va_recv hk6.1 hPM (ci := 6) (q0 := 0) rfl (wM_0 _ _ _))) rfl rfl hl.1 rfl (lv_room (Nat.le_of_ble_eq_true rfl)) dL_law_452 ⟨by show _ ≤ 601024; omega, by show _ ≤ 7293034; omega⟩) hS (fun x _ h => hAM x h) hAM (fun y b2 t H2 locs ht _ hw2 hB2 hz2 hk2 hS => ?_)
  rw [ht] at hB2
  clear ht
  obtain rfl : y = (F6_fill bb (xs (nI (i + 1)).toNatClampNeg) (xs (nI (i + 2)).toNatClampNeg)).1 := by rw [← hw2]
  obtain rfl : b2 = (F6_fill bb (xs (nI (i + 1)).toNatClampNeg) (xs (nI (i + 2)).toNatClampNeg)).2 := by rw [← hw2]
  obtain ⟨hPM2, hI2⟩ := hB2
  have hPC2 := wCo_m hB1 hk2 hqq hq
  refine lv_istore (lv' := [(6, .int (F6_fill bb (xs (nI (i + 1)).toNatClampNeg) (xs (nI (i + 2)).toNatClampNeg)).1), (5, .int r), (0, .ref b), (1, .ref (qc 0)), (2, .ref (qm 0)), (3, .ref (qc 23)), (4, .int (nI i))]) hx hb dL_law_455 hl (by decide) rfl (fun ls hl => ?_)
  refine lv_aload_n hx hb dL_law_457 rfl (lv_at hl 4 rfl) ?_
  refine bcall_Ri (va_runV (As := []) (rest := []) ⟨hx, hb, hml, hown, hts⟩ (C6_thrown l D cI qm _ _ hPM2 hI2) (cwV 0 hts gL_law_X6_thrown rfl rfl rfl ⟨rfl, bd_X6thrown⟩ ⟨Nat.le_of_ble_eq_true rfl, Nat.le_of_ble_eq_true rfl⟩) (bPV hk6 (va_recv hk6.1 hPM2 (ci := 6) (q0 := 0) rfl (wM_0 _ _ _))) rfl rfl hl.1 rfl (lv_room (Nat.le_of_ble_eq_true rfl)) dL_law_458 ⟨by show _ ≤ 601024; omega, by show _ ≤ 7293034; omega⟩) hS (fun locs hS => ?_)
  refine lv_iload hx hb dL_law_461 (lv_at hl 1 rfl) ?_
  refine lv_icmp_eq (tgt := 468) hx hb dL_law_463 (by decide) (fun _ => ?_) (fun c9 => absurd (hsim.1.trans hw.1.symm) c9)
  refine lv_iload hx hb dL_law_468 (lv_at hl 1 rfl) ?_
  refine lv_if_ne (tgt := 485) hx hb dL_law_470 (by decide) (fun c9 => ?_) (fun c9 => ?_)
  · refine lv_goto (tgt := 2009) hx hb dL_law_485 (by decide) ?_
    refine W.widen (k := C + 5) (n := S + 30) (by omega) (by omega) ?_
    exact kk _ _ _ _ _ _ (Rel_up hsim.2.2 (by omega)) hI2 hPC2 hPM2 hS (lv_sub hl [2, 3, 4, 5, 6] rfl)
  · refine lv_aload_n hx hb dL_law_473 rfl (lv_at hl 5 rfl) ?_
    refine lv_iconst (v := 0) hx hb dL_law_474 (by decide) ?_
    refine va_lald hx hb hKL hPC2 23 0 rfl rfl (vp_in_nI (n := 0) (by decide) (by decide)) dL_law_475 ?_
    refine lv_iload hx hb dL_law_476 (lv_at hl 0 rfl) ?_
    refine lv_i2l (v := ((F6_fill bb (xs (nI (i + 1)).toNatClampNeg) (xs (nI (i + 2)).toNatClampNeg)).1).toInt64) hx hb dL_law_478 rfl ?_
    refine W.lcmp hx hb dL_law_479 ?_
    have hv0 : (F5_fill a (xs (nI (i + 1)).toNatClampNeg) (xs (nI (i + 2)).toNatClampNeg)).1 = 0 := hw.1.symm.trans c9
    rw [show (0 : Int32).toNatClampNeg = 0 from by decide, lg_cmp_same ((hw.2 hv0).trans (congrArg Int32.toInt64 (hsim.2.1 hv0)))]
    refine lv_if_eq (tgt := 485) hx hb dL_law_480 (by decide) (fun _ => ?_) (fun h9 => absurd rfl h9)
    refine lv_goto (tgt := 2009) hx hb dL_law_485 (by decide) ?_
    refine W.widen (k := C + 5) (n := S + 30) (by omega) (by omega) ?_
    exact kk _ _ _ _ _ _ (Rel_up hsim.2.2 (by omega)) hI2 hPC2 hPM2 hS (lv_sub hl [2, 3, 4, 5, 6] rfl)
set_option maxHeartbeats 4000000 in
set_option maxRecDepth 100000 in
theorem LC_5 {p : Program} {e : Env} {s : State} {m : MethodId} {below : List Frame} {meth : Method} {c : Code} {l : Launch} {b L : Nat} {xs : Nat → Int32} {D : va_G} {cI cO cL : ClassId} {qc qm : Nat → Nat} (hl9 : l.stackTraces = false) (C0 : lw_At p s m meth c b L xs) (hk : bK D [(cI, .int), (cO, .object RX2)] s) (hX : bXe (fun q : Nat => s.heap.size ≤ q) s s.heap) (hKL : va_K D vwCl [(cL, .long)] s) (hN : bNC s) (hq : bInj 24 qc) (hqm : bInj 7 qm) (hqq : ∀ i j : Nat, i < 24 → j < 7 → qc i ≠ qm j) (hgc : ∀ i : Nat, i < 24 → s.heap.size ≤ qc i) (hgm : ∀ j : Nat, j < 7 → s.heap.size ≤ qm j) {B : Nat} (hB : B + 2600000 < 2000000000) (hB0 : 100000 ≤ B) {a bb : bU} {g : Nat → Int64} (hR : Rel B a bb) (hI : mInv bb) {i : Nat} (hi : i + 4 ≤ L) (hL : L ≤ 2048) {H : Heap} {locs : List Loc} (hPC : va_P D vwCl (wCo cI cO cL qc a g) H) (hPM : va_P D vwCl (wM cI qm bb) H) (hS : va_S (fun q : Nat => s.heap.size ≤ q) s.heap H locs) {ls : Array Slot} (hl : lv_has ls 9 [(0, .ref b), (1, .ref (qc 0)), (2, .ref (qm 0)), (3, .ref (qc 23)), (4, .int (nI i))]) {C S : Nat} (hC : C + 5 ≤ 601024) (hSl : S + 30 ≤ 7293034) {Q : State → Prop} (kk : ∀ (a2 b2 : bU) (g2 : Nat → Int64) (H2 : Heap) (locs2 : List Loc) (ls2 : Array Slot), Rel (B + 2600000) a2 b2 → mInv b2 → va_P D vwCl (wCo cI cO cL qc a2 g2) H2 → va_P D vwCl (wM cI qm b2) H2 → va_S (fun q : Nat => s.heap.size ≤ q) s.heap H2 locs2 → lv_has ls2 9 [(0, .ref b), (1, .ref (qc 0)), (2, .ref (qm 0)), (3, .ref (qc 23)), (4, .int (nI i))] → W p l e room_1 s m #[Value.ref b] below meth c H2 locs2 (C + 5) (S + 30) Q (F0 m 2009 ls2 [])) : W p l e room_1 s m #[Value.ref b] below meth c H locs C S Q (F0 m 488 ls []) := by
  obtain ⟨hx, hb, hr, hml, hown, hts0, hXs, hbl, hlocks, hgv⟩ := C0
  have hts : ∀ w ∈ wsL_law, w.before #[Value.ref b] s = true := fun w h => hts0 w (wsL_law_in w h)
  have hbA : ¬ (fun q : Nat => s.heap.size ≤ q) b := Nat.not_le.mpr hbl
  have hk6 : bK D [(cI, .int)] s := ⟨va_K.sub hk.1 [0] rfl, hk.2⟩
  refine lv_aload_n hx hb dL_law_488 rfl (lv_at hl 1 rfl) ?_
  refine lv_aload_n hx hb dL_law_489 rfl (lv_at hl 0 rfl) ?_
  refine lv_iload hx hb dL_law_490 (lv_at hl 4 rfl) ?_
  refine lv_iconst (v := 1) hx hb dL_law_492 (by decide) ?_
  refine lv_iadd hx hb dL_law_493 ?_
  refine lv_topi (fun z9 hz9 => ?_)
  obtain rfl : z9 = nI (i + 1) := hz9.trans (nI_add i 1)
  refine va_sld hx hb hXs hbl hbA hS (vp_in_nI (by omega) (by omega)) dL_law_494 ?_
  refine lv_aload_n hx hb dL_law_495 rfl (lv_at hl 0 rfl) ?_
  refine lv_iload hx hb dL_law_496 (lv_at hl 4 rfl) ?_
  refine lv_iconst (v := 2) hx hb dL_law_498 (by decide) ?_
  refine lv_iadd hx hb dL_law_499 ?_
  refine lv_topi (fun z9 hz9 => ?_)
  obtain rfl : z9 = nI (i + 2) := hz9.trans (nI_add i 2)
  refine va_sld hx hb hXs hbl hbA hS (vp_in_nI (by omega) (by omega)) dL_law_500 ?_
  refine lv_aload_n hx hb dL_law_501 rfl (lv_at hl 0 rfl) ?_
  refine lv_iload hx hb dL_law_502 (lv_at hl 4 rfl) ?_
  refine lv_iconst (v := 3) hx hb dL_law_504 (by decide) ?_
  refine lv_iadd hx hb dL_law_505 ?_
  refine lv_topi (fun z9 hz9 => ?_)
  obtain rfl : z9 = nI (i + 3) := hz9.trans (nI_add i 3)
  refine va_sld hx hb hXs hbl hbA hS (vp_in_nI (by omega) (by omega)) dL_law_506 ?_
  refine lv_aload_n hx hb dL_law_507 rfl (lv_at hl 3 rfl) ?_
  have hAB : ∀ x : Nat, bA 24 qc H.size x → s.heap.size ≤ x := fun x hx9 => hx9.elim (fun ⟨k9, h9, e9⟩ => e9 ▸ hgc k9 h9) (fun h9 => Nat.le_trans hS.1 h9)
  refine va_calli (vx_runSW (As := [.ref (qc 0), .int (xs (nI (i + 1)).toNatClampNeg), .int (xs (nI (i + 2)).toNatClampNeg), .int (xs (nI (i + 3)).toNatClampNeg), .ref (qc 23)]) (rest := []) ⟨hx, hb, hml, hown, hts⟩ (CL_deliver l D cI cO cL qc a g H hq hl9 hPC (xs (nI (i + 1)).toNatClampNeg) (xs (nI (i + 2)).toNatClampNeg) (xs (nI (i + 3)).toNatClampNeg) (lat_of hR)) (vx_cwSW 5 hts gL_law_L_deliver rfl rfl rfl bd_Ldeliver ⟨Nat.le_of_ble_eq_true rfl, Nat.le_of_ble_eq_true rfl⟩) (bPSL hk hX hKL hN hS hAB) rfl rfl hl.1 rfl (lv_room (Nat.le_of_ble_eq_true rfl)) dL_law_508 ⟨by show _ ≤ 601024; omega, by show _ ≤ 7293034; omega⟩) hS (fun x _ h => hAB x h) hAB (fun r g1 t H1 locs ht _ hw hB1 hz1 hk1 hS => ?_)
  rw [ht] at hB1
  clear ht
  have hPM := wM_k hPM hk1 hqq hqm
  refine W.widen (k := C + 5) (n := S + 30) (by omega) (by omega) ?_
  refine lv_istore (lv' := [(5, .int r), (0, .ref b), (1, .ref (qc 0)), (2, .ref (qm 0)), (3, .ref (qc 23)), (4, .int (nI i))]) hx hb dL_law_511 hl (by decide) rfl (fun ls hl => ?_)
  refine lv_aload_n hx hb dL_law_513 rfl (lv_at hl 3 rfl) ?_
  refine lv_aload_n hx hb dL_law_514 rfl (lv_at hl 1 rfl) ?_
  refine lv_iload hx hb dL_law_515 (lv_at hl 5 rfl) ?_
  refine lv_iconst (v := 1) hx hb dL_law_517 (by decide) ?_
  refine lv_iadd hx hb dL_law_518 ?_
  refine lv_topi (fun z9 hz9 => ?_)
  obtain rfl : z9 = nI (i + 1) := hz9.trans (nI_add i 1)
  refine va_sld hx hb hXs hbl hbA hS (vp_in_nI (by omega) (by omega)) dL_law_519 ?_
  refine lv_aload_n hx hb dL_law_520 rfl (lv_at hl 1 rfl) ?_
  refine lv_iload hx hb dL_law_521 (lv_at hl 5 rfl) ?_
  refine lv_iconst (v := 2) hx hb dL_law_523 (by decide) ?_
  refine lv_iadd hx hb dL_law_524 ?_
  refine lv_topi (fun z9 hz9 => ?_)
  obtain rfl : z9 = nI (i + 2) := hz9.trans (nI_add i 2)
  refine va_sld hx hb hXs hbl hbA hS (vp_in_nI (by omega) (by omega)) dL_law_525 ?_
  refine lv_aload_n hx hb dL_law_526 rfl (lv_at hl 1 rfl) ?_
  refine lv_iload hx hb dL_law_527 (lv_at hl 5 rfl) ?_
  refine lv_iconst (v := 3) hx hb dL_law_529 (by decide) ?_
  refine lv_iadd hx hb dL_law_530 ?_
  refine lv_topi (fun z9 hz9 => ?_)
  obtain rfl : z9 = nI (i + 3) := hz9.trans (nI_add i 3)
  refine va_sld hx hb hXs hbl hbA hS (vp_in_nI (by omega) (by omega)) dL_law_531 ?_
  have hsim := st_deliver (by omega) hR (xs (nI (i + 1)).toNatClampNeg) (xs (nI (i + 2)).toNatClampNeg) (xs (nI (i + 3)).toNatClampNeg)
  have hAM : ∀ x : Nat, bA 7 qm H1.size x → s.heap.size ≤ x := fun x hx9 => hx9.elim (fun ⟨k9, h9, e9⟩ => e9 ▸ hgm k9 h9) (fun h9 => Nat.le_trans hS.1 h9)
  refine va_calli (va_runV (As := [.int (xs (nI (i + 1)).toNatClampNeg), .int (xs (nI (i + 2)).toNatClampNeg), .int (xs (nI (i + 3)).toNatClampNeg)]) (rest := []) ⟨hx, hb, hml, hown, hts⟩ (C6_deliver l D cI qm bb H1 hqm hPM hI (xs (nI (i + 1)).toNatClampNeg) (xs (nI (i + 2)).toNatClampNeg) (xs (nI (i + 3)).toNatClampNeg)) (cwV 3 hts gL_law_X6_deliver rfl rfl rfl ⟨rfl, bd_X6deliver⟩ ⟨Nat.le_of_ble_eq_true rfl, Nat.le_of_ble_eq_true rfl⟩) (bPV hk6 (va_recv hk6.1 hPM (ci := 6) (q0 := 0) rfl (wM_0 _ _ _))) rfl rfl hl.1 rfl (lv_room (Nat.le_of_ble_eq_true rfl)) dL_law_532 ⟨by show _ ≤ 601024; omega, by show _ ≤ 7293034; omega⟩) hS (fun x _ h => hAM x h) hAM (fun y b2 t H2 locs ht _ hw2 hB2 hz2 hk2 hS => ?_)
  rw [ht] at hB2
  clear ht
  obtain rfl : y = (F6_deliver bb (xs (nI (i + 1)).toNatClampNeg) (xs (nI (i + 2)).toNatClampNeg) (xs (nI (i + 3)).toNatClampNeg)).1 := by rw [← hw2]
  obtain rfl : b2 = (F6_deliver bb (xs (nI (i + 1)).toNatClampNeg) (xs (nI (i + 2)).toNatClampNeg) (xs (nI (i + 3)).toNatClampNeg)).2 := by rw [← hw2]
  obtain ⟨hPM2, hI2⟩ := hB2
  have hPC2 := wCo_m hB1 hk2 hqq hq
  refine lv_istore (lv' := [(6, .int (F6_deliver bb (xs (nI (i + 1)).toNatClampNeg) (xs (nI (i + 2)).toNatClampNeg) (xs (nI (i + 3)).toNatClampNeg)).1), (5, .int r), (0, .ref b), (1, .ref (qc 0)), (2, .ref (qm 0)), (3, .ref (qc 23)), (4, .int (nI i))]) hx hb dL_law_535 hl (by decide) rfl (fun ls hl => ?_)
  refine lv_aload_n hx hb dL_law_537 rfl (lv_at hl 4 rfl) ?_
  refine bcall_Ri (va_runV (As := []) (rest := []) ⟨hx, hb, hml, hown, hts⟩ (C6_thrown l D cI qm _ _ hPM2 hI2) (cwV 0 hts gL_law_X6_thrown rfl rfl rfl ⟨rfl, bd_X6thrown⟩ ⟨Nat.le_of_ble_eq_true rfl, Nat.le_of_ble_eq_true rfl⟩) (bPV hk6 (va_recv hk6.1 hPM2 (ci := 6) (q0 := 0) rfl (wM_0 _ _ _))) rfl rfl hl.1 rfl (lv_room (Nat.le_of_ble_eq_true rfl)) dL_law_538 ⟨by show _ ≤ 601024; omega, by show _ ≤ 7293034; omega⟩) hS (fun locs hS => ?_)
  refine lv_iload hx hb dL_law_541 (lv_at hl 1 rfl) ?_
  refine lv_icmp_eq (tgt := 548) hx hb dL_law_543 (by decide) (fun _ => ?_) (fun c9 => absurd (hsim.1.trans hw.1.symm) c9)
  refine lv_iload hx hb dL_law_548 (lv_at hl 1 rfl) ?_
  refine lv_if_ne (tgt := 565) hx hb dL_law_550 (by decide) (fun c9 => ?_) (fun c9 => ?_)
  · refine lv_goto (tgt := 2009) hx hb dL_law_565 (by decide) ?_
    refine W.widen (k := C + 5) (n := S + 30) (by omega) (by omega) ?_
    exact kk _ _ _ _ _ _ (Rel_up hsim.2.2 (by omega)) hI2 hPC2 hPM2 hS (lv_sub hl [2, 3, 4, 5, 6] rfl)
  · refine lv_aload_n hx hb dL_law_553 rfl (lv_at hl 5 rfl) ?_
    refine lv_iconst (v := 0) hx hb dL_law_554 (by decide) ?_
    refine va_lald hx hb hKL hPC2 23 0 rfl rfl (vp_in_nI (n := 0) (by decide) (by decide)) dL_law_555 ?_
    refine lv_iload hx hb dL_law_556 (lv_at hl 0 rfl) ?_
    refine lv_i2l (v := ((F6_deliver bb (xs (nI (i + 1)).toNatClampNeg) (xs (nI (i + 2)).toNatClampNeg) (xs (nI (i + 3)).toNatClampNeg)).1).toInt64) hx hb dL_law_558 rfl ?_
    refine W.lcmp hx hb dL_law_559 ?_
    have hv0 : (F5_deliver a (xs (nI (i + 1)).toNatClampNeg) (xs (nI (i + 2)).toNatClampNeg) (xs (nI (i + 3)).toNatClampNeg)).1 = 0 := hw.1.symm.trans c9
    rw [show (0 : Int32).toNatClampNeg = 0 from by decide, lg_cmp_same ((hw.2 hv0).trans (congrArg Int32.toInt64 (hsim.2.1 hv0)))]
    refine lv_if_eq (tgt := 565) hx hb dL_law_560 (by decide) (fun _ => ?_) (fun h9 => absurd rfl h9)
    refine lv_goto (tgt := 2009) hx hb dL_law_565 (by decide) ?_
    refine W.widen (k := C + 5) (n := S + 30) (by omega) (by omega) ?_
    exact kk _ _ _ _ _ _ (Rel_up hsim.2.2 (by omega)) hI2 hPC2 hPM2 hS (lv_sub hl [2, 3, 4, 5, 6] rfl)
set_option maxHeartbeats 4000000 in
set_option maxRecDepth 100000 in
theorem LC_6 {p : Program} {e : Env} {s : State} {m : MethodId} {below : List Frame} {meth : Method} {c : Code} {l : Launch} {b L : Nat} {xs : Nat → Int32} {D : va_G} {cI cO cL : ClassId} {qc qm : Nat → Nat} (hl9 : l.stackTraces = false) (C0 : lw_At p s m meth c b L xs) (hk : bK D [(cI, .int), (cO, .object RX2)] s) (hX : bXe (fun q : Nat => s.heap.size ≤ q) s s.heap) (hKL : va_K D vwCl [(cL, .long)] s) (hN : bNC s) (hq : bInj 24 qc) (hqm : bInj 7 qm) (hqq : ∀ i j : Nat, i < 24 → j < 7 → qc i ≠ qm j) (hgc : ∀ i : Nat, i < 24 → s.heap.size ≤ qc i) (hgm : ∀ j : Nat, j < 7 → s.heap.size ≤ qm j) {B : Nat} (hB : B + 2600000 < 2000000000) (hB0 : 100000 ≤ B) {a bb : bU} {g : Nat → Int64} (hR : Rel B a bb) (hI : mInv bb) {i : Nat} (hi : i + 4 ≤ L) (hL : L ≤ 2048) {H : Heap} {locs : List Loc} (hPC : va_P D vwCl (wCo cI cO cL qc a g) H) (hPM : va_P D vwCl (wM cI qm bb) H) (hS : va_S (fun q : Nat => s.heap.size ≤ q) s.heap H locs) {ls : Array Slot} (hl : lv_has ls 9 [(0, .ref b), (1, .ref (qc 0)), (2, .ref (qm 0)), (3, .ref (qc 23)), (4, .int (nI i))]) {C S : Nat} (hC : C + 5 ≤ 601024) (hSl : S + 30 ≤ 7293034) {Q : State → Prop} (kk : ∀ (a2 b2 : bU) (g2 : Nat → Int64) (H2 : Heap) (locs2 : List Loc) (ls2 : Array Slot), Rel (B + 2600000) a2 b2 → mInv b2 → va_P D vwCl (wCo cI cO cL qc a2 g2) H2 → va_P D vwCl (wM cI qm b2) H2 → va_S (fun q : Nat => s.heap.size ≤ q) s.heap H2 locs2 → lv_has ls2 9 [(0, .ref b), (1, .ref (qc 0)), (2, .ref (qm 0)), (3, .ref (qc 23)), (4, .int (nI i))] → W p l e room_1 s m #[Value.ref b] below meth c H2 locs2 (C + 5) (S + 30) Q (F0 m 2009 ls2 [])) : W p l e room_1 s m #[Value.ref b] below meth c H locs C S Q (F0 m 568 ls []) := by
  obtain ⟨hx, hb, hr, hml, hown, hts0, hXs, hbl, hlocks, hgv⟩ := C0
  have hts : ∀ w ∈ wsL_law, w.before #[Value.ref b] s = true := fun w h => hts0 w (wsL_law_in w h)
  have hbA : ¬ (fun q : Nat => s.heap.size ≤ q) b := Nat.not_le.mpr hbl
  have hk6 : bK D [(cI, .int)] s := ⟨va_K.sub hk.1 [0] rfl, hk.2⟩
  refine lv_aload_n hx hb dL_law_568 rfl (lv_at hl 1 rfl) ?_
  refine lv_aload_n hx hb dL_law_569 rfl (lv_at hl 0 rfl) ?_
  refine lv_iload hx hb dL_law_570 (lv_at hl 4 rfl) ?_
  refine lv_iconst (v := 1) hx hb dL_law_572 (by decide) ?_
  refine lv_iadd hx hb dL_law_573 ?_
  refine lv_topi (fun z9 hz9 => ?_)
  obtain rfl : z9 = nI (i + 1) := hz9.trans (nI_add i 1)
  refine va_sld hx hb hXs hbl hbA hS (vp_in_nI (by omega) (by omega)) dL_law_574 ?_
  refine lv_aload_n hx hb dL_law_575 rfl (lv_at hl 0 rfl) ?_
  refine lv_iload hx hb dL_law_576 (lv_at hl 4 rfl) ?_
  refine lv_iconst (v := 2) hx hb dL_law_578 (by decide) ?_
  refine lv_iadd hx hb dL_law_579 ?_
  refine lv_topi (fun z9 hz9 => ?_)
  obtain rfl : z9 = nI (i + 2) := hz9.trans (nI_add i 2)
  refine va_sld hx hb hXs hbl hbA hS (vp_in_nI (by omega) (by omega)) dL_law_580 ?_
  refine lv_aload_n hx hb dL_law_581 rfl (lv_at hl 0 rfl) ?_
  refine lv_iload hx hb dL_law_582 (lv_at hl 4 rfl) ?_
  refine lv_iconst (v := 3) hx hb dL_law_584 (by decide) ?_
  refine lv_iadd hx hb dL_law_585 ?_
  refine lv_topi (fun z9 hz9 => ?_)
  obtain rfl : z9 = nI (i + 3) := hz9.trans (nI_add i 3)
  refine va_sld hx hb hXs hbl hbA hS (vp_in_nI (by omega) (by omega)) dL_law_586 ?_
  refine lv_aload_n hx hb dL_law_587 rfl (lv_at hl 3 rfl) ?_
  have hAB : ∀ x : Nat, bA 24 qc H.size x → s.heap.size ≤ x := fun x hx9 => hx9.elim (fun ⟨k9, h9, e9⟩ => e9 ▸ hgc k9 h9) (fun h9 => Nat.le_trans hS.1 h9)
  refine va_calli (vx_runSW (As := [.ref (qc 0), .int (xs (nI (i + 1)).toNatClampNeg), .int (xs (nI (i + 2)).toNatClampNeg), .int (xs (nI (i + 3)).toNatClampNeg), .ref (qc 23)]) (rest := []) ⟨hx, hb, hml, hown, hts⟩ (CL_sell l D cI cO cL qc a g H hq hl9 hPC (xs (nI (i + 1)).toNatClampNeg) (xs (nI (i + 2)).toNatClampNeg) (xs (nI (i + 3)).toNatClampNeg) (lat_of hR)) (vx_cwSW 5 hts gL_law_L_sell rfl rfl rfl bd_Lsell ⟨Nat.le_of_ble_eq_true rfl, Nat.le_of_ble_eq_true rfl⟩) (bPSL hk hX hKL hN hS hAB) rfl rfl hl.1 rfl (lv_room (Nat.le_of_ble_eq_true rfl)) dL_law_588 ⟨by show _ ≤ 601024; omega, by show _ ≤ 7293034; omega⟩) hS (fun x _ h => hAB x h) hAB (fun r g1 t H1 locs ht _ hw hB1 hz1 hk1 hS => ?_)
  rw [ht] at hB1
  clear ht
  have hPM := wM_k hPM hk1 hqq hqm
  refine W.widen (k := C + 5) (n := S + 30) (by omega) (by omega) ?_
  refine lv_istore (lv' := [(5, .int r), (0, .ref b), (1, .ref (qc 0)), (2, .ref (qm 0)), (3, .ref (qc 23)), (4, .int (nI i))]) hx hb dL_law_591 hl (by decide) rfl (fun ls hl => ?_)
  refine lv_aload_n hx hb dL_law_593 rfl (lv_at hl 3 rfl) ?_
  refine lv_aload_n hx hb dL_law_594 rfl (lv_at hl 1 rfl) ?_
  refine lv_iload hx hb dL_law_595 (lv_at hl 5 rfl) ?_
  refine lv_iconst (v := 1) hx hb dL_law_597 (by decide) ?_
  refine lv_iadd hx hb dL_law_598 ?_
  refine lv_topi (fun z9 hz9 => ?_)
  obtain rfl : z9 = nI (i + 1) := hz9.trans (nI_add i 1)
  refine va_sld hx hb hXs hbl hbA hS (vp_in_nI (by omega) (by omega)) dL_law_599 ?_
  refine lv_aload_n hx hb dL_law_600 rfl (lv_at hl 1 rfl) ?_
  refine lv_iload hx hb dL_law_601 (lv_at hl 5 rfl) ?_
  refine lv_iconst (v := 2) hx hb dL_law_603 (by decide) ?_
  refine lv_iadd hx hb dL_law_604 ?_
  refine lv_topi (fun z9 hz9 => ?_)
  obtain rfl : z9 = nI (i + 2) := hz9.trans (nI_add i 2)
  refine va_sld hx hb hXs hbl hbA hS (vp_in_nI (by omega) (by omega)) dL_law_605 ?_
  refine lv_aload_n hx hb dL_law_606 rfl (lv_at hl 1 rfl) ?_
  refine lv_iload hx hb dL_law_607 (lv_at hl 5 rfl) ?_
  refine lv_iconst (v := 3) hx hb dL_law_609 (by decide) ?_
  refine lv_iadd hx hb dL_law_610 ?_
  refine lv_topi (fun z9 hz9 => ?_)
  obtain rfl : z9 = nI (i + 3) := hz9.trans (nI_add i 3)
  refine va_sld hx hb hXs hbl hbA hS (vp_in_nI (by omega) (by omega)) dL_law_611 ?_
  have hsim := st_sell (by omega) hR (xs (nI (i + 1)).toNatClampNeg) (xs (nI (i + 2)).toNatClampNeg) (xs (nI (i + 3)).toNatClampNeg)
  have hAM : ∀ x : Nat, bA 7 qm H1.size x → s.heap.size ≤ x := fun x hx9 => hx9.elim (fun ⟨k9, h9, e9⟩ => e9 ▸ hgm k9 h9) (fun h9 => Nat.le_trans hS.1 h9)
  refine va_calli (va_runV (As := [.int (xs (nI (i + 1)).toNatClampNeg), .int (xs (nI (i + 2)).toNatClampNeg), .int (xs (nI (i + 3)).toNatClampNeg)]) (rest := []) ⟨hx, hb, hml, hown, hts⟩ (C6_sell l D cI qm bb H1 hqm hPM hI (xs (nI (i + 1)).toNatClampNeg) (xs (nI (i + 2)).toNatClampNeg) (xs (nI (i + 3)).toNatClampNeg)) (cwV 3 hts gL_law_X6_sell rfl rfl rfl ⟨rfl, bd_X6sell⟩ ⟨Nat.le_of_ble_eq_true rfl, Nat.le_of_ble_eq_true rfl⟩) (bPV hk6 (va_recv hk6.1 hPM (ci := 6) (q0 := 0) rfl (wM_0 _ _ _))) rfl rfl hl.1 rfl (lv_room (Nat.le_of_ble_eq_true rfl)) dL_law_612 ⟨by show _ ≤ 601024; omega, by show _ ≤ 7293034; omega⟩) hS (fun x _ h => hAM x h) hAM (fun y b2 t H2 locs ht _ hw2 hB2 hz2 hk2 hS => ?_)
  rw [ht] at hB2
  clear ht
  obtain rfl : y = (F6_sell bb (xs (nI (i + 1)).toNatClampNeg) (xs (nI (i + 2)).toNatClampNeg) (xs (nI (i + 3)).toNatClampNeg)).1 := by rw [← hw2]
  obtain rfl : b2 = (F6_sell bb (xs (nI (i + 1)).toNatClampNeg) (xs (nI (i + 2)).toNatClampNeg) (xs (nI (i + 3)).toNatClampNeg)).2 := by rw [← hw2]
  obtain ⟨hPM2, hI2⟩ := hB2
  have hPC2 := wCo_m hB1 hk2 hqq hq
  refine lv_istore (lv' := [(6, .int (F6_sell bb (xs (nI (i + 1)).toNatClampNeg) (xs (nI (i + 2)).toNatClampNeg) (xs (nI (i + 3)).toNatClampNeg)).1), (5, .int r), (0, .ref b), (1, .ref (qc 0)), (2, .ref (qm 0)), (3, .ref (qc 23)), (4, .int (nI i))]) hx hb dL_law_615 hl (by decide) rfl (fun ls hl => ?_)
  refine lv_aload_n hx hb dL_law_617 rfl (lv_at hl 4 rfl) ?_
  refine bcall_Ri (va_runV (As := []) (rest := []) ⟨hx, hb, hml, hown, hts⟩ (C6_thrown l D cI qm _ _ hPM2 hI2) (cwV 0 hts gL_law_X6_thrown rfl rfl rfl ⟨rfl, bd_X6thrown⟩ ⟨Nat.le_of_ble_eq_true rfl, Nat.le_of_ble_eq_true rfl⟩) (bPV hk6 (va_recv hk6.1 hPM2 (ci := 6) (q0 := 0) rfl (wM_0 _ _ _))) rfl rfl hl.1 rfl (lv_room (Nat.le_of_ble_eq_true rfl)) dL_law_618 ⟨by show _ ≤ 601024; omega, by show _ ≤ 7293034; omega⟩) hS (fun locs hS => ?_)
  refine lv_iload hx hb dL_law_621 (lv_at hl 1 rfl) ?_
  refine lv_icmp_eq (tgt := 628) hx hb dL_law_623 (by decide) (fun _ => ?_) (fun c9 => absurd (hsim.1.trans hw.1.symm) c9)
  refine lv_iload hx hb dL_law_628 (lv_at hl 1 rfl) ?_
  refine lv_if_ne (tgt := 645) hx hb dL_law_630 (by decide) (fun c9 => ?_) (fun c9 => ?_)
  · refine lv_goto (tgt := 2009) hx hb dL_law_645 (by decide) ?_
    refine W.widen (k := C + 5) (n := S + 30) (by omega) (by omega) ?_
    exact kk _ _ _ _ _ _ (Rel_up hsim.2.2 (by omega)) hI2 hPC2 hPM2 hS (lv_sub hl [2, 3, 4, 5, 6] rfl)
  · refine lv_aload_n hx hb dL_law_633 rfl (lv_at hl 5 rfl) ?_
    refine lv_iconst (v := 0) hx hb dL_law_634 (by decide) ?_
    refine va_lald hx hb hKL hPC2 23 0 rfl rfl (vp_in_nI (n := 0) (by decide) (by decide)) dL_law_635 ?_
    refine lv_iload hx hb dL_law_636 (lv_at hl 0 rfl) ?_
    refine lv_i2l (v := ((F6_sell bb (xs (nI (i + 1)).toNatClampNeg) (xs (nI (i + 2)).toNatClampNeg) (xs (nI (i + 3)).toNatClampNeg)).1).toInt64) hx hb dL_law_638 rfl ?_
    refine W.lcmp hx hb dL_law_639 ?_
    have hv0 : (F5_sell a (xs (nI (i + 1)).toNatClampNeg) (xs (nI (i + 2)).toNatClampNeg) (xs (nI (i + 3)).toNatClampNeg)).1 = 0 := hw.1.symm.trans c9
    rw [show (0 : Int32).toNatClampNeg = 0 from by decide, lg_cmp_same ((hw.2 hv0).trans (congrArg Int32.toInt64 (hsim.2.1 hv0)))]
    refine lv_if_eq (tgt := 645) hx hb dL_law_640 (by decide) (fun _ => ?_) (fun h9 => absurd rfl h9)
    refine lv_goto (tgt := 2009) hx hb dL_law_645 (by decide) ?_
    refine W.widen (k := C + 5) (n := S + 30) (by omega) (by omega) ?_
    exact kk _ _ _ _ _ _ (Rel_up hsim.2.2 (by omega)) hI2 hPC2 hPM2 hS (lv_sub hl [2, 3, 4, 5, 6] rfl)
set_option maxHeartbeats 4000000 in
set_option maxRecDepth 100000 in
theorem LC_7 {p : Program} {e : Env} {s : State} {m : MethodId} {below : List Frame} {meth : Method} {c : Code} {l : Launch} {b L : Nat} {xs : Nat → Int32} {D : va_G} {cI cO cL : ClassId} {qc qm : Nat → Nat} (hl9 : l.stackTraces = false) (C0 : lw_At p s m meth c b L xs) (hk : bK D [(cI, .int), (cO, .object RX2)] s) (hX : bXe (fun q : Nat => s.heap.size ≤ q) s s.heap) (hKL : va_K D vwCl [(cL, .long)] s) (hN : bNC s) (hq : bInj 24 qc) (hqm : bInj 7 qm) (hqq : ∀ i j : Nat, i < 24 → j < 7 → qc i ≠ qm j) (hgc : ∀ i : Nat, i < 24 → s.heap.size ≤ qc i) (hgm : ∀ j : Nat, j < 7 → s.heap.size ≤ qm j) {B : Nat} (hB : B + 2600000 < 2000000000) (hB0 : 100000 ≤ B) {a bb : bU} {g : Nat → Int64} (hR : Rel B a bb) (hI : mInv bb) {i : Nat} (hi : i + 4 ≤ L) (hL : L ≤ 2048) {H : Heap} {locs : List Loc} (hPC : va_P D vwCl (wCo cI cO cL qc a g) H) (hPM : va_P D vwCl (wM cI qm bb) H) (hS : va_S (fun q : Nat => s.heap.size ≤ q) s.heap H locs) {ls : Array Slot} (hl : lv_has ls 9 [(0, .ref b), (1, .ref (qc 0)), (2, .ref (qm 0)), (3, .ref (qc 23)), (4, .int (nI i))]) {C S : Nat} (hC : C + 5 ≤ 601024) (hSl : S + 30 ≤ 7293034) {Q : State → Prop} (kk : ∀ (a2 b2 : bU) (g2 : Nat → Int64) (H2 : Heap) (locs2 : List Loc) (ls2 : Array Slot), Rel (B + 2600000) a2 b2 → mInv b2 → va_P D vwCl (wCo cI cO cL qc a2 g2) H2 → va_P D vwCl (wM cI qm b2) H2 → va_S (fun q : Nat => s.heap.size ≤ q) s.heap H2 locs2 → lv_has ls2 9 [(0, .ref b), (1, .ref (qc 0)), (2, .ref (qm 0)), (3, .ref (qc 23)), (4, .int (nI i))] → W p l e room_1 s m #[Value.ref b] below meth c H2 locs2 (C + 5) (S + 30) Q (F0 m 2009 ls2 [])) : W p l e room_1 s m #[Value.ref b] below meth c H locs C S Q (F0 m 648 ls []) := by
  obtain ⟨hx, hb, hr, hml, hown, hts0, hXs, hbl, hlocks, hgv⟩ := C0
  have hts : ∀ w ∈ wsL_law, w.before #[Value.ref b] s = true := fun w h => hts0 w (wsL_law_in w h)
  have hbA : ¬ (fun q : Nat => s.heap.size ≤ q) b := Nat.not_le.mpr hbl
  have hk6 : bK D [(cI, .int)] s := ⟨va_K.sub hk.1 [0] rfl, hk.2⟩
  refine lv_aload_n hx hb dL_law_648 rfl (lv_at hl 1 rfl) ?_
  refine lv_aload_n hx hb dL_law_649 rfl (lv_at hl 0 rfl) ?_
  refine lv_iload hx hb dL_law_650 (lv_at hl 4 rfl) ?_
  refine lv_iconst (v := 1) hx hb dL_law_652 (by decide) ?_
  refine lv_iadd hx hb dL_law_653 ?_
  refine lv_topi (fun z9 hz9 => ?_)
  obtain rfl : z9 = nI (i + 1) := hz9.trans (nI_add i 1)
  refine va_sld hx hb hXs hbl hbA hS (vp_in_nI (by omega) (by omega)) dL_law_654 ?_
  refine lv_aload_n hx hb dL_law_655 rfl (lv_at hl 0 rfl) ?_
  refine lv_iload hx hb dL_law_656 (lv_at hl 4 rfl) ?_
  refine lv_iconst (v := 2) hx hb dL_law_658 (by decide) ?_
  refine lv_iadd hx hb dL_law_659 ?_
  refine lv_topi (fun z9 hz9 => ?_)
  obtain rfl : z9 = nI (i + 2) := hz9.trans (nI_add i 2)
  refine va_sld hx hb hXs hbl hbA hS (vp_in_nI (by omega) (by omega)) dL_law_660 ?_
  refine lv_aload_n hx hb dL_law_661 rfl (lv_at hl 0 rfl) ?_
  refine lv_iload hx hb dL_law_662 (lv_at hl 4 rfl) ?_
  refine lv_iconst (v := 3) hx hb dL_law_664 (by decide) ?_
  refine lv_iadd hx hb dL_law_665 ?_
  refine lv_topi (fun z9 hz9 => ?_)
  obtain rfl : z9 = nI (i + 3) := hz9.trans (nI_add i 3)
  refine va_sld hx hb hXs hbl hbA hS (vp_in_nI (by omega) (by omega)) dL_law_666 ?_
  refine lv_aload_n hx hb dL_law_667 rfl (lv_at hl 3 rfl) ?_
  have hAB : ∀ x : Nat, bA 24 qc H.size x → s.heap.size ≤ x := fun x hx9 => hx9.elim (fun ⟨k9, h9, e9⟩ => e9 ▸ hgc k9 h9) (fun h9 => Nat.le_trans hS.1 h9)
  refine va_calli (vx_runSW (As := [.ref (qc 0), .int (xs (nI (i + 1)).toNatClampNeg), .int (xs (nI (i + 2)).toNatClampNeg), .int (xs (nI (i + 3)).toNatClampNeg), .ref (qc 23)]) (rest := []) ⟨hx, hb, hml, hown, hts⟩ (CL_takeBack l D cI cO cL qc a g H hq hl9 hPC (xs (nI (i + 1)).toNatClampNeg) (xs (nI (i + 2)).toNatClampNeg) (xs (nI (i + 3)).toNatClampNeg) (lat_of hR)) (vx_cwSW 5 hts gL_law_L_takeBack rfl rfl rfl bd_LtakeBack ⟨Nat.le_of_ble_eq_true rfl, Nat.le_of_ble_eq_true rfl⟩) (bPSL hk hX hKL hN hS hAB) rfl rfl hl.1 rfl (lv_room (Nat.le_of_ble_eq_true rfl)) dL_law_668 ⟨by show _ ≤ 601024; omega, by show _ ≤ 7293034; omega⟩) hS (fun x _ h => hAB x h) hAB (fun r g1 t H1 locs ht _ hw hB1 hz1 hk1 hS => ?_)
  rw [ht] at hB1
  clear ht
  have hPM := wM_k hPM hk1 hqq hqm
  refine W.widen (k := C + 5) (n := S + 30) (by omega) (by omega) ?_
  refine lv_istore (lv' := [(5, .int r), (0, .ref b), (1, .ref (qc 0)), (2, .ref (qm 0)), (3, .ref (qc 23)), (4, .int (nI i))]) hx hb dL_law_671 hl (by decide) rfl (fun ls hl => ?_)
  refine lv_aload_n hx hb dL_law_673 rfl (lv_at hl 3 rfl) ?_
  refine lv_aload_n hx hb dL_law_674 rfl (lv_at hl 1 rfl) ?_
  refine lv_iload hx hb dL_law_675 (lv_at hl 5 rfl) ?_
  refine lv_iconst (v := 1) hx hb dL_law_677 (by decide) ?_
  refine lv_iadd hx hb dL_law_678 ?_
  refine lv_topi (fun z9 hz9 => ?_)
  obtain rfl : z9 = nI (i + 1) := hz9.trans (nI_add i 1)
  refine va_sld hx hb hXs hbl hbA hS (vp_in_nI (by omega) (by omega)) dL_law_679 ?_
  refine lv_aload_n hx hb dL_law_680 rfl (lv_at hl 1 rfl) ?_
  refine lv_iload hx hb dL_law_681 (lv_at hl 5 rfl) ?_
  refine lv_iconst (v := 2) hx hb dL_law_683 (by decide) ?_
  refine lv_iadd hx hb dL_law_684 ?_
  refine lv_topi (fun z9 hz9 => ?_)
  obtain rfl : z9 = nI (i + 2) := hz9.trans (nI_add i 2)
  refine va_sld hx hb hXs hbl hbA hS (vp_in_nI (by omega) (by omega)) dL_law_685 ?_
  refine lv_aload_n hx hb dL_law_686 rfl (lv_at hl 1 rfl) ?_
  refine lv_iload hx hb dL_law_687 (lv_at hl 5 rfl) ?_
  refine lv_iconst (v := 3) hx hb dL_law_689 (by decide) ?_
  refine lv_iadd hx hb dL_law_690 ?_
  refine lv_topi (fun z9 hz9 => ?_)
  obtain rfl : z9 = nI (i + 3) := hz9.trans (nI_add i 3)
  refine va_sld hx hb hXs hbl hbA hS (vp_in_nI (by omega) (by omega)) dL_law_691 ?_
  have hsim := st_takeBack (by omega) hR (xs (nI (i + 1)).toNatClampNeg) (xs (nI (i + 2)).toNatClampNeg) (xs (nI (i + 3)).toNatClampNeg)
  have hAM : ∀ x : Nat, bA 7 qm H1.size x → s.heap.size ≤ x := fun x hx9 => hx9.elim (fun ⟨k9, h9, e9⟩ => e9 ▸ hgm k9 h9) (fun h9 => Nat.le_trans hS.1 h9)
  refine va_calli (va_runV (As := [.int (xs (nI (i + 1)).toNatClampNeg), .int (xs (nI (i + 2)).toNatClampNeg), .int (xs (nI (i + 3)).toNatClampNeg)]) (rest := []) ⟨hx, hb, hml, hown, hts⟩ (C6_takeBack l D cI qm bb H1 hqm hPM hI (xs (nI (i + 1)).toNatClampNeg) (xs (nI (i + 2)).toNatClampNeg) (xs (nI (i + 3)).toNatClampNeg)) (cwV 3 hts gL_law_X6_takeBack rfl rfl rfl ⟨rfl, bd_X6takeBack⟩ ⟨Nat.le_of_ble_eq_true rfl, Nat.le_of_ble_eq_true rfl⟩) (bPV hk6 (va_recv hk6.1 hPM (ci := 6) (q0 := 0) rfl (wM_0 _ _ _))) rfl rfl hl.1 rfl (lv_room (Nat.le_of_ble_eq_true rfl)) dL_law_692 ⟨by show _ ≤ 601024; omega, by show _ ≤ 7293034; omega⟩) hS (fun x _ h => hAM x h) hAM (fun y b2 t H2 locs ht _ hw2 hB2 hz2 hk2 hS => ?_)
  rw [ht] at hB2
  clear ht
  obtain rfl : y = (F6_takeBack bb (xs (nI (i + 1)).toNatClampNeg) (xs (nI (i + 2)).toNatClampNeg) (xs (nI (i + 3)).toNatClampNeg)).1 := by rw [← hw2]
  obtain rfl : b2 = (F6_takeBack bb (xs (nI (i + 1)).toNatClampNeg) (xs (nI (i + 2)).toNatClampNeg) (xs (nI (i + 3)).toNatClampNeg)).2 := by rw [← hw2]
  obtain ⟨hPM2, hI2⟩ := hB2
  have hPC2 := wCo_m hB1 hk2 hqq hq
  refine lv_istore (lv' := [(6, .int (F6_takeBack bb (xs (nI (i + 1)).toNatClampNeg) (xs (nI (i + 2)).toNatClampNeg) (xs (nI (i + 3)).toNatClampNeg)).1), (5, .int r), (0, .ref b), (1, .ref (qc 0)), (2, .ref (qm 0)), (3, .ref (qc 23)), (4, .int (nI i))]) hx hb dL_law_695 hl (by decide) rfl (fun ls hl => ?_)
  refine lv_aload_n hx hb dL_law_697 rfl (lv_at hl 4 rfl) ?_
  refine bcall_Ri (va_runV (As := []) (rest := []) ⟨hx, hb, hml, hown, hts⟩ (C6_thrown l D cI qm _ _ hPM2 hI2) (cwV 0 hts gL_law_X6_thrown rfl rfl rfl ⟨rfl, bd_X6thrown⟩ ⟨Nat.le_of_ble_eq_true rfl, Nat.le_of_ble_eq_true rfl⟩) (bPV hk6 (va_recv hk6.1 hPM2 (ci := 6) (q0 := 0) rfl (wM_0 _ _ _))) rfl rfl hl.1 rfl (lv_room (Nat.le_of_ble_eq_true rfl)) dL_law_698 ⟨by show _ ≤ 601024; omega, by show _ ≤ 7293034; omega⟩) hS (fun locs hS => ?_)
  refine lv_iload hx hb dL_law_701 (lv_at hl 1 rfl) ?_
  refine lv_icmp_eq (tgt := 708) hx hb dL_law_703 (by decide) (fun _ => ?_) (fun c9 => absurd (hsim.1.trans hw.1.symm) c9)
  refine lv_iload hx hb dL_law_708 (lv_at hl 1 rfl) ?_
  refine lv_if_ne (tgt := 725) hx hb dL_law_710 (by decide) (fun c9 => ?_) (fun c9 => ?_)
  · refine lv_goto (tgt := 2009) hx hb dL_law_725 (by decide) ?_
    refine W.widen (k := C + 5) (n := S + 30) (by omega) (by omega) ?_
    exact kk _ _ _ _ _ _ (Rel_up hsim.2.2 (by omega)) hI2 hPC2 hPM2 hS (lv_sub hl [2, 3, 4, 5, 6] rfl)
  · refine lv_aload_n hx hb dL_law_713 rfl (lv_at hl 5 rfl) ?_
    refine lv_iconst (v := 0) hx hb dL_law_714 (by decide) ?_
    refine va_lald hx hb hKL hPC2 23 0 rfl rfl (vp_in_nI (n := 0) (by decide) (by decide)) dL_law_715 ?_
    refine lv_iload hx hb dL_law_716 (lv_at hl 0 rfl) ?_
    refine lv_i2l (v := ((F6_takeBack bb (xs (nI (i + 1)).toNatClampNeg) (xs (nI (i + 2)).toNatClampNeg) (xs (nI (i + 3)).toNatClampNeg)).1).toInt64) hx hb dL_law_718 rfl ?_
    refine W.lcmp hx hb dL_law_719 ?_
    have hv0 : (F5_takeBack a (xs (nI (i + 1)).toNatClampNeg) (xs (nI (i + 2)).toNatClampNeg) (xs (nI (i + 3)).toNatClampNeg)).1 = 0 := hw.1.symm.trans c9
    rw [show (0 : Int32).toNatClampNeg = 0 from by decide, lg_cmp_same ((hw.2 hv0).trans (congrArg Int32.toInt64 (hsim.2.1 hv0)))]
    refine lv_if_eq (tgt := 725) hx hb dL_law_720 (by decide) (fun _ => ?_) (fun h9 => absurd rfl h9)
    refine lv_goto (tgt := 2009) hx hb dL_law_725 (by decide) ?_
    refine W.widen (k := C + 5) (n := S + 30) (by omega) (by omega) ?_
    exact kk _ _ _ _ _ _ (Rel_up hsim.2.2 (by omega)) hI2 hPC2 hPM2 hS (lv_sub hl [2, 3, 4, 5, 6] rfl)

-- the law's walk: its world, the ends of its calls (own text)
def wCb (cI cO : ClassId) (q : Nat → Nat) (u : bU) (g : Nat → Int32) : va_W := wC cI cO q u ++ [(q 23, .inl (cI, 8, .inl g))]
theorem wCb_addr (cI cO : ClassId) (q : Nat → Nat) (u : bU) (g : Nat → Int32) : (wCb cI cO q u g).map Prod.fst = (List.range 24).map q := rfl
theorem wCb_C {D : va_G} {cI cO : ClassId} {q : Nat → Nat} {u : bU} {g : Nat → Int32} {H : Heap} (h : va_P D vwCl (wCb cI cO q u g) H) : va_P D vwCl (wC cI cO q u) H := fun k x hk => h k x (by
  unfold wCb
  rw [List.getElem?_append_left (List.getElem?_eq_some_iff.mp hk).1]
  exact hk)
theorem wCb_B {D : va_G} {cI cO : ClassId} {q : Nat → Nat} {u : bU} {g : Nat → Int32} {H : Heap} (h : va_P D vwCl (wCb cI cO q u g) H) : va_P D vwCl [(q 23, .inl (cI, 8, .inl g))] H := bRow h 23 rfl
theorem wCb_of {D : va_G} {cI cO : ClassId} {q : Nat → Nat} {u : bU} {g : Nat → Int32} {H : Heap} (h : va_P D vwCl (wC cI cO q u) H) (h2 : va_P D vwCl [(q 23, .inl (cI, 8, .inl g))] H) : va_P D vwCl (wCb cI cO q u g) H := va_P.app h h2
theorem bInj_23 {q : Nat → Nat} (hq : bInj 24 q) : bInj 23 q := fun i j hi hj h => hq i j (by omega) (by omega) h
theorem wCb_D {A : Nat → Prop} {cI cO : ClassId} {q : Nat → Nat} {u : bU} {g : Nat → Int32} (hq : bInj 24 q) (hA : ∀ i : Nat, i < 24 → A (q i)) : va_D A (wCb cI cO q u g) := by
  have h := bD_of (n := 24) (sz := 0) (wCb_addr cI cO q u g) hq
  refine ⟨h.1, fun k p hk => ?_⟩
  have h1 : ((wCb cI cO q u g).map Prod.fst)[k]? = some p.1 := by rw [List.getElem?_map, hk]; rfl
  rw [wCb_addr, List.getElem?_map] at h1
  rcases Nat.lt_or_ge k 24 with hi | hi
  · rw [List.getElem?_range hi] at h1
    rw [← Option.some.inj h1]
    exact hA k hi
  · rw [List.getElem?_eq_none (by simpa using hi)] at h1
    cases h1
theorem bA_law {q : Nat → Nat} {s : State} {H : Heap} (hg : ∀ i : Nat, i < 24 → s.heap.size ≤ q i) (hz : s.heap.size ≤ H.size) : ∀ x : Nat, bA 23 q H.size x → s.heap.size ≤ x := fun x hx => by
  rcases hx with ⟨k, hk, e⟩ | hx
  · rw [← e]; exact hg k (by omega)
  · exact Nat.le_trans hz hx
theorem law_W {p : Program} {l : Launch} {e : Env} {R : Room} {s : State} {m : MethodId} {args : Array Value} {below : List Frame} {meth : Method} {c : Code} {H : Heap} {locs : List Loc} {cells slots : Nat} {Q : State → Prop} {pc : Nat} {ls : Array Slot} {rest st0 : List Value} {a : Array Value} {D : va_G} {cI cO : ClassId} {q : Nat → Nat} {u : bU} {fb : Nat → Int32} {v : Int32 × bU}
    (hr : va_Run p l e R s m args below meth c H locs cells slots 0 0 (F0 m pc ls st0) rest (bWi D (wC cI cO q) bT (bA 23 q H.size) v a) (bA 23 q H.size)) (hS : va_S (fun q : Nat => s.heap.size ≤ q) s.heap H locs) (hP : va_P D vwCl (wCb cI cO q u fb) H) (hq : bInj 24 q) (hg : ∀ i : Nat, i < 24 → s.heap.size ≤ q i)
    (kk : ∀ (H1 : Heap) (locs1 : List Loc), va_P D vwCl (wCb cI cO q v.2 fb) H1 → va_S (fun q : Nat => s.heap.size ≤ q) s.heap H1 locs1 → W p l e R s m args below meth c H1 locs1 cells slots Q (F0 m (pc + 3) ls (.int v.1 :: rest))) : W p l e R s m args below meth c H locs cells slots Q (F0 m pc ls st0) :=
  va_calli hr hS (fun x _ h => bA_law hg hS.1 x h) (fun x h => bA_law hg hS.1 x h) (fun r u2 t H1 locs1 ht _ hw hB _ hk1 hS1 => by
    subst hw; subst ht
    refine kk _ locs1 (wCb_of hB.1 ((wCb_B hP).kept fun k2 q2 hq2 => hk1 q2.1 ((wCb_B hP) k2 q2 hq2).lt ?_)) hS1
    intro hx
    have h1 : k2 < 1 := (List.getElem?_eq_some_iff.mp hq2).1
    obtain rfl : k2 = 0 := by omega
    cases hq2
    rcases hx with ⟨i, hi, e9⟩ | hx
    · have := hq i 23 (by omega) (by omega) e9
      omega
    · exact absurd ((wCb_B hP) 0 _ rfl).lt (Nat.not_lt.mpr hx))
theorem v_b2 {u : bU} {b : Nat} (hb : b < 8) : F5_brand u (nI b) 2 = u 0 (17 + 12 * b + 2) := v_brand (w := 2) hb (by decide) (by decide) (by decide)
theorem bd_Lacts : yL_acts.cls ≠ "java/lang/invoke/MethodHandle" ∧ yL_acts.cls ≠ "java/lang/invoke/VarHandle" ∧ (parseMethodDescriptor yL_acts.desc).map (fun d => d.parameters.length) = some 2 := by decide +kernel
theorem bd_Lbrands : yL_brands.cls ≠ "java/lang/invoke/MethodHandle" ∧ yL_brands.cls ≠ "java/lang/invoke/VarHandle" ∧ (parseMethodDescriptor yL_brands.desc).map (fun d => d.parameters.length) = some 2 := by decide +kernel
theorem bd_Lcell : yL_cell.cls ≠ "java/lang/invoke/MethodHandle" ∧ yL_cell.cls ≠ "java/lang/invoke/VarHandle" ∧ (parseMethodDescriptor yL_cell.desc).map (fun d => d.parameters.length) = some 2 := by decide +kernel
theorem bd_Lmoney : yL_money.cls ≠ "java/lang/invoke/MethodHandle" ∧ yL_money.cls ≠ "java/lang/invoke/VarHandle" ∧ (parseMethodDescriptor yL_money.desc).map (fun d => d.parameters.length) = some 2 := by decide +kernel
theorem bd_X5addBrand : yX5_addBrand.cls ≠ "java/lang/invoke/MethodHandle" ∧ yX5_addBrand.cls ≠ "java/lang/invoke/VarHandle" ∧ (parseMethodDescriptor yX5_addBrand.desc).map (fun d => d.parameters.length) = some 2 := by decide +kernel
theorem bd_X5addShop : yX5_addShop.cls ≠ "java/lang/invoke/MethodHandle" ∧ yX5_addShop.cls ≠ "java/lang/invoke/VarHandle" ∧ (parseMethodDescriptor yX5_addShop.desc).map (fun d => d.parameters.length) = some 1 := by decide +kernel
theorem bd_X5buyCrates : yX5_buyCrates.cls ≠ "java/lang/invoke/MethodHandle" ∧ yX5_buyCrates.cls ≠ "java/lang/invoke/VarHandle" ∧ (parseMethodDescriptor yX5_buyCrates.desc).map (fun d => d.parameters.length) = some 1 := by decide +kernel
theorem bd_X5set : yX5_set.cls ≠ "java/lang/invoke/MethodHandle" ∧ yX5_set.cls ≠ "java/lang/invoke/VarHandle" ∧ (parseMethodDescriptor yX5_set.desc).map (fun d => d.parameters.length) = some 2 := by decide +kernel
theorem bd_X5undo : yX5_undo.cls ≠ "java/lang/invoke/MethodHandle" ∧ yX5_undo.cls ≠ "java/lang/invoke/VarHandle" ∧ (parseMethodDescriptor yX5_undo.desc).map (fun d => d.parameters.length) = some 0 := by decide +kernel
set_option maxHeartbeats 4000000 in
set_option maxRecDepth 100000 in
theorem law_E {p : Program} {l : Launch} {e : Env} {s : State} {m : MethodId} {below : List Frame} {meth : Method} {c : Code} {b L : Nat} {xs : Nat → Int32} {D : va_G} {cI cO : ClassId} {q : Nat → Nat} {B n t : Nat} {kd : Nat → Nat} {f : Nat} {mm kk : Int32} {bb fb : Nat → Int32} {u : bU} (C0 : lw_At p s m meth c b L xs) (hLL : L ≤ 260) (hk : bK D [(cI, .int), (cO, .object RX2)] s) (hX : bTb "LEAST_SETTING" tLeast (fun q : Nat => s.heap.size ≤ q) s s.heap ∧ bTb "MOST_SETTING" tMost (fun q : Nat => s.heap.size ≤ q) s s.heap) (hq : bInj 24 q) (hg : ∀ i : Nat, i < 24 → s.heap.size ≤ q i) {X : Nat} (hG : GS B n t kd f mm kk bb u) (hB : B < 40000000) (hn1 : 1 ≤ n) (ht1 : 1 ≤ t) {K : Nat} (hkk : kk = nI K) (hK9 : K ≤ 999) (hf : ∀ j : Nat, j < n → fb j = bb j) {H : Heap} {locs : List Loc} {ls : Array Slot} (hP : va_P D vwCl (wCb cI cO q u fb) H) (hS : va_S (fun q : Nat => s.heap.size ≤ q) s.heap H locs) (hl : lv_has ls 8 [(0, .ref b), (1, .ref (q 0)), (2, .ref (q 23)), (3, .int (nI X)), (4, .int mm), (5, .int 1), (6, .int (nI 50))]) : W p l e room_1 s m #[Value.ref b] below meth c H locs 24 2527 (lw_Z below #[Value.ref b] s) (F0 m 320 ls []) := by
  obtain ⟨hx, hb, hr, hml, hown, hts0, hXs, hbl, hlocks, hgv⟩ := id C0
  have hts : ∀ w ∈ wsL_law, w.before #[Value.ref b] s = true := fun w h => hts0 w (wsL_law_in w h)
  have hbA : ¬ (fun q : Nat => s.heap.size ≤ q) b := Nat.not_le.mpr hbl
  have hq23 := bInj_23 hq
  have hrd := rd_of hG.1 hn1 ht1
  obtain ⟨u1, u2, u3, u4, a1, a2, a3, s1, s2, s3, s4, p1, p2, p3, la1, la2, la3, h345⟩ := F_end hG.1 hG.2 (by omega) hkk hK9
  have hI4 : INV B n t kd f mm kk 0 bb (u4 0) := INV_far hG.1 (fun j hj => h345 j (by omega)) (fun a e ha he => by rw [h345 _ (by omega), h345 _ (by omega)]; exact hG.1.2.2.2.2.1 a e ha he)
  have hrd4 := rd_of hI4 hn1 ht1
  refine lv_aload_n hx hb dL_law_320 rfl (lv_at hl 1 rfl) ?_
  refine lv_iconst (v := 4) hx hb dL_law_321 (by decide) ?_
  refine bcall_Ri (va_runV (As := [.int 4]) (rest := []) ⟨hx, hb, hml, hown, hts⟩ (Met_R (C5_count l D cI cO q u _ (wCb_C hP) 4 (by decide)) v_n4) (cwV 1 hts gL_law_X5_count rfl rfl rfl ⟨rfl, bd_X5count⟩ ⟨Nat.le_of_ble_eq_true rfl, Nat.le_of_ble_eq_true rfl⟩) (bPV hk (va_recv hk.1 (wCb_C hP) (ci := 5) (q0 := 0) rfl (wC_0 _ _ _ _))) rfl rfl hl.1 rfl (lv_room (Nat.le_of_ble_eq_true rfl)) dL_law_322 ⟨Nat.le_of_ble_eq_true rfl, Nat.le_of_ble_eq_true rfl⟩) hS (fun locs hS => ?_)
  refine lv_istore (lv' := [(6, .int (u 0 4)), (0, .ref b), (1, .ref (q 0)), (2, .ref (q 23)), (3, .int (nI X)), (4, .int mm), (5, .int 1)]) hx hb dL_law_325 hl (by decide) rfl (fun ls hl => ?_)
  refine lv_aload_n hx hb dL_law_327 rfl (lv_at hl 2 rfl) ?_
  refine lv_bipush (v := 6) hx hb dL_law_328 (by decide) ?_
  refine bcall_Ri (va_runV (As := [.int 6]) (rest := []) ⟨hx, hb, hml, hown, hts⟩ (Met_R (C5_count l D cI cO q u _ (wCb_C hP) 6 (by decide)) v_n6) (cwV 1 hts gL_law_X5_count rfl rfl rfl ⟨rfl, bd_X5count⟩ ⟨Nat.le_of_ble_eq_true rfl, Nat.le_of_ble_eq_true rfl⟩) (bPV hk (va_recv hk.1 (wCb_C hP) (ci := 5) (q0 := 0) rfl (wC_0 _ _ _ _))) rfl rfl hl.1 rfl (lv_room (Nat.le_of_ble_eq_true rfl)) dL_law_330 ⟨Nat.le_of_ble_eq_true rfl, Nat.le_of_ble_eq_true rfl⟩) hS (fun locs hS => ?_)
  refine lv_istore (lv' := [(7, .int (u 0 6)), (6, .int (u 0 4)), (0, .ref b), (1, .ref (q 0)), (2, .ref (q 23)), (3, .int (nI X)), (4, .int mm), (5, .int 1)]) hx hb dL_law_333 hl (by decide) rfl (fun ls hl => ?_)
  refine lv_iload hx hb dL_law_335 (lv_at hl 7 rfl) ?_
  refine lv_if_eq (tgt := 413) hx hb dL_law_337 (by decide) (fun h9 => absurd h9 (by decide)) (fun _ => ?_)
  refine lv_aload_n hx hb dL_law_340 rfl (lv_at hl 3 rfl) ?_
  refine lv_iconst (v := 4) hx hb dL_law_341 (by decide) ?_
  refine lv_iconst (v := 3) hx hb dL_law_342 (by decide) ?_
  refine law_W (va_runV (As := [.int 4, .int 3]) (rest := []) ⟨hx, hb, hml, hown, hts⟩ (Met_W (C5_set l D cI cO q u _ hq23 (wCb_C hP) 4 3 (kp_lat (KP_0 hG.2)) (by rw [s1])) (show _ = (6, u1) by rw [s1])) (cwV 2 hts gL_law_X5_set rfl rfl rfl ⟨rfl, bd_X5set⟩ ⟨Nat.le_of_ble_eq_true rfl, Nat.le_of_ble_eq_true rfl⟩) (bPVY hk hX hS (bA_law hg hS.1) (va_recv hk.1 (wCb_C hP) (ci := 5) (q0 := 0) rfl (wC_0 _ _ _ _))) rfl rfl hl.1 rfl (lv_room (Nat.le_of_ble_eq_true rfl)) dL_law_343 ⟨Nat.le_of_ble_eq_true rfl, Nat.le_of_ble_eq_true rfl⟩) hS hP hq hg (fun H locs hP hS => ?_)
  have hP : va_P D vwCl (wCb cI cO q u1 fb) H := hP
  refine W.eq (g2 := F0 m 346 ls [.int 6]) rfl ?_
  refine lv_if_lt (tgt := 413) hx hb dL_law_346 (by decide) (fun h9 => absurd h9 (by decide)) (fun _ => ?_)
  refine lv_aload_n hx hb dL_law_349 rfl (lv_at hl 3 rfl) ?_
  refine lv_iconst (v := 1) hx hb dL_law_350 (by decide) ?_
  refine law_W (va_runV (As := [.int 1]) (rest := []) ⟨hx, hb, hml, hown, hts⟩ (Met_W (C5_buyCrates l D cI cO q u1 _ hq23 (wCb_C hP) 1 la1 (by rw [s2])) (show _ = (a1, u2) by rw [s2])) (cwV 1 hts gL_law_X5_buyCrates rfl rfl rfl ⟨rfl, bd_X5buyCrates⟩ ⟨Nat.le_of_ble_eq_true rfl, Nat.le_of_ble_eq_true rfl⟩) (bPV hk (va_recv hk.1 (wCb_C hP) (ci := 5) (q0 := 0) rfl (wC_0 _ _ _ _))) rfl rfl hl.1 rfl (lv_room (Nat.le_of_ble_eq_true rfl)) dL_law_351 ⟨Nat.le_of_ble_eq_true rfl, Nat.le_of_ble_eq_true rfl⟩) hS hP hq hg (fun H locs hP hS => ?_)
  have hP : va_P D vwCl (wCb cI cO q u2 fb) H := hP
  refine W.eq (g2 := F0 m 354 ls [.int a1]) rfl ?_
  refine lv_if_le (tgt := 413) hx hb dL_law_354 (by decide) (fun h9 => absurd h9 (Int32.not_le.mpr p1)) (fun _ => ?_)
  refine lv_aload_n hx hb dL_law_357 rfl (lv_at hl 3 rfl) ?_
  refine law_W (va_runV (As := []) (rest := []) ⟨hx, hb, hml, hown, hts⟩ (Met_W (C5_undo l D cI cO q u2 _ hq23 (wCb_C hP) la2 (by rw [s3])) (show _ = (a2, u3) by rw [s3])) (cwV 0 hts gL_law_X5_undo rfl rfl rfl ⟨rfl, bd_X5undo⟩ ⟨Nat.le_of_ble_eq_true rfl, Nat.le_of_ble_eq_true rfl⟩) (bPV hk (va_recv hk.1 (wCb_C hP) (ci := 5) (q0 := 0) rfl (wC_0 _ _ _ _))) rfl rfl hl.1 rfl (lv_room (Nat.le_of_ble_eq_true rfl)) dL_law_358 ⟨Nat.le_of_ble_eq_true rfl, Nat.le_of_ble_eq_true rfl⟩) hS hP hq hg (fun H locs hP hS => ?_)
  have hP : va_P D vwCl (wCb cI cO q u3 fb) H := hP
  refine W.eq (g2 := F0 m 361 ls [.int a2]) rfl ?_
  refine lv_if_le (tgt := 413) hx hb dL_law_361 (by decide) (fun h9 => absurd h9 (Int32.not_le.mpr p2)) (fun _ => ?_)
  refine lv_aload_n hx hb dL_law_364 rfl (lv_at hl 3 rfl) ?_
  refine law_W (va_runV (As := []) (rest := []) ⟨hx, hb, hml, hown, hts⟩ (Met_W (C5_undo l D cI cO q u3 _ hq23 (wCb_C hP) la3 (by rw [s4])) (show _ = (a3, u4) by rw [s4])) (cwV 0 hts gL_law_X5_undo rfl rfl rfl ⟨rfl, bd_X5undo⟩ ⟨Nat.le_of_ble_eq_true rfl, Nat.le_of_ble_eq_true rfl⟩) (bPV hk (va_recv hk.1 (wCb_C hP) (ci := 5) (q0 := 0) rfl (wC_0 _ _ _ _))) rfl rfl hl.1 rfl (lv_room (Nat.le_of_ble_eq_true rfl)) dL_law_365 ⟨Nat.le_of_ble_eq_true rfl, Nat.le_of_ble_eq_true rfl⟩) hS hP hq hg (fun H locs hP hS => ?_)
  have hP : va_P D vwCl (wCb cI cO q u4 fb) H := hP
  refine W.eq (g2 := F0 m 368 ls [.int a3]) rfl ?_
  refine lv_if_le (tgt := 413) hx hb dL_law_368 (by decide) (fun h9 => absurd h9 (Int32.not_le.mpr p3)) (fun _ => ?_)
  refine lv_aload_n hx hb dL_law_371 rfl (lv_at hl 3 rfl) ?_
  refine lv_iconst (v := 4) hx hb dL_law_372 (by decide) ?_
  refine bcall_Ri (va_runV (As := [.int 4]) (rest := []) ⟨hx, hb, hml, hown, hts⟩ (Met_R (C5_count l D cI cO q u4 _ (wCb_C hP) 4 (by decide)) (v_n4.trans (h345 4 (by decide)))) (cwV 1 hts gL_law_X5_count rfl rfl rfl ⟨rfl, bd_X5count⟩ ⟨Nat.le_of_ble_eq_true rfl, Nat.le_of_ble_eq_true rfl⟩) (bPV hk (va_recv hk.1 (wCb_C hP) (ci := 5) (q0 := 0) rfl (wC_0 _ _ _ _))) rfl rfl hl.1 rfl (lv_room (Nat.le_of_ble_eq_true rfl)) dL_law_373 ⟨Nat.le_of_ble_eq_true rfl, Nat.le_of_ble_eq_true rfl⟩) hS (fun locs hS => ?_)
  refine lv_iload hx hb dL_law_376 (lv_at hl 1 rfl) ?_
  refine lv_icmp_ne (tgt := 413) hx hb dL_law_378 (by decide) (fun h9 => absurd rfl h9) (fun _ => ?_)
  refine lv_aload_n hx hb dL_law_381 rfl (lv_at hl 3 rfl) ?_
  refine lv_bipush (v := 6) hx hb dL_law_382 (by decide) ?_
  refine bcall_Ri (va_runV (As := [.int 6]) (rest := []) ⟨hx, hb, hml, hown, hts⟩ (Met_R (C5_count l D cI cO q u4 _ (wCb_C hP) 6 (by decide)) (v_n6.trans (h345 6 (by decide)))) (cwV 1 hts gL_law_X5_count rfl rfl rfl ⟨rfl, bd_X5count⟩ ⟨Nat.le_of_ble_eq_true rfl, Nat.le_of_ble_eq_true rfl⟩) (bPV hk (va_recv hk.1 (wCb_C hP) (ci := 5) (q0 := 0) rfl (wC_0 _ _ _ _))) rfl rfl hl.1 rfl (lv_room (Nat.le_of_ble_eq_true rfl)) dL_law_384 ⟨Nat.le_of_ble_eq_true rfl, Nat.le_of_ble_eq_true rfl⟩) hS (fun locs hS => ?_)
  refine lv_iload hx hb dL_law_387 (lv_at hl 0 rfl) ?_
  refine lv_icmp_ne (tgt := 413) hx hb dL_law_389 (by decide) (fun h9 => absurd rfl h9) (fun _ => ?_)
  refine lv_aload_n hx hb dL_law_392 rfl (lv_at hl 3 rfl) ?_
  refine lv_aload_n hx hb dL_law_393 rfl (lv_at hl 4 rfl) ?_
  refine bcall_Ri (va_runS (As := [.ref (q 0), .ref (q 23)]) (rest := []) ⟨hx, hb, hml, hown, hts⟩ (Met_R (CL_brands l D cI cO q u4 _ (wCb_C hP) (q 23) fb (wCb_B hP) hrd4) (brands_ok hI4 (by omega) hf)) (va_cwS 2 hts gL_law_L_brands rfl rfl rfl bd_Lbrands ⟨Nat.le_of_ble_eq_true rfl, Nat.le_of_ble_eq_true rfl⟩) (bPS hk) rfl rfl hl.1 rfl (lv_room (Nat.le_of_ble_eq_true rfl)) dL_law_394 ⟨Nat.le_of_ble_eq_true rfl, Nat.le_of_ble_eq_true rfl⟩) hS (fun locs hS => ?_)
  refine lv_if_eq (tgt := 413) hx hb dL_law_397 (by decide) (fun h9 => absurd h9 (by decide)) (fun _ => ?_)
  refine lv_aload_n hx hb dL_law_400 rfl (lv_at hl 3 rfl) ?_
  refine lv_iload hx hb dL_law_401 (lv_at hl 6 rfl) ?_
  refine bcall_Ri (va_runS (As := [.ref (q 0), .int mm]) (rest := []) ⟨hx, hb, hml, hown, hts⟩ (Met_R (CL_money l D cI cO q u4 _ (wCb_C hP) mm hrd4) (money_ok hI4)) (va_cwS 2 hts gL_law_L_money rfl rfl rfl bd_Lmoney ⟨Nat.le_of_ble_eq_true rfl, Nat.le_of_ble_eq_true rfl⟩) (bPS hk) rfl rfl hl.1 rfl (lv_room (Nat.le_of_ble_eq_true rfl)) dL_law_403 ⟨Nat.le_of_ble_eq_true rfl, Nat.le_of_ble_eq_true rfl⟩) hS (fun locs hS => ?_)
  refine lv_if_eq (tgt := 413) hx hb dL_law_406 (by decide) (fun h9 => absurd h9 (by decide)) (fun _ => ?_)
  refine lv_iconst (v := 1) hx hb dL_law_409 (by decide) ?_
  refine lv_goto (tgt := 414) hx hb dL_law_410 (by decide) ?_
  refine va_forget (fun q hq => hS.2.2 q hq) ?_
  refine W.widen (k := 600130) (n := 7301080) (by omega) (by omega) ?_
  exact lw_ret (d0 := s.drawn) (Drawn.sameBut.refl s.drawn lw_cs) hx hb hr hlocks dL_law_414
set_option maxHeartbeats 4000000 in
set_option maxRecDepth 100000 in
theorem law_D {p : Program} {l : Launch} {e : Env} {s : State} {m : MethodId} {below : List Frame} {meth : Method} {c : Code} {b L : Nat} {xs : Nat → Int32} {D : va_G} {cI cO : ClassId} {q : Nat → Nat} {n t : Nat} {kd : Nat → Nat} {f : Nat} {mm kk : Int32} {bb fb : Nat → Int32} (C0 : lw_At p s m meth c b L xs) (hLL : L ≤ 260) (hk : bK D [(cI, .int), (cO, .object RX2)] s) (hX : bTb "LEAST_SETTING" tLeast (fun q : Nat => s.heap.size ≤ q) s s.heap ∧ bTb "MOST_SETTING" tMost (fun q : Nat => s.heap.size ≤ q) s s.heap) (hq : bInj 24 q) (hg : ∀ i : Nat, i < 24 → s.heap.size ≤ q i) {X : Nat} (hn1 : 1 ≤ n) (ht1 : 1 ≤ t) {K : Nat} (hkk : kk = nI K) (hK9 : K ≤ 999) (hf : ∀ j : Nat, j < n → fb j = bb j) : ∀ (d j B : Nat) (u : bU) (H : Heap) (locs : List Loc) (ls : Array Slot), j + d = 50 → GS B n t kd f mm kk bb u → B + 300000 * d < 39000000 → va_P D vwCl (wCb cI cO q u fb) H → va_S (fun q : Nat => s.heap.size ≤ q) s.heap H locs → lv_has ls 8 [(0, .ref b), (1, .ref (q 0)), (2, .ref (q 23)), (3, .int (nI X)), (4, .int mm), (5, .int 1), (6, .int (nI j))] → W p l e room_1 s m #[Value.ref b] below meth c H locs 24 2527 (lw_Z below #[Value.ref b] s) (F0 m 262 ls []) := by
  obtain ⟨hx, hb, hr, hml, hown, hts0, hXs, hbl, hlocks, hgv⟩ := id C0
  have hts : ∀ w ∈ wsL_law, w.before #[Value.ref b] s = true := fun w h => hts0 w (wsL_law_in w h)
  have hbA : ¬ (fun q : Nat => s.heap.size ≤ q) b := Nat.not_le.mpr hbl
  have hq23 := bInj_23 hq
  intro d
  induction d with
  | zero =>
    intro j B u H locs ls hj hG hB hP hS hl
    obtain rfl : j = 50 := by omega
    refine lv_iload hx hb dL_law_262 (lv_at hl 6 rfl) ?_
    refine lv_bipush (v := 50) hx hb dL_law_264 (by decide) ?_
    refine lv_icmp_ge (tgt := 320) hx hb dL_law_266 (by decide) (fun _ => ?_) (fun h9 => absurd (show (50 : Int32) ≤ nI 50 by decide) h9)
    exact law_E C0 hLL hk hX hq hg hG (by omega) hn1 ht1 hkk hK9 hf hP hS hl
  | succ d ih =>
    intro j B u H locs ls hj hG hB hP hS hl
    rw [Nat.mul_succ] at hB
    have hB1 : B + 300000 + 300000 * d < 39000000 := by rw [Nat.add_assoc, Nat.add_comm 300000]; exact hB
    have hB4 : B < 39000000 := Nat.lt_of_le_of_lt (Nat.le_add_right _ _) hB
    have hB2 : B < 40000000 := Nat.lt_trans hB4 (by decide)
    have hB5 : B + 300000 < 39000000 := Nat.lt_of_le_of_lt (Nat.le_add_right _ _) hB1
    refine lv_iload hx hb dL_law_262 (lv_at hl 6 rfl) ?_
    refine lv_bipush (v := 50) hx hb dL_law_264 (by decide) ?_
    refine lv_icmp_ge (tgt := 320) hx hb dL_law_266 (by decide) (fun h9 => absurd h9 (show ¬ (50 : Int32) ≤ nI j from nI_ge (b := 50) (by omega) (by decide))) (fun _ => ?_)
    refine lv_iload hx hb dL_law_269 (lv_at hl 5 rfl) ?_
    refine lv_if_eq (tgt := 320) hx hb dL_law_271 (by decide) (fun h9 => absurd h9 (by decide)) (fun _ => ?_)
    refine lv_aload_n hx hb dL_law_274 rfl (lv_at hl 1 rfl) ?_
    refine lv_aload_n hx hb dL_law_275 rfl (lv_at hl 0 rfl) ?_
    refine lv_bipush (v := 10) hx hb dL_law_276 (by decide) ?_
    refine lv_iload hx hb dL_law_278 (lv_at hl 6 rfl) ?_
    refine lv_iadd hx hb dL_law_280 ?_
    refine lv_topi (fun z9 hz9 => ?_)
    rw [hz9.trans (nI_add 10 j)]
    refine bcall_Ri (va_runS (As := [.ref b, .int (nI (10 + j))]) (rest := [.ref (q 0)]) ⟨hx, hb, hml, hown, hts⟩ (CL_cell l _ hLL (show 10 + j < 1000 by omega)) (va_cwS 2 hts gL_law_L_cell rfl rfl rfl bd_Lcell ⟨Nat.le_of_ble_eq_true rfl, Nat.le_of_ble_eq_true rfl⟩) (bPSC (hXs.kept (hS.2.1 b hbl hbA))) rfl rfl hl.1 rfl (lv_room (Nat.le_of_ble_eq_true rfl)) dL_law_281 ⟨Nat.le_of_ble_eq_true rfl, Nat.le_of_ble_eq_true rfl⟩) hS (fun locs hS => ?_)
    obtain ⟨u2, hG2, hA⟩ := CM_acts l D cI cO q _ hq23 (wCb_C hP) hG hB2 hn1 ht1 (cellN_lt xs L (10 + j))
    refine law_W (va_runS (As := [.ref (q 0), .int (nI (cellN xs L (10 + j)))]) (rest := []) ⟨hx, hb, hml, hown, hts⟩ (hA) (va_cwS 2 hts gL_law_L_acts rfl rfl rfl bd_Lacts ⟨Nat.le_of_ble_eq_true rfl, Nat.le_of_ble_eq_true rfl⟩) (bPS hk) rfl rfl hl.1 rfl (lv_room (Nat.le_of_ble_eq_true rfl)) dL_law_284 ⟨Nat.le_of_ble_eq_true rfl, Nat.le_of_ble_eq_true rfl⟩) hS hP hq hg (fun H locs hP hS => ?_)
    have hP : va_P D vwCl (wCb cI cO q u2 fb) H := hP
    refine W.eq (g2 := F0 m 287 ls [.int 1]) rfl ?_
    refine lv_if_eq (tgt := 311) hx hb dL_law_287 (by decide) (fun h9 => absurd h9 (by decide)) (fun _ => ?_)
    refine lv_aload_n hx hb dL_law_290 rfl (lv_at hl 1 rfl) ?_
    refine lv_aload_n hx hb dL_law_291 rfl (lv_at hl 2 rfl) ?_
    have hI2 : INV (B + 300000) n t kd f mm kk 0 bb (u2 0) := hG2.1
    have hrd2 := rd_of hI2 hn1 ht1
    refine bcall_Ri (va_runS (As := [.ref (q 0), .ref (q 23)]) (rest := []) ⟨hx, hb, hml, hown, hts⟩ (Met_R (CL_brands l D cI cO q u2 _ (wCb_C hP) (q 23) fb (wCb_B hP) hrd2) (brands_ok hI2 (Nat.lt_trans hB5 (by decide)) hf)) (va_cwS 2 hts gL_law_L_brands rfl rfl rfl bd_Lbrands ⟨Nat.le_of_ble_eq_true rfl, Nat.le_of_ble_eq_true rfl⟩) (bPS hk) rfl rfl hl.1 rfl (lv_room (Nat.le_of_ble_eq_true rfl)) dL_law_292 ⟨Nat.le_of_ble_eq_true rfl, Nat.le_of_ble_eq_true rfl⟩) hS (fun locs hS => ?_)
    refine lv_if_eq (tgt := 311) hx hb dL_law_295 (by decide) (fun h9 => absurd h9 (by decide)) (fun _ => ?_)
    refine lv_aload_n hx hb dL_law_298 rfl (lv_at hl 1 rfl) ?_
    refine lv_iload hx hb dL_law_299 (lv_at hl 4 rfl) ?_
    refine bcall_Ri (va_runS (As := [.ref (q 0), .int mm]) (rest := []) ⟨hx, hb, hml, hown, hts⟩ (Met_R (CL_money l D cI cO q u2 _ (wCb_C hP) mm hrd2) (money_ok hI2)) (va_cwS 2 hts gL_law_L_money rfl rfl rfl bd_Lmoney ⟨Nat.le_of_ble_eq_true rfl, Nat.le_of_ble_eq_true rfl⟩) (bPS hk) rfl rfl hl.1 rfl (lv_room (Nat.le_of_ble_eq_true rfl)) dL_law_301 ⟨Nat.le_of_ble_eq_true rfl, Nat.le_of_ble_eq_true rfl⟩) hS (fun locs hS => ?_)
    refine lv_if_eq (tgt := 311) hx hb dL_law_304 (by decide) (fun h9 => absurd h9 (by decide)) (fun _ => ?_)
    refine lv_iconst (v := 1) hx hb dL_law_307 (by decide) ?_
    refine lv_goto (tgt := 312) hx hb dL_law_308 (by decide) ?_
    refine lv_istore (lv' := [(5, .int 1), (0, .ref b), (1, .ref (q 0)), (2, .ref (q 23)), (3, .int (nI X)), (4, .int mm), (6, .int (nI j))]) hx hb dL_law_312 hl (by decide) rfl (fun ls hl => ?_)
    refine lv_iinc (v := nI (j + 1)) (lv' := [(6, .int (nI (j + 1))), (5, .int 1), (0, .ref b), (1, .ref (q 0)), (2, .ref (q 23)), (3, .int (nI X)), (4, .int mm)]) hx hb dL_law_314 hl (k := 6) rfl (bInc j) (by decide) rfl (fun ls hl => ?_)
    refine lv_goto (tgt := 262) hx hb dL_law_317 (by decide) ?_
    exact ih (j + 1) (B + 300000) u2 _ _ _ (by omega) hG2 hB1 hP hS (lv_sub hl [2, 3, 4, 5, 6, 1, 0] rfl)
set_option maxHeartbeats 4000000 in
set_option maxRecDepth 100000 in
theorem law_C {p : Program} {l : Launch} {e : Env} {s : State} {m : MethodId} {below : List Frame} {meth : Method} {c : Code} {b L : Nat} {xs : Nat → Int32} {D : va_G} {cI cO : ClassId} {q : Nat → Nat} {n : Nat} {kd : Nat → Nat} {f : Nat} {kk : Int32} {bb fb : Nat → Int32} (C0 : lw_At p s m meth c b L xs) (hLL : L ≤ 260) (hk : bK D [(cI, .int), (cO, .object RX2)] s) (hX : bTb "LEAST_SETTING" tLeast (fun q : Nat => s.heap.size ≤ q) s s.heap ∧ bTb "MOST_SETTING" tMost (fun q : Nat => s.heap.size ≤ q) s s.heap) (hq : bInj 24 q) (hg : ∀ i : Nat, i < 24 → s.heap.size ≤ q i) {X : Nat} (hXl : X < 2 ^ 31) (hn1 : 1 ≤ n) {K : Nat} (hkk : kk = nI K) (hK9 : K ≤ 999) (hf : ∀ j : Nat, j < n → fb j = bb j) : ∀ (d j B : Nat) (mm : Int32) (u : bU) (H : Heap) (locs : List Loc) (ls : Array Slot), j + d = 1 + X / 4096 % 3 → GS B n j kd f mm kk bb u → B + 5000 * d < 1000000 → va_P D vwCl (wCb cI cO q u fb) H → va_S (fun q : Nat => s.heap.size ≤ q) s.heap H locs → lv_has ls 8 [(0, .ref b), (1, .ref (q 0)), (2, .ref (q 23)), (3, .int (nI X)), (4, .int mm), (5, .int 1), (6, .int (nI j))] → W p l e room_1 s m #[Value.ref b] below meth c H locs 24 2527 (lw_Z below #[Value.ref b] s) (F0 m 183 ls []) := by
  obtain ⟨hx, hb, hr, hml, hown, hts0, hXs, hbl, hlocks, hgv⟩ := id C0
  have hts : ∀ w ∈ wsL_law, w.before #[Value.ref b] s = true := fun w h => hts0 w (wsL_law_in w h)
  have hbA : ¬ (fun q : Nat => s.heap.size ≤ q) b := Nat.not_le.mpr hbl
  have hq23 := bInj_23 hq
  have hX4 : X / 4096 < 2 ^ 31 := by omega
  intro d
  induction d with
  | zero =>
    intro j B mm u H locs ls hj hG hB hP hS hl
    refine lv_iload hx hb dL_law_183 (lv_at hl 6 rfl) ?_
    refine lv_iconst (v := 1) hx hb dL_law_185 (by decide) ?_
    refine lv_iload_n hx hb dL_law_186 rfl (lv_at hl 3 rfl) ?_
    refine lv_bipush (v := 12) hx hb dL_law_187 (by decide) ?_
    refine lv_ishr hx hb dL_law_189 ?_
    refine lv_topi (fun z9 hz9 => ?_)
    rw [hz9.trans (pk_shrN hXl (12 &&& 31) 12 (by decide))]
    refine lv_iconst (v := 3) hx hb dL_law_190 (by decide) ?_
    refine lv_irem hx hb dL_law_191 (by decide) ?_
    refine lv_topi (fun z9 hz9 => ?_)
    rw [hz9.trans (pk_rem (d := 3) hX4 (by decide) (by decide))]
    refine lv_iadd hx hb dL_law_192 ?_
    refine lv_topi (fun z9 hz9 => ?_)
    rw [hz9.trans (nI_add 1 _)]
    refine lv_icmp_ge (tgt := 259) hx hb dL_law_193 (by decide) (fun _ => ?_) (fun h9 => absurd (nI_le (show 1 + X / 4096 % 3 ≤ j by omega) (by omega)) h9)
    refine lv_iconst (v := 0) hx hb dL_law_259 (by decide) ?_
    refine lv_istore (lv' := [(6, .int 0), (0, .ref b), (1, .ref (q 0)), (2, .ref (q 23)), (3, .int (nI X)), (4, .int mm), (5, .int 1)]) hx hb dL_law_260 hl (by decide) rfl (fun ls hl => ?_)
    exact law_D C0 hLL hk hX hq hg hn1 (by omega) hkk hK9 hf 50 0 B u _ _ _ (by decide) hG (by omega) hP hS (lv_sub hl [1, 2, 3, 4, 5, 6, 0] rfl)
  | succ d ih =>
    intro j B mm u H locs ls hj hG hB hP hS hl
    rw [Nat.mul_succ] at hB
    have hB1 : B + 5000 + 5000 * d < 1000000 := by rw [Nat.add_assoc, Nat.add_comm 5000]; exact hB
    have hB5 : B + 5000 < 2147483648 := Nat.lt_trans (Nat.lt_of_le_of_lt (Nat.le_add_right _ _) hB1) (by decide)
    refine lv_iload hx hb dL_law_183 (lv_at hl 6 rfl) ?_
    refine lv_iconst (v := 1) hx hb dL_law_185 (by decide) ?_
    refine lv_iload_n hx hb dL_law_186 rfl (lv_at hl 3 rfl) ?_
    refine lv_bipush (v := 12) hx hb dL_law_187 (by decide) ?_
    refine lv_ishr hx hb dL_law_189 ?_
    refine lv_topi (fun z9 hz9 => ?_)
    rw [hz9.trans (pk_shrN hXl (12 &&& 31) 12 (by decide))]
    refine lv_iconst (v := 3) hx hb dL_law_190 (by decide) ?_
    refine lv_irem hx hb dL_law_191 (by decide) ?_
    refine lv_topi (fun z9 hz9 => ?_)
    rw [hz9.trans (pk_rem (d := 3) hX4 (by decide) (by decide))]
    refine lv_iadd hx hb dL_law_192 ?_
    refine lv_topi (fun z9 hz9 => ?_)
    rw [hz9.trans (nI_add 1 _)]
    refine lv_icmp_ge (tgt := 259) hx hb dL_law_193 (by decide) (fun h9 => absurd h9 (nI_ge (show j < 1 + X / 4096 % 3 by omega) (by omega))) (fun _ => ?_)
    refine lv_iload hx hb dL_law_196 (lv_at hl 5 rfl) ?_
    refine lv_if_eq (tgt := 259) hx hb dL_law_198 (by decide) (fun h9 => absurd h9 (by decide)) (fun _ => ?_)
    refine lv_aload_n hx hb dL_law_201 rfl (lv_at hl 0 rfl) ?_
    refine lv_bipush (v := 6) hx hb dL_law_202 (by decide) ?_
    refine lv_iload hx hb dL_law_204 (lv_at hl 6 rfl) ?_
    refine lv_iadd hx hb dL_law_206 ?_
    refine lv_topi (fun z9 hz9 => ?_)
    rw [hz9.trans (nI_add 6 j)]
    refine bcall_Ri (va_runS (As := [.ref b, .int (nI (6 + j))]) (rest := []) ⟨hx, hb, hml, hown, hts⟩ (CL_cell l _ hLL (show 6 + j < 1000 by omega)) (va_cwS 2 hts gL_law_L_cell rfl rfl rfl bd_Lcell ⟨Nat.le_of_ble_eq_true rfl, Nat.le_of_ble_eq_true rfl⟩) (bPSC (hXs.kept (hS.2.1 b hbl hbA))) rfl rfl hl.1 rfl (lv_room (Nat.le_of_ble_eq_true rfl)) dL_law_207 ⟨Nat.le_of_ble_eq_true rfl, Nat.le_of_ble_eq_true rfl⟩) hS (fun locs hS => ?_)
    refine lv_istore (lv' := [(7, .int (nI (cellN xs L (6 + j)))), (0, .ref b), (1, .ref (q 0)), (2, .ref (q 23)), (3, .int (nI X)), (4, .int mm), (5, .int 1), (6, .int (nI j))]) hx hb dL_law_210 hl (by decide) rfl (fun ls hl => ?_)
    refine lv_iload hx hb dL_law_212 (lv_at hl 5 rfl) ?_
    refine lv_sipush (v := 500) hx hb dL_law_214 (by decide) ?_
    refine lv_iload hx hb dL_law_217 (lv_at hl 0 rfl) ?_
    refine lv_sipush (v := 3000) hx hb dL_law_219 (by decide) ?_
    refine lv_irem hx hb dL_law_222 (by decide) ?_
    refine lv_topi (fun z9 hz9 => ?_)
    rw [hz9.trans (pk_rem (d := 3000) (cellN_lt xs L (6 + j)) (by decide) (by decide))]
    refine lv_iadd hx hb dL_law_223 ?_
    refine lv_topi (fun z9 hz9 => ?_)
    rw [hz9.trans (nI_add 500 _)]
    refine lv_iadd hx hb dL_law_224 ?_
    refine lv_topi (fun z9 hz9 => ?_)
    rw [hz9.trans (rfl)]
    refine lv_istore (lv' := [(4, .int (mm + nI (500 + cellN xs L (6 + j) % 3000))), (7, .int (nI (cellN xs L (6 + j)))), (0, .ref b), (1, .ref (q 0)), (2, .ref (q 23)), (3, .int (nI X)), (5, .int 1), (6, .int (nI j))]) hx hb dL_law_225 hl (by decide) rfl (fun ls hl => ?_)
    refine lv_aload_n hx hb dL_law_227 rfl (lv_at hl 3 rfl) ?_
    refine lv_sipush (v := 500) hx hb dL_law_228 (by decide) ?_
    refine lv_iload hx hb dL_law_231 (lv_at hl 1 rfl) ?_
    refine lv_sipush (v := 3000) hx hb dL_law_233 (by decide) ?_
    refine lv_irem hx hb dL_law_236 (by decide) ?_
    refine lv_topi (fun z9 hz9 => ?_)
    rw [hz9.trans (pk_rem (d := 3000) (cellN_lt xs L (6 + j)) (by decide) (by decide))]
    refine lv_iadd hx hb dL_law_237 ?_
    refine lv_topi (fun z9 hz9 => ?_)
    rw [hz9.trans (nI_add 500 _)]
    obtain ⟨u2, s1, hG2⟩ := F_addShop hG.1 (KP_0 hG.2) hB5 (show j < 6 by omega) (M := 500 + cellN xs L (6 + j) % 3000) (by omega)
    refine law_W (va_runV (As := [.int (nI (500 + cellN xs L (6 + j) % 3000))]) (rest := []) ⟨hx, hb, hml, hown, hts⟩ (Met_W (C5_addShop l D cI cO q u _ hq23 (wCb_C hP) (nI (500 + cellN xs L (6 + j) % 3000)) (kp_lat (KP_0 hG.2)) (by rw [s1])) (show _ = (nI j, u2) by rw [s1])) (cwV 1 hts gL_law_X5_addShop rfl rfl rfl ⟨rfl, bd_X5addShop⟩ ⟨Nat.le_of_ble_eq_true rfl, Nat.le_of_ble_eq_true rfl⟩) (bPV hk (va_recv hk.1 (wCb_C hP) (ci := 5) (q0 := 0) rfl (wC_0 _ _ _ _))) rfl rfl hl.1 rfl (lv_room (Nat.le_of_ble_eq_true rfl)) dL_law_238 ⟨Nat.le_of_ble_eq_true rfl, Nat.le_of_ble_eq_true rfl⟩) hS hP hq hg (fun H locs hP hS => ?_)
    have hP : va_P D vwCl (wCb cI cO q u2 fb) H := hP
    refine W.eq (g2 := F0 m 241 ls [.int (nI j)]) rfl ?_
    refine lv_iload hx hb dL_law_241 (lv_at hl 7 rfl) ?_
    refine lv_icmp_ne (tgt := 250) hx hb dL_law_243 (by decide) (fun h9 => absurd rfl h9) (fun _ => ?_)
    refine lv_iconst (v := 1) hx hb dL_law_246 (by decide) ?_
    refine lv_goto (tgt := 251) hx hb dL_law_247 (by decide) ?_
    refine lv_istore (lv' := [(5, .int 1), (4, .int (mm + nI (500 + cellN xs L (6 + j) % 3000))), (7, .int (nI (cellN xs L (6 + j)))), (0, .ref b), (1, .ref (q 0)), (2, .ref (q 23)), (3, .int (nI X)), (6, .int (nI j))]) hx hb dL_law_251 hl (by decide) rfl (fun ls hl => ?_)
    refine lv_iinc (v := nI (j + 1)) (lv' := [(6, .int (nI (j + 1))), (5, .int 1), (4, .int (mm + nI (500 + cellN xs L (6 + j) % 3000))), (7, .int (nI (cellN xs L (6 + j)))), (0, .ref b), (1, .ref (q 0)), (2, .ref (q 23)), (3, .int (nI X))]) hx hb dL_law_253 hl (k := 7) rfl (bInc j) (by decide) rfl (fun ls hl => ?_)
    refine lv_goto (tgt := 183) hx hb dL_law_256 (by decide) ?_
    exact ih (j + 1) (B + 5000) (mm + nI (500 + cellN xs L (6 + j) % 3000)) u2 _ _ _ (by omega) hG2 hB1 hP hS (lv_sub hl [4, 5, 6, 7, 2, 1, 0] rfl)
set_option maxHeartbeats 4000000 in
set_option maxRecDepth 100000 in
theorem law_B {p : Program} {l : Launch} {e : Env} {s : State} {m : MethodId} {below : List Frame} {meth : Method} {c : Code} {b L : Nat} {xs : Nat → Int32} {D : va_G} {cI cO : ClassId} {q : Nat → Nat} {f : Nat} {kk : Int32} (C0 : lw_At p s m meth c b L xs) (hLL : L ≤ 260) (hk : bK D [(cI, .int), (cO, .object RX2)] s) (hX : bTb "LEAST_SETTING" tLeast (fun q : Nat => s.heap.size ≤ q) s s.heap ∧ bTb "MOST_SETTING" tMost (fun q : Nat => s.heap.size ≤ q) s s.heap) (hq : bInj 24 q) (hg : ∀ i : Nat, i < 24 → s.heap.size ≤ q i) {X : Nat} (hXl : X < 2 ^ 31) {K : Nat} (hkk : kk = nI K) (hK9 : K ≤ 999) : ∀ (d j B : Nat) (kd : Nat → Nat) (bb fb : Nat → Int32) (u : bU) (H : Heap) (locs : List Loc) (ls : Array Slot), j + d = 2 + X / 1024 % 3 → GS B j 0 kd f 0 kk bb u → (∀ i : Nat, i < j → fb i = bb i) → B + 10000 * d < 900000 → va_P D vwCl (wCb cI cO q u fb) H → va_S (fun q : Nat => s.heap.size ≤ q) s.heap H locs → lv_has ls 8 [(0, .ref b), (1, .ref (q 0)), (2, .ref (q 23)), (3, .int (nI X)), (4, .int 0), (5, .int 1), (6, .int (nI j))] → W p l e room_1 s m #[Value.ref b] below meth c H locs 24 2527 (lw_Z below #[Value.ref b] s) (F0 m 89 ls []) := by
  obtain ⟨hx, hb, hr, hml, hown, hts0, hXs, hbl, hlocks, hgv⟩ := id C0
  have hts : ∀ w ∈ wsL_law, w.before #[Value.ref b] s = true := fun w h => hts0 w (wsL_law_in w h)
  have hbA : ¬ (fun q : Nat => s.heap.size ≤ q) b := Nat.not_le.mpr hbl
  have hq23 := bInj_23 hq
  have hX4 : X / 1024 < 2 ^ 31 := by omega
  intro d
  induction d with
  | zero =>
    intro j B kd bb fb u H locs ls hj hG hf hB hP hS hl
    refine lv_iload hx hb dL_law_89 (lv_at hl 6 rfl) ?_
    refine lv_iconst (v := 2) hx hb dL_law_91 (by decide) ?_
    refine lv_iload_n hx hb dL_law_92 rfl (lv_at hl 3 rfl) ?_
    refine lv_bipush (v := 10) hx hb dL_law_93 (by decide) ?_
    refine lv_ishr hx hb dL_law_95 ?_
    refine lv_topi (fun z9 hz9 => ?_)
    rw [hz9.trans (pk_shrN hXl (10 &&& 31) 10 (by decide))]
    refine lv_iconst (v := 3) hx hb dL_law_96 (by decide) ?_
    refine lv_irem hx hb dL_law_97 (by decide) ?_
    refine lv_topi (fun z9 hz9 => ?_)
    rw [hz9.trans (pk_rem (d := 3) hX4 (by decide) (by decide))]
    refine lv_iadd hx hb dL_law_98 ?_
    refine lv_topi (fun z9 hz9 => ?_)
    rw [hz9.trans (nI_add 2 _)]
    refine lv_icmp_ge (tgt := 180) hx hb dL_law_99 (by decide) (fun _ => ?_) (fun h9 => absurd (nI_le (show 2 + X / 1024 % 3 ≤ j by omega) (by omega)) h9)
    refine lv_iconst (v := 0) hx hb dL_law_180 (by decide) ?_
    refine lv_istore (lv' := [(6, .int 0), (0, .ref b), (1, .ref (q 0)), (2, .ref (q 23)), (3, .int (nI X)), (4, .int 0), (5, .int 1)]) hx hb dL_law_181 hl (by decide) rfl (fun ls hl => ?_)
    exact law_C C0 hLL hk hX hq hg hXl (by omega) hkk hK9 hf (1 + X / 4096 % 3) 0 B 0 u _ _ _ (by omega) hG (by omega) hP hS (lv_sub hl [1, 2, 3, 4, 5, 6, 0] rfl)
  | succ d ih =>
    intro j B kd bb fb u H locs ls hj hG hf hB hP hS hl
    rw [Nat.mul_succ] at hB
    have hB1 : B + 10000 + 10000 * d < 900000 := by rw [Nat.add_assoc, Nat.add_comm 10000]; exact hB
    have hB5 : B + 10000 < 900000 := Nat.lt_of_le_of_lt (Nat.le_add_right _ _) hB1
    have hj8 : j < 8 := by omega
    refine lv_iload hx hb dL_law_89 (lv_at hl 6 rfl) ?_
    refine lv_iconst (v := 2) hx hb dL_law_91 (by decide) ?_
    refine lv_iload_n hx hb dL_law_92 rfl (lv_at hl 3 rfl) ?_
    refine lv_bipush (v := 10) hx hb dL_law_93 (by decide) ?_
    refine lv_ishr hx hb dL_law_95 ?_
    refine lv_topi (fun z9 hz9 => ?_)
    rw [hz9.trans (pk_shrN hXl (10 &&& 31) 10 (by decide))]
    refine lv_iconst (v := 3) hx hb dL_law_96 (by decide) ?_
    refine lv_irem hx hb dL_law_97 (by decide) ?_
    refine lv_topi (fun z9 hz9 => ?_)
    rw [hz9.trans (pk_rem (d := 3) hX4 (by decide) (by decide))]
    refine lv_iadd hx hb dL_law_98 ?_
    refine lv_topi (fun z9 hz9 => ?_)
    rw [hz9.trans (nI_add 2 _)]
    refine lv_icmp_ge (tgt := 180) hx hb dL_law_99 (by decide) (fun h9 => absurd h9 (nI_ge (show j < 2 + X / 1024 % 3 by omega) (by omega))) (fun _ => ?_)
    refine lv_iload hx hb dL_law_102 (lv_at hl 5 rfl) ?_
    refine lv_if_eq (tgt := 180) hx hb dL_law_104 (by decide) (fun h9 => absurd h9 (by decide)) (fun _ => ?_)
    refine lv_aload_n hx hb dL_law_107 rfl (lv_at hl 0 rfl) ?_
    refine lv_iconst (v := 1) hx hb dL_law_108 (by decide) ?_
    refine lv_iload hx hb dL_law_109 (lv_at hl 6 rfl) ?_
    refine lv_iadd hx hb dL_law_111 ?_
    refine lv_topi (fun z9 hz9 => ?_)
    rw [hz9.trans (nI_add 1 j)]
    refine bcall_Ri (va_runS (As := [.ref b, .int (nI (1 + j))]) (rest := []) ⟨hx, hb, hml, hown, hts⟩ (CL_cell l _ hLL (show 1 + j < 1000 by omega)) (va_cwS 2 hts gL_law_L_cell rfl rfl rfl bd_Lcell ⟨Nat.le_of_ble_eq_true rfl, Nat.le_of_ble_eq_true rfl⟩) (bPSC (hXs.kept (hS.2.1 b hbl hbA))) rfl rfl hl.1 rfl (lv_room (Nat.le_of_ble_eq_true rfl)) dL_law_112 ⟨Nat.le_of_ble_eq_true rfl, Nat.le_of_ble_eq_true rfl⟩) hS (fun locs hS => ?_)
    refine lv_istore (lv' := [(7, .int (nI (cellN xs L (1 + j)))), (0, .ref b), (1, .ref (q 0)), (2, .ref (q 23)), (3, .int (nI X)), (4, .int 0), (5, .int 1), (6, .int (nI j))]) hx hb dL_law_115 hl (by decide) rfl (fun ls hl => ?_)
    refine lv_aload_n hx hb dL_law_117 rfl (lv_at hl 3 rfl) ?_
    refine lv_iload hx hb dL_law_118 (lv_at hl 7 rfl) ?_
    refine lv_bipush (v := 60) hx hb dL_law_120 (by decide) ?_
    refine lv_iload hx hb dL_law_122 (lv_at hl 0 rfl) ?_
    refine lv_iconst (v := 2) hx hb dL_law_124 (by decide) ?_
    refine lv_ishr hx hb dL_law_125 ?_
    refine lv_topi (fun z9 hz9 => ?_)
    rw [hz9.trans (pk_shrN (cellN_lt xs L (1 + j)) (2 &&& 31) 2 (by decide))]
    refine lv_sipush (v := 200) hx hb dL_law_126 (by decide) ?_
    refine lv_irem hx hb dL_law_129 (by decide) ?_
    refine lv_topi (fun z9 hz9 => ?_)
    rw [hz9.trans (pk_rem (d := 200) (by have := cellN_lt xs L (1 + j); omega) (by decide) (by decide))]
    refine lv_iadd hx hb dL_law_130 ?_
    refine lv_topi (fun z9 hz9 => ?_)
    rw [hz9.trans (nI_add 60 _)]
    refine va_iast hx hb hk.1 hP (wCb_D hq hg) hS 23 0 rfl rfl (vp_in_nI hj8 (by decide)) dL_law_131 (fun H locs hP _ hS => ?_)
    have hP : va_P D vwCl (wCb cI cO q u (upd fb j (nI (60 + cellN xs L (1 + j) / 4 % 200)))) H := by rw [mC (by omega)] at hP; exact hP
    refine lv_aload_n hx hb dL_law_132 rfl (lv_at hl 2 rfl) ?_
    refine lv_iload hx hb dL_law_133 (lv_at hl 0 rfl) ?_
    refine lv_iconst (v := 2) hx hb dL_law_135 (by decide) ?_
    refine lv_irem hx hb dL_law_136 (by decide) ?_
    refine lv_topi (fun z9 hz9 => ?_)
    rw [hz9.trans (pk_rem (d := 2) (cellN_lt xs L (1 + j)) (by decide) (by decide))]
    refine lv_aload_n hx hb dL_law_137 rfl (lv_at hl 3 rfl) ?_
    refine lv_iload hx hb dL_law_138 (lv_at hl 7 rfl) ?_
    refine va_iald hx hb hk.1 (wCb_B hP) 0 0 rfl rfl (vp_in_nI hj8 (by decide)) dL_law_140 ?_
    refine lv_topi (fun z9 hz9 => ?_)
    rw [hz9.trans (show upd fb j (nI (60 + cellN xs L (1 + j) / 4 % 200)) (nI j).toNatClampNeg = nI (60 + cellN xs L (1 + j) / 4 % 200) from by rw [mC (by omega)]; exact pk_us)]
    obtain ⟨u2, s1, s1E, s1F, hG2⟩ := F_addBrand hG.1 (KP_0 hG.2) (show B + 5000 < 2147483648 by omega) hj8 (kk := cellN xs L (1 + j) % 2) (e := 60 + cellN xs L (1 + j) / 4 % 200) (by omega) (by omega)
    refine law_W (va_runV (As := [.int (nI (cellN xs L (1 + j) % 2)), .int (nI (60 + cellN xs L (1 + j) / 4 % 200))]) (rest := []) ⟨hx, hb, hml, hown, hts⟩ (Met_W (C5_addBrand l D cI cO q u _ hq23 (wCb_C hP) (nI (cellN xs L (1 + j) % 2)) (nI (60 + cellN xs L (1 + j) / 4 % 200)) (kp_lat (KP_0 hG.2)) (by rw [s1])) (show _ = (nI j, u2) by rw [s1])) (cwV 2 hts gL_law_X5_addBrand rfl rfl rfl ⟨rfl, bd_X5addBrand⟩ ⟨Nat.le_of_ble_eq_true rfl, Nat.le_of_ble_eq_true rfl⟩) (bPV hk (va_recv hk.1 (wCb_C hP) (ci := 5) (q0 := 0) rfl (wC_0 _ _ _ _))) rfl rfl hl.1 rfl (lv_room (Nat.le_of_ble_eq_true rfl)) dL_law_141 ⟨Nat.le_of_ble_eq_true rfl, Nat.le_of_ble_eq_true rfl⟩) hS hP hq hg (fun H locs hP hS => ?_)
    have hP : va_P D vwCl (wCb cI cO q u2 (upd fb j (nI (60 + cellN xs L (1 + j) / 4 % 200)))) H := hP
    refine W.eq (g2 := F0 m 144 ls [.int (nI j)]) rfl ?_
    refine lv_iload hx hb dL_law_144 (lv_at hl 7 rfl) ?_
    refine lv_icmp_ne (tgt := 171) hx hb dL_law_146 (by decide) (fun h9 => absurd rfl h9) (fun _ => ?_)
    refine lv_aload_n hx hb dL_law_149 rfl (lv_at hl 2 rfl) ?_
    refine lv_iload hx hb dL_law_150 (lv_at hl 7 rfl) ?_
    refine lv_bipush (v := 50) hx hb dL_law_152 (by decide) ?_
    obtain ⟨y, u3, s2, -, -, s2F, hG3⟩ := F_fill hG2.1 (KP_0 hG2.2) (show B + 5000 + 5000 < 2147483648 by omega) (b := j) (x := 50) (by omega) (by decide) (by decide) (by rw [s1E, nI_toInt (by omega)]; omega)
    refine law_W (va_runV (As := [.int (nI j), .int 50]) (rest := []) ⟨hx, hb, hml, hown, hts⟩ (Met_W (C5_fill l D cI cO q u2 _ hq23 (wCb_C hP) (nI j) 50 (kp_lat (KP_0 hG2.2)) (show (F5_fill u2 (nI j) (nI 50)).1 = 0 by rw [s2])) (show ((F5_fill u2 (nI j) (nI 50)).2.1, (F5_fill u2 (nI j) (nI 50)).2.2) = (nI y, u3) by rw [s2])) (cwV 2 hts gL_law_X5_fill rfl rfl rfl ⟨rfl, bd_X5fill⟩ ⟨Nat.le_of_ble_eq_true rfl, Nat.le_of_ble_eq_true rfl⟩) (bPV hk (va_recv hk.1 (wCb_C hP) (ci := 5) (q0 := 0) rfl (wC_0 _ _ _ _))) rfl rfl hl.1 rfl (lv_room (Nat.le_of_ble_eq_true rfl)) dL_law_154 ⟨Nat.le_of_ble_eq_true rfl, Nat.le_of_ble_eq_true rfl⟩) hS hP hq hg (fun H locs hP hS => ?_)
    have hP : va_P D vwCl (wCb cI cO q u3 (upd fb j (nI (60 + cellN xs L (1 + j) / 4 % 200)))) H := hP
    refine W.eq (g2 := F0 m 157 ls [.int (nI y)]) rfl ?_
    refine lv_aload_n hx hb dL_law_157 rfl (lv_at hl 2 rfl) ?_
    refine lv_iload hx hb dL_law_158 (lv_at hl 7 rfl) ?_
    refine lv_iconst (v := 2) hx hb dL_law_160 (by decide) ?_
    refine bcall_Ri (va_runV (As := [.int (nI j), .int 2]) (rest := [.int (nI y)]) ⟨hx, hb, hml, hown, hts⟩ (Met_R (C5_brand l D cI cO q u3 _ (wCb_C hP) (nI j) 2 (INV_nb hG3.1 (by omega)) (by decide)) (show _ = nI y by rw [v_b2 hj8, s2F, s1F, Int32.zero_add])) (cwV 2 hts gL_law_X5_brand rfl rfl rfl ⟨rfl, bd_X5brand⟩ ⟨Nat.le_of_ble_eq_true rfl, Nat.le_of_ble_eq_true rfl⟩) (bPV hk (va_recv hk.1 (wCb_C hP) (ci := 5) (q0 := 0) rfl (wC_0 _ _ _ _))) rfl rfl hl.1 rfl (lv_room (Nat.le_of_ble_eq_true rfl)) dL_law_161 ⟨Nat.le_of_ble_eq_true rfl, Nat.le_of_ble_eq_true rfl⟩) hS (fun locs hS => ?_)
    refine lv_icmp_ne (tgt := 171) hx hb dL_law_164 (by decide) (fun h9 => absurd rfl h9) (fun _ => ?_)
    refine lv_iconst (v := 1) hx hb dL_law_167 (by decide) ?_
    refine lv_goto (tgt := 172) hx hb dL_law_168 (by decide) ?_
    refine lv_istore (lv' := [(5, .int 1), (7, .int (nI (cellN xs L (1 + j)))), (0, .ref b), (1, .ref (q 0)), (2, .ref (q 23)), (3, .int (nI X)), (4, .int 0), (6, .int (nI j))]) hx hb dL_law_172 hl (by decide) rfl (fun ls hl => ?_)
    refine lv_iinc (v := nI (j + 1)) (lv' := [(6, .int (nI (j + 1))), (5, .int 1), (7, .int (nI (cellN xs L (1 + j)))), (0, .ref b), (1, .ref (q 0)), (2, .ref (q 23)), (3, .int (nI X)), (4, .int 0)]) hx hb dL_law_174 hl (k := 7) rfl (bInc j) (by decide) rfl (fun ls hl => ?_)
    refine lv_goto (tgt := 89) hx hb dL_law_177 (by decide) ?_
    refine ih (j + 1) (B + 5000 + 5000) _ _ (upd fb j (nI (60 + cellN xs L (1 + j) / 4 % 200))) u3 _ _ _ (by omega) hG3 (fun i hi => ?_) hB1 hP hS (lv_sub hl [3, 4, 5, 6, 7, 1, 0] rfl)
    show upd fb j (nI (60 + cellN xs L (1 + j) / 4 % 200)) i = bb1 bb j (60 + cellN xs L (1 + j) / 4 % 200) i
    unfold bb1
    by_cases z : i = j
    · rw [if_pos z, z]; exact pk_us
    · rw [if_neg z, pk_un z]; exact hf i (by omega)

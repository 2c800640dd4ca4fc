-- the law from its entry (own text, part by program)
theorem bNest_in : ∀ w ∈ bNest, w ∈ lw_tbl := by decide +kernel
section START
variable {s : State} {b : Nat}
theorem tab_of (n : String) (f : Nat → Int32) (hts : ∀ w ∈ lw_tbl, w.before #[Value.ref b] s = true) (h1 : Cond.laysStatic "BottleLoop" n "[I" ∈ lw_tbl) (h2 : (Cond.arrayOf (.static "BottleLoop" n "[I") .int).before #[Value.ref b] s = true) (h3 : (Cond.eq (.length (.static "BottleLoop" n "[I")) (.int 6)).before #[Value.ref b] s = true) (h4 : ∀ j : Nat, j < 6 → (Cond.eq (.elem (.static "BottleLoop" n "[I") (.int (Int32.ofNat j))) (.int (f j))).before #[Value.ref b] s = true) : bTb n f (fun q : Nat => s.heap.size ≤ q) s s.heap := by
  obtain ⟨t, ht, hT⟩ := va_Tof (tm := .static "BottleLoop" n "[I") (ty := .int) (N := 6) (f := fun k => .int (f k)) (A := fun q : Nat => s.heap.size ≤ q) (by decide) h2 (va_eqt h3) (fun j hj => va_eqt (h4 j hj)) (fun a ha => Nat.not_le.mpr ha)
  exact ⟨t, va_Zof (hts _ h1) (hts (.initialized "BottleLoop") (by decide +kernel)) ht (fun a ha => Nat.not_le.mpr ha), hT⟩
theorem six {P : Nat → Prop} (h0 : P 0) (h1 : P 1) (h2 : P 2) (h3 : P 3) (h4 : P 4) (h5 : P 5) : ∀ j : Nat, j < 6 → P j := by
  intro j hj
  have : j = 0 ∨ j = 1 ∨ j = 2 ∨ j = 3 ∨ j = 4 ∨ j = 5 := by omega
  rcases this with rfl | rfl | rfl | rfl | rfl | rfl
  · exact h0
  · exact h1
  · exact h2
  · exact h3
  · exact h4
  · exact h5
theorem start_of (hts : ∀ w ∈ lw_tbl, w.before #[Value.ref b] s = true) (hgv : (Jvm.Cond.and given_1 narrow_1).before #[Value.ref b] s = true) : (bTb "FIRST_SETTING" tFirst (fun q : Nat => s.heap.size ≤ q) s s.heap ∧ bTb "LEAST_SETTING" tLeast (fun q : Nat => s.heap.size ≤ q) s s.heap ∧ bTb "MOST_SETTING" tMost (fun q : Nat => s.heap.size ≤ q) s s.heap) ∧ va_AO RX2 s ∧ ∀ w ∈ bNest, va_Nw w s := by
  have hs := flat_of_before _ hgv
  refine ⟨⟨tab_of _ _ hts (by decide +kernel) (hs _ (by decide +kernel)) (hs _ (by decide +kernel)) (six (hs _ (by decide +kernel)) (hs _ (by decide +kernel)) (hs _ (by decide +kernel)) (hs _ (by decide +kernel)) (hs _ (by decide +kernel)) (hs _ (by decide +kernel))), tab_of _ _ hts (by decide +kernel) (hs _ (by decide +kernel)) (hs _ (by decide +kernel)) (six (hs _ (by decide +kernel)) (hs _ (by decide +kernel)) (hs _ (by decide +kernel)) (hs _ (by decide +kernel)) (hs _ (by decide +kernel)) (hs _ (by decide +kernel))), tab_of _ _ hts (by decide +kernel) (hs _ (by decide +kernel)) (hs _ (by decide +kernel)) (six (hs _ (by decide +kernel)) (hs _ (by decide +kernel)) (hs _ (by decide +kernel)) (hs _ (by decide +kernel)) (hs _ (by decide +kernel)) (hs _ (by decide +kernel)))⟩, va_AO.of (hts (.arrayOver (.object RX2)) (by decide +kernel)), fun w hw => va_Nw.of (bNw_on (List.all_eq_true.mp bIsN_ok w hw)) (hts w (bNest_in w hw))⟩
end START
theorem inj_of {A : Nat → Prop} {ws : va_W} {n : Nat} {f : Nat → Nat} (h : ws.map Prod.fst = (List.range n).map f) (hD : va_D A ws) : bInj n f ∧ ∀ k : Nat, k < n → A (f k) := by
  have key : ∀ k : Nat, k < n → ∃ p, ws[k]? = some p ∧ p.1 = f k := by
    intro k hk
    have h1 : ((List.range n).map f)[k]? = some (f k) := by rw [List.getElem?_map, List.getElem?_range hk]; rfl
    rw [← h, List.getElem?_map] at h1
    cases hp : ws[k]? with
    | none => rw [hp] at h1; cases h1
    | some p => rw [hp] at h1; exact ⟨p, rfl, Option.some.inj h1⟩
  refine ⟨fun i j hi hj e => ?_, fun k hk => ?_⟩
  · obtain ⟨p, hp, ep⟩ := key i hi
    obtain ⟨r, hr, er⟩ := key j hj
    exact hD.1 i j p r hp hr (by rw [ep, er, e])
  · obtain ⟨p, hp, ep⟩ := key k hk
    rw [← ep]
    exact hD.2 k p hp
def qC (q : Nat → Nat) (o : Nat) : Nat → Nat := fun k => if k = 23 then o else q k
theorem Met_D {l : Launch} {y : MethodName} {ws : List Cond} {rm : Room} {Pc : Array Value → State → Prop} {H0 : Heap} {free : Nat → Prop} {v w : UInt64} (h : Met l y ws rm Pc (bRd H0 v) 0 0 free) (e : v = w) : Met l y ws rm Pc (bRd H0 w) 0 0 free := by
  subst e
  exact h
theorem sum_uC0 : F2_brandSum1 uC0 ≤ 0 := by decide +kernel
theorem best_uC0 : F5_bestShop uC0 0 = -1 := by decide +kernel
theorem gone_uC0 : F5_goneShare uC0 = FP.dconst0 := by
  unfold F5_goneShare
  rw [if_pos sum_uC0]
theorem cmp_00 : Op.cmpValue (FP.dcmp FP.dconst0 FP.dconst0) .l = 0 := by decide +kernel
theorem no_crates {B f : Nat} {m : Int32} {bb : Nat → Int32} {kd : Nat → Nat} {u : bU} (h : INV B 0 0 kd f m 0 0 bb (u 0)) : u 0 2 = 0 := by
  have e5 := h.2.2.2.2.2.2.2.2.2.1
  have z : Ss (u 0) 1 = 0 := acc_zero 6 0 0 (fun i _ hi => h.2.1.2.1 i 1 (Nat.zero_le _) (by omega) (by decide))
  rw [z, Int32.add_zero] at e5
  exact e5
theorem bd_X5goneShare : yX5_goneShare.cls ≠ "java/lang/invoke/MethodHandle" ∧ yX5_goneShare.cls ≠ "java/lang/invoke/VarHandle" ∧ (parseMethodDescriptor yX5_goneShare.desc).map (fun d => d.parameters.length) = some 0 := by decide +kernel
set_option maxHeartbeats 4000000 in
set_option maxRecDepth 100000 in
theorem whole_start {p : Program} {e : Env} {s : State} {m : MethodId} {below : List Frame} {meth : Method} {c : Code} (l : Launch) (hflags : l.flags = flags0) {b L : Nat} {xs : Nat → Int32} (hL : L ≤ 260) (C0 : lw_At p s m meth c b L xs) : W p l e room_1 s m #[Value.ref b] below meth c s.heap [] 0 0 (lw_Z below #[Value.ref b] s) (entryFrame m ([Value.ref b] : List Value).toArray 8) := by
  obtain ⟨hx, hb, hr, hml, hown, hts0, hXs, hbl, hlocks, hgv⟩ := id C0
  have hts : ∀ w ∈ wsL_law, w.before #[Value.ref b] s = true := fun w h => hts0 w (wsL_law_in w h)
  obtain ⟨⟨hXF, hX⟩, hO, hNest⟩ := start_of hts0 hgv
  have hA : ∀ q : Nat, s.heap.size ≤ q → (fun q : Nat => s.heap.size ≤ q) q := fun _ h => h
  have hbA : ¬ (fun q : Nat => s.heap.size ≤ q) b := Nat.not_le.mpr hbl
  obtain ⟨c0, i0, hn0⟩ := u_known (C := RX0) (T := TX0) (N := 5) (n := 5) hts inlX0 (hts (.instantiable RX0 5) (by decide +kernel))
  obtain ⟨c1, i1, hn1⟩ := u_known (C := RX1) (T := TX1) (N := 3) (n := 3) hts inlX1 (hts (.instantiable RX1 3) (by decide +kernel))
  obtain ⟨c2, i2, hn2⟩ := u_known (C := RX2) (T := TX2) (N := 1) (n := 1) hts inlX2 (hts (.instantiable RX2 1) (by decide +kernel))
  obtain ⟨c3, i3, hn3⟩ := u_known (C := RX3) (T := TX3) (N := 3) (n := 3) hts inlX3 (hts (.instantiable RX3 3) (by decide +kernel))
  obtain ⟨c4, i4, hn4⟩ := u_known (C := RX4) (T := TX4) (N := 2) (n := 2) hts inlX4 (hts (.instantiable RX4 2) (by decide +kernel))
  obtain ⟨c5, i5, hn5⟩ := u_known (C := RX5) (T := TX5) (N := 5) (n := 5) hts inlX5 (hts (.instantiable RX5 5) (by decide +kernel))
  obtain ⟨D, hKc⟩ : ∃ D : va_G, ∀ (k : Nat) (q : vw_C), vwCl[k]? = some q → u_Kn s q.1 q.2.1 q.2.2 (D.1 k) (D.2 k) := by
    refine ⟨(fun k => match k with | 0 => c0 | 1 => c1 | 2 => c2 | 3 => c3 | 4 => c4 | _ => c5, fun k => match k with | 0 => i0 | 1 => i1 | 2 => i2 | 3 => i3 | 4 => i4 | _ => i5), ?_⟩
    intro k q hq
    match k, hq with
    | 0, hq => cases hq; exact hn0
    | 1, hq => cases hq; exact hn1
    | 2, hq => cases hq; exact hn2
    | 3, hq => cases hq; exact hn3
    | 4, hq => cases hq; exact hn4
    | 5, hq => cases hq; exact hn5
    | k + 6, hq => simp [vwCl] at hq
  obtain ⟨cI, kI, mI9, f1, f2, f3⟩ := Cond.arrayClass_spec (args := #[Value.ref b]) (first := s) (o := none) (s := s) (idx := []) (type := .int) (hts (.arrayClass .int) (by decide +kernel))
  obtain ⟨mO, cO, kO, g1, _, g2, g3, g4⟩ := Cond.arrayOver_spec (args := #[Value.ref b]) (first := s) (o := none) (s := s) (idx := []) (n := RX2) (hts0 (.arrayOver (.object RX2)) (by decide +kernel))
  have hk : bK D [(cI, .int), (cO, .object RX2)] s := ⟨⟨hKc, fun k q hq => by
    match k, hq with
    | 0, hq => cases hq; exact ⟨fun N z => ⟨(fun k h => by cases h), kI, f2, mI9, f3⟩, f1⟩
    | 1, hq => cases hq; exact ⟨fun N z => ⟨(fun k h => by cases h), kO, g2, mO, g3⟩, kO, mO, g2, g3, g1, g4⟩
    | k + 2, hq => simp at hq⟩, hNest⟩
  have hS : va_S (fun q : Nat => s.heap.size ≤ q) s.heap s.heap [] := va_S.rf
  have hP : va_P D vwCl [] s.heap := fun k q h => by simp at h
  have hD : va_D (fun q : Nat => s.heap.size ≤ q) [] := ⟨fun i j p q h => by simp at h, fun k q h => by simp at h⟩
  have hl := lv_entry ([.ref b]) (n := 8) (Nat.le_of_ble_eq_true rfl)
  rw [lg_entry_eq]
  generalize (lg_sl ([.ref b]) ++ List.replicate (8 - (lg_sl ([.ref b])).length) Slot.unset).toArray = ls at hl ⊢
  have hl : lv_has ls 8 [(0, .ref b)] := hl
  refine va_new (D := D) (ci := 5) (fs := [.null, .null, .null, .null, .null]) (C := RX5) (T := TX5) (N := 5) hx hb hts inlX5 tyX5 tyX5_ok hown (hts (.classLink RL 10 RX5) (by decide +kernel)) (hts (.instantiable RX5 5) (by decide +kernel)) (hts (.initialized RX5) (by decide +kernel)) hk.1 hP hD hS hA rfl (fun j hj => by rcases (show j = 0 ∨ j = 1 ∨ j = 2 ∨ j = 3 ∨ j = 4 by omega) with rfl | rfl | rfl | rfl | rfl <;> rfl) (Nat.le_of_ble_eq_true rfl) (Nat.le_of_ble_eq_true rfl) dL_law_0 (fun h0 H hP hD hS => ?_)
  have hP : va_P D vwCl [(h0, .inr (5, [.null, .null, .null, .null, .null]))] H := hP
  have hD : va_D (fun q : Nat => s.heap.size ≤ q) [(h0, .inr (5, [.null, .null, .null, .null, .null]))] := hD
  refine W.widen (k := 1) (n := 5) (by omega) (by omega) ?_
  refine lv_dup hx hb dL_law_3 rfl ?_
  have hFc := va_free (wc := [(h0, .inr (5, [.null, .null, .null, .null, .null]))]) hD hS hA [0] rfl
  refine va_callv (va_runI (As := []) (rest := [.ref h0]) ⟨hx, hb, hml, hown, hts⟩ (C5_init l D cI cO h0 H hP) (cwI 0 hts gL_law_X5_init rfl rfl rfl (hts (.initialized RX5) (by decide +kernel)) (hts (.methodLink RL 77 yX5_init) (by decide +kernel)) (hts (.instanceMethod yX5_init) (by decide +kernel)) rfl (by decide +kernel) ⟨Nat.le_of_ble_eq_true rfl, Nat.le_of_ble_eq_true rfl⟩) (bPSF hk hXF hO hS hFc) rfl rfl hl.1 rfl (lv_room (Nat.le_of_ble_eq_true rfl)) dL_law_4 ⟨Nat.le_of_ble_eq_true rfl, Nat.le_of_ble_eq_true rfl⟩) hS (fun q _ h => hFc q h) hFc (fun u9 t H1 locs ht _ _ hB _ hk1 hS => ?_)
  obtain ⟨qc, hq0, hP1, hD1⟩ := hB
  rw [ht] at hP1
  obtain ⟨hP, hD⟩ := va_join (wr := []) (w1 := wC cI cO qc uC0) hP hD [0] [] rfl rfl (by decide) (by decide) hk1 hFc hP1 hD1
  clear hk1 hFc hP1 hD1
  subst ht
  generalize t.heap = H at hP hS ⊢
  have hP : va_P D vwCl (wC cI cO qc uC0) H := hP
  have hD : va_D (fun q : Nat => s.heap.size ≤ q) (wC cI cO qc uC0) := hD
  refine W.widen (k := 23) (n := 2519) (by omega) (by omega) ?_
  refine lv_astore_n (lv' := [(1, .ref h0), (0, .ref b)]) hx hb dL_law_7 rfl hl (by decide) rfl (fun ls hl => ?_)
  refine lv_bipush (v := 8) hx hb dL_law_8 (by decide) ?_
  refine va_newa (atype := .int) (ty := .int) (N' := 8) (a0 := (8, .inl (fun _ => 0))) hx hb (hts (.arrayClass .int) (by decide +kernel)) rfl hk.1 hP hD hS hA (fun _ => rfl) (by decide) (by decide) (by decide) (Nat.le_of_ble_eq_true rfl) (Nat.le_of_ble_eq_true rfl) dL_law_10 (fun o cA H hK2 hP hD hS => ?_)
  refine W.widen (k := 24) (n := 2527) (by omega) (by omega) ?_
  have eI : cA = cI := ty_I (k := 0) hk.1 hK2 rfl
  rw [eI] at hP hD
  obtain ⟨q, hQ0, hQ23, hP, hq, hg⟩ : ∃ q : Nat → Nat, q 0 = h0 ∧ q 23 = o ∧ va_P D vwCl (wCb cI cO q uC0 (fun _ => 0)) H ∧ bInj 24 q ∧ ∀ i : Nat, i < 24 → s.heap.size ≤ q i := by
    have hPc := hP.sub (ws' := wC cI cO qc uC0) [0, 1, 2, 3, 4, 5, 6, 7, 8, 9, 10, 11, 12, 13, 14, 15, 16, 17, 18, 19, 20, 21, 22] rfl
    have hPc := va_refs (k := 6) (g := fun i => some (qC qc o (7 + i))) hPc rfl (fun j hj => by rcases (show j = 0 ∨ j = 1 ∨ j = 2 ∨ j = 3 ∨ j = 4 ∨ j = 5 by omega) with rfl | rfl | rfl | rfl | rfl | rfl <;> rfl)
    have hPc : va_P D vwCl (wC cI cO (qC qc o) uC0) H := hPc
    have hBo := hP.sub (ws' := [(qC qc o 23, .inl (cI, 8, .inl (fun _ => 0)))]) [23] rfl
    obtain ⟨hinj, hall⟩ := inj_of (n := 24) (f := qC qc o) rfl hD
    exact ⟨qC qc o, hq0, rfl, wCb_of hPc hBo, hinj, hall⟩
  have hq23 := bInj_23 hq
  refine lv_astore_n (lv' := [(2, .ref o), (1, .ref h0), (0, .ref b)]) hx hb dL_law_12 rfl hl (by decide) rfl (fun ls hl => ?_)
  rw [← hQ0, ← hQ23] at hl
  refine lv_aload_n hx hb dL_law_13 rfl (lv_at hl 2 rfl) ?_
  refine lv_iconst (v := 0) hx hb dL_law_14 (by decide) ?_
  refine lv_topi (fun z9 hz9 => ?_)
  rw [hz9.trans (show (0 : Int32) = nI 0 from rfl)]
  refine bcall_Ri (va_runS (As := [.ref b, .int (nI 0)]) (rest := []) ⟨hx, hb, hml, hown, hts⟩ (CL_cell l _ hL (show 0 < 1000 by omega)) (va_cwS 2 hts gL_law_L_cell rfl rfl rfl bd_Lcell ⟨Nat.le_of_ble_eq_true rfl, Nat.le_of_ble_eq_true rfl⟩) (bPSC (hXs.kept (hS.2.1 b hbl hbA))) rfl rfl hl.1 rfl (lv_room (Nat.le_of_ble_eq_true rfl)) dL_law_15 ⟨Nat.le_of_ble_eq_true rfl, Nat.le_of_ble_eq_true rfl⟩) hS (fun locs hS => ?_)
  have hXl : cellN xs L 0 < 2 ^ 31 := cellN_lt xs L 0
  generalize cellN xs L 0 = X at *
  have hX32 : X / 32 < 2 ^ 31 := by omega
  refine lv_istore_n (lv' := [(3, .int (nI X)), (2, .ref (q 23)), (1, .ref (q 0)), (0, .ref b)]) hx hb dL_law_18 rfl hl (by decide) rfl (fun ls hl => ?_)
  refine lv_iconst (v := 0) hx hb dL_law_19 (by decide) ?_
  refine lv_istore (lv' := [(4, .int 0), (3, .int (nI X)), (2, .ref (q 23)), (1, .ref (q 0)), (0, .ref b)]) hx hb dL_law_20 hl (by decide) rfl (fun ls hl => ?_)
  refine lv_aload_n hx hb dL_law_22 rfl (lv_at hl 3 rfl) ?_
  refine bcall_Rd (va_runV (As := []) (rest := []) ⟨hx, hb, hml, hown, hts⟩ (Met_D (C5_goneShare l D cI cO q uC0 _ (wCb_C hP) (fun h9 => absurd sum_uC0 h9)) gone_uC0) (cwV 0 hts gL_law_X5_goneShare rfl rfl rfl ⟨rfl, bd_X5goneShare⟩ ⟨Nat.le_of_ble_eq_true rfl, Nat.le_of_ble_eq_true rfl⟩) (bPV hk (va_recv hk.1 (wCb_C hP) (ci := 5) (q0 := 0) rfl (wC_0 _ _ _ _))) rfl rfl hl.1 rfl (lv_room (Nat.le_of_ble_eq_true rfl)) dL_law_23 ⟨Nat.le_of_ble_eq_true rfl, Nat.le_of_ble_eq_true rfl⟩) hS (fun locs hS => ?_)
  refine lv_dconst0 hx hb dL_law_26 ?_
  refine lv_dcmp hx hb dL_law_27 ?_
  refine lv_topi (fun z9 hz9 => ?_)
  rw [hz9.trans (cmp_00)]
  refine lv_if_ne (tgt := 83) hx hb dL_law_28 (by decide) (fun h9 => absurd (by decide) h9) (fun _ => ?_)
  refine lv_aload_n hx hb dL_law_31 rfl (lv_at hl 3 rfl) ?_
  refine lv_iconst (v := 0) hx hb dL_law_32 (by decide) ?_
  refine bcall_Ri (va_runV (As := [.int 0]) (rest := []) ⟨hx, hb, hml, hown, hts⟩ (Met_R (C5_bestShop l D cI cO q uC0 _ (wCb_C hP) 0 (by decide)) best_uC0) (cwV 1 hts gL_law_X5_bestShop rfl rfl rfl ⟨rfl, bd_X5bestShop⟩ ⟨Nat.le_of_ble_eq_true rfl, Nat.le_of_ble_eq_true rfl⟩) (bPV hk (va_recv hk.1 (wCb_C hP) (ci := 5) (q0 := 0) rfl (wC_0 _ _ _ _))) rfl rfl hl.1 rfl (lv_room (Nat.le_of_ble_eq_true rfl)) dL_law_33 ⟨Nat.le_of_ble_eq_true rfl, Nat.le_of_ble_eq_true rfl⟩) hS (fun locs hS => ?_)
  refine lv_iconst (v := (-1)) hx hb dL_law_36 (by decide) ?_
  refine lv_icmp_ne (tgt := 83) hx hb dL_law_37 (by decide) (fun h9 => absurd rfl h9) (fun _ => ?_)
  refine lv_aload_n hx hb dL_law_40 rfl (lv_at hl 3 rfl) ?_
  refine lv_iconst (v := 5) hx hb dL_law_41 (by decide) ?_
  refine lv_iconst (v := 2) hx hb dL_law_42 (by decide) ?_
  refine lv_iload_n hx hb dL_law_43 rfl (lv_at hl 1 rfl) ?_
  refine lv_bipush (v := 20) hx hb dL_law_44 (by decide) ?_
  refine lv_irem hx hb dL_law_46 (by decide) ?_
  refine lv_topi (fun z9 hz9 => ?_)
  rw [hz9.trans (pk_rem (d := 20) hXl (by decide) (by decide))]
  refine lv_iadd hx hb dL_law_47 ?_
  refine lv_topi (fun z9 hz9 => ?_)
  rw [hz9.trans (nI_add 2 _)]
  obtain ⟨u1, s1, hG1⟩ := F_set5 (f := 2 + X % 20) (by omega) (by omega)
  refine law_W (va_runV (As := [.int 5, .int (nI (2 + X % 20))]) (rest := []) ⟨hx, hb, hml, hown, hts⟩ (Met_W (C5_set l D cI cO q uC0 _ hq23 (wCb_C hP) 5 (nI (2 + X % 20)) (kp_lat KP_uC0) (by rw [s1])) (show _ = (20, u1) by rw [s1])) (cwV 2 hts gL_law_X5_set rfl rfl rfl ⟨rfl, bd_X5set⟩ ⟨Nat.le_of_ble_eq_true rfl, Nat.le_of_ble_eq_true rfl⟩) (bPVY hk hX hS (bA_law hg hS.1) (va_recv hk.1 (wCb_C hP) (ci := 5) (q0 := 0) rfl (wC_0 _ _ _ _))) rfl rfl hl.1 rfl (lv_room (Nat.le_of_ble_eq_true rfl)) dL_law_48 ⟨Nat.le_of_ble_eq_true rfl, Nat.le_of_ble_eq_true rfl⟩) hS hP hq hg (fun H locs hP hS => ?_)
  have hP : va_P D vwCl (wCb cI cO q u1 (fun _ => 0)) H := hP
  refine W.eq (g2 := F0 m 51 ls [.int 20]) rfl ?_
  refine lv_bipush (v := 20) hx hb dL_law_51 (by decide) ?_
  refine lv_icmp_ne (tgt := 83) hx hb dL_law_53 (by decide) (fun h9 => absurd rfl h9) (fun _ => ?_)
  refine lv_aload_n hx hb dL_law_56 rfl (lv_at hl 3 rfl) ?_
  refine lv_iconst (v := 1) hx hb dL_law_57 (by decide) ?_
  refine lv_iload_n hx hb dL_law_58 rfl (lv_at hl 1 rfl) ?_
  refine lv_iconst (v := 5) hx hb dL_law_59 (by decide) ?_
  refine lv_ishr hx hb dL_law_60 ?_
  refine lv_topi (fun z9 hz9 => ?_)
  rw [hz9.trans (pk_shrN hXl (5 &&& 31) 5 (by decide))]
  refine lv_bipush (v := 40) hx hb dL_law_61 (by decide) ?_
  refine lv_irem hx hb dL_law_63 (by decide) ?_
  refine lv_topi (fun z9 hz9 => ?_)
  rw [hz9.trans (pk_rem (d := 40) hX32 (by decide) (by decide))]
  refine lv_iadd hx hb dL_law_64 ?_
  refine lv_topi (fun z9 hz9 => ?_)
  rw [hz9.trans (nI_add 1 _)]
  obtain ⟨u2, s2, hG2⟩ := F_buy hG1.1 (KP_0 hG1.2) (by decide) (x := 1 + X / 32 % 40) (K := 0) rfl (by omega) (by omega) (by omega)
  rw [no_crates hG1.1, Int32.zero_add] at s2
  rw [Int32.zero_add] at hG2
  refine law_W (va_runV (As := [.int (nI (1 + X / 32 % 40))]) (rest := []) ⟨hx, hb, hml, hown, hts⟩ (Met_W (C5_buyCrates l D cI cO q u1 _ hq23 (wCb_C hP) (nI (1 + X / 32 % 40)) (kp_lat (KP_0 hG1.2)) (by rw [s2])) (show _ = (nI (1 + X / 32 % 40), u2) by rw [s2])) (cwV 1 hts gL_law_X5_buyCrates rfl rfl rfl ⟨rfl, bd_X5buyCrates⟩ ⟨Nat.le_of_ble_eq_true rfl, Nat.le_of_ble_eq_true rfl⟩) (bPV hk (va_recv hk.1 (wCb_C hP) (ci := 5) (q0 := 0) rfl (wC_0 _ _ _ _))) rfl rfl hl.1 rfl (lv_room (Nat.le_of_ble_eq_true rfl)) dL_law_65 ⟨Nat.le_of_ble_eq_true rfl, Nat.le_of_ble_eq_true rfl⟩) hS hP hq hg (fun H locs hP hS => ?_)
  have hP : va_P D vwCl (wCb cI cO q u2 (fun _ => 0)) H := hP
  refine W.eq (g2 := F0 m 68 ls [.int (nI (1 + X / 32 % 40))]) rfl ?_
  refine lv_iconst (v := 1) hx hb dL_law_68 (by decide) ?_
  refine lv_iload_n hx hb dL_law_69 rfl (lv_at hl 1 rfl) ?_
  refine lv_iconst (v := 5) hx hb dL_law_70 (by decide) ?_
  refine lv_ishr hx hb dL_law_71 ?_
  refine lv_topi (fun z9 hz9 => ?_)
  rw [hz9.trans (pk_shrN hXl (5 &&& 31) 5 (by decide))]
  refine lv_bipush (v := 40) hx hb dL_law_72 (by decide) ?_
  refine lv_irem hx hb dL_law_74 (by decide) ?_
  refine lv_topi (fun z9 hz9 => ?_)
  rw [hz9.trans (pk_rem (d := 40) hX32 (by decide) (by decide))]
  refine lv_iadd hx hb dL_law_75 ?_
  refine lv_topi (fun z9 hz9 => ?_)
  rw [hz9.trans (nI_add 1 _)]
  refine lv_icmp_ne (tgt := 83) hx hb dL_law_76 (by decide) (fun h9 => absurd rfl h9) (fun _ => ?_)
  refine lv_iconst (v := 1) hx hb dL_law_79 (by decide) ?_
  refine lv_goto (tgt := 84) hx hb dL_law_80 (by decide) ?_
  refine lv_istore (lv' := [(5, .int 1), (4, .int 0), (3, .int (nI X)), (2, .ref (q 23)), (1, .ref (q 0)), (0, .ref b)]) hx hb dL_law_84 hl (by decide) rfl (fun ls hl => ?_)
  refine lv_iconst (v := 0) hx hb dL_law_86 (by decide) ?_
  refine lv_istore (lv' := [(6, .int 0), (5, .int 1), (4, .int 0), (3, .int (nI X)), (2, .ref (q 23)), (1, .ref (q 0)), (0, .ref b)]) hx hb dL_law_87 hl (by decide) rfl (fun ls hl => ?_)
  exact law_B C0 hL hk hX hq hg hXl (K := (1 + X / 32 % 40)) rfl (by omega) (2 + X / 1024 % 3) 0 (1000 + 5000) (fun _ => 0) (fun _ => 0) (fun _ => 0) u2 _ _ _ (by omega) hG2 (fun i hi => absurd hi (by omega)) (by omega) hP hS (lv_sub hl [6, 5, 4, 3, 2, 1, 0] rfl)

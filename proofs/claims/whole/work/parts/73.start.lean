-- the law from its entry (own text)
set_option maxHeartbeats 4000000 in
set_option maxRecDepth 100000 in
/-- the law, from its entry -/
theorem whole_start {p : Program} {e : Env} {s : State} {m : MethodId} {below : List Frame} {meth : Method} {c : Code} (l : Launch) (hflags : l.flags = flags0) {b L : Nat} {xs : Nat → Int32} (hL : L ≤ 2048) (C0 : lw_At p s m meth c b L xs) : W p l e room_1 s m #[Value.ref b] below meth c s.heap [] 0 0 (lw_Z below #[Value.ref b] s) (entryFrame m ([Value.ref b] : List Value).toArray 9) := by
  obtain ⟨hx, hb, hr, hml, hown, hts0, hXs, hbl, hlocks, hgv⟩ := id C0
  have hts : ∀ w ∈ wsL_law, w.before #[Value.ref b] s = true := fun w h => hts0 w (wsL_law_in w h)
  obtain ⟨hX, hN, hO, hNest⟩ := start_of hts0 hgv
  have hl9 : l.stackTraces = false := by
    unfold Launch.stackTraces
    rw [hflags]
    decide +kernel
  have hA : ∀ q : Nat, s.heap.size ≤ q → (fun q : Nat => s.heap.size ≤ q) q := fun _ h => h
  obtain ⟨c0, i0, hn0⟩ := u_known (C := RX0) (T := TX0) (N := 5) (n := 5) hts inlX0 (hts (.instantiable RX0 5) (by decide +kernel))
  obtain ⟨c1, i1, hn1⟩ := u_known (C := RX1) (T := TX1) (N := 3) (n := 3) hts inlX1 (hts (.instantiable RX1 3) (by decide +kernel))
  obtain ⟨c2, i2, hn2⟩ := u_known (C := RX2) (T := TX2) (N := 1) (n := 1) hts inlX2 (hts (.instantiable RX2 1) (by decide +kernel))
  obtain ⟨c3, i3, hn3⟩ := u_known (C := RX3) (T := TX3) (N := 3) (n := 3) hts inlX3 (hts (.instantiable RX3 3) (by decide +kernel))
  obtain ⟨c4, i4, hn4⟩ := u_known (C := RX4) (T := TX4) (N := 2) (n := 2) hts inlX4 (hts (.instantiable RX4 2) (by decide +kernel))
  obtain ⟨c5, i5, hn5⟩ := u_known (C := RX5) (T := TX5) (N := 5) (n := 5) hts inlX5 (hts (.instantiable RX5 5) (by decide +kernel))
  obtain ⟨c6, i6, hn6⟩ := u_known (C := RX6) (T := TX6) (N := 16) (n := 16) hts inlX6 (hts (.instantiable RX6 16) (by decide +kernel))
  obtain ⟨D, hKc⟩ : ∃ D : va_G, ∀ (k : Nat) (q : vw_C), vwCl[k]? = some q → u_Kn s q.1 q.2.1 q.2.2 (D.1 k) (D.2 k) := by
    refine ⟨(fun k => match k with | 0 => c0 | 1 => c1 | 2 => c2 | 3 => c3 | 4 => c4 | 5 => c5 | _ => c6, fun k => match k with | 0 => i0 | 1 => i1 | 2 => i2 | 3 => i3 | 4 => i4 | 5 => i5 | _ => i6), ?_⟩
    intro k q hq
    match k, hq with
    | 0, hq => cases hq; exact hn0
    | 1, hq => cases hq; exact hn1
    | 2, hq => cases hq; exact hn2
    | 3, hq => cases hq; exact hn3
    | 4, hq => cases hq; exact hn4
    | 5, hq => cases hq; exact hn5
    | 6, hq => cases hq; exact hn6
    | k + 7, hq => simp [vwCl] at hq
  obtain ⟨cI, kI, mI9, f1, f2, f3⟩ := Cond.arrayClass_spec (args := #[Value.ref b]) (first := s) (o := none) (s := s) (idx := []) (type := .int) (hts (.arrayClass .int) (by decide +kernel))
  obtain ⟨mO, cO, kO, g1, _, g2, g3, g4⟩ := Cond.arrayOver_spec (args := #[Value.ref b]) (first := s) (o := none) (s := s) (idx := []) (n := RX2) (hts0 (.arrayOver (.object RX2)) (by decide +kernel))
  have hk : bK D [(cI, .int), (cO, .object RX2)] s := ⟨⟨hKc, fun k q hq => by
    match k, hq with
    | 0, hq => cases hq; exact ⟨fun N z => ⟨(fun k h => by cases h), kI, f2, mI9, f3⟩, f1⟩
    | 1, hq => cases hq; exact ⟨fun N z => ⟨(fun k h => by cases h), kO, g2, mO, g3⟩, kO, mO, g2, g3, g1, g4⟩
    | k + 2, hq => simp at hq⟩, hNest⟩
  have hS : va_S (fun q : Nat => s.heap.size ≤ q) s.heap s.heap [] := va_S.rf
  have hP : va_P D vwCl [] s.heap := fun k q h => by simp at h
  have hD : va_D (fun q : Nat => s.heap.size ≤ q) [] := ⟨fun i j p q h => by simp at h, fun k q h => by simp at h⟩
  have hl := lv_entry ([.ref b]) (n := 9) (Nat.le_of_ble_eq_true rfl)
  rw [lg_entry_eq]
  generalize (lg_sl ([.ref b]) ++ List.replicate (9 - (lg_sl ([.ref b])).length) Slot.unset).toArray = ls at hl ⊢
  have hl : lv_has ls 9 [(0, .ref b)] := hl
  refine va_new (D := D) (ci := 5) (fs := [.null, .null, .null, .null, .null]) (C := RX5) (T := TX5) (N := 5) hx hb hts inlX5 tyX5 tyX5_ok hown (hts (.classLink RL 8 RX5) (by decide +kernel)) (hts (.instantiable RX5 5) (by decide +kernel)) (hts (.initialized RX5) (by decide +kernel)) hk.1 hP hD hS hA rfl (fun j hj => by rcases (show j = 0 ∨ j = 1 ∨ j = 2 ∨ j = 3 ∨ j = 4 by omega) with rfl | rfl | rfl | rfl | rfl <;> rfl) (Nat.le_of_ble_eq_true rfl) (Nat.le_of_ble_eq_true rfl) dL_law_0 (fun h0 H hP hD hS => ?_)
  have hP : va_P D vwCl [(h0, .inr (5, [.null, .null, .null, .null, .null]))] H := hP
  have hD : va_D (fun q : Nat => s.heap.size ≤ q) [(h0, .inr (5, [.null, .null, .null, .null, .null]))] := hD
  refine W.widen (k := 1) (n := 5) (by omega) (by omega) ?_
  refine lv_dup hx hb dL_law_3 rfl ?_
  have hFc := va_free (wc := [(h0, .inr (5, [.null, .null, .null, .null, .null]))]) hD hS hA [0] rfl
  refine va_callv (va_runI (As := []) (rest := [.ref h0]) ⟨hx, hb, hml, hown, hts⟩ (C5_init l D cI cO h0 H hP) (cwI 0 hts gL_law_X5_init rfl rfl rfl (hts (.initialized RX5) (by decide +kernel)) (hts (.methodLink RL 97 yX5_init) (by decide +kernel)) (hts (.instanceMethod yX5_init) (by decide +kernel)) rfl (by decide +kernel) ⟨Nat.le_of_ble_eq_true rfl, Nat.le_of_ble_eq_true rfl⟩) (bPSF hk hX.2.2.2.1 hO hS hFc) rfl rfl hl.1 rfl (lv_room (Nat.le_of_ble_eq_true rfl)) dL_law_4 ⟨Nat.le_of_ble_eq_true rfl, Nat.le_of_ble_eq_true rfl⟩) hS (fun q _ h => hFc q h) hFc (fun u9 t H1 locs ht _ _ hB _ hk1 hS => ?_)
  obtain ⟨q, hq0, hP1, hD1⟩ := hB
  rw [ht] at hP1
  obtain ⟨hP, hD⟩ := va_join (wr := []) (w1 := wC cI cO q uC0) hP hD [0] [] rfl rfl (by decide) (by decide) hk1 hFc hP1 hD1
  clear hk1 hFc hP1 hD1
  subst ht
  generalize t.heap = H at hP hS ⊢
  have hP : va_P D vwCl (wC cI cO q uC0) H := hP
  have hD : va_D (fun q : Nat => s.heap.size ≤ q) (wC cI cO q uC0) := hD
  refine W.widen (k := 23) (n := 2519) (by omega) (by omega) ?_
  refine lv_astore_n (lv' := [(1, .ref h0), (0, .ref b)]) hx hb dL_law_7 rfl hl (by decide) rfl (fun ls hl => ?_)
  refine va_new (D := D) (ci := 6) (fs := [.null, .null, .null, .int 0, .null, .int 0, .int 0, .null, .null, .int 0, .int 0, .int 0, .int 0, .int 0, .int 0, .int 0]) (C := RX6) (T := TX6) (N := 16) hx hb hts inlX6 tyX6 tyX6_ok hown (hts (.classLink RL 98 RX6) (by decide +kernel)) (hts (.instantiable RX6 16) (by decide +kernel)) (hts (.initialized RX6) (by decide +kernel)) hk.1 hP hD hS hA rfl (fun j hj => by rcases (show j = 0 ∨ j = 1 ∨ j = 2 ∨ j = 3 ∨ j = 4 ∨ j = 5 ∨ j = 6 ∨ j = 7 ∨ j = 8 ∨ j = 9 ∨ j = 10 ∨ j = 11 ∨ j = 12 ∨ j = 13 ∨ j = 14 ∨ j = 15 by omega) with rfl | rfl | rfl | rfl | rfl | rfl | rfl | rfl | rfl | rfl | rfl | rfl | rfl | rfl | rfl | rfl <;> rfl) (Nat.le_of_ble_eq_true rfl) (Nat.le_of_ble_eq_true rfl) dL_law_8 (fun m0 H hP hD hS => ?_)
  refine W.widen (k := 24) (n := 2535) (by omega) (by omega) ?_
  refine lv_dup hx hb dL_law_11 rfl ?_
  have hPc := hP.sub (ws' := [(m0, .inr (6, [.null, .null, .null, .int 0, .null, .int 0, .int 0, .null, .null, .int 0, .int 0, .int 0, .int 0, .int 0, .int 0, .int 0]))]) [23] rfl
  have hFc := va_free (wc := [(m0, .inr (6, [.null, .null, .null, .int 0, .null, .int 0, .int 0, .null, .null, .int 0, .int 0, .int 0, .int 0, .int 0, .int 0, .int 0]))]) hD hS hA [23] rfl
  have hk6 : bK D [(cI, .int)] s := ⟨va_K.sub hk.1 [0] rfl, hk.2⟩
  refine va_callv (va_runI (As := []) (rest := [.ref m0]) ⟨hx, hb, hml, hown, hts⟩ (C6_init l D cI m0 H hPc) (cwI 0 hts gL_law_X6_init rfl rfl rfl (hts (.initialized RX6) (by decide +kernel)) (hts (.methodLink RL 100 yX6_init) (by decide +kernel)) (hts (.instanceMethod yX6_init) (by decide +kernel)) rfl (by decide +kernel) ⟨Nat.le_of_ble_eq_true rfl, Nat.le_of_ble_eq_true rfl⟩) (bPS hk6) rfl rfl hl.1 rfl (lv_room (Nat.le_of_ble_eq_true rfl)) dL_law_12 ⟨Nat.le_of_ble_eq_true rfl, Nat.le_of_ble_eq_true rfl⟩) hS (fun q _ h => hFc q h) hFc (fun u9 t H1 locs ht _ _ hB _ hk1 hS => ?_)
  obtain ⟨qm, hqm0, hP1, hD1⟩ := hB
  rw [ht] at hP1
  obtain ⟨hP, hD⟩ := va_join (wr := wC cI cO q uC0) (w1 := wM cI qm uM0) hP hD [23] [0, 1, 2, 3, 4, 5, 6, 7, 8, 9, 10, 11, 12, 13, 14, 15, 16, 17, 18, 19, 20, 21, 22] rfl rfl (by decide) (by decide) hk1 hFc hP1 hD1
  clear hk1 hFc hP1 hD1 hPc
  subst ht
  generalize t.heap = H at hP hS ⊢
  refine W.widen (k := 30) (n := 4871) (by omega) (by omega) ?_
  refine lv_astore_n (lv' := [(2, .ref m0), (1, .ref h0), (0, .ref b)]) hx hb dL_law_15 rfl hl (by decide) rfl (fun ls hl => ?_)
  refine lv_iconst (v := 1) hx hb dL_law_16 (by decide) ?_
  refine va_newa (atype := .long) (ty := .long) (N' := 1) (a0 := (1, .inr (.inl (fun _ => 0)))) hx hb (hts (.arrayClass .long) (by decide +kernel)) rfl hk.1 hP hD hS hA (fun _ => rfl) (by decide) (by decide) (by decide) (Nat.le_of_ble_eq_true rfl) (Nat.le_of_ble_eq_true rfl) dL_law_17 (fun o cL H hK2 hP hD hS => ?_)
  refine W.widen (k := 31) (n := 4872) (by omega) (by omega) ?_
  have hKL : va_K D vwCl [(cL, .long)] s := va_K.sub hK2 [2] rfl
  have hPc := hP.sub (ws' := wC cI cO q uC0) [0, 1, 2, 3, 4, 5, 6, 7, 8, 9, 10, 11, 12, 13, 14, 15, 16, 17, 18, 19, 20, 21, 22] rfl
  have hPM := hP.sub (ws' := wM cI qm uM0) [23, 24, 25, 26, 27, 28, 29] rfl
  have ho : H[o]? = some (vp_cell cL (1, .inr (.inl (fun _ => 0)))) := hP 30 (o, .inl (cL, 1, .inr (.inl (fun _ => 0)))) rfl
  have hPc := va_refs (k := 6) (g := fun i => some (qC q o (7 + i))) hPc rfl (fun j hj => by rcases (show j = 0 ∨ j = 1 ∨ j = 2 ∨ j = 3 ∨ j = 4 ∨ j = 5 by omega) with rfl | rfl | rfl | rfl | rfl | rfl <;> rfl)
  have hPc : va_P D vwCl (wC cI cO (qC q o) uC0) H := hPc
  have hPC : va_P D vwCl (wCo cI cO cL (qC q o) uC0 (fun _ => 0)) H := wCo_of hPc ho
  obtain ⟨hinj, hall⟩ := inj_of (n := 31) (f := qA q qm o) rfl hD
  have hq : bInj 24 (qC q o) := by
    intro i j hi hj h9
    rw [qA_C q qm o hi, qA_C q qm o hj] at h9
    have h8 := hinj _ _ (by split <;> omega) (by split <;> omega) h9
    split at h8 <;> split at h8 <;> omega
  have hqm : bInj 7 qm := by
    intro i j hi hj h9
    rw [qA_M q qm o hi, qA_M q qm o hj] at h9
    have h8 := hinj _ _ (by omega) (by omega) h9
    omega
  have hqq : ∀ i j : Nat, i < 24 → j < 7 → qC q o i ≠ qm j := by
    intro i j hi hj h9
    rw [qA_C q qm o hi, qA_M q qm o hj] at h9
    have h8 := hinj _ _ (by split <;> omega) (by omega) h9
    split at h8 <;> omega
  have hgc : ∀ i : Nat, i < 24 → s.heap.size ≤ qC q o i := by
    intro i hi
    rw [qA_C q qm o hi]
    exact hall _ (by split <;> omega)
  have hgm : ∀ j : Nat, j < 7 → s.heap.size ≤ qm j := by
    intro j hj
    rw [qA_M q qm o hj]
    exact hall _ (by omega)
  refine lv_astore_n (lv' := [(3, .ref o), (2, .ref m0), (1, .ref h0), (0, .ref b)]) hx hb dL_law_19 rfl hl (by decide) rfl (fun ls hl => ?_)
  refine lv_iconst (v := 0) hx hb dL_law_20 (by decide) ?_
  refine lv_istore (lv' := [(4, .int 0), (3, .ref o), (2, .ref m0), (1, .ref h0), (0, .ref b)]) hx hb dL_law_21 hl (by decide) rfl (fun ls hl => ?_)
  have hl : lv_has ls 9 [(0, .ref b), (1, .ref (qC q o 0)), (2, .ref (qm 0)), (3, .ref (qC q o 23)), (4, .int (nI 0))] := by
    have := lv_sub hl [4, 3, 2, 1, 0] (l' := [(0, .ref b), (1, .ref h0), (2, .ref m0), (3, .ref o), (4, .int 0)]) rfl
    rw [← hq0, ← hqm0] at this
    exact this
  have hL4 : L / 4 + 1 ≤ 513 := by omega
  have hBB : 100000 + 2600000 * (L / 4 + 1) < 2000000000 := Nat.lt_of_le_of_lt (Nat.add_le_add_left (Nat.mul_le_mul_left 2600000 hL4) 100000) (by decide)
  exact law_loop hl9 C0 hk hX hKL hN hq hqm hqq hgc hgm hL (L / 4 + 1) 0 100000 uC0 uM0 (fun _ => 0) H _ ls 31 4872 (Nat.zero_le _) (by omega) hBB (by omega) (by omega) (by omega) Rel_0 mInv_start hPC hPM hS hl

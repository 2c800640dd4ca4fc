-- the reference's digest (by program)
theorem bd_Jdtlb : yJxe99ae_doubleToLongBits_ccdee.cls ≠ "java/lang/invoke/MethodHandle" ∧ yJxe99ae_doubleToLongBits_ccdee.cls ≠ "java/lang/invoke/VarHandle" ∧ (parseMethodDescriptor yJxe99ae_doubleToLongBits_ccdee.desc).map (fun d => d.parameters.length) = some 1 := by decide +kernel
theorem wc_0 (u : bU) (a b c : Int32) {i : Nat} (hi : i < 283) : (F6_wouldCollect u a b c).2 0 i = u 0 i := by
  unfold F6_wouldCollect
  split
  · dsimp only
    rw [(cp72 (283 + 1) 0 _ (by decide)).2.2 i (by omega) hi, collects_1 _ _ _ _ (by decide), (cp24 (283 + 1) 0 u (by decide)).2.2 i (by omega) hi]
  · rfl
theorem mNL {u : bU} (hI : mInv u) : (u 6 1).toNatClampNeg ≤ 60 := by
  obtain ⟨n, hn, e⟩ := hI.2.2.1
  rw [e, mC (by omega)]
  exact hn
def L6_digest_11 (u : bU) : Nat → Nat → Int64 → Int64
  | 0, _, x1_11 => x1_11
  | n11 + 1, j11, x1_11 => (if (11 : Int32) ≤ (nI j11) then x1_11 else (L6_digest_11 u n11 (j11 + 1) ((31 * x1_11) + (((F6_number (bput u 6 2 0) (nI j11))).toInt64))))
def L6_digest_38 (u : bU) : Nat → Nat → Int64 → Int64
  | 0, _, x1_38 => x1_38
  | n38 + 1, j38, x1_38 => (if (6 : Int32) ≤ (nI j38) then x1_38 else (L6_digest_38 u n38 (j38 + 1) ((31 * x1_38) + ((((bput u 6 2 0) 0 (7 + (nI j38)).toNatClampNeg)).toInt64))))
def L6_digest_82 (u : bU) (j69 : Nat) : Nat → Nat → Int64 → Int64
  | 0, _, x1_82 => x1_82
  | n82 + 1, j82, x1_82 => (if (12 : Int32) ≤ (nI j82) then x1_82 else (L6_digest_82 u j69 n82 (j82 + 1) ((31 * x1_82) + (((F6_aboutBrand (bput u 6 2 0) (nI j69) (nI j82))).toInt64))))
def L6_digest_128 (u : bU) (j69 : Nat) : Nat → Nat → Int64 → Int64
  | 0, _, x1_128 => x1_128
  | n128 + 1, j128, x1_128 => (if ((bput u 6 2 0) 0 1) ≤ (nI j128) then x1_128 else (L6_digest_128 u j69 n128 (j128 + 1) ((31 * x1_128) + (((F6_deliverable (bput u 6 2 0) (nI j69) (nI j128))).toInt64))))
def L6_digest_69 (u : bU) : Nat → Nat → Int64 → Int64
  | 0, _, x1_69 => x1_69
  | n69 + 1, j69, x1_69 => (if ((bput u 6 2 0) 0 0) ≤ (nI j69) then x1_69 else (L6_digest_69 u n69 (j69 + 1) (L6_digest_128 u j69 (((bput u 6 2 0) 0 1).toNatClampNeg + 1) 0 ((31 * (L6_digest_82 u j69 (12 + 1) 0 x1_69)) + (((F6_full (bput u 6 2 0) (nI j69) 25)).toInt64)))))
def L6_digest_181 (u : bU) (j168 : Nat) : Nat → Nat → Int64 → Int64
  | 0, _, x1_181 => x1_181
  | n181 + 1, j181, x1_181 => (if (28 : Int32) ≤ (nI j181) then x1_181 else (if (nI j181) < (7 : Int32) then (L6_digest_181 u j168 n181 (j181 + 1) ((31 * x1_181) + (((F6_aboutShop (bput u 6 2 0) (nI j168) (nI j181))).toInt64))) else (if (8 : Int32) ≤ ((nI j181) - (nI j181) / 10 * 10) then (L6_digest_181 u j168 n181 (j181 + 1) x1_181) else (if (nI j181) ≤ (9 : Int32) then (L6_digest_181 u j168 n181 (j181 + 1) x1_181) else (L6_digest_181 u j168 n181 (j181 + 1) ((31 * x1_181) + (((F6_aboutShop (bput u 6 2 0) (nI j168) (nI j181))).toInt64)))))))
def L6_digest_168 (u : bU) : Nat → Nat → Int64 → Int64
  | 0, _, x1_168 => x1_168
  | n168 + 1, j168, x1_168 => (if ((bput u 6 2 0) 0 1) ≤ (nI j168) then x1_168 else (L6_digest_168 u n168 (j168 + 1) (L6_digest_181 u j168 (28 + 1) 0 x1_168)))
def L6_digest_245 (u : bU) : Nat → Nat → Int64 → Int64
  | 0, _, x1_245 => x1_245
  | n245 + 1, j245, x1_245 => (if (3 : Int32) ≤ (nI j245) then x1_245 else (L6_digest_245 u n245 (j245 + 1) ((31 * x1_245) + (((F6_shopFor (bput u 6 2 0) (nI j245))).toInt64))))
def L6_digest_284 (j271 : Nat) : bU → Nat → Nat → Int64 → Int64 × bU
  | u284, 0, _, x1_284 => (x1_284, u284)
  | u284, n284 + 1, j284, x1_284 => (if (u284 0 0) ≤ (nI j284) then (x1_284, u284) else (L6_digest_284 j271 (F6_wouldCollect u284 (nI j271) (nI j284) 1).2 n284 (j284 + 1) ((31 * x1_284) + (((F6_wouldCollect u284 (nI j271) (nI j284) 1).1).toInt64))))
def L6_digest_271 (u : bU) : bU → Nat → Nat → Int64 → Int64 × bU
  | u271, 0, _, x1_271 => (x1_271, u271)
  | u271, n271 + 1, j271, x1_271 => (if (u271 0 1) ≤ (nI j271) then (x1_271, u271) else (L6_digest_271 u (L6_digest_284 j271 u271 (((bput u 6 2 0) 0 0).toNatClampNeg + 1) 0 x1_271).2 n271 (j271 + 1) (L6_digest_284 j271 u271 (((bput u 6 2 0) 0 0).toNatClampNeg + 1) 0 x1_271).1))
def L6_digest_351 (u : bU) : Nat → Nat → Int64 → Int64
  | 0, _, x1_351 => x1_351
  | n351 + 1, j351, x1_351 => (if ((L6_digest_271 u (bput u 6 2 0) (((bput u 6 2 0) 0 1).toNatClampNeg + 1) 0 (L6_digest_245 u (3 + 1) 0 (L6_digest_168 u (((bput u 6 2 0) 0 1).toNatClampNeg + 1) 0 (L6_digest_69 u (((bput u 6 2 0) 0 0).toNatClampNeg + 1) 0 (L6_digest_38 u (6 + 1) 0 (L6_digest_11 u (11 + 1) 0 2411)))))).2 6 1) ≤ (nI j351) then x1_351 else (L6_digest_351 u n351 (j351 + 1) ((31 * x1_351) + ((((L6_digest_271 u (bput u 6 2 0) (((bput u 6 2 0) 0 1).toNatClampNeg + 1) 0 (L6_digest_245 u (3 + 1) 0 (L6_digest_168 u (((bput u 6 2 0) 0 1).toNatClampNeg + 1) 0 (L6_digest_69 u (((bput u 6 2 0) 0 0).toNatClampNeg + 1) 0 (L6_digest_38 u (6 + 1) 0 (L6_digest_11 u (11 + 1) 0 2411)))))).2 3 j351)).toInt64))))
def F6_digest (u : bU) : Int64 × bU := ((L6_digest_351 u (((L6_digest_271 u (bput u 6 2 0) (((bput u 6 2 0) 0 1).toNatClampNeg + 1) 0 (L6_digest_245 u (3 + 1) 0 (L6_digest_168 u (((bput u 6 2 0) 0 1).toNatClampNeg + 1) 0 (L6_digest_69 u (((bput u 6 2 0) 0 0).toNatClampNeg + 1) 0 (L6_digest_38 u (6 + 1) 0 (L6_digest_11 u (11 + 1) 0 2411)))))).2 6 1).toNatClampNeg + 1) 0 ((31 * ((31 * (L6_digest_271 u (bput u 6 2 0) (((bput u 6 2 0) 0 1).toNatClampNeg + 1) 0 (L6_digest_245 u (3 + 1) 0 (L6_digest_168 u (((bput u 6 2 0) 0 1).toNatClampNeg + 1) 0 (L6_digest_69 u (((bput u 6 2 0) 0 0).toNatClampNeg + 1) 0 (L6_digest_38 u (6 + 1) 0 (L6_digest_11 u (11 + 1) 0 2411)))))).1) + ((F6_gone (L6_digest_271 u (bput u 6 2 0) (((bput u 6 2 0) 0 1).toNatClampNeg + 1) 0 (L6_digest_245 u (3 + 1) 0 (L6_digest_168 u (((bput u 6 2 0) 0 1).toNatClampNeg + 1) 0 (L6_digest_69 u (((bput u 6 2 0) 0 0).toNatClampNeg + 1) 0 (L6_digest_38 u (6 + 1) 0 (L6_digest_11 u (11 + 1) 0 2411)))))).2).toInt64))) + ((((L6_digest_271 u (bput u 6 2 0) (((bput u 6 2 0) 0 1).toNatClampNeg + 1) 0 (L6_digest_245 u (3 + 1) 0 (L6_digest_168 u (((bput u 6 2 0) 0 1).toNatClampNeg + 1) 0 (L6_digest_69 u (((bput u 6 2 0) 0 0).toNatClampNeg + 1) 0 (L6_digest_38 u (6 + 1) 0 (L6_digest_11 u (11 + 1) 0 2411)))))).2 6 1)).toInt64))), (L6_digest_271 u (bput u 6 2 0) (((bput u 6 2 0) 0 1).toNatClampNeg + 1) 0 (L6_digest_245 u (3 + 1) 0 (L6_digest_168 u (((bput u 6 2 0) 0 1).toNatClampNeg + 1) 0 (L6_digest_69 u (((bput u 6 2 0) 0 0).toNatClampNeg + 1) 0 (L6_digest_38 u (6 + 1) 0 (L6_digest_11 u (11 + 1) 0 2411)))))).2)
set_option maxHeartbeats 4000000 in
set_option maxRecDepth 100000 in
theorem C6_digest (l : Launch) (D : va_G) (cI : ClassId) (q : Nat → Nat) (u : bU) (H0 : Heap) (hq : bInj 7 q) (hP : va_P D vwCl (wM cI q u) H0) (hI : mInv u) (hg : gmOK (L6_digest_271 u (bput u 6 2 0) (((bput u 6 2 0) 0 1).toNatClampNeg + 1) 0 (L6_digest_245 u (3 + 1) 0 (L6_digest_168 u (((bput u 6 2 0) 0 1).toNatClampNeg + 1) 0 (L6_digest_69 u (((bput u 6 2 0) 0 0).toNatClampNeg + 1) 0 (L6_digest_38 u (6 + 1) 0 (L6_digest_11 u (11 + 1) 0 2411)))))).2) : Met l yX6_digest wsX6_digest ({ frames := 5, cells := 0, slots := 0, locals := 119 }) (bP D [(cI, .int)] H0 [.ref (q 0)]) (bWl D (wM cI q) mInv (bA 7 q H0.size) (F6_digest u)) 0 0 (bA 7 q H0.size) := by
  refine Met.ofW (cc := cX6_digest) (maxL := 5) (ret := (some .long)) (by decide) rfl ?_
  intro p e s m args below meth c s₁ B hml hv
  obtain ⟨rfl, hH, hk⟩ := hv
  subst hH
  have hx := B.exec
  have hb := B.bytes
  have hr := B.returns
  have hts := atoms_spec (ws := wsX6_digest) B.pre
  have hown : s.vm.findClass RX6 = some m.cls := findClass_of_methodNamed B.named
  have hlocks := B.notSynchronized
  have hNB := mNB hI
  have hNS := mNS hI
  have hI0 := hI
  have iX6 : ∀ w ∈ wsX60, w ∈ wsX6_digest := by decide +kernel
  have hS : va_S (bA 7 q s.heap.size) s.heap s.heap [] := va_S.rf
  have hl := lv_entry ([.ref (q 0)]) (n := 5) (Nat.le_of_ble_eq_true rfl)
  rw [lg_entry_eq]
  generalize (lg_sl ([.ref (q 0)]) ++ List.replicate (5 - (lg_sl ([.ref (q 0)])).length) Slot.unset).toArray = ls at hl ⊢
  have hl : lv_has ls 5 [(0, .ref (q 0))] := hl
  generalize hF : F6_digest u = tgt
  refine lv_aload_n hx hb dX6_digest_0 rfl (lv_at hl 0 rfl) ?_
  refine lv_iconst (v := 0) hx hb dX6_digest_1 (by decide) ?_
  refine va_put (D := D) (ci := 6) (v := .int 0) (ty := .int) (C := RX6) (T := TX6) (N := 16) hx hb hts iX6 tyX6 tyX6_ok nmX6 hown hk.1 hP (wM_D hq) hS 0 (wM_0 _ _ _) rfl 6 (by decide) (hts (.fieldLink RX6 28 "BottleLoopModel" "thrown" "I") (List.mem_of_getElem? (i := 1) rfl)) (fun _ h9 => h9) rfl (by decide +kernel) rfl rfl (Nat.le_of_ble_eq_true rfl) dX6_digest_2 (fun H locs hP _ hS => ?_)
  have hP : va_P D vwCl (wM cI q (bput u 6 2 0)) H := pM_f2 hP
  have hI_1 : mInv (bput u 6 2 0) := mInv_sc (k := 2) hI (by decide) (by decide) (by decide)
  refine lv_ldc2 (v := 2411) hx hb hown (hts (.constantLong RX6 203 (2411)) (List.mem_of_getElem? (i := 2) rfl)) dX6_digest_5 ?_
  refine lv_lstore_n (lv' := [(1, .long 2411), (0, .ref (q 0))]) hx hb dX6_digest_8 rfl hl (by decide) rfl (fun ls hl => ?_)
  refine lv_iconst (v := 0) hx hb dX6_digest_9 (by decide) ?_
  refine lv_istore_n (lv' := [(3, .int 0), (1, .long 2411), (0, .ref (q 0))]) hx hb dX6_digest_10 rfl hl (by decide) rfl (fun ls hl => ?_)
  have loop11 : ∀ (n11 j11 : Nat) (x1_11 : Int64) (locs : List Loc) (ls : Array Slot), j11 ≤ 11 → 11 + 1 ≤ n11 + j11 → lv_has ls 5 [(0, .ref (q 0)), (1, .long x1_11), (3, .int (nI j11))] → va_S (bA 7 q s.heap.size) s.heap H locs → ∀ X : Int64, L6_digest_11 u  n11 j11 x1_11 = X → (∀ (locs : List Loc) (ls : Array Slot), lv_has ls 5 [(0, .ref (q 0)), (1, .long X)] → va_S (bA 7 q s.heap.size) s.heap H locs → W p l e (headSpec wsX6_digest ({ frames := 5, cells := 0, slots := 0, locals := 119 })).room s m ([.ref (q 0)] : List Value).toArray below meth c H locs 0 0 (MQ below (bWl D (wM cI q) mInv (bA 7 q s.heap.size) tgt) ([.ref (q 0)] : List Value).toArray s 0 0 (bA 7 q s.heap.size)) (F0 m 36 ls [])) → W p l e (headSpec wsX6_digest ({ frames := 5, cells := 0, slots := 0, locals := 119 })).room s m ([.ref (q 0)] : List Value).toArray below meth c H locs 0 0 (MQ below (bWl D (wM cI q) mInv (bA 7 q s.heap.size) tgt) ([.ref (q 0)] : List Value).toArray s 0 0 (bA 7 q s.heap.size)) (F0 m 11 ls []) := by
    intro n11
    induction n11 with
    | zero => intro j11 x1_11 locs ls hj hn; exact absurd hn (by omega)
    | succ n11 ih =>
      intro j11 x1_11 locs ls hj hn hl hS X hF kx
      refine lv_iload_n hx hb dX6_digest_11 rfl (lv_at hl 2 rfl) ?_
      refine lv_bipush (v := 11) hx hb dX6_digest_12 (by decide) ?_
      refine lv_icmp_ge (tgt := 36) hx hb dX6_digest_14 (by decide) (fun c_2 => ?_) (fun c_2 => ?_)
      · obtain rfl : X = x1_11 := by rw [← hF, L6_digest_11, if_pos c_2]
        exact kx _ _ (lv_sub hl [0, 1] rfl) hS
      · have hlt_3 : j11 < 11 := bLt c_2 (by omega) (by decide)
        refine lv_ldc2 (v := 31) hx hb hown (hts (.constantLong RX6 205 (31)) (List.mem_of_getElem? (i := 3) rfl)) dX6_digest_17 ?_
        refine lv_lload_n hx hb dX6_digest_20 rfl (lv_at hl 1 rfl) ?_
        refine lv_lmul hx hb dX6_digest_21 ?_
        refine lv_aload_n hx hb dX6_digest_22 rfl (lv_at hl 0 rfl) ?_
        refine lv_iload_n hx hb dX6_digest_23 rfl (lv_at hl 2 rfl) ?_
        refine bcall_Ri (va_runV (As := [.int (nI j11)]) (rest := [.long (31 * x1_11)]) ⟨hx, hb, hml, hown, hts⟩ (C6_number l D cI q _ _ hP hI_1 (nI j11)) (cwV 1 hts gX6_digest_X6_number rfl rfl rfl ⟨rfl, bd_X6number⟩ ⟨Nat.le_of_ble_eq_true rfl, Nat.le_of_ble_eq_true rfl⟩) (bPV hk (va_recv hk.1 hP (ci := 6) (q0 := 0) rfl (wM_0 _ _ _))) rfl rfl hl.1 rfl (lv_room (Nat.le_of_ble_eq_true rfl)) dX6_digest_24 ⟨Nat.zero_le _, Nat.zero_le _⟩) hS (fun locs hS => ?_)
        refine lv_i2l (v := ((F6_number (bput u 6 2 0) (nI j11))).toInt64) hx hb dX6_digest_27 rfl ?_
        refine lv_ladd hx hb dX6_digest_28 ?_
        refine lv_lstore_n (lv' := [(1, .long ((31 * x1_11) + (((F6_number (bput u 6 2 0) (nI j11))).toInt64))), (0, .ref (q 0)), (3, .int (nI j11))]) hx hb dX6_digest_29 rfl hl (by decide) rfl (fun ls hl => ?_)
        refine lv_iinc (v := (nI (j11 + 1))) (lv' := [(3, .int (nI (j11 + 1))), (1, .long ((31 * x1_11) + (((F6_number (bput u 6 2 0) (nI j11))).toInt64))), (0, .ref (q 0))]) hx hb dX6_digest_30 hl (k := 2) rfl (bInc j11) (by decide) rfl (fun ls hl => ?_)
        refine lv_goto (tgt := 11) hx hb dX6_digest_33 (by decide) ?_
        exact ih (j11 + 1) ((31 * x1_11) + (((F6_number (bput u 6 2 0) (nI j11))).toInt64)) _ _ (by omega) (by omega) (lv_sub hl [2, 1, 0] rfl) hS X (by rw [← hF, L6_digest_11, if_neg c_2]) kx
  refine loop11 (11 + 1) 0 2411 _ _ (by omega) (by omega) (lv_sub hl [2, 1, 0] rfl) hS _ rfl (fun locs ls hl hS => ?_)
  refine lv_iconst (v := 0) hx hb dX6_digest_36 (by decide) ?_
  refine lv_istore_n (lv' := [(3, .int 0), (0, .ref (q 0)), (1, .long (L6_digest_11 u (11 + 1) 0 2411))]) hx hb dX6_digest_37 rfl hl (by decide) rfl (fun ls hl => ?_)
  have loop38 : ∀ (n38 j38 : Nat) (x1_38 : Int64) (locs : List Loc) (ls : Array Slot), j38 ≤ 6 → 6 + 1 ≤ n38 + j38 → lv_has ls 5 [(0, .ref (q 0)), (1, .long x1_38), (3, .int (nI j38))] → va_S (bA 7 q s.heap.size) s.heap H locs → ∀ X : Int64, L6_digest_38 u  n38 j38 x1_38 = X → (∀ (locs : List Loc) (ls : Array Slot), lv_has ls 5 [(0, .ref (q 0)), (1, .long X)] → va_S (bA 7 q s.heap.size) s.heap H locs → W p l e (headSpec wsX6_digest ({ frames := 5, cells := 0, slots := 0, locals := 119 })).room s m ([.ref (q 0)] : List Value).toArray below meth c H locs 0 0 (MQ below (bWl D (wM cI q) mInv (bA 7 q s.heap.size) tgt) ([.ref (q 0)] : List Value).toArray s 0 0 (bA 7 q s.heap.size)) (F0 m 67 ls [])) → W p l e (headSpec wsX6_digest ({ frames := 5, cells := 0, slots := 0, locals := 119 })).room s m ([.ref (q 0)] : List Value).toArray below meth c H locs 0 0 (MQ below (bWl D (wM cI q) mInv (bA 7 q s.heap.size) tgt) ([.ref (q 0)] : List Value).toArray s 0 0 (bA 7 q s.heap.size)) (F0 m 38 ls []) := by
    intro n38
    induction n38 with
    | zero => intro j38 x1_38 locs ls hj hn; exact absurd hn (by omega)
    | succ n38 ih =>
      intro j38 x1_38 locs ls hj hn hl hS X hF kx
      refine lv_iload_n hx hb dX6_digest_38 rfl (lv_at hl 2 rfl) ?_
      refine lv_bipush (v := 6) hx hb dX6_digest_39 (by decide) ?_
      refine lv_icmp_ge (tgt := 67) hx hb dX6_digest_41 (by decide) (fun c_4 => ?_) (fun c_4 => ?_)
      · obtain rfl : X = x1_38 := by rw [← hF, L6_digest_38, if_pos c_4]
        exact kx _ _ (lv_sub hl [0, 1] rfl) hS
      · have hlt_5 : j38 < 6 := bLt c_4 (by omega) (by decide)
        refine lv_ldc2 (v := 31) hx hb hown (hts (.constantLong RX6 205 (31)) (List.mem_of_getElem? (i := 3) rfl)) dX6_digest_44 ?_
        refine lv_lload_n hx hb dX6_digest_47 rfl (lv_at hl 1 rfl) ?_
        refine lv_lmul hx hb dX6_digest_48 ?_
        refine lv_aload_n hx hb dX6_digest_49 rfl (lv_at hl 0 rfl) ?_
        refine va_get (D := D) (ci := 6) (C := RX6) (T := TX6) (N := 16) hx hb hts iX6 hown hk.1 hP 0 (wM_0 _ _ _) rfl 0 (by decide) (hts (.fieldLink RX6 7 "BottleLoopModel" "v" "[I") (List.mem_of_getElem? (i := 4) rfl)) (fun _ h9 => h9) rfl dX6_digest_50 ?_
        refine lv_bipush (v := 7) hx hb dX6_digest_53 (by decide) ?_
        refine lv_iload_n hx hb dX6_digest_55 rfl (lv_at hl 2 rfl) ?_
        refine lv_iadd hx hb dX6_digest_56 ?_
        refine va_iald hx hb hk.1 hP 1 0 (wM_1 _ _ _) rfl (mX7n (by omega)) dX6_digest_57 ?_
        refine lv_i2l (v := (((bput u 6 2 0) 0 (7 + (nI j38)).toNatClampNeg)).toInt64) hx hb dX6_digest_58 rfl ?_
        refine lv_ladd hx hb dX6_digest_59 ?_
        refine lv_lstore_n (lv' := [(1, .long ((31 * x1_38) + ((((bput u 6 2 0) 0 (7 + (nI j38)).toNatClampNeg)).toInt64))), (0, .ref (q 0)), (3, .int (nI j38))]) hx hb dX6_digest_60 rfl hl (by decide) rfl (fun ls hl => ?_)
        refine lv_iinc (v := (nI (j38 + 1))) (lv' := [(3, .int (nI (j38 + 1))), (1, .long ((31 * x1_38) + ((((bput u 6 2 0) 0 (7 + (nI j38)).toNatClampNeg)).toInt64))), (0, .ref (q 0))]) hx hb dX6_digest_61 hl (k := 2) rfl (bInc j38) (by decide) rfl (fun ls hl => ?_)
        refine lv_goto (tgt := 38) hx hb dX6_digest_64 (by decide) ?_
        exact ih (j38 + 1) ((31 * x1_38) + ((((bput u 6 2 0) 0 (7 + (nI j38)).toNatClampNeg)).toInt64)) _ _ (by omega) (by omega) (lv_sub hl [2, 1, 0] rfl) hS X (by rw [← hF, L6_digest_38, if_neg c_4]) kx
  refine loop38 (6 + 1) 0 (L6_digest_11 u (11 + 1) 0 2411) _ _ (by omega) (by omega) (lv_sub hl [1, 2, 0] rfl) hS _ rfl (fun locs ls hl hS => ?_)
  refine lv_iconst (v := 0) hx hb dX6_digest_67 (by decide) ?_
  refine lv_istore_n (lv' := [(3, .int 0), (0, .ref (q 0)), (1, .long (L6_digest_38 u (6 + 1) 0 (L6_digest_11 u (11 + 1) 0 2411)))]) hx hb dX6_digest_68 rfl hl (by decide) rfl (fun ls hl => ?_)
  have hB69 := bClamp ((bput u 6 2 0) 0 0)
  have hNB69 := mNB hI_1
  have hNS69 := mNS hI_1
  have loop69 : ∀ (n69 j69 : Nat) (x1_69 : Int64) (locs : List Loc) (ls : Array Slot), j69 ≤ ((bput u 6 2 0) 0 0).toNatClampNeg → ((bput u 6 2 0) 0 0).toNatClampNeg + 1 ≤ n69 + j69 → lv_has ls 5 [(0, .ref (q 0)), (1, .long x1_69), (3, .int (nI j69))] → va_S (bA 7 q s.heap.size) s.heap H locs → ∀ X : Int64, L6_digest_69 u  n69 j69 x1_69 = X → (∀ (locs : List Loc) (ls : Array Slot), lv_has ls 5 [(0, .ref (q 0)), (1, .long X)] → va_S (bA 7 q s.heap.size) s.heap H locs → W p l e (headSpec wsX6_digest ({ frames := 5, cells := 0, slots := 0, locals := 119 })).room s m ([.ref (q 0)] : List Value).toArray below meth c H locs 0 0 (MQ below (bWl D (wM cI q) mInv (bA 7 q s.heap.size) tgt) ([.ref (q 0)] : List Value).toArray s 0 0 (bA 7 q s.heap.size)) (F0 m 166 ls [])) → W p l e (headSpec wsX6_digest ({ frames := 5, cells := 0, slots := 0, locals := 119 })).room s m ([.ref (q 0)] : List Value).toArray below meth c H locs 0 0 (MQ below (bWl D (wM cI q) mInv (bA 7 q s.heap.size) tgt) ([.ref (q 0)] : List Value).toArray s 0 0 (bA 7 q s.heap.size)) (F0 m 69 ls []) := by
    intro n69
    induction n69 with
    | zero => intro j69 x1_69 locs ls hj hn; exact absurd hn (by omega)
    | succ n69 ih =>
      intro j69 x1_69 locs ls hj hn hl hS X hF kx
      refine lv_iload_n hx hb dX6_digest_69 rfl (lv_at hl 2 rfl) ?_
      refine lv_aload_n hx hb dX6_digest_70 rfl (lv_at hl 0 rfl) ?_
      refine va_get (D := D) (ci := 6) (C := RX6) (T := TX6) (N := 16) hx hb hts iX6 hown hk.1 hP 0 (wM_0 _ _ _) rfl 0 (by decide) (hts (.fieldLink RX6 7 "BottleLoopModel" "v" "[I") (List.mem_of_getElem? (i := 4) rfl)) (fun _ h9 => h9) rfl dX6_digest_71 ?_
      refine lv_iconst (v := 0) hx hb dX6_digest_74 (by decide) ?_
      refine va_iald hx hb hk.1 hP 1 0 (wM_1 _ _ _) rfl (vp_in_nI (n := 0) (by decide) (by decide)) dX6_digest_75 ?_
      refine lv_topi (fun z9 hz9 => ?_)
      obtain rfl : z9 = ((bput u 6 2 0) 0 0) := hz9.trans rfl
      refine lv_icmp_ge (tgt := 166) hx hb dX6_digest_76 (by decide) (fun c_6 => ?_) (fun c_6 => ?_)
      · obtain rfl : X = x1_69 := by rw [← hF, L6_digest_69, if_pos c_6]
        exact kx _ _ (lv_sub hl [0, 1] rfl) hS
      · have hlt_7 : j69 < ((bput u 6 2 0) 0 0).toNatClampNeg := bLtB c_6 (by omega)
        refine lv_iconst (v := 0) hx hb dX6_digest_79 (by decide) ?_
        refine lv_istore (lv' := [(4, .int 0), (0, .ref (q 0)), (1, .long x1_69), (3, .int (nI j69))]) hx hb dX6_digest_80 hl (by decide) rfl (fun ls hl => ?_)
        have loop82 : ∀ (n82 j82 : Nat) (x1_82 : Int64) (locs : List Loc) (ls : Array Slot), j82 ≤ 12 → 12 + 1 ≤ n82 + j82 → lv_has ls 5 [(0, .ref (q 0)), (1, .long x1_82), (3, .int (nI j69)), (4, .int (nI j82))] → va_S (bA 7 q s.heap.size) s.heap H locs → ∀ X : Int64, L6_digest_82 u j69  n82 j82 x1_82 = X → (∀ (locs : List Loc) (ls : Array Slot), lv_has ls 5 [(0, .ref (q 0)), (1, .long X), (3, .int (nI j69))] → va_S (bA 7 q s.heap.size) s.heap H locs → W p l e (headSpec wsX6_digest ({ frames := 5, cells := 0, slots := 0, locals := 119 })).room s m ([.ref (q 0)] : List Value).toArray below meth c H locs 0 0 (MQ below (bWl D (wM cI q) mInv (bA 7 q s.heap.size) tgt) ([.ref (q 0)] : List Value).toArray s 0 0 (bA 7 q s.heap.size)) (F0 m 110 ls [])) → W p l e (headSpec wsX6_digest ({ frames := 5, cells := 0, slots := 0, locals := 119 })).room s m ([.ref (q 0)] : List Value).toArray below meth c H locs 0 0 (MQ below (bWl D (wM cI q) mInv (bA 7 q s.heap.size) tgt) ([.ref (q 0)] : List Value).toArray s 0 0 (bA 7 q s.heap.size)) (F0 m 82 ls []) := by
          intro n82
          induction n82 with
          | zero => intro j82 x1_82 locs ls hj hn; exact absurd hn (by omega)
          | succ n82 ih =>
            intro j82 x1_82 locs ls hj hn hl hS X hF kx
            refine lv_iload hx hb dX6_digest_82 (lv_at hl 3 rfl) ?_
            refine lv_bipush (v := 12) hx hb dX6_digest_84 (by decide) ?_
            refine lv_icmp_ge (tgt := 110) hx hb dX6_digest_86 (by decide) (fun c_8 => ?_) (fun c_8 => ?_)
            · obtain rfl : X = x1_82 := by rw [← hF, L6_digest_82, if_pos c_8]
              exact kx _ _ (lv_sub hl [0, 1, 2] rfl) hS
            · have hlt_9 : j82 < 12 := bLt c_8 (by omega) (by decide)
              refine lv_ldc2 (v := 31) hx hb hown (hts (.constantLong RX6 205 (31)) (List.mem_of_getElem? (i := 3) rfl)) dX6_digest_89 ?_
              refine lv_lload_n hx hb dX6_digest_92 rfl (lv_at hl 1 rfl) ?_
              refine lv_lmul hx hb dX6_digest_93 ?_
              refine lv_aload_n hx hb dX6_digest_94 rfl (lv_at hl 0 rfl) ?_
              refine lv_iload_n hx hb dX6_digest_95 rfl (lv_at hl 2 rfl) ?_
              refine lv_iload hx hb dX6_digest_96 (lv_at hl 3 rfl) ?_
              refine bcall_Ri (va_runV (As := [.int (nI j69), .int (nI j82)]) (rest := [.long (31 * x1_82)]) ⟨hx, hb, hml, hown, hts⟩ (C6_aboutBrand l D cI q _ _ hP hI_1 (nI j69) (nI j82) (mB_nI (by omega)) (mW_nI (by omega))) (cwV 2 hts gX6_digest_X6_aboutBrand rfl rfl rfl ⟨rfl, bd_X6aboutBrand⟩ ⟨Nat.le_of_ble_eq_true rfl, Nat.le_of_ble_eq_true rfl⟩) (bPV hk (va_recv hk.1 hP (ci := 6) (q0 := 0) rfl (wM_0 _ _ _))) rfl rfl hl.1 rfl (lv_room (Nat.le_of_ble_eq_true rfl)) dX6_digest_98 ⟨Nat.zero_le _, Nat.zero_le _⟩) hS (fun locs hS => ?_)
              refine lv_i2l (v := ((F6_aboutBrand (bput u 6 2 0) (nI j69) (nI j82))).toInt64) hx hb dX6_digest_101 rfl ?_
              refine lv_ladd hx hb dX6_digest_102 ?_
              refine lv_lstore_n (lv' := [(1, .long ((31 * x1_82) + (((F6_aboutBrand (bput u 6 2 0) (nI j69) (nI j82))).toInt64))), (0, .ref (q 0)), (3, .int (nI j69)), (4, .int (nI j82))]) hx hb dX6_digest_103 rfl hl (by decide) rfl (fun ls hl => ?_)
              refine lv_iinc (v := (nI (j82 + 1))) (lv' := [(4, .int (nI (j82 + 1))), (1, .long ((31 * x1_82) + (((F6_aboutBrand (bput u 6 2 0) (nI j69) (nI j82))).toInt64))), (0, .ref (q 0)), (3, .int (nI j69))]) hx hb dX6_digest_104 hl (k := 3) rfl (bInc j82) (by decide) rfl (fun ls hl => ?_)
              refine lv_goto (tgt := 82) hx hb dX6_digest_107 (by decide) ?_
              exact ih (j82 + 1) ((31 * x1_82) + (((F6_aboutBrand (bput u 6 2 0) (nI j69) (nI j82))).toInt64)) _ _ (by omega) (by omega) (lv_sub hl [2, 1, 3, 0] rfl) hS X (by rw [← hF, L6_digest_82, if_neg c_8]) kx
        refine loop82 (12 + 1) 0 x1_69 _ _ (by omega) (by omega) (lv_sub hl [1, 2, 3, 0] rfl) hS _ rfl (fun locs ls hl hS => ?_)
        refine lv_ldc2 (v := 31) hx hb hown (hts (.constantLong RX6 205 (31)) (List.mem_of_getElem? (i := 3) rfl)) dX6_digest_110 ?_
        refine lv_lload_n hx hb dX6_digest_113 rfl (lv_at hl 1 rfl) ?_
        refine lv_lmul hx hb dX6_digest_114 ?_
        refine lv_aload_n hx hb dX6_digest_115 rfl (lv_at hl 0 rfl) ?_
        refine lv_iload_n hx hb dX6_digest_116 rfl (lv_at hl 2 rfl) ?_
        refine lv_bipush (v := 25) hx hb dX6_digest_117 (by decide) ?_
        refine bcall_Ri (va_runV (As := [.int (nI j69), .int 25]) (rest := [.long (31 * (L6_digest_82 u j69 (12 + 1) 0 x1_69))]) ⟨hx, hb, hml, hown, hts⟩ (C6_full l D cI q _ _ hP hI_1 (nI j69) 25 (mB_nI (by omega))) (cwV 2 hts gX6_digest_X6_full rfl rfl rfl ⟨rfl, bd_X6full⟩ ⟨Nat.le_of_ble_eq_true rfl, Nat.le_of_ble_eq_true rfl⟩) (bPV hk (va_recv hk.1 hP (ci := 6) (q0 := 0) rfl (wM_0 _ _ _))) rfl rfl hl.1 rfl (lv_room (Nat.le_of_ble_eq_true rfl)) dX6_digest_119 ⟨Nat.zero_le _, Nat.zero_le _⟩) hS (fun locs hS => ?_)
        refine lv_i2l (v := ((F6_full (bput u 6 2 0) (nI j69) 25)).toInt64) hx hb dX6_digest_122 rfl ?_
        refine lv_ladd hx hb dX6_digest_123 ?_
        refine lv_lstore_n (lv' := [(1, .long ((31 * (L6_digest_82 u j69 (12 + 1) 0 x1_69)) + (((F6_full (bput u 6 2 0) (nI j69) 25)).toInt64))), (0, .ref (q 0)), (3, .int (nI j69))]) hx hb dX6_digest_124 rfl hl (by decide) rfl (fun ls hl => ?_)
        refine lv_iconst (v := 0) hx hb dX6_digest_125 (by decide) ?_
        refine lv_istore (lv' := [(4, .int 0), (1, .long ((31 * (L6_digest_82 u j69 (12 + 1) 0 x1_69)) + (((F6_full (bput u 6 2 0) (nI j69) 25)).toInt64))), (0, .ref (q 0)), (3, .int (nI j69))]) hx hb dX6_digest_126 hl (by decide) rfl (fun ls hl => ?_)
        have hB128 := bClamp ((bput u 6 2 0) 0 1)
        have hNB128 := mNB hI_1
        have hNS128 := mNS hI_1
        have loop128 : ∀ (n128 j128 : Nat) (x1_128 : Int64) (locs : List Loc) (ls : Array Slot), j128 ≤ ((bput u 6 2 0) 0 1).toNatClampNeg → ((bput u 6 2 0) 0 1).toNatClampNeg + 1 ≤ n128 + j128 → lv_has ls 5 [(0, .ref (q 0)), (1, .long x1_128), (3, .int (nI j69)), (4, .int (nI j128))] → va_S (bA 7 q s.heap.size) s.heap H locs → ∀ X : Int64, L6_digest_128 u j69  n128 j128 x1_128 = X → (∀ (locs : List Loc) (ls : Array Slot), lv_has ls 5 [(0, .ref (q 0)), (1, .long X), (3, .int (nI j69))] → va_S (bA 7 q s.heap.size) s.heap H locs → W p l e (headSpec wsX6_digest ({ frames := 5, cells := 0, slots := 0, locals := 119 })).room s m ([.ref (q 0)] : List Value).toArray below meth c H locs 0 0 (MQ below (bWl D (wM cI q) mInv (bA 7 q s.heap.size) tgt) ([.ref (q 0)] : List Value).toArray s 0 0 (bA 7 q s.heap.size)) (F0 m 160 ls [])) → W p l e (headSpec wsX6_digest ({ frames := 5, cells := 0, slots := 0, locals := 119 })).room s m ([.ref (q 0)] : List Value).toArray below meth c H locs 0 0 (MQ below (bWl D (wM cI q) mInv (bA 7 q s.heap.size) tgt) ([.ref (q 0)] : List Value).toArray s 0 0 (bA 7 q s.heap.size)) (F0 m 128 ls []) := by
          intro n128
          induction n128 with
          | zero => intro j128 x1_128 locs ls hj hn; exact absurd hn (by omega)
          | succ n128 ih =>
            intro j128 x1_128 locs ls hj hn hl hS X hF kx
            refine lv_iload hx hb dX6_digest_128 (lv_at hl 3 rfl) ?_
            refine lv_aload_n hx hb dX6_digest_130 rfl (lv_at hl 0 rfl) ?_
            refine va_get (D := D) (ci := 6) (C := RX6) (T := TX6) (N := 16) hx hb hts iX6 hown hk.1 hP 0 (wM_0 _ _ _) rfl 0 (by decide) (hts (.fieldLink RX6 7 "BottleLoopModel" "v" "[I") (List.mem_of_getElem? (i := 4) rfl)) (fun _ h9 => h9) rfl dX6_digest_131 ?_
            refine lv_iconst (v := 1) hx hb dX6_digest_134 (by decide) ?_
            refine va_iald hx hb hk.1 hP 1 0 (wM_1 _ _ _) rfl (vp_in_nI (n := 1) (by decide) (by decide)) dX6_digest_135 ?_
            refine lv_topi (fun z9 hz9 => ?_)
            obtain rfl : z9 = ((bput u 6 2 0) 0 1) := hz9.trans rfl
            refine lv_icmp_ge (tgt := 160) hx hb dX6_digest_136 (by decide) (fun c_10 => ?_) (fun c_10 => ?_)
            · obtain rfl : X = x1_128 := by rw [← hF, L6_digest_128, if_pos c_10]
              exact kx _ _ (lv_sub hl [0, 1, 2] rfl) hS
            · have hlt_11 : j128 < ((bput u 6 2 0) 0 1).toNatClampNeg := bLtB c_10 (by omega)
              refine lv_ldc2 (v := 31) hx hb hown (hts (.constantLong RX6 205 (31)) (List.mem_of_getElem? (i := 3) rfl)) dX6_digest_139 ?_
              refine lv_lload_n hx hb dX6_digest_142 rfl (lv_at hl 1 rfl) ?_
              refine lv_lmul hx hb dX6_digest_143 ?_
              refine lv_aload_n hx hb dX6_digest_144 rfl (lv_at hl 0 rfl) ?_
              refine lv_iload_n hx hb dX6_digest_145 rfl (lv_at hl 2 rfl) ?_
              refine lv_iload hx hb dX6_digest_146 (lv_at hl 3 rfl) ?_
              refine bcall_Ri (va_runV (As := [.int (nI j69), .int (nI j128)]) (rest := [.long (31 * x1_128)]) ⟨hx, hb, hml, hown, hts⟩ (C6_deliverable l D cI q _ _ hP hI_1 (nI j69) (nI j128) (mB_nI (by omega)) (mS_nI (by omega))) (cwV 2 hts gX6_digest_X6_deliverable rfl rfl rfl ⟨rfl, bd_X6deliverable⟩ ⟨Nat.le_of_ble_eq_true rfl, Nat.le_of_ble_eq_true rfl⟩) (bPV hk (va_recv hk.1 hP (ci := 6) (q0 := 0) rfl (wM_0 _ _ _))) rfl rfl hl.1 rfl (lv_room (Nat.le_of_ble_eq_true rfl)) dX6_digest_148 ⟨Nat.zero_le _, Nat.zero_le _⟩) hS (fun locs hS => ?_)
              refine lv_i2l (v := ((F6_deliverable (bput u 6 2 0) (nI j69) (nI j128))).toInt64) hx hb dX6_digest_151 rfl ?_
              refine lv_ladd hx hb dX6_digest_152 ?_
              refine lv_lstore_n (lv' := [(1, .long ((31 * x1_128) + (((F6_deliverable (bput u 6 2 0) (nI j69) (nI j128))).toInt64))), (0, .ref (q 0)), (3, .int (nI j69)), (4, .int (nI j128))]) hx hb dX6_digest_153 rfl hl (by decide) rfl (fun ls hl => ?_)
              refine lv_iinc (v := (nI (j128 + 1))) (lv' := [(4, .int (nI (j128 + 1))), (1, .long ((31 * x1_128) + (((F6_deliverable (bput u 6 2 0) (nI j69) (nI j128))).toInt64))), (0, .ref (q 0)), (3, .int (nI j69))]) hx hb dX6_digest_154 hl (k := 3) rfl (bInc j128) (by decide) rfl (fun ls hl => ?_)
              refine lv_goto (tgt := 128) hx hb dX6_digest_157 (by decide) ?_
              exact ih (j128 + 1) ((31 * x1_128) + (((F6_deliverable (bput u 6 2 0) (nI j69) (nI j128))).toInt64)) _ _ (by omega) (by omega) (lv_sub hl [2, 1, 3, 0] rfl) hS X (by rw [← hF, L6_digest_128, if_neg c_10]) kx
        refine loop128 (((bput u 6 2 0) 0 1).toNatClampNeg + 1) 0 ((31 * (L6_digest_82 u j69 (12 + 1) 0 x1_69)) + (((F6_full (bput u 6 2 0) (nI j69) 25)).toInt64)) _ _ (by omega) (by omega) (lv_sub hl [2, 1, 3, 0] rfl) hS _ rfl (fun locs ls hl hS => ?_)
        refine lv_iinc (v := (nI (j69 + 1))) (lv' := [(3, .int (nI (j69 + 1))), (0, .ref (q 0)), (1, .long (L6_digest_128 u j69 (((bput u 6 2 0) 0 1).toNatClampNeg + 1) 0 ((31 * (L6_digest_82 u j69 (12 + 1) 0 x1_69)) + (((F6_full (bput u 6 2 0) (nI j69) 25)).toInt64))))]) hx hb dX6_digest_160 hl (k := 2) rfl (bInc j69) (by decide) rfl (fun ls hl => ?_)
        refine lv_goto (tgt := 69) hx hb dX6_digest_163 (by decide) ?_
        exact ih (j69 + 1) (L6_digest_128 u j69 (((bput u 6 2 0) 0 1).toNatClampNeg + 1) 0 ((31 * (L6_digest_82 u j69 (12 + 1) 0 x1_69)) + (((F6_full (bput u 6 2 0) (nI j69) 25)).toInt64))) _ _ (by omega) (by omega) (lv_sub hl [1, 2, 0] rfl) hS X (by rw [← hF, L6_digest_69, if_neg c_6]) kx
  refine loop69 (((bput u 6 2 0) 0 0).toNatClampNeg + 1) 0 (L6_digest_38 u (6 + 1) 0 (L6_digest_11 u (11 + 1) 0 2411)) _ _ (by omega) (by omega) (lv_sub hl [1, 2, 0] rfl) hS _ rfl (fun locs ls hl hS => ?_)
  refine lv_iconst (v := 0) hx hb dX6_digest_166 (by decide) ?_
  refine lv_istore_n (lv' := [(3, .int 0), (0, .ref (q 0)), (1, .long (L6_digest_69 u (((bput u 6 2 0) 0 0).toNatClampNeg + 1) 0 (L6_digest_38 u (6 + 1) 0 (L6_digest_11 u (11 + 1) 0 2411))))]) hx hb dX6_digest_167 rfl hl (by decide) rfl (fun ls hl => ?_)
  have hB168 := bClamp ((bput u 6 2 0) 0 1)
  have hNB168 := mNB hI_1
  have hNS168 := mNS hI_1
  have loop168 : ∀ (n168 j168 : Nat) (x1_168 : Int64) (locs : List Loc) (ls : Array Slot), j168 ≤ ((bput u 6 2 0) 0 1).toNatClampNeg → ((bput u 6 2 0) 0 1).toNatClampNeg + 1 ≤ n168 + j168 → lv_has ls 5 [(0, .ref (q 0)), (1, .long x1_168), (3, .int (nI j168))] → va_S (bA 7 q s.heap.size) s.heap H locs → ∀ X : Int64, L6_digest_168 u  n168 j168 x1_168 = X → (∀ (locs : List Loc) (ls : Array Slot), lv_has ls 5 [(0, .ref (q 0)), (1, .long X)] → va_S (bA 7 q s.heap.size) s.heap H locs → W p l e (headSpec wsX6_digest ({ frames := 5, cells := 0, slots := 0, locals := 119 })).room s m ([.ref (q 0)] : List Value).toArray below meth c H locs 0 0 (MQ below (bWl D (wM cI q) mInv (bA 7 q s.heap.size) tgt) ([.ref (q 0)] : List Value).toArray s 0 0 (bA 7 q s.heap.size)) (F0 m 243 ls [])) → W p l e (headSpec wsX6_digest ({ frames := 5, cells := 0, slots := 0, locals := 119 })).room s m ([.ref (q 0)] : List Value).toArray below meth c H locs 0 0 (MQ below (bWl D (wM cI q) mInv (bA 7 q s.heap.size) tgt) ([.ref (q 0)] : List Value).toArray s 0 0 (bA 7 q s.heap.size)) (F0 m 168 ls []) := by
    intro n168
    induction n168 with
    | zero => intro j168 x1_168 locs ls hj hn; exact absurd hn (by omega)
    | succ n168 ih =>
      intro j168 x1_168 locs ls hj hn hl hS X hF kx
      refine lv_iload_n hx hb dX6_digest_168 rfl (lv_at hl 2 rfl) ?_
      refine lv_aload_n hx hb dX6_digest_169 rfl (lv_at hl 0 rfl) ?_
      refine va_get (D := D) (ci := 6) (C := RX6) (T := TX6) (N := 16) hx hb hts iX6 hown hk.1 hP 0 (wM_0 _ _ _) rfl 0 (by decide) (hts (.fieldLink RX6 7 "BottleLoopModel" "v" "[I") (List.mem_of_getElem? (i := 4) rfl)) (fun _ h9 => h9) rfl dX6_digest_170 ?_
      refine lv_iconst (v := 1) hx hb dX6_digest_173 (by decide) ?_
      refine va_iald hx hb hk.1 hP 1 0 (wM_1 _ _ _) rfl (vp_in_nI (n := 1) (by decide) (by decide)) dX6_digest_174 ?_
      refine lv_topi (fun z9 hz9 => ?_)
      obtain rfl : z9 = ((bput u 6 2 0) 0 1) := hz9.trans rfl
      refine lv_icmp_ge (tgt := 243) hx hb dX6_digest_175 (by decide) (fun c_12 => ?_) (fun c_12 => ?_)
      · obtain rfl : X = x1_168 := by rw [← hF, L6_digest_168, if_pos c_12]
        exact kx _ _ (lv_sub hl [0, 1] rfl) hS
      · have hlt_13 : j168 < ((bput u 6 2 0) 0 1).toNatClampNeg := bLtB c_12 (by omega)
        refine lv_iconst (v := 0) hx hb dX6_digest_178 (by decide) ?_
        refine lv_istore (lv' := [(4, .int 0), (0, .ref (q 0)), (1, .long x1_168), (3, .int (nI j168))]) hx hb dX6_digest_179 hl (by decide) rfl (fun ls hl => ?_)
        have loop181 : ∀ (n181 j181 : Nat) (x1_181 : Int64) (locs : List Loc) (ls : Array Slot), j181 ≤ 28 → 28 + 1 ≤ n181 + j181 → lv_has ls 5 [(0, .ref (q 0)), (1, .long x1_181), (3, .int (nI j168)), (4, .int (nI j181))] → va_S (bA 7 q s.heap.size) s.heap H locs → ∀ X : Int64, L6_digest_181 u j168  n181 j181 x1_181 = X → (∀ (locs : List Loc) (ls : Array Slot), lv_has ls 5 [(0, .ref (q 0)), (1, .long X), (3, .int (nI j168))] → va_S (bA 7 q s.heap.size) s.heap H locs → W p l e (headSpec wsX6_digest ({ frames := 5, cells := 0, slots := 0, locals := 119 })).room s m ([.ref (q 0)] : List Value).toArray below meth c H locs 0 0 (MQ below (bWl D (wM cI q) mInv (bA 7 q s.heap.size) tgt) ([.ref (q 0)] : List Value).toArray s 0 0 (bA 7 q s.heap.size)) (F0 m 237 ls [])) → W p l e (headSpec wsX6_digest ({ frames := 5, cells := 0, slots := 0, locals := 119 })).room s m ([.ref (q 0)] : List Value).toArray below meth c H locs 0 0 (MQ below (bWl D (wM cI q) mInv (bA 7 q s.heap.size) tgt) ([.ref (q 0)] : List Value).toArray s 0 0 (bA 7 q s.heap.size)) (F0 m 181 ls []) := by
          intro n181
          induction n181 with
          | zero => intro j181 x1_181 locs ls hj hn; exact absurd hn (by omega)
          | succ n181 ih =>
            intro j181 x1_181 locs ls hj hn hl hS X hF kx
            refine lv_iload hx hb dX6_digest_181 (lv_at hl 3 rfl) ?_
            refine lv_bipush (v := 28) hx hb dX6_digest_183 (by decide) ?_
            refine lv_icmp_ge (tgt := 237) hx hb dX6_digest_185 (by decide) (fun c_14 => ?_) (fun c_14 => ?_)
            · obtain rfl : X = x1_181 := by rw [← hF, L6_digest_181, if_pos c_14]
              exact kx _ _ (lv_sub hl [0, 1, 2] rfl) hS
            · have hlt_15 : j181 < 28 := bLt c_14 (by omega) (by decide)
              refine lv_iload hx hb dX6_digest_188 (lv_at hl 3 rfl) ?_
              refine lv_bipush (v := 7) hx hb dX6_digest_190 (by decide) ?_
              refine lv_icmp_lt (tgt := 212) hx hb dX6_digest_192 (by decide) (fun c_16 => ?_) (fun c_16 => ?_)
              · refine lv_ldc2 (v := 31) hx hb hown (hts (.constantLong RX6 205 (31)) (List.mem_of_getElem? (i := 3) rfl)) dX6_digest_212 ?_
                refine lv_lload_n hx hb dX6_digest_215 rfl (lv_at hl 1 rfl) ?_
                refine lv_lmul hx hb dX6_digest_216 ?_
                refine lv_aload_n hx hb dX6_digest_217 rfl (lv_at hl 0 rfl) ?_
                refine lv_iload_n hx hb dX6_digest_218 rfl (lv_at hl 2 rfl) ?_
                refine lv_iload hx hb dX6_digest_219 (lv_at hl 3 rfl) ?_
                refine bcall_Ri (va_runV (As := [.int (nI j168), .int (nI j181)]) (rest := [.long (31 * x1_181)]) ⟨hx, hb, hml, hown, hts⟩ (C6_aboutShop l D cI q _ _ hP hI_1 (nI j168) (nI j181) (mS_nI (by omega)) (mW_nI (by omega))) (cwV 2 hts gX6_digest_X6_aboutShop rfl rfl rfl ⟨rfl, bd_X6aboutShop⟩ ⟨Nat.le_of_ble_eq_true rfl, Nat.le_of_ble_eq_true rfl⟩) (bPV hk (va_recv hk.1 hP (ci := 6) (q0 := 0) rfl (wM_0 _ _ _))) rfl rfl hl.1 rfl (lv_room (Nat.le_of_ble_eq_true rfl)) dX6_digest_221 ⟨Nat.zero_le _, Nat.zero_le _⟩) hS (fun locs hS => ?_)
                refine lv_i2l (v := ((F6_aboutShop (bput u 6 2 0) (nI j168) (nI j181))).toInt64) hx hb dX6_digest_224 rfl ?_
                refine lv_ladd hx hb dX6_digest_225 ?_
                refine lv_goto (tgt := 230) hx hb dX6_digest_226 (by decide) ?_
                refine lv_lstore_n (lv' := [(1, .long ((31 * x1_181) + (((F6_aboutShop (bput u 6 2 0) (nI j168) (nI j181))).toInt64))), (0, .ref (q 0)), (3, .int (nI j168)), (4, .int (nI j181))]) hx hb dX6_digest_230 rfl hl (by decide) rfl (fun ls hl => ?_)
                refine lv_iinc (v := (nI (j181 + 1))) (lv' := [(4, .int (nI (j181 + 1))), (1, .long ((31 * x1_181) + (((F6_aboutShop (bput u 6 2 0) (nI j168) (nI j181))).toInt64))), (0, .ref (q 0)), (3, .int (nI j168))]) hx hb dX6_digest_231 hl (k := 3) rfl (bInc j181) (by decide) rfl (fun ls hl => ?_)
                refine lv_goto (tgt := 181) hx hb dX6_digest_234 (by decide) ?_
                exact ih (j181 + 1) ((31 * x1_181) + (((F6_aboutShop (bput u 6 2 0) (nI j168) (nI j181))).toInt64)) _ _ (by omega) (by omega) (lv_sub hl [2, 1, 3, 0] rfl) hS X (by rw [← hF, L6_digest_181, if_neg c_14, if_pos c_16]) kx
              · refine lv_iload hx hb dX6_digest_195 (lv_at hl 3 rfl) ?_
                refine lv_bipush (v := 10) hx hb dX6_digest_197 (by decide) ?_
                refine lv_irem hx hb dX6_digest_199 (by decide) ?_
                refine lv_bipush (v := 8) hx hb dX6_digest_200 (by decide) ?_
                refine lv_icmp_ge (tgt := 229) hx hb dX6_digest_202 (by decide) (fun c_17 => ?_) (fun c_17 => ?_)
                · refine lv_lload_n hx hb dX6_digest_229 rfl (lv_at hl 1 rfl) ?_
                  refine lv_lstore_n (lv' := [(1, .long x1_181), (0, .ref (q 0)), (3, .int (nI j168)), (4, .int (nI j181))]) hx hb dX6_digest_230 rfl hl (by decide) rfl (fun ls hl => ?_)
                  refine lv_iinc (v := (nI (j181 + 1))) (lv' := [(4, .int (nI (j181 + 1))), (1, .long x1_181), (0, .ref (q 0)), (3, .int (nI j168))]) hx hb dX6_digest_231 hl (k := 3) rfl (bInc j181) (by decide) rfl (fun ls hl => ?_)
                  refine lv_goto (tgt := 181) hx hb dX6_digest_234 (by decide) ?_
                  exact ih (j181 + 1) x1_181 _ _ (by omega) (by omega) (lv_sub hl [2, 1, 3, 0] rfl) hS X (by rw [← hF, L6_digest_181, if_neg c_14, if_neg c_16, if_pos c_17]) kx
                · refine lv_iload hx hb dX6_digest_205 (lv_at hl 3 rfl) ?_
                  refine lv_bipush (v := 9) hx hb dX6_digest_207 (by decide) ?_
                  refine lv_icmp_le (tgt := 229) hx hb dX6_digest_209 (by decide) (fun c_18 => ?_) (fun c_18 => ?_)
                  · refine lv_lload_n hx hb dX6_digest_229 rfl (lv_at hl 1 rfl) ?_
                    refine lv_lstore_n (lv' := [(1, .long x1_181), (0, .ref (q 0)), (3, .int (nI j168)), (4, .int (nI j181))]) hx hb dX6_digest_230 rfl hl (by decide) rfl (fun ls hl => ?_)
                    refine lv_iinc (v := (nI (j181 + 1))) (lv' := [(4, .int (nI (j181 + 1))), (1, .long x1_181), (0, .ref (q 0)), (3, .int (nI j168))]) hx hb dX6_digest_231 hl (k := 3) rfl (bInc j181) (by decide) rfl (fun ls hl => ?_)
                    refine lv_goto (tgt := 181) hx hb dX6_digest_234 (by decide) ?_
                    exact ih (j181 + 1) x1_181 _ _ (by omega) (by omega) (lv_sub hl [2, 1, 3, 0] rfl) hS X (by rw [← hF, L6_digest_181, if_neg c_14, if_neg c_16, if_neg c_17, if_pos c_18]) kx
                  · refine lv_ldc2 (v := 31) hx hb hown (hts (.constantLong RX6 205 (31)) (List.mem_of_getElem? (i := 3) rfl)) dX6_digest_212 ?_
                    refine lv_lload_n hx hb dX6_digest_215 rfl (lv_at hl 1 rfl) ?_
                    refine lv_lmul hx hb dX6_digest_216 ?_
                    refine lv_aload_n hx hb dX6_digest_217 rfl (lv_at hl 0 rfl) ?_
                    refine lv_iload_n hx hb dX6_digest_218 rfl (lv_at hl 2 rfl) ?_
                    refine lv_iload hx hb dX6_digest_219 (lv_at hl 3 rfl) ?_
                    refine bcall_Ri (va_runV (As := [.int (nI j168), .int (nI j181)]) (rest := [.long (31 * x1_181)]) ⟨hx, hb, hml, hown, hts⟩ (C6_aboutShop l D cI q _ _ hP hI_1 (nI j168) (nI j181) (mS_nI (by omega)) (mW_nI (by omega))) (cwV 2 hts gX6_digest_X6_aboutShop rfl rfl rfl ⟨rfl, bd_X6aboutShop⟩ ⟨Nat.le_of_ble_eq_true rfl, Nat.le_of_ble_eq_true rfl⟩) (bPV hk (va_recv hk.1 hP (ci := 6) (q0 := 0) rfl (wM_0 _ _ _))) rfl rfl hl.1 rfl (lv_room (Nat.le_of_ble_eq_true rfl)) dX6_digest_221 ⟨Nat.zero_le _, Nat.zero_le _⟩) hS (fun locs hS => ?_)
                    refine lv_i2l (v := ((F6_aboutShop (bput u 6 2 0) (nI j168) (nI j181))).toInt64) hx hb dX6_digest_224 rfl ?_
                    refine lv_ladd hx hb dX6_digest_225 ?_
                    refine lv_goto (tgt := 230) hx hb dX6_digest_226 (by decide) ?_
                    refine lv_lstore_n (lv' := [(1, .long ((31 * x1_181) + (((F6_aboutShop (bput u 6 2 0) (nI j168) (nI j181))).toInt64))), (0, .ref (q 0)), (3, .int (nI j168)), (4, .int (nI j181))]) hx hb dX6_digest_230 rfl hl (by decide) rfl (fun ls hl => ?_)
                    refine lv_iinc (v := (nI (j181 + 1))) (lv' := [(4, .int (nI (j181 + 1))), (1, .long ((31 * x1_181) + (((F6_aboutShop (bput u 6 2 0) (nI j168) (nI j181))).toInt64))), (0, .ref (q 0)), (3, .int (nI j168))]) hx hb dX6_digest_231 hl (k := 3) rfl (bInc j181) (by decide) rfl (fun ls hl => ?_)
                    refine lv_goto (tgt := 181) hx hb dX6_digest_234 (by decide) ?_
                    exact ih (j181 + 1) ((31 * x1_181) + (((F6_aboutShop (bput u 6 2 0) (nI j168) (nI j181))).toInt64)) _ _ (by omega) (by omega) (lv_sub hl [2, 1, 3, 0] rfl) hS X (by rw [← hF, L6_digest_181, if_neg c_14, if_neg c_16, if_neg c_17, if_neg c_18]) kx
        refine loop181 (28 + 1) 0 x1_168 _ _ (by omega) (by omega) (lv_sub hl [1, 2, 3, 0] rfl) hS _ rfl (fun locs ls hl hS => ?_)
        refine lv_iinc (v := (nI (j168 + 1))) (lv' := [(3, .int (nI (j168 + 1))), (0, .ref (q 0)), (1, .long (L6_digest_181 u j168 (28 + 1) 0 x1_168))]) hx hb dX6_digest_237 hl (k := 2) rfl (bInc j168) (by decide) rfl (fun ls hl => ?_)
        refine lv_goto (tgt := 168) hx hb dX6_digest_240 (by decide) ?_
        exact ih (j168 + 1) (L6_digest_181 u j168 (28 + 1) 0 x1_168) _ _ (by omega) (by omega) (lv_sub hl [1, 2, 0] rfl) hS X (by rw [← hF, L6_digest_168, if_neg c_12]) kx
  refine loop168 (((bput u 6 2 0) 0 1).toNatClampNeg + 1) 0 (L6_digest_69 u (((bput u 6 2 0) 0 0).toNatClampNeg + 1) 0 (L6_digest_38 u (6 + 1) 0 (L6_digest_11 u (11 + 1) 0 2411))) _ _ (by omega) (by omega) (lv_sub hl [1, 2, 0] rfl) hS _ rfl (fun locs ls hl hS => ?_)
  refine lv_iconst (v := 0) hx hb dX6_digest_243 (by decide) ?_
  refine lv_istore_n (lv' := [(3, .int 0), (0, .ref (q 0)), (1, .long (L6_digest_168 u (((bput u 6 2 0) 0 1).toNatClampNeg + 1) 0 (L6_digest_69 u (((bput u 6 2 0) 0 0).toNatClampNeg + 1) 0 (L6_digest_38 u (6 + 1) 0 (L6_digest_11 u (11 + 1) 0 2411)))))]) hx hb dX6_digest_244 rfl hl (by decide) rfl (fun ls hl => ?_)
  have loop245 : ∀ (n245 j245 : Nat) (x1_245 : Int64) (locs : List Loc) (ls : Array Slot), j245 ≤ 3 → 3 + 1 ≤ n245 + j245 → lv_has ls 5 [(0, .ref (q 0)), (1, .long x1_245), (3, .int (nI j245))] → va_S (bA 7 q s.heap.size) s.heap H locs → ∀ X : Int64, L6_digest_245 u  n245 j245 x1_245 = X → (∀ (locs : List Loc) (ls : Array Slot), lv_has ls 5 [(0, .ref (q 0)), (1, .long X)] → va_S (bA 7 q s.heap.size) s.heap H locs → W p l e (headSpec wsX6_digest ({ frames := 5, cells := 0, slots := 0, locals := 119 })).room s m ([.ref (q 0)] : List Value).toArray below meth c H locs 0 0 (MQ below (bWl D (wM cI q) mInv (bA 7 q s.heap.size) tgt) ([.ref (q 0)] : List Value).toArray s 0 0 (bA 7 q s.heap.size)) (F0 m 269 ls [])) → W p l e (headSpec wsX6_digest ({ frames := 5, cells := 0, slots := 0, locals := 119 })).room s m ([.ref (q 0)] : List Value).toArray below meth c H locs 0 0 (MQ below (bWl D (wM cI q) mInv (bA 7 q s.heap.size) tgt) ([.ref (q 0)] : List Value).toArray s 0 0 (bA 7 q s.heap.size)) (F0 m 245 ls []) := by
    intro n245
    induction n245 with
    | zero => intro j245 x1_245 locs ls hj hn; exact absurd hn (by omega)
    | succ n245 ih =>
      intro j245 x1_245 locs ls hj hn hl hS X hF kx
      refine lv_iload_n hx hb dX6_digest_245 rfl (lv_at hl 2 rfl) ?_
      refine lv_iconst (v := 3) hx hb dX6_digest_246 (by decide) ?_
      refine lv_icmp_ge (tgt := 269) hx hb dX6_digest_247 (by decide) (fun c_19 => ?_) (fun c_19 => ?_)
      · obtain rfl : X = x1_245 := by rw [← hF, L6_digest_245, if_pos c_19]
        exact kx _ _ (lv_sub hl [0, 1] rfl) hS
      · have hlt_20 : j245 < 3 := bLt c_19 (by omega) (by decide)
        refine lv_ldc2 (v := 31) hx hb hown (hts (.constantLong RX6 205 (31)) (List.mem_of_getElem? (i := 3) rfl)) dX6_digest_250 ?_
        refine lv_lload_n hx hb dX6_digest_253 rfl (lv_at hl 1 rfl) ?_
        refine lv_lmul hx hb dX6_digest_254 ?_
        refine lv_aload_n hx hb dX6_digest_255 rfl (lv_at hl 0 rfl) ?_
        refine lv_iload_n hx hb dX6_digest_256 rfl (lv_at hl 2 rfl) ?_
        refine bcall_Ri (va_runV (As := [.int (nI j245)]) (rest := [.long (31 * x1_245)]) ⟨hx, hb, hml, hown, hts⟩ (C6_shopFor l D cI q _ _ hP hI_1 (nI j245)) (cwV 1 hts gX6_digest_X6_shopFor rfl rfl rfl ⟨rfl, bd_X6shopFor⟩ ⟨Nat.le_of_ble_eq_true rfl, Nat.le_of_ble_eq_true rfl⟩) (bPV hk (va_recv hk.1 hP (ci := 6) (q0 := 0) rfl (wM_0 _ _ _))) rfl rfl hl.1 rfl (lv_room (Nat.le_of_ble_eq_true rfl)) dX6_digest_257 ⟨Nat.zero_le _, Nat.zero_le _⟩) hS (fun locs hS => ?_)
        refine lv_i2l (v := ((F6_shopFor (bput u 6 2 0) (nI j245))).toInt64) hx hb dX6_digest_260 rfl ?_
        refine lv_ladd hx hb dX6_digest_261 ?_
        refine lv_lstore_n (lv' := [(1, .long ((31 * x1_245) + (((F6_shopFor (bput u 6 2 0) (nI j245))).toInt64))), (0, .ref (q 0)), (3, .int (nI j245))]) hx hb dX6_digest_262 rfl hl (by decide) rfl (fun ls hl => ?_)
        refine lv_iinc (v := (nI (j245 + 1))) (lv' := [(3, .int (nI (j245 + 1))), (1, .long ((31 * x1_245) + (((F6_shopFor (bput u 6 2 0) (nI j245))).toInt64))), (0, .ref (q 0))]) hx hb dX6_digest_263 hl (k := 2) rfl (bInc j245) (by decide) rfl (fun ls hl => ?_)
        refine lv_goto (tgt := 245) hx hb dX6_digest_266 (by decide) ?_
        exact ih (j245 + 1) ((31 * x1_245) + (((F6_shopFor (bput u 6 2 0) (nI j245))).toInt64)) _ _ (by omega) (by omega) (lv_sub hl [2, 1, 0] rfl) hS X (by rw [← hF, L6_digest_245, if_neg c_19]) kx
  refine loop245 (3 + 1) 0 (L6_digest_168 u (((bput u 6 2 0) 0 1).toNatClampNeg + 1) 0 (L6_digest_69 u (((bput u 6 2 0) 0 0).toNatClampNeg + 1) 0 (L6_digest_38 u (6 + 1) 0 (L6_digest_11 u (11 + 1) 0 2411)))) _ _ (by omega) (by omega) (lv_sub hl [1, 2, 0] rfl) hS _ rfl (fun locs ls hl hS => ?_)
  refine lv_iconst (v := 0) hx hb dX6_digest_269 (by decide) ?_
  refine lv_istore_n (lv' := [(3, .int 0), (0, .ref (q 0)), (1, .long (L6_digest_245 u (3 + 1) 0 (L6_digest_168 u (((bput u 6 2 0) 0 1).toNatClampNeg + 1) 0 (L6_digest_69 u (((bput u 6 2 0) 0 0).toNatClampNeg + 1) 0 (L6_digest_38 u (6 + 1) 0 (L6_digest_11 u (11 + 1) 0 2411))))))]) hx hb dX6_digest_270 rfl hl (by decide) rfl (fun ls hl => ?_)
  have hB271 := bClamp ((bput u 6 2 0) 0 1)
  have hNB271 := mNB hI_1
  have hNS271 := mNS hI_1
  have loop271 : ∀ (n271 j271 : Nat) (x1_271 : Int64) (u271 : bU) (H : Heap) (locs : List Loc) (ls : Array Slot), j271 ≤ ((bput u 6 2 0) 0 1).toNatClampNeg → ((bput u 6 2 0) 0 1).toNatClampNeg + 1 ≤ n271 + j271 → (u271 0 0 = (bput u 6 2 0) 0 0 ∧ u271 0 1 = (bput u 6 2 0) 0 1) → lv_has ls 5 [(0, .ref (q 0)), (1, .long x1_271), (3, .int (nI j271))] → va_P D vwCl (wM cI q u271) H → mInv u271 → va_S (bA 7 q s.heap.size) s.heap H locs → ∀ X : Int64 × bU, L6_digest_271 u u271 n271 j271 x1_271 = X → (∀ (H : Heap) (locs : List Loc) (ls : Array Slot), lv_has ls 5 [(0, .ref (q 0)), (1, .long X.1)] → va_P D vwCl (wM cI q X.2) H → mInv X.2 → va_S (bA 7 q s.heap.size) s.heap H locs → W p l e (headSpec wsX6_digest ({ frames := 5, cells := 0, slots := 0, locals := 119 })).room s m ([.ref (q 0)] : List Value).toArray below meth c H locs 0 0 (MQ below (bWl D (wM cI q) mInv (bA 7 q s.heap.size) tgt) ([.ref (q 0)] : List Value).toArray s 0 0 (bA 7 q s.heap.size)) (F0 m 323 ls [])) → W p l e (headSpec wsX6_digest ({ frames := 5, cells := 0, slots := 0, locals := 119 })).room s m ([.ref (q 0)] : List Value).toArray below meth c H locs 0 0 (MQ below (bWl D (wM cI q) mInv (bA 7 q s.heap.size) tgt) ([.ref (q 0)] : List Value).toArray s 0 0 (bA 7 q s.heap.size)) (F0 m 271 ls []) := by
    intro n271
    induction n271 with
    | zero => intro j271 x1_271 u271 H locs ls hj hn; exact absurd hn (by omega)
    | succ n271 ih =>
      intro j271 x1_271 u271 H locs ls hj hn hinv hl hP hI hS X hF kx
      refine lv_iload_n hx hb dX6_digest_271 rfl (lv_at hl 2 rfl) ?_
      refine lv_aload_n hx hb dX6_digest_272 rfl (lv_at hl 0 rfl) ?_
      refine va_get (D := D) (ci := 6) (C := RX6) (T := TX6) (N := 16) hx hb hts iX6 hown hk.1 hP 0 (wM_0 _ _ _) rfl 0 (by decide) (hts (.fieldLink RX6 7 "BottleLoopModel" "v" "[I") (List.mem_of_getElem? (i := 4) rfl)) (fun _ h9 => h9) rfl dX6_digest_273 ?_
      refine lv_iconst (v := 1) hx hb dX6_digest_276 (by decide) ?_
      refine va_iald hx hb hk.1 hP 1 0 (wM_1 _ _ _) rfl (vp_in_nI (n := 1) (by decide) (by decide)) dX6_digest_277 ?_
      refine lv_topi (fun z9 hz9 => ?_)
      obtain rfl : z9 = (u271 0 1) := hz9.trans rfl
      refine lv_icmp_ge (tgt := 323) hx hb dX6_digest_278 (by decide) (fun c_21 => ?_) (fun c_21 => ?_)
      · obtain rfl : X = (x1_271, u271) := by rw [← hF, L6_digest_271, if_pos c_21]
        exact kx _ _ _ (lv_sub hl [0, 1] rfl) hP hI hS
      · have hlt_22 : j271 < ((bput u 6 2 0) 0 1).toNatClampNeg := by rw [← hinv.2]; exact bLtB c_21 (by omega)
        refine lv_iconst (v := 0) hx hb dX6_digest_281 (by decide) ?_
        refine lv_istore (lv' := [(4, .int 0), (0, .ref (q 0)), (1, .long x1_271), (3, .int (nI j271))]) hx hb dX6_digest_282 hl (by decide) rfl (fun ls hl => ?_)
        have hB284 := bClamp ((bput u 6 2 0) 0 0)
        have loop284 : ∀ (n284 j284 : Nat) (x1_284 : Int64) (u284 : bU) (H : Heap) (locs : List Loc) (ls : Array Slot), j284 ≤ ((bput u 6 2 0) 0 0).toNatClampNeg → ((bput u 6 2 0) 0 0).toNatClampNeg + 1 ≤ n284 + j284 → (u284 0 0 = (bput u 6 2 0) 0 0 ∧ u284 0 1 = (bput u 6 2 0) 0 1) → lv_has ls 5 [(0, .ref (q 0)), (1, .long x1_284), (3, .int (nI j271)), (4, .int (nI j284))] → va_P D vwCl (wM cI q u284) H → mInv u284 → va_S (bA 7 q s.heap.size) s.heap H locs → ∀ X : Int64 × bU, L6_digest_284 j271 u284 n284 j284 x1_284 = X → (∀ (H : Heap) (locs : List Loc) (ls : Array Slot), lv_has ls 5 [(0, .ref (q 0)), (1, .long X.1), (3, .int (nI j271))] → va_P D vwCl (wM cI q X.2) H → mInv X.2 → (X.2 0 0 = (bput u 6 2 0) 0 0 ∧ X.2 0 1 = (bput u 6 2 0) 0 1) → va_S (bA 7 q s.heap.size) s.heap H locs → W p l e (headSpec wsX6_digest ({ frames := 5, cells := 0, slots := 0, locals := 119 })).room s m ([.ref (q 0)] : List Value).toArray below meth c H locs 0 0 (MQ below (bWl D (wM cI q) mInv (bA 7 q s.heap.size) tgt) ([.ref (q 0)] : List Value).toArray s 0 0 (bA 7 q s.heap.size)) (F0 m 317 ls [])) → W p l e (headSpec wsX6_digest ({ frames := 5, cells := 0, slots := 0, locals := 119 })).room s m ([.ref (q 0)] : List Value).toArray below meth c H locs 0 0 (MQ below (bWl D (wM cI q) mInv (bA 7 q s.heap.size) tgt) ([.ref (q 0)] : List Value).toArray s 0 0 (bA 7 q s.heap.size)) (F0 m 284 ls []) := by
          intro n284
          induction n284 with
          | zero => intro j284 x1_284 u284 H locs ls hj hn; exact absurd hn (by omega)
          | succ n284 ih =>
            intro j284 x1_284 u284 H locs ls hj hn hinv hl hP hI hS X hF kx
            refine lv_iload hx hb dX6_digest_284 (lv_at hl 3 rfl) ?_
            refine lv_aload_n hx hb dX6_digest_286 rfl (lv_at hl 0 rfl) ?_
            refine va_get (D := D) (ci := 6) (C := RX6) (T := TX6) (N := 16) hx hb hts iX6 hown hk.1 hP 0 (wM_0 _ _ _) rfl 0 (by decide) (hts (.fieldLink RX6 7 "BottleLoopModel" "v" "[I") (List.mem_of_getElem? (i := 4) rfl)) (fun _ h9 => h9) rfl dX6_digest_287 ?_
            refine lv_iconst (v := 0) hx hb dX6_digest_290 (by decide) ?_
            refine va_iald hx hb hk.1 hP 1 0 (wM_1 _ _ _) rfl (vp_in_nI (n := 0) (by decide) (by decide)) dX6_digest_291 ?_
            refine lv_topi (fun z9 hz9 => ?_)
            obtain rfl : z9 = (u284 0 0) := hz9.trans rfl
            refine lv_icmp_ge (tgt := 317) hx hb dX6_digest_292 (by decide) (fun c_23 => ?_) (fun c_23 => ?_)
            · obtain rfl : X = (x1_284, u284) := by rw [← hF, L6_digest_284, if_pos c_23]
              exact kx _ _ _ (lv_sub hl [0, 1, 2] rfl) hP hI hinv hS
            · have hlt_24 : j284 < ((bput u 6 2 0) 0 0).toNatClampNeg := by rw [← hinv.1]; exact bLtB c_23 (by omega)
              refine lv_ldc2 (v := 31) hx hb hown (hts (.constantLong RX6 205 (31)) (List.mem_of_getElem? (i := 3) rfl)) dX6_digest_295 ?_
              refine lv_lload_n hx hb dX6_digest_298 rfl (lv_at hl 1 rfl) ?_
              refine lv_lmul hx hb dX6_digest_299 ?_
              refine lv_aload_n hx hb dX6_digest_300 rfl (lv_at hl 0 rfl) ?_
              refine lv_iload_n hx hb dX6_digest_301 rfl (lv_at hl 2 rfl) ?_
              refine lv_iload hx hb dX6_digest_302 (lv_at hl 3 rfl) ?_
              refine lv_iconst (v := 1) hx hb dX6_digest_304 (by decide) ?_
              refine bcall_Wi (va_runV (As := [.int (nI j271), .int (nI j284), .int 1]) (rest := [.long (31 * x1_284)]) ⟨hx, hb, hml, hown, hts⟩ (C6_wouldCollect l D cI q _ _ hq hP hI (nI j271) (nI j284) 1 (mS_nI (by omega)) (mB_nI (by omega))) (cwV 3 hts gX6_digest_X6_wouldCollect rfl rfl rfl ⟨rfl, bd_X6wouldCollect⟩ ⟨Nat.le_of_ble_eq_true rfl, Nat.le_of_ble_eq_true rfl⟩) (bPV hk (va_recv hk.1 hP (ci := 6) (q0 := 0) rfl (wM_0 _ _ _))) rfl rfl hl.1 rfl (lv_room (Nat.le_of_ble_eq_true rfl)) dX6_digest_305 ⟨Nat.zero_le _, Nat.zero_le _⟩) hS (fun H locs hP hI_25 hS => ?_)
              refine lv_i2l (v := ((F6_wouldCollect u284 (nI j271) (nI j284) 1).1).toInt64) hx hb dX6_digest_308 rfl ?_
              refine lv_ladd hx hb dX6_digest_309 ?_
              refine lv_lstore_n (lv' := [(1, .long ((31 * x1_284) + (((F6_wouldCollect u284 (nI j271) (nI j284) 1).1).toInt64))), (0, .ref (q 0)), (3, .int (nI j271)), (4, .int (nI j284))]) hx hb dX6_digest_310 rfl hl (by decide) rfl (fun ls hl => ?_)
              refine lv_iinc (v := (nI (j284 + 1))) (lv' := [(4, .int (nI (j284 + 1))), (1, .long ((31 * x1_284) + (((F6_wouldCollect u284 (nI j271) (nI j284) 1).1).toInt64))), (0, .ref (q 0)), (3, .int (nI j271))]) hx hb dX6_digest_311 hl (k := 3) rfl (bInc j284) (by decide) rfl (fun ls hl => ?_)
              refine lv_goto (tgt := 284) hx hb dX6_digest_314 (by decide) ?_
              exact ih (j284 + 1) ((31 * x1_284) + (((F6_wouldCollect u284 (nI j271) (nI j284) 1).1).toInt64)) (F6_wouldCollect u284 (nI j271) (nI j284) 1).2 _ _ _ (by omega) (by omega) ⟨(wc_0 _ _ _ _ (by decide)).trans hinv.1, (wc_0 _ _ _ _ (by decide)).trans hinv.2⟩ (lv_sub hl [2, 1, 3, 0] rfl) hP hI_25 hS X (by rw [← hF, L6_digest_284, if_neg c_23]) kx
        refine loop284 (((bput u 6 2 0) 0 0).toNatClampNeg + 1) 0 x1_271 u271 _ _ _ (by omega) (by omega) hinv (lv_sub hl [1, 2, 3, 0] rfl) hP hI hS _ rfl (fun H locs ls hl hP hI hout hS => ?_)
        have hI_26 : mInv (L6_digest_284 j271 u271 (((bput u 6 2 0) 0 0).toNatClampNeg + 1) 0 x1_271).2 := hI
        have ho_27 := hout
        refine lv_iinc (v := (nI (j271 + 1))) (lv' := [(3, .int (nI (j271 + 1))), (0, .ref (q 0)), (1, .long (L6_digest_284 j271 u271 (((bput u 6 2 0) 0 0).toNatClampNeg + 1) 0 x1_271).1)]) hx hb dX6_digest_317 hl (k := 2) rfl (bInc j271) (by decide) rfl (fun ls hl => ?_)
        refine lv_goto (tgt := 271) hx hb dX6_digest_320 (by decide) ?_
        exact ih (j271 + 1) (L6_digest_284 j271 u271 (((bput u 6 2 0) 0 0).toNatClampNeg + 1) 0 x1_271).1 (L6_digest_284 j271 u271 (((bput u 6 2 0) 0 0).toNatClampNeg + 1) 0 x1_271).2 _ _ _ (by omega) (by omega) ho_27 (lv_sub hl [1, 2, 0] rfl) hP hI_26 hS X (by rw [← hF, L6_digest_271, if_neg c_21]) kx
  refine loop271 (((bput u 6 2 0) 0 1).toNatClampNeg + 1) 0 (L6_digest_245 u (3 + 1) 0 (L6_digest_168 u (((bput u 6 2 0) 0 1).toNatClampNeg + 1) 0 (L6_digest_69 u (((bput u 6 2 0) 0 0).toNatClampNeg + 1) 0 (L6_digest_38 u (6 + 1) 0 (L6_digest_11 u (11 + 1) 0 2411))))) (bput u 6 2 0) _ _ _ (by omega) (by omega) ⟨rfl, rfl⟩ (lv_sub hl [1, 2, 0] rfl) hP hI_1 hS _ rfl (fun H locs ls hl hP hI hS => ?_)
  have hI_28 : mInv (L6_digest_271 u (bput u 6 2 0) (((bput u 6 2 0) 0 1).toNatClampNeg + 1) 0 (L6_digest_245 u (3 + 1) 0 (L6_digest_168 u (((bput u 6 2 0) 0 1).toNatClampNeg + 1) 0 (L6_digest_69 u (((bput u 6 2 0) 0 0).toNatClampNeg + 1) 0 (L6_digest_38 u (6 + 1) 0 (L6_digest_11 u (11 + 1) 0 2411)))))).2 := hI
  refine lv_ldc2 (v := 31) hx hb hown (hts (.constantLong RX6 205 (31)) (List.mem_of_getElem? (i := 3) rfl)) dX6_digest_323 ?_
  refine lv_lload_n hx hb dX6_digest_326 rfl (lv_at hl 1 rfl) ?_
  refine lv_lmul hx hb dX6_digest_327 ?_
  refine lv_aload_n hx hb dX6_digest_328 rfl (lv_at hl 0 rfl) ?_
  refine bcall_Rd (va_runV (As := []) (rest := [.long (31 * (L6_digest_271 u (bput u 6 2 0) (((bput u 6 2 0) 0 1).toNatClampNeg + 1) 0 (L6_digest_245 u (3 + 1) 0 (L6_digest_168 u (((bput u 6 2 0) 0 1).toNatClampNeg + 1) 0 (L6_digest_69 u (((bput u 6 2 0) 0 0).toNatClampNeg + 1) 0 (L6_digest_38 u (6 + 1) 0 (L6_digest_11 u (11 + 1) 0 2411)))))).1)]) ⟨hx, hb, hml, hown, hts⟩ (C6_gone l D cI q _ _ hP hI_28  hg.1) (cwV 0 hts gX6_digest_X6_gone rfl rfl rfl ⟨rfl, bd_X6gone⟩ ⟨Nat.le_of_ble_eq_true rfl, Nat.le_of_ble_eq_true rfl⟩) (bPV hk (va_recv hk.1 hP (ci := 6) (q0 := 0) rfl (wM_0 _ _ _))) rfl rfl hl.1 rfl (lv_room (Nat.le_of_ble_eq_true rfl)) dX6_digest_329 ⟨Nat.zero_le _, Nat.zero_le _⟩) hS (fun locs hS => ?_)
  refine bcall_Rl (va_runS (As := [.double (F6_gone (L6_digest_271 u (bput u 6 2 0) (((bput u 6 2 0) 0 1).toNatClampNeg + 1) 0 (L6_digest_245 u (3 + 1) 0 (L6_digest_168 u (((bput u 6 2 0) 0 1).toNatClampNeg + 1) 0 (L6_digest_69 u (((bput u 6 2 0) 0 0).toNatClampNeg + 1) 0 (L6_digest_38 u (6 + 1) 0 (L6_digest_11 u (11 + 1) 0 2411)))))).2)]) (rest := [.long (31 * (L6_digest_271 u (bput u 6 2 0) (((bput u 6 2 0) 0 1).toNatClampNeg + 1) 0 (L6_digest_245 u (3 + 1) 0 (L6_digest_168 u (((bput u 6 2 0) 0 1).toNatClampNeg + 1) 0 (L6_digest_69 u (((bput u 6 2 0) 0 0).toNatClampNeg + 1) 0 (L6_digest_38 u (6 + 1) 0 (L6_digest_11 u (11 + 1) 0 2411)))))).1)]) ⟨hx, hb, hml, hown, hts⟩ (C6_dtlb l D cI _ _ hg.2) (va_cwS 1 hts gX6_digest_Jxe99ae_doubleToLongBits_ccdee rfl rfl rfl bd_Jdtlb ⟨Nat.le_of_ble_eq_true rfl, Nat.le_of_ble_eq_true rfl⟩) (bPS hk) rfl rfl hl.1 rfl (lv_room (Nat.le_of_ble_eq_true rfl)) dX6_digest_332 ⟨Nat.zero_le _, Nat.zero_le _⟩) hS (fun locs hS => ?_)
  refine lv_ladd hx hb dX6_digest_335 ?_
  refine lv_lstore_n (lv' := [(1, .long ((31 * (L6_digest_271 u (bput u 6 2 0) (((bput u 6 2 0) 0 1).toNatClampNeg + 1) 0 (L6_digest_245 u (3 + 1) 0 (L6_digest_168 u (((bput u 6 2 0) 0 1).toNatClampNeg + 1) 0 (L6_digest_69 u (((bput u 6 2 0) 0 0).toNatClampNeg + 1) 0 (L6_digest_38 u (6 + 1) 0 (L6_digest_11 u (11 + 1) 0 2411)))))).1) + ((F6_gone (L6_digest_271 u (bput u 6 2 0) (((bput u 6 2 0) 0 1).toNatClampNeg + 1) 0 (L6_digest_245 u (3 + 1) 0 (L6_digest_168 u (((bput u 6 2 0) 0 1).toNatClampNeg + 1) 0 (L6_digest_69 u (((bput u 6 2 0) 0 0).toNatClampNeg + 1) 0 (L6_digest_38 u (6 + 1) 0 (L6_digest_11 u (11 + 1) 0 2411)))))).2).toInt64))), (0, .ref (q 0))]) hx hb dX6_digest_336 rfl hl (by decide) rfl (fun ls hl => ?_)
  refine lv_ldc2 (v := 31) hx hb hown (hts (.constantLong RX6 205 (31)) (List.mem_of_getElem? (i := 3) rfl)) dX6_digest_337 ?_
  refine lv_lload_n hx hb dX6_digest_340 rfl (lv_at hl 0 rfl) ?_
  refine lv_lmul hx hb dX6_digest_341 ?_
  refine lv_aload_n hx hb dX6_digest_342 rfl (lv_at hl 1 rfl) ?_
  refine va_get (D := D) (ci := 6) (C := RX6) (T := TX6) (N := 16) hx hb hts iX6 hown hk.1 hP 0 (wM_0 _ _ _) rfl 5 (by decide) (hts (.fieldLink RX6 129 "BottleLoopModel" "length" "I") (List.mem_of_getElem? (i := 5) rfl)) (fun _ h9 => h9) rfl dX6_digest_343 ?_
  refine lv_i2l (v := (((L6_digest_271 u (bput u 6 2 0) (((bput u 6 2 0) 0 1).toNatClampNeg + 1) 0 (L6_digest_245 u (3 + 1) 0 (L6_digest_168 u (((bput u 6 2 0) 0 1).toNatClampNeg + 1) 0 (L6_digest_69 u (((bput u 6 2 0) 0 0).toNatClampNeg + 1) 0 (L6_digest_38 u (6 + 1) 0 (L6_digest_11 u (11 + 1) 0 2411)))))).2 6 1)).toInt64) hx hb dX6_digest_346 rfl ?_
  refine lv_ladd hx hb dX6_digest_347 ?_
  refine lv_lstore_n (lv' := [(1, .long ((31 * ((31 * (L6_digest_271 u (bput u 6 2 0) (((bput u 6 2 0) 0 1).toNatClampNeg + 1) 0 (L6_digest_245 u (3 + 1) 0 (L6_digest_168 u (((bput u 6 2 0) 0 1).toNatClampNeg + 1) 0 (L6_digest_69 u (((bput u 6 2 0) 0 0).toNatClampNeg + 1) 0 (L6_digest_38 u (6 + 1) 0 (L6_digest_11 u (11 + 1) 0 2411)))))).1) + ((F6_gone (L6_digest_271 u (bput u 6 2 0) (((bput u 6 2 0) 0 1).toNatClampNeg + 1) 0 (L6_digest_245 u (3 + 1) 0 (L6_digest_168 u (((bput u 6 2 0) 0 1).toNatClampNeg + 1) 0 (L6_digest_69 u (((bput u 6 2 0) 0 0).toNatClampNeg + 1) 0 (L6_digest_38 u (6 + 1) 0 (L6_digest_11 u (11 + 1) 0 2411)))))).2).toInt64))) + ((((L6_digest_271 u (bput u 6 2 0) (((bput u 6 2 0) 0 1).toNatClampNeg + 1) 0 (L6_digest_245 u (3 + 1) 0 (L6_digest_168 u (((bput u 6 2 0) 0 1).toNatClampNeg + 1) 0 (L6_digest_69 u (((bput u 6 2 0) 0 0).toNatClampNeg + 1) 0 (L6_digest_38 u (6 + 1) 0 (L6_digest_11 u (11 + 1) 0 2411)))))).2 6 1)).toInt64))), (0, .ref (q 0))]) hx hb dX6_digest_348 rfl hl (by decide) rfl (fun ls hl => ?_)
  refine lv_iconst (v := 0) hx hb dX6_digest_349 (by decide) ?_
  refine lv_istore_n (lv' := [(3, .int 0), (1, .long ((31 * ((31 * (L6_digest_271 u (bput u 6 2 0) (((bput u 6 2 0) 0 1).toNatClampNeg + 1) 0 (L6_digest_245 u (3 + 1) 0 (L6_digest_168 u (((bput u 6 2 0) 0 1).toNatClampNeg + 1) 0 (L6_digest_69 u (((bput u 6 2 0) 0 0).toNatClampNeg + 1) 0 (L6_digest_38 u (6 + 1) 0 (L6_digest_11 u (11 + 1) 0 2411)))))).1) + ((F6_gone (L6_digest_271 u (bput u 6 2 0) (((bput u 6 2 0) 0 1).toNatClampNeg + 1) 0 (L6_digest_245 u (3 + 1) 0 (L6_digest_168 u (((bput u 6 2 0) 0 1).toNatClampNeg + 1) 0 (L6_digest_69 u (((bput u 6 2 0) 0 0).toNatClampNeg + 1) 0 (L6_digest_38 u (6 + 1) 0 (L6_digest_11 u (11 + 1) 0 2411)))))).2).toInt64))) + ((((L6_digest_271 u (bput u 6 2 0) (((bput u 6 2 0) 0 1).toNatClampNeg + 1) 0 (L6_digest_245 u (3 + 1) 0 (L6_digest_168 u (((bput u 6 2 0) 0 1).toNatClampNeg + 1) 0 (L6_digest_69 u (((bput u 6 2 0) 0 0).toNatClampNeg + 1) 0 (L6_digest_38 u (6 + 1) 0 (L6_digest_11 u (11 + 1) 0 2411)))))).2 6 1)).toInt64))), (0, .ref (q 0))]) hx hb dX6_digest_350 rfl hl (by decide) rfl (fun ls hl => ?_)
  have hB351 := bClamp ((L6_digest_271 u (bput u 6 2 0) (((bput u 6 2 0) 0 1).toNatClampNeg + 1) 0 (L6_digest_245 u (3 + 1) 0 (L6_digest_168 u (((bput u 6 2 0) 0 1).toNatClampNeg + 1) 0 (L6_digest_69 u (((bput u 6 2 0) 0 0).toNatClampNeg + 1) 0 (L6_digest_38 u (6 + 1) 0 (L6_digest_11 u (11 + 1) 0 2411)))))).2 6 1)
  have hNL := mNL hI_28
  have loop351 : ∀ (n351 j351 : Nat) (x1_351 : Int64) (locs : List Loc) (ls : Array Slot), j351 ≤ ((L6_digest_271 u (bput u 6 2 0) (((bput u 6 2 0) 0 1).toNatClampNeg + 1) 0 (L6_digest_245 u (3 + 1) 0 (L6_digest_168 u (((bput u 6 2 0) 0 1).toNatClampNeg + 1) 0 (L6_digest_69 u (((bput u 6 2 0) 0 0).toNatClampNeg + 1) 0 (L6_digest_38 u (6 + 1) 0 (L6_digest_11 u (11 + 1) 0 2411)))))).2 6 1).toNatClampNeg → ((L6_digest_271 u (bput u 6 2 0) (((bput u 6 2 0) 0 1).toNatClampNeg + 1) 0 (L6_digest_245 u (3 + 1) 0 (L6_digest_168 u (((bput u 6 2 0) 0 1).toNatClampNeg + 1) 0 (L6_digest_69 u (((bput u 6 2 0) 0 0).toNatClampNeg + 1) 0 (L6_digest_38 u (6 + 1) 0 (L6_digest_11 u (11 + 1) 0 2411)))))).2 6 1).toNatClampNeg + 1 ≤ n351 + j351 → lv_has ls 5 [(0, .ref (q 0)), (1, .long x1_351), (3, .int (nI j351))] → va_S (bA 7 q s.heap.size) s.heap H locs → ∀ X : Int64, L6_digest_351 u  n351 j351 x1_351 = X → (∀ (locs : List Loc) (ls : Array Slot), lv_has ls 5 [(0, .ref (q 0)), (1, .long X)] → va_S (bA 7 q s.heap.size) s.heap H locs → W p l e (headSpec wsX6_digest ({ frames := 5, cells := 0, slots := 0, locals := 119 })).room s m ([.ref (q 0)] : List Value).toArray below meth c H locs 0 0 (MQ below (bWl D (wM cI q) mInv (bA 7 q s.heap.size) tgt) ([.ref (q 0)] : List Value).toArray s 0 0 (bA 7 q s.heap.size)) (F0 m 379 ls [])) → W p l e (headSpec wsX6_digest ({ frames := 5, cells := 0, slots := 0, locals := 119 })).room s m ([.ref (q 0)] : List Value).toArray below meth c H locs 0 0 (MQ below (bWl D (wM cI q) mInv (bA 7 q s.heap.size) tgt) ([.ref (q 0)] : List Value).toArray s 0 0 (bA 7 q s.heap.size)) (F0 m 351 ls []) := by
    intro n351
    induction n351 with
    | zero => intro j351 x1_351 locs ls hj hn; exact absurd hn (by omega)
    | succ n351 ih =>
      intro j351 x1_351 locs ls hj hn hl hS X hF kx
      refine lv_iload_n hx hb dX6_digest_351 rfl (lv_at hl 2 rfl) ?_
      refine lv_aload_n hx hb dX6_digest_352 rfl (lv_at hl 0 rfl) ?_
      refine va_get (D := D) (ci := 6) (C := RX6) (T := TX6) (N := 16) hx hb hts iX6 hown hk.1 hP 0 (wM_0 _ _ _) rfl 5 (by decide) (hts (.fieldLink RX6 129 "BottleLoopModel" "length" "I") (List.mem_of_getElem? (i := 5) rfl)) (fun _ h9 => h9) rfl dX6_digest_353 ?_
      refine lv_icmp_ge (tgt := 379) hx hb dX6_digest_356 (by decide) (fun c_29 => ?_) (fun c_29 => ?_)
      · obtain rfl : X = x1_351 := by rw [← hF, L6_digest_351, if_pos c_29]
        exact kx _ _ (lv_sub hl [0, 1] rfl) hS
      · have hlt_30 : j351 < ((L6_digest_271 u (bput u 6 2 0) (((bput u 6 2 0) 0 1).toNatClampNeg + 1) 0 (L6_digest_245 u (3 + 1) 0 (L6_digest_168 u (((bput u 6 2 0) 0 1).toNatClampNeg + 1) 0 (L6_digest_69 u (((bput u 6 2 0) 0 0).toNatClampNeg + 1) 0 (L6_digest_38 u (6 + 1) 0 (L6_digest_11 u (11 + 1) 0 2411)))))).2 6 1).toNatClampNeg := bLtB c_29 (by omega)
        refine lv_ldc2 (v := 31) hx hb hown (hts (.constantLong RX6 205 (31)) (List.mem_of_getElem? (i := 3) rfl)) dX6_digest_359 ?_
        refine lv_lload_n hx hb dX6_digest_362 rfl (lv_at hl 1 rfl) ?_
        refine lv_lmul hx hb dX6_digest_363 ?_
        refine lv_aload_n hx hb dX6_digest_364 rfl (lv_at hl 0 rfl) ?_
        refine va_get (D := D) (ci := 6) (C := RX6) (T := TX6) (N := 16) hx hb hts iX6 hown hk.1 hP 0 (wM_0 _ _ _) rfl 4 (by decide) (hts (.fieldLink RX6 19 "BottleLoopModel" "text" "[I") (List.mem_of_getElem? (i := 6) rfl)) (fun _ h9 => h9) rfl dX6_digest_365 ?_
        refine lv_iload_n hx hb dX6_digest_368 rfl (lv_at hl 2 rfl) ?_
        refine va_iald hx hb hk.1 hP 4 0 (wM_4 _ _ _) rfl (vp_in_nI (by omega) (by decide)) dX6_digest_369 ?_
        refine lv_topi (fun z9 hz9 => ?_)
        obtain rfl : z9 = ((L6_digest_271 u (bput u 6 2 0) (((bput u 6 2 0) 0 1).toNatClampNeg + 1) 0 (L6_digest_245 u (3 + 1) 0 (L6_digest_168 u (((bput u 6 2 0) 0 1).toNatClampNeg + 1) 0 (L6_digest_69 u (((bput u 6 2 0) 0 0).toNatClampNeg + 1) 0 (L6_digest_38 u (6 + 1) 0 (L6_digest_11 u (11 + 1) 0 2411)))))).2 3 j351) := hz9.trans (by rw [mC (j := j351) (by omega)])
        refine lv_i2l (v := (((L6_digest_271 u (bput u 6 2 0) (((bput u 6 2 0) 0 1).toNatClampNeg + 1) 0 (L6_digest_245 u (3 + 1) 0 (L6_digest_168 u (((bput u 6 2 0) 0 1).toNatClampNeg + 1) 0 (L6_digest_69 u (((bput u 6 2 0) 0 0).toNatClampNeg + 1) 0 (L6_digest_38 u (6 + 1) 0 (L6_digest_11 u (11 + 1) 0 2411)))))).2 3 j351)).toInt64) hx hb dX6_digest_370 rfl ?_
        refine lv_ladd hx hb dX6_digest_371 ?_
        refine lv_lstore_n (lv' := [(1, .long ((31 * x1_351) + ((((L6_digest_271 u (bput u 6 2 0) (((bput u 6 2 0) 0 1).toNatClampNeg + 1) 0 (L6_digest_245 u (3 + 1) 0 (L6_digest_168 u (((bput u 6 2 0) 0 1).toNatClampNeg + 1) 0 (L6_digest_69 u (((bput u 6 2 0) 0 0).toNatClampNeg + 1) 0 (L6_digest_38 u (6 + 1) 0 (L6_digest_11 u (11 + 1) 0 2411)))))).2 3 j351)).toInt64))), (0, .ref (q 0)), (3, .int (nI j351))]) hx hb dX6_digest_372 rfl hl (by decide) rfl (fun ls hl => ?_)
        refine lv_iinc (v := (nI (j351 + 1))) (lv' := [(3, .int (nI (j351 + 1))), (1, .long ((31 * x1_351) + ((((L6_digest_271 u (bput u 6 2 0) (((bput u 6 2 0) 0 1).toNatClampNeg + 1) 0 (L6_digest_245 u (3 + 1) 0 (L6_digest_168 u (((bput u 6 2 0) 0 1).toNatClampNeg + 1) 0 (L6_digest_69 u (((bput u 6 2 0) 0 0).toNatClampNeg + 1) 0 (L6_digest_38 u (6 + 1) 0 (L6_digest_11 u (11 + 1) 0 2411)))))).2 3 j351)).toInt64))), (0, .ref (q 0))]) hx hb dX6_digest_373 hl (k := 2) rfl (bInc j351) (by decide) rfl (fun ls hl => ?_)
        refine lv_goto (tgt := 351) hx hb dX6_digest_376 (by decide) ?_
        exact ih (j351 + 1) ((31 * x1_351) + ((((L6_digest_271 u (bput u 6 2 0) (((bput u 6 2 0) 0 1).toNatClampNeg + 1) 0 (L6_digest_245 u (3 + 1) 0 (L6_digest_168 u (((bput u 6 2 0) 0 1).toNatClampNeg + 1) 0 (L6_digest_69 u (((bput u 6 2 0) 0 0).toNatClampNeg + 1) 0 (L6_digest_38 u (6 + 1) 0 (L6_digest_11 u (11 + 1) 0 2411)))))).2 3 j351)).toInt64)) _ _ (by omega) (by omega) (lv_sub hl [2, 1, 0] rfl) hS X (by rw [← hF, L6_digest_351, if_neg c_29]) kx
  refine loop351 (((L6_digest_271 u (bput u 6 2 0) (((bput u 6 2 0) 0 1).toNatClampNeg + 1) 0 (L6_digest_245 u (3 + 1) 0 (L6_digest_168 u (((bput u 6 2 0) 0 1).toNatClampNeg + 1) 0 (L6_digest_69 u (((bput u 6 2 0) 0 0).toNatClampNeg + 1) 0 (L6_digest_38 u (6 + 1) 0 (L6_digest_11 u (11 + 1) 0 2411)))))).2 6 1).toNatClampNeg + 1) 0 ((31 * ((31 * (L6_digest_271 u (bput u 6 2 0) (((bput u 6 2 0) 0 1).toNatClampNeg + 1) 0 (L6_digest_245 u (3 + 1) 0 (L6_digest_168 u (((bput u 6 2 0) 0 1).toNatClampNeg + 1) 0 (L6_digest_69 u (((bput u 6 2 0) 0 0).toNatClampNeg + 1) 0 (L6_digest_38 u (6 + 1) 0 (L6_digest_11 u (11 + 1) 0 2411)))))).1) + ((F6_gone (L6_digest_271 u (bput u 6 2 0) (((bput u 6 2 0) 0 1).toNatClampNeg + 1) 0 (L6_digest_245 u (3 + 1) 0 (L6_digest_168 u (((bput u 6 2 0) 0 1).toNatClampNeg + 1) 0 (L6_digest_69 u (((bput u 6 2 0) 0 0).toNatClampNeg + 1) 0 (L6_digest_38 u (6 + 1) 0 (L6_digest_11 u (11 + 1) 0 2411)))))).2).toInt64))) + ((((L6_digest_271 u (bput u 6 2 0) (((bput u 6 2 0) 0 1).toNatClampNeg + 1) 0 (L6_digest_245 u (3 + 1) 0 (L6_digest_168 u (((bput u 6 2 0) 0 1).toNatClampNeg + 1) 0 (L6_digest_69 u (((bput u 6 2 0) 0 0).toNatClampNeg + 1) 0 (L6_digest_38 u (6 + 1) 0 (L6_digest_11 u (11 + 1) 0 2411)))))).2 6 1)).toInt64)) _ _ (by omega) (by omega) (lv_sub hl [2, 1, 0] rfl) hS _ rfl (fun locs ls hl hS => ?_)
  refine lv_lload_n hx hb dX6_digest_379 rfl (lv_at hl 1 rfl) ?_
  exact bret_Wl hx hb hr hP hI_28 hS hlocks dX6_digest_380 (by rw [← hF, F6_digest])

-- the law's own methods (part by program)
/-- what a state must have for the law's reads not to throw -/
def rdOK (u : bU) : Prop := ∃ n t : Nat, 1 ≤ n ∧ n ≤ 8 ∧ 1 ≤ t ∧ t ≤ 6 ∧ u 0 0 = nI n ∧ u 0 1 = nI t ∧ ∀ b : Nat, b < n → ∃ k : Nat, k < 3 ∧ u 0 (17 + 12 * b + 0) = nI k
theorem v_c0 (u : bU) : F5_count u 0 = u 0 0 := rfl
theorem v_c1 (u : bU) : F5_count u 1 = u 0 1 := rfl
theorem v_nb {u : bU} {n j : Nat} (e : u 0 0 = nI n) (hn : n ≤ 8) (h : j < n) : F5_needBrand u (nI j) = 0 := by
  have e1 : F2_ofAll u 0 = nI n := e
  have e2 : F5_isBrand u (nI j) = 1 := by
    unfold F5_isBrand
    rw [e1]
    rw [if_neg (nI_pos (by omega)), if_neg (nI_ge (by omega) (by omega))]
  unfold F5_needBrand
  rw [e2]
  decide
theorem v_ns {u : bU} {n j : Nat} (e : u 0 1 = nI n) (hn : n ≤ 6) (h : j < n) : F5_needShop u (nI j) = 0 := by
  have e1 : F2_ofAll u 1 = nI n := e
  have e2 : F5_isShop u (nI j) = 1 := by
    unfold F5_isShop
    rw [e1]
    rw [if_neg (nI_pos (by omega)), if_neg (nI_ge (by omega) (by omega))]
  unfold F5_needShop
  rw [e2]
  decide
theorem lt_n {x : Int32} {n j : Nat} (e : x = nI n) (hn : n ≤ 8) (h : j < x.toNatClampNeg) : j < n := by
  rw [e, mC (by omega)] at h
  exact h
theorem ok_nb {u : bU} (h : rdOK u) {j : Nat} (hj : j < (F5_count u 0).toNatClampNeg) : F5_needBrand u (nI j) = 0 := by
  obtain ⟨n, t, _, h2, _, _, e0, _, _⟩ := h
  exact v_nb e0 h2 (lt_n e0 h2 hj)
theorem ok_ns {u : bU} (h : rdOK u) {j : Nat} (hj : j < (F5_count u 1).toNatClampNeg) : F5_needShop u (nI j) = 0 := by
  obtain ⟨n, t, _, _, _, h4, _, e1, _⟩ := h
  exact v_ns e1 h4 (lt_n e1 (by omega) hj)
theorem ok_in {u : bU} (h : rdOK u) {j : Nat} (hj : j < (F5_count u 0).toNatClampNeg) : vp_in (nI j) 8 := by
  obtain ⟨n, t, _, h2, _, _, e0, _, _⟩ := h
  have := lt_n e0 h2 hj
  exact vp_in_nI (by omega) (by decide)
theorem ok_i10 {u : bU} (h : rdOK u) {j : Nat} (hj : j < (F5_count u 0).toNatClampNeg) : F5_needArgument (F5_isShopNumber (10 + (nI j))) = 0 := by
  obtain ⟨n, t, _, h2, _, _, e0, _, _⟩ := h
  have h3 := lt_n e0 h2 hj
  have : j = 0 ∨ j = 1 ∨ j = 2 ∨ j = 3 ∨ j = 4 ∨ j = 5 ∨ j = 6 ∨ j = 7 := by omega
  rcases this with rfl | rfl | rfl | rfl | rfl | rfl | rfl | rfl <;> decide
theorem ok_i20 {u : bU} (h : rdOK u) {j : Nat} (hj : j < (F5_count u 0).toNatClampNeg) : F5_needArgument (F5_isShopNumber (20 + (nI j))) = 0 := by
  obtain ⟨n, t, _, h2, _, _, e0, _, _⟩ := h
  have h3 := lt_n e0 h2 hj
  have : j = 0 ∨ j = 1 ∨ j = 2 ∨ j = 3 ∨ j = 4 ∨ j = 5 ∨ j = 6 ∨ j = 7 := by omega
  rcases this with rfl | rfl | rfl | rfl | rfl | rfl | rfl | rfl <;> decide
theorem ok_r11 {j : Nat} (hj : j < 12) : F5_needRange (nI j) 0 11 = 0 := by
  have : j = 0 ∨ j = 1 ∨ j = 2 ∨ j = 3 ∨ j = 4 ∨ j = 5 ∨ j = 6 ∨ j = 7 ∨ j = 8 ∨ j = 9 ∨ j = 10 ∨ j = 11 := by omega
  rcases this with rfl | rfl | rfl | rfl | rfl | rfl | rfl | rfl | rfl | rfl | rfl | rfl <;> decide
theorem v_kind (u : bU) {b : Nat} (h : b < 8) : F5_brand u (nI b) 0 = u 0 (17 + 12 * b + 0) := c_br u (w := 0) (by omega)
theorem v_set3 {x : Int32} {k : Nat} (h : k < 3) (e : x = nI k) : F5_needSetting x = 0 := by
  subst e
  have : k = 0 ∨ k = 1 ∨ k = 2 := by omega
  rcases this with rfl | rfl | rfl <;> decide
theorem ok_set {u : bU} (h : rdOK u) {j : Nat} (hj : j < (F5_count u 0).toNatClampNeg) : F5_needSetting (F5_brand u (nI j) 0) = 0 := by
  obtain ⟨n, t, _, h2, _, _, e0, _, hk⟩ := h
  have h3 := lt_n e0 h2 hj
  obtain ⟨k, k1, k2⟩ := hk j h3
  exact v_set3 k1 ((v_kind u (by omega)).trans k2)
theorem nz_n {x : Int32} {n : Nat} (h1 : 1 ≤ n) (h2 : n ≤ 8) (e : x = nI n) : ¬ x = 0 := by
  intro q
  have := (nI_eq (a := n) (b := 0) (by omega) (by omega)).mp (e.symm.trans q)
  omega
theorem ok_c0 {u : bU} (h : rdOK u) : ¬ F5_count u 0 = 0 := by
  obtain ⟨n, t, h1, h2, _, _, e0, _, _⟩ := h
  exact nz_n h1 h2 e0
theorem ok_c1 {u : bU} (h : rdOK u) : ¬ F5_count u 1 = 0 := by
  obtain ⟨n, t, _, _, h3, h4, _, e1, _⟩ := h
  exact nz_n h3 (by omega) e1
theorem bd_X5brand : yX5_brand.cls ≠ "java/lang/invoke/MethodHandle" ∧ yX5_brand.cls ≠ "java/lang/invoke/VarHandle" ∧ (parseMethodDescriptor yX5_brand.desc).map (fun d => d.parameters.length) = some 2 := by decide +kernel
theorem bd_X5count : yX5_count.cls ≠ "java/lang/invoke/MethodHandle" ∧ yX5_count.cls ≠ "java/lang/invoke/VarHandle" ∧ (parseMethodDescriptor yX5_count.desc).map (fun d => d.parameters.length) = some 1 := by decide +kernel
theorem bd_X5setting : yX5_setting.cls ≠ "java/lang/invoke/MethodHandle" ∧ yX5_setting.cls ≠ "java/lang/invoke/VarHandle" ∧ (parseMethodDescriptor yX5_setting.desc).map (fun d => d.parameters.length) = some 1 := by decide +kernel
theorem bd_X5shop : yX5_shop.cls ≠ "java/lang/invoke/MethodHandle" ∧ yX5_shop.cls ≠ "java/lang/invoke/VarHandle" ∧ (parseMethodDescriptor yX5_shop.desc).map (fun d => d.parameters.length) = some 2 := by decide +kernel
def LL_brands_37 (u : bU) (j10 : Nat) : Nat → Nat → Int32 → Int32 → Int32 × Int32
  | 0, _, x4_37, x6_37 => (x4_37, x6_37)
  | n37 + 1, j37, x4_37, x6_37 => (if (10 : Int32) ≤ (nI j37) then (x4_37, x6_37) else (if x4_37 = 0 then (LL_brands_37 u j10 n37 (j37 + 1) 0 (x6_37 + (F5_brand u (nI j10) (nI j37)))) else (if (F5_brand u (nI j10) (nI j37)) < 0 then (LL_brands_37 u j10 n37 (j37 + 1) 0 (x6_37 + (F5_brand u (nI j10) (nI j37)))) else (LL_brands_37 u j10 n37 (j37 + 1) 1 (x6_37 + (F5_brand u (nI j10) (nI j37)))))))
def LL_brands_89 (u : bU) (j10 : Nat) : Nat → Nat → Int32 → Int32 → Int32 → Int32 × Int32 × Int32
  | 0, _, x4_89, x7_89, x8_89 => (x4_89, x7_89, x8_89)
  | n89 + 1, j89, x4_89, x7_89, x8_89 => (if (F5_count u 1) ≤ (nI j89) then (x4_89, x7_89, x8_89) else (if x4_89 = 0 then (LL_brands_89 u j10 n89 (j89 + 1) 0 (x7_89 + (F5_shop u (nI j89) (10 + (nI j10)))) (x8_89 + (F5_shop u (nI j89) (20 + (nI j10))))) else (if (F5_shop u (nI j89) (10 + (nI j10))) < 0 then (LL_brands_89 u j10 n89 (j89 + 1) 0 (x7_89 + (F5_shop u (nI j89) (10 + (nI j10)))) (x8_89 + (F5_shop u (nI j89) (20 + (nI j10))))) else (if (F5_shop u (nI j89) (20 + (nI j10))) < 0 then (LL_brands_89 u j10 n89 (j89 + 1) 0 (x7_89 + (F5_shop u (nI j89) (10 + (nI j10)))) (x8_89 + (F5_shop u (nI j89) (20 + (nI j10))))) else (LL_brands_89 u j10 n89 (j89 + 1) 1 (x7_89 + (F5_shop u (nI j89) (10 + (nI j10)))) (x8_89 + (F5_shop u (nI j89) (20 + (nI j10)))))))))
def LL_brands_10 (u : bU) (fb : Nat → Int32) : Nat → Nat → Int32 → Int32 → Int32 → Int32 × Int32 × Int32
  | 0, _, x2_10, x3_10, x4_10 => (x2_10, x3_10, x4_10)
  | n10 + 1, j10, x2_10, x3_10, x4_10 => (if (F5_count u 0) ≤ (nI j10) then (x2_10, x3_10, x4_10) else (if x4_10 = 0 then (x2_10, x3_10, x4_10) else (if (LL_brands_89 u j10 ((F5_count u 1).toNatClampNeg + 1) 0 (LL_brands_37 u j10 (10 + 1) 1 x4_10 0).1 0 0).1 = 0 then (LL_brands_10 u fb n10 (j10 + 1) (x2_10 + (F5_brand u (nI j10) 5)) (x3_10 + (F5_brand u (nI j10) 6)) 0) else (if ((LL_brands_37 u j10 (10 + 1) 1 x4_10 0).2 + (F5_brand u (nI j10) 11)) = (fb (nI j10).toNatClampNeg) then (if (LL_brands_89 u j10 ((F5_count u 1).toNatClampNeg + 1) 0 (LL_brands_37 u j10 (10 + 1) 1 x4_10 0).1 0 0).2.1 = (F5_brand u (nI j10) 3) then (if (LL_brands_89 u j10 ((F5_count u 1).toNatClampNeg + 1) 0 (LL_brands_37 u j10 (10 + 1) 1 x4_10 0).1 0 0).2.2 = (F5_brand u (nI j10) 4) then (if (F5_brand u (nI j10) 10) < (F5_brand u (nI j10) 9) then (LL_brands_10 u fb n10 (j10 + 1) (x2_10 + (F5_brand u (nI j10) 5)) (x3_10 + (F5_brand u (nI j10) 6)) 0) else (LL_brands_10 u fb n10 (j10 + 1) (x2_10 + (F5_brand u (nI j10) 5)) (x3_10 + (F5_brand u (nI j10) 6)) 1)) else (LL_brands_10 u fb n10 (j10 + 1) (x2_10 + (F5_brand u (nI j10) 5)) (x3_10 + (F5_brand u (nI j10) 6)) 0)) else (LL_brands_10 u fb n10 (j10 + 1) (x2_10 + (F5_brand u (nI j10) 5)) (x3_10 + (F5_brand u (nI j10) 6)) 0)) else (LL_brands_10 u fb n10 (j10 + 1) (x2_10 + (F5_brand u (nI j10) 5)) (x3_10 + (F5_brand u (nI j10) 6)) 0)))))
def FL_brands (u : bU) (fb : Nat → Int32) : Int32 := (if (LL_brands_10 u fb ((F5_count u 0).toNatClampNeg + 1) 0 0 0 1).2.2 = 0 then 0 else (if (LL_brands_10 u fb ((F5_count u 0).toNatClampNeg + 1) 0 0 0 1).1 = (F5_count u 7) then (if (LL_brands_10 u fb ((F5_count u 0).toNatClampNeg + 1) 0 0 0 1).2.1 = (F5_count u 8) then 1 else 0) else 0))
set_option maxHeartbeats 4000000 in
set_option maxRecDepth 100000 in
theorem CL_brands (l : Launch) (D : va_G) (cI cO : ClassId) (q : Nat → Nat) (u : bU) (H0 : Heap) (hP : va_P D vwCl (wC cI cO q u) H0) (qb : Nat) (fb : Nat → Int32) (hB : va_P D vwCl [(qb, .inl (cI, 8, .inl fb))] H0) (hok : rdOK u) : Met l yL_brands wsL_brands ({ frames := 5, cells := 0, slots := 0, locals := 111 }) (bP D [(cI, .int), (cO, .object RX2)] H0 [.ref (q 0), .ref qb]) (bRi H0 (FL_brands u fb)) 0 0 (fun _ => False) := by
  refine Met.ofW (cc := cL_brands) (maxL := 10) (ret := (some .boolean)) (by decide) rfl ?_
  intro p e s m args below meth c s₁ B hml hv
  obtain ⟨rfl, hH, hk⟩ := hv
  subst hH
  have hx := B.exec
  have hb := B.bytes
  have hr := B.returns
  have hts := atoms_spec (ws := wsL_brands) B.pre
  have hown : s.vm.findClass RL = some m.cls := findClass_of_methodNamed B.named
  have hlocks := B.notSynchronized
  have hS : va_S (fun _ => False) s.heap s.heap [] := va_S.rf
  have hl := lv_entry ([.ref (q 0), .ref qb]) (n := 10) (Nat.le_of_ble_eq_true rfl)
  rw [lg_entry_eq]
  generalize (lg_sl ([.ref (q 0), .ref qb]) ++ List.replicate (10 - (lg_sl ([.ref (q 0), .ref qb])).length) Slot.unset).toArray = ls at hl ⊢
  have hl : lv_has ls 10 [(0, .ref (q 0)), (1, .ref qb)] := hl
  generalize hF : FL_brands u fb = tgt
  refine lv_iconst (v := 0) hx hb dL_brands_0 (by decide) ?_
  refine lv_istore_n (lv' := [(2, .int 0), (0, .ref (q 0)), (1, .ref qb)]) hx hb dL_brands_1 rfl hl (by decide) rfl (fun ls hl => ?_)
  refine lv_iconst (v := 0) hx hb dL_brands_2 (by decide) ?_
  refine lv_istore_n (lv' := [(3, .int 0), (2, .int 0), (0, .ref (q 0)), (1, .ref qb)]) hx hb dL_brands_3 rfl hl (by decide) rfl (fun ls hl => ?_)
  refine lv_iconst (v := 1) hx hb dL_brands_4 (by decide) ?_
  refine lv_istore (lv' := [(4, .int 1), (3, .int 0), (2, .int 0), (0, .ref (q 0)), (1, .ref qb)]) hx hb dL_brands_5 hl (by decide) rfl (fun ls hl => ?_)
  refine lv_iconst (v := 0) hx hb dL_brands_7 (by decide) ?_
  refine lv_istore (lv' := [(5, .int 0), (4, .int 1), (3, .int 0), (2, .int 0), (0, .ref (q 0)), (1, .ref qb)]) hx hb dL_brands_8 hl (by decide) rfl (fun ls hl => ?_)
  have hB10 := bClamp (F5_count u 0)
  have loop10 : ∀ (n10 j10 : Nat) (x2_10 : Int32) (x3_10 : Int32) (x4_10 : Int32) (locs : List Loc) (ls : Array Slot), j10 ≤ (F5_count u 0).toNatClampNeg → (F5_count u 0).toNatClampNeg + 1 ≤ n10 + j10 → lv_has ls 10 [(0, .ref (q 0)), (1, .ref qb), (2, .int x2_10), (3, .int x3_10), (4, .int x4_10), (5, .int (nI j10))] → va_S (fun _ => False) s.heap s.heap locs → ∀ X : Int32 × Int32 × Int32, LL_brands_10 u fb  n10 j10 x2_10 x3_10 x4_10 = X → (∀ (locs : List Loc) (ls : Array Slot), lv_has ls 10 [(0, .ref (q 0)), (1, .ref qb), (2, .int X.1), (3, .int X.2.1), (4, .int X.2.2)] → va_S (fun _ => False) s.heap s.heap locs → W p l e (headSpec wsL_brands ({ frames := 5, cells := 0, slots := 0, locals := 111 })).room s m ([.ref (q 0), .ref qb] : List Value).toArray below meth c s.heap locs 0 0 (MQ below (bRi s.heap tgt) ([.ref (q 0), .ref qb] : List Value).toArray s 0 0 (fun _ => False)) (F0 m 277 ls [])) → W p l e (headSpec wsL_brands ({ frames := 5, cells := 0, slots := 0, locals := 111 })).room s m ([.ref (q 0), .ref qb] : List Value).toArray below meth c s.heap locs 0 0 (MQ below (bRi s.heap tgt) ([.ref (q 0), .ref qb] : List Value).toArray s 0 0 (fun _ => False)) (F0 m 10 ls []) := by
    intro n10
    induction n10 with
    | zero => intro j10 x2_10 x3_10 x4_10 locs ls hj hn; exact absurd hn (by omega)
    | succ n10 ih =>
      intro j10 x2_10 x3_10 x4_10 locs ls hj hn hl hS X hF kx
      refine lv_iload hx hb dL_brands_10 (lv_at hl 5 rfl) ?_
      refine lv_aload_n hx hb dL_brands_12 rfl (lv_at hl 0 rfl) ?_
      refine lv_iconst (v := 0) hx hb dL_brands_13 (by decide) ?_
      refine bcall_Ri (va_runV (As := [.int 0]) (rest := [.int (nI j10)]) ⟨hx, hb, hml, hown, hts⟩ (C5_count l D cI cO q _ _ hP 0 (by decide)) (cwV 1 hts gL_brands_X5_count rfl rfl rfl ⟨rfl, bd_X5count⟩ ⟨Nat.le_of_ble_eq_true rfl, Nat.le_of_ble_eq_true rfl⟩) (bPV hk (va_recv hk.1 hP (ci := 5) (q0 := 0) rfl (wC_0 _ _ _ _))) rfl rfl hl.1 rfl (lv_room (Nat.le_of_ble_eq_true rfl)) dL_brands_14 ⟨Nat.zero_le _, Nat.zero_le _⟩) hS (fun locs hS => ?_)
      refine lv_icmp_ge (tgt := 277) hx hb dL_brands_17 (by decide) (fun c_1 => ?_) (fun c_1 => ?_)
      · obtain rfl : X = (x2_10, x3_10, x4_10) := by rw [← hF, LL_brands_10, if_pos c_1]
        exact kx _ _ (lv_sub hl [0, 1, 2, 3, 4] rfl) hS
      · have hlt_2 : j10 < (F5_count u 0).toNatClampNeg := bLtB c_1 (by omega)
        refine lv_iload hx hb dL_brands_20 (lv_at hl 4 rfl) ?_
        refine lv_if_eq (tgt := 277) hx hb dL_brands_22 (by decide) (fun c_3 => ?_) (fun c_3 => ?_)
        · obtain rfl : X = (x2_10, x3_10, x4_10) := by rw [← hF, LL_brands_10, if_neg c_1, if_pos c_3]
          exact kx _ _ (lv_sub hl [0, 1, 2, 3, 4] rfl) hS
        · refine lv_iconst (v := 0) hx hb dL_brands_25 (by decide) ?_
          refine lv_istore (lv' := [(6, .int 0), (0, .ref (q 0)), (1, .ref qb), (2, .int x2_10), (3, .int x3_10), (4, .int x4_10), (5, .int (nI j10))]) hx hb dL_brands_26 hl (by decide) rfl (fun ls hl => ?_)
          refine lv_iconst (v := 0) hx hb dL_brands_28 (by decide) ?_
          refine lv_istore (lv' := [(7, .int 0), (6, .int 0), (0, .ref (q 0)), (1, .ref qb), (2, .int x2_10), (3, .int x3_10), (4, .int x4_10), (5, .int (nI j10))]) hx hb dL_brands_29 hl (by decide) rfl (fun ls hl => ?_)
          refine lv_iconst (v := 0) hx hb dL_brands_31 (by decide) ?_
          refine lv_istore (lv' := [(8, .int 0), (7, .int 0), (6, .int 0), (0, .ref (q 0)), (1, .ref qb), (2, .int x2_10), (3, .int x3_10), (4, .int x4_10), (5, .int (nI j10))]) hx hb dL_brands_32 hl (by decide) rfl (fun ls hl => ?_)
          refine lv_iconst (v := 1) hx hb dL_brands_34 (by decide) ?_
          refine lv_istore (lv' := [(9, .int 1), (8, .int 0), (7, .int 0), (6, .int 0), (0, .ref (q 0)), (1, .ref qb), (2, .int x2_10), (3, .int x3_10), (4, .int x4_10), (5, .int (nI j10))]) hx hb dL_brands_35 hl (by decide) rfl (fun ls hl => ?_)
          have loop37 : ∀ (n37 j37 : Nat) (x4_37 : Int32) (x6_37 : Int32) (locs : List Loc) (ls : Array Slot), j37 ≤ 10 → 10 + 1 ≤ n37 + j37 → lv_has ls 10 [(0, .ref (q 0)), (1, .ref qb), (2, .int x2_10), (3, .int x3_10), (4, .int x4_37), (5, .int (nI j10)), (6, .int x6_37), (7, .int 0), (8, .int 0), (9, .int (nI j37))] → va_S (fun _ => False) s.heap s.heap locs → ∀ X : Int32 × Int32, LL_brands_37 u j10  n37 j37 x4_37 x6_37 = X → (∀ (locs : List Loc) (ls : Array Slot), lv_has ls 10 [(0, .ref (q 0)), (1, .ref qb), (2, .int x2_10), (3, .int x3_10), (4, .int X.1), (5, .int (nI j10)), (6, .int X.2), (7, .int 0), (8, .int 0)] → va_S (fun _ => False) s.heap s.heap locs → W p l e (headSpec wsL_brands ({ frames := 5, cells := 0, slots := 0, locals := 111 })).room s m ([.ref (q 0), .ref qb] : List Value).toArray below meth c s.heap locs 0 0 (MQ below (bRi s.heap tgt) ([.ref (q 0), .ref qb] : List Value).toArray s 0 0 (fun _ => False)) (F0 m 86 ls [])) → W p l e (headSpec wsL_brands ({ frames := 5, cells := 0, slots := 0, locals := 111 })).room s m ([.ref (q 0), .ref qb] : List Value).toArray below meth c s.heap locs 0 0 (MQ below (bRi s.heap tgt) ([.ref (q 0), .ref qb] : List Value).toArray s 0 0 (fun _ => False)) (F0 m 37 ls []) := by
            intro n37
            induction n37 with
            | zero => intro j37 x4_37 x6_37 locs ls hj hn; exact absurd hn (by omega)
            | succ n37 ih =>
              intro j37 x4_37 x6_37 locs ls hj hn hl hS X hF kx
              refine lv_iload hx hb dL_brands_37 (lv_at hl 9 rfl) ?_
              refine lv_bipush (v := 10) hx hb dL_brands_39 (by decide) ?_
              refine lv_icmp_ge (tgt := 86) hx hb dL_brands_41 (by decide) (fun c_4 => ?_) (fun c_4 => ?_)
              · obtain rfl : X = (x4_37, x6_37) := by rw [← hF, LL_brands_37, if_pos c_4]
                exact kx _ _ (lv_sub hl [0, 1, 2, 3, 4, 5, 6, 7, 8] rfl) hS
              · have hlt_5 : j37 < 10 := bLt c_4 (by omega) (by decide)
                refine lv_iload hx hb dL_brands_44 (lv_at hl 6 rfl) ?_
                refine lv_aload_n hx hb dL_brands_46 rfl (lv_at hl 0 rfl) ?_
                refine lv_iload hx hb dL_brands_47 (lv_at hl 5 rfl) ?_
                refine lv_iload hx hb dL_brands_49 (lv_at hl 9 rfl) ?_
                refine bcall_Ri (va_runV (As := [.int (nI j10), .int (nI j37)]) (rest := [.int x6_37]) ⟨hx, hb, hml, hown, hts⟩ (C5_brand l D cI cO q _ _ hP (nI j10) (nI j37) (ok_nb hok hlt_2) (ok_r11 (by omega))) (cwV 2 hts gL_brands_X5_brand rfl rfl rfl ⟨rfl, bd_X5brand⟩ ⟨Nat.le_of_ble_eq_true rfl, Nat.le_of_ble_eq_true rfl⟩) (bPV hk (va_recv hk.1 hP (ci := 5) (q0 := 0) rfl (wC_0 _ _ _ _))) rfl rfl hl.1 rfl (lv_room (Nat.le_of_ble_eq_true rfl)) dL_brands_51 ⟨Nat.zero_le _, Nat.zero_le _⟩) hS (fun locs hS => ?_)
                refine lv_iadd hx hb dL_brands_54 ?_
                refine lv_istore (lv' := [(6, .int (x6_37 + (F5_brand u (nI j10) (nI j37)))), (0, .ref (q 0)), (1, .ref qb), (2, .int x2_10), (3, .int x3_10), (4, .int x4_37), (5, .int (nI j10)), (7, .int 0), (8, .int 0), (9, .int (nI j37))]) hx hb dL_brands_55 hl (by decide) rfl (fun ls hl => ?_)
                refine lv_iload hx hb dL_brands_57 (lv_at hl 5 rfl) ?_
                refine lv_if_eq (tgt := 77) hx hb dL_brands_59 (by decide) (fun c_6 => ?_) (fun c_6 => ?_)
                · refine lv_iconst (v := 0) hx hb dL_brands_77 (by decide) ?_
                  refine lv_istore (lv' := [(4, .int 0), (6, .int (x6_37 + (F5_brand u (nI j10) (nI j37)))), (0, .ref (q 0)), (1, .ref qb), (2, .int x2_10), (3, .int x3_10), (5, .int (nI j10)), (7, .int 0), (8, .int 0), (9, .int (nI j37))]) hx hb dL_brands_78 hl (by decide) rfl (fun ls hl => ?_)
                  refine lv_iinc (v := (nI (j37 + 1))) (lv' := [(9, .int (nI (j37 + 1))), (4, .int 0), (6, .int (x6_37 + (F5_brand u (nI j10) (nI j37)))), (0, .ref (q 0)), (1, .ref qb), (2, .int x2_10), (3, .int x3_10), (5, .int (nI j10)), (7, .int 0), (8, .int 0)]) hx hb dL_brands_80 hl (k := 9) rfl (bInc j37) (by decide) rfl (fun ls hl => ?_)
                  refine lv_goto (tgt := 37) hx hb dL_brands_83 (by decide) ?_
                  exact ih (j37 + 1) 0 (x6_37 + (F5_brand u (nI j10) (nI j37))) _ _ (by omega) (by omega) (lv_sub hl [3, 4, 5, 6, 1, 7, 2, 8, 9, 0] rfl) hS X (by rw [← hF, LL_brands_37, if_neg c_4, if_pos c_6]) kx
                · refine lv_aload_n hx hb dL_brands_62 rfl (lv_at hl 1 rfl) ?_
                  refine lv_iload hx hb dL_brands_63 (lv_at hl 6 rfl) ?_
                  refine lv_iload hx hb dL_brands_65 (lv_at hl 9 rfl) ?_
                  refine bcall_Ri (va_runV (As := [.int (nI j10), .int (nI j37)]) (rest := []) ⟨hx, hb, hml, hown, hts⟩ (C5_brand l D cI cO q _ _ hP (nI j10) (nI j37) (ok_nb hok hlt_2) (ok_r11 (by omega))) (cwV 2 hts gL_brands_X5_brand rfl rfl rfl ⟨rfl, bd_X5brand⟩ ⟨Nat.le_of_ble_eq_true rfl, Nat.le_of_ble_eq_true rfl⟩) (bPV hk (va_recv hk.1 hP (ci := 5) (q0 := 0) rfl (wC_0 _ _ _ _))) rfl rfl hl.1 rfl (lv_room (Nat.le_of_ble_eq_true rfl)) dL_brands_67 ⟨Nat.zero_le _, Nat.zero_le _⟩) hS (fun locs hS => ?_)
                  refine lv_if_lt (tgt := 77) hx hb dL_brands_70 (by decide) (fun c_7 => ?_) (fun c_7 => ?_)
                  · refine lv_iconst (v := 0) hx hb dL_brands_77 (by decide) ?_
                    refine lv_istore (lv' := [(4, .int 0), (6, .int (x6_37 + (F5_brand u (nI j10) (nI j37)))), (0, .ref (q 0)), (1, .ref qb), (2, .int x2_10), (3, .int x3_10), (5, .int (nI j10)), (7, .int 0), (8, .int 0), (9, .int (nI j37))]) hx hb dL_brands_78 hl (by decide) rfl (fun ls hl => ?_)
                    refine lv_iinc (v := (nI (j37 + 1))) (lv' := [(9, .int (nI (j37 + 1))), (4, .int 0), (6, .int (x6_37 + (F5_brand u (nI j10) (nI j37)))), (0, .ref (q 0)), (1, .ref qb), (2, .int x2_10), (3, .int x3_10), (5, .int (nI j10)), (7, .int 0), (8, .int 0)]) hx hb dL_brands_80 hl (k := 9) rfl (bInc j37) (by decide) rfl (fun ls hl => ?_)
                    refine lv_goto (tgt := 37) hx hb dL_brands_83 (by decide) ?_
                    exact ih (j37 + 1) 0 (x6_37 + (F5_brand u (nI j10) (nI j37))) _ _ (by omega) (by omega) (lv_sub hl [3, 4, 5, 6, 1, 7, 2, 8, 9, 0] rfl) hS X (by rw [← hF, LL_brands_37, if_neg c_4, if_neg c_6, if_pos c_7]) kx
                  · refine lv_iconst (v := 1) hx hb dL_brands_73 (by decide) ?_
                    refine lv_goto (tgt := 78) hx hb dL_brands_74 (by decide) ?_
                    refine lv_istore (lv' := [(4, .int 1), (6, .int (x6_37 + (F5_brand u (nI j10) (nI j37)))), (0, .ref (q 0)), (1, .ref qb), (2, .int x2_10), (3, .int x3_10), (5, .int (nI j10)), (7, .int 0), (8, .int 0), (9, .int (nI j37))]) hx hb dL_brands_78 hl (by decide) rfl (fun ls hl => ?_)
                    refine lv_iinc (v := (nI (j37 + 1))) (lv' := [(9, .int (nI (j37 + 1))), (4, .int 1), (6, .int (x6_37 + (F5_brand u (nI j10) (nI j37)))), (0, .ref (q 0)), (1, .ref qb), (2, .int x2_10), (3, .int x3_10), (5, .int (nI j10)), (7, .int 0), (8, .int 0)]) hx hb dL_brands_80 hl (k := 9) rfl (bInc j37) (by decide) rfl (fun ls hl => ?_)
                    refine lv_goto (tgt := 37) hx hb dL_brands_83 (by decide) ?_
                    exact ih (j37 + 1) 1 (x6_37 + (F5_brand u (nI j10) (nI j37))) _ _ (by omega) (by omega) (lv_sub hl [3, 4, 5, 6, 1, 7, 2, 8, 9, 0] rfl) hS X (by rw [← hF, LL_brands_37, if_neg c_4, if_neg c_6, if_neg c_7]) kx
          refine loop37 (10 + 1) 1 x4_10 0 _ _ (by omega) (by omega) (lv_sub hl [4, 5, 6, 7, 8, 9, 3, 2, 1, 0] rfl) hS _ rfl (fun locs ls hl hS => ?_)
          refine lv_iconst (v := 0) hx hb dL_brands_86 (by decide) ?_
          refine lv_istore (lv' := [(9, .int 0), (0, .ref (q 0)), (1, .ref qb), (2, .int x2_10), (3, .int x3_10), (4, .int (LL_brands_37 u j10 (10 + 1) 1 x4_10 0).1), (5, .int (nI j10)), (6, .int (LL_brands_37 u j10 (10 + 1) 1 x4_10 0).2), (7, .int 0), (8, .int 0)]) hx hb dL_brands_87 hl (by decide) rfl (fun ls hl => ?_)
          have hB89 := bClamp (F5_count u 1)
          have loop89 : ∀ (n89 j89 : Nat) (x4_89 : Int32) (x7_89 : Int32) (x8_89 : Int32) (locs : List Loc) (ls : Array Slot), j89 ≤ (F5_count u 1).toNatClampNeg → (F5_count u 1).toNatClampNeg + 1 ≤ n89 + j89 → lv_has ls 10 [(0, .ref (q 0)), (1, .ref qb), (2, .int x2_10), (3, .int x3_10), (4, .int x4_89), (5, .int (nI j10)), (6, .int (LL_brands_37 u j10 (10 + 1) 1 x4_10 0).2), (7, .int x7_89), (8, .int x8_89), (9, .int (nI j89))] → va_S (fun _ => False) s.heap s.heap locs → ∀ X : Int32 × Int32 × Int32, LL_brands_89 u j10  n89 j89 x4_89 x7_89 x8_89 = X → (∀ (locs : List Loc) (ls : Array Slot), lv_has ls 10 [(0, .ref (q 0)), (1, .ref qb), (2, .int x2_10), (3, .int x3_10), (4, .int X.1), (5, .int (nI j10)), (6, .int (LL_brands_37 u j10 (10 + 1) 1 x4_10 0).2), (7, .int X.2.1), (8, .int X.2.2)] → va_S (fun _ => False) s.heap s.heap locs → W p l e (headSpec wsL_brands ({ frames := 5, cells := 0, slots := 0, locals := 111 })).room s m ([.ref (q 0), .ref qb] : List Value).toArray below meth c s.heap locs 0 0 (MQ below (bRi s.heap tgt) ([.ref (q 0), .ref qb] : List Value).toArray s 0 0 (fun _ => False)) (F0 m 177 ls [])) → W p l e (headSpec wsL_brands ({ frames := 5, cells := 0, slots := 0, locals := 111 })).room s m ([.ref (q 0), .ref qb] : List Value).toArray below meth c s.heap locs 0 0 (MQ below (bRi s.heap tgt) ([.ref (q 0), .ref qb] : List Value).toArray s 0 0 (fun _ => False)) (F0 m 89 ls []) := by
            intro n89
            induction n89 with
            | zero => intro j89 x4_89 x7_89 x8_89 locs ls hj hn; exact absurd hn (by omega)
            | succ n89 ih =>
              intro j89 x4_89 x7_89 x8_89 locs ls hj hn hl hS X hF kx
              refine lv_iload hx hb dL_brands_89 (lv_at hl 9 rfl) ?_
              refine lv_aload_n hx hb dL_brands_91 rfl (lv_at hl 0 rfl) ?_
              refine lv_iconst (v := 1) hx hb dL_brands_92 (by decide) ?_
              refine bcall_Ri (va_runV (As := [.int 1]) (rest := [.int (nI j89)]) ⟨hx, hb, hml, hown, hts⟩ (C5_count l D cI cO q _ _ hP 1 (by decide)) (cwV 1 hts gL_brands_X5_count rfl rfl rfl ⟨rfl, bd_X5count⟩ ⟨Nat.le_of_ble_eq_true rfl, Nat.le_of_ble_eq_true rfl⟩) (bPV hk (va_recv hk.1 hP (ci := 5) (q0 := 0) rfl (wC_0 _ _ _ _))) rfl rfl hl.1 rfl (lv_room (Nat.le_of_ble_eq_true rfl)) dL_brands_93 ⟨Nat.zero_le _, Nat.zero_le _⟩) hS (fun locs hS => ?_)
              refine lv_icmp_ge (tgt := 177) hx hb dL_brands_96 (by decide) (fun c_8 => ?_) (fun c_8 => ?_)
              · obtain rfl : X = (x4_89, x7_89, x8_89) := by rw [← hF, LL_brands_89, if_pos c_8]
                exact kx _ _ (lv_sub hl [0, 1, 2, 3, 4, 5, 6, 7, 8] rfl) hS
              · have hlt_9 : j89 < (F5_count u 1).toNatClampNeg := bLtB c_8 (by omega)
                refine lv_iload hx hb dL_brands_99 (lv_at hl 7 rfl) ?_
                refine lv_aload_n hx hb dL_brands_101 rfl (lv_at hl 0 rfl) ?_
                refine lv_iload hx hb dL_brands_102 (lv_at hl 9 rfl) ?_
                refine lv_bipush (v := 10) hx hb dL_brands_104 (by decide) ?_
                refine lv_iload hx hb dL_brands_106 (lv_at hl 5 rfl) ?_
                refine lv_iadd hx hb dL_brands_108 ?_
                refine bcall_Ri (va_runV (As := [.int (nI j89), .int (10 + (nI j10))]) (rest := [.int x7_89]) ⟨hx, hb, hml, hown, hts⟩ (C5_shop l D cI cO q _ _ hP (nI j89) (10 + (nI j10)) (ok_ns hok hlt_9) (ok_i10 hok hlt_2)) (cwV 2 hts gL_brands_X5_shop rfl rfl rfl ⟨rfl, bd_X5shop⟩ ⟨Nat.le_of_ble_eq_true rfl, Nat.le_of_ble_eq_true rfl⟩) (bPV hk (va_recv hk.1 hP (ci := 5) (q0 := 0) rfl (wC_0 _ _ _ _))) rfl rfl hl.1 rfl (lv_room (Nat.le_of_ble_eq_true rfl)) dL_brands_109 ⟨Nat.zero_le _, Nat.zero_le _⟩) hS (fun locs hS => ?_)
                refine lv_iadd hx hb dL_brands_112 ?_
                refine lv_istore (lv' := [(7, .int (x7_89 + (F5_shop u (nI j89) (10 + (nI j10))))), (0, .ref (q 0)), (1, .ref qb), (2, .int x2_10), (3, .int x3_10), (4, .int x4_89), (5, .int (nI j10)), (6, .int (LL_brands_37 u j10 (10 + 1) 1 x4_10 0).2), (8, .int x8_89), (9, .int (nI j89))]) hx hb dL_brands_113 hl (by decide) rfl (fun ls hl => ?_)
                refine lv_iload hx hb dL_brands_115 (lv_at hl 8 rfl) ?_
                refine lv_aload_n hx hb dL_brands_117 rfl (lv_at hl 1 rfl) ?_
                refine lv_iload hx hb dL_brands_118 (lv_at hl 9 rfl) ?_
                refine lv_bipush (v := 20) hx hb dL_brands_120 (by decide) ?_
                refine lv_iload hx hb dL_brands_122 (lv_at hl 6 rfl) ?_
                refine lv_iadd hx hb dL_brands_124 ?_
                refine bcall_Ri (va_runV (As := [.int (nI j89), .int (20 + (nI j10))]) (rest := [.int x8_89]) ⟨hx, hb, hml, hown, hts⟩ (C5_shop l D cI cO q _ _ hP (nI j89) (20 + (nI j10)) (ok_ns hok hlt_9) (ok_i20 hok hlt_2)) (cwV 2 hts gL_brands_X5_shop rfl rfl rfl ⟨rfl, bd_X5shop⟩ ⟨Nat.le_of_ble_eq_true rfl, Nat.le_of_ble_eq_true rfl⟩) (bPV hk (va_recv hk.1 hP (ci := 5) (q0 := 0) rfl (wC_0 _ _ _ _))) rfl rfl hl.1 rfl (lv_room (Nat.le_of_ble_eq_true rfl)) dL_brands_125 ⟨Nat.zero_le _, Nat.zero_le _⟩) hS (fun locs hS => ?_)
                refine lv_iadd hx hb dL_brands_128 ?_
                refine lv_istore (lv' := [(8, .int (x8_89 + (F5_shop u (nI j89) (20 + (nI j10))))), (7, .int (x7_89 + (F5_shop u (nI j89) (10 + (nI j10))))), (0, .ref (q 0)), (1, .ref qb), (2, .int x2_10), (3, .int x3_10), (4, .int x4_89), (5, .int (nI j10)), (6, .int (LL_brands_37 u j10 (10 + 1) 1 x4_10 0).2), (9, .int (nI j89))]) hx hb dL_brands_129 hl (by decide) rfl (fun ls hl => ?_)
                refine lv_iload hx hb dL_brands_131 (lv_at hl 6 rfl) ?_
                refine lv_if_eq (tgt := 168) hx hb dL_brands_133 (by decide) (fun c_10 => ?_) (fun c_10 => ?_)
                · refine lv_iconst (v := 0) hx hb dL_brands_168 (by decide) ?_
                  refine lv_istore (lv' := [(4, .int 0), (8, .int (x8_89 + (F5_shop u (nI j89) (20 + (nI j10))))), (7, .int (x7_89 + (F5_shop u (nI j89) (10 + (nI j10))))), (0, .ref (q 0)), (1, .ref qb), (2, .int x2_10), (3, .int x3_10), (5, .int (nI j10)), (6, .int (LL_brands_37 u j10 (10 + 1) 1 x4_10 0).2), (9, .int (nI j89))]) hx hb dL_brands_169 hl (by decide) rfl (fun ls hl => ?_)
                  refine lv_iinc (v := (nI (j89 + 1))) (lv' := [(9, .int (nI (j89 + 1))), (4, .int 0), (8, .int (x8_89 + (F5_shop u (nI j89) (20 + (nI j10))))), (7, .int (x7_89 + (F5_shop u (nI j89) (10 + (nI j10))))), (0, .ref (q 0)), (1, .ref qb), (2, .int x2_10), (3, .int x3_10), (5, .int (nI j10)), (6, .int (LL_brands_37 u j10 (10 + 1) 1 x4_10 0).2)]) hx hb dL_brands_171 hl (k := 9) rfl (bInc j89) (by decide) rfl (fun ls hl => ?_)
                  refine lv_goto (tgt := 89) hx hb dL_brands_174 (by decide) ?_
                  exact ih (j89 + 1) 0 (x7_89 + (F5_shop u (nI j89) (10 + (nI j10)))) (x8_89 + (F5_shop u (nI j89) (20 + (nI j10)))) _ _ (by omega) (by omega) (lv_sub hl [4, 5, 6, 7, 1, 8, 9, 3, 2, 0] rfl) hS X (by rw [← hF, LL_brands_89, if_neg c_8, if_pos c_10]) kx
                · refine lv_aload_n hx hb dL_brands_136 rfl (lv_at hl 2 rfl) ?_
                  refine lv_iload hx hb dL_brands_137 (lv_at hl 9 rfl) ?_
                  refine lv_bipush (v := 10) hx hb dL_brands_139 (by decide) ?_
                  refine lv_iload hx hb dL_brands_141 (lv_at hl 7 rfl) ?_
                  refine lv_iadd hx hb dL_brands_143 ?_
                  refine bcall_Ri (va_runV (As := [.int (nI j89), .int (10 + (nI j10))]) (rest := []) ⟨hx, hb, hml, hown, hts⟩ (C5_shop l D cI cO q _ _ hP (nI j89) (10 + (nI j10)) (ok_ns hok hlt_9) (ok_i10 hok hlt_2)) (cwV 2 hts gL_brands_X5_shop rfl rfl rfl ⟨rfl, bd_X5shop⟩ ⟨Nat.le_of_ble_eq_true rfl, Nat.le_of_ble_eq_true rfl⟩) (bPV hk (va_recv hk.1 hP (ci := 5) (q0 := 0) rfl (wC_0 _ _ _ _))) rfl rfl hl.1 rfl (lv_room (Nat.le_of_ble_eq_true rfl)) dL_brands_144 ⟨Nat.zero_le _, Nat.zero_le _⟩) hS (fun locs hS => ?_)
                  refine lv_if_lt (tgt := 168) hx hb dL_brands_147 (by decide) (fun c_11 => ?_) (fun c_11 => ?_)
                  · refine lv_iconst (v := 0) hx hb dL_brands_168 (by decide) ?_
                    refine lv_istore (lv' := [(4, .int 0), (8, .int (x8_89 + (F5_shop u (nI j89) (20 + (nI j10))))), (7, .int (x7_89 + (F5_shop u (nI j89) (10 + (nI j10))))), (0, .ref (q 0)), (1, .ref qb), (2, .int x2_10), (3, .int x3_10), (5, .int (nI j10)), (6, .int (LL_brands_37 u j10 (10 + 1) 1 x4_10 0).2), (9, .int (nI j89))]) hx hb dL_brands_169 hl (by decide) rfl (fun ls hl => ?_)
                    refine lv_iinc (v := (nI (j89 + 1))) (lv' := [(9, .int (nI (j89 + 1))), (4, .int 0), (8, .int (x8_89 + (F5_shop u (nI j89) (20 + (nI j10))))), (7, .int (x7_89 + (F5_shop u (nI j89) (10 + (nI j10))))), (0, .ref (q 0)), (1, .ref qb), (2, .int x2_10), (3, .int x3_10), (5, .int (nI j10)), (6, .int (LL_brands_37 u j10 (10 + 1) 1 x4_10 0).2)]) hx hb dL_brands_171 hl (k := 9) rfl (bInc j89) (by decide) rfl (fun ls hl => ?_)
                    refine lv_goto (tgt := 89) hx hb dL_brands_174 (by decide) ?_
                    exact ih (j89 + 1) 0 (x7_89 + (F5_shop u (nI j89) (10 + (nI j10)))) (x8_89 + (F5_shop u (nI j89) (20 + (nI j10)))) _ _ (by omega) (by omega) (lv_sub hl [4, 5, 6, 7, 1, 8, 9, 3, 2, 0] rfl) hS X (by rw [← hF, LL_brands_89, if_neg c_8, if_neg c_10, if_pos c_11]) kx
                  · refine lv_aload_n hx hb dL_brands_150 rfl (lv_at hl 2 rfl) ?_
                    refine lv_iload hx hb dL_brands_151 (lv_at hl 9 rfl) ?_
                    refine lv_bipush (v := 20) hx hb dL_brands_153 (by decide) ?_
                    refine lv_iload hx hb dL_brands_155 (lv_at hl 7 rfl) ?_
                    refine lv_iadd hx hb dL_brands_157 ?_
                    refine bcall_Ri (va_runV (As := [.int (nI j89), .int (20 + (nI j10))]) (rest := []) ⟨hx, hb, hml, hown, hts⟩ (C5_shop l D cI cO q _ _ hP (nI j89) (20 + (nI j10)) (ok_ns hok hlt_9) (ok_i20 hok hlt_2)) (cwV 2 hts gL_brands_X5_shop rfl rfl rfl ⟨rfl, bd_X5shop⟩ ⟨Nat.le_of_ble_eq_true rfl, Nat.le_of_ble_eq_true rfl⟩) (bPV hk (va_recv hk.1 hP (ci := 5) (q0 := 0) rfl (wC_0 _ _ _ _))) rfl rfl hl.1 rfl (lv_room (Nat.le_of_ble_eq_true rfl)) dL_brands_158 ⟨Nat.zero_le _, Nat.zero_le _⟩) hS (fun locs hS => ?_)
                    refine lv_if_lt (tgt := 168) hx hb dL_brands_161 (by decide) (fun c_12 => ?_) (fun c_12 => ?_)
                    · refine lv_iconst (v := 0) hx hb dL_brands_168 (by decide) ?_
                      refine lv_istore (lv' := [(4, .int 0), (8, .int (x8_89 + (F5_shop u (nI j89) (20 + (nI j10))))), (7, .int (x7_89 + (F5_shop u (nI j89) (10 + (nI j10))))), (0, .ref (q 0)), (1, .ref qb), (2, .int x2_10), (3, .int x3_10), (5, .int (nI j10)), (6, .int (LL_brands_37 u j10 (10 + 1) 1 x4_10 0).2), (9, .int (nI j89))]) hx hb dL_brands_169 hl (by decide) rfl (fun ls hl => ?_)
                      refine lv_iinc (v := (nI (j89 + 1))) (lv' := [(9, .int (nI (j89 + 1))), (4, .int 0), (8, .int (x8_89 + (F5_shop u (nI j89) (20 + (nI j10))))), (7, .int (x7_89 + (F5_shop u (nI j89) (10 + (nI j10))))), (0, .ref (q 0)), (1, .ref qb), (2, .int x2_10), (3, .int x3_10), (5, .int (nI j10)), (6, .int (LL_brands_37 u j10 (10 + 1) 1 x4_10 0).2)]) hx hb dL_brands_171 hl (k := 9) rfl (bInc j89) (by decide) rfl (fun ls hl => ?_)
                      refine lv_goto (tgt := 89) hx hb dL_brands_174 (by decide) ?_
                      exact ih (j89 + 1) 0 (x7_89 + (F5_shop u (nI j89) (10 + (nI j10)))) (x8_89 + (F5_shop u (nI j89) (20 + (nI j10)))) _ _ (by omega) (by omega) (lv_sub hl [4, 5, 6, 7, 1, 8, 9, 3, 2, 0] rfl) hS X (by rw [← hF, LL_brands_89, if_neg c_8, if_neg c_10, if_neg c_11, if_pos c_12]) kx
                    · refine lv_iconst (v := 1) hx hb dL_brands_164 (by decide) ?_
                      refine lv_goto (tgt := 169) hx hb dL_brands_165 (by decide) ?_
                      refine lv_istore (lv' := [(4, .int 1), (8, .int (x8_89 + (F5_shop u (nI j89) (20 + (nI j10))))), (7, .int (x7_89 + (F5_shop u (nI j89) (10 + (nI j10))))), (0, .ref (q 0)), (1, .ref qb), (2, .int x2_10), (3, .int x3_10), (5, .int (nI j10)), (6, .int (LL_brands_37 u j10 (10 + 1) 1 x4_10 0).2), (9, .int (nI j89))]) hx hb dL_brands_169 hl (by decide) rfl (fun ls hl => ?_)
                      refine lv_iinc (v := (nI (j89 + 1))) (lv' := [(9, .int (nI (j89 + 1))), (4, .int 1), (8, .int (x8_89 + (F5_shop u (nI j89) (20 + (nI j10))))), (7, .int (x7_89 + (F5_shop u (nI j89) (10 + (nI j10))))), (0, .ref (q 0)), (1, .ref qb), (2, .int x2_10), (3, .int x3_10), (5, .int (nI j10)), (6, .int (LL_brands_37 u j10 (10 + 1) 1 x4_10 0).2)]) hx hb dL_brands_171 hl (k := 9) rfl (bInc j89) (by decide) rfl (fun ls hl => ?_)
                      refine lv_goto (tgt := 89) hx hb dL_brands_174 (by decide) ?_
                      exact ih (j89 + 1) 1 (x7_89 + (F5_shop u (nI j89) (10 + (nI j10)))) (x8_89 + (F5_shop u (nI j89) (20 + (nI j10)))) _ _ (by omega) (by omega) (lv_sub hl [4, 5, 6, 7, 1, 8, 9, 3, 2, 0] rfl) hS X (by rw [← hF, LL_brands_89, if_neg c_8, if_neg c_10, if_neg c_11, if_neg c_12]) kx
          refine loop89 ((F5_count u 1).toNatClampNeg + 1) 0 (LL_brands_37 u j10 (10 + 1) 1 x4_10 0).1 0 0 _ _ (by omega) (by omega) (lv_sub hl [1, 2, 3, 4, 5, 6, 7, 8, 9, 0] rfl) hS _ rfl (fun locs ls hl hS => ?_)
          refine lv_iload_n hx hb dL_brands_177 rfl (lv_at hl 2 rfl) ?_
          refine lv_aload_n hx hb dL_brands_178 rfl (lv_at hl 0 rfl) ?_
          refine lv_iload hx hb dL_brands_179 (lv_at hl 5 rfl) ?_
          refine lv_iconst (v := 5) hx hb dL_brands_181 (by decide) ?_
          refine bcall_Ri (va_runV (As := [.int (nI j10), .int 5]) (rest := [.int x2_10]) ⟨hx, hb, hml, hown, hts⟩ (C5_brand l D cI cO q _ _ hP (nI j10) 5 (ok_nb hok hlt_2) (by decide)) (cwV 2 hts gL_brands_X5_brand rfl rfl rfl ⟨rfl, bd_X5brand⟩ ⟨Nat.le_of_ble_eq_true rfl, Nat.le_of_ble_eq_true rfl⟩) (bPV hk (va_recv hk.1 hP (ci := 5) (q0 := 0) rfl (wC_0 _ _ _ _))) rfl rfl hl.1 rfl (lv_room (Nat.le_of_ble_eq_true rfl)) dL_brands_182 ⟨Nat.zero_le _, Nat.zero_le _⟩) hS (fun locs hS => ?_)
          refine lv_iadd hx hb dL_brands_185 ?_
          refine lv_istore_n (lv' := [(2, .int (x2_10 + (F5_brand u (nI j10) 5))), (0, .ref (q 0)), (1, .ref qb), (3, .int x3_10), (4, .int (LL_brands_89 u j10 ((F5_count u 1).toNatClampNeg + 1) 0 (LL_brands_37 u j10 (10 + 1) 1 x4_10 0).1 0 0).1), (5, .int (nI j10)), (6, .int (LL_brands_37 u j10 (10 + 1) 1 x4_10 0).2), (7, .int (LL_brands_89 u j10 ((F5_count u 1).toNatClampNeg + 1) 0 (LL_brands_37 u j10 (10 + 1) 1 x4_10 0).1 0 0).2.1), (8, .int (LL_brands_89 u j10 ((F5_count u 1).toNatClampNeg + 1) 0 (LL_brands_37 u j10 (10 + 1) 1 x4_10 0).1 0 0).2.2)]) hx hb dL_brands_186 rfl hl (by decide) rfl (fun ls hl => ?_)
          refine lv_iload_n hx hb dL_brands_187 rfl (lv_at hl 3 rfl) ?_
          refine lv_aload_n hx hb dL_brands_188 rfl (lv_at hl 1 rfl) ?_
          refine lv_iload hx hb dL_brands_189 (lv_at hl 5 rfl) ?_
          refine lv_bipush (v := 6) hx hb dL_brands_191 (by decide) ?_
          refine bcall_Ri (va_runV (As := [.int (nI j10), .int 6]) (rest := [.int x3_10]) ⟨hx, hb, hml, hown, hts⟩ (C5_brand l D cI cO q _ _ hP (nI j10) 6 (ok_nb hok hlt_2) (by decide)) (cwV 2 hts gL_brands_X5_brand rfl rfl rfl ⟨rfl, bd_X5brand⟩ ⟨Nat.le_of_ble_eq_true rfl, Nat.le_of_ble_eq_true rfl⟩) (bPV hk (va_recv hk.1 hP (ci := 5) (q0 := 0) rfl (wC_0 _ _ _ _))) rfl rfl hl.1 rfl (lv_room (Nat.le_of_ble_eq_true rfl)) dL_brands_193 ⟨Nat.zero_le _, Nat.zero_le _⟩) hS (fun locs hS => ?_)
          refine lv_iadd hx hb dL_brands_196 ?_
          refine lv_istore_n (lv' := [(3, .int (x3_10 + (F5_brand u (nI j10) 6))), (2, .int (x2_10 + (F5_brand u (nI j10) 5))), (0, .ref (q 0)), (1, .ref qb), (4, .int (LL_brands_89 u j10 ((F5_count u 1).toNatClampNeg + 1) 0 (LL_brands_37 u j10 (10 + 1) 1 x4_10 0).1 0 0).1), (5, .int (nI j10)), (6, .int (LL_brands_37 u j10 (10 + 1) 1 x4_10 0).2), (7, .int (LL_brands_89 u j10 ((F5_count u 1).toNatClampNeg + 1) 0 (LL_brands_37 u j10 (10 + 1) 1 x4_10 0).1 0 0).2.1), (8, .int (LL_brands_89 u j10 ((F5_count u 1).toNatClampNeg + 1) 0 (LL_brands_37 u j10 (10 + 1) 1 x4_10 0).1 0 0).2.2)]) hx hb dL_brands_197 rfl hl (by decide) rfl (fun ls hl => ?_)
          refine lv_iload hx hb dL_brands_198 (lv_at hl 4 rfl) ?_
          refine lv_if_eq (tgt := 268) hx hb dL_brands_200 (by decide) (fun c_13 => ?_) (fun c_13 => ?_)
          · refine lv_iconst (v := 0) hx hb dL_brands_268 (by decide) ?_
            refine lv_istore (lv' := [(4, .int 0), (3, .int (x3_10 + (F5_brand u (nI j10) 6))), (2, .int (x2_10 + (F5_brand u (nI j10) 5))), (0, .ref (q 0)), (1, .ref qb), (5, .int (nI j10)), (6, .int (LL_brands_37 u j10 (10 + 1) 1 x4_10 0).2), (7, .int (LL_brands_89 u j10 ((F5_count u 1).toNatClampNeg + 1) 0 (LL_brands_37 u j10 (10 + 1) 1 x4_10 0).1 0 0).2.1), (8, .int (LL_brands_89 u j10 ((F5_count u 1).toNatClampNeg + 1) 0 (LL_brands_37 u j10 (10 + 1) 1 x4_10 0).1 0 0).2.2)]) hx hb dL_brands_269 hl (by decide) rfl (fun ls hl => ?_)
            refine lv_iinc (v := (nI (j10 + 1))) (lv' := [(5, .int (nI (j10 + 1))), (4, .int 0), (3, .int (x3_10 + (F5_brand u (nI j10) 6))), (2, .int (x2_10 + (F5_brand u (nI j10) 5))), (0, .ref (q 0)), (1, .ref qb), (6, .int (LL_brands_37 u j10 (10 + 1) 1 x4_10 0).2), (7, .int (LL_brands_89 u j10 ((F5_count u 1).toNatClampNeg + 1) 0 (LL_brands_37 u j10 (10 + 1) 1 x4_10 0).1 0 0).2.1), (8, .int (LL_brands_89 u j10 ((F5_count u 1).toNatClampNeg + 1) 0 (LL_brands_37 u j10 (10 + 1) 1 x4_10 0).1 0 0).2.2)]) hx hb dL_brands_271 hl (k := 5) rfl (bInc j10) (by decide) rfl (fun ls hl => ?_)
            refine lv_goto (tgt := 10) hx hb dL_brands_274 (by decide) ?_
            exact ih (j10 + 1) (x2_10 + (F5_brand u (nI j10) 5)) (x3_10 + (F5_brand u (nI j10) 6)) 0 _ _ (by omega) (by omega) (lv_sub hl [4, 5, 3, 2, 1, 0] rfl) hS X (by rw [← hF, LL_brands_10, if_neg c_1, if_neg c_3, if_pos c_13]) kx
          · refine lv_iload hx hb dL_brands_203 (lv_at hl 6 rfl) ?_
            refine lv_aload_n hx hb dL_brands_205 rfl (lv_at hl 2 rfl) ?_
            refine lv_iload hx hb dL_brands_206 (lv_at hl 5 rfl) ?_
            refine lv_bipush (v := 11) hx hb dL_brands_208 (by decide) ?_
            refine bcall_Ri (va_runV (As := [.int (nI j10), .int 11]) (rest := [.int (LL_brands_37 u j10 (10 + 1) 1 x4_10 0).2]) ⟨hx, hb, hml, hown, hts⟩ (C5_brand l D cI cO q _ _ hP (nI j10) 11 (ok_nb hok hlt_2) (by decide)) (cwV 2 hts gL_brands_X5_brand rfl rfl rfl ⟨rfl, bd_X5brand⟩ ⟨Nat.le_of_ble_eq_true rfl, Nat.le_of_ble_eq_true rfl⟩) (bPV hk (va_recv hk.1 hP (ci := 5) (q0 := 0) rfl (wC_0 _ _ _ _))) rfl rfl hl.1 rfl (lv_room (Nat.le_of_ble_eq_true rfl)) dL_brands_210 ⟨Nat.zero_le _, Nat.zero_le _⟩) hS (fun locs hS => ?_)
            refine lv_iadd hx hb dL_brands_213 ?_
            refine lv_aload_n hx hb dL_brands_214 rfl (lv_at hl 3 rfl) ?_
            refine lv_iload hx hb dL_brands_215 (lv_at hl 5 rfl) ?_
            refine va_iald hx hb hk.1 hB 0 0 rfl rfl (ok_in hok hlt_2) dL_brands_217 ?_
            refine lv_icmp_ne (tgt := 268) hx hb dL_brands_218 (by decide) (fun c_14 => ?_) (fun c_14 => ?_)
            · refine lv_iconst (v := 0) hx hb dL_brands_268 (by decide) ?_
              refine lv_istore (lv' := [(4, .int 0), (3, .int (x3_10 + (F5_brand u (nI j10) 6))), (2, .int (x2_10 + (F5_brand u (nI j10) 5))), (0, .ref (q 0)), (1, .ref qb), (5, .int (nI j10)), (6, .int (LL_brands_37 u j10 (10 + 1) 1 x4_10 0).2), (7, .int (LL_brands_89 u j10 ((F5_count u 1).toNatClampNeg + 1) 0 (LL_brands_37 u j10 (10 + 1) 1 x4_10 0).1 0 0).2.1), (8, .int (LL_brands_89 u j10 ((F5_count u 1).toNatClampNeg + 1) 0 (LL_brands_37 u j10 (10 + 1) 1 x4_10 0).1 0 0).2.2)]) hx hb dL_brands_269 hl (by decide) rfl (fun ls hl => ?_)
              refine lv_iinc (v := (nI (j10 + 1))) (lv' := [(5, .int (nI (j10 + 1))), (4, .int 0), (3, .int (x3_10 + (F5_brand u (nI j10) 6))), (2, .int (x2_10 + (F5_brand u (nI j10) 5))), (0, .ref (q 0)), (1, .ref qb), (6, .int (LL_brands_37 u j10 (10 + 1) 1 x4_10 0).2), (7, .int (LL_brands_89 u j10 ((F5_count u 1).toNatClampNeg + 1) 0 (LL_brands_37 u j10 (10 + 1) 1 x4_10 0).1 0 0).2.1), (8, .int (LL_brands_89 u j10 ((F5_count u 1).toNatClampNeg + 1) 0 (LL_brands_37 u j10 (10 + 1) 1 x4_10 0).1 0 0).2.2)]) hx hb dL_brands_271 hl (k := 5) rfl (bInc j10) (by decide) rfl (fun ls hl => ?_)
              refine lv_goto (tgt := 10) hx hb dL_brands_274 (by decide) ?_
              exact ih (j10 + 1) (x2_10 + (F5_brand u (nI j10) 5)) (x3_10 + (F5_brand u (nI j10) 6)) 0 _ _ (by omega) (by omega) (lv_sub hl [4, 5, 3, 2, 1, 0] rfl) hS X (by rw [← hF, LL_brands_10, if_neg c_1, if_neg c_3, if_neg c_13, if_neg c_14]) kx
            · refine lv_iload hx hb dL_brands_221 (lv_at hl 7 rfl) ?_
              refine lv_aload_n hx hb dL_brands_223 rfl (lv_at hl 2 rfl) ?_
              refine lv_iload hx hb dL_brands_224 (lv_at hl 5 rfl) ?_
              refine lv_iconst (v := 3) hx hb dL_brands_226 (by decide) ?_
              refine bcall_Ri (va_runV (As := [.int (nI j10), .int 3]) (rest := [.int (LL_brands_89 u j10 ((F5_count u 1).toNatClampNeg + 1) 0 (LL_brands_37 u j10 (10 + 1) 1 x4_10 0).1 0 0).2.1]) ⟨hx, hb, hml, hown, hts⟩ (C5_brand l D cI cO q _ _ hP (nI j10) 3 (ok_nb hok hlt_2) (by decide)) (cwV 2 hts gL_brands_X5_brand rfl rfl rfl ⟨rfl, bd_X5brand⟩ ⟨Nat.le_of_ble_eq_true rfl, Nat.le_of_ble_eq_true rfl⟩) (bPV hk (va_recv hk.1 hP (ci := 5) (q0 := 0) rfl (wC_0 _ _ _ _))) rfl rfl hl.1 rfl (lv_room (Nat.le_of_ble_eq_true rfl)) dL_brands_227 ⟨Nat.zero_le _, Nat.zero_le _⟩) hS (fun locs hS => ?_)
              refine lv_icmp_ne (tgt := 268) hx hb dL_brands_230 (by decide) (fun c_15 => ?_) (fun c_15 => ?_)
              · refine lv_iconst (v := 0) hx hb dL_brands_268 (by decide) ?_
                refine lv_istore (lv' := [(4, .int 0), (3, .int (x3_10 + (F5_brand u (nI j10) 6))), (2, .int (x2_10 + (F5_brand u (nI j10) 5))), (0, .ref (q 0)), (1, .ref qb), (5, .int (nI j10)), (6, .int (LL_brands_37 u j10 (10 + 1) 1 x4_10 0).2), (7, .int (LL_brands_89 u j10 ((F5_count u 1).toNatClampNeg + 1) 0 (LL_brands_37 u j10 (10 + 1) 1 x4_10 0).1 0 0).2.1), (8, .int (LL_brands_89 u j10 ((F5_count u 1).toNatClampNeg + 1) 0 (LL_brands_37 u j10 (10 + 1) 1 x4_10 0).1 0 0).2.2)]) hx hb dL_brands_269 hl (by decide) rfl (fun ls hl => ?_)
                refine lv_iinc (v := (nI (j10 + 1))) (lv' := [(5, .int (nI (j10 + 1))), (4, .int 0), (3, .int (x3_10 + (F5_brand u (nI j10) 6))), (2, .int (x2_10 + (F5_brand u (nI j10) 5))), (0, .ref (q 0)), (1, .ref qb), (6, .int (LL_brands_37 u j10 (10 + 1) 1 x4_10 0).2), (7, .int (LL_brands_89 u j10 ((F5_count u 1).toNatClampNeg + 1) 0 (LL_brands_37 u j10 (10 + 1) 1 x4_10 0).1 0 0).2.1), (8, .int (LL_brands_89 u j10 ((F5_count u 1).toNatClampNeg + 1) 0 (LL_brands_37 u j10 (10 + 1) 1 x4_10 0).1 0 0).2.2)]) hx hb dL_brands_271 hl (k := 5) rfl (bInc j10) (by decide) rfl (fun ls hl => ?_)
                refine lv_goto (tgt := 10) hx hb dL_brands_274 (by decide) ?_
                exact ih (j10 + 1) (x2_10 + (F5_brand u (nI j10) 5)) (x3_10 + (F5_brand u (nI j10) 6)) 0 _ _ (by omega) (by omega) (lv_sub hl [4, 5, 3, 2, 1, 0] rfl) hS X (by rw [← hF, LL_brands_10, if_neg c_1, if_neg c_3, if_neg c_13, if_pos c_14, if_neg c_15]) kx
              · refine lv_iload hx hb dL_brands_233 (lv_at hl 8 rfl) ?_
                refine lv_aload_n hx hb dL_brands_235 rfl (lv_at hl 2 rfl) ?_
                refine lv_iload hx hb dL_brands_236 (lv_at hl 5 rfl) ?_
                refine lv_iconst (v := 4) hx hb dL_brands_238 (by decide) ?_
                refine bcall_Ri (va_runV (As := [.int (nI j10), .int 4]) (rest := [.int (LL_brands_89 u j10 ((F5_count u 1).toNatClampNeg + 1) 0 (LL_brands_37 u j10 (10 + 1) 1 x4_10 0).1 0 0).2.2]) ⟨hx, hb, hml, hown, hts⟩ (C5_brand l D cI cO q _ _ hP (nI j10) 4 (ok_nb hok hlt_2) (by decide)) (cwV 2 hts gL_brands_X5_brand rfl rfl rfl ⟨rfl, bd_X5brand⟩ ⟨Nat.le_of_ble_eq_true rfl, Nat.le_of_ble_eq_true rfl⟩) (bPV hk (va_recv hk.1 hP (ci := 5) (q0 := 0) rfl (wC_0 _ _ _ _))) rfl rfl hl.1 rfl (lv_room (Nat.le_of_ble_eq_true rfl)) dL_brands_239 ⟨Nat.zero_le _, Nat.zero_le _⟩) hS (fun locs hS => ?_)
                refine lv_icmp_ne (tgt := 268) hx hb dL_brands_242 (by decide) (fun c_16 => ?_) (fun c_16 => ?_)
                · refine lv_iconst (v := 0) hx hb dL_brands_268 (by decide) ?_
                  refine lv_istore (lv' := [(4, .int 0), (3, .int (x3_10 + (F5_brand u (nI j10) 6))), (2, .int (x2_10 + (F5_brand u (nI j10) 5))), (0, .ref (q 0)), (1, .ref qb), (5, .int (nI j10)), (6, .int (LL_brands_37 u j10 (10 + 1) 1 x4_10 0).2), (7, .int (LL_brands_89 u j10 ((F5_count u 1).toNatClampNeg + 1) 0 (LL_brands_37 u j10 (10 + 1) 1 x4_10 0).1 0 0).2.1), (8, .int (LL_brands_89 u j10 ((F5_count u 1).toNatClampNeg + 1) 0 (LL_brands_37 u j10 (10 + 1) 1 x4_10 0).1 0 0).2.2)]) hx hb dL_brands_269 hl (by decide) rfl (fun ls hl => ?_)
                  refine lv_iinc (v := (nI (j10 + 1))) (lv' := [(5, .int (nI (j10 + 1))), (4, .int 0), (3, .int (x3_10 + (F5_brand u (nI j10) 6))), (2, .int (x2_10 + (F5_brand u (nI j10) 5))), (0, .ref (q 0)), (1, .ref qb), (6, .int (LL_brands_37 u j10 (10 + 1) 1 x4_10 0).2), (7, .int (LL_brands_89 u j10 ((F5_count u 1).toNatClampNeg + 1) 0 (LL_brands_37 u j10 (10 + 1) 1 x4_10 0).1 0 0).2.1), (8, .int (LL_brands_89 u j10 ((F5_count u 1).toNatClampNeg + 1) 0 (LL_brands_37 u j10 (10 + 1) 1 x4_10 0).1 0 0).2.2)]) hx hb dL_brands_271 hl (k := 5) rfl (bInc j10) (by decide) rfl (fun ls hl => ?_)
                  refine lv_goto (tgt := 10) hx hb dL_brands_274 (by decide) ?_
                  exact ih (j10 + 1) (x2_10 + (F5_brand u (nI j10) 5)) (x3_10 + (F5_brand u (nI j10) 6)) 0 _ _ (by omega) (by omega) (lv_sub hl [4, 5, 3, 2, 1, 0] rfl) hS X (by rw [← hF, LL_brands_10, if_neg c_1, if_neg c_3, if_neg c_13, if_pos c_14, if_pos c_15, if_neg c_16]) kx
                · refine lv_aload_n hx hb dL_brands_245 rfl (lv_at hl 2 rfl) ?_
                  refine lv_iload hx hb dL_brands_246 (lv_at hl 5 rfl) ?_
                  refine lv_bipush (v := 9) hx hb dL_brands_248 (by decide) ?_
                  refine bcall_Ri (va_runV (As := [.int (nI j10), .int 9]) (rest := []) ⟨hx, hb, hml, hown, hts⟩ (C5_brand l D cI cO q _ _ hP (nI j10) 9 (ok_nb hok hlt_2) (by decide)) (cwV 2 hts gL_brands_X5_brand rfl rfl rfl ⟨rfl, bd_X5brand⟩ ⟨Nat.le_of_ble_eq_true rfl, Nat.le_of_ble_eq_true rfl⟩) (bPV hk (va_recv hk.1 hP (ci := 5) (q0 := 0) rfl (wC_0 _ _ _ _))) rfl rfl hl.1 rfl (lv_room (Nat.le_of_ble_eq_true rfl)) dL_brands_250 ⟨Nat.zero_le _, Nat.zero_le _⟩) hS (fun locs hS => ?_)
                  refine lv_aload_n hx hb dL_brands_253 rfl (lv_at hl 2 rfl) ?_
                  refine lv_iload hx hb dL_brands_254 (lv_at hl 5 rfl) ?_
                  refine lv_bipush (v := 10) hx hb dL_brands_256 (by decide) ?_
                  refine bcall_Ri (va_runV (As := [.int (nI j10), .int 10]) (rest := [.int (F5_brand u (nI j10) 9)]) ⟨hx, hb, hml, hown, hts⟩ (C5_brand l D cI cO q _ _ hP (nI j10) 10 (ok_nb hok hlt_2) (by decide)) (cwV 2 hts gL_brands_X5_brand rfl rfl rfl ⟨rfl, bd_X5brand⟩ ⟨Nat.le_of_ble_eq_true rfl, Nat.le_of_ble_eq_true rfl⟩) (bPV hk (va_recv hk.1 hP (ci := 5) (q0 := 0) rfl (wC_0 _ _ _ _))) rfl rfl hl.1 rfl (lv_room (Nat.le_of_ble_eq_true rfl)) dL_brands_258 ⟨Nat.zero_le _, Nat.zero_le _⟩) hS (fun locs hS => ?_)
                  refine lv_icmp_gt (tgt := 268) hx hb dL_brands_261 (by decide) (fun c_17 => ?_) (fun c_17 => ?_)
                  · refine lv_iconst (v := 0) hx hb dL_brands_268 (by decide) ?_
                    refine lv_istore (lv' := [(4, .int 0), (3, .int (x3_10 + (F5_brand u (nI j10) 6))), (2, .int (x2_10 + (F5_brand u (nI j10) 5))), (0, .ref (q 0)), (1, .ref qb), (5, .int (nI j10)), (6, .int (LL_brands_37 u j10 (10 + 1) 1 x4_10 0).2), (7, .int (LL_brands_89 u j10 ((F5_count u 1).toNatClampNeg + 1) 0 (LL_brands_37 u j10 (10 + 1) 1 x4_10 0).1 0 0).2.1), (8, .int (LL_brands_89 u j10 ((F5_count u 1).toNatClampNeg + 1) 0 (LL_brands_37 u j10 (10 + 1) 1 x4_10 0).1 0 0).2.2)]) hx hb dL_brands_269 hl (by decide) rfl (fun ls hl => ?_)
                    refine lv_iinc (v := (nI (j10 + 1))) (lv' := [(5, .int (nI (j10 + 1))), (4, .int 0), (3, .int (x3_10 + (F5_brand u (nI j10) 6))), (2, .int (x2_10 + (F5_brand u (nI j10) 5))), (0, .ref (q 0)), (1, .ref qb), (6, .int (LL_brands_37 u j10 (10 + 1) 1 x4_10 0).2), (7, .int (LL_brands_89 u j10 ((F5_count u 1).toNatClampNeg + 1) 0 (LL_brands_37 u j10 (10 + 1) 1 x4_10 0).1 0 0).2.1), (8, .int (LL_brands_89 u j10 ((F5_count u 1).toNatClampNeg + 1) 0 (LL_brands_37 u j10 (10 + 1) 1 x4_10 0).1 0 0).2.2)]) hx hb dL_brands_271 hl (k := 5) rfl (bInc j10) (by decide) rfl (fun ls hl => ?_)
                    refine lv_goto (tgt := 10) hx hb dL_brands_274 (by decide) ?_
                    exact ih (j10 + 1) (x2_10 + (F5_brand u (nI j10) 5)) (x3_10 + (F5_brand u (nI j10) 6)) 0 _ _ (by omega) (by omega) (lv_sub hl [4, 5, 3, 2, 1, 0] rfl) hS X (by rw [← hF, LL_brands_10, if_neg c_1, if_neg c_3, if_neg c_13, if_pos c_14, if_pos c_15, if_pos c_16, if_pos c_17]) kx
                  · refine lv_iconst (v := 1) hx hb dL_brands_264 (by decide) ?_
                    refine lv_goto (tgt := 269) hx hb dL_brands_265 (by decide) ?_
                    refine lv_istore (lv' := [(4, .int 1), (3, .int (x3_10 + (F5_brand u (nI j10) 6))), (2, .int (x2_10 + (F5_brand u (nI j10) 5))), (0, .ref (q 0)), (1, .ref qb), (5, .int (nI j10)), (6, .int (LL_brands_37 u j10 (10 + 1) 1 x4_10 0).2), (7, .int (LL_brands_89 u j10 ((F5_count u 1).toNatClampNeg + 1) 0 (LL_brands_37 u j10 (10 + 1) 1 x4_10 0).1 0 0).2.1), (8, .int (LL_brands_89 u j10 ((F5_count u 1).toNatClampNeg + 1) 0 (LL_brands_37 u j10 (10 + 1) 1 x4_10 0).1 0 0).2.2)]) hx hb dL_brands_269 hl (by decide) rfl (fun ls hl => ?_)
                    refine lv_iinc (v := (nI (j10 + 1))) (lv' := [(5, .int (nI (j10 + 1))), (4, .int 1), (3, .int (x3_10 + (F5_brand u (nI j10) 6))), (2, .int (x2_10 + (F5_brand u (nI j10) 5))), (0, .ref (q 0)), (1, .ref qb), (6, .int (LL_brands_37 u j10 (10 + 1) 1 x4_10 0).2), (7, .int (LL_brands_89 u j10 ((F5_count u 1).toNatClampNeg + 1) 0 (LL_brands_37 u j10 (10 + 1) 1 x4_10 0).1 0 0).2.1), (8, .int (LL_brands_89 u j10 ((F5_count u 1).toNatClampNeg + 1) 0 (LL_brands_37 u j10 (10 + 1) 1 x4_10 0).1 0 0).2.2)]) hx hb dL_brands_271 hl (k := 5) rfl (bInc j10) (by decide) rfl (fun ls hl => ?_)
                    refine lv_goto (tgt := 10) hx hb dL_brands_274 (by decide) ?_
                    exact ih (j10 + 1) (x2_10 + (F5_brand u (nI j10) 5)) (x3_10 + (F5_brand u (nI j10) 6)) 1 _ _ (by omega) (by omega) (lv_sub hl [4, 5, 3, 2, 1, 0] rfl) hS X (by rw [← hF, LL_brands_10, if_neg c_1, if_neg c_3, if_neg c_13, if_pos c_14, if_pos c_15, if_pos c_16, if_neg c_17]) kx
  refine loop10 ((F5_count u 0).toNatClampNeg + 1) 0 0 0 1 _ _ (by omega) (by omega) (lv_sub hl [4, 5, 3, 2, 1, 0] rfl) hS _ rfl (fun locs ls hl hS => ?_)
  refine lv_iload hx hb dL_brands_277 (lv_at hl 4 rfl) ?_
  refine lv_if_eq (tgt := 306) hx hb dL_brands_279 (by decide) (fun c_18 => ?_) (fun c_18 => ?_)
  · refine lv_iconst (v := 0) hx hb dL_brands_306 (by decide) ?_
    exact bret_Rz hx hb hr hS hlocks dL_brands_307 (Or.inl rfl) (by rw [← hF, FL_brands, if_pos c_18])
  · refine lv_iload_n hx hb dL_brands_282 rfl (lv_at hl 2 rfl) ?_
    refine lv_aload_n hx hb dL_brands_283 rfl (lv_at hl 0 rfl) ?_
    refine lv_bipush (v := 7) hx hb dL_brands_284 (by decide) ?_
    refine bcall_Ri (va_runV (As := [.int 7]) (rest := [.int (LL_brands_10 u fb ((F5_count u 0).toNatClampNeg + 1) 0 0 0 1).1]) ⟨hx, hb, hml, hown, hts⟩ (C5_count l D cI cO q _ _ hP 7 (by decide)) (cwV 1 hts gL_brands_X5_count rfl rfl rfl ⟨rfl, bd_X5count⟩ ⟨Nat.le_of_ble_eq_true rfl, Nat.le_of_ble_eq_true rfl⟩) (bPV hk (va_recv hk.1 hP (ci := 5) (q0 := 0) rfl (wC_0 _ _ _ _))) rfl rfl hl.1 rfl (lv_room (Nat.le_of_ble_eq_true rfl)) dL_brands_286 ⟨Nat.zero_le _, Nat.zero_le _⟩) hS (fun locs hS => ?_)
    refine lv_icmp_ne (tgt := 306) hx hb dL_brands_289 (by decide) (fun c_19 => ?_) (fun c_19 => ?_)
    · refine lv_iconst (v := 0) hx hb dL_brands_306 (by decide) ?_
      exact bret_Rz hx hb hr hS hlocks dL_brands_307 (Or.inl rfl) (by rw [← hF, FL_brands, if_neg c_18, if_neg c_19])
    · refine lv_iload_n hx hb dL_brands_292 rfl (lv_at hl 3 rfl) ?_
      refine lv_aload_n hx hb dL_brands_293 rfl (lv_at hl 0 rfl) ?_
      refine lv_bipush (v := 8) hx hb dL_brands_294 (by decide) ?_
      refine bcall_Ri (va_runV (As := [.int 8]) (rest := [.int (LL_brands_10 u fb ((F5_count u 0).toNatClampNeg + 1) 0 0 0 1).2.1]) ⟨hx, hb, hml, hown, hts⟩ (C5_count l D cI cO q _ _ hP 8 (by decide)) (cwV 1 hts gL_brands_X5_count rfl rfl rfl ⟨rfl, bd_X5count⟩ ⟨Nat.le_of_ble_eq_true rfl, Nat.le_of_ble_eq_true rfl⟩) (bPV hk (va_recv hk.1 hP (ci := 5) (q0 := 0) rfl (wC_0 _ _ _ _))) rfl rfl hl.1 rfl (lv_room (Nat.le_of_ble_eq_true rfl)) dL_brands_296 ⟨Nat.zero_le _, Nat.zero_le _⟩) hS (fun locs hS => ?_)
      refine lv_icmp_ne (tgt := 306) hx hb dL_brands_299 (by decide) (fun c_20 => ?_) (fun c_20 => ?_)
      · refine lv_iconst (v := 0) hx hb dL_brands_306 (by decide) ?_
        exact bret_Rz hx hb hr hS hlocks dL_brands_307 (Or.inl rfl) (by rw [← hF, FL_brands, if_neg c_18, if_pos c_19, if_neg c_20])
      · refine lv_iconst (v := 1) hx hb dL_brands_302 (by decide) ?_
        refine lv_goto (tgt := 307) hx hb dL_brands_303 (by decide) ?_
        exact bret_Rz hx hb hr hS hlocks dL_brands_307 (Or.inr rfl) (by rw [← hF, FL_brands, if_neg c_18, if_pos c_19, if_pos c_20])
def LL_money_20 (u : bU) : Nat → Nat → Int32 → Int32
  | 0, _, x2_20 => x2_20
  | n20 + 1, j20, x2_20 => (if (F5_count u 0) ≤ (nI j20) then x2_20 else (LL_money_20 u n20 (j20 + 1) (x2_20 + ((((F5_brand u (nI j20) 3) + (F5_brand u (nI j20) 4)) + (F5_brand u (nI j20) 5)) * (F5_setting u (F5_brand u (nI j20) 0))))))
def LL_money_92 (u : bU) : Nat → Nat → Int32 → Int32 → Int32 → Int32 → Int32 → Int32 → Int32 × Int32 × Int32 × Int32 × Int32 × Int32
  | 0, _, x3_92, x4_92, x5_92, x6_92, x7_92, x9_92 => (x3_92, x4_92, x5_92, x6_92, x7_92, x9_92)
  | n92 + 1, j92, x3_92, x4_92, x5_92, x6_92, x7_92, x9_92 => (if (F5_count u 1) ≤ (nI j92) then (x3_92, x4_92, x5_92, x6_92, x7_92, x9_92) else (if x9_92 = 0 then (LL_money_92 u n92 (j92 + 1) (x3_92 + (F5_shop u (nI j92) 0)) (x4_92 + (F5_shop u (nI j92) 4)) (x5_92 + (F5_shop u (nI j92) 5)) (x6_92 + (F5_shop u (nI j92) 1)) (x7_92 + (F5_shop u (nI j92) 6)) 0) else (if (F5_shop u (nI j92) 0) < 0 then (LL_money_92 u n92 (j92 + 1) (x3_92 + (F5_shop u (nI j92) 0)) (x4_92 + (F5_shop u (nI j92) 4)) (x5_92 + (F5_shop u (nI j92) 5)) (x6_92 + (F5_shop u (nI j92) 1)) (x7_92 + (F5_shop u (nI j92) 6)) 0) else (if (F5_shop u (nI j92) 1) < 0 then (LL_money_92 u n92 (j92 + 1) (x3_92 + (F5_shop u (nI j92) 0)) (x4_92 + (F5_shop u (nI j92) 4)) (x5_92 + (F5_shop u (nI j92) 5)) (x6_92 + (F5_shop u (nI j92) 1)) (x7_92 + (F5_shop u (nI j92) 6)) 0) else (LL_money_92 u n92 (j92 + 1) (x3_92 + (F5_shop u (nI j92) 0)) (x4_92 + (F5_shop u (nI j92) 4)) (x5_92 + (F5_shop u (nI j92) 5)) (x6_92 + (F5_shop u (nI j92) 1)) (x7_92 + (F5_shop u (nI j92) 6)) 1)))))
def LL_money_202 (u : bU) : Nat → Nat → Int32 → Int32 → Int32 × Int32
  | 0, _, x7_202, x8_202 => (x7_202, x8_202)
  | n202 + 1, j202, x7_202, x8_202 => (if (F5_count u 0) ≤ (nI j202) then (x7_202, x8_202) else (LL_money_202 u n202 (j202 + 1) (x7_202 - ((F5_brand u (nI j202) 5) + (F5_brand u (nI j202) 8))) (x8_202 + (((F5_brand u (nI j202) 5) + (F5_brand u (nI j202) 8)) * (F5_setting u (F5_brand u (nI j202) 0))))))
def FL_money (u : bU) (a2 : Int32) : Int32 := (if (LL_money_92 u ((F5_count u 1).toNatClampNeg + 1) 0 0 0 0 0 0 1).2.2.2.2.2 = 0 then 0 else (if (LL_money_20 u ((F5_count u 0).toNatClampNeg + 1) 0 (((F5_count u 3) * (F5_setting u 3)) + (F5_count u 5))) = (F5_count u 4) then (if (LL_money_92 u ((F5_count u 1).toNatClampNeg + 1) 0 0 0 0 0 0 1).2.1 = (F5_count u 4) then (if (LL_money_92 u ((F5_count u 1).toNatClampNeg + 1) 0 0 0 0 0 0 1).2.2.1 = (F5_count u 6) then (if (F5_count u 6) < 0 then 0 else (if (LL_money_92 u ((F5_count u 1).toNatClampNeg + 1) 0 0 0 0 0 0 1).2.2.2.1 = (F5_count u 3) then (if (LL_money_202 u ((F5_count u 0).toNatClampNeg + 1) 0 (LL_money_92 u ((F5_count u 1).toNatClampNeg + 1) 0 0 0 0 0 0 1).2.2.2.2.1 0).1 = 0 then (if (LL_money_92 u ((F5_count u 1).toNatClampNeg + 1) 0 0 0 0 0 0 1).1 = (((a2 - (LL_money_92 u ((F5_count u 1).toNatClampNeg + 1) 0 0 0 0 0 0 1).2.1) - (LL_money_92 u ((F5_count u 1).toNatClampNeg + 1) 0 0 0 0 0 0 1).2.2.1) + (LL_money_202 u ((F5_count u 0).toNatClampNeg + 1) 0 (LL_money_92 u ((F5_count u 1).toNatClampNeg + 1) 0 0 0 0 0 0 1).2.2.2.2.1 0).2) then 1 else 0) else 0) else 0)) else 0) else 0) else 0))
set_option maxHeartbeats 4000000 in
set_option maxRecDepth 100000 in
theorem CL_money (l : Launch) (D : va_G) (cI cO : ClassId) (q : Nat → Nat) (u : bU) (H0 : Heap) (hP : va_P D vwCl (wC cI cO q u) H0) (a2 : Int32) (hok : rdOK u) : Met l yL_money wsL_money ({ frames := 5, cells := 0, slots := 0, locals := 111 }) (bP D [(cI, .int), (cO, .object RX2)] H0 [.ref (q 0), .int a2]) (bRi H0 (FL_money u a2)) 0 0 (fun _ => False) := by
  refine Met.ofW (cc := cL_money) (maxL := 11) (ret := (some .boolean)) (by decide) rfl ?_
  intro p e s m args below meth c s₁ B hml hv
  obtain ⟨rfl, hH, hk⟩ := hv
  subst hH
  have hx := B.exec
  have hb := B.bytes
  have hr := B.returns
  have hts := atoms_spec (ws := wsL_money) B.pre
  have hown : s.vm.findClass RL = some m.cls := findClass_of_methodNamed B.named
  have hlocks := B.notSynchronized
  have hS : va_S (fun _ => False) s.heap s.heap [] := va_S.rf
  have hl := lv_entry ([.ref (q 0), .int a2]) (n := 11) (Nat.le_of_ble_eq_true rfl)
  rw [lg_entry_eq]
  generalize (lg_sl ([.ref (q 0), .int a2]) ++ List.replicate (11 - (lg_sl ([.ref (q 0), .int a2])).length) Slot.unset).toArray = ls at hl ⊢
  have hl : lv_has ls 11 [(0, .ref (q 0)), (1, .int a2)] := hl
  generalize hF : FL_money u a2 = tgt
  refine lv_aload_n hx hb dL_money_0 rfl (lv_at hl 0 rfl) ?_
  refine lv_iconst (v := 3) hx hb dL_money_1 (by decide) ?_
  refine bcall_Ri (va_runV (As := [.int 3]) (rest := []) ⟨hx, hb, hml, hown, hts⟩ (C5_count l D cI cO q _ _ hP 3 (by decide)) (cwV 1 hts gL_money_X5_count rfl rfl rfl ⟨rfl, bd_X5count⟩ ⟨Nat.le_of_ble_eq_true rfl, Nat.le_of_ble_eq_true rfl⟩) (bPV hk (va_recv hk.1 hP (ci := 5) (q0 := 0) rfl (wC_0 _ _ _ _))) rfl rfl hl.1 rfl (lv_room (Nat.le_of_ble_eq_true rfl)) dL_money_2 ⟨Nat.zero_le _, Nat.zero_le _⟩) hS (fun locs hS => ?_)
  refine lv_aload_n hx hb dL_money_5 rfl (lv_at hl 0 rfl) ?_
  refine lv_iconst (v := 3) hx hb dL_money_6 (by decide) ?_
  refine bcall_Ri (va_runV (As := [.int 3]) (rest := [.int (F5_count u 3)]) ⟨hx, hb, hml, hown, hts⟩ (C5_setting l D cI cO q _ _ hP 3 (by decide)) (cwV 1 hts gL_money_X5_setting rfl rfl rfl ⟨rfl, bd_X5setting⟩ ⟨Nat.le_of_ble_eq_true rfl, Nat.le_of_ble_eq_true rfl⟩) (bPV hk (va_recv hk.1 hP (ci := 5) (q0 := 0) rfl (wC_0 _ _ _ _))) rfl rfl hl.1 rfl (lv_room (Nat.le_of_ble_eq_true rfl)) dL_money_7 ⟨Nat.zero_le _, Nat.zero_le _⟩) hS (fun locs hS => ?_)
  refine lv_imul hx hb dL_money_10 ?_
  refine lv_aload_n hx hb dL_money_11 rfl (lv_at hl 0 rfl) ?_
  refine lv_iconst (v := 5) hx hb dL_money_12 (by decide) ?_
  refine bcall_Ri (va_runV (As := [.int 5]) (rest := [.int ((F5_count u 3) * (F5_setting u 3))]) ⟨hx, hb, hml, hown, hts⟩ (C5_count l D cI cO q _ _ hP 5 (by decide)) (cwV 1 hts gL_money_X5_count rfl rfl rfl ⟨rfl, bd_X5count⟩ ⟨Nat.le_of_ble_eq_true rfl, Nat.le_of_ble_eq_true rfl⟩) (bPV hk (va_recv hk.1 hP (ci := 5) (q0 := 0) rfl (wC_0 _ _ _ _))) rfl rfl hl.1 rfl (lv_room (Nat.le_of_ble_eq_true rfl)) dL_money_13 ⟨Nat.zero_le _, Nat.zero_le _⟩) hS (fun locs hS => ?_)
  refine lv_iadd hx hb dL_money_16 ?_
  refine lv_istore_n (lv' := [(2, .int (((F5_count u 3) * (F5_setting u 3)) + (F5_count u 5))), (0, .ref (q 0)), (1, .int a2)]) hx hb dL_money_17 rfl hl (by decide) rfl (fun ls hl => ?_)
  refine lv_iconst (v := 0) hx hb dL_money_18 (by decide) ?_
  refine lv_istore_n (lv' := [(3, .int 0), (2, .int (((F5_count u 3) * (F5_setting u 3)) + (F5_count u 5))), (0, .ref (q 0)), (1, .int a2)]) hx hb dL_money_19 rfl hl (by decide) rfl (fun ls hl => ?_)
  have hB20 := bClamp (F5_count u 0)
  have loop20 : ∀ (n20 j20 : Nat) (x2_20 : Int32) (locs : List Loc) (ls : Array Slot), j20 ≤ (F5_count u 0).toNatClampNeg → (F5_count u 0).toNatClampNeg + 1 ≤ n20 + j20 → lv_has ls 11 [(0, .ref (q 0)), (1, .int a2), (2, .int x2_20), (3, .int (nI j20))] → va_S (fun _ => False) s.heap s.heap locs → ∀ X : Int32, LL_money_20 u  n20 j20 x2_20 = X → (∀ (locs : List Loc) (ls : Array Slot), lv_has ls 11 [(0, .ref (q 0)), (1, .int a2), (2, .int X)] → va_S (fun _ => False) s.heap s.heap locs → W p l e (headSpec wsL_money ({ frames := 5, cells := 0, slots := 0, locals := 111 })).room s m ([.ref (q 0), .int a2] : List Value).toArray below meth c s.heap locs 0 0 (MQ below (bRi s.heap tgt) ([.ref (q 0), .int a2] : List Value).toArray s 0 0 (fun _ => False)) (F0 m 69 ls [])) → W p l e (headSpec wsL_money ({ frames := 5, cells := 0, slots := 0, locals := 111 })).room s m ([.ref (q 0), .int a2] : List Value).toArray below meth c s.heap locs 0 0 (MQ below (bRi s.heap tgt) ([.ref (q 0), .int a2] : List Value).toArray s 0 0 (fun _ => False)) (F0 m 20 ls []) := by
    intro n20
    induction n20 with
    | zero => intro j20 x2_20 locs ls hj hn; exact absurd hn (by omega)
    | succ n20 ih =>
      intro j20 x2_20 locs ls hj hn hl hS X hF kx
      refine lv_iload_n hx hb dL_money_20 rfl (lv_at hl 3 rfl) ?_
      refine lv_aload_n hx hb dL_money_21 rfl (lv_at hl 0 rfl) ?_
      refine lv_iconst (v := 0) hx hb dL_money_22 (by decide) ?_
      refine bcall_Ri (va_runV (As := [.int 0]) (rest := [.int (nI j20)]) ⟨hx, hb, hml, hown, hts⟩ (C5_count l D cI cO q _ _ hP 0 (by decide)) (cwV 1 hts gL_money_X5_count rfl rfl rfl ⟨rfl, bd_X5count⟩ ⟨Nat.le_of_ble_eq_true rfl, Nat.le_of_ble_eq_true rfl⟩) (bPV hk (va_recv hk.1 hP (ci := 5) (q0 := 0) rfl (wC_0 _ _ _ _))) rfl rfl hl.1 rfl (lv_room (Nat.le_of_ble_eq_true rfl)) dL_money_23 ⟨Nat.zero_le _, Nat.zero_le _⟩) hS (fun locs hS => ?_)
      refine lv_icmp_ge (tgt := 69) hx hb dL_money_26 (by decide) (fun c_1 => ?_) (fun c_1 => ?_)
      · obtain rfl : X = x2_20 := by rw [← hF, LL_money_20, if_pos c_1]
        exact kx _ _ (lv_sub hl [0, 1, 2] rfl) hS
      · have hlt_2 : j20 < (F5_count u 0).toNatClampNeg := bLtB c_1 (by omega)
        refine lv_iload_n hx hb dL_money_29 rfl (lv_at hl 2 rfl) ?_
        refine lv_aload_n hx hb dL_money_30 rfl (lv_at hl 0 rfl) ?_
        refine lv_iload_n hx hb dL_money_31 rfl (lv_at hl 3 rfl) ?_
        refine lv_iconst (v := 3) hx hb dL_money_32 (by decide) ?_
        refine bcall_Ri (va_runV (As := [.int (nI j20), .int 3]) (rest := [.int x2_20]) ⟨hx, hb, hml, hown, hts⟩ (C5_brand l D cI cO q _ _ hP (nI j20) 3 (ok_nb hok hlt_2) (by decide)) (cwV 2 hts gL_money_X5_brand rfl rfl rfl ⟨rfl, bd_X5brand⟩ ⟨Nat.le_of_ble_eq_true rfl, Nat.le_of_ble_eq_true rfl⟩) (bPV hk (va_recv hk.1 hP (ci := 5) (q0 := 0) rfl (wC_0 _ _ _ _))) rfl rfl hl.1 rfl (lv_room (Nat.le_of_ble_eq_true rfl)) dL_money_33 ⟨Nat.zero_le _, Nat.zero_le _⟩) hS (fun locs hS => ?_)
        refine lv_aload_n hx hb dL_money_36 rfl (lv_at hl 0 rfl) ?_
        refine lv_iload_n hx hb dL_money_37 rfl (lv_at hl 3 rfl) ?_
        refine lv_iconst (v := 4) hx hb dL_money_38 (by decide) ?_
        refine bcall_Ri (va_runV (As := [.int (nI j20), .int 4]) (rest := [.int (F5_brand u (nI j20) 3), .int x2_20]) ⟨hx, hb, hml, hown, hts⟩ (C5_brand l D cI cO q _ _ hP (nI j20) 4 (ok_nb hok hlt_2) (by decide)) (cwV 2 hts gL_money_X5_brand rfl rfl rfl ⟨rfl, bd_X5brand⟩ ⟨Nat.le_of_ble_eq_true rfl, Nat.le_of_ble_eq_true rfl⟩) (bPV hk (va_recv hk.1 hP (ci := 5) (q0 := 0) rfl (wC_0 _ _ _ _))) rfl rfl hl.1 rfl (lv_room (Nat.le_of_ble_eq_true rfl)) dL_money_39 ⟨Nat.zero_le _, Nat.zero_le _⟩) hS (fun locs hS => ?_)
        refine lv_iadd hx hb dL_money_42 ?_
        refine lv_aload_n hx hb dL_money_43 rfl (lv_at hl 0 rfl) ?_
        refine lv_iload_n hx hb dL_money_44 rfl (lv_at hl 3 rfl) ?_
        refine lv_iconst (v := 5) hx hb dL_money_45 (by decide) ?_
        refine bcall_Ri (va_runV (As := [.int (nI j20), .int 5]) (rest := [.int ((F5_brand u (nI j20) 3) + (F5_brand u (nI j20) 4)), .int x2_20]) ⟨hx, hb, hml, hown, hts⟩ (C5_brand l D cI cO q _ _ hP (nI j20) 5 (ok_nb hok hlt_2) (by decide)) (cwV 2 hts gL_money_X5_brand rfl rfl rfl ⟨rfl, bd_X5brand⟩ ⟨Nat.le_of_ble_eq_true rfl, Nat.le_of_ble_eq_true rfl⟩) (bPV hk (va_recv hk.1 hP (ci := 5) (q0 := 0) rfl (wC_0 _ _ _ _))) rfl rfl hl.1 rfl (lv_room (Nat.le_of_ble_eq_true rfl)) dL_money_46 ⟨Nat.zero_le _, Nat.zero_le _⟩) hS (fun locs hS => ?_)
        refine lv_iadd hx hb dL_money_49 ?_
        refine lv_aload_n hx hb dL_money_50 rfl (lv_at hl 0 rfl) ?_
        refine lv_aload_n hx hb dL_money_51 rfl (lv_at hl 0 rfl) ?_
        refine lv_iload_n hx hb dL_money_52 rfl (lv_at hl 3 rfl) ?_
        refine lv_iconst (v := 0) hx hb dL_money_53 (by decide) ?_
        refine bcall_Ri (va_runV (As := [.int (nI j20), .int 0]) (rest := [.ref (q 0), .int (((F5_brand u (nI j20) 3) + (F5_brand u (nI j20) 4)) + (F5_brand u (nI j20) 5)), .int x2_20]) ⟨hx, hb, hml, hown, hts⟩ (C5_brand l D cI cO q _ _ hP (nI j20) 0 (ok_nb hok hlt_2) (by decide)) (cwV 2 hts gL_money_X5_brand rfl rfl rfl ⟨rfl, bd_X5brand⟩ ⟨Nat.le_of_ble_eq_true rfl, Nat.le_of_ble_eq_true rfl⟩) (bPV hk (va_recv hk.1 hP (ci := 5) (q0 := 0) rfl (wC_0 _ _ _ _))) rfl rfl hl.1 rfl (lv_room (Nat.le_of_ble_eq_true rfl)) dL_money_54 ⟨Nat.zero_le _, Nat.zero_le _⟩) hS (fun locs hS => ?_)
        refine bcall_Ri (va_runV (As := [.int (F5_brand u (nI j20) 0)]) (rest := [.int (((F5_brand u (nI j20) 3) + (F5_brand u (nI j20) 4)) + (F5_brand u (nI j20) 5)), .int x2_20]) ⟨hx, hb, hml, hown, hts⟩ (C5_setting l D cI cO q _ _ hP (F5_brand u (nI j20) 0) (ok_set hok hlt_2)) (cwV 1 hts gL_money_X5_setting rfl rfl rfl ⟨rfl, bd_X5setting⟩ ⟨Nat.le_of_ble_eq_true rfl, Nat.le_of_ble_eq_true rfl⟩) (bPV hk (va_recv hk.1 hP (ci := 5) (q0 := 0) rfl (wC_0 _ _ _ _))) rfl rfl hl.1 rfl (lv_room (Nat.le_of_ble_eq_true rfl)) dL_money_57 ⟨Nat.zero_le _, Nat.zero_le _⟩) hS (fun locs hS => ?_)
        refine lv_imul hx hb dL_money_60 ?_
        refine lv_iadd hx hb dL_money_61 ?_
        refine lv_istore_n (lv' := [(2, .int (x2_20 + ((((F5_brand u (nI j20) 3) + (F5_brand u (nI j20) 4)) + (F5_brand u (nI j20) 5)) * (F5_setting u (F5_brand u (nI j20) 0))))), (0, .ref (q 0)), (1, .int a2), (3, .int (nI j20))]) hx hb dL_money_62 rfl hl (by decide) rfl (fun ls hl => ?_)
        refine lv_iinc (v := (nI (j20 + 1))) (lv' := [(3, .int (nI (j20 + 1))), (2, .int (x2_20 + ((((F5_brand u (nI j20) 3) + (F5_brand u (nI j20) 4)) + (F5_brand u (nI j20) 5)) * (F5_setting u (F5_brand u (nI j20) 0))))), (0, .ref (q 0)), (1, .int a2)]) hx hb dL_money_63 hl (k := 3) rfl (bInc j20) (by decide) rfl (fun ls hl => ?_)
        refine lv_goto (tgt := 20) hx hb dL_money_66 (by decide) ?_
        exact ih (j20 + 1) (x2_20 + ((((F5_brand u (nI j20) 3) + (F5_brand u (nI j20) 4)) + (F5_brand u (nI j20) 5)) * (F5_setting u (F5_brand u (nI j20) 0)))) _ _ (by omega) (by omega) (lv_sub hl [2, 3, 1, 0] rfl) hS X (by rw [← hF, LL_money_20, if_neg c_1]) kx
  refine loop20 ((F5_count u 0).toNatClampNeg + 1) 0 (((F5_count u 3) * (F5_setting u 3)) + (F5_count u 5)) _ _ (by omega) (by omega) (lv_sub hl [2, 3, 1, 0] rfl) hS _ rfl (fun locs ls hl hS => ?_)
  refine lv_iconst (v := 0) hx hb dL_money_69 (by decide) ?_
  refine lv_istore_n (lv' := [(3, .int 0), (0, .ref (q 0)), (1, .int a2), (2, .int (LL_money_20 u ((F5_count u 0).toNatClampNeg + 1) 0 (((F5_count u 3) * (F5_setting u 3)) + (F5_count u 5))))]) hx hb dL_money_70 rfl hl (by decide) rfl (fun ls hl => ?_)
  refine lv_iconst (v := 0) hx hb dL_money_71 (by decide) ?_
  refine lv_istore (lv' := [(4, .int 0), (3, .int 0), (0, .ref (q 0)), (1, .int a2), (2, .int (LL_money_20 u ((F5_count u 0).toNatClampNeg + 1) 0 (((F5_count u 3) * (F5_setting u 3)) + (F5_count u 5))))]) hx hb dL_money_72 hl (by decide) rfl (fun ls hl => ?_)
  refine lv_iconst (v := 0) hx hb dL_money_74 (by decide) ?_
  refine lv_istore (lv' := [(5, .int 0), (4, .int 0), (3, .int 0), (0, .ref (q 0)), (1, .int a2), (2, .int (LL_money_20 u ((F5_count u 0).toNatClampNeg + 1) 0 (((F5_count u 3) * (F5_setting u 3)) + (F5_count u 5))))]) hx hb dL_money_75 hl (by decide) rfl (fun ls hl => ?_)
  refine lv_iconst (v := 0) hx hb dL_money_77 (by decide) ?_
  refine lv_istore (lv' := [(6, .int 0), (5, .int 0), (4, .int 0), (3, .int 0), (0, .ref (q 0)), (1, .int a2), (2, .int (LL_money_20 u ((F5_count u 0).toNatClampNeg + 1) 0 (((F5_count u 3) * (F5_setting u 3)) + (F5_count u 5))))]) hx hb dL_money_78 hl (by decide) rfl (fun ls hl => ?_)
  refine lv_iconst (v := 0) hx hb dL_money_80 (by decide) ?_
  refine lv_istore (lv' := [(7, .int 0), (6, .int 0), (5, .int 0), (4, .int 0), (3, .int 0), (0, .ref (q 0)), (1, .int a2), (2, .int (LL_money_20 u ((F5_count u 0).toNatClampNeg + 1) 0 (((F5_count u 3) * (F5_setting u 3)) + (F5_count u 5))))]) hx hb dL_money_81 hl (by decide) rfl (fun ls hl => ?_)
  refine lv_iconst (v := 0) hx hb dL_money_83 (by decide) ?_
  refine lv_istore (lv' := [(8, .int 0), (7, .int 0), (6, .int 0), (5, .int 0), (4, .int 0), (3, .int 0), (0, .ref (q 0)), (1, .int a2), (2, .int (LL_money_20 u ((F5_count u 0).toNatClampNeg + 1) 0 (((F5_count u 3) * (F5_setting u 3)) + (F5_count u 5))))]) hx hb dL_money_84 hl (by decide) rfl (fun ls hl => ?_)
  refine lv_iconst (v := 1) hx hb dL_money_86 (by decide) ?_
  refine lv_istore (lv' := [(9, .int 1), (8, .int 0), (7, .int 0), (6, .int 0), (5, .int 0), (4, .int 0), (3, .int 0), (0, .ref (q 0)), (1, .int a2), (2, .int (LL_money_20 u ((F5_count u 0).toNatClampNeg + 1) 0 (((F5_count u 3) * (F5_setting u 3)) + (F5_count u 5))))]) hx hb dL_money_87 hl (by decide) rfl (fun ls hl => ?_)
  refine lv_iconst (v := 0) hx hb dL_money_89 (by decide) ?_
  refine lv_istore (lv' := [(10, .int 0), (9, .int 1), (8, .int 0), (7, .int 0), (6, .int 0), (5, .int 0), (4, .int 0), (3, .int 0), (0, .ref (q 0)), (1, .int a2), (2, .int (LL_money_20 u ((F5_count u 0).toNatClampNeg + 1) 0 (((F5_count u 3) * (F5_setting u 3)) + (F5_count u 5))))]) hx hb dL_money_90 hl (by decide) rfl (fun ls hl => ?_)
  have hB92 := bClamp (F5_count u 1)
  have loop92 : ∀ (n92 j92 : Nat) (x3_92 : Int32) (x4_92 : Int32) (x5_92 : Int32) (x6_92 : Int32) (x7_92 : Int32) (x9_92 : Int32) (locs : List Loc) (ls : Array Slot), j92 ≤ (F5_count u 1).toNatClampNeg → (F5_count u 1).toNatClampNeg + 1 ≤ n92 + j92 → lv_has ls 11 [(0, .ref (q 0)), (1, .int a2), (2, .int (LL_money_20 u ((F5_count u 0).toNatClampNeg + 1) 0 (((F5_count u 3) * (F5_setting u 3)) + (F5_count u 5)))), (3, .int x3_92), (4, .int x4_92), (5, .int x5_92), (6, .int x6_92), (7, .int x7_92), (8, .int 0), (9, .int x9_92), (10, .int (nI j92))] → va_S (fun _ => False) s.heap s.heap locs → ∀ X : Int32 × Int32 × Int32 × Int32 × Int32 × Int32, LL_money_92 u  n92 j92 x3_92 x4_92 x5_92 x6_92 x7_92 x9_92 = X → (∀ (locs : List Loc) (ls : Array Slot), lv_has ls 11 [(0, .ref (q 0)), (1, .int a2), (2, .int (LL_money_20 u ((F5_count u 0).toNatClampNeg + 1) 0 (((F5_count u 3) * (F5_setting u 3)) + (F5_count u 5)))), (3, .int X.1), (4, .int X.2.1), (5, .int X.2.2.1), (6, .int X.2.2.2.1), (7, .int X.2.2.2.2.1), (8, .int 0), (9, .int X.2.2.2.2.2)] → va_S (fun _ => False) s.heap s.heap locs → W p l e (headSpec wsL_money ({ frames := 5, cells := 0, slots := 0, locals := 111 })).room s m ([.ref (q 0), .int a2] : List Value).toArray below meth c s.heap locs 0 0 (MQ below (bRi s.heap tgt) ([.ref (q 0), .int a2] : List Value).toArray s 0 0 (fun _ => False)) (F0 m 199 ls [])) → W p l e (headSpec wsL_money ({ frames := 5, cells := 0, slots := 0, locals := 111 })).room s m ([.ref (q 0), .int a2] : List Value).toArray below meth c s.heap locs 0 0 (MQ below (bRi s.heap tgt) ([.ref (q 0), .int a2] : List Value).toArray s 0 0 (fun _ => False)) (F0 m 92 ls []) := by
    intro n92
    induction n92 with
    | zero => intro j92 x3_92 x4_92 x5_92 x6_92 x7_92 x9_92 locs ls hj hn; exact absurd hn (by omega)
    | succ n92 ih =>
      intro j92 x3_92 x4_92 x5_92 x6_92 x7_92 x9_92 locs ls hj hn hl hS X hF kx
      refine lv_iload hx hb dL_money_92 (lv_at hl 10 rfl) ?_
      refine lv_aload_n hx hb dL_money_94 rfl (lv_at hl 0 rfl) ?_
      refine lv_iconst (v := 1) hx hb dL_money_95 (by decide) ?_
      refine bcall_Ri (va_runV (As := [.int 1]) (rest := [.int (nI j92)]) ⟨hx, hb, hml, hown, hts⟩ (C5_count l D cI cO q _ _ hP 1 (by decide)) (cwV 1 hts gL_money_X5_count rfl rfl rfl ⟨rfl, bd_X5count⟩ ⟨Nat.le_of_ble_eq_true rfl, Nat.le_of_ble_eq_true rfl⟩) (bPV hk (va_recv hk.1 hP (ci := 5) (q0 := 0) rfl (wC_0 _ _ _ _))) rfl rfl hl.1 rfl (lv_room (Nat.le_of_ble_eq_true rfl)) dL_money_96 ⟨Nat.zero_le _, Nat.zero_le _⟩) hS (fun locs hS => ?_)
      refine lv_icmp_ge (tgt := 199) hx hb dL_money_99 (by decide) (fun c_3 => ?_) (fun c_3 => ?_)
      · obtain rfl : X = (x3_92, x4_92, x5_92, x6_92, x7_92, x9_92) := by rw [← hF, LL_money_92, if_pos c_3]
        exact kx _ _ (lv_sub hl [0, 1, 2, 3, 4, 5, 6, 7, 8, 9] rfl) hS
      · have hlt_4 : j92 < (F5_count u 1).toNatClampNeg := bLtB c_3 (by omega)
        refine lv_iload_n hx hb dL_money_102 rfl (lv_at hl 3 rfl) ?_
        refine lv_aload_n hx hb dL_money_103 rfl (lv_at hl 0 rfl) ?_
        refine lv_iload hx hb dL_money_104 (lv_at hl 10 rfl) ?_
        refine lv_iconst (v := 0) hx hb dL_money_106 (by decide) ?_
        refine bcall_Ri (va_runV (As := [.int (nI j92), .int 0]) (rest := [.int x3_92]) ⟨hx, hb, hml, hown, hts⟩ (C5_shop l D cI cO q _ _ hP (nI j92) 0 (ok_ns hok hlt_4) (by decide)) (cwV 2 hts gL_money_X5_shop rfl rfl rfl ⟨rfl, bd_X5shop⟩ ⟨Nat.le_of_ble_eq_true rfl, Nat.le_of_ble_eq_true rfl⟩) (bPV hk (va_recv hk.1 hP (ci := 5) (q0 := 0) rfl (wC_0 _ _ _ _))) rfl rfl hl.1 rfl (lv_room (Nat.le_of_ble_eq_true rfl)) dL_money_107 ⟨Nat.zero_le _, Nat.zero_le _⟩) hS (fun locs hS => ?_)
        refine lv_iadd hx hb dL_money_110 ?_
        refine lv_istore_n (lv' := [(3, .int (x3_92 + (F5_shop u (nI j92) 0))), (0, .ref (q 0)), (1, .int a2), (2, .int (LL_money_20 u ((F5_count u 0).toNatClampNeg + 1) 0 (((F5_count u 3) * (F5_setting u 3)) + (F5_count u 5)))), (4, .int x4_92), (5, .int x5_92), (6, .int x6_92), (7, .int x7_92), (8, .int 0), (9, .int x9_92), (10, .int (nI j92))]) hx hb dL_money_111 rfl hl (by decide) rfl (fun ls hl => ?_)
        refine lv_iload hx hb dL_money_112 (lv_at hl 4 rfl) ?_
        refine lv_aload_n hx hb dL_money_114 rfl (lv_at hl 1 rfl) ?_
        refine lv_iload hx hb dL_money_115 (lv_at hl 10 rfl) ?_
        refine lv_iconst (v := 4) hx hb dL_money_117 (by decide) ?_
        refine bcall_Ri (va_runV (As := [.int (nI j92), .int 4]) (rest := [.int x4_92]) ⟨hx, hb, hml, hown, hts⟩ (C5_shop l D cI cO q _ _ hP (nI j92) 4 (ok_ns hok hlt_4) (by decide)) (cwV 2 hts gL_money_X5_shop rfl rfl rfl ⟨rfl, bd_X5shop⟩ ⟨Nat.le_of_ble_eq_true rfl, Nat.le_of_ble_eq_true rfl⟩) (bPV hk (va_recv hk.1 hP (ci := 5) (q0 := 0) rfl (wC_0 _ _ _ _))) rfl rfl hl.1 rfl (lv_room (Nat.le_of_ble_eq_true rfl)) dL_money_118 ⟨Nat.zero_le _, Nat.zero_le _⟩) hS (fun locs hS => ?_)
        refine lv_iadd hx hb dL_money_121 ?_
        refine lv_istore (lv' := [(4, .int (x4_92 + (F5_shop u (nI j92) 4))), (3, .int (x3_92 + (F5_shop u (nI j92) 0))), (0, .ref (q 0)), (1, .int a2), (2, .int (LL_money_20 u ((F5_count u 0).toNatClampNeg + 1) 0 (((F5_count u 3) * (F5_setting u 3)) + (F5_count u 5)))), (5, .int x5_92), (6, .int x6_92), (7, .int x7_92), (8, .int 0), (9, .int x9_92), (10, .int (nI j92))]) hx hb dL_money_122 hl (by decide) rfl (fun ls hl => ?_)
        refine lv_iload hx hb dL_money_124 (lv_at hl 5 rfl) ?_
        refine lv_aload_n hx hb dL_money_126 rfl (lv_at hl 2 rfl) ?_
        refine lv_iload hx hb dL_money_127 (lv_at hl 10 rfl) ?_
        refine lv_iconst (v := 5) hx hb dL_money_129 (by decide) ?_
        refine bcall_Ri (va_runV (As := [.int (nI j92), .int 5]) (rest := [.int x5_92]) ⟨hx, hb, hml, hown, hts⟩ (C5_shop l D cI cO q _ _ hP (nI j92) 5 (ok_ns hok hlt_4) (by decide)) (cwV 2 hts gL_money_X5_shop rfl rfl rfl ⟨rfl, bd_X5shop⟩ ⟨Nat.le_of_ble_eq_true rfl, Nat.le_of_ble_eq_true rfl⟩) (bPV hk (va_recv hk.1 hP (ci := 5) (q0 := 0) rfl (wC_0 _ _ _ _))) rfl rfl hl.1 rfl (lv_room (Nat.le_of_ble_eq_true rfl)) dL_money_130 ⟨Nat.zero_le _, Nat.zero_le _⟩) hS (fun locs hS => ?_)
        refine lv_iadd hx hb dL_money_133 ?_
        refine lv_istore (lv' := [(5, .int (x5_92 + (F5_shop u (nI j92) 5))), (4, .int (x4_92 + (F5_shop u (nI j92) 4))), (3, .int (x3_92 + (F5_shop u (nI j92) 0))), (0, .ref (q 0)), (1, .int a2), (2, .int (LL_money_20 u ((F5_count u 0).toNatClampNeg + 1) 0 (((F5_count u 3) * (F5_setting u 3)) + (F5_count u 5)))), (6, .int x6_92), (7, .int x7_92), (8, .int 0), (9, .int x9_92), (10, .int (nI j92))]) hx hb dL_money_134 hl (by decide) rfl (fun ls hl => ?_)
        refine lv_iload hx hb dL_money_136 (lv_at hl 6 rfl) ?_
        refine lv_aload_n hx hb dL_money_138 rfl (lv_at hl 3 rfl) ?_
        refine lv_iload hx hb dL_money_139 (lv_at hl 10 rfl) ?_
        refine lv_iconst (v := 1) hx hb dL_money_141 (by decide) ?_
        refine bcall_Ri (va_runV (As := [.int (nI j92), .int 1]) (rest := [.int x6_92]) ⟨hx, hb, hml, hown, hts⟩ (C5_shop l D cI cO q _ _ hP (nI j92) 1 (ok_ns hok hlt_4) (by decide)) (cwV 2 hts gL_money_X5_shop rfl rfl rfl ⟨rfl, bd_X5shop⟩ ⟨Nat.le_of_ble_eq_true rfl, Nat.le_of_ble_eq_true rfl⟩) (bPV hk (va_recv hk.1 hP (ci := 5) (q0 := 0) rfl (wC_0 _ _ _ _))) rfl rfl hl.1 rfl (lv_room (Nat.le_of_ble_eq_true rfl)) dL_money_142 ⟨Nat.zero_le _, Nat.zero_le _⟩) hS (fun locs hS => ?_)
        refine lv_iadd hx hb dL_money_145 ?_
        refine lv_istore (lv' := [(6, .int (x6_92 + (F5_shop u (nI j92) 1))), (5, .int (x5_92 + (F5_shop u (nI j92) 5))), (4, .int (x4_92 + (F5_shop u (nI j92) 4))), (3, .int (x3_92 + (F5_shop u (nI j92) 0))), (0, .ref (q 0)), (1, .int a2), (2, .int (LL_money_20 u ((F5_count u 0).toNatClampNeg + 1) 0 (((F5_count u 3) * (F5_setting u 3)) + (F5_count u 5)))), (7, .int x7_92), (8, .int 0), (9, .int x9_92), (10, .int (nI j92))]) hx hb dL_money_146 hl (by decide) rfl (fun ls hl => ?_)
        refine lv_iload hx hb dL_money_148 (lv_at hl 7 rfl) ?_
        refine lv_aload_n hx hb dL_money_150 rfl (lv_at hl 4 rfl) ?_
        refine lv_iload hx hb dL_money_151 (lv_at hl 10 rfl) ?_
        refine lv_bipush (v := 6) hx hb dL_money_153 (by decide) ?_
        refine bcall_Ri (va_runV (As := [.int (nI j92), .int 6]) (rest := [.int x7_92]) ⟨hx, hb, hml, hown, hts⟩ (C5_shop l D cI cO q _ _ hP (nI j92) 6 (ok_ns hok hlt_4) (by decide)) (cwV 2 hts gL_money_X5_shop rfl rfl rfl ⟨rfl, bd_X5shop⟩ ⟨Nat.le_of_ble_eq_true rfl, Nat.le_of_ble_eq_true rfl⟩) (bPV hk (va_recv hk.1 hP (ci := 5) (q0 := 0) rfl (wC_0 _ _ _ _))) rfl rfl hl.1 rfl (lv_room (Nat.le_of_ble_eq_true rfl)) dL_money_155 ⟨Nat.zero_le _, Nat.zero_le _⟩) hS (fun locs hS => ?_)
        refine lv_iadd hx hb dL_money_158 ?_
        refine lv_istore (lv' := [(7, .int (x7_92 + (F5_shop u (nI j92) 6))), (6, .int (x6_92 + (F5_shop u (nI j92) 1))), (5, .int (x5_92 + (F5_shop u (nI j92) 5))), (4, .int (x4_92 + (F5_shop u (nI j92) 4))), (3, .int (x3_92 + (F5_shop u (nI j92) 0))), (0, .ref (q 0)), (1, .int a2), (2, .int (LL_money_20 u ((F5_count u 0).toNatClampNeg + 1) 0 (((F5_count u 3) * (F5_setting u 3)) + (F5_count u 5)))), (8, .int 0), (9, .int x9_92), (10, .int (nI j92))]) hx hb dL_money_159 hl (by decide) rfl (fun ls hl => ?_)
        refine lv_iload hx hb dL_money_161 (lv_at hl 9 rfl) ?_
        refine lv_if_eq (tgt := 190) hx hb dL_money_163 (by decide) (fun c_5 => ?_) (fun c_5 => ?_)
        · refine lv_iconst (v := 0) hx hb dL_money_190 (by decide) ?_
          refine lv_istore (lv' := [(9, .int 0), (7, .int (x7_92 + (F5_shop u (nI j92) 6))), (6, .int (x6_92 + (F5_shop u (nI j92) 1))), (5, .int (x5_92 + (F5_shop u (nI j92) 5))), (4, .int (x4_92 + (F5_shop u (nI j92) 4))), (3, .int (x3_92 + (F5_shop u (nI j92) 0))), (0, .ref (q 0)), (1, .int a2), (2, .int (LL_money_20 u ((F5_count u 0).toNatClampNeg + 1) 0 (((F5_count u 3) * (F5_setting u 3)) + (F5_count u 5)))), (8, .int 0), (10, .int (nI j92))]) hx hb dL_money_191 hl (by decide) rfl (fun ls hl => ?_)
          refine lv_iinc (v := (nI (j92 + 1))) (lv' := [(10, .int (nI (j92 + 1))), (9, .int 0), (7, .int (x7_92 + (F5_shop u (nI j92) 6))), (6, .int (x6_92 + (F5_shop u (nI j92) 1))), (5, .int (x5_92 + (F5_shop u (nI j92) 5))), (4, .int (x4_92 + (F5_shop u (nI j92) 4))), (3, .int (x3_92 + (F5_shop u (nI j92) 0))), (0, .ref (q 0)), (1, .int a2), (2, .int (LL_money_20 u ((F5_count u 0).toNatClampNeg + 1) 0 (((F5_count u 3) * (F5_setting u 3)) + (F5_count u 5)))), (8, .int 0)]) hx hb dL_money_193 hl (k := 10) rfl (bInc j92) (by decide) rfl (fun ls hl => ?_)
          refine lv_goto (tgt := 92) hx hb dL_money_196 (by decide) ?_
          exact ih (j92 + 1) (x3_92 + (F5_shop u (nI j92) 0)) (x4_92 + (F5_shop u (nI j92) 4)) (x5_92 + (F5_shop u (nI j92) 5)) (x6_92 + (F5_shop u (nI j92) 1)) (x7_92 + (F5_shop u (nI j92) 6)) 0 _ _ (by omega) (by omega) (lv_sub hl [7, 8, 9, 6, 5, 4, 3, 2, 10, 1, 0] rfl) hS X (by rw [← hF, LL_money_92, if_neg c_3, if_pos c_5]) kx
        · refine lv_aload_n hx hb dL_money_166 rfl (lv_at hl 5 rfl) ?_
          refine lv_iload hx hb dL_money_167 (lv_at hl 10 rfl) ?_
          refine lv_iconst (v := 0) hx hb dL_money_169 (by decide) ?_
          refine bcall_Ri (va_runV (As := [.int (nI j92), .int 0]) (rest := []) ⟨hx, hb, hml, hown, hts⟩ (C5_shop l D cI cO q _ _ hP (nI j92) 0 (ok_ns hok hlt_4) (by decide)) (cwV 2 hts gL_money_X5_shop rfl rfl rfl ⟨rfl, bd_X5shop⟩ ⟨Nat.le_of_ble_eq_true rfl, Nat.le_of_ble_eq_true rfl⟩) (bPV hk (va_recv hk.1 hP (ci := 5) (q0 := 0) rfl (wC_0 _ _ _ _))) rfl rfl hl.1 rfl (lv_room (Nat.le_of_ble_eq_true rfl)) dL_money_170 ⟨Nat.zero_le _, Nat.zero_le _⟩) hS (fun locs hS => ?_)
          refine lv_if_lt (tgt := 190) hx hb dL_money_173 (by decide) (fun c_6 => ?_) (fun c_6 => ?_)
          · refine lv_iconst (v := 0) hx hb dL_money_190 (by decide) ?_
            refine lv_istore (lv' := [(9, .int 0), (7, .int (x7_92 + (F5_shop u (nI j92) 6))), (6, .int (x6_92 + (F5_shop u (nI j92) 1))), (5, .int (x5_92 + (F5_shop u (nI j92) 5))), (4, .int (x4_92 + (F5_shop u (nI j92) 4))), (3, .int (x3_92 + (F5_shop u (nI j92) 0))), (0, .ref (q 0)), (1, .int a2), (2, .int (LL_money_20 u ((F5_count u 0).toNatClampNeg + 1) 0 (((F5_count u 3) * (F5_setting u 3)) + (F5_count u 5)))), (8, .int 0), (10, .int (nI j92))]) hx hb dL_money_191 hl (by decide) rfl (fun ls hl => ?_)
            refine lv_iinc (v := (nI (j92 + 1))) (lv' := [(10, .int (nI (j92 + 1))), (9, .int 0), (7, .int (x7_92 + (F5_shop u (nI j92) 6))), (6, .int (x6_92 + (F5_shop u (nI j92) 1))), (5, .int (x5_92 + (F5_shop u (nI j92) 5))), (4, .int (x4_92 + (F5_shop u (nI j92) 4))), (3, .int (x3_92 + (F5_shop u (nI j92) 0))), (0, .ref (q 0)), (1, .int a2), (2, .int (LL_money_20 u ((F5_count u 0).toNatClampNeg + 1) 0 (((F5_count u 3) * (F5_setting u 3)) + (F5_count u 5)))), (8, .int 0)]) hx hb dL_money_193 hl (k := 10) rfl (bInc j92) (by decide) rfl (fun ls hl => ?_)
            refine lv_goto (tgt := 92) hx hb dL_money_196 (by decide) ?_
            exact ih (j92 + 1) (x3_92 + (F5_shop u (nI j92) 0)) (x4_92 + (F5_shop u (nI j92) 4)) (x5_92 + (F5_shop u (nI j92) 5)) (x6_92 + (F5_shop u (nI j92) 1)) (x7_92 + (F5_shop u (nI j92) 6)) 0 _ _ (by omega) (by omega) (lv_sub hl [7, 8, 9, 6, 5, 4, 3, 2, 10, 1, 0] rfl) hS X (by rw [← hF, LL_money_92, if_neg c_3, if_neg c_5, if_pos c_6]) kx
          · refine lv_aload_n hx hb dL_money_176 rfl (lv_at hl 5 rfl) ?_
            refine lv_iload hx hb dL_money_177 (lv_at hl 10 rfl) ?_
            refine lv_iconst (v := 1) hx hb dL_money_179 (by decide) ?_
            refine bcall_Ri (va_runV (As := [.int (nI j92), .int 1]) (rest := []) ⟨hx, hb, hml, hown, hts⟩ (C5_shop l D cI cO q _ _ hP (nI j92) 1 (ok_ns hok hlt_4) (by decide)) (cwV 2 hts gL_money_X5_shop rfl rfl rfl ⟨rfl, bd_X5shop⟩ ⟨Nat.le_of_ble_eq_true rfl, Nat.le_of_ble_eq_true rfl⟩) (bPV hk (va_recv hk.1 hP (ci := 5) (q0 := 0) rfl (wC_0 _ _ _ _))) rfl rfl hl.1 rfl (lv_room (Nat.le_of_ble_eq_true rfl)) dL_money_180 ⟨Nat.zero_le _, Nat.zero_le _⟩) hS (fun locs hS => ?_)
            refine lv_if_lt (tgt := 190) hx hb dL_money_183 (by decide) (fun c_7 => ?_) (fun c_7 => ?_)
            · refine lv_iconst (v := 0) hx hb dL_money_190 (by decide) ?_
              refine lv_istore (lv' := [(9, .int 0), (7, .int (x7_92 + (F5_shop u (nI j92) 6))), (6, .int (x6_92 + (F5_shop u (nI j92) 1))), (5, .int (x5_92 + (F5_shop u (nI j92) 5))), (4, .int (x4_92 + (F5_shop u (nI j92) 4))), (3, .int (x3_92 + (F5_shop u (nI j92) 0))), (0, .ref (q 0)), (1, .int a2), (2, .int (LL_money_20 u ((F5_count u 0).toNatClampNeg + 1) 0 (((F5_count u 3) * (F5_setting u 3)) + (F5_count u 5)))), (8, .int 0), (10, .int (nI j92))]) hx hb dL_money_191 hl (by decide) rfl (fun ls hl => ?_)
              refine lv_iinc (v := (nI (j92 + 1))) (lv' := [(10, .int (nI (j92 + 1))), (9, .int 0), (7, .int (x7_92 + (F5_shop u (nI j92) 6))), (6, .int (x6_92 + (F5_shop u (nI j92) 1))), (5, .int (x5_92 + (F5_shop u (nI j92) 5))), (4, .int (x4_92 + (F5_shop u (nI j92) 4))), (3, .int (x3_92 + (F5_shop u (nI j92) 0))), (0, .ref (q 0)), (1, .int a2), (2, .int (LL_money_20 u ((F5_count u 0).toNatClampNeg + 1) 0 (((F5_count u 3) * (F5_setting u 3)) + (F5_count u 5)))), (8, .int 0)]) hx hb dL_money_193 hl (k := 10) rfl (bInc j92) (by decide) rfl (fun ls hl => ?_)
              refine lv_goto (tgt := 92) hx hb dL_money_196 (by decide) ?_
              exact ih (j92 + 1) (x3_92 + (F5_shop u (nI j92) 0)) (x4_92 + (F5_shop u (nI j92) 4)) (x5_92 + (F5_shop u (nI j92) 5)) (x6_92 + (F5_shop u (nI j92) 1)) (x7_92 + (F5_shop u (nI j92) 6)) 0 _ _ (by omega) (by omega) (lv_sub hl [7, 8, 9, 6, 5, 4, 3, 2, 10, 1, 0] rfl) hS X (by rw [← hF, LL_money_92, if_neg c_3, if_neg c_5, if_neg c_6, if_pos c_7]) kx
            · refine lv_iconst (v := 1) hx hb dL_money_186 (by decide) ?_
              refine lv_goto (tgt := 191) hx hb dL_money_187 (by decide) ?_
              refine lv_istore (lv' := [(9, .int 1), (7, .int (x7_92 + (F5_shop u (nI j92) 6))), (6, .int (x6_92 + (F5_shop u (nI j92) 1))), (5, .int (x5_92 + (F5_shop u (nI j92) 5))), (4, .int (x4_92 + (F5_shop u (nI j92) 4))), (3, .int (x3_92 + (F5_shop u (nI j92) 0))), (0, .ref (q 0)), (1, .int a2), (2, .int (LL_money_20 u ((F5_count u 0).toNatClampNeg + 1) 0 (((F5_count u 3) * (F5_setting u 3)) + (F5_count u 5)))), (8, .int 0), (10, .int (nI j92))]) hx hb dL_money_191 hl (by decide) rfl (fun ls hl => ?_)
              refine lv_iinc (v := (nI (j92 + 1))) (lv' := [(10, .int (nI (j92 + 1))), (9, .int 1), (7, .int (x7_92 + (F5_shop u (nI j92) 6))), (6, .int (x6_92 + (F5_shop u (nI j92) 1))), (5, .int (x5_92 + (F5_shop u (nI j92) 5))), (4, .int (x4_92 + (F5_shop u (nI j92) 4))), (3, .int (x3_92 + (F5_shop u (nI j92) 0))), (0, .ref (q 0)), (1, .int a2), (2, .int (LL_money_20 u ((F5_count u 0).toNatClampNeg + 1) 0 (((F5_count u 3) * (F5_setting u 3)) + (F5_count u 5)))), (8, .int 0)]) hx hb dL_money_193 hl (k := 10) rfl (bInc j92) (by decide) rfl (fun ls hl => ?_)
              refine lv_goto (tgt := 92) hx hb dL_money_196 (by decide) ?_
              exact ih (j92 + 1) (x3_92 + (F5_shop u (nI j92) 0)) (x4_92 + (F5_shop u (nI j92) 4)) (x5_92 + (F5_shop u (nI j92) 5)) (x6_92 + (F5_shop u (nI j92) 1)) (x7_92 + (F5_shop u (nI j92) 6)) 1 _ _ (by omega) (by omega) (lv_sub hl [7, 8, 9, 6, 5, 4, 3, 2, 10, 1, 0] rfl) hS X (by rw [← hF, LL_money_92, if_neg c_3, if_neg c_5, if_neg c_6, if_neg c_7]) kx
  refine loop92 ((F5_count u 1).toNatClampNeg + 1) 0 0 0 0 0 0 1 _ _ (by omega) (by omega) (lv_sub hl [8, 9, 10, 7, 6, 5, 4, 3, 2, 1, 0] rfl) hS _ rfl (fun locs ls hl hS => ?_)
  refine lv_iconst (v := 0) hx hb dL_money_199 (by decide) ?_
  refine lv_istore (lv' := [(10, .int 0), (0, .ref (q 0)), (1, .int a2), (2, .int (LL_money_20 u ((F5_count u 0).toNatClampNeg + 1) 0 (((F5_count u 3) * (F5_setting u 3)) + (F5_count u 5)))), (3, .int (LL_money_92 u ((F5_count u 1).toNatClampNeg + 1) 0 0 0 0 0 0 1).1), (4, .int (LL_money_92 u ((F5_count u 1).toNatClampNeg + 1) 0 0 0 0 0 0 1).2.1), (5, .int (LL_money_92 u ((F5_count u 1).toNatClampNeg + 1) 0 0 0 0 0 0 1).2.2.1), (6, .int (LL_money_92 u ((F5_count u 1).toNatClampNeg + 1) 0 0 0 0 0 0 1).2.2.2.1), (7, .int (LL_money_92 u ((F5_count u 1).toNatClampNeg + 1) 0 0 0 0 0 0 1).2.2.2.2.1), (8, .int 0), (9, .int (LL_money_92 u ((F5_count u 1).toNatClampNeg + 1) 0 0 0 0 0 0 1).2.2.2.2.2)]) hx hb dL_money_200 hl (by decide) rfl (fun ls hl => ?_)
  have hB202 := bClamp (F5_count u 0)
  have loop202 : ∀ (n202 j202 : Nat) (x7_202 : Int32) (x8_202 : Int32) (locs : List Loc) (ls : Array Slot), j202 ≤ (F5_count u 0).toNatClampNeg → (F5_count u 0).toNatClampNeg + 1 ≤ n202 + j202 → lv_has ls 11 [(0, .ref (q 0)), (1, .int a2), (2, .int (LL_money_20 u ((F5_count u 0).toNatClampNeg + 1) 0 (((F5_count u 3) * (F5_setting u 3)) + (F5_count u 5)))), (3, .int (LL_money_92 u ((F5_count u 1).toNatClampNeg + 1) 0 0 0 0 0 0 1).1), (4, .int (LL_money_92 u ((F5_count u 1).toNatClampNeg + 1) 0 0 0 0 0 0 1).2.1), (5, .int (LL_money_92 u ((F5_count u 1).toNatClampNeg + 1) 0 0 0 0 0 0 1).2.2.1), (6, .int (LL_money_92 u ((F5_count u 1).toNatClampNeg + 1) 0 0 0 0 0 0 1).2.2.2.1), (7, .int x7_202), (8, .int x8_202), (9, .int (LL_money_92 u ((F5_count u 1).toNatClampNeg + 1) 0 0 0 0 0 0 1).2.2.2.2.2), (10, .int (nI j202))] → va_S (fun _ => False) s.heap s.heap locs → ∀ X : Int32 × Int32, LL_money_202 u  n202 j202 x7_202 x8_202 = X → (∀ (locs : List Loc) (ls : Array Slot), lv_has ls 11 [(0, .ref (q 0)), (1, .int a2), (2, .int (LL_money_20 u ((F5_count u 0).toNatClampNeg + 1) 0 (((F5_count u 3) * (F5_setting u 3)) + (F5_count u 5)))), (3, .int (LL_money_92 u ((F5_count u 1).toNatClampNeg + 1) 0 0 0 0 0 0 1).1), (4, .int (LL_money_92 u ((F5_count u 1).toNatClampNeg + 1) 0 0 0 0 0 0 1).2.1), (5, .int (LL_money_92 u ((F5_count u 1).toNatClampNeg + 1) 0 0 0 0 0 0 1).2.2.1), (6, .int (LL_money_92 u ((F5_count u 1).toNatClampNeg + 1) 0 0 0 0 0 0 1).2.2.2.1), (7, .int X.1), (8, .int X.2), (9, .int (LL_money_92 u ((F5_count u 1).toNatClampNeg + 1) 0 0 0 0 0 0 1).2.2.2.2.2)] → va_S (fun _ => False) s.heap s.heap locs → W p l e (headSpec wsL_money ({ frames := 5, cells := 0, slots := 0, locals := 111 })).room s m ([.ref (q 0), .int a2] : List Value).toArray below meth c s.heap locs 0 0 (MQ below (bRi s.heap tgt) ([.ref (q 0), .int a2] : List Value).toArray s 0 0 (fun _ => False)) (F0 m 272 ls [])) → W p l e (headSpec wsL_money ({ frames := 5, cells := 0, slots := 0, locals := 111 })).room s m ([.ref (q 0), .int a2] : List Value).toArray below meth c s.heap locs 0 0 (MQ below (bRi s.heap tgt) ([.ref (q 0), .int a2] : List Value).toArray s 0 0 (fun _ => False)) (F0 m 202 ls []) := by
    intro n202
    induction n202 with
    | zero => intro j202 x7_202 x8_202 locs ls hj hn; exact absurd hn (by omega)
    | succ n202 ih =>
      intro j202 x7_202 x8_202 locs ls hj hn hl hS X hF kx
      refine lv_iload hx hb dL_money_202 (lv_at hl 10 rfl) ?_
      refine lv_aload_n hx hb dL_money_204 rfl (lv_at hl 0 rfl) ?_
      refine lv_iconst (v := 0) hx hb dL_money_205 (by decide) ?_
      refine bcall_Ri (va_runV (As := [.int 0]) (rest := [.int (nI j202)]) ⟨hx, hb, hml, hown, hts⟩ (C5_count l D cI cO q _ _ hP 0 (by decide)) (cwV 1 hts gL_money_X5_count rfl rfl rfl ⟨rfl, bd_X5count⟩ ⟨Nat.le_of_ble_eq_true rfl, Nat.le_of_ble_eq_true rfl⟩) (bPV hk (va_recv hk.1 hP (ci := 5) (q0 := 0) rfl (wC_0 _ _ _ _))) rfl rfl hl.1 rfl (lv_room (Nat.le_of_ble_eq_true rfl)) dL_money_206 ⟨Nat.zero_le _, Nat.zero_le _⟩) hS (fun locs hS => ?_)
      refine lv_icmp_ge (tgt := 272) hx hb dL_money_209 (by decide) (fun c_8 => ?_) (fun c_8 => ?_)
      · obtain rfl : X = (x7_202, x8_202) := by rw [← hF, LL_money_202, if_pos c_8]
        exact kx _ _ (lv_sub hl [0, 1, 2, 3, 4, 5, 6, 7, 8, 9] rfl) hS
      · have hlt_9 : j202 < (F5_count u 0).toNatClampNeg := bLtB c_8 (by omega)
        refine lv_iload hx hb dL_money_212 (lv_at hl 7 rfl) ?_
        refine lv_aload_n hx hb dL_money_214 rfl (lv_at hl 0 rfl) ?_
        refine lv_iload hx hb dL_money_215 (lv_at hl 10 rfl) ?_
        refine lv_iconst (v := 5) hx hb dL_money_217 (by decide) ?_
        refine bcall_Ri (va_runV (As := [.int (nI j202), .int 5]) (rest := [.int x7_202]) ⟨hx, hb, hml, hown, hts⟩ (C5_brand l D cI cO q _ _ hP (nI j202) 5 (ok_nb hok hlt_9) (by decide)) (cwV 2 hts gL_money_X5_brand rfl rfl rfl ⟨rfl, bd_X5brand⟩ ⟨Nat.le_of_ble_eq_true rfl, Nat.le_of_ble_eq_true rfl⟩) (bPV hk (va_recv hk.1 hP (ci := 5) (q0 := 0) rfl (wC_0 _ _ _ _))) rfl rfl hl.1 rfl (lv_room (Nat.le_of_ble_eq_true rfl)) dL_money_218 ⟨Nat.zero_le _, Nat.zero_le _⟩) hS (fun locs hS => ?_)
        refine lv_aload_n hx hb dL_money_221 rfl (lv_at hl 0 rfl) ?_
        refine lv_iload hx hb dL_money_222 (lv_at hl 10 rfl) ?_
        refine lv_bipush (v := 8) hx hb dL_money_224 (by decide) ?_
        refine bcall_Ri (va_runV (As := [.int (nI j202), .int 8]) (rest := [.int (F5_brand u (nI j202) 5), .int x7_202]) ⟨hx, hb, hml, hown, hts⟩ (C5_brand l D cI cO q _ _ hP (nI j202) 8 (ok_nb hok hlt_9) (by decide)) (cwV 2 hts gL_money_X5_brand rfl rfl rfl ⟨rfl, bd_X5brand⟩ ⟨Nat.le_of_ble_eq_true rfl, Nat.le_of_ble_eq_true rfl⟩) (bPV hk (va_recv hk.1 hP (ci := 5) (q0 := 0) rfl (wC_0 _ _ _ _))) rfl rfl hl.1 rfl (lv_room (Nat.le_of_ble_eq_true rfl)) dL_money_226 ⟨Nat.zero_le _, Nat.zero_le _⟩) hS (fun locs hS => ?_)
        refine lv_iadd hx hb dL_money_229 ?_
        refine lv_isub hx hb dL_money_230 ?_
        refine lv_istore (lv' := [(7, .int (x7_202 - ((F5_brand u (nI j202) 5) + (F5_brand u (nI j202) 8)))), (0, .ref (q 0)), (1, .int a2), (2, .int (LL_money_20 u ((F5_count u 0).toNatClampNeg + 1) 0 (((F5_count u 3) * (F5_setting u 3)) + (F5_count u 5)))), (3, .int (LL_money_92 u ((F5_count u 1).toNatClampNeg + 1) 0 0 0 0 0 0 1).1), (4, .int (LL_money_92 u ((F5_count u 1).toNatClampNeg + 1) 0 0 0 0 0 0 1).2.1), (5, .int (LL_money_92 u ((F5_count u 1).toNatClampNeg + 1) 0 0 0 0 0 0 1).2.2.1), (6, .int (LL_money_92 u ((F5_count u 1).toNatClampNeg + 1) 0 0 0 0 0 0 1).2.2.2.1), (8, .int x8_202), (9, .int (LL_money_92 u ((F5_count u 1).toNatClampNeg + 1) 0 0 0 0 0 0 1).2.2.2.2.2), (10, .int (nI j202))]) hx hb dL_money_231 hl (by decide) rfl (fun ls hl => ?_)
        refine lv_iload hx hb dL_money_233 (lv_at hl 8 rfl) ?_
        refine lv_aload_n hx hb dL_money_235 rfl (lv_at hl 1 rfl) ?_
        refine lv_iload hx hb dL_money_236 (lv_at hl 10 rfl) ?_
        refine lv_iconst (v := 5) hx hb dL_money_238 (by decide) ?_
        refine bcall_Ri (va_runV (As := [.int (nI j202), .int 5]) (rest := [.int x8_202]) ⟨hx, hb, hml, hown, hts⟩ (C5_brand l D cI cO q _ _ hP (nI j202) 5 (ok_nb hok hlt_9) (by decide)) (cwV 2 hts gL_money_X5_brand rfl rfl rfl ⟨rfl, bd_X5brand⟩ ⟨Nat.le_of_ble_eq_true rfl, Nat.le_of_ble_eq_true rfl⟩) (bPV hk (va_recv hk.1 hP (ci := 5) (q0 := 0) rfl (wC_0 _ _ _ _))) rfl rfl hl.1 rfl (lv_room (Nat.le_of_ble_eq_true rfl)) dL_money_239 ⟨Nat.zero_le _, Nat.zero_le _⟩) hS (fun locs hS => ?_)
        refine lv_aload_n hx hb dL_money_242 rfl (lv_at hl 1 rfl) ?_
        refine lv_iload hx hb dL_money_243 (lv_at hl 10 rfl) ?_
        refine lv_bipush (v := 8) hx hb dL_money_245 (by decide) ?_
        refine bcall_Ri (va_runV (As := [.int (nI j202), .int 8]) (rest := [.int (F5_brand u (nI j202) 5), .int x8_202]) ⟨hx, hb, hml, hown, hts⟩ (C5_brand l D cI cO q _ _ hP (nI j202) 8 (ok_nb hok hlt_9) (by decide)) (cwV 2 hts gL_money_X5_brand rfl rfl rfl ⟨rfl, bd_X5brand⟩ ⟨Nat.le_of_ble_eq_true rfl, Nat.le_of_ble_eq_true rfl⟩) (bPV hk (va_recv hk.1 hP (ci := 5) (q0 := 0) rfl (wC_0 _ _ _ _))) rfl rfl hl.1 rfl (lv_room (Nat.le_of_ble_eq_true rfl)) dL_money_247 ⟨Nat.zero_le _, Nat.zero_le _⟩) hS (fun locs hS => ?_)
        refine lv_iadd hx hb dL_money_250 ?_
        refine lv_aload_n hx hb dL_money_251 rfl (lv_at hl 1 rfl) ?_
        refine lv_aload_n hx hb dL_money_252 rfl (lv_at hl 1 rfl) ?_
        refine lv_iload hx hb dL_money_253 (lv_at hl 10 rfl) ?_
        refine lv_iconst (v := 0) hx hb dL_money_255 (by decide) ?_
        refine bcall_Ri (va_runV (As := [.int (nI j202), .int 0]) (rest := [.ref (q 0), .int ((F5_brand u (nI j202) 5) + (F5_brand u (nI j202) 8)), .int x8_202]) ⟨hx, hb, hml, hown, hts⟩ (C5_brand l D cI cO q _ _ hP (nI j202) 0 (ok_nb hok hlt_9) (by decide)) (cwV 2 hts gL_money_X5_brand rfl rfl rfl ⟨rfl, bd_X5brand⟩ ⟨Nat.le_of_ble_eq_true rfl, Nat.le_of_ble_eq_true rfl⟩) (bPV hk (va_recv hk.1 hP (ci := 5) (q0 := 0) rfl (wC_0 _ _ _ _))) rfl rfl hl.1 rfl (lv_room (Nat.le_of_ble_eq_true rfl)) dL_money_256 ⟨Nat.zero_le _, Nat.zero_le _⟩) hS (fun locs hS => ?_)
        refine bcall_Ri (va_runV (As := [.int (F5_brand u (nI j202) 0)]) (rest := [.int ((F5_brand u (nI j202) 5) + (F5_brand u (nI j202) 8)), .int x8_202]) ⟨hx, hb, hml, hown, hts⟩ (C5_setting l D cI cO q _ _ hP (F5_brand u (nI j202) 0) (ok_set hok hlt_9)) (cwV 1 hts gL_money_X5_setting rfl rfl rfl ⟨rfl, bd_X5setting⟩ ⟨Nat.le_of_ble_eq_true rfl, Nat.le_of_ble_eq_true rfl⟩) (bPV hk (va_recv hk.1 hP (ci := 5) (q0 := 0) rfl (wC_0 _ _ _ _))) rfl rfl hl.1 rfl (lv_room (Nat.le_of_ble_eq_true rfl)) dL_money_259 ⟨Nat.zero_le _, Nat.zero_le _⟩) hS (fun locs hS => ?_)
        refine lv_imul hx hb dL_money_262 ?_
        refine lv_iadd hx hb dL_money_263 ?_
        refine lv_istore (lv' := [(8, .int (x8_202 + (((F5_brand u (nI j202) 5) + (F5_brand u (nI j202) 8)) * (F5_setting u (F5_brand u (nI j202) 0))))), (7, .int (x7_202 - ((F5_brand u (nI j202) 5) + (F5_brand u (nI j202) 8)))), (0, .ref (q 0)), (1, .int a2), (2, .int (LL_money_20 u ((F5_count u 0).toNatClampNeg + 1) 0 (((F5_count u 3) * (F5_setting u 3)) + (F5_count u 5)))), (3, .int (LL_money_92 u ((F5_count u 1).toNatClampNeg + 1) 0 0 0 0 0 0 1).1), (4, .int (LL_money_92 u ((F5_count u 1).toNatClampNeg + 1) 0 0 0 0 0 0 1).2.1), (5, .int (LL_money_92 u ((F5_count u 1).toNatClampNeg + 1) 0 0 0 0 0 0 1).2.2.1), (6, .int (LL_money_92 u ((F5_count u 1).toNatClampNeg + 1) 0 0 0 0 0 0 1).2.2.2.1), (9, .int (LL_money_92 u ((F5_count u 1).toNatClampNeg + 1) 0 0 0 0 0 0 1).2.2.2.2.2), (10, .int (nI j202))]) hx hb dL_money_264 hl (by decide) rfl (fun ls hl => ?_)
        refine lv_iinc (v := (nI (j202 + 1))) (lv' := [(10, .int (nI (j202 + 1))), (8, .int (x8_202 + (((F5_brand u (nI j202) 5) + (F5_brand u (nI j202) 8)) * (F5_setting u (F5_brand u (nI j202) 0))))), (7, .int (x7_202 - ((F5_brand u (nI j202) 5) + (F5_brand u (nI j202) 8)))), (0, .ref (q 0)), (1, .int a2), (2, .int (LL_money_20 u ((F5_count u 0).toNatClampNeg + 1) 0 (((F5_count u 3) * (F5_setting u 3)) + (F5_count u 5)))), (3, .int (LL_money_92 u ((F5_count u 1).toNatClampNeg + 1) 0 0 0 0 0 0 1).1), (4, .int (LL_money_92 u ((F5_count u 1).toNatClampNeg + 1) 0 0 0 0 0 0 1).2.1), (5, .int (LL_money_92 u ((F5_count u 1).toNatClampNeg + 1) 0 0 0 0 0 0 1).2.2.1), (6, .int (LL_money_92 u ((F5_count u 1).toNatClampNeg + 1) 0 0 0 0 0 0 1).2.2.2.1), (9, .int (LL_money_92 u ((F5_count u 1).toNatClampNeg + 1) 0 0 0 0 0 0 1).2.2.2.2.2)]) hx hb dL_money_266 hl (k := 10) rfl (bInc j202) (by decide) rfl (fun ls hl => ?_)
        refine lv_goto (tgt := 202) hx hb dL_money_269 (by decide) ?_
        exact ih (j202 + 1) (x7_202 - ((F5_brand u (nI j202) 5) + (F5_brand u (nI j202) 8))) (x8_202 + (((F5_brand u (nI j202) 5) + (F5_brand u (nI j202) 8)) * (F5_setting u (F5_brand u (nI j202) 0)))) _ _ (by omega) (by omega) (lv_sub hl [3, 4, 5, 6, 7, 8, 9, 2, 1, 10, 0] rfl) hS X (by rw [← hF, LL_money_202, if_neg c_8]) kx
  refine loop202 ((F5_count u 0).toNatClampNeg + 1) 0 (LL_money_92 u ((F5_count u 1).toNatClampNeg + 1) 0 0 0 0 0 0 1).2.2.2.2.1 0 _ _ (by omega) (by omega) (lv_sub hl [1, 2, 3, 4, 5, 6, 7, 8, 9, 10, 0] rfl) hS _ rfl (fun locs ls hl hS => ?_)
  refine lv_iload hx hb dL_money_272 (lv_at hl 9 rfl) ?_
  refine lv_if_eq (tgt := 349) hx hb dL_money_274 (by decide) (fun c_10 => ?_) (fun c_10 => ?_)
  · refine lv_iconst (v := 0) hx hb dL_money_349 (by decide) ?_
    exact bret_Rz hx hb hr hS hlocks dL_money_350 (Or.inl rfl) (by rw [← hF, FL_money, if_pos c_10])
  · refine lv_iload_n hx hb dL_money_277 rfl (lv_at hl 2 rfl) ?_
    refine lv_aload_n hx hb dL_money_278 rfl (lv_at hl 0 rfl) ?_
    refine lv_iconst (v := 4) hx hb dL_money_279 (by decide) ?_
    refine bcall_Ri (va_runV (As := [.int 4]) (rest := [.int (LL_money_20 u ((F5_count u 0).toNatClampNeg + 1) 0 (((F5_count u 3) * (F5_setting u 3)) + (F5_count u 5)))]) ⟨hx, hb, hml, hown, hts⟩ (C5_count l D cI cO q _ _ hP 4 (by decide)) (cwV 1 hts gL_money_X5_count rfl rfl rfl ⟨rfl, bd_X5count⟩ ⟨Nat.le_of_ble_eq_true rfl, Nat.le_of_ble_eq_true rfl⟩) (bPV hk (va_recv hk.1 hP (ci := 5) (q0 := 0) rfl (wC_0 _ _ _ _))) rfl rfl hl.1 rfl (lv_room (Nat.le_of_ble_eq_true rfl)) dL_money_280 ⟨Nat.zero_le _, Nat.zero_le _⟩) hS (fun locs hS => ?_)
    refine lv_icmp_ne (tgt := 349) hx hb dL_money_283 (by decide) (fun c_11 => ?_) (fun c_11 => ?_)
    · refine lv_iconst (v := 0) hx hb dL_money_349 (by decide) ?_
      exact bret_Rz hx hb hr hS hlocks dL_money_350 (Or.inl rfl) (by rw [← hF, FL_money, if_neg c_10, if_neg c_11])
    · refine lv_iload hx hb dL_money_286 (lv_at hl 4 rfl) ?_
      refine lv_aload_n hx hb dL_money_288 rfl (lv_at hl 0 rfl) ?_
      refine lv_iconst (v := 4) hx hb dL_money_289 (by decide) ?_
      refine bcall_Ri (va_runV (As := [.int 4]) (rest := [.int (LL_money_92 u ((F5_count u 1).toNatClampNeg + 1) 0 0 0 0 0 0 1).2.1]) ⟨hx, hb, hml, hown, hts⟩ (C5_count l D cI cO q _ _ hP 4 (by decide)) (cwV 1 hts gL_money_X5_count rfl rfl rfl ⟨rfl, bd_X5count⟩ ⟨Nat.le_of_ble_eq_true rfl, Nat.le_of_ble_eq_true rfl⟩) (bPV hk (va_recv hk.1 hP (ci := 5) (q0 := 0) rfl (wC_0 _ _ _ _))) rfl rfl hl.1 rfl (lv_room (Nat.le_of_ble_eq_true rfl)) dL_money_290 ⟨Nat.zero_le _, Nat.zero_le _⟩) hS (fun locs hS => ?_)
      refine lv_icmp_ne (tgt := 349) hx hb dL_money_293 (by decide) (fun c_12 => ?_) (fun c_12 => ?_)
      · refine lv_iconst (v := 0) hx hb dL_money_349 (by decide) ?_
        exact bret_Rz hx hb hr hS hlocks dL_money_350 (Or.inl rfl) (by rw [← hF, FL_money, if_neg c_10, if_pos c_11, if_neg c_12])
      · refine lv_iload hx hb dL_money_296 (lv_at hl 5 rfl) ?_
        refine lv_aload_n hx hb dL_money_298 rfl (lv_at hl 0 rfl) ?_
        refine lv_bipush (v := 6) hx hb dL_money_299 (by decide) ?_
        refine bcall_Ri (va_runV (As := [.int 6]) (rest := [.int (LL_money_92 u ((F5_count u 1).toNatClampNeg + 1) 0 0 0 0 0 0 1).2.2.1]) ⟨hx, hb, hml, hown, hts⟩ (C5_count l D cI cO q _ _ hP 6 (by decide)) (cwV 1 hts gL_money_X5_count rfl rfl rfl ⟨rfl, bd_X5count⟩ ⟨Nat.le_of_ble_eq_true rfl, Nat.le_of_ble_eq_true rfl⟩) (bPV hk (va_recv hk.1 hP (ci := 5) (q0 := 0) rfl (wC_0 _ _ _ _))) rfl rfl hl.1 rfl (lv_room (Nat.le_of_ble_eq_true rfl)) dL_money_301 ⟨Nat.zero_le _, Nat.zero_le _⟩) hS (fun locs hS => ?_)
        refine lv_icmp_ne (tgt := 349) hx hb dL_money_304 (by decide) (fun c_13 => ?_) (fun c_13 => ?_)
        · refine lv_iconst (v := 0) hx hb dL_money_349 (by decide) ?_
          exact bret_Rz hx hb hr hS hlocks dL_money_350 (Or.inl rfl) (by rw [← hF, FL_money, if_neg c_10, if_pos c_11, if_pos c_12, if_neg c_13])
        · refine lv_aload_n hx hb dL_money_307 rfl (lv_at hl 0 rfl) ?_
          refine lv_bipush (v := 6) hx hb dL_money_308 (by decide) ?_
          refine bcall_Ri (va_runV (As := [.int 6]) (rest := []) ⟨hx, hb, hml, hown, hts⟩ (C5_count l D cI cO q _ _ hP 6 (by decide)) (cwV 1 hts gL_money_X5_count rfl rfl rfl ⟨rfl, bd_X5count⟩ ⟨Nat.le_of_ble_eq_true rfl, Nat.le_of_ble_eq_true rfl⟩) (bPV hk (va_recv hk.1 hP (ci := 5) (q0 := 0) rfl (wC_0 _ _ _ _))) rfl rfl hl.1 rfl (lv_room (Nat.le_of_ble_eq_true rfl)) dL_money_310 ⟨Nat.zero_le _, Nat.zero_le _⟩) hS (fun locs hS => ?_)
          refine lv_if_lt (tgt := 349) hx hb dL_money_313 (by decide) (fun c_14 => ?_) (fun c_14 => ?_)
          · refine lv_iconst (v := 0) hx hb dL_money_349 (by decide) ?_
            exact bret_Rz hx hb hr hS hlocks dL_money_350 (Or.inl rfl) (by rw [← hF, FL_money, if_neg c_10, if_pos c_11, if_pos c_12, if_pos c_13, if_pos c_14])
          · refine lv_iload hx hb dL_money_316 (lv_at hl 6 rfl) ?_
            refine lv_aload_n hx hb dL_money_318 rfl (lv_at hl 0 rfl) ?_
            refine lv_iconst (v := 3) hx hb dL_money_319 (by decide) ?_
            refine bcall_Ri (va_runV (As := [.int 3]) (rest := [.int (LL_money_92 u ((F5_count u 1).toNatClampNeg + 1) 0 0 0 0 0 0 1).2.2.2.1]) ⟨hx, hb, hml, hown, hts⟩ (C5_count l D cI cO q _ _ hP 3 (by decide)) (cwV 1 hts gL_money_X5_count rfl rfl rfl ⟨rfl, bd_X5count⟩ ⟨Nat.le_of_ble_eq_true rfl, Nat.le_of_ble_eq_true rfl⟩) (bPV hk (va_recv hk.1 hP (ci := 5) (q0 := 0) rfl (wC_0 _ _ _ _))) rfl rfl hl.1 rfl (lv_room (Nat.le_of_ble_eq_true rfl)) dL_money_320 ⟨Nat.zero_le _, Nat.zero_le _⟩) hS (fun locs hS => ?_)
            refine lv_icmp_ne (tgt := 349) hx hb dL_money_323 (by decide) (fun c_15 => ?_) (fun c_15 => ?_)
            · refine lv_iconst (v := 0) hx hb dL_money_349 (by decide) ?_
              exact bret_Rz hx hb hr hS hlocks dL_money_350 (Or.inl rfl) (by rw [← hF, FL_money, if_neg c_10, if_pos c_11, if_pos c_12, if_pos c_13, if_neg c_14, if_neg c_15])
            · refine lv_iload hx hb dL_money_326 (lv_at hl 7 rfl) ?_
              refine lv_if_ne (tgt := 349) hx hb dL_money_328 (by decide) (fun c_16 => ?_) (fun c_16 => ?_)
              · refine lv_iconst (v := 0) hx hb dL_money_349 (by decide) ?_
                exact bret_Rz hx hb hr hS hlocks dL_money_350 (Or.inl rfl) (by rw [← hF, FL_money, if_neg c_10, if_pos c_11, if_pos c_12, if_pos c_13, if_neg c_14, if_pos c_15, if_neg c_16])
              · refine lv_iload_n hx hb dL_money_331 rfl (lv_at hl 3 rfl) ?_
                refine lv_iload_n hx hb dL_money_332 rfl (lv_at hl 1 rfl) ?_
                refine lv_iload hx hb dL_money_333 (lv_at hl 4 rfl) ?_
                refine lv_isub hx hb dL_money_335 ?_
                refine lv_iload hx hb dL_money_336 (lv_at hl 5 rfl) ?_
                refine lv_isub hx hb dL_money_338 ?_
                refine lv_iload hx hb dL_money_339 (lv_at hl 8 rfl) ?_
                refine lv_iadd hx hb dL_money_341 ?_
                refine lv_icmp_ne (tgt := 349) hx hb dL_money_342 (by decide) (fun c_17 => ?_) (fun c_17 => ?_)
                · refine lv_iconst (v := 0) hx hb dL_money_349 (by decide) ?_
                  exact bret_Rz hx hb hr hS hlocks dL_money_350 (Or.inl rfl) (by rw [← hF, FL_money, if_neg c_10, if_pos c_11, if_pos c_12, if_pos c_13, if_neg c_14, if_pos c_15, if_pos c_16, if_neg c_17])
                · refine lv_iconst (v := 1) hx hb dL_money_345 (by decide) ?_
                  refine lv_goto (tgt := 350) hx hb dL_money_346 (by decide) ?_
                  exact bret_Rz hx hb hr hS hlocks dL_money_350 (Or.inr rfl) (by rw [← hF, FL_money, if_neg c_10, if_pos c_11, if_pos c_12, if_pos c_13, if_neg c_14, if_pos c_15, if_pos c_16, if_pos c_17])

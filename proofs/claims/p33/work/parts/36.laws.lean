-- acts and cell as contracts for the law (own text)
section AL
variable {B n t : Nat} {kd : Nat → Nat} {f : Nat} {m k : Int32} {bb : Nat → Int32} {u : bU}
theorem rd_of (h : INV B n t kd f m k 0 bb (u 0)) (hn1 : 1 ≤ n) (ht1 : 1 ≤ t) : rdOK u := by
  refine ⟨n, t, hn1, h.1.1.1, ht1, h.1.1.2.1, h.1.1.2.2.1, h.1.1.2.2.2, fun b hb => ?_⟩
  have hn := h.1.1.1
  obtain ⟨k1, k2, -⟩ := INV_kd h (show b < 8 by omega)
  exact ⟨kd b, k1, k2⟩
theorem acts_ok (h : GS B n t kd f m k bb u) (h8 : B < 40000000) (hn1 : 1 ≤ n) (ht1 : 1 ≤ t) {y : Nat} (hy : y < 2147483648) : ∃ u' : bU, FL_acts u (nI y) (nI (y / 8)) (nI (y / 8 % n)) (nI (y / 8 / 16 % t)) (nI (1 + y / 8 / 128 % 40)) (nI (1 + y / 8 / 128 % 3)) (nI (1 + (1 + y / 8 / 128 % 40) % 5)) (nI (y / 8 / 1024 % n)) = (0, 1, u') ∧ GS (B + 300000) n t kd f m k bb u' := by
  have ea : nI y &&& 7 = nI (y % 8) := pk_andN (by omega) 3 (by decide)
  have hb := Nat.mod_lt (y / 8) hn1
  have hs := Nat.mod_lt (y / 8 / 16) ht1
  have hd := Nat.mod_lt (y / 8 / 1024) hn1
  have h9 : B + 300000 < 2147483648 := by omega
  have hx : 1 + y / 8 / 128 % 40 ≤ 40 := by omega
  have hc : 1 + y / 8 / 128 % 3 ≤ 3 := by omega
  have hyy : 1 + (1 + y / 8 / 128 % 40) % 5 ≤ 5 := by omega
  have : y % 8 = 0 ∨ y % 8 = 1 ∨ y % 8 = 2 ∨ y % 8 = 3 ∨ y % 8 = 4 ∨ y % 8 = 5 ∨ y % 8 = 6 ∨ y % 8 = 7 := by omega
  rcases this with e | e | e | e | e | e | e | e <;> rw [e] at ea
  · exact act0 h h9 hb hs (Nat.le_add_right _ _) hx (Nat.le_add_right _ _) hc (Nat.le_add_right _ _) hyy hd ea
  · exact act1 h h9 hb hs (Nat.le_add_right _ _) hx (Nat.le_add_right _ _) hc (Nat.le_add_right _ _) hyy hd ea
  · exact act2 h h9 hb hs (Nat.le_add_right _ _) hx (Nat.le_add_right _ _) hc (Nat.le_add_right _ _) hyy hd ea
  · exact act3 h h9 hb hs (Nat.le_add_right _ _) hx (Nat.le_add_right _ _) hc (Nat.le_add_right _ _) hyy hd ea
  · exact act4 h h9 hb hs (Nat.le_add_right _ _) hx (Nat.le_add_right _ _) hc (Nat.le_add_right _ _) hyy hd ea
  · exact act5 h h9 (by omega) hb hs (Nat.le_add_right _ _) hx (Nat.le_add_right _ _) hc (Nat.le_add_right _ _) hyy hd ea
  · exact act6 h h9 hb hs (Nat.le_add_right _ _) hx (Nat.le_add_right _ _) hc (Nat.le_add_right _ _) hyy hd ea
  · exact act7 h h9 (by omega) hb hs (Nat.le_add_right _ _) hx (Nat.le_add_right _ _) hc (Nat.le_add_right _ _) hyy hd ea
theorem Met_W {l : Launch} {y : MethodName} {ws : List Cond} {rm : Room} {Pc : Array Value → State → Prop} {D : va_G} {WD : bU → va_W} {I : bU → Prop} {A free : Nat → Prop} {v w : Int32 × bU} (h : Met l y ws rm Pc (bWi D WD I A v) 0 0 free) (e : v = w) : Met l y ws rm Pc (bWi D WD I A w) 0 0 free := by
  subst e
  exact h
theorem Met_R {l : Launch} {y : MethodName} {ws : List Cond} {rm : Room} {Pc : Array Value → State → Prop} {H0 : Heap} {free : Nat → Prop} {v w : Int32} (h : Met l y ws rm Pc (bRi H0 v) 0 0 free) (e : v = w) : Met l y ws rm Pc (bRi H0 w) 0 0 free := by
  subst e
  exact h
theorem CM_acts (l : Launch) (D : va_G) (cI cO : ClassId) (q : Nat → Nat) (H0 : Heap) (hq : bInj 23 q) (hP : va_P D vwCl (wC cI cO q u) H0) (h : GS B n t kd f m k bb u) (h8 : B < 40000000) (hn1 : 1 ≤ n) (ht1 : 1 ≤ t) {y : Nat} (hy : y < 2147483648) : ∃ u' : bU, GS (B + 300000) n t kd f m k bb u' ∧ Met l yL_acts wsL_acts ({ frames := 6, cells := 0, slots := 0, locals := 292 }) (bP D [(cI, .int), (cO, .object RX2)] H0 [.ref (q 0), .int (nI y)]) (bWi D (wC cI cO q) bT (bA 23 q H0.size) (1, u')) 0 0 (bA 23 q H0.size) := by
  obtain ⟨u', e1, e2⟩ := acts_ok h h8 hn1 ht1 hy
  have h0 := h.1.1.1.2.2.1
  have h1 := h.1.1.1.2.2.2
  have hn := h.1.1.1.1
  have ht := h.1.1.1.2.1
  have z8 : y / 8 < 2 ^ 31 := by omega
  have z16 : y / 8 / 16 < 2 ^ 31 := by omega
  have z128 : y / 8 / 128 < 2 ^ 31 := by omega
  have z1024 : y / 8 / 1024 < 2 ^ 31 := by omega
  have g16 : nI (y / 8) >>> (4 &&& 31) = nI (y / 8 / 16) := pk_shrN z8 (4 &&& 31) 4 (by decide)
  have g128 : nI (y / 8) >>> (7 &&& 31) = nI (y / 8 / 128) := pk_shrN z8 (7 &&& 31) 7 (by decide)
  have g1024 : nI (y / 8) >>> (10 &&& 31) = nI (y / 8 / 1024) := pk_shrN z8 (10 &&& 31) 10 (by decide)
  refine ⟨u', e2, Met_W (CL_acts l D cI cO q u H0 hq hP (nI y) (nI (y / 8)) (nI (y / 8 % n)) (nI (y / 8 / 16 % t)) (nI (1 + y / 8 / 128 % 40)) (nI (1 + y / 8 / 128 % 3)) (nI (1 + (1 + y / 8 / 128 % 40) % 5)) (nI (y / 8 / 1024 % n)) (rd_of h.1 hn1 ht1) (kp_lat (KP_0 h.2)) ?_ ?_ ?_ ?_ ?_ ?_ ?_ (INV_nb h.1 (Nat.mod_lt _ hn1)) (INV_ns h.1 (Nat.mod_lt _ ht1)) (by rw [e1])) (by rw [e1])⟩
  · exact pk_shrN (by omega) (3 &&& 31) 3 (by decide)
  · rw [v_c0, h0]
    exact pk_rem z8 hn1 (by omega)
  · rw [v_c1, h1, g16]
    exact pk_rem z16 ht1 (by omega)
  · rw [g128, show nI (y / 8 / 128) - nI (y / 8 / 128) / 40 * 40 = nI (y / 8 / 128 % 40) from pk_rem (d := 40) z128 (by decide) (by decide)]
    exact nI_add 1 _
  · rw [g128, show nI (y / 8 / 128) - nI (y / 8 / 128) / 3 * 3 = nI (y / 8 / 128 % 3) from pk_rem (d := 3) z128 (by decide) (by decide)]
    exact nI_add 1 _
  · rw [show nI (1 + y / 8 / 128 % 40) - nI (1 + y / 8 / 128 % 40) / 5 * 5 = nI ((1 + y / 8 / 128 % 40) % 5) from pk_rem (d := 5) (by omega) (by decide) (by decide)]
    exact nI_add 1 _
  · rw [v_c0, h0, g1024]
    exact pk_rem z1024 hn1 (by omega)
end AL
/-- what cell answers -/
def cellN (xs : Nat → Int32) (L j : Nat) : Nat := (if j < L then xs j else 15563221 * nI j + 1709).toBitVec.toNat % 2 ^ 31
theorem cellN_lt (xs : Nat → Int32) (L j : Nat) : cellN xs L j < 2147483648 := Nat.mod_lt _ (by decide)
abbrev bPC (b L : Nat) (xs : Nat → Int32) (H0 : Heap) (av : List Value) : Array Value → State → Prop := va_Pc av (fun U => U.heap = H0 ∧ va_X b L xs U H0)
theorem bPSC {s : State} {H : Heap} {As : List Value} {b L : Nat} {xs : Nat → Int32} (hX : va_X b L xs s H) : PreS s H (bPC b L xs H As) As :=
  ⟨fun a U g mk q => ⟨q.1, q.2.1, va_X.moved (u := U) (U := U.calling g mk a) (Vm.Alike.refl U.vm) q.2.2⟩, fun U hU hW => ⟨rfl, hU, va_X.moved hW.alike hX⟩⟩
set_option maxHeartbeats 4000000 in
set_option maxRecDepth 100000 in
theorem CL_cell (l : Launch) (H0 : Heap) {b L : Nat} {xs : Nat → Int32} (hL : L ≤ 260) {j : Nat} (hj : j < 1000) : Met l yL_cell wsL_cell ({ frames := 0, cells := 0, slots := 0, locals := 0 }) (bPC b L xs H0 [.ref b, .int (nI j)]) (bRi H0 (nI (cellN xs L j))) 0 0 (fun _ => False) := by
  refine Met.ofW (cc := cL_cell) (maxL := 2) (ret := (some .int)) (by decide) rfl ?_
  intro p e s m args below meth c s₁ B hml hv
  obtain ⟨rfl, hH, hXs⟩ := hv
  subst hH
  have hx := B.exec
  have hb := B.bytes
  have hr := B.returns
  have hts := atoms_spec (ws := wsL_cell) B.pre
  have hown : s.vm.findClass RL = some m.cls := findClass_of_methodNamed B.named
  have hlocks := B.notSynchronized
  have hS : va_S (fun _ => False) s.heap s.heap [] := va_S.rf
  have hbl : b < s.heap.size := by
    obtain ⟨scr, h1, -⟩ := hXs
    exact (Array.getElem?_eq_some_iff.mp h1).1
  have hbA : ¬ (fun _ : Nat => False) b := fun h => h
  have hl := lv_entry ([.ref b, .int (nI j)]) (n := 2) (Nat.le_of_ble_eq_true rfl)
  rw [lg_entry_eq]
  generalize (lg_sl ([.ref b, .int (nI j)]) ++ List.replicate (2 - (lg_sl ([.ref b, .int (nI j)])).length) Slot.unset).toArray = ls at hl ⊢
  have hl : lv_has ls 2 [(0, .ref b), (1, .int (nI j))] := hl
  have hand : ∀ x : Int32, x &&& 2147483647 = nI (x.toBitVec.toNat % 2 ^ 31) := fun x => pk_and x 31 (by decide)
  refine lv_iload_n hx hb dL_cell_0 rfl (lv_at hl 1 rfl) ?_
  refine lv_aload_n hx hb dL_cell_1 rfl (lv_at hl 0 rfl) ?_
  refine va_slen hx hb hXs hbl hbA hS dL_cell_2 ?_
  refine lv_icmp_ge (tgt := 12) hx hb dL_cell_3 (by decide) (fun c1 => ?_) (fun c1 => ?_)
  · refine lv_ldc (v := 15563221) hx hb hown (hts (.constant RL 7 (15563221)) (List.mem_of_getElem? (i := 1) rfl)) dL_cell_12 ?_
    refine lv_iload_n hx hb dL_cell_14 rfl (lv_at hl 1 rfl) ?_
    refine lv_imul hx hb dL_cell_15 ?_
    refine lv_sipush (v := 1709) hx hb dL_cell_16 (by decide) ?_
    refine lv_iadd hx hb dL_cell_19 ?_
    refine lv_ldc (v := 2147483647) hx hb hown (hts (.constant RL 8 (2147483647)) (List.mem_of_getElem? (i := 2) rfl)) dL_cell_20 ?_
    refine lv_iand hx hb dL_cell_22 ?_
    refine bret_Ri hx hb hr hS hlocks dL_cell_23 ?_
    rw [hand]
    unfold cellN
    rw [if_neg (fun z => absurd c1 (nI_ge z (by omega)))]
  · have hjL : j < L := by
      rcases Nat.lt_or_ge j L with z | z
      · exact z
      · exact absurd (nI_le z (by omega)) c1
    refine lv_aload_n hx hb dL_cell_6 rfl (lv_at hl 0 rfl) ?_
    refine lv_iload_n hx hb dL_cell_7 rfl (lv_at hl 1 rfl) ?_
    refine va_sld hx hb hXs hbl hbA hS (vp_in_nI hjL (by omega)) dL_cell_8 ?_
    refine lv_goto (tgt := 20) hx hb dL_cell_9 (by decide) ?_
    refine lv_ldc (v := 2147483647) hx hb hown (hts (.constant RL 8 (2147483647)) (List.mem_of_getElem? (i := 2) rfl)) dL_cell_20 ?_
    refine lv_iand hx hb dL_cell_22 ?_
    refine bret_Ri hx hb hr hS hlocks dL_cell_23 ?_
    rw [hand, mC (by omega)]
    unfold cellN
    rw [if_pos hjL]

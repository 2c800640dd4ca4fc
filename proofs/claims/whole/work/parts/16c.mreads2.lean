def L6_deliverable_2 (u : bU) (a1 : Int32) (a2 : Int32) : Nat → Nat → Int32
  | 0, _ => 0
  | n2 + 1, j2 => (if (50 : Int32) ≤ (nI j2) then (nI j2) else (if (F6_againstDeliver u a1 a2 ((nI j2) + 1)) = 0 then (L6_deliverable_2 u a1 a2 n2 (j2 + 1)) else (nI j2)))
def F6_deliverable (u : bU) (a1 : Int32) (a2 : Int32) : Int32 := (L6_deliverable_2 u a1 a2 (50 + 1) 0)
set_option maxHeartbeats 4000000 in
set_option maxRecDepth 100000 in
theorem C6_deliverable (l : Launch) (D : va_G) (cI : ClassId) (q : Nat → Nat) (u : bU) (H0 : Heap) (hP : va_P D vwCl (wM cI q u) H0) (hI : mInv u) (a1 : Int32) (a2 : Int32) (h_a1 : mB a1) (h_a2 : mS a2) : Met l yX6_deliverable wsX6_deliverable ({ frames := 4, cells := 0, slots := 0, locals := 88 }) (bP D [(cI, .int)] H0 [.ref (q 0), .int a1, .int a2]) (bRi H0 (F6_deliverable u a1 a2)) 0 0 (fun _ => False) := by
  refine Met.ofW (cc := cX6_deliverable) (maxL := 4) (ret := (some .int)) (by decide) rfl ?_
  intro p e s m args below meth c s₁ B hml hv
  obtain ⟨rfl, hH, hk⟩ := hv
  subst hH
  have hx := B.exec
  have hb := B.bytes
  have hr := B.returns
  have hts := atoms_spec (ws := wsX6_deliverable) B.pre
  have hown : s.vm.findClass RX6 = some m.cls := findClass_of_methodNamed B.named
  have hlocks := B.notSynchronized
  have hNB := mNB hI
  have hNS := mNS hI
  have hI0 := hI
  have hS : va_S (fun _ => False) s.heap s.heap [] := va_S.rf
  have hl := lv_entry ([.ref (q 0), .int a1, .int a2]) (n := 4) (Nat.le_of_ble_eq_true rfl)
  rw [lg_entry_eq]
  generalize (lg_sl ([.ref (q 0), .int a1, .int a2]) ++ List.replicate (4 - (lg_sl ([.ref (q 0), .int a1, .int a2])).length) Slot.unset).toArray = ls at hl ⊢
  have hl : lv_has ls 4 [(0, .ref (q 0)), (1, .int a1), (2, .int a2)] := hl
  generalize hF : F6_deliverable u a1 a2 = tgt
  refine lv_iconst (v := 0) hx hb dX6_deliverable_0 (by decide) ?_
  refine lv_istore_n (lv' := [(3, .int 0), (0, .ref (q 0)), (1, .int a1), (2, .int a2)]) hx hb dX6_deliverable_1 rfl hl (by decide) rfl (fun ls hl => ?_)
  have loop2 : ∀ (n2 j2 : Nat) (locs : List Loc) (ls : Array Slot), j2 ≤ 50 → 50 + 1 ≤ n2 + j2 → lv_has ls 4 [(0, .ref (q 0)), (1, .int a1), (2, .int a2), (3, .int (nI j2))] → va_S (fun _ => False) s.heap s.heap locs → L6_deliverable_2 u a1 a2  n2 j2 = tgt → W p l e (headSpec wsX6_deliverable ({ frames := 4, cells := 0, slots := 0, locals := 88 })).room s m ([.ref (q 0), .int a1, .int a2] : List Value).toArray below meth c s.heap locs 0 0 (MQ below (bRi s.heap tgt) ([.ref (q 0), .int a1, .int a2] : List Value).toArray s 0 0 (fun _ => False)) (F0 m 2 ls []) := by
    intro n2
    induction n2 with
    | zero => intro j2 locs ls hj hn; exact absurd hn (by omega)
    | succ n2 ih =>
      intro j2 locs ls hj hn hl hS hF
      refine lv_iload_n hx hb dX6_deliverable_2 rfl (lv_at hl 3 rfl) ?_
      refine lv_bipush (v := 50) hx hb dX6_deliverable_3 (by decide) ?_
      refine lv_icmp_ge (tgt := 26) hx hb dX6_deliverable_5 (by decide) (fun c_1 => ?_) (fun c_1 => ?_)
      · refine lv_iload_n hx hb dX6_deliverable_26 rfl (lv_at hl 3 rfl) ?_
        exact bret_Ri hx hb hr hS hlocks dX6_deliverable_27 (by rw [← hF, L6_deliverable_2, if_pos c_1])
      · have hlt_2 : j2 < 50 := bLt c_1 (by omega) (by decide)
        refine lv_aload_n hx hb dX6_deliverable_8 rfl (lv_at hl 0 rfl) ?_
        refine lv_iload_n hx hb dX6_deliverable_9 rfl (lv_at hl 1 rfl) ?_
        refine lv_iload_n hx hb dX6_deliverable_10 rfl (lv_at hl 2 rfl) ?_
        refine lv_iload_n hx hb dX6_deliverable_11 rfl (lv_at hl 3 rfl) ?_
        refine lv_iconst (v := 1) hx hb dX6_deliverable_12 (by decide) ?_
        refine lv_iadd hx hb dX6_deliverable_13 ?_
        refine bcall_Ri (va_runV (As := [.int a1, .int a2, .int ((nI j2) + 1)]) (rest := []) ⟨hx, hb, hml, hown, hts⟩ (C6_againstDeliver l D cI q _ _ hP hI a1 a2 ((nI j2) + 1) h_a1 h_a2) (cwV 3 hts gX6_deliverable_X6_againstDeliver rfl rfl rfl ⟨rfl, bd_X6againstDeliver⟩ ⟨Nat.le_of_ble_eq_true rfl, Nat.le_of_ble_eq_true rfl⟩) (bPV hk (va_recv hk.1 hP (ci := 6) (q0 := 0) rfl (wM_0 _ _ _))) rfl rfl hl.1 rfl (lv_room (Nat.le_of_ble_eq_true rfl)) dX6_deliverable_14 ⟨Nat.zero_le _, Nat.zero_le _⟩) hS (fun locs hS => ?_)
        refine lv_if_ne (tgt := 26) hx hb dX6_deliverable_17 (by decide) (fun c_3 => ?_) (fun c_3 => ?_)
        · refine lv_iload_n hx hb dX6_deliverable_26 rfl (lv_at hl 3 rfl) ?_
          exact bret_Ri hx hb hr hS hlocks dX6_deliverable_27 (by rw [← hF, L6_deliverable_2, if_neg c_1, if_neg c_3])
        · refine lv_iinc (v := (nI (j2 + 1))) (lv' := [(3, .int (nI (j2 + 1))), (0, .ref (q 0)), (1, .int a1), (2, .int a2)]) hx hb dX6_deliverable_20 hl (k := 3) rfl (bInc j2) (by decide) rfl (fun ls hl => ?_)
          refine lv_goto (tgt := 2) hx hb dX6_deliverable_23 (by decide) ?_
          exact ih (j2 + 1)  _ _ (by omega) (by omega) (lv_sub hl [1, 2, 3, 0] rfl) hS (by rw [← hF, L6_deliverable_2, if_neg c_1, if_pos c_3])
  exact loop2 (50 + 1) 0  _ _ (by omega) (by omega) (lv_sub hl [1, 2, 3, 0] rfl) hS (by rw [← hF, F6_deliverable])

-- BASE: rows of numbers, the two worlds, the nest's words, calls and ends (own text)
abbrev bU : Type := Nat → Nat → Int32
def bs (u : bU) (k : Nat) (h : Nat → Int32) : bU := fun j => if j = k then h else u j
theorem bs_eq (u : bU) (k : Nat) (h : Nat → Int32) : bs u k h k = h := if_pos rfl
theorem bs_ne (u : bU) {k j : Nat} (h : Nat → Int32) (n : j ≠ k) : bs u k h j = u j := if_neg n
theorem bs_bs (u : bU) (k : Nat) (h g : Nat → Int32) : bs (bs u k h) k g = bs u k g := by
  funext j
  by_cases e : j = k
  · simp [bs, e]
  · simp [bs, e]
theorem bs_self (u : bU) (k : Nat) : bs u k (u k) = u := by
  funext j
  by_cases e : j = k
  · subst e; simp [bs]
  · simp [bs, e]
/-- the class's cells: component 0 now's numbers, 1 left, 2 the codes, 3 to 8 the saved states, 9 the text's order, 10 the order, 11: latest, kept, length -/
def wC (cI cO : ClassId) (q : Nat → Nat) (u : bU) : va_W := [
  (q 0, .inr (5, [.ref (q 3), .ref (q 5), .ref (q 1), .ref (q 19), .ref (q 22)])),
  (q 1, .inr (4, [.ref (q 3), .ref (q 2)])),
  (q 2, .inl (cI, 8, .inl (u 1))),
  (q 3, .inr (2, [.ref (q 4)])),
  (q 4, .inl (cI, 345, .inl (u 0))),
  (q 5, .inr (1, [.ref (q 6), .int (u 11 0), .int (u 11 1)])),
  (q 6, .inl (cO, 6, .inr (.inr (.inr (.inr (fun i => some (q (7 + i)))))))),
  (q 7, .inr (2, [.ref (q 13)])),
  (q 8, .inr (2, [.ref (q 14)])),
  (q 9, .inr (2, [.ref (q 15)])),
  (q 10, .inr (2, [.ref (q 16)])),
  (q 11, .inr (2, [.ref (q 17)])),
  (q 12, .inr (2, [.ref (q 18)])),
  (q 13, .inl (cI, 345, .inl (u 3))),
  (q 14, .inl (cI, 345, .inl (u 4))),
  (q 15, .inl (cI, 345, .inl (u 5))),
  (q 16, .inl (cI, 345, .inl (u 6))),
  (q 17, .inl (cI, 345, .inl (u 7))),
  (q 18, .inl (cI, 345, .inl (u 8))),
  (q 19, .inr (3, [.ref (q 20), .ref (q 21), .int (u 11 2)])),
  (q 20, .inl (cI, 60, .inl (u 2))),
  (q 21, .inr (0, [.int (u 9 0), .int (u 9 1), .int (u 9 2), .int (u 9 3), .int (u 9 4)])),
  (q 22, .inr (0, [.int (u 10 0), .int (u 10 1), .int (u 10 2), .int (u 10 3), .int (u 10 4)]))]
/-- the reference's cells: component 0 v, 1 spare, 2 saved, 3 text, 4 lows, 5 highs, 6: saves, length, thrown, place, isWhole, letter, one, other, number, digit -/
def wM (cI : ClassId) (q : Nat → Nat) (u : bU) : va_W := [
  (q 0, .inr (6, [.ref (q 1), .ref (q 2), .ref (q 3), .int (u 6 0), .ref (q 4), .int (u 6 1), .int (u 6 2), .ref (q 5), .ref (q 6), .int (u 6 3), .int (u 6 4), .int (u 6 5), .int (u 6 6), .int (u 6 7), .int (u 6 8), .int (u 6 9)])),
  (q 1, .inl (cI, 283, .inl (u 0))),
  (q 2, .inl (cI, 283, .inl (u 1))),
  (q 3, .inl (cI, 1698, .inl (u 2))),
  (q 4, .inl (cI, 60, .inl (u 3))),
  (q 5, .inl (cI, 6, .inl (u 4))),
  (q 6, .inl (cI, 6, .inl (u 5)))]
def bA (n : Nat) (q : Nat → Nat) (sz : Nat) : Nat → Prop := fun a => (∃ k, k < n ∧ q k = a) ∨ sz ≤ a
theorem bA_mono {n : Nat} {q : Nat → Nat} {a b : Nat} (h : a ≤ b) : ∀ x, bA n q b x → bA n q a x := fun x hx => by
  rcases hx with hx | hx
  · exact Or.inl hx
  · exact Or.inr (Nat.le_trans h hx)
def bInj (n : Nat) (q : Nat → Nat) : Prop := ∀ i j, i < n → j < n → q i = q j → i = j
theorem wC_addr (cI cO : ClassId) (q : Nat → Nat) (u : bU) : (wC cI cO q u).map Prod.fst = (List.range 23).map q := rfl
theorem wM_addr (cI : ClassId) (q : Nat → Nat) (u : bU) : (wM cI q u).map Prod.fst = (List.range 7).map q := rfl
theorem bD_of {n : Nat} {q : Nat → Nat} {sz : Nat} {ws : va_W} (h : ws.map Prod.fst = (List.range n).map q) (hq : bInj n q) : va_D (bA n q sz) ws := by
  have key : ∀ (i : Nat) (p : Nat × va_E), ws[i]? = some p → i < n ∧ q i = p.1 := by
    intro i p hp
    have h1 : (ws.map Prod.fst)[i]? = some p.1 := by rw [List.getElem?_map, hp]; rfl
    rw [h, List.getElem?_map] at h1
    rcases Nat.lt_or_ge i n with hi | hi
    · rw [List.getElem?_range hi] at h1
      exact ⟨hi, Option.some.inj h1⟩
    · rw [List.getElem?_eq_none (by simpa using hi)] at h1
      cases h1
  refine ⟨fun i j p p2 hi hj hij => ?_, fun k p hk => ?_⟩
  · obtain ⟨a1, a2⟩ := key i p hi
    obtain ⟨b1, b2⟩ := key j p2 hj
    exact hq i j a1 b1 (by rw [a2, b2, hij])
  · obtain ⟨a1, a2⟩ := key k p hk
    exact Or.inl ⟨k, a1, a2⟩
theorem wC_D {cI cO : ClassId} {q : Nat → Nat} {u : bU} {sz : Nat} (hq : bInj 23 q) : va_D (bA 23 q sz) (wC cI cO q u) := bD_of (wC_addr cI cO q u) hq
theorem wM_D {cI : ClassId} {q : Nat → Nat} {u : bU} {sz : Nat} (hq : bInj 7 q) : va_D (bA 7 q sz) (wM cI q u) := bD_of (wM_addr cI q u) hq
theorem wC_0 (cI cO : ClassId) (q : Nat → Nat) (u : bU) : (wC cI cO q u)[0]? = some (q 0, .inr (5, [.ref (q 3), .ref (q 5), .ref (q 1), .ref (q 19), .ref (q 22)])) := rfl
theorem wC_1 (cI cO : ClassId) (q : Nat → Nat) (u : bU) : (wC cI cO q u)[1]? = some (q 1, .inr (4, [.ref (q 3), .ref (q 2)])) := rfl
theorem wC_2 (cI cO : ClassId) (q : Nat → Nat) (u : bU) : (wC cI cO q u)[2]? = some (q 2, .inl (cI, 8, .inl (u 1))) := rfl
theorem wC_3 (cI cO : ClassId) (q : Nat → Nat) (u : bU) : (wC cI cO q u)[3]? = some (q 3, .inr (2, [.ref (q 4)])) := rfl
theorem wC_4 (cI cO : ClassId) (q : Nat → Nat) (u : bU) : (wC cI cO q u)[4]? = some (q 4, .inl (cI, 345, .inl (u 0))) := rfl
theorem wC_5 (cI cO : ClassId) (q : Nat → Nat) (u : bU) : (wC cI cO q u)[5]? = some (q 5, .inr (1, [.ref (q 6), .int (u 11 0), .int (u 11 1)])) := rfl
theorem wC_6 (cI cO : ClassId) (q : Nat → Nat) (u : bU) : (wC cI cO q u)[6]? = some (q 6, .inl (cO, 6, .inr (.inr (.inr (.inr (fun i : Nat => some (q (7 + i)))))))) := rfl
theorem wC_7 (cI cO : ClassId) (q : Nat → Nat) (u : bU) : (wC cI cO q u)[7]? = some (q 7, .inr (2, [.ref (q 13)])) := rfl
theorem wC_8 (cI cO : ClassId) (q : Nat → Nat) (u : bU) : (wC cI cO q u)[8]? = some (q 8, .inr (2, [.ref (q 14)])) := rfl
theorem wC_9 (cI cO : ClassId) (q : Nat → Nat) (u : bU) : (wC cI cO q u)[9]? = some (q 9, .inr (2, [.ref (q 15)])) := rfl
theorem wC_10 (cI cO : ClassId) (q : Nat → Nat) (u : bU) : (wC cI cO q u)[10]? = some (q 10, .inr (2, [.ref (q 16)])) := rfl
theorem wC_11 (cI cO : ClassId) (q : Nat → Nat) (u : bU) : (wC cI cO q u)[11]? = some (q 11, .inr (2, [.ref (q 17)])) := rfl
theorem wC_12 (cI cO : ClassId) (q : Nat → Nat) (u : bU) : (wC cI cO q u)[12]? = some (q 12, .inr (2, [.ref (q 18)])) := rfl
theorem wC_13 (cI cO : ClassId) (q : Nat → Nat) (u : bU) : (wC cI cO q u)[13]? = some (q 13, .inl (cI, 345, .inl (u 3))) := rfl
theorem wC_14 (cI cO : ClassId) (q : Nat → Nat) (u : bU) : (wC cI cO q u)[14]? = some (q 14, .inl (cI, 345, .inl (u 4))) := rfl
theorem wC_15 (cI cO : ClassId) (q : Nat → Nat) (u : bU) : (wC cI cO q u)[15]? = some (q 15, .inl (cI, 345, .inl (u 5))) := rfl
theorem wC_16 (cI cO : ClassId) (q : Nat → Nat) (u : bU) : (wC cI cO q u)[16]? = some (q 16, .inl (cI, 345, .inl (u 6))) := rfl
theorem wC_17 (cI cO : ClassId) (q : Nat → Nat) (u : bU) : (wC cI cO q u)[17]? = some (q 17, .inl (cI, 345, .inl (u 7))) := rfl
theorem wC_18 (cI cO : ClassId) (q : Nat → Nat) (u : bU) : (wC cI cO q u)[18]? = some (q 18, .inl (cI, 345, .inl (u 8))) := rfl
theorem wC_19 (cI cO : ClassId) (q : Nat → Nat) (u : bU) : (wC cI cO q u)[19]? = some (q 19, .inr (3, [.ref (q 20), .ref (q 21), .int (u 11 2)])) := rfl
theorem wC_20 (cI cO : ClassId) (q : Nat → Nat) (u : bU) : (wC cI cO q u)[20]? = some (q 20, .inl (cI, 60, .inl (u 2))) := rfl
theorem wC_21 (cI cO : ClassId) (q : Nat → Nat) (u : bU) : (wC cI cO q u)[21]? = some (q 21, .inr (0, [.int (u 9 0), .int (u 9 1), .int (u 9 2), .int (u 9 3), .int (u 9 4)])) := rfl
theorem wC_22 (cI cO : ClassId) (q : Nat → Nat) (u : bU) : (wC cI cO q u)[22]? = some (q 22, .inr (0, [.int (u 10 0), .int (u 10 1), .int (u 10 2), .int (u 10 3), .int (u 10 4)])) := rfl
theorem wM_0 (cI : ClassId) (q : Nat → Nat) (u : bU) : (wM cI q u)[0]? = some (q 0, .inr (6, [.ref (q 1), .ref (q 2), .ref (q 3), .int (u 6 0), .ref (q 4), .int (u 6 1), .int (u 6 2), .ref (q 5), .ref (q 6), .int (u 6 3), .int (u 6 4), .int (u 6 5), .int (u 6 6), .int (u 6 7), .int (u 6 8), .int (u 6 9)])) := rfl
theorem wM_1 (cI : ClassId) (q : Nat → Nat) (u : bU) : (wM cI q u)[1]? = some (q 1, .inl (cI, 283, .inl (u 0))) := rfl
theorem wM_2 (cI : ClassId) (q : Nat → Nat) (u : bU) : (wM cI q u)[2]? = some (q 2, .inl (cI, 283, .inl (u 1))) := rfl
theorem wM_3 (cI : ClassId) (q : Nat → Nat) (u : bU) : (wM cI q u)[3]? = some (q 3, .inl (cI, 1698, .inl (u 2))) := rfl
theorem wM_4 (cI : ClassId) (q : Nat → Nat) (u : bU) : (wM cI q u)[4]? = some (q 4, .inl (cI, 60, .inl (u 3))) := rfl
theorem wM_5 (cI : ClassId) (q : Nat → Nat) (u : bU) : (wM cI q u)[5]? = some (q 5, .inl (cI, 6, .inl (u 4))) := rfl
theorem wM_6 (cI : ClassId) (q : Nat → Nat) (u : bU) : (wM cI q u)[6]? = some (q 6, .inl (cI, 6, .inl (u 5))) := rfl

def bNest : List Cond := [.methodLinkNest RX5 11 yX4_init RX5,
  .methodLinkNest RX4 11 yX2_init RX5,
  .methodLinkNest RX2 18 yX5_entry RX5,
  .methodLinkNest RX5 25 yX1_init RX5,
  .methodLinkNest RX1 15 yX2_init RX5,
  .methodLinkNest RX5 32 yX3_init RX5,
  .methodLinkNest RX3 15 yX0_init RX5,
  .methodLinkNest RX5 39 yX0_init RX5,
  .methodLinkNest RX5 52 yX2_ofAll RX5,
  .methodLinkNest RX5 62 yX1_keep RX5,
  .methodLinkNest RX1 27 yX2_copyFrom RX5,
  .methodLinkNest RX5 66 yX2_addToAll RX5,
  .methodLinkNest RX5 70 yX2_addToBrand RX5,
  .methodLinkNest RX5 74 yX2_addToShop RX5,
  .methodLinkNest RX5 77 yX2_countNumber RX5,
  .methodLinkNest RX5 94 yX2_ofSetting RX5,
  .methodLinkNest RX5 97 yX2_putSetting RX5,
  .methodLinkNest RX5 103 yX2_ofBrand RX5,
  .methodLinkNest RX5 107 yX4_fillBottles RX5,
  .methodLinkNest RX4 26 yX2_ofSetting RX5,
  .methodLinkNest RX4 22 yX2_ofBrand RX5,
  .methodLinkNest RX4 54 yX2_addToBrand RX5,
  .methodLinkNest RX5 179 yX1_kept RX5,
  .methodLinkNest RX5 182 yX1_giveBack RX5,
  .methodLinkNest RX5 185 yX2_brandNumber RX5,
  .methodLinkNest RX5 204 yX4_bestToCollect RX5,
  .methodLinkNest RX4 36 yX2_ofShop RX5,
  .methodLinkNest RX5 207 yX2_brandSum RX5,
  .methodLinkNest RX5 192 yX2_shopNumber RX5,
  .methodLinkNest RX5 201 yX4_wornBy RX5,
  .methodLinkNest RX5 113 yX4_deliverReason RX5,
  .methodLinkNest RX4 33 yX2_ofAll RX5,
  .methodLinkNest RX5 195 yX4_mostDeliverable RX5,
  .methodLinkNest RX5 117 yX4_deliverCrates RX5,
  .methodLinkNest RX4 58 yX2_addToShop RX5,
  .methodLinkNest RX4 61 yX2_addToAll RX5,
  .methodLinkNest RX5 120 yX4_sellReason RX5,
  .methodLinkNest RX5 123 yX4_sellBottles RX5,
  .methodLinkNest RX5 126 yX4_returnReason RX5,
  .methodLinkNest RX5 129 yX4_returnBottles RX5,
  .methodLinkNest RX5 198 yX4_wouldCollect RX5,
  .methodLinkNest RX4 88 yX5_entry RX5,
  .methodLinkNest RX5 141 yX4_collectReason RX5,
  .methodLinkNest RX5 144 yX4_collectCrates RX5,
  .methodLinkNest RX5 132 yX4_breakReason RX5,
  .methodLinkNest RX5 135 yX4_breakBottles RX5,
  .methodLinkNest RX5 138 yX4_loseBottles RX5,
  .methodLinkNest RX5 147 yX4_yardOf RX5,
  .methodLinkNest RX5 150 yX4_sortBottles RX5,
  .methodLinkNest RX5 156 yX4_swapBottles RX5,
  .methodLinkNest RX4 79 yX2_addToSwaps RX5,
  .methodLinkNest RX4 82 yX2_ofSwaps RX5,
  .fieldLinkNest RX2 15 "BottleLoop" "FIRST_SETTING" "[I" RX5,
  .fieldLinkNest RX5 16 "BottleLoop$Trade" "state" "LBottleLoop$State;" RX5,
  .castable "java/lang/IndexOutOfBoundsException" "java/lang/IndexOutOfBoundsException",
  .castable "java/lang/IllegalArgumentException" "java/lang/IllegalArgumentException",
  .castable "java/lang/IllegalStateException" "java/lang/IllegalStateException",
  .declares ⟨"java/lang/RuntimeException", "<init>", "(Ljava/lang/String;)V"⟩,
  .declares ⟨"java/lang/Exception", "<init>", "(Ljava/lang/String;)V"⟩,
  .declares ⟨"java/lang/Throwable", "<init>", "(Ljava/lang/String;)V"⟩]
def bIsN (w : Cond) : Bool := match w with
  | .methodLinkNest .. => true
  | .fieldLinkNest .. => true
  | .castable .. => true
  | .declares .. => true
  | _ => false
theorem bIsN_ok : bNest.all bIsN = true := by decide +kernel
theorem bNw_warm {w : Cond} (h : bIsN w = true) {s U : State} (hW : s.WarmedH U.vm) (hz : va_Nw w s) : va_Nw w U := by
  cases w <;> first | (simp [bIsN] at h; done) | exact va_Nw.warmM hW hz | exact va_Nw.warmF hW hz | exact va_Nw.warmC hW hz | exact va_Nw.warmD hW hz
theorem bNw_on {w : Cond} (h : bIsN w = true) : w.onTables = true := by
  cases w <;> first | (simp [bIsN] at h; done) | rfl
def bK (D : va_G) (tys : List (ClassId × FieldType)) (U : State) : Prop := va_K D vwCl tys U ∧ ∀ w ∈ bNest, va_Nw w U
theorem bK.warm {D : va_G} {tys : List (ClassId × FieldType)} {s U : State} (h : bK D tys s) (hW : s.WarmedH U.vm) : bK D tys U := ⟨va_K.moved hW.alike h.1, fun w hw => bNw_warm (List.all_eq_true.mp bIsN_ok w hw) hW (h.2 w hw)⟩
theorem bK.calling {D : va_G} {tys : List (ClassId × FieldType)} {U : State} {g : JFrame} {mk : MethodId} {a : Array Value} (h : bK D tys U) : bK D tys (U.calling g mk a) := ⟨va_K.moved (u := U) (U := U.calling g mk a) (Vm.Alike.refl U.vm) h.1, fun w hw => va_Nw.same (u := U) (U := U.calling g mk a) (bNw_on (List.all_eq_true.mp bIsN_ok w hw)) rfl (h.2 w hw)⟩
/-- a method's start: a heap that is given, the tables -/
abbrev bP (D : va_G) (tys : List (ClassId × FieldType)) (H0 : Heap) (av : List Value) : Array Value → State → Prop := va_Pc av (fun U => U.heap = H0 ∧ bK D tys U)
theorem bPV {s : State} {H : Heap} {C : String} {b : Addr} {As : List Value} {D : va_G} {tys : List (ClassId × FieldType)} (hk : bK D tys s) (hc : ∃ cell : Cell, H[b]? = some cell ∧ cell.vm.isStatics = false ∧ s.vm.findClass C = some cell.cls) : PreV s H C b (bP D tys H (.ref b :: As)) As :=
  ⟨fun a U g mk q => ⟨q.1, q.2.1, q.2.2.calling⟩, hc, fun U hU hW => ⟨rfl, hU, hk.warm hW⟩⟩
theorem bPS {s : State} {H : Heap} {As : List Value} {D : va_G} {tys : List (ClassId × FieldType)} (hk : bK D tys s) : PreS s H (bP D tys H As) As :=
  ⟨fun a U g mk q => ⟨q.1, q.2.1, q.2.2.calling⟩, fun U hU hW => ⟨rfl, hU, hk.warm hW⟩⟩
/-- reads: the answer is v, the heap stays -/
abbrev bRi (H0 : Heap) (v : Int32) : Array Value → State → Outcome → State → Prop := va_Qi (fun (r : Int32) (_ : Unit) => r = v) (fun _ t => t.heap = H0) (fun _ => False)
abbrev bRl (H0 : Heap) (v : Int64) : Array Value → State → Outcome → State → Prop := va_Ql (fun (r : Int64) (_ : Unit) => r = v) (fun _ t => t.heap = H0) (fun _ => False)
abbrev bRd (H0 : Heap) (v : UInt64) : Array Value → State → Outcome → State → Prop := va_Qd (fun (r : UInt64) (_ : Unit) => r = v) (fun _ t => t.heap = H0) (fun _ => False)
/-- writes: the answer and the state behind it -/
abbrev bWi (D : va_G) (WD : bU → va_W) (I : bU → Prop) (A : Nat → Prop) (v : Int32 × bU) : Array Value → State → Outcome → State → Prop := va_Qi (fun (r : Int32) (u : bU) => (r, u) = v) (fun u t => va_P D vwCl (WD u) t.heap ∧ I u) A
abbrev bWd (D : va_G) (WD : bU → va_W) (I : bU → Prop) (A : Nat → Prop) (v : UInt64 × bU) : Array Value → State → Outcome → State → Prop := va_Qd (fun (r : UInt64) (u : bU) => (r, u) = v) (fun u t => va_P D vwCl (WD u) t.heap ∧ I u) A
abbrev bWl (D : va_G) (WD : bU → va_W) (I : bU → Prop) (A : Nat → Prop) (v : Int64 × bU) : Array Value → State → Outcome → State → Prop := va_Ql (fun (r : Int64) (u : bU) => (r, u) = v) (fun u t => va_P D vwCl (WD u) t.heap ∧ I u) A
abbrev bWv (D : va_G) (WD : bU → va_W) (I : bU → Prop) (A : Nat → Prop) (v : bU) : Array Value → State → Outcome → State → Prop := va_Qv (fun (u : bU) => u = v) (fun u t => va_P D vwCl (WD u) t.heap ∧ I u) A
/-- nothing more is said of the class's state -/
def bT (_ : bU) : Prop := True
section BCALL
variable {p : Program} {l : Launch} {e : Env} {R : Room} {s : State} {m : MethodId} {args : Array Value} {below : List Frame} {meth : Method} {c : Code} {H : Heap} {locs : List Loc} {cells slots : Nat} {Q : State → Prop}
variable {pc : Nat} {ls : Array Slot} {rest st0 : List Value} {a : Array Value} {A0 : Nat → Prop} {H0 : Heap}
theorem bcall_Ri {v : Int32} (hr : va_Run p l e R s m args below meth c H locs cells slots 0 0 (F0 m pc ls st0) rest (bRi H v a) (fun _ => False)) (hS : va_S A0 H0 H locs)
    (kk : ∀ locs1 : List Loc, va_S A0 H0 H locs1 → W p l e R s m args below meth c H locs1 cells slots Q (F0 m (pc + 3) ls (.int v :: rest))) : W p l e R s m args below meth c H locs cells slots Q (F0 m pc ls st0) :=
  va_calli hr hS (fun _ _ h => h.elim) (fun _ h => h.elim) (fun r u t H1 locs1 ht _ hw hB _ _ hS1 => by
    have e : H1 = H := ht.symm.trans hB
    subst e; subst hw
    exact kk locs1 hS1)
theorem bcall_Rl {v : Int64} (hr : va_Run p l e R s m args below meth c H locs cells slots 0 0 (F0 m pc ls st0) rest (bRl H v a) (fun _ => False)) (hS : va_S A0 H0 H locs)
    (kk : ∀ locs1 : List Loc, va_S A0 H0 H locs1 → W p l e R s m args below meth c H locs1 cells slots Q (F0 m (pc + 3) ls (.long v :: rest))) : W p l e R s m args below meth c H locs cells slots Q (F0 m pc ls st0) :=
  va_calll hr hS (fun _ _ h => h.elim) (fun _ h => h.elim) (fun r u t H1 locs1 ht _ hw hB _ _ hS1 => by
    have e : H1 = H := ht.symm.trans hB
    subst e; subst hw
    exact kk locs1 hS1)
theorem bcall_Rd {v : UInt64} (hr : va_Run p l e R s m args below meth c H locs cells slots 0 0 (F0 m pc ls st0) rest (bRd H v a) (fun _ => False)) (hS : va_S A0 H0 H locs)
    (kk : ∀ locs1 : List Loc, va_S A0 H0 H locs1 → W p l e R s m args below meth c H locs1 cells slots Q (F0 m (pc + 3) ls (.double v :: rest))) : W p l e R s m args below meth c H locs cells slots Q (F0 m pc ls st0) :=
  va_calld hr hS (fun _ _ h => h.elim) (fun _ h => h.elim) (fun r u t H1 locs1 ht _ hw hB _ _ hS1 => by
    have e : H1 = H := ht.symm.trans hB
    subst e; subst hw
    exact kk locs1 hS1)
theorem bcall_Wi {D : va_G} {WD : bU → va_W} {I : bU → Prop} {n : Nat} {q : Nat → Nat} {v : Int32 × bU} (hr : va_Run p l e R s m args below meth c H locs cells slots 0 0 (F0 m pc ls st0) rest (bWi D WD I (bA n q H.size) v a) (bA n q H.size)) (hS : va_S (bA n q H0.size) H0 H locs)
    (kk : ∀ (H1 : Heap) (locs1 : List Loc), va_P D vwCl (WD v.2) H1 → I v.2 → va_S (bA n q H0.size) H0 H1 locs1 → W p l e R s m args below meth c H1 locs1 cells slots Q (F0 m (pc + 3) ls (.int v.1 :: rest))) : W p l e R s m args below meth c H locs cells slots Q (F0 m pc ls st0) :=
  va_calli hr hS (fun x _ h => bA_mono hS.1 x h) (fun x h => bA_mono hS.1 x h) (fun r u t H1 locs1 ht _ hw hB _ _ hS1 => by
    subst hw; subst ht
    exact kk _ locs1 hB.1 hB.2 hS1)
theorem bcall_Wl {D : va_G} {WD : bU → va_W} {I : bU → Prop} {n : Nat} {q : Nat → Nat} {v : Int64 × bU} (hr : va_Run p l e R s m args below meth c H locs cells slots 0 0 (F0 m pc ls st0) rest (bWl D WD I (bA n q H.size) v a) (bA n q H.size)) (hS : va_S (bA n q H0.size) H0 H locs)
    (kk : ∀ (H1 : Heap) (locs1 : List Loc), va_P D vwCl (WD v.2) H1 → I v.2 → va_S (bA n q H0.size) H0 H1 locs1 → W p l e R s m args below meth c H1 locs1 cells slots Q (F0 m (pc + 3) ls (.long v.1 :: rest))) : W p l e R s m args below meth c H locs cells slots Q (F0 m pc ls st0) :=
  va_calll hr hS (fun x _ h => bA_mono hS.1 x h) (fun x h => bA_mono hS.1 x h) (fun r u t H1 locs1 ht _ hw hB _ _ hS1 => by
    subst hw; subst ht
    exact kk _ locs1 hB.1 hB.2 hS1)
theorem bcall_Wv {D : va_G} {WD : bU → va_W} {I : bU → Prop} {n : Nat} {q : Nat → Nat} {v : bU} (hr : va_Run p l e R s m args below meth c H locs cells slots 0 0 (F0 m pc ls st0) rest (bWv D WD I (bA n q H.size) v a) (bA n q H.size)) (hS : va_S (bA n q H0.size) H0 H locs)
    (kk : ∀ (H1 : Heap) (locs1 : List Loc), va_P D vwCl (WD v) H1 → I v → va_S (bA n q H0.size) H0 H1 locs1 → W p l e R s m args below meth c H1 locs1 cells slots Q (F0 m (pc + 3) ls rest)) : W p l e R s m args below meth c H locs cells slots Q (F0 m pc ls st0) :=
  va_callv hr hS (fun x _ h => bA_mono hS.1 x h) (fun x h => bA_mono hS.1 x h) (fun u t H1 locs1 ht _ hw hB _ _ hS1 => by
    subst hw; subst ht
    exact kk _ locs1 hB.1 hB.2 hS1)
variable {cc : ByteArray}
theorem bret_Ri {v tgt : Int32} (hx : p.tables.exec = Jvm.exec) (hb : c.code = cc) (hr : meth.sig.returnType = some .int) (hS : va_S (fun _ => False) s.heap s.heap locs) (hlocks : meth.locks = false) (hdg : decode cc pc = .ok (.ireturn, 1)) (hv : v = tgt) : W p l e R s m args below meth c s.heap locs 0 0 (MQ below (bRi s.heap tgt) args s 0 0 (fun _ => False)) (F0 m pc ls [.int v]) :=
  W.iret hx hb hr (fun t ht _ => ⟨⟨v, (), rfl, hv, ht⟩, va_S.F hS ht⟩) hS.2.2 hdg hlocks
theorem bret_Rz {v tgt : Int32} (hx : p.tables.exec = Jvm.exec) (hb : c.code = cc) (hr : meth.sig.returnType = some .boolean) (hS : va_S (fun _ => False) s.heap s.heap locs) (hlocks : meth.locks = false) (hdg : decode cc pc = .ok (.ireturn, 1)) (h01 : v = 0 ∨ v = 1) (hv : v = tgt) : W p l e R s m args below meth c s.heap locs 0 0 (MQ below (bRi s.heap tgt) args s 0 0 (fun _ => False)) (F0 m pc ls [.int v]) :=
  W.zret hx hb hr (by rcases h01 with e | e <;> subst e <;> decide) (fun t ht _ => ⟨⟨v, (), rfl, hv, ht⟩, va_S.F hS ht⟩) hS.2.2 hdg hlocks
abbrev bRr (H0 : Heap) (a : Nat) : Array Value → State → Outcome → State → Prop := va_Qr (fun (_ : Unit) => True) (fun _ x t => x = a ∧ t.heap = H0) (fun _ => False)
theorem bret_Rr {a tgt : Nat} {rt : FieldType} (hx : p.tables.exec = Jvm.exec) (hb : c.code = cc) (hr : meth.sig.returnType = some rt) (hrt : (∃ n, rt = .object n) ∨ ∃ t, rt = .array t) (hS : va_S (fun _ => False) s.heap s.heap locs) (hlocks : meth.locks = false) (hdg : decode cc pc = .ok (.areturn, 1)) (hv : a = tgt) : W p l e R s m args below meth c s.heap locs 0 0 (MQ below (bRr s.heap tgt) args s 0 0 (fun _ => False)) (F0 m pc ls [.ref a]) :=
  W.aret hx hb hr hrt (Or.inr ⟨a, rfl⟩) (fun t ht _ => ⟨⟨(), a, rfl, trivial, hv, ht⟩, va_S.F hS ht⟩) hS.2.2 hdg hlocks
theorem bcall_Rr {v : Nat} (hr : va_Run p l e R s m args below meth c H locs cells slots 0 0 (F0 m pc ls st0) rest (bRr H v a) (fun _ => False)) (hS : va_S A0 H0 H locs)
    (kk : ∀ locs1 : List Loc, va_S A0 H0 H locs1 → W p l e R s m args below meth c H locs1 cells slots Q (F0 m (pc + 3) ls (.ref v :: rest))) : W p l e R s m args below meth c H locs cells slots Q (F0 m pc ls st0) :=
  va_callr hr hS (fun _ _ h => h.elim) (fun _ h => h.elim) (fun u x t H1 locs1 ht _ hw hB _ _ hS1 => by
    have e : H1 = H := ht.symm.trans hB.2
    have e2 : x = v := hB.1
    subst e; subst e2
    exact kk locs1 hS1)
theorem bret_Rl {v tgt : Int64} (hx : p.tables.exec = Jvm.exec) (hb : c.code = cc) (hr : meth.sig.returnType = some .long) (hS : va_S (fun _ => False) s.heap s.heap locs) (hlocks : meth.locks = false) (hdg : decode cc pc = .ok (.lreturn, 1)) (hv : v = tgt) : W p l e R s m args below meth c s.heap locs 0 0 (MQ below (bRl s.heap tgt) args s 0 0 (fun _ => False)) (F0 m pc ls [.long v]) :=
  W.lret hx hb hr (fun t ht _ => ⟨⟨v, (), rfl, hv, ht⟩, va_S.F hS ht⟩) hS.2.2 hdg hlocks
theorem bret_Wi {D : va_G} {WD : bU → va_W} {I : bU → Prop} {A : Nat → Prop} {v : Int32} {u : bU} {tgt : Int32 × bU} (hx : p.tables.exec = Jvm.exec) (hb : c.code = cc) (hr : meth.sig.returnType = some .int) (hP : va_P D vwCl (WD u) H) (hI : I u) (hS : va_S A s.heap H locs) (hlocks : meth.locks = false) (hdg : decode cc pc = .ok (.ireturn, 1)) (hv : (v, u) = tgt) : W p l e R s m args below meth c H locs 0 0 (MQ below (bWi D WD I A tgt) args s 0 0 A) (F0 m pc ls [.int v]) :=
  W.iret hx hb hr (fun t ht _ => ⟨⟨v, u, rfl, hv, by rw [ht]; exact hP, hI⟩, va_S.F hS ht⟩) hS.2.2 hdg hlocks
theorem bret_Wl {D : va_G} {WD : bU → va_W} {I : bU → Prop} {A : Nat → Prop} {v : Int64} {u : bU} {tgt : Int64 × bU} (hx : p.tables.exec = Jvm.exec) (hb : c.code = cc) (hr : meth.sig.returnType = some .long) (hP : va_P D vwCl (WD u) H) (hI : I u) (hS : va_S A s.heap H locs) (hlocks : meth.locks = false) (hdg : decode cc pc = .ok (.lreturn, 1)) (hv : (v, u) = tgt) : W p l e R s m args below meth c H locs 0 0 (MQ below (bWl D WD I A tgt) args s 0 0 A) (F0 m pc ls [.long v]) :=
  W.lret hx hb hr (fun t ht _ => ⟨⟨v, u, rfl, hv, by rw [ht]; exact hP, hI⟩, va_S.F hS ht⟩) hS.2.2 hdg hlocks
theorem bret_Wz {D : va_G} {WD : bU → va_W} {I : bU → Prop} {A : Nat → Prop} {v : Int32} {u : bU} {tgt : Int32 × bU} (hx : p.tables.exec = Jvm.exec) (hb : c.code = cc) (hr : meth.sig.returnType = some .boolean) (hP : va_P D vwCl (WD u) H) (hI : I u) (hS : va_S A s.heap H locs) (hlocks : meth.locks = false) (hdg : decode cc pc = .ok (.ireturn, 1)) (h01 : v = 0 ∨ v = 1) (hv : (v, u) = tgt) : W p l e R s m args below meth c H locs 0 0 (MQ below (bWi D WD I A tgt) args s 0 0 A) (F0 m pc ls [.int v]) :=
  W.zret hx hb hr (by rcases h01 with e | e <;> subst e <;> decide) (fun t ht _ => ⟨⟨v, u, rfl, hv, by rw [ht]; exact hP, hI⟩, va_S.F hS ht⟩) hS.2.2 hdg hlocks
theorem bret_Wv {D : va_G} {WD : bU → va_W} {I : bU → Prop} {A : Nat → Prop} {u tgt : bU} (hx : p.tables.exec = Jvm.exec) (hb : c.code = cc) (hr : meth.sig.returnType = none) (hP : va_P D vwCl (WD u) H) (hI : I u) (hS : va_S A s.heap H locs) (hlocks : meth.locks = false) (hdg : decode cc pc = .ok (.return_, 1)) (hv : u = tgt) : W p l e R s m args below meth c H locs 0 0 (MQ below (bWv D WD I A tgt) args s 0 0 A) (F0 m pc ls []) :=
  W.vret hx hb hr (fun t ht _ => ⟨⟨u, rfl, hv, by rw [ht]; exact hP, hI⟩, va_S.F hS ht⟩) hS.2.2 hdg
end BCALL
theorem bIn {x : Int32} {n : Nat} (h1 : ¬ x < 0) (h2 : ¬ Int32.ofNat n ≤ x) (hn : n < 2 ^ 31) : vp_in x n := by
  rcases pk_ix x hn with h | h | ⟨j, hj, rfl⟩
  · exact absurd h h1
  · exact absurd h h2
  · exact vp_in_nI hj hn
theorem bLt {j N : Nat} (h : ¬ Int32.ofNat N ≤ nI j) (hj : j < 2 ^ 31) (hN : N < 2 ^ 31) : j < N := by
  rcases Nat.lt_or_ge j N with q | q
  · exact q
  · exact absurd (nI_le q hj) h
theorem bLtG {j N : Nat} (h : ¬ Int32.ofNat N < nI j) (hj : j < 2 ^ 31) (hN : N < 2 ^ 31) : j < N + 1 := by
  rcases Nat.lt_or_ge N j with q | q
  · exact absurd (nI_lt q hj) h
  · omega
theorem bLtB {j : Nat} {B : Int32} (h : ¬ B ≤ nI j) (hj : j < 2 ^ 31) : j < B.toNatClampNeg := by
  have h1 : (nI j).toInt < B.toInt := by
    rw [Int32.le_iff_toInt_le] at h
    omega
  rw [nI_toInt hj] at h1
  have h2 : (B.toNatClampNeg : Int) = B.toInt.toNat := rfl
  omega
theorem bLtGB {j : Nat} {B : Int32} (h : ¬ B < nI j) (hj : j < 2 ^ 31) : j < B.toNatClampNeg + 1 := by
  have h1 : (nI j).toInt ≤ B.toInt := by
    rw [Int32.lt_iff_toInt_lt] at h
    omega
  rw [nI_toInt hj] at h1
  have h2 : (B.toNatClampNeg : Int) = B.toInt.toNat := rfl
  omega
theorem bClamp (B : Int32) : B.toNatClampNeg < 2 ^ 31 := by
  have h := Int32.toInt_lt B
  have h2 : (B.toNatClampNeg : Int) = B.toInt.toNat := rfl
  omega
def bput (u : bU) (k i : Nat) (x : Int32) : bU := bs u k (upd (u k) i x)
def bmin (x y : Int32) : Int32 := if y < x then y else x
theorem bPosNe {x : Int32} (h : 0 < x) : ¬ x = 0 := fun e => by subst e; exact absurd h (by decide)
theorem bNleNe {x : Int32} (h : ¬ x ≤ 0) : ¬ x = 0 := fun e => by subst e; exact absurd h (by decide)
theorem bRow {D : va_G} {cl : List vw_C} {ws : va_W} {H : Heap} (hP : va_P D cl ws H) (k : Nat) {a : Nat} {e : va_E} (h : ws[k]? = some (a, e)) : va_P D cl [(a, e)] H := hP.sub (ws' := [(a, e)]) [k] (by simp [h])
section BMIN
variable {p : Program} {l : Launch} {e : Env} {R : Room} {s : State} {m : MethodId} {args : Array Value} {below : List Frame} {meth : Method} {c : Code} {H : Heap} {locs : List Loc} {cells slots : Nat} {Q : State → Prop} {pc : Nat} {ls : Array Slot} {rest : List Value}
theorem bcall_min {cc : ByteArray} (hexec : p.tables.exec = Jvm.exec) (hb : c.code = cc) (hml : c.maxLocals = ls.size) {own : String} {index : Nat} (hown : s.vm.findClass own = some m.cls) (hlink : (Cond.methodLink own index Lib.Math.min.name).before args s = true) (hstat : (Cond.static Lib.Math.min.name).before args s = true) (hini : (Cond.initialized "java/lang/Math").before args s = true) (hcode : (Cond.code Lib.Math.min.name Lib.Math.min.code 2 (some .int)).before args s = true)
    (hframes : 1 ≤ R.frames) (hlocals : (rest.map fun v => v.category).sum + 13 ≤ R.locals) (hc : cells ≤ R.cells) (hs : slots ≤ R.slots) {x y : Int32} (hdg : decode cc pc = .ok (.invokestatic index, 3))
    (kk : W p l e R s m args below meth c H locs cells slots Q (F0 m (pc + 3) ls (.int (bmin x y) :: rest))) : W p l e R s m args below meth c H locs cells slots Q (F0 m pc ls (.int y :: .int x :: rest)) := va_mmin hexec hb hml hown hlink hstat hini hcode hframes hlocals hc hs hdg kk
end BMIN
theorem bInc (j : Nat) : nI j + Int32.ofInt 1 = nI (j + 1) := nI_1 j

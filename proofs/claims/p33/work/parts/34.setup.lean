-- the law's set-up and its end: set, buyCrates, addBrand, addShop, undo (own text)
section SU
variable {B n t : Nat} {kd : Nat → Nat} {f : Nat} {m k : Int32} {bb : Nat → Int32} {u : bU}
theorem KP_uC0 : KP0 uC0 := ⟨0, 0, by decide, by decide, rfl, rfl⟩
theorem sF_0 {j : Nat} (h : j < 11 ∨ 17 ≤ j) : sF 6 j = 0 := by
  unfold sF
  rw [if_neg (by omega)]
def u1row (f : Nat) : Nat → Int32 := upd (sF 6) 16 (nI f)
theorem u1row_0 {f j : Nat} (h : j < 11 ∨ 17 ≤ j) : u1row f j = 0 := by
  unfold u1row
  rw [pk_un (by omega)]
  exact sF_0 h
theorem INV_0 {f : Nat} (h1 : 2 ≤ f) (h2 : f ≤ 1000) : INV 1000 0 0 (fun _ => 0) f 0 0 0 (fun _ => 0) (u1row f) := by
  have zS : ∀ w : Nat, w < 28 → Ss (u1row f) w = 0 := fun w hw => acc_zero 6 0 0 (fun i _ hi => u1row_0 (by omega))
  have zB : ∀ g : Nat → Int32, ∀ w : Nat, Sb g (u1row f) w = 0 := fun g w => acc_zero 8 0 0 (fun i _ hi => by
    show u1row f (17 + 12 * i + w) * g i = 0
    rw [u1row_0 (by omega), Int32.zero_mul])
  have zD : ∀ g : Nat → Int32, ∀ o : Nat, o = 10 ∨ o = 20 → Sd g (u1row f) o = 0 := fun g o ho => acc_zero 8 0 0 (fun i _ hi => by
    show Ss (u1row f) (o + i) * g i = 0
    rw [zS _ (by omega), Int32.zero_mul])
  refine ⟨⟨⟨by decide, by decide, u1row_0 (by omega), u1row_0 (by omega)⟩, fun b hb => ⟨show (0 : Nat) < 2 by decide, u1row_0 (by omega)⟩, ?_, ?_, ?_, ?_, ?_, ?_, h1, h2⟩, ⟨fun b w _ _ _ _ => u1row_0 (by omega), fun s w _ _ _ => u1row_0 (by omega), fun s b _ _ _ => ⟨u1row_0 (by omega), u1row_0 (by omega)⟩, fun b _ _ => ⟨rfl, rfl⟩⟩, fun j hj => ?_, fun b hb => ⟨0, by decide, u1row_0 (by omega), ?_⟩, fun a b ha hb => ?_, ⟨fun b hb => ?_, ?_, ?_, ?_, ?_, ?_, ?_⟩⟩
  · unfold u1row; rw [pk_un (by decide)]; rfl
  · unfold u1row; rw [pk_un (by decide)]; rfl
  · unfold u1row; rw [pk_un (by decide)]; rfl
  · unfold u1row; rw [pk_un (by decide)]; rfl
  · unfold u1row; rw [pk_un (by decide)]; rfl
  · unfold u1row; exact pk_us
  · have : j < 11 ∨ 17 ≤ j := by
      rcases hj with h | h | ⟨b, w, a1, a2, a3⟩ | ⟨s, w, a1, a2, a3⟩ <;> omega
    rw [u1row_0 this]
    exact rg_nI (a := 0) (by decide) (by decide)
  · rw [u1row_0 (by omega), Nat.zero_div]; rfl
  · rw [u1row_0 (by omega), u1row_0 (by omega)]; decide
  · unfold Ab
    rw [zS _ (by omega), zS _ (by omega), u1row_0 (by omega), u1row_0 (by omega), u1row_0 (by omega), u1row_0 (by omega), u1row_0 (by omega), u1row_0 (by omega), u1row_0 (by omega), u1row_0 (by omega)]
    show (0 + 0 + 0 + 0 + 0 + 0 + 0 + 0 + 0 + 0 : Int32) = 0
    decide
  · rw [zS _ (by decide), zD _ _ (Or.inl rfl), zD _ _ (Or.inr rfl), zB, u1row_0 (by omega), u1row_0 (by omega)]; decide
  · rw [zS _ (by decide), u1row_0 (by omega)]
  · rw [zS _ (by decide), u1row_0 (by omega)]
  · rw [zS _ (by decide), u1row_0 (by omega)]; decide
  · rw [zS _ (by decide), zB, zB]; decide
  · rw [zS _ (by decide), zS _ (by decide), zS _ (by decide), zB, zB]; decide
theorem F_set5 {f : Nat} (h1 : 2 ≤ f) (h2 : f ≤ 1000) : ∃ u' : bU, F5_set uC0 5 (nI f) = (0, 20, u') ∧ GS 1000 0 0 (fun _ => 0) f 0 0 (fun _ => 0) u' := by
  obtain ⟨hKP, hk0⟩ := kp_keep KP_uC0
  refine ⟨bs (F1_keep uC0) 0 (u1row f), ?_, GS_of (INV_0 h1 h2) hKP⟩
  unfold F5_set
  rw [if_pos (by decide), show F5_entry 6 tLeast 5 = 2 by decide, show F5_entry 6 tMost 5 = 1000 by decide, if_pos (show F5_needRange (nI f) 2 1000 = 0 from v_rng (l := 2) (h := 1000) h1 h2 (by decide)), if_pos (by decide), show F2_putSetting (F1_keep uC0) 5 (nI f) = bs (F1_keep uC0) 0 (upd (F1_keep uC0 0) (11 + 5) (nI f)) from c_putSet _ _ (k := 5) (by decide), show F2_ofSetting (F1_keep uC0) 5 = F1_keep uC0 0 (11 + 5) from c_set _ (k := 5) (by decide), hk0]
  rfl
theorem v_cn3 : F2_countNumber u 3 = Ss (u 0) 1 := by
  unfold F2_countNumber
  rw [if_pos rfl]
  exact v_over (w := 1) (by decide)
theorem F_buy (hI : INV B n t kd f m k 0 bb (u 0)) (hK : KP0 u) (h9 : B + 5000 < 2147483648) {x K : Nat} (hk : k = nI K) (h1 : 1 ≤ x) (h2 : x ≤ 500) (h3 : K + x ≤ 1000) : ∃ u' : bU, F5_buyCrates u (nI x) = (0, u 0 2 + nI x, u') ∧ GS (B + 5000) n t kd f m (k + nI x) bb u' := by
  obtain ⟨hKP, hk0⟩ := kp_keep hK
  have e5 := hI.2.2.2.2.2.2.2.2.2.1
  refine ⟨bs (F1_keep u) 0 (adds (u 0) (nBuy x)), ?_, GS_of (iBuy h2 hI h9) hKP⟩
  have e1 : F2_addToAll (F1_keep u) 2 (nI x) = bs (F1_keep u) 0 (adds (u 0) (nBuy x)) := by
    unfold nBuy
    rw [show F2_addToAll (F1_keep u) 2 (nI x) = bs (F1_keep u) 0 (add1 (F1_keep u 0) 2 (nI x)) from c_addAll _ _ (k := 2) (by decide), hk0, adds_cons, adds_nil]
  unfold F5_buyCrates
  rw [if_pos (show F5_needRange (nI x) 1 500 = 0 from v_rng (l := 1) (h := 500) h1 h2 (by decide)), if_neg ?_, e1, show F2_ofAll (bs (F1_keep u) 0 (adds (u 0) (nBuy x))) 2 = adds (u 0) (nBuy x) 2 from d_all _ _ (k := 2) (by decide)]
  · unfold nBuy
    rw [adds_cons, adds_nil, add1_at]
  · rw [show F2_ofAll u 2 = u 0 2 from c_all u (k := 2) (by decide), v_cn3, e5, hk, nI_add]
    exact nI_nlt (a := 1000) (b := K + x) h3 (by decide)
/-- a brand more -/
def nAdB (n kk e : Nat) : List (Nat × Int32) := [(0, nI 1), (17 + 12 * n + 0, nI kk), (17 + 12 * n + 1, nI e)]
def kd1 (kd : Nat → Nat) (n kk : Nat) : Nat → Nat := fun b => if b = n then kk else kd b
def bb1 (bb : Nat → Int32) (n e : Nat) : Nat → Int32 := fun b => if b = n then nI e else bb b
theorem iAdB {c : Nat → Int32} (h : INV B n t kd f m k 0 bb c) (h9 : B + 5000 < 2147483648) (hn : n < 8) {kk e : Nat} (hkk : kk < 2) (he : e ≤ 5000) : INV (B + 5000) (n + 1) t (kd1 kd n kk) f m k 0 (bb1 bb n e) (adds c (nAdB n kk e)) := by
  obtain ⟨⟨⟨-, ht, h0, h1⟩, hK, q1, q2, q3, q4, q5, q6, q7, q8⟩, ⟨z1, z2, z3, z4⟩, hN, hW, hS, ⟨e1, e2, e3, e4, e5, e6, e7⟩⟩ := h
  have nd : ((nAdB n kk e).map Prod.fst).Nodup := by
    simp only [nAdB, List.map_cons, List.map_nil, List.nodup_cons, List.mem_cons, List.not_mem_nil, or_false, not_or, List.nodup_nil, and_true, not_false_eq_true]; omega
  have out : ∀ j : Nat, j ≠ 0 → j ≠ 17 + 12 * n + 0 → j ≠ 17 + 12 * n + 1 → adds c (nAdB n kk e) j = c j := by
    intro j a1 a2 a3
    unfold nAdB
    rw [adds_cons, adds_cons, adds_cons, adds_nil, add1_ne a3, add1_ne a2, add1_ne a1]
  have a0 : adds c (nAdB n kk e) 0 = nI (n + 1) := by
    unfold nAdB
    simp (disch := omega) only [adds_cons, adds_nil, add1_at, add1_ne, h0, nI_add]
  have aK : adds c (nAdB n kk e) (17 + 12 * n + 0) = nI kk := by
    have := (hK n hn).2
    rw [(z4 n (Nat.le_refl _) hn).1] at this
    unfold nAdB
    simp (disch := omega) only [adds_cons, adds_nil, add1_at, add1_ne, this, nI_add, Nat.zero_add]
  have aE : adds c (nAdB n kk e) (17 + 12 * n + 1) = nI e := by
    unfold nAdB
    simp (disch := omega) only [adds_cons, adds_nil, add1_at, add1_ne, z1 n 1 (Nat.le_refl _) hn (by decide) (by decide), Int32.zero_add]
  have fS : ∀ w : Nat, w < 28 → Ss (adds c (nAdB n kk e)) w = Ss c w := fun w hw => acc_congr _ _ _ (fun i _ hi => out _ (by omega) (by omega) (by omega))
  have fB : ∀ g g' : Nat → Int32, (∀ i : Nat, i < 8 → i ≠ n → g' i = g i) → ∀ w : Nat, 5 ≤ w → w < 12 → Sb g' (adds c (nAdB n kk e)) w = Sb g c w := fun g g' hg w hw hw2 => acc_congr _ _ _ (fun i _ hi => by
    show adds c (nAdB n kk e) (17 + 12 * i + w) * g' i = c (17 + 12 * i + w) * g i
    rw [out _ (by omega) (by omega) (by omega)]
    by_cases q : i = n
    · subst q
      rw [z1 i w (Nat.le_refl _) hn (by omega) hw2, Int32.zero_mul, Int32.zero_mul]
    · rw [hg i (by omega) q])
  have fD : ∀ g g' : Nat → Int32, (∀ i : Nat, i < 8 → i ≠ n → g' i = g i) → ∀ o : Nat, o = 10 ∨ o = 20 → Sd g' (adds c (nAdB n kk e)) o = Sd g c o := fun g g' hg o ho => acc_congr _ _ _ (fun i _ hi => by
    show Ss (adds c (nAdB n kk e)) (o + i) * g' i = Ss c (o + i) * g i
    rw [fS _ (by omega)]
    by_cases q : i = n
    · subst q
      have : Ss c (o + i) = 0 := by
        rcases ho with rfl | rfl
        · exact acc_zero 6 0 0 (fun s _ hs => (z3 s i (by omega) (Nat.le_refl _) hn).1)
        · exact acc_zero 6 0 0 (fun s _ hs => (z3 s i (by omega) (Nat.le_refl _) hn).2)
      rw [this, Int32.zero_mul, Int32.zero_mul]
    · rw [hg i (by omega) q])
  have hg : ∀ i : Nat, i < 8 → i ≠ n → gd (kd1 kd n kk) i = gd kd i := fun i _ q => by
    unfold gd dpo kd1
    rw [if_neg q]
  refine ⟨⟨⟨by omega, ht, a0, by rw [out 1 (by decide) (by omega) (by omega)]; exact h1⟩, fun b hb => ?_, ?_, ?_, ?_, ?_, ?_, ?_, q7, q8⟩, ⟨fun b w x1 x2 x3 x4 => ?_, fun s w x1 x2 x3 => ?_, fun s b x1 x2 x3 => ⟨?_, ?_⟩, fun b x1 x2 => ⟨?_, ?_⟩⟩, fun j hj => ?_, fun b hb => ?_, fun a b ha hb => ?_, ⟨fun b hb => ?_, ?_, ?_, ?_, ?_, ?_, ?_⟩⟩
  · by_cases q : b = n
    · subst q
      unfold kd1
      rw [if_pos rfl]
      exact ⟨hkk, aK⟩
    · unfold kd1
      rw [if_neg q, out _ (by omega) (by omega) (by omega)]
      exact hK b hb
  · rw [out _ (by decide) (by omega) (by omega)]; exact q1
  · rw [out _ (by decide) (by omega) (by omega)]; exact q2
  · rw [out _ (by decide) (by omega) (by omega)]; exact q3
  · rw [out _ (by decide) (by omega) (by omega)]; exact q4
  · rw [out _ (by decide) (by omega) (by omega)]; exact q5
  · rw [out _ (by decide) (by omega) (by omega)]; exact q6
  · rw [out _ (by omega) (by omega) (by omega)]; exact z1 b w (by omega) x2 x3 x4
  · rw [out _ (by omega) (by omega) (by omega)]; exact z2 s w x1 x2 x3
  · rw [out _ (by omega) (by omega) (by omega)]; exact (z3 s b x1 (by omega) x3).1
  · rw [out _ (by omega) (by omega) (by omega)]; exact (z3 s b x1 (by omega) x3).2
  · unfold kd1
    rw [if_neg (by omega)]
    exact (z4 b (by omega) x2).1
  · unfold bb1
    rw [if_neg (by omega)]
    exact (z4 b (by omega) x2).2
  · by_cases q : j = 17 + 12 * n + 1
    · subst q
      rw [aE]
      exact rg_nI (by omega) (by omega)
    · rw [out j (fun z => by subst z; rcases hj with h | h | ⟨b, w, a1, a2, a3⟩ | ⟨s, w, a1, a2, a3⟩ <;> omega) (fun z => by rcases hj with h | h | ⟨b, w, a1, a2, a3⟩ | ⟨s, w, a1, a2, a3⟩ <;> omega) q]
      exact rg_up (hN j hj) (by omega)
  · obtain ⟨F, f1, f2, f3⟩ := hW b hb
    exact ⟨F, by omega, by rw [out _ (by omega) (by omega) (by omega)]; exact f2, by rw [out _ (by omega) (by omega) (by omega)]; exact f3⟩
  · rw [out _ (by omega) (by omega) (by omega), out _ (by omega) (by omega) (by omega)]
    exact hS a b ha hb
  · have ee := e1 b hb
    unfold Ab at ee ⊢
    rw [fS _ (by omega), fS _ (by omega)]
    by_cases q : b = n
    · subst q
      rw [aE, out (17 + 12 * b + 2) (by omega) (by omega) (by omega), out (17 + 12 * b + 5) (by omega) (by omega) (by omega), out (17 + 12 * b + 6) (by omega) (by omega) (by omega), out (17 + 12 * b + 7) (by omega) (by omega) (by omega), out (17 + 12 * b + 8) (by omega) (by omega) (by omega), out (17 + 12 * b + 9) (by omega) (by omega) (by omega), out (17 + 12 * b + 11) (by omega) (by omega) (by omega)]
      rw [z1 b 1 (Nat.le_refl _) hn (by decide) (by decide), (z4 b (Nat.le_refl _) hn).2, Int32.zero_add] at ee
      unfold bb1
      rw [if_pos rfl]
      generalize c (17 + 12 * b + 2) = x2 at *
      generalize c (17 + 12 * b + 5) = x5 at *
      generalize c (17 + 12 * b + 6) = x6 at *
      generalize c (17 + 12 * b + 7) = x7 at *
      generalize c (17 + 12 * b + 8) = x8 at *
      generalize c (17 + 12 * b + 9) = x9 at *
      generalize c (17 + 12 * b + 11) = x11 at *
      generalize Ss c (10 + b) = y1 at *
      generalize Ss c (20 + b) = y2 at *
      generalize nI e = xe at *
      clear e1 e2 e3 e4 e5 e6 e7 z1 z2 z3 z4 hK hN hW hS out a0 aK aE fS fB fD hg nd
      grind
    · rw [out (17 + 12 * b + 1) (by omega) (by omega) (by omega), out (17 + 12 * b + 2) (by omega) (by omega) (by omega), out (17 + 12 * b + 5) (by omega) (by omega) (by omega), out (17 + 12 * b + 6) (by omega) (by omega) (by omega), out (17 + 12 * b + 7) (by omega) (by omega) (by omega), out (17 + 12 * b + 8) (by omega) (by omega) (by omega), out (17 + 12 * b + 9) (by omega) (by omega) (by omega), out (17 + 12 * b + 11) (by omega) (by omega) (by omega)]
      unfold bb1
      rw [if_neg q]
      exact ee
  · rw [out 4 (by decide) (by omega) (by omega), out 5 (by decide) (by omega) (by omega), fS _ (by decide), fD (gd kd) _ hg 10 (Or.inl rfl), fD (gd kd) _ hg 20 (Or.inr rfl), fB (gd kd) _ hg 5 (by decide) (by decide)]; exact e2
  · rw [out 4 (by decide) (by omega) (by omega), fS _ (by decide)]; exact e3
  · rw [out 6 (by decide) (by omega) (by omega), fS _ (by decide)]; exact e4
  · rw [out 2 (by decide) (by omega) (by omega), fS _ (by decide)]; exact e5
  · rw [fS _ (by decide), fB (fun _ => 1) (fun _ => 1) (fun _ _ _ => rfl) 5 (by decide) (by decide), fB (fun _ => 1) (fun _ => 1) (fun _ _ _ => rfl) 8 (by decide) (by decide)]; exact e6
  · rw [fS _ (by decide), fS _ (by decide), fS _ (by decide), fB (gd kd) _ hg 5 (by decide) (by decide), fB (gd kd) _ hg 8 (by decide) (by decide)]; exact e7
theorem F_addBrand (hI : INV B n t kd f m k 0 bb (u 0)) (hK : KP0 u) (h9 : B + 5000 < 2147483648) (hn : n < 8) {kk e : Nat} (hkk : kk < 2) (he : e ≤ 5000) : ∃ u' : bU, F5_addBrand u (nI kk) (nI e) = (0, nI n, u') ∧ u' 0 (17 + 12 * n + 1) = nI e ∧ u' 0 (17 + 12 * n + 2) = 0 ∧ GS (B + 5000) (n + 1) t (kd1 kd n kk) f m k (bb1 bb n e) u' := by
  obtain ⟨hKP, hk0⟩ := kp_keep hK
  have h0 : F2_ofAll u 0 = nI n := (c_all u (k := 0) (by decide)).trans hI.1.1.2.2.1
  have hz := hI.2.1.1
  have e1 : F2_addToBrand (F2_addToBrand (F2_addToAll (F1_keep u) 0 1) (nI n) 0 (nI kk)) (nI n) 1 (nI e) = bs (F1_keep u) 0 (adds (u 0) (nAdB n kk e)) := by
    unfold nAdB
    simp (disch := omega) only [li0, li1, c_addAll, c_addBr, bs_eq, bs_bs, adds_cons, adds_nil, hk0]
  refine ⟨bs (F1_keep u) 0 (adds (u 0) (nAdB n kk e)), ?_, ?_, ?_, GS_of (iAdB hI h9 hn hkk he) hKP⟩
  · unfold F5_addBrand
    rw [h0, if_pos (nk2 (by omega)), if_pos (show F5_needRange (nI e) 0 5000 = 0 from v_rng (l := 0) (h := 5000) (Nat.zero_le _) he (by decide)), if_neg (show ¬ (8 : Int32) ≤ nI n from nI_ge (b := 8) hn (by decide)), e1]
  · rw [bs_eq]
    unfold nAdB
    simp (disch := omega) only [adds_cons, adds_nil, add1_at, add1_ne, hz n 1 (Nat.le_refl _) hn (by decide) (by decide), Int32.zero_add]
  · rw [bs_eq]
    unfold nAdB
    simp (disch := omega) only [adds_cons, adds_nil, add1_ne, hz n 2 (Nat.le_refl _) hn (by decide) (by decide)]
end SU

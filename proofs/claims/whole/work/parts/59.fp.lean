-- shares as doubles (own text)
def ndOK (c : Nat) (q : Int) : Prop := 4503599627370496 ≤ c ∧ c < 9007199254740992 ∧ -1074 < q ∧ q ≤ -52
def nd (c : Nat) (q : Int) : UInt64 := UInt64.ofNat (FP.Core.encode FP.Core.b64 (.fin false c q))
theorem f_qmin : FP.Core.b64.qmin = -1074 := by decide
theorem f_qmax : FP.Core.b64.qmax = 971 := by decide
theorem f_tails : FP.Core.b64.tails = 4503599627370496 := by decide
theorem f_exps : FP.Core.b64.exps = 2048 := by decide
theorem f_p : (2 : Nat) ^ FP.Core.b64.p = 9007199254740992 := by decide
theorem enc_val {c : Nat} {q : Int} (h1 : 4503599627370496 ≤ c) (h3 : -1074 ≤ q) : FP.Core.encode FP.Core.b64 (.fin false c q) = (q + 1075).toNat * 4503599627370496 + (c - 4503599627370496) := by
  show (if c < FP.Core.b64.tails then FP.Core.assemble FP.Core.b64 false 0 c else FP.Core.assemble FP.Core.b64 false ((q - FP.Core.b64.qmin).toNat + 1) (c - FP.Core.b64.tails)) = _
  rw [f_tails, f_qmin, if_neg (by omega)]
  unfold FP.Core.assemble
  rw [f_tails, f_exps, show (false : Bool).toNat = 0 from rfl, show (q - -1074).toNat + 1 = (q + 1075).toNat by omega]
  omega
theorem nd_toNat {c : Nat} {q : Int} (h1 : 4503599627370496 ≤ c) (h2 : c < 9007199254740992) (h3 : -1074 ≤ q) (h4 : q ≤ 900) : (nd c q).toNat = (q + 1075).toNat * 4503599627370496 + (c - 4503599627370496) := by
  unfold nd
  rw [enc_val h1 h3, UInt64.toNat_ofNat_of_lt' (by show _ < 18446744073709551616; omega)]
theorem dec_nd {c : Nat} {q : Int} (h1 : 4503599627370496 ≤ c) (h2 : c < 9007199254740992) (h3 : -1074 ≤ q) (h4 : q ≤ 900) : FP.Core.decode FP.Core.b64 (nd c q).toNat = .fin false c q := by
  rw [nd_toNat h1 h2 h3 h4]
  generalize hn : (q + 1075).toNat * 4503599627370496 + (c - 4503599627370496) = n
  have e1 : FP.Core.fieldE FP.Core.b64 n = (q + 1075).toNat := by
    unfold FP.Core.fieldE
    rw [f_tails, f_exps]
    omega
  have e2 : FP.Core.fieldT FP.Core.b64 n = c - 4503599627370496 := by
    unfold FP.Core.fieldT
    rw [f_tails]
    omega
  have e3 : FP.Core.fieldS FP.Core.b64 n = false := by
    unfold FP.Core.fieldS
    rw [f_tails, f_exps, show n / 4503599627370496 / 2048 % 2 = 0 by omega]
    rfl
  unfold FP.Core.decode
  rw [e1, e2, e3, f_exps, f_tails, f_qmin, if_neg (by omega), if_neg (by omega)]
  rw [show 4503599627370496 + (c - 4503599627370496) = c by omega, show (-1074 : Int) + (((q + 1075).toNat : Int) - 1) = q by omega]
theorem n64_le {r : UInt64} (h : r.toNat ≤ 9218868437227405312) : vf_n64 r := by
  unfold vf_n64
  rw [UInt64.le_iff_toNat_le, UInt64.toNat_and]
  exact Nat.le_trans Nat.and_le_left h
theorem nd_n64 {c : Nat} {q : Int} (h1 : 4503599627370496 ≤ c) (h2 : c < 9007199254740992) (h3 : -1074 ≤ q) (h4 : q ≤ 900) : vf_n64 (nd c q) := n64_le (by rw [nd_toNat h1 h2 h3 h4]; omega)
theorem near_mul {x d : Nat} (hd : 0 < d) : FP.Core.nearest (x * d) d = x := by
  unfold FP.Core.nearest
  rw [Nat.mul_mod_left, if_pos (by omega), Nat.mul_div_cancel _ hd]
theorem log2_is {n k : Nat} (h1 : 2 ^ k ≤ n) (h2 : n < 2 ^ (k + 1)) : n.log2 = k := by
  have hn : n ≠ 0 := by have := Nat.two_pow_pos k; omega
  have h3 := (Nat.log2_lt hn (k := k + 1)).mpr h2
  have h4 := (Nat.le_log2 hn (k := k)).mpr h1
  omega
theorem lead_1 {n k : Nat} (h1 : 2 ^ k ≤ n) (h2 : n < 2 ^ (k + 1)) : FP.Core.leading n 1 = k := by
  unfold FP.Core.leading
  rw [log2_is h1 h2, show Nat.log2 1 = 0 by decide]
  dsimp only
  rw [show ((k : Int) - ((0 : Nat) : Int)).toNat = k by omega, show (-((k : Int) - ((0 : Nat) : Int))).toNat = 0 by omega, if_pos (by omega)]
  omega
theorem settle_in {c : Nat} {q : Int} (h2 : c < 9007199254740992) (h4 : q ≤ 900) : FP.Core.settle FP.Core.b64 false c q = .fin false c q := by
  unfold FP.Core.settle FP.Core.bound
  rw [f_p, f_qmax, if_pos h2, if_pos (by omega)]
/-- a whole number times a power of two -/
theorem rr_big {c k : Nat} {q : Int} (h1 : 4503599627370496 ≤ c) (h2 : c < 9007199254740992) (h3 : -1074 ≤ q) (h4 : q ≤ 900) : FP.Core.roundRatio FP.Core.b64 false (c * 2 ^ k) 1 (q - k) = .fin false c q := by
  have hk := Nat.two_pow_pos k
  have l : FP.Core.leading (c * 2 ^ k) 1 = ((52 + k : Nat) : Int) := lead_1 (by rw [Nat.pow_add]; exact Nat.mul_le_mul_right _ h1) (by rw [show 52 + k + 1 = 53 + k by omega, Nat.pow_add]; exact Nat.mul_lt_mul_of_pos_right h2 hk)
  have hq : FP.Core.quantum FP.Core.b64 (c * 2 ^ k) 1 (q - k) = q := by
    unfold FP.Core.quantum
    rw [l, f_qmin, show (FP.Core.b64.p : Int) = 53 from rfl]
    omega
  unfold FP.Core.roundRatio
  rw [if_neg (by have := Nat.mul_pos (show 0 < c by omega) hk; omega), hq]
  unfold FP.Core.roundAt FP.Core.unitsNum FP.Core.unitsDen
  rw [show (q - (k : Int) - q).toNat = 0 by omega, show (q - (q - (k : Int))).toNat = k by omega, Nat.pow_zero, Nat.mul_one, Nat.one_mul, near_mul hk]
  exact settle_in h2 h4
/-- a whole number of few digits -/
theorem rr_small {m k : Nat} {e : Int} (h1 : 4503599627370496 ≤ m * 2 ^ k) (h2 : m * 2 ^ k < 9007199254740992) (hk : k ≤ 52) (h3 : -1000 ≤ e) (h4 : e ≤ 800) : FP.Core.roundRatio FP.Core.b64 false m 1 e = .fin false (m * 2 ^ k) (e - k) := by
  have hp := Nat.two_pow_pos k
  have hm : 0 < m := by
    rcases Nat.eq_zero_or_pos m with q | q
    · rw [q] at h1; omega
    · exact q
  have l : FP.Core.leading m 1 = ((52 - k : Nat) : Int) := by
    refine lead_1 ?_ ?_
    · have e1 : 2 ^ (52 - k) * 2 ^ k = 4503599627370496 := by rw [← Nat.pow_add, show 52 - k + k = 52 by omega]
      rw [← e1] at h1
      exact Nat.le_of_mul_le_mul_right h1 hp
    · have e1 : 2 ^ (52 - k + 1) * 2 ^ k = 9007199254740992 := by rw [← Nat.pow_add, show 52 - k + 1 + k = 53 by omega]
      rw [← e1] at h2
      exact Nat.lt_of_mul_lt_mul_right h2
  have hq : FP.Core.quantum FP.Core.b64 m 1 e = e - k := by
    unfold FP.Core.quantum
    rw [l, f_qmin, show (FP.Core.b64.p : Int) = 53 from rfl]
    omega
  unfold FP.Core.roundRatio
  rw [if_neg (by omega), hq]
  unfold FP.Core.roundAt FP.Core.unitsNum FP.Core.unitsDen
  rw [show (e - (e - (k : Int))).toNat = k by omega, show (e - (k : Int) - e).toNat = 0 by omega, Nat.pow_zero, Nat.mul_one]
  have := near_mul (x := m * 2 ^ k) (d := 1) (by decide)
  rw [Nat.mul_one] at this
  rw [this]
  exact settle_in h2 (by omega)
theorem digits {m : Nat} (h0 : 0 < m) (h : m < 9007199254740992) : ∃ k : Nat, k ≤ 52 ∧ 4503599627370496 ≤ m * 2 ^ k ∧ m * 2 ^ k < 9007199254740992 := by
  have hl : m.log2 < 53 := (Nat.log2_lt (by omega)).mpr h
  have a1 := Nat.log2_self_le (show m ≠ 0 by omega)
  have a2 : m < 2 ^ (m.log2 + 1) := Nat.lt_log2_self
  refine ⟨52 - m.log2, by omega, ?_, ?_⟩
  · have e1 : 2 ^ m.log2 * 2 ^ (52 - m.log2) = 4503599627370496 := by rw [← Nat.pow_add, show m.log2 + (52 - m.log2) = 52 by omega]
    rw [← e1]
    exact Nat.mul_le_mul_right _ a1
  · have e1 : 2 ^ (m.log2 + 1) * 2 ^ (52 - m.log2) = 9007199254740992 := by rw [← Nat.pow_add, show m.log2 + 1 + (52 - m.log2) = 53 by omega]
    rw [← e1]
    exact Nat.mul_lt_mul_of_pos_right a2 (Nat.two_pow_pos _)
theorem v_two : FP.Core.decode FP.Core.b64 (4611686018427387904 : UInt64).toNat = .fin false 4503599627370496 (-51) := by decide +kernel
theorem v_one : FP.Core.decode FP.Core.b64 FP.dconst1.toNat = .fin false 4503599627370496 (-52) := by decide +kernel
theorem v_zero : FP.Core.decode FP.Core.b64 FP.dconst0.toNat = .fin false 0 (-1074) := by decide +kernel
theorem v_big : FP.Core.decode FP.Core.b64 (4841369599423283200 : UInt64).toNat = .fin false 4503599627370496 0 := by decide +kernel
theorem nd_two {c : Nat} {q : Int} (h1 : 4503599627370496 ≤ c) (h2 : c < 9007199254740992) (h3 : -1074 ≤ q) (h4 : q ≤ 800) : FP.dmul (nd c q) 4611686018427387904 = nd c (q + 1) := by
  show UInt64.ofNat (FP.Core.mul FP.Core.b64 (nd c q).toNat (4611686018427387904 : UInt64).toNat) = _
  unfold FP.Core.mul
  rw [dec_nd h1 h2 h3 (by omega), v_two]
  show UInt64.ofNat (FP.Core.encode FP.Core.b64 (FP.Core.roundRatio FP.Core.b64 false (c * 2 ^ 52) 1 (q + -51))) = nd c (q + 1)
  rw [show q + -51 = (q + 1) - ((52 : Nat) : Int) by omega, rr_big h1 h2 (by omega) (by omega)]
  rfl
theorem nd_big {c : Nat} {q : Int} (h1 : 4503599627370496 ≤ c) (h2 : c < 9007199254740992) (h3 : -1074 ≤ q) (h4 : q ≤ 800) : FP.dmul (nd c q) 4841369599423283200 = nd c (q + 52) := by
  show UInt64.ofNat (FP.Core.mul FP.Core.b64 (nd c q).toNat (4841369599423283200 : UInt64).toNat) = _
  unfold FP.Core.mul
  rw [dec_nd h1 h2 h3 (by omega), v_big]
  show UInt64.ofNat (FP.Core.encode FP.Core.b64 (FP.Core.roundRatio FP.Core.b64 false (c * 2 ^ 52) 1 (q + 0))) = nd c (q + 52)
  rw [show q + 0 = (q + 52) - ((52 : Nat) : Int) by omega, rr_big h1 h2 (by omega) (by omega)]
  rfl
theorem cmp_int (a b : Int) : compare a b = if a < b then Ordering.lt else if a = b then Ordering.eq else Ordering.gt := rfl
theorem ord_pos {c : Nat} {q r : Int} {d : Nat} : FP.Core.order (.fin false c q) (.fin false d r) = some (compare ((c * 2 ^ (q - min q r).toNat : Nat) : Int) ((d * 2 ^ (r - min q r).toNat : Nat) : Int)) := rfl
theorem cmp_pos {c : Nat} {q : Int} (h1 : 4503599627370496 ≤ c) (h2 : c < 9007199254740992) (h3 : -1074 ≤ q) (h4 : q ≤ 900) : Op.cmpValue (FP.dcmp (nd c q) FP.dconst0) .l = 1 := by
  have h : FP.dcmp (nd c q) FP.dconst0 = some .gt := by
    show FP.Core.order (FP.Core.decode FP.Core.b64 (nd c q).toNat) (FP.Core.decode FP.Core.b64 FP.dconst0.toNat) = _
    rw [dec_nd h1 h2 h3 h4, v_zero, ord_pos, cmp_int, Nat.zero_mul]
    have := Nat.mul_pos (show 0 < c by omega) (Nat.two_pow_pos (q - min q (-1074)).toNat)
    rw [if_neg (by omega), if_neg (by omega)]
  rw [h]; rfl
theorem cmp_lt {c : Nat} {q : Int} (h1 : 4503599627370496 ≤ c) (h2 : c < 9007199254740992) (h3 : -1074 ≤ q) (h4 : q < -52) : Op.cmpValue (FP.dcmp (nd c q) FP.dconst1) .g = -1 := by
  have h : FP.dcmp (nd c q) FP.dconst1 = some .lt := by
    show FP.Core.order (FP.Core.decode FP.Core.b64 (nd c q).toNat) (FP.Core.decode FP.Core.b64 FP.dconst1.toNat) = _
    rw [dec_nd h1 h2 h3 (by omega), v_one, ord_pos, cmp_int, show (q - min q (-52)).toNat = 0 by omega, show (-52 - min q (-52)).toNat = (-52 - q - 1).toNat + 1 by omega, Nat.pow_succ]
    have := Nat.two_pow_pos (-52 - q - 1).toNat
    generalize 2 ^ (-52 - q - 1).toNat = k at this ⊢
    rw [if_pos (by omega)]
  rw [h]; rfl
theorem cmp_ge {c : Nat} (h1 : 4503599627370496 ≤ c) (h2 : c < 9007199254740992) : 0 ≤ Op.cmpValue (FP.dcmp (nd c (-52)) FP.dconst1) .g := by
  have h : FP.dcmp (nd c (-52)) FP.dconst1 = some .gt ∨ FP.dcmp (nd c (-52)) FP.dconst1 = some .eq := by
    show FP.Core.order (FP.Core.decode FP.Core.b64 (nd c (-52)).toNat) (FP.Core.decode FP.Core.b64 FP.dconst1.toNat) = _ ∨ FP.Core.order (FP.Core.decode FP.Core.b64 (nd c (-52)).toNat) (FP.Core.decode FP.Core.b64 FP.dconst1.toNat) = _
    rw [dec_nd h1 h2 (by omega) (by omega), v_one, ord_pos, cmp_int, show ((-52 : Int) - min (-52) (-52)).toNat = 0 by decide, Nat.pow_zero, Nat.mul_one, Nat.mul_one, if_neg (by omega)]
    by_cases e : c = 4503599627370496
    · rw [if_pos (by omega)]; exact Or.inr rfl
    · rw [if_neg (by omega)]; exact Or.inl rfl
  rcases h with h | h <;> rw [h] <;> decide
theorem one_sub {c : Nat} (h1 : 4503599627370496 ≤ c) (h2 : c < 9007199254740992) : FP.dsub (nd c (-52)) FP.dconst1 = UInt64.ofNat (FP.Core.encode FP.Core.b64 (FP.Core.roundRatio FP.Core.b64 false (c - 4503599627370496) 1 (-52))) := by
  show UInt64.ofNat (FP.Core.sub FP.Core.b64 (nd c (-52)).toNat FP.dconst1.toNat) = _
  unfold FP.Core.sub
  rw [dec_nd h1 h2 (by omega) (by omega), v_one]
  have hv : FP.Core.sumUnits false c (-52) true 4503599627370496 (-52) (min (-52) (-52)) = ((c - 4503599627370496 : Nat) : Int) := by
    unfold FP.Core.sumUnits FP.Core.inUnits
    rw [show ((-52 : Int) - min (-52) (-52)).toNat = 0 by decide, Nat.pow_zero, Nat.mul_one, Nat.mul_one]
    show (c : Int) + -((4503599627370496 : Nat) : Int) = _
    omega
  have e : FP.Core.exactSum (.fin false c (-52)) (FP.Core.negate (.fin false 4503599627370496 (-52))) = .fin false (c - 4503599627370496) (-52) := by
    show FP.Core.Datum.fin (FP.Core.sumSign false true (FP.Core.sumUnits false c (-52) true 4503599627370496 (-52) (min (-52) (-52)))) (FP.Core.sumUnits false c (-52) true 4503599627370496 (-52) (min (-52) (-52))).natAbs (min (-52) (-52)) = _
    rw [hv, show (min (-52) (-52) : Int) = -52 by decide, Int.natAbs_natCast]
    have hs : FP.Core.sumSign false true ((c - 4503599627370496 : Nat) : Int) = false := by
      unfold FP.Core.sumSign
      by_cases z : ((c - 4503599627370496 : Nat) : Int) = 0
      · rw [if_pos z]; rfl
      · rw [if_neg z]; exact decide_eq_false (by omega)
    rw [hs]
  rw [e]
  rfl
theorem d2l_nd {c k : Nat} {m : Nat} (h1 : 4503599627370496 ≤ c) (h2 : c < 9007199254740992) (hk : k ≤ 52) (e : c = m * 2 ^ k) : FP.d2l (nd c (-(k : Int))) = Int64.ofNat m := by
  show FP.Core.toL (FP.Core.decode FP.Core.b64 (nd c (-(k : Int))).toNat) = _
  rw [dec_nd h1 h2 (by omega) (by omega)]
  have hm : m ≤ c := by rw [e]; exact Nat.le_mul_of_pos_right _ (Nat.two_pow_pos k)
  have ht : FP.Core.truncate false c (-(k : Int)) = (m : Int) := by
    unfold FP.Core.truncate FP.Core.signed
    rw [show (-(k : Int)).toNat = 0 by omega, show (- -(k : Int)).toNat = k by omega, Nat.pow_zero, Nat.mul_one, e, Nat.mul_div_cancel _ (Nat.two_pow_pos k)]
    rfl
  show Int64.ofInt (max (-2 ^ 63) (min (2 ^ 63 - 1) (FP.Core.truncate false c (-(k : Int))))) = _
  rw [ht, show max (-2 ^ 63) (min (2 ^ 63 - 1) (m : Int)) = (m : Int) by omega, Int64.ofInt_eq_ofNat]
/-- the digits behind the leading one, as the class works them out -/
theorem nd_last {c : Nat} (h1 : 4503599627370496 ≤ c) (h2 : c < 9007199254740992) : vf_n64 (FP.dsub (nd c (-52)) FP.dconst1) ∧ vf_n64 (FP.dmul (FP.dsub (nd c (-52)) FP.dconst1) 4841369599423283200) ∧ FP.d2l (FP.dmul (FP.dsub (nd c (-52)) FP.dconst1) 4841369599423283200) = Int64.ofNat (c - 4503599627370496) := by
  rw [one_sub h1 h2]
  rcases Nat.eq_zero_or_pos (c - 4503599627370496) with z | z
  · rw [z]
    exact ⟨n64_le (by decide +kernel), n64_le (by decide +kernel), by decide +kernel⟩
  · obtain ⟨k, k1, k2, k3⟩ := digits z (by omega)
    rw [rr_small k2 k3 k1 (by omega) (by omega)]
    have e : UInt64.ofNat (FP.Core.encode FP.Core.b64 (.fin false ((c - 4503599627370496) * 2 ^ k) (-52 - (k : Int)))) = nd ((c - 4503599627370496) * 2 ^ k) (-52 - (k : Int)) := rfl
    rw [e, nd_big k2 k3 (by omega) (by omega), show -52 - (k : Int) + 52 = -(k : Int) by omega]
    exact ⟨nd_n64 k2 k3 (by omega) (by omega), nd_n64 k2 k3 (by omega) (by omega), d2l_nd k2 k3 k1 rfl⟩
theorem sh52 : ∀ E : Nat, E < 1024 → Int64.ofNat E <<< ((52 : Int32).toInt64 &&& 63) = Int64.ofNat (E * 4503599627370496) := by decide +kernel
theorem nd_long {c E : Nat} {q : Int} (h1 : 4503599627370496 ≤ c) (h3 : -1074 ≤ q) (hE : E = (q + 1075).toNat) : Int64.ofNat (E * 4503599627370496) + Int64.ofNat (c - 4503599627370496) = (nd c q).toInt64 := by
  rw [← Int64.ofNat_add]
  unfold nd
  rw [enc_val h1 h3, hE]
  rfl
theorem near_b (n d : Nat) : n / d ≤ FP.Core.nearest n d ∧ FP.Core.nearest n d ≤ n / d + 1 := by
  unfold FP.Core.nearest
  by_cases c1 : 2 * (n % d) < d
  · rw [if_pos c1]; omega
  rw [if_neg c1]
  by_cases c2 : d < 2 * (n % d)
  · rw [if_pos c2]; omega
  · rw [if_neg c2]; omega
theorem settle_up {q : Int} (h4 : q ≤ 900) : FP.Core.settle FP.Core.b64 false 9007199254740992 q = .fin false 4503599627370496 (q + 1) := by
  unfold FP.Core.settle FP.Core.bound
  rw [f_p, f_qmax, f_tails, if_neg (by omega), if_pos (by omega)]
theorem rr_div {A B : Nat} {e : Int} (a1 : 4503599627370496 ≤ A) (a2 : A < 9007199254740992) (b1 : 4503599627370496 ≤ B) (b2 : B < 9007199254740992) (e1 : -60 ≤ e) (e2 : e ≤ 0) (he : e = 0 → A ≤ B) : ∃ (c : Nat) (q : Int), ndOK c q ∧ FP.Core.roundRatio FP.Core.b64 false A B e = .fin false c q := by
  have la : A.log2 = 52 := log2_is (k := 52) a1 a2
  have lb : B.log2 = 52 := log2_is (k := 52) b1 b2
  have fin : ∀ (N : Nat) (q : Int), 4503599627370496 ≤ N → N ≤ 9007199254740992 → -1074 < q → (q ≤ -53 ∨ (q = -52 ∧ N < 9007199254740992)) → ∃ (c : Nat) (q' : Int), ndOK c q' ∧ FP.Core.settle FP.Core.b64 false N q = .fin false c q' := by
    intro N q n1 n2 q1 q2
    by_cases c : N < 9007199254740992
    · exact ⟨N, q, ⟨n1, c, q1, by omega⟩, settle_in c (by omega)⟩
    · obtain rfl : N = 9007199254740992 := by omega
      exact ⟨4503599627370496, q + 1, ⟨by omega, by omega, by omega, by omega⟩, settle_up (by omega)⟩
  unfold FP.Core.roundRatio
  rw [if_neg (by omega)]
  unfold FP.Core.roundAt
  by_cases c : B ≤ A
  · have l : FP.Core.leading A B = 0 := by
      unfold FP.Core.leading
      rw [la, lb]
      dsimp only
      rw [show (((52 : Nat) : Int) - ((52 : Nat) : Int)).toNat = 0 by decide, show (-(((52 : Nat) : Int) - ((52 : Nat) : Int))).toNat = 0 by decide, if_pos (by omega)]
      decide
    have hq : FP.Core.quantum FP.Core.b64 A B e = e - 52 := by
      unfold FP.Core.quantum
      rw [l, f_qmin, show (FP.Core.b64.p : Int) = 53 from rfl]
      omega
    rw [hq]
    unfold FP.Core.unitsNum FP.Core.unitsDen
    rw [show (e - (e - 52)).toNat = 52 by omega, show (e - 52 - e).toNat = 0 by omega, Nat.pow_zero, Nat.mul_one]
    have n1 := near_b (A * 2 ^ 52) B
    have d1 : 4503599627370496 ≤ A * 2 ^ 52 / B := (Nat.le_div_iff_mul_le (by omega)).mpr (by omega)
    have d2 : A * 2 ^ 52 / B < 9007199254740992 := (Nat.div_lt_iff_lt_mul (by omega)).mpr (by omega)
    by_cases e0 : e = 0
    · obtain rfl : A = B := by have := he e0; omega
      have : FP.Core.nearest (A * 2 ^ 52) A = 2 ^ 52 := by rw [Nat.mul_comm]; exact near_mul (by omega)
      rw [this]
      exact fin _ _ (by omega) (by omega) (by omega) (Or.inr ⟨by omega, by omega⟩)
    · exact fin _ _ (by omega) (by omega) (by omega) (Or.inl (by omega))
  · have l : FP.Core.leading A B = -1 := by
      unfold FP.Core.leading
      rw [la, lb]
      dsimp only
      rw [show (((52 : Nat) : Int) - ((52 : Nat) : Int)).toNat = 0 by decide, show (-(((52 : Nat) : Int) - ((52 : Nat) : Int))).toNat = 0 by decide, if_neg (by omega)]
      decide
    have hq : FP.Core.quantum FP.Core.b64 A B e = e - 53 := by
      unfold FP.Core.quantum
      rw [l, f_qmin, show (FP.Core.b64.p : Int) = 53 from rfl]
      omega
    rw [hq]
    unfold FP.Core.unitsNum FP.Core.unitsDen
    rw [show (e - (e - 53)).toNat = 53 by omega, show (e - 53 - e).toNat = 0 by omega, Nat.pow_zero, Nat.mul_one]
    have n1 := near_b (A * 2 ^ 53) B
    have d1 : 4503599627370496 ≤ A * 2 ^ 53 / B := (Nat.le_div_iff_mul_le (by omega)).mpr (by omega)
    have d2 : A * 2 ^ 53 / B < 9007199254740992 := (Nat.div_lt_iff_lt_mul (by omega)).mpr (by omega)
    exact fin _ _ (by omega) (by omega) (by omega) (Or.inl (by omega))
theorem i2d_nat {g : Nat} (h0 : 0 < g) (h : g < 2147483648) : ∃ k : Nat, k ≤ 52 ∧ 4503599627370496 ≤ g * 2 ^ k ∧ g * 2 ^ k < 9007199254740992 ∧ FP.Core.decode FP.Core.b64 (FP.i2d (nI g)).toNat = .fin false (g * 2 ^ k) (0 - (k : Int)) := by
  obtain ⟨k, k1, k2, k3⟩ := digits h0 (by omega)
  refine ⟨k, k1, k2, k3, ?_⟩
  have e : FP.i2d (nI g) = nd (g * 2 ^ k) (0 - (k : Int)) := by
    show UInt64.ofNat (FP.Core.encode FP.Core.b64 (FP.Core.roundRatio FP.Core.b64 (decide ((nI g).toInt < 0)) (nI g).toInt.natAbs 1 0)) = _
    rw [tN h, Int.natAbs_natCast, decide_eq_false (by omega), rr_small k2 k3 k1 (by omega) (by omega)]
    rfl
  rw [e, dec_nd k2 k3 (by omega) (by omega)]
def shOK (x : UInt64) : Prop := x = 0 ∨ ∃ (c : Nat) (q : Int), ndOK c q ∧ x = nd c q
theorem share_ok {g a : Nat} (hg : g ≤ a) (h0 : 0 < a) (h : a < 2147483648) : shOK (FP.ddiv (FP.i2d (nI g)) (FP.i2d (nI a))) := by
  obtain ⟨k2, b1, b2, b3, b4⟩ := i2d_nat h0 h
  have ed : FP.ddiv (FP.i2d (nI g)) (FP.i2d (nI a)) = UInt64.ofNat (FP.Core.encode FP.Core.b64 (FP.Core.quotient FP.Core.b64 (FP.Core.decode FP.Core.b64 (FP.i2d (nI g)).toNat) (FP.Core.decode FP.Core.b64 (FP.i2d (nI a)).toNat))) := rfl
  rw [ed, b4]
  rcases Nat.eq_zero_or_pos g with z | z
  · subst z
    rw [show FP.Core.decode FP.Core.b64 (FP.i2d (nI 0)).toNat = .fin false 0 (-1074) from by decide +kernel]
    show shOK (UInt64.ofNat (FP.Core.encode FP.Core.b64 (if a * 2 ^ k2 = 0 then _ else FP.Core.roundRatio FP.Core.b64 (false != false) 0 (a * 2 ^ k2) (-1074 - (0 - (k2 : Int))))))
    rw [if_neg (by omega)]
    unfold FP.Core.roundRatio
    rw [if_pos rfl]
    exact Or.inl (by decide +kernel)
  · obtain ⟨k1, a1, a2, a3, a4⟩ := i2d_nat z (by omega)
    rw [a4]
    have hk : k2 ≤ k1 := by
      rcases Nat.lt_or_ge k1 k2 with q | q
      · exfalso
        have e1 : 2 ^ k1 * 2 ≤ 2 ^ k2 := by rw [← Nat.pow_succ]; exact Nat.pow_le_pow_right (by decide) q
        have e2 : a * (2 ^ k1 * 2) ≤ a * 2 ^ k2 := Nat.mul_le_mul_left _ e1
        have e3 : g * 2 ^ k1 ≤ a * 2 ^ k1 := Nat.mul_le_mul_right _ hg
        have e4 : a * (2 ^ k1 * 2) = a * 2 ^ k1 * 2 := (Nat.mul_assoc _ _ _).symm
        omega
      · exact q
    obtain ⟨c, q, hok, e⟩ := rr_div (e := 0 - (k1 : Int) - (0 - (k2 : Int))) a2 a3 b2 b3 (by omega) (by omega) (fun h9 => by
      have : k1 = k2 := by omega
      subst this
      exact Nat.mul_le_mul_right _ hg)
    show shOK (UInt64.ofNat (FP.Core.encode FP.Core.b64 (if a * 2 ^ k2 = 0 then _ else FP.Core.roundRatio FP.Core.b64 (false != false) (g * 2 ^ k1) (a * 2 ^ k2) (0 - (k1 : Int) - (0 - (k2 : Int))))))
    rw [if_neg (by omega), show (false != false) = false from rfl, e]
    exact Or.inr ⟨c, q, hok, rfl⟩
theorem shOK_n64 {x : UInt64} (h : shOK x) : vf_n64 x := by
  rcases h with rfl | ⟨c, q, h, rfl⟩
  · exact n64_le (by decide +kernel)
  · exact nd_n64 h.1 h.2.1 (by have := h.2.2; omega) (by have := h.2.2; omega)

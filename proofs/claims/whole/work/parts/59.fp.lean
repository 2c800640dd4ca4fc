-- shares as doubles (own text)
def ndOK (c : Nat) (q : Int) : Prop := 4503599627370496 ≤ c ∧ c < 9007199254740992 ∧ -1074 < q ∧ q ≤ -52
def nd (c : Nat) (q : Int) : UInt64 := UInt64.ofNat (FP.Core.encode FP.Core.b64 (.fin false c q))
theorem f_qmin : FP.Core.b64.qmin = -1074 := by decide
theorem f_qmax : FP.Core.b64.qmax = 971 := by decide
theorem f_tails : FP.Core.b64.tails = 4503599627370496 := by decide
theorem f_exps : FP.Core.b64.exps = 2048 := by decide
theorem f_p : (2 : Nat) ^ FP.Core.b64.p = 9007199254740992 := by decide
theorem enc_val {c : Nat} {q : Int} (h1 : 4503599627370496 ≤ c) (h3 : -1074 ≤ q) : FP.Core.encode FP.Core.b64 (.fin false c q) = (q + 1075).toNat * 4503599627370496 + (c - 4503599627370496) := by
  show (if c < FP.Core.b64.tails then FP.Core.assemble FP.Core.b64 false 0 c else FP.Core.assemble FP.Core.b64 false ((q - FP.Core.b64.qmin).toNat + 1) (c - FP.Core.b64.tails)) = _
  rw [f_tails, f_qmin, if_neg (by omega)]
  unfold FP.Core.assemble
  rw [f_tails, f_exps, show (false : Bool).toNat = 0 from rfl, show (q - -1074).toNat + 1 = (q + 1075).toNat by omega]
  omega
theorem nd_toNat {c : Nat} {q : Int} (h1 : 4503599627370496 ≤ c) (h2 : c < 9007199254740992) (h3 : -1074 ≤ q) (h4 : q ≤ 900) : (nd c q).toNat = (q + 1075).toNat * 4503599627370496 + (c - 4503599627370496) := by
  unfold nd
  rw [enc_val h1 h3, UInt64.toNat_ofNat_of_lt' (by show _ < 18446744073709551616; omega)]
theorem dec_nd {c : Nat} {q : Int} (h1 : 4503599627370496 ≤ c) (h2 : c < 9007199254740992) (h3 : -1074 ≤ q) (h4 : q ≤ 900) : FP.Core.decode FP.Core.b64 (nd c q).toNat = .fin false c q := by
  rw [nd_toNat h1 h2 h3 h4]
  generalize hn : (q + 1075).toNat * 4503599627370496 + (c - 4503599627370496) = n
  have e1 : FP.Core.fieldE FP.Core.b64 n = (q + 1075).toNat := by
    unfold FP.Core.fieldE
    rw [f_tails, f_exps]
    omega
  have e2 : FP.Core.fieldT FP.Core.b64 n = c - 4503599627370496 := by
    unfold FP.Core.fieldT
    rw [f_tails]
    omega
  have e3 : FP.Core.fieldS FP.Core.b64 n = false := by
    unfold FP.Core.fieldS
    rw [f_tails, f_exps, show n / 4503599627370496 / 2048 % 2 = 0 by omega]
    rfl
  unfold FP.Core.decode
  rw [e1, e2, e3, f_exps, f_tails, f_qmin, if_neg (by omega), if_neg (by omega)]
  congr 1 <;> omega
theorem n64_le {r : UInt64} (h : r.toNat ≤ 9218868437227405312) : vf_n64 r := by
  unfold vf_n64
  rw [UInt64.le_iff_toNat_le, UInt64.toNat_and]
  exact Nat.le_trans Nat.and_le_left h
theorem nd_n64 {c : Nat} {q : Int} (h1 : 4503599627370496 ≤ c) (h2 : c < 9007199254740992) (h3 : -1074 ≤ q) (h4 : q ≤ 900) : vf_n64 (nd c q) := n64_le (by rw [nd_toNat h1 h2 h3 h4]; omega)
theorem near_mul {x d : Nat} (hd : 0 < d) : FP.Core.nearest (x * d) d = x := by
  unfold FP.Core.nearest
  rw [Nat.mul_mod_left, if_pos (by omega), Nat.mul_div_cancel _ hd]
theorem log2_is {n k : Nat} (h1 : 2 ^ k ≤ n) (h2 : n < 2 ^ (k + 1)) : n.log2 = k := by
  have hn : n ≠ 0 := by have := Nat.two_pow_pos k; omega
  have h3 := (Nat.log2_lt hn (k := k + 1)).mpr h2
  have h4 := (Nat.le_log2 hn (k := k)).mpr h1
  omega
theorem lead_1 {n k : Nat} (h1 : 2 ^ k ≤ n) (h2 : n < 2 ^ (k + 1)) : FP.Core.leading n 1 = k := by
  unfold FP.Core.leading
  rw [log2_is h1 h2, show Nat.log2 1 = 0 by decide]
  dsimp only
  rw [show ((k : Int) - ((0 : Nat) : Int)).toNat = k by omega, show (-((k : Int) - ((0 : Nat) : Int))).toNat = 0 by omega, if_pos (by omega)]
  omega
theorem settle_in {c : Nat} {q : Int} (h2 : c < 9007199254740992) (h4 : q ≤ 900) : FP.Core.settle FP.Core.b64 false c q = .fin false c q := by
  unfold FP.Core.settle FP.Core.bound
  rw [f_p, f_qmax, if_pos h2, if_pos (by omega)]
/-- a whole number times a power of two -/
theorem rr_big {c k : Nat} {q : Int} (h1 : 4503599627370496 ≤ c) (h2 : c < 9007199254740992) (h3 : -1074 ≤ q) (h4 : q ≤ 900) : FP.Core.roundRatio FP.Core.b64 false (c * 2 ^ k) 1 (q - k) = .fin false c q := by
  have hk := Nat.two_pow_pos k
  have l : FP.Core.leading (c * 2 ^ k) 1 = ((52 + k : Nat) : Int) := lead_1 (by rw [Nat.pow_add]; exact Nat.mul_le_mul_right _ h1) (by rw [show 52 + k + 1 = 53 + k by omega, Nat.pow_add]; exact Nat.mul_lt_mul_of_pos_right h2 hk)
  have hq : FP.Core.quantum FP.Core.b64 (c * 2 ^ k) 1 (q - k) = q := by
    unfold FP.Core.quantum
    rw [l, f_qmin, show (FP.Core.b64.p : Int) = 53 from rfl]
    omega
  unfold FP.Core.roundRatio
  rw [if_neg (by have := Nat.mul_pos (show 0 < c by omega) hk; omega), hq]
  unfold FP.Core.roundAt FP.Core.unitsNum FP.Core.unitsDen
  rw [show (q - (k : Int) - q).toNat = 0 by omega, show (q - (q - (k : Int))).toNat = k by omega, Nat.pow_zero, Nat.mul_one, Nat.one_mul, near_mul hk]
  exact settle_in h2 h4
/-- a whole number of few digits -/
theorem rr_small {m k : Nat} {e : Int} (h1 : 4503599627370496 ≤ m * 2 ^ k) (h2 : m * 2 ^ k < 9007199254740992) (hk : k ≤ 52) (h3 : -1000 ≤ e) (h4 : e ≤ 800) : FP.Core.roundRatio FP.Core.b64 false m 1 e = .fin false (m * 2 ^ k) (e - k) := by
  have hp := Nat.two_pow_pos k
  have hm : 0 < m := by
    rcases Nat.eq_zero_or_pos m with q | q
    · rw [q] at h1; omega
    · exact q
  have l : FP.Core.leading m 1 = ((52 - k : Nat) : Int) := by
    refine lead_1 ?_ ?_
    · have e1 : 2 ^ (52 - k) * 2 ^ k = 4503599627370496 := by rw [← Nat.pow_add, show 52 - k + k = 52 by omega]
      rw [← e1] at h1
      exact Nat.le_of_mul_le_mul_right h1 hp
    · have e1 : 2 ^ (52 - k + 1) * 2 ^ k = 9007199254740992 := by rw [← Nat.pow_add, show 52 - k + 1 + k = 53 by omega]
      rw [← e1] at h2
      exact Nat.lt_of_mul_lt_mul_right h2
  have hq : FP.Core.quantum FP.Core.b64 m 1 e = e - k := by
    unfold FP.Core.quantum
    rw [l, f_qmin, show (FP.Core.b64.p : Int) = 53 from rfl]
    omega
  unfold FP.Core.roundRatio
  rw [if_neg (by omega), hq]
  unfold FP.Core.roundAt FP.Core.unitsNum FP.Core.unitsDen
  rw [show (e - (e - (k : Int))).toNat = k by omega, show (e - (k : Int) - e).toNat = 0 by omega, Nat.pow_zero, Nat.mul_one]
  have := near_mul (x := m * 2 ^ k) (d := 1) (by decide)
  rw [Nat.mul_one] at this
  rw [this]
  exact settle_in h2 (by omega)
theorem digits {m : Nat} (h0 : 0 < m) (h : m < 9007199254740992) : ∃ k : Nat, k ≤ 52 ∧ 4503599627370496 ≤ m * 2 ^ k ∧ m * 2 ^ k < 9007199254740992 := by
  have hl : m.log2 < 53 := (Nat.log2_lt (by omega)).mpr h
  have a1 := Nat.log2_self_le (show m ≠ 0 by omega)
  have a2 : m < 2 ^ (m.log2 + 1) := Nat.lt_log2_self
  refine ⟨52 - m.log2, by omega, ?_, ?_⟩
  · have e1 : 2 ^ m.log2 * 2 ^ (52 - m.log2) = 4503599627370496 := by rw [← Nat.pow_add, show m.log2 + (52 - m.log2) = 52 by omega]
    rw [← e1]
    exact Nat.mul_le_mul_right _ a1
  · have e1 : 2 ^ (m.log2 + 1) * 2 ^ (52 - m.log2) = 9007199254740992 := by rw [← Nat.pow_add, show m.log2 + 1 + (52 - m.log2) = 53 by omega]
    rw [← e1]
    exact Nat.mul_lt_mul_of_pos_right a2 (Nat.two_pow_pos _)

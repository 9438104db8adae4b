/-! BITS: arithmetic of small ints; piles of truths as bits -/
theorem nI_div {a b : Nat} (ha : a < 2 ^ 31) (h0 : 0 < b) (hb : b < 2 ^ 31) : nI a / nI b = nI (a / b) := by
  have h1 : a / b ≤ a := Nat.div_le_self a b
  apply Int32.toInt_inj.mp
  rw [Int32.toInt_div, nI_toInt ha, nI_toInt hb, nI_toInt (by omega), Int.tdiv_eq_ediv_of_nonneg (by omega), ← Int.natCast_ediv, Int.bmod_def]
  generalize a / b = q at h1 ⊢
  omega
theorem nI_sub {a b : Nat} (h : b ≤ a) : nI a - nI b = nI (a - b) := by
  have e : nI (a - b) + nI b = nI a := by rw [nI_add, Nat.sub_add_cancel h]
  rw [← e, Int32.add_sub_cancel]
theorem nI_rem {a b : Nat} (ha : a < 2 ^ 31) (h0 : 0 < b) (hb : b < 2 ^ 31) : nI a - nI a / nI b * nI b = nI (a % b) := by
  rw [nI_div ha h0 hb, nI_mul, nI_sub (Nat.div_mul_le_self a b)]
  congr 1
  have := Nat.div_add_mod a b
  rw [Nat.mul_comm] at this
  omega
theorem nI_and (a b : Nat) : nI a &&& nI b = nI (a &&& b) := by
  apply Int32.toBitVec_inj.mp
  show (nI a).toBitVec &&& (nI b).toBitVec = BitVec.ofNat 32 (a &&& b)
  show BitVec.ofNat 32 a &&& BitVec.ofNat 32 b = BitVec.ofNat 32 (a &&& b)
  apply BitVec.eq_of_toNat_eq
  simp [Nat.and_mod_two_pow]
theorem nI_or (a b : Nat) : nI a ||| nI b = nI (a ||| b) := by
  apply Int32.toBitVec_inj.mp
  show BitVec.ofNat 32 a ||| BitVec.ofNat 32 b = BitVec.ofNat 32 (a ||| b)
  apply BitVec.eq_of_toNat_eq
  simp [Nat.or_mod_two_pow]
theorem nI_xor (a b : Nat) : nI a ^^^ nI b = nI (a ^^^ b) := by
  apply Int32.toBitVec_inj.mp
  show BitVec.ofNat 32 a ^^^ BitVec.ofNat 32 b = BitVec.ofNat 32 (a ^^^ b)
  apply BitVec.eq_of_toNat_eq
  simp [Nat.xor_mod_two_pow]
theorem sh_s : ∀ n, n < 32 → ((nI n &&& 31).toBitVec.smod 32).toNat = n := by decide +kernel
theorem nI_shr {a n : Nat} (ha : a < 2 ^ 31) (hn : n < 32) : nI a >>> (nI n &&& 31) = nI (a >>> n) := by
  apply Int32.toBitVec_inj.mp
  rw [Int32.toBitVec_shiftRight, BitVec.sshiftRight_eq', sh_s n hn]
  show (BitVec.ofNat 32 a).sshiftRight n = BitVec.ofNat 32 (a >>> n)
  have hle : a >>> n ≤ a := by rw [Nat.shiftRight_eq_div_pow]; exact Nat.div_le_self _ _
  rw [BitVec.sshiftRight_eq_of_msb_false]
  · apply BitVec.eq_of_toNat_eq
    rw [BitVec.toNat_ushiftRight, BitVec.toNat_ofNat, BitVec.toNat_ofNat, Nat.mod_eq_of_lt (by omega), Nat.mod_eq_of_lt (by omega)]
  · rw [BitVec.msb_eq_decide, BitVec.toNat_ofNat, Nat.mod_eq_of_lt (by omega)]
    simp
    omega
theorem nI_shl {a n : Nat} (hn : n < 32) : nI a <<< (nI n &&& 31) = nI (a <<< n) := by
  apply Int32.toBitVec_inj.mp
  rw [Int32.toBitVec_shiftLeft, BitVec.shiftLeft_eq', sh_s n hn]
  show (BitVec.ofNat 32 a) <<< n = BitVec.ofNat 32 (a <<< n)
  apply BitVec.eq_of_toNat_eq
  rw [BitVec.toNat_shiftLeft, BitVec.toNat_ofNat, BitVec.toNat_ofNat, Nat.shiftLeft_eq, Nat.shiftLeft_eq, Nat.mod_mul_mod]
/-- a pile as bits, the topmost the lowest -/
def bv : List Bool → Nat
  | [] => 0
  | b :: r => (if b then 1 else 0) + 2 * bv r
theorem bv_lt : ∀ l : List Bool, bv l < 2 ^ l.length
  | [] => by decide
  | b :: r => by
    have := bv_lt r
    rw [List.length_cons, Nat.pow_succ]
    show (if b then 1 else 0) + 2 * bv r < _
    split <;> omega
theorem bv_small {l : List Bool} (h : l.length ≤ 24) : bv l < 2 ^ 24 := Nat.lt_of_lt_of_le (bv_lt l) (Nat.pow_le_pow_right (by decide) h)
theorem bv_not {b : Bool} {r : List Bool} : nI (bv (b :: r)) ^^^ 1 = nI (bv ((!b) :: r)) := by
  rw [show (1 : Int32) = nI 1 from rfl, nI_xor]
  congr 1
  show ((if b then 1 else 0) + 2 * bv r) ^^^ 1 = (if !b then 1 else 0) + 2 * bv r
  apply Nat.eq_of_testBit_eq
  intro i
  rw [Nat.testBit_xor]
  cases i with
  | zero => cases b <;> simp [Nat.testBit_zero] <;> omega
  | succ i =>
    rw [Nat.testBit_succ, Nat.testBit_succ, Nat.testBit_succ]
    cases b <;> simp <;> (first | (congr 1; omega) | skip)
theorem bv_and1 {b : Bool} {r : List Bool} : nI (bv (b :: r)) &&& 1 = if b then 1 else 0 := by
  rw [show (1 : Int32) = nI 1 from rfl, nI_and, Nat.and_one_is_mod]
  show nI (((if b then 1 else 0) + 2 * bv r) % 2) = _
  cases b
  · rw [show ((if false = true then 1 else 0) + 2 * bv r) % 2 = 0 by simp]
    rfl
  · rw [show ((if true = true then 1 else 0) + 2 * bv r) % 2 = 1 by simp]
    rfl
theorem bv_pop {b : Bool} {r : List Bool} (h : r.length ≤ 24) : nI (bv (b :: r)) >>> (1 &&& 31) = nI (bv r) := by
  have h1 := bv_small h
  have e : bv (b :: r) < 2 ^ 31 := by
    show (if b then 1 else 0) + 2 * bv r < _
    split <;> omega
  rw [show (1 : Int32) = nI 1 from rfl, nI_shr e (by decide), Nat.shiftRight_eq_div_pow]
  congr 1
  show ((if b then 1 else 0) + 2 * bv r) / 2 ^ 1 = bv r
  split <;> omega
theorem bv_push0 {r : List Bool} : (nI (bv r) <<< (1 &&& 31)) ||| 0 = nI (bv (false :: r)) := by
  rw [show (1 : Int32) = nI 1 from rfl, show (0 : Int32) = nI 0 from rfl, nI_shl (by decide), nI_or, Nat.or_zero, Nat.shiftLeft_eq]
  show nI (bv r * 2 ^ 1) = nI (0 + 2 * bv r)
  congr 1
  omega
theorem or_one (x : Nat) : 2 * x ||| 1 = 2 * x + 1 := by
  apply Nat.eq_of_testBit_eq
  intro i
  rw [Nat.testBit_or]
  cases i with
  | zero => simp [Nat.testBit_zero]
  | succ i =>
    rw [Nat.testBit_succ, Nat.testBit_succ, Nat.testBit_succ, show (2 * x + 1) / 2 = 2 * x / 2 by omega]
    simp
theorem bv_push1 {r : List Bool} : (nI (bv r) <<< (1 &&& 31)) ||| 1 = nI (bv (true :: r)) := by
  rw [show (1 : Int32) = nI 1 from rfl, nI_shl (by decide), nI_or, Nat.shiftLeft_eq, show bv r * 2 ^ 1 = 2 * bv r by omega, or_one]
  show nI (2 * bv r + 1) = nI (1 + 2 * bv r)
  rw [Nat.add_comm]
theorem bv_or {b a : Bool} {r : List Bool} (h : r.length ≤ 20) : (nI (bv (b :: a :: r)) >>> (1 &&& 31)) ||| (nI (bv (b :: a :: r)) &&& 1) = nI (bv ((a || b) :: r)) := by
  rw [bv_pop (by simp; omega), bv_and1]
  cases b
  · rw [show (if false = true then (1 : Int32) else 0) = nI 0 from rfl, nI_or, Nat.or_zero, Bool.or_false]
  · rw [show (if true = true then (1 : Int32) else 0) = nI 1 from rfl, nI_or]
    congr 1
    cases a
    · show (0 + 2 * bv r) ||| 1 = 1 + 2 * bv r
      rw [Nat.zero_add, or_one, Nat.add_comm]
    · show (1 + 2 * bv r) ||| 1 = 1 + 2 * bv r
      rw [Nat.add_comm 1, ← or_one, Nat.or_assoc, Nat.or_self]
theorem and_m2 {x : Nat} (h : x < 2 ^ 32) : x &&& 4294967294 = 2 * (x / 2) := by
  have h1 : (x &&& 4294967294) / 2 = x / 2 := by
    rw [Nat.and_div_two, show 4294967294 / 2 = 2 ^ 31 - 1 from rfl, Nat.and_two_pow_sub_one_eq_mod, Nat.mod_eq_of_lt (by omega)]
  have h2 : (x &&& 4294967294) % 2 = 0 := by
    have := @Nat.and_mod_two_pow x 4294967294 1
    rw [Nat.pow_one] at this
    rw [this, show 4294967294 % 2 = 0 from rfl, Nat.and_zero]
  omega
theorem bv_and {b a : Bool} {r : List Bool} (h : r.length ≤ 20) : (nI (bv (b :: a :: r)) >>> (1 &&& 31)) &&& ((nI (bv (b :: a :: r)) &&& 1) ||| (-2)) = nI (bv ((a && b) :: r)) := by
  have hs := bv_small (l := a :: r) (by simp; omega)
  rw [bv_pop (by simp; omega), bv_and1, show (-2 : Int32) = nI 4294967294 from by decide]
  cases b
  · rw [show (if false = true then (1 : Int32) else 0) = nI 0 from rfl, nI_or, Nat.zero_or, nI_and, and_m2 (by omega), Bool.and_false]
    congr 1
    show 2 * (((if a then 1 else 0) + 2 * bv r) / 2) = 0 + 2 * bv r
    split <;> omega
  · rw [show (if true = true then (1 : Int32) else 0) = nI 1 from rfl, nI_or, show 1 ||| 4294967294 = 2 ^ 32 - 1 from by decide, nI_and, Nat.and_two_pow_sub_one_eq_mod, Nat.mod_eq_of_lt (by omega), Bool.and_true]

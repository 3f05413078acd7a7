/-- how many of the first n bits of a number are ones -/
def popB : Nat → Nat → Nat
  | 0, _ => 0
  | n + 1, x => x % 2 + popB n (x / 2)
theorem popB_le (n x : Nat) : popB n x ≤ n := by
  induction n generalizing x with
  | zero => exact Nat.le_refl _
  | succ n ih =>
    have := ih (x / 2)
    unfold popB
    omega
theorem popB_0 (n : Nat) : popB n 0 = 0 := by
  induction n with
  | zero => rfl
  | succ n ih => show 0 % 2 + popB n (0 / 2) = 0; rw [show 0 / 2 = 0 from rfl, ih]
theorem popB_less (n : Nat) : ∀ x : Nat, 0 < x → x < 2 ^ n → popB n (x &&& (x - 1)) + 1 = popB n x := by
  induction n with
  | zero => intro x h0 h1; omega
  | succ n ih =>
    intro x h0 h1
    have hd : (x &&& (x - 1)) / 2 = x / 2 &&& (x - 1) / 2 := Nat.and_div_two
    show (x &&& (x - 1)) % 2 + popB n ((x &&& (x - 1)) / 2) + 1 = x % 2 + popB n (x / 2)
    rw [hd]
    have hm : (x &&& (x - 1)) % 2 = 0 := by
      rcases Nat.mod_two_eq_zero_or_one (x &&& (x - 1)) with q | q
      · exact q
      · have q2 : (x &&& (x - 1)).testBit 0 = true := by rw [Nat.testBit_zero]; exact decide_eq_true q
        rw [Nat.testBit_and, Nat.testBit_zero, Nat.testBit_zero, Bool.and_eq_true] at q2
        have a := of_decide_eq_true q2.1
        have b := of_decide_eq_true q2.2
        omega
    rw [hm]
    by_cases c : x % 2 = 1
    · have e : (x - 1) / 2 = x / 2 := by omega
      rw [e, Nat.and_self, c]
      omega
    · have e : (x - 1) / 2 = x / 2 - 1 := by omega
      have h := ih (x / 2) (by omega) (by rw [Nat.pow_succ] at h1; omega)
      rw [e]
      omega
def bitsOf (s : Int) : Nat := (hI s).toBitVec.toNat
theorem bits_0 {s : Int} (h : hIn s) : bitsOf s = 0 ↔ s = 0 := by
  unfold bitsOf
  constructor
  · intro q
    have e : (hI s).toBitVec = 0#32 := BitVec.eq_of_toNat_eq q
    have e2 : (hI s).toBitVec.toInt = s := hI_toInt h
    rw [e] at e2
    exact e2.symm
  · intro q; subst q; rfl
theorem bits_and {s : Int} (h0 : 0 < bitsOf s) : bitsOf (iAnd s (s - 1)) = bitsOf s &&& (bitsOf s - 1) := by
  unfold bitsOf at h0 ⊢
  have e : hI (iAnd s (s - 1)) = hI s &&& hI (s - 1) := hI_of _
  have e2 : hI (s - 1) = hI s - hI 1 := (hI_sub s 1).symm
  rw [e, e2]
  show ((hI s).toBitVec &&& ((hI s).toBitVec - (hI 1).toBitVec)).toNat = _
  have e3 : (hI 1).toBitVec = 1#32 := rfl
  rw [e3, BitVec.toNat_and, BitVec.toNat_sub_of_le (BitVec.le_def.mpr (show (1#32).toNat ≤ _ from h0))]
  rfl
/-! bits of longs and of ints as numbers; how many are 1 -/
def bl (x : Int) : Nat := (hJ x).toBitVec.toNat
theorem bl_lt (x : Int) : bl x < 18446744073709551616 := (hJ x).toBitVec.isLt
theorem bitsOf_lt (x : Int) : bitsOf x < 4294967296 := (hI x).toBitVec.isLt
theorem bl_and (a b : Int) : bl (jAnd a b) = bl a &&& bl b := by
  unfold bl jAnd
  rw [hJ_of, Int64.toBitVec_and, BitVec.toNat_and]
theorem bl_or (a b : Int) : bl (jOr a b) = bl a ||| bl b := by
  unfold bl jOr
  rw [hJ_of, Int64.toBitVec_or, BitVec.toNat_or]
theorem bl_xor (a b : Int) : bl (jXor a b) = bl a ^^^ bl b := by
  unfold bl jXor
  rw [hJ_of, Int64.toBitVec_xor, BitVec.toNat_xor]
theorem shr_amt : ∀ k : Nat, k < 64 → ((hI (k : Int)).toInt64.toUInt64 &&& Int64.toUInt64 63).toNat % 64 = k := by decide +kernel
theorem shl_amt : ∀ k : Nat, k < 64 → (((hI (k : Int)).toInt64 &&& 63).toBitVec.smod 64).toNat = k := by decide +kernel
theorem shl_amt32 : ∀ k : Nat, k < 32 → (((hI (k : Int)) &&& 31).toBitVec.smod 32).toNat = k := by decide +kernel
theorem bl_ushr (a : Int) (k : Nat) (hk : k < 64) : bl (jUshr a k) = bl a / 2 ^ k := by
  unfold bl jUshr
  rw [hJ_of]
  show ((hJ a).toUInt64 >>> ((hI (k : Int)).toInt64.toUInt64 &&& Int64.toUInt64 63)).toNat = _
  rw [UInt64.toNat_shiftRight, shr_amt k hk, Nat.shiftRight_eq_div_pow]
  rfl
theorem bl_shl1 (k : Nat) (hk : k < 64) : bl (jShl 1 k) = 2 ^ k := by
  unfold bl jShl
  rw [hJ_of]
  show ((hJ 1).toBitVec <<< ((hI (k : Int)).toInt64 &&& 63).toBitVec.smod 64).toNat = _
  rw [BitVec.shiftLeft_eq', shl_amt k hk, BitVec.toNat_shiftLeft, Nat.shiftLeft_eq, show (hJ 1).toBitVec.toNat = 1 from rfl, Nat.one_mul]
  exact Nat.mod_eq_of_lt (Nat.pow_lt_pow_right (by decide) hk)
theorem bl_shl_1 (a : Int) : bl (jShl a 1) = bl a * 2 % 18446744073709551616 := by
  unfold bl jShl
  rw [hJ_of]
  show ((hJ a).toBitVec <<< ((hI ((1 : Nat) : Int)).toInt64 &&& 63).toBitVec.smod 64).toNat = _
  rw [BitVec.shiftLeft_eq', shl_amt 1 (by decide), BitVec.toNat_shiftLeft, Nat.shiftLeft_eq]
theorem bl_add (a b : Int) : bl (a + b) = (bl a + bl b) % 18446744073709551616 := by
  unfold bl
  rw [← hJ_add, Int64.toBitVec_add, BitVec.toNat_add]
theorem bl_sub (a b : Int) : bl (a - b) = (18446744073709551616 - bl b + bl a) % 18446744073709551616 := by
  unfold bl
  rw [← hJ_sub, Int64.toBitVec_sub, BitVec.toNat_sub]
theorem bits_jToI (a : Int) : bitsOf (jToI a) = bl a % 4294967296 := by
  unfold bitsOf jToI bl
  rw [hI_of, Int64.toBitVec_toInt32, BitVec.signExtend_eq_setWidth_of_le _ (by decide), BitVec.toNat_setWidth]
theorem bits_iAnd (a b : Int) : bitsOf (iAnd a b) = bitsOf a &&& bitsOf b := by
  unfold bitsOf iAnd
  rw [hI_of, Int32.toBitVec_and, BitVec.toNat_and]
theorem bits_iOr (a b : Int) : bitsOf (iOr a b) = bitsOf a ||| bitsOf b := by
  unfold bitsOf iOr
  rw [hI_of, Int32.toBitVec_or, BitVec.toNat_or]
theorem bits_shl1 (k : Nat) (hk : k < 32) : bitsOf (iShl 1 k) = 2 ^ k := by
  unfold bitsOf iShl
  rw [hI_of]
  show ((hI 1).toBitVec <<< ((hI (k : Int)) &&& 31).toBitVec.smod 32).toNat = _
  rw [BitVec.shiftLeft_eq', shl_amt32 k hk, BitVec.toNat_shiftLeft, Nat.shiftLeft_eq, show (hI 1).toBitVec.toNat = 1 from rfl, Nat.one_mul]
  exact Nat.mod_eq_of_lt (Nat.pow_lt_pow_right (by decide) hk)
theorem bits_nat {n : Nat} (h : n < 2147483648) : bitsOf (n : Int) = n := by
  unfold bitsOf hI
  show (BitVec.ofInt 32 (n : Int)).toNat = n
  rw [BitVec.toNat_ofInt]
  omega
theorem bits_inj {a b : Int} (ha : hIn a) (hb : hIn b) (h : bitsOf a = bitsOf b) : a = b := by
  have e : (hI a).toBitVec = (hI b).toBitVec := BitVec.eq_of_toNat_eq h
  rw [← hI_toInt ha, ← hI_toInt hb]
  exact congrArg BitVec.toInt e
theorem and1_bit (n : Nat) : n &&& 1 = if n.testBit 0 = true then 1 else 0 := by
  rw [Nat.and_one_is_mod, Nat.testBit_zero]
  by_cases h : n % 2 = 1
  · rw [h]; rfl
  · have : n % 2 = 0 := by omega
    rw [this]; rfl
theorem small_of_bits {x : Int} (hx : hIn x) {n : Nat} (hn : n < 2147483648) (h : bitsOf x = n) : x = (n : Int) :=
  bits_inj hx ⟨by omega, by omega⟩ (by rw [h, bits_nat hn])
/-- a bit of a long, told as an int -/
theorem bitOf_v (L : Int) (c : Nat) (hc : c < 64) : v_X5_bitOf L c = if (bl L).testBit c = true then 1 else 0 := by
  have e : bitsOf (v_X5_bitOf L c) = if (bl L).testBit c = true then 1 else 0 := by
    unfold v_X5_bitOf
    rw [bits_jToI, bl_and, bl_ushr L c hc, show bl 1 = 1 from rfl, and1_bit, Nat.testBit_div_two_pow, Nat.zero_add]
    split <;> rfl
  have hin : hIn (v_X5_bitOf L c) := hIn_toInt _
  by_cases h : (bl L).testBit c = true
  · rw [if_pos h] at e ⊢; exact small_of_bits hin (by decide) e
  · rw [if_neg h] at e ⊢; exact small_of_bits hin (by decide) e
/-- a bit of an int -/
theorem bitOf_i (x : Int) (c : Nat) (hc : c < 32) : iAnd (iShr x c) 1 = if (bitsOf x).testBit c = true then 1 else 0 := by
  have e : bitsOf (iAnd (iShr x c) 1) = if (bitsOf x).testBit c = true then 1 else 0 := by
    rw [bits_iAnd, show bitsOf 1 = 1 from rfl, and1_bit]
    have e2 : (bitsOf (iShr x c)).testBit 0 = (bitsOf x).testBit c := by
      unfold bitsOf iShr
      rw [hI_of]
      show ((hI x).toBitVec.sshiftRight' (((hI (c : Int)) &&& 31).toBitVec.smod 32)).getLsbD 0 = (hI x).toBitVec.getLsbD c
      rw [BitVec.getLsbD_sshiftRight', shl_amt32 c hc]
      simp [hc]
    rw [e2]
  have hin : hIn (iAnd (iShr x c) 1) := hIn_toInt _
  by_cases h : (bitsOf x).testBit c = true
  · rw [if_pos h] at e ⊢; exact small_of_bits hin (by decide) e
  · rw [if_neg h] at e ⊢; exact small_of_bits hin (by decide) e
/-! how many bits are 1 -/
theorem popB_add (m n : Nat) : ∀ x : Nat, popB (m + n) x = popB m x + popB n (x / 2 ^ m) := by
  induction m with
  | zero => intro x; show popB (0 + n) x = 0 + popB n (x / 1); rw [Nat.zero_add, Nat.zero_add, Nat.div_one]
  | succ m ih =>
    intro x
    rw [show m + 1 + n = (m + n) + 1 by omega]
    show x % 2 + popB (m + n) (x / 2) = x % 2 + popB m (x / 2) + popB n (x / 2 ^ (m + 1))
    rw [ih, Nat.div_div_eq_div_mul, show 2 * 2 ^ m = 2 ^ (m + 1) by rw [Nat.pow_succ, Nat.mul_comm]]
    omega
theorem popB_low (n : Nat) : ∀ x y : Nat, popB n (x + 2 ^ n * y) = popB n x := by
  induction n with
  | zero => intro x y; rfl
  | succ n ih =>
    intro x y
    show (x + 2 ^ (n + 1) * y) % 2 + popB n ((x + 2 ^ (n + 1) * y) / 2) = x % 2 + popB n (x / 2)
    have e : 2 ^ (n + 1) * y = 2 * (2 ^ n * y) := by rw [Nat.pow_succ, Nat.mul_comm (2 ^ n) 2, Nat.mul_assoc]
    rw [e, show (x + 2 * (2 ^ n * y)) / 2 = x / 2 + 2 ^ n * y by omega, ih]
    omega
theorem popB_top (n x : Nat) : popB (n + 1) x = popB n x + (if x.testBit n = true then 1 else 0) := by
  rw [popB_add n 1]
  show popB n x + (x / 2 ^ n % 2 + 0) = _
  rw [Nat.testBit_eq_decide_div_mod_eq]
  by_cases h : x / 2 ^ n % 2 = 1
  · simp [h]
  · have : x / 2 ^ n % 2 = 0 := by omega
    simp [this]
theorem popB_sum (n x : Nat) : ((popB n x : Nat) : Int) = sumN (fun c => if x.testBit c.toNat = true then 1 else 0) n := by
  induction n with
  | zero => rfl
  | succ n ih =>
    rw [popB_top]
    show _ = sumN (fun c => if x.testBit c.toNat = true then 1 else 0) n + (if x.testBit (n : Int).toNat = true then 1 else 0)
    rw [← ih, Int.toNat_natCast]
    split <;> omega

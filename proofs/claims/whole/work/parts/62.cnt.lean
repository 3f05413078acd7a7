def cc1 (x : Int) : Int := x - (jAnd (jUshr x 1) 6148914691236517205)
def cc2 (x : Int) : Int := (jAnd x 3689348814741910323) + (jAnd (jUshr x 2) 3689348814741910323)
def cc3 (x : Int) : Int := jAnd (x + (jUshr x 4)) 1085102592571150095
theorem bl_cc1 (x : Int) : bl (cc1 x) = sw1 8 (bl x) := by
  unfold cc1 sw1
  have h1 : bl (jUshr x 1) = bl x / 2 := bl_ushr x 1 (by decide)
  rw [bl_sub, bl_and, h1, show bl 6148914691236517205 = 6148914691236517205 from rfl, mk8_5]
  have h2 : bl x / 2 &&& 6148914691236517205 ≤ bl x / 2 := Nat.and_le_left
  have h3 := bl_lt x
  omega
theorem bl_cc2 (x : Int) : bl (cc2 x) = sw2 8 (bl x) := by
  unfold cc2 sw2
  have h1 : bl (jUshr x 2) = bl x / 4 := bl_ushr x 2 (by decide)
  rw [bl_add, bl_and, bl_and, h1, show bl 3689348814741910323 = 3689348814741910323 from rfl, mk8_3]
  have h2 : bl x / 4 &&& 3689348814741910323 ≤ 3689348814741910323 := Nat.and_le_right
  have h3 : bl x &&& 3689348814741910323 ≤ 3689348814741910323 := Nat.and_le_right
  omega
theorem bl_cc3 {x : Int} (h : bl x < 17361641481138401520) : bl (cc3 x) = sw3 8 (bl x) := by
  unfold cc3 sw3
  have h1 : bl (jUshr x 4) = bl x / 16 := bl_ushr x 4 (by decide)
  rw [bl_and, bl_add, h1, show bl 1085102592571150095 = 1085102592571150095 from rfl, mk8_f, Nat.mod_eq_of_lt (by omega)]
theorem bitCount_v (x : Int) : v_J13_bitCount_95d88 x = ((popB 64 (bl x) : Nat) : Int) := by
  have e0 : v_J13_bitCount_95d88 x = iAnd (jToI (((cc3 (cc2 (cc1 x)) + jUshr (cc3 (cc2 (cc1 x))) 8) + jUshr (cc3 (cc2 (cc1 x)) + jUshr (cc3 (cc2 (cc1 x))) 8) 16) + jUshr ((cc3 (cc2 (cc1 x)) + jUshr (cc3 (cc2 (cc1 x))) 8) + jUshr (cc3 (cc2 (cc1 x)) + jUshr (cc3 (cc2 (cc1 x))) 8) 16) 32)) 127 := rfl
  rw [e0]
  have h2 : bl (cc2 (cc1 x)) < 17361641481138401520 := by
    rw [bl_cc2]
    unfold sw2
    rw [mk8_3]
    have h2 : bl (cc1 x) / 4 &&& 3689348814741910323 ≤ 3689348814741910323 := Nat.and_le_right
    have h3 : bl (cc1 x) &&& 3689348814741910323 ≤ 3689348814741910323 := Nat.and_le_right
    omega
  have h3 : bl (cc3 (cc2 (cc1 x))) = pby 8 (bl x) := by
    rw [bl_cc3 h2, bl_cc2, bl_cc1]
    exact (sw_all 8 (bl x) (bl_lt x)).2
  generalize cc3 (cc2 (cc1 x)) = i at h3 ⊢
  have q8 : ∀ y : Nat, popB 8 y ≤ 8 := popB_le 8
  have f := fold8 (q8 (bl x % 256)) (q8 (bl x / 256 % 256)) (q8 (bl x / 256 / 256 % 256)) (q8 (bl x / 256 / 256 / 256 % 256)) (q8 (bl x / 256 / 256 / 256 / 256 % 256)) (q8 (bl x / 256 / 256 / 256 / 256 / 256 % 256)) (q8 (bl x / 256 / 256 / 256 / 256 / 256 / 256 % 256)) (q8 (bl x / 256 / 256 / 256 / 256 / 256 / 256 / 256 % 256)) (bl i) (by rw [h3]; rfl)
  obtain ⟨f1, f2, f3, f4⟩ := f
  have a1 : bl (i + jUshr i 8) = bl i + bl i / 256 := by
    rw [bl_add, show bl (jUshr i 8) = bl i / 256 from bl_ushr i 8 (by decide)]
    exact Nat.mod_eq_of_lt f1
  generalize i + jUshr i 8 = j at a1 ⊢
  rw [← a1] at f2 f3 f4
  have a2 : bl (j + jUshr j 16) = bl j + bl j / 65536 := by
    rw [bl_add, show bl (jUshr j 16) = bl j / 65536 from bl_ushr j 16 (by decide)]
    exact Nat.mod_eq_of_lt f2
  generalize j + jUshr j 16 = m at a2 ⊢
  rw [← a2] at f3 f4
  have a3 : bl (m + jUshr m 32) = bl m + bl m / 4294967296 := by
    rw [bl_add, show bl (jUshr m 32) = bl m / 4294967296 from bl_ushr m 32 (by decide)]
    exact Nat.mod_eq_of_lt f3
  generalize m + jUshr m 32 = w at a3 ⊢
  rw [← a3] at f4
  have b : bitsOf (iAnd (jToI w) 127) = popB 64 (bl x) := by
    rw [bits_iAnd, bits_jToI, show bitsOf 127 = 2 ^ 7 - 1 from rfl, Nat.and_two_pow_sub_one_eq_mod, popB_64]
    exact f4
  have hb := popB_le 64 (bl x)
  exact small_of_bits (hIn_toInt _) (by omega) b
theorem jCmp_0 {a b : Int} : jCmp a b = 0 ↔ bl a = bl b := by
  unfold jCmp lg_cmp bl
  constructor
  · intro h
    by_cases h1 : hJ a > hJ b
    · rw [if_pos h1] at h; exact absurd h (by decide)
    · rw [if_neg h1] at h
      by_cases h2 : hJ a = hJ b
      · rw [h2]
      · rw [if_neg h2] at h; exact absurd h (by decide)
  · intro h
    have e : hJ a = hJ b := Int64.toBitVec_inj.mp (BitVec.eq_of_toNat_eq h)
    rw [e, if_neg (by show ¬ hJ b < hJ b; rw [Int64.lt_iff_toInt_lt]; omega), if_pos rfl]
    rfl
/-- a long is two ints -/
def hlv (L lo hi : Int) : Prop := bl L = 4294967296 * bitsOf hi + bitsOf lo
theorem hlv_pop {L lo hi : Int} (h : hlv L lo hi) : v_J13_bitCount_95d88 L = v_X6_ones lo + v_X6_ones hi := by
  unfold hlv at h
  unfold v_X6_ones
  rw [bitCount_v, h, show (64 : Nat) = 32 + 32 from rfl, popB_add 32 32]
  have h1 := bitsOf_lt lo
  rw [show (4294967296 * bitsOf hi + bitsOf lo) / 2 ^ 32 = bitsOf hi by omega, show 4294967296 * bitsOf hi + bitsOf lo = bitsOf lo + 2 ^ 32 * bitsOf hi by omega, popB_low]
  omega
theorem hlv_bit {L lo hi : Int} (h : hlv L lo hi) {c : Nat} (hc : c < 64) : (bl L).testBit c = (if c < 32 then (bitsOf lo).testBit c else (bitsOf hi).testBit (c - 32)) := by
  unfold hlv at h
  have := Nat.testBit_two_pow_mul_add (bitsOf hi) (b := bitsOf lo) (i := 32) (bitsOf_lt lo) c
  rw [h]
  exact this
theorem hlv_eq {L lo hi L2 lo2 hi2 : Int} (h : hlv L lo hi) (h2 : hlv L2 lo2 hi2) (i1 : hIn lo) (i2 : hIn hi) (i3 : hIn lo2) (i4 : hIn hi2) : bl L = bl L2 ↔ (lo = lo2 ∧ hi = hi2) := by
  unfold hlv at h h2
  have b1 := bitsOf_lt lo
  have b2 := bitsOf_lt lo2
  constructor
  · intro q
    exact ⟨bits_inj i1 i3 (by omega), bits_inj i2 i4 (by omega)⟩
  · rintro ⟨rfl, rfl⟩; rw [h, h2]

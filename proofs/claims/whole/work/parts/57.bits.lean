/-! the bits of a float, put together -/
theorem fE_self {e t : Nat} (h1 : 1 ≤ e) (h2 : e < 255) (ht : t < 8388608) : FP.fcmp (fE e t) (fE e t) = some .eq := by
  rw [fcmp_of, dec_fE (fE_nat (by omega) ht) h1 h2 ht, ord_fin]
  exact congrArg some (Int.compare_eq_eq.mpr rfl)
theorem hI_bits {n : Nat} (h : n < 4294967296) : (hI (n : Int)).toBitVec.toNat = n := by
  have e : (hI (n : Int)).toBitVec = BitVec.ofInt 32 (n : Int) := rfl
  rw [e, BitVec.toNat_ofInt]
  omega
theorem iOr_add {e t : Nat} (he : e < 255) (ht : t < 8388608) : iOr ((e * 8388608 : Nat) : Int) (t : Int) = ((e * 8388608 + t : Nat) : Int) := by
  have h : hI ((e * 8388608 : Nat) : Int) ||| hI (t : Int) = hI ((e * 8388608 + t : Nat) : Int) := by
    apply Int32.toBitVec_inj.mp
    apply BitVec.eq_of_toNat_eq
    rw [Int32.toBitVec_or, BitVec.toNat_or, hI_bits (by omega), hI_bits (by omega), hI_bits (by omega)]
    have q := Nat.two_pow_add_eq_or_of_lt (i := 23) (b := t) (by omega) e
    rw [show 2 ^ 23 * e = e * 8388608 by omega] at q
    exact q.symm
  unfold iOr
  rw [h]
  exact hI_toInt ⟨by omega, by omega⟩
theorem iShl_23 : ∀ e : Nat, e < 255 → iShl (e : Int) 23 = ((e * 8388608 : Nat) : Int) := by decide +kernel
theorem zero_fE : FP.f2i (FP.fmul (FP.fsub (fE 127 0) FP.fconst1) 0x4b000000) = hI 0 := by decide +kernel
/-- the whole number that the last three steps of the bits make of a significand -/
theorem sig_fE {t : Nat} (ht : t < 8388608) : FP.f2i (FP.fmul (FP.fsub (fE 127 t) FP.fconst1) 0x4b000000) = hI (t : Int) := by
  rcases Nat.eq_zero_or_pos t with h | h
  · subst h; exact zero_fE
  · have a := (Nat.log2_eq_iff (n := t) (k := t.log2) (by omega)).mp rfl
    have hl : t.log2 < 23 := (Nat.log2_lt (by omega)).mpr (by omega)
    have b := less1_fE a.1 a.2 (by omega)
    have c := whole_fE (l := t.log2) (t := t * 2 ^ (23 - t.log2) - 8388608) (s := t) (by omega) (by omega) (by omega)
    rw [b.1, c.1, c.2]
    rfl

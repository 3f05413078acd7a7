/-! the lit columns as a number of 64 bits -/
def jIn (x : Int) : Prop := -9223372036854775808 ≤ x ∧ x ≤ 9223372036854775807
theorem jIn_toInt (x : Int64) : jIn x.toInt := ⟨by have := Int64.le_toInt x; omega, by have := Int64.toInt_lt x; omega⟩
theorem jIn_or (a b : Int) : jIn (jOr a b) := jIn_toInt _
theorem jIn_0 : jIn 0 := ⟨by decide, by decide⟩
theorem hJ_toInt {a : Int} (h : jIn a) : (hJ a).toInt = a := Int64.toInt_ofInt_of_le (by have := h.1; omega) (by have := h.2; omega)
theorem bl_inj {a b : Int} (ha : jIn a) (hb : jIn b) (h : bl a = bl b) : a = b := by
  have e : (hJ a).toBitVec = (hJ b).toBitVec := BitVec.eq_of_toNat_eq h
  have e2 : (hJ a).toBitVec.toInt = (hJ b).toBitVec.toInt := by rw [e]
  have e3 : (hJ a).toInt = (hJ b).toInt := e2
  rw [hJ_toInt ha, hJ_toInt hb] at e3
  exact e3
theorem bl_same {a b : Int} (ha : jIn a) (hb : jIn b) (h : ∀ c : Nat, c < 64 → (bl a).testBit c = (bl b).testBit c) : a = b := by
  apply bl_inj ha hb
  apply Nat.eq_of_testBit_eq
  intro i
  by_cases c : i < 64
  · exact h i c
  · rw [Nat.testBit_lt_two_pow (Nat.lt_of_lt_of_le (bl_lt a) (Nat.pow_le_pow_right (n := 2) (i := 64) (by decide) (by omega))), Nat.testBit_lt_two_pow (Nat.lt_of_lt_of_le (bl_lt b) (Nat.pow_le_pow_right (n := 2) (i := 64) (by decide) (by omega)))]
/-- the lit columns when the first stems are laid -/
def litV (A : hGM) (g z : Int) : Nat → Int
  | 0 => 0
  | n + 1 => litUp (litV A g z n) (v_J9_max_7cf53 (layL A g z n) 0) (v_J9_min_7cf53 (layL A g z n + layW A g z n) (v_X0_columnsOf (A 1 g) z) - v_J9_max_7cf53 (layL A g z n) 0).toNat
theorem layT_V (A T : hGM) (g z : Int) (n : Nat) : layT A T g z n 100 0 = litV A g z n := by
  induction n with
  | zero => rfl
  | succ n ih =>
    have i5 := layT_00 A T g z n
    show m_X0_light (if layP A g z n = true then aset (layT A T g z n) 0 1 (iOr (layT A T g z n 0 1) (iShl 1 n)) else layT A T g z n) n (layL A g z n) (layW A g z n) 100 0 = litUp (litV A g z n) (v_J9_max_7cf53 (layL A g z n) 0) (v_J9_min_7cf53 (layL A g z n + layW A g z n) (v_X0_columnsOf (A 1 g) z) - v_J9_max_7cf53 (layL A g z n) 0).toNat
    unfold m_X0_light
    rw [aset_at]
    split
    · rw [aset_row (by decide), aset_ne (by omega), i5, ih]
    · rw [i5, ih]
theorem jIn_litUp {v : Int} (h : jIn v) (lo : Int) (n : Nat) : jIn (litUp v lo n) := by
  cases n with
  | zero => exact h
  | succ n => exact jIn_or _ _
theorem jIn_litV (A : hGM) (g z : Int) (n : Nat) : jIn (litV A g z n) := by
  induction n with
  | zero => exact jIn_0
  | succ n ih => exact jIn_litUp ih _ _
theorem litV_bit (A : hGM) (g z : Int) (n : Nat) (hn : n ≤ 6) (c : Nat) (hc : c < 64) : (bl (litV A g z n)).testBit c = (decide ((c : Int) < v_X0_columnsOf (A 1 g) z) && litQ A g z c n) := by
  rw [← layT_V A (fun _ _ => 0) g z n]
  exact (layT_rel A (fun _ _ => 0) g z n hn).2.2.2 c hc
theorem lay_lit (A T : hGM) (g z : Int) : m_X0_lay A T g z 100 0 = litV A g z (A 2 g).toNat := layT_V A T g z _

def cc1 (x : Int) : Int := x - (jAnd (jUshr x 1) 6148914691236517205)
def cc2 (x : Int) : Int := (jAnd x 3689348814741910323) + (jAnd (jUshr x 2) 3689348814741910323)
def cc3 (x : Int) : Int := jAnd (x + (jUshr x 4)) 1085102592571150095
theorem bl_cc1 (x : Int) : bl (cc1 x) = sw1 8 (bl x) := by
  unfold cc1 sw1
  have h1 : bl (jUshr x 1) = bl x / 2 := bl_ushr x 1 (by decide)
  rw [bl_sub, bl_and, h1, show bl 6148914691236517205 = 6148914691236517205 from rfl, mk8_5]
  have h2 : bl x / 2 &&& 6148914691236517205 ≤ bl x / 2 := Nat.and_le_left
  have h3 := bl_lt x
  omega
theorem bl_cc2 (x : Int) : bl (cc2 x) = sw2 8 (bl x) := by
  unfold cc2 sw2
  have h1 : bl (jUshr x 2) = bl x / 4 := bl_ushr x 2 (by decide)
  rw [bl_add, bl_and, bl_and, h1, show bl 3689348814741910323 = 3689348814741910323 from rfl, mk8_3]
  have h2 : bl x / 4 &&& 3689348814741910323 ≤ 3689348814741910323 := Nat.and_le_right
  have h3 : bl x &&& 3689348814741910323 ≤ 3689348814741910323 := Nat.and_le_right
  omega
theorem bl_cc3 {x : Int} (h : bl x < 17361641481138401520) : bl (cc3 x) = sw3 8 (bl x) := by
  unfold cc3 sw3
  have h1 : bl (jUshr x 4) = bl x / 16 := bl_ushr x 4 (by decide)
  rw [bl_and, bl_add, h1, show bl 1085102592571150095 = 1085102592571150095 from rfl, mk8_f, Nat.mod_eq_of_lt (by omega)]
theorem bitCount_v (x : Int) : v_J13_bitCount_95d88 x = ((popB 64 (bl x) : Nat) : Int) := by
  have e0 : v_J13_bitCount_95d88 x = iAnd (jToI (((cc3 (cc2 (cc1 x)) + jUshr (cc3 (cc2 (cc1 x))) 8) + jUshr (cc3 (cc2 (cc1 x)) + jUshr (cc3 (cc2 (cc1 x))) 8) 16) + jUshr ((cc3 (cc2 (cc1 x)) + jUshr (cc3 (cc2 (cc1 x))) 8) + jUshr (cc3 (cc2 (cc1 x)) + jUshr (cc3 (cc2 (cc1 x))) 8) 16) 32)) 127 := rfl
  rw [e0]
  have h2 : bl (cc2 (cc1 x)) < 17361641481138401520 := by
    rw [bl_cc2]
    unfold sw2
    rw [mk8_3]
    have h2 : bl (cc1 x) / 4 &&& 3689348814741910323 ≤ 3689348814741910323 := Nat.and_le_right
    have h3 : bl (cc1 x) &&& 3689348814741910323 ≤ 3689348814741910323 := Nat.and_le_right
    omega
  have h3 : bl (cc3 (cc2 (cc1 x))) = pby 8 (bl x) := by
    rw [bl_cc3 h2, bl_cc2, bl_cc1]
    exact (sw_all 8 (bl x) (bl_lt x)).2
  generalize cc3 (cc2 (cc1 x)) = i at h3 ⊢
  have q8 : ∀ y : Nat, popB 8 y ≤ 8 := popB_le 8
  have f := fold8 (q8 (bl x % 256)) (q8 (bl x / 256 % 256)) (q8 (bl x / 256 / 256 % 256)) (q8 (bl x / 256 / 256 / 256 % 256)) (q8 (bl x / 256 / 256 / 256 / 256 % 256)) (q8 (bl x / 256 / 256 / 256 / 256 / 256 % 256)) (q8 (bl x / 256 / 256 / 256 / 256 / 256 / 256 % 256)) (q8 (bl x / 256 / 256 / 256 / 256 / 256 / 256 / 256 % 256)) (bl i) (by rw [h3]; rfl)
  obtain ⟨f1, f2, f3, f4⟩ := f
  have a1 : bl (i + jUshr i 8) = bl i + bl i / 256 := by
    rw [bl_add, show bl (jUshr i 8) = bl i / 256 from bl_ushr i 8 (by decide)]
    exact Nat.mod_eq_of_lt f1
  generalize i + jUshr i 8 = j at a1 ⊢
  rw [← a1] at f2 f3 f4
  have a2 : bl (j + jUshr j 16) = bl j + bl j / 65536 := by
    rw [bl_add, show bl (jUshr j 16) = bl j / 65536 from bl_ushr j 16 (by decide)]
    exact Nat.mod_eq_of_lt f2
  generalize j + jUshr j 16 = m at a2 ⊢
  rw [← a2] at f3 f4
  have a3 : bl (m + jUshr m 32) = bl m + bl m / 4294967296 := by
    rw [bl_add, show bl (jUshr m 32) = bl m / 4294967296 from bl_ushr m 32 (by decide)]
    exact Nat.mod_eq_of_lt f3
  generalize m + jUshr m 32 = w at a3 ⊢
  rw [← a3] at f4
  have b : bitsOf (iAnd (jToI w) 127) = popB 64 (bl x) := by
    rw [bits_iAnd, bits_jToI, show bitsOf 127 = 2 ^ 7 - 1 from rfl, Nat.and_two_pow_sub_one_eq_mod, popB_64]
    exact f4
  have hb := popB_le 64 (bl x)
  exact small_of_bits (hIn_toInt _) (by omega) b
theorem jCmp_0 {a b : Int} : jCmp a b = 0 ↔ bl a = bl b := by
  unfold jCmp lg_cmp bl
  constructor
  · intro h
    by_cases h1 : hJ a > hJ b
    · rw [if_pos h1] at h; exact absurd h (by decide)
    · rw [if_neg h1] at h
      by_cases h2 : hJ a = hJ b
      · rw [h2]
      · rw [if_neg h2] at h; exact absurd h (by decide)
  · intro h
    have e : hJ a = hJ b := Int64.toBitVec_inj.mp (BitVec.eq_of_toNat_eq h)
    rw [e, if_neg (by show ¬ hJ b < hJ b; rw [Int64.lt_iff_toInt_lt]; omega), if_pos rfl]
    rfl
theorem sumN_s (f : Int → Int) (n : Nat) : sumN f (n + 1) = sumN f n + f n := rfl
theorem sumN_add (f : Int → Int) (a b : Nat) : sumN f (a + b) = sumN f a + sumN (fun k => f (a + k)) b := by
  induction b with
  | zero => show sumN f a = sumN f a + 0; omega
  | succ b ih =>
    show sumN f (a + b) + f ((a + b : Nat) : Int) = sumN f a + (sumN (fun k => f (a + k)) b + f (a + b))
    rw [ih, Int.natCast_add]
    omega
theorem sumN_0 {f : Int → Int} (n : Nat) (h : ∀ k : Int, 0 ≤ k → k < n → f k = 0) : sumN f n = 0 := by
  induction n with
  | zero => rfl
  | succ n ih => rw [sumN_s, ih (fun k a b => h k a (by omega)), h n (by omega) (by omega)]; rfl
theorem sumN_cut {f : Int → Int} {m n : Nat} (hm : m ≤ n) (h : ∀ k : Int, m ≤ k → k < n → f k = 0) : sumN f n = sumN f m := by
  obtain ⟨d, rfl⟩ : ∃ d, n = m + d := ⟨n - m, by omega⟩
  rw [sumN_add, sumN_0 d (fun k a b => h (m + k) (by omega) (by omega))]
  omega
theorem sumN_6 (f : Int → Int) (n : Nat) : sumN f (6 * n) = sumN (fun g => sumN (fun k => f (g * 6 + k)) 6) n := by
  induction n with
  | zero => rfl
  | succ n ih =>
    rw [show 6 * (n + 1) = 6 * n + 6 by omega, sumN_add, ih, sumN_s]
    congr 1
    refine sumN_congr 6 (fun k a b => ?_)
    show f (((6 * n : Nat) : Int) + k) = f ((n : Int) * 6 + k)
    rw [show ((6 * n : Nat) : Int) = (n : Int) * 6 by omega]
theorem sumN_upd {f f' : Int → Int} {i : Int} (n : Nat) (h : ∀ k : Int, k ≠ i → f' k = f k) : sumN f' n = sumN f n + (if 0 ≤ i ∧ i < n then f' i - f i else 0) := by
  induction n with
  | zero => show (0 : Int) = 0 + _; rw [if_neg (by omega)]; rfl
  | succ n ih =>
    rw [sumN_s, sumN_s, ih]
    by_cases e : (n : Int) = i
    · subst e
      rw [if_neg (by omega), if_pos (by omega)]; omega
    · rw [h n e]
      by_cases c : 0 ≤ i ∧ i < n
      · rw [if_pos c, if_pos (by omega)]; omega
      · rw [if_neg c, if_neg (by omega)]; omega
theorem cnt_some {p : Int → Prop} [DecidablePred p] (n : Nat) : 0 < sumN (fun k => if p k then 1 else 0) n ↔ ∃ k : Int, 0 ≤ k ∧ k < n ∧ p k := by
  induction n with
  | zero => exact ⟨fun q => absurd q (Int.lt_irrefl 0), fun ⟨k, a, b, _⟩ => by omega⟩
  | succ n ih =>
    have b := cnt_bd p n
    rw [sumN_s]
    by_cases c : p n
    · rw [if_pos c]
      exact ⟨fun _ => ⟨n, by omega, by omega, c⟩, fun _ => by omega⟩
    · rw [if_neg c, Int.add_zero, ih]
      constructor
      · rintro ⟨k, k0, k1, k2⟩; exact ⟨k, k0, by omega, k2⟩
      · rintro ⟨k, k0, k1, k2⟩
        refine ⟨k, k0, ?_, k2⟩
        by_cases e : k = n
        · subst e; exact absurd k2 c
        · omega

def p_J9_floorDiv_7cf53 (x1 : Int) (x2 : Int) : Prop := (0 < x2 ∧ (((iXor x1 x2) < 0 → (hIn ((Int.tdiv x1 x2) * x2) ∧ ((((Int.tdiv x1 x2) * x2) = x1 → (hIn (Int.tdiv x1 x2) ∧ True)) ∧ (¬ ((Int.tdiv x1 x2) * x2) = x1 → (hIn ((Int.tdiv x1 x2) - 1) ∧ True))))) ∧ (¬ (iXor x1 x2) < 0 → (hIn (Int.tdiv x1 x2) ∧ True))))
def v_J9_floorDiv_7cf53 (x1 : Int) (x2 : Int) : Int := (if (iXor x1 x2) < 0 then (if ((Int.tdiv x1 x2) * x2) = x1 then (Int.tdiv x1 x2) else ((Int.tdiv x1 x2) - 1)) else (Int.tdiv x1 x2))
def p_J9_floorMod_7cf53 (x1 : Int) (x2 : Int) : Prop := (0 < x2 ∧ (((iXor x1 x2) < 0 → (hIn (Int.tmod x1 x2) ∧ (((Int.tmod x1 x2) = 0 → True) ∧ (¬ (Int.tmod x1 x2) = 0 → (hIn ((Int.tmod x1 x2) + x2) ∧ True))))) ∧ (¬ (iXor x1 x2) < 0 → (hIn (Int.tmod x1 x2) ∧ True))))
def v_J9_floorMod_7cf53 (x1 : Int) (x2 : Int) : Int := (if (iXor x1 x2) < 0 then (if (Int.tmod x1 x2) = 0 then (Int.tmod x1 x2) else ((Int.tmod x1 x2) + x2)) else (Int.tmod x1 x2))
-- AFTER
theorem fdiv_v {x y : Int} (hx : hIn x) (hy : hIn y) (h : 0 < y) : v_J9_floorDiv_7cf53 x y = x / y := by
  unfold v_J9_floorDiv_7cf53
  have e := @Int.tdiv_eq_ediv x y
  by_cases h0 : x < 0
  · rw [if_pos ((iXor_neg hx hy h).mpr h0)]
    by_cases hd : y ∣ x
    · rw [if_pos (Or.inr hd)] at e
      rw [if_pos (by rw [e, Int.add_zero]; exact Int.ediv_mul_cancel hd), e, Int.add_zero]
    · rw [if_neg (fun q => q.elim (fun q => by omega) hd), Int.sign_eq_one_of_pos h] at e
      rw [if_neg (fun q => hd ⟨x.tdiv y, by rw [Int.mul_comm]; exact q.symm⟩), e]
      omega
  · rw [if_neg (fun q => h0 ((iXor_neg hx hy h).mp q))]
    exact Int.tdiv_eq_ediv_of_nonneg (by omega)
theorem fdiv_p {x y : Int} (hx : hIn x) (hy : hIn y) (h : 0 < y) : p_J9_floorDiv_7cf53 x y := by
  have h3 : (-x) / y ≤ -x ∨ 0 ≤ x := by
    by_cases h0 : 0 ≤ x
    · exact Or.inr h0
    · exact Or.inl (Int.ediv_le_self y (by omega))
  refine ⟨h, fun c => ?_, fun c => ?_⟩
  · have h0 := (iXor_neg hx hy h).mp c
    have e := tdiv_neg_eq (y := y) (Int.le_of_lt h0)
    have q0 : 0 ≤ (-x) / y := Int.ediv_nonneg (by omega) (Int.le_of_lt h)
    have q1 : (-x) / y ≤ -x := Int.ediv_le_self y (by omega)
    have q2 : (-x) / y * y ≤ -x := Int.ediv_mul_le (-x) (by omega)
    have q3 : 0 ≤ (-x) / y * y := Int.mul_nonneg q0 (Int.le_of_lt h)
    have hx1 := hx.1
    rw [e, Int.neg_mul]
    refine ⟨⟨by omega, by omega⟩, fun _ => ⟨⟨by omega, by omega⟩, trivial⟩, fun hne => ⟨⟨?_, by omega⟩, trivial⟩⟩
    by_cases hq : (-x) / y = 2147483648
    · exfalso
      have : y = 1 := by
        have h8 : 2147483648 * y ≤ -x := by rw [← hq]; exact q2
        omega
      subst this
      rw [Int.ediv_one] at hne
      omega
    · omega
  · have h0 : ¬ x < 0 := fun q => c ((iXor_neg hx hy h).mpr q)
    have e : x.tdiv y = x / y := Int.tdiv_eq_ediv_of_nonneg (by omega)
    have q0 : 0 ≤ x / y := Int.ediv_nonneg (by omega) (Int.le_of_lt h)
    have q1 : x / y ≤ x := Int.ediv_le_self y (by omega)
    have hx2 := hx.2
    rw [e]
    exact ⟨⟨by omega, by omega⟩, trivial⟩
theorem fmod_v {x y : Int} (hx : hIn x) (hy : hIn y) (h : 0 < y) : v_J9_floorMod_7cf53 x y = x % y := by
  unfold v_J9_floorMod_7cf53
  have e := @Int.tmod_eq_emod x y
  have b1 := Int.emod_nonneg x (show y ≠ 0 by omega)
  have b2 := Int.emod_lt_of_pos x h
  by_cases h0 : x < 0
  · rw [if_pos ((iXor_neg hx hy h).mpr h0)]
    by_cases hd : y ∣ x
    · rw [if_pos (Or.inr hd), Int.emod_eq_zero_of_dvd hd] at e
      rw [if_pos (by omega), e, Int.emod_eq_zero_of_dvd hd]; rfl
    · rw [if_neg (fun q => q.elim (fun q => by omega) hd)] at e
      rw [if_neg (by omega), e]
      omega
  · rw [if_neg (fun q => h0 ((iXor_neg hx hy h).mp q))]
    exact Int.tmod_eq_emod_of_nonneg (by omega)
theorem fmod_p {x y : Int} (hx : hIn x) (hy : hIn y) (h : 0 < y) : p_J9_floorMod_7cf53 x y := by
  have e := @Int.tmod_eq_emod x y
  have b1 := Int.emod_nonneg x (show y ≠ 0 by omega)
  have b2 := Int.emod_lt_of_pos x h
  have hy2 := hy.2
  have b3 : -y ≤ x.tmod y ∧ x.tmod y < y := by
    split at e <;> omega
  have b4 : x < 0 → x.tmod y ≤ 0 := by
    intro hx0
    split at e
    · next q =>
      rcases q with q | q
      · omega
      · rw [e, Int.emod_eq_zero_of_dvd q]; decide
    · omega
  exact ⟨h, fun c => ⟨⟨by omega, by omega⟩, fun _ => trivial, fun c2 => ⟨⟨by omega, by have := b4 ((iXor_neg hx hy h).mp c); omega⟩, trivial⟩⟩, fun _ => ⟨⟨by omega, by omega⟩, trivial⟩⟩
def p_J9_abs_0f7a4 (x1 : Int) : Prop := ((x1 < 0 → (hIn (-x1) ∧ True)) ∧ (¬ x1 < 0 → True))
def v_J9_abs_0f7a4 (x1 : Int) : Int := (if x1 < 0 then (-x1) else x1)
def v_J9_max_7cf53 (x1 : Int) (x2 : Int) : Int := (if x1 < x2 then x2 else x1)
def v_J9_min_7cf53 (x1 : Int) (x2 : Int) : Int := (if x1 ≤ x2 then x1 else x2)
def v_J13_bitCount_95d88 (x1 : Int) : Int := (iAnd (jToI ((((jAnd (((jAnd (x1 - (jAnd (jUshr x1 1) 6148914691236517205)) 3689348814741910323) + (jAnd (jUshr (x1 - (jAnd (jUshr x1 1) 6148914691236517205)) 2) 3689348814741910323)) + (jUshr ((jAnd (x1 - (jAnd (jUshr x1 1) 6148914691236517205)) 3689348814741910323) + (jAnd (jUshr (x1 - (jAnd (jUshr x1 1) 6148914691236517205)) 2) 3689348814741910323)) 4)) 1085102592571150095) + (jUshr (jAnd (((jAnd (x1 - (jAnd (jUshr x1 1) 6148914691236517205)) 3689348814741910323) + (jAnd (jUshr (x1 - (jAnd (jUshr x1 1) 6148914691236517205)) 2) 3689348814741910323)) + (jUshr ((jAnd (x1 - (jAnd (jUshr x1 1) 6148914691236517205)) 3689348814741910323) + (jAnd (jUshr (x1 - (jAnd (jUshr x1 1) 6148914691236517205)) 2) 3689348814741910323)) 4)) 1085102592571150095) 8)) + (jUshr ((jAnd (((jAnd (x1 - (jAnd (jUshr x1 1) 6148914691236517205)) 3689348814741910323) + (jAnd (jUshr (x1 - (jAnd (jUshr x1 1) 6148914691236517205)) 2) 3689348814741910323)) + (jUshr ((jAnd (x1 - (jAnd (jUshr x1 1) 6148914691236517205)) 3689348814741910323) + (jAnd (jUshr (x1 - (jAnd (jUshr x1 1) 6148914691236517205)) 2) 3689348814741910323)) 4)) 1085102592571150095) + (jUshr (jAnd (((jAnd (x1 - (jAnd (jUshr x1 1) 6148914691236517205)) 3689348814741910323) + (jAnd (jUshr (x1 - (jAnd (jUshr x1 1) 6148914691236517205)) 2) 3689348814741910323)) + (jUshr ((jAnd (x1 - (jAnd (jUshr x1 1) 6148914691236517205)) 3689348814741910323) + (jAnd (jUshr (x1 - (jAnd (jUshr x1 1) 6148914691236517205)) 2) 3689348814741910323)) 4)) 1085102592571150095) 8)) 16)) + (jUshr (((jAnd (((jAnd (x1 - (jAnd (jUshr x1 1) 6148914691236517205)) 3689348814741910323) + (jAnd (jUshr (x1 - (jAnd (jUshr x1 1) 6148914691236517205)) 2) 3689348814741910323)) + (jUshr ((jAnd (x1 - (jAnd (jUshr x1 1) 6148914691236517205)) 3689348814741910323) + (jAnd (jUshr (x1 - (jAnd (jUshr x1 1) 6148914691236517205)) 2) 3689348814741910323)) 4)) 1085102592571150095) + (jUshr (jAnd (((jAnd (x1 - (jAnd (jUshr x1 1) 6148914691236517205)) 3689348814741910323) + (jAnd (jUshr (x1 - (jAnd (jUshr x1 1) 6148914691236517205)) 2) 3689348814741910323)) + (jUshr ((jAnd (x1 - (jAnd (jUshr x1 1) 6148914691236517205)) 3689348814741910323) + (jAnd (jUshr (x1 - (jAnd (jUshr x1 1) 6148914691236517205)) 2) 3689348814741910323)) 4)) 1085102592571150095) 8)) + (jUshr ((jAnd (((jAnd (x1 - (jAnd (jUshr x1 1) 6148914691236517205)) 3689348814741910323) + (jAnd (jUshr (x1 - (jAnd (jUshr x1 1) 6148914691236517205)) 2) 3689348814741910323)) + (jUshr ((jAnd (x1 - (jAnd (jUshr x1 1) 6148914691236517205)) 3689348814741910323) + (jAnd (jUshr (x1 - (jAnd (jUshr x1 1) 6148914691236517205)) 2) 3689348814741910323)) 4)) 1085102592571150095) + (jUshr (jAnd (((jAnd (x1 - (jAnd (jUshr x1 1) 6148914691236517205)) 3689348814741910323) + (jAnd (jUshr (x1 - (jAnd (jUshr x1 1) 6148914691236517205)) 2) 3689348814741910323)) + (jUshr ((jAnd (x1 - (jAnd (jUshr x1 1) 6148914691236517205)) 3689348814741910323) + (jAnd (jUshr (x1 - (jAnd (jUshr x1 1) 6148914691236517205)) 2) 3689348814741910323)) 4)) 1085102592571150095) 8)) 16)) 32))) 127)

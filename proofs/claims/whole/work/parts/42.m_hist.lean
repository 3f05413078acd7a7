def p_X2_slotAt (S : hS) (age : Int) : Prop := (hIn (((S 9) 0 1) + age) ∧ (p_J9_floorMod_7cf53 (((S 9) 0 1) + age) 5 ∧ (¬ (v_J9_floorMod_7cf53 (((S 9) 0 1) + age) 5) < 0 ∧ ((v_J9_floorMod_7cf53 (((S 9) 0 1) + age) 5) < 5 ∧ True))))
def v_X2_slotAt (S : hS) (age : Int) : Int := (v_J9_floorMod_7cf53 (((S 9) 0 1) + age) 5)
def p_X2_note (S : hS) (j : Nat) : Prop := (p_X2_slotAt S ((S 9) 0 2) ∧ ((0 ≤ v_X2_slotAt S ((S 9) 0 2) ∧ v_X2_slotAt S ((S 9) 0 2) < 5) ∧ (p_X1_copy (S (2 + (v_X2_slotAt S ((S 9) 0 2)).toNat)) (S j) ∧ True)))
def m_X2_note (S : hS) (j : Nat) : hS := (gset S (2 + (v_X2_slotAt S ((S 9) 0 2)).toNat) (m_X1_copy (S (2 + (v_X2_slotAt S ((S 9) 0 2)).toNat)) (S j)))
def p_X2_keep (S : hS) : Prop := ((((S 9) 0 2) < 4 → (hIn (((S 9) 0 2) + 1) ∧ True)) ∧ (¬ ((S 9) 0 2) < 4 → (hIn (((S 9) 0 1) + 1) ∧ (0 ≤ (((S 9) 0 1) + 1) ∧ (hIn ((((S 9) 0 1) + 1) % 5) ∧ True)))))
def m_X2_keep (S : hS) : hS := (if ((S 9) 0 2) < 4 then (gset S 9 (aset (S 9) 0 2 (((S 9) 0 2) + 1))) else (gset S 9 (aset (S 9) 0 1 ((((S 9) 0 1) + 1) % 5))))
def p_X2_giveBack (S : hS) (j : Nat) : Prop := (hIn (((S 9) 0 2) - 1) ∧ (p_X2_slotAt S (((S 9) 0 2) - 1) ∧ ((0 ≤ v_X2_slotAt S (((S 9) 0 2) - 1) ∧ v_X2_slotAt S (((S 9) 0 2) - 1) < 5) ∧ ((((S 9) 0 2) ≤ 0 → True) ∧ (¬ ((S 9) 0 2) ≤ 0 → (p_X1_copy (S j) (S (2 + (v_X2_slotAt S (((S 9) 0 2) - 1)).toNat)) ∧ (hIn ((((gset S j (m_X1_copy (S j) (S (2 + (v_X2_slotAt S (((S 9) 0 2) - 1)).toNat)))) 9) 0 2) - 1) ∧ True)))))))
def v_X2_giveBack (S : hS) (j : Nat) : Int := (if ((S 9) 0 2) ≤ 0 then 0 else 1)
def m_X2_giveBack (S : hS) (j : Nat) : hS := (if ((S 9) 0 2) ≤ 0 then S else (gset (gset S j (m_X1_copy (S j) (S (2 + (v_X2_slotAt S (((S 9) 0 2) - 1)).toNat)))) 9 (aset ((gset S j (m_X1_copy (S j) (S (2 + (v_X2_slotAt S (((S 9) 0 2) - 1)).toNat)))) 9) 0 2 ((((gset S j (m_X1_copy (S j) (S (2 + (v_X2_slotAt S (((S 9) 0 2) - 1)).toNat)))) 9) 0 2) - 1))))
theorem z_X2_giveBack (S : hS) (j : Nat) : v_X2_giveBack S j = 0 ∨ v_X2_giveBack S j = 1 := by
  unfold v_X2_giveBack
  (repeat' split) <;> first | exact Or.inl rfl | exact Or.inr rfl

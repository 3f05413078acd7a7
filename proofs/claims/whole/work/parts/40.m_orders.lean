def p_X3_append (O : hGM) (sign : Int) : Prop := (((O 0 1) < 60 → (hIn (((m_X5_put O 1 60 (O 0 1) sign) 0 1) + 1) ∧ True)) ∧ (¬ (O 0 1) < 60 → True))
def v_X3_append (O : hGM) (sign : Int) : Int := (if (O 0 1) < 60 then 1 else 0)
def m_X3_append (O : hGM) (sign : Int) : hGM := (if (O 0 1) < 60 then (aset (m_X5_put O 1 60 (O 0 1) sign) 0 1 (((m_X5_put O 1 60 (O 0 1) sign) 0 1) + 1)) else O)
theorem z_X3_append (O : hGM) (sign : Int) : v_X3_append O sign = 0 ∨ v_X3_append O sign = 1 := by
  unfold v_X3_append
  (repeat' split) <;> first | exact Or.inl rfl | exact Or.inr rfl
def v_X3_signAt (O : hGM) (at1 : Int) : Int := (if at1 < (O 0 1) then (v_X5_cell O 1 60 at1) else 0)
def v_X3_numbersOf (letter : Int) : Int := (if letter = 103 then 1 else (if letter = 104 then 3 else (if letter = 109 then 1 else (if letter = 115 then 3 else (if letter = 119 then 1 else 0)))))
-- WANTING: X3_isNumber over (O : hGM) (which : Int)
def p_X3_isNumber (O : hGM) (which : Int) : Prop := True
def v_X3_isNumber (O : hGM) (which : Int) : Int := 0
def m_X3_isNumber (O : hGM) (which : Int) : hGM := O
set_option maxHeartbeats 4000000 in
theorem x_X3_isNumber (O : hGM) (which : Int) (h_which : hIn which) (hRO : ∀ (i : Nat) (k : Int), i < 100 → hIn (O i k)) (hp : p_X3_isNumber O which) (B4 : Int → Int → hGM → Prop) (Po : Int → hGM → Prop) 
  (r4 : ∀ (y2 : Int) (y3 : Int) (O1 : hGM), hIn y2 → hIn y3 → ((∀ (i : Nat) (k : Int), i < 100 → hIn (O1 i k)) → ((y3 < 4 → (((v_X5_within (v_X3_signAt O1 (O1 0 3)) 48 57) = 0 → ((y3 ≤ 0 → (Po 0 (m_X5_put O1 2 3 which y2))) ∧ (¬ y3 ≤ 0 → (Po 1 (m_X5_put O1 2 3 which y2))))) ∧ (¬ (v_X5_within (v_X3_signAt O1 (O1 0 3)) 48 57) = 0 → (hIn ((O1 0 3) + 1) ∧ (B4 (((y2 * 10) + (v_X3_signAt O1 (O1 0 3))) - 48) (y3 + 1) (aset O1 0 3 ((O1 0 3) + 1))))))) ∧ (¬ y3 < 4 → ((y3 ≤ 0 → (Po 0 (m_X5_put O1 2 3 which y2))) ∧ (¬ y3 ≤ 0 → (Po 1 (m_X5_put O1 2 3 which y2))))))) → (B4 y2 y3 O1)) 
  (hpost : Po (v_X3_isNumber O which) (m_X3_isNumber O which)) : (B4 0 0 O) := by
  sorry
-- WANTING: X3_isOrder over (O : hGM) (start : Int)
def p_X3_isOrder (O : hGM) (start : Int) : Prop := True
def v_X3_isOrder (O : hGM) (start : Int) : Int := 0
def m_X3_isOrder (O : hGM) (start : Int) : hGM := O
set_option maxHeartbeats 4000000 in
theorem x_X3_isOrder (O : hGM) (start : Int) (h_start : hIn start) (hRO : ∀ (i : Nat) (k : Int), i < 100 → hIn (O i k)) (hp : p_X3_isOrder O start) (B32 : Int → Int → hGM → Prop) (Po : Int → hGM → Prop) 
  (r32 : ∀ (y2 : Int) (y3 : Int) (O1 : hGM), hIn y2 → hIn y3 → ((∀ (i : Nat) (k : Int), i < 100 → hIn (O1 i k)) → ((y3 < y2 → (p_X3_isNumber O1 y3 ∧ (((v_X3_isNumber O1 y3) = 0 → (Po 0 (m_X3_isNumber O1 y3))) ∧ (¬ (v_X3_isNumber O1 y3) = 0 → (hIn (y3 + 1) ∧ (((y3 + 1) < y2 → (((v_X3_signAt (m_X3_isNumber O1 y3) ((m_X3_isNumber O1 y3) 0 3)) = 44 → (hIn (((m_X3_isNumber O1 y3) 0 3) + 1) ∧ (B32 y2 (y3 + 1) (aset (m_X3_isNumber O1 y3) 0 3 (((m_X3_isNumber O1 y3) 0 3) + 1))))) ∧ (¬ (v_X3_signAt (m_X3_isNumber O1 y3) ((m_X3_isNumber O1 y3) 0 3)) = 44 → (Po 0 (m_X3_isNumber O1 y3))))) ∧ (¬ (y3 + 1) < y2 → (((v_X3_signAt (m_X3_isNumber O1 y3) ((m_X3_isNumber O1 y3) 0 3)) = 59 → (hIn (((m_X3_isNumber O1 y3) 0 3) + 1) ∧ (B32 y2 (y3 + 1) (aset (m_X3_isNumber O1 y3) 0 3 (((m_X3_isNumber O1 y3) 0 3) + 1))))) ∧ (¬ (v_X3_signAt (m_X3_isNumber O1 y3) ((m_X3_isNumber O1 y3) 0 3)) = 59 → (Po 0 (m_X3_isNumber O1 y3))))))))))) ∧ (¬ y3 < y2 → (Po 1 O1)))) → (B32 y2 y3 O1)) 
  (hpost : Po (v_X3_isOrder O start) (m_X3_isOrder O start)) : (((v_X3_numbersOf (v_X3_signAt (aset O 0 3 start) start)) = 0 → (Po 0 (aset O 0 3 start))) ∧ (¬ (v_X3_numbersOf (v_X3_signAt (aset O 0 3 start) start)) = 0 → (hIn (((aset O 0 3 start) 0 3) + 1) ∧ (B32 (v_X3_numbersOf (v_X3_signAt (aset O 0 3 start) start)) 0 (aset (aset O 0 3 start) 0 3 (((aset O 0 3 start) 0 3) + 1)))))) := by
  sorry
def m_X3_tell (O : hGM) (at1 : Int) (why : Int) (because : Int) : hGM := (aset (aset (aset O 0 5 at1) 0 6 why) 0 7 because)
def p_X3_carryOut (A : hGM) (T : hGM) (O : hGM) (letter : Int) : Prop := ((letter = 103 → (p_X1_addGlyph A (v_X5_cell O 2 3 0) ∧ True)) ∧ (¬ letter = 103 → ((letter = 104 → (p_X1_hintStem A (v_X5_cell O 2 3 0) (v_X5_cell O 2 3 1) (v_X5_cell O 2 3 2) ∧ True)) ∧ (¬ letter = 104 → ((letter = 115 → (p_X1_addStem A (v_X5_cell O 2 3 0) (v_X5_cell O 2 3 1) (v_X5_cell O 2 3 2) ∧ True)) ∧ (¬ letter = 115 → ((letter = 119 → (p_X1_addStandard A (v_X5_cell O 2 3 0) ∧ True)) ∧ (¬ letter = 119 → (p_X1_makeSheet A T (v_X5_cell O 2 3 0) ∧ True)))))))))
def v_X3_carryOut (A : hGM) (T : hGM) (O : hGM) (letter : Int) : Int := (if letter = 103 then (v_X1_addGlyph A (v_X5_cell O 2 3 0)) else (if letter = 104 then (v_X1_hintStem A (v_X5_cell O 2 3 0) (v_X5_cell O 2 3 1) (v_X5_cell O 2 3 2)) else (if letter = 115 then (v_X1_addStem A (v_X5_cell O 2 3 0) (v_X5_cell O 2 3 1) (v_X5_cell O 2 3 2)) else (if letter = 119 then (v_X1_addStandard A (v_X5_cell O 2 3 0)) else (v_X1_makeSheet A T (v_X5_cell O 2 3 0))))))
def mA_X3_carryOut (A : hGM) (T : hGM) (O : hGM) (letter : Int) : hGM := (if letter = 103 then (m_X1_addGlyph A (v_X5_cell O 2 3 0)) else (if letter = 104 then (m_X1_hintStem A (v_X5_cell O 2 3 0) (v_X5_cell O 2 3 1) (v_X5_cell O 2 3 2)) else (if letter = 115 then (m_X1_addStem A (v_X5_cell O 2 3 0) (v_X5_cell O 2 3 1) (v_X5_cell O 2 3 2)) else (if letter = 119 then (m_X1_addStandard A (v_X5_cell O 2 3 0)) else (mA_X1_makeSheet A T (v_X5_cell O 2 3 0))))))
def mT_X3_carryOut (A : hGM) (T : hGM) (O : hGM) (letter : Int) : hGM := (if letter = 103 then T else (if letter = 104 then T else (if letter = 115 then T else (if letter = 119 then T else (mT_X1_makeSheet A T (v_X5_cell O 2 3 0))))))
-- WANTING: X3_run over (A : hGM) (T : hGM) (O : hGM)
def p_X3_run (A : hGM) (T : hGM) (O : hGM) : Prop := True
def mA_X3_run (A : hGM) (T : hGM) (O : hGM) : hGM := A
def mT_X3_run (A : hGM) (T : hGM) (O : hGM) : hGM := T
def mO_X3_run (A : hGM) (T : hGM) (O : hGM) : hGM := O
set_option maxHeartbeats 4000000 in
theorem x_X3_run (A : hGM) (T : hGM) (O : hGM) (hRA : ∀ (i : Nat) (k : Int), i < 100 → hIn (A i k)) (hRT : ∀ (i : Nat) (k : Int), i < 100 → hIn (T i k)) (hRO : ∀ (i : Nat) (k : Int), i < 100 → hIn (O i k)) (hp : p_X3_run A T O) (B15 : Int → Int → hGM → hGM → hGM → Prop) (Po : hGM → hGM → hGM → Prop) 
  (r15 : ∀ (y3 : Int) (y4 : Int) (A1 : hGM) (T1 : hGM) (O1 : hGM), hIn y3 → hIn y4 → ((∀ (i : Nat) (k : Int), i < 100 → hIn (A1 i k)) → (∀ (i : Nat) (k : Int), i < 100 → hIn (T1 i k)) → (∀ (i : Nat) (k : Int), i < 100 → hIn (O1 i k)) → ((y4 < 60 → ((y3 < (O1 0 1) → (p_X3_isOrder O1 y3 ∧ (((v_X3_isOrder O1 y3) = 0 → (hIn (((m_X3_isOrder O1 y3) 0 3) - y3) ∧ (Po A1 T1 (m_X3_tell (m_X3_isOrder O1 y3) y3 1 (((m_X3_isOrder O1 y3) 0 3) - y3))))) ∧ (¬ (v_X3_isOrder O1 y3) = 0 → (p_X3_carryOut A1 T1 (m_X3_isOrder O1 y3) (v_X3_signAt (m_X3_isOrder O1 y3) y3) ∧ (((v_X3_carryOut A1 T1 (m_X3_isOrder O1 y3) (v_X3_signAt (m_X3_isOrder O1 y3) y3)) < 0 → (Po (mA_X3_carryOut A1 T1 (m_X3_isOrder O1 y3) (v_X3_signAt (m_X3_isOrder O1 y3) y3)) (mT_X3_carryOut A1 T1 (m_X3_isOrder O1 y3) (v_X3_signAt (m_X3_isOrder O1 y3) y3)) (m_X3_tell (m_X3_isOrder O1 y3) y3 2 (v_X3_carryOut A1 T1 (m_X3_isOrder O1 y3) (v_X3_signAt (m_X3_isOrder O1 y3) y3))))) ∧ (¬ (v_X3_carryOut A1 T1 (m_X3_isOrder O1 y3) (v_X3_signAt (m_X3_isOrder O1 y3) y3)) < 0 → (hIn (((m_X3_isOrder O1 y3) 0 4) + 1) ∧ (B15 ((aset (m_X3_isOrder O1 y3) 0 4 (((m_X3_isOrder O1 y3) 0 4) + 1)) 0 3) (y4 + 1) (mA_X3_carryOut A1 T1 (m_X3_isOrder O1 y3) (v_X3_signAt (m_X3_isOrder O1 y3) y3)) (mT_X3_carryOut A1 T1 (m_X3_isOrder O1 y3) (v_X3_signAt (m_X3_isOrder O1 y3) y3)) (aset (m_X3_isOrder O1 y3) 0 4 (((m_X3_isOrder O1 y3) 0 4) + 1))))))))))) ∧ (¬ y3 < (O1 0 1) → (Po A1 T1 O1)))) ∧ (¬ y4 < 60 → (Po A1 T1 O1)))) → (B15 y3 y4 A1 T1 O1)) 
  (hpost : Po (mA_X3_run A T O) (mT_X3_run A T O) (mO_X3_run A T O)) : (B15 0 0 A T (aset (aset O 0 4 0) 0 6 0)) := by
  sorry

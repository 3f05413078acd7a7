-- WANTING: X4_copy over (A : hGM) (B : hGM)
def p_X4_copy (A : hGM) (B : hGM) : Prop := True
def m_X4_copy (A : hGM) (B : hGM) : hGM := A
set_option maxHeartbeats 4000000 in
theorem x_X4_copy (A : hGM) (B : hGM) (hRA : ∀ (i : Nat) (k : Int), i < 100 → hIn (A i k)) (hRB : ∀ (i : Nat) (k : Int), i < 100 → hIn (B i k)) (hp : p_X4_copy A B) (B54 : Int → hGM → Prop) (Po : hGM → Prop) 
  (r54 : ∀ (y2 : Int) (A1 : hGM), hIn y2 → ((∀ (i : Nat) (k : Int), i < 100 → hIn (A1 i k)) → ((y2 < 32 → ((0 ≤ y2 ∧ y2 < 32) ∧ (B54 (y2 + 1) (aset A1 112 y2 (B 112 y2))))) ∧ (¬ y2 < 32 → (Po A1)))) → (B54 y2 A1)) 
  (hpost : Po (m_X4_copy A B)) : (p_X5_copyRow (aset A 7 0 (B 7 0)) B 8 4 8 4 ∧ (p_X5_copyRow (m_X5_copyRow (aset A 7 0 (B 7 0)) B 8 4 8 4) B 9 4 9 4 ∧ (p_X5_copyRow (m_X5_copyRow (m_X5_copyRow (aset A 7 0 (B 7 0)) B 8 4 8 4) B 9 4 9 4) B 10 4 10 4 ∧ (p_X5_copyRow (m_X5_copyRow (m_X5_copyRow (m_X5_copyRow (aset A 7 0 (B 7 0)) B 8 4 8 4) B 9 4 9 4) B 10 4 10 4) B 11 32 11 32 ∧ (B54 0 (m_X5_copyRow (m_X5_copyRow (m_X5_copyRow (m_X5_copyRow (aset A 7 0 (B 7 0)) B 8 4 8 4) B 9 4 9 4) B 10 4 10 4) B 11 32 11 32)))))) := by
  sorry
def v_X4_isMade (A : hGM) (slot : Int) : Int := (if (v_X5_cell A 8 4 slot) ≤ 0 then 0 else 1)
theorem z_X4_isMade (A : hGM) (slot : Int) : v_X4_isMade A slot = 0 ∨ v_X4_isMade A slot = 1 := by
  unfold v_X4_isMade
  (repeat' split) <;> first | exact Or.inl rfl | exact Or.inr rfl
-- WANTING: X4_held over (A : hGM)
def p_X4_held (A : hGM) : Prop := True
def v_X4_held (A : hGM) : Int := 0
set_option maxHeartbeats 4000000 in
theorem x_X4_held (A : hGM) (hRA : ∀ (i : Nat) (k : Int), i < 100 → hIn (A i k)) (hp : p_X4_held A) (B4 : Int → Int → Prop) (Po : Int → Prop) 
  (r4 : ∀ (y1 : Int) (y2 : Int), hIn y1 → hIn y2 → (((y2 < 4 → (((v_X4_isMade A y2) = 0 → (B4 y1 (y2 + 1))) ∧ (¬ (v_X4_isMade A y2) = 0 → (B4 (y1 + 1) (y2 + 1))))) ∧ (¬ y2 < 4 → (Po y1)))) → (B4 y1 y2)) 
  (hpost : Po (v_X4_held A)) : (B4 0 0) := by
  sorry
-- WANTING: X4_slotOf over (A : hGM) (size : Int)
def p_X4_slotOf (A : hGM) (size : Int) : Prop := True
def v_X4_slotOf (A : hGM) (size : Int) : Int := 0
set_option maxHeartbeats 4000000 in
theorem x_X4_slotOf (A : hGM) (size : Int) (h_size : hIn size) (hRA : ∀ (i : Nat) (k : Int), i < 100 → hIn (A i k)) (hp : p_X4_slotOf A size) (B2 : Int → Prop) (Po : Int → Prop) 
  (r2 : ∀ (y2 : Int), hIn y2 → (((y2 < 4 → (((v_X4_isMade A y2) = 0 → (B2 (y2 + 1))) ∧ (¬ (v_X4_isMade A y2) = 0 → (((v_X5_cell A 9 4 y2) = size → (Po y2)) ∧ (¬ (v_X5_cell A 9 4 y2) = size → (B2 (y2 + 1))))))) ∧ (¬ y2 < 4 → (Po (-1))))) → (B2 y2)) 
  (hpost : Po (v_X4_slotOf A size)) : (B2 0) := by
  sorry
-- WANTING: X4_olderThan over (A : hGM) (slot : Int)
def p_X4_olderThan (A : hGM) (slot : Int) : Prop := True
def v_X4_olderThan (A : hGM) (slot : Int) : Int := 0
set_option maxHeartbeats 4000000 in
theorem x_X4_olderThan (A : hGM) (slot : Int) (h_slot : hIn slot) (hRA : ∀ (i : Nat) (k : Int), i < 100 → hIn (A i k)) (hp : p_X4_olderThan A slot) (B4 : Int → Int → Prop) (Po : Int → Prop) 
  (r4 : ∀ (y2 : Int) (y3 : Int), hIn y2 → hIn y3 → (((y3 < 4 → (((v_X4_isMade A y3) = 0 → (B4 y2 (y3 + 1))) ∧ (¬ (v_X4_isMade A y3) = 0 → (((v_X5_cell A 8 4 y3) < (v_X5_cell A 8 4 slot) → (B4 (y2 + 1) (y3 + 1))) ∧ (¬ (v_X5_cell A 8 4 y3) < (v_X5_cell A 8 4 slot) → (B4 y2 (y3 + 1))))))) ∧ (¬ y3 < 4 → (Po y2)))) → (B4 y2 y3)) 
  (hpost : Po (v_X4_olderThan A slot)) : (B4 0 0) := by
  sorry
-- WANTING: X4_slotAt over (A : hGM) (index : Int)
def p_X4_slotAt (A : hGM) (index : Int) : Prop := True
def v_X4_slotAt (A : hGM) (index : Int) : Int := 0
set_option maxHeartbeats 4000000 in
theorem x_X4_slotAt (A : hGM) (index : Int) (h_index : hIn index) (hRA : ∀ (i : Nat) (k : Int), i < 100 → hIn (A i k)) (hp : p_X4_slotAt A index) (B2 : Int → Prop) (Po : Int → Prop) 
  (r2 : ∀ (y2 : Int), hIn y2 → (((y2 < 4 → (((v_X4_isMade A y2) = 0 → (B2 (y2 + 1))) ∧ (¬ (v_X4_isMade A y2) = 0 → (p_X4_olderThan A y2 ∧ (((v_X4_olderThan A y2) = index → (Po y2)) ∧ (¬ (v_X4_olderThan A y2) = index → (B2 (y2 + 1)))))))) ∧ (¬ y2 < 4 → (Po (-1))))) → (B2 y2)) 
  (hpost : Po (v_X4_slotAt A index)) : (B2 0) := by
  sorry
-- WANTING: X4_slotToMake over (A : hGM) (size : Int)
def p_X4_slotToMake (A : hGM) (size : Int) : Prop := True
def v_X4_slotToMake (A : hGM) (size : Int) : Int := 0
set_option maxHeartbeats 4000000 in
theorem x_X4_slotToMake (A : hGM) (size : Int) (h_size : hIn size) (hRA : ∀ (i : Nat) (k : Int), i < 100 → hIn (A i k)) (hp : p_X4_slotToMake A size) (B17 : Int → Int → Prop) (Po : Int → Prop) 
  (r17 : ∀ (y3 : Int) (y4 : Int), hIn y3 → hIn y4 → (((y4 < 4 → (((v_X5_cell A 8 4 y4) < (v_X5_cell A 8 4 y3) → (B17 y4 (y4 + 1))) ∧ (¬ (v_X5_cell A 8 4 y4) < (v_X5_cell A 8 4 y3) → (B17 y3 (y4 + 1))))) ∧ (¬ y4 < 4 → (Po y3)))) → (B17 y3 y4)) 
  (hpost : Po (v_X4_slotToMake A size)) : (p_X4_slotOf A size ∧ (((v_X4_slotOf A size) < 0 → (B17 0 1)) ∧ (¬ (v_X4_slotOf A size) < 0 → (Po (v_X4_slotOf A size))))) := by
  sorry
def p_X4_begin (A : hGM) (slot : Int) (size : Int) (glyphCount : Int) : Prop := (hIn ((A 7 0) + 1) ∧ True)
def m_X4_begin (A : hGM) (slot : Int) (size : Int) (glyphCount : Int) : hGM := (m_X5_put (m_X5_put (m_X5_put (aset A 7 0 ((A 7 0) + 1)) 8 4 slot ((aset A 7 0 ((A 7 0) + 1)) 7 0)) 9 4 slot size) 10 4 slot glyphCount)
def m_X4_keep (A : hGM) (at1 : Int) (columnCount : Int) (litColumns : Int) : hGM := (if at1 < 0 then (m_X5_put A 11 32 at1 columnCount) else (if at1 < 32 then (aset (m_X5_put A 11 32 at1 columnCount) 112 at1 litColumns) else (m_X5_put A 11 32 at1 columnCount)))
def v_X4_litAt (A : hGM) (at1 : Int) : Int := (if at1 < 0 then 0 else (if at1 < 32 then (A 112 at1) else 0))
-- WANTING: X4_litTogether over (A : hGM) (slot : Int)
def p_X4_litTogether (A : hGM) (slot : Int) : Prop := True
def v_X4_litTogether (A : hGM) (slot : Int) : Int := 0
set_option maxHeartbeats 4000000 in
theorem x_X4_litTogether (A : hGM) (slot : Int) (h_slot : hIn slot) (hRA : ∀ (i : Nat) (k : Int), i < 100 → hIn (A i k)) (hp : p_X4_litTogether A slot) (B4 : Int → Int → Prop) (Po : Int → Prop) 
  (r4 : ∀ (y2 : Int) (y3 : Int), hIn y2 → hIn y3 → (((y3 < (v_X5_cell A 10 4 slot) → (hIn ((slot * 8) + y3) ∧ (B4 (y2 + (v_J13_bitCount_95d88 (v_X4_litAt A ((slot * 8) + y3)))) (y3 + 1)))) ∧ (¬ y3 < (v_X5_cell A 10 4 slot) → (Po y2)))) → (B4 y2 y3)) 
  (hpost : Po (v_X4_litTogether A slot)) : (B4 0 0) := by
  sorry

def p_X1_copy (A : hGM) (B : hGM) : Prop := (p_X5_copyRow (aset (aset (aset (aset A 0 0 (B 0 0)) 0 1 (B 0 1)) 0 2 (B 0 2)) 0 3 (B 0 3)) B 1 8 1 8 ∧ (p_X5_copyRow (m_X5_copyRow (aset (aset (aset (aset A 0 0 (B 0 0)) 0 1 (B 0 1)) 0 2 (B 0 2)) 0 3 (B 0 3)) B 1 8 1 8) B 2 8 2 8 ∧ (p_X5_copyRow (m_X5_copyRow (m_X5_copyRow (aset (aset (aset (aset A 0 0 (B 0 0)) 0 1 (B 0 1)) 0 2 (B 0 2)) 0 3 (B 0 3)) B 1 8 1 8) B 2 8 2 8) B 3 48 3 48 ∧ (p_X5_copyRow (m_X5_copyRow (m_X5_copyRow (m_X5_copyRow (aset (aset (aset (aset A 0 0 (B 0 0)) 0 1 (B 0 1)) 0 2 (B 0 2)) 0 3 (B 0 3)) B 1 8 1 8) B 2 8 2 8) B 3 48 3 48) B 4 48 4 48 ∧ (p_X5_copyRow (m_X5_copyRow (m_X5_copyRow (m_X5_copyRow (m_X5_copyRow (aset (aset (aset (aset A 0 0 (B 0 0)) 0 1 (B 0 1)) 0 2 (B 0 2)) 0 3 (B 0 3)) B 1 8 1 8) B 2 8 2 8) B 3 48 3 48) B 4 48 4 48) B 5 48 5 48 ∧ (p_X5_copyRow (m_X5_copyRow (m_X5_copyRow (m_X5_copyRow (m_X5_copyRow (m_X5_copyRow (aset (aset (aset (aset A 0 0 (B 0 0)) 0 1 (B 0 1)) 0 2 (B 0 2)) 0 3 (B 0 3)) B 1 8 1 8) B 2 8 2 8) B 3 48 3 48) B 4 48 4 48) B 5 48 5 48) B 6 3 6 3 ∧ (p_X4_copy (m_X5_copyRow (m_X5_copyRow (m_X5_copyRow (m_X5_copyRow (m_X5_copyRow (m_X5_copyRow (aset (aset (aset (aset A 0 0 (B 0 0)) 0 1 (B 0 1)) 0 2 (B 0 2)) 0 3 (B 0 3)) B 1 8 1 8) B 2 8 2 8) B 3 48 3 48) B 4 48 4 48) B 5 48 5 48) B 6 3 6 3) B ∧ True)))))))
def m_X1_copy (A : hGM) (B : hGM) : hGM := (m_X4_copy (m_X5_copyRow (m_X5_copyRow (m_X5_copyRow (m_X5_copyRow (m_X5_copyRow (m_X5_copyRow (aset (aset (aset (aset A 0 0 (B 0 0)) 0 1 (B 0 1)) 0 2 (B 0 2)) 0 3 (B 0 3)) B 1 8 1 8) B 2 8 2 8) B 3 48 3 48) B 4 48 4 48) B 5 48 5 48) B 6 3 6 3) B)
def p_X1_hasGlyph (A : hGM) (glyph : Int) : Prop := (hIn ((A 0 0) - 1) ∧ True)
def v_X1_hasGlyph (A : hGM) (glyph : Int) : Int := (v_X5_within glyph 0 ((A 0 0) - 1))
theorem z_X1_hasGlyph (A : hGM) (glyph : Int) : v_X1_hasGlyph A glyph = 0 ∨ v_X1_hasGlyph A glyph = 1 := by
  unfold v_X1_hasGlyph
  (repeat' split) <;> first | exact Or.inl rfl | exact Or.inr rfl | exact z_X5_within _ _ _
def p_X1_hasStem (A : hGM) (glyph : Int) (stem : Int) : Prop := (p_X1_hasGlyph A glyph ∧ (((v_X1_hasGlyph A glyph) = 0 → True) ∧ (¬ (v_X1_hasGlyph A glyph) = 0 → (hIn ((v_X5_cell A 2 8 glyph) - 1) ∧ (((v_X5_within stem 0 ((v_X5_cell A 2 8 glyph) - 1)) = 0 → True) ∧ (¬ (v_X5_within stem 0 ((v_X5_cell A 2 8 glyph) - 1)) = 0 → True))))))
def v_X1_hasStem (A : hGM) (glyph : Int) (stem : Int) : Int := (if (v_X1_hasGlyph A glyph) = 0 then 0 else (if (v_X5_within stem 0 ((v_X5_cell A 2 8 glyph) - 1)) = 0 then 0 else 1))
theorem z_X1_hasStem (A : hGM) (glyph : Int) (stem : Int) : v_X1_hasStem A glyph stem = 0 ∨ v_X1_hasStem A glyph stem = 1 := by
  unfold v_X1_hasStem
  (repeat' split) <;> first | exact Or.inl rfl | exact Or.inr rfl | exact z_X1_hasGlyph _ _ | exact z_X5_within _ _ _
def p_X1_endOf (A : hGM) (at1 : Int) : Prop := (hIn ((v_X5_cell A 3 48 at1) + (v_X5_cell A 4 48 at1)) ∧ True)
def v_X1_endOf (A : hGM) (at1 : Int) : Int := ((v_X5_cell A 3 48 at1) + (v_X5_cell A 4 48 at1))
def p_X1_addGlyph (A : hGM) (advance : Int) : Prop := (((v_X5_within advance 100 1500) = 0 → True) ∧ (¬ (v_X5_within advance 100 1500) = 0 → (((A 0 0) < 8 → (hIn (((m_X5_put A 1 8 (A 0 0) advance) 0 0) + 1) ∧ True)) ∧ (¬ (A 0 0) < 8 → True))))
def v_X1_addGlyph (A : hGM) (advance : Int) : Int := (if (v_X5_within advance 100 1500) = 0 then (-1000001) else (if (A 0 0) < 8 then (A 0 0) else (-1000003)))
def m_X1_addGlyph (A : hGM) (advance : Int) : hGM := (if (v_X5_within advance 100 1500) = 0 then A else (if (A 0 0) < 8 then (aset (m_X5_put A 1 8 (A 0 0) advance) 0 0 (((m_X5_put A 1 8 (A 0 0) advance) 0 0) + 1)) else A))
def m_X1_putStem (A : hGM) (at1 : Int) (place : Int) (width : Int) (hint : Int) : hGM := (m_X5_put (m_X5_put (m_X5_put A 3 48 at1 place) 4 48 at1 width) 5 48 at1 hint)
def m_X1_moveStem (A : hGM) (from1 : Int) (to1 : Int) : hGM := (m_X1_putStem A to1 (v_X5_cell A 3 48 from1) (v_X5_cell A 4 48 from1) (v_X5_cell A 5 48 from1))
-- WANTING: X1_addStem over (A : hGM) (glyph : Int) (place : Int) (width : Int)
def p_X1_addStem (A : hGM) (glyph : Int) (place : Int) (width : Int) : Prop := True
def v_X1_addStem (A : hGM) (glyph : Int) (place : Int) (width : Int) : Int := 0
def m_X1_addStem (A : hGM) (glyph : Int) (place : Int) (width : Int) : hGM := A
set_option maxHeartbeats 4000000 in
theorem x_X1_addStem (A : hGM) (glyph : Int) (place : Int) (width : Int) (h_glyph : hIn glyph) (h_place : hIn place) (h_width : hIn width) (hRA : ∀ (i : Nat) (k : Int), i < 100 → hIn (A i k)) (hp : p_X1_addStem A glyph place width) (B55 : Int → Int → Int → Int → hGM → Prop) (B129 : Int → Int → Int → Int → hGM → Prop) (Po : Int → hGM → Prop) 
  (r55 : ∀ (y4 : Int) (y5 : Int) (y6 : Int) (y7 : Int) (A1 : hGM), hIn y4 → hIn y5 → hIn y6 → hIn y7 → ((∀ (i : Nat) (k : Int), i < 100 → hIn (A1 i k)) → ((y7 < y5 → (hIn (y4 + y7) ∧ (p_X1_endOf A1 (y4 + y7) ∧ ((place < (v_X1_endOf A1 (y4 + y7)) → (hIn (place + width) ∧ (((v_X5_cell A1 3 48 (y4 + y7)) < (place + width) → (Po (-1000002) A1)) ∧ (¬ (v_X5_cell A1 3 48 (y4 + y7)) < (place + width) → (((v_X5_cell A1 3 48 (y4 + y7)) < place → (B55 y4 y5 (y6 + 1) (y7 + 1) A1)) ∧ (¬ (v_X5_cell A1 3 48 (y4 + y7)) < place → (B55 y4 y5 y6 (y7 + 1) A1))))))) ∧ (¬ place < (v_X1_endOf A1 (y4 + y7)) → (((v_X5_cell A1 3 48 (y4 + y7)) < place → (B55 y4 y5 (y6 + 1) (y7 + 1) A1)) ∧ (¬ (v_X5_cell A1 3 48 (y4 + y7)) < place → (B55 y4 y5 y6 (y7 + 1) A1)))))))) ∧ (¬ y7 < y5 → ((y5 < 6 → (B129 y4 y5 y6 y5 A1)) ∧ (¬ y5 < 6 → (Po (-1000003) A1)))))) → (B55 y4 y5 y6 y7 A1)) 
  (r129 : ∀ (y4 : Int) (y5 : Int) (y6 : Int) (y7 : Int) (A1 : hGM), hIn y4 → hIn y5 → hIn y6 → hIn y7 → ((∀ (i : Nat) (k : Int), i < 100 → hIn (A1 i k)) → ((y7 ≤ y6 → (hIn (y4 + y6) ∧ (hIn (y5 + 1) ∧ (Po y6 (m_X5_put (m_X1_putStem A1 (y4 + y6) place width 0) 2 8 glyph (y5 + 1)))))) ∧ (¬ y7 ≤ y6 → (hIn ((y4 + y7) - 1) ∧ (hIn (y4 + y7) ∧ (B129 y4 y5 y6 (y7 + (-1)) (m_X1_moveStem A1 ((y4 + y7) - 1) (y4 + y7)))))))) → (B129 y4 y5 y6 y7 A1)) 
  (hpost : Po (v_X1_addStem A glyph place width) (m_X1_addStem A glyph place width)) : (p_X1_hasGlyph A glyph ∧ (((v_X1_hasGlyph A glyph) = 0 → (Po (-1000001) A)) ∧ (¬ (v_X1_hasGlyph A glyph) = 0 → (((v_X5_within place 0 999) = 0 → (Po (-1000001) A)) ∧ (¬ (v_X5_within place 0 999) = 0 → (((v_X5_within width 1 300) = 0 → (Po (-1000001) A)) ∧ (¬ (v_X5_within width 1 300) = 0 → (B55 (glyph * 6) (v_X5_cell A 2 8 glyph) 0 0 A)))))))) := by
  sorry
-- WANTING: X1_cutStem over (A : hGM) (glyph : Int) (stem : Int)
def p_X1_cutStem (A : hGM) (glyph : Int) (stem : Int) : Prop := True
def v_X1_cutStem (A : hGM) (glyph : Int) (stem : Int) : Int := 0
def m_X1_cutStem (A : hGM) (glyph : Int) (stem : Int) : hGM := A
set_option maxHeartbeats 4000000 in
theorem x_X1_cutStem (A : hGM) (glyph : Int) (stem : Int) (h_glyph : hIn glyph) (h_stem : hIn stem) (hRA : ∀ (i : Nat) (k : Int), i < 100 → hIn (A i k)) (hp : p_X1_cutStem A glyph stem) (B32 : Int → Int → Int → hGM → Prop) (Po : Int → hGM → Prop) 
  (r32 : ∀ (y3 : Int) (y4 : Int) (y5 : Int) (A1 : hGM), hIn y3 → hIn y4 → hIn y5 → ((∀ (i : Nat) (k : Int), i < 100 → hIn (A1 i k)) → ((y5 < y4 → (hIn ((y3 + y5) + 1) ∧ (hIn (y3 + y5) ∧ (B32 y3 y4 (y5 + 1) (m_X1_moveStem A1 ((y3 + y5) + 1) (y3 + y5)))))) ∧ (¬ y5 < y4 → (hIn (y3 + y4) ∧ (Po y4 (m_X5_put (m_X1_putStem A1 (y3 + y4) 0 0 0) 2 8 glyph y4)))))) → (B32 y3 y4 y5 A1)) 
  (hpost : Po (v_X1_cutStem A glyph stem) (m_X1_cutStem A glyph stem)) : (p_X1_hasStem A glyph stem ∧ (((v_X1_hasStem A glyph stem) = 0 → (Po (-1000001) A)) ∧ (¬ (v_X1_hasStem A glyph stem) = 0 → (B32 (glyph * 6) ((v_X5_cell A 2 8 glyph) - 1) stem A)))) := by
  sorry
def p_X1_hintStem (A : hGM) (glyph : Int) (stem : Int) (hint : Int) : Prop := (p_X1_hasStem A glyph stem ∧ (((v_X1_hasStem A glyph stem) = 0 → True) ∧ (¬ (v_X1_hasStem A glyph stem) = 0 → (((v_X5_within hint 0 3) = 0 → True) ∧ (¬ (v_X5_within hint 0 3) = 0 → (hIn ((glyph * 6) + stem) ∧ True))))))
def v_X1_hintStem (A : hGM) (glyph : Int) (stem : Int) (hint : Int) : Int := (if (v_X1_hasStem A glyph stem) = 0 then (-1000001) else (if (v_X5_within hint 0 3) = 0 then (-1000001) else (v_X5_cell A 5 48 ((glyph * 6) + stem))))
def m_X1_hintStem (A : hGM) (glyph : Int) (stem : Int) (hint : Int) : hGM := (if (v_X1_hasStem A glyph stem) = 0 then A else (if (v_X5_within hint 0 3) = 0 then A else (m_X5_put A 5 48 ((glyph * 6) + stem) hint)))
-- WANTING: X1_standardAt over (A : hGM) (width : Int)
def p_X1_standardAt (A : hGM) (width : Int) : Prop := True
def v_X1_standardAt (A : hGM) (width : Int) : Int := 0
set_option maxHeartbeats 4000000 in
theorem x_X1_standardAt (A : hGM) (width : Int) (h_width : hIn width) (hRA : ∀ (i : Nat) (k : Int), i < 100 → hIn (A i k)) (hp : p_X1_standardAt A width) (B2 : Int → Prop) (Po : Int → Prop) 
  (r2 : ∀ (y2 : Int), hIn y2 → (((y2 < (A 0 1) → (((v_X5_cell A 6 3 y2) = width → (Po y2)) ∧ (¬ (v_X5_cell A 6 3 y2) = width → (B2 (y2 + 1))))) ∧ (¬ y2 < (A 0 1) → (Po (-1))))) → (B2 y2)) 
  (hpost : Po (v_X1_standardAt A width)) : (B2 0) := by
  sorry
-- WANTING: X1_snapOf over (A : hGM) (width : Int)
def p_X1_snapOf (A : hGM) (width : Int) : Prop := True
def v_X1_snapOf (A : hGM) (width : Int) : Int := 0
set_option maxHeartbeats 4000000 in
theorem x_X1_snapOf (A : hGM) (width : Int) (h_width : hIn width) (hRA : ∀ (i : Nat) (k : Int), i < 100 → hIn (A i k)) (hp : p_X1_snapOf A width) (B12 : Int → Int → Int → Prop) (Po : Int → Prop) 
  (r12 : ∀ (y2 : Int) (y3 : Int) (y4 : Int), hIn y2 → hIn y3 → hIn y4 → (((y4 < (A 0 1) → (hIn ((v_X5_cell A 6 3 y4) - width) ∧ (p_J9_abs_0f7a4 ((v_X5_cell A 6 3 y4) - width) ∧ (((v_J9_abs_0f7a4 ((v_X5_cell A 6 3 y4) - width)) < y3 → (B12 (v_X5_cell A 6 3 y4) (v_J9_abs_0f7a4 ((v_X5_cell A 6 3 y4) - width)) (y4 + 1))) ∧ (¬ (v_J9_abs_0f7a4 ((v_X5_cell A 6 3 y4) - width)) < y3 → (B12 y2 y3 (y4 + 1))))))) ∧ (¬ y4 < (A 0 1) → (Po y2)))) → (B12 y2 y3 y4)) 
  (hpost : Po (v_X1_snapOf A width)) : (B12 0 ((A 0 2) + 1) 0) := by
  sorry
-- WANTING: X1_snappingTo over (A : hGM) (standardWidth : Int)
def p_X1_snappingTo (A : hGM) (standardWidth : Int) : Prop := True
def v_X1_snappingTo (A : hGM) (standardWidth : Int) : Int := 0
set_option maxHeartbeats 4000000 in
theorem x_X1_snappingTo (A : hGM) (standardWidth : Int) (h_standardWidth : hIn standardWidth) (hRA : ∀ (i : Nat) (k : Int), i < 100 → hIn (A i k)) (hp : p_X1_snappingTo A standardWidth) (B4 : Int → Int → Prop) (Po : Int → Prop) 
  (r4 : ∀ (y2 : Int) (y3 : Int), hIn y2 → hIn y3 → (((y3 < 48 → ((0 ≤ y3 ∧ y3 < 48) ∧ (((A 4 y3) ≤ 0 → (B4 y2 (y3 + 1))) ∧ (¬ (A 4 y3) ≤ 0 → (p_X1_snapOf A (A 4 y3) ∧ (((v_X1_snapOf A (A 4 y3)) = standardWidth → (B4 (y2 + 1) (y3 + 1))) ∧ (¬ (v_X1_snapOf A (A 4 y3)) = standardWidth → (B4 y2 (y3 + 1))))))))) ∧ (¬ y3 < 48 → (Po y2)))) → (B4 y2 y3)) 
  (hpost : Po (v_X1_snappingTo A standardWidth)) : (B4 0 0) := by
  sorry
-- WANTING: X1_addStandard over (A : hGM) (width : Int)
def p_X1_addStandard (A : hGM) (width : Int) : Prop := True
def v_X1_addStandard (A : hGM) (width : Int) : Int := 0
def m_X1_addStandard (A : hGM) (width : Int) : hGM := A
set_option maxHeartbeats 4000000 in
theorem x_X1_addStandard (A : hGM) (width : Int) (h_width : hIn width) (hRA : ∀ (i : Nat) (k : Int), i < 100 → hIn (A i k)) (hp : p_X1_addStandard A width) (B41 : Int → hGM → Prop) (Po : Int → hGM → Prop) 
  (r41 : ∀ (y2 : Int) (A1 : hGM), hIn y2 → ((∀ (i : Nat) (k : Int), i < 100 → hIn (A1 i k)) → ((y2 ≤ 0 → (hIn (((m_X5_put A1 6 3 y2 width) 0 1) + 1) ∧ (p_X1_snappingTo (aset (m_X5_put A1 6 3 y2 width) 0 1 (((m_X5_put A1 6 3 y2 width) 0 1) + 1)) width ∧ (Po (v_X1_snappingTo (aset (m_X5_put A1 6 3 y2 width) 0 1 (((m_X5_put A1 6 3 y2 width) 0 1) + 1)) width) (aset (m_X5_put A1 6 3 y2 width) 0 1 (((m_X5_put A1 6 3 y2 width) 0 1) + 1)))))) ∧ (¬ y2 ≤ 0 → (hIn (y2 - 1) ∧ (((v_X5_cell A1 6 3 (y2 - 1)) ≤ width → (hIn (((m_X5_put A1 6 3 y2 width) 0 1) + 1) ∧ (p_X1_snappingTo (aset (m_X5_put A1 6 3 y2 width) 0 1 (((m_X5_put A1 6 3 y2 width) 0 1) + 1)) width ∧ (Po (v_X1_snappingTo (aset (m_X5_put A1 6 3 y2 width) 0 1 (((m_X5_put A1 6 3 y2 width) 0 1) + 1)) width) (aset (m_X5_put A1 6 3 y2 width) 0 1 (((m_X5_put A1 6 3 y2 width) 0 1) + 1)))))) ∧ (¬ (v_X5_cell A1 6 3 (y2 - 1)) ≤ width → (B41 (y2 + (-1)) (m_X5_put A1 6 3 y2 (v_X5_cell A1 6 3 (y2 - 1)))))))))) → (B41 y2 A1)) 
  (hpost : Po (v_X1_addStandard A width) (m_X1_addStandard A width)) : (((v_X5_within width 1 300) = 0 → (Po (-1000001) A)) ∧ (¬ (v_X5_within width 1 300) = 0 → (p_X1_standardAt A width ∧ (((v_X1_standardAt A width) < 0 → (((A 0 1) < 3 → (B41 (A 0 1) A)) ∧ (¬ (A 0 1) < 3 → (Po (-1000003) A)))) ∧ (¬ (v_X1_standardAt A width) < 0 → (Po (-1000002) A)))))) := by
  sorry
-- WANTING: X1_dropStandard over (A : hGM) (width : Int)
def p_X1_dropStandard (A : hGM) (width : Int) : Prop := True
def v_X1_dropStandard (A : hGM) (width : Int) : Int := 0
def m_X1_dropStandard (A : hGM) (width : Int) : hGM := A
set_option maxHeartbeats 4000000 in
theorem x_X1_dropStandard (A : hGM) (width : Int) (h_width : hIn width) (hRA : ∀ (i : Nat) (k : Int), i < 100 → hIn (A i k)) (hp : p_X1_dropStandard A width) (B39 : Int → hGM → Prop) (Po : Int → hGM → Prop) 
  (r39 : ∀ (y3 : Int) (A1 : hGM), hIn y3 → ((∀ (i : Nat) (k : Int), i < 100 → hIn (A1 i k)) → ((y3 < (A1 0 1) → (hIn (y3 + 1) ∧ (B39 (y3 + 1) (m_X5_put A1 6 3 y3 (v_X5_cell A1 6 3 (y3 + 1)))))) ∧ (¬ y3 < (A1 0 1) → (Po ((m_X5_put A1 6 3 (A1 0 1) 0) 0 1) (m_X5_put A1 6 3 (A1 0 1) 0))))) → (B39 y3 A1)) 
  (hpost : Po (v_X1_dropStandard A width) (m_X1_dropStandard A width)) : (((v_X5_within width 1 300) = 0 → (Po (-1000001) A)) ∧ (¬ (v_X5_within width 1 300) = 0 → (p_X1_standardAt A width ∧ (((v_X1_standardAt A width) < 0 → (Po (-1000002) A)) ∧ (¬ (v_X1_standardAt A width) < 0 → (hIn ((A 0 1) - 1) ∧ (B39 (v_X1_standardAt A width) (aset A 0 1 ((A 0 1) - 1))))))))) := by
  sorry
def v_X1_changeSetting (A : hGM) (what : Int) (value : Int) : Int := (if what = 0 then (if (v_X5_within value 0 100) = 0 then (if what = 1 then (if (v_X5_within value 0 3) = 0 then (-1000001) else (A 0 3)) else (-1000001)) else (A 0 2)) else (if what = 1 then (if (v_X5_within value 0 3) = 0 then (-1000001) else (A 0 3)) else (-1000001)))
def m_X1_changeSetting (A : hGM) (what : Int) (value : Int) : hGM := (if what = 0 then (if (v_X5_within value 0 100) = 0 then (if what = 1 then (if (v_X5_within value 0 3) = 0 then A else (aset A 0 3 value)) else A) else (aset A 0 2 value)) else (if what = 1 then (if (v_X5_within value 0 3) = 0 then A else (aset A 0 3 value)) else A))
def p_X1_hintedWidth (A : hGM) (width : Int) : Prop := (p_X1_snapOf A width ∧ (((v_X1_snapOf A width) = 0 → True) ∧ (¬ (v_X1_snapOf A width) = 0 → True)))
def v_X1_hintedWidth (A : hGM) (width : Int) : Int := (if (v_X1_snapOf A width) = 0 then width else (v_X1_snapOf A width))
def p_X1_wideOf (A : hGM) (width : Int) (size : Int) : Prop := (p_X1_snapOf A width ∧ (((v_X1_snapOf A width) = 0 → (p_X5_inPixels width size ∧ True)) ∧ (¬ (v_X1_snapOf A width) = 0 → (p_X5_inPixels (v_X1_snapOf A width) size ∧ True))))
def v_X1_wideOf (A : hGM) (width : Int) (size : Int) : Int := (if (v_X1_snapOf A width) = 0 then (v_J9_max_7cf53 1 (v_X5_inPixels width size)) else (v_J9_max_7cf53 1 (v_X5_inPixels (v_X1_snapOf A width) size)))
-- WANTING: X1_alikeWith over (A : hGM) (width : Int)
def p_X1_alikeWith (A : hGM) (width : Int) : Prop := True
def v_X1_alikeWith (A : hGM) (width : Int) : Int := 0
set_option maxHeartbeats 4000000 in
theorem x_X1_alikeWith (A : hGM) (width : Int) (h_width : hIn width) (hRA : ∀ (i : Nat) (k : Int), i < 100 → hIn (A i k)) (hp : p_X1_alikeWith A width) (B11 : Int → Int → Int → Prop) (Po : Int → Prop) 
  (r11 : ∀ (y2 : Int) (y3 : Int) (y4 : Int), hIn y2 → hIn y3 → hIn y4 → (((y4 < 48 → ((0 ≤ y4 ∧ y4 < 48) ∧ (((A 4 y4) ≤ 0 → (B11 y2 y3 (y4 + 1))) ∧ (¬ (A 4 y4) ≤ 0 → (p_X1_hintedWidth A (A 4 y4) ∧ (((v_X1_hintedWidth A (A 4 y4)) = y2 → (B11 y2 (y3 + 1) (y4 + 1))) ∧ (¬ (v_X1_hintedWidth A (A 4 y4)) = y2 → (B11 y2 y3 (y4 + 1))))))))) ∧ (¬ y4 < 48 → (Po y3)))) → (B11 y2 y3 y4)) 
  (hpost : Po (v_X1_alikeWith A width)) : (p_X1_hintedWidth A width ∧ (B11 (v_X1_hintedWidth A width) 0 0)) := by
  sorry
-- WANTING: X1_isAlikeAhead over (A : hGM) (at1 : Int)
def p_X1_isAlikeAhead (A : hGM) (at1 : Int) : Prop := True
def v_X1_isAlikeAhead (A : hGM) (at1 : Int) : Int := 0
set_option maxHeartbeats 4000000 in
theorem x_X1_isAlikeAhead (A : hGM) (at1 : Int) (h_at1 : hIn at1) (hRA : ∀ (i : Nat) (k : Int), i < 100 → hIn (A i k)) (hp : p_X1_isAlikeAhead A at1) (B15 : Int → Int → Prop) (Po : Int → Prop) 
  (r15 : ∀ (y2 : Int) (y3 : Int), hIn y2 → hIn y3 → (((y3 < at1 → ((y3 < 48 → ((0 ≤ y3 ∧ y3 < 48) ∧ (((A 4 y3) ≤ 0 → (B15 y2 (y3 + 1))) ∧ (¬ (A 4 y3) ≤ 0 → (p_X1_hintedWidth A (A 4 y3) ∧ (((v_X1_hintedWidth A (A 4 y3)) = y2 → (Po 1)) ∧ (¬ (v_X1_hintedWidth A (A 4 y3)) = y2 → (B15 y2 (y3 + 1))))))))) ∧ (¬ y3 < 48 → (Po 0)))) ∧ (¬ y3 < at1 → (Po 0)))) → (B15 y2 y3)) 
  (hpost : Po (v_X1_isAlikeAhead A at1)) : (p_X1_hintedWidth A (v_X5_cell A 4 48 at1) ∧ (B15 (v_X1_hintedWidth A (v_X5_cell A 4 48 at1)) 0)) := by
  sorry
-- WANTING: X1_unlikeWidths over (A : hGM)
def p_X1_unlikeWidths (A : hGM) : Prop := True
def v_X1_unlikeWidths (A : hGM) : Int := 0
set_option maxHeartbeats 4000000 in
theorem x_X1_unlikeWidths (A : hGM) (hRA : ∀ (i : Nat) (k : Int), i < 100 → hIn (A i k)) (hp : p_X1_unlikeWidths A) (B4 : Int → Int → Prop) (Po : Int → Prop) 
  (r4 : ∀ (y1 : Int) (y2 : Int), hIn y1 → hIn y2 → (((y2 < 48 → ((0 ≤ y2 ∧ y2 < 48) ∧ (((A 4 y2) ≤ 0 → (B4 y1 (y2 + 1))) ∧ (¬ (A 4 y2) ≤ 0 → (p_X1_isAlikeAhead A y2 ∧ (((v_X1_isAlikeAhead A y2) = 0 → (B4 (y1 + 1) (y2 + 1))) ∧ (¬ (v_X1_isAlikeAhead A y2) = 0 → (B4 y1 (y2 + 1))))))))) ∧ (¬ y2 < 48 → (Po y1)))) → (B4 y1 y2)) 
  (hpost : Po (v_X1_unlikeWidths A)) : (B4 0 0) := by
  sorry
-- WANTING: X1_stemsTogether over (A : hGM)
def p_X1_stemsTogether (A : hGM) : Prop := True
def v_X1_stemsTogether (A : hGM) : Int := 0
set_option maxHeartbeats 4000000 in
theorem x_X1_stemsTogether (A : hGM) (hRA : ∀ (i : Nat) (k : Int), i < 100 → hIn (A i k)) (hp : p_X1_stemsTogether A) (B4 : Int → Int → Prop) (Po : Int → Prop) 
  (r4 : ∀ (y1 : Int) (y2 : Int), hIn y1 → hIn y2 → (((y2 < 8 → ((0 ≤ y2 ∧ y2 < 8) ∧ (B4 (y1 + (A 2 y2)) (y2 + 1)))) ∧ (¬ y2 < 8 → (Po y1)))) → (B4 y1 y2)) 
  (hpost : Po (v_X1_stemsTogether A)) : (B4 0 0) := by
  sorry
-- WANTING: X1_widthsTogether over (A : hGM)
def p_X1_widthsTogether (A : hGM) : Prop := True
def v_X1_widthsTogether (A : hGM) : Int := 0
set_option maxHeartbeats 4000000 in
theorem x_X1_widthsTogether (A : hGM) (hRA : ∀ (i : Nat) (k : Int), i < 100 → hIn (A i k)) (hp : p_X1_widthsTogether A) (B4 : Int → Int → Prop) (Po : Int → Prop) 
  (r4 : ∀ (y1 : Int) (y2 : Int), hIn y1 → hIn y2 → (((y2 < 48 → ((0 ≤ y2 ∧ y2 < 48) ∧ (B4 (y1 + (A 4 y2)) (y2 + 1)))) ∧ (¬ y2 < 48 → (Po y1)))) → (B4 y1 y2)) 
  (hpost : Po (v_X1_widthsTogether A)) : (B4 0 0) := by
  sorry

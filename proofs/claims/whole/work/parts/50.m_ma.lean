def v_X6_in (v1 : Int) (least : Int) (most : Int) : Int := (if v1 < least then 0 else (if v1 ≤ most then 1 else 0))
theorem z_X6_in (v1 : Int) (least : Int) (most : Int) : v_X6_in v1 least most = 0 ∨ v_X6_in v1 least most = 1 := by
  unfold v_X6_in
  (repeat' split) <;> first | exact Or.inl rfl | exact Or.inr rfl
def p_X6_floor (v1 : Int) (by1 : Int) : Prop := ((v1 < 0 → (hIn ((by1 - 1) - v1) ∧ (0 ≤ ((by1 - 1) - v1) ∧ (0 < by1 ∧ (hIn (-(((by1 - 1) - v1) / by1)) ∧ True))))) ∧ (¬ v1 < 0 → (0 ≤ v1 ∧ (0 < by1 ∧ (hIn (v1 / by1) ∧ True)))))
def v_X6_floor (v1 : Int) (by1 : Int) : Int := (if v1 < 0 then (-(((by1 - 1) - v1) / by1)) else (v1 / by1))
-- WANTING: X6_copies over (A : hGM) (i1 : Nat) (n1 : Nat) (i2 : Nat) (n2 : Nat)
def p_X6_copies (A : hGM) (i1 : Nat) (n1 : Nat) (i2 : Nat) (n2 : Nat) : Prop := True
def m_X6_copies (A : hGM) (i1 : Nat) (n1 : Nat) (i2 : Nat) (n2 : Nat) : hGM := A
set_option maxHeartbeats 4000000 in
theorem x_X6_copies (A : hGM) (i1 : Nat) (n1 : Nat) (i2 : Nat) (n2 : Nat) (h_n1 : n1 < 100000) (h_n2 : n2 < 100000) (hRA : ∀ (i : Nat) (k : Int), i < 100 → hIn (A i k)) (hp : p_X6_copies A i1 n1 i2 n2) (B2 : Int → hGM → Prop) (Po : hGM → Prop) 
  (r2 : ∀ (y2 : Int) (A1 : hGM), hIn y2 → ((∀ (i : Nat) (k : Int), i < 100 → hIn (A1 i k)) → ((y2 < 273 → ((0 ≤ y2 ∧ y2 < (n1 : Int)) ∧ ((0 ≤ y2 ∧ y2 < (n2 : Int)) ∧ (B2 (y2 + 1) (aset A1 i2 y2 (A1 i1 y2)))))) ∧ (¬ y2 < 273 → (Po A1)))) → (B2 y2 A1)) 
  (hpost : Po (m_X6_copies A i1 n1 i2 n2)) : (B2 0 A) := by
  sorry
-- WANTING: X6_changes over (P : hGM)
def p_X6_changes (P : hGM) : Prop := True
def m_X6_changes (P : hGM) : hGM := P
set_option maxHeartbeats 4000000 in
theorem x_X6_changes (P : hGM) (hRP : ∀ (i : Nat) (k : Int), i < 100 → hIn (P i k)) (hp : p_X6_changes P) (B18 : Int → hGM → Prop) (B59 : Int → hGM → Prop) (Po : hGM → Prop) 
  (r18 : ∀ (y1 : Int) (P1 : hGM), hIn y1 → ((∀ (i : Nat) (k : Int), i < 100 → hIn (P1 i k)) → ((y1 < 819 → ((0 ≤ (y1 + 273) ∧ (y1 + 273) < 1092) ∧ ((0 ≤ y1 ∧ y1 < 1092) ∧ (B18 (y1 + 1) (aset P1 2 y1 (P1 2 (y1 + 273))))))) ∧ (¬ y1 < 819 → (hIn ((P1 0 3) - 1) ∧ (B59 0 (aset P1 0 3 ((P1 0 3) - 1))))))) → (B18 y1 P1)) 
  (r59 : ∀ (y1 : Int) (P1 : hGM), hIn y1 → ((∀ (i : Nat) (k : Int), i < 100 → hIn (P1 i k)) → ((y1 < 273 → ((0 ≤ y1 ∧ y1 < 273) ∧ ((0 ≤ ((273 * (P1 0 3)) + y1) ∧ ((273 * (P1 0 3)) + y1) < 1092) ∧ (B59 (y1 + 1) (aset P1 2 ((273 * (P1 0 3)) + y1) (P1 1 y1)))))) ∧ (¬ y1 < 273 → (hIn ((P1 0 3) + 1) ∧ (Po (aset P1 0 3 ((P1 0 3) + 1))))))) → (B59 y1 P1)) 
  (hpost : Po (m_X6_changes P)) : (((P 0 4) = 0 → (((P 0 3) = 4 → (B18 0 P)) ∧ (¬ (P 0 3) = 4 → (B59 0 P)))) ∧ (¬ (P 0 4) = 0 → (Po P))) := by
  sorry
def v_X6_isSize (size : Int) : Int := (v_X6_in size 6 48)
theorem z_X6_isSize (size : Int) : v_X6_isSize size = 0 ∨ v_X6_isSize size = 1 := by
  unfold v_X6_isSize
  (repeat' split) <;> first | exact Or.inl rfl | exact Or.inr rfl | exact z_X6_in _ _ _
def v_X6_isGlyph (P : hGM) (g1 : Int) : Int := (if g1 < 0 then 0 else (if g1 < (P 1 0) then 1 else 0))
theorem z_X6_isGlyph (P : hGM) (g1 : Int) : v_X6_isGlyph P g1 = 0 ∨ v_X6_isGlyph P g1 = 1 := by
  unfold v_X6_isGlyph
  (repeat' split) <;> first | exact Or.inl rfl | exact Or.inr rfl
def p_X6_of (P : hGM) (glyph : Int) (what : Int) : Prop := ((0 ≤ ((9 + (20 * glyph)) + what) ∧ ((9 + (20 * glyph)) + what) < 273) ∧ True)
def v_X6_of (P : hGM) (glyph : Int) (what : Int) : Int := (P 1 ((9 + (20 * glyph)) + what))
def p_X6_isStem (P : hGM) (glyph : Int) (stem : Int) : Prop := (((v_X6_isGlyph P glyph) = 0 → True) ∧ (¬ (v_X6_isGlyph P glyph) = 0 → ((stem < 0 → True) ∧ (¬ stem < 0 → (p_X6_of P glyph 1 ∧ ((stem < (v_X6_of P glyph 1) → True) ∧ (¬ stem < (v_X6_of P glyph 1) → True)))))))
def v_X6_isStem (P : hGM) (glyph : Int) (stem : Int) : Int := (if (v_X6_isGlyph P glyph) = 0 then 0 else (if stem < 0 then 0 else (if stem < (v_X6_of P glyph 1) then 1 else 0)))
theorem z_X6_isStem (P : hGM) (glyph : Int) (stem : Int) : v_X6_isStem P glyph stem = 0 ∨ v_X6_isStem P glyph stem = 1 := by
  unfold v_X6_isStem
  (repeat' split) <;> first | exact Or.inl rfl | exact Or.inr rfl | exact z_X6_isGlyph _ _
def p_X6_at (glyph : Int) (stem : Int) (what : Int) : Prop := (hIn ((((9 + (20 * glyph)) + 2) + (3 * stem)) + what) ∧ True)
def v_X6_at (glyph : Int) (stem : Int) (what : Int) : Int := ((((9 + (20 * glyph)) + 2) + (3 * stem)) + what)
def p_X6_ofStem (P : hGM) (glyph : Int) (stem : Int) (what : Int) : Prop := (p_X6_at glyph stem what ∧ ((0 ≤ (v_X6_at glyph stem what) ∧ (v_X6_at glyph stem what) < 273) ∧ True))
def v_X6_ofStem (P : hGM) (glyph : Int) (stem : Int) (what : Int) : Int := (P 1 (v_X6_at glyph stem what))
def p_X6_endOf (P : hGM) (glyph : Int) (stem : Int) : Prop := (p_X6_ofStem P glyph stem 0 ∧ (p_X6_ofStem P glyph stem 1 ∧ (hIn ((v_X6_ofStem P glyph stem 0) + (v_X6_ofStem P glyph stem 1)) ∧ True)))
def v_X6_endOf (P : hGM) (glyph : Int) (stem : Int) : Int := ((v_X6_ofStem P glyph stem 0) + (v_X6_ofStem P glyph stem 1))
def p_X6_glyph (P : hGM) (advance : Int) : Prop := (((v_X6_in advance 100 1500) = 0 → True) ∧ (¬ (v_X6_in advance 100 1500) = 0 → (((P 1 0) = 8 → True) ∧ (¬ (P 1 0) = 8 → (p_X6_changes P ∧ ((0 ≤ ((9 + (20 * (P 1 0))) + 0) ∧ ((9 + (20 * (P 1 0))) + 0) < 273) ∧ ((0 ≤ ((9 + (20 * (P 1 0))) + 1) ∧ ((9 + (20 * (P 1 0))) + 1) < 273) ∧ (hIn (((aset (aset (m_X6_changes P) 1 ((9 + (20 * (P 1 0))) + 0) advance) 1 ((9 + (20 * (P 1 0))) + 1) 0) 1 0) + 1) ∧ True))))))))
def v_X6_glyph (P : hGM) (advance : Int) : Int := (if (v_X6_in advance 100 1500) = 0 then (-1000001) else (if (P 1 0) = 8 then (-1000003) else (P 1 0)))
def m_X6_glyph (P : hGM) (advance : Int) : hGM := (if (v_X6_in advance 100 1500) = 0 then P else (if (P 1 0) = 8 then P else (aset (aset (aset (m_X6_changes P) 1 ((9 + (20 * (P 1 0))) + 0) advance) 1 ((9 + (20 * (P 1 0))) + 1) 0) 1 0 (((aset (aset (m_X6_changes P) 1 ((9 + (20 * (P 1 0))) + 0) advance) 1 ((9 + (20 * (P 1 0))) + 1) 0) 1 0) + 1))))
-- WANTING: X6_ahead over (P : hGM) (glyph : Int) (place : Int)
def p_X6_ahead (P : hGM) (glyph : Int) (place : Int) : Prop := True
def v_X6_ahead (P : hGM) (glyph : Int) (place : Int) : Int := 0
set_option maxHeartbeats 4000000 in
theorem x_X6_ahead (P : hGM) (glyph : Int) (place : Int) (h_glyph : hIn glyph) (h_place : hIn place) (hRP : ∀ (i : Nat) (k : Int), i < 100 → hIn (P i k)) (hp : p_X6_ahead P glyph place) (B2 : Int → Prop) (Po : Int → Prop) 
  (r2 : ∀ (y3 : Int), hIn y3 → ((p_X6_of P glyph 1 ∧ ((y3 < (v_X6_of P glyph 1) → (p_X6_ofStem P glyph y3 0 ∧ (((v_X6_ofStem P glyph y3 0) < place → (B2 (y3 + 1))) ∧ (¬ (v_X6_ofStem P glyph y3 0) < place → (Po y3))))) ∧ (¬ y3 < (v_X6_of P glyph 1) → (Po y3))))) → (B2 y3)) 
  (hpost : Po (v_X6_ahead P glyph place)) : (B2 0) := by
  sorry
-- WANTING: X6_stem over (P : hGM) (glyph : Int) (place : Int) (width : Int)
def p_X6_stem (P : hGM) (glyph : Int) (place : Int) (width : Int) : Prop := True
def v_X6_stem (P : hGM) (glyph : Int) (place : Int) (width : Int) : Int := 0
def m_X6_stem (P : hGM) (glyph : Int) (place : Int) (width : Int) : hGM := P
set_option maxHeartbeats 4000000 in
theorem x_X6_stem (P : hGM) (glyph : Int) (place : Int) (width : Int) (h_glyph : hIn glyph) (h_place : hIn place) (h_width : hIn width) (hRP : ∀ (i : Nat) (k : Int), i < 100 → hIn (P i k)) (hp : p_X6_stem P glyph place width) (B144 : Int → Int → hGM → Prop) (Po : Int → hGM → Prop) 
  (r144 : ∀ (y4 : Int) (y7 : Int) (P1 : hGM), hIn y4 → hIn y7 → ((∀ (i : Nat) (k : Int), i < 100 → hIn (P1 i k)) → (p_X6_at glyph y4 0 ∧ ((y7 < (v_X6_at glyph y4 0) → ((0 ≤ (v_X6_at glyph y4 0) ∧ (v_X6_at glyph y4 0) < 273) ∧ (p_X6_at glyph y4 1 ∧ ((0 ≤ (v_X6_at glyph y4 1) ∧ (v_X6_at glyph y4 1) < 273) ∧ (p_X6_at glyph y4 2 ∧ ((0 ≤ (v_X6_at glyph y4 2) ∧ (v_X6_at glyph y4 2) < 273) ∧ ((0 ≤ ((9 + (20 * glyph)) + 1) ∧ ((9 + (20 * glyph)) + 1) < 273) ∧ (hIn (((aset (aset (aset P1 1 (v_X6_at glyph y4 0) place) 1 (v_X6_at glyph y4 1) width) 1 (v_X6_at glyph y4 2) 0) 1 ((9 + (20 * glyph)) + 1)) + 1) ∧ (Po y4 (aset (aset (aset (aset P1 1 (v_X6_at glyph y4 0) place) 1 (v_X6_at glyph y4 1) width) 1 (v_X6_at glyph y4 2) 0) 1 ((9 + (20 * glyph)) + 1) (((aset (aset (aset P1 1 (v_X6_at glyph y4 0) place) 1 (v_X6_at glyph y4 1) width) 1 (v_X6_at glyph y4 2) 0) 1 ((9 + (20 * glyph)) + 1)) + 1))))))))))) ∧ (¬ y7 < (v_X6_at glyph y4 0) → ((0 ≤ y7 ∧ y7 < 273) ∧ ((0 ≤ (y7 + 3) ∧ (y7 + 3) < 273) ∧ (B144 y4 (y7 + (-1)) (aset P1 1 (y7 + 3) (P1 1 y7))))))))) → (B144 y4 y7 P1)) 
  (hpost : Po (v_X6_stem P glyph place width) (m_X6_stem P glyph place width)) : (((v_X6_isGlyph P glyph) = 0 → (Po (-1000001) P)) ∧ (¬ (v_X6_isGlyph P glyph) = 0 → (((v_X6_in place 0 999) = 0 → (Po (-1000001) P)) ∧ (¬ (v_X6_in place 0 999) = 0 → (((v_X6_in width 1 300) = 0 → (Po (-1000001) P)) ∧ (¬ (v_X6_in width 1 300) = 0 → (p_X6_ahead P glyph place ∧ (((v_X6_ahead P glyph place) = 0 → (p_X6_of P glyph 1 ∧ (((v_X6_ahead P glyph place) = (v_X6_of P glyph 1) → (((v_X6_of P glyph 1) = 6 → (Po (-1000003) P)) ∧ (¬ (v_X6_of P glyph 1) = 6 → (p_X6_changes P ∧ (p_X6_of (m_X6_changes P) glyph 1 ∧ (p_X6_at glyph (v_X6_of (m_X6_changes P) glyph 1) 0 ∧ (B144 (v_X6_ahead P glyph place) ((v_X6_at glyph (v_X6_of (m_X6_changes P) glyph 1) 0) - 1) (m_X6_changes P)))))))) ∧ (¬ (v_X6_ahead P glyph place) = (v_X6_of P glyph 1) → (p_X6_ofStem P glyph (v_X6_ahead P glyph place) 0 ∧ (hIn (place + width) ∧ (((place + width) ≤ (v_X6_ofStem P glyph (v_X6_ahead P glyph place) 0) → (((v_X6_of P glyph 1) = 6 → (Po (-1000003) P)) ∧ (¬ (v_X6_of P glyph 1) = 6 → (p_X6_changes P ∧ (p_X6_of (m_X6_changes P) glyph 1 ∧ (p_X6_at glyph (v_X6_of (m_X6_changes P) glyph 1) 0 ∧ (B144 (v_X6_ahead P glyph place) ((v_X6_at glyph (v_X6_of (m_X6_changes P) glyph 1) 0) - 1) (m_X6_changes P)))))))) ∧ (¬ (place + width) ≤ (v_X6_ofStem P glyph (v_X6_ahead P glyph place) 0) → (Po (-1000002) P))))))))) ∧ (¬ (v_X6_ahead P glyph place) = 0 → (hIn ((v_X6_ahead P glyph place) - 1) ∧ (p_X6_endOf P glyph ((v_X6_ahead P glyph place) - 1) ∧ (((v_X6_endOf P glyph ((v_X6_ahead P glyph place) - 1)) ≤ place → (p_X6_of P glyph 1 ∧ (((v_X6_ahead P glyph place) = (v_X6_of P glyph 1) → (((v_X6_of P glyph 1) = 6 → (Po (-1000003) P)) ∧ (¬ (v_X6_of P glyph 1) = 6 → (p_X6_changes P ∧ (p_X6_of (m_X6_changes P) glyph 1 ∧ (p_X6_at glyph (v_X6_of (m_X6_changes P) glyph 1) 0 ∧ (B144 (v_X6_ahead P glyph place) ((v_X6_at glyph (v_X6_of (m_X6_changes P) glyph 1) 0) - 1) (m_X6_changes P)))))))) ∧ (¬ (v_X6_ahead P glyph place) = (v_X6_of P glyph 1) → (p_X6_ofStem P glyph (v_X6_ahead P glyph place) 0 ∧ (hIn (place + width) ∧ (((place + width) ≤ (v_X6_ofStem P glyph (v_X6_ahead P glyph place) 0) → (((v_X6_of P glyph 1) = 6 → (Po (-1000003) P)) ∧ (¬ (v_X6_of P glyph 1) = 6 → (p_X6_changes P ∧ (p_X6_of (m_X6_changes P) glyph 1 ∧ (p_X6_at glyph (v_X6_of (m_X6_changes P) glyph 1) 0 ∧ (B144 (v_X6_ahead P glyph place) ((v_X6_at glyph (v_X6_of (m_X6_changes P) glyph 1) 0) - 1) (m_X6_changes P)))))))) ∧ (¬ (place + width) ≤ (v_X6_ofStem P glyph (v_X6_ahead P glyph place) 0) → (Po (-1000002) P))))))))) ∧ (¬ (v_X6_endOf P glyph ((v_X6_ahead P glyph place) - 1)) ≤ place → (p_X6_of P glyph 1 ∧ (((v_X6_ahead P glyph place) = (v_X6_of P glyph 1) → (Po (-1000002) P)) ∧ (¬ (v_X6_ahead P glyph place) = (v_X6_of P glyph 1) → (p_X6_ofStem P glyph (v_X6_ahead P glyph place) 0 ∧ (hIn (place + width) ∧ (((place + width) ≤ (v_X6_ofStem P glyph (v_X6_ahead P glyph place) 0) → (Po (-1000002) P)) ∧ (¬ (place + width) ≤ (v_X6_ofStem P glyph (v_X6_ahead P glyph place) 0) → (Po (-1000002) P))))))))))))))))))))) := by
  sorry
-- WANTING: X6_cut over (P : hGM) (glyph : Int) (stem : Int)
def p_X6_cut (P : hGM) (glyph : Int) (stem : Int) : Prop := True
def v_X6_cut (P : hGM) (glyph : Int) (stem : Int) : Int := 0
def m_X6_cut (P : hGM) (glyph : Int) (stem : Int) : hGM := P
set_option maxHeartbeats 4000000 in
theorem x_X6_cut (P : hGM) (glyph : Int) (stem : Int) (h_glyph : hIn glyph) (h_stem : hIn stem) (hRP : ∀ (i : Nat) (k : Int), i < 100 → hIn (P i k)) (hp : p_X6_cut P glyph stem) (B41 : Int → hGM → Prop) (Po : Int → hGM → Prop) 
  (r41 : ∀ (y3 : Int) (P1 : hGM), hIn y3 → ((∀ (i : Nat) (k : Int), i < 100 → hIn (P1 i k)) → (p_X6_of P1 glyph 1 ∧ (p_X6_at glyph (v_X6_of P1 glyph 1) 0 ∧ ((y3 < (v_X6_at glyph (v_X6_of P1 glyph 1) 0) → ((0 ≤ (y3 + 3) ∧ (y3 + 3) < 273) ∧ ((0 ≤ y3 ∧ y3 < 273) ∧ (B41 (y3 + 1) (aset P1 1 y3 (P1 1 (y3 + 3))))))) ∧ (¬ y3 < (v_X6_at glyph (v_X6_of P1 glyph 1) 0) → (Po (v_X6_of P1 glyph 1) P1)))))) → (B41 y3 P1)) 
  (hpost : Po (v_X6_cut P glyph stem) (m_X6_cut P glyph stem)) : (p_X6_isStem P glyph stem ∧ (((v_X6_isStem P glyph stem) = 0 → (Po (-1000001) P)) ∧ (¬ (v_X6_isStem P glyph stem) = 0 → (p_X6_changes P ∧ ((0 ≤ ((9 + (20 * glyph)) + 1) ∧ ((9 + (20 * glyph)) + 1) < 273) ∧ (hIn (((m_X6_changes P) 1 ((9 + (20 * glyph)) + 1)) - 1) ∧ (p_X6_at glyph stem 0 ∧ (B41 (v_X6_at glyph stem 0) (aset (m_X6_changes P) 1 ((9 + (20 * glyph)) + 1) (((m_X6_changes P) 1 ((9 + (20 * glyph)) + 1)) - 1)))))))))) := by
  sorry
def p_X6_hint (P : hGM) (glyph : Int) (stem : Int) (hint : Int) : Prop := (p_X6_isStem P glyph stem ∧ (((v_X6_isStem P glyph stem) = 0 → True) ∧ (¬ (v_X6_isStem P glyph stem) = 0 → (((v_X6_in hint 0 3) = 0 → True) ∧ (¬ (v_X6_in hint 0 3) = 0 → (p_X6_changes P ∧ (p_X6_ofStem (m_X6_changes P) glyph stem 2 ∧ (p_X6_at glyph stem 2 ∧ ((0 ≤ (v_X6_at glyph stem 2) ∧ (v_X6_at glyph stem 2) < 273) ∧ True)))))))))
def v_X6_hint (P : hGM) (glyph : Int) (stem : Int) (hint : Int) : Int := (if (v_X6_isStem P glyph stem) = 0 then (-1000001) else (if (v_X6_in hint 0 3) = 0 then (-1000001) else (v_X6_ofStem (m_X6_changes P) glyph stem 2)))
def m_X6_hint (P : hGM) (glyph : Int) (stem : Int) (hint : Int) : hGM := (if (v_X6_isStem P glyph stem) = 0 then P else (if (v_X6_in hint 0 3) = 0 then P else (aset (m_X6_changes P) 1 (v_X6_at glyph stem 2) hint)))
-- WANTING: X6_wideAt over (P : hGM) (width : Int)
def p_X6_wideAt (P : hGM) (width : Int) : Prop := True
def v_X6_wideAt (P : hGM) (width : Int) : Int := 0
set_option maxHeartbeats 4000000 in
theorem x_X6_wideAt (P : hGM) (width : Int) (h_width : hIn width) (hRP : ∀ (i : Nat) (k : Int), i < 100 → hIn (P i k)) (hp : p_X6_wideAt P width) (B2 : Int → Prop) (Po : Int → Prop) 
  (r2 : ∀ (y2 : Int), hIn y2 → (((y2 < (P 1 1) → ((0 ≤ (2 + y2) ∧ (2 + y2) < 273) ∧ (((P 1 (2 + y2)) = width → (Po y2)) ∧ (¬ (P 1 (2 + y2)) = width → (B2 (y2 + 1)))))) ∧ (¬ y2 < (P 1 1) → (Po (-1000004))))) → (B2 y2)) 
  (hpost : Po (v_X6_wideAt P width)) : (B2 0) := by
  sorry
def p_X6_size (v1 : Int) : Prop := ((v1 < 0 → (hIn (-v1) ∧ True)) ∧ (¬ v1 < 0 → True))
def v_X6_size (v1 : Int) : Int := (if v1 < 0 then (-v1) else v1)
-- WANTING: X6_snaps over (P : hGM) (width : Int)
def p_X6_snaps (P : hGM) (width : Int) : Prop := True
def v_X6_snaps (P : hGM) (width : Int) : Int := 0
set_option maxHeartbeats 4000000 in
theorem x_X6_snaps (P : hGM) (width : Int) (h_width : hIn width) (hRP : ∀ (i : Nat) (k : Int), i < 100 → hIn (P i k)) (hp : p_X6_snaps P width) (B13 : Int → Int → Int → Prop) (Po : Int → Prop) 
  (r13 : ∀ (y2 : Int) (y3 : Int) (y4 : Int), hIn y2 → hIn y3 → hIn y4 → (((y4 < (P 1 1) → ((0 ≤ (2 + y4) ∧ (2 + y4) < 273) ∧ (hIn ((P 1 (2 + y4)) - width) ∧ (p_X6_size ((P 1 (2 + y4)) - width) ∧ ((y2 < 0 → (((v_X6_size ((P 1 (2 + y4)) - width)) ≤ y3 → (B13 (P 1 (2 + y4)) (v_X6_size ((P 1 (2 + y4)) - width)) (y4 + 1))) ∧ (¬ (v_X6_size ((P 1 (2 + y4)) - width)) ≤ y3 → (B13 y2 y3 (y4 + 1))))) ∧ (¬ y2 < 0 → (((v_X6_size ((P 1 (2 + y4)) - width)) < y3 → (B13 (P 1 (2 + y4)) (v_X6_size ((P 1 (2 + y4)) - width)) (y4 + 1))) ∧ (¬ (v_X6_size ((P 1 (2 + y4)) - width)) < y3 → (B13 y2 y3 (y4 + 1)))))))))) ∧ (¬ y4 < (P 1 1) → (Po y2)))) → (B13 y2 y3 y4)) 
  (hpost : Po (v_X6_snaps P width)) : (B13 (-1000004) (P 1 5) 0) := by
  sorry
def p_X6_hinted (P : hGM) (glyph : Int) (stem : Int) : Prop := (p_X6_ofStem P glyph stem 1 ∧ (p_X6_snaps P (v_X6_ofStem P glyph stem 1) ∧ (((v_X6_snaps P (v_X6_ofStem P glyph stem 1)) < 0 → True) ∧ (¬ (v_X6_snaps P (v_X6_ofStem P glyph stem 1)) < 0 → True))))
def v_X6_hinted (P : hGM) (glyph : Int) (stem : Int) : Int := (if (v_X6_snaps P (v_X6_ofStem P glyph stem 1)) < 0 then (v_X6_ofStem P glyph stem 1) else (v_X6_snaps P (v_X6_ofStem P glyph stem 1)))
-- WANTING: X6_standard over (P : hGM) (width : Int)
def p_X6_standard (P : hGM) (width : Int) : Prop := True
def v_X6_standard (P : hGM) (width : Int) : Int := 0
def m_X6_standard (P : hGM) (width : Int) : hGM := P
set_option maxHeartbeats 4000000 in
theorem x_X6_standard (P : hGM) (width : Int) (h_width : hIn width) (hRP : ∀ (i : Nat) (k : Int), i < 100 → hIn (P i k)) (hp : p_X6_standard P width) (B49 : Int → hGM → Prop) (B115 : Int → Int → hGM → Prop) (B129 : Int → Int → Int → hGM → Prop) (Po : Int → hGM → Prop) 
  (r49 : ∀ (y2 : Int) (P1 : hGM), hIn y2 → ((∀ (i : Nat) (k : Int), i < 100 → hIn (P1 i k)) → ((y2 ≤ 0 → ((0 ≤ (2 + y2) ∧ (2 + y2) < 273) ∧ (hIn (((aset P1 1 (2 + y2) width) 1 1) + 1) ∧ (B115 0 0 (aset (aset P1 1 (2 + y2) width) 1 1 (((aset P1 1 (2 + y2) width) 1 1) + 1)))))) ∧ (¬ y2 ≤ 0 → ((0 ≤ ((2 + y2) - 1) ∧ ((2 + y2) - 1) < 273) ∧ (((P1 1 ((2 + y2) - 1)) ≤ width → ((0 ≤ (2 + y2) ∧ (2 + y2) < 273) ∧ (hIn (((aset P1 1 (2 + y2) width) 1 1) + 1) ∧ (B115 0 0 (aset (aset P1 1 (2 + y2) width) 1 1 (((aset P1 1 (2 + y2) width) 1 1) + 1)))))) ∧ (¬ (P1 1 ((2 + y2) - 1)) ≤ width → ((0 ≤ (2 + y2) ∧ (2 + y2) < 273) ∧ (B49 (y2 + (-1)) (aset P1 1 (2 + y2) (P1 1 ((2 + y2) - 1))))))))))) → (B49 y2 P1)) 
  (r115 : ∀ (y3 : Int) (y4 : Int) (P1 : hGM), hIn y3 → hIn y4 → ((∀ (i : Nat) (k : Int), i < 100 → hIn (P1 i k)) → ((y4 < (P1 1 0) → (B129 y3 y4 0 P1)) ∧ (¬ y4 < (P1 1 0) → (Po y3 P1)))) → (B115 y3 y4 P1)) 
  (r129 : ∀ (y3 : Int) (y4 : Int) (y5 : Int) (P1 : hGM), hIn y3 → hIn y4 → hIn y5 → ((∀ (i : Nat) (k : Int), i < 100 → hIn (P1 i k)) → (p_X6_of P1 y4 1 ∧ ((y5 < (v_X6_of P1 y4 1) → (p_X6_ofStem P1 y4 y5 1 ∧ (p_X6_snaps P1 (v_X6_ofStem P1 y4 y5 1) ∧ (((v_X6_snaps P1 (v_X6_ofStem P1 y4 y5 1)) = width → (B129 (y3 + 1) y4 (y5 + 1) P1)) ∧ (¬ (v_X6_snaps P1 (v_X6_ofStem P1 y4 y5 1)) = width → (B129 (y3 + 0) y4 (y5 + 1) P1)))))) ∧ (¬ y5 < (v_X6_of P1 y4 1) → (B115 y3 (y4 + 1) P1))))) → (B129 y3 y4 y5 P1)) 
  (hpost : Po (v_X6_standard P width) (m_X6_standard P width)) : (((v_X6_in width 1 300) = 0 → (Po (-1000001) P)) ∧ (¬ (v_X6_in width 1 300) = 0 → (p_X6_wideAt P width ∧ (((v_X6_wideAt P width) < 0 → (((P 1 1) = 3 → (Po (-1000003) P)) ∧ (¬ (P 1 1) = 3 → (p_X6_changes P ∧ (B49 ((m_X6_changes P) 1 1) (m_X6_changes P)))))) ∧ (¬ (v_X6_wideAt P width) < 0 → (Po (-1000002) P)))))) := by
  sorry
-- WANTING: X6_drop over (P : hGM) (width : Int)
def p_X6_drop (P : hGM) (width : Int) : Prop := True
def v_X6_drop (P : hGM) (width : Int) : Int := 0
def m_X6_drop (P : hGM) (width : Int) : hGM := P
set_option maxHeartbeats 4000000 in
theorem x_X6_drop (P : hGM) (width : Int) (h_width : hIn width) (hRP : ∀ (i : Nat) (k : Int), i < 100 → hIn (P i k)) (hp : p_X6_drop P width) (B43 : Int → hGM → Prop) (Po : Int → hGM → Prop) 
  (r43 : ∀ (y3 : Int) (P1 : hGM), hIn y3 → ((∀ (i : Nat) (k : Int), i < 100 → hIn (P1 i k)) → ((y3 < (P1 1 1) → ((0 ≤ ((2 + y3) + 1) ∧ ((2 + y3) + 1) < 273) ∧ ((0 ≤ (2 + y3) ∧ (2 + y3) < 273) ∧ (B43 (y3 + 1) (aset P1 1 (2 + y3) (P1 1 ((2 + y3) + 1))))))) ∧ (¬ y3 < (P1 1 1) → (Po (P1 1 1) P1)))) → (B43 y3 P1)) 
  (hpost : Po (v_X6_drop P width) (m_X6_drop P width)) : (((v_X6_in width 1 300) = 0 → (Po (-1000001) P)) ∧ (¬ (v_X6_in width 1 300) = 0 → (p_X6_wideAt P width ∧ (((v_X6_wideAt P width) < 0 → (Po (-1000002) P)) ∧ (¬ (v_X6_wideAt P width) < 0 → (p_X6_changes P ∧ (hIn (((m_X6_changes P) 1 1) - 1) ∧ (B43 (v_X6_wideAt P width) (aset (m_X6_changes P) 1 1 (((m_X6_changes P) 1 1) - 1)))))))))) := by
  sorry

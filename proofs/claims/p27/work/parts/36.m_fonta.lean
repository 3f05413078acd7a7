def p_X1_copy (A : hGM) (B : hGM) : Prop := (p_X5_copyRow (aset (aset (aset (aset A 0 0 (B 0 0)) 0 1 (B 0 1)) 0 2 (B 0 2)) 0 3 (B 0 3)) B 1 8 1 8 ∧ (p_X5_copyRow (m_X5_copyRow (aset (aset (aset (aset A 0 0 (B 0 0)) 0 1 (B 0 1)) 0 2 (B 0 2)) 0 3 (B 0 3)) B 1 8 1 8) B 2 8 2 8 ∧ (p_X5_copyRow (m_X5_copyRow (m_X5_copyRow (aset (aset (aset (aset A 0 0 (B 0 0)) 0 1 (B 0 1)) 0 2 (B 0 2)) 0 3 (B 0 3)) B 1 8 1 8) B 2 8 2 8) B 3 48 3 48 ∧ (p_X5_copyRow (m_X5_copyRow (m_X5_copyRow (m_X5_copyRow (aset (aset (aset (aset A 0 0 (B 0 0)) 0 1 (B 0 1)) 0 2 (B 0 2)) 0 3 (B 0 3)) B 1 8 1 8) B 2 8 2 8) B 3 48 3 48) B 4 48 4 48 ∧ (p_X5_copyRow (m_X5_copyRow (m_X5_copyRow (m_X5_copyRow (m_X5_copyRow (aset (aset (aset (aset A 0 0 (B 0 0)) 0 1 (B 0 1)) 0 2 (B 0 2)) 0 3 (B 0 3)) B 1 8 1 8) B 2 8 2 8) B 3 48 3 48) B 4 48 4 48) B 5 48 5 48 ∧ (p_X5_copyRow (m_X5_copyRow (m_X5_copyRow (m_X5_copyRow (m_X5_copyRow (m_X5_copyRow (aset (aset (aset (aset A 0 0 (B 0 0)) 0 1 (B 0 1)) 0 2 (B 0 2)) 0 3 (B 0 3)) B 1 8 1 8) B 2 8 2 8) B 3 48 3 48) B 4 48 4 48) B 5 48 5 48) B 6 3 6 3 ∧ (p_X4_copy (m_X5_copyRow (m_X5_copyRow (m_X5_copyRow (m_X5_copyRow (m_X5_copyRow (m_X5_copyRow (aset (aset (aset (aset A 0 0 (B 0 0)) 0 1 (B 0 1)) 0 2 (B 0 2)) 0 3 (B 0 3)) B 1 8 1 8) B 2 8 2 8) B 3 48 3 48) B 4 48 4 48) B 5 48 5 48) B 6 3 6 3) B ∧ True)))))))
def m_X1_copy (A : hGM) (B : hGM) : hGM := (m_X4_copy (m_X5_copyRow (m_X5_copyRow (m_X5_copyRow (m_X5_copyRow (m_X5_copyRow (m_X5_copyRow (aset (aset (aset (aset A 0 0 (B 0 0)) 0 1 (B 0 1)) 0 2 (B 0 2)) 0 3 (B 0 3)) B 1 8 1 8) B 2 8 2 8) B 3 48 3 48) B 4 48 4 48) B 5 48 5 48) B 6 3 6 3) B)
-- AFTER
theorem copy_p (A B : hGM) : p_X1_copy A B := by
  unfold p_X1_copy
  exact ⟨trivial, trivial, trivial, trivial, trivial, trivial, trivial, trivial⟩
theorem cp4 (A B : hGM) (k : Int) (h : k = 0 ∨ k = 1 ∨ k = 2 ∨ k = 3) : aset (aset (aset (aset A 0 0 (B 0 0)) 0 1 (B 0 1)) 0 2 (B 0 2)) 0 3 (B 0 3) 0 k = B 0 k := by
  rcases h with rfl | rfl | rfl | rfl <;> rfl
theorem cpRow_at {A B : hGM} {i1 n1 i2 n2 : Nat} {k : Int} (h0 : 0 ≤ k) (h1 : k < n1) (h2 : k < n2) : m_X5_copyRow A B i1 n1 i2 n2 i2 k = B i1 k := by
  unfold m_X5_copyRow
  exact cpR_in h0 (by omega)
theorem cpRow_row {A B : hGM} {i1 n1 i2 n2 i : Nat} (h : i ≠ i2) : m_X5_copyRow A B i1 n1 i2 n2 i = A i := by
  unfold m_X5_copyRow
  exact cpR_row h
theorem copy4_row (A B : hGM) {i : Nat} (h : i < 7) : m_X4_copy A B i = A i := by
  unfold m_X4_copy c_X4_copy
  rw [cpR_row (by omega), cpRow_row (by omega), cpRow_row (by omega), cpRow_row (by omega), cpRow_row (by omega), aset_row (by omega)]
theorem copy_0 (A B : hGM) (k : Int) (h : k = 0 ∨ k = 1 ∨ k = 2 ∨ k = 3) : m_X1_copy A B 0 k = B 0 k := by
  unfold m_X1_copy
  rw [copy4_row _ _ (by decide), cpRow_row (by decide), cpRow_row (by decide), cpRow_row (by decide), cpRow_row (by decide), cpRow_row (by decide), cpRow_row (by decide), cp4 A B k h]
theorem copy_1 (A B : hGM) {k : Int} (h0 : 0 ≤ k) (h1 : k < 8) : m_X1_copy A B 1 k = B 1 k := by
  unfold m_X1_copy
  rw [copy4_row _ _ (by decide), cpRow_row (by decide), cpRow_row (by decide), cpRow_row (by decide), cpRow_row (by decide), cpRow_row (by decide)]
  exact cpRow_at h0 h1 h1
theorem copy_2 (A B : hGM) {k : Int} (h0 : 0 ≤ k) (h1 : k < 8) : m_X1_copy A B 2 k = B 2 k := by
  unfold m_X1_copy
  rw [copy4_row _ _ (by decide), cpRow_row (by decide), cpRow_row (by decide), cpRow_row (by decide), cpRow_row (by decide)]
  exact cpRow_at h0 h1 h1
theorem copy_3 (A B : hGM) {k : Int} (h0 : 0 ≤ k) (h1 : k < 48) : m_X1_copy A B 3 k = B 3 k := by
  unfold m_X1_copy
  rw [copy4_row _ _ (by decide), cpRow_row (by decide), cpRow_row (by decide), cpRow_row (by decide)]
  exact cpRow_at h0 h1 h1
theorem copy_4 (A B : hGM) {k : Int} (h0 : 0 ≤ k) (h1 : k < 48) : m_X1_copy A B 4 k = B 4 k := by
  unfold m_X1_copy
  rw [copy4_row _ _ (by decide), cpRow_row (by decide), cpRow_row (by decide)]
  exact cpRow_at h0 h1 h1
theorem copy_5 (A B : hGM) {k : Int} (h0 : 0 ≤ k) (h1 : k < 48) : m_X1_copy A B 5 k = B 5 k := by
  unfold m_X1_copy
  rw [copy4_row _ _ (by decide), cpRow_row (by decide)]
  exact cpRow_at h0 h1 h1
theorem copy_6 (A B : hGM) {k : Int} (h0 : 0 ≤ k) (h1 : k < 3) : m_X1_copy A B 6 k = B 6 k := by
  unfold m_X1_copy
  rw [copy4_row _ _ (by decide)]
  exact cpRow_at h0 h1 h1
theorem copy_7 (A B : hGM) : m_X1_copy A B 7 0 = B 7 0 := by
  unfold m_X1_copy m_X4_copy c_X4_copy
  rw [cpR_row (by decide), cpRow_row (by decide), cpRow_row (by decide), cpRow_row (by decide), cpRow_row (by decide), aset_at]
theorem copy_8 (A B : hGM) {k : Int} (h0 : 0 ≤ k) (h1 : k < 4) : m_X1_copy A B 8 k = B 8 k := by
  unfold m_X1_copy m_X4_copy c_X4_copy
  rw [cpR_row (by decide), cpRow_row (by decide), cpRow_row (by decide), cpRow_row (by decide)]
  exact cpRow_at h0 h1 h1
theorem copy_9 (A B : hGM) {k : Int} (h0 : 0 ≤ k) (h1 : k < 4) : m_X1_copy A B 9 k = B 9 k := by
  unfold m_X1_copy m_X4_copy c_X4_copy
  rw [cpR_row (by decide), cpRow_row (by decide), cpRow_row (by decide)]
  exact cpRow_at h0 h1 h1
theorem copy_10 (A B : hGM) {k : Int} (h0 : 0 ≤ k) (h1 : k < 4) : m_X1_copy A B 10 k = B 10 k := by
  unfold m_X1_copy m_X4_copy c_X4_copy
  rw [cpR_row (by decide), cpRow_row (by decide)]
  exact cpRow_at h0 h1 h1
theorem copy_11 (A B : hGM) {k : Int} (h0 : 0 ≤ k) (h1 : k < 32) : m_X1_copy A B 11 k = B 11 k := by
  unfold m_X1_copy m_X4_copy c_X4_copy
  rw [cpR_row (by decide)]
  exact cpRow_at h0 h1 h1
theorem copy_112 (A B : hGM) {k : Int} (h0 : 0 ≤ k) (h1 : k < 32) : m_X1_copy A B 112 k = B 112 k := by
  unfold m_X1_copy m_X4_copy
  exact cpR_in h0 h1
theorem copy_num {A B : hGM} (h : fNum B) : fNum (m_X1_copy A B) := by
  obtain ⟨n0, n1, n2, n3, n4, n5, n6⟩ := h
  refine ⟨?_, ?_, ?_, ?_, fun k h0 h1 => ?_, fun k h0 h1 => ?_, fun k h0 h1 => ?_⟩
  · rw [copy_0 A B 0 (by decide)]; exact n0
  · rw [copy_0 A B 1 (by decide)]; exact n1
  · rw [copy_0 A B 2 (by decide)]; exact n2
  · rw [copy_0 A B 3 (by decide)]; exact n3
  · rw [copy_6 A B h0 h1]; exact n4 k h0 h1
  · rw [copy_3 A B h0 h1, copy_4 A B h0 h1, copy_5 A B h0 h1]; exact n5 k h0 h1
  · rw [copy_1 A B h0 h1, copy_2 A B h0 h1]; exact n6 k h0 h1
def p_X1_hasGlyph (A : hGM) (glyph : Int) : Prop := (hIn ((A 0 0) - 1) ∧ True)
def v_X1_hasGlyph (A : hGM) (glyph : Int) : Int := (v_X5_within glyph 0 ((A 0 0) - 1))
theorem z_X1_hasGlyph (A : hGM) (glyph : Int) : v_X1_hasGlyph A glyph = 0 ∨ v_X1_hasGlyph A glyph = 1 := by
  unfold v_X1_hasGlyph
  (repeat' split) <;> first | exact Or.inl rfl | exact Or.inr rfl | exact z_X5_within _ _ _
def p_X1_hasStem (A : hGM) (glyph : Int) (stem : Int) : Prop := (p_X1_hasGlyph A glyph ∧ (((v_X1_hasGlyph A glyph) = 0 → True) ∧ (¬ (v_X1_hasGlyph A glyph) = 0 → (hIn ((v_X5_cell A 2 8 glyph) - 1) ∧ (((v_X5_within stem 0 ((v_X5_cell A 2 8 glyph) - 1)) = 0 → True) ∧ (¬ (v_X5_within stem 0 ((v_X5_cell A 2 8 glyph) - 1)) = 0 → True))))))
def v_X1_hasStem (A : hGM) (glyph : Int) (stem : Int) : Int := (if (v_X1_hasGlyph A glyph) = 0 then 0 else (if (v_X5_within stem 0 ((v_X5_cell A 2 8 glyph) - 1)) = 0 then 0 else 1))
theorem z_X1_hasStem (A : hGM) (glyph : Int) (stem : Int) : v_X1_hasStem A glyph stem = 0 ∨ v_X1_hasStem A glyph stem = 1 := by
  unfold v_X1_hasStem
  (repeat' split) <;> first | exact Or.inl rfl | exact Or.inr rfl | exact z_X1_hasGlyph _ _ | exact z_X5_within _ _ _
def p_X1_endOf (A : hGM) (at1 : Int) : Prop := (hIn ((v_X5_cell A 3 48 at1) + (v_X5_cell A 4 48 at1)) ∧ True)
def v_X1_endOf (A : hGM) (at1 : Int) : Int := ((v_X5_cell A 3 48 at1) + (v_X5_cell A 4 48 at1))
def p_X1_addGlyph (A : hGM) (advance : Int) : Prop := (((v_X5_within advance 100 1500) = 0 → True) ∧ (¬ (v_X5_within advance 100 1500) = 0 → (((A 0 0) < 8 → (hIn (((m_X5_put A 1 8 (A 0 0) advance) 0 0) + 1) ∧ True)) ∧ (¬ (A 0 0) < 8 → True))))
def v_X1_addGlyph (A : hGM) (advance : Int) : Int := (if (v_X5_within advance 100 1500) = 0 then (-1000001) else (if (A 0 0) < 8 then (A 0 0) else (-1000003)))
def m_X1_addGlyph (A : hGM) (advance : Int) : hGM := (if (v_X5_within advance 100 1500) = 0 then A else (if (A 0 0) < 8 then (aset (m_X5_put A 1 8 (A 0 0) advance) 0 0 (((m_X5_put A 1 8 (A 0 0) advance) 0 0) + 1)) else A))
def m_X1_putStem (A : hGM) (at1 : Int) (place : Int) (width : Int) (hint : Int) : hGM := (m_X5_put (m_X5_put (m_X5_put A 3 48 at1 place) 4 48 at1 width) 5 48 at1 hint)
def m_X1_moveStem (A : hGM) (from1 : Int) (to1 : Int) : hGM := (m_X1_putStem A to1 (v_X5_cell A 3 48 from1) (v_X5_cell A 4 48 from1) (v_X5_cell A 5 48 from1))
-- AFTER
/-- a stem's three numbers are put -/
def put3 (A : hGM) (n p w h : Int) : hGM := fun i q => if q = n then (if i = 3 then p else if i = 4 then w else if i = 5 then h else A i q) else A i q
theorem putStem_eq {A : hGM} {n p w h : Int} (h0 : 0 ≤ n) (h1 : n < 48) : m_X1_putStem A n p w h = put3 A n p w h := by
  unfold m_X1_putStem
  rw [put_in h0 h1, put_in h0 h1, put_in h0 h1]
  funext i q
  unfold put3 aset
  by_cases hq : q = n
  · subst hq
    by_cases h3 : i = 3 <;> by_cases h4 : i = 4 <;> by_cases h5 : i = 5 <;> simp_all
  · simp [hq]
theorem moveStem_eq {A : hGM} {f t : Int} (f0 : 0 ≤ f) (f1 : f < 48) (h0 : 0 ≤ t) (h1 : t < 48) : m_X1_moveStem A f t = put3 A t (A 3 f) (A 4 f) (A 5 f) := by
  unfold m_X1_moveStem
  rw [putStem_eq h0 h1, cell_in f0 f1, cell_in f0 f1, cell_in f0 f1]
/-- the stems at the places above a, up to b, are those one place below -/
def shR (A : hGM) (a b : Int) : hGM := fun i q => if (i = 3 ∨ i = 4 ∨ i = 5) ∧ a < q ∧ q ≤ b then A i (q - 1) else A i q
/-- the stems at the places from a on, below b, are those one place above -/
def shL (A : hGM) (a b : Int) : hGM := fun i q => if (i = 3 ∨ i = 4 ∨ i = 5) ∧ a ≤ q ∧ q < b then A i (q + 1) else A i q
theorem shR_step {A : hGM} {a b : Int} (h : a ≤ b) : put3 (shR A a b) a (shR A a b 3 (a - 1)) (shR A a b 4 (a - 1)) (shR A a b 5 (a - 1)) = shR A (a - 1) b := by
  funext i q
  unfold put3 shR
  by_cases hq : q = a
  · subst hq
    by_cases h3 : i = 3
    · subst h3
      rw [if_pos rfl, if_pos rfl, if_neg (by omega), if_pos ⟨Or.inl rfl, by omega, h⟩]
    · by_cases h4 : i = 4
      · subst h4
        rw [if_pos rfl, if_neg h3, if_pos rfl, if_neg (by omega), if_pos ⟨Or.inr (Or.inl rfl), by omega, h⟩]
      · by_cases h5 : i = 5
        · subst h5
          rw [if_pos rfl, if_neg h3, if_neg h4, if_pos rfl, if_neg (by omega), if_pos ⟨Or.inr (Or.inr rfl), by omega, h⟩]
        · rw [if_pos rfl, if_neg h3, if_neg h4, if_neg h5, if_neg (by omega), if_neg (by omega)]
  · rw [if_neg hq]
    by_cases hc : (i = 3 ∨ i = 4 ∨ i = 5) ∧ a < q ∧ q ≤ b
    · rw [if_pos hc, if_pos ⟨hc.1, by omega, hc.2.2⟩]
    · rw [if_neg hc, if_neg (fun z => hc ⟨z.1, by omega, z.2.2⟩)]
theorem shL_step {A : hGM} {a b : Int} (h : a ≤ b) : put3 (shL A a b) b (shL A a b 3 (b + 1)) (shL A a b 4 (b + 1)) (shL A a b 5 (b + 1)) = shL A a (b + 1) := by
  funext i q
  unfold put3 shL
  by_cases hq : q = b
  · subst hq
    by_cases h3 : i = 3
    · subst h3
      rw [if_pos rfl, if_pos rfl, if_neg (by omega), if_pos ⟨Or.inl rfl, h, by omega⟩]
    · by_cases h4 : i = 4
      · subst h4
        rw [if_pos rfl, if_neg h3, if_pos rfl, if_neg (by omega), if_pos ⟨Or.inr (Or.inl rfl), h, by omega⟩]
      · by_cases h5 : i = 5
        · subst h5
          rw [if_pos rfl, if_neg h3, if_neg h4, if_pos rfl, if_neg (by omega), if_pos ⟨Or.inr (Or.inr rfl), h, by omega⟩]
        · rw [if_pos rfl, if_neg h3, if_neg h4, if_neg h5, if_neg (by omega), if_neg (by omega)]
  · rw [if_neg hq]
    by_cases hc : (i = 3 ∨ i = 4 ∨ i = 5) ∧ a ≤ q ∧ q < b
    · rw [if_pos hc, if_pos ⟨hc.1, hc.2.1, by omega⟩]
    · rw [if_neg hc, if_neg (fun z => hc ⟨z.1, z.2.1, by omega⟩)]
theorem shR_0 (A : hGM) (a : Int) : shR A a a = A := by
  funext i q; unfold shR; rw [if_neg (by omega)]
theorem shL_0 (A : hGM) (a : Int) : shL A a a = A := by
  funext i q; unfold shL; rw [if_neg (by omega)]
def p_X1_addStem (A : hGM) (glyph : Int) (place : Int) (width : Int) : Prop := fNum A
/-- the first stem that a new one would overlap -/
def ovAt (A : hGM) (glyph place width : Int) : Int := firstN (fun k => decide (place < A 3 (glyph * 6 + k) + A 4 (glyph * 6 + k) ∧ A 3 (glyph * 6 + k) < place + width)) (A 2 glyph).toNat
/-- how many stems lie to the left of a place -/
def lfN (A : hGM) (glyph place : Int) (n : Nat) : Int := sumN (fun k => if A 3 (glyph * 6 + k) < place then 1 else 0) n
def v_X1_addStem (A : hGM) (glyph : Int) (place : Int) (width : Int) : Int := if v_X1_hasGlyph A glyph = 0 ∨ v_X5_within place 0 999 = 0 ∨ v_X5_within width 1 300 = 0 then -1000001 else if ¬ ovAt A glyph place width = -1 then -1000002 else if A 2 glyph < 6 then lfN A glyph place (A 2 glyph).toNat else -1000003
def m_X1_addStem (A : hGM) (glyph : Int) (place : Int) (width : Int) : hGM := if v_X1_hasGlyph A glyph = 0 ∨ v_X5_within place 0 999 = 0 ∨ v_X5_within width 1 300 = 0 then A else if ¬ ovAt A glyph place width = -1 then A else if A 2 glyph < 6 then aset (put3 (shR A (glyph * 6 + lfN A glyph place (A 2 glyph).toNat) (glyph * 6 + A 2 glyph)) (glyph * 6 + lfN A glyph place (A 2 glyph).toNat) place width 0) 2 glyph (A 2 glyph + 1) else A
set_option maxHeartbeats 4000000 in
theorem x_X1_addStem (A : hGM) (glyph : Int) (place : Int) (width : Int) (h_glyph : hIn glyph) (h_place : hIn place) (h_width : hIn width) (hRA : ∀ (i : Nat) (k : Int), i < 100 → hIn (A i k)) (hp : p_X1_addStem A glyph place width) (B55 : Int → Int → Int → Int → hGM → Prop) (B129 : Int → Int → Int → Int → hGM → Prop) (Po : Int → hGM → Prop) 
  (r55 : ∀ (y4 : Int) (y5 : Int) (y6 : Int) (y7 : Int) (A1 : hGM), hIn y4 → hIn y5 → hIn y6 → hIn y7 → ((∀ (i : Nat) (k : Int), i < 100 → hIn (A1 i k)) → ((y7 < y5 → (hIn (y4 + y7) ∧ (p_X1_endOf A1 (y4 + y7) ∧ ((place < (v_X1_endOf A1 (y4 + y7)) → (hIn (place + width) ∧ (((v_X5_cell A1 3 48 (y4 + y7)) < (place + width) → (Po (-1000002) A1)) ∧ (¬ (v_X5_cell A1 3 48 (y4 + y7)) < (place + width) → (((v_X5_cell A1 3 48 (y4 + y7)) < place → (B55 y4 y5 (y6 + 1) (y7 + 1) A1)) ∧ (¬ (v_X5_cell A1 3 48 (y4 + y7)) < place → (B55 y4 y5 y6 (y7 + 1) A1))))))) ∧ (¬ place < (v_X1_endOf A1 (y4 + y7)) → (((v_X5_cell A1 3 48 (y4 + y7)) < place → (B55 y4 y5 (y6 + 1) (y7 + 1) A1)) ∧ (¬ (v_X5_cell A1 3 48 (y4 + y7)) < place → (B55 y4 y5 y6 (y7 + 1) A1)))))))) ∧ (¬ y7 < y5 → ((y5 < 6 → (B129 y4 y5 y6 y5 A1)) ∧ (¬ y5 < 6 → (Po (-1000003) A1)))))) → (B55 y4 y5 y6 y7 A1)) 
  (r129 : ∀ (y4 : Int) (y5 : Int) (y6 : Int) (y7 : Int) (A1 : hGM), hIn y4 → hIn y5 → hIn y6 → hIn y7 → ((∀ (i : Nat) (k : Int), i < 100 → hIn (A1 i k)) → ((y7 ≤ y6 → (hIn (y4 + y6) ∧ (hIn (y5 + 1) ∧ (Po y6 (m_X5_put (m_X1_putStem A1 (y4 + y6) place width 0) 2 8 glyph (y5 + 1)))))) ∧ (¬ y7 ≤ y6 → (hIn ((y4 + y7) - 1) ∧ (hIn (y4 + y7) ∧ (B129 y4 y5 y6 (y7 + (-1)) (m_X1_moveStem A1 ((y4 + y7) - 1) (y4 + y7)))))))) → (B129 y4 y5 y6 y7 A1)) 
  (hpost : Po (v_X1_addStem A glyph place width) (m_X1_addStem A glyph place width)) : (p_X1_hasGlyph A glyph ∧ (((v_X1_hasGlyph A glyph) = 0 → (Po (-1000001) A)) ∧ (¬ (v_X1_hasGlyph A glyph) = 0 → (((v_X5_within place 0 999) = 0 → (Po (-1000001) A)) ∧ (¬ (v_X5_within place 0 999) = 0 → (((v_X5_within width 1 300) = 0 → (Po (-1000001) A)) ∧ (¬ (v_X5_within width 1 300) = 0 → (B55 (glyph * 6) (v_X5_cell A 2 8 glyph) 0 0 A)))))))) := by
  have hf := hp
  obtain ⟨n0, n1, n2, n3, n4, n5, n6⟩ := hp
  unfold v_X1_addStem m_X1_addStem at hpost
  refine ⟨⟨⟨by omega, by omega⟩, trivial⟩, fun c => ?_, fun c1 => ⟨fun c => ?_, fun c2 => ⟨fun c => ?_, fun c3 => ?_⟩⟩⟩
  · rw [if_pos (Or.inl c), if_pos (Or.inl c)] at hpost; exact hpost
  · rw [if_pos (Or.inr (Or.inl c)), if_pos (Or.inr (Or.inl c))] at hpost; exact hpost
  · rw [if_pos (Or.inr (Or.inr c)), if_pos (Or.inr (Or.inr c))] at hpost; exact hpost
  · have hn : ¬ (v_X1_hasGlyph A glyph = 0 ∨ v_X5_within place 0 999 = 0 ∨ v_X5_within width 1 300 = 0) := by
      intro z; rcases z with z | z | z
      · exact c1 z
      · exact c2 z
      · exact c3 z
    rw [if_neg hn, if_neg hn] at hpost
    have g1 : 0 ≤ glyph ∧ glyph ≤ A 0 0 - 1 := Decidable.not_not.mp (fun z => c1 (within_0.mpr z))
    have g2 : 0 ≤ place ∧ place ≤ 999 := Decidable.not_not.mp (fun z => c2 (within_0.mpr z))
    have g3 : 1 ≤ width ∧ width ≤ 300 := Decidable.not_not.mp (fun z => c3 (within_0.mpr z))
    have g4 := (n6 glyph (by omega) (by omega)).2
    rw [cell_in (by omega) (by omega)]
    have e : (((A 2 glyph).toNat : Nat) : Int) = A 2 glyph := Int.toNat_of_nonneg g4.1
    have bl := fun n : Nat => cnt_bd (fun k => A 3 (glyph * 6 + k) < place) n
    have ce : ∀ k : Int, 0 ≤ k → k < 6 → v_X5_cell A 3 48 (glyph * 6 + k) = A 3 (glyph * 6 + k) ∧ v_X1_endOf A (glyph * 6 + k) = A 3 (glyph * 6 + k) + A 4 (glyph * 6 + k) ∧ p_X1_endOf A (glyph * 6 + k) := by
      intro k h0 h1
      have q := n5 (glyph * 6 + k) (by omega) (by omega)
      have e1 : v_X5_cell A 3 48 (glyph * 6 + k) = A 3 (glyph * 6 + k) := cell_in (by omega) (by omega)
      have e2 : v_X5_cell A 4 48 (glyph * 6 + k) = A 4 (glyph * 6 + k) := cell_in (by omega) (by omega)
      refine ⟨e1, by unfold v_X1_endOf; rw [e1, e2], ?_⟩
      unfold p_X1_endOf
      rw [e1, e2]
      exact ⟨⟨by omega, by omega⟩, trivial⟩
    -- the moves, from the last stem down
    have hmove : ovAt A glyph place width = -1 → A 2 glyph < 6 → B129 (glyph * 6) (A 2 glyph) (lfN A glyph place (A 2 glyph).toNat) (A 2 glyph) A := by
      intro ho hlt
      rw [if_neg (show ¬ ¬ ovAt A glyph place width = -1 from fun z => z ho), if_neg (show ¬ ¬ ovAt A glyph place width = -1 from fun z => z ho), if_pos hlt, if_pos hlt] at hpost
      have bc := bl (A 2 glyph).toNat
      have bc : 0 ≤ lfN A glyph place (A 2 glyph).toNat ∧ lfN A glyph place (A 2 glyph).toNat ≤ ((A 2 glyph).toNat : Nat) := bc
      generalize lfN A glyph place (A 2 glyph).toNat = c at hpost bc ⊢
      have hd : ∀ (d : Nat) (k : Int), k = c + d → k ≤ A 2 glyph → B129 (glyph * 6) (A 2 glyph) c k (shR A (glyph * 6 + k) (glyph * 6 + A 2 glyph)) := by
        intro d
        induction d with
        | zero =>
          intro k hk1 hk2
          have hk : k = c := by omega
          subst hk
          refine r129 _ _ _ _ _ ⟨by omega, by omega⟩ ⟨by omega, by omega⟩ ⟨by omega, by omega⟩ ⟨by omega, by omega⟩ (fun _ => ⟨fun _ => ⟨⟨by omega, by omega⟩, ⟨by omega, by omega⟩, ?_⟩, fun z => by omega⟩)
          rw [putStem_eq (by omega) (by omega), put_in (by omega) (by omega)]
          exact hpost
        | succ d ih =>
          intro k hk1 hk2
          refine r129 _ _ _ _ _ ⟨by omega, by omega⟩ ⟨by omega, by omega⟩ ⟨by omega, by omega⟩ ⟨by omega, by omega⟩ (fun _ => ⟨fun z => by omega, fun _ => ⟨⟨by omega, by omega⟩, ⟨by omega, by omega⟩, ?_⟩⟩)
          rw [moveStem_eq (by omega) (by omega) (by omega) (by omega), shR_step (by omega)]
          have h := ih (k + (-1)) (by omega) (by omega)
          rw [show glyph * 6 + (k + (-1)) = glyph * 6 + k - 1 by omega] at h
          exact h
      have h := hd (A 2 glyph - c).toNat (A 2 glyph) (by omega) (by omega)
      rw [shR_0] at h
      exact h
    -- the look for an overlap
    have hlook : ∀ (d : Nat) (k : Int), k + d = A 2 glyph → 0 ≤ k → (∀ j : Int, 0 ≤ j → j < k → ¬ (place < A 3 (glyph * 6 + j) + A 4 (glyph * 6 + j) ∧ A 3 (glyph * 6 + j) < place + width)) → B55 (glyph * 6) (A 2 glyph) (lfN A glyph place k.toNat) k A := by
      intro d
      induction d with
      | zero =>
        intro k h1 h2 h3
        have ek : k = A 2 glyph := by omega
        subst ek
        have bk := bl (A 2 glyph).toNat
        have ho : ovAt A glyph place width = -1 := firstN_none (fun j a b => decide_eq_false (h3 j a (by omega)))
        refine r55 _ _ _ _ _ ⟨by omega, by omega⟩ ⟨by omega, by omega⟩ ⟨by unfold lfN; omega, by unfold lfN; omega⟩ ⟨by omega, by omega⟩ (fun _ => ⟨fun z => by omega, fun _ => ⟨fun z => hmove ho z, fun z => ?_⟩⟩)
        rw [if_neg (show ¬ ¬ ovAt A glyph place width = -1 from fun z => z ho), if_neg (show ¬ ¬ ovAt A glyph place width = -1 from fun z => z ho), if_neg z, if_neg z] at hpost
        exact hpost
      | succ d ih =>
        intro k h1 h2 h3
        have bk := bl k.toNat
        obtain ⟨e1, e2, e3⟩ := ce k h2 (by omega)
        have q := n5 (glyph * 6 + k) (by omega) (by omega)
        have hnext : ¬ (place < A 3 (glyph * 6 + k) + A 4 (glyph * 6 + k) ∧ A 3 (glyph * 6 + k) < place + width) → (A 3 (glyph * 6 + k) < place → B55 (glyph * 6) (A 2 glyph) (lfN A glyph place k.toNat + 1) (k + 1) A) ∧ (¬ A 3 (glyph * 6 + k) < place → B55 (glyph * 6) (A 2 glyph) (lfN A glyph place k.toNat) (k + 1) A) := by
          intro hno
          have h := ih (k + 1) (by omega) (by omega) (fun j a b => by
            by_cases hj : j = k
            · rw [hj]; exact hno
            · exact h3 j a (by omega))
          have et : (k + 1).toNat = k.toNat + 1 := by omega
          have ek : ((k.toNat : Nat) : Int) = k := Int.toNat_of_nonneg h2
          rw [et] at h
          unfold lfN at h ⊢
          refine ⟨fun z => ?_, fun z => ?_⟩
          · rw [cnt_y (p := fun k => A 3 (glyph * 6 + k) < place) (by show A 3 (glyph * 6 + ((k.toNat : Nat) : Int)) < place; rw [ek]; exact z)] at h; exact h
          · rw [cnt_n (p := fun k => A 3 (glyph * 6 + k) < place) (by show ¬ A 3 (glyph * 6 + ((k.toNat : Nat) : Int)) < place; rw [ek]; exact z)] at h; exact h
        refine r55 _ _ _ _ _ ⟨by omega, by omega⟩ ⟨by omega, by omega⟩ ⟨by unfold lfN; omega, by unfold lfN; omega⟩ ⟨by omega, by omega⟩ (fun _ => ⟨fun _ => ⟨⟨by omega, by omega⟩, e3, ?_⟩, fun z => by omega⟩)
        rw [e1, e2]
        refine ⟨fun z1 => ⟨⟨by omega, by omega⟩, fun z2 => ?_, fun z2 => hnext (fun q => z2 q.2)⟩, fun z1 => hnext (fun q => z1 q.1)⟩
        have ho : ovAt A glyph place width = k := firstN_eq h2 (by omega) (decide_eq_true ⟨z1, z2⟩) (fun j a b => decide_eq_false (h3 j a b))
        have hne : ¬ ovAt A glyph place width = -1 := by rw [ho]; omega
        rw [if_pos hne, if_pos hne] at hpost
        exact hpost
    exact hlook (A 2 glyph).toNat 0 (by omega) (Int.le_refl _) (fun j a b => by omega)
def p_X1_cutStem (A : hGM) (glyph : Int) (stem : Int) : Prop := fNum A
theorem hasGlyph_p {A : hGM} (h : fNum A) (g : Int) : p_X1_hasGlyph A g := by
  have n0 := h.1
  exact ⟨⟨by omega, by omega⟩, trivial⟩
theorem hasGlyph_y {A : hGM} {g : Int} (h : ¬ v_X1_hasGlyph A g = 0) : 0 ≤ g ∧ g < A 0 0 := by
  have q := Decidable.not_not.mp (fun z => h (within_0.mpr z))
  omega
theorem hasStem_p {A : hGM} (h : fNum A) (g k : Int) : p_X1_hasStem A g k := by
  have b := cell_bd (A := A) (i := 2) (n := 8) (k := g) (lo := 0) (hi := 6) (by decide) (by decide) (fun k a b => (h.2.2.2.2.2.2 k a b).2)
  exact ⟨hasGlyph_p h g, fun _ => trivial, fun _ => ⟨⟨by omega, by omega⟩, fun _ => trivial, fun _ => trivial⟩⟩
theorem hasStem_y {A : hGM} (hn : fNum A) {g k : Int} (h : ¬ v_X1_hasStem A g k = 0) : (0 ≤ g ∧ g < A 0 0) ∧ 0 ≤ k ∧ k < A 2 g := by
  unfold v_X1_hasStem at h
  split at h
  · exact absurd rfl h
  · next c =>
    have q := hasGlyph_y c
    have n0 := hn.1
    split at h
    · exact absurd rfl h
    · next c2 =>
      have q2 := Decidable.not_not.mp (fun z => c2 (within_0.mpr z))
      rw [cell_in (by omega) (by omega)] at q2
      omega
theorem hasStem_n {A : hGM} (hn : fNum A) {g k : Int} (h : v_X1_hasStem A g k = 0) : ¬ ((0 ≤ g ∧ g < A 0 0) ∧ 0 ≤ k ∧ k < A 2 g) := by
  intro ⟨h1, h2⟩
  have n0 := hn.1
  unfold v_X1_hasStem at h
  have e1 : ¬ v_X1_hasGlyph A g = 0 := fun z => (within_0.mp z) ⟨by omega, by omega⟩
  have e2 : ¬ v_X5_within k 0 (A 2 g - 1) = 0 := fun z => (within_0.mp z) ⟨by omega, by omega⟩
  rw [if_neg e1, cell_in (by omega) (by omega), if_neg e2] at h
  omega
def v_X1_cutStem (A : hGM) (glyph : Int) (stem : Int) : Int := if v_X1_hasStem A glyph stem = 0 then -1000001 else A 2 glyph - 1
def m_X1_cutStem (A : hGM) (glyph : Int) (stem : Int) : hGM := if v_X1_hasStem A glyph stem = 0 then A else aset (put3 (shL A (glyph * 6 + stem) (glyph * 6 + (A 2 glyph - 1))) (glyph * 6 + (A 2 glyph - 1)) 0 0 0) 2 glyph (A 2 glyph - 1)
set_option maxHeartbeats 4000000 in
theorem x_X1_cutStem (A : hGM) (glyph : Int) (stem : Int) (h_glyph : hIn glyph) (h_stem : hIn stem) (hRA : ∀ (i : Nat) (k : Int), i < 100 → hIn (A i k)) (hp : p_X1_cutStem A glyph stem) (B32 : Int → Int → Int → hGM → Prop) (Po : Int → hGM → Prop) 
  (r32 : ∀ (y3 : Int) (y4 : Int) (y5 : Int) (A1 : hGM), hIn y3 → hIn y4 → hIn y5 → ((∀ (i : Nat) (k : Int), i < 100 → hIn (A1 i k)) → ((y5 < y4 → (hIn ((y3 + y5) + 1) ∧ (hIn (y3 + y5) ∧ (B32 y3 y4 (y5 + 1) (m_X1_moveStem A1 ((y3 + y5) + 1) (y3 + y5)))))) ∧ (¬ y5 < y4 → (hIn (y3 + y4) ∧ (Po y4 (m_X5_put (m_X1_putStem A1 (y3 + y4) 0 0 0) 2 8 glyph y4)))))) → (B32 y3 y4 y5 A1)) 
  (hpost : Po (v_X1_cutStem A glyph stem) (m_X1_cutStem A glyph stem)) : (p_X1_hasStem A glyph stem ∧ (((v_X1_hasStem A glyph stem) = 0 → (Po (-1000001) A)) ∧ (¬ (v_X1_hasStem A glyph stem) = 0 → (B32 (glyph * 6) ((v_X5_cell A 2 8 glyph) - 1) stem A)))) := by
  have hf := hp
  obtain ⟨n0, n1, n2, n3, n4, n5, n6⟩ := hp
  unfold v_X1_cutStem m_X1_cutStem at hpost
  refine ⟨hasStem_p hf glyph stem, fun c => ?_, fun c => ?_⟩
  · rw [if_pos c, if_pos c] at hpost; exact hpost
  · rw [if_neg c, if_neg c] at hpost
    have g := hasStem_y hf c
    have g4 := (n6 glyph (by omega) (by omega)).2
    rw [cell_in (by omega) (by omega)]
    have hd : ∀ (d : Nat) (k : Int), k + d = A 2 glyph - 1 → stem ≤ k → B32 (glyph * 6) (A 2 glyph - 1) k (shL A (glyph * 6 + stem) (glyph * 6 + k)) := by
      intro d
      induction d with
      | zero =>
        intro k h1 h2
        have ek : k = A 2 glyph - 1 := by omega
        subst ek
        refine r32 _ _ _ _ ⟨by omega, by omega⟩ ⟨by omega, by omega⟩ ⟨by omega, by omega⟩ (fun _ => ⟨fun z => by omega, fun _ => ⟨⟨by omega, by omega⟩, ?_⟩⟩)
        rw [putStem_eq (by omega) (by omega), put_in (by omega) (by omega)]
        exact hpost
      | succ d ih =>
        intro k h1 h2
        refine r32 _ _ _ _ ⟨by omega, by omega⟩ ⟨by omega, by omega⟩ ⟨by omega, by omega⟩ (fun _ => ⟨fun _ => ⟨⟨by omega, by omega⟩, ⟨by omega, by omega⟩, ?_⟩, fun z => by omega⟩)
        rw [moveStem_eq (by omega) (by omega) (by omega) (by omega), shL_step (by omega)]
        have h := ih (k + 1) (by omega) (by omega)
        rw [show glyph * 6 + (k + 1) = glyph * 6 + k + 1 by omega] at h
        exact h
    have h := hd (A 2 glyph - 1 - stem).toNat stem (by omega) (Int.le_refl _)
    rw [shL_0] at h
    exact h
def p_X1_hintStem (A : hGM) (glyph : Int) (stem : Int) (hint : Int) : Prop := (p_X1_hasStem A glyph stem ∧ (((v_X1_hasStem A glyph stem) = 0 → True) ∧ (¬ (v_X1_hasStem A glyph stem) = 0 → (((v_X5_within hint 0 3) = 0 → True) ∧ (¬ (v_X5_within hint 0 3) = 0 → (hIn ((glyph * 6) + stem) ∧ True))))))
def v_X1_hintStem (A : hGM) (glyph : Int) (stem : Int) (hint : Int) : Int := (if (v_X1_hasStem A glyph stem) = 0 then (-1000001) else (if (v_X5_within hint 0 3) = 0 then (-1000001) else (v_X5_cell A 5 48 ((glyph * 6) + stem))))
def m_X1_hintStem (A : hGM) (glyph : Int) (stem : Int) (hint : Int) : hGM := (if (v_X1_hasStem A glyph stem) = 0 then A else (if (v_X5_within hint 0 3) = 0 then A else (m_X5_put A 5 48 ((glyph * 6) + stem) hint)))
def p_X1_standardAt (A : hGM) (width : Int) : Prop := 0 ≤ A 0 1 ∧ A 0 1 ≤ 3
def v_X1_standardAt (A : hGM) (width : Int) : Int := firstN (fun k => decide (v_X5_cell A 6 3 k = width)) (A 0 1).toNat
set_option maxHeartbeats 4000000 in
theorem x_X1_standardAt (A : hGM) (width : Int) (h_width : hIn width) (hRA : ∀ (i : Nat) (k : Int), i < 100 → hIn (A i k)) (hp : p_X1_standardAt A width) (B2 : Int → Prop) (Po : Int → Prop) 
  (r2 : ∀ (y2 : Int), hIn y2 → (((y2 < (A 0 1) → (((v_X5_cell A 6 3 y2) = width → (Po y2)) ∧ (¬ (v_X5_cell A 6 3 y2) = width → (B2 (y2 + 1))))) ∧ (¬ y2 < (A 0 1) → (Po (-1))))) → (B2 y2)) 
  (hpost : Po (v_X1_standardAt A width)) : (B2 0) := by
  obtain ⟨q1, q2⟩ := hp
  have e : (((A 0 1).toNat : Nat) : Int) = A 0 1 := Int.toNat_of_nonneg q1
  refine firstLoop (B := B2) _ (A 0 1).toNat (fun k h0 h1 hk hp => ?_) (fun k h0 h1 hk hb => ?_) (fun hp => ?_) hpost
  · have hk := of_decide_eq_true hk
    exact r2 k ⟨by omega, by omega⟩ ⟨fun _ => ⟨fun _ => hp, fun c => absurd hk c⟩, fun c => by omega⟩
  · have hk := of_decide_eq_false hk
    exact r2 k ⟨by omega, by omega⟩ ⟨fun _ => ⟨fun c => absurd c hk, fun _ => hb⟩, fun c => by omega⟩
  · exact r2 _ ⟨by omega, by omega⟩ ⟨fun _ => by omega, fun _ => hp⟩
def p_X1_snapOf (A : hGM) (width : Int) : Prop := fNum A ∧ 0 ≤ width ∧ width ≤ 1000
def v_X1_snapOf (A : hGM) (width : Int) : Int := (snapG (A 6) (A 0 2) width (A 0 1).toNat).1
theorem abs_v (x : Int) : v_J9_abs_0f7a4 x = absI x := rfl
theorem snapOf_bd {A : hGM} (h : fNum A) {w : Int} (h0 : 0 ≤ w) (h1 : w ≤ 1000) : 0 ≤ v_X1_snapOf A w ∧ v_X1_snapOf A w ≤ 300 := by
  obtain ⟨-, n1, n2, -, n4, -, -⟩ := h
  have key : ∀ n : Nat, n ≤ 3 → 0 ≤ (snapG (A 6) (A 0 2) w n).1 ∧ (snapG (A 6) (A 0 2) w n).1 ≤ 300 := by
    intro n
    induction n with
    | zero => intro _; exact ⟨Int.le_refl _, show (0 : Int) ≤ 300 by decide⟩
    | succ n ih =>
      intro hn
      have b := n4 n (by omega) (by omega)
      unfold snapG
      split
      · exact b
      · exact ih (by omega)
  exact key _ (by omega)
set_option maxHeartbeats 4000000 in
theorem x_X1_snapOf (A : hGM) (width : Int) (h_width : hIn width) (hRA : ∀ (i : Nat) (k : Int), i < 100 → hIn (A i k)) (hp : p_X1_snapOf A width) (B12 : Int → Int → Int → Prop) (Po : Int → Prop) 
  (r12 : ∀ (y2 : Int) (y3 : Int) (y4 : Int), hIn y2 → hIn y3 → hIn y4 → (((y4 < (A 0 1) → (hIn ((v_X5_cell A 6 3 y4) - width) ∧ (p_J9_abs_0f7a4 ((v_X5_cell A 6 3 y4) - width) ∧ (((v_J9_abs_0f7a4 ((v_X5_cell A 6 3 y4) - width)) < y3 → (B12 (v_X5_cell A 6 3 y4) (v_J9_abs_0f7a4 ((v_X5_cell A 6 3 y4) - width)) (y4 + 1))) ∧ (¬ (v_J9_abs_0f7a4 ((v_X5_cell A 6 3 y4) - width)) < y3 → (B12 y2 y3 (y4 + 1))))))) ∧ (¬ y4 < (A 0 1) → (Po y2)))) → (B12 y2 y3 y4)) 
  (hpost : Po (v_X1_snapOf A width)) : (B12 0 ((A 0 2) + 1) 0) := by
  obtain ⟨⟨-, n1, n2, -, n4, -, -⟩, w0, w1⟩ := hp
  have e : (((A 0 1).toNat : Nat) : Int) = A 0 1 := Int.toNat_of_nonneg n1.1
  have bd := fun n : Nat => snapG_bd (st := A 6) (cut := A 0 2) (w := width) (c := 1000) n ⟨w0, w1⟩
  refine upN (C := fun k => B12 (snapG (A 6) (A 0 2) width k).1 (snapG (A 6) (A 0 2) width k).2 (k : Int)) (A 0 1).toNat ?_ ?_
  · have b := bd (A 0 1).toNat (fun k a1 a2 => by have := n4 k a1 (by omega); omega) (by omega)
    exact r12 _ _ _ ⟨by omega, by omega⟩ ⟨by omega, by omega⟩ ⟨by omega, by omega⟩ ⟨fun _ => by omega, fun _ => hpost⟩
  · intro k hk h
    have b := bd k (fun k a1 a2 => by have := n4 k a1 (by omega); omega) (by omega)
    have c := n4 k (by omega) (by omega)
    have ec : v_X5_cell A 6 3 k = A 6 k := cell_in (by omega) (by omega)
    refine r12 _ _ _ ⟨by omega, by omega⟩ ⟨by omega, by omega⟩ ⟨by omega, by omega⟩ ⟨fun _ => ?_, fun _ => by omega⟩
    rw [ec]
    refine ⟨⟨by omega, by omega⟩, ⟨fun _ => ⟨⟨by omega, by omega⟩, trivial⟩, fun _ => trivial⟩, fun c1 => ?_, fun c1 => ?_⟩
    · rw [abs_v] at c1 ⊢
      have e1 : snapG (A 6) (A 0 2) width (k + 1) = (A 6 k, absI (A 6 k - width)) := if_pos c1
      rw [e1] at h
      exact h
    · rw [abs_v] at c1
      have e1 : snapG (A 6) (A 0 2) width (k + 1) = snapG (A 6) (A 0 2) width k := if_neg c1
      rw [e1] at h
      exact h
def p_X1_snappingTo (A : hGM) (standardWidth : Int) : Prop := fNum A
def v_X1_snappingTo (A : hGM) (standardWidth : Int) : Int := sumN (fun k => if 0 < A 4 k ∧ v_X1_snapOf A (A 4 k) = standardWidth then 1 else 0) 48
set_option maxHeartbeats 4000000 in
theorem x_X1_snappingTo (A : hGM) (standardWidth : Int) (h_standardWidth : hIn standardWidth) (hRA : ∀ (i : Nat) (k : Int), i < 100 → hIn (A i k)) (hp : p_X1_snappingTo A standardWidth) (B4 : Int → Int → Prop) (Po : Int → Prop) 
  (r4 : ∀ (y2 : Int) (y3 : Int), hIn y2 → hIn y3 → (((y3 < 48 → ((0 ≤ y3 ∧ y3 < 48) ∧ (((A 4 y3) ≤ 0 → (B4 y2 (y3 + 1))) ∧ (¬ (A 4 y3) ≤ 0 → (p_X1_snapOf A (A 4 y3) ∧ (((v_X1_snapOf A (A 4 y3)) = standardWidth → (B4 (y2 + 1) (y3 + 1))) ∧ (¬ (v_X1_snapOf A (A 4 y3)) = standardWidth → (B4 y2 (y3 + 1))))))))) ∧ (¬ y3 < 48 → (Po y2)))) → (B4 y2 y3)) 
  (hpost : Po (v_X1_snappingTo A standardWidth)) : (B4 0 0) := by
  have bd := fun n : Nat => cnt_bd (fun k => 0 < A 4 k ∧ v_X1_snapOf A (A 4 k) = standardWidth) n
  refine upN (C := fun k => B4 (sumN (fun k => if 0 < A 4 k ∧ v_X1_snapOf A (A 4 k) = standardWidth then 1 else 0) k) (k : Int)) 48 ?_ ?_
  · have := bd 48
    exact r4 _ _ ⟨by omega, by omega⟩ ⟨by omega, by omega⟩ ⟨fun _ => by omega, fun _ => hpost⟩
  · intro k hk h
    have b := bd k
    have q := hp.2.2.2.2.2.1 k (by omega) (by omega)
    refine r4 _ _ ⟨by omega, by omega⟩ ⟨by omega, by omega⟩ ⟨fun _ => ⟨⟨by omega, by omega⟩, fun c => ?_, fun c => ⟨⟨hp, by omega, by omega⟩, fun c2 => ?_, fun c2 => ?_⟩⟩, fun _ => by omega⟩
    · rw [cnt_n (fun z => by have := z.1; omega)] at h; exact h
    · rw [cnt_y ⟨by omega, c2⟩] at h; exact h
    · rw [cnt_n (fun z => c2 z.2)] at h; exact h
def p_X1_addStandard (A : hGM) (width : Int) : Prop := fNum A
/-- how many standard widths, from the last down, are greater: where the new one goes -/
def stPos (A : hGM) (width : Int) : Nat → Int
  | 0 => 0
  | n + 1 => if A 6 n ≤ width then (n : Int) + 1 else stPos A width n
theorem stPos_bd (A : hGM) (width : Int) (n : Nat) : 0 ≤ stPos A width n ∧ stPos A width n ≤ n := by
  induction n with
  | zero => exact ⟨Int.le_refl _, Int.le_refl _⟩
  | succ n ih => unfold stPos; split <;> omega
/-- the standard widths from a place on are one place above -/
def shW (A : hGM) (a b : Int) : hGM := fun i q => if i = 6 ∧ a < q ∧ q ≤ b then A i (q - 1) else A i q
theorem shW_0 (A : hGM) (a : Int) : shW A a a = A := by
  funext i q; unfold shW; rw [if_neg (by omega)]
theorem shW_step {A : hGM} {a b : Int} (h : a ≤ b) : aset (shW A a b) 6 a (shW A a b 6 (a - 1)) = shW A (a - 1) b := by
  funext i q
  unfold aset shW
  by_cases hq : i = 6 ∧ q = a
  · obtain ⟨rfl, rfl⟩ := hq
    rw [if_pos ⟨rfl, rfl⟩, if_neg (by omega), if_pos ⟨rfl, by omega, h⟩]
  · rw [if_neg hq]
    by_cases hc : i = 6 ∧ a < q ∧ q ≤ b
    · rw [if_pos hc, if_pos ⟨hc.1, by omega, hc.2.2⟩]
    · rw [if_neg hc, if_neg (fun z => hc ⟨z.1, by omega, z.2.2⟩)]
/-- the font with one standard width more -/
def stIns (A : hGM) (width : Int) : hGM := aset (aset (shW A (stPos A width (A 0 1).toNat) (A 0 1)) 6 (stPos A width (A 0 1).toNat) width) 0 1 (A 0 1 + 1)
theorem stIns_num {A : hGM} (h : fNum A) {w : Int} (h1 : A 0 1 < 3) (w0 : 0 ≤ w) (w1 : w ≤ 300) : fNum (stIns A w) := by
  obtain ⟨n0, n1, n2, n3, n4, n5, n6⟩ := h
  have b := stPos_bd A w (A 0 1).toNat
  have e00 : stIns A w 0 0 = A 0 0 := rfl
  have e01 : stIns A w 0 1 = A 0 1 + 1 := rfl
  have e02 : stIns A w 0 2 = A 0 2 := rfl
  have e03 : stIns A w 0 3 = A 0 3 := rfl
  have er : ∀ i : Nat, i ≠ 0 → i ≠ 6 → stIns A w i = A i := by
    intro i h0 h6
    funext q
    unfold stIns
    rw [aset_row h0, aset_row h6]
    unfold shW
    rw [if_neg (fun z => h6 z.1)]
  have e6 : ∀ k : Int, 0 ≤ k → k < 3 → 0 ≤ stIns A w 6 k ∧ stIns A w 6 k ≤ 300 := by
    intro k h0 h3
    unfold stIns
    rw [aset_row (by decide)]
    unfold aset
    split
    · exact ⟨w0, w1⟩
    · unfold shW
      split
      · exact n4 (k - 1) (by omega) (by omega)
      · exact n4 k h0 h3
  refine ⟨?_, ?_, ?_, ?_, e6, ?_, ?_⟩
  · rw [e00]; exact n0
  · rw [e01]; omega
  · rw [e02]; exact n2
  · rw [e03]; exact n3
  · rw [er 3 (by decide) (by decide), er 4 (by decide) (by decide), er 5 (by decide) (by decide)]; exact n5
  · rw [er 1 (by decide) (by decide), er 2 (by decide) (by decide)]; exact n6
def v_X1_addStandard (A : hGM) (width : Int) : Int := if v_X5_within width 1 300 = 0 then -1000001 else if ¬ v_X1_standardAt A width < 0 then -1000002 else if A 0 1 < 3 then v_X1_snappingTo (stIns A width) width else -1000003
def m_X1_addStandard (A : hGM) (width : Int) : hGM := if v_X5_within width 1 300 = 0 then A else if ¬ v_X1_standardAt A width < 0 then A else if A 0 1 < 3 then stIns A width else A
set_option maxHeartbeats 4000000 in
theorem x_X1_addStandard (A : hGM) (width : Int) (h_width : hIn width) (hRA : ∀ (i : Nat) (k : Int), i < 100 → hIn (A i k)) (hp : p_X1_addStandard A width) (B41 : Int → hGM → Prop) (Po : Int → hGM → Prop) 
  (r41 : ∀ (y2 : Int) (A1 : hGM), hIn y2 → ((∀ (i : Nat) (k : Int), i < 100 → hIn (A1 i k)) → ((y2 ≤ 0 → (hIn (((m_X5_put A1 6 3 y2 width) 0 1) + 1) ∧ (p_X1_snappingTo (aset (m_X5_put A1 6 3 y2 width) 0 1 (((m_X5_put A1 6 3 y2 width) 0 1) + 1)) width ∧ (Po (v_X1_snappingTo (aset (m_X5_put A1 6 3 y2 width) 0 1 (((m_X5_put A1 6 3 y2 width) 0 1) + 1)) width) (aset (m_X5_put A1 6 3 y2 width) 0 1 (((m_X5_put A1 6 3 y2 width) 0 1) + 1)))))) ∧ (¬ y2 ≤ 0 → (hIn (y2 - 1) ∧ (((v_X5_cell A1 6 3 (y2 - 1)) ≤ width → (hIn (((m_X5_put A1 6 3 y2 width) 0 1) + 1) ∧ (p_X1_snappingTo (aset (m_X5_put A1 6 3 y2 width) 0 1 (((m_X5_put A1 6 3 y2 width) 0 1) + 1)) width ∧ (Po (v_X1_snappingTo (aset (m_X5_put A1 6 3 y2 width) 0 1 (((m_X5_put A1 6 3 y2 width) 0 1) + 1)) width) (aset (m_X5_put A1 6 3 y2 width) 0 1 (((m_X5_put A1 6 3 y2 width) 0 1) + 1)))))) ∧ (¬ (v_X5_cell A1 6 3 (y2 - 1)) ≤ width → (B41 (y2 + (-1)) (m_X5_put A1 6 3 y2 (v_X5_cell A1 6 3 (y2 - 1)))))))))) → (B41 y2 A1)) 
  (hpost : Po (v_X1_addStandard A width) (m_X1_addStandard A width)) : (((v_X5_within width 1 300) = 0 → (Po (-1000001) A)) ∧ (¬ (v_X5_within width 1 300) = 0 → (p_X1_standardAt A width ∧ (((v_X1_standardAt A width) < 0 → (((A 0 1) < 3 → (B41 (A 0 1) A)) ∧ (¬ (A 0 1) < 3 → (Po (-1000003) A)))) ∧ (¬ (v_X1_standardAt A width) < 0 → (Po (-1000002) A)))))) := by
  have hf := hp
  obtain ⟨n0, n1, n2, n3, n4, n5, n6⟩ := hp
  unfold v_X1_addStandard m_X1_addStandard at hpost
  refine ⟨fun c => ?_, fun c => ⟨n1, fun c2 => ⟨fun c3 => ?_, fun c3 => ?_⟩, fun c2 => ?_⟩⟩
  · rw [if_pos c, if_pos c] at hpost; exact hpost
  · rw [if_neg c, if_neg c, if_neg (show ¬ ¬ v_X1_standardAt A width < 0 from fun z => z c2), if_neg (show ¬ ¬ v_X1_standardAt A width < 0 from fun z => z c2), if_pos c3, if_pos c3] at hpost
    have g3 : 1 ≤ width ∧ width ≤ 300 := Decidable.not_not.mp (fun z => c (within_0.mpr z))
    have hn := stIns_num hf c3 (by omega) g3.2
    have e : (((A 0 1).toNat : Nat) : Int) = A 0 1 := Int.toNat_of_nonneg n1.1
    have key : ∀ n : Nat, n ≤ (A 0 1).toNat → stPos A width n = stPos A width (A 0 1).toNat → B41 (n : Int) (shW A n (A 0 1)) := by
      intro n
      have hput : ∀ n : Nat, n ≤ (A 0 1).toNat → stPos A width (A 0 1).toNat = n → aset (m_X5_put (shW A n (A 0 1)) 6 3 n width) 0 1 (m_X5_put (shW A n (A 0 1)) 6 3 n width 0 1 + 1) = stIns A width := by
        intro n hn hs
        rw [put_in (by omega) (by omega)]
        unfold stIns
        rw [hs]
        rfl
      induction n with
      | zero =>
        intro h1 h2
        have hs : stPos A width (A 0 1).toNat = ((0 : Nat) : Int) := by rw [← h2]; rfl
        refine r41 _ _ ⟨by omega, by omega⟩ (fun _ => ⟨fun _ => ?_, fun z => by omega⟩)
        have hp1 := hput 0 (by omega) hs
        refine ⟨?_, ?_⟩
        · rw [put_row (by decide)]; show hIn (A 0 1 + 1); exact ⟨by omega, by omega⟩
        · rw [hp1]; exact ⟨hn, hpost⟩
      | succ n ih =>
        intro h1 h2
        refine r41 _ _ ⟨by omega, by omega⟩ (fun _ => ⟨fun z => by omega, fun _ => ⟨⟨by omega, by omega⟩, fun z => ?_, fun z => ?_⟩⟩)
        · have z : A 6 n ≤ width := by
            rw [cell_in (by omega) (by omega)] at z
            have e1 : shW A ((n + 1 : Nat) : Int) (A 0 1) 6 (((n + 1 : Nat) : Int) - 1) = A 6 n := by
              unfold shW
              rw [if_neg (by omega), show ((n + 1 : Nat) : Int) - 1 = n by omega]
            rw [e1] at z; exact z
          have hs : stPos A width (A 0 1).toNat = ((n + 1 : Nat) : Int) := by
            rw [← h2]
            show (if A 6 n ≤ width then (n : Int) + 1 else stPos A width n) = _
            rw [if_pos z]; omega
          have hp1 := hput (n + 1) h1 hs
          refine ⟨?_, ?_⟩
          · rw [put_row (by decide)]; show hIn (A 0 1 + 1); exact ⟨by omega, by omega⟩
          · rw [hp1]; exact ⟨hn, hpost⟩
        · rw [cell_in (by omega) (by omega)] at z ⊢
          have e1 : shW A ((n + 1 : Nat) : Int) (A 0 1) 6 (((n + 1 : Nat) : Int) - 1) = A 6 n := by
            unfold shW
            rw [if_neg (by omega), show ((n + 1 : Nat) : Int) - 1 = n by omega]
          have h3 : stPos A width n = stPos A width (A 0 1).toNat := by
            rw [← h2]
            show _ = (if A 6 n ≤ width then (n : Int) + 1 else stPos A width n)
            rw [e1] at z
            rw [if_neg z]
          have h := ih (by omega) h3
          rw [put_in (by omega) (by omega), shW_step (by omega)]
          rw [show ((n + 1 : Nat) : Int) + (-1) = n by omega, show ((n + 1 : Nat) : Int) - 1 = n by omega]
          exact h
    have h := key (A 0 1).toNat (Nat.le_refl _) rfl
    rw [e, shW_0] at h
    exact h
  · rw [if_neg c, if_neg c, if_neg (show ¬ ¬ v_X1_standardAt A width < 0 from fun z => z c2), if_neg (show ¬ ¬ v_X1_standardAt A width < 0 from fun z => z c2), if_neg c3, if_neg c3] at hpost; exact hpost
  · rw [if_neg c, if_neg c, if_pos c2, if_pos c2] at hpost; exact hpost
def p_X1_dropStandard (A : hGM) (width : Int) : Prop := fNum A
/-- the standard widths from a on, below b, are those one place above -/
def slW (A : hGM) (a b : Int) : hGM := fun i q => if i = 6 ∧ a ≤ q ∧ q < b then A i (q + 1) else A i q
theorem slW_0 (A : hGM) (a : Int) : slW A a a = A := by
  funext i q; unfold slW; rw [if_neg (by omega)]
theorem slW_step {A : hGM} {a b : Int} (h : a ≤ b) : aset (slW A a b) 6 b (slW A a b 6 (b + 1)) = slW A a (b + 1) := by
  funext i q
  unfold aset slW
  by_cases hq : i = 6 ∧ q = b
  · obtain ⟨rfl, rfl⟩ := hq
    rw [if_pos ⟨rfl, rfl⟩, if_neg (by omega), if_pos ⟨rfl, h, by omega⟩]
  · rw [if_neg hq]
    by_cases hc : i = 6 ∧ a ≤ q ∧ q < b
    · rw [if_pos hc, if_pos ⟨hc.1, hc.2.1, by omega⟩]
    · rw [if_neg hc, if_neg (fun z => hc ⟨z.1, z.2.1, by omega⟩)]
/-- the font with one standard width less -/
def stDel (A : hGM) (n : Int) : hGM := aset (slW (aset A 0 1 (A 0 1 - 1)) n (A 0 1 - 1)) 6 (A 0 1 - 1) 0
def v_X1_dropStandard (A : hGM) (width : Int) : Int := if v_X5_within width 1 300 = 0 then -1000001 else if v_X1_standardAt A width < 0 then -1000002 else A 0 1 - 1
def m_X1_dropStandard (A : hGM) (width : Int) : hGM := if v_X5_within width 1 300 = 0 then A else if v_X1_standardAt A width < 0 then A else stDel A (v_X1_standardAt A width)
set_option maxHeartbeats 4000000 in
theorem x_X1_dropStandard (A : hGM) (width : Int) (h_width : hIn width) (hRA : ∀ (i : Nat) (k : Int), i < 100 → hIn (A i k)) (hp : p_X1_dropStandard A width) (B39 : Int → hGM → Prop) (Po : Int → hGM → Prop) 
  (r39 : ∀ (y3 : Int) (A1 : hGM), hIn y3 → ((∀ (i : Nat) (k : Int), i < 100 → hIn (A1 i k)) → ((y3 < (A1 0 1) → (hIn (y3 + 1) ∧ (B39 (y3 + 1) (m_X5_put A1 6 3 y3 (v_X5_cell A1 6 3 (y3 + 1)))))) ∧ (¬ y3 < (A1 0 1) → (Po ((m_X5_put A1 6 3 (A1 0 1) 0) 0 1) (m_X5_put A1 6 3 (A1 0 1) 0))))) → (B39 y3 A1)) 
  (hpost : Po (v_X1_dropStandard A width) (m_X1_dropStandard A width)) : (((v_X5_within width 1 300) = 0 → (Po (-1000001) A)) ∧ (¬ (v_X5_within width 1 300) = 0 → (p_X1_standardAt A width ∧ (((v_X1_standardAt A width) < 0 → (Po (-1000002) A)) ∧ (¬ (v_X1_standardAt A width) < 0 → (hIn ((A 0 1) - 1) ∧ (B39 (v_X1_standardAt A width) (aset A 0 1 ((A 0 1) - 1))))))))) := by
  have hf := hp
  obtain ⟨n0, n1, n2, n3, n4, n5, n6⟩ := hp
  unfold v_X1_dropStandard m_X1_dropStandard at hpost
  refine ⟨fun c => ?_, fun c => ⟨n1, fun c2 => ?_, fun c2 => ⟨⟨by omega, by omega⟩, ?_⟩⟩⟩
  · rw [if_pos c, if_pos c] at hpost; exact hpost
  · rw [if_neg c, if_neg c, if_pos c2, if_pos c2] at hpost; exact hpost
  · rw [if_neg c, if_neg c, if_neg c2, if_neg c2] at hpost
    have hs := firstN_spec (fun k => decide (v_X5_cell A 6 3 k = width)) (A 0 1).toNat
    have hs : v_X1_standardAt A width < A 0 1 := by
      rcases hs with h | h
      · exact absurd (show v_X1_standardAt A width < 0 by unfold v_X1_standardAt; omega) c2
      · unfold v_X1_standardAt; omega
    generalize v_X1_standardAt A width = a at hpost hs c2 ⊢
    have hd : ∀ (d : Nat) (k : Int), k + d = A 0 1 - 1 → a ≤ k → B39 k (slW (aset A 0 1 (A 0 1 - 1)) a k) := by
      intro d
      induction d with
      | zero =>
        intro k h1 h2
        have ek : k = A 0 1 - 1 := by omega
        subst ek
        refine r39 _ _ ⟨by omega, by omega⟩ (fun _ => ⟨fun z => ?_, fun _ => ?_⟩)
        · have z : A 0 1 - 1 < A 0 1 - 1 := z
          omega
        · rw [show slW (aset A 0 1 (A 0 1 - 1)) a (A 0 1 - 1) 0 1 = A 0 1 - 1 from rfl, put_in (by omega) (by omega)]
          exact hpost
      | succ d ih =>
        intro k h1 h2
        refine r39 _ _ ⟨by omega, by omega⟩ (fun _ => ⟨fun _ => ⟨⟨by omega, by omega⟩, ?_⟩, fun z => ?_⟩)
        · rw [cell_in (by omega) (by omega), put_in (by omega) (by omega), slW_step h2]
          exact ih (k + 1) (by omega) (by omega)
        · have z : ¬ k < A 0 1 - 1 := z
          omega
    have h := hd (A 0 1 - 1 - a).toNat a (by omega) (Int.le_refl _)
    rw [slW_0] at h
    exact h
def v_X1_changeSetting (A : hGM) (what : Int) (value : Int) : Int := (if what = 0 then (if (v_X5_within value 0 100) = 0 then (if what = 1 then (if (v_X5_within value 0 3) = 0 then (-1000001) else (A 0 3)) else (-1000001)) else (A 0 2)) else (if what = 1 then (if (v_X5_within value 0 3) = 0 then (-1000001) else (A 0 3)) else (-1000001)))
def m_X1_changeSetting (A : hGM) (what : Int) (value : Int) : hGM := (if what = 0 then (if (v_X5_within value 0 100) = 0 then (if what = 1 then (if (v_X5_within value 0 3) = 0 then A else (aset A 0 3 value)) else A) else (aset A 0 2 value)) else (if what = 1 then (if (v_X5_within value 0 3) = 0 then A else (aset A 0 3 value)) else A))
def p_X1_hintedWidth (A : hGM) (width : Int) : Prop := (p_X1_snapOf A width ∧ (((v_X1_snapOf A width) = 0 → True) ∧ (¬ (v_X1_snapOf A width) = 0 → True)))
def v_X1_hintedWidth (A : hGM) (width : Int) : Int := (if (v_X1_snapOf A width) = 0 then width else (v_X1_snapOf A width))
def p_X1_wideOf (A : hGM) (width : Int) (size : Int) : Prop := (p_X1_snapOf A width ∧ (((v_X1_snapOf A width) = 0 → (p_X5_inPixels width size ∧ True)) ∧ (¬ (v_X1_snapOf A width) = 0 → (p_X5_inPixels (v_X1_snapOf A width) size ∧ True))))
def v_X1_wideOf (A : hGM) (width : Int) (size : Int) : Int := (if (v_X1_snapOf A width) = 0 then (v_J9_max_7cf53 1 (v_X5_inPixels width size)) else (v_J9_max_7cf53 1 (v_X5_inPixels (v_X1_snapOf A width) size)))
-- AFTER
theorem wide_p {A : hGM} {w z : Int} (h : fNum A) (w0 : 0 ≤ w) (w1 : w ≤ 300) (z0 : 0 ≤ z) (z1 : z ≤ 48) : p_X1_wideOf A w z := by
  have b := snapOf_bd h w0 (by omega)
  have m1 := mulbd (u := w) (z := z) (a := 0) (b := 300) w0 w1 (by decide) (by decide) z0 z1
  have m2 := mulbd (u := v_X1_snapOf A w) (z := z) (a := 0) (b := 300) b.1 b.2 (by decide) (by decide) z0 z1
  exact ⟨⟨h, w0, by omega⟩, fun _ => ⟨px_p ⟨by omega, by omega⟩, trivial⟩, fun _ => ⟨px_p ⟨by omega, by omega⟩, trivial⟩⟩
theorem wide_bd {A : hGM} {w z : Int} (h : fNum A) (w0 : 0 ≤ w) (w1 : w ≤ 300) (z0 : 0 ≤ z) (z1 : z ≤ 48) : 1 ≤ v_X1_wideOf A w z ∧ v_X1_wideOf A w z ≤ 100 := by
  have b := snapOf_bd h w0 (by omega)
  have m1 := mulbd (u := w) (z := z) (a := 0) (b := 300) w0 w1 (by decide) (by decide) z0 z1
  have m2 := mulbd (u := v_X1_snapOf A w) (z := z) (a := 0) (b := 300) b.1 b.2 (by decide) (by decide) z0 z1
  unfold v_X1_wideOf v_J9_max_7cf53
  rw [px_v ⟨by omega, by omega⟩, px_v ⟨by omega, by omega⟩]
  omega
def p_X1_alikeWith (A : hGM) (width : Int) : Prop := fNum A ∧ 0 ≤ width ∧ width ≤ 1000
def v_X1_alikeWith (A : hGM) (width : Int) : Int := sumN (fun k => if 0 < A 4 k ∧ v_X1_hintedWidth A (A 4 k) = v_X1_hintedWidth A width then 1 else 0) 48
theorem hinted_p {A : hGM} {w : Int} (h : p_X1_snapOf A w) : p_X1_hintedWidth A w := ⟨h, fun _ => trivial, fun _ => trivial⟩
theorem hinted_bd {A : hGM} (h : fNum A) {w : Int} (h0 : 0 ≤ w) (h1 : w ≤ 1000) : 0 ≤ v_X1_hintedWidth A w ∧ v_X1_hintedWidth A w ≤ 1000 := by
  have b := snapOf_bd h h0 h1
  unfold v_X1_hintedWidth
  split <;> omega
set_option maxHeartbeats 4000000 in
theorem x_X1_alikeWith (A : hGM) (width : Int) (h_width : hIn width) (hRA : ∀ (i : Nat) (k : Int), i < 100 → hIn (A i k)) (hp : p_X1_alikeWith A width) (B11 : Int → Int → Int → Prop) (Po : Int → Prop) 
  (r11 : ∀ (y2 : Int) (y3 : Int) (y4 : Int), hIn y2 → hIn y3 → hIn y4 → (((y4 < 48 → ((0 ≤ y4 ∧ y4 < 48) ∧ (((A 4 y4) ≤ 0 → (B11 y2 y3 (y4 + 1))) ∧ (¬ (A 4 y4) ≤ 0 → (p_X1_hintedWidth A (A 4 y4) ∧ (((v_X1_hintedWidth A (A 4 y4)) = y2 → (B11 y2 (y3 + 1) (y4 + 1))) ∧ (¬ (v_X1_hintedWidth A (A 4 y4)) = y2 → (B11 y2 y3 (y4 + 1))))))))) ∧ (¬ y4 < 48 → (Po y3)))) → (B11 y2 y3 y4)) 
  (hpost : Po (v_X1_alikeWith A width)) : (p_X1_hintedWidth A width ∧ (B11 (v_X1_hintedWidth A width) 0 0)) := by
  obtain ⟨hf, w0, w1⟩ := hp
  refine ⟨hinted_p ⟨hf, w0, w1⟩, ?_⟩
  have hb := hinted_bd hf w0 w1
  have bd := fun n : Nat => cnt_bd (fun k => 0 < A 4 k ∧ v_X1_hintedWidth A (A 4 k) = v_X1_hintedWidth A width) n
  refine upN (C := fun k => B11 (v_X1_hintedWidth A width) (sumN (fun k => if 0 < A 4 k ∧ v_X1_hintedWidth A (A 4 k) = v_X1_hintedWidth A width then 1 else 0) k) (k : Int)) 48 ?_ ?_
  · have := bd 48
    exact r11 _ _ _ ⟨by omega, by omega⟩ ⟨by omega, by omega⟩ ⟨by omega, by omega⟩ ⟨fun _ => by omega, fun _ => hpost⟩
  · intro k hk h
    have b := bd k
    have q := hf.2.2.2.2.2.1 k (by omega) (by omega)
    refine r11 _ _ _ ⟨by omega, by omega⟩ ⟨by omega, by omega⟩ ⟨by omega, by omega⟩ ⟨fun _ => ⟨⟨by omega, by omega⟩, fun c => ?_, fun c => ⟨hinted_p ⟨hf, by omega, by omega⟩, fun c2 => ?_, fun c2 => ?_⟩⟩, fun _ => by omega⟩
    · rw [cnt_n (fun z => by have := z.1; omega)] at h; exact h
    · rw [cnt_y ⟨by omega, c2⟩] at h; exact h
    · rw [cnt_n (fun z => c2 z.2)] at h; exact h
def p_X1_isAlikeAhead (A : hGM) (at1 : Int) : Prop := fNum A ∧ 0 ≤ at1 ∧ at1 < 48
def v_X1_isAlikeAhead (A : hGM) (at1 : Int) : Int := if firstN (fun k => decide (0 < A 4 k ∧ v_X1_hintedWidth A (A 4 k) = v_X1_hintedWidth A (A 4 at1))) at1.toNat = -1 then 0 else 1
theorem z_X1_isAlikeAhead (A : hGM) (at1 : Int) : v_X1_isAlikeAhead A at1 = 0 ∨ v_X1_isAlikeAhead A at1 = 1 := by
  unfold v_X1_isAlikeAhead
  split
  · exact Or.inl rfl
  · exact Or.inr rfl
set_option maxHeartbeats 4000000 in
theorem x_X1_isAlikeAhead (A : hGM) (at1 : Int) (h_at1 : hIn at1) (hRA : ∀ (i : Nat) (k : Int), i < 100 → hIn (A i k)) (hp : p_X1_isAlikeAhead A at1) (B15 : Int → Int → Prop) (Po : Int → Prop) 
  (r15 : ∀ (y2 : Int) (y3 : Int), hIn y2 → hIn y3 → (((y3 < at1 → ((y3 < 48 → ((0 ≤ y3 ∧ y3 < 48) ∧ (((A 4 y3) ≤ 0 → (B15 y2 (y3 + 1))) ∧ (¬ (A 4 y3) ≤ 0 → (p_X1_hintedWidth A (A 4 y3) ∧ (((v_X1_hintedWidth A (A 4 y3)) = y2 → (Po 1)) ∧ (¬ (v_X1_hintedWidth A (A 4 y3)) = y2 → (B15 y2 (y3 + 1))))))))) ∧ (¬ y3 < 48 → (Po 0)))) ∧ (¬ y3 < at1 → (Po 0)))) → (B15 y2 y3)) 
  (hpost : Po (v_X1_isAlikeAhead A at1)) : (p_X1_hintedWidth A (v_X5_cell A 4 48 at1) ∧ (B15 (v_X1_hintedWidth A (v_X5_cell A 4 48 at1)) 0)) := by
  obtain ⟨hf, w0, w1⟩ := hp
  have q := hf.2.2.2.2.2.1 at1 w0 w1
  have ec : v_X5_cell A 4 48 at1 = A 4 at1 := cell_in w0 w1
  rw [ec]
  refine ⟨hinted_p ⟨hf, by omega, by omega⟩, ?_⟩
  have hb := hinted_bd hf (w := A 4 at1) (by omega) (by omega)
  have e : ((at1.toNat : Nat) : Int) = at1 := Int.toNat_of_nonneg w0
  refine firstLoop (B := B15 (v_X1_hintedWidth A (A 4 at1))) (Po := fun r => Po (if r = -1 then 0 else 1)) _ at1.toNat (fun k h0 h1 hk hp => ?_) (fun k h0 h1 hk hb2 => ?_) (fun hp => ?_) hpost
  · have hk := of_decide_eq_true hk
    have hp : Po (if k = -1 then 0 else 1) := hp
    rw [if_neg (by omega)] at hp
    have q := hf.2.2.2.2.2.1 k h0 (by omega)
    exact r15 _ _ ⟨by omega, by omega⟩ ⟨by omega, by omega⟩ ⟨fun _ => ⟨fun _ => ⟨⟨h0, by omega⟩, fun c => by have := hk.1; omega, fun _ => ⟨hinted_p ⟨hf, by omega, by omega⟩, fun _ => hp, fun c => absurd hk.2 c⟩⟩, fun c => by omega⟩, fun c => by omega⟩
  · have hk := of_decide_eq_false hk
    have q := hf.2.2.2.2.2.1 k h0 (by omega)
    exact r15 _ _ ⟨by omega, by omega⟩ ⟨by omega, by omega⟩ ⟨fun _ => ⟨fun _ => ⟨⟨h0, by omega⟩, fun _ => hb2, fun c1 => ⟨hinted_p ⟨hf, by omega, by omega⟩, fun c2 => absurd ⟨by omega, c2⟩ hk, fun _ => hb2⟩⟩, fun c => by omega⟩, fun c => by omega⟩
  · have hp : Po (if (-1 : Int) = -1 then 0 else 1) := hp
    rw [if_pos rfl] at hp
    exact r15 _ _ ⟨by omega, by omega⟩ ⟨by omega, by omega⟩ ⟨fun _ => by omega, fun _ => hp⟩
def p_X1_unlikeWidths (A : hGM) : Prop := fNum A
def v_X1_unlikeWidths (A : hGM) : Int := sumN (fun k => if 0 < A 4 k ∧ v_X1_isAlikeAhead A k = 0 then 1 else 0) 48
set_option maxHeartbeats 4000000 in
theorem x_X1_unlikeWidths (A : hGM) (hRA : ∀ (i : Nat) (k : Int), i < 100 → hIn (A i k)) (hp : p_X1_unlikeWidths A) (B4 : Int → Int → Prop) (Po : Int → Prop) 
  (r4 : ∀ (y1 : Int) (y2 : Int), hIn y1 → hIn y2 → (((y2 < 48 → ((0 ≤ y2 ∧ y2 < 48) ∧ (((A 4 y2) ≤ 0 → (B4 y1 (y2 + 1))) ∧ (¬ (A 4 y2) ≤ 0 → (p_X1_isAlikeAhead A y2 ∧ (((v_X1_isAlikeAhead A y2) = 0 → (B4 (y1 + 1) (y2 + 1))) ∧ (¬ (v_X1_isAlikeAhead A y2) = 0 → (B4 y1 (y2 + 1))))))))) ∧ (¬ y2 < 48 → (Po y1)))) → (B4 y1 y2)) 
  (hpost : Po (v_X1_unlikeWidths A)) : (B4 0 0) := by
  have bd := fun n : Nat => cnt_bd (fun k => 0 < A 4 k ∧ v_X1_isAlikeAhead A k = 0) n
  refine upN (C := fun k => B4 (sumN (fun k => if 0 < A 4 k ∧ v_X1_isAlikeAhead A k = 0 then 1 else 0) k) (k : Int)) 48 ?_ ?_
  · have := bd 48
    exact r4 _ _ ⟨by omega, by omega⟩ ⟨by omega, by omega⟩ ⟨fun _ => by omega, fun _ => hpost⟩
  · intro k hk h
    have b := bd k
    refine r4 _ _ ⟨by omega, by omega⟩ ⟨by omega, by omega⟩ ⟨fun _ => ⟨⟨by omega, by omega⟩, fun c => ?_, fun c => ⟨⟨hp, by omega, by omega⟩, fun c2 => ?_, fun c2 => ?_⟩⟩, fun _ => by omega⟩
    · rw [cnt_n (fun z => by have := z.1; omega)] at h; exact h
    · rw [cnt_y ⟨by omega, c2⟩] at h; exact h
    · rw [cnt_n (fun z => c2 z.2)] at h; exact h
def p_X1_stemsTogether (A : hGM) : Prop := fNum A
def v_X1_stemsTogether (A : hGM) : Int := sumN (A 2) 8
set_option maxHeartbeats 4000000 in
theorem x_X1_stemsTogether (A : hGM) (hRA : ∀ (i : Nat) (k : Int), i < 100 → hIn (A i k)) (hp : p_X1_stemsTogether A) (B4 : Int → Int → Prop) (Po : Int → Prop) 
  (r4 : ∀ (y1 : Int) (y2 : Int), hIn y1 → hIn y2 → (((y2 < 8 → ((0 ≤ y2 ∧ y2 < 8) ∧ (B4 (y1 + (A 2 y2)) (y2 + 1)))) ∧ (¬ y2 < 8 → (Po y1)))) → (B4 y1 y2)) 
  (hpost : Po (v_X1_stemsTogether A)) : (B4 0 0) := by
  have bd : ∀ n : Nat, n ≤ 8 → 0 ≤ sumN (A 2) n ∧ sumN (A 2) n ≤ 6 * n := fun n hn => sumN_bd n (fun k a b => (hp.2.2.2.2.2.2 k a (by omega)).2)
  refine upN (C := fun k => B4 (sumN (A 2) k) (k : Int)) 8 ?_ ?_
  · have := bd 8 (by omega)
    exact r4 _ _ ⟨by omega, by omega⟩ ⟨by omega, by omega⟩ ⟨fun _ => by omega, fun _ => hpost⟩
  · intro k hk h
    have b := bd k (by omega)
    exact r4 _ _ ⟨by omega, by omega⟩ ⟨by omega, by omega⟩ ⟨fun _ => ⟨⟨by omega, by omega⟩, h⟩, fun _ => by omega⟩

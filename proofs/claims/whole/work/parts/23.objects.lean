/-! the objects of the world, and their fields (laid by program) -/
section
variable {ad : Nat → Nat → Nat} {cI cJ cF : ClassId} {S : hS} {g : Nat}
theorem un_F (hj : g < 7) (i : Nat) (hi : i < 13) : hUnpos (13 * g + i) = (g, i) := by
  unfold hUnpos
  rw [if_pos (by omega)]
  exact Prod.ext (by show (13 * g + i) / 13 = g; omega) (by show (13 * g + i) % 13 = i; omega)
theorem un_Fit : hUnpos 91 = (7, 0) := rfl
theorem un_Orders : hUnpos 95 = (8, 0) := rfl
theorem un_Hist : hUnpos 98 = (9, 0) := rfl
theorem un_Model : hUnpos 100 = (10, 0) := rfl
theorem un_Font (hj : g < 7) : hUnpos (13 * g) = (g, 0) := un_F hj 0 (by decide)
theorem un_Sheets (hj : g < 7) : hUnpos (13 * g + 7) = (g, 7) := un_F hj 7 (by decide)
theorem hr_Font (hj : g < 7) (r rl : Int → Int) : hCellR ad cI cJ cF g 0 r rl = .inr (1, [.int (hI (r 0)), .int (hI (r 1)), .int (hI (r 2)), .int (hI (r 3)), .ref (ad g 1), .ref (ad g 2), .ref (ad g 3), .ref (ad g 4), .ref (ad g 5), .ref (ad g 6), .ref (ad g 7)]) := by
  unfold hCellR
  rw [if_pos hj]
  rfl
theorem ob_Font (hj : g < 7) : (hW ad cI cJ cF S)[13 * g]? = some (ad g 0, .inr (1, [.int (hI (S g 0 0)), .int (hI (S g 0 1)), .int (hI (S g 0 2)), .int (hI (S g 0 3)), .ref (ad g 1), .ref (ad g 2), .ref (ad g 3), .ref (ad g 4), .ref (ad g 5), .ref (ad g 6), .ref (ad g 7)])) := by
  rw [hW_at (g := g) (i := 0) (by omega) (un_Font hj)]
  unfold hCell
  rw [hr_Font hj]
theorem pu_Font_glyphs (hj : g < 7) {x : Int} : hCell ad cI cJ cF (gset S g (aset (S g) 0 0 x)) g 0 = .inr (1, List.set [.int (hI (S g 0 0)), .int (hI (S g 0 1)), .int (hI (S g 0 2)), .int (hI (S g 0 3)), .ref (ad g 1), .ref (ad g 2), .ref (ad g 3), .ref (ad g 4), .ref (ad g 5), .ref (ad g 6), .ref (ad g 7)] 0 (.int (hI x))) := by
  unfold hCell
  rw [hr_Font hj]
  simp [gset, aset, List.set]
theorem pu_Font_standards (hj : g < 7) {x : Int} : hCell ad cI cJ cF (gset S g (aset (S g) 0 1 x)) g 0 = .inr (1, List.set [.int (hI (S g 0 0)), .int (hI (S g 0 1)), .int (hI (S g 0 2)), .int (hI (S g 0 3)), .ref (ad g 1), .ref (ad g 2), .ref (ad g 3), .ref (ad g 4), .ref (ad g 5), .ref (ad g 6), .ref (ad g 7)] 1 (.int (hI x))) := by
  unfold hCell
  rw [hr_Font hj]
  simp [gset, aset, List.set]
theorem pu_Font_cutoff (hj : g < 7) {x : Int} : hCell ad cI cJ cF (gset S g (aset (S g) 0 2 x)) g 0 = .inr (1, List.set [.int (hI (S g 0 0)), .int (hI (S g 0 1)), .int (hI (S g 0 2)), .int (hI (S g 0 3)), .ref (ad g 1), .ref (ad g 2), .ref (ad g 3), .ref (ad g 4), .ref (ad g 5), .ref (ad g 6), .ref (ad g 7)] 2 (.int (hI x))) := by
  unfold hCell
  rw [hr_Font hj]
  simp [gset, aset, List.set]
theorem pu_Font_leastGap (hj : g < 7) {x : Int} : hCell ad cI cJ cF (gset S g (aset (S g) 0 3 x)) g 0 = .inr (1, List.set [.int (hI (S g 0 0)), .int (hI (S g 0 1)), .int (hI (S g 0 2)), .int (hI (S g 0 3)), .ref (ad g 1), .ref (ad g 2), .ref (ad g 3), .ref (ad g 4), .ref (ad g 5), .ref (ad g 6), .ref (ad g 7)] 3 (.int (hI x))) := by
  unfold hCell
  rw [hr_Font hj]
  simp [gset, aset, List.set]
theorem hr_Sheets (hj : g < 7) (r rl : Int → Int) : hCellR ad cI cJ cF g 7 r rl = .inr (4, [.int (hI (r 0)), .ref (ad g 8), .ref (ad g 9), .ref (ad g 10), .ref (ad g 11), .ref (ad g 12)]) := by
  unfold hCellR
  rw [if_pos hj]
  rfl
theorem ob_Sheets (hj : g < 7) : (hW ad cI cJ cF S)[13 * g + 7]? = some (ad g 7, .inr (4, [.int (hI (S g 7 0)), .ref (ad g 8), .ref (ad g 9), .ref (ad g 10), .ref (ad g 11), .ref (ad g 12)])) := by
  rw [hW_at (g := g) (i := 7) (by omega) (un_Sheets hj)]
  unfold hCell
  rw [hr_Sheets hj]
theorem pu_Sheets_made (hj : g < 7) {x : Int} : hCell ad cI cJ cF (gset S g (aset (S g) 7 0 x)) g 7 = .inr (4, List.set [.int (hI (S g 7 0)), .ref (ad g 8), .ref (ad g 9), .ref (ad g 10), .ref (ad g 11), .ref (ad g 12)] 0 (.int (hI x))) := by
  unfold hCell
  rw [hr_Sheets hj]
  simp [gset, aset, List.set]
theorem hr_Fit (r rl : Int → Int) : hCellR ad cI cJ cF 7 0 r rl = .inr (0, [.int (hI (r 0)), .int (hI (r 1)), .int (hI (r 2)), .long (hJ (rl 0)), .ref (ad 7 1), .ref (ad 7 2), .ref (ad 7 3)]) := rfl
theorem ob_Fit : (hW ad cI cJ cF S)[91]? = some (ad 7 0, .inr (0, [.int (hI (S 7 0 0)), .int (hI (S 7 0 1)), .int (hI (S 7 0 2)), .long (hJ (S 7 100 0)), .ref (ad 7 1), .ref (ad 7 2), .ref (ad 7 3)])) := by
  rw [hW_at (g := 7) (i := 0) (by decide) rfl]
  rfl
theorem pu_Fit_columns {x : Int} : hCell ad cI cJ cF (gset S 7 (aset (S 7) 0 0 x)) 7 0 = .inr (0, List.set [.int (hI (S 7 0 0)), .int (hI (S 7 0 1)), .int (hI (S 7 0 2)), .long (hJ (S 7 100 0)), .ref (ad 7 1), .ref (ad 7 2), .ref (ad 7 3)] 0 (.int (hI x))) := by
  unfold hCell
  rw [hr_Fit]
  simp [gset, aset, List.set]
theorem pu_Fit_pushed {x : Int} : hCell ad cI cJ cF (gset S 7 (aset (S 7) 0 1 x)) 7 0 = .inr (0, List.set [.int (hI (S 7 0 0)), .int (hI (S 7 0 1)), .int (hI (S 7 0 2)), .long (hJ (S 7 100 0)), .ref (ad 7 1), .ref (ad 7 2), .ref (ad 7 3)] 1 (.int (hI x))) := by
  unfold hCell
  rw [hr_Fit]
  simp [gset, aset, List.set]
theorem pu_Fit_clipped {x : Int} : hCell ad cI cJ cF (gset S 7 (aset (S 7) 0 2 x)) 7 0 = .inr (0, List.set [.int (hI (S 7 0 0)), .int (hI (S 7 0 1)), .int (hI (S 7 0 2)), .long (hJ (S 7 100 0)), .ref (ad 7 1), .ref (ad 7 2), .ref (ad 7 3)] 2 (.int (hI x))) := by
  unfold hCell
  rw [hr_Fit]
  simp [gset, aset, List.set]
theorem pu_Fit_lit {x : Int} : hCell ad cI cJ cF (gset S 7 (aset (S 7) 100 0 x)) 7 0 = .inr (0, List.set [.int (hI (S 7 0 0)), .int (hI (S 7 0 1)), .int (hI (S 7 0 2)), .long (hJ (S 7 100 0)), .ref (ad 7 1), .ref (ad 7 2), .ref (ad 7 3)] 3 (.long (hJ x))) := by
  unfold hCell
  rw [hr_Fit]
  simp [gset, aset, List.set]
theorem hr_Orders (r rl : Int → Int) : hCellR ad cI cJ cF 8 0 r rl = .inr (3, [.ref (ad 8 1), .int (hI (r 1)), .ref (ad 8 2), .int (hI (r 3)), .int (hI (r 4)), .int (hI (r 5)), .int (hI (r 6)), .int (hI (r 7))]) := rfl
theorem ob_Orders : (hW ad cI cJ cF S)[95]? = some (ad 8 0, .inr (3, [.ref (ad 8 1), .int (hI (S 8 0 1)), .ref (ad 8 2), .int (hI (S 8 0 3)), .int (hI (S 8 0 4)), .int (hI (S 8 0 5)), .int (hI (S 8 0 6)), .int (hI (S 8 0 7))])) := by
  rw [hW_at (g := 8) (i := 0) (by decide) rfl]
  rfl
theorem pu_Orders_length {x : Int} : hCell ad cI cJ cF (gset S 8 (aset (S 8) 0 1 x)) 8 0 = .inr (3, List.set [.ref (ad 8 1), .int (hI (S 8 0 1)), .ref (ad 8 2), .int (hI (S 8 0 3)), .int (hI (S 8 0 4)), .int (hI (S 8 0 5)), .int (hI (S 8 0 6)), .int (hI (S 8 0 7))] 1 (.int (hI x))) := by
  unfold hCell
  rw [hr_Orders]
  simp [gset, aset, List.set]
theorem pu_Orders_reached {x : Int} : hCell ad cI cJ cF (gset S 8 (aset (S 8) 0 3 x)) 8 0 = .inr (3, List.set [.ref (ad 8 1), .int (hI (S 8 0 1)), .ref (ad 8 2), .int (hI (S 8 0 3)), .int (hI (S 8 0 4)), .int (hI (S 8 0 5)), .int (hI (S 8 0 6)), .int (hI (S 8 0 7))] 3 (.int (hI x))) := by
  unfold hCell
  rw [hr_Orders]
  simp [gset, aset, List.set]
theorem pu_Orders_done {x : Int} : hCell ad cI cJ cF (gset S 8 (aset (S 8) 0 4 x)) 8 0 = .inr (3, List.set [.ref (ad 8 1), .int (hI (S 8 0 1)), .ref (ad 8 2), .int (hI (S 8 0 3)), .int (hI (S 8 0 4)), .int (hI (S 8 0 5)), .int (hI (S 8 0 6)), .int (hI (S 8 0 7))] 4 (.int (hI x))) := by
  unfold hCell
  rw [hr_Orders]
  simp [gset, aset, List.set]
theorem pu_Orders_position {x : Int} : hCell ad cI cJ cF (gset S 8 (aset (S 8) 0 5 x)) 8 0 = .inr (3, List.set [.ref (ad 8 1), .int (hI (S 8 0 1)), .ref (ad 8 2), .int (hI (S 8 0 3)), .int (hI (S 8 0 4)), .int (hI (S 8 0 5)), .int (hI (S 8 0 6)), .int (hI (S 8 0 7))] 5 (.int (hI x))) := by
  unfold hCell
  rw [hr_Orders]
  simp [gset, aset, List.set]
theorem pu_Orders_reason {x : Int} : hCell ad cI cJ cF (gset S 8 (aset (S 8) 0 6 x)) 8 0 = .inr (3, List.set [.ref (ad 8 1), .int (hI (S 8 0 1)), .ref (ad 8 2), .int (hI (S 8 0 3)), .int (hI (S 8 0 4)), .int (hI (S 8 0 5)), .int (hI (S 8 0 6)), .int (hI (S 8 0 7))] 6 (.int (hI x))) := by
  unfold hCell
  rw [hr_Orders]
  simp [gset, aset, List.set]
theorem pu_Orders_cause {x : Int} : hCell ad cI cJ cF (gset S 8 (aset (S 8) 0 7 x)) 8 0 = .inr (3, List.set [.ref (ad 8 1), .int (hI (S 8 0 1)), .ref (ad 8 2), .int (hI (S 8 0 3)), .int (hI (S 8 0 4)), .int (hI (S 8 0 5)), .int (hI (S 8 0 6)), .int (hI (S 8 0 7))] 7 (.int (hI x))) := by
  unfold hCell
  rw [hr_Orders]
  simp [gset, aset, List.set]
theorem hr_Hist (r rl : Int → Int) : hCellR ad cI cJ cF 9 0 r rl = .inr (2, [.ref (ad 9 1), .int (hI (r 1)), .int (hI (r 2))]) := rfl
theorem ob_Hist : (hW ad cI cJ cF S)[98]? = some (ad 9 0, .inr (2, [.ref (ad 9 1), .int (hI (S 9 0 1)), .int (hI (S 9 0 2))])) := by
  rw [hW_at (g := 9) (i := 0) (by decide) rfl]
  rfl
theorem pu_Hist_oldest {x : Int} : hCell ad cI cJ cF (gset S 9 (aset (S 9) 0 1 x)) 9 0 = .inr (2, List.set [.ref (ad 9 1), .int (hI (S 9 0 1)), .int (hI (S 9 0 2))] 1 (.int (hI x))) := by
  unfold hCell
  rw [hr_Hist]
  simp [gset, aset, List.set]
theorem pu_Hist_kept {x : Int} : hCell ad cI cJ cF (gset S 9 (aset (S 9) 0 2 x)) 9 0 = .inr (2, List.set [.ref (ad 9 1), .int (hI (S 9 0 1)), .int (hI (S 9 0 2))] 2 (.int (hI x))) := by
  unfold hCell
  rw [hr_Hist]
  simp [gset, aset, List.set]
theorem hr_Model (r rl : Int → Int) : hCellR ad cI cJ cF 10 0 r rl = .inr (6, [.ref (ad 10 1), .ref (ad 10 2), .ref (ad 10 3), .int (hI (r 3)), .int (hI (r 4)), .ref (ad 10 4), .int (hI (r 6)), .ref (ad 10 5), .ref (ad 10 6), .int (hI (r 9)), .int (hI (r 10)), .int (hI (r 11)), .int (hI (r 12)), .int (hI (r 13)), .int (hI (r 14)), .int (hI (r 15)), .ref (ad 10 7)]) := rfl
theorem ob_Model : (hW ad cI cJ cF S)[100]? = some (ad 10 0, .inr (6, [.ref (ad 10 1), .ref (ad 10 2), .ref (ad 10 3), .int (hI (S 10 0 3)), .int (hI (S 10 0 4)), .ref (ad 10 4), .int (hI (S 10 0 6)), .ref (ad 10 5), .ref (ad 10 6), .int (hI (S 10 0 9)), .int (hI (S 10 0 10)), .int (hI (S 10 0 11)), .int (hI (S 10 0 12)), .int (hI (S 10 0 13)), .int (hI (S 10 0 14)), .int (hI (S 10 0 15)), .ref (ad 10 7)])) := by
  rw [hW_at (g := 10) (i := 0) (by decide) rfl]
  rfl
theorem pu_Model_pasts {x : Int} : hCell ad cI cJ cF (gset S 10 (aset (S 10) 0 3 x)) 10 0 = .inr (6, List.set [.ref (ad 10 1), .ref (ad 10 2), .ref (ad 10 3), .int (hI (S 10 0 3)), .int (hI (S 10 0 4)), .ref (ad 10 4), .int (hI (S 10 0 6)), .ref (ad 10 5), .ref (ad 10 6), .int (hI (S 10 0 9)), .int (hI (S 10 0 10)), .int (hI (S 10 0 11)), .int (hI (S 10 0 12)), .int (hI (S 10 0 13)), .int (hI (S 10 0 14)), .int (hI (S 10 0 15)), .ref (ad 10 7)] 3 (.int (hI x))) := by
  unfold hCell
  rw [hr_Model]
  simp [gset, aset, List.set]
theorem pu_Model_runs {x : Int} : hCell ad cI cJ cF (gset S 10 (aset (S 10) 0 4 x)) 10 0 = .inr (6, List.set [.ref (ad 10 1), .ref (ad 10 2), .ref (ad 10 3), .int (hI (S 10 0 3)), .int (hI (S 10 0 4)), .ref (ad 10 4), .int (hI (S 10 0 6)), .ref (ad 10 5), .ref (ad 10 6), .int (hI (S 10 0 9)), .int (hI (S 10 0 10)), .int (hI (S 10 0 11)), .int (hI (S 10 0 12)), .int (hI (S 10 0 13)), .int (hI (S 10 0 14)), .int (hI (S 10 0 15)), .ref (ad 10 7)] 4 (.int (hI x))) := by
  unfold hCell
  rw [hr_Model]
  simp [gset, aset, List.set]
theorem pu_Model_typed {x : Int} : hCell ad cI cJ cF (gset S 10 (aset (S 10) 0 6 x)) 10 0 = .inr (6, List.set [.ref (ad 10 1), .ref (ad 10 2), .ref (ad 10 3), .int (hI (S 10 0 3)), .int (hI (S 10 0 4)), .ref (ad 10 4), .int (hI (S 10 0 6)), .ref (ad 10 5), .ref (ad 10 6), .int (hI (S 10 0 9)), .int (hI (S 10 0 10)), .int (hI (S 10 0 11)), .int (hI (S 10 0 12)), .int (hI (S 10 0 13)), .int (hI (S 10 0 14)), .int (hI (S 10 0 15)), .ref (ad 10 7)] 6 (.int (hI x))) := by
  unfold hCell
  rw [hr_Model]
  simp [gset, aset, List.set]
theorem pu_Model_pushed {x : Int} : hCell ad cI cJ cF (gset S 10 (aset (S 10) 0 9 x)) 10 0 = .inr (6, List.set [.ref (ad 10 1), .ref (ad 10 2), .ref (ad 10 3), .int (hI (S 10 0 3)), .int (hI (S 10 0 4)), .ref (ad 10 4), .int (hI (S 10 0 6)), .ref (ad 10 5), .ref (ad 10 6), .int (hI (S 10 0 9)), .int (hI (S 10 0 10)), .int (hI (S 10 0 11)), .int (hI (S 10 0 12)), .int (hI (S 10 0 13)), .int (hI (S 10 0 14)), .int (hI (S 10 0 15)), .ref (ad 10 7)] 9 (.int (hI x))) := by
  unfold hCell
  rw [hr_Model]
  simp [gset, aset, List.set]
theorem pu_Model_spot {x : Int} : hCell ad cI cJ cF (gset S 10 (aset (S 10) 0 10 x)) 10 0 = .inr (6, List.set [.ref (ad 10 1), .ref (ad 10 2), .ref (ad 10 3), .int (hI (S 10 0 3)), .int (hI (S 10 0 4)), .ref (ad 10 4), .int (hI (S 10 0 6)), .ref (ad 10 5), .ref (ad 10 6), .int (hI (S 10 0 9)), .int (hI (S 10 0 10)), .int (hI (S 10 0 11)), .int (hI (S 10 0 12)), .int (hI (S 10 0 13)), .int (hI (S 10 0 14)), .int (hI (S 10 0 15)), .ref (ad 10 7)] 10 (.int (hI x))) := by
  unfold hCell
  rw [hr_Model]
  simp [gset, aset, List.set]
theorem pu_Model_from {x : Int} : hCell ad cI cJ cF (gset S 10 (aset (S 10) 0 11 x)) 10 0 = .inr (6, List.set [.ref (ad 10 1), .ref (ad 10 2), .ref (ad 10 3), .int (hI (S 10 0 3)), .int (hI (S 10 0 4)), .ref (ad 10 4), .int (hI (S 10 0 6)), .ref (ad 10 5), .ref (ad 10 6), .int (hI (S 10 0 9)), .int (hI (S 10 0 10)), .int (hI (S 10 0 11)), .int (hI (S 10 0 12)), .int (hI (S 10 0 13)), .int (hI (S 10 0 14)), .int (hI (S 10 0 15)), .ref (ad 10 7)] 11 (.int (hI x))) := by
  unfold hCell
  rw [hr_Model]
  simp [gset, aset, List.set]
theorem pu_Model_reason {x : Int} : hCell ad cI cJ cF (gset S 10 (aset (S 10) 0 12 x)) 10 0 = .inr (6, List.set [.ref (ad 10 1), .ref (ad 10 2), .ref (ad 10 3), .int (hI (S 10 0 3)), .int (hI (S 10 0 4)), .ref (ad 10 4), .int (hI (S 10 0 6)), .ref (ad 10 5), .ref (ad 10 6), .int (hI (S 10 0 9)), .int (hI (S 10 0 10)), .int (hI (S 10 0 11)), .int (hI (S 10 0 12)), .int (hI (S 10 0 13)), .int (hI (S 10 0 14)), .int (hI (S 10 0 15)), .ref (ad 10 7)] 12 (.int (hI x))) := by
  unfold hCell
  rw [hr_Model]
  simp [gset, aset, List.set]
theorem pu_Model_cause {x : Int} : hCell ad cI cJ cF (gset S 10 (aset (S 10) 0 13 x)) 10 0 = .inr (6, List.set [.ref (ad 10 1), .ref (ad 10 2), .ref (ad 10 3), .int (hI (S 10 0 3)), .int (hI (S 10 0 4)), .ref (ad 10 4), .int (hI (S 10 0 6)), .ref (ad 10 5), .ref (ad 10 6), .int (hI (S 10 0 9)), .int (hI (S 10 0 10)), .int (hI (S 10 0 11)), .int (hI (S 10 0 12)), .int (hI (S 10 0 13)), .int (hI (S 10 0 14)), .int (hI (S 10 0 15)), .ref (ad 10 7)] 13 (.int (hI x))) := by
  unfold hCell
  rw [hr_Model]
  simp [gset, aset, List.set]
theorem pu_Model_orders {x : Int} : hCell ad cI cJ cF (gset S 10 (aset (S 10) 0 14 x)) 10 0 = .inr (6, List.set [.ref (ad 10 1), .ref (ad 10 2), .ref (ad 10 3), .int (hI (S 10 0 3)), .int (hI (S 10 0 4)), .ref (ad 10 4), .int (hI (S 10 0 6)), .ref (ad 10 5), .ref (ad 10 6), .int (hI (S 10 0 9)), .int (hI (S 10 0 10)), .int (hI (S 10 0 11)), .int (hI (S 10 0 12)), .int (hI (S 10 0 13)), .int (hI (S 10 0 14)), .int (hI (S 10 0 15)), .ref (ad 10 7)] 14 (.int (hI x))) := by
  unfold hCell
  rw [hr_Model]
  simp [gset, aset, List.set]
theorem pu_Model_order {x : Int} : hCell ad cI cJ cF (gset S 10 (aset (S 10) 0 15 x)) 10 0 = .inr (6, List.set [.ref (ad 10 1), .ref (ad 10 2), .ref (ad 10 3), .int (hI (S 10 0 3)), .int (hI (S 10 0 4)), .ref (ad 10 4), .int (hI (S 10 0 6)), .ref (ad 10 5), .ref (ad 10 6), .int (hI (S 10 0 9)), .int (hI (S 10 0 10)), .int (hI (S 10 0 11)), .int (hI (S 10 0 12)), .int (hI (S 10 0 13)), .int (hI (S 10 0 14)), .int (hI (S 10 0 15)), .ref (ad 10 7)] 15 (.int (hI x))) := by
  unfold hCell
  rw [hr_Model]
  simp [gset, aset, List.set]
theorem hr_X (r rl : Int → Int) : hCellR ad cI cJ cF 11 0 r rl = .inr (5, [.ref (ad 0 0), .ref (ad 1 0), .ref (ad 7 0), .ref (ad 8 0), .ref (ad 9 0)]) := rfl
theorem ob_X : (hW ad cI cJ cF S)[108]? = some (ad 11 0, .inr (5, [.ref (ad 0 0), .ref (ad 1 0), .ref (ad 7 0), .ref (ad 8 0), .ref (ad 9 0)])) := by
  rw [hW_at (g := 11) (i := 0) (by decide) rfl]
  rfl
theorem ia_F_1 (hj : g < 7) : hIA ad cI cJ cF g 1 8 (13 * g + 1) := ⟨by omega, un_F hj 1 (by decide), by decide, by decide, fun r rl => by unfold hCellR; rw [if_pos hj]; rfl⟩
theorem ia_F_2 (hj : g < 7) : hIA ad cI cJ cF g 2 8 (13 * g + 2) := ⟨by omega, un_F hj 2 (by decide), by decide, by decide, fun r rl => by unfold hCellR; rw [if_pos hj]; rfl⟩
theorem ia_F_3 (hj : g < 7) : hIA ad cI cJ cF g 3 48 (13 * g + 3) := ⟨by omega, un_F hj 3 (by decide), by decide, by decide, fun r rl => by unfold hCellR; rw [if_pos hj]; rfl⟩
theorem ia_F_4 (hj : g < 7) : hIA ad cI cJ cF g 4 48 (13 * g + 4) := ⟨by omega, un_F hj 4 (by decide), by decide, by decide, fun r rl => by unfold hCellR; rw [if_pos hj]; rfl⟩
theorem ia_F_5 (hj : g < 7) : hIA ad cI cJ cF g 5 48 (13 * g + 5) := ⟨by omega, un_F hj 5 (by decide), by decide, by decide, fun r rl => by unfold hCellR; rw [if_pos hj]; rfl⟩
theorem ia_F_6 (hj : g < 7) : hIA ad cI cJ cF g 6 3 (13 * g + 6) := ⟨by omega, un_F hj 6 (by decide), by decide, by decide, fun r rl => by unfold hCellR; rw [if_pos hj]; rfl⟩
theorem ia_F_8 (hj : g < 7) : hIA ad cI cJ cF g 8 4 (13 * g + 8) := ⟨by omega, un_F hj 8 (by decide), by decide, by decide, fun r rl => by unfold hCellR; rw [if_pos hj]; rfl⟩
theorem ia_F_9 (hj : g < 7) : hIA ad cI cJ cF g 9 4 (13 * g + 9) := ⟨by omega, un_F hj 9 (by decide), by decide, by decide, fun r rl => by unfold hCellR; rw [if_pos hj]; rfl⟩
theorem ia_F_10 (hj : g < 7) : hIA ad cI cJ cF g 10 4 (13 * g + 10) := ⟨by omega, un_F hj 10 (by decide), by decide, by decide, fun r rl => by unfold hCellR; rw [if_pos hj]; rfl⟩
theorem ia_F_11 (hj : g < 7) : hIA ad cI cJ cF g 11 32 (13 * g + 11) := ⟨by omega, un_F hj 11 (by decide), by decide, by decide, fun r rl => by unfold hCellR; rw [if_pos hj]; rfl⟩
theorem ia_7_1 : hIA ad cI cJ cF 7 1 6 92 := ⟨by decide, by decide, by decide, by decide, fun r rl => rfl⟩
theorem ia_7_2 : hIA ad cI cJ cF 7 2 6 93 := ⟨by decide, by decide, by decide, by decide, fun r rl => rfl⟩
theorem ia_7_3 : hIA ad cI cJ cF 7 3 48 94 := ⟨by decide, by decide, by decide, by decide, fun r rl => rfl⟩
theorem ia_8_1 : hIA ad cI cJ cF 8 1 60 96 := ⟨by decide, by decide, by decide, by decide, fun r rl => rfl⟩
theorem ia_8_2 : hIA ad cI cJ cF 8 2 3 97 := ⟨by decide, by decide, by decide, by decide, fun r rl => rfl⟩
theorem ia_10_1 : hIA ad cI cJ cF 10 1 273 101 := ⟨by decide, by decide, by decide, by decide, fun r rl => rfl⟩
theorem ia_10_2 : hIA ad cI cJ cF 10 2 1092 102 := ⟨by decide, by decide, by decide, by decide, fun r rl => rfl⟩
theorem ia_10_3 : hIA ad cI cJ cF 10 3 273 103 := ⟨by decide, by decide, by decide, by decide, fun r rl => rfl⟩
theorem ia_10_4 : hIA ad cI cJ cF 10 4 60 104 := ⟨by decide, by decide, by decide, by decide, fun r rl => rfl⟩
theorem ia_10_5 : hIA ad cI cJ cF 10 5 6 105 := ⟨by decide, by decide, by decide, by decide, fun r rl => rfl⟩
theorem ia_10_6 : hIA ad cI cJ cF 10 6 6 106 := ⟨by decide, by decide, by decide, by decide, fun r rl => rfl⟩
theorem ia_10_7 : hIA ad cI cJ cF 10 7 3 107 := ⟨by decide, by decide, by decide, by decide, fun r rl => rfl⟩
theorem hIA_n {g i n q : Nat} (h : hIA ad cI cJ cF g i n q) : hIn (n : Int) := ⟨by omega, by have := h.2.2.2.1; omega⟩
theorem hIA_i {g i n q : Nat} (h : hIA ad cI cJ cF g i n q) : i < 100 := by have := h.2.2.1; omega
theorem hIA_lt {g i n q : Nat} (h : hIA ad cI cJ cF g i n q) : n < 100000 := h.2.2.2.1
theorem can1 {g : Nat} {A : hGM} (h : S g = A) : S = gset S g A := by rw [← h, gset_self]
theorem can2 {g k : Nat} {A B : hGM} (hn : k ≠ g) (h : S g = A) (hB : S k = B) : S = gset (gset S g A) k B := by
  rw [← can1 h]
  exact can1 hB
theorem can3 {g k n : Nat} {A B C : hGM} (hn : k ≠ g) (hn2 : n ≠ g) (hn3 : n ≠ k) (h : S g = A) (hB : S k = B) (hC : S n = C) : S = gset (gset (gset S g A) k B) n C := by
  rw [← can2 hn h hB]
  exact can1 hC
end
section
variable {p : Program} {l : Launch} {e : Env} {R : Room} {s : State} {m : MethodId} {args : Array Value} {below : List Frame} {meth : Method} {c : Code} {H : Heap} {locs : List Loc} {cells slots : Nat} {Q : State → Prop}
variable {cc : ByteArray} {pc nL : Nat} {ls : Array Slot} {rest : List Value} {own : String} {ret : Option FieldType}
variable {D : va_G} {ad : Nat → Nat → Nat} {cI cJ cF : ClassId} {S S' : hS} {g : Nat}
theorem hJA (hj : g < 7) : (hW ad cI cJ cF S)[13 * g + 12]? = some (ad g 12, .inl (cJ, 32, .inr (.inl (fun k => hJ (S g 112 k))))) := by
  rw [hW_at (g := g) (i := 12) (by omega) (un_F hj 12 (by decide))]
  unfold hCell hCellR
  rw [if_pos hj]
  rfl
theorem iv_lald (hx : p.tables.exec = Jvm.exec) (hb : c.code = cc) (hK : va_K D vwCl (hTys cI cJ cF) s) (hP : va_P D vwCl (hW ad cI cJ cF S) H) (hj : g < 7) {k v : Int} (hk : 0 ≤ k ∧ k < 32) (hv : S g 112 k = v) (hdg : decode cc pc = .ok (.laload, 1))
    (kk : W p l e R s m args below meth c H locs cells slots Q (F0 m (pc + 1) ls (.long (hJ v) :: rest))) : W p l e R s m args below meth c H locs cells slots Q (F0 m pc ls (.int (hI k) :: .ref (ad g 12) :: rest)) := by
  obtain ⟨h1, h2⟩ := hI_ix (n := 32) hk (by decide)
  refine va_lald hx hb hK hP (13 * g + 12) 1 (hJA hj) rfl h1 hdg ?_
  rw [h2]
  have e : ((k.toNat : Nat) : Int) = k := Int.toNat_of_nonneg hk.1
  simp only [e, hv]
  exact kk
theorem iv_last (hx : p.tables.exec = Jvm.exec) (hb : c.code = cc) (hK : va_K D vwCl (hTys cI cJ cF) s) (hinj : hInj ad) (hh : hH D ad cI cJ cF S s H locs) (hj : g < 7) {k v : Int} (hk : 0 ≤ k ∧ k < 32) (hS' : gset S g (aset (S g) 112 k v) = S') (hdg : decode cc pc = .ok (.lastore, 1))
    (K : ∀ (H1 : Heap) (locs1 : List Loc), hH D ad cI cJ cF S' s H1 locs1 → W p l e R s m args below meth c H1 locs1 cells slots Q (F0 m (pc + 1) ls rest)) : W p l e R s m args below meth c H locs cells slots Q (F0 m pc ls (.long (hJ v) :: .int (hI k) :: .ref (ad g 12) :: rest)) := by
  obtain ⟨h1, h2⟩ := hI_ix (n := 32) hk (by decide)
  refine va_last hx hb hK hh.1 (hW_D hinj) hh.2.2 (13 * g + 12) 1 (hJA hj) rfl h1 hdg (fun H1 locs1 hP1 _ hS1 => K H1 locs1 ?_)
  have e : ((k.toNat : Nat) : Int) = k := Int.toNat_of_nonneg hk.1
  have hc : hCell ad cI cJ cF (gset S g (aset (S g) 112 k v)) g 12 = .inl (cJ, 32, .inr (.inl (vp_updL (fun k => hJ (S g 112 k)) (hI k).toNatClampNeg (hJ v)))) := by
    unfold hCell hCellR
    rw [if_pos hj, h2]
    show Sum.inl (cJ, 32, Sum.inr (Sum.inl _)) = _
    congr 5
    funext j
    simp only [gset_at, vp_updL, aset]
    by_cases hj : j = k.toNat
    · subst hj; simp [e]
    · have : ¬ ((j : Int) = k) := by omega
      simp [hj, this]
  rw [← hc, hW_set (by omega) (un_F hj 12 (by decide)) (hset_else (Or.inr rfl))] at hP1
  rw [← hS']
  exact ⟨hP1, hR_set hh.2.1 (Or.inr (by decide)), hS1⟩
theorem iv_aald (hx : p.tables.exec = Jvm.exec) (hb : c.code = cc) (hK : va_K D vwCl (hTys cI cJ cF) s) (hP : va_P D vwCl (hW ad cI cJ cF S) H) {k : Int} (hk : 0 ≤ k ∧ k < 5) (hdg : decode cc pc = .ok (.aaload, 1))
    (kk : W p l e R s m args below meth c H locs cells slots Q (F0 m (pc + 1) ls (.ref (ad (2 + k.toNat) 0) :: rest))) : W p l e R s m args below meth c H locs cells slots Q (F0 m pc ls (.int (hI k) :: .ref (ad 9 1) :: rest)) := by
  obtain ⟨h1, h2⟩ := hI_ix (n := 5) hk (by decide)
  refine va_aldq hx hb hK hP 99 2 (hW_at (g := 9) (i := 1) (by decide) rfl) rfl h1 hdg ?_
  rw [h2]
  exact kk
end
theorem cb_X0_lay : hCbV RX0 yX0_lay cX0_lay 13 none 3 := ⟨by decide +kernel, q2_134, q2_135, q1_4, q2_136⟩
theorem cb_X0_light : hCbV RX0 yX0_light cX0_light 6 none 3 := ⟨by decide +kernel, q2_165, qs_6, q1_4, q2_166⟩
theorem cb_X0_isClear : hCbV RX0 yX0_isClear cX0_isClear 1 (some .boolean) 0 := ⟨by decide +kernel, q2_222, q2_223, q1_4, q2_224⟩
theorem cb_X0_isEven : hCbV RX0 yX0_isEven cX0_isEven 4 (some .boolean) 2 := ⟨by decide +kernel, q3_33, q3_34, q1_4, q3_35⟩
theorem cb_X0_isEvenAhead : hCbV RX0 yX0_isEvenAhead cX0_isEvenAhead 6 (some .boolean) 2 := ⟨by decide +kernel, q3_38, qs_8, q1_4, q3_39⟩
theorem cb_X0_columnsOf : hCbS yX0_columnsOf cX0_columnsOf 2 (some .int) 2 := ⟨by decide +kernel, q2_139, q1_4, q2_140⟩
theorem cb_X0_rounded : hCbS yX0_rounded cX0_rounded 6 (some .int) 4 := ⟨by decide +kernel, q2_160, q1_4, q2_161⟩
theorem cb_X1_copy : hCbV RX1 yX1_copy cX1_copy 2 none 1 := ⟨by decide +kernel, q1_233, q1_234, q1_2, q1_235⟩
theorem cb_X1_hasGlyph : hCbV RX1 yX1_hasGlyph cX1_hasGlyph 2 (some .boolean) 1 := ⟨by decide +kernel, q2_33, q2_34, q1_2, q2_35⟩
theorem cb_X1_hasStem : hCbV RX1 yX1_hasStem cX1_hasStem 3 (some .boolean) 2 := ⟨by decide +kernel, q2_61, q2_62, q1_2, q2_63⟩
theorem cb_X1_endOf : hCbV RX1 yX1_endOf cX1_endOf 2 (some .int) 1 := ⟨by decide +kernel, q2_40, q2_41, q1_2, q2_42⟩
theorem cb_X1_addGlyph : hCbV RX1 yX1_addGlyph cX1_addGlyph 3 (some .int) 1 := ⟨by decide +kernel, q2_5, q2_6, q1_2, q2_7⟩
theorem cb_X1_addStem : hCbV RX1 yX1_addStem cX1_addStem 9 (some .int) 3 := ⟨by decide +kernel, q2_29, q2_30, q1_2, q2_31⟩
theorem cb_X1_cutStem : hCbV RX1 yX1_cutStem cX1_cutStem 6 (some .int) 2 := ⟨by decide +kernel, q2_57, q2_58, q1_2, q2_59⟩
theorem cb_X1_moveStem : hCbV RX1 yX1_moveStem cX1_moveStem 3 none 2 := ⟨by decide +kernel, q2_46, qs_2, q1_2, q2_47⟩
theorem cb_X1_putStem : hCbV RX1 yX1_putStem cX1_putStem 5 none 4 := ⟨by decide +kernel, q2_50, qs_3, q1_2, q2_51⟩
theorem cb_X1_hintStem : hCbV RX1 yX1_hintStem cX1_hintStem 6 (some .int) 3 := ⟨by decide +kernel, q2_69, q2_70, q1_2, q2_71⟩
theorem cb_X1_addStandard : hCbV RX1 yX1_addStandard cX1_addStandard 3 (some .int) 1 := ⟨by decide +kernel, q2_77, q2_78, q1_2, q2_79⟩
theorem cb_X1_dropStandard : hCbV RX1 yX1_dropStandard cX1_dropStandard 4 (some .int) 1 := ⟨by decide +kernel, q2_100, q2_101, q1_2, q2_102⟩
theorem cb_X1_standardAt : hCbV RX1 yX1_standardAt cX1_standardAt 3 (some .int) 1 := ⟨by decide +kernel, q2_82, qs_4, q1_2, q2_83⟩
theorem cb_X1_changeSetting : hCbV RX1 yX1_changeSetting cX1_changeSetting 4 (some .int) 2 := ⟨by decide +kernel, q2_182, q2_183, q1_2, q2_184⟩
theorem cb_X1_makeSheet : hCbV RX1 yX1_makeSheet cX1_makeSheet 5 (some .int) 2 := ⟨by decide +kernel, q2_108, q2_109, q1_2, q2_110⟩
theorem cb_X1_isStale : hCbV RX1 yX1_isStale cX1_isStale 6 (some .boolean) 2 := ⟨by decide +kernel, q3_18, q3_19, q1_2, q3_20⟩
theorem cb_X1_snapOf : hCbV RX1 yX1_snapOf cX1_snapOf 6 (some .int) 1 := ⟨by decide +kernel, q2_89, q2_90, q1_2, q2_91⟩
theorem cb_X1_hintedWidth : hCbV RX1 yX1_hintedWidth cX1_hintedWidth 3 (some .int) 1 := ⟨by decide +kernel, q2_193, q2_194, q1_2, q2_195⟩
theorem cb_X1_wideOf : hCbV RX1 yX1_wideOf cX1_wideOf 4 (some .int) 2 := ⟨by decide +kernel, q2_154, q2_155, q1_2, q2_156⟩
theorem cb_X1_alikeWith : hCbV RX1 yX1_alikeWith cX1_alikeWith 5 (some .int) 1 := ⟨by decide +kernel, q2_199, q2_200, q1_2, q2_201⟩
theorem cb_X1_snappingTo : hCbV RX1 yX1_snappingTo cX1_snappingTo 4 (some .int) 1 := ⟨by decide +kernel, q2_86, qs_5, q1_2, q2_87⟩
theorem cb_X1_unlikeWidths : hCbV RX1 yX1_unlikeWidths cX1_unlikeWidths 3 (some .int) 0 := ⟨by decide +kernel, q3_82, q3_83, q1_2, q3_84⟩
theorem cb_X1_isAlikeAhead : hCbV RX1 yX1_isAlikeAhead cX1_isAlikeAhead 4 (some .boolean) 1 := ⟨by decide +kernel, q3_87, qs_11, q1_2, q3_88⟩
theorem cb_X1_stemsTogether : hCbV RX1 yX1_stemsTogether cX1_stemsTogether 3 (some .int) 0 := ⟨by decide +kernel, q3_60, q3_61, q1_2, q3_62⟩
theorem cb_X1_widthsTogether : hCbV RX1 yX1_widthsTogether cX1_widthsTogether 3 (some .int) 0 := ⟨by decide +kernel, q3_64, q3_65, q1_2, q3_66⟩
theorem cb_X2_note : hCbV RX2 yX2_note cX2_note 3 none 1 := ⟨by decide +kernel, q1_222, q1_223, q1_6, q1_224⟩
theorem cb_X2_keep : hCbV RX2 yX2_keep cX2_keep 1 none 0 := ⟨by decide +kernel, q2_21, q2_22, q1_6, q2_23⟩
theorem cb_X2_giveBack : hCbV RX2 yX2_giveBack cX2_giveBack 3 (some .boolean) 1 := ⟨by decide +kernel, q3_94, q3_95, q1_6, q3_96⟩
theorem cb_X2_slotAt : hCbV RX2 yX2_slotAt cX2_slotAt 3 (some (.object "HintedStems$Font")) 1 := ⟨by decide +kernel, q1_227, qs_0, q1_6, q1_228⟩
theorem cb_X3_append : hCbV RX3 yX3_append cX3_append 2 (some .boolean) 1 := ⟨by decide +kernel, q3_103, q3_104, q1_5, q3_105⟩
theorem cb_X3_run : hCbV RX3 yX3_run cX3_run 6 none 2 := ⟨by decide +kernel, q3_117, q3_118, q1_5, q3_119⟩
theorem cb_X3_tell : hCbV RX3 yX3_tell cX3_tell 4 none 3 := ⟨by decide +kernel, q3_139, qs_15, q1_5, q3_140⟩
theorem cb_X3_signAt : hCbV RX3 yX3_signAt cX3_signAt 2 (some .int) 1 := ⟨by decide +kernel, q3_126, qs_13, q1_5, q3_127⟩
theorem cb_X3_isOrder : hCbV RX3 yX3_isOrder cX3_isOrder 4 (some .boolean) 1 := ⟨by decide +kernel, q3_122, qs_12, q1_5, q3_123⟩
theorem cb_X3_numbersOf : hCbS yX3_numbersOf cX3_numbersOf 1 (some .int) 1 := ⟨by decide +kernel, q3_130, q1_5, q3_131⟩
theorem cb_X3_isNumber : hCbV RX3 yX3_isNumber cX3_isNumber 4 (some .boolean) 1 := ⟨by decide +kernel, q3_134, qs_14, q1_5, q3_135⟩
theorem cb_X3_carryOut : hCbV RX3 yX3_carryOut cX3_carryOut 5 (some .int) 3 := ⟨by decide +kernel, q3_143, qs_16, q1_5, q3_144⟩
theorem cb_X4_copy : hCbV RX4 yX4_copy cX4_copy 3 none 1 := ⟨by decide +kernel, q2_0, q2_1, q1_3, q2_2⟩
theorem cb_X4_isMade : hCbV RX4 yX4_isMade cX4_isMade 2 (some .boolean) 1 := ⟨by decide +kernel, q2_124, q2_125, q1_3, q2_126⟩
theorem cb_X4_held : hCbV RX4 yX4_held cX4_held 3 (some .int) 0 := ⟨by decide +kernel, q2_174, q2_175, q1_3, q2_176⟩
theorem cb_X4_slotOf : hCbV RX4 yX4_slotOf cX4_slotOf 3 (some .int) 1 := ⟨by decide +kernel, q2_120, q2_121, q1_3, q2_122⟩
theorem cb_X4_slotAt : hCbV RX4 yX4_slotAt cX4_slotAt 3 (some .int) 1 := ⟨by decide +kernel, q3_10, q3_11, q1_3, q3_12⟩
theorem cb_X4_olderThan : hCbV RX4 yX4_olderThan cX4_olderThan 4 (some .int) 1 := ⟨by decide +kernel, q3_15, qs_7, q1_3, q3_16⟩
theorem cb_X4_slotToMake : hCbV RX4 yX4_slotToMake cX4_slotToMake 5 (some .int) 1 := ⟨by decide +kernel, q2_116, q2_117, q1_3, q2_118⟩
theorem cb_X4_begin : hCbV RX4 yX4_begin cX4_begin 4 none 3 := ⟨by decide +kernel, q2_129, q2_130, q1_3, q2_131⟩
theorem cb_X4_keep : hCbV RX4 yX4_keep cX4_keep 5 none 3 := ⟨by decide +kernel, q2_170, q2_171, q1_3, q2_172⟩
theorem cb_X4_litAt : hCbV RX4 yX4_litAt cX4_litAt 2 (some .long) 1 := ⟨by decide +kernel, q3_2, q3_3, q1_3, q3_4⟩
theorem cb_X4_litTogether : hCbV RX4 yX4_litTogether cX4_litTogether 4 (some .int) 1 := ⟨by decide +kernel, q3_23, q3_24, q1_3, q3_25⟩
theorem cb_X5_glyph : hCbV RX5 yX5_glyph cX5_glyph 2 (some .int) 1 := ⟨by decide +kernel, q1_218, q1_219, q1_1, q1_220⟩
theorem cb_X5_stem : hCbV RX5 yX5_stem cX5_stem 4 (some .int) 3 := ⟨by decide +kernel, q2_25, q2_26, q1_1, q2_27⟩
theorem cb_X5_cut : hCbV RX5 yX5_cut cX5_cut 3 (some .int) 2 := ⟨by decide +kernel, q2_53, q2_54, q1_1, q2_55⟩
theorem cb_X5_hint : hCbV RX5 yX5_hint cX5_hint 4 (some .int) 3 := ⟨by decide +kernel, q2_65, q2_66, q1_1, q2_67⟩
theorem cb_X5_standard : hCbV RX5 yX5_standard cX5_standard 2 (some .int) 1 := ⟨by decide +kernel, q2_73, q2_74, q1_1, q2_75⟩
theorem cb_X5_drop : hCbV RX5 yX5_drop cX5_drop 2 (some .int) 1 := ⟨by decide +kernel, q2_96, q2_97, q1_1, q2_98⟩
theorem cb_X5_make : hCbV RX5 yX5_make cX5_make 2 (some .int) 1 := ⟨by decide +kernel, q2_104, q2_105, q1_1, q2_106⟩
theorem cb_X5_set : hCbV RX5 yX5_set cX5_set 3 (some .int) 2 := ⟨by decide +kernel, q2_178, q2_179, q1_1, q2_180⟩
theorem cb_X5_stemOf : hCbV RX5 yX5_stemOf cX5_stemOf 7 (some .int) 3 := ⟨by decide +kernel, q2_186, q2_187, q1_1, q2_188⟩
theorem cb_X5_pixels : hCbV RX5 yX5_pixels cX5_pixels 5 (some .int) 4 := ⟨by decide +kernel, q2_205, q2_206, q1_1, q2_207⟩
theorem cb_X5_glyphOf : hCbV RX5 yX5_glyphOf cX5_glyphOf 4 (some .int) 3 := ⟨by decide +kernel, q2_211, q2_212, q1_1, q2_213⟩
theorem cb_X5_lit : hCbV RX5 yX5_lit cX5_lit 4 (some .int) 3 := ⟨by decide +kernel, q2_230, q2_231, q1_1, q2_232⟩
theorem cb_X5_inSheet : hCbV RX5 yX5_inSheet cX5_inSheet 7 (some .int) 3 := ⟨by decide +kernel, q2_237, q2_238, q1_1, q2_239⟩
theorem cb_X5_sheetOf : hCbV RX5 yX5_sheetOf cX5_sheetOf 4 (some .int) 2 := ⟨by decide +kernel, q3_6, q3_7, q1_1, q3_8⟩
theorem cb_X5_even : hCbV RX5 yX5_even cX5_even 2 (some .int) 1 := ⟨by decide +kernel, q3_29, q3_30, q1_1, q3_31⟩
theorem cb_X5_clear : hCbV RX5 yX5_clear cX5_clear 3 (some .int) 1 := ⟨by decide +kernel, q3_42, q3_43, q1_1, q3_44⟩
theorem cb_X5_best : hCbV RX5 yX5_best cX5_best 8 (some .int) 3 := ⟨by decide +kernel, q3_46, q3_47, q1_1, q3_48⟩
theorem cb_X5_mean : hCbV RX5 yX5_mean cX5_mean 2 (some .int) 0 := ⟨by decide +kernel, q3_56, q3_57, q1_1, q3_58⟩
theorem cb_X5_count : hCbV RX5 yX5_count cX5_count 2 (some .int) 1 := ⟨by decide +kernel, q3_72, q3_73, q1_1, q3_74⟩
theorem cb_X5_undo : hCbV RX5 yX5_undo cX5_undo 1 (some .int) 0 := ⟨by decide +kernel, q3_90, q3_91, q1_1, q3_92⟩
theorem cb_X5_type : hCbV RX5 yX5_type cX5_type 2 (some .int) 1 := ⟨by decide +kernel, q3_99, q3_100, q1_1, q3_101⟩
theorem cb_X5_clearText : hCbV RX5 yX5_clearText cX5_clearText 2 (some .int) 0 := ⟨by decide +kernel, q3_109, q3_110, q1_1, q3_111⟩
theorem cb_X5_fault : hCbV RX5 yX5_fault cX5_fault 2 (some .int) 1 := ⟨by decide +kernel, q3_113, q3_114, q1_1, q3_115⟩
theorem cb_X5_play : hCbV RX5 yX5_play cX5_play 1 (some .int) 0 := ⟨by decide +kernel, q3_151, q3_152, q1_1, q3_153⟩
theorem cb_X5_settled : hCbV RX5 yX5_settled cX5_settled 2 (some .int) 1 := ⟨by decide +kernel, q2_18, qs_1, q1_1, q2_19⟩
theorem cb_X5_clearSizes : hCbV RX5 yX5_clearSizes cX5_clearSizes 5 (some .int) 2 := ⟨by decide +kernel, q3_53, qs_9, q1_1, q3_54⟩
theorem cb_X5_staleSheets : hCbV RX5 yX5_staleSheets cX5_staleSheets 3 (some .int) 0 := ⟨by decide +kernel, q3_78, qs_10, q1_1, q3_79⟩
theorem cb_X5_within : hCbS yX5_within cX5_within 3 (some .boolean) 3 := ⟨by decide +kernel, q2_9, q1_1, q2_10⟩
theorem cb_X5_isSize : hCbS yX5_isSize cX5_isSize 1 (some .boolean) 1 := ⟨by decide +kernel, q2_112, q1_1, q2_113⟩
theorem cb_X5_inPixels : hCbS yX5_inPixels cX5_inPixels 2 (some .int) 2 := ⟨by decide +kernel, q2_142, q1_1, q2_143⟩
theorem cb_X5_cell : hCbS yX5_cell cX5_cell 2 (some .int) 2 := ⟨by decide +kernel, q2_37, q1_1, q2_38⟩
theorem cb_X5_put : hCbS yX5_put cX5_put 3 none 3 := ⟨by decide +kernel, q2_14, q1_1, q2_15⟩
theorem cb_X5_copyRow : hCbS yX5_copyRow cX5_copyRow 3 none 2 := ⟨by decide +kernel, q1_237, q1_1, q1_238⟩
theorem cb_X5_bitOf : hCbS yX5_bitOf cX5_bitOf 3 (some .int) 2 := ⟨by decide +kernel, q2_234, q1_1, q2_235⟩
theorem cb_X5_runsOf : hCbS yX5_runsOf cX5_runsOf 2 (some .int) 1 := ⟨by decide +kernel, q2_226, q1_1, q2_227⟩
theorem cb_X5_bitsOf : hCbS yX5_bitsOf cX5_bitsOf 3 (some .int) 1 := ⟨by decide +kernel, q3_68, q1_1, q3_69⟩
theorem cb_X6_in : hCbS yX6_in cX6_in 3 (some .boolean) 3 := ⟨by decide +kernel, q3_217, q1_7, q3_218⟩
theorem cb_X6_floor : hCbS yX6_floor cX6_floor 2 (some .int) 2 := ⟨by decide +kernel, q4_84, q1_7, q4_85⟩
theorem cb_X6_copies : hCbS yX6_copies cX6_copies 3 none 2 := ⟨by decide +kernel, q4_220, q1_7, q4_221⟩
theorem cb_X6_changes : hCbV RX6 yX6_changes cX6_changes 2 none 0 := ⟨by decide +kernel, q3_223, qs_17, q1_7, q3_224⟩
theorem cb_X6_isSize : hCbS yX6_isSize cX6_isSize 1 (some .boolean) 1 := ⟨by decide +kernel, q4_50, q1_7, q4_51⟩
theorem cb_X6_isGlyph : hCbV RX6 yX6_isGlyph cX6_isGlyph 2 (some .boolean) 1 := ⟨by decide +kernel, q3_231, qs_18, q1_7, q3_232⟩
theorem cb_X6_of : hCbV RX6 yX6_of cX6_of 3 (some .int) 2 := ⟨by decide +kernel, q3_239, qs_20, q1_7, q4_0⟩
theorem cb_X6_isStem : hCbV RX6 yX6_isStem cX6_isStem 3 (some .boolean) 2 := ⟨by decide +kernel, q4_19, qs_23, q1_7, q4_20⟩
theorem cb_X6_at : hCbS yX6_at cX6_at 3 (some .int) 3 := ⟨by decide +kernel, q4_6, q1_7, q4_7⟩
theorem cb_X6_ofStem : hCbV RX6 yX6_ofStem cX6_ofStem 4 (some .int) 3 := ⟨by decide +kernel, q4_3, qs_21, q1_7, q4_4⟩
theorem cb_X6_endOf : hCbV RX6 yX6_endOf cX6_endOf 3 (some .int) 2 := ⟨by decide +kernel, q4_10, qs_22, q1_7, q4_11⟩
theorem cb_X6_glyph : hCbV RX6 yX6_glyph cX6_glyph 3 (some .int) 1 := ⟨by decide +kernel, q3_213, q3_214, q1_7, q3_215⟩
theorem cb_X6_ahead : hCbV RX6 yX6_ahead cX6_ahead 4 (some .int) 2 := ⟨by decide +kernel, q3_235, qs_19, q1_7, q3_236⟩
theorem cb_X6_stem : hCbV RX6 yX6_stem cX6_stem 8 (some .int) 3 := ⟨by decide +kernel, q3_226, q3_227, q1_7, q3_228⟩
theorem cb_X6_cut : hCbV RX6 yX6_cut cX6_cut 4 (some .int) 2 := ⟨by decide +kernel, q4_14, q4_15, q1_7, q4_16⟩
theorem cb_X6_hint : hCbV RX6 yX6_hint cX6_hint 5 (some .int) 3 := ⟨by decide +kernel, q4_22, q4_23, q1_7, q4_24⟩
theorem cb_X6_wideAt : hCbV RX6 yX6_wideAt cX6_wideAt 3 (some .int) 1 := ⟨by decide +kernel, q4_31, qs_24, q1_7, q4_32⟩
theorem cb_X6_size : hCbS yX6_size cX6_size 1 (some .int) 1 := ⟨by decide +kernel, q4_39, q1_7, q4_40⟩
theorem cb_X6_snaps : hCbV RX6 yX6_snaps cX6_snaps 7 (some .int) 1 := ⟨by decide +kernel, q4_36, qs_25, q1_7, q4_37⟩
theorem cb_X6_hinted : hCbV RX6 yX6_hinted cX6_hinted 4 (some .int) 2 := ⟨by decide +kernel, q4_74, qs_31, q1_7, q4_75⟩
theorem cb_X6_standard : hCbV RX6 yX6_standard cX6_standard 6 (some .int) 1 := ⟨by decide +kernel, q4_26, q4_27, q1_7, q4_28⟩
theorem cb_X6_drop : hCbV RX6 yX6_drop cX6_drop 4 (some .int) 1 := ⟨by decide +kernel, q4_42, q4_43, q1_7, q4_44⟩
theorem cb_X6_inPixels : hCbS yX6_inPixels cX6_inPixels 2 (some .int) 2 := ⟨by decide +kernel, q4_77, q1_7, q4_78⟩
theorem cb_X6_pixelsOf : hCbV RX6 yX6_pixelsOf cX6_pixelsOf 5 (some .int) 3 := ⟨by decide +kernel, q4_70, qs_30, q1_7, q4_71⟩
theorem cb_X6_columns : hCbV RX6 yX6_columns cX6_columns 4 (some .int) 2 := ⟨by decide +kernel, q4_88, qs_33, q1_7, q4_89⟩
theorem cb_X6_rounded : hCbV RX6 yX6_rounded cX6_rounded 8 (some .int) 3 := ⟨by decide +kernel, q4_81, qs_32, q1_7, q4_82⟩
theorem cb_X6_lays : hCbV RX6 yX6_lays cX6_lays 6 none 2 := ⟨by decide +kernel, q4_66, qs_29, q1_7, q4_67⟩
theorem cb_X6_cuts : hCbV RX6 yX6_cuts cX6_cuts 5 (some .int) 2 := ⟨by decide +kernel, q4_116, qs_37, q1_7, q4_117⟩
theorem cb_X6_isClear : hCbV RX6 yX6_isClear cX6_isClear 3 (some .boolean) 2 := ⟨by decide +kernel, q4_127, qs_38, q1_7, q4_128⟩
theorem cb_X6_isLit : hCbV RX6 yX6_isLit cX6_isLit 5 (some .boolean) 2 := ⟨by decide +kernel, q4_96, qs_35, q1_7, q4_97⟩
theorem cb_X6_litHalf : hCbV RX6 yX6_litHalf cX6_litHalf 6 (some .int) 3 := ⟨by decide +kernel, q4_92, qs_34, q1_7, q4_93⟩
theorem cb_X6_ofSheet : hCbV RX6 yX6_ofSheet cX6_ofSheet 3 (some .int) 2 := ⟨by decide +kernel, q4_58, qs_27, q1_7, q4_59⟩
theorem cb_X6_sheetAt : hCbV RX6 yX6_sheetAt cX6_sheetAt 3 (some .int) 1 := ⟨by decide +kernel, q4_54, qs_26, q1_7, q4_55⟩
theorem cb_X6_takesSheet : hCbV RX6 yX6_takesSheet cX6_takesSheet 3 none 1 := ⟨by decide +kernel, q4_62, qs_28, q1_7, q4_63⟩
theorem cb_X6_make : hCbV RX6 yX6_make cX6_make 6 (some .int) 1 := ⟨by decide +kernel, q4_46, q4_47, q1_7, q4_48⟩
theorem cb_X6_isStale : hCbV RX6 yX6_isStale cX6_isStale 6 (some .boolean) 1 := ⟨by decide +kernel, q4_147, qs_40, q1_7, q4_148⟩
theorem cb_X6_ones : hCbS yX6_ones cX6_ones 3 (some .int) 1 := ⟨by decide +kernel, q4_123, q1_7, q4_124⟩
theorem cb_X6_litIn : hCbV RX6 yX6_litIn cX6_litIn 4 (some .int) 1 := ⟨by decide +kernel, q4_151, qs_41, q1_7, q4_152⟩
theorem cb_X6_set : hCbV RX6 yX6_set cX6_set 4 (some .int) 2 := ⟨by decide +kernel, q4_99, q4_100, q1_7, q4_101⟩
theorem cb_X6_alike : hCbV RX6 yX6_alike cX6_alike 5 (some .int) 1 := ⟨by decide +kernel, q4_108, qs_36, q1_7, q4_109⟩
theorem cb_X6_stemOf : hCbV RX6 yX6_stemOf cX6_stemOf 4 (some .int) 3 := ⟨by decide +kernel, q4_103, q4_104, q1_7, q4_105⟩
theorem cb_X6_pixels : hCbV RX6 yX6_pixels cX6_pixels 5 (some .int) 4 := ⟨by decide +kernel, q4_111, q4_112, q1_7, q4_113⟩
theorem cb_X6_runsOf : hCbV RX6 yX6_runsOf cX6_runsOf 5 (some .int) 2 := ⟨by decide +kernel, q4_131, qs_39, q1_7, q4_132⟩
theorem cb_X6_glyphOf : hCbV RX6 yX6_glyphOf cX6_glyphOf 4 (some .int) 3 := ⟨by decide +kernel, q4_119, q4_120, q1_7, q4_121⟩
theorem cb_X6_lit : hCbV RX6 yX6_lit cX6_lit 4 (some .int) 3 := ⟨by decide +kernel, q4_134, q4_135, q1_7, q4_136⟩
theorem cb_X6_inSheet : hCbV RX6 yX6_inSheet cX6_inSheet 5 (some .int) 3 := ⟨by decide +kernel, q4_138, q4_139, q1_7, q4_140⟩
theorem cb_X6_sheetOf : hCbV RX6 yX6_sheetOf cX6_sheetOf 3 (some .int) 2 := ⟨by decide +kernel, q4_142, q4_143, q1_7, q4_144⟩
theorem cb_X6_isEven : hCbV RX6 yX6_isEven cX6_isEven 8 (some .boolean) 3 := ⟨by decide +kernel, q4_159, qs_42, q1_7, q4_160⟩
theorem cb_X6_even : hCbV RX6 yX6_even cX6_even 5 (some .int) 1 := ⟨by decide +kernel, q4_154, q4_155, q1_7, q4_156⟩
theorem cb_X6_clear : hCbV RX6 yX6_clear cX6_clear 3 (some .int) 1 := ⟨by decide +kernel, q4_162, q4_163, q1_7, q4_164⟩
theorem cb_X6_clearSizes : hCbV RX6 yX6_clearSizes cX6_clearSizes 4 (some .int) 1 := ⟨by decide +kernel, q4_171, qs_43, q1_7, q4_172⟩
theorem cb_X6_best : hCbV RX6 yX6_best cX6_best 9 (some .int) 3 := ⟨by decide +kernel, q4_166, q4_167, q1_7, q4_168⟩
theorem cb_X6_stems : hCbV RX6 yX6_stems cX6_stems 3 (some .int) 0 := ⟨by decide +kernel, q4_179, qs_44, q1_7, q4_180⟩
theorem cb_X6_mean : hCbV RX6 yX6_mean cX6_mean 4 (some .int) 0 := ⟨by decide +kernel, q4_174, q4_175, q1_7, q4_176⟩
theorem cb_X6_stales : hCbV RX6 yX6_stales cX6_stales 3 (some .int) 0 := ⟨by decide +kernel, q4_197, qs_45, q1_7, q4_198⟩
theorem cb_X6_unlikeWidths : hCbV RX6 yX6_unlikeWidths cX6_unlikeWidths 3 (some .int) 0 := ⟨by decide +kernel, q4_201, qs_46, q1_7, q4_202⟩
theorem cb_X6_count : hCbV RX6 yX6_count cX6_count 2 (some .int) 1 := ⟨by decide +kernel, q4_192, q4_193, q1_7, q4_194⟩
theorem cb_X6_undo : hCbV RX6 yX6_undo cX6_undo 2 (some .int) 0 := ⟨by decide +kernel, q4_204, q4_205, q1_7, q4_206⟩
theorem cb_X6_type : hCbV RX6 yX6_type cX6_type 2 (some .int) 1 := ⟨by decide +kernel, q4_208, q4_209, q1_7, q4_210⟩
theorem cb_X6_clearText : hCbV RX6 yX6_clearText cX6_clearText 2 (some .int) 0 := ⟨by decide +kernel, q4_212, q4_213, q1_7, q4_214⟩
theorem cb_X6_isAt : hCbV RX6 yX6_isAt cX6_isAt 3 (some .boolean) 2 := ⟨by decide +kernel, q4_232, qs_49, q1_7, q4_233⟩
theorem cb_X6_sign : hCbV RX6 yX6_sign cX6_sign 3 (some .boolean) 1 := ⟨by decide +kernel, q5_3, qs_51, q1_7, q5_4⟩
theorem cb_X6_numbered : hCbV RX6 yX6_numbered cX6_numbered 3 (some .boolean) 1 := ⟨by decide +kernel, q4_239, qs_50, q1_7, q5_0⟩
theorem cb_X6_numbersOf : hCbS yX6_numbersOf cX6_numbersOf 1 (some .int) 1 := ⟨by decide +kernel, q4_235, q1_7, q4_236⟩
theorem cb_X6_reads : hCbV RX6 yX6_reads cX6_reads 4 (some .boolean) 0 := ⟨by decide +kernel, q4_228, qs_48, q1_7, q4_229⟩
theorem cb_X6_calls : hCbV RX6 yX6_calls cX6_calls 1 (some .int) 0 := ⟨by decide +kernel, q5_7, qs_52, q1_7, q5_8⟩
theorem cb_X6_plays : hCbV RX6 yX6_plays cX6_plays 4 (some .boolean) 0 := ⟨by decide +kernel, q4_224, qs_47, q1_7, q4_225⟩
theorem cb_X6_fault : hCbV RX6 yX6_fault cX6_fault 3 (some .int) 1 := ⟨by decide +kernel, q4_216, q4_217, q1_7, q4_218⟩
theorem cb_X6_play : hCbV RX6 yX6_play cX6_play 2 (some .int) 0 := ⟨by decide +kernel, q5_15, q5_16, q1_7, q5_17⟩
theorem cb_Jxf58ca_isNaN_12338 : hCbS yJxf58ca_isNaN_12338 cJxf58ca_isNaN_12338 1 (some .boolean) 1 := ⟨by decide +kernel, q4_185, q1_10, q4_186⟩
theorem cb_Jxf58ca_floatToIntBits_5c35a : hCbS yJxf58ca_floatToIntBits_5c35a cJxf58ca_floatToIntBits_5c35a 1 (some .int) 1 := ⟨by decide +kernel, q4_182, q1_10, q4_183⟩
theorem cb_J13_bitCount_95d88 : hCbS yJ13_bitCount_95d88 cJ13_bitCount_95d88 2 (some .int) 1 := ⟨by decide +kernel, q2_216, q1_9, q2_217⟩
theorem cb_J9_floorDiv_7cf53 : hCbS yJ9_floorDiv_7cf53 cJ9_floorDiv_7cf53 3 (some .int) 2 := ⟨by decide +kernel, q2_145, q1_8, q2_146⟩
theorem cb_J9_floorMod_7cf53 : hCbS yJ9_floorMod_7cf53 cJ9_floorMod_7cf53 3 (some .int) 2 := ⟨by decide +kernel, q1_230, q1_8, q1_231⟩
theorem cb_J9_abs_0f7a4 : hCbS yJ9_abs_0f7a4 cJ9_abs_0f7a4 1 (some .int) 1 := ⟨by decide +kernel, q2_93, q1_8, q2_94⟩
theorem cb_J9_max_7cf53 : hCbS yJ9_max_7cf53 cJ9_max_7cf53 2 (some .int) 2 := ⟨by decide +kernel, q2_151, q1_8, q2_152⟩
theorem cb_J9_min_7cf53 : hCbS yJ9_min_7cf53 cJ9_min_7cf53 2 (some .int) 2 := ⟨by decide +kernel, q2_148, q1_8, q2_149⟩

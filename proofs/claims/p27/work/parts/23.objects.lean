/-! the objects of the world, and their fields (laid by program) -/
section
variable {ad : Nat → Nat → Nat} {cI cJ cF : ClassId} {S : hS} {g : Nat}
theorem un_F (hj : g < 7) (i : Nat) (hi : i < 13) : hUnpos (13 * g + i) = (g, i) := by
  unfold hUnpos
  rw [if_pos (by omega)]
  exact Prod.ext (by show (13 * g + i) / 13 = g; omega) (by show (13 * g + i) % 13 = i; omega)
theorem un_Fit : hUnpos 91 = (7, 0) := rfl
theorem un_Orders : hUnpos 95 = (8, 0) := rfl
theorem un_Hist : hUnpos 98 = (9, 0) := rfl
theorem un_X : hUnpos 100 = (11, 0) := rfl
theorem un_Font (hj : g < 7) : hUnpos (13 * g) = (g, 0) := un_F hj 0 (by decide)
theorem un_Sheets (hj : g < 7) : hUnpos (13 * g + 7) = (g, 7) := un_F hj 7 (by decide)
theorem hr_Font (hj : g < 7) (r rl : Int → Int) : hCellR ad cI cJ cF g 0 r rl = .inr (1, [.int (hI (r 0)), .int (hI (r 1)), .int (hI (r 2)), .int (hI (r 3)), .ref (ad g 1), .ref (ad g 2), .ref (ad g 3), .ref (ad g 4), .ref (ad g 5), .ref (ad g 6), .ref (ad g 7)]) := by
  unfold hCellR
  rw [if_pos hj]
  rfl
theorem ob_Font (hj : g < 7) : (hW ad cI cJ cF S)[13 * g]? = some (ad g 0, .inr (1, [.int (hI (S g 0 0)), .int (hI (S g 0 1)), .int (hI (S g 0 2)), .int (hI (S g 0 3)), .ref (ad g 1), .ref (ad g 2), .ref (ad g 3), .ref (ad g 4), .ref (ad g 5), .ref (ad g 6), .ref (ad g 7)])) := by
  rw [hW_at (g := g) (i := 0) (h112 (by omega)) (un_Font hj)]
  unfold hCell
  rw [hr_Font hj]
theorem pu_Font_glyphs (hj : g < 7) {x : Int} : hCell ad cI cJ cF (gset S g (aset (S g) 0 0 x)) g 0 = .inr (1, List.set [.int (hI (S g 0 0)), .int (hI (S g 0 1)), .int (hI (S g 0 2)), .int (hI (S g 0 3)), .ref (ad g 1), .ref (ad g 2), .ref (ad g 3), .ref (ad g 4), .ref (ad g 5), .ref (ad g 6), .ref (ad g 7)] 0 (.int (hI x))) := by
  unfold hCell
  rw [hr_Font hj]
  simp [gset, aset, List.set]
theorem pu_Font_standards (hj : g < 7) {x : Int} : hCell ad cI cJ cF (gset S g (aset (S g) 0 1 x)) g 0 = .inr (1, List.set [.int (hI (S g 0 0)), .int (hI (S g 0 1)), .int (hI (S g 0 2)), .int (hI (S g 0 3)), .ref (ad g 1), .ref (ad g 2), .ref (ad g 3), .ref (ad g 4), .ref (ad g 5), .ref (ad g 6), .ref (ad g 7)] 1 (.int (hI x))) := by
  unfold hCell
  rw [hr_Font hj]
  simp [gset, aset, List.set]
theorem pu_Font_cutoff (hj : g < 7) {x : Int} : hCell ad cI cJ cF (gset S g (aset (S g) 0 2 x)) g 0 = .inr (1, List.set [.int (hI (S g 0 0)), .int (hI (S g 0 1)), .int (hI (S g 0 2)), .int (hI (S g 0 3)), .ref (ad g 1), .ref (ad g 2), .ref (ad g 3), .ref (ad g 4), .ref (ad g 5), .ref (ad g 6), .ref (ad g 7)] 2 (.int (hI x))) := by
  unfold hCell
  rw [hr_Font hj]
  simp [gset, aset, List.set]
theorem pu_Font_leastGap (hj : g < 7) {x : Int} : hCell ad cI cJ cF (gset S g (aset (S g) 0 3 x)) g 0 = .inr (1, List.set [.int (hI (S g 0 0)), .int (hI (S g 0 1)), .int (hI (S g 0 2)), .int (hI (S g 0 3)), .ref (ad g 1), .ref (ad g 2), .ref (ad g 3), .ref (ad g 4), .ref (ad g 5), .ref (ad g 6), .ref (ad g 7)] 3 (.int (hI x))) := by
  unfold hCell
  rw [hr_Font hj]
  simp [gset, aset, List.set]
theorem hr_Sheets (hj : g < 7) (r rl : Int → Int) : hCellR ad cI cJ cF g 7 r rl = .inr (4, [.int (hI (r 0)), .ref (ad g 8), .ref (ad g 9), .ref (ad g 10), .ref (ad g 11), .ref (ad g 12)]) := by
  unfold hCellR
  rw [if_pos hj]
  rfl
theorem ob_Sheets (hj : g < 7) : (hW ad cI cJ cF S)[13 * g + 7]? = some (ad g 7, .inr (4, [.int (hI (S g 7 0)), .ref (ad g 8), .ref (ad g 9), .ref (ad g 10), .ref (ad g 11), .ref (ad g 12)])) := by
  rw [hW_at (g := g) (i := 7) (h112 (by omega)) (un_Sheets hj)]
  unfold hCell
  rw [hr_Sheets hj]
theorem pu_Sheets_made (hj : g < 7) {x : Int} : hCell ad cI cJ cF (gset S g (aset (S g) 7 0 x)) g 7 = .inr (4, List.set [.int (hI (S g 7 0)), .ref (ad g 8), .ref (ad g 9), .ref (ad g 10), .ref (ad g 11), .ref (ad g 12)] 0 (.int (hI x))) := by
  unfold hCell
  rw [hr_Sheets hj]
  simp [gset, aset, List.set]
theorem hr_Fit (r rl : Int → Int) : hCellR ad cI cJ cF 7 0 r rl = .inr (0, [.int (hI (r 0)), .int (hI (r 1)), .int (hI (r 2)), .long (hJ (rl 0)), .ref (ad 7 1), .ref (ad 7 2), .ref (ad 7 3)]) := rfl
theorem ob_Fit : (hW ad cI cJ cF S)[91]? = some (ad 7 0, .inr (0, [.int (hI (S 7 0 0)), .int (hI (S 7 0 1)), .int (hI (S 7 0 2)), .long (hJ (S 7 100 0)), .ref (ad 7 1), .ref (ad 7 2), .ref (ad 7 3)])) := by
  rw [hW_at (g := 7) (i := 0) (h112 (by decide)) rfl]
  rfl
theorem pu_Fit_columns {x : Int} : hCell ad cI cJ cF (gset S 7 (aset (S 7) 0 0 x)) 7 0 = .inr (0, List.set [.int (hI (S 7 0 0)), .int (hI (S 7 0 1)), .int (hI (S 7 0 2)), .long (hJ (S 7 100 0)), .ref (ad 7 1), .ref (ad 7 2), .ref (ad 7 3)] 0 (.int (hI x))) := by
  unfold hCell
  rw [hr_Fit]
  simp [gset, aset, List.set]
theorem pu_Fit_pushed {x : Int} : hCell ad cI cJ cF (gset S 7 (aset (S 7) 0 1 x)) 7 0 = .inr (0, List.set [.int (hI (S 7 0 0)), .int (hI (S 7 0 1)), .int (hI (S 7 0 2)), .long (hJ (S 7 100 0)), .ref (ad 7 1), .ref (ad 7 2), .ref (ad 7 3)] 1 (.int (hI x))) := by
  unfold hCell
  rw [hr_Fit]
  simp [gset, aset, List.set]
theorem pu_Fit_clipped {x : Int} : hCell ad cI cJ cF (gset S 7 (aset (S 7) 0 2 x)) 7 0 = .inr (0, List.set [.int (hI (S 7 0 0)), .int (hI (S 7 0 1)), .int (hI (S 7 0 2)), .long (hJ (S 7 100 0)), .ref (ad 7 1), .ref (ad 7 2), .ref (ad 7 3)] 2 (.int (hI x))) := by
  unfold hCell
  rw [hr_Fit]
  simp [gset, aset, List.set]
theorem pu_Fit_lit {x : Int} : hCell ad cI cJ cF (gset S 7 (aset (S 7) 100 0 x)) 7 0 = .inr (0, List.set [.int (hI (S 7 0 0)), .int (hI (S 7 0 1)), .int (hI (S 7 0 2)), .long (hJ (S 7 100 0)), .ref (ad 7 1), .ref (ad 7 2), .ref (ad 7 3)] 3 (.long (hJ x))) := by
  unfold hCell
  rw [hr_Fit]
  simp [gset, aset, List.set]
theorem hr_Orders (r rl : Int → Int) : hCellR ad cI cJ cF 8 0 r rl = .inr (3, [.ref (ad 8 1), .int (hI (r 1)), .ref (ad 8 2), .int (hI (r 3)), .int (hI (r 4)), .int (hI (r 5)), .int (hI (r 6)), .int (hI (r 7))]) := rfl
theorem ob_Orders : (hW ad cI cJ cF S)[95]? = some (ad 8 0, .inr (3, [.ref (ad 8 1), .int (hI (S 8 0 1)), .ref (ad 8 2), .int (hI (S 8 0 3)), .int (hI (S 8 0 4)), .int (hI (S 8 0 5)), .int (hI (S 8 0 6)), .int (hI (S 8 0 7))])) := by
  rw [hW_at (g := 8) (i := 0) (h112 (by decide)) rfl]
  rfl
theorem pu_Orders_length {x : Int} : hCell ad cI cJ cF (gset S 8 (aset (S 8) 0 1 x)) 8 0 = .inr (3, List.set [.ref (ad 8 1), .int (hI (S 8 0 1)), .ref (ad 8 2), .int (hI (S 8 0 3)), .int (hI (S 8 0 4)), .int (hI (S 8 0 5)), .int (hI (S 8 0 6)), .int (hI (S 8 0 7))] 1 (.int (hI x))) := by
  unfold hCell
  rw [hr_Orders]
  simp [gset, aset, List.set]
theorem pu_Orders_reached {x : Int} : hCell ad cI cJ cF (gset S 8 (aset (S 8) 0 3 x)) 8 0 = .inr (3, List.set [.ref (ad 8 1), .int (hI (S 8 0 1)), .ref (ad 8 2), .int (hI (S 8 0 3)), .int (hI (S 8 0 4)), .int (hI (S 8 0 5)), .int (hI (S 8 0 6)), .int (hI (S 8 0 7))] 3 (.int (hI x))) := by
  unfold hCell
  rw [hr_Orders]
  simp [gset, aset, List.set]
theorem pu_Orders_done {x : Int} : hCell ad cI cJ cF (gset S 8 (aset (S 8) 0 4 x)) 8 0 = .inr (3, List.set [.ref (ad 8 1), .int (hI (S 8 0 1)), .ref (ad 8 2), .int (hI (S 8 0 3)), .int (hI (S 8 0 4)), .int (hI (S 8 0 5)), .int (hI (S 8 0 6)), .int (hI (S 8 0 7))] 4 (.int (hI x))) := by
  unfold hCell
  rw [hr_Orders]
  simp [gset, aset, List.set]
theorem pu_Orders_position {x : Int} : hCell ad cI cJ cF (gset S 8 (aset (S 8) 0 5 x)) 8 0 = .inr (3, List.set [.ref (ad 8 1), .int (hI (S 8 0 1)), .ref (ad 8 2), .int (hI (S 8 0 3)), .int (hI (S 8 0 4)), .int (hI (S 8 0 5)), .int (hI (S 8 0 6)), .int (hI (S 8 0 7))] 5 (.int (hI x))) := by
  unfold hCell
  rw [hr_Orders]
  simp [gset, aset, List.set]
theorem pu_Orders_reason {x : Int} : hCell ad cI cJ cF (gset S 8 (aset (S 8) 0 6 x)) 8 0 = .inr (3, List.set [.ref (ad 8 1), .int (hI (S 8 0 1)), .ref (ad 8 2), .int (hI (S 8 0 3)), .int (hI (S 8 0 4)), .int (hI (S 8 0 5)), .int (hI (S 8 0 6)), .int (hI (S 8 0 7))] 6 (.int (hI x))) := by
  unfold hCell
  rw [hr_Orders]
  simp [gset, aset, List.set]
theorem pu_Orders_cause {x : Int} : hCell ad cI cJ cF (gset S 8 (aset (S 8) 0 7 x)) 8 0 = .inr (3, List.set [.ref (ad 8 1), .int (hI (S 8 0 1)), .ref (ad 8 2), .int (hI (S 8 0 3)), .int (hI (S 8 0 4)), .int (hI (S 8 0 5)), .int (hI (S 8 0 6)), .int (hI (S 8 0 7))] 7 (.int (hI x))) := by
  unfold hCell
  rw [hr_Orders]
  simp [gset, aset, List.set]
theorem hr_Hist (r rl : Int → Int) : hCellR ad cI cJ cF 9 0 r rl = .inr (2, [.ref (ad 9 1), .int (hI (r 1)), .int (hI (r 2))]) := rfl
theorem ob_Hist : (hW ad cI cJ cF S)[98]? = some (ad 9 0, .inr (2, [.ref (ad 9 1), .int (hI (S 9 0 1)), .int (hI (S 9 0 2))])) := by
  rw [hW_at (g := 9) (i := 0) (h112 (by decide)) rfl]
  rfl
theorem pu_Hist_oldest {x : Int} : hCell ad cI cJ cF (gset S 9 (aset (S 9) 0 1 x)) 9 0 = .inr (2, List.set [.ref (ad 9 1), .int (hI (S 9 0 1)), .int (hI (S 9 0 2))] 1 (.int (hI x))) := by
  unfold hCell
  rw [hr_Hist]
  simp [gset, aset, List.set]
theorem pu_Hist_kept {x : Int} : hCell ad cI cJ cF (gset S 9 (aset (S 9) 0 2 x)) 9 0 = .inr (2, List.set [.ref (ad 9 1), .int (hI (S 9 0 1)), .int (hI (S 9 0 2))] 2 (.int (hI x))) := by
  unfold hCell
  rw [hr_Hist]
  simp [gset, aset, List.set]
theorem hr_X (r rl : Int → Int) : hCellR ad cI cJ cF 11 0 r rl = .inr (5, [.ref (ad 0 0), .ref (ad 1 0), .ref (ad 7 0), .ref (ad 8 0), .ref (ad 9 0)]) := rfl
theorem ob_X : (hW ad cI cJ cF S)[100]? = some (ad 11 0, .inr (5, [.ref (ad 0 0), .ref (ad 1 0), .ref (ad 7 0), .ref (ad 8 0), .ref (ad 9 0)])) := by
  rw [hW_at (g := 11) (i := 0) (h112 (by decide)) rfl]
  rfl
theorem ia_F_1 (hj : g < 7) : hIA ad cI cJ cF g 1 8 (13 * g + 1)   := ⟨h112 (by omega), un_F hj 1 (by decide), by decide, by decide, fun r rl => by unfold hCellR; rw [if_pos hj]; rfl⟩
theorem ia_F_2 (hj : g < 7) : hIA ad cI cJ cF g 2 8 (13 * g + 2)   := ⟨h112 (by omega), un_F hj 2 (by decide), by decide, by decide, fun r rl => by unfold hCellR; rw [if_pos hj]; rfl⟩
theorem ia_F_3 (hj : g < 7) : hIA ad cI cJ cF g 3 48 (13 * g + 3)   := ⟨h112 (by omega), un_F hj 3 (by decide), by decide, by decide, fun r rl => by unfold hCellR; rw [if_pos hj]; rfl⟩
theorem ia_F_4 (hj : g < 7) : hIA ad cI cJ cF g 4 48 (13 * g + 4)   := ⟨h112 (by omega), un_F hj 4 (by decide), by decide, by decide, fun r rl => by unfold hCellR; rw [if_pos hj]; rfl⟩
theorem ia_F_5 (hj : g < 7) : hIA ad cI cJ cF g 5 48 (13 * g + 5)   := ⟨h112 (by omega), un_F hj 5 (by decide), by decide, by decide, fun r rl => by unfold hCellR; rw [if_pos hj]; rfl⟩
theorem ia_F_6 (hj : g < 7) : hIA ad cI cJ cF g 6 3 (13 * g + 6)   := ⟨h112 (by omega), un_F hj 6 (by decide), by decide, by decide, fun r rl => by unfold hCellR; rw [if_pos hj]; rfl⟩
theorem ia_F_8 (hj : g < 7) : hIA ad cI cJ cF g 8 4 (13 * g + 8)   := ⟨h112 (by omega), un_F hj 8 (by decide), by decide, by decide, fun r rl => by unfold hCellR; rw [if_pos hj]; rfl⟩
theorem ia_F_9 (hj : g < 7) : hIA ad cI cJ cF g 9 4 (13 * g + 9)   := ⟨h112 (by omega), un_F hj 9 (by decide), by decide, by decide, fun r rl => by unfold hCellR; rw [if_pos hj]; rfl⟩
theorem ia_F_10 (hj : g < 7) : hIA ad cI cJ cF g 10 4 (13 * g + 10)   := ⟨h112 (by omega), un_F hj 10 (by decide), by decide, by decide, fun r rl => by unfold hCellR; rw [if_pos hj]; rfl⟩
theorem ia_F_11 (hj : g < 7) : hIA ad cI cJ cF g 11 32 (13 * g + 11)   := ⟨h112 (by omega), un_F hj 11 (by decide), by decide, by decide, fun r rl => by unfold hCellR; rw [if_pos hj]; rfl⟩
theorem ia_7_1 : hIA ad cI cJ cF 7 1 6 92 := ⟨h112 (by decide), by decide, by decide, by decide, fun r rl => rfl⟩
theorem ia_7_2 : hIA ad cI cJ cF 7 2 6 93 := ⟨h112 (by decide), by decide, by decide, by decide, fun r rl => rfl⟩
theorem ia_7_3 : hIA ad cI cJ cF 7 3 48 94 := ⟨h112 (by decide), by decide, by decide, by decide, fun r rl => rfl⟩
theorem ia_8_1 : hIA ad cI cJ cF 8 1 60 96 := ⟨h112 (by decide), by decide, by decide, by decide, fun r rl => rfl⟩
theorem ia_8_2 : hIA ad cI cJ cF 8 2 3 97 := ⟨h112 (by decide), by decide, by decide, by decide, fun r rl => rfl⟩
theorem ia_10_1 : hIA ad cI cJ cF 10 1 4 101 := ⟨h112 (by decide), by decide, by decide, by decide, fun r rl => rfl⟩
theorem ia_10_2 : hIA ad cI cJ cF 10 2 8 102 := ⟨h112 (by decide), by decide, by decide, by decide, fun r rl => rfl⟩
theorem ia_10_3 : hIA ad cI cJ cF 10 3 8 103 := ⟨h112 (by decide), by decide, by decide, by decide, fun r rl => rfl⟩
theorem ia_10_4 : hIA ad cI cJ cF 10 4 49 104 := ⟨h112 (by decide), by decide, by decide, by decide, fun r rl => rfl⟩
theorem ia_10_5 : hIA ad cI cJ cF 10 5 49 105 := ⟨h112 (by decide), by decide, by decide, by decide, fun r rl => rfl⟩
theorem ia_10_6 : hIA ad cI cJ cF 10 6 49 106 := ⟨h112 (by decide), by decide, by decide, by decide, fun r rl => rfl⟩
theorem ia_10_7 : hIA ad cI cJ cF 10 7 3 107 := ⟨h112 (by decide), by decide, by decide, by decide, fun r rl => rfl⟩
theorem ia_10_8 : hIA ad cI cJ cF 10 8 4 108 := ⟨h112 (by decide), by decide, by decide, by decide, fun r rl => rfl⟩
theorem ia_10_9 : hIA ad cI cJ cF 10 9 4 109 := ⟨h112 (by decide), by decide, by decide, by decide, fun r rl => rfl⟩
theorem ia_10_10 : hIA ad cI cJ cF 10 10 32 110 := ⟨h112 (by decide), by decide, by decide, by decide, fun r rl => rfl⟩
theorem ia_10_12 (hf : ad 99 1 = 1) : hIA ad cI cJ cF 10 12 8 112 := ⟨h113 hf, by decide, by decide, by decide, fun r rl => rfl⟩
theorem hIA_n {g i n q : Nat} (h : hIA ad cI cJ cF g i n q) : hIn (n : Int) := ⟨by omega, by have := h.2.2.2.1; omega⟩
theorem hIA_i {g i n q : Nat} (h : hIA ad cI cJ cF g i n q) : i < 100 := by have := h.2.2.1; omega
theorem hIA_lt {g i n q : Nat} (h : hIA ad cI cJ cF g i n q) : n < 100000 := h.2.2.2.1
theorem can1 {g : Nat} {A : hGM} (h : S g = A) : S = gset S g A := by rw [← h, gset_self]
theorem can2 {g k : Nat} {A B : hGM} (hn : k ≠ g) (h : S g = A) (hB : S k = B) : S = gset (gset S g A) k B := by
  rw [← can1 h]
  exact can1 hB
theorem can3 {g k n : Nat} {A B C : hGM} (hn : k ≠ g) (hn2 : n ≠ g) (hn3 : n ≠ k) (h : S g = A) (hB : S k = B) (hC : S n = C) : S = gset (gset (gset S g A) k B) n C := by
  rw [← can2 hn h hB]
  exact can1 hC
end
section
variable {p : Program} {l : Launch} {e : Env} {R : Room} {s : State} {m : MethodId} {args : Array Value} {below : List Frame} {meth : Method} {c : Code} {H : Heap} {locs : List Loc} {cells slots : Nat} {Q : State → Prop}
variable {cc : ByteArray} {pc nL : Nat} {ls : Array Slot} {rest : List Value} {own : String} {ret : Option FieldType}
variable {D : va_G} {ad : Nat → Nat → Nat} {cI cJ cF : ClassId} {S S' : hS} {g : Nat}
theorem hJA (hj : g < 7) : (hW ad cI cJ cF S)[13 * g + 12]? = some (ad g 12, .inl (cJ, 32, .inr (.inl (fun k => hJ (S g 112 k))))) := by
  rw [hW_at (g := g) (i := 12) (h112 (by omega)) (un_F hj 12 (by decide))]
  unfold hCell hCellR
  rw [if_pos hj]
  rfl
theorem iv_lald (hx : p.tables.exec = Jvm.exec) (hb : c.code = cc) (hK : va_K D vwCl (hTys cI cJ cF) s) (hP : va_P D vwCl (hW ad cI cJ cF S) H) (hj : g < 7) {k v : Int} (hk : 0 ≤ k ∧ k < 32) (hv : S g 112 k = v) (hdg : decode cc pc = .ok (.laload, 1))
    (kk : W p l e R s m args below meth c H locs cells slots Q (F0 m (pc + 1) ls (.long (hJ v) :: rest))) : W p l e R s m args below meth c H locs cells slots Q (F0 m pc ls (.int (hI k) :: .ref (ad g 12) :: rest)) := by
  obtain ⟨h1, h2⟩ := hI_ix (n := 32) hk (by decide)
  refine va_lald hx hb hK hP (13 * g + 12) 1 (hJA hj) rfl h1 hdg ?_
  rw [h2]
  have e : ((k.toNat : Nat) : Int) = k := Int.toNat_of_nonneg hk.1
  simp only [e, hv]
  exact kk
theorem iv_last (hx : p.tables.exec = Jvm.exec) (hb : c.code = cc) (hK : va_K D vwCl (hTys cI cJ cF) s) (hinj : hInj ad) (hh : hH D ad cI cJ cF S s H locs) (hj : g < 7) {k v : Int} (hk : 0 ≤ k ∧ k < 32) (hS' : gset S g (aset (S g) 112 k v) = S') (hdg : decode cc pc = .ok (.lastore, 1))
    (K : ∀ (H1 : Heap) (locs1 : List Loc), hH D ad cI cJ cF S' s H1 locs1 → W p l e R s m args below meth c H1 locs1 cells slots Q (F0 m (pc + 1) ls rest)) : W p l e R s m args below meth c H locs cells slots Q (F0 m pc ls (.long (hJ v) :: .int (hI k) :: .ref (ad g 12) :: rest)) := by
  obtain ⟨h1, h2⟩ := hI_ix (n := 32) hk (by decide)
  refine va_last hx hb hK hh.1 (hW_D hinj) hh.2.2 (13 * g + 12) 1 (hJA hj) rfl h1 hdg (fun H1 locs1 hP1 _ hS1 => K H1 locs1 ?_)
  have e : ((k.toNat : Nat) : Int) = k := Int.toNat_of_nonneg hk.1
  have hc : hCell ad cI cJ cF (gset S g (aset (S g) 112 k v)) g 12 = .inl (cJ, 32, .inr (.inl (vp_updL (fun k => hJ (S g 112 k)) (hI k).toNatClampNeg (hJ v)))) := by
    unfold hCell hCellR
    rw [if_pos hj, h2]
    show Sum.inl (cJ, 32, Sum.inr (Sum.inl _)) = _
    congr 5
    funext j
    simp only [gset_at, vp_updL, aset]
    by_cases hj : j = k.toNat
    · subst hj; simp [e]
    · have : ¬ ((j : Int) = k) := by omega
      simp [hj, this]
  rw [← hc, hW_set (h112 (by omega)) (un_F hj 12 (by decide)) (hset_else (Or.inr rfl))] at hP1
  rw [← hS']
  exact ⟨hP1, hR_set hh.2.1 (Or.inr (by decide)), hS1⟩
theorem hJL : (hW ad cI cJ cF S)[111]? = some (ad 10 11, .inl (cJ, 32, .inr (.inl (fun k => hJ (S 10 111 k))))) := by
  rw [hW_at (g := 10) (i := 11) (h112 (by decide)) rfl]
  rfl
theorem iv_laldL (hx : p.tables.exec = Jvm.exec) (hb : c.code = cc) (hK : va_K D vwCl (hTys cI cJ cF) s) (hP : va_P D vwCl (hW ad cI cJ cF S) H) {k v : Int} (hk : 0 ≤ k ∧ k < 32) (hv : S 10 111 k = v) (hdg : decode cc pc = .ok (.laload, 1))
    (kk : W p l e R s m args below meth c H locs cells slots Q (F0 m (pc + 1) ls (.long (hJ v) :: rest))) : W p l e R s m args below meth c H locs cells slots Q (F0 m pc ls (.int (hI k) :: .ref (ad 10 11) :: rest)) := by
  obtain ⟨h1, h2⟩ := hI_ix (n := 32) hk (by decide)
  refine va_lald hx hb hK hP 111 1 hJL rfl h1 hdg ?_
  rw [h2]
  have e : ((k.toNat : Nat) : Int) = k := Int.toNat_of_nonneg hk.1
  simp only [e, hv]
  exact kk
theorem iv_lastL (hx : p.tables.exec = Jvm.exec) (hb : c.code = cc) (hK : va_K D vwCl (hTys cI cJ cF) s) (hinj : hInj ad) (hh : hH D ad cI cJ cF S s H locs) {k v : Int} (hk : 0 ≤ k ∧ k < 32) (hS' : gset S 10 (aset (S 10) 111 k v) = S') (hdg : decode cc pc = .ok (.lastore, 1))
    (K : ∀ (H1 : Heap) (locs1 : List Loc), hH D ad cI cJ cF S' s H1 locs1 → W p l e R s m args below meth c H1 locs1 cells slots Q (F0 m (pc + 1) ls rest)) : W p l e R s m args below meth c H locs cells slots Q (F0 m pc ls (.long (hJ v) :: .int (hI k) :: .ref (ad 10 11) :: rest)) := by
  obtain ⟨h1, h2⟩ := hI_ix (n := 32) hk (by decide)
  refine va_last hx hb hK hh.1 (hW_D hinj) hh.2.2 111 1 hJL rfl h1 hdg (fun H1 locs1 hP1 _ hS1 => K H1 locs1 ?_)
  have e : ((k.toNat : Nat) : Int) = k := Int.toNat_of_nonneg hk.1
  have hc : hCell ad cI cJ cF (gset S 10 (aset (S 10) 111 k v)) 10 11 = .inl (cJ, 32, .inr (.inl (vp_updL (fun k => hJ (S 10 111 k)) (hI k).toNatClampNeg (hJ v)))) := by
    rw [h2]
    show Sum.inl (cJ, 32, Sum.inr (Sum.inl _)) = _
    congr 5
    funext j
    simp only [gset_at, vp_updL, aset]
    by_cases hj : j = k.toNat
    · subst hj; simp [e]
    · have : ¬ ((j : Int) = k) := by omega
      simp [hj, this]
  rw [← hc, hW_set (q := 111) (g := 10) (i := 11) (h112 (by decide)) rfl (hset_else (i0 := 111) (i := 11) (Or.inr rfl))] at hP1
  rw [← hS']
  exact ⟨hP1, hR_set hh.2.1 (Or.inr (by decide)), hS1⟩
theorem iv_aald (hx : p.tables.exec = Jvm.exec) (hb : c.code = cc) (hK : va_K D vwCl (hTys cI cJ cF) s) (hP : va_P D vwCl (hW ad cI cJ cF S) H) {k : Int} (hk : 0 ≤ k ∧ k < 5) (hdg : decode cc pc = .ok (.aaload, 1))
    (kk : W p l e R s m args below meth c H locs cells slots Q (F0 m (pc + 1) ls (.ref (ad (2 + k.toNat) 0) :: rest))) : W p l e R s m args below meth c H locs cells slots Q (F0 m pc ls (.int (hI k) :: .ref (ad 9 1) :: rest)) := by
  obtain ⟨h1, h2⟩ := hI_ix (n := 5) hk (by decide)
  refine va_aldq hx hb hK hP 99 2 (hW_at (g := 9) (i := 1) (h112 (by decide)) rfl) rfl h1 hdg ?_
  rw [h2]
  exact kk
end
theorem cb_X0_lay : hCbV RX0 yX0_lay cX0_lay 13 none 3 := ⟨by decide +kernel, q2_12, q2_13, q1_4, q2_14⟩
theorem cb_X0_light : hCbV RX0 yX0_light cX0_light 6 none 3 := ⟨by decide +kernel, q2_50, qs_1, q1_4, q2_51⟩
theorem cb_X0_columnsOf : hCbS yX0_columnsOf cX0_columnsOf 2 (some .int) 2 := ⟨by decide +kernel, q2_17, q1_4, q2_18⟩
theorem cb_X0_rounded : hCbS yX0_rounded cX0_rounded 6 (some .int) 4 := ⟨by decide +kernel, q2_45, q1_4, q2_46⟩
theorem cb_X1_copy : hCbV RX1 yX1_copy cX1_copy 2 none 1 := ⟨by decide +kernel, q2_100, q2_101, q1_2, q2_102⟩
theorem cb_X1_hasGlyph : hCbV RX1 yX1_hasGlyph cX1_hasGlyph 2 (some .boolean) 1 := ⟨by decide +kernel, q2_140, q2_141, q1_2, q2_142⟩
theorem cb_X1_hasStem : hCbV RX1 yX1_hasStem cX1_hasStem 3 (some .boolean) 2 := ⟨by decide +kernel, q2_163, q2_164, q1_2, q2_165⟩
theorem cb_X1_endOf : hCbV RX1 yX1_endOf cX1_endOf 2 (some .int) 1 := ⟨by decide +kernel, q2_56, q2_57, q1_2, q2_58⟩
theorem cb_X1_addGlyph : hCbV RX1 yX1_addGlyph cX1_addGlyph 3 (some .int) 1 := ⟨by decide +kernel, q2_112, q2_113, q1_2, q2_114⟩
theorem cb_X1_addStem : hCbV RX1 yX1_addStem cX1_addStem 9 (some .int) 3 := ⟨by decide +kernel, q2_136, q2_137, q1_2, q2_138⟩
theorem cb_X1_cutStem : hCbV RX1 yX1_cutStem cX1_cutStem 6 (some .int) 2 := ⟨by decide +kernel, q2_159, q2_160, q1_2, q2_161⟩
theorem cb_X1_moveStem : hCbV RX1 yX1_moveStem cX1_moveStem 3 none 2 := ⟨by decide +kernel, q2_147, qs_5, q1_2, q2_148⟩
theorem cb_X1_putStem : hCbV RX1 yX1_putStem cX1_putStem 5 none 4 := ⟨by decide +kernel, q2_151, qs_6, q1_2, q2_152⟩
theorem cb_X1_hintStem : hCbV RX1 yX1_hintStem cX1_hintStem 6 (some .int) 3 := ⟨by decide +kernel, q2_171, q2_172, q1_2, q2_173⟩
theorem cb_X1_addStandard : hCbV RX1 yX1_addStandard cX1_addStandard 3 (some .int) 1 := ⟨by decide +kernel, q2_183, q2_184, q1_2, q2_185⟩
theorem cb_X1_dropStandard : hCbV RX1 yX1_dropStandard cX1_dropStandard 4 (some .int) 1 := ⟨by decide +kernel, q2_205, q2_206, q1_2, q2_207⟩
theorem cb_X1_standardAt : hCbV RX1 yX1_standardAt cX1_standardAt 3 (some .int) 1 := ⟨by decide +kernel, q2_188, qs_7, q1_2, q2_189⟩
theorem cb_X1_changeSetting : hCbV RX1 yX1_changeSetting cX1_changeSetting 4 (some .int) 2 := ⟨by decide +kernel, q3_18, q3_19, q1_2, q3_20⟩
theorem cb_X1_makeSheet : hCbV RX1 yX1_makeSheet cX1_makeSheet 5 (some .int) 2 := ⟨by decide +kernel, q2_234, q2_235, q1_2, q2_236⟩
theorem cb_X1_isStale : hCbV RX1 yX1_isStale cX1_isStale 6 (some .boolean) 2 := ⟨by decide +kernel, q2_7, q2_8, q1_2, q2_9⟩
theorem cb_X1_snapOf : hCbV RX1 yX1_snapOf cX1_snapOf 6 (some .int) 1 := ⟨by decide +kernel, q2_36, q2_37, q1_2, q2_38⟩
theorem cb_X1_hintedWidth : hCbV RX1 yX1_hintedWidth cX1_hintedWidth 3 (some .int) 1 := ⟨by decide +kernel, q2_69, q2_70, q1_2, q2_71⟩
theorem cb_X1_wideOf : hCbV RX1 yX1_wideOf cX1_wideOf 4 (some .int) 2 := ⟨by decide +kernel, q2_32, q2_33, q1_2, q2_34⟩
theorem cb_X1_alikeWith : hCbV RX1 yX1_alikeWith cX1_alikeWith 5 (some .int) 1 := ⟨by decide +kernel, q3_35, q3_36, q1_2, q3_37⟩
theorem cb_X1_snappingTo : hCbV RX1 yX1_snappingTo cX1_snappingTo 4 (some .int) 1 := ⟨by decide +kernel, q2_192, qs_8, q1_2, q2_193⟩
theorem cb_X1_unlikeWidths : hCbV RX1 yX1_unlikeWidths cX1_unlikeWidths 3 (some .int) 0 := ⟨by decide +kernel, q2_61, q2_62, q1_2, q2_63⟩
theorem cb_X1_isAlikeAhead : hCbV RX1 yX1_isAlikeAhead cX1_isAlikeAhead 4 (some .boolean) 1 := ⟨by decide +kernel, q2_66, qs_2, q1_2, q2_67⟩
theorem cb_X1_stemsTogether : hCbV RX1 yX1_stemsTogether cX1_stemsTogether 3 (some .int) 0 := ⟨by decide +kernel, q1_234, q1_235, q1_2, q1_236⟩
theorem cb_X2_note : hCbV RX2 yX2_note cX2_note 3 none 1 := ⟨by decide +kernel, q2_89, q2_90, q1_6, q2_91⟩
theorem cb_X2_keep : hCbV RX2 yX2_keep cX2_keep 1 none 0 := ⟨by decide +kernel, q2_124, q2_125, q1_6, q2_126⟩
theorem cb_X2_slotAt : hCbV RX2 yX2_slotAt cX2_slotAt 3 (some (.object "HintedStems$Font")) 1 := ⟨by decide +kernel, q2_94, qs_3, q1_6, q2_95⟩
theorem cb_X4_copy : hCbV RX4 yX4_copy cX4_copy 3 none 1 := ⟨by decide +kernel, q2_107, q2_108, q1_3, q2_109⟩
theorem cb_X4_isMade : hCbV RX4 yX4_isMade cX4_isMade 2 (some .boolean) 1 := ⟨by decide +kernel, q1_214, q1_215, q1_3, q1_216⟩
theorem cb_X4_held : hCbV RX4 yX4_held cX4_held 3 (some .int) 0 := ⟨by decide +kernel, q1_238, q1_239, q1_3, q2_0⟩
theorem cb_X4_slotOf : hCbV RX4 yX4_slotOf cX4_slotOf 3 (some .int) 1 := ⟨by decide +kernel, q1_210, q1_211, q1_3, q1_212⟩
theorem cb_X4_slotAt : hCbV RX4 yX4_slotAt cX4_slotAt 3 (some .int) 1 := ⟨by decide +kernel, q3_48, q3_49, q1_3, q3_50⟩
theorem cb_X4_olderThan : hCbV RX4 yX4_olderThan cX4_olderThan 4 (some .int) 1 := ⟨by decide +kernel, q3_53, qs_9, q1_3, q3_54⟩
theorem cb_X4_slotToMake : hCbV RX4 yX4_slotToMake cX4_slotToMake 5 (some .int) 1 := ⟨by decide +kernel, q2_239, q3_0, q1_3, q3_1⟩
theorem cb_X4_begin : hCbV RX4 yX4_begin cX4_begin 4 none 3 := ⟨by decide +kernel, q3_4, q3_5, q1_3, q3_6⟩
theorem cb_X4_keep : hCbV RX4 yX4_keep cX4_keep 5 none 3 := ⟨by decide +kernel, q3_9, q3_10, q1_3, q3_11⟩
theorem cb_X4_litAt : hCbV RX4 yX4_litAt cX4_litAt 2 (some .long) 1 := ⟨by decide +kernel, q1_223, q1_224, q1_3, q1_225⟩
theorem cb_X4_litTogether : hCbV RX4 yX4_litTogether cX4_litTogether 4 (some .int) 1 := ⟨by decide +kernel, q3_56, q3_57, q1_3, q3_58⟩
theorem cb_X5_glyph : hCbV RX5 yX5_glyph cX5_glyph 2 (some .int) 1 := ⟨by decide +kernel, q2_85, q2_86, q1_1, q2_87⟩
theorem cb_X5_stem : hCbV RX5 yX5_stem cX5_stem 4 (some .int) 3 := ⟨by decide +kernel, q2_132, q2_133, q1_1, q2_134⟩
theorem cb_X5_cut : hCbV RX5 yX5_cut cX5_cut 3 (some .int) 2 := ⟨by decide +kernel, q2_155, q2_156, q1_1, q2_157⟩
theorem cb_X5_hint : hCbV RX5 yX5_hint cX5_hint 4 (some .int) 3 := ⟨by decide +kernel, q2_167, q2_168, q1_1, q2_169⟩
theorem cb_X5_standard : hCbV RX5 yX5_standard cX5_standard 2 (some .int) 1 := ⟨by decide +kernel, q2_179, q2_180, q1_1, q2_181⟩
theorem cb_X5_drop : hCbV RX5 yX5_drop cX5_drop 2 (some .int) 1 := ⟨by decide +kernel, q2_201, q2_202, q1_1, q2_203⟩
theorem cb_X5_make : hCbV RX5 yX5_make cX5_make 2 (some .int) 1 := ⟨by decide +kernel, q2_230, q2_231, q1_1, q2_232⟩
theorem cb_X5_set : hCbV RX5 yX5_set cX5_set 3 (some .int) 2 := ⟨by decide +kernel, q3_14, q3_15, q1_1, q3_16⟩
theorem cb_X5_stemOf : hCbV RX5 yX5_stemOf cX5_stemOf 7 (some .int) 3 := ⟨by decide +kernel, q3_28, q3_29, q1_1, q3_30⟩
theorem cb_X5_inSheet : hCbV RX5 yX5_inSheet cX5_inSheet 7 (some .int) 3 := ⟨by decide +kernel, q1_199, q1_200, q1_1, q1_201⟩
theorem cb_X5_sheetOf : hCbV RX5 yX5_sheetOf cX5_sheetOf 4 (some .int) 2 := ⟨by decide +kernel, q3_44, q3_45, q1_1, q3_46⟩
theorem cb_X5_count : hCbV RX5 yX5_count cX5_count 2 (some .int) 1 := ⟨by decide +kernel, q1_230, q1_231, q1_1, q1_232⟩
theorem cb_X5_settled : hCbV RX5 yX5_settled cX5_settled 2 (some .int) 1 := ⟨by decide +kernel, q2_121, qs_4, q1_1, q2_122⟩
theorem cb_X5_staleSheets : hCbV RX5 yX5_staleSheets cX5_staleSheets 3 (some .int) 0 := ⟨by decide +kernel, q2_3, qs_0, q1_1, q2_4⟩
theorem cb_X5_within : hCbS yX5_within cX5_within 3 (some .boolean) 3 := ⟨by decide +kernel, q1_206, q1_1, q1_207⟩
theorem cb_X5_isSize : hCbS yX5_isSize cX5_isSize 1 (some .boolean) 1 := ⟨by decide +kernel, q1_203, q1_1, q1_204⟩
theorem cb_X5_inPixels : hCbS yX5_inPixels cX5_inPixels 2 (some .int) 2 := ⟨by decide +kernel, q2_20, q1_1, q2_21⟩
theorem cb_X5_cell : hCbS yX5_cell cX5_cell 2 (some .int) 2 := ⟨by decide +kernel, q1_218, q1_1, q1_219⟩
theorem cb_X5_put : hCbS yX5_put cX5_put 3 none 3 := ⟨by decide +kernel, q2_53, q1_1, q2_54⟩
theorem cb_X5_copyRow : hCbS yX5_copyRow cX5_copyRow 3 none 2 := ⟨by decide +kernel, q2_104, q1_1, q2_105⟩
theorem cb_X5_bitOf : hCbS yX5_bitOf cX5_bitOf 3 (some .int) 2 := ⟨by decide +kernel, q1_227, q1_1, q1_228⟩
theorem cb_J13_bitCount_95d88 : hCbS yJ13_bitCount_95d88 cJ13_bitCount_95d88 2 (some .int) 1 := ⟨by decide +kernel, q3_61, q1_8, q3_62⟩
theorem cb_J9_floorDiv_7cf53 : hCbS yJ9_floorDiv_7cf53 cJ9_floorDiv_7cf53 3 (some .int) 2 := ⟨by decide +kernel, q2_23, q1_7, q2_24⟩
theorem cb_J9_floorMod_7cf53 : hCbS yJ9_floorMod_7cf53 cJ9_floorMod_7cf53 3 (some .int) 2 := ⟨by decide +kernel, q2_97, q1_7, q2_98⟩
theorem cb_J9_abs_0f7a4 : hCbS yJ9_abs_0f7a4 cJ9_abs_0f7a4 1 (some .int) 1 := ⟨by decide +kernel, q2_40, q1_7, q2_41⟩
theorem cb_J9_max_7cf53 : hCbS yJ9_max_7cf53 cJ9_max_7cf53 2 (some .int) 2 := ⟨by decide +kernel, q2_29, q1_7, q2_30⟩
theorem cb_J9_min_7cf53 : hCbS yJ9_min_7cf53 cJ9_min_7cf53 2 (some .int) 2 := ⟨by decide +kernel, q2_26, q1_7, q2_27⟩
theorem cb_L_low : hCbS yL_low cL_low 2 (some .int) 2 := ⟨by decide +kernel, q2_77, q1_0, q2_78⟩
theorem cb_L_inPixels : hCbS yL_inPixels cL_inPixels 2 (some .int) 2 := ⟨by decide +kernel, q2_215, q1_0, q2_216⟩
theorem cb_L_gap : hCbS yL_gap cL_gap 2 (some .int) 2 := ⟨by decide +kernel, q2_198, q1_0, q2_199⟩
theorem cb_L_snap : hCbS yL_snap cL_snap 7 (some .int) 3 := ⟨by decide +kernel, q2_195, q1_0, q2_196⟩
theorem cb_L_hinted : hCbS yL_hinted cL_hinted 5 (some .int) 4 := ⟨by decide +kernel, q2_227, q1_0, q2_228⟩
theorem cb_L_wide : hCbS yL_wide cL_wide 6 (some .int) 5 := ⟨by decide +kernel, q2_224, q1_0, q2_225⟩
theorem cb_L_columns : hCbS yL_columns cL_columns 4 (some .int) 3 := ⟨by decide +kernel, q2_212, q1_0, q2_213⟩
theorem cb_L_lay : hCbS yL_lay cL_lay 18 none 10 := ⟨by decide +kernel, q2_221, q1_0, q2_222⟩
theorem cb_L_lit : hCbS yL_lit cL_lit 14 (some .long) 9 := ⟨by decide +kernel, q2_218, q1_0, q2_219⟩
theorem cb_L_many : hCbS yL_many cL_many 5 (some .int) 1 := ⟨by decide +kernel, q3_67, q1_0, q3_68⟩
theorem cb_L_make : hCbS yL_make cL_make 16 (some .int) 12 := ⟨by decide +kernel, q2_209, q1_0, q2_210⟩
theorem cb_L_find : hCbS yL_find cL_find 4 (some .int) 2 := ⟨by decide +kernel, q2_176, q1_0, q2_177⟩
theorem cb_L_stems : hCbS yL_stems cL_stems 15 (some .boolean) 8 := ⟨by decide +kernel, q2_129, q1_0, q2_130⟩
theorem cb_L_acts : hCbS yL_acts cL_acts 20 (some .boolean) 13 := ⟨by decide +kernel, q2_81, q1_0, q2_82⟩
theorem cb_L_areStems : hCbS yL_areStems cL_areStems 15 (some .boolean) 7 := ⟨by decide +kernel, q3_25, q1_0, q3_26⟩
theorem cb_L_areSheets : hCbS yL_areSheets cL_areSheets 21 (some .boolean) 13 := ⟨by decide +kernel, q3_41, q1_0, q3_42⟩
theorem cb_L_areWidths : hCbS yL_areWidths cL_areWidths 7 (some .boolean) 2 := ⟨by decide +kernel, q3_70, q1_0, q3_71⟩
theorem cb_L_isSo : hCbS yL_isSo cL_isSo 13 (some .boolean) 13 := ⟨by decide +kernel, q3_22, q1_0, q3_23⟩

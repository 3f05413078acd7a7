def p_X6_inPixels (v1 : Int) (size : Int) : Prop := (hIn ((v1 * size) + 500) ∧ (0 ≤ ((v1 * size) + 500) ∧ (hIn (((v1 * size) + 500) / 1000) ∧ True)))
def v_X6_inPixels (v1 : Int) (size : Int) : Int := (((v1 * size) + 500) / 1000)
-- AFTER
theorem mpx_p {v z : Int} (v0 : 0 ≤ v) (v1 : v ≤ 2300) (z0 : 0 ≤ z) (z1 : z ≤ 48) : p_X6_inPixels v z := by
  have m := mulbd (u := v) (z := z) (a := 0) (b := 2300) v0 v1 (by decide) (by decide) z0 z1
  exact ⟨⟨by omega, by omega⟩, by omega, ⟨by omega, by omega⟩, trivial⟩
theorem mpx_bd {v z : Int} (v0 : 0 ≤ v) (v1 : v ≤ 2300) (z0 : 0 ≤ z) (z1 : z ≤ 48) : 0 ≤ v_X6_inPixels v z ∧ v_X6_inPixels v z ≤ 111 := by
  have m := mulbd (u := v) (z := z) (a := 0) (b := 2300) v0 v1 (by decide) (by decide) z0 z1
  unfold v_X6_inPixels
  omega
def p_X6_pixelsOf (P : hGM) (glyph : Int) (stem : Int) (size : Int) : Prop := (p_X6_hinted P glyph stem ∧ (p_X6_inPixels (v_X6_hinted P glyph stem) size ∧ (((v_X6_inPixels (v_X6_hinted P glyph stem) size) < 1 → True) ∧ (¬ (v_X6_inPixels (v_X6_hinted P glyph stem) size) < 1 → True))))
def v_X6_pixelsOf (P : hGM) (glyph : Int) (stem : Int) (size : Int) : Int := (if (v_X6_inPixels (v_X6_hinted P glyph stem) size) < 1 then 1 else (v_X6_inPixels (v_X6_hinted P glyph stem) size))
-- AFTER
theorem snaps_up {P : hGM} {w : Int} (h : mNum (P 1)) (w0 : 0 ≤ w) (w1 : w ≤ 300) : v_X6_snaps P w ≤ 300 := by
  have n1 := h.2.1
  have e : (((P 1 1).toNat : Nat) : Int) = P 1 1 := Int.toNat_of_nonneg n1.1
  have b := snapM_bd (st := fun k => P 1 (2 + k)) (cut := P 1 5) (w := w) (c := 300) (P 1 1).toNat ⟨w0, w1⟩ (fun k a1 a2 => h.2.2.1 k a1 (by omega)) (by have := h.2.2.2.1; omega)
  exact b.1.2
theorem mhin_p {P : hGM} {g k : Int} (h : mNum (P 1)) (g0 : 0 ≤ g) (g1 : g < 8) (k0 : 0 ≤ k) (k1 : k < 6) : p_X6_hinted P g k := by
  have b := ofStem_bd h g0 g1 k0 k1
  exact ⟨ofStem_p g0 g1 k0 k1 (by decide) (by decide), ⟨h, by omega, by omega⟩, fun _ => trivial, fun _ => trivial⟩
theorem mhin_bd {P : hGM} {g k : Int} (h : mNum (P 1)) (g0 : 0 ≤ g) (g1 : g < 8) (k0 : 0 ≤ k) (k1 : k < 6) : 0 ≤ v_X6_hinted P g k ∧ v_X6_hinted P g k ≤ 300 := by
  have b := ofStem_bd h g0 g1 k0 k1
  have s := snaps_up (w := v_X6_ofStem P g k 1) h (by omega) (by omega)
  unfold v_X6_hinted
  split <;> omega
theorem pixels_p {P : hGM} {g k z : Int} (h : mNum (P 1)) (g0 : 0 ≤ g) (g1 : g < 8) (k0 : 0 ≤ k) (k1 : k < 6) (z0 : 0 ≤ z) (z1 : z ≤ 48) : p_X6_pixelsOf P g k z := by
  have b := mhin_bd h g0 g1 k0 k1
  exact ⟨mhin_p h g0 g1 k0 k1, mpx_p b.1 (by omega) z0 z1, fun _ => trivial, fun _ => trivial⟩
theorem pixels_bd {P : hGM} {g k z : Int} (h : mNum (P 1)) (g0 : 0 ≤ g) (g1 : g < 8) (k0 : 0 ≤ k) (k1 : k < 6) (z0 : 0 ≤ z) (z1 : z ≤ 48) : 1 ≤ v_X6_pixelsOf P g k z ∧ v_X6_pixelsOf P g k z ≤ 111 := by
  have b := mhin_bd h g0 g1 k0 k1
  have b2 := mpx_bd b.1 (by omega) z0 z1
  unfold v_X6_pixelsOf
  split <;> omega
def p_X6_columns (P : hGM) (glyph : Int) (size : Int) : Prop := (p_X6_of P glyph 0 ∧ (p_X6_inPixels (v_X6_of P glyph 0) size ∧ (((v_X6_inPixels (v_X6_of P glyph 0) size) < 1 → True) ∧ (¬ (v_X6_inPixels (v_X6_of P glyph 0) size) < 1 → (((v_X6_inPixels (v_X6_of P glyph 0) size) ≤ 64 → True) ∧ (¬ (v_X6_inPixels (v_X6_of P glyph 0) size) ≤ 64 → True))))))
def v_X6_columns (P : hGM) (glyph : Int) (size : Int) : Int := (if (v_X6_inPixels (v_X6_of P glyph 0) size) < 1 then 1 else (if (v_X6_inPixels (v_X6_of P glyph 0) size) ≤ 64 then (v_X6_inPixels (v_X6_of P glyph 0) size) else 64))
-- AFTER
theorem mcol_p {P : hGM} {g z : Int} (h : mNum (P 1)) (g0 : 0 ≤ g) (g1 : g < 8) (z0 : 0 ≤ z) (z1 : z ≤ 48) : p_X6_columns P g z := by
  have b := (h.2.2.2.2.2.2.2.1 g g0 g1).1
  have e : v_X6_of P g 0 = P 1 (9 + 20 * g) := by unfold v_X6_of; rw [Int.add_zero]
  exact ⟨of_p g0 g1 (by decide) (by decide), mpx_p (by omega) (by omega) z0 z1, fun _ => trivial, fun _ => ⟨fun _ => trivial, fun _ => trivial⟩⟩
theorem mcol_bd (P : hGM) (g z : Int) : 1 ≤ v_X6_columns P g z ∧ v_X6_columns P g z ≤ 64 := by
  unfold v_X6_columns
  split
  · omega
  · split <;> omega
def p_X6_rounded (P : hGM) (glyph : Int) (stem : Int) (size : Int) : Prop := (p_X6_ofStem P glyph stem 0 ∧ (p_X6_ofStem P glyph stem 1 ∧ (p_X6_ofStem P glyph stem 2 ∧ (((v_X6_ofStem P glyph stem 2) = 1 → (hIn ((2 * (v_X6_ofStem P glyph stem 0)) + (v_X6_ofStem P glyph stem 1)) ∧ (p_X6_inPixels ((2 * (v_X6_ofStem P glyph stem 0)) + (v_X6_ofStem P glyph stem 1)) size ∧ ((0 ≤ stem ∧ stem < 6) ∧ (hIn ((v_X6_inPixels ((2 * (v_X6_ofStem P glyph stem 0)) + (v_X6_ofStem P glyph stem 1)) size) - (P 6 stem)) ∧ (p_X6_floor ((v_X6_inPixels ((2 * (v_X6_ofStem P glyph stem 0)) + (v_X6_ofStem P glyph stem 1)) size) - (P 6 stem)) 2 ∧ True)))))) ∧ (¬ (v_X6_ofStem P glyph stem 2) = 1 → (((v_X6_ofStem P glyph stem 2) = 2 → (hIn ((v_X6_ofStem P glyph stem 0) + (v_X6_ofStem P glyph stem 1)) ∧ (p_X6_inPixels ((v_X6_ofStem P glyph stem 0) + (v_X6_ofStem P glyph stem 1)) size ∧ ((0 ≤ stem ∧ stem < 6) ∧ (hIn ((v_X6_inPixels ((v_X6_ofStem P glyph stem 0) + (v_X6_ofStem P glyph stem 1)) size) - (P 6 stem)) ∧ True))))) ∧ (¬ (v_X6_ofStem P glyph stem 2) = 2 → (((v_X6_ofStem P glyph stem 2) = 3 → ((stem ≤ 0 → (p_X6_inPixels (v_X6_ofStem P glyph stem 0) size ∧ True)) ∧ (¬ stem ≤ 0 → (hIn (stem - 1) ∧ (p_X6_endOf P glyph (stem - 1) ∧ (hIn ((v_X6_ofStem P glyph stem 0) - (v_X6_endOf P glyph (stem - 1))) ∧ (p_X6_inPixels ((v_X6_ofStem P glyph stem 0) - (v_X6_endOf P glyph (stem - 1))) size ∧ ((0 ≤ (stem - 1) ∧ (stem - 1) < 6) ∧ (((v_X6_inPixels ((v_X6_ofStem P glyph stem 0) - (v_X6_endOf P glyph (stem - 1))) size) < (P 1 6) → (hIn (((P 5 (stem - 1)) + (P 6 (stem - 1))) + (P 1 6)) ∧ True)) ∧ (¬ (v_X6_inPixels ((v_X6_ofStem P glyph stem 0) - (v_X6_endOf P glyph (stem - 1))) size) < (P 1 6) → (hIn (((P 5 (stem - 1)) + (P 6 (stem - 1))) + (v_X6_inPixels ((v_X6_ofStem P glyph stem 0) - (v_X6_endOf P glyph (stem - 1))) size)) ∧ True))))))))))) ∧ (¬ (v_X6_ofStem P glyph stem 2) = 3 → (p_X6_inPixels (v_X6_ofStem P glyph stem 0) size ∧ True))))))))))
def v_X6_rounded (P : hGM) (glyph : Int) (stem : Int) (size : Int) : Int := (if (v_X6_ofStem P glyph stem 2) = 1 then (v_X6_floor ((v_X6_inPixels ((2 * (v_X6_ofStem P glyph stem 0)) + (v_X6_ofStem P glyph stem 1)) size) - (P 6 stem)) 2) else (if (v_X6_ofStem P glyph stem 2) = 2 then ((v_X6_inPixels ((v_X6_ofStem P glyph stem 0) + (v_X6_ofStem P glyph stem 1)) size) - (P 6 stem)) else (if (v_X6_ofStem P glyph stem 2) = 3 then (if stem ≤ 0 then (v_X6_inPixels (v_X6_ofStem P glyph stem 0) size) else (if (v_X6_inPixels ((v_X6_ofStem P glyph stem 0) - (v_X6_endOf P glyph (stem - 1))) size) < (P 1 6) then (((P 5 (stem - 1)) + (P 6 (stem - 1))) + (P 1 6)) else (((P 5 (stem - 1)) + (P 6 (stem - 1))) + (v_X6_inPixels ((v_X6_ofStem P glyph stem 0) - (v_X6_endOf P glyph (stem - 1))) size)))) else (v_X6_inPixels (v_X6_ofStem P glyph stem 0) size))))
-- AFTER
/-- the stems of each glyph lie clear of each other, from left to right -/
def mGap (P : hGM) : Prop := ∀ g k : Int, 0 ≤ g → g < 8 → 0 ≤ k → k + 1 < v_X6_of P g 1 → v_X6_endOf P g k ≤ v_X6_ofStem P g (k + 1) 0
theorem mfl_p {x : Int} (h : -100000 ≤ x ∧ x ≤ 100000) : p_X6_floor x 2 := ⟨fun _ => ⟨⟨by omega, by omega⟩, by omega, by decide, ⟨by omega, by omega⟩, trivial⟩, fun _ => ⟨by omega, by decide, ⟨by omega, by omega⟩, trivial⟩⟩
theorem mfl_bd {x : Int} : v_X6_floor x 2 * 2 ≤ x ∧ x ≤ v_X6_floor x 2 * 2 + 1 := by
  unfold v_X6_floor
  split <;> omega
theorem mrd_p {P : hGM} {g k z : Int} (h : mNum (P 1)) (hg : mGap P) (g0 : 0 ≤ g) (g1 : g < 8) (k0 : 0 ≤ k) (k1 : k < v_X6_of P g 1) (z0 : 0 ≤ z) (z1 : z ≤ 48) (w0 : 0 ≤ P 6 k ∧ P 6 k ≤ 111) (wl : 0 < k → (-500 ≤ P 5 (k - 1) ∧ P 5 (k - 1) ≤ 5000) ∧ (0 ≤ P 6 (k - 1) ∧ P 6 (k - 1) ≤ 111)) : p_X6_rounded P g k z ∧ -500 ≤ v_X6_rounded P g k z ∧ (v_X6_rounded P g k z ≤ 111 ∨ (0 < k ∧ v_X6_rounded P g k z ≤ P 5 (k - 1) + P 6 (k - 1) + 111)) := by
  have n6 := h.2.2.2.2.1
  have ob := of_bd h g0 g1
  have b := ofStem_bd h g0 g1 k0 (show k < 6 by omega)
  have a1 := mpx_bd (v := 2 * v_X6_ofStem P g k 0 + v_X6_ofStem P g k 1) (z := z) (by omega) (by omega) z0 z1
  have a2 := mpx_bd (v := v_X6_ofStem P g k 0 + v_X6_ofStem P g k 1) (z := z) (by omega) (by omega) z0 z1
  have a3 := mpx_bd (v := v_X6_ofStem P g k 0) (z := z) (by omega) (by omega) z0 z1
  have p3 := mpx_p (v := v_X6_ofStem P g k 0) (z := z) (by omega) (by omega) z0 z1
  have gp : 0 < k → 0 ≤ v_X6_ofStem P g k 0 - v_X6_endOf P g (k - 1) ∧ v_X6_ofStem P g k 0 - v_X6_endOf P g (k - 1) ≤ 1000 := by
    intro hk
    have q := hg g (k - 1) g0 g1 (by omega) (by omega)
    rw [show k - 1 + 1 = k by omega] at q
    have b2 := ofStem_bd h g0 g1 (show 0 ≤ k - 1 by omega) (show k - 1 < 6 by omega)
    have e : v_X6_endOf P g (k - 1) = v_X6_ofStem P g (k - 1) 0 + v_X6_ofStem P g (k - 1) 1 := rfl
    omega
  have op : ∀ w : Int, 0 ≤ w → w < 3 → p_X6_ofStem P g k w := fun w w0 w1 => ofStem_p g0 g1 k0 (by omega) w0 w1
  refine ⟨⟨op 0 (by decide) (by decide), op 1 (by decide) (by decide), op 2 (by decide) (by decide), fun _ => ⟨⟨by omega, by omega⟩, mpx_p (by omega) (by omega) z0 z1, ⟨by omega, by omega⟩, ⟨by omega, by omega⟩, mfl_p ⟨by omega, by omega⟩, trivial⟩, fun _ => ⟨fun _ => ⟨⟨by omega, by omega⟩, mpx_p (by omega) (by omega) z0 z1, ⟨by omega, by omega⟩, ⟨by omega, by omega⟩, trivial⟩, fun _ => ⟨fun _ => ⟨fun _ => ⟨p3, trivial⟩, fun c => ?_⟩, fun _ => ⟨p3, trivial⟩⟩⟩⟩, ?_⟩
  · have q := gp (by omega)
    have l := wl (by omega)
    have a4 := mpx_bd (v := v_X6_ofStem P g k 0 - v_X6_endOf P g (k - 1)) (z := z) (by omega) (by omega) z0 z1
    exact ⟨⟨by omega, by omega⟩, endOf_p h g0 g1 (by omega) (by omega), ⟨by omega, by omega⟩, mpx_p (by omega) (by omega) z0 z1, ⟨by omega, by omega⟩, fun _ => ⟨⟨by omega, by omega⟩, trivial⟩, fun _ => ⟨⟨by omega, by omega⟩, trivial⟩⟩
  · unfold v_X6_rounded
    have f := mfl_bd (x := v_X6_inPixels (2 * v_X6_ofStem P g k 0 + v_X6_ofStem P g k 1) z - P 6 k)
    split
    · omega
    · split
      · omega
      · split
        · split
          · omega
          · have q := gp (by omega)
            have l := wl (by omega)
            have a4 := mpx_bd (v := v_X6_ofStem P g k 0 - v_X6_endOf P g (k - 1)) (z := z) (by omega) (by omega) z0 z1
            split <;> omega
        · omega
def p_X6_lays (P : hGM) (glyph : Int) (size : Int) : Prop := mNum (P 1) ∧ mGap P ∧ (0 ≤ glyph ∧ glyph < 8) ∧ (0 ≤ size ∧ size ≤ 48)
/-- a stem's pixels are set down -/
def laA (L : hGM) (g z k : Int) : hGM := aset (aset L 6 k (v_X6_pixelsOf L g k z)) 5 k (v_X6_rounded (aset L 6 k (v_X6_pixelsOf L g k z)) g k z)
def laM (L : hGM) (g k : Int) : Int := L 5 (k - 1) + L 6 (k - 1) + (if v_X6_ofStem L g k 0 - v_X6_endOf L g (k - 1) ≤ 0 then 0 else 1)
/-- and pushed if need be -/
def laB (L : hGM) (g k : Int) : hGM := aset (aset L 0 9 (iOr (L 0 9) (if L 5 k < laM L g k then iShl 1 k else 0))) 5 k (if L 5 k < laM L g k then laM L g k else L 5 k)
def laS (P : hGM) (g z : Int) : Nat → hGM
  | 0 => aset P 0 9 0
  | k + 1 => if (k : Int) ≤ 0 then laA (laS P g z k) g z k else laB (laA (laS P g z k) g z k) g k
def m_X6_lays (P : hGM) (glyph : Int) (size : Int) : hGM := laS P glyph size (v_X6_of P glyph 1).toNat
theorem laS_row {P : hGM} {g z : Int} {i : Nat} (n : Nat) (h0 : i ≠ 0) (h5 : i ≠ 5) (h6 : i ≠ 6) : laS P g z n i = P i := by
  induction n with
  | zero => unfold laS; rw [aset_row h0]
  | succ n ih =>
    unfold laS
    have e : laA (laS P g z n) g z n i = P i := by unfold laA; rw [aset_row h5, aset_row h6, ih]
    split
    · exact e
    · unfold laB; rw [aset_row h5, aset_row h0, e]
theorem laS_0 {P : hGM} {g z : Int} {q : Int} (n : Nat) (h9 : q ≠ 9) : laS P g z n 0 q = P 0 q := by
  induction n with
  | zero => unfold laS; rw [aset_ne (fun c => h9 c.2)]
  | succ n ih =>
    unfold laS
    have e : laA (laS P g z n) g z n 0 q = P 0 q := by unfold laA; rw [aset_row (by decide), aset_row (by decide), ih]
    split
    · exact e
    · unfold laB; rw [aset_row (by decide), aset_ne (fun c => h9 c.2), e]
theorem mGap_row {P L : hGM} (h : L 1 = P 1) (hg : mGap P) : mGap L := by
  intro g k g0 g1 k0 k1
  unfold v_X6_of at k1
  unfold v_X6_endOf v_X6_ofStem
  rw [h] at k1 ⊢
  exact hg g k g0 g1 k0 k1
theorem of_row {P L : hGM} (h : L 1 = P 1) (g w : Int) : v_X6_of L g w = v_X6_of P g w := by unfold v_X6_of; rw [h]
theorem ofStem_row {P L : hGM} (h : L 1 = P 1) (g k w : Int) : v_X6_ofStem L g k w = v_X6_ofStem P g k w := by unfold v_X6_ofStem; rw [h]
/-- what the laid stems are bounded by -/
def laI (L : hGM) (n : Nat) : Prop := ∀ j : Int, 0 ≤ j → j < n → (-500 ≤ L 5 j ∧ L 5 j ≤ 111 + 300 * j) ∧ (1 ≤ L 6 j ∧ L 6 j ≤ 111)
theorem laA_bd {L : hGM} {g z : Int} {n : Nat} (h : mNum (L 1)) (hg : mGap L) (g0 : 0 ≤ g) (g1 : g < 8) (z0 : 0 ≤ z) (z1 : z ≤ 48) (hn : (n : Int) < v_X6_of L g 1) (hi : laI L n) : p_X6_rounded (aset L 6 n (v_X6_pixelsOf L g n z)) g n z ∧ laI (laA L g z n) (n + 1) := by
  have ob := of_bd h g0 g1
  have w := pixels_bd h g0 g1 (show 0 ≤ (n : Int) by omega) (by omega) z0 z1
  have e1 : (aset L 6 n (v_X6_pixelsOf L g n z)) 1 = L 1 := aset_row (by decide)
  have e5 : ∀ q, (aset L 6 n (v_X6_pixelsOf L g n z)) 5 q = L 5 q := fun q => by rw [aset_row (by decide)]
  have r := mrd_p (P := aset L 6 n (v_X6_pixelsOf L g n z)) (g := g) (k := n) (z := z) (by rw [e1]; exact h) (mGap_row e1 hg) g0 g1 (by omega) (by rw [of_row e1]; exact hn) z0 z1 (by rw [aset_at]; omega) (fun c => by
    have q := hi (n - 1) (by omega) (by omega)
    rw [e5, aset_ne (by omega)]
    omega)
  refine ⟨r.1, fun j j0 j1 => ?_⟩
  unfold laA
  rw [aset_row (show (6 : Nat) ≠ 5 by decide)]
  by_cases c : j = n
  · subst c
    rw [aset_at, aset_at]
    refine ⟨⟨r.2.1, ?_⟩, w⟩
    rcases r.2.2 with q | q
    · omega
    · have q2 := hi (n - 1) (by omega) (by omega)
      have q3 := q.2
      rw [e5, aset_ne (by omega)] at q3
      omega
  · rw [aset_ne (by omega), e5, aset_ne (by omega)]
    exact hi j j0 (by omega)
theorem laB_bd {L : hGM} {g : Int} {n : Nat} (h0 : 0 < n) (hi : laI L (n + 1)) : (-1000 ≤ laM L g n ∧ laM L g n ≤ 5000 + 300 * n) ∧ laI (laB L g n) (n + 1) := by
  have q := hi (n - 1) (by omega) (by omega)
  have q2 := hi n (by omega) (by omega)
  have m : laM L g n = L 5 (n - 1) + L 6 (n - 1) + 0 ∨ laM L g n = L 5 (n - 1) + L 6 (n - 1) + 1 := by
    unfold laM
    split
    · exact Or.inl rfl
    · exact Or.inr rfl
  refine ⟨⟨by omega, by omega⟩, fun j j0 j1 => ?_⟩
  unfold laB
  rw [aset_row (show (6 : Nat) ≠ 5 by decide), aset_row (show (6 : Nat) ≠ 0 by decide)]
  by_cases c : j = n
  · subst c
    rw [aset_at]
    refine ⟨?_, q2.2⟩
    split <;> omega
  · rw [aset_ne (by omega), aset_row (by decide)]
    exact hi j j0 j1
theorem laS_bd {P : hGM} {g z : Int} (h : mNum (P 1)) (hg : mGap P) (g0 : 0 ≤ g) (g1 : g < 8) (z0 : 0 ≤ z) (z1 : z ≤ 48) (n : Nat) (hn : (n : Int) ≤ v_X6_of P g 1) : laI (laS P g z n) n := by
  induction n with
  | zero => intro j j0 j1; omega
  | succ n ih =>
    have ih := ih (by omega)
    have e1 : laS P g z n 1 = P 1 := laS_row n (by decide) (by decide) (by decide)
    have a := (laA_bd (L := laS P g z n) (z := z) (by rw [e1]; exact h) (mGap_row e1 hg) g0 g1 z0 z1 (by rw [of_row e1]; omega) ih).2
    unfold laS
    split
    · exact a
    · exact (laB_bd (by omega) a).2
theorem lays_row {P : hGM} {g z : Int} {i : Nat} (h0 : i ≠ 0) (h5 : i ≠ 5) (h6 : i ≠ 6) : m_X6_lays P g z i = P i := laS_row _ h0 h5 h6
theorem lays_1 {P : hGM} {g z : Int} : m_X6_lays P g z 1 = P 1 := laS_row _ (by decide) (by decide) (by decide)
theorem lays_lai {P : hGM} {g z : Int} (h : mNum (P 1)) (hg : mGap P) (g0 : 0 ≤ g) (g1 : g < 8) (z0 : 0 ≤ z) (z1 : z ≤ 48) : laI (m_X6_lays P g z) (v_X6_of (m_X6_lays P g z) g 1).toNat := by
  have ob := of_bd h g0 g1
  rw [of_row lays_1]
  exact laS_bd h hg g0 g1 z0 z1 _ (by omega)
set_option maxHeartbeats 4000000 in
theorem x_X6_lays (P : hGM) (glyph : Int) (size : Int) (h_glyph : hIn glyph) (h_size : hIn size) (hRP : ∀ (i : Nat) (k : Int), i < 100 → hIn (P i k)) (hp : p_X6_lays P glyph size) (B7 : Int → hGM → Prop) (B43 : Int → hGM → Prop) (B95 : Int → Int → hGM → Prop) (B122 : Int → Int → hGM → Prop) (B150 : Int → hGM → Prop) (Po : hGM → Prop) 
  (r7 : ∀ (y3 : Int) (P1 : hGM), hIn y3 → ((∀ (i : Nat) (k : Int), i < 100 → hIn (P1 i k)) → (p_X6_of P1 glyph 1 ∧ ((y3 < (v_X6_of P1 glyph 1) → (p_X6_pixelsOf P1 glyph y3 size ∧ ((0 ≤ y3 ∧ y3 < 6) ∧ (p_X6_rounded (aset P1 6 y3 (v_X6_pixelsOf P1 glyph y3 size)) glyph y3 size ∧ (B43 y3 (aset (aset P1 6 y3 (v_X6_pixelsOf P1 glyph y3 size)) 5 y3 (v_X6_rounded (aset P1 6 y3 (v_X6_pixelsOf P1 glyph y3 size)) glyph y3 size))))))) ∧ (¬ y3 < (v_X6_of P1 glyph 1) → (Po P1))))) → (B7 y3 P1)) 
  (r43 : ∀ (y3 : Int) (P1 : hGM), hIn y3 → ((∀ (i : Nat) (k : Int), i < 100 → hIn (P1 i k)) → ((y3 ≤ 0 → (B150 y3 P1)) ∧ (¬ y3 ≤ 0 → (p_X6_ofStem P1 glyph y3 0 ∧ (hIn (y3 - 1) ∧ (p_X6_endOf P1 glyph (y3 - 1) ∧ ((0 ≤ (y3 - 1) ∧ (y3 - 1) < 6) ∧ (hIn ((v_X6_ofStem P1 glyph y3 0) - (v_X6_endOf P1 glyph (y3 - 1))) ∧ ((((v_X6_ofStem P1 glyph y3 0) - (v_X6_endOf P1 glyph (y3 - 1))) ≤ 0 → (B95 y3 (((P1 5 (y3 - 1)) + (P1 6 (y3 - 1))) + 0) P1)) ∧ (¬ ((v_X6_ofStem P1 glyph y3 0) - (v_X6_endOf P1 glyph (y3 - 1))) ≤ 0 → (B95 y3 (((P1 5 (y3 - 1)) + (P1 6 (y3 - 1))) + 1) P1))))))))))) → (B43 y3 P1)) 
  (r95 : ∀ (y3 : Int) (y5 : Int) (P1 : hGM), hIn y3 → hIn y5 → ((∀ (i : Nat) (k : Int), i < 100 → hIn (P1 i k)) → ((0 ≤ y3 ∧ y3 < 6) ∧ (((P1 5 y3) < y5 → (B122 y3 y5 (aset P1 0 9 (iOr (P1 0 9) (iShl 1 y3))))) ∧ (¬ (P1 5 y3) < y5 → (B122 y3 y5 (aset P1 0 9 (iOr (P1 0 9) 0))))))) → (B95 y3 y5 P1)) 
  (r122 : ∀ (y3 : Int) (y5 : Int) (P1 : hGM), hIn y3 → hIn y5 → ((∀ (i : Nat) (k : Int), i < 100 → hIn (P1 i k)) → ((0 ≤ y3 ∧ y3 < 6) ∧ (((P1 5 y3) < y5 → (B150 y3 (aset P1 5 y3 y5))) ∧ (¬ (P1 5 y3) < y5 → (B150 y3 (aset P1 5 y3 (P1 5 y3))))))) → (B122 y3 y5 P1)) 
  (r150 : ∀ (y3 : Int) (P1 : hGM), hIn y3 → ((∀ (i : Nat) (k : Int), i < 100 → hIn (P1 i k)) → (B7 (y3 + 1) P1)) → (B150 y3 P1)) 
  (hpost : Po (m_X6_lays P glyph size)) : (B7 0 (aset P 0 9 0)) := by
  obtain ⟨hm, hg, ⟨g0, g1⟩, z0, z1⟩ := hp
  have ob := of_bd hm g0 g1
  have e : (((v_X6_of P glyph 1).toNat : Nat) : Int) = v_X6_of P glyph 1 := Int.toNat_of_nonneg ob.1
  have r1 := fun n : Nat => laS_row (P := P) (g := glyph) (z := size) (i := 1) n (by decide) (by decide) (by decide)
  refine upN (C := fun k => B7 (k : Int) (laS P glyph size k)) (v_X6_of P glyph 1).toNat ?_ ?_
  · refine r7 _ _ ⟨by omega, by omega⟩ (fun _ => ⟨of_p g0 g1 (by decide) (by decide), fun z => ?_, fun _ => hpost⟩)
    rw [of_row (r1 _)] at z
    omega
  · intro k hk h
    have hs := laS_bd hm hg g0 g1 z0 z1 k (by omega)
    have hmk : mNum (laS P glyph size k 1) := by rw [r1]; exact hm
    have hgk := mGap_row (r1 k) hg
    have hof := of_row (r1 k) glyph 1
    have ho := of_row (r1 (k + 1)) glyph 1
    have hs1 : laS P glyph size (k + 1) = if (k : Int) ≤ 0 then laA (laS P glyph size k) glyph size k else laB (laA (laS P glyph size k) glyph size k) glyph k := rfl
    have ra := r1 k
    rw [hs1] at h
    generalize laS P glyph size k = L at h hs hmk hgk hof ra ⊢
    have a := laA_bd hmk hgk g0 g1 z0 z1 (by rw [hof]; omega) hs
    refine r7 _ _ ⟨by omega, by omega⟩ (fun _ => ⟨of_p g0 g1 (by decide) (by decide), fun _ => ⟨pixels_p hmk g0 g1 (by omega) (by omega) (by omega) z1, ⟨by omega, by omega⟩, a.1, ?_⟩, fun z => by rw [hof] at z; omega⟩)
    have h150 : ∀ L2 : hGM, B7 ((k + 1 : Nat) : Int) L2 → B150 (k : Int) L2 := fun L2 q => r150 _ _ ⟨by omega, by omega⟩ (fun _ => by rw [show (k : Int) + 1 = ((k + 1 : Nat) : Int) by omega]; exact q)
    have q1 : laA L glyph size k 1 = L 1 := by unfold laA; rw [aset_row (by decide), aset_row (by decide)]
    have hb := a.2
    show B43 (k : Int) (laA L glyph size k)
    generalize laA L glyph size k = M at h hb q1 ⊢
    have hmM : mNum (M 1) := by rw [q1]; exact hmk
    refine r43 _ _ ⟨by omega, by omega⟩ (fun _ => ⟨fun z => ?_, fun z => ?_⟩)
    · rw [if_pos z] at h; exact h150 _ h
    · rw [if_neg z] at h
      have b := laB_bd (L := M) (g := glyph) (n := k) (by omega) hb
      have kk := hb k (by omega) (by omega)
      have kl := hb (k - 1) (by omega) (by omega)
      have o1 := ofStem_bd hmM g0 g1 (show 0 ≤ (k : Int) by omega) (by omega)
      have o2 := ofStem_bd hmM g0 g1 (show 0 ≤ (k : Int) - 1 by omega) (by omega)
      have eo : v_X6_endOf M glyph (k - 1) = v_X6_ofStem M glyph (k - 1) 0 + v_X6_ofStem M glyph (k - 1) 1 := rfl
      have h95 : B95 (k : Int) (laM M glyph k) M := by
        refine r95 _ _ _ ⟨by omega, by omega⟩ ⟨by omega, by omega⟩ (fun _ => ⟨⟨by omega, by omega⟩, fun z2 => ?_, fun z2 => ?_⟩)
        · have e2 : aset (aset M 0 9 (iOr (M 0 9) (iShl 1 k))) 5 k (laM M glyph k) = laB M glyph k := by unfold laB; rw [if_pos z2, if_pos z2]
          refine r122 _ _ _ ⟨by omega, by omega⟩ ⟨by omega, by omega⟩ (fun _ => ⟨⟨by omega, by omega⟩, fun _ => ?_, fun z3 => absurd z2 z3⟩)
          rw [e2]; exact h150 _ h
        · have e2 : aset (aset M 0 9 (iOr (M 0 9) 0)) 5 k (M 5 k) = laB M glyph k := by unfold laB; rw [if_neg z2, if_neg z2]
          refine r122 _ _ _ ⟨by omega, by omega⟩ ⟨by omega, by omega⟩ (fun _ => ⟨⟨by omega, by omega⟩, fun z3 => absurd z3 z2, fun _ => ?_⟩)
          have e3 : (aset M 0 9 (iOr (M 0 9) 0)) 5 k = M 5 k := by rw [aset_row (by decide)]
          rw [e3, e2]; exact h150 _ h
      refine ⟨ofStem_p g0 g1 (by omega) (by omega) (by decide) (by decide), ⟨by omega, by omega⟩, endOf_p hmM g0 g1 (by omega) (by omega), ⟨by omega, by omega⟩, ⟨by omega, by omega⟩, fun c => ?_, fun c => ?_⟩
      · have e4 : laM M glyph k = M 5 (k - 1) + M 6 (k - 1) + 0 := by unfold laM; rw [if_pos c]
        rw [← e4]; exact h95
      · have e4 : laM M glyph k = M 5 (k - 1) + M 6 (k - 1) + 1 := by unfold laM; rw [if_neg c]
        rw [← e4]; exact h95
def p_X6_cuts (P : hGM) (glyph : Int) (size : Int) : Prop := mNum (P 1) ∧ (0 ≤ glyph ∧ glyph < 8) ∧ (0 ≤ size ∧ size ≤ 48) ∧ laI P (v_X6_of P glyph 1).toNat
/-- stems that are cut, among the first n -/
def cutN (P : hGM) (g z : Int) : Nat → Int
  | 0 => 0
  | n + 1 => iOr (cutN P g z n) (if P 5 n < 0 ∨ ¬ P 5 n + P 6 n ≤ v_X6_columns P g z then iShl 1 n else 0)
def v_X6_cuts (P : hGM) (glyph : Int) (size : Int) : Int := cutN P glyph size (v_X6_of P glyph 1).toNat
theorem iOr_in (a b : Int) : hIn (iOr a b) := hIn_toInt _
theorem cutN_in (P : hGM) (g z : Int) (n : Nat) : hIn (cutN P g z n) := by
  cases n with
  | zero => exact hIn_0
  | succ n => exact iOr_in _ _
set_option maxHeartbeats 4000000 in
theorem x_X6_cuts (P : hGM) (glyph : Int) (size : Int) (h_glyph : hIn glyph) (h_size : hIn size) (hRP : ∀ (i : Nat) (k : Int), i < 100 → hIn (P i k)) (hp : p_X6_cuts P glyph size) (B5 : Int → Int → Prop) (Po : Int → Prop) 
  (r5 : ∀ (y3 : Int) (y4 : Int), hIn y3 → hIn y4 → ((p_X6_of P glyph 1 ∧ ((y4 < (v_X6_of P glyph 1) → ((0 ≤ y4 ∧ y4 < 6) ∧ (((P 5 y4) < 0 → (B5 (iOr y3 (iShl 1 y4)) (y4 + 1))) ∧ (¬ (P 5 y4) < 0 → (p_X6_columns P glyph size ∧ (hIn ((P 5 y4) + (P 6 y4)) ∧ ((((P 5 y4) + (P 6 y4)) ≤ (v_X6_columns P glyph size) → (B5 (iOr y3 0) (y4 + 1))) ∧ (¬ ((P 5 y4) + (P 6 y4)) ≤ (v_X6_columns P glyph size) → (B5 (iOr y3 (iShl 1 y4)) (y4 + 1)))))))))) ∧ (¬ y4 < (v_X6_of P glyph 1) → (Po y3))))) → (B5 y3 y4)) 
  (hpost : Po (v_X6_cuts P glyph size)) : (B5 0 0) := by
  obtain ⟨hm, ⟨g0, g1⟩, ⟨z0, z1⟩, hi⟩ := hp
  have ob := of_bd hm g0 g1
  have e : (((v_X6_of P glyph 1).toNat : Nat) : Int) = v_X6_of P glyph 1 := Int.toNat_of_nonneg ob.1
  refine upN (C := fun k => B5 (cutN P glyph size k) (k : Int)) (v_X6_of P glyph 1).toNat ?_ ?_
  · exact r5 _ _ (cutN_in _ _ _ _) ⟨by omega, by omega⟩ ⟨of_p g0 g1 (by decide) (by decide), fun z => by omega, fun _ => hpost⟩
  · intro k hk h
    have q := hi k (by omega) (by omega)
    refine r5 _ _ (cutN_in _ _ _ _) ⟨by omega, by omega⟩ ⟨of_p g0 g1 (by decide) (by decide), fun _ => ⟨⟨by omega, by omega⟩, fun c => ?_, fun c => ⟨mcol_p hm g0 g1 z0 z1, ⟨by omega, by omega⟩, fun c2 => ?_, fun c2 => ?_⟩⟩, fun z => by omega⟩
    · have h : B5 (iOr (cutN P glyph size k) (if P 5 k < 0 ∨ ¬ P 5 k + P 6 k ≤ v_X6_columns P glyph size then iShl 1 k else 0)) (k + 1) := h
      rw [if_pos (Or.inl c)] at h; exact h
    · have h : B5 (iOr (cutN P glyph size k) (if P 5 k < 0 ∨ ¬ P 5 k + P 6 k ≤ v_X6_columns P glyph size then iShl 1 k else 0)) (k + 1) := h
      rw [if_neg (fun x => x.elim c (fun y => y c2))] at h; exact h
    · have h : B5 (iOr (cutN P glyph size k) (if P 5 k < 0 ∨ ¬ P 5 k + P 6 k ≤ v_X6_columns P glyph size then iShl 1 k else 0)) (k + 1) := h
      rw [if_pos (Or.inr c2)] at h; exact h
def p_X6_isClear (P : hGM) (glyph : Int) (size : Int) : Prop := (p_X6_lays P glyph size ∧ ((((m_X6_lays P glyph size) 0 9) = 0 → (p_X6_cuts (m_X6_lays P glyph size) glyph size ∧ (((v_X6_cuts (m_X6_lays P glyph size) glyph size) = 0 → True) ∧ (¬ (v_X6_cuts (m_X6_lays P glyph size) glyph size) = 0 → True)))) ∧ (¬ ((m_X6_lays P glyph size) 0 9) = 0 → True)))
def v_X6_isClear (P : hGM) (glyph : Int) (size : Int) : Int := (if ((m_X6_lays P glyph size) 0 9) = 0 then (if (v_X6_cuts (m_X6_lays P glyph size) glyph size) = 0 then 1 else 0) else 0)
def m_X6_isClear (P : hGM) (glyph : Int) (size : Int) : hGM := (if ((m_X6_lays P glyph size) 0 9) = 0 then (if (v_X6_cuts (m_X6_lays P glyph size) glyph size) = 0 then (m_X6_lays P glyph size) else (m_X6_lays P glyph size)) else (m_X6_lays P glyph size))
theorem z_X6_isClear (P : hGM) (glyph : Int) (size : Int) : v_X6_isClear P glyph size = 0 ∨ v_X6_isClear P glyph size = 1 := by
  unfold v_X6_isClear
  (repeat' split) <;> first | exact Or.inl rfl | exact Or.inr rfl
def p_X6_isLit (P : hGM) (glyph : Int) (column : Int) : Prop := mNum (P 1) ∧ (0 ≤ glyph ∧ glyph < 8) ∧ (-1000 ≤ column ∧ column ≤ 1000) ∧ laI P (v_X6_of P glyph 1).toNat
/-- whether a column is lit by one of the first n stems -/
def litN (P : hGM) (c : Int) : Nat → Int
  | 0 => 0
  | n + 1 => if litN P c n = 0 then (if v_X6_in (c - P 5 n) 0 (P 6 n - 1) = 0 then 0 else 1) else 1
def v_X6_isLit (P : hGM) (glyph : Int) (column : Int) : Int := litN P column (v_X6_of P glyph 1).toNat
theorem litN_01 (P : hGM) (c : Int) (n : Nat) : litN P c n = 0 ∨ litN P c n = 1 := by
  cases n with
  | zero => exact Or.inl rfl
  | succ n =>
    unfold litN
    split
    · split
      · exact Or.inl rfl
      · exact Or.inr rfl
    · exact Or.inr rfl
set_option maxHeartbeats 4000000 in
theorem x_X6_isLit (P : hGM) (glyph : Int) (column : Int) (h_glyph : hIn glyph) (h_column : hIn column) (hRP : ∀ (i : Nat) (k : Int), i < 100 → hIn (P i k)) (hp : p_X6_isLit P glyph column) (B5 : Int → Int → Prop) (Po : Int → Prop) 
  (r5 : ∀ (y3 : Int) (y4 : Int), hIn y3 → hIn y4 → ((p_X6_of P glyph 1 ∧ ((y4 < (v_X6_of P glyph 1) → ((y3 = 0 → ((0 ≤ y4 ∧ y4 < 6) ∧ (hIn (column - (P 5 y4)) ∧ (hIn ((P 6 y4) - 1) ∧ (((v_X6_in (column - (P 5 y4)) 0 ((P 6 y4) - 1)) = 0 → (B5 0 (y4 + 1))) ∧ (¬ (v_X6_in (column - (P 5 y4)) 0 ((P 6 y4) - 1)) = 0 → (B5 1 (y4 + 1)))))))) ∧ (¬ y3 = 0 → (B5 1 (y4 + 1))))) ∧ (¬ y4 < (v_X6_of P glyph 1) → ((y3 = 0 ∨ y3 = 1) ∧ (Po y3)))))) → (B5 y3 y4)) 
  (hpost : Po (v_X6_isLit P glyph column)) : (B5 0 0) := by
  obtain ⟨hm, ⟨g0, g1⟩, ⟨c0, c1⟩, hi⟩ := hp
  have ob := of_bd hm g0 g1
  have e : (((v_X6_of P glyph 1).toNat : Nat) : Int) = v_X6_of P glyph 1 := Int.toNat_of_nonneg ob.1
  have lin : ∀ n, hIn (litN P column n) := fun n => by rcases litN_01 P column n with q | q <;> rw [q] <;> exact ⟨by decide, by decide⟩
  refine upN (C := fun k => B5 (litN P column k) (k : Int)) (v_X6_of P glyph 1).toNat ?_ ?_
  · exact r5 _ _ (lin _) ⟨by omega, by omega⟩ ⟨of_p g0 g1 (by decide) (by decide), fun z => by omega, fun _ => ⟨litN_01 _ _ _, hpost⟩⟩
  · intro k hk h
    have q := hi k (by omega) (by omega)
    have h : B5 (if litN P column k = 0 then (if v_X6_in (column - P 5 k) 0 (P 6 k - 1) = 0 then 0 else 1) else 1) (k + 1) := h
    refine r5 _ _ (lin _) ⟨by omega, by omega⟩ ⟨of_p g0 g1 (by decide) (by decide), fun _ => ⟨fun c => ⟨⟨by omega, by omega⟩, ⟨by omega, by omega⟩, ⟨by omega, by omega⟩, fun c2 => ?_, fun c2 => ?_⟩, fun c => ?_⟩, fun z => by omega⟩
    · rw [if_pos c, if_pos c2] at h; exact h
    · rw [if_pos c, if_neg c2] at h; exact h
    · rw [if_neg c] at h; exact h
def p_X6_litHalf (P : hGM) (glyph : Int) (size : Int) (half : Int) : Prop := mNum (P 1) ∧ (0 ≤ glyph ∧ glyph < 8) ∧ (0 ≤ size ∧ size ≤ 48) ∧ (0 ≤ half ∧ half ≤ 1) ∧ laI P (v_X6_of P glyph 1).toNat
/-- the first n columns of a half, as bits -/
def halfN (P : hGM) (g z h : Int) : Nat → Int
  | 0 => 0
  | n + 1 => iOr (halfN P g z h n) (if 32 * h + n < v_X6_columns P g z ∧ ¬ v_X6_isLit P g (32 * h + n) = 0 then iShl 1 n else 0)
def v_X6_litHalf (P : hGM) (glyph : Int) (size : Int) (half : Int) : Int := halfN P glyph size half 32
theorem halfN_in (P : hGM) (g z h : Int) (n : Nat) : hIn (halfN P g z h n) := by
  cases n with
  | zero => exact hIn_0
  | succ n => exact iOr_in _ _
set_option maxHeartbeats 4000000 in
theorem x_X6_litHalf (P : hGM) (glyph : Int) (size : Int) (half : Int) (h_glyph : hIn glyph) (h_size : hIn size) (h_half : hIn half) (hRP : ∀ (i : Nat) (k : Int), i < 100 → hIn (P i k)) (hp : p_X6_litHalf P glyph size half) (B6 : Int → Int → Prop) (Po : Int → Prop) 
  (r6 : ∀ (y4 : Int) (y5 : Int), hIn y4 → hIn y5 → (((y5 < 32 → (p_X6_columns P glyph size ∧ (hIn ((32 * half) + y5) ∧ ((((32 * half) + y5) < (v_X6_columns P glyph size) → (p_X6_isLit P glyph ((32 * half) + y5) ∧ (((v_X6_isLit P glyph ((32 * half) + y5)) = 0 → (B6 (iOr y4 0) (y5 + 1))) ∧ (¬ (v_X6_isLit P glyph ((32 * half) + y5)) = 0 → (B6 (iOr y4 (iShl 1 y5)) (y5 + 1)))))) ∧ (¬ ((32 * half) + y5) < (v_X6_columns P glyph size) → (B6 (iOr y4 0) (y5 + 1))))))) ∧ (¬ y5 < 32 → (Po y4)))) → (B6 y4 y5)) 
  (hpost : Po (v_X6_litHalf P glyph size half)) : (B6 0 0) := by
  obtain ⟨hm, ⟨g0, g1⟩, ⟨z0, z1⟩, ⟨h0, h1⟩, hi⟩ := hp
  refine upN (C := fun k => B6 (halfN P glyph size half k) (k : Int)) 32 ?_ ?_
  · exact r6 _ _ (halfN_in _ _ _ _ _) ⟨by decide, by decide⟩ ⟨fun z => absurd z (by decide), fun _ => hpost⟩
  · intro k hk h
    have h : B6 (iOr (halfN P glyph size half k) (if 32 * half + k < v_X6_columns P glyph size ∧ ¬ v_X6_isLit P glyph (32 * half + k) = 0 then iShl 1 k else 0)) (k + 1) := h
    refine r6 _ _ (halfN_in _ _ _ _ _) ⟨by omega, by omega⟩ ⟨fun _ => ⟨mcol_p hm g0 g1 z0 z1, ⟨by omega, by omega⟩, fun c => ⟨⟨hm, ⟨g0, g1⟩, ⟨by omega, by omega⟩, hi⟩, fun c2 => ?_, fun c2 => ?_⟩, fun c => ?_⟩, fun z => by omega⟩
    · rw [if_neg (fun x => x.2 c2)] at h; exact h
    · rw [if_pos ⟨c, c2⟩] at h; exact h
    · rw [if_neg (fun x => c x.1)] at h; exact h
def p_X6_ofSheet (P : hGM) (sheet : Int) (what : Int) : Prop := ((0 ≤ ((169 + (10 * sheet)) + what) ∧ ((169 + (10 * sheet)) + what) < 273) ∧ True)
def v_X6_ofSheet (P : hGM) (sheet : Int) (what : Int) : Int := (P 1 ((169 + (10 * sheet)) + what))
def p_X6_sheetAt (P : hGM) (size : Int) : Prop := 0 ≤ P 1 7 ∧ P 1 7 ≤ 4
def v_X6_sheetAt (P : hGM) (size : Int) : Int := if firstN (fun k => decide (v_X6_ofSheet P k 0 = size)) (P 1 7).toNat = -1 then -1000004 else firstN (fun k => decide (v_X6_ofSheet P k 0 = size)) (P 1 7).toNat
theorem sheetAt_bd {P : hGM} {z : Int} (h : 0 ≤ P 1 7) : v_X6_sheetAt P z < 0 ∨ (0 ≤ v_X6_sheetAt P z ∧ v_X6_sheetAt P z < P 1 7) := by
  have s := firstN_spec (fun k => decide (v_X6_ofSheet P k 0 = z)) (P 1 7).toNat
  unfold v_X6_sheetAt
  split
  · exact Or.inl (by decide)
  · exact Or.inr (by omega)
theorem ofSheet_p {P : hGM} {k w : Int} (k0 : 0 ≤ k) (k1 : k < 4) (w0 : 0 ≤ w) (w1 : w < 10) : p_X6_ofSheet P k w := ⟨⟨by omega, by omega⟩, trivial⟩
set_option maxHeartbeats 4000000 in
theorem x_X6_sheetAt (P : hGM) (size : Int) (h_size : hIn size) (hRP : ∀ (i : Nat) (k : Int), i < 100 → hIn (P i k)) (hp : p_X6_sheetAt P size) (B2 : Int → Prop) (Po : Int → Prop) 
  (r2 : ∀ (y2 : Int), hIn y2 → (((y2 < (P 1 7) → (p_X6_ofSheet P y2 0 ∧ (((v_X6_ofSheet P y2 0) = size → (Po y2)) ∧ (¬ (v_X6_ofSheet P y2 0) = size → (B2 (y2 + 1)))))) ∧ (¬ y2 < (P 1 7) → (Po (-1000004))))) → (B2 y2)) 
  (hpost : Po (v_X6_sheetAt P size)) : (B2 0) := by
  obtain ⟨q0, q1⟩ := hp
  have e : (((P 1 7).toNat : Nat) : Int) = P 1 7 := Int.toNat_of_nonneg q0
  unfold v_X6_sheetAt at hpost
  refine firstLoop (B := B2) (Po := fun r => Po (if r = -1 then -1000004 else r)) (fun k => decide (v_X6_ofSheet P k 0 = size)) (P 1 7).toNat (fun k h0 h1 hk hp => ?_) (fun k h0 h1 hk hb => ?_) (fun hp => ?_) hpost
  · have hk := of_decide_eq_true hk
    have hp : Po (if k = -1 then -1000004 else k) := hp
    rw [if_neg (by omega)] at hp
    exact r2 _ ⟨by omega, by omega⟩ ⟨fun _ => ⟨ofSheet_p (by omega) (by omega) (by decide) (by decide), fun _ => hp, fun z => absurd hk z⟩, fun z => by omega⟩
  · have hk := of_decide_eq_false hk
    exact r2 _ ⟨by omega, by omega⟩ ⟨fun _ => ⟨ofSheet_p (by omega) (by omega) (by decide) (by decide), fun z => absurd z hk, fun _ => hb⟩, fun z => by omega⟩
  · have hp : Po (if (-1 : Int) = -1 then -1000004 else -1) := hp
    rw [if_pos rfl] at hp
    exact r2 _ ⟨by omega, by omega⟩ ⟨fun z => by omega, fun _ => hp⟩
def p_X6_takesSheet (P : hGM) (sheet : Int) : Prop := 0 ≤ sheet ∧ sheet < P 1 7 ∧ P 1 7 ≤ 4
def taS (P : hGM) (s : Int) : hGM := mvD (mvD (aset P 1 7 (P 1 7 - 1)) 1 10 (169 + 10 * s) (169 + 10 * (P 1 7 - 1))) 1 16 (209 + 16 * s) (209 + 16 * (P 1 7 - 1))
def m_X6_takesSheet (P : hGM) (sheet : Int) : hGM := taS P sheet
theorem mvD_7 {A : hGM} {d a b : Int} (h : 8 ≤ a) : mvD A 1 d a b 1 7 = A 1 7 := by unfold mvD; rw [if_neg (by omega)]
set_option maxHeartbeats 4000000 in
theorem x_X6_takesSheet (P : hGM) (sheet : Int) (h_sheet : hIn sheet) (hRP : ∀ (i : Nat) (k : Int), i < 100 → hIn (P i k)) (hp : p_X6_takesSheet P sheet) (B20 : Int → hGM → Prop) (B68 : Int → hGM → Prop) (Po : hGM → Prop) 
  (r20 : ∀ (y2 : Int) (P1 : hGM), hIn y2 → ((∀ (i : Nat) (k : Int), i < 100 → hIn (P1 i k)) → (hIn (169 + (10 * (P1 1 7))) ∧ ((y2 < (169 + (10 * (P1 1 7))) → ((0 ≤ (y2 + 10) ∧ (y2 + 10) < 273) ∧ ((0 ≤ y2 ∧ y2 < 273) ∧ (B20 (y2 + 1) (aset P1 1 y2 (P1 1 (y2 + 10))))))) ∧ (¬ y2 < (169 + (10 * (P1 1 7))) → (B68 (209 + (16 * sheet)) P1))))) → (B20 y2 P1)) 
  (r68 : ∀ (y2 : Int) (P1 : hGM), hIn y2 → ((∀ (i : Nat) (k : Int), i < 100 → hIn (P1 i k)) → (hIn (209 + (16 * (P1 1 7))) ∧ ((y2 < (209 + (16 * (P1 1 7))) → ((0 ≤ (y2 + 16) ∧ (y2 + 16) < 273) ∧ ((0 ≤ y2 ∧ y2 < 273) ∧ (B68 (y2 + 1) (aset P1 1 y2 (P1 1 (y2 + 16))))))) ∧ (¬ y2 < (209 + (16 * (P1 1 7))) → (Po P1))))) → (B68 y2 P1)) 
  (hpost : Po (m_X6_takesSheet P sheet)) : (hIn ((P 1 7) - 1) ∧ (B20 (169 + (10 * sheet)) (aset P 1 7 ((P 1 7) - 1)))) := by
  obtain ⟨s0, s1, s2⟩ := hp
  unfold m_X6_takesSheet taS at hpost
  refine ⟨⟨by omega, by omega⟩, ?_⟩
  have e7 : (aset P 1 7 (P 1 7 - 1)) 1 7 = P 1 7 - 1 := aset_at _ _ _ _
  generalize aset P 1 7 (P 1 7 - 1) = A at e7 hpost ⊢
  have h68 : ∀ L : hGM, L 1 7 = P 1 7 - 1 → Po (mvD L 1 16 (209 + 16 * sheet) (209 + 16 * (P 1 7 - 1))) → B68 (209 + 16 * sheet) L := by
    intro L hL hq
    have h : B68 (209 + 16 * sheet) (mvD L 1 16 (209 + 16 * sheet) (209 + 16 * sheet)) := by
      refine upI (C := fun k => B68 k (mvD L 1 16 (209 + 16 * sheet) k)) (lo := 209 + 16 * sheet) (hi := 209 + 16 * (P 1 7 - 1)) (by omega) ?_ ?_
      · refine r68 _ _ ⟨by omega, by omega⟩ (fun _ => ?_)
        rw [mvD_7 (by omega), hL]
        exact ⟨⟨by omega, by omega⟩, fun z => by omega, fun _ => hq⟩
      · intro k k0 k1 h
        refine r68 _ _ ⟨by omega, by omega⟩ (fun _ => ?_)
        rw [mvD_7 (by omega), hL]
        refine ⟨⟨by omega, by omega⟩, fun _ => ⟨⟨by omega, by omega⟩, ⟨by omega, by omega⟩, ?_⟩, fun z => by omega⟩
        rw [mvD_step (by decide) k0]
        exact h
    rw [mvD_0] at h
    exact h
  have h : B20 (169 + 10 * sheet) (mvD A 1 10 (169 + 10 * sheet) (169 + 10 * sheet)) := by
    refine upI (C := fun k => B20 k (mvD A 1 10 (169 + 10 * sheet) k)) (lo := 169 + 10 * sheet) (hi := 169 + 10 * (P 1 7 - 1)) (by omega) ?_ ?_
    · refine r20 _ _ ⟨by omega, by omega⟩ (fun _ => ?_)
      have hv : mvD A 1 10 (169 + 10 * sheet) (169 + 10 * (P 1 7 - 1)) 1 7 = P 1 7 - 1 := by rw [mvD_7 (by omega), e7]
      rw [hv]
      exact ⟨⟨by omega, by omega⟩, fun z => by omega, fun _ => h68 _ hv hpost⟩
    · intro k k0 k1 h
      refine r20 _ _ ⟨by omega, by omega⟩ (fun _ => ?_)
      rw [mvD_7 (by omega), e7]
      refine ⟨⟨by omega, by omega⟩, fun _ => ⟨⟨by omega, by omega⟩, ⟨by omega, by omega⟩, ?_⟩, fun z => by omega⟩
      rw [mvD_step (by decide) k0]
      exact h
  rw [mvD_0] at h
  exact h
def p_X6_make (P : hGM) (size : Int) : Prop := mOK P ∧ mGap P ∧ P 1 8 < 1000000
/-- the glyphs of a sheet, the first n -/
def mkA (L : hGM) (y z k : Int) : hGM := aset (aset (aset (m_X6_lays L k z) 1 (((169 + (10 * y)) + 2) + k) (v_X6_columns (m_X6_lays L k z) k z)) 1 ((209 + (16 * y)) + (2 * k)) (v_X6_litHalf (aset (m_X6_lays L k z) 1 (((169 + (10 * y)) + 2) + k) (v_X6_columns (m_X6_lays L k z) k z)) k z 0)) 1 (((209 + (16 * y)) + (2 * k)) + 1) (v_X6_litHalf (aset (aset (m_X6_lays L k z) 1 (((169 + (10 * y)) + 2) + k) (v_X6_columns (m_X6_lays L k z) k z)) 1 ((209 + (16 * y)) + (2 * k)) (v_X6_litHalf (aset (m_X6_lays L k z) 1 (((169 + (10 * y)) + 2) + k) (v_X6_columns (m_X6_lays L k z) k z)) k z 0)) k z 1)
def mkM (L : hGM) (y z : Int) : Nat → hGM
  | 0 => L
  | n + 1 => if (n : Int) < (mkM L y z n) 1 0 then mkA (mkM L y z n) y z n else aset (aset (aset (mkM L y z n) 1 (((169 + (10 * y)) + 2) + n) 0) 1 ((209 + (16 * y)) + (2 * n)) 0) 1 (((209 + (16 * y)) + (2 * n)) + 1) 0
/-- a sheet goes, if there must one -/
def mkK (C : hGM) (z : Int) : hGM := if v_X6_sheetAt C z < 0 then (if C 1 7 = 4 then m_X6_takesSheet C 0 else C) else m_X6_takesSheet C (v_X6_sheetAt C z)
def mkB (K : hGM) (z : Int) : hGM := aset (aset K 1 (169 + (10 * (K 1 7))) z) 1 ((169 + (10 * (K 1 7))) + 1) ((aset K 1 (169 + (10 * (K 1 7))) z) 1 0)
def mkE (Z : hGM) : hGM := aset (aset Z 1 7 ((Z 1 7) + 1)) 1 8 (((aset Z 1 7 ((Z 1 7) + 1)) 1 8) + 1)
def mkZ (P : hGM) (z : Int) : hGM := mkE (mkM (mkB (mkK (m_X6_changes P) z) z) (mkK (m_X6_changes P) z 1 7) z 8)
def v_X6_make (P : hGM) (size : Int) : Int := if v_X6_isSize size = 0 then -1000001 else mkZ P size 1 7
def m_X6_make (P : hGM) (size : Int) : hGM := if v_X6_isSize size = 0 then P else mkZ P size
theorem mNum_low {r r' : Int → Int} (h : mNum r) (o : ∀ q : Int, q < 169 → q ≠ 7 → r' q = r q) (o7 : 0 ≤ r' 7 ∧ r' 7 ≤ 4) (hs : ∀ i : Int, 0 ≤ i → i < 4 → (0 ≤ r' (169 + 10 * i) ∧ r' (169 + 10 * i) ≤ 48) ∧ (0 ≤ r' (169 + 10 * i + 1) ∧ r' (169 + 10 * i + 1) ≤ 8) ∧ ∀ g : Int, 0 ≤ g → g < 8 → 0 ≤ r' (169 + 10 * i + (2 + g)) ∧ r' (169 + 10 * i + (2 + g)) ≤ 64) : mNum r' := by
  obtain ⟨a0, a1, a2, a5, a6, a7, a8, a9, a10⟩ := h
  refine ⟨by rw [o 0 (by decide) (by decide)]; exact a0, by rw [o 1 (by decide) (by decide)]; exact a1, fun k k0 k1 => by rw [o (2 + k) (by omega) (by omega)]; exact a2 k k0 k1, by rw [o 5 (by decide) (by decide)]; exact a5, by rw [o 6 (by decide) (by decide)]; exact a6, o7, by rw [o 8 (by decide) (by decide)]; exact a8, ?_, hs⟩
  intro g g0 g1
  have a := a9 g g0 g1
  rw [o (9 + 20 * g) (by omega) (by omega), o (9 + 20 * g + 1) (by omega) (by omega)]
  refine ⟨a.1, a.2.1, fun k k0 k1 => ?_⟩
  rw [o (9 + 20 * g + 2 + 3 * k) (by omega) (by omega), o (9 + 20 * g + 2 + 3 * k + 1) (by omega) (by omega), o (9 + 20 * g + 2 + 3 * k + 2) (by omega) (by omega)]
  exact a.2.2 k k0 k1
/-- a number set in the model's row beyond the glyphs -/
theorem mNum_set {A : hGM} {q v : Int} (h : mNum (A 1)) (q0 : 169 ≤ q) (hv : q < 209 → 0 ≤ v ∧ v ≤ 64 ∧ (∀ i : Int, q = 169 + 10 * i → v ≤ 48) ∧ (∀ i : Int, q = 169 + 10 * i + 1 → v ≤ 8)) : mNum (aset A 1 q v 1) := by
  have s : ∀ p : Int, aset A 1 q v 1 p = A 1 p ∨ (p = q ∧ aset A 1 q v 1 p = v) := by
    intro p
    unfold aset
    by_cases c : p = q
    · exact Or.inr ⟨c, by rw [if_pos ⟨rfl, c⟩]⟩
    · exact Or.inl (by rw [if_neg (fun z => c z.2)])
  refine mNum_low h (fun p p0 _ => by rw [aset_ne (by omega)]) (by rw [aset_ne (by omega)]; exact h.2.2.2.2.2.1) (fun i i0 i1 => ?_)
  have a := h.2.2.2.2.2.2.2.2 i i0 i1
  refine ⟨?_, ?_, fun g g0 g1 => ?_⟩
  · rcases s (169 + 10 * i) with e | ⟨e1, e2⟩
    · rw [e]; exact a.1
    · rw [e2]; have b := hv (by omega); exact ⟨b.1, b.2.2.1 i e1.symm⟩
  · rcases s (169 + 10 * i + 1) with e | ⟨e1, e2⟩
    · rw [e]; exact a.2.1
    · rw [e2]; have b := hv (by omega); exact ⟨b.1, b.2.2.2 i e1.symm⟩
  · rcases s (169 + 10 * i + (2 + g)) with e | ⟨e1, e2⟩
    · rw [e]; exact a.2.2 g g0 g1
    · rw [e2]; have b := hv (by omega); exact ⟨b.1, b.2.1⟩
theorem mGap_low {A L : hGM} (o : ∀ q : Int, 9 ≤ q → q < 169 → L 1 q = A 1 q) (hn : mNum (A 1)) (h : mGap A) : mGap L := by
  intro g k g0 g1 k0 k1
  have eo : v_X6_of L g 1 = v_X6_of A g 1 := o _ (by omega) (by omega)
  rw [eo] at k1
  have ob := of_bd hn g0 g1
  have es : ∀ j w : Int, 0 ≤ j → j < 6 → 0 ≤ w → w < 3 → v_X6_ofStem L g j w = v_X6_ofStem A g j w := fun j w j0 j1 w0 w1 => by
    unfold v_X6_ofStem v_X6_at
    exact o _ (by omega) (by omega)
  have q := h g k g0 g1 k0 k1
  unfold v_X6_endOf at q ⊢
  rw [es _ _ (by omega) (by omega) (by decide) (by decide), es _ _ (by omega) (by omega) (by decide) (by decide), es _ _ (by omega) (by omega) (by decide) (by decide)]
  exact q
theorem of_low {A L : hGM} (o : ∀ q : Int, 9 ≤ q → q < 169 → L 1 q = A 1 q) {g w : Int} (g0 : 0 ≤ g) (g1 : g < 8) (w0 : 0 ≤ w) (w1 : w < 20) : v_X6_of L g w = v_X6_of A g w := o _ (by omega) (by omega)
theorem taS_low {P : hGM} {s q : Int} (s0 : 0 ≤ s) (h : q < 169) (h7 : q ≠ 7) : taS P s 1 q = P 1 q := by
  unfold taS mvD
  rw [if_neg (by omega), if_neg (by omega), aset_ne (by omega)]
theorem taS_7 {P : hGM} {s : Int} (s0 : 0 ≤ s) : taS P s 1 7 = P 1 7 - 1 := by
  unfold taS
  rw [mvD_7 (by omega), mvD_7 (by omega), aset_at]
theorem taS_num {P : hGM} {s : Int} (h : mNum (P 1)) (s0 : 0 ≤ s) (s1 : s < P 1 7) : mNum (taS P s 1) := by
  have n7 := h.2.2.2.2.2.1
  refine mNum_low h (fun q h1 h2 => taS_low s0 h1 h2) (by rw [taS_7 s0]; omega) (fun i i0 i1 => ?_)
  have e : ∀ w : Int, 0 ≤ w → w < 10 → taS P s 1 (169 + 10 * i + w) = if s ≤ i ∧ i < P 1 7 - 1 then P 1 (169 + 10 * (i + 1) + w) else P 1 (169 + 10 * i + w) := by
    intro w w0 w1
    unfold taS mvD
    rw [if_neg (by omega)]
    by_cases c : s ≤ i ∧ i < P 1 7 - 1
    · rw [if_pos (by omega), if_pos c, aset_ne (by omega), show 169 + 10 * i + w + 10 = 169 + 10 * (i + 1) + w by omega]
    · rw [if_neg (by omega), if_neg c, aset_ne (by omega)]
  have e0 := e 0 (by decide) (by decide)
  rw [Int.add_zero, Int.add_zero] at e0
  have a := h.2.2.2.2.2.2.2.2 i i0 i1
  rw [e0, e 1 (by decide) (by decide)]
  by_cases c : s ≤ i ∧ i < P 1 7 - 1
  · have a2 := h.2.2.2.2.2.2.2.2 (i + 1) (by omega) (by omega)
    rw [if_pos c, if_pos c]
    exact ⟨a2.1, a2.2.1, fun g g0 g1 => by rw [e (2 + g) (by omega) (by omega), if_pos c]; exact a2.2.2 g g0 g1⟩
  · rw [if_neg c, if_neg c]
    exact ⟨a.1, a.2.1, fun g g0 g1 => by rw [e (2 + g) (by omega) (by omega), if_neg c]; exact a.2.2 g g0 g1⟩
/-- what the loop over the glyphs keeps -/
def mkI (B L : hGM) : Prop := mNum (L 1) ∧ mGap L ∧ (∀ q : Int, q < 169 → L 1 q = B 1 q)
theorem mkI_aset {B L : hGM} {q v : Int} (h : mkI B L) (hb : mNum (B 1)) (q0 : 169 ≤ q) (hv : q < 209 → 0 ≤ v ∧ v ≤ 64 ∧ (∀ i : Int, q = 169 + 10 * i → v ≤ 48) ∧ (∀ i : Int, q = 169 + 10 * i + 1 → v ≤ 8)) : mkI B (aset L 1 q v) :=
  ⟨mNum_set h.1 q0 hv, mGap_low (A := L) (fun p _ p1 => by rw [aset_ne (by omega)]) h.1 h.2.1, fun p p1 => by rw [aset_ne (by omega)]; exact h.2.2 p p1⟩
theorem laI_aset {L : hGM} {q v : Int} {n : Nat} (h : laI L n) : laI (aset L 1 q v) n := by
  intro j j0 j1
  rw [aset_row (show (5 : Nat) ≠ 1 by decide), aset_row (show (6 : Nat) ≠ 1 by decide)]
  exact h j j0 j1
theorem mkA_p {B L : hGM} {y z k : Int} (h : mkI B L) (hb : mNum (B 1)) (y0 : 0 ≤ y) (y1 : y < 4) (k0 : 0 ≤ k) (k1 : k < 8) (z0 : 0 ≤ z) (z1 : z ≤ 48) :
    p_X6_columns (m_X6_lays L k z) k z ∧ p_X6_litHalf (aset (m_X6_lays L k z) 1 (((169 + (10 * y)) + 2) + k) (v_X6_columns (m_X6_lays L k z) k z)) k z 0 ∧ p_X6_litHalf (aset (aset (m_X6_lays L k z) 1 (((169 + (10 * y)) + 2) + k) (v_X6_columns (m_X6_lays L k z) k z)) 1 ((209 + (16 * y)) + (2 * k)) (v_X6_litHalf (aset (m_X6_lays L k z) 1 (((169 + (10 * y)) + 2) + k) (v_X6_columns (m_X6_lays L k z) k z)) k z 0)) k z 1 ∧ mkI B (mkA L y z k) := by
  have lb := lays_lai h.1 h.2.1 k0 k1 z0 z1
  have l1 : m_X6_lays L k z 1 = L 1 := lays_1
  have hM : mkI B (m_X6_lays L k z) := ⟨by rw [l1]; exact h.1, mGap_row l1 h.2.1, fun q q1 => by rw [l1]; exact h.2.2 q q1⟩
  unfold mkA
  generalize m_X6_lays L k z = M at lb hM ⊢
  have cb := mcol_bd M k z
  have h1 := mkI_aset (q := ((169 + (10 * y)) + 2) + k) (v := v_X6_columns M k z) hM hb (by omega) (fun _ => ⟨by omega, by omega, fun i c => by omega, fun i c => by omega⟩)
  have o1 : v_X6_of (aset M 1 (((169 + (10 * y)) + 2) + k) (v_X6_columns M k z)) k 1 = v_X6_of M k 1 := of_low (fun p _ p1 => by rw [aset_ne (by omega)]) k0 k1 (by decide) (by decide)
  have lb1 : laI (aset M 1 (((169 + (10 * y)) + 2) + k) (v_X6_columns M k z)) (v_X6_of (aset M 1 (((169 + (10 * y)) + 2) + k) (v_X6_columns M k z)) k 1).toNat := by rw [o1]; exact laI_aset lb
  have hc := mcol_p hM.1 k0 k1 z0 z1
  generalize aset M 1 (((169 + (10 * y)) + 2) + k) (v_X6_columns M k z) = N at h1 lb1 ⊢
  have h2 := mkI_aset (q := (209 + (16 * y)) + (2 * k)) (v := v_X6_litHalf N k z 0) h1 hb (by omega) (fun c => by omega)
  have o2 : v_X6_of (aset N 1 ((209 + (16 * y)) + (2 * k)) (v_X6_litHalf N k z 0)) k 1 = v_X6_of N k 1 := of_low (fun p _ p1 => by rw [aset_ne (by omega)]) k0 k1 (by decide) (by decide)
  have lb2 : laI (aset N 1 ((209 + (16 * y)) + (2 * k)) (v_X6_litHalf N k z 0)) (v_X6_of (aset N 1 ((209 + (16 * y)) + (2 * k)) (v_X6_litHalf N k z 0)) k 1).toNat := by rw [o2]; exact laI_aset lb1
  refine ⟨hc, ⟨h1.1, ⟨k0, k1⟩, ⟨z0, z1⟩, by decide, lb1⟩, ⟨h2.1, ⟨k0, k1⟩, ⟨z0, z1⟩, by decide, lb2⟩, ?_⟩
  exact mkI_aset h2 hb (by omega) (fun c => by omega)
theorem mkM_I {B : hGM} {y z : Int} (hb : mNum (B 1)) (hg : mGap B) (y0 : 0 ≤ y) (y1 : y < 4) (z0 : 0 ≤ z) (z1 : z ≤ 48) (n : Nat) (hn : n ≤ 8) : mkI B (mkM B y z n) := by
  induction n with
  | zero => exact ⟨hb, hg, fun _ _ => rfl⟩
  | succ n ih =>
    have ih := ih (by omega)
    unfold mkM
    split
    · exact (mkA_p ih hb y0 y1 (by omega) (by omega) z0 z1).2.2.2
    · exact mkI_aset (mkI_aset (mkI_aset ih hb (by omega) (fun _ => ⟨by decide, by decide, fun i c => by decide, fun i c => by decide⟩)) hb (by omega) (fun c => by omega)) hb (by omega) (fun c => by omega)
theorem mkK_num {C : hGM} {z : Int} (h : mNum (C 1)) (hg : mGap C) : (mNum (mkK C z 1) ∧ mGap (mkK C z)) ∧ (0 ≤ mkK C z 1 7 ∧ mkK C z 1 7 ≤ 3) ∧ (∀ q : Int, q < 169 → q ≠ 7 → mkK C z 1 q = C 1 q) := by
  have n7 := h.2.2.2.2.2.1
  have sb := sheetAt_bd (z := z) n7.1
  have ht : ∀ s : Int, 0 ≤ s → s < C 1 7 → (mNum (taS C s 1) ∧ mGap (taS C s)) ∧ (0 ≤ taS C s 1 7 ∧ taS C s 1 7 ≤ 3) ∧ (∀ q : Int, q < 169 → q ≠ 7 → taS C s 1 q = C 1 q) := fun s s0 s1 =>
    ⟨⟨taS_num h s0 s1, mGap_low (fun q q0 q1 => taS_low s0 q1 (by omega)) h hg⟩, by rw [taS_7 s0]; omega, fun q q0 q1 => taS_low s0 q0 q1⟩
  unfold mkK m_X6_takesSheet
  split
  · split
    · exact ht 0 (by decide) (by omega)
    · exact ⟨⟨h, hg⟩, by omega, fun _ _ _ => rfl⟩
  · exact ht _ (by omega) (by omega)
theorem mkB_num {K : hGM} {z : Int} (h : mNum (K 1)) (hg : mGap K) (h7 : 0 ≤ K 1 7 ∧ K 1 7 ≤ 3) (z0 : 0 ≤ z) (z1 : z ≤ 48) : mkI K (mkB K z) := by
  have n0 := h.1
  have e0 : (aset K 1 (169 + (10 * (K 1 7))) z) 1 0 = K 1 0 := aset_ne (by omega)
  unfold mkB
  rw [e0]
  exact mkI_aset (mkI_aset ⟨h, hg, fun _ _ => rfl⟩ h (by omega) (fun _ => ⟨by omega, by omega, fun i c => by omega, fun i c => by omega⟩)) h (by omega) (fun _ => ⟨by omega, by omega, fun i c => by omega, fun i c => by omega⟩)
set_option maxHeartbeats 4000000 in
theorem x_X6_make (P : hGM) (size : Int) (h_size : hIn size) (hRP : ∀ (i : Nat) (k : Int), i < 100 → hIn (P i k)) (hp : p_X6_make P size) (B94 : Int → Int → hGM → Prop) (Po : Int → hGM → Prop) 
  (r94 : ∀ (y3 : Int) (y4 : Int) (P1 : hGM), hIn y3 → hIn y4 → ((∀ (i : Nat) (k : Int), i < 100 → hIn (P1 i k)) → ((y4 < 8 → ((y4 < (P1 1 0) → (p_X6_lays P1 y4 size ∧ (p_X6_columns (m_X6_lays P1 y4 size) y4 size ∧ ((0 ≤ (((169 + (10 * y3)) + 2) + y4) ∧ (((169 + (10 * y3)) + 2) + y4) < 273) ∧ (p_X6_litHalf (aset (m_X6_lays P1 y4 size) 1 (((169 + (10 * y3)) + 2) + y4) (v_X6_columns (m_X6_lays P1 y4 size) y4 size)) y4 size 0 ∧ ((0 ≤ ((209 + (16 * y3)) + (2 * y4)) ∧ ((209 + (16 * y3)) + (2 * y4)) < 273) ∧ (p_X6_litHalf (aset (aset (m_X6_lays P1 y4 size) 1 (((169 + (10 * y3)) + 2) + y4) (v_X6_columns (m_X6_lays P1 y4 size) y4 size)) 1 ((209 + (16 * y3)) + (2 * y4)) (v_X6_litHalf (aset (m_X6_lays P1 y4 size) 1 (((169 + (10 * y3)) + 2) + y4) (v_X6_columns (m_X6_lays P1 y4 size) y4 size)) y4 size 0)) y4 size 1 ∧ ((0 ≤ (((209 + (16 * y3)) + (2 * y4)) + 1) ∧ (((209 + (16 * y3)) + (2 * y4)) + 1) < 273) ∧ (B94 y3 (y4 + 1) (aset (aset (aset (m_X6_lays P1 y4 size) 1 (((169 + (10 * y3)) + 2) + y4) (v_X6_columns (m_X6_lays P1 y4 size) y4 size)) 1 ((209 + (16 * y3)) + (2 * y4)) (v_X6_litHalf (aset (m_X6_lays P1 y4 size) 1 (((169 + (10 * y3)) + 2) + y4) (v_X6_columns (m_X6_lays P1 y4 size) y4 size)) y4 size 0)) 1 (((209 + (16 * y3)) + (2 * y4)) + 1) (v_X6_litHalf (aset (aset (m_X6_lays P1 y4 size) 1 (((169 + (10 * y3)) + 2) + y4) (v_X6_columns (m_X6_lays P1 y4 size) y4 size)) 1 ((209 + (16 * y3)) + (2 * y4)) (v_X6_litHalf (aset (m_X6_lays P1 y4 size) 1 (((169 + (10 * y3)) + 2) + y4) (v_X6_columns (m_X6_lays P1 y4 size) y4 size)) y4 size 0)) y4 size 1))))))))))) ∧ (¬ y4 < (P1 1 0) → ((0 ≤ (((169 + (10 * y3)) + 2) + y4) ∧ (((169 + (10 * y3)) + 2) + y4) < 273) ∧ ((0 ≤ ((209 + (16 * y3)) + (2 * y4)) ∧ ((209 + (16 * y3)) + (2 * y4)) < 273) ∧ ((0 ≤ (((209 + (16 * y3)) + (2 * y4)) + 1) ∧ (((209 + (16 * y3)) + (2 * y4)) + 1) < 273) ∧ (B94 y3 (y4 + 1) (aset (aset (aset P1 1 (((169 + (10 * y3)) + 2) + y4) 0) 1 ((209 + (16 * y3)) + (2 * y4)) 0) 1 (((209 + (16 * y3)) + (2 * y4)) + 1) 0)))))))) ∧ (¬ y4 < 8 → (hIn ((P1 1 7) + 1) ∧ (hIn (((aset P1 1 7 ((P1 1 7) + 1)) 1 8) + 1) ∧ (Po ((aset (aset P1 1 7 ((P1 1 7) + 1)) 1 8 (((aset P1 1 7 ((P1 1 7) + 1)) 1 8) + 1)) 1 7) (aset (aset P1 1 7 ((P1 1 7) + 1)) 1 8 (((aset P1 1 7 ((P1 1 7) + 1)) 1 8) + 1)))))))) → (B94 y3 y4 P1)) 
  (hpost : Po (v_X6_make P size) (m_X6_make P size)) : (((v_X6_isSize size) = 0 → (Po (-1000001) P)) ∧ (¬ (v_X6_isSize size) = 0 → (p_X6_changes P ∧ (p_X6_sheetAt (m_X6_changes P) size ∧ (((v_X6_sheetAt (m_X6_changes P) size) < 0 → ((((m_X6_changes P) 1 7) = 4 → (p_X6_takesSheet (m_X6_changes P) 0 ∧ ((0 ≤ (169 + (10 * ((m_X6_takesSheet (m_X6_changes P) 0) 1 7))) ∧ (169 + (10 * ((m_X6_takesSheet (m_X6_changes P) 0) 1 7))) < 273) ∧ ((0 ≤ ((169 + (10 * ((m_X6_takesSheet (m_X6_changes P) 0) 1 7))) + 1) ∧ ((169 + (10 * ((m_X6_takesSheet (m_X6_changes P) 0) 1 7))) + 1) < 273) ∧ (B94 ((m_X6_takesSheet (m_X6_changes P) 0) 1 7) 0 (aset (aset (m_X6_takesSheet (m_X6_changes P) 0) 1 (169 + (10 * ((m_X6_takesSheet (m_X6_changes P) 0) 1 7))) size) 1 ((169 + (10 * ((m_X6_takesSheet (m_X6_changes P) 0) 1 7))) + 1) ((aset (m_X6_takesSheet (m_X6_changes P) 0) 1 (169 + (10 * ((m_X6_takesSheet (m_X6_changes P) 0) 1 7))) size) 1 0))))))) ∧ (¬ ((m_X6_changes P) 1 7) = 4 → ((0 ≤ (169 + (10 * ((m_X6_changes P) 1 7))) ∧ (169 + (10 * ((m_X6_changes P) 1 7))) < 273) ∧ ((0 ≤ ((169 + (10 * ((m_X6_changes P) 1 7))) + 1) ∧ ((169 + (10 * ((m_X6_changes P) 1 7))) + 1) < 273) ∧ (B94 ((m_X6_changes P) 1 7) 0 (aset (aset (m_X6_changes P) 1 (169 + (10 * ((m_X6_changes P) 1 7))) size) 1 ((169 + (10 * ((m_X6_changes P) 1 7))) + 1) ((aset (m_X6_changes P) 1 (169 + (10 * ((m_X6_changes P) 1 7))) size) 1 0)))))))) ∧ (¬ (v_X6_sheetAt (m_X6_changes P) size) < 0 → (p_X6_takesSheet (m_X6_changes P) (v_X6_sheetAt (m_X6_changes P) size) ∧ ((0 ≤ (169 + (10 * ((m_X6_takesSheet (m_X6_changes P) (v_X6_sheetAt (m_X6_changes P) size)) 1 7))) ∧ (169 + (10 * ((m_X6_takesSheet (m_X6_changes P) (v_X6_sheetAt (m_X6_changes P) size)) 1 7))) < 273) ∧ ((0 ≤ ((169 + (10 * ((m_X6_takesSheet (m_X6_changes P) (v_X6_sheetAt (m_X6_changes P) size)) 1 7))) + 1) ∧ ((169 + (10 * ((m_X6_takesSheet (m_X6_changes P) (v_X6_sheetAt (m_X6_changes P) size)) 1 7))) + 1) < 273) ∧ (B94 ((m_X6_takesSheet (m_X6_changes P) (v_X6_sheetAt (m_X6_changes P) size)) 1 7) 0 (aset (aset (m_X6_takesSheet (m_X6_changes P) (v_X6_sheetAt (m_X6_changes P) size)) 1 (169 + (10 * ((m_X6_takesSheet (m_X6_changes P) (v_X6_sheetAt (m_X6_changes P) size)) 1 7))) size) 1 ((169 + (10 * ((m_X6_takesSheet (m_X6_changes P) (v_X6_sheetAt (m_X6_changes P) size)) 1 7))) + 1) ((aset (m_X6_takesSheet (m_X6_changes P) (v_X6_sheetAt (m_X6_changes P) size)) 1 (169 + (10 * ((m_X6_takesSheet (m_X6_changes P) (v_X6_sheetAt (m_X6_changes P) size)) 1 7))) size) 1 0)))))))))))) := by
  obtain ⟨⟨hm, q0, q1⟩, hg, h8⟩ := hp
  unfold v_X6_make m_X6_make at hpost
  refine ⟨fun c => ?_, fun c => ⟨⟨q0, q1⟩, ?_⟩⟩
  · rw [if_pos c, if_pos c] at hpost; exact hpost
  · rw [if_neg c, if_neg c] at hpost
    have g3 : 6 ≤ size ∧ size ≤ 48 := Decidable.not_not.mp (fun z => c (in_0.mpr z))
    have e1 : m_X6_changes P 1 = P 1 := changes_row (by decide) (by decide)
    have hmC : mNum (m_X6_changes P 1) := by rw [e1]; exact hm
    have hgC : mGap (m_X6_changes P) := mGap_row e1 hg
    have h8C : m_X6_changes P 1 8 < 1000000 := by rw [e1]; exact h8
    unfold mkZ at hpost
    generalize m_X6_changes P = C at hmC hgC h8C hpost ⊢
    have n7 := hmC.2.2.2.2.2.1
    have kk := mkK_num (z := size) hmC hgC
    have hK : (0 ≤ (169 + (10 * (mkK C size 1 7))) ∧ (169 + (10 * (mkK C size 1 7))) < 273) ∧ ((0 ≤ ((169 + (10 * (mkK C size 1 7))) + 1) ∧ ((169 + (10 * (mkK C size 1 7))) + 1) < 273) ∧ (B94 (mkK C size 1 7) 0 (mkB (mkK C size) size))) := by
      have h8K : mkK C size 1 8 = C 1 8 := kk.2.2 8 (by decide) (by decide)
      generalize mkK C size = K at kk hpost h8K ⊢
      refine ⟨⟨by omega, by omega⟩, ⟨by omega, by omega⟩, ?_⟩
      have kb := mkB_num (z := size) kk.1.1 kk.1.2 kk.2.1 (by omega) g3.2
      have b8 : mkB K size 1 8 = C 1 8 := by rw [kb.2.2 8 (by decide), h8K]
      have b7 : mkB K size 1 7 = K 1 7 := kb.2.2 7 (by decide)
      have yb := kk.2.1
      generalize mkB K size = B at kb hpost b8 b7 ⊢
      generalize K 1 7 = y at yb hpost b7 ⊢
      have mi := fun n : Nat => mkM_I (B := B) (y := y) (z := size) kb.1 kb.2.1 yb.1 (by omega) (by omega) g3.2 n
      refine upN (C := fun k => B94 y (k : Int) (mkM B y size k)) 8 ?_ ?_
      · have m8 := mi 8 (by decide)
        have e7 : mkM B y size 8 1 7 = y := by rw [m8.2.2 7 (by decide), b7]
        have e8 : mkM B y size 8 1 8 = C 1 8 := by rw [m8.2.2 8 (by decide), b8]
        have c8 := hmC.2.2.2.2.2.2.1
        refine r94 _ _ _ ⟨by omega, by omega⟩ ⟨by decide, by decide⟩ (fun _ => ⟨fun z => absurd z (by decide), fun _ => ⟨⟨by omega, by omega⟩, ?_, hpost⟩⟩)
        rw [aset_ne (by omega), e8]
        exact ⟨by omega, by omega⟩
      · intro k hk h
        have hi := mi k (by omega)
        unfold mkM at h
        generalize mkM B y size k = L at h hi ⊢
        have pa := mkA_p (k := k) (y := y) (z := size) hi kb.1 yb.1 (by omega) (by omega) (by omega) (by omega) g3.2
        refine r94 _ _ _ ⟨by omega, by omega⟩ ⟨by omega, by omega⟩ (fun _ => ⟨fun _ => ⟨fun z => ?_, fun z => ?_⟩, fun z => by omega⟩)
        · rw [if_pos z] at h
          exact ⟨⟨hi.1, hi.2.1, ⟨by omega, by omega⟩, ⟨by omega, by omega⟩⟩, pa.1, ⟨by omega, by omega⟩, pa.2.1, ⟨by omega, by omega⟩, pa.2.2.1, ⟨by omega, by omega⟩, h⟩
        · rw [if_neg z] at h
          exact ⟨⟨by omega, by omega⟩, ⟨by omega, by omega⟩, ⟨by omega, by omega⟩, h⟩
    refine ⟨n7, fun c1 => ⟨fun c2 => ?_, fun c2 => ?_⟩, fun c1 => ?_⟩
    · have e : mkK C size = m_X6_takesSheet C 0 := by unfold mkK; rw [if_pos c1, if_pos c2]
      rw [e] at hK
      exact ⟨⟨by decide, by omega, by omega⟩, hK⟩
    · have e : mkK C size = C := by unfold mkK; rw [if_pos c1, if_neg c2]
      rw [e] at hK
      exact hK
    · have e : mkK C size = m_X6_takesSheet C (v_X6_sheetAt C size) := by unfold mkK; rw [if_neg c1]
      have sb := sheetAt_bd (z := size) n7.1
      rw [e] at hK
      exact ⟨⟨by omega, by omega, by omega⟩, hK⟩
def p_X6_isStale (P : hGM) (sheet : Int) : Prop := mNum (P 1) ∧ mGap P ∧ (0 ≤ sheet ∧ sheet < 4)
/-- whether the first n glyphs of a sheet are as they would be made now -/
def siS (P : hGM) (s z : Int) : Nat → Int × hGM
  | 0 => (if P 1 0 ≤ v_X6_ofSheet P s 1 then 0 else 1, P)
  | n + 1 => (if (siS P s z n).1 = 0 then (if v_X6_ofSheet (m_X6_lays (siS P s z n).2 n z) s (2 + n) = v_X6_columns (m_X6_lays (siS P s z n).2 n z) n z then (if (m_X6_lays (siS P s z n).2 n z) 1 (209 + 16 * s + 2 * n) = v_X6_litHalf (m_X6_lays (siS P s z n).2 n z) n z 0 then (if (m_X6_lays (siS P s z n).2 n z) 1 (209 + 16 * s + 2 * n + 1) = v_X6_litHalf (m_X6_lays (siS P s z n).2 n z) n z 1 then 0 else 1) else 1) else 1) else 1, m_X6_lays (siS P s z n).2 n z)
def v_X6_isStale (P : hGM) (sheet : Int) : Int := (siS P sheet (v_X6_ofSheet P sheet 0) (v_X6_ofSheet P sheet 1).toNat).1
def m_X6_isStale (P : hGM) (sheet : Int) : hGM := (siS P sheet (v_X6_ofSheet P sheet 0) (v_X6_ofSheet P sheet 1).toNat).2
theorem siS_01 (P : hGM) (s z : Int) (n : Nat) : (siS P s z n).1 = 0 ∨ (siS P s z n).1 = 1 := by
  cases n with
  | zero =>
    show (if P 1 0 ≤ v_X6_ofSheet P s 1 then (0 : Int) else 1) = 0 ∨ (if P 1 0 ≤ v_X6_ofSheet P s 1 then (0 : Int) else 1) = 1
    split
    · exact Or.inl rfl
    · exact Or.inr rfl
  | succ n =>
    unfold siS
    (repeat' split) <;> first | exact Or.inl rfl | exact Or.inr rfl
theorem siS_row {P : hGM} {s z : Int} {i : Nat} (n : Nat) (h0 : i ≠ 0) (h5 : i ≠ 5) (h6 : i ≠ 6) : (siS P s z n).2 i = P i := by
  induction n with
  | zero => rfl
  | succ n ih => exact (lays_row h0 h5 h6).trans ih
set_option maxHeartbeats 4000000 in
theorem x_X6_isStale (P : hGM) (sheet : Int) (h_sheet : hIn sheet) (hRP : ∀ (i : Nat) (k : Int), i < 100 → hIn (P i k)) (hp : p_X6_isStale P sheet) (B31 : Int → Int → Int → hGM → Prop) (Po : Int → hGM → Prop) 
  (r31 : ∀ (y2 : Int) (y3 : Int) (y4 : Int) (P1 : hGM), hIn y2 → hIn y3 → hIn y4 → ((∀ (i : Nat) (k : Int), i < 100 → hIn (P1 i k)) → (p_X6_ofSheet P1 sheet 1 ∧ ((y4 < (v_X6_ofSheet P1 sheet 1) → (p_X6_lays P1 y4 y2 ∧ ((y3 = 0 → (hIn (2 + y4) ∧ (p_X6_ofSheet (m_X6_lays P1 y4 y2) sheet (2 + y4) ∧ (p_X6_columns (m_X6_lays P1 y4 y2) y4 y2 ∧ (((v_X6_ofSheet (m_X6_lays P1 y4 y2) sheet (2 + y4)) = (v_X6_columns (m_X6_lays P1 y4 y2) y4 y2) → ((0 ≤ ((209 + (16 * sheet)) + (2 * y4)) ∧ ((209 + (16 * sheet)) + (2 * y4)) < 273) ∧ (p_X6_litHalf (m_X6_lays P1 y4 y2) y4 y2 0 ∧ ((((m_X6_lays P1 y4 y2) 1 ((209 + (16 * sheet)) + (2 * y4))) = (v_X6_litHalf (m_X6_lays P1 y4 y2) y4 y2 0) → ((0 ≤ (((209 + (16 * sheet)) + (2 * y4)) + 1) ∧ (((209 + (16 * sheet)) + (2 * y4)) + 1) < 273) ∧ (p_X6_litHalf (m_X6_lays P1 y4 y2) y4 y2 1 ∧ ((((m_X6_lays P1 y4 y2) 1 (((209 + (16 * sheet)) + (2 * y4)) + 1)) = (v_X6_litHalf (m_X6_lays P1 y4 y2) y4 y2 1) → (B31 y2 0 (y4 + 1) (m_X6_lays P1 y4 y2))) ∧ (¬ ((m_X6_lays P1 y4 y2) 1 (((209 + (16 * sheet)) + (2 * y4)) + 1)) = (v_X6_litHalf (m_X6_lays P1 y4 y2) y4 y2 1) → (B31 y2 1 (y4 + 1) (m_X6_lays P1 y4 y2))))))) ∧ (¬ ((m_X6_lays P1 y4 y2) 1 ((209 + (16 * sheet)) + (2 * y4))) = (v_X6_litHalf (m_X6_lays P1 y4 y2) y4 y2 0) → (B31 y2 1 (y4 + 1) (m_X6_lays P1 y4 y2))))))) ∧ (¬ (v_X6_ofSheet (m_X6_lays P1 y4 y2) sheet (2 + y4)) = (v_X6_columns (m_X6_lays P1 y4 y2) y4 y2) → (B31 y2 1 (y4 + 1) (m_X6_lays P1 y4 y2)))))))) ∧ (¬ y3 = 0 → (B31 y2 1 (y4 + 1) (m_X6_lays P1 y4 y2)))))) ∧ (¬ y4 < (v_X6_ofSheet P1 sheet 1) → ((y3 = 0 ∨ y3 = 1) ∧ (Po y3 P1)))))) → (B31 y2 y3 y4 P1)) 
  (hpost : Po (v_X6_isStale P sheet) (m_X6_isStale P sheet)) : (p_X6_ofSheet P sheet 0 ∧ (p_X6_ofSheet P sheet 1 ∧ (((P 1 0) ≤ (v_X6_ofSheet P sheet 1) → (B31 (v_X6_ofSheet P sheet 0) 0 0 P)) ∧ (¬ (P 1 0) ≤ (v_X6_ofSheet P sheet 1) → (B31 (v_X6_ofSheet P sheet 0) 1 0 P))))) := by
  obtain ⟨hm, hg, s0, s1⟩ := hp
  have a := hm.2.2.2.2.2.2.2.2 sheet s0 s1
  have ez : v_X6_ofSheet P sheet 0 = P 1 (169 + 10 * sheet) := by unfold v_X6_ofSheet; rw [Int.add_zero]
  have ec : v_X6_ofSheet P sheet 1 = P 1 (169 + 10 * sheet + 1) := rfl
  have e : (((v_X6_ofSheet P sheet 1).toNat : Nat) : Int) = v_X6_ofSheet P sheet 1 := Int.toNat_of_nonneg (by omega)
  have hz : 0 ≤ v_X6_ofSheet P sheet 0 ∧ v_X6_ofSheet P sheet 0 ≤ 48 := by omega
  have lin : ∀ n, hIn (siS P sheet (v_X6_ofSheet P sheet 0) n).1 := fun n => by rcases siS_01 P sheet (v_X6_ofSheet P sheet 0) n with q | q <;> rw [q] <;> exact ⟨by decide, by decide⟩
  have r1 := fun n : Nat => siS_row (P := P) (s := sheet) (z := v_X6_ofSheet P sheet 0) (i := 1) n (by decide) (by decide) (by decide)
  have os : ∀ (L : hGM) (w : Int), L 1 = P 1 → v_X6_ofSheet L sheet w = v_X6_ofSheet P sheet w := fun L w q => by unfold v_X6_ofSheet; rw [q]
  have key : B31 (v_X6_ofSheet P sheet 0) (siS P sheet (v_X6_ofSheet P sheet 0) 0).1 ((0 : Nat) : Int) (siS P sheet (v_X6_ofSheet P sheet 0) 0).2 := by
    refine upN (C := fun k => B31 (v_X6_ofSheet P sheet 0) (siS P sheet (v_X6_ofSheet P sheet 0) k).1 (k : Int) (siS P sheet (v_X6_ofSheet P sheet 0) k).2) (v_X6_ofSheet P sheet 1).toNat ?_ ?_
    · refine r31 _ _ _ _ ⟨by omega, by omega⟩ (lin _) ⟨by omega, by omega⟩ (fun _ => ⟨ofSheet_p s0 s1 (by decide) (by decide), fun z => ?_, fun _ => ⟨siS_01 _ _ _ _, hpost⟩⟩)
      rw [os _ _ (r1 _)] at z
      omega
    · intro k hk h
      unfold siS at h
      have hr := r1 k
      have hl := lin k
      generalize v_X6_ofSheet P sheet 0 = z at h hr hl hz ⊢
      generalize (siS P sheet z k).1 = f at h hl ⊢
      generalize (siS P sheet z k).2 = L at h hr ⊢
      have hmL : mNum (L 1) := by rw [hr]; exact hm
      have hgL := mGap_row hr hg
      have lb := lays_lai hmL hgL (show 0 ≤ (k : Int) by omega) (by omega) hz.1 hz.2
      have l1 : m_X6_lays L k z 1 = L 1 := lays_1
      have hmM : mNum (m_X6_lays L k z 1) := by rw [l1]; exact hmL
      refine r31 _ _ _ _ ⟨by omega, by omega⟩ hl ⟨by omega, by omega⟩ (fun _ => ⟨ofSheet_p s0 s1 (by decide) (by decide), fun _ => ⟨⟨hmL, hgL, ⟨by omega, by omega⟩, hz⟩, ?_⟩, fun c => by rw [os _ _ hr] at c; omega⟩)
      show (_ → _) ∧ _
      generalize m_X6_lays L k z = M at h lb hmM ⊢
      have h : B31 z (if f = 0 then (if v_X6_ofSheet M sheet (2 + k) = v_X6_columns M k z then (if M 1 (209 + 16 * sheet + 2 * k) = v_X6_litHalf M k z 0 then (if M 1 (209 + 16 * sheet + 2 * k + 1) = v_X6_litHalf M k z 1 then 0 else 1) else 1) else 1) else 1) (k + 1) M := h
      have hp : ∀ hf : Int, 0 ≤ hf ∧ hf ≤ 1 → p_X6_litHalf M k z hf := fun hf q => ⟨hmM, ⟨by omega, by omega⟩, hz, q, lb⟩
      refine ⟨fun c => ⟨⟨by omega, by omega⟩, ofSheet_p s0 s1 (by omega) (by omega), mcol_p hmM (by omega) (by omega) hz.1 hz.2, fun c2 => ⟨⟨by omega, by omega⟩, hp 0 (by decide), fun c3 => ⟨⟨by omega, by omega⟩, hp 1 (by decide), fun c4 => ?_, fun c4 => ?_⟩, fun c3 => ?_⟩, fun c2 => ?_⟩, fun c => ?_⟩
      · rw [if_pos c, if_pos c2, if_pos c3, if_pos c4] at h; exact h
      · rw [if_pos c, if_pos c2, if_pos c3, if_neg c4] at h; exact h
      · rw [if_pos c, if_pos c2, if_neg c3] at h; exact h
      · rw [if_pos c, if_neg c2] at h; exact h
      · rw [if_neg c] at h; exact h
  refine ⟨ofSheet_p s0 s1 (by decide) (by decide), ofSheet_p s0 s1 (by decide) (by decide), fun c => ?_, fun c => ?_⟩
  · have q : (siS P sheet (v_X6_ofSheet P sheet 0) 0).1 = 0 := if_pos c
    rw [q] at key; exact key
  · have q : (siS P sheet (v_X6_ofSheet P sheet 0) 0).1 = 1 := if_neg c
    rw [q] at key; exact key
def p_X6_ones (set : Int) : Prop := True
/-- how many of the first n bits of a number are ones -/
def popB : Nat → Nat → Nat
  | 0, _ => 0
  | n + 1, x => x % 2 + popB n (x / 2)
theorem popB_le (n x : Nat) : popB n x ≤ n := by
  induction n generalizing x with
  | zero => exact Nat.le_refl _
  | succ n ih =>
    have := ih (x / 2)
    unfold popB
    omega
theorem popB_0 (n : Nat) : popB n 0 = 0 := by
  induction n with
  | zero => rfl
  | succ n ih => show 0 % 2 + popB n (0 / 2) = 0; rw [show 0 / 2 = 0 from rfl, ih]
theorem popB_less (n : Nat) : ∀ x : Nat, 0 < x → x < 2 ^ n → popB n (x &&& (x - 1)) + 1 = popB n x := by
  induction n with
  | zero => intro x h0 h1; omega
  | succ n ih =>
    intro x h0 h1
    have hd : (x &&& (x - 1)) / 2 = x / 2 &&& (x - 1) / 2 := Nat.and_div_two
    show (x &&& (x - 1)) % 2 + popB n ((x &&& (x - 1)) / 2) + 1 = x % 2 + popB n (x / 2)
    rw [hd]
    have hm : (x &&& (x - 1)) % 2 = 0 := by
      rcases Nat.mod_two_eq_zero_or_one (x &&& (x - 1)) with q | q
      · exact q
      · have q2 : (x &&& (x - 1)).testBit 0 = true := by rw [Nat.testBit_zero]; exact decide_eq_true q
        rw [Nat.testBit_and, Nat.testBit_zero, Nat.testBit_zero, Bool.and_eq_true] at q2
        have a := of_decide_eq_true q2.1
        have b := of_decide_eq_true q2.2
        omega
    rw [hm]
    by_cases c : x % 2 = 1
    · have e : (x - 1) / 2 = x / 2 := by omega
      rw [e, Nat.and_self, c]
      omega
    · have e : (x - 1) / 2 = x / 2 - 1 := by omega
      have h := ih (x / 2) (by omega) (by rw [Nat.pow_succ] at h1; omega)
      rw [e]
      omega
def bitsOf (s : Int) : Nat := (hI s).toBitVec.toNat
def v_X6_ones (set : Int) : Int := (popB 32 (bitsOf set) : Nat)
theorem bits_0 {s : Int} (h : hIn s) : bitsOf s = 0 ↔ s = 0 := by
  unfold bitsOf
  constructor
  · intro q
    have e : (hI s).toBitVec = 0#32 := BitVec.eq_of_toNat_eq q
    have e2 : (hI s).toBitVec.toInt = s := hI_toInt h
    rw [e] at e2
    exact e2.symm
  · intro q; subst q; rfl
theorem bits_and {s : Int} (h0 : 0 < bitsOf s) : bitsOf (iAnd s (s - 1)) = bitsOf s &&& (bitsOf s - 1) := by
  unfold bitsOf at h0 ⊢
  have e : hI (iAnd s (s - 1)) = hI s &&& hI (s - 1) := hI_of _
  have e2 : hI (s - 1) = hI s - hI 1 := (hI_sub s 1).symm
  rw [e, e2]
  show ((hI s).toBitVec &&& ((hI s).toBitVec - (hI 1).toBitVec)).toNat = _
  have e3 : (hI 1).toBitVec = 1#32 := rfl
  rw [e3, BitVec.toNat_and, BitVec.toNat_sub_of_le (BitVec.le_def.mpr (show (1#32).toNat ≤ _ from h0))]
  rfl
set_option maxHeartbeats 4000000 in
theorem x_X6_ones (set : Int) (h_set : hIn set) (hp : p_X6_ones set) (B4 : Int → Int → Prop) (Po : Int → Prop) 
  (r4 : ∀ (y1 : Int) (y2 : Int), hIn y1 → hIn y2 → (((y2 = 0 → (Po y1)) ∧ (¬ y2 = 0 → (B4 (y1 + 1) (iAnd y2 (y2 - 1)))))) → (B4 y1 y2)) 
  (hpost : Po (v_X6_ones set)) : (B4 0 set) := by
  have key : ∀ (n : Nat) (y s : Int), popB 32 (bitsOf s) = n → hIn s → 0 ≤ y → y + n = v_X6_ones set → B4 y s := by
    have hle : v_X6_ones set ≤ 32 := by
      have := popB_le 32 (bitsOf set)
      unfold v_X6_ones
      omega
    intro n
    induction n with
    | zero =>
      intro y s h1 h2 h3 h4
      have hz : s = 0 := by
        rcases Nat.eq_zero_or_pos (bitsOf s) with q | q
        · exact (bits_0 h2).mp q
        · have := popB_less 32 (bitsOf s) q (hI s).toBitVec.isLt
          omega
      refine r4 _ _ ⟨by omega, by omega⟩ h2 ⟨fun _ => ?_, fun z => absurd hz z⟩
      have e : y = v_X6_ones set := by omega
      rw [e]; exact hpost
    | succ n ih =>
      intro y s h1 h2 h3 h4
      have hp : 0 < bitsOf s := by
        rcases Nat.eq_zero_or_pos (bitsOf s) with q | q
        · rw [q, popB_0] at h1; omega
        · exact q
      have hz : ¬ s = 0 := fun z => by have := (bits_0 h2).mpr z; omega
      refine r4 _ _ ⟨by omega, by omega⟩ h2 ⟨fun z => absurd z hz, fun _ => ?_⟩
      have := popB_less 32 (bitsOf s) hp (hI s).toBitVec.isLt
      refine ih (y + 1) _ ?_ (hIn_toInt _) (by omega) (by omega)
      rw [bits_and hp]
      omega
  exact key _ 0 set rfl h_set (by decide) (by unfold v_X6_ones; omega)
def p_X6_litIn (P : hGM) (sheet : Int) : Prop := 0 ≤ sheet ∧ sheet < 4
def v_X6_litIn (P : hGM) (sheet : Int) : Int := sumN (fun k => v_X6_ones (P 1 (209 + 16 * sheet + k))) 16
theorem ones_bd (s : Int) : 0 ≤ v_X6_ones s ∧ v_X6_ones s ≤ 32 := by
  have := popB_le 32 (bitsOf s)
  unfold v_X6_ones
  omega
set_option maxHeartbeats 4000000 in
theorem x_X6_litIn (P : hGM) (sheet : Int) (h_sheet : hIn sheet) (hRP : ∀ (i : Nat) (k : Int), i < 100 → hIn (P i k)) (hp : p_X6_litIn P sheet) (B4 : Int → Int → Prop) (Po : Int → Prop) 
  (r4 : ∀ (y2 : Int) (y3 : Int), hIn y2 → hIn y3 → (((y3 < 16 → ((0 ≤ ((209 + (16 * sheet)) + y3) ∧ ((209 + (16 * sheet)) + y3) < 273) ∧ (p_X6_ones (P 1 ((209 + (16 * sheet)) + y3)) ∧ (B4 (y2 + (v_X6_ones (P 1 ((209 + (16 * sheet)) + y3)))) (y3 + 1))))) ∧ (¬ y3 < 16 → (Po y2)))) → (B4 y2 y3)) 
  (hpost : Po (v_X6_litIn P sheet)) : (B4 0 0) := by
  obtain ⟨s0, s1⟩ := hp
  have sb := fun n : Nat => sumN_bd (f := fun k => v_X6_ones (P 1 (209 + 16 * sheet + k))) (c := 32) n (fun k _ _ => ones_bd _)
  refine upN (C := fun k => B4 (sumN (fun k => v_X6_ones (P 1 (209 + 16 * sheet + k))) k) (k : Int)) 16 ?_ ?_
  · have b := sb 16
    exact r4 _ _ ⟨by omega, by omega⟩ ⟨by decide, by decide⟩ ⟨fun z => absurd z (by decide), fun _ => hpost⟩
  · intro k hk h
    have b := sb k
    exact r4 _ _ ⟨by omega, by omega⟩ ⟨by omega, by omega⟩ ⟨fun _ => ⟨⟨by omega, by omega⟩, trivial, h⟩, fun z => by omega⟩
def p_X6_set (P : hGM) (what : Int) (value : Int) : Prop := (((v_X6_in what 0 1) = 0 → True) ∧ (¬ (v_X6_in what 0 1) = 0 → ((what = 0 → (((v_X6_in value 0 100) = 0 → True) ∧ (¬ (v_X6_in value 0 100) = 0 → (p_X6_changes P ∧ ((0 ≤ (5 + what) ∧ (5 + what) < 273) ∧ True))))) ∧ (¬ what = 0 → (((v_X6_in value 0 3) = 0 → True) ∧ (¬ (v_X6_in value 0 3) = 0 → (p_X6_changes P ∧ ((0 ≤ (5 + what) ∧ (5 + what) < 273) ∧ True))))))))
def v_X6_set (P : hGM) (what : Int) (value : Int) : Int := (if (v_X6_in what 0 1) = 0 then (-1000001) else (if what = 0 then (if (v_X6_in value 0 100) = 0 then (-1000001) else ((m_X6_changes P) 1 (5 + what))) else (if (v_X6_in value 0 3) = 0 then (-1000001) else ((m_X6_changes P) 1 (5 + what)))))
def m_X6_set (P : hGM) (what : Int) (value : Int) : hGM := (if (v_X6_in what 0 1) = 0 then P else (if what = 0 then (if (v_X6_in value 0 100) = 0 then P else (aset (m_X6_changes P) 1 (5 + what) value)) else (if (v_X6_in value 0 3) = 0 then P else (aset (m_X6_changes P) 1 (5 + what) value))))
def p_X6_alike (P : hGM) (width : Int) : Prop := mNum (P 1)
def v_X6_alike (P : hGM) (width : Int) : Int := dbl (fun g k => if v_X6_hinted P g k = width then 1 else 0) (fun g => (v_X6_of P g 1).toNat) (P 1 0).toNat
set_option maxHeartbeats 4000000 in
theorem x_X6_alike (P : hGM) (width : Int) (h_width : hIn width) (hRP : ∀ (i : Nat) (k : Int), i < 100 → hIn (P i k)) (hp : p_X6_alike P width) (B4 : Int → Int → Prop) (B17 : Int → Int → Int → Prop) (Po : Int → Prop) 
  (r4 : ∀ (y2 : Int) (y3 : Int), hIn y2 → hIn y3 → (((y3 < (P 1 0) → (B17 y2 y3 0)) ∧ (¬ y3 < (P 1 0) → (Po y2)))) → (B4 y2 y3)) 
  (r17 : ∀ (y2 : Int) (y3 : Int) (y4 : Int), hIn y2 → hIn y3 → hIn y4 → ((p_X6_of P y3 1 ∧ ((y4 < (v_X6_of P y3 1) → (p_X6_hinted P y3 y4 ∧ (((v_X6_hinted P y3 y4) = width → (B17 (y2 + 1) y3 (y4 + 1))) ∧ (¬ (v_X6_hinted P y3 y4) = width → (B17 (y2 + 0) y3 (y4 + 1)))))) ∧ (¬ y4 < (v_X6_of P y3 1) → (B4 y2 (y3 + 1)))))) → (B17 y2 y3 y4)) 
  (hpost : Po (v_X6_alike P width)) : (B4 0 0) := by
  have hm : mNum (P 1) := hp
  have n0 := hm.1
  have e0 : (((P 1 0).toNat : Nat) : Int) = P 1 0 := Int.toNat_of_nonneg n0.1
  have em : ∀ g : Int, 0 ≤ g → g < 8 → (((v_X6_of P g 1).toNat : Nat) : Int) = v_X6_of P g 1 := fun g g0 g1 => Int.toNat_of_nonneg (of_bd hm g0 g1).1
  refine dblLoop (B1 := fun y g => B4 y g) (B2 := fun y g k => B17 y g k) (fun g k => if v_X6_hinted P g k = width then 1 else 0) (fun g => (v_X6_of P g 1).toNat) (P 1 0).toNat (c := 1) ?_ (by omega) (by decide) ?_ ?_ ?_ ?_ ?_
  · intro g g0 g1
    have := of_bd hm g0 (show g < 8 by omega)
    show (v_X6_of P g 1).toNat ≤ 6
    omega
  · intro g k _ _ _ _
    show 0 ≤ (if _ then (1 : Int) else 0) ∧ (if _ then (1 : Int) else 0) ≤ 1
    split <;> decide
  · intro g y g0 g1 hy h
    exact r4 _ _ ⟨by omega, by omega⟩ ⟨by omega, by omega⟩ ⟨fun _ => h, fun z => by omega⟩
  · intro y hy ey
    refine r4 _ _ ⟨by omega, by omega⟩ ⟨by omega, by omega⟩ ⟨fun z => by omega, fun _ => ?_⟩
    rw [ey]
    exact hpost
  · intro g k y g0 g1 k0 k1 hy h
    have e2 := em g g0 (by omega)
    have b2 := of_bd hm g0 (show g < 8 by omega)
    have k1 : k < (((v_X6_of P g 1).toNat : Nat) : Int) := k1
    have h : B17 (y + if v_X6_hinted P g k = width then 1 else 0) g (k + 1) := h
    refine r17 _ _ _ ⟨by omega, by omega⟩ ⟨by omega, by omega⟩ ⟨by omega, by omega⟩ ⟨of_p g0 (by omega) (by decide) (by decide), fun _ => ⟨mhin_p hm g0 (by omega) k0 (by omega), fun z => ?_, fun z => ?_⟩, fun z => by omega⟩
    · rw [if_pos z] at h; exact h
    · rw [if_neg z] at h; exact h
  · intro g y g0 g1 hy h
    have e2 := em g g0 (by omega)
    have b2 := of_bd hm g0 (show g < 8 by omega)
    show B17 y g (((v_X6_of P g 1).toNat : Nat) : Int)
    rw [e2]
    exact r17 _ _ _ ⟨by omega, by omega⟩ ⟨by omega, by omega⟩ ⟨by omega, by omega⟩ ⟨of_p g0 (by omega) (by decide) (by decide), fun z => by omega, fun _ => h⟩

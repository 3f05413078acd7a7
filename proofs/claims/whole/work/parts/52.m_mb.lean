def p_X6_inPixels (v1 : Int) (size : Int) : Prop := (hIn ((v1 * size) + 500) ∧ (0 ≤ ((v1 * size) + 500) ∧ (hIn (((v1 * size) + 500) / 1000) ∧ True)))
def v_X6_inPixels (v1 : Int) (size : Int) : Int := (((v1 * size) + 500) / 1000)
-- AFTER
theorem mpx_p {v z : Int} (v0 : 0 ≤ v) (v1 : v ≤ 2300) (z0 : 0 ≤ z) (z1 : z ≤ 48) : p_X6_inPixels v z := by
  have m := mulbd (u := v) (z := z) (a := 0) (b := 2300) v0 v1 (by decide) (by decide) z0 z1
  exact ⟨⟨by omega, by omega⟩, by omega, ⟨by omega, by omega⟩, trivial⟩
theorem mpx_bd {v z : Int} (v0 : 0 ≤ v) (v1 : v ≤ 2300) (z0 : 0 ≤ z) (z1 : z ≤ 48) : 0 ≤ v_X6_inPixels v z ∧ v_X6_inPixels v z ≤ 111 := by
  have m := mulbd (u := v) (z := z) (a := 0) (b := 2300) v0 v1 (by decide) (by decide) z0 z1
  unfold v_X6_inPixels
  omega
def p_X6_pixelsOf (P : hGM) (glyph : Int) (stem : Int) (size : Int) : Prop := (p_X6_hinted P glyph stem ∧ (p_X6_inPixels (v_X6_hinted P glyph stem) size ∧ (((v_X6_inPixels (v_X6_hinted P glyph stem) size) < 1 → True) ∧ (¬ (v_X6_inPixels (v_X6_hinted P glyph stem) size) < 1 → True))))
def v_X6_pixelsOf (P : hGM) (glyph : Int) (stem : Int) (size : Int) : Int := (if (v_X6_inPixels (v_X6_hinted P glyph stem) size) < 1 then 1 else (v_X6_inPixels (v_X6_hinted P glyph stem) size))
-- AFTER
theorem snaps_up {P : hGM} {w : Int} (h : mNum (P 1)) (w0 : 0 ≤ w) (w1 : w ≤ 300) : v_X6_snaps P w ≤ 300 := by
  have n1 := h.2.1
  have e : (((P 1 1).toNat : Nat) : Int) = P 1 1 := Int.toNat_of_nonneg n1.1
  have b := snapM_bd (st := fun k => P 1 (2 + k)) (cut := P 1 5) (w := w) (c := 300) (P 1 1).toNat ⟨w0, w1⟩ (fun k a1 a2 => h.2.2.1 k a1 (by omega)) (by have := h.2.2.2.1; omega)
  exact b.1.2
theorem mhin_p {P : hGM} {g k : Int} (h : mNum (P 1)) (g0 : 0 ≤ g) (g1 : g < 8) (k0 : 0 ≤ k) (k1 : k < 6) : p_X6_hinted P g k := by
  have b := ofStem_bd h g0 g1 k0 k1
  exact ⟨ofStem_p g0 g1 k0 k1 (by decide) (by decide), ⟨h, by omega, by omega⟩, fun _ => trivial, fun _ => trivial⟩
theorem mhin_bd {P : hGM} {g k : Int} (h : mNum (P 1)) (g0 : 0 ≤ g) (g1 : g < 8) (k0 : 0 ≤ k) (k1 : k < 6) : 0 ≤ v_X6_hinted P g k ∧ v_X6_hinted P g k ≤ 300 := by
  have b := ofStem_bd h g0 g1 k0 k1
  have s := snaps_up (w := v_X6_ofStem P g k 1) h (by omega) (by omega)
  unfold v_X6_hinted
  split <;> omega
theorem pixels_p {P : hGM} {g k z : Int} (h : mNum (P 1)) (g0 : 0 ≤ g) (g1 : g < 8) (k0 : 0 ≤ k) (k1 : k < 6) (z0 : 0 ≤ z) (z1 : z ≤ 48) : p_X6_pixelsOf P g k z := by
  have b := mhin_bd h g0 g1 k0 k1
  exact ⟨mhin_p h g0 g1 k0 k1, mpx_p b.1 (by omega) z0 z1, fun _ => trivial, fun _ => trivial⟩
theorem pixels_bd {P : hGM} {g k z : Int} (h : mNum (P 1)) (g0 : 0 ≤ g) (g1 : g < 8) (k0 : 0 ≤ k) (k1 : k < 6) (z0 : 0 ≤ z) (z1 : z ≤ 48) : 1 ≤ v_X6_pixelsOf P g k z ∧ v_X6_pixelsOf P g k z ≤ 111 := by
  have b := mhin_bd h g0 g1 k0 k1
  have b2 := mpx_bd b.1 (by omega) z0 z1
  unfold v_X6_pixelsOf
  split <;> omega
def p_X6_columns (P : hGM) (glyph : Int) (size : Int) : Prop := (p_X6_of P glyph 0 ∧ (p_X6_inPixels (v_X6_of P glyph 0) size ∧ (((v_X6_inPixels (v_X6_of P glyph 0) size) < 1 → True) ∧ (¬ (v_X6_inPixels (v_X6_of P glyph 0) size) < 1 → (((v_X6_inPixels (v_X6_of P glyph 0) size) ≤ 64 → True) ∧ (¬ (v_X6_inPixels (v_X6_of P glyph 0) size) ≤ 64 → True))))))
def v_X6_columns (P : hGM) (glyph : Int) (size : Int) : Int := (if (v_X6_inPixels (v_X6_of P glyph 0) size) < 1 then 1 else (if (v_X6_inPixels (v_X6_of P glyph 0) size) ≤ 64 then (v_X6_inPixels (v_X6_of P glyph 0) size) else 64))
-- AFTER
theorem mcol_p {P : hGM} {g z : Int} (h : mNum (P 1)) (g0 : 0 ≤ g) (g1 : g < 8) (z0 : 0 ≤ z) (z1 : z ≤ 48) : p_X6_columns P g z := by
  have b := (h.2.2.2.2.2.2.2.1 g g0 g1).1
  have e : v_X6_of P g 0 = P 1 (9 + 20 * g) := by unfold v_X6_of; rw [Int.add_zero]
  exact ⟨of_p g0 g1 (by decide) (by decide), mpx_p (by omega) (by omega) z0 z1, fun _ => trivial, fun _ => ⟨fun _ => trivial, fun _ => trivial⟩⟩
theorem mcol_bd (P : hGM) (g z : Int) : 1 ≤ v_X6_columns P g z ∧ v_X6_columns P g z ≤ 64 := by
  unfold v_X6_columns
  split
  · omega
  · split <;> omega
def p_X6_rounded (P : hGM) (glyph : Int) (stem : Int) (size : Int) : Prop := (p_X6_ofStem P glyph stem 0 ∧ (p_X6_ofStem P glyph stem 1 ∧ (p_X6_ofStem P glyph stem 2 ∧ (((v_X6_ofStem P glyph stem 2) = 1 → (hIn ((2 * (v_X6_ofStem P glyph stem 0)) + (v_X6_ofStem P glyph stem 1)) ∧ (p_X6_inPixels ((2 * (v_X6_ofStem P glyph stem 0)) + (v_X6_ofStem P glyph stem 1)) size ∧ ((0 ≤ stem ∧ stem < 6) ∧ (hIn ((v_X6_inPixels ((2 * (v_X6_ofStem P glyph stem 0)) + (v_X6_ofStem P glyph stem 1)) size) - (P 6 stem)) ∧ (p_X6_floor ((v_X6_inPixels ((2 * (v_X6_ofStem P glyph stem 0)) + (v_X6_ofStem P glyph stem 1)) size) - (P 6 stem)) 2 ∧ True)))))) ∧ (¬ (v_X6_ofStem P glyph stem 2) = 1 → (((v_X6_ofStem P glyph stem 2) = 2 → (hIn ((v_X6_ofStem P glyph stem 0) + (v_X6_ofStem P glyph stem 1)) ∧ (p_X6_inPixels ((v_X6_ofStem P glyph stem 0) + (v_X6_ofStem P glyph stem 1)) size ∧ ((0 ≤ stem ∧ stem < 6) ∧ (hIn ((v_X6_inPixels ((v_X6_ofStem P glyph stem 0) + (v_X6_ofStem P glyph stem 1)) size) - (P 6 stem)) ∧ True))))) ∧ (¬ (v_X6_ofStem P glyph stem 2) = 2 → (((v_X6_ofStem P glyph stem 2) = 3 → ((stem ≤ 0 → (p_X6_inPixels (v_X6_ofStem P glyph stem 0) size ∧ True)) ∧ (¬ stem ≤ 0 → (hIn (stem - 1) ∧ (p_X6_endOf P glyph (stem - 1) ∧ (hIn ((v_X6_ofStem P glyph stem 0) - (v_X6_endOf P glyph (stem - 1))) ∧ (p_X6_inPixels ((v_X6_ofStem P glyph stem 0) - (v_X6_endOf P glyph (stem - 1))) size ∧ ((0 ≤ (stem - 1) ∧ (stem - 1) < 6) ∧ (((v_X6_inPixels ((v_X6_ofStem P glyph stem 0) - (v_X6_endOf P glyph (stem - 1))) size) < (P 1 6) → (hIn (((P 5 (stem - 1)) + (P 6 (stem - 1))) + (P 1 6)) ∧ True)) ∧ (¬ (v_X6_inPixels ((v_X6_ofStem P glyph stem 0) - (v_X6_endOf P glyph (stem - 1))) size) < (P 1 6) → (hIn (((P 5 (stem - 1)) + (P 6 (stem - 1))) + (v_X6_inPixels ((v_X6_ofStem P glyph stem 0) - (v_X6_endOf P glyph (stem - 1))) size)) ∧ True))))))))))) ∧ (¬ (v_X6_ofStem P glyph stem 2) = 3 → (p_X6_inPixels (v_X6_ofStem P glyph stem 0) size ∧ True))))))))))
def v_X6_rounded (P : hGM) (glyph : Int) (stem : Int) (size : Int) : Int := (if (v_X6_ofStem P glyph stem 2) = 1 then (v_X6_floor ((v_X6_inPixels ((2 * (v_X6_ofStem P glyph stem 0)) + (v_X6_ofStem P glyph stem 1)) size) - (P 6 stem)) 2) else (if (v_X6_ofStem P glyph stem 2) = 2 then ((v_X6_inPixels ((v_X6_ofStem P glyph stem 0) + (v_X6_ofStem P glyph stem 1)) size) - (P 6 stem)) else (if (v_X6_ofStem P glyph stem 2) = 3 then (if stem ≤ 0 then (v_X6_inPixels (v_X6_ofStem P glyph stem 0) size) else (if (v_X6_inPixels ((v_X6_ofStem P glyph stem 0) - (v_X6_endOf P glyph (stem - 1))) size) < (P 1 6) then (((P 5 (stem - 1)) + (P 6 (stem - 1))) + (P 1 6)) else (((P 5 (stem - 1)) + (P 6 (stem - 1))) + (v_X6_inPixels ((v_X6_ofStem P glyph stem 0) - (v_X6_endOf P glyph (stem - 1))) size)))) else (v_X6_inPixels (v_X6_ofStem P glyph stem 0) size))))
-- AFTER
/-- the stems of each glyph lie clear of each other, from left to right -/
def mGap (P : hGM) : Prop := ∀ g k : Int, 0 ≤ g → g < 8 → 0 ≤ k → k + 1 < v_X6_of P g 1 → v_X6_endOf P g k ≤ v_X6_ofStem P g (k + 1) 0
theorem mfl_p {x : Int} (h : -100000 ≤ x ∧ x ≤ 100000) : p_X6_floor x 2 := ⟨fun _ => ⟨⟨by omega, by omega⟩, by omega, by decide, ⟨by omega, by omega⟩, trivial⟩, fun _ => ⟨by omega, by decide, ⟨by omega, by omega⟩, trivial⟩⟩
theorem mfl_bd {x : Int} : v_X6_floor x 2 * 2 ≤ x ∧ x ≤ v_X6_floor x 2 * 2 + 1 := by
  unfold v_X6_floor
  split <;> omega
theorem mrd_p {P : hGM} {g k z : Int} (h : mNum (P 1)) (hg : mGap P) (g0 : 0 ≤ g) (g1 : g < 8) (k0 : 0 ≤ k) (k1 : k < v_X6_of P g 1) (z0 : 0 ≤ z) (z1 : z ≤ 48) (w0 : 0 ≤ P 6 k ∧ P 6 k ≤ 111) (wl : 0 < k → (-500 ≤ P 5 (k - 1) ∧ P 5 (k - 1) ≤ 5000) ∧ (0 ≤ P 6 (k - 1) ∧ P 6 (k - 1) ≤ 111)) : p_X6_rounded P g k z ∧ -500 ≤ v_X6_rounded P g k z ∧ (v_X6_rounded P g k z ≤ 111 ∨ (0 < k ∧ v_X6_rounded P g k z ≤ P 5 (k - 1) + P 6 (k - 1) + 111)) := by
  have n6 := h.2.2.2.2.1
  have ob := of_bd h g0 g1
  have b := ofStem_bd h g0 g1 k0 (show k < 6 by omega)
  have a1 := mpx_bd (v := 2 * v_X6_ofStem P g k 0 + v_X6_ofStem P g k 1) (z := z) (by omega) (by omega) z0 z1
  have a2 := mpx_bd (v := v_X6_ofStem P g k 0 + v_X6_ofStem P g k 1) (z := z) (by omega) (by omega) z0 z1
  have a3 := mpx_bd (v := v_X6_ofStem P g k 0) (z := z) (by omega) (by omega) z0 z1
  have p3 := mpx_p (v := v_X6_ofStem P g k 0) (z := z) (by omega) (by omega) z0 z1
  have gp : 0 < k → 0 ≤ v_X6_ofStem P g k 0 - v_X6_endOf P g (k - 1) ∧ v_X6_ofStem P g k 0 - v_X6_endOf P g (k - 1) ≤ 1000 := by
    intro hk
    have q := hg g (k - 1) g0 g1 (by omega) (by omega)
    rw [show k - 1 + 1 = k by omega] at q
    have b2 := ofStem_bd h g0 g1 (show 0 ≤ k - 1 by omega) (show k - 1 < 6 by omega)
    have e : v_X6_endOf P g (k - 1) = v_X6_ofStem P g (k - 1) 0 + v_X6_ofStem P g (k - 1) 1 := rfl
    omega
  have op : ∀ w : Int, 0 ≤ w → w < 3 → p_X6_ofStem P g k w := fun w w0 w1 => ofStem_p g0 g1 k0 (by omega) w0 w1
  refine ⟨⟨op 0 (by decide) (by decide), op 1 (by decide) (by decide), op 2 (by decide) (by decide), fun _ => ⟨⟨by omega, by omega⟩, mpx_p (by omega) (by omega) z0 z1, ⟨by omega, by omega⟩, ⟨by omega, by omega⟩, mfl_p ⟨by omega, by omega⟩, trivial⟩, fun _ => ⟨fun _ => ⟨⟨by omega, by omega⟩, mpx_p (by omega) (by omega) z0 z1, ⟨by omega, by omega⟩, ⟨by omega, by omega⟩, trivial⟩, fun _ => ⟨fun _ => ⟨fun _ => ⟨p3, trivial⟩, fun c => ?_⟩, fun _ => ⟨p3, trivial⟩⟩⟩⟩, ?_⟩
  · have q := gp (by omega)
    have l := wl (by omega)
    have a4 := mpx_bd (v := v_X6_ofStem P g k 0 - v_X6_endOf P g (k - 1)) (z := z) (by omega) (by omega) z0 z1
    exact ⟨⟨by omega, by omega⟩, endOf_p h g0 g1 (by omega) (by omega), ⟨by omega, by omega⟩, mpx_p (by omega) (by omega) z0 z1, ⟨by omega, by omega⟩, fun _ => ⟨⟨by omega, by omega⟩, trivial⟩, fun _ => ⟨⟨by omega, by omega⟩, trivial⟩⟩
  · unfold v_X6_rounded
    have f := mfl_bd (x := v_X6_inPixels (2 * v_X6_ofStem P g k 0 + v_X6_ofStem P g k 1) z - P 6 k)
    split
    · omega
    · split
      · omega
      · split
        · split
          · omega
          · have q := gp (by omega)
            have l := wl (by omega)
            have a4 := mpx_bd (v := v_X6_ofStem P g k 0 - v_X6_endOf P g (k - 1)) (z := z) (by omega) (by omega) z0 z1
            split <;> omega
        · omega
def p_X6_lays (P : hGM) (glyph : Int) (size : Int) : Prop := mNum (P 1) ∧ mGap P ∧ (0 ≤ glyph ∧ glyph < 8) ∧ (6 ≤ size ∧ size ≤ 48)
/-- a stem's pixels are set down -/
def laA (L : hGM) (g z k : Int) : hGM := aset (aset L 6 k (v_X6_pixelsOf L g k z)) 5 k (v_X6_rounded (aset L 6 k (v_X6_pixelsOf L g k z)) g k z)
def laM (L : hGM) (g k : Int) : Int := L 5 (k - 1) + L 6 (k - 1) + (if v_X6_ofStem L g k 0 - v_X6_endOf L g (k - 1) ≤ 0 then 0 else 1)
/-- and pushed if need be -/
def laB (L : hGM) (g k : Int) : hGM := aset (aset L 0 9 (iOr (L 0 9) (if L 5 k < laM L g k then iShl 1 k else 0))) 5 k (if L 5 k < laM L g k then laM L g k else L 5 k)
def laS (P : hGM) (g z : Int) : Nat → hGM
  | 0 => aset P 0 9 0
  | k + 1 => if (k : Int) ≤ 0 then laA (laS P g z k) g z k else laB (laA (laS P g z k) g z k) g k
def m_X6_lays (P : hGM) (glyph : Int) (size : Int) : hGM := laS P glyph size (v_X6_of P glyph 1).toNat
theorem laS_row {P : hGM} {g z : Int} {i : Nat} (n : Nat) (h0 : i ≠ 0) (h5 : i ≠ 5) (h6 : i ≠ 6) : laS P g z n i = P i := by
  induction n with
  | zero => unfold laS; rw [aset_row h0]
  | succ n ih =>
    unfold laS
    have e : laA (laS P g z n) g z n i = P i := by unfold laA; rw [aset_row h5, aset_row h6, ih]
    split
    · exact e
    · unfold laB; rw [aset_row h5, aset_row h0, e]
theorem laS_0 {P : hGM} {g z : Int} {q : Int} (n : Nat) (h9 : q ≠ 9) : laS P g z n 0 q = P 0 q := by
  induction n with
  | zero => unfold laS; rw [aset_ne (fun c => h9 c.2)]
  | succ n ih =>
    unfold laS
    have e : laA (laS P g z n) g z n 0 q = P 0 q := by unfold laA; rw [aset_row (by decide), aset_row (by decide), ih]
    split
    · exact e
    · unfold laB; rw [aset_row (by decide), aset_ne (fun c => h9 c.2), e]
theorem mGap_row {P L : hGM} (h : L 1 = P 1) (hg : mGap P) : mGap L := by
  intro g k g0 g1 k0 k1
  unfold v_X6_of at k1
  unfold v_X6_endOf v_X6_ofStem
  rw [h] at k1 ⊢
  exact hg g k g0 g1 k0 k1
theorem of_row {P L : hGM} (h : L 1 = P 1) (g w : Int) : v_X6_of L g w = v_X6_of P g w := by unfold v_X6_of; rw [h]
theorem ofStem_row {P L : hGM} (h : L 1 = P 1) (g k w : Int) : v_X6_ofStem L g k w = v_X6_ofStem P g k w := by unfold v_X6_ofStem; rw [h]
/-- what the laid stems are bounded by -/
def laI (L : hGM) (n : Nat) : Prop := ∀ j : Int, 0 ≤ j → j < n → (-500 ≤ L 5 j ∧ L 5 j ≤ 111 + 300 * j) ∧ (1 ≤ L 6 j ∧ L 6 j ≤ 111)
theorem laA_bd {L : hGM} {g z : Int} {n : Nat} (h : mNum (L 1)) (hg : mGap L) (g0 : 0 ≤ g) (g1 : g < 8) (z0 : 0 ≤ z) (z1 : z ≤ 48) (hn : (n : Int) < v_X6_of L g 1) (hi : laI L n) : p_X6_rounded (aset L 6 n (v_X6_pixelsOf L g n z)) g n z ∧ laI (laA L g z n) (n + 1) := by
  have ob := of_bd h g0 g1
  have w := pixels_bd h g0 g1 (show 0 ≤ (n : Int) by omega) (by omega) z0 z1
  have e1 : (aset L 6 n (v_X6_pixelsOf L g n z)) 1 = L 1 := aset_row (by decide)
  have e5 : ∀ q, (aset L 6 n (v_X6_pixelsOf L g n z)) 5 q = L 5 q := fun q => by rw [aset_row (by decide)]
  have r := mrd_p (P := aset L 6 n (v_X6_pixelsOf L g n z)) (g := g) (k := n) (z := z) (by rw [e1]; exact h) (mGap_row e1 hg) g0 g1 (by omega) (by rw [of_row e1]; exact hn) z0 z1 (by rw [aset_at]; omega) (fun c => by
    have q := hi (n - 1) (by omega) (by omega)
    rw [e5, aset_ne (by omega)]
    omega)
  refine ⟨r.1, fun j j0 j1 => ?_⟩
  unfold laA
  rw [aset_row (show (6 : Nat) ≠ 5 by decide)]
  by_cases c : j = n
  · subst c
    rw [aset_at, aset_at]
    refine ⟨⟨r.2.1, ?_⟩, w⟩
    rcases r.2.2 with q | q
    · omega
    · have q2 := hi (n - 1) (by omega) (by omega)
      have q3 := q.2
      rw [e5, aset_ne (by omega)] at q3
      omega
  · rw [aset_ne (by omega), e5, aset_ne (by omega)]
    exact hi j j0 (by omega)
theorem laB_bd {L : hGM} {g : Int} {n : Nat} (h0 : 0 < n) (hi : laI L (n + 1)) : (-1000 ≤ laM L g n ∧ laM L g n ≤ 5000 + 300 * n) ∧ laI (laB L g n) (n + 1) := by
  have q := hi (n - 1) (by omega) (by omega)
  have q2 := hi n (by omega) (by omega)
  have m : laM L g n = L 5 (n - 1) + L 6 (n - 1) + 0 ∨ laM L g n = L 5 (n - 1) + L 6 (n - 1) + 1 := by
    unfold laM
    split
    · exact Or.inl rfl
    · exact Or.inr rfl
  refine ⟨⟨by omega, by omega⟩, fun j j0 j1 => ?_⟩
  unfold laB
  rw [aset_row (show (6 : Nat) ≠ 5 by decide), aset_row (show (6 : Nat) ≠ 0 by decide)]
  by_cases c : j = n
  · subst c
    rw [aset_at]
    refine ⟨?_, q2.2⟩
    split <;> omega
  · rw [aset_ne (by omega), aset_row (by decide)]
    exact hi j j0 j1
theorem laS_bd {P : hGM} {g z : Int} (h : mNum (P 1)) (hg : mGap P) (g0 : 0 ≤ g) (g1 : g < 8) (z0 : 0 ≤ z) (z1 : z ≤ 48) (n : Nat) (hn : (n : Int) ≤ v_X6_of P g 1) : laI (laS P g z n) n := by
  induction n with
  | zero => intro j j0 j1; omega
  | succ n ih =>
    have ih := ih (by omega)
    have e1 : laS P g z n 1 = P 1 := laS_row n (by decide) (by decide) (by decide)
    have a := (laA_bd (L := laS P g z n) (z := z) (by rw [e1]; exact h) (mGap_row e1 hg) g0 g1 z0 z1 (by rw [of_row e1]; omega) ih).2
    unfold laS
    split
    · exact a
    · exact (laB_bd (by omega) a).2
set_option maxHeartbeats 4000000 in
theorem x_X6_lays (P : hGM) (glyph : Int) (size : Int) (h_glyph : hIn glyph) (h_size : hIn size) (hRP : ∀ (i : Nat) (k : Int), i < 100 → hIn (P i k)) (hp : p_X6_lays P glyph size) (B7 : Int → hGM → Prop) (B43 : Int → hGM → Prop) (B95 : Int → Int → hGM → Prop) (B122 : Int → Int → hGM → Prop) (B150 : Int → hGM → Prop) (Po : hGM → Prop) 
  (r7 : ∀ (y3 : Int) (P1 : hGM), hIn y3 → ((∀ (i : Nat) (k : Int), i < 100 → hIn (P1 i k)) → (p_X6_of P1 glyph 1 ∧ ((y3 < (v_X6_of P1 glyph 1) → (p_X6_pixelsOf P1 glyph y3 size ∧ ((0 ≤ y3 ∧ y3 < 6) ∧ (p_X6_rounded (aset P1 6 y3 (v_X6_pixelsOf P1 glyph y3 size)) glyph y3 size ∧ (B43 y3 (aset (aset P1 6 y3 (v_X6_pixelsOf P1 glyph y3 size)) 5 y3 (v_X6_rounded (aset P1 6 y3 (v_X6_pixelsOf P1 glyph y3 size)) glyph y3 size))))))) ∧ (¬ y3 < (v_X6_of P1 glyph 1) → (Po P1))))) → (B7 y3 P1)) 
  (r43 : ∀ (y3 : Int) (P1 : hGM), hIn y3 → ((∀ (i : Nat) (k : Int), i < 100 → hIn (P1 i k)) → ((y3 ≤ 0 → (B150 y3 P1)) ∧ (¬ y3 ≤ 0 → (p_X6_ofStem P1 glyph y3 0 ∧ (hIn (y3 - 1) ∧ (p_X6_endOf P1 glyph (y3 - 1) ∧ ((0 ≤ (y3 - 1) ∧ (y3 - 1) < 6) ∧ (hIn ((v_X6_ofStem P1 glyph y3 0) - (v_X6_endOf P1 glyph (y3 - 1))) ∧ ((((v_X6_ofStem P1 glyph y3 0) - (v_X6_endOf P1 glyph (y3 - 1))) ≤ 0 → (B95 y3 (((P1 5 (y3 - 1)) + (P1 6 (y3 - 1))) + 0) P1)) ∧ (¬ ((v_X6_ofStem P1 glyph y3 0) - (v_X6_endOf P1 glyph (y3 - 1))) ≤ 0 → (B95 y3 (((P1 5 (y3 - 1)) + (P1 6 (y3 - 1))) + 1) P1))))))))))) → (B43 y3 P1)) 
  (r95 : ∀ (y3 : Int) (y5 : Int) (P1 : hGM), hIn y3 → hIn y5 → ((∀ (i : Nat) (k : Int), i < 100 → hIn (P1 i k)) → ((0 ≤ y3 ∧ y3 < 6) ∧ (((P1 5 y3) < y5 → (B122 y3 y5 (aset P1 0 9 (iOr (P1 0 9) (iShl 1 y3))))) ∧ (¬ (P1 5 y3) < y5 → (B122 y3 y5 (aset P1 0 9 (iOr (P1 0 9) 0))))))) → (B95 y3 y5 P1)) 
  (r122 : ∀ (y3 : Int) (y5 : Int) (P1 : hGM), hIn y3 → hIn y5 → ((∀ (i : Nat) (k : Int), i < 100 → hIn (P1 i k)) → ((0 ≤ y3 ∧ y3 < 6) ∧ (((P1 5 y3) < y5 → (B150 y3 (aset P1 5 y3 y5))) ∧ (¬ (P1 5 y3) < y5 → (B150 y3 (aset P1 5 y3 (P1 5 y3))))))) → (B122 y3 y5 P1)) 
  (r150 : ∀ (y3 : Int) (P1 : hGM), hIn y3 → ((∀ (i : Nat) (k : Int), i < 100 → hIn (P1 i k)) → (B7 (y3 + 1) P1)) → (B150 y3 P1)) 
  (hpost : Po (m_X6_lays P glyph size)) : (B7 0 (aset P 0 9 0)) := by
  obtain ⟨hm, hg, ⟨g0, g1⟩, z0, z1⟩ := hp
  have ob := of_bd hm g0 g1
  have e : (((v_X6_of P glyph 1).toNat : Nat) : Int) = v_X6_of P glyph 1 := Int.toNat_of_nonneg ob.1
  have r1 := fun n : Nat => laS_row (P := P) (g := glyph) (z := size) (i := 1) n (by decide) (by decide) (by decide)
  refine upN (C := fun k => B7 (k : Int) (laS P glyph size k)) (v_X6_of P glyph 1).toNat ?_ ?_
  · refine r7 _ _ ⟨by omega, by omega⟩ (fun _ => ⟨of_p g0 g1 (by decide) (by decide), fun z => ?_, fun _ => hpost⟩)
    rw [of_row (r1 _)] at z
    omega
  · intro k hk h
    have hs := laS_bd hm hg g0 g1 (show 0 ≤ size by omega) z1 k (by omega)
    have hmk : mNum (laS P glyph size k 1) := by rw [r1]; exact hm
    have hgk := mGap_row (r1 k) hg
    have hof := of_row (r1 k) glyph 1
    have ho := of_row (r1 (k + 1)) glyph 1
    have hs1 : laS P glyph size (k + 1) = if (k : Int) ≤ 0 then laA (laS P glyph size k) glyph size k else laB (laA (laS P glyph size k) glyph size k) glyph k := rfl
    have ra := r1 k
    rw [hs1] at h
    generalize laS P glyph size k = L at h hs hmk hgk hof ra ⊢
    have a := laA_bd hmk hgk g0 g1 (show 0 ≤ size by omega) z1 (by rw [hof]; omega) hs
    refine r7 _ _ ⟨by omega, by omega⟩ (fun _ => ⟨of_p g0 g1 (by decide) (by decide), fun _ => ⟨pixels_p hmk g0 g1 (by omega) (by omega) (by omega) z1, ⟨by omega, by omega⟩, a.1, ?_⟩, fun z => by rw [hof] at z; omega⟩)
    have h150 : ∀ L2 : hGM, B7 ((k + 1 : Nat) : Int) L2 → B150 (k : Int) L2 := fun L2 q => r150 _ _ ⟨by omega, by omega⟩ (fun _ => by rw [show (k : Int) + 1 = ((k + 1 : Nat) : Int) by omega]; exact q)
    have q1 : laA L glyph size k 1 = L 1 := by unfold laA; rw [aset_row (by decide), aset_row (by decide)]
    have hb := a.2
    show B43 (k : Int) (laA L glyph size k)
    generalize laA L glyph size k = M at h hb q1 ⊢
    have hmM : mNum (M 1) := by rw [q1]; exact hmk
    refine r43 _ _ ⟨by omega, by omega⟩ (fun _ => ⟨fun z => ?_, fun z => ?_⟩)
    · rw [if_pos z] at h; exact h150 _ h
    · rw [if_neg z] at h
      have b := laB_bd (L := M) (g := glyph) (n := k) (by omega) hb
      have kk := hb k (by omega) (by omega)
      have kl := hb (k - 1) (by omega) (by omega)
      have o1 := ofStem_bd hmM g0 g1 (show 0 ≤ (k : Int) by omega) (by omega)
      have o2 := ofStem_bd hmM g0 g1 (show 0 ≤ (k : Int) - 1 by omega) (by omega)
      have eo : v_X6_endOf M glyph (k - 1) = v_X6_ofStem M glyph (k - 1) 0 + v_X6_ofStem M glyph (k - 1) 1 := rfl
      have h95 : B95 (k : Int) (laM M glyph k) M := by
        refine r95 _ _ _ ⟨by omega, by omega⟩ ⟨by omega, by omega⟩ (fun _ => ⟨⟨by omega, by omega⟩, fun z2 => ?_, fun z2 => ?_⟩)
        · have e2 : aset (aset M 0 9 (iOr (M 0 9) (iShl 1 k))) 5 k (laM M glyph k) = laB M glyph k := by unfold laB; rw [if_pos z2, if_pos z2]
          refine r122 _ _ _ ⟨by omega, by omega⟩ ⟨by omega, by omega⟩ (fun _ => ⟨⟨by omega, by omega⟩, fun _ => ?_, fun z3 => absurd z2 z3⟩)
          rw [e2]; exact h150 _ h
        · have e2 : aset (aset M 0 9 (iOr (M 0 9) 0)) 5 k (M 5 k) = laB M glyph k := by unfold laB; rw [if_neg z2, if_neg z2]
          refine r122 _ _ _ ⟨by omega, by omega⟩ ⟨by omega, by omega⟩ (fun _ => ⟨⟨by omega, by omega⟩, fun z3 => absurd z3 z2, fun _ => ?_⟩)
          have e3 : (aset M 0 9 (iOr (M 0 9) 0)) 5 k = M 5 k := by rw [aset_row (by decide)]
          rw [e3, e2]; exact h150 _ h
      refine ⟨ofStem_p g0 g1 (by omega) (by omega) (by decide) (by decide), ⟨by omega, by omega⟩, endOf_p hmM g0 g1 (by omega) (by omega), ⟨by omega, by omega⟩, ⟨by omega, by omega⟩, fun c => ?_, fun c => ?_⟩
      · have e4 : laM M glyph k = M 5 (k - 1) + M 6 (k - 1) + 0 := by unfold laM; rw [if_pos c]
        rw [← e4]; exact h95
      · have e4 : laM M glyph k = M 5 (k - 1) + M 6 (k - 1) + 1 := by unfold laM; rw [if_neg c]
        rw [← e4]; exact h95
def p_X6_cuts (P : hGM) (glyph : Int) (size : Int) : Prop := mNum (P 1) ∧ (0 ≤ glyph ∧ glyph < 8) ∧ (0 ≤ size ∧ size ≤ 48) ∧ laI P (v_X6_of P glyph 1).toNat
/-- stems that are cut, among the first n -/
def cutN (P : hGM) (g z : Int) : Nat → Int
  | 0 => 0
  | n + 1 => iOr (cutN P g z n) (if P 5 n < 0 ∨ ¬ P 5 n + P 6 n ≤ v_X6_columns P g z then iShl 1 n else 0)
def v_X6_cuts (P : hGM) (glyph : Int) (size : Int) : Int := cutN P glyph size (v_X6_of P glyph 1).toNat
theorem iOr_in (a b : Int) : hIn (iOr a b) := hIn_toInt _
theorem cutN_in (P : hGM) (g z : Int) (n : Nat) : hIn (cutN P g z n) := by
  cases n with
  | zero => exact hIn_0
  | succ n => exact iOr_in _ _
set_option maxHeartbeats 4000000 in
theorem x_X6_cuts (P : hGM) (glyph : Int) (size : Int) (h_glyph : hIn glyph) (h_size : hIn size) (hRP : ∀ (i : Nat) (k : Int), i < 100 → hIn (P i k)) (hp : p_X6_cuts P glyph size) (B5 : Int → Int → Prop) (Po : Int → Prop) 
  (r5 : ∀ (y3 : Int) (y4 : Int), hIn y3 → hIn y4 → ((p_X6_of P glyph 1 ∧ ((y4 < (v_X6_of P glyph 1) → ((0 ≤ y4 ∧ y4 < 6) ∧ (((P 5 y4) < 0 → (B5 (iOr y3 (iShl 1 y4)) (y4 + 1))) ∧ (¬ (P 5 y4) < 0 → (p_X6_columns P glyph size ∧ (hIn ((P 5 y4) + (P 6 y4)) ∧ ((((P 5 y4) + (P 6 y4)) ≤ (v_X6_columns P glyph size) → (B5 (iOr y3 0) (y4 + 1))) ∧ (¬ ((P 5 y4) + (P 6 y4)) ≤ (v_X6_columns P glyph size) → (B5 (iOr y3 (iShl 1 y4)) (y4 + 1)))))))))) ∧ (¬ y4 < (v_X6_of P glyph 1) → (Po y3))))) → (B5 y3 y4)) 
  (hpost : Po (v_X6_cuts P glyph size)) : (B5 0 0) := by
  obtain ⟨hm, ⟨g0, g1⟩, ⟨z0, z1⟩, hi⟩ := hp
  have ob := of_bd hm g0 g1
  have e : (((v_X6_of P glyph 1).toNat : Nat) : Int) = v_X6_of P glyph 1 := Int.toNat_of_nonneg ob.1
  refine upN (C := fun k => B5 (cutN P glyph size k) (k : Int)) (v_X6_of P glyph 1).toNat ?_ ?_
  · exact r5 _ _ (cutN_in _ _ _ _) ⟨by omega, by omega⟩ ⟨of_p g0 g1 (by decide) (by decide), fun z => by omega, fun _ => hpost⟩
  · intro k hk h
    have q := hi k (by omega) (by omega)
    refine r5 _ _ (cutN_in _ _ _ _) ⟨by omega, by omega⟩ ⟨of_p g0 g1 (by decide) (by decide), fun _ => ⟨⟨by omega, by omega⟩, fun c => ?_, fun c => ⟨mcol_p hm g0 g1 z0 z1, ⟨by omega, by omega⟩, fun c2 => ?_, fun c2 => ?_⟩⟩, fun z => by omega⟩
    · have h : B5 (iOr (cutN P glyph size k) (if P 5 k < 0 ∨ ¬ P 5 k + P 6 k ≤ v_X6_columns P glyph size then iShl 1 k else 0)) (k + 1) := h
      rw [if_pos (Or.inl c)] at h; exact h
    · have h : B5 (iOr (cutN P glyph size k) (if P 5 k < 0 ∨ ¬ P 5 k + P 6 k ≤ v_X6_columns P glyph size then iShl 1 k else 0)) (k + 1) := h
      rw [if_neg (fun x => x.elim c (fun y => y c2))] at h; exact h
    · have h : B5 (iOr (cutN P glyph size k) (if P 5 k < 0 ∨ ¬ P 5 k + P 6 k ≤ v_X6_columns P glyph size then iShl 1 k else 0)) (k + 1) := h
      rw [if_pos (Or.inr c2)] at h; exact h
def p_X6_isClear (P : hGM) (glyph : Int) (size : Int) : Prop := (p_X6_lays P glyph size ∧ ((((m_X6_lays P glyph size) 0 9) = 0 → (p_X6_cuts (m_X6_lays P glyph size) glyph size ∧ (((v_X6_cuts (m_X6_lays P glyph size) glyph size) = 0 → True) ∧ (¬ (v_X6_cuts (m_X6_lays P glyph size) glyph size) = 0 → True)))) ∧ (¬ ((m_X6_lays P glyph size) 0 9) = 0 → True)))
def v_X6_isClear (P : hGM) (glyph : Int) (size : Int) : Int := (if ((m_X6_lays P glyph size) 0 9) = 0 then (if (v_X6_cuts (m_X6_lays P glyph size) glyph size) = 0 then 1 else 0) else 0)
def m_X6_isClear (P : hGM) (glyph : Int) (size : Int) : hGM := (if ((m_X6_lays P glyph size) 0 9) = 0 then (if (v_X6_cuts (m_X6_lays P glyph size) glyph size) = 0 then (m_X6_lays P glyph size) else (m_X6_lays P glyph size)) else (m_X6_lays P glyph size))
theorem z_X6_isClear (P : hGM) (glyph : Int) (size : Int) : v_X6_isClear P glyph size = 0 ∨ v_X6_isClear P glyph size = 1 := by
  unfold v_X6_isClear
  (repeat' split) <;> first | exact Or.inl rfl | exact Or.inr rfl
def p_X6_isLit (P : hGM) (glyph : Int) (column : Int) : Prop := mNum (P 1) ∧ (0 ≤ glyph ∧ glyph < 8) ∧ (-1000 ≤ column ∧ column ≤ 1000) ∧ laI P (v_X6_of P glyph 1).toNat
/-- whether a column is lit by one of the first n stems -/
def litN (P : hGM) (c : Int) : Nat → Int
  | 0 => 0
  | n + 1 => if litN P c n = 0 then (if v_X6_in (c - P 5 n) 0 (P 6 n - 1) = 0 then 0 else 1) else 1
def v_X6_isLit (P : hGM) (glyph : Int) (column : Int) : Int := litN P column (v_X6_of P glyph 1).toNat
theorem litN_01 (P : hGM) (c : Int) (n : Nat) : litN P c n = 0 ∨ litN P c n = 1 := by
  cases n with
  | zero => exact Or.inl rfl
  | succ n =>
    unfold litN
    split
    · split
      · exact Or.inl rfl
      · exact Or.inr rfl
    · exact Or.inr rfl
set_option maxHeartbeats 4000000 in
theorem x_X6_isLit (P : hGM) (glyph : Int) (column : Int) (h_glyph : hIn glyph) (h_column : hIn column) (hRP : ∀ (i : Nat) (k : Int), i < 100 → hIn (P i k)) (hp : p_X6_isLit P glyph column) (B5 : Int → Int → Prop) (Po : Int → Prop) 
  (r5 : ∀ (y3 : Int) (y4 : Int), hIn y3 → hIn y4 → ((p_X6_of P glyph 1 ∧ ((y4 < (v_X6_of P glyph 1) → ((y3 = 0 → ((0 ≤ y4 ∧ y4 < 6) ∧ (hIn (column - (P 5 y4)) ∧ (hIn ((P 6 y4) - 1) ∧ (((v_X6_in (column - (P 5 y4)) 0 ((P 6 y4) - 1)) = 0 → (B5 0 (y4 + 1))) ∧ (¬ (v_X6_in (column - (P 5 y4)) 0 ((P 6 y4) - 1)) = 0 → (B5 1 (y4 + 1)))))))) ∧ (¬ y3 = 0 → (B5 1 (y4 + 1))))) ∧ (¬ y4 < (v_X6_of P glyph 1) → ((y3 = 0 ∨ y3 = 1) ∧ (Po y3)))))) → (B5 y3 y4)) 
  (hpost : Po (v_X6_isLit P glyph column)) : (B5 0 0) := by
  obtain ⟨hm, ⟨g0, g1⟩, ⟨c0, c1⟩, hi⟩ := hp
  have ob := of_bd hm g0 g1
  have e : (((v_X6_of P glyph 1).toNat : Nat) : Int) = v_X6_of P glyph 1 := Int.toNat_of_nonneg ob.1
  have lin : ∀ n, hIn (litN P column n) := fun n => by rcases litN_01 P column n with q | q <;> rw [q] <;> exact ⟨by decide, by decide⟩
  refine upN (C := fun k => B5 (litN P column k) (k : Int)) (v_X6_of P glyph 1).toNat ?_ ?_
  · exact r5 _ _ (lin _) ⟨by omega, by omega⟩ ⟨of_p g0 g1 (by decide) (by decide), fun z => by omega, fun _ => ⟨litN_01 _ _ _, hpost⟩⟩
  · intro k hk h
    have q := hi k (by omega) (by omega)
    have h : B5 (if litN P column k = 0 then (if v_X6_in (column - P 5 k) 0 (P 6 k - 1) = 0 then 0 else 1) else 1) (k + 1) := h
    refine r5 _ _ (lin _) ⟨by omega, by omega⟩ ⟨of_p g0 g1 (by decide) (by decide), fun _ => ⟨fun c => ⟨⟨by omega, by omega⟩, ⟨by omega, by omega⟩, ⟨by omega, by omega⟩, fun c2 => ?_, fun c2 => ?_⟩, fun c => ?_⟩, fun z => by omega⟩
    · rw [if_pos c, if_pos c2] at h; exact h
    · rw [if_pos c, if_neg c2] at h; exact h
    · rw [if_neg c] at h; exact h
def p_X6_litHalf (P : hGM) (glyph : Int) (size : Int) (half : Int) : Prop := mNum (P 1) ∧ (0 ≤ glyph ∧ glyph < 8) ∧ (0 ≤ size ∧ size ≤ 48) ∧ (0 ≤ half ∧ half ≤ 1) ∧ laI P (v_X6_of P glyph 1).toNat
/-- the first n columns of a half, as bits -/
def halfN (P : hGM) (g z h : Int) : Nat → Int
  | 0 => 0
  | n + 1 => iOr (halfN P g z h n) (if 32 * h + n < v_X6_columns P g z ∧ ¬ v_X6_isLit P g (32 * h + n) = 0 then iShl 1 n else 0)
def v_X6_litHalf (P : hGM) (glyph : Int) (size : Int) (half : Int) : Int := halfN P glyph size half 32
theorem halfN_in (P : hGM) (g z h : Int) (n : Nat) : hIn (halfN P g z h n) := by
  cases n with
  | zero => exact hIn_0
  | succ n => exact iOr_in _ _
set_option maxHeartbeats 4000000 in
theorem x_X6_litHalf (P : hGM) (glyph : Int) (size : Int) (half : Int) (h_glyph : hIn glyph) (h_size : hIn size) (h_half : hIn half) (hRP : ∀ (i : Nat) (k : Int), i < 100 → hIn (P i k)) (hp : p_X6_litHalf P glyph size half) (B6 : Int → Int → Prop) (Po : Int → Prop) 
  (r6 : ∀ (y4 : Int) (y5 : Int), hIn y4 → hIn y5 → (((y5 < 32 → (p_X6_columns P glyph size ∧ (hIn ((32 * half) + y5) ∧ ((((32 * half) + y5) < (v_X6_columns P glyph size) → (p_X6_isLit P glyph ((32 * half) + y5) ∧ (((v_X6_isLit P glyph ((32 * half) + y5)) = 0 → (B6 (iOr y4 0) (y5 + 1))) ∧ (¬ (v_X6_isLit P glyph ((32 * half) + y5)) = 0 → (B6 (iOr y4 (iShl 1 y5)) (y5 + 1)))))) ∧ (¬ ((32 * half) + y5) < (v_X6_columns P glyph size) → (B6 (iOr y4 0) (y5 + 1))))))) ∧ (¬ y5 < 32 → (Po y4)))) → (B6 y4 y5)) 
  (hpost : Po (v_X6_litHalf P glyph size half)) : (B6 0 0) := by
  obtain ⟨hm, ⟨g0, g1⟩, ⟨z0, z1⟩, ⟨h0, h1⟩, hi⟩ := hp
  refine upN (C := fun k => B6 (halfN P glyph size half k) (k : Int)) 32 ?_ ?_
  · exact r6 _ _ (halfN_in _ _ _ _ _) ⟨by decide, by decide⟩ ⟨fun z => absurd z (by decide), fun _ => hpost⟩
  · intro k hk h
    have h : B6 (iOr (halfN P glyph size half k) (if 32 * half + k < v_X6_columns P glyph size ∧ ¬ v_X6_isLit P glyph (32 * half + k) = 0 then iShl 1 k else 0)) (k + 1) := h
    refine r6 _ _ (halfN_in _ _ _ _ _) ⟨by omega, by omega⟩ ⟨fun _ => ⟨mcol_p hm g0 g1 z0 z1, ⟨by omega, by omega⟩, fun c => ⟨⟨hm, ⟨g0, g1⟩, ⟨by omega, by omega⟩, hi⟩, fun c2 => ?_, fun c2 => ?_⟩, fun c => ?_⟩, fun z => by omega⟩
    · rw [if_neg (fun x => x.2 c2)] at h; exact h
    · rw [if_pos ⟨c, c2⟩] at h; exact h
    · rw [if_neg (fun x => c x.1)] at h; exact h
def p_X6_ofSheet (P : hGM) (sheet : Int) (what : Int) : Prop := ((0 ≤ ((169 + (10 * sheet)) + what) ∧ ((169 + (10 * sheet)) + what) < 273) ∧ True)
def v_X6_ofSheet (P : hGM) (sheet : Int) (what : Int) : Int := (P 1 ((169 + (10 * sheet)) + what))
def p_X6_sheetAt (P : hGM) (size : Int) : Prop := 0 ≤ P 1 7 ∧ P 1 7 ≤ 4
def v_X6_sheetAt (P : hGM) (size : Int) : Int := if firstN (fun k => decide (v_X6_ofSheet P k 0 = size)) (P 1 7).toNat = -1 then -1000004 else firstN (fun k => decide (v_X6_ofSheet P k 0 = size)) (P 1 7).toNat
theorem sheetAt_bd {P : hGM} {z : Int} (h : 0 ≤ P 1 7) : v_X6_sheetAt P z < 0 ∨ (0 ≤ v_X6_sheetAt P z ∧ v_X6_sheetAt P z < P 1 7) := by
  have s := firstN_spec (fun k => decide (v_X6_ofSheet P k 0 = z)) (P 1 7).toNat
  unfold v_X6_sheetAt
  split
  · exact Or.inl (by decide)
  · exact Or.inr (by omega)
theorem ofSheet_p {P : hGM} {k w : Int} (k0 : 0 ≤ k) (k1 : k < 4) (w0 : 0 ≤ w) (w1 : w < 10) : p_X6_ofSheet P k w := ⟨⟨by omega, by omega⟩, trivial⟩
set_option maxHeartbeats 4000000 in
theorem x_X6_sheetAt (P : hGM) (size : Int) (h_size : hIn size) (hRP : ∀ (i : Nat) (k : Int), i < 100 → hIn (P i k)) (hp : p_X6_sheetAt P size) (B2 : Int → Prop) (Po : Int → Prop) 
  (r2 : ∀ (y2 : Int), hIn y2 → (((y2 < (P 1 7) → (p_X6_ofSheet P y2 0 ∧ (((v_X6_ofSheet P y2 0) = size → (Po y2)) ∧ (¬ (v_X6_ofSheet P y2 0) = size → (B2 (y2 + 1)))))) ∧ (¬ y2 < (P 1 7) → (Po (-1000004))))) → (B2 y2)) 
  (hpost : Po (v_X6_sheetAt P size)) : (B2 0) := by
  obtain ⟨q0, q1⟩ := hp
  have e : (((P 1 7).toNat : Nat) : Int) = P 1 7 := Int.toNat_of_nonneg q0
  unfold v_X6_sheetAt at hpost
  refine firstLoop (B := B2) (Po := fun r => Po (if r = -1 then -1000004 else r)) (fun k => decide (v_X6_ofSheet P k 0 = size)) (P 1 7).toNat (fun k h0 h1 hk hp => ?_) (fun k h0 h1 hk hb => ?_) (fun hp => ?_) hpost
  · have hk := of_decide_eq_true hk
    have hp : Po (if k = -1 then -1000004 else k) := hp
    rw [if_neg (by omega)] at hp
    exact r2 _ ⟨by omega, by omega⟩ ⟨fun _ => ⟨ofSheet_p (by omega) (by omega) (by decide) (by decide), fun _ => hp, fun z => absurd hk z⟩, fun z => by omega⟩
  · have hk := of_decide_eq_false hk
    exact r2 _ ⟨by omega, by omega⟩ ⟨fun _ => ⟨ofSheet_p (by omega) (by omega) (by decide) (by decide), fun z => absurd z hk, fun _ => hb⟩, fun z => by omega⟩
  · have hp : Po (if (-1 : Int) = -1 then -1000004 else -1) := hp
    rw [if_pos rfl] at hp
    exact r2 _ ⟨by omega, by omega⟩ ⟨fun z => by omega, fun _ => hp⟩
-- WANTING: X6_takesSheet over (P : hGM) (sheet : Int)
def p_X6_takesSheet (P : hGM) (sheet : Int) : Prop := True
def m_X6_takesSheet (P : hGM) (sheet : Int) : hGM := P
set_option maxHeartbeats 4000000 in
theorem x_X6_takesSheet (P : hGM) (sheet : Int) (h_sheet : hIn sheet) (hRP : ∀ (i : Nat) (k : Int), i < 100 → hIn (P i k)) (hp : p_X6_takesSheet P sheet) (B20 : Int → hGM → Prop) (B68 : Int → hGM → Prop) (Po : hGM → Prop) 
  (r20 : ∀ (y2 : Int) (P1 : hGM), hIn y2 → ((∀ (i : Nat) (k : Int), i < 100 → hIn (P1 i k)) → (hIn (169 + (10 * (P1 1 7))) ∧ ((y2 < (169 + (10 * (P1 1 7))) → ((0 ≤ (y2 + 10) ∧ (y2 + 10) < 273) ∧ ((0 ≤ y2 ∧ y2 < 273) ∧ (B20 (y2 + 1) (aset P1 1 y2 (P1 1 (y2 + 10))))))) ∧ (¬ y2 < (169 + (10 * (P1 1 7))) → (B68 (209 + (16 * sheet)) P1))))) → (B20 y2 P1)) 
  (r68 : ∀ (y2 : Int) (P1 : hGM), hIn y2 → ((∀ (i : Nat) (k : Int), i < 100 → hIn (P1 i k)) → (hIn (209 + (16 * (P1 1 7))) ∧ ((y2 < (209 + (16 * (P1 1 7))) → ((0 ≤ (y2 + 16) ∧ (y2 + 16) < 273) ∧ ((0 ≤ y2 ∧ y2 < 273) ∧ (B68 (y2 + 1) (aset P1 1 y2 (P1 1 (y2 + 16))))))) ∧ (¬ y2 < (209 + (16 * (P1 1 7))) → (Po P1))))) → (B68 y2 P1)) 
  (hpost : Po (m_X6_takesSheet P sheet)) : (hIn ((P 1 7) - 1) ∧ (B20 (169 + (10 * sheet)) (aset P 1 7 ((P 1 7) - 1)))) := by
  sorry
-- WANTING: X6_make over (P : hGM) (size : Int)
def p_X6_make (P : hGM) (size : Int) : Prop := True
def v_X6_make (P : hGM) (size : Int) : Int := 0
def m_X6_make (P : hGM) (size : Int) : hGM := P
set_option maxHeartbeats 4000000 in
theorem x_X6_make (P : hGM) (size : Int) (h_size : hIn size) (hRP : ∀ (i : Nat) (k : Int), i < 100 → hIn (P i k)) (hp : p_X6_make P size) (B94 : Int → Int → hGM → Prop) (Po : Int → hGM → Prop) 
  (r94 : ∀ (y3 : Int) (y4 : Int) (P1 : hGM), hIn y3 → hIn y4 → ((∀ (i : Nat) (k : Int), i < 100 → hIn (P1 i k)) → ((y4 < 8 → ((y4 < (P1 1 0) → (p_X6_lays P1 y4 size ∧ (p_X6_columns (m_X6_lays P1 y4 size) y4 size ∧ ((0 ≤ (((169 + (10 * y3)) + 2) + y4) ∧ (((169 + (10 * y3)) + 2) + y4) < 273) ∧ (p_X6_litHalf (aset (m_X6_lays P1 y4 size) 1 (((169 + (10 * y3)) + 2) + y4) (v_X6_columns (m_X6_lays P1 y4 size) y4 size)) y4 size 0 ∧ ((0 ≤ ((209 + (16 * y3)) + (2 * y4)) ∧ ((209 + (16 * y3)) + (2 * y4)) < 273) ∧ (p_X6_litHalf (aset (aset (m_X6_lays P1 y4 size) 1 (((169 + (10 * y3)) + 2) + y4) (v_X6_columns (m_X6_lays P1 y4 size) y4 size)) 1 ((209 + (16 * y3)) + (2 * y4)) (v_X6_litHalf (aset (m_X6_lays P1 y4 size) 1 (((169 + (10 * y3)) + 2) + y4) (v_X6_columns (m_X6_lays P1 y4 size) y4 size)) y4 size 0)) y4 size 1 ∧ ((0 ≤ (((209 + (16 * y3)) + (2 * y4)) + 1) ∧ (((209 + (16 * y3)) + (2 * y4)) + 1) < 273) ∧ (B94 y3 (y4 + 1) (aset (aset (aset (m_X6_lays P1 y4 size) 1 (((169 + (10 * y3)) + 2) + y4) (v_X6_columns (m_X6_lays P1 y4 size) y4 size)) 1 ((209 + (16 * y3)) + (2 * y4)) (v_X6_litHalf (aset (m_X6_lays P1 y4 size) 1 (((169 + (10 * y3)) + 2) + y4) (v_X6_columns (m_X6_lays P1 y4 size) y4 size)) y4 size 0)) 1 (((209 + (16 * y3)) + (2 * y4)) + 1) (v_X6_litHalf (aset (aset (m_X6_lays P1 y4 size) 1 (((169 + (10 * y3)) + 2) + y4) (v_X6_columns (m_X6_lays P1 y4 size) y4 size)) 1 ((209 + (16 * y3)) + (2 * y4)) (v_X6_litHalf (aset (m_X6_lays P1 y4 size) 1 (((169 + (10 * y3)) + 2) + y4) (v_X6_columns (m_X6_lays P1 y4 size) y4 size)) y4 size 0)) y4 size 1))))))))))) ∧ (¬ y4 < (P1 1 0) → ((0 ≤ (((169 + (10 * y3)) + 2) + y4) ∧ (((169 + (10 * y3)) + 2) + y4) < 273) ∧ ((0 ≤ ((209 + (16 * y3)) + (2 * y4)) ∧ ((209 + (16 * y3)) + (2 * y4)) < 273) ∧ ((0 ≤ (((209 + (16 * y3)) + (2 * y4)) + 1) ∧ (((209 + (16 * y3)) + (2 * y4)) + 1) < 273) ∧ (B94 y3 (y4 + 1) (aset (aset (aset P1 1 (((169 + (10 * y3)) + 2) + y4) 0) 1 ((209 + (16 * y3)) + (2 * y4)) 0) 1 (((209 + (16 * y3)) + (2 * y4)) + 1) 0)))))))) ∧ (¬ y4 < 8 → (hIn ((P1 1 7) + 1) ∧ (hIn (((aset P1 1 7 ((P1 1 7) + 1)) 1 8) + 1) ∧ (Po ((aset (aset P1 1 7 ((P1 1 7) + 1)) 1 8 (((aset P1 1 7 ((P1 1 7) + 1)) 1 8) + 1)) 1 7) (aset (aset P1 1 7 ((P1 1 7) + 1)) 1 8 (((aset P1 1 7 ((P1 1 7) + 1)) 1 8) + 1)))))))) → (B94 y3 y4 P1)) 
  (hpost : Po (v_X6_make P size) (m_X6_make P size)) : (((v_X6_isSize size) = 0 → (Po (-1000001) P)) ∧ (¬ (v_X6_isSize size) = 0 → (p_X6_changes P ∧ (p_X6_sheetAt (m_X6_changes P) size ∧ (((v_X6_sheetAt (m_X6_changes P) size) < 0 → ((((m_X6_changes P) 1 7) = 4 → (p_X6_takesSheet (m_X6_changes P) 0 ∧ ((0 ≤ (169 + (10 * ((m_X6_takesSheet (m_X6_changes P) 0) 1 7))) ∧ (169 + (10 * ((m_X6_takesSheet (m_X6_changes P) 0) 1 7))) < 273) ∧ ((0 ≤ ((169 + (10 * ((m_X6_takesSheet (m_X6_changes P) 0) 1 7))) + 1) ∧ ((169 + (10 * ((m_X6_takesSheet (m_X6_changes P) 0) 1 7))) + 1) < 273) ∧ (B94 ((m_X6_takesSheet (m_X6_changes P) 0) 1 7) 0 (aset (aset (m_X6_takesSheet (m_X6_changes P) 0) 1 (169 + (10 * ((m_X6_takesSheet (m_X6_changes P) 0) 1 7))) size) 1 ((169 + (10 * ((m_X6_takesSheet (m_X6_changes P) 0) 1 7))) + 1) ((aset (m_X6_takesSheet (m_X6_changes P) 0) 1 (169 + (10 * ((m_X6_takesSheet (m_X6_changes P) 0) 1 7))) size) 1 0))))))) ∧ (¬ ((m_X6_changes P) 1 7) = 4 → ((0 ≤ (169 + (10 * ((m_X6_changes P) 1 7))) ∧ (169 + (10 * ((m_X6_changes P) 1 7))) < 273) ∧ ((0 ≤ ((169 + (10 * ((m_X6_changes P) 1 7))) + 1) ∧ ((169 + (10 * ((m_X6_changes P) 1 7))) + 1) < 273) ∧ (B94 ((m_X6_changes P) 1 7) 0 (aset (aset (m_X6_changes P) 1 (169 + (10 * ((m_X6_changes P) 1 7))) size) 1 ((169 + (10 * ((m_X6_changes P) 1 7))) + 1) ((aset (m_X6_changes P) 1 (169 + (10 * ((m_X6_changes P) 1 7))) size) 1 0)))))))) ∧ (¬ (v_X6_sheetAt (m_X6_changes P) size) < 0 → (p_X6_takesSheet (m_X6_changes P) (v_X6_sheetAt (m_X6_changes P) size) ∧ ((0 ≤ (169 + (10 * ((m_X6_takesSheet (m_X6_changes P) (v_X6_sheetAt (m_X6_changes P) size)) 1 7))) ∧ (169 + (10 * ((m_X6_takesSheet (m_X6_changes P) (v_X6_sheetAt (m_X6_changes P) size)) 1 7))) < 273) ∧ ((0 ≤ ((169 + (10 * ((m_X6_takesSheet (m_X6_changes P) (v_X6_sheetAt (m_X6_changes P) size)) 1 7))) + 1) ∧ ((169 + (10 * ((m_X6_takesSheet (m_X6_changes P) (v_X6_sheetAt (m_X6_changes P) size)) 1 7))) + 1) < 273) ∧ (B94 ((m_X6_takesSheet (m_X6_changes P) (v_X6_sheetAt (m_X6_changes P) size)) 1 7) 0 (aset (aset (m_X6_takesSheet (m_X6_changes P) (v_X6_sheetAt (m_X6_changes P) size)) 1 (169 + (10 * ((m_X6_takesSheet (m_X6_changes P) (v_X6_sheetAt (m_X6_changes P) size)) 1 7))) size) 1 ((169 + (10 * ((m_X6_takesSheet (m_X6_changes P) (v_X6_sheetAt (m_X6_changes P) size)) 1 7))) + 1) ((aset (m_X6_takesSheet (m_X6_changes P) (v_X6_sheetAt (m_X6_changes P) size)) 1 (169 + (10 * ((m_X6_takesSheet (m_X6_changes P) (v_X6_sheetAt (m_X6_changes P) size)) 1 7))) size) 1 0)))))))))))) := by
  sorry
-- WANTING: X6_isStale over (P : hGM) (sheet : Int)
def p_X6_isStale (P : hGM) (sheet : Int) : Prop := True
def v_X6_isStale (P : hGM) (sheet : Int) : Int := 0
def m_X6_isStale (P : hGM) (sheet : Int) : hGM := P
set_option maxHeartbeats 4000000 in
theorem x_X6_isStale (P : hGM) (sheet : Int) (h_sheet : hIn sheet) (hRP : ∀ (i : Nat) (k : Int), i < 100 → hIn (P i k)) (hp : p_X6_isStale P sheet) (B31 : Int → Int → Int → hGM → Prop) (Po : Int → hGM → Prop) 
  (r31 : ∀ (y2 : Int) (y3 : Int) (y4 : Int) (P1 : hGM), hIn y2 → hIn y3 → hIn y4 → ((∀ (i : Nat) (k : Int), i < 100 → hIn (P1 i k)) → (p_X6_ofSheet P1 sheet 1 ∧ ((y4 < (v_X6_ofSheet P1 sheet 1) → (p_X6_lays P1 y4 y2 ∧ ((y3 = 0 → (hIn (2 + y4) ∧ (p_X6_ofSheet (m_X6_lays P1 y4 y2) sheet (2 + y4) ∧ (p_X6_columns (m_X6_lays P1 y4 y2) y4 y2 ∧ (((v_X6_ofSheet (m_X6_lays P1 y4 y2) sheet (2 + y4)) = (v_X6_columns (m_X6_lays P1 y4 y2) y4 y2) → ((0 ≤ ((209 + (16 * sheet)) + (2 * y4)) ∧ ((209 + (16 * sheet)) + (2 * y4)) < 273) ∧ (p_X6_litHalf (m_X6_lays P1 y4 y2) y4 y2 0 ∧ ((((m_X6_lays P1 y4 y2) 1 ((209 + (16 * sheet)) + (2 * y4))) = (v_X6_litHalf (m_X6_lays P1 y4 y2) y4 y2 0) → ((0 ≤ (((209 + (16 * sheet)) + (2 * y4)) + 1) ∧ (((209 + (16 * sheet)) + (2 * y4)) + 1) < 273) ∧ (p_X6_litHalf (m_X6_lays P1 y4 y2) y4 y2 1 ∧ ((((m_X6_lays P1 y4 y2) 1 (((209 + (16 * sheet)) + (2 * y4)) + 1)) = (v_X6_litHalf (m_X6_lays P1 y4 y2) y4 y2 1) → (B31 y2 0 (y4 + 1) (m_X6_lays P1 y4 y2))) ∧ (¬ ((m_X6_lays P1 y4 y2) 1 (((209 + (16 * sheet)) + (2 * y4)) + 1)) = (v_X6_litHalf (m_X6_lays P1 y4 y2) y4 y2 1) → (B31 y2 1 (y4 + 1) (m_X6_lays P1 y4 y2))))))) ∧ (¬ ((m_X6_lays P1 y4 y2) 1 ((209 + (16 * sheet)) + (2 * y4))) = (v_X6_litHalf (m_X6_lays P1 y4 y2) y4 y2 0) → (B31 y2 1 (y4 + 1) (m_X6_lays P1 y4 y2))))))) ∧ (¬ (v_X6_ofSheet (m_X6_lays P1 y4 y2) sheet (2 + y4)) = (v_X6_columns (m_X6_lays P1 y4 y2) y4 y2) → (B31 y2 1 (y4 + 1) (m_X6_lays P1 y4 y2)))))))) ∧ (¬ y3 = 0 → (B31 y2 1 (y4 + 1) (m_X6_lays P1 y4 y2)))))) ∧ (¬ y4 < (v_X6_ofSheet P1 sheet 1) → ((y3 = 0 ∨ y3 = 1) ∧ (Po y3 P1)))))) → (B31 y2 y3 y4 P1)) 
  (hpost : Po (v_X6_isStale P sheet) (m_X6_isStale P sheet)) : (p_X6_ofSheet P sheet 0 ∧ (p_X6_ofSheet P sheet 1 ∧ (((P 1 0) ≤ (v_X6_ofSheet P sheet 1) → (B31 (v_X6_ofSheet P sheet 0) 0 0 P)) ∧ (¬ (P 1 0) ≤ (v_X6_ofSheet P sheet 1) → (B31 (v_X6_ofSheet P sheet 0) 1 0 P))))) := by
  sorry
-- WANTING: X6_ones over (set : Int)
def p_X6_ones (set : Int) : Prop := True
def v_X6_ones (set : Int) : Int := 0
set_option maxHeartbeats 4000000 in
theorem x_X6_ones (set : Int) (h_set : hIn set) (hp : p_X6_ones set) (B4 : Int → Int → Prop) (Po : Int → Prop) 
  (r4 : ∀ (y1 : Int) (y2 : Int), hIn y1 → hIn y2 → (((y2 = 0 → (Po y1)) ∧ (¬ y2 = 0 → (B4 (y1 + 1) (iAnd y2 (y2 - 1)))))) → (B4 y1 y2)) 
  (hpost : Po (v_X6_ones set)) : (B4 0 set) := by
  sorry
-- WANTING: X6_litIn over (P : hGM) (sheet : Int)
def p_X6_litIn (P : hGM) (sheet : Int) : Prop := True
def v_X6_litIn (P : hGM) (sheet : Int) : Int := 0
set_option maxHeartbeats 4000000 in
theorem x_X6_litIn (P : hGM) (sheet : Int) (h_sheet : hIn sheet) (hRP : ∀ (i : Nat) (k : Int), i < 100 → hIn (P i k)) (hp : p_X6_litIn P sheet) (B4 : Int → Int → Prop) (Po : Int → Prop) 
  (r4 : ∀ (y2 : Int) (y3 : Int), hIn y2 → hIn y3 → (((y3 < 16 → ((0 ≤ ((209 + (16 * sheet)) + y3) ∧ ((209 + (16 * sheet)) + y3) < 273) ∧ (p_X6_ones (P 1 ((209 + (16 * sheet)) + y3)) ∧ (B4 (y2 + (v_X6_ones (P 1 ((209 + (16 * sheet)) + y3)))) (y3 + 1))))) ∧ (¬ y3 < 16 → (Po y2)))) → (B4 y2 y3)) 
  (hpost : Po (v_X6_litIn P sheet)) : (B4 0 0) := by
  sorry
def p_X6_set (P : hGM) (what : Int) (value : Int) : Prop := (((v_X6_in what 0 1) = 0 → True) ∧ (¬ (v_X6_in what 0 1) = 0 → ((what = 0 → (((v_X6_in value 0 100) = 0 → True) ∧ (¬ (v_X6_in value 0 100) = 0 → (p_X6_changes P ∧ ((0 ≤ (5 + what) ∧ (5 + what) < 273) ∧ True))))) ∧ (¬ what = 0 → (((v_X6_in value 0 3) = 0 → True) ∧ (¬ (v_X6_in value 0 3) = 0 → (p_X6_changes P ∧ ((0 ≤ (5 + what) ∧ (5 + what) < 273) ∧ True))))))))
def v_X6_set (P : hGM) (what : Int) (value : Int) : Int := (if (v_X6_in what 0 1) = 0 then (-1000001) else (if what = 0 then (if (v_X6_in value 0 100) = 0 then (-1000001) else ((m_X6_changes P) 1 (5 + what))) else (if (v_X6_in value 0 3) = 0 then (-1000001) else ((m_X6_changes P) 1 (5 + what)))))
def m_X6_set (P : hGM) (what : Int) (value : Int) : hGM := (if (v_X6_in what 0 1) = 0 then P else (if what = 0 then (if (v_X6_in value 0 100) = 0 then P else (aset (m_X6_changes P) 1 (5 + what) value)) else (if (v_X6_in value 0 3) = 0 then P else (aset (m_X6_changes P) 1 (5 + what) value))))
def p_X6_alike (P : hGM) (width : Int) : Prop := mNum (P 1)
def v_X6_alike (P : hGM) (width : Int) : Int := dbl (fun g k => if v_X6_hinted P g k = width then 1 else 0) (fun g => (v_X6_of P g 1).toNat) (P 1 0).toNat
set_option maxHeartbeats 4000000 in
theorem x_X6_alike (P : hGM) (width : Int) (h_width : hIn width) (hRP : ∀ (i : Nat) (k : Int), i < 100 → hIn (P i k)) (hp : p_X6_alike P width) (B4 : Int → Int → Prop) (B17 : Int → Int → Int → Prop) (Po : Int → Prop) 
  (r4 : ∀ (y2 : Int) (y3 : Int), hIn y2 → hIn y3 → (((y3 < (P 1 0) → (B17 y2 y3 0)) ∧ (¬ y3 < (P 1 0) → (Po y2)))) → (B4 y2 y3)) 
  (r17 : ∀ (y2 : Int) (y3 : Int) (y4 : Int), hIn y2 → hIn y3 → hIn y4 → ((p_X6_of P y3 1 ∧ ((y4 < (v_X6_of P y3 1) → (p_X6_hinted P y3 y4 ∧ (((v_X6_hinted P y3 y4) = width → (B17 (y2 + 1) y3 (y4 + 1))) ∧ (¬ (v_X6_hinted P y3 y4) = width → (B17 (y2 + 0) y3 (y4 + 1)))))) ∧ (¬ y4 < (v_X6_of P y3 1) → (B4 y2 (y3 + 1)))))) → (B17 y2 y3 y4)) 
  (hpost : Po (v_X6_alike P width)) : (B4 0 0) := by
  have hm : mNum (P 1) := hp
  have n0 := hm.1
  have e0 : (((P 1 0).toNat : Nat) : Int) = P 1 0 := Int.toNat_of_nonneg n0.1
  have em : ∀ g : Int, 0 ≤ g → g < 8 → (((v_X6_of P g 1).toNat : Nat) : Int) = v_X6_of P g 1 := fun g g0 g1 => Int.toNat_of_nonneg (of_bd hm g0 g1).1
  refine dblLoop (B1 := fun y g => B4 y g) (B2 := fun y g k => B17 y g k) (fun g k => if v_X6_hinted P g k = width then 1 else 0) (fun g => (v_X6_of P g 1).toNat) (P 1 0).toNat (c := 1) ?_ (by omega) (by decide) ?_ ?_ ?_ ?_ ?_
  · intro g g0 g1
    have := of_bd hm g0 (show g < 8 by omega)
    show (v_X6_of P g 1).toNat ≤ 6
    omega
  · intro g k _ _ _ _
    show 0 ≤ (if _ then (1 : Int) else 0) ∧ (if _ then (1 : Int) else 0) ≤ 1
    split <;> decide
  · intro g y g0 g1 hy h
    exact r4 _ _ ⟨by omega, by omega⟩ ⟨by omega, by omega⟩ ⟨fun _ => h, fun z => by omega⟩
  · intro y hy ey
    refine r4 _ _ ⟨by omega, by omega⟩ ⟨by omega, by omega⟩ ⟨fun z => by omega, fun _ => ?_⟩
    rw [ey]
    exact hpost
  · intro g k y g0 g1 k0 k1 hy h
    have e2 := em g g0 (by omega)
    have b2 := of_bd hm g0 (show g < 8 by omega)
    have k1 : k < (((v_X6_of P g 1).toNat : Nat) : Int) := k1
    have h : B17 (y + if v_X6_hinted P g k = width then 1 else 0) g (k + 1) := h
    refine r17 _ _ _ ⟨by omega, by omega⟩ ⟨by omega, by omega⟩ ⟨by omega, by omega⟩ ⟨of_p g0 (by omega) (by decide) (by decide), fun _ => ⟨mhin_p hm g0 (by omega) k0 (by omega), fun z => ?_, fun z => ?_⟩, fun z => by omega⟩
    · rw [if_pos z] at h; exact h
    · rw [if_neg z] at h; exact h
  · intro g y g0 g1 hy h
    have e2 := em g g0 (by omega)
    have b2 := of_bd hm g0 (show g < 8 by omega)
    show B17 y g (((v_X6_of P g 1).toNat : Nat) : Int)
    rw [e2]
    exact r17 _ _ _ ⟨by omega, by omega⟩ ⟨by omega, by omega⟩ ⟨by omega, by omega⟩ ⟨of_p g0 (by omega) (by decide) (by decide), fun z => by omega, fun _ => h⟩

/-! a font of the class and the model's row: what both tell -/
def RelF (A : hGM) (r : Int → Int) : Prop :=
  (A 0 0 = r 0 ∧ A 0 1 = r 1 ∧ A 0 2 = r 5 ∧ A 0 3 = r 6) ∧
  (∀ k : Int, 0 ≤ k → k < r 1 → A 6 k = r (2 + k) ∧ 1 ≤ A 6 k) ∧
  (∀ g : Int, 0 ≤ g → g < 8 → A 2 g = r (9 + 20 * g + 1) ∧ (g < r 0 → A 1 g = r (9 + 20 * g)) ∧ (r 0 ≤ g → A 2 g = 0)) ∧
  (∀ g k : Int, 0 ≤ g → g < 8 → 0 ≤ k → k < 6 → (k < A 2 g → (A 3 (g * 6 + k) = r (v_X6_at g k 0) ∧ A 4 (g * 6 + k) = r (v_X6_at g k 1) ∧ A 5 (g * 6 + k) = r (v_X6_at g k 2)) ∧ 1 ≤ A 4 (g * 6 + k) ∧ (k + 1 < A 2 g → A 3 (g * 6 + k) + A 4 (g * 6 + k) ≤ A 3 (g * 6 + (k + 1)))) ∧ (A 2 g ≤ k → A 4 (g * 6 + k) = 0))
def Rel0 (A : hGM) (r : Int → Int) : Prop := fNum A ∧ mNum r ∧ RelF A r
theorem rel_g {A : hGM} {r : Int → Int} (h : Rel0 A r) : A 0 0 = r 0 ∧ 0 ≤ A 0 0 ∧ A 0 0 ≤ 8 := ⟨h.2.2.1.1, h.1.1.1, h.1.1.2⟩
theorem rel_many {A : hGM} {r : Int → Int} (h : Rel0 A r) {g : Int} (g0 : 0 ≤ g) (g1 : g < 8) : A 2 g = r (9 + 20 * g + 1) ∧ 0 ≤ A 2 g ∧ A 2 g ≤ 6 ∧ (A 0 0 ≤ g → A 2 g = 0) := by
  have q := h.2.2.2.2.1 g g0 g1
  have e := h.2.2.1.1
  have b := (h.1.2.2.2.2.2.2 g g0 g1).2
  exact ⟨q.1, b.1, b.2, fun c => q.2.2 (by omega)⟩
theorem rel_of {A P : hGM} (h : Rel0 A (P 1)) {g : Int} (g0 : 0 ≤ g) (g1 : g < 8) : v_X6_of P g 1 = A 2 g := (rel_many h g0 g1).1.symm
theorem rel_stem {A : hGM} {r : Int → Int} (h : Rel0 A r) {g k : Int} (g0 : 0 ≤ g) (g1 : g < 8) (k0 : 0 ≤ k) (k1 : k < A 2 g) : (A 3 (g * 6 + k) = r (v_X6_at g k 0) ∧ A 4 (g * 6 + k) = r (v_X6_at g k 1) ∧ A 5 (g * 6 + k) = r (v_X6_at g k 2)) ∧ (0 ≤ A 3 (g * 6 + k) ∧ A 3 (g * 6 + k) ≤ 999) ∧ (1 ≤ A 4 (g * 6 + k) ∧ A 4 (g * 6 + k) ≤ 300) ∧ (0 ≤ A 5 (g * 6 + k) ∧ A 5 (g * 6 + k) ≤ 3) ∧ (k + 1 < A 2 g → A 3 (g * 6 + k) + A 4 (g * 6 + k) ≤ A 3 (g * 6 + (k + 1))) := by
  have b := rel_many h g0 g1
  have q := (h.2.2.2.2.2 g k g0 g1 k0 (by omega)).1 k1
  have n := h.1.2.2.2.2.2.1 (g * 6 + k) (by omega) (by omega)
  exact ⟨q.1, n.1, ⟨q.2.1, n.2.1.2⟩, n.2.2, q.2.2⟩
theorem rel_gap {A P : hGM} (h : Rel0 A (P 1)) : mGap P := by
  intro g k g0 g1 k0 k1
  rw [rel_of h g0 g1] at k1
  have q := rel_stem h g0 g1 k0 (by omega)
  have q2 := rel_stem h g0 g1 (k := k + 1) (by omega) k1
  unfold v_X6_endOf v_X6_ofStem
  rw [← q.1.1, ← q.1.2.1, ← q2.1.1]
  exact q.2.2.2.2 k1
/-! snapping -/
theorem snap_ind {A : hGM} {r : Int → Int} (h : Rel0 A r) (w : Int) (n : Nat) (hn : (n : Int) ≤ r 1) :
    ((snapG (A 6) (A 0 2) w n).1 = 0 ∧ (snapM (fun k => r (2 + k)) (r 5) w n).1 = -1000004 ∧ (snapG (A 6) (A 0 2) w n).2 = (snapM (fun k => r (2 + k)) (r 5) w n).2 + 1) ∨
    (1 ≤ (snapG (A 6) (A 0 2) w n).1 ∧ (snapM (fun k => r (2 + k)) (r 5) w n).1 = (snapG (A 6) (A 0 2) w n).1 ∧ (snapG (A 6) (A 0 2) w n).2 = (snapM (fun k => r (2 + k)) (r 5) w n).2) := by
  induction n with
  | zero => left; exact ⟨rfl, rfl, by show A 0 2 + 1 = r 5 + 1; rw [h.2.2.1.2.2.1]⟩
  | succ n ih =>
    have ih := ih (by omega)
    have q := h.2.2.2.1 n (by omega) (by omega)
    unfold snapG snapM
    rw [← q.1]
    generalize snapG (A 6) (A 0 2) w n = G at ih ⊢
    generalize snapM (fun k => r (2 + k)) (r 5) w n = M at ih ⊢
    rcases ih with ⟨i1, i2, i3⟩ | ⟨i1, i2, i3⟩
    · by_cases c : absI (A 6 n - w) < G.2
      · rw [if_pos c, if_pos (by omega), if_pos (by omega)]
        right; exact ⟨q.2, rfl, rfl⟩
      · rw [if_neg c, if_pos (by omega), if_neg (by omega)]
        left; exact ⟨i1, i2, i3⟩
    · by_cases c : absI (A 6 n - w) < G.2
      · rw [if_pos c, if_neg (by omega), if_pos (by omega)]
        right; exact ⟨q.2, rfl, rfl⟩
      · rw [if_neg c, if_neg (by omega), if_neg (by omega)]
        right; exact ⟨i1, i2, i3⟩
theorem snap_rel {A P : hGM} (h : Rel0 A (P 1)) (w : Int) : (v_X1_snapOf A w = 0 ∧ v_X6_snaps P w = -1000004) ∨ (1 ≤ v_X1_snapOf A w ∧ v_X6_snaps P w = v_X1_snapOf A w) := by
  have b := h.2.1.2.1
  have e := h.2.2.1.2.1
  have q := snap_ind h w (P 1 1).toNat (by omega)
  unfold v_X1_snapOf v_X6_snaps
  rw [e]
  rcases q with q | q
  · exact Or.inl ⟨q.1, q.2.1⟩
  · exact Or.inr ⟨q.1, q.2.1⟩
theorem hint_rel {A P : hGM} (h : Rel0 A (P 1)) (w : Int) : (if v_X6_snaps P w < 0 then w else v_X6_snaps P w) = v_X1_hintedWidth A w := by
  unfold v_X1_hintedWidth
  rcases snap_rel h w with ⟨a, b⟩ | ⟨a, b⟩
  · rw [a, b]; rfl
  · rw [b, if_neg (by omega), if_neg (by omega)]
theorem ofStem_rel {A P : hGM} (h : Rel0 A (P 1)) {g k : Int} (g0 : 0 ≤ g) (g1 : g < 8) (k0 : 0 ≤ k) (k1 : k < A 2 g) : v_X6_ofStem P g k 0 = A 3 (g * 6 + k) ∧ v_X6_ofStem P g k 1 = A 4 (g * 6 + k) ∧ v_X6_ofStem P g k 2 = A 5 (g * 6 + k) := by
  have q := rel_stem h g0 g1 k0 k1
  exact ⟨q.1.1.symm, q.1.2.1.symm, q.1.2.2.symm⟩
theorem hinted_rel {A P : hGM} (h : Rel0 A (P 1)) {g k : Int} (g0 : 0 ≤ g) (g1 : g < 8) (k0 : 0 ≤ k) (k1 : k < A 2 g) : v_X6_hinted P g k = v_X1_hintedWidth A (A 4 (g * 6 + k)) := by
  unfold v_X6_hinted
  rw [(ofStem_rel h g0 g1 k0 k1).2.1]
  exact hint_rel h _
theorem hintW_bd {A : hGM} (h : fNum A) {w : Int} (w0 : 0 ≤ w) (w1 : w ≤ 300) : 0 ≤ v_X1_hintedWidth A w ∧ v_X1_hintedWidth A w ≤ 300 := by
  have q := snapOf_bd h w0 (by omega)
  unfold v_X1_hintedWidth
  split <;> omega
theorem wideOf_eq (A : hGM) (w z : Int) : v_X1_wideOf A w z = v_J9_max_7cf53 1 (v_X5_inPixels (v_X1_hintedWidth A w) z) := by
  unfold v_X1_wideOf v_X1_hintedWidth
  split <;> rfl
theorem px_rel {u z : Int} (u0 : 0 ≤ u) (u1 : u ≤ 3000) (z0 : 0 ≤ z) (z1 : z ≤ 48) : v_X5_inPixels u z = v_X6_inPixels u z := by
  have m := mulbd (u := u) (z := z) (a := 0) (b := 3000) (by omega) (by omega) (by decide) (by decide) z0 z1
  rw [px_v ⟨by omega, by omega⟩]
  rfl
theorem wide_rel {A P : hGM} (h : Rel0 A (P 1)) {g k z : Int} (g0 : 0 ≤ g) (g1 : g < 8) (k0 : 0 ≤ k) (k1 : k < A 2 g) (z0 : 0 ≤ z) (z1 : z ≤ 48) : v_X6_pixelsOf P g k z = layW A g z k := by
  have q := rel_stem h g0 g1 k0 k1
  have b := hintW_bd h.1 (w := A 4 (g * 6 + k)) (by omega) (by omega)
  unfold v_X6_pixelsOf layW
  rw [hinted_rel h g0 g1 k0 k1, wideOf_eq, px_rel b.1 (by omega) z0 z1]
  unfold v_J9_max_7cf53
  generalize v_X6_inPixels _ _ = x
  by_cases c : x < 1
  · rw [if_pos c, if_neg (by omega)]
  · rw [if_neg c]
    split <;> omega
theorem columns_rel {A P : hGM} (h : Rel0 A (P 1)) {g z : Int} (g0 : 0 ≤ g) (g1 : g < A 0 0) (z0 : 0 ≤ z) (z1 : z ≤ 48) : v_X6_columns P g z = v_X0_columnsOf (A 1 g) z := by
  have n := rel_g h
  have q := (h.2.2.2.2.1 g g0 (by omega)).2.1 (by omega)
  have b := (h.1.2.2.2.2.2.2 g g0 (by omega)).1
  have e : v_X6_of P g 0 = A 1 g := by
    unfold v_X6_of
    rw [q, Int.add_zero]
  unfold v_X6_columns v_X0_columnsOf
  rw [e, px_rel b.1 (by omega) z0 z1]
  unfold v_J9_max_7cf53 v_J9_min_7cf53
  generalize v_X6_inPixels _ _ = x
  by_cases c : x < 1
  · rw [if_pos c, if_neg (show ¬ 64 ≤ x by omega)]
    split <;> omega
  · rw [if_neg c]
    by_cases c2 : x ≤ 64
    · rw [if_pos c2]
      by_cases c3 : 64 ≤ x
      · rw [if_pos c3, if_pos (by decide)]; omega
      · rw [if_neg c3]; split <;> omega
    · rw [if_neg c2, if_pos (show 64 ≤ x by omega), if_pos (by decide)]
theorem floor_v (x : Int) : v_X6_floor x 2 = x / 2 := by
  unfold v_X6_floor
  split <;> omega
/-- where the model rounds a stem -/
theorem round_rel {A P : hGM} (h : Rel0 A (P 1)) {g k z : Int} (g0 : 0 ≤ g) (g1 : g < 8) (k0 : 0 ≤ k) (k1 : k < A 2 g) (z0 : 0 ≤ z) (z1 : z ≤ 48) (hw : P 6 k = layW A g z k) : v_X6_rounded P g k z = if A 5 (g * 6 + k) = 3 ∧ 0 < k then P 5 (k - 1) + P 6 (k - 1) + v_J9_max_7cf53 (v_X5_inPixels (A 3 (g * 6 + k) - (A 3 (g * 6 + (k - 1)) + A 4 (g * 6 + (k - 1)))) z) (A 0 3) else v_X0_rounded A (g * 6 + k) z (layW A g z k) := by
  have q := rel_stem h g0 g1 k0 k1
  have m := rel_many h g0 g1
  have e := ofStem_rel h g0 g1 k0 k1
  have wb := layW_bd h.1 (g := g) (z := z) (k := k) g0 g1 k0 (by omega) z0 z1
  have c3 : v_X5_cell A 3 48 (g * 6 + k) = A 3 (g * 6 + k) := cell_in (by omega) (by omega)
  have c4 : v_X5_cell A 4 48 (g * 6 + k) = A 4 (g * 6 + k) := cell_in (by omega) (by omega)
  have c5 : v_X5_cell A 5 48 (g * 6 + k) = A 5 (g * 6 + k) := cell_in (by omega) (by omega)
  have p1 := px_rel (u := 2 * A 3 (g * 6 + k) + A 4 (g * 6 + k)) (z := z) (by omega) (by omega) z0 z1
  have p2 := px_rel (u := A 3 (g * 6 + k) + A 4 (g * 6 + k)) (z := z) (by omega) (by omega) z0 z1
  have p3 := px_rel (u := A 3 (g * 6 + k)) (z := z) (by omega) (by omega) z0 z1
  have pb := mpx_bd (v := 2 * A 3 (g * 6 + k) + A 4 (g * 6 + k)) (z := z) (by omega) (by omega) z0 z1
  unfold v_X6_rounded v_X0_rounded
  rw [e.1, e.2.1, e.2.2, c3, c4, c5, hw, p1, p2, p3]
  by_cases h1 : A 5 (g * 6 + k) = 1
  · rw [if_pos h1, if_neg (by omega), if_pos h1, floor_v, fdiv_v ⟨by omega, by omega⟩ ⟨by decide, by decide⟩ (by decide)]
  · rw [if_neg h1]
    by_cases h2 : A 5 (g * 6 + k) = 2
    · rw [if_pos h2, if_neg (by omega), if_neg h1, if_pos h2]
    · rw [if_neg h2]
      by_cases h3 : A 5 (g * 6 + k) = 3
      · rw [if_pos h3]
        by_cases hk : k ≤ 0
        · rw [if_pos hk, if_neg (by omega), if_neg h1, if_neg h2]
        · have q2 := rel_stem h g0 g1 (k := k - 1) (by omega) (by omega)
          have e2 := ofStem_rel h g0 g1 (k := k - 1) (by omega) (by omega)
          have gp := q2.2.2.2.2 (by omega)
          rw [show k - 1 + 1 = k by omega] at gp
          have p4 := px_rel (u := A 3 (g * 6 + k) - (A 3 (g * 6 + (k - 1)) + A 4 (g * 6 + (k - 1)))) (z := z) (by omega) (by omega) z0 z1
          have er : P 1 6 = A 0 3 := h.2.2.1.2.2.2.symm
          rw [if_neg hk, if_pos (show A 5 (g * 6 + k) = 3 ∧ 0 < k from ⟨h3, by omega⟩), show v_X6_endOf P g (k - 1) = A 3 (g * 6 + (k - 1)) + A 4 (g * 6 + (k - 1)) from by unfold v_X6_endOf; rw [e2.1, e2.2.1], p4, er]
          unfold v_J9_max_7cf53
          generalize v_X6_inPixels _ _ = x
          split <;> rfl
      · rw [if_neg h3, if_neg (by omega), if_neg h1, if_neg h2]

def p_X0_columnsOf (advance : Int) (size : Int) : Prop := (p_X5_inPixels advance size ∧ True)
def v_X0_columnsOf (advance : Int) (size : Int) : Int := (v_J9_max_7cf53 1 (v_J9_min_7cf53 64 (v_X5_inPixels advance size)))
def p_X0_rounded (A : hGM) (at1 : Int) (size : Int) (wide : Int) : Prop := (((v_X5_cell A 5 48 at1) = 1 → (hIn ((2 * (v_X5_cell A 3 48 at1)) + (v_X5_cell A 4 48 at1)) ∧ (p_X5_inPixels ((2 * (v_X5_cell A 3 48 at1)) + (v_X5_cell A 4 48 at1)) size ∧ (hIn ((v_X5_inPixels ((2 * (v_X5_cell A 3 48 at1)) + (v_X5_cell A 4 48 at1)) size) - wide) ∧ (p_J9_floorDiv_7cf53 ((v_X5_inPixels ((2 * (v_X5_cell A 3 48 at1)) + (v_X5_cell A 4 48 at1)) size) - wide) 2 ∧ True))))) ∧ (¬ (v_X5_cell A 5 48 at1) = 1 → (((v_X5_cell A 5 48 at1) = 2 → (hIn ((v_X5_cell A 3 48 at1) + (v_X5_cell A 4 48 at1)) ∧ (p_X5_inPixels ((v_X5_cell A 3 48 at1) + (v_X5_cell A 4 48 at1)) size ∧ (hIn ((v_X5_inPixels ((v_X5_cell A 3 48 at1) + (v_X5_cell A 4 48 at1)) size) - wide) ∧ True)))) ∧ (¬ (v_X5_cell A 5 48 at1) = 2 → (p_X5_inPixels (v_X5_cell A 3 48 at1) size ∧ True)))))
def v_X0_rounded (A : hGM) (at1 : Int) (size : Int) (wide : Int) : Int := (if (v_X5_cell A 5 48 at1) = 1 then (v_J9_floorDiv_7cf53 ((v_X5_inPixels ((2 * (v_X5_cell A 3 48 at1)) + (v_X5_cell A 4 48 at1)) size) - wide) 2) else (if (v_X5_cell A 5 48 at1) = 2 then ((v_X5_inPixels ((v_X5_cell A 3 48 at1) + (v_X5_cell A 4 48 at1)) size) - wide) else (v_X5_inPixels (v_X5_cell A 3 48 at1) size)))
-- AFTER
theorem rounded_p {A : hGM} {n z w : Int} (h : fNum A) (n0 : 0 ≤ n) (n1 : n < 48) (z0 : 0 ≤ z) (z1 : z ≤ 48) (w0 : 0 ≤ w) (w1 : w ≤ 100) : p_X0_rounded A n z w := by
  have q := h.2.2.2.2.2.1 n n0 n1
  have e3 : v_X5_cell A 3 48 n = A 3 n := cell_in n0 n1
  have e4 : v_X5_cell A 4 48 n = A 4 n := cell_in n0 n1
  have m1 := mulbd (u := 2 * A 3 n + A 4 n) (z := z) (a := 0) (b := 2300) (by omega) (by omega) (by decide) (by decide) z0 z1
  have m2 := mulbd (u := A 3 n + A 4 n) (z := z) (a := 0) (b := 1300) (by omega) (by omega) (by decide) (by decide) z0 z1
  have m3 := mulbd (u := A 3 n) (z := z) (a := 0) (b := 1300) (by omega) (by omega) (by decide) (by decide) z0 z1
  unfold p_X0_rounded
  rw [e3, e4]
  have v1 := px_v (u := 2 * A 3 n + A 4 n) (z := z) ⟨by omega, by omega⟩
  have v2 := px_v (u := A 3 n + A 4 n) (z := z) ⟨by omega, by omega⟩
  rw [v1, v2]
  refine ⟨fun _ => ⟨⟨by omega, by omega⟩, px_p ⟨by omega, by omega⟩, ⟨by omega, by omega⟩, fdiv_p ⟨by omega, by omega⟩ ⟨by decide, by decide⟩ (by decide), trivial⟩, fun _ => ⟨fun _ => ⟨⟨by omega, by omega⟩, px_p ⟨by omega, by omega⟩, ⟨by omega, by omega⟩, trivial⟩, fun _ => ⟨px_p ⟨by omega, by omega⟩, trivial⟩⟩⟩
theorem rounded_bd {A : hGM} {n z w : Int} (h : fNum A) (n0 : 0 ≤ n) (n1 : n < 48) (z0 : 0 ≤ z) (z1 : z ≤ 48) (w0 : 0 ≤ w) (w1 : w ≤ 100) : -100 ≤ v_X0_rounded A n z w ∧ v_X0_rounded A n z w ≤ 200 := by
  have q := h.2.2.2.2.2.1 n n0 n1
  have e3 : v_X5_cell A 3 48 n = A 3 n := cell_in n0 n1
  have e4 : v_X5_cell A 4 48 n = A 4 n := cell_in n0 n1
  have m1 := mulbd (u := 2 * A 3 n + A 4 n) (z := z) (a := 0) (b := 2300) (by omega) (by omega) (by decide) (by decide) z0 z1
  have m2 := mulbd (u := A 3 n + A 4 n) (z := z) (a := 0) (b := 1300) (by omega) (by omega) (by decide) (by decide) z0 z1
  have m3 := mulbd (u := A 3 n) (z := z) (a := 0) (b := 1300) (by omega) (by omega) (by decide) (by decide) z0 z1
  unfold v_X0_rounded
  rw [e3, e4]
  have v1 := px_v (u := 2 * A 3 n + A 4 n) (z := z) ⟨by omega, by omega⟩
  have v2 := px_v (u := A 3 n + A 4 n) (z := z) ⟨by omega, by omega⟩
  have v3 := px_v (u := A 3 n) (z := z) ⟨by omega, by omega⟩
  rw [v1, v2, v3, fdiv_v ⟨by omega, by omega⟩ ⟨by decide, by decide⟩ (by decide)]
  omega
theorem columns_p {a z : Int} (a0 : 0 ≤ a) (a1 : a ≤ 1500) (z0 : 0 ≤ z) (z1 : z ≤ 48) : p_X0_columnsOf a z := by
  have m1 := mulbd (u := a) (z := z) (a := 0) (b := 1500) a0 a1 (by decide) (by decide) z0 z1
  exact ⟨px_p ⟨by omega, by omega⟩, trivial⟩
theorem columns_bd (a z : Int) : 1 ≤ v_X0_columnsOf a z ∧ v_X0_columnsOf a z ≤ 64 := by
  unfold v_X0_columnsOf v_J9_max_7cf53 v_J9_min_7cf53
  omega
def p_X0_light (T : hGM) (stem : Int) (left : Int) (wide : Int) : Prop := (-100000 ≤ left ∧ left ≤ 100000) ∧ (0 ≤ wide ∧ wide ≤ 100000) ∧ (0 ≤ T 0 0 ∧ T 0 0 ≤ 64)
/-- columns from lo on are lit, n of them -/
def litUp (v lo : Int) : Nat → Int
  | 0 => v
  | n + 1 => jOr (litUp v lo n) (jShl 1 (lo + n))
/-- a stem's pixels are told, and whether it is cut -/
def lightT (T : hGM) (stem left wide : Int) : hGM := if left < 0 ∨ T 0 0 < left + wide then aset (m_X5_put (m_X5_put T 1 6 stem left) 2 6 stem wide) 0 2 (iOr (T 0 2) (iShl 1 stem)) else m_X5_put (m_X5_put T 1 6 stem left) 2 6 stem wide
def m_X0_light (T : hGM) (stem : Int) (left : Int) (wide : Int) : hGM := aset (lightT T stem left wide) 100 0 (litUp (T 100 0) (v_J9_max_7cf53 left 0) (v_J9_min_7cf53 (left + wide) (T 0 0) - v_J9_max_7cf53 left 0).toNat)
set_option maxHeartbeats 4000000 in
theorem x_X0_light (T : hGM) (stem : Int) (left : Int) (wide : Int) (h_stem : hIn stem) (h_left : hIn left) (h_wide : hIn wide) (hRT : ∀ (i : Nat) (k : Int), i < 100 → hIn (T i k)) (hp : p_X0_light T stem left wide) (B63 : Int → Int → hGM → Prop) (Po : hGM → Prop) 
  (r63 : ∀ (y4 : Int) (y5 : Int) (T1 : hGM), hIn y4 → hIn y5 → ((∀ (i : Nat) (k : Int), i < 100 → hIn (T1 i k)) → ((y5 < y4 → (B63 y4 (y5 + 1) (aset T1 100 0 (jOr (T1 100 0) (jShl 1 y5))))) ∧ (¬ y5 < y4 → (Po T1)))) → (B63 y4 y5 T1)) 
  (hpost : Po (m_X0_light T stem left wide)) : ((left < 0 → (hIn (left + wide) ∧ (B63 (v_J9_min_7cf53 (left + wide) ((aset (m_X5_put (m_X5_put T 1 6 stem left) 2 6 stem wide) 0 2 (iOr ((m_X5_put (m_X5_put T 1 6 stem left) 2 6 stem wide) 0 2) (iShl 1 stem))) 0 0)) (v_J9_max_7cf53 left 0) (aset (m_X5_put (m_X5_put T 1 6 stem left) 2 6 stem wide) 0 2 (iOr ((m_X5_put (m_X5_put T 1 6 stem left) 2 6 stem wide) 0 2) (iShl 1 stem)))))) ∧ (¬ left < 0 → (hIn (left + wide) ∧ (((left + wide) ≤ ((m_X5_put (m_X5_put T 1 6 stem left) 2 6 stem wide) 0 0) → (B63 (v_J9_min_7cf53 (left + wide) ((m_X5_put (m_X5_put T 1 6 stem left) 2 6 stem wide) 0 0)) (v_J9_max_7cf53 left 0) (m_X5_put (m_X5_put T 1 6 stem left) 2 6 stem wide))) ∧ (¬ (left + wide) ≤ ((m_X5_put (m_X5_put T 1 6 stem left) 2 6 stem wide) 0 0) → (B63 (v_J9_min_7cf53 (left + wide) ((aset (m_X5_put (m_X5_put T 1 6 stem left) 2 6 stem wide) 0 2 (iOr ((m_X5_put (m_X5_put T 1 6 stem left) 2 6 stem wide) 0 2) (iShl 1 stem))) 0 0)) (v_J9_max_7cf53 left 0) (aset (m_X5_put (m_X5_put T 1 6 stem left) 2 6 stem wide) 0 2 (iOr ((m_X5_put (m_X5_put T 1 6 stem left) 2 6 stem wide) 0 2) (iShl 1 stem))))))))) := by
  obtain ⟨q1, q2, q3⟩ := hp
  have r0 : ∀ i : Nat, i ≠ 1 → i ≠ 2 → (m_X5_put (m_X5_put T 1 6 stem left) 2 6 stem wide) i = T i := fun i h1 h2 => by rw [put_row h2, put_row h1]
  have e0 : (m_X5_put (m_X5_put T 1 6 stem left) 2 6 stem wide) 0 = T 0 := r0 0 (by decide) (by decide)
  have hb : ∀ L : hGM, L = lightT T stem left wide → L 0 0 = T 0 0 → L 100 0 = T 100 0 → B63 (v_J9_min_7cf53 (left + wide) (L 0 0)) (v_J9_max_7cf53 left 0) L := by
    intro L hL h00 h100
    rw [h00]
    unfold m_X0_light at hpost
    rw [← hL] at hpost
    have hm : v_J9_max_7cf53 left 0 = if left < 0 then 0 else left := rfl
    have hn : v_J9_min_7cf53 (left + wide) (T 0 0) = if left + wide ≤ T 0 0 then left + wide else T 0 0 := rfl
    have hm2 : 0 ≤ v_J9_max_7cf53 left 0 ∧ v_J9_max_7cf53 left 0 ≤ 100000 := by rw [hm]; omega
    have hn2 : -100000 ≤ v_J9_min_7cf53 (left + wide) (T 0 0) ∧ v_J9_min_7cf53 (left + wide) (T 0 0) ≤ 64 := by rw [hn]; omega
    generalize v_J9_max_7cf53 left 0 = lo at hpost hm2 ⊢
    generalize v_J9_min_7cf53 (left + wide) (T 0 0) = hi at hpost hn2 ⊢
    have key := upN (C := fun k => B63 hi (lo + (k : Int)) (aset L 100 0 (litUp (T 100 0) lo k))) (hi - lo).toNat
      (r63 _ _ _ ⟨by omega, by omega⟩ ⟨by omega, by omega⟩ (fun _ => ⟨fun z => by omega, fun _ => hpost⟩))
      (fun k hk h => r63 _ _ _ ⟨by omega, by omega⟩ ⟨by omega, by omega⟩ (fun _ => ⟨fun _ => by
        rw [aset_at, aset_aset, show lo + (k : Int) + 1 = lo + ((k + 1 : Nat) : Int) by omega]
        exact h, fun z => by omega⟩))
    have key : B63 hi (lo + ((0 : Nat) : Int)) (aset L 100 0 (T 100 0)) := key
    rw [← h100, aset_self, show lo + ((0 : Nat) : Int) = lo by omega] at key
    exact key
  have h1 : left < 0 ∨ T 0 0 < left + wide → B63 (v_J9_min_7cf53 (left + wide) ((aset (m_X5_put (m_X5_put T 1 6 stem left) 2 6 stem wide) 0 2 (iOr ((m_X5_put (m_X5_put T 1 6 stem left) 2 6 stem wide) 0 2) (iShl 1 stem))) 0 0)) (v_J9_max_7cf53 left 0) (aset (m_X5_put (m_X5_put T 1 6 stem left) 2 6 stem wide) 0 2 (iOr ((m_X5_put (m_X5_put T 1 6 stem left) 2 6 stem wide) 0 2) (iShl 1 stem))) := by
    intro z
    refine hb _ ?_ ?_ ?_
    · unfold lightT; rw [if_pos z, e0]
    · rw [aset_ne (by intro q; have := q.2; omega), e0]
    · rw [aset_row (by decide), r0 100 (by decide) (by decide)]
  refine ⟨fun c => ⟨⟨by omega, by omega⟩, h1 (Or.inl c)⟩, fun c => ⟨⟨by omega, by omega⟩, fun c2 => ?_, fun c2 => ?_⟩⟩
  · rw [e0] at c2
    refine hb _ ?_ ?_ ?_
    · unfold lightT; rw [if_neg (by omega)]
    · rw [e0]
    · rw [r0 100 (by decide) (by decide)]
  · rw [e0] at c2
    exact h1 (Or.inr (by omega))
def p_X0_lay (A : hGM) (T : hGM) (glyph : Int) (size : Int) : Prop := fNum A ∧ (0 ≤ glyph ∧ glyph < 8) ∧ (6 ≤ size ∧ size ≤ 48)
/-- a stem's pixels at a size -/
def layW (A : hGM) (g z k : Int) : Int := v_X1_wideOf A (A 4 (g * 6 + k)) z
/-- the gap in units ahead of a stem that is not the first -/
def layG (A : hGM) (g k : Int) : Int := A 3 (g * 6 + (k + 1)) - (A 3 (g * 6 + k) + A 4 (g * 6 + k))
/-- where a stem would lie, r behind the one to its left -/
def layR (A : hGM) (g z k r : Int) : Int := if A 5 (g * 6 + (k + 1)) = 3 then r + v_J9_max_7cf53 (v_X5_inPixels (layG A g k) z) (A 0 3) else v_X0_rounded A (g * 6 + (k + 1)) z (layW A g z (k + 1))
def layM (A : hGM) (g k r : Int) : Int := r + (if layG A g k ≤ 0 then 0 else 1)
/-- the left pixel of a stem -/
def layL (A : hGM) (g z : Int) : Nat → Int
  | 0 => v_X0_rounded A (g * 6 + 0) z (layW A g z 0)
  | k + 1 => if layR A g z k (layL A g z k + layW A g z k) < layM A g k (layL A g z k + layW A g z k) then layM A g k (layL A g z k + layW A g z k) else layR A g z k (layL A g z k + layW A g z k)
/-- whether a stem is pushed -/
def layP (A : hGM) (g z : Int) : Nat → Bool
  | 0 => false
  | k + 1 => decide (layR A g z k (layL A g z k + layW A g z k) < layM A g k (layL A g z k + layW A g z k))
/-- the fit when the first stems are laid -/
def layT (A : hGM) (T : hGM) (g z : Int) : Nat → hGM
  | 0 => aset (aset (aset (aset T 0 0 (v_X0_columnsOf (A 1 g) z)) 0 1 0) 0 2 0) 100 0 0
  | k + 1 => m_X0_light (if layP A g z k = true then aset (layT A T g z k) 0 1 (iOr (layT A T g z k 0 1) (iShl 1 k)) else layT A T g z k) k (layL A g z k) (layW A g z k)
def m_X0_lay (A : hGM) (T : hGM) (glyph : Int) (size : Int) : hGM := layT A T glyph size (A 2 glyph).toNat
theorem light_00 {T : hGM} {s l w : Int} : m_X0_light T s l w 0 0 = T 0 0 := by
  unfold m_X0_light
  rw [aset_row (by decide)]
  unfold lightT
  split
  · rw [aset_ne (by intro q; have := q.2; omega), put_row (by decide), put_row (by decide)]
  · rw [put_row (by decide), put_row (by decide)]
theorem layT_00 (A T : hGM) (g z : Int) (n : Nat) : layT A T g z n 0 0 = v_X0_columnsOf (A 1 g) z := by
  induction n with
  | zero =>
    unfold layT
    rw [aset_row (by decide), aset_ne (by intro q; have := q.2; omega), aset_ne (by intro q; have := q.2; omega), aset_at]
  | succ n ih =>
    unfold layT
    rw [light_00]
    split
    · rw [aset_ne (by intro q; have := q.2; omega)]; exact ih
    · exact ih
theorem layW_bd {A : hGM} (h : fNum A) {g z k : Int} (g0 : 0 ≤ g) (g1 : g < 8) (k0 : 0 ≤ k) (k1 : k < 6) (z0 : 0 ≤ z) (z1 : z ≤ 48) : 1 ≤ layW A g z k ∧ layW A g z k ≤ 100 := by
  have q := h.2.2.2.2.2.1 (g * 6 + k) (by omega) (by omega)
  exact wide_bd h q.2.1.1 q.2.1.2 z0 z1
theorem layRM_bd {A : hGM} (h : fNum A) {g z k r : Int} (g0 : 0 ≤ g) (g1 : g < 8) (k0 : 0 ≤ k) (k1 : k + 1 < 6) (z0 : 0 ≤ z) (z1 : z ≤ 48) (r0 : -100 ≤ r) (r1 : r ≤ 2000) : (-1000 ≤ layR A g z k r ∧ layR A g z k r ≤ r + 300 ∨ -1000 ≤ layR A g z k r ∧ layR A g z k r ≤ 200) ∧ (r ≤ layM A g k r ∧ layM A g k r ≤ r + 1) := by
  have q := h.2.2.2.2.2.1 (g * 6 + (k + 1)) (by omega) (by omega)
  have q2 := h.2.2.2.2.2.1 (g * 6 + k) (by omega) (by omega)
  have n3 := h.2.2.2.1
  have m := mulbd (u := layG A g k) (z := z) (a := -1300) (b := 1300) (by unfold layG; omega) (by unfold layG; omega) (by decide) (by decide) z0 z1
  have w := layW_bd h (k := k + 1) g0 g1 (by omega) (by omega) z0 z1
  have rb := rounded_bd h (n := g * 6 + (k + 1)) (z := z) (w := layW A g z (k + 1)) (by omega) (by omega) z0 z1 (by omega) (by omega)
  refine ⟨?_, by unfold layM; omega⟩
  unfold layR v_J9_max_7cf53
  rw [px_v ⟨by omega, by omega⟩]
  omega
theorem layL_bd {A : hGM} (h : fNum A) {g z : Int} (g0 : 0 ≤ g) (g1 : g < 8) (z0 : 0 ≤ z) (z1 : z ≤ 48) (k : Nat) (hk : k < 6) : -100 ≤ layL A g z k ∧ layL A g z k ≤ 200 + 401 * k := by
  have key : -100 ≤ layL A g z k ∧ layL A g z k ≤ 200 + 401 * k := by
    induction k with
    | zero =>
      have w := layW_bd h (k := 0) g0 g1 (by decide) (by decide) z0 z1
      have rb := rounded_bd h (n := g * 6 + 0) (z := z) (w := layW A g z 0) (by omega) (by omega) z0 z1 (by omega) (by omega)
      exact ⟨rb.1, by have := rb.2; show v_X0_rounded A (g * 6 + 0) z (layW A g z 0) ≤ _; omega⟩
    | succ k ih =>
      have ih := ih (by omega)
      have w := layW_bd h (k := k) g0 g1 (by omega) (by omega) z0 z1
      have rm := layRM_bd h (k := k) (r := layL A g z k + layW A g z k) g0 g1 (by omega) (by omega) z0 z1 (by omega) (by omega)
      have w2 := layW_bd h (k := (k : Int) + 1) g0 g1 (by omega) (by omega) z0 z1
      have rb := rounded_bd h (n := g * 6 + ((k : Int) + 1)) (z := z) (w := layW A g z (k + 1)) (by omega) (by omega) z0 z1 (by omega) (by omega)
      unfold layL
      split <;> omega
  exact key
set_option maxHeartbeats 4000000 in
theorem x_X0_lay (A : hGM) (T : hGM) (glyph : Int) (size : Int) (h_glyph : hIn glyph) (h_size : hIn size) (hRA : ∀ (i : Nat) (k : Int), i < 100 → hIn (A i k)) (hRT : ∀ (i : Nat) (k : Int), i < 100 → hIn (T i k)) (hp : p_X0_lay A T glyph size) (B50 : Int → Int → Int → Int → hGM → Prop) (B146 : Int → Int → Int → Int → Int → Int → Int → hGM → Prop) (B190 : Int → Int → Int → Int → Int → hGM → Prop) (Po : hGM → Prop) 
  (r50 : ∀ (y4 : Int) (y5 : Int) (y6 : Int) (y7 : Int) (T1 : hGM), hIn y4 → hIn y5 → hIn y6 → hIn y7 → ((∀ (i : Nat) (k : Int), i < 100 → hIn (T1 i k)) → ((y7 < y4 → (hIn ((glyph * 6) + y7) ∧ (p_X1_wideOf A (v_X5_cell A 4 48 ((glyph * 6) + y7)) size ∧ ((y7 ≤ 0 → (p_X0_rounded A ((glyph * 6) + y7) size (v_X1_wideOf A (v_X5_cell A 4 48 ((glyph * 6) + y7)) size) ∧ (B146 y4 y5 y7 ((glyph * 6) + y7) ((v_X5_cell A 3 48 ((glyph * 6) + y7)) - y6) (v_X1_wideOf A (v_X5_cell A 4 48 ((glyph * 6) + y7)) size) (v_X0_rounded A ((glyph * 6) + y7) size (v_X1_wideOf A (v_X5_cell A 4 48 ((glyph * 6) + y7)) size)) T1))) ∧ (¬ y7 ≤ 0 → (((v_X5_cell A 5 48 ((glyph * 6) + y7)) = 3 → (hIn ((v_X5_cell A 3 48 ((glyph * 6) + y7)) - y6) ∧ (p_X5_inPixels ((v_X5_cell A 3 48 ((glyph * 6) + y7)) - y6) size ∧ (B146 y4 y5 y7 ((glyph * 6) + y7) ((v_X5_cell A 3 48 ((glyph * 6) + y7)) - y6) (v_X1_wideOf A (v_X5_cell A 4 48 ((glyph * 6) + y7)) size) (y5 + (v_J9_max_7cf53 (v_X5_inPixels ((v_X5_cell A 3 48 ((glyph * 6) + y7)) - y6) size) (A 0 3))) T1)))) ∧ (¬ (v_X5_cell A 5 48 ((glyph * 6) + y7)) = 3 → (p_X0_rounded A ((glyph * 6) + y7) size (v_X1_wideOf A (v_X5_cell A 4 48 ((glyph * 6) + y7)) size) ∧ (B146 y4 y5 y7 ((glyph * 6) + y7) ((v_X5_cell A 3 48 ((glyph * 6) + y7)) - y6) (v_X1_wideOf A (v_X5_cell A 4 48 ((glyph * 6) + y7)) size) (v_X0_rounded A ((glyph * 6) + y7) size (v_X1_wideOf A (v_X5_cell A 4 48 ((glyph * 6) + y7)) size)) T1))))))))) ∧ (¬ y7 < y4 → (Po T1)))) → (B50 y4 y5 y6 y7 T1)) 
  (r146 : ∀ (y4 : Int) (y5 : Int) (y7 : Int) (y8 : Int) (y9 : Int) (y10 : Int) (y11 : Int) (T1 : hGM), hIn y4 → hIn y5 → hIn y7 → hIn y8 → hIn y9 → hIn y10 → hIn y11 → ((∀ (i : Nat) (k : Int), i < 100 → hIn (T1 i k)) → ((y9 ≤ 0 → ((y7 ≤ 0 → (B190 y4 y7 y8 y10 y11 T1)) ∧ (¬ y7 ≤ 0 → (hIn (y5 + 0) ∧ ((y11 < (y5 + 0) → (B190 y4 y7 y8 y10 (y5 + 0) (aset T1 0 1 (iOr (T1 0 1) (iShl 1 y7))))) ∧ (¬ y11 < (y5 + 0) → (B190 y4 y7 y8 y10 y11 T1))))))) ∧ (¬ y9 ≤ 0 → ((y7 ≤ 0 → (B190 y4 y7 y8 y10 y11 T1)) ∧ (¬ y7 ≤ 0 → (hIn (y5 + 1) ∧ ((y11 < (y5 + 1) → (B190 y4 y7 y8 y10 (y5 + 1) (aset T1 0 1 (iOr (T1 0 1) (iShl 1 y7))))) ∧ (¬ y11 < (y5 + 1) → (B190 y4 y7 y8 y10 y11 T1))))))))) → (B146 y4 y5 y7 y8 y9 y10 y11 T1)) 
  (r190 : ∀ (y4 : Int) (y7 : Int) (y8 : Int) (y10 : Int) (y11 : Int) (T1 : hGM), hIn y4 → hIn y7 → hIn y8 → hIn y10 → hIn y11 → ((∀ (i : Nat) (k : Int), i < 100 → hIn (T1 i k)) → (p_X0_light T1 y7 y11 y10 ∧ (p_X1_endOf A y8 ∧ (B50 y4 (y11 + y10) (v_X1_endOf A y8) (y7 + 1) (m_X0_light T1 y7 y11 y10))))) → (B190 y4 y7 y8 y10 y11 T1)) 
  (hpost : Po (m_X0_lay A T glyph size)) : (p_X0_columnsOf (v_X5_cell A 1 8 glyph) size ∧ (B50 (v_X5_cell A 2 8 glyph) 0 0 0 (aset (aset (aset (aset T 0 0 (v_X0_columnsOf (v_X5_cell A 1 8 glyph) size)) 0 1 0) 0 2 0) 100 0 0))) := by
  obtain ⟨hf, ⟨g0, g1⟩, z0, z1⟩ := hp
  have q6 := hf.2.2.2.2.2.2 glyph g0 g1
  have e : (((A 2 glyph).toNat : Nat) : Int) = A 2 glyph := Int.toNat_of_nonneg q6.2.1
  rw [cell_in g0 g1, cell_in g0 g1]
  refine ⟨columns_p q6.1.1 q6.1.2 (by omega) z1, ?_⟩
  have hlight : ∀ k : Nat, k < 6 → ∀ b : Bool, p_X0_light (if b = true then aset (layT A T glyph size k) 0 1 (iOr (layT A T glyph size k 0 1) (iShl 1 k)) else layT A T glyph size k) k (layL A glyph size k) (layW A glyph size k) := by
    intro k hk b
    have lb := layL_bd hf g0 g1 (z := size) (by omega) z1 k hk
    have w := layW_bd hf (z := size) (k := k) g0 g1 (by omega) (by omega) (by omega) z1
    have c := columns_bd (A 1 glyph) size
    have t := layT_00 A T glyph size k
    refine ⟨⟨by omega, by omega⟩, ⟨by omega, by omega⟩, ?_⟩
    split
    · rw [aset_ne (by intro q; have := q.2; omega), t]; omega
    · rw [t]; omega
  -- the right edge and the end of the stem ahead
  let rt : Nat → Int := fun k => match k with | 0 => 0 | k + 1 => layL A glyph size k + layW A glyph size k
  let en : Nat → Int := fun k => match k with | 0 => 0 | k + 1 => A 3 (glyph * 6 + k) + A 4 (glyph * 6 + k)
  have key : B50 (A 2 glyph) (rt 0) (en 0) ((0 : Nat) : Int) (layT A T glyph size 0) := by
    refine upN (C := fun k => B50 (A 2 glyph) (rt k) (en k) (k : Int) (layT A T glyph size k)) (A 2 glyph).toNat ?_ ?_
    · have hr : hIn (rt (A 2 glyph).toNat) ∧ hIn (en (A 2 glyph).toNat) := by
        cases hn : (A 2 glyph).toNat with
        | zero => exact ⟨hIn_0, hIn_0⟩
        | succ k =>
          have lb := layL_bd hf g0 g1 (z := size) (by omega) z1 k (by omega)
          have w := layW_bd hf (z := size) (k := k) g0 g1 (by omega) (by omega) (by omega) z1
          have q := hf.2.2.2.2.2.1 (glyph * 6 + k) (by omega) (by omega)
          exact ⟨⟨by show _ ≤ layL A glyph size k + layW A glyph size k; omega, by show layL A glyph size k + layW A glyph size k ≤ _; omega⟩, ⟨by show _ ≤ A 3 (glyph * 6 + k) + A 4 (glyph * 6 + k); omega, by show A 3 (glyph * 6 + k) + A 4 (glyph * 6 + k) ≤ _; omega⟩⟩
      exact r50 _ _ _ _ _ ⟨by omega, by omega⟩ hr.1 hr.2 ⟨by omega, by omega⟩ (fun _ => ⟨fun z => by omega, fun _ => hpost⟩)
    · intro k hk h
      have hk6 : k < 6 := by omega
      have q := hf.2.2.2.2.2.1 (glyph * 6 + k) (by omega) (by omega)
      have lb := layL_bd hf g0 g1 (z := size) (by omega) z1 k hk6
      have w := layW_bd hf (z := size) (k := k) g0 g1 (by omega) (by omega) (by omega) z1
      have ec3 : v_X5_cell A 3 48 (glyph * 6 + k) = A 3 (glyph * 6 + k) := cell_in (by omega) (by omega)
      have ec4 : v_X5_cell A 4 48 (glyph * 6 + k) = A 4 (glyph * 6 + k) := cell_in (by omega) (by omega)
      have ec5 : v_X5_cell A 5 48 (glyph * 6 + k) = A 5 (glyph * 6 + k) := cell_in (by omega) (by omega)
      have eend : v_X1_endOf A (glyph * 6 + k) = A 3 (glyph * 6 + k) + A 4 (glyph * 6 + k) := by unfold v_X1_endOf; rw [ec3, ec4]
      have pend : p_X1_endOf A (glyph * 6 + k) := by unfold p_X1_endOf; rw [ec3, ec4]; exact ⟨⟨by omega, by omega⟩, trivial⟩
      have hw : v_X1_wideOf A (A 4 (glyph * 6 + k)) size = layW A glyph size k := rfl
      have hwp : p_X1_wideOf A (A 4 (glyph * 6 + k)) size := wide_p hf q.2.1.1 q.2.1.2 (by omega) z1
      have hrp : p_X0_rounded A (glyph * 6 + k) size (layW A glyph size k) := rounded_p hf (by omega) (by omega) (by omega) z1 (by omega) (by omega)
      -- behind the push
      have h190 : B190 (A 2 glyph) (k : Int) (glyph * 6 + k) (layW A glyph size k) (layL A glyph size k) (if layP A glyph size k = true then aset (layT A T glyph size k) 0 1 (iOr (layT A T glyph size k 0 1) (iShl 1 k)) else layT A T glyph size k) := by
        refine r190 _ _ _ _ _ _ ⟨by omega, by omega⟩ ⟨by omega, by omega⟩ ⟨by omega, by omega⟩ ⟨by omega, by omega⟩ ⟨by omega, by omega⟩ (fun _ => ⟨hlight k hk6 _, pend, ?_⟩)
        rw [eend, show (k : Int) + 1 = ((k + 1 : Nat) : Int) by omega]
        exact h
      have hre : hIn (rt k) ∧ hIn (en k) := by
        cases k with
        | zero => exact ⟨hIn_0, hIn_0⟩
        | succ k =>
          have lb := layL_bd hf g0 g1 (z := size) (by omega) z1 k (by omega)
          have w := layW_bd hf (z := size) (k := k) g0 g1 (by omega) (by omega) (by omega) z1
          have q := hf.2.2.2.2.2.1 (glyph * 6 + k) (by omega) (by omega)
          exact ⟨⟨by show _ ≤ layL A glyph size k + layW A glyph size k; omega, by show layL A glyph size k + layW A glyph size k ≤ _; omega⟩, ⟨by show _ ≤ A 3 (glyph * 6 + k) + A 4 (glyph * 6 + k); omega, by show A 3 (glyph * 6 + k) + A 4 (glyph * 6 + k) ≤ _; omega⟩⟩
      refine r50 _ _ _ _ _ ⟨by omega, by omega⟩ hre.1 hre.2 ⟨by omega, by omega⟩ (fun _ => ⟨fun _ => ?_, fun z => by omega⟩)
      rw [ec3, ec4, ec5, hw]
      cases k with
      | zero =>
        refine ⟨⟨by omega, by omega⟩, hwp, fun _ => ⟨hrp, ?_⟩, fun z => absurd (show ((0 : Nat) : Int) ≤ 0 by decide) z⟩
        have h190 : B190 (A 2 glyph) ((0 : Nat) : Int) (glyph * 6 + ((0 : Nat) : Int)) (layW A glyph size ((0 : Nat) : Int)) (v_X0_rounded A (glyph * 6 + ((0 : Nat) : Int)) size (layW A glyph size ((0 : Nat) : Int))) (layT A T glyph size 0) := h190
        have lb0 : -100 ≤ v_X0_rounded A (glyph * 6 + ((0 : Nat) : Int)) size (layW A glyph size ((0 : Nat) : Int)) ∧ v_X0_rounded A (glyph * 6 + ((0 : Nat) : Int)) size (layW A glyph size ((0 : Nat) : Int)) ≤ 200 + 401 * ((0 : Nat) : Int) := lb
        refine r146 _ _ _ _ _ _ _ _ ⟨by omega, by omega⟩ hIn_0 ⟨by omega, by omega⟩ ⟨by omega, by omega⟩ ⟨by show _ ≤ A 3 (glyph * 6 + ((0 : Nat) : Int)) - 0; omega, by show A 3 (glyph * 6 + ((0 : Nat) : Int)) - 0 ≤ _; omega⟩ ⟨by omega, by omega⟩ ⟨by omega, by omega⟩ (fun _ => ⟨fun _ => ⟨fun _ => h190, fun z => absurd (show ((0 : Nat) : Int) ≤ 0 by decide) z⟩, fun _ => ⟨fun _ => h190, fun z => absurd (show ((0 : Nat) : Int) ≤ 0 by decide) z⟩⟩)
      | succ k =>
        have ek : ((k + 1 : Nat) : Int) = (k : Int) + 1 := rfl
        have hen : en (k + 1) = A 3 (glyph * 6 + k) + A 4 (glyph * 6 + k) := rfl
        have hrt : rt (k + 1) = layL A glyph size k + layW A glyph size k := rfl
        have hG : A 3 (glyph * 6 + ((k + 1 : Nat) : Int)) - en (k + 1) = layG A glyph k := rfl
        have lbk := layL_bd hf g0 g1 (z := size) (by omega) z1 k (by omega)
        have wk := layW_bd hf (z := size) (k := k) g0 g1 (by omega) (by omega) (by omega) z1
        have rm := layRM_bd hf (k := k) (z := size) (r := layL A glyph size k + layW A glyph size k) g0 g1 (by omega) (by omega) (by omega) z1 (by omega) (by omega)
        have qk := hf.2.2.2.2.2.1 (glyph * 6 + k) (by omega) (by omega)
        have hgb : -1300 ≤ layG A glyph k ∧ layG A glyph k ≤ 1300 := by
          have : layG A glyph k = A 3 (glyph * 6 + ((k + 1 : Nat) : Int)) - (A 3 (glyph * 6 + k) + A 4 (glyph * 6 + k)) := rfl
          omega
        have hpx : p_X5_inPixels (layG A glyph k) size := by
          have m := mulbd (u := layG A glyph k) (z := size) (a := -1300) (b := 1300) hgb.1 hgb.2 (by decide) (by decide) (by omega) z1
          exact px_p ⟨by omega, by omega⟩
        -- where the stem would lie: told, and pushed if need be
        have h146 : B146 (A 2 glyph) (rt (k + 1)) ((k + 1 : Nat) : Int) (glyph * 6 + ((k + 1 : Nat) : Int)) (layG A glyph k) (layW A glyph size ((k + 1 : Nat) : Int)) (layR A glyph size k (layL A glyph size k + layW A glyph size k)) (layT A T glyph size (k + 1)) := by
          have hpush : layR A glyph size k (layL A glyph size k + layW A glyph size k) < layM A glyph k (layL A glyph size k + layW A glyph size k) → B190 (A 2 glyph) ((k + 1 : Nat) : Int) (glyph * 6 + ((k + 1 : Nat) : Int)) (layW A glyph size ((k + 1 : Nat) : Int)) (layM A glyph k (layL A glyph size k + layW A glyph size k)) (aset (layT A T glyph size (k + 1)) 0 1 (iOr (layT A T glyph size (k + 1) 0 1) (iShl 1 ((k + 1 : Nat) : Int)))) := by
            intro z
            have e1 : layL A glyph size (k + 1) = layM A glyph k (layL A glyph size k + layW A glyph size k) := if_pos z
            have e2 : layP A glyph size (k + 1) = true := decide_eq_true z
            rw [e1, e2, if_pos rfl] at h190
            exact h190
          have hstay : ¬ layR A glyph size k (layL A glyph size k + layW A glyph size k) < layM A glyph k (layL A glyph size k + layW A glyph size k) → B190 (A 2 glyph) ((k + 1 : Nat) : Int) (glyph * 6 + ((k + 1 : Nat) : Int)) (layW A glyph size ((k + 1 : Nat) : Int)) (layR A glyph size k (layL A glyph size k + layW A glyph size k)) (layT A T glyph size (k + 1)) := by
            intro z
            have e1 : layL A glyph size (k + 1) = layR A glyph size k (layL A glyph size k + layW A glyph size k) := if_neg z
            have e2 : layP A glyph size (k + 1) = false := decide_eq_false z
            rw [e1, e2, if_neg (by decide)] at h190
            exact h190
          have hM0 : layG A glyph k ≤ 0 → layM A glyph k (layL A glyph size k + layW A glyph size k) = layL A glyph size k + layW A glyph size k + 0 := fun z => by unfold layM; rw [if_pos z]
          have hM1 : ¬ layG A glyph k ≤ 0 → layM A glyph k (layL A glyph size k + layW A glyph size k) = layL A glyph size k + layW A glyph size k + 1 := fun z => by unfold layM; rw [if_neg z]
          rw [hrt]
          refine r146 _ _ _ _ _ _ _ _ ⟨by omega, by omega⟩ ⟨by omega, by omega⟩ ⟨by omega, by omega⟩ ⟨by omega, by omega⟩ ⟨by omega, by omega⟩ ⟨by omega, by omega⟩ ⟨by omega, by omega⟩ (fun _ => ⟨fun c => ⟨fun z => absurd z (by omega), fun _ => ⟨⟨by omega, by omega⟩, ?_⟩⟩, fun c => ⟨fun z => absurd z (by omega), fun _ => ⟨⟨by omega, by omega⟩, ?_⟩⟩⟩)
          · rw [← hM0 c]; exact ⟨hpush, hstay⟩
          · rw [← hM1 c]; exact ⟨hpush, hstay⟩
        rw [hG]
        refine ⟨⟨by omega, by omega⟩, hwp, fun z => absurd z (by omega), fun _ => ⟨fun c => ⟨⟨by omega, by omega⟩, hpx, ?_⟩, fun c => ⟨hrp, ?_⟩⟩⟩
        · have e : layR A glyph size k (layL A glyph size k + layW A glyph size k) = rt (k + 1) + v_J9_max_7cf53 (v_X5_inPixels (layG A glyph k) size) (A 0 3) := if_pos c
          rw [← e]; exact h146
        · have e : layR A glyph size k (layL A glyph size k + layW A glyph size k) = v_X0_rounded A (glyph * 6 + ((k + 1 : Nat) : Int)) size (layW A glyph size ((k + 1 : Nat) : Int)) := if_neg c
          rw [← e]; exact h146
  exact key
def p_X1_makeSheet (A : hGM) (T : hGM) (size : Int) : Prop := fNum A ∧ (0 ≤ A 7 0 ∧ A 7 0 ≤ 1000000)
/-- the font and the fit when the first glyphs of a sheet are kept -/
def mkS (A : hGM) (T : hGM) (size slot : Int) : Nat → hGM × hGM
  | 0 => (m_X4_begin A slot size (A 0 0), T)
  | n + 1 => (m_X4_keep (mkS A T size slot n).1 (slot * 8 + n) ((m_X0_lay (mkS A T size slot n).1 (mkS A T size slot n).2 n size) 0 0) ((m_X0_lay (mkS A T size slot n).1 (mkS A T size slot n).2 n size) 100 0), m_X0_lay (mkS A T size slot n).1 (mkS A T size slot n).2 n size)
def v_X1_makeSheet (A : hGM) (T : hGM) (size : Int) : Int := if v_X5_isSize size = 0 then -1000001 else v_X4_held (mkS A T size (v_X4_slotToMake A size) (A 0 0).toNat).1
def mA_X1_makeSheet (A : hGM) (T : hGM) (size : Int) : hGM := if v_X5_isSize size = 0 then A else (mkS A T size (v_X4_slotToMake A size) (A 0 0).toNat).1
def mT_X1_makeSheet (A : hGM) (T : hGM) (size : Int) : hGM := if v_X5_isSize size = 0 then T else (mkS A T size (v_X4_slotToMake A size) (A 0 0).toNat).2
theorem keep_row {A : hGM} {n c l : Int} {i : Nat} (h1 : i ≠ 11) (h2 : i ≠ 112) : m_X4_keep A n c l i = A i := by
  unfold m_X4_keep
  split
  · exact put_row h1
  · split
    · rw [aset_row h2]; exact put_row h1
    · exact put_row h1
theorem begin_row {A : hGM} {s z c : Int} {i : Nat} (h : i < 7) : m_X4_begin A s z c i = A i := by
  unfold m_X4_begin
  rw [put_row (by omega), put_row (by omega), put_row (by omega), aset_row (by omega)]
theorem mkS_row (A T : hGM) (z s : Int) (n : Nat) {i : Nat} (h : i < 7) : (mkS A T z s n).1 i = A i := by
  induction n with
  | zero => exact begin_row h
  | succ n ih =>
    exact (keep_row (by omega) (by omega)).trans ih
theorem fNum_of {A A1 : hGM} (h : fNum A) (e : ∀ i : Nat, i < 7 → A1 i = A i) : fNum A1 := by
  unfold fNum at *
  rw [e 0 (by decide), e 1 (by decide), e 2 (by decide), e 3 (by decide), e 4 (by decide), e 5 (by decide), e 6 (by decide)]
  exact h
theorem slotOf_bd (A : hGM) (z : Int) : v_X4_slotOf A z < 4 := by
  rcases firstN_spec (fun k => decide (¬ v_X4_isMade A k = 0 ∧ v_X5_cell A 9 4 k = z)) 4 with h | h
  · unfold v_X4_slotOf; omega
  · unfold v_X4_slotOf; omega
theorem leastAt_lt (f : Int → Int) (n : Nat) : leastAt f (n + 1) < (n + 1 : Nat) := by
  induction n with
  | zero => unfold leastAt leastAt; split <;> omega
  | succ n ih =>
    show (if f ((n + 1 : Nat) : Int) < f (leastAt f (n + 1)) then ((n + 1 : Nat) : Int) else leastAt f (n + 1)) < _
    split <;> omega
theorem slotToMake_bd (A : hGM) (z : Int) : 0 ≤ v_X4_slotToMake A z ∧ v_X4_slotToMake A z < 4 := by
  unfold v_X4_slotToMake
  split
  · have b := leastAt_bd (fun k => v_X5_cell A 8 4 k) 4
    have c := leastAt_lt (fun k => v_X5_cell A 8 4 k) 3
    exact ⟨b.1, c⟩
  · have := slotOf_bd A z
    omega
set_option maxHeartbeats 4000000 in
theorem x_X1_makeSheet (A : hGM) (T : hGM) (size : Int) (h_size : hIn size) (hRA : ∀ (i : Nat) (k : Int), i < 100 → hIn (A i k)) (hRT : ∀ (i : Nat) (k : Int), i < 100 → hIn (T i k)) (hp : p_X1_makeSheet A T size) (B35 : Int → Int → hGM → hGM → Prop) (Po : Int → hGM → hGM → Prop) 
  (r35 : ∀ (y3 : Int) (y4 : Int) (A1 : hGM) (T1 : hGM), hIn y3 → hIn y4 → ((∀ (i : Nat) (k : Int), i < 100 → hIn (A1 i k)) → (∀ (i : Nat) (k : Int), i < 100 → hIn (T1 i k)) → ((y4 < (A1 0 0) → (p_X0_lay A1 T1 y4 size ∧ (hIn ((y3 * 8) + y4) ∧ (B35 y3 (y4 + 1) (m_X4_keep A1 ((y3 * 8) + y4) ((m_X0_lay A1 T1 y4 size) 0 0) ((m_X0_lay A1 T1 y4 size) 100 0)) (m_X0_lay A1 T1 y4 size))))) ∧ (¬ y4 < (A1 0 0) → (p_X4_held A1 ∧ (Po (v_X4_held A1) A1 T1))))) → (B35 y3 y4 A1 T1)) 
  (hpost : Po (v_X1_makeSheet A T size) (mA_X1_makeSheet A T size) (mT_X1_makeSheet A T size)) : (((v_X5_isSize size) = 0 → (Po (-1000001) A T)) ∧ (¬ (v_X5_isSize size) = 0 → (p_X4_slotToMake A size ∧ (p_X4_begin A (v_X4_slotToMake A size) size (A 0 0) ∧ (B35 (v_X4_slotToMake A size) 0 (m_X4_begin A (v_X4_slotToMake A size) size (A 0 0)) T))))) := by
  obtain ⟨hf, m0, m1⟩ := hp
  unfold v_X1_makeSheet mA_X1_makeSheet mT_X1_makeSheet at hpost
  refine ⟨fun c => ?_, fun c => ⟨trivial, ⟨⟨by omega, by omega⟩, trivial⟩, ?_⟩⟩
  · rw [if_pos c, if_pos c, if_pos c] at hpost; exact hpost
  · rw [if_neg c, if_neg c, if_neg c] at hpost
    have sz : 6 ≤ size ∧ size ≤ 48 := Decidable.not_not.mp (fun z => c (within_0.mpr z))
    have sb := slotToMake_bd A size
    generalize v_X4_slotToMake A size = slot at hpost sb ⊢
    have n0 := hf.1
    have e : (((A 0 0).toNat : Nat) : Int) = A 0 0 := Int.toNat_of_nonneg n0.1
    refine upN (C := fun k => B35 slot (k : Int) (mkS A T size slot k).1 (mkS A T size slot k).2) (A 0 0).toNat ?_ ?_
    · refine r35 _ _ _ _ ⟨by omega, by omega⟩ ⟨by omega, by omega⟩ (fun _ _ => ⟨fun z => ?_, fun _ => ⟨trivial, hpost⟩⟩)
      rw [mkS_row A T size slot _ (by decide)] at z
      omega
    · intro k hk h
      have hr := mkS_row A T size slot k (i := 0) (by decide)
      refine r35 _ _ _ _ ⟨by omega, by omega⟩ ⟨by omega, by omega⟩ (fun _ _ => ⟨fun _ => ⟨⟨fNum_of hf (fun i hi => mkS_row A T size slot k hi), ⟨by omega, by omega⟩, sz⟩, ⟨by omega, by omega⟩, h⟩, fun z => ?_⟩)
      rw [hr] at z
      omega
def p_X1_isStale (A : hGM) (T : hGM) (slot : Int) : Prop := fNum A ∧ (0 ≤ slot ∧ slot < 4) ∧ (A 10 slot = A 0 0 → 6 ≤ A 9 slot ∧ A 9 slot ≤ 48)
/-- the fit when the first glyphs are laid again -/
def stT (A : hGM) (T : hGM) (z : Int) : Nat → hGM
  | 0 => T
  | n + 1 => m_X0_lay A (stT A T z n) n z
def stBad (A : hGM) (T : hGM) (slot k : Int) : Bool := decide (¬ ((m_X0_lay A (stT A T (A 9 slot) k.toNat) k (A 9 slot)) 0 0 = A 11 (slot * 8 + k) ∧ jCmp ((m_X0_lay A (stT A T (A 9 slot) k.toNat) k (A 9 slot)) 100 0) (A 112 (slot * 8 + k)) = 0))
def v_X1_isStale (A : hGM) (T : hGM) (slot : Int) : Int := if A 10 slot = A 0 0 then (if firstN (stBad A T slot) (A 0 0).toNat = -1 then 0 else 1) else 1
def m_X1_isStale (A : hGM) (T : hGM) (slot : Int) : hGM := if A 10 slot = A 0 0 then (if firstN (stBad A T slot) (A 0 0).toNat = -1 then stT A T (A 9 slot) (A 0 0).toNat else stT A T (A 9 slot) ((firstN (stBad A T slot) (A 0 0).toNat).toNat + 1)) else T
theorem z_X1_isStale (A : hGM) (T : hGM) (slot : Int) : v_X1_isStale A T slot = 0 ∨ v_X1_isStale A T slot = 1 := by
  unfold v_X1_isStale
  split
  · split
    · exact Or.inl rfl
    · exact Or.inr rfl
  · exact Or.inr rfl
theorem litAt_in {A : hGM} {k : Int} (h0 : 0 ≤ k) (h1 : k < 32) : v_X4_litAt A k = A 112 k := by
  unfold v_X4_litAt
  rw [if_neg (by omega), if_pos h1]
set_option maxHeartbeats 4000000 in
theorem x_X1_isStale (A : hGM) (T : hGM) (slot : Int) (h_slot : hIn slot) (hRA : ∀ (i : Nat) (k : Int), i < 100 → hIn (A i k)) (hRT : ∀ (i : Nat) (k : Int), i < 100 → hIn (T i k)) (hp : p_X1_isStale A T slot) (B25 : Int → Int → hGM → Prop) (Po : Int → hGM → Prop) 
  (r25 : ∀ (y3 : Int) (y4 : Int) (T1 : hGM), hIn y3 → hIn y4 → ((∀ (i : Nat) (k : Int), i < 100 → hIn (T1 i k)) → ((y4 < y3 → (p_X0_lay A T1 y4 (v_X5_cell A 9 4 slot) ∧ (hIn ((slot * 8) + y4) ∧ ((((m_X0_lay A T1 y4 (v_X5_cell A 9 4 slot)) 0 0) = (v_X5_cell A 11 32 ((slot * 8) + y4)) → (((jCmp ((m_X0_lay A T1 y4 (v_X5_cell A 9 4 slot)) 100 0) (v_X4_litAt A ((slot * 8) + y4))) = 0 → (B25 y3 (y4 + 1) (m_X0_lay A T1 y4 (v_X5_cell A 9 4 slot)))) ∧ (¬ (jCmp ((m_X0_lay A T1 y4 (v_X5_cell A 9 4 slot)) 100 0) (v_X4_litAt A ((slot * 8) + y4))) = 0 → (Po 1 (m_X0_lay A T1 y4 (v_X5_cell A 9 4 slot)))))) ∧ (¬ ((m_X0_lay A T1 y4 (v_X5_cell A 9 4 slot)) 0 0) = (v_X5_cell A 11 32 ((slot * 8) + y4)) → (Po 1 (m_X0_lay A T1 y4 (v_X5_cell A 9 4 slot)))))))) ∧ (¬ y4 < y3 → (Po 0 T1)))) → (B25 y3 y4 T1)) 
  (hpost : Po (v_X1_isStale A T slot) (m_X1_isStale A T slot)) : (((v_X5_cell A 10 4 slot) = (A 0 0) → (B25 (v_X5_cell A 10 4 slot) 0 T)) ∧ (¬ (v_X5_cell A 10 4 slot) = (A 0 0) → (Po 1 T))) := by
  obtain ⟨hf, ⟨s0, s1⟩, hz⟩ := hp
  have n0 := hf.1
  rw [show v_X5_cell A 10 4 slot = A 10 slot from cell_in s0 s1]
  unfold v_X1_isStale m_X1_isStale at hpost
  refine ⟨fun c => ?_, fun c => ?_⟩
  · rw [if_pos c, if_pos c] at hpost
    obtain ⟨z0, z1⟩ := hz c
    rw [c]
    have e : (((A 0 0).toNat : Nat) : Int) = A 0 0 := Int.toNat_of_nonneg n0.1
    have ez : v_X5_cell A 9 4 slot = A 9 slot := cell_in s0 s1
    have body : ∀ k : Int, 0 ≤ k → k < A 0 0 → (stBad A T slot k = true → Po 1 (stT A T (A 9 slot) (k.toNat + 1)) → B25 (A 0 0) k (stT A T (A 9 slot) k.toNat)) ∧ (stBad A T slot k = false → B25 (A 0 0) (k + 1) (stT A T (A 9 slot) (k.toNat + 1)) → B25 (A 0 0) k (stT A T (A 9 slot) k.toNat)) := by
      intro k h0 h1
      have ek : ((k.toNat : Nat) : Int) = k := Int.toNat_of_nonneg h0
      have es : stT A T (A 9 slot) (k.toNat + 1) = m_X0_lay A (stT A T (A 9 slot) k.toNat) k (A 9 slot) := by
        show m_X0_lay A (stT A T (A 9 slot) k.toNat) ((k.toNat : Nat) : Int) (A 9 slot) = _
        rw [ek]
      have ec : v_X5_cell A 11 32 (slot * 8 + k) = A 11 (slot * 8 + k) := cell_in (by omega) (by omega)
      have el : v_X4_litAt A (slot * 8 + k) = A 112 (slot * 8 + k) := litAt_in (by omega) (by omega)
      rw [es]
      refine ⟨fun hb hp => ?_, fun hb hp => ?_⟩
      · have hb := of_decide_eq_true hb
        refine r25 _ _ _ ⟨by omega, by omega⟩ ⟨by omega, by omega⟩ (fun _ => ⟨fun _ => ?_, fun z => by omega⟩)
        rw [ez, ec, el]
        exact ⟨⟨hf, ⟨h0, by omega⟩, z0, z1⟩, ⟨by omega, by omega⟩, fun c1 => ⟨fun c2 => absurd ⟨c1, c2⟩ hb, fun _ => hp⟩, fun _ => hp⟩
      · have hb := Decidable.not_not.mp (of_decide_eq_false hb)
        refine r25 _ _ _ ⟨by omega, by omega⟩ ⟨by omega, by omega⟩ (fun _ => ⟨fun _ => ?_, fun z => by omega⟩)
        rw [ez, ec, el]
        exact ⟨⟨hf, ⟨h0, by omega⟩, z0, z1⟩, ⟨by omega, by omega⟩, fun c1 => ⟨fun _ => hp, fun c2 => absurd hb.2 c2⟩, fun c1 => absurd hb.1 c1⟩
    refine firstLoop (B := fun k => B25 (A 0 0) k (stT A T (A 9 slot) k.toNat)) (Po := fun r => Po (if r = -1 then 0 else 1) (if r = -1 then stT A T (A 9 slot) (A 0 0).toNat else stT A T (A 9 slot) (r.toNat + 1))) (stBad A T slot) (A 0 0).toNat (fun k h0 h1 hk hp => ?_) (fun k h0 h1 hk hb2 => ?_) (fun hp => ?_) hpost
    · have hp : Po (if k = -1 then 0 else 1) (if k = -1 then stT A T (A 9 slot) (A 0 0).toNat else stT A T (A 9 slot) (k.toNat + 1)) := hp
      rw [if_neg (by omega), if_neg (by omega)] at hp
      exact (body k h0 (by omega)).1 hk hp
    · have hb2 : B25 (A 0 0) (k + 1) (stT A T (A 9 slot) (k + 1).toNat) := hb2
      rw [show (k + 1).toNat = k.toNat + 1 by omega] at hb2
      exact (body k h0 (by omega)).2 hk hb2
    · have hp : Po (if (-1 : Int) = -1 then 0 else 1) (if (-1 : Int) = -1 then stT A T (A 9 slot) (A 0 0).toNat else stT A T (A 9 slot) ((-1 : Int).toNat + 1)) := hp
      rw [if_pos rfl, if_pos rfl] at hp
      show B25 (A 0 0) (((A 0 0).toNat : Nat) : Int) (stT A T (A 9 slot) ((((A 0 0).toNat : Nat) : Int)).toNat)
      rw [show ((((A 0 0).toNat : Nat) : Int)).toNat = (A 0 0).toNat by omega]
      exact r25 _ _ _ ⟨by omega, by omega⟩ ⟨by omega, by omega⟩ (fun _ => ⟨fun z => by omega, fun _ => hp⟩)
  · rw [if_neg c, if_neg c] at hpost; exact hpost

def p_X6_stemOf (P : hGM) (glyph : Int) (stem : Int) (what : Int) : Prop := (p_X6_isStem P glyph stem ∧ (((v_X6_isStem P glyph stem) = 0 → True) ∧ (¬ (v_X6_isStem P glyph stem) = 0 → (((v_X6_in what 0 6) = 0 → True) ∧ (¬ (v_X6_in what 0 6) = 0 → ((what = 3 → (p_X6_hinted P glyph stem ∧ True)) ∧ (¬ what = 3 → ((what = 4 → (p_X6_ofStem P glyph stem 1 ∧ (p_X6_snaps P (v_X6_ofStem P glyph stem 1) ∧ True))) ∧ (¬ what = 4 → ((what = 5 → (p_X6_hinted P glyph stem ∧ (p_X6_alike P (v_X6_hinted P glyph stem) ∧ True))) ∧ (¬ what = 5 → ((what = 6 → ((stem = 0 → True) ∧ (¬ stem = 0 → (p_X6_ofStem P glyph stem 0 ∧ (hIn (stem - 1) ∧ (p_X6_endOf P glyph (stem - 1) ∧ (hIn ((v_X6_ofStem P glyph stem 0) - (v_X6_endOf P glyph (stem - 1))) ∧ True))))))) ∧ (¬ what = 6 → (p_X6_ofStem P glyph stem what ∧ True))))))))))))))
def v_X6_stemOf (P : hGM) (glyph : Int) (stem : Int) (what : Int) : Int := (if (v_X6_isStem P glyph stem) = 0 then (-1000001) else (if (v_X6_in what 0 6) = 0 then (-1000001) else (if what = 3 then (v_X6_hinted P glyph stem) else (if what = 4 then (v_X6_snaps P (v_X6_ofStem P glyph stem 1)) else (if what = 5 then (v_X6_alike P (v_X6_hinted P glyph stem)) else (if what = 6 then (if stem = 0 then (-1000004) else ((v_X6_ofStem P glyph stem 0) - (v_X6_endOf P glyph (stem - 1)))) else (v_X6_ofStem P glyph stem what)))))))
def p_X6_pixels (P : hGM) (glyph : Int) (stem : Int) (size : Int) (what : Int) : Prop := (p_X6_isStem P glyph stem ∧ (((v_X6_isStem P glyph stem) = 0 → True) ∧ (¬ (v_X6_isStem P glyph stem) = 0 → (((v_X6_isSize size) = 0 → True) ∧ (¬ (v_X6_isSize size) = 0 → (((v_X6_in what 0 3) = 0 → True) ∧ (¬ (v_X6_in what 0 3) = 0 → (p_X6_lays P glyph size ∧ ((what = 0 → ((0 ≤ stem ∧ stem < 6) ∧ True)) ∧ (¬ what = 0 → ((what = 1 → ((0 ≤ stem ∧ stem < 6) ∧ True)) ∧ (¬ what = 1 → ((what = 2 → True) ∧ (¬ what = 2 → (p_X6_cuts (m_X6_lays P glyph size) glyph size ∧ True)))))))))))))))
def v_X6_pixels (P : hGM) (glyph : Int) (stem : Int) (size : Int) (what : Int) : Int := (if (v_X6_isStem P glyph stem) = 0 then (-1000001) else (if (v_X6_isSize size) = 0 then (-1000001) else (if (v_X6_in what 0 3) = 0 then (-1000001) else (if what = 0 then ((m_X6_lays P glyph size) 5 stem) else (if what = 1 then ((m_X6_lays P glyph size) 6 stem) else (if what = 2 then (iAnd (iShr ((m_X6_lays P glyph size) 0 9) stem) 1) else (iAnd (iShr (v_X6_cuts (m_X6_lays P glyph size) glyph size) stem) 1)))))))
def m_X6_pixels (P : hGM) (glyph : Int) (stem : Int) (size : Int) (what : Int) : hGM := (if (v_X6_isStem P glyph stem) = 0 then P else (if (v_X6_isSize size) = 0 then P else (if (v_X6_in what 0 3) = 0 then P else (if what = 0 then (m_X6_lays P glyph size) else (if what = 1 then (m_X6_lays P glyph size) else (if what = 2 then (m_X6_lays P glyph size) else (m_X6_lays P glyph size)))))))
def p_X6_runsOf (P : hGM) (glyph : Int) (size : Int) : Prop := mNum (P 1) ∧ (0 ≤ glyph ∧ glyph < 8) ∧ (0 ≤ size ∧ size ≤ 48) ∧ laI P (v_X6_of P glyph 1).toNat
def runA (P : hGM) (g k : Int) : Int := if v_X6_isLit P g k = 0 then 0 else if k = 0 then 1 else if v_X6_isLit P g (k - 1) = 0 then 1 else 0
def v_X6_runsOf (P : hGM) (glyph : Int) (size : Int) : Int := sumN (runA P glyph) (v_X6_columns P glyph size).toNat
theorem runA_bd (P : hGM) (g k : Int) : 0 ≤ runA P g k ∧ runA P g k ≤ 1 := by
  unfold runA
  split
  · decide
  · split
    · decide
    · split <;> decide
set_option maxHeartbeats 4000000 in
theorem x_X6_runsOf (P : hGM) (glyph : Int) (size : Int) (h_glyph : hIn glyph) (h_size : hIn size) (hRP : ∀ (i : Nat) (k : Int), i < 100 → hIn (P i k)) (hp : p_X6_runsOf P glyph size) (B5 : Int → Int → Prop) (Po : Int → Prop) 
  (r5 : ∀ (y3 : Int) (y4 : Int), hIn y3 → hIn y4 → ((p_X6_columns P glyph size ∧ ((y4 < (v_X6_columns P glyph size) → (p_X6_isLit P glyph y4 ∧ (((v_X6_isLit P glyph y4) = 0 → (B5 (y3 + 0) (y4 + 1))) ∧ (¬ (v_X6_isLit P glyph y4) = 0 → ((y4 = 0 → (B5 (y3 + 1) (y4 + 1))) ∧ (¬ y4 = 0 → (hIn (y4 - 1) ∧ (p_X6_isLit P glyph (y4 - 1) ∧ (((v_X6_isLit P glyph (y4 - 1)) = 0 → (B5 (y3 + 1) (y4 + 1))) ∧ (¬ (v_X6_isLit P glyph (y4 - 1)) = 0 → (B5 (y3 + 0) (y4 + 1)))))))))))) ∧ (¬ y4 < (v_X6_columns P glyph size) → (Po y3))))) → (B5 y3 y4)) 
  (hpost : Po (v_X6_runsOf P glyph size)) : (B5 0 0) := by
  obtain ⟨hm, hg, hz, hi⟩ := hp
  have cb := mcol_bd P glyph size
  have cp := mcol_p (z := size) hm hg.1 hg.2 hz.1 hz.2
  unfold v_X6_runsOf at hpost
  generalize v_X6_columns P glyph size = c at cb hpost r5 ⊢
  have e : ((c.toNat : Nat) : Int) = c := Int.toNat_of_nonneg (by omega)
  have lp : ∀ k : Int, -1000 ≤ k ∧ k ≤ 1000 → p_X6_isLit P glyph k := fun k q => ⟨hm, hg, q, hi⟩
  have sb := fun n : Nat => sumN_bd (f := runA P glyph) (c := 1) n (fun k _ _ => runA_bd _ _ _)
  refine upN (C := fun k => B5 (sumN (runA P glyph) k) (k : Int)) c.toNat ?_ ?_
  · have b := sb c.toNat
    exact r5 _ _ ⟨by omega, by omega⟩ ⟨by omega, by omega⟩ ⟨cp, fun z => by omega, fun _ => hpost⟩
  · intro k hk h
    have b := sb k
    have h : B5 (sumN (runA P glyph) k + (if v_X6_isLit P glyph k = 0 then 0 else if (k : Int) = 0 then 1 else if v_X6_isLit P glyph (k - 1) = 0 then 1 else 0)) (k + 1) := h
    refine r5 _ _ ⟨by omega, by omega⟩ ⟨by omega, by omega⟩ ⟨cp, fun _ => ⟨lp _ ⟨by omega, by omega⟩, fun c1 => ?_, fun c1 => ⟨fun c2 => ?_, fun c2 => ⟨⟨by omega, by omega⟩, lp _ ⟨by omega, by omega⟩, fun c3 => ?_, fun c3 => ?_⟩⟩⟩, fun z => by omega⟩
    · rw [if_pos c1] at h; exact h
    · rw [if_neg c1, if_pos c2] at h; exact h
    · rw [if_neg c1, if_neg c2, if_pos c3] at h; exact h
    · rw [if_neg c1, if_neg c2, if_neg c3] at h; exact h
def p_X6_glyphOf (P : hGM) (glyph : Int) (size : Int) (what : Int) : Prop := (((v_X6_isGlyph P glyph) = 0 → True) ∧ (¬ (v_X6_isGlyph P glyph) = 0 → (((v_X6_isSize size) = 0 → True) ∧ (¬ (v_X6_isSize size) = 0 → (((v_X6_in what 0 5) = 0 → True) ∧ (¬ (v_X6_in what 0 5) = 0 → (p_X6_lays P glyph size ∧ ((what = 0 → (p_X6_columns (m_X6_lays P glyph size) glyph size ∧ True)) ∧ (¬ what = 0 → ((what = 1 → (p_X6_litHalf (m_X6_lays P glyph size) glyph size 0 ∧ (p_X6_ones (v_X6_litHalf (m_X6_lays P glyph size) glyph size 0) ∧ (p_X6_litHalf (m_X6_lays P glyph size) glyph size 1 ∧ (p_X6_ones (v_X6_litHalf (m_X6_lays P glyph size) glyph size 1) ∧ (hIn ((v_X6_ones (v_X6_litHalf (m_X6_lays P glyph size) glyph size 0)) + (v_X6_ones (v_X6_litHalf (m_X6_lays P glyph size) glyph size 1))) ∧ True)))))) ∧ (¬ what = 1 → ((what = 2 → (p_X6_isClear (m_X6_lays P glyph size) glyph size ∧ (((v_X6_isClear (m_X6_lays P glyph size) glyph size) = 0 → True) ∧ (¬ (v_X6_isClear (m_X6_lays P glyph size) glyph size) = 0 → True)))) ∧ (¬ what = 2 → ((what = 3 → True) ∧ (¬ what = 3 → ((what = 4 → (p_X6_cuts (m_X6_lays P glyph size) glyph size ∧ True)) ∧ (¬ what = 4 → (p_X6_runsOf (m_X6_lays P glyph size) glyph size ∧ True))))))))))))))))))
def v_X6_glyphOf (P : hGM) (glyph : Int) (size : Int) (what : Int) : Int := (if (v_X6_isGlyph P glyph) = 0 then (-1000001) else (if (v_X6_isSize size) = 0 then (-1000001) else (if (v_X6_in what 0 5) = 0 then (-1000001) else (if what = 0 then (v_X6_columns (m_X6_lays P glyph size) glyph size) else (if what = 1 then ((v_X6_ones (v_X6_litHalf (m_X6_lays P glyph size) glyph size 0)) + (v_X6_ones (v_X6_litHalf (m_X6_lays P glyph size) glyph size 1))) else (if what = 2 then (if (v_X6_isClear (m_X6_lays P glyph size) glyph size) = 0 then 0 else 1) else (if what = 3 then ((m_X6_lays P glyph size) 0 9) else (if what = 4 then (v_X6_cuts (m_X6_lays P glyph size) glyph size) else (v_X6_runsOf (m_X6_lays P glyph size) glyph size)))))))))
def m_X6_glyphOf (P : hGM) (glyph : Int) (size : Int) (what : Int) : hGM := (if (v_X6_isGlyph P glyph) = 0 then P else (if (v_X6_isSize size) = 0 then P else (if (v_X6_in what 0 5) = 0 then P else (if what = 0 then (m_X6_lays P glyph size) else (if what = 1 then (m_X6_lays P glyph size) else (if what = 2 then (if (v_X6_isClear (m_X6_lays P glyph size) glyph size) = 0 then (m_X6_isClear (m_X6_lays P glyph size) glyph size) else (m_X6_isClear (m_X6_lays P glyph size) glyph size)) else (if what = 3 then (m_X6_lays P glyph size) else (if what = 4 then (m_X6_lays P glyph size) else (m_X6_lays P glyph size)))))))))
def p_X6_lit (P : hGM) (glyph : Int) (size : Int) (column : Int) : Prop := (((v_X6_isGlyph P glyph) = 0 → True) ∧ (¬ (v_X6_isGlyph P glyph) = 0 → (((v_X6_isSize size) = 0 → True) ∧ (¬ (v_X6_isSize size) = 0 → (((v_X6_in column 0 63) = 0 → True) ∧ (¬ (v_X6_in column 0 63) = 0 → (p_X6_lays P glyph size ∧ (p_X6_columns (m_X6_lays P glyph size) glyph size ∧ ((column < (v_X6_columns (m_X6_lays P glyph size) glyph size) → (p_X6_isLit (m_X6_lays P glyph size) glyph column ∧ (((v_X6_isLit (m_X6_lays P glyph size) glyph column) = 0 → True) ∧ (¬ (v_X6_isLit (m_X6_lays P glyph size) glyph column) = 0 → True)))) ∧ (¬ column < (v_X6_columns (m_X6_lays P glyph size) glyph size) → True))))))))))
def v_X6_lit (P : hGM) (glyph : Int) (size : Int) (column : Int) : Int := (if (v_X6_isGlyph P glyph) = 0 then (-1000001) else (if (v_X6_isSize size) = 0 then (-1000001) else (if (v_X6_in column 0 63) = 0 then (-1000001) else (if column < (v_X6_columns (m_X6_lays P glyph size) glyph size) then (if (v_X6_isLit (m_X6_lays P glyph size) glyph column) = 0 then 0 else 1) else (-1000004)))))
def m_X6_lit (P : hGM) (glyph : Int) (size : Int) (column : Int) : hGM := (if (v_X6_isGlyph P glyph) = 0 then P else (if (v_X6_isSize size) = 0 then P else (if (v_X6_in column 0 63) = 0 then P else (if column < (v_X6_columns (m_X6_lays P glyph size) glyph size) then (if (v_X6_isLit (m_X6_lays P glyph size) glyph column) = 0 then (m_X6_lays P glyph size) else (m_X6_lays P glyph size)) else (m_X6_lays P glyph size)))))
def p_X6_inSheet (P : hGM) (size : Int) (glyph : Int) (column : Int) : Prop := (((v_X6_isSize size) = 0 → True) ∧ (¬ (v_X6_isSize size) = 0 → (((v_X6_in glyph 0 7) = 0 → True) ∧ (¬ (v_X6_in glyph 0 7) = 0 → (((v_X6_in column 0 63) = 0 → True) ∧ (¬ (v_X6_in column 0 63) = 0 → (p_X6_sheetAt P size ∧ (((v_X6_sheetAt P size) < 0 → True) ∧ (¬ (v_X6_sheetAt P size) < 0 → (hIn (2 + glyph) ∧ (p_X6_ofSheet P (v_X6_sheetAt P size) (2 + glyph) ∧ ((column < (v_X6_ofSheet P (v_X6_sheetAt P size) (2 + glyph)) → (0 ≤ column ∧ ((0 ≤ (((209 + (16 * (v_X6_sheetAt P size))) + (2 * glyph)) + (column / 32)) ∧ (((209 + (16 * (v_X6_sheetAt P size))) + (2 * glyph)) + (column / 32)) < 273) ∧ True))) ∧ (¬ column < (v_X6_ofSheet P (v_X6_sheetAt P size) (2 + glyph)) → True)))))))))))))
def v_X6_inSheet (P : hGM) (size : Int) (glyph : Int) (column : Int) : Int := (if (v_X6_isSize size) = 0 then (-1000001) else (if (v_X6_in glyph 0 7) = 0 then (-1000001) else (if (v_X6_in column 0 63) = 0 then (-1000001) else (if (v_X6_sheetAt P size) < 0 then (-1000004) else (if column < (v_X6_ofSheet P (v_X6_sheetAt P size) (2 + glyph)) then (iAnd (iShr (P 1 (((209 + (16 * (v_X6_sheetAt P size))) + (2 * glyph)) + (column / 32))) (column % 32)) 1) else (-1000004))))))
def p_X6_sheetOf (P : hGM) (index : Int) (what : Int) : Prop := ((index < 0 → True) ∧ (¬ index < 0 → (((v_X6_in what 0 3) = 0 → True) ∧ (¬ (v_X6_in what 0 3) = 0 → ((index < (P 1 7) → ((what < 2 → (p_X6_ofSheet P index what ∧ True)) ∧ (¬ what < 2 → ((what = 2 → (p_X6_isStale P index ∧ (((v_X6_isStale P index) = 0 → True) ∧ (¬ (v_X6_isStale P index) = 0 → True)))) ∧ (¬ what = 2 → (p_X6_litIn P index ∧ True)))))) ∧ (¬ index < (P 1 7) → True))))))
def v_X6_sheetOf (P : hGM) (index : Int) (what : Int) : Int := (if index < 0 then (-1000001) else (if (v_X6_in what 0 3) = 0 then (-1000001) else (if index < (P 1 7) then (if what < 2 then (v_X6_ofSheet P index what) else (if what = 2 then (if (v_X6_isStale P index) = 0 then 0 else 1) else (v_X6_litIn P index))) else (-1000004))))
def m_X6_sheetOf (P : hGM) (index : Int) (what : Int) : hGM := (if index < 0 then P else (if (v_X6_in what 0 3) = 0 then P else (if index < (P 1 7) then (if what < 2 then P else (if what = 2 then (if (v_X6_isStale P index) = 0 then (m_X6_isStale P index) else (m_X6_isStale P index)) else P)) else P)))
def p_X6_isEven (P : hGM) (glyph : Int) (stem : Int) (size : Int) : Prop := mNum (P 1) ∧ (0 ≤ glyph ∧ glyph < 8) ∧ (0 ≤ stem ∧ stem < 6) ∧ (0 ≤ size ∧ size ≤ 48)
/-- a loop's state, and that of two loops, one in the other -/
def fold1 {σ : Type} (f : Int → σ → σ) : Nat → σ → σ
  | 0, s => s
  | n + 1, s => f n (fold1 f n s)
def fold2 {σ : Type} (f : Int → Int → σ → σ) (M : Int → Nat) (N : Nat) (s : σ) : σ := fold1 (fun g s => fold1 (f g) (M g) s) N s
theorem fold2Loop {σ : Type} {B1 : σ → Int → Prop} {B2 : σ → Int → Int → Prop} (I : σ → Prop) (f : Int → Int → σ → σ) (M : Int → Nat) (N : Nat) (s : σ) (hI : I s)
    (hs : ∀ (g k : Int) (s : σ), I s → I (f g k s))
    (h1 : ∀ (g : Int) (s : σ), 0 ≤ g → g < N → I s → B2 s g 0 → B1 s g)
    (h1e : ∀ s' : σ, I s' → s' = fold2 f M N s → B1 s' N)
    (h2 : ∀ (g k : Int) (s : σ), 0 ≤ g → g < N → 0 ≤ k → k < M g → I s → B2 (f g k s) g (k + 1) → B2 s g k)
    (h2e : ∀ (g : Int) (s : σ), 0 ≤ g → g < N → I s → B1 s (g + 1) → B2 s g (M g)) : B1 s 0 := by
  have i1 : ∀ (g : Int) (n : Nat) (s : σ), I s → I (fold1 (f g) n s) := by
    intro g n
    induction n with
    | zero => intro s h; exact h
    | succ n ih => intro s h; exact hs _ _ _ (ih s h)
  have i2 : ∀ n : Nat, I (fold1 (fun g s => fold1 (f g) (M g) s) n s) := by
    intro n
    induction n with
    | zero => exact hI
    | succ n ih => exact i1 _ _ _ ih
  have key : B1 (fold1 (fun g s => fold1 (f g) (M g) s) 0 s) ((0 : Nat) : Int) := by
    refine upN (C := fun n => B1 (fold1 (fun g s => fold1 (f g) (M g) s) n s) (n : Int)) N ?_ ?_
    · exact h1e _ (i2 N) rfl
    · intro g hg h
      refine h1 _ _ (by omega) (by omega) (i2 g) ?_
      have it := i2 g
      have h : B1 (fold1 (f g) (M g) (fold1 (fun g s => fold1 (f g) (M g) s) g s)) ((g : Int) + 1) := h
      generalize fold1 (fun g s => fold1 (f g) (M g) s) g s = t at it h ⊢
      have hk : B2 (fold1 (f g) 0 t) g ((0 : Nat) : Int) := by
        refine upN (C := fun n => B2 (fold1 (f g) n t) g (n : Int)) (M g) ?_ ?_
        · exact h2e _ _ (by omega) (by omega) (i1 _ _ _ it) h
        · intro k hk h
          exact h2 _ _ _ (by omega) (by omega) (by omega) (by omega) (i1 _ _ _ it) h
      exact hk
  exact key
def evA (P : hGM) (g0 k0 z g k y : Int) : Int := if y = 0 then 0 else if v_X6_size (v_X6_ofStem P g k 1 - v_X6_ofStem P g0 k0 1) ≤ P 1 5 then (if v_X6_pixelsOf P g k z = v_X6_pixelsOf P g0 k0 z then 1 else 0) else 1
def v_X6_isEven (P : hGM) (glyph : Int) (stem : Int) (size : Int) : Int := fold2 (evA P glyph stem size) (fun g => (v_X6_of P g 1).toNat) (P 1 0).toNat 1
theorem evA_01 (P : hGM) (g0 k0 z g k y : Int) : evA P g0 k0 z g k y = 0 ∨ evA P g0 k0 z g k y = 1 := by
  unfold evA
  (repeat' split) <;> first | exact Or.inl rfl | exact Or.inr rfl
theorem fold1_I {σ : Type} {f : Int → σ → σ} (I : σ → Prop) (hs : ∀ k s, I s → I (f k s)) (n : Nat) {s : σ} (h : I s) : I (fold1 f n s) := by
  induction n with
  | zero => exact h
  | succ n ih => exact hs _ _ ih
theorem z_X6_isEven (P : hGM) (glyph : Int) (stem : Int) (size : Int) : v_X6_isEven P glyph stem size = 0 ∨ v_X6_isEven P glyph stem size = 1 :=
  fold1_I (fun y : Int => y = 0 ∨ y = 1) (fun _ _ h => fold1_I (fun y : Int => y = 0 ∨ y = 1) (fun _ _ _ => evA_01 _ _ _ _ _ _ _) _ h) _ (Or.inr rfl)
set_option maxHeartbeats 4000000 in
theorem x_X6_isEven (P : hGM) (glyph : Int) (stem : Int) (size : Int) (h_glyph : hIn glyph) (h_stem : hIn stem) (h_size : hIn size) (hRP : ∀ (i : Nat) (k : Int), i < 100 → hIn (P i k)) (hp : p_X6_isEven P glyph stem size) (B6 : Int → Int → Prop) (B20 : Int → Int → Int → Prop) (Po : Int → Prop) 
  (r6 : ∀ (y4 : Int) (y5 : Int), hIn y4 → hIn y5 → (((y5 < (P 1 0) → (B20 y4 y5 0)) ∧ (¬ y5 < (P 1 0) → ((y4 = 0 ∨ y4 = 1) ∧ (Po y4))))) → (B6 y4 y5)) 
  (r20 : ∀ (y4 : Int) (y5 : Int) (y6 : Int), hIn y4 → hIn y5 → hIn y6 → ((p_X6_of P y5 1 ∧ ((y6 < (v_X6_of P y5 1) → (p_X6_ofStem P y5 y6 1 ∧ (p_X6_ofStem P glyph stem 1 ∧ (hIn ((v_X6_ofStem P y5 y6 1) - (v_X6_ofStem P glyph stem 1)) ∧ (p_X6_size ((v_X6_ofStem P y5 y6 1) - (v_X6_ofStem P glyph stem 1)) ∧ ((y4 = 0 → (B20 0 y5 (y6 + 1))) ∧ (¬ y4 = 0 → (((v_X6_size ((v_X6_ofStem P y5 y6 1) - (v_X6_ofStem P glyph stem 1))) ≤ (P 1 5) → (p_X6_pixelsOf P y5 y6 size ∧ (p_X6_pixelsOf P glyph stem size ∧ (((v_X6_pixelsOf P y5 y6 size) = (v_X6_pixelsOf P glyph stem size) → (B20 1 y5 (y6 + 1))) ∧ (¬ (v_X6_pixelsOf P y5 y6 size) = (v_X6_pixelsOf P glyph stem size) → (B20 0 y5 (y6 + 1))))))) ∧ (¬ (v_X6_size ((v_X6_ofStem P y5 y6 1) - (v_X6_ofStem P glyph stem 1))) ≤ (P 1 5) → (B20 1 y5 (y6 + 1))))))))))) ∧ (¬ y6 < (v_X6_of P y5 1) → (B6 y4 (y5 + 1)))))) → (B20 y4 y5 y6)) 
  (hpost : Po (v_X6_isEven P glyph stem size)) : (B6 1 0) := by
  obtain ⟨hm, ⟨g0, g1⟩, ⟨s0, s1⟩, z0, z1⟩ := hp
  have n0 := hm.1
  have em : ∀ g : Int, 0 ≤ g → g < 8 → (((v_X6_of P g 1).toNat : Nat) : Int) = v_X6_of P g 1 := fun g g0 g1 => Int.toNat_of_nonneg (of_bd hm g0 g1).1
  have hb : ∀ y : Int, y = 0 ∨ y = 1 → hIn y := fun y q => by rcases q with q | q <;> rw [q] <;> exact ⟨by decide, by decide⟩
  have o2 := ofStem_bd hm g0 g1 s0 s1
  refine fold2Loop (B1 := fun y g => B6 y g) (B2 := fun y g k => B20 y g k) (fun y => y = 0 ∨ y = 1) (evA P glyph stem size) (fun g => (v_X6_of P g 1).toNat) (P 1 0).toNat 1 (Or.inr rfl) ?_ ?_ ?_ ?_ ?_
  · intro g k y _; exact evA_01 _ _ _ _ _ _ _
  · intro g y g0 g1 hy h
    exact r6 _ _ (hb y hy) ⟨by omega, by omega⟩ ⟨fun _ => h, fun z => by omega⟩
  · intro y hy ey
    refine r6 _ _ (hb y hy) ⟨by omega, by omega⟩ ⟨fun z => by omega, fun _ => ⟨hy, ?_⟩⟩
    rw [ey]; exact hpost
  · intro g k y g2 g3 k0 k1 hy h
    have e2 := em g g2 (by omega)
    have b2 := of_bd hm g2 (show g < 8 by omega)
    have k1 : k < (((v_X6_of P g 1).toNat : Nat) : Int) := k1
    have o1 := ofStem_bd hm g2 (show g < 8 by omega) k0 (show k < 6 by omega)
    unfold evA at h
    refine r20 _ _ _ (hb y hy) ⟨by omega, by omega⟩ ⟨by omega, by omega⟩ ⟨of_p g2 (by omega) (by decide) (by decide), fun _ => ⟨ofStem_p g2 (by omega) k0 (by omega) (by decide) (by decide), ofStem_p g0 g1 s0 s1 (by decide) (by decide), ⟨by omega, by omega⟩, ⟨fun _ => ⟨⟨by omega, by omega⟩, trivial⟩, fun _ => trivial⟩, fun c => ?_, fun c => ⟨fun c2 => ⟨pixels_p hm g2 (by omega) k0 (by omega) z0 z1, pixels_p hm g0 g1 s0 s1 z0 z1, fun c3 => ?_, fun c3 => ?_⟩, fun c2 => ?_⟩⟩, fun z => by omega⟩
    · rw [if_pos c] at h; exact h
    · rw [if_neg c, if_pos c2, if_pos c3] at h; exact h
    · rw [if_neg c, if_pos c2, if_neg c3] at h; exact h
    · rw [if_neg c, if_neg c2] at h; exact h
  · intro g y g2 g3 hy h
    have e2 := em g g2 (by omega)
    have b2 := of_bd hm g2 (show g < 8 by omega)
    show B20 y g (((v_X6_of P g 1).toNat : Nat) : Int)
    rw [e2]
    exact r20 _ _ _ (hb y hy) ⟨by omega, by omega⟩ ⟨by omega, by omega⟩ ⟨of_p g2 (by omega) (by decide) (by decide), fun z => by omega, fun _ => h⟩
def p_X6_even (P : hGM) (size : Int) : Prop := mNum (P 1)
def evB (P : hGM) (z g k y : Int) : Int := if y = 0 then 0 else if v_X6_isEven P g k z = 0 then 0 else 1
def v_X6_even (P : hGM) (size : Int) : Int := if v_X6_isSize size = 0 then -1000001 else fold2 (evB P size) (fun g => (v_X6_of P g 1).toNat) (P 1 0).toNat 1
theorem evB_01 (P : hGM) (z g k y : Int) : evB P z g k y = 0 ∨ evB P z g k y = 1 := by
  unfold evB
  (repeat' split) <;> first | exact Or.inl rfl | exact Or.inr rfl
set_option maxHeartbeats 4000000 in
theorem x_X6_even (P : hGM) (size : Int) (h_size : hIn size) (hRP : ∀ (i : Nat) (k : Int), i < 100 → hIn (P i k)) (hp : p_X6_even P size) (B14 : Int → Int → Prop) (B27 : Int → Int → Int → Prop) (Po : Int → Prop) 
  (r14 : ∀ (y2 : Int) (y3 : Int), hIn y2 → hIn y3 → (((y3 < (P 1 0) → (B27 y2 y3 0)) ∧ (¬ y3 < (P 1 0) → ((y2 = 0 → (Po 0)) ∧ (¬ y2 = 0 → (Po 1)))))) → (B14 y2 y3)) 
  (r27 : ∀ (y2 : Int) (y3 : Int) (y4 : Int), hIn y2 → hIn y3 → hIn y4 → ((p_X6_of P y3 1 ∧ ((y4 < (v_X6_of P y3 1) → ((y2 = 0 → (B27 0 y3 (y4 + 1))) ∧ (¬ y2 = 0 → (p_X6_isEven P y3 y4 size ∧ (((v_X6_isEven P y3 y4 size) = 0 → (B27 0 y3 (y4 + 1))) ∧ (¬ (v_X6_isEven P y3 y4 size) = 0 → (B27 1 y3 (y4 + 1)))))))) ∧ (¬ y4 < (v_X6_of P y3 1) → (B14 y2 (y3 + 1)))))) → (B27 y2 y3 y4)) 
  (hpost : Po (v_X6_even P size)) : (((v_X6_isSize size) = 0 → (Po (-1000001))) ∧ (¬ (v_X6_isSize size) = 0 → (B14 1 0))) := by
  have hm : mNum (P 1) := hp
  unfold v_X6_even at hpost
  refine ⟨fun c => ?_, fun c => ?_⟩
  · rw [if_pos c] at hpost; exact hpost
  · rw [if_neg c] at hpost
    have g3 : 6 ≤ size ∧ size ≤ 48 := Decidable.not_not.mp (fun z => c (in_0.mpr z))
    have n0 := hm.1
    have em : ∀ g : Int, 0 ≤ g → g < 8 → (((v_X6_of P g 1).toNat : Nat) : Int) = v_X6_of P g 1 := fun g g0 g1 => Int.toNat_of_nonneg (of_bd hm g0 g1).1
    have hb : ∀ y : Int, y = 0 ∨ y = 1 → hIn y := fun y q => by rcases q with q | q <;> rw [q] <;> exact ⟨by decide, by decide⟩
    refine fold2Loop (B1 := fun y g => B14 y g) (B2 := fun y g k => B27 y g k) (fun y => y = 0 ∨ y = 1) (evB P size) (fun g => (v_X6_of P g 1).toNat) (P 1 0).toNat 1 (Or.inr rfl) ?_ ?_ ?_ ?_ ?_
    · intro g k y _; exact evB_01 _ _ _ _ _
    · intro g y g0 g1 hy h
      exact r14 _ _ (hb y hy) ⟨by omega, by omega⟩ ⟨fun _ => h, fun z => by omega⟩
    · intro y hy ey
      rw [← ey] at hpost
      refine r14 _ _ (hb y hy) ⟨by omega, by omega⟩ ⟨fun z => by omega, fun _ => ⟨fun q => ?_, fun q => ?_⟩⟩
      · rw [q] at hpost; exact hpost
      · have q2 : y = 1 := hy.resolve_left q
        rw [q2] at hpost; exact hpost
    · intro g k y g2 g3 k0 k1 hy h
      have e2 := em g g2 (by omega)
      have b2 := of_bd hm g2 (show g < 8 by omega)
      have k1 : k < (((v_X6_of P g 1).toNat : Nat) : Int) := k1
      unfold evB at h
      refine r27 _ _ _ (hb y hy) ⟨by omega, by omega⟩ ⟨by omega, by omega⟩ ⟨of_p g2 (by omega) (by decide) (by decide), fun _ => ⟨fun c => ?_, fun c => ⟨⟨hm, ⟨g2, by omega⟩, ⟨k0, by omega⟩, by omega, by omega⟩, fun c2 => ?_, fun c2 => ?_⟩⟩, fun z => by omega⟩
      · rw [if_pos c] at h; exact h
      · rw [if_neg c, if_pos c2] at h; exact h
      · rw [if_neg c, if_neg c2] at h; exact h
    · intro g y g2 g3 hy h
      have e2 := em g g2 (by omega)
      have b2 := of_bd hm g2 (show g < 8 by omega)
      show B27 y g (((v_X6_of P g 1).toNat : Nat) : Int)
      rw [e2]
      exact r27 _ _ _ (hb y hy) ⟨by omega, by omega⟩ ⟨by omega, by omega⟩ ⟨of_p g2 (by omega) (by decide) (by decide), fun z => by omega, fun _ => h⟩
def p_X6_clear (P : hGM) (glyph : Int) : Prop := mNum (P 1) ∧ mGap P
def clR (g : Int) : Nat → Int → hGM → Int × hGM
  | 0, _, L => (-1000004, L)
  | n + 1, z, L => if v_X6_isClear L g z = 0 then clR g n (z + 1) (m_X6_isClear L g z) else (z, m_X6_isClear L g z)
def v_X6_clear (P : hGM) (glyph : Int) : Int := if v_X6_isGlyph P glyph = 0 then -1000001 else (clR glyph 43 6 P).1
def m_X6_clear (P : hGM) (glyph : Int) : hGM := if v_X6_isGlyph P glyph = 0 then P else (clR glyph 43 6 P).2
theorem isClear_m (P : hGM) (g z : Int) : m_X6_isClear P g z = m_X6_lays P g z := by
  unfold m_X6_isClear
  split
  · split <;> rfl
  · rfl
theorem isClear_p {P : hGM} {g z : Int} (h : mNum (P 1)) (hg : mGap P) (g0 : 0 ≤ g) (g1 : g < 8) (z0 : 0 ≤ z) (z1 : z ≤ 48) : p_X6_isClear P g z := by
  have lb := lays_lai h hg g0 g1 z0 z1
  have l1 : m_X6_lays P g z 1 = P 1 := lays_1
  exact ⟨⟨h, hg, ⟨g0, g1⟩, z0, z1⟩, fun _ => ⟨⟨by rw [l1]; exact h, ⟨g0, g1⟩, ⟨z0, z1⟩, lb⟩, fun _ => trivial, fun _ => trivial⟩, fun _ => trivial⟩
theorem isClear_1 {P : hGM} {g z : Int} : m_X6_isClear P g z 1 = P 1 := by rw [isClear_m]; exact lays_1
set_option maxHeartbeats 4000000 in
theorem x_X6_clear (P : hGM) (glyph : Int) (h_glyph : hIn glyph) (hRP : ∀ (i : Nat) (k : Int), i < 100 → hIn (P i k)) (hp : p_X6_clear P glyph) (B14 : Int → hGM → Prop) (Po : Int → hGM → Prop) 
  (r14 : ∀ (y2 : Int) (P1 : hGM), hIn y2 → ((∀ (i : Nat) (k : Int), i < 100 → hIn (P1 i k)) → ((y2 ≤ 48 → (p_X6_isClear P1 glyph y2 ∧ (((v_X6_isClear P1 glyph y2) = 0 → (B14 (y2 + 1) (m_X6_isClear P1 glyph y2))) ∧ (¬ (v_X6_isClear P1 glyph y2) = 0 → (Po y2 (m_X6_isClear P1 glyph y2)))))) ∧ (¬ y2 ≤ 48 → (Po (-1000004) P1)))) → (B14 y2 P1)) 
  (hpost : Po (v_X6_clear P glyph) (m_X6_clear P glyph)) : (((v_X6_isGlyph P glyph) = 0 → (Po (-1000001) P)) ∧ (¬ (v_X6_isGlyph P glyph) = 0 → (B14 6 P))) := by
  obtain ⟨hm, hg⟩ := hp
  unfold v_X6_clear m_X6_clear at hpost
  refine ⟨fun c => ?_, fun c => ?_⟩
  · rw [if_pos c, if_pos c] at hpost; exact hpost
  · rw [if_neg c, if_neg c] at hpost
    have n0 := hm.1
    have q := Decidable.not_not.mp (fun z => c (isGlyph_0.mpr z))
    have key : ∀ (n : Nat) (z : Int) (L : hGM), z + n = 49 → 6 ≤ z → mNum (L 1) → mGap L → Po (clR glyph n z L).1 (clR glyph n z L).2 → B14 z L := by
      intro n
      induction n with
      | zero =>
        intro z L h1 h2 h3 h4 h5
        exact r14 _ _ ⟨by omega, by omega⟩ (fun _ => ⟨fun w => by omega, fun _ => h5⟩)
      | succ n ih =>
        intro z L h1 h2 h3 h4 h5
        unfold clR at h5
        refine r14 _ _ ⟨by omega, by omega⟩ (fun _ => ⟨fun _ => ⟨isClear_p h3 h4 q.1 (by omega) (by omega) (by omega), fun w => ?_, fun w => ?_⟩, fun w => by omega⟩)
        · rw [if_pos w] at h5
          exact ih _ _ (by omega) (by omega) (by rw [isClear_1]; exact h3) (mGap_row isClear_1 h4) h5
        · rw [if_neg w] at h5; exact h5
    exact key 43 6 P (by decide) (by decide) hm hg hpost
def p_X6_clearSizes (P : hGM) (glyph : Int) : Prop := mNum (P 1) ∧ mGap P ∧ (0 ≤ glyph ∧ glyph < 8)
def czS (P : hGM) (g : Int) : Nat → Int × hGM
  | 0 => (0, P)
  | n + 1 => ((czS P g n).1 + (if v_X6_isClear (czS P g n).2 g (6 + n) = 0 then 0 else 1), m_X6_isClear (czS P g n).2 g (6 + n))
def v_X6_clearSizes (P : hGM) (glyph : Int) : Int := (czS P glyph 43).1
def m_X6_clearSizes (P : hGM) (glyph : Int) : hGM := (czS P glyph 43).2
theorem czS_bd (P : hGM) (g : Int) (n : Nat) : 0 ≤ (czS P g n).1 ∧ (czS P g n).1 ≤ n := by
  induction n with
  | zero => exact ⟨Int.le_refl _, Int.le_refl _⟩
  | succ n ih =>
    show 0 ≤ (czS P g n).1 + (if v_X6_isClear (czS P g n).2 g (6 + n) = 0 then 0 else 1) ∧ (czS P g n).1 + (if v_X6_isClear (czS P g n).2 g (6 + n) = 0 then 0 else 1) ≤ _
    split <;> omega
theorem czS_row (P : hGM) (g : Int) (n : Nat) {i : Nat} (h0 : i ≠ 0) (h5 : i ≠ 5) (h6 : i ≠ 6) : (czS P g n).2 i = P i := by
  induction n with
  | zero => rfl
  | succ n ih =>
    show m_X6_isClear (czS P g n).2 g (6 + n) i = P i
    rw [isClear_m, lays_row h0 h5 h6, ih]
set_option maxHeartbeats 4000000 in
theorem x_X6_clearSizes (P : hGM) (glyph : Int) (h_glyph : hIn glyph) (hRP : ∀ (i : Nat) (k : Int), i < 100 → hIn (P i k)) (hp : p_X6_clearSizes P glyph) (B5 : Int → Int → hGM → Prop) (Po : Int → hGM → Prop) 
  (r5 : ∀ (y2 : Int) (y3 : Int) (P1 : hGM), hIn y2 → hIn y3 → ((∀ (i : Nat) (k : Int), i < 100 → hIn (P1 i k)) → ((y3 ≤ 48 → (p_X6_isClear P1 glyph y3 ∧ (((v_X6_isClear P1 glyph y3) = 0 → (B5 (y2 + 0) (y3 + 1) (m_X6_isClear P1 glyph y3))) ∧ (¬ (v_X6_isClear P1 glyph y3) = 0 → (B5 (y2 + 1) (y3 + 1) (m_X6_isClear P1 glyph y3)))))) ∧ (¬ y3 ≤ 48 → (Po y2 P1)))) → (B5 y2 y3 P1)) 
  (hpost : Po (v_X6_clearSizes P glyph) (m_X6_clearSizes P glyph)) : (B5 0 6 P) := by
  obtain ⟨hm, hg, g0, g1⟩ := hp
  refine upN (C := fun k => B5 (czS P glyph k).1 (6 + (k : Int)) (czS P glyph k).2) 43 ?_ ?_
  · have b := czS_bd P glyph 43
    exact r5 _ _ _ ⟨by omega, by omega⟩ ⟨by omega, by omega⟩ (fun _ => ⟨fun z => by omega, fun _ => hpost⟩)
  · intro k hk h
    have b := czS_bd P glyph k
    have r1 := czS_row P glyph k (i := 1) (by decide) (by decide) (by decide)
    unfold czS at h
    generalize (czS P glyph k).1 = n at h b ⊢
    generalize (czS P glyph k).2 = L at h r1 ⊢
    have h : B5 (n + (if v_X6_isClear L glyph (6 + k) = 0 then 0 else 1)) (6 + ((k + 1 : Nat) : Int)) (m_X6_isClear L glyph (6 + k)) := h
    rw [show 6 + ((k + 1 : Nat) : Int) = 6 + (k : Int) + 1 by omega] at h
    refine r5 _ _ _ ⟨by omega, by omega⟩ ⟨by omega, by omega⟩ (fun _ => ⟨fun _ => ⟨isClear_p (by rw [r1]; exact hm) (mGap_row r1 hg) g0 g1 (by omega) (by omega), fun c => ?_, fun c => ?_⟩, fun z => by omega⟩)
    · rw [if_pos c] at h; exact h
    · rw [if_neg c] at h; exact h
def p_X6_best (P : hGM) (glyph : Int) (stem : Int) (what : Int) : Prop := mNum (P 1) ∧ mGap P
/-- the best hint among the first n, its sizes, and the model behind the look -/
def beS (P : hGM) (g k : Int) : Nat → Int × Int × hGM
  | 0 => (0, 0, P)
  | n + 1 => if v_X6_clearSizes (aset (beS P g k n).2.2 1 (v_X6_at g k 2) n) g ≤ (beS P g k n).2.1 then ((beS P g k n).1, (beS P g k n).2.1, m_X6_clearSizes (aset (beS P g k n).2.2 1 (v_X6_at g k 2) n) g) else (n, v_X6_clearSizes (aset (beS P g k n).2.2 1 (v_X6_at g k 2) n) g, m_X6_clearSizes (aset (beS P g k n).2.2 1 (v_X6_at g k 2) n) g)
def v_X6_best (P : hGM) (glyph : Int) (stem : Int) (what : Int) : Int := if v_X6_isStem P glyph stem = 0 then -1000001 else if v_X6_in what 0 1 = 0 then -1000001 else if what = 0 then (beS P glyph stem 4).1 else (beS P glyph stem 4).2.1
def m_X6_best (P : hGM) (glyph : Int) (stem : Int) (what : Int) : hGM := if v_X6_isStem P glyph stem = 0 then P else if v_X6_in what 0 1 = 0 then P else aset (beS P glyph stem 4).2.2 1 (v_X6_at glyph stem 2) (v_X6_ofStem P glyph stem 2)
theorem mNum_hint {A : hGM} {g k v : Int} (h : mNum (A 1)) (g0 : 0 ≤ g) (g1 : g < 8) (k0 : 0 ≤ k) (k1 : k < 6) (v0 : 0 ≤ v) (v1 : v ≤ 3) : mNum (aset A 1 (v_X6_at g k 2) v 1) := by
  have o : ∀ q : Int, q ≠ 13 + 20 * g + 3 * k → aset A 1 (v_X6_at g k 2) v 1 q = A 1 q := fun q z => aset_ne (fun c => z (by have := c.2; unfold v_X6_at at this; omega))
  have o2 : ∀ q : Int, aset A 1 (v_X6_at g k 2) v 1 q = A 1 q ∨ aset A 1 (v_X6_at g k 2) v 1 q = v := fun q => by
    unfold aset
    split
    · exact Or.inr rfl
    · exact Or.inl rfl
  obtain ⟨a0, a1, a2, a5, a6, a7, a8, a9, a10⟩ := h
  refine ⟨by rw [o 0 (by omega)]; exact a0, by rw [o 1 (by omega)]; exact a1, fun k k0 k1 => by rw [o (2 + k) (by omega)]; exact a2 k k0 k1, by rw [o 5 (by omega)]; exact a5, by rw [o 6 (by omega)]; exact a6, by rw [o 7 (by omega)]; exact a7, by rw [o 8 (by omega)]; exact a8, ?_, ?_⟩
  · intro g2 g3 g4
    have a := a9 g2 g3 g4
    rw [o (9 + 20 * g2) (by omega), o (9 + 20 * g2 + 1) (by omega)]
    refine ⟨a.1, a.2.1, fun k2 k3 k4 => ?_⟩
    have b := a.2.2 k2 k3 k4
    rw [o (9 + 20 * g2 + 2 + 3 * k2) (by omega), o (9 + 20 * g2 + 2 + 3 * k2 + 1) (by omega)]
    refine ⟨b.1, b.2.1, ?_⟩
    rcases o2 (9 + 20 * g2 + 2 + 3 * k2 + 2) with e | e
    · rw [e]; exact b.2.2
    · rw [e]; exact ⟨v0, v1⟩
  · intro i i0 i1
    have a := a10 i i0 i1
    rw [o (169 + 10 * i) (by omega), o (169 + 10 * i + 1) (by omega)]
    exact ⟨a.1, a.2.1, fun g2 g3 g4 => by rw [o (169 + 10 * i + (2 + g2)) (by omega)]; exact a.2.2 g2 g3 g4⟩
theorem mGap_hint {A : hGM} {g k v : Int} (hn : mNum (A 1)) (h : mGap A) (g0 : 0 ≤ g) (g1 : g < 8) (k0 : 0 ≤ k) (k1 : k < 6) : mGap (aset A 1 (v_X6_at g k 2) v) := by
  have o : ∀ q : Int, q ≠ 13 + 20 * g + 3 * k → aset A 1 (v_X6_at g k 2) v 1 q = A 1 q := fun q z => aset_ne (fun c => z (by have := c.2; unfold v_X6_at at this; omega))
  intro g2 j g3 g4 j0 j1
  have eo : v_X6_of (aset A 1 (v_X6_at g k 2) v) g2 1 = v_X6_of A g2 1 := o _ (by omega)
  rw [eo] at j1
  have ob := of_bd hn g3 g4
  have es : ∀ j w : Int, 0 ≤ j → j < 6 → 0 ≤ w → w < 2 → v_X6_ofStem (aset A 1 (v_X6_at g k 2) v) g2 j w = v_X6_ofStem A g2 j w := fun j w j0 j1 w0 w1 => o _ (by
    show v_X6_at g2 j w ≠ _
    unfold v_X6_at
    rcases Int.lt_trichotomy g g2 with q | q | q <;> omega)
  have q := h g2 j g3 g4 j0 j1
  unfold v_X6_endOf at q ⊢
  rw [es _ _ (by omega) (by omega) (by decide) (by decide), es _ _ (by omega) (by omega) (by decide) (by decide), es _ _ (by omega) (by omega) (by decide) (by decide)]
  exact q
theorem mclz_1 {P : hGM} {g : Int} : m_X6_clearSizes P g 1 = P 1 := czS_row P g 43 (by decide) (by decide) (by decide)
theorem mclz_bd (P : hGM) (g : Int) : 0 ≤ v_X6_clearSizes P g ∧ v_X6_clearSizes P g ≤ 43 := czS_bd P g 43
theorem beS_I {P : hGM} {g k : Int} (hm : mNum (P 1)) (hg : mGap P) (g0 : 0 ≤ g) (g1 : g < 8) (k0 : 0 ≤ k) (k1 : k < 6) (n : Nat) (hn : n ≤ 4) : (mNum ((beS P g k n).2.2 1) ∧ mGap (beS P g k n).2.2) ∧ (0 ≤ (beS P g k n).1 ∧ (beS P g k n).1 ≤ 3) ∧ (0 ≤ (beS P g k n).2.1 ∧ (beS P g k n).2.1 ≤ 43) := by
  induction n with
  | zero => exact ⟨⟨hm, hg⟩, ⟨Int.le_refl _, (by decide : (0 : Int) ≤ 3)⟩, Int.le_refl _, (by decide : (0 : Int) ≤ 43)⟩
  | succ n ih =>
    have ih := ih (by omega)
    have a1 := mNum_hint (v := n) ih.1.1 g0 g1 k0 k1 (by omega) (by omega)
    have a2 := mGap_hint (v := n) ih.1.1 ih.1.2 g0 g1 k0 k1
    have b := mclz_bd (aset (beS P g k n).2.2 1 (v_X6_at g k 2) n) g
    have a3 : mNum (m_X6_clearSizes (aset (beS P g k n).2.2 1 (v_X6_at g k 2) n) g 1) := by rw [mclz_1]; exact a1
    have a4 : mGap (m_X6_clearSizes (aset (beS P g k n).2.2 1 (v_X6_at g k 2) n) g) := mGap_row mclz_1 a2
    unfold beS
    split
    · dsimp only; exact ⟨⟨a3, a4⟩, ih.2.1, ih.2.2⟩
    · dsimp only; exact ⟨⟨a3, a4⟩, ⟨(by omega : 0 ≤ (n : Int)), (by omega : (n : Int) ≤ 3)⟩, b⟩
set_option maxHeartbeats 4000000 in
theorem x_X6_best (P : hGM) (glyph : Int) (stem : Int) (what : Int) (h_glyph : hIn glyph) (h_stem : hIn stem) (h_what : hIn what) (hRP : ∀ (i : Nat) (k : Int), i < 100 → hIn (P i k)) (hp : p_X6_best P glyph stem what) (B39 : Int → Int → Int → Int → hGM → Prop) (Po : Int → hGM → Prop) 
  (r39 : ∀ (y4 : Int) (y5 : Int) (y6 : Int) (y7 : Int) (P1 : hGM), hIn y4 → hIn y5 → hIn y6 → hIn y7 → ((∀ (i : Nat) (k : Int), i < 100 → hIn (P1 i k)) → ((y7 < 4 → (p_X6_at glyph stem 2 ∧ ((0 ≤ (v_X6_at glyph stem 2) ∧ (v_X6_at glyph stem 2) < 273) ∧ (p_X6_clearSizes (aset P1 1 (v_X6_at glyph stem 2) y7) glyph ∧ (((v_X6_clearSizes (aset P1 1 (v_X6_at glyph stem 2) y7) glyph) ≤ y6 → (B39 y4 y5 y6 (y7 + 1) (m_X6_clearSizes (aset P1 1 (v_X6_at glyph stem 2) y7) glyph))) ∧ (¬ (v_X6_clearSizes (aset P1 1 (v_X6_at glyph stem 2) y7) glyph) ≤ y6 → (B39 y4 y7 (v_X6_clearSizes (aset P1 1 (v_X6_at glyph stem 2) y7) glyph) (y7 + 1) (m_X6_clearSizes (aset P1 1 (v_X6_at glyph stem 2) y7) glyph)))))))) ∧ (¬ y7 < 4 → (p_X6_at glyph stem 2 ∧ ((0 ≤ (v_X6_at glyph stem 2) ∧ (v_X6_at glyph stem 2) < 273) ∧ ((what = 0 → (Po y5 (aset P1 1 (v_X6_at glyph stem 2) y4))) ∧ (¬ what = 0 → (Po y6 (aset P1 1 (v_X6_at glyph stem 2) y4))))))))) → (B39 y4 y5 y6 y7 P1)) 
  (hpost : Po (v_X6_best P glyph stem what) (m_X6_best P glyph stem what)) : (p_X6_isStem P glyph stem ∧ (((v_X6_isStem P glyph stem) = 0 → (Po (-1000001) P)) ∧ (¬ (v_X6_isStem P glyph stem) = 0 → (((v_X6_in what 0 1) = 0 → (Po (-1000001) P)) ∧ (¬ (v_X6_in what 0 1) = 0 → (p_X6_ofStem P glyph stem 2 ∧ (B39 (v_X6_ofStem P glyph stem 2) 0 0 0 P))))))) := by
  obtain ⟨hm, hg⟩ := hp
  unfold v_X6_best m_X6_best at hpost
  refine ⟨isStem_p hm glyph stem, fun c => ?_, fun c => ⟨fun c2 => ?_, fun c2 => ?_⟩⟩
  · rw [if_pos c, if_pos c] at hpost; exact hpost
  · rw [if_neg c, if_neg c, if_pos c2, if_pos c2] at hpost; exact hpost
  · rw [if_neg c, if_neg c, if_neg c2, if_neg c2] at hpost
    have g := Decidable.not_not.mp (fun z => c (isStem_0.mpr z))
    have n0 := hm.1
    have g1 : glyph < 8 := by omega
    have mb := of_bd hm g.1.1 g1
    have k1 : stem < 6 := by omega
    have ob := ofStem_bd hm g.1.1 g1 g.2.1 k1
    have ap : p_X6_at glyph stem 2 := at_p g.1.1 (by omega) g.2.1 (by omega) (by decide) (by decide)
    have ab := at_bd (w := 2) g.1.1 g1 g.2.1 k1 (by decide) (by decide)
    refine ⟨ofStem_p g.1.1 g1 g.2.1 k1 (by decide) (by decide), ?_⟩
    generalize v_X6_ofStem P glyph stem 2 = was at ob hpost ⊢
    have key : B39 was (beS P glyph stem 0).1 (beS P glyph stem 0).2.1 ((0 : Nat) : Int) (beS P glyph stem 0).2.2 := by
      refine upN (C := fun n => B39 was (beS P glyph stem n).1 (beS P glyph stem n).2.1 (n : Int) (beS P glyph stem n).2.2) 4 ?_ ?_
      · have i := beS_I hm hg g.1.1 g1 g.2.1 k1 4 (by decide)
        refine r39 _ _ _ _ _ ⟨by omega, by omega⟩ ⟨by omega, by omega⟩ ⟨by omega, by omega⟩ ⟨by decide, by decide⟩ (fun _ => ⟨fun z => absurd z (by decide), fun _ => ⟨ap, ab, fun z => ?_, fun z => ?_⟩⟩)
        · rw [if_pos z] at hpost; exact hpost
        · rw [if_neg z] at hpost; exact hpost
      · intro n hn h
        have i := beS_I hm hg g.1.1 g1 g.2.1 k1 n (by omega)
        unfold beS at h
        generalize (beS P glyph stem n).1 = x at i h ⊢
        generalize (beS P glyph stem n).2.1 = y at i h ⊢
        generalize (beS P glyph stem n).2.2 = L at i h ⊢
        have a1 := mNum_hint (v := n) i.1.1 g.1.1 g1 g.2.1 k1 (by omega) (by omega)
        have a2 := mGap_hint (v := n) i.1.1 i.1.2 g.1.1 g1 g.2.1 k1
        refine r39 _ _ _ _ _ ⟨by omega, by omega⟩ ⟨by omega, by omega⟩ ⟨by omega, by omega⟩ ⟨by omega, by omega⟩ (fun _ => ⟨fun _ => ⟨ap, ab, ⟨a1, a2, g.1.1, g1⟩, fun z => ?_, fun z => ?_⟩, fun z => by omega⟩)
        · rw [if_pos z] at h; dsimp only at h; exact h
        · rw [if_neg z] at h; dsimp only at h; exact h
    exact key
def p_X6_stems (P : hGM) : Prop := mNum (P 1)
def v_X6_stems (P : hGM) : Int := sumN (fun g => v_X6_of P g 1) (P 1 0).toNat
set_option maxHeartbeats 4000000 in
theorem x_X6_stems (P : hGM) (hRP : ∀ (i : Nat) (k : Int), i < 100 → hIn (P i k)) (hp : p_X6_stems P) (B4 : Int → Int → Prop) (Po : Int → Prop) 
  (r4 : ∀ (y1 : Int) (y2 : Int), hIn y1 → hIn y2 → (((y2 < (P 1 0) → (p_X6_of P y2 1 ∧ (B4 (y1 + (v_X6_of P y2 1)) (y2 + 1)))) ∧ (¬ y2 < (P 1 0) → (Po y1)))) → (B4 y1 y2)) 
  (hpost : Po (v_X6_stems P)) : (B4 0 0) := by
  have hm : mNum (P 1) := hp
  have n0 := hm.1
  have sb := fun (n : Nat) (hn : n ≤ 8) => sumN_bd (f := fun g => v_X6_of P g 1) (c := 6) n (fun g g0 g1 => of_bd hm g0 (by omega))
  refine upN (C := fun k => B4 (sumN (fun g => v_X6_of P g 1) k) (k : Int)) (P 1 0).toNat ?_ ?_
  · have b := sb (P 1 0).toNat (by omega)
    exact r4 _ _ ⟨by omega, by omega⟩ ⟨by omega, by omega⟩ ⟨fun z => by omega, fun _ => hpost⟩
  · intro k hk h
    have b := sb k (by omega)
    exact r4 _ _ ⟨by omega, by omega⟩ ⟨by omega, by omega⟩ ⟨fun _ => ⟨of_p (by omega) (by omega) (by decide) (by decide), h⟩, fun z => by omega⟩
def p_X6_stales (P : hGM) : Prop := mNum (P 1) ∧ mGap P
def stS (P : hGM) : Nat → Int × hGM
  | 0 => (0, P)
  | n + 1 => ((stS P n).1 + (if v_X6_isStale (stS P n).2 n = 0 then 0 else 1), m_X6_isStale (stS P n).2 n)
def v_X6_stales (P : hGM) : Int := (stS P (P 1 7).toNat).1
def m_X6_stales (P : hGM) : hGM := (stS P (P 1 7).toNat).2
theorem stS_bd (P : hGM) (n : Nat) : 0 ≤ (stS P n).1 ∧ (stS P n).1 ≤ n := by
  induction n with
  | zero => exact ⟨Int.le_refl _, Int.le_refl _⟩
  | succ n ih =>
    show 0 ≤ (stS P n).1 + (if v_X6_isStale (stS P n).2 n = 0 then 0 else 1) ∧ (stS P n).1 + (if v_X6_isStale (stS P n).2 n = 0 then 0 else 1) ≤ _
    split <;> omega
theorem stS_row (P : hGM) (n : Nat) {i : Nat} (h0 : i ≠ 0) (h5 : i ≠ 5) (h6 : i ≠ 6) : (stS P n).2 i = P i := by
  induction n with
  | zero => rfl
  | succ n ih => exact (siS_row _ h0 h5 h6).trans ih
set_option maxHeartbeats 4000000 in
theorem x_X6_stales (P : hGM) (hRP : ∀ (i : Nat) (k : Int), i < 100 → hIn (P i k)) (hp : p_X6_stales P) (B4 : Int → Int → hGM → Prop) (Po : Int → hGM → Prop) 
  (r4 : ∀ (y1 : Int) (y2 : Int) (P1 : hGM), hIn y1 → hIn y2 → ((∀ (i : Nat) (k : Int), i < 100 → hIn (P1 i k)) → ((y2 < (P1 1 7) → (p_X6_isStale P1 y2 ∧ (((v_X6_isStale P1 y2) = 0 → (B4 (y1 + 0) (y2 + 1) (m_X6_isStale P1 y2))) ∧ (¬ (v_X6_isStale P1 y2) = 0 → (B4 (y1 + 1) (y2 + 1) (m_X6_isStale P1 y2)))))) ∧ (¬ y2 < (P1 1 7) → (Po y1 P1)))) → (B4 y1 y2 P1)) 
  (hpost : Po (v_X6_stales P) (m_X6_stales P)) : (B4 0 0 P) := by
  obtain ⟨hm, hg⟩ := hp
  have n7 := hm.2.2.2.2.2.1
  have e : (((P 1 7).toNat : Nat) : Int) = P 1 7 := Int.toNat_of_nonneg n7.1
  refine upN (C := fun k => B4 (stS P k).1 (k : Int) (stS P k).2) (P 1 7).toNat ?_ ?_
  · have b := stS_bd P (P 1 7).toNat
    refine r4 _ _ _ ⟨by omega, by omega⟩ ⟨by omega, by omega⟩ (fun _ => ⟨fun z => ?_, fun _ => hpost⟩)
    rw [stS_row P _ (by decide) (by decide) (by decide)] at z
    omega
  · intro k hk h
    have b := stS_bd P k
    have r1 := stS_row P k (i := 1) (by decide) (by decide) (by decide)
    unfold stS at h
    generalize (stS P k).1 = n at h b ⊢
    generalize (stS P k).2 = L at h r1 ⊢
    have h : B4 (n + (if v_X6_isStale L k = 0 then 0 else 1)) ((k : Int) + 1) (m_X6_isStale L k) := h
    refine r4 _ _ _ ⟨by omega, by omega⟩ ⟨by omega, by omega⟩ (fun _ => ?_)
    rw [r1]
    refine ⟨fun _ => ⟨⟨by rw [r1]; exact hm, mGap_row r1 hg, by omega, by omega⟩, fun c => ?_, fun c => ?_⟩, fun z => by omega⟩
    · rw [if_pos c] at h; exact h
    · rw [if_neg c] at h; exact h
def p_X6_unlikeWidths (P : hGM) : Prop := mNum (P 1)
def v_X6_unlikeWidths (P : hGM) : Int := sumN (fun k => if v_X6_alike P (1 + k) ≤ 0 then 0 else 1) 300
set_option maxHeartbeats 4000000 in
theorem x_X6_unlikeWidths (P : hGM) (hRP : ∀ (i : Nat) (k : Int), i < 100 → hIn (P i k)) (hp : p_X6_unlikeWidths P) (B4 : Int → Int → Prop) (Po : Int → Prop) 
  (r4 : ∀ (y1 : Int) (y2 : Int), hIn y1 → hIn y2 → (((y2 < 301 → (p_X6_alike P y2 ∧ (((v_X6_alike P y2) ≤ 0 → (B4 (y1 + 0) (y2 + 1))) ∧ (¬ (v_X6_alike P y2) ≤ 0 → (B4 (y1 + 1) (y2 + 1)))))) ∧ (¬ y2 < 301 → (Po y1)))) → (B4 y1 y2)) 
  (hpost : Po (v_X6_unlikeWidths P)) : (B4 0 1) := by
  have hm : mNum (P 1) := hp
  have sb := fun n : Nat => sumN_bd (f := fun k => if v_X6_alike P (1 + k) ≤ 0 then 0 else 1) (c := 1) n (fun k _ _ => by
    show 0 ≤ (if _ then (0 : Int) else 1) ∧ (if _ then (0 : Int) else 1) ≤ 1
    split <;> decide)
  refine upN (C := fun k => B4 (sumN (fun k => if v_X6_alike P (1 + k) ≤ 0 then 0 else 1) k) (1 + (k : Int))) 300 ?_ ?_
  · have b := sb 300
    exact r4 _ _ ⟨by omega, by omega⟩ ⟨by omega, by omega⟩ ⟨fun z => by omega, fun _ => hpost⟩
  · intro k hk h
    have b := sb k
    have h : B4 (sumN (fun k => if v_X6_alike P (1 + k) ≤ 0 then 0 else 1) k + (if v_X6_alike P (1 + k) ≤ 0 then 0 else 1)) (1 + ((k + 1 : Nat) : Int)) := h
    rw [show 1 + ((k + 1 : Nat) : Int) = 1 + (k : Int) + 1 by omega] at h
    refine r4 _ _ ⟨by omega, by omega⟩ ⟨by omega, by omega⟩ ⟨fun _ => ⟨hm, fun c => ?_, fun c => ?_⟩, fun z => by omega⟩
    · rw [if_pos c] at h; exact h
    · rw [if_neg c] at h; exact h
def p_X6_count (P : hGM) (what : Int) : Prop := ((what = 0 → True) ∧ (¬ what = 0 → ((what = 1 → (p_X6_stems P ∧ True)) ∧ (¬ what = 1 → ((what = 2 → True) ∧ (¬ what = 2 → ((what = 3 → True) ∧ (¬ what = 3 → ((what = 4 → (p_X6_stales P ∧ True)) ∧ (¬ what = 4 → ((what = 5 → (p_X6_unlikeWidths P ∧ True)) ∧ (¬ what = 5 → ((what = 6 → True) ∧ (¬ what = 6 → ((what = 7 → True) ∧ (¬ what = 7 → ((what = 8 → True) ∧ (¬ what = 8 → ((what = 9 → (((v_X6_in what 20 21) = 0 → True) ∧ (¬ (v_X6_in what 20 21) = 0 → ((0 ≤ ((5 + what) - 20) ∧ ((5 + what) - 20) < 273) ∧ True)))) ∧ (¬ what = 9 → ((what = 10 → (hIn (what - 10) ∧ (((what - 10) < (P 1 1) → ((0 ≤ ((2 + what) - 10) ∧ ((2 + what) - 10) < 273) ∧ True)) ∧ (¬ (what - 10) < (P 1 1) → True)))) ∧ (¬ what = 10 → ((what = 11 → (hIn (what - 10) ∧ (((what - 10) < (P 1 1) → ((0 ≤ ((2 + what) - 10) ∧ ((2 + what) - 10) < 273) ∧ True)) ∧ (¬ (what - 10) < (P 1 1) → True)))) ∧ (¬ what = 11 → ((what = 12 → (hIn (what - 10) ∧ (((what - 10) < (P 1 1) → ((0 ≤ ((2 + what) - 10) ∧ ((2 + what) - 10) < 273) ∧ True)) ∧ (¬ (what - 10) < (P 1 1) → True)))) ∧ (¬ what = 12 → (((v_X6_in what 20 21) = 0 → True) ∧ (¬ (v_X6_in what 20 21) = 0 → ((0 ≤ ((5 + what) - 20) ∧ ((5 + what) - 20) < 273) ∧ True)))))))))))))))))))))))))))))
def v_X6_count (P : hGM) (what : Int) : Int := (if what = 0 then (P 1 0) else (if what = 1 then (v_X6_stems P) else (if what = 2 then (P 1 1) else (if what = 3 then (P 1 7) else (if what = 4 then (v_X6_stales P) else (if what = 5 then (v_X6_unlikeWidths P) else (if what = 6 then (P 1 8) else (if what = 7 then (P 0 3) else (if what = 8 then (P 0 6) else (if what = 9 then (if (v_X6_in what 20 21) = 0 then (-1000001) else (P 1 ((5 + what) - 20))) else (if what = 10 then (if (what - 10) < (P 1 1) then (P 1 ((2 + what) - 10)) else (-1000004)) else (if what = 11 then (if (what - 10) < (P 1 1) then (P 1 ((2 + what) - 10)) else (-1000004)) else (if what = 12 then (if (what - 10) < (P 1 1) then (P 1 ((2 + what) - 10)) else (-1000004)) else (if (v_X6_in what 20 21) = 0 then (-1000001) else (P 1 ((5 + what) - 20))))))))))))))))
def m_X6_count (P : hGM) (what : Int) : hGM := (if what = 0 then P else (if what = 1 then P else (if what = 2 then P else (if what = 3 then P else (if what = 4 then (m_X6_stales P) else (if what = 5 then P else (if what = 6 then P else (if what = 7 then P else (if what = 8 then P else (if what = 9 then (if (v_X6_in what 20 21) = 0 then P else P) else (if what = 10 then (if (what - 10) < (P 1 1) then P else P) else (if what = 11 then (if (what - 10) < (P 1 1) then P else P) else (if what = 12 then (if (what - 10) < (P 1 1) then P else P) else (if (v_X6_in what 20 21) = 0 then P else P))))))))))))))
def p_X6_undo (P : hGM) : Prop := 0 ≤ P 0 3 ∧ P 0 3 ≤ 4
def v_X6_undo (P : hGM) : Int := if P 0 3 = 0 then -1000002 else P 0 3 - 1
def m_X6_undo (P : hGM) : hGM := if P 0 3 = 0 then P else cpR (aset P 0 3 (P 0 3 - 1)) 1 (fun q => P 2 (273 * (P 0 3 - 1) + q)) 273
set_option maxHeartbeats 4000000 in
theorem x_X6_undo (P : hGM) (hRP : ∀ (i : Nat) (k : Int), i < 100 → hIn (P i k)) (hp : p_X6_undo P) (B22 : Int → hGM → Prop) (Po : Int → hGM → Prop) 
  (r22 : ∀ (y1 : Int) (P1 : hGM), hIn y1 → ((∀ (i : Nat) (k : Int), i < 100 → hIn (P1 i k)) → ((y1 < 273 → ((0 ≤ ((273 * (P1 0 3)) + y1) ∧ ((273 * (P1 0 3)) + y1) < 1092) ∧ ((0 ≤ y1 ∧ y1 < 273) ∧ (B22 (y1 + 1) (aset P1 1 y1 (P1 2 ((273 * (P1 0 3)) + y1))))))) ∧ (¬ y1 < 273 → (Po (P1 0 3) P1)))) → (B22 y1 P1)) 
  (hpost : Po (v_X6_undo P) (m_X6_undo P)) : (((P 0 3) = 0 → (Po (-1000002) P)) ∧ (¬ (P 0 3) = 0 → (hIn ((P 0 3) - 1) ∧ (B22 0 (aset P 0 3 ((P 0 3) - 1)))))) := by
  obtain ⟨q0, q1⟩ := hp
  unfold v_X6_undo m_X6_undo at hpost
  refine ⟨fun c => ?_, fun c => ?_⟩
  · rw [if_pos c, if_pos c] at hpost; exact hpost
  · rw [if_neg c, if_neg c] at hpost
    refine ⟨⟨by omega, by omega⟩, ?_⟩
    have e3 : (aset P 0 3 (P 0 3 - 1)) 0 3 = P 0 3 - 1 := aset_at _ _ _ _
    have e2 : (aset P 0 3 (P 0 3 - 1)) 2 = P 2 := aset_row (by decide)
    generalize aset P 0 3 (P 0 3 - 1) = A at e3 e2 hpost ⊢
    have h : B22 0 (cpR A 1 (fun q => P 2 (273 * (P 0 3 - 1) + q)) 0) := by
      refine upI (C := fun k => B22 k (cpR A 1 (fun q => P 2 (273 * (P 0 3 - 1) + q)) k)) (lo := 0) (hi := 273) (by decide) ?_ ?_
      · refine r22 _ _ ⟨by omega, by omega⟩ (fun _ => ⟨fun z => by omega, fun _ => ?_⟩)
        rw [cpR_row (show (0 : Nat) ≠ 1 by decide), e3]
        exact hpost
      · intro k h0 hk h
        refine r22 _ _ ⟨by omega, by omega⟩ (fun _ => ?_)
        rw [cpR_row (show (0 : Nat) ≠ 1 by decide), e3, cpR_row (show (2 : Nat) ≠ 1 by decide), e2]
        refine ⟨fun _ => ⟨⟨by omega, by omega⟩, ⟨by omega, by omega⟩, ?_⟩, fun z => by omega⟩
        have es : aset (cpR A 1 (fun q => P 2 (273 * (P 0 3 - 1) + q)) k) 1 k (P 2 (273 * (P 0 3 - 1) + k)) = cpR A 1 (fun q => P 2 (273 * (P 0 3 - 1) + q)) (k + 1) := cpR_succ (f := fun q => P 2 (273 * (P 0 3 - 1) + q)) h0
        rw [es]
        exact h
    rw [cpR_0] at h
    exact h
def p_X6_type (P : hGM) (character : Int) : Prop := (((v_X6_in character 32 126) = 0 → True) ∧ (¬ (v_X6_in character 32 126) = 0 → (((P 0 6) = 60 → True) ∧ (¬ (P 0 6) = 60 → ((0 ≤ (P 0 6) ∧ (P 0 6) < 60) ∧ (hIn (((aset P 4 (P 0 6) character) 0 6) + 1) ∧ True))))))
def v_X6_type (P : hGM) (character : Int) : Int := (if (v_X6_in character 32 126) = 0 then (-1000001) else (if (P 0 6) = 60 then (-1000003) else ((aset (aset P 4 (P 0 6) character) 0 6 (((aset P 4 (P 0 6) character) 0 6) + 1)) 0 6)))
def m_X6_type (P : hGM) (character : Int) : hGM := (if (v_X6_in character 32 126) = 0 then P else (if (P 0 6) = 60 then P else (aset (aset P 4 (P 0 6) character) 0 6 (((aset P 4 (P 0 6) character) 0 6) + 1))))
def v_X6_clearText (P : hGM) : Int := (P 0 6)
def m_X6_clearText (P : hGM) : hGM := (aset P 0 6 0)
def p_X6_isAt (P : hGM) (low : Int) (high : Int) : Prop := (((P 0 10) < (P 0 6) → ((0 ≤ (P 0 10) ∧ (P 0 10) < 60) ∧ (((v_X6_in (P 4 (P 0 10)) low high) = 0 → True) ∧ (¬ (v_X6_in (P 4 (P 0 10)) low high) = 0 → True)))) ∧ (¬ (P 0 10) < (P 0 6) → True))
def v_X6_isAt (P : hGM) (low : Int) (high : Int) : Int := (if (P 0 10) < (P 0 6) then (if (v_X6_in (P 4 (P 0 10)) low high) = 0 then 0 else 1) else 0)
theorem z_X6_isAt (P : hGM) (low : Int) (high : Int) : v_X6_isAt P low high = 0 ∨ v_X6_isAt P low high = 1 := by
  unfold v_X6_isAt
  (repeat' split) <;> first | exact Or.inl rfl | exact Or.inr rfl | exact z_X6_in _ _ _
def p_X6_sign (P : hGM) (c1 : Int) : Prop := (p_X6_isAt P c1 c1 ∧ (((v_X6_isAt P c1 c1) = 0 → (hIn ((P 0 10) + 0) ∧ True)) ∧ (¬ (v_X6_isAt P c1 c1) = 0 → (hIn ((P 0 10) + 1) ∧ True))))
def v_X6_sign (P : hGM) (c1 : Int) : Int := (if (v_X6_isAt P c1 c1) = 0 then (v_X6_isAt P c1 c1) else (v_X6_isAt P c1 c1))
def m_X6_sign (P : hGM) (c1 : Int) : hGM := (if (v_X6_isAt P c1 c1) = 0 then (aset P 0 10 ((P 0 10) + 0)) else (aset P 0 10 ((P 0 10) + 1)))
theorem z_X6_sign (P : hGM) (c1 : Int) : v_X6_sign P c1 = 0 ∨ v_X6_sign P c1 = 1 := by
  unfold v_X6_sign
  (repeat' split) <;> first | exact Or.inl rfl | exact Or.inr rfl | exact z_X6_isAt _ _ _
/-- where the reading stands, within the text -/
def spI (P : hGM) : Prop := 0 ≤ P 0 10 ∧ P 0 10 ≤ P 0 6 ∧ P 0 6 ≤ 60
def p_X6_numbered (P : hGM) (which : Int) : Prop := spI P ∧ (0 ≤ which ∧ which < 3)
/-- a digit is read -/
def nuD (L : hGM) (w : Int) : hGM := aset (aset L 7 w (((10 * (L 7 w)) + (L 4 (L 0 10))) - 48)) 0 10 (((aset L 7 w (((10 * (L 7 w)) + (L 4 (L 0 10))) - 48)) 0 10) + 1)
def nuR (w s : Int) : Nat → hGM → Int × hGM
  | 0, L => (if L 0 10 ≤ s then 0 else 1, L)
  | n + 1, L => if v_X6_isAt L 48 57 = 0 then (if L 0 10 ≤ s then 0 else 1, L) else nuR w s n (nuD L w)
def v_X6_numbered (P : hGM) (which : Int) : Int := (nuR which (P 0 10) 4 (aset P 7 which 0)).1
def m_X6_numbered (P : hGM) (which : Int) : hGM := (nuR which (P 0 10) 4 (aset P 7 which 0)).2
theorem nuR_01 (w s : Int) (n : Nat) : ∀ L : hGM, (nuR w s n L).1 = 0 ∨ (nuR w s n L).1 = 1 := by
  induction n with
  | zero =>
    intro L
    show (if L 0 10 ≤ s then (0 : Int) else 1) = 0 ∨ (if L 0 10 ≤ s then (0 : Int) else 1) = 1
    split
    · exact Or.inl rfl
    · exact Or.inr rfl
  | succ n ih =>
    intro L
    unfold nuR
    split
    · show (if L 0 10 ≤ s then (0 : Int) else 1) = 0 ∨ (if L 0 10 ≤ s then (0 : Int) else 1) = 1
      split
      · exact Or.inl rfl
      · exact Or.inr rfl
    · exact ih _
theorem z_X6_numbered (P : hGM) (which : Int) : v_X6_numbered P which = 0 ∨ v_X6_numbered P which = 1 := nuR_01 _ _ _ _
theorem isAt_1 {L : hGM} {a b : Int} (h : ¬ v_X6_isAt L a b = 0) : L 0 10 < L 0 6 ∧ a ≤ L 4 (L 0 10) ∧ L 4 (L 0 10) ≤ b := by
  unfold v_X6_isAt at h
  by_cases c : L 0 10 < L 0 6
  · rw [if_pos c] at h
    by_cases c2 : v_X6_in (L 4 (L 0 10)) a b = 0
    · rw [if_pos c2] at h; exact absurd rfl h
    · exact ⟨c, Decidable.not_not.mp (fun z => c2 (in_0.mpr z))⟩
  · rw [if_neg c] at h; exact absurd rfl h
theorem isAt_p {L : hGM} {a b : Int} (h : spI L) : p_X6_isAt L a b := ⟨fun c => ⟨⟨h.1, by have := h.2; omega⟩, fun _ => trivial, fun _ => trivial⟩, fun _ => trivial⟩
theorem nuD_10 (L : hGM) (w : Int) : nuD L w 0 10 = L 0 10 + 1 := by
  unfold nuD
  rw [aset_at, aset_row (by decide)]
theorem nuD_0 {L : hGM} {w q : Int} (h : q ≠ 10) : nuD L w 0 q = L 0 q := by
  unfold nuD
  rw [aset_ne (fun c => h c.2), aset_row (by decide)]
theorem nuD_7 (L : hGM) (w : Int) : nuD L w 7 w = 10 * L 7 w + L 4 (L 0 10) - 48 := by
  unfold nuD
  rw [aset_row (by decide), aset_at]
theorem nuD_row {L : hGM} {w : Int} {i : Nat} (h0 : i ≠ 0) (h7 : i ≠ 7) : nuD L w i = L i := by
  unfold nuD
  rw [aset_row h0, aset_row h7]
theorem nuD_sp {L : hGM} {w : Int} (h : spI L) (c : L 0 10 < L 0 6) : spI (nuD L w) := by
  unfold spI at h ⊢
  rw [nuD_10, nuD_0 (by decide)]
  omega
/-- how great the number can be with n digits to go -/
def nuB : Nat → Int
  | 0 => 9999
  | 1 => 999
  | 2 => 99
  | 3 => 9
  | _ => 0
theorem nuB_s : ∀ n : Nat, n < 4 → nuB n = 10 * nuB (n + 1) + 9 := by decide
theorem nuB_bd : ∀ n : Nat, n < 5 → 0 ≤ nuB n ∧ nuB n ≤ 9999 := by decide
set_option maxHeartbeats 4000000 in
theorem x_X6_numbered (P : hGM) (which : Int) (h_which : hIn which) (hRP : ∀ (i : Nat) (k : Int), i < 100 → hIn (P i k)) (hp : p_X6_numbered P which) (B12 : Int → hGM → Prop) (Po : Int → hGM → Prop) 
  (r12 : ∀ (y2 : Int) (P1 : hGM), hIn y2 → ((∀ (i : Nat) (k : Int), i < 100 → hIn (P1 i k)) → (p_X6_isAt P1 48 57 ∧ (((v_X6_isAt P1 48 57) = 0 → (((P1 0 10) ≤ y2 → (Po 0 P1)) ∧ (¬ (P1 0 10) ≤ y2 → (Po 1 P1)))) ∧ (¬ (v_X6_isAt P1 48 57) = 0 → (hIn ((P1 0 10) - y2) ∧ ((((P1 0 10) - y2) < 4 → ((0 ≤ which ∧ which < 3) ∧ ((0 ≤ (P1 0 10) ∧ (P1 0 10) < 60) ∧ (hIn (((10 * (P1 7 which)) + (P1 4 (P1 0 10))) - 48) ∧ (hIn (((aset P1 7 which (((10 * (P1 7 which)) + (P1 4 (P1 0 10))) - 48)) 0 10) + 1) ∧ (B12 y2 (aset (aset P1 7 which (((10 * (P1 7 which)) + (P1 4 (P1 0 10))) - 48)) 0 10 (((aset P1 7 which (((10 * (P1 7 which)) + (P1 4 (P1 0 10))) - 48)) 0 10) + 1)))))))) ∧ (¬ ((P1 0 10) - y2) < 4 → (((P1 0 10) ≤ y2 → (Po 0 P1)) ∧ (¬ (P1 0 10) ≤ y2 → (Po 1 P1)))))))))) → (B12 y2 P1)) 
  (hpost : Po (v_X6_numbered P which) (m_X6_numbered P which)) : ((0 ≤ which ∧ which < 3) ∧ (B12 (P 0 10) (aset P 7 which 0))) := by
  obtain ⟨hs, w0, w1⟩ := hp
  refine ⟨⟨w0, w1⟩, ?_⟩
  have key : ∀ (n : Nat) (L : hGM), n ≤ 4 → spI L → L 0 10 + n = P 0 10 + 4 → (0 ≤ L 7 which ∧ L 7 which ≤ nuB n) → Po (nuR which (P 0 10) n L).1 (nuR which (P 0 10) n L).2 → B12 (P 0 10) L := by
    intro n
    induction n with
    | zero =>
      intro L h1 h2 h3 h4 h5
      have h5 : Po (if L 0 10 ≤ P 0 10 then 0 else 1) L := h5
      have h2b := h2
      unfold spI at h2b
      unfold spI at hs
      have ends : (L 0 10 ≤ P 0 10 → Po 0 L) ∧ (¬ L 0 10 ≤ P 0 10 → Po 1 L) := ⟨fun z => by rw [if_pos z] at h5; exact h5, fun z => by rw [if_neg z] at h5; exact h5⟩
      exact r12 _ _ ⟨by omega, by omega⟩ (fun _ => ⟨isAt_p h2, fun _ => ends, fun _ => ⟨⟨by omega, by omega⟩, fun z => by omega, fun _ => ends⟩⟩)
    | succ n ih =>
      intro L h1 h2 h3 h4 h5
      unfold nuR at h5
      have h2b := h2
      unfold spI at h2b
      unfold spI at hs
      have b1 := nuB_s n (by omega)
      have b2 := nuB_bd (n + 1) (by omega)
      refine r12 _ _ ⟨by omega, by omega⟩ (fun _ => ⟨isAt_p h2, fun c => ?_, fun c => ⟨⟨by omega, by omega⟩, fun _ => ?_, fun z => by omega⟩⟩)
      · rw [if_pos c] at h5
        have h5 : Po (if L 0 10 ≤ P 0 10 then 0 else 1) L := h5
        exact ⟨fun z => by rw [if_pos z] at h5; exact h5, fun z => by rw [if_neg z] at h5; exact h5⟩
      · rw [if_neg c] at h5
        have a := isAt_1 c
        refine ⟨⟨w0, w1⟩, ⟨by omega, by omega⟩, ⟨by omega, by omega⟩, ?_, ?_⟩
        · rw [aset_row (show (0 : Nat) ≠ 7 by decide)]
          exact ⟨by omega, by omega⟩
        · exact ih (nuD L which) (by omega) (nuD_sp h2 a.1) (by rw [nuD_10]; omega) (by rw [nuD_7]; omega) h5
  refine key 4 _ (by decide) ?_ ?_ ?_ hpost
  · unfold spI at hs ⊢
    rw [aset_row (show (0 : Nat) ≠ 7 by decide)]
    exact hs
  · rw [aset_row (show (0 : Nat) ≠ 7 by decide)]; rfl
  · rw [aset_at]; decide
def v_X6_numbersOf (order : Int) : Int := (if order = 115 then 3 else (if order = 104 then 3 else (if order = 103 then 1 else (if order = 119 then 1 else (if order = 109 then 1 else 0)))))
def p_X6_reads (P : hGM) : Prop := spI P
def reE (y : Int) (L : hGM) : Int × hGM := if y = 0 then (0, L) else (v_X6_sign L 59, m_X6_sign L 59)
def reR : Nat → Int → Int → hGM → Int × hGM
  | 0, y, _, L => reE y L
  | n + 1, y, k, L => if y = 0 then (0, L) else if v_X6_sign L 44 = 0 then reR n 0 (k + 1) (m_X6_sign L 44) else reR n (v_X6_numbered (m_X6_sign L 44) k) (k + 1) (m_X6_numbered (m_X6_sign L 44) k)
/-- the order's sign is read -/
def reO (P : hGM) : hGM := aset P 0 15 (if v_X6_isAt P 33 126 = 0 then 0 else P 4 (P 0 10))
def reN (L : hGM) : hGM := aset L 0 10 (L 0 10 + 1)
def reT (P : hGM) : Int × hGM := if v_X6_numbersOf (reO P 0 15) = 0 then (0, reO P) else reR (v_X6_numbersOf (reO P 0 15) - 1).toNat (v_X6_numbered (reN (reO P)) 0) 1 (m_X6_numbered (reN (reO P)) 0)
def v_X6_reads (P : hGM) : Int := (reT P).1
def m_X6_reads (P : hGM) : hGM := (reT P).2
theorem reR_01 (n : Nat) : ∀ (y k : Int) (L : hGM), (reR n y k L).1 = 0 ∨ (reR n y k L).1 = 1 := by
  induction n with
  | zero =>
    intro y k L
    show (reE y L).1 = 0 ∨ (reE y L).1 = 1
    unfold reE
    split
    · exact Or.inl rfl
    · exact z_X6_sign L 59
  | succ n ih =>
    intro y k L
    unfold reR
    split
    · exact Or.inl rfl
    · split
      · exact ih _ _ _
      · exact ih _ _ _
theorem z_X6_reads (P : hGM) : v_X6_reads P = 0 ∨ v_X6_reads P = 1 := by
  unfold v_X6_reads reT
  split
  · exact Or.inl rfl
  · exact reR_01 _ _ _ _
theorem nuR_sp (w s : Int) (n : Nat) : ∀ L : hGM, spI L → spI (nuR w s n L).2 := by
  induction n with
  | zero => intro L h; exact h
  | succ n ih =>
    intro L h
    unfold nuR
    by_cases c : v_X6_isAt L 48 57 = 0
    · rw [if_pos c]; exact h
    · rw [if_neg c]; exact ih _ (nuD_sp h (isAt_1 c).1)
theorem numbered_sp {P : hGM} {w : Int} (h : spI P) : spI (m_X6_numbered P w) := by
  refine nuR_sp _ _ _ _ ?_
  unfold spI at h ⊢
  rw [aset_row (show (0 : Nat) ≠ 7 by decide)]
  exact h
theorem sign_p {P : hGM} {c : Int} (h : spI P) : p_X6_sign P c := by
  have b := h
  unfold spI at b
  exact ⟨isAt_p h, fun _ => ⟨⟨by omega, by omega⟩, trivial⟩, fun _ => ⟨⟨by omega, by omega⟩, trivial⟩⟩
theorem sign_sp {P : hGM} {c : Int} (h : spI P) : spI (m_X6_sign P c) := by
  unfold m_X6_sign
  split
  · rw [Int.add_zero]
    unfold spI at h ⊢
    rw [aset_at, aset_ne (by decide)]
    exact h
  · next q =>
    have a := isAt_1 q
    unfold spI at h ⊢
    rw [aset_at, aset_ne (by decide)]
    omega
theorem mnof_bd (x : Int) : 0 ≤ v_X6_numbersOf x ∧ v_X6_numbersOf x ≤ 3 := by
  unfold v_X6_numbersOf
  (repeat' split) <;> decide
set_option maxHeartbeats 4000000 in
theorem x_X6_reads (P : hGM) (hRP : ∀ (i : Nat) (k : Int), i < 100 → hIn (P i k)) (hp : p_X6_reads P) (B60 : Int → Int → Int → hGM → Prop) (Po : Int → hGM → Prop) 
  (r60 : ∀ (y1 : Int) (y2 : Int) (y3 : Int) (P1 : hGM), hIn y1 → hIn y2 → hIn y3 → ((∀ (i : Nat) (k : Int), i < 100 → hIn (P1 i k)) → ((y3 < y1 → ((y2 = 0 → (Po 0 P1)) ∧ (¬ y2 = 0 → (p_X6_sign P1 44 ∧ (((v_X6_sign P1 44) = 0 → (B60 y1 0 (y3 + 1) (m_X6_sign P1 44))) ∧ (¬ (v_X6_sign P1 44) = 0 → (p_X6_numbered (m_X6_sign P1 44) y3 ∧ (((v_X6_numbered (m_X6_sign P1 44) y3) = 0 → (B60 y1 0 (y3 + 1) (m_X6_numbered (m_X6_sign P1 44) y3))) ∧ (¬ (v_X6_numbered (m_X6_sign P1 44) y3) = 0 → (B60 y1 1 (y3 + 1) (m_X6_numbered (m_X6_sign P1 44) y3))))))))))) ∧ (¬ y3 < y1 → ((y2 = 0 → (Po 0 P1)) ∧ (¬ y2 = 0 → (p_X6_sign P1 59 ∧ (((v_X6_sign P1 59) = 0 → (Po 0 (m_X6_sign P1 59))) ∧ (¬ (v_X6_sign P1 59) = 0 → (Po 1 (m_X6_sign P1 59)))))))))) → (B60 y1 y2 y3 P1)) 
  (hpost : Po (v_X6_reads P) (m_X6_reads P)) : (p_X6_isAt P 33 126 ∧ (((v_X6_isAt P 33 126) = 0 → (((v_X6_numbersOf ((aset P 0 15 0) 0 15)) = 0 → (Po 0 (aset P 0 15 0))) ∧ (¬ (v_X6_numbersOf ((aset P 0 15 0) 0 15)) = 0 → (hIn (((aset P 0 15 0) 0 10) + 1) ∧ (p_X6_numbered (aset (aset P 0 15 0) 0 10 (((aset P 0 15 0) 0 10) + 1)) 0 ∧ (B60 (v_X6_numbersOf ((aset P 0 15 0) 0 15)) (v_X6_numbered (aset (aset P 0 15 0) 0 10 (((aset P 0 15 0) 0 10) + 1)) 0) 1 (m_X6_numbered (aset (aset P 0 15 0) 0 10 (((aset P 0 15 0) 0 10) + 1)) 0))))))) ∧ (¬ (v_X6_isAt P 33 126) = 0 → ((0 ≤ (P 0 10) ∧ (P 0 10) < 60) ∧ (((v_X6_numbersOf ((aset P 0 15 (P 4 (P 0 10))) 0 15)) = 0 → (Po 0 (aset P 0 15 (P 4 (P 0 10))))) ∧ (¬ (v_X6_numbersOf ((aset P 0 15 (P 4 (P 0 10))) 0 15)) = 0 → (hIn (((aset P 0 15 (P 4 (P 0 10))) 0 10) + 1) ∧ (p_X6_numbered (aset (aset P 0 15 (P 4 (P 0 10))) 0 10 (((aset P 0 15 (P 4 (P 0 10))) 0 10) + 1)) 0 ∧ (B60 (v_X6_numbersOf ((aset P 0 15 (P 4 (P 0 10))) 0 15)) (v_X6_numbered (aset (aset P 0 15 (P 4 (P 0 10))) 0 10 (((aset P 0 15 (P 4 (P 0 10))) 0 10) + 1)) 0) 1 (m_X6_numbered (aset (aset P 0 15 (P 4 (P 0 10))) 0 10 (((aset P 0 15 (P 4 (P 0 10))) 0 10) + 1)) 0)))))))))) := by
  have hs : spI P := hp
  unfold v_X6_reads m_X6_reads at hpost
  have key : ∀ (many : Int), many ≤ 3 → ∀ (n : Nat) (y k : Int) (L : hGM), k + n = many → 1 ≤ k → (y = 0 ∨ y = 1) → spI L → Po (reR n y k L).1 (reR n y k L).2 → B60 many y k L := by
    intro many hm n
    have hb : ∀ y : Int, y = 0 ∨ y = 1 → hIn y := fun y q => by rcases q with q | q <;> rw [q] <;> exact ⟨by decide, by decide⟩
    induction n with
    | zero =>
      intro y k L h1 h2 h3 h4 h5
      have h5 : Po (reE y L).1 (reE y L).2 := h5
      unfold reE at h5
      refine r60 _ _ _ _ ⟨by omega, by omega⟩ (hb y h3) ⟨by omega, by omega⟩ (fun _ => ⟨fun z => by omega, fun _ => ⟨fun c => ?_, fun c => ⟨sign_p h4, fun c2 => ?_, fun c2 => ?_⟩⟩⟩)
      · rw [if_pos c] at h5; exact h5
      · rw [if_neg c] at h5
        have h5 : Po (v_X6_sign L 59) (m_X6_sign L 59) := h5
        rw [c2] at h5; exact h5
      · rw [if_neg c] at h5
        have h5 : Po (v_X6_sign L 59) (m_X6_sign L 59) := h5
        rw [(z_X6_sign L 59).resolve_left c2] at h5; exact h5
    | succ n ih =>
      intro y k L h1 h2 h3 h4 h5
      unfold reR at h5
      have s4 := sign_sp (c := 44) h4
      refine r60 _ _ _ _ ⟨by omega, by omega⟩ (hb y h3) ⟨by omega, by omega⟩ (fun _ => ⟨fun _ => ⟨fun c => ?_, fun c => ⟨sign_p h4, fun c2 => ?_, fun c2 => ⟨⟨s4, by omega, by omega⟩, fun c3 => ?_, fun c3 => ?_⟩⟩⟩, fun z => by omega⟩)
      · rw [if_pos c] at h5; exact h5
      · rw [if_neg c, if_pos c2] at h5
        exact ih _ _ _ (by omega) (by omega) (Or.inl rfl) s4 h5
      · rw [if_neg c, if_neg c2, c3] at h5
        exact ih _ _ _ (by omega) (by omega) (Or.inl rfl) (numbered_sp s4) h5
      · rw [if_neg c, if_neg c2, (z_X6_numbered (m_X6_sign L 44) k).resolve_left c3] at h5
        exact ih _ _ _ (by omega) (by omega) (Or.inr rfl) (numbered_sp s4) h5
  have e15 : ∀ x : Int, (aset P 0 15 x) 0 15 = x := fun x => aset_at _ _ _ _
  have e10 : ∀ x : Int, (aset P 0 15 x) 0 10 = P 0 10 := fun x => aset_ne (by decide)
  have e6 : ∀ x : Int, (aset P 0 15 x) 0 6 = P 0 6 := fun x => aset_ne (by decide)
  have hsb := hs
  unfold spI at hsb
  refine ⟨isAt_p hs, fun c => ?_, fun c => ?_⟩
  · rw [e15]
    have n0 : v_X6_numbersOf 0 = 0 := by decide
    refine ⟨fun _ => ?_, fun z => absurd n0 z⟩
    have e : reO P = aset P 0 15 0 := by unfold reO; rw [if_pos c]
    unfold reT at hpost
    rw [e, e15, if_pos n0] at hpost
    exact hpost
  · have a := isAt_1 c
    have e : reO P = aset P 0 15 (P 4 (P 0 10)) := by unfold reO; rw [if_neg c]
    refine ⟨⟨by omega, by omega⟩, ?_⟩
    unfold reT at hpost
    rw [e] at hpost
    have nb := mnof_bd ((aset P 0 15 (P 4 (P 0 10))) 0 15)
    have h10 := e10 (P 4 (P 0 10))
    have h6 := e6 (P 4 (P 0 10))
    generalize aset P 0 15 (P 4 (P 0 10)) = A at hpost nb h10 h6 ⊢
    refine ⟨fun z => ?_, fun z => ?_⟩
    · rw [if_pos z] at hpost; exact hpost
    · rw [if_neg z] at hpost
      have hN : spI (reN A) := by
        unfold spI reN
        rw [aset_at, aset_ne (by decide)]
        omega
      refine ⟨⟨by omega, by omega⟩, ⟨hN, by decide, by decide⟩, ?_⟩
      exact key _ nb.2 _ _ _ _ (by omega) (by decide) (z_X6_numbered _ _) (numbered_sp hN) hpost
def p_X6_calls (P : hGM) : Prop := (((P 0 15) = 103 → (p_X6_glyph P (P 7 0) ∧ True)) ∧ (¬ (P 0 15) = 103 → (((P 0 15) = 104 → (p_X6_hint P (P 7 0) (P 7 1) (P 7 2) ∧ True)) ∧ (¬ (P 0 15) = 104 → (((P 0 15) = 115 → (p_X6_stem P (P 7 0) (P 7 1) (P 7 2) ∧ True)) ∧ (¬ (P 0 15) = 115 → (((P 0 15) = 119 → (p_X6_standard P (P 7 0) ∧ True)) ∧ (¬ (P 0 15) = 119 → (p_X6_make P (P 7 0) ∧ True)))))))))
def v_X6_calls (P : hGM) : Int := (if (P 0 15) = 103 then (v_X6_glyph P (P 7 0)) else (if (P 0 15) = 104 then (v_X6_hint P (P 7 0) (P 7 1) (P 7 2)) else (if (P 0 15) = 115 then (v_X6_stem P (P 7 0) (P 7 1) (P 7 2)) else (if (P 0 15) = 119 then (v_X6_standard P (P 7 0)) else (v_X6_make P (P 7 0))))))
def m_X6_calls (P : hGM) : hGM := (if (P 0 15) = 103 then (m_X6_glyph P (P 7 0)) else (if (P 0 15) = 104 then (m_X6_hint P (P 7 0) (P 7 1) (P 7 2)) else (if (P 0 15) = 115 then (m_X6_stem P (P 7 0) (P 7 1) (P 7 2)) else (if (P 0 15) = 119 then (m_X6_standard P (P 7 0)) else (m_X6_make P (P 7 0))))))
/-- an order is read -/
def plL (L : hGM) : hGM := m_X6_reads (aset L 0 11 (L 0 10))
def plV (L : hGM) : Int := v_X6_reads (aset L 0 11 (L 0 10))
def plA (R : hGM) : hGM := aset (aset (aset R 0 12 1) 0 13 (((aset R 0 12 1) 0 10) - ((aset R 0 12 1) 0 11))) 0 14 (((aset (aset R 0 12 1) 0 13 (((aset R 0 12 1) 0 10) - ((aset R 0 12 1) 0 11))) 0 14) + 1)
def plB (R : hGM) : hGM := aset (aset (aset (m_X6_calls R) 0 12 2) 0 13 (v_X6_calls R)) 0 14 (((aset (aset (m_X6_calls R) 0 12 2) 0 13 (v_X6_calls R)) 0 14) + 1)
def plR : Nat → Int → hGM → Int × hGM
  | 0, y, L => (y, aset L 0 4 0)
  | n + 1, y, L => if L 0 10 < L 0 6 then (if y = 0 then (y, aset L 0 4 0) else if plV L = 0 then plR n 0 (plA (plL L)) else if v_X6_calls (plL L) < 0 then plR n 0 (plB (plL L)) else plR n 1 (plB (plL L))) else (y, aset L 0 4 0)
/-- what the play needs on its road -/
def plP : Nat → Int → hGM → Prop
  | 0, y, L => ¬ (L 0 10 < L 0 6 ∧ ¬ y = 0)
  | n + 1, y, L => L 0 10 < L 0 6 → ¬ y = 0 → p_X6_reads (aset L 0 11 (L 0 10)) ∧ (plV L = 0 → hIn (((aset (plL L) 0 12 1) 0 10) - ((aset (plL L) 0 12 1) 0 11)) ∧ hIn (((aset (aset (plL L) 0 12 1) 0 13 (((aset (plL L) 0 12 1) 0 10) - ((aset (plL L) 0 12 1) 0 11))) 0 14) + 1) ∧ plP n 0 (plA (plL L))) ∧ (¬ plV L = 0 → p_X6_calls (plL L) ∧ hIn (((aset (aset (m_X6_calls (plL L)) 0 12 2) 0 13 (v_X6_calls (plL L))) 0 14) + 1) ∧ (v_X6_calls (plL L) < 0 → plP n 0 (plB (plL L))) ∧ (¬ v_X6_calls (plL L) < 0 → plP n 1 (plB (plL L))))
def plI (P : hGM) : hGM := aset (aset (aset (aset P 0 4 1) 0 10 0) 0 11 0) 0 14 0
def p_X6_plays (P : hGM) : Prop := plP 61 1 (plI P)
def v_X6_plays (P : hGM) : Int := (plR 61 1 (plI P)).1
def m_X6_plays (P : hGM) : hGM := (plR 61 1 (plI P)).2
theorem plR_01 (n : Nat) : ∀ (y : Int) (L : hGM), (y = 0 ∨ y = 1) → (plR n y L).1 = 0 ∨ (plR n y L).1 = 1 := by
  induction n with
  | zero => intro y L h; exact h
  | succ n ih =>
    intro y L h
    unfold plR
    split
    · split
      · exact h
      · split
        · exact ih _ _ (Or.inl rfl)
        · split
          · exact ih _ _ (Or.inl rfl)
          · exact ih _ _ (Or.inr rfl)
    · exact h
theorem z_X6_plays (P : hGM) : v_X6_plays P = 0 ∨ v_X6_plays P = 1 := plR_01 _ _ _ (Or.inr rfl)
set_option maxHeartbeats 4000000 in
theorem x_X6_plays (P : hGM) (hRP : ∀ (i : Nat) (k : Int), i < 100 → hIn (P i k)) (hp : p_X6_plays P) (B22 : Int → hGM → Prop) (Po : Int → hGM → Prop) 
  (r22 : ∀ (y1 : Int) (P1 : hGM), hIn y1 → ((∀ (i : Nat) (k : Int), i < 100 → hIn (P1 i k)) → (((P1 0 10) < (P1 0 6) → ((y1 = 0 → ((y1 = 0 ∨ y1 = 1) ∧ (Po y1 (aset P1 0 4 0)))) ∧ (¬ y1 = 0 → (p_X6_reads (aset P1 0 11 (P1 0 10)) ∧ (((v_X6_reads (aset P1 0 11 (P1 0 10))) = 0 → (hIn (((aset (m_X6_reads (aset P1 0 11 (P1 0 10))) 0 12 1) 0 10) - ((aset (m_X6_reads (aset P1 0 11 (P1 0 10))) 0 12 1) 0 11)) ∧ (hIn (((aset (aset (m_X6_reads (aset P1 0 11 (P1 0 10))) 0 12 1) 0 13 (((aset (m_X6_reads (aset P1 0 11 (P1 0 10))) 0 12 1) 0 10) - ((aset (m_X6_reads (aset P1 0 11 (P1 0 10))) 0 12 1) 0 11))) 0 14) + 1) ∧ (B22 0 (aset (aset (aset (m_X6_reads (aset P1 0 11 (P1 0 10))) 0 12 1) 0 13 (((aset (m_X6_reads (aset P1 0 11 (P1 0 10))) 0 12 1) 0 10) - ((aset (m_X6_reads (aset P1 0 11 (P1 0 10))) 0 12 1) 0 11))) 0 14 (((aset (aset (m_X6_reads (aset P1 0 11 (P1 0 10))) 0 12 1) 0 13 (((aset (m_X6_reads (aset P1 0 11 (P1 0 10))) 0 12 1) 0 10) - ((aset (m_X6_reads (aset P1 0 11 (P1 0 10))) 0 12 1) 0 11))) 0 14) + 1)))))) ∧ (¬ (v_X6_reads (aset P1 0 11 (P1 0 10))) = 0 → (p_X6_calls (m_X6_reads (aset P1 0 11 (P1 0 10))) ∧ (((v_X6_calls (m_X6_reads (aset P1 0 11 (P1 0 10)))) < 0 → (hIn (((aset (aset (m_X6_calls (m_X6_reads (aset P1 0 11 (P1 0 10)))) 0 12 2) 0 13 (v_X6_calls (m_X6_reads (aset P1 0 11 (P1 0 10))))) 0 14) + 1) ∧ (B22 0 (aset (aset (aset (m_X6_calls (m_X6_reads (aset P1 0 11 (P1 0 10)))) 0 12 2) 0 13 (v_X6_calls (m_X6_reads (aset P1 0 11 (P1 0 10))))) 0 14 (((aset (aset (m_X6_calls (m_X6_reads (aset P1 0 11 (P1 0 10)))) 0 12 2) 0 13 (v_X6_calls (m_X6_reads (aset P1 0 11 (P1 0 10))))) 0 14) + 1))))) ∧ (¬ (v_X6_calls (m_X6_reads (aset P1 0 11 (P1 0 10)))) < 0 → (hIn (((aset (aset (m_X6_calls (m_X6_reads (aset P1 0 11 (P1 0 10)))) 0 12 2) 0 13 (v_X6_calls (m_X6_reads (aset P1 0 11 (P1 0 10))))) 0 14) + 1) ∧ (B22 1 (aset (aset (aset (m_X6_calls (m_X6_reads (aset P1 0 11 (P1 0 10)))) 0 12 2) 0 13 (v_X6_calls (m_X6_reads (aset P1 0 11 (P1 0 10))))) 0 14 (((aset (aset (m_X6_calls (m_X6_reads (aset P1 0 11 (P1 0 10)))) 0 12 2) 0 13 (v_X6_calls (m_X6_reads (aset P1 0 11 (P1 0 10))))) 0 14) + 1))))))))))))) ∧ (¬ (P1 0 10) < (P1 0 6) → ((y1 = 0 ∨ y1 = 1) ∧ (Po y1 (aset P1 0 4 0)))))) → (B22 y1 P1)) 
  (hpost : Po (v_X6_plays P) (m_X6_plays P)) : (B22 1 (aset (aset (aset (aset P 0 4 1) 0 10 0) 0 11 0) 0 14 0)) := by
  have key : ∀ (n : Nat) (y : Int) (L : hGM), (y = 0 ∨ y = 1) → plP n y L → Po (plR n y L).1 (plR n y L).2 → B22 y L := by
    have hb : ∀ y : Int, y = 0 ∨ y = 1 → hIn y := fun y q => by rcases q with q | q <;> rw [q] <;> exact ⟨by decide, by decide⟩
    intro n
    induction n with
    | zero =>
      intro y L h1 h2 h3
      have h3 : Po y (aset L 0 4 0) := h3
      exact r22 _ _ (hb y h1) (fun _ => ⟨fun c => ⟨fun _ => ⟨h1, h3⟩, fun c2 => absurd ⟨c, c2⟩ h2⟩, fun _ => ⟨h1, h3⟩⟩)
    | succ n ih =>
      intro y L h1 h2 h3
      unfold plR at h3
      refine r22 _ _ (hb y h1) (fun _ => ⟨fun c => ⟨fun c2 => ?_, fun c2 => ?_⟩, fun c => ?_⟩)
      · rw [if_pos c, if_pos c2] at h3; exact ⟨h1, h3⟩
      · rw [if_pos c, if_neg c2] at h3
        obtain ⟨p1, p2, p3⟩ := h2 c c2
        refine ⟨p1, fun c3 => ?_, fun c3 => ?_⟩
        · rw [if_pos (show plV L = 0 from c3)] at h3
          obtain ⟨q1, q2, q3⟩ := p2 c3
          exact ⟨q1, q2, ih _ _ (Or.inl rfl) q3 h3⟩
        · rw [if_neg (show ¬ plV L = 0 from c3)] at h3
          obtain ⟨q1, q2, q3, q4⟩ := p3 c3
          refine ⟨q1, fun c4 => ⟨q2, ?_⟩, fun c4 => ⟨q2, ?_⟩⟩
          · rw [if_pos (show v_X6_calls (plL L) < 0 from c4)] at h3
            exact ih _ _ (Or.inl rfl) (q3 c4) h3
          · rw [if_neg (show ¬ v_X6_calls (plL L) < 0 from c4)] at h3
            exact ih _ _ (Or.inr rfl) (q4 c4) h3
      · rw [if_neg c] at h3; exact ⟨h1, h3⟩
  exact key 61 1 _ (Or.inr rfl) hp hpost
def p_X6_fault (P : hGM) (what : Int) : Prop := (((v_X6_in what 0 2) = 0 → True) ∧ (¬ (v_X6_in what 0 2) = 0 → (p_X6_copies P 1 273 3 273 ∧ (p_X6_plays (m_X6_copies P 1 273 3 273) ∧ (p_X6_copies (m_X6_plays (m_X6_copies P 1 273 3 273)) 3 273 1 273 ∧ (((v_X6_plays (m_X6_copies P 1 273 3 273)) = 0 → ((what = 0 → True) ∧ (¬ what = 0 → ((what = 1 → True) ∧ (¬ what = 1 → True))))) ∧ (¬ (v_X6_plays (m_X6_copies P 1 273 3 273)) = 0 → True)))))))
def v_X6_fault (P : hGM) (what : Int) : Int := (if (v_X6_in what 0 2) = 0 then (-1000001) else (if (v_X6_plays (m_X6_copies P 1 273 3 273)) = 0 then (if what = 0 then ((m_X6_copies (m_X6_plays (m_X6_copies P 1 273 3 273)) 3 273 1 273) 0 11) else (if what = 1 then ((m_X6_copies (m_X6_plays (m_X6_copies P 1 273 3 273)) 3 273 1 273) 0 12) else ((m_X6_copies (m_X6_plays (m_X6_copies P 1 273 3 273)) 3 273 1 273) 0 13))) else (-1000004)))
def m_X6_fault (P : hGM) (what : Int) : hGM := (if (v_X6_in what 0 2) = 0 then P else (if (v_X6_plays (m_X6_copies P 1 273 3 273)) = 0 then (if what = 0 then (m_X6_copies (m_X6_plays (m_X6_copies P 1 273 3 273)) 3 273 1 273) else (if what = 1 then (m_X6_copies (m_X6_plays (m_X6_copies P 1 273 3 273)) 3 273 1 273) else (m_X6_copies (m_X6_plays (m_X6_copies P 1 273 3 273)) 3 273 1 273))) else (m_X6_copies (m_X6_plays (m_X6_copies P 1 273 3 273)) 3 273 1 273)))
def p_X6_play (P : hGM) : Prop := (p_X6_copies P 1 273 3 273 ∧ (p_X6_plays (m_X6_copies P 1 273 3 273) ∧ (p_X6_copies (m_X6_plays (m_X6_copies P 1 273 3 273)) 3 273 1 273 ∧ (((v_X6_plays (m_X6_copies P 1 273 3 273)) = 0 → True) ∧ (¬ (v_X6_plays (m_X6_copies P 1 273 3 273)) = 0 → (p_X6_changes (m_X6_copies (m_X6_plays (m_X6_copies P 1 273 3 273)) 3 273 1 273) ∧ (p_X6_plays (m_X6_changes (m_X6_copies (m_X6_plays (m_X6_copies P 1 273 3 273)) 3 273 1 273)) ∧ (((v_X6_plays (m_X6_changes (m_X6_copies (m_X6_plays (m_X6_copies P 1 273 3 273)) 3 273 1 273))) = 0 → True) ∧ (¬ (v_X6_plays (m_X6_changes (m_X6_copies (m_X6_plays (m_X6_copies P 1 273 3 273)) 3 273 1 273))) = 0 → True)))))))))
def v_X6_play (P : hGM) : Int := (if (v_X6_plays (m_X6_copies P 1 273 3 273)) = 0 then (-1000002) else (if (v_X6_plays (m_X6_changes (m_X6_copies (m_X6_plays (m_X6_copies P 1 273 3 273)) 3 273 1 273))) = 0 then (-1000004) else ((m_X6_plays (m_X6_changes (m_X6_copies (m_X6_plays (m_X6_copies P 1 273 3 273)) 3 273 1 273))) 0 14)))
def m_X6_play (P : hGM) : hGM := (if (v_X6_plays (m_X6_copies P 1 273 3 273)) = 0 then (m_X6_copies (m_X6_plays (m_X6_copies P 1 273 3 273)) 3 273 1 273) else (if (v_X6_plays (m_X6_changes (m_X6_copies (m_X6_plays (m_X6_copies P 1 273 3 273)) 3 273 1 273))) = 0 then (m_X6_plays (m_X6_changes (m_X6_copies (m_X6_plays (m_X6_copies P 1 273 3 273)) 3 273 1 273))) else (m_X6_plays (m_X6_changes (m_X6_copies (m_X6_plays (m_X6_copies P 1 273 3 273)) 3 273 1 273)))))

def p_X5_stemOf (S : hS) (glyph : Int) (stem : Int) (what : Int) : Prop := (p_X1_hasStem (S 0) glyph stem ∧ (((v_X1_hasStem (S 0) glyph stem) = 0 → True) ∧ (¬ (v_X1_hasStem (S 0) glyph stem) = 0 → (((v_X5_within what 0 6) = 0 → True) ∧ (¬ (v_X5_within what 0 6) = 0 → (hIn ((glyph * 6) + stem) ∧ ((what = 0 → True) ∧ (¬ what = 0 → ((what = 1 → True) ∧ (¬ what = 1 → ((what = 2 → True) ∧ (¬ what = 2 → ((what = 3 → (p_X1_hintedWidth (S 0) (v_X5_cell (S 0) 4 48 ((glyph * 6) + stem)) ∧ True)) ∧ (¬ what = 3 → ((what = 4 → (p_X1_snapOf (S 0) (v_X5_cell (S 0) 4 48 ((glyph * 6) + stem)) ∧ (((v_X1_snapOf (S 0) (v_X5_cell (S 0) 4 48 ((glyph * 6) + stem))) = 0 → True) ∧ (¬ (v_X1_snapOf (S 0) (v_X5_cell (S 0) 4 48 ((glyph * 6) + stem))) = 0 → True)))) ∧ (¬ what = 4 → ((what = 5 → (p_X1_alikeWith (S 0) (v_X5_cell (S 0) 4 48 ((glyph * 6) + stem)) ∧ True)) ∧ (¬ what = 5 → ((stem = 0 → True) ∧ (¬ stem = 0 → (hIn (((glyph * 6) + stem) - 1) ∧ (p_X1_endOf (S 0) (((glyph * 6) + stem) - 1) ∧ (hIn ((v_X5_cell (S 0) 3 48 ((glyph * 6) + stem)) - (v_X1_endOf (S 0) (((glyph * 6) + stem) - 1))) ∧ True)))))))))))))))))))))))
def v_X5_stemOf (S : hS) (glyph : Int) (stem : Int) (what : Int) : Int := (if (v_X1_hasStem (S 0) glyph stem) = 0 then (-1000001) else (if (v_X5_within what 0 6) = 0 then (-1000001) else (if what = 0 then (v_X5_cell (S 0) 3 48 ((glyph * 6) + stem)) else (if what = 1 then (v_X5_cell (S 0) 4 48 ((glyph * 6) + stem)) else (if what = 2 then (v_X5_cell (S 0) 5 48 ((glyph * 6) + stem)) else (if what = 3 then (v_X1_hintedWidth (S 0) (v_X5_cell (S 0) 4 48 ((glyph * 6) + stem))) else (if what = 4 then (if (v_X1_snapOf (S 0) (v_X5_cell (S 0) 4 48 ((glyph * 6) + stem))) = 0 then (-1000004) else (v_X1_snapOf (S 0) (v_X5_cell (S 0) 4 48 ((glyph * 6) + stem)))) else (if what = 5 then (v_X1_alikeWith (S 0) (v_X5_cell (S 0) 4 48 ((glyph * 6) + stem))) else (if stem = 0 then (-1000004) else ((v_X5_cell (S 0) 3 48 ((glyph * 6) + stem)) - (v_X1_endOf (S 0) (((glyph * 6) + stem) - 1))))))))))))
def p_X5_pixels (S : hS) (glyph : Int) (stem : Int) (size : Int) (what : Int) : Prop := (p_X1_hasStem (S 0) glyph stem ∧ (((v_X1_hasStem (S 0) glyph stem) = 0 → True) ∧ (¬ (v_X1_hasStem (S 0) glyph stem) = 0 → (((v_X5_isSize size) = 0 → True) ∧ (¬ (v_X5_isSize size) = 0 → (((v_X5_within what 0 3) = 0 → True) ∧ (¬ (v_X5_within what 0 3) = 0 → (p_X0_lay (S 0) (S 7) glyph size ∧ ((what = 0 → True) ∧ (¬ what = 0 → ((what = 1 → True) ∧ (¬ what = 1 → ((what = 2 → True) ∧ (¬ what = 2 → True))))))))))))))
def v_X5_pixels (S : hS) (glyph : Int) (stem : Int) (size : Int) (what : Int) : Int := (if (v_X1_hasStem (S 0) glyph stem) = 0 then (-1000001) else (if (v_X5_isSize size) = 0 then (-1000001) else (if (v_X5_within what 0 3) = 0 then (-1000001) else (if what = 0 then (v_X5_cell (m_X0_lay (S 0) (S 7) glyph size) 1 6 stem) else (if what = 1 then (v_X5_cell (m_X0_lay (S 0) (S 7) glyph size) 2 6 stem) else (if what = 2 then (iAnd (iShr ((m_X0_lay (S 0) (S 7) glyph size) 0 1) stem) 1) else (iAnd (iShr ((m_X0_lay (S 0) (S 7) glyph size) 0 2) stem) 1)))))))
def m_X5_pixels (S : hS) (glyph : Int) (stem : Int) (size : Int) (what : Int) : hS := (if (v_X1_hasStem (S 0) glyph stem) = 0 then S else (if (v_X5_isSize size) = 0 then S else (if (v_X5_within what 0 3) = 0 then S else (if what = 0 then (gset S 7 (m_X0_lay (S 0) (S 7) glyph size)) else (if what = 1 then (gset S 7 (m_X0_lay (S 0) (S 7) glyph size)) else (if what = 2 then (gset S 7 (m_X0_lay (S 0) (S 7) glyph size)) else (gset S 7 (m_X0_lay (S 0) (S 7) glyph size))))))))
def p_X5_glyphOf (S : hS) (glyph : Int) (size : Int) (what : Int) : Prop := (p_X1_hasGlyph (S 0) glyph ∧ (((v_X1_hasGlyph (S 0) glyph) = 0 → True) ∧ (¬ (v_X1_hasGlyph (S 0) glyph) = 0 → (((v_X5_isSize size) = 0 → True) ∧ (¬ (v_X5_isSize size) = 0 → (((v_X5_within what 0 5) = 0 → True) ∧ (¬ (v_X5_within what 0 5) = 0 → (p_X0_lay (S 0) (S 7) glyph size ∧ ((what = 0 → True) ∧ (¬ what = 0 → ((what = 1 → True) ∧ (¬ what = 1 → ((what = 2 → (((v_X0_isClear (m_X0_lay (S 0) (S 7) glyph size)) = 0 → True) ∧ (¬ (v_X0_isClear (m_X0_lay (S 0) (S 7) glyph size)) = 0 → True))) ∧ (¬ what = 2 → ((what = 3 → True) ∧ (¬ what = 3 → ((what = 4 → True) ∧ (¬ what = 4 → True))))))))))))))))))
def v_X5_glyphOf (S : hS) (glyph : Int) (size : Int) (what : Int) : Int := (if (v_X1_hasGlyph (S 0) glyph) = 0 then (-1000001) else (if (v_X5_isSize size) = 0 then (-1000001) else (if (v_X5_within what 0 5) = 0 then (-1000001) else (if what = 0 then ((m_X0_lay (S 0) (S 7) glyph size) 0 0) else (if what = 1 then (v_J13_bitCount_95d88 ((m_X0_lay (S 0) (S 7) glyph size) 100 0)) else (if what = 2 then (if (v_X0_isClear (m_X0_lay (S 0) (S 7) glyph size)) = 0 then 0 else 1) else (if what = 3 then ((m_X0_lay (S 0) (S 7) glyph size) 0 1) else (if what = 4 then ((m_X0_lay (S 0) (S 7) glyph size) 0 2) else (v_X5_runsOf ((m_X0_lay (S 0) (S 7) glyph size) 100 0))))))))))
def m_X5_glyphOf (S : hS) (glyph : Int) (size : Int) (what : Int) : hS := (if (v_X1_hasGlyph (S 0) glyph) = 0 then S else (if (v_X5_isSize size) = 0 then S else (if (v_X5_within what 0 5) = 0 then S else (if what = 0 then (gset S 7 (m_X0_lay (S 0) (S 7) glyph size)) else (if what = 1 then (gset S 7 (m_X0_lay (S 0) (S 7) glyph size)) else (if what = 2 then (if (v_X0_isClear (m_X0_lay (S 0) (S 7) glyph size)) = 0 then (gset S 7 (m_X0_lay (S 0) (S 7) glyph size)) else (gset S 7 (m_X0_lay (S 0) (S 7) glyph size))) else (if what = 3 then (gset S 7 (m_X0_lay (S 0) (S 7) glyph size)) else (if what = 4 then (gset S 7 (m_X0_lay (S 0) (S 7) glyph size)) else (gset S 7 (m_X0_lay (S 0) (S 7) glyph size))))))))))
def p_X5_lit (S : hS) (glyph : Int) (size : Int) (column : Int) : Prop := (p_X1_hasGlyph (S 0) glyph ∧ (((v_X1_hasGlyph (S 0) glyph) = 0 → True) ∧ (¬ (v_X1_hasGlyph (S 0) glyph) = 0 → (((v_X5_isSize size) = 0 → True) ∧ (¬ (v_X5_isSize size) = 0 → (((v_X5_within column 0 63) = 0 → True) ∧ (¬ (v_X5_within column 0 63) = 0 → (p_X0_lay (S 0) (S 7) glyph size ∧ ((column < ((m_X0_lay (S 0) (S 7) glyph size) 0 0) → True) ∧ (¬ column < ((m_X0_lay (S 0) (S 7) glyph size) 0 0) → True))))))))))
def v_X5_lit (S : hS) (glyph : Int) (size : Int) (column : Int) : Int := (if (v_X1_hasGlyph (S 0) glyph) = 0 then (-1000001) else (if (v_X5_isSize size) = 0 then (-1000001) else (if (v_X5_within column 0 63) = 0 then (-1000001) else (if column < ((m_X0_lay (S 0) (S 7) glyph size) 0 0) then (v_X5_bitOf ((m_X0_lay (S 0) (S 7) glyph size) 100 0) column) else (-1000004)))))
def m_X5_lit (S : hS) (glyph : Int) (size : Int) (column : Int) : hS := (if (v_X1_hasGlyph (S 0) glyph) = 0 then S else (if (v_X5_isSize size) = 0 then S else (if (v_X5_within column 0 63) = 0 then S else (if column < ((m_X0_lay (S 0) (S 7) glyph size) 0 0) then (gset S 7 (m_X0_lay (S 0) (S 7) glyph size)) else (gset S 7 (m_X0_lay (S 0) (S 7) glyph size))))))
def p_X5_inSheet (S : hS) (size : Int) (glyph : Int) (column : Int) : Prop := (((v_X5_isSize size) = 0 → True) ∧ (¬ (v_X5_isSize size) = 0 → (((v_X5_within glyph 0 7) = 0 → True) ∧ (¬ (v_X5_within glyph 0 7) = 0 → (((v_X5_within column 0 63) = 0 → True) ∧ (¬ (v_X5_within column 0 63) = 0 → (p_X4_slotOf (S 0) size ∧ (((v_X4_slotOf (S 0) size) < 0 → True) ∧ (¬ (v_X4_slotOf (S 0) size) < 0 → ((glyph < (v_X5_cell (S 0) 10 4 (v_X4_slotOf (S 0) size)) → (hIn (((v_X4_slotOf (S 0) size) * 8) + glyph) ∧ ((column < (v_X5_cell (S 0) 11 32 (((v_X4_slotOf (S 0) size) * 8) + glyph)) → True) ∧ (¬ column < (v_X5_cell (S 0) 11 32 (((v_X4_slotOf (S 0) size) * 8) + glyph)) → True)))) ∧ (¬ glyph < (v_X5_cell (S 0) 10 4 (v_X4_slotOf (S 0) size)) → True)))))))))))
def v_X5_inSheet (S : hS) (size : Int) (glyph : Int) (column : Int) : Int := (if (v_X5_isSize size) = 0 then (-1000001) else (if (v_X5_within glyph 0 7) = 0 then (-1000001) else (if (v_X5_within column 0 63) = 0 then (-1000001) else (if (v_X4_slotOf (S 0) size) < 0 then (-1000004) else (if glyph < (v_X5_cell (S 0) 10 4 (v_X4_slotOf (S 0) size)) then (if column < (v_X5_cell (S 0) 11 32 (((v_X4_slotOf (S 0) size) * 8) + glyph)) then (v_X5_bitOf (v_X4_litAt (S 0) (((v_X4_slotOf (S 0) size) * 8) + glyph)) column) else (-1000004)) else (-1000004))))))
def p_X5_sheetOf (S : hS) (index : Int) (what : Int) : Prop := ((index < 0 → True) ∧ (¬ index < 0 → (((v_X5_within what 0 3) = 0 → True) ∧ (¬ (v_X5_within what 0 3) = 0 → (p_X4_slotAt (S 0) index ∧ (((v_X4_slotAt (S 0) index) < 0 → True) ∧ (¬ (v_X4_slotAt (S 0) index) < 0 → ((what = 0 → True) ∧ (¬ what = 0 → ((what = 1 → True) ∧ (¬ what = 1 → ((what = 2 → (p_X1_isStale (S 0) (S 7) (v_X4_slotAt (S 0) index) ∧ (((v_X1_isStale (S 0) (S 7) (v_X4_slotAt (S 0) index)) = 0 → True) ∧ (¬ (v_X1_isStale (S 0) (S 7) (v_X4_slotAt (S 0) index)) = 0 → True)))) ∧ (¬ what = 2 → (p_X4_litTogether (S 0) (v_X4_slotAt (S 0) index) ∧ True))))))))))))))
def v_X5_sheetOf (S : hS) (index : Int) (what : Int) : Int := (if index < 0 then (-1000001) else (if (v_X5_within what 0 3) = 0 then (-1000001) else (if (v_X4_slotAt (S 0) index) < 0 then (-1000004) else (if what = 0 then (v_X5_cell (S 0) 9 4 (v_X4_slotAt (S 0) index)) else (if what = 1 then (v_X5_cell (S 0) 10 4 (v_X4_slotAt (S 0) index)) else (if what = 2 then (if (v_X1_isStale (S 0) (S 7) (v_X4_slotAt (S 0) index)) = 0 then 0 else 1) else (v_X4_litTogether (S 0) (v_X4_slotAt (S 0) index))))))))
def m_X5_sheetOf (S : hS) (index : Int) (what : Int) : hS := (if index < 0 then S else (if (v_X5_within what 0 3) = 0 then S else (if (v_X4_slotAt (S 0) index) < 0 then S else (if what = 0 then S else (if what = 1 then S else (if what = 2 then (if (v_X1_isStale (S 0) (S 7) (v_X4_slotAt (S 0) index)) = 0 then (gset S 7 (m_X1_isStale (S 0) (S 7) (v_X4_slotAt (S 0) index))) else (gset S 7 (m_X1_isStale (S 0) (S 7) (v_X4_slotAt (S 0) index)))) else S))))))
def p_X5_even (S : hS) (size : Int) : Prop := (((v_X5_isSize size) = 0 → True) ∧ (¬ (v_X5_isSize size) = 0 → (p_X0_isEven (S 0) (S 7) size ∧ (((v_X0_isEven (S 0) (S 7) size) = 0 → True) ∧ (¬ (v_X0_isEven (S 0) (S 7) size) = 0 → True)))))
def v_X5_even (S : hS) (size : Int) : Int := (if (v_X5_isSize size) = 0 then (-1000001) else (if (v_X0_isEven (S 0) (S 7) size) = 0 then 0 else 1))
def m_X5_even (S : hS) (size : Int) : hS := (if (v_X5_isSize size) = 0 then S else (if (v_X0_isEven (S 0) (S 7) size) = 0 then (gset S 7 (m_X0_isEven (S 0) (S 7) size)) else (gset S 7 (m_X0_isEven (S 0) (S 7) size))))
def p_X5_clear (S : hS) (glyph : Int) : Prop := fNum (S 0)
/-- how many sizes are passed ahead of the first at which a glyph is clear, or -1 -/
def clF (A T : hGM) (g : Int) : Int := firstN (fun k => decide (¬ v_X0_isClear (clT A T g (k.toNat + 1)) = 0)) 43
def v_X5_clear (S : hS) (glyph : Int) : Int := if v_X1_hasGlyph (S 0) glyph = 0 then -1000001 else if clF (S 0) (S 7) glyph = -1 then -1000004 else 6 + clF (S 0) (S 7) glyph
def m_X5_clear (S : hS) (glyph : Int) : hS := if v_X1_hasGlyph (S 0) glyph = 0 then S else gset S 7 (clT (S 0) (S 7) glyph (if clF (S 0) (S 7) glyph = -1 then 43 else (clF (S 0) (S 7) glyph).toNat + 1))
set_option maxHeartbeats 4000000 in
theorem x_X5_clear (S : hS) (glyph : Int) (h_glyph : hIn glyph) (hRS : ∀ (g i : Nat) (k : Int), i < 100 → hIn (S g i k)) (hp : p_X5_clear S glyph) (B17 : Int → hS → Prop) (Po : Int → hS → Prop) 
  (r17 : ∀ (y2 : Int) (S1 : hS), hIn y2 → ((∀ (g i : Nat) (k : Int), i < 100 → hIn (S1 g i k)) → ((y2 ≤ 48 → (p_X0_lay (S1 0) (S1 7) glyph y2 ∧ (((v_X0_isClear (m_X0_lay (S1 0) (S1 7) glyph y2)) = 0 → (B17 (y2 + 1) (gset S1 7 (m_X0_lay (S1 0) (S1 7) glyph y2)))) ∧ (¬ (v_X0_isClear (m_X0_lay (S1 0) (S1 7) glyph y2)) = 0 → (Po y2 (gset S1 7 (m_X0_lay (S1 0) (S1 7) glyph y2))))))) ∧ (¬ y2 ≤ 48 → (Po (-1000004) S1)))) → (B17 y2 S1)) 
  (hpost : Po (v_X5_clear S glyph) (m_X5_clear S glyph)) : (p_X1_hasGlyph (S 0) glyph ∧ (((v_X1_hasGlyph (S 0) glyph) = 0 → (Po (-1000001) S)) ∧ (¬ (v_X1_hasGlyph (S 0) glyph) = 0 → (B17 6 S)))) := by
  have hf := hp
  have n0 := hf.1
  unfold v_X5_clear m_X5_clear at hpost
  refine ⟨hasGlyph_p hf glyph, fun c => ?_, fun c => ?_⟩
  · rw [if_pos c, if_pos c] at hpost; exact hpost
  · rw [if_neg c, if_neg c] at hpost
    have hg := hasGlyph_y c
    have key := firstLoop (B := fun k => B17 (6 + k) (gset S 7 (clT (S 0) (S 7) glyph k.toNat))) (Po := fun r => Po (if r = -1 then -1000004 else 6 + r) (gset S 7 (clT (S 0) (S 7) glyph (if r = -1 then 43 else r.toNat + 1)))) (fun k => decide (¬ v_X0_isClear (clT (S 0) (S 7) glyph (k.toNat + 1)) = 0)) 43 (fun k h0 h1 hk hp => ?_) (fun k h0 h1 hk hb => ?_) (fun hp => ?_) hpost
    · have e : gset S 7 (clT (S 0) (S 7) glyph (0 : Int).toNat) = S := gset_self S 7
      have key : B17 (6 + 0) (gset S 7 (clT (S 0) (S 7) glyph (0 : Int).toNat)) := key
      rw [e] at key
      exact key
    · have hk := of_decide_eq_true hk
      have hp : Po (if k = -1 then -1000004 else 6 + k) (gset S 7 (clT (S 0) (S 7) glyph (if k = -1 then 43 else k.toNat + 1))) := hp
      rw [if_neg (show ¬ k = -1 by omega), if_neg (show ¬ k = -1 by omega)] at hp
      have ek : (6 + ((k.toNat : Nat) : Int)) = 6 + k := by omega
      have et : clT (S 0) (S 7) glyph (k.toNat + 1) = m_X0_lay (S 0) (clT (S 0) (S 7) glyph k.toNat) glyph (6 + k) := by
        show m_X0_lay (S 0) (clT (S 0) (S 7) glyph k.toNat) glyph (6 + ((k.toNat : Nat) : Int)) = _
        rw [ek]
      rw [et] at hk hp
      refine r17 _ _ ⟨by omega, by omega⟩ (fun _ => ⟨fun _ => ?_, fun z => by omega⟩)
      rw [gset_ne (show (0 : Nat) ≠ 7 by decide), gset_at, gset_gset]
      exact ⟨⟨hf, ⟨by omega, by omega⟩, by omega, by omega⟩, fun z => absurd z hk, fun _ => hp⟩
    · have hk := Decidable.not_not.mp (of_decide_eq_false hk)
      have hb : B17 (6 + (k + 1)) (gset S 7 (clT (S 0) (S 7) glyph (k + 1).toNat)) := hb
      rw [show (k + 1).toNat = k.toNat + 1 by omega, show 6 + (k + 1) = 6 + k + 1 by omega] at hb
      have ek : (6 + ((k.toNat : Nat) : Int)) = 6 + k := by omega
      have et : clT (S 0) (S 7) glyph (k.toNat + 1) = m_X0_lay (S 0) (clT (S 0) (S 7) glyph k.toNat) glyph (6 + k) := by
        show m_X0_lay (S 0) (clT (S 0) (S 7) glyph k.toNat) glyph (6 + ((k.toNat : Nat) : Int)) = _
        rw [ek]
      rw [et] at hk hb
      refine r17 _ _ ⟨by omega, by omega⟩ (fun _ => ⟨fun _ => ?_, fun z => by omega⟩)
      rw [gset_ne (show (0 : Nat) ≠ 7 by decide), gset_at, gset_gset]
      exact ⟨⟨hf, ⟨by omega, by omega⟩, by omega, by omega⟩, fun _ => hb, fun z => absurd hk z⟩
    · have hp : Po (if (-1 : Int) = -1 then -1000004 else 6 + -1) (gset S 7 (clT (S 0) (S 7) glyph (if (-1 : Int) = -1 then 43 else (-1 : Int).toNat + 1))) := hp
      rw [if_pos rfl, if_pos rfl] at hp
      exact r17 _ _ ⟨by omega, by omega⟩ (fun _ => ⟨fun z => by omega, fun _ => hp⟩)
def p_X5_clearSizes (S : hS) (j : Nat) (glyph : Int) : Prop := j < 7 ∧ fNum (S j) ∧ 0 ≤ glyph ∧ glyph < 8
def v_X5_clearSizes (S : hS) (j : Nat) (glyph : Int) : Int := sumN (fun k => if ¬ v_X0_isClear (clT (S j) (S 7) glyph (k.toNat + 1)) = 0 then 1 else 0) 43
def m_X5_clearSizes (S : hS) (j : Nat) (glyph : Int) : hS := gset S 7 (clT (S j) (S 7) glyph 43)
set_option maxHeartbeats 4000000 in
theorem x_X5_clearSizes (S : hS) (j : Nat) (glyph : Int) (h_glyph : hIn glyph) (hRS : ∀ (g i : Nat) (k : Int), i < 100 → hIn (S g i k)) (hp : p_X5_clearSizes S j glyph) (B6 : Int → Int → hS → Prop) (Po : Int → hS → Prop) 
  (r6 : ∀ (y3 : Int) (y4 : Int) (S1 : hS), hIn y3 → hIn y4 → ((∀ (g i : Nat) (k : Int), i < 100 → hIn (S1 g i k)) → ((y4 ≤ 48 → (p_X0_lay (S1 j) (S1 7) glyph y4 ∧ (((v_X0_isClear (m_X0_lay (S1 j) (S1 7) glyph y4)) = 0 → (B6 y3 (y4 + 1) (gset S1 7 (m_X0_lay (S1 j) (S1 7) glyph y4)))) ∧ (¬ (v_X0_isClear (m_X0_lay (S1 j) (S1 7) glyph y4)) = 0 → (B6 (y3 + 1) (y4 + 1) (gset S1 7 (m_X0_lay (S1 j) (S1 7) glyph y4))))))) ∧ (¬ y4 ≤ 48 → (Po y3 S1)))) → (B6 y3 y4 S1)) 
  (hpost : Po (v_X5_clearSizes S j glyph) (m_X5_clearSizes S j glyph)) : (B6 0 6 S) := by
  obtain ⟨hj, hf, g0, g1⟩ := hp
  have key : B6 (sumN (fun k => if ¬ v_X0_isClear (clT (S j) (S 7) glyph (k.toNat + 1)) = 0 then 1 else 0) 0) (6 + ((0 : Nat) : Int)) (gset S 7 (clT (S j) (S 7) glyph 0)) := by
    refine upN (C := fun k => B6 (sumN (fun k => if ¬ v_X0_isClear (clT (S j) (S 7) glyph (k.toNat + 1)) = 0 then 1 else 0) k) (6 + (k : Int)) (gset S 7 (clT (S j) (S 7) glyph k))) 43 ?_ ?_
    · have b := cnt_bd (fun k => ¬ v_X0_isClear (clT (S j) (S 7) glyph (k.toNat + 1)) = 0) 43
      exact r6 _ _ _ ⟨by omega, by omega⟩ ⟨by omega, by omega⟩ (fun _ => ⟨fun z => by omega, fun _ => hpost⟩)
    · intro k hk h
      have b := cnt_bd (fun k => ¬ v_X0_isClear (clT (S j) (S 7) glyph (k.toNat + 1)) = 0) k
      refine r6 _ _ _ ⟨by omega, by omega⟩ ⟨by omega, by omega⟩ (fun _ => ⟨fun _ => ?_, fun z => by omega⟩)
      rw [gset_ne (show j ≠ 7 by omega), gset_at, gset_gset]
      refine ⟨⟨hf, ⟨g0, g1⟩, by omega, by omega⟩, fun c => ?_, fun c => ?_⟩
      · rw [cnt_n (p := fun k => ¬ v_X0_isClear (clT (S j) (S 7) glyph (k.toNat + 1)) = 0) (fun z => z c)] at h
        exact h
      · rw [cnt_y (p := fun k => ¬ v_X0_isClear (clT (S j) (S 7) glyph (k.toNat + 1)) = 0) c] at h
        exact h
  have e : gset S 7 (clT (S j) (S 7) glyph 0) = S := gset_self S 7
  rw [e] at key
  exact key
def p_X5_best (S : hS) (glyph : Int) (stem : Int) (what : Int) : Prop := fNum (S 0)
/-- the hint found, its sizes, and the memory, when the first n hints are tried -/
def bsS (S : hS) (glyph stem : Int) : Nat → Int × Int × hS
  | 0 => (0, -1, gset S 1 (m_X1_copy (S 1) (S 0)))
  | n + 1 => if v_X5_clearSizes (gset (bsS S glyph stem n).2.2 1 (m_X5_put ((bsS S glyph stem n).2.2 1) 5 48 ((glyph * 6) + stem) n)) 1 glyph ≤ (bsS S glyph stem n).2.1 then ((bsS S glyph stem n).1, (bsS S glyph stem n).2.1, m_X5_clearSizes (gset (bsS S glyph stem n).2.2 1 (m_X5_put ((bsS S glyph stem n).2.2 1) 5 48 ((glyph * 6) + stem) n)) 1 glyph) else ((n : Int), v_X5_clearSizes (gset (bsS S glyph stem n).2.2 1 (m_X5_put ((bsS S glyph stem n).2.2 1) 5 48 ((glyph * 6) + stem) n)) 1 glyph, m_X5_clearSizes (gset (bsS S glyph stem n).2.2 1 (m_X5_put ((bsS S glyph stem n).2.2 1) 5 48 ((glyph * 6) + stem) n)) 1 glyph)
def v_X5_best (S : hS) (glyph : Int) (stem : Int) (what : Int) : Int := if v_X1_hasStem (S 0) glyph stem = 0 then -1000001 else if v_X5_within what 0 1 = 0 then -1000001 else if what = 0 then (bsS S glyph stem 4).1 else (bsS S glyph stem 4).2.1
def m_X5_best (S : hS) (glyph : Int) (stem : Int) (what : Int) : hS := if v_X1_hasStem (S 0) glyph stem = 0 then S else if v_X5_within what 0 1 = 0 then S else (bsS S glyph stem 4).2.2
theorem put5_num {A : hGM} (h : fNum A) {k v : Int} (v0 : 0 ≤ v) (v1 : v ≤ 3) : fNum (m_X5_put A 5 48 k v) := by
  obtain ⟨n0, n1, n2, n3, n4, n5, n6⟩ := h
  unfold fNum
  rw [put_row (show (0 : Nat) ≠ 5 by decide), put_row (show (1 : Nat) ≠ 5 by decide), put_row (show (2 : Nat) ≠ 5 by decide), put_row (show (3 : Nat) ≠ 5 by decide), put_row (show (4 : Nat) ≠ 5 by decide), put_row (show (6 : Nat) ≠ 5 by decide)]
  refine ⟨n0, n1, n2, n3, n4, fun q h0 h1 => ?_, n6⟩
  have b := n5 q h0 h1
  refine ⟨b.1, b.2.1, ?_⟩
  unfold m_X5_put
  split
  · exact b.2.2
  · split
    · unfold aset
      split
      · exact ⟨v0, v1⟩
      · exact b.2.2
    · exact b.2.2
theorem bsS_num {S : hS} (h : fNum (S 0)) (g k : Int) (n : Nat) (hn : n ≤ 4) : fNum ((bsS S g k n).2.2 1) := by
  induction n with
  | zero => show fNum ((gset S 1 (m_X1_copy (S 1) (S 0))) 1); rw [gset_at]; exact copy_num h
  | succ n ih =>
    have ih := ih (by omega)
    have e : (bsS S g k (n + 1)).2.2 1 = m_X5_put ((bsS S g k n).2.2 1) 5 48 ((g * 6) + k) n := by
      have e0 : (bsS S g k (n + 1)).2.2 = m_X5_clearSizes (gset (bsS S g k n).2.2 1 (m_X5_put ((bsS S g k n).2.2 1) 5 48 ((g * 6) + k) n)) 1 g := by
        by_cases z : v_X5_clearSizes (gset (bsS S g k n).2.2 1 (m_X5_put ((bsS S g k n).2.2 1) 5 48 ((g * 6) + k) n)) 1 g ≤ (bsS S g k n).2.1
        · exact congrArg (fun q : Int × Int × hS => q.2.2) (if_pos z)
        · exact congrArg (fun q : Int × Int × hS => q.2.2) (if_neg z)
      rw [e0]
      unfold m_X5_clearSizes
      rw [gset_ne (by decide), gset_at]
    rw [e]
    exact put5_num ih (by omega) (by omega)
theorem clearSizes_bd (S : hS) (j : Nat) (g : Int) : 0 ≤ v_X5_clearSizes S j g ∧ v_X5_clearSizes S j g ≤ 43 := by
  have b := cnt_bd (fun k => ¬ v_X0_isClear (clT (S j) (S 7) g (k.toNat + 1)) = 0) 43
  exact b
theorem bsS_bd (S : hS) (g k : Int) (n : Nat) : (0 ≤ (bsS S g k n).1 ∧ (bsS S g k n).1 ≤ n) ∧ (-1 ≤ (bsS S g k n).2.1 ∧ (bsS S g k n).2.1 ≤ 43) := by
  induction n with
  | zero => exact ⟨⟨Int.le_refl _, Int.le_refl _⟩, Int.le_refl _, show (-1 : Int) ≤ 43 by decide⟩
  | succ n ih =>
    have b := clearSizes_bd (gset (bsS S g k n).2.2 1 (m_X5_put ((bsS S g k n).2.2 1) 5 48 ((g * 6) + k) n)) 1 g
    unfold bsS
    split
    · exact ⟨⟨ih.1.1, by have := ih.1.2; show (bsS S g k n).1 ≤ _; omega⟩, ih.2⟩
    · exact ⟨⟨by show (0 : Int) ≤ n; omega, by show (n : Int) ≤ _; omega⟩, Int.le_trans (by decide) b.1, b.2⟩
set_option maxHeartbeats 4000000 in
theorem x_X5_best (S : hS) (glyph : Int) (stem : Int) (what : Int) (h_glyph : hIn glyph) (h_stem : hIn stem) (h_what : hIn what) (hRS : ∀ (g i : Nat) (k : Int), i < 100 → hIn (S g i k)) (hp : p_X5_best S glyph stem what) (B44 : Int → Int → Int → hS → Prop) (Po : Int → hS → Prop) 
  (r44 : ∀ (y4 : Int) (y5 : Int) (y6 : Int) (S1 : hS), hIn y4 → hIn y5 → hIn y6 → ((∀ (g i : Nat) (k : Int), i < 100 → hIn (S1 g i k)) → ((y6 ≤ 3 → (hIn ((glyph * 6) + stem) ∧ (p_X5_clearSizes (gset S1 1 (m_X5_put (S1 1) 5 48 ((glyph * 6) + stem) y6)) 1 glyph ∧ (((v_X5_clearSizes (gset S1 1 (m_X5_put (S1 1) 5 48 ((glyph * 6) + stem) y6)) 1 glyph) ≤ y5 → (B44 y4 y5 (y6 + 1) (m_X5_clearSizes (gset S1 1 (m_X5_put (S1 1) 5 48 ((glyph * 6) + stem) y6)) 1 glyph))) ∧ (¬ (v_X5_clearSizes (gset S1 1 (m_X5_put (S1 1) 5 48 ((glyph * 6) + stem) y6)) 1 glyph) ≤ y5 → (B44 y6 (v_X5_clearSizes (gset S1 1 (m_X5_put (S1 1) 5 48 ((glyph * 6) + stem) y6)) 1 glyph) (y6 + 1) (m_X5_clearSizes (gset S1 1 (m_X5_put (S1 1) 5 48 ((glyph * 6) + stem) y6)) 1 glyph))))))) ∧ (¬ y6 ≤ 3 → ((what = 0 → (Po y4 S1)) ∧ (¬ what = 0 → (Po y5 S1)))))) → (B44 y4 y5 y6 S1)) 
  (hpost : Po (v_X5_best S glyph stem what) (m_X5_best S glyph stem what)) : (p_X1_hasStem (S 0) glyph stem ∧ (((v_X1_hasStem (S 0) glyph stem) = 0 → (Po (-1000001) S)) ∧ (¬ (v_X1_hasStem (S 0) glyph stem) = 0 → (((v_X5_within what 0 1) = 0 → (Po (-1000001) S)) ∧ (¬ (v_X5_within what 0 1) = 0 → (p_X1_copy (S 1) (S 0) ∧ (B44 0 (-1) 0 (gset S 1 (m_X1_copy (S 1) (S 0)))))))))) := by
  have hf := hp
  unfold v_X5_best m_X5_best at hpost
  refine ⟨hasStem_p hf glyph stem, fun c => ?_, fun c => ⟨fun c2 => ?_, fun c2 => ⟨copy_p _ _, ?_⟩⟩⟩
  · rw [if_pos c, if_pos c] at hpost; exact hpost
  · rw [if_neg c, if_neg c, if_pos c2, if_pos c2] at hpost; exact hpost
  · rw [if_neg c, if_neg c, if_neg c2, if_neg c2] at hpost
    have hg := hasStem_y hf c
    have n0 := hf.1
    have g4 := (hf.2.2.2.2.2.2 glyph (by omega) (by omega)).2
    refine upN (C := fun k => B44 (bsS S glyph stem k).1 (bsS S glyph stem k).2.1 (k : Int) (bsS S glyph stem k).2.2) 4 ?_ ?_
    · have b := bsS_bd S glyph stem 4
      refine r44 _ _ _ _ ⟨by omega, by omega⟩ ⟨by omega, by omega⟩ ⟨by omega, by omega⟩ (fun _ => ⟨fun z => by omega, fun _ => ⟨fun z => ?_, fun z => ?_⟩⟩)
      · rw [if_pos z] at hpost; exact hpost
      · rw [if_neg z] at hpost; exact hpost
    · intro k hk h
      have b := bsS_bd S glyph stem k
      have hn := bsS_num hf glyph stem k (by omega)
      refine r44 _ _ _ _ ⟨by omega, by omega⟩ ⟨by omega, by omega⟩ ⟨by omega, by omega⟩ (fun _ => ⟨fun _ => ⟨⟨by omega, by omega⟩, ⟨by decide, by rw [gset_at]; exact put5_num hn (by omega) (by omega), by omega, by omega⟩, fun z => ?_, fun z => ?_⟩, fun z => by omega⟩)
      · unfold bsS at h; rw [if_pos z] at h; exact h
      · unfold bsS at h; rw [if_neg z] at h; exact h

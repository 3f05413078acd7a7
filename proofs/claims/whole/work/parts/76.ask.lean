/-! calls that only look -/
theorem inv_s7 {S : hS} {T P' : hGM} {c : Int} (h : Inv S c) (k : Keep (S 10) P') (e : P' 1 = S 10 1) : Inv (gset (gset S 7 T) 10 P') (c + 1) :=
  inv_keep h (fun g _ h7 => gset_ne h7) k (fun q _ _ => by rw [e])
theorem inv_s0 {S : hS} {c : Int} (h : Inv S c) : Inv (gset S 10 (S 10)) (c + 1) := inv_keep h (fun _ _ _ => rfl) (keep_rfl _) (fun _ _ _ => rfl)
theorem inv_sP {S : hS} {P' : hGM} {c : Int} (h : Inv S c) (k : Keep (S 10) P') (e : P' 1 = S 10 1) : Inv (gset S 10 P') (c + 1) :=
  inv_keep h (fun _ _ _ => rfl) k (fun q _ _ => by rw [e])
theorem bt_stemOf {S : hS} {c : Int} (h : Inv S c) (g k w : Int) : Both S c (p_X5_stemOf S g k w) (v_X5_stemOf S g k w) S (p_X6_stemOf (S 10) g k w) (v_X6_stemOf (S 10) g k w) (S 10) := by
  have f := h.1.1.1
  have hm := h.1.1.2.1
  have n := rel_g h.1.1
  have si := stem_iff h.1.1 g k
  by_cases c1 : v_X1_hasStem (S 0) g k = 0
  · have c1' := si.mp c1
    refine ⟨⟨hasStem_p f g k, fun _ => trivial, fun z => absurd c1 z⟩, ?_, rfl, ⟨isStem_p hm g k, fun _ => trivial, fun z => absurd c1' z⟩, inv_s0 h⟩
    unfold v_X5_stemOf v_X6_stemOf
    rw [if_pos c1, if_pos c1']
  · have c1' : ¬ v_X6_isStem (S 10) g k = 0 := fun z => c1 (si.mpr z)
    have y := hasStem_y f c1
    have g8 : g < 8 := by omega
    have mb := rel_many h.1.1 y.1.1 g8
    have st := rel_stem h.1.1 y.1.1 g8 y.2.1 y.2.2
    have os := ofStem_rel h.1.1 y.1.1 g8 y.2.1 y.2.2
    have e3 : v_X5_cell (S 0) 3 48 (g * 6 + k) = S 0 3 (g * 6 + k) := cell_in (by omega) (by omega)
    have e4 : v_X5_cell (S 0) 4 48 (g * 6 + k) = S 0 4 (g * 6 + k) := cell_in (by omega) (by omega)
    have e5 : v_X5_cell (S 0) 5 48 (g * 6 + k) = S 0 5 (g * 6 + k) := cell_in (by omega) (by omega)
    have ps : p_X1_snapOf (S 0) (v_X5_cell (S 0) 4 48 (g * 6 + k)) := ⟨f, by omega, by omega⟩
    have ee : ¬ k = 0 → v_X1_endOf (S 0) (g * 6 + k - 1) = S 0 3 (g * 6 + (k - 1)) + S 0 4 (g * 6 + (k - 1)) := fun z => by
      unfold v_X1_endOf
      rw [cell_in (by omega) (by omega), cell_in (by omega) (by omega), show g * 6 + k - 1 = g * 6 + (k - 1) by omega]
    have es : ¬ k = 0 → v_X6_endOf (S 10) g (k - 1) = S 0 3 (g * 6 + (k - 1)) + S 0 4 (g * 6 + (k - 1)) ∧ (0 ≤ S 0 3 (g * 6 + (k - 1)) ∧ S 0 3 (g * 6 + (k - 1)) ≤ 999) ∧ (1 ≤ S 0 4 (g * 6 + (k - 1)) ∧ S 0 4 (g * 6 + (k - 1)) ≤ 300) := fun z => by
      have o2 := ofStem_rel h.1.1 y.1.1 g8 (k := k - 1) (by omega) (by omega)
      have s2 := rel_stem h.1.1 y.1.1 g8 (k := k - 1) (by omega) (by omega)
      unfold v_X6_endOf
      rw [o2.1, o2.2.1]
      exact ⟨rfl, s2.2.1, s2.2.2.1⟩
    refine ⟨⟨hasStem_p f g k, fun z => absurd z c1, fun _ => ⟨fun _ => trivial, fun _ => ⟨⟨by omega, by omega⟩, fun _ => trivial, fun _ => ⟨fun _ => trivial, fun _ => ⟨fun _ => trivial, fun _ => ⟨fun _ => ⟨hinted_p ps, trivial⟩, fun _ => ⟨fun _ => ⟨ps, fun _ => trivial, fun _ => trivial⟩, fun _ => ⟨fun _ => ⟨ps, trivial⟩, fun _ => ⟨fun _ => trivial, fun z => ⟨⟨by omega, by omega⟩, ⟨?_, trivial⟩, ?_, trivial⟩⟩⟩⟩⟩⟩⟩⟩⟩⟩, ?_, rfl, ⟨isStem_p hm g k, fun z => absurd z c1', fun _ => ⟨fun _ => trivial, fun c2 => ?_⟩⟩, inv_s0 h⟩
    · rw [cell_in (by omega) (by omega), cell_in (by omega) (by omega)]
      have b := f.2.2.2.2.2.1 (g * 6 + k - 1) (by omega) (by omega)
      exact ⟨by omega, by omega⟩
    · rw [e3, ee z]
      have b := (es z).2
      exact ⟨by omega, by omega⟩
    · unfold v_X5_stemOf v_X6_stemOf
      rw [if_neg c1, if_neg c1', within_in, e3, e4, e5]
      by_cases c2 : v_X6_in w 0 6 = 0
      · rw [if_pos c2, if_pos c2]
      · have hw := Decidable.not_not.mp (fun z => c2 (in_0.mpr z))
        rw [if_neg c2, if_neg c2]
        have w7 : w = 0 ∨ w = 1 ∨ w = 2 ∨ w = 3 ∨ w = 4 ∨ w = 5 ∨ w = 6 := by omega
        rcases w7 with rfl | rfl | rfl | rfl | rfl | rfl | rfl
        · show S 0 3 (g * 6 + k) = v_X6_ofStem (S 10) g k 0
          exact os.1.symm
        · show S 0 4 (g * 6 + k) = v_X6_ofStem (S 10) g k 1
          exact os.2.1.symm
        · show S 0 5 (g * 6 + k) = v_X6_ofStem (S 10) g k 2
          exact os.2.2.symm
        · show v_X1_hintedWidth (S 0) (S 0 4 (g * 6 + k)) = v_X6_hinted (S 10) g k
          exact (hinted_rel h.1.1 y.1.1 g8 y.2.1 y.2.2).symm
        · show (if v_X1_snapOf (S 0) (S 0 4 (g * 6 + k)) = 0 then (-1000004) else v_X1_snapOf (S 0) (S 0 4 (g * 6 + k))) = v_X6_snaps (S 10) (v_X6_ofStem (S 10) g k 1)
          rw [os.2.1]
          rcases snap_rel h.1.1 (S 0 4 (g * 6 + k)) with ⟨a, b⟩ | ⟨a, b⟩
          · rw [if_pos a, b]
          · rw [if_neg (by omega), b]
        · show v_X1_alikeWith (S 0) (S 0 4 (g * 6 + k)) = v_X6_alike (S 10) (v_X6_hinted (S 10) g k)
          rw [hinted_rel h.1.1 y.1.1 g8 y.2.1 y.2.2]
          exact alike_rel h.1.1 _
        · show (if k = 0 then (-1000004) else (S 0 3 (g * 6 + k) - v_X1_endOf (S 0) (g * 6 + k - 1))) = (if k = 0 then (-1000004) else (v_X6_ofStem (S 10) g k 0 - v_X6_endOf (S 10) g (k - 1)))
          by_cases z : k = 0
          · rw [if_pos z, if_pos z]
          · rw [if_neg z, if_neg z, ee z, (es z).1, os.1]
    · have hw := Decidable.not_not.mp (fun z => c2 (in_0.mpr z))
      refine ⟨fun _ => ⟨mhin_p hm y.1.1 g8 y.2.1 (by omega), trivial⟩, fun a3 => ⟨fun _ => ⟨ofStem_p y.1.1 g8 y.2.1 (by omega) (by decide) (by decide), ⟨hm, by omega, by omega⟩, trivial⟩, fun a4 => ⟨fun _ => ⟨mhin_p hm y.1.1 g8 y.2.1 (by omega), hm, trivial⟩, fun a5 => ⟨fun _ => ⟨fun _ => trivial, fun z => ⟨ofStem_p y.1.1 g8 y.2.1 (by omega) (by decide) (by decide), ⟨by omega, by omega⟩, endOf_p hm y.1.1 g8 (by omega) (by omega), ?_, trivial⟩⟩, fun a6 => ⟨ofStem_p y.1.1 g8 y.2.1 (by omega) (by omega) (by omega), trivial⟩⟩⟩⟩⟩
      rw [os.1, (es z).1]
      have b := (es z).2
      exact ⟨by omega, by omega⟩
theorem lays_p {S : hS} {c : Int} (h : Inv S c) {g z : Int} (g0 : 0 ≤ g) (g1 : g < 8) (z0 : 0 ≤ z) (z1 : z ≤ 48) : p_X6_lays (S 10) g z := ⟨h.1.1.2.1, rel_gap h.1.1, ⟨g0, g1⟩, z0, z1⟩
theorem isSize_y {z : Int} (h : ¬ v_X6_isSize z = 0) : 6 ≤ z ∧ z ≤ 48 := Decidable.not_not.mp (fun y => h (in_0.mpr y))
theorem lays_facts {S : hS} {c : Int} (h : Inv S c) {g z : Int} (g0 : 0 ≤ g) (g1 : g < 8) (z0 : 0 ≤ z) (z1 : z ≤ 48) : mNum (m_X6_lays (S 10) g z 1) ∧ mGap (m_X6_lays (S 10) g z) ∧ laI (m_X6_lays (S 10) g z) (v_X6_of (m_X6_lays (S 10) g z) g 1).toNat ∧ Keep (S 10) (m_X6_lays (S 10) g z) ∧ m_X6_lays (S 10) g z 1 = S 10 1 := by
  have e : m_X6_lays (S 10) g z 1 = S 10 1 := lays_1
  exact ⟨by rw [e]; exact h.1.1.2.1, mGap_row e (rel_gap h.1.1), lays_lai h.1.1.2.1 (rel_gap h.1.1) g0 g1 z0 z1, keep_lays _ _ _, e⟩
theorem bt_pixels {S : hS} {c : Int} (h : Inv S c) (g k z w : Int) : Both S c (p_X5_pixels S g k z w) (v_X5_pixels S g k z w) (m_X5_pixels S g k z w) (p_X6_pixels (S 10) g k z w) (v_X6_pixels (S 10) g k z w) (m_X6_pixels (S 10) g k z w) := by
  have f := h.1.1.1
  have hm := h.1.1.2.1
  have n := rel_g h.1.1
  have si := stem_iff h.1.1 g k
  have es : v_X5_isSize z = v_X6_isSize z := rfl
  unfold p_X5_pixels v_X5_pixels m_X5_pixels p_X6_pixels v_X6_pixels m_X6_pixels
  rw [within_in, es]
  by_cases c1 : v_X1_hasStem (S 0) g k = 0
  · have c1' := si.mp c1
    rw [if_pos c1, if_pos c1, if_pos c1', if_pos c1']
    exact ⟨⟨hasStem_p f g k, fun _ => trivial, fun z => absurd c1 z⟩, rfl, rfl, ⟨isStem_p hm g k, fun _ => trivial, fun z => absurd c1' z⟩, inv_s0 h⟩
  · have c1' : ¬ v_X6_isStem (S 10) g k = 0 := fun z => c1 (si.mpr z)
    rw [if_neg c1, if_neg c1, if_neg c1', if_neg c1']
    have y := hasStem_y f c1
    have g8 : g < 8 := by omega
    have mb := rel_many h.1.1 y.1.1 g8
    by_cases c2 : v_X6_isSize z = 0
    · rw [if_pos c2, if_pos c2, if_pos c2, if_pos c2]
      exact ⟨⟨hasStem_p f g k, fun z => absurd z c1, fun _ => ⟨fun _ => trivial, fun z => absurd c2 z⟩⟩, rfl, rfl, ⟨isStem_p hm g k, fun z => absurd z c1', fun _ => ⟨fun _ => trivial, fun z => absurd c2 z⟩⟩, inv_s0 h⟩
    · rw [if_neg c2, if_neg c2, if_neg c2, if_neg c2]
      have hz := isSize_y c2
      by_cases c3 : v_X6_in w 0 3 = 0
      · rw [if_pos c3, if_pos c3, if_pos c3, if_pos c3]
        exact ⟨⟨hasStem_p f g k, fun z => absurd z c1, fun _ => ⟨fun _ => trivial, fun _ => ⟨fun _ => trivial, fun z => absurd c3 z⟩⟩⟩, rfl, rfl, ⟨isStem_p hm g k, fun z => absurd z c1', fun _ => ⟨fun _ => trivial, fun _ => ⟨fun _ => trivial, fun z => absurd c3 z⟩⟩⟩, inv_s0 h⟩
      · rw [if_neg c3, if_neg c3, if_neg c3, if_neg c3]
        have hw := Decidable.not_not.mp (fun z => c3 (in_0.mpr z))
        have ft := fit_rel (S 7) h.1.1 y.1.1 y.1.2 (by omega : 0 ≤ z) hz.2
        obtain ⟨l1, l2, l3, l4, l5⟩ := lays_facts h y.1.1 g8 (by omega : 0 ≤ z) hz.2
        have em : (if w = 0 then gset S 7 (m_X0_lay (S 0) (S 7) g z) else if w = 1 then gset S 7 (m_X0_lay (S 0) (S 7) g z) else if w = 2 then gset S 7 (m_X0_lay (S 0) (S 7) g z) else gset S 7 (m_X0_lay (S 0) (S 7) g z)) = gset S 7 (m_X0_lay (S 0) (S 7) g z) := by
          split
          · rfl
          · split
            · rfl
            · split <;> rfl
        have ep : (if w = 0 then m_X6_lays (S 10) g z else if w = 1 then m_X6_lays (S 10) g z else if w = 2 then m_X6_lays (S 10) g z else m_X6_lays (S 10) g z) = m_X6_lays (S 10) g z := by
          split
          · rfl
          · split
            · rfl
            · split <;> rfl
        rw [em, ep]
        refine ⟨⟨hasStem_p f g k, fun z => absurd z c1, fun _ => ⟨fun _ => trivial, fun _ => ⟨fun _ => trivial, fun _ => ⟨⟨f, ⟨y.1.1, g8⟩, hz⟩, fun _ => trivial, fun _ => ⟨fun _ => trivial, fun _ => ⟨fun _ => trivial, fun _ => trivial⟩⟩⟩⟩⟩⟩, ?_, gset_ne (by decide), ⟨isStem_p hm g k, fun z => absurd z c1', fun _ => ⟨fun _ => trivial, fun _ => ⟨fun _ => trivial, fun _ => ⟨lays_p h y.1.1 g8 (by omega) hz.2, fun _ => ⟨⟨y.2.1, by omega⟩, trivial⟩, fun _ => ⟨fun _ => ⟨⟨y.2.1, by omega⟩, trivial⟩, fun _ => ⟨fun _ => trivial, fun _ => ⟨⟨l1, ⟨y.1.1, g8⟩, ⟨by omega, hz.2⟩, l3⟩, trivial⟩⟩⟩⟩⟩⟩⟩, inv_s7 h l4 l5⟩
        have ck := ft.2.2.2.1 k y.2.1 y.2.2
        rw [cell_in y.2.1 (by omega), cell_in y.2.1 (by omega), ck.1, ck.2, ft.2.1, ft.2.2.1]
theorem runs_rel {A T L : hGM} {g z : Int} (ft : FitR A g z T L) : v_X5_runsOf (T 100 0) = v_X6_runsOf L g z := by
  obtain ⟨⟨f0, f1, f2⟩, _, _, _, fb, _⟩ := ft
  unfold v_X5_runsOf v_X6_runsOf
  rw [bitCount_v, popB_sum, ← f0, sumN_cut (m := (T 0 0).toNat) (n := 64) (by omega) (fun k a b => ?_)]
  · refine sumN_congr _ (fun k a b => ?_)
    show (if (bl (jAnd (T 100 0) (jXor (jShl (T 100 0) 1) (-1)))).testBit k.toNat = true then (1 : Int) else 0) = runA L g k
    have e := fb k.toNat (by omega)
    rw [Int.toNat_of_nonneg a, decide_eq_true (show k < T 0 0 by omega), Bool.true_and] at e
    have b1 : bl (-1) = 2 ^ 64 - 1 := by decide
    rw [bl_and, Nat.testBit_and, bl_xor, Nat.testBit_xor, bl_shl_1, e, b1, Nat.testBit_two_pow_sub_one, decide_eq_true (show k.toNat < 64 by omega), Bool.xor_true, show (18446744073709551616 : Nat) = 2 ^ 64 from rfl, Nat.testBit_mod_two_pow, decide_eq_true (show k.toNat < 64 by omega), Bool.true_and]
    unfold runA
    by_cases c1 : v_X6_isLit L g k = 0
    · rw [if_pos c1, decide_eq_false (fun z => z c1), Bool.false_and, if_neg (by decide)]
    · rw [if_neg c1, decide_eq_true c1, Bool.true_and]
      by_cases c2 : k = 0
      · subst c2
        rw [if_pos rfl]
        have : (bl (T 100 0) * 2).testBit (0 : Int).toNat = false := by
          show (bl (T 100 0) * 2).testBit 0 = false
          rw [Nat.testBit_zero]
          exact decide_eq_false (by omega)
        rw [this]
        rfl
      · rw [if_neg c2]
        have sh : (bl (T 100 0) * 2).testBit k.toNat = (bl (T 100 0)).testBit (k.toNat - 1) := by
          rw [show k.toNat = (k.toNat - 1) + 1 by omega, Nat.testBit_add_one, show bl (T 100 0) * 2 / 2 = bl (T 100 0) by omega]
          rfl
        have e2 := fb (k.toNat - 1) (by omega)
        rw [show ((k.toNat - 1 : Nat) : Int) = k - 1 by omega, decide_eq_true (show k - 1 < T 0 0 by omega), Bool.true_and] at e2
        rw [sh, e2]
        by_cases c3 : v_X6_isLit L g (k - 1) = 0
        · rw [if_pos c3, decide_eq_false (fun z => z c3)]; rfl
        · rw [if_neg c3, decide_eq_true c3]; rfl
  · show (if (bl (jAnd (T 100 0) (jXor (jShl (T 100 0) 1) (-1)))).testBit k.toNat = true then (1 : Int) else 0) = 0
    have e := fb k.toNat (by omega)
    rw [Int.toNat_of_nonneg (by omega), decide_eq_false (show ¬ k < T 0 0 by omega), Bool.false_and] at e
    rw [bl_and, Nat.testBit_and, e, Bool.false_and]
    exact if_neg (by decide)
theorem bt_glyphOf {S : hS} {c : Int} (h : Inv S c) (g z w : Int) : Both S c (p_X5_glyphOf S g z w) (v_X5_glyphOf S g z w) (m_X5_glyphOf S g z w) (p_X6_glyphOf (S 10) g z w) (v_X6_glyphOf (S 10) g z w) (m_X6_glyphOf (S 10) g z w) := by
  have f := h.1.1.1
  have hm := h.1.1.2.1
  have n := rel_g h.1.1
  have gi := glyph_iff h.1.1 g
  have es : v_X5_isSize z = v_X6_isSize z := rfl
  unfold p_X5_glyphOf v_X5_glyphOf m_X5_glyphOf p_X6_glyphOf v_X6_glyphOf m_X6_glyphOf
  rw [within_in, es]
  by_cases c1 : v_X1_hasGlyph (S 0) g = 0
  · have c1' := gi.mp c1
    rw [if_pos c1, if_pos c1, if_pos c1', if_pos c1']
    exact ⟨⟨hasGlyph_p f g, fun _ => trivial, fun z => absurd c1 z⟩, rfl, rfl, ⟨fun _ => trivial, fun z => absurd c1' z⟩, inv_s0 h⟩
  · have c1' : ¬ v_X6_isGlyph (S 10) g = 0 := fun z => c1 (gi.mpr z)
    rw [if_neg c1, if_neg c1, if_neg c1', if_neg c1']
    have y := hasGlyph_y c1
    have g8 : g < 8 := by omega
    by_cases c2 : v_X6_isSize z = 0
    · rw [if_pos c2, if_pos c2, if_pos c2, if_pos c2]
      exact ⟨⟨hasGlyph_p f g, fun z => absurd z c1, fun _ => ⟨fun _ => trivial, fun z => absurd c2 z⟩⟩, rfl, rfl, ⟨fun z => absurd z c1', fun _ => ⟨fun _ => trivial, fun z => absurd c2 z⟩⟩, inv_s0 h⟩
    · rw [if_neg c2, if_neg c2, if_neg c2, if_neg c2]
      have hz := isSize_y c2
      by_cases c3 : v_X6_in w 0 5 = 0
      · rw [if_pos c3, if_pos c3, if_pos c3, if_pos c3]
        exact ⟨⟨hasGlyph_p f g, fun z => absurd z c1, fun _ => ⟨fun _ => trivial, fun _ => ⟨fun _ => trivial, fun z => absurd c3 z⟩⟩⟩, rfl, rfl, ⟨fun z => absurd z c1', fun _ => ⟨fun _ => trivial, fun _ => ⟨fun _ => trivial, fun z => absurd c3 z⟩⟩⟩, inv_s0 h⟩
      · rw [if_neg c3, if_neg c3, if_neg c3, if_neg c3]
        have hw := Decidable.not_not.mp (fun z => c3 (in_0.mpr z))
        have ft := fit_rel (S 7) h.1.1 y.1 y.2 (by omega : 0 ≤ z) hz.2
        obtain ⟨l1, l2, l3, l4, l5⟩ := lays_facts h y.1 g8 (by omega : 0 ≤ z) hz.2
        have ph : ∀ x : Int, x = 0 ∨ x = 1 → p_X6_litHalf (m_X6_lays (S 10) g z) g z x := fun x hx => ⟨l1, ⟨y.1, g8⟩, ⟨by omega, hz.2⟩, by omega, l3⟩
        have o0 := ones_bd (v_X6_litHalf (m_X6_lays (S 10) g z) g z 0)
        have o1 := ones_bd (v_X6_litHalf (m_X6_lays (S 10) g z) g z 1)
        have hl : Rel0 (S 0) (m_X6_lays (S 10) g z 1) := by rw [l5]; exact h.1.1
        have em : (if w = 0 then gset S 7 (m_X0_lay (S 0) (S 7) g z) else if w = 1 then gset S 7 (m_X0_lay (S 0) (S 7) g z) else if w = 2 then (if v_X0_isClear (m_X0_lay (S 0) (S 7) g z) = 0 then gset S 7 (m_X0_lay (S 0) (S 7) g z) else gset S 7 (m_X0_lay (S 0) (S 7) g z)) else if w = 3 then gset S 7 (m_X0_lay (S 0) (S 7) g z) else if w = 4 then gset S 7 (m_X0_lay (S 0) (S 7) g z) else gset S 7 (m_X0_lay (S 0) (S 7) g z)) = gset S 7 (m_X0_lay (S 0) (S 7) g z) := by
          split
          · rfl
          · split
            · rfl
            · split
              · split <;> rfl
              · split
                · rfl
                · split <;> rfl
        rw [em]
        have ip : ∃ P' : hGM, (if w = 0 then m_X6_lays (S 10) g z else if w = 1 then m_X6_lays (S 10) g z else if w = 2 then (if v_X6_isClear (m_X6_lays (S 10) g z) g z = 0 then m_X6_isClear (m_X6_lays (S 10) g z) g z else m_X6_isClear (m_X6_lays (S 10) g z) g z) else if w = 3 then m_X6_lays (S 10) g z else if w = 4 then m_X6_lays (S 10) g z else m_X6_lays (S 10) g z) = P' ∧ Keep (S 10) P' ∧ P' 1 = S 10 1 := by
          refine ⟨_, rfl, ?_⟩
          have k2 : Keep (S 10) (m_X6_isClear (m_X6_lays (S 10) g z) g z) ∧ m_X6_isClear (m_X6_lays (S 10) g z) g z 1 = S 10 1 := by
            rw [isClear_m]
            exact ⟨keep_trans l4 (keep_lays _ _ _), lays_1.trans l5⟩
          split
          · exact ⟨l4, l5⟩
          · split
            · exact ⟨l4, l5⟩
            · split
              · split <;> exact k2
              · split
                · exact ⟨l4, l5⟩
                · split <;> exact ⟨l4, l5⟩
        obtain ⟨P', eP, kP, rP⟩ := ip
        rw [eP]
        refine ⟨⟨hasGlyph_p f g, fun z => absurd z c1, fun _ => ⟨fun _ => trivial, fun _ => ⟨fun _ => trivial, fun _ => ⟨⟨f, ⟨y.1, g8⟩, hz⟩, fun _ => trivial, fun _ => ⟨fun _ => trivial, fun _ => ⟨fun _ => ⟨fun _ => trivial, fun _ => trivial⟩, fun _ => ⟨fun _ => trivial, fun _ => ⟨fun _ => trivial, fun _ => trivial⟩⟩⟩⟩⟩⟩⟩⟩, ?_, gset_ne (by decide), ⟨fun z => absurd z c1', fun _ => ⟨fun _ => trivial, fun _ => ⟨fun _ => trivial, fun _ => ⟨lays_p h y.1 g8 (by omega) hz.2, fun _ => ⟨?_, trivial⟩, fun _ => ⟨fun _ => ⟨ph 0 (Or.inl rfl), trivial, ph 1 (Or.inr rfl), trivial, ⟨by omega, by omega⟩, trivial⟩, fun _ => ⟨fun _ => ⟨isClear_p l1 l2 y.1 g8 (by omega) hz.2, fun _ => trivial, fun _ => trivial⟩, fun _ => ⟨fun _ => trivial, fun _ => ⟨fun _ => ⟨⟨l1, ⟨y.1, g8⟩, ⟨by omega, hz.2⟩, l3⟩, trivial⟩, fun _ => ⟨⟨l1, ⟨y.1, g8⟩, ⟨by omega, hz.2⟩, l3⟩, trivial⟩⟩⟩⟩⟩⟩⟩⟩⟩, inv_s7 h kP rP⟩
        · have w6 : w = 0 ∨ w = 1 ∨ w = 2 ∨ w = 3 ∨ w = 4 ∨ w = 5 := by omega
          rcases w6 with rfl | rfl | rfl | rfl | rfl | rfl
          · exact ft.1.1
          · exact hlv_pop ft.2.2.2.2.2
          · show (if v_X0_isClear (m_X0_lay (S 0) (S 7) g z) = 0 then (0 : Int) else 1) = (if v_X6_isClear (m_X6_lays (S 10) g z) g z = 0 then 0 else 1)
            rw [clr_rel (S 7) hl y.1 y.2 (by omega) hz.2]
          · exact ft.2.1
          · exact ft.2.2.1
          · exact runs_rel ft
        · have ob := (l1.2.2.2.2.2.2.2.1 g y.1 g8).1
          have e0 : v_X6_of (m_X6_lays (S 10) g z) g 0 = m_X6_lays (S 10) g z 1 (9 + 20 * g) := by unfold v_X6_of; rw [Int.add_zero]
          exact ⟨of_p y.1 g8 (by decide) (by decide), mpx_p (by rw [e0]; omega) (by rw [e0]; omega) (by omega) hz.2, fun _ => trivial, fun _ => ⟨fun _ => trivial, fun _ => trivial⟩⟩

/-! further calls that only look -/
theorem cols_p {P : hGM} {g z : Int} (h : mNum (P 1)) (g0 : 0 ≤ g) (g1 : g < 8) (z0 : 0 ≤ z) (z1 : z ≤ 48) : p_X6_columns P g z := by
  have ob := (h.2.2.2.2.2.2.2.1 g g0 g1).1
  have e0 : v_X6_of P g 0 = P 1 (9 + 20 * g) := by unfold v_X6_of; rw [Int.add_zero]
  exact ⟨of_p g0 g1 (by decide) (by decide), mpx_p (by rw [e0]; omega) (by rw [e0]; omega) z0 z1, fun _ => trivial, fun _ => ⟨fun _ => trivial, fun _ => trivial⟩⟩
theorem bt_lit {S : hS} {c : Int} (h : Inv S c) (g z w : Int) : Both S c (p_X5_lit S g z w) (v_X5_lit S g z w) (m_X5_lit S g z w) (p_X6_lit (S 10) g z w) (v_X6_lit (S 10) g z w) (m_X6_lit (S 10) g z w) := by
  have f := h.1.1.1
  have hm := h.1.1.2.1
  have n := rel_g h.1.1
  have gi := glyph_iff h.1.1 g
  have es : v_X5_isSize z = v_X6_isSize z := rfl
  unfold p_X5_lit v_X5_lit m_X5_lit p_X6_lit v_X6_lit m_X6_lit
  rw [within_in, es]
  by_cases c1 : v_X1_hasGlyph (S 0) g = 0
  · have c1' := gi.mp c1
    rw [if_pos c1, if_pos c1, if_pos c1', if_pos c1']
    exact ⟨⟨hasGlyph_p f g, fun _ => trivial, fun z => absurd c1 z⟩, rfl, rfl, ⟨fun _ => trivial, fun z => absurd c1' z⟩, inv_s0 h⟩
  · have c1' : ¬ v_X6_isGlyph (S 10) g = 0 := fun z => c1 (gi.mpr z)
    rw [if_neg c1, if_neg c1, if_neg c1', if_neg c1']
    have y := hasGlyph_y c1
    have g8 : g < 8 := by omega
    by_cases c2 : v_X6_isSize z = 0
    · rw [if_pos c2, if_pos c2, if_pos c2, if_pos c2]
      exact ⟨⟨hasGlyph_p f g, fun z => absurd z c1, fun _ => ⟨fun _ => trivial, fun z => absurd c2 z⟩⟩, rfl, rfl, ⟨fun z => absurd z c1', fun _ => ⟨fun _ => trivial, fun z => absurd c2 z⟩⟩, inv_s0 h⟩
    · rw [if_neg c2, if_neg c2, if_neg c2, if_neg c2]
      have hz := isSize_y c2
      by_cases c3 : v_X6_in w 0 63 = 0
      · rw [if_pos c3, if_pos c3, if_pos c3, if_pos c3]
        exact ⟨⟨hasGlyph_p f g, fun z => absurd z c1, fun _ => ⟨fun _ => trivial, fun _ => ⟨fun _ => trivial, fun z => absurd c3 z⟩⟩⟩, rfl, rfl, ⟨fun z => absurd z c1', fun _ => ⟨fun _ => trivial, fun _ => ⟨fun _ => trivial, fun z => absurd c3 z⟩⟩⟩, inv_s0 h⟩
      · rw [if_neg c3, if_neg c3, if_neg c3, if_neg c3]
        have hw := Decidable.not_not.mp (fun z => c3 (in_0.mpr z))
        have ft := fit_rel (S 7) h.1.1 y.1 y.2 (by omega : 0 ≤ z) hz.2
        obtain ⟨l1, l2, l3, l4, l5⟩ := lays_facts h y.1 g8 (by omega : 0 ≤ z) hz.2
        have em : (if w < m_X0_lay (S 0) (S 7) g z 0 0 then gset S 7 (m_X0_lay (S 0) (S 7) g z) else gset S 7 (m_X0_lay (S 0) (S 7) g z)) = gset S 7 (m_X0_lay (S 0) (S 7) g z) := by split <;> rfl
        have ep : (if w < v_X6_columns (m_X6_lays (S 10) g z) g z then (if v_X6_isLit (m_X6_lays (S 10) g z) g w = 0 then m_X6_lays (S 10) g z else m_X6_lays (S 10) g z) else m_X6_lays (S 10) g z) = m_X6_lays (S 10) g z := by
          split
          · split <;> rfl
          · rfl
        rw [em, ep]
        refine ⟨⟨hasGlyph_p f g, fun z => absurd z c1, fun _ => ⟨fun _ => trivial, fun _ => ⟨fun _ => trivial, fun _ => ⟨⟨f, ⟨y.1, g8⟩, hz⟩, fun _ => trivial, fun _ => trivial⟩⟩⟩⟩, ?_, gset_ne (by decide), ⟨fun z => absurd z c1', fun _ => ⟨fun _ => trivial, fun _ => ⟨fun _ => trivial, fun _ => ⟨lays_p h y.1 g8 (by omega) hz.2, cols_p l1 y.1 g8 (by omega) hz.2, fun _ => ⟨⟨l1, ⟨y.1, g8⟩, ⟨by omega, by omega⟩, l3⟩, fun _ => trivial, fun _ => trivial⟩, fun _ => trivial⟩⟩⟩⟩, inv_s7 h l4 l5⟩
        rw [← ft.1.1]
        by_cases c4 : w < m_X0_lay (S 0) (S 7) g z 0 0
        · rw [if_pos c4, if_pos c4]
          have e := ft.2.2.2.2.1 w.toNat (by omega)
          have bv := bitOf_v (m_X0_lay (S 0) (S 7) g z 100 0) w.toNat (by omega)
          rw [Int.toNat_of_nonneg hw.1] at e bv
          rw [bv, e, decide_eq_true c4, Bool.true_and]
          by_cases c5 : v_X6_isLit (m_X6_lays (S 10) g z) g w = 0
          · rw [if_pos c5, decide_eq_false (fun z => z c5)]; rfl
          · rw [if_neg c5, decide_eq_true c5]; rfl
        · rw [if_neg c4, if_neg c4]
theorem bt_inSheet {S : hS} {c : Int} (h : Inv S c) (z g w : Int) : Both S c (p_X5_inSheet S z g w) (v_X5_inSheet S z g w) S (p_X6_inSheet (S 10) z g w) (v_X6_inSheet (S 10) z g w) (S 10) := by
  have f := h.1.1.1
  have hm := h.1.1.2.1
  have n := rel_g h.1.1
  have n7 := hm.2.2.2.2.2.1
  have es : v_X5_isSize z = v_X6_isSize z := rfl
  obtain ⟨hs, o, hord⟩ := h.1.2.2
  have hord : Ord (S 0) (S 10 1) o := hord
  have sbd := slotOf_bd (S 0) z
  unfold p_X5_inSheet v_X5_inSheet p_X6_inSheet v_X6_inSheet
  rw [within_in, within_in, es]
  by_cases c1 : v_X6_isSize z = 0
  · rw [if_pos c1, if_pos c1]
    exact ⟨⟨fun _ => trivial, fun z => absurd c1 z⟩, rfl, rfl, ⟨fun _ => trivial, fun z => absurd c1 z⟩, inv_s0 h⟩
  · rw [if_neg c1, if_neg c1]
    by_cases c2 : v_X6_in g 0 7 = 0
    · rw [if_pos c2, if_pos c2]
      exact ⟨⟨fun z => absurd z c1, fun _ => ⟨fun _ => trivial, fun z => absurd c2 z⟩⟩, rfl, rfl, ⟨fun z => absurd z c1, fun _ => ⟨fun _ => trivial, fun z => absurd c2 z⟩⟩, inv_s0 h⟩
    · rw [if_neg c2, if_neg c2]
      have hg := Decidable.not_not.mp (fun z => c2 (in_0.mpr z))
      by_cases c3 : v_X6_in w 0 63 = 0
      · rw [if_pos c3, if_pos c3]
        exact ⟨⟨fun z => absurd z c1, fun _ => ⟨fun _ => trivial, fun _ => ⟨fun _ => trivial, fun z => absurd c3 z⟩⟩⟩, rfl, rfl, ⟨fun z => absurd z c1, fun _ => ⟨fun _ => trivial, fun _ => ⟨fun _ => trivial, fun z => absurd c3 z⟩⟩⟩, inv_s0 h⟩
      · rw [if_neg c3, if_neg c3]
        have hw := Decidable.not_not.mp (fun z => c3 (in_0.mpr z))
        refine ⟨⟨fun z => absurd z c1, fun _ => ⟨fun _ => trivial, fun _ => ⟨fun _ => trivial, fun _ => ⟨trivial, fun _ => trivial, fun _ => ⟨fun _ => ⟨⟨by omega, by omega⟩, fun _ => trivial, fun _ => trivial⟩, fun _ => trivial⟩⟩⟩⟩⟩, ?_, rfl, ⟨fun z => absurd z c1, fun _ => ⟨fun _ => trivial, fun _ => ⟨fun _ => trivial, fun _ => ⟨n7, fun _ => trivial, fun y => ⟨⟨by omega, by omega⟩, ?_, fun _ => ⟨hw.1, ?_, trivial⟩, fun _ => trivial⟩⟩⟩⟩⟩, inv_s0 h⟩
        · rcases sheetAt_at hord n7 z with ⟨a1, a2, a3⟩ | ⟨a1, a2, a3, a4⟩
          · rw [a2, a1, if_pos (by decide), if_pos (by decide)]
          · obtain ⟨p1, p2, p3⟩ := hord.1 _ a1 a2
            rw [a3, if_neg (show ¬ o (v_X6_sheetAt (S 10) z) < 0 by omega), if_neg (show ¬ v_X6_sheetAt (S 10) z < 0 by omega)]
            generalize v_X6_sheetAt (S 10) z = k at a1 a2 p1 p2 p3 ⊢
            obtain ⟨q1, q2, q3, q4, q5⟩ := p3
            rw [cell_in p1.1 (by omega)]
            unfold v_X6_ofSheet
            have gg := q5 g hg.1 (by omega)
            by_cases c4 : g < S 0 10 (o k)
            · obtain ⟨g1, g2⟩ := gg.1 c4
              rw [if_pos c4, cell_in (by omega) (by omega), litAt_in (by omega) (by omega), ← g1]
              by_cases c5 : w < S 0 11 (o k * 8 + g)
              · rw [if_pos c5, if_pos c5]
                have bv := bitOf_v (S 0 112 (o k * 8 + g)) w.toNat (by omega)
                rw [Int.toNat_of_nonneg hw.1, hlv_bit g2 (by omega)] at bv
                rw [bv]
                by_cases c6 : w < 32
                · have bi := bitOf_i (S 10 1 (209 + 16 * k + 2 * g)) w.toNat (by omega)
                  rw [Int.toNat_of_nonneg hw.1] at bi
                  rw [if_pos (show w.toNat < 32 by omega), show w / 32 = 0 by omega, show w % 32 = w by omega, Int.add_zero, bi]
                · have bi := bitOf_i (S 10 1 (209 + 16 * k + 2 * g + 1)) (w.toNat - 32) (by omega)
                  rw [if_neg (show ¬ w.toNat < 32 by omega), show w / 32 = 1 by omega, show w % 32 = ((w.toNat - 32 : Nat) : Int) by omega, bi]
              · rw [if_neg c5, if_neg c5]
            · obtain ⟨g1, _, _⟩ := gg.2 (by omega)
              rw [if_neg c4, g1, if_neg (by omega)]
        · have sb := sheetAt_bd (P := S 10) (z := z) n7.1
          exact ofSheet_p (by omega) (by omega) (by omega) (by omega)
        · have sb := sheetAt_bd (P := S 10) (z := z) n7.1
          omega
theorem bt_even {S : hS} {c : Int} (h : Inv S c) (z : Int) : Both S c (p_X5_even S z) (v_X5_even S z) (m_X5_even S z) (p_X6_even (S 10) z) (v_X6_even (S 10) z) (S 10) := by
  have f := h.1.1.1
  have hm := h.1.1.2.1
  have es : v_X5_isSize z = v_X6_isSize z := rfl
  unfold p_X5_even v_X5_even m_X5_even p_X6_even v_X6_even
  rw [es]
  by_cases c1 : v_X6_isSize z = 0
  · rw [if_pos c1, if_pos c1, if_pos c1]
    exact ⟨⟨fun _ => trivial, fun z => absurd c1 z⟩, rfl, rfl, hm, inv_s0 h⟩
  · rw [if_neg c1, if_neg c1, if_neg c1]
    have hz := isSize_y c1
    have er := even_rel (S 7) h.1.1 (by omega : 0 ≤ z) hz.2
    have z1 := z_X0_isEven (S 0) (S 7) z
    have em : (if v_X0_isEven (S 0) (S 7) z = 0 then gset S 7 (m_X0_isEven (S 0) (S 7) z) else gset S 7 (m_X0_isEven (S 0) (S 7) z)) = gset S 7 (m_X0_isEven (S 0) (S 7) z) := by split <;> rfl
    rw [em, ← er]
    refine ⟨⟨fun z => absurd z c1, fun _ => ⟨⟨f, hz⟩, fun _ => trivial, fun _ => trivial⟩⟩, ?_, gset_ne (by decide), hm, inv_s7 h (keep_rfl _) rfl⟩
    rcases z1 with z1 | z1
    · rw [if_pos z1, z1]
    · rw [if_neg (by omega), z1]
theorem clR_keep (g : Int) (n : Nat) : ∀ (z : Int) (L : hGM), Keep L (clR g n z L).2 ∧ (clR g n z L).2 1 = L 1 := by
  induction n with
  | zero => intro z L; exact ⟨keep_rfl _, rfl⟩
  | succ n ih =>
    intro z L
    have e : clR g (n + 1) z L = if v_X6_isClear L g z = 0 then clR g n (z + 1) (m_X6_isClear L g z) else (z, m_X6_isClear L g z) := rfl
    have k1 : Keep L (m_X6_isClear L g z) := by rw [isClear_m]; exact keep_lays _ _ _
    have r1 : m_X6_isClear L g z 1 = L 1 := isClear_1
    rw [e]
    split
    · have i := ih (z + 1) (m_X6_isClear L g z)
      exact ⟨keep_trans k1 i.1, i.2.trans r1⟩
    · exact ⟨k1, r1⟩
theorem bt_clear {S : hS} {c : Int} (h : Inv S c) (g : Int) : Both S c (p_X5_clear S g) (v_X5_clear S g) (m_X5_clear S g) (p_X6_clear (S 10) g) (v_X6_clear (S 10) g) (m_X6_clear (S 10) g) := by
  have f := h.1.1.1
  have hm := h.1.1.2.1
  have n := rel_g h.1.1
  have gi := glyph_iff h.1.1 g
  unfold v_X5_clear m_X5_clear v_X6_clear m_X6_clear
  by_cases c1 : v_X1_hasGlyph (S 0) g = 0
  · have c1' := gi.mp c1
    rw [if_pos c1, if_pos c1, if_pos c1', if_pos c1']
    exact ⟨f, rfl, rfl, ⟨hm, rel_gap h.1.1⟩, inv_s0 h⟩
  · have c1' : ¬ v_X6_isGlyph (S 10) g = 0 := fun z => c1 (gi.mpr z)
    rw [if_neg c1, if_neg c1, if_neg c1', if_neg c1']
    have y := hasGlyph_y c1
    have k := clR_keep g 43 6 (S 10)
    exact ⟨f, clear_rel (S 7) h.1.1 y.1 y.2, gset_ne (by decide), ⟨hm, rel_gap h.1.1⟩, inv_s7 h k.1 k.2⟩
theorem czS_keep (P : hGM) (g : Int) (n : Nat) : Keep P (czS P g n).2 := by
  induction n with
  | zero => exact keep_rfl _
  | succ n ih =>
    have e : (czS P g (n + 1)).2 = m_X6_isClear (czS P g n).2 g (6 + n) := rfl
    rw [e, isClear_m]
    exact keep_trans ih (keep_lays _ _ _)
theorem best_ind {S : hS} {P : hGM} (h : Rel0 (S 0) (P 1)) {g k : Int} (g0 : 0 ≤ g) (g1 : g < S 0 0 0) (k0 : 0 ≤ k) (k1 : k < S 0 2 g) (n : Nat) (hn : n ≤ 4) :
    Rel0 ((bsS S g k n).2.2 1) ((beS P g k n).2.2 1) ∧ ((bsS S g k n).2.2 1 0 0 = S 0 0 0 ∧ (bsS S g k n).2.2 1 2 g = S 0 2 g) ∧ (∀ x : Nat, x ≠ 1 → x ≠ 7 → (bsS S g k n).2.2 x = S x) ∧ Keep P (beS P g k n).2.2 ∧ (∀ q : Int, q ≠ v_X6_at g k 2 → (beS P g k n).2.2 1 q = P 1 q) ∧ ((n = 0 ∧ (bsS S g k n).1 = 0 ∧ (bsS S g k n).2.1 = -1 ∧ (beS P g k n).1 = 0 ∧ (beS P g k n).2.1 = 0) ∨ (0 < n ∧ (bsS S g k n).1 = (beS P g k n).1 ∧ (bsS S g k n).2.1 = (beS P g k n).2.1)) := by
  have ng := rel_g h
  induction n with
  | zero =>
    have e1 : bsS S g k 0 = (0, -1, gset S 1 (m_X1_copy (S 1) (S 0))) := rfl
    have e2 : beS P g k 0 = (0, 0, P) := rfl
    rw [e1, e2]
    refine ⟨?_, ⟨?_, ?_⟩, fun x h1 _ => gset_ne h1, keep_rfl _, fun _ _ => rfl, Or.inl ⟨rfl, rfl, rfl, rfl, rfl⟩⟩
    · show Rel0 (gset S 1 (m_X1_copy (S 1) (S 0)) 1) (P 1)
      rw [gset_at]
      exact rel0_ag h (agF_copy _ _) (fun _ _ _ => rfl)
    · show gset S 1 (m_X1_copy (S 1) (S 0)) 1 0 0 = _
      rw [gset_at]; exact copy_0 _ _ 0 (Or.inl rfl)
    · show gset S 1 (m_X1_copy (S 1) (S 0)) 1 2 g = _
      rw [gset_at]; exact copy_2 _ _ g0 (by omega)
  | succ n ih =>
    obtain ⟨i1, ⟨i2, i3⟩, i4, i5, i6, i7⟩ := ih (by omega)
    have st : bsS S g k (n + 1) = if v_X5_clearSizes (gset (bsS S g k n).2.2 1 (m_X5_put ((bsS S g k n).2.2 1) 5 48 ((g * 6) + k) n)) 1 g ≤ (bsS S g k n).2.1 then ((bsS S g k n).1, (bsS S g k n).2.1, m_X5_clearSizes (gset (bsS S g k n).2.2 1 (m_X5_put ((bsS S g k n).2.2 1) 5 48 ((g * 6) + k) n)) 1 g) else ((n : Int), v_X5_clearSizes (gset (bsS S g k n).2.2 1 (m_X5_put ((bsS S g k n).2.2 1) 5 48 ((g * 6) + k) n)) 1 g, m_X5_clearSizes (gset (bsS S g k n).2.2 1 (m_X5_put ((bsS S g k n).2.2 1) 5 48 ((g * 6) + k) n)) 1 g) := rfl
    have se : beS P g k (n + 1) = if v_X6_clearSizes (aset (beS P g k n).2.2 1 (v_X6_at g k 2) n) g ≤ (beS P g k n).2.1 then ((beS P g k n).1, (beS P g k n).2.1, m_X6_clearSizes (aset (beS P g k n).2.2 1 (v_X6_at g k 2) n) g) else ((n : Int), v_X6_clearSizes (aset (beS P g k n).2.2 1 (v_X6_at g k 2) n) g, m_X6_clearSizes (aset (beS P g k n).2.2 1 (v_X6_at g k 2) n) g) := rfl
    generalize bsS S g k n = B at i1 i2 i3 i4 i7 st
    generalize beS P g k n = E at i1 i5 i6 i7 se
    have mb := rel_many i1 g0 (by omega : g < 8)
    rw [put_in (by omega) (by omega)] at st
    have hr := rel0_hint i1 g0 (by omega : g < 8) k0 (by omega : k < B.2.2 1 2 g) (v := (n : Int)) (by omega) (by omega)
    have sz := sizes_rel (gset B.2.2 1 (aset (B.2.2 1) 5 (g * 6 + k) n)) 1 (gset_at _ _ _) hr g0 (by rw [aset_row (by decide), i2]; exact g1)
    rw [sz] at st
    have vb := mclz_bd (aset E.2.2 1 (v_X6_at g k 2) n) g
    have eT : (bsS S g k (n + 1)).2.2 = m_X5_clearSizes (gset B.2.2 1 (aset (B.2.2 1) 5 (g * 6 + k) n)) 1 g := by rw [st]; split <;> rfl
    have eE : (beS P g k (n + 1)).2.2 = m_X6_clearSizes (aset E.2.2 1 (v_X6_at g k 2) n) g := by
      generalize m_X6_clearSizes (aset E.2.2 1 (v_X6_at g k 2) n) g = M at se ⊢
      rw [se]
      split <;> rfl
    have r1 : m_X6_clearSizes (aset E.2.2 1 (v_X6_at g k 2) n) g 1 = aset E.2.2 1 (v_X6_at g k 2) n 1 := mclz_1
    have t1 : m_X5_clearSizes (gset B.2.2 1 (aset (B.2.2 1) 5 (g * 6 + k) n)) 1 g 1 = aset (B.2.2 1) 5 (g * 6 + k) n := by
      unfold m_X5_clearSizes
      rw [gset_ne (by decide), gset_at]
    refine ⟨by rw [eT, eE, t1, r1]; exact hr, ⟨by rw [eT, t1, aset_row (by decide)]; exact i2, by rw [eT, t1, aset_row (by decide)]; exact i3⟩, fun x h1 h7 => ?_, ?_, fun q hq => ?_, Or.inr ⟨by omega, ?_⟩⟩
    · rw [eT]
      unfold m_X5_clearSizes
      rw [gset_ne h7, gset_ne h1]
      exact i4 x h1 h7
    · rw [eE]
      exact keep_trans i5 (keep_trans (keep_aset _ _ _) (czS_keep _ _ _))
    · rw [eE, r1, aset_ne (by omega)]
      exact i6 q hq
    · rw [st, se]
      generalize v_X6_clearSizes (aset E.2.2 1 (v_X6_at g k 2) n) g = v at vb ⊢
      rcases i7 with ⟨a, b1, b2, b3, b4⟩ | ⟨a, b1, b2⟩
      · subst a
        rw [b1, b2, b3, b4, if_neg (by omega)]
        by_cases d : v ≤ 0
        · rw [if_pos d]; exact ⟨rfl, by show v = 0; omega⟩
        · rw [if_neg d]; exact ⟨rfl, rfl⟩
      · rw [b1, b2]
        by_cases d : v ≤ E.2.1
        · rw [if_pos d, if_pos d]; exact ⟨rfl, rfl⟩
        · rw [if_neg d, if_neg d]; exact ⟨rfl, rfl⟩
theorem bt_best {S : hS} {c : Int} (h : Inv S c) (g k w : Int) : Both S c (p_X5_best S g k w) (v_X5_best S g k w) (m_X5_best S g k w) (p_X6_best (S 10) g k w) (v_X6_best (S 10) g k w) (m_X6_best (S 10) g k w) := by
  have f := h.1.1.1
  have hm := h.1.1.2.1
  have n := rel_g h.1.1
  have si := stem_iff h.1.1 g k
  unfold v_X5_best m_X5_best v_X6_best m_X6_best
  rw [within_in]
  by_cases c1 : v_X1_hasStem (S 0) g k = 0
  · have c1' := si.mp c1
    rw [if_pos c1, if_pos c1, if_pos c1', if_pos c1']
    exact ⟨f, rfl, rfl, ⟨hm, rel_gap h.1.1⟩, inv_s0 h⟩
  · have c1' : ¬ v_X6_isStem (S 10) g k = 0 := fun z => c1 (si.mpr z)
    rw [if_neg c1, if_neg c1, if_neg c1', if_neg c1']
    have y := hasStem_y f c1
    by_cases c2 : v_X6_in w 0 1 = 0
    · rw [if_pos c2, if_pos c2, if_pos c2, if_pos c2]
      exact ⟨f, rfl, rfl, ⟨hm, rel_gap h.1.1⟩, inv_s0 h⟩
    · rw [if_neg c2, if_neg c2, if_neg c2, if_neg c2]
      obtain ⟨b1, b2, b3, b4, b5, b6⟩ := best_ind h.1.1 y.1.1 y.1.2 y.2.1 y.2.2 4 (Nat.le_refl _)
      have bb : (bsS S g k 4).1 = (beS (S 10) g k 4).1 ∧ (bsS S g k 4).2.1 = (beS (S 10) g k 4).2.1 := by
        rcases b6 with ⟨a, _⟩ | ⟨_, a⟩
        · exact absurd a (by decide)
        · exact a
      refine ⟨f, by rw [bb.1, bb.2], b3 10 (by decide) (by decide), ⟨hm, rel_gap h.1.1⟩, ?_⟩
      refine inv_keep h b3 (keep_trans b4 (keep_aset _ _ _)) (fun q _ _ => ?_)
      by_cases e : q = v_X6_at g k 2
      · rw [e, aset_at]; rfl
      · rw [aset_ne (by omega)]; exact b5 q e

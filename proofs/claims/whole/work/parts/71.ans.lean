/-! the calls that change a font: answers and what becomes of it -/
def Keep (Q P' : hGM) : Prop := (∀ i : Nat, i ≠ 0 → i ≠ 1 → i ≠ 5 → i ≠ 6 → P' i = Q i) ∧ ∀ q : Int, q ≠ 9 → P' 0 q = Q 0 q
theorem keep_rfl (Q : hGM) : Keep Q Q := ⟨fun _ _ _ _ _ => rfl, fun _ _ => rfl⟩
theorem keep_trans {Q R S : hGM} (a : Keep Q R) (b : Keep R S) : Keep Q S := ⟨fun i h0 h1 h5 h6 => (b.1 i h0 h1 h5 h6).trans (a.1 i h0 h1 h5 h6), fun q h => (b.2 q h).trans (a.2 q h)⟩
theorem keep_aset (Q : hGM) (k v : Int) : Keep Q (aset Q 1 k v) := ⟨fun i _ h1 _ _ => aset_row h1, fun _ _ => by rw [aset_row (by decide)]⟩
theorem keep_mvU (Q : hGM) (d a b : Int) : Keep Q (mvU Q 1 d a b) := ⟨fun i _ h1 _ _ => mvU_row h1, fun _ _ => by rw [mvU_row (by decide)]⟩
theorem keep_mvD (Q : hGM) (d a b : Int) : Keep Q (mvD Q 1 d a b) := ⟨fun i _ h1 _ _ => mvD_row h1, fun _ _ => by rw [mvD_row (by decide)]⟩
theorem keep_lays (Q : hGM) (g z : Int) : Keep Q (m_X6_lays Q g z) := ⟨fun i h0 _ h5 h6 => lays_row h0 h5 h6, fun q h => laS_0 _ h⟩
theorem keep_mkM (L : hGM) (y z : Int) (n : Nat) : Keep L (mkM L y z n) := by
  induction n with
  | zero => exact keep_rfl L
  | succ n ih =>
    have e : mkM L y z (n + 1) = if (n : Int) < (mkM L y z n) 1 0 then mkA (mkM L y z n) y z n else aset (aset (aset (mkM L y z n) 1 (((169 + (10 * y)) + 2) + n) 0) 1 ((209 + (16 * y)) + (2 * n)) 0) 1 (((209 + (16 * y)) + (2 * n)) + 1) 0 := rfl
    rw [e]
    split
    · unfold mkA
      exact keep_trans ih (keep_trans (keep_lays _ n z) (keep_trans (keep_aset _ _ _) (keep_trans (keep_aset _ _ _) (keep_aset _ _ _))))
    · exact keep_trans ih (keep_trans (keep_aset _ _ _) (keep_trans (keep_aset _ _ _) (keep_aset _ _ _)))
theorem keep_taS (C : hGM) (s : Int) : Keep C (taS C s) := keep_trans (keep_aset _ _ _) (keep_trans (keep_mvD _ _ _ _) (keep_mvD _ _ _ _))
theorem keep_mkK (C : hGM) (z : Int) : Keep C (mkK C z) := by
  unfold mkK
  split
  · split
    · exact keep_taS C 0
    · exact keep_rfl C
  · exact keep_taS C _
theorem keep_mkZ (P : hGM) (z : Int) : Keep (m_X6_changes P) (mkZ P z) := by
  unfold mkZ mkE mkB
  exact keep_trans (keep_mkK _ z) (keep_trans (keep_aset _ _ _) (keep_trans (keep_aset _ _ _) (keep_trans (keep_mkM _ _ _ _) (keep_trans (keep_aset _ _ _) (keep_aset _ _ _)))))
theorem keep_stI (C : hGM) (g n p w : Int) : Keep C (stI C g n p w) := by
  unfold stI stP
  exact keep_trans (keep_mvU _ _ _ _) (keep_trans (keep_aset _ _ _) (keep_trans (keep_aset _ _ _) (keep_trans (keep_aset _ _ _) (keep_aset _ _ _))))
theorem keep_stO (C : hGM) (g n : Int) : Keep C (stO C g n) := by
  unfold stO
  exact keep_trans (keep_aset _ _ _) (keep_mvD _ _ _ _)
theorem keep_swI (C : hGM) (w : Int) : Keep C (swI C w) := by
  unfold swI
  exact keep_trans (keep_mvU _ _ _ _) (keep_trans (keep_aset _ _ _) (keep_aset _ _ _))
theorem keep_swO (C : hGM) (x : Int) : Keep C (swO C x) := by
  unfold swO
  exact keep_trans (keep_aset _ _ _) (keep_mvD _ _ _ _)
def Ans (A A' P P' : hGM) (v w : Int) : Prop := v = w ∧ Rel A' (P' 1) ∧ (v < 0 → A' = A ∧ P' = P) ∧ (¬ v < 0 → Keep (m_X6_changes P) P') ∧ P' 1 8 ≤ P 1 8 + 1
theorem ans_no {A P : hGM} (h : Rel A (P 1)) {v : Int} (hv : v < 0) : Ans A A P P v v := ⟨rfl, h, fun _ => ⟨rfl, rfl⟩, fun z => absurd hv z, by omega⟩
theorem chg_1 (P : hGM) : m_X6_changes P 1 = P 1 := changes_row (by decide) (by decide)
theorem ans_of {A A' P P' : hGM} {v w : Int} (e : v = w) (hv : 0 ≤ v) (h : Rel A' (P' 1)) (k : Keep (m_X6_changes P) P') (b : P' 1 8 ≤ P 1 8 + 1) : Ans A A' P P' v w := ⟨e, h, fun z => by omega, fun _ => k, b⟩
theorem ans_glyph {A P : hGM} (h : Rel A (P 1)) (a : Int) : Ans A (m_X1_addGlyph A a) P (m_X6_glyph P a) (v_X1_addGlyph A a) (v_X6_glyph P a) := by
  have n := rel_g h.1
  have hc : Rel A (m_X6_changes P 1) := by rw [chg_1]; exact h
  unfold m_X1_addGlyph v_X1_addGlyph m_X6_glyph v_X6_glyph
  rw [within_in]
  by_cases c : v_X6_in a 100 1500 = 0
  · rw [if_pos c, if_pos c, if_pos c, if_pos c]; exact ans_no h (by decide)
  · rw [if_neg c, if_neg c, if_neg c, if_neg c]
    have cb := Decidable.not_not.mp (fun z => c (in_0.mpr z))
    by_cases c2 : A 0 0 < 8
    · have e : ∀ q : Int, q = 9 + 20 * P 1 0 + 0 ∨ q = 9 + 20 * P 1 0 + 1 → q ≠ 0 ∧ q ≠ 8 := fun q hq => by omega
      rw [if_pos c2, if_pos c2, if_neg (by omega), if_neg (by omega), put_in n.2.1 (by omega)]
      have e1 : aset A 1 (A 0 0) a 0 0 = A 0 0 := by rw [aset_row (by decide)]
      have e2 : aset (aset (m_X6_changes P) 1 (9 + 20 * P 1 0 + 0) a) 1 (9 + 20 * P 1 0 + 1) 0 1 0 = P 1 0 := by
        rw [aset_ne (by omega), aset_ne (by omega), chg_1]
      rw [e1, e2]
      have q := rel_glyph hc cb.1 cb.2 c2
      rw [chg_1] at q
      refine ans_of n.1 n.2.1 q (keep_trans (keep_aset _ _ _) (keep_trans (keep_aset _ _ _) (keep_aset _ _ _))) ?_
      rw [aset_ne (by omega), aset_ne (by omega), aset_ne (by omega), chg_1]
      omega
    · rw [if_neg c2, if_neg c2, if_pos (by omega), if_pos (by omega)]; exact ans_no h (by decide)
theorem ans_stem {A P : hGM} (h : Rel A (P 1)) (g p w : Int) : Ans A (m_X1_addStem A g p w) P (m_X6_stem P g p w) (v_X1_addStem A g p w) (v_X6_stem P g p w) := by
  have n := rel_g h.1
  have hc : Rel A (m_X6_changes P 1) := by rw [chg_1]; exact h
  have gi := glyph_iff h.1 g
  unfold m_X1_addStem v_X1_addStem m_X6_stem v_X6_stem
  rw [within_in, within_in]
  by_cases c : v_X1_hasGlyph A g = 0 ∨ v_X6_in p 0 999 = 0 ∨ v_X6_in w 1 300 = 0
  · have c' : v_X6_isGlyph P g = 0 ∨ v_X6_in p 0 999 = 0 ∨ v_X6_in w 1 300 = 0 := by rw [← gi]; exact c
    rw [if_pos c, if_pos c, if_pos c', if_pos c']; exact ans_no h (by decide)
  · have c' : ¬ (v_X6_isGlyph P g = 0 ∨ v_X6_in p 0 999 = 0 ∨ v_X6_in w 1 300 = 0) := by rw [← gi]; exact c
    rw [if_neg c, if_neg c, if_neg c', if_neg c']
    have hg := hasGlyph_y (fun z => c (Or.inl z))
    have hp := Decidable.not_not.mp (fun z => c (Or.inr (Or.inl (in_0.mpr z))))
    have hw := Decidable.not_not.mp (fun z => c (Or.inr (Or.inr (in_0.mpr z))))
    have ov := over_rel h.1 hg.1 (by omega : g < 8) (p := p) hw.1
    by_cases c2 : ovAt A g p w = -1
    · have c2' := ov.mp c2
      rw [if_neg (show ¬ ¬ ovAt A g p w = -1 from fun z => z c2), if_neg (show ¬ ¬ ovAt A g p w = -1 from fun z => z c2), if_neg c2', if_neg c2']
      have mb := rel_many h.1 hg.1 (by omega : g < 8)
      have eo : v_X6_of P g 1 = A 2 g := rel_of h.1 hg.1 (by omega)
      by_cases c3 : A 2 g < 6
      · rw [if_pos c3, if_pos c3, if_neg (by omega), if_neg (by omega), lf_rel h.1 hg.1 (by omega)]
        obtain ⟨a1, a2, a3⟩ := ahead_at h.1 hg.1 (by omega : g < 8) p
        -- what lies clear
        have cl : clrM P g p w = true := by
          cases q : clrM P g p w with
          | true => rfl
          | false => exact absurd q c2'
        unfold clrM v_X6_endOf at cl
        rw [Bool.and_eq_true, decide_eq_true_eq, decide_eq_true_eq, eo] at cl
        generalize v_X6_ahead P g p = x at a1 a2 a3 cl ⊢
        have q := rel_stemIn hc (n := x) hg.1 hg.2 hp.1 hp.2 hw.1 hw.2 c3 a1.1 a1.2 (fun z => by
          have o := ofStem_rel h.1 hg.1 (by omega : g < 8) (k := x - 1) (by omega) (by omega)
          rcases cl.1 with y | y
          · omega
          · rw [o.1, o.2.1] at y; exact y) (fun z => by
          have o := ofStem_rel h.1 hg.1 (by omega : g < 8) (k := x) (by omega) (by omega)
          rcases cl.2 with y | y
          · omega
          · rw [o.1] at y; exact y)
        refine ans_of rfl a1.1 q (keep_stI _ _ _ _ _) ?_
        have b8 : stI (m_X6_changes P) g x p w 1 8 = P 1 8 := by
          unfold stI stP mvU
          rw [aset_ne (by omega), aset_ne (by unfold v_X6_at; omega), aset_ne (by unfold v_X6_at; omega), aset_ne (by unfold v_X6_at; omega), if_neg (by unfold v_X6_at; omega), chg_1]
        omega
      · rw [if_neg c3, if_neg c3, if_pos (by omega), if_pos (by omega)]; exact ans_no h (by decide)
    · have c2' : clrM P g p w = false := by
        refine Decidable.byContradiction (fun z => c2 (ov.mpr z))
      rw [if_pos c2, if_pos c2, if_pos c2', if_pos c2']; exact ans_no h (by decide)
theorem ans_cut {A P : hGM} (h : Rel A (P 1)) (g k : Int) : Ans A (m_X1_cutStem A g k) P (m_X6_cut P g k) (v_X1_cutStem A g k) (v_X6_cut P g k) := by
  have n := rel_g h.1
  have hc : Rel A (m_X6_changes P 1) := by rw [chg_1]; exact h
  have si := stem_iff h.1 g k
  unfold m_X1_cutStem v_X1_cutStem m_X6_cut v_X6_cut
  by_cases c : v_X1_hasStem A g k = 0
  · have c' := si.mp c
    rw [if_pos c, if_pos c, if_pos c', if_pos c']; exact ans_no h (by decide)
  · have c' : ¬ v_X6_isStem P g k = 0 := fun z => c (si.mpr z)
    have y := hasStem_y h.1.1 c
    rw [if_neg c, if_neg c, if_neg c', if_neg c', rel_of h.1 y.1.1 (by omega)]
    refine ans_of rfl (by omega) (rel_stemOut hc y.1.1 y.1.2 y.2.1 y.2.2) (keep_stO _ _ _) ?_
    have b8 : stO (m_X6_changes P) g k 1 8 = P 1 8 := by
      unfold stO mvD
      rw [if_neg (by unfold v_X6_at; omega), aset_ne (by omega), chg_1]
    omega
theorem ans_hint {A P : hGM} (h : Rel A (P 1)) (g k v : Int) : Ans A (m_X1_hintStem A g k v) P (m_X6_hint P g k v) (v_X1_hintStem A g k v) (v_X6_hint P g k v) := by
  have n := rel_g h.1
  have hc : Rel A (m_X6_changes P 1) := by rw [chg_1]; exact h
  have si := stem_iff h.1 g k
  unfold m_X1_hintStem v_X1_hintStem m_X6_hint v_X6_hint
  rw [within_in]
  by_cases c : v_X1_hasStem A g k = 0
  · have c' := si.mp c
    rw [if_pos c, if_pos c, if_pos c', if_pos c']; exact ans_no h (by decide)
  · have c' : ¬ v_X6_isStem P g k = 0 := fun z => c (si.mpr z)
    have y := hasStem_y h.1.1 c
    rw [if_neg c, if_neg c, if_neg c', if_neg c']
    by_cases c2 : v_X6_in v 0 3 = 0
    · rw [if_pos c2, if_pos c2, if_pos c2, if_pos c2]; exact ans_no h (by decide)
    · rw [if_neg c2, if_neg c2, if_neg c2, if_neg c2]
      have hv := Decidable.not_not.mp (fun z => c2 (in_0.mpr z))
      have mb := rel_many h.1 y.1.1 (by omega : g < 8)
      have st := rel_stem h.1 y.1.1 (by omega : g < 8) y.2.1 y.2.2
      have o := ofStem_rel hc.1 y.1.1 (by omega : g < 8) y.2.1 y.2.2
      rw [cell_in (by omega) (by omega), put_in (by omega) (by omega), o.2.2]
      refine ans_of rfl st.2.2.2.1.1 (rel_hint hc y.1.1 (by omega) y.2.1 y.2.2 hv.1 hv.2) (keep_aset _ _ _) ?_
      rw [aset_ne (by unfold v_X6_at; omega), chg_1]
      omega
theorem ans_standard {A P : hGM} (h : Rel A (P 1)) (w : Int) : Ans A (m_X1_addStandard A w) P (m_X6_standard P w) (v_X1_addStandard A w) (v_X6_standard P w) := by
  have n := rel_g h.1
  have hc : Rel A (m_X6_changes P 1) := by rw [chg_1]; exact h
  have wa := wideAt_rel h.1 w
  have sb := standardAt_bd h.1.1 w
  have e1 := h.1.2.2.1.2.1
  have b1 := h.1.2.1.2.1
  unfold m_X1_addStandard v_X1_addStandard m_X6_standard v_X6_standard
  rw [within_in]
  by_cases c : v_X6_in w 1 300 = 0
  · rw [if_pos c, if_pos c, if_pos c, if_pos c]; exact ans_no h (by decide)
  · rw [if_neg c, if_neg c, if_neg c, if_neg c]
    have hw := Decidable.not_not.mp (fun z => c (in_0.mpr z))
    by_cases c2 : v_X1_standardAt A w < 0
    · have c2' : v_X6_wideAt P w < 0 := by rw [wa, if_pos (by omega)]; decide
      rw [if_neg (show ¬ ¬ v_X1_standardAt A w < 0 from fun z => z c2), if_neg (show ¬ ¬ v_X1_standardAt A w < 0 from fun z => z c2), if_neg (show ¬ ¬ v_X6_wideAt P w < 0 from fun z => z c2'), if_neg (show ¬ ¬ v_X6_wideAt P w < 0 from fun z => z c2')]
      by_cases c3 : A 0 1 < 3
      · rw [if_pos c3, if_pos c3, if_neg (by omega), if_neg (by omega)]
        have q := rel_std hc hw.1 hw.2 c3
        have v := snapping_rel q.1 hw.1
        have v0 : 0 ≤ v_X1_snappingTo (stIns A w) w := (cnt_bd (fun k => 0 < (stIns A w) 4 k ∧ v_X1_snapOf (stIns A w) ((stIns A w) 4 k) = w) 48).1
        refine ans_of v v0 q (keep_swI _ _) ?_
        rw [swI_out (by rw [chg_1]; omega) (by omega), chg_1]
        omega
      · rw [if_neg c3, if_neg c3, if_pos (by omega), if_pos (by omega)]; exact ans_no h (by decide)
    · have c2' : ¬ v_X6_wideAt P w < 0 := by rw [wa, if_neg (by omega)]; exact c2
      rw [if_pos c2, if_pos c2, if_pos c2', if_pos c2']; exact ans_no h (by decide)
theorem ans_drop {A P : hGM} (h : Rel A (P 1)) (w : Int) : Ans A (m_X1_dropStandard A w) P (m_X6_drop P w) (v_X1_dropStandard A w) (v_X6_drop P w) := by
  have hc : Rel A (m_X6_changes P 1) := by rw [chg_1]; exact h
  have wa := wideAt_rel h.1 w
  have sb := standardAt_bd h.1.1 w
  have e1 := h.1.2.2.1.2.1
  unfold m_X1_dropStandard v_X1_dropStandard m_X6_drop v_X6_drop
  rw [within_in]
  by_cases c : v_X6_in w 1 300 = 0
  · rw [if_pos c, if_pos c, if_pos c, if_pos c]; exact ans_no h (by decide)
  · rw [if_neg c, if_neg c, if_neg c, if_neg c]
    by_cases c2 : v_X1_standardAt A w < 0
    · have c2' : v_X6_wideAt P w < 0 := by rw [wa, if_pos (by omega)]; decide
      rw [if_pos c2, if_pos c2, if_pos c2', if_pos c2']; exact ans_no h (by decide)
    · have ew : v_X6_wideAt P w = v_X1_standardAt A w := by rw [wa, if_neg (by omega)]
      rw [if_neg c2, if_neg c2, ew, if_neg c2, if_neg c2]
      refine ans_of (by omega) (by omega) (rel_drop hc (by omega) (by omega)) (keep_swO _ _) ?_
      have b8 : swO (m_X6_changes P) (v_X1_standardAt A w) 1 8 = P 1 8 := by
        have cb : m_X6_changes P 1 1 = A 0 1 := by rw [chg_1]; exact e1.symm
        have nb := h.1.1.2.1
        unfold swO mvD
        rw [cb, if_neg (by omega), aset_ne (by omega), chg_1]
      omega
theorem ans_set {A P : hGM} (h : Rel A (P 1)) (w v : Int) : Ans A (m_X1_changeSetting A w v) P (m_X6_set P w v) (v_X1_changeSetting A w v) (v_X6_set P w v) := by
  have hc : Rel A (m_X6_changes P 1) := by rw [chg_1]; exact h
  have e := h.1.2.2.1
  have f := h.1.1
  unfold m_X1_changeSetting v_X1_changeSetting m_X6_set v_X6_set
  rw [within_in, within_in]
  by_cases w0 : w = 0
  · subst w0
    have i0 : ¬ v_X6_in 0 0 1 = 0 := by decide
    rw [if_pos rfl, if_pos rfl, if_pos rfl, if_pos rfl, if_neg i0, if_neg i0]
    by_cases c : v_X6_in v 0 100 = 0
    · rw [if_pos c, if_pos c, if_pos c, if_pos c, if_neg (by decide), if_neg (by decide)]; exact ans_no h (by decide)
    · rw [if_neg c, if_neg c, if_neg c, if_neg c]
      have hv := Decidable.not_not.mp (fun z => c (in_0.mpr z))
      refine ans_of (by rw [chg_1]; exact e.2.2.1) f.2.2.1.1 (rel_set0 hc hv.1 hv.2) (keep_aset _ _ _) ?_
      rw [aset_ne (by omega), chg_1]
      omega
  · rw [if_neg w0, if_neg w0, if_neg w0, if_neg w0]
    by_cases w1 : w = 1
    · subst w1
      have i0 : ¬ v_X6_in 1 0 1 = 0 := by decide
      rw [if_pos rfl, if_pos rfl, if_neg i0, if_neg i0]
      by_cases c : v_X6_in v 0 3 = 0
      · rw [if_pos c, if_pos c, if_pos c, if_pos c]; exact ans_no h (by decide)
      · rw [if_neg c, if_neg c, if_neg c, if_neg c]
        have hv := Decidable.not_not.mp (fun z => c (in_0.mpr z))
        refine ans_of (by rw [chg_1]; exact e.2.2.2) f.2.2.2.1.1 (rel_set1 hc hv.1 hv.2) (keep_aset _ _ _) ?_
        rw [aset_ne (by omega), chg_1]
        omega
    · have c : v_X6_in w 0 1 = 0 := in_0.mpr (by omega)
      rw [if_neg w1, if_neg w1, if_pos c, if_pos c]; exact ans_no h (by decide)
theorem ans_make {A P : hGM} (T : hGM) (h : Rel A (P 1)) (m8 : P 1 8 < 1000000) (z : Int) : Ans A (mA_X1_makeSheet A T z) P (m_X6_make P z) (v_X1_makeSheet A T z) (v_X6_make P z) := by
  have hc : Rel A (m_X6_changes P 1) := by rw [chg_1]; exact h
  unfold mA_X1_makeSheet v_X1_makeSheet m_X6_make v_X6_make
  have es : v_X5_isSize z = v_X6_isSize z := rfl
  rw [es]
  by_cases c : v_X6_isSize z = 0
  · rw [if_pos c, if_pos c, if_pos c, if_pos c]; exact ans_no h (by decide)
  · rw [if_neg c, if_neg c, if_neg c, if_neg c]
    have hz := Decidable.not_not.mp (fun z => c (in_0.mpr z))
    have q := make_rel (T := T) hc hz.1 hz.2 (by rw [chg_1]; exact m8)
    have v0 : 0 ≤ v_X4_held (mkS A T z (v_X4_slotToMake A z) (A 0 0).toNat).1 := by
      have := sumN_bd (f := fun k => if v_X4_isMade (mkS A T z (v_X4_slotToMake A z) (A 0 0).toNat).1 k = 0 then 0 else 1) (c := 1) 4 (fun k _ _ => by constructor <;> (split <;> decide))
      exact this.1
    refine ans_of q.2 v0 q.1 (keep_mkZ _ _) ?_
    have kk := mkK_num (z := z) hc.1.2.1 (rel_gap hc.1)
    have hBI := mkB_num kk.1.1 kk.1.2 kk.2.1 (by omega : 0 ≤ z) hz.2
    have hI8 := mkM_I (B := mkB (mkK (m_X6_changes P) z) z) (y := mkK (m_X6_changes P) z 1 7) hBI.1 hBI.2.1 kk.2.1.1 (by omega) (by omega : 0 ≤ z) hz.2 8 (Nat.le_refl _)
    have e8 : mkZ P z 1 8 = P 1 8 + 1 := by
      unfold mkZ
      generalize mkM (mkB (mkK (m_X6_changes P) z) z) (mkK (m_X6_changes P) z 1 7) z 8 = L at hI8 ⊢
      unfold mkE
      rw [aset_at, aset_ne (by omega), hI8.2.2 8 (by decide), hBI.2.2 8 (by decide), kk.2.2 8 (by decide) (by decide), chg_1]
    omega

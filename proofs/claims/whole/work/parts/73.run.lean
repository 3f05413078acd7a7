/-! what the calls need, out of the relation -/
theorem pc_chg {P : hGM} (b : 0 ≤ P 0 3 ∧ P 0 3 ≤ 4) : p_X6_changes P := b
theorem pa_glyph {A : hGM} (h : fNum A) (a : Int) : p_X1_addGlyph A a := by
  have n := h.1
  refine ⟨fun _ => trivial, fun _ => ⟨fun c => ⟨?_, trivial⟩, fun _ => trivial⟩⟩
  rw [put_row (by decide)]
  exact ⟨by omega, by omega⟩
theorem pm_glyph {P : hGM} (h : mNum (P 1)) (b : 0 ≤ P 0 3 ∧ P 0 3 ≤ 4) (a : Int) : p_X6_glyph P a := by
  have n := h.1
  refine ⟨fun _ => trivial, fun _ => ⟨fun _ => trivial, fun c => ⟨pc_chg b, ⟨by omega, by omega⟩, ⟨by omega, by omega⟩, ?_, trivial⟩⟩⟩
  rw [aset_ne (by omega), aset_ne (by omega), chg_1]
  exact ⟨by omega, by omega⟩
theorem pa_hint {A : hGM} (h : fNum A) (g k v : Int) : p_X1_hintStem A g k v := by
  refine ⟨hasStem_p h g k, fun _ => trivial, fun c => ⟨fun _ => trivial, fun _ => ⟨?_, trivial⟩⟩⟩
  have y := hasStem_y h c
  have n := h.1
  have m := (h.2.2.2.2.2.2 g (by omega) (by omega)).2
  exact ⟨by omega, by omega⟩
theorem pm_hint {P : hGM} (h : mNum (P 1)) (b : 0 ≤ P 0 3 ∧ P 0 3 ≤ 4) (g k v : Int) : p_X6_hint P g k v := by
  refine ⟨isStem_p h g k, fun _ => trivial, fun c => ⟨fun _ => trivial, fun _ => ?_⟩⟩
  have y := Decidable.not_not.mp (fun z => c (isStem_0.mpr z))
  have n := h.1
  have m := of_bd h y.1.1 (by omega : g < 8)
  exact ⟨pc_chg b, ofStem_p y.1.1 (by omega) y.2.1 (by omega) (by decide) (by decide), at_p y.1.1 (by omega) y.2.1 (by omega) (by decide) (by decide), at_bd y.1.1 (by omega) y.2.1 (by omega) (by decide) (by decide), trivial⟩
theorem pm_set {P : hGM} (b : 0 ≤ P 0 3 ∧ P 0 3 ≤ 4) (w v : Int) : p_X6_set P w v := by
  refine ⟨fun _ => trivial, fun c => ⟨fun _ => ⟨fun _ => trivial, fun _ => ⟨pc_chg b, ?_, trivial⟩⟩, fun _ => ⟨fun _ => trivial, fun _ => ⟨pc_chg b, ?_, trivial⟩⟩⟩⟩
  · have y := Decidable.not_not.mp (fun z => c (in_0.mpr z)); omega
  · have y := Decidable.not_not.mp (fun z => c (in_0.mpr z)); omega
/-- one order, done -/
theorem carry_rel {A T O P : hGM} (h : Rel A (P 1)) (m8 : P 1 8 < 1000000) (b : 0 ≤ P 0 3 ∧ P 0 3 ≤ 4) (nz : ¬ v_X6_numbersOf (P 0 15) = 0) (nums : ∀ x : Int, 0 ≤ x → x < v_X6_numbersOf (P 0 15) → O 2 x = P 7 x) :
    Ans A (mA_X3_carryOut A T O (P 0 15)) P (m_X6_calls P) (v_X3_carryOut A T O (P 0 15)) (v_X6_calls P) ∧ p_X3_carryOut A T O (P 0 15) ∧ p_X6_calls P := by
  have f := h.1.1
  have hm := h.1.2.1
  have ok : mOK P := ⟨hm, b⟩
  have e7 : 0 ≤ A 7 0 ∧ A 7 0 ≤ 1000000 := by rw [h.2.1]; exact hm.2.2.2.2.2.2.1
  have c0 : ∀ x : Int, 0 ≤ x → x < v_X6_numbersOf (P 0 15) → v_X6_numbersOf (P 0 15) ≤ 3 → v_X5_cell O 2 3 x = P 7 x := fun x a d e => by
    rw [cell_in a (by omega)]; exact nums x a d
  have nb := mnof_bd (P 0 15)
  unfold v_X3_carryOut mA_X3_carryOut m_X6_calls v_X6_calls p_X3_carryOut p_X6_calls
  have n1 : ∀ x : Int, (x = 103 ∨ x = 119 ∨ x = 109) → v_X6_numbersOf x = 1 := by
    rintro x (rfl | rfl | rfl) <;> rfl
  have n3 : ∀ x : Int, (x = 115 ∨ x = 104) → v_X6_numbersOf x = 3 := by
    rintro x (rfl | rfl) <;> rfl
  by_cases l1 : P 0 15 = 103
  · have e0 := c0 0 (by decide) (by rw [n1 _ (Or.inl l1)]; decide) nb.2
    rw [if_pos l1, if_pos l1, if_pos l1, if_pos l1, e0]
    exact ⟨ans_glyph h _, ⟨fun _ => ⟨pa_glyph f _, trivial⟩, fun z => absurd l1 z⟩, fun _ => ⟨pm_glyph hm b _, trivial⟩, fun z => absurd l1 z⟩
  · rw [if_neg l1, if_neg l1, if_neg l1, if_neg l1]
    by_cases l2 : P 0 15 = 104
    · have n := n3 _ (Or.inr l2)
      rw [if_pos l2, if_pos l2, if_pos l2, if_pos l2, c0 0 (by decide) (by omega) nb.2, c0 1 (by decide) (by omega) nb.2, c0 2 (by decide) (by omega) nb.2]
      exact ⟨ans_hint h _ _ _, ⟨fun z => absurd z l1, fun _ => ⟨fun _ => ⟨pa_hint f _ _ _, trivial⟩, fun z => absurd l2 z⟩⟩, fun z => absurd z l1, fun _ => ⟨fun _ => ⟨pm_hint hm b _ _ _, trivial⟩, fun z => absurd l2 z⟩⟩
    · rw [if_neg l2, if_neg l2, if_neg l2, if_neg l2]
      by_cases l3 : P 0 15 = 115
      · have n := n3 _ (Or.inl l3)
        rw [if_pos l3, if_pos l3, if_pos l3, if_pos l3, c0 0 (by decide) (by omega) nb.2, c0 1 (by decide) (by omega) nb.2, c0 2 (by decide) (by omega) nb.2]
        exact ⟨ans_stem h _ _ _, ⟨fun z => absurd z l1, fun _ => ⟨fun z => absurd z l2, fun _ => ⟨fun _ => ⟨f, trivial⟩, fun z => absurd l3 z⟩⟩⟩, fun z => absurd z l1, fun _ => ⟨fun z => absurd z l2, fun _ => ⟨fun _ => ⟨ok, trivial⟩, fun z => absurd l3 z⟩⟩⟩
      · rw [if_neg l3, if_neg l3, if_neg l3, if_neg l3]
        by_cases l4 : P 0 15 = 119
        · have n := n1 _ (Or.inr (Or.inl l4))
          rw [if_pos l4, if_pos l4, if_pos l4, if_pos l4, c0 0 (by decide) (by omega) nb.2]
          exact ⟨ans_standard h _, ⟨fun z => absurd z l1, fun _ => ⟨fun z => absurd z l2, fun _ => ⟨fun z => absurd z l3, fun _ => ⟨fun _ => ⟨f, trivial⟩, fun z => absurd l4 z⟩⟩⟩⟩, fun z => absurd z l1, fun _ => ⟨fun z => absurd z l2, fun _ => ⟨fun z => absurd z l3, fun _ => ⟨fun _ => ⟨ok, trivial⟩, fun z => absurd l4 z⟩⟩⟩⟩
        · rw [if_neg l4, if_neg l4, if_neg l4, if_neg l4]
          have n : 1 ≤ v_X6_numbersOf (P 0 15) := by omega
          rw [c0 0 (by decide) (by omega) nb.2]
          exact ⟨ans_make T h m8 _, ⟨fun z => absurd z l1, fun _ => ⟨fun z => absurd z l2, fun _ => ⟨fun z => absurd z l3, fun _ => ⟨fun z => absurd z l4, fun _ => ⟨⟨f, e7⟩, trivial⟩⟩⟩⟩⟩, fun z => absurd z l1, fun _ => ⟨fun z => absurd z l2, fun _ => ⟨fun z => absurd z l3, fun _ => ⟨fun z => absurd z l4, fun _ => ⟨⟨ok, rel_gap h.1, m8⟩, trivial⟩⟩⟩⟩⟩
/-! the run through the text -/
theorem reE_sp {y : Int} {L : hGM} (h : spI L) : spI (reE y L).2 := by
  unfold reE
  split
  · exact h
  · exact sign_sp h
theorem reR_sp (n : Nat) : ∀ (y k : Int) (L : hGM), spI L → spI (reR n y k L).2 := by
  induction n with
  | zero => intro y k L h; exact reE_sp h
  | succ n ih =>
    intro y k L h
    have e : reR (n + 1) y k L = if y = 0 then (0, L) else if v_X6_sign L 44 = 0 then reR n 0 (k + 1) (m_X6_sign L 44) else reR n (v_X6_numbered (m_X6_sign L 44) k) (k + 1) (m_X6_numbered (m_X6_sign L 44) k) := rfl
    rw [e]
    split
    · exact h
    · split
      · exact ih _ _ _ (sign_sp h)
      · exact ih _ _ _ (numbered_sp (sign_sp h))
theorem reads_sp {P : hGM} (h : spI P) : spI (m_X6_reads P) := by
  have r1 : ∀ q : Int, q ≠ 15 → reO P 0 q = P 0 q := fun q hq => by unfold reO; rw [aset_ne (by omega)]
  unfold m_X6_reads reT
  by_cases c : v_X6_numbersOf (reO P 0 15) = 0
  · rw [if_pos c]
    show 0 ≤ reO P 0 10 ∧ reO P 0 10 ≤ reO P 0 6 ∧ reO P 0 6 ≤ 60
    rw [r1 10 (by decide), r1 6 (by decide)]
    exact h
  · rw [if_neg c]
    refine reR_sp _ _ _ _ (numbered_sp ?_)
    have i : ¬ v_X6_isAt P 33 126 = 0 := by
      intro z
      apply c
      unfold reO
      rw [aset_at, if_pos z]
      rfl
    have j := isAt_1 i
    have hh := h
    unfold spI at hh
    show 0 ≤ reN (reO P) 0 10 ∧ reN (reO P) 0 10 ≤ reN (reO P) 0 6 ∧ reN (reO P) 0 6 ≤ 60
    unfold reN
    rw [aset_at, aset_ne (by omega), r1 10 (by decide), r1 6 (by decide)]
    omega
theorem plR_0 (n : Nat) (L : hGM) : plR n 0 L = (0, aset L 0 4 0) := by
  cases n with
  | zero => rfl
  | succ n =>
    show (if L 0 10 < L 0 6 then (if (0 : Int) = 0 then ((0 : Int), aset L 0 4 0) else _) else (0, aset L 0 4 0)) = _
    rw [if_pos rfl]
    split <;> rfl
theorem plP_0 (n : Nat) (L : hGM) : plP n 0 L := by
  cases n with
  | zero => exact fun z => z.2 rfl
  | succ n => exact fun _ z => absurd rfl z
/-- how the run ends, on both sides -/
def RunR (R : hGM × hGM × hGM) (M : Int × hGM) : Prop := Rel R.1 (M.2 1) ∧ ((R.2.2 0 6 = 0 ∧ M.1 = 1 ∧ R.2.2 0 4 = M.2 0 14 ∧ 0 ≤ M.2 0 14) ∨ (¬ R.2.2 0 6 = 0 ∧ M.1 = 0 ∧ R.2.2 0 5 = M.2 0 11 ∧ R.2.2 0 6 = M.2 0 12 ∧ R.2.2 0 7 = M.2 0 13)) ∧ TxR R.2.2 M.2
def RunF (L L' : hGM) (n : Int) : Prop := L' 0 3 = L 0 3 ∧ L' 0 4 = 0 ∧ L' 2 = L 2 ∧ L' 3 = L 3 ∧ L' 1 8 ≤ L 1 8 + n ∧ L' 0 6 = L 0 6 ∧ L' 4 = L 4
theorem chg_run {P : hGM} (h : P 0 4 = 1) : m_X6_changes P = P := by
  unfold m_X6_changes
  rw [if_neg (by omega)]
theorem tx_end {O L : hGM} (ht : TxR O L) : TxR O (aset L 0 4 0) := txr_of ht rfl rfl (aset_ne (by omega)) (aset_row (by decide))
set_option maxHeartbeats 4000000 in
theorem run_rel (n : Nat) : ∀ (A T O L : hGM), n ≤ 60 → Rel A (L 1) → TxR O L → spI L → 60 - (n : Int) ≤ L 0 10 → L 0 4 = 1 → O 0 4 = L 0 14 → (0 ≤ L 0 14 ∧ L 0 14 ≤ 60 - n) → O 0 6 = 0 → (0 ≤ L 0 3 ∧ L 0 3 ≤ 4) → L 1 8 + n < 1000000 →
    runP n (L 0 10) A T O ∧ plP (n + 1) 1 L ∧ RunR (runF n (L 0 10) A T O) (plR (n + 1) 1 L) ∧ RunF L (plR (n + 1) 1 L).2 n := by
  induction n with
  | zero =>
    intro A T O L n60 h ht hs ha h4 h14 b14 h6 h3 h8
    unfold spI at hs
    have e : plR (0 + 1) 1 L = (1, aset L 0 4 0) := by
      show (if L 0 10 < L 0 6 then _ else ((1 : Int), aset L 0 4 0)) = _
      rw [if_neg (by omega)]
    rw [e]
    refine ⟨⟨by omega, by omega⟩, fun z => by omega, ⟨?_, Or.inl ⟨h6, rfl, ?_, ?_⟩, ?_⟩, ?_, ?_, ?_, ?_, ?_, ?_, ?_⟩
    · show Rel A (aset L 0 4 0 1)
      rw [aset_row (by decide)]; exact h
    · show O 0 4 = aset L 0 4 0 0 14
      rw [aset_ne (by omega)]; exact h14
    · show 0 ≤ aset L 0 4 0 0 14
      rw [aset_ne (by omega)]; exact b14.1
    · exact tx_end ht
    · show aset L 0 4 0 0 3 = L 0 3
      exact aset_ne (by omega)
    · show aset L 0 4 0 0 4 = 0
      exact aset_at _ _ _ _
    · show aset L 0 4 0 2 = L 2
      exact aset_row (by decide)
    · show aset L 0 4 0 3 = L 3
      exact aset_row (by decide)
    · show aset L 0 4 0 1 8 ≤ L 1 8 + ((0 : Nat) : Int)
      rw [aset_row (by decide)]; omega
    · show aset L 0 4 0 0 6 = L 0 6
      exact aset_ne (by omega)
    · show aset L 0 4 0 4 = L 4
      exact aset_row (by decide)
  | succ n ih =>
    intro A T O L n60 h ht hs ha h4 h14 b14 h6 h3 h8
    have hs' := hs
    unfold spI at hs'
    have e1 : plR (n + 1 + 1) 1 L = if L 0 10 < L 0 6 then (if (1 : Int) = 0 then (1, aset L 0 4 0) else if plV L = 0 then plR (n + 1) 0 (plA (plL L)) else if v_X6_calls (plL L) < 0 then plR (n + 1) 0 (plB (plL L)) else plR (n + 1) 1 (plB (plL L))) else (1, aset L 0 4 0) := rfl
    have e2 : runF (n + 1) (L 0 10) A T O = if L 0 10 < O 0 1 then (if v_X3_isOrder O (L 0 10) = 0 then (A, T, m_X3_tell (m_X3_isOrder O (L 0 10)) (L 0 10) 1 ((m_X3_isOrder O (L 0 10)) 0 3 - (L 0 10))) else if v_X3_carryOut A T (m_X3_isOrder O (L 0 10)) (v_X3_signAt (m_X3_isOrder O (L 0 10)) (L 0 10)) < 0 then (mA_X3_carryOut A T (m_X3_isOrder O (L 0 10)) (v_X3_signAt (m_X3_isOrder O (L 0 10)) (L 0 10)), mT_X3_carryOut A T (m_X3_isOrder O (L 0 10)) (v_X3_signAt (m_X3_isOrder O (L 0 10)) (L 0 10)), m_X3_tell (m_X3_isOrder O (L 0 10)) (L 0 10) 2 (v_X3_carryOut A T (m_X3_isOrder O (L 0 10)) (v_X3_signAt (m_X3_isOrder O (L 0 10)) (L 0 10)))) else runF n ((m_X3_isOrder O (L 0 10)) 0 3) (mA_X3_carryOut A T (m_X3_isOrder O (L 0 10)) (v_X3_signAt (m_X3_isOrder O (L 0 10)) (L 0 10))) (mT_X3_carryOut A T (m_X3_isOrder O (L 0 10)) (v_X3_signAt (m_X3_isOrder O (L 0 10)) (L 0 10))) (aset (m_X3_isOrder O (L 0 10)) 0 4 ((m_X3_isOrder O (L 0 10)) 0 4 + 1))) else (A, T, O) := rfl
    have e3 : runP (n + 1) (L 0 10) A T O = (hIn (L 0 10) ∧ (L 0 10 < O 0 1 → p_X3_isOrder O (L 0 10) ∧ (v_X3_isOrder O (L 0 10) = 0 → hIn ((m_X3_isOrder O (L 0 10)) 0 3 - (L 0 10))) ∧ (¬ v_X3_isOrder O (L 0 10) = 0 → p_X3_carryOut A T (m_X3_isOrder O (L 0 10)) (v_X3_signAt (m_X3_isOrder O (L 0 10)) (L 0 10)) ∧ (¬ v_X3_carryOut A T (m_X3_isOrder O (L 0 10)) (v_X3_signAt (m_X3_isOrder O (L 0 10)) (L 0 10)) < 0 → hIn ((m_X3_isOrder O (L 0 10)) 0 4 + 1) ∧ runP n ((m_X3_isOrder O (L 0 10)) 0 3) (mA_X3_carryOut A T (m_X3_isOrder O (L 0 10)) (v_X3_signAt (m_X3_isOrder O (L 0 10)) (L 0 10))) (mT_X3_carryOut A T (m_X3_isOrder O (L 0 10)) (v_X3_signAt (m_X3_isOrder O (L 0 10)) (L 0 10))) (aset (m_X3_isOrder O (L 0 10)) 0 4 ((m_X3_isOrder O (L 0 10)) 0 4 + 1)))))) := rfl
    have e4 : plP (n + 1 + 1) 1 L = (L 0 10 < L 0 6 → ¬ (1 : Int) = 0 → p_X6_reads (aset L 0 11 (L 0 10)) ∧ (plV L = 0 → hIn (((aset (plL L) 0 12 1) 0 10) - ((aset (plL L) 0 12 1) 0 11)) ∧ hIn (((aset (aset (plL L) 0 12 1) 0 13 (((aset (plL L) 0 12 1) 0 10) - ((aset (plL L) 0 12 1) 0 11))) 0 14) + 1) ∧ plP (n + 1) 0 (plA (plL L))) ∧ (¬ plV L = 0 → p_X6_calls (plL L) ∧ hIn (((aset (aset (m_X6_calls (plL L)) 0 12 2) 0 13 (v_X6_calls (plL L))) 0 14) + 1) ∧ (v_X6_calls (plL L) < 0 → plP (n + 1) 0 (plB (plL L))) ∧ (¬ v_X6_calls (plL L) < 0 → plP (n + 1) 1 (plB (plL L))))) := rfl
    rw [e1, e2, e3, e4]
    clear e1 e2 e3 e4
    rw [ht.1]
    by_cases c : L 0 10 < L 0 6
    · rw [if_pos c, if_pos c, if_neg (show ¬ (1 : Int) = 0 by decide)]
      -- the order is read
      have t1 : TxR O (aset L 0 11 (L 0 10)) := txr_of ht rfl rfl (aset_ne (by omega)) (aset_row (by decide))
      have s1 : spI (aset L 0 11 (L 0 10)) := by
        unfold spI
        rw [aset_ne (by omega), aset_ne (by omega)]; exact hs'
      have l10 : aset L 0 11 (L 0 10) 0 10 = L 0 10 := aset_ne (by omega)
      have rr := read_rel t1 (by rw [l10]; exact hs'.1)
      rw [l10] at rr
      have sR : spI (plL L) := reads_sp s1
      have eV : plV L = v_X6_reads (aset L 0 11 (L 0 10)) := rfl
      have eL : plL L = m_X6_reads (aset L 0 11 (L 0 10)) := rfl
      rw [← eV, ← eL] at rr
      obtain ⟨q1, q2, q3, q4, q5, q6, q7, q8, q9⟩ := rr
      have pr : p_X6_reads (aset L 0 11 (L 0 10)) := s1
      have po : p_X3_isOrder O (L 0 10) := ⟨hs'.1, by omega⟩
      rw [q1]
      have r11 : plL L 0 11 = L 0 10 := by rw [q7 11 (by decide) (by decide), aset_at]
      have r14 : plL L 0 14 = L 0 14 := by rw [q7 14 (by decide) (by decide), aset_ne (by omega)]
      have r4 : plL L 0 4 = 1 := by rw [q7 4 (by decide) (by decide), aset_ne (by omega)]; exact h4
      have r3 : plL L 0 3 = L 0 3 := by rw [q7 3 (by decide) (by decide), aset_ne (by omega)]
      have r6 : plL L 0 6 = L 0 6 := by rw [q7 6 (by decide) (by decide), aset_ne (by omega)]
      have r1 : plL L 1 = L 1 := by rw [q8 1 (by decide) (by decide), aset_row (by decide)]
      have r2 : plL L 2 = L 2 := by rw [q8 2 (by decide) (by decide), aset_row (by decide)]
      have rt : plL L 3 = L 3 := by rw [q8 3 (by decide) (by decide), aset_row (by decide)]
      have rx : plL L 4 = L 4 := by rw [q8 4 (by decide) (by decide), aset_row (by decide)]
      have rs : v_X3_signAt (m_X3_isOrder O (L 0 10)) (L 0 10) = v_X3_signAt O (L 0 10) := signAt_of (q5 1 (by decide)) q6 _
      have o4 : m_X3_isOrder O (L 0 10) 0 4 = O 0 4 := q5 4 (by decide)
      have o6 : m_X3_isOrder O (L 0 10) 0 6 = 0 := by rw [q5 6 (by decide)]; exact h6
      clear q5 q6 q7 q8
      have sR' := sR
      unfold spI at sR'
      generalize hv : plV L = v at q1 q4 ⊢
      generalize plL L = R at *
      generalize m_X3_isOrder O (L 0 10) = O' at *
      by_cases cv : v = 0
      · -- it is not of its form
        rw [if_pos cv, if_pos cv, plR_0]
        refine ⟨⟨⟨by omega, by omega⟩, fun _ => ⟨po, fun _ => ⟨by omega, by omega⟩, fun z => absurd cv z⟩⟩, fun _ _ => ⟨pr, fun _ => ⟨?_, ?_, plP_0 _ _⟩, fun z => absurd cv z⟩, ⟨?_, Or.inr ⟨?_, rfl, ?_, ?_, ?_⟩, ?_⟩, ?_, ?_, ?_, ?_, ?_, ?_, ?_⟩
        · rw [aset_ne (by omega), aset_ne (by omega), r11]; exact ⟨by omega, by omega⟩
        · rw [aset_ne (by omega), aset_ne (by omega), r14]; exact ⟨by omega, by omega⟩
        · show Rel A (aset (plA R) 0 4 0 1)
          unfold plA
          rw [aset_row (by decide), aset_row (by decide), aset_row (by decide), aset_row (by decide), r1]; exact h
        · show ¬ m_X3_tell O' (L 0 10) 1 (O' 0 3 - L 0 10) 0 6 = 0
          unfold m_X3_tell
          rw [aset_ne (by omega), aset_at]; decide
        · show m_X3_tell O' (L 0 10) 1 (O' 0 3 - L 0 10) 0 5 = aset (plA R) 0 4 0 0 11
          unfold m_X3_tell plA
          rw [aset_ne (k := 7) (by omega), aset_ne (k := 6) (by omega), aset_at, aset_ne (k := 4) (by omega), aset_ne (k := 14) (by omega), aset_ne (k := 13) (by omega), aset_ne (k := 12) (by omega), r11]
        · show m_X3_tell O' (L 0 10) 1 (O' 0 3 - L 0 10) 0 6 = aset (plA R) 0 4 0 0 12
          unfold m_X3_tell plA
          rw [aset_ne (k := 7) (by omega), aset_at, aset_ne (k := 4) (by omega), aset_ne (k := 14) (by omega), aset_ne (k := 13) (by omega), aset_at]
        · show m_X3_tell O' (L 0 10) 1 (O' 0 3 - L 0 10) 0 7 = aset (plA R) 0 4 0 0 13
          unfold m_X3_tell plA
          rw [aset_at, aset_ne (k := 4) (by omega), aset_ne (k := 14) (by omega), aset_at, aset_ne (k := 12) (by omega), aset_ne (k := 12) (by omega), r11, q2]
        · refine txr_of q9 ?_ ?_ ?_ ?_
          · show m_X3_tell O' (L 0 10) 1 (O' 0 3 - L 0 10) 0 1 = _
            unfold m_X3_tell
            rw [aset_ne (by omega), aset_ne (by omega), aset_ne (by omega)]
          · show m_X3_tell O' (L 0 10) 1 (O' 0 3 - L 0 10) 1 = _
            unfold m_X3_tell
            rw [aset_row (by decide), aset_row (by decide), aset_row (by decide)]
          · show aset (plA R) 0 4 0 0 6 = _
            unfold plA
            rw [aset_ne (by omega), aset_ne (by omega), aset_ne (by omega), aset_ne (by omega)]
          · show aset (plA R) 0 4 0 4 = _
            unfold plA
            rw [aset_row (by decide), aset_row (by decide), aset_row (by decide), aset_row (by decide)]
        · show aset (plA R) 0 4 0 0 3 = _
          unfold plA
          rw [aset_ne (by omega), aset_ne (by omega), aset_ne (by omega), aset_ne (by omega), r3]
        · show aset (plA R) 0 4 0 0 4 = 0
          exact aset_at _ _ _ _
        · show aset (plA R) 0 4 0 2 = _
          unfold plA
          rw [aset_row (by decide), aset_row (by decide), aset_row (by decide), aset_row (by decide), r2]
        · show aset (plA R) 0 4 0 3 = _
          unfold plA
          rw [aset_row (by decide), aset_row (by decide), aset_row (by decide), aset_row (by decide), rt]
        · show aset (plA R) 0 4 0 1 8 ≤ _
          unfold plA
          rw [aset_row (by decide), aset_row (by decide), aset_row (by decide), aset_row (by decide), r1]; omega
        · show aset (plA R) 0 4 0 0 6 = _
          unfold plA
          rw [aset_ne (by omega), aset_ne (by omega), aset_ne (by omega), aset_ne (by omega), r6]
        · show aset (plA R) 0 4 0 4 = _
          unfold plA
          rw [aset_row (by decide), aset_row (by decide), aset_row (by decide), aset_row (by decide), rx]
      · -- it is done
        rw [if_neg cv, if_neg cv]
        obtain ⟨w1, w2, w3, w4⟩ := q4 cv
        rw [rs, ← w2]
        have cr := carry_rel (A := A) (T := T) (O := O') (P := R) (by rw [r1]; exact h) (by rw [r1]; omega) (by rw [r3]; exact h3) w3 w4
        obtain ⟨⟨a1, a2, a3, a4, a5⟩, p1, p2⟩ := cr
        rw [chg_run r4] at a4
        rw [a1] at a3 a4 ⊢
        have kd : ¬ v_X6_calls R < 0 → (∀ q : Int, q ≠ 9 → m_X6_calls R 0 q = R 0 q) := fun z => (a4 z).2
        have mi : ∀ q : Int, q ≠ 9 → m_X6_calls R 0 q = R 0 q := fun q hq => by
          by_cases z : v_X6_calls R < 0
          · rw [(a3 z).2]
          · exact kd z q hq
        have mr : ∀ i : Nat, i ≠ 0 → i ≠ 1 → i ≠ 5 → i ≠ 6 → m_X6_calls R i = R i := fun i h0 h1 h5 h6 => by
          by_cases z : v_X6_calls R < 0
          · rw [(a3 z).2]
          · exact (a4 z).1 i h0 h1 h5 h6
        have eB : plB R = aset (aset (aset (m_X6_calls R) 0 12 2) 0 13 (v_X6_calls R)) 0 14 (((aset (aset (m_X6_calls R) 0 12 2) 0 13 (v_X6_calls R)) 0 14) + 1) := rfl
        have b1 : plB R 1 = m_X6_calls R 1 := by rw [eB, aset_row (by decide), aset_row (by decide), aset_row (by decide)]
        have bi : ∀ i : Nat, i ≠ 0 → i ≠ 1 → i ≠ 5 → i ≠ 6 → plB R i = R i := fun i h0 h1 h5 h6 => by
          rw [eB, aset_row h0, aset_row h0, aset_row h0]; exact mr i h0 h1 h5 h6
        have bq : ∀ q : Int, q ≠ 9 → q ≠ 12 → q ≠ 13 → q ≠ 14 → plB R 0 q = R 0 q := fun q h9 h12 h13 h14 => by
          rw [eB, aset_ne (by omega), aset_ne (by omega), aset_ne (by omega)]; exact mi q h9
        have b12 : plB R 0 12 = 2 := by rw [eB, aset_ne (by omega), aset_ne (by omega), aset_at]
        have b13 : plB R 0 13 = v_X6_calls R := by rw [eB, aset_ne (by omega), aset_at]
        have b14' : plB R 0 14 = L 0 14 + 1 := by rw [eB, aset_at, aset_ne (by omega), aset_ne (by omega), mi 14 (by decide), r14]
        have hin14 : hIn (((aset (aset (m_X6_calls R) 0 12 2) 0 13 (v_X6_calls R)) 0 14) + 1) := by
          rw [aset_ne (by omega), aset_ne (by omega), mi 14 (by decide), r14]; exact ⟨by omega, by omega⟩
        clear eB kd mi mr
        generalize plB R = B at b1 bi bq b12 b13 b14' ⊢
        by_cases cn : v_X6_calls R < 0
        · obtain ⟨ea, em⟩ := a3 cn
          rw [if_pos cn, if_pos cn, plR_0, ea]
          refine ⟨⟨⟨by omega, by omega⟩, fun _ => ⟨po, fun z => absurd z cv, fun _ => ⟨p1, fun z => absurd cn z⟩⟩⟩, fun _ _ => ⟨pr, fun z => absurd z cv, fun _ => ⟨p2, hin14, fun _ => plP_0 _ _, fun z => absurd cn z⟩⟩, ⟨?_, Or.inr ⟨?_, rfl, ?_, ?_, ?_⟩, ?_⟩, ?_, ?_, ?_, ?_, ?_, ?_, ?_⟩
          · show Rel A (aset B 0 4 0 1)
            rw [aset_row (by decide), b1, em, r1]; exact h
          · show ¬ m_X3_tell O' (L 0 10) 2 (v_X6_calls R) 0 6 = 0
            unfold m_X3_tell
            rw [aset_ne (by omega), aset_at]; decide
          · show m_X3_tell O' (L 0 10) 2 (v_X6_calls R) 0 5 = aset B 0 4 0 0 11
            unfold m_X3_tell
            rw [aset_ne (k := 7) (by omega), aset_ne (k := 6) (by omega), aset_at, aset_ne (k := 4) (by omega), bq 11 (by decide) (by decide) (by decide) (by decide), r11]
          · show m_X3_tell O' (L 0 10) 2 (v_X6_calls R) 0 6 = aset B 0 4 0 0 12
            unfold m_X3_tell
            rw [aset_ne (k := 7) (by omega), aset_at, aset_ne (k := 4) (by omega), b12]
          · show m_X3_tell O' (L 0 10) 2 (v_X6_calls R) 0 7 = aset B 0 4 0 0 13
            unfold m_X3_tell
            rw [aset_at, aset_ne (k := 4) (by omega), b13]
          · refine txr_of q9 ?_ ?_ ?_ ?_
            · show m_X3_tell O' (L 0 10) 2 (v_X6_calls R) 0 1 = _
              unfold m_X3_tell
              rw [aset_ne (by omega), aset_ne (by omega), aset_ne (by omega)]
            · show m_X3_tell O' (L 0 10) 2 (v_X6_calls R) 1 = _
              unfold m_X3_tell
              rw [aset_row (by decide), aset_row (by decide), aset_row (by decide)]
            · show aset B 0 4 0 0 6 = _
              rw [aset_ne (by omega), bq 6 (by decide) (by decide) (by decide) (by decide)]
            · show aset B 0 4 0 4 = _
              rw [aset_row (by decide), bi 4 (by decide) (by decide) (by decide) (by decide)]
          · show aset B 0 4 0 0 3 = _
            rw [aset_ne (by omega), bq 3 (by decide) (by decide) (by decide) (by decide), r3]
          · show aset B 0 4 0 0 4 = 0
            exact aset_at _ _ _ _
          · show aset B 0 4 0 2 = _
            rw [aset_row (by decide), bi 2 (by decide) (by decide) (by decide) (by decide), r2]
          · show aset B 0 4 0 3 = _
            rw [aset_row (by decide), bi 3 (by decide) (by decide) (by decide) (by decide), rt]
          · show aset B 0 4 0 1 8 ≤ _
            rw [aset_row (by decide), b1, em, r1]; omega
          · show aset B 0 4 0 0 6 = _
            rw [aset_ne (by omega), bq 6 (by decide) (by decide) (by decide) (by decide), r6]
          · show aset B 0 4 0 4 = _
            rw [aset_row (by decide), bi 4 (by decide) (by decide) (by decide) (by decide), rx]
        · rw [if_neg cn, if_neg cn]
          have b10 : B 0 10 = O' 0 3 := by rw [bq 10 (by decide) (by decide) (by decide) (by decide), q2]
          have b6 : B 0 6 = R 0 6 := bq 6 (by decide) (by decide) (by decide) (by decide)
          have k := ih (mA_X3_carryOut A T O' (R 0 15)) (mT_X3_carryOut A T O' (R 0 15)) (aset O' 0 4 (O' 0 4 + 1)) B (by omega) (by rw [b1]; exact a2) (txr_of q9 (aset_ne (by omega)) (aset_row (by decide)) b6 (bi 4 (by decide) (by decide) (by decide) (by decide))) (by unfold spI; rw [b10, b6]; omega) (by rw [b10]; omega) (by rw [bq 4 (by decide) (by decide) (by decide) (by decide)]; exact r4) (by rw [aset_at, b14', o4, h14]) (by rw [b14']; omega) (by rw [aset_ne (by omega)]; exact o6) (by rw [bq 3 (by decide) (by decide) (by decide) (by decide), r3]; exact h3) (by rw [b1]; rw [r1] at a5; omega)
          rw [b10] at k
          obtain ⟨k1, k2, k3, k4, k5, k6, k7, k8, k9, k10⟩ := k
          refine ⟨⟨⟨by omega, by omega⟩, fun _ => ⟨po, fun z => absurd z cv, fun _ => ⟨p1, fun _ => ⟨by rw [o4, h14]; exact ⟨by omega, by omega⟩, k1⟩⟩⟩⟩, fun _ _ => ⟨pr, fun z => absurd z cv, fun _ => ⟨p2, hin14, fun z => absurd z cn, fun _ => k2⟩⟩, k3, ?_, k5, ?_, ?_, ?_, ?_, ?_⟩
          · rw [k4, bq 3 (by decide) (by decide) (by decide) (by decide), r3]
          · rw [k6, bi 2 (by decide) (by decide) (by decide) (by decide), r2]
          · rw [k7, bi 3 (by decide) (by decide) (by decide) (by decide), rt]
          · rw [b1] at k8
            rw [r1] at a5
            omega
          · rw [k9, b6, r6]
          · rw [k10, bi 4 (by decide) (by decide) (by decide) (by decide), rx]
    · rw [if_neg c, if_neg c]
      refine ⟨⟨⟨by omega, by omega⟩, fun z => absurd z c⟩, fun z => absurd z c, ⟨?_, Or.inl ⟨h6, rfl, ?_, ?_⟩, ?_⟩, ?_, ?_, ?_, ?_, ?_, ?_, ?_⟩
      · show Rel A (aset L 0 4 0 1)
        rw [aset_row (by decide)]; exact h
      · show O 0 4 = aset L 0 4 0 0 14
        rw [aset_ne (by omega)]; exact h14
      · show 0 ≤ aset L 0 4 0 0 14
        rw [aset_ne (by omega)]; exact b14.1
      · exact tx_end ht
      · show aset L 0 4 0 0 3 = L 0 3
        exact aset_ne (by omega)
      · show aset L 0 4 0 0 4 = 0
        exact aset_at _ _ _ _
      · show aset L 0 4 0 2 = L 2
        exact aset_row (by decide)
      · show aset L 0 4 0 3 = L 3
        exact aset_row (by decide)
      · show aset L 0 4 0 1 8 ≤ L 1 8 + ((n + 1 : Nat) : Int)
        rw [aset_row (by decide)]; omega
      · show aset L 0 4 0 0 6 = L 0 6
        exact aset_ne (by omega)
      · show aset L 0 4 0 4 = L 4
        exact aset_row (by decide)

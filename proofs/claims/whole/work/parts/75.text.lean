/-! calls that leave the font: undo, texts, looks -/
theorem agF_rfl (A : hGM) : agF A A := ⟨fun _ _ _ => rfl, fun _ _ _ => ⟨rfl, rfl⟩, fun _ _ _ => ⟨rfl, rfl, rfl⟩, fun _ _ _ => rfl, rfl, fun _ _ _ => ⟨rfl, rfl, rfl⟩, fun _ _ _ => ⟨rfl, rfl⟩⟩
/-- what a look leaves: the font, the history, the text, the row -/
theorem inv_look {S S1 : hS} {P' : hGM} {c : Int} (h : Inv S c) (hS : ∀ g : Nat, g ≠ 1 → g ≠ 7 → g ≠ 8 → S1 g = S g) (h8 : TxR (S1 8) P') (e1 : agR (S 10 1) (P' 1)) (e2 : P' 2 = S 10 2) (e3 : P' 0 3 = S 10 0 3) (e4 : P' 0 4 = 0) : Inv (gset S1 10 P') (c + 1) := by
  obtain ⟨i1, i2, i3, i4, i5, i6⟩ := h
  refine ⟨?_, ?_, ?_, ?_, ?_, by omega⟩
  · rw [gset_ne (by decide), gset_at, hS 0 (by decide) (by decide) (by decide)]
    exact rel_ag i1 (agF_rfl _) e1
  · rw [gset_ne (by decide), gset_at, hS 9 (by decide) (by decide) (by decide)]
    refine his_same i2 (fun k hk _ => ?_) e2 e3 (by omega)
    show gset S1 10 P' (2 + k) = S (2 + k)
    rw [gset_ne (by omega), hS _ (by omega) (by omega) (by omega)]
  · rw [gset_ne (by decide), gset_at]; exact h8
  · rw [gset_at]; exact e4
  · rw [gset_at, e1 8 (by decide) (by decide)]; omega
theorem inv_keep {S S1 : hS} {P' : hGM} {c : Int} (h : Inv S c) (hS : ∀ g : Nat, g ≠ 1 → g ≠ 7 → S1 g = S g) (k : Keep (S 10) P') (e1 : agR (S 10 1) (P' 1)) : Inv (gset S1 10 P') (c + 1) :=
  inv_look h (fun g a b _ => hS g a b) (by rw [hS 8 (by decide) (by decide)]; exact txr_of h.2.2.1 rfl rfl (k.2 6 (by decide)) (k.1 4 (by decide) (by decide) (by decide) (by decide))) e1 (k.1 2 (by decide) (by decide) (by decide) (by decide)) (k.2 3 (by decide)) (by rw [k.2 4 (by decide)]; exact h.2.2.2.1)
theorem bt_type {S : hS} {c : Int} (h : Inv S c) (x : Int) : Both S c (p_X5_type S x) (v_X5_type S x) (m_X5_type S x) (p_X6_type (S 10) x) (v_X6_type (S 10) x) (m_X6_type (S 10) x) := by
  have t := h.2.2.1
  have t1 := t.1
  have t2 := t.2.1
  have ra : ∀ P' : hGM, P' 1 = S 10 1 → agR (S 10 1) (P' 1) := fun P' e q _ _ => by rw [e]
  unfold p_X5_type v_X5_type m_X5_type p_X6_type v_X6_type m_X6_type v_X3_append m_X3_append p_X3_append
  rw [within_in]
  by_cases c1 : v_X6_in x 32 126 = 0
  · rw [if_pos c1, if_pos c1, if_pos c1, if_pos c1]
    exact ⟨⟨fun _ => trivial, fun z => absurd c1 z⟩, rfl, rfl, ⟨fun _ => trivial, fun z => absurd c1 z⟩, inv_keep h (fun _ _ _ => rfl) (keep_rfl _) (fun _ _ _ => rfl)⟩
  · have hx := Decidable.not_not.mp (fun z => c1 (in_0.mpr z))
    rw [if_neg c1, if_neg c1, if_neg c1, if_neg c1]
    by_cases c2 : S 8 0 1 < 60
    · have c3 : ¬ S 10 0 6 = 60 := by omega
      rw [if_pos c2, if_pos c2, if_neg (show ¬ (1 : Int) = 0 by decide), if_neg (show ¬ (1 : Int) = 0 by decide), if_neg c3, if_neg c3, put_in (by omega) (by omega)]
      have o1 : aset (aset (S 8) 1 (S 8 0 1) x) 0 1 (aset (S 8) 1 (S 8 0 1) x 0 1 + 1) 0 1 = S 8 0 1 + 1 := by rw [aset_at, aset_row (by decide)]
      have o2 : aset (aset (S 10) 4 (S 10 0 6) x) 0 6 (aset (S 10) 4 (S 10 0 6) x 0 6 + 1) 0 6 = S 10 0 6 + 1 := by rw [aset_at, aset_row (by decide)]
      refine ⟨⟨fun z => absurd z c1, fun _ => ⟨⟨fun _ => ⟨?_, trivial⟩, fun z => absurd c2 z⟩, fun _ => trivial, fun _ => trivial⟩⟩, ?_, gset_ne (by decide), ⟨fun z => absurd z c1, fun _ => ⟨fun _ => trivial, fun _ => ⟨⟨by omega, by omega⟩, ?_, trivial⟩⟩⟩, ?_⟩
      · rw [aset_row (by decide)]; exact ⟨by omega, by omega⟩
      · rw [o1, o2, t1]
      · rw [aset_row (by decide)]; exact ⟨by omega, by omega⟩
      · refine inv_look h (fun g _ _ h8 => gset_ne h8) ?_ (ra _ (by rw [aset_row (i := 0) (j := 1) (by decide), aset_row (i := 4) (j := 1) (by decide)])) (by rw [aset_row (by decide), aset_row (by decide)]) (by rw [aset_ne (by omega), aset_row (by decide)]) (by rw [aset_ne (by omega), aset_row (by decide)]; exact h.2.2.2.1)
        rw [gset_at]
        unfold TxR
        rw [o1, o2]
        refine ⟨by omega, by omega, fun k k0 k1 => ?_⟩
        rw [aset_row (i := 0) (j := 1) (by decide), aset_row (i := 0) (j := 4) (by decide)]
        by_cases e : k = S 10 0 6
        · rw [t1, e, aset_at, aset_at]; exact ⟨rfl, hx⟩
        · rw [aset_ne (by omega), aset_ne (by omega)]; exact t.2.2 k k0 (by omega)
    · have c3 : S 10 0 6 = 60 := by omega
      rw [if_neg c2, if_neg c2, if_pos rfl, if_pos rfl, if_pos c3, if_pos c3, gset_self]
      exact ⟨⟨fun z => absurd z c1, fun _ => ⟨⟨fun z => absurd z c2, fun _ => trivial⟩, fun _ => trivial, fun _ => trivial⟩⟩, rfl, rfl, ⟨fun z => absurd z c1, fun _ => ⟨fun _ => trivial, fun z => absurd c3 z⟩⟩, inv_keep h (fun _ _ _ => rfl) (keep_rfl _) (fun _ _ _ => rfl)⟩
theorem bt_clearText {S : hS} {c : Int} (h : Inv S c) : Both S c True (v_X5_clearText S) (m_X5_clearText S) True (v_X6_clearText (S 10)) (m_X6_clearText (S 10)) := by
  have t := h.2.2.1
  unfold v_X5_clearText m_X5_clearText v_X6_clearText m_X6_clearText
  refine ⟨trivial, t.1, gset_ne (by decide), trivial, ?_⟩
  refine inv_look h (fun g _ _ h8 => gset_ne h8) ?_ (fun q _ _ => by rw [aset_row (by decide)]) (aset_row (by decide)) (aset_ne (by omega)) (by rw [aset_ne (by omega)]; exact h.2.2.2.1)
  rw [gset_at]
  unfold TxR
  rw [aset_at, aset_at]
  exact ⟨rfl, ⟨by decide, by decide⟩, fun k a b => by omega⟩
theorem bt_undo {S : hS} {c : Int} (h : Inv S c) : Both S c (p_X5_undo S) (v_X5_undo S) (m_X5_undo S) (p_X6_undo (S 10)) (v_X6_undo (S 10)) (m_X6_undo (S 10)) := by
  obtain ⟨h1, h2, h3, h4⟩ := h.2.1
  have sv := slot_v (S := S) (x := S 9 0 2 - 1) h1 (by omega)
  have eg : m_X5_undo S = m_X2_giveBack S 0 := by unfold m_X5_undo; split <;> rfl
  have pu : p_X5_undo S := by
    refine ⟨⟨⟨by omega, by omega⟩, sv.2.1, ⟨sv.2.2.1, sv.2.2.2⟩, fun _ => trivial, fun z => ⟨copy_p _ _, ?_, trivial⟩⟩, fun _ => trivial, fun _ => trivial⟩
    rw [gset_ne (by decide)]; exact ⟨by omega, by omega⟩
  rw [eg]
  unfold v_X5_undo v_X2_giveBack m_X2_giveBack v_X6_undo m_X6_undo
  by_cases k : S 9 0 2 ≤ 0
  · have z : S 10 0 3 = 0 := by omega
    rw [if_pos k, if_pos k, if_pos rfl, if_pos z, if_pos z]
    exact ⟨pu, rfl, rfl, h3, inv_keep h (fun _ _ _ => rfl) (keep_rfl _) (fun _ _ _ => rfl)⟩
  · have z : ¬ S 10 0 3 = 0 := by omega
    rw [if_neg k, if_neg k, if_neg (show ¬ (1 : Int) = 0 by decide), if_neg z, if_neg z]
    have e9 : gset S 0 (m_X1_copy (S 0) (S (2 + (v_X2_slotAt S (S 9 0 2 - 1)).toNat))) 9 = S 9 := gset_ne (by decide)
    rw [e9]
    refine ⟨pu, by rw [gset_at, aset_at]; omega, by rw [gset_ne (by decide), gset_ne (by decide)], h3, ?_⟩
    have q := h4 (S 10 0 3 - 1) (by omega) (by omega)
    have p1 : ∀ x : Int, 0 ≤ x → x < 273 → cpR (aset (S 10) 0 3 (S 10 0 3 - 1)) 1 (fun q => S 10 2 (273 * (S 10 0 3 - 1) + q)) 273 1 x = S 10 2 (273 * (S 10 0 3 - 1) + x) := fun x x0 x1 => cpR_in x0 x1
    have pr : ∀ i : Nat, i ≠ 1 → cpR (aset (S 10) 0 3 (S 10 0 3 - 1)) 1 (fun q => S 10 2 (273 * (S 10 0 3 - 1) + q)) 273 i = aset (S 10) 0 3 (S 10 0 3 - 1) i := fun i hi => cpR_row hi
    generalize cpR (aset (S 10) 0 3 (S 10 0 3 - 1)) 1 (fun q => S 10 2 (273 * (S 10 0 3 - 1) + q)) 273 = P' at p1 pr ⊢
    have p2 : P' 2 = S 10 2 := by rw [pr 2 (by decide), aset_row (by decide)]
    have p3 : P' 0 3 = S 10 0 3 - 1 := by rw [pr 0 (by decide), aset_at]
    have pq : ∀ x : Int, x ≠ 3 → P' 0 x = S 10 0 x := fun x hx => by rw [pr 0 (by decide), aset_ne (by omega)]
    have es : 2 + (v_X2_slotAt S (S 9 0 2 - 1)).toNat = 2 + ((S 9 0 1 + (S 10 0 3 - 1)) % 5).toNat := by rw [sv.1, h2]
    rw [es]
    refine ⟨?_, ?_, ?_, ?_, ?_, by have := h.2.2.2.2.2; omega⟩
    · rw [gset_ne (by decide), gset_ne (by decide), gset_at, gset_at]
      exact rel_ag q.1 (agF_copy _ _) (fun x x0 x1 => p1 x x0 x1)
    · rw [gset_at (g := 10), gset_ne (by decide), gset_at]
      refine ⟨by rw [aset_ne (by omega)]; exact h1, by rw [aset_at, p3]; omega, by rw [p3]; omega, fun j j0 j1 => ?_⟩
      rw [p3] at j1
      rw [aset_ne (by omega), p2]
      have w := h4 j j0 (by omega)
      refine ⟨?_, by omega⟩
      show Rel (gset (gset (gset S 0 _) 9 _) 10 P' (2 + ((S 9 0 1 + j) % 5).toNat)) _
      rw [gset_ne (by omega), gset_ne (by omega), gset_ne (by omega)]
      exact w.1
    · rw [gset_at (g := 10), gset_ne (by decide), gset_ne (by decide), gset_ne (by decide)]
      exact txr_of h.2.2.1 rfl rfl (pq 6 (by decide)) (by rw [pr 4 (by decide), aset_row (by decide)])
    · rw [gset_at, pq 4 (by decide)]; exact h.2.2.2.1
    · rw [gset_at, p1 8 (by decide) (by decide)]; omega
/-! the text is run on a trial -/
theorem run_at {S : hS} {c : Int} (h : Inv S c) (c5 : c ≤ 512) {P : hGM} (e1 : agR (S 10 1) (P 1)) (e4 : P 4 = S 10 4) (e6 : P 0 6 = S 10 0 6) (e3 : 0 ≤ P 0 3 ∧ P 0 3 ≤ 4) :
    p_X3_run (m_X1_copy (S 1) (S 0)) (S 7) (S 8) ∧ p_X6_plays P ∧ RunR (runF 60 0 (m_X1_copy (S 1) (S 0)) (S 7) (aset (aset (S 8) 0 4 0) 0 6 0)) (plR 61 1 (plI P)) ∧ RunF (plI P) (m_X6_plays P) 60 := by
  have l1 : plI P 1 = P 1 := by unfold plI; rw [aset_row (by decide), aset_row (by decide), aset_row (by decide), aset_row (by decide)]
  have l4 : plI P 4 = P 4 := by unfold plI; rw [aset_row (by decide), aset_row (by decide), aset_row (by decide), aset_row (by decide)]
  have lq : ∀ q : Int, q ≠ 4 → q ≠ 10 → q ≠ 11 → q ≠ 14 → plI P 0 q = P 0 q := fun q a b d e => by unfold plI; rw [aset_ne (by omega), aset_ne (by omega), aset_ne (by omega), aset_ne (by omega)]
  have l04 : plI P 0 4 = 1 := by unfold plI; rw [aset_ne (by omega), aset_ne (by omega), aset_ne (by omega), aset_at]
  have l10 : plI P 0 10 = 0 := by unfold plI; rw [aset_ne (by omega), aset_ne (by omega), aset_at]
  have l14 : plI P 0 14 = 0 := by unfold plI; rw [aset_at]
  have t := h.2.2.1
  have key := run_rel 60 (m_X1_copy (S 1) (S 0)) (S 7) (aset (aset (S 8) 0 4 0) 0 6 0) (plI P) (Nat.le_refl _) (by rw [l1]; exact rel_ag h.1 (agF_copy _ _) e1)
    (txr_of t (by rw [aset_ne (by omega), aset_ne (by omega)]) (by rw [aset_row (by decide), aset_row (by decide)]) (by rw [lq 6 (by decide) (by decide) (by decide) (by decide), e6]) (by rw [l4, e4]))
    (by unfold spI; rw [l10, lq 6 (by decide) (by decide) (by decide) (by decide), e6]; have := t.2.1; omega) (by rw [l10]; decide) l04 (by rw [l14, aset_ne (by omega), aset_at]) (by rw [l14]; omega) (aset_at _ _ _ _) (by rw [lq 3 (by decide) (by decide) (by decide) (by decide)]; exact e3) (by rw [l1, e1 8 (by decide) (by decide)]; have := h.2.2.2.2.1; omega)
  rw [l10] at key
  exact ⟨key.1, key.2.1, key.2.2.1, key.2.2.2⟩
theorem copies_at (P : hGM) : m_X6_copies P 1 273 3 273 0 = P 0 ∧ m_X6_copies P 1 273 3 273 1 = P 1 ∧ m_X6_copies P 1 273 3 273 2 = P 2 ∧ m_X6_copies P 1 273 3 273 4 = P 4 ∧ ∀ q : Int, 0 ≤ q → q < 273 → m_X6_copies P 1 273 3 273 3 q = P 1 q :=
  ⟨cpR_row (by decide), cpR_row (by decide), cpR_row (by decide), cpR_row (by decide), fun q a b => cpR_in a b⟩
theorem back_at (M : hGM) : (∀ i : Nat, i ≠ 1 → m_X6_copies M 3 273 1 273 i = M i) ∧ ∀ q : Int, 0 ≤ q → q < 273 → m_X6_copies M 3 273 1 273 1 q = M 3 q :=
  ⟨fun i hi => cpR_row hi, fun q a b => cpR_in a b⟩
/-- the trial run, and the model put back -/
theorem trial_at {S : hS} {c : Int} (h : Inv S c) (c5 : c ≤ 512) :
    p_X3_run (m_X1_copy (S 1) (S 0)) (S 7) (S 8) ∧ p_X6_plays (m_X6_copies (S 10) 1 273 3 273) ∧ RunR (runF 60 0 (m_X1_copy (S 1) (S 0)) (S 7) (aset (aset (S 8) 0 4 0) 0 6 0)) (plR 61 1 (plI (m_X6_copies (S 10) 1 273 3 273))) ∧
    agR (S 10 1) (m_X6_copies (m_X6_plays (m_X6_copies (S 10) 1 273 3 273)) 3 273 1 273 1) ∧ m_X6_copies (m_X6_plays (m_X6_copies (S 10) 1 273 3 273)) 3 273 1 273 2 = S 10 2 ∧ m_X6_copies (m_X6_plays (m_X6_copies (S 10) 1 273 3 273)) 3 273 1 273 0 3 = S 10 0 3 ∧ m_X6_copies (m_X6_plays (m_X6_copies (S 10) 1 273 3 273)) 3 273 1 273 0 4 = 0 ∧
    TxR (mO_X3_run (m_X1_copy (S 1) (S 0)) (S 7) (S 8)) (m_X6_copies (m_X6_plays (m_X6_copies (S 10) 1 273 3 273)) 3 273 1 273) ∧ m_X6_copies (m_X6_plays (m_X6_copies (S 10) 1 273 3 273)) 3 273 1 273 0 6 = S 10 0 6 ∧ m_X6_copies (m_X6_plays (m_X6_copies (S 10) 1 273 3 273)) 3 273 1 273 4 = S 10 4 := by
  obtain ⟨c0, c1, c2, c4, c3⟩ := copies_at (S 10)
  obtain ⟨r1, r2, r3, r4⟩ := run_at h c5 (P := m_X6_copies (S 10) 1 273 3 273) (fun q _ _ => by rw [c1]) c4 (by rw [c0]) (by rw [c0]; exact h.2.1.2.2.1)
  obtain ⟨b1, b2⟩ := back_at (m_X6_plays (m_X6_copies (S 10) 1 273 3 273))
  obtain ⟨f1, f2, f3, f4, f5, f6, f7⟩ := r4
  have lr : ∀ i : Nat, i ≠ 0 → plI (m_X6_copies (S 10) 1 273 3 273) i = m_X6_copies (S 10) 1 273 3 273 i := fun i hi => by unfold plI; rw [aset_row hi, aset_row hi, aset_row hi, aset_row hi]
  have l3 : plI (m_X6_copies (S 10) 1 273 3 273) 0 3 = S 10 0 3 := by
    unfold plI
    rw [aset_ne (by omega), aset_ne (by omega), aset_ne (by omega), aset_ne (by omega), c0]
  have l6 : plI (m_X6_copies (S 10) 1 273 3 273) 0 6 = S 10 0 6 := by
    unfold plI
    rw [aset_ne (by omega), aset_ne (by omega), aset_ne (by omega), aset_ne (by omega), c0]
  refine ⟨r1, r2, r3, fun q q0 q1 => ?_, ?_, ?_, ?_, ?_, ?_, ?_⟩
  · rw [b2 q q0 q1, f4, lr 3 (by decide), c3 q q0 q1]
  · rw [b1 2 (by decide), f3, lr 2 (by decide), c2]
  · rw [b1 0 (by decide), f1, l3]
  · rw [b1 0 (by decide), f2]
  · exact txr_of r3.2.2 rfl rfl (by rw [b1 0 (by decide)]; rfl) (by rw [b1 4 (by decide)]; rfl)
  · rw [b1 0 (by decide), f6, l6]
  · rw [b1 4 (by decide), f7, lr 4 (by decide), c4]
theorem bt_fault {S : hS} {c : Int} (h : Inv S c) (c5 : c ≤ 512) (w : Int) : Both S c (p_X5_fault S w) (v_X5_fault S w) (m_X5_fault S w) (p_X6_fault (S 10) w) (v_X6_fault (S 10) w) (m_X6_fault (S 10) w) := by
  obtain ⟨t1, t2, t3, t4, t5, t6, t7, t8, t9, t10⟩ := trial_at h c5
  obtain ⟨b1, b2⟩ := back_at (m_X6_plays (m_X6_copies (S 10) 1 273 3 273))
  have pc : p_X5_fault S w := ⟨fun _ => trivial, fun _ => ⟨copy_p _ _, t1, fun _ => trivial, fun _ => ⟨fun _ => trivial, fun _ => ⟨fun _ => trivial, fun _ => trivial⟩⟩⟩⟩
  have pm : p_X6_fault (S 10) w := ⟨fun _ => trivial, fun _ => ⟨⟨by decide, by decide, by decide⟩, t2, ⟨by decide, by decide, by decide⟩, fun _ => ⟨fun _ => trivial, fun _ => ⟨fun _ => trivial, fun _ => trivial⟩⟩, fun _ => trivial⟩⟩
  have em : m_X5_fault S w = if v_X6_in w 0 2 = 0 then S else gset (gset (gset S 1 (mA_X3_run (m_X1_copy (S 1) (S 0)) (S 7) (S 8))) 7 (mT_X3_run (m_X1_copy (S 1) (S 0)) (S 7) (S 8))) 8 (mO_X3_run (m_X1_copy (S 1) (S 0)) (S 7) (S 8)) := by
    unfold m_X5_fault
    rw [within_in]
    split
    · rfl
    · split
      · rfl
      · split
        · rfl
        · split <;> rfl
  have ep : m_X6_fault (S 10) w = if v_X6_in w 0 2 = 0 then S 10 else m_X6_copies (m_X6_plays (m_X6_copies (S 10) 1 273 3 273)) 3 273 1 273 := by
    unfold m_X6_fault
    split
    · rfl
    · split
      · split
        · rfl
        · split <;> rfl
      · rfl
  rw [em, ep]
  unfold v_X5_fault v_X6_fault
  rw [within_in]
  by_cases c1 : v_X6_in w 0 2 = 0
  · rw [if_pos c1, if_pos c1, if_pos c1, if_pos c1]
    exact ⟨pc, rfl, rfl, pm, inv_keep h (fun _ _ _ => rfl) (keep_rfl _) (fun _ _ _ => rfl)⟩
  · rw [if_neg c1, if_neg c1, if_neg c1, if_neg c1]
    refine ⟨pc, ?_, by rw [gset_ne (by decide), gset_ne (by decide), gset_ne (by decide)], pm, ?_⟩
    · rw [b1 0 (by decide)]
      have eO : mO_X3_run (m_X1_copy (S 1) (S 0)) (S 7) (S 8) = (runF 60 0 (m_X1_copy (S 1) (S 0)) (S 7) (aset (aset (S 8) 0 4 0) 0 6 0)).2.2 := rfl
      have eV : v_X6_plays (m_X6_copies (S 10) 1 273 3 273) = (plR 61 1 (plI (m_X6_copies (S 10) 1 273 3 273))).1 := rfl
      have eM : m_X6_plays (m_X6_copies (S 10) 1 273 3 273) = (plR 61 1 (plI (m_X6_copies (S 10) 1 273 3 273))).2 := rfl
      rw [eO, eV, eM]
      rcases t3.2.1 with ⟨a1, a2, a3, a4⟩ | ⟨a1, a2, a3, a4, a5⟩
      · rw [if_pos a1, if_neg (by omega)]
      · rw [if_neg a1, if_pos a2, a3, a4, a5]
    · refine inv_look h (fun g h1 h7 h8 => by rw [gset_ne h8, gset_ne h7, gset_ne h1]) ?_ t4 t5 t6 t7
      rw [gset_at]; exact t8
theorem note_of {S : hS} (h1 : 0 ≤ S 9 0 1 ∧ S 9 0 1 < 5) (h2 : 0 ≤ S 9 0 2 ∧ S 9 0 2 ≤ 4) (j : Nat) : p_X2_note S j ∧ (∀ k : Nat, k < 5 → ¬ k = ((S 9 0 1 + S 9 0 2) % 5).toNat → m_X2_note S j (2 + k) = S (2 + k)) ∧ m_X2_note S j (2 + ((S 9 0 1 + S 9 0 2) % 5).toNat) = m_X1_copy (S (2 + ((S 9 0 1 + S 9 0 2) % 5).toNat)) (S j) ∧ (∀ g : Nat, g < 2 ∨ 7 ≤ g → m_X2_note S j g = S g) := by
  have sv := slot_v (S := S) (x := S 9 0 2) h1 (by omega)
  unfold m_X2_note
  rw [← sv.1]
  refine ⟨⟨sv.2.1, ⟨sv.2.2.1, sv.2.2.2⟩, copy_p _ _, trivial⟩, fun k k5 kn => gset_ne (by omega), by rw [gset_at], fun g hg => gset_ne (by omega)⟩
theorem bt_play {S : hS} {c : Int} (h : Inv S c) (c5 : c ≤ 512) : Both S c (p_X5_play S) (v_X5_play S) (m_X5_play S) (p_X6_play (S 10)) (v_X6_play (S 10)) (m_X6_play (S 10)) := by
  obtain ⟨t1, t2, t3, t4, t5, t6, t7, t8, t9, t10⟩ := trial_at h c5
  have eO : mO_X3_run (m_X1_copy (S 1) (S 0)) (S 7) (S 8) = (runF 60 0 (m_X1_copy (S 1) (S 0)) (S 7) (aset (aset (S 8) 0 4 0) 0 6 0)).2.2 := rfl
  have eA : mA_X3_run (m_X1_copy (S 1) (S 0)) (S 7) (S 8) = (runF 60 0 (m_X1_copy (S 1) (S 0)) (S 7) (aset (aset (S 8) 0 4 0) 0 6 0)).1 := rfl
  have eV : v_X6_plays (m_X6_copies (S 10) 1 273 3 273) = (plR 61 1 (plI (m_X6_copies (S 10) 1 273 3 273))).1 := rfl
  -- the second run of the model
  have hb : 0 ≤ m_X6_copies (m_X6_plays (m_X6_copies (S 10) 1 273 3 273)) 3 273 1 273 0 3 ∧ m_X6_copies (m_X6_plays (m_X6_copies (S 10) 1 273 3 273)) 3 273 1 273 0 3 ≤ 4 := by rw [t6]; exact h.2.1.2.2.1
  unfold p_X5_play v_X5_play m_X5_play p_X6_play v_X6_play m_X6_play
  generalize m_X6_copies (m_X6_plays (m_X6_copies (S 10) 1 273 3 273)) 3 273 1 273 = C at t4 t5 t6 t7 t8 t9 t10 hb ⊢
  have c3 := changes_03 hb
  have c1 := chg_1 C
  have cq : ∀ q : Int, q ≠ 3 → m_X6_changes C 0 q = C 0 q := fun q hq => by
    unfold m_X6_changes ch1
    rw [if_pos t7, aset_ne (by omega)]
    unfold cpO
    rw [if_neg (by omega)]
    split
    · rw [aset_ne (by omega), cpR_row (by decide)]
    · rfl
  have c4 : m_X6_changes C 4 = C 4 := changes_row (by decide) (by decide)
  obtain ⟨u1, u2, u3, u4⟩ := run_at h c5 (P := m_X6_changes C) (fun q a b => by rw [c1]; exact t4 q a b) (by rw [c4]; exact t10) (by rw [cq 6 (by decide)]; exact t9) c3
  obtain ⟨g1, g2, g3, g4, g5, g6, g7⟩ := u4
  have lr : ∀ i : Nat, i ≠ 0 → plI (m_X6_changes C) i = m_X6_changes C i := fun i hi => by unfold plI; rw [aset_row hi, aset_row hi, aset_row hi, aset_row hi]
  have l3 : plI (m_X6_changes C) 0 3 = m_X6_changes C 0 3 := by
    unfold plI
    rw [aset_ne (by omega), aset_ne (by omega), aset_ne (by omega), aset_ne (by omega)]
  have eW : v_X6_plays (m_X6_changes C) = (plR 61 1 (plI (m_X6_changes C))).1 := rfl
  have eM : m_X6_plays (m_X6_changes C) = (plR 61 1 (plI (m_X6_changes C))).2 := rfl
  have pp := changes_03 hb
  rw [lr 2 (by decide)] at g3
  rw [l3] at g1
  rw [lr 1 (by decide), c1, t4 8 (by decide) (by decide)] at g5
  have w5 := h.2.2.2.2.1
  -- the class's side
  have hS' : ∀ g : Nat, g ≠ 1 → g ≠ 7 → g ≠ 8 → (gset (gset (gset S 1 (mA_X3_run (m_X1_copy (S 1) (S 0)) (S 7) (S 8))) 7 (mT_X3_run (m_X1_copy (S 1) (S 0)) (S 7) (S 8))) 8 (mO_X3_run (m_X1_copy (S 1) (S 0)) (S 7) (S 8))) g = S g := fun g h1 h7 h8 => by rw [gset_ne h8, gset_ne h7, gset_ne h1]
  have s1 : (gset (gset (gset S 1 (mA_X3_run (m_X1_copy (S 1) (S 0)) (S 7) (S 8))) 7 (mT_X3_run (m_X1_copy (S 1) (S 0)) (S 7) (S 8))) 8 (mO_X3_run (m_X1_copy (S 1) (S 0)) (S 7) (S 8))) 1 = mA_X3_run (m_X1_copy (S 1) (S 0)) (S 7) (S 8) := by rw [gset_ne (by decide), gset_ne (by decide), gset_at]
  have s8 : (gset (gset (gset S 1 (mA_X3_run (m_X1_copy (S 1) (S 0)) (S 7) (S 8))) 7 (mT_X3_run (m_X1_copy (S 1) (S 0)) (S 7) (S 8))) 8 (mO_X3_run (m_X1_copy (S 1) (S 0)) (S 7) (S 8))) 8 = mO_X3_run (m_X1_copy (S 1) (S 0)) (S 7) (S 8) := gset_at _ _ _
  rw [eV, eW, eM]
  rw [eM] at g1 g2 g3 g5
  have pcs : p_X6_copies (S 10) 1 273 3 273 ∧ p_X6_copies (m_X6_plays (m_X6_copies (S 10) 1 273 3 273)) 3 273 1 273 := ⟨⟨by decide, by decide, by decide⟩, by decide, by decide, by decide⟩
  generalize gset (gset (gset S 1 (mA_X3_run (m_X1_copy (S 1) (S 0)) (S 7) (S 8))) 7 (mT_X3_run (m_X1_copy (S 1) (S 0)) (S 7) (S 8))) 8 (mO_X3_run (m_X1_copy (S 1) (S 0)) (S 7) (S 8)) = S' at hS' s1 s8 ⊢
  generalize mO_X3_run (m_X1_copy (S 1) (S 0)) (S 7) (S 8) = O' at eO t8 s8 ⊢
  generalize mA_X3_run (m_X1_copy (S 1) (S 0)) (S 7) (S 8) = A' at eA s1
  generalize runF 60 0 (m_X1_copy (S 1) (S 0)) (S 7) (aset (aset (S 8) 0 4 0) 0 6 0) = R at eO eA t3 u3
  generalize plR 61 1 (plI (m_X6_copies (S 10) 1 273 3 273)) = M1 at t3 ⊢
  generalize plR 61 1 (plI (m_X6_changes C)) = M2 at u3 g1 g2 g3 g5 ⊢
  obtain ⟨x1, x2, x3⟩ := u3
  rw [← eO] at x2 x3
  rw [← eA] at x1
  have t3b := t3.2.1
  rw [← eO] at t3b
  obtain ⟨h1, h2, h3, _⟩ := h.2.1
  have e9 : S' 9 = S 9 := hS' 9 (by decide) (by decide) (by decide)
  have nt := note_of (S := S') (by rw [e9]; exact h1) (by rw [e9]; omega) 0
  have n0 : m_X2_note S' 0 0 = S 0 := by rw [nt.2.2.2 0 (by omega)]; exact hS' 0 (by decide) (by decide) (by decide)
  have n1 : m_X2_note S' 0 1 = A' := by rw [nt.2.2.2 1 (by omega)]; exact s1
  have n8 : m_X2_note S' 0 8 = O' := by rw [nt.2.2.2 8 (by omega)]; exact s8
  have n9 : m_X2_note S' 0 9 = S 9 := by rw [nt.2.2.2 9 (by omega)]; exact e9
  rw [n0, n1, n8]
  by_cases z : O' 0 6 = 0
  · have y1 : M1.1 = 1 := by
      rcases t3b with ⟨_, a, _, _⟩ | ⟨a, _⟩
      · exact a
      · exact absurd z a
    have y2 : M2.1 = 1 ∧ O' 0 4 = M2.2 0 14 ∧ 0 ≤ M2.2 0 14 := by
      rcases x2 with ⟨_, a, b, d⟩ | ⟨a, _⟩
      · exact ⟨a, b, d⟩
      · exact absurd z a
    rw [if_pos z, if_pos z, if_neg (show ¬ M1.1 = 0 by omega), if_neg (show ¬ M2.1 = 0 by omega), if_neg (show ¬ M1.1 = 0 by omega), if_neg (show ¬ M2.1 = 0 by omega), settled_v]
    have e9' : gset (m_X2_note S' 0) 0 (m_X1_copy (S 0) A') 9 = S 9 := by rw [gset_ne (by decide)]; exact n9
    have st := settled_at e9' (O' 0 4)
    rw [if_neg (show ¬ O' 0 4 < 0 by omega)] at st
    refine ⟨⟨copy_p _ _, t1, fun _ => ⟨nt.1, copy_p _ _, settled_p (by rw [e9']; exact h1) (by rw [e9']; omega) _, trivial⟩, fun _ => trivial⟩, y2.2.1, ?_, ⟨pcs.1, t2, pcs.2, fun _ => trivial, fun _ => ⟨hb, u2, fun _ => trivial, fun _ => trivial⟩⟩, ?_⟩
    · rw [st.2 10 (by decide), gset_ne (by decide), nt.2.2.2 10 (by omega)]
      exact hS' 10 (by decide) (by decide) (by decide)
    · generalize m_X5_settled (gset (m_X2_note S' 0) 0 (m_X1_copy (S 0) A')) (O' 0 4) = S1 at st ⊢
      have f0 : S1 0 = m_X1_copy (S 0) A' := by rw [st.2 0 (by decide), gset_at]
      have f8 : S1 8 = O' := by rw [st.2 8 (by decide), gset_ne (by decide)]; exact n8
      have fk : ∀ k : Nat, k < 5 → S1 (2 + k) = m_X2_note S' 0 (2 + k) := fun k hk => by rw [st.2 _ (by omega), gset_ne (by omega)]
      refine ⟨?_, ?_, ?_, ?_, ?_, by have := h.2.2.2.2.2; omega⟩
      · rw [gset_ne (by decide), gset_at, f0]
        exact rel_ag x1 (agF_copy _ _) (fun _ _ _ => rfl)
      · rw [gset_at (g := 10), gset_ne (by decide), st.1]
        have hC : HisR (fun k => S (2 + k)) (S 9) C (61 * c) := his_same h.2.1 (fun _ _ _ => rfl) t5 t6 (Int.le_refl _)
        have w8 := t4 8 (by decide) (by decide)
        refine his_more hC (rel_ag h.1 (agF_rfl _) t4) (fun k hk hn => ?_) ?_ t7 g3 g1 (by omega) (by omega)
        · show gset S1 10 M2.2 (2 + k) = S (2 + k)
          rw [gset_ne (by omega), fk k hk, nt.2.1 k hk (by rw [e9]; exact hn)]
          exact hS' _ (by omega) (by omega) (by omega)
        · show agF (S 0) (gset S1 10 M2.2 (2 + ((S 9 0 1 + S 9 0 2) % 5).toNat))
          have nn := nt.2.2.1
          rw [e9] at nn
          rw [gset_ne (by omega), fk _ (by omega), nn, hS' 0 (by decide) (by decide) (by decide)]
          exact agF_copy _ _
      · rw [gset_at (g := 10), gset_ne (by decide), f8]; exact x3
      · rw [gset_at]; exact g2
      · rw [gset_at]; omega
  · have y1 : M1.1 = 0 := by
      rcases t3b with ⟨a, _⟩ | ⟨_, a, _⟩
      · exact absurd a z
      · exact a
    rw [if_neg z, if_neg z, if_pos y1, if_pos y1]
    refine ⟨⟨copy_p _ _, t1, fun y => absurd y z, fun _ => trivial⟩, rfl, hS' 10 (by decide) (by decide) (by decide), ⟨pcs.1, t2, pcs.2, fun _ => trivial, fun y => absurd y1 y⟩, ?_⟩
    refine inv_look h hS' ?_ t4 t5 t6 t7
    rw [s8]; exact t8

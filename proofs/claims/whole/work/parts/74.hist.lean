/-! the history: a ring of fonts in the class, one row behind another in the model -/
def HisR (F : Nat → hGM) (H P : hGM) (b : Int) : Prop := (0 ≤ H 0 1 ∧ H 0 1 < 5) ∧ H 0 2 = P 0 3 ∧ (0 ≤ P 0 3 ∧ P 0 3 ≤ 4) ∧ ∀ j : Int, 0 ≤ j → j < P 0 3 → Rel (F ((H 0 1 + j) % 5).toNat) (fun q => P 2 (273 * j + q)) ∧ P 2 (273 * j + 8) ≤ b
def keepRow (B : hGM) : hGM := if B 0 2 < 4 then aset B 0 2 (B 0 2 + 1) else aset B 0 1 ((B 0 1 + 1) % 5)
theorem his_same {F F' : Nat → hGM} {H P P' : hGM} {b b' : Int} (h : HisR F H P b) (hF : ∀ k : Nat, k < 5 → ¬ k = ((H 0 1 + H 0 2) % 5).toNat → F' k = F k) (p2 : P' 2 = P 2) (p3 : P' 0 3 = P 0 3) (hb : b ≤ b') : HisR F' H P' b' := by
  obtain ⟨h1, h2, h3, h4⟩ := h
  refine ⟨h1, by rw [p3]; exact h2, by rw [p3]; exact h3, fun j j0 j1 => ?_⟩
  rw [p3] at j1
  have q := h4 j j0 j1
  rw [p2, hF _ (by omega) (by omega)]
  exact ⟨q.1, by omega⟩
theorem chg_eq {P : hGM} (r : P 0 4 = 0) (b : 0 ≤ P 0 3 ∧ P 0 3 ≤ 4) : (P 0 3 < 4 → m_X6_changes P 0 3 = P 0 3 + 1 ∧ (∀ j q : Int, 0 ≤ j → j < P 0 3 → 0 ≤ q → q < 273 → m_X6_changes P 2 (273 * j + q) = P 2 (273 * j + q)) ∧ ∀ q : Int, 0 ≤ q → q < 273 → m_X6_changes P 2 (273 * P 0 3 + q) = P 1 q) ∧
    (P 0 3 = 4 → m_X6_changes P 0 3 = 4 ∧ (∀ j q : Int, 0 ≤ j → j < 3 → 0 ≤ q → q < 273 → m_X6_changes P 2 (273 * j + q) = P 2 (273 * (j + 1) + q)) ∧ ∀ q : Int, 0 ≤ q → q < 273 → m_X6_changes P 2 (273 * 3 + q) = P 1 q) := by
  unfold m_X6_changes
  rw [if_pos r]
  constructor
  · intro c
    have e : ch1 P = P := by unfold ch1; rw [if_neg (by omega)]
    rw [e]
    refine ⟨by rw [aset_at], fun j q j0 j1 q0 q1 => ?_, fun q q0 q1 => ?_⟩
    · rw [aset_row (by decide)]
      unfold cpO
      rw [if_neg (by omega)]
    · rw [aset_row (by decide)]
      unfold cpO
      rw [if_pos ⟨rfl, by omega, by omega⟩]
      exact congrArg (P 1) (by omega)
  · intro c
    have e : ch1 P = aset (cpR P 2 (fun q => P 2 (q + 273)) 819) 0 3 (P 0 3 - 1) := by unfold ch1; rw [if_pos c]
    have e3 : ch1 P 0 3 = 3 := by rw [e, aset_at, c]; rfl
    rw [e3]
    refine ⟨by rw [aset_at]; rfl, fun j q j0 j1 q0 q1 => ?_, fun q q0 q1 => ?_⟩
    · rw [aset_row (by decide)]
      unfold cpO
      rw [if_neg (by omega), e, aset_row (by decide), cpR_in (by omega) (by omega)]
      exact congrArg (P 2) (by omega)
    · rw [aset_row (by decide)]
      unfold cpO
      rw [if_pos ⟨rfl, by omega, by omega⟩]
      exact congrArg (P 1) (by omega)
theorem his_more {F F' : Nat → hGM} {H P P' A0 : hGM} {b b' : Int} (h : HisR F H P b) (hA : Rel A0 (P 1)) (hF : ∀ k : Nat, k < 5 → ¬ k = ((H 0 1 + H 0 2) % 5).toNat → F' k = F k) (hn : agF A0 (F' ((H 0 1 + H 0 2) % 5).toNat)) (r : P 0 4 = 0) (p2 : P' 2 = m_X6_changes P 2) (p3 : P' 0 3 = m_X6_changes P 0 3) (hb : b ≤ b') (hb2 : P 1 8 ≤ b') : HisR F' (keepRow H) P' b' := by
  obtain ⟨h1, h2, h3, h4⟩ := h
  obtain ⟨cA, cB⟩ := chg_eq r h3
  by_cases c : P 0 3 < 4
  · obtain ⟨c1, c2, c3⟩ := cA c
    have k1 : keepRow H 0 1 = H 0 1 := by unfold keepRow; rw [if_pos (by omega), aset_ne (by omega)]
    have k2 : keepRow H 0 2 = H 0 2 + 1 := by unfold keepRow; rw [if_pos (by omega), aset_at]
    refine ⟨by rw [k1]; exact h1, by rw [k2, p3, c1, h2], by rw [p3, c1]; omega, fun j j0 j1 => ?_⟩
    rw [p3, c1] at j1
    rw [k1, p2]
    by_cases e : j = P 0 3
    · rw [e]
      rw [h2] at hn
      refine ⟨rel_ag hA hn (fun q q0 q1 => c3 q q0 q1), ?_⟩
      rw [c3 8 (by decide) (by decide)]; exact hb2
    · have q := h4 j j0 (by omega)
      rw [hF _ (by omega) (by omega), c2 j 8 j0 (by omega) (by decide) (by decide)]
      exact ⟨rel_ag q.1 ⟨fun _ _ _ => rfl, fun _ _ _ => ⟨rfl, rfl⟩, fun _ _ _ => ⟨rfl, rfl, rfl⟩, fun _ _ _ => rfl, rfl, fun _ _ _ => ⟨rfl, rfl, rfl⟩, fun _ _ _ => ⟨rfl, rfl⟩⟩ (fun q q0 q1 => c2 j q j0 (by omega) q0 q1), by omega⟩
  · have c4 : P 0 3 = 4 := by omega
    obtain ⟨c1, c2, c3⟩ := cB c4
    have k1 : keepRow H 0 1 = (H 0 1 + 1) % 5 := by unfold keepRow; rw [if_neg (by omega), aset_at]
    have k2 : keepRow H 0 2 = H 0 2 := by unfold keepRow; rw [if_neg (by omega), aset_ne (by omega)]
    refine ⟨by rw [k1]; omega, by rw [k2, p3, c1, h2, c4], by rw [p3, c1]; omega, fun j j0 j1 => ?_⟩
    rw [p3, c1] at j1
    rw [k1, p2]
    by_cases e : j = 3
    · rw [e]
      have es : (((H 0 1 + 1) % 5 + 3) % 5).toNat = ((H 0 1 + H 0 2) % 5).toNat := by omega
      rw [es]
      refine ⟨rel_ag hA hn (fun q q0 q1 => c3 q q0 q1), ?_⟩
      rw [c3 8 (by decide) (by decide)]; exact hb2
    · have q := h4 (j + 1) (by omega) (by omega)
      have es : (((H 0 1 + 1) % 5 + j) % 5).toNat = ((H 0 1 + (j + 1)) % 5).toNat := by omega
      rw [es, hF _ (by omega) (by omega), c2 j 8 j0 (by omega) (by decide) (by decide)]
      exact ⟨rel_ag q.1 ⟨fun _ _ _ => rfl, fun _ _ _ => ⟨rfl, rfl⟩, fun _ _ _ => ⟨rfl, rfl, rfl⟩, fun _ _ _ => rfl, rfl, fun _ _ _ => ⟨rfl, rfl, rfl⟩, fun _ _ _ => ⟨rfl, rfl⟩⟩ (fun q q0 q1 => c2 j q j0 (by omega) q0 q1), by omega⟩
/-! the state of both -/
def Inv (S : hS) (c : Int) : Prop := Rel (S 0) (S 10 1) ∧ HisR (fun k => S (2 + k)) (S 9) (S 10) (61 * c) ∧ TxR (S 8) (S 10) ∧ S 10 0 4 = 0 ∧ S 10 1 8 ≤ 61 * c ∧ 0 ≤ c
theorem slot_v {S : hS} {x : Int} (h : 0 ≤ S 9 0 1 ∧ S 9 0 1 < 5) (x0 : -1 ≤ x ∧ x ≤ 4) : v_X2_slotAt S x = (S 9 0 1 + x) % 5 ∧ p_X2_slotAt S x ∧ 0 ≤ v_X2_slotAt S x ∧ v_X2_slotAt S x < 5 := by
  have e : v_X2_slotAt S x = (S 9 0 1 + x) % 5 := fmod_v ⟨by omega, by omega⟩ ⟨by decide, by decide⟩ (by decide)
  have e' : v_J9_floorMod_7cf53 (S 9 0 1 + x) 5 = (S 9 0 1 + x) % 5 := e
  refine ⟨e, ⟨⟨by omega, by omega⟩, fmod_p ⟨by omega, by omega⟩ ⟨by decide, by decide⟩ (by decide), by rw [e']; omega, by rw [e']; omega, trivial⟩, by rw [e]; omega, by rw [e]; omega⟩
theorem note_at {S : hS} {c : Int} (h : Inv S c) (j : Nat) : p_X2_note S j ∧ (∀ k : Nat, k < 5 → ¬ k = ((S 9 0 1 + S 9 0 2) % 5).toNat → m_X2_note S j (2 + k) = S (2 + k)) ∧ m_X2_note S j (2 + ((S 9 0 1 + S 9 0 2) % 5).toNat) = m_X1_copy (S (2 + ((S 9 0 1 + S 9 0 2) % 5).toNat)) (S j) ∧ (∀ g : Nat, g < 2 ∨ 7 ≤ g → m_X2_note S j g = S g) := by
  obtain ⟨h1, h2, h3, _⟩ := h.2.1
  have sv := slot_v (S := S) (x := S 9 0 2) h1 (by omega)
  unfold m_X2_note
  rw [← sv.1]
  refine ⟨⟨sv.2.1, ⟨sv.2.2.1, sv.2.2.2⟩, copy_p _ _, trivial⟩, fun k k5 kn => gset_ne (by omega), by rw [gset_at], fun g hg => gset_ne (by omega)⟩
theorem keep_at {S : hS} {H0 : hGM} (h9 : S 9 = H0) : m_X2_keep S 9 = keepRow H0 ∧ (∀ g : Nat, g ≠ 9 → m_X2_keep S g = S g) := by
  unfold m_X2_keep keepRow
  rw [h9]
  split
  · exact ⟨gset_at _ _ _, fun g hg => gset_ne hg⟩
  · exact ⟨gset_at _ _ _, fun g hg => gset_ne hg⟩
theorem settled_p {S : hS} (h1 : 0 ≤ S 9 0 1 ∧ S 9 0 1 < 5) (h2 : 0 ≤ S 9 0 2 ∧ S 9 0 2 ≤ 4) (v : Int) : p_X5_settled S v :=
  ⟨fun _ => trivial, fun _ => ⟨⟨fun _ => ⟨⟨by omega, by omega⟩, trivial⟩, fun _ => ⟨⟨by omega, by omega⟩, by omega, ⟨by omega, by omega⟩, trivial⟩⟩, trivial⟩⟩
theorem settled_v (S : hS) (v : Int) : v_X5_settled S v = v := by unfold v_X5_settled; split <;> rfl
theorem settled_at {S : hS} {H0 : hGM} (h9 : S 9 = H0) (v : Int) : m_X5_settled S v 9 = (if v < 0 then H0 else keepRow H0) ∧ ∀ g : Nat, g ≠ 9 → m_X5_settled S v g = S g := by
  have k := keep_at h9
  unfold m_X5_settled
  by_cases c : v < 0
  · rw [if_pos c, if_pos c]; exact ⟨h9, fun _ _ => rfl⟩
  · rw [if_neg c, if_neg c]; exact k
/-- a call that may change the font -/
theorem step_chg {S S1 : hS} {A' P' : hGM} {v w c : Int} (h : Inv S c) (ha : Ans (S 0) A' (S 10) P' v w) (h0 : S1 0 = A') (h2 : ∀ k : Nat, k < 5 → S1 (2 + k) = m_X2_note S 0 (2 + k)) (h8 : S1 8 = S 8) (h9 : S1 9 = if v < 0 then S 9 else keepRow (S 9)) : Inv (gset S1 10 P') (c + 1) := by
  obtain ⟨i1, i2, i3, i4, i5, i6⟩ := h
  obtain ⟨a1, a2, a3, a4, a5⟩ := ha
  have nt := note_at (j := 0) (show Inv S c from ⟨i1, i2, i3, i4, i5, i6⟩)
  have F : ∀ k : Nat, k < 5 → gset S1 10 P' (2 + k) = m_X2_note S 0 (2 + k) := fun k hk => by rw [gset_ne (by omega)]; exact h2 k hk
  have e0 : gset S1 10 P' 0 = A' := by rw [gset_ne (by decide)]; exact h0
  have e8 : gset S1 10 P' 8 = S 8 := by rw [gset_ne (by decide)]; exact h8
  have e9 : gset S1 10 P' 9 = if v < 0 then S 9 else keepRow (S 9) := by rw [gset_ne (by decide)]; exact h9
  have e10 : gset S1 10 P' 10 = P' := gset_at _ _ _
  have hF : ∀ k : Nat, k < 5 → ¬ k = ((S 9 0 1 + S 9 0 2) % 5).toNat → gset S1 10 P' (2 + k) = S (2 + k) := fun k hk hn => by rw [F k hk]; exact nt.2.1 k hk hn
  refine ⟨?_, ?_, ?_, ?_, ?_, by omega⟩
  · rw [e0, e10]; exact a2
  · rw [e9, e10]
    by_cases cv : v < 0
    · obtain ⟨_, rfl⟩ := a3 cv
      rw [if_pos cv]
      exact his_same i2 hF rfl rfl (by omega)
    · have kp := a4 cv
      rw [if_neg cv]
      refine his_more i2 i1 hF ?_ i4 (kp.1 2 (by decide) (by decide) (by decide) (by decide)) (kp.2 3 (by decide)) (by omega) (by omega)
      show agF (S 0) (gset S1 10 P' (2 + ((S 9 0 1 + S 9 0 2) % 5).toNat))
      have h1 := i2.1
      rw [F _ (by omega), nt.2.2.1]
      exact agF_copy _ _
  · rw [e8, e10]
    by_cases cv : v < 0
    · obtain ⟨_, rfl⟩ := a3 cv
      exact i3
    · have kp := a4 cv
      refine txr_of i3 rfl rfl ?_ ?_
      · rw [kp.2 6 (by decide)]
        unfold m_X6_changes ch1
        rw [if_pos i4, aset_ne (by omega)]
        unfold cpO
        rw [if_neg (by omega)]
        split
        · rw [aset_ne (by omega), cpR_row (by decide)]
        · rfl
      · rw [kp.1 4 (by decide) (by decide) (by decide) (by decide), changes_row (by decide) (by decide)]
  · rw [e10]
    by_cases cv : v < 0
    · obtain ⟨_, rfl⟩ := a3 cv
      exact i4
    · have kp := a4 cv
      rw [kp.2 4 (by decide)]
      unfold m_X6_changes ch1
      rw [if_pos i4, aset_ne (by omega)]
      unfold cpO
      rw [if_neg (by omega)]
      split
      · rw [aset_ne (by omega), cpR_row (by decide)]; exact i4
      · exact i4
  · rw [e10]; omega
/-- the whole of such a call of the class -/
theorem chg_call {S : hS} {c v w : Int} {A' P' : hGM} (h : Inv S c) (ha : Ans (S 0) A' (S 10) P' v w) : p_X2_note S 0 ∧ p_X5_settled (gset (m_X2_note S 0) 0 A') v ∧ v_X5_settled (gset (m_X2_note S 0) 0 A') v = w ∧ m_X5_settled (gset (m_X2_note S 0) 0 A') v 10 = S 10 ∧ Inv (gset (m_X5_settled (gset (m_X2_note S 0) 0 A') v) 10 P') (c + 1) := by
  have nt := note_at (j := 0) h
  obtain ⟨h1, h2, h3, _⟩ := h.2.1
  have e9 : gset (m_X2_note S 0) 0 A' 9 = S 9 := by rw [gset_ne (by decide)]; exact nt.2.2.2 9 (by omega)
  have st := settled_at e9 v
  refine ⟨nt.1, settled_p (by rw [e9]; exact h1) (by rw [e9]; omega) v, by rw [settled_v]; exact ha.1, ?_, ?_⟩
  · rw [st.2 10 (by decide), gset_ne (by decide)]; exact nt.2.2.2 10 (by omega)
  · refine step_chg h ha ?_ (fun k hk => ?_) ?_ st.1
    · rw [st.2 0 (by decide), gset_at]
    · rw [st.2 _ (by omega), gset_ne (by omega)]
    · rw [st.2 8 (by decide), gset_ne (by decide)]; exact nt.2.2.2 8 (by omega)
theorem mok_of {S : hS} {c : Int} (h : Inv S c) : mOK (S 10) := ⟨h.1.1.2.1, h.2.1.2.2.1⟩
def Both (S : hS) (c : Int) (pc : Prop) (v : Int) (S1 : hS) (pm : Prop) (w : Int) (P' : hGM) : Prop := pc ∧ v = w ∧ S1 10 = S 10 ∧ pm ∧ Inv (gset S1 10 P') (c + 1)
theorem bt_glyph {S : hS} {c : Int} (h : Inv S c) (a : Int) : Both S c (p_X5_glyph S a) (v_X5_glyph S a) (m_X5_glyph S a) (p_X6_glyph (S 10) a) (v_X6_glyph (S 10) a) (m_X6_glyph (S 10) a) := by
  have nt := note_at (j := 0) h
  have n0 : m_X2_note S 0 0 = S 0 := nt.2.2.2 0 (by omega)
  unfold p_X5_glyph v_X5_glyph m_X5_glyph
  rw [n0]
  obtain ⟨q1, q2, q3, q4, q5⟩ := chg_call h (ans_glyph h.1 a)
  exact ⟨⟨q1, pa_glyph h.1.1.1 a, q2, trivial⟩, q3, q4, pm_glyph h.1.1.2.1 h.2.1.2.2.1 a, q5⟩
theorem bt_stem {S : hS} {c : Int} (h : Inv S c) (g p w : Int) : Both S c (p_X5_stem S g p w) (v_X5_stem S g p w) (m_X5_stem S g p w) (p_X6_stem (S 10) g p w) (v_X6_stem (S 10) g p w) (m_X6_stem (S 10) g p w) := by
  have nt := note_at (j := 0) h
  have n0 : m_X2_note S 0 0 = S 0 := nt.2.2.2 0 (by omega)
  unfold p_X5_stem v_X5_stem m_X5_stem
  rw [n0]
  obtain ⟨q1, q2, q3, q4, q5⟩ := chg_call h (ans_stem h.1 g p w)
  exact ⟨⟨q1, h.1.1.1, q2, trivial⟩, q3, q4, mok_of h, q5⟩
theorem bt_cut {S : hS} {c : Int} (h : Inv S c) (g k : Int) : Both S c (p_X5_cut S g k) (v_X5_cut S g k) (m_X5_cut S g k) (p_X6_cut (S 10) g k) (v_X6_cut (S 10) g k) (m_X6_cut (S 10) g k) := by
  have nt := note_at (j := 0) h
  have n0 : m_X2_note S 0 0 = S 0 := nt.2.2.2 0 (by omega)
  unfold p_X5_cut v_X5_cut m_X5_cut
  rw [n0]
  obtain ⟨q1, q2, q3, q4, q5⟩ := chg_call h (ans_cut h.1 g k)
  exact ⟨⟨q1, h.1.1.1, q2, trivial⟩, q3, q4, mok_of h, q5⟩
theorem bt_hint {S : hS} {c : Int} (h : Inv S c) (g k v : Int) : Both S c (p_X5_hint S g k v) (v_X5_hint S g k v) (m_X5_hint S g k v) (p_X6_hint (S 10) g k v) (v_X6_hint (S 10) g k v) (m_X6_hint (S 10) g k v) := by
  have nt := note_at (j := 0) h
  have n0 : m_X2_note S 0 0 = S 0 := nt.2.2.2 0 (by omega)
  unfold p_X5_hint v_X5_hint m_X5_hint
  rw [n0]
  obtain ⟨q1, q2, q3, q4, q5⟩ := chg_call h (ans_hint h.1 g k v)
  exact ⟨⟨q1, pa_hint h.1.1.1 g k v, q2, trivial⟩, q3, q4, pm_hint h.1.1.2.1 h.2.1.2.2.1 g k v, q5⟩
theorem bt_standard {S : hS} {c : Int} (h : Inv S c) (w : Int) : Both S c (p_X5_standard S w) (v_X5_standard S w) (m_X5_standard S w) (p_X6_standard (S 10) w) (v_X6_standard (S 10) w) (m_X6_standard (S 10) w) := by
  have nt := note_at (j := 0) h
  have n0 : m_X2_note S 0 0 = S 0 := nt.2.2.2 0 (by omega)
  unfold p_X5_standard v_X5_standard m_X5_standard
  rw [n0]
  obtain ⟨q1, q2, q3, q4, q5⟩ := chg_call h (ans_standard h.1 w)
  exact ⟨⟨q1, h.1.1.1, q2, trivial⟩, q3, q4, mok_of h, q5⟩
theorem bt_drop {S : hS} {c : Int} (h : Inv S c) (w : Int) : Both S c (p_X5_drop S w) (v_X5_drop S w) (m_X5_drop S w) (p_X6_drop (S 10) w) (v_X6_drop (S 10) w) (m_X6_drop (S 10) w) := by
  have nt := note_at (j := 0) h
  have n0 : m_X2_note S 0 0 = S 0 := nt.2.2.2 0 (by omega)
  unfold p_X5_drop v_X5_drop m_X5_drop
  rw [n0]
  obtain ⟨q1, q2, q3, q4, q5⟩ := chg_call h (ans_drop h.1 w)
  exact ⟨⟨q1, h.1.1.1, q2, trivial⟩, q3, q4, mok_of h, q5⟩
theorem bt_set {S : hS} {c : Int} (h : Inv S c) (w v : Int) : Both S c (p_X5_set S w v) (v_X5_set S w v) (m_X5_set S w v) (p_X6_set (S 10) w v) (v_X6_set (S 10) w v) (m_X6_set (S 10) w v) := by
  have nt := note_at (j := 0) h
  have n0 : m_X2_note S 0 0 = S 0 := nt.2.2.2 0 (by omega)
  unfold p_X5_set v_X5_set m_X5_set
  rw [n0]
  obtain ⟨q1, q2, q3, q4, q5⟩ := chg_call h (ans_set h.1 w v)
  exact ⟨⟨q1, q2, trivial⟩, q3, q4, pm_set h.2.1.2.2.1 w v, q5⟩
theorem bt_make {S : hS} {c : Int} (h : Inv S c) (c5 : c ≤ 512) (z : Int) : Both S c (p_X5_make S z) (v_X5_make S z) (m_X5_make S z) (p_X6_make (S 10) z) (v_X6_make (S 10) z) (m_X6_make (S 10) z) := by
  have nt := note_at (j := 0) h
  have n0 : m_X2_note S 0 0 = S 0 := nt.2.2.2 0 (by omega)
  have n7 : m_X2_note S 0 7 = S 7 := nt.2.2.2 7 (by omega)
  have m8 : S 10 1 8 < 1000000 := by have := h.2.2.2.2.1; omega
  have e7 : 0 ≤ S 0 7 0 ∧ S 0 7 0 ≤ 1000000 := by rw [h.1.2.1]; exact h.1.1.2.1.2.2.2.2.2.2.1
  unfold p_X5_make v_X5_make m_X5_make
  rw [n0, n7]
  have ha := ans_make (S 7) h.1 m8 z
  obtain ⟨h1, h2, h3, _⟩ := h.2.1
  generalize mA_X1_makeSheet (S 0) (S 7) z = A' at ha ⊢
  generalize mT_X1_makeSheet (S 0) (S 7) z = T'
  generalize v_X1_makeSheet (S 0) (S 7) z = v at ha ⊢
  have e9 : gset (gset (m_X2_note S 0) 0 A') 7 T' 9 = S 9 := by rw [gset_ne (by decide), gset_ne (by decide)]; exact nt.2.2.2 9 (by omega)
  have st := settled_at e9 v
  refine ⟨⟨nt.1, ⟨h.1.1.1, e7⟩, settled_p (by rw [e9]; exact h1) (by rw [e9]; omega) v, trivial⟩, by rw [settled_v]; exact ha.1, ?_, ⟨mok_of h, rel_gap h.1.1, m8⟩, ?_⟩
  · rw [st.2 10 (by decide), gset_ne (by decide), gset_ne (by decide)]; exact nt.2.2.2 10 (by omega)
  · refine step_chg h ha ?_ (fun k hk => ?_) ?_ st.1
    · rw [st.2 0 (by decide), gset_ne (by decide), gset_at]
    · rw [st.2 _ (by omega), gset_ne (by omega), gset_ne (by omega)]
    · rw [st.2 8 (by decide), gset_ne (by decide), gset_ne (by decide)]; exact nt.2.2.2 8 (by omega)

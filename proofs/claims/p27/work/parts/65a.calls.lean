/-! the class's calls that change the font -/
def keepRow (B : hGM) : hGM := if B 0 2 < 4 then aset B 0 2 (B 0 2 + 1) else aset B 0 1 ((B 0 1 + 1) % 5)
def HisI (S : hS) : Prop := (0 ≤ S 9 0 1 ∧ S 9 0 1 < 5) ∧ (0 ≤ S 9 0 2 ∧ S 9 0 2 ≤ 4)
theorem slot_v {S : hS} {x : Int} (h : 0 ≤ S 9 0 1 ∧ S 9 0 1 < 5) (x0 : -1 ≤ x ∧ x ≤ 4) : v_X2_slotAt S x = (S 9 0 1 + x) % 5 ∧ p_X2_slotAt S x ∧ 0 ≤ v_X2_slotAt S x ∧ v_X2_slotAt S x < 5 := by
  have e : v_X2_slotAt S x = (S 9 0 1 + x) % 5 := fmod_v ⟨by omega, by omega⟩ ⟨by decide, by decide⟩ (by decide)
  have e' : v_J9_floorMod_7cf53 (S 9 0 1 + x) 5 = (S 9 0 1 + x) % 5 := e
  refine ⟨e, ⟨⟨by omega, by omega⟩, fmod_p ⟨by omega, by omega⟩ ⟨by decide, by decide⟩ (by decide), by rw [e']; omega, by rw [e']; omega, trivial⟩, by rw [e]; omega, by rw [e]; omega⟩
theorem note_at {S : hS} (h : HisI S) (j : Nat) : p_X2_note S j ∧ (∀ g : Nat, g < 2 ∨ 7 ≤ g → m_X2_note S j g = S g) := by
  have sv := slot_v (S := S) (x := S 9 0 2) h.1 (by have := h.2; omega)
  have h1 := h.1
  have h2 := h.2
  unfold m_X2_note
  exact ⟨⟨sv.2.1, ⟨sv.2.2.1, sv.2.2.2⟩, copy_p _ _, trivial⟩, fun g hg => gset_ne (by omega)⟩
theorem keep_at {S : hS} {H0 : hGM} (h9 : S 9 = H0) : m_X2_keep S 9 = keepRow H0 ∧ (∀ g : Nat, g ≠ 9 → m_X2_keep S g = S g) := by
  unfold m_X2_keep keepRow
  rw [h9]
  split
  · exact ⟨gset_at _ _ _, fun g hg => gset_ne hg⟩
  · exact ⟨gset_at _ _ _, fun g hg => gset_ne hg⟩
theorem settled_p {S : hS} (h1 : 0 ≤ S 9 0 1 ∧ S 9 0 1 < 5) (h2 : 0 ≤ S 9 0 2 ∧ S 9 0 2 ≤ 4) (v : Int) : p_X5_settled S v :=
  ⟨fun _ => trivial, fun _ => ⟨⟨fun _ => ⟨⟨by omega, by omega⟩, trivial⟩, fun _ => ⟨⟨by omega, by omega⟩, by omega, ⟨by omega, by omega⟩, trivial⟩⟩, trivial⟩⟩
theorem settled_v (S : hS) (v : Int) : v_X5_settled S v = v := by unfold v_X5_settled; split <;> rfl
theorem settled_at {S : hS} {H0 : hGM} (h9 : S 9 = H0) (v : Int) : m_X5_settled S v 9 = (if v < 0 then H0 else keepRow H0) ∧ ∀ g : Nat, g ≠ 9 → m_X5_settled S v g = S g := by
  have k := keep_at h9
  unfold m_X5_settled
  by_cases c : v < 0
  · rw [if_pos c, if_pos c]; exact ⟨h9, fun _ _ => rfl⟩
  · rw [if_neg c, if_neg c]; exact k
theorem keepRow_I {B : hGM} (h : (0 ≤ B 0 1 ∧ B 0 1 < 5) ∧ (0 ≤ B 0 2 ∧ B 0 2 ≤ 4)) : (0 ≤ keepRow B 0 1 ∧ keepRow B 0 1 < 5) ∧ (0 ≤ keepRow B 0 2 ∧ keepRow B 0 2 ≤ 4) := by
  obtain ⟨h1, h2⟩ := h
  unfold keepRow
  by_cases c : B 0 2 < 4
  · rw [if_pos c, aset_ne (by omega), aset_at]; omega
  · rw [if_neg c, aset_ne (q := 2) (by omega), aset_at]; omega
/-- a call that leaves the font A' -/
def St27 (S S1 : hS) (A' : hGM) : Prop := S1 0 = A' ∧ S1 10 = S 10 ∧ S1 8 = S 8 ∧ HisI S1
theorem st_of {S S1 : hS} {A' : hGM} {v : Int} (h : HisI S) (e0 : S1 0 = A') (e10 : S1 10 = S 10) (e8 : S1 8 = S 8) (e9 : S1 9 = S 9) : St27 S (m_X5_settled S1 v) A' := by
  have st := settled_at e9 v
  refine ⟨by rw [st.2 0 (by decide)]; exact e0, by rw [st.2 10 (by decide)]; exact e10, by rw [st.2 8 (by decide)]; exact e8, ?_⟩
  unfold HisI
  rw [st.1]
  by_cases c : v < 0
  · rw [if_pos c]; exact h
  · rw [if_neg c]; exact keepRow_I h
theorem cl_chg {S : hS} {v : Int} {A' : hGM} (h : HisI S) : p_X2_note S 0 ∧ p_X5_settled (gset (m_X2_note S 0) 0 A') v ∧ v_X5_settled (gset (m_X2_note S 0) 0 A') v = v ∧ St27 S (m_X5_settled (gset (m_X2_note S 0) 0 A') v) A' := by
  have nt := note_at h 0
  have e9 : gset (m_X2_note S 0) 0 A' 9 = S 9 := by rw [gset_ne (by decide)]; exact nt.2 9 (by omega)
  exact ⟨nt.1, settled_p (by rw [e9]; exact h.1) (by rw [e9]; exact h.2) v, settled_v _ _, st_of h (gset_at _ _ _) (by rw [gset_ne (by decide)]; exact nt.2 10 (by omega)) (by rw [gset_ne (by decide)]; exact nt.2 8 (by omega)) e9⟩
theorem pa_glyph {A : hGM} (h : fNum A) (a : Int) : p_X1_addGlyph A a := by
  have n := h.1
  refine ⟨fun _ => trivial, fun _ => ⟨fun c => ⟨?_, trivial⟩, fun _ => trivial⟩⟩
  rw [put_row (by decide)]
  exact ⟨by omega, by omega⟩
theorem pa_hint {A : hGM} (h : fNum A) (g k v : Int) : p_X1_hintStem A g k v := by
  refine ⟨hasStem_p h g k, fun _ => trivial, fun c => ⟨fun _ => trivial, fun _ => ⟨?_, trivial⟩⟩⟩
  have y := hasStem_y h c
  have n := h.1
  have m := (h.2.2.2.2.2.2 g (by omega) (by omega)).2
  exact ⟨by omega, by omega⟩
theorem cl_glyph {S : hS} (h : HisI S) (hn : fNum (S 0)) (a : Int) : p_X5_glyph S a ∧ v_X5_glyph S a = v_X1_addGlyph (S 0) a ∧ St27 S (m_X5_glyph S a) (m_X1_addGlyph (S 0) a) := by
  have n0 : m_X2_note S 0 0 = S 0 := (note_at h 0).2 0 (by omega)
  unfold p_X5_glyph v_X5_glyph m_X5_glyph
  rw [n0]
  obtain ⟨q1, q2, q3, q4⟩ := cl_chg (v := v_X1_addGlyph (S 0) a) (A' := m_X1_addGlyph (S 0) a) h
  exact ⟨⟨q1, pa_glyph hn a, q2, trivial⟩, q3, q4⟩
theorem cl_stem {S : hS} (h : HisI S) (hn : fNum (S 0)) (g p w : Int) : p_X5_stem S g p w ∧ v_X5_stem S g p w = v_X1_addStem (S 0) g p w ∧ St27 S (m_X5_stem S g p w) (m_X1_addStem (S 0) g p w) := by
  have n0 : m_X2_note S 0 0 = S 0 := (note_at h 0).2 0 (by omega)
  unfold p_X5_stem v_X5_stem m_X5_stem
  rw [n0]
  obtain ⟨q1, q2, q3, q4⟩ := cl_chg (v := v_X1_addStem (S 0) g p w) (A' := m_X1_addStem (S 0) g p w) h
  exact ⟨⟨q1, hn, q2, trivial⟩, q3, q4⟩
theorem cl_cut {S : hS} (h : HisI S) (hn : fNum (S 0)) (g k : Int) : p_X5_cut S g k ∧ v_X5_cut S g k = v_X1_cutStem (S 0) g k ∧ St27 S (m_X5_cut S g k) (m_X1_cutStem (S 0) g k) := by
  have n0 : m_X2_note S 0 0 = S 0 := (note_at h 0).2 0 (by omega)
  unfold p_X5_cut v_X5_cut m_X5_cut
  rw [n0]
  obtain ⟨q1, q2, q3, q4⟩ := cl_chg (v := v_X1_cutStem (S 0) g k) (A' := m_X1_cutStem (S 0) g k) h
  exact ⟨⟨q1, hn, q2, trivial⟩, q3, q4⟩
theorem cl_hint {S : hS} (h : HisI S) (hn : fNum (S 0)) (g k v : Int) : p_X5_hint S g k v ∧ v_X5_hint S g k v = v_X1_hintStem (S 0) g k v ∧ St27 S (m_X5_hint S g k v) (m_X1_hintStem (S 0) g k v) := by
  have n0 : m_X2_note S 0 0 = S 0 := (note_at h 0).2 0 (by omega)
  unfold p_X5_hint v_X5_hint m_X5_hint
  rw [n0]
  obtain ⟨q1, q2, q3, q4⟩ := cl_chg (v := v_X1_hintStem (S 0) g k v) (A' := m_X1_hintStem (S 0) g k v) h
  exact ⟨⟨q1, pa_hint hn g k v, q2, trivial⟩, q3, q4⟩
theorem cl_standard {S : hS} (h : HisI S) (hn : fNum (S 0)) (w : Int) : p_X5_standard S w ∧ v_X5_standard S w = v_X1_addStandard (S 0) w ∧ St27 S (m_X5_standard S w) (m_X1_addStandard (S 0) w) := by
  have n0 : m_X2_note S 0 0 = S 0 := (note_at h 0).2 0 (by omega)
  unfold p_X5_standard v_X5_standard m_X5_standard
  rw [n0]
  obtain ⟨q1, q2, q3, q4⟩ := cl_chg (v := v_X1_addStandard (S 0) w) (A' := m_X1_addStandard (S 0) w) h
  exact ⟨⟨q1, hn, q2, trivial⟩, q3, q4⟩
theorem cl_drop {S : hS} (h : HisI S) (hn : fNum (S 0)) (w : Int) : p_X5_drop S w ∧ v_X5_drop S w = v_X1_dropStandard (S 0) w ∧ St27 S (m_X5_drop S w) (m_X1_dropStandard (S 0) w) := by
  have n0 : m_X2_note S 0 0 = S 0 := (note_at h 0).2 0 (by omega)
  unfold p_X5_drop v_X5_drop m_X5_drop
  rw [n0]
  obtain ⟨q1, q2, q3, q4⟩ := cl_chg (v := v_X1_dropStandard (S 0) w) (A' := m_X1_dropStandard (S 0) w) h
  exact ⟨⟨q1, hn, q2, trivial⟩, q3, q4⟩
theorem cl_set {S : hS} (h : HisI S) (w v : Int) : p_X5_set S w v ∧ v_X5_set S w v = v_X1_changeSetting (S 0) w v ∧ St27 S (m_X5_set S w v) (m_X1_changeSetting (S 0) w v) := by
  have n0 : m_X2_note S 0 0 = S 0 := (note_at h 0).2 0 (by omega)
  unfold p_X5_set v_X5_set m_X5_set
  rw [n0]
  obtain ⟨q1, q2, q3, q4⟩ := cl_chg (v := v_X1_changeSetting (S 0) w v) (A' := m_X1_changeSetting (S 0) w v) h
  exact ⟨⟨q1, q2, trivial⟩, q3, q4⟩
theorem cl_make {S : hS} (h : HisI S) (hn : fNum (S 0)) (m7 : 0 ≤ S 0 7 0 ∧ S 0 7 0 ≤ 1000000) (z : Int) : p_X5_make S z ∧ v_X5_make S z = v_X1_makeSheet (S 0) (S 7) z ∧ St27 S (m_X5_make S z) (mA_X1_makeSheet (S 0) (S 7) z) := by
  have nt := note_at h 0
  have n0 : m_X2_note S 0 0 = S 0 := nt.2 0 (by omega)
  have n7 : m_X2_note S 0 7 = S 7 := nt.2 7 (by omega)
  unfold p_X5_make v_X5_make m_X5_make
  rw [n0, n7]
  generalize mA_X1_makeSheet (S 0) (S 7) z = A'
  generalize mT_X1_makeSheet (S 0) (S 7) z = T'
  generalize v_X1_makeSheet (S 0) (S 7) z = v
  have e9 : gset (gset (m_X2_note S 0) 0 A') 7 T' 9 = S 9 := by rw [gset_ne (by decide), gset_ne (by decide)]; exact nt.2 9 (by omega)
  refine ⟨⟨nt.1, ⟨hn, m7⟩, settled_p (by rw [e9]; exact h.1) (by rw [e9]; exact h.2) v, trivial⟩, settled_v _ _, st_of h (by rw [gset_ne (by decide), gset_at]) (by rw [gset_ne (by decide), gset_ne (by decide)]; exact nt.2 10 (by omega)) (by rw [gset_ne (by decide), gset_ne (by decide)]; exact nt.2 8 (by omega)) e9⟩
theorem his_10 {S : hS} (h : HisI S) (M : hGM) : HisI (gset S 10 M) := by
  unfold HisI
  rw [gset_ne (by decide)]
  exact h

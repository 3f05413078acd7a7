section
variable {D : va_G} {ad : Nat → Nat → Nat} {cI cJ cF : ClassId}
set_option maxHeartbeats 4000000 in
set_option maxRecDepth 100000 in
theorem ok_X5_settled (l : Launch) (hinj : hInj ad) (S : hS) (answer : Int) (h_answer : hIn answer) (hp : p_X5_settled S answer) : hMi D ad cI cJ cF l yX5_settled cX5_settled 2 (some .int) ({ frames := 1, cells := 0, slots := 0, locals := 20 } : Room) [.ref (ad 11 0), .int (hI answer)] S (v_X5_settled S answer) (m_X5_settled S answer) := by
  refine hOf (S := S) l hinj (by decide +kernel) (Nat.le_of_ble_eq_true rfl) (fun p e s m args below meth c E => ?_)
  obtain ⟨hx, hb, hml, hown, hts, hK, hN, -, hr, hlk, hz⟩ := id E
  have hown : s.vm.findClass RX5 = some m.cls := hown
  intro H locs ls hh hl
  have hl : lv_has ls 2 [(0, .ref (ad 11 0)), (1, .int (hI answer))] := hl
  have h := hp
  unfold p_X5_settled at h
  refine lv_iload_n hx hb dX5_settled_0 rfl (lv_at hl 1 rfl) ?_
  refine iv_if_lt (tgt := 11) hx hb h_answer dX5_settled_1 (by decide) (fun c1 => ?_) (fun c1 => ?_)
  · have h := h.1 c1
    refine lv_iload_n hx hb dX5_settled_11 rfl (lv_at hl 1 rfl) ?_
    exact iv_iret E hh (by unfold v_X5_settled; rw [if_pos c1]) (by rw [← show answer = v_X5_settled S answer from (by unfold v_X5_settled; rw [if_pos c1])]; exact h_answer) (by unfold m_X5_settled; rw [if_pos c1]) dX5_settled_12
  · have h := h.2 c1
    refine lv_aload_n hx hb dX5_settled_4 rfl (lv_at hl 0 rfl) ?_
    refine iv_get (v' := .ref (ad 9 0)) hx hb hts inX5 hown hK hh.1 (ob_X) rfl 4 (by decide) (hts _ q1_186) rfl rfl rfl dX5_settled_5 ?_
    obtain ⟨g2, h⟩ := h
    refine iv_kv (iv_rV (As := []) (rest := []) E hh (ok_X2_keep l hinj S g2) cb_X2_keep q2_123 rfl rfl ⟨Nat.le_of_ble_eq_true rfl, Nat.le_of_ble_eq_true rfl⟩ (ob_Hist) rfl rfl rfl hl.1 rfl (Nat.le_of_ble_eq_true rfl) dX5_settled_8 ⟨Nat.zero_le _, Nat.zero_le _⟩) hh (fun H locs hh => ?_)
    refine lv_iload_n hx hb dX5_settled_11 rfl (lv_at hl 1 rfl) ?_
    exact iv_iret E hh (by unfold v_X5_settled; rw [if_neg c1]) (by rw [← show answer = v_X5_settled S answer from (by unfold v_X5_settled; rw [if_neg c1])]; exact h_answer) (by unfold m_X5_settled; rw [if_neg c1]) dX5_settled_12
set_option maxHeartbeats 4000000 in
set_option maxRecDepth 100000 in
theorem ok_X5_glyph (l : Launch) (hinj : hInj ad) (S : hS) (advance : Int) (h_advance : hIn advance) (hp : p_X5_glyph S advance) : hMi D ad cI cJ cF l yX5_glyph cX5_glyph 2 (some .int) ({ frames := 4, cells := 0, slots := 0, locals := 87 } : Room) [.ref (ad 11 0), .int (hI advance)] S (v_X5_glyph S advance) (m_X5_glyph S advance) := by
  refine hOf (S := S) l hinj (by decide +kernel) (Nat.le_of_ble_eq_true rfl) (fun p e s m args below meth c E => ?_)
  obtain ⟨hx, hb, hml, hown, hts, hK, hN, -, hr, hlk, hz⟩ := id E
  have hown : s.vm.findClass RX5 = some m.cls := hown
  intro H locs ls hh hl
  have hl : lv_has ls 2 [(0, .ref (ad 11 0)), (1, .int (hI advance))] := hl
  have h := hp
  unfold p_X5_glyph at h
  refine lv_aload_n hx hb dX5_glyph_0 rfl (lv_at hl 0 rfl) ?_
  refine iv_get (v' := .ref (ad 9 0)) hx hb hts inX5 hown hK hh.1 (ob_X) rfl 4 (by decide) (hts _ q1_186) rfl rfl rfl dX5_glyph_1 ?_
  refine lv_aload_n hx hb dX5_glyph_4 rfl (lv_at hl 0 rfl) ?_
  refine iv_get (v' := .ref (ad 0 0)) hx hb hts inX5 hown hK hh.1 (ob_X) rfl 0 (by decide) (hts _ q1_182) rfl rfl rfl dX5_glyph_5 ?_
  obtain ⟨g1, h⟩ := h
  refine iv_kv (iv_rV (As := [.ref (ad 0 0)]) (rest := []) E hh (ok_X2_note l hinj S (by decide) g1) cb_X2_note q2_88 rfl rfl ⟨Nat.le_of_ble_eq_true rfl, Nat.le_of_ble_eq_true rfl⟩ (ob_Hist) rfl rfl rfl hl.1 rfl (Nat.le_of_ble_eq_true rfl) dX5_glyph_8 ⟨Nat.zero_le _, Nat.zero_le _⟩) hh (fun H locs hh => ?_)
  refine lv_aload_n hx hb dX5_glyph_11 rfl (lv_at hl 0 rfl) ?_
  refine lv_aload_n hx hb dX5_glyph_12 rfl (lv_at hl 0 rfl) ?_
  refine iv_get (v' := .ref (ad 0 0)) hx hb hts inX5 hown hK hh.1 (ob_X) rfl 0 (by decide) (hts _ q1_182) rfl rfl rfl dX5_glyph_13 ?_
  refine lv_iload_n hx hb dX5_glyph_16 rfl (lv_at hl 1 rfl) ?_
  obtain ⟨g2, h⟩ := h
  refine iv_ki (iv_rV (As := [.int (hI advance)]) (rest := [.ref (ad 11 0)]) E hh (ok_X1_addGlyph l hinj (m_X2_note S 0) (by decide) ((m_X2_note S 0) 0) rfl advance h_advance g2) cb_X1_addGlyph q2_111 rfl rfl ⟨Nat.le_of_ble_eq_true rfl, Nat.le_of_ble_eq_true rfl⟩ (ob_Font (by decide)) rfl rfl rfl hl.1 rfl (Nat.le_of_ble_eq_true rfl) dX5_glyph_17 ⟨Nat.zero_le _, Nat.zero_le _⟩) hh (fun hc3 H locs hh => ?_)
  obtain ⟨g4, h⟩ := h
  refine iv_ki (iv_rV (As := [.int (hI (v_X1_addGlyph ((m_X2_note S 0) 0) advance))]) (rest := []) E hh (ok_X5_settled l hinj (gset (m_X2_note S 0) 0 (m_X1_addGlyph ((m_X2_note S 0) 0) advance)) (v_X1_addGlyph ((m_X2_note S 0) 0) advance) hc3 g4) cb_X5_settled q2_119 rfl rfl ⟨Nat.le_of_ble_eq_true rfl, Nat.le_of_ble_eq_true rfl⟩ (ob_X) rfl rfl rfl hl.1 rfl (Nat.le_of_ble_eq_true rfl) dX5_glyph_20 ⟨Nat.zero_le _, Nat.zero_le _⟩) hh (fun hc5 H locs hh => ?_)
  exact iv_iret E hh rfl (by rw [← show (v_X5_settled (gset (m_X2_note S 0) 0 (m_X1_addGlyph ((m_X2_note S 0) 0) advance)) (v_X1_addGlyph ((m_X2_note S 0) 0) advance)) = v_X5_glyph S advance from rfl]; exact hc5) rfl dX5_glyph_23
set_option maxHeartbeats 4000000 in
set_option maxRecDepth 100000 in
theorem ok_X5_stem (l : Launch) (hinj : hInj ad) (S : hS) (glyph : Int) (place : Int) (width : Int) (h_glyph : hIn glyph) (h_place : hIn place) (h_width : hIn width) (hp : p_X5_stem S glyph place width) : hMi D ad cI cJ cF l yX5_stem cX5_stem 4 (some .int) ({ frames := 4, cells := 0, slots := 0, locals := 96 } : Room) [.ref (ad 11 0), .int (hI glyph), .int (hI place), .int (hI width)] S (v_X5_stem S glyph place width) (m_X5_stem S glyph place width) := by
  refine hOf (S := S) l hinj (by decide +kernel) (Nat.le_of_ble_eq_true rfl) (fun p e s m args below meth c E => ?_)
  obtain ⟨hx, hb, hml, hown, hts, hK, hN, -, hr, hlk, hz⟩ := id E
  have hown : s.vm.findClass RX5 = some m.cls := hown
  intro H locs ls hh hl
  have hl : lv_has ls 4 [(0, .ref (ad 11 0)), (1, .int (hI glyph)), (2, .int (hI place)), (3, .int (hI width))] := hl
  have h := hp
  unfold p_X5_stem at h
  refine lv_aload_n hx hb dX5_stem_0 rfl (lv_at hl 0 rfl) ?_
  refine iv_get (v' := .ref (ad 9 0)) hx hb hts inX5 hown hK hh.1 (ob_X) rfl 4 (by decide) (hts _ q1_186) rfl rfl rfl dX5_stem_1 ?_
  refine lv_aload_n hx hb dX5_stem_4 rfl (lv_at hl 0 rfl) ?_
  refine iv_get (v' := .ref (ad 0 0)) hx hb hts inX5 hown hK hh.1 (ob_X) rfl 0 (by decide) (hts _ q1_182) rfl rfl rfl dX5_stem_5 ?_
  obtain ⟨g1, h⟩ := h
  refine iv_kv (iv_rV (As := [.ref (ad 0 0)]) (rest := []) E hh (ok_X2_note l hinj S (by decide) g1) cb_X2_note q2_88 rfl rfl ⟨Nat.le_of_ble_eq_true rfl, Nat.le_of_ble_eq_true rfl⟩ (ob_Hist) rfl rfl rfl hl.1 rfl (Nat.le_of_ble_eq_true rfl) dX5_stem_8 ⟨Nat.zero_le _, Nat.zero_le _⟩) hh (fun H locs hh => ?_)
  refine lv_aload_n hx hb dX5_stem_11 rfl (lv_at hl 0 rfl) ?_
  refine lv_aload_n hx hb dX5_stem_12 rfl (lv_at hl 0 rfl) ?_
  refine iv_get (v' := .ref (ad 0 0)) hx hb hts inX5 hown hK hh.1 (ob_X) rfl 0 (by decide) (hts _ q1_182) rfl rfl rfl dX5_stem_13 ?_
  refine lv_iload_n hx hb dX5_stem_16 rfl (lv_at hl 1 rfl) ?_
  refine lv_iload_n hx hb dX5_stem_17 rfl (lv_at hl 2 rfl) ?_
  refine lv_iload_n hx hb dX5_stem_18 rfl (lv_at hl 3 rfl) ?_
  obtain ⟨g2, h⟩ := h
  refine iv_ki (iv_rV (As := [.int (hI glyph), .int (hI place), .int (hI width)]) (rest := [.ref (ad 11 0)]) E hh (ok_X1_addStem l hinj (m_X2_note S 0) (by decide) ((m_X2_note S 0) 0) rfl glyph place width h_glyph h_place h_width g2) cb_X1_addStem q2_135 rfl rfl ⟨Nat.le_of_ble_eq_true rfl, Nat.le_of_ble_eq_true rfl⟩ (ob_Font (by decide)) rfl rfl rfl hl.1 rfl (Nat.le_of_ble_eq_true rfl) dX5_stem_19 ⟨Nat.zero_le _, Nat.zero_le _⟩) hh (fun hc3 H locs hh => ?_)
  obtain ⟨g4, h⟩ := h
  refine iv_ki (iv_rV (As := [.int (hI (v_X1_addStem ((m_X2_note S 0) 0) glyph place width))]) (rest := []) E hh (ok_X5_settled l hinj (gset (m_X2_note S 0) 0 (m_X1_addStem ((m_X2_note S 0) 0) glyph place width)) (v_X1_addStem ((m_X2_note S 0) 0) glyph place width) hc3 g4) cb_X5_settled q2_119 rfl rfl ⟨Nat.le_of_ble_eq_true rfl, Nat.le_of_ble_eq_true rfl⟩ (ob_X) rfl rfl rfl hl.1 rfl (Nat.le_of_ble_eq_true rfl) dX5_stem_22 ⟨Nat.zero_le _, Nat.zero_le _⟩) hh (fun hc5 H locs hh => ?_)
  exact iv_iret E hh rfl (by rw [← show (v_X5_settled (gset (m_X2_note S 0) 0 (m_X1_addStem ((m_X2_note S 0) 0) glyph place width)) (v_X1_addStem ((m_X2_note S 0) 0) glyph place width)) = v_X5_stem S glyph place width from rfl]; exact hc5) rfl dX5_stem_25
set_option maxHeartbeats 4000000 in
set_option maxRecDepth 100000 in
theorem ok_X5_cut (l : Launch) (hinj : hInj ad) (S : hS) (glyph : Int) (stem : Int) (h_glyph : hIn glyph) (h_stem : hIn stem) (hp : p_X5_cut S glyph stem) : hMi D ad cI cJ cF l yX5_cut cX5_cut 3 (some .int) ({ frames := 4, cells := 0, slots := 0, locals := 93 } : Room) [.ref (ad 11 0), .int (hI glyph), .int (hI stem)] S (v_X5_cut S glyph stem) (m_X5_cut S glyph stem) := by
  refine hOf (S := S) l hinj (by decide +kernel) (Nat.le_of_ble_eq_true rfl) (fun p e s m args below meth c E => ?_)
  obtain ⟨hx, hb, hml, hown, hts, hK, hN, -, hr, hlk, hz⟩ := id E
  have hown : s.vm.findClass RX5 = some m.cls := hown
  intro H locs ls hh hl
  have hl : lv_has ls 3 [(0, .ref (ad 11 0)), (1, .int (hI glyph)), (2, .int (hI stem))] := hl
  have h := hp
  unfold p_X5_cut at h
  refine lv_aload_n hx hb dX5_cut_0 rfl (lv_at hl 0 rfl) ?_
  refine iv_get (v' := .ref (ad 9 0)) hx hb hts inX5 hown hK hh.1 (ob_X) rfl 4 (by decide) (hts _ q1_186) rfl rfl rfl dX5_cut_1 ?_
  refine lv_aload_n hx hb dX5_cut_4 rfl (lv_at hl 0 rfl) ?_
  refine iv_get (v' := .ref (ad 0 0)) hx hb hts inX5 hown hK hh.1 (ob_X) rfl 0 (by decide) (hts _ q1_182) rfl rfl rfl dX5_cut_5 ?_
  obtain ⟨g1, h⟩ := h
  refine iv_kv (iv_rV (As := [.ref (ad 0 0)]) (rest := []) E hh (ok_X2_note l hinj S (by decide) g1) cb_X2_note q2_88 rfl rfl ⟨Nat.le_of_ble_eq_true rfl, Nat.le_of_ble_eq_true rfl⟩ (ob_Hist) rfl rfl rfl hl.1 rfl (Nat.le_of_ble_eq_true rfl) dX5_cut_8 ⟨Nat.zero_le _, Nat.zero_le _⟩) hh (fun H locs hh => ?_)
  refine lv_aload_n hx hb dX5_cut_11 rfl (lv_at hl 0 rfl) ?_
  refine lv_aload_n hx hb dX5_cut_12 rfl (lv_at hl 0 rfl) ?_
  refine iv_get (v' := .ref (ad 0 0)) hx hb hts inX5 hown hK hh.1 (ob_X) rfl 0 (by decide) (hts _ q1_182) rfl rfl rfl dX5_cut_13 ?_
  refine lv_iload_n hx hb dX5_cut_16 rfl (lv_at hl 1 rfl) ?_
  refine lv_iload_n hx hb dX5_cut_17 rfl (lv_at hl 2 rfl) ?_
  obtain ⟨g2, h⟩ := h
  refine iv_ki (iv_rV (As := [.int (hI glyph), .int (hI stem)]) (rest := [.ref (ad 11 0)]) E hh (ok_X1_cutStem l hinj (m_X2_note S 0) (by decide) ((m_X2_note S 0) 0) rfl glyph stem h_glyph h_stem g2) cb_X1_cutStem q2_158 rfl rfl ⟨Nat.le_of_ble_eq_true rfl, Nat.le_of_ble_eq_true rfl⟩ (ob_Font (by decide)) rfl rfl rfl hl.1 rfl (Nat.le_of_ble_eq_true rfl) dX5_cut_18 ⟨Nat.zero_le _, Nat.zero_le _⟩) hh (fun hc3 H locs hh => ?_)
  obtain ⟨g4, h⟩ := h
  refine iv_ki (iv_rV (As := [.int (hI (v_X1_cutStem ((m_X2_note S 0) 0) glyph stem))]) (rest := []) E hh (ok_X5_settled l hinj (gset (m_X2_note S 0) 0 (m_X1_cutStem ((m_X2_note S 0) 0) glyph stem)) (v_X1_cutStem ((m_X2_note S 0) 0) glyph stem) hc3 g4) cb_X5_settled q2_119 rfl rfl ⟨Nat.le_of_ble_eq_true rfl, Nat.le_of_ble_eq_true rfl⟩ (ob_X) rfl rfl rfl hl.1 rfl (Nat.le_of_ble_eq_true rfl) dX5_cut_21 ⟨Nat.zero_le _, Nat.zero_le _⟩) hh (fun hc5 H locs hh => ?_)
  exact iv_iret E hh rfl (by rw [← show (v_X5_settled (gset (m_X2_note S 0) 0 (m_X1_cutStem ((m_X2_note S 0) 0) glyph stem)) (v_X1_cutStem ((m_X2_note S 0) 0) glyph stem)) = v_X5_cut S glyph stem from rfl]; exact hc5) rfl dX5_cut_24
set_option maxHeartbeats 4000000 in
set_option maxRecDepth 100000 in
theorem ok_X5_hint (l : Launch) (hinj : hInj ad) (S : hS) (glyph : Int) (stem : Int) (hint : Int) (h_glyph : hIn glyph) (h_stem : hIn stem) (h_hint : hIn hint) (hp : p_X5_hint S glyph stem hint) : hMi D ad cI cJ cF l yX5_hint cX5_hint 4 (some .int) ({ frames := 4, cells := 0, slots := 0, locals := 90 } : Room) [.ref (ad 11 0), .int (hI glyph), .int (hI stem), .int (hI hint)] S (v_X5_hint S glyph stem hint) (m_X5_hint S glyph stem hint) := by
  refine hOf (S := S) l hinj (by decide +kernel) (Nat.le_of_ble_eq_true rfl) (fun p e s m args below meth c E => ?_)
  obtain ⟨hx, hb, hml, hown, hts, hK, hN, -, hr, hlk, hz⟩ := id E
  have hown : s.vm.findClass RX5 = some m.cls := hown
  intro H locs ls hh hl
  have hl : lv_has ls 4 [(0, .ref (ad 11 0)), (1, .int (hI glyph)), (2, .int (hI stem)), (3, .int (hI hint))] := hl
  have h := hp
  unfold p_X5_hint at h
  refine lv_aload_n hx hb dX5_hint_0 rfl (lv_at hl 0 rfl) ?_
  refine iv_get (v' := .ref (ad 9 0)) hx hb hts inX5 hown hK hh.1 (ob_X) rfl 4 (by decide) (hts _ q1_186) rfl rfl rfl dX5_hint_1 ?_
  refine lv_aload_n hx hb dX5_hint_4 rfl (lv_at hl 0 rfl) ?_
  refine iv_get (v' := .ref (ad 0 0)) hx hb hts inX5 hown hK hh.1 (ob_X) rfl 0 (by decide) (hts _ q1_182) rfl rfl rfl dX5_hint_5 ?_
  obtain ⟨g1, h⟩ := h
  refine iv_kv (iv_rV (As := [.ref (ad 0 0)]) (rest := []) E hh (ok_X2_note l hinj S (by decide) g1) cb_X2_note q2_88 rfl rfl ⟨Nat.le_of_ble_eq_true rfl, Nat.le_of_ble_eq_true rfl⟩ (ob_Hist) rfl rfl rfl hl.1 rfl (Nat.le_of_ble_eq_true rfl) dX5_hint_8 ⟨Nat.zero_le _, Nat.zero_le _⟩) hh (fun H locs hh => ?_)
  refine lv_aload_n hx hb dX5_hint_11 rfl (lv_at hl 0 rfl) ?_
  refine lv_aload_n hx hb dX5_hint_12 rfl (lv_at hl 0 rfl) ?_
  refine iv_get (v' := .ref (ad 0 0)) hx hb hts inX5 hown hK hh.1 (ob_X) rfl 0 (by decide) (hts _ q1_182) rfl rfl rfl dX5_hint_13 ?_
  refine lv_iload_n hx hb dX5_hint_16 rfl (lv_at hl 1 rfl) ?_
  refine lv_iload_n hx hb dX5_hint_17 rfl (lv_at hl 2 rfl) ?_
  refine lv_iload_n hx hb dX5_hint_18 rfl (lv_at hl 3 rfl) ?_
  obtain ⟨g2, h⟩ := h
  refine iv_ki (iv_rV (As := [.int (hI glyph), .int (hI stem), .int (hI hint)]) (rest := [.ref (ad 11 0)]) E hh (ok_X1_hintStem l hinj (m_X2_note S 0) (by decide) ((m_X2_note S 0) 0) rfl glyph stem hint h_glyph h_stem h_hint g2) cb_X1_hintStem q2_170 rfl rfl ⟨Nat.le_of_ble_eq_true rfl, Nat.le_of_ble_eq_true rfl⟩ (ob_Font (by decide)) rfl rfl rfl hl.1 rfl (Nat.le_of_ble_eq_true rfl) dX5_hint_19 ⟨Nat.zero_le _, Nat.zero_le _⟩) hh (fun hc3 H locs hh => ?_)
  obtain ⟨g4, h⟩ := h
  refine iv_ki (iv_rV (As := [.int (hI (v_X1_hintStem ((m_X2_note S 0) 0) glyph stem hint))]) (rest := []) E hh (ok_X5_settled l hinj (gset (m_X2_note S 0) 0 (m_X1_hintStem ((m_X2_note S 0) 0) glyph stem hint)) (v_X1_hintStem ((m_X2_note S 0) 0) glyph stem hint) hc3 g4) cb_X5_settled q2_119 rfl rfl ⟨Nat.le_of_ble_eq_true rfl, Nat.le_of_ble_eq_true rfl⟩ (ob_X) rfl rfl rfl hl.1 rfl (Nat.le_of_ble_eq_true rfl) dX5_hint_22 ⟨Nat.zero_le _, Nat.zero_le _⟩) hh (fun hc5 H locs hh => ?_)
  exact iv_iret E hh rfl (by rw [← show (v_X5_settled (gset (m_X2_note S 0) 0 (m_X1_hintStem ((m_X2_note S 0) 0) glyph stem hint)) (v_X1_hintStem ((m_X2_note S 0) 0) glyph stem hint)) = v_X5_hint S glyph stem hint from rfl]; exact hc5) rfl dX5_hint_25
set_option maxHeartbeats 4000000 in
set_option maxRecDepth 100000 in
theorem ok_X5_standard (l : Launch) (hinj : hInj ad) (S : hS) (width : Int) (h_width : hIn width) (hp : p_X5_standard S width) : hMi D ad cI cJ cF l yX5_standard cX5_standard 2 (some .int) ({ frames := 4, cells := 0, slots := 0, locals := 91 } : Room) [.ref (ad 11 0), .int (hI width)] S (v_X5_standard S width) (m_X5_standard S width) := by
  refine hOf (S := S) l hinj (by decide +kernel) (Nat.le_of_ble_eq_true rfl) (fun p e s m args below meth c E => ?_)
  obtain ⟨hx, hb, hml, hown, hts, hK, hN, -, hr, hlk, hz⟩ := id E
  have hown : s.vm.findClass RX5 = some m.cls := hown
  intro H locs ls hh hl
  have hl : lv_has ls 2 [(0, .ref (ad 11 0)), (1, .int (hI width))] := hl
  have h := hp
  unfold p_X5_standard at h
  refine lv_aload_n hx hb dX5_standard_0 rfl (lv_at hl 0 rfl) ?_
  refine iv_get (v' := .ref (ad 9 0)) hx hb hts inX5 hown hK hh.1 (ob_X) rfl 4 (by decide) (hts _ q1_186) rfl rfl rfl dX5_standard_1 ?_
  refine lv_aload_n hx hb dX5_standard_4 rfl (lv_at hl 0 rfl) ?_
  refine iv_get (v' := .ref (ad 0 0)) hx hb hts inX5 hown hK hh.1 (ob_X) rfl 0 (by decide) (hts _ q1_182) rfl rfl rfl dX5_standard_5 ?_
  obtain ⟨g1, h⟩ := h
  refine iv_kv (iv_rV (As := [.ref (ad 0 0)]) (rest := []) E hh (ok_X2_note l hinj S (by decide) g1) cb_X2_note q2_88 rfl rfl ⟨Nat.le_of_ble_eq_true rfl, Nat.le_of_ble_eq_true rfl⟩ (ob_Hist) rfl rfl rfl hl.1 rfl (Nat.le_of_ble_eq_true rfl) dX5_standard_8 ⟨Nat.zero_le _, Nat.zero_le _⟩) hh (fun H locs hh => ?_)
  refine lv_aload_n hx hb dX5_standard_11 rfl (lv_at hl 0 rfl) ?_
  refine lv_aload_n hx hb dX5_standard_12 rfl (lv_at hl 0 rfl) ?_
  refine iv_get (v' := .ref (ad 0 0)) hx hb hts inX5 hown hK hh.1 (ob_X) rfl 0 (by decide) (hts _ q1_182) rfl rfl rfl dX5_standard_13 ?_
  refine lv_iload_n hx hb dX5_standard_16 rfl (lv_at hl 1 rfl) ?_
  obtain ⟨g2, h⟩ := h
  refine iv_ki (iv_rV (As := [.int (hI width)]) (rest := [.ref (ad 11 0)]) E hh (ok_X1_addStandard l hinj (m_X2_note S 0) (by decide) ((m_X2_note S 0) 0) rfl width h_width g2) cb_X1_addStandard q2_182 rfl rfl ⟨Nat.le_of_ble_eq_true rfl, Nat.le_of_ble_eq_true rfl⟩ (ob_Font (by decide)) rfl rfl rfl hl.1 rfl (Nat.le_of_ble_eq_true rfl) dX5_standard_17 ⟨Nat.zero_le _, Nat.zero_le _⟩) hh (fun hc3 H locs hh => ?_)
  obtain ⟨g4, h⟩ := h
  refine iv_ki (iv_rV (As := [.int (hI (v_X1_addStandard ((m_X2_note S 0) 0) width))]) (rest := []) E hh (ok_X5_settled l hinj (gset (m_X2_note S 0) 0 (m_X1_addStandard ((m_X2_note S 0) 0) width)) (v_X1_addStandard ((m_X2_note S 0) 0) width) hc3 g4) cb_X5_settled q2_119 rfl rfl ⟨Nat.le_of_ble_eq_true rfl, Nat.le_of_ble_eq_true rfl⟩ (ob_X) rfl rfl rfl hl.1 rfl (Nat.le_of_ble_eq_true rfl) dX5_standard_20 ⟨Nat.zero_le _, Nat.zero_le _⟩) hh (fun hc5 H locs hh => ?_)
  exact iv_iret E hh rfl (by rw [← show (v_X5_settled (gset (m_X2_note S 0) 0 (m_X1_addStandard ((m_X2_note S 0) 0) width)) (v_X1_addStandard ((m_X2_note S 0) 0) width)) = v_X5_standard S width from rfl]; exact hc5) rfl dX5_standard_23
set_option maxHeartbeats 4000000 in
set_option maxRecDepth 100000 in
theorem ok_X5_drop (l : Launch) (hinj : hInj ad) (S : hS) (width : Int) (h_width : hIn width) (hp : p_X5_drop S width) : hMi D ad cI cJ cF l yX5_drop cX5_drop 2 (some .int) ({ frames := 4, cells := 0, slots := 0, locals := 87 } : Room) [.ref (ad 11 0), .int (hI width)] S (v_X5_drop S width) (m_X5_drop S width) := by
  refine hOf (S := S) l hinj (by decide +kernel) (Nat.le_of_ble_eq_true rfl) (fun p e s m args below meth c E => ?_)
  obtain ⟨hx, hb, hml, hown, hts, hK, hN, -, hr, hlk, hz⟩ := id E
  have hown : s.vm.findClass RX5 = some m.cls := hown
  intro H locs ls hh hl
  have hl : lv_has ls 2 [(0, .ref (ad 11 0)), (1, .int (hI width))] := hl
  have h := hp
  unfold p_X5_drop at h
  refine lv_aload_n hx hb dX5_drop_0 rfl (lv_at hl 0 rfl) ?_
  refine iv_get (v' := .ref (ad 9 0)) hx hb hts inX5 hown hK hh.1 (ob_X) rfl 4 (by decide) (hts _ q1_186) rfl rfl rfl dX5_drop_1 ?_
  refine lv_aload_n hx hb dX5_drop_4 rfl (lv_at hl 0 rfl) ?_
  refine iv_get (v' := .ref (ad 0 0)) hx hb hts inX5 hown hK hh.1 (ob_X) rfl 0 (by decide) (hts _ q1_182) rfl rfl rfl dX5_drop_5 ?_
  obtain ⟨g1, h⟩ := h
  refine iv_kv (iv_rV (As := [.ref (ad 0 0)]) (rest := []) E hh (ok_X2_note l hinj S (by decide) g1) cb_X2_note q2_88 rfl rfl ⟨Nat.le_of_ble_eq_true rfl, Nat.le_of_ble_eq_true rfl⟩ (ob_Hist) rfl rfl rfl hl.1 rfl (Nat.le_of_ble_eq_true rfl) dX5_drop_8 ⟨Nat.zero_le _, Nat.zero_le _⟩) hh (fun H locs hh => ?_)
  refine lv_aload_n hx hb dX5_drop_11 rfl (lv_at hl 0 rfl) ?_
  refine lv_aload_n hx hb dX5_drop_12 rfl (lv_at hl 0 rfl) ?_
  refine iv_get (v' := .ref (ad 0 0)) hx hb hts inX5 hown hK hh.1 (ob_X) rfl 0 (by decide) (hts _ q1_182) rfl rfl rfl dX5_drop_13 ?_
  refine lv_iload_n hx hb dX5_drop_16 rfl (lv_at hl 1 rfl) ?_
  obtain ⟨g2, h⟩ := h
  refine iv_ki (iv_rV (As := [.int (hI width)]) (rest := [.ref (ad 11 0)]) E hh (ok_X1_dropStandard l hinj (m_X2_note S 0) (by decide) ((m_X2_note S 0) 0) rfl width h_width g2) cb_X1_dropStandard q2_204 rfl rfl ⟨Nat.le_of_ble_eq_true rfl, Nat.le_of_ble_eq_true rfl⟩ (ob_Font (by decide)) rfl rfl rfl hl.1 rfl (Nat.le_of_ble_eq_true rfl) dX5_drop_17 ⟨Nat.zero_le _, Nat.zero_le _⟩) hh (fun hc3 H locs hh => ?_)
  obtain ⟨g4, h⟩ := h
  refine iv_ki (iv_rV (As := [.int (hI (v_X1_dropStandard ((m_X2_note S 0) 0) width))]) (rest := []) E hh (ok_X5_settled l hinj (gset (m_X2_note S 0) 0 (m_X1_dropStandard ((m_X2_note S 0) 0) width)) (v_X1_dropStandard ((m_X2_note S 0) 0) width) hc3 g4) cb_X5_settled q2_119 rfl rfl ⟨Nat.le_of_ble_eq_true rfl, Nat.le_of_ble_eq_true rfl⟩ (ob_X) rfl rfl rfl hl.1 rfl (Nat.le_of_ble_eq_true rfl) dX5_drop_20 ⟨Nat.zero_le _, Nat.zero_le _⟩) hh (fun hc5 H locs hh => ?_)
  exact iv_iret E hh rfl (by rw [← show (v_X5_settled (gset (m_X2_note S 0) 0 (m_X1_dropStandard ((m_X2_note S 0) 0) width)) (v_X1_dropStandard ((m_X2_note S 0) 0) width)) = v_X5_drop S width from rfl]; exact hc5) rfl dX5_drop_23
set_option maxHeartbeats 4000000 in
set_option maxRecDepth 100000 in
theorem ok_X5_make (l : Launch) (hinj : hInj ad) (S : hS) (size : Int) (h_size : hIn size) (hp : p_X5_make S size) : hMi D ad cI cJ cF l yX5_make cX5_make 2 (some .int) ({ frames := 5, cells := 0, slots := 0, locals := 125 } : Room) [.ref (ad 11 0), .int (hI size)] S (v_X5_make S size) (m_X5_make S size) := by
  refine hOf (S := S) l hinj (by decide +kernel) (Nat.le_of_ble_eq_true rfl) (fun p e s m args below meth c E => ?_)
  obtain ⟨hx, hb, hml, hown, hts, hK, hN, -, hr, hlk, hz⟩ := id E
  have hown : s.vm.findClass RX5 = some m.cls := hown
  intro H locs ls hh hl
  have hl : lv_has ls 2 [(0, .ref (ad 11 0)), (1, .int (hI size))] := hl
  have h := hp
  unfold p_X5_make at h
  refine lv_aload_n hx hb dX5_make_0 rfl (lv_at hl 0 rfl) ?_
  refine iv_get (v' := .ref (ad 9 0)) hx hb hts inX5 hown hK hh.1 (ob_X) rfl 4 (by decide) (hts _ q1_186) rfl rfl rfl dX5_make_1 ?_
  refine lv_aload_n hx hb dX5_make_4 rfl (lv_at hl 0 rfl) ?_
  refine iv_get (v' := .ref (ad 0 0)) hx hb hts inX5 hown hK hh.1 (ob_X) rfl 0 (by decide) (hts _ q1_182) rfl rfl rfl dX5_make_5 ?_
  obtain ⟨g1, h⟩ := h
  refine iv_kv (iv_rV (As := [.ref (ad 0 0)]) (rest := []) E hh (ok_X2_note l hinj S (by decide) g1) cb_X2_note q2_88 rfl rfl ⟨Nat.le_of_ble_eq_true rfl, Nat.le_of_ble_eq_true rfl⟩ (ob_Hist) rfl rfl rfl hl.1 rfl (Nat.le_of_ble_eq_true rfl) dX5_make_8 ⟨Nat.zero_le _, Nat.zero_le _⟩) hh (fun H locs hh => ?_)
  refine lv_aload_n hx hb dX5_make_11 rfl (lv_at hl 0 rfl) ?_
  refine lv_aload_n hx hb dX5_make_12 rfl (lv_at hl 0 rfl) ?_
  refine iv_get (v' := .ref (ad 0 0)) hx hb hts inX5 hown hK hh.1 (ob_X) rfl 0 (by decide) (hts _ q1_182) rfl rfl rfl dX5_make_13 ?_
  refine lv_iload_n hx hb dX5_make_16 rfl (lv_at hl 1 rfl) ?_
  refine lv_aload_n hx hb dX5_make_17 rfl (lv_at hl 0 rfl) ?_
  refine iv_get (v' := .ref (ad 7 0)) hx hb hts inX5 hown hK hh.1 (ob_X) rfl 2 (by decide) (hts _ q1_184) rfl rfl rfl dX5_make_18 ?_
  obtain ⟨g2, h⟩ := h
  refine iv_ki (iv_rV (As := [.int (hI size), .ref (ad 7 0)]) (rest := [.ref (ad 11 0)]) E hh (ok_X1_makeSheet l hinj (m_X2_note S 0) (by decide) ((m_X2_note S 0) 0) rfl ((m_X2_note S 0) 7) rfl size h_size g2) cb_X1_makeSheet q2_233 rfl rfl ⟨Nat.le_of_ble_eq_true rfl, Nat.le_of_ble_eq_true rfl⟩ (ob_Font (by decide)) rfl rfl rfl hl.1 rfl (Nat.le_of_ble_eq_true rfl) dX5_make_21 ⟨Nat.zero_le _, Nat.zero_le _⟩) hh (fun hc3 H locs hh => ?_)
  obtain ⟨g4, h⟩ := h
  refine iv_ki (iv_rV (As := [.int (hI (v_X1_makeSheet ((m_X2_note S 0) 0) ((m_X2_note S 0) 7) size))]) (rest := []) E hh (ok_X5_settled l hinj (gset (gset (m_X2_note S 0) 0 (mA_X1_makeSheet ((m_X2_note S 0) 0) ((m_X2_note S 0) 7) size)) 7 (mT_X1_makeSheet ((m_X2_note S 0) 0) ((m_X2_note S 0) 7) size)) (v_X1_makeSheet ((m_X2_note S 0) 0) ((m_X2_note S 0) 7) size) hc3 g4) cb_X5_settled q2_119 rfl rfl ⟨Nat.le_of_ble_eq_true rfl, Nat.le_of_ble_eq_true rfl⟩ (ob_X) rfl rfl rfl hl.1 rfl (Nat.le_of_ble_eq_true rfl) dX5_make_24 ⟨Nat.zero_le _, Nat.zero_le _⟩) hh (fun hc5 H locs hh => ?_)
  exact iv_iret E hh rfl (by rw [← show (v_X5_settled (gset (gset (m_X2_note S 0) 0 (mA_X1_makeSheet ((m_X2_note S 0) 0) ((m_X2_note S 0) 7) size)) 7 (mT_X1_makeSheet ((m_X2_note S 0) 0) ((m_X2_note S 0) 7) size)) (v_X1_makeSheet ((m_X2_note S 0) 0) ((m_X2_note S 0) 7) size)) = v_X5_make S size from rfl]; exact hc5) rfl dX5_make_27
set_option maxHeartbeats 4000000 in
set_option maxRecDepth 100000 in
theorem ok_X5_set (l : Launch) (hinj : hInj ad) (S : hS) (what : Int) (value : Int) (h_what : hIn what) (h_value : hIn value) (hp : p_X5_set S what value) : hMi D ad cI cJ cF l yX5_set cX5_set 3 (some .int) ({ frames := 4, cells := 0, slots := 0, locals := 87 } : Room) [.ref (ad 11 0), .int (hI what), .int (hI value)] S (v_X5_set S what value) (m_X5_set S what value) := by
  refine hOf (S := S) l hinj (by decide +kernel) (Nat.le_of_ble_eq_true rfl) (fun p e s m args below meth c E => ?_)
  obtain ⟨hx, hb, hml, hown, hts, hK, hN, -, hr, hlk, hz⟩ := id E
  have hown : s.vm.findClass RX5 = some m.cls := hown
  intro H locs ls hh hl
  have hl : lv_has ls 3 [(0, .ref (ad 11 0)), (1, .int (hI what)), (2, .int (hI value))] := hl
  have h := hp
  unfold p_X5_set at h
  refine lv_aload_n hx hb dX5_set_0 rfl (lv_at hl 0 rfl) ?_
  refine iv_get (v' := .ref (ad 9 0)) hx hb hts inX5 hown hK hh.1 (ob_X) rfl 4 (by decide) (hts _ q1_186) rfl rfl rfl dX5_set_1 ?_
  refine lv_aload_n hx hb dX5_set_4 rfl (lv_at hl 0 rfl) ?_
  refine iv_get (v' := .ref (ad 0 0)) hx hb hts inX5 hown hK hh.1 (ob_X) rfl 0 (by decide) (hts _ q1_182) rfl rfl rfl dX5_set_5 ?_
  obtain ⟨g1, h⟩ := h
  refine iv_kv (iv_rV (As := [.ref (ad 0 0)]) (rest := []) E hh (ok_X2_note l hinj S (by decide) g1) cb_X2_note q2_88 rfl rfl ⟨Nat.le_of_ble_eq_true rfl, Nat.le_of_ble_eq_true rfl⟩ (ob_Hist) rfl rfl rfl hl.1 rfl (Nat.le_of_ble_eq_true rfl) dX5_set_8 ⟨Nat.zero_le _, Nat.zero_le _⟩) hh (fun H locs hh => ?_)
  refine lv_aload_n hx hb dX5_set_11 rfl (lv_at hl 0 rfl) ?_
  refine lv_aload_n hx hb dX5_set_12 rfl (lv_at hl 0 rfl) ?_
  refine iv_get (v' := .ref (ad 0 0)) hx hb hts inX5 hown hK hh.1 (ob_X) rfl 0 (by decide) (hts _ q1_182) rfl rfl rfl dX5_set_13 ?_
  refine lv_iload_n hx hb dX5_set_16 rfl (lv_at hl 1 rfl) ?_
  refine lv_iload_n hx hb dX5_set_17 rfl (lv_at hl 2 rfl) ?_
  refine iv_ki (iv_rV (As := [.int (hI what), .int (hI value)]) (rest := [.ref (ad 11 0)]) E hh (ok_X1_changeSetting l hinj (m_X2_note S 0) (by decide) ((m_X2_note S 0) 0) rfl what value h_what h_value) cb_X1_changeSetting q3_17 rfl rfl ⟨Nat.le_of_ble_eq_true rfl, Nat.le_of_ble_eq_true rfl⟩ (ob_Font (by decide)) rfl rfl rfl hl.1 rfl (Nat.le_of_ble_eq_true rfl) dX5_set_18 ⟨Nat.zero_le _, Nat.zero_le _⟩) hh (fun hc2 H locs hh => ?_)
  obtain ⟨g3, h⟩ := h
  refine iv_ki (iv_rV (As := [.int (hI (v_X1_changeSetting ((m_X2_note S 0) 0) what value))]) (rest := []) E hh (ok_X5_settled l hinj (gset (m_X2_note S 0) 0 (m_X1_changeSetting ((m_X2_note S 0) 0) what value)) (v_X1_changeSetting ((m_X2_note S 0) 0) what value) hc2 g3) cb_X5_settled q2_119 rfl rfl ⟨Nat.le_of_ble_eq_true rfl, Nat.le_of_ble_eq_true rfl⟩ (ob_X) rfl rfl rfl hl.1 rfl (Nat.le_of_ble_eq_true rfl) dX5_set_21 ⟨Nat.zero_le _, Nat.zero_le _⟩) hh (fun hc4 H locs hh => ?_)
  exact iv_iret E hh rfl (by rw [← show (v_X5_settled (gset (m_X2_note S 0) 0 (m_X1_changeSetting ((m_X2_note S 0) 0) what value)) (v_X1_changeSetting ((m_X2_note S 0) 0) what value)) = v_X5_set S what value from rfl]; exact hc4) rfl dX5_set_24
end

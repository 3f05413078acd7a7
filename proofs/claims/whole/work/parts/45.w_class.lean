section
variable {D : va_G} {ad : Nat → Nat → Nat} {cI cJ cF : ClassId}
set_option maxHeartbeats 4000000 in
set_option maxRecDepth 100000 in
theorem ok_X5_settled (l : Launch) (hinj : hInj ad) (S : hS) (answer : Int) (h_answer : hIn answer) (hp : p_X5_settled S answer) : hMi D ad cI cJ cF l yX5_settled cX5_settled 2 (some .int) ({ frames := 1, cells := 0, slots := 0, locals := 20 } : Room) [.ref (ad 11 0), .int (hI answer)] S (v_X5_settled S answer) (m_X5_settled S answer) := by
  refine hOf (S := S) l hinj (by decide +kernel) (Nat.le_of_ble_eq_true rfl) (fun p e s m args below meth c E => ?_)
  obtain ⟨hx, hb, hml, hown, hts, hK, hN, -, hr, hlk⟩ := id E
  have hown : s.vm.findClass RX5 = some m.cls := hown
  intro H locs ls hh hl
  have hl : lv_has ls 2 [(0, .ref (ad 11 0)), (1, .int (hI answer))] := hl
  have h := hp
  unfold p_X5_settled at h
  refine lv_iload_n hx hb dX5_settled_0 rfl (lv_at hl 1 rfl) ?_
  refine iv_if_lt (tgt := 11) hx hb h_answer dX5_settled_1 (by decide) (fun c1 => ?_) (fun c1 => ?_)
  · have h := h.1 c1
    refine lv_iload_n hx hb dX5_settled_11 rfl (lv_at hl 1 rfl) ?_
    exact iv_iret E hh (by unfold v_X5_settled; rw [if_pos c1]) (by rw [← show answer = v_X5_settled S answer from (by unfold v_X5_settled; rw [if_pos c1])]; exact h_answer) (by unfold m_X5_settled; rw [if_pos c1]) dX5_settled_12
  · have h := h.2 c1
    refine lv_aload_n hx hb dX5_settled_4 rfl (lv_at hl 0 rfl) ?_
    refine iv_get (v' := .ref (ad 9 0)) hx hb hts inX5 hown hK hh.1 (ob_X) rfl 4 (by decide) (hts _ q1_205) rfl rfl rfl dX5_settled_5 ?_
    obtain ⟨g2, h⟩ := h
    refine iv_kv (iv_rV (As := []) (rest := []) E hh (ok_X2_keep l hinj S g2) cb_X2_keep q2_20 rfl rfl ⟨Nat.le_of_ble_eq_true rfl, Nat.le_of_ble_eq_true rfl⟩ (ob_Hist) rfl rfl rfl hl.1 rfl (Nat.le_of_ble_eq_true rfl) dX5_settled_8 ⟨Nat.zero_le _, Nat.zero_le _⟩) hh (fun H locs hh => ?_)
    refine lv_iload_n hx hb dX5_settled_11 rfl (lv_at hl 1 rfl) ?_
    exact iv_iret E hh (by unfold v_X5_settled; rw [if_neg c1]) (by rw [← show answer = v_X5_settled S answer from (by unfold v_X5_settled; rw [if_neg c1])]; exact h_answer) (by unfold m_X5_settled; rw [if_neg c1]) dX5_settled_12
set_option maxHeartbeats 4000000 in
set_option maxRecDepth 100000 in
theorem ok_X5_glyph (l : Launch) (hinj : hInj ad) (S : hS) (advance : Int) (h_advance : hIn advance) (hp : p_X5_glyph S advance) : hMi D ad cI cJ cF l yX5_glyph cX5_glyph 2 (some .int) ({ frames := 4, cells := 0, slots := 0, locals := 87 } : Room) [.ref (ad 11 0), .int (hI advance)] S (v_X5_glyph S advance) (m_X5_glyph S advance) := by
  refine hOf (S := S) l hinj (by decide +kernel) (Nat.le_of_ble_eq_true rfl) (fun p e s m args below meth c E => ?_)
  obtain ⟨hx, hb, hml, hown, hts, hK, hN, -, hr, hlk⟩ := id E
  have hown : s.vm.findClass RX5 = some m.cls := hown
  intro H locs ls hh hl
  have hl : lv_has ls 2 [(0, .ref (ad 11 0)), (1, .int (hI advance))] := hl
  have h := hp
  unfold p_X5_glyph at h
  refine lv_aload_n hx hb dX5_glyph_0 rfl (lv_at hl 0 rfl) ?_
  refine iv_get (v' := .ref (ad 9 0)) hx hb hts inX5 hown hK hh.1 (ob_X) rfl 4 (by decide) (hts _ q1_205) rfl rfl rfl dX5_glyph_1 ?_
  refine lv_aload_n hx hb dX5_glyph_4 rfl (lv_at hl 0 rfl) ?_
  refine iv_get (v' := .ref (ad 0 0)) hx hb hts inX5 hown hK hh.1 (ob_X) rfl 0 (by decide) (hts _ q1_201) rfl rfl rfl dX5_glyph_5 ?_
  obtain ⟨g1, h⟩ := h
  refine iv_kv (iv_rV (As := [.ref (ad 0 0)]) (rest := []) E hh (ok_X2_note l hinj S (by decide) g1) cb_X2_note q1_221 rfl rfl ⟨Nat.le_of_ble_eq_true rfl, Nat.le_of_ble_eq_true rfl⟩ (ob_Hist) rfl rfl rfl hl.1 rfl (Nat.le_of_ble_eq_true rfl) dX5_glyph_8 ⟨Nat.zero_le _, Nat.zero_le _⟩) hh (fun H locs hh => ?_)
  refine lv_aload_n hx hb dX5_glyph_11 rfl (lv_at hl 0 rfl) ?_
  refine lv_aload_n hx hb dX5_glyph_12 rfl (lv_at hl 0 rfl) ?_
  refine iv_get (v' := .ref (ad 0 0)) hx hb hts inX5 hown hK hh.1 (ob_X) rfl 0 (by decide) (hts _ q1_201) rfl rfl rfl dX5_glyph_13 ?_
  refine lv_iload_n hx hb dX5_glyph_16 rfl (lv_at hl 1 rfl) ?_
  obtain ⟨g2, h⟩ := h
  refine iv_ki (iv_rV (As := [.int (hI advance)]) (rest := [.ref (ad 11 0)]) E hh (ok_X1_addGlyph l hinj (m_X2_note S 0) (by decide) ((m_X2_note S 0) 0) rfl advance h_advance g2) cb_X1_addGlyph q2_4 rfl rfl ⟨Nat.le_of_ble_eq_true rfl, Nat.le_of_ble_eq_true rfl⟩ (ob_Font (by decide)) rfl rfl rfl hl.1 rfl (Nat.le_of_ble_eq_true rfl) dX5_glyph_17 ⟨Nat.zero_le _, Nat.zero_le _⟩) hh (fun hc3 H locs hh => ?_)
  obtain ⟨g4, h⟩ := h
  refine iv_ki (iv_rV (As := [.int (hI (v_X1_addGlyph ((m_X2_note S 0) 0) advance))]) (rest := []) E hh (ok_X5_settled l hinj (gset (m_X2_note S 0) 0 (m_X1_addGlyph ((m_X2_note S 0) 0) advance)) (v_X1_addGlyph ((m_X2_note S 0) 0) advance) hc3 g4) cb_X5_settled q2_16 rfl rfl ⟨Nat.le_of_ble_eq_true rfl, Nat.le_of_ble_eq_true rfl⟩ (ob_X) rfl rfl rfl hl.1 rfl (Nat.le_of_ble_eq_true rfl) dX5_glyph_20 ⟨Nat.zero_le _, Nat.zero_le _⟩) hh (fun hc5 H locs hh => ?_)
  exact iv_iret E hh rfl (by rw [← show (v_X5_settled (gset (m_X2_note S 0) 0 (m_X1_addGlyph ((m_X2_note S 0) 0) advance)) (v_X1_addGlyph ((m_X2_note S 0) 0) advance)) = v_X5_glyph S advance from rfl]; exact hc5) rfl dX5_glyph_23
set_option maxHeartbeats 4000000 in
set_option maxRecDepth 100000 in
theorem ok_X5_stem (l : Launch) (hinj : hInj ad) (S : hS) (glyph : Int) (place : Int) (width : Int) (h_glyph : hIn glyph) (h_place : hIn place) (h_width : hIn width) (hp : p_X5_stem S glyph place width) : hMi D ad cI cJ cF l yX5_stem cX5_stem 4 (some .int) ({ frames := 4, cells := 0, slots := 0, locals := 96 } : Room) [.ref (ad 11 0), .int (hI glyph), .int (hI place), .int (hI width)] S (v_X5_stem S glyph place width) (m_X5_stem S glyph place width) := by
  refine hOf (S := S) l hinj (by decide +kernel) (Nat.le_of_ble_eq_true rfl) (fun p e s m args below meth c E => ?_)
  obtain ⟨hx, hb, hml, hown, hts, hK, hN, -, hr, hlk⟩ := id E
  have hown : s.vm.findClass RX5 = some m.cls := hown
  intro H locs ls hh hl
  have hl : lv_has ls 4 [(0, .ref (ad 11 0)), (1, .int (hI glyph)), (2, .int (hI place)), (3, .int (hI width))] := hl
  have h := hp
  unfold p_X5_stem at h
  refine lv_aload_n hx hb dX5_stem_0 rfl (lv_at hl 0 rfl) ?_
  refine iv_get (v' := .ref (ad 9 0)) hx hb hts inX5 hown hK hh.1 (ob_X) rfl 4 (by decide) (hts _ q1_205) rfl rfl rfl dX5_stem_1 ?_
  refine lv_aload_n hx hb dX5_stem_4 rfl (lv_at hl 0 rfl) ?_
  refine iv_get (v' := .ref (ad 0 0)) hx hb hts inX5 hown hK hh.1 (ob_X) rfl 0 (by decide) (hts _ q1_201) rfl rfl rfl dX5_stem_5 ?_
  obtain ⟨g1, h⟩ := h
  refine iv_kv (iv_rV (As := [.ref (ad 0 0)]) (rest := []) E hh (ok_X2_note l hinj S (by decide) g1) cb_X2_note q1_221 rfl rfl ⟨Nat.le_of_ble_eq_true rfl, Nat.le_of_ble_eq_true rfl⟩ (ob_Hist) rfl rfl rfl hl.1 rfl (Nat.le_of_ble_eq_true rfl) dX5_stem_8 ⟨Nat.zero_le _, Nat.zero_le _⟩) hh (fun H locs hh => ?_)
  refine lv_aload_n hx hb dX5_stem_11 rfl (lv_at hl 0 rfl) ?_
  refine lv_aload_n hx hb dX5_stem_12 rfl (lv_at hl 0 rfl) ?_
  refine iv_get (v' := .ref (ad 0 0)) hx hb hts inX5 hown hK hh.1 (ob_X) rfl 0 (by decide) (hts _ q1_201) rfl rfl rfl dX5_stem_13 ?_
  refine lv_iload_n hx hb dX5_stem_16 rfl (lv_at hl 1 rfl) ?_
  refine lv_iload_n hx hb dX5_stem_17 rfl (lv_at hl 2 rfl) ?_
  refine lv_iload_n hx hb dX5_stem_18 rfl (lv_at hl 3 rfl) ?_
  obtain ⟨g2, h⟩ := h
  refine iv_ki (iv_rV (As := [.int (hI glyph), .int (hI place), .int (hI width)]) (rest := [.ref (ad 11 0)]) E hh (ok_X1_addStem l hinj (m_X2_note S 0) (by decide) ((m_X2_note S 0) 0) rfl glyph place width h_glyph h_place h_width g2) cb_X1_addStem q2_28 rfl rfl ⟨Nat.le_of_ble_eq_true rfl, Nat.le_of_ble_eq_true rfl⟩ (ob_Font (by decide)) rfl rfl rfl hl.1 rfl (Nat.le_of_ble_eq_true rfl) dX5_stem_19 ⟨Nat.zero_le _, Nat.zero_le _⟩) hh (fun hc3 H locs hh => ?_)
  obtain ⟨g4, h⟩ := h
  refine iv_ki (iv_rV (As := [.int (hI (v_X1_addStem ((m_X2_note S 0) 0) glyph place width))]) (rest := []) E hh (ok_X5_settled l hinj (gset (m_X2_note S 0) 0 (m_X1_addStem ((m_X2_note S 0) 0) glyph place width)) (v_X1_addStem ((m_X2_note S 0) 0) glyph place width) hc3 g4) cb_X5_settled q2_16 rfl rfl ⟨Nat.le_of_ble_eq_true rfl, Nat.le_of_ble_eq_true rfl⟩ (ob_X) rfl rfl rfl hl.1 rfl (Nat.le_of_ble_eq_true rfl) dX5_stem_22 ⟨Nat.zero_le _, Nat.zero_le _⟩) hh (fun hc5 H locs hh => ?_)
  exact iv_iret E hh rfl (by rw [← show (v_X5_settled (gset (m_X2_note S 0) 0 (m_X1_addStem ((m_X2_note S 0) 0) glyph place width)) (v_X1_addStem ((m_X2_note S 0) 0) glyph place width)) = v_X5_stem S glyph place width from rfl]; exact hc5) rfl dX5_stem_25
set_option maxHeartbeats 4000000 in
set_option maxRecDepth 100000 in
theorem ok_X5_cut (l : Launch) (hinj : hInj ad) (S : hS) (glyph : Int) (stem : Int) (h_glyph : hIn glyph) (h_stem : hIn stem) (hp : p_X5_cut S glyph stem) : hMi D ad cI cJ cF l yX5_cut cX5_cut 3 (some .int) ({ frames := 4, cells := 0, slots := 0, locals := 93 } : Room) [.ref (ad 11 0), .int (hI glyph), .int (hI stem)] S (v_X5_cut S glyph stem) (m_X5_cut S glyph stem) := by
  refine hOf (S := S) l hinj (by decide +kernel) (Nat.le_of_ble_eq_true rfl) (fun p e s m args below meth c E => ?_)
  obtain ⟨hx, hb, hml, hown, hts, hK, hN, -, hr, hlk⟩ := id E
  have hown : s.vm.findClass RX5 = some m.cls := hown
  intro H locs ls hh hl
  have hl : lv_has ls 3 [(0, .ref (ad 11 0)), (1, .int (hI glyph)), (2, .int (hI stem))] := hl
  have h := hp
  unfold p_X5_cut at h
  refine lv_aload_n hx hb dX5_cut_0 rfl (lv_at hl 0 rfl) ?_
  refine iv_get (v' := .ref (ad 9 0)) hx hb hts inX5 hown hK hh.1 (ob_X) rfl 4 (by decide) (hts _ q1_205) rfl rfl rfl dX5_cut_1 ?_
  refine lv_aload_n hx hb dX5_cut_4 rfl (lv_at hl 0 rfl) ?_
  refine iv_get (v' := .ref (ad 0 0)) hx hb hts inX5 hown hK hh.1 (ob_X) rfl 0 (by decide) (hts _ q1_201) rfl rfl rfl dX5_cut_5 ?_
  obtain ⟨g1, h⟩ := h
  refine iv_kv (iv_rV (As := [.ref (ad 0 0)]) (rest := []) E hh (ok_X2_note l hinj S (by decide) g1) cb_X2_note q1_221 rfl rfl ⟨Nat.le_of_ble_eq_true rfl, Nat.le_of_ble_eq_true rfl⟩ (ob_Hist) rfl rfl rfl hl.1 rfl (Nat.le_of_ble_eq_true rfl) dX5_cut_8 ⟨Nat.zero_le _, Nat.zero_le _⟩) hh (fun H locs hh => ?_)
  refine lv_aload_n hx hb dX5_cut_11 rfl (lv_at hl 0 rfl) ?_
  refine lv_aload_n hx hb dX5_cut_12 rfl (lv_at hl 0 rfl) ?_
  refine iv_get (v' := .ref (ad 0 0)) hx hb hts inX5 hown hK hh.1 (ob_X) rfl 0 (by decide) (hts _ q1_201) rfl rfl rfl dX5_cut_13 ?_
  refine lv_iload_n hx hb dX5_cut_16 rfl (lv_at hl 1 rfl) ?_
  refine lv_iload_n hx hb dX5_cut_17 rfl (lv_at hl 2 rfl) ?_
  obtain ⟨g2, h⟩ := h
  refine iv_ki (iv_rV (As := [.int (hI glyph), .int (hI stem)]) (rest := [.ref (ad 11 0)]) E hh (ok_X1_cutStem l hinj (m_X2_note S 0) (by decide) ((m_X2_note S 0) 0) rfl glyph stem h_glyph h_stem g2) cb_X1_cutStem q2_56 rfl rfl ⟨Nat.le_of_ble_eq_true rfl, Nat.le_of_ble_eq_true rfl⟩ (ob_Font (by decide)) rfl rfl rfl hl.1 rfl (Nat.le_of_ble_eq_true rfl) dX5_cut_18 ⟨Nat.zero_le _, Nat.zero_le _⟩) hh (fun hc3 H locs hh => ?_)
  obtain ⟨g4, h⟩ := h
  refine iv_ki (iv_rV (As := [.int (hI (v_X1_cutStem ((m_X2_note S 0) 0) glyph stem))]) (rest := []) E hh (ok_X5_settled l hinj (gset (m_X2_note S 0) 0 (m_X1_cutStem ((m_X2_note S 0) 0) glyph stem)) (v_X1_cutStem ((m_X2_note S 0) 0) glyph stem) hc3 g4) cb_X5_settled q2_16 rfl rfl ⟨Nat.le_of_ble_eq_true rfl, Nat.le_of_ble_eq_true rfl⟩ (ob_X) rfl rfl rfl hl.1 rfl (Nat.le_of_ble_eq_true rfl) dX5_cut_21 ⟨Nat.zero_le _, Nat.zero_le _⟩) hh (fun hc5 H locs hh => ?_)
  exact iv_iret E hh rfl (by rw [← show (v_X5_settled (gset (m_X2_note S 0) 0 (m_X1_cutStem ((m_X2_note S 0) 0) glyph stem)) (v_X1_cutStem ((m_X2_note S 0) 0) glyph stem)) = v_X5_cut S glyph stem from rfl]; exact hc5) rfl dX5_cut_24
set_option maxHeartbeats 4000000 in
set_option maxRecDepth 100000 in
theorem ok_X5_hint (l : Launch) (hinj : hInj ad) (S : hS) (glyph : Int) (stem : Int) (hint : Int) (h_glyph : hIn glyph) (h_stem : hIn stem) (h_hint : hIn hint) (hp : p_X5_hint S glyph stem hint) : hMi D ad cI cJ cF l yX5_hint cX5_hint 4 (some .int) ({ frames := 4, cells := 0, slots := 0, locals := 90 } : Room) [.ref (ad 11 0), .int (hI glyph), .int (hI stem), .int (hI hint)] S (v_X5_hint S glyph stem hint) (m_X5_hint S glyph stem hint) := by
  refine hOf (S := S) l hinj (by decide +kernel) (Nat.le_of_ble_eq_true rfl) (fun p e s m args below meth c E => ?_)
  obtain ⟨hx, hb, hml, hown, hts, hK, hN, -, hr, hlk⟩ := id E
  have hown : s.vm.findClass RX5 = some m.cls := hown
  intro H locs ls hh hl
  have hl : lv_has ls 4 [(0, .ref (ad 11 0)), (1, .int (hI glyph)), (2, .int (hI stem)), (3, .int (hI hint))] := hl
  have h := hp
  unfold p_X5_hint at h
  refine lv_aload_n hx hb dX5_hint_0 rfl (lv_at hl 0 rfl) ?_
  refine iv_get (v' := .ref (ad 9 0)) hx hb hts inX5 hown hK hh.1 (ob_X) rfl 4 (by decide) (hts _ q1_205) rfl rfl rfl dX5_hint_1 ?_
  refine lv_aload_n hx hb dX5_hint_4 rfl (lv_at hl 0 rfl) ?_
  refine iv_get (v' := .ref (ad 0 0)) hx hb hts inX5 hown hK hh.1 (ob_X) rfl 0 (by decide) (hts _ q1_201) rfl rfl rfl dX5_hint_5 ?_
  obtain ⟨g1, h⟩ := h
  refine iv_kv (iv_rV (As := [.ref (ad 0 0)]) (rest := []) E hh (ok_X2_note l hinj S (by decide) g1) cb_X2_note q1_221 rfl rfl ⟨Nat.le_of_ble_eq_true rfl, Nat.le_of_ble_eq_true rfl⟩ (ob_Hist) rfl rfl rfl hl.1 rfl (Nat.le_of_ble_eq_true rfl) dX5_hint_8 ⟨Nat.zero_le _, Nat.zero_le _⟩) hh (fun H locs hh => ?_)
  refine lv_aload_n hx hb dX5_hint_11 rfl (lv_at hl 0 rfl) ?_
  refine lv_aload_n hx hb dX5_hint_12 rfl (lv_at hl 0 rfl) ?_
  refine iv_get (v' := .ref (ad 0 0)) hx hb hts inX5 hown hK hh.1 (ob_X) rfl 0 (by decide) (hts _ q1_201) rfl rfl rfl dX5_hint_13 ?_
  refine lv_iload_n hx hb dX5_hint_16 rfl (lv_at hl 1 rfl) ?_
  refine lv_iload_n hx hb dX5_hint_17 rfl (lv_at hl 2 rfl) ?_
  refine lv_iload_n hx hb dX5_hint_18 rfl (lv_at hl 3 rfl) ?_
  obtain ⟨g2, h⟩ := h
  refine iv_ki (iv_rV (As := [.int (hI glyph), .int (hI stem), .int (hI hint)]) (rest := [.ref (ad 11 0)]) E hh (ok_X1_hintStem l hinj (m_X2_note S 0) (by decide) ((m_X2_note S 0) 0) rfl glyph stem hint h_glyph h_stem h_hint g2) cb_X1_hintStem q2_68 rfl rfl ⟨Nat.le_of_ble_eq_true rfl, Nat.le_of_ble_eq_true rfl⟩ (ob_Font (by decide)) rfl rfl rfl hl.1 rfl (Nat.le_of_ble_eq_true rfl) dX5_hint_19 ⟨Nat.zero_le _, Nat.zero_le _⟩) hh (fun hc3 H locs hh => ?_)
  obtain ⟨g4, h⟩ := h
  refine iv_ki (iv_rV (As := [.int (hI (v_X1_hintStem ((m_X2_note S 0) 0) glyph stem hint))]) (rest := []) E hh (ok_X5_settled l hinj (gset (m_X2_note S 0) 0 (m_X1_hintStem ((m_X2_note S 0) 0) glyph stem hint)) (v_X1_hintStem ((m_X2_note S 0) 0) glyph stem hint) hc3 g4) cb_X5_settled q2_16 rfl rfl ⟨Nat.le_of_ble_eq_true rfl, Nat.le_of_ble_eq_true rfl⟩ (ob_X) rfl rfl rfl hl.1 rfl (Nat.le_of_ble_eq_true rfl) dX5_hint_22 ⟨Nat.zero_le _, Nat.zero_le _⟩) hh (fun hc5 H locs hh => ?_)
  exact iv_iret E hh rfl (by rw [← show (v_X5_settled (gset (m_X2_note S 0) 0 (m_X1_hintStem ((m_X2_note S 0) 0) glyph stem hint)) (v_X1_hintStem ((m_X2_note S 0) 0) glyph stem hint)) = v_X5_hint S glyph stem hint from rfl]; exact hc5) rfl dX5_hint_25
set_option maxHeartbeats 4000000 in
set_option maxRecDepth 100000 in
theorem ok_X5_standard (l : Launch) (hinj : hInj ad) (S : hS) (width : Int) (h_width : hIn width) (hp : p_X5_standard S width) : hMi D ad cI cJ cF l yX5_standard cX5_standard 2 (some .int) ({ frames := 4, cells := 0, slots := 0, locals := 91 } : Room) [.ref (ad 11 0), .int (hI width)] S (v_X5_standard S width) (m_X5_standard S width) := by
  refine hOf (S := S) l hinj (by decide +kernel) (Nat.le_of_ble_eq_true rfl) (fun p e s m args below meth c E => ?_)
  obtain ⟨hx, hb, hml, hown, hts, hK, hN, -, hr, hlk⟩ := id E
  have hown : s.vm.findClass RX5 = some m.cls := hown
  intro H locs ls hh hl
  have hl : lv_has ls 2 [(0, .ref (ad 11 0)), (1, .int (hI width))] := hl
  have h := hp
  unfold p_X5_standard at h
  refine lv_aload_n hx hb dX5_standard_0 rfl (lv_at hl 0 rfl) ?_
  refine iv_get (v' := .ref (ad 9 0)) hx hb hts inX5 hown hK hh.1 (ob_X) rfl 4 (by decide) (hts _ q1_205) rfl rfl rfl dX5_standard_1 ?_
  refine lv_aload_n hx hb dX5_standard_4 rfl (lv_at hl 0 rfl) ?_
  refine iv_get (v' := .ref (ad 0 0)) hx hb hts inX5 hown hK hh.1 (ob_X) rfl 0 (by decide) (hts _ q1_201) rfl rfl rfl dX5_standard_5 ?_
  obtain ⟨g1, h⟩ := h
  refine iv_kv (iv_rV (As := [.ref (ad 0 0)]) (rest := []) E hh (ok_X2_note l hinj S (by decide) g1) cb_X2_note q1_221 rfl rfl ⟨Nat.le_of_ble_eq_true rfl, Nat.le_of_ble_eq_true rfl⟩ (ob_Hist) rfl rfl rfl hl.1 rfl (Nat.le_of_ble_eq_true rfl) dX5_standard_8 ⟨Nat.zero_le _, Nat.zero_le _⟩) hh (fun H locs hh => ?_)
  refine lv_aload_n hx hb dX5_standard_11 rfl (lv_at hl 0 rfl) ?_
  refine lv_aload_n hx hb dX5_standard_12 rfl (lv_at hl 0 rfl) ?_
  refine iv_get (v' := .ref (ad 0 0)) hx hb hts inX5 hown hK hh.1 (ob_X) rfl 0 (by decide) (hts _ q1_201) rfl rfl rfl dX5_standard_13 ?_
  refine lv_iload_n hx hb dX5_standard_16 rfl (lv_at hl 1 rfl) ?_
  obtain ⟨g2, h⟩ := h
  refine iv_ki (iv_rV (As := [.int (hI width)]) (rest := [.ref (ad 11 0)]) E hh (ok_X1_addStandard l hinj (m_X2_note S 0) (by decide) ((m_X2_note S 0) 0) rfl width h_width g2) cb_X1_addStandard q2_76 rfl rfl ⟨Nat.le_of_ble_eq_true rfl, Nat.le_of_ble_eq_true rfl⟩ (ob_Font (by decide)) rfl rfl rfl hl.1 rfl (Nat.le_of_ble_eq_true rfl) dX5_standard_17 ⟨Nat.zero_le _, Nat.zero_le _⟩) hh (fun hc3 H locs hh => ?_)
  obtain ⟨g4, h⟩ := h
  refine iv_ki (iv_rV (As := [.int (hI (v_X1_addStandard ((m_X2_note S 0) 0) width))]) (rest := []) E hh (ok_X5_settled l hinj (gset (m_X2_note S 0) 0 (m_X1_addStandard ((m_X2_note S 0) 0) width)) (v_X1_addStandard ((m_X2_note S 0) 0) width) hc3 g4) cb_X5_settled q2_16 rfl rfl ⟨Nat.le_of_ble_eq_true rfl, Nat.le_of_ble_eq_true rfl⟩ (ob_X) rfl rfl rfl hl.1 rfl (Nat.le_of_ble_eq_true rfl) dX5_standard_20 ⟨Nat.zero_le _, Nat.zero_le _⟩) hh (fun hc5 H locs hh => ?_)
  exact iv_iret E hh rfl (by rw [← show (v_X5_settled (gset (m_X2_note S 0) 0 (m_X1_addStandard ((m_X2_note S 0) 0) width)) (v_X1_addStandard ((m_X2_note S 0) 0) width)) = v_X5_standard S width from rfl]; exact hc5) rfl dX5_standard_23
set_option maxHeartbeats 4000000 in
set_option maxRecDepth 100000 in
theorem ok_X5_drop (l : Launch) (hinj : hInj ad) (S : hS) (width : Int) (h_width : hIn width) (hp : p_X5_drop S width) : hMi D ad cI cJ cF l yX5_drop cX5_drop 2 (some .int) ({ frames := 4, cells := 0, slots := 0, locals := 87 } : Room) [.ref (ad 11 0), .int (hI width)] S (v_X5_drop S width) (m_X5_drop S width) := by
  refine hOf (S := S) l hinj (by decide +kernel) (Nat.le_of_ble_eq_true rfl) (fun p e s m args below meth c E => ?_)
  obtain ⟨hx, hb, hml, hown, hts, hK, hN, -, hr, hlk⟩ := id E
  have hown : s.vm.findClass RX5 = some m.cls := hown
  intro H locs ls hh hl
  have hl : lv_has ls 2 [(0, .ref (ad 11 0)), (1, .int (hI width))] := hl
  have h := hp
  unfold p_X5_drop at h
  refine lv_aload_n hx hb dX5_drop_0 rfl (lv_at hl 0 rfl) ?_
  refine iv_get (v' := .ref (ad 9 0)) hx hb hts inX5 hown hK hh.1 (ob_X) rfl 4 (by decide) (hts _ q1_205) rfl rfl rfl dX5_drop_1 ?_
  refine lv_aload_n hx hb dX5_drop_4 rfl (lv_at hl 0 rfl) ?_
  refine iv_get (v' := .ref (ad 0 0)) hx hb hts inX5 hown hK hh.1 (ob_X) rfl 0 (by decide) (hts _ q1_201) rfl rfl rfl dX5_drop_5 ?_
  obtain ⟨g1, h⟩ := h
  refine iv_kv (iv_rV (As := [.ref (ad 0 0)]) (rest := []) E hh (ok_X2_note l hinj S (by decide) g1) cb_X2_note q1_221 rfl rfl ⟨Nat.le_of_ble_eq_true rfl, Nat.le_of_ble_eq_true rfl⟩ (ob_Hist) rfl rfl rfl hl.1 rfl (Nat.le_of_ble_eq_true rfl) dX5_drop_8 ⟨Nat.zero_le _, Nat.zero_le _⟩) hh (fun H locs hh => ?_)
  refine lv_aload_n hx hb dX5_drop_11 rfl (lv_at hl 0 rfl) ?_
  refine lv_aload_n hx hb dX5_drop_12 rfl (lv_at hl 0 rfl) ?_
  refine iv_get (v' := .ref (ad 0 0)) hx hb hts inX5 hown hK hh.1 (ob_X) rfl 0 (by decide) (hts _ q1_201) rfl rfl rfl dX5_drop_13 ?_
  refine lv_iload_n hx hb dX5_drop_16 rfl (lv_at hl 1 rfl) ?_
  obtain ⟨g2, h⟩ := h
  refine iv_ki (iv_rV (As := [.int (hI width)]) (rest := [.ref (ad 11 0)]) E hh (ok_X1_dropStandard l hinj (m_X2_note S 0) (by decide) ((m_X2_note S 0) 0) rfl width h_width g2) cb_X1_dropStandard q2_99 rfl rfl ⟨Nat.le_of_ble_eq_true rfl, Nat.le_of_ble_eq_true rfl⟩ (ob_Font (by decide)) rfl rfl rfl hl.1 rfl (Nat.le_of_ble_eq_true rfl) dX5_drop_17 ⟨Nat.zero_le _, Nat.zero_le _⟩) hh (fun hc3 H locs hh => ?_)
  obtain ⟨g4, h⟩ := h
  refine iv_ki (iv_rV (As := [.int (hI (v_X1_dropStandard ((m_X2_note S 0) 0) width))]) (rest := []) E hh (ok_X5_settled l hinj (gset (m_X2_note S 0) 0 (m_X1_dropStandard ((m_X2_note S 0) 0) width)) (v_X1_dropStandard ((m_X2_note S 0) 0) width) hc3 g4) cb_X5_settled q2_16 rfl rfl ⟨Nat.le_of_ble_eq_true rfl, Nat.le_of_ble_eq_true rfl⟩ (ob_X) rfl rfl rfl hl.1 rfl (Nat.le_of_ble_eq_true rfl) dX5_drop_20 ⟨Nat.zero_le _, Nat.zero_le _⟩) hh (fun hc5 H locs hh => ?_)
  exact iv_iret E hh rfl (by rw [← show (v_X5_settled (gset (m_X2_note S 0) 0 (m_X1_dropStandard ((m_X2_note S 0) 0) width)) (v_X1_dropStandard ((m_X2_note S 0) 0) width)) = v_X5_drop S width from rfl]; exact hc5) rfl dX5_drop_23
set_option maxHeartbeats 4000000 in
set_option maxRecDepth 100000 in
theorem ok_X5_make (l : Launch) (hinj : hInj ad) (S : hS) (size : Int) (h_size : hIn size) (hp : p_X5_make S size) : hMi D ad cI cJ cF l yX5_make cX5_make 2 (some .int) ({ frames := 5, cells := 0, slots := 0, locals := 125 } : Room) [.ref (ad 11 0), .int (hI size)] S (v_X5_make S size) (m_X5_make S size) := by
  refine hOf (S := S) l hinj (by decide +kernel) (Nat.le_of_ble_eq_true rfl) (fun p e s m args below meth c E => ?_)
  obtain ⟨hx, hb, hml, hown, hts, hK, hN, -, hr, hlk⟩ := id E
  have hown : s.vm.findClass RX5 = some m.cls := hown
  intro H locs ls hh hl
  have hl : lv_has ls 2 [(0, .ref (ad 11 0)), (1, .int (hI size))] := hl
  have h := hp
  unfold p_X5_make at h
  refine lv_aload_n hx hb dX5_make_0 rfl (lv_at hl 0 rfl) ?_
  refine iv_get (v' := .ref (ad 9 0)) hx hb hts inX5 hown hK hh.1 (ob_X) rfl 4 (by decide) (hts _ q1_205) rfl rfl rfl dX5_make_1 ?_
  refine lv_aload_n hx hb dX5_make_4 rfl (lv_at hl 0 rfl) ?_
  refine iv_get (v' := .ref (ad 0 0)) hx hb hts inX5 hown hK hh.1 (ob_X) rfl 0 (by decide) (hts _ q1_201) rfl rfl rfl dX5_make_5 ?_
  obtain ⟨g1, h⟩ := h
  refine iv_kv (iv_rV (As := [.ref (ad 0 0)]) (rest := []) E hh (ok_X2_note l hinj S (by decide) g1) cb_X2_note q1_221 rfl rfl ⟨Nat.le_of_ble_eq_true rfl, Nat.le_of_ble_eq_true rfl⟩ (ob_Hist) rfl rfl rfl hl.1 rfl (Nat.le_of_ble_eq_true rfl) dX5_make_8 ⟨Nat.zero_le _, Nat.zero_le _⟩) hh (fun H locs hh => ?_)
  refine lv_aload_n hx hb dX5_make_11 rfl (lv_at hl 0 rfl) ?_
  refine lv_aload_n hx hb dX5_make_12 rfl (lv_at hl 0 rfl) ?_
  refine iv_get (v' := .ref (ad 0 0)) hx hb hts inX5 hown hK hh.1 (ob_X) rfl 0 (by decide) (hts _ q1_201) rfl rfl rfl dX5_make_13 ?_
  refine lv_iload_n hx hb dX5_make_16 rfl (lv_at hl 1 rfl) ?_
  refine lv_aload_n hx hb dX5_make_17 rfl (lv_at hl 0 rfl) ?_
  refine iv_get (v' := .ref (ad 7 0)) hx hb hts inX5 hown hK hh.1 (ob_X) rfl 2 (by decide) (hts _ q1_203) rfl rfl rfl dX5_make_18 ?_
  obtain ⟨g2, h⟩ := h
  refine iv_ki (iv_rV (As := [.int (hI size), .ref (ad 7 0)]) (rest := [.ref (ad 11 0)]) E hh (ok_X1_makeSheet l hinj (m_X2_note S 0) (by decide) ((m_X2_note S 0) 0) rfl ((m_X2_note S 0) 7) rfl size h_size g2) cb_X1_makeSheet q2_107 rfl rfl ⟨Nat.le_of_ble_eq_true rfl, Nat.le_of_ble_eq_true rfl⟩ (ob_Font (by decide)) rfl rfl rfl hl.1 rfl (Nat.le_of_ble_eq_true rfl) dX5_make_21 ⟨Nat.zero_le _, Nat.zero_le _⟩) hh (fun hc3 H locs hh => ?_)
  obtain ⟨g4, h⟩ := h
  refine iv_ki (iv_rV (As := [.int (hI (v_X1_makeSheet ((m_X2_note S 0) 0) ((m_X2_note S 0) 7) size))]) (rest := []) E hh (ok_X5_settled l hinj (gset (gset (m_X2_note S 0) 0 (mA_X1_makeSheet ((m_X2_note S 0) 0) ((m_X2_note S 0) 7) size)) 7 (mT_X1_makeSheet ((m_X2_note S 0) 0) ((m_X2_note S 0) 7) size)) (v_X1_makeSheet ((m_X2_note S 0) 0) ((m_X2_note S 0) 7) size) hc3 g4) cb_X5_settled q2_16 rfl rfl ⟨Nat.le_of_ble_eq_true rfl, Nat.le_of_ble_eq_true rfl⟩ (ob_X) rfl rfl rfl hl.1 rfl (Nat.le_of_ble_eq_true rfl) dX5_make_24 ⟨Nat.zero_le _, Nat.zero_le _⟩) hh (fun hc5 H locs hh => ?_)
  exact iv_iret E hh rfl (by rw [← show (v_X5_settled (gset (gset (m_X2_note S 0) 0 (mA_X1_makeSheet ((m_X2_note S 0) 0) ((m_X2_note S 0) 7) size)) 7 (mT_X1_makeSheet ((m_X2_note S 0) 0) ((m_X2_note S 0) 7) size)) (v_X1_makeSheet ((m_X2_note S 0) 0) ((m_X2_note S 0) 7) size)) = v_X5_make S size from rfl]; exact hc5) rfl dX5_make_27
set_option maxHeartbeats 4000000 in
set_option maxRecDepth 100000 in
theorem ok_X5_set (l : Launch) (hinj : hInj ad) (S : hS) (what : Int) (value : Int) (h_what : hIn what) (h_value : hIn value) (hp : p_X5_set S what value) : hMi D ad cI cJ cF l yX5_set cX5_set 3 (some .int) ({ frames := 4, cells := 0, slots := 0, locals := 87 } : Room) [.ref (ad 11 0), .int (hI what), .int (hI value)] S (v_X5_set S what value) (m_X5_set S what value) := by
  refine hOf (S := S) l hinj (by decide +kernel) (Nat.le_of_ble_eq_true rfl) (fun p e s m args below meth c E => ?_)
  obtain ⟨hx, hb, hml, hown, hts, hK, hN, -, hr, hlk⟩ := id E
  have hown : s.vm.findClass RX5 = some m.cls := hown
  intro H locs ls hh hl
  have hl : lv_has ls 3 [(0, .ref (ad 11 0)), (1, .int (hI what)), (2, .int (hI value))] := hl
  have h := hp
  unfold p_X5_set at h
  refine lv_aload_n hx hb dX5_set_0 rfl (lv_at hl 0 rfl) ?_
  refine iv_get (v' := .ref (ad 9 0)) hx hb hts inX5 hown hK hh.1 (ob_X) rfl 4 (by decide) (hts _ q1_205) rfl rfl rfl dX5_set_1 ?_
  refine lv_aload_n hx hb dX5_set_4 rfl (lv_at hl 0 rfl) ?_
  refine iv_get (v' := .ref (ad 0 0)) hx hb hts inX5 hown hK hh.1 (ob_X) rfl 0 (by decide) (hts _ q1_201) rfl rfl rfl dX5_set_5 ?_
  obtain ⟨g1, h⟩ := h
  refine iv_kv (iv_rV (As := [.ref (ad 0 0)]) (rest := []) E hh (ok_X2_note l hinj S (by decide) g1) cb_X2_note q1_221 rfl rfl ⟨Nat.le_of_ble_eq_true rfl, Nat.le_of_ble_eq_true rfl⟩ (ob_Hist) rfl rfl rfl hl.1 rfl (Nat.le_of_ble_eq_true rfl) dX5_set_8 ⟨Nat.zero_le _, Nat.zero_le _⟩) hh (fun H locs hh => ?_)
  refine lv_aload_n hx hb dX5_set_11 rfl (lv_at hl 0 rfl) ?_
  refine lv_aload_n hx hb dX5_set_12 rfl (lv_at hl 0 rfl) ?_
  refine iv_get (v' := .ref (ad 0 0)) hx hb hts inX5 hown hK hh.1 (ob_X) rfl 0 (by decide) (hts _ q1_201) rfl rfl rfl dX5_set_13 ?_
  refine lv_iload_n hx hb dX5_set_16 rfl (lv_at hl 1 rfl) ?_
  refine lv_iload_n hx hb dX5_set_17 rfl (lv_at hl 2 rfl) ?_
  refine iv_ki (iv_rV (As := [.int (hI what), .int (hI value)]) (rest := [.ref (ad 11 0)]) E hh (ok_X1_changeSetting l hinj (m_X2_note S 0) (by decide) ((m_X2_note S 0) 0) rfl what value h_what h_value) cb_X1_changeSetting q2_181 rfl rfl ⟨Nat.le_of_ble_eq_true rfl, Nat.le_of_ble_eq_true rfl⟩ (ob_Font (by decide)) rfl rfl rfl hl.1 rfl (Nat.le_of_ble_eq_true rfl) dX5_set_18 ⟨Nat.zero_le _, Nat.zero_le _⟩) hh (fun hc2 H locs hh => ?_)
  obtain ⟨g3, h⟩ := h
  refine iv_ki (iv_rV (As := [.int (hI (v_X1_changeSetting ((m_X2_note S 0) 0) what value))]) (rest := []) E hh (ok_X5_settled l hinj (gset (m_X2_note S 0) 0 (m_X1_changeSetting ((m_X2_note S 0) 0) what value)) (v_X1_changeSetting ((m_X2_note S 0) 0) what value) hc2 g3) cb_X5_settled q2_16 rfl rfl ⟨Nat.le_of_ble_eq_true rfl, Nat.le_of_ble_eq_true rfl⟩ (ob_X) rfl rfl rfl hl.1 rfl (Nat.le_of_ble_eq_true rfl) dX5_set_21 ⟨Nat.zero_le _, Nat.zero_le _⟩) hh (fun hc4 H locs hh => ?_)
  exact iv_iret E hh rfl (by rw [← show (v_X5_settled (gset (m_X2_note S 0) 0 (m_X1_changeSetting ((m_X2_note S 0) 0) what value)) (v_X1_changeSetting ((m_X2_note S 0) 0) what value)) = v_X5_set S what value from rfl]; exact hc4) rfl dX5_set_24
set_option maxHeartbeats 4000000 in
set_option maxRecDepth 100000 in
theorem ok_X5_stemOf (l : Launch) (hinj : hInj ad) (S : hS) (glyph : Int) (stem : Int) (what : Int) (h_glyph : hIn glyph) (h_stem : hIn stem) (h_what : hIn what) (hp : p_X5_stemOf S glyph stem what) : hMi D ad cI cJ cF l yX5_stemOf cX5_stemOf 7 (some .int) ({ frames := 4, cells := 0, slots := 0, locals := 92 } : Room) [.ref (ad 11 0), .int (hI glyph), .int (hI stem), .int (hI what)] S (v_X5_stemOf S glyph stem what) S := by
  refine hOf (S := S) l hinj (by decide +kernel) (Nat.le_of_ble_eq_true rfl) (fun p e s m args below meth c E => ?_)
  obtain ⟨hx, hb, hml, hown, hts, hK, hN, -, hr, hlk⟩ := id E
  have hown : s.vm.findClass RX5 = some m.cls := hown
  intro H locs ls hh hl
  have hl : lv_has ls 7 [(0, .ref (ad 11 0)), (1, .int (hI glyph)), (2, .int (hI stem)), (3, .int (hI what))] := hl
  have h := hp
  unfold p_X5_stemOf at h
  refine lv_aload_n hx hb dX5_stemOf_0 rfl (lv_at hl 0 rfl) ?_
  refine iv_get (v' := .ref (ad 0 0)) hx hb hts inX5 hown hK hh.1 (ob_X) rfl 0 (by decide) (hts _ q1_201) rfl rfl rfl dX5_stemOf_1 ?_
  refine lv_iload_n hx hb dX5_stemOf_4 rfl (lv_at hl 1 rfl) ?_
  refine lv_iload_n hx hb dX5_stemOf_5 rfl (lv_at hl 2 rfl) ?_
  obtain ⟨g1, h⟩ := h
  refine iv_ki (iv_rV (As := [.int (hI glyph), .int (hI stem)]) (rest := []) E hh (ok_X1_hasStem l hinj S (by decide) (S 0) rfl glyph stem h_glyph h_stem g1) cb_X1_hasStem q2_189 rfl rfl ⟨Nat.le_of_ble_eq_true rfl, Nat.le_of_ble_eq_true rfl⟩ (ob_Font (by decide)) rfl rfl rfl hl.1 rfl (Nat.le_of_ble_eq_true rfl) dX5_stemOf_6 ⟨Nat.zero_le _, Nat.zero_le _⟩) hh (fun hc2 H locs hh => ?_)
  refine iv_if_eq (tgt := 22) hx hb hc2 dX5_stemOf_9 (by decide) (fun c3 => ?_) (fun c3 => ?_)
  · have h := h.1 c3
    refine iv_ldc (n := (-1000001)) hx hb (by decide) hown (hts _ q2_190) dX5_stemOf_22 ?_
    exact iv_iret E hh (by unfold v_X5_stemOf; rw [if_pos c3]) (by rw [← show (-1000001) = v_X5_stemOf S glyph stem what from (by unfold v_X5_stemOf; rw [if_pos c3])]; exact ⟨by decide, by decide⟩) rfl dX5_stemOf_24
  · have h := h.2 c3
    refine lv_iload_n hx hb dX5_stemOf_12 rfl (lv_at hl 3 rfl) ?_
    refine iv_iconst hx hb dX5_stemOf_13 ?_
    refine lv_bipush (v := hI 6) hx hb dX5_stemOf_14 (by decide) ?_
    refine iv_ki (iv_rS (As := [.int (hI what), .int (hI 0), .int (hI 6)]) (rest := []) E hh (ok_X5_within l hinj S what 0 6 h_what ⟨by decide, by decide⟩ ⟨by decide, by decide⟩) cb_X5_within q2_114 rfl rfl ⟨Nat.le_of_ble_eq_true rfl, Nat.le_of_ble_eq_true rfl⟩ rfl hl.1 rfl (Nat.le_of_ble_eq_true rfl) dX5_stemOf_16 ⟨Nat.zero_le _, Nat.zero_le _⟩) hh (fun hc4 H locs hh => ?_)
    refine iv_if_ne (tgt := 25) hx hb hc4 dX5_stemOf_19 (by decide) (fun c5 => ?_) (fun c5 => ?_)
    · have h := h.2 c5
      refine lv_iload_n hx hb dX5_stemOf_25 rfl (lv_at hl 1 rfl) ?_
      refine lv_bipush (v := hI 6) hx hb dX5_stemOf_26 (by decide) ?_
      refine iv_imul hx hb dX5_stemOf_28 ?_
      refine lv_iload_n hx hb dX5_stemOf_29 rfl (lv_at hl 2 rfl) ?_
      refine iv_iadd hx hb dX5_stemOf_30 ?_
      refine lv_istore (lv' := [(4, .int (hI ((glyph * 6) + stem))), (0, .ref (ad 11 0)), (1, .int (hI glyph)), (2, .int (hI stem)), (3, .int (hI what))]) hx hb dX5_stemOf_31 hl (by decide) rfl (fun ls hl => ?_)
      refine lv_aload_n hx hb dX5_stemOf_33 rfl (lv_at hl 1 rfl) ?_
      refine iv_get (v' := .ref (ad 0 0)) hx hb hts inX5 hown hK hh.1 (ob_X) rfl 0 (by decide) (hts _ q1_201) rfl rfl rfl dX5_stemOf_34 ?_
      refine iv_getN (v' := .ref (ad 0 4)) hx hb hts inX1 hown hK hh.1 (ob_Font (by decide)) rfl 7 (by decide) (hN _ q1_78) rfl rfl rfl dX5_stemOf_37 ?_
      refine lv_iload hx hb dX5_stemOf_40 (lv_at hl 0 rfl) ?_
      obtain ⟨g6, h⟩ := h
      refine iv_ki (iv_rS (As := [.ref (ad 0 4), .int (hI ((glyph * 6) + stem))]) (rest := []) E hh (ok_X5_cell l hinj S (ia_F_4 (by decide)) (S 0) rfl ((glyph * 6) + stem) g6) cb_X5_cell q2_191 rfl rfl ⟨Nat.le_of_ble_eq_true rfl, Nat.le_of_ble_eq_true rfl⟩ rfl hl.1 rfl (Nat.le_of_ble_eq_true rfl) dX5_stemOf_42 ⟨Nat.zero_le _, Nat.zero_le _⟩) hh (fun hc7 H locs hh => ?_)
      refine lv_istore (lv' := [(5, .int (hI (v_X5_cell (S 0) 4 48 ((glyph * 6) + stem)))), (4, .int (hI ((glyph * 6) + stem))), (0, .ref (ad 11 0)), (1, .int (hI glyph)), (2, .int (hI stem)), (3, .int (hI what))]) hx hb dX5_stemOf_45 hl (by decide) rfl (fun ls hl => ?_)
      refine lv_iload_n hx hb dX5_stemOf_47 rfl (lv_at hl 5 rfl) ?_
      by_cases c8 : what = 0
      · have h := h.1 c8
        refine lv_tableIn (off := 40) (tgt := 88) hx hb dX5_stemOf_48 (by rw [hI_toInt h_what, c8]; decide) (by rw [hI_toInt h_what, c8]; decide) (by rw [hI_toInt h_what, c8]; rfl) (by decide) ?_
        refine lv_aload_n hx hb dX5_stemOf_88 rfl (lv_at hl 2 rfl) ?_
        refine iv_get (v' := .ref (ad 0 0)) hx hb hts inX5 hown hK hh.1 (ob_X) rfl 0 (by decide) (hts _ q1_201) rfl rfl rfl dX5_stemOf_89 ?_
        refine iv_getN (v' := .ref (ad 0 3)) hx hb hts inX1 hown hK hh.1 (ob_Font (by decide)) rfl 6 (by decide) (hN _ q1_75) rfl rfl rfl dX5_stemOf_92 ?_
        refine lv_iload hx hb dX5_stemOf_95 (lv_at hl 1 rfl) ?_
        refine iv_ki (iv_rS (As := [.ref (ad 0 3), .int (hI ((glyph * 6) + stem))]) (rest := []) E hh (ok_X5_cell l hinj S (ia_F_3 (by decide)) (S 0) rfl ((glyph * 6) + stem) g6) cb_X5_cell q2_191 rfl rfl ⟨Nat.le_of_ble_eq_true rfl, Nat.le_of_ble_eq_true rfl⟩ rfl hl.1 rfl (Nat.le_of_ble_eq_true rfl) dX5_stemOf_97 ⟨Nat.zero_le _, Nat.zero_le _⟩) hh (fun hc9 H locs hh => ?_)
        exact iv_iret E hh (by unfold v_X5_stemOf; rw [if_neg c3, if_neg c5, if_pos c8]) (by rw [← show (v_X5_cell (S 0) 3 48 ((glyph * 6) + stem)) = v_X5_stemOf S glyph stem what from (by unfold v_X5_stemOf; rw [if_neg c3, if_neg c5, if_pos c8])]; exact hc9) rfl dX5_stemOf_100
      · have h := h.2 c8
        by_cases c10 : what = 1
        · have h := h.1 c10
          refine lv_tableIn (off := 53) (tgt := 101) hx hb dX5_stemOf_48 (by rw [hI_toInt h_what, c10]; decide) (by rw [hI_toInt h_what, c10]; decide) (by rw [hI_toInt h_what, c10]; rfl) (by decide) ?_
          refine lv_iload hx hb dX5_stemOf_101 (lv_at hl 0 rfl) ?_
          exact iv_iret E hh (by unfold v_X5_stemOf; rw [if_neg c3, if_neg c5, if_neg c8, if_pos c10]) (by rw [← show (v_X5_cell (S 0) 4 48 ((glyph * 6) + stem)) = v_X5_stemOf S glyph stem what from (by unfold v_X5_stemOf; rw [if_neg c3, if_neg c5, if_neg c8, if_pos c10])]; exact hc7) rfl dX5_stemOf_103
        · have h := h.2 c10
          by_cases c11 : what = 2
          · have h := h.1 c11
            refine lv_tableIn (off := 56) (tgt := 104) hx hb dX5_stemOf_48 (by rw [hI_toInt h_what, c11]; decide) (by rw [hI_toInt h_what, c11]; decide) (by rw [hI_toInt h_what, c11]; rfl) (by decide) ?_
            refine lv_aload_n hx hb dX5_stemOf_104 rfl (lv_at hl 2 rfl) ?_
            refine iv_get (v' := .ref (ad 0 0)) hx hb hts inX5 hown hK hh.1 (ob_X) rfl 0 (by decide) (hts _ q1_201) rfl rfl rfl dX5_stemOf_105 ?_
            refine iv_getN (v' := .ref (ad 0 5)) hx hb hts inX1 hown hK hh.1 (ob_Font (by decide)) rfl 8 (by decide) (hN _ q1_81) rfl rfl rfl dX5_stemOf_108 ?_
            refine lv_iload hx hb dX5_stemOf_111 (lv_at hl 1 rfl) ?_
            refine iv_ki (iv_rS (As := [.ref (ad 0 5), .int (hI ((glyph * 6) + stem))]) (rest := []) E hh (ok_X5_cell l hinj S (ia_F_5 (by decide)) (S 0) rfl ((glyph * 6) + stem) g6) cb_X5_cell q2_191 rfl rfl ⟨Nat.le_of_ble_eq_true rfl, Nat.le_of_ble_eq_true rfl⟩ rfl hl.1 rfl (Nat.le_of_ble_eq_true rfl) dX5_stemOf_113 ⟨Nat.zero_le _, Nat.zero_le _⟩) hh (fun hc12 H locs hh => ?_)
            exact iv_iret E hh (by unfold v_X5_stemOf; rw [if_neg c3, if_neg c5, if_neg c8, if_neg c10, if_pos c11]) (by rw [← show (v_X5_cell (S 0) 5 48 ((glyph * 6) + stem)) = v_X5_stemOf S glyph stem what from (by unfold v_X5_stemOf; rw [if_neg c3, if_neg c5, if_neg c8, if_neg c10, if_pos c11])]; exact hc12) rfl dX5_stemOf_116
          · have h := h.2 c11
            by_cases c13 : what = 3
            · have h := h.1 c13
              refine lv_tableIn (off := 69) (tgt := 117) hx hb dX5_stemOf_48 (by rw [hI_toInt h_what, c13]; decide) (by rw [hI_toInt h_what, c13]; decide) (by rw [hI_toInt h_what, c13]; rfl) (by decide) ?_
              refine lv_aload_n hx hb dX5_stemOf_117 rfl (lv_at hl 2 rfl) ?_
              refine iv_get (v' := .ref (ad 0 0)) hx hb hts inX5 hown hK hh.1 (ob_X) rfl 0 (by decide) (hts _ q1_201) rfl rfl rfl dX5_stemOf_118 ?_
              refine lv_iload hx hb dX5_stemOf_121 (lv_at hl 0 rfl) ?_
              obtain ⟨g14, h⟩ := h
              refine iv_ki (iv_rV (As := [.int (hI (v_X5_cell (S 0) 4 48 ((glyph * 6) + stem)))]) (rest := []) E hh (ok_X1_hintedWidth l hinj S (by decide) (S 0) rfl (v_X5_cell (S 0) 4 48 ((glyph * 6) + stem)) hc7 g14) cb_X1_hintedWidth q2_192 rfl rfl ⟨Nat.le_of_ble_eq_true rfl, Nat.le_of_ble_eq_true rfl⟩ (ob_Font (by decide)) rfl rfl rfl hl.1 rfl (Nat.le_of_ble_eq_true rfl) dX5_stemOf_123 ⟨Nat.zero_le _, Nat.zero_le _⟩) hh (fun hc15 H locs hh => ?_)
              exact iv_iret E hh (by unfold v_X5_stemOf; rw [if_neg c3, if_neg c5, if_neg c8, if_neg c10, if_neg c11, if_pos c13]) (by rw [← show (v_X1_hintedWidth (S 0) (v_X5_cell (S 0) 4 48 ((glyph * 6) + stem))) = v_X5_stemOf S glyph stem what from (by unfold v_X5_stemOf; rw [if_neg c3, if_neg c5, if_neg c8, if_neg c10, if_neg c11, if_pos c13])]; exact hc15) rfl dX5_stemOf_126
            · have h := h.2 c13
              by_cases c16 : what = 4
              · have h := h.1 c16
                refine lv_tableIn (off := 79) (tgt := 127) hx hb dX5_stemOf_48 (by rw [hI_toInt h_what, c16]; decide) (by rw [hI_toInt h_what, c16]; decide) (by rw [hI_toInt h_what, c16]; rfl) (by decide) ?_
                refine lv_aload_n hx hb dX5_stemOf_127 rfl (lv_at hl 2 rfl) ?_
                refine iv_get (v' := .ref (ad 0 0)) hx hb hts inX5 hown hK hh.1 (ob_X) rfl 0 (by decide) (hts _ q1_201) rfl rfl rfl dX5_stemOf_128 ?_
                refine lv_iload hx hb dX5_stemOf_131 (lv_at hl 0 rfl) ?_
                obtain ⟨g17, h⟩ := h
                refine iv_ki (iv_rV (As := [.int (hI (v_X5_cell (S 0) 4 48 ((glyph * 6) + stem)))]) (rest := []) E hh (ok_X1_snapOf l hinj S (by decide) (S 0) rfl (v_X5_cell (S 0) 4 48 ((glyph * 6) + stem)) hc7 g17) cb_X1_snapOf q2_196 rfl rfl ⟨Nat.le_of_ble_eq_true rfl, Nat.le_of_ble_eq_true rfl⟩ (ob_Font (by decide)) rfl rfl rfl hl.1 rfl (Nat.le_of_ble_eq_true rfl) dX5_stemOf_133 ⟨Nat.zero_le _, Nat.zero_le _⟩) hh (fun hc18 H locs hh => ?_)
                refine lv_istore (lv' := [(6, .int (hI (v_X1_snapOf (S 0) (v_X5_cell (S 0) 4 48 ((glyph * 6) + stem))))), (5, .int (hI (v_X5_cell (S 0) 4 48 ((glyph * 6) + stem)))), (4, .int (hI ((glyph * 6) + stem))), (0, .ref (ad 11 0)), (1, .int (hI glyph)), (2, .int (hI stem)), (3, .int (hI what))]) hx hb dX5_stemOf_136 hl (by decide) rfl (fun ls hl => ?_)
                refine lv_iload hx hb dX5_stemOf_138 (lv_at hl 0 rfl) ?_
                refine iv_if_ne (tgt := 148) hx hb hc18 dX5_stemOf_140 (by decide) (fun c19 => ?_) (fun c19 => ?_)
                · have h := h.2 c19
                  refine lv_iload hx hb dX5_stemOf_148 (lv_at hl 0 rfl) ?_
                  exact iv_iret E hh (by unfold v_X5_stemOf; rw [if_neg c3, if_neg c5, if_neg c8, if_neg c10, if_neg c11, if_neg c13, if_pos c16, if_neg c19]) (by rw [← show (v_X1_snapOf (S 0) (v_X5_cell (S 0) 4 48 ((glyph * 6) + stem))) = v_X5_stemOf S glyph stem what from (by unfold v_X5_stemOf; rw [if_neg c3, if_neg c5, if_neg c8, if_neg c10, if_neg c11, if_neg c13, if_pos c16, if_neg c19])]; exact hc18) rfl dX5_stemOf_150
                · have h := h.1 c19
                  refine iv_ldc (n := (-1000004)) hx hb (by decide) hown (hts _ q2_197) dX5_stemOf_143 ?_
                  refine lv_goto (tgt := 150) hx hb dX5_stemOf_145 (by decide) ?_
                  exact iv_iret E hh (by unfold v_X5_stemOf; rw [if_neg c3, if_neg c5, if_neg c8, if_neg c10, if_neg c11, if_neg c13, if_pos c16, if_pos c19]) (by rw [← show (-1000004) = v_X5_stemOf S glyph stem what from (by unfold v_X5_stemOf; rw [if_neg c3, if_neg c5, if_neg c8, if_neg c10, if_neg c11, if_neg c13, if_pos c16, if_pos c19])]; exact ⟨by decide, by decide⟩) rfl dX5_stemOf_150
              · have h := h.2 c16
                by_cases c20 : what = 5
                · have h := h.1 c20
                  refine lv_tableIn (off := 103) (tgt := 151) hx hb dX5_stemOf_48 (by rw [hI_toInt h_what, c20]; decide) (by rw [hI_toInt h_what, c20]; decide) (by rw [hI_toInt h_what, c20]; rfl) (by decide) ?_
                  refine lv_aload_n hx hb dX5_stemOf_151 rfl (lv_at hl 2 rfl) ?_
                  refine iv_get (v' := .ref (ad 0 0)) hx hb hts inX5 hown hK hh.1 (ob_X) rfl 0 (by decide) (hts _ q1_201) rfl rfl rfl dX5_stemOf_152 ?_
                  refine lv_iload hx hb dX5_stemOf_155 (lv_at hl 0 rfl) ?_
                  obtain ⟨g21, h⟩ := h
                  refine iv_ki (iv_rV (As := [.int (hI (v_X5_cell (S 0) 4 48 ((glyph * 6) + stem)))]) (rest := []) E hh (ok_X1_alikeWith l hinj S (by decide) (S 0) rfl (v_X5_cell (S 0) 4 48 ((glyph * 6) + stem)) hc7 g21) cb_X1_alikeWith q2_198 rfl rfl ⟨Nat.le_of_ble_eq_true rfl, Nat.le_of_ble_eq_true rfl⟩ (ob_Font (by decide)) rfl rfl rfl hl.1 rfl (Nat.le_of_ble_eq_true rfl) dX5_stemOf_157 ⟨Nat.zero_le _, Nat.zero_le _⟩) hh (fun hc22 H locs hh => ?_)
                  exact iv_iret E hh (by unfold v_X5_stemOf; rw [if_neg c3, if_neg c5, if_neg c8, if_neg c10, if_neg c11, if_neg c13, if_neg c16, if_pos c20]) (by rw [← show (v_X1_alikeWith (S 0) (v_X5_cell (S 0) 4 48 ((glyph * 6) + stem))) = v_X5_stemOf S glyph stem what from (by unfold v_X5_stemOf; rw [if_neg c3, if_neg c5, if_neg c8, if_neg c10, if_neg c11, if_neg c13, if_neg c16, if_pos c20])]; exact hc22) rfl dX5_stemOf_160
                · have h := h.2 c20
                  refine lv_tableOut (tgt := 161) hx hb dX5_stemOf_48 (by rw [hI_toInt h_what]; omega) (by decide) ?_
                  refine lv_iload_n hx hb dX5_stemOf_161 rfl (lv_at hl 4 rfl) ?_
                  refine iv_if_ne (tgt := 170) hx hb h_stem dX5_stemOf_162 (by decide) (fun c23 => ?_) (fun c23 => ?_)
                  · have h := h.2 c23
                    refine lv_aload_n hx hb dX5_stemOf_170 rfl (lv_at hl 2 rfl) ?_
                    refine iv_get (v' := .ref (ad 0 0)) hx hb hts inX5 hown hK hh.1 (ob_X) rfl 0 (by decide) (hts _ q1_201) rfl rfl rfl dX5_stemOf_171 ?_
                    refine iv_getN (v' := .ref (ad 0 3)) hx hb hts inX1 hown hK hh.1 (ob_Font (by decide)) rfl 6 (by decide) (hN _ q1_75) rfl rfl rfl dX5_stemOf_174 ?_
                    refine lv_iload hx hb dX5_stemOf_177 (lv_at hl 1 rfl) ?_
                    refine iv_ki (iv_rS (As := [.ref (ad 0 3), .int (hI ((glyph * 6) + stem))]) (rest := []) E hh (ok_X5_cell l hinj S (ia_F_3 (by decide)) (S 0) rfl ((glyph * 6) + stem) g6) cb_X5_cell q2_191 rfl rfl ⟨Nat.le_of_ble_eq_true rfl, Nat.le_of_ble_eq_true rfl⟩ rfl hl.1 rfl (Nat.le_of_ble_eq_true rfl) dX5_stemOf_179 ⟨Nat.zero_le _, Nat.zero_le _⟩) hh (fun hc24 H locs hh => ?_)
                    refine lv_aload_n hx hb dX5_stemOf_182 rfl (lv_at hl 2 rfl) ?_
                    refine iv_get (v' := .ref (ad 0 0)) hx hb hts inX5 hown hK hh.1 (ob_X) rfl 0 (by decide) (hts _ q1_201) rfl rfl rfl dX5_stemOf_183 ?_
                    refine lv_iload hx hb dX5_stemOf_186 (lv_at hl 1 rfl) ?_
                    refine iv_iconst hx hb dX5_stemOf_188 ?_
                    refine iv_isub hx hb dX5_stemOf_189 ?_
                    obtain ⟨g25, h⟩ := h
                    obtain ⟨g26, h⟩ := h
                    refine iv_ki (iv_rV (As := [.int (hI (((glyph * 6) + stem) - 1))]) (rest := [.int (hI (v_X5_cell (S 0) 3 48 ((glyph * 6) + stem)))]) E hh (ok_X1_endOf l hinj S (by decide) (S 0) rfl (((glyph * 6) + stem) - 1) g25 g26) cb_X1_endOf q2_203 rfl rfl ⟨Nat.le_of_ble_eq_true rfl, Nat.le_of_ble_eq_true rfl⟩ (ob_Font (by decide)) rfl rfl rfl hl.1 rfl (Nat.le_of_ble_eq_true rfl) dX5_stemOf_190 ⟨Nat.zero_le _, Nat.zero_le _⟩) hh (fun hc27 H locs hh => ?_)
                    refine iv_isub hx hb dX5_stemOf_193 ?_
                    obtain ⟨g28, h⟩ := h
                    exact iv_iret E hh (by unfold v_X5_stemOf; rw [if_neg c3, if_neg c5, if_neg c8, if_neg c10, if_neg c11, if_neg c13, if_neg c16, if_neg c20, if_neg c23]) (by rw [← show ((v_X5_cell (S 0) 3 48 ((glyph * 6) + stem)) - (v_X1_endOf (S 0) (((glyph * 6) + stem) - 1))) = v_X5_stemOf S glyph stem what from (by unfold v_X5_stemOf; rw [if_neg c3, if_neg c5, if_neg c8, if_neg c10, if_neg c11, if_neg c13, if_neg c16, if_neg c20, if_neg c23])]; exact g28) rfl dX5_stemOf_194
                  · have h := h.1 c23
                    refine iv_ldc (n := (-1000004)) hx hb (by decide) hown (hts _ q2_197) dX5_stemOf_165 ?_
                    refine lv_goto (tgt := 194) hx hb dX5_stemOf_167 (by decide) ?_
                    exact iv_iret E hh (by unfold v_X5_stemOf; rw [if_neg c3, if_neg c5, if_neg c8, if_neg c10, if_neg c11, if_neg c13, if_neg c16, if_neg c20, if_pos c23]) (by rw [← show (-1000004) = v_X5_stemOf S glyph stem what from (by unfold v_X5_stemOf; rw [if_neg c3, if_neg c5, if_neg c8, if_neg c10, if_neg c11, if_neg c13, if_neg c16, if_neg c20, if_pos c23])]; exact ⟨by decide, by decide⟩) rfl dX5_stemOf_194
    · have h := h.1 c5
      refine iv_ldc (n := (-1000001)) hx hb (by decide) hown (hts _ q2_190) dX5_stemOf_22 ?_
      exact iv_iret E hh (by unfold v_X5_stemOf; rw [if_neg c3, if_pos c5]) (by rw [← show (-1000001) = v_X5_stemOf S glyph stem what from (by unfold v_X5_stemOf; rw [if_neg c3, if_pos c5])]; exact ⟨by decide, by decide⟩) rfl dX5_stemOf_24
set_option maxHeartbeats 4000000 in
set_option maxRecDepth 100000 in
theorem ok_X5_pixels (l : Launch) (hinj : hInj ad) (S : hS) (glyph : Int) (stem : Int) (size : Int) (what : Int) (h_glyph : hIn glyph) (h_stem : hIn stem) (h_size : hIn size) (h_what : hIn what) (hp : p_X5_pixels S glyph stem size what) : hMi D ad cI cJ cF l yX5_pixels cX5_pixels 5 (some .int) ({ frames := 4, cells := 0, slots := 0, locals := 101 } : Room) [.ref (ad 11 0), .int (hI glyph), .int (hI stem), .int (hI size), .int (hI what)] S (v_X5_pixels S glyph stem size what) (m_X5_pixels S glyph stem size what) := by
  refine hOf (S := S) l hinj (by decide +kernel) (Nat.le_of_ble_eq_true rfl) (fun p e s m args below meth c E => ?_)
  obtain ⟨hx, hb, hml, hown, hts, hK, hN, -, hr, hlk⟩ := id E
  have hown : s.vm.findClass RX5 = some m.cls := hown
  intro H locs ls hh hl
  have hl : lv_has ls 5 [(0, .ref (ad 11 0)), (1, .int (hI glyph)), (2, .int (hI stem)), (3, .int (hI size)), (4, .int (hI what))] := hl
  have h := hp
  unfold p_X5_pixels at h
  refine lv_aload_n hx hb dX5_pixels_0 rfl (lv_at hl 0 rfl) ?_
  refine iv_get (v' := .ref (ad 0 0)) hx hb hts inX5 hown hK hh.1 (ob_X) rfl 0 (by decide) (hts _ q1_201) rfl rfl rfl dX5_pixels_1 ?_
  refine lv_iload_n hx hb dX5_pixels_4 rfl (lv_at hl 1 rfl) ?_
  refine lv_iload_n hx hb dX5_pixels_5 rfl (lv_at hl 2 rfl) ?_
  obtain ⟨g1, h⟩ := h
  refine iv_ki (iv_rV (As := [.int (hI glyph), .int (hI stem)]) (rest := []) E hh (ok_X1_hasStem l hinj S (by decide) (S 0) rfl glyph stem h_glyph h_stem g1) cb_X1_hasStem q2_189 rfl rfl ⟨Nat.le_of_ble_eq_true rfl, Nat.le_of_ble_eq_true rfl⟩ (ob_Font (by decide)) rfl rfl rfl hl.1 rfl (Nat.le_of_ble_eq_true rfl) dX5_pixels_6 ⟨Nat.zero_le _, Nat.zero_le _⟩) hh (fun hc2 H locs hh => ?_)
  refine iv_if_eq (tgt := 29) hx hb hc2 dX5_pixels_9 (by decide) (fun c3 => ?_) (fun c3 => ?_)
  · have h := h.1 c3
    refine iv_ldc (n := (-1000001)) hx hb (by decide) hown (hts _ q2_190) dX5_pixels_29 ?_
    exact iv_iret E hh (by unfold v_X5_pixels; rw [if_pos c3]) (by rw [← show (-1000001) = v_X5_pixels S glyph stem size what from (by unfold v_X5_pixels; rw [if_pos c3])]; exact ⟨by decide, by decide⟩) (by unfold m_X5_pixels; rw [if_pos c3]) dX5_pixels_31
  · have h := h.2 c3
    refine lv_iload_n hx hb dX5_pixels_12 rfl (lv_at hl 3 rfl) ?_
    refine iv_ki (iv_rS (As := [.int (hI size)]) (rest := []) E hh (ok_X5_isSize l hinj S size h_size) cb_X5_isSize q2_208 rfl rfl ⟨Nat.le_of_ble_eq_true rfl, Nat.le_of_ble_eq_true rfl⟩ rfl hl.1 rfl (Nat.le_of_ble_eq_true rfl) dX5_pixels_13 ⟨Nat.zero_le _, Nat.zero_le _⟩) hh (fun hc4 H locs hh => ?_)
    refine iv_if_eq (tgt := 29) hx hb hc4 dX5_pixels_16 (by decide) (fun c5 => ?_) (fun c5 => ?_)
    · have h := h.1 c5
      refine iv_ldc (n := (-1000001)) hx hb (by decide) hown (hts _ q2_190) dX5_pixels_29 ?_
      exact iv_iret E hh (by unfold v_X5_pixels; rw [if_neg c3, if_pos c5]) (by rw [← show (-1000001) = v_X5_pixels S glyph stem size what from (by unfold v_X5_pixels; rw [if_neg c3, if_pos c5])]; exact ⟨by decide, by decide⟩) (by unfold m_X5_pixels; rw [if_neg c3, if_pos c5]) dX5_pixels_31
    · have h := h.2 c5
      refine lv_iload hx hb dX5_pixels_19 (lv_at hl 4 rfl) ?_
      refine iv_iconst hx hb dX5_pixels_21 ?_
      refine iv_iconst hx hb dX5_pixels_22 ?_
      refine iv_ki (iv_rS (As := [.int (hI what), .int (hI 0), .int (hI 3)]) (rest := []) E hh (ok_X5_within l hinj S what 0 3 h_what ⟨by decide, by decide⟩ ⟨by decide, by decide⟩) cb_X5_within q2_114 rfl rfl ⟨Nat.le_of_ble_eq_true rfl, Nat.le_of_ble_eq_true rfl⟩ rfl hl.1 rfl (Nat.le_of_ble_eq_true rfl) dX5_pixels_23 ⟨Nat.zero_le _, Nat.zero_le _⟩) hh (fun hc6 H locs hh => ?_)
      refine iv_if_ne (tgt := 32) hx hb hc6 dX5_pixels_26 (by decide) (fun c7 => ?_) (fun c7 => ?_)
      · have h := h.2 c7
        refine lv_aload_n hx hb dX5_pixels_32 rfl (lv_at hl 0 rfl) ?_
        refine iv_get (v' := .ref (ad 7 0)) hx hb hts inX5 hown hK hh.1 (ob_X) rfl 2 (by decide) (hts _ q1_203) rfl rfl rfl dX5_pixels_33 ?_
        refine lv_aload_n hx hb dX5_pixels_36 rfl (lv_at hl 0 rfl) ?_
        refine iv_get (v' := .ref (ad 0 0)) hx hb hts inX5 hown hK hh.1 (ob_X) rfl 0 (by decide) (hts _ q1_201) rfl rfl rfl dX5_pixels_37 ?_
        refine lv_iload_n hx hb dX5_pixels_40 rfl (lv_at hl 1 rfl) ?_
        refine lv_iload_n hx hb dX5_pixels_41 rfl (lv_at hl 3 rfl) ?_
        obtain ⟨g8, h⟩ := h
        refine iv_kv (iv_rV (As := [.ref (ad 0 0), .int (hI glyph), .int (hI size)]) (rest := []) E hh (ok_X0_lay l hinj S (by decide) (S 0) rfl (S 7) rfl glyph size h_glyph h_size g8) cb_X0_lay q2_209 rfl rfl ⟨Nat.le_of_ble_eq_true rfl, Nat.le_of_ble_eq_true rfl⟩ (ob_Fit) rfl rfl rfl hl.1 rfl (Nat.le_of_ble_eq_true rfl) dX5_pixels_42 ⟨Nat.zero_le _, Nat.zero_le _⟩) hh (fun H locs hh => ?_)
        refine lv_iload hx hb dX5_pixels_45 (lv_at hl 4 rfl) ?_
        by_cases c9 : what = 0
        · have h := h.1 c9
          refine lv_tableIn (off := 25) (tgt := 72) hx hb dX5_pixels_47 (by rw [hI_toInt h_what, c9]; decide) (by rw [hI_toInt h_what, c9]; decide) (by rw [hI_toInt h_what, c9]; rfl) (by decide) ?_
          refine lv_aload_n hx hb dX5_pixels_72 rfl (lv_at hl 0 rfl) ?_
          refine iv_get (v' := .ref (ad 7 0)) hx hb hts inX5 hown hK hh.1 (ob_X) rfl 2 (by decide) (hts _ q1_203) rfl rfl rfl dX5_pixels_73 ?_
          refine iv_getN (v' := .ref (ad 7 1)) hx hb hts inX0 hown hK hh.1 (ob_Fit) rfl 4 (by decide) (hN _ q1_126) rfl rfl rfl dX5_pixels_76 ?_
          refine lv_iload_n hx hb dX5_pixels_79 rfl (lv_at hl 2 rfl) ?_
          refine iv_ki (iv_rS (As := [.ref (ad 7 1), .int (hI stem)]) (rest := []) E hh (ok_X5_cell l hinj (gset S 7 (m_X0_lay (S 0) (S 7) glyph size)) (ia_7_1) ((gset S 7 (m_X0_lay (S 0) (S 7) glyph size)) 7) rfl stem h_stem) cb_X5_cell q2_191 rfl rfl ⟨Nat.le_of_ble_eq_true rfl, Nat.le_of_ble_eq_true rfl⟩ rfl hl.1 rfl (Nat.le_of_ble_eq_true rfl) dX5_pixels_80 ⟨Nat.zero_le _, Nat.zero_le _⟩) hh (fun hc10 H locs hh => ?_)
          exact iv_iret E hh (by unfold v_X5_pixels; rw [if_neg c3, if_neg c5, if_neg c7, if_pos c9]) (by rw [← show (v_X5_cell ((gset S 7 (m_X0_lay (S 0) (S 7) glyph size)) 7) 1 6 stem) = v_X5_pixels S glyph stem size what from (by unfold v_X5_pixels; rw [if_neg c3, if_neg c5, if_neg c7, if_pos c9])]; exact hc10) (by unfold m_X5_pixels; rw [if_neg c3, if_neg c5, if_neg c7, if_pos c9]) dX5_pixels_83
        · have h := h.2 c9
          by_cases c11 : what = 1
          · have h := h.1 c11
            refine lv_tableIn (off := 37) (tgt := 84) hx hb dX5_pixels_47 (by rw [hI_toInt h_what, c11]; decide) (by rw [hI_toInt h_what, c11]; decide) (by rw [hI_toInt h_what, c11]; rfl) (by decide) ?_
            refine lv_aload_n hx hb dX5_pixels_84 rfl (lv_at hl 0 rfl) ?_
            refine iv_get (v' := .ref (ad 7 0)) hx hb hts inX5 hown hK hh.1 (ob_X) rfl 2 (by decide) (hts _ q1_203) rfl rfl rfl dX5_pixels_85 ?_
            refine iv_getN (v' := .ref (ad 7 2)) hx hb hts inX0 hown hK hh.1 (ob_Fit) rfl 5 (by decide) (hN _ q1_128) rfl rfl rfl dX5_pixels_88 ?_
            refine lv_iload_n hx hb dX5_pixels_91 rfl (lv_at hl 2 rfl) ?_
            refine iv_ki (iv_rS (As := [.ref (ad 7 2), .int (hI stem)]) (rest := []) E hh (ok_X5_cell l hinj (gset S 7 (m_X0_lay (S 0) (S 7) glyph size)) (ia_7_2) ((gset S 7 (m_X0_lay (S 0) (S 7) glyph size)) 7) rfl stem h_stem) cb_X5_cell q2_191 rfl rfl ⟨Nat.le_of_ble_eq_true rfl, Nat.le_of_ble_eq_true rfl⟩ rfl hl.1 rfl (Nat.le_of_ble_eq_true rfl) dX5_pixels_92 ⟨Nat.zero_le _, Nat.zero_le _⟩) hh (fun hc12 H locs hh => ?_)
            exact iv_iret E hh (by unfold v_X5_pixels; rw [if_neg c3, if_neg c5, if_neg c7, if_neg c9, if_pos c11]) (by rw [← show (v_X5_cell ((gset S 7 (m_X0_lay (S 0) (S 7) glyph size)) 7) 2 6 stem) = v_X5_pixels S glyph stem size what from (by unfold v_X5_pixels; rw [if_neg c3, if_neg c5, if_neg c7, if_neg c9, if_pos c11])]; exact hc12) (by unfold m_X5_pixels; rw [if_neg c3, if_neg c5, if_neg c7, if_neg c9, if_pos c11]) dX5_pixels_95
          · have h := h.2 c11
            by_cases c13 : what = 2
            · have h := h.1 c13
              refine lv_tableIn (off := 49) (tgt := 96) hx hb dX5_pixels_47 (by rw [hI_toInt h_what, c13]; decide) (by rw [hI_toInt h_what, c13]; decide) (by rw [hI_toInt h_what, c13]; rfl) (by decide) ?_
              refine lv_aload_n hx hb dX5_pixels_96 rfl (lv_at hl 0 rfl) ?_
              refine iv_get (v' := .ref (ad 7 0)) hx hb hts inX5 hown hK hh.1 (ob_X) rfl 2 (by decide) (hts _ q1_203) rfl rfl rfl dX5_pixels_97 ?_
              refine iv_getN (v' := .int (hI (((gset S 7 (m_X0_lay (S 0) (S 7) glyph size)) 7) 0 1))) hx hb hts inX0 hown hK hh.1 (ob_Fit) rfl 1 (by decide) (hN _ q1_119) rfl rfl rfl dX5_pixels_100 ?_
              have hm14 : hIn (((gset S 7 (m_X0_lay (S 0) (S 7) glyph size)) 7) 0 1) := hIn_rd hh.2.1 rfl (by decide)
              refine lv_iload_n hx hb dX5_pixels_103 rfl (lv_at hl 2 rfl) ?_
              refine iv_ishr hx hb dX5_pixels_104 ?_
              refine iv_iconst hx hb dX5_pixels_105 ?_
              refine iv_iand hx hb dX5_pixels_106 ?_
              exact iv_iret E hh (by unfold v_X5_pixels; rw [if_neg c3, if_neg c5, if_neg c7, if_neg c9, if_neg c11, if_pos c13]) (by rw [← show (iAnd (iShr (((gset S 7 (m_X0_lay (S 0) (S 7) glyph size)) 7) 0 1) stem) 1) = v_X5_pixels S glyph stem size what from (by unfold v_X5_pixels; rw [if_neg c3, if_neg c5, if_neg c7, if_neg c9, if_neg c11, if_pos c13])]; exact (hIn_toInt _)) (by unfold m_X5_pixels; rw [if_neg c3, if_neg c5, if_neg c7, if_neg c9, if_neg c11, if_pos c13]) dX5_pixels_107
            · have h := h.2 c13
              refine lv_tableOut (tgt := 108) hx hb dX5_pixels_47 (by rw [hI_toInt h_what]; omega) (by decide) ?_
              refine lv_aload_n hx hb dX5_pixels_108 rfl (lv_at hl 0 rfl) ?_
              refine iv_get (v' := .ref (ad 7 0)) hx hb hts inX5 hown hK hh.1 (ob_X) rfl 2 (by decide) (hts _ q1_203) rfl rfl rfl dX5_pixels_109 ?_
              refine iv_getN (v' := .int (hI (((gset S 7 (m_X0_lay (S 0) (S 7) glyph size)) 7) 0 2))) hx hb hts inX0 hown hK hh.1 (ob_Fit) rfl 2 (by decide) (hN _ q1_121) rfl rfl rfl dX5_pixels_112 ?_
              have hm15 : hIn (((gset S 7 (m_X0_lay (S 0) (S 7) glyph size)) 7) 0 2) := hIn_rd hh.2.1 rfl (by decide)
              refine lv_iload_n hx hb dX5_pixels_115 rfl (lv_at hl 2 rfl) ?_
              refine iv_ishr hx hb dX5_pixels_116 ?_
              refine iv_iconst hx hb dX5_pixels_117 ?_
              refine iv_iand hx hb dX5_pixels_118 ?_
              exact iv_iret E hh (by unfold v_X5_pixels; rw [if_neg c3, if_neg c5, if_neg c7, if_neg c9, if_neg c11, if_neg c13]) (by rw [← show (iAnd (iShr (((gset S 7 (m_X0_lay (S 0) (S 7) glyph size)) 7) 0 2) stem) 1) = v_X5_pixels S glyph stem size what from (by unfold v_X5_pixels; rw [if_neg c3, if_neg c5, if_neg c7, if_neg c9, if_neg c11, if_neg c13])]; exact (hIn_toInt _)) (by unfold m_X5_pixels; rw [if_neg c3, if_neg c5, if_neg c7, if_neg c9, if_neg c11, if_neg c13]) dX5_pixels_119
      · have h := h.1 c7
        refine iv_ldc (n := (-1000001)) hx hb (by decide) hown (hts _ q2_190) dX5_pixels_29 ?_
        exact iv_iret E hh (by unfold v_X5_pixels; rw [if_neg c3, if_neg c5, if_pos c7]) (by rw [← show (-1000001) = v_X5_pixels S glyph stem size what from (by unfold v_X5_pixels; rw [if_neg c3, if_neg c5, if_pos c7])]; exact ⟨by decide, by decide⟩) (by unfold m_X5_pixels; rw [if_neg c3, if_neg c5, if_pos c7]) dX5_pixels_31
set_option maxHeartbeats 4000000 in
set_option maxRecDepth 100000 in
theorem ok_X5_glyphOf (l : Launch) (hinj : hInj ad) (S : hS) (glyph : Int) (size : Int) (what : Int) (h_glyph : hIn glyph) (h_size : hIn size) (h_what : hIn what) (hp : p_X5_glyphOf S glyph size what) : hMi D ad cI cJ cF l yX5_glyphOf cX5_glyphOf 4 (some .int) ({ frames := 4, cells := 0, slots := 0, locals := 101 } : Room) [.ref (ad 11 0), .int (hI glyph), .int (hI size), .int (hI what)] S (v_X5_glyphOf S glyph size what) (m_X5_glyphOf S glyph size what) := by
  refine hOf (S := S) l hinj (by decide +kernel) (Nat.le_of_ble_eq_true rfl) (fun p e s m args below meth c E => ?_)
  obtain ⟨hx, hb, hml, hown, hts, hK, hN, -, hr, hlk⟩ := id E
  have hown : s.vm.findClass RX5 = some m.cls := hown
  intro H locs ls hh hl
  have hl : lv_has ls 4 [(0, .ref (ad 11 0)), (1, .int (hI glyph)), (2, .int (hI size)), (3, .int (hI what))] := hl
  have h := hp
  unfold p_X5_glyphOf at h
  refine lv_aload_n hx hb dX5_glyphOf_0 rfl (lv_at hl 0 rfl) ?_
  refine iv_get (v' := .ref (ad 0 0)) hx hb hts inX5 hown hK hh.1 (ob_X) rfl 0 (by decide) (hts _ q1_201) rfl rfl rfl dX5_glyphOf_1 ?_
  refine lv_iload_n hx hb dX5_glyphOf_4 rfl (lv_at hl 1 rfl) ?_
  obtain ⟨g1, h⟩ := h
  refine iv_ki (iv_rV (As := [.int (hI glyph)]) (rest := []) E hh (ok_X1_hasGlyph l hinj S (by decide) (S 0) rfl glyph h_glyph g1) cb_X1_hasGlyph q2_214 rfl rfl ⟨Nat.le_of_ble_eq_true rfl, Nat.le_of_ble_eq_true rfl⟩ (ob_Font (by decide)) rfl rfl rfl hl.1 rfl (Nat.le_of_ble_eq_true rfl) dX5_glyphOf_5 ⟨Nat.zero_le _, Nat.zero_le _⟩) hh (fun hc2 H locs hh => ?_)
  refine iv_if_eq (tgt := 27) hx hb hc2 dX5_glyphOf_8 (by decide) (fun c3 => ?_) (fun c3 => ?_)
  · have h := h.1 c3
    refine iv_ldc (n := (-1000001)) hx hb (by decide) hown (hts _ q2_190) dX5_glyphOf_27 ?_
    exact iv_iret E hh (by unfold v_X5_glyphOf; rw [if_pos c3]) (by rw [← show (-1000001) = v_X5_glyphOf S glyph size what from (by unfold v_X5_glyphOf; rw [if_pos c3])]; exact ⟨by decide, by decide⟩) (by unfold m_X5_glyphOf; rw [if_pos c3]) dX5_glyphOf_29
  · have h := h.2 c3
    refine lv_iload_n hx hb dX5_glyphOf_11 rfl (lv_at hl 2 rfl) ?_
    refine iv_ki (iv_rS (As := [.int (hI size)]) (rest := []) E hh (ok_X5_isSize l hinj S size h_size) cb_X5_isSize q2_208 rfl rfl ⟨Nat.le_of_ble_eq_true rfl, Nat.le_of_ble_eq_true rfl⟩ rfl hl.1 rfl (Nat.le_of_ble_eq_true rfl) dX5_glyphOf_12 ⟨Nat.zero_le _, Nat.zero_le _⟩) hh (fun hc4 H locs hh => ?_)
    refine iv_if_eq (tgt := 27) hx hb hc4 dX5_glyphOf_15 (by decide) (fun c5 => ?_) (fun c5 => ?_)
    · have h := h.1 c5
      refine iv_ldc (n := (-1000001)) hx hb (by decide) hown (hts _ q2_190) dX5_glyphOf_27 ?_
      exact iv_iret E hh (by unfold v_X5_glyphOf; rw [if_neg c3, if_pos c5]) (by rw [← show (-1000001) = v_X5_glyphOf S glyph size what from (by unfold v_X5_glyphOf; rw [if_neg c3, if_pos c5])]; exact ⟨by decide, by decide⟩) (by unfold m_X5_glyphOf; rw [if_neg c3, if_pos c5]) dX5_glyphOf_29
    · have h := h.2 c5
      refine lv_iload_n hx hb dX5_glyphOf_18 rfl (lv_at hl 3 rfl) ?_
      refine iv_iconst hx hb dX5_glyphOf_19 ?_
      refine iv_iconst hx hb dX5_glyphOf_20 ?_
      refine iv_ki (iv_rS (As := [.int (hI what), .int (hI 0), .int (hI 5)]) (rest := []) E hh (ok_X5_within l hinj S what 0 5 h_what ⟨by decide, by decide⟩ ⟨by decide, by decide⟩) cb_X5_within q2_114 rfl rfl ⟨Nat.le_of_ble_eq_true rfl, Nat.le_of_ble_eq_true rfl⟩ rfl hl.1 rfl (Nat.le_of_ble_eq_true rfl) dX5_glyphOf_21 ⟨Nat.zero_le _, Nat.zero_le _⟩) hh (fun hc6 H locs hh => ?_)
      refine iv_if_ne (tgt := 30) hx hb hc6 dX5_glyphOf_24 (by decide) (fun c7 => ?_) (fun c7 => ?_)
      · have h := h.2 c7
        refine lv_aload_n hx hb dX5_glyphOf_30 rfl (lv_at hl 0 rfl) ?_
        refine iv_get (v' := .ref (ad 7 0)) hx hb hts inX5 hown hK hh.1 (ob_X) rfl 2 (by decide) (hts _ q1_203) rfl rfl rfl dX5_glyphOf_31 ?_
        refine lv_aload_n hx hb dX5_glyphOf_34 rfl (lv_at hl 0 rfl) ?_
        refine iv_get (v' := .ref (ad 0 0)) hx hb hts inX5 hown hK hh.1 (ob_X) rfl 0 (by decide) (hts _ q1_201) rfl rfl rfl dX5_glyphOf_35 ?_
        refine lv_iload_n hx hb dX5_glyphOf_38 rfl (lv_at hl 1 rfl) ?_
        refine lv_iload_n hx hb dX5_glyphOf_39 rfl (lv_at hl 2 rfl) ?_
        obtain ⟨g8, h⟩ := h
        refine iv_kv (iv_rV (As := [.ref (ad 0 0), .int (hI glyph), .int (hI size)]) (rest := []) E hh (ok_X0_lay l hinj S (by decide) (S 0) rfl (S 7) rfl glyph size h_glyph h_size g8) cb_X0_lay q2_209 rfl rfl ⟨Nat.le_of_ble_eq_true rfl, Nat.le_of_ble_eq_true rfl⟩ (ob_Fit) rfl rfl rfl hl.1 rfl (Nat.le_of_ble_eq_true rfl) dX5_glyphOf_40 ⟨Nat.zero_le _, Nat.zero_le _⟩) hh (fun H locs hh => ?_)
        refine lv_iload_n hx hb dX5_glyphOf_43 rfl (lv_at hl 3 rfl) ?_
        by_cases c9 : what = 0
        · have h := h.1 c9
          refine lv_tableIn (off := 36) (tgt := 80) hx hb dX5_glyphOf_44 (by rw [hI_toInt h_what, c9]; decide) (by rw [hI_toInt h_what, c9]; decide) (by rw [hI_toInt h_what, c9]; rfl) (by decide) ?_
          refine lv_aload_n hx hb dX5_glyphOf_80 rfl (lv_at hl 0 rfl) ?_
          refine iv_get (v' := .ref (ad 7 0)) hx hb hts inX5 hown hK hh.1 (ob_X) rfl 2 (by decide) (hts _ q1_203) rfl rfl rfl dX5_glyphOf_81 ?_
          refine iv_getN (v' := .int (hI (((gset S 7 (m_X0_lay (S 0) (S 7) glyph size)) 7) 0 0))) hx hb hts inX0 hown hK hh.1 (ob_Fit) rfl 0 (by decide) (hN _ q1_116) rfl rfl rfl dX5_glyphOf_84 ?_
          have hm10 : hIn (((gset S 7 (m_X0_lay (S 0) (S 7) glyph size)) 7) 0 0) := hIn_rd hh.2.1 rfl (by decide)
          exact iv_iret E hh (by unfold v_X5_glyphOf; rw [if_neg c3, if_neg c5, if_neg c7, if_pos c9]) (by rw [← show (((gset S 7 (m_X0_lay (S 0) (S 7) glyph size)) 7) 0 0) = v_X5_glyphOf S glyph size what from (by unfold v_X5_glyphOf; rw [if_neg c3, if_neg c5, if_neg c7, if_pos c9])]; exact hm10) (by unfold m_X5_glyphOf; rw [if_neg c3, if_neg c5, if_neg c7, if_pos c9]) dX5_glyphOf_87
        · have h := h.2 c9
          by_cases c11 : what = 1
          · have h := h.1 c11
            refine lv_tableIn (off := 44) (tgt := 88) hx hb dX5_glyphOf_44 (by rw [hI_toInt h_what, c11]; decide) (by rw [hI_toInt h_what, c11]; decide) (by rw [hI_toInt h_what, c11]; rfl) (by decide) ?_
            refine lv_aload_n hx hb dX5_glyphOf_88 rfl (lv_at hl 0 rfl) ?_
            refine iv_get (v' := .ref (ad 7 0)) hx hb hts inX5 hown hK hh.1 (ob_X) rfl 2 (by decide) (hts _ q1_203) rfl rfl rfl dX5_glyphOf_89 ?_
            refine iv_getN (v' := .long (hJ (((gset S 7 (m_X0_lay (S 0) (S 7) glyph size)) 7) 100 0))) hx hb hts inX0 hown hK hh.1 (ob_Fit) rfl 3 (by decide) (hN _ q1_123) rfl rfl rfl dX5_glyphOf_92 ?_
            refine iv_ki (iv_rS (As := [.long (hJ (((gset S 7 (m_X0_lay (S 0) (S 7) glyph size)) 7) 100 0))]) (rest := []) E hh (ok_J13_bitCount_95d88 l hinj (gset S 7 (m_X0_lay (S 0) (S 7) glyph size)) (((gset S 7 (m_X0_lay (S 0) (S 7) glyph size)) 7) 100 0)) cb_J13_bitCount_95d88 q2_215 rfl rfl ⟨Nat.le_of_ble_eq_true rfl, Nat.le_of_ble_eq_true rfl⟩ rfl hl.1 rfl (Nat.le_of_ble_eq_true rfl) dX5_glyphOf_95 ⟨Nat.zero_le _, Nat.zero_le _⟩) hh (fun hc12 H locs hh => ?_)
            exact iv_iret E hh (by unfold v_X5_glyphOf; rw [if_neg c3, if_neg c5, if_neg c7, if_neg c9, if_pos c11]) (by rw [← show (v_J13_bitCount_95d88 (((gset S 7 (m_X0_lay (S 0) (S 7) glyph size)) 7) 100 0)) = v_X5_glyphOf S glyph size what from (by unfold v_X5_glyphOf; rw [if_neg c3, if_neg c5, if_neg c7, if_neg c9, if_pos c11])]; exact hc12) (by unfold m_X5_glyphOf; rw [if_neg c3, if_neg c5, if_neg c7, if_neg c9, if_pos c11]) dX5_glyphOf_98
          · have h := h.2 c11
            by_cases c13 : what = 2
            · have h := h.1 c13
              refine lv_tableIn (off := 55) (tgt := 99) hx hb dX5_glyphOf_44 (by rw [hI_toInt h_what, c13]; decide) (by rw [hI_toInt h_what, c13]; decide) (by rw [hI_toInt h_what, c13]; rfl) (by decide) ?_
              refine lv_aload_n hx hb dX5_glyphOf_99 rfl (lv_at hl 0 rfl) ?_
              refine iv_get (v' := .ref (ad 7 0)) hx hb hts inX5 hown hK hh.1 (ob_X) rfl 2 (by decide) (hts _ q1_203) rfl rfl rfl dX5_glyphOf_100 ?_
              refine iv_ki (iv_rV (As := []) (rest := []) E hh (ok_X0_isClear l hinj (gset S 7 (m_X0_lay (S 0) (S 7) glyph size)) ((gset S 7 (m_X0_lay (S 0) (S 7) glyph size)) 7) rfl) cb_X0_isClear q2_221 rfl rfl ⟨Nat.le_of_ble_eq_true rfl, Nat.le_of_ble_eq_true rfl⟩ (ob_Fit) rfl rfl rfl hl.1 rfl (Nat.le_of_ble_eq_true rfl) dX5_glyphOf_103 ⟨Nat.zero_le _, Nat.zero_le _⟩) hh (fun hc14 H locs hh => ?_)
              refine iv_if_eq (tgt := 113) hx hb hc14 dX5_glyphOf_106 (by decide) (fun c15 => ?_) (fun c15 => ?_)
              · have h := h.1 c15
                refine iv_iconst hx hb dX5_glyphOf_113 ?_
                exact iv_iret E hh (by unfold v_X5_glyphOf; rw [if_neg c3, if_neg c5, if_neg c7, if_neg c9, if_neg c11, if_pos c13, if_pos c15]) (by rw [← show 0 = v_X5_glyphOf S glyph size what from (by unfold v_X5_glyphOf; rw [if_neg c3, if_neg c5, if_neg c7, if_neg c9, if_neg c11, if_pos c13, if_pos c15])]; exact ⟨by decide, by decide⟩) (by unfold m_X5_glyphOf; rw [if_neg c3, if_neg c5, if_neg c7, if_neg c9, if_neg c11, if_pos c13, if_pos c15]) dX5_glyphOf_114
              · have h := h.2 c15
                refine iv_iconst hx hb dX5_glyphOf_109 ?_
                refine lv_goto (tgt := 114) hx hb dX5_glyphOf_110 (by decide) ?_
                exact iv_iret E hh (by unfold v_X5_glyphOf; rw [if_neg c3, if_neg c5, if_neg c7, if_neg c9, if_neg c11, if_pos c13, if_neg c15]) (by rw [← show 1 = v_X5_glyphOf S glyph size what from (by unfold v_X5_glyphOf; rw [if_neg c3, if_neg c5, if_neg c7, if_neg c9, if_neg c11, if_pos c13, if_neg c15])]; exact ⟨by decide, by decide⟩) (by unfold m_X5_glyphOf; rw [if_neg c3, if_neg c5, if_neg c7, if_neg c9, if_neg c11, if_pos c13, if_neg c15]) dX5_glyphOf_114
            · have h := h.2 c13
              by_cases c16 : what = 3
              · have h := h.1 c16
                refine lv_tableIn (off := 71) (tgt := 115) hx hb dX5_glyphOf_44 (by rw [hI_toInt h_what, c16]; decide) (by rw [hI_toInt h_what, c16]; decide) (by rw [hI_toInt h_what, c16]; rfl) (by decide) ?_
                refine lv_aload_n hx hb dX5_glyphOf_115 rfl (lv_at hl 0 rfl) ?_
                refine iv_get (v' := .ref (ad 7 0)) hx hb hts inX5 hown hK hh.1 (ob_X) rfl 2 (by decide) (hts _ q1_203) rfl rfl rfl dX5_glyphOf_116 ?_
                refine iv_getN (v' := .int (hI (((gset S 7 (m_X0_lay (S 0) (S 7) glyph size)) 7) 0 1))) hx hb hts inX0 hown hK hh.1 (ob_Fit) rfl 1 (by decide) (hN _ q1_119) rfl rfl rfl dX5_glyphOf_119 ?_
                have hm17 : hIn (((gset S 7 (m_X0_lay (S 0) (S 7) glyph size)) 7) 0 1) := hIn_rd hh.2.1 rfl (by decide)
                exact iv_iret E hh (by unfold v_X5_glyphOf; rw [if_neg c3, if_neg c5, if_neg c7, if_neg c9, if_neg c11, if_neg c13, if_pos c16]) (by rw [← show (((gset S 7 (m_X0_lay (S 0) (S 7) glyph size)) 7) 0 1) = v_X5_glyphOf S glyph size what from (by unfold v_X5_glyphOf; rw [if_neg c3, if_neg c5, if_neg c7, if_neg c9, if_neg c11, if_neg c13, if_pos c16])]; exact hm17) (by unfold m_X5_glyphOf; rw [if_neg c3, if_neg c5, if_neg c7, if_neg c9, if_neg c11, if_neg c13, if_pos c16]) dX5_glyphOf_122
              · have h := h.2 c16
                by_cases c18 : what = 4
                · have h := h.1 c18
                  refine lv_tableIn (off := 79) (tgt := 123) hx hb dX5_glyphOf_44 (by rw [hI_toInt h_what, c18]; decide) (by rw [hI_toInt h_what, c18]; decide) (by rw [hI_toInt h_what, c18]; rfl) (by decide) ?_
                  refine lv_aload_n hx hb dX5_glyphOf_123 rfl (lv_at hl 0 rfl) ?_
                  refine iv_get (v' := .ref (ad 7 0)) hx hb hts inX5 hown hK hh.1 (ob_X) rfl 2 (by decide) (hts _ q1_203) rfl rfl rfl dX5_glyphOf_124 ?_
                  refine iv_getN (v' := .int (hI (((gset S 7 (m_X0_lay (S 0) (S 7) glyph size)) 7) 0 2))) hx hb hts inX0 hown hK hh.1 (ob_Fit) rfl 2 (by decide) (hN _ q1_121) rfl rfl rfl dX5_glyphOf_127 ?_
                  have hm19 : hIn (((gset S 7 (m_X0_lay (S 0) (S 7) glyph size)) 7) 0 2) := hIn_rd hh.2.1 rfl (by decide)
                  exact iv_iret E hh (by unfold v_X5_glyphOf; rw [if_neg c3, if_neg c5, if_neg c7, if_neg c9, if_neg c11, if_neg c13, if_neg c16, if_pos c18]) (by rw [← show (((gset S 7 (m_X0_lay (S 0) (S 7) glyph size)) 7) 0 2) = v_X5_glyphOf S glyph size what from (by unfold v_X5_glyphOf; rw [if_neg c3, if_neg c5, if_neg c7, if_neg c9, if_neg c11, if_neg c13, if_neg c16, if_pos c18])]; exact hm19) (by unfold m_X5_glyphOf; rw [if_neg c3, if_neg c5, if_neg c7, if_neg c9, if_neg c11, if_neg c13, if_neg c16, if_pos c18]) dX5_glyphOf_130
                · have h := h.2 c18
                  refine lv_tableOut (tgt := 131) hx hb dX5_glyphOf_44 (by rw [hI_toInt h_what]; omega) (by decide) ?_
                  refine lv_aload_n hx hb dX5_glyphOf_131 rfl (lv_at hl 0 rfl) ?_
                  refine iv_get (v' := .ref (ad 7 0)) hx hb hts inX5 hown hK hh.1 (ob_X) rfl 2 (by decide) (hts _ q1_203) rfl rfl rfl dX5_glyphOf_132 ?_
                  refine iv_getN (v' := .long (hJ (((gset S 7 (m_X0_lay (S 0) (S 7) glyph size)) 7) 100 0))) hx hb hts inX0 hown hK hh.1 (ob_Fit) rfl 3 (by decide) (hN _ q1_123) rfl rfl rfl dX5_glyphOf_135 ?_
                  refine iv_ki (iv_rS (As := [.long (hJ (((gset S 7 (m_X0_lay (S 0) (S 7) glyph size)) 7) 100 0))]) (rest := []) E hh (ok_X5_runsOf l hinj (gset S 7 (m_X0_lay (S 0) (S 7) glyph size)) (((gset S 7 (m_X0_lay (S 0) (S 7) glyph size)) 7) 100 0)) cb_X5_runsOf q2_225 rfl rfl ⟨Nat.le_of_ble_eq_true rfl, Nat.le_of_ble_eq_true rfl⟩ rfl hl.1 rfl (Nat.le_of_ble_eq_true rfl) dX5_glyphOf_138 ⟨Nat.zero_le _, Nat.zero_le _⟩) hh (fun hc20 H locs hh => ?_)
                  exact iv_iret E hh (by unfold v_X5_glyphOf; rw [if_neg c3, if_neg c5, if_neg c7, if_neg c9, if_neg c11, if_neg c13, if_neg c16, if_neg c18]) (by rw [← show (v_X5_runsOf (((gset S 7 (m_X0_lay (S 0) (S 7) glyph size)) 7) 100 0)) = v_X5_glyphOf S glyph size what from (by unfold v_X5_glyphOf; rw [if_neg c3, if_neg c5, if_neg c7, if_neg c9, if_neg c11, if_neg c13, if_neg c16, if_neg c18])]; exact hc20) (by unfold m_X5_glyphOf; rw [if_neg c3, if_neg c5, if_neg c7, if_neg c9, if_neg c11, if_neg c13, if_neg c16, if_neg c18]) dX5_glyphOf_141
      · have h := h.1 c7
        refine iv_ldc (n := (-1000001)) hx hb (by decide) hown (hts _ q2_190) dX5_glyphOf_27 ?_
        exact iv_iret E hh (by unfold v_X5_glyphOf; rw [if_neg c3, if_neg c5, if_pos c7]) (by rw [← show (-1000001) = v_X5_glyphOf S glyph size what from (by unfold v_X5_glyphOf; rw [if_neg c3, if_neg c5, if_pos c7])]; exact ⟨by decide, by decide⟩) (by unfold m_X5_glyphOf; rw [if_neg c3, if_neg c5, if_pos c7]) dX5_glyphOf_29
set_option maxHeartbeats 4000000 in
set_option maxRecDepth 100000 in
theorem ok_X5_lit (l : Launch) (hinj : hInj ad) (S : hS) (glyph : Int) (size : Int) (column : Int) (h_glyph : hIn glyph) (h_size : hIn size) (h_column : hIn column) (hp : p_X5_lit S glyph size column) : hMi D ad cI cJ cF l yX5_lit cX5_lit 4 (some .int) ({ frames := 4, cells := 0, slots := 0, locals := 101 } : Room) [.ref (ad 11 0), .int (hI glyph), .int (hI size), .int (hI column)] S (v_X5_lit S glyph size column) (m_X5_lit S glyph size column) := by
  refine hOf (S := S) l hinj (by decide +kernel) (Nat.le_of_ble_eq_true rfl) (fun p e s m args below meth c E => ?_)
  obtain ⟨hx, hb, hml, hown, hts, hK, hN, -, hr, hlk⟩ := id E
  have hown : s.vm.findClass RX5 = some m.cls := hown
  intro H locs ls hh hl
  have hl : lv_has ls 4 [(0, .ref (ad 11 0)), (1, .int (hI glyph)), (2, .int (hI size)), (3, .int (hI column))] := hl
  have h := hp
  unfold p_X5_lit at h
  refine lv_aload_n hx hb dX5_lit_0 rfl (lv_at hl 0 rfl) ?_
  refine iv_get (v' := .ref (ad 0 0)) hx hb hts inX5 hown hK hh.1 (ob_X) rfl 0 (by decide) (hts _ q1_201) rfl rfl rfl dX5_lit_1 ?_
  refine lv_iload_n hx hb dX5_lit_4 rfl (lv_at hl 1 rfl) ?_
  obtain ⟨g1, h⟩ := h
  refine iv_ki (iv_rV (As := [.int (hI glyph)]) (rest := []) E hh (ok_X1_hasGlyph l hinj S (by decide) (S 0) rfl glyph h_glyph g1) cb_X1_hasGlyph q2_214 rfl rfl ⟨Nat.le_of_ble_eq_true rfl, Nat.le_of_ble_eq_true rfl⟩ (ob_Font (by decide)) rfl rfl rfl hl.1 rfl (Nat.le_of_ble_eq_true rfl) dX5_lit_5 ⟨Nat.zero_le _, Nat.zero_le _⟩) hh (fun hc2 H locs hh => ?_)
  refine iv_if_eq (tgt := 28) hx hb hc2 dX5_lit_8 (by decide) (fun c3 => ?_) (fun c3 => ?_)
  · have h := h.1 c3
    refine iv_ldc (n := (-1000001)) hx hb (by decide) hown (hts _ q2_190) dX5_lit_28 ?_
    exact iv_iret E hh (by unfold v_X5_lit; rw [if_pos c3]) (by rw [← show (-1000001) = v_X5_lit S glyph size column from (by unfold v_X5_lit; rw [if_pos c3])]; exact ⟨by decide, by decide⟩) (by unfold m_X5_lit; rw [if_pos c3]) dX5_lit_30
  · have h := h.2 c3
    refine lv_iload_n hx hb dX5_lit_11 rfl (lv_at hl 2 rfl) ?_
    refine iv_ki (iv_rS (As := [.int (hI size)]) (rest := []) E hh (ok_X5_isSize l hinj S size h_size) cb_X5_isSize q2_208 rfl rfl ⟨Nat.le_of_ble_eq_true rfl, Nat.le_of_ble_eq_true rfl⟩ rfl hl.1 rfl (Nat.le_of_ble_eq_true rfl) dX5_lit_12 ⟨Nat.zero_le _, Nat.zero_le _⟩) hh (fun hc4 H locs hh => ?_)
    refine iv_if_eq (tgt := 28) hx hb hc4 dX5_lit_15 (by decide) (fun c5 => ?_) (fun c5 => ?_)
    · have h := h.1 c5
      refine iv_ldc (n := (-1000001)) hx hb (by decide) hown (hts _ q2_190) dX5_lit_28 ?_
      exact iv_iret E hh (by unfold v_X5_lit; rw [if_neg c3, if_pos c5]) (by rw [← show (-1000001) = v_X5_lit S glyph size column from (by unfold v_X5_lit; rw [if_neg c3, if_pos c5])]; exact ⟨by decide, by decide⟩) (by unfold m_X5_lit; rw [if_neg c3, if_pos c5]) dX5_lit_30
    · have h := h.2 c5
      refine lv_iload_n hx hb dX5_lit_18 rfl (lv_at hl 3 rfl) ?_
      refine iv_iconst hx hb dX5_lit_19 ?_
      refine lv_bipush (v := hI 63) hx hb dX5_lit_20 (by decide) ?_
      refine iv_ki (iv_rS (As := [.int (hI column), .int (hI 0), .int (hI 63)]) (rest := []) E hh (ok_X5_within l hinj S column 0 63 h_column ⟨by decide, by decide⟩ ⟨by decide, by decide⟩) cb_X5_within q2_114 rfl rfl ⟨Nat.le_of_ble_eq_true rfl, Nat.le_of_ble_eq_true rfl⟩ rfl hl.1 rfl (Nat.le_of_ble_eq_true rfl) dX5_lit_22 ⟨Nat.zero_le _, Nat.zero_le _⟩) hh (fun hc6 H locs hh => ?_)
      refine iv_if_ne (tgt := 31) hx hb hc6 dX5_lit_25 (by decide) (fun c7 => ?_) (fun c7 => ?_)
      · have h := h.2 c7
        refine lv_aload_n hx hb dX5_lit_31 rfl (lv_at hl 0 rfl) ?_
        refine iv_get (v' := .ref (ad 7 0)) hx hb hts inX5 hown hK hh.1 (ob_X) rfl 2 (by decide) (hts _ q1_203) rfl rfl rfl dX5_lit_32 ?_
        refine lv_aload_n hx hb dX5_lit_35 rfl (lv_at hl 0 rfl) ?_
        refine iv_get (v' := .ref (ad 0 0)) hx hb hts inX5 hown hK hh.1 (ob_X) rfl 0 (by decide) (hts _ q1_201) rfl rfl rfl dX5_lit_36 ?_
        refine lv_iload_n hx hb dX5_lit_39 rfl (lv_at hl 1 rfl) ?_
        refine lv_iload_n hx hb dX5_lit_40 rfl (lv_at hl 2 rfl) ?_
        obtain ⟨g8, h⟩ := h
        refine iv_kv (iv_rV (As := [.ref (ad 0 0), .int (hI glyph), .int (hI size)]) (rest := []) E hh (ok_X0_lay l hinj S (by decide) (S 0) rfl (S 7) rfl glyph size h_glyph h_size g8) cb_X0_lay q2_209 rfl rfl ⟨Nat.le_of_ble_eq_true rfl, Nat.le_of_ble_eq_true rfl⟩ (ob_Fit) rfl rfl rfl hl.1 rfl (Nat.le_of_ble_eq_true rfl) dX5_lit_41 ⟨Nat.zero_le _, Nat.zero_le _⟩) hh (fun H locs hh => ?_)
        refine lv_iload_n hx hb dX5_lit_44 rfl (lv_at hl 3 rfl) ?_
        refine lv_aload_n hx hb dX5_lit_45 rfl (lv_at hl 0 rfl) ?_
        refine iv_get (v' := .ref (ad 7 0)) hx hb hts inX5 hown hK hh.1 (ob_X) rfl 2 (by decide) (hts _ q1_203) rfl rfl rfl dX5_lit_46 ?_
        refine iv_getN (v' := .int (hI (((gset S 7 (m_X0_lay (S 0) (S 7) glyph size)) 7) 0 0))) hx hb hts inX0 hown hK hh.1 (ob_Fit) rfl 0 (by decide) (hN _ q1_116) rfl rfl rfl dX5_lit_49 ?_
        have hm9 : hIn (((gset S 7 (m_X0_lay (S 0) (S 7) glyph size)) 7) 0 0) := hIn_rd hh.2.1 rfl (by decide)
        refine iv_icmp_ge (tgt := 69) hx hb h_column hm9 dX5_lit_52 (by decide) (fun c10 => ?_) (fun c10 => ?_)
        · have h := h.2 c10
          refine iv_ldc (n := (-1000004)) hx hb (by decide) hown (hts _ q2_197) dX5_lit_69 ?_
          exact iv_iret E hh (by unfold v_X5_lit; rw [if_neg c3, if_neg c5, if_neg c7, if_neg c10]) (by rw [← show (-1000004) = v_X5_lit S glyph size column from (by unfold v_X5_lit; rw [if_neg c3, if_neg c5, if_neg c7, if_neg c10])]; exact ⟨by decide, by decide⟩) (by unfold m_X5_lit; rw [if_neg c3, if_neg c5, if_neg c7, if_neg c10]) dX5_lit_71
        · have h := h.1 c10
          refine lv_aload_n hx hb dX5_lit_55 rfl (lv_at hl 0 rfl) ?_
          refine iv_get (v' := .ref (ad 7 0)) hx hb hts inX5 hown hK hh.1 (ob_X) rfl 2 (by decide) (hts _ q1_203) rfl rfl rfl dX5_lit_56 ?_
          refine iv_getN (v' := .long (hJ (((gset S 7 (m_X0_lay (S 0) (S 7) glyph size)) 7) 100 0))) hx hb hts inX0 hown hK hh.1 (ob_Fit) rfl 3 (by decide) (hN _ q1_123) rfl rfl rfl dX5_lit_59 ?_
          refine lv_iload_n hx hb dX5_lit_62 rfl (lv_at hl 3 rfl) ?_
          refine iv_ki (iv_rS (As := [.long (hJ (((gset S 7 (m_X0_lay (S 0) (S 7) glyph size)) 7) 100 0)), .int (hI column)]) (rest := []) E hh (ok_X5_bitOf l hinj (gset S 7 (m_X0_lay (S 0) (S 7) glyph size)) (((gset S 7 (m_X0_lay (S 0) (S 7) glyph size)) 7) 100 0) column h_column) cb_X5_bitOf q2_233 rfl rfl ⟨Nat.le_of_ble_eq_true rfl, Nat.le_of_ble_eq_true rfl⟩ rfl hl.1 rfl (Nat.le_of_ble_eq_true rfl) dX5_lit_63 ⟨Nat.zero_le _, Nat.zero_le _⟩) hh (fun hc11 H locs hh => ?_)
          refine lv_goto (tgt := 71) hx hb dX5_lit_66 (by decide) ?_
          exact iv_iret E hh (by unfold v_X5_lit; rw [if_neg c3, if_neg c5, if_neg c7, if_pos c10]) (by rw [← show (v_X5_bitOf (((gset S 7 (m_X0_lay (S 0) (S 7) glyph size)) 7) 100 0) column) = v_X5_lit S glyph size column from (by unfold v_X5_lit; rw [if_neg c3, if_neg c5, if_neg c7, if_pos c10])]; exact hc11) (by unfold m_X5_lit; rw [if_neg c3, if_neg c5, if_neg c7, if_pos c10]) dX5_lit_71
      · have h := h.1 c7
        refine iv_ldc (n := (-1000001)) hx hb (by decide) hown (hts _ q2_190) dX5_lit_28 ?_
        exact iv_iret E hh (by unfold v_X5_lit; rw [if_neg c3, if_neg c5, if_pos c7]) (by rw [← show (-1000001) = v_X5_lit S glyph size column from (by unfold v_X5_lit; rw [if_neg c3, if_neg c5, if_pos c7])]; exact ⟨by decide, by decide⟩) (by unfold m_X5_lit; rw [if_neg c3, if_neg c5, if_pos c7]) dX5_lit_30
set_option maxHeartbeats 4000000 in
set_option maxRecDepth 100000 in
theorem ok_X5_inSheet (l : Launch) (hinj : hInj ad) (S : hS) (size : Int) (glyph : Int) (column : Int) (h_size : hIn size) (h_glyph : hIn glyph) (h_column : hIn column) (hp : p_X5_inSheet S size glyph column) : hMi D ad cI cJ cF l yX5_inSheet cX5_inSheet 7 (some .int) ({ frames := 3, cells := 0, slots := 0, locals := 64 } : Room) [.ref (ad 11 0), .int (hI size), .int (hI glyph), .int (hI column)] S (v_X5_inSheet S size glyph column) S := by
  refine hOf (S := S) l hinj (by decide +kernel) (Nat.le_of_ble_eq_true rfl) (fun p e s m args below meth c E => ?_)
  obtain ⟨hx, hb, hml, hown, hts, hK, hN, -, hr, hlk⟩ := id E
  have hown : s.vm.findClass RX5 = some m.cls := hown
  intro H locs ls hh hl
  have hl : lv_has ls 7 [(0, .ref (ad 11 0)), (1, .int (hI size)), (2, .int (hI glyph)), (3, .int (hI column))] := hl
  have h := hp
  unfold p_X5_inSheet at h
  refine lv_iload_n hx hb dX5_inSheet_0 rfl (lv_at hl 1 rfl) ?_
  refine iv_ki (iv_rS (As := [.int (hI size)]) (rest := []) E hh (ok_X5_isSize l hinj S size h_size) cb_X5_isSize q2_208 rfl rfl ⟨Nat.le_of_ble_eq_true rfl, Nat.le_of_ble_eq_true rfl⟩ rfl hl.1 rfl (Nat.le_of_ble_eq_true rfl) dX5_inSheet_1 ⟨Nat.zero_le _, Nat.zero_le _⟩) hh (fun hc1 H locs hh => ?_)
  refine iv_if_eq (tgt := 27) hx hb hc1 dX5_inSheet_4 (by decide) (fun c2 => ?_) (fun c2 => ?_)
  · have h := h.1 c2
    refine iv_ldc (n := (-1000001)) hx hb (by decide) hown (hts _ q2_190) dX5_inSheet_27 ?_
    exact iv_iret E hh (by unfold v_X5_inSheet; rw [if_pos c2]) (by rw [← show (-1000001) = v_X5_inSheet S size glyph column from (by unfold v_X5_inSheet; rw [if_pos c2])]; exact ⟨by decide, by decide⟩) rfl dX5_inSheet_29
  · have h := h.2 c2
    refine lv_iload_n hx hb dX5_inSheet_7 rfl (lv_at hl 2 rfl) ?_
    refine iv_iconst hx hb dX5_inSheet_8 ?_
    refine lv_bipush (v := hI 7) hx hb dX5_inSheet_9 (by decide) ?_
    refine iv_ki (iv_rS (As := [.int (hI glyph), .int (hI 0), .int (hI 7)]) (rest := []) E hh (ok_X5_within l hinj S glyph 0 7 h_glyph ⟨by decide, by decide⟩ ⟨by decide, by decide⟩) cb_X5_within q2_114 rfl rfl ⟨Nat.le_of_ble_eq_true rfl, Nat.le_of_ble_eq_true rfl⟩ rfl hl.1 rfl (Nat.le_of_ble_eq_true rfl) dX5_inSheet_11 ⟨Nat.zero_le _, Nat.zero_le _⟩) hh (fun hc3 H locs hh => ?_)
    refine iv_if_eq (tgt := 27) hx hb hc3 dX5_inSheet_14 (by decide) (fun c4 => ?_) (fun c4 => ?_)
    · have h := h.1 c4
      refine iv_ldc (n := (-1000001)) hx hb (by decide) hown (hts _ q2_190) dX5_inSheet_27 ?_
      exact iv_iret E hh (by unfold v_X5_inSheet; rw [if_neg c2, if_pos c4]) (by rw [← show (-1000001) = v_X5_inSheet S size glyph column from (by unfold v_X5_inSheet; rw [if_neg c2, if_pos c4])]; exact ⟨by decide, by decide⟩) rfl dX5_inSheet_29
    · have h := h.2 c4
      refine lv_iload_n hx hb dX5_inSheet_17 rfl (lv_at hl 3 rfl) ?_
      refine iv_iconst hx hb dX5_inSheet_18 ?_
      refine lv_bipush (v := hI 63) hx hb dX5_inSheet_19 (by decide) ?_
      refine iv_ki (iv_rS (As := [.int (hI column), .int (hI 0), .int (hI 63)]) (rest := []) E hh (ok_X5_within l hinj S column 0 63 h_column ⟨by decide, by decide⟩ ⟨by decide, by decide⟩) cb_X5_within q2_114 rfl rfl ⟨Nat.le_of_ble_eq_true rfl, Nat.le_of_ble_eq_true rfl⟩ rfl hl.1 rfl (Nat.le_of_ble_eq_true rfl) dX5_inSheet_21 ⟨Nat.zero_le _, Nat.zero_le _⟩) hh (fun hc5 H locs hh => ?_)
      refine iv_if_ne (tgt := 30) hx hb hc5 dX5_inSheet_24 (by decide) (fun c6 => ?_) (fun c6 => ?_)
      · have h := h.2 c6
        refine lv_aload_n hx hb dX5_inSheet_30 rfl (lv_at hl 0 rfl) ?_
        refine iv_get (v' := .ref (ad 0 0)) hx hb hts inX5 hown hK hh.1 (ob_X) rfl 0 (by decide) (hts _ q1_201) rfl rfl rfl dX5_inSheet_31 ?_
        refine iv_getN (v' := .ref (ad 0 7)) hx hb hts inX1 hown hK hh.1 (ob_Font (by decide)) rfl 10 (by decide) (hN _ q1_85) rfl rfl rfl dX5_inSheet_34 ?_
        refine lv_astore (lv' := [(4, .ref (ad 0 7)), (0, .ref (ad 11 0)), (1, .int (hI size)), (2, .int (hI glyph)), (3, .int (hI column))]) hx hb dX5_inSheet_37 hl (by decide) rfl (fun ls hl => ?_)
        refine lv_aload hx hb dX5_inSheet_39 (lv_at hl 0 rfl) ?_
        refine lv_iload_n hx hb dX5_inSheet_41 rfl (lv_at hl 2 rfl) ?_
        obtain ⟨g7, h⟩ := h
        refine iv_ki (iv_rV (As := [.int (hI size)]) (rest := []) E hh (ok_X4_slotOf l hinj S (by decide) (S 0) rfl size h_size g7) cb_X4_slotOf q3_0 rfl rfl ⟨Nat.le_of_ble_eq_true rfl, Nat.le_of_ble_eq_true rfl⟩ (ob_Sheets (by decide)) rfl rfl rfl hl.1 rfl (Nat.le_of_ble_eq_true rfl) dX5_inSheet_42 ⟨Nat.zero_le _, Nat.zero_le _⟩) hh (fun hc8 H locs hh => ?_)
        refine lv_istore (lv' := [(5, .int (hI (v_X4_slotOf (S 0) size))), (4, .ref (ad 0 7)), (0, .ref (ad 11 0)), (1, .int (hI size)), (2, .int (hI glyph)), (3, .int (hI column))]) hx hb dX5_inSheet_45 hl (by decide) rfl (fun ls hl => ?_)
        refine lv_iload hx hb dX5_inSheet_47 (lv_at hl 0 rfl) ?_
        refine iv_if_lt (tgt := 66) hx hb hc8 dX5_inSheet_49 (by decide) (fun c9 => ?_) (fun c9 => ?_)
        · have h := h.1 c9
          refine iv_ldc (n := (-1000004)) hx hb (by decide) hown (hts _ q2_197) dX5_inSheet_66 ?_
          exact iv_iret E hh (by unfold v_X5_inSheet; rw [if_neg c2, if_neg c4, if_neg c6, if_pos c9]) (by rw [← show (-1000004) = v_X5_inSheet S size glyph column from (by unfold v_X5_inSheet; rw [if_neg c2, if_neg c4, if_neg c6, if_pos c9])]; exact ⟨by decide, by decide⟩) rfl dX5_inSheet_68
        · have h := h.2 c9
          refine lv_iload_n hx hb dX5_inSheet_52 rfl (lv_at hl 4 rfl) ?_
          refine lv_aload hx hb dX5_inSheet_53 (lv_at hl 1 rfl) ?_
          refine iv_getN (v' := .ref (ad 0 10)) hx hb hts inX4 hown hK hh.1 (ob_Sheets (by decide)) rfl 3 (by decide) (hN _ q1_38) rfl rfl rfl dX5_inSheet_55 ?_
          refine lv_iload hx hb dX5_inSheet_58 (lv_at hl 0 rfl) ?_
          refine iv_ki (iv_rS (As := [.ref (ad 0 10), .int (hI (v_X4_slotOf (S 0) size))]) (rest := [.int (hI glyph)]) E hh (ok_X5_cell l hinj S (ia_F_10 (by decide)) (S 0) rfl (v_X4_slotOf (S 0) size) hc8) cb_X5_cell q2_191 rfl rfl ⟨Nat.le_of_ble_eq_true rfl, Nat.le_of_ble_eq_true rfl⟩ rfl hl.1 rfl (Nat.le_of_ble_eq_true rfl) dX5_inSheet_60 ⟨Nat.zero_le _, Nat.zero_le _⟩) hh (fun hc10 H locs hh => ?_)
          refine iv_icmp_lt (tgt := 69) hx hb h_glyph hc10 dX5_inSheet_63 (by decide) (fun c11 => ?_) (fun c11 => ?_)
          · have h := h.1 c11
            refine lv_iload hx hb dX5_inSheet_69 (lv_at hl 0 rfl) ?_
            refine lv_bipush (v := hI 8) hx hb dX5_inSheet_71 (by decide) ?_
            refine iv_imul hx hb dX5_inSheet_73 ?_
            refine lv_iload_n hx hb dX5_inSheet_74 rfl (lv_at hl 4 rfl) ?_
            refine iv_iadd hx hb dX5_inSheet_75 ?_
            refine lv_istore (lv' := [(6, .int (hI (((v_X4_slotOf (S 0) size) * 8) + glyph))), (5, .int (hI (v_X4_slotOf (S 0) size))), (4, .ref (ad 0 7)), (0, .ref (ad 11 0)), (1, .int (hI size)), (2, .int (hI glyph)), (3, .int (hI column))]) hx hb dX5_inSheet_76 hl (by decide) rfl (fun ls hl => ?_)
            refine lv_iload_n hx hb dX5_inSheet_78 rfl (lv_at hl 6 rfl) ?_
            refine lv_aload hx hb dX5_inSheet_79 (lv_at hl 2 rfl) ?_
            refine iv_getN (v' := .ref (ad 0 11)) hx hb hts inX4 hown hK hh.1 (ob_Sheets (by decide)) rfl 4 (by decide) (hN _ q1_41) rfl rfl rfl dX5_inSheet_81 ?_
            refine lv_iload hx hb dX5_inSheet_84 (lv_at hl 0 rfl) ?_
            obtain ⟨g12, h⟩ := h
            refine iv_ki (iv_rS (As := [.ref (ad 0 11), .int (hI (((v_X4_slotOf (S 0) size) * 8) + glyph))]) (rest := [.int (hI column)]) E hh (ok_X5_cell l hinj S (ia_F_11 (by decide)) (S 0) rfl (((v_X4_slotOf (S 0) size) * 8) + glyph) g12) cb_X5_cell q2_191 rfl rfl ⟨Nat.le_of_ble_eq_true rfl, Nat.le_of_ble_eq_true rfl⟩ rfl hl.1 rfl (Nat.le_of_ble_eq_true rfl) dX5_inSheet_86 ⟨Nat.zero_le _, Nat.zero_le _⟩) hh (fun hc13 H locs hh => ?_)
            refine iv_icmp_ge (tgt := 106) hx hb h_column hc13 dX5_inSheet_89 (by decide) (fun c14 => ?_) (fun c14 => ?_)
            · have h := h.2 c14
              refine iv_ldc (n := (-1000004)) hx hb (by decide) hown (hts _ q2_197) dX5_inSheet_106 ?_
              exact iv_iret E hh (by unfold v_X5_inSheet; rw [if_neg c2, if_neg c4, if_neg c6, if_neg c9, if_pos c11, if_neg c14]) (by rw [← show (-1000004) = v_X5_inSheet S size glyph column from (by unfold v_X5_inSheet; rw [if_neg c2, if_neg c4, if_neg c6, if_neg c9, if_pos c11, if_neg c14])]; exact ⟨by decide, by decide⟩) rfl dX5_inSheet_108
            · have h := h.1 c14
              refine lv_aload hx hb dX5_inSheet_92 (lv_at hl 2 rfl) ?_
              refine lv_iload hx hb dX5_inSheet_94 (lv_at hl 0 rfl) ?_
              refine iv_kl (iv_rV (As := [.int (hI (((v_X4_slotOf (S 0) size) * 8) + glyph))]) (rest := []) E hh (ok_X4_litAt l hinj S (by decide) (S 0) rfl (((v_X4_slotOf (S 0) size) * 8) + glyph) g12) cb_X4_litAt q3_1 rfl rfl ⟨Nat.le_of_ble_eq_true rfl, Nat.le_of_ble_eq_true rfl⟩ (ob_Sheets (by decide)) rfl rfl rfl hl.1 rfl (Nat.le_of_ble_eq_true rfl) dX5_inSheet_96 ⟨Nat.zero_le _, Nat.zero_le _⟩) hh (fun H locs hh => ?_)
              refine lv_iload_n hx hb dX5_inSheet_99 rfl (lv_at hl 6 rfl) ?_
              refine iv_ki (iv_rS (As := [.long (hJ (v_X4_litAt (S 0) (((v_X4_slotOf (S 0) size) * 8) + glyph))), .int (hI column)]) (rest := []) E hh (ok_X5_bitOf l hinj S (v_X4_litAt (S 0) (((v_X4_slotOf (S 0) size) * 8) + glyph)) column h_column) cb_X5_bitOf q2_233 rfl rfl ⟨Nat.le_of_ble_eq_true rfl, Nat.le_of_ble_eq_true rfl⟩ rfl hl.1 rfl (Nat.le_of_ble_eq_true rfl) dX5_inSheet_100 ⟨Nat.zero_le _, Nat.zero_le _⟩) hh (fun hc15 H locs hh => ?_)
              refine lv_goto (tgt := 108) hx hb dX5_inSheet_103 (by decide) ?_
              exact iv_iret E hh (by unfold v_X5_inSheet; rw [if_neg c2, if_neg c4, if_neg c6, if_neg c9, if_pos c11, if_pos c14]) (by rw [← show (v_X5_bitOf (v_X4_litAt (S 0) (((v_X4_slotOf (S 0) size) * 8) + glyph)) column) = v_X5_inSheet S size glyph column from (by unfold v_X5_inSheet; rw [if_neg c2, if_neg c4, if_neg c6, if_neg c9, if_pos c11, if_pos c14])]; exact hc15) rfl dX5_inSheet_108
          · have h := h.2 c11
            refine iv_ldc (n := (-1000004)) hx hb (by decide) hown (hts _ q2_197) dX5_inSheet_66 ?_
            exact iv_iret E hh (by unfold v_X5_inSheet; rw [if_neg c2, if_neg c4, if_neg c6, if_neg c9, if_neg c11]) (by rw [← show (-1000004) = v_X5_inSheet S size glyph column from (by unfold v_X5_inSheet; rw [if_neg c2, if_neg c4, if_neg c6, if_neg c9, if_neg c11])]; exact ⟨by decide, by decide⟩) rfl dX5_inSheet_68
      · have h := h.1 c6
        refine iv_ldc (n := (-1000001)) hx hb (by decide) hown (hts _ q2_190) dX5_inSheet_27 ?_
        exact iv_iret E hh (by unfold v_X5_inSheet; rw [if_neg c2, if_neg c4, if_pos c6]) (by rw [← show (-1000001) = v_X5_inSheet S size glyph column from (by unfold v_X5_inSheet; rw [if_neg c2, if_neg c4, if_pos c6])]; exact ⟨by decide, by decide⟩) rfl dX5_inSheet_29
set_option maxHeartbeats 4000000 in
set_option maxRecDepth 100000 in
theorem ok_X5_sheetOf (l : Launch) (hinj : hInj ad) (S : hS) (index : Int) (what : Int) (h_index : hIn index) (h_what : hIn what) (hp : p_X5_sheetOf S index what) : hMi D ad cI cJ cF l yX5_sheetOf cX5_sheetOf 4 (some .int) ({ frames := 5, cells := 0, slots := 0, locals := 126 } : Room) [.ref (ad 11 0), .int (hI index), .int (hI what)] S (v_X5_sheetOf S index what) (m_X5_sheetOf S index what) := by
  refine hOf (S := S) l hinj (by decide +kernel) (Nat.le_of_ble_eq_true rfl) (fun p e s m args below meth c E => ?_)
  obtain ⟨hx, hb, hml, hown, hts, hK, hN, -, hr, hlk⟩ := id E
  have hown : s.vm.findClass RX5 = some m.cls := hown
  intro H locs ls hh hl
  have hl : lv_has ls 4 [(0, .ref (ad 11 0)), (1, .int (hI index)), (2, .int (hI what))] := hl
  have h := hp
  unfold p_X5_sheetOf at h
  refine lv_iload_n hx hb dX5_sheetOf_0 rfl (lv_at hl 1 rfl) ?_
  refine iv_if_lt (tgt := 13) hx hb h_index dX5_sheetOf_1 (by decide) (fun c1 => ?_) (fun c1 => ?_)
  · have h := h.1 c1
    refine iv_ldc (n := (-1000001)) hx hb (by decide) hown (hts _ q2_190) dX5_sheetOf_13 ?_
    exact iv_iret E hh (by unfold v_X5_sheetOf; rw [if_pos c1]) (by rw [← show (-1000001) = v_X5_sheetOf S index what from (by unfold v_X5_sheetOf; rw [if_pos c1])]; exact ⟨by decide, by decide⟩) (by unfold m_X5_sheetOf; rw [if_pos c1]) dX5_sheetOf_15
  · have h := h.2 c1
    refine lv_iload_n hx hb dX5_sheetOf_4 rfl (lv_at hl 2 rfl) ?_
    refine iv_iconst hx hb dX5_sheetOf_5 ?_
    refine iv_iconst hx hb dX5_sheetOf_6 ?_
    refine iv_ki (iv_rS (As := [.int (hI what), .int (hI 0), .int (hI 3)]) (rest := []) E hh (ok_X5_within l hinj S what 0 3 h_what ⟨by decide, by decide⟩ ⟨by decide, by decide⟩) cb_X5_within q2_114 rfl rfl ⟨Nat.le_of_ble_eq_true rfl, Nat.le_of_ble_eq_true rfl⟩ rfl hl.1 rfl (Nat.le_of_ble_eq_true rfl) dX5_sheetOf_7 ⟨Nat.zero_le _, Nat.zero_le _⟩) hh (fun hc2 H locs hh => ?_)
    refine iv_if_ne (tgt := 16) hx hb hc2 dX5_sheetOf_10 (by decide) (fun c3 => ?_) (fun c3 => ?_)
    · have h := h.2 c3
      refine lv_aload_n hx hb dX5_sheetOf_16 rfl (lv_at hl 0 rfl) ?_
      refine iv_get (v' := .ref (ad 0 0)) hx hb hts inX5 hown hK hh.1 (ob_X) rfl 0 (by decide) (hts _ q1_201) rfl rfl rfl dX5_sheetOf_17 ?_
      refine iv_getN (v' := .ref (ad 0 7)) hx hb hts inX1 hown hK hh.1 (ob_Font (by decide)) rfl 10 (by decide) (hN _ q1_85) rfl rfl rfl dX5_sheetOf_20 ?_
      refine lv_iload_n hx hb dX5_sheetOf_23 rfl (lv_at hl 1 rfl) ?_
      obtain ⟨g4, h⟩ := h
      refine iv_ki (iv_rV (As := [.int (hI index)]) (rest := []) E hh (ok_X4_slotAt l hinj S (by decide) (S 0) rfl index h_index g4) cb_X4_slotAt q3_9 rfl rfl ⟨Nat.le_of_ble_eq_true rfl, Nat.le_of_ble_eq_true rfl⟩ (ob_Sheets (by decide)) rfl rfl rfl hl.1 rfl (Nat.le_of_ble_eq_true rfl) dX5_sheetOf_24 ⟨Nat.zero_le _, Nat.zero_le _⟩) hh (fun hc5 H locs hh => ?_)
      refine lv_istore_n (lv' := [(3, .int (hI (v_X4_slotAt (S 0) index))), (0, .ref (ad 11 0)), (1, .int (hI index)), (2, .int (hI what))]) hx hb dX5_sheetOf_27 rfl hl (by decide) rfl (fun ls hl => ?_)
      refine lv_iload_n hx hb dX5_sheetOf_28 rfl (lv_at hl 0 rfl) ?_
      refine iv_if_ge (tgt := 35) hx hb hc5 dX5_sheetOf_29 (by decide) (fun c6 => ?_) (fun c6 => ?_)
      · have h := h.2 c6
        refine lv_iload_n hx hb dX5_sheetOf_35 rfl (lv_at hl 3 rfl) ?_
        by_cases c7 : what = 0
        · have h := h.1 c7
          refine lv_tableIn (off := 28) (tgt := 64) hx hb dX5_sheetOf_36 (by rw [hI_toInt h_what, c7]; decide) (by rw [hI_toInt h_what, c7]; decide) (by rw [hI_toInt h_what, c7]; rfl) (by decide) ?_
          refine lv_aload_n hx hb dX5_sheetOf_64 rfl (lv_at hl 1 rfl) ?_
          refine iv_get (v' := .ref (ad 0 0)) hx hb hts inX5 hown hK hh.1 (ob_X) rfl 0 (by decide) (hts _ q1_201) rfl rfl rfl dX5_sheetOf_65 ?_
          refine iv_getN (v' := .ref (ad 0 7)) hx hb hts inX1 hown hK hh.1 (ob_Font (by decide)) rfl 10 (by decide) (hN _ q1_85) rfl rfl rfl dX5_sheetOf_68 ?_
          refine iv_getN (v' := .ref (ad 0 9)) hx hb hts inX4 hown hK hh.1 (ob_Sheets (by decide)) rfl 2 (by decide) (hN _ q1_35) rfl rfl rfl dX5_sheetOf_71 ?_
          refine lv_iload_n hx hb dX5_sheetOf_74 rfl (lv_at hl 0 rfl) ?_
          refine iv_ki (iv_rS (As := [.ref (ad 0 9), .int (hI (v_X4_slotAt (S 0) index))]) (rest := []) E hh (ok_X5_cell l hinj S (ia_F_9 (by decide)) (S 0) rfl (v_X4_slotAt (S 0) index) hc5) cb_X5_cell q2_191 rfl rfl ⟨Nat.le_of_ble_eq_true rfl, Nat.le_of_ble_eq_true rfl⟩ rfl hl.1 rfl (Nat.le_of_ble_eq_true rfl) dX5_sheetOf_75 ⟨Nat.zero_le _, Nat.zero_le _⟩) hh (fun hc8 H locs hh => ?_)
          exact iv_iret E hh (by unfold v_X5_sheetOf; rw [if_neg c1, if_neg c3, if_neg c6, if_pos c7]) (by rw [← show (v_X5_cell (S 0) 9 4 (v_X4_slotAt (S 0) index)) = v_X5_sheetOf S index what from (by unfold v_X5_sheetOf; rw [if_neg c1, if_neg c3, if_neg c6, if_pos c7])]; exact hc8) (by unfold m_X5_sheetOf; rw [if_neg c1, if_neg c3, if_neg c6, if_pos c7]) dX5_sheetOf_78
        · have h := h.2 c7
          by_cases c9 : what = 1
          · have h := h.1 c9
            refine lv_tableIn (off := 43) (tgt := 79) hx hb dX5_sheetOf_36 (by rw [hI_toInt h_what, c9]; decide) (by rw [hI_toInt h_what, c9]; decide) (by rw [hI_toInt h_what, c9]; rfl) (by decide) ?_
            refine lv_aload_n hx hb dX5_sheetOf_79 rfl (lv_at hl 1 rfl) ?_
            refine iv_get (v' := .ref (ad 0 0)) hx hb hts inX5 hown hK hh.1 (ob_X) rfl 0 (by decide) (hts _ q1_201) rfl rfl rfl dX5_sheetOf_80 ?_
            refine iv_getN (v' := .ref (ad 0 7)) hx hb hts inX1 hown hK hh.1 (ob_Font (by decide)) rfl 10 (by decide) (hN _ q1_85) rfl rfl rfl dX5_sheetOf_83 ?_
            refine iv_getN (v' := .ref (ad 0 10)) hx hb hts inX4 hown hK hh.1 (ob_Sheets (by decide)) rfl 3 (by decide) (hN _ q1_38) rfl rfl rfl dX5_sheetOf_86 ?_
            refine lv_iload_n hx hb dX5_sheetOf_89 rfl (lv_at hl 0 rfl) ?_
            refine iv_ki (iv_rS (As := [.ref (ad 0 10), .int (hI (v_X4_slotAt (S 0) index))]) (rest := []) E hh (ok_X5_cell l hinj S (ia_F_10 (by decide)) (S 0) rfl (v_X4_slotAt (S 0) index) hc5) cb_X5_cell q2_191 rfl rfl ⟨Nat.le_of_ble_eq_true rfl, Nat.le_of_ble_eq_true rfl⟩ rfl hl.1 rfl (Nat.le_of_ble_eq_true rfl) dX5_sheetOf_90 ⟨Nat.zero_le _, Nat.zero_le _⟩) hh (fun hc10 H locs hh => ?_)
            exact iv_iret E hh (by unfold v_X5_sheetOf; rw [if_neg c1, if_neg c3, if_neg c6, if_neg c7, if_pos c9]) (by rw [← show (v_X5_cell (S 0) 10 4 (v_X4_slotAt (S 0) index)) = v_X5_sheetOf S index what from (by unfold v_X5_sheetOf; rw [if_neg c1, if_neg c3, if_neg c6, if_neg c7, if_pos c9])]; exact hc10) (by unfold m_X5_sheetOf; rw [if_neg c1, if_neg c3, if_neg c6, if_neg c7, if_pos c9]) dX5_sheetOf_93
          · have h := h.2 c9
            by_cases c11 : what = 2
            · have h := h.1 c11
              refine lv_tableIn (off := 58) (tgt := 94) hx hb dX5_sheetOf_36 (by rw [hI_toInt h_what, c11]; decide) (by rw [hI_toInt h_what, c11]; decide) (by rw [hI_toInt h_what, c11]; rfl) (by decide) ?_
              refine lv_aload_n hx hb dX5_sheetOf_94 rfl (lv_at hl 1 rfl) ?_
              refine iv_get (v' := .ref (ad 0 0)) hx hb hts inX5 hown hK hh.1 (ob_X) rfl 0 (by decide) (hts _ q1_201) rfl rfl rfl dX5_sheetOf_95 ?_
              refine lv_iload_n hx hb dX5_sheetOf_98 rfl (lv_at hl 0 rfl) ?_
              refine lv_aload_n hx hb dX5_sheetOf_99 rfl (lv_at hl 1 rfl) ?_
              refine iv_get (v' := .ref (ad 7 0)) hx hb hts inX5 hown hK hh.1 (ob_X) rfl 2 (by decide) (hts _ q1_203) rfl rfl rfl dX5_sheetOf_100 ?_
              obtain ⟨g12, h⟩ := h
              refine iv_ki (iv_rV (As := [.int (hI (v_X4_slotAt (S 0) index)), .ref (ad 7 0)]) (rest := []) E hh (ok_X1_isStale l hinj S (by decide) (S 0) rfl (S 7) rfl (v_X4_slotAt (S 0) index) hc5 g12) cb_X1_isStale q3_17 rfl rfl ⟨Nat.le_of_ble_eq_true rfl, Nat.le_of_ble_eq_true rfl⟩ (ob_Font (by decide)) rfl rfl rfl hl.1 rfl (Nat.le_of_ble_eq_true rfl) dX5_sheetOf_103 ⟨Nat.zero_le _, Nat.zero_le _⟩) hh (fun hc13 H locs hh => ?_)
              refine iv_if_eq (tgt := 113) hx hb hc13 dX5_sheetOf_106 (by decide) (fun c14 => ?_) (fun c14 => ?_)
              · have h := h.1 c14
                refine iv_iconst hx hb dX5_sheetOf_113 ?_
                exact iv_iret E hh (by unfold v_X5_sheetOf; rw [if_neg c1, if_neg c3, if_neg c6, if_neg c7, if_neg c9, if_pos c11, if_pos c14]) (by rw [← show 0 = v_X5_sheetOf S index what from (by unfold v_X5_sheetOf; rw [if_neg c1, if_neg c3, if_neg c6, if_neg c7, if_neg c9, if_pos c11, if_pos c14])]; exact ⟨by decide, by decide⟩) (by unfold m_X5_sheetOf; rw [if_neg c1, if_neg c3, if_neg c6, if_neg c7, if_neg c9, if_pos c11, if_pos c14]) dX5_sheetOf_114
              · have h := h.2 c14
                refine iv_iconst hx hb dX5_sheetOf_109 ?_
                refine lv_goto (tgt := 114) hx hb dX5_sheetOf_110 (by decide) ?_
                exact iv_iret E hh (by unfold v_X5_sheetOf; rw [if_neg c1, if_neg c3, if_neg c6, if_neg c7, if_neg c9, if_pos c11, if_neg c14]) (by rw [← show 1 = v_X5_sheetOf S index what from (by unfold v_X5_sheetOf; rw [if_neg c1, if_neg c3, if_neg c6, if_neg c7, if_neg c9, if_pos c11, if_neg c14])]; exact ⟨by decide, by decide⟩) (by unfold m_X5_sheetOf; rw [if_neg c1, if_neg c3, if_neg c6, if_neg c7, if_neg c9, if_pos c11, if_neg c14]) dX5_sheetOf_114
            · have h := h.2 c11
              refine lv_tableOut (tgt := 115) hx hb dX5_sheetOf_36 (by rw [hI_toInt h_what]; omega) (by decide) ?_
              refine lv_aload_n hx hb dX5_sheetOf_115 rfl (lv_at hl 1 rfl) ?_
              refine iv_get (v' := .ref (ad 0 0)) hx hb hts inX5 hown hK hh.1 (ob_X) rfl 0 (by decide) (hts _ q1_201) rfl rfl rfl dX5_sheetOf_116 ?_
              refine iv_getN (v' := .ref (ad 0 7)) hx hb hts inX1 hown hK hh.1 (ob_Font (by decide)) rfl 10 (by decide) (hN _ q1_85) rfl rfl rfl dX5_sheetOf_119 ?_
              refine lv_iload_n hx hb dX5_sheetOf_122 rfl (lv_at hl 0 rfl) ?_
              obtain ⟨g15, h⟩ := h
              refine iv_ki (iv_rV (As := [.int (hI (v_X4_slotAt (S 0) index))]) (rest := []) E hh (ok_X4_litTogether l hinj S (by decide) (S 0) rfl (v_X4_slotAt (S 0) index) hc5 g15) cb_X4_litTogether q3_22 rfl rfl ⟨Nat.le_of_ble_eq_true rfl, Nat.le_of_ble_eq_true rfl⟩ (ob_Sheets (by decide)) rfl rfl rfl hl.1 rfl (Nat.le_of_ble_eq_true rfl) dX5_sheetOf_123 ⟨Nat.zero_le _, Nat.zero_le _⟩) hh (fun hc16 H locs hh => ?_)
              exact iv_iret E hh (by unfold v_X5_sheetOf; rw [if_neg c1, if_neg c3, if_neg c6, if_neg c7, if_neg c9, if_neg c11]) (by rw [← show (v_X4_litTogether (S 0) (v_X4_slotAt (S 0) index)) = v_X5_sheetOf S index what from (by unfold v_X5_sheetOf; rw [if_neg c1, if_neg c3, if_neg c6, if_neg c7, if_neg c9, if_neg c11])]; exact hc16) (by unfold m_X5_sheetOf; rw [if_neg c1, if_neg c3, if_neg c6, if_neg c7, if_neg c9, if_neg c11]) dX5_sheetOf_126
      · have h := h.1 c6
        refine iv_ldc (n := (-1000004)) hx hb (by decide) hown (hts _ q2_197) dX5_sheetOf_32 ?_
        exact iv_iret E hh (by unfold v_X5_sheetOf; rw [if_neg c1, if_neg c3, if_pos c6]) (by rw [← show (-1000004) = v_X5_sheetOf S index what from (by unfold v_X5_sheetOf; rw [if_neg c1, if_neg c3, if_pos c6])]; exact ⟨by decide, by decide⟩) (by unfold m_X5_sheetOf; rw [if_neg c1, if_neg c3, if_pos c6]) dX5_sheetOf_34
    · have h := h.1 c3
      refine iv_ldc (n := (-1000001)) hx hb (by decide) hown (hts _ q2_190) dX5_sheetOf_13 ?_
      exact iv_iret E hh (by unfold v_X5_sheetOf; rw [if_neg c1, if_pos c3]) (by rw [← show (-1000001) = v_X5_sheetOf S index what from (by unfold v_X5_sheetOf; rw [if_neg c1, if_pos c3])]; exact ⟨by decide, by decide⟩) (by unfold m_X5_sheetOf; rw [if_neg c1, if_pos c3]) dX5_sheetOf_15
set_option maxHeartbeats 4000000 in
set_option maxRecDepth 100000 in
theorem ok_X5_even (l : Launch) (hinj : hInj ad) (S : hS) (size : Int) (h_size : hIn size) (hp : p_X5_even S size) : hMi D ad cI cJ cF l yX5_even cX5_even 2 (some .int) ({ frames := 4, cells := 0, slots := 0, locals := 92 } : Room) [.ref (ad 11 0), .int (hI size)] S (v_X5_even S size) (m_X5_even S size) := by
  refine hOf (S := S) l hinj (by decide +kernel) (Nat.le_of_ble_eq_true rfl) (fun p e s m args below meth c E => ?_)
  obtain ⟨hx, hb, hml, hown, hts, hK, hN, -, hr, hlk⟩ := id E
  have hown : s.vm.findClass RX5 = some m.cls := hown
  intro H locs ls hh hl
  have hl : lv_has ls 2 [(0, .ref (ad 11 0)), (1, .int (hI size))] := hl
  have h := hp
  unfold p_X5_even at h
  refine lv_iload_n hx hb dX5_even_0 rfl (lv_at hl 1 rfl) ?_
  refine iv_ki (iv_rS (As := [.int (hI size)]) (rest := []) E hh (ok_X5_isSize l hinj S size h_size) cb_X5_isSize q2_208 rfl rfl ⟨Nat.le_of_ble_eq_true rfl, Nat.le_of_ble_eq_true rfl⟩ rfl hl.1 rfl (Nat.le_of_ble_eq_true rfl) dX5_even_1 ⟨Nat.zero_le _, Nat.zero_le _⟩) hh (fun hc1 H locs hh => ?_)
  refine iv_if_ne (tgt := 10) hx hb hc1 dX5_even_4 (by decide) (fun c2 => ?_) (fun c2 => ?_)
  · have h := h.2 c2
    refine lv_aload_n hx hb dX5_even_10 rfl (lv_at hl 0 rfl) ?_
    refine iv_get (v' := .ref (ad 7 0)) hx hb hts inX5 hown hK hh.1 (ob_X) rfl 2 (by decide) (hts _ q1_203) rfl rfl rfl dX5_even_11 ?_
    refine lv_aload_n hx hb dX5_even_14 rfl (lv_at hl 0 rfl) ?_
    refine iv_get (v' := .ref (ad 0 0)) hx hb hts inX5 hown hK hh.1 (ob_X) rfl 0 (by decide) (hts _ q1_201) rfl rfl rfl dX5_even_15 ?_
    refine lv_iload_n hx hb dX5_even_18 rfl (lv_at hl 1 rfl) ?_
    obtain ⟨g3, h⟩ := h
    refine iv_ki (iv_rV (As := [.ref (ad 0 0), .int (hI size)]) (rest := []) E hh (ok_X0_isEven l hinj S (by decide) (S 0) rfl (S 7) rfl size h_size g3) cb_X0_isEven q3_32 rfl rfl ⟨Nat.le_of_ble_eq_true rfl, Nat.le_of_ble_eq_true rfl⟩ (ob_Fit) rfl rfl rfl hl.1 rfl (Nat.le_of_ble_eq_true rfl) dX5_even_19 ⟨Nat.zero_le _, Nat.zero_le _⟩) hh (fun hc4 H locs hh => ?_)
    refine iv_if_eq (tgt := 29) hx hb hc4 dX5_even_22 (by decide) (fun c5 => ?_) (fun c5 => ?_)
    · have h := h.1 c5
      refine iv_iconst hx hb dX5_even_29 ?_
      exact iv_iret E hh (by unfold v_X5_even; rw [if_neg c2, if_pos c5]) (by rw [← show 0 = v_X5_even S size from (by unfold v_X5_even; rw [if_neg c2, if_pos c5])]; exact ⟨by decide, by decide⟩) (by unfold m_X5_even; rw [if_neg c2, if_pos c5]) dX5_even_30
    · have h := h.2 c5
      refine iv_iconst hx hb dX5_even_25 ?_
      refine lv_goto (tgt := 30) hx hb dX5_even_26 (by decide) ?_
      exact iv_iret E hh (by unfold v_X5_even; rw [if_neg c2, if_neg c5]) (by rw [← show 1 = v_X5_even S size from (by unfold v_X5_even; rw [if_neg c2, if_neg c5])]; exact ⟨by decide, by decide⟩) (by unfold m_X5_even; rw [if_neg c2, if_neg c5]) dX5_even_30
  · have h := h.1 c2
    refine iv_ldc (n := (-1000001)) hx hb (by decide) hown (hts _ q2_190) dX5_even_7 ?_
    exact iv_iret E hh (by unfold v_X5_even; rw [if_pos c2]) (by rw [← show (-1000001) = v_X5_even S size from (by unfold v_X5_even; rw [if_pos c2])]; exact ⟨by decide, by decide⟩) (by unfold m_X5_even; rw [if_pos c2]) dX5_even_9
set_option maxHeartbeats 4000000 in
set_option maxRecDepth 100000 in
theorem ok_X5_clear (l : Launch) (hinj : hInj ad) (S : hS) (glyph : Int) (h_glyph : hIn glyph) (hp : p_X5_clear S glyph) : hMi D ad cI cJ cF l yX5_clear cX5_clear 3 (some .int) ({ frames := 4, cells := 0, slots := 0, locals := 101 } : Room) [.ref (ad 11 0), .int (hI glyph)] S (v_X5_clear S glyph) (m_X5_clear S glyph) := by
  refine hOf (S := S) l hinj (by decide +kernel) (Nat.le_of_ble_eq_true rfl) (fun p e s m args below meth c E => ?_)
  obtain ⟨hx, hb, hml, hown, hts, hK, hN, -, hr, hlk⟩ := id E
  have hown : s.vm.findClass RX5 = some m.cls := hown
  have r17 : ∀ (y2 : Int) (S1 : hS), hIn y2 → ((∀ (g i : Nat) (k : Int), i < 100 → hIn (S1 g i k)) → ((y2 ≤ 48 → (p_X0_lay (S1 0) (S1 7) glyph y2 ∧ (((v_X0_isClear ((gset S1 7 (m_X0_lay (S1 0) (S1 7) glyph y2)) 7)) = 0 → (hAt D ad cI cJ cF p l e ({ frames := 4, cells := 0, slots := 0, locals := 101 } : Room) s m args below meth c (MQ below (hQi D ad cI cJ cF (v_X5_clear S glyph) (m_X5_clear S glyph)) args s 0 0 (hAd ad)) 3 17 [(0, .ref (ad 11 0)), (1, .int (hI glyph)), (2, .int (hI (y2 + 1)))] (gset S1 7 (m_X0_lay (S1 0) (S1 7) glyph y2)))) ∧ (¬ (v_X0_isClear ((gset S1 7 (m_X0_lay (S1 0) (S1 7) glyph y2)) 7)) = 0 → (y2 = v_X5_clear S glyph ∧ (gset S1 7 (m_X0_lay (S1 0) (S1 7) glyph y2)) = m_X5_clear S glyph))))) ∧ (¬ y2 ≤ 48 → ((-1000004) = v_X5_clear S glyph ∧ S1 = m_X5_clear S glyph)))) → (hAt D ad cI cJ cF p l e ({ frames := 4, cells := 0, slots := 0, locals := 101 } : Room) s m args below meth c (MQ below (hQi D ad cI cJ cF (v_X5_clear S glyph) (m_X5_clear S glyph)) args s 0 0 (hAd ad)) 3 17 [(0, .ref (ad 11 0)), (1, .int (hI glyph)), (2, .int (hI y2))] S1) := by
    intro y2 S1 h_y2 h H locs ls hh hl
    have h := h (fun g i k hi => hh.2.1 g i k hi)
    refine lv_iload_n hx hb dX5_clear_17 rfl (lv_at hl 2 rfl) ?_
    refine lv_bipush (v := hI 48) hx hb dX5_clear_18 (by decide) ?_
    refine iv_icmp_gt (tgt := 54) hx hb h_y2 ⟨by decide, by decide⟩ dX5_clear_20 (by decide) (fun c1 => ?_) (fun c1 => ?_)
    · have h := h.2 c1
      refine iv_ldc (n := (-1000004)) hx hb (by decide) hown (hts _ q2_197) dX5_clear_54 ?_
      exact iv_iret E hh h.1 (by rw [← h.1]; exact ⟨by decide, by decide⟩) (by rw [← h.2]) dX5_clear_56
    · have h := h.1 c1
      refine lv_aload_n hx hb dX5_clear_23 rfl (lv_at hl 0 rfl) ?_
      refine iv_get (v' := .ref (ad 7 0)) hx hb hts inX5 hown hK hh.1 (ob_X) rfl 2 (by decide) (hts _ q1_203) rfl rfl rfl dX5_clear_24 ?_
      refine lv_aload_n hx hb dX5_clear_27 rfl (lv_at hl 0 rfl) ?_
      refine iv_get (v' := .ref (ad 0 0)) hx hb hts inX5 hown hK hh.1 (ob_X) rfl 0 (by decide) (hts _ q1_201) rfl rfl rfl dX5_clear_28 ?_
      refine lv_iload_n hx hb dX5_clear_31 rfl (lv_at hl 1 rfl) ?_
      refine lv_iload_n hx hb dX5_clear_32 rfl (lv_at hl 2 rfl) ?_
      obtain ⟨g2, h⟩ := h
      refine iv_kv (iv_rV (As := [.ref (ad 0 0), .int (hI glyph), .int (hI y2)]) (rest := []) E hh (ok_X0_lay l hinj S1 (by decide) (S1 0) rfl (S1 7) rfl glyph y2 h_glyph h_y2 g2) cb_X0_lay q2_209 rfl rfl ⟨Nat.le_of_ble_eq_true rfl, Nat.le_of_ble_eq_true rfl⟩ (ob_Fit) rfl rfl rfl hl.1 rfl (Nat.le_of_ble_eq_true rfl) dX5_clear_33 ⟨Nat.zero_le _, Nat.zero_le _⟩) hh (fun H locs hh => ?_)
      refine lv_aload_n hx hb dX5_clear_36 rfl (lv_at hl 0 rfl) ?_
      refine iv_get (v' := .ref (ad 7 0)) hx hb hts inX5 hown hK hh.1 (ob_X) rfl 2 (by decide) (hts _ q1_203) rfl rfl rfl dX5_clear_37 ?_
      refine iv_ki (iv_rV (As := []) (rest := []) E hh (ok_X0_isClear l hinj (gset S1 7 (m_X0_lay (S1 0) (S1 7) glyph y2)) ((gset S1 7 (m_X0_lay (S1 0) (S1 7) glyph y2)) 7) rfl) cb_X0_isClear q2_221 rfl rfl ⟨Nat.le_of_ble_eq_true rfl, Nat.le_of_ble_eq_true rfl⟩ (ob_Fit) rfl rfl rfl hl.1 rfl (Nat.le_of_ble_eq_true rfl) dX5_clear_40 ⟨Nat.zero_le _, Nat.zero_le _⟩) hh (fun hc3 H locs hh => ?_)
      refine iv_if_eq (tgt := 48) hx hb hc3 dX5_clear_43 (by decide) (fun c4 => ?_) (fun c4 => ?_)
      · have h := h.1 c4
        refine iv_iinc (lv' := [(2, .int (hI (y2 + 1))), (0, .ref (ad 11 0)), (1, .int (hI glyph))]) hx hb dX5_clear_48 hl (k := 2) rfl (v := (y2 + 1)) rfl (by decide) rfl (fun ls hl => ?_)
        refine lv_goto (tgt := 17) hx hb dX5_clear_51 (by decide) ?_
        exact h H _ ls hh (lv_sub hl [1, 2, 0] rfl)
      · have h := h.2 c4
        refine lv_iload_n hx hb dX5_clear_46 rfl (lv_at hl 2 rfl) ?_
        exact iv_iret E hh h.1 (by rw [← h.1]; exact h_y2) (by rw [← h.2]) dX5_clear_47
  intro H locs ls hh hl
  have hl : lv_has ls 3 [(0, .ref (ad 11 0)), (1, .int (hI glyph))] := hl
  have h := x_X5_clear S glyph h_glyph (fun g i k hi => hh.2.1 g i k hi) hp (fun y2 S1 => (hAt D ad cI cJ cF p l e ({ frames := 4, cells := 0, slots := 0, locals := 101 } : Room) s m args below meth c (MQ below (hQi D ad cI cJ cF (v_X5_clear S glyph) (m_X5_clear S glyph)) args s 0 0 (hAd ad)) 3 17 [(0, .ref (ad 11 0)), (1, .int (hI glyph)), (2, .int (hI y2))] S1)) (fun r S1 => (r = v_X5_clear S glyph ∧ S1 = m_X5_clear S glyph)) r17 ⟨rfl, rfl⟩
  refine lv_aload_n hx hb dX5_clear_0 rfl (lv_at hl 0 rfl) ?_
  refine iv_get (v' := .ref (ad 0 0)) hx hb hts inX5 hown hK hh.1 (ob_X) rfl 0 (by decide) (hts _ q1_201) rfl rfl rfl dX5_clear_1 ?_
  refine lv_iload_n hx hb dX5_clear_4 rfl (lv_at hl 1 rfl) ?_
  obtain ⟨g5, h⟩ := h
  refine iv_ki (iv_rV (As := [.int (hI glyph)]) (rest := []) E hh (ok_X1_hasGlyph l hinj S (by decide) (S 0) rfl glyph h_glyph g5) cb_X1_hasGlyph q2_214 rfl rfl ⟨Nat.le_of_ble_eq_true rfl, Nat.le_of_ble_eq_true rfl⟩ (ob_Font (by decide)) rfl rfl rfl hl.1 rfl (Nat.le_of_ble_eq_true rfl) dX5_clear_5 ⟨Nat.zero_le _, Nat.zero_le _⟩) hh (fun hc6 H locs hh => ?_)
  refine iv_if_ne (tgt := 14) hx hb hc6 dX5_clear_8 (by decide) (fun c7 => ?_) (fun c7 => ?_)
  · have h := h.2 c7
    refine lv_bipush (v := hI 6) hx hb dX5_clear_14 (by decide) ?_
    refine lv_istore_n (lv' := [(2, .int (hI 6)), (0, .ref (ad 11 0)), (1, .int (hI glyph))]) hx hb dX5_clear_16 rfl hl (by decide) rfl (fun ls hl => ?_)
    exact h H _ ls hh (lv_sub hl [1, 2, 0] rfl)
  · have h := h.1 c7
    refine iv_ldc (n := (-1000001)) hx hb (by decide) hown (hts _ q2_190) dX5_clear_11 ?_
    exact iv_iret E hh h.1 (by rw [← h.1]; exact ⟨by decide, by decide⟩) (by rw [← h.2]) dX5_clear_13
set_option maxHeartbeats 4000000 in
set_option maxRecDepth 100000 in
theorem ok_X5_clearSizes (l : Launch) (hinj : hInj ad) (S : hS) {j : Nat} (hj : j < 7) (glyph : Int) (h_glyph : hIn glyph) (hp : p_X5_clearSizes S j glyph) : hMi D ad cI cJ cF l yX5_clearSizes cX5_clearSizes 5 (some .int) ({ frames := 4, cells := 0, slots := 0, locals := 101 } : Room) [.ref (ad 11 0), .ref (ad j 0), .int (hI glyph)] S (v_X5_clearSizes S j glyph) (m_X5_clearSizes S j glyph) := by
  refine hOf (S := S) l hinj (by decide +kernel) (Nat.le_of_ble_eq_true rfl) (fun p e s m args below meth c E => ?_)
  obtain ⟨hx, hb, hml, hown, hts, hK, hN, -, hr, hlk⟩ := id E
  have hown : s.vm.findClass RX5 = some m.cls := hown
  have r6 : ∀ (y3 : Int) (y4 : Int) (S1 : hS), hIn y3 → hIn y4 → ((∀ (g i : Nat) (k : Int), i < 100 → hIn (S1 g i k)) → ((y4 ≤ 48 → (p_X0_lay (S1 j) (S1 7) glyph y4 ∧ (((v_X0_isClear ((gset S1 7 (m_X0_lay (S1 j) (S1 7) glyph y4)) 7)) = 0 → (hAt D ad cI cJ cF p l e ({ frames := 4, cells := 0, slots := 0, locals := 101 } : Room) s m args below meth c (MQ below (hQi D ad cI cJ cF (v_X5_clearSizes S j glyph) (m_X5_clearSizes S j glyph)) args s 0 0 (hAd ad)) 5 6 [(0, .ref (ad 11 0)), (1, .ref (ad j 0)), (2, .int (hI glyph)), (3, .int (hI y3)), (4, .int (hI (y4 + 1)))] (gset S1 7 (m_X0_lay (S1 j) (S1 7) glyph y4)))) ∧ (¬ (v_X0_isClear ((gset S1 7 (m_X0_lay (S1 j) (S1 7) glyph y4)) 7)) = 0 → (hAt D ad cI cJ cF p l e ({ frames := 4, cells := 0, slots := 0, locals := 101 } : Room) s m args below meth c (MQ below (hQi D ad cI cJ cF (v_X5_clearSizes S j glyph) (m_X5_clearSizes S j glyph)) args s 0 0 (hAd ad)) 5 6 [(0, .ref (ad 11 0)), (1, .ref (ad j 0)), (2, .int (hI glyph)), (3, .int (hI (y3 + 1))), (4, .int (hI (y4 + 1)))] (gset S1 7 (m_X0_lay (S1 j) (S1 7) glyph y4))))))) ∧ (¬ y4 ≤ 48 → (y3 = v_X5_clearSizes S j glyph ∧ S1 = m_X5_clearSizes S j glyph)))) → (hAt D ad cI cJ cF p l e ({ frames := 4, cells := 0, slots := 0, locals := 101 } : Room) s m args below meth c (MQ below (hQi D ad cI cJ cF (v_X5_clearSizes S j glyph) (m_X5_clearSizes S j glyph)) args s 0 0 (hAd ad)) 5 6 [(0, .ref (ad 11 0)), (1, .ref (ad j 0)), (2, .int (hI glyph)), (3, .int (hI y3)), (4, .int (hI y4))] S1) := by
    intro y3 y4 S1 h_y3 h_y4 h H locs ls hh hl
    have h := h (fun g i k hi => hh.2.1 g i k hi)
    refine lv_iload hx hb dX5_clearSizes_6 (lv_at hl 4 rfl) ?_
    refine lv_bipush (v := hI 48) hx hb dX5_clearSizes_8 (by decide) ?_
    refine iv_icmp_gt (tgt := 43) hx hb h_y4 ⟨by decide, by decide⟩ dX5_clearSizes_10 (by decide) (fun c1 => ?_) (fun c1 => ?_)
    · have h := h.2 c1
      refine lv_iload_n hx hb dX5_clearSizes_43 rfl (lv_at hl 3 rfl) ?_
      exact iv_iret E hh h.1 (by rw [← h.1]; exact h_y3) (by rw [← h.2]) dX5_clearSizes_44
    · have h := h.1 c1
      refine lv_aload_n hx hb dX5_clearSizes_13 rfl (lv_at hl 0 rfl) ?_
      refine iv_get (v' := .ref (ad 7 0)) hx hb hts inX5 hown hK hh.1 (ob_X) rfl 2 (by decide) (hts _ q1_203) rfl rfl rfl dX5_clearSizes_14 ?_
      refine lv_aload_n hx hb dX5_clearSizes_17 rfl (lv_at hl 1 rfl) ?_
      refine lv_iload_n hx hb dX5_clearSizes_18 rfl (lv_at hl 2 rfl) ?_
      refine lv_iload hx hb dX5_clearSizes_19 (lv_at hl 4 rfl) ?_
      obtain ⟨g2, h⟩ := h
      refine iv_kv (iv_rV (As := [.ref (ad j 0), .int (hI glyph), .int (hI y4)]) (rest := []) E hh (ok_X0_lay l hinj S1 hj (S1 j) rfl (S1 7) rfl glyph y4 h_glyph h_y4 g2) cb_X0_lay q2_209 rfl rfl ⟨Nat.le_of_ble_eq_true rfl, Nat.le_of_ble_eq_true rfl⟩ (ob_Fit) rfl rfl rfl hl.1 rfl (Nat.le_of_ble_eq_true rfl) dX5_clearSizes_21 ⟨Nat.zero_le _, Nat.zero_le _⟩) hh (fun H locs hh => ?_)
      refine lv_aload_n hx hb dX5_clearSizes_24 rfl (lv_at hl 0 rfl) ?_
      refine iv_get (v' := .ref (ad 7 0)) hx hb hts inX5 hown hK hh.1 (ob_X) rfl 2 (by decide) (hts _ q1_203) rfl rfl rfl dX5_clearSizes_25 ?_
      refine iv_ki (iv_rV (As := []) (rest := []) E hh (ok_X0_isClear l hinj (gset S1 7 (m_X0_lay (S1 j) (S1 7) glyph y4)) ((gset S1 7 (m_X0_lay (S1 j) (S1 7) glyph y4)) 7) rfl) cb_X0_isClear q2_221 rfl rfl ⟨Nat.le_of_ble_eq_true rfl, Nat.le_of_ble_eq_true rfl⟩ (ob_Fit) rfl rfl rfl hl.1 rfl (Nat.le_of_ble_eq_true rfl) dX5_clearSizes_28 ⟨Nat.zero_le _, Nat.zero_le _⟩) hh (fun hc3 H locs hh => ?_)
      refine iv_if_eq (tgt := 37) hx hb hc3 dX5_clearSizes_31 (by decide) (fun c4 => ?_) (fun c4 => ?_)
      · have h := h.1 c4
        refine iv_iinc (lv' := [(4, .int (hI (y4 + 1))), (0, .ref (ad 11 0)), (1, .ref (ad j 0)), (2, .int (hI glyph)), (3, .int (hI y3))]) hx hb dX5_clearSizes_37 hl (k := 4) rfl (v := (y4 + 1)) rfl (by decide) rfl (fun ls hl => ?_)
        refine lv_goto (tgt := 6) hx hb dX5_clearSizes_40 (by decide) ?_
        exact h H _ ls hh (lv_sub hl [1, 2, 3, 4, 0] rfl)
      · have h := h.2 c4
        refine iv_iinc (lv' := [(3, .int (hI (y3 + 1))), (0, .ref (ad 11 0)), (1, .ref (ad j 0)), (2, .int (hI glyph)), (4, .int (hI y4))]) hx hb dX5_clearSizes_34 hl (k := 3) rfl (v := (y3 + 1)) rfl (by decide) rfl (fun ls hl => ?_)
        refine iv_iinc (lv' := [(4, .int (hI (y4 + 1))), (3, .int (hI (y3 + 1))), (0, .ref (ad 11 0)), (1, .ref (ad j 0)), (2, .int (hI glyph))]) hx hb dX5_clearSizes_37 hl (k := 4) rfl (v := (y4 + 1)) rfl (by decide) rfl (fun ls hl => ?_)
        refine lv_goto (tgt := 6) hx hb dX5_clearSizes_40 (by decide) ?_
        exact h H _ ls hh (lv_sub hl [2, 3, 4, 1, 0] rfl)
  intro H locs ls hh hl
  have hl : lv_has ls 5 [(0, .ref (ad 11 0)), (1, .ref (ad j 0)), (2, .int (hI glyph))] := hl
  have h := x_X5_clearSizes S j glyph h_glyph (fun g i k hi => hh.2.1 g i k hi) hp (fun y3 y4 S1 => (hAt D ad cI cJ cF p l e ({ frames := 4, cells := 0, slots := 0, locals := 101 } : Room) s m args below meth c (MQ below (hQi D ad cI cJ cF (v_X5_clearSizes S j glyph) (m_X5_clearSizes S j glyph)) args s 0 0 (hAd ad)) 5 6 [(0, .ref (ad 11 0)), (1, .ref (ad j 0)), (2, .int (hI glyph)), (3, .int (hI y3)), (4, .int (hI y4))] S1)) (fun r S1 => (r = v_X5_clearSizes S j glyph ∧ S1 = m_X5_clearSizes S j glyph)) r6 ⟨rfl, rfl⟩
  refine iv_iconst hx hb dX5_clearSizes_0 ?_
  refine lv_istore_n (lv' := [(3, .int (hI 0)), (0, .ref (ad 11 0)), (1, .ref (ad j 0)), (2, .int (hI glyph))]) hx hb dX5_clearSizes_1 rfl hl (by decide) rfl (fun ls hl => ?_)
  refine lv_bipush (v := hI 6) hx hb dX5_clearSizes_2 (by decide) ?_
  refine lv_istore (lv' := [(4, .int (hI 6)), (3, .int (hI 0)), (0, .ref (ad 11 0)), (1, .ref (ad j 0)), (2, .int (hI glyph))]) hx hb dX5_clearSizes_4 hl (by decide) rfl (fun ls hl => ?_)
  exact h H _ ls hh (lv_sub hl [2, 3, 4, 1, 0] rfl)
set_option maxHeartbeats 4000000 in
set_option maxRecDepth 100000 in
theorem ok_X5_best (l : Launch) (hinj : hInj ad) (S : hS) (glyph : Int) (stem : Int) (what : Int) (h_glyph : hIn glyph) (h_stem : hIn stem) (h_what : hIn what) (hp : p_X5_best S glyph stem what) : hMi D ad cI cJ cF l yX5_best cX5_best 8 (some .int) ({ frames := 5, cells := 0, slots := 0, locals := 125 } : Room) [.ref (ad 11 0), .int (hI glyph), .int (hI stem), .int (hI what)] S (v_X5_best S glyph stem what) (m_X5_best S glyph stem what) := by
  refine hOf (S := S) l hinj (by decide +kernel) (Nat.le_of_ble_eq_true rfl) (fun p e s m args below meth c E => ?_)
  obtain ⟨hx, hb, hml, hown, hts, hK, hN, -, hr, hlk⟩ := id E
  have hown : s.vm.findClass RX5 = some m.cls := hown
  have r44 : ∀ (y4 : Int) (y5 : Int) (y6 : Int) (S1 : hS), hIn y4 → hIn y5 → hIn y6 → ((∀ (g i : Nat) (k : Int), i < 100 → hIn (S1 g i k)) → ((y6 ≤ 3 → (hIn ((glyph * 6) + stem) ∧ (p_X5_clearSizes (gset S1 1 (m_X5_put (S1 1) 5 48 ((glyph * 6) + stem) y6)) 1 glyph ∧ (((v_X5_clearSizes (gset S1 1 (m_X5_put (S1 1) 5 48 ((glyph * 6) + stem) y6)) 1 glyph) ≤ y5 → (hAt D ad cI cJ cF p l e ({ frames := 5, cells := 0, slots := 0, locals := 125 } : Room) s m args below meth c (MQ below (hQi D ad cI cJ cF (v_X5_best S glyph stem what) (m_X5_best S glyph stem what)) args s 0 0 (hAd ad)) 8 44 [(0, .ref (ad 11 0)), (1, .int (hI glyph)), (2, .int (hI stem)), (3, .int (hI what)), (4, .int (hI y4)), (5, .int (hI y5)), (6, .int (hI (y6 + 1)))] (m_X5_clearSizes (gset S1 1 (m_X5_put (S1 1) 5 48 ((glyph * 6) + stem) y6)) 1 glyph))) ∧ (¬ (v_X5_clearSizes (gset S1 1 (m_X5_put (S1 1) 5 48 ((glyph * 6) + stem) y6)) 1 glyph) ≤ y5 → (hAt D ad cI cJ cF p l e ({ frames := 5, cells := 0, slots := 0, locals := 125 } : Room) s m args below meth c (MQ below (hQi D ad cI cJ cF (v_X5_best S glyph stem what) (m_X5_best S glyph stem what)) args s 0 0 (hAd ad)) 8 44 [(0, .ref (ad 11 0)), (1, .int (hI glyph)), (2, .int (hI stem)), (3, .int (hI what)), (4, .int (hI y6)), (5, .int (hI (v_X5_clearSizes (gset S1 1 (m_X5_put (S1 1) 5 48 ((glyph * 6) + stem) y6)) 1 glyph))), (6, .int (hI (y6 + 1)))] (m_X5_clearSizes (gset S1 1 (m_X5_put (S1 1) 5 48 ((glyph * 6) + stem) y6)) 1 glyph))))))) ∧ (¬ y6 ≤ 3 → ((what = 0 → (y4 = v_X5_best S glyph stem what ∧ S1 = m_X5_best S glyph stem what)) ∧ (¬ what = 0 → (y5 = v_X5_best S glyph stem what ∧ S1 = m_X5_best S glyph stem what)))))) → (hAt D ad cI cJ cF p l e ({ frames := 5, cells := 0, slots := 0, locals := 125 } : Room) s m args below meth c (MQ below (hQi D ad cI cJ cF (v_X5_best S glyph stem what) (m_X5_best S glyph stem what)) args s 0 0 (hAd ad)) 8 44 [(0, .ref (ad 11 0)), (1, .int (hI glyph)), (2, .int (hI stem)), (3, .int (hI what)), (4, .int (hI y4)), (5, .int (hI y5)), (6, .int (hI y6))] S1) := by
    intro y4 y5 y6 S1 h_y4 h_y5 h_y6 h H locs ls hh hl
    have h := h (fun g i k hi => hh.2.1 g i k hi)
    refine lv_iload hx hb dX5_best_44 (lv_at hl 6 rfl) ?_
    refine iv_iconst hx hb dX5_best_46 ?_
    refine iv_icmp_gt (tgt := 100) hx hb h_y6 ⟨by decide, by decide⟩ dX5_best_47 (by decide) (fun c1 => ?_) (fun c1 => ?_)
    · have h := h.2 c1
      refine lv_iload_n hx hb dX5_best_100 rfl (lv_at hl 3 rfl) ?_
      refine iv_if_ne (tgt := 109) hx hb h_what dX5_best_101 (by decide) (fun c2 => ?_) (fun c2 => ?_)
      · have h := h.2 c2
        refine lv_iload hx hb dX5_best_109 (lv_at hl 5 rfl) ?_
        exact iv_iret E hh h.1 (by rw [← h.1]; exact h_y5) (by rw [← h.2]) dX5_best_111
      · have h := h.1 c2
        refine lv_iload hx hb dX5_best_104 (lv_at hl 4 rfl) ?_
        refine lv_goto (tgt := 111) hx hb dX5_best_106 (by decide) ?_
        exact iv_iret E hh h.1 (by rw [← h.1]; exact h_y4) (by rw [← h.2]) dX5_best_111
    · have h := h.1 c1
      refine lv_aload_n hx hb dX5_best_50 rfl (lv_at hl 0 rfl) ?_
      refine iv_get (v' := .ref (ad 1 0)) hx hb hts inX5 hown hK hh.1 (ob_X) rfl 1 (by decide) (hts _ q1_202) rfl rfl rfl dX5_best_51 ?_
      refine iv_getN (v' := .ref (ad 1 5)) hx hb hts inX1 hown hK hh.1 (ob_Font (by decide)) rfl 8 (by decide) (hN _ q1_81) rfl rfl rfl dX5_best_54 ?_
      refine lv_iload_n hx hb dX5_best_57 rfl (lv_at hl 1 rfl) ?_
      refine lv_bipush (v := hI 6) hx hb dX5_best_58 (by decide) ?_
      refine iv_imul hx hb dX5_best_60 ?_
      refine lv_iload_n hx hb dX5_best_61 rfl (lv_at hl 2 rfl) ?_
      refine iv_iadd hx hb dX5_best_62 ?_
      refine lv_iload hx hb dX5_best_63 (lv_at hl 6 rfl) ?_
      obtain ⟨g3, h⟩ := h
      refine iv_kv (iv_rS (As := [.ref (ad 1 5), .int (hI ((glyph * 6) + stem)), .int (hI y6)]) (rest := []) E hh (ok_X5_put l hinj S1 (ia_F_5 (by decide)) (S1 1) rfl ((glyph * 6) + stem) y6 g3 h_y6) cb_X5_put q3_50 rfl rfl ⟨Nat.le_of_ble_eq_true rfl, Nat.le_of_ble_eq_true rfl⟩ rfl hl.1 rfl (Nat.le_of_ble_eq_true rfl) dX5_best_65 ⟨Nat.zero_le _, Nat.zero_le _⟩) hh (fun H locs hh => ?_)
      refine lv_aload_n hx hb dX5_best_68 rfl (lv_at hl 0 rfl) ?_
      refine lv_aload_n hx hb dX5_best_69 rfl (lv_at hl 0 rfl) ?_
      refine iv_get (v' := .ref (ad 1 0)) hx hb hts inX5 hown hK hh.1 (ob_X) rfl 1 (by decide) (hts _ q1_202) rfl rfl rfl dX5_best_70 ?_
      refine lv_iload_n hx hb dX5_best_73 rfl (lv_at hl 1 rfl) ?_
      obtain ⟨g4, h⟩ := h
      refine iv_ki (iv_rV (As := [.ref (ad 1 0), .int (hI glyph)]) (rest := []) E hh (ok_X5_clearSizes l hinj (gset S1 1 (m_X5_put (S1 1) 5 48 ((glyph * 6) + stem) y6)) (by decide) glyph h_glyph g4) cb_X5_clearSizes q3_51 rfl rfl ⟨Nat.le_of_ble_eq_true rfl, Nat.le_of_ble_eq_true rfl⟩ (ob_X) rfl rfl rfl hl.1 rfl (Nat.le_of_ble_eq_true rfl) dX5_best_74 ⟨Nat.zero_le _, Nat.zero_le _⟩) hh (fun hc5 H locs hh => ?_)
      refine lv_istore (lv' := [(7, .int (hI (v_X5_clearSizes (gset S1 1 (m_X5_put (S1 1) 5 48 ((glyph * 6) + stem) y6)) 1 glyph))), (0, .ref (ad 11 0)), (1, .int (hI glyph)), (2, .int (hI stem)), (3, .int (hI what)), (4, .int (hI y4)), (5, .int (hI y5)), (6, .int (hI y6))]) hx hb dX5_best_77 hl (by decide) rfl (fun ls hl => ?_)
      refine lv_iload hx hb dX5_best_79 (lv_at hl 0 rfl) ?_
      refine lv_iload hx hb dX5_best_81 (lv_at hl 6 rfl) ?_
      refine iv_icmp_le (tgt := 94) hx hb hc5 h_y5 dX5_best_83 (by decide) (fun c6 => ?_) (fun c6 => ?_)
      · have h := h.1 c6
        refine iv_iinc (lv' := [(6, .int (hI (y6 + 1))), (7, .int (hI (v_X5_clearSizes (gset S1 1 (m_X5_put (S1 1) 5 48 ((glyph * 6) + stem) y6)) 1 glyph))), (0, .ref (ad 11 0)), (1, .int (hI glyph)), (2, .int (hI stem)), (3, .int (hI what)), (4, .int (hI y4)), (5, .int (hI y5))]) hx hb dX5_best_94 hl (k := 7) rfl (v := (y6 + 1)) rfl (by decide) rfl (fun ls hl => ?_)
        refine lv_goto (tgt := 44) hx hb dX5_best_97 (by decide) ?_
        exact h H _ ls hh (lv_sub hl [2, 3, 4, 5, 6, 7, 0] rfl)
      · have h := h.2 c6
        refine lv_iload hx hb dX5_best_86 (lv_at hl 0 rfl) ?_
        refine lv_istore (lv' := [(5, .int (hI (v_X5_clearSizes (gset S1 1 (m_X5_put (S1 1) 5 48 ((glyph * 6) + stem) y6)) 1 glyph))), (7, .int (hI (v_X5_clearSizes (gset S1 1 (m_X5_put (S1 1) 5 48 ((glyph * 6) + stem) y6)) 1 glyph))), (0, .ref (ad 11 0)), (1, .int (hI glyph)), (2, .int (hI stem)), (3, .int (hI what)), (4, .int (hI y4)), (6, .int (hI y6))]) hx hb dX5_best_88 hl (by decide) rfl (fun ls hl => ?_)
        refine lv_iload hx hb dX5_best_90 (lv_at hl 7 rfl) ?_
        refine lv_istore (lv' := [(4, .int (hI y6)), (5, .int (hI (v_X5_clearSizes (gset S1 1 (m_X5_put (S1 1) 5 48 ((glyph * 6) + stem) y6)) 1 glyph))), (7, .int (hI (v_X5_clearSizes (gset S1 1 (m_X5_put (S1 1) 5 48 ((glyph * 6) + stem) y6)) 1 glyph))), (0, .ref (ad 11 0)), (1, .int (hI glyph)), (2, .int (hI stem)), (3, .int (hI what)), (6, .int (hI y6))]) hx hb dX5_best_92 hl (by decide) rfl (fun ls hl => ?_)
        refine iv_iinc (lv' := [(6, .int (hI (y6 + 1))), (4, .int (hI y6)), (5, .int (hI (v_X5_clearSizes (gset S1 1 (m_X5_put (S1 1) 5 48 ((glyph * 6) + stem) y6)) 1 glyph))), (7, .int (hI (v_X5_clearSizes (gset S1 1 (m_X5_put (S1 1) 5 48 ((glyph * 6) + stem) y6)) 1 glyph))), (0, .ref (ad 11 0)), (1, .int (hI glyph)), (2, .int (hI stem)), (3, .int (hI what))]) hx hb dX5_best_94 hl (k := 7) rfl (v := (y6 + 1)) rfl (by decide) rfl (fun ls hl => ?_)
        refine lv_goto (tgt := 44) hx hb dX5_best_97 (by decide) ?_
        exact h H _ ls hh (lv_sub hl [4, 5, 6, 7, 1, 2, 0] rfl)
  intro H locs ls hh hl
  have hl : lv_has ls 8 [(0, .ref (ad 11 0)), (1, .int (hI glyph)), (2, .int (hI stem)), (3, .int (hI what))] := hl
  have h := x_X5_best S glyph stem what h_glyph h_stem h_what (fun g i k hi => hh.2.1 g i k hi) hp (fun y4 y5 y6 S1 => (hAt D ad cI cJ cF p l e ({ frames := 5, cells := 0, slots := 0, locals := 125 } : Room) s m args below meth c (MQ below (hQi D ad cI cJ cF (v_X5_best S glyph stem what) (m_X5_best S glyph stem what)) args s 0 0 (hAd ad)) 8 44 [(0, .ref (ad 11 0)), (1, .int (hI glyph)), (2, .int (hI stem)), (3, .int (hI what)), (4, .int (hI y4)), (5, .int (hI y5)), (6, .int (hI y6))] S1)) (fun r S1 => (r = v_X5_best S glyph stem what ∧ S1 = m_X5_best S glyph stem what)) r44 ⟨rfl, rfl⟩
  refine lv_aload_n hx hb dX5_best_0 rfl (lv_at hl 0 rfl) ?_
  refine iv_get (v' := .ref (ad 0 0)) hx hb hts inX5 hown hK hh.1 (ob_X) rfl 0 (by decide) (hts _ q1_201) rfl rfl rfl dX5_best_1 ?_
  refine lv_iload_n hx hb dX5_best_4 rfl (lv_at hl 1 rfl) ?_
  refine lv_iload_n hx hb dX5_best_5 rfl (lv_at hl 2 rfl) ?_
  obtain ⟨g7, h⟩ := h
  refine iv_ki (iv_rV (As := [.int (hI glyph), .int (hI stem)]) (rest := []) E hh (ok_X1_hasStem l hinj S (by decide) (S 0) rfl glyph stem h_glyph h_stem g7) cb_X1_hasStem q2_189 rfl rfl ⟨Nat.le_of_ble_eq_true rfl, Nat.le_of_ble_eq_true rfl⟩ (ob_Font (by decide)) rfl rfl rfl hl.1 rfl (Nat.le_of_ble_eq_true rfl) dX5_best_6 ⟨Nat.zero_le _, Nat.zero_le _⟩) hh (fun hc8 H locs hh => ?_)
  refine iv_if_eq (tgt := 21) hx hb hc8 dX5_best_9 (by decide) (fun c9 => ?_) (fun c9 => ?_)
  · have h := h.1 c9
    refine iv_ldc (n := (-1000001)) hx hb (by decide) hown (hts _ q2_190) dX5_best_21 ?_
    exact iv_iret E hh h.1 (by rw [← h.1]; exact ⟨by decide, by decide⟩) (by rw [← h.2]) dX5_best_23
  · have h := h.2 c9
    refine lv_iload_n hx hb dX5_best_12 rfl (lv_at hl 3 rfl) ?_
    refine iv_iconst hx hb dX5_best_13 ?_
    refine iv_iconst hx hb dX5_best_14 ?_
    refine iv_ki (iv_rS (As := [.int (hI what), .int (hI 0), .int (hI 1)]) (rest := []) E hh (ok_X5_within l hinj S what 0 1 h_what ⟨by decide, by decide⟩ ⟨by decide, by decide⟩) cb_X5_within q2_114 rfl rfl ⟨Nat.le_of_ble_eq_true rfl, Nat.le_of_ble_eq_true rfl⟩ rfl hl.1 rfl (Nat.le_of_ble_eq_true rfl) dX5_best_15 ⟨Nat.zero_le _, Nat.zero_le _⟩) hh (fun hc10 H locs hh => ?_)
    refine iv_if_ne (tgt := 24) hx hb hc10 dX5_best_18 (by decide) (fun c11 => ?_) (fun c11 => ?_)
    · have h := h.2 c11
      refine lv_aload_n hx hb dX5_best_24 rfl (lv_at hl 0 rfl) ?_
      refine iv_get (v' := .ref (ad 1 0)) hx hb hts inX5 hown hK hh.1 (ob_X) rfl 1 (by decide) (hts _ q1_202) rfl rfl rfl dX5_best_25 ?_
      refine lv_aload_n hx hb dX5_best_28 rfl (lv_at hl 0 rfl) ?_
      refine iv_get (v' := .ref (ad 0 0)) hx hb hts inX5 hown hK hh.1 (ob_X) rfl 0 (by decide) (hts _ q1_201) rfl rfl rfl dX5_best_29 ?_
      obtain ⟨g12, h⟩ := h
      refine iv_kv (iv_rV (As := [.ref (ad 0 0)]) (rest := []) E hh (ok_X1_copy l hinj S (by decide) (by decide) (by omega) (S 1) rfl (S 0) rfl g12) cb_X1_copy q3_49 rfl rfl ⟨Nat.le_of_ble_eq_true rfl, Nat.le_of_ble_eq_true rfl⟩ (ob_Font (by decide)) rfl rfl rfl hl.1 rfl (Nat.le_of_ble_eq_true rfl) dX5_best_32 ⟨Nat.zero_le _, Nat.zero_le _⟩) hh (fun H locs hh => ?_)
      refine iv_iconst hx hb dX5_best_35 ?_
      refine lv_istore (lv' := [(4, .int (hI 0)), (0, .ref (ad 11 0)), (1, .int (hI glyph)), (2, .int (hI stem)), (3, .int (hI what))]) hx hb dX5_best_36 hl (by decide) rfl (fun ls hl => ?_)
      refine iv_iconst hx hb dX5_best_38 ?_
      refine lv_istore (lv' := [(5, .int (hI (-1))), (4, .int (hI 0)), (0, .ref (ad 11 0)), (1, .int (hI glyph)), (2, .int (hI stem)), (3, .int (hI what))]) hx hb dX5_best_39 hl (by decide) rfl (fun ls hl => ?_)
      refine iv_iconst hx hb dX5_best_41 ?_
      refine lv_istore (lv' := [(6, .int (hI 0)), (5, .int (hI (-1))), (4, .int (hI 0)), (0, .ref (ad 11 0)), (1, .int (hI glyph)), (2, .int (hI stem)), (3, .int (hI what))]) hx hb dX5_best_42 hl (by decide) rfl (fun ls hl => ?_)
      exact h H _ ls hh (lv_sub hl [3, 4, 5, 6, 2, 1, 0] rfl)
    · have h := h.1 c11
      refine iv_ldc (n := (-1000001)) hx hb (by decide) hown (hts _ q2_190) dX5_best_21 ?_
      exact iv_iret E hh h.1 (by rw [← h.1]; exact ⟨by decide, by decide⟩) (by rw [← h.2]) dX5_best_23
set_option maxHeartbeats 4000000 in
set_option maxRecDepth 100000 in
theorem ok_X5_staleSheets (l : Launch) (hinj : hInj ad) (S : hS) (hp : p_X5_staleSheets S) : hMi D ad cI cJ cF l yX5_staleSheets cX5_staleSheets 3 (some .int) ({ frames := 5, cells := 0, slots := 0, locals := 126 } : Room) [.ref (ad 11 0)] S (v_X5_staleSheets S) (m_X5_staleSheets S) := by
  refine hOf (S := S) l hinj (by decide +kernel) (Nat.le_of_ble_eq_true rfl) (fun p e s m args below meth c E => ?_)
  obtain ⟨hx, hb, hml, hown, hts, hK, hN, -, hr, hlk⟩ := id E
  have hown : s.vm.findClass RX5 = some m.cls := hown
  have r4 : ∀ (y1 : Int) (y2 : Int) (S1 : hS), hIn y1 → hIn y2 → ((∀ (g i : Nat) (k : Int), i < 100 → hIn (S1 g i k)) → ((y2 < 4 → (((v_X4_isMade (S1 0) y2) = 0 → (hAt D ad cI cJ cF p l e ({ frames := 5, cells := 0, slots := 0, locals := 126 } : Room) s m args below meth c (MQ below (hQi D ad cI cJ cF (v_X5_staleSheets S) (m_X5_staleSheets S)) args s 0 0 (hAd ad)) 3 4 [(0, .ref (ad 11 0)), (1, .int (hI y1)), (2, .int (hI (y2 + 1)))] S1)) ∧ (¬ (v_X4_isMade (S1 0) y2) = 0 → (p_X1_isStale (S1 0) (S1 7) y2 ∧ (((v_X1_isStale (S1 0) (S1 7) y2) = 0 → (hAt D ad cI cJ cF p l e ({ frames := 5, cells := 0, slots := 0, locals := 126 } : Room) s m args below meth c (MQ below (hQi D ad cI cJ cF (v_X5_staleSheets S) (m_X5_staleSheets S)) args s 0 0 (hAd ad)) 3 4 [(0, .ref (ad 11 0)), (1, .int (hI y1)), (2, .int (hI (y2 + 1)))] (gset S1 7 (m_X1_isStale (S1 0) (S1 7) y2)))) ∧ (¬ (v_X1_isStale (S1 0) (S1 7) y2) = 0 → (hAt D ad cI cJ cF p l e ({ frames := 5, cells := 0, slots := 0, locals := 126 } : Room) s m args below meth c (MQ below (hQi D ad cI cJ cF (v_X5_staleSheets S) (m_X5_staleSheets S)) args s 0 0 (hAd ad)) 3 4 [(0, .ref (ad 11 0)), (1, .int (hI (y1 + 1))), (2, .int (hI (y2 + 1)))] (gset S1 7 (m_X1_isStale (S1 0) (S1 7) y2))))))))) ∧ (¬ y2 < 4 → (y1 = v_X5_staleSheets S ∧ S1 = m_X5_staleSheets S)))) → (hAt D ad cI cJ cF p l e ({ frames := 5, cells := 0, slots := 0, locals := 126 } : Room) s m args below meth c (MQ below (hQi D ad cI cJ cF (v_X5_staleSheets S) (m_X5_staleSheets S)) args s 0 0 (hAd ad)) 3 4 [(0, .ref (ad 11 0)), (1, .int (hI y1)), (2, .int (hI y2))] S1) := by
    intro y1 y2 S1 h_y1 h_y2 h H locs ls hh hl
    have h := h (fun g i k hi => hh.2.1 g i k hi)
    refine lv_iload_n hx hb dX5_staleSheets_4 rfl (lv_at hl 2 rfl) ?_
    refine iv_iconst hx hb dX5_staleSheets_5 ?_
    refine iv_icmp_ge (tgt := 47) hx hb h_y2 ⟨by decide, by decide⟩ dX5_staleSheets_6 (by decide) (fun c1 => ?_) (fun c1 => ?_)
    · have h := h.2 c1
      refine lv_iload_n hx hb dX5_staleSheets_47 rfl (lv_at hl 1 rfl) ?_
      exact iv_iret E hh h.1 (by rw [← h.1]; exact h_y1) (by rw [← h.2]) dX5_staleSheets_48
    · have h := h.1 c1
      refine lv_aload_n hx hb dX5_staleSheets_9 rfl (lv_at hl 0 rfl) ?_
      refine iv_get (v' := .ref (ad 0 0)) hx hb hts inX5 hown hK hh.1 (ob_X) rfl 0 (by decide) (hts _ q1_201) rfl rfl rfl dX5_staleSheets_10 ?_
      refine iv_getN (v' := .ref (ad 0 7)) hx hb hts inX1 hown hK hh.1 (ob_Font (by decide)) rfl 10 (by decide) (hN _ q1_85) rfl rfl rfl dX5_staleSheets_13 ?_
      refine lv_iload_n hx hb dX5_staleSheets_16 rfl (lv_at hl 2 rfl) ?_
      refine iv_ki (iv_rV (As := [.int (hI y2)]) (rest := []) E hh (ok_X4_isMade l hinj S1 (by decide) (S1 0) rfl y2 h_y2) cb_X4_isMade q3_80 rfl rfl ⟨Nat.le_of_ble_eq_true rfl, Nat.le_of_ble_eq_true rfl⟩ (ob_Sheets (by decide)) rfl rfl rfl hl.1 rfl (Nat.le_of_ble_eq_true rfl) dX5_staleSheets_17 ⟨Nat.zero_le _, Nat.zero_le _⟩) hh (fun hc2 H locs hh => ?_)
      refine iv_if_eq (tgt := 41) hx hb hc2 dX5_staleSheets_20 (by decide) (fun c3 => ?_) (fun c3 => ?_)
      · have h := h.1 c3
        refine iv_iinc (lv' := [(2, .int (hI (y2 + 1))), (0, .ref (ad 11 0)), (1, .int (hI y1))]) hx hb dX5_staleSheets_41 hl (k := 2) rfl (v := (y2 + 1)) rfl (by decide) rfl (fun ls hl => ?_)
        refine lv_goto (tgt := 4) hx hb dX5_staleSheets_44 (by decide) ?_
        exact h H _ ls hh (lv_sub hl [1, 2, 0] rfl)
      · have h := h.2 c3
        refine lv_aload_n hx hb dX5_staleSheets_23 rfl (lv_at hl 0 rfl) ?_
        refine iv_get (v' := .ref (ad 0 0)) hx hb hts inX5 hown hK hh.1 (ob_X) rfl 0 (by decide) (hts _ q1_201) rfl rfl rfl dX5_staleSheets_24 ?_
        refine lv_iload_n hx hb dX5_staleSheets_27 rfl (lv_at hl 2 rfl) ?_
        refine lv_aload_n hx hb dX5_staleSheets_28 rfl (lv_at hl 0 rfl) ?_
        refine iv_get (v' := .ref (ad 7 0)) hx hb hts inX5 hown hK hh.1 (ob_X) rfl 2 (by decide) (hts _ q1_203) rfl rfl rfl dX5_staleSheets_29 ?_
        obtain ⟨g4, h⟩ := h
        refine iv_ki (iv_rV (As := [.int (hI y2), .ref (ad 7 0)]) (rest := []) E hh (ok_X1_isStale l hinj S1 (by decide) (S1 0) rfl (S1 7) rfl y2 h_y2 g4) cb_X1_isStale q3_17 rfl rfl ⟨Nat.le_of_ble_eq_true rfl, Nat.le_of_ble_eq_true rfl⟩ (ob_Font (by decide)) rfl rfl rfl hl.1 rfl (Nat.le_of_ble_eq_true rfl) dX5_staleSheets_32 ⟨Nat.zero_le _, Nat.zero_le _⟩) hh (fun hc5 H locs hh => ?_)
        refine iv_if_eq (tgt := 41) hx hb hc5 dX5_staleSheets_35 (by decide) (fun c6 => ?_) (fun c6 => ?_)
        · have h := h.1 c6
          refine iv_iinc (lv' := [(2, .int (hI (y2 + 1))), (0, .ref (ad 11 0)), (1, .int (hI y1))]) hx hb dX5_staleSheets_41 hl (k := 2) rfl (v := (y2 + 1)) rfl (by decide) rfl (fun ls hl => ?_)
          refine lv_goto (tgt := 4) hx hb dX5_staleSheets_44 (by decide) ?_
          exact h H _ ls hh (lv_sub hl [1, 2, 0] rfl)
        · have h := h.2 c6
          refine iv_iinc (lv' := [(1, .int (hI (y1 + 1))), (0, .ref (ad 11 0)), (2, .int (hI y2))]) hx hb dX5_staleSheets_38 hl (k := 1) rfl (v := (y1 + 1)) rfl (by decide) rfl (fun ls hl => ?_)
          refine iv_iinc (lv' := [(2, .int (hI (y2 + 1))), (1, .int (hI (y1 + 1))), (0, .ref (ad 11 0))]) hx hb dX5_staleSheets_41 hl (k := 2) rfl (v := (y2 + 1)) rfl (by decide) rfl (fun ls hl => ?_)
          refine lv_goto (tgt := 4) hx hb dX5_staleSheets_44 (by decide) ?_
          exact h H _ ls hh (lv_sub hl [2, 1, 0] rfl)
  intro H locs ls hh hl
  have hl : lv_has ls 3 [(0, .ref (ad 11 0))] := hl
  have h := x_X5_staleSheets S (fun g i k hi => hh.2.1 g i k hi) hp (fun y1 y2 S1 => (hAt D ad cI cJ cF p l e ({ frames := 5, cells := 0, slots := 0, locals := 126 } : Room) s m args below meth c (MQ below (hQi D ad cI cJ cF (v_X5_staleSheets S) (m_X5_staleSheets S)) args s 0 0 (hAd ad)) 3 4 [(0, .ref (ad 11 0)), (1, .int (hI y1)), (2, .int (hI y2))] S1)) (fun r S1 => (r = v_X5_staleSheets S ∧ S1 = m_X5_staleSheets S)) r4 ⟨rfl, rfl⟩
  refine iv_iconst hx hb dX5_staleSheets_0 ?_
  refine lv_istore_n (lv' := [(1, .int (hI 0)), (0, .ref (ad 11 0))]) hx hb dX5_staleSheets_1 rfl hl (by decide) rfl (fun ls hl => ?_)
  refine iv_iconst hx hb dX5_staleSheets_2 ?_
  refine lv_istore_n (lv' := [(2, .int (hI 0)), (1, .int (hI 0)), (0, .ref (ad 11 0))]) hx hb dX5_staleSheets_3 rfl hl (by decide) rfl (fun ls hl => ?_)
  exact h H _ ls hh (lv_sub hl [2, 1, 0] rfl)
set_option maxHeartbeats 4000000 in
set_option maxRecDepth 100000 in
theorem ok_X5_count (l : Launch) (hinj : hInj ad) (S : hS) (what : Int) (h_what : hIn what) (hp : p_X5_count S what) : hMi D ad cI cJ cF l yX5_count cX5_count 2 (some .int) ({ frames := 6, cells := 0, slots := 0, locals := 148 } : Room) [.ref (ad 11 0), .int (hI what)] S (v_X5_count S what) (m_X5_count S what) := by
  refine hOf (S := S) l hinj (by decide +kernel) (Nat.le_of_ble_eq_true rfl) (fun p e s m args below meth c E => ?_)
  obtain ⟨hx, hb, hml, hown, hts, hK, hN, -, hr, hlk⟩ := id E
  have hown : s.vm.findClass RX5 = some m.cls := hown
  intro H locs ls hh hl
  have hl : lv_has ls 2 [(0, .ref (ad 11 0)), (1, .int (hI what))] := hl
  have h := hp
  unfold p_X5_count at h
  refine lv_iload_n hx hb dX5_count_0 rfl (lv_at hl 1 rfl) ?_
  by_cases c1 : what = 0
  · have h := h.1 c1
    refine lv_tableIn (off := 103) (tgt := 104) hx hb dX5_count_1 (by rw [hI_toInt h_what, c1]; decide) (by rw [hI_toInt h_what, c1]; decide) (by rw [hI_toInt h_what, c1]; rfl) (by decide) ?_
    refine lv_aload_n hx hb dX5_count_104 rfl (lv_at hl 0 rfl) ?_
    refine iv_get (v' := .ref (ad 0 0)) hx hb hts inX5 hown hK hh.1 (ob_X) rfl 0 (by decide) (hts _ q1_201) rfl rfl rfl dX5_count_105 ?_
    refine iv_getN (v' := .int (hI ((S 0) 0 0))) hx hb hts inX1 hown hK hh.1 (ob_Font (by decide)) rfl 0 (by decide) (hN _ q1_60) rfl rfl rfl dX5_count_108 ?_
    have hm2 : hIn ((S 0) 0 0) := hIn_rd hh.2.1 rfl (by decide)
    exact iv_iret E hh (by unfold v_X5_count; rw [if_pos c1]) (by rw [← show ((S 0) 0 0) = v_X5_count S what from (by unfold v_X5_count; rw [if_pos c1])]; exact hm2) (by unfold m_X5_count; rw [if_pos c1]) dX5_count_111
  · have h := h.2 c1
    by_cases c3 : what = 1
    · have h := h.1 c3
      refine lv_tableIn (off := 111) (tgt := 112) hx hb dX5_count_1 (by rw [hI_toInt h_what, c3]; decide) (by rw [hI_toInt h_what, c3]; decide) (by rw [hI_toInt h_what, c3]; rfl) (by decide) ?_
      refine lv_aload_n hx hb dX5_count_112 rfl (lv_at hl 0 rfl) ?_
      refine iv_get (v' := .ref (ad 0 0)) hx hb hts inX5 hown hK hh.1 (ob_X) rfl 0 (by decide) (hts _ q1_201) rfl rfl rfl dX5_count_113 ?_
      obtain ⟨g4, h⟩ := h
      refine iv_ki (iv_rV (As := []) (rest := []) E hh (ok_X1_stemsTogether l hinj S (by decide) (S 0) rfl g4) cb_X1_stemsTogether q3_59 rfl rfl ⟨Nat.le_of_ble_eq_true rfl, Nat.le_of_ble_eq_true rfl⟩ (ob_Font (by decide)) rfl rfl rfl hl.1 rfl (Nat.le_of_ble_eq_true rfl) dX5_count_116 ⟨Nat.zero_le _, Nat.zero_le _⟩) hh (fun hc5 H locs hh => ?_)
      exact iv_iret E hh (by unfold v_X5_count; rw [if_neg c1, if_pos c3]) (by rw [← show (v_X1_stemsTogether (S 0)) = v_X5_count S what from (by unfold v_X5_count; rw [if_neg c1, if_pos c3])]; exact hc5) (by unfold m_X5_count; rw [if_neg c1, if_pos c3]) dX5_count_119
    · have h := h.2 c3
      by_cases c6 : what = 2
      · have h := h.1 c6
        refine lv_tableIn (off := 119) (tgt := 120) hx hb dX5_count_1 (by rw [hI_toInt h_what, c6]; decide) (by rw [hI_toInt h_what, c6]; decide) (by rw [hI_toInt h_what, c6]; rfl) (by decide) ?_
        refine lv_aload_n hx hb dX5_count_120 rfl (lv_at hl 0 rfl) ?_
        refine iv_get (v' := .ref (ad 0 0)) hx hb hts inX5 hown hK hh.1 (ob_X) rfl 0 (by decide) (hts _ q1_201) rfl rfl rfl dX5_count_121 ?_
        refine iv_getN (v' := .int (hI ((S 0) 0 1))) hx hb hts inX1 hown hK hh.1 (ob_Font (by decide)) rfl 1 (by decide) (hN _ q1_62) rfl rfl rfl dX5_count_124 ?_
        have hm7 : hIn ((S 0) 0 1) := hIn_rd hh.2.1 rfl (by decide)
        exact iv_iret E hh (by unfold v_X5_count; rw [if_neg c1, if_neg c3, if_pos c6]) (by rw [← show ((S 0) 0 1) = v_X5_count S what from (by unfold v_X5_count; rw [if_neg c1, if_neg c3, if_pos c6])]; exact hm7) (by unfold m_X5_count; rw [if_neg c1, if_neg c3, if_pos c6]) dX5_count_127
      · have h := h.2 c6
        by_cases c8 : what = 3
        · have h := h.1 c8
          refine lv_tableIn (off := 127) (tgt := 128) hx hb dX5_count_1 (by rw [hI_toInt h_what, c8]; decide) (by rw [hI_toInt h_what, c8]; decide) (by rw [hI_toInt h_what, c8]; rfl) (by decide) ?_
          refine lv_aload_n hx hb dX5_count_128 rfl (lv_at hl 0 rfl) ?_
          refine iv_get (v' := .ref (ad 0 0)) hx hb hts inX5 hown hK hh.1 (ob_X) rfl 0 (by decide) (hts _ q1_201) rfl rfl rfl dX5_count_129 ?_
          refine iv_getN (v' := .ref (ad 0 7)) hx hb hts inX1 hown hK hh.1 (ob_Font (by decide)) rfl 10 (by decide) (hN _ q1_85) rfl rfl rfl dX5_count_132 ?_
          obtain ⟨g9, h⟩ := h
          refine iv_ki (iv_rV (As := []) (rest := []) E hh (ok_X4_held l hinj S (by decide) (S 0) rfl g9) cb_X4_held q3_75 rfl rfl ⟨Nat.le_of_ble_eq_true rfl, Nat.le_of_ble_eq_true rfl⟩ (ob_Sheets (by decide)) rfl rfl rfl hl.1 rfl (Nat.le_of_ble_eq_true rfl) dX5_count_135 ⟨Nat.zero_le _, Nat.zero_le _⟩) hh (fun hc10 H locs hh => ?_)
          exact iv_iret E hh (by unfold v_X5_count; rw [if_neg c1, if_neg c3, if_neg c6, if_pos c8]) (by rw [← show (v_X4_held (S 0)) = v_X5_count S what from (by unfold v_X5_count; rw [if_neg c1, if_neg c3, if_neg c6, if_pos c8])]; exact hc10) (by unfold m_X5_count; rw [if_neg c1, if_neg c3, if_neg c6, if_pos c8]) dX5_count_138
        · have h := h.2 c8
          by_cases c11 : what = 4
          · have h := h.1 c11
            refine lv_tableIn (off := 138) (tgt := 139) hx hb dX5_count_1 (by rw [hI_toInt h_what, c11]; decide) (by rw [hI_toInt h_what, c11]; decide) (by rw [hI_toInt h_what, c11]; rfl) (by decide) ?_
            refine lv_aload_n hx hb dX5_count_139 rfl (lv_at hl 0 rfl) ?_
            obtain ⟨g12, h⟩ := h
            refine iv_ki (iv_rV (As := []) (rest := []) E hh (ok_X5_staleSheets l hinj S g12) cb_X5_staleSheets q3_76 rfl rfl ⟨Nat.le_of_ble_eq_true rfl, Nat.le_of_ble_eq_true rfl⟩ (ob_X) rfl rfl rfl hl.1 rfl (Nat.le_of_ble_eq_true rfl) dX5_count_140 ⟨Nat.zero_le _, Nat.zero_le _⟩) hh (fun hc13 H locs hh => ?_)
            exact iv_iret E hh (by unfold v_X5_count; rw [if_neg c1, if_neg c3, if_neg c6, if_neg c8, if_pos c11]) (by rw [← show (v_X5_staleSheets S) = v_X5_count S what from (by unfold v_X5_count; rw [if_neg c1, if_neg c3, if_neg c6, if_neg c8, if_pos c11])]; exact hc13) (by unfold m_X5_count; rw [if_neg c1, if_neg c3, if_neg c6, if_neg c8, if_pos c11]) dX5_count_143
          · have h := h.2 c11
            by_cases c14 : what = 5
            · have h := h.1 c14
              refine lv_tableIn (off := 143) (tgt := 144) hx hb dX5_count_1 (by rw [hI_toInt h_what, c14]; decide) (by rw [hI_toInt h_what, c14]; decide) (by rw [hI_toInt h_what, c14]; rfl) (by decide) ?_
              refine lv_aload_n hx hb dX5_count_144 rfl (lv_at hl 0 rfl) ?_
              refine iv_get (v' := .ref (ad 0 0)) hx hb hts inX5 hown hK hh.1 (ob_X) rfl 0 (by decide) (hts _ q1_201) rfl rfl rfl dX5_count_145 ?_
              obtain ⟨g15, h⟩ := h
              refine iv_ki (iv_rV (As := []) (rest := []) E hh (ok_X1_unlikeWidths l hinj S (by decide) (S 0) rfl g15) cb_X1_unlikeWidths q3_81 rfl rfl ⟨Nat.le_of_ble_eq_true rfl, Nat.le_of_ble_eq_true rfl⟩ (ob_Font (by decide)) rfl rfl rfl hl.1 rfl (Nat.le_of_ble_eq_true rfl) dX5_count_148 ⟨Nat.zero_le _, Nat.zero_le _⟩) hh (fun hc16 H locs hh => ?_)
              exact iv_iret E hh (by unfold v_X5_count; rw [if_neg c1, if_neg c3, if_neg c6, if_neg c8, if_neg c11, if_pos c14]) (by rw [← show (v_X1_unlikeWidths (S 0)) = v_X5_count S what from (by unfold v_X5_count; rw [if_neg c1, if_neg c3, if_neg c6, if_neg c8, if_neg c11, if_pos c14])]; exact hc16) (by unfold m_X5_count; rw [if_neg c1, if_neg c3, if_neg c6, if_neg c8, if_neg c11, if_pos c14]) dX5_count_151
            · have h := h.2 c14
              by_cases c17 : what = 6
              · have h := h.1 c17
                refine lv_tableIn (off := 151) (tgt := 152) hx hb dX5_count_1 (by rw [hI_toInt h_what, c17]; decide) (by rw [hI_toInt h_what, c17]; decide) (by rw [hI_toInt h_what, c17]; rfl) (by decide) ?_
                refine lv_aload_n hx hb dX5_count_152 rfl (lv_at hl 0 rfl) ?_
                refine iv_get (v' := .ref (ad 0 0)) hx hb hts inX5 hown hK hh.1 (ob_X) rfl 0 (by decide) (hts _ q1_201) rfl rfl rfl dX5_count_153 ?_
                refine iv_getN (v' := .ref (ad 0 7)) hx hb hts inX1 hown hK hh.1 (ob_Font (by decide)) rfl 10 (by decide) (hN _ q1_85) rfl rfl rfl dX5_count_156 ?_
                refine iv_getN (v' := .int (hI ((S 0) 7 0))) hx hb hts inX4 hown hK hh.1 (ob_Sheets (by decide)) rfl 0 (by decide) (hN _ q1_32) rfl rfl rfl dX5_count_159 ?_
                have hm18 : hIn ((S 0) 7 0) := hIn_rd hh.2.1 rfl (by decide)
                exact iv_iret E hh (by unfold v_X5_count; rw [if_neg c1, if_neg c3, if_neg c6, if_neg c8, if_neg c11, if_neg c14, if_pos c17]) (by rw [← show ((S 0) 7 0) = v_X5_count S what from (by unfold v_X5_count; rw [if_neg c1, if_neg c3, if_neg c6, if_neg c8, if_neg c11, if_neg c14, if_pos c17])]; exact hm18) (by unfold m_X5_count; rw [if_neg c1, if_neg c3, if_neg c6, if_neg c8, if_neg c11, if_neg c14, if_pos c17]) dX5_count_162
              · have h := h.2 c17
                by_cases c19 : what = 7
                · have h := h.1 c19
                  refine lv_tableIn (off := 162) (tgt := 163) hx hb dX5_count_1 (by rw [hI_toInt h_what, c19]; decide) (by rw [hI_toInt h_what, c19]; decide) (by rw [hI_toInt h_what, c19]; rfl) (by decide) ?_
                  refine lv_aload_n hx hb dX5_count_163 rfl (lv_at hl 0 rfl) ?_
                  refine iv_get (v' := .ref (ad 9 0)) hx hb hts inX5 hown hK hh.1 (ob_X) rfl 4 (by decide) (hts _ q1_205) rfl rfl rfl dX5_count_164 ?_
                  refine iv_getN (v' := .int (hI ((S 9) 0 2))) hx hb hts inX2 hown hK hh.1 (ob_Hist) rfl 2 (by decide) (hN _ q1_193) rfl rfl rfl dX5_count_167 ?_
                  have hm20 : hIn ((S 9) 0 2) := hIn_rd hh.2.1 rfl (by decide)
                  exact iv_iret E hh (by unfold v_X5_count; rw [if_neg c1, if_neg c3, if_neg c6, if_neg c8, if_neg c11, if_neg c14, if_neg c17, if_pos c19]) (by rw [← show ((S 9) 0 2) = v_X5_count S what from (by unfold v_X5_count; rw [if_neg c1, if_neg c3, if_neg c6, if_neg c8, if_neg c11, if_neg c14, if_neg c17, if_pos c19])]; exact hm20) (by unfold m_X5_count; rw [if_neg c1, if_neg c3, if_neg c6, if_neg c8, if_neg c11, if_neg c14, if_neg c17, if_pos c19]) dX5_count_170
                · have h := h.2 c19
                  by_cases c21 : what = 8
                  · have h := h.1 c21
                    refine lv_tableIn (off := 170) (tgt := 171) hx hb dX5_count_1 (by rw [hI_toInt h_what, c21]; decide) (by rw [hI_toInt h_what, c21]; decide) (by rw [hI_toInt h_what, c21]; rfl) (by decide) ?_
                    refine lv_aload_n hx hb dX5_count_171 rfl (lv_at hl 0 rfl) ?_
                    refine iv_get (v' := .ref (ad 8 0)) hx hb hts inX5 hown hK hh.1 (ob_X) rfl 3 (by decide) (hts _ q1_204) rfl rfl rfl dX5_count_172 ?_
                    refine iv_getN (v' := .int (hI ((S 8) 0 1))) hx hb hts inX3 hown hK hh.1 (ob_Orders) rfl 1 (by decide) (hN _ q1_153) rfl rfl rfl dX5_count_175 ?_
                    have hm22 : hIn ((S 8) 0 1) := hIn_rd hh.2.1 rfl (by decide)
                    exact iv_iret E hh (by unfold v_X5_count; rw [if_neg c1, if_neg c3, if_neg c6, if_neg c8, if_neg c11, if_neg c14, if_neg c17, if_neg c19, if_pos c21]) (by rw [← show ((S 8) 0 1) = v_X5_count S what from (by unfold v_X5_count; rw [if_neg c1, if_neg c3, if_neg c6, if_neg c8, if_neg c11, if_neg c14, if_neg c17, if_neg c19, if_pos c21])]; exact hm22) (by unfold m_X5_count; rw [if_neg c1, if_neg c3, if_neg c6, if_neg c8, if_neg c11, if_neg c14, if_neg c17, if_neg c19, if_pos c21]) dX5_count_178
                  · have h := h.2 c21
                    by_cases c23 : what = 9
                    · have h := h.1 c23
                      refine lv_tableIn (off := 228) (tgt := 229) hx hb dX5_count_1 (by rw [hI_toInt h_what, c23]; decide) (by rw [hI_toInt h_what, c23]; decide) (by rw [hI_toInt h_what, c23]; rfl) (by decide) ?_
                      refine iv_ldc (n := (-1000001)) hx hb (by decide) hown (hts _ q2_190) dX5_count_229 ?_
                      exact iv_iret E hh (by unfold v_X5_count; rw [if_neg c1, if_neg c3, if_neg c6, if_neg c8, if_neg c11, if_neg c14, if_neg c17, if_neg c19, if_neg c21, if_pos c23]) (by rw [← show (-1000001) = v_X5_count S what from (by unfold v_X5_count; rw [if_neg c1, if_neg c3, if_neg c6, if_neg c8, if_neg c11, if_neg c14, if_neg c17, if_neg c19, if_neg c21, if_pos c23])]; exact ⟨by decide, by decide⟩) (by unfold m_X5_count; rw [if_neg c1, if_neg c3, if_neg c6, if_neg c8, if_neg c11, if_neg c14, if_neg c17, if_neg c19, if_neg c21, if_pos c23]) dX5_count_231
                    · have h := h.2 c23
                      by_cases c24 : what = 10
                      · have h := h.1 c24
                        refine lv_tableIn (off := 178) (tgt := 179) hx hb dX5_count_1 (by rw [hI_toInt h_what, c24]; decide) (by rw [hI_toInt h_what, c24]; decide) (by rw [hI_toInt h_what, c24]; rfl) (by decide) ?_
                        refine lv_iload_n hx hb dX5_count_179 rfl (lv_at hl 1 rfl) ?_
                        refine lv_bipush (v := hI 10) hx hb dX5_count_180 (by decide) ?_
                        refine iv_isub hx hb dX5_count_182 ?_
                        refine lv_aload_n hx hb dX5_count_183 rfl (lv_at hl 0 rfl) ?_
                        refine iv_get (v' := .ref (ad 0 0)) hx hb hts inX5 hown hK hh.1 (ob_X) rfl 0 (by decide) (hts _ q1_201) rfl rfl rfl dX5_count_184 ?_
                        refine iv_getN (v' := .int (hI ((S 0) 0 1))) hx hb hts inX1 hown hK hh.1 (ob_Font (by decide)) rfl 1 (by decide) (hN _ q1_62) rfl rfl rfl dX5_count_187 ?_
                        have hm25 : hIn ((S 0) 0 1) := hIn_rd hh.2.1 rfl (by decide)
                        obtain ⟨g26, h⟩ := h
                        refine iv_icmp_ge (tgt := 210) hx hb g26 hm25 dX5_count_190 (by decide) (fun c27 => ?_) (fun c27 => ?_)
                        · have h := h.2 c27
                          refine iv_ldc (n := (-1000004)) hx hb (by decide) hown (hts _ q2_197) dX5_count_210 ?_
                          exact iv_iret E hh (by unfold v_X5_count; rw [if_neg c1, if_neg c3, if_neg c6, if_neg c8, if_neg c11, if_neg c14, if_neg c17, if_neg c19, if_neg c21, if_neg c23, if_pos c24, if_neg c27]) (by rw [← show (-1000004) = v_X5_count S what from (by unfold v_X5_count; rw [if_neg c1, if_neg c3, if_neg c6, if_neg c8, if_neg c11, if_neg c14, if_neg c17, if_neg c19, if_neg c21, if_neg c23, if_pos c24, if_neg c27])]; exact ⟨by decide, by decide⟩) (by unfold m_X5_count; rw [if_neg c1, if_neg c3, if_neg c6, if_neg c8, if_neg c11, if_neg c14, if_neg c17, if_neg c19, if_neg c21, if_neg c23, if_pos c24, if_neg c27]) dX5_count_212
                        · have h := h.1 c27
                          refine lv_aload_n hx hb dX5_count_193 rfl (lv_at hl 0 rfl) ?_
                          refine iv_get (v' := .ref (ad 0 0)) hx hb hts inX5 hown hK hh.1 (ob_X) rfl 0 (by decide) (hts _ q1_201) rfl rfl rfl dX5_count_194 ?_
                          refine iv_getN (v' := .ref (ad 0 6)) hx hb hts inX1 hown hK hh.1 (ob_Font (by decide)) rfl 9 (by decide) (hN _ q1_83) rfl rfl rfl dX5_count_197 ?_
                          refine lv_iload_n hx hb dX5_count_200 rfl (lv_at hl 1 rfl) ?_
                          refine lv_bipush (v := hI 10) hx hb dX5_count_201 (by decide) ?_
                          refine iv_isub hx hb dX5_count_203 ?_
                          refine iv_ki (iv_rS (As := [.ref (ad 0 6), .int (hI (what - 10))]) (rest := []) E hh (ok_X5_cell l hinj S (ia_F_6 (by decide)) (S 0) rfl (what - 10) g26) cb_X5_cell q2_191 rfl rfl ⟨Nat.le_of_ble_eq_true rfl, Nat.le_of_ble_eq_true rfl⟩ rfl hl.1 rfl (Nat.le_of_ble_eq_true rfl) dX5_count_204 ⟨Nat.zero_le _, Nat.zero_le _⟩) hh (fun hc28 H locs hh => ?_)
                          refine lv_goto (tgt := 212) hx hb dX5_count_207 (by decide) ?_
                          exact iv_iret E hh (by unfold v_X5_count; rw [if_neg c1, if_neg c3, if_neg c6, if_neg c8, if_neg c11, if_neg c14, if_neg c17, if_neg c19, if_neg c21, if_neg c23, if_pos c24, if_pos c27]) (by rw [← show (v_X5_cell (S 0) 6 3 (what - 10)) = v_X5_count S what from (by unfold v_X5_count; rw [if_neg c1, if_neg c3, if_neg c6, if_neg c8, if_neg c11, if_neg c14, if_neg c17, if_neg c19, if_neg c21, if_neg c23, if_pos c24, if_pos c27])]; exact hc28) (by unfold m_X5_count; rw [if_neg c1, if_neg c3, if_neg c6, if_neg c8, if_neg c11, if_neg c14, if_neg c17, if_neg c19, if_neg c21, if_neg c23, if_pos c24, if_pos c27]) dX5_count_212
                      · have h := h.2 c24
                        by_cases c29 : what = 11
                        · have h := h.1 c29
                          refine lv_tableIn (off := 178) (tgt := 179) hx hb dX5_count_1 (by rw [hI_toInt h_what, c29]; decide) (by rw [hI_toInt h_what, c29]; decide) (by rw [hI_toInt h_what, c29]; rfl) (by decide) ?_
                          refine lv_iload_n hx hb dX5_count_179 rfl (lv_at hl 1 rfl) ?_
                          refine lv_bipush (v := hI 10) hx hb dX5_count_180 (by decide) ?_
                          refine iv_isub hx hb dX5_count_182 ?_
                          refine lv_aload_n hx hb dX5_count_183 rfl (lv_at hl 0 rfl) ?_
                          refine iv_get (v' := .ref (ad 0 0)) hx hb hts inX5 hown hK hh.1 (ob_X) rfl 0 (by decide) (hts _ q1_201) rfl rfl rfl dX5_count_184 ?_
                          refine iv_getN (v' := .int (hI ((S 0) 0 1))) hx hb hts inX1 hown hK hh.1 (ob_Font (by decide)) rfl 1 (by decide) (hN _ q1_62) rfl rfl rfl dX5_count_187 ?_
                          have hm30 : hIn ((S 0) 0 1) := hIn_rd hh.2.1 rfl (by decide)
                          obtain ⟨g31, h⟩ := h
                          refine iv_icmp_ge (tgt := 210) hx hb g31 hm30 dX5_count_190 (by decide) (fun c32 => ?_) (fun c32 => ?_)
                          · have h := h.2 c32
                            refine iv_ldc (n := (-1000004)) hx hb (by decide) hown (hts _ q2_197) dX5_count_210 ?_
                            exact iv_iret E hh (by unfold v_X5_count; rw [if_neg c1, if_neg c3, if_neg c6, if_neg c8, if_neg c11, if_neg c14, if_neg c17, if_neg c19, if_neg c21, if_neg c23, if_neg c24, if_pos c29, if_neg c32]) (by rw [← show (-1000004) = v_X5_count S what from (by unfold v_X5_count; rw [if_neg c1, if_neg c3, if_neg c6, if_neg c8, if_neg c11, if_neg c14, if_neg c17, if_neg c19, if_neg c21, if_neg c23, if_neg c24, if_pos c29, if_neg c32])]; exact ⟨by decide, by decide⟩) (by unfold m_X5_count; rw [if_neg c1, if_neg c3, if_neg c6, if_neg c8, if_neg c11, if_neg c14, if_neg c17, if_neg c19, if_neg c21, if_neg c23, if_neg c24, if_pos c29, if_neg c32]) dX5_count_212
                          · have h := h.1 c32
                            refine lv_aload_n hx hb dX5_count_193 rfl (lv_at hl 0 rfl) ?_
                            refine iv_get (v' := .ref (ad 0 0)) hx hb hts inX5 hown hK hh.1 (ob_X) rfl 0 (by decide) (hts _ q1_201) rfl rfl rfl dX5_count_194 ?_
                            refine iv_getN (v' := .ref (ad 0 6)) hx hb hts inX1 hown hK hh.1 (ob_Font (by decide)) rfl 9 (by decide) (hN _ q1_83) rfl rfl rfl dX5_count_197 ?_
                            refine lv_iload_n hx hb dX5_count_200 rfl (lv_at hl 1 rfl) ?_
                            refine lv_bipush (v := hI 10) hx hb dX5_count_201 (by decide) ?_
                            refine iv_isub hx hb dX5_count_203 ?_
                            refine iv_ki (iv_rS (As := [.ref (ad 0 6), .int (hI (what - 10))]) (rest := []) E hh (ok_X5_cell l hinj S (ia_F_6 (by decide)) (S 0) rfl (what - 10) g31) cb_X5_cell q2_191 rfl rfl ⟨Nat.le_of_ble_eq_true rfl, Nat.le_of_ble_eq_true rfl⟩ rfl hl.1 rfl (Nat.le_of_ble_eq_true rfl) dX5_count_204 ⟨Nat.zero_le _, Nat.zero_le _⟩) hh (fun hc33 H locs hh => ?_)
                            refine lv_goto (tgt := 212) hx hb dX5_count_207 (by decide) ?_
                            exact iv_iret E hh (by unfold v_X5_count; rw [if_neg c1, if_neg c3, if_neg c6, if_neg c8, if_neg c11, if_neg c14, if_neg c17, if_neg c19, if_neg c21, if_neg c23, if_neg c24, if_pos c29, if_pos c32]) (by rw [← show (v_X5_cell (S 0) 6 3 (what - 10)) = v_X5_count S what from (by unfold v_X5_count; rw [if_neg c1, if_neg c3, if_neg c6, if_neg c8, if_neg c11, if_neg c14, if_neg c17, if_neg c19, if_neg c21, if_neg c23, if_neg c24, if_pos c29, if_pos c32])]; exact hc33) (by unfold m_X5_count; rw [if_neg c1, if_neg c3, if_neg c6, if_neg c8, if_neg c11, if_neg c14, if_neg c17, if_neg c19, if_neg c21, if_neg c23, if_neg c24, if_pos c29, if_pos c32]) dX5_count_212
                        · have h := h.2 c29
                          by_cases c34 : what = 12
                          · have h := h.1 c34
                            refine lv_tableIn (off := 178) (tgt := 179) hx hb dX5_count_1 (by rw [hI_toInt h_what, c34]; decide) (by rw [hI_toInt h_what, c34]; decide) (by rw [hI_toInt h_what, c34]; rfl) (by decide) ?_
                            refine lv_iload_n hx hb dX5_count_179 rfl (lv_at hl 1 rfl) ?_
                            refine lv_bipush (v := hI 10) hx hb dX5_count_180 (by decide) ?_
                            refine iv_isub hx hb dX5_count_182 ?_
                            refine lv_aload_n hx hb dX5_count_183 rfl (lv_at hl 0 rfl) ?_
                            refine iv_get (v' := .ref (ad 0 0)) hx hb hts inX5 hown hK hh.1 (ob_X) rfl 0 (by decide) (hts _ q1_201) rfl rfl rfl dX5_count_184 ?_
                            refine iv_getN (v' := .int (hI ((S 0) 0 1))) hx hb hts inX1 hown hK hh.1 (ob_Font (by decide)) rfl 1 (by decide) (hN _ q1_62) rfl rfl rfl dX5_count_187 ?_
                            have hm35 : hIn ((S 0) 0 1) := hIn_rd hh.2.1 rfl (by decide)
                            obtain ⟨g36, h⟩ := h
                            refine iv_icmp_ge (tgt := 210) hx hb g36 hm35 dX5_count_190 (by decide) (fun c37 => ?_) (fun c37 => ?_)
                            · have h := h.2 c37
                              refine iv_ldc (n := (-1000004)) hx hb (by decide) hown (hts _ q2_197) dX5_count_210 ?_
                              exact iv_iret E hh (by unfold v_X5_count; rw [if_neg c1, if_neg c3, if_neg c6, if_neg c8, if_neg c11, if_neg c14, if_neg c17, if_neg c19, if_neg c21, if_neg c23, if_neg c24, if_neg c29, if_pos c34, if_neg c37]) (by rw [← show (-1000004) = v_X5_count S what from (by unfold v_X5_count; rw [if_neg c1, if_neg c3, if_neg c6, if_neg c8, if_neg c11, if_neg c14, if_neg c17, if_neg c19, if_neg c21, if_neg c23, if_neg c24, if_neg c29, if_pos c34, if_neg c37])]; exact ⟨by decide, by decide⟩) (by unfold m_X5_count; rw [if_neg c1, if_neg c3, if_neg c6, if_neg c8, if_neg c11, if_neg c14, if_neg c17, if_neg c19, if_neg c21, if_neg c23, if_neg c24, if_neg c29, if_pos c34, if_neg c37]) dX5_count_212
                            · have h := h.1 c37
                              refine lv_aload_n hx hb dX5_count_193 rfl (lv_at hl 0 rfl) ?_
                              refine iv_get (v' := .ref (ad 0 0)) hx hb hts inX5 hown hK hh.1 (ob_X) rfl 0 (by decide) (hts _ q1_201) rfl rfl rfl dX5_count_194 ?_
                              refine iv_getN (v' := .ref (ad 0 6)) hx hb hts inX1 hown hK hh.1 (ob_Font (by decide)) rfl 9 (by decide) (hN _ q1_83) rfl rfl rfl dX5_count_197 ?_
                              refine lv_iload_n hx hb dX5_count_200 rfl (lv_at hl 1 rfl) ?_
                              refine lv_bipush (v := hI 10) hx hb dX5_count_201 (by decide) ?_
                              refine iv_isub hx hb dX5_count_203 ?_
                              refine iv_ki (iv_rS (As := [.ref (ad 0 6), .int (hI (what - 10))]) (rest := []) E hh (ok_X5_cell l hinj S (ia_F_6 (by decide)) (S 0) rfl (what - 10) g36) cb_X5_cell q2_191 rfl rfl ⟨Nat.le_of_ble_eq_true rfl, Nat.le_of_ble_eq_true rfl⟩ rfl hl.1 rfl (Nat.le_of_ble_eq_true rfl) dX5_count_204 ⟨Nat.zero_le _, Nat.zero_le _⟩) hh (fun hc38 H locs hh => ?_)
                              refine lv_goto (tgt := 212) hx hb dX5_count_207 (by decide) ?_
                              exact iv_iret E hh (by unfold v_X5_count; rw [if_neg c1, if_neg c3, if_neg c6, if_neg c8, if_neg c11, if_neg c14, if_neg c17, if_neg c19, if_neg c21, if_neg c23, if_neg c24, if_neg c29, if_pos c34, if_pos c37]) (by rw [← show (v_X5_cell (S 0) 6 3 (what - 10)) = v_X5_count S what from (by unfold v_X5_count; rw [if_neg c1, if_neg c3, if_neg c6, if_neg c8, if_neg c11, if_neg c14, if_neg c17, if_neg c19, if_neg c21, if_neg c23, if_neg c24, if_neg c29, if_pos c34, if_pos c37])]; exact hc38) (by unfold m_X5_count; rw [if_neg c1, if_neg c3, if_neg c6, if_neg c8, if_neg c11, if_neg c14, if_neg c17, if_neg c19, if_neg c21, if_neg c23, if_neg c24, if_neg c29, if_pos c34, if_pos c37]) dX5_count_212
                          · have h := h.2 c34
                            by_cases c39 : what = 13
                            · have h := h.1 c39
                              refine lv_tableIn (off := 228) (tgt := 229) hx hb dX5_count_1 (by rw [hI_toInt h_what, c39]; decide) (by rw [hI_toInt h_what, c39]; decide) (by rw [hI_toInt h_what, c39]; rfl) (by decide) ?_
                              refine iv_ldc (n := (-1000001)) hx hb (by decide) hown (hts _ q2_190) dX5_count_229 ?_
                              exact iv_iret E hh (by unfold v_X5_count; rw [if_neg c1, if_neg c3, if_neg c6, if_neg c8, if_neg c11, if_neg c14, if_neg c17, if_neg c19, if_neg c21, if_neg c23, if_neg c24, if_neg c29, if_neg c34, if_pos c39]) (by rw [← show (-1000001) = v_X5_count S what from (by unfold v_X5_count; rw [if_neg c1, if_neg c3, if_neg c6, if_neg c8, if_neg c11, if_neg c14, if_neg c17, if_neg c19, if_neg c21, if_neg c23, if_neg c24, if_neg c29, if_neg c34, if_pos c39])]; exact ⟨by decide, by decide⟩) (by unfold m_X5_count; rw [if_neg c1, if_neg c3, if_neg c6, if_neg c8, if_neg c11, if_neg c14, if_neg c17, if_neg c19, if_neg c21, if_neg c23, if_neg c24, if_neg c29, if_neg c34, if_pos c39]) dX5_count_231
                            · have h := h.2 c39
                              by_cases c40 : what = 14
                              · have h := h.1 c40
                                refine lv_tableIn (off := 228) (tgt := 229) hx hb dX5_count_1 (by rw [hI_toInt h_what, c40]; decide) (by rw [hI_toInt h_what, c40]; decide) (by rw [hI_toInt h_what, c40]; rfl) (by decide) ?_
                                refine iv_ldc (n := (-1000001)) hx hb (by decide) hown (hts _ q2_190) dX5_count_229 ?_
                                exact iv_iret E hh (by unfold v_X5_count; rw [if_neg c1, if_neg c3, if_neg c6, if_neg c8, if_neg c11, if_neg c14, if_neg c17, if_neg c19, if_neg c21, if_neg c23, if_neg c24, if_neg c29, if_neg c34, if_neg c39, if_pos c40]) (by rw [← show (-1000001) = v_X5_count S what from (by unfold v_X5_count; rw [if_neg c1, if_neg c3, if_neg c6, if_neg c8, if_neg c11, if_neg c14, if_neg c17, if_neg c19, if_neg c21, if_neg c23, if_neg c24, if_neg c29, if_neg c34, if_neg c39, if_pos c40])]; exact ⟨by decide, by decide⟩) (by unfold m_X5_count; rw [if_neg c1, if_neg c3, if_neg c6, if_neg c8, if_neg c11, if_neg c14, if_neg c17, if_neg c19, if_neg c21, if_neg c23, if_neg c24, if_neg c29, if_neg c34, if_neg c39, if_pos c40]) dX5_count_231
                              · have h := h.2 c40
                                by_cases c41 : what = 15
                                · have h := h.1 c41
                                  refine lv_tableIn (off := 228) (tgt := 229) hx hb dX5_count_1 (by rw [hI_toInt h_what, c41]; decide) (by rw [hI_toInt h_what, c41]; decide) (by rw [hI_toInt h_what, c41]; rfl) (by decide) ?_
                                  refine iv_ldc (n := (-1000001)) hx hb (by decide) hown (hts _ q2_190) dX5_count_229 ?_
                                  exact iv_iret E hh (by unfold v_X5_count; rw [if_neg c1, if_neg c3, if_neg c6, if_neg c8, if_neg c11, if_neg c14, if_neg c17, if_neg c19, if_neg c21, if_neg c23, if_neg c24, if_neg c29, if_neg c34, if_neg c39, if_neg c40, if_pos c41]) (by rw [← show (-1000001) = v_X5_count S what from (by unfold v_X5_count; rw [if_neg c1, if_neg c3, if_neg c6, if_neg c8, if_neg c11, if_neg c14, if_neg c17, if_neg c19, if_neg c21, if_neg c23, if_neg c24, if_neg c29, if_neg c34, if_neg c39, if_neg c40, if_pos c41])]; exact ⟨by decide, by decide⟩) (by unfold m_X5_count; rw [if_neg c1, if_neg c3, if_neg c6, if_neg c8, if_neg c11, if_neg c14, if_neg c17, if_neg c19, if_neg c21, if_neg c23, if_neg c24, if_neg c29, if_neg c34, if_neg c39, if_neg c40, if_pos c41]) dX5_count_231
                                · have h := h.2 c41
                                  by_cases c42 : what = 16
                                  · have h := h.1 c42
                                    refine lv_tableIn (off := 228) (tgt := 229) hx hb dX5_count_1 (by rw [hI_toInt h_what, c42]; decide) (by rw [hI_toInt h_what, c42]; decide) (by rw [hI_toInt h_what, c42]; rfl) (by decide) ?_
                                    refine iv_ldc (n := (-1000001)) hx hb (by decide) hown (hts _ q2_190) dX5_count_229 ?_
                                    exact iv_iret E hh (by unfold v_X5_count; rw [if_neg c1, if_neg c3, if_neg c6, if_neg c8, if_neg c11, if_neg c14, if_neg c17, if_neg c19, if_neg c21, if_neg c23, if_neg c24, if_neg c29, if_neg c34, if_neg c39, if_neg c40, if_neg c41, if_pos c42]) (by rw [← show (-1000001) = v_X5_count S what from (by unfold v_X5_count; rw [if_neg c1, if_neg c3, if_neg c6, if_neg c8, if_neg c11, if_neg c14, if_neg c17, if_neg c19, if_neg c21, if_neg c23, if_neg c24, if_neg c29, if_neg c34, if_neg c39, if_neg c40, if_neg c41, if_pos c42])]; exact ⟨by decide, by decide⟩) (by unfold m_X5_count; rw [if_neg c1, if_neg c3, if_neg c6, if_neg c8, if_neg c11, if_neg c14, if_neg c17, if_neg c19, if_neg c21, if_neg c23, if_neg c24, if_neg c29, if_neg c34, if_neg c39, if_neg c40, if_neg c41, if_pos c42]) dX5_count_231
                                  · have h := h.2 c42
                                    by_cases c43 : what = 17
                                    · have h := h.1 c43
                                      refine lv_tableIn (off := 228) (tgt := 229) hx hb dX5_count_1 (by rw [hI_toInt h_what, c43]; decide) (by rw [hI_toInt h_what, c43]; decide) (by rw [hI_toInt h_what, c43]; rfl) (by decide) ?_
                                      refine iv_ldc (n := (-1000001)) hx hb (by decide) hown (hts _ q2_190) dX5_count_229 ?_
                                      exact iv_iret E hh (by unfold v_X5_count; rw [if_neg c1, if_neg c3, if_neg c6, if_neg c8, if_neg c11, if_neg c14, if_neg c17, if_neg c19, if_neg c21, if_neg c23, if_neg c24, if_neg c29, if_neg c34, if_neg c39, if_neg c40, if_neg c41, if_neg c42, if_pos c43]) (by rw [← show (-1000001) = v_X5_count S what from (by unfold v_X5_count; rw [if_neg c1, if_neg c3, if_neg c6, if_neg c8, if_neg c11, if_neg c14, if_neg c17, if_neg c19, if_neg c21, if_neg c23, if_neg c24, if_neg c29, if_neg c34, if_neg c39, if_neg c40, if_neg c41, if_neg c42, if_pos c43])]; exact ⟨by decide, by decide⟩) (by unfold m_X5_count; rw [if_neg c1, if_neg c3, if_neg c6, if_neg c8, if_neg c11, if_neg c14, if_neg c17, if_neg c19, if_neg c21, if_neg c23, if_neg c24, if_neg c29, if_neg c34, if_neg c39, if_neg c40, if_neg c41, if_neg c42, if_pos c43]) dX5_count_231
                                    · have h := h.2 c43
                                      by_cases c44 : what = 18
                                      · have h := h.1 c44
                                        refine lv_tableIn (off := 228) (tgt := 229) hx hb dX5_count_1 (by rw [hI_toInt h_what, c44]; decide) (by rw [hI_toInt h_what, c44]; decide) (by rw [hI_toInt h_what, c44]; rfl) (by decide) ?_
                                        refine iv_ldc (n := (-1000001)) hx hb (by decide) hown (hts _ q2_190) dX5_count_229 ?_
                                        exact iv_iret E hh (by unfold v_X5_count; rw [if_neg c1, if_neg c3, if_neg c6, if_neg c8, if_neg c11, if_neg c14, if_neg c17, if_neg c19, if_neg c21, if_neg c23, if_neg c24, if_neg c29, if_neg c34, if_neg c39, if_neg c40, if_neg c41, if_neg c42, if_neg c43, if_pos c44]) (by rw [← show (-1000001) = v_X5_count S what from (by unfold v_X5_count; rw [if_neg c1, if_neg c3, if_neg c6, if_neg c8, if_neg c11, if_neg c14, if_neg c17, if_neg c19, if_neg c21, if_neg c23, if_neg c24, if_neg c29, if_neg c34, if_neg c39, if_neg c40, if_neg c41, if_neg c42, if_neg c43, if_pos c44])]; exact ⟨by decide, by decide⟩) (by unfold m_X5_count; rw [if_neg c1, if_neg c3, if_neg c6, if_neg c8, if_neg c11, if_neg c14, if_neg c17, if_neg c19, if_neg c21, if_neg c23, if_neg c24, if_neg c29, if_neg c34, if_neg c39, if_neg c40, if_neg c41, if_neg c42, if_neg c43, if_pos c44]) dX5_count_231
                                      · have h := h.2 c44
                                        by_cases c45 : what = 19
                                        · have h := h.1 c45
                                          refine lv_tableIn (off := 228) (tgt := 229) hx hb dX5_count_1 (by rw [hI_toInt h_what, c45]; decide) (by rw [hI_toInt h_what, c45]; decide) (by rw [hI_toInt h_what, c45]; rfl) (by decide) ?_
                                          refine iv_ldc (n := (-1000001)) hx hb (by decide) hown (hts _ q2_190) dX5_count_229 ?_
                                          exact iv_iret E hh (by unfold v_X5_count; rw [if_neg c1, if_neg c3, if_neg c6, if_neg c8, if_neg c11, if_neg c14, if_neg c17, if_neg c19, if_neg c21, if_neg c23, if_neg c24, if_neg c29, if_neg c34, if_neg c39, if_neg c40, if_neg c41, if_neg c42, if_neg c43, if_neg c44, if_pos c45]) (by rw [← show (-1000001) = v_X5_count S what from (by unfold v_X5_count; rw [if_neg c1, if_neg c3, if_neg c6, if_neg c8, if_neg c11, if_neg c14, if_neg c17, if_neg c19, if_neg c21, if_neg c23, if_neg c24, if_neg c29, if_neg c34, if_neg c39, if_neg c40, if_neg c41, if_neg c42, if_neg c43, if_neg c44, if_pos c45])]; exact ⟨by decide, by decide⟩) (by unfold m_X5_count; rw [if_neg c1, if_neg c3, if_neg c6, if_neg c8, if_neg c11, if_neg c14, if_neg c17, if_neg c19, if_neg c21, if_neg c23, if_neg c24, if_neg c29, if_neg c34, if_neg c39, if_neg c40, if_neg c41, if_neg c42, if_neg c43, if_neg c44, if_pos c45]) dX5_count_231
                                        · have h := h.2 c45
                                          by_cases c46 : what = 20
                                          · have h := h.1 c46
                                            refine lv_tableIn (off := 212) (tgt := 213) hx hb dX5_count_1 (by rw [hI_toInt h_what, c46]; decide) (by rw [hI_toInt h_what, c46]; decide) (by rw [hI_toInt h_what, c46]; rfl) (by decide) ?_
                                            refine lv_aload_n hx hb dX5_count_213 rfl (lv_at hl 0 rfl) ?_
                                            refine iv_get (v' := .ref (ad 0 0)) hx hb hts inX5 hown hK hh.1 (ob_X) rfl 0 (by decide) (hts _ q1_201) rfl rfl rfl dX5_count_214 ?_
                                            refine iv_getN (v' := .int (hI ((S 0) 0 2))) hx hb hts inX1 hown hK hh.1 (ob_Font (by decide)) rfl 2 (by decide) (hN _ q1_65) rfl rfl rfl dX5_count_217 ?_
                                            have hm47 : hIn ((S 0) 0 2) := hIn_rd hh.2.1 rfl (by decide)
                                            exact iv_iret E hh (by unfold v_X5_count; rw [if_neg c1, if_neg c3, if_neg c6, if_neg c8, if_neg c11, if_neg c14, if_neg c17, if_neg c19, if_neg c21, if_neg c23, if_neg c24, if_neg c29, if_neg c34, if_neg c39, if_neg c40, if_neg c41, if_neg c42, if_neg c43, if_neg c44, if_neg c45, if_pos c46]) (by rw [← show ((S 0) 0 2) = v_X5_count S what from (by unfold v_X5_count; rw [if_neg c1, if_neg c3, if_neg c6, if_neg c8, if_neg c11, if_neg c14, if_neg c17, if_neg c19, if_neg c21, if_neg c23, if_neg c24, if_neg c29, if_neg c34, if_neg c39, if_neg c40, if_neg c41, if_neg c42, if_neg c43, if_neg c44, if_neg c45, if_pos c46])]; exact hm47) (by unfold m_X5_count; rw [if_neg c1, if_neg c3, if_neg c6, if_neg c8, if_neg c11, if_neg c14, if_neg c17, if_neg c19, if_neg c21, if_neg c23, if_neg c24, if_neg c29, if_neg c34, if_neg c39, if_neg c40, if_neg c41, if_neg c42, if_neg c43, if_neg c44, if_neg c45, if_pos c46]) dX5_count_220
                                          · have h := h.2 c46
                                            by_cases c48 : what = 21
                                            · have h := h.1 c48
                                              refine lv_tableIn (off := 220) (tgt := 221) hx hb dX5_count_1 (by rw [hI_toInt h_what, c48]; decide) (by rw [hI_toInt h_what, c48]; decide) (by rw [hI_toInt h_what, c48]; rfl) (by decide) ?_
                                              refine lv_aload_n hx hb dX5_count_221 rfl (lv_at hl 0 rfl) ?_
                                              refine iv_get (v' := .ref (ad 0 0)) hx hb hts inX5 hown hK hh.1 (ob_X) rfl 0 (by decide) (hts _ q1_201) rfl rfl rfl dX5_count_222 ?_
                                              refine iv_getN (v' := .int (hI ((S 0) 0 3))) hx hb hts inX1 hown hK hh.1 (ob_Font (by decide)) rfl 3 (by decide) (hN _ q1_68) rfl rfl rfl dX5_count_225 ?_
                                              have hm49 : hIn ((S 0) 0 3) := hIn_rd hh.2.1 rfl (by decide)
                                              exact iv_iret E hh (by unfold v_X5_count; rw [if_neg c1, if_neg c3, if_neg c6, if_neg c8, if_neg c11, if_neg c14, if_neg c17, if_neg c19, if_neg c21, if_neg c23, if_neg c24, if_neg c29, if_neg c34, if_neg c39, if_neg c40, if_neg c41, if_neg c42, if_neg c43, if_neg c44, if_neg c45, if_neg c46, if_pos c48]) (by rw [← show ((S 0) 0 3) = v_X5_count S what from (by unfold v_X5_count; rw [if_neg c1, if_neg c3, if_neg c6, if_neg c8, if_neg c11, if_neg c14, if_neg c17, if_neg c19, if_neg c21, if_neg c23, if_neg c24, if_neg c29, if_neg c34, if_neg c39, if_neg c40, if_neg c41, if_neg c42, if_neg c43, if_neg c44, if_neg c45, if_neg c46, if_pos c48])]; exact hm49) (by unfold m_X5_count; rw [if_neg c1, if_neg c3, if_neg c6, if_neg c8, if_neg c11, if_neg c14, if_neg c17, if_neg c19, if_neg c21, if_neg c23, if_neg c24, if_neg c29, if_neg c34, if_neg c39, if_neg c40, if_neg c41, if_neg c42, if_neg c43, if_neg c44, if_neg c45, if_neg c46, if_pos c48]) dX5_count_228
                                            · have h := h.2 c48
                                              refine lv_tableOut (tgt := 229) hx hb dX5_count_1 (by rw [hI_toInt h_what]; omega) (by decide) ?_
                                              refine iv_ldc (n := (-1000001)) hx hb (by decide) hown (hts _ q2_190) dX5_count_229 ?_
                                              exact iv_iret E hh (by unfold v_X5_count; rw [if_neg c1, if_neg c3, if_neg c6, if_neg c8, if_neg c11, if_neg c14, if_neg c17, if_neg c19, if_neg c21, if_neg c23, if_neg c24, if_neg c29, if_neg c34, if_neg c39, if_neg c40, if_neg c41, if_neg c42, if_neg c43, if_neg c44, if_neg c45, if_neg c46, if_neg c48]) (by rw [← show (-1000001) = v_X5_count S what from (by unfold v_X5_count; rw [if_neg c1, if_neg c3, if_neg c6, if_neg c8, if_neg c11, if_neg c14, if_neg c17, if_neg c19, if_neg c21, if_neg c23, if_neg c24, if_neg c29, if_neg c34, if_neg c39, if_neg c40, if_neg c41, if_neg c42, if_neg c43, if_neg c44, if_neg c45, if_neg c46, if_neg c48])]; exact ⟨by decide, by decide⟩) (by unfold m_X5_count; rw [if_neg c1, if_neg c3, if_neg c6, if_neg c8, if_neg c11, if_neg c14, if_neg c17, if_neg c19, if_neg c21, if_neg c23, if_neg c24, if_neg c29, if_neg c34, if_neg c39, if_neg c40, if_neg c41, if_neg c42, if_neg c43, if_neg c44, if_neg c45, if_neg c46, if_neg c48]) dX5_count_231
set_option maxHeartbeats 4000000 in
set_option maxRecDepth 100000 in
theorem ok_X5_undo (l : Launch) (hinj : hInj ad) (S : hS) (hp : p_X5_undo S) : hMi D ad cI cJ cF l yX5_undo cX5_undo 1 (some .int) ({ frames := 4, cells := 0, slots := 0, locals := 87 } : Room) [.ref (ad 11 0)] S (v_X5_undo S) (m_X5_undo S) := by
  refine hOf (S := S) l hinj (by decide +kernel) (Nat.le_of_ble_eq_true rfl) (fun p e s m args below meth c E => ?_)
  obtain ⟨hx, hb, hml, hown, hts, hK, hN, -, hr, hlk⟩ := id E
  have hown : s.vm.findClass RX5 = some m.cls := hown
  intro H locs ls hh hl
  have hl : lv_has ls 1 [(0, .ref (ad 11 0))] := hl
  have h := hp
  unfold p_X5_undo at h
  refine lv_aload_n hx hb dX5_undo_0 rfl (lv_at hl 0 rfl) ?_
  refine iv_get (v' := .ref (ad 9 0)) hx hb hts inX5 hown hK hh.1 (ob_X) rfl 4 (by decide) (hts _ q1_205) rfl rfl rfl dX5_undo_1 ?_
  refine lv_aload_n hx hb dX5_undo_4 rfl (lv_at hl 0 rfl) ?_
  refine iv_get (v' := .ref (ad 0 0)) hx hb hts inX5 hown hK hh.1 (ob_X) rfl 0 (by decide) (hts _ q1_201) rfl rfl rfl dX5_undo_5 ?_
  obtain ⟨g1, h⟩ := h
  refine iv_ki (iv_rV (As := [.ref (ad 0 0)]) (rest := []) E hh (ok_X2_giveBack l hinj S (by decide) g1) cb_X2_giveBack q3_93 rfl rfl ⟨Nat.le_of_ble_eq_true rfl, Nat.le_of_ble_eq_true rfl⟩ (ob_Hist) rfl rfl rfl hl.1 rfl (Nat.le_of_ble_eq_true rfl) dX5_undo_8 ⟨Nat.zero_le _, Nat.zero_le _⟩) hh (fun hc2 H locs hh => ?_)
  refine iv_if_eq (tgt := 24) hx hb hc2 dX5_undo_11 (by decide) (fun c3 => ?_) (fun c3 => ?_)
  · have h := h.1 c3
    refine iv_ldc (n := (-1000002)) hx hb (by decide) hown (hts _ q3_97) dX5_undo_24 ?_
    exact iv_iret E hh (by unfold v_X5_undo; rw [if_pos c3]) (by rw [← show (-1000002) = v_X5_undo S from (by unfold v_X5_undo; rw [if_pos c3])]; exact ⟨by decide, by decide⟩) (by unfold m_X5_undo; rw [if_pos c3]) dX5_undo_26
  · have h := h.2 c3
    refine lv_aload_n hx hb dX5_undo_14 rfl (lv_at hl 0 rfl) ?_
    refine iv_get (v' := .ref (ad 9 0)) hx hb hts inX5 hown hK hh.1 (ob_X) rfl 4 (by decide) (hts _ q1_205) rfl rfl rfl dX5_undo_15 ?_
    refine iv_getN (v' := .int (hI (((m_X2_giveBack S 0) 9) 0 2))) hx hb hts inX2 hown hK hh.1 (ob_Hist) rfl 2 (by decide) (hN _ q1_193) rfl rfl rfl dX5_undo_18 ?_
    have hm4 : hIn (((m_X2_giveBack S 0) 9) 0 2) := hIn_rd hh.2.1 rfl (by decide)
    refine lv_goto (tgt := 26) hx hb dX5_undo_21 (by decide) ?_
    exact iv_iret E hh (by unfold v_X5_undo; rw [if_neg c3]) (by rw [← show (((m_X2_giveBack S 0) 9) 0 2) = v_X5_undo S from (by unfold v_X5_undo; rw [if_neg c3])]; exact hm4) (by unfold m_X5_undo; rw [if_neg c3]) dX5_undo_26
set_option maxHeartbeats 4000000 in
set_option maxRecDepth 100000 in
theorem ok_X5_type (l : Launch) (hinj : hInj ad) (S : hS) (character : Int) (h_character : hIn character) (hp : p_X5_type S character) : hMi D ad cI cJ cF l yX5_type cX5_type 2 (some .int) ({ frames := 2, cells := 0, slots := 0, locals := 43 } : Room) [.ref (ad 11 0), .int (hI character)] S (v_X5_type S character) (m_X5_type S character) := by
  refine hOf (S := S) l hinj (by decide +kernel) (Nat.le_of_ble_eq_true rfl) (fun p e s m args below meth c E => ?_)
  obtain ⟨hx, hb, hml, hown, hts, hK, hN, -, hr, hlk⟩ := id E
  have hown : s.vm.findClass RX5 = some m.cls := hown
  intro H locs ls hh hl
  have hl : lv_has ls 2 [(0, .ref (ad 11 0)), (1, .int (hI character))] := hl
  have h := hp
  unfold p_X5_type at h
  refine lv_iload_n hx hb dX5_type_0 rfl (lv_at hl 1 rfl) ?_
  refine lv_bipush (v := hI 32) hx hb dX5_type_1 (by decide) ?_
  refine lv_bipush (v := hI 126) hx hb dX5_type_3 (by decide) ?_
  refine iv_ki (iv_rS (As := [.int (hI character), .int (hI 32), .int (hI 126)]) (rest := []) E hh (ok_X5_within l hinj S character 32 126 h_character ⟨by decide, by decide⟩ ⟨by decide, by decide⟩) cb_X5_within q2_114 rfl rfl ⟨Nat.le_of_ble_eq_true rfl, Nat.le_of_ble_eq_true rfl⟩ rfl hl.1 rfl (Nat.le_of_ble_eq_true rfl) dX5_type_5 ⟨Nat.zero_le _, Nat.zero_le _⟩) hh (fun hc1 H locs hh => ?_)
  refine iv_if_ne (tgt := 14) hx hb hc1 dX5_type_8 (by decide) (fun c2 => ?_) (fun c2 => ?_)
  · have h := h.2 c2
    refine lv_aload_n hx hb dX5_type_14 rfl (lv_at hl 0 rfl) ?_
    refine iv_get (v' := .ref (ad 8 0)) hx hb hts inX5 hown hK hh.1 (ob_X) rfl 3 (by decide) (hts _ q1_204) rfl rfl rfl dX5_type_15 ?_
    refine lv_iload_n hx hb dX5_type_18 rfl (lv_at hl 1 rfl) ?_
    obtain ⟨g3, h⟩ := h
    refine iv_ki (iv_rV (As := [.int (hI character)]) (rest := []) E hh (ok_X3_append l hinj S (S 8) rfl character h_character g3) cb_X3_append q3_102 rfl rfl ⟨Nat.le_of_ble_eq_true rfl, Nat.le_of_ble_eq_true rfl⟩ (ob_Orders) rfl rfl rfl hl.1 rfl (Nat.le_of_ble_eq_true rfl) dX5_type_19 ⟨Nat.zero_le _, Nat.zero_le _⟩) hh (fun hc4 H locs hh => ?_)
    refine iv_if_eq (tgt := 35) hx hb hc4 dX5_type_22 (by decide) (fun c5 => ?_) (fun c5 => ?_)
    · have h := h.1 c5
      refine lv_ldcw (v := hI (-1000003)) hx hb hown (by rw [show hI (-1000003) = (-1000003 : Int32) from by decide +kernel]; exact hts _ q3_107) dX5_type_35 ?_
      exact iv_iret E hh (by unfold v_X5_type; rw [if_neg c2, if_pos c5]) (by rw [← show (-1000003) = v_X5_type S character from (by unfold v_X5_type; rw [if_neg c2, if_pos c5])]; exact ⟨by decide, by decide⟩) (by unfold m_X5_type; rw [if_neg c2, if_pos c5]) dX5_type_38
    · have h := h.2 c5
      refine lv_aload_n hx hb dX5_type_25 rfl (lv_at hl 0 rfl) ?_
      refine iv_get (v' := .ref (ad 8 0)) hx hb hts inX5 hown hK hh.1 (ob_X) rfl 3 (by decide) (hts _ q1_204) rfl rfl rfl dX5_type_26 ?_
      refine iv_getN (v' := .int (hI (((gset S 8 (m_X3_append (S 8) character)) 8) 0 1))) hx hb hts inX3 hown hK hh.1 (ob_Orders) rfl 1 (by decide) (hN _ q1_153) rfl rfl rfl dX5_type_29 ?_
      have hm6 : hIn (((gset S 8 (m_X3_append (S 8) character)) 8) 0 1) := hIn_rd hh.2.1 rfl (by decide)
      refine lv_goto (tgt := 38) hx hb dX5_type_32 (by decide) ?_
      exact iv_iret E hh (by unfold v_X5_type; rw [if_neg c2, if_neg c5]) (by rw [← show (((gset S 8 (m_X3_append (S 8) character)) 8) 0 1) = v_X5_type S character from (by unfold v_X5_type; rw [if_neg c2, if_neg c5])]; exact hm6) (by unfold m_X5_type; rw [if_neg c2, if_neg c5]) dX5_type_38
  · have h := h.1 c2
    refine iv_ldc (n := (-1000001)) hx hb (by decide) hown (hts _ q2_190) dX5_type_11 ?_
    exact iv_iret E hh (by unfold v_X5_type; rw [if_pos c2]) (by rw [← show (-1000001) = v_X5_type S character from (by unfold v_X5_type; rw [if_pos c2])]; exact ⟨by decide, by decide⟩) (by unfold m_X5_type; rw [if_pos c2]) dX5_type_13
set_option maxHeartbeats 4000000 in
set_option maxRecDepth 100000 in
theorem ok_X5_clearText (l : Launch) (hinj : hInj ad) (S : hS) : hMi D ad cI cJ cF l yX5_clearText cX5_clearText 2 (some .int) ({ frames := 0, cells := 0, slots := 0, locals := 0 } : Room) [.ref (ad 11 0)] S (v_X5_clearText S) (m_X5_clearText S) := by
  refine hOf (S := S) l hinj (by decide +kernel) (Nat.le_of_ble_eq_true rfl) (fun p e s m args below meth c E => ?_)
  obtain ⟨hx, hb, hml, hown, hts, hK, hN, -, hr, hlk⟩ := id E
  have hown : s.vm.findClass RX5 = some m.cls := hown
  intro H locs ls hh hl
  have hl : lv_has ls 2 [(0, .ref (ad 11 0))] := hl
  refine lv_aload_n hx hb dX5_clearText_0 rfl (lv_at hl 0 rfl) ?_
  refine iv_get (v' := .ref (ad 8 0)) hx hb hts inX5 hown hK hh.1 (ob_X) rfl 3 (by decide) (hts _ q1_204) rfl rfl rfl dX5_clearText_1 ?_
  refine iv_getN (v' := .int (hI ((S 8) 0 1))) hx hb hts inX3 hown hK hh.1 (ob_Orders) rfl 1 (by decide) (hN _ q1_153) rfl rfl rfl dX5_clearText_4 ?_
  have hm1 : hIn ((S 8) 0 1) := hIn_rd hh.2.1 rfl (by decide)
  refine lv_istore_n (lv' := [(1, .int (hI ((S 8) 0 1))), (0, .ref (ad 11 0))]) hx hb dX5_clearText_7 rfl hl (by decide) rfl (fun ls hl => ?_)
  refine lv_aload_n hx hb dX5_clearText_8 rfl (lv_at hl 1 rfl) ?_
  refine iv_get (v' := .ref (ad 8 0)) hx hb hts inX5 hown hK hh.1 (ob_X) rfl 3 (by decide) (hts _ q1_204) rfl rfl rfl dX5_clearText_9 ?_
  refine iv_iconst hx hb dX5_clearText_12 ?_
  refine iv_putN (S' := (gset S 8 (aset (S 8) 0 1 0))) (ty := .int) hx hb hts inX3 tyX3 tyX3_ok nmX3 hown hK hinj hh (by decide) un_Orders (Or.inl rfl) (ob_Orders) rfl 1 (by decide) (hN _ q1_153) rfl rfl (by decide +kernel) rfl rfl (Nat.le_of_ble_eq_true rfl) (pu_Orders_length) (Or.inl ⟨by decide, by decide⟩) rfl dX5_clearText_13 (fun H locs hh => ?_)
  refine lv_iload_n hx hb dX5_clearText_16 rfl (lv_at hl 0 rfl) ?_
  exact iv_iret E hh rfl (by rw [← show ((S 8) 0 1) = v_X5_clearText S from rfl]; exact hm1) rfl dX5_clearText_17
set_option maxHeartbeats 4000000 in
set_option maxRecDepth 100000 in
theorem ok_X5_fault (l : Launch) (hinj : hInj ad) (S : hS) (what : Int) (h_what : hIn what) (hp : p_X5_fault S what) : hMi D ad cI cJ cF l yX5_fault cX5_fault 2 (some .int) ({ frames := 7, cells := 0, slots := 0, locals := 174 } : Room) [.ref (ad 11 0), .int (hI what)] S (v_X5_fault S what) (m_X5_fault S what) := by
  refine hOf (S := S) l hinj (by decide +kernel) (Nat.le_of_ble_eq_true rfl) (fun p e s m args below meth c E => ?_)
  obtain ⟨hx, hb, hml, hown, hts, hK, hN, -, hr, hlk⟩ := id E
  have hown : s.vm.findClass RX5 = some m.cls := hown
  intro H locs ls hh hl
  have hl : lv_has ls 2 [(0, .ref (ad 11 0)), (1, .int (hI what))] := hl
  have h := hp
  unfold p_X5_fault at h
  refine lv_iload_n hx hb dX5_fault_0 rfl (lv_at hl 1 rfl) ?_
  refine iv_iconst hx hb dX5_fault_1 ?_
  refine iv_iconst hx hb dX5_fault_2 ?_
  refine iv_ki (iv_rS (As := [.int (hI what), .int (hI 0), .int (hI 2)]) (rest := []) E hh (ok_X5_within l hinj S what 0 2 h_what ⟨by decide, by decide⟩ ⟨by decide, by decide⟩) cb_X5_within q2_114 rfl rfl ⟨Nat.le_of_ble_eq_true rfl, Nat.le_of_ble_eq_true rfl⟩ rfl hl.1 rfl (Nat.le_of_ble_eq_true rfl) dX5_fault_3 ⟨Nat.zero_le _, Nat.zero_le _⟩) hh (fun hc1 H locs hh => ?_)
  refine iv_if_ne (tgt := 12) hx hb hc1 dX5_fault_6 (by decide) (fun c2 => ?_) (fun c2 => ?_)
  · have h := h.2 c2
    refine lv_aload_n hx hb dX5_fault_12 rfl (lv_at hl 0 rfl) ?_
    refine iv_get (v' := .ref (ad 1 0)) hx hb hts inX5 hown hK hh.1 (ob_X) rfl 1 (by decide) (hts _ q1_202) rfl rfl rfl dX5_fault_13 ?_
    refine lv_aload_n hx hb dX5_fault_16 rfl (lv_at hl 0 rfl) ?_
    refine iv_get (v' := .ref (ad 0 0)) hx hb hts inX5 hown hK hh.1 (ob_X) rfl 0 (by decide) (hts _ q1_201) rfl rfl rfl dX5_fault_17 ?_
    obtain ⟨g3, h⟩ := h
    refine iv_kv (iv_rV (As := [.ref (ad 0 0)]) (rest := []) E hh (ok_X1_copy l hinj S (by decide) (by decide) (by omega) (S 1) rfl (S 0) rfl g3) cb_X1_copy q3_49 rfl rfl ⟨Nat.le_of_ble_eq_true rfl, Nat.le_of_ble_eq_true rfl⟩ (ob_Font (by decide)) rfl rfl rfl hl.1 rfl (Nat.le_of_ble_eq_true rfl) dX5_fault_20 ⟨Nat.zero_le _, Nat.zero_le _⟩) hh (fun H locs hh => ?_)
    refine lv_aload_n hx hb dX5_fault_23 rfl (lv_at hl 0 rfl) ?_
    refine iv_get (v' := .ref (ad 8 0)) hx hb hts inX5 hown hK hh.1 (ob_X) rfl 3 (by decide) (hts _ q1_204) rfl rfl rfl dX5_fault_24 ?_
    refine lv_aload_n hx hb dX5_fault_27 rfl (lv_at hl 0 rfl) ?_
    refine iv_get (v' := .ref (ad 1 0)) hx hb hts inX5 hown hK hh.1 (ob_X) rfl 1 (by decide) (hts _ q1_202) rfl rfl rfl dX5_fault_28 ?_
    refine lv_aload_n hx hb dX5_fault_31 rfl (lv_at hl 0 rfl) ?_
    refine iv_get (v' := .ref (ad 7 0)) hx hb hts inX5 hown hK hh.1 (ob_X) rfl 2 (by decide) (hts _ q1_203) rfl rfl rfl dX5_fault_32 ?_
    obtain ⟨g4, h⟩ := h
    refine iv_kv (iv_rV (As := [.ref (ad 1 0), .ref (ad 7 0)]) (rest := []) E hh (ok_X3_run l hinj (gset S 1 (m_X1_copy (S 1) (S 0))) (by decide) ((gset S 1 (m_X1_copy (S 1) (S 0))) 1) rfl ((gset S 1 (m_X1_copy (S 1) (S 0))) 7) rfl ((gset S 1 (m_X1_copy (S 1) (S 0))) 8) rfl g4) cb_X3_run q3_116 rfl rfl ⟨Nat.le_of_ble_eq_true rfl, Nat.le_of_ble_eq_true rfl⟩ (ob_Orders) rfl rfl rfl hl.1 rfl (Nat.le_of_ble_eq_true rfl) dX5_fault_35 ⟨Nat.zero_le _, Nat.zero_le _⟩) hh (fun H locs hh => ?_)
    refine lv_aload_n hx hb dX5_fault_38 rfl (lv_at hl 0 rfl) ?_
    refine iv_get (v' := .ref (ad 8 0)) hx hb hts inX5 hown hK hh.1 (ob_X) rfl 3 (by decide) (hts _ q1_204) rfl rfl rfl dX5_fault_39 ?_
    refine iv_getN (v' := .int (hI (((gset (gset (gset (gset S 1 (m_X1_copy (S 1) (S 0))) 1 (mA_X3_run ((gset S 1 (m_X1_copy (S 1) (S 0))) 1) ((gset S 1 (m_X1_copy (S 1) (S 0))) 7) ((gset S 1 (m_X1_copy (S 1) (S 0))) 8))) 7 (mT_X3_run ((gset S 1 (m_X1_copy (S 1) (S 0))) 1) ((gset S 1 (m_X1_copy (S 1) (S 0))) 7) ((gset S 1 (m_X1_copy (S 1) (S 0))) 8))) 8 (mO_X3_run ((gset S 1 (m_X1_copy (S 1) (S 0))) 1) ((gset S 1 (m_X1_copy (S 1) (S 0))) 7) ((gset S 1 (m_X1_copy (S 1) (S 0))) 8))) 8) 0 6))) hx hb hts inX3 hown hK hh.1 (ob_Orders) rfl 6 (by decide) (hN _ q1_161) rfl rfl rfl dX5_fault_42 ?_
    have hm5 : hIn (((gset (gset (gset (gset S 1 (m_X1_copy (S 1) (S 0))) 1 (mA_X3_run ((gset S 1 (m_X1_copy (S 1) (S 0))) 1) ((gset S 1 (m_X1_copy (S 1) (S 0))) 7) ((gset S 1 (m_X1_copy (S 1) (S 0))) 8))) 7 (mT_X3_run ((gset S 1 (m_X1_copy (S 1) (S 0))) 1) ((gset S 1 (m_X1_copy (S 1) (S 0))) 7) ((gset S 1 (m_X1_copy (S 1) (S 0))) 8))) 8 (mO_X3_run ((gset S 1 (m_X1_copy (S 1) (S 0))) 1) ((gset S 1 (m_X1_copy (S 1) (S 0))) 7) ((gset S 1 (m_X1_copy (S 1) (S 0))) 8))) 8) 0 6) := hIn_rd hh.2.1 rfl (by decide)
    refine iv_if_ne (tgt := 51) hx hb hm5 dX5_fault_45 (by decide) (fun c6 => ?_) (fun c6 => ?_)
    · have h := h.2 c6
      refine lv_iload_n hx hb dX5_fault_51 rfl (lv_at hl 1 rfl) ?_
      by_cases c7 : what = 0
      · have h := h.1 c7
        refine lv_lookup (off := 28) (tgt := 80) hx hb dX5_fault_52 (by decide) (by rw [hI_toInt h_what, c7]; rfl) (by decide) ?_
        refine lv_aload_n hx hb dX5_fault_80 rfl (lv_at hl 0 rfl) ?_
        refine iv_get (v' := .ref (ad 8 0)) hx hb hts inX5 hown hK hh.1 (ob_X) rfl 3 (by decide) (hts _ q1_204) rfl rfl rfl dX5_fault_81 ?_
        refine iv_getN (v' := .int (hI (((gset (gset (gset (gset S 1 (m_X1_copy (S 1) (S 0))) 1 (mA_X3_run ((gset S 1 (m_X1_copy (S 1) (S 0))) 1) ((gset S 1 (m_X1_copy (S 1) (S 0))) 7) ((gset S 1 (m_X1_copy (S 1) (S 0))) 8))) 7 (mT_X3_run ((gset S 1 (m_X1_copy (S 1) (S 0))) 1) ((gset S 1 (m_X1_copy (S 1) (S 0))) 7) ((gset S 1 (m_X1_copy (S 1) (S 0))) 8))) 8 (mO_X3_run ((gset S 1 (m_X1_copy (S 1) (S 0))) 1) ((gset S 1 (m_X1_copy (S 1) (S 0))) 7) ((gset S 1 (m_X1_copy (S 1) (S 0))) 8))) 8) 0 5))) hx hb hts inX3 hown hK hh.1 (ob_Orders) rfl 5 (by decide) (hN _ q1_159) rfl rfl rfl dX5_fault_84 ?_
        have hm8 : hIn (((gset (gset (gset (gset S 1 (m_X1_copy (S 1) (S 0))) 1 (mA_X3_run ((gset S 1 (m_X1_copy (S 1) (S 0))) 1) ((gset S 1 (m_X1_copy (S 1) (S 0))) 7) ((gset S 1 (m_X1_copy (S 1) (S 0))) 8))) 7 (mT_X3_run ((gset S 1 (m_X1_copy (S 1) (S 0))) 1) ((gset S 1 (m_X1_copy (S 1) (S 0))) 7) ((gset S 1 (m_X1_copy (S 1) (S 0))) 8))) 8 (mO_X3_run ((gset S 1 (m_X1_copy (S 1) (S 0))) 1) ((gset S 1 (m_X1_copy (S 1) (S 0))) 7) ((gset S 1 (m_X1_copy (S 1) (S 0))) 8))) 8) 0 5) := hIn_rd hh.2.1 rfl (by decide)
        exact iv_iret E hh (by unfold v_X5_fault; rw [if_neg c2, if_neg c6, if_pos c7]) (by rw [← show (((gset (gset (gset (gset S 1 (m_X1_copy (S 1) (S 0))) 1 (mA_X3_run ((gset S 1 (m_X1_copy (S 1) (S 0))) 1) ((gset S 1 (m_X1_copy (S 1) (S 0))) 7) ((gset S 1 (m_X1_copy (S 1) (S 0))) 8))) 7 (mT_X3_run ((gset S 1 (m_X1_copy (S 1) (S 0))) 1) ((gset S 1 (m_X1_copy (S 1) (S 0))) 7) ((gset S 1 (m_X1_copy (S 1) (S 0))) 8))) 8 (mO_X3_run ((gset S 1 (m_X1_copy (S 1) (S 0))) 1) ((gset S 1 (m_X1_copy (S 1) (S 0))) 7) ((gset S 1 (m_X1_copy (S 1) (S 0))) 8))) 8) 0 5) = v_X5_fault S what from (by unfold v_X5_fault; rw [if_neg c2, if_neg c6, if_pos c7])]; exact hm8) (by unfold m_X5_fault; rw [if_neg c2, if_neg c6, if_pos c7]) dX5_fault_87
      · have h := h.2 c7
        by_cases c9 : what = 1
        · have h := h.1 c9
          refine lv_lookup (off := 36) (tgt := 88) hx hb dX5_fault_52 (by decide) (by rw [hI_toInt h_what, c9]; rfl) (by decide) ?_
          refine lv_aload_n hx hb dX5_fault_88 rfl (lv_at hl 0 rfl) ?_
          refine iv_get (v' := .ref (ad 8 0)) hx hb hts inX5 hown hK hh.1 (ob_X) rfl 3 (by decide) (hts _ q1_204) rfl rfl rfl dX5_fault_89 ?_
          refine iv_getN (v' := .int (hI (((gset (gset (gset (gset S 1 (m_X1_copy (S 1) (S 0))) 1 (mA_X3_run ((gset S 1 (m_X1_copy (S 1) (S 0))) 1) ((gset S 1 (m_X1_copy (S 1) (S 0))) 7) ((gset S 1 (m_X1_copy (S 1) (S 0))) 8))) 7 (mT_X3_run ((gset S 1 (m_X1_copy (S 1) (S 0))) 1) ((gset S 1 (m_X1_copy (S 1) (S 0))) 7) ((gset S 1 (m_X1_copy (S 1) (S 0))) 8))) 8 (mO_X3_run ((gset S 1 (m_X1_copy (S 1) (S 0))) 1) ((gset S 1 (m_X1_copy (S 1) (S 0))) 7) ((gset S 1 (m_X1_copy (S 1) (S 0))) 8))) 8) 0 6))) hx hb hts inX3 hown hK hh.1 (ob_Orders) rfl 6 (by decide) (hN _ q1_161) rfl rfl rfl dX5_fault_92 ?_
          have hm10 : hIn (((gset (gset (gset (gset S 1 (m_X1_copy (S 1) (S 0))) 1 (mA_X3_run ((gset S 1 (m_X1_copy (S 1) (S 0))) 1) ((gset S 1 (m_X1_copy (S 1) (S 0))) 7) ((gset S 1 (m_X1_copy (S 1) (S 0))) 8))) 7 (mT_X3_run ((gset S 1 (m_X1_copy (S 1) (S 0))) 1) ((gset S 1 (m_X1_copy (S 1) (S 0))) 7) ((gset S 1 (m_X1_copy (S 1) (S 0))) 8))) 8 (mO_X3_run ((gset S 1 (m_X1_copy (S 1) (S 0))) 1) ((gset S 1 (m_X1_copy (S 1) (S 0))) 7) ((gset S 1 (m_X1_copy (S 1) (S 0))) 8))) 8) 0 6) := hIn_rd hh.2.1 rfl (by decide)
          exact iv_iret E hh (by unfold v_X5_fault; rw [if_neg c2, if_neg c6, if_neg c7, if_pos c9]) (by rw [← show (((gset (gset (gset (gset S 1 (m_X1_copy (S 1) (S 0))) 1 (mA_X3_run ((gset S 1 (m_X1_copy (S 1) (S 0))) 1) ((gset S 1 (m_X1_copy (S 1) (S 0))) 7) ((gset S 1 (m_X1_copy (S 1) (S 0))) 8))) 7 (mT_X3_run ((gset S 1 (m_X1_copy (S 1) (S 0))) 1) ((gset S 1 (m_X1_copy (S 1) (S 0))) 7) ((gset S 1 (m_X1_copy (S 1) (S 0))) 8))) 8 (mO_X3_run ((gset S 1 (m_X1_copy (S 1) (S 0))) 1) ((gset S 1 (m_X1_copy (S 1) (S 0))) 7) ((gset S 1 (m_X1_copy (S 1) (S 0))) 8))) 8) 0 6) = v_X5_fault S what from (by unfold v_X5_fault; rw [if_neg c2, if_neg c6, if_neg c7, if_pos c9])]; exact hm10) (by unfold m_X5_fault; rw [if_neg c2, if_neg c6, if_neg c7, if_pos c9]) dX5_fault_95
        · have h := h.2 c9
          refine lv_lookup (off := 44) (tgt := 96) hx hb dX5_fault_52 (by decide) (by rw [hI_toInt h_what]; simp only [Op.lookupswitch.offset, if_neg (Ne.symm c7), if_neg (Ne.symm c9)]) (by decide) ?_
          refine lv_aload_n hx hb dX5_fault_96 rfl (lv_at hl 0 rfl) ?_
          refine iv_get (v' := .ref (ad 8 0)) hx hb hts inX5 hown hK hh.1 (ob_X) rfl 3 (by decide) (hts _ q1_204) rfl rfl rfl dX5_fault_97 ?_
          refine iv_getN (v' := .int (hI (((gset (gset (gset (gset S 1 (m_X1_copy (S 1) (S 0))) 1 (mA_X3_run ((gset S 1 (m_X1_copy (S 1) (S 0))) 1) ((gset S 1 (m_X1_copy (S 1) (S 0))) 7) ((gset S 1 (m_X1_copy (S 1) (S 0))) 8))) 7 (mT_X3_run ((gset S 1 (m_X1_copy (S 1) (S 0))) 1) ((gset S 1 (m_X1_copy (S 1) (S 0))) 7) ((gset S 1 (m_X1_copy (S 1) (S 0))) 8))) 8 (mO_X3_run ((gset S 1 (m_X1_copy (S 1) (S 0))) 1) ((gset S 1 (m_X1_copy (S 1) (S 0))) 7) ((gset S 1 (m_X1_copy (S 1) (S 0))) 8))) 8) 0 7))) hx hb hts inX3 hown hK hh.1 (ob_Orders) rfl 7 (by decide) (hN _ q1_163) rfl rfl rfl dX5_fault_100 ?_
          have hm11 : hIn (((gset (gset (gset (gset S 1 (m_X1_copy (S 1) (S 0))) 1 (mA_X3_run ((gset S 1 (m_X1_copy (S 1) (S 0))) 1) ((gset S 1 (m_X1_copy (S 1) (S 0))) 7) ((gset S 1 (m_X1_copy (S 1) (S 0))) 8))) 7 (mT_X3_run ((gset S 1 (m_X1_copy (S 1) (S 0))) 1) ((gset S 1 (m_X1_copy (S 1) (S 0))) 7) ((gset S 1 (m_X1_copy (S 1) (S 0))) 8))) 8 (mO_X3_run ((gset S 1 (m_X1_copy (S 1) (S 0))) 1) ((gset S 1 (m_X1_copy (S 1) (S 0))) 7) ((gset S 1 (m_X1_copy (S 1) (S 0))) 8))) 8) 0 7) := hIn_rd hh.2.1 rfl (by decide)
          exact iv_iret E hh (by unfold v_X5_fault; rw [if_neg c2, if_neg c6, if_neg c7, if_neg c9]) (by rw [← show (((gset (gset (gset (gset S 1 (m_X1_copy (S 1) (S 0))) 1 (mA_X3_run ((gset S 1 (m_X1_copy (S 1) (S 0))) 1) ((gset S 1 (m_X1_copy (S 1) (S 0))) 7) ((gset S 1 (m_X1_copy (S 1) (S 0))) 8))) 7 (mT_X3_run ((gset S 1 (m_X1_copy (S 1) (S 0))) 1) ((gset S 1 (m_X1_copy (S 1) (S 0))) 7) ((gset S 1 (m_X1_copy (S 1) (S 0))) 8))) 8 (mO_X3_run ((gset S 1 (m_X1_copy (S 1) (S 0))) 1) ((gset S 1 (m_X1_copy (S 1) (S 0))) 7) ((gset S 1 (m_X1_copy (S 1) (S 0))) 8))) 8) 0 7) = v_X5_fault S what from (by unfold v_X5_fault; rw [if_neg c2, if_neg c6, if_neg c7, if_neg c9])]; exact hm11) (by unfold m_X5_fault; rw [if_neg c2, if_neg c6, if_neg c7, if_neg c9]) dX5_fault_103
    · have h := h.1 c6
      refine iv_ldc (n := (-1000004)) hx hb (by decide) hown (hts _ q2_197) dX5_fault_48 ?_
      exact iv_iret E hh (by unfold v_X5_fault; rw [if_neg c2, if_pos c6]) (by rw [← show (-1000004) = v_X5_fault S what from (by unfold v_X5_fault; rw [if_neg c2, if_pos c6])]; exact ⟨by decide, by decide⟩) (by unfold m_X5_fault; rw [if_neg c2, if_pos c6]) dX5_fault_50
  · have h := h.1 c2
    refine iv_ldc (n := (-1000001)) hx hb (by decide) hown (hts _ q2_190) dX5_fault_9 ?_
    exact iv_iret E hh (by unfold v_X5_fault; rw [if_pos c2]) (by rw [← show (-1000001) = v_X5_fault S what from (by unfold v_X5_fault; rw [if_pos c2])]; exact ⟨by decide, by decide⟩) (by unfold m_X5_fault; rw [if_pos c2]) dX5_fault_11
set_option maxHeartbeats 4000000 in
set_option maxRecDepth 100000 in
theorem ok_X5_play (l : Launch) (hinj : hInj ad) (S : hS) (hp : p_X5_play S) : hMi D ad cI cJ cF l yX5_play cX5_play 1 (some .int) ({ frames := 7, cells := 0, slots := 0, locals := 174 } : Room) [.ref (ad 11 0)] S (v_X5_play S) (m_X5_play S) := by
  refine hOf (S := S) l hinj (by decide +kernel) (Nat.le_of_ble_eq_true rfl) (fun p e s m args below meth c E => ?_)
  obtain ⟨hx, hb, hml, hown, hts, hK, hN, -, hr, hlk⟩ := id E
  have hown : s.vm.findClass RX5 = some m.cls := hown
  intro H locs ls hh hl
  have hl : lv_has ls 1 [(0, .ref (ad 11 0))] := hl
  have h := hp
  unfold p_X5_play at h
  refine lv_aload_n hx hb dX5_play_0 rfl (lv_at hl 0 rfl) ?_
  refine iv_get (v' := .ref (ad 1 0)) hx hb hts inX5 hown hK hh.1 (ob_X) rfl 1 (by decide) (hts _ q1_202) rfl rfl rfl dX5_play_1 ?_
  refine lv_aload_n hx hb dX5_play_4 rfl (lv_at hl 0 rfl) ?_
  refine iv_get (v' := .ref (ad 0 0)) hx hb hts inX5 hown hK hh.1 (ob_X) rfl 0 (by decide) (hts _ q1_201) rfl rfl rfl dX5_play_5 ?_
  obtain ⟨g1, h⟩ := h
  refine iv_kv (iv_rV (As := [.ref (ad 0 0)]) (rest := []) E hh (ok_X1_copy l hinj S (by decide) (by decide) (by omega) (S 1) rfl (S 0) rfl g1) cb_X1_copy q3_49 rfl rfl ⟨Nat.le_of_ble_eq_true rfl, Nat.le_of_ble_eq_true rfl⟩ (ob_Font (by decide)) rfl rfl rfl hl.1 rfl (Nat.le_of_ble_eq_true rfl) dX5_play_8 ⟨Nat.zero_le _, Nat.zero_le _⟩) hh (fun H locs hh => ?_)
  refine lv_aload_n hx hb dX5_play_11 rfl (lv_at hl 0 rfl) ?_
  refine iv_get (v' := .ref (ad 8 0)) hx hb hts inX5 hown hK hh.1 (ob_X) rfl 3 (by decide) (hts _ q1_204) rfl rfl rfl dX5_play_12 ?_
  refine lv_aload_n hx hb dX5_play_15 rfl (lv_at hl 0 rfl) ?_
  refine iv_get (v' := .ref (ad 1 0)) hx hb hts inX5 hown hK hh.1 (ob_X) rfl 1 (by decide) (hts _ q1_202) rfl rfl rfl dX5_play_16 ?_
  refine lv_aload_n hx hb dX5_play_19 rfl (lv_at hl 0 rfl) ?_
  refine iv_get (v' := .ref (ad 7 0)) hx hb hts inX5 hown hK hh.1 (ob_X) rfl 2 (by decide) (hts _ q1_203) rfl rfl rfl dX5_play_20 ?_
  obtain ⟨g2, h⟩ := h
  refine iv_kv (iv_rV (As := [.ref (ad 1 0), .ref (ad 7 0)]) (rest := []) E hh (ok_X3_run l hinj (gset S 1 (m_X1_copy (S 1) (S 0))) (by decide) ((gset S 1 (m_X1_copy (S 1) (S 0))) 1) rfl ((gset S 1 (m_X1_copy (S 1) (S 0))) 7) rfl ((gset S 1 (m_X1_copy (S 1) (S 0))) 8) rfl g2) cb_X3_run q3_116 rfl rfl ⟨Nat.le_of_ble_eq_true rfl, Nat.le_of_ble_eq_true rfl⟩ (ob_Orders) rfl rfl rfl hl.1 rfl (Nat.le_of_ble_eq_true rfl) dX5_play_23 ⟨Nat.zero_le _, Nat.zero_le _⟩) hh (fun H locs hh => ?_)
  refine lv_aload_n hx hb dX5_play_26 rfl (lv_at hl 0 rfl) ?_
  refine iv_get (v' := .ref (ad 8 0)) hx hb hts inX5 hown hK hh.1 (ob_X) rfl 3 (by decide) (hts _ q1_204) rfl rfl rfl dX5_play_27 ?_
  refine iv_getN (v' := .int (hI (((gset (gset (gset (gset S 1 (m_X1_copy (S 1) (S 0))) 1 (mA_X3_run ((gset S 1 (m_X1_copy (S 1) (S 0))) 1) ((gset S 1 (m_X1_copy (S 1) (S 0))) 7) ((gset S 1 (m_X1_copy (S 1) (S 0))) 8))) 7 (mT_X3_run ((gset S 1 (m_X1_copy (S 1) (S 0))) 1) ((gset S 1 (m_X1_copy (S 1) (S 0))) 7) ((gset S 1 (m_X1_copy (S 1) (S 0))) 8))) 8 (mO_X3_run ((gset S 1 (m_X1_copy (S 1) (S 0))) 1) ((gset S 1 (m_X1_copy (S 1) (S 0))) 7) ((gset S 1 (m_X1_copy (S 1) (S 0))) 8))) 8) 0 6))) hx hb hts inX3 hown hK hh.1 (ob_Orders) rfl 6 (by decide) (hN _ q1_161) rfl rfl rfl dX5_play_30 ?_
  have hm3 : hIn (((gset (gset (gset (gset S 1 (m_X1_copy (S 1) (S 0))) 1 (mA_X3_run ((gset S 1 (m_X1_copy (S 1) (S 0))) 1) ((gset S 1 (m_X1_copy (S 1) (S 0))) 7) ((gset S 1 (m_X1_copy (S 1) (S 0))) 8))) 7 (mT_X3_run ((gset S 1 (m_X1_copy (S 1) (S 0))) 1) ((gset S 1 (m_X1_copy (S 1) (S 0))) 7) ((gset S 1 (m_X1_copy (S 1) (S 0))) 8))) 8 (mO_X3_run ((gset S 1 (m_X1_copy (S 1) (S 0))) 1) ((gset S 1 (m_X1_copy (S 1) (S 0))) 7) ((gset S 1 (m_X1_copy (S 1) (S 0))) 8))) 8) 0 6) := hIn_rd hh.2.1 rfl (by decide)
  refine iv_if_eq (tgt := 39) hx hb hm3 dX5_play_33 (by decide) (fun c4 => ?_) (fun c4 => ?_)
  · have h := h.1 c4
    refine lv_aload_n hx hb dX5_play_39 rfl (lv_at hl 0 rfl) ?_
    refine iv_get (v' := .ref (ad 9 0)) hx hb hts inX5 hown hK hh.1 (ob_X) rfl 4 (by decide) (hts _ q1_205) rfl rfl rfl dX5_play_40 ?_
    refine lv_aload_n hx hb dX5_play_43 rfl (lv_at hl 0 rfl) ?_
    refine iv_get (v' := .ref (ad 0 0)) hx hb hts inX5 hown hK hh.1 (ob_X) rfl 0 (by decide) (hts _ q1_201) rfl rfl rfl dX5_play_44 ?_
    obtain ⟨g5, h⟩ := h
    refine iv_kv (iv_rV (As := [.ref (ad 0 0)]) (rest := []) E hh (ok_X2_note l hinj (gset (gset (gset (gset S 1 (m_X1_copy (S 1) (S 0))) 1 (mA_X3_run ((gset S 1 (m_X1_copy (S 1) (S 0))) 1) ((gset S 1 (m_X1_copy (S 1) (S 0))) 7) ((gset S 1 (m_X1_copy (S 1) (S 0))) 8))) 7 (mT_X3_run ((gset S 1 (m_X1_copy (S 1) (S 0))) 1) ((gset S 1 (m_X1_copy (S 1) (S 0))) 7) ((gset S 1 (m_X1_copy (S 1) (S 0))) 8))) 8 (mO_X3_run ((gset S 1 (m_X1_copy (S 1) (S 0))) 1) ((gset S 1 (m_X1_copy (S 1) (S 0))) 7) ((gset S 1 (m_X1_copy (S 1) (S 0))) 8))) (by decide) g5) cb_X2_note q1_221 rfl rfl ⟨Nat.le_of_ble_eq_true rfl, Nat.le_of_ble_eq_true rfl⟩ (ob_Hist) rfl rfl rfl hl.1 rfl (Nat.le_of_ble_eq_true rfl) dX5_play_47 ⟨Nat.zero_le _, Nat.zero_le _⟩) hh (fun H locs hh => ?_)
    refine lv_aload_n hx hb dX5_play_50 rfl (lv_at hl 0 rfl) ?_
    refine iv_get (v' := .ref (ad 0 0)) hx hb hts inX5 hown hK hh.1 (ob_X) rfl 0 (by decide) (hts _ q1_201) rfl rfl rfl dX5_play_51 ?_
    refine lv_aload_n hx hb dX5_play_54 rfl (lv_at hl 0 rfl) ?_
    refine iv_get (v' := .ref (ad 1 0)) hx hb hts inX5 hown hK hh.1 (ob_X) rfl 1 (by decide) (hts _ q1_202) rfl rfl rfl dX5_play_55 ?_
    obtain ⟨g6, h⟩ := h
    refine iv_kv (iv_rV (As := [.ref (ad 1 0)]) (rest := []) E hh (ok_X1_copy l hinj (m_X2_note (gset (gset (gset (gset S 1 (m_X1_copy (S 1) (S 0))) 1 (mA_X3_run ((gset S 1 (m_X1_copy (S 1) (S 0))) 1) ((gset S 1 (m_X1_copy (S 1) (S 0))) 7) ((gset S 1 (m_X1_copy (S 1) (S 0))) 8))) 7 (mT_X3_run ((gset S 1 (m_X1_copy (S 1) (S 0))) 1) ((gset S 1 (m_X1_copy (S 1) (S 0))) 7) ((gset S 1 (m_X1_copy (S 1) (S 0))) 8))) 8 (mO_X3_run ((gset S 1 (m_X1_copy (S 1) (S 0))) 1) ((gset S 1 (m_X1_copy (S 1) (S 0))) 7) ((gset S 1 (m_X1_copy (S 1) (S 0))) 8))) 0) (by decide) (by decide) (by omega) ((m_X2_note (gset (gset (gset (gset S 1 (m_X1_copy (S 1) (S 0))) 1 (mA_X3_run ((gset S 1 (m_X1_copy (S 1) (S 0))) 1) ((gset S 1 (m_X1_copy (S 1) (S 0))) 7) ((gset S 1 (m_X1_copy (S 1) (S 0))) 8))) 7 (mT_X3_run ((gset S 1 (m_X1_copy (S 1) (S 0))) 1) ((gset S 1 (m_X1_copy (S 1) (S 0))) 7) ((gset S 1 (m_X1_copy (S 1) (S 0))) 8))) 8 (mO_X3_run ((gset S 1 (m_X1_copy (S 1) (S 0))) 1) ((gset S 1 (m_X1_copy (S 1) (S 0))) 7) ((gset S 1 (m_X1_copy (S 1) (S 0))) 8))) 0) 0) rfl ((m_X2_note (gset (gset (gset (gset S 1 (m_X1_copy (S 1) (S 0))) 1 (mA_X3_run ((gset S 1 (m_X1_copy (S 1) (S 0))) 1) ((gset S 1 (m_X1_copy (S 1) (S 0))) 7) ((gset S 1 (m_X1_copy (S 1) (S 0))) 8))) 7 (mT_X3_run ((gset S 1 (m_X1_copy (S 1) (S 0))) 1) ((gset S 1 (m_X1_copy (S 1) (S 0))) 7) ((gset S 1 (m_X1_copy (S 1) (S 0))) 8))) 8 (mO_X3_run ((gset S 1 (m_X1_copy (S 1) (S 0))) 1) ((gset S 1 (m_X1_copy (S 1) (S 0))) 7) ((gset S 1 (m_X1_copy (S 1) (S 0))) 8))) 0) 1) rfl g6) cb_X1_copy q3_49 rfl rfl ⟨Nat.le_of_ble_eq_true rfl, Nat.le_of_ble_eq_true rfl⟩ (ob_Font (by decide)) rfl rfl rfl hl.1 rfl (Nat.le_of_ble_eq_true rfl) dX5_play_58 ⟨Nat.zero_le _, Nat.zero_le _⟩) hh (fun H locs hh => ?_)
    refine lv_aload_n hx hb dX5_play_61 rfl (lv_at hl 0 rfl) ?_
    refine lv_aload_n hx hb dX5_play_62 rfl (lv_at hl 0 rfl) ?_
    refine iv_get (v' := .ref (ad 8 0)) hx hb hts inX5 hown hK hh.1 (ob_X) rfl 3 (by decide) (hts _ q1_204) rfl rfl rfl dX5_play_63 ?_
    refine iv_getN (v' := .int (hI (((gset (m_X2_note (gset (gset (gset (gset S 1 (m_X1_copy (S 1) (S 0))) 1 (mA_X3_run ((gset S 1 (m_X1_copy (S 1) (S 0))) 1) ((gset S 1 (m_X1_copy (S 1) (S 0))) 7) ((gset S 1 (m_X1_copy (S 1) (S 0))) 8))) 7 (mT_X3_run ((gset S 1 (m_X1_copy (S 1) (S 0))) 1) ((gset S 1 (m_X1_copy (S 1) (S 0))) 7) ((gset S 1 (m_X1_copy (S 1) (S 0))) 8))) 8 (mO_X3_run ((gset S 1 (m_X1_copy (S 1) (S 0))) 1) ((gset S 1 (m_X1_copy (S 1) (S 0))) 7) ((gset S 1 (m_X1_copy (S 1) (S 0))) 8))) 0) 0 (m_X1_copy ((m_X2_note (gset (gset (gset (gset S 1 (m_X1_copy (S 1) (S 0))) 1 (mA_X3_run ((gset S 1 (m_X1_copy (S 1) (S 0))) 1) ((gset S 1 (m_X1_copy (S 1) (S 0))) 7) ((gset S 1 (m_X1_copy (S 1) (S 0))) 8))) 7 (mT_X3_run ((gset S 1 (m_X1_copy (S 1) (S 0))) 1) ((gset S 1 (m_X1_copy (S 1) (S 0))) 7) ((gset S 1 (m_X1_copy (S 1) (S 0))) 8))) 8 (mO_X3_run ((gset S 1 (m_X1_copy (S 1) (S 0))) 1) ((gset S 1 (m_X1_copy (S 1) (S 0))) 7) ((gset S 1 (m_X1_copy (S 1) (S 0))) 8))) 0) 0) ((m_X2_note (gset (gset (gset (gset S 1 (m_X1_copy (S 1) (S 0))) 1 (mA_X3_run ((gset S 1 (m_X1_copy (S 1) (S 0))) 1) ((gset S 1 (m_X1_copy (S 1) (S 0))) 7) ((gset S 1 (m_X1_copy (S 1) (S 0))) 8))) 7 (mT_X3_run ((gset S 1 (m_X1_copy (S 1) (S 0))) 1) ((gset S 1 (m_X1_copy (S 1) (S 0))) 7) ((gset S 1 (m_X1_copy (S 1) (S 0))) 8))) 8 (mO_X3_run ((gset S 1 (m_X1_copy (S 1) (S 0))) 1) ((gset S 1 (m_X1_copy (S 1) (S 0))) 7) ((gset S 1 (m_X1_copy (S 1) (S 0))) 8))) 0) 1))) 8) 0 4))) hx hb hts inX3 hown hK hh.1 (ob_Orders) rfl 4 (by decide) (hN _ q1_157) rfl rfl rfl dX5_play_66 ?_
    have hm7 : hIn (((gset (m_X2_note (gset (gset (gset (gset S 1 (m_X1_copy (S 1) (S 0))) 1 (mA_X3_run ((gset S 1 (m_X1_copy (S 1) (S 0))) 1) ((gset S 1 (m_X1_copy (S 1) (S 0))) 7) ((gset S 1 (m_X1_copy (S 1) (S 0))) 8))) 7 (mT_X3_run ((gset S 1 (m_X1_copy (S 1) (S 0))) 1) ((gset S 1 (m_X1_copy (S 1) (S 0))) 7) ((gset S 1 (m_X1_copy (S 1) (S 0))) 8))) 8 (mO_X3_run ((gset S 1 (m_X1_copy (S 1) (S 0))) 1) ((gset S 1 (m_X1_copy (S 1) (S 0))) 7) ((gset S 1 (m_X1_copy (S 1) (S 0))) 8))) 0) 0 (m_X1_copy ((m_X2_note (gset (gset (gset (gset S 1 (m_X1_copy (S 1) (S 0))) 1 (mA_X3_run ((gset S 1 (m_X1_copy (S 1) (S 0))) 1) ((gset S 1 (m_X1_copy (S 1) (S 0))) 7) ((gset S 1 (m_X1_copy (S 1) (S 0))) 8))) 7 (mT_X3_run ((gset S 1 (m_X1_copy (S 1) (S 0))) 1) ((gset S 1 (m_X1_copy (S 1) (S 0))) 7) ((gset S 1 (m_X1_copy (S 1) (S 0))) 8))) 8 (mO_X3_run ((gset S 1 (m_X1_copy (S 1) (S 0))) 1) ((gset S 1 (m_X1_copy (S 1) (S 0))) 7) ((gset S 1 (m_X1_copy (S 1) (S 0))) 8))) 0) 0) ((m_X2_note (gset (gset (gset (gset S 1 (m_X1_copy (S 1) (S 0))) 1 (mA_X3_run ((gset S 1 (m_X1_copy (S 1) (S 0))) 1) ((gset S 1 (m_X1_copy (S 1) (S 0))) 7) ((gset S 1 (m_X1_copy (S 1) (S 0))) 8))) 7 (mT_X3_run ((gset S 1 (m_X1_copy (S 1) (S 0))) 1) ((gset S 1 (m_X1_copy (S 1) (S 0))) 7) ((gset S 1 (m_X1_copy (S 1) (S 0))) 8))) 8 (mO_X3_run ((gset S 1 (m_X1_copy (S 1) (S 0))) 1) ((gset S 1 (m_X1_copy (S 1) (S 0))) 7) ((gset S 1 (m_X1_copy (S 1) (S 0))) 8))) 0) 1))) 8) 0 4) := hIn_rd hh.2.1 rfl (by decide)
    obtain ⟨g8, h⟩ := h
    refine iv_ki (iv_rV (As := [.int (hI (((gset (m_X2_note (gset (gset (gset (gset S 1 (m_X1_copy (S 1) (S 0))) 1 (mA_X3_run ((gset S 1 (m_X1_copy (S 1) (S 0))) 1) ((gset S 1 (m_X1_copy (S 1) (S 0))) 7) ((gset S 1 (m_X1_copy (S 1) (S 0))) 8))) 7 (mT_X3_run ((gset S 1 (m_X1_copy (S 1) (S 0))) 1) ((gset S 1 (m_X1_copy (S 1) (S 0))) 7) ((gset S 1 (m_X1_copy (S 1) (S 0))) 8))) 8 (mO_X3_run ((gset S 1 (m_X1_copy (S 1) (S 0))) 1) ((gset S 1 (m_X1_copy (S 1) (S 0))) 7) ((gset S 1 (m_X1_copy (S 1) (S 0))) 8))) 0) 0 (m_X1_copy ((m_X2_note (gset (gset (gset (gset S 1 (m_X1_copy (S 1) (S 0))) 1 (mA_X3_run ((gset S 1 (m_X1_copy (S 1) (S 0))) 1) ((gset S 1 (m_X1_copy (S 1) (S 0))) 7) ((gset S 1 (m_X1_copy (S 1) (S 0))) 8))) 7 (mT_X3_run ((gset S 1 (m_X1_copy (S 1) (S 0))) 1) ((gset S 1 (m_X1_copy (S 1) (S 0))) 7) ((gset S 1 (m_X1_copy (S 1) (S 0))) 8))) 8 (mO_X3_run ((gset S 1 (m_X1_copy (S 1) (S 0))) 1) ((gset S 1 (m_X1_copy (S 1) (S 0))) 7) ((gset S 1 (m_X1_copy (S 1) (S 0))) 8))) 0) 0) ((m_X2_note (gset (gset (gset (gset S 1 (m_X1_copy (S 1) (S 0))) 1 (mA_X3_run ((gset S 1 (m_X1_copy (S 1) (S 0))) 1) ((gset S 1 (m_X1_copy (S 1) (S 0))) 7) ((gset S 1 (m_X1_copy (S 1) (S 0))) 8))) 7 (mT_X3_run ((gset S 1 (m_X1_copy (S 1) (S 0))) 1) ((gset S 1 (m_X1_copy (S 1) (S 0))) 7) ((gset S 1 (m_X1_copy (S 1) (S 0))) 8))) 8 (mO_X3_run ((gset S 1 (m_X1_copy (S 1) (S 0))) 1) ((gset S 1 (m_X1_copy (S 1) (S 0))) 7) ((gset S 1 (m_X1_copy (S 1) (S 0))) 8))) 0) 1))) 8) 0 4))]) (rest := []) E hh (ok_X5_settled l hinj (gset (m_X2_note (gset (gset (gset (gset S 1 (m_X1_copy (S 1) (S 0))) 1 (mA_X3_run ((gset S 1 (m_X1_copy (S 1) (S 0))) 1) ((gset S 1 (m_X1_copy (S 1) (S 0))) 7) ((gset S 1 (m_X1_copy (S 1) (S 0))) 8))) 7 (mT_X3_run ((gset S 1 (m_X1_copy (S 1) (S 0))) 1) ((gset S 1 (m_X1_copy (S 1) (S 0))) 7) ((gset S 1 (m_X1_copy (S 1) (S 0))) 8))) 8 (mO_X3_run ((gset S 1 (m_X1_copy (S 1) (S 0))) 1) ((gset S 1 (m_X1_copy (S 1) (S 0))) 7) ((gset S 1 (m_X1_copy (S 1) (S 0))) 8))) 0) 0 (m_X1_copy ((m_X2_note (gset (gset (gset (gset S 1 (m_X1_copy (S 1) (S 0))) 1 (mA_X3_run ((gset S 1 (m_X1_copy (S 1) (S 0))) 1) ((gset S 1 (m_X1_copy (S 1) (S 0))) 7) ((gset S 1 (m_X1_copy (S 1) (S 0))) 8))) 7 (mT_X3_run ((gset S 1 (m_X1_copy (S 1) (S 0))) 1) ((gset S 1 (m_X1_copy (S 1) (S 0))) 7) ((gset S 1 (m_X1_copy (S 1) (S 0))) 8))) 8 (mO_X3_run ((gset S 1 (m_X1_copy (S 1) (S 0))) 1) ((gset S 1 (m_X1_copy (S 1) (S 0))) 7) ((gset S 1 (m_X1_copy (S 1) (S 0))) 8))) 0) 0) ((m_X2_note (gset (gset (gset (gset S 1 (m_X1_copy (S 1) (S 0))) 1 (mA_X3_run ((gset S 1 (m_X1_copy (S 1) (S 0))) 1) ((gset S 1 (m_X1_copy (S 1) (S 0))) 7) ((gset S 1 (m_X1_copy (S 1) (S 0))) 8))) 7 (mT_X3_run ((gset S 1 (m_X1_copy (S 1) (S 0))) 1) ((gset S 1 (m_X1_copy (S 1) (S 0))) 7) ((gset S 1 (m_X1_copy (S 1) (S 0))) 8))) 8 (mO_X3_run ((gset S 1 (m_X1_copy (S 1) (S 0))) 1) ((gset S 1 (m_X1_copy (S 1) (S 0))) 7) ((gset S 1 (m_X1_copy (S 1) (S 0))) 8))) 0) 1))) (((gset (m_X2_note (gset (gset (gset (gset S 1 (m_X1_copy (S 1) (S 0))) 1 (mA_X3_run ((gset S 1 (m_X1_copy (S 1) (S 0))) 1) ((gset S 1 (m_X1_copy (S 1) (S 0))) 7) ((gset S 1 (m_X1_copy (S 1) (S 0))) 8))) 7 (mT_X3_run ((gset S 1 (m_X1_copy (S 1) (S 0))) 1) ((gset S 1 (m_X1_copy (S 1) (S 0))) 7) ((gset S 1 (m_X1_copy (S 1) (S 0))) 8))) 8 (mO_X3_run ((gset S 1 (m_X1_copy (S 1) (S 0))) 1) ((gset S 1 (m_X1_copy (S 1) (S 0))) 7) ((gset S 1 (m_X1_copy (S 1) (S 0))) 8))) 0) 0 (m_X1_copy ((m_X2_note (gset (gset (gset (gset S 1 (m_X1_copy (S 1) (S 0))) 1 (mA_X3_run ((gset S 1 (m_X1_copy (S 1) (S 0))) 1) ((gset S 1 (m_X1_copy (S 1) (S 0))) 7) ((gset S 1 (m_X1_copy (S 1) (S 0))) 8))) 7 (mT_X3_run ((gset S 1 (m_X1_copy (S 1) (S 0))) 1) ((gset S 1 (m_X1_copy (S 1) (S 0))) 7) ((gset S 1 (m_X1_copy (S 1) (S 0))) 8))) 8 (mO_X3_run ((gset S 1 (m_X1_copy (S 1) (S 0))) 1) ((gset S 1 (m_X1_copy (S 1) (S 0))) 7) ((gset S 1 (m_X1_copy (S 1) (S 0))) 8))) 0) 0) ((m_X2_note (gset (gset (gset (gset S 1 (m_X1_copy (S 1) (S 0))) 1 (mA_X3_run ((gset S 1 (m_X1_copy (S 1) (S 0))) 1) ((gset S 1 (m_X1_copy (S 1) (S 0))) 7) ((gset S 1 (m_X1_copy (S 1) (S 0))) 8))) 7 (mT_X3_run ((gset S 1 (m_X1_copy (S 1) (S 0))) 1) ((gset S 1 (m_X1_copy (S 1) (S 0))) 7) ((gset S 1 (m_X1_copy (S 1) (S 0))) 8))) 8 (mO_X3_run ((gset S 1 (m_X1_copy (S 1) (S 0))) 1) ((gset S 1 (m_X1_copy (S 1) (S 0))) 7) ((gset S 1 (m_X1_copy (S 1) (S 0))) 8))) 0) 1))) 8) 0 4) hm7 g8) cb_X5_settled q2_16 rfl rfl ⟨Nat.le_of_ble_eq_true rfl, Nat.le_of_ble_eq_true rfl⟩ (ob_X) rfl rfl rfl hl.1 rfl (Nat.le_of_ble_eq_true rfl) dX5_play_69 ⟨Nat.zero_le _, Nat.zero_le _⟩) hh (fun hc9 H locs hh => ?_)
    exact iv_iret E hh (by unfold v_X5_play; rw [if_pos c4]) (by rw [← show (v_X5_settled (gset (m_X2_note (gset (gset (gset (gset S 1 (m_X1_copy (S 1) (S 0))) 1 (mA_X3_run ((gset S 1 (m_X1_copy (S 1) (S 0))) 1) ((gset S 1 (m_X1_copy (S 1) (S 0))) 7) ((gset S 1 (m_X1_copy (S 1) (S 0))) 8))) 7 (mT_X3_run ((gset S 1 (m_X1_copy (S 1) (S 0))) 1) ((gset S 1 (m_X1_copy (S 1) (S 0))) 7) ((gset S 1 (m_X1_copy (S 1) (S 0))) 8))) 8 (mO_X3_run ((gset S 1 (m_X1_copy (S 1) (S 0))) 1) ((gset S 1 (m_X1_copy (S 1) (S 0))) 7) ((gset S 1 (m_X1_copy (S 1) (S 0))) 8))) 0) 0 (m_X1_copy ((m_X2_note (gset (gset (gset (gset S 1 (m_X1_copy (S 1) (S 0))) 1 (mA_X3_run ((gset S 1 (m_X1_copy (S 1) (S 0))) 1) ((gset S 1 (m_X1_copy (S 1) (S 0))) 7) ((gset S 1 (m_X1_copy (S 1) (S 0))) 8))) 7 (mT_X3_run ((gset S 1 (m_X1_copy (S 1) (S 0))) 1) ((gset S 1 (m_X1_copy (S 1) (S 0))) 7) ((gset S 1 (m_X1_copy (S 1) (S 0))) 8))) 8 (mO_X3_run ((gset S 1 (m_X1_copy (S 1) (S 0))) 1) ((gset S 1 (m_X1_copy (S 1) (S 0))) 7) ((gset S 1 (m_X1_copy (S 1) (S 0))) 8))) 0) 0) ((m_X2_note (gset (gset (gset (gset S 1 (m_X1_copy (S 1) (S 0))) 1 (mA_X3_run ((gset S 1 (m_X1_copy (S 1) (S 0))) 1) ((gset S 1 (m_X1_copy (S 1) (S 0))) 7) ((gset S 1 (m_X1_copy (S 1) (S 0))) 8))) 7 (mT_X3_run ((gset S 1 (m_X1_copy (S 1) (S 0))) 1) ((gset S 1 (m_X1_copy (S 1) (S 0))) 7) ((gset S 1 (m_X1_copy (S 1) (S 0))) 8))) 8 (mO_X3_run ((gset S 1 (m_X1_copy (S 1) (S 0))) 1) ((gset S 1 (m_X1_copy (S 1) (S 0))) 7) ((gset S 1 (m_X1_copy (S 1) (S 0))) 8))) 0) 1))) (((gset (m_X2_note (gset (gset (gset (gset S 1 (m_X1_copy (S 1) (S 0))) 1 (mA_X3_run ((gset S 1 (m_X1_copy (S 1) (S 0))) 1) ((gset S 1 (m_X1_copy (S 1) (S 0))) 7) ((gset S 1 (m_X1_copy (S 1) (S 0))) 8))) 7 (mT_X3_run ((gset S 1 (m_X1_copy (S 1) (S 0))) 1) ((gset S 1 (m_X1_copy (S 1) (S 0))) 7) ((gset S 1 (m_X1_copy (S 1) (S 0))) 8))) 8 (mO_X3_run ((gset S 1 (m_X1_copy (S 1) (S 0))) 1) ((gset S 1 (m_X1_copy (S 1) (S 0))) 7) ((gset S 1 (m_X1_copy (S 1) (S 0))) 8))) 0) 0 (m_X1_copy ((m_X2_note (gset (gset (gset (gset S 1 (m_X1_copy (S 1) (S 0))) 1 (mA_X3_run ((gset S 1 (m_X1_copy (S 1) (S 0))) 1) ((gset S 1 (m_X1_copy (S 1) (S 0))) 7) ((gset S 1 (m_X1_copy (S 1) (S 0))) 8))) 7 (mT_X3_run ((gset S 1 (m_X1_copy (S 1) (S 0))) 1) ((gset S 1 (m_X1_copy (S 1) (S 0))) 7) ((gset S 1 (m_X1_copy (S 1) (S 0))) 8))) 8 (mO_X3_run ((gset S 1 (m_X1_copy (S 1) (S 0))) 1) ((gset S 1 (m_X1_copy (S 1) (S 0))) 7) ((gset S 1 (m_X1_copy (S 1) (S 0))) 8))) 0) 0) ((m_X2_note (gset (gset (gset (gset S 1 (m_X1_copy (S 1) (S 0))) 1 (mA_X3_run ((gset S 1 (m_X1_copy (S 1) (S 0))) 1) ((gset S 1 (m_X1_copy (S 1) (S 0))) 7) ((gset S 1 (m_X1_copy (S 1) (S 0))) 8))) 7 (mT_X3_run ((gset S 1 (m_X1_copy (S 1) (S 0))) 1) ((gset S 1 (m_X1_copy (S 1) (S 0))) 7) ((gset S 1 (m_X1_copy (S 1) (S 0))) 8))) 8 (mO_X3_run ((gset S 1 (m_X1_copy (S 1) (S 0))) 1) ((gset S 1 (m_X1_copy (S 1) (S 0))) 7) ((gset S 1 (m_X1_copy (S 1) (S 0))) 8))) 0) 1))) 8) 0 4)) = v_X5_play S from (by unfold v_X5_play; rw [if_pos c4])]; exact hc9) (by unfold m_X5_play; rw [if_pos c4]) dX5_play_72
  · have h := h.2 c4
    refine iv_ldc (n := (-1000002)) hx hb (by decide) hown (hts _ q3_97) dX5_play_36 ?_
    exact iv_iret E hh (by unfold v_X5_play; rw [if_neg c4]) (by rw [← show (-1000002) = v_X5_play S from (by unfold v_X5_play; rw [if_neg c4])]; exact ⟨by decide, by decide⟩) (by unfold m_X5_play; rw [if_neg c4]) dX5_play_38
end

section
variable {D : va_G} {ad : Nat → Nat → Nat} {cI cJ cF : ClassId}
set_option maxHeartbeats 4000000 in
set_option maxRecDepth 100000 in
theorem ok_X6_inPixels (l : Launch) (hinj : hInj ad) (S : hS) (v1 : Int) (size : Int) (h_v1 : hIn v1) (h_size : hIn size) (hp : p_X6_inPixels v1 size) : hMi D ad cI cJ cF l yX6_inPixels cX6_inPixels 2 (some .int) ({ frames := 0, cells := 0, slots := 0, locals := 0 } : Room) [.int (hI v1), .int (hI size)] S (v_X6_inPixels v1 size) S := by
  refine hOf (S := S) l hinj (by decide +kernel) (Nat.le_of_ble_eq_true rfl) (fun p e s m args below meth c E => ?_)
  obtain ⟨hx, hb, hml, hown, hts, hK, hN, -, hr, hlk⟩ := id E
  have hown : s.vm.findClass RX6 = some m.cls := hown
  intro H locs ls hh hl
  have hl : lv_has ls 2 [(0, .int (hI v1)), (1, .int (hI size))] := hl
  have h := hp
  unfold p_X6_inPixels at h
  refine lv_iload_n hx hb dX6_inPixels_0 rfl (lv_at hl 0 rfl) ?_
  refine lv_iload_n hx hb dX6_inPixels_1 rfl (lv_at hl 1 rfl) ?_
  refine iv_imul hx hb dX6_inPixels_2 ?_
  refine lv_sipush (v := hI 500) hx hb dX6_inPixels_3 (by decide) ?_
  refine iv_iadd hx hb dX6_inPixels_6 ?_
  refine lv_sipush (v := hI 1000) hx hb dX6_inPixels_7 (by decide) ?_
  obtain ⟨g1, h⟩ := h
  obtain ⟨g2, h⟩ := h
  refine iv_idiv hx hb g1 g2 ⟨by decide, by decide⟩ (by decide) dX6_inPixels_10 ?_
  obtain ⟨g3, h⟩ := h
  exact iv_iret E hh rfl (by rw [← show (((v1 * size) + 500) / 1000) = v_X6_inPixels v1 size from rfl]; exact g3) rfl dX6_inPixels_11
set_option maxHeartbeats 4000000 in
set_option maxRecDepth 100000 in
theorem ok_X6_pixelsOf (l : Launch) (hinj : hInj ad) (S : hS) (P : hGM) (hP : S 10 = P) (glyph : Int) (stem : Int) (size : Int) (h_glyph : hIn glyph) (h_stem : hIn stem) (h_size : hIn size) (hp : p_X6_pixelsOf P glyph stem size) : hMi D ad cI cJ cF l yX6_pixelsOf cX6_pixelsOf 5 (some .int) ({ frames := 3, cells := 0, slots := 0, locals := 69 } : Room) [.ref (ad 10 0), .int (hI glyph), .int (hI stem), .int (hI size)] S (v_X6_pixelsOf P glyph stem size) S := by
  refine hOf (S := S) l hinj (by decide +kernel) (Nat.le_of_ble_eq_true rfl) (fun p e s m args below meth c E => ?_)
  obtain ⟨hx, hb, hml, hown, hts, hK, hN, -, hr, hlk⟩ := id E
  have hown : s.vm.findClass RX6 = some m.cls := hown
  intro H locs ls hh hl
  have hl : lv_has ls 5 [(0, .ref (ad 10 0)), (1, .int (hI glyph)), (2, .int (hI stem)), (3, .int (hI size))] := hl
  have h := hp
  unfold p_X6_pixelsOf at h
  refine lv_aload_n hx hb dX6_pixelsOf_0 rfl (lv_at hl 0 rfl) ?_
  refine lv_iload_n hx hb dX6_pixelsOf_1 rfl (lv_at hl 1 rfl) ?_
  refine lv_iload_n hx hb dX6_pixelsOf_2 rfl (lv_at hl 2 rfl) ?_
  obtain ⟨g1, h⟩ := h
  refine iv_ki (iv_rV (As := [.int (hI glyph), .int (hI stem)]) (rest := []) E hh (ok_X6_hinted l hinj S P hP glyph stem h_glyph h_stem g1) cb_X6_hinted q4_72 rfl rfl ⟨Nat.le_of_ble_eq_true rfl, Nat.le_of_ble_eq_true rfl⟩ (ob_Model) rfl rfl rfl hl.1 rfl (Nat.le_of_ble_eq_true rfl) dX6_pixelsOf_3 ⟨Nat.zero_le _, Nat.zero_le _⟩) hh (fun hc2 H locs hh => ?_)
  refine lv_iload_n hx hb dX6_pixelsOf_6 rfl (lv_at hl 3 rfl) ?_
  obtain ⟨g3, h⟩ := h
  refine iv_ki (iv_rS (As := [.int (hI (v_X6_hinted P glyph stem)), .int (hI size)]) (rest := []) E hh (ok_X6_inPixels l hinj S (v_X6_hinted P glyph stem) size hc2 h_size g3) cb_X6_inPixels q4_76 rfl rfl ⟨Nat.le_of_ble_eq_true rfl, Nat.le_of_ble_eq_true rfl⟩ rfl hl.1 rfl (Nat.le_of_ble_eq_true rfl) dX6_pixelsOf_7 ⟨Nat.zero_le _, Nat.zero_le _⟩) hh (fun hc4 H locs hh => ?_)
  refine lv_istore (lv' := [(4, .int (hI (v_X6_inPixels (v_X6_hinted P glyph stem) size))), (0, .ref (ad 10 0)), (1, .int (hI glyph)), (2, .int (hI stem)), (3, .int (hI size))]) hx hb dX6_pixelsOf_10 hl (by decide) rfl (fun ls hl => ?_)
  refine lv_iload hx hb dX6_pixelsOf_12 (lv_at hl 0 rfl) ?_
  refine iv_iconst hx hb dX6_pixelsOf_14 ?_
  refine iv_icmp_ge (tgt := 22) hx hb hc4 ⟨by decide, by decide⟩ dX6_pixelsOf_15 (by decide) (fun c5 => ?_) (fun c5 => ?_)
  · have h := h.2 c5
    refine lv_iload hx hb dX6_pixelsOf_22 (lv_at hl 0 rfl) ?_
    exact iv_iret E hh (by unfold v_X6_pixelsOf; rw [if_neg c5]) (by rw [← show (v_X6_inPixels (v_X6_hinted P glyph stem) size) = v_X6_pixelsOf P glyph stem size from (by unfold v_X6_pixelsOf; rw [if_neg c5])]; exact hc4) rfl dX6_pixelsOf_24
  · have h := h.1 c5
    refine iv_iconst hx hb dX6_pixelsOf_18 ?_
    refine lv_goto (tgt := 24) hx hb dX6_pixelsOf_19 (by decide) ?_
    exact iv_iret E hh (by unfold v_X6_pixelsOf; rw [if_pos c5]) (by rw [← show 1 = v_X6_pixelsOf P glyph stem size from (by unfold v_X6_pixelsOf; rw [if_pos c5])]; exact ⟨by decide, by decide⟩) rfl dX6_pixelsOf_24
set_option maxHeartbeats 4000000 in
set_option maxRecDepth 100000 in
theorem ok_X6_columns (l : Launch) (hinj : hInj ad) (S : hS) (P : hGM) (hP : S 10 = P) (glyph : Int) (size : Int) (h_glyph : hIn glyph) (h_size : hIn size) (hp : p_X6_columns P glyph size) : hMi D ad cI cJ cF l yX6_columns cX6_columns 4 (some .int) ({ frames := 1, cells := 0, slots := 0, locals := 22 } : Room) [.ref (ad 10 0), .int (hI glyph), .int (hI size)] S (v_X6_columns P glyph size) S := by
  refine hOf (S := S) l hinj (by decide +kernel) (Nat.le_of_ble_eq_true rfl) (fun p e s m args below meth c E => ?_)
  obtain ⟨hx, hb, hml, hown, hts, hK, hN, -, hr, hlk⟩ := id E
  have hown : s.vm.findClass RX6 = some m.cls := hown
  intro H locs ls hh hl
  have hl : lv_has ls 4 [(0, .ref (ad 10 0)), (1, .int (hI glyph)), (2, .int (hI size))] := hl
  have h := hp
  unfold p_X6_columns at h
  refine lv_aload_n hx hb dX6_columns_0 rfl (lv_at hl 0 rfl) ?_
  refine lv_iload_n hx hb dX6_columns_1 rfl (lv_at hl 1 rfl) ?_
  refine iv_iconst hx hb dX6_columns_2 ?_
  obtain ⟨g1, h⟩ := h
  refine iv_ki (iv_rV (As := [.int (hI glyph), .int (hI 0)]) (rest := []) E hh (ok_X6_of l hinj S P hP glyph 0 h_glyph ⟨by decide, by decide⟩ g1) cb_X6_of q3_237 rfl rfl ⟨Nat.le_of_ble_eq_true rfl, Nat.le_of_ble_eq_true rfl⟩ (ob_Model) rfl rfl rfl hl.1 rfl (Nat.le_of_ble_eq_true rfl) dX6_columns_3 ⟨Nat.zero_le _, Nat.zero_le _⟩) hh (fun hc2 H locs hh => ?_)
  refine lv_iload_n hx hb dX6_columns_6 rfl (lv_at hl 2 rfl) ?_
  obtain ⟨g3, h⟩ := h
  refine iv_ki (iv_rS (As := [.int (hI (v_X6_of P glyph 0)), .int (hI size)]) (rest := []) E hh (ok_X6_inPixels l hinj S (v_X6_of P glyph 0) size hc2 h_size g3) cb_X6_inPixels q4_76 rfl rfl ⟨Nat.le_of_ble_eq_true rfl, Nat.le_of_ble_eq_true rfl⟩ rfl hl.1 rfl (Nat.le_of_ble_eq_true rfl) dX6_columns_7 ⟨Nat.zero_le _, Nat.zero_le _⟩) hh (fun hc4 H locs hh => ?_)
  refine lv_istore_n (lv' := [(3, .int (hI (v_X6_inPixels (v_X6_of P glyph 0) size))), (0, .ref (ad 10 0)), (1, .int (hI glyph)), (2, .int (hI size))]) hx hb dX6_columns_10 rfl hl (by decide) rfl (fun ls hl => ?_)
  refine lv_iload_n hx hb dX6_columns_11 rfl (lv_at hl 0 rfl) ?_
  refine iv_iconst hx hb dX6_columns_12 ?_
  refine iv_icmp_ge (tgt := 20) hx hb hc4 ⟨by decide, by decide⟩ dX6_columns_13 (by decide) (fun c5 => ?_) (fun c5 => ?_)
  · have h := h.2 c5
    refine lv_iload_n hx hb dX6_columns_20 rfl (lv_at hl 0 rfl) ?_
    refine lv_bipush (v := hI 64) hx hb dX6_columns_21 (by decide) ?_
    refine iv_icmp_le (tgt := 31) hx hb hc4 ⟨by decide, by decide⟩ dX6_columns_23 (by decide) (fun c6 => ?_) (fun c6 => ?_)
    · have h := h.1 c6
      refine lv_iload_n hx hb dX6_columns_31 rfl (lv_at hl 0 rfl) ?_
      exact iv_iret E hh (by unfold v_X6_columns; rw [if_neg c5, if_pos c6]) (by rw [← show (v_X6_inPixels (v_X6_of P glyph 0) size) = v_X6_columns P glyph size from (by unfold v_X6_columns; rw [if_neg c5, if_pos c6])]; exact hc4) rfl dX6_columns_32
    · have h := h.2 c6
      refine lv_bipush (v := hI 64) hx hb dX6_columns_26 (by decide) ?_
      refine lv_goto (tgt := 32) hx hb dX6_columns_28 (by decide) ?_
      exact iv_iret E hh (by unfold v_X6_columns; rw [if_neg c5, if_neg c6]) (by rw [← show 64 = v_X6_columns P glyph size from (by unfold v_X6_columns; rw [if_neg c5, if_neg c6])]; exact ⟨by decide, by decide⟩) rfl dX6_columns_32
  · have h := h.1 c5
    refine iv_iconst hx hb dX6_columns_16 ?_
    refine lv_goto (tgt := 32) hx hb dX6_columns_17 (by decide) ?_
    exact iv_iret E hh (by unfold v_X6_columns; rw [if_pos c5]) (by rw [← show 1 = v_X6_columns P glyph size from (by unfold v_X6_columns; rw [if_pos c5])]; exact ⟨by decide, by decide⟩) rfl dX6_columns_32
set_option maxHeartbeats 4000000 in
set_option maxRecDepth 100000 in
theorem ok_X6_rounded (l : Launch) (hinj : hInj ad) (S : hS) (P : hGM) (hP : S 10 = P) (glyph : Int) (stem : Int) (size : Int) (h_glyph : hIn glyph) (h_stem : hIn stem) (h_size : hIn size) (hp : p_X6_rounded P glyph stem size) : hMi D ad cI cJ cF l yX6_rounded cX6_rounded 8 (some .int) ({ frames := 3, cells := 0, slots := 0, locals := 67 } : Room) [.ref (ad 10 0), .int (hI glyph), .int (hI stem), .int (hI size)] S (v_X6_rounded P glyph stem size) S := by
  refine hOf (S := S) l hinj (by decide +kernel) (Nat.le_of_ble_eq_true rfl) (fun p e s m args below meth c E => ?_)
  obtain ⟨hx, hb, hml, hown, hts, hK, hN, -, hr, hlk⟩ := id E
  have hown : s.vm.findClass RX6 = some m.cls := hown
  intro H locs ls hh hl
  have hl : lv_has ls 8 [(0, .ref (ad 10 0)), (1, .int (hI glyph)), (2, .int (hI stem)), (3, .int (hI size))] := hl
  have h := hp
  unfold p_X6_rounded at h
  refine lv_aload_n hx hb dX6_rounded_0 rfl (lv_at hl 0 rfl) ?_
  refine lv_iload_n hx hb dX6_rounded_1 rfl (lv_at hl 1 rfl) ?_
  refine lv_iload_n hx hb dX6_rounded_2 rfl (lv_at hl 2 rfl) ?_
  refine iv_iconst hx hb dX6_rounded_3 ?_
  obtain ⟨g1, h⟩ := h
  refine iv_ki (iv_rV (As := [.int (hI glyph), .int (hI stem), .int (hI 0)]) (rest := []) E hh (ok_X6_ofStem l hinj S P hP glyph stem 0 h_glyph h_stem ⟨by decide, by decide⟩ g1) cb_X6_ofStem q4_1 rfl rfl ⟨Nat.le_of_ble_eq_true rfl, Nat.le_of_ble_eq_true rfl⟩ (ob_Model) rfl rfl rfl hl.1 rfl (Nat.le_of_ble_eq_true rfl) dX6_rounded_4 ⟨Nat.zero_le _, Nat.zero_le _⟩) hh (fun hc2 H locs hh => ?_)
  refine lv_istore (lv' := [(4, .int (hI (v_X6_ofStem P glyph stem 0))), (0, .ref (ad 10 0)), (1, .int (hI glyph)), (2, .int (hI stem)), (3, .int (hI size))]) hx hb dX6_rounded_7 hl (by decide) rfl (fun ls hl => ?_)
  refine lv_aload_n hx hb dX6_rounded_9 rfl (lv_at hl 1 rfl) ?_
  refine lv_iload_n hx hb dX6_rounded_10 rfl (lv_at hl 2 rfl) ?_
  refine lv_iload_n hx hb dX6_rounded_11 rfl (lv_at hl 3 rfl) ?_
  refine iv_iconst hx hb dX6_rounded_12 ?_
  obtain ⟨g3, h⟩ := h
  refine iv_ki (iv_rV (As := [.int (hI glyph), .int (hI stem), .int (hI 1)]) (rest := []) E hh (ok_X6_ofStem l hinj S P hP glyph stem 1 h_glyph h_stem ⟨by decide, by decide⟩ g3) cb_X6_ofStem q4_1 rfl rfl ⟨Nat.le_of_ble_eq_true rfl, Nat.le_of_ble_eq_true rfl⟩ (ob_Model) rfl rfl rfl hl.1 rfl (Nat.le_of_ble_eq_true rfl) dX6_rounded_13 ⟨Nat.zero_le _, Nat.zero_le _⟩) hh (fun hc4 H locs hh => ?_)
  refine lv_istore (lv' := [(5, .int (hI (v_X6_ofStem P glyph stem 1))), (4, .int (hI (v_X6_ofStem P glyph stem 0))), (0, .ref (ad 10 0)), (1, .int (hI glyph)), (2, .int (hI stem)), (3, .int (hI size))]) hx hb dX6_rounded_16 hl (by decide) rfl (fun ls hl => ?_)
  refine lv_aload_n hx hb dX6_rounded_18 rfl (lv_at hl 2 rfl) ?_
  refine lv_iload_n hx hb dX6_rounded_19 rfl (lv_at hl 3 rfl) ?_
  refine lv_iload_n hx hb dX6_rounded_20 rfl (lv_at hl 4 rfl) ?_
  refine iv_iconst hx hb dX6_rounded_21 ?_
  obtain ⟨g5, h⟩ := h
  refine iv_ki (iv_rV (As := [.int (hI glyph), .int (hI stem), .int (hI 2)]) (rest := []) E hh (ok_X6_ofStem l hinj S P hP glyph stem 2 h_glyph h_stem ⟨by decide, by decide⟩ g5) cb_X6_ofStem q4_1 rfl rfl ⟨Nat.le_of_ble_eq_true rfl, Nat.le_of_ble_eq_true rfl⟩ (ob_Model) rfl rfl rfl hl.1 rfl (Nat.le_of_ble_eq_true rfl) dX6_rounded_22 ⟨Nat.zero_le _, Nat.zero_le _⟩) hh (fun hc6 H locs hh => ?_)
  refine lv_istore (lv' := [(6, .int (hI (v_X6_ofStem P glyph stem 2))), (5, .int (hI (v_X6_ofStem P glyph stem 1))), (4, .int (hI (v_X6_ofStem P glyph stem 0))), (0, .ref (ad 10 0)), (1, .int (hI glyph)), (2, .int (hI stem)), (3, .int (hI size))]) hx hb dX6_rounded_25 hl (by decide) rfl (fun ls hl => ?_)
  refine lv_iload hx hb dX6_rounded_27 (lv_at hl 0 rfl) ?_
  refine iv_iconst hx hb dX6_rounded_29 ?_
  refine iv_icmp_ne (tgt := 56) hx hb hc6 ⟨by decide, by decide⟩ dX6_rounded_30 (by decide) (fun c7 => ?_) (fun c7 => ?_)
  · have h := h.2 c7
    refine lv_iload hx hb dX6_rounded_56 (lv_at hl 0 rfl) ?_
    refine iv_iconst hx hb dX6_rounded_58 ?_
    refine iv_icmp_ne (tgt := 79) hx hb hc6 ⟨by decide, by decide⟩ dX6_rounded_59 (by decide) (fun c8 => ?_) (fun c8 => ?_)
    · have h := h.2 c8
      refine lv_iload hx hb dX6_rounded_79 (lv_at hl 0 rfl) ?_
      refine iv_iconst hx hb dX6_rounded_81 ?_
      refine iv_icmp_ne (tgt := 149) hx hb hc6 ⟨by decide, by decide⟩ dX6_rounded_82 (by decide) (fun c9 => ?_) (fun c9 => ?_)
      · have h := h.2 c9
        refine lv_iload hx hb dX6_rounded_149 (lv_at hl 2 rfl) ?_
        refine lv_iload_n hx hb dX6_rounded_151 rfl (lv_at hl 6 rfl) ?_
        obtain ⟨g10, h⟩ := h
        refine iv_ki (iv_rS (As := [.int (hI (v_X6_ofStem P glyph stem 0)), .int (hI size)]) (rest := []) E hh (ok_X6_inPixels l hinj S (v_X6_ofStem P glyph stem 0) size hc2 h_size g10) cb_X6_inPixels q4_76 rfl rfl ⟨Nat.le_of_ble_eq_true rfl, Nat.le_of_ble_eq_true rfl⟩ rfl hl.1 rfl (Nat.le_of_ble_eq_true rfl) dX6_rounded_152 ⟨Nat.zero_le _, Nat.zero_le _⟩) hh (fun hc11 H locs hh => ?_)
        exact iv_iret E hh (by unfold v_X6_rounded; rw [if_neg c7, if_neg c8, if_neg c9]) (by rw [← show (v_X6_inPixels (v_X6_ofStem P glyph stem 0) size) = v_X6_rounded P glyph stem size from (by unfold v_X6_rounded; rw [if_neg c7, if_neg c8, if_neg c9])]; exact hc11) rfl dX6_rounded_155
      · have h := h.1 c9
        refine lv_iload_n hx hb dX6_rounded_85 rfl (lv_at hl 5 rfl) ?_
        refine iv_if_le (tgt := 149) hx hb h_stem dX6_rounded_86 (by decide) (fun c12 => ?_) (fun c12 => ?_)
        · have h := h.1 c12
          refine lv_iload hx hb dX6_rounded_149 (lv_at hl 2 rfl) ?_
          refine lv_iload_n hx hb dX6_rounded_151 rfl (lv_at hl 6 rfl) ?_
          obtain ⟨g13, h⟩ := h
          refine iv_ki (iv_rS (As := [.int (hI (v_X6_ofStem P glyph stem 0)), .int (hI size)]) (rest := []) E hh (ok_X6_inPixels l hinj S (v_X6_ofStem P glyph stem 0) size hc2 h_size g13) cb_X6_inPixels q4_76 rfl rfl ⟨Nat.le_of_ble_eq_true rfl, Nat.le_of_ble_eq_true rfl⟩ rfl hl.1 rfl (Nat.le_of_ble_eq_true rfl) dX6_rounded_152 ⟨Nat.zero_le _, Nat.zero_le _⟩) hh (fun hc14 H locs hh => ?_)
          exact iv_iret E hh (by unfold v_X6_rounded; rw [if_neg c7, if_neg c8, if_pos c9, if_pos c12]) (by rw [← show (v_X6_inPixels (v_X6_ofStem P glyph stem 0) size) = v_X6_rounded P glyph stem size from (by unfold v_X6_rounded; rw [if_neg c7, if_neg c8, if_pos c9, if_pos c12])]; exact hc14) rfl dX6_rounded_155
        · have h := h.2 c12
          refine lv_iload hx hb dX6_rounded_89 (lv_at hl 2 rfl) ?_
          refine lv_aload_n hx hb dX6_rounded_91 rfl (lv_at hl 3 rfl) ?_
          refine lv_iload_n hx hb dX6_rounded_92 rfl (lv_at hl 4 rfl) ?_
          refine lv_iload_n hx hb dX6_rounded_93 rfl (lv_at hl 5 rfl) ?_
          refine iv_iconst hx hb dX6_rounded_94 ?_
          refine iv_isub hx hb dX6_rounded_95 ?_
          obtain ⟨g15, h⟩ := h
          obtain ⟨g16, h⟩ := h
          refine iv_ki (iv_rV (As := [.int (hI glyph), .int (hI (stem - 1))]) (rest := [.int (hI (v_X6_ofStem P glyph stem 0))]) E hh (ok_X6_endOf l hinj S P hP glyph (stem - 1) h_glyph g15 g16) cb_X6_endOf q4_8 rfl rfl ⟨Nat.le_of_ble_eq_true rfl, Nat.le_of_ble_eq_true rfl⟩ (ob_Model) rfl rfl rfl hl.1 rfl (Nat.le_of_ble_eq_true rfl) dX6_rounded_96 ⟨Nat.zero_le _, Nat.zero_le _⟩) hh (fun hc17 H locs hh => ?_)
          refine iv_isub hx hb dX6_rounded_99 ?_
          refine lv_iload_n hx hb dX6_rounded_100 rfl (lv_at hl 6 rfl) ?_
          obtain ⟨g18, h⟩ := h
          obtain ⟨g19, h⟩ := h
          refine iv_ki (iv_rS (As := [.int (hI ((v_X6_ofStem P glyph stem 0) - (v_X6_endOf P glyph (stem - 1)))), .int (hI size)]) (rest := []) E hh (ok_X6_inPixels l hinj S ((v_X6_ofStem P glyph stem 0) - (v_X6_endOf P glyph (stem - 1))) size g18 h_size g19) cb_X6_inPixels q4_76 rfl rfl ⟨Nat.le_of_ble_eq_true rfl, Nat.le_of_ble_eq_true rfl⟩ rfl hl.1 rfl (Nat.le_of_ble_eq_true rfl) dX6_rounded_101 ⟨Nat.zero_le _, Nat.zero_le _⟩) hh (fun hc20 H locs hh => ?_)
          refine lv_istore (lv' := [(7, .int (hI (v_X6_inPixels ((v_X6_ofStem P glyph stem 0) - (v_X6_endOf P glyph (stem - 1))) size))), (6, .int (hI (v_X6_ofStem P glyph stem 2))), (5, .int (hI (v_X6_ofStem P glyph stem 1))), (4, .int (hI (v_X6_ofStem P glyph stem 0))), (0, .ref (ad 10 0)), (1, .int (hI glyph)), (2, .int (hI stem)), (3, .int (hI size))]) hx hb dX6_rounded_104 hl (by decide) rfl (fun ls hl => ?_)
          refine lv_aload_n hx hb dX6_rounded_106 rfl (lv_at hl 4 rfl) ?_
          refine iv_get (v' := .ref (ad 10 5)) hx hb hts inX6 hown hK hh.1 (ob_Model) rfl 7 (by decide) (hts _ q3_167) rfl rfl rfl dX6_rounded_107 ?_
          refine lv_iload_n hx hb dX6_rounded_110 rfl (lv_at hl 6 rfl) ?_
          refine iv_iconst hx hb dX6_rounded_111 ?_
          refine iv_isub hx hb dX6_rounded_112 ?_
          obtain ⟨g21, h⟩ := h
          refine iv_iald hx hb hK hh.1 (ia_10_5) g21 (v := (P 5 (stem - 1))) (congrArg (fun z => z 5 (stem - 1)) hP) dX6_rounded_113 ?_
          have hm22 : hIn (P 5 (stem - 1)) := hIn_rd hh.2.1 hP (by decide)
          refine lv_aload_n hx hb dX6_rounded_114 rfl (lv_at hl 4 rfl) ?_
          refine iv_get (v' := .ref (ad 10 6)) hx hb hts inX6 hown hK hh.1 (ob_Model) rfl 8 (by decide) (hts _ q3_168) rfl rfl rfl dX6_rounded_115 ?_
          refine lv_iload_n hx hb dX6_rounded_118 rfl (lv_at hl 6 rfl) ?_
          refine iv_iconst hx hb dX6_rounded_119 ?_
          refine iv_isub hx hb dX6_rounded_120 ?_
          refine iv_iald hx hb hK hh.1 (ia_10_6) g21 (v := (P 6 (stem - 1))) (congrArg (fun z => z 6 (stem - 1)) hP) dX6_rounded_121 ?_
          have hm23 : hIn (P 6 (stem - 1)) := hIn_rd hh.2.1 hP (by decide)
          refine iv_iadd hx hb dX6_rounded_122 ?_
          refine lv_iload hx hb dX6_rounded_123 (lv_at hl 0 rfl) ?_
          refine lv_aload_n hx hb dX6_rounded_125 rfl (lv_at hl 4 rfl) ?_
          refine iv_get (v' := .ref (ad 10 1)) hx hb hts inX6 hown hK hh.1 (ob_Model) rfl 0 (by decide) (hts _ q3_160) rfl rfl rfl dX6_rounded_126 ?_
          refine lv_bipush (v := hI 6) hx hb dX6_rounded_129 (by decide) ?_
          refine iv_iald hx hb hK hh.1 (ia_10_1) ⟨by decide, by decide⟩ (v := (P 1 6)) (congrArg (fun z => z 1 6) hP) dX6_rounded_131 ?_
          have hm24 : hIn (P 1 6) := hIn_rd hh.2.1 hP (by decide)
          refine iv_icmp_ge (tgt := 145) hx hb hc20 hm24 dX6_rounded_132 (by decide) (fun c25 => ?_) (fun c25 => ?_)
          · have h := h.2 c25
            refine lv_iload hx hb dX6_rounded_145 (lv_at hl 0 rfl) ?_
            refine iv_iadd hx hb dX6_rounded_147 ?_
            obtain ⟨g26, h⟩ := h
            exact iv_iret E hh (by unfold v_X6_rounded; rw [if_neg c7, if_neg c8, if_pos c9, if_neg c12, if_neg c25]) (by rw [← show (((P 5 (stem - 1)) + (P 6 (stem - 1))) + (v_X6_inPixels ((v_X6_ofStem P glyph stem 0) - (v_X6_endOf P glyph (stem - 1))) size)) = v_X6_rounded P glyph stem size from (by unfold v_X6_rounded; rw [if_neg c7, if_neg c8, if_pos c9, if_neg c12, if_neg c25])]; exact g26) rfl dX6_rounded_148
          · have h := h.1 c25
            refine lv_aload_n hx hb dX6_rounded_135 rfl (lv_at hl 4 rfl) ?_
            refine iv_get (v' := .ref (ad 10 1)) hx hb hts inX6 hown hK hh.1 (ob_Model) rfl 0 (by decide) (hts _ q3_160) rfl rfl rfl dX6_rounded_136 ?_
            refine lv_bipush (v := hI 6) hx hb dX6_rounded_139 (by decide) ?_
            refine iv_iald hx hb hK hh.1 (ia_10_1) ⟨by decide, by decide⟩ (v := (P 1 6)) (congrArg (fun z => z 1 6) hP) dX6_rounded_141 ?_
            have hm27 : hIn (P 1 6) := hIn_rd hh.2.1 hP (by decide)
            refine lv_goto (tgt := 147) hx hb dX6_rounded_142 (by decide) ?_
            refine iv_iadd hx hb dX6_rounded_147 ?_
            obtain ⟨g28, h⟩ := h
            exact iv_iret E hh (by unfold v_X6_rounded; rw [if_neg c7, if_neg c8, if_pos c9, if_neg c12, if_pos c25]) (by rw [← show (((P 5 (stem - 1)) + (P 6 (stem - 1))) + (P 1 6)) = v_X6_rounded P glyph stem size from (by unfold v_X6_rounded; rw [if_neg c7, if_neg c8, if_pos c9, if_neg c12, if_pos c25])]; exact g28) rfl dX6_rounded_148
    · have h := h.1 c8
      refine lv_iload hx hb dX6_rounded_62 (lv_at hl 2 rfl) ?_
      refine lv_iload hx hb dX6_rounded_64 (lv_at hl 1 rfl) ?_
      refine iv_iadd hx hb dX6_rounded_66 ?_
      refine lv_iload_n hx hb dX6_rounded_67 rfl (lv_at hl 6 rfl) ?_
      obtain ⟨g29, h⟩ := h
      obtain ⟨g30, h⟩ := h
      refine iv_ki (iv_rS (As := [.int (hI ((v_X6_ofStem P glyph stem 0) + (v_X6_ofStem P glyph stem 1))), .int (hI size)]) (rest := []) E hh (ok_X6_inPixels l hinj S ((v_X6_ofStem P glyph stem 0) + (v_X6_ofStem P glyph stem 1)) size g29 h_size g30) cb_X6_inPixels q4_76 rfl rfl ⟨Nat.le_of_ble_eq_true rfl, Nat.le_of_ble_eq_true rfl⟩ rfl hl.1 rfl (Nat.le_of_ble_eq_true rfl) dX6_rounded_68 ⟨Nat.zero_le _, Nat.zero_le _⟩) hh (fun hc31 H locs hh => ?_)
      refine lv_aload_n hx hb dX6_rounded_71 rfl (lv_at hl 3 rfl) ?_
      refine iv_get (v' := .ref (ad 10 6)) hx hb hts inX6 hown hK hh.1 (ob_Model) rfl 8 (by decide) (hts _ q3_168) rfl rfl rfl dX6_rounded_72 ?_
      refine lv_iload_n hx hb dX6_rounded_75 rfl (lv_at hl 5 rfl) ?_
      obtain ⟨g32, h⟩ := h
      refine iv_iald hx hb hK hh.1 (ia_10_6) g32 (v := (P 6 stem)) (congrArg (fun z => z 6 stem) hP) dX6_rounded_76 ?_
      have hm33 : hIn (P 6 stem) := hIn_rd hh.2.1 hP (by decide)
      refine iv_isub hx hb dX6_rounded_77 ?_
      obtain ⟨g34, h⟩ := h
      exact iv_iret E hh (by unfold v_X6_rounded; rw [if_neg c7, if_pos c8]) (by rw [← show ((v_X6_inPixels ((v_X6_ofStem P glyph stem 0) + (v_X6_ofStem P glyph stem 1)) size) - (P 6 stem)) = v_X6_rounded P glyph stem size from (by unfold v_X6_rounded; rw [if_neg c7, if_pos c8])]; exact g34) rfl dX6_rounded_78
  · have h := h.1 c7
    refine iv_iconst hx hb dX6_rounded_33 ?_
    refine lv_iload hx hb dX6_rounded_34 (lv_at hl 2 rfl) ?_
    refine iv_imul hx hb dX6_rounded_36 ?_
    refine lv_iload hx hb dX6_rounded_37 (lv_at hl 1 rfl) ?_
    refine iv_iadd hx hb dX6_rounded_39 ?_
    refine lv_iload_n hx hb dX6_rounded_40 rfl (lv_at hl 6 rfl) ?_
    obtain ⟨g35, h⟩ := h
    obtain ⟨g36, h⟩ := h
    refine iv_ki (iv_rS (As := [.int (hI ((2 * (v_X6_ofStem P glyph stem 0)) + (v_X6_ofStem P glyph stem 1))), .int (hI size)]) (rest := []) E hh (ok_X6_inPixels l hinj S ((2 * (v_X6_ofStem P glyph stem 0)) + (v_X6_ofStem P glyph stem 1)) size g35 h_size g36) cb_X6_inPixels q4_76 rfl rfl ⟨Nat.le_of_ble_eq_true rfl, Nat.le_of_ble_eq_true rfl⟩ rfl hl.1 rfl (Nat.le_of_ble_eq_true rfl) dX6_rounded_41 ⟨Nat.zero_le _, Nat.zero_le _⟩) hh (fun hc37 H locs hh => ?_)
    refine lv_aload_n hx hb dX6_rounded_44 rfl (lv_at hl 3 rfl) ?_
    refine iv_get (v' := .ref (ad 10 6)) hx hb hts inX6 hown hK hh.1 (ob_Model) rfl 8 (by decide) (hts _ q3_168) rfl rfl rfl dX6_rounded_45 ?_
    refine lv_iload_n hx hb dX6_rounded_48 rfl (lv_at hl 5 rfl) ?_
    obtain ⟨g38, h⟩ := h
    refine iv_iald hx hb hK hh.1 (ia_10_6) g38 (v := (P 6 stem)) (congrArg (fun z => z 6 stem) hP) dX6_rounded_49 ?_
    have hm39 : hIn (P 6 stem) := hIn_rd hh.2.1 hP (by decide)
    refine iv_isub hx hb dX6_rounded_50 ?_
    refine iv_iconst hx hb dX6_rounded_51 ?_
    obtain ⟨g40, h⟩ := h
    obtain ⟨g41, h⟩ := h
    refine iv_ki (iv_rS (As := [.int (hI ((v_X6_inPixels ((2 * (v_X6_ofStem P glyph stem 0)) + (v_X6_ofStem P glyph stem 1)) size) - (P 6 stem))), .int (hI 2)]) (rest := []) E hh (ok_X6_floor l hinj S ((v_X6_inPixels ((2 * (v_X6_ofStem P glyph stem 0)) + (v_X6_ofStem P glyph stem 1)) size) - (P 6 stem)) 2 g40 ⟨by decide, by decide⟩ g41) cb_X6_floor q4_83 rfl rfl ⟨Nat.le_of_ble_eq_true rfl, Nat.le_of_ble_eq_true rfl⟩ rfl hl.1 rfl (Nat.le_of_ble_eq_true rfl) dX6_rounded_52 ⟨Nat.zero_le _, Nat.zero_le _⟩) hh (fun hc42 H locs hh => ?_)
    exact iv_iret E hh (by unfold v_X6_rounded; rw [if_pos c7]) (by rw [← show (v_X6_floor ((v_X6_inPixels ((2 * (v_X6_ofStem P glyph stem 0)) + (v_X6_ofStem P glyph stem 1)) size) - (P 6 stem)) 2) = v_X6_rounded P glyph stem size from (by unfold v_X6_rounded; rw [if_pos c7])]; exact hc42) rfl dX6_rounded_55
set_option maxHeartbeats 4000000 in
set_option maxRecDepth 100000 in
theorem ok_X6_lays (l : Launch) (hinj : hInj ad) (S : hS) (P : hGM) (hP : S 10 = P) (glyph : Int) (size : Int) (h_glyph : hIn glyph) (h_size : hIn size) (hp : p_X6_lays P glyph size) : hMv D ad cI cJ cF l yX6_lays cX6_lays 6 ({ frames := 4, cells := 0, slots := 0, locals := 94 } : Room) [.ref (ad 10 0), .int (hI glyph), .int (hI size)] S (gset S 10 (m_X6_lays P glyph size)) := by
  refine hOf (S := S) l hinj (by decide +kernel) (Nat.le_of_ble_eq_true rfl) (fun p e s m args below meth c E => ?_)
  obtain ⟨hx, hb, hml, hown, hts, hK, hN, -, hr, hlk⟩ := id E
  have hown : s.vm.findClass RX6 = some m.cls := hown
  have r7 : ∀ (y3 : Int) (P1 : hGM), hIn y3 → ((∀ (i : Nat) (k : Int), i < 100 → hIn (P1 i k)) → (p_X6_of P1 glyph 1 ∧ ((y3 < (v_X6_of P1 glyph 1) → (p_X6_pixelsOf P1 glyph y3 size ∧ ((0 ≤ y3 ∧ y3 < 6) ∧ (p_X6_rounded (aset P1 6 y3 (v_X6_pixelsOf P1 glyph y3 size)) glyph y3 size ∧ (hAt D ad cI cJ cF p l e ({ frames := 4, cells := 0, slots := 0, locals := 94 } : Room) s m args below meth c (MQ below (hQv D ad cI cJ cF (gset S 10 (m_X6_lays P glyph size))) args s 0 0 (hAd ad)) 6 43 [(0, .ref (ad 10 0)), (1, .int (hI glyph)), (2, .int (hI size)), (3, .int (hI y3))] (gset S 10 (aset (aset P1 6 y3 (v_X6_pixelsOf P1 glyph y3 size)) 5 y3 (v_X6_rounded (aset P1 6 y3 (v_X6_pixelsOf P1 glyph y3 size)) glyph y3 size)))))))) ∧ (¬ y3 < (v_X6_of P1 glyph 1) → (P1 = m_X6_lays P glyph size))))) → (hAt D ad cI cJ cF p l e ({ frames := 4, cells := 0, slots := 0, locals := 94 } : Room) s m args below meth c (MQ below (hQv D ad cI cJ cF (gset S 10 (m_X6_lays P glyph size))) args s 0 0 (hAd ad)) 6 7 [(0, .ref (ad 10 0)), (1, .int (hI glyph)), (2, .int (hI size)), (3, .int (hI y3))] (gset S 10 P1)) := by
    intro y3 P1 h_y3 h H locs ls hh hl
    have h := h (fun i k hi => hIn_rd hh.2.1 (gset_at _ _ _) hi)
    refine lv_iload_n hx hb dX6_lays_7 rfl (lv_at hl 3 rfl) ?_
    refine lv_aload_n hx hb dX6_lays_8 rfl (lv_at hl 0 rfl) ?_
    refine lv_iload_n hx hb dX6_lays_9 rfl (lv_at hl 1 rfl) ?_
    refine iv_iconst hx hb dX6_lays_10 ?_
    obtain ⟨g1, h⟩ := h
    refine iv_ki (iv_rV (As := [.int (hI glyph), .int (hI 1)]) (rest := [.int (hI y3)]) E hh (ok_X6_of l hinj (gset S 10 P1) P1 (gset_at _ _ _) glyph 1 h_glyph ⟨by decide, by decide⟩ g1) cb_X6_of q3_237 rfl rfl ⟨Nat.le_of_ble_eq_true rfl, Nat.le_of_ble_eq_true rfl⟩ (ob_Model) rfl rfl rfl hl.1 rfl (Nat.le_of_ble_eq_true rfl) dX6_lays_11 ⟨Nat.zero_le _, Nat.zero_le _⟩) hh (fun hc2 H locs hh => ?_)
    refine iv_icmp_ge (tgt := 156) hx hb h_y3 hc2 dX6_lays_14 (by decide) (fun c3 => ?_) (fun c3 => ?_)
    · have h := h.2 c3
      exact iv_vret E hh (by rw [← h]) dX6_lays_156
    · have h := h.1 c3
      refine lv_aload_n hx hb dX6_lays_17 rfl (lv_at hl 0 rfl) ?_
      refine iv_get (v' := .ref (ad 10 6)) hx hb hts inX6 hown hK hh.1 (ob_Model) rfl 8 (by decide) (hts _ q3_168) rfl rfl rfl dX6_lays_18 ?_
      refine lv_iload_n hx hb dX6_lays_21 rfl (lv_at hl 3 rfl) ?_
      refine lv_aload_n hx hb dX6_lays_22 rfl (lv_at hl 0 rfl) ?_
      refine lv_iload_n hx hb dX6_lays_23 rfl (lv_at hl 1 rfl) ?_
      refine lv_iload_n hx hb dX6_lays_24 rfl (lv_at hl 3 rfl) ?_
      refine lv_iload_n hx hb dX6_lays_25 rfl (lv_at hl 2 rfl) ?_
      obtain ⟨g4, h⟩ := h
      refine iv_ki (iv_rV (As := [.int (hI glyph), .int (hI y3), .int (hI size)]) (rest := [.int (hI y3), .ref (ad 10 6)]) E hh (ok_X6_pixelsOf l hinj (gset S 10 P1) P1 (gset_at _ _ _) glyph y3 size h_glyph h_y3 h_size g4) cb_X6_pixelsOf q4_68 rfl rfl ⟨Nat.le_of_ble_eq_true rfl, Nat.le_of_ble_eq_true rfl⟩ (ob_Model) rfl rfl rfl hl.1 rfl (Nat.le_of_ble_eq_true rfl) dX6_lays_26 ⟨Nat.zero_le _, Nat.zero_le _⟩) hh (fun hc5 H locs hh => ?_)
      obtain ⟨g6, h⟩ := h
      refine iv_iast (S' := (gset S 10 (aset P1 6 y3 (v_X6_pixelsOf P1 glyph y3 size)))) hx hb hK hinj hh (ia_10_6) g6 hc5 (by rw [show (gset S 10 P1) 10 = P1 from (gset_at _ _ _)]; exact (gset_gset _ _ _ _)) dX6_lays_29 (fun H locs hh => ?_)
      refine lv_aload_n hx hb dX6_lays_30 rfl (lv_at hl 0 rfl) ?_
      refine iv_get (v' := .ref (ad 10 5)) hx hb hts inX6 hown hK hh.1 (ob_Model) rfl 7 (by decide) (hts _ q3_167) rfl rfl rfl dX6_lays_31 ?_
      refine lv_iload_n hx hb dX6_lays_34 rfl (lv_at hl 3 rfl) ?_
      refine lv_aload_n hx hb dX6_lays_35 rfl (lv_at hl 0 rfl) ?_
      refine lv_iload_n hx hb dX6_lays_36 rfl (lv_at hl 1 rfl) ?_
      refine lv_iload_n hx hb dX6_lays_37 rfl (lv_at hl 3 rfl) ?_
      refine lv_iload_n hx hb dX6_lays_38 rfl (lv_at hl 2 rfl) ?_
      obtain ⟨g7, h⟩ := h
      refine iv_ki (iv_rV (As := [.int (hI glyph), .int (hI y3), .int (hI size)]) (rest := [.int (hI y3), .ref (ad 10 5)]) E hh (ok_X6_rounded l hinj (gset S 10 (aset P1 6 y3 (v_X6_pixelsOf P1 glyph y3 size))) (aset P1 6 y3 (v_X6_pixelsOf P1 glyph y3 size)) (gset_at _ _ _) glyph y3 size h_glyph h_y3 h_size g7) cb_X6_rounded q4_79 rfl rfl ⟨Nat.le_of_ble_eq_true rfl, Nat.le_of_ble_eq_true rfl⟩ (ob_Model) rfl rfl rfl hl.1 rfl (Nat.le_of_ble_eq_true rfl) dX6_lays_39 ⟨Nat.zero_le _, Nat.zero_le _⟩) hh (fun hc8 H locs hh => ?_)
      refine iv_iast (S' := (gset S 10 (aset (aset P1 6 y3 (v_X6_pixelsOf P1 glyph y3 size)) 5 y3 (v_X6_rounded (aset P1 6 y3 (v_X6_pixelsOf P1 glyph y3 size)) glyph y3 size)))) hx hb hK hinj hh (ia_10_5) g6 hc8 (by rw [show (gset S 10 (aset P1 6 y3 (v_X6_pixelsOf P1 glyph y3 size))) 10 = (aset P1 6 y3 (v_X6_pixelsOf P1 glyph y3 size)) from (gset_at _ _ _)]; exact (gset_gset _ _ _ _)) dX6_lays_42 (fun H locs hh => ?_)
      exact h H _ ls hh (lv_sub hl [0, 1, 2, 3] rfl)
  have r43 : ∀ (y3 : Int) (P1 : hGM), hIn y3 → ((∀ (i : Nat) (k : Int), i < 100 → hIn (P1 i k)) → ((y3 ≤ 0 → (hAt D ad cI cJ cF p l e ({ frames := 4, cells := 0, slots := 0, locals := 94 } : Room) s m args below meth c (MQ below (hQv D ad cI cJ cF (gset S 10 (m_X6_lays P glyph size))) args s 0 0 (hAd ad)) 6 150 [(0, .ref (ad 10 0)), (1, .int (hI glyph)), (2, .int (hI size)), (3, .int (hI y3))] (gset S 10 P1))) ∧ (¬ y3 ≤ 0 → (p_X6_ofStem P1 glyph y3 0 ∧ (hIn (y3 - 1) ∧ (p_X6_endOf P1 glyph (y3 - 1) ∧ ((0 ≤ (y3 - 1) ∧ (y3 - 1) < 6) ∧ (hIn ((v_X6_ofStem P1 glyph y3 0) - (v_X6_endOf P1 glyph (y3 - 1))) ∧ ((((v_X6_ofStem P1 glyph y3 0) - (v_X6_endOf P1 glyph (y3 - 1))) ≤ 0 → (hAt D ad cI cJ cF p l e ({ frames := 4, cells := 0, slots := 0, locals := 94 } : Room) s m args below meth c (MQ below (hQv D ad cI cJ cF (gset S 10 (m_X6_lays P glyph size))) args s 0 0 (hAd ad)) 6 95 [(0, .ref (ad 10 0)), (1, .int (hI glyph)), (2, .int (hI size)), (3, .int (hI y3)), (5, .int (hI (((P1 5 (y3 - 1)) + (P1 6 (y3 - 1))) + 0)))] (gset S 10 P1))) ∧ (¬ ((v_X6_ofStem P1 glyph y3 0) - (v_X6_endOf P1 glyph (y3 - 1))) ≤ 0 → (hAt D ad cI cJ cF p l e ({ frames := 4, cells := 0, slots := 0, locals := 94 } : Room) s m args below meth c (MQ below (hQv D ad cI cJ cF (gset S 10 (m_X6_lays P glyph size))) args s 0 0 (hAd ad)) 6 95 [(0, .ref (ad 10 0)), (1, .int (hI glyph)), (2, .int (hI size)), (3, .int (hI y3)), (5, .int (hI (((P1 5 (y3 - 1)) + (P1 6 (y3 - 1))) + 1)))] (gset S 10 P1)))))))))))) → (hAt D ad cI cJ cF p l e ({ frames := 4, cells := 0, slots := 0, locals := 94 } : Room) s m args below meth c (MQ below (hQv D ad cI cJ cF (gset S 10 (m_X6_lays P glyph size))) args s 0 0 (hAd ad)) 6 43 [(0, .ref (ad 10 0)), (1, .int (hI glyph)), (2, .int (hI size)), (3, .int (hI y3))] (gset S 10 P1)) := by
    intro y3 P1 h_y3 h H locs ls hh hl
    have h := h (fun i k hi => hIn_rd hh.2.1 (gset_at _ _ _) hi)
    refine lv_iload_n hx hb dX6_lays_43 rfl (lv_at hl 3 rfl) ?_
    refine iv_if_le (tgt := 150) hx hb h_y3 dX6_lays_44 (by decide) (fun c9 => ?_) (fun c9 => ?_)
    · have h := h.1 c9
      exact h H _ ls hh (lv_sub hl [0, 1, 2, 3] rfl)
    · have h := h.2 c9
      refine lv_aload_n hx hb dX6_lays_47 rfl (lv_at hl 0 rfl) ?_
      refine lv_iload_n hx hb dX6_lays_48 rfl (lv_at hl 1 rfl) ?_
      refine lv_iload_n hx hb dX6_lays_49 rfl (lv_at hl 3 rfl) ?_
      refine iv_iconst hx hb dX6_lays_50 ?_
      obtain ⟨g10, h⟩ := h
      refine iv_ki (iv_rV (As := [.int (hI glyph), .int (hI y3), .int (hI 0)]) (rest := []) E hh (ok_X6_ofStem l hinj (gset S 10 P1) P1 (gset_at _ _ _) glyph y3 0 h_glyph h_y3 ⟨by decide, by decide⟩ g10) cb_X6_ofStem q4_1 rfl rfl ⟨Nat.le_of_ble_eq_true rfl, Nat.le_of_ble_eq_true rfl⟩ (ob_Model) rfl rfl rfl hl.1 rfl (Nat.le_of_ble_eq_true rfl) dX6_lays_51 ⟨Nat.zero_le _, Nat.zero_le _⟩) hh (fun hc11 H locs hh => ?_)
      refine lv_aload_n hx hb dX6_lays_54 rfl (lv_at hl 0 rfl) ?_
      refine lv_iload_n hx hb dX6_lays_55 rfl (lv_at hl 1 rfl) ?_
      refine lv_iload_n hx hb dX6_lays_56 rfl (lv_at hl 3 rfl) ?_
      refine iv_iconst hx hb dX6_lays_57 ?_
      refine iv_isub hx hb dX6_lays_58 ?_
      obtain ⟨g12, h⟩ := h
      obtain ⟨g13, h⟩ := h
      refine iv_ki (iv_rV (As := [.int (hI glyph), .int (hI (y3 - 1))]) (rest := [.int (hI (v_X6_ofStem P1 glyph y3 0))]) E hh (ok_X6_endOf l hinj (gset S 10 P1) P1 (gset_at _ _ _) glyph (y3 - 1) h_glyph g12 g13) cb_X6_endOf q4_8 rfl rfl ⟨Nat.le_of_ble_eq_true rfl, Nat.le_of_ble_eq_true rfl⟩ (ob_Model) rfl rfl rfl hl.1 rfl (Nat.le_of_ble_eq_true rfl) dX6_lays_59 ⟨Nat.zero_le _, Nat.zero_le _⟩) hh (fun hc14 H locs hh => ?_)
      refine iv_isub hx hb dX6_lays_62 ?_
      refine lv_istore (lv' := [(4, .int (hI ((v_X6_ofStem P1 glyph y3 0) - (v_X6_endOf P1 glyph (y3 - 1))))), (0, .ref (ad 10 0)), (1, .int (hI glyph)), (2, .int (hI size)), (3, .int (hI y3))]) hx hb dX6_lays_63 hl (by decide) rfl (fun ls hl => ?_)
      refine lv_aload_n hx hb dX6_lays_65 rfl (lv_at hl 1 rfl) ?_
      refine iv_get (v' := .ref (ad 10 5)) hx hb hts inX6 hown hK hh.1 (ob_Model) rfl 7 (by decide) (hts _ q3_167) rfl rfl rfl dX6_lays_66 ?_
      refine lv_iload_n hx hb dX6_lays_69 rfl (lv_at hl 4 rfl) ?_
      refine iv_iconst hx hb dX6_lays_70 ?_
      refine iv_isub hx hb dX6_lays_71 ?_
      obtain ⟨g15, h⟩ := h
      refine iv_iald hx hb hK hh.1 (ia_10_5) g15 (v := (P1 5 (y3 - 1))) (congrArg (fun z => z 5 (y3 - 1)) (gset_at _ _ _)) dX6_lays_72 ?_
      have hm16 : hIn (P1 5 (y3 - 1)) := hIn_rd hh.2.1 (gset_at _ _ _) (by decide)
      refine lv_aload_n hx hb dX6_lays_73 rfl (lv_at hl 1 rfl) ?_
      refine iv_get (v' := .ref (ad 10 6)) hx hb hts inX6 hown hK hh.1 (ob_Model) rfl 8 (by decide) (hts _ q3_168) rfl rfl rfl dX6_lays_74 ?_
      refine lv_iload_n hx hb dX6_lays_77 rfl (lv_at hl 4 rfl) ?_
      refine iv_iconst hx hb dX6_lays_78 ?_
      refine iv_isub hx hb dX6_lays_79 ?_
      refine iv_iald hx hb hK hh.1 (ia_10_6) g15 (v := (P1 6 (y3 - 1))) (congrArg (fun z => z 6 (y3 - 1)) (gset_at _ _ _)) dX6_lays_80 ?_
      have hm17 : hIn (P1 6 (y3 - 1)) := hIn_rd hh.2.1 (gset_at _ _ _) (by decide)
      refine iv_iadd hx hb dX6_lays_81 ?_
      refine lv_iload hx hb dX6_lays_82 (lv_at hl 0 rfl) ?_
      obtain ⟨g18, h⟩ := h
      refine iv_if_le (tgt := 91) hx hb g18 dX6_lays_84 (by decide) (fun c19 => ?_) (fun c19 => ?_)
      · have h := h.1 c19
        refine iv_iconst hx hb dX6_lays_91 ?_
        refine iv_iadd hx hb dX6_lays_92 ?_
        refine lv_istore (lv' := [(5, .int (hI (((P1 5 (y3 - 1)) + (P1 6 (y3 - 1))) + 0))), (4, .int (hI ((v_X6_ofStem P1 glyph y3 0) - (v_X6_endOf P1 glyph (y3 - 1))))), (0, .ref (ad 10 0)), (1, .int (hI glyph)), (2, .int (hI size)), (3, .int (hI y3))]) hx hb dX6_lays_93 hl (by decide) rfl (fun ls hl => ?_)
        exact h H _ ls hh (lv_sub hl [2, 3, 4, 5, 0] rfl)
      · have h := h.2 c19
        refine iv_iconst hx hb dX6_lays_87 ?_
        refine lv_goto (tgt := 92) hx hb dX6_lays_88 (by decide) ?_
        refine iv_iadd hx hb dX6_lays_92 ?_
        refine lv_istore (lv' := [(5, .int (hI (((P1 5 (y3 - 1)) + (P1 6 (y3 - 1))) + 1))), (4, .int (hI ((v_X6_ofStem P1 glyph y3 0) - (v_X6_endOf P1 glyph (y3 - 1))))), (0, .ref (ad 10 0)), (1, .int (hI glyph)), (2, .int (hI size)), (3, .int (hI y3))]) hx hb dX6_lays_93 hl (by decide) rfl (fun ls hl => ?_)
        exact h H _ ls hh (lv_sub hl [2, 3, 4, 5, 0] rfl)
  have r95 : ∀ (y3 : Int) (y5 : Int) (P1 : hGM), hIn y3 → hIn y5 → ((∀ (i : Nat) (k : Int), i < 100 → hIn (P1 i k)) → ((0 ≤ y3 ∧ y3 < 6) ∧ (((P1 5 y3) < y5 → (hAt D ad cI cJ cF p l e ({ frames := 4, cells := 0, slots := 0, locals := 94 } : Room) s m args below meth c (MQ below (hQv D ad cI cJ cF (gset S 10 (m_X6_lays P glyph size))) args s 0 0 (hAd ad)) 6 122 [(0, .ref (ad 10 0)), (1, .int (hI glyph)), (2, .int (hI size)), (3, .int (hI y3)), (5, .int (hI y5))] (gset S 10 (aset P1 0 9 (iOr (P1 0 9) (iShl 1 y3)))))) ∧ (¬ (P1 5 y3) < y5 → (hAt D ad cI cJ cF p l e ({ frames := 4, cells := 0, slots := 0, locals := 94 } : Room) s m args below meth c (MQ below (hQv D ad cI cJ cF (gset S 10 (m_X6_lays P glyph size))) args s 0 0 (hAd ad)) 6 122 [(0, .ref (ad 10 0)), (1, .int (hI glyph)), (2, .int (hI size)), (3, .int (hI y3)), (5, .int (hI y5))] (gset S 10 (aset P1 0 9 (iOr (P1 0 9) 0)))))))) → (hAt D ad cI cJ cF p l e ({ frames := 4, cells := 0, slots := 0, locals := 94 } : Room) s m args below meth c (MQ below (hQv D ad cI cJ cF (gset S 10 (m_X6_lays P glyph size))) args s 0 0 (hAd ad)) 6 95 [(0, .ref (ad 10 0)), (1, .int (hI glyph)), (2, .int (hI size)), (3, .int (hI y3)), (5, .int (hI y5))] (gset S 10 P1)) := by
    intro y3 y5 P1 h_y3 h_y5 h H locs ls hh hl
    have h := h (fun i k hi => hIn_rd hh.2.1 (gset_at _ _ _) hi)
    refine lv_aload_n hx hb dX6_lays_95 rfl (lv_at hl 0 rfl) ?_
    refine lv_dup hx hb dX6_lays_96 rfl ?_
    refine iv_get (v' := .int (hI (P1 0 9))) hx hb hts inX6 hown hK hh.1 (ob_Model) rfl 9 (by decide) (hts _ q3_169) rfl rfl (congrArg (fun z => Value.int (hI (z 0 9))) (gset_at _ _ _)) dX6_lays_97 ?_
    have hm20 : hIn (P1 0 9) := hIn_rd hh.2.1 (gset_at _ _ _) (by decide)
    refine lv_aload_n hx hb dX6_lays_100 rfl (lv_at hl 0 rfl) ?_
    refine iv_get (v' := .ref (ad 10 5)) hx hb hts inX6 hown hK hh.1 (ob_Model) rfl 7 (by decide) (hts _ q3_167) rfl rfl rfl dX6_lays_101 ?_
    refine lv_iload_n hx hb dX6_lays_104 rfl (lv_at hl 3 rfl) ?_
    obtain ⟨g21, h⟩ := h
    refine iv_iald hx hb hK hh.1 (ia_10_5) g21 (v := (P1 5 y3)) (congrArg (fun z => z 5 y3) (gset_at _ _ _)) dX6_lays_105 ?_
    have hm22 : hIn (P1 5 y3) := hIn_rd hh.2.1 (gset_at _ _ _) (by decide)
    refine lv_iload hx hb dX6_lays_106 (lv_at hl 4 rfl) ?_
    refine iv_icmp_ge (tgt := 117) hx hb hm22 h_y5 dX6_lays_108 (by decide) (fun c23 => ?_) (fun c23 => ?_)
    · have h := h.2 c23
      refine iv_iconst hx hb dX6_lays_117 ?_
      refine iv_ior hx hb dX6_lays_118 ?_
      refine iv_put (S' := (gset S 10 (aset P1 0 9 (iOr (P1 0 9) 0)))) (ty := .int) hx hb hts inX6 tyX6 tyX6_ok nmX6 hown hK hinj hh (by decide) un_Model (Or.inl rfl) (ob_Model) rfl 9 (by decide) (hts _ q3_169) rfl rfl (by decide +kernel) rfl rfl (Nat.le_of_ble_eq_true rfl) (pu_Model_pushed) (Or.inl (hIn_toInt _)) (by rw [show (gset S 10 P1) 10 = P1 from (gset_at _ _ _)]; exact (gset_gset _ _ _ _)) dX6_lays_119 (fun H locs hh => ?_)
      exact h H _ ls hh (lv_sub hl [0, 1, 2, 3, 4] rfl)
    · have h := h.1 c23
      refine iv_iconst hx hb dX6_lays_111 ?_
      refine lv_iload_n hx hb dX6_lays_112 rfl (lv_at hl 3 rfl) ?_
      refine iv_ishl hx hb dX6_lays_113 ?_
      refine lv_goto (tgt := 118) hx hb dX6_lays_114 (by decide) ?_
      refine iv_ior hx hb dX6_lays_118 ?_
      refine iv_put (S' := (gset S 10 (aset P1 0 9 (iOr (P1 0 9) (iShl 1 y3))))) (ty := .int) hx hb hts inX6 tyX6 tyX6_ok nmX6 hown hK hinj hh (by decide) un_Model (Or.inl rfl) (ob_Model) rfl 9 (by decide) (hts _ q3_169) rfl rfl (by decide +kernel) rfl rfl (Nat.le_of_ble_eq_true rfl) (pu_Model_pushed) (Or.inl (hIn_toInt _)) (by rw [show (gset S 10 P1) 10 = P1 from (gset_at _ _ _)]; exact (gset_gset _ _ _ _)) dX6_lays_119 (fun H locs hh => ?_)
      exact h H _ ls hh (lv_sub hl [0, 1, 2, 3, 4] rfl)
  have r122 : ∀ (y3 : Int) (y5 : Int) (P1 : hGM), hIn y3 → hIn y5 → ((∀ (i : Nat) (k : Int), i < 100 → hIn (P1 i k)) → ((0 ≤ y3 ∧ y3 < 6) ∧ (((P1 5 y3) < y5 → (hAt D ad cI cJ cF p l e ({ frames := 4, cells := 0, slots := 0, locals := 94 } : Room) s m args below meth c (MQ below (hQv D ad cI cJ cF (gset S 10 (m_X6_lays P glyph size))) args s 0 0 (hAd ad)) 6 150 [(0, .ref (ad 10 0)), (1, .int (hI glyph)), (2, .int (hI size)), (3, .int (hI y3))] (gset S 10 (aset P1 5 y3 y5)))) ∧ (¬ (P1 5 y3) < y5 → (hAt D ad cI cJ cF p l e ({ frames := 4, cells := 0, slots := 0, locals := 94 } : Room) s m args below meth c (MQ below (hQv D ad cI cJ cF (gset S 10 (m_X6_lays P glyph size))) args s 0 0 (hAd ad)) 6 150 [(0, .ref (ad 10 0)), (1, .int (hI glyph)), (2, .int (hI size)), (3, .int (hI y3))] (gset S 10 (aset P1 5 y3 (P1 5 y3)))))))) → (hAt D ad cI cJ cF p l e ({ frames := 4, cells := 0, slots := 0, locals := 94 } : Room) s m args below meth c (MQ below (hQv D ad cI cJ cF (gset S 10 (m_X6_lays P glyph size))) args s 0 0 (hAd ad)) 6 122 [(0, .ref (ad 10 0)), (1, .int (hI glyph)), (2, .int (hI size)), (3, .int (hI y3)), (5, .int (hI y5))] (gset S 10 P1)) := by
    intro y3 y5 P1 h_y3 h_y5 h H locs ls hh hl
    have h := h (fun i k hi => hIn_rd hh.2.1 (gset_at _ _ _) hi)
    refine lv_aload_n hx hb dX6_lays_122 rfl (lv_at hl 0 rfl) ?_
    refine iv_get (v' := .ref (ad 10 5)) hx hb hts inX6 hown hK hh.1 (ob_Model) rfl 7 (by decide) (hts _ q3_167) rfl rfl rfl dX6_lays_123 ?_
    refine lv_iload_n hx hb dX6_lays_126 rfl (lv_at hl 3 rfl) ?_
    refine lv_aload_n hx hb dX6_lays_127 rfl (lv_at hl 0 rfl) ?_
    refine iv_get (v' := .ref (ad 10 5)) hx hb hts inX6 hown hK hh.1 (ob_Model) rfl 7 (by decide) (hts _ q3_167) rfl rfl rfl dX6_lays_128 ?_
    refine lv_iload_n hx hb dX6_lays_131 rfl (lv_at hl 3 rfl) ?_
    obtain ⟨g24, h⟩ := h
    refine iv_iald hx hb hK hh.1 (ia_10_5) g24 (v := (P1 5 y3)) (congrArg (fun z => z 5 y3) (gset_at _ _ _)) dX6_lays_132 ?_
    have hm25 : hIn (P1 5 y3) := hIn_rd hh.2.1 (gset_at _ _ _) (by decide)
    refine lv_iload hx hb dX6_lays_133 (lv_at hl 4 rfl) ?_
    refine iv_icmp_ge (tgt := 143) hx hb hm25 h_y5 dX6_lays_135 (by decide) (fun c26 => ?_) (fun c26 => ?_)
    · have h := h.2 c26
      refine lv_aload_n hx hb dX6_lays_143 rfl (lv_at hl 0 rfl) ?_
      refine iv_get (v' := .ref (ad 10 5)) hx hb hts inX6 hown hK hh.1 (ob_Model) rfl 7 (by decide) (hts _ q3_167) rfl rfl rfl dX6_lays_144 ?_
      refine lv_iload_n hx hb dX6_lays_147 rfl (lv_at hl 3 rfl) ?_
      refine iv_iald hx hb hK hh.1 (ia_10_5) g24 (v := (P1 5 y3)) (congrArg (fun z => z 5 y3) (gset_at _ _ _)) dX6_lays_148 ?_
      have hm27 : hIn (P1 5 y3) := hIn_rd hh.2.1 (gset_at _ _ _) (by decide)
      refine iv_iast (S' := (gset S 10 (aset P1 5 y3 (P1 5 y3)))) hx hb hK hinj hh (ia_10_5) g24 hm27 (by rw [show (gset S 10 P1) 10 = P1 from (gset_at _ _ _)]; exact (gset_gset _ _ _ _)) dX6_lays_149 (fun H locs hh => ?_)
      exact h H _ ls hh (lv_sub hl [0, 1, 2, 3] rfl)
    · have h := h.1 c26
      refine lv_iload hx hb dX6_lays_138 (lv_at hl 4 rfl) ?_
      refine lv_goto (tgt := 149) hx hb dX6_lays_140 (by decide) ?_
      refine iv_iast (S' := (gset S 10 (aset P1 5 y3 y5))) hx hb hK hinj hh (ia_10_5) g24 h_y5 (by rw [show (gset S 10 P1) 10 = P1 from (gset_at _ _ _)]; exact (gset_gset _ _ _ _)) dX6_lays_149 (fun H locs hh => ?_)
      exact h H _ ls hh (lv_sub hl [0, 1, 2, 3] rfl)
  have r150 : ∀ (y3 : Int) (P1 : hGM), hIn y3 → ((∀ (i : Nat) (k : Int), i < 100 → hIn (P1 i k)) → (hAt D ad cI cJ cF p l e ({ frames := 4, cells := 0, slots := 0, locals := 94 } : Room) s m args below meth c (MQ below (hQv D ad cI cJ cF (gset S 10 (m_X6_lays P glyph size))) args s 0 0 (hAd ad)) 6 7 [(0, .ref (ad 10 0)), (1, .int (hI glyph)), (2, .int (hI size)), (3, .int (hI (y3 + 1)))] (gset S 10 P1))) → (hAt D ad cI cJ cF p l e ({ frames := 4, cells := 0, slots := 0, locals := 94 } : Room) s m args below meth c (MQ below (hQv D ad cI cJ cF (gset S 10 (m_X6_lays P glyph size))) args s 0 0 (hAd ad)) 6 150 [(0, .ref (ad 10 0)), (1, .int (hI glyph)), (2, .int (hI size)), (3, .int (hI y3))] (gset S 10 P1)) := by
    intro y3 P1 h_y3 h H locs ls hh hl
    have h := h (fun i k hi => hIn_rd hh.2.1 (gset_at _ _ _) hi)
    refine iv_iinc (lv' := [(3, .int (hI (y3 + 1))), (0, .ref (ad 10 0)), (1, .int (hI glyph)), (2, .int (hI size))]) hx hb dX6_lays_150 hl (k := 3) rfl (v := (y3 + 1)) rfl (by decide) rfl (fun ls hl => ?_)
    refine lv_goto (tgt := 7) hx hb dX6_lays_153 (by decide) ?_
    exact h H _ ls hh (lv_sub hl [1, 2, 3, 0] rfl)
  intro H locs ls hh hl
  have hl : lv_has ls 6 [(0, .ref (ad 10 0)), (1, .int (hI glyph)), (2, .int (hI size))] := hl
  replace hh : hH D ad cI cJ cF (gset S 10 P) s H locs := by rw [← can1 hP]; exact hh
  have h := x_X6_lays P glyph size h_glyph h_size (fun i k hi => hIn_rd hh.2.1 (gset_at _ _ _) hi) hp (fun y3 P1 => (hAt D ad cI cJ cF p l e ({ frames := 4, cells := 0, slots := 0, locals := 94 } : Room) s m args below meth c (MQ below (hQv D ad cI cJ cF (gset S 10 (m_X6_lays P glyph size))) args s 0 0 (hAd ad)) 6 7 [(0, .ref (ad 10 0)), (1, .int (hI glyph)), (2, .int (hI size)), (3, .int (hI y3))] (gset S 10 P1))) (fun y3 P1 => (hAt D ad cI cJ cF p l e ({ frames := 4, cells := 0, slots := 0, locals := 94 } : Room) s m args below meth c (MQ below (hQv D ad cI cJ cF (gset S 10 (m_X6_lays P glyph size))) args s 0 0 (hAd ad)) 6 43 [(0, .ref (ad 10 0)), (1, .int (hI glyph)), (2, .int (hI size)), (3, .int (hI y3))] (gset S 10 P1))) (fun y3 y5 P1 => (hAt D ad cI cJ cF p l e ({ frames := 4, cells := 0, slots := 0, locals := 94 } : Room) s m args below meth c (MQ below (hQv D ad cI cJ cF (gset S 10 (m_X6_lays P glyph size))) args s 0 0 (hAd ad)) 6 95 [(0, .ref (ad 10 0)), (1, .int (hI glyph)), (2, .int (hI size)), (3, .int (hI y3)), (5, .int (hI y5))] (gset S 10 P1))) (fun y3 y5 P1 => (hAt D ad cI cJ cF p l e ({ frames := 4, cells := 0, slots := 0, locals := 94 } : Room) s m args below meth c (MQ below (hQv D ad cI cJ cF (gset S 10 (m_X6_lays P glyph size))) args s 0 0 (hAd ad)) 6 122 [(0, .ref (ad 10 0)), (1, .int (hI glyph)), (2, .int (hI size)), (3, .int (hI y3)), (5, .int (hI y5))] (gset S 10 P1))) (fun y3 P1 => (hAt D ad cI cJ cF p l e ({ frames := 4, cells := 0, slots := 0, locals := 94 } : Room) s m args below meth c (MQ below (hQv D ad cI cJ cF (gset S 10 (m_X6_lays P glyph size))) args s 0 0 (hAd ad)) 6 150 [(0, .ref (ad 10 0)), (1, .int (hI glyph)), (2, .int (hI size)), (3, .int (hI y3))] (gset S 10 P1))) (fun P1 => (P1 = m_X6_lays P glyph size)) r7 r43 r95 r122 r150 rfl
  refine lv_aload_n hx hb dX6_lays_0 rfl (lv_at hl 0 rfl) ?_
  refine iv_iconst hx hb dX6_lays_1 ?_
  refine iv_put (S' := (gset S 10 (aset P 0 9 0))) (ty := .int) hx hb hts inX6 tyX6 tyX6_ok nmX6 hown hK hinj hh (by decide) un_Model (Or.inl rfl) (ob_Model) rfl 9 (by decide) (hts _ q3_169) rfl rfl (by decide +kernel) rfl rfl (Nat.le_of_ble_eq_true rfl) (pu_Model_pushed) (Or.inl ⟨by decide, by decide⟩) (by rw [show (gset S 10 P) 10 = P from (gset_at _ _ _)]; exact (gset_gset _ _ _ _)) dX6_lays_2 (fun H locs hh => ?_)
  refine iv_iconst hx hb dX6_lays_5 ?_
  refine lv_istore_n (lv' := [(3, .int (hI 0)), (0, .ref (ad 10 0)), (1, .int (hI glyph)), (2, .int (hI size))]) hx hb dX6_lays_6 rfl hl (by decide) rfl (fun ls hl => ?_)
  exact h H _ ls hh (lv_sub hl [1, 2, 3, 0] rfl)
set_option maxHeartbeats 4000000 in
set_option maxRecDepth 100000 in
theorem ok_X6_cuts (l : Launch) (hinj : hInj ad) (S : hS) (P : hGM) (hP : S 10 = P) (glyph : Int) (size : Int) (h_glyph : hIn glyph) (h_size : hIn size) (hp : p_X6_cuts P glyph size) : hMi D ad cI cJ cF l yX6_cuts cX6_cuts 5 (some .int) ({ frames := 2, cells := 0, slots := 0, locals := 45 } : Room) [.ref (ad 10 0), .int (hI glyph), .int (hI size)] S (v_X6_cuts P glyph size) S := by
  refine hOf (S := S) l hinj (by decide +kernel) (Nat.le_of_ble_eq_true rfl) (fun p e s m args below meth c E => ?_)
  obtain ⟨hx, hb, hml, hown, hts, hK, hN, -, hr, hlk⟩ := id E
  have hown : s.vm.findClass RX6 = some m.cls := hown
  have r5 : ∀ (y3 : Int) (y4 : Int), hIn y3 → hIn y4 → ((p_X6_of P glyph 1 ∧ ((y4 < (v_X6_of P glyph 1) → ((0 ≤ y4 ∧ y4 < 6) ∧ (((P 5 y4) < 0 → (hAt D ad cI cJ cF p l e ({ frames := 2, cells := 0, slots := 0, locals := 45 } : Room) s m args below meth c (MQ below (hQi D ad cI cJ cF (v_X6_cuts P glyph size) S) args s 0 0 (hAd ad)) 5 5 [(0, .ref (ad 10 0)), (1, .int (hI glyph)), (2, .int (hI size)), (3, .int (hI (iOr y3 (iShl 1 y4)))), (4, .int (hI (y4 + 1)))] S)) ∧ (¬ (P 5 y4) < 0 → (p_X6_columns P glyph size ∧ (hIn ((P 5 y4) + (P 6 y4)) ∧ ((((P 5 y4) + (P 6 y4)) ≤ (v_X6_columns P glyph size) → (hAt D ad cI cJ cF p l e ({ frames := 2, cells := 0, slots := 0, locals := 45 } : Room) s m args below meth c (MQ below (hQi D ad cI cJ cF (v_X6_cuts P glyph size) S) args s 0 0 (hAd ad)) 5 5 [(0, .ref (ad 10 0)), (1, .int (hI glyph)), (2, .int (hI size)), (3, .int (hI (iOr y3 0))), (4, .int (hI (y4 + 1)))] S)) ∧ (¬ ((P 5 y4) + (P 6 y4)) ≤ (v_X6_columns P glyph size) → (hAt D ad cI cJ cF p l e ({ frames := 2, cells := 0, slots := 0, locals := 45 } : Room) s m args below meth c (MQ below (hQi D ad cI cJ cF (v_X6_cuts P glyph size) S) args s 0 0 (hAd ad)) 5 5 [(0, .ref (ad 10 0)), (1, .int (hI glyph)), (2, .int (hI size)), (3, .int (hI (iOr y3 (iShl 1 y4)))), (4, .int (hI (y4 + 1)))] S))))))))) ∧ (¬ y4 < (v_X6_of P glyph 1) → (y3 = v_X6_cuts P glyph size))))) → (hAt D ad cI cJ cF p l e ({ frames := 2, cells := 0, slots := 0, locals := 45 } : Room) s m args below meth c (MQ below (hQi D ad cI cJ cF (v_X6_cuts P glyph size) S) args s 0 0 (hAd ad)) 5 5 [(0, .ref (ad 10 0)), (1, .int (hI glyph)), (2, .int (hI size)), (3, .int (hI y3)), (4, .int (hI y4))] S) := by
    intro y3 y4 h_y3 h_y4 h H locs ls hh hl
    refine lv_iload hx hb dX6_cuts_5 (lv_at hl 4 rfl) ?_
    refine lv_aload_n hx hb dX6_cuts_7 rfl (lv_at hl 0 rfl) ?_
    refine lv_iload_n hx hb dX6_cuts_8 rfl (lv_at hl 1 rfl) ?_
    refine iv_iconst hx hb dX6_cuts_9 ?_
    obtain ⟨g1, h⟩ := h
    refine iv_ki (iv_rV (As := [.int (hI glyph), .int (hI 1)]) (rest := [.int (hI y4)]) E hh (ok_X6_of l hinj S P hP glyph 1 h_glyph ⟨by decide, by decide⟩ g1) cb_X6_of q3_237 rfl rfl ⟨Nat.le_of_ble_eq_true rfl, Nat.le_of_ble_eq_true rfl⟩ (ob_Model) rfl rfl rfl hl.1 rfl (Nat.le_of_ble_eq_true rfl) dX6_cuts_10 ⟨Nat.zero_le _, Nat.zero_le _⟩) hh (fun hc2 H locs hh => ?_)
    refine iv_icmp_ge (tgt := 67) hx hb h_y4 hc2 dX6_cuts_13 (by decide) (fun c3 => ?_) (fun c3 => ?_)
    · have h := h.2 c3
      refine lv_iload_n hx hb dX6_cuts_67 rfl (lv_at hl 3 rfl) ?_
      exact iv_iret E hh h (by rw [← h]; exact h_y3) rfl dX6_cuts_68
    · have h := h.1 c3
      refine lv_iload_n hx hb dX6_cuts_16 rfl (lv_at hl 3 rfl) ?_
      refine lv_aload_n hx hb dX6_cuts_17 rfl (lv_at hl 0 rfl) ?_
      refine iv_get (v' := .ref (ad 10 5)) hx hb hts inX6 hown hK hh.1 (ob_Model) rfl 7 (by decide) (hts _ q3_167) rfl rfl rfl dX6_cuts_18 ?_
      refine lv_iload hx hb dX6_cuts_21 (lv_at hl 4 rfl) ?_
      obtain ⟨g4, h⟩ := h
      refine iv_iald hx hb hK hh.1 (ia_10_5) g4 (v := (P 5 y4)) (congrArg (fun z => z 5 y4) hP) dX6_cuts_23 ?_
      have hm5 : hIn (P 5 y4) := hIn_rd hh.2.1 hP (by decide)
      refine iv_if_lt (tgt := 51) hx hb hm5 dX6_cuts_24 (by decide) (fun c6 => ?_) (fun c6 => ?_)
      · have h := h.1 c6
        refine iv_iconst hx hb dX6_cuts_51 ?_
        refine lv_iload hx hb dX6_cuts_52 (lv_at hl 4 rfl) ?_
        refine iv_ishl hx hb dX6_cuts_54 ?_
        refine lv_goto (tgt := 59) hx hb dX6_cuts_55 (by decide) ?_
        refine iv_ior hx hb dX6_cuts_59 ?_
        refine lv_istore_n (lv' := [(3, .int (hI (iOr y3 (iShl 1 y4)))), (0, .ref (ad 10 0)), (1, .int (hI glyph)), (2, .int (hI size)), (4, .int (hI y4))]) hx hb dX6_cuts_60 rfl hl (by decide) rfl (fun ls hl => ?_)
        refine iv_iinc (lv' := [(4, .int (hI (y4 + 1))), (3, .int (hI (iOr y3 (iShl 1 y4)))), (0, .ref (ad 10 0)), (1, .int (hI glyph)), (2, .int (hI size))]) hx hb dX6_cuts_61 hl (k := 4) rfl (v := (y4 + 1)) rfl (by decide) rfl (fun ls hl => ?_)
        refine lv_goto (tgt := 5) hx hb dX6_cuts_64 (by decide) ?_
        exact h H _ ls hh (lv_sub hl [2, 3, 4, 1, 0] rfl)
      · have h := h.2 c6
        refine lv_aload_n hx hb dX6_cuts_27 rfl (lv_at hl 0 rfl) ?_
        refine iv_get (v' := .ref (ad 10 5)) hx hb hts inX6 hown hK hh.1 (ob_Model) rfl 7 (by decide) (hts _ q3_167) rfl rfl rfl dX6_cuts_28 ?_
        refine lv_iload hx hb dX6_cuts_31 (lv_at hl 4 rfl) ?_
        refine iv_iald hx hb hK hh.1 (ia_10_5) g4 (v := (P 5 y4)) (congrArg (fun z => z 5 y4) hP) dX6_cuts_33 ?_
        have hm7 : hIn (P 5 y4) := hIn_rd hh.2.1 hP (by decide)
        refine lv_aload_n hx hb dX6_cuts_34 rfl (lv_at hl 0 rfl) ?_
        refine iv_get (v' := .ref (ad 10 6)) hx hb hts inX6 hown hK hh.1 (ob_Model) rfl 8 (by decide) (hts _ q3_168) rfl rfl rfl dX6_cuts_35 ?_
        refine lv_iload hx hb dX6_cuts_38 (lv_at hl 4 rfl) ?_
        refine iv_iald hx hb hK hh.1 (ia_10_6) g4 (v := (P 6 y4)) (congrArg (fun z => z 6 y4) hP) dX6_cuts_40 ?_
        have hm8 : hIn (P 6 y4) := hIn_rd hh.2.1 hP (by decide)
        refine iv_iadd hx hb dX6_cuts_41 ?_
        refine lv_aload_n hx hb dX6_cuts_42 rfl (lv_at hl 0 rfl) ?_
        refine lv_iload_n hx hb dX6_cuts_43 rfl (lv_at hl 1 rfl) ?_
        refine lv_iload_n hx hb dX6_cuts_44 rfl (lv_at hl 2 rfl) ?_
        obtain ⟨g9, h⟩ := h
        refine iv_ki (iv_rV (As := [.int (hI glyph), .int (hI size)]) (rest := [.int (hI ((P 5 y4) + (P 6 y4))), .int (hI y3)]) E hh (ok_X6_columns l hinj S P hP glyph size h_glyph h_size g9) cb_X6_columns q4_86 rfl rfl ⟨Nat.le_of_ble_eq_true rfl, Nat.le_of_ble_eq_true rfl⟩ (ob_Model) rfl rfl rfl hl.1 rfl (Nat.le_of_ble_eq_true rfl) dX6_cuts_45 ⟨Nat.zero_le _, Nat.zero_le _⟩) hh (fun hc10 H locs hh => ?_)
        obtain ⟨g11, h⟩ := h
        refine iv_icmp_le (tgt := 58) hx hb g11 hc10 dX6_cuts_48 (by decide) (fun c12 => ?_) (fun c12 => ?_)
        · have h := h.1 c12
          refine iv_iconst hx hb dX6_cuts_58 ?_
          refine iv_ior hx hb dX6_cuts_59 ?_
          refine lv_istore_n (lv' := [(3, .int (hI (iOr y3 0))), (0, .ref (ad 10 0)), (1, .int (hI glyph)), (2, .int (hI size)), (4, .int (hI y4))]) hx hb dX6_cuts_60 rfl hl (by decide) rfl (fun ls hl => ?_)
          refine iv_iinc (lv' := [(4, .int (hI (y4 + 1))), (3, .int (hI (iOr y3 0))), (0, .ref (ad 10 0)), (1, .int (hI glyph)), (2, .int (hI size))]) hx hb dX6_cuts_61 hl (k := 4) rfl (v := (y4 + 1)) rfl (by decide) rfl (fun ls hl => ?_)
          refine lv_goto (tgt := 5) hx hb dX6_cuts_64 (by decide) ?_
          exact h H _ ls hh (lv_sub hl [2, 3, 4, 1, 0] rfl)
        · have h := h.2 c12
          refine iv_iconst hx hb dX6_cuts_51 ?_
          refine lv_iload hx hb dX6_cuts_52 (lv_at hl 4 rfl) ?_
          refine iv_ishl hx hb dX6_cuts_54 ?_
          refine lv_goto (tgt := 59) hx hb dX6_cuts_55 (by decide) ?_
          refine iv_ior hx hb dX6_cuts_59 ?_
          refine lv_istore_n (lv' := [(3, .int (hI (iOr y3 (iShl 1 y4)))), (0, .ref (ad 10 0)), (1, .int (hI glyph)), (2, .int (hI size)), (4, .int (hI y4))]) hx hb dX6_cuts_60 rfl hl (by decide) rfl (fun ls hl => ?_)
          refine iv_iinc (lv' := [(4, .int (hI (y4 + 1))), (3, .int (hI (iOr y3 (iShl 1 y4)))), (0, .ref (ad 10 0)), (1, .int (hI glyph)), (2, .int (hI size))]) hx hb dX6_cuts_61 hl (k := 4) rfl (v := (y4 + 1)) rfl (by decide) rfl (fun ls hl => ?_)
          refine lv_goto (tgt := 5) hx hb dX6_cuts_64 (by decide) ?_
          exact h H _ ls hh (lv_sub hl [2, 3, 4, 1, 0] rfl)
  intro H locs ls hh hl
  have hl : lv_has ls 5 [(0, .ref (ad 10 0)), (1, .int (hI glyph)), (2, .int (hI size))] := hl
  have h := x_X6_cuts P glyph size h_glyph h_size (fun i k hi => hIn_rd hh.2.1 hP hi) hp (fun y3 y4 => (hAt D ad cI cJ cF p l e ({ frames := 2, cells := 0, slots := 0, locals := 45 } : Room) s m args below meth c (MQ below (hQi D ad cI cJ cF (v_X6_cuts P glyph size) S) args s 0 0 (hAd ad)) 5 5 [(0, .ref (ad 10 0)), (1, .int (hI glyph)), (2, .int (hI size)), (3, .int (hI y3)), (4, .int (hI y4))] S)) (fun r => (r = v_X6_cuts P glyph size)) r5 rfl
  refine iv_iconst hx hb dX6_cuts_0 ?_
  refine lv_istore_n (lv' := [(3, .int (hI 0)), (0, .ref (ad 10 0)), (1, .int (hI glyph)), (2, .int (hI size))]) hx hb dX6_cuts_1 rfl hl (by decide) rfl (fun ls hl => ?_)
  refine iv_iconst hx hb dX6_cuts_2 ?_
  refine lv_istore (lv' := [(4, .int (hI 0)), (3, .int (hI 0)), (0, .ref (ad 10 0)), (1, .int (hI glyph)), (2, .int (hI size))]) hx hb dX6_cuts_3 hl (by decide) rfl (fun ls hl => ?_)
  exact h H _ ls hh (lv_sub hl [2, 3, 4, 1, 0] rfl)
set_option maxHeartbeats 4000000 in
set_option maxRecDepth 100000 in
theorem ok_X6_isClear (l : Launch) (hinj : hInj ad) (S : hS) (P : hGM) (hP : S 10 = P) (glyph : Int) (size : Int) (h_glyph : hIn glyph) (h_size : hIn size) (hp : p_X6_isClear P glyph size) : hMi D ad cI cJ cF l yX6_isClear cX6_isClear 3 (some .boolean) ({ frames := 5, cells := 0, slots := 0, locals := 119 } : Room) [.ref (ad 10 0), .int (hI glyph), .int (hI size)] S (v_X6_isClear P glyph size) (gset S 10 (m_X6_isClear P glyph size)) := by
  refine hOf (S := S) l hinj (by decide +kernel) (Nat.le_of_ble_eq_true rfl) (fun p e s m args below meth c E => ?_)
  obtain ⟨hx, hb, hml, hown, hts, hK, hN, -, hr, hlk⟩ := id E
  have hown : s.vm.findClass RX6 = some m.cls := hown
  intro H locs ls hh hl
  have hl : lv_has ls 3 [(0, .ref (ad 10 0)), (1, .int (hI glyph)), (2, .int (hI size))] := hl
  replace hh : hH D ad cI cJ cF (gset S 10 P) s H locs := by rw [← can1 hP]; exact hh
  have h := hp
  unfold p_X6_isClear at h
  refine lv_aload_n hx hb dX6_isClear_0 rfl (lv_at hl 0 rfl) ?_
  refine lv_iload_n hx hb dX6_isClear_1 rfl (lv_at hl 1 rfl) ?_
  refine lv_iload_n hx hb dX6_isClear_2 rfl (lv_at hl 2 rfl) ?_
  obtain ⟨g1, h⟩ := h
  refine iv_kv (iv_rV (As := [.int (hI glyph), .int (hI size)]) (rest := []) E hh (ok_X6_lays l hinj (gset S 10 P) P (gset_at _ _ _) glyph size h_glyph h_size g1) cb_X6_lays q4_64 rfl rfl ⟨Nat.le_of_ble_eq_true rfl, Nat.le_of_ble_eq_true rfl⟩ (ob_Model) rfl rfl rfl hl.1 rfl (Nat.le_of_ble_eq_true rfl) dX6_isClear_3 ⟨Nat.zero_le _, Nat.zero_le _⟩) hh (fun H locs hh => ?_)
  replace hh : hH D ad cI cJ cF (gset S 10 (m_X6_lays P glyph size)) s H locs := by rw [← show _ = (gset S 10 (m_X6_lays P glyph size)) from (gset_gset _ _ _ _)]; exact hh
  refine lv_aload_n hx hb dX6_isClear_6 rfl (lv_at hl 0 rfl) ?_
  refine iv_get (v' := .int (hI ((m_X6_lays P glyph size) 0 9))) hx hb hts inX6 hown hK hh.1 (ob_Model) rfl 9 (by decide) (hts _ q3_169) rfl rfl (congrArg (fun z => Value.int (hI (z 0 9))) (gset_at _ _ _)) dX6_isClear_7 ?_
  have hm2 : hIn ((m_X6_lays P glyph size) 0 9) := hIn_rd hh.2.1 (gset_at _ _ _) (by decide)
  refine iv_if_ne (tgt := 26) hx hb hm2 dX6_isClear_10 (by decide) (fun c3 => ?_) (fun c3 => ?_)
  · have h := h.2 c3
    refine iv_iconst hx hb dX6_isClear_26 ?_
    exact iv_bret E hh (by unfold v_X6_isClear; rw [if_neg c3]) (by rw [← show 0 = v_X6_isClear P glyph size from (by unfold v_X6_isClear; rw [if_neg c3])]; exact (Or.inl rfl)) (by unfold m_X6_isClear; rw [if_neg c3]) dX6_isClear_27
  · have h := h.1 c3
    refine lv_aload_n hx hb dX6_isClear_13 rfl (lv_at hl 0 rfl) ?_
    refine lv_iload_n hx hb dX6_isClear_14 rfl (lv_at hl 1 rfl) ?_
    refine lv_iload_n hx hb dX6_isClear_15 rfl (lv_at hl 2 rfl) ?_
    obtain ⟨g4, h⟩ := h
    refine iv_ki (iv_rV (As := [.int (hI glyph), .int (hI size)]) (rest := []) E hh (ok_X6_cuts l hinj (gset S 10 (m_X6_lays P glyph size)) (m_X6_lays P glyph size) (gset_at _ _ _) glyph size h_glyph h_size g4) cb_X6_cuts q4_114 rfl rfl ⟨Nat.le_of_ble_eq_true rfl, Nat.le_of_ble_eq_true rfl⟩ (ob_Model) rfl rfl rfl hl.1 rfl (Nat.le_of_ble_eq_true rfl) dX6_isClear_16 ⟨Nat.zero_le _, Nat.zero_le _⟩) hh (fun hc5 H locs hh => ?_)
    refine iv_if_ne (tgt := 26) hx hb hc5 dX6_isClear_19 (by decide) (fun c6 => ?_) (fun c6 => ?_)
    · have h := h.2 c6
      refine iv_iconst hx hb dX6_isClear_26 ?_
      exact iv_bret E hh (by unfold v_X6_isClear; rw [if_pos c3, if_neg c6]) (by rw [← show 0 = v_X6_isClear P glyph size from (by unfold v_X6_isClear; rw [if_pos c3, if_neg c6])]; exact (Or.inl rfl)) (by unfold m_X6_isClear; rw [if_pos c3, if_neg c6]) dX6_isClear_27
    · have h := h.1 c6
      refine iv_iconst hx hb dX6_isClear_22 ?_
      refine lv_goto (tgt := 27) hx hb dX6_isClear_23 (by decide) ?_
      exact iv_bret E hh (by unfold v_X6_isClear; rw [if_pos c3, if_pos c6]) (by rw [← show 1 = v_X6_isClear P glyph size from (by unfold v_X6_isClear; rw [if_pos c3, if_pos c6])]; exact (Or.inr rfl)) (by unfold m_X6_isClear; rw [if_pos c3, if_pos c6]) dX6_isClear_27
set_option maxHeartbeats 4000000 in
set_option maxRecDepth 100000 in
theorem ok_X6_isLit (l : Launch) (hinj : hInj ad) (S : hS) (P : hGM) (hP : S 10 = P) (glyph : Int) (column : Int) (h_glyph : hIn glyph) (h_column : hIn column) (hp : p_X6_isLit P glyph column) : hMi D ad cI cJ cF l yX6_isLit cX6_isLit 5 (some .boolean) ({ frames := 1, cells := 0, slots := 0, locals := 22 } : Room) [.ref (ad 10 0), .int (hI glyph), .int (hI column)] S (v_X6_isLit P glyph column) S := by
  refine hOf (S := S) l hinj (by decide +kernel) (Nat.le_of_ble_eq_true rfl) (fun p e s m args below meth c E => ?_)
  obtain ⟨hx, hb, hml, hown, hts, hK, hN, -, hr, hlk⟩ := id E
  have hown : s.vm.findClass RX6 = some m.cls := hown
  have r5 : ∀ (y3 : Int) (y4 : Int), hIn y3 → hIn y4 → ((p_X6_of P glyph 1 ∧ ((y4 < (v_X6_of P glyph 1) → ((y3 = 0 → ((0 ≤ y4 ∧ y4 < 6) ∧ (hIn (column - (P 5 y4)) ∧ (hIn ((P 6 y4) - 1) ∧ (((v_X6_in (column - (P 5 y4)) 0 ((P 6 y4) - 1)) = 0 → (hAt D ad cI cJ cF p l e ({ frames := 1, cells := 0, slots := 0, locals := 22 } : Room) s m args below meth c (MQ below (hQi D ad cI cJ cF (v_X6_isLit P glyph column) S) args s 0 0 (hAd ad)) 5 5 [(0, .ref (ad 10 0)), (1, .int (hI glyph)), (2, .int (hI column)), (3, .int (hI 0)), (4, .int (hI (y4 + 1)))] S)) ∧ (¬ (v_X6_in (column - (P 5 y4)) 0 ((P 6 y4) - 1)) = 0 → (hAt D ad cI cJ cF p l e ({ frames := 1, cells := 0, slots := 0, locals := 22 } : Room) s m args below meth c (MQ below (hQi D ad cI cJ cF (v_X6_isLit P glyph column) S) args s 0 0 (hAd ad)) 5 5 [(0, .ref (ad 10 0)), (1, .int (hI glyph)), (2, .int (hI column)), (3, .int (hI 1)), (4, .int (hI (y4 + 1)))] S))))))) ∧ (¬ y3 = 0 → (hAt D ad cI cJ cF p l e ({ frames := 1, cells := 0, slots := 0, locals := 22 } : Room) s m args below meth c (MQ below (hQi D ad cI cJ cF (v_X6_isLit P glyph column) S) args s 0 0 (hAd ad)) 5 5 [(0, .ref (ad 10 0)), (1, .int (hI glyph)), (2, .int (hI column)), (3, .int (hI 1)), (4, .int (hI (y4 + 1)))] S)))) ∧ (¬ y4 < (v_X6_of P glyph 1) → ((y3 = 0 ∨ y3 = 1) ∧ (y3 = v_X6_isLit P glyph column)))))) → (hAt D ad cI cJ cF p l e ({ frames := 1, cells := 0, slots := 0, locals := 22 } : Room) s m args below meth c (MQ below (hQi D ad cI cJ cF (v_X6_isLit P glyph column) S) args s 0 0 (hAd ad)) 5 5 [(0, .ref (ad 10 0)), (1, .int (hI glyph)), (2, .int (hI column)), (3, .int (hI y3)), (4, .int (hI y4))] S) := by
    intro y3 y4 h_y3 h_y4 h H locs ls hh hl
    refine lv_iload hx hb dX6_isLit_5 (lv_at hl 4 rfl) ?_
    refine lv_aload_n hx hb dX6_isLit_7 rfl (lv_at hl 0 rfl) ?_
    refine lv_iload_n hx hb dX6_isLit_8 rfl (lv_at hl 1 rfl) ?_
    refine iv_iconst hx hb dX6_isLit_9 ?_
    obtain ⟨g1, h⟩ := h
    refine iv_ki (iv_rV (As := [.int (hI glyph), .int (hI 1)]) (rest := [.int (hI y4)]) E hh (ok_X6_of l hinj S P hP glyph 1 h_glyph ⟨by decide, by decide⟩ g1) cb_X6_of q3_237 rfl rfl ⟨Nat.le_of_ble_eq_true rfl, Nat.le_of_ble_eq_true rfl⟩ (ob_Model) rfl rfl rfl hl.1 rfl (Nat.le_of_ble_eq_true rfl) dX6_isLit_10 ⟨Nat.zero_le _, Nat.zero_le _⟩) hh (fun hc2 H locs hh => ?_)
    refine iv_icmp_ge (tgt := 57) hx hb h_y4 hc2 dX6_isLit_13 (by decide) (fun c3 => ?_) (fun c3 => ?_)
    · have h := h.2 c3
      refine lv_iload_n hx hb dX6_isLit_57 rfl (lv_at hl 3 rfl) ?_
      obtain ⟨g4, h⟩ := h
      exact iv_bret E hh h (by rw [← h]; exact g4) rfl dX6_isLit_58
    · have h := h.1 c3
      refine lv_iload_n hx hb dX6_isLit_16 rfl (lv_at hl 3 rfl) ?_
      refine iv_if_ne (tgt := 45) hx hb h_y3 dX6_isLit_17 (by decide) (fun c5 => ?_) (fun c5 => ?_)
      · have h := h.2 c5
        refine iv_iconst hx hb dX6_isLit_45 ?_
        refine lv_goto (tgt := 50) hx hb dX6_isLit_46 (by decide) ?_
        refine lv_istore_n (lv' := [(3, .int (hI 1)), (0, .ref (ad 10 0)), (1, .int (hI glyph)), (2, .int (hI column)), (4, .int (hI y4))]) hx hb dX6_isLit_50 rfl hl (by decide) rfl (fun ls hl => ?_)
        refine iv_iinc (lv' := [(4, .int (hI (y4 + 1))), (3, .int (hI 1)), (0, .ref (ad 10 0)), (1, .int (hI glyph)), (2, .int (hI column))]) hx hb dX6_isLit_51 hl (k := 4) rfl (v := (y4 + 1)) rfl (by decide) rfl (fun ls hl => ?_)
        refine lv_goto (tgt := 5) hx hb dX6_isLit_54 (by decide) ?_
        exact h H _ ls hh (lv_sub hl [2, 3, 4, 1, 0] rfl)
      · have h := h.1 c5
        refine lv_iload_n hx hb dX6_isLit_20 rfl (lv_at hl 2 rfl) ?_
        refine lv_aload_n hx hb dX6_isLit_21 rfl (lv_at hl 0 rfl) ?_
        refine iv_get (v' := .ref (ad 10 5)) hx hb hts inX6 hown hK hh.1 (ob_Model) rfl 7 (by decide) (hts _ q3_167) rfl rfl rfl dX6_isLit_22 ?_
        refine lv_iload hx hb dX6_isLit_25 (lv_at hl 4 rfl) ?_
        obtain ⟨g6, h⟩ := h
        refine iv_iald hx hb hK hh.1 (ia_10_5) g6 (v := (P 5 y4)) (congrArg (fun z => z 5 y4) hP) dX6_isLit_27 ?_
        have hm7 : hIn (P 5 y4) := hIn_rd hh.2.1 hP (by decide)
        refine iv_isub hx hb dX6_isLit_28 ?_
        refine iv_iconst hx hb dX6_isLit_29 ?_
        refine lv_aload_n hx hb dX6_isLit_30 rfl (lv_at hl 0 rfl) ?_
        refine iv_get (v' := .ref (ad 10 6)) hx hb hts inX6 hown hK hh.1 (ob_Model) rfl 8 (by decide) (hts _ q3_168) rfl rfl rfl dX6_isLit_31 ?_
        refine lv_iload hx hb dX6_isLit_34 (lv_at hl 4 rfl) ?_
        refine iv_iald hx hb hK hh.1 (ia_10_6) g6 (v := (P 6 y4)) (congrArg (fun z => z 6 y4) hP) dX6_isLit_36 ?_
        have hm8 : hIn (P 6 y4) := hIn_rd hh.2.1 hP (by decide)
        refine iv_iconst hx hb dX6_isLit_37 ?_
        refine iv_isub hx hb dX6_isLit_38 ?_
        obtain ⟨g9, h⟩ := h
        obtain ⟨g10, h⟩ := h
        refine iv_ki (iv_rS (As := [.int (hI (column - (P 5 y4))), .int (hI 0), .int (hI ((P 6 y4) - 1))]) (rest := []) E hh (ok_X6_in l hinj S (column - (P 5 y4)) 0 ((P 6 y4) - 1) g9 ⟨by decide, by decide⟩ g10) cb_X6_in q3_216 rfl rfl ⟨Nat.le_of_ble_eq_true rfl, Nat.le_of_ble_eq_true rfl⟩ rfl hl.1 rfl (Nat.le_of_ble_eq_true rfl) dX6_isLit_39 ⟨Nat.zero_le _, Nat.zero_le _⟩) hh (fun hc11 H locs hh => ?_)
        refine iv_if_eq (tgt := 49) hx hb hc11 dX6_isLit_42 (by decide) (fun c12 => ?_) (fun c12 => ?_)
        · have h := h.1 c12
          refine iv_iconst hx hb dX6_isLit_49 ?_
          refine lv_istore_n (lv' := [(3, .int (hI 0)), (0, .ref (ad 10 0)), (1, .int (hI glyph)), (2, .int (hI column)), (4, .int (hI y4))]) hx hb dX6_isLit_50 rfl hl (by decide) rfl (fun ls hl => ?_)
          refine iv_iinc (lv' := [(4, .int (hI (y4 + 1))), (3, .int (hI 0)), (0, .ref (ad 10 0)), (1, .int (hI glyph)), (2, .int (hI column))]) hx hb dX6_isLit_51 hl (k := 4) rfl (v := (y4 + 1)) rfl (by decide) rfl (fun ls hl => ?_)
          refine lv_goto (tgt := 5) hx hb dX6_isLit_54 (by decide) ?_
          exact h H _ ls hh (lv_sub hl [2, 3, 4, 1, 0] rfl)
        · have h := h.2 c12
          refine iv_iconst hx hb dX6_isLit_45 ?_
          refine lv_goto (tgt := 50) hx hb dX6_isLit_46 (by decide) ?_
          refine lv_istore_n (lv' := [(3, .int (hI 1)), (0, .ref (ad 10 0)), (1, .int (hI glyph)), (2, .int (hI column)), (4, .int (hI y4))]) hx hb dX6_isLit_50 rfl hl (by decide) rfl (fun ls hl => ?_)
          refine iv_iinc (lv' := [(4, .int (hI (y4 + 1))), (3, .int (hI 1)), (0, .ref (ad 10 0)), (1, .int (hI glyph)), (2, .int (hI column))]) hx hb dX6_isLit_51 hl (k := 4) rfl (v := (y4 + 1)) rfl (by decide) rfl (fun ls hl => ?_)
          refine lv_goto (tgt := 5) hx hb dX6_isLit_54 (by decide) ?_
          exact h H _ ls hh (lv_sub hl [2, 3, 4, 1, 0] rfl)
  intro H locs ls hh hl
  have hl : lv_has ls 5 [(0, .ref (ad 10 0)), (1, .int (hI glyph)), (2, .int (hI column))] := hl
  have h := x_X6_isLit P glyph column h_glyph h_column (fun i k hi => hIn_rd hh.2.1 hP hi) hp (fun y3 y4 => (hAt D ad cI cJ cF p l e ({ frames := 1, cells := 0, slots := 0, locals := 22 } : Room) s m args below meth c (MQ below (hQi D ad cI cJ cF (v_X6_isLit P glyph column) S) args s 0 0 (hAd ad)) 5 5 [(0, .ref (ad 10 0)), (1, .int (hI glyph)), (2, .int (hI column)), (3, .int (hI y3)), (4, .int (hI y4))] S)) (fun r => (r = v_X6_isLit P glyph column)) r5 rfl
  refine iv_iconst hx hb dX6_isLit_0 ?_
  refine lv_istore_n (lv' := [(3, .int (hI 0)), (0, .ref (ad 10 0)), (1, .int (hI glyph)), (2, .int (hI column))]) hx hb dX6_isLit_1 rfl hl (by decide) rfl (fun ls hl => ?_)
  refine iv_iconst hx hb dX6_isLit_2 ?_
  refine lv_istore (lv' := [(4, .int (hI 0)), (3, .int (hI 0)), (0, .ref (ad 10 0)), (1, .int (hI glyph)), (2, .int (hI column))]) hx hb dX6_isLit_3 hl (by decide) rfl (fun ls hl => ?_)
  exact h H _ ls hh (lv_sub hl [2, 3, 4, 1, 0] rfl)
set_option maxHeartbeats 4000000 in
set_option maxRecDepth 100000 in
theorem ok_X6_litHalf (l : Launch) (hinj : hInj ad) (S : hS) (P : hGM) (hP : S 10 = P) (glyph : Int) (size : Int) (half : Int) (h_glyph : hIn glyph) (h_size : hIn size) (h_half : hIn half) (hp : p_X6_litHalf P glyph size half) : hMi D ad cI cJ cF l yX6_litHalf cX6_litHalf 6 (some .int) ({ frames := 2, cells := 0, slots := 0, locals := 46 } : Room) [.ref (ad 10 0), .int (hI glyph), .int (hI size), .int (hI half)] S (v_X6_litHalf P glyph size half) S := by
  refine hOf (S := S) l hinj (by decide +kernel) (Nat.le_of_ble_eq_true rfl) (fun p e s m args below meth c E => ?_)
  obtain ⟨hx, hb, hml, hown, hts, hK, hN, -, hr, hlk⟩ := id E
  have hown : s.vm.findClass RX6 = some m.cls := hown
  have r6 : ∀ (y4 : Int) (y5 : Int), hIn y4 → hIn y5 → (((y5 < 32 → (p_X6_columns P glyph size ∧ (hIn ((32 * half) + y5) ∧ ((((32 * half) + y5) < (v_X6_columns P glyph size) → (p_X6_isLit P glyph ((32 * half) + y5) ∧ (((v_X6_isLit P glyph ((32 * half) + y5)) = 0 → (hAt D ad cI cJ cF p l e ({ frames := 2, cells := 0, slots := 0, locals := 46 } : Room) s m args below meth c (MQ below (hQi D ad cI cJ cF (v_X6_litHalf P glyph size half) S) args s 0 0 (hAd ad)) 6 6 [(0, .ref (ad 10 0)), (1, .int (hI glyph)), (2, .int (hI size)), (3, .int (hI half)), (4, .int (hI (iOr y4 0))), (5, .int (hI (y5 + 1)))] S)) ∧ (¬ (v_X6_isLit P glyph ((32 * half) + y5)) = 0 → (hAt D ad cI cJ cF p l e ({ frames := 2, cells := 0, slots := 0, locals := 46 } : Room) s m args below meth c (MQ below (hQi D ad cI cJ cF (v_X6_litHalf P glyph size half) S) args s 0 0 (hAd ad)) 6 6 [(0, .ref (ad 10 0)), (1, .int (hI glyph)), (2, .int (hI size)), (3, .int (hI half)), (4, .int (hI (iOr y4 (iShl 1 y5)))), (5, .int (hI (y5 + 1)))] S))))) ∧ (¬ ((32 * half) + y5) < (v_X6_columns P glyph size) → (hAt D ad cI cJ cF p l e ({ frames := 2, cells := 0, slots := 0, locals := 46 } : Room) s m args below meth c (MQ below (hQi D ad cI cJ cF (v_X6_litHalf P glyph size half) S) args s 0 0 (hAd ad)) 6 6 [(0, .ref (ad 10 0)), (1, .int (hI glyph)), (2, .int (hI size)), (3, .int (hI half)), (4, .int (hI (iOr y4 0))), (5, .int (hI (y5 + 1)))] S)))))) ∧ (¬ y5 < 32 → (y4 = v_X6_litHalf P glyph size half)))) → (hAt D ad cI cJ cF p l e ({ frames := 2, cells := 0, slots := 0, locals := 46 } : Room) s m args below meth c (MQ below (hQi D ad cI cJ cF (v_X6_litHalf P glyph size half) S) args s 0 0 (hAd ad)) 6 6 [(0, .ref (ad 10 0)), (1, .int (hI glyph)), (2, .int (hI size)), (3, .int (hI half)), (4, .int (hI y4)), (5, .int (hI y5))] S) := by
    intro y4 y5 h_y4 h_y5 h H locs ls hh hl
    refine lv_iload hx hb dX6_litHalf_6 (lv_at hl 5 rfl) ?_
    refine lv_bipush (v := hI 32) hx hb dX6_litHalf_8 (by decide) ?_
    refine iv_icmp_ge (tgt := 63) hx hb h_y5 ⟨by decide, by decide⟩ dX6_litHalf_10 (by decide) (fun c1 => ?_) (fun c1 => ?_)
    · have h := h.2 c1
      refine lv_iload hx hb dX6_litHalf_63 (lv_at hl 4 rfl) ?_
      exact iv_iret E hh h (by rw [← h]; exact h_y4) rfl dX6_litHalf_65
    · have h := h.1 c1
      refine lv_iload hx hb dX6_litHalf_13 (lv_at hl 4 rfl) ?_
      refine lv_bipush (v := hI 32) hx hb dX6_litHalf_15 (by decide) ?_
      refine lv_iload_n hx hb dX6_litHalf_17 rfl (lv_at hl 3 rfl) ?_
      refine iv_imul hx hb dX6_litHalf_18 ?_
      refine lv_iload hx hb dX6_litHalf_19 (lv_at hl 5 rfl) ?_
      refine iv_iadd hx hb dX6_litHalf_21 ?_
      refine lv_aload_n hx hb dX6_litHalf_22 rfl (lv_at hl 0 rfl) ?_
      refine lv_iload_n hx hb dX6_litHalf_23 rfl (lv_at hl 1 rfl) ?_
      refine lv_iload_n hx hb dX6_litHalf_24 rfl (lv_at hl 2 rfl) ?_
      obtain ⟨g2, h⟩ := h
      refine iv_ki (iv_rV (As := [.int (hI glyph), .int (hI size)]) (rest := [.int (hI ((32 * half) + y5)), .int (hI y4)]) E hh (ok_X6_columns l hinj S P hP glyph size h_glyph h_size g2) cb_X6_columns q4_86 rfl rfl ⟨Nat.le_of_ble_eq_true rfl, Nat.le_of_ble_eq_true rfl⟩ (ob_Model) rfl rfl rfl hl.1 rfl (Nat.le_of_ble_eq_true rfl) dX6_litHalf_25 ⟨Nat.zero_le _, Nat.zero_le _⟩) hh (fun hc3 H locs hh => ?_)
      obtain ⟨g4, h⟩ := h
      refine iv_icmp_ge (tgt := 53) hx hb g4 hc3 dX6_litHalf_28 (by decide) (fun c5 => ?_) (fun c5 => ?_)
      · have h := h.2 c5
        refine iv_iconst hx hb dX6_litHalf_53 ?_
        refine iv_ior hx hb dX6_litHalf_54 ?_
        refine lv_istore (lv' := [(4, .int (hI (iOr y4 0))), (0, .ref (ad 10 0)), (1, .int (hI glyph)), (2, .int (hI size)), (3, .int (hI half)), (5, .int (hI y5))]) hx hb dX6_litHalf_55 hl (by decide) rfl (fun ls hl => ?_)
        refine iv_iinc (lv' := [(5, .int (hI (y5 + 1))), (4, .int (hI (iOr y4 0))), (0, .ref (ad 10 0)), (1, .int (hI glyph)), (2, .int (hI size)), (3, .int (hI half))]) hx hb dX6_litHalf_57 hl (k := 5) rfl (v := (y5 + 1)) rfl (by decide) rfl (fun ls hl => ?_)
        refine lv_goto (tgt := 6) hx hb dX6_litHalf_60 (by decide) ?_
        exact h H _ ls hh (lv_sub hl [2, 3, 4, 5, 1, 0] rfl)
      · have h := h.1 c5
        refine lv_aload_n hx hb dX6_litHalf_31 rfl (lv_at hl 0 rfl) ?_
        refine lv_iload_n hx hb dX6_litHalf_32 rfl (lv_at hl 1 rfl) ?_
        refine lv_bipush (v := hI 32) hx hb dX6_litHalf_33 (by decide) ?_
        refine lv_iload_n hx hb dX6_litHalf_35 rfl (lv_at hl 3 rfl) ?_
        refine iv_imul hx hb dX6_litHalf_36 ?_
        refine lv_iload hx hb dX6_litHalf_37 (lv_at hl 5 rfl) ?_
        refine iv_iadd hx hb dX6_litHalf_39 ?_
        obtain ⟨g6, h⟩ := h
        refine iv_ki (iv_rV (As := [.int (hI glyph), .int (hI ((32 * half) + y5))]) (rest := [.int (hI y4)]) E hh (ok_X6_isLit l hinj S P hP glyph ((32 * half) + y5) h_glyph g4 g6) cb_X6_isLit q4_94 rfl rfl ⟨Nat.le_of_ble_eq_true rfl, Nat.le_of_ble_eq_true rfl⟩ (ob_Model) rfl rfl rfl hl.1 rfl (Nat.le_of_ble_eq_true rfl) dX6_litHalf_40 ⟨Nat.zero_le _, Nat.zero_le _⟩) hh (fun hc7 H locs hh => ?_)
        refine iv_if_eq (tgt := 53) hx hb hc7 dX6_litHalf_43 (by decide) (fun c8 => ?_) (fun c8 => ?_)
        · have h := h.1 c8
          refine iv_iconst hx hb dX6_litHalf_53 ?_
          refine iv_ior hx hb dX6_litHalf_54 ?_
          refine lv_istore (lv' := [(4, .int (hI (iOr y4 0))), (0, .ref (ad 10 0)), (1, .int (hI glyph)), (2, .int (hI size)), (3, .int (hI half)), (5, .int (hI y5))]) hx hb dX6_litHalf_55 hl (by decide) rfl (fun ls hl => ?_)
          refine iv_iinc (lv' := [(5, .int (hI (y5 + 1))), (4, .int (hI (iOr y4 0))), (0, .ref (ad 10 0)), (1, .int (hI glyph)), (2, .int (hI size)), (3, .int (hI half))]) hx hb dX6_litHalf_57 hl (k := 5) rfl (v := (y5 + 1)) rfl (by decide) rfl (fun ls hl => ?_)
          refine lv_goto (tgt := 6) hx hb dX6_litHalf_60 (by decide) ?_
          exact h H _ ls hh (lv_sub hl [2, 3, 4, 5, 1, 0] rfl)
        · have h := h.2 c8
          refine iv_iconst hx hb dX6_litHalf_46 ?_
          refine lv_iload hx hb dX6_litHalf_47 (lv_at hl 5 rfl) ?_
          refine iv_ishl hx hb dX6_litHalf_49 ?_
          refine lv_goto (tgt := 54) hx hb dX6_litHalf_50 (by decide) ?_
          refine iv_ior hx hb dX6_litHalf_54 ?_
          refine lv_istore (lv' := [(4, .int (hI (iOr y4 (iShl 1 y5)))), (0, .ref (ad 10 0)), (1, .int (hI glyph)), (2, .int (hI size)), (3, .int (hI half)), (5, .int (hI y5))]) hx hb dX6_litHalf_55 hl (by decide) rfl (fun ls hl => ?_)
          refine iv_iinc (lv' := [(5, .int (hI (y5 + 1))), (4, .int (hI (iOr y4 (iShl 1 y5)))), (0, .ref (ad 10 0)), (1, .int (hI glyph)), (2, .int (hI size)), (3, .int (hI half))]) hx hb dX6_litHalf_57 hl (k := 5) rfl (v := (y5 + 1)) rfl (by decide) rfl (fun ls hl => ?_)
          refine lv_goto (tgt := 6) hx hb dX6_litHalf_60 (by decide) ?_
          exact h H _ ls hh (lv_sub hl [2, 3, 4, 5, 1, 0] rfl)
  intro H locs ls hh hl
  have hl : lv_has ls 6 [(0, .ref (ad 10 0)), (1, .int (hI glyph)), (2, .int (hI size)), (3, .int (hI half))] := hl
  have h := x_X6_litHalf P glyph size half h_glyph h_size h_half (fun i k hi => hIn_rd hh.2.1 hP hi) hp (fun y4 y5 => (hAt D ad cI cJ cF p l e ({ frames := 2, cells := 0, slots := 0, locals := 46 } : Room) s m args below meth c (MQ below (hQi D ad cI cJ cF (v_X6_litHalf P glyph size half) S) args s 0 0 (hAd ad)) 6 6 [(0, .ref (ad 10 0)), (1, .int (hI glyph)), (2, .int (hI size)), (3, .int (hI half)), (4, .int (hI y4)), (5, .int (hI y5))] S)) (fun r => (r = v_X6_litHalf P glyph size half)) r6 rfl
  refine iv_iconst hx hb dX6_litHalf_0 ?_
  refine lv_istore (lv' := [(4, .int (hI 0)), (0, .ref (ad 10 0)), (1, .int (hI glyph)), (2, .int (hI size)), (3, .int (hI half))]) hx hb dX6_litHalf_1 hl (by decide) rfl (fun ls hl => ?_)
  refine iv_iconst hx hb dX6_litHalf_3 ?_
  refine lv_istore (lv' := [(5, .int (hI 0)), (4, .int (hI 0)), (0, .ref (ad 10 0)), (1, .int (hI glyph)), (2, .int (hI size)), (3, .int (hI half))]) hx hb dX6_litHalf_4 hl (by decide) rfl (fun ls hl => ?_)
  exact h H _ ls hh (lv_sub hl [2, 3, 4, 5, 1, 0] rfl)
set_option maxHeartbeats 4000000 in
set_option maxRecDepth 100000 in
theorem ok_X6_ofSheet (l : Launch) (hinj : hInj ad) (S : hS) (P : hGM) (hP : S 10 = P) (sheet : Int) (what : Int) (h_sheet : hIn sheet) (h_what : hIn what) (hp : p_X6_ofSheet P sheet what) : hMi D ad cI cJ cF l yX6_ofSheet cX6_ofSheet 3 (some .int) ({ frames := 0, cells := 0, slots := 0, locals := 0 } : Room) [.ref (ad 10 0), .int (hI sheet), .int (hI what)] S (v_X6_ofSheet P sheet what) S := by
  refine hOf (S := S) l hinj (by decide +kernel) (Nat.le_of_ble_eq_true rfl) (fun p e s m args below meth c E => ?_)
  obtain ⟨hx, hb, hml, hown, hts, hK, hN, -, hr, hlk⟩ := id E
  have hown : s.vm.findClass RX6 = some m.cls := hown
  intro H locs ls hh hl
  have hl : lv_has ls 3 [(0, .ref (ad 10 0)), (1, .int (hI sheet)), (2, .int (hI what))] := hl
  have h := hp
  unfold p_X6_ofSheet at h
  refine lv_aload_n hx hb dX6_ofSheet_0 rfl (lv_at hl 0 rfl) ?_
  refine iv_get (v' := .ref (ad 10 1)) hx hb hts inX6 hown hK hh.1 (ob_Model) rfl 0 (by decide) (hts _ q3_160) rfl rfl rfl dX6_ofSheet_1 ?_
  refine lv_sipush (v := hI 169) hx hb dX6_ofSheet_4 (by decide) ?_
  refine lv_bipush (v := hI 10) hx hb dX6_ofSheet_7 (by decide) ?_
  refine lv_iload_n hx hb dX6_ofSheet_9 rfl (lv_at hl 1 rfl) ?_
  refine iv_imul hx hb dX6_ofSheet_10 ?_
  refine iv_iadd hx hb dX6_ofSheet_11 ?_
  refine lv_iload_n hx hb dX6_ofSheet_12 rfl (lv_at hl 2 rfl) ?_
  refine iv_iadd hx hb dX6_ofSheet_13 ?_
  obtain ⟨g1, h⟩ := h
  refine iv_iald hx hb hK hh.1 (ia_10_1) g1 (v := (P 1 ((169 + (10 * sheet)) + what))) (congrArg (fun z => z 1 ((169 + (10 * sheet)) + what)) hP) dX6_ofSheet_14 ?_
  have hm2 : hIn (P 1 ((169 + (10 * sheet)) + what)) := hIn_rd hh.2.1 hP (by decide)
  exact iv_iret E hh rfl (by rw [← show (P 1 ((169 + (10 * sheet)) + what)) = v_X6_ofSheet P sheet what from rfl]; exact hm2) rfl dX6_ofSheet_15
set_option maxHeartbeats 4000000 in
set_option maxRecDepth 100000 in
theorem ok_X6_sheetAt (l : Launch) (hinj : hInj ad) (S : hS) (P : hGM) (hP : S 10 = P) (size : Int) (h_size : hIn size) (hp : p_X6_sheetAt P size) : hMi D ad cI cJ cF l yX6_sheetAt cX6_sheetAt 3 (some .int) ({ frames := 1, cells := 0, slots := 0, locals := 22 } : Room) [.ref (ad 10 0), .int (hI size)] S (v_X6_sheetAt P size) S := by
  refine hOf (S := S) l hinj (by decide +kernel) (Nat.le_of_ble_eq_true rfl) (fun p e s m args below meth c E => ?_)
  obtain ⟨hx, hb, hml, hown, hts, hK, hN, -, hr, hlk⟩ := id E
  have hown : s.vm.findClass RX6 = some m.cls := hown
  have r2 : ∀ (y2 : Int), hIn y2 → (((y2 < (P 1 7) → (p_X6_ofSheet P y2 0 ∧ (((v_X6_ofSheet P y2 0) = size → (y2 = v_X6_sheetAt P size)) ∧ (¬ (v_X6_ofSheet P y2 0) = size → (hAt D ad cI cJ cF p l e ({ frames := 1, cells := 0, slots := 0, locals := 22 } : Room) s m args below meth c (MQ below (hQi D ad cI cJ cF (v_X6_sheetAt P size) S) args s 0 0 (hAd ad)) 3 2 [(0, .ref (ad 10 0)), (1, .int (hI size)), (2, .int (hI (y2 + 1)))] S))))) ∧ (¬ y2 < (P 1 7) → ((-1000004) = v_X6_sheetAt P size)))) → (hAt D ad cI cJ cF p l e ({ frames := 1, cells := 0, slots := 0, locals := 22 } : Room) s m args below meth c (MQ below (hQi D ad cI cJ cF (v_X6_sheetAt P size) S) args s 0 0 (hAd ad)) 3 2 [(0, .ref (ad 10 0)), (1, .int (hI size)), (2, .int (hI y2))] S) := by
    intro y2 h_y2 h H locs ls hh hl
    refine lv_iload_n hx hb dX6_sheetAt_2 rfl (lv_at hl 2 rfl) ?_
    refine lv_aload_n hx hb dX6_sheetAt_3 rfl (lv_at hl 0 rfl) ?_
    refine iv_get (v' := .ref (ad 10 1)) hx hb hts inX6 hown hK hh.1 (ob_Model) rfl 0 (by decide) (hts _ q3_160) rfl rfl rfl dX6_sheetAt_4 ?_
    refine lv_bipush (v := hI 7) hx hb dX6_sheetAt_7 (by decide) ?_
    refine iv_iald hx hb hK hh.1 (ia_10_1) ⟨by decide, by decide⟩ (v := (P 1 7)) (congrArg (fun z => z 1 7) hP) dX6_sheetAt_9 ?_
    have hm1 : hIn (P 1 7) := hIn_rd hh.2.1 hP (by decide)
    refine iv_icmp_ge (tgt := 31) hx hb h_y2 hm1 dX6_sheetAt_10 (by decide) (fun c2 => ?_) (fun c2 => ?_)
    · have h := h.2 c2
      refine iv_ldc (n := (-1000004)) hx hb (by decide) hown (hts _ q4_33) dX6_sheetAt_31 ?_
      exact iv_iret E hh h (by rw [← h]; exact ⟨by decide, by decide⟩) rfl dX6_sheetAt_33
    · have h := h.1 c2
      refine lv_aload_n hx hb dX6_sheetAt_13 rfl (lv_at hl 0 rfl) ?_
      refine lv_iload_n hx hb dX6_sheetAt_14 rfl (lv_at hl 2 rfl) ?_
      refine iv_iconst hx hb dX6_sheetAt_15 ?_
      obtain ⟨g3, h⟩ := h
      refine iv_ki (iv_rV (As := [.int (hI y2), .int (hI 0)]) (rest := []) E hh (ok_X6_ofSheet l hinj S P hP y2 0 h_y2 ⟨by decide, by decide⟩ g3) cb_X6_ofSheet q4_56 rfl rfl ⟨Nat.le_of_ble_eq_true rfl, Nat.le_of_ble_eq_true rfl⟩ (ob_Model) rfl rfl rfl hl.1 rfl (Nat.le_of_ble_eq_true rfl) dX6_sheetAt_16 ⟨Nat.zero_le _, Nat.zero_le _⟩) hh (fun hc4 H locs hh => ?_)
      refine lv_iload_n hx hb dX6_sheetAt_19 rfl (lv_at hl 1 rfl) ?_
      refine iv_icmp_ne (tgt := 25) hx hb hc4 h_size dX6_sheetAt_20 (by decide) (fun c5 => ?_) (fun c5 => ?_)
      · have h := h.2 c5
        refine iv_iinc (lv' := [(2, .int (hI (y2 + 1))), (0, .ref (ad 10 0)), (1, .int (hI size))]) hx hb dX6_sheetAt_25 hl (k := 2) rfl (v := (y2 + 1)) rfl (by decide) rfl (fun ls hl => ?_)
        refine lv_goto (tgt := 2) hx hb dX6_sheetAt_28 (by decide) ?_
        exact h H _ ls hh (lv_sub hl [1, 2, 0] rfl)
      · have h := h.1 c5
        refine lv_iload_n hx hb dX6_sheetAt_23 rfl (lv_at hl 2 rfl) ?_
        exact iv_iret E hh h (by rw [← h]; exact h_y2) rfl dX6_sheetAt_24
  intro H locs ls hh hl
  have hl : lv_has ls 3 [(0, .ref (ad 10 0)), (1, .int (hI size))] := hl
  have h := x_X6_sheetAt P size h_size (fun i k hi => hIn_rd hh.2.1 hP hi) hp (fun y2 => (hAt D ad cI cJ cF p l e ({ frames := 1, cells := 0, slots := 0, locals := 22 } : Room) s m args below meth c (MQ below (hQi D ad cI cJ cF (v_X6_sheetAt P size) S) args s 0 0 (hAd ad)) 3 2 [(0, .ref (ad 10 0)), (1, .int (hI size)), (2, .int (hI y2))] S)) (fun r => (r = v_X6_sheetAt P size)) r2 rfl
  refine iv_iconst hx hb dX6_sheetAt_0 ?_
  refine lv_istore_n (lv' := [(2, .int (hI 0)), (0, .ref (ad 10 0)), (1, .int (hI size))]) hx hb dX6_sheetAt_1 rfl hl (by decide) rfl (fun ls hl => ?_)
  exact h H _ ls hh (lv_sub hl [1, 2, 0] rfl)
set_option maxHeartbeats 4000000 in
set_option maxRecDepth 100000 in
theorem ok_X6_takesSheet (l : Launch) (hinj : hInj ad) (S : hS) (P : hGM) (hP : S 10 = P) (sheet : Int) (h_sheet : hIn sheet) (hp : p_X6_takesSheet P sheet) : hMv D ad cI cJ cF l yX6_takesSheet cX6_takesSheet 3 ({ frames := 0, cells := 0, slots := 0, locals := 0 } : Room) [.ref (ad 10 0), .int (hI sheet)] S (gset S 10 (m_X6_takesSheet P sheet)) := by
  refine hOf (S := S) l hinj (by decide +kernel) (Nat.le_of_ble_eq_true rfl) (fun p e s m args below meth c E => ?_)
  obtain ⟨hx, hb, hml, hown, hts, hK, hN, -, hr, hlk⟩ := id E
  have hown : s.vm.findClass RX6 = some m.cls := hown
  have r20 : ∀ (y2 : Int) (P1 : hGM), hIn y2 → ((∀ (i : Nat) (k : Int), i < 100 → hIn (P1 i k)) → (hIn (169 + (10 * (P1 1 7))) ∧ ((y2 < (169 + (10 * (P1 1 7))) → ((0 ≤ (y2 + 10) ∧ (y2 + 10) < 273) ∧ ((0 ≤ y2 ∧ y2 < 273) ∧ (hAt D ad cI cJ cF p l e ({ frames := 0, cells := 0, slots := 0, locals := 0 } : Room) s m args below meth c (MQ below (hQv D ad cI cJ cF (gset S 10 (m_X6_takesSheet P sheet))) args s 0 0 (hAd ad)) 3 20 [(0, .ref (ad 10 0)), (1, .int (hI sheet)), (2, .int (hI (y2 + 1)))] (gset S 10 (aset P1 1 y2 (P1 1 (y2 + 10)))))))) ∧ (¬ y2 < (169 + (10 * (P1 1 7))) → (hAt D ad cI cJ cF p l e ({ frames := 0, cells := 0, slots := 0, locals := 0 } : Room) s m args below meth c (MQ below (hQv D ad cI cJ cF (gset S 10 (m_X6_takesSheet P sheet))) args s 0 0 (hAd ad)) 3 68 [(0, .ref (ad 10 0)), (2, .int (hI (209 + (16 * sheet))))] (gset S 10 P1)))))) → (hAt D ad cI cJ cF p l e ({ frames := 0, cells := 0, slots := 0, locals := 0 } : Room) s m args below meth c (MQ below (hQv D ad cI cJ cF (gset S 10 (m_X6_takesSheet P sheet))) args s 0 0 (hAd ad)) 3 20 [(0, .ref (ad 10 0)), (1, .int (hI sheet)), (2, .int (hI y2))] (gset S 10 P1)) := by
    intro y2 P1 h_y2 h H locs ls hh hl
    have h := h (fun i k hi => hIn_rd hh.2.1 (gset_at _ _ _) hi)
    refine lv_iload_n hx hb dX6_takesSheet_20 rfl (lv_at hl 2 rfl) ?_
    refine lv_sipush (v := hI 169) hx hb dX6_takesSheet_21 (by decide) ?_
    refine lv_bipush (v := hI 10) hx hb dX6_takesSheet_24 (by decide) ?_
    refine lv_aload_n hx hb dX6_takesSheet_26 rfl (lv_at hl 0 rfl) ?_
    refine iv_get (v' := .ref (ad 10 1)) hx hb hts inX6 hown hK hh.1 (ob_Model) rfl 0 (by decide) (hts _ q3_160) rfl rfl rfl dX6_takesSheet_27 ?_
    refine lv_bipush (v := hI 7) hx hb dX6_takesSheet_30 (by decide) ?_
    refine iv_iald hx hb hK hh.1 (ia_10_1) ⟨by decide, by decide⟩ (v := (P1 1 7)) (congrArg (fun z => z 1 7) (gset_at _ _ _)) dX6_takesSheet_32 ?_
    have hm1 : hIn (P1 1 7) := hIn_rd hh.2.1 (gset_at _ _ _) (by decide)
    refine iv_imul hx hb dX6_takesSheet_33 ?_
    refine iv_iadd hx hb dX6_takesSheet_34 ?_
    obtain ⟨g2, h⟩ := h
    refine iv_icmp_ge (tgt := 59) hx hb h_y2 g2 dX6_takesSheet_35 (by decide) (fun c3 => ?_) (fun c3 => ?_)
    · have h := h.2 c3
      refine lv_sipush (v := hI 209) hx hb dX6_takesSheet_59 (by decide) ?_
      refine lv_bipush (v := hI 16) hx hb dX6_takesSheet_62 (by decide) ?_
      refine lv_iload_n hx hb dX6_takesSheet_64 rfl (lv_at hl 1 rfl) ?_
      refine iv_imul hx hb dX6_takesSheet_65 ?_
      refine iv_iadd hx hb dX6_takesSheet_66 ?_
      refine lv_istore_n (lv' := [(2, .int (hI (209 + (16 * sheet)))), (0, .ref (ad 10 0)), (1, .int (hI sheet))]) hx hb dX6_takesSheet_67 rfl hl (by decide) rfl (fun ls hl => ?_)
      exact h H _ ls hh (lv_sub hl [1, 0] rfl)
    · have h := h.1 c3
      refine lv_aload_n hx hb dX6_takesSheet_38 rfl (lv_at hl 0 rfl) ?_
      refine iv_get (v' := .ref (ad 10 1)) hx hb hts inX6 hown hK hh.1 (ob_Model) rfl 0 (by decide) (hts _ q3_160) rfl rfl rfl dX6_takesSheet_39 ?_
      refine lv_iload_n hx hb dX6_takesSheet_42 rfl (lv_at hl 2 rfl) ?_
      refine lv_aload_n hx hb dX6_takesSheet_43 rfl (lv_at hl 0 rfl) ?_
      refine iv_get (v' := .ref (ad 10 1)) hx hb hts inX6 hown hK hh.1 (ob_Model) rfl 0 (by decide) (hts _ q3_160) rfl rfl rfl dX6_takesSheet_44 ?_
      refine lv_iload_n hx hb dX6_takesSheet_47 rfl (lv_at hl 2 rfl) ?_
      refine lv_bipush (v := hI 10) hx hb dX6_takesSheet_48 (by decide) ?_
      refine iv_iadd hx hb dX6_takesSheet_50 ?_
      obtain ⟨g4, h⟩ := h
      refine iv_iald hx hb hK hh.1 (ia_10_1) g4 (v := (P1 1 (y2 + 10))) (congrArg (fun z => z 1 (y2 + 10)) (gset_at _ _ _)) dX6_takesSheet_51 ?_
      have hm5 : hIn (P1 1 (y2 + 10)) := hIn_rd hh.2.1 (gset_at _ _ _) (by decide)
      obtain ⟨g6, h⟩ := h
      refine iv_iast (S' := (gset S 10 (aset P1 1 y2 (P1 1 (y2 + 10))))) hx hb hK hinj hh (ia_10_1) g6 hm5 (by rw [show (gset S 10 P1) 10 = P1 from (gset_at _ _ _)]; exact (gset_gset _ _ _ _)) dX6_takesSheet_52 (fun H locs hh => ?_)
      refine iv_iinc (lv' := [(2, .int (hI (y2 + 1))), (0, .ref (ad 10 0)), (1, .int (hI sheet))]) hx hb dX6_takesSheet_53 hl (k := 2) rfl (v := (y2 + 1)) rfl (by decide) rfl (fun ls hl => ?_)
      refine lv_goto (tgt := 20) hx hb dX6_takesSheet_56 (by decide) ?_
      exact h H _ ls hh (lv_sub hl [1, 2, 0] rfl)
  have r68 : ∀ (y2 : Int) (P1 : hGM), hIn y2 → ((∀ (i : Nat) (k : Int), i < 100 → hIn (P1 i k)) → (hIn (209 + (16 * (P1 1 7))) ∧ ((y2 < (209 + (16 * (P1 1 7))) → ((0 ≤ (y2 + 16) ∧ (y2 + 16) < 273) ∧ ((0 ≤ y2 ∧ y2 < 273) ∧ (hAt D ad cI cJ cF p l e ({ frames := 0, cells := 0, slots := 0, locals := 0 } : Room) s m args below meth c (MQ below (hQv D ad cI cJ cF (gset S 10 (m_X6_takesSheet P sheet))) args s 0 0 (hAd ad)) 3 68 [(0, .ref (ad 10 0)), (2, .int (hI (y2 + 1)))] (gset S 10 (aset P1 1 y2 (P1 1 (y2 + 16)))))))) ∧ (¬ y2 < (209 + (16 * (P1 1 7))) → (P1 = m_X6_takesSheet P sheet))))) → (hAt D ad cI cJ cF p l e ({ frames := 0, cells := 0, slots := 0, locals := 0 } : Room) s m args below meth c (MQ below (hQv D ad cI cJ cF (gset S 10 (m_X6_takesSheet P sheet))) args s 0 0 (hAd ad)) 3 68 [(0, .ref (ad 10 0)), (2, .int (hI y2))] (gset S 10 P1)) := by
    intro y2 P1 h_y2 h H locs ls hh hl
    have h := h (fun i k hi => hIn_rd hh.2.1 (gset_at _ _ _) hi)
    refine lv_iload_n hx hb dX6_takesSheet_68 rfl (lv_at hl 1 rfl) ?_
    refine lv_sipush (v := hI 209) hx hb dX6_takesSheet_69 (by decide) ?_
    refine lv_bipush (v := hI 16) hx hb dX6_takesSheet_72 (by decide) ?_
    refine lv_aload_n hx hb dX6_takesSheet_74 rfl (lv_at hl 0 rfl) ?_
    refine iv_get (v' := .ref (ad 10 1)) hx hb hts inX6 hown hK hh.1 (ob_Model) rfl 0 (by decide) (hts _ q3_160) rfl rfl rfl dX6_takesSheet_75 ?_
    refine lv_bipush (v := hI 7) hx hb dX6_takesSheet_78 (by decide) ?_
    refine iv_iald hx hb hK hh.1 (ia_10_1) ⟨by decide, by decide⟩ (v := (P1 1 7)) (congrArg (fun z => z 1 7) (gset_at _ _ _)) dX6_takesSheet_80 ?_
    have hm7 : hIn (P1 1 7) := hIn_rd hh.2.1 (gset_at _ _ _) (by decide)
    refine iv_imul hx hb dX6_takesSheet_81 ?_
    refine iv_iadd hx hb dX6_takesSheet_82 ?_
    obtain ⟨g8, h⟩ := h
    refine iv_icmp_ge (tgt := 107) hx hb h_y2 g8 dX6_takesSheet_83 (by decide) (fun c9 => ?_) (fun c9 => ?_)
    · have h := h.2 c9
      exact iv_vret E hh (by rw [← h]) dX6_takesSheet_107
    · have h := h.1 c9
      refine lv_aload_n hx hb dX6_takesSheet_86 rfl (lv_at hl 0 rfl) ?_
      refine iv_get (v' := .ref (ad 10 1)) hx hb hts inX6 hown hK hh.1 (ob_Model) rfl 0 (by decide) (hts _ q3_160) rfl rfl rfl dX6_takesSheet_87 ?_
      refine lv_iload_n hx hb dX6_takesSheet_90 rfl (lv_at hl 1 rfl) ?_
      refine lv_aload_n hx hb dX6_takesSheet_91 rfl (lv_at hl 0 rfl) ?_
      refine iv_get (v' := .ref (ad 10 1)) hx hb hts inX6 hown hK hh.1 (ob_Model) rfl 0 (by decide) (hts _ q3_160) rfl rfl rfl dX6_takesSheet_92 ?_
      refine lv_iload_n hx hb dX6_takesSheet_95 rfl (lv_at hl 1 rfl) ?_
      refine lv_bipush (v := hI 16) hx hb dX6_takesSheet_96 (by decide) ?_
      refine iv_iadd hx hb dX6_takesSheet_98 ?_
      obtain ⟨g10, h⟩ := h
      refine iv_iald hx hb hK hh.1 (ia_10_1) g10 (v := (P1 1 (y2 + 16))) (congrArg (fun z => z 1 (y2 + 16)) (gset_at _ _ _)) dX6_takesSheet_99 ?_
      have hm11 : hIn (P1 1 (y2 + 16)) := hIn_rd hh.2.1 (gset_at _ _ _) (by decide)
      obtain ⟨g12, h⟩ := h
      refine iv_iast (S' := (gset S 10 (aset P1 1 y2 (P1 1 (y2 + 16))))) hx hb hK hinj hh (ia_10_1) g12 hm11 (by rw [show (gset S 10 P1) 10 = P1 from (gset_at _ _ _)]; exact (gset_gset _ _ _ _)) dX6_takesSheet_100 (fun H locs hh => ?_)
      refine iv_iinc (lv' := [(2, .int (hI (y2 + 1))), (0, .ref (ad 10 0))]) hx hb dX6_takesSheet_101 hl (k := 1) rfl (v := (y2 + 1)) rfl (by decide) rfl (fun ls hl => ?_)
      refine lv_goto (tgt := 68) hx hb dX6_takesSheet_104 (by decide) ?_
      exact h H _ ls hh (lv_sub hl [1, 0] rfl)
  intro H locs ls hh hl
  have hl : lv_has ls 3 [(0, .ref (ad 10 0)), (1, .int (hI sheet))] := hl
  replace hh : hH D ad cI cJ cF (gset S 10 P) s H locs := by rw [← can1 hP]; exact hh
  have h := x_X6_takesSheet P sheet h_sheet (fun i k hi => hIn_rd hh.2.1 (gset_at _ _ _) hi) hp (fun y2 P1 => (hAt D ad cI cJ cF p l e ({ frames := 0, cells := 0, slots := 0, locals := 0 } : Room) s m args below meth c (MQ below (hQv D ad cI cJ cF (gset S 10 (m_X6_takesSheet P sheet))) args s 0 0 (hAd ad)) 3 20 [(0, .ref (ad 10 0)), (1, .int (hI sheet)), (2, .int (hI y2))] (gset S 10 P1))) (fun y2 P1 => (hAt D ad cI cJ cF p l e ({ frames := 0, cells := 0, slots := 0, locals := 0 } : Room) s m args below meth c (MQ below (hQv D ad cI cJ cF (gset S 10 (m_X6_takesSheet P sheet))) args s 0 0 (hAd ad)) 3 68 [(0, .ref (ad 10 0)), (2, .int (hI y2))] (gset S 10 P1))) (fun P1 => (P1 = m_X6_takesSheet P sheet)) r20 r68 rfl
  refine lv_aload_n hx hb dX6_takesSheet_0 rfl (lv_at hl 0 rfl) ?_
  refine iv_get (v' := .ref (ad 10 1)) hx hb hts inX6 hown hK hh.1 (ob_Model) rfl 0 (by decide) (hts _ q3_160) rfl rfl rfl dX6_takesSheet_1 ?_
  refine lv_bipush (v := hI 7) hx hb dX6_takesSheet_4 (by decide) ?_
  refine lv_dup2_11 hx hb dX6_takesSheet_6 rfl rfl ?_
  refine iv_iald hx hb hK hh.1 (ia_10_1) ⟨by decide, by decide⟩ (v := (P 1 7)) (congrArg (fun z => z 1 7) (gset_at _ _ _)) dX6_takesSheet_7 ?_
  have hm13 : hIn (P 1 7) := hIn_rd hh.2.1 (gset_at _ _ _) (by decide)
  refine iv_iconst hx hb dX6_takesSheet_8 ?_
  refine iv_isub hx hb dX6_takesSheet_9 ?_
  obtain ⟨g14, h⟩ := h
  refine iv_iast (S' := (gset S 10 (aset P 1 7 ((P 1 7) - 1)))) hx hb hK hinj hh (ia_10_1) ⟨by decide, by decide⟩ g14 (by rw [show (gset S 10 P) 10 = P from (gset_at _ _ _)]; exact (gset_gset _ _ _ _)) dX6_takesSheet_10 (fun H locs hh => ?_)
  refine lv_sipush (v := hI 169) hx hb dX6_takesSheet_11 (by decide) ?_
  refine lv_bipush (v := hI 10) hx hb dX6_takesSheet_14 (by decide) ?_
  refine lv_iload_n hx hb dX6_takesSheet_16 rfl (lv_at hl 1 rfl) ?_
  refine iv_imul hx hb dX6_takesSheet_17 ?_
  refine iv_iadd hx hb dX6_takesSheet_18 ?_
  refine lv_istore_n (lv' := [(2, .int (hI (169 + (10 * sheet)))), (0, .ref (ad 10 0)), (1, .int (hI sheet))]) hx hb dX6_takesSheet_19 rfl hl (by decide) rfl (fun ls hl => ?_)
  exact h H _ ls hh (lv_sub hl [1, 2, 0] rfl)
set_option maxHeartbeats 4000000 in
set_option maxRecDepth 100000 in
theorem ok_X6_make (l : Launch) (hinj : hInj ad) (S : hS) (P : hGM) (hP : S 10 = P) (size : Int) (h_size : hIn size) (hp : p_X6_make P size) : hMi D ad cI cJ cF l yX6_make cX6_make 6 (some .int) ({ frames := 5, cells := 0, slots := 0, locals := 119 } : Room) [.ref (ad 10 0), .int (hI size)] S (v_X6_make P size) (gset S 10 (m_X6_make P size)) := by
  refine hOf (S := S) l hinj (by decide +kernel) (Nat.le_of_ble_eq_true rfl) (fun p e s m args below meth c E => ?_)
  obtain ⟨hx, hb, hml, hown, hts, hK, hN, -, hr, hlk⟩ := id E
  have hown : s.vm.findClass RX6 = some m.cls := hown
  have r94 : ∀ (y3 : Int) (y4 : Int) (P1 : hGM), hIn y3 → hIn y4 → ((∀ (i : Nat) (k : Int), i < 100 → hIn (P1 i k)) → ((y4 < 8 → ((y4 < (P1 1 0) → (p_X6_lays P1 y4 size ∧ (p_X6_columns (m_X6_lays P1 y4 size) y4 size ∧ ((0 ≤ (((169 + (10 * y3)) + 2) + y4) ∧ (((169 + (10 * y3)) + 2) + y4) < 273) ∧ (p_X6_litHalf (aset (m_X6_lays P1 y4 size) 1 (((169 + (10 * y3)) + 2) + y4) (v_X6_columns (m_X6_lays P1 y4 size) y4 size)) y4 size 0 ∧ ((0 ≤ ((209 + (16 * y3)) + (2 * y4)) ∧ ((209 + (16 * y3)) + (2 * y4)) < 273) ∧ (p_X6_litHalf (aset (aset (m_X6_lays P1 y4 size) 1 (((169 + (10 * y3)) + 2) + y4) (v_X6_columns (m_X6_lays P1 y4 size) y4 size)) 1 ((209 + (16 * y3)) + (2 * y4)) (v_X6_litHalf (aset (m_X6_lays P1 y4 size) 1 (((169 + (10 * y3)) + 2) + y4) (v_X6_columns (m_X6_lays P1 y4 size) y4 size)) y4 size 0)) y4 size 1 ∧ ((0 ≤ (((209 + (16 * y3)) + (2 * y4)) + 1) ∧ (((209 + (16 * y3)) + (2 * y4)) + 1) < 273) ∧ (hAt D ad cI cJ cF p l e ({ frames := 5, cells := 0, slots := 0, locals := 119 } : Room) s m args below meth c (MQ below (hQi D ad cI cJ cF (v_X6_make P size) (gset S 10 (m_X6_make P size))) args s 0 0 (hAd ad)) 6 94 [(0, .ref (ad 10 0)), (1, .int (hI size)), (3, .int (hI y3)), (4, .int (hI (y4 + 1)))] (gset S 10 (aset (aset (aset (m_X6_lays P1 y4 size) 1 (((169 + (10 * y3)) + 2) + y4) (v_X6_columns (m_X6_lays P1 y4 size) y4 size)) 1 ((209 + (16 * y3)) + (2 * y4)) (v_X6_litHalf (aset (m_X6_lays P1 y4 size) 1 (((169 + (10 * y3)) + 2) + y4) (v_X6_columns (m_X6_lays P1 y4 size) y4 size)) y4 size 0)) 1 (((209 + (16 * y3)) + (2 * y4)) + 1) (v_X6_litHalf (aset (aset (m_X6_lays P1 y4 size) 1 (((169 + (10 * y3)) + 2) + y4) (v_X6_columns (m_X6_lays P1 y4 size) y4 size)) 1 ((209 + (16 * y3)) + (2 * y4)) (v_X6_litHalf (aset (m_X6_lays P1 y4 size) 1 (((169 + (10 * y3)) + 2) + y4) (v_X6_columns (m_X6_lays P1 y4 size) y4 size)) y4 size 0)) y4 size 1)))))))))))) ∧ (¬ y4 < (P1 1 0) → ((0 ≤ (((169 + (10 * y3)) + 2) + y4) ∧ (((169 + (10 * y3)) + 2) + y4) < 273) ∧ ((0 ≤ ((209 + (16 * y3)) + (2 * y4)) ∧ ((209 + (16 * y3)) + (2 * y4)) < 273) ∧ ((0 ≤ (((209 + (16 * y3)) + (2 * y4)) + 1) ∧ (((209 + (16 * y3)) + (2 * y4)) + 1) < 273) ∧ (hAt D ad cI cJ cF p l e ({ frames := 5, cells := 0, slots := 0, locals := 119 } : Room) s m args below meth c (MQ below (hQi D ad cI cJ cF (v_X6_make P size) (gset S 10 (m_X6_make P size))) args s 0 0 (hAd ad)) 6 94 [(0, .ref (ad 10 0)), (1, .int (hI size)), (3, .int (hI y3)), (4, .int (hI (y4 + 1)))] (gset S 10 (aset (aset (aset P1 1 (((169 + (10 * y3)) + 2) + y4) 0) 1 ((209 + (16 * y3)) + (2 * y4)) 0) 1 (((209 + (16 * y3)) + (2 * y4)) + 1) 0))))))))) ∧ (¬ y4 < 8 → (hIn ((P1 1 7) + 1) ∧ (hIn (((aset P1 1 7 ((P1 1 7) + 1)) 1 8) + 1) ∧ (((aset (aset P1 1 7 ((P1 1 7) + 1)) 1 8 (((aset P1 1 7 ((P1 1 7) + 1)) 1 8) + 1)) 1 7) = v_X6_make P size ∧ (aset (aset P1 1 7 ((P1 1 7) + 1)) 1 8 (((aset P1 1 7 ((P1 1 7) + 1)) 1 8) + 1)) = m_X6_make P size)))))) → (hAt D ad cI cJ cF p l e ({ frames := 5, cells := 0, slots := 0, locals := 119 } : Room) s m args below meth c (MQ below (hQi D ad cI cJ cF (v_X6_make P size) (gset S 10 (m_X6_make P size))) args s 0 0 (hAd ad)) 6 94 [(0, .ref (ad 10 0)), (1, .int (hI size)), (3, .int (hI y3)), (4, .int (hI y4))] (gset S 10 P1)) := by
    intro y3 y4 P1 h_y3 h_y4 h H locs ls hh hl
    have h := h (fun i k hi => hIn_rd hh.2.1 (gset_at _ _ _) hi)
    refine lv_iload hx hb dX6_make_94 (lv_at hl 3 rfl) ?_
    refine lv_bipush (v := hI 8) hx hb dX6_make_96 (by decide) ?_
    refine iv_icmp_ge (tgt := 243) hx hb h_y4 ⟨by decide, by decide⟩ dX6_make_98 (by decide) (fun c1 => ?_) (fun c1 => ?_)
    · have h := h.2 c1
      refine lv_aload_n hx hb dX6_make_243 rfl (lv_at hl 0 rfl) ?_
      refine iv_get (v' := .ref (ad 10 1)) hx hb hts inX6 hown hK hh.1 (ob_Model) rfl 0 (by decide) (hts _ q3_160) rfl rfl rfl dX6_make_244 ?_
      refine lv_bipush (v := hI 7) hx hb dX6_make_247 (by decide) ?_
      refine lv_dup2_11 hx hb dX6_make_249 rfl rfl ?_
      refine iv_iald hx hb hK hh.1 (ia_10_1) ⟨by decide, by decide⟩ (v := (P1 1 7)) (congrArg (fun z => z 1 7) (gset_at _ _ _)) dX6_make_250 ?_
      have hm2 : hIn (P1 1 7) := hIn_rd hh.2.1 (gset_at _ _ _) (by decide)
      refine iv_iconst hx hb dX6_make_251 ?_
      refine iv_iadd hx hb dX6_make_252 ?_
      obtain ⟨g3, h⟩ := h
      refine iv_iast (S' := (gset S 10 (aset P1 1 7 ((P1 1 7) + 1)))) hx hb hK hinj hh (ia_10_1) ⟨by decide, by decide⟩ g3 (by rw [show (gset S 10 P1) 10 = P1 from (gset_at _ _ _)]; exact (gset_gset _ _ _ _)) dX6_make_253 (fun H locs hh => ?_)
      refine lv_aload_n hx hb dX6_make_254 rfl (lv_at hl 0 rfl) ?_
      refine iv_get (v' := .ref (ad 10 1)) hx hb hts inX6 hown hK hh.1 (ob_Model) rfl 0 (by decide) (hts _ q3_160) rfl rfl rfl dX6_make_255 ?_
      refine lv_bipush (v := hI 8) hx hb dX6_make_258 (by decide) ?_
      refine lv_dup2_11 hx hb dX6_make_260 rfl rfl ?_
      refine iv_iald hx hb hK hh.1 (ia_10_1) ⟨by decide, by decide⟩ (v := ((aset P1 1 7 ((P1 1 7) + 1)) 1 8)) (congrArg (fun z => z 1 8) (gset_at _ _ _)) dX6_make_261 ?_
      have hm4 : hIn ((aset P1 1 7 ((P1 1 7) + 1)) 1 8) := hIn_rd hh.2.1 (gset_at _ _ _) (by decide)
      refine iv_iconst hx hb dX6_make_262 ?_
      refine iv_iadd hx hb dX6_make_263 ?_
      obtain ⟨g5, h⟩ := h
      refine iv_iast (S' := (gset S 10 (aset (aset P1 1 7 ((P1 1 7) + 1)) 1 8 (((aset P1 1 7 ((P1 1 7) + 1)) 1 8) + 1)))) hx hb hK hinj hh (ia_10_1) ⟨by decide, by decide⟩ g5 (by rw [show (gset S 10 (aset P1 1 7 ((P1 1 7) + 1))) 10 = (aset P1 1 7 ((P1 1 7) + 1)) from (gset_at _ _ _)]; exact (gset_gset _ _ _ _)) dX6_make_264 (fun H locs hh => ?_)
      refine lv_aload_n hx hb dX6_make_265 rfl (lv_at hl 0 rfl) ?_
      refine iv_get (v' := .ref (ad 10 1)) hx hb hts inX6 hown hK hh.1 (ob_Model) rfl 0 (by decide) (hts _ q3_160) rfl rfl rfl dX6_make_266 ?_
      refine lv_bipush (v := hI 7) hx hb dX6_make_269 (by decide) ?_
      refine iv_iald hx hb hK hh.1 (ia_10_1) ⟨by decide, by decide⟩ (v := ((aset (aset P1 1 7 ((P1 1 7) + 1)) 1 8 (((aset P1 1 7 ((P1 1 7) + 1)) 1 8) + 1)) 1 7)) (congrArg (fun z => z 1 7) (gset_at _ _ _)) dX6_make_271 ?_
      have hm6 : hIn ((aset (aset P1 1 7 ((P1 1 7) + 1)) 1 8 (((aset P1 1 7 ((P1 1 7) + 1)) 1 8) + 1)) 1 7) := hIn_rd hh.2.1 (gset_at _ _ _) (by decide)
      exact iv_iret E hh h.1 (by rw [← h.1]; exact hm6) (by rw [← h.2]) dX6_make_272
    · have h := h.1 c1
      refine lv_iload hx hb dX6_make_101 (lv_at hl 3 rfl) ?_
      refine lv_aload_n hx hb dX6_make_103 rfl (lv_at hl 0 rfl) ?_
      refine iv_get (v' := .ref (ad 10 1)) hx hb hts inX6 hown hK hh.1 (ob_Model) rfl 0 (by decide) (hts _ q3_160) rfl rfl rfl dX6_make_104 ?_
      refine iv_iconst hx hb dX6_make_107 ?_
      refine iv_iald hx hb hK hh.1 (ia_10_1) ⟨by decide, by decide⟩ (v := (P1 1 0)) (congrArg (fun z => z 1 0) (gset_at _ _ _)) dX6_make_108 ?_
      have hm7 : hIn (P1 1 0) := hIn_rd hh.2.1 (gset_at _ _ _) (by decide)
      refine iv_icmp_ge (tgt := 116) hx hb h_y4 hm7 dX6_make_109 (by decide) (fun c8 => ?_) (fun c8 => ?_)
      · have h := h.2 c8
        refine iv_iconst hx hb dX6_make_116 ?_
        refine lv_istore (lv' := [(5, .int (hI 0)), (0, .ref (ad 10 0)), (1, .int (hI size)), (3, .int (hI y3)), (4, .int (hI y4))]) hx hb dX6_make_117 hl (by decide) rfl (fun ls hl => ?_)
        refine lv_iload hx hb dX6_make_119 (lv_at hl 0 rfl) ?_
        refine iv_if_eq (tgt := 131) hx hb ⟨by decide, by decide⟩ dX6_make_121 (by decide) (fun c9 => ?_) (fun c9 => ?_)
        · refine lv_aload_n hx hb dX6_make_131 rfl (lv_at hl 1 rfl) ?_
          refine iv_get (v' := .ref (ad 10 1)) hx hb hts inX6 hown hK hh.1 (ob_Model) rfl 0 (by decide) (hts _ q3_160) rfl rfl rfl dX6_make_132 ?_
          refine lv_sipush (v := hI 169) hx hb dX6_make_135 (by decide) ?_
          refine lv_bipush (v := hI 10) hx hb dX6_make_138 (by decide) ?_
          refine lv_iload_n hx hb dX6_make_140 rfl (lv_at hl 3 rfl) ?_
          refine iv_imul hx hb dX6_make_141 ?_
          refine iv_iadd hx hb dX6_make_142 ?_
          refine iv_iconst hx hb dX6_make_143 ?_
          refine iv_iadd hx hb dX6_make_144 ?_
          refine lv_iload hx hb dX6_make_145 (lv_at hl 4 rfl) ?_
          refine iv_iadd hx hb dX6_make_147 ?_
          refine lv_iload hx hb dX6_make_148 (lv_at hl 0 rfl) ?_
          refine iv_if_eq (tgt := 163) hx hb ⟨by decide, by decide⟩ dX6_make_150 (by decide) (fun c10 => ?_) (fun c10 => ?_)
          · refine iv_iconst hx hb dX6_make_163 ?_
            obtain ⟨g11, h⟩ := h
            refine iv_iast (S' := (gset S 10 (aset P1 1 (((169 + (10 * y3)) + 2) + y4) 0))) hx hb hK hinj hh (ia_10_1) g11 ⟨by decide, by decide⟩ (by rw [show (gset S 10 P1) 10 = P1 from (gset_at _ _ _)]; exact (gset_gset _ _ _ _)) dX6_make_164 (fun H locs hh => ?_)
            refine lv_aload_n hx hb dX6_make_165 rfl (lv_at hl 1 rfl) ?_
            refine iv_get (v' := .ref (ad 10 1)) hx hb hts inX6 hown hK hh.1 (ob_Model) rfl 0 (by decide) (hts _ q3_160) rfl rfl rfl dX6_make_166 ?_
            refine lv_sipush (v := hI 209) hx hb dX6_make_169 (by decide) ?_
            refine lv_bipush (v := hI 16) hx hb dX6_make_172 (by decide) ?_
            refine lv_iload_n hx hb dX6_make_174 rfl (lv_at hl 3 rfl) ?_
            refine iv_imul hx hb dX6_make_175 ?_
            refine iv_iadd hx hb dX6_make_176 ?_
            refine iv_iconst hx hb dX6_make_177 ?_
            refine lv_iload hx hb dX6_make_178 (lv_at hl 4 rfl) ?_
            refine iv_imul hx hb dX6_make_180 ?_
            refine iv_iadd hx hb dX6_make_181 ?_
            refine lv_iload hx hb dX6_make_182 (lv_at hl 0 rfl) ?_
            refine iv_if_eq (tgt := 198) hx hb ⟨by decide, by decide⟩ dX6_make_184 (by decide) (fun c12 => ?_) (fun c12 => ?_)
            · refine iv_iconst hx hb dX6_make_198 ?_
              obtain ⟨g13, h⟩ := h
              refine iv_iast (S' := (gset S 10 (aset (aset P1 1 (((169 + (10 * y3)) + 2) + y4) 0) 1 ((209 + (16 * y3)) + (2 * y4)) 0))) hx hb hK hinj hh (ia_10_1) g13 ⟨by decide, by decide⟩ (by rw [show (gset S 10 (aset P1 1 (((169 + (10 * y3)) + 2) + y4) 0)) 10 = (aset P1 1 (((169 + (10 * y3)) + 2) + y4) 0) from (gset_at _ _ _)]; exact (gset_gset _ _ _ _)) dX6_make_199 (fun H locs hh => ?_)
              refine lv_aload_n hx hb dX6_make_200 rfl (lv_at hl 1 rfl) ?_
              refine iv_get (v' := .ref (ad 10 1)) hx hb hts inX6 hown hK hh.1 (ob_Model) rfl 0 (by decide) (hts _ q3_160) rfl rfl rfl dX6_make_201 ?_
              refine lv_sipush (v := hI 209) hx hb dX6_make_204 (by decide) ?_
              refine lv_bipush (v := hI 16) hx hb dX6_make_207 (by decide) ?_
              refine lv_iload_n hx hb dX6_make_209 rfl (lv_at hl 3 rfl) ?_
              refine iv_imul hx hb dX6_make_210 ?_
              refine iv_iadd hx hb dX6_make_211 ?_
              refine iv_iconst hx hb dX6_make_212 ?_
              refine lv_iload hx hb dX6_make_213 (lv_at hl 4 rfl) ?_
              refine iv_imul hx hb dX6_make_215 ?_
              refine iv_iadd hx hb dX6_make_216 ?_
              refine iv_iconst hx hb dX6_make_217 ?_
              refine iv_iadd hx hb dX6_make_218 ?_
              refine lv_iload hx hb dX6_make_219 (lv_at hl 0 rfl) ?_
              refine iv_if_eq (tgt := 235) hx hb ⟨by decide, by decide⟩ dX6_make_221 (by decide) (fun c14 => ?_) (fun c14 => ?_)
              · refine iv_iconst hx hb dX6_make_235 ?_
                obtain ⟨g15, h⟩ := h
                refine iv_iast (S' := (gset S 10 (aset (aset (aset P1 1 (((169 + (10 * y3)) + 2) + y4) 0) 1 ((209 + (16 * y3)) + (2 * y4)) 0) 1 (((209 + (16 * y3)) + (2 * y4)) + 1) 0))) hx hb hK hinj hh (ia_10_1) g15 ⟨by decide, by decide⟩ (by rw [show (gset S 10 (aset (aset P1 1 (((169 + (10 * y3)) + 2) + y4) 0) 1 ((209 + (16 * y3)) + (2 * y4)) 0)) 10 = (aset (aset P1 1 (((169 + (10 * y3)) + 2) + y4) 0) 1 ((209 + (16 * y3)) + (2 * y4)) 0) from (gset_at _ _ _)]; exact (gset_gset _ _ _ _)) dX6_make_236 (fun H locs hh => ?_)
                refine iv_iinc (lv' := [(4, .int (hI (y4 + 1))), (5, .int (hI 0)), (0, .ref (ad 10 0)), (1, .int (hI size)), (3, .int (hI y3))]) hx hb dX6_make_237 hl (k := 4) rfl (v := (y4 + 1)) rfl (by decide) rfl (fun ls hl => ?_)
                refine lv_goto (tgt := 94) hx hb dX6_make_240 (by decide) ?_
                exact h H _ ls hh (lv_sub hl [2, 3, 4, 0] rfl)
              · exact absurd c14 (by decide)
            · exact absurd c12 (by decide)
          · exact absurd c10 (by decide)
        · exact absurd c9 (by decide)
      · have h := h.1 c8
        refine iv_iconst hx hb dX6_make_112 ?_
        refine lv_goto (tgt := 117) hx hb dX6_make_113 (by decide) ?_
        refine lv_istore (lv' := [(5, .int (hI 1)), (0, .ref (ad 10 0)), (1, .int (hI size)), (3, .int (hI y3)), (4, .int (hI y4))]) hx hb dX6_make_117 hl (by decide) rfl (fun ls hl => ?_)
        refine lv_iload hx hb dX6_make_119 (lv_at hl 0 rfl) ?_
        refine iv_if_eq (tgt := 131) hx hb ⟨by decide, by decide⟩ dX6_make_121 (by decide) (fun c16 => ?_) (fun c16 => ?_)
        · exact absurd c16 (by decide)
        · refine lv_aload_n hx hb dX6_make_124 rfl (lv_at hl 1 rfl) ?_
          refine lv_iload hx hb dX6_make_125 (lv_at hl 4 rfl) ?_
          refine lv_iload_n hx hb dX6_make_127 rfl (lv_at hl 2 rfl) ?_
          obtain ⟨g17, h⟩ := h
          refine iv_kv (iv_rV (As := [.int (hI y4), .int (hI size)]) (rest := []) E hh (ok_X6_lays l hinj (gset S 10 P1) P1 (gset_at _ _ _) y4 size h_y4 h_size g17) cb_X6_lays q4_64 rfl rfl ⟨Nat.le_of_ble_eq_true rfl, Nat.le_of_ble_eq_true rfl⟩ (ob_Model) rfl rfl rfl hl.1 rfl (Nat.le_of_ble_eq_true rfl) dX6_make_128 ⟨Nat.zero_le _, Nat.zero_le _⟩) hh (fun H locs hh => ?_)
          replace hh : hH D ad cI cJ cF (gset S 10 (m_X6_lays P1 y4 size)) s H locs := by rw [← show _ = (gset S 10 (m_X6_lays P1 y4 size)) from (gset_gset _ _ _ _)]; exact hh
          refine lv_aload_n hx hb dX6_make_131 rfl (lv_at hl 1 rfl) ?_
          refine iv_get (v' := .ref (ad 10 1)) hx hb hts inX6 hown hK hh.1 (ob_Model) rfl 0 (by decide) (hts _ q3_160) rfl rfl rfl dX6_make_132 ?_
          refine lv_sipush (v := hI 169) hx hb dX6_make_135 (by decide) ?_
          refine lv_bipush (v := hI 10) hx hb dX6_make_138 (by decide) ?_
          refine lv_iload_n hx hb dX6_make_140 rfl (lv_at hl 3 rfl) ?_
          refine iv_imul hx hb dX6_make_141 ?_
          refine iv_iadd hx hb dX6_make_142 ?_
          refine iv_iconst hx hb dX6_make_143 ?_
          refine iv_iadd hx hb dX6_make_144 ?_
          refine lv_iload hx hb dX6_make_145 (lv_at hl 4 rfl) ?_
          refine iv_iadd hx hb dX6_make_147 ?_
          refine lv_iload hx hb dX6_make_148 (lv_at hl 0 rfl) ?_
          refine iv_if_eq (tgt := 163) hx hb ⟨by decide, by decide⟩ dX6_make_150 (by decide) (fun c18 => ?_) (fun c18 => ?_)
          · exact absurd c18 (by decide)
          · refine lv_aload_n hx hb dX6_make_153 rfl (lv_at hl 1 rfl) ?_
            refine lv_iload hx hb dX6_make_154 (lv_at hl 4 rfl) ?_
            refine lv_iload_n hx hb dX6_make_156 rfl (lv_at hl 2 rfl) ?_
            obtain ⟨g19, h⟩ := h
            refine iv_ki (iv_rV (As := [.int (hI y4), .int (hI size)]) (rest := [.int (hI (((169 + (10 * y3)) + 2) + y4)), .ref (ad 10 1)]) E hh (ok_X6_columns l hinj (gset S 10 (m_X6_lays P1 y4 size)) (m_X6_lays P1 y4 size) (gset_at _ _ _) y4 size h_y4 h_size g19) cb_X6_columns q4_86 rfl rfl ⟨Nat.le_of_ble_eq_true rfl, Nat.le_of_ble_eq_true rfl⟩ (ob_Model) rfl rfl rfl hl.1 rfl (Nat.le_of_ble_eq_true rfl) dX6_make_157 ⟨Nat.zero_le _, Nat.zero_le _⟩) hh (fun hc20 H locs hh => ?_)
            refine lv_goto (tgt := 164) hx hb dX6_make_160 (by decide) ?_
            obtain ⟨g21, h⟩ := h
            refine iv_iast (S' := (gset S 10 (aset (m_X6_lays P1 y4 size) 1 (((169 + (10 * y3)) + 2) + y4) (v_X6_columns (m_X6_lays P1 y4 size) y4 size)))) hx hb hK hinj hh (ia_10_1) g21 hc20 (by rw [show (gset S 10 (m_X6_lays P1 y4 size)) 10 = (m_X6_lays P1 y4 size) from (gset_at _ _ _)]; exact (gset_gset _ _ _ _)) dX6_make_164 (fun H locs hh => ?_)
            refine lv_aload_n hx hb dX6_make_165 rfl (lv_at hl 1 rfl) ?_
            refine iv_get (v' := .ref (ad 10 1)) hx hb hts inX6 hown hK hh.1 (ob_Model) rfl 0 (by decide) (hts _ q3_160) rfl rfl rfl dX6_make_166 ?_
            refine lv_sipush (v := hI 209) hx hb dX6_make_169 (by decide) ?_
            refine lv_bipush (v := hI 16) hx hb dX6_make_172 (by decide) ?_
            refine lv_iload_n hx hb dX6_make_174 rfl (lv_at hl 3 rfl) ?_
            refine iv_imul hx hb dX6_make_175 ?_
            refine iv_iadd hx hb dX6_make_176 ?_
            refine iv_iconst hx hb dX6_make_177 ?_
            refine lv_iload hx hb dX6_make_178 (lv_at hl 4 rfl) ?_
            refine iv_imul hx hb dX6_make_180 ?_
            refine iv_iadd hx hb dX6_make_181 ?_
            refine lv_iload hx hb dX6_make_182 (lv_at hl 0 rfl) ?_
            refine iv_if_eq (tgt := 198) hx hb ⟨by decide, by decide⟩ dX6_make_184 (by decide) (fun c22 => ?_) (fun c22 => ?_)
            · exact absurd c22 (by decide)
            · refine lv_aload_n hx hb dX6_make_187 rfl (lv_at hl 1 rfl) ?_
              refine lv_iload hx hb dX6_make_188 (lv_at hl 4 rfl) ?_
              refine lv_iload_n hx hb dX6_make_190 rfl (lv_at hl 2 rfl) ?_
              refine iv_iconst hx hb dX6_make_191 ?_
              obtain ⟨g23, h⟩ := h
              refine iv_ki (iv_rV (As := [.int (hI y4), .int (hI size), .int (hI 0)]) (rest := [.int (hI ((209 + (16 * y3)) + (2 * y4))), .ref (ad 10 1)]) E hh (ok_X6_litHalf l hinj (gset S 10 (aset (m_X6_lays P1 y4 size) 1 (((169 + (10 * y3)) + 2) + y4) (v_X6_columns (m_X6_lays P1 y4 size) y4 size))) (aset (m_X6_lays P1 y4 size) 1 (((169 + (10 * y3)) + 2) + y4) (v_X6_columns (m_X6_lays P1 y4 size) y4 size)) (gset_at _ _ _) y4 size 0 h_y4 h_size ⟨by decide, by decide⟩ g23) cb_X6_litHalf q4_90 rfl rfl ⟨Nat.le_of_ble_eq_true rfl, Nat.le_of_ble_eq_true rfl⟩ (ob_Model) rfl rfl rfl hl.1 rfl (Nat.le_of_ble_eq_true rfl) dX6_make_192 ⟨Nat.zero_le _, Nat.zero_le _⟩) hh (fun hc24 H locs hh => ?_)
              refine lv_goto (tgt := 199) hx hb dX6_make_195 (by decide) ?_
              obtain ⟨g25, h⟩ := h
              refine iv_iast (S' := (gset S 10 (aset (aset (m_X6_lays P1 y4 size) 1 (((169 + (10 * y3)) + 2) + y4) (v_X6_columns (m_X6_lays P1 y4 size) y4 size)) 1 ((209 + (16 * y3)) + (2 * y4)) (v_X6_litHalf (aset (m_X6_lays P1 y4 size) 1 (((169 + (10 * y3)) + 2) + y4) (v_X6_columns (m_X6_lays P1 y4 size) y4 size)) y4 size 0)))) hx hb hK hinj hh (ia_10_1) g25 hc24 (by rw [show (gset S 10 (aset (m_X6_lays P1 y4 size) 1 (((169 + (10 * y3)) + 2) + y4) (v_X6_columns (m_X6_lays P1 y4 size) y4 size))) 10 = (aset (m_X6_lays P1 y4 size) 1 (((169 + (10 * y3)) + 2) + y4) (v_X6_columns (m_X6_lays P1 y4 size) y4 size)) from (gset_at _ _ _)]; exact (gset_gset _ _ _ _)) dX6_make_199 (fun H locs hh => ?_)
              refine lv_aload_n hx hb dX6_make_200 rfl (lv_at hl 1 rfl) ?_
              refine iv_get (v' := .ref (ad 10 1)) hx hb hts inX6 hown hK hh.1 (ob_Model) rfl 0 (by decide) (hts _ q3_160) rfl rfl rfl dX6_make_201 ?_
              refine lv_sipush (v := hI 209) hx hb dX6_make_204 (by decide) ?_
              refine lv_bipush (v := hI 16) hx hb dX6_make_207 (by decide) ?_
              refine lv_iload_n hx hb dX6_make_209 rfl (lv_at hl 3 rfl) ?_
              refine iv_imul hx hb dX6_make_210 ?_
              refine iv_iadd hx hb dX6_make_211 ?_
              refine iv_iconst hx hb dX6_make_212 ?_
              refine lv_iload hx hb dX6_make_213 (lv_at hl 4 rfl) ?_
              refine iv_imul hx hb dX6_make_215 ?_
              refine iv_iadd hx hb dX6_make_216 ?_
              refine iv_iconst hx hb dX6_make_217 ?_
              refine iv_iadd hx hb dX6_make_218 ?_
              refine lv_iload hx hb dX6_make_219 (lv_at hl 0 rfl) ?_
              refine iv_if_eq (tgt := 235) hx hb ⟨by decide, by decide⟩ dX6_make_221 (by decide) (fun c26 => ?_) (fun c26 => ?_)
              · exact absurd c26 (by decide)
              · refine lv_aload_n hx hb dX6_make_224 rfl (lv_at hl 1 rfl) ?_
                refine lv_iload hx hb dX6_make_225 (lv_at hl 4 rfl) ?_
                refine lv_iload_n hx hb dX6_make_227 rfl (lv_at hl 2 rfl) ?_
                refine iv_iconst hx hb dX6_make_228 ?_
                obtain ⟨g27, h⟩ := h
                refine iv_ki (iv_rV (As := [.int (hI y4), .int (hI size), .int (hI 1)]) (rest := [.int (hI (((209 + (16 * y3)) + (2 * y4)) + 1)), .ref (ad 10 1)]) E hh (ok_X6_litHalf l hinj (gset S 10 (aset (aset (m_X6_lays P1 y4 size) 1 (((169 + (10 * y3)) + 2) + y4) (v_X6_columns (m_X6_lays P1 y4 size) y4 size)) 1 ((209 + (16 * y3)) + (2 * y4)) (v_X6_litHalf (aset (m_X6_lays P1 y4 size) 1 (((169 + (10 * y3)) + 2) + y4) (v_X6_columns (m_X6_lays P1 y4 size) y4 size)) y4 size 0))) (aset (aset (m_X6_lays P1 y4 size) 1 (((169 + (10 * y3)) + 2) + y4) (v_X6_columns (m_X6_lays P1 y4 size) y4 size)) 1 ((209 + (16 * y3)) + (2 * y4)) (v_X6_litHalf (aset (m_X6_lays P1 y4 size) 1 (((169 + (10 * y3)) + 2) + y4) (v_X6_columns (m_X6_lays P1 y4 size) y4 size)) y4 size 0)) (gset_at _ _ _) y4 size 1 h_y4 h_size ⟨by decide, by decide⟩ g27) cb_X6_litHalf q4_90 rfl rfl ⟨Nat.le_of_ble_eq_true rfl, Nat.le_of_ble_eq_true rfl⟩ (ob_Model) rfl rfl rfl hl.1 rfl (Nat.le_of_ble_eq_true rfl) dX6_make_229 ⟨Nat.zero_le _, Nat.zero_le _⟩) hh (fun hc28 H locs hh => ?_)
                refine lv_goto (tgt := 236) hx hb dX6_make_232 (by decide) ?_
                obtain ⟨g29, h⟩ := h
                refine iv_iast (S' := (gset S 10 (aset (aset (aset (m_X6_lays P1 y4 size) 1 (((169 + (10 * y3)) + 2) + y4) (v_X6_columns (m_X6_lays P1 y4 size) y4 size)) 1 ((209 + (16 * y3)) + (2 * y4)) (v_X6_litHalf (aset (m_X6_lays P1 y4 size) 1 (((169 + (10 * y3)) + 2) + y4) (v_X6_columns (m_X6_lays P1 y4 size) y4 size)) y4 size 0)) 1 (((209 + (16 * y3)) + (2 * y4)) + 1) (v_X6_litHalf (aset (aset (m_X6_lays P1 y4 size) 1 (((169 + (10 * y3)) + 2) + y4) (v_X6_columns (m_X6_lays P1 y4 size) y4 size)) 1 ((209 + (16 * y3)) + (2 * y4)) (v_X6_litHalf (aset (m_X6_lays P1 y4 size) 1 (((169 + (10 * y3)) + 2) + y4) (v_X6_columns (m_X6_lays P1 y4 size) y4 size)) y4 size 0)) y4 size 1)))) hx hb hK hinj hh (ia_10_1) g29 hc28 (by rw [show (gset S 10 (aset (aset (m_X6_lays P1 y4 size) 1 (((169 + (10 * y3)) + 2) + y4) (v_X6_columns (m_X6_lays P1 y4 size) y4 size)) 1 ((209 + (16 * y3)) + (2 * y4)) (v_X6_litHalf (aset (m_X6_lays P1 y4 size) 1 (((169 + (10 * y3)) + 2) + y4) (v_X6_columns (m_X6_lays P1 y4 size) y4 size)) y4 size 0))) 10 = (aset (aset (m_X6_lays P1 y4 size) 1 (((169 + (10 * y3)) + 2) + y4) (v_X6_columns (m_X6_lays P1 y4 size) y4 size)) 1 ((209 + (16 * y3)) + (2 * y4)) (v_X6_litHalf (aset (m_X6_lays P1 y4 size) 1 (((169 + (10 * y3)) + 2) + y4) (v_X6_columns (m_X6_lays P1 y4 size) y4 size)) y4 size 0)) from (gset_at _ _ _)]; exact (gset_gset _ _ _ _)) dX6_make_236 (fun H locs hh => ?_)
                refine iv_iinc (lv' := [(4, .int (hI (y4 + 1))), (5, .int (hI 1)), (0, .ref (ad 10 0)), (1, .int (hI size)), (3, .int (hI y3))]) hx hb dX6_make_237 hl (k := 4) rfl (v := (y4 + 1)) rfl (by decide) rfl (fun ls hl => ?_)
                refine lv_goto (tgt := 94) hx hb dX6_make_240 (by decide) ?_
                exact h H _ ls hh (lv_sub hl [2, 3, 4, 0] rfl)
  intro H locs ls hh hl
  have hl : lv_has ls 6 [(0, .ref (ad 10 0)), (1, .int (hI size))] := hl
  replace hh : hH D ad cI cJ cF (gset S 10 P) s H locs := by rw [← can1 hP]; exact hh
  have h := x_X6_make P size h_size (fun i k hi => hIn_rd hh.2.1 (gset_at _ _ _) hi) hp (fun y3 y4 P1 => (hAt D ad cI cJ cF p l e ({ frames := 5, cells := 0, slots := 0, locals := 119 } : Room) s m args below meth c (MQ below (hQi D ad cI cJ cF (v_X6_make P size) (gset S 10 (m_X6_make P size))) args s 0 0 (hAd ad)) 6 94 [(0, .ref (ad 10 0)), (1, .int (hI size)), (3, .int (hI y3)), (4, .int (hI y4))] (gset S 10 P1))) (fun r P1 => (r = v_X6_make P size ∧ P1 = m_X6_make P size)) r94 ⟨rfl, rfl⟩
  refine lv_iload_n hx hb dX6_make_0 rfl (lv_at hl 1 rfl) ?_
  refine iv_ki (iv_rS (As := [.int (hI size)]) (rest := []) E hh (ok_X6_isSize l hinj (gset S 10 P) size h_size) cb_X6_isSize q4_49 rfl rfl ⟨Nat.le_of_ble_eq_true rfl, Nat.le_of_ble_eq_true rfl⟩ rfl hl.1 rfl (Nat.le_of_ble_eq_true rfl) dX6_make_1 ⟨Nat.zero_le _, Nat.zero_le _⟩) hh (fun hc30 H locs hh => ?_)
  refine iv_if_ne (tgt := 10) hx hb hc30 dX6_make_4 (by decide) (fun c31 => ?_) (fun c31 => ?_)
  · have h := h.2 c31
    refine lv_aload_n hx hb dX6_make_10 rfl (lv_at hl 0 rfl) ?_
    obtain ⟨g32, h⟩ := h
    refine iv_kv (iv_rV (As := []) (rest := []) E hh (ok_X6_changes l hinj (gset S 10 P) P (gset_at _ _ _) g32) cb_X6_changes q3_221 rfl rfl ⟨Nat.le_of_ble_eq_true rfl, Nat.le_of_ble_eq_true rfl⟩ (ob_Model) rfl rfl rfl hl.1 rfl (Nat.le_of_ble_eq_true rfl) dX6_make_11 ⟨Nat.zero_le _, Nat.zero_le _⟩) hh (fun H locs hh => ?_)
    replace hh : hH D ad cI cJ cF (gset S 10 (m_X6_changes P)) s H locs := by rw [← show _ = (gset S 10 (m_X6_changes P)) from (gset_gset _ _ _ _)]; exact hh
    refine lv_aload_n hx hb dX6_make_14 rfl (lv_at hl 0 rfl) ?_
    refine lv_iload_n hx hb dX6_make_15 rfl (lv_at hl 1 rfl) ?_
    obtain ⟨g33, h⟩ := h
    refine iv_ki (iv_rV (As := [.int (hI size)]) (rest := []) E hh (ok_X6_sheetAt l hinj (gset S 10 (m_X6_changes P)) (m_X6_changes P) (gset_at _ _ _) size h_size g33) cb_X6_sheetAt q4_52 rfl rfl ⟨Nat.le_of_ble_eq_true rfl, Nat.le_of_ble_eq_true rfl⟩ (ob_Model) rfl rfl rfl hl.1 rfl (Nat.le_of_ble_eq_true rfl) dX6_make_16 ⟨Nat.zero_le _, Nat.zero_le _⟩) hh (fun hc34 H locs hh => ?_)
    refine lv_istore_n (lv' := [(2, .int (hI (v_X6_sheetAt (m_X6_changes P) size))), (0, .ref (ad 10 0)), (1, .int (hI size))]) hx hb dX6_make_19 rfl hl (by decide) rfl (fun ls hl => ?_)
    refine lv_iload_n hx hb dX6_make_20 rfl (lv_at hl 0 rfl) ?_
    refine iv_if_ge (tgt := 35) hx hb hc34 dX6_make_21 (by decide) (fun c35 => ?_) (fun c35 => ?_)
    · have h := h.2 c35
      refine lv_aload_n hx hb dX6_make_35 rfl (lv_at hl 1 rfl) ?_
      refine lv_iload_n hx hb dX6_make_36 rfl (lv_at hl 0 rfl) ?_
      refine iv_if_lt (tgt := 44) hx hb hc34 dX6_make_37 (by decide) (fun c36 => ?_) (fun c36 => ?_)
      · exact absurd c36 c35
      · refine lv_iload_n hx hb dX6_make_40 rfl (lv_at hl 0 rfl) ?_
        refine lv_goto (tgt := 45) hx hb dX6_make_41 (by decide) ?_
        obtain ⟨g37, h⟩ := h
        refine iv_kv (iv_rV (As := [.int (hI (v_X6_sheetAt (m_X6_changes P) size))]) (rest := []) E hh (ok_X6_takesSheet l hinj (gset S 10 (m_X6_changes P)) (m_X6_changes P) (gset_at _ _ _) (v_X6_sheetAt (m_X6_changes P) size) hc34 g37) cb_X6_takesSheet q4_60 rfl rfl ⟨Nat.le_of_ble_eq_true rfl, Nat.le_of_ble_eq_true rfl⟩ (ob_Model) rfl rfl rfl hl.1 rfl (Nat.le_of_ble_eq_true rfl) dX6_make_45 ⟨Nat.zero_le _, Nat.zero_le _⟩) hh (fun H locs hh => ?_)
        replace hh : hH D ad cI cJ cF (gset S 10 (m_X6_takesSheet (m_X6_changes P) (v_X6_sheetAt (m_X6_changes P) size))) s H locs := by rw [← show _ = (gset S 10 (m_X6_takesSheet (m_X6_changes P) (v_X6_sheetAt (m_X6_changes P) size))) from (gset_gset _ _ _ _)]; exact hh
        refine lv_aload_n hx hb dX6_make_48 rfl (lv_at hl 1 rfl) ?_
        refine iv_get (v' := .ref (ad 10 1)) hx hb hts inX6 hown hK hh.1 (ob_Model) rfl 0 (by decide) (hts _ q3_160) rfl rfl rfl dX6_make_49 ?_
        refine lv_bipush (v := hI 7) hx hb dX6_make_52 (by decide) ?_
        refine iv_iald hx hb hK hh.1 (ia_10_1) ⟨by decide, by decide⟩ (v := ((m_X6_takesSheet (m_X6_changes P) (v_X6_sheetAt (m_X6_changes P) size)) 1 7)) (congrArg (fun z => z 1 7) (gset_at _ _ _)) dX6_make_54 ?_
        have hm38 : hIn ((m_X6_takesSheet (m_X6_changes P) (v_X6_sheetAt (m_X6_changes P) size)) 1 7) := hIn_rd hh.2.1 (gset_at _ _ _) (by decide)
        refine lv_istore_n (lv' := [(3, .int (hI ((m_X6_takesSheet (m_X6_changes P) (v_X6_sheetAt (m_X6_changes P) size)) 1 7))), (2, .int (hI (v_X6_sheetAt (m_X6_changes P) size))), (0, .ref (ad 10 0)), (1, .int (hI size))]) hx hb dX6_make_55 rfl hl (by decide) rfl (fun ls hl => ?_)
        refine lv_aload_n hx hb dX6_make_56 rfl (lv_at hl 2 rfl) ?_
        refine iv_get (v' := .ref (ad 10 1)) hx hb hts inX6 hown hK hh.1 (ob_Model) rfl 0 (by decide) (hts _ q3_160) rfl rfl rfl dX6_make_57 ?_
        refine lv_sipush (v := hI 169) hx hb dX6_make_60 (by decide) ?_
        refine lv_bipush (v := hI 10) hx hb dX6_make_63 (by decide) ?_
        refine lv_iload_n hx hb dX6_make_65 rfl (lv_at hl 0 rfl) ?_
        refine iv_imul hx hb dX6_make_66 ?_
        refine iv_iadd hx hb dX6_make_67 ?_
        refine lv_iload_n hx hb dX6_make_68 rfl (lv_at hl 3 rfl) ?_
        obtain ⟨g39, h⟩ := h
        refine iv_iast (S' := (gset S 10 (aset (m_X6_takesSheet (m_X6_changes P) (v_X6_sheetAt (m_X6_changes P) size)) 1 (169 + (10 * ((m_X6_takesSheet (m_X6_changes P) (v_X6_sheetAt (m_X6_changes P) size)) 1 7))) size))) hx hb hK hinj hh (ia_10_1) g39 h_size (by rw [show (gset S 10 (m_X6_takesSheet (m_X6_changes P) (v_X6_sheetAt (m_X6_changes P) size))) 10 = (m_X6_takesSheet (m_X6_changes P) (v_X6_sheetAt (m_X6_changes P) size)) from (gset_at _ _ _)]; exact (gset_gset _ _ _ _)) dX6_make_69 (fun H locs hh => ?_)
        refine lv_aload_n hx hb dX6_make_70 rfl (lv_at hl 2 rfl) ?_
        refine iv_get (v' := .ref (ad 10 1)) hx hb hts inX6 hown hK hh.1 (ob_Model) rfl 0 (by decide) (hts _ q3_160) rfl rfl rfl dX6_make_71 ?_
        refine lv_sipush (v := hI 169) hx hb dX6_make_74 (by decide) ?_
        refine lv_bipush (v := hI 10) hx hb dX6_make_77 (by decide) ?_
        refine lv_iload_n hx hb dX6_make_79 rfl (lv_at hl 0 rfl) ?_
        refine iv_imul hx hb dX6_make_80 ?_
        refine iv_iadd hx hb dX6_make_81 ?_
        refine iv_iconst hx hb dX6_make_82 ?_
        refine iv_iadd hx hb dX6_make_83 ?_
        refine lv_aload_n hx hb dX6_make_84 rfl (lv_at hl 2 rfl) ?_
        refine iv_get (v' := .ref (ad 10 1)) hx hb hts inX6 hown hK hh.1 (ob_Model) rfl 0 (by decide) (hts _ q3_160) rfl rfl rfl dX6_make_85 ?_
        refine iv_iconst hx hb dX6_make_88 ?_
        refine iv_iald hx hb hK hh.1 (ia_10_1) ⟨by decide, by decide⟩ (v := ((aset (m_X6_takesSheet (m_X6_changes P) (v_X6_sheetAt (m_X6_changes P) size)) 1 (169 + (10 * ((m_X6_takesSheet (m_X6_changes P) (v_X6_sheetAt (m_X6_changes P) size)) 1 7))) size) 1 0)) (congrArg (fun z => z 1 0) (gset_at _ _ _)) dX6_make_89 ?_
        have hm40 : hIn ((aset (m_X6_takesSheet (m_X6_changes P) (v_X6_sheetAt (m_X6_changes P) size)) 1 (169 + (10 * ((m_X6_takesSheet (m_X6_changes P) (v_X6_sheetAt (m_X6_changes P) size)) 1 7))) size) 1 0) := hIn_rd hh.2.1 (gset_at _ _ _) (by decide)
        obtain ⟨g41, h⟩ := h
        refine iv_iast (S' := (gset S 10 (aset (aset (m_X6_takesSheet (m_X6_changes P) (v_X6_sheetAt (m_X6_changes P) size)) 1 (169 + (10 * ((m_X6_takesSheet (m_X6_changes P) (v_X6_sheetAt (m_X6_changes P) size)) 1 7))) size) 1 ((169 + (10 * ((m_X6_takesSheet (m_X6_changes P) (v_X6_sheetAt (m_X6_changes P) size)) 1 7))) + 1) ((aset (m_X6_takesSheet (m_X6_changes P) (v_X6_sheetAt (m_X6_changes P) size)) 1 (169 + (10 * ((m_X6_takesSheet (m_X6_changes P) (v_X6_sheetAt (m_X6_changes P) size)) 1 7))) size) 1 0)))) hx hb hK hinj hh (ia_10_1) g41 hm40 (by rw [show (gset S 10 (aset (m_X6_takesSheet (m_X6_changes P) (v_X6_sheetAt (m_X6_changes P) size)) 1 (169 + (10 * ((m_X6_takesSheet (m_X6_changes P) (v_X6_sheetAt (m_X6_changes P) size)) 1 7))) size)) 10 = (aset (m_X6_takesSheet (m_X6_changes P) (v_X6_sheetAt (m_X6_changes P) size)) 1 (169 + (10 * ((m_X6_takesSheet (m_X6_changes P) (v_X6_sheetAt (m_X6_changes P) size)) 1 7))) size) from (gset_at _ _ _)]; exact (gset_gset _ _ _ _)) dX6_make_90 (fun H locs hh => ?_)
        refine iv_iconst hx hb dX6_make_91 ?_
        refine lv_istore (lv' := [(4, .int (hI 0)), (3, .int (hI ((m_X6_takesSheet (m_X6_changes P) (v_X6_sheetAt (m_X6_changes P) size)) 1 7))), (2, .int (hI (v_X6_sheetAt (m_X6_changes P) size))), (0, .ref (ad 10 0)), (1, .int (hI size))]) hx hb dX6_make_92 hl (by decide) rfl (fun ls hl => ?_)
        exact h H _ ls hh (lv_sub hl [3, 4, 1, 0] rfl)
    · have h := h.1 c35
      refine lv_aload_n hx hb dX6_make_24 rfl (lv_at hl 1 rfl) ?_
      refine iv_get (v' := .ref (ad 10 1)) hx hb hts inX6 hown hK hh.1 (ob_Model) rfl 0 (by decide) (hts _ q3_160) rfl rfl rfl dX6_make_25 ?_
      refine lv_bipush (v := hI 7) hx hb dX6_make_28 (by decide) ?_
      refine iv_iald hx hb hK hh.1 (ia_10_1) ⟨by decide, by decide⟩ (v := ((m_X6_changes P) 1 7)) (congrArg (fun z => z 1 7) (gset_at _ _ _)) dX6_make_30 ?_
      have hm42 : hIn ((m_X6_changes P) 1 7) := hIn_rd hh.2.1 (gset_at _ _ _) (by decide)
      refine iv_iconst hx hb dX6_make_31 ?_
      refine iv_icmp_ne (tgt := 48) hx hb hm42 ⟨by decide, by decide⟩ dX6_make_32 (by decide) (fun c43 => ?_) (fun c43 => ?_)
      · have h := h.2 c43
        refine lv_aload_n hx hb dX6_make_48 rfl (lv_at hl 1 rfl) ?_
        refine iv_get (v' := .ref (ad 10 1)) hx hb hts inX6 hown hK hh.1 (ob_Model) rfl 0 (by decide) (hts _ q3_160) rfl rfl rfl dX6_make_49 ?_
        refine lv_bipush (v := hI 7) hx hb dX6_make_52 (by decide) ?_
        refine iv_iald hx hb hK hh.1 (ia_10_1) ⟨by decide, by decide⟩ (v := ((m_X6_changes P) 1 7)) (congrArg (fun z => z 1 7) (gset_at _ _ _)) dX6_make_54 ?_
        have hm44 : hIn ((m_X6_changes P) 1 7) := hIn_rd hh.2.1 (gset_at _ _ _) (by decide)
        refine lv_istore_n (lv' := [(3, .int (hI ((m_X6_changes P) 1 7))), (2, .int (hI (v_X6_sheetAt (m_X6_changes P) size))), (0, .ref (ad 10 0)), (1, .int (hI size))]) hx hb dX6_make_55 rfl hl (by decide) rfl (fun ls hl => ?_)
        refine lv_aload_n hx hb dX6_make_56 rfl (lv_at hl 2 rfl) ?_
        refine iv_get (v' := .ref (ad 10 1)) hx hb hts inX6 hown hK hh.1 (ob_Model) rfl 0 (by decide) (hts _ q3_160) rfl rfl rfl dX6_make_57 ?_
        refine lv_sipush (v := hI 169) hx hb dX6_make_60 (by decide) ?_
        refine lv_bipush (v := hI 10) hx hb dX6_make_63 (by decide) ?_
        refine lv_iload_n hx hb dX6_make_65 rfl (lv_at hl 0 rfl) ?_
        refine iv_imul hx hb dX6_make_66 ?_
        refine iv_iadd hx hb dX6_make_67 ?_
        refine lv_iload_n hx hb dX6_make_68 rfl (lv_at hl 3 rfl) ?_
        obtain ⟨g45, h⟩ := h
        refine iv_iast (S' := (gset S 10 (aset (m_X6_changes P) 1 (169 + (10 * ((m_X6_changes P) 1 7))) size))) hx hb hK hinj hh (ia_10_1) g45 h_size (by rw [show (gset S 10 (m_X6_changes P)) 10 = (m_X6_changes P) from (gset_at _ _ _)]; exact (gset_gset _ _ _ _)) dX6_make_69 (fun H locs hh => ?_)
        refine lv_aload_n hx hb dX6_make_70 rfl (lv_at hl 2 rfl) ?_
        refine iv_get (v' := .ref (ad 10 1)) hx hb hts inX6 hown hK hh.1 (ob_Model) rfl 0 (by decide) (hts _ q3_160) rfl rfl rfl dX6_make_71 ?_
        refine lv_sipush (v := hI 169) hx hb dX6_make_74 (by decide) ?_
        refine lv_bipush (v := hI 10) hx hb dX6_make_77 (by decide) ?_
        refine lv_iload_n hx hb dX6_make_79 rfl (lv_at hl 0 rfl) ?_
        refine iv_imul hx hb dX6_make_80 ?_
        refine iv_iadd hx hb dX6_make_81 ?_
        refine iv_iconst hx hb dX6_make_82 ?_
        refine iv_iadd hx hb dX6_make_83 ?_
        refine lv_aload_n hx hb dX6_make_84 rfl (lv_at hl 2 rfl) ?_
        refine iv_get (v' := .ref (ad 10 1)) hx hb hts inX6 hown hK hh.1 (ob_Model) rfl 0 (by decide) (hts _ q3_160) rfl rfl rfl dX6_make_85 ?_
        refine iv_iconst hx hb dX6_make_88 ?_
        refine iv_iald hx hb hK hh.1 (ia_10_1) ⟨by decide, by decide⟩ (v := ((aset (m_X6_changes P) 1 (169 + (10 * ((m_X6_changes P) 1 7))) size) 1 0)) (congrArg (fun z => z 1 0) (gset_at _ _ _)) dX6_make_89 ?_
        have hm46 : hIn ((aset (m_X6_changes P) 1 (169 + (10 * ((m_X6_changes P) 1 7))) size) 1 0) := hIn_rd hh.2.1 (gset_at _ _ _) (by decide)
        obtain ⟨g47, h⟩ := h
        refine iv_iast (S' := (gset S 10 (aset (aset (m_X6_changes P) 1 (169 + (10 * ((m_X6_changes P) 1 7))) size) 1 ((169 + (10 * ((m_X6_changes P) 1 7))) + 1) ((aset (m_X6_changes P) 1 (169 + (10 * ((m_X6_changes P) 1 7))) size) 1 0)))) hx hb hK hinj hh (ia_10_1) g47 hm46 (by rw [show (gset S 10 (aset (m_X6_changes P) 1 (169 + (10 * ((m_X6_changes P) 1 7))) size)) 10 = (aset (m_X6_changes P) 1 (169 + (10 * ((m_X6_changes P) 1 7))) size) from (gset_at _ _ _)]; exact (gset_gset _ _ _ _)) dX6_make_90 (fun H locs hh => ?_)
        refine iv_iconst hx hb dX6_make_91 ?_
        refine lv_istore (lv' := [(4, .int (hI 0)), (3, .int (hI ((m_X6_changes P) 1 7))), (2, .int (hI (v_X6_sheetAt (m_X6_changes P) size))), (0, .ref (ad 10 0)), (1, .int (hI size))]) hx hb dX6_make_92 hl (by decide) rfl (fun ls hl => ?_)
        exact h H _ ls hh (lv_sub hl [3, 4, 1, 0] rfl)
      · have h := h.1 c43
        refine lv_aload_n hx hb dX6_make_35 rfl (lv_at hl 1 rfl) ?_
        refine lv_iload_n hx hb dX6_make_36 rfl (lv_at hl 0 rfl) ?_
        refine iv_if_lt (tgt := 44) hx hb hc34 dX6_make_37 (by decide) (fun c48 => ?_) (fun c48 => ?_)
        · refine iv_iconst hx hb dX6_make_44 ?_
          obtain ⟨g49, h⟩ := h
          refine iv_kv (iv_rV (As := [.int (hI 0)]) (rest := []) E hh (ok_X6_takesSheet l hinj (gset S 10 (m_X6_changes P)) (m_X6_changes P) (gset_at _ _ _) 0 ⟨by decide, by decide⟩ g49) cb_X6_takesSheet q4_60 rfl rfl ⟨Nat.le_of_ble_eq_true rfl, Nat.le_of_ble_eq_true rfl⟩ (ob_Model) rfl rfl rfl hl.1 rfl (Nat.le_of_ble_eq_true rfl) dX6_make_45 ⟨Nat.zero_le _, Nat.zero_le _⟩) hh (fun H locs hh => ?_)
          replace hh : hH D ad cI cJ cF (gset S 10 (m_X6_takesSheet (m_X6_changes P) 0)) s H locs := by rw [← show _ = (gset S 10 (m_X6_takesSheet (m_X6_changes P) 0)) from (gset_gset _ _ _ _)]; exact hh
          refine lv_aload_n hx hb dX6_make_48 rfl (lv_at hl 1 rfl) ?_
          refine iv_get (v' := .ref (ad 10 1)) hx hb hts inX6 hown hK hh.1 (ob_Model) rfl 0 (by decide) (hts _ q3_160) rfl rfl rfl dX6_make_49 ?_
          refine lv_bipush (v := hI 7) hx hb dX6_make_52 (by decide) ?_
          refine iv_iald hx hb hK hh.1 (ia_10_1) ⟨by decide, by decide⟩ (v := ((m_X6_takesSheet (m_X6_changes P) 0) 1 7)) (congrArg (fun z => z 1 7) (gset_at _ _ _)) dX6_make_54 ?_
          have hm50 : hIn ((m_X6_takesSheet (m_X6_changes P) 0) 1 7) := hIn_rd hh.2.1 (gset_at _ _ _) (by decide)
          refine lv_istore_n (lv' := [(3, .int (hI ((m_X6_takesSheet (m_X6_changes P) 0) 1 7))), (2, .int (hI (v_X6_sheetAt (m_X6_changes P) size))), (0, .ref (ad 10 0)), (1, .int (hI size))]) hx hb dX6_make_55 rfl hl (by decide) rfl (fun ls hl => ?_)
          refine lv_aload_n hx hb dX6_make_56 rfl (lv_at hl 2 rfl) ?_
          refine iv_get (v' := .ref (ad 10 1)) hx hb hts inX6 hown hK hh.1 (ob_Model) rfl 0 (by decide) (hts _ q3_160) rfl rfl rfl dX6_make_57 ?_
          refine lv_sipush (v := hI 169) hx hb dX6_make_60 (by decide) ?_
          refine lv_bipush (v := hI 10) hx hb dX6_make_63 (by decide) ?_
          refine lv_iload_n hx hb dX6_make_65 rfl (lv_at hl 0 rfl) ?_
          refine iv_imul hx hb dX6_make_66 ?_
          refine iv_iadd hx hb dX6_make_67 ?_
          refine lv_iload_n hx hb dX6_make_68 rfl (lv_at hl 3 rfl) ?_
          obtain ⟨g51, h⟩ := h
          refine iv_iast (S' := (gset S 10 (aset (m_X6_takesSheet (m_X6_changes P) 0) 1 (169 + (10 * ((m_X6_takesSheet (m_X6_changes P) 0) 1 7))) size))) hx hb hK hinj hh (ia_10_1) g51 h_size (by rw [show (gset S 10 (m_X6_takesSheet (m_X6_changes P) 0)) 10 = (m_X6_takesSheet (m_X6_changes P) 0) from (gset_at _ _ _)]; exact (gset_gset _ _ _ _)) dX6_make_69 (fun H locs hh => ?_)
          refine lv_aload_n hx hb dX6_make_70 rfl (lv_at hl 2 rfl) ?_
          refine iv_get (v' := .ref (ad 10 1)) hx hb hts inX6 hown hK hh.1 (ob_Model) rfl 0 (by decide) (hts _ q3_160) rfl rfl rfl dX6_make_71 ?_
          refine lv_sipush (v := hI 169) hx hb dX6_make_74 (by decide) ?_
          refine lv_bipush (v := hI 10) hx hb dX6_make_77 (by decide) ?_
          refine lv_iload_n hx hb dX6_make_79 rfl (lv_at hl 0 rfl) ?_
          refine iv_imul hx hb dX6_make_80 ?_
          refine iv_iadd hx hb dX6_make_81 ?_
          refine iv_iconst hx hb dX6_make_82 ?_
          refine iv_iadd hx hb dX6_make_83 ?_
          refine lv_aload_n hx hb dX6_make_84 rfl (lv_at hl 2 rfl) ?_
          refine iv_get (v' := .ref (ad 10 1)) hx hb hts inX6 hown hK hh.1 (ob_Model) rfl 0 (by decide) (hts _ q3_160) rfl rfl rfl dX6_make_85 ?_
          refine iv_iconst hx hb dX6_make_88 ?_
          refine iv_iald hx hb hK hh.1 (ia_10_1) ⟨by decide, by decide⟩ (v := ((aset (m_X6_takesSheet (m_X6_changes P) 0) 1 (169 + (10 * ((m_X6_takesSheet (m_X6_changes P) 0) 1 7))) size) 1 0)) (congrArg (fun z => z 1 0) (gset_at _ _ _)) dX6_make_89 ?_
          have hm52 : hIn ((aset (m_X6_takesSheet (m_X6_changes P) 0) 1 (169 + (10 * ((m_X6_takesSheet (m_X6_changes P) 0) 1 7))) size) 1 0) := hIn_rd hh.2.1 (gset_at _ _ _) (by decide)
          obtain ⟨g53, h⟩ := h
          refine iv_iast (S' := (gset S 10 (aset (aset (m_X6_takesSheet (m_X6_changes P) 0) 1 (169 + (10 * ((m_X6_takesSheet (m_X6_changes P) 0) 1 7))) size) 1 ((169 + (10 * ((m_X6_takesSheet (m_X6_changes P) 0) 1 7))) + 1) ((aset (m_X6_takesSheet (m_X6_changes P) 0) 1 (169 + (10 * ((m_X6_takesSheet (m_X6_changes P) 0) 1 7))) size) 1 0)))) hx hb hK hinj hh (ia_10_1) g53 hm52 (by rw [show (gset S 10 (aset (m_X6_takesSheet (m_X6_changes P) 0) 1 (169 + (10 * ((m_X6_takesSheet (m_X6_changes P) 0) 1 7))) size)) 10 = (aset (m_X6_takesSheet (m_X6_changes P) 0) 1 (169 + (10 * ((m_X6_takesSheet (m_X6_changes P) 0) 1 7))) size) from (gset_at _ _ _)]; exact (gset_gset _ _ _ _)) dX6_make_90 (fun H locs hh => ?_)
          refine iv_iconst hx hb dX6_make_91 ?_
          refine lv_istore (lv' := [(4, .int (hI 0)), (3, .int (hI ((m_X6_takesSheet (m_X6_changes P) 0) 1 7))), (2, .int (hI (v_X6_sheetAt (m_X6_changes P) size))), (0, .ref (ad 10 0)), (1, .int (hI size))]) hx hb dX6_make_92 hl (by decide) rfl (fun ls hl => ?_)
          exact h H _ ls hh (lv_sub hl [3, 4, 1, 0] rfl)
        · exact absurd c35 c48
  · have h := h.1 c31
    refine iv_ldc (n := (-1000001)) hx hb (by decide) hown (hts _ q3_219) dX6_make_7 ?_
    exact iv_iret E hh h.1 (by rw [← h.1]; exact ⟨by decide, by decide⟩) (by rw [← h.2]) dX6_make_9
set_option maxHeartbeats 4000000 in
set_option maxRecDepth 100000 in
theorem ok_X6_isStale (l : Launch) (hinj : hInj ad) (S : hS) (P : hGM) (hP : S 10 = P) (sheet : Int) (h_sheet : hIn sheet) (hp : p_X6_isStale P sheet) : hMi D ad cI cJ cF l yX6_isStale cX6_isStale 6 (some .boolean) ({ frames := 5, cells := 0, slots := 0, locals := 119 } : Room) [.ref (ad 10 0), .int (hI sheet)] S (v_X6_isStale P sheet) (gset S 10 (m_X6_isStale P sheet)) := by
  refine hOf (S := S) l hinj (by decide +kernel) (Nat.le_of_ble_eq_true rfl) (fun p e s m args below meth c E => ?_)
  obtain ⟨hx, hb, hml, hown, hts, hK, hN, -, hr, hlk⟩ := id E
  have hown : s.vm.findClass RX6 = some m.cls := hown
  have r31 : ∀ (y2 : Int) (y3 : Int) (y4 : Int) (P1 : hGM), hIn y2 → hIn y3 → hIn y4 → ((∀ (i : Nat) (k : Int), i < 100 → hIn (P1 i k)) → (p_X6_ofSheet P1 sheet 1 ∧ ((y4 < (v_X6_ofSheet P1 sheet 1) → (p_X6_lays P1 y4 y2 ∧ ((y3 = 0 → (hIn (2 + y4) ∧ (p_X6_ofSheet (m_X6_lays P1 y4 y2) sheet (2 + y4) ∧ (p_X6_columns (m_X6_lays P1 y4 y2) y4 y2 ∧ (((v_X6_ofSheet (m_X6_lays P1 y4 y2) sheet (2 + y4)) = (v_X6_columns (m_X6_lays P1 y4 y2) y4 y2) → ((0 ≤ ((209 + (16 * sheet)) + (2 * y4)) ∧ ((209 + (16 * sheet)) + (2 * y4)) < 273) ∧ (p_X6_litHalf (m_X6_lays P1 y4 y2) y4 y2 0 ∧ ((((m_X6_lays P1 y4 y2) 1 ((209 + (16 * sheet)) + (2 * y4))) = (v_X6_litHalf (m_X6_lays P1 y4 y2) y4 y2 0) → ((0 ≤ (((209 + (16 * sheet)) + (2 * y4)) + 1) ∧ (((209 + (16 * sheet)) + (2 * y4)) + 1) < 273) ∧ (p_X6_litHalf (m_X6_lays P1 y4 y2) y4 y2 1 ∧ ((((m_X6_lays P1 y4 y2) 1 (((209 + (16 * sheet)) + (2 * y4)) + 1)) = (v_X6_litHalf (m_X6_lays P1 y4 y2) y4 y2 1) → (hAt D ad cI cJ cF p l e ({ frames := 5, cells := 0, slots := 0, locals := 119 } : Room) s m args below meth c (MQ below (hQi D ad cI cJ cF (v_X6_isStale P sheet) (gset S 10 (m_X6_isStale P sheet))) args s 0 0 (hAd ad)) 6 31 [(0, .ref (ad 10 0)), (1, .int (hI sheet)), (2, .int (hI y2)), (3, .int (hI 0)), (4, .int (hI (y4 + 1)))] (gset S 10 (m_X6_lays P1 y4 y2)))) ∧ (¬ ((m_X6_lays P1 y4 y2) 1 (((209 + (16 * sheet)) + (2 * y4)) + 1)) = (v_X6_litHalf (m_X6_lays P1 y4 y2) y4 y2 1) → (hAt D ad cI cJ cF p l e ({ frames := 5, cells := 0, slots := 0, locals := 119 } : Room) s m args below meth c (MQ below (hQi D ad cI cJ cF (v_X6_isStale P sheet) (gset S 10 (m_X6_isStale P sheet))) args s 0 0 (hAd ad)) 6 31 [(0, .ref (ad 10 0)), (1, .int (hI sheet)), (2, .int (hI y2)), (3, .int (hI 1)), (4, .int (hI (y4 + 1)))] (gset S 10 (m_X6_lays P1 y4 y2)))))))) ∧ (¬ ((m_X6_lays P1 y4 y2) 1 ((209 + (16 * sheet)) + (2 * y4))) = (v_X6_litHalf (m_X6_lays P1 y4 y2) y4 y2 0) → (hAt D ad cI cJ cF p l e ({ frames := 5, cells := 0, slots := 0, locals := 119 } : Room) s m args below meth c (MQ below (hQi D ad cI cJ cF (v_X6_isStale P sheet) (gset S 10 (m_X6_isStale P sheet))) args s 0 0 (hAd ad)) 6 31 [(0, .ref (ad 10 0)), (1, .int (hI sheet)), (2, .int (hI y2)), (3, .int (hI 1)), (4, .int (hI (y4 + 1)))] (gset S 10 (m_X6_lays P1 y4 y2)))))))) ∧ (¬ (v_X6_ofSheet (m_X6_lays P1 y4 y2) sheet (2 + y4)) = (v_X6_columns (m_X6_lays P1 y4 y2) y4 y2) → (hAt D ad cI cJ cF p l e ({ frames := 5, cells := 0, slots := 0, locals := 119 } : Room) s m args below meth c (MQ below (hQi D ad cI cJ cF (v_X6_isStale P sheet) (gset S 10 (m_X6_isStale P sheet))) args s 0 0 (hAd ad)) 6 31 [(0, .ref (ad 10 0)), (1, .int (hI sheet)), (2, .int (hI y2)), (3, .int (hI 1)), (4, .int (hI (y4 + 1)))] (gset S 10 (m_X6_lays P1 y4 y2))))))))) ∧ (¬ y3 = 0 → (hAt D ad cI cJ cF p l e ({ frames := 5, cells := 0, slots := 0, locals := 119 } : Room) s m args below meth c (MQ below (hQi D ad cI cJ cF (v_X6_isStale P sheet) (gset S 10 (m_X6_isStale P sheet))) args s 0 0 (hAd ad)) 6 31 [(0, .ref (ad 10 0)), (1, .int (hI sheet)), (2, .int (hI y2)), (3, .int (hI 1)), (4, .int (hI (y4 + 1)))] (gset S 10 (m_X6_lays P1 y4 y2))))))) ∧ (¬ y4 < (v_X6_ofSheet P1 sheet 1) → ((y3 = 0 ∨ y3 = 1) ∧ (y3 = v_X6_isStale P sheet ∧ P1 = m_X6_isStale P sheet)))))) → (hAt D ad cI cJ cF p l e ({ frames := 5, cells := 0, slots := 0, locals := 119 } : Room) s m args below meth c (MQ below (hQi D ad cI cJ cF (v_X6_isStale P sheet) (gset S 10 (m_X6_isStale P sheet))) args s 0 0 (hAd ad)) 6 31 [(0, .ref (ad 10 0)), (1, .int (hI sheet)), (2, .int (hI y2)), (3, .int (hI y3)), (4, .int (hI y4))] (gset S 10 P1)) := by
    intro y2 y3 y4 P1 h_y2 h_y3 h_y4 h H locs ls hh hl
    have h := h (fun i k hi => hIn_rd hh.2.1 (gset_at _ _ _) hi)
    refine lv_iload hx hb dX6_isStale_31 (lv_at hl 4 rfl) ?_
    refine lv_aload_n hx hb dX6_isStale_33 rfl (lv_at hl 0 rfl) ?_
    refine lv_iload_n hx hb dX6_isStale_34 rfl (lv_at hl 1 rfl) ?_
    refine iv_iconst hx hb dX6_isStale_35 ?_
    obtain ⟨g1, h⟩ := h
    refine iv_ki (iv_rV (As := [.int (hI sheet), .int (hI 1)]) (rest := [.int (hI y4)]) E hh (ok_X6_ofSheet l hinj (gset S 10 P1) P1 (gset_at _ _ _) sheet 1 h_sheet ⟨by decide, by decide⟩ g1) cb_X6_ofSheet q4_56 rfl rfl ⟨Nat.le_of_ble_eq_true rfl, Nat.le_of_ble_eq_true rfl⟩ (ob_Model) rfl rfl rfl hl.1 rfl (Nat.le_of_ble_eq_true rfl) dX6_isStale_36 ⟨Nat.zero_le _, Nat.zero_le _⟩) hh (fun hc2 H locs hh => ?_)
    refine iv_icmp_ge (tgt := 137) hx hb h_y4 hc2 dX6_isStale_39 (by decide) (fun c3 => ?_) (fun c3 => ?_)
    · have h := h.2 c3
      refine lv_iload_n hx hb dX6_isStale_137 rfl (lv_at hl 3 rfl) ?_
      obtain ⟨g4, h⟩ := h
      exact iv_bret E hh h.1 (by rw [← h.1]; exact g4) (by rw [← h.2]) dX6_isStale_138
    · have h := h.1 c3
      refine lv_aload_n hx hb dX6_isStale_42 rfl (lv_at hl 0 rfl) ?_
      refine lv_iload hx hb dX6_isStale_43 (lv_at hl 4 rfl) ?_
      refine lv_iload_n hx hb dX6_isStale_45 rfl (lv_at hl 2 rfl) ?_
      obtain ⟨g5, h⟩ := h
      refine iv_kv (iv_rV (As := [.int (hI y4), .int (hI y2)]) (rest := []) E hh (ok_X6_lays l hinj (gset S 10 P1) P1 (gset_at _ _ _) y4 y2 h_y4 h_y2 g5) cb_X6_lays q4_64 rfl rfl ⟨Nat.le_of_ble_eq_true rfl, Nat.le_of_ble_eq_true rfl⟩ (ob_Model) rfl rfl rfl hl.1 rfl (Nat.le_of_ble_eq_true rfl) dX6_isStale_46 ⟨Nat.zero_le _, Nat.zero_le _⟩) hh (fun H locs hh => ?_)
      replace hh : hH D ad cI cJ cF (gset S 10 (m_X6_lays P1 y4 y2)) s H locs := by rw [← show _ = (gset S 10 (m_X6_lays P1 y4 y2)) from (gset_gset _ _ _ _)]; exact hh
      refine lv_sipush (v := hI 209) hx hb dX6_isStale_49 (by decide) ?_
      refine lv_bipush (v := hI 16) hx hb dX6_isStale_52 (by decide) ?_
      refine lv_iload_n hx hb dX6_isStale_54 rfl (lv_at hl 1 rfl) ?_
      refine iv_imul hx hb dX6_isStale_55 ?_
      refine iv_iadd hx hb dX6_isStale_56 ?_
      refine iv_iconst hx hb dX6_isStale_57 ?_
      refine lv_iload hx hb dX6_isStale_58 (lv_at hl 4 rfl) ?_
      refine iv_imul hx hb dX6_isStale_60 ?_
      refine iv_iadd hx hb dX6_isStale_61 ?_
      refine lv_istore (lv' := [(5, .int (hI ((209 + (16 * sheet)) + (2 * y4)))), (0, .ref (ad 10 0)), (1, .int (hI sheet)), (2, .int (hI y2)), (3, .int (hI y3)), (4, .int (hI y4))]) hx hb dX6_isStale_62 hl (by decide) rfl (fun ls hl => ?_)
      refine lv_iload_n hx hb dX6_isStale_64 rfl (lv_at hl 4 rfl) ?_
      refine iv_if_ne (tgt := 125) hx hb h_y3 dX6_isStale_65 (by decide) (fun c6 => ?_) (fun c6 => ?_)
      · have h := h.2 c6
        refine iv_iconst hx hb dX6_isStale_125 ?_
        refine lv_goto (tgt := 130) hx hb dX6_isStale_126 (by decide) ?_
        refine lv_istore_n (lv' := [(3, .int (hI 1)), (5, .int (hI ((209 + (16 * sheet)) + (2 * y4)))), (0, .ref (ad 10 0)), (1, .int (hI sheet)), (2, .int (hI y2)), (4, .int (hI y4))]) hx hb dX6_isStale_130 rfl hl (by decide) rfl (fun ls hl => ?_)
        refine iv_iinc (lv' := [(4, .int (hI (y4 + 1))), (3, .int (hI 1)), (5, .int (hI ((209 + (16 * sheet)) + (2 * y4)))), (0, .ref (ad 10 0)), (1, .int (hI sheet)), (2, .int (hI y2))]) hx hb dX6_isStale_131 hl (k := 5) rfl (v := (y4 + 1)) rfl (by decide) rfl (fun ls hl => ?_)
        refine lv_goto (tgt := 31) hx hb dX6_isStale_134 (by decide) ?_
        exact h H _ ls hh (lv_sub hl [3, 4, 5, 1, 0] rfl)
      · have h := h.1 c6
        refine lv_aload_n hx hb dX6_isStale_68 rfl (lv_at hl 1 rfl) ?_
        refine lv_iload_n hx hb dX6_isStale_69 rfl (lv_at hl 2 rfl) ?_
        refine iv_iconst hx hb dX6_isStale_70 ?_
        refine lv_iload hx hb dX6_isStale_71 (lv_at hl 5 rfl) ?_
        refine iv_iadd hx hb dX6_isStale_73 ?_
        obtain ⟨g7, h⟩ := h
        obtain ⟨g8, h⟩ := h
        refine iv_ki (iv_rV (As := [.int (hI sheet), .int (hI (2 + y4))]) (rest := []) E hh (ok_X6_ofSheet l hinj (gset S 10 (m_X6_lays P1 y4 y2)) (m_X6_lays P1 y4 y2) (gset_at _ _ _) sheet (2 + y4) h_sheet g7 g8) cb_X6_ofSheet q4_56 rfl rfl ⟨Nat.le_of_ble_eq_true rfl, Nat.le_of_ble_eq_true rfl⟩ (ob_Model) rfl rfl rfl hl.1 rfl (Nat.le_of_ble_eq_true rfl) dX6_isStale_74 ⟨Nat.zero_le _, Nat.zero_le _⟩) hh (fun hc9 H locs hh => ?_)
        refine lv_aload_n hx hb dX6_isStale_77 rfl (lv_at hl 1 rfl) ?_
        refine lv_iload hx hb dX6_isStale_78 (lv_at hl 5 rfl) ?_
        refine lv_iload_n hx hb dX6_isStale_80 rfl (lv_at hl 3 rfl) ?_
        obtain ⟨g10, h⟩ := h
        refine iv_ki (iv_rV (As := [.int (hI y4), .int (hI y2)]) (rest := [.int (hI (v_X6_ofSheet (m_X6_lays P1 y4 y2) sheet (2 + y4)))]) E hh (ok_X6_columns l hinj (gset S 10 (m_X6_lays P1 y4 y2)) (m_X6_lays P1 y4 y2) (gset_at _ _ _) y4 y2 h_y4 h_y2 g10) cb_X6_columns q4_86 rfl rfl ⟨Nat.le_of_ble_eq_true rfl, Nat.le_of_ble_eq_true rfl⟩ (ob_Model) rfl rfl rfl hl.1 rfl (Nat.le_of_ble_eq_true rfl) dX6_isStale_81 ⟨Nat.zero_le _, Nat.zero_le _⟩) hh (fun hc11 H locs hh => ?_)
        refine iv_icmp_ne (tgt := 125) hx hb hc9 hc11 dX6_isStale_84 (by decide) (fun c12 => ?_) (fun c12 => ?_)
        · have h := h.2 c12
          refine iv_iconst hx hb dX6_isStale_125 ?_
          refine lv_goto (tgt := 130) hx hb dX6_isStale_126 (by decide) ?_
          refine lv_istore_n (lv' := [(3, .int (hI 1)), (5, .int (hI ((209 + (16 * sheet)) + (2 * y4)))), (0, .ref (ad 10 0)), (1, .int (hI sheet)), (2, .int (hI y2)), (4, .int (hI y4))]) hx hb dX6_isStale_130 rfl hl (by decide) rfl (fun ls hl => ?_)
          refine iv_iinc (lv' := [(4, .int (hI (y4 + 1))), (3, .int (hI 1)), (5, .int (hI ((209 + (16 * sheet)) + (2 * y4)))), (0, .ref (ad 10 0)), (1, .int (hI sheet)), (2, .int (hI y2))]) hx hb dX6_isStale_131 hl (k := 5) rfl (v := (y4 + 1)) rfl (by decide) rfl (fun ls hl => ?_)
          refine lv_goto (tgt := 31) hx hb dX6_isStale_134 (by decide) ?_
          exact h H _ ls hh (lv_sub hl [3, 4, 5, 1, 0] rfl)
        · have h := h.1 c12
          refine lv_aload_n hx hb dX6_isStale_87 rfl (lv_at hl 1 rfl) ?_
          refine iv_get (v' := .ref (ad 10 1)) hx hb hts inX6 hown hK hh.1 (ob_Model) rfl 0 (by decide) (hts _ q3_160) rfl rfl rfl dX6_isStale_88 ?_
          refine lv_iload hx hb dX6_isStale_91 (lv_at hl 0 rfl) ?_
          obtain ⟨g13, h⟩ := h
          refine iv_iald hx hb hK hh.1 (ia_10_1) g13 (v := ((m_X6_lays P1 y4 y2) 1 ((209 + (16 * sheet)) + (2 * y4)))) (congrArg (fun z => z 1 ((209 + (16 * sheet)) + (2 * y4))) (gset_at _ _ _)) dX6_isStale_93 ?_
          have hm14 : hIn ((m_X6_lays P1 y4 y2) 1 ((209 + (16 * sheet)) + (2 * y4))) := hIn_rd hh.2.1 (gset_at _ _ _) (by decide)
          refine lv_aload_n hx hb dX6_isStale_94 rfl (lv_at hl 1 rfl) ?_
          refine lv_iload hx hb dX6_isStale_95 (lv_at hl 5 rfl) ?_
          refine lv_iload_n hx hb dX6_isStale_97 rfl (lv_at hl 3 rfl) ?_
          refine iv_iconst hx hb dX6_isStale_98 ?_
          obtain ⟨g15, h⟩ := h
          refine iv_ki (iv_rV (As := [.int (hI y4), .int (hI y2), .int (hI 0)]) (rest := [.int (hI ((m_X6_lays P1 y4 y2) 1 ((209 + (16 * sheet)) + (2 * y4))))]) E hh (ok_X6_litHalf l hinj (gset S 10 (m_X6_lays P1 y4 y2)) (m_X6_lays P1 y4 y2) (gset_at _ _ _) y4 y2 0 h_y4 h_y2 ⟨by decide, by decide⟩ g15) cb_X6_litHalf q4_90 rfl rfl ⟨Nat.le_of_ble_eq_true rfl, Nat.le_of_ble_eq_true rfl⟩ (ob_Model) rfl rfl rfl hl.1 rfl (Nat.le_of_ble_eq_true rfl) dX6_isStale_99 ⟨Nat.zero_le _, Nat.zero_le _⟩) hh (fun hc16 H locs hh => ?_)
          refine iv_icmp_ne (tgt := 125) hx hb hm14 hc16 dX6_isStale_102 (by decide) (fun c17 => ?_) (fun c17 => ?_)
          · have h := h.2 c17
            refine iv_iconst hx hb dX6_isStale_125 ?_
            refine lv_goto (tgt := 130) hx hb dX6_isStale_126 (by decide) ?_
            refine lv_istore_n (lv' := [(3, .int (hI 1)), (5, .int (hI ((209 + (16 * sheet)) + (2 * y4)))), (0, .ref (ad 10 0)), (1, .int (hI sheet)), (2, .int (hI y2)), (4, .int (hI y4))]) hx hb dX6_isStale_130 rfl hl (by decide) rfl (fun ls hl => ?_)
            refine iv_iinc (lv' := [(4, .int (hI (y4 + 1))), (3, .int (hI 1)), (5, .int (hI ((209 + (16 * sheet)) + (2 * y4)))), (0, .ref (ad 10 0)), (1, .int (hI sheet)), (2, .int (hI y2))]) hx hb dX6_isStale_131 hl (k := 5) rfl (v := (y4 + 1)) rfl (by decide) rfl (fun ls hl => ?_)
            refine lv_goto (tgt := 31) hx hb dX6_isStale_134 (by decide) ?_
            exact h H _ ls hh (lv_sub hl [3, 4, 5, 1, 0] rfl)
          · have h := h.1 c17
            refine lv_aload_n hx hb dX6_isStale_105 rfl (lv_at hl 1 rfl) ?_
            refine iv_get (v' := .ref (ad 10 1)) hx hb hts inX6 hown hK hh.1 (ob_Model) rfl 0 (by decide) (hts _ q3_160) rfl rfl rfl dX6_isStale_106 ?_
            refine lv_iload hx hb dX6_isStale_109 (lv_at hl 0 rfl) ?_
            refine iv_iconst hx hb dX6_isStale_111 ?_
            refine iv_iadd hx hb dX6_isStale_112 ?_
            obtain ⟨g18, h⟩ := h
            refine iv_iald hx hb hK hh.1 (ia_10_1) g18 (v := ((m_X6_lays P1 y4 y2) 1 (((209 + (16 * sheet)) + (2 * y4)) + 1))) (congrArg (fun z => z 1 (((209 + (16 * sheet)) + (2 * y4)) + 1)) (gset_at _ _ _)) dX6_isStale_113 ?_
            have hm19 : hIn ((m_X6_lays P1 y4 y2) 1 (((209 + (16 * sheet)) + (2 * y4)) + 1)) := hIn_rd hh.2.1 (gset_at _ _ _) (by decide)
            refine lv_aload_n hx hb dX6_isStale_114 rfl (lv_at hl 1 rfl) ?_
            refine lv_iload hx hb dX6_isStale_115 (lv_at hl 5 rfl) ?_
            refine lv_iload_n hx hb dX6_isStale_117 rfl (lv_at hl 3 rfl) ?_
            refine iv_iconst hx hb dX6_isStale_118 ?_
            obtain ⟨g20, h⟩ := h
            refine iv_ki (iv_rV (As := [.int (hI y4), .int (hI y2), .int (hI 1)]) (rest := [.int (hI ((m_X6_lays P1 y4 y2) 1 (((209 + (16 * sheet)) + (2 * y4)) + 1)))]) E hh (ok_X6_litHalf l hinj (gset S 10 (m_X6_lays P1 y4 y2)) (m_X6_lays P1 y4 y2) (gset_at _ _ _) y4 y2 1 h_y4 h_y2 ⟨by decide, by decide⟩ g20) cb_X6_litHalf q4_90 rfl rfl ⟨Nat.le_of_ble_eq_true rfl, Nat.le_of_ble_eq_true rfl⟩ (ob_Model) rfl rfl rfl hl.1 rfl (Nat.le_of_ble_eq_true rfl) dX6_isStale_119 ⟨Nat.zero_le _, Nat.zero_le _⟩) hh (fun hc21 H locs hh => ?_)
            refine iv_icmp_eq (tgt := 129) hx hb hm19 hc21 dX6_isStale_122 (by decide) (fun c22 => ?_) (fun c22 => ?_)
            · have h := h.1 c22
              refine iv_iconst hx hb dX6_isStale_129 ?_
              refine lv_istore_n (lv' := [(3, .int (hI 0)), (5, .int (hI ((209 + (16 * sheet)) + (2 * y4)))), (0, .ref (ad 10 0)), (1, .int (hI sheet)), (2, .int (hI y2)), (4, .int (hI y4))]) hx hb dX6_isStale_130 rfl hl (by decide) rfl (fun ls hl => ?_)
              refine iv_iinc (lv' := [(4, .int (hI (y4 + 1))), (3, .int (hI 0)), (5, .int (hI ((209 + (16 * sheet)) + (2 * y4)))), (0, .ref (ad 10 0)), (1, .int (hI sheet)), (2, .int (hI y2))]) hx hb dX6_isStale_131 hl (k := 5) rfl (v := (y4 + 1)) rfl (by decide) rfl (fun ls hl => ?_)
              refine lv_goto (tgt := 31) hx hb dX6_isStale_134 (by decide) ?_
              exact h H _ ls hh (lv_sub hl [3, 4, 5, 1, 0] rfl)
            · have h := h.2 c22
              refine iv_iconst hx hb dX6_isStale_125 ?_
              refine lv_goto (tgt := 130) hx hb dX6_isStale_126 (by decide) ?_
              refine lv_istore_n (lv' := [(3, .int (hI 1)), (5, .int (hI ((209 + (16 * sheet)) + (2 * y4)))), (0, .ref (ad 10 0)), (1, .int (hI sheet)), (2, .int (hI y2)), (4, .int (hI y4))]) hx hb dX6_isStale_130 rfl hl (by decide) rfl (fun ls hl => ?_)
              refine iv_iinc (lv' := [(4, .int (hI (y4 + 1))), (3, .int (hI 1)), (5, .int (hI ((209 + (16 * sheet)) + (2 * y4)))), (0, .ref (ad 10 0)), (1, .int (hI sheet)), (2, .int (hI y2))]) hx hb dX6_isStale_131 hl (k := 5) rfl (v := (y4 + 1)) rfl (by decide) rfl (fun ls hl => ?_)
              refine lv_goto (tgt := 31) hx hb dX6_isStale_134 (by decide) ?_
              exact h H _ ls hh (lv_sub hl [3, 4, 5, 1, 0] rfl)
  intro H locs ls hh hl
  have hl : lv_has ls 6 [(0, .ref (ad 10 0)), (1, .int (hI sheet))] := hl
  replace hh : hH D ad cI cJ cF (gset S 10 P) s H locs := by rw [← can1 hP]; exact hh
  have h := x_X6_isStale P sheet h_sheet (fun i k hi => hIn_rd hh.2.1 (gset_at _ _ _) hi) hp (fun y2 y3 y4 P1 => (hAt D ad cI cJ cF p l e ({ frames := 5, cells := 0, slots := 0, locals := 119 } : Room) s m args below meth c (MQ below (hQi D ad cI cJ cF (v_X6_isStale P sheet) (gset S 10 (m_X6_isStale P sheet))) args s 0 0 (hAd ad)) 6 31 [(0, .ref (ad 10 0)), (1, .int (hI sheet)), (2, .int (hI y2)), (3, .int (hI y3)), (4, .int (hI y4))] (gset S 10 P1))) (fun r P1 => (r = v_X6_isStale P sheet ∧ P1 = m_X6_isStale P sheet)) r31 ⟨rfl, rfl⟩
  refine lv_aload_n hx hb dX6_isStale_0 rfl (lv_at hl 0 rfl) ?_
  refine lv_iload_n hx hb dX6_isStale_1 rfl (lv_at hl 1 rfl) ?_
  refine iv_iconst hx hb dX6_isStale_2 ?_
  obtain ⟨g23, h⟩ := h
  refine iv_ki (iv_rV (As := [.int (hI sheet), .int (hI 0)]) (rest := []) E hh (ok_X6_ofSheet l hinj (gset S 10 P) P (gset_at _ _ _) sheet 0 h_sheet ⟨by decide, by decide⟩ g23) cb_X6_ofSheet q4_56 rfl rfl ⟨Nat.le_of_ble_eq_true rfl, Nat.le_of_ble_eq_true rfl⟩ (ob_Model) rfl rfl rfl hl.1 rfl (Nat.le_of_ble_eq_true rfl) dX6_isStale_3 ⟨Nat.zero_le _, Nat.zero_le _⟩) hh (fun hc24 H locs hh => ?_)
  refine lv_istore_n (lv' := [(2, .int (hI (v_X6_ofSheet P sheet 0))), (0, .ref (ad 10 0)), (1, .int (hI sheet))]) hx hb dX6_isStale_6 rfl hl (by decide) rfl (fun ls hl => ?_)
  refine lv_aload_n hx hb dX6_isStale_7 rfl (lv_at hl 1 rfl) ?_
  refine iv_get (v' := .ref (ad 10 1)) hx hb hts inX6 hown hK hh.1 (ob_Model) rfl 0 (by decide) (hts _ q3_160) rfl rfl rfl dX6_isStale_8 ?_
  refine iv_iconst hx hb dX6_isStale_11 ?_
  refine iv_iald hx hb hK hh.1 (ia_10_1) ⟨by decide, by decide⟩ (v := (P 1 0)) (congrArg (fun z => z 1 0) (gset_at _ _ _)) dX6_isStale_12 ?_
  have hm25 : hIn (P 1 0) := hIn_rd hh.2.1 (gset_at _ _ _) (by decide)
  refine lv_aload_n hx hb dX6_isStale_13 rfl (lv_at hl 1 rfl) ?_
  refine lv_iload_n hx hb dX6_isStale_14 rfl (lv_at hl 2 rfl) ?_
  refine iv_iconst hx hb dX6_isStale_15 ?_
  obtain ⟨g26, h⟩ := h
  refine iv_ki (iv_rV (As := [.int (hI sheet), .int (hI 1)]) (rest := [.int (hI (P 1 0))]) E hh (ok_X6_ofSheet l hinj (gset S 10 P) P (gset_at _ _ _) sheet 1 h_sheet ⟨by decide, by decide⟩ g26) cb_X6_ofSheet q4_56 rfl rfl ⟨Nat.le_of_ble_eq_true rfl, Nat.le_of_ble_eq_true rfl⟩ (ob_Model) rfl rfl rfl hl.1 rfl (Nat.le_of_ble_eq_true rfl) dX6_isStale_16 ⟨Nat.zero_le _, Nat.zero_le _⟩) hh (fun hc27 H locs hh => ?_)
  refine iv_icmp_le (tgt := 26) hx hb hm25 hc27 dX6_isStale_19 (by decide) (fun c28 => ?_) (fun c28 => ?_)
  · have h := h.1 c28
    refine iv_iconst hx hb dX6_isStale_26 ?_
    refine lv_istore_n (lv' := [(3, .int (hI 0)), (2, .int (hI (v_X6_ofSheet P sheet 0))), (0, .ref (ad 10 0)), (1, .int (hI sheet))]) hx hb dX6_isStale_27 rfl hl (by decide) rfl (fun ls hl => ?_)
    refine iv_iconst hx hb dX6_isStale_28 ?_
    refine lv_istore (lv' := [(4, .int (hI 0)), (3, .int (hI 0)), (2, .int (hI (v_X6_ofSheet P sheet 0))), (0, .ref (ad 10 0)), (1, .int (hI sheet))]) hx hb dX6_isStale_29 hl (by decide) rfl (fun ls hl => ?_)
    exact h H _ ls hh (lv_sub hl [3, 4, 2, 1, 0] rfl)
  · have h := h.2 c28
    refine iv_iconst hx hb dX6_isStale_22 ?_
    refine lv_goto (tgt := 27) hx hb dX6_isStale_23 (by decide) ?_
    refine lv_istore_n (lv' := [(3, .int (hI 1)), (2, .int (hI (v_X6_ofSheet P sheet 0))), (0, .ref (ad 10 0)), (1, .int (hI sheet))]) hx hb dX6_isStale_27 rfl hl (by decide) rfl (fun ls hl => ?_)
    refine iv_iconst hx hb dX6_isStale_28 ?_
    refine lv_istore (lv' := [(4, .int (hI 0)), (3, .int (hI 1)), (2, .int (hI (v_X6_ofSheet P sheet 0))), (0, .ref (ad 10 0)), (1, .int (hI sheet))]) hx hb dX6_isStale_29 hl (by decide) rfl (fun ls hl => ?_)
    exact h H _ ls hh (lv_sub hl [3, 4, 2, 1, 0] rfl)
set_option maxHeartbeats 4000000 in
set_option maxRecDepth 100000 in
theorem ok_X6_ones (l : Launch) (hinj : hInj ad) (S : hS) (set : Int) (h_set : hIn set) (hp : p_X6_ones set) : hMi D ad cI cJ cF l yX6_ones cX6_ones 3 (some .int) ({ frames := 0, cells := 0, slots := 0, locals := 0 } : Room) [.int (hI set)] S (v_X6_ones set) S := by
  refine hOf (S := S) l hinj (by decide +kernel) (Nat.le_of_ble_eq_true rfl) (fun p e s m args below meth c E => ?_)
  obtain ⟨hx, hb, hml, hown, hts, hK, hN, -, hr, hlk⟩ := id E
  have hown : s.vm.findClass RX6 = some m.cls := hown
  have r4 : ∀ (y1 : Int) (y2 : Int), hIn y1 → hIn y2 → (((y2 = 0 → (y1 = v_X6_ones set)) ∧ (¬ y2 = 0 → (hAt D ad cI cJ cF p l e ({ frames := 0, cells := 0, slots := 0, locals := 0 } : Room) s m args below meth c (MQ below (hQi D ad cI cJ cF (v_X6_ones set) S) args s 0 0 (hAd ad)) 3 4 [(1, .int (hI (y1 + 1))), (2, .int (hI (iAnd y2 (y2 - 1))))] S)))) → (hAt D ad cI cJ cF p l e ({ frames := 0, cells := 0, slots := 0, locals := 0 } : Room) s m args below meth c (MQ below (hQi D ad cI cJ cF (v_X6_ones set) S) args s 0 0 (hAd ad)) 3 4 [(1, .int (hI y1)), (2, .int (hI y2))] S) := by
    intro y1 y2 h_y1 h_y2 h H locs ls hh hl
    refine lv_iload_n hx hb dX6_ones_4 rfl (lv_at hl 1 rfl) ?_
    refine iv_if_eq (tgt := 20) hx hb h_y2 dX6_ones_5 (by decide) (fun c1 => ?_) (fun c1 => ?_)
    · have h := h.1 c1
      refine lv_iload_n hx hb dX6_ones_20 rfl (lv_at hl 0 rfl) ?_
      exact iv_iret E hh h (by rw [← h]; exact h_y1) rfl dX6_ones_21
    · have h := h.2 c1
      refine iv_iinc (lv' := [(1, .int (hI (y1 + 1))), (2, .int (hI y2))]) hx hb dX6_ones_8 hl (k := 0) rfl (v := (y1 + 1)) rfl (by decide) rfl (fun ls hl => ?_)
      refine lv_iload_n hx hb dX6_ones_11 rfl (lv_at hl 1 rfl) ?_
      refine lv_iload_n hx hb dX6_ones_12 rfl (lv_at hl 1 rfl) ?_
      refine iv_iconst hx hb dX6_ones_13 ?_
      refine iv_isub hx hb dX6_ones_14 ?_
      refine iv_iand hx hb dX6_ones_15 ?_
      refine lv_istore_n (lv' := [(2, .int (hI (iAnd y2 (y2 - 1)))), (1, .int (hI (y1 + 1)))]) hx hb dX6_ones_16 rfl hl (by decide) rfl (fun ls hl => ?_)
      refine lv_goto (tgt := 4) hx hb dX6_ones_17 (by decide) ?_
      exact h H _ ls hh (lv_sub hl [1, 0] rfl)
  intro H locs ls hh hl
  have hl : lv_has ls 3 [(0, .int (hI set))] := hl
  have h := x_X6_ones set h_set hp (fun y1 y2 => (hAt D ad cI cJ cF p l e ({ frames := 0, cells := 0, slots := 0, locals := 0 } : Room) s m args below meth c (MQ below (hQi D ad cI cJ cF (v_X6_ones set) S) args s 0 0 (hAd ad)) 3 4 [(1, .int (hI y1)), (2, .int (hI y2))] S)) (fun r => (r = v_X6_ones set)) r4 rfl
  refine iv_iconst hx hb dX6_ones_0 ?_
  refine lv_istore_n (lv' := [(1, .int (hI 0)), (0, .int (hI set))]) hx hb dX6_ones_1 rfl hl (by decide) rfl (fun ls hl => ?_)
  refine lv_iload_n hx hb dX6_ones_2 rfl (lv_at hl 1 rfl) ?_
  refine lv_istore_n (lv' := [(2, .int (hI set)), (1, .int (hI 0)), (0, .int (hI set))]) hx hb dX6_ones_3 rfl hl (by decide) rfl (fun ls hl => ?_)
  exact h H _ ls hh (lv_sub hl [1, 0] rfl)
set_option maxHeartbeats 4000000 in
set_option maxRecDepth 100000 in
theorem ok_X6_litIn (l : Launch) (hinj : hInj ad) (S : hS) (P : hGM) (hP : S 10 = P) (sheet : Int) (h_sheet : hIn sheet) (hp : p_X6_litIn P sheet) : hMi D ad cI cJ cF l yX6_litIn cX6_litIn 4 (some .int) ({ frames := 1, cells := 0, slots := 0, locals := 22 } : Room) [.ref (ad 10 0), .int (hI sheet)] S (v_X6_litIn P sheet) S := by
  refine hOf (S := S) l hinj (by decide +kernel) (Nat.le_of_ble_eq_true rfl) (fun p e s m args below meth c E => ?_)
  obtain ⟨hx, hb, hml, hown, hts, hK, hN, -, hr, hlk⟩ := id E
  have hown : s.vm.findClass RX6 = some m.cls := hown
  have r4 : ∀ (y2 : Int) (y3 : Int), hIn y2 → hIn y3 → (((y3 < 16 → ((0 ≤ ((209 + (16 * sheet)) + y3) ∧ ((209 + (16 * sheet)) + y3) < 273) ∧ (p_X6_ones (P 1 ((209 + (16 * sheet)) + y3)) ∧ (hAt D ad cI cJ cF p l e ({ frames := 1, cells := 0, slots := 0, locals := 22 } : Room) s m args below meth c (MQ below (hQi D ad cI cJ cF (v_X6_litIn P sheet) S) args s 0 0 (hAd ad)) 4 4 [(0, .ref (ad 10 0)), (1, .int (hI sheet)), (2, .int (hI (y2 + (v_X6_ones (P 1 ((209 + (16 * sheet)) + y3)))))), (3, .int (hI (y3 + 1)))] S)))) ∧ (¬ y3 < 16 → (y2 = v_X6_litIn P sheet)))) → (hAt D ad cI cJ cF p l e ({ frames := 1, cells := 0, slots := 0, locals := 22 } : Room) s m args below meth c (MQ below (hQi D ad cI cJ cF (v_X6_litIn P sheet) S) args s 0 0 (hAd ad)) 4 4 [(0, .ref (ad 10 0)), (1, .int (hI sheet)), (2, .int (hI y2)), (3, .int (hI y3))] S) := by
    intro y2 y3 h_y2 h_y3 h H locs ls hh hl
    refine lv_iload_n hx hb dX6_litIn_4 rfl (lv_at hl 3 rfl) ?_
    refine lv_bipush (v := hI 16) hx hb dX6_litIn_5 (by decide) ?_
    refine iv_icmp_ge (tgt := 37) hx hb h_y3 ⟨by decide, by decide⟩ dX6_litIn_7 (by decide) (fun c1 => ?_) (fun c1 => ?_)
    · have h := h.2 c1
      refine lv_iload_n hx hb dX6_litIn_37 rfl (lv_at hl 2 rfl) ?_
      exact iv_iret E hh h (by rw [← h]; exact h_y2) rfl dX6_litIn_38
    · have h := h.1 c1
      refine lv_iload_n hx hb dX6_litIn_10 rfl (lv_at hl 2 rfl) ?_
      refine lv_aload_n hx hb dX6_litIn_11 rfl (lv_at hl 0 rfl) ?_
      refine iv_get (v' := .ref (ad 10 1)) hx hb hts inX6 hown hK hh.1 (ob_Model) rfl 0 (by decide) (hts _ q3_160) rfl rfl rfl dX6_litIn_12 ?_
      refine lv_sipush (v := hI 209) hx hb dX6_litIn_15 (by decide) ?_
      refine lv_bipush (v := hI 16) hx hb dX6_litIn_18 (by decide) ?_
      refine lv_iload_n hx hb dX6_litIn_20 rfl (lv_at hl 1 rfl) ?_
      refine iv_imul hx hb dX6_litIn_21 ?_
      refine iv_iadd hx hb dX6_litIn_22 ?_
      refine lv_iload_n hx hb dX6_litIn_23 rfl (lv_at hl 3 rfl) ?_
      refine iv_iadd hx hb dX6_litIn_24 ?_
      obtain ⟨g2, h⟩ := h
      refine iv_iald hx hb hK hh.1 (ia_10_1) g2 (v := (P 1 ((209 + (16 * sheet)) + y3))) (congrArg (fun z => z 1 ((209 + (16 * sheet)) + y3)) hP) dX6_litIn_25 ?_
      have hm3 : hIn (P 1 ((209 + (16 * sheet)) + y3)) := hIn_rd hh.2.1 hP (by decide)
      obtain ⟨g4, h⟩ := h
      refine iv_ki (iv_rS (As := [.int (hI (P 1 ((209 + (16 * sheet)) + y3)))]) (rest := [.int (hI y2)]) E hh (ok_X6_ones l hinj S (P 1 ((209 + (16 * sheet)) + y3)) hm3 g4) cb_X6_ones q4_122 rfl rfl ⟨Nat.le_of_ble_eq_true rfl, Nat.le_of_ble_eq_true rfl⟩ rfl hl.1 rfl (Nat.le_of_ble_eq_true rfl) dX6_litIn_26 ⟨Nat.zero_le _, Nat.zero_le _⟩) hh (fun hc5 H locs hh => ?_)
      refine iv_iadd hx hb dX6_litIn_29 ?_
      refine lv_istore_n (lv' := [(2, .int (hI (y2 + (v_X6_ones (P 1 ((209 + (16 * sheet)) + y3)))))), (0, .ref (ad 10 0)), (1, .int (hI sheet)), (3, .int (hI y3))]) hx hb dX6_litIn_30 rfl hl (by decide) rfl (fun ls hl => ?_)
      refine iv_iinc (lv' := [(3, .int (hI (y3 + 1))), (2, .int (hI (y2 + (v_X6_ones (P 1 ((209 + (16 * sheet)) + y3)))))), (0, .ref (ad 10 0)), (1, .int (hI sheet))]) hx hb dX6_litIn_31 hl (k := 3) rfl (v := (y3 + 1)) rfl (by decide) rfl (fun ls hl => ?_)
      refine lv_goto (tgt := 4) hx hb dX6_litIn_34 (by decide) ?_
      exact h H _ ls hh (lv_sub hl [2, 3, 1, 0] rfl)
  intro H locs ls hh hl
  have hl : lv_has ls 4 [(0, .ref (ad 10 0)), (1, .int (hI sheet))] := hl
  have h := x_X6_litIn P sheet h_sheet (fun i k hi => hIn_rd hh.2.1 hP hi) hp (fun y2 y3 => (hAt D ad cI cJ cF p l e ({ frames := 1, cells := 0, slots := 0, locals := 22 } : Room) s m args below meth c (MQ below (hQi D ad cI cJ cF (v_X6_litIn P sheet) S) args s 0 0 (hAd ad)) 4 4 [(0, .ref (ad 10 0)), (1, .int (hI sheet)), (2, .int (hI y2)), (3, .int (hI y3))] S)) (fun r => (r = v_X6_litIn P sheet)) r4 rfl
  refine iv_iconst hx hb dX6_litIn_0 ?_
  refine lv_istore_n (lv' := [(2, .int (hI 0)), (0, .ref (ad 10 0)), (1, .int (hI sheet))]) hx hb dX6_litIn_1 rfl hl (by decide) rfl (fun ls hl => ?_)
  refine iv_iconst hx hb dX6_litIn_2 ?_
  refine lv_istore_n (lv' := [(3, .int (hI 0)), (2, .int (hI 0)), (0, .ref (ad 10 0)), (1, .int (hI sheet))]) hx hb dX6_litIn_3 rfl hl (by decide) rfl (fun ls hl => ?_)
  exact h H _ ls hh (lv_sub hl [2, 3, 1, 0] rfl)
set_option maxHeartbeats 4000000 in
set_option maxRecDepth 100000 in
theorem ok_X6_set (l : Launch) (hinj : hInj ad) (S : hS) (P : hGM) (hP : S 10 = P) (what : Int) (value : Int) (h_what : hIn what) (h_value : hIn value) (hp : p_X6_set P what value) : hMi D ad cI cJ cF l yX6_set cX6_set 4 (some .int) ({ frames := 1, cells := 0, slots := 0, locals := 22 } : Room) [.ref (ad 10 0), .int (hI what), .int (hI value)] S (v_X6_set P what value) (gset S 10 (m_X6_set P what value)) := by
  refine hOf (S := S) l hinj (by decide +kernel) (Nat.le_of_ble_eq_true rfl) (fun p e s m args below meth c E => ?_)
  obtain ⟨hx, hb, hml, hown, hts, hK, hN, -, hr, hlk⟩ := id E
  have hown : s.vm.findClass RX6 = some m.cls := hown
  intro H locs ls hh hl
  have hl : lv_has ls 4 [(0, .ref (ad 10 0)), (1, .int (hI what)), (2, .int (hI value))] := hl
  replace hh : hH D ad cI cJ cF (gset S 10 P) s H locs := by rw [← can1 hP]; exact hh
  have h := hp
  unfold p_X6_set at h
  refine lv_iload_n hx hb dX6_set_0 rfl (lv_at hl 1 rfl) ?_
  refine iv_iconst hx hb dX6_set_1 ?_
  refine iv_iconst hx hb dX6_set_2 ?_
  refine iv_ki (iv_rS (As := [.int (hI what), .int (hI 0), .int (hI 1)]) (rest := []) E hh (ok_X6_in l hinj (gset S 10 P) what 0 1 h_what ⟨by decide, by decide⟩ ⟨by decide, by decide⟩) cb_X6_in q3_216 rfl rfl ⟨Nat.le_of_ble_eq_true rfl, Nat.le_of_ble_eq_true rfl⟩ rfl hl.1 rfl (Nat.le_of_ble_eq_true rfl) dX6_set_3 ⟨Nat.zero_le _, Nat.zero_le _⟩) hh (fun hc1 H locs hh => ?_)
  refine iv_if_eq (tgt := 27) hx hb hc1 dX6_set_6 (by decide) (fun c2 => ?_) (fun c2 => ?_)
  · have h := h.1 c2
    refine iv_ldc (n := (-1000001)) hx hb (by decide) hown (hts _ q3_219) dX6_set_27 ?_
    exact iv_iret E hh (by unfold v_X6_set; rw [if_pos c2]) (by rw [← show (-1000001) = v_X6_set P what value from (by unfold v_X6_set; rw [if_pos c2])]; exact ⟨by decide, by decide⟩) (by unfold m_X6_set; rw [if_pos c2]) dX6_set_29
  · have h := h.2 c2
    refine lv_iload_n hx hb dX6_set_9 rfl (lv_at hl 2 rfl) ?_
    refine iv_iconst hx hb dX6_set_10 ?_
    refine lv_iload_n hx hb dX6_set_11 rfl (lv_at hl 1 rfl) ?_
    refine iv_if_ne (tgt := 20) hx hb h_what dX6_set_12 (by decide) (fun c3 => ?_) (fun c3 => ?_)
    · have h := h.2 c3
      refine iv_iconst hx hb dX6_set_20 ?_
      refine iv_ki (iv_rS (As := [.int (hI value), .int (hI 0), .int (hI 3)]) (rest := []) E hh (ok_X6_in l hinj (gset S 10 P) value 0 3 h_value ⟨by decide, by decide⟩ ⟨by decide, by decide⟩) cb_X6_in q3_216 rfl rfl ⟨Nat.le_of_ble_eq_true rfl, Nat.le_of_ble_eq_true rfl⟩ rfl hl.1 rfl (Nat.le_of_ble_eq_true rfl) dX6_set_21 ⟨Nat.zero_le _, Nat.zero_le _⟩) hh (fun hc4 H locs hh => ?_)
      refine iv_if_ne (tgt := 30) hx hb hc4 dX6_set_24 (by decide) (fun c5 => ?_) (fun c5 => ?_)
      · have h := h.2 c5
        refine lv_aload_n hx hb dX6_set_30 rfl (lv_at hl 0 rfl) ?_
        obtain ⟨g6, h⟩ := h
        refine iv_kv (iv_rV (As := []) (rest := []) E hh (ok_X6_changes l hinj (gset S 10 P) P (gset_at _ _ _) g6) cb_X6_changes q3_221 rfl rfl ⟨Nat.le_of_ble_eq_true rfl, Nat.le_of_ble_eq_true rfl⟩ (ob_Model) rfl rfl rfl hl.1 rfl (Nat.le_of_ble_eq_true rfl) dX6_set_31 ⟨Nat.zero_le _, Nat.zero_le _⟩) hh (fun H locs hh => ?_)
        replace hh : hH D ad cI cJ cF (gset S 10 (m_X6_changes P)) s H locs := by rw [← show _ = (gset S 10 (m_X6_changes P)) from (gset_gset _ _ _ _)]; exact hh
        refine lv_aload_n hx hb dX6_set_34 rfl (lv_at hl 0 rfl) ?_
        refine iv_get (v' := .ref (ad 10 1)) hx hb hts inX6 hown hK hh.1 (ob_Model) rfl 0 (by decide) (hts _ q3_160) rfl rfl rfl dX6_set_35 ?_
        refine iv_iconst hx hb dX6_set_38 ?_
        refine lv_iload_n hx hb dX6_set_39 rfl (lv_at hl 1 rfl) ?_
        refine iv_iadd hx hb dX6_set_40 ?_
        obtain ⟨g7, h⟩ := h
        refine iv_iald hx hb hK hh.1 (ia_10_1) g7 (v := ((m_X6_changes P) 1 (5 + what))) (congrArg (fun z => z 1 (5 + what)) (gset_at _ _ _)) dX6_set_41 ?_
        have hm8 : hIn ((m_X6_changes P) 1 (5 + what)) := hIn_rd hh.2.1 (gset_at _ _ _) (by decide)
        refine lv_istore_n (lv' := [(3, .int (hI ((m_X6_changes P) 1 (5 + what)))), (0, .ref (ad 10 0)), (1, .int (hI what)), (2, .int (hI value))]) hx hb dX6_set_42 rfl hl (by decide) rfl (fun ls hl => ?_)
        refine lv_aload_n hx hb dX6_set_43 rfl (lv_at hl 1 rfl) ?_
        refine iv_get (v' := .ref (ad 10 1)) hx hb hts inX6 hown hK hh.1 (ob_Model) rfl 0 (by decide) (hts _ q3_160) rfl rfl rfl dX6_set_44 ?_
        refine iv_iconst hx hb dX6_set_47 ?_
        refine lv_iload_n hx hb dX6_set_48 rfl (lv_at hl 2 rfl) ?_
        refine iv_iadd hx hb dX6_set_49 ?_
        refine lv_iload_n hx hb dX6_set_50 rfl (lv_at hl 3 rfl) ?_
        refine iv_iast (S' := (gset S 10 (aset (m_X6_changes P) 1 (5 + what) value))) hx hb hK hinj hh (ia_10_1) g7 h_value (by rw [show (gset S 10 (m_X6_changes P)) 10 = (m_X6_changes P) from (gset_at _ _ _)]; exact (gset_gset _ _ _ _)) dX6_set_51 (fun H locs hh => ?_)
        refine lv_iload_n hx hb dX6_set_52 rfl (lv_at hl 0 rfl) ?_
        exact iv_iret E hh (by unfold v_X6_set; rw [if_neg c2, if_neg c3, if_neg c5]) (by rw [← show ((m_X6_changes P) 1 (5 + what)) = v_X6_set P what value from (by unfold v_X6_set; rw [if_neg c2, if_neg c3, if_neg c5])]; exact hm8) (by unfold m_X6_set; rw [if_neg c2, if_neg c3, if_neg c5]) dX6_set_53
      · have h := h.1 c5
        refine iv_ldc (n := (-1000001)) hx hb (by decide) hown (hts _ q3_219) dX6_set_27 ?_
        exact iv_iret E hh (by unfold v_X6_set; rw [if_neg c2, if_neg c3, if_pos c5]) (by rw [← show (-1000001) = v_X6_set P what value from (by unfold v_X6_set; rw [if_neg c2, if_neg c3, if_pos c5])]; exact ⟨by decide, by decide⟩) (by unfold m_X6_set; rw [if_neg c2, if_neg c3, if_pos c5]) dX6_set_29
    · have h := h.1 c3
      refine lv_bipush (v := hI 100) hx hb dX6_set_15 (by decide) ?_
      refine lv_goto (tgt := 21) hx hb dX6_set_17 (by decide) ?_
      refine iv_ki (iv_rS (As := [.int (hI value), .int (hI 0), .int (hI 100)]) (rest := []) E hh (ok_X6_in l hinj (gset S 10 P) value 0 100 h_value ⟨by decide, by decide⟩ ⟨by decide, by decide⟩) cb_X6_in q3_216 rfl rfl ⟨Nat.le_of_ble_eq_true rfl, Nat.le_of_ble_eq_true rfl⟩ rfl hl.1 rfl (Nat.le_of_ble_eq_true rfl) dX6_set_21 ⟨Nat.zero_le _, Nat.zero_le _⟩) hh (fun hc9 H locs hh => ?_)
      refine iv_if_ne (tgt := 30) hx hb hc9 dX6_set_24 (by decide) (fun c10 => ?_) (fun c10 => ?_)
      · have h := h.2 c10
        refine lv_aload_n hx hb dX6_set_30 rfl (lv_at hl 0 rfl) ?_
        obtain ⟨g11, h⟩ := h
        refine iv_kv (iv_rV (As := []) (rest := []) E hh (ok_X6_changes l hinj (gset S 10 P) P (gset_at _ _ _) g11) cb_X6_changes q3_221 rfl rfl ⟨Nat.le_of_ble_eq_true rfl, Nat.le_of_ble_eq_true rfl⟩ (ob_Model) rfl rfl rfl hl.1 rfl (Nat.le_of_ble_eq_true rfl) dX6_set_31 ⟨Nat.zero_le _, Nat.zero_le _⟩) hh (fun H locs hh => ?_)
        replace hh : hH D ad cI cJ cF (gset S 10 (m_X6_changes P)) s H locs := by rw [← show _ = (gset S 10 (m_X6_changes P)) from (gset_gset _ _ _ _)]; exact hh
        refine lv_aload_n hx hb dX6_set_34 rfl (lv_at hl 0 rfl) ?_
        refine iv_get (v' := .ref (ad 10 1)) hx hb hts inX6 hown hK hh.1 (ob_Model) rfl 0 (by decide) (hts _ q3_160) rfl rfl rfl dX6_set_35 ?_
        refine iv_iconst hx hb dX6_set_38 ?_
        refine lv_iload_n hx hb dX6_set_39 rfl (lv_at hl 1 rfl) ?_
        refine iv_iadd hx hb dX6_set_40 ?_
        obtain ⟨g12, h⟩ := h
        refine iv_iald hx hb hK hh.1 (ia_10_1) g12 (v := ((m_X6_changes P) 1 (5 + what))) (congrArg (fun z => z 1 (5 + what)) (gset_at _ _ _)) dX6_set_41 ?_
        have hm13 : hIn ((m_X6_changes P) 1 (5 + what)) := hIn_rd hh.2.1 (gset_at _ _ _) (by decide)
        refine lv_istore_n (lv' := [(3, .int (hI ((m_X6_changes P) 1 (5 + what)))), (0, .ref (ad 10 0)), (1, .int (hI what)), (2, .int (hI value))]) hx hb dX6_set_42 rfl hl (by decide) rfl (fun ls hl => ?_)
        refine lv_aload_n hx hb dX6_set_43 rfl (lv_at hl 1 rfl) ?_
        refine iv_get (v' := .ref (ad 10 1)) hx hb hts inX6 hown hK hh.1 (ob_Model) rfl 0 (by decide) (hts _ q3_160) rfl rfl rfl dX6_set_44 ?_
        refine iv_iconst hx hb dX6_set_47 ?_
        refine lv_iload_n hx hb dX6_set_48 rfl (lv_at hl 2 rfl) ?_
        refine iv_iadd hx hb dX6_set_49 ?_
        refine lv_iload_n hx hb dX6_set_50 rfl (lv_at hl 3 rfl) ?_
        refine iv_iast (S' := (gset S 10 (aset (m_X6_changes P) 1 (5 + what) value))) hx hb hK hinj hh (ia_10_1) g12 h_value (by rw [show (gset S 10 (m_X6_changes P)) 10 = (m_X6_changes P) from (gset_at _ _ _)]; exact (gset_gset _ _ _ _)) dX6_set_51 (fun H locs hh => ?_)
        refine lv_iload_n hx hb dX6_set_52 rfl (lv_at hl 0 rfl) ?_
        exact iv_iret E hh (by unfold v_X6_set; rw [if_neg c2, if_pos c3, if_neg c10]) (by rw [← show ((m_X6_changes P) 1 (5 + what)) = v_X6_set P what value from (by unfold v_X6_set; rw [if_neg c2, if_pos c3, if_neg c10])]; exact hm13) (by unfold m_X6_set; rw [if_neg c2, if_pos c3, if_neg c10]) dX6_set_53
      · have h := h.1 c10
        refine iv_ldc (n := (-1000001)) hx hb (by decide) hown (hts _ q3_219) dX6_set_27 ?_
        exact iv_iret E hh (by unfold v_X6_set; rw [if_neg c2, if_pos c3, if_pos c10]) (by rw [← show (-1000001) = v_X6_set P what value from (by unfold v_X6_set; rw [if_neg c2, if_pos c3, if_pos c10])]; exact ⟨by decide, by decide⟩) (by unfold m_X6_set; rw [if_neg c2, if_pos c3, if_pos c10]) dX6_set_29
set_option maxHeartbeats 4000000 in
set_option maxRecDepth 100000 in
theorem ok_X6_alike (l : Launch) (hinj : hInj ad) (S : hS) (P : hGM) (hP : S 10 = P) (width : Int) (h_width : hIn width) (hp : p_X6_alike P width) : hMi D ad cI cJ cF l yX6_alike cX6_alike 5 (some .int) ({ frames := 3, cells := 0, slots := 0, locals := 69 } : Room) [.ref (ad 10 0), .int (hI width)] S (v_X6_alike P width) S := by
  refine hOf (S := S) l hinj (by decide +kernel) (Nat.le_of_ble_eq_true rfl) (fun p e s m args below meth c E => ?_)
  obtain ⟨hx, hb, hml, hown, hts, hK, hN, -, hr, hlk⟩ := id E
  have hown : s.vm.findClass RX6 = some m.cls := hown
  have r4 : ∀ (y2 : Int) (y3 : Int), hIn y2 → hIn y3 → (((y3 < (P 1 0) → (hAt D ad cI cJ cF p l e ({ frames := 3, cells := 0, slots := 0, locals := 69 } : Room) s m args below meth c (MQ below (hQi D ad cI cJ cF (v_X6_alike P width) S) args s 0 0 (hAd ad)) 5 17 [(0, .ref (ad 10 0)), (1, .int (hI width)), (2, .int (hI y2)), (3, .int (hI y3)), (4, .int (hI 0))] S)) ∧ (¬ y3 < (P 1 0) → (y2 = v_X6_alike P width)))) → (hAt D ad cI cJ cF p l e ({ frames := 3, cells := 0, slots := 0, locals := 69 } : Room) s m args below meth c (MQ below (hQi D ad cI cJ cF (v_X6_alike P width) S) args s 0 0 (hAd ad)) 5 4 [(0, .ref (ad 10 0)), (1, .int (hI width)), (2, .int (hI y2)), (3, .int (hI y3))] S) := by
    intro y2 y3 h_y2 h_y3 h H locs ls hh hl
    refine lv_iload_n hx hb dX6_alike_4 rfl (lv_at hl 3 rfl) ?_
    refine lv_aload_n hx hb dX6_alike_5 rfl (lv_at hl 0 rfl) ?_
    refine iv_get (v' := .ref (ad 10 1)) hx hb hts inX6 hown hK hh.1 (ob_Model) rfl 0 (by decide) (hts _ q3_160) rfl rfl rfl dX6_alike_6 ?_
    refine iv_iconst hx hb dX6_alike_9 ?_
    refine iv_iald hx hb hK hh.1 (ia_10_1) ⟨by decide, by decide⟩ (v := (P 1 0)) (congrArg (fun z => z 1 0) hP) dX6_alike_10 ?_
    have hm1 : hIn (P 1 0) := hIn_rd hh.2.1 hP (by decide)
    refine iv_icmp_ge (tgt := 59) hx hb h_y3 hm1 dX6_alike_11 (by decide) (fun c2 => ?_) (fun c2 => ?_)
    · have h := h.2 c2
      refine lv_iload_n hx hb dX6_alike_59 rfl (lv_at hl 2 rfl) ?_
      exact iv_iret E hh h (by rw [← h]; exact h_y2) rfl dX6_alike_60
    · have h := h.1 c2
      refine iv_iconst hx hb dX6_alike_14 ?_
      refine lv_istore (lv' := [(4, .int (hI 0)), (0, .ref (ad 10 0)), (1, .int (hI width)), (2, .int (hI y2)), (3, .int (hI y3))]) hx hb dX6_alike_15 hl (by decide) rfl (fun ls hl => ?_)
      exact h H _ ls hh (lv_sub hl [1, 2, 3, 4, 0] rfl)
  have r17 : ∀ (y2 : Int) (y3 : Int) (y4 : Int), hIn y2 → hIn y3 → hIn y4 → ((p_X6_of P y3 1 ∧ ((y4 < (v_X6_of P y3 1) → (p_X6_hinted P y3 y4 ∧ (((v_X6_hinted P y3 y4) = width → (hAt D ad cI cJ cF p l e ({ frames := 3, cells := 0, slots := 0, locals := 69 } : Room) s m args below meth c (MQ below (hQi D ad cI cJ cF (v_X6_alike P width) S) args s 0 0 (hAd ad)) 5 17 [(0, .ref (ad 10 0)), (1, .int (hI width)), (2, .int (hI (y2 + 1))), (3, .int (hI y3)), (4, .int (hI (y4 + 1)))] S)) ∧ (¬ (v_X6_hinted P y3 y4) = width → (hAt D ad cI cJ cF p l e ({ frames := 3, cells := 0, slots := 0, locals := 69 } : Room) s m args below meth c (MQ below (hQi D ad cI cJ cF (v_X6_alike P width) S) args s 0 0 (hAd ad)) 5 17 [(0, .ref (ad 10 0)), (1, .int (hI width)), (2, .int (hI (y2 + 0))), (3, .int (hI y3)), (4, .int (hI (y4 + 1)))] S))))) ∧ (¬ y4 < (v_X6_of P y3 1) → (hAt D ad cI cJ cF p l e ({ frames := 3, cells := 0, slots := 0, locals := 69 } : Room) s m args below meth c (MQ below (hQi D ad cI cJ cF (v_X6_alike P width) S) args s 0 0 (hAd ad)) 5 4 [(0, .ref (ad 10 0)), (1, .int (hI width)), (2, .int (hI y2)), (3, .int (hI (y3 + 1)))] S))))) → (hAt D ad cI cJ cF p l e ({ frames := 3, cells := 0, slots := 0, locals := 69 } : Room) s m args below meth c (MQ below (hQi D ad cI cJ cF (v_X6_alike P width) S) args s 0 0 (hAd ad)) 5 17 [(0, .ref (ad 10 0)), (1, .int (hI width)), (2, .int (hI y2)), (3, .int (hI y3)), (4, .int (hI y4))] S) := by
    intro y2 y3 y4 h_y2 h_y3 h_y4 h H locs ls hh hl
    refine lv_iload hx hb dX6_alike_17 (lv_at hl 4 rfl) ?_
    refine lv_aload_n hx hb dX6_alike_19 rfl (lv_at hl 0 rfl) ?_
    refine lv_iload_n hx hb dX6_alike_20 rfl (lv_at hl 3 rfl) ?_
    refine iv_iconst hx hb dX6_alike_21 ?_
    obtain ⟨g3, h⟩ := h
    refine iv_ki (iv_rV (As := [.int (hI y3), .int (hI 1)]) (rest := [.int (hI y4)]) E hh (ok_X6_of l hinj S P hP y3 1 h_y3 ⟨by decide, by decide⟩ g3) cb_X6_of q3_237 rfl rfl ⟨Nat.le_of_ble_eq_true rfl, Nat.le_of_ble_eq_true rfl⟩ (ob_Model) rfl rfl rfl hl.1 rfl (Nat.le_of_ble_eq_true rfl) dX6_alike_22 ⟨Nat.zero_le _, Nat.zero_le _⟩) hh (fun hc4 H locs hh => ?_)
    refine iv_icmp_ge (tgt := 53) hx hb h_y4 hc4 dX6_alike_25 (by decide) (fun c5 => ?_) (fun c5 => ?_)
    · have h := h.2 c5
      refine iv_iinc (lv' := [(3, .int (hI (y3 + 1))), (0, .ref (ad 10 0)), (1, .int (hI width)), (2, .int (hI y2)), (4, .int (hI y4))]) hx hb dX6_alike_53 hl (k := 3) rfl (v := (y3 + 1)) rfl (by decide) rfl (fun ls hl => ?_)
      refine lv_goto (tgt := 4) hx hb dX6_alike_56 (by decide) ?_
      exact h H _ ls hh (lv_sub hl [1, 2, 3, 0] rfl)
    · have h := h.1 c5
      refine lv_iload_n hx hb dX6_alike_28 rfl (lv_at hl 2 rfl) ?_
      refine lv_aload_n hx hb dX6_alike_29 rfl (lv_at hl 0 rfl) ?_
      refine lv_iload_n hx hb dX6_alike_30 rfl (lv_at hl 3 rfl) ?_
      refine lv_iload hx hb dX6_alike_31 (lv_at hl 4 rfl) ?_
      obtain ⟨g6, h⟩ := h
      refine iv_ki (iv_rV (As := [.int (hI y3), .int (hI y4)]) (rest := [.int (hI y2)]) E hh (ok_X6_hinted l hinj S P hP y3 y4 h_y3 h_y4 g6) cb_X6_hinted q4_72 rfl rfl ⟨Nat.le_of_ble_eq_true rfl, Nat.le_of_ble_eq_true rfl⟩ (ob_Model) rfl rfl rfl hl.1 rfl (Nat.le_of_ble_eq_true rfl) dX6_alike_33 ⟨Nat.zero_le _, Nat.zero_le _⟩) hh (fun hc7 H locs hh => ?_)
      refine lv_iload_n hx hb dX6_alike_36 rfl (lv_at hl 1 rfl) ?_
      refine iv_icmp_ne (tgt := 44) hx hb hc7 h_width dX6_alike_37 (by decide) (fun c8 => ?_) (fun c8 => ?_)
      · have h := h.2 c8
        refine iv_iconst hx hb dX6_alike_44 ?_
        refine iv_iadd hx hb dX6_alike_45 ?_
        refine lv_istore_n (lv' := [(2, .int (hI (y2 + 0))), (0, .ref (ad 10 0)), (1, .int (hI width)), (3, .int (hI y3)), (4, .int (hI y4))]) hx hb dX6_alike_46 rfl hl (by decide) rfl (fun ls hl => ?_)
        refine iv_iinc (lv' := [(4, .int (hI (y4 + 1))), (2, .int (hI (y2 + 0))), (0, .ref (ad 10 0)), (1, .int (hI width)), (3, .int (hI y3))]) hx hb dX6_alike_47 hl (k := 4) rfl (v := (y4 + 1)) rfl (by decide) rfl (fun ls hl => ?_)
        refine lv_goto (tgt := 17) hx hb dX6_alike_50 (by decide) ?_
        exact h H _ ls hh (lv_sub hl [2, 3, 1, 4, 0] rfl)
      · have h := h.1 c8
        refine iv_iconst hx hb dX6_alike_40 ?_
        refine lv_goto (tgt := 45) hx hb dX6_alike_41 (by decide) ?_
        refine iv_iadd hx hb dX6_alike_45 ?_
        refine lv_istore_n (lv' := [(2, .int (hI (y2 + 1))), (0, .ref (ad 10 0)), (1, .int (hI width)), (3, .int (hI y3)), (4, .int (hI y4))]) hx hb dX6_alike_46 rfl hl (by decide) rfl (fun ls hl => ?_)
        refine iv_iinc (lv' := [(4, .int (hI (y4 + 1))), (2, .int (hI (y2 + 1))), (0, .ref (ad 10 0)), (1, .int (hI width)), (3, .int (hI y3))]) hx hb dX6_alike_47 hl (k := 4) rfl (v := (y4 + 1)) rfl (by decide) rfl (fun ls hl => ?_)
        refine lv_goto (tgt := 17) hx hb dX6_alike_50 (by decide) ?_
        exact h H _ ls hh (lv_sub hl [2, 3, 1, 4, 0] rfl)
  intro H locs ls hh hl
  have hl : lv_has ls 5 [(0, .ref (ad 10 0)), (1, .int (hI width))] := hl
  have h := x_X6_alike P width h_width (fun i k hi => hIn_rd hh.2.1 hP hi) hp (fun y2 y3 => (hAt D ad cI cJ cF p l e ({ frames := 3, cells := 0, slots := 0, locals := 69 } : Room) s m args below meth c (MQ below (hQi D ad cI cJ cF (v_X6_alike P width) S) args s 0 0 (hAd ad)) 5 4 [(0, .ref (ad 10 0)), (1, .int (hI width)), (2, .int (hI y2)), (3, .int (hI y3))] S)) (fun y2 y3 y4 => (hAt D ad cI cJ cF p l e ({ frames := 3, cells := 0, slots := 0, locals := 69 } : Room) s m args below meth c (MQ below (hQi D ad cI cJ cF (v_X6_alike P width) S) args s 0 0 (hAd ad)) 5 17 [(0, .ref (ad 10 0)), (1, .int (hI width)), (2, .int (hI y2)), (3, .int (hI y3)), (4, .int (hI y4))] S)) (fun r => (r = v_X6_alike P width)) r4 r17 rfl
  refine iv_iconst hx hb dX6_alike_0 ?_
  refine lv_istore_n (lv' := [(2, .int (hI 0)), (0, .ref (ad 10 0)), (1, .int (hI width))]) hx hb dX6_alike_1 rfl hl (by decide) rfl (fun ls hl => ?_)
  refine iv_iconst hx hb dX6_alike_2 ?_
  refine lv_istore_n (lv' := [(3, .int (hI 0)), (2, .int (hI 0)), (0, .ref (ad 10 0)), (1, .int (hI width))]) hx hb dX6_alike_3 rfl hl (by decide) rfl (fun ls hl => ?_)
  exact h H _ ls hh (lv_sub hl [2, 3, 1, 0] rfl)
end

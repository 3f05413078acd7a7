section
variable {D : va_G} {ad : Nat → Nat → Nat} {cI cJ cF : ClassId}
theorem to_X6_stemOf_23 (x : Int) (_ : ¬ x = 3) (_ : ¬ x = 4) (_ : ¬ x = 5) (_ : ¬ x = 6) : x < 3 ∨ 6 < x := by omega
set_option maxHeartbeats 4000000 in
set_option maxRecDepth 100000 in
theorem ok_X6_stemOf (l : Launch) (hinj : hInj ad) (S : hS) (P : hGM) (hP : S 10 = P) (glyph : Int) (stem : Int) (what : Int) (h_glyph : hIn glyph) (h_stem : hIn stem) (h_what : hIn what) (hp : p_X6_stemOf P glyph stem what) : hMi D ad cI cJ cF l yX6_stemOf cX6_stemOf 4 (some .int) ({ frames := 4, cells := 0, slots := 0, locals := 93 } : Room) [.ref (ad 10 0), .int (hI glyph), .int (hI stem), .int (hI what)] S (v_X6_stemOf P glyph stem what) S := by
  refine hOf (S := S) l hinj (by decide +kernel) (Nat.le_of_ble_eq_true rfl) (fun p e s m args below meth c E => ?_)
  obtain ⟨hx, hb, hml, hown, hts, hK, hN, -, hr, hlk⟩ := id E
  have hown : s.vm.findClass RX6 = some m.cls := hown
  intro H locs ls hh hl
  have hl : lv_has ls 4 [(0, .ref (ad 10 0)), (1, .int (hI glyph)), (2, .int (hI stem)), (3, .int (hI what))] := hl
  have h := hp
  unfold p_X6_stemOf at h
  refine lv_aload_n hx hb dX6_stemOf_0 rfl (lv_at hl 0 rfl) ?_
  refine lv_iload_n hx hb dX6_stemOf_1 rfl (lv_at hl 1 rfl) ?_
  refine lv_iload_n hx hb dX6_stemOf_2 rfl (lv_at hl 2 rfl) ?_
  obtain ⟨g1, h⟩ := h
  refine iv_ki (iv_rV (As := [.int (hI glyph), .int (hI stem)]) (rest := []) E hh (ok_X6_isStem l hinj S P hP glyph stem h_glyph h_stem g1) cb_X6_isStem q4_17 rfl rfl ⟨Nat.le_of_ble_eq_true rfl, Nat.le_of_ble_eq_true rfl⟩ (ob_Model) rfl rfl rfl hl.1 rfl (Nat.le_of_ble_eq_true rfl) dX6_stemOf_3 ⟨Nat.zero_le _, Nat.zero_le _⟩) hh (fun hc2 H locs hh => ?_)
  refine iv_if_eq (tgt := 19) hx hb hc2 dX6_stemOf_6 (by decide) (fun c3 => ?_) (fun c3 => ?_)
  · have h := h.1 c3
    refine iv_ldc (n := (-1000001)) hx hb (by decide) hown (hts _ q3_219) dX6_stemOf_19 ?_
    exact iv_iret E hh (by unfold v_X6_stemOf; rw [if_pos c3]) (by rw [← show (-1000001) = v_X6_stemOf P glyph stem what from (by unfold v_X6_stemOf; rw [if_pos c3])]; exact ⟨by decide, by decide⟩) rfl dX6_stemOf_21
  · have h := h.2 c3
    refine lv_iload_n hx hb dX6_stemOf_9 rfl (lv_at hl 3 rfl) ?_
    refine iv_iconst hx hb dX6_stemOf_10 ?_
    refine lv_bipush (v := hI 6) hx hb dX6_stemOf_11 (by decide) ?_
    refine iv_ki (iv_rS (As := [.int (hI what), .int (hI 0), .int (hI 6)]) (rest := []) E hh (ok_X6_in l hinj S what 0 6 h_what ⟨by decide, by decide⟩ ⟨by decide, by decide⟩) cb_X6_in q3_216 rfl rfl ⟨Nat.le_of_ble_eq_true rfl, Nat.le_of_ble_eq_true rfl⟩ rfl hl.1 rfl (Nat.le_of_ble_eq_true rfl) dX6_stemOf_13 ⟨Nat.zero_le _, Nat.zero_le _⟩) hh (fun hc4 H locs hh => ?_)
    refine iv_if_ne (tgt := 22) hx hb hc4 dX6_stemOf_16 (by decide) (fun c5 => ?_) (fun c5 => ?_)
    · have h := h.2 c5
      refine lv_iload_n hx hb dX6_stemOf_22 rfl (lv_at hl 3 rfl) ?_
      by_cases c6 : what = 3
      · have h := h.1 c6
        refine lv_tableIn (off := 29) (tgt := 52) hx hb dX6_stemOf_23 (by rw [hI_toInt h_what, c6]; decide) (by rw [hI_toInt h_what, c6]; decide) (by rw [hI_toInt h_what, c6]; rfl) (by decide) ?_
        refine lv_aload_n hx hb dX6_stemOf_52 rfl (lv_at hl 0 rfl) ?_
        refine lv_iload_n hx hb dX6_stemOf_53 rfl (lv_at hl 1 rfl) ?_
        refine lv_iload_n hx hb dX6_stemOf_54 rfl (lv_at hl 2 rfl) ?_
        obtain ⟨g7, h⟩ := h
        refine iv_ki (iv_rV (As := [.int (hI glyph), .int (hI stem)]) (rest := []) E hh (ok_X6_hinted l hinj S P hP glyph stem h_glyph h_stem g7) cb_X6_hinted q4_72 rfl rfl ⟨Nat.le_of_ble_eq_true rfl, Nat.le_of_ble_eq_true rfl⟩ (ob_Model) rfl rfl rfl hl.1 rfl (Nat.le_of_ble_eq_true rfl) dX6_stemOf_55 ⟨Nat.zero_le _, Nat.zero_le _⟩) hh (fun hc8 H locs hh => ?_)
        exact iv_iret E hh (by unfold v_X6_stemOf; rw [if_neg c3, if_neg c5, if_pos c6]) (by rw [← show (v_X6_hinted P glyph stem) = v_X6_stemOf P glyph stem what from (by unfold v_X6_stemOf; rw [if_neg c3, if_neg c5, if_pos c6])]; exact hc8) rfl dX6_stemOf_58
      · have h := h.2 c6
        by_cases c9 : what = 4
        · have h := h.1 c9
          refine lv_tableIn (off := 36) (tgt := 59) hx hb dX6_stemOf_23 (by rw [hI_toInt h_what, c9]; decide) (by rw [hI_toInt h_what, c9]; decide) (by rw [hI_toInt h_what, c9]; rfl) (by decide) ?_
          refine lv_aload_n hx hb dX6_stemOf_59 rfl (lv_at hl 0 rfl) ?_
          refine lv_aload_n hx hb dX6_stemOf_60 rfl (lv_at hl 0 rfl) ?_
          refine lv_iload_n hx hb dX6_stemOf_61 rfl (lv_at hl 1 rfl) ?_
          refine lv_iload_n hx hb dX6_stemOf_62 rfl (lv_at hl 2 rfl) ?_
          refine iv_iconst hx hb dX6_stemOf_63 ?_
          obtain ⟨g10, h⟩ := h
          refine iv_ki (iv_rV (As := [.int (hI glyph), .int (hI stem), .int (hI 1)]) (rest := [.ref (ad 10 0)]) E hh (ok_X6_ofStem l hinj S P hP glyph stem 1 h_glyph h_stem ⟨by decide, by decide⟩ g10) cb_X6_ofStem q4_1 rfl rfl ⟨Nat.le_of_ble_eq_true rfl, Nat.le_of_ble_eq_true rfl⟩ (ob_Model) rfl rfl rfl hl.1 rfl (Nat.le_of_ble_eq_true rfl) dX6_stemOf_64 ⟨Nat.zero_le _, Nat.zero_le _⟩) hh (fun hc11 H locs hh => ?_)
          obtain ⟨g12, h⟩ := h
          refine iv_ki (iv_rV (As := [.int (hI (v_X6_ofStem P glyph stem 1))]) (rest := []) E hh (ok_X6_snaps l hinj S P hP (v_X6_ofStem P glyph stem 1) hc11 g12) cb_X6_snaps q4_34 rfl rfl ⟨Nat.le_of_ble_eq_true rfl, Nat.le_of_ble_eq_true rfl⟩ (ob_Model) rfl rfl rfl hl.1 rfl (Nat.le_of_ble_eq_true rfl) dX6_stemOf_67 ⟨Nat.zero_le _, Nat.zero_le _⟩) hh (fun hc13 H locs hh => ?_)
          exact iv_iret E hh (by unfold v_X6_stemOf; rw [if_neg c3, if_neg c5, if_neg c6, if_pos c9]) (by rw [← show (v_X6_snaps P (v_X6_ofStem P glyph stem 1)) = v_X6_stemOf P glyph stem what from (by unfold v_X6_stemOf; rw [if_neg c3, if_neg c5, if_neg c6, if_pos c9])]; exact hc13) rfl dX6_stemOf_70
        · have h := h.2 c9
          by_cases c14 : what = 5
          · have h := h.1 c14
            refine lv_tableIn (off := 48) (tgt := 71) hx hb dX6_stemOf_23 (by rw [hI_toInt h_what, c14]; decide) (by rw [hI_toInt h_what, c14]; decide) (by rw [hI_toInt h_what, c14]; rfl) (by decide) ?_
            refine lv_aload_n hx hb dX6_stemOf_71 rfl (lv_at hl 0 rfl) ?_
            refine lv_aload_n hx hb dX6_stemOf_72 rfl (lv_at hl 0 rfl) ?_
            refine lv_iload_n hx hb dX6_stemOf_73 rfl (lv_at hl 1 rfl) ?_
            refine lv_iload_n hx hb dX6_stemOf_74 rfl (lv_at hl 2 rfl) ?_
            obtain ⟨g15, h⟩ := h
            refine iv_ki (iv_rV (As := [.int (hI glyph), .int (hI stem)]) (rest := [.ref (ad 10 0)]) E hh (ok_X6_hinted l hinj S P hP glyph stem h_glyph h_stem g15) cb_X6_hinted q4_72 rfl rfl ⟨Nat.le_of_ble_eq_true rfl, Nat.le_of_ble_eq_true rfl⟩ (ob_Model) rfl rfl rfl hl.1 rfl (Nat.le_of_ble_eq_true rfl) dX6_stemOf_75 ⟨Nat.zero_le _, Nat.zero_le _⟩) hh (fun hc16 H locs hh => ?_)
            obtain ⟨g17, h⟩ := h
            refine iv_ki (iv_rV (As := [.int (hI (v_X6_hinted P glyph stem))]) (rest := []) E hh (ok_X6_alike l hinj S P hP (v_X6_hinted P glyph stem) hc16 g17) cb_X6_alike q4_106 rfl rfl ⟨Nat.le_of_ble_eq_true rfl, Nat.le_of_ble_eq_true rfl⟩ (ob_Model) rfl rfl rfl hl.1 rfl (Nat.le_of_ble_eq_true rfl) dX6_stemOf_78 ⟨Nat.zero_le _, Nat.zero_le _⟩) hh (fun hc18 H locs hh => ?_)
            exact iv_iret E hh (by unfold v_X6_stemOf; rw [if_neg c3, if_neg c5, if_neg c6, if_neg c9, if_pos c14]) (by rw [← show (v_X6_alike P (v_X6_hinted P glyph stem)) = v_X6_stemOf P glyph stem what from (by unfold v_X6_stemOf; rw [if_neg c3, if_neg c5, if_neg c6, if_neg c9, if_pos c14])]; exact hc18) rfl dX6_stemOf_81
          · have h := h.2 c14
            by_cases c19 : what = 6
            · have h := h.1 c19
              refine lv_tableIn (off := 59) (tgt := 82) hx hb dX6_stemOf_23 (by rw [hI_toInt h_what, c19]; decide) (by rw [hI_toInt h_what, c19]; decide) (by rw [hI_toInt h_what, c19]; rfl) (by decide) ?_
              refine lv_iload_n hx hb dX6_stemOf_82 rfl (lv_at hl 2 rfl) ?_
              refine iv_if_ne (tgt := 91) hx hb h_stem dX6_stemOf_83 (by decide) (fun c20 => ?_) (fun c20 => ?_)
              · have h := h.2 c20
                refine lv_aload_n hx hb dX6_stemOf_91 rfl (lv_at hl 0 rfl) ?_
                refine lv_iload_n hx hb dX6_stemOf_92 rfl (lv_at hl 1 rfl) ?_
                refine lv_iload_n hx hb dX6_stemOf_93 rfl (lv_at hl 2 rfl) ?_
                refine iv_iconst hx hb dX6_stemOf_94 ?_
                obtain ⟨g21, h⟩ := h
                refine iv_ki (iv_rV (As := [.int (hI glyph), .int (hI stem), .int (hI 0)]) (rest := []) E hh (ok_X6_ofStem l hinj S P hP glyph stem 0 h_glyph h_stem ⟨by decide, by decide⟩ g21) cb_X6_ofStem q4_1 rfl rfl ⟨Nat.le_of_ble_eq_true rfl, Nat.le_of_ble_eq_true rfl⟩ (ob_Model) rfl rfl rfl hl.1 rfl (Nat.le_of_ble_eq_true rfl) dX6_stemOf_95 ⟨Nat.zero_le _, Nat.zero_le _⟩) hh (fun hc22 H locs hh => ?_)
                refine lv_aload_n hx hb dX6_stemOf_98 rfl (lv_at hl 0 rfl) ?_
                refine lv_iload_n hx hb dX6_stemOf_99 rfl (lv_at hl 1 rfl) ?_
                refine lv_iload_n hx hb dX6_stemOf_100 rfl (lv_at hl 2 rfl) ?_
                refine iv_iconst hx hb dX6_stemOf_101 ?_
                refine iv_isub hx hb dX6_stemOf_102 ?_
                obtain ⟨g23, h⟩ := h
                obtain ⟨g24, h⟩ := h
                refine iv_ki (iv_rV (As := [.int (hI glyph), .int (hI (stem - 1))]) (rest := [.int (hI (v_X6_ofStem P glyph stem 0))]) E hh (ok_X6_endOf l hinj S P hP glyph (stem - 1) h_glyph g23 g24) cb_X6_endOf q4_8 rfl rfl ⟨Nat.le_of_ble_eq_true rfl, Nat.le_of_ble_eq_true rfl⟩ (ob_Model) rfl rfl rfl hl.1 rfl (Nat.le_of_ble_eq_true rfl) dX6_stemOf_103 ⟨Nat.zero_le _, Nat.zero_le _⟩) hh (fun hc25 H locs hh => ?_)
                refine iv_isub hx hb dX6_stemOf_106 ?_
                obtain ⟨g26, h⟩ := h
                exact iv_iret E hh (by unfold v_X6_stemOf; rw [if_neg c3, if_neg c5, if_neg c6, if_neg c9, if_neg c14, if_pos c19, if_neg c20]) (by rw [← show ((v_X6_ofStem P glyph stem 0) - (v_X6_endOf P glyph (stem - 1))) = v_X6_stemOf P glyph stem what from (by unfold v_X6_stemOf; rw [if_neg c3, if_neg c5, if_neg c6, if_neg c9, if_neg c14, if_pos c19, if_neg c20])]; exact g26) rfl dX6_stemOf_107
              · have h := h.1 c20
                refine iv_ldc (n := (-1000004)) hx hb (by decide) hown (hts _ q4_33) dX6_stemOf_86 ?_
                refine lv_goto (tgt := 107) hx hb dX6_stemOf_88 (by decide) ?_
                exact iv_iret E hh (by unfold v_X6_stemOf; rw [if_neg c3, if_neg c5, if_neg c6, if_neg c9, if_neg c14, if_pos c19, if_pos c20]) (by rw [← show (-1000004) = v_X6_stemOf P glyph stem what from (by unfold v_X6_stemOf; rw [if_neg c3, if_neg c5, if_neg c6, if_neg c9, if_neg c14, if_pos c19, if_pos c20])]; exact ⟨by decide, by decide⟩) rfl dX6_stemOf_107
            · have h := h.2 c19
              refine lv_tableOut (tgt := 108) hx hb dX6_stemOf_23 (by rw [hI_toInt h_what]; exact to_X6_stemOf_23 _ c6 c9 c14 c19) (by decide) ?_
              refine lv_aload_n hx hb dX6_stemOf_108 rfl (lv_at hl 0 rfl) ?_
              refine lv_iload_n hx hb dX6_stemOf_109 rfl (lv_at hl 1 rfl) ?_
              refine lv_iload_n hx hb dX6_stemOf_110 rfl (lv_at hl 2 rfl) ?_
              refine lv_iload_n hx hb dX6_stemOf_111 rfl (lv_at hl 3 rfl) ?_
              obtain ⟨g27, h⟩ := h
              refine iv_ki (iv_rV (As := [.int (hI glyph), .int (hI stem), .int (hI what)]) (rest := []) E hh (ok_X6_ofStem l hinj S P hP glyph stem what h_glyph h_stem h_what g27) cb_X6_ofStem q4_1 rfl rfl ⟨Nat.le_of_ble_eq_true rfl, Nat.le_of_ble_eq_true rfl⟩ (ob_Model) rfl rfl rfl hl.1 rfl (Nat.le_of_ble_eq_true rfl) dX6_stemOf_112 ⟨Nat.zero_le _, Nat.zero_le _⟩) hh (fun hc28 H locs hh => ?_)
              exact iv_iret E hh (by unfold v_X6_stemOf; rw [if_neg c3, if_neg c5, if_neg c6, if_neg c9, if_neg c14, if_neg c19]) (by rw [← show (v_X6_ofStem P glyph stem what) = v_X6_stemOf P glyph stem what from (by unfold v_X6_stemOf; rw [if_neg c3, if_neg c5, if_neg c6, if_neg c9, if_neg c14, if_neg c19])]; exact hc28) rfl dX6_stemOf_115
    · have h := h.1 c5
      refine iv_ldc (n := (-1000001)) hx hb (by decide) hown (hts _ q3_219) dX6_stemOf_19 ?_
      exact iv_iret E hh (by unfold v_X6_stemOf; rw [if_neg c3, if_pos c5]) (by rw [← show (-1000001) = v_X6_stemOf P glyph stem what from (by unfold v_X6_stemOf; rw [if_neg c3, if_pos c5])]; exact ⟨by decide, by decide⟩) rfl dX6_stemOf_21
set_option maxHeartbeats 4000000 in
set_option maxRecDepth 100000 in
theorem ok_X6_pixels (l : Launch) (hinj : hInj ad) (S : hS) (P : hGM) (hP : S 10 = P) (glyph : Int) (stem : Int) (size : Int) (what : Int) (h_glyph : hIn glyph) (h_stem : hIn stem) (h_size : hIn size) (h_what : hIn what) (hp : p_X6_pixels P glyph stem size what) : hMi D ad cI cJ cF l yX6_pixels cX6_pixels 5 (some .int) ({ frames := 5, cells := 0, slots := 0, locals := 119 } : Room) [.ref (ad 10 0), .int (hI glyph), .int (hI stem), .int (hI size), .int (hI what)] S (v_X6_pixels P glyph stem size what) (gset S 10 (m_X6_pixels P glyph stem size what)) := by
  refine hOf (S := S) l hinj (by decide +kernel) (Nat.le_of_ble_eq_true rfl) (fun p e s m args below meth c E => ?_)
  obtain ⟨hx, hb, hml, hown, hts, hK, hN, -, hr, hlk⟩ := id E
  have hown : s.vm.findClass RX6 = some m.cls := hown
  intro H locs ls hh hl
  have hl : lv_has ls 5 [(0, .ref (ad 10 0)), (1, .int (hI glyph)), (2, .int (hI stem)), (3, .int (hI size)), (4, .int (hI what))] := hl
  replace hh : hH D ad cI cJ cF (gset S 10 P) s H locs := by rw [← can1 hP]; exact hh
  have h := hp
  unfold p_X6_pixels at h
  refine lv_aload_n hx hb dX6_pixels_0 rfl (lv_at hl 0 rfl) ?_
  refine lv_iload_n hx hb dX6_pixels_1 rfl (lv_at hl 1 rfl) ?_
  refine lv_iload_n hx hb dX6_pixels_2 rfl (lv_at hl 2 rfl) ?_
  obtain ⟨g1, h⟩ := h
  refine iv_ki (iv_rV (As := [.int (hI glyph), .int (hI stem)]) (rest := []) E hh (ok_X6_isStem l hinj (gset S 10 P) P (gset_at _ _ _) glyph stem h_glyph h_stem g1) cb_X6_isStem q4_17 rfl rfl ⟨Nat.le_of_ble_eq_true rfl, Nat.le_of_ble_eq_true rfl⟩ (ob_Model) rfl rfl rfl hl.1 rfl (Nat.le_of_ble_eq_true rfl) dX6_pixels_3 ⟨Nat.zero_le _, Nat.zero_le _⟩) hh (fun hc2 H locs hh => ?_)
  refine iv_if_eq (tgt := 26) hx hb hc2 dX6_pixels_6 (by decide) (fun c3 => ?_) (fun c3 => ?_)
  · have h := h.1 c3
    refine iv_ldc (n := (-1000001)) hx hb (by decide) hown (hts _ q3_219) dX6_pixels_26 ?_
    exact iv_iret E hh (by unfold v_X6_pixels; rw [if_pos c3]) (by rw [← show (-1000001) = v_X6_pixels P glyph stem size what from (by unfold v_X6_pixels; rw [if_pos c3])]; exact ⟨by decide, by decide⟩) (by unfold m_X6_pixels; rw [if_pos c3]) dX6_pixels_28
  · have h := h.2 c3
    refine lv_iload_n hx hb dX6_pixels_9 rfl (lv_at hl 3 rfl) ?_
    refine iv_ki (iv_rS (As := [.int (hI size)]) (rest := []) E hh (ok_X6_isSize l hinj (gset S 10 P) size h_size) cb_X6_isSize q4_49 rfl rfl ⟨Nat.le_of_ble_eq_true rfl, Nat.le_of_ble_eq_true rfl⟩ rfl hl.1 rfl (Nat.le_of_ble_eq_true rfl) dX6_pixels_10 ⟨Nat.zero_le _, Nat.zero_le _⟩) hh (fun hc4 H locs hh => ?_)
    refine iv_if_eq (tgt := 26) hx hb hc4 dX6_pixels_13 (by decide) (fun c5 => ?_) (fun c5 => ?_)
    · have h := h.1 c5
      refine iv_ldc (n := (-1000001)) hx hb (by decide) hown (hts _ q3_219) dX6_pixels_26 ?_
      exact iv_iret E hh (by unfold v_X6_pixels; rw [if_neg c3, if_pos c5]) (by rw [← show (-1000001) = v_X6_pixels P glyph stem size what from (by unfold v_X6_pixels; rw [if_neg c3, if_pos c5])]; exact ⟨by decide, by decide⟩) (by unfold m_X6_pixels; rw [if_neg c3, if_pos c5]) dX6_pixels_28
    · have h := h.2 c5
      refine lv_iload hx hb dX6_pixels_16 (lv_at hl 4 rfl) ?_
      refine iv_iconst hx hb dX6_pixels_18 ?_
      refine iv_iconst hx hb dX6_pixels_19 ?_
      refine iv_ki (iv_rS (As := [.int (hI what), .int (hI 0), .int (hI 3)]) (rest := []) E hh (ok_X6_in l hinj (gset S 10 P) what 0 3 h_what ⟨by decide, by decide⟩ ⟨by decide, by decide⟩) cb_X6_in q3_216 rfl rfl ⟨Nat.le_of_ble_eq_true rfl, Nat.le_of_ble_eq_true rfl⟩ rfl hl.1 rfl (Nat.le_of_ble_eq_true rfl) dX6_pixels_20 ⟨Nat.zero_le _, Nat.zero_le _⟩) hh (fun hc6 H locs hh => ?_)
      refine iv_if_ne (tgt := 29) hx hb hc6 dX6_pixels_23 (by decide) (fun c7 => ?_) (fun c7 => ?_)
      · have h := h.2 c7
        refine lv_aload_n hx hb dX6_pixels_29 rfl (lv_at hl 0 rfl) ?_
        refine lv_iload_n hx hb dX6_pixels_30 rfl (lv_at hl 1 rfl) ?_
        refine lv_iload_n hx hb dX6_pixels_31 rfl (lv_at hl 3 rfl) ?_
        obtain ⟨g8, h⟩ := h
        refine iv_kv (iv_rV (As := [.int (hI glyph), .int (hI size)]) (rest := []) E hh (ok_X6_lays l hinj (gset S 10 P) P (gset_at _ _ _) glyph size h_glyph h_size g8) cb_X6_lays q4_64 rfl rfl ⟨Nat.le_of_ble_eq_true rfl, Nat.le_of_ble_eq_true rfl⟩ (ob_Model) rfl rfl rfl hl.1 rfl (Nat.le_of_ble_eq_true rfl) dX6_pixels_32 ⟨Nat.zero_le _, Nat.zero_le _⟩) hh (fun H locs hh => ?_)
        replace hh : hH D ad cI cJ cF (gset S 10 (m_X6_lays P glyph size)) s H locs := by rw [← show _ = (gset S 10 (m_X6_lays P glyph size)) from (gset_gset _ _ _ _)]; exact hh
        refine lv_iload hx hb dX6_pixels_35 (lv_at hl 4 rfl) ?_
        refine iv_if_ne (tgt := 49) hx hb h_what dX6_pixels_37 (by decide) (fun c9 => ?_) (fun c9 => ?_)
        · have h := h.2 c9
          refine lv_iload hx hb dX6_pixels_49 (lv_at hl 4 rfl) ?_
          refine iv_iconst hx hb dX6_pixels_51 ?_
          refine iv_icmp_ne (tgt := 64) hx hb h_what ⟨by decide, by decide⟩ dX6_pixels_52 (by decide) (fun c10 => ?_) (fun c10 => ?_)
          · have h := h.2 c10
            refine lv_iload hx hb dX6_pixels_64 (lv_at hl 4 rfl) ?_
            refine iv_iconst hx hb dX6_pixels_66 ?_
            refine iv_icmp_ne (tgt := 77) hx hb h_what ⟨by decide, by decide⟩ dX6_pixels_67 (by decide) (fun c11 => ?_) (fun c11 => ?_)
            · have h := h.2 c11
              refine lv_aload_n hx hb dX6_pixels_77 rfl (lv_at hl 0 rfl) ?_
              refine lv_iload_n hx hb dX6_pixels_78 rfl (lv_at hl 1 rfl) ?_
              refine lv_iload_n hx hb dX6_pixels_79 rfl (lv_at hl 3 rfl) ?_
              obtain ⟨g12, h⟩ := h
              refine iv_ki (iv_rV (As := [.int (hI glyph), .int (hI size)]) (rest := []) E hh (ok_X6_cuts l hinj (gset S 10 (m_X6_lays P glyph size)) (m_X6_lays P glyph size) (gset_at _ _ _) glyph size h_glyph h_size g12) cb_X6_cuts q4_114 rfl rfl ⟨Nat.le_of_ble_eq_true rfl, Nat.le_of_ble_eq_true rfl⟩ (ob_Model) rfl rfl rfl hl.1 rfl (Nat.le_of_ble_eq_true rfl) dX6_pixels_80 ⟨Nat.zero_le _, Nat.zero_le _⟩) hh (fun hc13 H locs hh => ?_)
              refine lv_iload_n hx hb dX6_pixels_83 rfl (lv_at hl 2 rfl) ?_
              refine iv_ishr hx hb dX6_pixels_84 ?_
              refine iv_iconst hx hb dX6_pixels_85 ?_
              refine iv_iand hx hb dX6_pixels_86 ?_
              exact iv_iret E hh (by unfold v_X6_pixels; rw [if_neg c3, if_neg c5, if_neg c7, if_neg c9, if_neg c10, if_neg c11]) (by rw [← show (iAnd (iShr (v_X6_cuts (m_X6_lays P glyph size) glyph size) stem) 1) = v_X6_pixels P glyph stem size what from (by unfold v_X6_pixels; rw [if_neg c3, if_neg c5, if_neg c7, if_neg c9, if_neg c10, if_neg c11])]; exact (hIn_toInt _)) (by unfold m_X6_pixels; rw [if_neg c3, if_neg c5, if_neg c7, if_neg c9, if_neg c10, if_neg c11]) dX6_pixels_87
            · have h := h.1 c11
              refine lv_aload_n hx hb dX6_pixels_70 rfl (lv_at hl 0 rfl) ?_
              refine iv_get (v' := .int (hI ((m_X6_lays P glyph size) 0 9))) hx hb hts inX6 hown hK hh.1 (ob_Model) rfl 9 (by decide) (hts _ q3_169) rfl rfl (congrArg (fun z => Value.int (hI (z 0 9))) (gset_at _ _ _)) dX6_pixels_71 ?_
              have hm14 : hIn ((m_X6_lays P glyph size) 0 9) := hIn_rd hh.2.1 (gset_at _ _ _) (by decide)
              refine lv_goto (tgt := 83) hx hb dX6_pixels_74 (by decide) ?_
              refine lv_iload_n hx hb dX6_pixels_83 rfl (lv_at hl 2 rfl) ?_
              refine iv_ishr hx hb dX6_pixels_84 ?_
              refine iv_iconst hx hb dX6_pixels_85 ?_
              refine iv_iand hx hb dX6_pixels_86 ?_
              exact iv_iret E hh (by unfold v_X6_pixels; rw [if_neg c3, if_neg c5, if_neg c7, if_neg c9, if_neg c10, if_pos c11]) (by rw [← show (iAnd (iShr ((m_X6_lays P glyph size) 0 9) stem) 1) = v_X6_pixels P glyph stem size what from (by unfold v_X6_pixels; rw [if_neg c3, if_neg c5, if_neg c7, if_neg c9, if_neg c10, if_pos c11])]; exact (hIn_toInt _)) (by unfold m_X6_pixels; rw [if_neg c3, if_neg c5, if_neg c7, if_neg c9, if_neg c10, if_pos c11]) dX6_pixels_87
          · have h := h.1 c10
            refine lv_aload_n hx hb dX6_pixels_55 rfl (lv_at hl 0 rfl) ?_
            refine iv_get (v' := .ref (ad 10 6)) hx hb hts inX6 hown hK hh.1 (ob_Model) rfl 8 (by decide) (hts _ q3_168) rfl rfl rfl dX6_pixels_56 ?_
            refine lv_iload_n hx hb dX6_pixels_59 rfl (lv_at hl 2 rfl) ?_
            obtain ⟨g15, h⟩ := h
            refine iv_iald hx hb hK hh.1 (ia_10_6) g15 (v := ((m_X6_lays P glyph size) 6 stem)) (congrArg (fun z => z 6 stem) (gset_at _ _ _)) dX6_pixels_60 ?_
            have hm16 : hIn ((m_X6_lays P glyph size) 6 stem) := hIn_rd hh.2.1 (gset_at _ _ _) (by decide)
            refine lv_goto (tgt := 87) hx hb dX6_pixels_61 (by decide) ?_
            exact iv_iret E hh (by unfold v_X6_pixels; rw [if_neg c3, if_neg c5, if_neg c7, if_neg c9, if_pos c10]) (by rw [← show ((m_X6_lays P glyph size) 6 stem) = v_X6_pixels P glyph stem size what from (by unfold v_X6_pixels; rw [if_neg c3, if_neg c5, if_neg c7, if_neg c9, if_pos c10])]; exact hm16) (by unfold m_X6_pixels; rw [if_neg c3, if_neg c5, if_neg c7, if_neg c9, if_pos c10]) dX6_pixels_87
        · have h := h.1 c9
          refine lv_aload_n hx hb dX6_pixels_40 rfl (lv_at hl 0 rfl) ?_
          refine iv_get (v' := .ref (ad 10 5)) hx hb hts inX6 hown hK hh.1 (ob_Model) rfl 7 (by decide) (hts _ q3_167) rfl rfl rfl dX6_pixels_41 ?_
          refine lv_iload_n hx hb dX6_pixels_44 rfl (lv_at hl 2 rfl) ?_
          obtain ⟨g17, h⟩ := h
          refine iv_iald hx hb hK hh.1 (ia_10_5) g17 (v := ((m_X6_lays P glyph size) 5 stem)) (congrArg (fun z => z 5 stem) (gset_at _ _ _)) dX6_pixels_45 ?_
          have hm18 : hIn ((m_X6_lays P glyph size) 5 stem) := hIn_rd hh.2.1 (gset_at _ _ _) (by decide)
          refine lv_goto (tgt := 87) hx hb dX6_pixels_46 (by decide) ?_
          exact iv_iret E hh (by unfold v_X6_pixels; rw [if_neg c3, if_neg c5, if_neg c7, if_pos c9]) (by rw [← show ((m_X6_lays P glyph size) 5 stem) = v_X6_pixels P glyph stem size what from (by unfold v_X6_pixels; rw [if_neg c3, if_neg c5, if_neg c7, if_pos c9])]; exact hm18) (by unfold m_X6_pixels; rw [if_neg c3, if_neg c5, if_neg c7, if_pos c9]) dX6_pixels_87
      · have h := h.1 c7
        refine iv_ldc (n := (-1000001)) hx hb (by decide) hown (hts _ q3_219) dX6_pixels_26 ?_
        exact iv_iret E hh (by unfold v_X6_pixels; rw [if_neg c3, if_neg c5, if_pos c7]) (by rw [← show (-1000001) = v_X6_pixels P glyph stem size what from (by unfold v_X6_pixels; rw [if_neg c3, if_neg c5, if_pos c7])]; exact ⟨by decide, by decide⟩) (by unfold m_X6_pixels; rw [if_neg c3, if_neg c5, if_pos c7]) dX6_pixels_28
set_option maxHeartbeats 4000000 in
set_option maxRecDepth 100000 in
theorem ok_X6_runsOf (l : Launch) (hinj : hInj ad) (S : hS) (P : hGM) (hP : S 10 = P) (glyph : Int) (size : Int) (h_glyph : hIn glyph) (h_size : hIn size) (hp : p_X6_runsOf P glyph size) : hMi D ad cI cJ cF l yX6_runsOf cX6_runsOf 5 (some .int) ({ frames := 2, cells := 0, slots := 0, locals := 46 } : Room) [.ref (ad 10 0), .int (hI glyph), .int (hI size)] S (v_X6_runsOf P glyph size) S := by
  refine hOf (S := S) l hinj (by decide +kernel) (Nat.le_of_ble_eq_true rfl) (fun p e s m args below meth c E => ?_)
  obtain ⟨hx, hb, hml, hown, hts, hK, hN, -, hr, hlk⟩ := id E
  have hown : s.vm.findClass RX6 = some m.cls := hown
  have r5 : ∀ (y3 : Int) (y4 : Int), hIn y3 → hIn y4 → ((p_X6_columns P glyph size ∧ ((y4 < (v_X6_columns P glyph size) → (p_X6_isLit P glyph y4 ∧ (((v_X6_isLit P glyph y4) = 0 → (hAt D ad cI cJ cF p l e ({ frames := 2, cells := 0, slots := 0, locals := 46 } : Room) s m args below meth c (MQ below (hQi D ad cI cJ cF (v_X6_runsOf P glyph size) S) args s 0 0 (hAd ad)) 5 5 [(0, .ref (ad 10 0)), (1, .int (hI glyph)), (2, .int (hI size)), (3, .int (hI (y3 + 0))), (4, .int (hI (y4 + 1)))] S)) ∧ (¬ (v_X6_isLit P glyph y4) = 0 → ((y4 = 0 → (hAt D ad cI cJ cF p l e ({ frames := 2, cells := 0, slots := 0, locals := 46 } : Room) s m args below meth c (MQ below (hQi D ad cI cJ cF (v_X6_runsOf P glyph size) S) args s 0 0 (hAd ad)) 5 5 [(0, .ref (ad 10 0)), (1, .int (hI glyph)), (2, .int (hI size)), (3, .int (hI (y3 + 1))), (4, .int (hI (y4 + 1)))] S)) ∧ (¬ y4 = 0 → (hIn (y4 - 1) ∧ (p_X6_isLit P glyph (y4 - 1) ∧ (((v_X6_isLit P glyph (y4 - 1)) = 0 → (hAt D ad cI cJ cF p l e ({ frames := 2, cells := 0, slots := 0, locals := 46 } : Room) s m args below meth c (MQ below (hQi D ad cI cJ cF (v_X6_runsOf P glyph size) S) args s 0 0 (hAd ad)) 5 5 [(0, .ref (ad 10 0)), (1, .int (hI glyph)), (2, .int (hI size)), (3, .int (hI (y3 + 1))), (4, .int (hI (y4 + 1)))] S)) ∧ (¬ (v_X6_isLit P glyph (y4 - 1)) = 0 → (hAt D ad cI cJ cF p l e ({ frames := 2, cells := 0, slots := 0, locals := 46 } : Room) s m args below meth c (MQ below (hQi D ad cI cJ cF (v_X6_runsOf P glyph size) S) args s 0 0 (hAd ad)) 5 5 [(0, .ref (ad 10 0)), (1, .int (hI glyph)), (2, .int (hI size)), (3, .int (hI (y3 + 0))), (4, .int (hI (y4 + 1)))] S))))))))))) ∧ (¬ y4 < (v_X6_columns P glyph size) → (y3 = v_X6_runsOf P glyph size))))) → (hAt D ad cI cJ cF p l e ({ frames := 2, cells := 0, slots := 0, locals := 46 } : Room) s m args below meth c (MQ below (hQi D ad cI cJ cF (v_X6_runsOf P glyph size) S) args s 0 0 (hAd ad)) 5 5 [(0, .ref (ad 10 0)), (1, .int (hI glyph)), (2, .int (hI size)), (3, .int (hI y3)), (4, .int (hI y4))] S) := by
    intro y3 y4 h_y3 h_y4 h H locs ls hh hl
    refine lv_iload hx hb dX6_runsOf_5 (lv_at hl 4 rfl) ?_
    refine lv_aload_n hx hb dX6_runsOf_7 rfl (lv_at hl 0 rfl) ?_
    refine lv_iload_n hx hb dX6_runsOf_8 rfl (lv_at hl 1 rfl) ?_
    refine lv_iload_n hx hb dX6_runsOf_9 rfl (lv_at hl 2 rfl) ?_
    obtain ⟨g1, h⟩ := h
    refine iv_ki (iv_rV (As := [.int (hI glyph), .int (hI size)]) (rest := [.int (hI y4)]) E hh (ok_X6_columns l hinj S P hP glyph size h_glyph h_size g1) cb_X6_columns q4_86 rfl rfl ⟨Nat.le_of_ble_eq_true rfl, Nat.le_of_ble_eq_true rfl⟩ (ob_Model) rfl rfl rfl hl.1 rfl (Nat.le_of_ble_eq_true rfl) dX6_runsOf_10 ⟨Nat.zero_le _, Nat.zero_le _⟩) hh (fun hc2 H locs hh => ?_)
    refine iv_icmp_ge (tgt := 57) hx hb h_y4 hc2 dX6_runsOf_13 (by decide) (fun c3 => ?_) (fun c3 => ?_)
    · have h := h.2 c3
      refine lv_iload_n hx hb dX6_runsOf_57 rfl (lv_at hl 3 rfl) ?_
      exact iv_iret E hh h (by rw [← h]; exact h_y3) rfl dX6_runsOf_58
    · have h := h.1 c3
      refine lv_iload_n hx hb dX6_runsOf_16 rfl (lv_at hl 3 rfl) ?_
      refine lv_aload_n hx hb dX6_runsOf_17 rfl (lv_at hl 0 rfl) ?_
      refine lv_iload_n hx hb dX6_runsOf_18 rfl (lv_at hl 1 rfl) ?_
      refine lv_iload hx hb dX6_runsOf_19 (lv_at hl 4 rfl) ?_
      obtain ⟨g4, h⟩ := h
      refine iv_ki (iv_rV (As := [.int (hI glyph), .int (hI y4)]) (rest := [.int (hI y3)]) E hh (ok_X6_isLit l hinj S P hP glyph y4 h_glyph h_y4 g4) cb_X6_isLit q4_94 rfl rfl ⟨Nat.le_of_ble_eq_true rfl, Nat.le_of_ble_eq_true rfl⟩ (ob_Model) rfl rfl rfl hl.1 rfl (Nat.le_of_ble_eq_true rfl) dX6_runsOf_21 ⟨Nat.zero_le _, Nat.zero_le _⟩) hh (fun hc5 H locs hh => ?_)
      refine iv_if_eq (tgt := 48) hx hb hc5 dX6_runsOf_24 (by decide) (fun c6 => ?_) (fun c6 => ?_)
      · have h := h.1 c6
        refine iv_iconst hx hb dX6_runsOf_48 ?_
        refine iv_iadd hx hb dX6_runsOf_49 ?_
        refine lv_istore_n (lv' := [(3, .int (hI (y3 + 0))), (0, .ref (ad 10 0)), (1, .int (hI glyph)), (2, .int (hI size)), (4, .int (hI y4))]) hx hb dX6_runsOf_50 rfl hl (by decide) rfl (fun ls hl => ?_)
        refine iv_iinc (lv' := [(4, .int (hI (y4 + 1))), (3, .int (hI (y3 + 0))), (0, .ref (ad 10 0)), (1, .int (hI glyph)), (2, .int (hI size))]) hx hb dX6_runsOf_51 hl (k := 4) rfl (v := (y4 + 1)) rfl (by decide) rfl (fun ls hl => ?_)
        refine lv_goto (tgt := 5) hx hb dX6_runsOf_54 (by decide) ?_
        exact h H _ ls hh (lv_sub hl [2, 3, 4, 1, 0] rfl)
      · have h := h.2 c6
        refine lv_iload hx hb dX6_runsOf_27 (lv_at hl 4 rfl) ?_
        refine iv_if_eq (tgt := 44) hx hb h_y4 dX6_runsOf_29 (by decide) (fun c7 => ?_) (fun c7 => ?_)
        · have h := h.1 c7
          refine iv_iconst hx hb dX6_runsOf_44 ?_
          refine lv_goto (tgt := 49) hx hb dX6_runsOf_45 (by decide) ?_
          refine iv_iadd hx hb dX6_runsOf_49 ?_
          refine lv_istore_n (lv' := [(3, .int (hI (y3 + 1))), (0, .ref (ad 10 0)), (1, .int (hI glyph)), (2, .int (hI size)), (4, .int (hI y4))]) hx hb dX6_runsOf_50 rfl hl (by decide) rfl (fun ls hl => ?_)
          refine iv_iinc (lv' := [(4, .int (hI (y4 + 1))), (3, .int (hI (y3 + 1))), (0, .ref (ad 10 0)), (1, .int (hI glyph)), (2, .int (hI size))]) hx hb dX6_runsOf_51 hl (k := 4) rfl (v := (y4 + 1)) rfl (by decide) rfl (fun ls hl => ?_)
          refine lv_goto (tgt := 5) hx hb dX6_runsOf_54 (by decide) ?_
          exact h H _ ls hh (lv_sub hl [2, 3, 4, 1, 0] rfl)
        · have h := h.2 c7
          refine lv_aload_n hx hb dX6_runsOf_32 rfl (lv_at hl 0 rfl) ?_
          refine lv_iload_n hx hb dX6_runsOf_33 rfl (lv_at hl 1 rfl) ?_
          refine lv_iload hx hb dX6_runsOf_34 (lv_at hl 4 rfl) ?_
          refine iv_iconst hx hb dX6_runsOf_36 ?_
          refine iv_isub hx hb dX6_runsOf_37 ?_
          obtain ⟨g8, h⟩ := h
          obtain ⟨g9, h⟩ := h
          refine iv_ki (iv_rV (As := [.int (hI glyph), .int (hI (y4 - 1))]) (rest := [.int (hI y3)]) E hh (ok_X6_isLit l hinj S P hP glyph (y4 - 1) h_glyph g8 g9) cb_X6_isLit q4_94 rfl rfl ⟨Nat.le_of_ble_eq_true rfl, Nat.le_of_ble_eq_true rfl⟩ (ob_Model) rfl rfl rfl hl.1 rfl (Nat.le_of_ble_eq_true rfl) dX6_runsOf_38 ⟨Nat.zero_le _, Nat.zero_le _⟩) hh (fun hc10 H locs hh => ?_)
          refine iv_if_ne (tgt := 48) hx hb hc10 dX6_runsOf_41 (by decide) (fun c11 => ?_) (fun c11 => ?_)
          · have h := h.2 c11
            refine iv_iconst hx hb dX6_runsOf_48 ?_
            refine iv_iadd hx hb dX6_runsOf_49 ?_
            refine lv_istore_n (lv' := [(3, .int (hI (y3 + 0))), (0, .ref (ad 10 0)), (1, .int (hI glyph)), (2, .int (hI size)), (4, .int (hI y4))]) hx hb dX6_runsOf_50 rfl hl (by decide) rfl (fun ls hl => ?_)
            refine iv_iinc (lv' := [(4, .int (hI (y4 + 1))), (3, .int (hI (y3 + 0))), (0, .ref (ad 10 0)), (1, .int (hI glyph)), (2, .int (hI size))]) hx hb dX6_runsOf_51 hl (k := 4) rfl (v := (y4 + 1)) rfl (by decide) rfl (fun ls hl => ?_)
            refine lv_goto (tgt := 5) hx hb dX6_runsOf_54 (by decide) ?_
            exact h H _ ls hh (lv_sub hl [2, 3, 4, 1, 0] rfl)
          · have h := h.1 c11
            refine iv_iconst hx hb dX6_runsOf_44 ?_
            refine lv_goto (tgt := 49) hx hb dX6_runsOf_45 (by decide) ?_
            refine iv_iadd hx hb dX6_runsOf_49 ?_
            refine lv_istore_n (lv' := [(3, .int (hI (y3 + 1))), (0, .ref (ad 10 0)), (1, .int (hI glyph)), (2, .int (hI size)), (4, .int (hI y4))]) hx hb dX6_runsOf_50 rfl hl (by decide) rfl (fun ls hl => ?_)
            refine iv_iinc (lv' := [(4, .int (hI (y4 + 1))), (3, .int (hI (y3 + 1))), (0, .ref (ad 10 0)), (1, .int (hI glyph)), (2, .int (hI size))]) hx hb dX6_runsOf_51 hl (k := 4) rfl (v := (y4 + 1)) rfl (by decide) rfl (fun ls hl => ?_)
            refine lv_goto (tgt := 5) hx hb dX6_runsOf_54 (by decide) ?_
            exact h H _ ls hh (lv_sub hl [2, 3, 4, 1, 0] rfl)
  intro H locs ls hh hl
  have hl : lv_has ls 5 [(0, .ref (ad 10 0)), (1, .int (hI glyph)), (2, .int (hI size))] := hl
  have h := x_X6_runsOf P glyph size h_glyph h_size (fun i k hi => hIn_rd hh.2.1 hP hi) hp (fun y3 y4 => (hAt D ad cI cJ cF p l e ({ frames := 2, cells := 0, slots := 0, locals := 46 } : Room) s m args below meth c (MQ below (hQi D ad cI cJ cF (v_X6_runsOf P glyph size) S) args s 0 0 (hAd ad)) 5 5 [(0, .ref (ad 10 0)), (1, .int (hI glyph)), (2, .int (hI size)), (3, .int (hI y3)), (4, .int (hI y4))] S)) (fun r => (r = v_X6_runsOf P glyph size)) r5 rfl
  refine iv_iconst hx hb dX6_runsOf_0 ?_
  refine lv_istore_n (lv' := [(3, .int (hI 0)), (0, .ref (ad 10 0)), (1, .int (hI glyph)), (2, .int (hI size))]) hx hb dX6_runsOf_1 rfl hl (by decide) rfl (fun ls hl => ?_)
  refine iv_iconst hx hb dX6_runsOf_2 ?_
  refine lv_istore (lv' := [(4, .int (hI 0)), (3, .int (hI 0)), (0, .ref (ad 10 0)), (1, .int (hI glyph)), (2, .int (hI size))]) hx hb dX6_runsOf_3 hl (by decide) rfl (fun ls hl => ?_)
  exact h H _ ls hh (lv_sub hl [2, 3, 4, 1, 0] rfl)
theorem to_X6_glyphOf_34 (x : Int) (_ : ¬ x = 0) (_ : ¬ x = 1) (_ : ¬ x = 2) (_ : ¬ x = 3) (_ : ¬ x = 4) : x < 0 ∨ 4 < x := by omega
set_option maxHeartbeats 4000000 in
set_option maxRecDepth 100000 in
theorem ok_X6_glyphOf (l : Launch) (hinj : hInj ad) (S : hS) (P : hGM) (hP : S 10 = P) (glyph : Int) (size : Int) (what : Int) (h_glyph : hIn glyph) (h_size : hIn size) (h_what : hIn what) (hp : p_X6_glyphOf P glyph size what) : hMi D ad cI cJ cF l yX6_glyphOf cX6_glyphOf 4 (some .int) ({ frames := 6, cells := 0, slots := 0, locals := 141 } : Room) [.ref (ad 10 0), .int (hI glyph), .int (hI size), .int (hI what)] S (v_X6_glyphOf P glyph size what) (gset S 10 (m_X6_glyphOf P glyph size what)) := by
  refine hOf (S := S) l hinj (by decide +kernel) (Nat.le_of_ble_eq_true rfl) (fun p e s m args below meth c E => ?_)
  obtain ⟨hx, hb, hml, hown, hts, hK, hN, -, hr, hlk⟩ := id E
  have hown : s.vm.findClass RX6 = some m.cls := hown
  intro H locs ls hh hl
  have hl : lv_has ls 4 [(0, .ref (ad 10 0)), (1, .int (hI glyph)), (2, .int (hI size)), (3, .int (hI what))] := hl
  replace hh : hH D ad cI cJ cF (gset S 10 P) s H locs := by rw [← can1 hP]; exact hh
  have h := hp
  unfold p_X6_glyphOf at h
  refine lv_aload_n hx hb dX6_glyphOf_0 rfl (lv_at hl 0 rfl) ?_
  refine lv_iload_n hx hb dX6_glyphOf_1 rfl (lv_at hl 1 rfl) ?_
  refine iv_ki (iv_rV (As := [.int (hI glyph)]) (rest := []) E hh (ok_X6_isGlyph l hinj (gset S 10 P) P (gset_at _ _ _) glyph h_glyph) cb_X6_isGlyph q3_229 rfl rfl ⟨Nat.le_of_ble_eq_true rfl, Nat.le_of_ble_eq_true rfl⟩ (ob_Model) rfl rfl rfl hl.1 rfl (Nat.le_of_ble_eq_true rfl) dX6_glyphOf_2 ⟨Nat.zero_le _, Nat.zero_le _⟩) hh (fun hc1 H locs hh => ?_)
  refine iv_if_eq (tgt := 24) hx hb hc1 dX6_glyphOf_5 (by decide) (fun c2 => ?_) (fun c2 => ?_)
  · have h := h.1 c2
    refine iv_ldc (n := (-1000001)) hx hb (by decide) hown (hts _ q3_219) dX6_glyphOf_24 ?_
    exact iv_iret E hh (by unfold v_X6_glyphOf; rw [if_pos c2]) (by rw [← show (-1000001) = v_X6_glyphOf P glyph size what from (by unfold v_X6_glyphOf; rw [if_pos c2])]; exact ⟨by decide, by decide⟩) (by unfold m_X6_glyphOf; rw [if_pos c2]) dX6_glyphOf_26
  · have h := h.2 c2
    refine lv_iload_n hx hb dX6_glyphOf_8 rfl (lv_at hl 2 rfl) ?_
    refine iv_ki (iv_rS (As := [.int (hI size)]) (rest := []) E hh (ok_X6_isSize l hinj (gset S 10 P) size h_size) cb_X6_isSize q4_49 rfl rfl ⟨Nat.le_of_ble_eq_true rfl, Nat.le_of_ble_eq_true rfl⟩ rfl hl.1 rfl (Nat.le_of_ble_eq_true rfl) dX6_glyphOf_9 ⟨Nat.zero_le _, Nat.zero_le _⟩) hh (fun hc3 H locs hh => ?_)
    refine iv_if_eq (tgt := 24) hx hb hc3 dX6_glyphOf_12 (by decide) (fun c4 => ?_) (fun c4 => ?_)
    · have h := h.1 c4
      refine iv_ldc (n := (-1000001)) hx hb (by decide) hown (hts _ q3_219) dX6_glyphOf_24 ?_
      exact iv_iret E hh (by unfold v_X6_glyphOf; rw [if_neg c2, if_pos c4]) (by rw [← show (-1000001) = v_X6_glyphOf P glyph size what from (by unfold v_X6_glyphOf; rw [if_neg c2, if_pos c4])]; exact ⟨by decide, by decide⟩) (by unfold m_X6_glyphOf; rw [if_neg c2, if_pos c4]) dX6_glyphOf_26
    · have h := h.2 c4
      refine lv_iload_n hx hb dX6_glyphOf_15 rfl (lv_at hl 3 rfl) ?_
      refine iv_iconst hx hb dX6_glyphOf_16 ?_
      refine iv_iconst hx hb dX6_glyphOf_17 ?_
      refine iv_ki (iv_rS (As := [.int (hI what), .int (hI 0), .int (hI 5)]) (rest := []) E hh (ok_X6_in l hinj (gset S 10 P) what 0 5 h_what ⟨by decide, by decide⟩ ⟨by decide, by decide⟩) cb_X6_in q3_216 rfl rfl ⟨Nat.le_of_ble_eq_true rfl, Nat.le_of_ble_eq_true rfl⟩ rfl hl.1 rfl (Nat.le_of_ble_eq_true rfl) dX6_glyphOf_18 ⟨Nat.zero_le _, Nat.zero_le _⟩) hh (fun hc5 H locs hh => ?_)
      refine iv_if_ne (tgt := 27) hx hb hc5 dX6_glyphOf_21 (by decide) (fun c6 => ?_) (fun c6 => ?_)
      · have h := h.2 c6
        refine lv_aload_n hx hb dX6_glyphOf_27 rfl (lv_at hl 0 rfl) ?_
        refine lv_iload_n hx hb dX6_glyphOf_28 rfl (lv_at hl 1 rfl) ?_
        refine lv_iload_n hx hb dX6_glyphOf_29 rfl (lv_at hl 2 rfl) ?_
        obtain ⟨g7, h⟩ := h
        refine iv_kv (iv_rV (As := [.int (hI glyph), .int (hI size)]) (rest := []) E hh (ok_X6_lays l hinj (gset S 10 P) P (gset_at _ _ _) glyph size h_glyph h_size g7) cb_X6_lays q4_64 rfl rfl ⟨Nat.le_of_ble_eq_true rfl, Nat.le_of_ble_eq_true rfl⟩ (ob_Model) rfl rfl rfl hl.1 rfl (Nat.le_of_ble_eq_true rfl) dX6_glyphOf_30 ⟨Nat.zero_le _, Nat.zero_le _⟩) hh (fun H locs hh => ?_)
        replace hh : hH D ad cI cJ cF (gset S 10 (m_X6_lays P glyph size)) s H locs := by rw [← show _ = (gset S 10 (m_X6_lays P glyph size)) from (gset_gset _ _ _ _)]; exact hh
        refine lv_iload_n hx hb dX6_glyphOf_33 rfl (lv_at hl 3 rfl) ?_
        by_cases c8 : what = 0
        · have h := h.1 c8
          refine lv_tableIn (off := 34) (tgt := 68) hx hb dX6_glyphOf_34 (by rw [hI_toInt h_what, c8]; decide) (by rw [hI_toInt h_what, c8]; decide) (by rw [hI_toInt h_what, c8]; rfl) (by decide) ?_
          refine lv_aload_n hx hb dX6_glyphOf_68 rfl (lv_at hl 0 rfl) ?_
          refine lv_iload_n hx hb dX6_glyphOf_69 rfl (lv_at hl 1 rfl) ?_
          refine lv_iload_n hx hb dX6_glyphOf_70 rfl (lv_at hl 2 rfl) ?_
          obtain ⟨g9, h⟩ := h
          refine iv_ki (iv_rV (As := [.int (hI glyph), .int (hI size)]) (rest := []) E hh (ok_X6_columns l hinj (gset S 10 (m_X6_lays P glyph size)) (m_X6_lays P glyph size) (gset_at _ _ _) glyph size h_glyph h_size g9) cb_X6_columns q4_86 rfl rfl ⟨Nat.le_of_ble_eq_true rfl, Nat.le_of_ble_eq_true rfl⟩ (ob_Model) rfl rfl rfl hl.1 rfl (Nat.le_of_ble_eq_true rfl) dX6_glyphOf_71 ⟨Nat.zero_le _, Nat.zero_le _⟩) hh (fun hc10 H locs hh => ?_)
          exact iv_iret E hh (by unfold v_X6_glyphOf; rw [if_neg c2, if_neg c4, if_neg c6, if_pos c8]) (by rw [← show (v_X6_columns (m_X6_lays P glyph size) glyph size) = v_X6_glyphOf P glyph size what from (by unfold v_X6_glyphOf; rw [if_neg c2, if_neg c4, if_neg c6, if_pos c8])]; exact hc10) (by unfold m_X6_glyphOf; rw [if_neg c2, if_neg c4, if_neg c6, if_pos c8]) dX6_glyphOf_74
        · have h := h.2 c8
          by_cases c11 : what = 1
          · have h := h.1 c11
            refine lv_tableIn (off := 41) (tgt := 75) hx hb dX6_glyphOf_34 (by rw [hI_toInt h_what, c11]; decide) (by rw [hI_toInt h_what, c11]; decide) (by rw [hI_toInt h_what, c11]; rfl) (by decide) ?_
            refine lv_aload_n hx hb dX6_glyphOf_75 rfl (lv_at hl 0 rfl) ?_
            refine lv_iload_n hx hb dX6_glyphOf_76 rfl (lv_at hl 1 rfl) ?_
            refine lv_iload_n hx hb dX6_glyphOf_77 rfl (lv_at hl 2 rfl) ?_
            refine iv_iconst hx hb dX6_glyphOf_78 ?_
            obtain ⟨g12, h⟩ := h
            refine iv_ki (iv_rV (As := [.int (hI glyph), .int (hI size), .int (hI 0)]) (rest := []) E hh (ok_X6_litHalf l hinj (gset S 10 (m_X6_lays P glyph size)) (m_X6_lays P glyph size) (gset_at _ _ _) glyph size 0 h_glyph h_size ⟨by decide, by decide⟩ g12) cb_X6_litHalf q4_90 rfl rfl ⟨Nat.le_of_ble_eq_true rfl, Nat.le_of_ble_eq_true rfl⟩ (ob_Model) rfl rfl rfl hl.1 rfl (Nat.le_of_ble_eq_true rfl) dX6_glyphOf_79 ⟨Nat.zero_le _, Nat.zero_le _⟩) hh (fun hc13 H locs hh => ?_)
            obtain ⟨g14, h⟩ := h
            refine iv_ki (iv_rS (As := [.int (hI (v_X6_litHalf (m_X6_lays P glyph size) glyph size 0))]) (rest := []) E hh (ok_X6_ones l hinj (gset S 10 (m_X6_lays P glyph size)) (v_X6_litHalf (m_X6_lays P glyph size) glyph size 0) hc13 g14) cb_X6_ones q4_122 rfl rfl ⟨Nat.le_of_ble_eq_true rfl, Nat.le_of_ble_eq_true rfl⟩ rfl hl.1 rfl (Nat.le_of_ble_eq_true rfl) dX6_glyphOf_82 ⟨Nat.zero_le _, Nat.zero_le _⟩) hh (fun hc15 H locs hh => ?_)
            refine lv_aload_n hx hb dX6_glyphOf_85 rfl (lv_at hl 0 rfl) ?_
            refine lv_iload_n hx hb dX6_glyphOf_86 rfl (lv_at hl 1 rfl) ?_
            refine lv_iload_n hx hb dX6_glyphOf_87 rfl (lv_at hl 2 rfl) ?_
            refine iv_iconst hx hb dX6_glyphOf_88 ?_
            obtain ⟨g16, h⟩ := h
            refine iv_ki (iv_rV (As := [.int (hI glyph), .int (hI size), .int (hI 1)]) (rest := [.int (hI (v_X6_ones (v_X6_litHalf (m_X6_lays P glyph size) glyph size 0)))]) E hh (ok_X6_litHalf l hinj (gset S 10 (m_X6_lays P glyph size)) (m_X6_lays P glyph size) (gset_at _ _ _) glyph size 1 h_glyph h_size ⟨by decide, by decide⟩ g16) cb_X6_litHalf q4_90 rfl rfl ⟨Nat.le_of_ble_eq_true rfl, Nat.le_of_ble_eq_true rfl⟩ (ob_Model) rfl rfl rfl hl.1 rfl (Nat.le_of_ble_eq_true rfl) dX6_glyphOf_89 ⟨Nat.zero_le _, Nat.zero_le _⟩) hh (fun hc17 H locs hh => ?_)
            obtain ⟨g18, h⟩ := h
            refine iv_ki (iv_rS (As := [.int (hI (v_X6_litHalf (m_X6_lays P glyph size) glyph size 1))]) (rest := [.int (hI (v_X6_ones (v_X6_litHalf (m_X6_lays P glyph size) glyph size 0)))]) E hh (ok_X6_ones l hinj (gset S 10 (m_X6_lays P glyph size)) (v_X6_litHalf (m_X6_lays P glyph size) glyph size 1) hc17 g18) cb_X6_ones q4_122 rfl rfl ⟨Nat.le_of_ble_eq_true rfl, Nat.le_of_ble_eq_true rfl⟩ rfl hl.1 rfl (Nat.le_of_ble_eq_true rfl) dX6_glyphOf_92 ⟨Nat.zero_le _, Nat.zero_le _⟩) hh (fun hc19 H locs hh => ?_)
            refine iv_iadd hx hb dX6_glyphOf_95 ?_
            obtain ⟨g20, h⟩ := h
            exact iv_iret E hh (by unfold v_X6_glyphOf; rw [if_neg c2, if_neg c4, if_neg c6, if_neg c8, if_pos c11]) (by rw [← show ((v_X6_ones (v_X6_litHalf (m_X6_lays P glyph size) glyph size 0)) + (v_X6_ones (v_X6_litHalf (m_X6_lays P glyph size) glyph size 1))) = v_X6_glyphOf P glyph size what from (by unfold v_X6_glyphOf; rw [if_neg c2, if_neg c4, if_neg c6, if_neg c8, if_pos c11])]; exact g20) (by unfold m_X6_glyphOf; rw [if_neg c2, if_neg c4, if_neg c6, if_neg c8, if_pos c11]) dX6_glyphOf_96
          · have h := h.2 c11
            by_cases c21 : what = 2
            · have h := h.1 c21
              refine lv_tableIn (off := 63) (tgt := 97) hx hb dX6_glyphOf_34 (by rw [hI_toInt h_what, c21]; decide) (by rw [hI_toInt h_what, c21]; decide) (by rw [hI_toInt h_what, c21]; rfl) (by decide) ?_
              refine lv_aload_n hx hb dX6_glyphOf_97 rfl (lv_at hl 0 rfl) ?_
              refine lv_iload_n hx hb dX6_glyphOf_98 rfl (lv_at hl 1 rfl) ?_
              refine lv_iload_n hx hb dX6_glyphOf_99 rfl (lv_at hl 2 rfl) ?_
              obtain ⟨g22, h⟩ := h
              refine iv_ki (iv_rV (As := [.int (hI glyph), .int (hI size)]) (rest := []) E hh (ok_X6_isClear l hinj (gset S 10 (m_X6_lays P glyph size)) (m_X6_lays P glyph size) (gset_at _ _ _) glyph size h_glyph h_size g22) cb_X6_isClear q4_125 rfl rfl ⟨Nat.le_of_ble_eq_true rfl, Nat.le_of_ble_eq_true rfl⟩ (ob_Model) rfl rfl rfl hl.1 rfl (Nat.le_of_ble_eq_true rfl) dX6_glyphOf_100 ⟨Nat.zero_le _, Nat.zero_le _⟩) hh (fun hc23 H locs hh => ?_)
              replace hh : hH D ad cI cJ cF (gset S 10 (m_X6_isClear (m_X6_lays P glyph size) glyph size)) s H locs := by rw [← show _ = (gset S 10 (m_X6_isClear (m_X6_lays P glyph size) glyph size)) from (gset_gset _ _ _ _)]; exact hh
              refine iv_if_eq (tgt := 110) hx hb hc23 dX6_glyphOf_103 (by decide) (fun c24 => ?_) (fun c24 => ?_)
              · have h := h.1 c24
                refine iv_iconst hx hb dX6_glyphOf_110 ?_
                exact iv_iret E hh (by unfold v_X6_glyphOf; rw [if_neg c2, if_neg c4, if_neg c6, if_neg c8, if_neg c11, if_pos c21, if_pos c24]) (by rw [← show 0 = v_X6_glyphOf P glyph size what from (by unfold v_X6_glyphOf; rw [if_neg c2, if_neg c4, if_neg c6, if_neg c8, if_neg c11, if_pos c21, if_pos c24])]; exact ⟨by decide, by decide⟩) (by unfold m_X6_glyphOf; rw [if_neg c2, if_neg c4, if_neg c6, if_neg c8, if_neg c11, if_pos c21, if_pos c24]) dX6_glyphOf_111
              · have h := h.2 c24
                refine iv_iconst hx hb dX6_glyphOf_106 ?_
                refine lv_goto (tgt := 111) hx hb dX6_glyphOf_107 (by decide) ?_
                exact iv_iret E hh (by unfold v_X6_glyphOf; rw [if_neg c2, if_neg c4, if_neg c6, if_neg c8, if_neg c11, if_pos c21, if_neg c24]) (by rw [← show 1 = v_X6_glyphOf P glyph size what from (by unfold v_X6_glyphOf; rw [if_neg c2, if_neg c4, if_neg c6, if_neg c8, if_neg c11, if_pos c21, if_neg c24])]; exact ⟨by decide, by decide⟩) (by unfold m_X6_glyphOf; rw [if_neg c2, if_neg c4, if_neg c6, if_neg c8, if_neg c11, if_pos c21, if_neg c24]) dX6_glyphOf_111
            · have h := h.2 c21
              by_cases c25 : what = 3
              · have h := h.1 c25
                refine lv_tableIn (off := 78) (tgt := 112) hx hb dX6_glyphOf_34 (by rw [hI_toInt h_what, c25]; decide) (by rw [hI_toInt h_what, c25]; decide) (by rw [hI_toInt h_what, c25]; rfl) (by decide) ?_
                refine lv_aload_n hx hb dX6_glyphOf_112 rfl (lv_at hl 0 rfl) ?_
                refine iv_get (v' := .int (hI ((m_X6_lays P glyph size) 0 9))) hx hb hts inX6 hown hK hh.1 (ob_Model) rfl 9 (by decide) (hts _ q3_169) rfl rfl (congrArg (fun z => Value.int (hI (z 0 9))) (gset_at _ _ _)) dX6_glyphOf_113 ?_
                have hm26 : hIn ((m_X6_lays P glyph size) 0 9) := hIn_rd hh.2.1 (gset_at _ _ _) (by decide)
                exact iv_iret E hh (by unfold v_X6_glyphOf; rw [if_neg c2, if_neg c4, if_neg c6, if_neg c8, if_neg c11, if_neg c21, if_pos c25]) (by rw [← show ((m_X6_lays P glyph size) 0 9) = v_X6_glyphOf P glyph size what from (by unfold v_X6_glyphOf; rw [if_neg c2, if_neg c4, if_neg c6, if_neg c8, if_neg c11, if_neg c21, if_pos c25])]; exact hm26) (by unfold m_X6_glyphOf; rw [if_neg c2, if_neg c4, if_neg c6, if_neg c8, if_neg c11, if_neg c21, if_pos c25]) dX6_glyphOf_116
              · have h := h.2 c25
                by_cases c27 : what = 4
                · have h := h.1 c27
                  refine lv_tableIn (off := 83) (tgt := 117) hx hb dX6_glyphOf_34 (by rw [hI_toInt h_what, c27]; decide) (by rw [hI_toInt h_what, c27]; decide) (by rw [hI_toInt h_what, c27]; rfl) (by decide) ?_
                  refine lv_aload_n hx hb dX6_glyphOf_117 rfl (lv_at hl 0 rfl) ?_
                  refine lv_iload_n hx hb dX6_glyphOf_118 rfl (lv_at hl 1 rfl) ?_
                  refine lv_iload_n hx hb dX6_glyphOf_119 rfl (lv_at hl 2 rfl) ?_
                  obtain ⟨g28, h⟩ := h
                  refine iv_ki (iv_rV (As := [.int (hI glyph), .int (hI size)]) (rest := []) E hh (ok_X6_cuts l hinj (gset S 10 (m_X6_lays P glyph size)) (m_X6_lays P glyph size) (gset_at _ _ _) glyph size h_glyph h_size g28) cb_X6_cuts q4_114 rfl rfl ⟨Nat.le_of_ble_eq_true rfl, Nat.le_of_ble_eq_true rfl⟩ (ob_Model) rfl rfl rfl hl.1 rfl (Nat.le_of_ble_eq_true rfl) dX6_glyphOf_120 ⟨Nat.zero_le _, Nat.zero_le _⟩) hh (fun hc29 H locs hh => ?_)
                  exact iv_iret E hh (by unfold v_X6_glyphOf; rw [if_neg c2, if_neg c4, if_neg c6, if_neg c8, if_neg c11, if_neg c21, if_neg c25, if_pos c27]) (by rw [← show (v_X6_cuts (m_X6_lays P glyph size) glyph size) = v_X6_glyphOf P glyph size what from (by unfold v_X6_glyphOf; rw [if_neg c2, if_neg c4, if_neg c6, if_neg c8, if_neg c11, if_neg c21, if_neg c25, if_pos c27])]; exact hc29) (by unfold m_X6_glyphOf; rw [if_neg c2, if_neg c4, if_neg c6, if_neg c8, if_neg c11, if_neg c21, if_neg c25, if_pos c27]) dX6_glyphOf_123
                · have h := h.2 c27
                  refine lv_tableOut (tgt := 124) hx hb dX6_glyphOf_34 (by rw [hI_toInt h_what]; exact to_X6_glyphOf_34 _ c8 c11 c21 c25 c27) (by decide) ?_
                  refine lv_aload_n hx hb dX6_glyphOf_124 rfl (lv_at hl 0 rfl) ?_
                  refine lv_iload_n hx hb dX6_glyphOf_125 rfl (lv_at hl 1 rfl) ?_
                  refine lv_iload_n hx hb dX6_glyphOf_126 rfl (lv_at hl 2 rfl) ?_
                  obtain ⟨g30, h⟩ := h
                  refine iv_ki (iv_rV (As := [.int (hI glyph), .int (hI size)]) (rest := []) E hh (ok_X6_runsOf l hinj (gset S 10 (m_X6_lays P glyph size)) (m_X6_lays P glyph size) (gset_at _ _ _) glyph size h_glyph h_size g30) cb_X6_runsOf q4_129 rfl rfl ⟨Nat.le_of_ble_eq_true rfl, Nat.le_of_ble_eq_true rfl⟩ (ob_Model) rfl rfl rfl hl.1 rfl (Nat.le_of_ble_eq_true rfl) dX6_glyphOf_127 ⟨Nat.zero_le _, Nat.zero_le _⟩) hh (fun hc31 H locs hh => ?_)
                  exact iv_iret E hh (by unfold v_X6_glyphOf; rw [if_neg c2, if_neg c4, if_neg c6, if_neg c8, if_neg c11, if_neg c21, if_neg c25, if_neg c27]) (by rw [← show (v_X6_runsOf (m_X6_lays P glyph size) glyph size) = v_X6_glyphOf P glyph size what from (by unfold v_X6_glyphOf; rw [if_neg c2, if_neg c4, if_neg c6, if_neg c8, if_neg c11, if_neg c21, if_neg c25, if_neg c27])]; exact hc31) (by unfold m_X6_glyphOf; rw [if_neg c2, if_neg c4, if_neg c6, if_neg c8, if_neg c11, if_neg c21, if_neg c25, if_neg c27]) dX6_glyphOf_130
      · have h := h.1 c6
        refine iv_ldc (n := (-1000001)) hx hb (by decide) hown (hts _ q3_219) dX6_glyphOf_24 ?_
        exact iv_iret E hh (by unfold v_X6_glyphOf; rw [if_neg c2, if_neg c4, if_pos c6]) (by rw [← show (-1000001) = v_X6_glyphOf P glyph size what from (by unfold v_X6_glyphOf; rw [if_neg c2, if_neg c4, if_pos c6])]; exact ⟨by decide, by decide⟩) (by unfold m_X6_glyphOf; rw [if_neg c2, if_neg c4, if_pos c6]) dX6_glyphOf_26
set_option maxHeartbeats 4000000 in
set_option maxRecDepth 100000 in
theorem ok_X6_lit (l : Launch) (hinj : hInj ad) (S : hS) (P : hGM) (hP : S 10 = P) (glyph : Int) (size : Int) (column : Int) (h_glyph : hIn glyph) (h_size : hIn size) (h_column : hIn column) (hp : p_X6_lit P glyph size column) : hMi D ad cI cJ cF l yX6_lit cX6_lit 4 (some .int) ({ frames := 5, cells := 0, slots := 0, locals := 119 } : Room) [.ref (ad 10 0), .int (hI glyph), .int (hI size), .int (hI column)] S (v_X6_lit P glyph size column) (gset S 10 (m_X6_lit P glyph size column)) := by
  refine hOf (S := S) l hinj (by decide +kernel) (Nat.le_of_ble_eq_true rfl) (fun p e s m args below meth c E => ?_)
  obtain ⟨hx, hb, hml, hown, hts, hK, hN, -, hr, hlk⟩ := id E
  have hown : s.vm.findClass RX6 = some m.cls := hown
  intro H locs ls hh hl
  have hl : lv_has ls 4 [(0, .ref (ad 10 0)), (1, .int (hI glyph)), (2, .int (hI size)), (3, .int (hI column))] := hl
  replace hh : hH D ad cI cJ cF (gset S 10 P) s H locs := by rw [← can1 hP]; exact hh
  have h := hp
  unfold p_X6_lit at h
  refine lv_aload_n hx hb dX6_lit_0 rfl (lv_at hl 0 rfl) ?_
  refine lv_iload_n hx hb dX6_lit_1 rfl (lv_at hl 1 rfl) ?_
  refine iv_ki (iv_rV (As := [.int (hI glyph)]) (rest := []) E hh (ok_X6_isGlyph l hinj (gset S 10 P) P (gset_at _ _ _) glyph h_glyph) cb_X6_isGlyph q3_229 rfl rfl ⟨Nat.le_of_ble_eq_true rfl, Nat.le_of_ble_eq_true rfl⟩ (ob_Model) rfl rfl rfl hl.1 rfl (Nat.le_of_ble_eq_true rfl) dX6_lit_2 ⟨Nat.zero_le _, Nat.zero_le _⟩) hh (fun hc1 H locs hh => ?_)
  refine iv_if_eq (tgt := 25) hx hb hc1 dX6_lit_5 (by decide) (fun c2 => ?_) (fun c2 => ?_)
  · have h := h.1 c2
    refine iv_ldc (n := (-1000001)) hx hb (by decide) hown (hts _ q3_219) dX6_lit_25 ?_
    exact iv_iret E hh (by unfold v_X6_lit; rw [if_pos c2]) (by rw [← show (-1000001) = v_X6_lit P glyph size column from (by unfold v_X6_lit; rw [if_pos c2])]; exact ⟨by decide, by decide⟩) (by unfold m_X6_lit; rw [if_pos c2]) dX6_lit_27
  · have h := h.2 c2
    refine lv_iload_n hx hb dX6_lit_8 rfl (lv_at hl 2 rfl) ?_
    refine iv_ki (iv_rS (As := [.int (hI size)]) (rest := []) E hh (ok_X6_isSize l hinj (gset S 10 P) size h_size) cb_X6_isSize q4_49 rfl rfl ⟨Nat.le_of_ble_eq_true rfl, Nat.le_of_ble_eq_true rfl⟩ rfl hl.1 rfl (Nat.le_of_ble_eq_true rfl) dX6_lit_9 ⟨Nat.zero_le _, Nat.zero_le _⟩) hh (fun hc3 H locs hh => ?_)
    refine iv_if_eq (tgt := 25) hx hb hc3 dX6_lit_12 (by decide) (fun c4 => ?_) (fun c4 => ?_)
    · have h := h.1 c4
      refine iv_ldc (n := (-1000001)) hx hb (by decide) hown (hts _ q3_219) dX6_lit_25 ?_
      exact iv_iret E hh (by unfold v_X6_lit; rw [if_neg c2, if_pos c4]) (by rw [← show (-1000001) = v_X6_lit P glyph size column from (by unfold v_X6_lit; rw [if_neg c2, if_pos c4])]; exact ⟨by decide, by decide⟩) (by unfold m_X6_lit; rw [if_neg c2, if_pos c4]) dX6_lit_27
    · have h := h.2 c4
      refine lv_iload_n hx hb dX6_lit_15 rfl (lv_at hl 3 rfl) ?_
      refine iv_iconst hx hb dX6_lit_16 ?_
      refine lv_bipush (v := hI 63) hx hb dX6_lit_17 (by decide) ?_
      refine iv_ki (iv_rS (As := [.int (hI column), .int (hI 0), .int (hI 63)]) (rest := []) E hh (ok_X6_in l hinj (gset S 10 P) column 0 63 h_column ⟨by decide, by decide⟩ ⟨by decide, by decide⟩) cb_X6_in q3_216 rfl rfl ⟨Nat.le_of_ble_eq_true rfl, Nat.le_of_ble_eq_true rfl⟩ rfl hl.1 rfl (Nat.le_of_ble_eq_true rfl) dX6_lit_19 ⟨Nat.zero_le _, Nat.zero_le _⟩) hh (fun hc5 H locs hh => ?_)
      refine iv_if_ne (tgt := 28) hx hb hc5 dX6_lit_22 (by decide) (fun c6 => ?_) (fun c6 => ?_)
      · have h := h.2 c6
        refine lv_aload_n hx hb dX6_lit_28 rfl (lv_at hl 0 rfl) ?_
        refine lv_iload_n hx hb dX6_lit_29 rfl (lv_at hl 1 rfl) ?_
        refine lv_iload_n hx hb dX6_lit_30 rfl (lv_at hl 2 rfl) ?_
        obtain ⟨g7, h⟩ := h
        refine iv_kv (iv_rV (As := [.int (hI glyph), .int (hI size)]) (rest := []) E hh (ok_X6_lays l hinj (gset S 10 P) P (gset_at _ _ _) glyph size h_glyph h_size g7) cb_X6_lays q4_64 rfl rfl ⟨Nat.le_of_ble_eq_true rfl, Nat.le_of_ble_eq_true rfl⟩ (ob_Model) rfl rfl rfl hl.1 rfl (Nat.le_of_ble_eq_true rfl) dX6_lit_31 ⟨Nat.zero_le _, Nat.zero_le _⟩) hh (fun H locs hh => ?_)
        replace hh : hH D ad cI cJ cF (gset S 10 (m_X6_lays P glyph size)) s H locs := by rw [← show _ = (gset S 10 (m_X6_lays P glyph size)) from (gset_gset _ _ _ _)]; exact hh
        refine lv_iload_n hx hb dX6_lit_34 rfl (lv_at hl 3 rfl) ?_
        refine lv_aload_n hx hb dX6_lit_35 rfl (lv_at hl 0 rfl) ?_
        refine lv_iload_n hx hb dX6_lit_36 rfl (lv_at hl 1 rfl) ?_
        refine lv_iload_n hx hb dX6_lit_37 rfl (lv_at hl 2 rfl) ?_
        obtain ⟨g8, h⟩ := h
        refine iv_ki (iv_rV (As := [.int (hI glyph), .int (hI size)]) (rest := [.int (hI column)]) E hh (ok_X6_columns l hinj (gset S 10 (m_X6_lays P glyph size)) (m_X6_lays P glyph size) (gset_at _ _ _) glyph size h_glyph h_size g8) cb_X6_columns q4_86 rfl rfl ⟨Nat.le_of_ble_eq_true rfl, Nat.le_of_ble_eq_true rfl⟩ (ob_Model) rfl rfl rfl hl.1 rfl (Nat.le_of_ble_eq_true rfl) dX6_lit_38 ⟨Nat.zero_le _, Nat.zero_le _⟩) hh (fun hc9 H locs hh => ?_)
        refine iv_icmp_lt (tgt := 49) hx hb h_column hc9 dX6_lit_41 (by decide) (fun c10 => ?_) (fun c10 => ?_)
        · have h := h.1 c10
          refine lv_aload_n hx hb dX6_lit_49 rfl (lv_at hl 0 rfl) ?_
          refine lv_iload_n hx hb dX6_lit_50 rfl (lv_at hl 1 rfl) ?_
          refine lv_iload_n hx hb dX6_lit_51 rfl (lv_at hl 3 rfl) ?_
          obtain ⟨g11, h⟩ := h
          refine iv_ki (iv_rV (As := [.int (hI glyph), .int (hI column)]) (rest := []) E hh (ok_X6_isLit l hinj (gset S 10 (m_X6_lays P glyph size)) (m_X6_lays P glyph size) (gset_at _ _ _) glyph column h_glyph h_column g11) cb_X6_isLit q4_94 rfl rfl ⟨Nat.le_of_ble_eq_true rfl, Nat.le_of_ble_eq_true rfl⟩ (ob_Model) rfl rfl rfl hl.1 rfl (Nat.le_of_ble_eq_true rfl) dX6_lit_52 ⟨Nat.zero_le _, Nat.zero_le _⟩) hh (fun hc12 H locs hh => ?_)
          refine iv_if_eq (tgt := 62) hx hb hc12 dX6_lit_55 (by decide) (fun c13 => ?_) (fun c13 => ?_)
          · have h := h.1 c13
            refine iv_iconst hx hb dX6_lit_62 ?_
            exact iv_iret E hh (by unfold v_X6_lit; rw [if_neg c2, if_neg c4, if_neg c6, if_pos c10, if_pos c13]) (by rw [← show 0 = v_X6_lit P glyph size column from (by unfold v_X6_lit; rw [if_neg c2, if_neg c4, if_neg c6, if_pos c10, if_pos c13])]; exact ⟨by decide, by decide⟩) (by unfold m_X6_lit; rw [if_neg c2, if_neg c4, if_neg c6, if_pos c10, if_pos c13]) dX6_lit_63
          · have h := h.2 c13
            refine iv_iconst hx hb dX6_lit_58 ?_
            refine lv_goto (tgt := 63) hx hb dX6_lit_59 (by decide) ?_
            exact iv_iret E hh (by unfold v_X6_lit; rw [if_neg c2, if_neg c4, if_neg c6, if_pos c10, if_neg c13]) (by rw [← show 1 = v_X6_lit P glyph size column from (by unfold v_X6_lit; rw [if_neg c2, if_neg c4, if_neg c6, if_pos c10, if_neg c13])]; exact ⟨by decide, by decide⟩) (by unfold m_X6_lit; rw [if_neg c2, if_neg c4, if_neg c6, if_pos c10, if_neg c13]) dX6_lit_63
        · have h := h.2 c10
          refine iv_ldc (n := (-1000004)) hx hb (by decide) hown (hts _ q4_33) dX6_lit_44 ?_
          refine lv_goto (tgt := 63) hx hb dX6_lit_46 (by decide) ?_
          exact iv_iret E hh (by unfold v_X6_lit; rw [if_neg c2, if_neg c4, if_neg c6, if_neg c10]) (by rw [← show (-1000004) = v_X6_lit P glyph size column from (by unfold v_X6_lit; rw [if_neg c2, if_neg c4, if_neg c6, if_neg c10])]; exact ⟨by decide, by decide⟩) (by unfold m_X6_lit; rw [if_neg c2, if_neg c4, if_neg c6, if_neg c10]) dX6_lit_63
      · have h := h.1 c6
        refine iv_ldc (n := (-1000001)) hx hb (by decide) hown (hts _ q3_219) dX6_lit_25 ?_
        exact iv_iret E hh (by unfold v_X6_lit; rw [if_neg c2, if_neg c4, if_pos c6]) (by rw [← show (-1000001) = v_X6_lit P glyph size column from (by unfold v_X6_lit; rw [if_neg c2, if_neg c4, if_pos c6])]; exact ⟨by decide, by decide⟩) (by unfold m_X6_lit; rw [if_neg c2, if_neg c4, if_pos c6]) dX6_lit_27
set_option maxHeartbeats 4000000 in
set_option maxRecDepth 100000 in
theorem ok_X6_inSheet (l : Launch) (hinj : hInj ad) (S : hS) (P : hGM) (hP : S 10 = P) (size : Int) (glyph : Int) (column : Int) (h_size : hIn size) (h_glyph : hIn glyph) (h_column : hIn column) (hp : p_X6_inSheet P size glyph column) : hMi D ad cI cJ cF l yX6_inSheet cX6_inSheet 5 (some .int) ({ frames := 2, cells := 0, slots := 0, locals := 44 } : Room) [.ref (ad 10 0), .int (hI size), .int (hI glyph), .int (hI column)] S (v_X6_inSheet P size glyph column) S := by
  refine hOf (S := S) l hinj (by decide +kernel) (Nat.le_of_ble_eq_true rfl) (fun p e s m args below meth c E => ?_)
  obtain ⟨hx, hb, hml, hown, hts, hK, hN, -, hr, hlk⟩ := id E
  have hown : s.vm.findClass RX6 = some m.cls := hown
  intro H locs ls hh hl
  have hl : lv_has ls 5 [(0, .ref (ad 10 0)), (1, .int (hI size)), (2, .int (hI glyph)), (3, .int (hI column))] := hl
  have h := hp
  unfold p_X6_inSheet at h
  refine lv_iload_n hx hb dX6_inSheet_0 rfl (lv_at hl 1 rfl) ?_
  refine iv_ki (iv_rS (As := [.int (hI size)]) (rest := []) E hh (ok_X6_isSize l hinj S size h_size) cb_X6_isSize q4_49 rfl rfl ⟨Nat.le_of_ble_eq_true rfl, Nat.le_of_ble_eq_true rfl⟩ rfl hl.1 rfl (Nat.le_of_ble_eq_true rfl) dX6_inSheet_1 ⟨Nat.zero_le _, Nat.zero_le _⟩) hh (fun hc1 H locs hh => ?_)
  refine iv_if_eq (tgt := 27) hx hb hc1 dX6_inSheet_4 (by decide) (fun c2 => ?_) (fun c2 => ?_)
  · have h := h.1 c2
    refine iv_ldc (n := (-1000001)) hx hb (by decide) hown (hts _ q3_219) dX6_inSheet_27 ?_
    exact iv_iret E hh (by unfold v_X6_inSheet; rw [if_pos c2]) (by rw [← show (-1000001) = v_X6_inSheet P size glyph column from (by unfold v_X6_inSheet; rw [if_pos c2])]; exact ⟨by decide, by decide⟩) rfl dX6_inSheet_29
  · have h := h.2 c2
    refine lv_iload_n hx hb dX6_inSheet_7 rfl (lv_at hl 2 rfl) ?_
    refine iv_iconst hx hb dX6_inSheet_8 ?_
    refine lv_bipush (v := hI 7) hx hb dX6_inSheet_9 (by decide) ?_
    refine iv_ki (iv_rS (As := [.int (hI glyph), .int (hI 0), .int (hI 7)]) (rest := []) E hh (ok_X6_in l hinj S glyph 0 7 h_glyph ⟨by decide, by decide⟩ ⟨by decide, by decide⟩) cb_X6_in q3_216 rfl rfl ⟨Nat.le_of_ble_eq_true rfl, Nat.le_of_ble_eq_true rfl⟩ rfl hl.1 rfl (Nat.le_of_ble_eq_true rfl) dX6_inSheet_11 ⟨Nat.zero_le _, Nat.zero_le _⟩) hh (fun hc3 H locs hh => ?_)
    refine iv_if_eq (tgt := 27) hx hb hc3 dX6_inSheet_14 (by decide) (fun c4 => ?_) (fun c4 => ?_)
    · have h := h.1 c4
      refine iv_ldc (n := (-1000001)) hx hb (by decide) hown (hts _ q3_219) dX6_inSheet_27 ?_
      exact iv_iret E hh (by unfold v_X6_inSheet; rw [if_neg c2, if_pos c4]) (by rw [← show (-1000001) = v_X6_inSheet P size glyph column from (by unfold v_X6_inSheet; rw [if_neg c2, if_pos c4])]; exact ⟨by decide, by decide⟩) rfl dX6_inSheet_29
    · have h := h.2 c4
      refine lv_iload_n hx hb dX6_inSheet_17 rfl (lv_at hl 3 rfl) ?_
      refine iv_iconst hx hb dX6_inSheet_18 ?_
      refine lv_bipush (v := hI 63) hx hb dX6_inSheet_19 (by decide) ?_
      refine iv_ki (iv_rS (As := [.int (hI column), .int (hI 0), .int (hI 63)]) (rest := []) E hh (ok_X6_in l hinj S column 0 63 h_column ⟨by decide, by decide⟩ ⟨by decide, by decide⟩) cb_X6_in q3_216 rfl rfl ⟨Nat.le_of_ble_eq_true rfl, Nat.le_of_ble_eq_true rfl⟩ rfl hl.1 rfl (Nat.le_of_ble_eq_true rfl) dX6_inSheet_21 ⟨Nat.zero_le _, Nat.zero_le _⟩) hh (fun hc5 H locs hh => ?_)
      refine iv_if_ne (tgt := 30) hx hb hc5 dX6_inSheet_24 (by decide) (fun c6 => ?_) (fun c6 => ?_)
      · have h := h.2 c6
        refine lv_aload_n hx hb dX6_inSheet_30 rfl (lv_at hl 0 rfl) ?_
        refine lv_iload_n hx hb dX6_inSheet_31 rfl (lv_at hl 1 rfl) ?_
        obtain ⟨g7, h⟩ := h
        refine iv_ki (iv_rV (As := [.int (hI size)]) (rest := []) E hh (ok_X6_sheetAt l hinj S P hP size h_size g7) cb_X6_sheetAt q4_52 rfl rfl ⟨Nat.le_of_ble_eq_true rfl, Nat.le_of_ble_eq_true rfl⟩ (ob_Model) rfl rfl rfl hl.1 rfl (Nat.le_of_ble_eq_true rfl) dX6_inSheet_32 ⟨Nat.zero_le _, Nat.zero_le _⟩) hh (fun hc8 H locs hh => ?_)
        refine lv_istore (lv' := [(4, .int (hI (v_X6_sheetAt P size))), (0, .ref (ad 10 0)), (1, .int (hI size)), (2, .int (hI glyph)), (3, .int (hI column))]) hx hb dX6_inSheet_35 hl (by decide) rfl (fun ls hl => ?_)
        refine lv_iload hx hb dX6_inSheet_37 (lv_at hl 0 rfl) ?_
        refine iv_if_lt (tgt := 55) hx hb hc8 dX6_inSheet_39 (by decide) (fun c9 => ?_) (fun c9 => ?_)
        · have h := h.1 c9
          refine iv_ldc (n := (-1000004)) hx hb (by decide) hown (hts _ q4_33) dX6_inSheet_55 ?_
          exact iv_iret E hh (by unfold v_X6_inSheet; rw [if_neg c2, if_neg c4, if_neg c6, if_pos c9]) (by rw [← show (-1000004) = v_X6_inSheet P size glyph column from (by unfold v_X6_inSheet; rw [if_neg c2, if_neg c4, if_neg c6, if_pos c9])]; exact ⟨by decide, by decide⟩) rfl dX6_inSheet_57
        · have h := h.2 c9
          refine lv_iload_n hx hb dX6_inSheet_42 rfl (lv_at hl 4 rfl) ?_
          refine lv_aload_n hx hb dX6_inSheet_43 rfl (lv_at hl 1 rfl) ?_
          refine lv_iload hx hb dX6_inSheet_44 (lv_at hl 0 rfl) ?_
          refine iv_iconst hx hb dX6_inSheet_46 ?_
          refine lv_iload_n hx hb dX6_inSheet_47 rfl (lv_at hl 3 rfl) ?_
          refine iv_iadd hx hb dX6_inSheet_48 ?_
          obtain ⟨g10, h⟩ := h
          obtain ⟨g11, h⟩ := h
          refine iv_ki (iv_rV (As := [.int (hI (v_X6_sheetAt P size)), .int (hI (2 + glyph))]) (rest := [.int (hI column)]) E hh (ok_X6_ofSheet l hinj S P hP (v_X6_sheetAt P size) (2 + glyph) hc8 g10 g11) cb_X6_ofSheet q4_56 rfl rfl ⟨Nat.le_of_ble_eq_true rfl, Nat.le_of_ble_eq_true rfl⟩ (ob_Model) rfl rfl rfl hl.1 rfl (Nat.le_of_ble_eq_true rfl) dX6_inSheet_49 ⟨Nat.zero_le _, Nat.zero_le _⟩) hh (fun hc12 H locs hh => ?_)
          refine iv_icmp_lt (tgt := 58) hx hb h_column hc12 dX6_inSheet_52 (by decide) (fun c13 => ?_) (fun c13 => ?_)
          · have h := h.1 c13
            refine lv_aload_n hx hb dX6_inSheet_58 rfl (lv_at hl 1 rfl) ?_
            refine iv_get (v' := .ref (ad 10 1)) hx hb hts inX6 hown hK hh.1 (ob_Model) rfl 0 (by decide) (hts _ q3_160) rfl rfl rfl dX6_inSheet_59 ?_
            refine lv_sipush (v := hI 209) hx hb dX6_inSheet_62 (by decide) ?_
            refine lv_bipush (v := hI 16) hx hb dX6_inSheet_65 (by decide) ?_
            refine lv_iload hx hb dX6_inSheet_67 (lv_at hl 0 rfl) ?_
            refine iv_imul hx hb dX6_inSheet_69 ?_
            refine iv_iadd hx hb dX6_inSheet_70 ?_
            refine iv_iconst hx hb dX6_inSheet_71 ?_
            refine lv_iload_n hx hb dX6_inSheet_72 rfl (lv_at hl 3 rfl) ?_
            refine iv_imul hx hb dX6_inSheet_73 ?_
            refine iv_iadd hx hb dX6_inSheet_74 ?_
            refine lv_iload_n hx hb dX6_inSheet_75 rfl (lv_at hl 4 rfl) ?_
            refine lv_bipush (v := hI 32) hx hb dX6_inSheet_76 (by decide) ?_
            obtain ⟨g14, h⟩ := h
            refine iv_idiv hx hb h_column g14 ⟨by decide, by decide⟩ (by decide) dX6_inSheet_78 ?_
            refine iv_iadd hx hb dX6_inSheet_79 ?_
            obtain ⟨g15, h⟩ := h
            refine iv_iald hx hb hK hh.1 (ia_10_1) g15 (v := (P 1 (((209 + (16 * (v_X6_sheetAt P size))) + (2 * glyph)) + (column / 32)))) (congrArg (fun z => z 1 (((209 + (16 * (v_X6_sheetAt P size))) + (2 * glyph)) + (column / 32))) hP) dX6_inSheet_80 ?_
            have hm16 : hIn (P 1 (((209 + (16 * (v_X6_sheetAt P size))) + (2 * glyph)) + (column / 32))) := hIn_rd hh.2.1 hP (by decide)
            refine lv_iload_n hx hb dX6_inSheet_81 rfl (lv_at hl 4 rfl) ?_
            refine lv_bipush (v := hI 32) hx hb dX6_inSheet_82 (by decide) ?_
            refine iv_irem hx hb h_column g14 ⟨by decide, by decide⟩ (by decide) dX6_inSheet_84 ?_
            refine iv_ishr hx hb dX6_inSheet_85 ?_
            refine iv_iconst hx hb dX6_inSheet_86 ?_
            refine iv_iand hx hb dX6_inSheet_87 ?_
            exact iv_iret E hh (by unfold v_X6_inSheet; rw [if_neg c2, if_neg c4, if_neg c6, if_neg c9, if_pos c13]) (by rw [← show (iAnd (iShr (P 1 (((209 + (16 * (v_X6_sheetAt P size))) + (2 * glyph)) + (column / 32))) (column % 32)) 1) = v_X6_inSheet P size glyph column from (by unfold v_X6_inSheet; rw [if_neg c2, if_neg c4, if_neg c6, if_neg c9, if_pos c13])]; exact (hIn_toInt _)) rfl dX6_inSheet_88
          · have h := h.2 c13
            refine iv_ldc (n := (-1000004)) hx hb (by decide) hown (hts _ q4_33) dX6_inSheet_55 ?_
            exact iv_iret E hh (by unfold v_X6_inSheet; rw [if_neg c2, if_neg c4, if_neg c6, if_neg c9, if_neg c13]) (by rw [← show (-1000004) = v_X6_inSheet P size glyph column from (by unfold v_X6_inSheet; rw [if_neg c2, if_neg c4, if_neg c6, if_neg c9, if_neg c13])]; exact ⟨by decide, by decide⟩) rfl dX6_inSheet_57
      · have h := h.1 c6
        refine iv_ldc (n := (-1000001)) hx hb (by decide) hown (hts _ q3_219) dX6_inSheet_27 ?_
        exact iv_iret E hh (by unfold v_X6_inSheet; rw [if_neg c2, if_neg c4, if_pos c6]) (by rw [← show (-1000001) = v_X6_inSheet P size glyph column from (by unfold v_X6_inSheet; rw [if_neg c2, if_neg c4, if_pos c6])]; exact ⟨by decide, by decide⟩) rfl dX6_inSheet_29
set_option maxHeartbeats 4000000 in
set_option maxRecDepth 100000 in
theorem ok_X6_sheetOf (l : Launch) (hinj : hInj ad) (S : hS) (P : hGM) (hP : S 10 = P) (index : Int) (what : Int) (h_index : hIn index) (h_what : hIn what) (hp : p_X6_sheetOf P index what) : hMi D ad cI cJ cF l yX6_sheetOf cX6_sheetOf 3 (some .int) ({ frames := 6, cells := 0, slots := 0, locals := 144 } : Room) [.ref (ad 10 0), .int (hI index), .int (hI what)] S (v_X6_sheetOf P index what) (gset S 10 (m_X6_sheetOf P index what)) := by
  refine hOf (S := S) l hinj (by decide +kernel) (Nat.le_of_ble_eq_true rfl) (fun p e s m args below meth c E => ?_)
  obtain ⟨hx, hb, hml, hown, hts, hK, hN, -, hr, hlk⟩ := id E
  have hown : s.vm.findClass RX6 = some m.cls := hown
  intro H locs ls hh hl
  have hl : lv_has ls 3 [(0, .ref (ad 10 0)), (1, .int (hI index)), (2, .int (hI what))] := hl
  replace hh : hH D ad cI cJ cF (gset S 10 P) s H locs := by rw [← can1 hP]; exact hh
  have h := hp
  unfold p_X6_sheetOf at h
  refine lv_iload_n hx hb dX6_sheetOf_0 rfl (lv_at hl 1 rfl) ?_
  refine iv_if_lt (tgt := 13) hx hb h_index dX6_sheetOf_1 (by decide) (fun c1 => ?_) (fun c1 => ?_)
  · have h := h.1 c1
    refine iv_ldc (n := (-1000001)) hx hb (by decide) hown (hts _ q3_219) dX6_sheetOf_13 ?_
    exact iv_iret E hh (by unfold v_X6_sheetOf; rw [if_pos c1]) (by rw [← show (-1000001) = v_X6_sheetOf P index what from (by unfold v_X6_sheetOf; rw [if_pos c1])]; exact ⟨by decide, by decide⟩) (by unfold m_X6_sheetOf; rw [if_pos c1]) dX6_sheetOf_15
  · have h := h.2 c1
    refine lv_iload_n hx hb dX6_sheetOf_4 rfl (lv_at hl 2 rfl) ?_
    refine iv_iconst hx hb dX6_sheetOf_5 ?_
    refine iv_iconst hx hb dX6_sheetOf_6 ?_
    refine iv_ki (iv_rS (As := [.int (hI what), .int (hI 0), .int (hI 3)]) (rest := []) E hh (ok_X6_in l hinj (gset S 10 P) what 0 3 h_what ⟨by decide, by decide⟩ ⟨by decide, by decide⟩) cb_X6_in q3_216 rfl rfl ⟨Nat.le_of_ble_eq_true rfl, Nat.le_of_ble_eq_true rfl⟩ rfl hl.1 rfl (Nat.le_of_ble_eq_true rfl) dX6_sheetOf_7 ⟨Nat.zero_le _, Nat.zero_le _⟩) hh (fun hc2 H locs hh => ?_)
    refine iv_if_ne (tgt := 16) hx hb hc2 dX6_sheetOf_10 (by decide) (fun c3 => ?_) (fun c3 => ?_)
    · have h := h.2 c3
      refine lv_iload_n hx hb dX6_sheetOf_16 rfl (lv_at hl 1 rfl) ?_
      refine lv_aload_n hx hb dX6_sheetOf_17 rfl (lv_at hl 0 rfl) ?_
      refine iv_get (v' := .ref (ad 10 1)) hx hb hts inX6 hown hK hh.1 (ob_Model) rfl 0 (by decide) (hts _ q3_160) rfl rfl rfl dX6_sheetOf_18 ?_
      refine lv_bipush (v := hI 7) hx hb dX6_sheetOf_21 (by decide) ?_
      refine iv_iald hx hb hK hh.1 (ia_10_1) ⟨by decide, by decide⟩ (v := (P 1 7)) (congrArg (fun z => z 1 7) (gset_at _ _ _)) dX6_sheetOf_23 ?_
      have hm4 : hIn (P 1 7) := hIn_rd hh.2.1 (gset_at _ _ _) (by decide)
      refine iv_icmp_lt (tgt := 30) hx hb h_index hm4 dX6_sheetOf_24 (by decide) (fun c5 => ?_) (fun c5 => ?_)
      · have h := h.1 c5
        refine lv_iload_n hx hb dX6_sheetOf_30 rfl (lv_at hl 2 rfl) ?_
        refine iv_iconst hx hb dX6_sheetOf_31 ?_
        refine iv_icmp_ge (tgt := 44) hx hb h_what ⟨by decide, by decide⟩ dX6_sheetOf_32 (by decide) (fun c6 => ?_) (fun c6 => ?_)
        · have h := h.2 c6
          refine lv_iload_n hx hb dX6_sheetOf_44 rfl (lv_at hl 2 rfl) ?_
          refine iv_iconst hx hb dX6_sheetOf_45 ?_
          refine iv_icmp_ne (tgt := 65) hx hb h_what ⟨by decide, by decide⟩ dX6_sheetOf_46 (by decide) (fun c7 => ?_) (fun c7 => ?_)
          · have h := h.2 c7
            refine lv_aload_n hx hb dX6_sheetOf_65 rfl (lv_at hl 0 rfl) ?_
            refine lv_iload_n hx hb dX6_sheetOf_66 rfl (lv_at hl 1 rfl) ?_
            obtain ⟨g8, h⟩ := h
            refine iv_ki (iv_rV (As := [.int (hI index)]) (rest := []) E hh (ok_X6_litIn l hinj (gset S 10 P) P (gset_at _ _ _) index h_index g8) cb_X6_litIn q4_149 rfl rfl ⟨Nat.le_of_ble_eq_true rfl, Nat.le_of_ble_eq_true rfl⟩ (ob_Model) rfl rfl rfl hl.1 rfl (Nat.le_of_ble_eq_true rfl) dX6_sheetOf_67 ⟨Nat.zero_le _, Nat.zero_le _⟩) hh (fun hc9 H locs hh => ?_)
            exact iv_iret E hh (by unfold v_X6_sheetOf; rw [if_neg c1, if_neg c3, if_pos c5, if_neg c6, if_neg c7]) (by rw [← show (v_X6_litIn P index) = v_X6_sheetOf P index what from (by unfold v_X6_sheetOf; rw [if_neg c1, if_neg c3, if_pos c5, if_neg c6, if_neg c7])]; exact hc9) (by unfold m_X6_sheetOf; rw [if_neg c1, if_neg c3, if_pos c5, if_neg c6, if_neg c7]) dX6_sheetOf_70
          · have h := h.1 c7
            refine lv_aload_n hx hb dX6_sheetOf_49 rfl (lv_at hl 0 rfl) ?_
            refine lv_iload_n hx hb dX6_sheetOf_50 rfl (lv_at hl 1 rfl) ?_
            obtain ⟨g10, h⟩ := h
            refine iv_ki (iv_rV (As := [.int (hI index)]) (rest := []) E hh (ok_X6_isStale l hinj (gset S 10 P) P (gset_at _ _ _) index h_index g10) cb_X6_isStale q4_145 rfl rfl ⟨Nat.le_of_ble_eq_true rfl, Nat.le_of_ble_eq_true rfl⟩ (ob_Model) rfl rfl rfl hl.1 rfl (Nat.le_of_ble_eq_true rfl) dX6_sheetOf_51 ⟨Nat.zero_le _, Nat.zero_le _⟩) hh (fun hc11 H locs hh => ?_)
            replace hh : hH D ad cI cJ cF (gset S 10 (m_X6_isStale P index)) s H locs := by rw [← show _ = (gset S 10 (m_X6_isStale P index)) from (gset_gset _ _ _ _)]; exact hh
            refine iv_if_eq (tgt := 61) hx hb hc11 dX6_sheetOf_54 (by decide) (fun c12 => ?_) (fun c12 => ?_)
            · have h := h.1 c12
              refine iv_iconst hx hb dX6_sheetOf_61 ?_
              refine lv_goto (tgt := 70) hx hb dX6_sheetOf_62 (by decide) ?_
              exact iv_iret E hh (by unfold v_X6_sheetOf; rw [if_neg c1, if_neg c3, if_pos c5, if_neg c6, if_pos c7, if_pos c12]) (by rw [← show 0 = v_X6_sheetOf P index what from (by unfold v_X6_sheetOf; rw [if_neg c1, if_neg c3, if_pos c5, if_neg c6, if_pos c7, if_pos c12])]; exact ⟨by decide, by decide⟩) (by unfold m_X6_sheetOf; rw [if_neg c1, if_neg c3, if_pos c5, if_neg c6, if_pos c7, if_pos c12]) dX6_sheetOf_70
            · have h := h.2 c12
              refine iv_iconst hx hb dX6_sheetOf_57 ?_
              refine lv_goto (tgt := 70) hx hb dX6_sheetOf_58 (by decide) ?_
              exact iv_iret E hh (by unfold v_X6_sheetOf; rw [if_neg c1, if_neg c3, if_pos c5, if_neg c6, if_pos c7, if_neg c12]) (by rw [← show 1 = v_X6_sheetOf P index what from (by unfold v_X6_sheetOf; rw [if_neg c1, if_neg c3, if_pos c5, if_neg c6, if_pos c7, if_neg c12])]; exact ⟨by decide, by decide⟩) (by unfold m_X6_sheetOf; rw [if_neg c1, if_neg c3, if_pos c5, if_neg c6, if_pos c7, if_neg c12]) dX6_sheetOf_70
        · have h := h.1 c6
          refine lv_aload_n hx hb dX6_sheetOf_35 rfl (lv_at hl 0 rfl) ?_
          refine lv_iload_n hx hb dX6_sheetOf_36 rfl (lv_at hl 1 rfl) ?_
          refine lv_iload_n hx hb dX6_sheetOf_37 rfl (lv_at hl 2 rfl) ?_
          obtain ⟨g13, h⟩ := h
          refine iv_ki (iv_rV (As := [.int (hI index), .int (hI what)]) (rest := []) E hh (ok_X6_ofSheet l hinj (gset S 10 P) P (gset_at _ _ _) index what h_index h_what g13) cb_X6_ofSheet q4_56 rfl rfl ⟨Nat.le_of_ble_eq_true rfl, Nat.le_of_ble_eq_true rfl⟩ (ob_Model) rfl rfl rfl hl.1 rfl (Nat.le_of_ble_eq_true rfl) dX6_sheetOf_38 ⟨Nat.zero_le _, Nat.zero_le _⟩) hh (fun hc14 H locs hh => ?_)
          refine lv_goto (tgt := 70) hx hb dX6_sheetOf_41 (by decide) ?_
          exact iv_iret E hh (by unfold v_X6_sheetOf; rw [if_neg c1, if_neg c3, if_pos c5, if_pos c6]) (by rw [← show (v_X6_ofSheet P index what) = v_X6_sheetOf P index what from (by unfold v_X6_sheetOf; rw [if_neg c1, if_neg c3, if_pos c5, if_pos c6])]; exact hc14) (by unfold m_X6_sheetOf; rw [if_neg c1, if_neg c3, if_pos c5, if_pos c6]) dX6_sheetOf_70
      · have h := h.2 c5
        refine iv_ldc (n := (-1000004)) hx hb (by decide) hown (hts _ q4_33) dX6_sheetOf_27 ?_
        exact iv_iret E hh (by unfold v_X6_sheetOf; rw [if_neg c1, if_neg c3, if_neg c5]) (by rw [← show (-1000004) = v_X6_sheetOf P index what from (by unfold v_X6_sheetOf; rw [if_neg c1, if_neg c3, if_neg c5])]; exact ⟨by decide, by decide⟩) (by unfold m_X6_sheetOf; rw [if_neg c1, if_neg c3, if_neg c5]) dX6_sheetOf_29
    · have h := h.1 c3
      refine iv_ldc (n := (-1000001)) hx hb (by decide) hown (hts _ q3_219) dX6_sheetOf_13 ?_
      exact iv_iret E hh (by unfold v_X6_sheetOf; rw [if_neg c1, if_pos c3]) (by rw [← show (-1000001) = v_X6_sheetOf P index what from (by unfold v_X6_sheetOf; rw [if_neg c1, if_pos c3])]; exact ⟨by decide, by decide⟩) (by unfold m_X6_sheetOf; rw [if_neg c1, if_pos c3]) dX6_sheetOf_15
set_option maxHeartbeats 4000000 in
set_option maxRecDepth 100000 in
theorem ok_X6_isEven (l : Launch) (hinj : hInj ad) (S : hS) (P : hGM) (hP : S 10 = P) (glyph : Int) (stem : Int) (size : Int) (h_glyph : hIn glyph) (h_stem : hIn stem) (h_size : hIn size) (hp : p_X6_isEven P glyph stem size) : hMi D ad cI cJ cF l yX6_isEven cX6_isEven 8 (some .boolean) ({ frames := 4, cells := 0, slots := 0, locals := 93 } : Room) [.ref (ad 10 0), .int (hI glyph), .int (hI stem), .int (hI size)] S (v_X6_isEven P glyph stem size) S := by
  refine hOf (S := S) l hinj (by decide +kernel) (Nat.le_of_ble_eq_true rfl) (fun p e s m args below meth c E => ?_)
  obtain ⟨hx, hb, hml, hown, hts, hK, hN, -, hr, hlk⟩ := id E
  have hown : s.vm.findClass RX6 = some m.cls := hown
  have r6 : ∀ (y4 : Int) (y5 : Int), hIn y4 → hIn y5 → (((y5 < (P 1 0) → (hAt D ad cI cJ cF p l e ({ frames := 4, cells := 0, slots := 0, locals := 93 } : Room) s m args below meth c (MQ below (hQi D ad cI cJ cF (v_X6_isEven P glyph stem size) S) args s 0 0 (hAd ad)) 8 20 [(0, .ref (ad 10 0)), (1, .int (hI glyph)), (2, .int (hI stem)), (3, .int (hI size)), (4, .int (hI y4)), (5, .int (hI y5)), (6, .int (hI 0))] S)) ∧ (¬ y5 < (P 1 0) → ((y4 = 0 ∨ y4 = 1) ∧ (y4 = v_X6_isEven P glyph stem size))))) → (hAt D ad cI cJ cF p l e ({ frames := 4, cells := 0, slots := 0, locals := 93 } : Room) s m args below meth c (MQ below (hQi D ad cI cJ cF (v_X6_isEven P glyph stem size) S) args s 0 0 (hAd ad)) 8 6 [(0, .ref (ad 10 0)), (1, .int (hI glyph)), (2, .int (hI stem)), (3, .int (hI size)), (4, .int (hI y4)), (5, .int (hI y5))] S) := by
    intro y4 y5 h_y4 h_y5 h H locs ls hh hl
    refine lv_iload hx hb dX6_isEven_6 (lv_at hl 5 rfl) ?_
    refine lv_aload_n hx hb dX6_isEven_8 rfl (lv_at hl 0 rfl) ?_
    refine iv_get (v' := .ref (ad 10 1)) hx hb hts inX6 hown hK hh.1 (ob_Model) rfl 0 (by decide) (hts _ q3_160) rfl rfl rfl dX6_isEven_9 ?_
    refine iv_iconst hx hb dX6_isEven_12 ?_
    refine iv_iald hx hb hK hh.1 (ia_10_1) ⟨by decide, by decide⟩ (v := (P 1 0)) (congrArg (fun z => z 1 0) hP) dX6_isEven_13 ?_
    have hm1 : hIn (P 1 0) := hIn_rd hh.2.1 hP (by decide)
    refine iv_icmp_ge (tgt := 108) hx hb h_y5 hm1 dX6_isEven_14 (by decide) (fun c2 => ?_) (fun c2 => ?_)
    · have h := h.2 c2
      refine lv_iload hx hb dX6_isEven_108 (lv_at hl 4 rfl) ?_
      obtain ⟨g3, h⟩ := h
      exact iv_bret E hh h (by rw [← h]; exact g3) rfl dX6_isEven_110
    · have h := h.1 c2
      refine iv_iconst hx hb dX6_isEven_17 ?_
      refine lv_istore (lv' := [(6, .int (hI 0)), (0, .ref (ad 10 0)), (1, .int (hI glyph)), (2, .int (hI stem)), (3, .int (hI size)), (4, .int (hI y4)), (5, .int (hI y5))]) hx hb dX6_isEven_18 hl (by decide) rfl (fun ls hl => ?_)
      exact h H _ ls hh (lv_sub hl [1, 2, 3, 4, 5, 6, 0] rfl)
  have r20 : ∀ (y4 : Int) (y5 : Int) (y6 : Int), hIn y4 → hIn y5 → hIn y6 → ((p_X6_of P y5 1 ∧ ((y6 < (v_X6_of P y5 1) → (p_X6_ofStem P y5 y6 1 ∧ (p_X6_ofStem P glyph stem 1 ∧ (hIn ((v_X6_ofStem P y5 y6 1) - (v_X6_ofStem P glyph stem 1)) ∧ (p_X6_size ((v_X6_ofStem P y5 y6 1) - (v_X6_ofStem P glyph stem 1)) ∧ ((y4 = 0 → (hAt D ad cI cJ cF p l e ({ frames := 4, cells := 0, slots := 0, locals := 93 } : Room) s m args below meth c (MQ below (hQi D ad cI cJ cF (v_X6_isEven P glyph stem size) S) args s 0 0 (hAd ad)) 8 20 [(0, .ref (ad 10 0)), (1, .int (hI glyph)), (2, .int (hI stem)), (3, .int (hI size)), (4, .int (hI 0)), (5, .int (hI y5)), (6, .int (hI (y6 + 1)))] S)) ∧ (¬ y4 = 0 → (((v_X6_size ((v_X6_ofStem P y5 y6 1) - (v_X6_ofStem P glyph stem 1))) ≤ (P 1 5) → (p_X6_pixelsOf P y5 y6 size ∧ (p_X6_pixelsOf P glyph stem size ∧ (((v_X6_pixelsOf P y5 y6 size) = (v_X6_pixelsOf P glyph stem size) → (hAt D ad cI cJ cF p l e ({ frames := 4, cells := 0, slots := 0, locals := 93 } : Room) s m args below meth c (MQ below (hQi D ad cI cJ cF (v_X6_isEven P glyph stem size) S) args s 0 0 (hAd ad)) 8 20 [(0, .ref (ad 10 0)), (1, .int (hI glyph)), (2, .int (hI stem)), (3, .int (hI size)), (4, .int (hI 1)), (5, .int (hI y5)), (6, .int (hI (y6 + 1)))] S)) ∧ (¬ (v_X6_pixelsOf P y5 y6 size) = (v_X6_pixelsOf P glyph stem size) → (hAt D ad cI cJ cF p l e ({ frames := 4, cells := 0, slots := 0, locals := 93 } : Room) s m args below meth c (MQ below (hQi D ad cI cJ cF (v_X6_isEven P glyph stem size) S) args s 0 0 (hAd ad)) 8 20 [(0, .ref (ad 10 0)), (1, .int (hI glyph)), (2, .int (hI stem)), (3, .int (hI size)), (4, .int (hI 0)), (5, .int (hI y5)), (6, .int (hI (y6 + 1)))] S)))))) ∧ (¬ (v_X6_size ((v_X6_ofStem P y5 y6 1) - (v_X6_ofStem P glyph stem 1))) ≤ (P 1 5) → (hAt D ad cI cJ cF p l e ({ frames := 4, cells := 0, slots := 0, locals := 93 } : Room) s m args below meth c (MQ below (hQi D ad cI cJ cF (v_X6_isEven P glyph stem size) S) args s 0 0 (hAd ad)) 8 20 [(0, .ref (ad 10 0)), (1, .int (hI glyph)), (2, .int (hI stem)), (3, .int (hI size)), (4, .int (hI 1)), (5, .int (hI y5)), (6, .int (hI (y6 + 1)))] S)))))))))) ∧ (¬ y6 < (v_X6_of P y5 1) → (hAt D ad cI cJ cF p l e ({ frames := 4, cells := 0, slots := 0, locals := 93 } : Room) s m args below meth c (MQ below (hQi D ad cI cJ cF (v_X6_isEven P glyph stem size) S) args s 0 0 (hAd ad)) 8 6 [(0, .ref (ad 10 0)), (1, .int (hI glyph)), (2, .int (hI stem)), (3, .int (hI size)), (4, .int (hI y4)), (5, .int (hI (y5 + 1)))] S))))) → (hAt D ad cI cJ cF p l e ({ frames := 4, cells := 0, slots := 0, locals := 93 } : Room) s m args below meth c (MQ below (hQi D ad cI cJ cF (v_X6_isEven P glyph stem size) S) args s 0 0 (hAd ad)) 8 20 [(0, .ref (ad 10 0)), (1, .int (hI glyph)), (2, .int (hI stem)), (3, .int (hI size)), (4, .int (hI y4)), (5, .int (hI y5)), (6, .int (hI y6))] S) := by
    intro y4 y5 y6 h_y4 h_y5 h_y6 h H locs ls hh hl
    refine lv_iload hx hb dX6_isEven_20 (lv_at hl 6 rfl) ?_
    refine lv_aload_n hx hb dX6_isEven_22 rfl (lv_at hl 0 rfl) ?_
    refine lv_iload hx hb dX6_isEven_23 (lv_at hl 5 rfl) ?_
    refine iv_iconst hx hb dX6_isEven_25 ?_
    obtain ⟨g4, h⟩ := h
    refine iv_ki (iv_rV (As := [.int (hI y5), .int (hI 1)]) (rest := [.int (hI y6)]) E hh (ok_X6_of l hinj S P hP y5 1 h_y5 ⟨by decide, by decide⟩ g4) cb_X6_of q3_237 rfl rfl ⟨Nat.le_of_ble_eq_true rfl, Nat.le_of_ble_eq_true rfl⟩ (ob_Model) rfl rfl rfl hl.1 rfl (Nat.le_of_ble_eq_true rfl) dX6_isEven_26 ⟨Nat.zero_le _, Nat.zero_le _⟩) hh (fun hc5 H locs hh => ?_)
    refine iv_icmp_ge (tgt := 102) hx hb h_y6 hc5 dX6_isEven_29 (by decide) (fun c6 => ?_) (fun c6 => ?_)
    · have h := h.2 c6
      refine iv_iinc (lv' := [(5, .int (hI (y5 + 1))), (0, .ref (ad 10 0)), (1, .int (hI glyph)), (2, .int (hI stem)), (3, .int (hI size)), (4, .int (hI y4)), (6, .int (hI y6))]) hx hb dX6_isEven_102 hl (k := 5) rfl (v := (y5 + 1)) rfl (by decide) rfl (fun ls hl => ?_)
      refine lv_goto (tgt := 6) hx hb dX6_isEven_105 (by decide) ?_
      exact h H _ ls hh (lv_sub hl [1, 2, 3, 4, 5, 0] rfl)
    · have h := h.1 c6
      refine lv_aload_n hx hb dX6_isEven_32 rfl (lv_at hl 0 rfl) ?_
      refine lv_iload hx hb dX6_isEven_33 (lv_at hl 5 rfl) ?_
      refine lv_iload hx hb dX6_isEven_35 (lv_at hl 6 rfl) ?_
      refine iv_iconst hx hb dX6_isEven_37 ?_
      obtain ⟨g7, h⟩ := h
      refine iv_ki (iv_rV (As := [.int (hI y5), .int (hI y6), .int (hI 1)]) (rest := []) E hh (ok_X6_ofStem l hinj S P hP y5 y6 1 h_y5 h_y6 ⟨by decide, by decide⟩ g7) cb_X6_ofStem q4_1 rfl rfl ⟨Nat.le_of_ble_eq_true rfl, Nat.le_of_ble_eq_true rfl⟩ (ob_Model) rfl rfl rfl hl.1 rfl (Nat.le_of_ble_eq_true rfl) dX6_isEven_38 ⟨Nat.zero_le _, Nat.zero_le _⟩) hh (fun hc8 H locs hh => ?_)
      refine lv_aload_n hx hb dX6_isEven_41 rfl (lv_at hl 0 rfl) ?_
      refine lv_iload_n hx hb dX6_isEven_42 rfl (lv_at hl 1 rfl) ?_
      refine lv_iload_n hx hb dX6_isEven_43 rfl (lv_at hl 2 rfl) ?_
      refine iv_iconst hx hb dX6_isEven_44 ?_
      obtain ⟨g9, h⟩ := h
      refine iv_ki (iv_rV (As := [.int (hI glyph), .int (hI stem), .int (hI 1)]) (rest := [.int (hI (v_X6_ofStem P y5 y6 1))]) E hh (ok_X6_ofStem l hinj S P hP glyph stem 1 h_glyph h_stem ⟨by decide, by decide⟩ g9) cb_X6_ofStem q4_1 rfl rfl ⟨Nat.le_of_ble_eq_true rfl, Nat.le_of_ble_eq_true rfl⟩ (ob_Model) rfl rfl rfl hl.1 rfl (Nat.le_of_ble_eq_true rfl) dX6_isEven_45 ⟨Nat.zero_le _, Nat.zero_le _⟩) hh (fun hc10 H locs hh => ?_)
      refine iv_isub hx hb dX6_isEven_48 ?_
      obtain ⟨g11, h⟩ := h
      obtain ⟨g12, h⟩ := h
      refine iv_ki (iv_rS (As := [.int (hI ((v_X6_ofStem P y5 y6 1) - (v_X6_ofStem P glyph stem 1)))]) (rest := []) E hh (ok_X6_size l hinj S ((v_X6_ofStem P y5 y6 1) - (v_X6_ofStem P glyph stem 1)) g11 g12) cb_X6_size q4_38 rfl rfl ⟨Nat.le_of_ble_eq_true rfl, Nat.le_of_ble_eq_true rfl⟩ rfl hl.1 rfl (Nat.le_of_ble_eq_true rfl) dX6_isEven_49 ⟨Nat.zero_le _, Nat.zero_le _⟩) hh (fun hc13 H locs hh => ?_)
      refine lv_istore (lv' := [(7, .int (hI (v_X6_size ((v_X6_ofStem P y5 y6 1) - (v_X6_ofStem P glyph stem 1))))), (0, .ref (ad 10 0)), (1, .int (hI glyph)), (2, .int (hI stem)), (3, .int (hI size)), (4, .int (hI y4)), (5, .int (hI y5)), (6, .int (hI y6))]) hx hb dX6_isEven_52 hl (by decide) rfl (fun ls hl => ?_)
      refine lv_iload hx hb dX6_isEven_54 (lv_at hl 5 rfl) ?_
      refine iv_if_eq (tgt := 93) hx hb h_y4 dX6_isEven_56 (by decide) (fun c14 => ?_) (fun c14 => ?_)
      · have h := h.1 c14
        refine iv_iconst hx hb dX6_isEven_93 ?_
        refine lv_istore (lv' := [(4, .int (hI 0)), (7, .int (hI (v_X6_size ((v_X6_ofStem P y5 y6 1) - (v_X6_ofStem P glyph stem 1))))), (0, .ref (ad 10 0)), (1, .int (hI glyph)), (2, .int (hI stem)), (3, .int (hI size)), (5, .int (hI y5)), (6, .int (hI y6))]) hx hb dX6_isEven_94 hl (by decide) rfl (fun ls hl => ?_)
        refine iv_iinc (lv' := [(6, .int (hI (y6 + 1))), (4, .int (hI 0)), (7, .int (hI (v_X6_size ((v_X6_ofStem P y5 y6 1) - (v_X6_ofStem P glyph stem 1))))), (0, .ref (ad 10 0)), (1, .int (hI glyph)), (2, .int (hI stem)), (3, .int (hI size)), (5, .int (hI y5))]) hx hb dX6_isEven_96 hl (k := 7) rfl (v := (y6 + 1)) rfl (by decide) rfl (fun ls hl => ?_)
        refine lv_goto (tgt := 20) hx hb dX6_isEven_99 (by decide) ?_
        exact h H _ ls hh (lv_sub hl [3, 4, 5, 6, 1, 7, 0] rfl)
      · have h := h.2 c14
        refine lv_iload hx hb dX6_isEven_59 (lv_at hl 0 rfl) ?_
        refine lv_aload_n hx hb dX6_isEven_61 rfl (lv_at hl 1 rfl) ?_
        refine iv_get (v' := .ref (ad 10 1)) hx hb hts inX6 hown hK hh.1 (ob_Model) rfl 0 (by decide) (hts _ q3_160) rfl rfl rfl dX6_isEven_62 ?_
        refine iv_iconst hx hb dX6_isEven_65 ?_
        refine iv_iald hx hb hK hh.1 (ia_10_1) ⟨by decide, by decide⟩ (v := (P 1 5)) (congrArg (fun z => z 1 5) hP) dX6_isEven_66 ?_
        have hm15 : hIn (P 1 5) := hIn_rd hh.2.1 hP (by decide)
        refine iv_icmp_gt (tgt := 89) hx hb hc13 hm15 dX6_isEven_67 (by decide) (fun c16 => ?_) (fun c16 => ?_)
        · have h := h.2 c16
          refine iv_iconst hx hb dX6_isEven_89 ?_
          refine lv_goto (tgt := 94) hx hb dX6_isEven_90 (by decide) ?_
          refine lv_istore (lv' := [(4, .int (hI 1)), (7, .int (hI (v_X6_size ((v_X6_ofStem P y5 y6 1) - (v_X6_ofStem P glyph stem 1))))), (0, .ref (ad 10 0)), (1, .int (hI glyph)), (2, .int (hI stem)), (3, .int (hI size)), (5, .int (hI y5)), (6, .int (hI y6))]) hx hb dX6_isEven_94 hl (by decide) rfl (fun ls hl => ?_)
          refine iv_iinc (lv' := [(6, .int (hI (y6 + 1))), (4, .int (hI 1)), (7, .int (hI (v_X6_size ((v_X6_ofStem P y5 y6 1) - (v_X6_ofStem P glyph stem 1))))), (0, .ref (ad 10 0)), (1, .int (hI glyph)), (2, .int (hI stem)), (3, .int (hI size)), (5, .int (hI y5))]) hx hb dX6_isEven_96 hl (k := 7) rfl (v := (y6 + 1)) rfl (by decide) rfl (fun ls hl => ?_)
          refine lv_goto (tgt := 20) hx hb dX6_isEven_99 (by decide) ?_
          exact h H _ ls hh (lv_sub hl [3, 4, 5, 6, 1, 7, 0] rfl)
        · have h := h.1 c16
          refine lv_aload_n hx hb dX6_isEven_70 rfl (lv_at hl 1 rfl) ?_
          refine lv_iload hx hb dX6_isEven_71 (lv_at hl 6 rfl) ?_
          refine lv_iload hx hb dX6_isEven_73 (lv_at hl 7 rfl) ?_
          refine lv_iload_n hx hb dX6_isEven_75 rfl (lv_at hl 4 rfl) ?_
          obtain ⟨g17, h⟩ := h
          refine iv_ki (iv_rV (As := [.int (hI y5), .int (hI y6), .int (hI size)]) (rest := []) E hh (ok_X6_pixelsOf l hinj S P hP y5 y6 size h_y5 h_y6 h_size g17) cb_X6_pixelsOf q4_68 rfl rfl ⟨Nat.le_of_ble_eq_true rfl, Nat.le_of_ble_eq_true rfl⟩ (ob_Model) rfl rfl rfl hl.1 rfl (Nat.le_of_ble_eq_true rfl) dX6_isEven_76 ⟨Nat.zero_le _, Nat.zero_le _⟩) hh (fun hc18 H locs hh => ?_)
          refine lv_aload_n hx hb dX6_isEven_79 rfl (lv_at hl 1 rfl) ?_
          refine lv_iload_n hx hb dX6_isEven_80 rfl (lv_at hl 2 rfl) ?_
          refine lv_iload_n hx hb dX6_isEven_81 rfl (lv_at hl 3 rfl) ?_
          refine lv_iload_n hx hb dX6_isEven_82 rfl (lv_at hl 4 rfl) ?_
          obtain ⟨g19, h⟩ := h
          refine iv_ki (iv_rV (As := [.int (hI glyph), .int (hI stem), .int (hI size)]) (rest := [.int (hI (v_X6_pixelsOf P y5 y6 size))]) E hh (ok_X6_pixelsOf l hinj S P hP glyph stem size h_glyph h_stem h_size g19) cb_X6_pixelsOf q4_68 rfl rfl ⟨Nat.le_of_ble_eq_true rfl, Nat.le_of_ble_eq_true rfl⟩ (ob_Model) rfl rfl rfl hl.1 rfl (Nat.le_of_ble_eq_true rfl) dX6_isEven_83 ⟨Nat.zero_le _, Nat.zero_le _⟩) hh (fun hc20 H locs hh => ?_)
          refine iv_icmp_ne (tgt := 93) hx hb hc18 hc20 dX6_isEven_86 (by decide) (fun c21 => ?_) (fun c21 => ?_)
          · have h := h.2 c21
            refine iv_iconst hx hb dX6_isEven_93 ?_
            refine lv_istore (lv' := [(4, .int (hI 0)), (7, .int (hI (v_X6_size ((v_X6_ofStem P y5 y6 1) - (v_X6_ofStem P glyph stem 1))))), (0, .ref (ad 10 0)), (1, .int (hI glyph)), (2, .int (hI stem)), (3, .int (hI size)), (5, .int (hI y5)), (6, .int (hI y6))]) hx hb dX6_isEven_94 hl (by decide) rfl (fun ls hl => ?_)
            refine iv_iinc (lv' := [(6, .int (hI (y6 + 1))), (4, .int (hI 0)), (7, .int (hI (v_X6_size ((v_X6_ofStem P y5 y6 1) - (v_X6_ofStem P glyph stem 1))))), (0, .ref (ad 10 0)), (1, .int (hI glyph)), (2, .int (hI stem)), (3, .int (hI size)), (5, .int (hI y5))]) hx hb dX6_isEven_96 hl (k := 7) rfl (v := (y6 + 1)) rfl (by decide) rfl (fun ls hl => ?_)
            refine lv_goto (tgt := 20) hx hb dX6_isEven_99 (by decide) ?_
            exact h H _ ls hh (lv_sub hl [3, 4, 5, 6, 1, 7, 0] rfl)
          · have h := h.1 c21
            refine iv_iconst hx hb dX6_isEven_89 ?_
            refine lv_goto (tgt := 94) hx hb dX6_isEven_90 (by decide) ?_
            refine lv_istore (lv' := [(4, .int (hI 1)), (7, .int (hI (v_X6_size ((v_X6_ofStem P y5 y6 1) - (v_X6_ofStem P glyph stem 1))))), (0, .ref (ad 10 0)), (1, .int (hI glyph)), (2, .int (hI stem)), (3, .int (hI size)), (5, .int (hI y5)), (6, .int (hI y6))]) hx hb dX6_isEven_94 hl (by decide) rfl (fun ls hl => ?_)
            refine iv_iinc (lv' := [(6, .int (hI (y6 + 1))), (4, .int (hI 1)), (7, .int (hI (v_X6_size ((v_X6_ofStem P y5 y6 1) - (v_X6_ofStem P glyph stem 1))))), (0, .ref (ad 10 0)), (1, .int (hI glyph)), (2, .int (hI stem)), (3, .int (hI size)), (5, .int (hI y5))]) hx hb dX6_isEven_96 hl (k := 7) rfl (v := (y6 + 1)) rfl (by decide) rfl (fun ls hl => ?_)
            refine lv_goto (tgt := 20) hx hb dX6_isEven_99 (by decide) ?_
            exact h H _ ls hh (lv_sub hl [3, 4, 5, 6, 1, 7, 0] rfl)
  intro H locs ls hh hl
  have hl : lv_has ls 8 [(0, .ref (ad 10 0)), (1, .int (hI glyph)), (2, .int (hI stem)), (3, .int (hI size))] := hl
  have h := x_X6_isEven P glyph stem size h_glyph h_stem h_size (fun i k hi => hIn_rd hh.2.1 hP hi) hp (fun y4 y5 => (hAt D ad cI cJ cF p l e ({ frames := 4, cells := 0, slots := 0, locals := 93 } : Room) s m args below meth c (MQ below (hQi D ad cI cJ cF (v_X6_isEven P glyph stem size) S) args s 0 0 (hAd ad)) 8 6 [(0, .ref (ad 10 0)), (1, .int (hI glyph)), (2, .int (hI stem)), (3, .int (hI size)), (4, .int (hI y4)), (5, .int (hI y5))] S)) (fun y4 y5 y6 => (hAt D ad cI cJ cF p l e ({ frames := 4, cells := 0, slots := 0, locals := 93 } : Room) s m args below meth c (MQ below (hQi D ad cI cJ cF (v_X6_isEven P glyph stem size) S) args s 0 0 (hAd ad)) 8 20 [(0, .ref (ad 10 0)), (1, .int (hI glyph)), (2, .int (hI stem)), (3, .int (hI size)), (4, .int (hI y4)), (5, .int (hI y5)), (6, .int (hI y6))] S)) (fun r => (r = v_X6_isEven P glyph stem size)) r6 r20 rfl
  refine iv_iconst hx hb dX6_isEven_0 ?_
  refine lv_istore (lv' := [(4, .int (hI 1)), (0, .ref (ad 10 0)), (1, .int (hI glyph)), (2, .int (hI stem)), (3, .int (hI size))]) hx hb dX6_isEven_1 hl (by decide) rfl (fun ls hl => ?_)
  refine iv_iconst hx hb dX6_isEven_3 ?_
  refine lv_istore (lv' := [(5, .int (hI 0)), (4, .int (hI 1)), (0, .ref (ad 10 0)), (1, .int (hI glyph)), (2, .int (hI stem)), (3, .int (hI size))]) hx hb dX6_isEven_4 hl (by decide) rfl (fun ls hl => ?_)
  exact h H _ ls hh (lv_sub hl [2, 3, 4, 5, 1, 0] rfl)
set_option maxHeartbeats 4000000 in
set_option maxRecDepth 100000 in
theorem ok_X6_even (l : Launch) (hinj : hInj ad) (S : hS) (P : hGM) (hP : S 10 = P) (size : Int) (h_size : hIn size) (hp : p_X6_even P size) : hMi D ad cI cJ cF l yX6_even cX6_even 5 (some .int) ({ frames := 5, cells := 0, slots := 0, locals := 120 } : Room) [.ref (ad 10 0), .int (hI size)] S (v_X6_even P size) S := by
  refine hOf (S := S) l hinj (by decide +kernel) (Nat.le_of_ble_eq_true rfl) (fun p e s m args below meth c E => ?_)
  obtain ⟨hx, hb, hml, hown, hts, hK, hN, -, hr, hlk⟩ := id E
  have hown : s.vm.findClass RX6 = some m.cls := hown
  have r14 : ∀ (y2 : Int) (y3 : Int), hIn y2 → hIn y3 → (((y3 < (P 1 0) → (hAt D ad cI cJ cF p l e ({ frames := 5, cells := 0, slots := 0, locals := 120 } : Room) s m args below meth c (MQ below (hQi D ad cI cJ cF (v_X6_even P size) S) args s 0 0 (hAd ad)) 5 27 [(0, .ref (ad 10 0)), (1, .int (hI size)), (2, .int (hI y2)), (3, .int (hI y3)), (4, .int (hI 0))] S)) ∧ (¬ y3 < (P 1 0) → ((y2 = 0 → (0 = v_X6_even P size)) ∧ (¬ y2 = 0 → (1 = v_X6_even P size)))))) → (hAt D ad cI cJ cF p l e ({ frames := 5, cells := 0, slots := 0, locals := 120 } : Room) s m args below meth c (MQ below (hQi D ad cI cJ cF (v_X6_even P size) S) args s 0 0 (hAd ad)) 5 14 [(0, .ref (ad 10 0)), (1, .int (hI size)), (2, .int (hI y2)), (3, .int (hI y3))] S) := by
    intro y2 y3 h_y2 h_y3 h H locs ls hh hl
    refine lv_iload_n hx hb dX6_even_14 rfl (lv_at hl 3 rfl) ?_
    refine lv_aload_n hx hb dX6_even_15 rfl (lv_at hl 0 rfl) ?_
    refine iv_get (v' := .ref (ad 10 1)) hx hb hts inX6 hown hK hh.1 (ob_Model) rfl 0 (by decide) (hts _ q3_160) rfl rfl rfl dX6_even_16 ?_
    refine iv_iconst hx hb dX6_even_19 ?_
    refine iv_iald hx hb hK hh.1 (ia_10_1) ⟨by decide, by decide⟩ (v := (P 1 0)) (congrArg (fun z => z 1 0) hP) dX6_even_20 ?_
    have hm1 : hIn (P 1 0) := hIn_rd hh.2.1 hP (by decide)
    refine iv_icmp_ge (tgt := 71) hx hb h_y3 hm1 dX6_even_21 (by decide) (fun c2 => ?_) (fun c2 => ?_)
    · have h := h.2 c2
      refine lv_iload_n hx hb dX6_even_71 rfl (lv_at hl 2 rfl) ?_
      refine iv_if_eq (tgt := 79) hx hb h_y2 dX6_even_72 (by decide) (fun c3 => ?_) (fun c3 => ?_)
      · have h := h.1 c3
        refine iv_iconst hx hb dX6_even_79 ?_
        exact iv_iret E hh h (by rw [← h]; exact ⟨by decide, by decide⟩) rfl dX6_even_80
      · have h := h.2 c3
        refine iv_iconst hx hb dX6_even_75 ?_
        refine lv_goto (tgt := 80) hx hb dX6_even_76 (by decide) ?_
        exact iv_iret E hh h (by rw [← h]; exact ⟨by decide, by decide⟩) rfl dX6_even_80
    · have h := h.1 c2
      refine iv_iconst hx hb dX6_even_24 ?_
      refine lv_istore (lv' := [(4, .int (hI 0)), (0, .ref (ad 10 0)), (1, .int (hI size)), (2, .int (hI y2)), (3, .int (hI y3))]) hx hb dX6_even_25 hl (by decide) rfl (fun ls hl => ?_)
      exact h H _ ls hh (lv_sub hl [1, 2, 3, 4, 0] rfl)
  have r27 : ∀ (y2 : Int) (y3 : Int) (y4 : Int), hIn y2 → hIn y3 → hIn y4 → ((p_X6_of P y3 1 ∧ ((y4 < (v_X6_of P y3 1) → ((y2 = 0 → (hAt D ad cI cJ cF p l e ({ frames := 5, cells := 0, slots := 0, locals := 120 } : Room) s m args below meth c (MQ below (hQi D ad cI cJ cF (v_X6_even P size) S) args s 0 0 (hAd ad)) 5 27 [(0, .ref (ad 10 0)), (1, .int (hI size)), (2, .int (hI 0)), (3, .int (hI y3)), (4, .int (hI (y4 + 1)))] S)) ∧ (¬ y2 = 0 → (p_X6_isEven P y3 y4 size ∧ (((v_X6_isEven P y3 y4 size) = 0 → (hAt D ad cI cJ cF p l e ({ frames := 5, cells := 0, slots := 0, locals := 120 } : Room) s m args below meth c (MQ below (hQi D ad cI cJ cF (v_X6_even P size) S) args s 0 0 (hAd ad)) 5 27 [(0, .ref (ad 10 0)), (1, .int (hI size)), (2, .int (hI 0)), (3, .int (hI y3)), (4, .int (hI (y4 + 1)))] S)) ∧ (¬ (v_X6_isEven P y3 y4 size) = 0 → (hAt D ad cI cJ cF p l e ({ frames := 5, cells := 0, slots := 0, locals := 120 } : Room) s m args below meth c (MQ below (hQi D ad cI cJ cF (v_X6_even P size) S) args s 0 0 (hAd ad)) 5 27 [(0, .ref (ad 10 0)), (1, .int (hI size)), (2, .int (hI 1)), (3, .int (hI y3)), (4, .int (hI (y4 + 1)))] S))))))) ∧ (¬ y4 < (v_X6_of P y3 1) → (hAt D ad cI cJ cF p l e ({ frames := 5, cells := 0, slots := 0, locals := 120 } : Room) s m args below meth c (MQ below (hQi D ad cI cJ cF (v_X6_even P size) S) args s 0 0 (hAd ad)) 5 14 [(0, .ref (ad 10 0)), (1, .int (hI size)), (2, .int (hI y2)), (3, .int (hI (y3 + 1)))] S))))) → (hAt D ad cI cJ cF p l e ({ frames := 5, cells := 0, slots := 0, locals := 120 } : Room) s m args below meth c (MQ below (hQi D ad cI cJ cF (v_X6_even P size) S) args s 0 0 (hAd ad)) 5 27 [(0, .ref (ad 10 0)), (1, .int (hI size)), (2, .int (hI y2)), (3, .int (hI y3)), (4, .int (hI y4))] S) := by
    intro y2 y3 y4 h_y2 h_y3 h_y4 h H locs ls hh hl
    refine lv_iload hx hb dX6_even_27 (lv_at hl 4 rfl) ?_
    refine lv_aload_n hx hb dX6_even_29 rfl (lv_at hl 0 rfl) ?_
    refine lv_iload_n hx hb dX6_even_30 rfl (lv_at hl 3 rfl) ?_
    refine iv_iconst hx hb dX6_even_31 ?_
    obtain ⟨g4, h⟩ := h
    refine iv_ki (iv_rV (As := [.int (hI y3), .int (hI 1)]) (rest := [.int (hI y4)]) E hh (ok_X6_of l hinj S P hP y3 1 h_y3 ⟨by decide, by decide⟩ g4) cb_X6_of q3_237 rfl rfl ⟨Nat.le_of_ble_eq_true rfl, Nat.le_of_ble_eq_true rfl⟩ (ob_Model) rfl rfl rfl hl.1 rfl (Nat.le_of_ble_eq_true rfl) dX6_even_32 ⟨Nat.zero_le _, Nat.zero_le _⟩) hh (fun hc5 H locs hh => ?_)
    refine iv_icmp_ge (tgt := 65) hx hb h_y4 hc5 dX6_even_35 (by decide) (fun c6 => ?_) (fun c6 => ?_)
    · have h := h.2 c6
      refine iv_iinc (lv' := [(3, .int (hI (y3 + 1))), (0, .ref (ad 10 0)), (1, .int (hI size)), (2, .int (hI y2)), (4, .int (hI y4))]) hx hb dX6_even_65 hl (k := 3) rfl (v := (y3 + 1)) rfl (by decide) rfl (fun ls hl => ?_)
      refine lv_goto (tgt := 14) hx hb dX6_even_68 (by decide) ?_
      exact h H _ ls hh (lv_sub hl [1, 2, 3, 0] rfl)
    · have h := h.1 c6
      refine lv_iload_n hx hb dX6_even_38 rfl (lv_at hl 2 rfl) ?_
      refine iv_if_eq (tgt := 57) hx hb h_y2 dX6_even_39 (by decide) (fun c7 => ?_) (fun c7 => ?_)
      · have h := h.1 c7
        refine iv_iconst hx hb dX6_even_57 ?_
        refine lv_istore_n (lv' := [(2, .int (hI 0)), (0, .ref (ad 10 0)), (1, .int (hI size)), (3, .int (hI y3)), (4, .int (hI y4))]) hx hb dX6_even_58 rfl hl (by decide) rfl (fun ls hl => ?_)
        refine iv_iinc (lv' := [(4, .int (hI (y4 + 1))), (2, .int (hI 0)), (0, .ref (ad 10 0)), (1, .int (hI size)), (3, .int (hI y3))]) hx hb dX6_even_59 hl (k := 4) rfl (v := (y4 + 1)) rfl (by decide) rfl (fun ls hl => ?_)
        refine lv_goto (tgt := 27) hx hb dX6_even_62 (by decide) ?_
        exact h H _ ls hh (lv_sub hl [2, 3, 1, 4, 0] rfl)
      · have h := h.2 c7
        refine lv_aload_n hx hb dX6_even_42 rfl (lv_at hl 0 rfl) ?_
        refine lv_iload_n hx hb dX6_even_43 rfl (lv_at hl 3 rfl) ?_
        refine lv_iload hx hb dX6_even_44 (lv_at hl 4 rfl) ?_
        refine lv_iload_n hx hb dX6_even_46 rfl (lv_at hl 1 rfl) ?_
        obtain ⟨g8, h⟩ := h
        refine iv_ki (iv_rV (As := [.int (hI y3), .int (hI y4), .int (hI size)]) (rest := []) E hh (ok_X6_isEven l hinj S P hP y3 y4 size h_y3 h_y4 h_size g8) cb_X6_isEven q4_157 rfl rfl ⟨Nat.le_of_ble_eq_true rfl, Nat.le_of_ble_eq_true rfl⟩ (ob_Model) rfl rfl rfl hl.1 rfl (Nat.le_of_ble_eq_true rfl) dX6_even_47 ⟨Nat.zero_le _, Nat.zero_le _⟩) hh (fun hc9 H locs hh => ?_)
        refine iv_if_eq (tgt := 57) hx hb hc9 dX6_even_50 (by decide) (fun c10 => ?_) (fun c10 => ?_)
        · have h := h.1 c10
          refine iv_iconst hx hb dX6_even_57 ?_
          refine lv_istore_n (lv' := [(2, .int (hI 0)), (0, .ref (ad 10 0)), (1, .int (hI size)), (3, .int (hI y3)), (4, .int (hI y4))]) hx hb dX6_even_58 rfl hl (by decide) rfl (fun ls hl => ?_)
          refine iv_iinc (lv' := [(4, .int (hI (y4 + 1))), (2, .int (hI 0)), (0, .ref (ad 10 0)), (1, .int (hI size)), (3, .int (hI y3))]) hx hb dX6_even_59 hl (k := 4) rfl (v := (y4 + 1)) rfl (by decide) rfl (fun ls hl => ?_)
          refine lv_goto (tgt := 27) hx hb dX6_even_62 (by decide) ?_
          exact h H _ ls hh (lv_sub hl [2, 3, 1, 4, 0] rfl)
        · have h := h.2 c10
          refine iv_iconst hx hb dX6_even_53 ?_
          refine lv_goto (tgt := 58) hx hb dX6_even_54 (by decide) ?_
          refine lv_istore_n (lv' := [(2, .int (hI 1)), (0, .ref (ad 10 0)), (1, .int (hI size)), (3, .int (hI y3)), (4, .int (hI y4))]) hx hb dX6_even_58 rfl hl (by decide) rfl (fun ls hl => ?_)
          refine iv_iinc (lv' := [(4, .int (hI (y4 + 1))), (2, .int (hI 1)), (0, .ref (ad 10 0)), (1, .int (hI size)), (3, .int (hI y3))]) hx hb dX6_even_59 hl (k := 4) rfl (v := (y4 + 1)) rfl (by decide) rfl (fun ls hl => ?_)
          refine lv_goto (tgt := 27) hx hb dX6_even_62 (by decide) ?_
          exact h H _ ls hh (lv_sub hl [2, 3, 1, 4, 0] rfl)
  intro H locs ls hh hl
  have hl : lv_has ls 5 [(0, .ref (ad 10 0)), (1, .int (hI size))] := hl
  have h := x_X6_even P size h_size (fun i k hi => hIn_rd hh.2.1 hP hi) hp (fun y2 y3 => (hAt D ad cI cJ cF p l e ({ frames := 5, cells := 0, slots := 0, locals := 120 } : Room) s m args below meth c (MQ below (hQi D ad cI cJ cF (v_X6_even P size) S) args s 0 0 (hAd ad)) 5 14 [(0, .ref (ad 10 0)), (1, .int (hI size)), (2, .int (hI y2)), (3, .int (hI y3))] S)) (fun y2 y3 y4 => (hAt D ad cI cJ cF p l e ({ frames := 5, cells := 0, slots := 0, locals := 120 } : Room) s m args below meth c (MQ below (hQi D ad cI cJ cF (v_X6_even P size) S) args s 0 0 (hAd ad)) 5 27 [(0, .ref (ad 10 0)), (1, .int (hI size)), (2, .int (hI y2)), (3, .int (hI y3)), (4, .int (hI y4))] S)) (fun r => (r = v_X6_even P size)) r14 r27 rfl
  refine lv_iload_n hx hb dX6_even_0 rfl (lv_at hl 1 rfl) ?_
  refine iv_ki (iv_rS (As := [.int (hI size)]) (rest := []) E hh (ok_X6_isSize l hinj S size h_size) cb_X6_isSize q4_49 rfl rfl ⟨Nat.le_of_ble_eq_true rfl, Nat.le_of_ble_eq_true rfl⟩ rfl hl.1 rfl (Nat.le_of_ble_eq_true rfl) dX6_even_1 ⟨Nat.zero_le _, Nat.zero_le _⟩) hh (fun hc11 H locs hh => ?_)
  refine iv_if_ne (tgt := 10) hx hb hc11 dX6_even_4 (by decide) (fun c12 => ?_) (fun c12 => ?_)
  · have h := h.2 c12
    refine iv_iconst hx hb dX6_even_10 ?_
    refine lv_istore_n (lv' := [(2, .int (hI 1)), (0, .ref (ad 10 0)), (1, .int (hI size))]) hx hb dX6_even_11 rfl hl (by decide) rfl (fun ls hl => ?_)
    refine iv_iconst hx hb dX6_even_12 ?_
    refine lv_istore_n (lv' := [(3, .int (hI 0)), (2, .int (hI 1)), (0, .ref (ad 10 0)), (1, .int (hI size))]) hx hb dX6_even_13 rfl hl (by decide) rfl (fun ls hl => ?_)
    exact h H _ ls hh (lv_sub hl [2, 3, 1, 0] rfl)
  · have h := h.1 c12
    refine iv_ldc (n := (-1000001)) hx hb (by decide) hown (hts _ q3_219) dX6_even_7 ?_
    exact iv_iret E hh h (by rw [← h]; exact ⟨by decide, by decide⟩) rfl dX6_even_9
set_option maxHeartbeats 4000000 in
set_option maxRecDepth 100000 in
theorem ok_X6_clear (l : Launch) (hinj : hInj ad) (S : hS) (P : hGM) (hP : S 10 = P) (glyph : Int) (h_glyph : hIn glyph) (hp : p_X6_clear P glyph) : hMi D ad cI cJ cF l yX6_clear cX6_clear 3 (some .int) ({ frames := 6, cells := 0, slots := 0, locals := 141 } : Room) [.ref (ad 10 0), .int (hI glyph)] S (v_X6_clear P glyph) (gset S 10 (m_X6_clear P glyph)) := by
  refine hOf (S := S) l hinj (by decide +kernel) (Nat.le_of_ble_eq_true rfl) (fun p e s m args below meth c E => ?_)
  obtain ⟨hx, hb, hml, hown, hts, hK, hN, -, hr, hlk⟩ := id E
  have hown : s.vm.findClass RX6 = some m.cls := hown
  have r14 : ∀ (y2 : Int) (P1 : hGM), hIn y2 → ((∀ (i : Nat) (k : Int), i < 100 → hIn (P1 i k)) → ((y2 ≤ 48 → (p_X6_isClear P1 glyph y2 ∧ (((v_X6_isClear P1 glyph y2) = 0 → (hAt D ad cI cJ cF p l e ({ frames := 6, cells := 0, slots := 0, locals := 141 } : Room) s m args below meth c (MQ below (hQi D ad cI cJ cF (v_X6_clear P glyph) (gset S 10 (m_X6_clear P glyph))) args s 0 0 (hAd ad)) 3 14 [(0, .ref (ad 10 0)), (1, .int (hI glyph)), (2, .int (hI (y2 + 1)))] (gset S 10 (m_X6_isClear P1 glyph y2)))) ∧ (¬ (v_X6_isClear P1 glyph y2) = 0 → (y2 = v_X6_clear P glyph ∧ (m_X6_isClear P1 glyph y2) = m_X6_clear P glyph))))) ∧ (¬ y2 ≤ 48 → ((-1000004) = v_X6_clear P glyph ∧ P1 = m_X6_clear P glyph)))) → (hAt D ad cI cJ cF p l e ({ frames := 6, cells := 0, slots := 0, locals := 141 } : Room) s m args below meth c (MQ below (hQi D ad cI cJ cF (v_X6_clear P glyph) (gset S 10 (m_X6_clear P glyph))) args s 0 0 (hAd ad)) 3 14 [(0, .ref (ad 10 0)), (1, .int (hI glyph)), (2, .int (hI y2))] (gset S 10 P1)) := by
    intro y2 P1 h_y2 h H locs ls hh hl
    have h := h (fun i k hi => hIn_rd hh.2.1 (gset_at _ _ _) hi)
    refine lv_iload_n hx hb dX6_clear_14 rfl (lv_at hl 2 rfl) ?_
    refine lv_bipush (v := hI 48) hx hb dX6_clear_15 (by decide) ?_
    refine iv_icmp_gt (tgt := 37) hx hb h_y2 ⟨by decide, by decide⟩ dX6_clear_17 (by decide) (fun c1 => ?_) (fun c1 => ?_)
    · have h := h.2 c1
      refine iv_ldc (n := (-1000004)) hx hb (by decide) hown (hts _ q4_33) dX6_clear_37 ?_
      exact iv_iret E hh h.1 (by rw [← h.1]; exact ⟨by decide, by decide⟩) (by rw [← h.2]) dX6_clear_39
    · have h := h.1 c1
      refine lv_aload_n hx hb dX6_clear_20 rfl (lv_at hl 0 rfl) ?_
      refine lv_iload_n hx hb dX6_clear_21 rfl (lv_at hl 1 rfl) ?_
      refine lv_iload_n hx hb dX6_clear_22 rfl (lv_at hl 2 rfl) ?_
      obtain ⟨g2, h⟩ := h
      refine iv_ki (iv_rV (As := [.int (hI glyph), .int (hI y2)]) (rest := []) E hh (ok_X6_isClear l hinj (gset S 10 P1) P1 (gset_at _ _ _) glyph y2 h_glyph h_y2 g2) cb_X6_isClear q4_125 rfl rfl ⟨Nat.le_of_ble_eq_true rfl, Nat.le_of_ble_eq_true rfl⟩ (ob_Model) rfl rfl rfl hl.1 rfl (Nat.le_of_ble_eq_true rfl) dX6_clear_23 ⟨Nat.zero_le _, Nat.zero_le _⟩) hh (fun hc3 H locs hh => ?_)
      replace hh : hH D ad cI cJ cF (gset S 10 (m_X6_isClear P1 glyph y2)) s H locs := by rw [← show _ = (gset S 10 (m_X6_isClear P1 glyph y2)) from (gset_gset _ _ _ _)]; exact hh
      refine iv_if_eq (tgt := 31) hx hb hc3 dX6_clear_26 (by decide) (fun c4 => ?_) (fun c4 => ?_)
      · have h := h.1 c4
        refine iv_iinc (lv' := [(2, .int (hI (y2 + 1))), (0, .ref (ad 10 0)), (1, .int (hI glyph))]) hx hb dX6_clear_31 hl (k := 2) rfl (v := (y2 + 1)) rfl (by decide) rfl (fun ls hl => ?_)
        refine lv_goto (tgt := 14) hx hb dX6_clear_34 (by decide) ?_
        exact h H _ ls hh (lv_sub hl [1, 2, 0] rfl)
      · have h := h.2 c4
        refine lv_iload_n hx hb dX6_clear_29 rfl (lv_at hl 2 rfl) ?_
        exact iv_iret E hh h.1 (by rw [← h.1]; exact h_y2) (by rw [← h.2]) dX6_clear_30
  intro H locs ls hh hl
  have hl : lv_has ls 3 [(0, .ref (ad 10 0)), (1, .int (hI glyph))] := hl
  replace hh : hH D ad cI cJ cF (gset S 10 P) s H locs := by rw [← can1 hP]; exact hh
  have h := x_X6_clear P glyph h_glyph (fun i k hi => hIn_rd hh.2.1 (gset_at _ _ _) hi) hp (fun y2 P1 => (hAt D ad cI cJ cF p l e ({ frames := 6, cells := 0, slots := 0, locals := 141 } : Room) s m args below meth c (MQ below (hQi D ad cI cJ cF (v_X6_clear P glyph) (gset S 10 (m_X6_clear P glyph))) args s 0 0 (hAd ad)) 3 14 [(0, .ref (ad 10 0)), (1, .int (hI glyph)), (2, .int (hI y2))] (gset S 10 P1))) (fun r P1 => (r = v_X6_clear P glyph ∧ P1 = m_X6_clear P glyph)) r14 ⟨rfl, rfl⟩
  refine lv_aload_n hx hb dX6_clear_0 rfl (lv_at hl 0 rfl) ?_
  refine lv_iload_n hx hb dX6_clear_1 rfl (lv_at hl 1 rfl) ?_
  refine iv_ki (iv_rV (As := [.int (hI glyph)]) (rest := []) E hh (ok_X6_isGlyph l hinj (gset S 10 P) P (gset_at _ _ _) glyph h_glyph) cb_X6_isGlyph q3_229 rfl rfl ⟨Nat.le_of_ble_eq_true rfl, Nat.le_of_ble_eq_true rfl⟩ (ob_Model) rfl rfl rfl hl.1 rfl (Nat.le_of_ble_eq_true rfl) dX6_clear_2 ⟨Nat.zero_le _, Nat.zero_le _⟩) hh (fun hc5 H locs hh => ?_)
  refine iv_if_ne (tgt := 11) hx hb hc5 dX6_clear_5 (by decide) (fun c6 => ?_) (fun c6 => ?_)
  · have h := h.2 c6
    refine lv_bipush (v := hI 6) hx hb dX6_clear_11 (by decide) ?_
    refine lv_istore_n (lv' := [(2, .int (hI 6)), (0, .ref (ad 10 0)), (1, .int (hI glyph))]) hx hb dX6_clear_13 rfl hl (by decide) rfl (fun ls hl => ?_)
    exact h H _ ls hh (lv_sub hl [1, 2, 0] rfl)
  · have h := h.1 c6
    refine iv_ldc (n := (-1000001)) hx hb (by decide) hown (hts _ q3_219) dX6_clear_8 ?_
    exact iv_iret E hh h.1 (by rw [← h.1]; exact ⟨by decide, by decide⟩) (by rw [← h.2]) dX6_clear_10
set_option maxHeartbeats 4000000 in
set_option maxRecDepth 100000 in
theorem ok_X6_clearSizes (l : Launch) (hinj : hInj ad) (S : hS) (P : hGM) (hP : S 10 = P) (glyph : Int) (h_glyph : hIn glyph) (hp : p_X6_clearSizes P glyph) : hMi D ad cI cJ cF l yX6_clearSizes cX6_clearSizes 4 (some .int) ({ frames := 6, cells := 0, slots := 0, locals := 141 } : Room) [.ref (ad 10 0), .int (hI glyph)] S (v_X6_clearSizes P glyph) (gset S 10 (m_X6_clearSizes P glyph)) := by
  refine hOf (S := S) l hinj (by decide +kernel) (Nat.le_of_ble_eq_true rfl) (fun p e s m args below meth c E => ?_)
  obtain ⟨hx, hb, hml, hown, hts, hK, hN, -, hr, hlk⟩ := id E
  have hown : s.vm.findClass RX6 = some m.cls := hown
  have r5 : ∀ (y2 : Int) (y3 : Int) (P1 : hGM), hIn y2 → hIn y3 → ((∀ (i : Nat) (k : Int), i < 100 → hIn (P1 i k)) → ((y3 ≤ 48 → (p_X6_isClear P1 glyph y3 ∧ (((v_X6_isClear P1 glyph y3) = 0 → (hAt D ad cI cJ cF p l e ({ frames := 6, cells := 0, slots := 0, locals := 141 } : Room) s m args below meth c (MQ below (hQi D ad cI cJ cF (v_X6_clearSizes P glyph) (gset S 10 (m_X6_clearSizes P glyph))) args s 0 0 (hAd ad)) 4 5 [(0, .ref (ad 10 0)), (1, .int (hI glyph)), (2, .int (hI (y2 + 0))), (3, .int (hI (y3 + 1)))] (gset S 10 (m_X6_isClear P1 glyph y3)))) ∧ (¬ (v_X6_isClear P1 glyph y3) = 0 → (hAt D ad cI cJ cF p l e ({ frames := 6, cells := 0, slots := 0, locals := 141 } : Room) s m args below meth c (MQ below (hQi D ad cI cJ cF (v_X6_clearSizes P glyph) (gset S 10 (m_X6_clearSizes P glyph))) args s 0 0 (hAd ad)) 4 5 [(0, .ref (ad 10 0)), (1, .int (hI glyph)), (2, .int (hI (y2 + 1))), (3, .int (hI (y3 + 1)))] (gset S 10 (m_X6_isClear P1 glyph y3))))))) ∧ (¬ y3 ≤ 48 → (y2 = v_X6_clearSizes P glyph ∧ P1 = m_X6_clearSizes P glyph)))) → (hAt D ad cI cJ cF p l e ({ frames := 6, cells := 0, slots := 0, locals := 141 } : Room) s m args below meth c (MQ below (hQi D ad cI cJ cF (v_X6_clearSizes P glyph) (gset S 10 (m_X6_clearSizes P glyph))) args s 0 0 (hAd ad)) 4 5 [(0, .ref (ad 10 0)), (1, .int (hI glyph)), (2, .int (hI y2)), (3, .int (hI y3))] (gset S 10 P1)) := by
    intro y2 y3 P1 h_y2 h_y3 h H locs ls hh hl
    have h := h (fun i k hi => hIn_rd hh.2.1 (gset_at _ _ _) hi)
    refine lv_iload_n hx hb dX6_clearSizes_5 rfl (lv_at hl 3 rfl) ?_
    refine lv_bipush (v := hI 48) hx hb dX6_clearSizes_6 (by decide) ?_
    refine iv_icmp_gt (tgt := 34) hx hb h_y3 ⟨by decide, by decide⟩ dX6_clearSizes_8 (by decide) (fun c1 => ?_) (fun c1 => ?_)
    · have h := h.2 c1
      refine lv_iload_n hx hb dX6_clearSizes_34 rfl (lv_at hl 2 rfl) ?_
      exact iv_iret E hh h.1 (by rw [← h.1]; exact h_y2) (by rw [← h.2]) dX6_clearSizes_35
    · have h := h.1 c1
      refine lv_iload_n hx hb dX6_clearSizes_11 rfl (lv_at hl 2 rfl) ?_
      refine lv_aload_n hx hb dX6_clearSizes_12 rfl (lv_at hl 0 rfl) ?_
      refine lv_iload_n hx hb dX6_clearSizes_13 rfl (lv_at hl 1 rfl) ?_
      refine lv_iload_n hx hb dX6_clearSizes_14 rfl (lv_at hl 3 rfl) ?_
      obtain ⟨g2, h⟩ := h
      refine iv_ki (iv_rV (As := [.int (hI glyph), .int (hI y3)]) (rest := [.int (hI y2)]) E hh (ok_X6_isClear l hinj (gset S 10 P1) P1 (gset_at _ _ _) glyph y3 h_glyph h_y3 g2) cb_X6_isClear q4_125 rfl rfl ⟨Nat.le_of_ble_eq_true rfl, Nat.le_of_ble_eq_true rfl⟩ (ob_Model) rfl rfl rfl hl.1 rfl (Nat.le_of_ble_eq_true rfl) dX6_clearSizes_15 ⟨Nat.zero_le _, Nat.zero_le _⟩) hh (fun hc3 H locs hh => ?_)
      replace hh : hH D ad cI cJ cF (gset S 10 (m_X6_isClear P1 glyph y3)) s H locs := by rw [← show _ = (gset S 10 (m_X6_isClear P1 glyph y3)) from (gset_gset _ _ _ _)]; exact hh
      refine iv_if_eq (tgt := 25) hx hb hc3 dX6_clearSizes_18 (by decide) (fun c4 => ?_) (fun c4 => ?_)
      · have h := h.1 c4
        refine iv_iconst hx hb dX6_clearSizes_25 ?_
        refine iv_iadd hx hb dX6_clearSizes_26 ?_
        refine lv_istore_n (lv' := [(2, .int (hI (y2 + 0))), (0, .ref (ad 10 0)), (1, .int (hI glyph)), (3, .int (hI y3))]) hx hb dX6_clearSizes_27 rfl hl (by decide) rfl (fun ls hl => ?_)
        refine iv_iinc (lv' := [(3, .int (hI (y3 + 1))), (2, .int (hI (y2 + 0))), (0, .ref (ad 10 0)), (1, .int (hI glyph))]) hx hb dX6_clearSizes_28 hl (k := 3) rfl (v := (y3 + 1)) rfl (by decide) rfl (fun ls hl => ?_)
        refine lv_goto (tgt := 5) hx hb dX6_clearSizes_31 (by decide) ?_
        exact h H _ ls hh (lv_sub hl [2, 3, 1, 0] rfl)
      · have h := h.2 c4
        refine iv_iconst hx hb dX6_clearSizes_21 ?_
        refine lv_goto (tgt := 26) hx hb dX6_clearSizes_22 (by decide) ?_
        refine iv_iadd hx hb dX6_clearSizes_26 ?_
        refine lv_istore_n (lv' := [(2, .int (hI (y2 + 1))), (0, .ref (ad 10 0)), (1, .int (hI glyph)), (3, .int (hI y3))]) hx hb dX6_clearSizes_27 rfl hl (by decide) rfl (fun ls hl => ?_)
        refine iv_iinc (lv' := [(3, .int (hI (y3 + 1))), (2, .int (hI (y2 + 1))), (0, .ref (ad 10 0)), (1, .int (hI glyph))]) hx hb dX6_clearSizes_28 hl (k := 3) rfl (v := (y3 + 1)) rfl (by decide) rfl (fun ls hl => ?_)
        refine lv_goto (tgt := 5) hx hb dX6_clearSizes_31 (by decide) ?_
        exact h H _ ls hh (lv_sub hl [2, 3, 1, 0] rfl)
  intro H locs ls hh hl
  have hl : lv_has ls 4 [(0, .ref (ad 10 0)), (1, .int (hI glyph))] := hl
  replace hh : hH D ad cI cJ cF (gset S 10 P) s H locs := by rw [← can1 hP]; exact hh
  have h := x_X6_clearSizes P glyph h_glyph (fun i k hi => hIn_rd hh.2.1 (gset_at _ _ _) hi) hp (fun y2 y3 P1 => (hAt D ad cI cJ cF p l e ({ frames := 6, cells := 0, slots := 0, locals := 141 } : Room) s m args below meth c (MQ below (hQi D ad cI cJ cF (v_X6_clearSizes P glyph) (gset S 10 (m_X6_clearSizes P glyph))) args s 0 0 (hAd ad)) 4 5 [(0, .ref (ad 10 0)), (1, .int (hI glyph)), (2, .int (hI y2)), (3, .int (hI y3))] (gset S 10 P1))) (fun r P1 => (r = v_X6_clearSizes P glyph ∧ P1 = m_X6_clearSizes P glyph)) r5 ⟨rfl, rfl⟩
  refine iv_iconst hx hb dX6_clearSizes_0 ?_
  refine lv_istore_n (lv' := [(2, .int (hI 0)), (0, .ref (ad 10 0)), (1, .int (hI glyph))]) hx hb dX6_clearSizes_1 rfl hl (by decide) rfl (fun ls hl => ?_)
  refine lv_bipush (v := hI 6) hx hb dX6_clearSizes_2 (by decide) ?_
  refine lv_istore_n (lv' := [(3, .int (hI 6)), (2, .int (hI 0)), (0, .ref (ad 10 0)), (1, .int (hI glyph))]) hx hb dX6_clearSizes_4 rfl hl (by decide) rfl (fun ls hl => ?_)
  exact h H _ ls hh (lv_sub hl [2, 3, 1, 0] rfl)
set_option maxHeartbeats 4000000 in
set_option maxRecDepth 100000 in
theorem ok_X6_best (l : Launch) (hinj : hInj ad) (S : hS) (P : hGM) (hP : S 10 = P) (glyph : Int) (stem : Int) (what : Int) (h_glyph : hIn glyph) (h_stem : hIn stem) (h_what : hIn what) (hp : p_X6_best P glyph stem what) : hMi D ad cI cJ cF l yX6_best cX6_best 9 (some .int) ({ frames := 7, cells := 0, slots := 0, locals := 164 } : Room) [.ref (ad 10 0), .int (hI glyph), .int (hI stem), .int (hI what)] S (v_X6_best P glyph stem what) (gset S 10 (m_X6_best P glyph stem what)) := by
  refine hOf (S := S) l hinj (by decide +kernel) (Nat.le_of_ble_eq_true rfl) (fun p e s m args below meth c E => ?_)
  obtain ⟨hx, hb, hml, hown, hts, hK, hN, -, hr, hlk⟩ := id E
  have hown : s.vm.findClass RX6 = some m.cls := hown
  have r39 : ∀ (y4 : Int) (y5 : Int) (y6 : Int) (y7 : Int) (P1 : hGM), hIn y4 → hIn y5 → hIn y6 → hIn y7 → ((∀ (i : Nat) (k : Int), i < 100 → hIn (P1 i k)) → ((y7 < 4 → (p_X6_at glyph stem 2 ∧ ((0 ≤ (v_X6_at glyph stem 2) ∧ (v_X6_at glyph stem 2) < 273) ∧ (p_X6_clearSizes (aset P1 1 (v_X6_at glyph stem 2) y7) glyph ∧ (((v_X6_clearSizes (aset P1 1 (v_X6_at glyph stem 2) y7) glyph) ≤ y6 → (hAt D ad cI cJ cF p l e ({ frames := 7, cells := 0, slots := 0, locals := 164 } : Room) s m args below meth c (MQ below (hQi D ad cI cJ cF (v_X6_best P glyph stem what) (gset S 10 (m_X6_best P glyph stem what))) args s 0 0 (hAd ad)) 9 39 [(0, .ref (ad 10 0)), (1, .int (hI glyph)), (2, .int (hI stem)), (3, .int (hI what)), (4, .int (hI y4)), (5, .int (hI y5)), (6, .int (hI y6)), (7, .int (hI (y7 + 1)))] (gset S 10 (m_X6_clearSizes (aset P1 1 (v_X6_at glyph stem 2) y7) glyph)))) ∧ (¬ (v_X6_clearSizes (aset P1 1 (v_X6_at glyph stem 2) y7) glyph) ≤ y6 → (hAt D ad cI cJ cF p l e ({ frames := 7, cells := 0, slots := 0, locals := 164 } : Room) s m args below meth c (MQ below (hQi D ad cI cJ cF (v_X6_best P glyph stem what) (gset S 10 (m_X6_best P glyph stem what))) args s 0 0 (hAd ad)) 9 39 [(0, .ref (ad 10 0)), (1, .int (hI glyph)), (2, .int (hI stem)), (3, .int (hI what)), (4, .int (hI y4)), (5, .int (hI y7)), (6, .int (hI (v_X6_clearSizes (aset P1 1 (v_X6_at glyph stem 2) y7) glyph))), (7, .int (hI (y7 + 1)))] (gset S 10 (m_X6_clearSizes (aset P1 1 (v_X6_at glyph stem 2) y7) glyph))))))))) ∧ (¬ y7 < 4 → (p_X6_at glyph stem 2 ∧ ((0 ≤ (v_X6_at glyph stem 2) ∧ (v_X6_at glyph stem 2) < 273) ∧ ((what = 0 → (y5 = v_X6_best P glyph stem what ∧ (aset P1 1 (v_X6_at glyph stem 2) y4) = m_X6_best P glyph stem what)) ∧ (¬ what = 0 → (y6 = v_X6_best P glyph stem what ∧ (aset P1 1 (v_X6_at glyph stem 2) y4) = m_X6_best P glyph stem what)))))))) → (hAt D ad cI cJ cF p l e ({ frames := 7, cells := 0, slots := 0, locals := 164 } : Room) s m args below meth c (MQ below (hQi D ad cI cJ cF (v_X6_best P glyph stem what) (gset S 10 (m_X6_best P glyph stem what))) args s 0 0 (hAd ad)) 9 39 [(0, .ref (ad 10 0)), (1, .int (hI glyph)), (2, .int (hI stem)), (3, .int (hI what)), (4, .int (hI y4)), (5, .int (hI y5)), (6, .int (hI y6)), (7, .int (hI y7))] (gset S 10 P1)) := by
    intro y4 y5 y6 y7 P1 h_y4 h_y5 h_y6 h_y7 h H locs ls hh hl
    have h := h (fun i k hi => hIn_rd hh.2.1 (gset_at _ _ _) hi)
    refine lv_iload hx hb dX6_best_39 (lv_at hl 7 rfl) ?_
    refine iv_iconst hx hb dX6_best_41 ?_
    refine iv_icmp_ge (tgt := 103) hx hb h_y7 ⟨by decide, by decide⟩ dX6_best_42 (by decide) (fun c1 => ?_) (fun c1 => ?_)
    · have h := h.2 c1
      refine lv_aload_n hx hb dX6_best_103 rfl (lv_at hl 0 rfl) ?_
      refine iv_get (v' := .ref (ad 10 1)) hx hb hts inX6 hown hK hh.1 (ob_Model) rfl 0 (by decide) (hts _ q3_160) rfl rfl rfl dX6_best_104 ?_
      refine lv_iload_n hx hb dX6_best_107 rfl (lv_at hl 1 rfl) ?_
      refine lv_iload_n hx hb dX6_best_108 rfl (lv_at hl 2 rfl) ?_
      refine iv_iconst hx hb dX6_best_109 ?_
      obtain ⟨g2, h⟩ := h
      refine iv_ki (iv_rS (As := [.int (hI glyph), .int (hI stem), .int (hI 2)]) (rest := [.ref (ad 10 1)]) E hh (ok_X6_at l hinj (gset S 10 P1) glyph stem 2 h_glyph h_stem ⟨by decide, by decide⟩ g2) cb_X6_at q4_5 rfl rfl ⟨Nat.le_of_ble_eq_true rfl, Nat.le_of_ble_eq_true rfl⟩ rfl hl.1 rfl (Nat.le_of_ble_eq_true rfl) dX6_best_110 ⟨Nat.zero_le _, Nat.zero_le _⟩) hh (fun hc3 H locs hh => ?_)
      refine lv_iload hx hb dX6_best_113 (lv_at hl 4 rfl) ?_
      obtain ⟨g4, h⟩ := h
      refine iv_iast (S' := (gset S 10 (aset P1 1 (v_X6_at glyph stem 2) y4))) hx hb hK hinj hh (ia_10_1) g4 h_y4 (by rw [show (gset S 10 P1) 10 = P1 from (gset_at _ _ _)]; exact (gset_gset _ _ _ _)) dX6_best_115 (fun H locs hh => ?_)
      refine lv_iload_n hx hb dX6_best_116 rfl (lv_at hl 3 rfl) ?_
      refine iv_if_ne (tgt := 125) hx hb h_what dX6_best_117 (by decide) (fun c5 => ?_) (fun c5 => ?_)
      · have h := h.2 c5
        refine lv_iload hx hb dX6_best_125 (lv_at hl 6 rfl) ?_
        exact iv_iret E hh h.1 (by rw [← h.1]; exact h_y6) (by rw [← h.2]) dX6_best_127
      · have h := h.1 c5
        refine lv_iload hx hb dX6_best_120 (lv_at hl 5 rfl) ?_
        refine lv_goto (tgt := 127) hx hb dX6_best_122 (by decide) ?_
        exact iv_iret E hh h.1 (by rw [← h.1]; exact h_y5) (by rw [← h.2]) dX6_best_127
    · have h := h.1 c1
      refine lv_aload_n hx hb dX6_best_45 rfl (lv_at hl 0 rfl) ?_
      refine iv_get (v' := .ref (ad 10 1)) hx hb hts inX6 hown hK hh.1 (ob_Model) rfl 0 (by decide) (hts _ q3_160) rfl rfl rfl dX6_best_46 ?_
      refine lv_iload_n hx hb dX6_best_49 rfl (lv_at hl 1 rfl) ?_
      refine lv_iload_n hx hb dX6_best_50 rfl (lv_at hl 2 rfl) ?_
      refine iv_iconst hx hb dX6_best_51 ?_
      obtain ⟨g6, h⟩ := h
      refine iv_ki (iv_rS (As := [.int (hI glyph), .int (hI stem), .int (hI 2)]) (rest := [.ref (ad 10 1)]) E hh (ok_X6_at l hinj (gset S 10 P1) glyph stem 2 h_glyph h_stem ⟨by decide, by decide⟩ g6) cb_X6_at q4_5 rfl rfl ⟨Nat.le_of_ble_eq_true rfl, Nat.le_of_ble_eq_true rfl⟩ rfl hl.1 rfl (Nat.le_of_ble_eq_true rfl) dX6_best_52 ⟨Nat.zero_le _, Nat.zero_le _⟩) hh (fun hc7 H locs hh => ?_)
      refine lv_iload hx hb dX6_best_55 (lv_at hl 7 rfl) ?_
      obtain ⟨g8, h⟩ := h
      refine iv_iast (S' := (gset S 10 (aset P1 1 (v_X6_at glyph stem 2) y7))) hx hb hK hinj hh (ia_10_1) g8 h_y7 (by rw [show (gset S 10 P1) 10 = P1 from (gset_at _ _ _)]; exact (gset_gset _ _ _ _)) dX6_best_57 (fun H locs hh => ?_)
      refine lv_aload_n hx hb dX6_best_58 rfl (lv_at hl 0 rfl) ?_
      refine lv_iload_n hx hb dX6_best_59 rfl (lv_at hl 1 rfl) ?_
      obtain ⟨g9, h⟩ := h
      refine iv_ki (iv_rV (As := [.int (hI glyph)]) (rest := []) E hh (ok_X6_clearSizes l hinj (gset S 10 (aset P1 1 (v_X6_at glyph stem 2) y7)) (aset P1 1 (v_X6_at glyph stem 2) y7) (gset_at _ _ _) glyph h_glyph g9) cb_X6_clearSizes q4_169 rfl rfl ⟨Nat.le_of_ble_eq_true rfl, Nat.le_of_ble_eq_true rfl⟩ (ob_Model) rfl rfl rfl hl.1 rfl (Nat.le_of_ble_eq_true rfl) dX6_best_60 ⟨Nat.zero_le _, Nat.zero_le _⟩) hh (fun hc10 H locs hh => ?_)
      replace hh : hH D ad cI cJ cF (gset S 10 (m_X6_clearSizes (aset P1 1 (v_X6_at glyph stem 2) y7) glyph)) s H locs := by rw [← show _ = (gset S 10 (m_X6_clearSizes (aset P1 1 (v_X6_at glyph stem 2) y7) glyph)) from (gset_gset _ _ _ _)]; exact hh
      refine lv_istore (lv' := [(8, .int (hI (v_X6_clearSizes (aset P1 1 (v_X6_at glyph stem 2) y7) glyph))), (0, .ref (ad 10 0)), (1, .int (hI glyph)), (2, .int (hI stem)), (3, .int (hI what)), (4, .int (hI y4)), (5, .int (hI y5)), (6, .int (hI y6)), (7, .int (hI y7))]) hx hb dX6_best_63 hl (by decide) rfl (fun ls hl => ?_)
      refine lv_iload hx hb dX6_best_65 (lv_at hl 0 rfl) ?_
      refine lv_iload hx hb dX6_best_67 (lv_at hl 7 rfl) ?_
      refine iv_icmp_le (tgt := 77) hx hb hc10 h_y6 dX6_best_69 (by decide) (fun c11 => ?_) (fun c11 => ?_)
      · have h := h.1 c11
        refine lv_iload hx hb dX6_best_77 (lv_at hl 6 rfl) ?_
        refine lv_istore (lv' := [(5, .int (hI y5)), (8, .int (hI (v_X6_clearSizes (aset P1 1 (v_X6_at glyph stem 2) y7) glyph))), (0, .ref (ad 10 0)), (1, .int (hI glyph)), (2, .int (hI stem)), (3, .int (hI what)), (4, .int (hI y4)), (6, .int (hI y6)), (7, .int (hI y7))]) hx hb dX6_best_79 hl (by decide) rfl (fun ls hl => ?_)
        refine lv_iload hx hb dX6_best_81 (lv_at hl 1 rfl) ?_
        refine lv_iload hx hb dX6_best_83 (lv_at hl 7 rfl) ?_
        refine iv_icmp_le (tgt := 93) hx hb hc10 h_y6 dX6_best_85 (by decide) (fun c12 => ?_) (fun c12 => ?_)
        · refine lv_iload hx hb dX6_best_93 (lv_at hl 7 rfl) ?_
          refine lv_istore (lv' := [(6, .int (hI y6)), (5, .int (hI y5)), (8, .int (hI (v_X6_clearSizes (aset P1 1 (v_X6_at glyph stem 2) y7) glyph))), (0, .ref (ad 10 0)), (1, .int (hI glyph)), (2, .int (hI stem)), (3, .int (hI what)), (4, .int (hI y4)), (7, .int (hI y7))]) hx hb dX6_best_95 hl (by decide) rfl (fun ls hl => ?_)
          refine iv_iinc (lv' := [(7, .int (hI (y7 + 1))), (6, .int (hI y6)), (5, .int (hI y5)), (8, .int (hI (v_X6_clearSizes (aset P1 1 (v_X6_at glyph stem 2) y7) glyph))), (0, .ref (ad 10 0)), (1, .int (hI glyph)), (2, .int (hI stem)), (3, .int (hI what)), (4, .int (hI y4))]) hx hb dX6_best_97 hl (k := 8) rfl (v := (y7 + 1)) rfl (by decide) rfl (fun ls hl => ?_)
          refine lv_goto (tgt := 39) hx hb dX6_best_100 (by decide) ?_
          exact h H _ ls hh (lv_sub hl [4, 5, 6, 7, 8, 2, 1, 0] rfl)
        · exact absurd c11 c12
      · have h := h.2 c11
        refine lv_iload hx hb dX6_best_72 (lv_at hl 8 rfl) ?_
        refine lv_goto (tgt := 79) hx hb dX6_best_74 (by decide) ?_
        refine lv_istore (lv' := [(5, .int (hI y7)), (8, .int (hI (v_X6_clearSizes (aset P1 1 (v_X6_at glyph stem 2) y7) glyph))), (0, .ref (ad 10 0)), (1, .int (hI glyph)), (2, .int (hI stem)), (3, .int (hI what)), (4, .int (hI y4)), (6, .int (hI y6)), (7, .int (hI y7))]) hx hb dX6_best_79 hl (by decide) rfl (fun ls hl => ?_)
        refine lv_iload hx hb dX6_best_81 (lv_at hl 1 rfl) ?_
        refine lv_iload hx hb dX6_best_83 (lv_at hl 7 rfl) ?_
        refine iv_icmp_le (tgt := 93) hx hb hc10 h_y6 dX6_best_85 (by decide) (fun c13 => ?_) (fun c13 => ?_)
        · exact absurd c13 c11
        · refine lv_iload hx hb dX6_best_88 (lv_at hl 1 rfl) ?_
          refine lv_goto (tgt := 95) hx hb dX6_best_90 (by decide) ?_
          refine lv_istore (lv' := [(6, .int (hI (v_X6_clearSizes (aset P1 1 (v_X6_at glyph stem 2) y7) glyph))), (5, .int (hI y7)), (8, .int (hI (v_X6_clearSizes (aset P1 1 (v_X6_at glyph stem 2) y7) glyph))), (0, .ref (ad 10 0)), (1, .int (hI glyph)), (2, .int (hI stem)), (3, .int (hI what)), (4, .int (hI y4)), (7, .int (hI y7))]) hx hb dX6_best_95 hl (by decide) rfl (fun ls hl => ?_)
          refine iv_iinc (lv' := [(7, .int (hI (y7 + 1))), (6, .int (hI (v_X6_clearSizes (aset P1 1 (v_X6_at glyph stem 2) y7) glyph))), (5, .int (hI y7)), (8, .int (hI (v_X6_clearSizes (aset P1 1 (v_X6_at glyph stem 2) y7) glyph))), (0, .ref (ad 10 0)), (1, .int (hI glyph)), (2, .int (hI stem)), (3, .int (hI what)), (4, .int (hI y4))]) hx hb dX6_best_97 hl (k := 8) rfl (v := (y7 + 1)) rfl (by decide) rfl (fun ls hl => ?_)
          refine lv_goto (tgt := 39) hx hb dX6_best_100 (by decide) ?_
          exact h H _ ls hh (lv_sub hl [4, 5, 6, 7, 8, 2, 1, 0] rfl)
  intro H locs ls hh hl
  have hl : lv_has ls 9 [(0, .ref (ad 10 0)), (1, .int (hI glyph)), (2, .int (hI stem)), (3, .int (hI what))] := hl
  replace hh : hH D ad cI cJ cF (gset S 10 P) s H locs := by rw [← can1 hP]; exact hh
  have h := x_X6_best P glyph stem what h_glyph h_stem h_what (fun i k hi => hIn_rd hh.2.1 (gset_at _ _ _) hi) hp (fun y4 y5 y6 y7 P1 => (hAt D ad cI cJ cF p l e ({ frames := 7, cells := 0, slots := 0, locals := 164 } : Room) s m args below meth c (MQ below (hQi D ad cI cJ cF (v_X6_best P glyph stem what) (gset S 10 (m_X6_best P glyph stem what))) args s 0 0 (hAd ad)) 9 39 [(0, .ref (ad 10 0)), (1, .int (hI glyph)), (2, .int (hI stem)), (3, .int (hI what)), (4, .int (hI y4)), (5, .int (hI y5)), (6, .int (hI y6)), (7, .int (hI y7))] (gset S 10 P1))) (fun r P1 => (r = v_X6_best P glyph stem what ∧ P1 = m_X6_best P glyph stem what)) r39 ⟨rfl, rfl⟩
  refine lv_aload_n hx hb dX6_best_0 rfl (lv_at hl 0 rfl) ?_
  refine lv_iload_n hx hb dX6_best_1 rfl (lv_at hl 1 rfl) ?_
  refine lv_iload_n hx hb dX6_best_2 rfl (lv_at hl 2 rfl) ?_
  obtain ⟨g14, h⟩ := h
  refine iv_ki (iv_rV (As := [.int (hI glyph), .int (hI stem)]) (rest := []) E hh (ok_X6_isStem l hinj (gset S 10 P) P (gset_at _ _ _) glyph stem h_glyph h_stem g14) cb_X6_isStem q4_17 rfl rfl ⟨Nat.le_of_ble_eq_true rfl, Nat.le_of_ble_eq_true rfl⟩ (ob_Model) rfl rfl rfl hl.1 rfl (Nat.le_of_ble_eq_true rfl) dX6_best_3 ⟨Nat.zero_le _, Nat.zero_le _⟩) hh (fun hc15 H locs hh => ?_)
  refine iv_if_eq (tgt := 18) hx hb hc15 dX6_best_6 (by decide) (fun c16 => ?_) (fun c16 => ?_)
  · have h := h.1 c16
    refine iv_ldc (n := (-1000001)) hx hb (by decide) hown (hts _ q3_219) dX6_best_18 ?_
    exact iv_iret E hh h.1 (by rw [← h.1]; exact ⟨by decide, by decide⟩) (by rw [← h.2]) dX6_best_20
  · have h := h.2 c16
    refine lv_iload_n hx hb dX6_best_9 rfl (lv_at hl 3 rfl) ?_
    refine iv_iconst hx hb dX6_best_10 ?_
    refine iv_iconst hx hb dX6_best_11 ?_
    refine iv_ki (iv_rS (As := [.int (hI what), .int (hI 0), .int (hI 1)]) (rest := []) E hh (ok_X6_in l hinj (gset S 10 P) what 0 1 h_what ⟨by decide, by decide⟩ ⟨by decide, by decide⟩) cb_X6_in q3_216 rfl rfl ⟨Nat.le_of_ble_eq_true rfl, Nat.le_of_ble_eq_true rfl⟩ rfl hl.1 rfl (Nat.le_of_ble_eq_true rfl) dX6_best_12 ⟨Nat.zero_le _, Nat.zero_le _⟩) hh (fun hc17 H locs hh => ?_)
    refine iv_if_ne (tgt := 21) hx hb hc17 dX6_best_15 (by decide) (fun c18 => ?_) (fun c18 => ?_)
    · have h := h.2 c18
      refine lv_aload_n hx hb dX6_best_21 rfl (lv_at hl 0 rfl) ?_
      refine lv_iload_n hx hb dX6_best_22 rfl (lv_at hl 1 rfl) ?_
      refine lv_iload_n hx hb dX6_best_23 rfl (lv_at hl 2 rfl) ?_
      refine iv_iconst hx hb dX6_best_24 ?_
      obtain ⟨g19, h⟩ := h
      refine iv_ki (iv_rV (As := [.int (hI glyph), .int (hI stem), .int (hI 2)]) (rest := []) E hh (ok_X6_ofStem l hinj (gset S 10 P) P (gset_at _ _ _) glyph stem 2 h_glyph h_stem ⟨by decide, by decide⟩ g19) cb_X6_ofStem q4_1 rfl rfl ⟨Nat.le_of_ble_eq_true rfl, Nat.le_of_ble_eq_true rfl⟩ (ob_Model) rfl rfl rfl hl.1 rfl (Nat.le_of_ble_eq_true rfl) dX6_best_25 ⟨Nat.zero_le _, Nat.zero_le _⟩) hh (fun hc20 H locs hh => ?_)
      refine lv_istore (lv' := [(4, .int (hI (v_X6_ofStem P glyph stem 2))), (0, .ref (ad 10 0)), (1, .int (hI glyph)), (2, .int (hI stem)), (3, .int (hI what))]) hx hb dX6_best_28 hl (by decide) rfl (fun ls hl => ?_)
      refine iv_iconst hx hb dX6_best_30 ?_
      refine lv_istore (lv' := [(5, .int (hI 0)), (4, .int (hI (v_X6_ofStem P glyph stem 2))), (0, .ref (ad 10 0)), (1, .int (hI glyph)), (2, .int (hI stem)), (3, .int (hI what))]) hx hb dX6_best_31 hl (by decide) rfl (fun ls hl => ?_)
      refine iv_iconst hx hb dX6_best_33 ?_
      refine lv_istore (lv' := [(6, .int (hI 0)), (5, .int (hI 0)), (4, .int (hI (v_X6_ofStem P glyph stem 2))), (0, .ref (ad 10 0)), (1, .int (hI glyph)), (2, .int (hI stem)), (3, .int (hI what))]) hx hb dX6_best_34 hl (by decide) rfl (fun ls hl => ?_)
      refine iv_iconst hx hb dX6_best_36 ?_
      refine lv_istore (lv' := [(7, .int (hI 0)), (6, .int (hI 0)), (5, .int (hI 0)), (4, .int (hI (v_X6_ofStem P glyph stem 2))), (0, .ref (ad 10 0)), (1, .int (hI glyph)), (2, .int (hI stem)), (3, .int (hI what))]) hx hb dX6_best_37 hl (by decide) rfl (fun ls hl => ?_)
      exact h H _ ls hh (lv_sub hl [4, 5, 6, 7, 3, 2, 1, 0] rfl)
    · have h := h.1 c18
      refine iv_ldc (n := (-1000001)) hx hb (by decide) hown (hts _ q3_219) dX6_best_18 ?_
      exact iv_iret E hh h.1 (by rw [← h.1]; exact ⟨by decide, by decide⟩) (by rw [← h.2]) dX6_best_20
set_option maxHeartbeats 4000000 in
set_option maxRecDepth 100000 in
theorem ok_X6_stems (l : Launch) (hinj : hInj ad) (S : hS) (P : hGM) (hP : S 10 = P) (hp : p_X6_stems P) : hMi D ad cI cJ cF l yX6_stems cX6_stems 3 (some .int) ({ frames := 1, cells := 0, slots := 0, locals := 22 } : Room) [.ref (ad 10 0)] S (v_X6_stems P) S := by
  refine hOf (S := S) l hinj (by decide +kernel) (Nat.le_of_ble_eq_true rfl) (fun p e s m args below meth c E => ?_)
  obtain ⟨hx, hb, hml, hown, hts, hK, hN, -, hr, hlk⟩ := id E
  have hown : s.vm.findClass RX6 = some m.cls := hown
  have r4 : ∀ (y1 : Int) (y2 : Int), hIn y1 → hIn y2 → (((y2 < (P 1 0) → (p_X6_of P y2 1 ∧ (hAt D ad cI cJ cF p l e ({ frames := 1, cells := 0, slots := 0, locals := 22 } : Room) s m args below meth c (MQ below (hQi D ad cI cJ cF (v_X6_stems P) S) args s 0 0 (hAd ad)) 3 4 [(0, .ref (ad 10 0)), (1, .int (hI (y1 + (v_X6_of P y2 1)))), (2, .int (hI (y2 + 1)))] S))) ∧ (¬ y2 < (P 1 0) → (y1 = v_X6_stems P)))) → (hAt D ad cI cJ cF p l e ({ frames := 1, cells := 0, slots := 0, locals := 22 } : Room) s m args below meth c (MQ below (hQi D ad cI cJ cF (v_X6_stems P) S) args s 0 0 (hAd ad)) 3 4 [(0, .ref (ad 10 0)), (1, .int (hI y1)), (2, .int (hI y2))] S) := by
    intro y1 y2 h_y1 h_y2 h H locs ls hh hl
    refine lv_iload_n hx hb dX6_stems_4 rfl (lv_at hl 2 rfl) ?_
    refine lv_aload_n hx hb dX6_stems_5 rfl (lv_at hl 0 rfl) ?_
    refine iv_get (v' := .ref (ad 10 1)) hx hb hts inX6 hown hK hh.1 (ob_Model) rfl 0 (by decide) (hts _ q3_160) rfl rfl rfl dX6_stems_6 ?_
    refine iv_iconst hx hb dX6_stems_9 ?_
    refine iv_iald hx hb hK hh.1 (ia_10_1) ⟨by decide, by decide⟩ (v := (P 1 0)) (congrArg (fun z => z 1 0) hP) dX6_stems_10 ?_
    have hm1 : hIn (P 1 0) := hIn_rd hh.2.1 hP (by decide)
    refine iv_icmp_ge (tgt := 29) hx hb h_y2 hm1 dX6_stems_11 (by decide) (fun c2 => ?_) (fun c2 => ?_)
    · have h := h.2 c2
      refine lv_iload_n hx hb dX6_stems_29 rfl (lv_at hl 1 rfl) ?_
      exact iv_iret E hh h (by rw [← h]; exact h_y1) rfl dX6_stems_30
    · have h := h.1 c2
      refine lv_iload_n hx hb dX6_stems_14 rfl (lv_at hl 1 rfl) ?_
      refine lv_aload_n hx hb dX6_stems_15 rfl (lv_at hl 0 rfl) ?_
      refine lv_iload_n hx hb dX6_stems_16 rfl (lv_at hl 2 rfl) ?_
      refine iv_iconst hx hb dX6_stems_17 ?_
      obtain ⟨g3, h⟩ := h
      refine iv_ki (iv_rV (As := [.int (hI y2), .int (hI 1)]) (rest := [.int (hI y1)]) E hh (ok_X6_of l hinj S P hP y2 1 h_y2 ⟨by decide, by decide⟩ g3) cb_X6_of q3_237 rfl rfl ⟨Nat.le_of_ble_eq_true rfl, Nat.le_of_ble_eq_true rfl⟩ (ob_Model) rfl rfl rfl hl.1 rfl (Nat.le_of_ble_eq_true rfl) dX6_stems_18 ⟨Nat.zero_le _, Nat.zero_le _⟩) hh (fun hc4 H locs hh => ?_)
      refine iv_iadd hx hb dX6_stems_21 ?_
      refine lv_istore_n (lv' := [(1, .int (hI (y1 + (v_X6_of P y2 1)))), (0, .ref (ad 10 0)), (2, .int (hI y2))]) hx hb dX6_stems_22 rfl hl (by decide) rfl (fun ls hl => ?_)
      refine iv_iinc (lv' := [(2, .int (hI (y2 + 1))), (1, .int (hI (y1 + (v_X6_of P y2 1)))), (0, .ref (ad 10 0))]) hx hb dX6_stems_23 hl (k := 2) rfl (v := (y2 + 1)) rfl (by decide) rfl (fun ls hl => ?_)
      refine lv_goto (tgt := 4) hx hb dX6_stems_26 (by decide) ?_
      exact h H _ ls hh (lv_sub hl [2, 1, 0] rfl)
  intro H locs ls hh hl
  have hl : lv_has ls 3 [(0, .ref (ad 10 0))] := hl
  have h := x_X6_stems P (fun i k hi => hIn_rd hh.2.1 hP hi) hp (fun y1 y2 => (hAt D ad cI cJ cF p l e ({ frames := 1, cells := 0, slots := 0, locals := 22 } : Room) s m args below meth c (MQ below (hQi D ad cI cJ cF (v_X6_stems P) S) args s 0 0 (hAd ad)) 3 4 [(0, .ref (ad 10 0)), (1, .int (hI y1)), (2, .int (hI y2))] S)) (fun r => (r = v_X6_stems P)) r4 rfl
  refine iv_iconst hx hb dX6_stems_0 ?_
  refine lv_istore_n (lv' := [(1, .int (hI 0)), (0, .ref (ad 10 0))]) hx hb dX6_stems_1 rfl hl (by decide) rfl (fun ls hl => ?_)
  refine iv_iconst hx hb dX6_stems_2 ?_
  refine lv_istore_n (lv' := [(2, .int (hI 0)), (1, .int (hI 0)), (0, .ref (ad 10 0))]) hx hb dX6_stems_3 rfl hl (by decide) rfl (fun ls hl => ?_)
  exact h H _ ls hh (lv_sub hl [2, 1, 0] rfl)
set_option maxHeartbeats 4000000 in
set_option maxRecDepth 100000 in
theorem ok_X6_stales (l : Launch) (hinj : hInj ad) (S : hS) (P : hGM) (hP : S 10 = P) (hp : p_X6_stales P) : hMi D ad cI cJ cF l yX6_stales cX6_stales 3 (some .int) ({ frames := 6, cells := 0, slots := 0, locals := 144 } : Room) [.ref (ad 10 0)] S (v_X6_stales P) (gset S 10 (m_X6_stales P)) := by
  refine hOf (S := S) l hinj (by decide +kernel) (Nat.le_of_ble_eq_true rfl) (fun p e s m args below meth c E => ?_)
  obtain ⟨hx, hb, hml, hown, hts, hK, hN, -, hr, hlk⟩ := id E
  have hown : s.vm.findClass RX6 = some m.cls := hown
  have r4 : ∀ (y1 : Int) (y2 : Int) (P1 : hGM), hIn y1 → hIn y2 → ((∀ (i : Nat) (k : Int), i < 100 → hIn (P1 i k)) → ((y2 < (P1 1 7) → (p_X6_isStale P1 y2 ∧ (((v_X6_isStale P1 y2) = 0 → (hAt D ad cI cJ cF p l e ({ frames := 6, cells := 0, slots := 0, locals := 144 } : Room) s m args below meth c (MQ below (hQi D ad cI cJ cF (v_X6_stales P) (gset S 10 (m_X6_stales P))) args s 0 0 (hAd ad)) 3 4 [(0, .ref (ad 10 0)), (1, .int (hI (y1 + 0))), (2, .int (hI (y2 + 1)))] (gset S 10 (m_X6_isStale P1 y2)))) ∧ (¬ (v_X6_isStale P1 y2) = 0 → (hAt D ad cI cJ cF p l e ({ frames := 6, cells := 0, slots := 0, locals := 144 } : Room) s m args below meth c (MQ below (hQi D ad cI cJ cF (v_X6_stales P) (gset S 10 (m_X6_stales P))) args s 0 0 (hAd ad)) 3 4 [(0, .ref (ad 10 0)), (1, .int (hI (y1 + 1))), (2, .int (hI (y2 + 1)))] (gset S 10 (m_X6_isStale P1 y2))))))) ∧ (¬ y2 < (P1 1 7) → (y1 = v_X6_stales P ∧ P1 = m_X6_stales P)))) → (hAt D ad cI cJ cF p l e ({ frames := 6, cells := 0, slots := 0, locals := 144 } : Room) s m args below meth c (MQ below (hQi D ad cI cJ cF (v_X6_stales P) (gset S 10 (m_X6_stales P))) args s 0 0 (hAd ad)) 3 4 [(0, .ref (ad 10 0)), (1, .int (hI y1)), (2, .int (hI y2))] (gset S 10 P1)) := by
    intro y1 y2 P1 h_y1 h_y2 h H locs ls hh hl
    have h := h (fun i k hi => hIn_rd hh.2.1 (gset_at _ _ _) hi)
    refine lv_iload_n hx hb dX6_stales_4 rfl (lv_at hl 2 rfl) ?_
    refine lv_aload_n hx hb dX6_stales_5 rfl (lv_at hl 0 rfl) ?_
    refine iv_get (v' := .ref (ad 10 1)) hx hb hts inX6 hown hK hh.1 (ob_Model) rfl 0 (by decide) (hts _ q3_160) rfl rfl rfl dX6_stales_6 ?_
    refine lv_bipush (v := hI 7) hx hb dX6_stales_9 (by decide) ?_
    refine iv_iald hx hb hK hh.1 (ia_10_1) ⟨by decide, by decide⟩ (v := (P1 1 7)) (congrArg (fun z => z 1 7) (gset_at _ _ _)) dX6_stales_11 ?_
    have hm1 : hIn (P1 1 7) := hIn_rd hh.2.1 (gset_at _ _ _) (by decide)
    refine iv_icmp_ge (tgt := 37) hx hb h_y2 hm1 dX6_stales_12 (by decide) (fun c2 => ?_) (fun c2 => ?_)
    · have h := h.2 c2
      refine lv_iload_n hx hb dX6_stales_37 rfl (lv_at hl 1 rfl) ?_
      exact iv_iret E hh h.1 (by rw [← h.1]; exact h_y1) (by rw [← h.2]) dX6_stales_38
    · have h := h.1 c2
      refine lv_iload_n hx hb dX6_stales_15 rfl (lv_at hl 1 rfl) ?_
      refine lv_aload_n hx hb dX6_stales_16 rfl (lv_at hl 0 rfl) ?_
      refine lv_iload_n hx hb dX6_stales_17 rfl (lv_at hl 2 rfl) ?_
      obtain ⟨g3, h⟩ := h
      refine iv_ki (iv_rV (As := [.int (hI y2)]) (rest := [.int (hI y1)]) E hh (ok_X6_isStale l hinj (gset S 10 P1) P1 (gset_at _ _ _) y2 h_y2 g3) cb_X6_isStale q4_145 rfl rfl ⟨Nat.le_of_ble_eq_true rfl, Nat.le_of_ble_eq_true rfl⟩ (ob_Model) rfl rfl rfl hl.1 rfl (Nat.le_of_ble_eq_true rfl) dX6_stales_18 ⟨Nat.zero_le _, Nat.zero_le _⟩) hh (fun hc4 H locs hh => ?_)
      replace hh : hH D ad cI cJ cF (gset S 10 (m_X6_isStale P1 y2)) s H locs := by rw [← show _ = (gset S 10 (m_X6_isStale P1 y2)) from (gset_gset _ _ _ _)]; exact hh
      refine iv_if_eq (tgt := 28) hx hb hc4 dX6_stales_21 (by decide) (fun c5 => ?_) (fun c5 => ?_)
      · have h := h.1 c5
        refine iv_iconst hx hb dX6_stales_28 ?_
        refine iv_iadd hx hb dX6_stales_29 ?_
        refine lv_istore_n (lv' := [(1, .int (hI (y1 + 0))), (0, .ref (ad 10 0)), (2, .int (hI y2))]) hx hb dX6_stales_30 rfl hl (by decide) rfl (fun ls hl => ?_)
        refine iv_iinc (lv' := [(2, .int (hI (y2 + 1))), (1, .int (hI (y1 + 0))), (0, .ref (ad 10 0))]) hx hb dX6_stales_31 hl (k := 2) rfl (v := (y2 + 1)) rfl (by decide) rfl (fun ls hl => ?_)
        refine lv_goto (tgt := 4) hx hb dX6_stales_34 (by decide) ?_
        exact h H _ ls hh (lv_sub hl [2, 1, 0] rfl)
      · have h := h.2 c5
        refine iv_iconst hx hb dX6_stales_24 ?_
        refine lv_goto (tgt := 29) hx hb dX6_stales_25 (by decide) ?_
        refine iv_iadd hx hb dX6_stales_29 ?_
        refine lv_istore_n (lv' := [(1, .int (hI (y1 + 1))), (0, .ref (ad 10 0)), (2, .int (hI y2))]) hx hb dX6_stales_30 rfl hl (by decide) rfl (fun ls hl => ?_)
        refine iv_iinc (lv' := [(2, .int (hI (y2 + 1))), (1, .int (hI (y1 + 1))), (0, .ref (ad 10 0))]) hx hb dX6_stales_31 hl (k := 2) rfl (v := (y2 + 1)) rfl (by decide) rfl (fun ls hl => ?_)
        refine lv_goto (tgt := 4) hx hb dX6_stales_34 (by decide) ?_
        exact h H _ ls hh (lv_sub hl [2, 1, 0] rfl)
  intro H locs ls hh hl
  have hl : lv_has ls 3 [(0, .ref (ad 10 0))] := hl
  replace hh : hH D ad cI cJ cF (gset S 10 P) s H locs := by rw [← can1 hP]; exact hh
  have h := x_X6_stales P (fun i k hi => hIn_rd hh.2.1 (gset_at _ _ _) hi) hp (fun y1 y2 P1 => (hAt D ad cI cJ cF p l e ({ frames := 6, cells := 0, slots := 0, locals := 144 } : Room) s m args below meth c (MQ below (hQi D ad cI cJ cF (v_X6_stales P) (gset S 10 (m_X6_stales P))) args s 0 0 (hAd ad)) 3 4 [(0, .ref (ad 10 0)), (1, .int (hI y1)), (2, .int (hI y2))] (gset S 10 P1))) (fun r P1 => (r = v_X6_stales P ∧ P1 = m_X6_stales P)) r4 ⟨rfl, rfl⟩
  refine iv_iconst hx hb dX6_stales_0 ?_
  refine lv_istore_n (lv' := [(1, .int (hI 0)), (0, .ref (ad 10 0))]) hx hb dX6_stales_1 rfl hl (by decide) rfl (fun ls hl => ?_)
  refine iv_iconst hx hb dX6_stales_2 ?_
  refine lv_istore_n (lv' := [(2, .int (hI 0)), (1, .int (hI 0)), (0, .ref (ad 10 0))]) hx hb dX6_stales_3 rfl hl (by decide) rfl (fun ls hl => ?_)
  exact h H _ ls hh (lv_sub hl [2, 1, 0] rfl)
set_option maxHeartbeats 4000000 in
set_option maxRecDepth 100000 in
theorem ok_X6_unlikeWidths (l : Launch) (hinj : hInj ad) (S : hS) (P : hGM) (hP : S 10 = P) (hp : p_X6_unlikeWidths P) : hMi D ad cI cJ cF l yX6_unlikeWidths cX6_unlikeWidths 3 (some .int) ({ frames := 4, cells := 0, slots := 0, locals := 93 } : Room) [.ref (ad 10 0)] S (v_X6_unlikeWidths P) S := by
  refine hOf (S := S) l hinj (by decide +kernel) (Nat.le_of_ble_eq_true rfl) (fun p e s m args below meth c E => ?_)
  obtain ⟨hx, hb, hml, hown, hts, hK, hN, -, hr, hlk⟩ := id E
  have hown : s.vm.findClass RX6 = some m.cls := hown
  have r4 : ∀ (y1 : Int) (y2 : Int), hIn y1 → hIn y2 → (((y2 < 301 → (p_X6_alike P y2 ∧ (((v_X6_alike P y2) ≤ 0 → (hAt D ad cI cJ cF p l e ({ frames := 4, cells := 0, slots := 0, locals := 93 } : Room) s m args below meth c (MQ below (hQi D ad cI cJ cF (v_X6_unlikeWidths P) S) args s 0 0 (hAd ad)) 3 4 [(0, .ref (ad 10 0)), (1, .int (hI (y1 + 0))), (2, .int (hI (y2 + 1)))] S)) ∧ (¬ (v_X6_alike P y2) ≤ 0 → (hAt D ad cI cJ cF p l e ({ frames := 4, cells := 0, slots := 0, locals := 93 } : Room) s m args below meth c (MQ below (hQi D ad cI cJ cF (v_X6_unlikeWidths P) S) args s 0 0 (hAd ad)) 3 4 [(0, .ref (ad 10 0)), (1, .int (hI (y1 + 1))), (2, .int (hI (y2 + 1)))] S))))) ∧ (¬ y2 < 301 → (y1 = v_X6_unlikeWidths P)))) → (hAt D ad cI cJ cF p l e ({ frames := 4, cells := 0, slots := 0, locals := 93 } : Room) s m args below meth c (MQ below (hQi D ad cI cJ cF (v_X6_unlikeWidths P) S) args s 0 0 (hAd ad)) 3 4 [(0, .ref (ad 10 0)), (1, .int (hI y1)), (2, .int (hI y2))] S) := by
    intro y1 y2 h_y1 h_y2 h H locs ls hh hl
    refine lv_iload_n hx hb dX6_unlikeWidths_4 rfl (lv_at hl 2 rfl) ?_
    refine lv_sipush (v := hI 301) hx hb dX6_unlikeWidths_5 (by decide) ?_
    refine iv_icmp_ge (tgt := 33) hx hb h_y2 ⟨by decide, by decide⟩ dX6_unlikeWidths_8 (by decide) (fun c1 => ?_) (fun c1 => ?_)
    · have h := h.2 c1
      refine lv_iload_n hx hb dX6_unlikeWidths_33 rfl (lv_at hl 1 rfl) ?_
      exact iv_iret E hh h (by rw [← h]; exact h_y1) rfl dX6_unlikeWidths_34
    · have h := h.1 c1
      refine lv_iload_n hx hb dX6_unlikeWidths_11 rfl (lv_at hl 1 rfl) ?_
      refine lv_aload_n hx hb dX6_unlikeWidths_12 rfl (lv_at hl 0 rfl) ?_
      refine lv_iload_n hx hb dX6_unlikeWidths_13 rfl (lv_at hl 2 rfl) ?_
      obtain ⟨g2, h⟩ := h
      refine iv_ki (iv_rV (As := [.int (hI y2)]) (rest := [.int (hI y1)]) E hh (ok_X6_alike l hinj S P hP y2 h_y2 g2) cb_X6_alike q4_106 rfl rfl ⟨Nat.le_of_ble_eq_true rfl, Nat.le_of_ble_eq_true rfl⟩ (ob_Model) rfl rfl rfl hl.1 rfl (Nat.le_of_ble_eq_true rfl) dX6_unlikeWidths_14 ⟨Nat.zero_le _, Nat.zero_le _⟩) hh (fun hc3 H locs hh => ?_)
      refine iv_if_le (tgt := 24) hx hb hc3 dX6_unlikeWidths_17 (by decide) (fun c4 => ?_) (fun c4 => ?_)
      · have h := h.1 c4
        refine iv_iconst hx hb dX6_unlikeWidths_24 ?_
        refine iv_iadd hx hb dX6_unlikeWidths_25 ?_
        refine lv_istore_n (lv' := [(1, .int (hI (y1 + 0))), (0, .ref (ad 10 0)), (2, .int (hI y2))]) hx hb dX6_unlikeWidths_26 rfl hl (by decide) rfl (fun ls hl => ?_)
        refine iv_iinc (lv' := [(2, .int (hI (y2 + 1))), (1, .int (hI (y1 + 0))), (0, .ref (ad 10 0))]) hx hb dX6_unlikeWidths_27 hl (k := 2) rfl (v := (y2 + 1)) rfl (by decide) rfl (fun ls hl => ?_)
        refine lv_goto (tgt := 4) hx hb dX6_unlikeWidths_30 (by decide) ?_
        exact h H _ ls hh (lv_sub hl [2, 1, 0] rfl)
      · have h := h.2 c4
        refine iv_iconst hx hb dX6_unlikeWidths_20 ?_
        refine lv_goto (tgt := 25) hx hb dX6_unlikeWidths_21 (by decide) ?_
        refine iv_iadd hx hb dX6_unlikeWidths_25 ?_
        refine lv_istore_n (lv' := [(1, .int (hI (y1 + 1))), (0, .ref (ad 10 0)), (2, .int (hI y2))]) hx hb dX6_unlikeWidths_26 rfl hl (by decide) rfl (fun ls hl => ?_)
        refine iv_iinc (lv' := [(2, .int (hI (y2 + 1))), (1, .int (hI (y1 + 1))), (0, .ref (ad 10 0))]) hx hb dX6_unlikeWidths_27 hl (k := 2) rfl (v := (y2 + 1)) rfl (by decide) rfl (fun ls hl => ?_)
        refine lv_goto (tgt := 4) hx hb dX6_unlikeWidths_30 (by decide) ?_
        exact h H _ ls hh (lv_sub hl [2, 1, 0] rfl)
  intro H locs ls hh hl
  have hl : lv_has ls 3 [(0, .ref (ad 10 0))] := hl
  have h := x_X6_unlikeWidths P (fun i k hi => hIn_rd hh.2.1 hP hi) hp (fun y1 y2 => (hAt D ad cI cJ cF p l e ({ frames := 4, cells := 0, slots := 0, locals := 93 } : Room) s m args below meth c (MQ below (hQi D ad cI cJ cF (v_X6_unlikeWidths P) S) args s 0 0 (hAd ad)) 3 4 [(0, .ref (ad 10 0)), (1, .int (hI y1)), (2, .int (hI y2))] S)) (fun r => (r = v_X6_unlikeWidths P)) r4 rfl
  refine iv_iconst hx hb dX6_unlikeWidths_0 ?_
  refine lv_istore_n (lv' := [(1, .int (hI 0)), (0, .ref (ad 10 0))]) hx hb dX6_unlikeWidths_1 rfl hl (by decide) rfl (fun ls hl => ?_)
  refine iv_iconst hx hb dX6_unlikeWidths_2 ?_
  refine lv_istore_n (lv' := [(2, .int (hI 1)), (1, .int (hI 0)), (0, .ref (ad 10 0))]) hx hb dX6_unlikeWidths_3 rfl hl (by decide) rfl (fun ls hl => ?_)
  exact h H _ ls hh (lv_sub hl [2, 1, 0] rfl)
theorem to_X6_count_1 (x : Int) (_ : ¬ x = 0) (_ : ¬ x = 1) (_ : ¬ x = 2) (_ : ¬ x = 3) (_ : ¬ x = 4) (_ : ¬ x = 5) (_ : ¬ x = 6) (_ : ¬ x = 7) (_ : ¬ x = 8) (_ : ¬ x = 9) (_ : ¬ x = 10) (_ : ¬ x = 11) (_ : ¬ x = 12) : x < 0 ∨ 12 < x := by omega
set_option maxHeartbeats 4000000 in
set_option maxRecDepth 100000 in
theorem ok_X6_count (l : Launch) (hinj : hInj ad) (S : hS) (P : hGM) (hP : S 10 = P) (what : Int) (h_what : hIn what) (hp : p_X6_count P what) : hMi D ad cI cJ cF l yX6_count cX6_count 2 (some .int) ({ frames := 7, cells := 0, slots := 0, locals := 166 } : Room) [.ref (ad 10 0), .int (hI what)] S (v_X6_count P what) (gset S 10 (m_X6_count P what)) := by
  refine hOf (S := S) l hinj (by decide +kernel) (Nat.le_of_ble_eq_true rfl) (fun p e s m args below meth c E => ?_)
  obtain ⟨hx, hb, hml, hown, hts, hK, hN, -, hr, hlk⟩ := id E
  have hown : s.vm.findClass RX6 = some m.cls := hown
  intro H locs ls hh hl
  have hl : lv_has ls 2 [(0, .ref (ad 10 0)), (1, .int (hI what))] := hl
  replace hh : hH D ad cI cJ cF (gset S 10 P) s H locs := by rw [← can1 hP]; exact hh
  have h := hp
  unfold p_X6_count at h
  refine lv_iload_n hx hb dX6_count_0 rfl (lv_at hl 1 rfl) ?_
  by_cases c1 : what = 0
  · have h := h.1 c1
    refine lv_tableIn (off := 67) (tgt := 68) hx hb dX6_count_1 (by rw [hI_toInt h_what, c1]; decide) (by rw [hI_toInt h_what, c1]; decide) (by rw [hI_toInt h_what, c1]; rfl) (by decide) ?_
    refine lv_aload_n hx hb dX6_count_68 rfl (lv_at hl 0 rfl) ?_
    refine iv_get (v' := .ref (ad 10 1)) hx hb hts inX6 hown hK hh.1 (ob_Model) rfl 0 (by decide) (hts _ q3_160) rfl rfl rfl dX6_count_69 ?_
    refine iv_iconst hx hb dX6_count_72 ?_
    refine iv_iald hx hb hK hh.1 (ia_10_1) ⟨by decide, by decide⟩ (v := (P 1 0)) (congrArg (fun z => z 1 0) (gset_at _ _ _)) dX6_count_73 ?_
    have hm2 : hIn (P 1 0) := hIn_rd hh.2.1 (gset_at _ _ _) (by decide)
    exact iv_iret E hh (by unfold v_X6_count; rw [if_pos c1]) (by rw [← show (P 1 0) = v_X6_count P what from (by unfold v_X6_count; rw [if_pos c1])]; exact hm2) (by unfold m_X6_count; rw [if_pos c1]) dX6_count_74
  · have h := h.2 c1
    by_cases c3 : what = 1
    · have h := h.1 c3
      refine lv_tableIn (off := 74) (tgt := 75) hx hb dX6_count_1 (by rw [hI_toInt h_what, c3]; decide) (by rw [hI_toInt h_what, c3]; decide) (by rw [hI_toInt h_what, c3]; rfl) (by decide) ?_
      refine lv_aload_n hx hb dX6_count_75 rfl (lv_at hl 0 rfl) ?_
      obtain ⟨g4, h⟩ := h
      refine iv_ki (iv_rV (As := []) (rest := []) E hh (ok_X6_stems l hinj (gset S 10 P) P (gset_at _ _ _) g4) cb_X6_stems q4_177 rfl rfl ⟨Nat.le_of_ble_eq_true rfl, Nat.le_of_ble_eq_true rfl⟩ (ob_Model) rfl rfl rfl hl.1 rfl (Nat.le_of_ble_eq_true rfl) dX6_count_76 ⟨Nat.zero_le _, Nat.zero_le _⟩) hh (fun hc5 H locs hh => ?_)
      exact iv_iret E hh (by unfold v_X6_count; rw [if_neg c1, if_pos c3]) (by rw [← show (v_X6_stems P) = v_X6_count P what from (by unfold v_X6_count; rw [if_neg c1, if_pos c3])]; exact hc5) (by unfold m_X6_count; rw [if_neg c1, if_pos c3]) dX6_count_79
    · have h := h.2 c3
      by_cases c6 : what = 2
      · have h := h.1 c6
        refine lv_tableIn (off := 79) (tgt := 80) hx hb dX6_count_1 (by rw [hI_toInt h_what, c6]; decide) (by rw [hI_toInt h_what, c6]; decide) (by rw [hI_toInt h_what, c6]; rfl) (by decide) ?_
        refine lv_aload_n hx hb dX6_count_80 rfl (lv_at hl 0 rfl) ?_
        refine iv_get (v' := .ref (ad 10 1)) hx hb hts inX6 hown hK hh.1 (ob_Model) rfl 0 (by decide) (hts _ q3_160) rfl rfl rfl dX6_count_81 ?_
        refine iv_iconst hx hb dX6_count_84 ?_
        refine iv_iald hx hb hK hh.1 (ia_10_1) ⟨by decide, by decide⟩ (v := (P 1 1)) (congrArg (fun z => z 1 1) (gset_at _ _ _)) dX6_count_85 ?_
        have hm7 : hIn (P 1 1) := hIn_rd hh.2.1 (gset_at _ _ _) (by decide)
        exact iv_iret E hh (by unfold v_X6_count; rw [if_neg c1, if_neg c3, if_pos c6]) (by rw [← show (P 1 1) = v_X6_count P what from (by unfold v_X6_count; rw [if_neg c1, if_neg c3, if_pos c6])]; exact hm7) (by unfold m_X6_count; rw [if_neg c1, if_neg c3, if_pos c6]) dX6_count_86
      · have h := h.2 c6
        by_cases c8 : what = 3
        · have h := h.1 c8
          refine lv_tableIn (off := 86) (tgt := 87) hx hb dX6_count_1 (by rw [hI_toInt h_what, c8]; decide) (by rw [hI_toInt h_what, c8]; decide) (by rw [hI_toInt h_what, c8]; rfl) (by decide) ?_
          refine lv_aload_n hx hb dX6_count_87 rfl (lv_at hl 0 rfl) ?_
          refine iv_get (v' := .ref (ad 10 1)) hx hb hts inX6 hown hK hh.1 (ob_Model) rfl 0 (by decide) (hts _ q3_160) rfl rfl rfl dX6_count_88 ?_
          refine lv_bipush (v := hI 7) hx hb dX6_count_91 (by decide) ?_
          refine iv_iald hx hb hK hh.1 (ia_10_1) ⟨by decide, by decide⟩ (v := (P 1 7)) (congrArg (fun z => z 1 7) (gset_at _ _ _)) dX6_count_93 ?_
          have hm9 : hIn (P 1 7) := hIn_rd hh.2.1 (gset_at _ _ _) (by decide)
          exact iv_iret E hh (by unfold v_X6_count; rw [if_neg c1, if_neg c3, if_neg c6, if_pos c8]) (by rw [← show (P 1 7) = v_X6_count P what from (by unfold v_X6_count; rw [if_neg c1, if_neg c3, if_neg c6, if_pos c8])]; exact hm9) (by unfold m_X6_count; rw [if_neg c1, if_neg c3, if_neg c6, if_pos c8]) dX6_count_94
        · have h := h.2 c8
          by_cases c10 : what = 4
          · have h := h.1 c10
            refine lv_tableIn (off := 94) (tgt := 95) hx hb dX6_count_1 (by rw [hI_toInt h_what, c10]; decide) (by rw [hI_toInt h_what, c10]; decide) (by rw [hI_toInt h_what, c10]; rfl) (by decide) ?_
            refine lv_aload_n hx hb dX6_count_95 rfl (lv_at hl 0 rfl) ?_
            obtain ⟨g11, h⟩ := h
            refine iv_ki (iv_rV (As := []) (rest := []) E hh (ok_X6_stales l hinj (gset S 10 P) P (gset_at _ _ _) g11) cb_X6_stales q4_195 rfl rfl ⟨Nat.le_of_ble_eq_true rfl, Nat.le_of_ble_eq_true rfl⟩ (ob_Model) rfl rfl rfl hl.1 rfl (Nat.le_of_ble_eq_true rfl) dX6_count_96 ⟨Nat.zero_le _, Nat.zero_le _⟩) hh (fun hc12 H locs hh => ?_)
            replace hh : hH D ad cI cJ cF (gset S 10 (m_X6_stales P)) s H locs := by rw [← show _ = (gset S 10 (m_X6_stales P)) from (gset_gset _ _ _ _)]; exact hh
            exact iv_iret E hh (by unfold v_X6_count; rw [if_neg c1, if_neg c3, if_neg c6, if_neg c8, if_pos c10]) (by rw [← show (v_X6_stales P) = v_X6_count P what from (by unfold v_X6_count; rw [if_neg c1, if_neg c3, if_neg c6, if_neg c8, if_pos c10])]; exact hc12) (by unfold m_X6_count; rw [if_neg c1, if_neg c3, if_neg c6, if_neg c8, if_pos c10]) dX6_count_99
          · have h := h.2 c10
            by_cases c13 : what = 5
            · have h := h.1 c13
              refine lv_tableIn (off := 99) (tgt := 100) hx hb dX6_count_1 (by rw [hI_toInt h_what, c13]; decide) (by rw [hI_toInt h_what, c13]; decide) (by rw [hI_toInt h_what, c13]; rfl) (by decide) ?_
              refine lv_aload_n hx hb dX6_count_100 rfl (lv_at hl 0 rfl) ?_
              obtain ⟨g14, h⟩ := h
              refine iv_ki (iv_rV (As := []) (rest := []) E hh (ok_X6_unlikeWidths l hinj (gset S 10 P) P (gset_at _ _ _) g14) cb_X6_unlikeWidths q4_199 rfl rfl ⟨Nat.le_of_ble_eq_true rfl, Nat.le_of_ble_eq_true rfl⟩ (ob_Model) rfl rfl rfl hl.1 rfl (Nat.le_of_ble_eq_true rfl) dX6_count_101 ⟨Nat.zero_le _, Nat.zero_le _⟩) hh (fun hc15 H locs hh => ?_)
              exact iv_iret E hh (by unfold v_X6_count; rw [if_neg c1, if_neg c3, if_neg c6, if_neg c8, if_neg c10, if_pos c13]) (by rw [← show (v_X6_unlikeWidths P) = v_X6_count P what from (by unfold v_X6_count; rw [if_neg c1, if_neg c3, if_neg c6, if_neg c8, if_neg c10, if_pos c13])]; exact hc15) (by unfold m_X6_count; rw [if_neg c1, if_neg c3, if_neg c6, if_neg c8, if_neg c10, if_pos c13]) dX6_count_104
            · have h := h.2 c13
              by_cases c16 : what = 6
              · have h := h.1 c16
                refine lv_tableIn (off := 104) (tgt := 105) hx hb dX6_count_1 (by rw [hI_toInt h_what, c16]; decide) (by rw [hI_toInt h_what, c16]; decide) (by rw [hI_toInt h_what, c16]; rfl) (by decide) ?_
                refine lv_aload_n hx hb dX6_count_105 rfl (lv_at hl 0 rfl) ?_
                refine iv_get (v' := .ref (ad 10 1)) hx hb hts inX6 hown hK hh.1 (ob_Model) rfl 0 (by decide) (hts _ q3_160) rfl rfl rfl dX6_count_106 ?_
                refine lv_bipush (v := hI 8) hx hb dX6_count_109 (by decide) ?_
                refine iv_iald hx hb hK hh.1 (ia_10_1) ⟨by decide, by decide⟩ (v := (P 1 8)) (congrArg (fun z => z 1 8) (gset_at _ _ _)) dX6_count_111 ?_
                have hm17 : hIn (P 1 8) := hIn_rd hh.2.1 (gset_at _ _ _) (by decide)
                exact iv_iret E hh (by unfold v_X6_count; rw [if_neg c1, if_neg c3, if_neg c6, if_neg c8, if_neg c10, if_neg c13, if_pos c16]) (by rw [← show (P 1 8) = v_X6_count P what from (by unfold v_X6_count; rw [if_neg c1, if_neg c3, if_neg c6, if_neg c8, if_neg c10, if_neg c13, if_pos c16])]; exact hm17) (by unfold m_X6_count; rw [if_neg c1, if_neg c3, if_neg c6, if_neg c8, if_neg c10, if_neg c13, if_pos c16]) dX6_count_112
              · have h := h.2 c16
                by_cases c18 : what = 7
                · have h := h.1 c18
                  refine lv_tableIn (off := 112) (tgt := 113) hx hb dX6_count_1 (by rw [hI_toInt h_what, c18]; decide) (by rw [hI_toInt h_what, c18]; decide) (by rw [hI_toInt h_what, c18]; rfl) (by decide) ?_
                  refine lv_aload_n hx hb dX6_count_113 rfl (lv_at hl 0 rfl) ?_
                  refine iv_get (v' := .int (hI (P 0 3))) hx hb hts inX6 hown hK hh.1 (ob_Model) rfl 3 (by decide) (hts _ q3_163) rfl rfl (congrArg (fun z => Value.int (hI (z 0 3))) (gset_at _ _ _)) dX6_count_114 ?_
                  have hm19 : hIn (P 0 3) := hIn_rd hh.2.1 (gset_at _ _ _) (by decide)
                  exact iv_iret E hh (by unfold v_X6_count; rw [if_neg c1, if_neg c3, if_neg c6, if_neg c8, if_neg c10, if_neg c13, if_neg c16, if_pos c18]) (by rw [← show (P 0 3) = v_X6_count P what from (by unfold v_X6_count; rw [if_neg c1, if_neg c3, if_neg c6, if_neg c8, if_neg c10, if_neg c13, if_neg c16, if_pos c18])]; exact hm19) (by unfold m_X6_count; rw [if_neg c1, if_neg c3, if_neg c6, if_neg c8, if_neg c10, if_neg c13, if_neg c16, if_pos c18]) dX6_count_117
                · have h := h.2 c18
                  by_cases c20 : what = 8
                  · have h := h.1 c20
                    refine lv_tableIn (off := 117) (tgt := 118) hx hb dX6_count_1 (by rw [hI_toInt h_what, c20]; decide) (by rw [hI_toInt h_what, c20]; decide) (by rw [hI_toInt h_what, c20]; rfl) (by decide) ?_
                    refine lv_aload_n hx hb dX6_count_118 rfl (lv_at hl 0 rfl) ?_
                    refine iv_get (v' := .int (hI (P 0 6))) hx hb hts inX6 hown hK hh.1 (ob_Model) rfl 6 (by decide) (hts _ q3_166) rfl rfl (congrArg (fun z => Value.int (hI (z 0 6))) (gset_at _ _ _)) dX6_count_119 ?_
                    have hm21 : hIn (P 0 6) := hIn_rd hh.2.1 (gset_at _ _ _) (by decide)
                    exact iv_iret E hh (by unfold v_X6_count; rw [if_neg c1, if_neg c3, if_neg c6, if_neg c8, if_neg c10, if_neg c13, if_neg c16, if_neg c18, if_pos c20]) (by rw [← show (P 0 6) = v_X6_count P what from (by unfold v_X6_count; rw [if_neg c1, if_neg c3, if_neg c6, if_neg c8, if_neg c10, if_neg c13, if_neg c16, if_neg c18, if_pos c20])]; exact hm21) (by unfold m_X6_count; rw [if_neg c1, if_neg c3, if_neg c6, if_neg c8, if_neg c10, if_neg c13, if_neg c16, if_neg c18, if_pos c20]) dX6_count_122
                  · have h := h.2 c20
                    by_cases c22 : what = 9
                    · have h := h.1 c22
                      refine lv_tableIn (off := 152) (tgt := 153) hx hb dX6_count_1 (by rw [hI_toInt h_what, c22]; decide) (by rw [hI_toInt h_what, c22]; decide) (by rw [hI_toInt h_what, c22]; rfl) (by decide) ?_
                      refine lv_iload_n hx hb dX6_count_153 rfl (lv_at hl 1 rfl) ?_
                      refine lv_bipush (v := hI 20) hx hb dX6_count_154 (by decide) ?_
                      refine lv_bipush (v := hI 21) hx hb dX6_count_156 (by decide) ?_
                      refine iv_ki (iv_rS (As := [.int (hI what), .int (hI 20), .int (hI 21)]) (rest := []) E hh (ok_X6_in l hinj (gset S 10 P) what 20 21 h_what ⟨by decide, by decide⟩ ⟨by decide, by decide⟩) cb_X6_in q3_216 rfl rfl ⟨Nat.le_of_ble_eq_true rfl, Nat.le_of_ble_eq_true rfl⟩ rfl hl.1 rfl (Nat.le_of_ble_eq_true rfl) dX6_count_158 ⟨Nat.zero_le _, Nat.zero_le _⟩) hh (fun hc23 H locs hh => ?_)
                      refine iv_if_eq (tgt := 178) hx hb hc23 dX6_count_161 (by decide) (fun c24 => ?_) (fun c24 => ?_)
                      · have h := h.1 c24
                        refine iv_ldc (n := (-1000001)) hx hb (by decide) hown (hts _ q3_219) dX6_count_178 ?_
                        exact iv_iret E hh (by unfold v_X6_count; rw [if_neg c1, if_neg c3, if_neg c6, if_neg c8, if_neg c10, if_neg c13, if_neg c16, if_neg c18, if_neg c20, if_pos c22, if_pos c24]) (by rw [← show (-1000001) = v_X6_count P what from (by unfold v_X6_count; rw [if_neg c1, if_neg c3, if_neg c6, if_neg c8, if_neg c10, if_neg c13, if_neg c16, if_neg c18, if_neg c20, if_pos c22, if_pos c24])]; exact ⟨by decide, by decide⟩) (by unfold m_X6_count; rw [if_neg c1, if_neg c3, if_neg c6, if_neg c8, if_neg c10, if_neg c13, if_neg c16, if_neg c18, if_neg c20, if_pos c22, if_pos c24]) dX6_count_180
                      · have h := h.2 c24
                        refine lv_aload_n hx hb dX6_count_164 rfl (lv_at hl 0 rfl) ?_
                        refine iv_get (v' := .ref (ad 10 1)) hx hb hts inX6 hown hK hh.1 (ob_Model) rfl 0 (by decide) (hts _ q3_160) rfl rfl rfl dX6_count_165 ?_
                        refine iv_iconst hx hb dX6_count_168 ?_
                        refine lv_iload_n hx hb dX6_count_169 rfl (lv_at hl 1 rfl) ?_
                        refine iv_iadd hx hb dX6_count_170 ?_
                        refine lv_bipush (v := hI 20) hx hb dX6_count_171 (by decide) ?_
                        refine iv_isub hx hb dX6_count_173 ?_
                        obtain ⟨g25, h⟩ := h
                        refine iv_iald hx hb hK hh.1 (ia_10_1) g25 (v := (P 1 ((5 + what) - 20))) (congrArg (fun z => z 1 ((5 + what) - 20)) (gset_at _ _ _)) dX6_count_174 ?_
                        have hm26 : hIn (P 1 ((5 + what) - 20)) := hIn_rd hh.2.1 (gset_at _ _ _) (by decide)
                        refine lv_goto (tgt := 180) hx hb dX6_count_175 (by decide) ?_
                        exact iv_iret E hh (by unfold v_X6_count; rw [if_neg c1, if_neg c3, if_neg c6, if_neg c8, if_neg c10, if_neg c13, if_neg c16, if_neg c18, if_neg c20, if_pos c22, if_neg c24]) (by rw [← show (P 1 ((5 + what) - 20)) = v_X6_count P what from (by unfold v_X6_count; rw [if_neg c1, if_neg c3, if_neg c6, if_neg c8, if_neg c10, if_neg c13, if_neg c16, if_neg c18, if_neg c20, if_pos c22, if_neg c24])]; exact hm26) (by unfold m_X6_count; rw [if_neg c1, if_neg c3, if_neg c6, if_neg c8, if_neg c10, if_neg c13, if_neg c16, if_neg c18, if_neg c20, if_pos c22, if_neg c24]) dX6_count_180
                    · have h := h.2 c22
                      by_cases c27 : what = 10
                      · have h := h.1 c27
                        refine lv_tableIn (off := 122) (tgt := 123) hx hb dX6_count_1 (by rw [hI_toInt h_what, c27]; decide) (by rw [hI_toInt h_what, c27]; decide) (by rw [hI_toInt h_what, c27]; rfl) (by decide) ?_
                        refine lv_iload_n hx hb dX6_count_123 rfl (lv_at hl 1 rfl) ?_
                        refine lv_bipush (v := hI 10) hx hb dX6_count_124 (by decide) ?_
                        refine iv_isub hx hb dX6_count_126 ?_
                        refine lv_aload_n hx hb dX6_count_127 rfl (lv_at hl 0 rfl) ?_
                        refine iv_get (v' := .ref (ad 10 1)) hx hb hts inX6 hown hK hh.1 (ob_Model) rfl 0 (by decide) (hts _ q3_160) rfl rfl rfl dX6_count_128 ?_
                        refine iv_iconst hx hb dX6_count_131 ?_
                        refine iv_iald hx hb hK hh.1 (ia_10_1) ⟨by decide, by decide⟩ (v := (P 1 1)) (congrArg (fun z => z 1 1) (gset_at _ _ _)) dX6_count_132 ?_
                        have hm28 : hIn (P 1 1) := hIn_rd hh.2.1 (gset_at _ _ _) (by decide)
                        obtain ⟨g29, h⟩ := h
                        refine iv_icmp_ge (tgt := 150) hx hb g29 hm28 dX6_count_133 (by decide) (fun c30 => ?_) (fun c30 => ?_)
                        · have h := h.2 c30
                          refine iv_ldc (n := (-1000004)) hx hb (by decide) hown (hts _ q4_33) dX6_count_150 ?_
                          exact iv_iret E hh (by unfold v_X6_count; rw [if_neg c1, if_neg c3, if_neg c6, if_neg c8, if_neg c10, if_neg c13, if_neg c16, if_neg c18, if_neg c20, if_neg c22, if_pos c27, if_neg c30]) (by rw [← show (-1000004) = v_X6_count P what from (by unfold v_X6_count; rw [if_neg c1, if_neg c3, if_neg c6, if_neg c8, if_neg c10, if_neg c13, if_neg c16, if_neg c18, if_neg c20, if_neg c22, if_pos c27, if_neg c30])]; exact ⟨by decide, by decide⟩) (by unfold m_X6_count; rw [if_neg c1, if_neg c3, if_neg c6, if_neg c8, if_neg c10, if_neg c13, if_neg c16, if_neg c18, if_neg c20, if_neg c22, if_pos c27, if_neg c30]) dX6_count_152
                        · have h := h.1 c30
                          refine lv_aload_n hx hb dX6_count_136 rfl (lv_at hl 0 rfl) ?_
                          refine iv_get (v' := .ref (ad 10 1)) hx hb hts inX6 hown hK hh.1 (ob_Model) rfl 0 (by decide) (hts _ q3_160) rfl rfl rfl dX6_count_137 ?_
                          refine iv_iconst hx hb dX6_count_140 ?_
                          refine lv_iload_n hx hb dX6_count_141 rfl (lv_at hl 1 rfl) ?_
                          refine iv_iadd hx hb dX6_count_142 ?_
                          refine lv_bipush (v := hI 10) hx hb dX6_count_143 (by decide) ?_
                          refine iv_isub hx hb dX6_count_145 ?_
                          obtain ⟨g31, h⟩ := h
                          refine iv_iald hx hb hK hh.1 (ia_10_1) g31 (v := (P 1 ((2 + what) - 10))) (congrArg (fun z => z 1 ((2 + what) - 10)) (gset_at _ _ _)) dX6_count_146 ?_
                          have hm32 : hIn (P 1 ((2 + what) - 10)) := hIn_rd hh.2.1 (gset_at _ _ _) (by decide)
                          refine lv_goto (tgt := 152) hx hb dX6_count_147 (by decide) ?_
                          exact iv_iret E hh (by unfold v_X6_count; rw [if_neg c1, if_neg c3, if_neg c6, if_neg c8, if_neg c10, if_neg c13, if_neg c16, if_neg c18, if_neg c20, if_neg c22, if_pos c27, if_pos c30]) (by rw [← show (P 1 ((2 + what) - 10)) = v_X6_count P what from (by unfold v_X6_count; rw [if_neg c1, if_neg c3, if_neg c6, if_neg c8, if_neg c10, if_neg c13, if_neg c16, if_neg c18, if_neg c20, if_neg c22, if_pos c27, if_pos c30])]; exact hm32) (by unfold m_X6_count; rw [if_neg c1, if_neg c3, if_neg c6, if_neg c8, if_neg c10, if_neg c13, if_neg c16, if_neg c18, if_neg c20, if_neg c22, if_pos c27, if_pos c30]) dX6_count_152
                      · have h := h.2 c27
                        by_cases c33 : what = 11
                        · have h := h.1 c33
                          refine lv_tableIn (off := 122) (tgt := 123) hx hb dX6_count_1 (by rw [hI_toInt h_what, c33]; decide) (by rw [hI_toInt h_what, c33]; decide) (by rw [hI_toInt h_what, c33]; rfl) (by decide) ?_
                          refine lv_iload_n hx hb dX6_count_123 rfl (lv_at hl 1 rfl) ?_
                          refine lv_bipush (v := hI 10) hx hb dX6_count_124 (by decide) ?_
                          refine iv_isub hx hb dX6_count_126 ?_
                          refine lv_aload_n hx hb dX6_count_127 rfl (lv_at hl 0 rfl) ?_
                          refine iv_get (v' := .ref (ad 10 1)) hx hb hts inX6 hown hK hh.1 (ob_Model) rfl 0 (by decide) (hts _ q3_160) rfl rfl rfl dX6_count_128 ?_
                          refine iv_iconst hx hb dX6_count_131 ?_
                          refine iv_iald hx hb hK hh.1 (ia_10_1) ⟨by decide, by decide⟩ (v := (P 1 1)) (congrArg (fun z => z 1 1) (gset_at _ _ _)) dX6_count_132 ?_
                          have hm34 : hIn (P 1 1) := hIn_rd hh.2.1 (gset_at _ _ _) (by decide)
                          obtain ⟨g35, h⟩ := h
                          refine iv_icmp_ge (tgt := 150) hx hb g35 hm34 dX6_count_133 (by decide) (fun c36 => ?_) (fun c36 => ?_)
                          · have h := h.2 c36
                            refine iv_ldc (n := (-1000004)) hx hb (by decide) hown (hts _ q4_33) dX6_count_150 ?_
                            exact iv_iret E hh (by unfold v_X6_count; rw [if_neg c1, if_neg c3, if_neg c6, if_neg c8, if_neg c10, if_neg c13, if_neg c16, if_neg c18, if_neg c20, if_neg c22, if_neg c27, if_pos c33, if_neg c36]) (by rw [← show (-1000004) = v_X6_count P what from (by unfold v_X6_count; rw [if_neg c1, if_neg c3, if_neg c6, if_neg c8, if_neg c10, if_neg c13, if_neg c16, if_neg c18, if_neg c20, if_neg c22, if_neg c27, if_pos c33, if_neg c36])]; exact ⟨by decide, by decide⟩) (by unfold m_X6_count; rw [if_neg c1, if_neg c3, if_neg c6, if_neg c8, if_neg c10, if_neg c13, if_neg c16, if_neg c18, if_neg c20, if_neg c22, if_neg c27, if_pos c33, if_neg c36]) dX6_count_152
                          · have h := h.1 c36
                            refine lv_aload_n hx hb dX6_count_136 rfl (lv_at hl 0 rfl) ?_
                            refine iv_get (v' := .ref (ad 10 1)) hx hb hts inX6 hown hK hh.1 (ob_Model) rfl 0 (by decide) (hts _ q3_160) rfl rfl rfl dX6_count_137 ?_
                            refine iv_iconst hx hb dX6_count_140 ?_
                            refine lv_iload_n hx hb dX6_count_141 rfl (lv_at hl 1 rfl) ?_
                            refine iv_iadd hx hb dX6_count_142 ?_
                            refine lv_bipush (v := hI 10) hx hb dX6_count_143 (by decide) ?_
                            refine iv_isub hx hb dX6_count_145 ?_
                            obtain ⟨g37, h⟩ := h
                            refine iv_iald hx hb hK hh.1 (ia_10_1) g37 (v := (P 1 ((2 + what) - 10))) (congrArg (fun z => z 1 ((2 + what) - 10)) (gset_at _ _ _)) dX6_count_146 ?_
                            have hm38 : hIn (P 1 ((2 + what) - 10)) := hIn_rd hh.2.1 (gset_at _ _ _) (by decide)
                            refine lv_goto (tgt := 152) hx hb dX6_count_147 (by decide) ?_
                            exact iv_iret E hh (by unfold v_X6_count; rw [if_neg c1, if_neg c3, if_neg c6, if_neg c8, if_neg c10, if_neg c13, if_neg c16, if_neg c18, if_neg c20, if_neg c22, if_neg c27, if_pos c33, if_pos c36]) (by rw [← show (P 1 ((2 + what) - 10)) = v_X6_count P what from (by unfold v_X6_count; rw [if_neg c1, if_neg c3, if_neg c6, if_neg c8, if_neg c10, if_neg c13, if_neg c16, if_neg c18, if_neg c20, if_neg c22, if_neg c27, if_pos c33, if_pos c36])]; exact hm38) (by unfold m_X6_count; rw [if_neg c1, if_neg c3, if_neg c6, if_neg c8, if_neg c10, if_neg c13, if_neg c16, if_neg c18, if_neg c20, if_neg c22, if_neg c27, if_pos c33, if_pos c36]) dX6_count_152
                        · have h := h.2 c33
                          by_cases c39 : what = 12
                          · have h := h.1 c39
                            refine lv_tableIn (off := 122) (tgt := 123) hx hb dX6_count_1 (by rw [hI_toInt h_what, c39]; decide) (by rw [hI_toInt h_what, c39]; decide) (by rw [hI_toInt h_what, c39]; rfl) (by decide) ?_
                            refine lv_iload_n hx hb dX6_count_123 rfl (lv_at hl 1 rfl) ?_
                            refine lv_bipush (v := hI 10) hx hb dX6_count_124 (by decide) ?_
                            refine iv_isub hx hb dX6_count_126 ?_
                            refine lv_aload_n hx hb dX6_count_127 rfl (lv_at hl 0 rfl) ?_
                            refine iv_get (v' := .ref (ad 10 1)) hx hb hts inX6 hown hK hh.1 (ob_Model) rfl 0 (by decide) (hts _ q3_160) rfl rfl rfl dX6_count_128 ?_
                            refine iv_iconst hx hb dX6_count_131 ?_
                            refine iv_iald hx hb hK hh.1 (ia_10_1) ⟨by decide, by decide⟩ (v := (P 1 1)) (congrArg (fun z => z 1 1) (gset_at _ _ _)) dX6_count_132 ?_
                            have hm40 : hIn (P 1 1) := hIn_rd hh.2.1 (gset_at _ _ _) (by decide)
                            obtain ⟨g41, h⟩ := h
                            refine iv_icmp_ge (tgt := 150) hx hb g41 hm40 dX6_count_133 (by decide) (fun c42 => ?_) (fun c42 => ?_)
                            · have h := h.2 c42
                              refine iv_ldc (n := (-1000004)) hx hb (by decide) hown (hts _ q4_33) dX6_count_150 ?_
                              exact iv_iret E hh (by unfold v_X6_count; rw [if_neg c1, if_neg c3, if_neg c6, if_neg c8, if_neg c10, if_neg c13, if_neg c16, if_neg c18, if_neg c20, if_neg c22, if_neg c27, if_neg c33, if_pos c39, if_neg c42]) (by rw [← show (-1000004) = v_X6_count P what from (by unfold v_X6_count; rw [if_neg c1, if_neg c3, if_neg c6, if_neg c8, if_neg c10, if_neg c13, if_neg c16, if_neg c18, if_neg c20, if_neg c22, if_neg c27, if_neg c33, if_pos c39, if_neg c42])]; exact ⟨by decide, by decide⟩) (by unfold m_X6_count; rw [if_neg c1, if_neg c3, if_neg c6, if_neg c8, if_neg c10, if_neg c13, if_neg c16, if_neg c18, if_neg c20, if_neg c22, if_neg c27, if_neg c33, if_pos c39, if_neg c42]) dX6_count_152
                            · have h := h.1 c42
                              refine lv_aload_n hx hb dX6_count_136 rfl (lv_at hl 0 rfl) ?_
                              refine iv_get (v' := .ref (ad 10 1)) hx hb hts inX6 hown hK hh.1 (ob_Model) rfl 0 (by decide) (hts _ q3_160) rfl rfl rfl dX6_count_137 ?_
                              refine iv_iconst hx hb dX6_count_140 ?_
                              refine lv_iload_n hx hb dX6_count_141 rfl (lv_at hl 1 rfl) ?_
                              refine iv_iadd hx hb dX6_count_142 ?_
                              refine lv_bipush (v := hI 10) hx hb dX6_count_143 (by decide) ?_
                              refine iv_isub hx hb dX6_count_145 ?_
                              obtain ⟨g43, h⟩ := h
                              refine iv_iald hx hb hK hh.1 (ia_10_1) g43 (v := (P 1 ((2 + what) - 10))) (congrArg (fun z => z 1 ((2 + what) - 10)) (gset_at _ _ _)) dX6_count_146 ?_
                              have hm44 : hIn (P 1 ((2 + what) - 10)) := hIn_rd hh.2.1 (gset_at _ _ _) (by decide)
                              refine lv_goto (tgt := 152) hx hb dX6_count_147 (by decide) ?_
                              exact iv_iret E hh (by unfold v_X6_count; rw [if_neg c1, if_neg c3, if_neg c6, if_neg c8, if_neg c10, if_neg c13, if_neg c16, if_neg c18, if_neg c20, if_neg c22, if_neg c27, if_neg c33, if_pos c39, if_pos c42]) (by rw [← show (P 1 ((2 + what) - 10)) = v_X6_count P what from (by unfold v_X6_count; rw [if_neg c1, if_neg c3, if_neg c6, if_neg c8, if_neg c10, if_neg c13, if_neg c16, if_neg c18, if_neg c20, if_neg c22, if_neg c27, if_neg c33, if_pos c39, if_pos c42])]; exact hm44) (by unfold m_X6_count; rw [if_neg c1, if_neg c3, if_neg c6, if_neg c8, if_neg c10, if_neg c13, if_neg c16, if_neg c18, if_neg c20, if_neg c22, if_neg c27, if_neg c33, if_pos c39, if_pos c42]) dX6_count_152
                          · have h := h.2 c39
                            refine lv_tableOut (tgt := 153) hx hb dX6_count_1 (by rw [hI_toInt h_what]; exact to_X6_count_1 _ c1 c3 c6 c8 c10 c13 c16 c18 c20 c22 c27 c33 c39) (by decide) ?_
                            refine lv_iload_n hx hb dX6_count_153 rfl (lv_at hl 1 rfl) ?_
                            refine lv_bipush (v := hI 20) hx hb dX6_count_154 (by decide) ?_
                            refine lv_bipush (v := hI 21) hx hb dX6_count_156 (by decide) ?_
                            refine iv_ki (iv_rS (As := [.int (hI what), .int (hI 20), .int (hI 21)]) (rest := []) E hh (ok_X6_in l hinj (gset S 10 P) what 20 21 h_what ⟨by decide, by decide⟩ ⟨by decide, by decide⟩) cb_X6_in q3_216 rfl rfl ⟨Nat.le_of_ble_eq_true rfl, Nat.le_of_ble_eq_true rfl⟩ rfl hl.1 rfl (Nat.le_of_ble_eq_true rfl) dX6_count_158 ⟨Nat.zero_le _, Nat.zero_le _⟩) hh (fun hc45 H locs hh => ?_)
                            refine iv_if_eq (tgt := 178) hx hb hc45 dX6_count_161 (by decide) (fun c46 => ?_) (fun c46 => ?_)
                            · have h := h.1 c46
                              refine iv_ldc (n := (-1000001)) hx hb (by decide) hown (hts _ q3_219) dX6_count_178 ?_
                              exact iv_iret E hh (by unfold v_X6_count; rw [if_neg c1, if_neg c3, if_neg c6, if_neg c8, if_neg c10, if_neg c13, if_neg c16, if_neg c18, if_neg c20, if_neg c22, if_neg c27, if_neg c33, if_neg c39, if_pos c46]) (by rw [← show (-1000001) = v_X6_count P what from (by unfold v_X6_count; rw [if_neg c1, if_neg c3, if_neg c6, if_neg c8, if_neg c10, if_neg c13, if_neg c16, if_neg c18, if_neg c20, if_neg c22, if_neg c27, if_neg c33, if_neg c39, if_pos c46])]; exact ⟨by decide, by decide⟩) (by unfold m_X6_count; rw [if_neg c1, if_neg c3, if_neg c6, if_neg c8, if_neg c10, if_neg c13, if_neg c16, if_neg c18, if_neg c20, if_neg c22, if_neg c27, if_neg c33, if_neg c39, if_pos c46]) dX6_count_180
                            · have h := h.2 c46
                              refine lv_aload_n hx hb dX6_count_164 rfl (lv_at hl 0 rfl) ?_
                              refine iv_get (v' := .ref (ad 10 1)) hx hb hts inX6 hown hK hh.1 (ob_Model) rfl 0 (by decide) (hts _ q3_160) rfl rfl rfl dX6_count_165 ?_
                              refine iv_iconst hx hb dX6_count_168 ?_
                              refine lv_iload_n hx hb dX6_count_169 rfl (lv_at hl 1 rfl) ?_
                              refine iv_iadd hx hb dX6_count_170 ?_
                              refine lv_bipush (v := hI 20) hx hb dX6_count_171 (by decide) ?_
                              refine iv_isub hx hb dX6_count_173 ?_
                              obtain ⟨g47, h⟩ := h
                              refine iv_iald hx hb hK hh.1 (ia_10_1) g47 (v := (P 1 ((5 + what) - 20))) (congrArg (fun z => z 1 ((5 + what) - 20)) (gset_at _ _ _)) dX6_count_174 ?_
                              have hm48 : hIn (P 1 ((5 + what) - 20)) := hIn_rd hh.2.1 (gset_at _ _ _) (by decide)
                              refine lv_goto (tgt := 180) hx hb dX6_count_175 (by decide) ?_
                              exact iv_iret E hh (by unfold v_X6_count; rw [if_neg c1, if_neg c3, if_neg c6, if_neg c8, if_neg c10, if_neg c13, if_neg c16, if_neg c18, if_neg c20, if_neg c22, if_neg c27, if_neg c33, if_neg c39, if_neg c46]) (by rw [← show (P 1 ((5 + what) - 20)) = v_X6_count P what from (by unfold v_X6_count; rw [if_neg c1, if_neg c3, if_neg c6, if_neg c8, if_neg c10, if_neg c13, if_neg c16, if_neg c18, if_neg c20, if_neg c22, if_neg c27, if_neg c33, if_neg c39, if_neg c46])]; exact hm48) (by unfold m_X6_count; rw [if_neg c1, if_neg c3, if_neg c6, if_neg c8, if_neg c10, if_neg c13, if_neg c16, if_neg c18, if_neg c20, if_neg c22, if_neg c27, if_neg c33, if_neg c39, if_neg c46]) dX6_count_180
set_option maxHeartbeats 4000000 in
set_option maxRecDepth 100000 in
theorem ok_X6_undo (l : Launch) (hinj : hInj ad) (S : hS) (P : hGM) (hP : S 10 = P) (hp : p_X6_undo P) : hMi D ad cI cJ cF l yX6_undo cX6_undo 2 (some .int) ({ frames := 0, cells := 0, slots := 0, locals := 0 } : Room) [.ref (ad 10 0)] S (v_X6_undo P) (gset S 10 (m_X6_undo P)) := by
  refine hOf (S := S) l hinj (by decide +kernel) (Nat.le_of_ble_eq_true rfl) (fun p e s m args below meth c E => ?_)
  obtain ⟨hx, hb, hml, hown, hts, hK, hN, -, hr, hlk⟩ := id E
  have hown : s.vm.findClass RX6 = some m.cls := hown
  have r22 : ∀ (y1 : Int) (P1 : hGM), hIn y1 → ((∀ (i : Nat) (k : Int), i < 100 → hIn (P1 i k)) → ((y1 < 273 → ((0 ≤ ((273 * (P1 0 3)) + y1) ∧ ((273 * (P1 0 3)) + y1) < 1092) ∧ ((0 ≤ y1 ∧ y1 < 273) ∧ (hAt D ad cI cJ cF p l e ({ frames := 0, cells := 0, slots := 0, locals := 0 } : Room) s m args below meth c (MQ below (hQi D ad cI cJ cF (v_X6_undo P) (gset S 10 (m_X6_undo P))) args s 0 0 (hAd ad)) 2 22 [(0, .ref (ad 10 0)), (1, .int (hI (y1 + 1)))] (gset S 10 (aset P1 1 y1 (P1 2 ((273 * (P1 0 3)) + y1)))))))) ∧ (¬ y1 < 273 → ((P1 0 3) = v_X6_undo P ∧ P1 = m_X6_undo P)))) → (hAt D ad cI cJ cF p l e ({ frames := 0, cells := 0, slots := 0, locals := 0 } : Room) s m args below meth c (MQ below (hQi D ad cI cJ cF (v_X6_undo P) (gset S 10 (m_X6_undo P))) args s 0 0 (hAd ad)) 2 22 [(0, .ref (ad 10 0)), (1, .int (hI y1))] (gset S 10 P1)) := by
    intro y1 P1 h_y1 h H locs ls hh hl
    have h := h (fun i k hi => hIn_rd hh.2.1 (gset_at _ _ _) hi)
    refine lv_iload_n hx hb dX6_undo_22 rfl (lv_at hl 1 rfl) ?_
    refine lv_sipush (v := hI 273) hx hb dX6_undo_23 (by decide) ?_
    refine iv_icmp_ge (tgt := 56) hx hb h_y1 ⟨by decide, by decide⟩ dX6_undo_26 (by decide) (fun c1 => ?_) (fun c1 => ?_)
    · have h := h.2 c1
      refine lv_aload_n hx hb dX6_undo_56 rfl (lv_at hl 0 rfl) ?_
      refine iv_get (v' := .int (hI (P1 0 3))) hx hb hts inX6 hown hK hh.1 (ob_Model) rfl 3 (by decide) (hts _ q3_163) rfl rfl (congrArg (fun z => Value.int (hI (z 0 3))) (gset_at _ _ _)) dX6_undo_57 ?_
      have hm2 : hIn (P1 0 3) := hIn_rd hh.2.1 (gset_at _ _ _) (by decide)
      exact iv_iret E hh h.1 (by rw [← h.1]; exact hm2) (by rw [← h.2]) dX6_undo_60
    · have h := h.1 c1
      refine lv_aload_n hx hb dX6_undo_29 rfl (lv_at hl 0 rfl) ?_
      refine iv_get (v' := .ref (ad 10 1)) hx hb hts inX6 hown hK hh.1 (ob_Model) rfl 0 (by decide) (hts _ q3_160) rfl rfl rfl dX6_undo_30 ?_
      refine lv_iload_n hx hb dX6_undo_33 rfl (lv_at hl 1 rfl) ?_
      refine lv_aload_n hx hb dX6_undo_34 rfl (lv_at hl 0 rfl) ?_
      refine iv_get (v' := .ref (ad 10 2)) hx hb hts inX6 hown hK hh.1 (ob_Model) rfl 1 (by decide) (hts _ q3_161) rfl rfl rfl dX6_undo_35 ?_
      refine lv_sipush (v := hI 273) hx hb dX6_undo_38 (by decide) ?_
      refine lv_aload_n hx hb dX6_undo_41 rfl (lv_at hl 0 rfl) ?_
      refine iv_get (v' := .int (hI (P1 0 3))) hx hb hts inX6 hown hK hh.1 (ob_Model) rfl 3 (by decide) (hts _ q3_163) rfl rfl (congrArg (fun z => Value.int (hI (z 0 3))) (gset_at _ _ _)) dX6_undo_42 ?_
      have hm3 : hIn (P1 0 3) := hIn_rd hh.2.1 (gset_at _ _ _) (by decide)
      refine iv_imul hx hb dX6_undo_45 ?_
      refine lv_iload_n hx hb dX6_undo_46 rfl (lv_at hl 1 rfl) ?_
      refine iv_iadd hx hb dX6_undo_47 ?_
      obtain ⟨g4, h⟩ := h
      refine iv_iald hx hb hK hh.1 (ia_10_2) g4 (v := (P1 2 ((273 * (P1 0 3)) + y1))) (congrArg (fun z => z 2 ((273 * (P1 0 3)) + y1)) (gset_at _ _ _)) dX6_undo_48 ?_
      have hm5 : hIn (P1 2 ((273 * (P1 0 3)) + y1)) := hIn_rd hh.2.1 (gset_at _ _ _) (by decide)
      obtain ⟨g6, h⟩ := h
      refine iv_iast (S' := (gset S 10 (aset P1 1 y1 (P1 2 ((273 * (P1 0 3)) + y1))))) hx hb hK hinj hh (ia_10_1) g6 hm5 (by rw [show (gset S 10 P1) 10 = P1 from (gset_at _ _ _)]; exact (gset_gset _ _ _ _)) dX6_undo_49 (fun H locs hh => ?_)
      refine iv_iinc (lv' := [(1, .int (hI (y1 + 1))), (0, .ref (ad 10 0))]) hx hb dX6_undo_50 hl (k := 1) rfl (v := (y1 + 1)) rfl (by decide) rfl (fun ls hl => ?_)
      refine lv_goto (tgt := 22) hx hb dX6_undo_53 (by decide) ?_
      exact h H _ ls hh (lv_sub hl [1, 0] rfl)
  intro H locs ls hh hl
  have hl : lv_has ls 2 [(0, .ref (ad 10 0))] := hl
  replace hh : hH D ad cI cJ cF (gset S 10 P) s H locs := by rw [← can1 hP]; exact hh
  have h := x_X6_undo P (fun i k hi => hIn_rd hh.2.1 (gset_at _ _ _) hi) hp (fun y1 P1 => (hAt D ad cI cJ cF p l e ({ frames := 0, cells := 0, slots := 0, locals := 0 } : Room) s m args below meth c (MQ below (hQi D ad cI cJ cF (v_X6_undo P) (gset S 10 (m_X6_undo P))) args s 0 0 (hAd ad)) 2 22 [(0, .ref (ad 10 0)), (1, .int (hI y1))] (gset S 10 P1))) (fun r P1 => (r = v_X6_undo P ∧ P1 = m_X6_undo P)) r22 ⟨rfl, rfl⟩
  refine lv_aload_n hx hb dX6_undo_0 rfl (lv_at hl 0 rfl) ?_
  refine iv_get (v' := .int (hI (P 0 3))) hx hb hts inX6 hown hK hh.1 (ob_Model) rfl 3 (by decide) (hts _ q3_163) rfl rfl (congrArg (fun z => Value.int (hI (z 0 3))) (gset_at _ _ _)) dX6_undo_1 ?_
  have hm7 : hIn (P 0 3) := hIn_rd hh.2.1 (gset_at _ _ _) (by decide)
  refine iv_if_ne (tgt := 10) hx hb hm7 dX6_undo_4 (by decide) (fun c8 => ?_) (fun c8 => ?_)
  · have h := h.2 c8
    refine lv_aload_n hx hb dX6_undo_10 rfl (lv_at hl 0 rfl) ?_
    refine lv_dup hx hb dX6_undo_11 rfl ?_
    refine iv_get (v' := .int (hI (P 0 3))) hx hb hts inX6 hown hK hh.1 (ob_Model) rfl 3 (by decide) (hts _ q3_163) rfl rfl (congrArg (fun z => Value.int (hI (z 0 3))) (gset_at _ _ _)) dX6_undo_12 ?_
    have hm9 : hIn (P 0 3) := hIn_rd hh.2.1 (gset_at _ _ _) (by decide)
    refine iv_iconst hx hb dX6_undo_15 ?_
    refine iv_isub hx hb dX6_undo_16 ?_
    obtain ⟨g10, h⟩ := h
    refine iv_put (S' := (gset S 10 (aset P 0 3 ((P 0 3) - 1)))) (ty := .int) hx hb hts inX6 tyX6 tyX6_ok nmX6 hown hK hinj hh (by decide) un_Model (Or.inl rfl) (ob_Model) rfl 3 (by decide) (hts _ q3_163) rfl rfl (by decide +kernel) rfl rfl (Nat.le_of_ble_eq_true rfl) (pu_Model_pasts) (Or.inl g10) (by rw [show (gset S 10 P) 10 = P from (gset_at _ _ _)]; exact (gset_gset _ _ _ _)) dX6_undo_17 (fun H locs hh => ?_)
    refine iv_iconst hx hb dX6_undo_20 ?_
    refine lv_istore_n (lv' := [(1, .int (hI 0)), (0, .ref (ad 10 0))]) hx hb dX6_undo_21 rfl hl (by decide) rfl (fun ls hl => ?_)
    exact h H _ ls hh (lv_sub hl [1, 0] rfl)
  · have h := h.1 c8
    refine iv_ldc (n := (-1000002)) hx hb (by decide) hown (hts _ q4_12) dX6_undo_7 ?_
    exact iv_iret E hh h.1 (by rw [← h.1]; exact ⟨by decide, by decide⟩) (by rw [← h.2]) dX6_undo_9
set_option maxHeartbeats 4000000 in
set_option maxRecDepth 100000 in
theorem ok_X6_type (l : Launch) (hinj : hInj ad) (S : hS) (P : hGM) (hP : S 10 = P) (character : Int) (h_character : hIn character) (hp : p_X6_type P character) : hMi D ad cI cJ cF l yX6_type cX6_type 2 (some .int) ({ frames := 1, cells := 0, slots := 0, locals := 22 } : Room) [.ref (ad 10 0), .int (hI character)] S (v_X6_type P character) (gset S 10 (m_X6_type P character)) := by
  refine hOf (S := S) l hinj (by decide +kernel) (Nat.le_of_ble_eq_true rfl) (fun p e s m args below meth c E => ?_)
  obtain ⟨hx, hb, hml, hown, hts, hK, hN, -, hr, hlk⟩ := id E
  have hown : s.vm.findClass RX6 = some m.cls := hown
  intro H locs ls hh hl
  have hl : lv_has ls 2 [(0, .ref (ad 10 0)), (1, .int (hI character))] := hl
  replace hh : hH D ad cI cJ cF (gset S 10 P) s H locs := by rw [← can1 hP]; exact hh
  have h := hp
  unfold p_X6_type at h
  refine lv_iload_n hx hb dX6_type_0 rfl (lv_at hl 1 rfl) ?_
  refine lv_bipush (v := hI 32) hx hb dX6_type_1 (by decide) ?_
  refine lv_bipush (v := hI 126) hx hb dX6_type_3 (by decide) ?_
  refine iv_ki (iv_rS (As := [.int (hI character), .int (hI 32), .int (hI 126)]) (rest := []) E hh (ok_X6_in l hinj (gset S 10 P) character 32 126 h_character ⟨by decide, by decide⟩ ⟨by decide, by decide⟩) cb_X6_in q3_216 rfl rfl ⟨Nat.le_of_ble_eq_true rfl, Nat.le_of_ble_eq_true rfl⟩ rfl hl.1 rfl (Nat.le_of_ble_eq_true rfl) dX6_type_5 ⟨Nat.zero_le _, Nat.zero_le _⟩) hh (fun hc1 H locs hh => ?_)
  refine iv_if_ne (tgt := 14) hx hb hc1 dX6_type_8 (by decide) (fun c2 => ?_) (fun c2 => ?_)
  · have h := h.2 c2
    refine lv_aload_n hx hb dX6_type_14 rfl (lv_at hl 0 rfl) ?_
    refine iv_get (v' := .int (hI (P 0 6))) hx hb hts inX6 hown hK hh.1 (ob_Model) rfl 6 (by decide) (hts _ q3_166) rfl rfl (congrArg (fun z => Value.int (hI (z 0 6))) (gset_at _ _ _)) dX6_type_15 ?_
    have hm3 : hIn (P 0 6) := hIn_rd hh.2.1 (gset_at _ _ _) (by decide)
    refine lv_bipush (v := hI 60) hx hb dX6_type_18 (by decide) ?_
    refine iv_icmp_ne (tgt := 26) hx hb hm3 ⟨by decide, by decide⟩ dX6_type_20 (by decide) (fun c4 => ?_) (fun c4 => ?_)
    · have h := h.2 c4
      refine lv_aload_n hx hb dX6_type_26 rfl (lv_at hl 0 rfl) ?_
      refine iv_get (v' := .ref (ad 10 4)) hx hb hts inX6 hown hK hh.1 (ob_Model) rfl 5 (by decide) (hts _ q3_165) rfl rfl rfl dX6_type_27 ?_
      refine lv_aload_n hx hb dX6_type_30 rfl (lv_at hl 0 rfl) ?_
      refine iv_get (v' := .int (hI (P 0 6))) hx hb hts inX6 hown hK hh.1 (ob_Model) rfl 6 (by decide) (hts _ q3_166) rfl rfl (congrArg (fun z => Value.int (hI (z 0 6))) (gset_at _ _ _)) dX6_type_31 ?_
      have hm5 : hIn (P 0 6) := hIn_rd hh.2.1 (gset_at _ _ _) (by decide)
      refine lv_iload_n hx hb dX6_type_34 rfl (lv_at hl 1 rfl) ?_
      obtain ⟨g6, h⟩ := h
      refine iv_iast (S' := (gset S 10 (aset P 4 (P 0 6) character))) hx hb hK hinj hh (ia_10_4) g6 h_character (by rw [show (gset S 10 P) 10 = P from (gset_at _ _ _)]; exact (gset_gset _ _ _ _)) dX6_type_35 (fun H locs hh => ?_)
      refine lv_aload_n hx hb dX6_type_36 rfl (lv_at hl 0 rfl) ?_
      refine lv_dup hx hb dX6_type_37 rfl ?_
      refine iv_get (v' := .int (hI ((aset P 4 (P 0 6) character) 0 6))) hx hb hts inX6 hown hK hh.1 (ob_Model) rfl 6 (by decide) (hts _ q3_166) rfl rfl (congrArg (fun z => Value.int (hI (z 0 6))) (gset_at _ _ _)) dX6_type_38 ?_
      have hm7 : hIn ((aset P 4 (P 0 6) character) 0 6) := hIn_rd hh.2.1 (gset_at _ _ _) (by decide)
      refine iv_iconst hx hb dX6_type_41 ?_
      refine iv_iadd hx hb dX6_type_42 ?_
      obtain ⟨g8, h⟩ := h
      refine iv_put (S' := (gset S 10 (aset (aset P 4 (P 0 6) character) 0 6 (((aset P 4 (P 0 6) character) 0 6) + 1)))) (ty := .int) hx hb hts inX6 tyX6 tyX6_ok nmX6 hown hK hinj hh (by decide) un_Model (Or.inl rfl) (ob_Model) rfl 6 (by decide) (hts _ q3_166) rfl rfl (by decide +kernel) rfl rfl (Nat.le_of_ble_eq_true rfl) (pu_Model_typed) (Or.inl g8) (by rw [show (gset S 10 (aset P 4 (P 0 6) character)) 10 = (aset P 4 (P 0 6) character) from (gset_at _ _ _)]; exact (gset_gset _ _ _ _)) dX6_type_43 (fun H locs hh => ?_)
      refine lv_aload_n hx hb dX6_type_46 rfl (lv_at hl 0 rfl) ?_
      refine iv_get (v' := .int (hI ((aset (aset P 4 (P 0 6) character) 0 6 (((aset P 4 (P 0 6) character) 0 6) + 1)) 0 6))) hx hb hts inX6 hown hK hh.1 (ob_Model) rfl 6 (by decide) (hts _ q3_166) rfl rfl (congrArg (fun z => Value.int (hI (z 0 6))) (gset_at _ _ _)) dX6_type_47 ?_
      have hm9 : hIn ((aset (aset P 4 (P 0 6) character) 0 6 (((aset P 4 (P 0 6) character) 0 6) + 1)) 0 6) := hIn_rd hh.2.1 (gset_at _ _ _) (by decide)
      exact iv_iret E hh (by unfold v_X6_type; rw [if_neg c2, if_neg c4]) (by rw [← show ((aset (aset P 4 (P 0 6) character) 0 6 (((aset P 4 (P 0 6) character) 0 6) + 1)) 0 6) = v_X6_type P character from (by unfold v_X6_type; rw [if_neg c2, if_neg c4])]; exact hm9) (by unfold m_X6_type; rw [if_neg c2, if_neg c4]) dX6_type_50
    · have h := h.1 c4
      refine iv_ldc (n := (-1000003)) hx hb (by decide) hown (hts _ q3_220) dX6_type_23 ?_
      exact iv_iret E hh (by unfold v_X6_type; rw [if_neg c2, if_pos c4]) (by rw [← show (-1000003) = v_X6_type P character from (by unfold v_X6_type; rw [if_neg c2, if_pos c4])]; exact ⟨by decide, by decide⟩) (by unfold m_X6_type; rw [if_neg c2, if_pos c4]) dX6_type_25
  · have h := h.1 c2
    refine iv_ldc (n := (-1000001)) hx hb (by decide) hown (hts _ q3_219) dX6_type_11 ?_
    exact iv_iret E hh (by unfold v_X6_type; rw [if_pos c2]) (by rw [← show (-1000001) = v_X6_type P character from (by unfold v_X6_type; rw [if_pos c2])]; exact ⟨by decide, by decide⟩) (by unfold m_X6_type; rw [if_pos c2]) dX6_type_13
set_option maxHeartbeats 4000000 in
set_option maxRecDepth 100000 in
theorem ok_X6_clearText (l : Launch) (hinj : hInj ad) (S : hS) (P : hGM) (hP : S 10 = P) : hMi D ad cI cJ cF l yX6_clearText cX6_clearText 2 (some .int) ({ frames := 0, cells := 0, slots := 0, locals := 0 } : Room) [.ref (ad 10 0)] S (v_X6_clearText P) (gset S 10 (m_X6_clearText P)) := by
  refine hOf (S := S) l hinj (by decide +kernel) (Nat.le_of_ble_eq_true rfl) (fun p e s m args below meth c E => ?_)
  obtain ⟨hx, hb, hml, hown, hts, hK, hN, -, hr, hlk⟩ := id E
  have hown : s.vm.findClass RX6 = some m.cls := hown
  intro H locs ls hh hl
  have hl : lv_has ls 2 [(0, .ref (ad 10 0))] := hl
  replace hh : hH D ad cI cJ cF (gset S 10 P) s H locs := by rw [← can1 hP]; exact hh
  refine lv_aload_n hx hb dX6_clearText_0 rfl (lv_at hl 0 rfl) ?_
  refine iv_get (v' := .int (hI (P 0 6))) hx hb hts inX6 hown hK hh.1 (ob_Model) rfl 6 (by decide) (hts _ q3_166) rfl rfl (congrArg (fun z => Value.int (hI (z 0 6))) (gset_at _ _ _)) dX6_clearText_1 ?_
  have hm1 : hIn (P 0 6) := hIn_rd hh.2.1 (gset_at _ _ _) (by decide)
  refine lv_istore_n (lv' := [(1, .int (hI (P 0 6))), (0, .ref (ad 10 0))]) hx hb dX6_clearText_4 rfl hl (by decide) rfl (fun ls hl => ?_)
  refine lv_aload_n hx hb dX6_clearText_5 rfl (lv_at hl 1 rfl) ?_
  refine iv_iconst hx hb dX6_clearText_6 ?_
  refine iv_put (S' := (gset S 10 (aset P 0 6 0))) (ty := .int) hx hb hts inX6 tyX6 tyX6_ok nmX6 hown hK hinj hh (by decide) un_Model (Or.inl rfl) (ob_Model) rfl 6 (by decide) (hts _ q3_166) rfl rfl (by decide +kernel) rfl rfl (Nat.le_of_ble_eq_true rfl) (pu_Model_typed) (Or.inl ⟨by decide, by decide⟩) (by rw [show (gset S 10 P) 10 = P from (gset_at _ _ _)]; exact (gset_gset _ _ _ _)) dX6_clearText_7 (fun H locs hh => ?_)
  refine lv_iload_n hx hb dX6_clearText_10 rfl (lv_at hl 0 rfl) ?_
  exact iv_iret E hh rfl (by rw [← show (P 0 6) = v_X6_clearText P from rfl]; exact hm1) rfl dX6_clearText_11
set_option maxHeartbeats 4000000 in
set_option maxRecDepth 100000 in
theorem ok_X6_isAt (l : Launch) (hinj : hInj ad) (S : hS) (P : hGM) (hP : S 10 = P) (low : Int) (high : Int) (h_low : hIn low) (h_high : hIn high) (hp : p_X6_isAt P low high) : hMi D ad cI cJ cF l yX6_isAt cX6_isAt 3 (some .boolean) ({ frames := 1, cells := 0, slots := 0, locals := 22 } : Room) [.ref (ad 10 0), .int (hI low), .int (hI high)] S (v_X6_isAt P low high) S := by
  refine hOf (S := S) l hinj (by decide +kernel) (Nat.le_of_ble_eq_true rfl) (fun p e s m args below meth c E => ?_)
  obtain ⟨hx, hb, hml, hown, hts, hK, hN, -, hr, hlk⟩ := id E
  have hown : s.vm.findClass RX6 = some m.cls := hown
  intro H locs ls hh hl
  have hl : lv_has ls 3 [(0, .ref (ad 10 0)), (1, .int (hI low)), (2, .int (hI high))] := hl
  have h := hp
  unfold p_X6_isAt at h
  refine lv_aload_n hx hb dX6_isAt_0 rfl (lv_at hl 0 rfl) ?_
  refine iv_get (v' := .int (hI (P 0 10))) hx hb hts inX6 hown hK hh.1 (ob_Model) rfl 10 (by decide) (hts _ q3_170) rfl rfl (congrArg (fun z => Value.int (hI (z 0 10))) hP) dX6_isAt_1 ?_
  have hm1 : hIn (P 0 10) := hIn_rd hh.2.1 hP (by decide)
  refine lv_aload_n hx hb dX6_isAt_4 rfl (lv_at hl 0 rfl) ?_
  refine iv_get (v' := .int (hI (P 0 6))) hx hb hts inX6 hown hK hh.1 (ob_Model) rfl 6 (by decide) (hts _ q3_166) rfl rfl (congrArg (fun z => Value.int (hI (z 0 6))) hP) dX6_isAt_5 ?_
  have hm2 : hIn (P 0 6) := hIn_rd hh.2.1 hP (by decide)
  refine iv_icmp_ge (tgt := 32) hx hb hm1 hm2 dX6_isAt_8 (by decide) (fun c3 => ?_) (fun c3 => ?_)
  · have h := h.2 c3
    refine iv_iconst hx hb dX6_isAt_32 ?_
    exact iv_bret E hh (by unfold v_X6_isAt; rw [if_neg c3]) (by rw [← show 0 = v_X6_isAt P low high from (by unfold v_X6_isAt; rw [if_neg c3])]; exact (Or.inl rfl)) rfl dX6_isAt_33
  · have h := h.1 c3
    refine lv_aload_n hx hb dX6_isAt_11 rfl (lv_at hl 0 rfl) ?_
    refine iv_get (v' := .ref (ad 10 4)) hx hb hts inX6 hown hK hh.1 (ob_Model) rfl 5 (by decide) (hts _ q3_165) rfl rfl rfl dX6_isAt_12 ?_
    refine lv_aload_n hx hb dX6_isAt_15 rfl (lv_at hl 0 rfl) ?_
    refine iv_get (v' := .int (hI (P 0 10))) hx hb hts inX6 hown hK hh.1 (ob_Model) rfl 10 (by decide) (hts _ q3_170) rfl rfl (congrArg (fun z => Value.int (hI (z 0 10))) hP) dX6_isAt_16 ?_
    have hm4 : hIn (P 0 10) := hIn_rd hh.2.1 hP (by decide)
    obtain ⟨g5, h⟩ := h
    refine iv_iald hx hb hK hh.1 (ia_10_4) g5 (v := (P 4 (P 0 10))) (congrArg (fun z => z 4 (P 0 10)) hP) dX6_isAt_19 ?_
    have hm6 : hIn (P 4 (P 0 10)) := hIn_rd hh.2.1 hP (by decide)
    refine lv_iload_n hx hb dX6_isAt_20 rfl (lv_at hl 1 rfl) ?_
    refine lv_iload_n hx hb dX6_isAt_21 rfl (lv_at hl 2 rfl) ?_
    refine iv_ki (iv_rS (As := [.int (hI (P 4 (P 0 10))), .int (hI low), .int (hI high)]) (rest := []) E hh (ok_X6_in l hinj S (P 4 (P 0 10)) low high hm6 h_low h_high) cb_X6_in q3_216 rfl rfl ⟨Nat.le_of_ble_eq_true rfl, Nat.le_of_ble_eq_true rfl⟩ rfl hl.1 rfl (Nat.le_of_ble_eq_true rfl) dX6_isAt_22 ⟨Nat.zero_le _, Nat.zero_le _⟩) hh (fun hc7 H locs hh => ?_)
    refine iv_if_eq (tgt := 32) hx hb hc7 dX6_isAt_25 (by decide) (fun c8 => ?_) (fun c8 => ?_)
    · have h := h.1 c8
      refine iv_iconst hx hb dX6_isAt_32 ?_
      exact iv_bret E hh (by unfold v_X6_isAt; rw [if_pos c3, if_pos c8]) (by rw [← show 0 = v_X6_isAt P low high from (by unfold v_X6_isAt; rw [if_pos c3, if_pos c8])]; exact (Or.inl rfl)) rfl dX6_isAt_33
    · have h := h.2 c8
      refine iv_iconst hx hb dX6_isAt_28 ?_
      refine lv_goto (tgt := 33) hx hb dX6_isAt_29 (by decide) ?_
      exact iv_bret E hh (by unfold v_X6_isAt; rw [if_pos c3, if_neg c8]) (by rw [← show 1 = v_X6_isAt P low high from (by unfold v_X6_isAt; rw [if_pos c3, if_neg c8])]; exact (Or.inr rfl)) rfl dX6_isAt_33
set_option maxHeartbeats 4000000 in
set_option maxRecDepth 100000 in
theorem ok_X6_sign (l : Launch) (hinj : hInj ad) (S : hS) (P : hGM) (hP : S 10 = P) (c1 : Int) (h_c1 : hIn c1) (hp : p_X6_sign P c1) : hMi D ad cI cJ cF l yX6_sign cX6_sign 3 (some .boolean) ({ frames := 2, cells := 0, slots := 0, locals := 44 } : Room) [.ref (ad 10 0), .int (hI c1)] S (v_X6_sign P c1) (gset S 10 (m_X6_sign P c1)) := by
  refine hOf (S := S) l hinj (by decide +kernel) (Nat.le_of_ble_eq_true rfl) (fun p e s m args below meth c E => ?_)
  obtain ⟨hx, hb, hml, hown, hts, hK, hN, -, hr, hlk⟩ := id E
  have hown : s.vm.findClass RX6 = some m.cls := hown
  intro H locs ls hh hl
  have hl : lv_has ls 3 [(0, .ref (ad 10 0)), (1, .int (hI c1))] := hl
  replace hh : hH D ad cI cJ cF (gset S 10 P) s H locs := by rw [← can1 hP]; exact hh
  have h := hp
  unfold p_X6_sign at h
  refine lv_aload_n hx hb dX6_sign_0 rfl (lv_at hl 0 rfl) ?_
  refine lv_iload_n hx hb dX6_sign_1 rfl (lv_at hl 1 rfl) ?_
  refine lv_iload_n hx hb dX6_sign_2 rfl (lv_at hl 1 rfl) ?_
  obtain ⟨g1, h⟩ := h
  refine iv_ki (iv_rV (As := [.int (hI c1), .int (hI c1)]) (rest := []) E hh (ok_X6_isAt l hinj (gset S 10 P) P (gset_at _ _ _) c1 c1 h_c1 h_c1 g1) cb_X6_isAt q4_230 rfl rfl ⟨Nat.le_of_ble_eq_true rfl, Nat.le_of_ble_eq_true rfl⟩ (ob_Model) rfl rfl rfl hl.1 rfl (Nat.le_of_ble_eq_true rfl) dX6_sign_3 ⟨Nat.zero_le _, Nat.zero_le _⟩) hh (fun hc2 H locs hh => ?_)
  refine lv_istore_n (lv' := [(2, .int (hI (v_X6_isAt P c1 c1))), (0, .ref (ad 10 0)), (1, .int (hI c1))]) hx hb dX6_sign_6 rfl hl (by decide) rfl (fun ls hl => ?_)
  refine lv_aload_n hx hb dX6_sign_7 rfl (lv_at hl 1 rfl) ?_
  refine lv_dup hx hb dX6_sign_8 rfl ?_
  refine iv_get (v' := .int (hI (P 0 10))) hx hb hts inX6 hown hK hh.1 (ob_Model) rfl 10 (by decide) (hts _ q3_170) rfl rfl (congrArg (fun z => Value.int (hI (z 0 10))) (gset_at _ _ _)) dX6_sign_9 ?_
  have hm3 : hIn (P 0 10) := hIn_rd hh.2.1 (gset_at _ _ _) (by decide)
  refine lv_iload_n hx hb dX6_sign_12 rfl (lv_at hl 0 rfl) ?_
  refine iv_if_eq (tgt := 20) hx hb hc2 dX6_sign_13 (by decide) (fun c4 => ?_) (fun c4 => ?_)
  · have h := h.1 c4
    refine iv_iconst hx hb dX6_sign_20 ?_
    refine iv_iadd hx hb dX6_sign_21 ?_
    obtain ⟨g5, h⟩ := h
    refine iv_put (S' := (gset S 10 (aset P 0 10 ((P 0 10) + 0)))) (ty := .int) hx hb hts inX6 tyX6 tyX6_ok nmX6 hown hK hinj hh (by decide) un_Model (Or.inl rfl) (ob_Model) rfl 10 (by decide) (hts _ q3_170) rfl rfl (by decide +kernel) rfl rfl (Nat.le_of_ble_eq_true rfl) (pu_Model_spot) (Or.inl g5) (by rw [show (gset S 10 P) 10 = P from (gset_at _ _ _)]; exact (gset_gset _ _ _ _)) dX6_sign_22 (fun H locs hh => ?_)
    refine lv_iload_n hx hb dX6_sign_25 rfl (lv_at hl 0 rfl) ?_
    exact iv_bret E hh (by unfold v_X6_sign; rw [if_pos c4]) (by rw [← show (v_X6_isAt P c1 c1) = v_X6_sign P c1 from (by unfold v_X6_sign; rw [if_pos c4])]; exact (z_X6_isAt P c1 c1)) (by unfold m_X6_sign; rw [if_pos c4]) dX6_sign_26
  · have h := h.2 c4
    refine iv_iconst hx hb dX6_sign_16 ?_
    refine lv_goto (tgt := 21) hx hb dX6_sign_17 (by decide) ?_
    refine iv_iadd hx hb dX6_sign_21 ?_
    obtain ⟨g6, h⟩ := h
    refine iv_put (S' := (gset S 10 (aset P 0 10 ((P 0 10) + 1)))) (ty := .int) hx hb hts inX6 tyX6 tyX6_ok nmX6 hown hK hinj hh (by decide) un_Model (Or.inl rfl) (ob_Model) rfl 10 (by decide) (hts _ q3_170) rfl rfl (by decide +kernel) rfl rfl (Nat.le_of_ble_eq_true rfl) (pu_Model_spot) (Or.inl g6) (by rw [show (gset S 10 P) 10 = P from (gset_at _ _ _)]; exact (gset_gset _ _ _ _)) dX6_sign_22 (fun H locs hh => ?_)
    refine lv_iload_n hx hb dX6_sign_25 rfl (lv_at hl 0 rfl) ?_
    exact iv_bret E hh (by unfold v_X6_sign; rw [if_neg c4]) (by rw [← show (v_X6_isAt P c1 c1) = v_X6_sign P c1 from (by unfold v_X6_sign; rw [if_neg c4])]; exact (z_X6_isAt P c1 c1)) (by unfold m_X6_sign; rw [if_neg c4]) dX6_sign_26
set_option maxHeartbeats 4000000 in
set_option maxRecDepth 100000 in
theorem ok_X6_numbered (l : Launch) (hinj : hInj ad) (S : hS) (P : hGM) (hP : S 10 = P) (which : Int) (h_which : hIn which) (hp : p_X6_numbered P which) : hMi D ad cI cJ cF l yX6_numbered cX6_numbered 3 (some .boolean) ({ frames := 2, cells := 0, slots := 0, locals := 44 } : Room) [.ref (ad 10 0), .int (hI which)] S (v_X6_numbered P which) (gset S 10 (m_X6_numbered P which)) := by
  refine hOf (S := S) l hinj (by decide +kernel) (Nat.le_of_ble_eq_true rfl) (fun p e s m args below meth c E => ?_)
  obtain ⟨hx, hb, hml, hown, hts, hK, hN, -, hr, hlk⟩ := id E
  have hown : s.vm.findClass RX6 = some m.cls := hown
  have r12 : ∀ (y2 : Int) (P1 : hGM), hIn y2 → ((∀ (i : Nat) (k : Int), i < 100 → hIn (P1 i k)) → (p_X6_isAt P1 48 57 ∧ (((v_X6_isAt P1 48 57) = 0 → (((P1 0 10) ≤ y2 → (0 = v_X6_numbered P which ∧ P1 = m_X6_numbered P which)) ∧ (¬ (P1 0 10) ≤ y2 → (1 = v_X6_numbered P which ∧ P1 = m_X6_numbered P which)))) ∧ (¬ (v_X6_isAt P1 48 57) = 0 → (hIn ((P1 0 10) - y2) ∧ ((((P1 0 10) - y2) < 4 → ((0 ≤ which ∧ which < 3) ∧ ((0 ≤ (P1 0 10) ∧ (P1 0 10) < 60) ∧ (hIn (((10 * (P1 7 which)) + (P1 4 (P1 0 10))) - 48) ∧ (hIn (((aset P1 7 which (((10 * (P1 7 which)) + (P1 4 (P1 0 10))) - 48)) 0 10) + 1) ∧ (hAt D ad cI cJ cF p l e ({ frames := 2, cells := 0, slots := 0, locals := 44 } : Room) s m args below meth c (MQ below (hQi D ad cI cJ cF (v_X6_numbered P which) (gset S 10 (m_X6_numbered P which))) args s 0 0 (hAd ad)) 3 12 [(0, .ref (ad 10 0)), (1, .int (hI which)), (2, .int (hI y2))] (gset S 10 (aset (aset P1 7 which (((10 * (P1 7 which)) + (P1 4 (P1 0 10))) - 48)) 0 10 (((aset P1 7 which (((10 * (P1 7 which)) + (P1 4 (P1 0 10))) - 48)) 0 10) + 1))))))))) ∧ (¬ ((P1 0 10) - y2) < 4 → (((P1 0 10) ≤ y2 → (0 = v_X6_numbered P which ∧ P1 = m_X6_numbered P which)) ∧ (¬ (P1 0 10) ≤ y2 → (1 = v_X6_numbered P which ∧ P1 = m_X6_numbered P which)))))))))) → (hAt D ad cI cJ cF p l e ({ frames := 2, cells := 0, slots := 0, locals := 44 } : Room) s m args below meth c (MQ below (hQi D ad cI cJ cF (v_X6_numbered P which) (gset S 10 (m_X6_numbered P which))) args s 0 0 (hAd ad)) 3 12 [(0, .ref (ad 10 0)), (1, .int (hI which)), (2, .int (hI y2))] (gset S 10 P1)) := by
    intro y2 P1 h_y2 h H locs ls hh hl
    have h := h (fun i k hi => hIn_rd hh.2.1 (gset_at _ _ _) hi)
    refine lv_aload_n hx hb dX6_numbered_12 rfl (lv_at hl 0 rfl) ?_
    refine lv_bipush (v := hI 48) hx hb dX6_numbered_13 (by decide) ?_
    refine lv_bipush (v := hI 57) hx hb dX6_numbered_15 (by decide) ?_
    obtain ⟨g1, h⟩ := h
    refine iv_ki (iv_rV (As := [.int (hI 48), .int (hI 57)]) (rest := []) E hh (ok_X6_isAt l hinj (gset S 10 P1) P1 (gset_at _ _ _) 48 57 ⟨by decide, by decide⟩ ⟨by decide, by decide⟩ g1) cb_X6_isAt q4_230 rfl rfl ⟨Nat.le_of_ble_eq_true rfl, Nat.le_of_ble_eq_true rfl⟩ (ob_Model) rfl rfl rfl hl.1 rfl (Nat.le_of_ble_eq_true rfl) dX6_numbered_17 ⟨Nat.zero_le _, Nat.zero_le _⟩) hh (fun hc2 H locs hh => ?_)
    refine iv_if_eq (tgt := 74) hx hb hc2 dX6_numbered_20 (by decide) (fun c3 => ?_) (fun c3 => ?_)
    · have h := h.1 c3
      refine lv_aload_n hx hb dX6_numbered_74 rfl (lv_at hl 0 rfl) ?_
      refine iv_get (v' := .int (hI (P1 0 10))) hx hb hts inX6 hown hK hh.1 (ob_Model) rfl 10 (by decide) (hts _ q3_170) rfl rfl (congrArg (fun z => Value.int (hI (z 0 10))) (gset_at _ _ _)) dX6_numbered_75 ?_
      have hm4 : hIn (P1 0 10) := hIn_rd hh.2.1 (gset_at _ _ _) (by decide)
      refine lv_iload_n hx hb dX6_numbered_78 rfl (lv_at hl 2 rfl) ?_
      refine iv_icmp_le (tgt := 86) hx hb hm4 h_y2 dX6_numbered_79 (by decide) (fun c5 => ?_) (fun c5 => ?_)
      · have h := h.1 c5
        refine iv_iconst hx hb dX6_numbered_86 ?_
        exact iv_bret E hh h.1 (by rw [← h.1]; exact (Or.inl rfl)) (by rw [← h.2]) dX6_numbered_87
      · have h := h.2 c5
        refine iv_iconst hx hb dX6_numbered_82 ?_
        refine lv_goto (tgt := 87) hx hb dX6_numbered_83 (by decide) ?_
        exact iv_bret E hh h.1 (by rw [← h.1]; exact (Or.inr rfl)) (by rw [← h.2]) dX6_numbered_87
    · have h := h.2 c3
      refine lv_aload_n hx hb dX6_numbered_23 rfl (lv_at hl 0 rfl) ?_
      refine iv_get (v' := .int (hI (P1 0 10))) hx hb hts inX6 hown hK hh.1 (ob_Model) rfl 10 (by decide) (hts _ q3_170) rfl rfl (congrArg (fun z => Value.int (hI (z 0 10))) (gset_at _ _ _)) dX6_numbered_24 ?_
      have hm6 : hIn (P1 0 10) := hIn_rd hh.2.1 (gset_at _ _ _) (by decide)
      refine lv_iload_n hx hb dX6_numbered_27 rfl (lv_at hl 2 rfl) ?_
      refine iv_isub hx hb dX6_numbered_28 ?_
      refine iv_iconst hx hb dX6_numbered_29 ?_
      obtain ⟨g7, h⟩ := h
      refine iv_icmp_ge (tgt := 74) hx hb g7 ⟨by decide, by decide⟩ dX6_numbered_30 (by decide) (fun c8 => ?_) (fun c8 => ?_)
      · have h := h.2 c8
        refine lv_aload_n hx hb dX6_numbered_74 rfl (lv_at hl 0 rfl) ?_
        refine iv_get (v' := .int (hI (P1 0 10))) hx hb hts inX6 hown hK hh.1 (ob_Model) rfl 10 (by decide) (hts _ q3_170) rfl rfl (congrArg (fun z => Value.int (hI (z 0 10))) (gset_at _ _ _)) dX6_numbered_75 ?_
        have hm9 : hIn (P1 0 10) := hIn_rd hh.2.1 (gset_at _ _ _) (by decide)
        refine lv_iload_n hx hb dX6_numbered_78 rfl (lv_at hl 2 rfl) ?_
        refine iv_icmp_le (tgt := 86) hx hb hm9 h_y2 dX6_numbered_79 (by decide) (fun c10 => ?_) (fun c10 => ?_)
        · have h := h.1 c10
          refine iv_iconst hx hb dX6_numbered_86 ?_
          exact iv_bret E hh h.1 (by rw [← h.1]; exact (Or.inl rfl)) (by rw [← h.2]) dX6_numbered_87
        · have h := h.2 c10
          refine iv_iconst hx hb dX6_numbered_82 ?_
          refine lv_goto (tgt := 87) hx hb dX6_numbered_83 (by decide) ?_
          exact iv_bret E hh h.1 (by rw [← h.1]; exact (Or.inr rfl)) (by rw [← h.2]) dX6_numbered_87
      · have h := h.1 c8
        refine lv_aload_n hx hb dX6_numbered_33 rfl (lv_at hl 0 rfl) ?_
        refine iv_get (v' := .ref (ad 10 7)) hx hb hts inX6 hown hK hh.1 (ob_Model) rfl 16 (by decide) (hts _ q3_176) rfl rfl rfl dX6_numbered_34 ?_
        refine lv_iload_n hx hb dX6_numbered_37 rfl (lv_at hl 1 rfl) ?_
        refine lv_bipush (v := hI 10) hx hb dX6_numbered_38 (by decide) ?_
        refine lv_aload_n hx hb dX6_numbered_40 rfl (lv_at hl 0 rfl) ?_
        refine iv_get (v' := .ref (ad 10 7)) hx hb hts inX6 hown hK hh.1 (ob_Model) rfl 16 (by decide) (hts _ q3_176) rfl rfl rfl dX6_numbered_41 ?_
        refine lv_iload_n hx hb dX6_numbered_44 rfl (lv_at hl 1 rfl) ?_
        obtain ⟨g11, h⟩ := h
        refine iv_iald hx hb hK hh.1 (ia_10_7) g11 (v := (P1 7 which)) (congrArg (fun z => z 7 which) (gset_at _ _ _)) dX6_numbered_45 ?_
        have hm12 : hIn (P1 7 which) := hIn_rd hh.2.1 (gset_at _ _ _) (by decide)
        refine iv_imul hx hb dX6_numbered_46 ?_
        refine lv_aload_n hx hb dX6_numbered_47 rfl (lv_at hl 0 rfl) ?_
        refine iv_get (v' := .ref (ad 10 4)) hx hb hts inX6 hown hK hh.1 (ob_Model) rfl 5 (by decide) (hts _ q3_165) rfl rfl rfl dX6_numbered_48 ?_
        refine lv_aload_n hx hb dX6_numbered_51 rfl (lv_at hl 0 rfl) ?_
        refine iv_get (v' := .int (hI (P1 0 10))) hx hb hts inX6 hown hK hh.1 (ob_Model) rfl 10 (by decide) (hts _ q3_170) rfl rfl (congrArg (fun z => Value.int (hI (z 0 10))) (gset_at _ _ _)) dX6_numbered_52 ?_
        have hm13 : hIn (P1 0 10) := hIn_rd hh.2.1 (gset_at _ _ _) (by decide)
        obtain ⟨g14, h⟩ := h
        refine iv_iald hx hb hK hh.1 (ia_10_4) g14 (v := (P1 4 (P1 0 10))) (congrArg (fun z => z 4 (P1 0 10)) (gset_at _ _ _)) dX6_numbered_55 ?_
        have hm15 : hIn (P1 4 (P1 0 10)) := hIn_rd hh.2.1 (gset_at _ _ _) (by decide)
        refine iv_iadd hx hb dX6_numbered_56 ?_
        refine lv_bipush (v := hI 48) hx hb dX6_numbered_57 (by decide) ?_
        refine iv_isub hx hb dX6_numbered_59 ?_
        obtain ⟨g16, h⟩ := h
        refine iv_iast (S' := (gset S 10 (aset P1 7 which (((10 * (P1 7 which)) + (P1 4 (P1 0 10))) - 48)))) hx hb hK hinj hh (ia_10_7) g11 g16 (by rw [show (gset S 10 P1) 10 = P1 from (gset_at _ _ _)]; exact (gset_gset _ _ _ _)) dX6_numbered_60 (fun H locs hh => ?_)
        refine lv_aload_n hx hb dX6_numbered_61 rfl (lv_at hl 0 rfl) ?_
        refine lv_dup hx hb dX6_numbered_62 rfl ?_
        refine iv_get (v' := .int (hI ((aset P1 7 which (((10 * (P1 7 which)) + (P1 4 (P1 0 10))) - 48)) 0 10))) hx hb hts inX6 hown hK hh.1 (ob_Model) rfl 10 (by decide) (hts _ q3_170) rfl rfl (congrArg (fun z => Value.int (hI (z 0 10))) (gset_at _ _ _)) dX6_numbered_63 ?_
        have hm17 : hIn ((aset P1 7 which (((10 * (P1 7 which)) + (P1 4 (P1 0 10))) - 48)) 0 10) := hIn_rd hh.2.1 (gset_at _ _ _) (by decide)
        refine iv_iconst hx hb dX6_numbered_66 ?_
        refine iv_iadd hx hb dX6_numbered_67 ?_
        obtain ⟨g18, h⟩ := h
        refine iv_put (S' := (gset S 10 (aset (aset P1 7 which (((10 * (P1 7 which)) + (P1 4 (P1 0 10))) - 48)) 0 10 (((aset P1 7 which (((10 * (P1 7 which)) + (P1 4 (P1 0 10))) - 48)) 0 10) + 1)))) (ty := .int) hx hb hts inX6 tyX6 tyX6_ok nmX6 hown hK hinj hh (by decide) un_Model (Or.inl rfl) (ob_Model) rfl 10 (by decide) (hts _ q3_170) rfl rfl (by decide +kernel) rfl rfl (Nat.le_of_ble_eq_true rfl) (pu_Model_spot) (Or.inl g18) (by rw [show (gset S 10 (aset P1 7 which (((10 * (P1 7 which)) + (P1 4 (P1 0 10))) - 48))) 10 = (aset P1 7 which (((10 * (P1 7 which)) + (P1 4 (P1 0 10))) - 48)) from (gset_at _ _ _)]; exact (gset_gset _ _ _ _)) dX6_numbered_68 (fun H locs hh => ?_)
        refine lv_goto (tgt := 12) hx hb dX6_numbered_71 (by decide) ?_
        exact h H _ ls hh (lv_sub hl [0, 1, 2] rfl)
  intro H locs ls hh hl
  have hl : lv_has ls 3 [(0, .ref (ad 10 0)), (1, .int (hI which))] := hl
  replace hh : hH D ad cI cJ cF (gset S 10 P) s H locs := by rw [← can1 hP]; exact hh
  have h := x_X6_numbered P which h_which (fun i k hi => hIn_rd hh.2.1 (gset_at _ _ _) hi) hp (fun y2 P1 => (hAt D ad cI cJ cF p l e ({ frames := 2, cells := 0, slots := 0, locals := 44 } : Room) s m args below meth c (MQ below (hQi D ad cI cJ cF (v_X6_numbered P which) (gset S 10 (m_X6_numbered P which))) args s 0 0 (hAd ad)) 3 12 [(0, .ref (ad 10 0)), (1, .int (hI which)), (2, .int (hI y2))] (gset S 10 P1))) (fun r P1 => (r = v_X6_numbered P which ∧ P1 = m_X6_numbered P which)) r12 ⟨rfl, rfl⟩
  refine lv_aload_n hx hb dX6_numbered_0 rfl (lv_at hl 0 rfl) ?_
  refine iv_get (v' := .int (hI (P 0 10))) hx hb hts inX6 hown hK hh.1 (ob_Model) rfl 10 (by decide) (hts _ q3_170) rfl rfl (congrArg (fun z => Value.int (hI (z 0 10))) (gset_at _ _ _)) dX6_numbered_1 ?_
  have hm19 : hIn (P 0 10) := hIn_rd hh.2.1 (gset_at _ _ _) (by decide)
  refine lv_istore_n (lv' := [(2, .int (hI (P 0 10))), (0, .ref (ad 10 0)), (1, .int (hI which))]) hx hb dX6_numbered_4 rfl hl (by decide) rfl (fun ls hl => ?_)
  refine lv_aload_n hx hb dX6_numbered_5 rfl (lv_at hl 1 rfl) ?_
  refine iv_get (v' := .ref (ad 10 7)) hx hb hts inX6 hown hK hh.1 (ob_Model) rfl 16 (by decide) (hts _ q3_176) rfl rfl rfl dX6_numbered_6 ?_
  refine lv_iload_n hx hb dX6_numbered_9 rfl (lv_at hl 2 rfl) ?_
  refine iv_iconst hx hb dX6_numbered_10 ?_
  obtain ⟨g20, h⟩ := h
  refine iv_iast (S' := (gset S 10 (aset P 7 which 0))) hx hb hK hinj hh (ia_10_7) g20 ⟨by decide, by decide⟩ (by rw [show (gset S 10 P) 10 = P from (gset_at _ _ _)]; exact (gset_gset _ _ _ _)) dX6_numbered_11 (fun H locs hh => ?_)
  exact h H _ ls hh (lv_sub hl [1, 2, 0] rfl)
set_option maxHeartbeats 4000000 in
set_option maxRecDepth 100000 in
theorem ok_X6_numbersOf (l : Launch) (hinj : hInj ad) (S : hS) (order : Int) (h_order : hIn order) : hMi D ad cI cJ cF l yX6_numbersOf cX6_numbersOf 1 (some .int) ({ frames := 0, cells := 0, slots := 0, locals := 0 } : Room) [.int (hI order)] S (v_X6_numbersOf order) S := by
  refine hOf (S := S) l hinj (by decide +kernel) (Nat.le_of_ble_eq_true rfl) (fun p e s m args below meth c E => ?_)
  obtain ⟨hx, hb, hml, hown, hts, hK, hN, -, hr, hlk⟩ := id E
  have hown : s.vm.findClass RX6 = some m.cls := hown
  intro H locs ls hh hl
  have hl : lv_has ls 1 [(0, .int (hI order))] := hl
  refine lv_iload_n hx hb dX6_numbersOf_0 rfl (lv_at hl 0 rfl) ?_
  refine lv_bipush (v := hI 115) hx hb dX6_numbersOf_1 (by decide) ?_
  refine iv_icmp_eq (tgt := 12) hx hb h_order ⟨by decide, by decide⟩ dX6_numbersOf_3 (by decide) (fun c1 => ?_) (fun c1 => ?_)
  · refine iv_iconst hx hb dX6_numbersOf_12 ?_
    refine lv_goto (tgt := 39) hx hb dX6_numbersOf_13 (by decide) ?_
    exact iv_iret E hh (by unfold v_X6_numbersOf; rw [if_pos c1]) (by rw [← show 3 = v_X6_numbersOf order from (by unfold v_X6_numbersOf; rw [if_pos c1])]; exact ⟨by decide, by decide⟩) rfl dX6_numbersOf_39
  · refine lv_iload_n hx hb dX6_numbersOf_6 rfl (lv_at hl 0 rfl) ?_
    refine lv_bipush (v := hI 104) hx hb dX6_numbersOf_7 (by decide) ?_
    refine iv_icmp_ne (tgt := 16) hx hb h_order ⟨by decide, by decide⟩ dX6_numbersOf_9 (by decide) (fun c2 => ?_) (fun c2 => ?_)
    · refine lv_iload_n hx hb dX6_numbersOf_16 rfl (lv_at hl 0 rfl) ?_
      refine lv_bipush (v := hI 103) hx hb dX6_numbersOf_17 (by decide) ?_
      refine iv_icmp_eq (tgt := 34) hx hb h_order ⟨by decide, by decide⟩ dX6_numbersOf_19 (by decide) (fun c3 => ?_) (fun c3 => ?_)
      · refine iv_iconst hx hb dX6_numbersOf_34 ?_
        refine lv_goto (tgt := 39) hx hb dX6_numbersOf_35 (by decide) ?_
        exact iv_iret E hh (by unfold v_X6_numbersOf; rw [if_neg c1, if_neg c2, if_pos c3]) (by rw [← show 1 = v_X6_numbersOf order from (by unfold v_X6_numbersOf; rw [if_neg c1, if_neg c2, if_pos c3])]; exact ⟨by decide, by decide⟩) rfl dX6_numbersOf_39
      · refine lv_iload_n hx hb dX6_numbersOf_22 rfl (lv_at hl 0 rfl) ?_
        refine lv_bipush (v := hI 119) hx hb dX6_numbersOf_23 (by decide) ?_
        refine iv_icmp_eq (tgt := 34) hx hb h_order ⟨by decide, by decide⟩ dX6_numbersOf_25 (by decide) (fun c4 => ?_) (fun c4 => ?_)
        · refine iv_iconst hx hb dX6_numbersOf_34 ?_
          refine lv_goto (tgt := 39) hx hb dX6_numbersOf_35 (by decide) ?_
          exact iv_iret E hh (by unfold v_X6_numbersOf; rw [if_neg c1, if_neg c2, if_neg c3, if_pos c4]) (by rw [← show 1 = v_X6_numbersOf order from (by unfold v_X6_numbersOf; rw [if_neg c1, if_neg c2, if_neg c3, if_pos c4])]; exact ⟨by decide, by decide⟩) rfl dX6_numbersOf_39
        · refine lv_iload_n hx hb dX6_numbersOf_28 rfl (lv_at hl 0 rfl) ?_
          refine lv_bipush (v := hI 109) hx hb dX6_numbersOf_29 (by decide) ?_
          refine iv_icmp_ne (tgt := 38) hx hb h_order ⟨by decide, by decide⟩ dX6_numbersOf_31 (by decide) (fun c5 => ?_) (fun c5 => ?_)
          · refine iv_iconst hx hb dX6_numbersOf_38 ?_
            exact iv_iret E hh (by unfold v_X6_numbersOf; rw [if_neg c1, if_neg c2, if_neg c3, if_neg c4, if_neg c5]) (by rw [← show 0 = v_X6_numbersOf order from (by unfold v_X6_numbersOf; rw [if_neg c1, if_neg c2, if_neg c3, if_neg c4, if_neg c5])]; exact ⟨by decide, by decide⟩) rfl dX6_numbersOf_39
          · refine iv_iconst hx hb dX6_numbersOf_34 ?_
            refine lv_goto (tgt := 39) hx hb dX6_numbersOf_35 (by decide) ?_
            exact iv_iret E hh (by unfold v_X6_numbersOf; rw [if_neg c1, if_neg c2, if_neg c3, if_neg c4, if_pos c5]) (by rw [← show 1 = v_X6_numbersOf order from (by unfold v_X6_numbersOf; rw [if_neg c1, if_neg c2, if_neg c3, if_neg c4, if_pos c5])]; exact ⟨by decide, by decide⟩) rfl dX6_numbersOf_39
    · refine iv_iconst hx hb dX6_numbersOf_12 ?_
      refine lv_goto (tgt := 39) hx hb dX6_numbersOf_13 (by decide) ?_
      exact iv_iret E hh (by unfold v_X6_numbersOf; rw [if_neg c1, if_pos c2]) (by rw [← show 3 = v_X6_numbersOf order from (by unfold v_X6_numbersOf; rw [if_neg c1, if_pos c2])]; exact ⟨by decide, by decide⟩) rfl dX6_numbersOf_39
set_option maxHeartbeats 4000000 in
set_option maxRecDepth 100000 in
theorem ok_X6_reads (l : Launch) (hinj : hInj ad) (S : hS) (P : hGM) (hP : S 10 = P) (hp : p_X6_reads P) : hMi D ad cI cJ cF l yX6_reads cX6_reads 4 (some .boolean) ({ frames := 3, cells := 0, slots := 0, locals := 66 } : Room) [.ref (ad 10 0)] S (v_X6_reads P) (gset S 10 (m_X6_reads P)) := by
  refine hOf (S := S) l hinj (by decide +kernel) (Nat.le_of_ble_eq_true rfl) (fun p e s m args below meth c E => ?_)
  obtain ⟨hx, hb, hml, hown, hts, hK, hN, -, hr, hlk⟩ := id E
  have hown : s.vm.findClass RX6 = some m.cls := hown
  have r60 : ∀ (y1 : Int) (y2 : Int) (y3 : Int) (P1 : hGM), hIn y1 → hIn y2 → hIn y3 → ((∀ (i : Nat) (k : Int), i < 100 → hIn (P1 i k)) → ((y3 < y1 → ((y2 = 0 → (0 = v_X6_reads P ∧ P1 = m_X6_reads P)) ∧ (¬ y2 = 0 → (p_X6_sign P1 44 ∧ (((v_X6_sign P1 44) = 0 → (hAt D ad cI cJ cF p l e ({ frames := 3, cells := 0, slots := 0, locals := 66 } : Room) s m args below meth c (MQ below (hQi D ad cI cJ cF (v_X6_reads P) (gset S 10 (m_X6_reads P))) args s 0 0 (hAd ad)) 4 60 [(0, .ref (ad 10 0)), (1, .int (hI y1)), (2, .int (hI 0)), (3, .int (hI (y3 + 1)))] (gset S 10 (m_X6_sign P1 44)))) ∧ (¬ (v_X6_sign P1 44) = 0 → (p_X6_numbered (m_X6_sign P1 44) y3 ∧ (((v_X6_numbered (m_X6_sign P1 44) y3) = 0 → (hAt D ad cI cJ cF p l e ({ frames := 3, cells := 0, slots := 0, locals := 66 } : Room) s m args below meth c (MQ below (hQi D ad cI cJ cF (v_X6_reads P) (gset S 10 (m_X6_reads P))) args s 0 0 (hAd ad)) 4 60 [(0, .ref (ad 10 0)), (1, .int (hI y1)), (2, .int (hI 0)), (3, .int (hI (y3 + 1)))] (gset S 10 (m_X6_numbered (m_X6_sign P1 44) y3)))) ∧ (¬ (v_X6_numbered (m_X6_sign P1 44) y3) = 0 → (hAt D ad cI cJ cF p l e ({ frames := 3, cells := 0, slots := 0, locals := 66 } : Room) s m args below meth c (MQ below (hQi D ad cI cJ cF (v_X6_reads P) (gset S 10 (m_X6_reads P))) args s 0 0 (hAd ad)) 4 60 [(0, .ref (ad 10 0)), (1, .int (hI y1)), (2, .int (hI 1)), (3, .int (hI (y3 + 1)))] (gset S 10 (m_X6_numbered (m_X6_sign P1 44) y3)))))))))))) ∧ (¬ y3 < y1 → ((y2 = 0 → (0 = v_X6_reads P ∧ P1 = m_X6_reads P)) ∧ (¬ y2 = 0 → (p_X6_sign P1 59 ∧ (((v_X6_sign P1 59) = 0 → (0 = v_X6_reads P ∧ (m_X6_sign P1 59) = m_X6_reads P)) ∧ (¬ (v_X6_sign P1 59) = 0 → (1 = v_X6_reads P ∧ (m_X6_sign P1 59) = m_X6_reads P))))))))) → (hAt D ad cI cJ cF p l e ({ frames := 3, cells := 0, slots := 0, locals := 66 } : Room) s m args below meth c (MQ below (hQi D ad cI cJ cF (v_X6_reads P) (gset S 10 (m_X6_reads P))) args s 0 0 (hAd ad)) 4 60 [(0, .ref (ad 10 0)), (1, .int (hI y1)), (2, .int (hI y2)), (3, .int (hI y3))] (gset S 10 P1)) := by
    intro y1 y2 y3 P1 h_y1 h_y2 h_y3 h H locs ls hh hl
    have h := h (fun i k hi => hIn_rd hh.2.1 (gset_at _ _ _) hi)
    refine lv_iload_n hx hb dX6_reads_60 rfl (lv_at hl 3 rfl) ?_
    refine lv_iload_n hx hb dX6_reads_61 rfl (lv_at hl 1 rfl) ?_
    refine iv_icmp_ge (tgt := 98) hx hb h_y3 h_y1 dX6_reads_62 (by decide) (fun c1 => ?_) (fun c1 => ?_)
    · have h := h.2 c1
      refine lv_iload_n hx hb dX6_reads_98 rfl (lv_at hl 2 rfl) ?_
      refine iv_if_eq (tgt := 115) hx hb h_y2 dX6_reads_99 (by decide) (fun c2 => ?_) (fun c2 => ?_)
      · have h := h.1 c2
        refine iv_iconst hx hb dX6_reads_115 ?_
        exact iv_bret E hh h.1 (by rw [← h.1]; exact (Or.inl rfl)) (by rw [← h.2]) dX6_reads_116
      · have h := h.2 c2
        refine lv_aload_n hx hb dX6_reads_102 rfl (lv_at hl 0 rfl) ?_
        refine lv_bipush (v := hI 59) hx hb dX6_reads_103 (by decide) ?_
        obtain ⟨g3, h⟩ := h
        refine iv_ki (iv_rV (As := [.int (hI 59)]) (rest := []) E hh (ok_X6_sign l hinj (gset S 10 P1) P1 (gset_at _ _ _) 59 ⟨by decide, by decide⟩ g3) cb_X6_sign q5_1 rfl rfl ⟨Nat.le_of_ble_eq_true rfl, Nat.le_of_ble_eq_true rfl⟩ (ob_Model) rfl rfl rfl hl.1 rfl (Nat.le_of_ble_eq_true rfl) dX6_reads_105 ⟨Nat.zero_le _, Nat.zero_le _⟩) hh (fun hc4 H locs hh => ?_)
        replace hh : hH D ad cI cJ cF (gset S 10 (m_X6_sign P1 59)) s H locs := by rw [← show _ = (gset S 10 (m_X6_sign P1 59)) from (gset_gset _ _ _ _)]; exact hh
        refine iv_if_eq (tgt := 115) hx hb hc4 dX6_reads_108 (by decide) (fun c5 => ?_) (fun c5 => ?_)
        · have h := h.1 c5
          refine iv_iconst hx hb dX6_reads_115 ?_
          exact iv_bret E hh h.1 (by rw [← h.1]; exact (Or.inl rfl)) (by rw [← h.2]) dX6_reads_116
        · have h := h.2 c5
          refine iv_iconst hx hb dX6_reads_111 ?_
          refine lv_goto (tgt := 116) hx hb dX6_reads_112 (by decide) ?_
          exact iv_bret E hh h.1 (by rw [← h.1]; exact (Or.inr rfl)) (by rw [← h.2]) dX6_reads_116
    · have h := h.1 c1
      refine lv_iload_n hx hb dX6_reads_65 rfl (lv_at hl 2 rfl) ?_
      refine iv_if_eq (tgt := 98) hx hb h_y2 dX6_reads_66 (by decide) (fun c6 => ?_) (fun c6 => ?_)
      · have h := h.1 c6
        refine lv_iload_n hx hb dX6_reads_98 rfl (lv_at hl 2 rfl) ?_
        refine iv_if_eq (tgt := 115) hx hb h_y2 dX6_reads_99 (by decide) (fun c7 => ?_) (fun c7 => ?_)
        · refine iv_iconst hx hb dX6_reads_115 ?_
          exact iv_bret E hh h.1 (by rw [← h.1]; exact (Or.inl rfl)) (by rw [← h.2]) dX6_reads_116
        · exact absurd c6 c7
      · have h := h.2 c6
        refine lv_aload_n hx hb dX6_reads_69 rfl (lv_at hl 0 rfl) ?_
        refine lv_bipush (v := hI 44) hx hb dX6_reads_70 (by decide) ?_
        obtain ⟨g8, h⟩ := h
        refine iv_ki (iv_rV (As := [.int (hI 44)]) (rest := []) E hh (ok_X6_sign l hinj (gset S 10 P1) P1 (gset_at _ _ _) 44 ⟨by decide, by decide⟩ g8) cb_X6_sign q5_1 rfl rfl ⟨Nat.le_of_ble_eq_true rfl, Nat.le_of_ble_eq_true rfl⟩ (ob_Model) rfl rfl rfl hl.1 rfl (Nat.le_of_ble_eq_true rfl) dX6_reads_72 ⟨Nat.zero_le _, Nat.zero_le _⟩) hh (fun hc9 H locs hh => ?_)
        replace hh : hH D ad cI cJ cF (gset S 10 (m_X6_sign P1 44)) s H locs := by rw [← show _ = (gset S 10 (m_X6_sign P1 44)) from (gset_gset _ _ _ _)]; exact hh
        refine iv_if_eq (tgt := 90) hx hb hc9 dX6_reads_75 (by decide) (fun c10 => ?_) (fun c10 => ?_)
        · have h := h.1 c10
          refine iv_iconst hx hb dX6_reads_90 ?_
          refine lv_istore_n (lv' := [(2, .int (hI 0)), (0, .ref (ad 10 0)), (1, .int (hI y1)), (3, .int (hI y3))]) hx hb dX6_reads_91 rfl hl (by decide) rfl (fun ls hl => ?_)
          refine iv_iinc (lv' := [(3, .int (hI (y3 + 1))), (2, .int (hI 0)), (0, .ref (ad 10 0)), (1, .int (hI y1))]) hx hb dX6_reads_92 hl (k := 3) rfl (v := (y3 + 1)) rfl (by decide) rfl (fun ls hl => ?_)
          refine lv_goto (tgt := 60) hx hb dX6_reads_95 (by decide) ?_
          exact h H _ ls hh (lv_sub hl [2, 3, 1, 0] rfl)
        · have h := h.2 c10
          refine lv_aload_n hx hb dX6_reads_78 rfl (lv_at hl 0 rfl) ?_
          refine lv_iload_n hx hb dX6_reads_79 rfl (lv_at hl 3 rfl) ?_
          obtain ⟨g11, h⟩ := h
          refine iv_ki (iv_rV (As := [.int (hI y3)]) (rest := []) E hh (ok_X6_numbered l hinj (gset S 10 (m_X6_sign P1 44)) (m_X6_sign P1 44) (gset_at _ _ _) y3 h_y3 g11) cb_X6_numbered q4_237 rfl rfl ⟨Nat.le_of_ble_eq_true rfl, Nat.le_of_ble_eq_true rfl⟩ (ob_Model) rfl rfl rfl hl.1 rfl (Nat.le_of_ble_eq_true rfl) dX6_reads_80 ⟨Nat.zero_le _, Nat.zero_le _⟩) hh (fun hc12 H locs hh => ?_)
          replace hh : hH D ad cI cJ cF (gset S 10 (m_X6_numbered (m_X6_sign P1 44) y3)) s H locs := by rw [← show _ = (gset S 10 (m_X6_numbered (m_X6_sign P1 44) y3)) from (gset_gset _ _ _ _)]; exact hh
          refine iv_if_eq (tgt := 90) hx hb hc12 dX6_reads_83 (by decide) (fun c13 => ?_) (fun c13 => ?_)
          · have h := h.1 c13
            refine iv_iconst hx hb dX6_reads_90 ?_
            refine lv_istore_n (lv' := [(2, .int (hI 0)), (0, .ref (ad 10 0)), (1, .int (hI y1)), (3, .int (hI y3))]) hx hb dX6_reads_91 rfl hl (by decide) rfl (fun ls hl => ?_)
            refine iv_iinc (lv' := [(3, .int (hI (y3 + 1))), (2, .int (hI 0)), (0, .ref (ad 10 0)), (1, .int (hI y1))]) hx hb dX6_reads_92 hl (k := 3) rfl (v := (y3 + 1)) rfl (by decide) rfl (fun ls hl => ?_)
            refine lv_goto (tgt := 60) hx hb dX6_reads_95 (by decide) ?_
            exact h H _ ls hh (lv_sub hl [2, 3, 1, 0] rfl)
          · have h := h.2 c13
            refine iv_iconst hx hb dX6_reads_86 ?_
            refine lv_goto (tgt := 91) hx hb dX6_reads_87 (by decide) ?_
            refine lv_istore_n (lv' := [(2, .int (hI 1)), (0, .ref (ad 10 0)), (1, .int (hI y1)), (3, .int (hI y3))]) hx hb dX6_reads_91 rfl hl (by decide) rfl (fun ls hl => ?_)
            refine iv_iinc (lv' := [(3, .int (hI (y3 + 1))), (2, .int (hI 1)), (0, .ref (ad 10 0)), (1, .int (hI y1))]) hx hb dX6_reads_92 hl (k := 3) rfl (v := (y3 + 1)) rfl (by decide) rfl (fun ls hl => ?_)
            refine lv_goto (tgt := 60) hx hb dX6_reads_95 (by decide) ?_
            exact h H _ ls hh (lv_sub hl [2, 3, 1, 0] rfl)
  intro H locs ls hh hl
  have hl : lv_has ls 4 [(0, .ref (ad 10 0))] := hl
  replace hh : hH D ad cI cJ cF (gset S 10 P) s H locs := by rw [← can1 hP]; exact hh
  have h := x_X6_reads P (fun i k hi => hIn_rd hh.2.1 (gset_at _ _ _) hi) hp (fun y1 y2 y3 P1 => (hAt D ad cI cJ cF p l e ({ frames := 3, cells := 0, slots := 0, locals := 66 } : Room) s m args below meth c (MQ below (hQi D ad cI cJ cF (v_X6_reads P) (gset S 10 (m_X6_reads P))) args s 0 0 (hAd ad)) 4 60 [(0, .ref (ad 10 0)), (1, .int (hI y1)), (2, .int (hI y2)), (3, .int (hI y3))] (gset S 10 P1))) (fun r P1 => (r = v_X6_reads P ∧ P1 = m_X6_reads P)) r60 ⟨rfl, rfl⟩
  refine lv_aload_n hx hb dX6_reads_0 rfl (lv_at hl 0 rfl) ?_
  refine lv_aload_n hx hb dX6_reads_1 rfl (lv_at hl 0 rfl) ?_
  refine lv_bipush (v := hI 33) hx hb dX6_reads_2 (by decide) ?_
  refine lv_bipush (v := hI 126) hx hb dX6_reads_4 (by decide) ?_
  obtain ⟨g14, h⟩ := h
  refine iv_ki (iv_rV (As := [.int (hI 33), .int (hI 126)]) (rest := [.ref (ad 10 0)]) E hh (ok_X6_isAt l hinj (gset S 10 P) P (gset_at _ _ _) 33 126 ⟨by decide, by decide⟩ ⟨by decide, by decide⟩ g14) cb_X6_isAt q4_230 rfl rfl ⟨Nat.le_of_ble_eq_true rfl, Nat.le_of_ble_eq_true rfl⟩ (ob_Model) rfl rfl rfl hl.1 rfl (Nat.le_of_ble_eq_true rfl) dX6_reads_6 ⟨Nat.zero_le _, Nat.zero_le _⟩) hh (fun hc15 H locs hh => ?_)
  refine iv_if_eq (tgt := 24) hx hb hc15 dX6_reads_9 (by decide) (fun c16 => ?_) (fun c16 => ?_)
  · have h := h.1 c16
    refine iv_iconst hx hb dX6_reads_24 ?_
    refine iv_put (S' := (gset S 10 (aset P 0 15 0))) (ty := .int) hx hb hts inX6 tyX6 tyX6_ok nmX6 hown hK hinj hh (by decide) un_Model (Or.inl rfl) (ob_Model) rfl 15 (by decide) (hts _ q3_175) rfl rfl (by decide +kernel) rfl rfl (Nat.le_of_ble_eq_true rfl) (pu_Model_order) (Or.inl ⟨by decide, by decide⟩) (by rw [show (gset S 10 P) 10 = P from (gset_at _ _ _)]; exact (gset_gset _ _ _ _)) dX6_reads_25 (fun H locs hh => ?_)
    refine lv_aload_n hx hb dX6_reads_28 rfl (lv_at hl 0 rfl) ?_
    refine iv_get (v' := .int (hI ((aset P 0 15 0) 0 15))) hx hb hts inX6 hown hK hh.1 (ob_Model) rfl 15 (by decide) (hts _ q3_175) rfl rfl (congrArg (fun z => Value.int (hI (z 0 15))) (gset_at _ _ _)) dX6_reads_29 ?_
    have hm17 : hIn ((aset P 0 15 0) 0 15) := hIn_rd hh.2.1 (gset_at _ _ _) (by decide)
    refine iv_ki (iv_rS (As := [.int (hI ((aset P 0 15 0) 0 15))]) (rest := []) E hh (ok_X6_numbersOf l hinj (gset S 10 (aset P 0 15 0)) ((aset P 0 15 0) 0 15) hm17) cb_X6_numbersOf q4_234 rfl rfl ⟨Nat.le_of_ble_eq_true rfl, Nat.le_of_ble_eq_true rfl⟩ rfl hl.1 rfl (Nat.le_of_ble_eq_true rfl) dX6_reads_32 ⟨Nat.zero_le _, Nat.zero_le _⟩) hh (fun hc18 H locs hh => ?_)
    refine lv_istore_n (lv' := [(1, .int (hI (v_X6_numbersOf ((aset P 0 15 0) 0 15)))), (0, .ref (ad 10 0))]) hx hb dX6_reads_35 rfl hl (by decide) rfl (fun ls hl => ?_)
    refine lv_iload_n hx hb dX6_reads_36 rfl (lv_at hl 0 rfl) ?_
    refine iv_if_ne (tgt := 42) hx hb hc18 dX6_reads_37 (by decide) (fun c19 => ?_) (fun c19 => ?_)
    · have h := h.2 c19
      refine lv_aload_n hx hb dX6_reads_42 rfl (lv_at hl 1 rfl) ?_
      refine lv_dup hx hb dX6_reads_43 rfl ?_
      refine iv_get (v' := .int (hI ((aset P 0 15 0) 0 10))) hx hb hts inX6 hown hK hh.1 (ob_Model) rfl 10 (by decide) (hts _ q3_170) rfl rfl (congrArg (fun z => Value.int (hI (z 0 10))) (gset_at _ _ _)) dX6_reads_44 ?_
      have hm20 : hIn ((aset P 0 15 0) 0 10) := hIn_rd hh.2.1 (gset_at _ _ _) (by decide)
      refine iv_iconst hx hb dX6_reads_47 ?_
      refine iv_iadd hx hb dX6_reads_48 ?_
      obtain ⟨g21, h⟩ := h
      refine iv_put (S' := (gset S 10 (aset (aset P 0 15 0) 0 10 (((aset P 0 15 0) 0 10) + 1)))) (ty := .int) hx hb hts inX6 tyX6 tyX6_ok nmX6 hown hK hinj hh (by decide) un_Model (Or.inl rfl) (ob_Model) rfl 10 (by decide) (hts _ q3_170) rfl rfl (by decide +kernel) rfl rfl (Nat.le_of_ble_eq_true rfl) (pu_Model_spot) (Or.inl g21) (by rw [show (gset S 10 (aset P 0 15 0)) 10 = (aset P 0 15 0) from (gset_at _ _ _)]; exact (gset_gset _ _ _ _)) dX6_reads_49 (fun H locs hh => ?_)
      refine lv_aload_n hx hb dX6_reads_52 rfl (lv_at hl 1 rfl) ?_
      refine iv_iconst hx hb dX6_reads_53 ?_
      obtain ⟨g22, h⟩ := h
      refine iv_ki (iv_rV (As := [.int (hI 0)]) (rest := []) E hh (ok_X6_numbered l hinj (gset S 10 (aset (aset P 0 15 0) 0 10 (((aset P 0 15 0) 0 10) + 1))) (aset (aset P 0 15 0) 0 10 (((aset P 0 15 0) 0 10) + 1)) (gset_at _ _ _) 0 ⟨by decide, by decide⟩ g22) cb_X6_numbered q4_237 rfl rfl ⟨Nat.le_of_ble_eq_true rfl, Nat.le_of_ble_eq_true rfl⟩ (ob_Model) rfl rfl rfl hl.1 rfl (Nat.le_of_ble_eq_true rfl) dX6_reads_54 ⟨Nat.zero_le _, Nat.zero_le _⟩) hh (fun hc23 H locs hh => ?_)
      replace hh : hH D ad cI cJ cF (gset S 10 (m_X6_numbered (aset (aset P 0 15 0) 0 10 (((aset P 0 15 0) 0 10) + 1)) 0)) s H locs := by rw [← show _ = (gset S 10 (m_X6_numbered (aset (aset P 0 15 0) 0 10 (((aset P 0 15 0) 0 10) + 1)) 0)) from (gset_gset _ _ _ _)]; exact hh
      refine lv_istore_n (lv' := [(2, .int (hI (v_X6_numbered (aset (aset P 0 15 0) 0 10 (((aset P 0 15 0) 0 10) + 1)) 0))), (1, .int (hI (v_X6_numbersOf ((aset P 0 15 0) 0 15)))), (0, .ref (ad 10 0))]) hx hb dX6_reads_57 rfl hl (by decide) rfl (fun ls hl => ?_)
      refine iv_iconst hx hb dX6_reads_58 ?_
      refine lv_istore_n (lv' := [(3, .int (hI 1)), (2, .int (hI (v_X6_numbered (aset (aset P 0 15 0) 0 10 (((aset P 0 15 0) 0 10) + 1)) 0))), (1, .int (hI (v_X6_numbersOf ((aset P 0 15 0) 0 15)))), (0, .ref (ad 10 0))]) hx hb dX6_reads_59 rfl hl (by decide) rfl (fun ls hl => ?_)
      exact h H _ ls hh (lv_sub hl [3, 2, 1, 0] rfl)
    · have h := h.1 c19
      refine iv_iconst hx hb dX6_reads_40 ?_
      exact iv_bret E hh h.1 (by rw [← h.1]; exact (Or.inl rfl)) (by rw [← h.2]) dX6_reads_41
  · have h := h.2 c16
    refine lv_aload_n hx hb dX6_reads_12 rfl (lv_at hl 0 rfl) ?_
    refine iv_get (v' := .ref (ad 10 4)) hx hb hts inX6 hown hK hh.1 (ob_Model) rfl 5 (by decide) (hts _ q3_165) rfl rfl rfl dX6_reads_13 ?_
    refine lv_aload_n hx hb dX6_reads_16 rfl (lv_at hl 0 rfl) ?_
    refine iv_get (v' := .int (hI (P 0 10))) hx hb hts inX6 hown hK hh.1 (ob_Model) rfl 10 (by decide) (hts _ q3_170) rfl rfl (congrArg (fun z => Value.int (hI (z 0 10))) (gset_at _ _ _)) dX6_reads_17 ?_
    have hm24 : hIn (P 0 10) := hIn_rd hh.2.1 (gset_at _ _ _) (by decide)
    obtain ⟨g25, h⟩ := h
    refine iv_iald hx hb hK hh.1 (ia_10_4) g25 (v := (P 4 (P 0 10))) (congrArg (fun z => z 4 (P 0 10)) (gset_at _ _ _)) dX6_reads_20 ?_
    have hm26 : hIn (P 4 (P 0 10)) := hIn_rd hh.2.1 (gset_at _ _ _) (by decide)
    refine lv_goto (tgt := 25) hx hb dX6_reads_21 (by decide) ?_
    refine iv_put (S' := (gset S 10 (aset P 0 15 (P 4 (P 0 10))))) (ty := .int) hx hb hts inX6 tyX6 tyX6_ok nmX6 hown hK hinj hh (by decide) un_Model (Or.inl rfl) (ob_Model) rfl 15 (by decide) (hts _ q3_175) rfl rfl (by decide +kernel) rfl rfl (Nat.le_of_ble_eq_true rfl) (pu_Model_order) (Or.inl hm26) (by rw [show (gset S 10 P) 10 = P from (gset_at _ _ _)]; exact (gset_gset _ _ _ _)) dX6_reads_25 (fun H locs hh => ?_)
    refine lv_aload_n hx hb dX6_reads_28 rfl (lv_at hl 0 rfl) ?_
    refine iv_get (v' := .int (hI ((aset P 0 15 (P 4 (P 0 10))) 0 15))) hx hb hts inX6 hown hK hh.1 (ob_Model) rfl 15 (by decide) (hts _ q3_175) rfl rfl (congrArg (fun z => Value.int (hI (z 0 15))) (gset_at _ _ _)) dX6_reads_29 ?_
    have hm27 : hIn ((aset P 0 15 (P 4 (P 0 10))) 0 15) := hIn_rd hh.2.1 (gset_at _ _ _) (by decide)
    refine iv_ki (iv_rS (As := [.int (hI ((aset P 0 15 (P 4 (P 0 10))) 0 15))]) (rest := []) E hh (ok_X6_numbersOf l hinj (gset S 10 (aset P 0 15 (P 4 (P 0 10)))) ((aset P 0 15 (P 4 (P 0 10))) 0 15) hm27) cb_X6_numbersOf q4_234 rfl rfl ⟨Nat.le_of_ble_eq_true rfl, Nat.le_of_ble_eq_true rfl⟩ rfl hl.1 rfl (Nat.le_of_ble_eq_true rfl) dX6_reads_32 ⟨Nat.zero_le _, Nat.zero_le _⟩) hh (fun hc28 H locs hh => ?_)
    refine lv_istore_n (lv' := [(1, .int (hI (v_X6_numbersOf ((aset P 0 15 (P 4 (P 0 10))) 0 15)))), (0, .ref (ad 10 0))]) hx hb dX6_reads_35 rfl hl (by decide) rfl (fun ls hl => ?_)
    refine lv_iload_n hx hb dX6_reads_36 rfl (lv_at hl 0 rfl) ?_
    refine iv_if_ne (tgt := 42) hx hb hc28 dX6_reads_37 (by decide) (fun c29 => ?_) (fun c29 => ?_)
    · have h := h.2 c29
      refine lv_aload_n hx hb dX6_reads_42 rfl (lv_at hl 1 rfl) ?_
      refine lv_dup hx hb dX6_reads_43 rfl ?_
      refine iv_get (v' := .int (hI ((aset P 0 15 (P 4 (P 0 10))) 0 10))) hx hb hts inX6 hown hK hh.1 (ob_Model) rfl 10 (by decide) (hts _ q3_170) rfl rfl (congrArg (fun z => Value.int (hI (z 0 10))) (gset_at _ _ _)) dX6_reads_44 ?_
      have hm30 : hIn ((aset P 0 15 (P 4 (P 0 10))) 0 10) := hIn_rd hh.2.1 (gset_at _ _ _) (by decide)
      refine iv_iconst hx hb dX6_reads_47 ?_
      refine iv_iadd hx hb dX6_reads_48 ?_
      obtain ⟨g31, h⟩ := h
      refine iv_put (S' := (gset S 10 (aset (aset P 0 15 (P 4 (P 0 10))) 0 10 (((aset P 0 15 (P 4 (P 0 10))) 0 10) + 1)))) (ty := .int) hx hb hts inX6 tyX6 tyX6_ok nmX6 hown hK hinj hh (by decide) un_Model (Or.inl rfl) (ob_Model) rfl 10 (by decide) (hts _ q3_170) rfl rfl (by decide +kernel) rfl rfl (Nat.le_of_ble_eq_true rfl) (pu_Model_spot) (Or.inl g31) (by rw [show (gset S 10 (aset P 0 15 (P 4 (P 0 10)))) 10 = (aset P 0 15 (P 4 (P 0 10))) from (gset_at _ _ _)]; exact (gset_gset _ _ _ _)) dX6_reads_49 (fun H locs hh => ?_)
      refine lv_aload_n hx hb dX6_reads_52 rfl (lv_at hl 1 rfl) ?_
      refine iv_iconst hx hb dX6_reads_53 ?_
      obtain ⟨g32, h⟩ := h
      refine iv_ki (iv_rV (As := [.int (hI 0)]) (rest := []) E hh (ok_X6_numbered l hinj (gset S 10 (aset (aset P 0 15 (P 4 (P 0 10))) 0 10 (((aset P 0 15 (P 4 (P 0 10))) 0 10) + 1))) (aset (aset P 0 15 (P 4 (P 0 10))) 0 10 (((aset P 0 15 (P 4 (P 0 10))) 0 10) + 1)) (gset_at _ _ _) 0 ⟨by decide, by decide⟩ g32) cb_X6_numbered q4_237 rfl rfl ⟨Nat.le_of_ble_eq_true rfl, Nat.le_of_ble_eq_true rfl⟩ (ob_Model) rfl rfl rfl hl.1 rfl (Nat.le_of_ble_eq_true rfl) dX6_reads_54 ⟨Nat.zero_le _, Nat.zero_le _⟩) hh (fun hc33 H locs hh => ?_)
      replace hh : hH D ad cI cJ cF (gset S 10 (m_X6_numbered (aset (aset P 0 15 (P 4 (P 0 10))) 0 10 (((aset P 0 15 (P 4 (P 0 10))) 0 10) + 1)) 0)) s H locs := by rw [← show _ = (gset S 10 (m_X6_numbered (aset (aset P 0 15 (P 4 (P 0 10))) 0 10 (((aset P 0 15 (P 4 (P 0 10))) 0 10) + 1)) 0)) from (gset_gset _ _ _ _)]; exact hh
      refine lv_istore_n (lv' := [(2, .int (hI (v_X6_numbered (aset (aset P 0 15 (P 4 (P 0 10))) 0 10 (((aset P 0 15 (P 4 (P 0 10))) 0 10) + 1)) 0))), (1, .int (hI (v_X6_numbersOf ((aset P 0 15 (P 4 (P 0 10))) 0 15)))), (0, .ref (ad 10 0))]) hx hb dX6_reads_57 rfl hl (by decide) rfl (fun ls hl => ?_)
      refine iv_iconst hx hb dX6_reads_58 ?_
      refine lv_istore_n (lv' := [(3, .int (hI 1)), (2, .int (hI (v_X6_numbered (aset (aset P 0 15 (P 4 (P 0 10))) 0 10 (((aset P 0 15 (P 4 (P 0 10))) 0 10) + 1)) 0))), (1, .int (hI (v_X6_numbersOf ((aset P 0 15 (P 4 (P 0 10))) 0 15)))), (0, .ref (ad 10 0))]) hx hb dX6_reads_59 rfl hl (by decide) rfl (fun ls hl => ?_)
      exact h H _ ls hh (lv_sub hl [3, 2, 1, 0] rfl)
    · have h := h.1 c29
      refine iv_iconst hx hb dX6_reads_40 ?_
      exact iv_bret E hh h.1 (by rw [← h.1]; exact (Or.inl rfl)) (by rw [← h.2]) dX6_reads_41
set_option maxHeartbeats 4000000 in
set_option maxRecDepth 100000 in
theorem ok_X6_calls (l : Launch) (hinj : hInj ad) (S : hS) (P : hGM) (hP : S 10 = P) (hp : p_X6_calls P) : hMi D ad cI cJ cF l yX6_calls cX6_calls 1 (some .int) ({ frames := 6, cells := 0, slots := 0, locals := 144 } : Room) [.ref (ad 10 0)] S (v_X6_calls P) (gset S 10 (m_X6_calls P)) := by
  refine hOf (S := S) l hinj (by decide +kernel) (Nat.le_of_ble_eq_true rfl) (fun p e s m args below meth c E => ?_)
  obtain ⟨hx, hb, hml, hown, hts, hK, hN, -, hr, hlk⟩ := id E
  have hown : s.vm.findClass RX6 = some m.cls := hown
  intro H locs ls hh hl
  have hl : lv_has ls 1 [(0, .ref (ad 10 0))] := hl
  replace hh : hH D ad cI cJ cF (gset S 10 P) s H locs := by rw [← can1 hP]; exact hh
  have h := hp
  unfold p_X6_calls at h
  refine lv_aload_n hx hb dX6_calls_0 rfl (lv_at hl 0 rfl) ?_
  refine iv_get (v' := .int (hI (P 0 15))) hx hb hts inX6 hown hK hh.1 (ob_Model) rfl 15 (by decide) (hts _ q3_175) rfl rfl (congrArg (fun z => Value.int (hI (z 0 15))) (gset_at _ _ _)) dX6_calls_1 ?_
  have hm1 : hIn (P 0 15) := hIn_rd hh.2.1 (gset_at _ _ _) (by decide)
  by_cases c2 : (P 0 15) = 103
  · have h := h.1 c2
    refine lv_lookup (off := 44) (tgt := 48) hx hb dX6_calls_4 (by decide) (by rw [hI_toInt hm1, c2]; rfl) (by decide) ?_
    refine lv_aload_n hx hb dX6_calls_48 rfl (lv_at hl 0 rfl) ?_
    refine lv_aload_n hx hb dX6_calls_49 rfl (lv_at hl 0 rfl) ?_
    refine iv_get (v' := .ref (ad 10 7)) hx hb hts inX6 hown hK hh.1 (ob_Model) rfl 16 (by decide) (hts _ q3_176) rfl rfl rfl dX6_calls_50 ?_
    refine iv_iconst hx hb dX6_calls_53 ?_
    refine iv_iald hx hb hK hh.1 (ia_10_7) ⟨by decide, by decide⟩ (v := (P 7 0)) (congrArg (fun z => z 7 0) (gset_at _ _ _)) dX6_calls_54 ?_
    have hm3 : hIn (P 7 0) := hIn_rd hh.2.1 (gset_at _ _ _) (by decide)
    obtain ⟨g4, h⟩ := h
    refine iv_ki (iv_rV (As := [.int (hI (P 7 0))]) (rest := []) E hh (ok_X6_glyph l hinj (gset S 10 P) P (gset_at _ _ _) (P 7 0) hm3 g4) cb_X6_glyph q5_9 rfl rfl ⟨Nat.le_of_ble_eq_true rfl, Nat.le_of_ble_eq_true rfl⟩ (ob_Model) rfl rfl rfl hl.1 rfl (Nat.le_of_ble_eq_true rfl) dX6_calls_55 ⟨Nat.zero_le _, Nat.zero_le _⟩) hh (fun hc5 H locs hh => ?_)
    replace hh : hH D ad cI cJ cF (gset S 10 (m_X6_glyph P (P 7 0))) s H locs := by rw [← show _ = (gset S 10 (m_X6_glyph P (P 7 0))) from (gset_gset _ _ _ _)]; exact hh
    exact iv_iret E hh (by unfold v_X6_calls; rw [if_pos c2]) (by rw [← show (v_X6_glyph P (P 7 0)) = v_X6_calls P from (by unfold v_X6_calls; rw [if_pos c2])]; exact hc5) (by unfold m_X6_calls; rw [if_pos c2]) dX6_calls_58
  · have h := h.2 c2
    by_cases c6 : (P 0 15) = 104
    · have h := h.1 c6
      refine lv_lookup (off := 78) (tgt := 82) hx hb dX6_calls_4 (by decide) (by rw [hI_toInt hm1, c6]; rfl) (by decide) ?_
      refine lv_aload_n hx hb dX6_calls_82 rfl (lv_at hl 0 rfl) ?_
      refine lv_aload_n hx hb dX6_calls_83 rfl (lv_at hl 0 rfl) ?_
      refine iv_get (v' := .ref (ad 10 7)) hx hb hts inX6 hown hK hh.1 (ob_Model) rfl 16 (by decide) (hts _ q3_176) rfl rfl rfl dX6_calls_84 ?_
      refine iv_iconst hx hb dX6_calls_87 ?_
      refine iv_iald hx hb hK hh.1 (ia_10_7) ⟨by decide, by decide⟩ (v := (P 7 0)) (congrArg (fun z => z 7 0) (gset_at _ _ _)) dX6_calls_88 ?_
      have hm7 : hIn (P 7 0) := hIn_rd hh.2.1 (gset_at _ _ _) (by decide)
      refine lv_aload_n hx hb dX6_calls_89 rfl (lv_at hl 0 rfl) ?_
      refine iv_get (v' := .ref (ad 10 7)) hx hb hts inX6 hown hK hh.1 (ob_Model) rfl 16 (by decide) (hts _ q3_176) rfl rfl rfl dX6_calls_90 ?_
      refine iv_iconst hx hb dX6_calls_93 ?_
      refine iv_iald hx hb hK hh.1 (ia_10_7) ⟨by decide, by decide⟩ (v := (P 7 1)) (congrArg (fun z => z 7 1) (gset_at _ _ _)) dX6_calls_94 ?_
      have hm8 : hIn (P 7 1) := hIn_rd hh.2.1 (gset_at _ _ _) (by decide)
      refine lv_aload_n hx hb dX6_calls_95 rfl (lv_at hl 0 rfl) ?_
      refine iv_get (v' := .ref (ad 10 7)) hx hb hts inX6 hown hK hh.1 (ob_Model) rfl 16 (by decide) (hts _ q3_176) rfl rfl rfl dX6_calls_96 ?_
      refine iv_iconst hx hb dX6_calls_99 ?_
      refine iv_iald hx hb hK hh.1 (ia_10_7) ⟨by decide, by decide⟩ (v := (P 7 2)) (congrArg (fun z => z 7 2) (gset_at _ _ _)) dX6_calls_100 ?_
      have hm9 : hIn (P 7 2) := hIn_rd hh.2.1 (gset_at _ _ _) (by decide)
      obtain ⟨g10, h⟩ := h
      refine iv_ki (iv_rV (As := [.int (hI (P 7 0)), .int (hI (P 7 1)), .int (hI (P 7 2))]) (rest := []) E hh (ok_X6_hint l hinj (gset S 10 P) P (gset_at _ _ _) (P 7 0) (P 7 1) (P 7 2) hm7 hm8 hm9 g10) cb_X6_hint q5_11 rfl rfl ⟨Nat.le_of_ble_eq_true rfl, Nat.le_of_ble_eq_true rfl⟩ (ob_Model) rfl rfl rfl hl.1 rfl (Nat.le_of_ble_eq_true rfl) dX6_calls_101 ⟨Nat.zero_le _, Nat.zero_le _⟩) hh (fun hc11 H locs hh => ?_)
      replace hh : hH D ad cI cJ cF (gset S 10 (m_X6_hint P (P 7 0) (P 7 1) (P 7 2))) s H locs := by rw [← show _ = (gset S 10 (m_X6_hint P (P 7 0) (P 7 1) (P 7 2))) from (gset_gset _ _ _ _)]; exact hh
      exact iv_iret E hh (by unfold v_X6_calls; rw [if_neg c2, if_pos c6]) (by rw [← show (v_X6_hint P (P 7 0) (P 7 1) (P 7 2)) = v_X6_calls P from (by unfold v_X6_calls; rw [if_neg c2, if_pos c6])]; exact hc11) (by unfold m_X6_calls; rw [if_neg c2, if_pos c6]) dX6_calls_104
    · have h := h.2 c6
      by_cases c12 : (P 0 15) = 115
      · have h := h.1 c12
        refine lv_lookup (off := 55) (tgt := 59) hx hb dX6_calls_4 (by decide) (by rw [hI_toInt hm1, c12]; rfl) (by decide) ?_
        refine lv_aload_n hx hb dX6_calls_59 rfl (lv_at hl 0 rfl) ?_
        refine lv_aload_n hx hb dX6_calls_60 rfl (lv_at hl 0 rfl) ?_
        refine iv_get (v' := .ref (ad 10 7)) hx hb hts inX6 hown hK hh.1 (ob_Model) rfl 16 (by decide) (hts _ q3_176) rfl rfl rfl dX6_calls_61 ?_
        refine iv_iconst hx hb dX6_calls_64 ?_
        refine iv_iald hx hb hK hh.1 (ia_10_7) ⟨by decide, by decide⟩ (v := (P 7 0)) (congrArg (fun z => z 7 0) (gset_at _ _ _)) dX6_calls_65 ?_
        have hm13 : hIn (P 7 0) := hIn_rd hh.2.1 (gset_at _ _ _) (by decide)
        refine lv_aload_n hx hb dX6_calls_66 rfl (lv_at hl 0 rfl) ?_
        refine iv_get (v' := .ref (ad 10 7)) hx hb hts inX6 hown hK hh.1 (ob_Model) rfl 16 (by decide) (hts _ q3_176) rfl rfl rfl dX6_calls_67 ?_
        refine iv_iconst hx hb dX6_calls_70 ?_
        refine iv_iald hx hb hK hh.1 (ia_10_7) ⟨by decide, by decide⟩ (v := (P 7 1)) (congrArg (fun z => z 7 1) (gset_at _ _ _)) dX6_calls_71 ?_
        have hm14 : hIn (P 7 1) := hIn_rd hh.2.1 (gset_at _ _ _) (by decide)
        refine lv_aload_n hx hb dX6_calls_72 rfl (lv_at hl 0 rfl) ?_
        refine iv_get (v' := .ref (ad 10 7)) hx hb hts inX6 hown hK hh.1 (ob_Model) rfl 16 (by decide) (hts _ q3_176) rfl rfl rfl dX6_calls_73 ?_
        refine iv_iconst hx hb dX6_calls_76 ?_
        refine iv_iald hx hb hK hh.1 (ia_10_7) ⟨by decide, by decide⟩ (v := (P 7 2)) (congrArg (fun z => z 7 2) (gset_at _ _ _)) dX6_calls_77 ?_
        have hm15 : hIn (P 7 2) := hIn_rd hh.2.1 (gset_at _ _ _) (by decide)
        obtain ⟨g16, h⟩ := h
        refine iv_ki (iv_rV (As := [.int (hI (P 7 0)), .int (hI (P 7 1)), .int (hI (P 7 2))]) (rest := []) E hh (ok_X6_stem l hinj (gset S 10 P) P (gset_at _ _ _) (P 7 0) (P 7 1) (P 7 2) hm13 hm14 hm15 g16) cb_X6_stem q5_10 rfl rfl ⟨Nat.le_of_ble_eq_true rfl, Nat.le_of_ble_eq_true rfl⟩ (ob_Model) rfl rfl rfl hl.1 rfl (Nat.le_of_ble_eq_true rfl) dX6_calls_78 ⟨Nat.zero_le _, Nat.zero_le _⟩) hh (fun hc17 H locs hh => ?_)
        replace hh : hH D ad cI cJ cF (gset S 10 (m_X6_stem P (P 7 0) (P 7 1) (P 7 2))) s H locs := by rw [← show _ = (gset S 10 (m_X6_stem P (P 7 0) (P 7 1) (P 7 2))) from (gset_gset _ _ _ _)]; exact hh
        exact iv_iret E hh (by unfold v_X6_calls; rw [if_neg c2, if_neg c6, if_pos c12]) (by rw [← show (v_X6_stem P (P 7 0) (P 7 1) (P 7 2)) = v_X6_calls P from (by unfold v_X6_calls; rw [if_neg c2, if_neg c6, if_pos c12])]; exact hc17) (by unfold m_X6_calls; rw [if_neg c2, if_neg c6, if_pos c12]) dX6_calls_81
      · have h := h.2 c12
        by_cases c18 : (P 0 15) = 119
        · have h := h.1 c18
          refine lv_lookup (off := 101) (tgt := 105) hx hb dX6_calls_4 (by decide) (by rw [hI_toInt hm1, c18]; rfl) (by decide) ?_
          refine lv_aload_n hx hb dX6_calls_105 rfl (lv_at hl 0 rfl) ?_
          refine lv_aload_n hx hb dX6_calls_106 rfl (lv_at hl 0 rfl) ?_
          refine iv_get (v' := .ref (ad 10 7)) hx hb hts inX6 hown hK hh.1 (ob_Model) rfl 16 (by decide) (hts _ q3_176) rfl rfl rfl dX6_calls_107 ?_
          refine iv_iconst hx hb dX6_calls_110 ?_
          refine iv_iald hx hb hK hh.1 (ia_10_7) ⟨by decide, by decide⟩ (v := (P 7 0)) (congrArg (fun z => z 7 0) (gset_at _ _ _)) dX6_calls_111 ?_
          have hm19 : hIn (P 7 0) := hIn_rd hh.2.1 (gset_at _ _ _) (by decide)
          obtain ⟨g20, h⟩ := h
          refine iv_ki (iv_rV (As := [.int (hI (P 7 0))]) (rest := []) E hh (ok_X6_standard l hinj (gset S 10 P) P (gset_at _ _ _) (P 7 0) hm19 g20) cb_X6_standard q5_12 rfl rfl ⟨Nat.le_of_ble_eq_true rfl, Nat.le_of_ble_eq_true rfl⟩ (ob_Model) rfl rfl rfl hl.1 rfl (Nat.le_of_ble_eq_true rfl) dX6_calls_112 ⟨Nat.zero_le _, Nat.zero_le _⟩) hh (fun hc21 H locs hh => ?_)
          replace hh : hH D ad cI cJ cF (gset S 10 (m_X6_standard P (P 7 0))) s H locs := by rw [← show _ = (gset S 10 (m_X6_standard P (P 7 0))) from (gset_gset _ _ _ _)]; exact hh
          exact iv_iret E hh (by unfold v_X6_calls; rw [if_neg c2, if_neg c6, if_neg c12, if_pos c18]) (by rw [← show (v_X6_standard P (P 7 0)) = v_X6_calls P from (by unfold v_X6_calls; rw [if_neg c2, if_neg c6, if_neg c12, if_pos c18])]; exact hc21) (by unfold m_X6_calls; rw [if_neg c2, if_neg c6, if_neg c12, if_pos c18]) dX6_calls_115
        · have h := h.2 c18
          refine lv_lookup (off := 112) (tgt := 116) hx hb dX6_calls_4 (by decide) (by rw [hI_toInt hm1]; simp only [Op.lookupswitch.offset, if_neg (Ne.symm c2), if_neg (Ne.symm c6), if_neg (Ne.symm c12), if_neg (Ne.symm c18)]) (by decide) ?_
          refine lv_aload_n hx hb dX6_calls_116 rfl (lv_at hl 0 rfl) ?_
          refine lv_aload_n hx hb dX6_calls_117 rfl (lv_at hl 0 rfl) ?_
          refine iv_get (v' := .ref (ad 10 7)) hx hb hts inX6 hown hK hh.1 (ob_Model) rfl 16 (by decide) (hts _ q3_176) rfl rfl rfl dX6_calls_118 ?_
          refine iv_iconst hx hb dX6_calls_121 ?_
          refine iv_iald hx hb hK hh.1 (ia_10_7) ⟨by decide, by decide⟩ (v := (P 7 0)) (congrArg (fun z => z 7 0) (gset_at _ _ _)) dX6_calls_122 ?_
          have hm22 : hIn (P 7 0) := hIn_rd hh.2.1 (gset_at _ _ _) (by decide)
          obtain ⟨g23, h⟩ := h
          refine iv_ki (iv_rV (As := [.int (hI (P 7 0))]) (rest := []) E hh (ok_X6_make l hinj (gset S 10 P) P (gset_at _ _ _) (P 7 0) hm22 g23) cb_X6_make q5_13 rfl rfl ⟨Nat.le_of_ble_eq_true rfl, Nat.le_of_ble_eq_true rfl⟩ (ob_Model) rfl rfl rfl hl.1 rfl (Nat.le_of_ble_eq_true rfl) dX6_calls_123 ⟨Nat.zero_le _, Nat.zero_le _⟩) hh (fun hc24 H locs hh => ?_)
          replace hh : hH D ad cI cJ cF (gset S 10 (m_X6_make P (P 7 0))) s H locs := by rw [← show _ = (gset S 10 (m_X6_make P (P 7 0))) from (gset_gset _ _ _ _)]; exact hh
          exact iv_iret E hh (by unfold v_X6_calls; rw [if_neg c2, if_neg c6, if_neg c12, if_neg c18]) (by rw [← show (v_X6_make P (P 7 0)) = v_X6_calls P from (by unfold v_X6_calls; rw [if_neg c2, if_neg c6, if_neg c12, if_neg c18])]; exact hc24) (by unfold m_X6_calls; rw [if_neg c2, if_neg c6, if_neg c12, if_neg c18]) dX6_calls_126
set_option maxHeartbeats 4000000 in
set_option maxRecDepth 100000 in
theorem ok_X6_plays (l : Launch) (hinj : hInj ad) (S : hS) (P : hGM) (hP : S 10 = P) (hp : p_X6_plays P) : hMi D ad cI cJ cF l yX6_plays cX6_plays 4 (some .boolean) ({ frames := 7, cells := 0, slots := 0, locals := 164 } : Room) [.ref (ad 10 0)] S (v_X6_plays P) (gset S 10 (m_X6_plays P)) := by
  refine hOf (S := S) l hinj (by decide +kernel) (Nat.le_of_ble_eq_true rfl) (fun p e s m args below meth c E => ?_)
  obtain ⟨hx, hb, hml, hown, hts, hK, hN, -, hr, hlk⟩ := id E
  have hown : s.vm.findClass RX6 = some m.cls := hown
  have r22 : ∀ (y1 : Int) (P1 : hGM), hIn y1 → ((∀ (i : Nat) (k : Int), i < 100 → hIn (P1 i k)) → (((P1 0 10) < (P1 0 6) → ((y1 = 0 → ((y1 = 0 ∨ y1 = 1) ∧ (y1 = v_X6_plays P ∧ (aset P1 0 4 0) = m_X6_plays P))) ∧ (¬ y1 = 0 → (p_X6_reads (aset P1 0 11 (P1 0 10)) ∧ (((v_X6_reads (aset P1 0 11 (P1 0 10))) = 0 → (hIn (((aset (m_X6_reads (aset P1 0 11 (P1 0 10))) 0 12 1) 0 10) - ((aset (m_X6_reads (aset P1 0 11 (P1 0 10))) 0 12 1) 0 11)) ∧ (hIn (((aset (aset (m_X6_reads (aset P1 0 11 (P1 0 10))) 0 12 1) 0 13 (((aset (m_X6_reads (aset P1 0 11 (P1 0 10))) 0 12 1) 0 10) - ((aset (m_X6_reads (aset P1 0 11 (P1 0 10))) 0 12 1) 0 11))) 0 14) + 1) ∧ (hAt D ad cI cJ cF p l e ({ frames := 7, cells := 0, slots := 0, locals := 164 } : Room) s m args below meth c (MQ below (hQi D ad cI cJ cF (v_X6_plays P) (gset S 10 (m_X6_plays P))) args s 0 0 (hAd ad)) 4 22 [(0, .ref (ad 10 0)), (1, .int (hI 0))] (gset S 10 (aset (aset (aset (m_X6_reads (aset P1 0 11 (P1 0 10))) 0 12 1) 0 13 (((aset (m_X6_reads (aset P1 0 11 (P1 0 10))) 0 12 1) 0 10) - ((aset (m_X6_reads (aset P1 0 11 (P1 0 10))) 0 12 1) 0 11))) 0 14 (((aset (aset (m_X6_reads (aset P1 0 11 (P1 0 10))) 0 12 1) 0 13 (((aset (m_X6_reads (aset P1 0 11 (P1 0 10))) 0 12 1) 0 10) - ((aset (m_X6_reads (aset P1 0 11 (P1 0 10))) 0 12 1) 0 11))) 0 14) + 1))))))) ∧ (¬ (v_X6_reads (aset P1 0 11 (P1 0 10))) = 0 → (p_X6_calls (m_X6_reads (aset P1 0 11 (P1 0 10))) ∧ (((v_X6_calls (m_X6_reads (aset P1 0 11 (P1 0 10)))) < 0 → (hIn (((aset (aset (m_X6_calls (m_X6_reads (aset P1 0 11 (P1 0 10)))) 0 12 2) 0 13 (v_X6_calls (m_X6_reads (aset P1 0 11 (P1 0 10))))) 0 14) + 1) ∧ (hAt D ad cI cJ cF p l e ({ frames := 7, cells := 0, slots := 0, locals := 164 } : Room) s m args below meth c (MQ below (hQi D ad cI cJ cF (v_X6_plays P) (gset S 10 (m_X6_plays P))) args s 0 0 (hAd ad)) 4 22 [(0, .ref (ad 10 0)), (1, .int (hI 0))] (gset S 10 (aset (aset (aset (m_X6_calls (m_X6_reads (aset P1 0 11 (P1 0 10)))) 0 12 2) 0 13 (v_X6_calls (m_X6_reads (aset P1 0 11 (P1 0 10))))) 0 14 (((aset (aset (m_X6_calls (m_X6_reads (aset P1 0 11 (P1 0 10)))) 0 12 2) 0 13 (v_X6_calls (m_X6_reads (aset P1 0 11 (P1 0 10))))) 0 14) + 1)))))) ∧ (¬ (v_X6_calls (m_X6_reads (aset P1 0 11 (P1 0 10)))) < 0 → (hIn (((aset (aset (m_X6_calls (m_X6_reads (aset P1 0 11 (P1 0 10)))) 0 12 2) 0 13 (v_X6_calls (m_X6_reads (aset P1 0 11 (P1 0 10))))) 0 14) + 1) ∧ (hAt D ad cI cJ cF p l e ({ frames := 7, cells := 0, slots := 0, locals := 164 } : Room) s m args below meth c (MQ below (hQi D ad cI cJ cF (v_X6_plays P) (gset S 10 (m_X6_plays P))) args s 0 0 (hAd ad)) 4 22 [(0, .ref (ad 10 0)), (1, .int (hI 1))] (gset S 10 (aset (aset (aset (m_X6_calls (m_X6_reads (aset P1 0 11 (P1 0 10)))) 0 12 2) 0 13 (v_X6_calls (m_X6_reads (aset P1 0 11 (P1 0 10))))) 0 14 (((aset (aset (m_X6_calls (m_X6_reads (aset P1 0 11 (P1 0 10)))) 0 12 2) 0 13 (v_X6_calls (m_X6_reads (aset P1 0 11 (P1 0 10))))) 0 14) + 1)))))))))))))) ∧ (¬ (P1 0 10) < (P1 0 6) → ((y1 = 0 ∨ y1 = 1) ∧ (y1 = v_X6_plays P ∧ (aset P1 0 4 0) = m_X6_plays P))))) → (hAt D ad cI cJ cF p l e ({ frames := 7, cells := 0, slots := 0, locals := 164 } : Room) s m args below meth c (MQ below (hQi D ad cI cJ cF (v_X6_plays P) (gset S 10 (m_X6_plays P))) args s 0 0 (hAd ad)) 4 22 [(0, .ref (ad 10 0)), (1, .int (hI y1))] (gset S 10 P1)) := by
    intro y1 P1 h_y1 h H locs ls hh hl
    have h := h (fun i k hi => hIn_rd hh.2.1 (gset_at _ _ _) hi)
    refine lv_aload_n hx hb dX6_plays_22 rfl (lv_at hl 0 rfl) ?_
    refine iv_get (v' := .int (hI (P1 0 10))) hx hb hts inX6 hown hK hh.1 (ob_Model) rfl 10 (by decide) (hts _ q3_170) rfl rfl (congrArg (fun z => Value.int (hI (z 0 10))) (gset_at _ _ _)) dX6_plays_23 ?_
    have hm1 : hIn (P1 0 10) := hIn_rd hh.2.1 (gset_at _ _ _) (by decide)
    refine lv_aload_n hx hb dX6_plays_26 rfl (lv_at hl 0 rfl) ?_
    refine iv_get (v' := .int (hI (P1 0 6))) hx hb hts inX6 hown hK hh.1 (ob_Model) rfl 6 (by decide) (hts _ q3_166) rfl rfl (congrArg (fun z => Value.int (hI (z 0 6))) (gset_at _ _ _)) dX6_plays_27 ?_
    have hm2 : hIn (P1 0 6) := hIn_rd hh.2.1 (gset_at _ _ _) (by decide)
    refine iv_icmp_ge (tgt := 124) hx hb hm1 hm2 dX6_plays_30 (by decide) (fun c3 => ?_) (fun c3 => ?_)
    · have h := h.2 c3
      refine lv_aload_n hx hb dX6_plays_124 rfl (lv_at hl 0 rfl) ?_
      refine iv_iconst hx hb dX6_plays_125 ?_
      refine iv_put (S' := (gset S 10 (aset P1 0 4 0))) (ty := .boolean) hx hb hts inX6 tyX6 tyX6_ok nmX6 hown hK hinj hh (by decide) un_Model (Or.inl rfl) (ob_Model) rfl 4 (by decide) (hts _ q3_164) rfl rfl (by decide +kernel) (by decide +kernel) (by decide +kernel) (Nat.le_of_ble_eq_true rfl) (pu_Model_runs) (Or.inl ⟨by decide, by decide⟩) (by rw [show (gset S 10 P1) 10 = P1 from (gset_at _ _ _)]; exact (gset_gset _ _ _ _)) dX6_plays_126 (fun H locs hh => ?_)
      refine lv_iload_n hx hb dX6_plays_129 rfl (lv_at hl 1 rfl) ?_
      obtain ⟨g4, h⟩ := h
      exact iv_bret E hh h.1 (by rw [← h.1]; exact g4) (by rw [← h.2]) dX6_plays_130
    · have h := h.1 c3
      refine lv_iload_n hx hb dX6_plays_33 rfl (lv_at hl 1 rfl) ?_
      refine iv_if_eq (tgt := 124) hx hb h_y1 dX6_plays_34 (by decide) (fun c5 => ?_) (fun c5 => ?_)
      · have h := h.1 c5
        refine lv_aload_n hx hb dX6_plays_124 rfl (lv_at hl 0 rfl) ?_
        refine iv_iconst hx hb dX6_plays_125 ?_
        refine iv_put (S' := (gset S 10 (aset P1 0 4 0))) (ty := .boolean) hx hb hts inX6 tyX6 tyX6_ok nmX6 hown hK hinj hh (by decide) un_Model (Or.inl rfl) (ob_Model) rfl 4 (by decide) (hts _ q3_164) rfl rfl (by decide +kernel) (by decide +kernel) (by decide +kernel) (Nat.le_of_ble_eq_true rfl) (pu_Model_runs) (Or.inl ⟨by decide, by decide⟩) (by rw [show (gset S 10 P1) 10 = P1 from (gset_at _ _ _)]; exact (gset_gset _ _ _ _)) dX6_plays_126 (fun H locs hh => ?_)
        refine lv_iload_n hx hb dX6_plays_129 rfl (lv_at hl 1 rfl) ?_
        obtain ⟨g6, h⟩ := h
        exact iv_bret E hh h.1 (by rw [← h.1]; exact g6) (by rw [← h.2]) dX6_plays_130
      · have h := h.2 c5
        refine lv_aload_n hx hb dX6_plays_37 rfl (lv_at hl 0 rfl) ?_
        refine lv_aload_n hx hb dX6_plays_38 rfl (lv_at hl 0 rfl) ?_
        refine iv_get (v' := .int (hI (P1 0 10))) hx hb hts inX6 hown hK hh.1 (ob_Model) rfl 10 (by decide) (hts _ q3_170) rfl rfl (congrArg (fun z => Value.int (hI (z 0 10))) (gset_at _ _ _)) dX6_plays_39 ?_
        have hm7 : hIn (P1 0 10) := hIn_rd hh.2.1 (gset_at _ _ _) (by decide)
        refine iv_put (S' := (gset S 10 (aset P1 0 11 (P1 0 10)))) (ty := .int) hx hb hts inX6 tyX6 tyX6_ok nmX6 hown hK hinj hh (by decide) un_Model (Or.inl rfl) (ob_Model) rfl 11 (by decide) (hts _ q3_171) rfl rfl (by decide +kernel) rfl rfl (Nat.le_of_ble_eq_true rfl) (pu_Model_from) (Or.inl hm7) (by rw [show (gset S 10 P1) 10 = P1 from (gset_at _ _ _)]; exact (gset_gset _ _ _ _)) dX6_plays_42 (fun H locs hh => ?_)
        refine lv_aload_n hx hb dX6_plays_45 rfl (lv_at hl 0 rfl) ?_
        obtain ⟨g8, h⟩ := h
        refine iv_ki (iv_rV (As := []) (rest := []) E hh (ok_X6_reads l hinj (gset S 10 (aset P1 0 11 (P1 0 10))) (aset P1 0 11 (P1 0 10)) (gset_at _ _ _) g8) cb_X6_reads q4_226 rfl rfl ⟨Nat.le_of_ble_eq_true rfl, Nat.le_of_ble_eq_true rfl⟩ (ob_Model) rfl rfl rfl hl.1 rfl (Nat.le_of_ble_eq_true rfl) dX6_plays_46 ⟨Nat.zero_le _, Nat.zero_le _⟩) hh (fun hc9 H locs hh => ?_)
        replace hh : hH D ad cI cJ cF (gset S 10 (m_X6_reads (aset P1 0 11 (P1 0 10)))) s H locs := by rw [← show _ = (gset S 10 (m_X6_reads (aset P1 0 11 (P1 0 10)))) from (gset_gset _ _ _ _)]; exact hh
        refine lv_istore_n (lv' := [(2, .int (hI (v_X6_reads (aset P1 0 11 (P1 0 10))))), (0, .ref (ad 10 0)), (1, .int (hI y1))]) hx hb dX6_plays_49 rfl hl (by decide) rfl (fun ls hl => ?_)
        refine lv_iload_n hx hb dX6_plays_50 rfl (lv_at hl 0 rfl) ?_
        refine iv_if_eq (tgt := 61) hx hb hc9 dX6_plays_51 (by decide) (fun c10 => ?_) (fun c10 => ?_)
        · have h := h.1 c10
          refine iv_iconst hx hb dX6_plays_61 ?_
          refine lv_istore_n (lv' := [(3, .int (hI 0)), (2, .int (hI (v_X6_reads (aset P1 0 11 (P1 0 10))))), (0, .ref (ad 10 0)), (1, .int (hI y1))]) hx hb dX6_plays_62 rfl hl (by decide) rfl (fun ls hl => ?_)
          refine lv_iload_n hx hb dX6_plays_63 rfl (lv_at hl 1 rfl) ?_
          refine iv_if_eq (tgt := 75) hx hb hc9 dX6_plays_64 (by decide) (fun c11 => ?_) (fun c11 => ?_)
          · refine iv_iconst hx hb dX6_plays_75 ?_
            refine lv_istore_n (lv' := [(1, .int (hI 0)), (3, .int (hI 0)), (2, .int (hI (v_X6_reads (aset P1 0 11 (P1 0 10))))), (0, .ref (ad 10 0))]) hx hb dX6_plays_76 rfl hl (by decide) rfl (fun ls hl => ?_)
            refine lv_aload_n hx hb dX6_plays_77 rfl (lv_at hl 3 rfl) ?_
            refine lv_iload_n hx hb dX6_plays_78 rfl (lv_at hl 2 rfl) ?_
            refine iv_if_eq (tgt := 86) hx hb hc9 dX6_plays_79 (by decide) (fun c12 => ?_) (fun c12 => ?_)
            · refine iv_iconst hx hb dX6_plays_86 ?_
              refine iv_put (S' := (gset S 10 (aset (m_X6_reads (aset P1 0 11 (P1 0 10))) 0 12 1))) (ty := .int) hx hb hts inX6 tyX6 tyX6_ok nmX6 hown hK hinj hh (by decide) un_Model (Or.inl rfl) (ob_Model) rfl 12 (by decide) (hts _ q3_172) rfl rfl (by decide +kernel) rfl rfl (Nat.le_of_ble_eq_true rfl) (pu_Model_reason) (Or.inl ⟨by decide, by decide⟩) (by rw [show (gset S 10 (m_X6_reads (aset P1 0 11 (P1 0 10)))) 10 = (m_X6_reads (aset P1 0 11 (P1 0 10))) from (gset_at _ _ _)]; exact (gset_gset _ _ _ _)) dX6_plays_87 (fun H locs hh => ?_)
              refine lv_aload_n hx hb dX6_plays_90 rfl (lv_at hl 3 rfl) ?_
              refine lv_iload_n hx hb dX6_plays_91 rfl (lv_at hl 2 rfl) ?_
              refine iv_if_eq (tgt := 99) hx hb hc9 dX6_plays_92 (by decide) (fun c13 => ?_) (fun c13 => ?_)
              · refine lv_aload_n hx hb dX6_plays_99 rfl (lv_at hl 3 rfl) ?_
                refine iv_get (v' := .int (hI ((aset (m_X6_reads (aset P1 0 11 (P1 0 10))) 0 12 1) 0 10))) hx hb hts inX6 hown hK hh.1 (ob_Model) rfl 10 (by decide) (hts _ q3_170) rfl rfl (congrArg (fun z => Value.int (hI (z 0 10))) (gset_at _ _ _)) dX6_plays_100 ?_
                have hm14 : hIn ((aset (m_X6_reads (aset P1 0 11 (P1 0 10))) 0 12 1) 0 10) := hIn_rd hh.2.1 (gset_at _ _ _) (by decide)
                refine lv_aload_n hx hb dX6_plays_103 rfl (lv_at hl 3 rfl) ?_
                refine iv_get (v' := .int (hI ((aset (m_X6_reads (aset P1 0 11 (P1 0 10))) 0 12 1) 0 11))) hx hb hts inX6 hown hK hh.1 (ob_Model) rfl 11 (by decide) (hts _ q3_171) rfl rfl (congrArg (fun z => Value.int (hI (z 0 11))) (gset_at _ _ _)) dX6_plays_104 ?_
                have hm15 : hIn ((aset (m_X6_reads (aset P1 0 11 (P1 0 10))) 0 12 1) 0 11) := hIn_rd hh.2.1 (gset_at _ _ _) (by decide)
                refine iv_isub hx hb dX6_plays_107 ?_
                obtain ⟨g16, h⟩ := h
                refine iv_put (S' := (gset S 10 (aset (aset (m_X6_reads (aset P1 0 11 (P1 0 10))) 0 12 1) 0 13 (((aset (m_X6_reads (aset P1 0 11 (P1 0 10))) 0 12 1) 0 10) - ((aset (m_X6_reads (aset P1 0 11 (P1 0 10))) 0 12 1) 0 11))))) (ty := .int) hx hb hts inX6 tyX6 tyX6_ok nmX6 hown hK hinj hh (by decide) un_Model (Or.inl rfl) (ob_Model) rfl 13 (by decide) (hts _ q3_173) rfl rfl (by decide +kernel) rfl rfl (Nat.le_of_ble_eq_true rfl) (pu_Model_cause) (Or.inl g16) (by rw [show (gset S 10 (aset (m_X6_reads (aset P1 0 11 (P1 0 10))) 0 12 1)) 10 = (aset (m_X6_reads (aset P1 0 11 (P1 0 10))) 0 12 1) from (gset_at _ _ _)]; exact (gset_gset _ _ _ _)) dX6_plays_108 (fun H locs hh => ?_)
                refine lv_aload_n hx hb dX6_plays_111 rfl (lv_at hl 3 rfl) ?_
                refine lv_dup hx hb dX6_plays_112 rfl ?_
                refine iv_get (v' := .int (hI ((aset (aset (m_X6_reads (aset P1 0 11 (P1 0 10))) 0 12 1) 0 13 (((aset (m_X6_reads (aset P1 0 11 (P1 0 10))) 0 12 1) 0 10) - ((aset (m_X6_reads (aset P1 0 11 (P1 0 10))) 0 12 1) 0 11))) 0 14))) hx hb hts inX6 hown hK hh.1 (ob_Model) rfl 14 (by decide) (hts _ q3_174) rfl rfl (congrArg (fun z => Value.int (hI (z 0 14))) (gset_at _ _ _)) dX6_plays_113 ?_
                have hm17 : hIn ((aset (aset (m_X6_reads (aset P1 0 11 (P1 0 10))) 0 12 1) 0 13 (((aset (m_X6_reads (aset P1 0 11 (P1 0 10))) 0 12 1) 0 10) - ((aset (m_X6_reads (aset P1 0 11 (P1 0 10))) 0 12 1) 0 11))) 0 14) := hIn_rd hh.2.1 (gset_at _ _ _) (by decide)
                refine iv_iconst hx hb dX6_plays_116 ?_
                refine iv_iadd hx hb dX6_plays_117 ?_
                obtain ⟨g18, h⟩ := h
                refine iv_put (S' := (gset S 10 (aset (aset (aset (m_X6_reads (aset P1 0 11 (P1 0 10))) 0 12 1) 0 13 (((aset (m_X6_reads (aset P1 0 11 (P1 0 10))) 0 12 1) 0 10) - ((aset (m_X6_reads (aset P1 0 11 (P1 0 10))) 0 12 1) 0 11))) 0 14 (((aset (aset (m_X6_reads (aset P1 0 11 (P1 0 10))) 0 12 1) 0 13 (((aset (m_X6_reads (aset P1 0 11 (P1 0 10))) 0 12 1) 0 10) - ((aset (m_X6_reads (aset P1 0 11 (P1 0 10))) 0 12 1) 0 11))) 0 14) + 1)))) (ty := .int) hx hb hts inX6 tyX6 tyX6_ok nmX6 hown hK hinj hh (by decide) un_Model (Or.inl rfl) (ob_Model) rfl 14 (by decide) (hts _ q3_174) rfl rfl (by decide +kernel) rfl rfl (Nat.le_of_ble_eq_true rfl) (pu_Model_orders) (Or.inl g18) (by rw [show (gset S 10 (aset (aset (m_X6_reads (aset P1 0 11 (P1 0 10))) 0 12 1) 0 13 (((aset (m_X6_reads (aset P1 0 11 (P1 0 10))) 0 12 1) 0 10) - ((aset (m_X6_reads (aset P1 0 11 (P1 0 10))) 0 12 1) 0 11)))) 10 = (aset (aset (m_X6_reads (aset P1 0 11 (P1 0 10))) 0 12 1) 0 13 (((aset (m_X6_reads (aset P1 0 11 (P1 0 10))) 0 12 1) 0 10) - ((aset (m_X6_reads (aset P1 0 11 (P1 0 10))) 0 12 1) 0 11))) from (gset_at _ _ _)]; exact (gset_gset _ _ _ _)) dX6_plays_118 (fun H locs hh => ?_)
                refine lv_goto (tgt := 22) hx hb dX6_plays_121 (by decide) ?_
                exact h H _ ls hh (lv_sub hl [3, 0] rfl)
              · exact absurd c10 c13
            · exact absurd c10 c12
          · exact absurd c10 c11
        · have h := h.2 c10
          refine lv_aload_n hx hb dX6_plays_54 rfl (lv_at hl 1 rfl) ?_
          obtain ⟨g19, h⟩ := h
          refine iv_ki (iv_rV (As := []) (rest := []) E hh (ok_X6_calls l hinj (gset S 10 (m_X6_reads (aset P1 0 11 (P1 0 10)))) (m_X6_reads (aset P1 0 11 (P1 0 10))) (gset_at _ _ _) g19) cb_X6_calls q5_5 rfl rfl ⟨Nat.le_of_ble_eq_true rfl, Nat.le_of_ble_eq_true rfl⟩ (ob_Model) rfl rfl rfl hl.1 rfl (Nat.le_of_ble_eq_true rfl) dX6_plays_55 ⟨Nat.zero_le _, Nat.zero_le _⟩) hh (fun hc20 H locs hh => ?_)
          replace hh : hH D ad cI cJ cF (gset S 10 (m_X6_calls (m_X6_reads (aset P1 0 11 (P1 0 10))))) s H locs := by rw [← show _ = (gset S 10 (m_X6_calls (m_X6_reads (aset P1 0 11 (P1 0 10))))) from (gset_gset _ _ _ _)]; exact hh
          refine lv_goto (tgt := 62) hx hb dX6_plays_58 (by decide) ?_
          refine lv_istore_n (lv' := [(3, .int (hI (v_X6_calls (m_X6_reads (aset P1 0 11 (P1 0 10)))))), (2, .int (hI (v_X6_reads (aset P1 0 11 (P1 0 10))))), (0, .ref (ad 10 0)), (1, .int (hI y1))]) hx hb dX6_plays_62 rfl hl (by decide) rfl (fun ls hl => ?_)
          refine lv_iload_n hx hb dX6_plays_63 rfl (lv_at hl 1 rfl) ?_
          refine iv_if_eq (tgt := 75) hx hb hc9 dX6_plays_64 (by decide) (fun c21 => ?_) (fun c21 => ?_)
          · exact absurd c21 c10
          · refine lv_iload_n hx hb dX6_plays_67 rfl (lv_at hl 0 rfl) ?_
            refine iv_if_lt (tgt := 75) hx hb hc20 dX6_plays_68 (by decide) (fun c22 => ?_) (fun c22 => ?_)
            · have h := h.1 c22
              refine iv_iconst hx hb dX6_plays_75 ?_
              refine lv_istore_n (lv' := [(1, .int (hI 0)), (3, .int (hI (v_X6_calls (m_X6_reads (aset P1 0 11 (P1 0 10)))))), (2, .int (hI (v_X6_reads (aset P1 0 11 (P1 0 10))))), (0, .ref (ad 10 0))]) hx hb dX6_plays_76 rfl hl (by decide) rfl (fun ls hl => ?_)
              refine lv_aload_n hx hb dX6_plays_77 rfl (lv_at hl 3 rfl) ?_
              refine lv_iload_n hx hb dX6_plays_78 rfl (lv_at hl 2 rfl) ?_
              refine iv_if_eq (tgt := 86) hx hb hc9 dX6_plays_79 (by decide) (fun c23 => ?_) (fun c23 => ?_)
              · exact absurd c23 c10
              · refine iv_iconst hx hb dX6_plays_82 ?_
                refine lv_goto (tgt := 87) hx hb dX6_plays_83 (by decide) ?_
                refine iv_put (S' := (gset S 10 (aset (m_X6_calls (m_X6_reads (aset P1 0 11 (P1 0 10)))) 0 12 2))) (ty := .int) hx hb hts inX6 tyX6 tyX6_ok nmX6 hown hK hinj hh (by decide) un_Model (Or.inl rfl) (ob_Model) rfl 12 (by decide) (hts _ q3_172) rfl rfl (by decide +kernel) rfl rfl (Nat.le_of_ble_eq_true rfl) (pu_Model_reason) (Or.inl ⟨by decide, by decide⟩) (by rw [show (gset S 10 (m_X6_calls (m_X6_reads (aset P1 0 11 (P1 0 10))))) 10 = (m_X6_calls (m_X6_reads (aset P1 0 11 (P1 0 10)))) from (gset_at _ _ _)]; exact (gset_gset _ _ _ _)) dX6_plays_87 (fun H locs hh => ?_)
                refine lv_aload_n hx hb dX6_plays_90 rfl (lv_at hl 3 rfl) ?_
                refine lv_iload_n hx hb dX6_plays_91 rfl (lv_at hl 2 rfl) ?_
                refine iv_if_eq (tgt := 99) hx hb hc9 dX6_plays_92 (by decide) (fun c24 => ?_) (fun c24 => ?_)
                · exact absurd c24 c10
                · refine lv_iload_n hx hb dX6_plays_95 rfl (lv_at hl 1 rfl) ?_
                  refine lv_goto (tgt := 108) hx hb dX6_plays_96 (by decide) ?_
                  refine iv_put (S' := (gset S 10 (aset (aset (m_X6_calls (m_X6_reads (aset P1 0 11 (P1 0 10)))) 0 12 2) 0 13 (v_X6_calls (m_X6_reads (aset P1 0 11 (P1 0 10))))))) (ty := .int) hx hb hts inX6 tyX6 tyX6_ok nmX6 hown hK hinj hh (by decide) un_Model (Or.inl rfl) (ob_Model) rfl 13 (by decide) (hts _ q3_173) rfl rfl (by decide +kernel) rfl rfl (Nat.le_of_ble_eq_true rfl) (pu_Model_cause) (Or.inl hc20) (by rw [show (gset S 10 (aset (m_X6_calls (m_X6_reads (aset P1 0 11 (P1 0 10)))) 0 12 2)) 10 = (aset (m_X6_calls (m_X6_reads (aset P1 0 11 (P1 0 10)))) 0 12 2) from (gset_at _ _ _)]; exact (gset_gset _ _ _ _)) dX6_plays_108 (fun H locs hh => ?_)
                  refine lv_aload_n hx hb dX6_plays_111 rfl (lv_at hl 3 rfl) ?_
                  refine lv_dup hx hb dX6_plays_112 rfl ?_
                  refine iv_get (v' := .int (hI ((aset (aset (m_X6_calls (m_X6_reads (aset P1 0 11 (P1 0 10)))) 0 12 2) 0 13 (v_X6_calls (m_X6_reads (aset P1 0 11 (P1 0 10))))) 0 14))) hx hb hts inX6 hown hK hh.1 (ob_Model) rfl 14 (by decide) (hts _ q3_174) rfl rfl (congrArg (fun z => Value.int (hI (z 0 14))) (gset_at _ _ _)) dX6_plays_113 ?_
                  have hm25 : hIn ((aset (aset (m_X6_calls (m_X6_reads (aset P1 0 11 (P1 0 10)))) 0 12 2) 0 13 (v_X6_calls (m_X6_reads (aset P1 0 11 (P1 0 10))))) 0 14) := hIn_rd hh.2.1 (gset_at _ _ _) (by decide)
                  refine iv_iconst hx hb dX6_plays_116 ?_
                  refine iv_iadd hx hb dX6_plays_117 ?_
                  obtain ⟨g26, h⟩ := h
                  refine iv_put (S' := (gset S 10 (aset (aset (aset (m_X6_calls (m_X6_reads (aset P1 0 11 (P1 0 10)))) 0 12 2) 0 13 (v_X6_calls (m_X6_reads (aset P1 0 11 (P1 0 10))))) 0 14 (((aset (aset (m_X6_calls (m_X6_reads (aset P1 0 11 (P1 0 10)))) 0 12 2) 0 13 (v_X6_calls (m_X6_reads (aset P1 0 11 (P1 0 10))))) 0 14) + 1)))) (ty := .int) hx hb hts inX6 tyX6 tyX6_ok nmX6 hown hK hinj hh (by decide) un_Model (Or.inl rfl) (ob_Model) rfl 14 (by decide) (hts _ q3_174) rfl rfl (by decide +kernel) rfl rfl (Nat.le_of_ble_eq_true rfl) (pu_Model_orders) (Or.inl g26) (by rw [show (gset S 10 (aset (aset (m_X6_calls (m_X6_reads (aset P1 0 11 (P1 0 10)))) 0 12 2) 0 13 (v_X6_calls (m_X6_reads (aset P1 0 11 (P1 0 10)))))) 10 = (aset (aset (m_X6_calls (m_X6_reads (aset P1 0 11 (P1 0 10)))) 0 12 2) 0 13 (v_X6_calls (m_X6_reads (aset P1 0 11 (P1 0 10))))) from (gset_at _ _ _)]; exact (gset_gset _ _ _ _)) dX6_plays_118 (fun H locs hh => ?_)
                  refine lv_goto (tgt := 22) hx hb dX6_plays_121 (by decide) ?_
                  exact h H _ ls hh (lv_sub hl [3, 0] rfl)
            · have h := h.2 c22
              refine iv_iconst hx hb dX6_plays_71 ?_
              refine lv_goto (tgt := 76) hx hb dX6_plays_72 (by decide) ?_
              refine lv_istore_n (lv' := [(1, .int (hI 1)), (3, .int (hI (v_X6_calls (m_X6_reads (aset P1 0 11 (P1 0 10)))))), (2, .int (hI (v_X6_reads (aset P1 0 11 (P1 0 10))))), (0, .ref (ad 10 0))]) hx hb dX6_plays_76 rfl hl (by decide) rfl (fun ls hl => ?_)
              refine lv_aload_n hx hb dX6_plays_77 rfl (lv_at hl 3 rfl) ?_
              refine lv_iload_n hx hb dX6_plays_78 rfl (lv_at hl 2 rfl) ?_
              refine iv_if_eq (tgt := 86) hx hb hc9 dX6_plays_79 (by decide) (fun c27 => ?_) (fun c27 => ?_)
              · exact absurd c27 c10
              · refine iv_iconst hx hb dX6_plays_82 ?_
                refine lv_goto (tgt := 87) hx hb dX6_plays_83 (by decide) ?_
                refine iv_put (S' := (gset S 10 (aset (m_X6_calls (m_X6_reads (aset P1 0 11 (P1 0 10)))) 0 12 2))) (ty := .int) hx hb hts inX6 tyX6 tyX6_ok nmX6 hown hK hinj hh (by decide) un_Model (Or.inl rfl) (ob_Model) rfl 12 (by decide) (hts _ q3_172) rfl rfl (by decide +kernel) rfl rfl (Nat.le_of_ble_eq_true rfl) (pu_Model_reason) (Or.inl ⟨by decide, by decide⟩) (by rw [show (gset S 10 (m_X6_calls (m_X6_reads (aset P1 0 11 (P1 0 10))))) 10 = (m_X6_calls (m_X6_reads (aset P1 0 11 (P1 0 10)))) from (gset_at _ _ _)]; exact (gset_gset _ _ _ _)) dX6_plays_87 (fun H locs hh => ?_)
                refine lv_aload_n hx hb dX6_plays_90 rfl (lv_at hl 3 rfl) ?_
                refine lv_iload_n hx hb dX6_plays_91 rfl (lv_at hl 2 rfl) ?_
                refine iv_if_eq (tgt := 99) hx hb hc9 dX6_plays_92 (by decide) (fun c28 => ?_) (fun c28 => ?_)
                · exact absurd c28 c10
                · refine lv_iload_n hx hb dX6_plays_95 rfl (lv_at hl 1 rfl) ?_
                  refine lv_goto (tgt := 108) hx hb dX6_plays_96 (by decide) ?_
                  refine iv_put (S' := (gset S 10 (aset (aset (m_X6_calls (m_X6_reads (aset P1 0 11 (P1 0 10)))) 0 12 2) 0 13 (v_X6_calls (m_X6_reads (aset P1 0 11 (P1 0 10))))))) (ty := .int) hx hb hts inX6 tyX6 tyX6_ok nmX6 hown hK hinj hh (by decide) un_Model (Or.inl rfl) (ob_Model) rfl 13 (by decide) (hts _ q3_173) rfl rfl (by decide +kernel) rfl rfl (Nat.le_of_ble_eq_true rfl) (pu_Model_cause) (Or.inl hc20) (by rw [show (gset S 10 (aset (m_X6_calls (m_X6_reads (aset P1 0 11 (P1 0 10)))) 0 12 2)) 10 = (aset (m_X6_calls (m_X6_reads (aset P1 0 11 (P1 0 10)))) 0 12 2) from (gset_at _ _ _)]; exact (gset_gset _ _ _ _)) dX6_plays_108 (fun H locs hh => ?_)
                  refine lv_aload_n hx hb dX6_plays_111 rfl (lv_at hl 3 rfl) ?_
                  refine lv_dup hx hb dX6_plays_112 rfl ?_
                  refine iv_get (v' := .int (hI ((aset (aset (m_X6_calls (m_X6_reads (aset P1 0 11 (P1 0 10)))) 0 12 2) 0 13 (v_X6_calls (m_X6_reads (aset P1 0 11 (P1 0 10))))) 0 14))) hx hb hts inX6 hown hK hh.1 (ob_Model) rfl 14 (by decide) (hts _ q3_174) rfl rfl (congrArg (fun z => Value.int (hI (z 0 14))) (gset_at _ _ _)) dX6_plays_113 ?_
                  have hm29 : hIn ((aset (aset (m_X6_calls (m_X6_reads (aset P1 0 11 (P1 0 10)))) 0 12 2) 0 13 (v_X6_calls (m_X6_reads (aset P1 0 11 (P1 0 10))))) 0 14) := hIn_rd hh.2.1 (gset_at _ _ _) (by decide)
                  refine iv_iconst hx hb dX6_plays_116 ?_
                  refine iv_iadd hx hb dX6_plays_117 ?_
                  obtain ⟨g30, h⟩ := h
                  refine iv_put (S' := (gset S 10 (aset (aset (aset (m_X6_calls (m_X6_reads (aset P1 0 11 (P1 0 10)))) 0 12 2) 0 13 (v_X6_calls (m_X6_reads (aset P1 0 11 (P1 0 10))))) 0 14 (((aset (aset (m_X6_calls (m_X6_reads (aset P1 0 11 (P1 0 10)))) 0 12 2) 0 13 (v_X6_calls (m_X6_reads (aset P1 0 11 (P1 0 10))))) 0 14) + 1)))) (ty := .int) hx hb hts inX6 tyX6 tyX6_ok nmX6 hown hK hinj hh (by decide) un_Model (Or.inl rfl) (ob_Model) rfl 14 (by decide) (hts _ q3_174) rfl rfl (by decide +kernel) rfl rfl (Nat.le_of_ble_eq_true rfl) (pu_Model_orders) (Or.inl g30) (by rw [show (gset S 10 (aset (aset (m_X6_calls (m_X6_reads (aset P1 0 11 (P1 0 10)))) 0 12 2) 0 13 (v_X6_calls (m_X6_reads (aset P1 0 11 (P1 0 10)))))) 10 = (aset (aset (m_X6_calls (m_X6_reads (aset P1 0 11 (P1 0 10)))) 0 12 2) 0 13 (v_X6_calls (m_X6_reads (aset P1 0 11 (P1 0 10))))) from (gset_at _ _ _)]; exact (gset_gset _ _ _ _)) dX6_plays_118 (fun H locs hh => ?_)
                  refine lv_goto (tgt := 22) hx hb dX6_plays_121 (by decide) ?_
                  exact h H _ ls hh (lv_sub hl [3, 0] rfl)
  intro H locs ls hh hl
  have hl : lv_has ls 4 [(0, .ref (ad 10 0))] := hl
  replace hh : hH D ad cI cJ cF (gset S 10 P) s H locs := by rw [← can1 hP]; exact hh
  have h := x_X6_plays P (fun i k hi => hIn_rd hh.2.1 (gset_at _ _ _) hi) hp (fun y1 P1 => (hAt D ad cI cJ cF p l e ({ frames := 7, cells := 0, slots := 0, locals := 164 } : Room) s m args below meth c (MQ below (hQi D ad cI cJ cF (v_X6_plays P) (gset S 10 (m_X6_plays P))) args s 0 0 (hAd ad)) 4 22 [(0, .ref (ad 10 0)), (1, .int (hI y1))] (gset S 10 P1))) (fun r P1 => (r = v_X6_plays P ∧ P1 = m_X6_plays P)) r22 ⟨rfl, rfl⟩
  refine lv_aload_n hx hb dX6_plays_0 rfl (lv_at hl 0 rfl) ?_
  refine iv_iconst hx hb dX6_plays_1 ?_
  refine iv_put (S' := (gset S 10 (aset P 0 4 1))) (ty := .boolean) hx hb hts inX6 tyX6 tyX6_ok nmX6 hown hK hinj hh (by decide) un_Model (Or.inl rfl) (ob_Model) rfl 4 (by decide) (hts _ q3_164) rfl rfl (by decide +kernel) (by decide +kernel) (by decide +kernel) (Nat.le_of_ble_eq_true rfl) (pu_Model_runs) (Or.inl ⟨by decide, by decide⟩) (by rw [show (gset S 10 P) 10 = P from (gset_at _ _ _)]; exact (gset_gset _ _ _ _)) dX6_plays_2 (fun H locs hh => ?_)
  refine lv_aload_n hx hb dX6_plays_5 rfl (lv_at hl 0 rfl) ?_
  refine iv_iconst hx hb dX6_plays_6 ?_
  refine iv_put (S' := (gset S 10 (aset (aset P 0 4 1) 0 10 0))) (ty := .int) hx hb hts inX6 tyX6 tyX6_ok nmX6 hown hK hinj hh (by decide) un_Model (Or.inl rfl) (ob_Model) rfl 10 (by decide) (hts _ q3_170) rfl rfl (by decide +kernel) rfl rfl (Nat.le_of_ble_eq_true rfl) (pu_Model_spot) (Or.inl ⟨by decide, by decide⟩) (by rw [show (gset S 10 (aset P 0 4 1)) 10 = (aset P 0 4 1) from (gset_at _ _ _)]; exact (gset_gset _ _ _ _)) dX6_plays_7 (fun H locs hh => ?_)
  refine lv_aload_n hx hb dX6_plays_10 rfl (lv_at hl 0 rfl) ?_
  refine iv_iconst hx hb dX6_plays_11 ?_
  refine iv_put (S' := (gset S 10 (aset (aset (aset P 0 4 1) 0 10 0) 0 11 0))) (ty := .int) hx hb hts inX6 tyX6 tyX6_ok nmX6 hown hK hinj hh (by decide) un_Model (Or.inl rfl) (ob_Model) rfl 11 (by decide) (hts _ q3_171) rfl rfl (by decide +kernel) rfl rfl (Nat.le_of_ble_eq_true rfl) (pu_Model_from) (Or.inl ⟨by decide, by decide⟩) (by rw [show (gset S 10 (aset (aset P 0 4 1) 0 10 0)) 10 = (aset (aset P 0 4 1) 0 10 0) from (gset_at _ _ _)]; exact (gset_gset _ _ _ _)) dX6_plays_12 (fun H locs hh => ?_)
  refine lv_aload_n hx hb dX6_plays_15 rfl (lv_at hl 0 rfl) ?_
  refine iv_iconst hx hb dX6_plays_16 ?_
  refine iv_put (S' := (gset S 10 (aset (aset (aset (aset P 0 4 1) 0 10 0) 0 11 0) 0 14 0))) (ty := .int) hx hb hts inX6 tyX6 tyX6_ok nmX6 hown hK hinj hh (by decide) un_Model (Or.inl rfl) (ob_Model) rfl 14 (by decide) (hts _ q3_174) rfl rfl (by decide +kernel) rfl rfl (Nat.le_of_ble_eq_true rfl) (pu_Model_orders) (Or.inl ⟨by decide, by decide⟩) (by rw [show (gset S 10 (aset (aset (aset P 0 4 1) 0 10 0) 0 11 0)) 10 = (aset (aset (aset P 0 4 1) 0 10 0) 0 11 0) from (gset_at _ _ _)]; exact (gset_gset _ _ _ _)) dX6_plays_17 (fun H locs hh => ?_)
  refine iv_iconst hx hb dX6_plays_20 ?_
  refine lv_istore_n (lv' := [(1, .int (hI 1)), (0, .ref (ad 10 0))]) hx hb dX6_plays_21 rfl hl (by decide) rfl (fun ls hl => ?_)
  exact h H _ ls hh (lv_sub hl [1, 0] rfl)
set_option maxHeartbeats 4000000 in
set_option maxRecDepth 100000 in
theorem ok_X6_fault (l : Launch) (hinj : hInj ad) (S : hS) (P : hGM) (hP : S 10 = P) (what : Int) (h_what : hIn what) (hp : p_X6_fault P what) : hMi D ad cI cJ cF l yX6_fault cX6_fault 3 (some .int) ({ frames := 8, cells := 0, slots := 0, locals := 187 } : Room) [.ref (ad 10 0), .int (hI what)] S (v_X6_fault P what) (gset S 10 (m_X6_fault P what)) := by
  refine hOf (S := S) l hinj (by decide +kernel) (Nat.le_of_ble_eq_true rfl) (fun p e s m args below meth c E => ?_)
  obtain ⟨hx, hb, hml, hown, hts, hK, hN, -, hr, hlk⟩ := id E
  have hown : s.vm.findClass RX6 = some m.cls := hown
  intro H locs ls hh hl
  have hl : lv_has ls 3 [(0, .ref (ad 10 0)), (1, .int (hI what))] := hl
  replace hh : hH D ad cI cJ cF (gset S 10 P) s H locs := by rw [← can1 hP]; exact hh
  have h := hp
  unfold p_X6_fault at h
  refine lv_iload_n hx hb dX6_fault_0 rfl (lv_at hl 1 rfl) ?_
  refine iv_iconst hx hb dX6_fault_1 ?_
  refine iv_iconst hx hb dX6_fault_2 ?_
  refine iv_ki (iv_rS (As := [.int (hI what), .int (hI 0), .int (hI 2)]) (rest := []) E hh (ok_X6_in l hinj (gset S 10 P) what 0 2 h_what ⟨by decide, by decide⟩ ⟨by decide, by decide⟩) cb_X6_in q3_216 rfl rfl ⟨Nat.le_of_ble_eq_true rfl, Nat.le_of_ble_eq_true rfl⟩ rfl hl.1 rfl (Nat.le_of_ble_eq_true rfl) dX6_fault_3 ⟨Nat.zero_le _, Nat.zero_le _⟩) hh (fun hc1 H locs hh => ?_)
  refine iv_if_ne (tgt := 12) hx hb hc1 dX6_fault_6 (by decide) (fun c2 => ?_) (fun c2 => ?_)
  · have h := h.2 c2
    refine lv_aload_n hx hb dX6_fault_12 rfl (lv_at hl 0 rfl) ?_
    refine iv_get (v' := .ref (ad 10 1)) hx hb hts inX6 hown hK hh.1 (ob_Model) rfl 0 (by decide) (hts _ q3_160) rfl rfl rfl dX6_fault_13 ?_
    refine lv_aload_n hx hb dX6_fault_16 rfl (lv_at hl 0 rfl) ?_
    refine iv_get (v' := .ref (ad 10 3)) hx hb hts inX6 hown hK hh.1 (ob_Model) rfl 2 (by decide) (hts _ q3_162) rfl rfl rfl dX6_fault_17 ?_
    obtain ⟨g3, h⟩ := h
    refine iv_kv (iv_rS (As := [.ref (ad 10 1), .ref (ad 10 3)]) (rest := []) E hh (ok_X6_copies l hinj (gset S 10 P) (ia_10_1) (ia_10_3) (by decide) P (gset_at _ _ _) g3) cb_X6_copies q4_219 rfl rfl ⟨Nat.le_of_ble_eq_true rfl, Nat.le_of_ble_eq_true rfl⟩ rfl hl.1 rfl (Nat.le_of_ble_eq_true rfl) dX6_fault_20 ⟨Nat.zero_le _, Nat.zero_le _⟩) hh (fun H locs hh => ?_)
    replace hh : hH D ad cI cJ cF (gset S 10 (m_X6_copies P 1 273 3 273)) s H locs := by rw [← show _ = (gset S 10 (m_X6_copies P 1 273 3 273)) from (gset_gset _ _ _ _)]; exact hh
    refine lv_aload_n hx hb dX6_fault_23 rfl (lv_at hl 0 rfl) ?_
    obtain ⟨g4, h⟩ := h
    refine iv_ki (iv_rV (As := []) (rest := []) E hh (ok_X6_plays l hinj (gset S 10 (m_X6_copies P 1 273 3 273)) (m_X6_copies P 1 273 3 273) (gset_at _ _ _) g4) cb_X6_plays q4_222 rfl rfl ⟨Nat.le_of_ble_eq_true rfl, Nat.le_of_ble_eq_true rfl⟩ (ob_Model) rfl rfl rfl hl.1 rfl (Nat.le_of_ble_eq_true rfl) dX6_fault_24 ⟨Nat.zero_le _, Nat.zero_le _⟩) hh (fun hc5 H locs hh => ?_)
    replace hh : hH D ad cI cJ cF (gset S 10 (m_X6_plays (m_X6_copies P 1 273 3 273))) s H locs := by rw [← show _ = (gset S 10 (m_X6_plays (m_X6_copies P 1 273 3 273))) from (gset_gset _ _ _ _)]; exact hh
    refine lv_istore_n (lv' := [(2, .int (hI (v_X6_plays (m_X6_copies P 1 273 3 273)))), (0, .ref (ad 10 0)), (1, .int (hI what))]) hx hb dX6_fault_27 rfl hl (by decide) rfl (fun ls hl => ?_)
    refine lv_aload_n hx hb dX6_fault_28 rfl (lv_at hl 1 rfl) ?_
    refine iv_get (v' := .ref (ad 10 3)) hx hb hts inX6 hown hK hh.1 (ob_Model) rfl 2 (by decide) (hts _ q3_162) rfl rfl rfl dX6_fault_29 ?_
    refine lv_aload_n hx hb dX6_fault_32 rfl (lv_at hl 1 rfl) ?_
    refine iv_get (v' := .ref (ad 10 1)) hx hb hts inX6 hown hK hh.1 (ob_Model) rfl 0 (by decide) (hts _ q3_160) rfl rfl rfl dX6_fault_33 ?_
    obtain ⟨g6, h⟩ := h
    refine iv_kv (iv_rS (As := [.ref (ad 10 3), .ref (ad 10 1)]) (rest := []) E hh (ok_X6_copies l hinj (gset S 10 (m_X6_plays (m_X6_copies P 1 273 3 273))) (ia_10_3) (ia_10_1) (by decide) (m_X6_plays (m_X6_copies P 1 273 3 273)) (gset_at _ _ _) g6) cb_X6_copies q4_219 rfl rfl ⟨Nat.le_of_ble_eq_true rfl, Nat.le_of_ble_eq_true rfl⟩ rfl hl.1 rfl (Nat.le_of_ble_eq_true rfl) dX6_fault_36 ⟨Nat.zero_le _, Nat.zero_le _⟩) hh (fun H locs hh => ?_)
    replace hh : hH D ad cI cJ cF (gset S 10 (m_X6_copies (m_X6_plays (m_X6_copies P 1 273 3 273)) 3 273 1 273)) s H locs := by rw [← show _ = (gset S 10 (m_X6_copies (m_X6_plays (m_X6_copies P 1 273 3 273)) 3 273 1 273)) from (gset_gset _ _ _ _)]; exact hh
    refine lv_iload_n hx hb dX6_fault_39 rfl (lv_at hl 0 rfl) ?_
    refine iv_if_eq (tgt := 48) hx hb hc5 dX6_fault_40 (by decide) (fun c7 => ?_) (fun c7 => ?_)
    · have h := h.1 c7
      refine lv_iload_n hx hb dX6_fault_48 rfl (lv_at hl 2 rfl) ?_
      refine iv_if_ne (tgt := 59) hx hb h_what dX6_fault_49 (by decide) (fun c8 => ?_) (fun c8 => ?_)
      · have h := h.2 c8
        refine lv_iload_n hx hb dX6_fault_59 rfl (lv_at hl 2 rfl) ?_
        refine iv_iconst hx hb dX6_fault_60 ?_
        refine iv_icmp_ne (tgt := 71) hx hb h_what ⟨by decide, by decide⟩ dX6_fault_61 (by decide) (fun c9 => ?_) (fun c9 => ?_)
        · have h := h.2 c9
          refine lv_aload_n hx hb dX6_fault_71 rfl (lv_at hl 1 rfl) ?_
          refine iv_get (v' := .int (hI ((m_X6_copies (m_X6_plays (m_X6_copies P 1 273 3 273)) 3 273 1 273) 0 13))) hx hb hts inX6 hown hK hh.1 (ob_Model) rfl 13 (by decide) (hts _ q3_173) rfl rfl (congrArg (fun z => Value.int (hI (z 0 13))) (gset_at _ _ _)) dX6_fault_72 ?_
          have hm10 : hIn ((m_X6_copies (m_X6_plays (m_X6_copies P 1 273 3 273)) 3 273 1 273) 0 13) := hIn_rd hh.2.1 (gset_at _ _ _) (by decide)
          exact iv_iret E hh (by unfold v_X6_fault; rw [if_neg c2, if_pos c7, if_neg c8, if_neg c9]) (by rw [← show ((m_X6_copies (m_X6_plays (m_X6_copies P 1 273 3 273)) 3 273 1 273) 0 13) = v_X6_fault P what from (by unfold v_X6_fault; rw [if_neg c2, if_pos c7, if_neg c8, if_neg c9])]; exact hm10) (by unfold m_X6_fault; rw [if_neg c2, if_pos c7, if_neg c8, if_neg c9]) dX6_fault_75
        · have h := h.1 c9
          refine lv_aload_n hx hb dX6_fault_64 rfl (lv_at hl 1 rfl) ?_
          refine iv_get (v' := .int (hI ((m_X6_copies (m_X6_plays (m_X6_copies P 1 273 3 273)) 3 273 1 273) 0 12))) hx hb hts inX6 hown hK hh.1 (ob_Model) rfl 12 (by decide) (hts _ q3_172) rfl rfl (congrArg (fun z => Value.int (hI (z 0 12))) (gset_at _ _ _)) dX6_fault_65 ?_
          have hm11 : hIn ((m_X6_copies (m_X6_plays (m_X6_copies P 1 273 3 273)) 3 273 1 273) 0 12) := hIn_rd hh.2.1 (gset_at _ _ _) (by decide)
          refine lv_goto (tgt := 75) hx hb dX6_fault_68 (by decide) ?_
          exact iv_iret E hh (by unfold v_X6_fault; rw [if_neg c2, if_pos c7, if_neg c8, if_pos c9]) (by rw [← show ((m_X6_copies (m_X6_plays (m_X6_copies P 1 273 3 273)) 3 273 1 273) 0 12) = v_X6_fault P what from (by unfold v_X6_fault; rw [if_neg c2, if_pos c7, if_neg c8, if_pos c9])]; exact hm11) (by unfold m_X6_fault; rw [if_neg c2, if_pos c7, if_neg c8, if_pos c9]) dX6_fault_75
      · have h := h.1 c8
        refine lv_aload_n hx hb dX6_fault_52 rfl (lv_at hl 1 rfl) ?_
        refine iv_get (v' := .int (hI ((m_X6_copies (m_X6_plays (m_X6_copies P 1 273 3 273)) 3 273 1 273) 0 11))) hx hb hts inX6 hown hK hh.1 (ob_Model) rfl 11 (by decide) (hts _ q3_171) rfl rfl (congrArg (fun z => Value.int (hI (z 0 11))) (gset_at _ _ _)) dX6_fault_53 ?_
        have hm12 : hIn ((m_X6_copies (m_X6_plays (m_X6_copies P 1 273 3 273)) 3 273 1 273) 0 11) := hIn_rd hh.2.1 (gset_at _ _ _) (by decide)
        refine lv_goto (tgt := 75) hx hb dX6_fault_56 (by decide) ?_
        exact iv_iret E hh (by unfold v_X6_fault; rw [if_neg c2, if_pos c7, if_pos c8]) (by rw [← show ((m_X6_copies (m_X6_plays (m_X6_copies P 1 273 3 273)) 3 273 1 273) 0 11) = v_X6_fault P what from (by unfold v_X6_fault; rw [if_neg c2, if_pos c7, if_pos c8])]; exact hm12) (by unfold m_X6_fault; rw [if_neg c2, if_pos c7, if_pos c8]) dX6_fault_75
    · have h := h.2 c7
      refine iv_ldc (n := (-1000004)) hx hb (by decide) hown (hts _ q4_33) dX6_fault_43 ?_
      refine lv_goto (tgt := 75) hx hb dX6_fault_45 (by decide) ?_
      exact iv_iret E hh (by unfold v_X6_fault; rw [if_neg c2, if_neg c7]) (by rw [← show (-1000004) = v_X6_fault P what from (by unfold v_X6_fault; rw [if_neg c2, if_neg c7])]; exact ⟨by decide, by decide⟩) (by unfold m_X6_fault; rw [if_neg c2, if_neg c7]) dX6_fault_75
  · have h := h.1 c2
    refine iv_ldc (n := (-1000001)) hx hb (by decide) hown (hts _ q3_219) dX6_fault_9 ?_
    exact iv_iret E hh (by unfold v_X6_fault; rw [if_pos c2]) (by rw [← show (-1000001) = v_X6_fault P what from (by unfold v_X6_fault; rw [if_pos c2])]; exact ⟨by decide, by decide⟩) (by unfold m_X6_fault; rw [if_pos c2]) dX6_fault_11
set_option maxHeartbeats 4000000 in
set_option maxRecDepth 100000 in
theorem ok_X6_play (l : Launch) (hinj : hInj ad) (S : hS) (P : hGM) (hP : S 10 = P) (hp : p_X6_play P) : hMi D ad cI cJ cF l yX6_play cX6_play 2 (some .int) ({ frames := 8, cells := 0, slots := 0, locals := 187 } : Room) [.ref (ad 10 0)] S (v_X6_play P) (gset S 10 (m_X6_play P)) := by
  refine hOf (S := S) l hinj (by decide +kernel) (Nat.le_of_ble_eq_true rfl) (fun p e s m args below meth c E => ?_)
  obtain ⟨hx, hb, hml, hown, hts, hK, hN, -, hr, hlk⟩ := id E
  have hown : s.vm.findClass RX6 = some m.cls := hown
  intro H locs ls hh hl
  have hl : lv_has ls 2 [(0, .ref (ad 10 0))] := hl
  replace hh : hH D ad cI cJ cF (gset S 10 P) s H locs := by rw [← can1 hP]; exact hh
  have h := hp
  unfold p_X6_play at h
  refine lv_aload_n hx hb dX6_play_0 rfl (lv_at hl 0 rfl) ?_
  refine iv_get (v' := .ref (ad 10 1)) hx hb hts inX6 hown hK hh.1 (ob_Model) rfl 0 (by decide) (hts _ q3_160) rfl rfl rfl dX6_play_1 ?_
  refine lv_aload_n hx hb dX6_play_4 rfl (lv_at hl 0 rfl) ?_
  refine iv_get (v' := .ref (ad 10 3)) hx hb hts inX6 hown hK hh.1 (ob_Model) rfl 2 (by decide) (hts _ q3_162) rfl rfl rfl dX6_play_5 ?_
  obtain ⟨g1, h⟩ := h
  refine iv_kv (iv_rS (As := [.ref (ad 10 1), .ref (ad 10 3)]) (rest := []) E hh (ok_X6_copies l hinj (gset S 10 P) (ia_10_1) (ia_10_3) (by decide) P (gset_at _ _ _) g1) cb_X6_copies q4_219 rfl rfl ⟨Nat.le_of_ble_eq_true rfl, Nat.le_of_ble_eq_true rfl⟩ rfl hl.1 rfl (Nat.le_of_ble_eq_true rfl) dX6_play_8 ⟨Nat.zero_le _, Nat.zero_le _⟩) hh (fun H locs hh => ?_)
  replace hh : hH D ad cI cJ cF (gset S 10 (m_X6_copies P 1 273 3 273)) s H locs := by rw [← show _ = (gset S 10 (m_X6_copies P 1 273 3 273)) from (gset_gset _ _ _ _)]; exact hh
  refine lv_aload_n hx hb dX6_play_11 rfl (lv_at hl 0 rfl) ?_
  obtain ⟨g2, h⟩ := h
  refine iv_ki (iv_rV (As := []) (rest := []) E hh (ok_X6_plays l hinj (gset S 10 (m_X6_copies P 1 273 3 273)) (m_X6_copies P 1 273 3 273) (gset_at _ _ _) g2) cb_X6_plays q4_222 rfl rfl ⟨Nat.le_of_ble_eq_true rfl, Nat.le_of_ble_eq_true rfl⟩ (ob_Model) rfl rfl rfl hl.1 rfl (Nat.le_of_ble_eq_true rfl) dX6_play_12 ⟨Nat.zero_le _, Nat.zero_le _⟩) hh (fun hc3 H locs hh => ?_)
  replace hh : hH D ad cI cJ cF (gset S 10 (m_X6_plays (m_X6_copies P 1 273 3 273))) s H locs := by rw [← show _ = (gset S 10 (m_X6_plays (m_X6_copies P 1 273 3 273))) from (gset_gset _ _ _ _)]; exact hh
  refine lv_istore_n (lv' := [(1, .int (hI (v_X6_plays (m_X6_copies P 1 273 3 273)))), (0, .ref (ad 10 0))]) hx hb dX6_play_15 rfl hl (by decide) rfl (fun ls hl => ?_)
  refine lv_aload_n hx hb dX6_play_16 rfl (lv_at hl 1 rfl) ?_
  refine iv_get (v' := .ref (ad 10 3)) hx hb hts inX6 hown hK hh.1 (ob_Model) rfl 2 (by decide) (hts _ q3_162) rfl rfl rfl dX6_play_17 ?_
  refine lv_aload_n hx hb dX6_play_20 rfl (lv_at hl 1 rfl) ?_
  refine iv_get (v' := .ref (ad 10 1)) hx hb hts inX6 hown hK hh.1 (ob_Model) rfl 0 (by decide) (hts _ q3_160) rfl rfl rfl dX6_play_21 ?_
  obtain ⟨g4, h⟩ := h
  refine iv_kv (iv_rS (As := [.ref (ad 10 3), .ref (ad 10 1)]) (rest := []) E hh (ok_X6_copies l hinj (gset S 10 (m_X6_plays (m_X6_copies P 1 273 3 273))) (ia_10_3) (ia_10_1) (by decide) (m_X6_plays (m_X6_copies P 1 273 3 273)) (gset_at _ _ _) g4) cb_X6_copies q4_219 rfl rfl ⟨Nat.le_of_ble_eq_true rfl, Nat.le_of_ble_eq_true rfl⟩ rfl hl.1 rfl (Nat.le_of_ble_eq_true rfl) dX6_play_24 ⟨Nat.zero_le _, Nat.zero_le _⟩) hh (fun H locs hh => ?_)
  replace hh : hH D ad cI cJ cF (gset S 10 (m_X6_copies (m_X6_plays (m_X6_copies P 1 273 3 273)) 3 273 1 273)) s H locs := by rw [← show _ = (gset S 10 (m_X6_copies (m_X6_plays (m_X6_copies P 1 273 3 273)) 3 273 1 273)) from (gset_gset _ _ _ _)]; exact hh
  refine lv_iload_n hx hb dX6_play_27 rfl (lv_at hl 0 rfl) ?_
  refine iv_if_ne (tgt := 34) hx hb hc3 dX6_play_28 (by decide) (fun c5 => ?_) (fun c5 => ?_)
  · have h := h.2 c5
    refine lv_aload_n hx hb dX6_play_34 rfl (lv_at hl 1 rfl) ?_
    obtain ⟨g6, h⟩ := h
    refine iv_kv (iv_rV (As := []) (rest := []) E hh (ok_X6_changes l hinj (gset S 10 (m_X6_copies (m_X6_plays (m_X6_copies P 1 273 3 273)) 3 273 1 273)) (m_X6_copies (m_X6_plays (m_X6_copies P 1 273 3 273)) 3 273 1 273) (gset_at _ _ _) g6) cb_X6_changes q3_221 rfl rfl ⟨Nat.le_of_ble_eq_true rfl, Nat.le_of_ble_eq_true rfl⟩ (ob_Model) rfl rfl rfl hl.1 rfl (Nat.le_of_ble_eq_true rfl) dX6_play_35 ⟨Nat.zero_le _, Nat.zero_le _⟩) hh (fun H locs hh => ?_)
    replace hh : hH D ad cI cJ cF (gset S 10 (m_X6_changes (m_X6_copies (m_X6_plays (m_X6_copies P 1 273 3 273)) 3 273 1 273))) s H locs := by rw [← show _ = (gset S 10 (m_X6_changes (m_X6_copies (m_X6_plays (m_X6_copies P 1 273 3 273)) 3 273 1 273))) from (gset_gset _ _ _ _)]; exact hh
    refine lv_aload_n hx hb dX6_play_38 rfl (lv_at hl 1 rfl) ?_
    obtain ⟨g7, h⟩ := h
    refine iv_ki (iv_rV (As := []) (rest := []) E hh (ok_X6_plays l hinj (gset S 10 (m_X6_changes (m_X6_copies (m_X6_plays (m_X6_copies P 1 273 3 273)) 3 273 1 273))) (m_X6_changes (m_X6_copies (m_X6_plays (m_X6_copies P 1 273 3 273)) 3 273 1 273)) (gset_at _ _ _) g7) cb_X6_plays q4_222 rfl rfl ⟨Nat.le_of_ble_eq_true rfl, Nat.le_of_ble_eq_true rfl⟩ (ob_Model) rfl rfl rfl hl.1 rfl (Nat.le_of_ble_eq_true rfl) dX6_play_39 ⟨Nat.zero_le _, Nat.zero_le _⟩) hh (fun hc8 H locs hh => ?_)
    replace hh : hH D ad cI cJ cF (gset S 10 (m_X6_plays (m_X6_changes (m_X6_copies (m_X6_plays (m_X6_copies P 1 273 3 273)) 3 273 1 273)))) s H locs := by rw [← show _ = (gset S 10 (m_X6_plays (m_X6_changes (m_X6_copies (m_X6_plays (m_X6_copies P 1 273 3 273)) 3 273 1 273)))) from (gset_gset _ _ _ _)]; exact hh
    refine iv_if_eq (tgt := 52) hx hb hc8 dX6_play_42 (by decide) (fun c9 => ?_) (fun c9 => ?_)
    · have h := h.1 c9
      refine iv_ldc (n := (-1000004)) hx hb (by decide) hown (hts _ q4_33) dX6_play_52 ?_
      exact iv_iret E hh (by unfold v_X6_play; rw [if_neg c5, if_pos c9]) (by rw [← show (-1000004) = v_X6_play P from (by unfold v_X6_play; rw [if_neg c5, if_pos c9])]; exact ⟨by decide, by decide⟩) (by unfold m_X6_play; rw [if_neg c5, if_pos c9]) dX6_play_54
    · have h := h.2 c9
      refine lv_aload_n hx hb dX6_play_45 rfl (lv_at hl 1 rfl) ?_
      refine iv_get (v' := .int (hI ((m_X6_plays (m_X6_changes (m_X6_copies (m_X6_plays (m_X6_copies P 1 273 3 273)) 3 273 1 273))) 0 14))) hx hb hts inX6 hown hK hh.1 (ob_Model) rfl 14 (by decide) (hts _ q3_174) rfl rfl (congrArg (fun z => Value.int (hI (z 0 14))) (gset_at _ _ _)) dX6_play_46 ?_
      have hm10 : hIn ((m_X6_plays (m_X6_changes (m_X6_copies (m_X6_plays (m_X6_copies P 1 273 3 273)) 3 273 1 273))) 0 14) := hIn_rd hh.2.1 (gset_at _ _ _) (by decide)
      refine lv_goto (tgt := 54) hx hb dX6_play_49 (by decide) ?_
      exact iv_iret E hh (by unfold v_X6_play; rw [if_neg c5, if_neg c9]) (by rw [← show ((m_X6_plays (m_X6_changes (m_X6_copies (m_X6_plays (m_X6_copies P 1 273 3 273)) 3 273 1 273))) 0 14) = v_X6_play P from (by unfold v_X6_play; rw [if_neg c5, if_neg c9])]; exact hm10) (by unfold m_X6_play; rw [if_neg c5, if_neg c9]) dX6_play_54
  · have h := h.1 c5
    refine iv_ldc (n := (-1000002)) hx hb (by decide) hown (hts _ q4_12) dX6_play_31 ?_
    exact iv_iret E hh (by unfold v_X6_play; rw [if_pos c5]) (by rw [← show (-1000002) = v_X6_play P from (by unfold v_X6_play; rw [if_pos c5])]; exact ⟨by decide, by decide⟩) (by unfold m_X6_play; rw [if_pos c5]) dX6_play_33
end

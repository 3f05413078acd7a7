section
variable {D : va_G} {ad : Nat → Nat → Nat} {cI cJ cF : ClassId}
theorem to_X5_stemOf_48 (x : Int) (_ : ¬ x = 0) (_ : ¬ x = 1) (_ : ¬ x = 2) (_ : ¬ x = 3) (_ : ¬ x = 4) (_ : ¬ x = 5) : x < 0 ∨ 5 < x := by omega
set_option maxHeartbeats 4000000 in
set_option maxRecDepth 100000 in
theorem ok_X5_stemOf (l : Launch) (hinj : hInj ad) (S : hS) (glyph : Int) (stem : Int) (what : Int) (h_glyph : hIn glyph) (h_stem : hIn stem) (h_what : hIn what) (hp : p_X5_stemOf S glyph stem what) : hMi D ad cI cJ cF l yX5_stemOf cX5_stemOf 7 (some .int) ({ frames := 4, cells := 0, slots := 0, locals := 92 } : Room) [.ref (ad 11 0), .int (hI glyph), .int (hI stem), .int (hI what)] S (v_X5_stemOf S glyph stem what) S := by
  refine hOf (S := S) l hinj (by decide +kernel) (Nat.le_of_ble_eq_true rfl) (fun p e s m args below meth c E => ?_)
  obtain ⟨hx, hb, hml, hown, hts, hK, hN, -, hr, hlk⟩ := id E
  have hown : s.vm.findClass RX5 = some m.cls := hown
  intro H locs ls hh hl
  have hl : lv_has ls 7 [(0, .ref (ad 11 0)), (1, .int (hI glyph)), (2, .int (hI stem)), (3, .int (hI what))] := hl
  have h := hp
  unfold p_X5_stemOf at h
  refine lv_aload_n hx hb dX5_stemOf_0 rfl (lv_at hl 0 rfl) ?_
  refine iv_get (v' := .ref (ad 0 0)) hx hb hts inX5 hown hK hh.1 (ob_X) rfl 0 (by decide) (hts _ q1_201) rfl rfl rfl dX5_stemOf_1 ?_
  refine lv_iload_n hx hb dX5_stemOf_4 rfl (lv_at hl 1 rfl) ?_
  refine lv_iload_n hx hb dX5_stemOf_5 rfl (lv_at hl 2 rfl) ?_
  obtain ⟨g1, h⟩ := h
  refine iv_ki (iv_rV (As := [.int (hI glyph), .int (hI stem)]) (rest := []) E hh (ok_X1_hasStem l hinj S (by decide) (S 0) rfl glyph stem h_glyph h_stem g1) cb_X1_hasStem q2_189 rfl rfl ⟨Nat.le_of_ble_eq_true rfl, Nat.le_of_ble_eq_true rfl⟩ (ob_Font (by decide)) rfl rfl rfl hl.1 rfl (Nat.le_of_ble_eq_true rfl) dX5_stemOf_6 ⟨Nat.zero_le _, Nat.zero_le _⟩) hh (fun hc2 H locs hh => ?_)
  refine iv_if_eq (tgt := 22) hx hb hc2 dX5_stemOf_9 (by decide) (fun c3 => ?_) (fun c3 => ?_)
  · have h := h.1 c3
    refine iv_ldc (n := (-1000001)) hx hb (by decide) hown (hts _ q2_190) dX5_stemOf_22 ?_
    exact iv_iret E hh (by unfold v_X5_stemOf; rw [if_pos c3]) (by rw [← show (-1000001) = v_X5_stemOf S glyph stem what from (by unfold v_X5_stemOf; rw [if_pos c3])]; exact ⟨by decide, by decide⟩) rfl dX5_stemOf_24
  · have h := h.2 c3
    refine lv_iload_n hx hb dX5_stemOf_12 rfl (lv_at hl 3 rfl) ?_
    refine iv_iconst hx hb dX5_stemOf_13 ?_
    refine lv_bipush (v := hI 6) hx hb dX5_stemOf_14 (by decide) ?_
    refine iv_ki (iv_rS (As := [.int (hI what), .int (hI 0), .int (hI 6)]) (rest := []) E hh (ok_X5_within l hinj S what 0 6 h_what ⟨by decide, by decide⟩ ⟨by decide, by decide⟩) cb_X5_within q2_114 rfl rfl ⟨Nat.le_of_ble_eq_true rfl, Nat.le_of_ble_eq_true rfl⟩ rfl hl.1 rfl (Nat.le_of_ble_eq_true rfl) dX5_stemOf_16 ⟨Nat.zero_le _, Nat.zero_le _⟩) hh (fun hc4 H locs hh => ?_)
    refine iv_if_ne (tgt := 25) hx hb hc4 dX5_stemOf_19 (by decide) (fun c5 => ?_) (fun c5 => ?_)
    · have h := h.2 c5
      refine lv_iload_n hx hb dX5_stemOf_25 rfl (lv_at hl 1 rfl) ?_
      refine lv_bipush (v := hI 6) hx hb dX5_stemOf_26 (by decide) ?_
      refine iv_imul hx hb dX5_stemOf_28 ?_
      refine lv_iload_n hx hb dX5_stemOf_29 rfl (lv_at hl 2 rfl) ?_
      refine iv_iadd hx hb dX5_stemOf_30 ?_
      refine lv_istore (lv' := [(4, .int (hI ((glyph * 6) + stem))), (0, .ref (ad 11 0)), (1, .int (hI glyph)), (2, .int (hI stem)), (3, .int (hI what))]) hx hb dX5_stemOf_31 hl (by decide) rfl (fun ls hl => ?_)
      refine lv_aload_n hx hb dX5_stemOf_33 rfl (lv_at hl 1 rfl) ?_
      refine iv_get (v' := .ref (ad 0 0)) hx hb hts inX5 hown hK hh.1 (ob_X) rfl 0 (by decide) (hts _ q1_201) rfl rfl rfl dX5_stemOf_34 ?_
      refine iv_getN (v' := .ref (ad 0 4)) hx hb hts inX1 hown hK hh.1 (ob_Font (by decide)) rfl 7 (by decide) (hN _ q1_78) rfl rfl rfl dX5_stemOf_37 ?_
      refine lv_iload hx hb dX5_stemOf_40 (lv_at hl 0 rfl) ?_
      obtain ⟨g6, h⟩ := h
      refine iv_ki (iv_rS (As := [.ref (ad 0 4), .int (hI ((glyph * 6) + stem))]) (rest := []) E hh (ok_X5_cell l hinj S (ia_F_4 (by decide)) (S 0) rfl ((glyph * 6) + stem) g6) cb_X5_cell q2_191 rfl rfl ⟨Nat.le_of_ble_eq_true rfl, Nat.le_of_ble_eq_true rfl⟩ rfl hl.1 rfl (Nat.le_of_ble_eq_true rfl) dX5_stemOf_42 ⟨Nat.zero_le _, Nat.zero_le _⟩) hh (fun hc7 H locs hh => ?_)
      refine lv_istore (lv' := [(5, .int (hI (v_X5_cell (S 0) 4 48 ((glyph * 6) + stem)))), (4, .int (hI ((glyph * 6) + stem))), (0, .ref (ad 11 0)), (1, .int (hI glyph)), (2, .int (hI stem)), (3, .int (hI what))]) hx hb dX5_stemOf_45 hl (by decide) rfl (fun ls hl => ?_)
      refine lv_iload_n hx hb dX5_stemOf_47 rfl (lv_at hl 5 rfl) ?_
      by_cases c8 : what = 0
      · have h := h.1 c8
        refine lv_tableIn (off := 40) (tgt := 88) hx hb dX5_stemOf_48 (by rw [hI_toInt h_what, c8]; decide) (by rw [hI_toInt h_what, c8]; decide) (by rw [hI_toInt h_what, c8]; rfl) (by decide) ?_
        refine lv_aload_n hx hb dX5_stemOf_88 rfl (lv_at hl 2 rfl) ?_
        refine iv_get (v' := .ref (ad 0 0)) hx hb hts inX5 hown hK hh.1 (ob_X) rfl 0 (by decide) (hts _ q1_201) rfl rfl rfl dX5_stemOf_89 ?_
        refine iv_getN (v' := .ref (ad 0 3)) hx hb hts inX1 hown hK hh.1 (ob_Font (by decide)) rfl 6 (by decide) (hN _ q1_75) rfl rfl rfl dX5_stemOf_92 ?_
        refine lv_iload hx hb dX5_stemOf_95 (lv_at hl 1 rfl) ?_
        refine iv_ki (iv_rS (As := [.ref (ad 0 3), .int (hI ((glyph * 6) + stem))]) (rest := []) E hh (ok_X5_cell l hinj S (ia_F_3 (by decide)) (S 0) rfl ((glyph * 6) + stem) g6) cb_X5_cell q2_191 rfl rfl ⟨Nat.le_of_ble_eq_true rfl, Nat.le_of_ble_eq_true rfl⟩ rfl hl.1 rfl (Nat.le_of_ble_eq_true rfl) dX5_stemOf_97 ⟨Nat.zero_le _, Nat.zero_le _⟩) hh (fun hc9 H locs hh => ?_)
        exact iv_iret E hh (by unfold v_X5_stemOf; rw [if_neg c3, if_neg c5, if_pos c8]) (by rw [← show (v_X5_cell (S 0) 3 48 ((glyph * 6) + stem)) = v_X5_stemOf S glyph stem what from (by unfold v_X5_stemOf; rw [if_neg c3, if_neg c5, if_pos c8])]; exact hc9) rfl dX5_stemOf_100
      · have h := h.2 c8
        by_cases c10 : what = 1
        · have h := h.1 c10
          refine lv_tableIn (off := 53) (tgt := 101) hx hb dX5_stemOf_48 (by rw [hI_toInt h_what, c10]; decide) (by rw [hI_toInt h_what, c10]; decide) (by rw [hI_toInt h_what, c10]; rfl) (by decide) ?_
          refine lv_iload hx hb dX5_stemOf_101 (lv_at hl 0 rfl) ?_
          exact iv_iret E hh (by unfold v_X5_stemOf; rw [if_neg c3, if_neg c5, if_neg c8, if_pos c10]) (by rw [← show (v_X5_cell (S 0) 4 48 ((glyph * 6) + stem)) = v_X5_stemOf S glyph stem what from (by unfold v_X5_stemOf; rw [if_neg c3, if_neg c5, if_neg c8, if_pos c10])]; exact hc7) rfl dX5_stemOf_103
        · have h := h.2 c10
          by_cases c11 : what = 2
          · have h := h.1 c11
            refine lv_tableIn (off := 56) (tgt := 104) hx hb dX5_stemOf_48 (by rw [hI_toInt h_what, c11]; decide) (by rw [hI_toInt h_what, c11]; decide) (by rw [hI_toInt h_what, c11]; rfl) (by decide) ?_
            refine lv_aload_n hx hb dX5_stemOf_104 rfl (lv_at hl 2 rfl) ?_
            refine iv_get (v' := .ref (ad 0 0)) hx hb hts inX5 hown hK hh.1 (ob_X) rfl 0 (by decide) (hts _ q1_201) rfl rfl rfl dX5_stemOf_105 ?_
            refine iv_getN (v' := .ref (ad 0 5)) hx hb hts inX1 hown hK hh.1 (ob_Font (by decide)) rfl 8 (by decide) (hN _ q1_81) rfl rfl rfl dX5_stemOf_108 ?_
            refine lv_iload hx hb dX5_stemOf_111 (lv_at hl 1 rfl) ?_
            refine iv_ki (iv_rS (As := [.ref (ad 0 5), .int (hI ((glyph * 6) + stem))]) (rest := []) E hh (ok_X5_cell l hinj S (ia_F_5 (by decide)) (S 0) rfl ((glyph * 6) + stem) g6) cb_X5_cell q2_191 rfl rfl ⟨Nat.le_of_ble_eq_true rfl, Nat.le_of_ble_eq_true rfl⟩ rfl hl.1 rfl (Nat.le_of_ble_eq_true rfl) dX5_stemOf_113 ⟨Nat.zero_le _, Nat.zero_le _⟩) hh (fun hc12 H locs hh => ?_)
            exact iv_iret E hh (by unfold v_X5_stemOf; rw [if_neg c3, if_neg c5, if_neg c8, if_neg c10, if_pos c11]) (by rw [← show (v_X5_cell (S 0) 5 48 ((glyph * 6) + stem)) = v_X5_stemOf S glyph stem what from (by unfold v_X5_stemOf; rw [if_neg c3, if_neg c5, if_neg c8, if_neg c10, if_pos c11])]; exact hc12) rfl dX5_stemOf_116
          · have h := h.2 c11
            by_cases c13 : what = 3
            · have h := h.1 c13
              refine lv_tableIn (off := 69) (tgt := 117) hx hb dX5_stemOf_48 (by rw [hI_toInt h_what, c13]; decide) (by rw [hI_toInt h_what, c13]; decide) (by rw [hI_toInt h_what, c13]; rfl) (by decide) ?_
              refine lv_aload_n hx hb dX5_stemOf_117 rfl (lv_at hl 2 rfl) ?_
              refine iv_get (v' := .ref (ad 0 0)) hx hb hts inX5 hown hK hh.1 (ob_X) rfl 0 (by decide) (hts _ q1_201) rfl rfl rfl dX5_stemOf_118 ?_
              refine lv_iload hx hb dX5_stemOf_121 (lv_at hl 0 rfl) ?_
              obtain ⟨g14, h⟩ := h
              refine iv_ki (iv_rV (As := [.int (hI (v_X5_cell (S 0) 4 48 ((glyph * 6) + stem)))]) (rest := []) E hh (ok_X1_hintedWidth l hinj S (by decide) (S 0) rfl (v_X5_cell (S 0) 4 48 ((glyph * 6) + stem)) hc7 g14) cb_X1_hintedWidth q2_192 rfl rfl ⟨Nat.le_of_ble_eq_true rfl, Nat.le_of_ble_eq_true rfl⟩ (ob_Font (by decide)) rfl rfl rfl hl.1 rfl (Nat.le_of_ble_eq_true rfl) dX5_stemOf_123 ⟨Nat.zero_le _, Nat.zero_le _⟩) hh (fun hc15 H locs hh => ?_)
              exact iv_iret E hh (by unfold v_X5_stemOf; rw [if_neg c3, if_neg c5, if_neg c8, if_neg c10, if_neg c11, if_pos c13]) (by rw [← show (v_X1_hintedWidth (S 0) (v_X5_cell (S 0) 4 48 ((glyph * 6) + stem))) = v_X5_stemOf S glyph stem what from (by unfold v_X5_stemOf; rw [if_neg c3, if_neg c5, if_neg c8, if_neg c10, if_neg c11, if_pos c13])]; exact hc15) rfl dX5_stemOf_126
            · have h := h.2 c13
              by_cases c16 : what = 4
              · have h := h.1 c16
                refine lv_tableIn (off := 79) (tgt := 127) hx hb dX5_stemOf_48 (by rw [hI_toInt h_what, c16]; decide) (by rw [hI_toInt h_what, c16]; decide) (by rw [hI_toInt h_what, c16]; rfl) (by decide) ?_
                refine lv_aload_n hx hb dX5_stemOf_127 rfl (lv_at hl 2 rfl) ?_
                refine iv_get (v' := .ref (ad 0 0)) hx hb hts inX5 hown hK hh.1 (ob_X) rfl 0 (by decide) (hts _ q1_201) rfl rfl rfl dX5_stemOf_128 ?_
                refine lv_iload hx hb dX5_stemOf_131 (lv_at hl 0 rfl) ?_
                obtain ⟨g17, h⟩ := h
                refine iv_ki (iv_rV (As := [.int (hI (v_X5_cell (S 0) 4 48 ((glyph * 6) + stem)))]) (rest := []) E hh (ok_X1_snapOf l hinj S (by decide) (S 0) rfl (v_X5_cell (S 0) 4 48 ((glyph * 6) + stem)) hc7 g17) cb_X1_snapOf q2_196 rfl rfl ⟨Nat.le_of_ble_eq_true rfl, Nat.le_of_ble_eq_true rfl⟩ (ob_Font (by decide)) rfl rfl rfl hl.1 rfl (Nat.le_of_ble_eq_true rfl) dX5_stemOf_133 ⟨Nat.zero_le _, Nat.zero_le _⟩) hh (fun hc18 H locs hh => ?_)
                refine lv_istore (lv' := [(6, .int (hI (v_X1_snapOf (S 0) (v_X5_cell (S 0) 4 48 ((glyph * 6) + stem))))), (5, .int (hI (v_X5_cell (S 0) 4 48 ((glyph * 6) + stem)))), (4, .int (hI ((glyph * 6) + stem))), (0, .ref (ad 11 0)), (1, .int (hI glyph)), (2, .int (hI stem)), (3, .int (hI what))]) hx hb dX5_stemOf_136 hl (by decide) rfl (fun ls hl => ?_)
                refine lv_iload hx hb dX5_stemOf_138 (lv_at hl 0 rfl) ?_
                refine iv_if_ne (tgt := 148) hx hb hc18 dX5_stemOf_140 (by decide) (fun c19 => ?_) (fun c19 => ?_)
                · have h := h.2 c19
                  refine lv_iload hx hb dX5_stemOf_148 (lv_at hl 0 rfl) ?_
                  exact iv_iret E hh (by unfold v_X5_stemOf; rw [if_neg c3, if_neg c5, if_neg c8, if_neg c10, if_neg c11, if_neg c13, if_pos c16, if_neg c19]) (by rw [← show (v_X1_snapOf (S 0) (v_X5_cell (S 0) 4 48 ((glyph * 6) + stem))) = v_X5_stemOf S glyph stem what from (by unfold v_X5_stemOf; rw [if_neg c3, if_neg c5, if_neg c8, if_neg c10, if_neg c11, if_neg c13, if_pos c16, if_neg c19])]; exact hc18) rfl dX5_stemOf_150
                · have h := h.1 c19
                  refine iv_ldc (n := (-1000004)) hx hb (by decide) hown (hts _ q2_197) dX5_stemOf_143 ?_
                  refine lv_goto (tgt := 150) hx hb dX5_stemOf_145 (by decide) ?_
                  exact iv_iret E hh (by unfold v_X5_stemOf; rw [if_neg c3, if_neg c5, if_neg c8, if_neg c10, if_neg c11, if_neg c13, if_pos c16, if_pos c19]) (by rw [← show (-1000004) = v_X5_stemOf S glyph stem what from (by unfold v_X5_stemOf; rw [if_neg c3, if_neg c5, if_neg c8, if_neg c10, if_neg c11, if_neg c13, if_pos c16, if_pos c19])]; exact ⟨by decide, by decide⟩) rfl dX5_stemOf_150
              · have h := h.2 c16
                by_cases c20 : what = 5
                · have h := h.1 c20
                  refine lv_tableIn (off := 103) (tgt := 151) hx hb dX5_stemOf_48 (by rw [hI_toInt h_what, c20]; decide) (by rw [hI_toInt h_what, c20]; decide) (by rw [hI_toInt h_what, c20]; rfl) (by decide) ?_
                  refine lv_aload_n hx hb dX5_stemOf_151 rfl (lv_at hl 2 rfl) ?_
                  refine iv_get (v' := .ref (ad 0 0)) hx hb hts inX5 hown hK hh.1 (ob_X) rfl 0 (by decide) (hts _ q1_201) rfl rfl rfl dX5_stemOf_152 ?_
                  refine lv_iload hx hb dX5_stemOf_155 (lv_at hl 0 rfl) ?_
                  obtain ⟨g21, h⟩ := h
                  refine iv_ki (iv_rV (As := [.int (hI (v_X5_cell (S 0) 4 48 ((glyph * 6) + stem)))]) (rest := []) E hh (ok_X1_alikeWith l hinj S (by decide) (S 0) rfl (v_X5_cell (S 0) 4 48 ((glyph * 6) + stem)) hc7 g21) cb_X1_alikeWith q2_198 rfl rfl ⟨Nat.le_of_ble_eq_true rfl, Nat.le_of_ble_eq_true rfl⟩ (ob_Font (by decide)) rfl rfl rfl hl.1 rfl (Nat.le_of_ble_eq_true rfl) dX5_stemOf_157 ⟨Nat.zero_le _, Nat.zero_le _⟩) hh (fun hc22 H locs hh => ?_)
                  exact iv_iret E hh (by unfold v_X5_stemOf; rw [if_neg c3, if_neg c5, if_neg c8, if_neg c10, if_neg c11, if_neg c13, if_neg c16, if_pos c20]) (by rw [← show (v_X1_alikeWith (S 0) (v_X5_cell (S 0) 4 48 ((glyph * 6) + stem))) = v_X5_stemOf S glyph stem what from (by unfold v_X5_stemOf; rw [if_neg c3, if_neg c5, if_neg c8, if_neg c10, if_neg c11, if_neg c13, if_neg c16, if_pos c20])]; exact hc22) rfl dX5_stemOf_160
                · have h := h.2 c20
                  refine lv_tableOut (tgt := 161) hx hb dX5_stemOf_48 (by rw [hI_toInt h_what]; exact to_X5_stemOf_48 _ c8 c10 c11 c13 c16 c20) (by decide) ?_
                  refine lv_iload_n hx hb dX5_stemOf_161 rfl (lv_at hl 4 rfl) ?_
                  refine iv_if_ne (tgt := 170) hx hb h_stem dX5_stemOf_162 (by decide) (fun c23 => ?_) (fun c23 => ?_)
                  · have h := h.2 c23
                    refine lv_aload_n hx hb dX5_stemOf_170 rfl (lv_at hl 2 rfl) ?_
                    refine iv_get (v' := .ref (ad 0 0)) hx hb hts inX5 hown hK hh.1 (ob_X) rfl 0 (by decide) (hts _ q1_201) rfl rfl rfl dX5_stemOf_171 ?_
                    refine iv_getN (v' := .ref (ad 0 3)) hx hb hts inX1 hown hK hh.1 (ob_Font (by decide)) rfl 6 (by decide) (hN _ q1_75) rfl rfl rfl dX5_stemOf_174 ?_
                    refine lv_iload hx hb dX5_stemOf_177 (lv_at hl 1 rfl) ?_
                    refine iv_ki (iv_rS (As := [.ref (ad 0 3), .int (hI ((glyph * 6) + stem))]) (rest := []) E hh (ok_X5_cell l hinj S (ia_F_3 (by decide)) (S 0) rfl ((glyph * 6) + stem) g6) cb_X5_cell q2_191 rfl rfl ⟨Nat.le_of_ble_eq_true rfl, Nat.le_of_ble_eq_true rfl⟩ rfl hl.1 rfl (Nat.le_of_ble_eq_true rfl) dX5_stemOf_179 ⟨Nat.zero_le _, Nat.zero_le _⟩) hh (fun hc24 H locs hh => ?_)
                    refine lv_aload_n hx hb dX5_stemOf_182 rfl (lv_at hl 2 rfl) ?_
                    refine iv_get (v' := .ref (ad 0 0)) hx hb hts inX5 hown hK hh.1 (ob_X) rfl 0 (by decide) (hts _ q1_201) rfl rfl rfl dX5_stemOf_183 ?_
                    refine lv_iload hx hb dX5_stemOf_186 (lv_at hl 1 rfl) ?_
                    refine iv_iconst hx hb dX5_stemOf_188 ?_
                    refine iv_isub hx hb dX5_stemOf_189 ?_
                    obtain ⟨g25, h⟩ := h
                    obtain ⟨g26, h⟩ := h
                    refine iv_ki (iv_rV (As := [.int (hI (((glyph * 6) + stem) - 1))]) (rest := [.int (hI (v_X5_cell (S 0) 3 48 ((glyph * 6) + stem)))]) E hh (ok_X1_endOf l hinj S (by decide) (S 0) rfl (((glyph * 6) + stem) - 1) g25 g26) cb_X1_endOf q2_203 rfl rfl ⟨Nat.le_of_ble_eq_true rfl, Nat.le_of_ble_eq_true rfl⟩ (ob_Font (by decide)) rfl rfl rfl hl.1 rfl (Nat.le_of_ble_eq_true rfl) dX5_stemOf_190 ⟨Nat.zero_le _, Nat.zero_le _⟩) hh (fun hc27 H locs hh => ?_)
                    refine iv_isub hx hb dX5_stemOf_193 ?_
                    obtain ⟨g28, h⟩ := h
                    exact iv_iret E hh (by unfold v_X5_stemOf; rw [if_neg c3, if_neg c5, if_neg c8, if_neg c10, if_neg c11, if_neg c13, if_neg c16, if_neg c20, if_neg c23]) (by rw [← show ((v_X5_cell (S 0) 3 48 ((glyph * 6) + stem)) - (v_X1_endOf (S 0) (((glyph * 6) + stem) - 1))) = v_X5_stemOf S glyph stem what from (by unfold v_X5_stemOf; rw [if_neg c3, if_neg c5, if_neg c8, if_neg c10, if_neg c11, if_neg c13, if_neg c16, if_neg c20, if_neg c23])]; exact g28) rfl dX5_stemOf_194
                  · have h := h.1 c23
                    refine iv_ldc (n := (-1000004)) hx hb (by decide) hown (hts _ q2_197) dX5_stemOf_165 ?_
                    refine lv_goto (tgt := 194) hx hb dX5_stemOf_167 (by decide) ?_
                    exact iv_iret E hh (by unfold v_X5_stemOf; rw [if_neg c3, if_neg c5, if_neg c8, if_neg c10, if_neg c11, if_neg c13, if_neg c16, if_neg c20, if_pos c23]) (by rw [← show (-1000004) = v_X5_stemOf S glyph stem what from (by unfold v_X5_stemOf; rw [if_neg c3, if_neg c5, if_neg c8, if_neg c10, if_neg c11, if_neg c13, if_neg c16, if_neg c20, if_pos c23])]; exact ⟨by decide, by decide⟩) rfl dX5_stemOf_194
    · have h := h.1 c5
      refine iv_ldc (n := (-1000001)) hx hb (by decide) hown (hts _ q2_190) dX5_stemOf_22 ?_
      exact iv_iret E hh (by unfold v_X5_stemOf; rw [if_neg c3, if_pos c5]) (by rw [← show (-1000001) = v_X5_stemOf S glyph stem what from (by unfold v_X5_stemOf; rw [if_neg c3, if_pos c5])]; exact ⟨by decide, by decide⟩) rfl dX5_stemOf_24
theorem to_X5_pixels_47 (x : Int) (_ : ¬ x = 0) (_ : ¬ x = 1) (_ : ¬ x = 2) : x < 0 ∨ 2 < x := by omega
set_option maxHeartbeats 4000000 in
set_option maxRecDepth 100000 in
theorem ok_X5_pixels (l : Launch) (hinj : hInj ad) (S : hS) (glyph : Int) (stem : Int) (size : Int) (what : Int) (h_glyph : hIn glyph) (h_stem : hIn stem) (h_size : hIn size) (h_what : hIn what) (hp : p_X5_pixels S glyph stem size what) : hMi D ad cI cJ cF l yX5_pixels cX5_pixels 5 (some .int) ({ frames := 4, cells := 0, slots := 0, locals := 101 } : Room) [.ref (ad 11 0), .int (hI glyph), .int (hI stem), .int (hI size), .int (hI what)] S (v_X5_pixels S glyph stem size what) (m_X5_pixels S glyph stem size what) := by
  refine hOf (S := S) l hinj (by decide +kernel) (Nat.le_of_ble_eq_true rfl) (fun p e s m args below meth c E => ?_)
  obtain ⟨hx, hb, hml, hown, hts, hK, hN, -, hr, hlk⟩ := id E
  have hown : s.vm.findClass RX5 = some m.cls := hown
  intro H locs ls hh hl
  have hl : lv_has ls 5 [(0, .ref (ad 11 0)), (1, .int (hI glyph)), (2, .int (hI stem)), (3, .int (hI size)), (4, .int (hI what))] := hl
  have h := hp
  unfold p_X5_pixels at h
  refine lv_aload_n hx hb dX5_pixels_0 rfl (lv_at hl 0 rfl) ?_
  refine iv_get (v' := .ref (ad 0 0)) hx hb hts inX5 hown hK hh.1 (ob_X) rfl 0 (by decide) (hts _ q1_201) rfl rfl rfl dX5_pixels_1 ?_
  refine lv_iload_n hx hb dX5_pixels_4 rfl (lv_at hl 1 rfl) ?_
  refine lv_iload_n hx hb dX5_pixels_5 rfl (lv_at hl 2 rfl) ?_
  obtain ⟨g1, h⟩ := h
  refine iv_ki (iv_rV (As := [.int (hI glyph), .int (hI stem)]) (rest := []) E hh (ok_X1_hasStem l hinj S (by decide) (S 0) rfl glyph stem h_glyph h_stem g1) cb_X1_hasStem q2_189 rfl rfl ⟨Nat.le_of_ble_eq_true rfl, Nat.le_of_ble_eq_true rfl⟩ (ob_Font (by decide)) rfl rfl rfl hl.1 rfl (Nat.le_of_ble_eq_true rfl) dX5_pixels_6 ⟨Nat.zero_le _, Nat.zero_le _⟩) hh (fun hc2 H locs hh => ?_)
  refine iv_if_eq (tgt := 29) hx hb hc2 dX5_pixels_9 (by decide) (fun c3 => ?_) (fun c3 => ?_)
  · have h := h.1 c3
    refine iv_ldc (n := (-1000001)) hx hb (by decide) hown (hts _ q2_190) dX5_pixels_29 ?_
    exact iv_iret E hh (by unfold v_X5_pixels; rw [if_pos c3]) (by rw [← show (-1000001) = v_X5_pixels S glyph stem size what from (by unfold v_X5_pixels; rw [if_pos c3])]; exact ⟨by decide, by decide⟩) (by unfold m_X5_pixels; rw [if_pos c3]) dX5_pixels_31
  · have h := h.2 c3
    refine lv_iload_n hx hb dX5_pixels_12 rfl (lv_at hl 3 rfl) ?_
    refine iv_ki (iv_rS (As := [.int (hI size)]) (rest := []) E hh (ok_X5_isSize l hinj S size h_size) cb_X5_isSize q2_208 rfl rfl ⟨Nat.le_of_ble_eq_true rfl, Nat.le_of_ble_eq_true rfl⟩ rfl hl.1 rfl (Nat.le_of_ble_eq_true rfl) dX5_pixels_13 ⟨Nat.zero_le _, Nat.zero_le _⟩) hh (fun hc4 H locs hh => ?_)
    refine iv_if_eq (tgt := 29) hx hb hc4 dX5_pixels_16 (by decide) (fun c5 => ?_) (fun c5 => ?_)
    · have h := h.1 c5
      refine iv_ldc (n := (-1000001)) hx hb (by decide) hown (hts _ q2_190) dX5_pixels_29 ?_
      exact iv_iret E hh (by unfold v_X5_pixels; rw [if_neg c3, if_pos c5]) (by rw [← show (-1000001) = v_X5_pixels S glyph stem size what from (by unfold v_X5_pixels; rw [if_neg c3, if_pos c5])]; exact ⟨by decide, by decide⟩) (by unfold m_X5_pixels; rw [if_neg c3, if_pos c5]) dX5_pixels_31
    · have h := h.2 c5
      refine lv_iload hx hb dX5_pixels_19 (lv_at hl 4 rfl) ?_
      refine iv_iconst hx hb dX5_pixels_21 ?_
      refine iv_iconst hx hb dX5_pixels_22 ?_
      refine iv_ki (iv_rS (As := [.int (hI what), .int (hI 0), .int (hI 3)]) (rest := []) E hh (ok_X5_within l hinj S what 0 3 h_what ⟨by decide, by decide⟩ ⟨by decide, by decide⟩) cb_X5_within q2_114 rfl rfl ⟨Nat.le_of_ble_eq_true rfl, Nat.le_of_ble_eq_true rfl⟩ rfl hl.1 rfl (Nat.le_of_ble_eq_true rfl) dX5_pixels_23 ⟨Nat.zero_le _, Nat.zero_le _⟩) hh (fun hc6 H locs hh => ?_)
      refine iv_if_ne (tgt := 32) hx hb hc6 dX5_pixels_26 (by decide) (fun c7 => ?_) (fun c7 => ?_)
      · have h := h.2 c7
        refine lv_aload_n hx hb dX5_pixels_32 rfl (lv_at hl 0 rfl) ?_
        refine iv_get (v' := .ref (ad 7 0)) hx hb hts inX5 hown hK hh.1 (ob_X) rfl 2 (by decide) (hts _ q1_203) rfl rfl rfl dX5_pixels_33 ?_
        refine lv_aload_n hx hb dX5_pixels_36 rfl (lv_at hl 0 rfl) ?_
        refine iv_get (v' := .ref (ad 0 0)) hx hb hts inX5 hown hK hh.1 (ob_X) rfl 0 (by decide) (hts _ q1_201) rfl rfl rfl dX5_pixels_37 ?_
        refine lv_iload_n hx hb dX5_pixels_40 rfl (lv_at hl 1 rfl) ?_
        refine lv_iload_n hx hb dX5_pixels_41 rfl (lv_at hl 3 rfl) ?_
        obtain ⟨g8, h⟩ := h
        refine iv_kv (iv_rV (As := [.ref (ad 0 0), .int (hI glyph), .int (hI size)]) (rest := []) E hh (ok_X0_lay l hinj S (by decide) (S 0) rfl (S 7) rfl glyph size h_glyph h_size g8) cb_X0_lay q2_209 rfl rfl ⟨Nat.le_of_ble_eq_true rfl, Nat.le_of_ble_eq_true rfl⟩ (ob_Fit) rfl rfl rfl hl.1 rfl (Nat.le_of_ble_eq_true rfl) dX5_pixels_42 ⟨Nat.zero_le _, Nat.zero_le _⟩) hh (fun H locs hh => ?_)
        refine lv_iload hx hb dX5_pixels_45 (lv_at hl 4 rfl) ?_
        by_cases c9 : what = 0
        · have h := h.1 c9
          refine lv_tableIn (off := 25) (tgt := 72) hx hb dX5_pixels_47 (by rw [hI_toInt h_what, c9]; decide) (by rw [hI_toInt h_what, c9]; decide) (by rw [hI_toInt h_what, c9]; rfl) (by decide) ?_
          refine lv_aload_n hx hb dX5_pixels_72 rfl (lv_at hl 0 rfl) ?_
          refine iv_get (v' := .ref (ad 7 0)) hx hb hts inX5 hown hK hh.1 (ob_X) rfl 2 (by decide) (hts _ q1_203) rfl rfl rfl dX5_pixels_73 ?_
          refine iv_getN (v' := .ref (ad 7 1)) hx hb hts inX0 hown hK hh.1 (ob_Fit) rfl 4 (by decide) (hN _ q1_126) rfl rfl rfl dX5_pixels_76 ?_
          refine lv_iload_n hx hb dX5_pixels_79 rfl (lv_at hl 2 rfl) ?_
          refine iv_ki (iv_rS (As := [.ref (ad 7 1), .int (hI stem)]) (rest := []) E hh (ok_X5_cell l hinj (gset S 7 (m_X0_lay (S 0) (S 7) glyph size)) (ia_7_1) (m_X0_lay (S 0) (S 7) glyph size) (gset_at _ _ _) stem h_stem) cb_X5_cell q2_191 rfl rfl ⟨Nat.le_of_ble_eq_true rfl, Nat.le_of_ble_eq_true rfl⟩ rfl hl.1 rfl (Nat.le_of_ble_eq_true rfl) dX5_pixels_80 ⟨Nat.zero_le _, Nat.zero_le _⟩) hh (fun hc10 H locs hh => ?_)
          exact iv_iret E hh (by unfold v_X5_pixels; rw [if_neg c3, if_neg c5, if_neg c7, if_pos c9]) (by rw [← show (v_X5_cell (m_X0_lay (S 0) (S 7) glyph size) 1 6 stem) = v_X5_pixels S glyph stem size what from (by unfold v_X5_pixels; rw [if_neg c3, if_neg c5, if_neg c7, if_pos c9])]; exact hc10) (by unfold m_X5_pixels; rw [if_neg c3, if_neg c5, if_neg c7, if_pos c9]) dX5_pixels_83
        · have h := h.2 c9
          by_cases c11 : what = 1
          · have h := h.1 c11
            refine lv_tableIn (off := 37) (tgt := 84) hx hb dX5_pixels_47 (by rw [hI_toInt h_what, c11]; decide) (by rw [hI_toInt h_what, c11]; decide) (by rw [hI_toInt h_what, c11]; rfl) (by decide) ?_
            refine lv_aload_n hx hb dX5_pixels_84 rfl (lv_at hl 0 rfl) ?_
            refine iv_get (v' := .ref (ad 7 0)) hx hb hts inX5 hown hK hh.1 (ob_X) rfl 2 (by decide) (hts _ q1_203) rfl rfl rfl dX5_pixels_85 ?_
            refine iv_getN (v' := .ref (ad 7 2)) hx hb hts inX0 hown hK hh.1 (ob_Fit) rfl 5 (by decide) (hN _ q1_128) rfl rfl rfl dX5_pixels_88 ?_
            refine lv_iload_n hx hb dX5_pixels_91 rfl (lv_at hl 2 rfl) ?_
            refine iv_ki (iv_rS (As := [.ref (ad 7 2), .int (hI stem)]) (rest := []) E hh (ok_X5_cell l hinj (gset S 7 (m_X0_lay (S 0) (S 7) glyph size)) (ia_7_2) (m_X0_lay (S 0) (S 7) glyph size) (gset_at _ _ _) stem h_stem) cb_X5_cell q2_191 rfl rfl ⟨Nat.le_of_ble_eq_true rfl, Nat.le_of_ble_eq_true rfl⟩ rfl hl.1 rfl (Nat.le_of_ble_eq_true rfl) dX5_pixels_92 ⟨Nat.zero_le _, Nat.zero_le _⟩) hh (fun hc12 H locs hh => ?_)
            exact iv_iret E hh (by unfold v_X5_pixels; rw [if_neg c3, if_neg c5, if_neg c7, if_neg c9, if_pos c11]) (by rw [← show (v_X5_cell (m_X0_lay (S 0) (S 7) glyph size) 2 6 stem) = v_X5_pixels S glyph stem size what from (by unfold v_X5_pixels; rw [if_neg c3, if_neg c5, if_neg c7, if_neg c9, if_pos c11])]; exact hc12) (by unfold m_X5_pixels; rw [if_neg c3, if_neg c5, if_neg c7, if_neg c9, if_pos c11]) dX5_pixels_95
          · have h := h.2 c11
            by_cases c13 : what = 2
            · have h := h.1 c13
              refine lv_tableIn (off := 49) (tgt := 96) hx hb dX5_pixels_47 (by rw [hI_toInt h_what, c13]; decide) (by rw [hI_toInt h_what, c13]; decide) (by rw [hI_toInt h_what, c13]; rfl) (by decide) ?_
              refine lv_aload_n hx hb dX5_pixels_96 rfl (lv_at hl 0 rfl) ?_
              refine iv_get (v' := .ref (ad 7 0)) hx hb hts inX5 hown hK hh.1 (ob_X) rfl 2 (by decide) (hts _ q1_203) rfl rfl rfl dX5_pixels_97 ?_
              refine iv_getN (v' := .int (hI ((m_X0_lay (S 0) (S 7) glyph size) 0 1))) hx hb hts inX0 hown hK hh.1 (ob_Fit) rfl 1 (by decide) (hN _ q1_119) rfl rfl (congrArg (fun z => Value.int (hI (z 0 1))) (gset_at _ _ _)) dX5_pixels_100 ?_
              have hm14 : hIn ((m_X0_lay (S 0) (S 7) glyph size) 0 1) := hIn_rd hh.2.1 (gset_at _ _ _) (by decide)
              refine lv_iload_n hx hb dX5_pixels_103 rfl (lv_at hl 2 rfl) ?_
              refine iv_ishr hx hb dX5_pixels_104 ?_
              refine iv_iconst hx hb dX5_pixels_105 ?_
              refine iv_iand hx hb dX5_pixels_106 ?_
              exact iv_iret E hh (by unfold v_X5_pixels; rw [if_neg c3, if_neg c5, if_neg c7, if_neg c9, if_neg c11, if_pos c13]) (by rw [← show (iAnd (iShr ((m_X0_lay (S 0) (S 7) glyph size) 0 1) stem) 1) = v_X5_pixels S glyph stem size what from (by unfold v_X5_pixels; rw [if_neg c3, if_neg c5, if_neg c7, if_neg c9, if_neg c11, if_pos c13])]; exact (hIn_toInt _)) (by unfold m_X5_pixels; rw [if_neg c3, if_neg c5, if_neg c7, if_neg c9, if_neg c11, if_pos c13]) dX5_pixels_107
            · have h := h.2 c13
              refine lv_tableOut (tgt := 108) hx hb dX5_pixels_47 (by rw [hI_toInt h_what]; exact to_X5_pixels_47 _ c9 c11 c13) (by decide) ?_
              refine lv_aload_n hx hb dX5_pixels_108 rfl (lv_at hl 0 rfl) ?_
              refine iv_get (v' := .ref (ad 7 0)) hx hb hts inX5 hown hK hh.1 (ob_X) rfl 2 (by decide) (hts _ q1_203) rfl rfl rfl dX5_pixels_109 ?_
              refine iv_getN (v' := .int (hI ((m_X0_lay (S 0) (S 7) glyph size) 0 2))) hx hb hts inX0 hown hK hh.1 (ob_Fit) rfl 2 (by decide) (hN _ q1_121) rfl rfl (congrArg (fun z => Value.int (hI (z 0 2))) (gset_at _ _ _)) dX5_pixels_112 ?_
              have hm15 : hIn ((m_X0_lay (S 0) (S 7) glyph size) 0 2) := hIn_rd hh.2.1 (gset_at _ _ _) (by decide)
              refine lv_iload_n hx hb dX5_pixels_115 rfl (lv_at hl 2 rfl) ?_
              refine iv_ishr hx hb dX5_pixels_116 ?_
              refine iv_iconst hx hb dX5_pixels_117 ?_
              refine iv_iand hx hb dX5_pixels_118 ?_
              exact iv_iret E hh (by unfold v_X5_pixels; rw [if_neg c3, if_neg c5, if_neg c7, if_neg c9, if_neg c11, if_neg c13]) (by rw [← show (iAnd (iShr ((m_X0_lay (S 0) (S 7) glyph size) 0 2) stem) 1) = v_X5_pixels S glyph stem size what from (by unfold v_X5_pixels; rw [if_neg c3, if_neg c5, if_neg c7, if_neg c9, if_neg c11, if_neg c13])]; exact (hIn_toInt _)) (by unfold m_X5_pixels; rw [if_neg c3, if_neg c5, if_neg c7, if_neg c9, if_neg c11, if_neg c13]) dX5_pixels_119
      · have h := h.1 c7
        refine iv_ldc (n := (-1000001)) hx hb (by decide) hown (hts _ q2_190) dX5_pixels_29 ?_
        exact iv_iret E hh (by unfold v_X5_pixels; rw [if_neg c3, if_neg c5, if_pos c7]) (by rw [← show (-1000001) = v_X5_pixels S glyph stem size what from (by unfold v_X5_pixels; rw [if_neg c3, if_neg c5, if_pos c7])]; exact ⟨by decide, by decide⟩) (by unfold m_X5_pixels; rw [if_neg c3, if_neg c5, if_pos c7]) dX5_pixels_31
theorem to_X5_glyphOf_44 (x : Int) (_ : ¬ x = 0) (_ : ¬ x = 1) (_ : ¬ x = 2) (_ : ¬ x = 3) (_ : ¬ x = 4) : x < 0 ∨ 4 < x := by omega
set_option maxHeartbeats 4000000 in
set_option maxRecDepth 100000 in
theorem ok_X5_glyphOf (l : Launch) (hinj : hInj ad) (S : hS) (glyph : Int) (size : Int) (what : Int) (h_glyph : hIn glyph) (h_size : hIn size) (h_what : hIn what) (hp : p_X5_glyphOf S glyph size what) : hMi D ad cI cJ cF l yX5_glyphOf cX5_glyphOf 4 (some .int) ({ frames := 4, cells := 0, slots := 0, locals := 101 } : Room) [.ref (ad 11 0), .int (hI glyph), .int (hI size), .int (hI what)] S (v_X5_glyphOf S glyph size what) (m_X5_glyphOf S glyph size what) := by
  refine hOf (S := S) l hinj (by decide +kernel) (Nat.le_of_ble_eq_true rfl) (fun p e s m args below meth c E => ?_)
  obtain ⟨hx, hb, hml, hown, hts, hK, hN, -, hr, hlk⟩ := id E
  have hown : s.vm.findClass RX5 = some m.cls := hown
  intro H locs ls hh hl
  have hl : lv_has ls 4 [(0, .ref (ad 11 0)), (1, .int (hI glyph)), (2, .int (hI size)), (3, .int (hI what))] := hl
  have h := hp
  unfold p_X5_glyphOf at h
  refine lv_aload_n hx hb dX5_glyphOf_0 rfl (lv_at hl 0 rfl) ?_
  refine iv_get (v' := .ref (ad 0 0)) hx hb hts inX5 hown hK hh.1 (ob_X) rfl 0 (by decide) (hts _ q1_201) rfl rfl rfl dX5_glyphOf_1 ?_
  refine lv_iload_n hx hb dX5_glyphOf_4 rfl (lv_at hl 1 rfl) ?_
  obtain ⟨g1, h⟩ := h
  refine iv_ki (iv_rV (As := [.int (hI glyph)]) (rest := []) E hh (ok_X1_hasGlyph l hinj S (by decide) (S 0) rfl glyph h_glyph g1) cb_X1_hasGlyph q2_214 rfl rfl ⟨Nat.le_of_ble_eq_true rfl, Nat.le_of_ble_eq_true rfl⟩ (ob_Font (by decide)) rfl rfl rfl hl.1 rfl (Nat.le_of_ble_eq_true rfl) dX5_glyphOf_5 ⟨Nat.zero_le _, Nat.zero_le _⟩) hh (fun hc2 H locs hh => ?_)
  refine iv_if_eq (tgt := 27) hx hb hc2 dX5_glyphOf_8 (by decide) (fun c3 => ?_) (fun c3 => ?_)
  · have h := h.1 c3
    refine iv_ldc (n := (-1000001)) hx hb (by decide) hown (hts _ q2_190) dX5_glyphOf_27 ?_
    exact iv_iret E hh (by unfold v_X5_glyphOf; rw [if_pos c3]) (by rw [← show (-1000001) = v_X5_glyphOf S glyph size what from (by unfold v_X5_glyphOf; rw [if_pos c3])]; exact ⟨by decide, by decide⟩) (by unfold m_X5_glyphOf; rw [if_pos c3]) dX5_glyphOf_29
  · have h := h.2 c3
    refine lv_iload_n hx hb dX5_glyphOf_11 rfl (lv_at hl 2 rfl) ?_
    refine iv_ki (iv_rS (As := [.int (hI size)]) (rest := []) E hh (ok_X5_isSize l hinj S size h_size) cb_X5_isSize q2_208 rfl rfl ⟨Nat.le_of_ble_eq_true rfl, Nat.le_of_ble_eq_true rfl⟩ rfl hl.1 rfl (Nat.le_of_ble_eq_true rfl) dX5_glyphOf_12 ⟨Nat.zero_le _, Nat.zero_le _⟩) hh (fun hc4 H locs hh => ?_)
    refine iv_if_eq (tgt := 27) hx hb hc4 dX5_glyphOf_15 (by decide) (fun c5 => ?_) (fun c5 => ?_)
    · have h := h.1 c5
      refine iv_ldc (n := (-1000001)) hx hb (by decide) hown (hts _ q2_190) dX5_glyphOf_27 ?_
      exact iv_iret E hh (by unfold v_X5_glyphOf; rw [if_neg c3, if_pos c5]) (by rw [← show (-1000001) = v_X5_glyphOf S glyph size what from (by unfold v_X5_glyphOf; rw [if_neg c3, if_pos c5])]; exact ⟨by decide, by decide⟩) (by unfold m_X5_glyphOf; rw [if_neg c3, if_pos c5]) dX5_glyphOf_29
    · have h := h.2 c5
      refine lv_iload_n hx hb dX5_glyphOf_18 rfl (lv_at hl 3 rfl) ?_
      refine iv_iconst hx hb dX5_glyphOf_19 ?_
      refine iv_iconst hx hb dX5_glyphOf_20 ?_
      refine iv_ki (iv_rS (As := [.int (hI what), .int (hI 0), .int (hI 5)]) (rest := []) E hh (ok_X5_within l hinj S what 0 5 h_what ⟨by decide, by decide⟩ ⟨by decide, by decide⟩) cb_X5_within q2_114 rfl rfl ⟨Nat.le_of_ble_eq_true rfl, Nat.le_of_ble_eq_true rfl⟩ rfl hl.1 rfl (Nat.le_of_ble_eq_true rfl) dX5_glyphOf_21 ⟨Nat.zero_le _, Nat.zero_le _⟩) hh (fun hc6 H locs hh => ?_)
      refine iv_if_ne (tgt := 30) hx hb hc6 dX5_glyphOf_24 (by decide) (fun c7 => ?_) (fun c7 => ?_)
      · have h := h.2 c7
        refine lv_aload_n hx hb dX5_glyphOf_30 rfl (lv_at hl 0 rfl) ?_
        refine iv_get (v' := .ref (ad 7 0)) hx hb hts inX5 hown hK hh.1 (ob_X) rfl 2 (by decide) (hts _ q1_203) rfl rfl rfl dX5_glyphOf_31 ?_
        refine lv_aload_n hx hb dX5_glyphOf_34 rfl (lv_at hl 0 rfl) ?_
        refine iv_get (v' := .ref (ad 0 0)) hx hb hts inX5 hown hK hh.1 (ob_X) rfl 0 (by decide) (hts _ q1_201) rfl rfl rfl dX5_glyphOf_35 ?_
        refine lv_iload_n hx hb dX5_glyphOf_38 rfl (lv_at hl 1 rfl) ?_
        refine lv_iload_n hx hb dX5_glyphOf_39 rfl (lv_at hl 2 rfl) ?_
        obtain ⟨g8, h⟩ := h
        refine iv_kv (iv_rV (As := [.ref (ad 0 0), .int (hI glyph), .int (hI size)]) (rest := []) E hh (ok_X0_lay l hinj S (by decide) (S 0) rfl (S 7) rfl glyph size h_glyph h_size g8) cb_X0_lay q2_209 rfl rfl ⟨Nat.le_of_ble_eq_true rfl, Nat.le_of_ble_eq_true rfl⟩ (ob_Fit) rfl rfl rfl hl.1 rfl (Nat.le_of_ble_eq_true rfl) dX5_glyphOf_40 ⟨Nat.zero_le _, Nat.zero_le _⟩) hh (fun H locs hh => ?_)
        refine lv_iload_n hx hb dX5_glyphOf_43 rfl (lv_at hl 3 rfl) ?_
        by_cases c9 : what = 0
        · have h := h.1 c9
          refine lv_tableIn (off := 36) (tgt := 80) hx hb dX5_glyphOf_44 (by rw [hI_toInt h_what, c9]; decide) (by rw [hI_toInt h_what, c9]; decide) (by rw [hI_toInt h_what, c9]; rfl) (by decide) ?_
          refine lv_aload_n hx hb dX5_glyphOf_80 rfl (lv_at hl 0 rfl) ?_
          refine iv_get (v' := .ref (ad 7 0)) hx hb hts inX5 hown hK hh.1 (ob_X) rfl 2 (by decide) (hts _ q1_203) rfl rfl rfl dX5_glyphOf_81 ?_
          refine iv_getN (v' := .int (hI ((m_X0_lay (S 0) (S 7) glyph size) 0 0))) hx hb hts inX0 hown hK hh.1 (ob_Fit) rfl 0 (by decide) (hN _ q1_116) rfl rfl (congrArg (fun z => Value.int (hI (z 0 0))) (gset_at _ _ _)) dX5_glyphOf_84 ?_
          have hm10 : hIn ((m_X0_lay (S 0) (S 7) glyph size) 0 0) := hIn_rd hh.2.1 (gset_at _ _ _) (by decide)
          exact iv_iret E hh (by unfold v_X5_glyphOf; rw [if_neg c3, if_neg c5, if_neg c7, if_pos c9]) (by rw [← show ((m_X0_lay (S 0) (S 7) glyph size) 0 0) = v_X5_glyphOf S glyph size what from (by unfold v_X5_glyphOf; rw [if_neg c3, if_neg c5, if_neg c7, if_pos c9])]; exact hm10) (by unfold m_X5_glyphOf; rw [if_neg c3, if_neg c5, if_neg c7, if_pos c9]) dX5_glyphOf_87
        · have h := h.2 c9
          by_cases c11 : what = 1
          · have h := h.1 c11
            refine lv_tableIn (off := 44) (tgt := 88) hx hb dX5_glyphOf_44 (by rw [hI_toInt h_what, c11]; decide) (by rw [hI_toInt h_what, c11]; decide) (by rw [hI_toInt h_what, c11]; rfl) (by decide) ?_
            refine lv_aload_n hx hb dX5_glyphOf_88 rfl (lv_at hl 0 rfl) ?_
            refine iv_get (v' := .ref (ad 7 0)) hx hb hts inX5 hown hK hh.1 (ob_X) rfl 2 (by decide) (hts _ q1_203) rfl rfl rfl dX5_glyphOf_89 ?_
            refine iv_getN (v' := .long (hJ ((m_X0_lay (S 0) (S 7) glyph size) 100 0))) hx hb hts inX0 hown hK hh.1 (ob_Fit) rfl 3 (by decide) (hN _ q1_123) rfl rfl (congrArg (fun z => Value.long (hJ (z 100 0))) (gset_at _ _ _)) dX5_glyphOf_92 ?_
            refine iv_ki (iv_rS (As := [.long (hJ ((m_X0_lay (S 0) (S 7) glyph size) 100 0))]) (rest := []) E hh (ok_J13_bitCount_95d88 l hinj (gset S 7 (m_X0_lay (S 0) (S 7) glyph size)) ((m_X0_lay (S 0) (S 7) glyph size) 100 0)) cb_J13_bitCount_95d88 q2_215 rfl rfl ⟨Nat.le_of_ble_eq_true rfl, Nat.le_of_ble_eq_true rfl⟩ rfl hl.1 rfl (Nat.le_of_ble_eq_true rfl) dX5_glyphOf_95 ⟨Nat.zero_le _, Nat.zero_le _⟩) hh (fun hc12 H locs hh => ?_)
            exact iv_iret E hh (by unfold v_X5_glyphOf; rw [if_neg c3, if_neg c5, if_neg c7, if_neg c9, if_pos c11]) (by rw [← show (v_J13_bitCount_95d88 ((m_X0_lay (S 0) (S 7) glyph size) 100 0)) = v_X5_glyphOf S glyph size what from (by unfold v_X5_glyphOf; rw [if_neg c3, if_neg c5, if_neg c7, if_neg c9, if_pos c11])]; exact hc12) (by unfold m_X5_glyphOf; rw [if_neg c3, if_neg c5, if_neg c7, if_neg c9, if_pos c11]) dX5_glyphOf_98
          · have h := h.2 c11
            by_cases c13 : what = 2
            · have h := h.1 c13
              refine lv_tableIn (off := 55) (tgt := 99) hx hb dX5_glyphOf_44 (by rw [hI_toInt h_what, c13]; decide) (by rw [hI_toInt h_what, c13]; decide) (by rw [hI_toInt h_what, c13]; rfl) (by decide) ?_
              refine lv_aload_n hx hb dX5_glyphOf_99 rfl (lv_at hl 0 rfl) ?_
              refine iv_get (v' := .ref (ad 7 0)) hx hb hts inX5 hown hK hh.1 (ob_X) rfl 2 (by decide) (hts _ q1_203) rfl rfl rfl dX5_glyphOf_100 ?_
              refine iv_ki (iv_rV (As := []) (rest := []) E hh (ok_X0_isClear l hinj (gset S 7 (m_X0_lay (S 0) (S 7) glyph size)) (m_X0_lay (S 0) (S 7) glyph size) (gset_at _ _ _)) cb_X0_isClear q2_221 rfl rfl ⟨Nat.le_of_ble_eq_true rfl, Nat.le_of_ble_eq_true rfl⟩ (ob_Fit) rfl rfl rfl hl.1 rfl (Nat.le_of_ble_eq_true rfl) dX5_glyphOf_103 ⟨Nat.zero_le _, Nat.zero_le _⟩) hh (fun hc14 H locs hh => ?_)
              refine iv_if_eq (tgt := 113) hx hb hc14 dX5_glyphOf_106 (by decide) (fun c15 => ?_) (fun c15 => ?_)
              · have h := h.1 c15
                refine iv_iconst hx hb dX5_glyphOf_113 ?_
                exact iv_iret E hh (by unfold v_X5_glyphOf; rw [if_neg c3, if_neg c5, if_neg c7, if_neg c9, if_neg c11, if_pos c13, if_pos c15]) (by rw [← show 0 = v_X5_glyphOf S glyph size what from (by unfold v_X5_glyphOf; rw [if_neg c3, if_neg c5, if_neg c7, if_neg c9, if_neg c11, if_pos c13, if_pos c15])]; exact ⟨by decide, by decide⟩) (by unfold m_X5_glyphOf; rw [if_neg c3, if_neg c5, if_neg c7, if_neg c9, if_neg c11, if_pos c13, if_pos c15]) dX5_glyphOf_114
              · have h := h.2 c15
                refine iv_iconst hx hb dX5_glyphOf_109 ?_
                refine lv_goto (tgt := 114) hx hb dX5_glyphOf_110 (by decide) ?_
                exact iv_iret E hh (by unfold v_X5_glyphOf; rw [if_neg c3, if_neg c5, if_neg c7, if_neg c9, if_neg c11, if_pos c13, if_neg c15]) (by rw [← show 1 = v_X5_glyphOf S glyph size what from (by unfold v_X5_glyphOf; rw [if_neg c3, if_neg c5, if_neg c7, if_neg c9, if_neg c11, if_pos c13, if_neg c15])]; exact ⟨by decide, by decide⟩) (by unfold m_X5_glyphOf; rw [if_neg c3, if_neg c5, if_neg c7, if_neg c9, if_neg c11, if_pos c13, if_neg c15]) dX5_glyphOf_114
            · have h := h.2 c13
              by_cases c16 : what = 3
              · have h := h.1 c16
                refine lv_tableIn (off := 71) (tgt := 115) hx hb dX5_glyphOf_44 (by rw [hI_toInt h_what, c16]; decide) (by rw [hI_toInt h_what, c16]; decide) (by rw [hI_toInt h_what, c16]; rfl) (by decide) ?_
                refine lv_aload_n hx hb dX5_glyphOf_115 rfl (lv_at hl 0 rfl) ?_
                refine iv_get (v' := .ref (ad 7 0)) hx hb hts inX5 hown hK hh.1 (ob_X) rfl 2 (by decide) (hts _ q1_203) rfl rfl rfl dX5_glyphOf_116 ?_
                refine iv_getN (v' := .int (hI ((m_X0_lay (S 0) (S 7) glyph size) 0 1))) hx hb hts inX0 hown hK hh.1 (ob_Fit) rfl 1 (by decide) (hN _ q1_119) rfl rfl (congrArg (fun z => Value.int (hI (z 0 1))) (gset_at _ _ _)) dX5_glyphOf_119 ?_
                have hm17 : hIn ((m_X0_lay (S 0) (S 7) glyph size) 0 1) := hIn_rd hh.2.1 (gset_at _ _ _) (by decide)
                exact iv_iret E hh (by unfold v_X5_glyphOf; rw [if_neg c3, if_neg c5, if_neg c7, if_neg c9, if_neg c11, if_neg c13, if_pos c16]) (by rw [← show ((m_X0_lay (S 0) (S 7) glyph size) 0 1) = v_X5_glyphOf S glyph size what from (by unfold v_X5_glyphOf; rw [if_neg c3, if_neg c5, if_neg c7, if_neg c9, if_neg c11, if_neg c13, if_pos c16])]; exact hm17) (by unfold m_X5_glyphOf; rw [if_neg c3, if_neg c5, if_neg c7, if_neg c9, if_neg c11, if_neg c13, if_pos c16]) dX5_glyphOf_122
              · have h := h.2 c16
                by_cases c18 : what = 4
                · have h := h.1 c18
                  refine lv_tableIn (off := 79) (tgt := 123) hx hb dX5_glyphOf_44 (by rw [hI_toInt h_what, c18]; decide) (by rw [hI_toInt h_what, c18]; decide) (by rw [hI_toInt h_what, c18]; rfl) (by decide) ?_
                  refine lv_aload_n hx hb dX5_glyphOf_123 rfl (lv_at hl 0 rfl) ?_
                  refine iv_get (v' := .ref (ad 7 0)) hx hb hts inX5 hown hK hh.1 (ob_X) rfl 2 (by decide) (hts _ q1_203) rfl rfl rfl dX5_glyphOf_124 ?_
                  refine iv_getN (v' := .int (hI ((m_X0_lay (S 0) (S 7) glyph size) 0 2))) hx hb hts inX0 hown hK hh.1 (ob_Fit) rfl 2 (by decide) (hN _ q1_121) rfl rfl (congrArg (fun z => Value.int (hI (z 0 2))) (gset_at _ _ _)) dX5_glyphOf_127 ?_
                  have hm19 : hIn ((m_X0_lay (S 0) (S 7) glyph size) 0 2) := hIn_rd hh.2.1 (gset_at _ _ _) (by decide)
                  exact iv_iret E hh (by unfold v_X5_glyphOf; rw [if_neg c3, if_neg c5, if_neg c7, if_neg c9, if_neg c11, if_neg c13, if_neg c16, if_pos c18]) (by rw [← show ((m_X0_lay (S 0) (S 7) glyph size) 0 2) = v_X5_glyphOf S glyph size what from (by unfold v_X5_glyphOf; rw [if_neg c3, if_neg c5, if_neg c7, if_neg c9, if_neg c11, if_neg c13, if_neg c16, if_pos c18])]; exact hm19) (by unfold m_X5_glyphOf; rw [if_neg c3, if_neg c5, if_neg c7, if_neg c9, if_neg c11, if_neg c13, if_neg c16, if_pos c18]) dX5_glyphOf_130
                · have h := h.2 c18
                  refine lv_tableOut (tgt := 131) hx hb dX5_glyphOf_44 (by rw [hI_toInt h_what]; exact to_X5_glyphOf_44 _ c9 c11 c13 c16 c18) (by decide) ?_
                  refine lv_aload_n hx hb dX5_glyphOf_131 rfl (lv_at hl 0 rfl) ?_
                  refine iv_get (v' := .ref (ad 7 0)) hx hb hts inX5 hown hK hh.1 (ob_X) rfl 2 (by decide) (hts _ q1_203) rfl rfl rfl dX5_glyphOf_132 ?_
                  refine iv_getN (v' := .long (hJ ((m_X0_lay (S 0) (S 7) glyph size) 100 0))) hx hb hts inX0 hown hK hh.1 (ob_Fit) rfl 3 (by decide) (hN _ q1_123) rfl rfl (congrArg (fun z => Value.long (hJ (z 100 0))) (gset_at _ _ _)) dX5_glyphOf_135 ?_
                  refine iv_ki (iv_rS (As := [.long (hJ ((m_X0_lay (S 0) (S 7) glyph size) 100 0))]) (rest := []) E hh (ok_X5_runsOf l hinj (gset S 7 (m_X0_lay (S 0) (S 7) glyph size)) ((m_X0_lay (S 0) (S 7) glyph size) 100 0)) cb_X5_runsOf q2_225 rfl rfl ⟨Nat.le_of_ble_eq_true rfl, Nat.le_of_ble_eq_true rfl⟩ rfl hl.1 rfl (Nat.le_of_ble_eq_true rfl) dX5_glyphOf_138 ⟨Nat.zero_le _, Nat.zero_le _⟩) hh (fun hc20 H locs hh => ?_)
                  exact iv_iret E hh (by unfold v_X5_glyphOf; rw [if_neg c3, if_neg c5, if_neg c7, if_neg c9, if_neg c11, if_neg c13, if_neg c16, if_neg c18]) (by rw [← show (v_X5_runsOf ((m_X0_lay (S 0) (S 7) glyph size) 100 0)) = v_X5_glyphOf S glyph size what from (by unfold v_X5_glyphOf; rw [if_neg c3, if_neg c5, if_neg c7, if_neg c9, if_neg c11, if_neg c13, if_neg c16, if_neg c18])]; exact hc20) (by unfold m_X5_glyphOf; rw [if_neg c3, if_neg c5, if_neg c7, if_neg c9, if_neg c11, if_neg c13, if_neg c16, if_neg c18]) dX5_glyphOf_141
      · have h := h.1 c7
        refine iv_ldc (n := (-1000001)) hx hb (by decide) hown (hts _ q2_190) dX5_glyphOf_27 ?_
        exact iv_iret E hh (by unfold v_X5_glyphOf; rw [if_neg c3, if_neg c5, if_pos c7]) (by rw [← show (-1000001) = v_X5_glyphOf S glyph size what from (by unfold v_X5_glyphOf; rw [if_neg c3, if_neg c5, if_pos c7])]; exact ⟨by decide, by decide⟩) (by unfold m_X5_glyphOf; rw [if_neg c3, if_neg c5, if_pos c7]) dX5_glyphOf_29
set_option maxHeartbeats 4000000 in
set_option maxRecDepth 100000 in
theorem ok_X5_lit (l : Launch) (hinj : hInj ad) (S : hS) (glyph : Int) (size : Int) (column : Int) (h_glyph : hIn glyph) (h_size : hIn size) (h_column : hIn column) (hp : p_X5_lit S glyph size column) : hMi D ad cI cJ cF l yX5_lit cX5_lit 4 (some .int) ({ frames := 4, cells := 0, slots := 0, locals := 101 } : Room) [.ref (ad 11 0), .int (hI glyph), .int (hI size), .int (hI column)] S (v_X5_lit S glyph size column) (m_X5_lit S glyph size column) := by
  refine hOf (S := S) l hinj (by decide +kernel) (Nat.le_of_ble_eq_true rfl) (fun p e s m args below meth c E => ?_)
  obtain ⟨hx, hb, hml, hown, hts, hK, hN, -, hr, hlk⟩ := id E
  have hown : s.vm.findClass RX5 = some m.cls := hown
  intro H locs ls hh hl
  have hl : lv_has ls 4 [(0, .ref (ad 11 0)), (1, .int (hI glyph)), (2, .int (hI size)), (3, .int (hI column))] := hl
  have h := hp
  unfold p_X5_lit at h
  refine lv_aload_n hx hb dX5_lit_0 rfl (lv_at hl 0 rfl) ?_
  refine iv_get (v' := .ref (ad 0 0)) hx hb hts inX5 hown hK hh.1 (ob_X) rfl 0 (by decide) (hts _ q1_201) rfl rfl rfl dX5_lit_1 ?_
  refine lv_iload_n hx hb dX5_lit_4 rfl (lv_at hl 1 rfl) ?_
  obtain ⟨g1, h⟩ := h
  refine iv_ki (iv_rV (As := [.int (hI glyph)]) (rest := []) E hh (ok_X1_hasGlyph l hinj S (by decide) (S 0) rfl glyph h_glyph g1) cb_X1_hasGlyph q2_214 rfl rfl ⟨Nat.le_of_ble_eq_true rfl, Nat.le_of_ble_eq_true rfl⟩ (ob_Font (by decide)) rfl rfl rfl hl.1 rfl (Nat.le_of_ble_eq_true rfl) dX5_lit_5 ⟨Nat.zero_le _, Nat.zero_le _⟩) hh (fun hc2 H locs hh => ?_)
  refine iv_if_eq (tgt := 28) hx hb hc2 dX5_lit_8 (by decide) (fun c3 => ?_) (fun c3 => ?_)
  · have h := h.1 c3
    refine iv_ldc (n := (-1000001)) hx hb (by decide) hown (hts _ q2_190) dX5_lit_28 ?_
    exact iv_iret E hh (by unfold v_X5_lit; rw [if_pos c3]) (by rw [← show (-1000001) = v_X5_lit S glyph size column from (by unfold v_X5_lit; rw [if_pos c3])]; exact ⟨by decide, by decide⟩) (by unfold m_X5_lit; rw [if_pos c3]) dX5_lit_30
  · have h := h.2 c3
    refine lv_iload_n hx hb dX5_lit_11 rfl (lv_at hl 2 rfl) ?_
    refine iv_ki (iv_rS (As := [.int (hI size)]) (rest := []) E hh (ok_X5_isSize l hinj S size h_size) cb_X5_isSize q2_208 rfl rfl ⟨Nat.le_of_ble_eq_true rfl, Nat.le_of_ble_eq_true rfl⟩ rfl hl.1 rfl (Nat.le_of_ble_eq_true rfl) dX5_lit_12 ⟨Nat.zero_le _, Nat.zero_le _⟩) hh (fun hc4 H locs hh => ?_)
    refine iv_if_eq (tgt := 28) hx hb hc4 dX5_lit_15 (by decide) (fun c5 => ?_) (fun c5 => ?_)
    · have h := h.1 c5
      refine iv_ldc (n := (-1000001)) hx hb (by decide) hown (hts _ q2_190) dX5_lit_28 ?_
      exact iv_iret E hh (by unfold v_X5_lit; rw [if_neg c3, if_pos c5]) (by rw [← show (-1000001) = v_X5_lit S glyph size column from (by unfold v_X5_lit; rw [if_neg c3, if_pos c5])]; exact ⟨by decide, by decide⟩) (by unfold m_X5_lit; rw [if_neg c3, if_pos c5]) dX5_lit_30
    · have h := h.2 c5
      refine lv_iload_n hx hb dX5_lit_18 rfl (lv_at hl 3 rfl) ?_
      refine iv_iconst hx hb dX5_lit_19 ?_
      refine lv_bipush (v := hI 63) hx hb dX5_lit_20 (by decide) ?_
      refine iv_ki (iv_rS (As := [.int (hI column), .int (hI 0), .int (hI 63)]) (rest := []) E hh (ok_X5_within l hinj S column 0 63 h_column ⟨by decide, by decide⟩ ⟨by decide, by decide⟩) cb_X5_within q2_114 rfl rfl ⟨Nat.le_of_ble_eq_true rfl, Nat.le_of_ble_eq_true rfl⟩ rfl hl.1 rfl (Nat.le_of_ble_eq_true rfl) dX5_lit_22 ⟨Nat.zero_le _, Nat.zero_le _⟩) hh (fun hc6 H locs hh => ?_)
      refine iv_if_ne (tgt := 31) hx hb hc6 dX5_lit_25 (by decide) (fun c7 => ?_) (fun c7 => ?_)
      · have h := h.2 c7
        refine lv_aload_n hx hb dX5_lit_31 rfl (lv_at hl 0 rfl) ?_
        refine iv_get (v' := .ref (ad 7 0)) hx hb hts inX5 hown hK hh.1 (ob_X) rfl 2 (by decide) (hts _ q1_203) rfl rfl rfl dX5_lit_32 ?_
        refine lv_aload_n hx hb dX5_lit_35 rfl (lv_at hl 0 rfl) ?_
        refine iv_get (v' := .ref (ad 0 0)) hx hb hts inX5 hown hK hh.1 (ob_X) rfl 0 (by decide) (hts _ q1_201) rfl rfl rfl dX5_lit_36 ?_
        refine lv_iload_n hx hb dX5_lit_39 rfl (lv_at hl 1 rfl) ?_
        refine lv_iload_n hx hb dX5_lit_40 rfl (lv_at hl 2 rfl) ?_
        obtain ⟨g8, h⟩ := h
        refine iv_kv (iv_rV (As := [.ref (ad 0 0), .int (hI glyph), .int (hI size)]) (rest := []) E hh (ok_X0_lay l hinj S (by decide) (S 0) rfl (S 7) rfl glyph size h_glyph h_size g8) cb_X0_lay q2_209 rfl rfl ⟨Nat.le_of_ble_eq_true rfl, Nat.le_of_ble_eq_true rfl⟩ (ob_Fit) rfl rfl rfl hl.1 rfl (Nat.le_of_ble_eq_true rfl) dX5_lit_41 ⟨Nat.zero_le _, Nat.zero_le _⟩) hh (fun H locs hh => ?_)
        refine lv_iload_n hx hb dX5_lit_44 rfl (lv_at hl 3 rfl) ?_
        refine lv_aload_n hx hb dX5_lit_45 rfl (lv_at hl 0 rfl) ?_
        refine iv_get (v' := .ref (ad 7 0)) hx hb hts inX5 hown hK hh.1 (ob_X) rfl 2 (by decide) (hts _ q1_203) rfl rfl rfl dX5_lit_46 ?_
        refine iv_getN (v' := .int (hI ((m_X0_lay (S 0) (S 7) glyph size) 0 0))) hx hb hts inX0 hown hK hh.1 (ob_Fit) rfl 0 (by decide) (hN _ q1_116) rfl rfl (congrArg (fun z => Value.int (hI (z 0 0))) (gset_at _ _ _)) dX5_lit_49 ?_
        have hm9 : hIn ((m_X0_lay (S 0) (S 7) glyph size) 0 0) := hIn_rd hh.2.1 (gset_at _ _ _) (by decide)
        refine iv_icmp_ge (tgt := 69) hx hb h_column hm9 dX5_lit_52 (by decide) (fun c10 => ?_) (fun c10 => ?_)
        · have h := h.2 c10
          refine iv_ldc (n := (-1000004)) hx hb (by decide) hown (hts _ q2_197) dX5_lit_69 ?_
          exact iv_iret E hh (by unfold v_X5_lit; rw [if_neg c3, if_neg c5, if_neg c7, if_neg c10]) (by rw [← show (-1000004) = v_X5_lit S glyph size column from (by unfold v_X5_lit; rw [if_neg c3, if_neg c5, if_neg c7, if_neg c10])]; exact ⟨by decide, by decide⟩) (by unfold m_X5_lit; rw [if_neg c3, if_neg c5, if_neg c7, if_neg c10]) dX5_lit_71
        · have h := h.1 c10
          refine lv_aload_n hx hb dX5_lit_55 rfl (lv_at hl 0 rfl) ?_
          refine iv_get (v' := .ref (ad 7 0)) hx hb hts inX5 hown hK hh.1 (ob_X) rfl 2 (by decide) (hts _ q1_203) rfl rfl rfl dX5_lit_56 ?_
          refine iv_getN (v' := .long (hJ ((m_X0_lay (S 0) (S 7) glyph size) 100 0))) hx hb hts inX0 hown hK hh.1 (ob_Fit) rfl 3 (by decide) (hN _ q1_123) rfl rfl (congrArg (fun z => Value.long (hJ (z 100 0))) (gset_at _ _ _)) dX5_lit_59 ?_
          refine lv_iload_n hx hb dX5_lit_62 rfl (lv_at hl 3 rfl) ?_
          refine iv_ki (iv_rS (As := [.long (hJ ((m_X0_lay (S 0) (S 7) glyph size) 100 0)), .int (hI column)]) (rest := []) E hh (ok_X5_bitOf l hinj (gset S 7 (m_X0_lay (S 0) (S 7) glyph size)) ((m_X0_lay (S 0) (S 7) glyph size) 100 0) column h_column) cb_X5_bitOf q2_233 rfl rfl ⟨Nat.le_of_ble_eq_true rfl, Nat.le_of_ble_eq_true rfl⟩ rfl hl.1 rfl (Nat.le_of_ble_eq_true rfl) dX5_lit_63 ⟨Nat.zero_le _, Nat.zero_le _⟩) hh (fun hc11 H locs hh => ?_)
          refine lv_goto (tgt := 71) hx hb dX5_lit_66 (by decide) ?_
          exact iv_iret E hh (by unfold v_X5_lit; rw [if_neg c3, if_neg c5, if_neg c7, if_pos c10]) (by rw [← show (v_X5_bitOf ((m_X0_lay (S 0) (S 7) glyph size) 100 0) column) = v_X5_lit S glyph size column from (by unfold v_X5_lit; rw [if_neg c3, if_neg c5, if_neg c7, if_pos c10])]; exact hc11) (by unfold m_X5_lit; rw [if_neg c3, if_neg c5, if_neg c7, if_pos c10]) dX5_lit_71
      · have h := h.1 c7
        refine iv_ldc (n := (-1000001)) hx hb (by decide) hown (hts _ q2_190) dX5_lit_28 ?_
        exact iv_iret E hh (by unfold v_X5_lit; rw [if_neg c3, if_neg c5, if_pos c7]) (by rw [← show (-1000001) = v_X5_lit S glyph size column from (by unfold v_X5_lit; rw [if_neg c3, if_neg c5, if_pos c7])]; exact ⟨by decide, by decide⟩) (by unfold m_X5_lit; rw [if_neg c3, if_neg c5, if_pos c7]) dX5_lit_30
set_option maxHeartbeats 4000000 in
set_option maxRecDepth 100000 in
theorem ok_X5_inSheet (l : Launch) (hinj : hInj ad) (S : hS) (size : Int) (glyph : Int) (column : Int) (h_size : hIn size) (h_glyph : hIn glyph) (h_column : hIn column) (hp : p_X5_inSheet S size glyph column) : hMi D ad cI cJ cF l yX5_inSheet cX5_inSheet 7 (some .int) ({ frames := 3, cells := 0, slots := 0, locals := 64 } : Room) [.ref (ad 11 0), .int (hI size), .int (hI glyph), .int (hI column)] S (v_X5_inSheet S size glyph column) S := by
  refine hOf (S := S) l hinj (by decide +kernel) (Nat.le_of_ble_eq_true rfl) (fun p e s m args below meth c E => ?_)
  obtain ⟨hx, hb, hml, hown, hts, hK, hN, -, hr, hlk⟩ := id E
  have hown : s.vm.findClass RX5 = some m.cls := hown
  intro H locs ls hh hl
  have hl : lv_has ls 7 [(0, .ref (ad 11 0)), (1, .int (hI size)), (2, .int (hI glyph)), (3, .int (hI column))] := hl
  have h := hp
  unfold p_X5_inSheet at h
  refine lv_iload_n hx hb dX5_inSheet_0 rfl (lv_at hl 1 rfl) ?_
  refine iv_ki (iv_rS (As := [.int (hI size)]) (rest := []) E hh (ok_X5_isSize l hinj S size h_size) cb_X5_isSize q2_208 rfl rfl ⟨Nat.le_of_ble_eq_true rfl, Nat.le_of_ble_eq_true rfl⟩ rfl hl.1 rfl (Nat.le_of_ble_eq_true rfl) dX5_inSheet_1 ⟨Nat.zero_le _, Nat.zero_le _⟩) hh (fun hc1 H locs hh => ?_)
  refine iv_if_eq (tgt := 27) hx hb hc1 dX5_inSheet_4 (by decide) (fun c2 => ?_) (fun c2 => ?_)
  · have h := h.1 c2
    refine iv_ldc (n := (-1000001)) hx hb (by decide) hown (hts _ q2_190) dX5_inSheet_27 ?_
    exact iv_iret E hh (by unfold v_X5_inSheet; rw [if_pos c2]) (by rw [← show (-1000001) = v_X5_inSheet S size glyph column from (by unfold v_X5_inSheet; rw [if_pos c2])]; exact ⟨by decide, by decide⟩) rfl dX5_inSheet_29
  · have h := h.2 c2
    refine lv_iload_n hx hb dX5_inSheet_7 rfl (lv_at hl 2 rfl) ?_
    refine iv_iconst hx hb dX5_inSheet_8 ?_
    refine lv_bipush (v := hI 7) hx hb dX5_inSheet_9 (by decide) ?_
    refine iv_ki (iv_rS (As := [.int (hI glyph), .int (hI 0), .int (hI 7)]) (rest := []) E hh (ok_X5_within l hinj S glyph 0 7 h_glyph ⟨by decide, by decide⟩ ⟨by decide, by decide⟩) cb_X5_within q2_114 rfl rfl ⟨Nat.le_of_ble_eq_true rfl, Nat.le_of_ble_eq_true rfl⟩ rfl hl.1 rfl (Nat.le_of_ble_eq_true rfl) dX5_inSheet_11 ⟨Nat.zero_le _, Nat.zero_le _⟩) hh (fun hc3 H locs hh => ?_)
    refine iv_if_eq (tgt := 27) hx hb hc3 dX5_inSheet_14 (by decide) (fun c4 => ?_) (fun c4 => ?_)
    · have h := h.1 c4
      refine iv_ldc (n := (-1000001)) hx hb (by decide) hown (hts _ q2_190) dX5_inSheet_27 ?_
      exact iv_iret E hh (by unfold v_X5_inSheet; rw [if_neg c2, if_pos c4]) (by rw [← show (-1000001) = v_X5_inSheet S size glyph column from (by unfold v_X5_inSheet; rw [if_neg c2, if_pos c4])]; exact ⟨by decide, by decide⟩) rfl dX5_inSheet_29
    · have h := h.2 c4
      refine lv_iload_n hx hb dX5_inSheet_17 rfl (lv_at hl 3 rfl) ?_
      refine iv_iconst hx hb dX5_inSheet_18 ?_
      refine lv_bipush (v := hI 63) hx hb dX5_inSheet_19 (by decide) ?_
      refine iv_ki (iv_rS (As := [.int (hI column), .int (hI 0), .int (hI 63)]) (rest := []) E hh (ok_X5_within l hinj S column 0 63 h_column ⟨by decide, by decide⟩ ⟨by decide, by decide⟩) cb_X5_within q2_114 rfl rfl ⟨Nat.le_of_ble_eq_true rfl, Nat.le_of_ble_eq_true rfl⟩ rfl hl.1 rfl (Nat.le_of_ble_eq_true rfl) dX5_inSheet_21 ⟨Nat.zero_le _, Nat.zero_le _⟩) hh (fun hc5 H locs hh => ?_)
      refine iv_if_ne (tgt := 30) hx hb hc5 dX5_inSheet_24 (by decide) (fun c6 => ?_) (fun c6 => ?_)
      · have h := h.2 c6
        refine lv_aload_n hx hb dX5_inSheet_30 rfl (lv_at hl 0 rfl) ?_
        refine iv_get (v' := .ref (ad 0 0)) hx hb hts inX5 hown hK hh.1 (ob_X) rfl 0 (by decide) (hts _ q1_201) rfl rfl rfl dX5_inSheet_31 ?_
        refine iv_getN (v' := .ref (ad 0 7)) hx hb hts inX1 hown hK hh.1 (ob_Font (by decide)) rfl 10 (by decide) (hN _ q1_85) rfl rfl rfl dX5_inSheet_34 ?_
        refine lv_astore (lv' := [(4, .ref (ad 0 7)), (0, .ref (ad 11 0)), (1, .int (hI size)), (2, .int (hI glyph)), (3, .int (hI column))]) hx hb dX5_inSheet_37 hl (by decide) rfl (fun ls hl => ?_)
        refine lv_aload hx hb dX5_inSheet_39 (lv_at hl 0 rfl) ?_
        refine lv_iload_n hx hb dX5_inSheet_41 rfl (lv_at hl 2 rfl) ?_
        obtain ⟨g7, h⟩ := h
        refine iv_ki (iv_rV (As := [.int (hI size)]) (rest := []) E hh (ok_X4_slotOf l hinj S (by decide) (S 0) rfl size h_size g7) cb_X4_slotOf q3_0 rfl rfl ⟨Nat.le_of_ble_eq_true rfl, Nat.le_of_ble_eq_true rfl⟩ (ob_Sheets (by decide)) rfl rfl rfl hl.1 rfl (Nat.le_of_ble_eq_true rfl) dX5_inSheet_42 ⟨Nat.zero_le _, Nat.zero_le _⟩) hh (fun hc8 H locs hh => ?_)
        refine lv_istore (lv' := [(5, .int (hI (v_X4_slotOf (S 0) size))), (4, .ref (ad 0 7)), (0, .ref (ad 11 0)), (1, .int (hI size)), (2, .int (hI glyph)), (3, .int (hI column))]) hx hb dX5_inSheet_45 hl (by decide) rfl (fun ls hl => ?_)
        refine lv_iload hx hb dX5_inSheet_47 (lv_at hl 0 rfl) ?_
        refine iv_if_lt (tgt := 66) hx hb hc8 dX5_inSheet_49 (by decide) (fun c9 => ?_) (fun c9 => ?_)
        · have h := h.1 c9
          refine iv_ldc (n := (-1000004)) hx hb (by decide) hown (hts _ q2_197) dX5_inSheet_66 ?_
          exact iv_iret E hh (by unfold v_X5_inSheet; rw [if_neg c2, if_neg c4, if_neg c6, if_pos c9]) (by rw [← show (-1000004) = v_X5_inSheet S size glyph column from (by unfold v_X5_inSheet; rw [if_neg c2, if_neg c4, if_neg c6, if_pos c9])]; exact ⟨by decide, by decide⟩) rfl dX5_inSheet_68
        · have h := h.2 c9
          refine lv_iload_n hx hb dX5_inSheet_52 rfl (lv_at hl 4 rfl) ?_
          refine lv_aload hx hb dX5_inSheet_53 (lv_at hl 1 rfl) ?_
          refine iv_getN (v' := .ref (ad 0 10)) hx hb hts inX4 hown hK hh.1 (ob_Sheets (by decide)) rfl 3 (by decide) (hN _ q1_38) rfl rfl rfl dX5_inSheet_55 ?_
          refine lv_iload hx hb dX5_inSheet_58 (lv_at hl 0 rfl) ?_
          refine iv_ki (iv_rS (As := [.ref (ad 0 10), .int (hI (v_X4_slotOf (S 0) size))]) (rest := [.int (hI glyph)]) E hh (ok_X5_cell l hinj S (ia_F_10 (by decide)) (S 0) rfl (v_X4_slotOf (S 0) size) hc8) cb_X5_cell q2_191 rfl rfl ⟨Nat.le_of_ble_eq_true rfl, Nat.le_of_ble_eq_true rfl⟩ rfl hl.1 rfl (Nat.le_of_ble_eq_true rfl) dX5_inSheet_60 ⟨Nat.zero_le _, Nat.zero_le _⟩) hh (fun hc10 H locs hh => ?_)
          refine iv_icmp_lt (tgt := 69) hx hb h_glyph hc10 dX5_inSheet_63 (by decide) (fun c11 => ?_) (fun c11 => ?_)
          · have h := h.1 c11
            refine lv_iload hx hb dX5_inSheet_69 (lv_at hl 0 rfl) ?_
            refine lv_bipush (v := hI 8) hx hb dX5_inSheet_71 (by decide) ?_
            refine iv_imul hx hb dX5_inSheet_73 ?_
            refine lv_iload_n hx hb dX5_inSheet_74 rfl (lv_at hl 4 rfl) ?_
            refine iv_iadd hx hb dX5_inSheet_75 ?_
            refine lv_istore (lv' := [(6, .int (hI (((v_X4_slotOf (S 0) size) * 8) + glyph))), (5, .int (hI (v_X4_slotOf (S 0) size))), (4, .ref (ad 0 7)), (0, .ref (ad 11 0)), (1, .int (hI size)), (2, .int (hI glyph)), (3, .int (hI column))]) hx hb dX5_inSheet_76 hl (by decide) rfl (fun ls hl => ?_)
            refine lv_iload_n hx hb dX5_inSheet_78 rfl (lv_at hl 6 rfl) ?_
            refine lv_aload hx hb dX5_inSheet_79 (lv_at hl 2 rfl) ?_
            refine iv_getN (v' := .ref (ad 0 11)) hx hb hts inX4 hown hK hh.1 (ob_Sheets (by decide)) rfl 4 (by decide) (hN _ q1_41) rfl rfl rfl dX5_inSheet_81 ?_
            refine lv_iload hx hb dX5_inSheet_84 (lv_at hl 0 rfl) ?_
            obtain ⟨g12, h⟩ := h
            refine iv_ki (iv_rS (As := [.ref (ad 0 11), .int (hI (((v_X4_slotOf (S 0) size) * 8) + glyph))]) (rest := [.int (hI column)]) E hh (ok_X5_cell l hinj S (ia_F_11 (by decide)) (S 0) rfl (((v_X4_slotOf (S 0) size) * 8) + glyph) g12) cb_X5_cell q2_191 rfl rfl ⟨Nat.le_of_ble_eq_true rfl, Nat.le_of_ble_eq_true rfl⟩ rfl hl.1 rfl (Nat.le_of_ble_eq_true rfl) dX5_inSheet_86 ⟨Nat.zero_le _, Nat.zero_le _⟩) hh (fun hc13 H locs hh => ?_)
            refine iv_icmp_ge (tgt := 106) hx hb h_column hc13 dX5_inSheet_89 (by decide) (fun c14 => ?_) (fun c14 => ?_)
            · have h := h.2 c14
              refine iv_ldc (n := (-1000004)) hx hb (by decide) hown (hts _ q2_197) dX5_inSheet_106 ?_
              exact iv_iret E hh (by unfold v_X5_inSheet; rw [if_neg c2, if_neg c4, if_neg c6, if_neg c9, if_pos c11, if_neg c14]) (by rw [← show (-1000004) = v_X5_inSheet S size glyph column from (by unfold v_X5_inSheet; rw [if_neg c2, if_neg c4, if_neg c6, if_neg c9, if_pos c11, if_neg c14])]; exact ⟨by decide, by decide⟩) rfl dX5_inSheet_108
            · have h := h.1 c14
              refine lv_aload hx hb dX5_inSheet_92 (lv_at hl 2 rfl) ?_
              refine lv_iload hx hb dX5_inSheet_94 (lv_at hl 0 rfl) ?_
              refine iv_kl (iv_rV (As := [.int (hI (((v_X4_slotOf (S 0) size) * 8) + glyph))]) (rest := []) E hh (ok_X4_litAt l hinj S (by decide) (S 0) rfl (((v_X4_slotOf (S 0) size) * 8) + glyph) g12) cb_X4_litAt q3_1 rfl rfl ⟨Nat.le_of_ble_eq_true rfl, Nat.le_of_ble_eq_true rfl⟩ (ob_Sheets (by decide)) rfl rfl rfl hl.1 rfl (Nat.le_of_ble_eq_true rfl) dX5_inSheet_96 ⟨Nat.zero_le _, Nat.zero_le _⟩) hh (fun H locs hh => ?_)
              refine lv_iload_n hx hb dX5_inSheet_99 rfl (lv_at hl 6 rfl) ?_
              refine iv_ki (iv_rS (As := [.long (hJ (v_X4_litAt (S 0) (((v_X4_slotOf (S 0) size) * 8) + glyph))), .int (hI column)]) (rest := []) E hh (ok_X5_bitOf l hinj S (v_X4_litAt (S 0) (((v_X4_slotOf (S 0) size) * 8) + glyph)) column h_column) cb_X5_bitOf q2_233 rfl rfl ⟨Nat.le_of_ble_eq_true rfl, Nat.le_of_ble_eq_true rfl⟩ rfl hl.1 rfl (Nat.le_of_ble_eq_true rfl) dX5_inSheet_100 ⟨Nat.zero_le _, Nat.zero_le _⟩) hh (fun hc15 H locs hh => ?_)
              refine lv_goto (tgt := 108) hx hb dX5_inSheet_103 (by decide) ?_
              exact iv_iret E hh (by unfold v_X5_inSheet; rw [if_neg c2, if_neg c4, if_neg c6, if_neg c9, if_pos c11, if_pos c14]) (by rw [← show (v_X5_bitOf (v_X4_litAt (S 0) (((v_X4_slotOf (S 0) size) * 8) + glyph)) column) = v_X5_inSheet S size glyph column from (by unfold v_X5_inSheet; rw [if_neg c2, if_neg c4, if_neg c6, if_neg c9, if_pos c11, if_pos c14])]; exact hc15) rfl dX5_inSheet_108
          · have h := h.2 c11
            refine iv_ldc (n := (-1000004)) hx hb (by decide) hown (hts _ q2_197) dX5_inSheet_66 ?_
            exact iv_iret E hh (by unfold v_X5_inSheet; rw [if_neg c2, if_neg c4, if_neg c6, if_neg c9, if_neg c11]) (by rw [← show (-1000004) = v_X5_inSheet S size glyph column from (by unfold v_X5_inSheet; rw [if_neg c2, if_neg c4, if_neg c6, if_neg c9, if_neg c11])]; exact ⟨by decide, by decide⟩) rfl dX5_inSheet_68
      · have h := h.1 c6
        refine iv_ldc (n := (-1000001)) hx hb (by decide) hown (hts _ q2_190) dX5_inSheet_27 ?_
        exact iv_iret E hh (by unfold v_X5_inSheet; rw [if_neg c2, if_neg c4, if_pos c6]) (by rw [← show (-1000001) = v_X5_inSheet S size glyph column from (by unfold v_X5_inSheet; rw [if_neg c2, if_neg c4, if_pos c6])]; exact ⟨by decide, by decide⟩) rfl dX5_inSheet_29
theorem to_X5_sheetOf_36 (x : Int) (_ : ¬ x = 0) (_ : ¬ x = 1) (_ : ¬ x = 2) : x < 0 ∨ 2 < x := by omega
set_option maxHeartbeats 4000000 in
set_option maxRecDepth 100000 in
theorem ok_X5_sheetOf (l : Launch) (hinj : hInj ad) (S : hS) (index : Int) (what : Int) (h_index : hIn index) (h_what : hIn what) (hp : p_X5_sheetOf S index what) : hMi D ad cI cJ cF l yX5_sheetOf cX5_sheetOf 4 (some .int) ({ frames := 5, cells := 0, slots := 0, locals := 126 } : Room) [.ref (ad 11 0), .int (hI index), .int (hI what)] S (v_X5_sheetOf S index what) (m_X5_sheetOf S index what) := by
  refine hOf (S := S) l hinj (by decide +kernel) (Nat.le_of_ble_eq_true rfl) (fun p e s m args below meth c E => ?_)
  obtain ⟨hx, hb, hml, hown, hts, hK, hN, -, hr, hlk⟩ := id E
  have hown : s.vm.findClass RX5 = some m.cls := hown
  intro H locs ls hh hl
  have hl : lv_has ls 4 [(0, .ref (ad 11 0)), (1, .int (hI index)), (2, .int (hI what))] := hl
  have h := hp
  unfold p_X5_sheetOf at h
  refine lv_iload_n hx hb dX5_sheetOf_0 rfl (lv_at hl 1 rfl) ?_
  refine iv_if_lt (tgt := 13) hx hb h_index dX5_sheetOf_1 (by decide) (fun c1 => ?_) (fun c1 => ?_)
  · have h := h.1 c1
    refine iv_ldc (n := (-1000001)) hx hb (by decide) hown (hts _ q2_190) dX5_sheetOf_13 ?_
    exact iv_iret E hh (by unfold v_X5_sheetOf; rw [if_pos c1]) (by rw [← show (-1000001) = v_X5_sheetOf S index what from (by unfold v_X5_sheetOf; rw [if_pos c1])]; exact ⟨by decide, by decide⟩) (by unfold m_X5_sheetOf; rw [if_pos c1]) dX5_sheetOf_15
  · have h := h.2 c1
    refine lv_iload_n hx hb dX5_sheetOf_4 rfl (lv_at hl 2 rfl) ?_
    refine iv_iconst hx hb dX5_sheetOf_5 ?_
    refine iv_iconst hx hb dX5_sheetOf_6 ?_
    refine iv_ki (iv_rS (As := [.int (hI what), .int (hI 0), .int (hI 3)]) (rest := []) E hh (ok_X5_within l hinj S what 0 3 h_what ⟨by decide, by decide⟩ ⟨by decide, by decide⟩) cb_X5_within q2_114 rfl rfl ⟨Nat.le_of_ble_eq_true rfl, Nat.le_of_ble_eq_true rfl⟩ rfl hl.1 rfl (Nat.le_of_ble_eq_true rfl) dX5_sheetOf_7 ⟨Nat.zero_le _, Nat.zero_le _⟩) hh (fun hc2 H locs hh => ?_)
    refine iv_if_ne (tgt := 16) hx hb hc2 dX5_sheetOf_10 (by decide) (fun c3 => ?_) (fun c3 => ?_)
    · have h := h.2 c3
      refine lv_aload_n hx hb dX5_sheetOf_16 rfl (lv_at hl 0 rfl) ?_
      refine iv_get (v' := .ref (ad 0 0)) hx hb hts inX5 hown hK hh.1 (ob_X) rfl 0 (by decide) (hts _ q1_201) rfl rfl rfl dX5_sheetOf_17 ?_
      refine iv_getN (v' := .ref (ad 0 7)) hx hb hts inX1 hown hK hh.1 (ob_Font (by decide)) rfl 10 (by decide) (hN _ q1_85) rfl rfl rfl dX5_sheetOf_20 ?_
      refine lv_iload_n hx hb dX5_sheetOf_23 rfl (lv_at hl 1 rfl) ?_
      obtain ⟨g4, h⟩ := h
      refine iv_ki (iv_rV (As := [.int (hI index)]) (rest := []) E hh (ok_X4_slotAt l hinj S (by decide) (S 0) rfl index h_index g4) cb_X4_slotAt q3_9 rfl rfl ⟨Nat.le_of_ble_eq_true rfl, Nat.le_of_ble_eq_true rfl⟩ (ob_Sheets (by decide)) rfl rfl rfl hl.1 rfl (Nat.le_of_ble_eq_true rfl) dX5_sheetOf_24 ⟨Nat.zero_le _, Nat.zero_le _⟩) hh (fun hc5 H locs hh => ?_)
      refine lv_istore_n (lv' := [(3, .int (hI (v_X4_slotAt (S 0) index))), (0, .ref (ad 11 0)), (1, .int (hI index)), (2, .int (hI what))]) hx hb dX5_sheetOf_27 rfl hl (by decide) rfl (fun ls hl => ?_)
      refine lv_iload_n hx hb dX5_sheetOf_28 rfl (lv_at hl 0 rfl) ?_
      refine iv_if_ge (tgt := 35) hx hb hc5 dX5_sheetOf_29 (by decide) (fun c6 => ?_) (fun c6 => ?_)
      · have h := h.2 c6
        refine lv_iload_n hx hb dX5_sheetOf_35 rfl (lv_at hl 3 rfl) ?_
        by_cases c7 : what = 0
        · have h := h.1 c7
          refine lv_tableIn (off := 28) (tgt := 64) hx hb dX5_sheetOf_36 (by rw [hI_toInt h_what, c7]; decide) (by rw [hI_toInt h_what, c7]; decide) (by rw [hI_toInt h_what, c7]; rfl) (by decide) ?_
          refine lv_aload_n hx hb dX5_sheetOf_64 rfl (lv_at hl 1 rfl) ?_
          refine iv_get (v' := .ref (ad 0 0)) hx hb hts inX5 hown hK hh.1 (ob_X) rfl 0 (by decide) (hts _ q1_201) rfl rfl rfl dX5_sheetOf_65 ?_
          refine iv_getN (v' := .ref (ad 0 7)) hx hb hts inX1 hown hK hh.1 (ob_Font (by decide)) rfl 10 (by decide) (hN _ q1_85) rfl rfl rfl dX5_sheetOf_68 ?_
          refine iv_getN (v' := .ref (ad 0 9)) hx hb hts inX4 hown hK hh.1 (ob_Sheets (by decide)) rfl 2 (by decide) (hN _ q1_35) rfl rfl rfl dX5_sheetOf_71 ?_
          refine lv_iload_n hx hb dX5_sheetOf_74 rfl (lv_at hl 0 rfl) ?_
          refine iv_ki (iv_rS (As := [.ref (ad 0 9), .int (hI (v_X4_slotAt (S 0) index))]) (rest := []) E hh (ok_X5_cell l hinj S (ia_F_9 (by decide)) (S 0) rfl (v_X4_slotAt (S 0) index) hc5) cb_X5_cell q2_191 rfl rfl ⟨Nat.le_of_ble_eq_true rfl, Nat.le_of_ble_eq_true rfl⟩ rfl hl.1 rfl (Nat.le_of_ble_eq_true rfl) dX5_sheetOf_75 ⟨Nat.zero_le _, Nat.zero_le _⟩) hh (fun hc8 H locs hh => ?_)
          exact iv_iret E hh (by unfold v_X5_sheetOf; rw [if_neg c1, if_neg c3, if_neg c6, if_pos c7]) (by rw [← show (v_X5_cell (S 0) 9 4 (v_X4_slotAt (S 0) index)) = v_X5_sheetOf S index what from (by unfold v_X5_sheetOf; rw [if_neg c1, if_neg c3, if_neg c6, if_pos c7])]; exact hc8) (by unfold m_X5_sheetOf; rw [if_neg c1, if_neg c3, if_neg c6, if_pos c7]) dX5_sheetOf_78
        · have h := h.2 c7
          by_cases c9 : what = 1
          · have h := h.1 c9
            refine lv_tableIn (off := 43) (tgt := 79) hx hb dX5_sheetOf_36 (by rw [hI_toInt h_what, c9]; decide) (by rw [hI_toInt h_what, c9]; decide) (by rw [hI_toInt h_what, c9]; rfl) (by decide) ?_
            refine lv_aload_n hx hb dX5_sheetOf_79 rfl (lv_at hl 1 rfl) ?_
            refine iv_get (v' := .ref (ad 0 0)) hx hb hts inX5 hown hK hh.1 (ob_X) rfl 0 (by decide) (hts _ q1_201) rfl rfl rfl dX5_sheetOf_80 ?_
            refine iv_getN (v' := .ref (ad 0 7)) hx hb hts inX1 hown hK hh.1 (ob_Font (by decide)) rfl 10 (by decide) (hN _ q1_85) rfl rfl rfl dX5_sheetOf_83 ?_
            refine iv_getN (v' := .ref (ad 0 10)) hx hb hts inX4 hown hK hh.1 (ob_Sheets (by decide)) rfl 3 (by decide) (hN _ q1_38) rfl rfl rfl dX5_sheetOf_86 ?_
            refine lv_iload_n hx hb dX5_sheetOf_89 rfl (lv_at hl 0 rfl) ?_
            refine iv_ki (iv_rS (As := [.ref (ad 0 10), .int (hI (v_X4_slotAt (S 0) index))]) (rest := []) E hh (ok_X5_cell l hinj S (ia_F_10 (by decide)) (S 0) rfl (v_X4_slotAt (S 0) index) hc5) cb_X5_cell q2_191 rfl rfl ⟨Nat.le_of_ble_eq_true rfl, Nat.le_of_ble_eq_true rfl⟩ rfl hl.1 rfl (Nat.le_of_ble_eq_true rfl) dX5_sheetOf_90 ⟨Nat.zero_le _, Nat.zero_le _⟩) hh (fun hc10 H locs hh => ?_)
            exact iv_iret E hh (by unfold v_X5_sheetOf; rw [if_neg c1, if_neg c3, if_neg c6, if_neg c7, if_pos c9]) (by rw [← show (v_X5_cell (S 0) 10 4 (v_X4_slotAt (S 0) index)) = v_X5_sheetOf S index what from (by unfold v_X5_sheetOf; rw [if_neg c1, if_neg c3, if_neg c6, if_neg c7, if_pos c9])]; exact hc10) (by unfold m_X5_sheetOf; rw [if_neg c1, if_neg c3, if_neg c6, if_neg c7, if_pos c9]) dX5_sheetOf_93
          · have h := h.2 c9
            by_cases c11 : what = 2
            · have h := h.1 c11
              refine lv_tableIn (off := 58) (tgt := 94) hx hb dX5_sheetOf_36 (by rw [hI_toInt h_what, c11]; decide) (by rw [hI_toInt h_what, c11]; decide) (by rw [hI_toInt h_what, c11]; rfl) (by decide) ?_
              refine lv_aload_n hx hb dX5_sheetOf_94 rfl (lv_at hl 1 rfl) ?_
              refine iv_get (v' := .ref (ad 0 0)) hx hb hts inX5 hown hK hh.1 (ob_X) rfl 0 (by decide) (hts _ q1_201) rfl rfl rfl dX5_sheetOf_95 ?_
              refine lv_iload_n hx hb dX5_sheetOf_98 rfl (lv_at hl 0 rfl) ?_
              refine lv_aload_n hx hb dX5_sheetOf_99 rfl (lv_at hl 1 rfl) ?_
              refine iv_get (v' := .ref (ad 7 0)) hx hb hts inX5 hown hK hh.1 (ob_X) rfl 2 (by decide) (hts _ q1_203) rfl rfl rfl dX5_sheetOf_100 ?_
              obtain ⟨g12, h⟩ := h
              refine iv_ki (iv_rV (As := [.int (hI (v_X4_slotAt (S 0) index)), .ref (ad 7 0)]) (rest := []) E hh (ok_X1_isStale l hinj S (by decide) (S 0) rfl (S 7) rfl (v_X4_slotAt (S 0) index) hc5 g12) cb_X1_isStale q3_17 rfl rfl ⟨Nat.le_of_ble_eq_true rfl, Nat.le_of_ble_eq_true rfl⟩ (ob_Font (by decide)) rfl rfl rfl hl.1 rfl (Nat.le_of_ble_eq_true rfl) dX5_sheetOf_103 ⟨Nat.zero_le _, Nat.zero_le _⟩) hh (fun hc13 H locs hh => ?_)
              refine iv_if_eq (tgt := 113) hx hb hc13 dX5_sheetOf_106 (by decide) (fun c14 => ?_) (fun c14 => ?_)
              · have h := h.1 c14
                refine iv_iconst hx hb dX5_sheetOf_113 ?_
                exact iv_iret E hh (by unfold v_X5_sheetOf; rw [if_neg c1, if_neg c3, if_neg c6, if_neg c7, if_neg c9, if_pos c11, if_pos c14]) (by rw [← show 0 = v_X5_sheetOf S index what from (by unfold v_X5_sheetOf; rw [if_neg c1, if_neg c3, if_neg c6, if_neg c7, if_neg c9, if_pos c11, if_pos c14])]; exact ⟨by decide, by decide⟩) (by unfold m_X5_sheetOf; rw [if_neg c1, if_neg c3, if_neg c6, if_neg c7, if_neg c9, if_pos c11, if_pos c14]) dX5_sheetOf_114
              · have h := h.2 c14
                refine iv_iconst hx hb dX5_sheetOf_109 ?_
                refine lv_goto (tgt := 114) hx hb dX5_sheetOf_110 (by decide) ?_
                exact iv_iret E hh (by unfold v_X5_sheetOf; rw [if_neg c1, if_neg c3, if_neg c6, if_neg c7, if_neg c9, if_pos c11, if_neg c14]) (by rw [← show 1 = v_X5_sheetOf S index what from (by unfold v_X5_sheetOf; rw [if_neg c1, if_neg c3, if_neg c6, if_neg c7, if_neg c9, if_pos c11, if_neg c14])]; exact ⟨by decide, by decide⟩) (by unfold m_X5_sheetOf; rw [if_neg c1, if_neg c3, if_neg c6, if_neg c7, if_neg c9, if_pos c11, if_neg c14]) dX5_sheetOf_114
            · have h := h.2 c11
              refine lv_tableOut (tgt := 115) hx hb dX5_sheetOf_36 (by rw [hI_toInt h_what]; exact to_X5_sheetOf_36 _ c7 c9 c11) (by decide) ?_
              refine lv_aload_n hx hb dX5_sheetOf_115 rfl (lv_at hl 1 rfl) ?_
              refine iv_get (v' := .ref (ad 0 0)) hx hb hts inX5 hown hK hh.1 (ob_X) rfl 0 (by decide) (hts _ q1_201) rfl rfl rfl dX5_sheetOf_116 ?_
              refine iv_getN (v' := .ref (ad 0 7)) hx hb hts inX1 hown hK hh.1 (ob_Font (by decide)) rfl 10 (by decide) (hN _ q1_85) rfl rfl rfl dX5_sheetOf_119 ?_
              refine lv_iload_n hx hb dX5_sheetOf_122 rfl (lv_at hl 0 rfl) ?_
              obtain ⟨g15, h⟩ := h
              refine iv_ki (iv_rV (As := [.int (hI (v_X4_slotAt (S 0) index))]) (rest := []) E hh (ok_X4_litTogether l hinj S (by decide) (S 0) rfl (v_X4_slotAt (S 0) index) hc5 g15) cb_X4_litTogether q3_22 rfl rfl ⟨Nat.le_of_ble_eq_true rfl, Nat.le_of_ble_eq_true rfl⟩ (ob_Sheets (by decide)) rfl rfl rfl hl.1 rfl (Nat.le_of_ble_eq_true rfl) dX5_sheetOf_123 ⟨Nat.zero_le _, Nat.zero_le _⟩) hh (fun hc16 H locs hh => ?_)
              exact iv_iret E hh (by unfold v_X5_sheetOf; rw [if_neg c1, if_neg c3, if_neg c6, if_neg c7, if_neg c9, if_neg c11]) (by rw [← show (v_X4_litTogether (S 0) (v_X4_slotAt (S 0) index)) = v_X5_sheetOf S index what from (by unfold v_X5_sheetOf; rw [if_neg c1, if_neg c3, if_neg c6, if_neg c7, if_neg c9, if_neg c11])]; exact hc16) (by unfold m_X5_sheetOf; rw [if_neg c1, if_neg c3, if_neg c6, if_neg c7, if_neg c9, if_neg c11]) dX5_sheetOf_126
      · have h := h.1 c6
        refine iv_ldc (n := (-1000004)) hx hb (by decide) hown (hts _ q2_197) dX5_sheetOf_32 ?_
        exact iv_iret E hh (by unfold v_X5_sheetOf; rw [if_neg c1, if_neg c3, if_pos c6]) (by rw [← show (-1000004) = v_X5_sheetOf S index what from (by unfold v_X5_sheetOf; rw [if_neg c1, if_neg c3, if_pos c6])]; exact ⟨by decide, by decide⟩) (by unfold m_X5_sheetOf; rw [if_neg c1, if_neg c3, if_pos c6]) dX5_sheetOf_34
    · have h := h.1 c3
      refine iv_ldc (n := (-1000001)) hx hb (by decide) hown (hts _ q2_190) dX5_sheetOf_13 ?_
      exact iv_iret E hh (by unfold v_X5_sheetOf; rw [if_neg c1, if_pos c3]) (by rw [← show (-1000001) = v_X5_sheetOf S index what from (by unfold v_X5_sheetOf; rw [if_neg c1, if_pos c3])]; exact ⟨by decide, by decide⟩) (by unfold m_X5_sheetOf; rw [if_neg c1, if_pos c3]) dX5_sheetOf_15
set_option maxHeartbeats 4000000 in
set_option maxRecDepth 100000 in
theorem ok_X5_even (l : Launch) (hinj : hInj ad) (S : hS) (size : Int) (h_size : hIn size) (hp : p_X5_even S size) : hMi D ad cI cJ cF l yX5_even cX5_even 2 (some .int) ({ frames := 4, cells := 0, slots := 0, locals := 92 } : Room) [.ref (ad 11 0), .int (hI size)] S (v_X5_even S size) (m_X5_even S size) := by
  refine hOf (S := S) l hinj (by decide +kernel) (Nat.le_of_ble_eq_true rfl) (fun p e s m args below meth c E => ?_)
  obtain ⟨hx, hb, hml, hown, hts, hK, hN, -, hr, hlk⟩ := id E
  have hown : s.vm.findClass RX5 = some m.cls := hown
  intro H locs ls hh hl
  have hl : lv_has ls 2 [(0, .ref (ad 11 0)), (1, .int (hI size))] := hl
  have h := hp
  unfold p_X5_even at h
  refine lv_iload_n hx hb dX5_even_0 rfl (lv_at hl 1 rfl) ?_
  refine iv_ki (iv_rS (As := [.int (hI size)]) (rest := []) E hh (ok_X5_isSize l hinj S size h_size) cb_X5_isSize q2_208 rfl rfl ⟨Nat.le_of_ble_eq_true rfl, Nat.le_of_ble_eq_true rfl⟩ rfl hl.1 rfl (Nat.le_of_ble_eq_true rfl) dX5_even_1 ⟨Nat.zero_le _, Nat.zero_le _⟩) hh (fun hc1 H locs hh => ?_)
  refine iv_if_ne (tgt := 10) hx hb hc1 dX5_even_4 (by decide) (fun c2 => ?_) (fun c2 => ?_)
  · have h := h.2 c2
    refine lv_aload_n hx hb dX5_even_10 rfl (lv_at hl 0 rfl) ?_
    refine iv_get (v' := .ref (ad 7 0)) hx hb hts inX5 hown hK hh.1 (ob_X) rfl 2 (by decide) (hts _ q1_203) rfl rfl rfl dX5_even_11 ?_
    refine lv_aload_n hx hb dX5_even_14 rfl (lv_at hl 0 rfl) ?_
    refine iv_get (v' := .ref (ad 0 0)) hx hb hts inX5 hown hK hh.1 (ob_X) rfl 0 (by decide) (hts _ q1_201) rfl rfl rfl dX5_even_15 ?_
    refine lv_iload_n hx hb dX5_even_18 rfl (lv_at hl 1 rfl) ?_
    obtain ⟨g3, h⟩ := h
    refine iv_ki (iv_rV (As := [.ref (ad 0 0), .int (hI size)]) (rest := []) E hh (ok_X0_isEven l hinj S (by decide) (S 0) rfl (S 7) rfl size h_size g3) cb_X0_isEven q3_32 rfl rfl ⟨Nat.le_of_ble_eq_true rfl, Nat.le_of_ble_eq_true rfl⟩ (ob_Fit) rfl rfl rfl hl.1 rfl (Nat.le_of_ble_eq_true rfl) dX5_even_19 ⟨Nat.zero_le _, Nat.zero_le _⟩) hh (fun hc4 H locs hh => ?_)
    refine iv_if_eq (tgt := 29) hx hb hc4 dX5_even_22 (by decide) (fun c5 => ?_) (fun c5 => ?_)
    · have h := h.1 c5
      refine iv_iconst hx hb dX5_even_29 ?_
      exact iv_iret E hh (by unfold v_X5_even; rw [if_neg c2, if_pos c5]) (by rw [← show 0 = v_X5_even S size from (by unfold v_X5_even; rw [if_neg c2, if_pos c5])]; exact ⟨by decide, by decide⟩) (by unfold m_X5_even; rw [if_neg c2, if_pos c5]) dX5_even_30
    · have h := h.2 c5
      refine iv_iconst hx hb dX5_even_25 ?_
      refine lv_goto (tgt := 30) hx hb dX5_even_26 (by decide) ?_
      exact iv_iret E hh (by unfold v_X5_even; rw [if_neg c2, if_neg c5]) (by rw [← show 1 = v_X5_even S size from (by unfold v_X5_even; rw [if_neg c2, if_neg c5])]; exact ⟨by decide, by decide⟩) (by unfold m_X5_even; rw [if_neg c2, if_neg c5]) dX5_even_30
  · have h := h.1 c2
    refine iv_ldc (n := (-1000001)) hx hb (by decide) hown (hts _ q2_190) dX5_even_7 ?_
    exact iv_iret E hh (by unfold v_X5_even; rw [if_pos c2]) (by rw [← show (-1000001) = v_X5_even S size from (by unfold v_X5_even; rw [if_pos c2])]; exact ⟨by decide, by decide⟩) (by unfold m_X5_even; rw [if_pos c2]) dX5_even_9
set_option maxHeartbeats 4000000 in
set_option maxRecDepth 100000 in
theorem ok_X5_clear (l : Launch) (hinj : hInj ad) (S : hS) (glyph : Int) (h_glyph : hIn glyph) (hp : p_X5_clear S glyph) : hMi D ad cI cJ cF l yX5_clear cX5_clear 3 (some .int) ({ frames := 4, cells := 0, slots := 0, locals := 101 } : Room) [.ref (ad 11 0), .int (hI glyph)] S (v_X5_clear S glyph) (m_X5_clear S glyph) := by
  refine hOf (S := S) l hinj (by decide +kernel) (Nat.le_of_ble_eq_true rfl) (fun p e s m args below meth c E => ?_)
  obtain ⟨hx, hb, hml, hown, hts, hK, hN, -, hr, hlk⟩ := id E
  have hown : s.vm.findClass RX5 = some m.cls := hown
  have r17 : ∀ (y2 : Int) (S1 : hS), hIn y2 → ((∀ (g i : Nat) (k : Int), i < 100 → hIn (S1 g i k)) → ((y2 ≤ 48 → (p_X0_lay (S1 0) (S1 7) glyph y2 ∧ (((v_X0_isClear (m_X0_lay (S1 0) (S1 7) glyph y2)) = 0 → (hAt D ad cI cJ cF p l e ({ frames := 4, cells := 0, slots := 0, locals := 101 } : Room) s m args below meth c (MQ below (hQi D ad cI cJ cF (v_X5_clear S glyph) (m_X5_clear S glyph)) args s 0 0 (hAd ad)) 3 17 [(0, .ref (ad 11 0)), (1, .int (hI glyph)), (2, .int (hI (y2 + 1)))] (gset S1 7 (m_X0_lay (S1 0) (S1 7) glyph y2)))) ∧ (¬ (v_X0_isClear (m_X0_lay (S1 0) (S1 7) glyph y2)) = 0 → (y2 = v_X5_clear S glyph ∧ (gset S1 7 (m_X0_lay (S1 0) (S1 7) glyph y2)) = m_X5_clear S glyph))))) ∧ (¬ y2 ≤ 48 → ((-1000004) = v_X5_clear S glyph ∧ S1 = m_X5_clear S glyph)))) → (hAt D ad cI cJ cF p l e ({ frames := 4, cells := 0, slots := 0, locals := 101 } : Room) s m args below meth c (MQ below (hQi D ad cI cJ cF (v_X5_clear S glyph) (m_X5_clear S glyph)) args s 0 0 (hAd ad)) 3 17 [(0, .ref (ad 11 0)), (1, .int (hI glyph)), (2, .int (hI y2))] S1) := by
    intro y2 S1 h_y2 h H locs ls hh hl
    have h := h (fun g i k hi => hh.2.1 g i k hi)
    refine lv_iload_n hx hb dX5_clear_17 rfl (lv_at hl 2 rfl) ?_
    refine lv_bipush (v := hI 48) hx hb dX5_clear_18 (by decide) ?_
    refine iv_icmp_gt (tgt := 54) hx hb h_y2 ⟨by decide, by decide⟩ dX5_clear_20 (by decide) (fun c1 => ?_) (fun c1 => ?_)
    · have h := h.2 c1
      refine iv_ldc (n := (-1000004)) hx hb (by decide) hown (hts _ q2_197) dX5_clear_54 ?_
      exact iv_iret E hh h.1 (by rw [← h.1]; exact ⟨by decide, by decide⟩) (by rw [← h.2]) dX5_clear_56
    · have h := h.1 c1
      refine lv_aload_n hx hb dX5_clear_23 rfl (lv_at hl 0 rfl) ?_
      refine iv_get (v' := .ref (ad 7 0)) hx hb hts inX5 hown hK hh.1 (ob_X) rfl 2 (by decide) (hts _ q1_203) rfl rfl rfl dX5_clear_24 ?_
      refine lv_aload_n hx hb dX5_clear_27 rfl (lv_at hl 0 rfl) ?_
      refine iv_get (v' := .ref (ad 0 0)) hx hb hts inX5 hown hK hh.1 (ob_X) rfl 0 (by decide) (hts _ q1_201) rfl rfl rfl dX5_clear_28 ?_
      refine lv_iload_n hx hb dX5_clear_31 rfl (lv_at hl 1 rfl) ?_
      refine lv_iload_n hx hb dX5_clear_32 rfl (lv_at hl 2 rfl) ?_
      obtain ⟨g2, h⟩ := h
      refine iv_kv (iv_rV (As := [.ref (ad 0 0), .int (hI glyph), .int (hI y2)]) (rest := []) E hh (ok_X0_lay l hinj S1 (by decide) (S1 0) rfl (S1 7) rfl glyph y2 h_glyph h_y2 g2) cb_X0_lay q2_209 rfl rfl ⟨Nat.le_of_ble_eq_true rfl, Nat.le_of_ble_eq_true rfl⟩ (ob_Fit) rfl rfl rfl hl.1 rfl (Nat.le_of_ble_eq_true rfl) dX5_clear_33 ⟨Nat.zero_le _, Nat.zero_le _⟩) hh (fun H locs hh => ?_)
      refine lv_aload_n hx hb dX5_clear_36 rfl (lv_at hl 0 rfl) ?_
      refine iv_get (v' := .ref (ad 7 0)) hx hb hts inX5 hown hK hh.1 (ob_X) rfl 2 (by decide) (hts _ q1_203) rfl rfl rfl dX5_clear_37 ?_
      refine iv_ki (iv_rV (As := []) (rest := []) E hh (ok_X0_isClear l hinj (gset S1 7 (m_X0_lay (S1 0) (S1 7) glyph y2)) (m_X0_lay (S1 0) (S1 7) glyph y2) (gset_at _ _ _)) cb_X0_isClear q2_221 rfl rfl ⟨Nat.le_of_ble_eq_true rfl, Nat.le_of_ble_eq_true rfl⟩ (ob_Fit) rfl rfl rfl hl.1 rfl (Nat.le_of_ble_eq_true rfl) dX5_clear_40 ⟨Nat.zero_le _, Nat.zero_le _⟩) hh (fun hc3 H locs hh => ?_)
      refine iv_if_eq (tgt := 48) hx hb hc3 dX5_clear_43 (by decide) (fun c4 => ?_) (fun c4 => ?_)
      · have h := h.1 c4
        refine iv_iinc (lv' := [(2, .int (hI (y2 + 1))), (0, .ref (ad 11 0)), (1, .int (hI glyph))]) hx hb dX5_clear_48 hl (k := 2) rfl (v := (y2 + 1)) rfl (by decide) rfl (fun ls hl => ?_)
        refine lv_goto (tgt := 17) hx hb dX5_clear_51 (by decide) ?_
        exact h H _ ls hh (lv_sub hl [1, 2, 0] rfl)
      · have h := h.2 c4
        refine lv_iload_n hx hb dX5_clear_46 rfl (lv_at hl 2 rfl) ?_
        exact iv_iret E hh h.1 (by rw [← h.1]; exact h_y2) (by rw [← h.2]) dX5_clear_47
  intro H locs ls hh hl
  have hl : lv_has ls 3 [(0, .ref (ad 11 0)), (1, .int (hI glyph))] := hl
  have h := x_X5_clear S glyph h_glyph (fun g i k hi => hh.2.1 g i k hi) hp (fun y2 S1 => (hAt D ad cI cJ cF p l e ({ frames := 4, cells := 0, slots := 0, locals := 101 } : Room) s m args below meth c (MQ below (hQi D ad cI cJ cF (v_X5_clear S glyph) (m_X5_clear S glyph)) args s 0 0 (hAd ad)) 3 17 [(0, .ref (ad 11 0)), (1, .int (hI glyph)), (2, .int (hI y2))] S1)) (fun r S1 => (r = v_X5_clear S glyph ∧ S1 = m_X5_clear S glyph)) r17 ⟨rfl, rfl⟩
  refine lv_aload_n hx hb dX5_clear_0 rfl (lv_at hl 0 rfl) ?_
  refine iv_get (v' := .ref (ad 0 0)) hx hb hts inX5 hown hK hh.1 (ob_X) rfl 0 (by decide) (hts _ q1_201) rfl rfl rfl dX5_clear_1 ?_
  refine lv_iload_n hx hb dX5_clear_4 rfl (lv_at hl 1 rfl) ?_
  obtain ⟨g5, h⟩ := h
  refine iv_ki (iv_rV (As := [.int (hI glyph)]) (rest := []) E hh (ok_X1_hasGlyph l hinj S (by decide) (S 0) rfl glyph h_glyph g5) cb_X1_hasGlyph q2_214 rfl rfl ⟨Nat.le_of_ble_eq_true rfl, Nat.le_of_ble_eq_true rfl⟩ (ob_Font (by decide)) rfl rfl rfl hl.1 rfl (Nat.le_of_ble_eq_true rfl) dX5_clear_5 ⟨Nat.zero_le _, Nat.zero_le _⟩) hh (fun hc6 H locs hh => ?_)
  refine iv_if_ne (tgt := 14) hx hb hc6 dX5_clear_8 (by decide) (fun c7 => ?_) (fun c7 => ?_)
  · have h := h.2 c7
    refine lv_bipush (v := hI 6) hx hb dX5_clear_14 (by decide) ?_
    refine lv_istore_n (lv' := [(2, .int (hI 6)), (0, .ref (ad 11 0)), (1, .int (hI glyph))]) hx hb dX5_clear_16 rfl hl (by decide) rfl (fun ls hl => ?_)
    exact h H _ ls hh (lv_sub hl [1, 2, 0] rfl)
  · have h := h.1 c7
    refine iv_ldc (n := (-1000001)) hx hb (by decide) hown (hts _ q2_190) dX5_clear_11 ?_
    exact iv_iret E hh h.1 (by rw [← h.1]; exact ⟨by decide, by decide⟩) (by rw [← h.2]) dX5_clear_13
set_option maxHeartbeats 4000000 in
set_option maxRecDepth 100000 in
theorem ok_X5_clearSizes (l : Launch) (hinj : hInj ad) (S : hS) {j : Nat} (hj : j < 7) (glyph : Int) (h_glyph : hIn glyph) (hp : p_X5_clearSizes S j glyph) : hMi D ad cI cJ cF l yX5_clearSizes cX5_clearSizes 5 (some .int) ({ frames := 4, cells := 0, slots := 0, locals := 101 } : Room) [.ref (ad 11 0), .ref (ad j 0), .int (hI glyph)] S (v_X5_clearSizes S j glyph) (m_X5_clearSizes S j glyph) := by
  refine hOf (S := S) l hinj (by decide +kernel) (Nat.le_of_ble_eq_true rfl) (fun p e s m args below meth c E => ?_)
  obtain ⟨hx, hb, hml, hown, hts, hK, hN, -, hr, hlk⟩ := id E
  have hown : s.vm.findClass RX5 = some m.cls := hown
  have r6 : ∀ (y3 : Int) (y4 : Int) (S1 : hS), hIn y3 → hIn y4 → ((∀ (g i : Nat) (k : Int), i < 100 → hIn (S1 g i k)) → ((y4 ≤ 48 → (p_X0_lay (S1 j) (S1 7) glyph y4 ∧ (((v_X0_isClear (m_X0_lay (S1 j) (S1 7) glyph y4)) = 0 → (hAt D ad cI cJ cF p l e ({ frames := 4, cells := 0, slots := 0, locals := 101 } : Room) s m args below meth c (MQ below (hQi D ad cI cJ cF (v_X5_clearSizes S j glyph) (m_X5_clearSizes S j glyph)) args s 0 0 (hAd ad)) 5 6 [(0, .ref (ad 11 0)), (1, .ref (ad j 0)), (2, .int (hI glyph)), (3, .int (hI y3)), (4, .int (hI (y4 + 1)))] (gset S1 7 (m_X0_lay (S1 j) (S1 7) glyph y4)))) ∧ (¬ (v_X0_isClear (m_X0_lay (S1 j) (S1 7) glyph y4)) = 0 → (hAt D ad cI cJ cF p l e ({ frames := 4, cells := 0, slots := 0, locals := 101 } : Room) s m args below meth c (MQ below (hQi D ad cI cJ cF (v_X5_clearSizes S j glyph) (m_X5_clearSizes S j glyph)) args s 0 0 (hAd ad)) 5 6 [(0, .ref (ad 11 0)), (1, .ref (ad j 0)), (2, .int (hI glyph)), (3, .int (hI (y3 + 1))), (4, .int (hI (y4 + 1)))] (gset S1 7 (m_X0_lay (S1 j) (S1 7) glyph y4))))))) ∧ (¬ y4 ≤ 48 → (y3 = v_X5_clearSizes S j glyph ∧ S1 = m_X5_clearSizes S j glyph)))) → (hAt D ad cI cJ cF p l e ({ frames := 4, cells := 0, slots := 0, locals := 101 } : Room) s m args below meth c (MQ below (hQi D ad cI cJ cF (v_X5_clearSizes S j glyph) (m_X5_clearSizes S j glyph)) args s 0 0 (hAd ad)) 5 6 [(0, .ref (ad 11 0)), (1, .ref (ad j 0)), (2, .int (hI glyph)), (3, .int (hI y3)), (4, .int (hI y4))] S1) := by
    intro y3 y4 S1 h_y3 h_y4 h H locs ls hh hl
    have h := h (fun g i k hi => hh.2.1 g i k hi)
    refine lv_iload hx hb dX5_clearSizes_6 (lv_at hl 4 rfl) ?_
    refine lv_bipush (v := hI 48) hx hb dX5_clearSizes_8 (by decide) ?_
    refine iv_icmp_gt (tgt := 43) hx hb h_y4 ⟨by decide, by decide⟩ dX5_clearSizes_10 (by decide) (fun c1 => ?_) (fun c1 => ?_)
    · have h := h.2 c1
      refine lv_iload_n hx hb dX5_clearSizes_43 rfl (lv_at hl 3 rfl) ?_
      exact iv_iret E hh h.1 (by rw [← h.1]; exact h_y3) (by rw [← h.2]) dX5_clearSizes_44
    · have h := h.1 c1
      refine lv_aload_n hx hb dX5_clearSizes_13 rfl (lv_at hl 0 rfl) ?_
      refine iv_get (v' := .ref (ad 7 0)) hx hb hts inX5 hown hK hh.1 (ob_X) rfl 2 (by decide) (hts _ q1_203) rfl rfl rfl dX5_clearSizes_14 ?_
      refine lv_aload_n hx hb dX5_clearSizes_17 rfl (lv_at hl 1 rfl) ?_
      refine lv_iload_n hx hb dX5_clearSizes_18 rfl (lv_at hl 2 rfl) ?_
      refine lv_iload hx hb dX5_clearSizes_19 (lv_at hl 4 rfl) ?_
      obtain ⟨g2, h⟩ := h
      refine iv_kv (iv_rV (As := [.ref (ad j 0), .int (hI glyph), .int (hI y4)]) (rest := []) E hh (ok_X0_lay l hinj S1 hj (S1 j) rfl (S1 7) rfl glyph y4 h_glyph h_y4 g2) cb_X0_lay q2_209 rfl rfl ⟨Nat.le_of_ble_eq_true rfl, Nat.le_of_ble_eq_true rfl⟩ (ob_Fit) rfl rfl rfl hl.1 rfl (Nat.le_of_ble_eq_true rfl) dX5_clearSizes_21 ⟨Nat.zero_le _, Nat.zero_le _⟩) hh (fun H locs hh => ?_)
      refine lv_aload_n hx hb dX5_clearSizes_24 rfl (lv_at hl 0 rfl) ?_
      refine iv_get (v' := .ref (ad 7 0)) hx hb hts inX5 hown hK hh.1 (ob_X) rfl 2 (by decide) (hts _ q1_203) rfl rfl rfl dX5_clearSizes_25 ?_
      refine iv_ki (iv_rV (As := []) (rest := []) E hh (ok_X0_isClear l hinj (gset S1 7 (m_X0_lay (S1 j) (S1 7) glyph y4)) (m_X0_lay (S1 j) (S1 7) glyph y4) (gset_at _ _ _)) cb_X0_isClear q2_221 rfl rfl ⟨Nat.le_of_ble_eq_true rfl, Nat.le_of_ble_eq_true rfl⟩ (ob_Fit) rfl rfl rfl hl.1 rfl (Nat.le_of_ble_eq_true rfl) dX5_clearSizes_28 ⟨Nat.zero_le _, Nat.zero_le _⟩) hh (fun hc3 H locs hh => ?_)
      refine iv_if_eq (tgt := 37) hx hb hc3 dX5_clearSizes_31 (by decide) (fun c4 => ?_) (fun c4 => ?_)
      · have h := h.1 c4
        refine iv_iinc (lv' := [(4, .int (hI (y4 + 1))), (0, .ref (ad 11 0)), (1, .ref (ad j 0)), (2, .int (hI glyph)), (3, .int (hI y3))]) hx hb dX5_clearSizes_37 hl (k := 4) rfl (v := (y4 + 1)) rfl (by decide) rfl (fun ls hl => ?_)
        refine lv_goto (tgt := 6) hx hb dX5_clearSizes_40 (by decide) ?_
        exact h H _ ls hh (lv_sub hl [1, 2, 3, 4, 0] rfl)
      · have h := h.2 c4
        refine iv_iinc (lv' := [(3, .int (hI (y3 + 1))), (0, .ref (ad 11 0)), (1, .ref (ad j 0)), (2, .int (hI glyph)), (4, .int (hI y4))]) hx hb dX5_clearSizes_34 hl (k := 3) rfl (v := (y3 + 1)) rfl (by decide) rfl (fun ls hl => ?_)
        refine iv_iinc (lv' := [(4, .int (hI (y4 + 1))), (3, .int (hI (y3 + 1))), (0, .ref (ad 11 0)), (1, .ref (ad j 0)), (2, .int (hI glyph))]) hx hb dX5_clearSizes_37 hl (k := 4) rfl (v := (y4 + 1)) rfl (by decide) rfl (fun ls hl => ?_)
        refine lv_goto (tgt := 6) hx hb dX5_clearSizes_40 (by decide) ?_
        exact h H _ ls hh (lv_sub hl [2, 3, 4, 1, 0] rfl)
  intro H locs ls hh hl
  have hl : lv_has ls 5 [(0, .ref (ad 11 0)), (1, .ref (ad j 0)), (2, .int (hI glyph))] := hl
  have h := x_X5_clearSizes S j glyph h_glyph (fun g i k hi => hh.2.1 g i k hi) hp (fun y3 y4 S1 => (hAt D ad cI cJ cF p l e ({ frames := 4, cells := 0, slots := 0, locals := 101 } : Room) s m args below meth c (MQ below (hQi D ad cI cJ cF (v_X5_clearSizes S j glyph) (m_X5_clearSizes S j glyph)) args s 0 0 (hAd ad)) 5 6 [(0, .ref (ad 11 0)), (1, .ref (ad j 0)), (2, .int (hI glyph)), (3, .int (hI y3)), (4, .int (hI y4))] S1)) (fun r S1 => (r = v_X5_clearSizes S j glyph ∧ S1 = m_X5_clearSizes S j glyph)) r6 ⟨rfl, rfl⟩
  refine iv_iconst hx hb dX5_clearSizes_0 ?_
  refine lv_istore_n (lv' := [(3, .int (hI 0)), (0, .ref (ad 11 0)), (1, .ref (ad j 0)), (2, .int (hI glyph))]) hx hb dX5_clearSizes_1 rfl hl (by decide) rfl (fun ls hl => ?_)
  refine lv_bipush (v := hI 6) hx hb dX5_clearSizes_2 (by decide) ?_
  refine lv_istore (lv' := [(4, .int (hI 6)), (3, .int (hI 0)), (0, .ref (ad 11 0)), (1, .ref (ad j 0)), (2, .int (hI glyph))]) hx hb dX5_clearSizes_4 hl (by decide) rfl (fun ls hl => ?_)
  exact h H _ ls hh (lv_sub hl [2, 3, 4, 1, 0] rfl)
set_option maxHeartbeats 4000000 in
set_option maxRecDepth 100000 in
theorem ok_X5_best (l : Launch) (hinj : hInj ad) (S : hS) (glyph : Int) (stem : Int) (what : Int) (h_glyph : hIn glyph) (h_stem : hIn stem) (h_what : hIn what) (hp : p_X5_best S glyph stem what) : hMi D ad cI cJ cF l yX5_best cX5_best 8 (some .int) ({ frames := 5, cells := 0, slots := 0, locals := 125 } : Room) [.ref (ad 11 0), .int (hI glyph), .int (hI stem), .int (hI what)] S (v_X5_best S glyph stem what) (m_X5_best S glyph stem what) := by
  refine hOf (S := S) l hinj (by decide +kernel) (Nat.le_of_ble_eq_true rfl) (fun p e s m args below meth c E => ?_)
  obtain ⟨hx, hb, hml, hown, hts, hK, hN, -, hr, hlk⟩ := id E
  have hown : s.vm.findClass RX5 = some m.cls := hown
  have r44 : ∀ (y4 : Int) (y5 : Int) (y6 : Int) (S1 : hS), hIn y4 → hIn y5 → hIn y6 → ((∀ (g i : Nat) (k : Int), i < 100 → hIn (S1 g i k)) → ((y6 ≤ 3 → (hIn ((glyph * 6) + stem) ∧ (p_X5_clearSizes (gset S1 1 (m_X5_put (S1 1) 5 48 ((glyph * 6) + stem) y6)) 1 glyph ∧ (((v_X5_clearSizes (gset S1 1 (m_X5_put (S1 1) 5 48 ((glyph * 6) + stem) y6)) 1 glyph) ≤ y5 → (hAt D ad cI cJ cF p l e ({ frames := 5, cells := 0, slots := 0, locals := 125 } : Room) s m args below meth c (MQ below (hQi D ad cI cJ cF (v_X5_best S glyph stem what) (m_X5_best S glyph stem what)) args s 0 0 (hAd ad)) 8 44 [(0, .ref (ad 11 0)), (1, .int (hI glyph)), (2, .int (hI stem)), (3, .int (hI what)), (4, .int (hI y4)), (5, .int (hI y5)), (6, .int (hI (y6 + 1)))] (m_X5_clearSizes (gset S1 1 (m_X5_put (S1 1) 5 48 ((glyph * 6) + stem) y6)) 1 glyph))) ∧ (¬ (v_X5_clearSizes (gset S1 1 (m_X5_put (S1 1) 5 48 ((glyph * 6) + stem) y6)) 1 glyph) ≤ y5 → (hAt D ad cI cJ cF p l e ({ frames := 5, cells := 0, slots := 0, locals := 125 } : Room) s m args below meth c (MQ below (hQi D ad cI cJ cF (v_X5_best S glyph stem what) (m_X5_best S glyph stem what)) args s 0 0 (hAd ad)) 8 44 [(0, .ref (ad 11 0)), (1, .int (hI glyph)), (2, .int (hI stem)), (3, .int (hI what)), (4, .int (hI y6)), (5, .int (hI (v_X5_clearSizes (gset S1 1 (m_X5_put (S1 1) 5 48 ((glyph * 6) + stem) y6)) 1 glyph))), (6, .int (hI (y6 + 1)))] (m_X5_clearSizes (gset S1 1 (m_X5_put (S1 1) 5 48 ((glyph * 6) + stem) y6)) 1 glyph))))))) ∧ (¬ y6 ≤ 3 → ((what = 0 → (y4 = v_X5_best S glyph stem what ∧ S1 = m_X5_best S glyph stem what)) ∧ (¬ what = 0 → (y5 = v_X5_best S glyph stem what ∧ S1 = m_X5_best S glyph stem what)))))) → (hAt D ad cI cJ cF p l e ({ frames := 5, cells := 0, slots := 0, locals := 125 } : Room) s m args below meth c (MQ below (hQi D ad cI cJ cF (v_X5_best S glyph stem what) (m_X5_best S glyph stem what)) args s 0 0 (hAd ad)) 8 44 [(0, .ref (ad 11 0)), (1, .int (hI glyph)), (2, .int (hI stem)), (3, .int (hI what)), (4, .int (hI y4)), (5, .int (hI y5)), (6, .int (hI y6))] S1) := by
    intro y4 y5 y6 S1 h_y4 h_y5 h_y6 h H locs ls hh hl
    have h := h (fun g i k hi => hh.2.1 g i k hi)
    refine lv_iload hx hb dX5_best_44 (lv_at hl 6 rfl) ?_
    refine iv_iconst hx hb dX5_best_46 ?_
    refine iv_icmp_gt (tgt := 100) hx hb h_y6 ⟨by decide, by decide⟩ dX5_best_47 (by decide) (fun c1 => ?_) (fun c1 => ?_)
    · have h := h.2 c1
      refine lv_iload_n hx hb dX5_best_100 rfl (lv_at hl 3 rfl) ?_
      refine iv_if_ne (tgt := 109) hx hb h_what dX5_best_101 (by decide) (fun c2 => ?_) (fun c2 => ?_)
      · have h := h.2 c2
        refine lv_iload hx hb dX5_best_109 (lv_at hl 5 rfl) ?_
        exact iv_iret E hh h.1 (by rw [← h.1]; exact h_y5) (by rw [← h.2]) dX5_best_111
      · have h := h.1 c2
        refine lv_iload hx hb dX5_best_104 (lv_at hl 4 rfl) ?_
        refine lv_goto (tgt := 111) hx hb dX5_best_106 (by decide) ?_
        exact iv_iret E hh h.1 (by rw [← h.1]; exact h_y4) (by rw [← h.2]) dX5_best_111
    · have h := h.1 c1
      refine lv_aload_n hx hb dX5_best_50 rfl (lv_at hl 0 rfl) ?_
      refine iv_get (v' := .ref (ad 1 0)) hx hb hts inX5 hown hK hh.1 (ob_X) rfl 1 (by decide) (hts _ q1_202) rfl rfl rfl dX5_best_51 ?_
      refine iv_getN (v' := .ref (ad 1 5)) hx hb hts inX1 hown hK hh.1 (ob_Font (by decide)) rfl 8 (by decide) (hN _ q1_81) rfl rfl rfl dX5_best_54 ?_
      refine lv_iload_n hx hb dX5_best_57 rfl (lv_at hl 1 rfl) ?_
      refine lv_bipush (v := hI 6) hx hb dX5_best_58 (by decide) ?_
      refine iv_imul hx hb dX5_best_60 ?_
      refine lv_iload_n hx hb dX5_best_61 rfl (lv_at hl 2 rfl) ?_
      refine iv_iadd hx hb dX5_best_62 ?_
      refine lv_iload hx hb dX5_best_63 (lv_at hl 6 rfl) ?_
      obtain ⟨g3, h⟩ := h
      refine iv_kv (iv_rS (As := [.ref (ad 1 5), .int (hI ((glyph * 6) + stem)), .int (hI y6)]) (rest := []) E hh (ok_X5_put l hinj S1 (ia_F_5 (by decide)) (S1 1) rfl ((glyph * 6) + stem) y6 g3 h_y6) cb_X5_put q3_50 rfl rfl ⟨Nat.le_of_ble_eq_true rfl, Nat.le_of_ble_eq_true rfl⟩ rfl hl.1 rfl (Nat.le_of_ble_eq_true rfl) dX5_best_65 ⟨Nat.zero_le _, Nat.zero_le _⟩) hh (fun H locs hh => ?_)
      refine lv_aload_n hx hb dX5_best_68 rfl (lv_at hl 0 rfl) ?_
      refine lv_aload_n hx hb dX5_best_69 rfl (lv_at hl 0 rfl) ?_
      refine iv_get (v' := .ref (ad 1 0)) hx hb hts inX5 hown hK hh.1 (ob_X) rfl 1 (by decide) (hts _ q1_202) rfl rfl rfl dX5_best_70 ?_
      refine lv_iload_n hx hb dX5_best_73 rfl (lv_at hl 1 rfl) ?_
      obtain ⟨g4, h⟩ := h
      refine iv_ki (iv_rV (As := [.ref (ad 1 0), .int (hI glyph)]) (rest := []) E hh (ok_X5_clearSizes l hinj (gset S1 1 (m_X5_put (S1 1) 5 48 ((glyph * 6) + stem) y6)) (by decide) glyph h_glyph g4) cb_X5_clearSizes q3_51 rfl rfl ⟨Nat.le_of_ble_eq_true rfl, Nat.le_of_ble_eq_true rfl⟩ (ob_X) rfl rfl rfl hl.1 rfl (Nat.le_of_ble_eq_true rfl) dX5_best_74 ⟨Nat.zero_le _, Nat.zero_le _⟩) hh (fun hc5 H locs hh => ?_)
      refine lv_istore (lv' := [(7, .int (hI (v_X5_clearSizes (gset S1 1 (m_X5_put (S1 1) 5 48 ((glyph * 6) + stem) y6)) 1 glyph))), (0, .ref (ad 11 0)), (1, .int (hI glyph)), (2, .int (hI stem)), (3, .int (hI what)), (4, .int (hI y4)), (5, .int (hI y5)), (6, .int (hI y6))]) hx hb dX5_best_77 hl (by decide) rfl (fun ls hl => ?_)
      refine lv_iload hx hb dX5_best_79 (lv_at hl 0 rfl) ?_
      refine lv_iload hx hb dX5_best_81 (lv_at hl 6 rfl) ?_
      refine iv_icmp_le (tgt := 94) hx hb hc5 h_y5 dX5_best_83 (by decide) (fun c6 => ?_) (fun c6 => ?_)
      · have h := h.1 c6
        refine iv_iinc (lv' := [(6, .int (hI (y6 + 1))), (7, .int (hI (v_X5_clearSizes (gset S1 1 (m_X5_put (S1 1) 5 48 ((glyph * 6) + stem) y6)) 1 glyph))), (0, .ref (ad 11 0)), (1, .int (hI glyph)), (2, .int (hI stem)), (3, .int (hI what)), (4, .int (hI y4)), (5, .int (hI y5))]) hx hb dX5_best_94 hl (k := 7) rfl (v := (y6 + 1)) rfl (by decide) rfl (fun ls hl => ?_)
        refine lv_goto (tgt := 44) hx hb dX5_best_97 (by decide) ?_
        exact h H _ ls hh (lv_sub hl [2, 3, 4, 5, 6, 7, 0] rfl)
      · have h := h.2 c6
        refine lv_iload hx hb dX5_best_86 (lv_at hl 0 rfl) ?_
        refine lv_istore (lv' := [(5, .int (hI (v_X5_clearSizes (gset S1 1 (m_X5_put (S1 1) 5 48 ((glyph * 6) + stem) y6)) 1 glyph))), (7, .int (hI (v_X5_clearSizes (gset S1 1 (m_X5_put (S1 1) 5 48 ((glyph * 6) + stem) y6)) 1 glyph))), (0, .ref (ad 11 0)), (1, .int (hI glyph)), (2, .int (hI stem)), (3, .int (hI what)), (4, .int (hI y4)), (6, .int (hI y6))]) hx hb dX5_best_88 hl (by decide) rfl (fun ls hl => ?_)
        refine lv_iload hx hb dX5_best_90 (lv_at hl 7 rfl) ?_
        refine lv_istore (lv' := [(4, .int (hI y6)), (5, .int (hI (v_X5_clearSizes (gset S1 1 (m_X5_put (S1 1) 5 48 ((glyph * 6) + stem) y6)) 1 glyph))), (7, .int (hI (v_X5_clearSizes (gset S1 1 (m_X5_put (S1 1) 5 48 ((glyph * 6) + stem) y6)) 1 glyph))), (0, .ref (ad 11 0)), (1, .int (hI glyph)), (2, .int (hI stem)), (3, .int (hI what)), (6, .int (hI y6))]) hx hb dX5_best_92 hl (by decide) rfl (fun ls hl => ?_)
        refine iv_iinc (lv' := [(6, .int (hI (y6 + 1))), (4, .int (hI y6)), (5, .int (hI (v_X5_clearSizes (gset S1 1 (m_X5_put (S1 1) 5 48 ((glyph * 6) + stem) y6)) 1 glyph))), (7, .int (hI (v_X5_clearSizes (gset S1 1 (m_X5_put (S1 1) 5 48 ((glyph * 6) + stem) y6)) 1 glyph))), (0, .ref (ad 11 0)), (1, .int (hI glyph)), (2, .int (hI stem)), (3, .int (hI what))]) hx hb dX5_best_94 hl (k := 7) rfl (v := (y6 + 1)) rfl (by decide) rfl (fun ls hl => ?_)
        refine lv_goto (tgt := 44) hx hb dX5_best_97 (by decide) ?_
        exact h H _ ls hh (lv_sub hl [4, 5, 6, 7, 1, 2, 0] rfl)
  intro H locs ls hh hl
  have hl : lv_has ls 8 [(0, .ref (ad 11 0)), (1, .int (hI glyph)), (2, .int (hI stem)), (3, .int (hI what))] := hl
  have h := x_X5_best S glyph stem what h_glyph h_stem h_what (fun g i k hi => hh.2.1 g i k hi) hp (fun y4 y5 y6 S1 => (hAt D ad cI cJ cF p l e ({ frames := 5, cells := 0, slots := 0, locals := 125 } : Room) s m args below meth c (MQ below (hQi D ad cI cJ cF (v_X5_best S glyph stem what) (m_X5_best S glyph stem what)) args s 0 0 (hAd ad)) 8 44 [(0, .ref (ad 11 0)), (1, .int (hI glyph)), (2, .int (hI stem)), (3, .int (hI what)), (4, .int (hI y4)), (5, .int (hI y5)), (6, .int (hI y6))] S1)) (fun r S1 => (r = v_X5_best S glyph stem what ∧ S1 = m_X5_best S glyph stem what)) r44 ⟨rfl, rfl⟩
  refine lv_aload_n hx hb dX5_best_0 rfl (lv_at hl 0 rfl) ?_
  refine iv_get (v' := .ref (ad 0 0)) hx hb hts inX5 hown hK hh.1 (ob_X) rfl 0 (by decide) (hts _ q1_201) rfl rfl rfl dX5_best_1 ?_
  refine lv_iload_n hx hb dX5_best_4 rfl (lv_at hl 1 rfl) ?_
  refine lv_iload_n hx hb dX5_best_5 rfl (lv_at hl 2 rfl) ?_
  obtain ⟨g7, h⟩ := h
  refine iv_ki (iv_rV (As := [.int (hI glyph), .int (hI stem)]) (rest := []) E hh (ok_X1_hasStem l hinj S (by decide) (S 0) rfl glyph stem h_glyph h_stem g7) cb_X1_hasStem q2_189 rfl rfl ⟨Nat.le_of_ble_eq_true rfl, Nat.le_of_ble_eq_true rfl⟩ (ob_Font (by decide)) rfl rfl rfl hl.1 rfl (Nat.le_of_ble_eq_true rfl) dX5_best_6 ⟨Nat.zero_le _, Nat.zero_le _⟩) hh (fun hc8 H locs hh => ?_)
  refine iv_if_eq (tgt := 21) hx hb hc8 dX5_best_9 (by decide) (fun c9 => ?_) (fun c9 => ?_)
  · have h := h.1 c9
    refine iv_ldc (n := (-1000001)) hx hb (by decide) hown (hts _ q2_190) dX5_best_21 ?_
    exact iv_iret E hh h.1 (by rw [← h.1]; exact ⟨by decide, by decide⟩) (by rw [← h.2]) dX5_best_23
  · have h := h.2 c9
    refine lv_iload_n hx hb dX5_best_12 rfl (lv_at hl 3 rfl) ?_
    refine iv_iconst hx hb dX5_best_13 ?_
    refine iv_iconst hx hb dX5_best_14 ?_
    refine iv_ki (iv_rS (As := [.int (hI what), .int (hI 0), .int (hI 1)]) (rest := []) E hh (ok_X5_within l hinj S what 0 1 h_what ⟨by decide, by decide⟩ ⟨by decide, by decide⟩) cb_X5_within q2_114 rfl rfl ⟨Nat.le_of_ble_eq_true rfl, Nat.le_of_ble_eq_true rfl⟩ rfl hl.1 rfl (Nat.le_of_ble_eq_true rfl) dX5_best_15 ⟨Nat.zero_le _, Nat.zero_le _⟩) hh (fun hc10 H locs hh => ?_)
    refine iv_if_ne (tgt := 24) hx hb hc10 dX5_best_18 (by decide) (fun c11 => ?_) (fun c11 => ?_)
    · have h := h.2 c11
      refine lv_aload_n hx hb dX5_best_24 rfl (lv_at hl 0 rfl) ?_
      refine iv_get (v' := .ref (ad 1 0)) hx hb hts inX5 hown hK hh.1 (ob_X) rfl 1 (by decide) (hts _ q1_202) rfl rfl rfl dX5_best_25 ?_
      refine lv_aload_n hx hb dX5_best_28 rfl (lv_at hl 0 rfl) ?_
      refine iv_get (v' := .ref (ad 0 0)) hx hb hts inX5 hown hK hh.1 (ob_X) rfl 0 (by decide) (hts _ q1_201) rfl rfl rfl dX5_best_29 ?_
      obtain ⟨g12, h⟩ := h
      refine iv_kv (iv_rV (As := [.ref (ad 0 0)]) (rest := []) E hh (ok_X1_copy l hinj S (by decide) (by decide) (by omega) (S 1) rfl (S 0) rfl g12) cb_X1_copy q3_49 rfl rfl ⟨Nat.le_of_ble_eq_true rfl, Nat.le_of_ble_eq_true rfl⟩ (ob_Font (by decide)) rfl rfl rfl hl.1 rfl (Nat.le_of_ble_eq_true rfl) dX5_best_32 ⟨Nat.zero_le _, Nat.zero_le _⟩) hh (fun H locs hh => ?_)
      refine iv_iconst hx hb dX5_best_35 ?_
      refine lv_istore (lv' := [(4, .int (hI 0)), (0, .ref (ad 11 0)), (1, .int (hI glyph)), (2, .int (hI stem)), (3, .int (hI what))]) hx hb dX5_best_36 hl (by decide) rfl (fun ls hl => ?_)
      refine iv_iconst hx hb dX5_best_38 ?_
      refine lv_istore (lv' := [(5, .int (hI (-1))), (4, .int (hI 0)), (0, .ref (ad 11 0)), (1, .int (hI glyph)), (2, .int (hI stem)), (3, .int (hI what))]) hx hb dX5_best_39 hl (by decide) rfl (fun ls hl => ?_)
      refine iv_iconst hx hb dX5_best_41 ?_
      refine lv_istore (lv' := [(6, .int (hI 0)), (5, .int (hI (-1))), (4, .int (hI 0)), (0, .ref (ad 11 0)), (1, .int (hI glyph)), (2, .int (hI stem)), (3, .int (hI what))]) hx hb dX5_best_42 hl (by decide) rfl (fun ls hl => ?_)
      exact h H _ ls hh (lv_sub hl [3, 4, 5, 6, 2, 1, 0] rfl)
    · have h := h.1 c11
      refine iv_ldc (n := (-1000001)) hx hb (by decide) hown (hts _ q2_190) dX5_best_21 ?_
      exact iv_iret E hh h.1 (by rw [← h.1]; exact ⟨by decide, by decide⟩) (by rw [← h.2]) dX5_best_23
end

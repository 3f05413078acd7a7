section
variable {D : va_G} {ad : Nat → Nat → Nat} {cI cJ cF : ClassId}
theorem to_X5_stemOf_48 (x : Int) (_ : ¬ x = 0) (_ : ¬ x = 1) (_ : ¬ x = 2) (_ : ¬ x = 3) (_ : ¬ x = 4) (_ : ¬ x = 5) : x < 0 ∨ 5 < x := by omega
set_option maxHeartbeats 4000000 in
set_option maxRecDepth 100000 in
theorem ok_X5_stemOf (l : Launch) (hinj : hInj ad) (S : hS) (glyph : Int) (stem : Int) (what : Int) (h_glyph : hIn glyph) (h_stem : hIn stem) (h_what : hIn what) (hp : p_X5_stemOf S glyph stem what) : hMi D ad cI cJ cF l yX5_stemOf cX5_stemOf 7 (some .int) ({ frames := 4, cells := 0, slots := 0, locals := 92 } : Room) [.ref (ad 11 0), .int (hI glyph), .int (hI stem), .int (hI what)] S (v_X5_stemOf S glyph stem what) S := by
  refine hOf (S := S) l hinj (by decide +kernel) (Nat.le_of_ble_eq_true rfl) (fun p e s m args below meth c E => ?_)
  obtain ⟨hx, hb, hml, hown, hts, hK, hN, -, hr, hlk, hz⟩ := id E
  have hown : s.vm.findClass RX5 = some m.cls := hown
  intro H locs ls hh hl
  have hl : lv_has ls 7 [(0, .ref (ad 11 0)), (1, .int (hI glyph)), (2, .int (hI stem)), (3, .int (hI what))] := hl
  have h := hp
  unfold p_X5_stemOf at h
  refine lv_aload_n hx hb dX5_stemOf_0 rfl (lv_at hl 0 rfl) ?_
  refine iv_get (v' := .ref (ad 0 0)) hx hb hts inX5 hown hK hh.1 (ob_X) rfl 0 (by decide) (hts _ q1_182) rfl rfl rfl dX5_stemOf_1 ?_
  refine lv_iload_n hx hb dX5_stemOf_4 rfl (lv_at hl 1 rfl) ?_
  refine lv_iload_n hx hb dX5_stemOf_5 rfl (lv_at hl 2 rfl) ?_
  obtain ⟨g1, h⟩ := h
  refine iv_ki (iv_rV (As := [.int (hI glyph), .int (hI stem)]) (rest := []) E hh (ok_X1_hasStem l hinj S (by decide) (S 0) rfl glyph stem h_glyph h_stem g1) cb_X1_hasStem q3_31 rfl rfl ⟨Nat.le_of_ble_eq_true rfl, Nat.le_of_ble_eq_true rfl⟩ (ob_Font (by decide)) rfl rfl rfl hl.1 rfl (Nat.le_of_ble_eq_true rfl) dX5_stemOf_6 ⟨Nat.zero_le _, Nat.zero_le _⟩) hh (fun hc2 H locs hh => ?_)
  refine iv_if_eq (tgt := 22) hx hb hc2 dX5_stemOf_9 (by decide) (fun c3 => ?_) (fun c3 => ?_)
  · have h := h.1 c3
    refine iv_ldc (n := (-1000001)) hx hb (by decide) hown (hts _ q1_208) dX5_stemOf_22 ?_
    exact iv_iret E hh (by unfold v_X5_stemOf; rw [if_pos c3]) (by rw [← show (-1000001) = v_X5_stemOf S glyph stem what from (by unfold v_X5_stemOf; rw [if_pos c3])]; exact ⟨by decide, by decide⟩) rfl dX5_stemOf_24
  · have h := h.2 c3
    refine lv_iload_n hx hb dX5_stemOf_12 rfl (lv_at hl 3 rfl) ?_
    refine iv_iconst hx hb dX5_stemOf_13 ?_
    refine lv_bipush (v := hI 6) hx hb dX5_stemOf_14 (by decide) ?_
    refine iv_ki (iv_rS (As := [.int (hI what), .int (hI 0), .int (hI 6)]) (rest := []) E hh (ok_X5_within l hinj S what 0 6 h_what ⟨by decide, by decide⟩ ⟨by decide, by decide⟩) cb_X5_within q1_205 rfl rfl ⟨Nat.le_of_ble_eq_true rfl, Nat.le_of_ble_eq_true rfl⟩ rfl hl.1 rfl (Nat.le_of_ble_eq_true rfl) dX5_stemOf_16 ⟨Nat.zero_le _, Nat.zero_le _⟩) hh (fun hc4 H locs hh => ?_)
    refine iv_if_ne (tgt := 25) hx hb hc4 dX5_stemOf_19 (by decide) (fun c5 => ?_) (fun c5 => ?_)
    · have h := h.2 c5
      refine lv_iload_n hx hb dX5_stemOf_25 rfl (lv_at hl 1 rfl) ?_
      refine lv_bipush (v := hI 6) hx hb dX5_stemOf_26 (by decide) ?_
      refine iv_imul hx hb dX5_stemOf_28 ?_
      refine lv_iload_n hx hb dX5_stemOf_29 rfl (lv_at hl 2 rfl) ?_
      refine iv_iadd hx hb dX5_stemOf_30 ?_
      refine lv_istore (lv' := [(4, .int (hI ((glyph * 6) + stem))), (0, .ref (ad 11 0)), (1, .int (hI glyph)), (2, .int (hI stem)), (3, .int (hI what))]) hx hb dX5_stemOf_31 hl (by decide) rfl (fun ls hl => ?_)
      refine lv_aload_n hx hb dX5_stemOf_33 rfl (lv_at hl 1 rfl) ?_
      refine iv_get (v' := .ref (ad 0 0)) hx hb hts inX5 hown hK hh.1 (ob_X) rfl 0 (by decide) (hts _ q1_182) rfl rfl rfl dX5_stemOf_34 ?_
      refine iv_getN (v' := .ref (ad 0 4)) hx hb hts inX1 hown hK hh.1 (ob_Font (by decide)) rfl 7 (by decide) (hN _ q1_75) rfl rfl rfl dX5_stemOf_37 ?_
      refine lv_iload hx hb dX5_stemOf_40 (lv_at hl 0 rfl) ?_
      obtain ⟨g6, h⟩ := h
      refine iv_ki (iv_rS (As := [.ref (ad 0 4), .int (hI ((glyph * 6) + stem))]) (rest := []) E hh (ok_X5_cell l hinj S (ia_F_4 (by decide)) (S 0) rfl ((glyph * 6) + stem) g6) cb_X5_cell q1_220 rfl rfl ⟨Nat.le_of_ble_eq_true rfl, Nat.le_of_ble_eq_true rfl⟩ rfl hl.1 rfl (Nat.le_of_ble_eq_true rfl) dX5_stemOf_42 ⟨Nat.zero_le _, Nat.zero_le _⟩) hh (fun hc7 H locs hh => ?_)
      refine lv_istore (lv' := [(5, .int (hI (v_X5_cell (S 0) 4 48 ((glyph * 6) + stem)))), (4, .int (hI ((glyph * 6) + stem))), (0, .ref (ad 11 0)), (1, .int (hI glyph)), (2, .int (hI stem)), (3, .int (hI what))]) hx hb dX5_stemOf_45 hl (by decide) rfl (fun ls hl => ?_)
      refine lv_iload_n hx hb dX5_stemOf_47 rfl (lv_at hl 5 rfl) ?_
      by_cases c8 : what = 0
      · have h := h.1 c8
        refine lv_tableIn (off := 40) (tgt := 88) hx hb dX5_stemOf_48 (by rw [hI_toInt h_what, c8]; decide) (by rw [hI_toInt h_what, c8]; decide) (by rw [hI_toInt h_what, c8]; rfl) (by decide) ?_
        refine lv_aload_n hx hb dX5_stemOf_88 rfl (lv_at hl 2 rfl) ?_
        refine iv_get (v' := .ref (ad 0 0)) hx hb hts inX5 hown hK hh.1 (ob_X) rfl 0 (by decide) (hts _ q1_182) rfl rfl rfl dX5_stemOf_89 ?_
        refine iv_getN (v' := .ref (ad 0 3)) hx hb hts inX1 hown hK hh.1 (ob_Font (by decide)) rfl 6 (by decide) (hN _ q1_72) rfl rfl rfl dX5_stemOf_92 ?_
        refine lv_iload hx hb dX5_stemOf_95 (lv_at hl 1 rfl) ?_
        refine iv_ki (iv_rS (As := [.ref (ad 0 3), .int (hI ((glyph * 6) + stem))]) (rest := []) E hh (ok_X5_cell l hinj S (ia_F_3 (by decide)) (S 0) rfl ((glyph * 6) + stem) g6) cb_X5_cell q1_220 rfl rfl ⟨Nat.le_of_ble_eq_true rfl, Nat.le_of_ble_eq_true rfl⟩ rfl hl.1 rfl (Nat.le_of_ble_eq_true rfl) dX5_stemOf_97 ⟨Nat.zero_le _, Nat.zero_le _⟩) hh (fun hc9 H locs hh => ?_)
        exact iv_iret E hh (by unfold v_X5_stemOf; rw [if_neg c3, if_neg c5, if_pos c8]) (by rw [← show (v_X5_cell (S 0) 3 48 ((glyph * 6) + stem)) = v_X5_stemOf S glyph stem what from (by unfold v_X5_stemOf; rw [if_neg c3, if_neg c5, if_pos c8])]; exact hc9) rfl dX5_stemOf_100
      · have h := h.2 c8
        by_cases c10 : what = 1
        · have h := h.1 c10
          refine lv_tableIn (off := 53) (tgt := 101) hx hb dX5_stemOf_48 (by rw [hI_toInt h_what, c10]; decide) (by rw [hI_toInt h_what, c10]; decide) (by rw [hI_toInt h_what, c10]; rfl) (by decide) ?_
          refine lv_iload hx hb dX5_stemOf_101 (lv_at hl 0 rfl) ?_
          exact iv_iret E hh (by unfold v_X5_stemOf; rw [if_neg c3, if_neg c5, if_neg c8, if_pos c10]) (by rw [← show (v_X5_cell (S 0) 4 48 ((glyph * 6) + stem)) = v_X5_stemOf S glyph stem what from (by unfold v_X5_stemOf; rw [if_neg c3, if_neg c5, if_neg c8, if_pos c10])]; exact hc7) rfl dX5_stemOf_103
        · have h := h.2 c10
          by_cases c11 : what = 2
          · have h := h.1 c11
            refine lv_tableIn (off := 56) (tgt := 104) hx hb dX5_stemOf_48 (by rw [hI_toInt h_what, c11]; decide) (by rw [hI_toInt h_what, c11]; decide) (by rw [hI_toInt h_what, c11]; rfl) (by decide) ?_
            refine lv_aload_n hx hb dX5_stemOf_104 rfl (lv_at hl 2 rfl) ?_
            refine iv_get (v' := .ref (ad 0 0)) hx hb hts inX5 hown hK hh.1 (ob_X) rfl 0 (by decide) (hts _ q1_182) rfl rfl rfl dX5_stemOf_105 ?_
            refine iv_getN (v' := .ref (ad 0 5)) hx hb hts inX1 hown hK hh.1 (ob_Font (by decide)) rfl 8 (by decide) (hN _ q1_78) rfl rfl rfl dX5_stemOf_108 ?_
            refine lv_iload hx hb dX5_stemOf_111 (lv_at hl 1 rfl) ?_
            refine iv_ki (iv_rS (As := [.ref (ad 0 5), .int (hI ((glyph * 6) + stem))]) (rest := []) E hh (ok_X5_cell l hinj S (ia_F_5 (by decide)) (S 0) rfl ((glyph * 6) + stem) g6) cb_X5_cell q1_220 rfl rfl ⟨Nat.le_of_ble_eq_true rfl, Nat.le_of_ble_eq_true rfl⟩ rfl hl.1 rfl (Nat.le_of_ble_eq_true rfl) dX5_stemOf_113 ⟨Nat.zero_le _, Nat.zero_le _⟩) hh (fun hc12 H locs hh => ?_)
            exact iv_iret E hh (by unfold v_X5_stemOf; rw [if_neg c3, if_neg c5, if_neg c8, if_neg c10, if_pos c11]) (by rw [← show (v_X5_cell (S 0) 5 48 ((glyph * 6) + stem)) = v_X5_stemOf S glyph stem what from (by unfold v_X5_stemOf; rw [if_neg c3, if_neg c5, if_neg c8, if_neg c10, if_pos c11])]; exact hc12) rfl dX5_stemOf_116
          · have h := h.2 c11
            by_cases c13 : what = 3
            · have h := h.1 c13
              refine lv_tableIn (off := 69) (tgt := 117) hx hb dX5_stemOf_48 (by rw [hI_toInt h_what, c13]; decide) (by rw [hI_toInt h_what, c13]; decide) (by rw [hI_toInt h_what, c13]; rfl) (by decide) ?_
              refine lv_aload_n hx hb dX5_stemOf_117 rfl (lv_at hl 2 rfl) ?_
              refine iv_get (v' := .ref (ad 0 0)) hx hb hts inX5 hown hK hh.1 (ob_X) rfl 0 (by decide) (hts _ q1_182) rfl rfl rfl dX5_stemOf_118 ?_
              refine lv_iload hx hb dX5_stemOf_121 (lv_at hl 0 rfl) ?_
              obtain ⟨g14, h⟩ := h
              refine iv_ki (iv_rV (As := [.int (hI (v_X5_cell (S 0) 4 48 ((glyph * 6) + stem)))]) (rest := []) E hh (ok_X1_hintedWidth l hinj S (by decide) (S 0) rfl (v_X5_cell (S 0) 4 48 ((glyph * 6) + stem)) hc7 g14) cb_X1_hintedWidth q3_32 rfl rfl ⟨Nat.le_of_ble_eq_true rfl, Nat.le_of_ble_eq_true rfl⟩ (ob_Font (by decide)) rfl rfl rfl hl.1 rfl (Nat.le_of_ble_eq_true rfl) dX5_stemOf_123 ⟨Nat.zero_le _, Nat.zero_le _⟩) hh (fun hc15 H locs hh => ?_)
              exact iv_iret E hh (by unfold v_X5_stemOf; rw [if_neg c3, if_neg c5, if_neg c8, if_neg c10, if_neg c11, if_pos c13]) (by rw [← show (v_X1_hintedWidth (S 0) (v_X5_cell (S 0) 4 48 ((glyph * 6) + stem))) = v_X5_stemOf S glyph stem what from (by unfold v_X5_stemOf; rw [if_neg c3, if_neg c5, if_neg c8, if_neg c10, if_neg c11, if_pos c13])]; exact hc15) rfl dX5_stemOf_126
            · have h := h.2 c13
              by_cases c16 : what = 4
              · have h := h.1 c16
                refine lv_tableIn (off := 79) (tgt := 127) hx hb dX5_stemOf_48 (by rw [hI_toInt h_what, c16]; decide) (by rw [hI_toInt h_what, c16]; decide) (by rw [hI_toInt h_what, c16]; rfl) (by decide) ?_
                refine lv_aload_n hx hb dX5_stemOf_127 rfl (lv_at hl 2 rfl) ?_
                refine iv_get (v' := .ref (ad 0 0)) hx hb hts inX5 hown hK hh.1 (ob_X) rfl 0 (by decide) (hts _ q1_182) rfl rfl rfl dX5_stemOf_128 ?_
                refine lv_iload hx hb dX5_stemOf_131 (lv_at hl 0 rfl) ?_
                obtain ⟨g17, h⟩ := h
                refine iv_ki (iv_rV (As := [.int (hI (v_X5_cell (S 0) 4 48 ((glyph * 6) + stem)))]) (rest := []) E hh (ok_X1_snapOf l hinj S (by decide) (S 0) rfl (v_X5_cell (S 0) 4 48 ((glyph * 6) + stem)) hc7 g17) cb_X1_snapOf q3_33 rfl rfl ⟨Nat.le_of_ble_eq_true rfl, Nat.le_of_ble_eq_true rfl⟩ (ob_Font (by decide)) rfl rfl rfl hl.1 rfl (Nat.le_of_ble_eq_true rfl) dX5_stemOf_133 ⟨Nat.zero_le _, Nat.zero_le _⟩) hh (fun hc18 H locs hh => ?_)
                refine lv_istore (lv' := [(6, .int (hI (v_X1_snapOf (S 0) (v_X5_cell (S 0) 4 48 ((glyph * 6) + stem))))), (5, .int (hI (v_X5_cell (S 0) 4 48 ((glyph * 6) + stem)))), (4, .int (hI ((glyph * 6) + stem))), (0, .ref (ad 11 0)), (1, .int (hI glyph)), (2, .int (hI stem)), (3, .int (hI what))]) hx hb dX5_stemOf_136 hl (by decide) rfl (fun ls hl => ?_)
                refine lv_iload hx hb dX5_stemOf_138 (lv_at hl 0 rfl) ?_
                refine iv_if_ne (tgt := 148) hx hb hc18 dX5_stemOf_140 (by decide) (fun c19 => ?_) (fun c19 => ?_)
                · have h := h.2 c19
                  refine lv_iload hx hb dX5_stemOf_148 (lv_at hl 0 rfl) ?_
                  exact iv_iret E hh (by unfold v_X5_stemOf; rw [if_neg c3, if_neg c5, if_neg c8, if_neg c10, if_neg c11, if_neg c13, if_pos c16, if_neg c19]) (by rw [← show (v_X1_snapOf (S 0) (v_X5_cell (S 0) 4 48 ((glyph * 6) + stem))) = v_X5_stemOf S glyph stem what from (by unfold v_X5_stemOf; rw [if_neg c3, if_neg c5, if_neg c8, if_neg c10, if_neg c11, if_neg c13, if_pos c16, if_neg c19])]; exact hc18) rfl dX5_stemOf_150
                · have h := h.1 c19
                  refine iv_ldc (n := (-1000004)) hx hb (by decide) hown (hts _ q1_221) dX5_stemOf_143 ?_
                  refine lv_goto (tgt := 150) hx hb dX5_stemOf_145 (by decide) ?_
                  exact iv_iret E hh (by unfold v_X5_stemOf; rw [if_neg c3, if_neg c5, if_neg c8, if_neg c10, if_neg c11, if_neg c13, if_pos c16, if_pos c19]) (by rw [← show (-1000004) = v_X5_stemOf S glyph stem what from (by unfold v_X5_stemOf; rw [if_neg c3, if_neg c5, if_neg c8, if_neg c10, if_neg c11, if_neg c13, if_pos c16, if_pos c19])]; exact ⟨by decide, by decide⟩) rfl dX5_stemOf_150
              · have h := h.2 c16
                by_cases c20 : what = 5
                · have h := h.1 c20
                  refine lv_tableIn (off := 103) (tgt := 151) hx hb dX5_stemOf_48 (by rw [hI_toInt h_what, c20]; decide) (by rw [hI_toInt h_what, c20]; decide) (by rw [hI_toInt h_what, c20]; rfl) (by decide) ?_
                  refine lv_aload_n hx hb dX5_stemOf_151 rfl (lv_at hl 2 rfl) ?_
                  refine iv_get (v' := .ref (ad 0 0)) hx hb hts inX5 hown hK hh.1 (ob_X) rfl 0 (by decide) (hts _ q1_182) rfl rfl rfl dX5_stemOf_152 ?_
                  refine lv_iload hx hb dX5_stemOf_155 (lv_at hl 0 rfl) ?_
                  obtain ⟨g21, h⟩ := h
                  refine iv_ki (iv_rV (As := [.int (hI (v_X5_cell (S 0) 4 48 ((glyph * 6) + stem)))]) (rest := []) E hh (ok_X1_alikeWith l hinj S (by decide) (S 0) rfl (v_X5_cell (S 0) 4 48 ((glyph * 6) + stem)) hc7 g21) cb_X1_alikeWith q3_34 rfl rfl ⟨Nat.le_of_ble_eq_true rfl, Nat.le_of_ble_eq_true rfl⟩ (ob_Font (by decide)) rfl rfl rfl hl.1 rfl (Nat.le_of_ble_eq_true rfl) dX5_stemOf_157 ⟨Nat.zero_le _, Nat.zero_le _⟩) hh (fun hc22 H locs hh => ?_)
                  exact iv_iret E hh (by unfold v_X5_stemOf; rw [if_neg c3, if_neg c5, if_neg c8, if_neg c10, if_neg c11, if_neg c13, if_neg c16, if_pos c20]) (by rw [← show (v_X1_alikeWith (S 0) (v_X5_cell (S 0) 4 48 ((glyph * 6) + stem))) = v_X5_stemOf S glyph stem what from (by unfold v_X5_stemOf; rw [if_neg c3, if_neg c5, if_neg c8, if_neg c10, if_neg c11, if_neg c13, if_neg c16, if_pos c20])]; exact hc22) rfl dX5_stemOf_160
                · have h := h.2 c20
                  refine lv_tableOut (tgt := 161) hx hb dX5_stemOf_48 (by rw [hI_toInt h_what]; exact to_X5_stemOf_48 _ c8 c10 c11 c13 c16 c20) (by decide) ?_
                  refine lv_iload_n hx hb dX5_stemOf_161 rfl (lv_at hl 4 rfl) ?_
                  refine iv_if_ne (tgt := 170) hx hb h_stem dX5_stemOf_162 (by decide) (fun c23 => ?_) (fun c23 => ?_)
                  · have h := h.2 c23
                    refine lv_aload_n hx hb dX5_stemOf_170 rfl (lv_at hl 2 rfl) ?_
                    refine iv_get (v' := .ref (ad 0 0)) hx hb hts inX5 hown hK hh.1 (ob_X) rfl 0 (by decide) (hts _ q1_182) rfl rfl rfl dX5_stemOf_171 ?_
                    refine iv_getN (v' := .ref (ad 0 3)) hx hb hts inX1 hown hK hh.1 (ob_Font (by decide)) rfl 6 (by decide) (hN _ q1_72) rfl rfl rfl dX5_stemOf_174 ?_
                    refine lv_iload hx hb dX5_stemOf_177 (lv_at hl 1 rfl) ?_
                    refine iv_ki (iv_rS (As := [.ref (ad 0 3), .int (hI ((glyph * 6) + stem))]) (rest := []) E hh (ok_X5_cell l hinj S (ia_F_3 (by decide)) (S 0) rfl ((glyph * 6) + stem) g6) cb_X5_cell q1_220 rfl rfl ⟨Nat.le_of_ble_eq_true rfl, Nat.le_of_ble_eq_true rfl⟩ rfl hl.1 rfl (Nat.le_of_ble_eq_true rfl) dX5_stemOf_179 ⟨Nat.zero_le _, Nat.zero_le _⟩) hh (fun hc24 H locs hh => ?_)
                    refine lv_aload_n hx hb dX5_stemOf_182 rfl (lv_at hl 2 rfl) ?_
                    refine iv_get (v' := .ref (ad 0 0)) hx hb hts inX5 hown hK hh.1 (ob_X) rfl 0 (by decide) (hts _ q1_182) rfl rfl rfl dX5_stemOf_183 ?_
                    refine lv_iload hx hb dX5_stemOf_186 (lv_at hl 1 rfl) ?_
                    refine iv_iconst hx hb dX5_stemOf_188 ?_
                    refine iv_isub hx hb dX5_stemOf_189 ?_
                    obtain ⟨g25, h⟩ := h
                    obtain ⟨g26, h⟩ := h
                    refine iv_ki (iv_rV (As := [.int (hI (((glyph * 6) + stem) - 1))]) (rest := [.int (hI (v_X5_cell (S 0) 3 48 ((glyph * 6) + stem)))]) E hh (ok_X1_endOf l hinj S (by decide) (S 0) rfl (((glyph * 6) + stem) - 1) g25 g26) cb_X1_endOf q3_38 rfl rfl ⟨Nat.le_of_ble_eq_true rfl, Nat.le_of_ble_eq_true rfl⟩ (ob_Font (by decide)) rfl rfl rfl hl.1 rfl (Nat.le_of_ble_eq_true rfl) dX5_stemOf_190 ⟨Nat.zero_le _, Nat.zero_le _⟩) hh (fun hc27 H locs hh => ?_)
                    refine iv_isub hx hb dX5_stemOf_193 ?_
                    obtain ⟨g28, h⟩ := h
                    exact iv_iret E hh (by unfold v_X5_stemOf; rw [if_neg c3, if_neg c5, if_neg c8, if_neg c10, if_neg c11, if_neg c13, if_neg c16, if_neg c20, if_neg c23]) (by rw [← show ((v_X5_cell (S 0) 3 48 ((glyph * 6) + stem)) - (v_X1_endOf (S 0) (((glyph * 6) + stem) - 1))) = v_X5_stemOf S glyph stem what from (by unfold v_X5_stemOf; rw [if_neg c3, if_neg c5, if_neg c8, if_neg c10, if_neg c11, if_neg c13, if_neg c16, if_neg c20, if_neg c23])]; exact g28) rfl dX5_stemOf_194
                  · have h := h.1 c23
                    refine iv_ldc (n := (-1000004)) hx hb (by decide) hown (hts _ q1_221) dX5_stemOf_165 ?_
                    refine lv_goto (tgt := 194) hx hb dX5_stemOf_167 (by decide) ?_
                    exact iv_iret E hh (by unfold v_X5_stemOf; rw [if_neg c3, if_neg c5, if_neg c8, if_neg c10, if_neg c11, if_neg c13, if_neg c16, if_neg c20, if_pos c23]) (by rw [← show (-1000004) = v_X5_stemOf S glyph stem what from (by unfold v_X5_stemOf; rw [if_neg c3, if_neg c5, if_neg c8, if_neg c10, if_neg c11, if_neg c13, if_neg c16, if_neg c20, if_pos c23])]; exact ⟨by decide, by decide⟩) rfl dX5_stemOf_194
    · have h := h.1 c5
      refine iv_ldc (n := (-1000001)) hx hb (by decide) hown (hts _ q1_208) dX5_stemOf_22 ?_
      exact iv_iret E hh (by unfold v_X5_stemOf; rw [if_neg c3, if_pos c5]) (by rw [← show (-1000001) = v_X5_stemOf S glyph stem what from (by unfold v_X5_stemOf; rw [if_neg c3, if_pos c5])]; exact ⟨by decide, by decide⟩) rfl dX5_stemOf_24
set_option maxHeartbeats 4000000 in
set_option maxRecDepth 100000 in
theorem ok_X5_inSheet (l : Launch) (hinj : hInj ad) (S : hS) (size : Int) (glyph : Int) (column : Int) (h_size : hIn size) (h_glyph : hIn glyph) (h_column : hIn column) (hp : p_X5_inSheet S size glyph column) : hMi D ad cI cJ cF l yX5_inSheet cX5_inSheet 7 (some .int) ({ frames := 3, cells := 0, slots := 0, locals := 64 } : Room) [.ref (ad 11 0), .int (hI size), .int (hI glyph), .int (hI column)] S (v_X5_inSheet S size glyph column) S := by
  refine hOf (S := S) l hinj (by decide +kernel) (Nat.le_of_ble_eq_true rfl) (fun p e s m args below meth c E => ?_)
  obtain ⟨hx, hb, hml, hown, hts, hK, hN, -, hr, hlk, hz⟩ := id E
  have hown : s.vm.findClass RX5 = some m.cls := hown
  intro H locs ls hh hl
  have hl : lv_has ls 7 [(0, .ref (ad 11 0)), (1, .int (hI size)), (2, .int (hI glyph)), (3, .int (hI column))] := hl
  have h := hp
  unfold p_X5_inSheet at h
  refine lv_iload_n hx hb dX5_inSheet_0 rfl (lv_at hl 1 rfl) ?_
  refine iv_ki (iv_rS (As := [.int (hI size)]) (rest := []) E hh (ok_X5_isSize l hinj S size h_size) cb_X5_isSize q1_202 rfl rfl ⟨Nat.le_of_ble_eq_true rfl, Nat.le_of_ble_eq_true rfl⟩ rfl hl.1 rfl (Nat.le_of_ble_eq_true rfl) dX5_inSheet_1 ⟨Nat.zero_le _, Nat.zero_le _⟩) hh (fun hc1 H locs hh => ?_)
  refine iv_if_eq (tgt := 27) hx hb hc1 dX5_inSheet_4 (by decide) (fun c2 => ?_) (fun c2 => ?_)
  · have h := h.1 c2
    refine iv_ldc (n := (-1000001)) hx hb (by decide) hown (hts _ q1_208) dX5_inSheet_27 ?_
    exact iv_iret E hh (by unfold v_X5_inSheet; rw [if_pos c2]) (by rw [← show (-1000001) = v_X5_inSheet S size glyph column from (by unfold v_X5_inSheet; rw [if_pos c2])]; exact ⟨by decide, by decide⟩) rfl dX5_inSheet_29
  · have h := h.2 c2
    refine lv_iload_n hx hb dX5_inSheet_7 rfl (lv_at hl 2 rfl) ?_
    refine iv_iconst hx hb dX5_inSheet_8 ?_
    refine lv_bipush (v := hI 7) hx hb dX5_inSheet_9 (by decide) ?_
    refine iv_ki (iv_rS (As := [.int (hI glyph), .int (hI 0), .int (hI 7)]) (rest := []) E hh (ok_X5_within l hinj S glyph 0 7 h_glyph ⟨by decide, by decide⟩ ⟨by decide, by decide⟩) cb_X5_within q1_205 rfl rfl ⟨Nat.le_of_ble_eq_true rfl, Nat.le_of_ble_eq_true rfl⟩ rfl hl.1 rfl (Nat.le_of_ble_eq_true rfl) dX5_inSheet_11 ⟨Nat.zero_le _, Nat.zero_le _⟩) hh (fun hc3 H locs hh => ?_)
    refine iv_if_eq (tgt := 27) hx hb hc3 dX5_inSheet_14 (by decide) (fun c4 => ?_) (fun c4 => ?_)
    · have h := h.1 c4
      refine iv_ldc (n := (-1000001)) hx hb (by decide) hown (hts _ q1_208) dX5_inSheet_27 ?_
      exact iv_iret E hh (by unfold v_X5_inSheet; rw [if_neg c2, if_pos c4]) (by rw [← show (-1000001) = v_X5_inSheet S size glyph column from (by unfold v_X5_inSheet; rw [if_neg c2, if_pos c4])]; exact ⟨by decide, by decide⟩) rfl dX5_inSheet_29
    · have h := h.2 c4
      refine lv_iload_n hx hb dX5_inSheet_17 rfl (lv_at hl 3 rfl) ?_
      refine iv_iconst hx hb dX5_inSheet_18 ?_
      refine lv_bipush (v := hI 63) hx hb dX5_inSheet_19 (by decide) ?_
      refine iv_ki (iv_rS (As := [.int (hI column), .int (hI 0), .int (hI 63)]) (rest := []) E hh (ok_X5_within l hinj S column 0 63 h_column ⟨by decide, by decide⟩ ⟨by decide, by decide⟩) cb_X5_within q1_205 rfl rfl ⟨Nat.le_of_ble_eq_true rfl, Nat.le_of_ble_eq_true rfl⟩ rfl hl.1 rfl (Nat.le_of_ble_eq_true rfl) dX5_inSheet_21 ⟨Nat.zero_le _, Nat.zero_le _⟩) hh (fun hc5 H locs hh => ?_)
      refine iv_if_ne (tgt := 30) hx hb hc5 dX5_inSheet_24 (by decide) (fun c6 => ?_) (fun c6 => ?_)
      · have h := h.2 c6
        refine lv_aload_n hx hb dX5_inSheet_30 rfl (lv_at hl 0 rfl) ?_
        refine iv_get (v' := .ref (ad 0 0)) hx hb hts inX5 hown hK hh.1 (ob_X) rfl 0 (by decide) (hts _ q1_182) rfl rfl rfl dX5_inSheet_31 ?_
        refine iv_getN (v' := .ref (ad 0 7)) hx hb hts inX1 hown hK hh.1 (ob_Font (by decide)) rfl 10 (by decide) (hN _ q1_82) rfl rfl rfl dX5_inSheet_34 ?_
        refine lv_astore (lv' := [(4, .ref (ad 0 7)), (0, .ref (ad 11 0)), (1, .int (hI size)), (2, .int (hI glyph)), (3, .int (hI column))]) hx hb dX5_inSheet_37 hl (by decide) rfl (fun ls hl => ?_)
        refine lv_aload hx hb dX5_inSheet_39 (lv_at hl 0 rfl) ?_
        refine lv_iload_n hx hb dX5_inSheet_41 rfl (lv_at hl 2 rfl) ?_
        obtain ⟨g7, h⟩ := h
        refine iv_ki (iv_rV (As := [.int (hI size)]) (rest := []) E hh (ok_X4_slotOf l hinj S (by decide) (S 0) rfl size h_size g7) cb_X4_slotOf q1_209 rfl rfl ⟨Nat.le_of_ble_eq_true rfl, Nat.le_of_ble_eq_true rfl⟩ (ob_Sheets (by decide)) rfl rfl rfl hl.1 rfl (Nat.le_of_ble_eq_true rfl) dX5_inSheet_42 ⟨Nat.zero_le _, Nat.zero_le _⟩) hh (fun hc8 H locs hh => ?_)
        refine lv_istore (lv' := [(5, .int (hI (v_X4_slotOf (S 0) size))), (4, .ref (ad 0 7)), (0, .ref (ad 11 0)), (1, .int (hI size)), (2, .int (hI glyph)), (3, .int (hI column))]) hx hb dX5_inSheet_45 hl (by decide) rfl (fun ls hl => ?_)
        refine lv_iload hx hb dX5_inSheet_47 (lv_at hl 0 rfl) ?_
        refine iv_if_lt (tgt := 66) hx hb hc8 dX5_inSheet_49 (by decide) (fun c9 => ?_) (fun c9 => ?_)
        · have h := h.1 c9
          refine iv_ldc (n := (-1000004)) hx hb (by decide) hown (hts _ q1_221) dX5_inSheet_66 ?_
          exact iv_iret E hh (by unfold v_X5_inSheet; rw [if_neg c2, if_neg c4, if_neg c6, if_pos c9]) (by rw [← show (-1000004) = v_X5_inSheet S size glyph column from (by unfold v_X5_inSheet; rw [if_neg c2, if_neg c4, if_neg c6, if_pos c9])]; exact ⟨by decide, by decide⟩) rfl dX5_inSheet_68
        · have h := h.2 c9
          refine lv_iload_n hx hb dX5_inSheet_52 rfl (lv_at hl 4 rfl) ?_
          refine lv_aload hx hb dX5_inSheet_53 (lv_at hl 1 rfl) ?_
          refine iv_getN (v' := .ref (ad 0 10)) hx hb hts inX4 hown hK hh.1 (ob_Sheets (by decide)) rfl 3 (by decide) (hN _ q1_36) rfl rfl rfl dX5_inSheet_55 ?_
          refine lv_iload hx hb dX5_inSheet_58 (lv_at hl 0 rfl) ?_
          refine iv_ki (iv_rS (As := [.ref (ad 0 10), .int (hI (v_X4_slotOf (S 0) size))]) (rest := [.int (hI glyph)]) E hh (ok_X5_cell l hinj S (ia_F_10 (by decide)) (S 0) rfl (v_X4_slotOf (S 0) size) hc8) cb_X5_cell q1_220 rfl rfl ⟨Nat.le_of_ble_eq_true rfl, Nat.le_of_ble_eq_true rfl⟩ rfl hl.1 rfl (Nat.le_of_ble_eq_true rfl) dX5_inSheet_60 ⟨Nat.zero_le _, Nat.zero_le _⟩) hh (fun hc10 H locs hh => ?_)
          refine iv_icmp_lt (tgt := 69) hx hb h_glyph hc10 dX5_inSheet_63 (by decide) (fun c11 => ?_) (fun c11 => ?_)
          · have h := h.1 c11
            refine lv_iload hx hb dX5_inSheet_69 (lv_at hl 0 rfl) ?_
            refine lv_bipush (v := hI 8) hx hb dX5_inSheet_71 (by decide) ?_
            refine iv_imul hx hb dX5_inSheet_73 ?_
            refine lv_iload_n hx hb dX5_inSheet_74 rfl (lv_at hl 4 rfl) ?_
            refine iv_iadd hx hb dX5_inSheet_75 ?_
            refine lv_istore (lv' := [(6, .int (hI (((v_X4_slotOf (S 0) size) * 8) + glyph))), (5, .int (hI (v_X4_slotOf (S 0) size))), (4, .ref (ad 0 7)), (0, .ref (ad 11 0)), (1, .int (hI size)), (2, .int (hI glyph)), (3, .int (hI column))]) hx hb dX5_inSheet_76 hl (by decide) rfl (fun ls hl => ?_)
            refine lv_iload_n hx hb dX5_inSheet_78 rfl (lv_at hl 6 rfl) ?_
            refine lv_aload hx hb dX5_inSheet_79 (lv_at hl 2 rfl) ?_
            refine iv_getN (v' := .ref (ad 0 11)) hx hb hts inX4 hown hK hh.1 (ob_Sheets (by decide)) rfl 4 (by decide) (hN _ q1_39) rfl rfl rfl dX5_inSheet_81 ?_
            refine lv_iload hx hb dX5_inSheet_84 (lv_at hl 0 rfl) ?_
            obtain ⟨g12, h⟩ := h
            refine iv_ki (iv_rS (As := [.ref (ad 0 11), .int (hI (((v_X4_slotOf (S 0) size) * 8) + glyph))]) (rest := [.int (hI column)]) E hh (ok_X5_cell l hinj S (ia_F_11 (by decide)) (S 0) rfl (((v_X4_slotOf (S 0) size) * 8) + glyph) g12) cb_X5_cell q1_220 rfl rfl ⟨Nat.le_of_ble_eq_true rfl, Nat.le_of_ble_eq_true rfl⟩ rfl hl.1 rfl (Nat.le_of_ble_eq_true rfl) dX5_inSheet_86 ⟨Nat.zero_le _, Nat.zero_le _⟩) hh (fun hc13 H locs hh => ?_)
            refine iv_icmp_ge (tgt := 106) hx hb h_column hc13 dX5_inSheet_89 (by decide) (fun c14 => ?_) (fun c14 => ?_)
            · have h := h.2 c14
              refine iv_ldc (n := (-1000004)) hx hb (by decide) hown (hts _ q1_221) dX5_inSheet_106 ?_
              exact iv_iret E hh (by unfold v_X5_inSheet; rw [if_neg c2, if_neg c4, if_neg c6, if_neg c9, if_pos c11, if_neg c14]) (by rw [← show (-1000004) = v_X5_inSheet S size glyph column from (by unfold v_X5_inSheet; rw [if_neg c2, if_neg c4, if_neg c6, if_neg c9, if_pos c11, if_neg c14])]; exact ⟨by decide, by decide⟩) rfl dX5_inSheet_108
            · have h := h.1 c14
              refine lv_aload hx hb dX5_inSheet_92 (lv_at hl 2 rfl) ?_
              refine lv_iload hx hb dX5_inSheet_94 (lv_at hl 0 rfl) ?_
              refine iv_kl (iv_rV (As := [.int (hI (((v_X4_slotOf (S 0) size) * 8) + glyph))]) (rest := []) E hh (ok_X4_litAt l hinj S (by decide) (S 0) rfl (((v_X4_slotOf (S 0) size) * 8) + glyph) g12) cb_X4_litAt q1_222 rfl rfl ⟨Nat.le_of_ble_eq_true rfl, Nat.le_of_ble_eq_true rfl⟩ (ob_Sheets (by decide)) rfl rfl rfl hl.1 rfl (Nat.le_of_ble_eq_true rfl) dX5_inSheet_96 ⟨Nat.zero_le _, Nat.zero_le _⟩) hh (fun H locs hh => ?_)
              refine lv_iload_n hx hb dX5_inSheet_99 rfl (lv_at hl 6 rfl) ?_
              refine iv_ki (iv_rS (As := [.long (hJ (v_X4_litAt (S 0) (((v_X4_slotOf (S 0) size) * 8) + glyph))), .int (hI column)]) (rest := []) E hh (ok_X5_bitOf l hinj S (v_X4_litAt (S 0) (((v_X4_slotOf (S 0) size) * 8) + glyph)) column h_column) cb_X5_bitOf q1_226 rfl rfl ⟨Nat.le_of_ble_eq_true rfl, Nat.le_of_ble_eq_true rfl⟩ rfl hl.1 rfl (Nat.le_of_ble_eq_true rfl) dX5_inSheet_100 ⟨Nat.zero_le _, Nat.zero_le _⟩) hh (fun hc15 H locs hh => ?_)
              refine lv_goto (tgt := 108) hx hb dX5_inSheet_103 (by decide) ?_
              exact iv_iret E hh (by unfold v_X5_inSheet; rw [if_neg c2, if_neg c4, if_neg c6, if_neg c9, if_pos c11, if_pos c14]) (by rw [← show (v_X5_bitOf (v_X4_litAt (S 0) (((v_X4_slotOf (S 0) size) * 8) + glyph)) column) = v_X5_inSheet S size glyph column from (by unfold v_X5_inSheet; rw [if_neg c2, if_neg c4, if_neg c6, if_neg c9, if_pos c11, if_pos c14])]; exact hc15) rfl dX5_inSheet_108
          · have h := h.2 c11
            refine iv_ldc (n := (-1000004)) hx hb (by decide) hown (hts _ q1_221) dX5_inSheet_66 ?_
            exact iv_iret E hh (by unfold v_X5_inSheet; rw [if_neg c2, if_neg c4, if_neg c6, if_neg c9, if_neg c11]) (by rw [← show (-1000004) = v_X5_inSheet S size glyph column from (by unfold v_X5_inSheet; rw [if_neg c2, if_neg c4, if_neg c6, if_neg c9, if_neg c11])]; exact ⟨by decide, by decide⟩) rfl dX5_inSheet_68
      · have h := h.1 c6
        refine iv_ldc (n := (-1000001)) hx hb (by decide) hown (hts _ q1_208) dX5_inSheet_27 ?_
        exact iv_iret E hh (by unfold v_X5_inSheet; rw [if_neg c2, if_neg c4, if_pos c6]) (by rw [← show (-1000001) = v_X5_inSheet S size glyph column from (by unfold v_X5_inSheet; rw [if_neg c2, if_neg c4, if_pos c6])]; exact ⟨by decide, by decide⟩) rfl dX5_inSheet_29
theorem to_X5_sheetOf_36 (x : Int) (_ : ¬ x = 0) (_ : ¬ x = 1) (_ : ¬ x = 2) : x < 0 ∨ 2 < x := by omega
set_option maxHeartbeats 4000000 in
set_option maxRecDepth 100000 in
theorem ok_X5_sheetOf (l : Launch) (hinj : hInj ad) (S : hS) (index : Int) (what : Int) (h_index : hIn index) (h_what : hIn what) (hp : p_X5_sheetOf S index what) : hMi D ad cI cJ cF l yX5_sheetOf cX5_sheetOf 4 (some .int) ({ frames := 5, cells := 0, slots := 0, locals := 126 } : Room) [.ref (ad 11 0), .int (hI index), .int (hI what)] S (v_X5_sheetOf S index what) (m_X5_sheetOf S index what) := by
  refine hOf (S := S) l hinj (by decide +kernel) (Nat.le_of_ble_eq_true rfl) (fun p e s m args below meth c E => ?_)
  obtain ⟨hx, hb, hml, hown, hts, hK, hN, -, hr, hlk, hz⟩ := id E
  have hown : s.vm.findClass RX5 = some m.cls := hown
  intro H locs ls hh hl
  have hl : lv_has ls 4 [(0, .ref (ad 11 0)), (1, .int (hI index)), (2, .int (hI what))] := hl
  have h := hp
  unfold p_X5_sheetOf at h
  refine lv_iload_n hx hb dX5_sheetOf_0 rfl (lv_at hl 1 rfl) ?_
  refine iv_if_lt (tgt := 13) hx hb h_index dX5_sheetOf_1 (by decide) (fun c1 => ?_) (fun c1 => ?_)
  · have h := h.1 c1
    refine iv_ldc (n := (-1000001)) hx hb (by decide) hown (hts _ q1_208) dX5_sheetOf_13 ?_
    exact iv_iret E hh (by unfold v_X5_sheetOf; rw [if_pos c1]) (by rw [← show (-1000001) = v_X5_sheetOf S index what from (by unfold v_X5_sheetOf; rw [if_pos c1])]; exact ⟨by decide, by decide⟩) (by unfold m_X5_sheetOf; rw [if_pos c1]) dX5_sheetOf_15
  · have h := h.2 c1
    refine lv_iload_n hx hb dX5_sheetOf_4 rfl (lv_at hl 2 rfl) ?_
    refine iv_iconst hx hb dX5_sheetOf_5 ?_
    refine iv_iconst hx hb dX5_sheetOf_6 ?_
    refine iv_ki (iv_rS (As := [.int (hI what), .int (hI 0), .int (hI 3)]) (rest := []) E hh (ok_X5_within l hinj S what 0 3 h_what ⟨by decide, by decide⟩ ⟨by decide, by decide⟩) cb_X5_within q1_205 rfl rfl ⟨Nat.le_of_ble_eq_true rfl, Nat.le_of_ble_eq_true rfl⟩ rfl hl.1 rfl (Nat.le_of_ble_eq_true rfl) dX5_sheetOf_7 ⟨Nat.zero_le _, Nat.zero_le _⟩) hh (fun hc2 H locs hh => ?_)
    refine iv_if_ne (tgt := 16) hx hb hc2 dX5_sheetOf_10 (by decide) (fun c3 => ?_) (fun c3 => ?_)
    · have h := h.2 c3
      refine lv_aload_n hx hb dX5_sheetOf_16 rfl (lv_at hl 0 rfl) ?_
      refine iv_get (v' := .ref (ad 0 0)) hx hb hts inX5 hown hK hh.1 (ob_X) rfl 0 (by decide) (hts _ q1_182) rfl rfl rfl dX5_sheetOf_17 ?_
      refine iv_getN (v' := .ref (ad 0 7)) hx hb hts inX1 hown hK hh.1 (ob_Font (by decide)) rfl 10 (by decide) (hN _ q1_82) rfl rfl rfl dX5_sheetOf_20 ?_
      refine lv_iload_n hx hb dX5_sheetOf_23 rfl (lv_at hl 1 rfl) ?_
      obtain ⟨g4, h⟩ := h
      refine iv_ki (iv_rV (As := [.int (hI index)]) (rest := []) E hh (ok_X4_slotAt l hinj S (by decide) (S 0) rfl index h_index g4) cb_X4_slotAt q3_47 rfl rfl ⟨Nat.le_of_ble_eq_true rfl, Nat.le_of_ble_eq_true rfl⟩ (ob_Sheets (by decide)) rfl rfl rfl hl.1 rfl (Nat.le_of_ble_eq_true rfl) dX5_sheetOf_24 ⟨Nat.zero_le _, Nat.zero_le _⟩) hh (fun hc5 H locs hh => ?_)
      refine lv_istore_n (lv' := [(3, .int (hI (v_X4_slotAt (S 0) index))), (0, .ref (ad 11 0)), (1, .int (hI index)), (2, .int (hI what))]) hx hb dX5_sheetOf_27 rfl hl (by decide) rfl (fun ls hl => ?_)
      refine lv_iload_n hx hb dX5_sheetOf_28 rfl (lv_at hl 0 rfl) ?_
      refine iv_if_ge (tgt := 35) hx hb hc5 dX5_sheetOf_29 (by decide) (fun c6 => ?_) (fun c6 => ?_)
      · have h := h.2 c6
        refine lv_iload_n hx hb dX5_sheetOf_35 rfl (lv_at hl 3 rfl) ?_
        by_cases c7 : what = 0
        · have h := h.1 c7
          refine lv_tableIn (off := 28) (tgt := 64) hx hb dX5_sheetOf_36 (by rw [hI_toInt h_what, c7]; decide) (by rw [hI_toInt h_what, c7]; decide) (by rw [hI_toInt h_what, c7]; rfl) (by decide) ?_
          refine lv_aload_n hx hb dX5_sheetOf_64 rfl (lv_at hl 1 rfl) ?_
          refine iv_get (v' := .ref (ad 0 0)) hx hb hts inX5 hown hK hh.1 (ob_X) rfl 0 (by decide) (hts _ q1_182) rfl rfl rfl dX5_sheetOf_65 ?_
          refine iv_getN (v' := .ref (ad 0 7)) hx hb hts inX1 hown hK hh.1 (ob_Font (by decide)) rfl 10 (by decide) (hN _ q1_82) rfl rfl rfl dX5_sheetOf_68 ?_
          refine iv_getN (v' := .ref (ad 0 9)) hx hb hts inX4 hown hK hh.1 (ob_Sheets (by decide)) rfl 2 (by decide) (hN _ q1_33) rfl rfl rfl dX5_sheetOf_71 ?_
          refine lv_iload_n hx hb dX5_sheetOf_74 rfl (lv_at hl 0 rfl) ?_
          refine iv_ki (iv_rS (As := [.ref (ad 0 9), .int (hI (v_X4_slotAt (S 0) index))]) (rest := []) E hh (ok_X5_cell l hinj S (ia_F_9 (by decide)) (S 0) rfl (v_X4_slotAt (S 0) index) hc5) cb_X5_cell q1_220 rfl rfl ⟨Nat.le_of_ble_eq_true rfl, Nat.le_of_ble_eq_true rfl⟩ rfl hl.1 rfl (Nat.le_of_ble_eq_true rfl) dX5_sheetOf_75 ⟨Nat.zero_le _, Nat.zero_le _⟩) hh (fun hc8 H locs hh => ?_)
          exact iv_iret E hh (by unfold v_X5_sheetOf; rw [if_neg c1, if_neg c3, if_neg c6, if_pos c7]) (by rw [← show (v_X5_cell (S 0) 9 4 (v_X4_slotAt (S 0) index)) = v_X5_sheetOf S index what from (by unfold v_X5_sheetOf; rw [if_neg c1, if_neg c3, if_neg c6, if_pos c7])]; exact hc8) (by unfold m_X5_sheetOf; rw [if_neg c1, if_neg c3, if_neg c6, if_pos c7]) dX5_sheetOf_78
        · have h := h.2 c7
          by_cases c9 : what = 1
          · have h := h.1 c9
            refine lv_tableIn (off := 43) (tgt := 79) hx hb dX5_sheetOf_36 (by rw [hI_toInt h_what, c9]; decide) (by rw [hI_toInt h_what, c9]; decide) (by rw [hI_toInt h_what, c9]; rfl) (by decide) ?_
            refine lv_aload_n hx hb dX5_sheetOf_79 rfl (lv_at hl 1 rfl) ?_
            refine iv_get (v' := .ref (ad 0 0)) hx hb hts inX5 hown hK hh.1 (ob_X) rfl 0 (by decide) (hts _ q1_182) rfl rfl rfl dX5_sheetOf_80 ?_
            refine iv_getN (v' := .ref (ad 0 7)) hx hb hts inX1 hown hK hh.1 (ob_Font (by decide)) rfl 10 (by decide) (hN _ q1_82) rfl rfl rfl dX5_sheetOf_83 ?_
            refine iv_getN (v' := .ref (ad 0 10)) hx hb hts inX4 hown hK hh.1 (ob_Sheets (by decide)) rfl 3 (by decide) (hN _ q1_36) rfl rfl rfl dX5_sheetOf_86 ?_
            refine lv_iload_n hx hb dX5_sheetOf_89 rfl (lv_at hl 0 rfl) ?_
            refine iv_ki (iv_rS (As := [.ref (ad 0 10), .int (hI (v_X4_slotAt (S 0) index))]) (rest := []) E hh (ok_X5_cell l hinj S (ia_F_10 (by decide)) (S 0) rfl (v_X4_slotAt (S 0) index) hc5) cb_X5_cell q1_220 rfl rfl ⟨Nat.le_of_ble_eq_true rfl, Nat.le_of_ble_eq_true rfl⟩ rfl hl.1 rfl (Nat.le_of_ble_eq_true rfl) dX5_sheetOf_90 ⟨Nat.zero_le _, Nat.zero_le _⟩) hh (fun hc10 H locs hh => ?_)
            exact iv_iret E hh (by unfold v_X5_sheetOf; rw [if_neg c1, if_neg c3, if_neg c6, if_neg c7, if_pos c9]) (by rw [← show (v_X5_cell (S 0) 10 4 (v_X4_slotAt (S 0) index)) = v_X5_sheetOf S index what from (by unfold v_X5_sheetOf; rw [if_neg c1, if_neg c3, if_neg c6, if_neg c7, if_pos c9])]; exact hc10) (by unfold m_X5_sheetOf; rw [if_neg c1, if_neg c3, if_neg c6, if_neg c7, if_pos c9]) dX5_sheetOf_93
          · have h := h.2 c9
            by_cases c11 : what = 2
            · have h := h.1 c11
              refine lv_tableIn (off := 58) (tgt := 94) hx hb dX5_sheetOf_36 (by rw [hI_toInt h_what, c11]; decide) (by rw [hI_toInt h_what, c11]; decide) (by rw [hI_toInt h_what, c11]; rfl) (by decide) ?_
              refine lv_aload_n hx hb dX5_sheetOf_94 rfl (lv_at hl 1 rfl) ?_
              refine iv_get (v' := .ref (ad 0 0)) hx hb hts inX5 hown hK hh.1 (ob_X) rfl 0 (by decide) (hts _ q1_182) rfl rfl rfl dX5_sheetOf_95 ?_
              refine lv_iload_n hx hb dX5_sheetOf_98 rfl (lv_at hl 0 rfl) ?_
              refine lv_aload_n hx hb dX5_sheetOf_99 rfl (lv_at hl 1 rfl) ?_
              refine iv_get (v' := .ref (ad 7 0)) hx hb hts inX5 hown hK hh.1 (ob_X) rfl 2 (by decide) (hts _ q1_184) rfl rfl rfl dX5_sheetOf_100 ?_
              obtain ⟨g12, h⟩ := h
              refine iv_ki (iv_rV (As := [.int (hI (v_X4_slotAt (S 0) index)), .ref (ad 7 0)]) (rest := []) E hh (ok_X1_isStale l hinj S (by decide) (S 0) rfl (S 7) rfl (v_X4_slotAt (S 0) index) hc5 g12) cb_X1_isStale q2_6 rfl rfl ⟨Nat.le_of_ble_eq_true rfl, Nat.le_of_ble_eq_true rfl⟩ (ob_Font (by decide)) rfl rfl rfl hl.1 rfl (Nat.le_of_ble_eq_true rfl) dX5_sheetOf_103 ⟨Nat.zero_le _, Nat.zero_le _⟩) hh (fun hc13 H locs hh => ?_)
              refine iv_if_eq (tgt := 113) hx hb hc13 dX5_sheetOf_106 (by decide) (fun c14 => ?_) (fun c14 => ?_)
              · have h := h.1 c14
                refine iv_iconst hx hb dX5_sheetOf_113 ?_
                exact iv_iret E hh (by unfold v_X5_sheetOf; rw [if_neg c1, if_neg c3, if_neg c6, if_neg c7, if_neg c9, if_pos c11, if_pos c14]) (by rw [← show 0 = v_X5_sheetOf S index what from (by unfold v_X5_sheetOf; rw [if_neg c1, if_neg c3, if_neg c6, if_neg c7, if_neg c9, if_pos c11, if_pos c14])]; exact ⟨by decide, by decide⟩) (by unfold m_X5_sheetOf; rw [if_neg c1, if_neg c3, if_neg c6, if_neg c7, if_neg c9, if_pos c11, if_pos c14]) dX5_sheetOf_114
              · have h := h.2 c14
                refine iv_iconst hx hb dX5_sheetOf_109 ?_
                refine lv_goto (tgt := 114) hx hb dX5_sheetOf_110 (by decide) ?_
                exact iv_iret E hh (by unfold v_X5_sheetOf; rw [if_neg c1, if_neg c3, if_neg c6, if_neg c7, if_neg c9, if_pos c11, if_neg c14]) (by rw [← show 1 = v_X5_sheetOf S index what from (by unfold v_X5_sheetOf; rw [if_neg c1, if_neg c3, if_neg c6, if_neg c7, if_neg c9, if_pos c11, if_neg c14])]; exact ⟨by decide, by decide⟩) (by unfold m_X5_sheetOf; rw [if_neg c1, if_neg c3, if_neg c6, if_neg c7, if_neg c9, if_pos c11, if_neg c14]) dX5_sheetOf_114
            · have h := h.2 c11
              refine lv_tableOut (tgt := 115) hx hb dX5_sheetOf_36 (by rw [hI_toInt h_what]; exact to_X5_sheetOf_36 _ c7 c9 c11) (by decide) ?_
              refine lv_aload_n hx hb dX5_sheetOf_115 rfl (lv_at hl 1 rfl) ?_
              refine iv_get (v' := .ref (ad 0 0)) hx hb hts inX5 hown hK hh.1 (ob_X) rfl 0 (by decide) (hts _ q1_182) rfl rfl rfl dX5_sheetOf_116 ?_
              refine iv_getN (v' := .ref (ad 0 7)) hx hb hts inX1 hown hK hh.1 (ob_Font (by decide)) rfl 10 (by decide) (hN _ q1_82) rfl rfl rfl dX5_sheetOf_119 ?_
              refine lv_iload_n hx hb dX5_sheetOf_122 rfl (lv_at hl 0 rfl) ?_
              obtain ⟨g15, h⟩ := h
              refine iv_ki (iv_rV (As := [.int (hI (v_X4_slotAt (S 0) index))]) (rest := []) E hh (ok_X4_litTogether l hinj S (by decide) (S 0) rfl (v_X4_slotAt (S 0) index) hc5 g15) cb_X4_litTogether q3_55 rfl rfl ⟨Nat.le_of_ble_eq_true rfl, Nat.le_of_ble_eq_true rfl⟩ (ob_Sheets (by decide)) rfl rfl rfl hl.1 rfl (Nat.le_of_ble_eq_true rfl) dX5_sheetOf_123 ⟨Nat.zero_le _, Nat.zero_le _⟩) hh (fun hc16 H locs hh => ?_)
              exact iv_iret E hh (by unfold v_X5_sheetOf; rw [if_neg c1, if_neg c3, if_neg c6, if_neg c7, if_neg c9, if_neg c11]) (by rw [← show (v_X4_litTogether (S 0) (v_X4_slotAt (S 0) index)) = v_X5_sheetOf S index what from (by unfold v_X5_sheetOf; rw [if_neg c1, if_neg c3, if_neg c6, if_neg c7, if_neg c9, if_neg c11])]; exact hc16) (by unfold m_X5_sheetOf; rw [if_neg c1, if_neg c3, if_neg c6, if_neg c7, if_neg c9, if_neg c11]) dX5_sheetOf_126
      · have h := h.1 c6
        refine iv_ldc (n := (-1000004)) hx hb (by decide) hown (hts _ q1_221) dX5_sheetOf_32 ?_
        exact iv_iret E hh (by unfold v_X5_sheetOf; rw [if_neg c1, if_neg c3, if_pos c6]) (by rw [← show (-1000004) = v_X5_sheetOf S index what from (by unfold v_X5_sheetOf; rw [if_neg c1, if_neg c3, if_pos c6])]; exact ⟨by decide, by decide⟩) (by unfold m_X5_sheetOf; rw [if_neg c1, if_neg c3, if_pos c6]) dX5_sheetOf_34
    · have h := h.1 c3
      refine iv_ldc (n := (-1000001)) hx hb (by decide) hown (hts _ q1_208) dX5_sheetOf_13 ?_
      exact iv_iret E hh (by unfold v_X5_sheetOf; rw [if_neg c1, if_pos c3]) (by rw [← show (-1000001) = v_X5_sheetOf S index what from (by unfold v_X5_sheetOf; rw [if_neg c1, if_pos c3])]; exact ⟨by decide, by decide⟩) (by unfold m_X5_sheetOf; rw [if_neg c1, if_pos c3]) dX5_sheetOf_15
end

section
variable {D : va_G} {ad : Nat → Nat → Nat} {cI cJ cF : ClassId}
set_option maxHeartbeats 4000000 in
set_option maxRecDepth 100000 in
theorem ok_X5_staleSheets (l : Launch) (hinj : hInj ad) (S : hS) (hp : p_X5_staleSheets S) : hMi D ad cI cJ cF l yX5_staleSheets cX5_staleSheets 3 (some .int) ({ frames := 5, cells := 0, slots := 0, locals := 126 } : Room) [.ref (ad 11 0)] S (v_X5_staleSheets S) (m_X5_staleSheets S) := by
  refine hOf (S := S) l hinj (by decide +kernel) (Nat.le_of_ble_eq_true rfl) (fun p e s m args below meth c E => ?_)
  obtain ⟨hx, hb, hml, hown, hts, hK, hN, -, hr, hlk, hz⟩ := id E
  have hown : s.vm.findClass RX5 = some m.cls := hown
  have r4 : ∀ (y1 : Int) (y2 : Int) (S1 : hS), hIn y1 → hIn y2 → ((∀ (g i : Nat) (k : Int), i < 100 → hIn (S1 g i k)) → ((y2 < 4 → (((v_X4_isMade (S1 0) y2) = 0 → (hAt D ad cI cJ cF p l e ({ frames := 5, cells := 0, slots := 0, locals := 126 } : Room) s m args below meth c (MQ below (hQi D ad cI cJ cF (v_X5_staleSheets S) (m_X5_staleSheets S)) args s 0 0 (hAd ad)) 3 4 [(0, .ref (ad 11 0)), (1, .int (hI y1)), (2, .int (hI (y2 + 1)))] S1)) ∧ (¬ (v_X4_isMade (S1 0) y2) = 0 → (p_X1_isStale (S1 0) (S1 7) y2 ∧ (((v_X1_isStale (S1 0) (S1 7) y2) = 0 → (hAt D ad cI cJ cF p l e ({ frames := 5, cells := 0, slots := 0, locals := 126 } : Room) s m args below meth c (MQ below (hQi D ad cI cJ cF (v_X5_staleSheets S) (m_X5_staleSheets S)) args s 0 0 (hAd ad)) 3 4 [(0, .ref (ad 11 0)), (1, .int (hI y1)), (2, .int (hI (y2 + 1)))] (gset S1 7 (m_X1_isStale (S1 0) (S1 7) y2)))) ∧ (¬ (v_X1_isStale (S1 0) (S1 7) y2) = 0 → (hAt D ad cI cJ cF p l e ({ frames := 5, cells := 0, slots := 0, locals := 126 } : Room) s m args below meth c (MQ below (hQi D ad cI cJ cF (v_X5_staleSheets S) (m_X5_staleSheets S)) args s 0 0 (hAd ad)) 3 4 [(0, .ref (ad 11 0)), (1, .int (hI (y1 + 1))), (2, .int (hI (y2 + 1)))] (gset S1 7 (m_X1_isStale (S1 0) (S1 7) y2))))))))) ∧ (¬ y2 < 4 → (y1 = v_X5_staleSheets S ∧ S1 = m_X5_staleSheets S)))) → (hAt D ad cI cJ cF p l e ({ frames := 5, cells := 0, slots := 0, locals := 126 } : Room) s m args below meth c (MQ below (hQi D ad cI cJ cF (v_X5_staleSheets S) (m_X5_staleSheets S)) args s 0 0 (hAd ad)) 3 4 [(0, .ref (ad 11 0)), (1, .int (hI y1)), (2, .int (hI y2))] S1) := by
    intro y1 y2 S1 h_y1 h_y2 h H locs ls hh hl
    have h := h (fun g i k hi => hh.2.1 g i k hi)
    refine lv_iload_n hx hb dX5_staleSheets_4 rfl (lv_at hl 2 rfl) ?_
    refine iv_iconst hx hb dX5_staleSheets_5 ?_
    refine iv_icmp_ge (tgt := 47) hx hb h_y2 ⟨by decide, by decide⟩ dX5_staleSheets_6 (by decide) (fun c1 => ?_) (fun c1 => ?_)
    · have h := h.2 c1
      refine lv_iload_n hx hb dX5_staleSheets_47 rfl (lv_at hl 1 rfl) ?_
      exact iv_iret E hh h.1 (by rw [← h.1]; exact h_y1) (by rw [← h.2]) dX5_staleSheets_48
    · have h := h.1 c1
      refine lv_aload_n hx hb dX5_staleSheets_9 rfl (lv_at hl 0 rfl) ?_
      refine iv_get (v' := .ref (ad 0 0)) hx hb hts inX5 hown hK hh.1 (ob_X) rfl 0 (by decide) (hts _ q1_182) rfl rfl rfl dX5_staleSheets_10 ?_
      refine iv_getN (v' := .ref (ad 0 7)) hx hb hts inX1 hown hK hh.1 (ob_Font (by decide)) rfl 10 (by decide) (hN _ q1_82) rfl rfl rfl dX5_staleSheets_13 ?_
      refine lv_iload_n hx hb dX5_staleSheets_16 rfl (lv_at hl 2 rfl) ?_
      refine iv_ki (iv_rV (As := [.int (hI y2)]) (rest := []) E hh (ok_X4_isMade l hinj S1 (by decide) (S1 0) rfl y2 h_y2) cb_X4_isMade q2_5 rfl rfl ⟨Nat.le_of_ble_eq_true rfl, Nat.le_of_ble_eq_true rfl⟩ (ob_Sheets (by decide)) rfl rfl rfl hl.1 rfl (Nat.le_of_ble_eq_true rfl) dX5_staleSheets_17 ⟨Nat.zero_le _, Nat.zero_le _⟩) hh (fun hc2 H locs hh => ?_)
      refine iv_if_eq (tgt := 41) hx hb hc2 dX5_staleSheets_20 (by decide) (fun c3 => ?_) (fun c3 => ?_)
      · have h := h.1 c3
        refine iv_iinc (lv' := [(2, .int (hI (y2 + 1))), (0, .ref (ad 11 0)), (1, .int (hI y1))]) hx hb dX5_staleSheets_41 hl (k := 2) rfl (v := (y2 + 1)) rfl (by decide) rfl (fun ls hl => ?_)
        refine lv_goto (tgt := 4) hx hb dX5_staleSheets_44 (by decide) ?_
        exact h H _ ls hh (lv_sub hl [1, 2, 0] rfl)
      · have h := h.2 c3
        refine lv_aload_n hx hb dX5_staleSheets_23 rfl (lv_at hl 0 rfl) ?_
        refine iv_get (v' := .ref (ad 0 0)) hx hb hts inX5 hown hK hh.1 (ob_X) rfl 0 (by decide) (hts _ q1_182) rfl rfl rfl dX5_staleSheets_24 ?_
        refine lv_iload_n hx hb dX5_staleSheets_27 rfl (lv_at hl 2 rfl) ?_
        refine lv_aload_n hx hb dX5_staleSheets_28 rfl (lv_at hl 0 rfl) ?_
        refine iv_get (v' := .ref (ad 7 0)) hx hb hts inX5 hown hK hh.1 (ob_X) rfl 2 (by decide) (hts _ q1_184) rfl rfl rfl dX5_staleSheets_29 ?_
        obtain ⟨g4, h⟩ := h
        refine iv_ki (iv_rV (As := [.int (hI y2), .ref (ad 7 0)]) (rest := []) E hh (ok_X1_isStale l hinj S1 (by decide) (S1 0) rfl (S1 7) rfl y2 h_y2 g4) cb_X1_isStale q2_6 rfl rfl ⟨Nat.le_of_ble_eq_true rfl, Nat.le_of_ble_eq_true rfl⟩ (ob_Font (by decide)) rfl rfl rfl hl.1 rfl (Nat.le_of_ble_eq_true rfl) dX5_staleSheets_32 ⟨Nat.zero_le _, Nat.zero_le _⟩) hh (fun hc5 H locs hh => ?_)
        refine iv_if_eq (tgt := 41) hx hb hc5 dX5_staleSheets_35 (by decide) (fun c6 => ?_) (fun c6 => ?_)
        · have h := h.1 c6
          refine iv_iinc (lv' := [(2, .int (hI (y2 + 1))), (0, .ref (ad 11 0)), (1, .int (hI y1))]) hx hb dX5_staleSheets_41 hl (k := 2) rfl (v := (y2 + 1)) rfl (by decide) rfl (fun ls hl => ?_)
          refine lv_goto (tgt := 4) hx hb dX5_staleSheets_44 (by decide) ?_
          exact h H _ ls hh (lv_sub hl [1, 2, 0] rfl)
        · have h := h.2 c6
          refine iv_iinc (lv' := [(1, .int (hI (y1 + 1))), (0, .ref (ad 11 0)), (2, .int (hI y2))]) hx hb dX5_staleSheets_38 hl (k := 1) rfl (v := (y1 + 1)) rfl (by decide) rfl (fun ls hl => ?_)
          refine iv_iinc (lv' := [(2, .int (hI (y2 + 1))), (1, .int (hI (y1 + 1))), (0, .ref (ad 11 0))]) hx hb dX5_staleSheets_41 hl (k := 2) rfl (v := (y2 + 1)) rfl (by decide) rfl (fun ls hl => ?_)
          refine lv_goto (tgt := 4) hx hb dX5_staleSheets_44 (by decide) ?_
          exact h H _ ls hh (lv_sub hl [2, 1, 0] rfl)
  intro H locs ls hh hl
  have hl : lv_has ls 3 [(0, .ref (ad 11 0))] := hl
  have h := x_X5_staleSheets S (fun g i k hi => hh.2.1 g i k hi) hp (fun y1 y2 S1 => (hAt D ad cI cJ cF p l e ({ frames := 5, cells := 0, slots := 0, locals := 126 } : Room) s m args below meth c (MQ below (hQi D ad cI cJ cF (v_X5_staleSheets S) (m_X5_staleSheets S)) args s 0 0 (hAd ad)) 3 4 [(0, .ref (ad 11 0)), (1, .int (hI y1)), (2, .int (hI y2))] S1)) (fun r S1 => (r = v_X5_staleSheets S ∧ S1 = m_X5_staleSheets S)) r4 ⟨rfl, rfl⟩
  refine iv_iconst hx hb dX5_staleSheets_0 ?_
  refine lv_istore_n (lv' := [(1, .int (hI 0)), (0, .ref (ad 11 0))]) hx hb dX5_staleSheets_1 rfl hl (by decide) rfl (fun ls hl => ?_)
  refine iv_iconst hx hb dX5_staleSheets_2 ?_
  refine lv_istore_n (lv' := [(2, .int (hI 0)), (1, .int (hI 0)), (0, .ref (ad 11 0))]) hx hb dX5_staleSheets_3 rfl hl (by decide) rfl (fun ls hl => ?_)
  exact h H _ ls hh (lv_sub hl [2, 1, 0] rfl)
theorem to_X5_count_1 (x : Int) (_ : ¬ x = 0) (_ : ¬ x = 1) (_ : ¬ x = 2) (_ : ¬ x = 3) (_ : ¬ x = 4) (_ : ¬ x = 5) (_ : ¬ x = 6) (_ : ¬ x = 7) (_ : ¬ x = 8) (_ : ¬ x = 9) (_ : ¬ x = 10) (_ : ¬ x = 11) (_ : ¬ x = 12) (_ : ¬ x = 13) (_ : ¬ x = 14) (_ : ¬ x = 15) (_ : ¬ x = 16) (_ : ¬ x = 17) (_ : ¬ x = 18) (_ : ¬ x = 19) (_ : ¬ x = 20) (_ : ¬ x = 21) : x < 0 ∨ 21 < x := by omega
set_option maxHeartbeats 4000000 in
set_option maxRecDepth 100000 in
theorem ok_X5_count (l : Launch) (hinj : hInj ad) (S : hS) (what : Int) (h_what : hIn what) (hp : p_X5_count S what) : hMi D ad cI cJ cF l yX5_count cX5_count 2 (some .int) ({ frames := 6, cells := 0, slots := 0, locals := 148 } : Room) [.ref (ad 11 0), .int (hI what)] S (v_X5_count S what) (m_X5_count S what) := by
  refine hOf (S := S) l hinj (by decide +kernel) (Nat.le_of_ble_eq_true rfl) (fun p e s m args below meth c E => ?_)
  obtain ⟨hx, hb, hml, hown, hts, hK, hN, -, hr, hlk, hz⟩ := id E
  have hown : s.vm.findClass RX5 = some m.cls := hown
  intro H locs ls hh hl
  have hl : lv_has ls 2 [(0, .ref (ad 11 0)), (1, .int (hI what))] := hl
  have h := hp
  unfold p_X5_count at h
  refine lv_iload_n hx hb dX5_count_0 rfl (lv_at hl 1 rfl) ?_
  by_cases c1 : what = 0
  · have h := h.1 c1
    refine lv_tableIn (off := 103) (tgt := 104) hx hb dX5_count_1 (by rw [hI_toInt h_what, c1]; decide) (by rw [hI_toInt h_what, c1]; decide) (by rw [hI_toInt h_what, c1]; rfl) (by decide) ?_
    refine lv_aload_n hx hb dX5_count_104 rfl (lv_at hl 0 rfl) ?_
    refine iv_get (v' := .ref (ad 0 0)) hx hb hts inX5 hown hK hh.1 (ob_X) rfl 0 (by decide) (hts _ q1_182) rfl rfl rfl dX5_count_105 ?_
    refine iv_getN (v' := .int (hI ((S 0) 0 0))) hx hb hts inX1 hown hK hh.1 (ob_Font (by decide)) rfl 0 (by decide) (hN _ q1_58) rfl rfl rfl dX5_count_108 ?_
    have hm2 : hIn ((S 0) 0 0) := hIn_rd hh.2.1 rfl (by decide)
    exact iv_iret E hh (by unfold v_X5_count; rw [if_pos c1]) (by rw [← show ((S 0) 0 0) = v_X5_count S what from (by unfold v_X5_count; rw [if_pos c1])]; exact hm2) (by unfold m_X5_count; rw [if_pos c1]) dX5_count_111
  · have h := h.2 c1
    by_cases c3 : what = 1
    · have h := h.1 c3
      refine lv_tableIn (off := 111) (tgt := 112) hx hb dX5_count_1 (by rw [hI_toInt h_what, c3]; decide) (by rw [hI_toInt h_what, c3]; decide) (by rw [hI_toInt h_what, c3]; rfl) (by decide) ?_
      refine lv_aload_n hx hb dX5_count_112 rfl (lv_at hl 0 rfl) ?_
      refine iv_get (v' := .ref (ad 0 0)) hx hb hts inX5 hown hK hh.1 (ob_X) rfl 0 (by decide) (hts _ q1_182) rfl rfl rfl dX5_count_113 ?_
      obtain ⟨g4, h⟩ := h
      refine iv_ki (iv_rV (As := []) (rest := []) E hh (ok_X1_stemsTogether l hinj S (by decide) (S 0) rfl g4) cb_X1_stemsTogether q1_233 rfl rfl ⟨Nat.le_of_ble_eq_true rfl, Nat.le_of_ble_eq_true rfl⟩ (ob_Font (by decide)) rfl rfl rfl hl.1 rfl (Nat.le_of_ble_eq_true rfl) dX5_count_116 ⟨Nat.zero_le _, Nat.zero_le _⟩) hh (fun hc5 H locs hh => ?_)
      exact iv_iret E hh (by unfold v_X5_count; rw [if_neg c1, if_pos c3]) (by rw [← show (v_X1_stemsTogether (S 0)) = v_X5_count S what from (by unfold v_X5_count; rw [if_neg c1, if_pos c3])]; exact hc5) (by unfold m_X5_count; rw [if_neg c1, if_pos c3]) dX5_count_119
    · have h := h.2 c3
      by_cases c6 : what = 2
      · have h := h.1 c6
        refine lv_tableIn (off := 119) (tgt := 120) hx hb dX5_count_1 (by rw [hI_toInt h_what, c6]; decide) (by rw [hI_toInt h_what, c6]; decide) (by rw [hI_toInt h_what, c6]; rfl) (by decide) ?_
        refine lv_aload_n hx hb dX5_count_120 rfl (lv_at hl 0 rfl) ?_
        refine iv_get (v' := .ref (ad 0 0)) hx hb hts inX5 hown hK hh.1 (ob_X) rfl 0 (by decide) (hts _ q1_182) rfl rfl rfl dX5_count_121 ?_
        refine iv_getN (v' := .int (hI ((S 0) 0 1))) hx hb hts inX1 hown hK hh.1 (ob_Font (by decide)) rfl 1 (by decide) (hN _ q1_60) rfl rfl rfl dX5_count_124 ?_
        have hm7 : hIn ((S 0) 0 1) := hIn_rd hh.2.1 rfl (by decide)
        exact iv_iret E hh (by unfold v_X5_count; rw [if_neg c1, if_neg c3, if_pos c6]) (by rw [← show ((S 0) 0 1) = v_X5_count S what from (by unfold v_X5_count; rw [if_neg c1, if_neg c3, if_pos c6])]; exact hm7) (by unfold m_X5_count; rw [if_neg c1, if_neg c3, if_pos c6]) dX5_count_127
      · have h := h.2 c6
        by_cases c8 : what = 3
        · have h := h.1 c8
          refine lv_tableIn (off := 127) (tgt := 128) hx hb dX5_count_1 (by rw [hI_toInt h_what, c8]; decide) (by rw [hI_toInt h_what, c8]; decide) (by rw [hI_toInt h_what, c8]; rfl) (by decide) ?_
          refine lv_aload_n hx hb dX5_count_128 rfl (lv_at hl 0 rfl) ?_
          refine iv_get (v' := .ref (ad 0 0)) hx hb hts inX5 hown hK hh.1 (ob_X) rfl 0 (by decide) (hts _ q1_182) rfl rfl rfl dX5_count_129 ?_
          refine iv_getN (v' := .ref (ad 0 7)) hx hb hts inX1 hown hK hh.1 (ob_Font (by decide)) rfl 10 (by decide) (hN _ q1_82) rfl rfl rfl dX5_count_132 ?_
          obtain ⟨g9, h⟩ := h
          refine iv_ki (iv_rV (As := []) (rest := []) E hh (ok_X4_held l hinj S (by decide) (S 0) rfl g9) cb_X4_held q1_237 rfl rfl ⟨Nat.le_of_ble_eq_true rfl, Nat.le_of_ble_eq_true rfl⟩ (ob_Sheets (by decide)) rfl rfl rfl hl.1 rfl (Nat.le_of_ble_eq_true rfl) dX5_count_135 ⟨Nat.zero_le _, Nat.zero_le _⟩) hh (fun hc10 H locs hh => ?_)
          exact iv_iret E hh (by unfold v_X5_count; rw [if_neg c1, if_neg c3, if_neg c6, if_pos c8]) (by rw [← show (v_X4_held (S 0)) = v_X5_count S what from (by unfold v_X5_count; rw [if_neg c1, if_neg c3, if_neg c6, if_pos c8])]; exact hc10) (by unfold m_X5_count; rw [if_neg c1, if_neg c3, if_neg c6, if_pos c8]) dX5_count_138
        · have h := h.2 c8
          by_cases c11 : what = 4
          · have h := h.1 c11
            refine lv_tableIn (off := 138) (tgt := 139) hx hb dX5_count_1 (by rw [hI_toInt h_what, c11]; decide) (by rw [hI_toInt h_what, c11]; decide) (by rw [hI_toInt h_what, c11]; rfl) (by decide) ?_
            refine lv_aload_n hx hb dX5_count_139 rfl (lv_at hl 0 rfl) ?_
            obtain ⟨g12, h⟩ := h
            refine iv_ki (iv_rV (As := []) (rest := []) E hh (ok_X5_staleSheets l hinj S g12) cb_X5_staleSheets q2_1 rfl rfl ⟨Nat.le_of_ble_eq_true rfl, Nat.le_of_ble_eq_true rfl⟩ (ob_X) rfl rfl rfl hl.1 rfl (Nat.le_of_ble_eq_true rfl) dX5_count_140 ⟨Nat.zero_le _, Nat.zero_le _⟩) hh (fun hc13 H locs hh => ?_)
            exact iv_iret E hh (by unfold v_X5_count; rw [if_neg c1, if_neg c3, if_neg c6, if_neg c8, if_pos c11]) (by rw [← show (v_X5_staleSheets S) = v_X5_count S what from (by unfold v_X5_count; rw [if_neg c1, if_neg c3, if_neg c6, if_neg c8, if_pos c11])]; exact hc13) (by unfold m_X5_count; rw [if_neg c1, if_neg c3, if_neg c6, if_neg c8, if_pos c11]) dX5_count_143
          · have h := h.2 c11
            by_cases c14 : what = 5
            · have h := h.1 c14
              refine lv_tableIn (off := 143) (tgt := 144) hx hb dX5_count_1 (by rw [hI_toInt h_what, c14]; decide) (by rw [hI_toInt h_what, c14]; decide) (by rw [hI_toInt h_what, c14]; rfl) (by decide) ?_
              refine lv_aload_n hx hb dX5_count_144 rfl (lv_at hl 0 rfl) ?_
              refine iv_get (v' := .ref (ad 0 0)) hx hb hts inX5 hown hK hh.1 (ob_X) rfl 0 (by decide) (hts _ q1_182) rfl rfl rfl dX5_count_145 ?_
              obtain ⟨g15, h⟩ := h
              refine iv_ki (iv_rV (As := []) (rest := []) E hh (ok_X1_unlikeWidths l hinj S (by decide) (S 0) rfl g15) cb_X1_unlikeWidths q2_60 rfl rfl ⟨Nat.le_of_ble_eq_true rfl, Nat.le_of_ble_eq_true rfl⟩ (ob_Font (by decide)) rfl rfl rfl hl.1 rfl (Nat.le_of_ble_eq_true rfl) dX5_count_148 ⟨Nat.zero_le _, Nat.zero_le _⟩) hh (fun hc16 H locs hh => ?_)
              exact iv_iret E hh (by unfold v_X5_count; rw [if_neg c1, if_neg c3, if_neg c6, if_neg c8, if_neg c11, if_pos c14]) (by rw [← show (v_X1_unlikeWidths (S 0)) = v_X5_count S what from (by unfold v_X5_count; rw [if_neg c1, if_neg c3, if_neg c6, if_neg c8, if_neg c11, if_pos c14])]; exact hc16) (by unfold m_X5_count; rw [if_neg c1, if_neg c3, if_neg c6, if_neg c8, if_neg c11, if_pos c14]) dX5_count_151
            · have h := h.2 c14
              by_cases c17 : what = 6
              · have h := h.1 c17
                refine lv_tableIn (off := 151) (tgt := 152) hx hb dX5_count_1 (by rw [hI_toInt h_what, c17]; decide) (by rw [hI_toInt h_what, c17]; decide) (by rw [hI_toInt h_what, c17]; rfl) (by decide) ?_
                refine lv_aload_n hx hb dX5_count_152 rfl (lv_at hl 0 rfl) ?_
                refine iv_get (v' := .ref (ad 0 0)) hx hb hts inX5 hown hK hh.1 (ob_X) rfl 0 (by decide) (hts _ q1_182) rfl rfl rfl dX5_count_153 ?_
                refine iv_getN (v' := .ref (ad 0 7)) hx hb hts inX1 hown hK hh.1 (ob_Font (by decide)) rfl 10 (by decide) (hN _ q1_82) rfl rfl rfl dX5_count_156 ?_
                refine iv_getN (v' := .int (hI ((S 0) 7 0))) hx hb hts inX4 hown hK hh.1 (ob_Sheets (by decide)) rfl 0 (by decide) (hN _ q1_30) rfl rfl rfl dX5_count_159 ?_
                have hm18 : hIn ((S 0) 7 0) := hIn_rd hh.2.1 rfl (by decide)
                exact iv_iret E hh (by unfold v_X5_count; rw [if_neg c1, if_neg c3, if_neg c6, if_neg c8, if_neg c11, if_neg c14, if_pos c17]) (by rw [← show ((S 0) 7 0) = v_X5_count S what from (by unfold v_X5_count; rw [if_neg c1, if_neg c3, if_neg c6, if_neg c8, if_neg c11, if_neg c14, if_pos c17])]; exact hm18) (by unfold m_X5_count; rw [if_neg c1, if_neg c3, if_neg c6, if_neg c8, if_neg c11, if_neg c14, if_pos c17]) dX5_count_162
              · have h := h.2 c17
                by_cases c19 : what = 7
                · have h := h.1 c19
                  refine lv_tableIn (off := 162) (tgt := 163) hx hb dX5_count_1 (by rw [hI_toInt h_what, c19]; decide) (by rw [hI_toInt h_what, c19]; decide) (by rw [hI_toInt h_what, c19]; rfl) (by decide) ?_
                  refine lv_aload_n hx hb dX5_count_163 rfl (lv_at hl 0 rfl) ?_
                  refine iv_get (v' := .ref (ad 9 0)) hx hb hts inX5 hown hK hh.1 (ob_X) rfl 4 (by decide) (hts _ q1_186) rfl rfl rfl dX5_count_164 ?_
                  refine iv_getN (v' := .int (hI ((S 9) 0 2))) hx hb hts inX2 hown hK hh.1 (ob_Hist) rfl 2 (by decide) (hN _ q1_174) rfl rfl rfl dX5_count_167 ?_
                  have hm20 : hIn ((S 9) 0 2) := hIn_rd hh.2.1 rfl (by decide)
                  exact iv_iret E hh (by unfold v_X5_count; rw [if_neg c1, if_neg c3, if_neg c6, if_neg c8, if_neg c11, if_neg c14, if_neg c17, if_pos c19]) (by rw [← show ((S 9) 0 2) = v_X5_count S what from (by unfold v_X5_count; rw [if_neg c1, if_neg c3, if_neg c6, if_neg c8, if_neg c11, if_neg c14, if_neg c17, if_pos c19])]; exact hm20) (by unfold m_X5_count; rw [if_neg c1, if_neg c3, if_neg c6, if_neg c8, if_neg c11, if_neg c14, if_neg c17, if_pos c19]) dX5_count_170
                · have h := h.2 c19
                  by_cases c21 : what = 8
                  · have h := h.1 c21
                    refine lv_tableIn (off := 170) (tgt := 171) hx hb dX5_count_1 (by rw [hI_toInt h_what, c21]; decide) (by rw [hI_toInt h_what, c21]; decide) (by rw [hI_toInt h_what, c21]; rfl) (by decide) ?_
                    refine lv_aload_n hx hb dX5_count_171 rfl (lv_at hl 0 rfl) ?_
                    refine iv_get (v' := .ref (ad 8 0)) hx hb hts inX5 hown hK hh.1 (ob_X) rfl 3 (by decide) (hts _ q1_185) rfl rfl rfl dX5_count_172 ?_
                    refine iv_getN (v' := .int (hI ((S 8) 0 1))) hx hb hts inX3 hown hK hh.1 (ob_Orders) rfl 1 (by decide) (hN _ q1_143) rfl rfl rfl dX5_count_175 ?_
                    have hm22 : hIn ((S 8) 0 1) := hIn_rd hh.2.1 rfl (by decide)
                    exact iv_iret E hh (by unfold v_X5_count; rw [if_neg c1, if_neg c3, if_neg c6, if_neg c8, if_neg c11, if_neg c14, if_neg c17, if_neg c19, if_pos c21]) (by rw [← show ((S 8) 0 1) = v_X5_count S what from (by unfold v_X5_count; rw [if_neg c1, if_neg c3, if_neg c6, if_neg c8, if_neg c11, if_neg c14, if_neg c17, if_neg c19, if_pos c21])]; exact hm22) (by unfold m_X5_count; rw [if_neg c1, if_neg c3, if_neg c6, if_neg c8, if_neg c11, if_neg c14, if_neg c17, if_neg c19, if_pos c21]) dX5_count_178
                  · have h := h.2 c21
                    by_cases c23 : what = 9
                    · have h := h.1 c23
                      refine lv_tableIn (off := 228) (tgt := 229) hx hb dX5_count_1 (by rw [hI_toInt h_what, c23]; decide) (by rw [hI_toInt h_what, c23]; decide) (by rw [hI_toInt h_what, c23]; rfl) (by decide) ?_
                      refine iv_ldc (n := (-1000001)) hx hb (by decide) hown (hts _ q1_208) dX5_count_229 ?_
                      exact iv_iret E hh (by unfold v_X5_count; rw [if_neg c1, if_neg c3, if_neg c6, if_neg c8, if_neg c11, if_neg c14, if_neg c17, if_neg c19, if_neg c21, if_pos c23]) (by rw [← show (-1000001) = v_X5_count S what from (by unfold v_X5_count; rw [if_neg c1, if_neg c3, if_neg c6, if_neg c8, if_neg c11, if_neg c14, if_neg c17, if_neg c19, if_neg c21, if_pos c23])]; exact ⟨by decide, by decide⟩) (by unfold m_X5_count; rw [if_neg c1, if_neg c3, if_neg c6, if_neg c8, if_neg c11, if_neg c14, if_neg c17, if_neg c19, if_neg c21, if_pos c23]) dX5_count_231
                    · have h := h.2 c23
                      by_cases c24 : what = 10
                      · have h := h.1 c24
                        refine lv_tableIn (off := 178) (tgt := 179) hx hb dX5_count_1 (by rw [hI_toInt h_what, c24]; decide) (by rw [hI_toInt h_what, c24]; decide) (by rw [hI_toInt h_what, c24]; rfl) (by decide) ?_
                        refine lv_iload_n hx hb dX5_count_179 rfl (lv_at hl 1 rfl) ?_
                        refine lv_bipush (v := hI 10) hx hb dX5_count_180 (by decide) ?_
                        refine iv_isub hx hb dX5_count_182 ?_
                        refine lv_aload_n hx hb dX5_count_183 rfl (lv_at hl 0 rfl) ?_
                        refine iv_get (v' := .ref (ad 0 0)) hx hb hts inX5 hown hK hh.1 (ob_X) rfl 0 (by decide) (hts _ q1_182) rfl rfl rfl dX5_count_184 ?_
                        refine iv_getN (v' := .int (hI ((S 0) 0 1))) hx hb hts inX1 hown hK hh.1 (ob_Font (by decide)) rfl 1 (by decide) (hN _ q1_60) rfl rfl rfl dX5_count_187 ?_
                        have hm25 : hIn ((S 0) 0 1) := hIn_rd hh.2.1 rfl (by decide)
                        obtain ⟨g26, h⟩ := h
                        refine iv_icmp_ge (tgt := 210) hx hb g26 hm25 dX5_count_190 (by decide) (fun c27 => ?_) (fun c27 => ?_)
                        · have h := h.2 c27
                          refine iv_ldc (n := (-1000004)) hx hb (by decide) hown (hts _ q1_221) dX5_count_210 ?_
                          exact iv_iret E hh (by unfold v_X5_count; rw [if_neg c1, if_neg c3, if_neg c6, if_neg c8, if_neg c11, if_neg c14, if_neg c17, if_neg c19, if_neg c21, if_neg c23, if_pos c24, if_neg c27]) (by rw [← show (-1000004) = v_X5_count S what from (by unfold v_X5_count; rw [if_neg c1, if_neg c3, if_neg c6, if_neg c8, if_neg c11, if_neg c14, if_neg c17, if_neg c19, if_neg c21, if_neg c23, if_pos c24, if_neg c27])]; exact ⟨by decide, by decide⟩) (by unfold m_X5_count; rw [if_neg c1, if_neg c3, if_neg c6, if_neg c8, if_neg c11, if_neg c14, if_neg c17, if_neg c19, if_neg c21, if_neg c23, if_pos c24, if_neg c27]) dX5_count_212
                        · have h := h.1 c27
                          refine lv_aload_n hx hb dX5_count_193 rfl (lv_at hl 0 rfl) ?_
                          refine iv_get (v' := .ref (ad 0 0)) hx hb hts inX5 hown hK hh.1 (ob_X) rfl 0 (by decide) (hts _ q1_182) rfl rfl rfl dX5_count_194 ?_
                          refine iv_getN (v' := .ref (ad 0 6)) hx hb hts inX1 hown hK hh.1 (ob_Font (by decide)) rfl 9 (by decide) (hN _ q1_80) rfl rfl rfl dX5_count_197 ?_
                          refine lv_iload_n hx hb dX5_count_200 rfl (lv_at hl 1 rfl) ?_
                          refine lv_bipush (v := hI 10) hx hb dX5_count_201 (by decide) ?_
                          refine iv_isub hx hb dX5_count_203 ?_
                          refine iv_ki (iv_rS (As := [.ref (ad 0 6), .int (hI (what - 10))]) (rest := []) E hh (ok_X5_cell l hinj S (ia_F_6 (by decide)) (S 0) rfl (what - 10) g26) cb_X5_cell q1_220 rfl rfl ⟨Nat.le_of_ble_eq_true rfl, Nat.le_of_ble_eq_true rfl⟩ rfl hl.1 rfl (Nat.le_of_ble_eq_true rfl) dX5_count_204 ⟨Nat.zero_le _, Nat.zero_le _⟩) hh (fun hc28 H locs hh => ?_)
                          refine lv_goto (tgt := 212) hx hb dX5_count_207 (by decide) ?_
                          exact iv_iret E hh (by unfold v_X5_count; rw [if_neg c1, if_neg c3, if_neg c6, if_neg c8, if_neg c11, if_neg c14, if_neg c17, if_neg c19, if_neg c21, if_neg c23, if_pos c24, if_pos c27]) (by rw [← show (v_X5_cell (S 0) 6 3 (what - 10)) = v_X5_count S what from (by unfold v_X5_count; rw [if_neg c1, if_neg c3, if_neg c6, if_neg c8, if_neg c11, if_neg c14, if_neg c17, if_neg c19, if_neg c21, if_neg c23, if_pos c24, if_pos c27])]; exact hc28) (by unfold m_X5_count; rw [if_neg c1, if_neg c3, if_neg c6, if_neg c8, if_neg c11, if_neg c14, if_neg c17, if_neg c19, if_neg c21, if_neg c23, if_pos c24, if_pos c27]) dX5_count_212
                      · have h := h.2 c24
                        by_cases c29 : what = 11
                        · have h := h.1 c29
                          refine lv_tableIn (off := 178) (tgt := 179) hx hb dX5_count_1 (by rw [hI_toInt h_what, c29]; decide) (by rw [hI_toInt h_what, c29]; decide) (by rw [hI_toInt h_what, c29]; rfl) (by decide) ?_
                          refine lv_iload_n hx hb dX5_count_179 rfl (lv_at hl 1 rfl) ?_
                          refine lv_bipush (v := hI 10) hx hb dX5_count_180 (by decide) ?_
                          refine iv_isub hx hb dX5_count_182 ?_
                          refine lv_aload_n hx hb dX5_count_183 rfl (lv_at hl 0 rfl) ?_
                          refine iv_get (v' := .ref (ad 0 0)) hx hb hts inX5 hown hK hh.1 (ob_X) rfl 0 (by decide) (hts _ q1_182) rfl rfl rfl dX5_count_184 ?_
                          refine iv_getN (v' := .int (hI ((S 0) 0 1))) hx hb hts inX1 hown hK hh.1 (ob_Font (by decide)) rfl 1 (by decide) (hN _ q1_60) rfl rfl rfl dX5_count_187 ?_
                          have hm30 : hIn ((S 0) 0 1) := hIn_rd hh.2.1 rfl (by decide)
                          obtain ⟨g31, h⟩ := h
                          refine iv_icmp_ge (tgt := 210) hx hb g31 hm30 dX5_count_190 (by decide) (fun c32 => ?_) (fun c32 => ?_)
                          · have h := h.2 c32
                            refine iv_ldc (n := (-1000004)) hx hb (by decide) hown (hts _ q1_221) dX5_count_210 ?_
                            exact iv_iret E hh (by unfold v_X5_count; rw [if_neg c1, if_neg c3, if_neg c6, if_neg c8, if_neg c11, if_neg c14, if_neg c17, if_neg c19, if_neg c21, if_neg c23, if_neg c24, if_pos c29, if_neg c32]) (by rw [← show (-1000004) = v_X5_count S what from (by unfold v_X5_count; rw [if_neg c1, if_neg c3, if_neg c6, if_neg c8, if_neg c11, if_neg c14, if_neg c17, if_neg c19, if_neg c21, if_neg c23, if_neg c24, if_pos c29, if_neg c32])]; exact ⟨by decide, by decide⟩) (by unfold m_X5_count; rw [if_neg c1, if_neg c3, if_neg c6, if_neg c8, if_neg c11, if_neg c14, if_neg c17, if_neg c19, if_neg c21, if_neg c23, if_neg c24, if_pos c29, if_neg c32]) dX5_count_212
                          · have h := h.1 c32
                            refine lv_aload_n hx hb dX5_count_193 rfl (lv_at hl 0 rfl) ?_
                            refine iv_get (v' := .ref (ad 0 0)) hx hb hts inX5 hown hK hh.1 (ob_X) rfl 0 (by decide) (hts _ q1_182) rfl rfl rfl dX5_count_194 ?_
                            refine iv_getN (v' := .ref (ad 0 6)) hx hb hts inX1 hown hK hh.1 (ob_Font (by decide)) rfl 9 (by decide) (hN _ q1_80) rfl rfl rfl dX5_count_197 ?_
                            refine lv_iload_n hx hb dX5_count_200 rfl (lv_at hl 1 rfl) ?_
                            refine lv_bipush (v := hI 10) hx hb dX5_count_201 (by decide) ?_
                            refine iv_isub hx hb dX5_count_203 ?_
                            refine iv_ki (iv_rS (As := [.ref (ad 0 6), .int (hI (what - 10))]) (rest := []) E hh (ok_X5_cell l hinj S (ia_F_6 (by decide)) (S 0) rfl (what - 10) g31) cb_X5_cell q1_220 rfl rfl ⟨Nat.le_of_ble_eq_true rfl, Nat.le_of_ble_eq_true rfl⟩ rfl hl.1 rfl (Nat.le_of_ble_eq_true rfl) dX5_count_204 ⟨Nat.zero_le _, Nat.zero_le _⟩) hh (fun hc33 H locs hh => ?_)
                            refine lv_goto (tgt := 212) hx hb dX5_count_207 (by decide) ?_
                            exact iv_iret E hh (by unfold v_X5_count; rw [if_neg c1, if_neg c3, if_neg c6, if_neg c8, if_neg c11, if_neg c14, if_neg c17, if_neg c19, if_neg c21, if_neg c23, if_neg c24, if_pos c29, if_pos c32]) (by rw [← show (v_X5_cell (S 0) 6 3 (what - 10)) = v_X5_count S what from (by unfold v_X5_count; rw [if_neg c1, if_neg c3, if_neg c6, if_neg c8, if_neg c11, if_neg c14, if_neg c17, if_neg c19, if_neg c21, if_neg c23, if_neg c24, if_pos c29, if_pos c32])]; exact hc33) (by unfold m_X5_count; rw [if_neg c1, if_neg c3, if_neg c6, if_neg c8, if_neg c11, if_neg c14, if_neg c17, if_neg c19, if_neg c21, if_neg c23, if_neg c24, if_pos c29, if_pos c32]) dX5_count_212
                        · have h := h.2 c29
                          by_cases c34 : what = 12
                          · have h := h.1 c34
                            refine lv_tableIn (off := 178) (tgt := 179) hx hb dX5_count_1 (by rw [hI_toInt h_what, c34]; decide) (by rw [hI_toInt h_what, c34]; decide) (by rw [hI_toInt h_what, c34]; rfl) (by decide) ?_
                            refine lv_iload_n hx hb dX5_count_179 rfl (lv_at hl 1 rfl) ?_
                            refine lv_bipush (v := hI 10) hx hb dX5_count_180 (by decide) ?_
                            refine iv_isub hx hb dX5_count_182 ?_
                            refine lv_aload_n hx hb dX5_count_183 rfl (lv_at hl 0 rfl) ?_
                            refine iv_get (v' := .ref (ad 0 0)) hx hb hts inX5 hown hK hh.1 (ob_X) rfl 0 (by decide) (hts _ q1_182) rfl rfl rfl dX5_count_184 ?_
                            refine iv_getN (v' := .int (hI ((S 0) 0 1))) hx hb hts inX1 hown hK hh.1 (ob_Font (by decide)) rfl 1 (by decide) (hN _ q1_60) rfl rfl rfl dX5_count_187 ?_
                            have hm35 : hIn ((S 0) 0 1) := hIn_rd hh.2.1 rfl (by decide)
                            obtain ⟨g36, h⟩ := h
                            refine iv_icmp_ge (tgt := 210) hx hb g36 hm35 dX5_count_190 (by decide) (fun c37 => ?_) (fun c37 => ?_)
                            · have h := h.2 c37
                              refine iv_ldc (n := (-1000004)) hx hb (by decide) hown (hts _ q1_221) dX5_count_210 ?_
                              exact iv_iret E hh (by unfold v_X5_count; rw [if_neg c1, if_neg c3, if_neg c6, if_neg c8, if_neg c11, if_neg c14, if_neg c17, if_neg c19, if_neg c21, if_neg c23, if_neg c24, if_neg c29, if_pos c34, if_neg c37]) (by rw [← show (-1000004) = v_X5_count S what from (by unfold v_X5_count; rw [if_neg c1, if_neg c3, if_neg c6, if_neg c8, if_neg c11, if_neg c14, if_neg c17, if_neg c19, if_neg c21, if_neg c23, if_neg c24, if_neg c29, if_pos c34, if_neg c37])]; exact ⟨by decide, by decide⟩) (by unfold m_X5_count; rw [if_neg c1, if_neg c3, if_neg c6, if_neg c8, if_neg c11, if_neg c14, if_neg c17, if_neg c19, if_neg c21, if_neg c23, if_neg c24, if_neg c29, if_pos c34, if_neg c37]) dX5_count_212
                            · have h := h.1 c37
                              refine lv_aload_n hx hb dX5_count_193 rfl (lv_at hl 0 rfl) ?_
                              refine iv_get (v' := .ref (ad 0 0)) hx hb hts inX5 hown hK hh.1 (ob_X) rfl 0 (by decide) (hts _ q1_182) rfl rfl rfl dX5_count_194 ?_
                              refine iv_getN (v' := .ref (ad 0 6)) hx hb hts inX1 hown hK hh.1 (ob_Font (by decide)) rfl 9 (by decide) (hN _ q1_80) rfl rfl rfl dX5_count_197 ?_
                              refine lv_iload_n hx hb dX5_count_200 rfl (lv_at hl 1 rfl) ?_
                              refine lv_bipush (v := hI 10) hx hb dX5_count_201 (by decide) ?_
                              refine iv_isub hx hb dX5_count_203 ?_
                              refine iv_ki (iv_rS (As := [.ref (ad 0 6), .int (hI (what - 10))]) (rest := []) E hh (ok_X5_cell l hinj S (ia_F_6 (by decide)) (S 0) rfl (what - 10) g36) cb_X5_cell q1_220 rfl rfl ⟨Nat.le_of_ble_eq_true rfl, Nat.le_of_ble_eq_true rfl⟩ rfl hl.1 rfl (Nat.le_of_ble_eq_true rfl) dX5_count_204 ⟨Nat.zero_le _, Nat.zero_le _⟩) hh (fun hc38 H locs hh => ?_)
                              refine lv_goto (tgt := 212) hx hb dX5_count_207 (by decide) ?_
                              exact iv_iret E hh (by unfold v_X5_count; rw [if_neg c1, if_neg c3, if_neg c6, if_neg c8, if_neg c11, if_neg c14, if_neg c17, if_neg c19, if_neg c21, if_neg c23, if_neg c24, if_neg c29, if_pos c34, if_pos c37]) (by rw [← show (v_X5_cell (S 0) 6 3 (what - 10)) = v_X5_count S what from (by unfold v_X5_count; rw [if_neg c1, if_neg c3, if_neg c6, if_neg c8, if_neg c11, if_neg c14, if_neg c17, if_neg c19, if_neg c21, if_neg c23, if_neg c24, if_neg c29, if_pos c34, if_pos c37])]; exact hc38) (by unfold m_X5_count; rw [if_neg c1, if_neg c3, if_neg c6, if_neg c8, if_neg c11, if_neg c14, if_neg c17, if_neg c19, if_neg c21, if_neg c23, if_neg c24, if_neg c29, if_pos c34, if_pos c37]) dX5_count_212
                          · have h := h.2 c34
                            by_cases c39 : what = 13
                            · have h := h.1 c39
                              refine lv_tableIn (off := 228) (tgt := 229) hx hb dX5_count_1 (by rw [hI_toInt h_what, c39]; decide) (by rw [hI_toInt h_what, c39]; decide) (by rw [hI_toInt h_what, c39]; rfl) (by decide) ?_
                              refine iv_ldc (n := (-1000001)) hx hb (by decide) hown (hts _ q1_208) dX5_count_229 ?_
                              exact iv_iret E hh (by unfold v_X5_count; rw [if_neg c1, if_neg c3, if_neg c6, if_neg c8, if_neg c11, if_neg c14, if_neg c17, if_neg c19, if_neg c21, if_neg c23, if_neg c24, if_neg c29, if_neg c34, if_pos c39]) (by rw [← show (-1000001) = v_X5_count S what from (by unfold v_X5_count; rw [if_neg c1, if_neg c3, if_neg c6, if_neg c8, if_neg c11, if_neg c14, if_neg c17, if_neg c19, if_neg c21, if_neg c23, if_neg c24, if_neg c29, if_neg c34, if_pos c39])]; exact ⟨by decide, by decide⟩) (by unfold m_X5_count; rw [if_neg c1, if_neg c3, if_neg c6, if_neg c8, if_neg c11, if_neg c14, if_neg c17, if_neg c19, if_neg c21, if_neg c23, if_neg c24, if_neg c29, if_neg c34, if_pos c39]) dX5_count_231
                            · have h := h.2 c39
                              by_cases c40 : what = 14
                              · have h := h.1 c40
                                refine lv_tableIn (off := 228) (tgt := 229) hx hb dX5_count_1 (by rw [hI_toInt h_what, c40]; decide) (by rw [hI_toInt h_what, c40]; decide) (by rw [hI_toInt h_what, c40]; rfl) (by decide) ?_
                                refine iv_ldc (n := (-1000001)) hx hb (by decide) hown (hts _ q1_208) dX5_count_229 ?_
                                exact iv_iret E hh (by unfold v_X5_count; rw [if_neg c1, if_neg c3, if_neg c6, if_neg c8, if_neg c11, if_neg c14, if_neg c17, if_neg c19, if_neg c21, if_neg c23, if_neg c24, if_neg c29, if_neg c34, if_neg c39, if_pos c40]) (by rw [← show (-1000001) = v_X5_count S what from (by unfold v_X5_count; rw [if_neg c1, if_neg c3, if_neg c6, if_neg c8, if_neg c11, if_neg c14, if_neg c17, if_neg c19, if_neg c21, if_neg c23, if_neg c24, if_neg c29, if_neg c34, if_neg c39, if_pos c40])]; exact ⟨by decide, by decide⟩) (by unfold m_X5_count; rw [if_neg c1, if_neg c3, if_neg c6, if_neg c8, if_neg c11, if_neg c14, if_neg c17, if_neg c19, if_neg c21, if_neg c23, if_neg c24, if_neg c29, if_neg c34, if_neg c39, if_pos c40]) dX5_count_231
                              · have h := h.2 c40
                                by_cases c41 : what = 15
                                · have h := h.1 c41
                                  refine lv_tableIn (off := 228) (tgt := 229) hx hb dX5_count_1 (by rw [hI_toInt h_what, c41]; decide) (by rw [hI_toInt h_what, c41]; decide) (by rw [hI_toInt h_what, c41]; rfl) (by decide) ?_
                                  refine iv_ldc (n := (-1000001)) hx hb (by decide) hown (hts _ q1_208) dX5_count_229 ?_
                                  exact iv_iret E hh (by unfold v_X5_count; rw [if_neg c1, if_neg c3, if_neg c6, if_neg c8, if_neg c11, if_neg c14, if_neg c17, if_neg c19, if_neg c21, if_neg c23, if_neg c24, if_neg c29, if_neg c34, if_neg c39, if_neg c40, if_pos c41]) (by rw [← show (-1000001) = v_X5_count S what from (by unfold v_X5_count; rw [if_neg c1, if_neg c3, if_neg c6, if_neg c8, if_neg c11, if_neg c14, if_neg c17, if_neg c19, if_neg c21, if_neg c23, if_neg c24, if_neg c29, if_neg c34, if_neg c39, if_neg c40, if_pos c41])]; exact ⟨by decide, by decide⟩) (by unfold m_X5_count; rw [if_neg c1, if_neg c3, if_neg c6, if_neg c8, if_neg c11, if_neg c14, if_neg c17, if_neg c19, if_neg c21, if_neg c23, if_neg c24, if_neg c29, if_neg c34, if_neg c39, if_neg c40, if_pos c41]) dX5_count_231
                                · have h := h.2 c41
                                  by_cases c42 : what = 16
                                  · have h := h.1 c42
                                    refine lv_tableIn (off := 228) (tgt := 229) hx hb dX5_count_1 (by rw [hI_toInt h_what, c42]; decide) (by rw [hI_toInt h_what, c42]; decide) (by rw [hI_toInt h_what, c42]; rfl) (by decide) ?_
                                    refine iv_ldc (n := (-1000001)) hx hb (by decide) hown (hts _ q1_208) dX5_count_229 ?_
                                    exact iv_iret E hh (by unfold v_X5_count; rw [if_neg c1, if_neg c3, if_neg c6, if_neg c8, if_neg c11, if_neg c14, if_neg c17, if_neg c19, if_neg c21, if_neg c23, if_neg c24, if_neg c29, if_neg c34, if_neg c39, if_neg c40, if_neg c41, if_pos c42]) (by rw [← show (-1000001) = v_X5_count S what from (by unfold v_X5_count; rw [if_neg c1, if_neg c3, if_neg c6, if_neg c8, if_neg c11, if_neg c14, if_neg c17, if_neg c19, if_neg c21, if_neg c23, if_neg c24, if_neg c29, if_neg c34, if_neg c39, if_neg c40, if_neg c41, if_pos c42])]; exact ⟨by decide, by decide⟩) (by unfold m_X5_count; rw [if_neg c1, if_neg c3, if_neg c6, if_neg c8, if_neg c11, if_neg c14, if_neg c17, if_neg c19, if_neg c21, if_neg c23, if_neg c24, if_neg c29, if_neg c34, if_neg c39, if_neg c40, if_neg c41, if_pos c42]) dX5_count_231
                                  · have h := h.2 c42
                                    by_cases c43 : what = 17
                                    · have h := h.1 c43
                                      refine lv_tableIn (off := 228) (tgt := 229) hx hb dX5_count_1 (by rw [hI_toInt h_what, c43]; decide) (by rw [hI_toInt h_what, c43]; decide) (by rw [hI_toInt h_what, c43]; rfl) (by decide) ?_
                                      refine iv_ldc (n := (-1000001)) hx hb (by decide) hown (hts _ q1_208) dX5_count_229 ?_
                                      exact iv_iret E hh (by unfold v_X5_count; rw [if_neg c1, if_neg c3, if_neg c6, if_neg c8, if_neg c11, if_neg c14, if_neg c17, if_neg c19, if_neg c21, if_neg c23, if_neg c24, if_neg c29, if_neg c34, if_neg c39, if_neg c40, if_neg c41, if_neg c42, if_pos c43]) (by rw [← show (-1000001) = v_X5_count S what from (by unfold v_X5_count; rw [if_neg c1, if_neg c3, if_neg c6, if_neg c8, if_neg c11, if_neg c14, if_neg c17, if_neg c19, if_neg c21, if_neg c23, if_neg c24, if_neg c29, if_neg c34, if_neg c39, if_neg c40, if_neg c41, if_neg c42, if_pos c43])]; exact ⟨by decide, by decide⟩) (by unfold m_X5_count; rw [if_neg c1, if_neg c3, if_neg c6, if_neg c8, if_neg c11, if_neg c14, if_neg c17, if_neg c19, if_neg c21, if_neg c23, if_neg c24, if_neg c29, if_neg c34, if_neg c39, if_neg c40, if_neg c41, if_neg c42, if_pos c43]) dX5_count_231
                                    · have h := h.2 c43
                                      by_cases c44 : what = 18
                                      · have h := h.1 c44
                                        refine lv_tableIn (off := 228) (tgt := 229) hx hb dX5_count_1 (by rw [hI_toInt h_what, c44]; decide) (by rw [hI_toInt h_what, c44]; decide) (by rw [hI_toInt h_what, c44]; rfl) (by decide) ?_
                                        refine iv_ldc (n := (-1000001)) hx hb (by decide) hown (hts _ q1_208) dX5_count_229 ?_
                                        exact iv_iret E hh (by unfold v_X5_count; rw [if_neg c1, if_neg c3, if_neg c6, if_neg c8, if_neg c11, if_neg c14, if_neg c17, if_neg c19, if_neg c21, if_neg c23, if_neg c24, if_neg c29, if_neg c34, if_neg c39, if_neg c40, if_neg c41, if_neg c42, if_neg c43, if_pos c44]) (by rw [← show (-1000001) = v_X5_count S what from (by unfold v_X5_count; rw [if_neg c1, if_neg c3, if_neg c6, if_neg c8, if_neg c11, if_neg c14, if_neg c17, if_neg c19, if_neg c21, if_neg c23, if_neg c24, if_neg c29, if_neg c34, if_neg c39, if_neg c40, if_neg c41, if_neg c42, if_neg c43, if_pos c44])]; exact ⟨by decide, by decide⟩) (by unfold m_X5_count; rw [if_neg c1, if_neg c3, if_neg c6, if_neg c8, if_neg c11, if_neg c14, if_neg c17, if_neg c19, if_neg c21, if_neg c23, if_neg c24, if_neg c29, if_neg c34, if_neg c39, if_neg c40, if_neg c41, if_neg c42, if_neg c43, if_pos c44]) dX5_count_231
                                      · have h := h.2 c44
                                        by_cases c45 : what = 19
                                        · have h := h.1 c45
                                          refine lv_tableIn (off := 228) (tgt := 229) hx hb dX5_count_1 (by rw [hI_toInt h_what, c45]; decide) (by rw [hI_toInt h_what, c45]; decide) (by rw [hI_toInt h_what, c45]; rfl) (by decide) ?_
                                          refine iv_ldc (n := (-1000001)) hx hb (by decide) hown (hts _ q1_208) dX5_count_229 ?_
                                          exact iv_iret E hh (by unfold v_X5_count; rw [if_neg c1, if_neg c3, if_neg c6, if_neg c8, if_neg c11, if_neg c14, if_neg c17, if_neg c19, if_neg c21, if_neg c23, if_neg c24, if_neg c29, if_neg c34, if_neg c39, if_neg c40, if_neg c41, if_neg c42, if_neg c43, if_neg c44, if_pos c45]) (by rw [← show (-1000001) = v_X5_count S what from (by unfold v_X5_count; rw [if_neg c1, if_neg c3, if_neg c6, if_neg c8, if_neg c11, if_neg c14, if_neg c17, if_neg c19, if_neg c21, if_neg c23, if_neg c24, if_neg c29, if_neg c34, if_neg c39, if_neg c40, if_neg c41, if_neg c42, if_neg c43, if_neg c44, if_pos c45])]; exact ⟨by decide, by decide⟩) (by unfold m_X5_count; rw [if_neg c1, if_neg c3, if_neg c6, if_neg c8, if_neg c11, if_neg c14, if_neg c17, if_neg c19, if_neg c21, if_neg c23, if_neg c24, if_neg c29, if_neg c34, if_neg c39, if_neg c40, if_neg c41, if_neg c42, if_neg c43, if_neg c44, if_pos c45]) dX5_count_231
                                        · have h := h.2 c45
                                          by_cases c46 : what = 20
                                          · have h := h.1 c46
                                            refine lv_tableIn (off := 212) (tgt := 213) hx hb dX5_count_1 (by rw [hI_toInt h_what, c46]; decide) (by rw [hI_toInt h_what, c46]; decide) (by rw [hI_toInt h_what, c46]; rfl) (by decide) ?_
                                            refine lv_aload_n hx hb dX5_count_213 rfl (lv_at hl 0 rfl) ?_
                                            refine iv_get (v' := .ref (ad 0 0)) hx hb hts inX5 hown hK hh.1 (ob_X) rfl 0 (by decide) (hts _ q1_182) rfl rfl rfl dX5_count_214 ?_
                                            refine iv_getN (v' := .int (hI ((S 0) 0 2))) hx hb hts inX1 hown hK hh.1 (ob_Font (by decide)) rfl 2 (by decide) (hN _ q1_62) rfl rfl rfl dX5_count_217 ?_
                                            have hm47 : hIn ((S 0) 0 2) := hIn_rd hh.2.1 rfl (by decide)
                                            exact iv_iret E hh (by unfold v_X5_count; rw [if_neg c1, if_neg c3, if_neg c6, if_neg c8, if_neg c11, if_neg c14, if_neg c17, if_neg c19, if_neg c21, if_neg c23, if_neg c24, if_neg c29, if_neg c34, if_neg c39, if_neg c40, if_neg c41, if_neg c42, if_neg c43, if_neg c44, if_neg c45, if_pos c46]) (by rw [← show ((S 0) 0 2) = v_X5_count S what from (by unfold v_X5_count; rw [if_neg c1, if_neg c3, if_neg c6, if_neg c8, if_neg c11, if_neg c14, if_neg c17, if_neg c19, if_neg c21, if_neg c23, if_neg c24, if_neg c29, if_neg c34, if_neg c39, if_neg c40, if_neg c41, if_neg c42, if_neg c43, if_neg c44, if_neg c45, if_pos c46])]; exact hm47) (by unfold m_X5_count; rw [if_neg c1, if_neg c3, if_neg c6, if_neg c8, if_neg c11, if_neg c14, if_neg c17, if_neg c19, if_neg c21, if_neg c23, if_neg c24, if_neg c29, if_neg c34, if_neg c39, if_neg c40, if_neg c41, if_neg c42, if_neg c43, if_neg c44, if_neg c45, if_pos c46]) dX5_count_220
                                          · have h := h.2 c46
                                            by_cases c48 : what = 21
                                            · have h := h.1 c48
                                              refine lv_tableIn (off := 220) (tgt := 221) hx hb dX5_count_1 (by rw [hI_toInt h_what, c48]; decide) (by rw [hI_toInt h_what, c48]; decide) (by rw [hI_toInt h_what, c48]; rfl) (by decide) ?_
                                              refine lv_aload_n hx hb dX5_count_221 rfl (lv_at hl 0 rfl) ?_
                                              refine iv_get (v' := .ref (ad 0 0)) hx hb hts inX5 hown hK hh.1 (ob_X) rfl 0 (by decide) (hts _ q1_182) rfl rfl rfl dX5_count_222 ?_
                                              refine iv_getN (v' := .int (hI ((S 0) 0 3))) hx hb hts inX1 hown hK hh.1 (ob_Font (by decide)) rfl 3 (by decide) (hN _ q1_65) rfl rfl rfl dX5_count_225 ?_
                                              have hm49 : hIn ((S 0) 0 3) := hIn_rd hh.2.1 rfl (by decide)
                                              exact iv_iret E hh (by unfold v_X5_count; rw [if_neg c1, if_neg c3, if_neg c6, if_neg c8, if_neg c11, if_neg c14, if_neg c17, if_neg c19, if_neg c21, if_neg c23, if_neg c24, if_neg c29, if_neg c34, if_neg c39, if_neg c40, if_neg c41, if_neg c42, if_neg c43, if_neg c44, if_neg c45, if_neg c46, if_pos c48]) (by rw [← show ((S 0) 0 3) = v_X5_count S what from (by unfold v_X5_count; rw [if_neg c1, if_neg c3, if_neg c6, if_neg c8, if_neg c11, if_neg c14, if_neg c17, if_neg c19, if_neg c21, if_neg c23, if_neg c24, if_neg c29, if_neg c34, if_neg c39, if_neg c40, if_neg c41, if_neg c42, if_neg c43, if_neg c44, if_neg c45, if_neg c46, if_pos c48])]; exact hm49) (by unfold m_X5_count; rw [if_neg c1, if_neg c3, if_neg c6, if_neg c8, if_neg c11, if_neg c14, if_neg c17, if_neg c19, if_neg c21, if_neg c23, if_neg c24, if_neg c29, if_neg c34, if_neg c39, if_neg c40, if_neg c41, if_neg c42, if_neg c43, if_neg c44, if_neg c45, if_neg c46, if_pos c48]) dX5_count_228
                                            · have h := h.2 c48
                                              refine lv_tableOut (tgt := 229) hx hb dX5_count_1 (by rw [hI_toInt h_what]; exact to_X5_count_1 _ c1 c3 c6 c8 c11 c14 c17 c19 c21 c23 c24 c29 c34 c39 c40 c41 c42 c43 c44 c45 c46 c48) (by decide) ?_
                                              refine iv_ldc (n := (-1000001)) hx hb (by decide) hown (hts _ q1_208) dX5_count_229 ?_
                                              exact iv_iret E hh (by unfold v_X5_count; rw [if_neg c1, if_neg c3, if_neg c6, if_neg c8, if_neg c11, if_neg c14, if_neg c17, if_neg c19, if_neg c21, if_neg c23, if_neg c24, if_neg c29, if_neg c34, if_neg c39, if_neg c40, if_neg c41, if_neg c42, if_neg c43, if_neg c44, if_neg c45, if_neg c46, if_neg c48]) (by rw [← show (-1000001) = v_X5_count S what from (by unfold v_X5_count; rw [if_neg c1, if_neg c3, if_neg c6, if_neg c8, if_neg c11, if_neg c14, if_neg c17, if_neg c19, if_neg c21, if_neg c23, if_neg c24, if_neg c29, if_neg c34, if_neg c39, if_neg c40, if_neg c41, if_neg c42, if_neg c43, if_neg c44, if_neg c45, if_neg c46, if_neg c48])]; exact ⟨by decide, by decide⟩) (by unfold m_X5_count; rw [if_neg c1, if_neg c3, if_neg c6, if_neg c8, if_neg c11, if_neg c14, if_neg c17, if_neg c19, if_neg c21, if_neg c23, if_neg c24, if_neg c29, if_neg c34, if_neg c39, if_neg c40, if_neg c41, if_neg c42, if_neg c43, if_neg c44, if_neg c45, if_neg c46, if_neg c48]) dX5_count_231
end

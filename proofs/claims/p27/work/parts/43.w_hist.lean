section
variable {D : va_G} {ad : Nat → Nat → Nat} {cI cJ cF : ClassId}
set_option maxHeartbeats 4000000 in
set_option maxRecDepth 100000 in
theorem ok_X2_slotAt (l : Launch) (hinj : hInj ad) (S : hS) (age : Int) (h_age : hIn age) (hp : p_X2_slotAt S age) : hMr D ad cI cJ cF l yX2_slotAt cX2_slotAt 3 (some (.object "HintedStems$Font")) ({ frames := 1, cells := 0, slots := 0, locals := 22 } : Room) [.ref (ad 9 0), .int (hI age)] S (2 + (v_X2_slotAt S age).toNat) 0 S := by
  refine hOf (S := S) l hinj (by decide +kernel) (Nat.le_of_ble_eq_true rfl) (fun p e s m args below meth c E => ?_)
  obtain ⟨hx, hb, hml, hown, hts, hK, hN, -, hr, hlk, hz⟩ := id E
  have hown : s.vm.findClass RX2 = some m.cls := hown
  intro H locs ls hh hl
  have hl : lv_has ls 3 [(0, .ref (ad 9 0)), (1, .int (hI age))] := hl
  have h := hp
  unfold p_X2_slotAt at h
  refine lv_aload_n hx hb dX2_slotAt_0 rfl (lv_at hl 0 rfl) ?_
  refine iv_get (v' := .int (hI ((S 9) 0 1))) hx hb hts inX2 hown hK hh.1 (ob_Hist) rfl 1 (by decide) (hts _ q1_172) rfl rfl rfl dX2_slotAt_1 ?_
  have hm1 : hIn ((S 9) 0 1) := hIn_rd hh.2.1 rfl (by decide)
  refine lv_iload_n hx hb dX2_slotAt_4 rfl (lv_at hl 1 rfl) ?_
  refine iv_iadd hx hb dX2_slotAt_5 ?_
  refine iv_iconst hx hb dX2_slotAt_6 ?_
  obtain ⟨g2, h⟩ := h
  obtain ⟨g3, h⟩ := h
  refine iv_ki (iv_rS (As := [.int (hI (((S 9) 0 1) + age)), .int (hI 5)]) (rest := []) E hh (ok_J9_floorMod_7cf53 l hinj S (((S 9) 0 1) + age) 5 g2 ⟨by decide, by decide⟩ g3) cb_J9_floorMod_7cf53 q2_96 rfl rfl ⟨Nat.le_of_ble_eq_true rfl, Nat.le_of_ble_eq_true rfl⟩ rfl hl.1 rfl (Nat.le_of_ble_eq_true rfl) dX2_slotAt_7 ⟨Nat.zero_le _, Nat.zero_le _⟩) hh (fun hc4 H locs hh => ?_)
  refine lv_istore_n (lv' := [(2, .int (hI (v_J9_floorMod_7cf53 (((S 9) 0 1) + age) 5))), (0, .ref (ad 9 0)), (1, .int (hI age))]) hx hb dX2_slotAt_10 rfl hl (by decide) rfl (fun ls hl => ?_)
  refine lv_iload_n hx hb dX2_slotAt_11 rfl (lv_at hl 0 rfl) ?_
  obtain ⟨g5, h⟩ := h
  refine iv_if_lt (tgt := 33) hx hb hc4 dX2_slotAt_12 (by decide) (fun c6 => ?_) (fun c6 => ?_)
  · exact absurd c6 g5
  · refine lv_iload_n hx hb dX2_slotAt_15 rfl (lv_at hl 0 rfl) ?_
    refine lv_aload_n hx hb dX2_slotAt_16 rfl (lv_at hl 1 rfl) ?_
    refine iv_get (v' := .ref (ad 9 1)) hx hb hts inX2 hown hK hh.1 (ob_Hist) rfl 0 (by decide) (hts _ q1_171) rfl rfl rfl dX2_slotAt_17 ?_
    refine va_alen (v := hI 5) hx hb hK hh.1 99 2 (hW_at (g := 9) (i := 1) (h112 (by decide)) rfl) rfl rfl dX2_slotAt_20 ?_
    obtain ⟨g7, h⟩ := h
    refine iv_icmp_ge (tgt := 33) hx hb hc4 ⟨by decide, by decide⟩ dX2_slotAt_21 (by decide) (fun c8 => ?_) (fun c8 => ?_)
    · exact absurd g7 c8
    · refine lv_aload_n hx hb dX2_slotAt_24 rfl (lv_at hl 1 rfl) ?_
      refine iv_get (v' := .ref (ad 9 1)) hx hb hts inX2 hown hK hh.1 (ob_Hist) rfl 0 (by decide) (hts _ q1_171) rfl rfl rfl dX2_slotAt_25 ?_
      refine lv_iload_n hx hb dX2_slotAt_28 rfl (lv_at hl 0 rfl) ?_
      refine iv_aald hx hb hK hh.1 ⟨Int.not_lt.mp g5, g7⟩ dX2_slotAt_29 ?_
      refine lv_goto (tgt := 34) hx hb dX2_slotAt_30 (by decide) ?_
      exact iv_rret E (Or.inl ⟨_, rfl⟩) hh rfl dX2_slotAt_34
set_option maxHeartbeats 4000000 in
set_option maxRecDepth 100000 in
theorem ok_X2_note (l : Launch) (hinj : hInj ad) (S : hS) {j : Nat} (hj : j < 2) (hp : p_X2_note S j) : hMv D ad cI cJ cF l yX2_note cX2_note 3 ({ frames := 3, cells := 0, slots := 0, locals := 65 } : Room) [.ref (ad 9 0), .ref (ad j 0)] S (m_X2_note S j) := by
  refine hOf (S := S) l hinj (by decide +kernel) (Nat.le_of_ble_eq_true rfl) (fun p e s m args below meth c E => ?_)
  obtain ⟨hx, hb, hml, hown, hts, hK, hN, -, hr, hlk, hz⟩ := id E
  have hown : s.vm.findClass RX2 = some m.cls := hown
  intro H locs ls hh hl
  have hl : lv_has ls 3 [(0, .ref (ad 9 0)), (1, .ref (ad j 0))] := hl
  have h := hp
  unfold p_X2_note at h
  refine lv_aload_n hx hb dX2_note_0 rfl (lv_at hl 0 rfl) ?_
  refine lv_aload_n hx hb dX2_note_1 rfl (lv_at hl 0 rfl) ?_
  refine iv_get (v' := .int (hI ((S 9) 0 2))) hx hb hts inX2 hown hK hh.1 (ob_Hist) rfl 2 (by decide) (hts _ q1_173) rfl rfl rfl dX2_note_2 ?_
  have hm1 : hIn ((S 9) 0 2) := hIn_rd hh.2.1 rfl (by decide)
  obtain ⟨g2, h⟩ := h
  refine iv_kr (iv_rV (As := [.int (hI ((S 9) 0 2))]) (rest := []) E hh (ok_X2_slotAt l hinj S ((S 9) 0 2) hm1 g2) cb_X2_slotAt q2_92 rfl rfl ⟨Nat.le_of_ble_eq_true rfl, Nat.le_of_ble_eq_true rfl⟩ (ob_Hist) rfl rfl rfl hl.1 rfl (Nat.le_of_ble_eq_true rfl) dX2_note_5 ⟨Nat.zero_le _, Nat.zero_le _⟩) hh (fun H locs hh => ?_)
  obtain ⟨g3, h⟩ := h
  refine lv_astore_n (lv' := [(2, .ref (ad (2 + (v_X2_slotAt S ((S 9) 0 2)).toNat) 0)), (0, .ref (ad 9 0)), (1, .ref (ad j 0))]) hx hb dX2_note_8 rfl hl (by decide) rfl (fun ls hl => ?_)
  refine lv_aload_n hx hb dX2_note_9 rfl (lv_at hl 0 rfl) ?_
  refine lv_ifnull hx hb dX2_note_10 ?_
  refine lv_aload_n hx hb dX2_note_13 rfl (lv_at hl 0 rfl) ?_
  refine lv_aload_n hx hb dX2_note_14 rfl (lv_at hl 2 rfl) ?_
  obtain ⟨g4, h⟩ := h
  refine iv_kv (iv_rV (As := [.ref (ad j 0)]) (rest := []) E hh (ok_X1_copy l hinj S (by omega) (by omega) (by omega) (S (2 + (v_X2_slotAt S ((S 9) 0 2)).toNat)) rfl (S j) rfl g4) cb_X1_copy q2_99 rfl rfl ⟨Nat.le_of_ble_eq_true rfl, Nat.le_of_ble_eq_true rfl⟩ (ob_Font (by omega)) rfl rfl rfl hl.1 rfl (Nat.le_of_ble_eq_true rfl) dX2_note_15 ⟨Nat.zero_le _, Nat.zero_le _⟩) hh (fun H locs hh => ?_)
  exact iv_vret E hh rfl dX2_note_18
set_option maxHeartbeats 4000000 in
set_option maxRecDepth 100000 in
theorem ok_X2_keep (l : Launch) (hinj : hInj ad) (S : hS) (hp : p_X2_keep S) : hMv D ad cI cJ cF l yX2_keep cX2_keep 1 ({ frames := 0, cells := 0, slots := 0, locals := 0 } : Room) [.ref (ad 9 0)] S (m_X2_keep S) := by
  refine hOf (S := S) l hinj (by decide +kernel) (Nat.le_of_ble_eq_true rfl) (fun p e s m args below meth c E => ?_)
  obtain ⟨hx, hb, hml, hown, hts, hK, hN, -, hr, hlk, hz⟩ := id E
  have hown : s.vm.findClass RX2 = some m.cls := hown
  intro H locs ls hh hl
  have hl : lv_has ls 1 [(0, .ref (ad 9 0))] := hl
  have h := hp
  unfold p_X2_keep at h
  refine lv_aload_n hx hb dX2_keep_0 rfl (lv_at hl 0 rfl) ?_
  refine iv_get (v' := .int (hI ((S 9) 0 2))) hx hb hts inX2 hown hK hh.1 (ob_Hist) rfl 2 (by decide) (hts _ q1_173) rfl rfl rfl dX2_keep_1 ?_
  have hm1 : hIn ((S 9) 0 2) := hIn_rd hh.2.1 rfl (by decide)
  refine iv_iconst hx hb dX2_keep_4 ?_
  refine iv_icmp_ge (tgt := 21) hx hb hm1 ⟨by decide, by decide⟩ dX2_keep_5 (by decide) (fun c2 => ?_) (fun c2 => ?_)
  · have h := h.2 c2
    refine lv_aload_n hx hb dX2_keep_21 rfl (lv_at hl 0 rfl) ?_
    refine lv_aload_n hx hb dX2_keep_22 rfl (lv_at hl 0 rfl) ?_
    refine iv_get (v' := .int (hI ((S 9) 0 1))) hx hb hts inX2 hown hK hh.1 (ob_Hist) rfl 1 (by decide) (hts _ q1_172) rfl rfl rfl dX2_keep_23 ?_
    have hm3 : hIn ((S 9) 0 1) := hIn_rd hh.2.1 rfl (by decide)
    refine iv_iconst hx hb dX2_keep_26 ?_
    refine iv_iadd hx hb dX2_keep_27 ?_
    refine iv_iconst hx hb dX2_keep_28 ?_
    obtain ⟨g4, h⟩ := h
    obtain ⟨g5, h⟩ := h
    refine iv_irem hx hb g4 g5 ⟨by decide, by decide⟩ (by decide) dX2_keep_29 ?_
    obtain ⟨g6, h⟩ := h
    refine iv_put (S' := (gset S 9 (aset (S 9) 0 1 ((((S 9) 0 1) + 1) % 5)))) (ty := .int) hx hb hts inX2 tyX2 tyX2_ok nmX2 hown hK hinj hh (h112 (by decide)) un_Hist (Or.inl rfl) (ob_Hist) rfl 1 (by decide) (hts _ q1_172) rfl rfl (by decide +kernel) rfl rfl (Nat.le_of_ble_eq_true rfl) (pu_Hist_oldest) (Or.inl g6) rfl dX2_keep_30 (fun H locs hh => ?_)
    exact iv_vret E hh (by unfold m_X2_keep; rw [if_neg c2]) dX2_keep_33
  · have h := h.1 c2
    refine lv_aload_n hx hb dX2_keep_8 rfl (lv_at hl 0 rfl) ?_
    refine lv_dup hx hb dX2_keep_9 rfl ?_
    refine iv_get (v' := .int (hI ((S 9) 0 2))) hx hb hts inX2 hown hK hh.1 (ob_Hist) rfl 2 (by decide) (hts _ q1_173) rfl rfl rfl dX2_keep_10 ?_
    have hm7 : hIn ((S 9) 0 2) := hIn_rd hh.2.1 rfl (by decide)
    refine iv_iconst hx hb dX2_keep_13 ?_
    refine iv_iadd hx hb dX2_keep_14 ?_
    obtain ⟨g8, h⟩ := h
    refine iv_put (S' := (gset S 9 (aset (S 9) 0 2 (((S 9) 0 2) + 1)))) (ty := .int) hx hb hts inX2 tyX2 tyX2_ok nmX2 hown hK hinj hh (h112 (by decide)) un_Hist (Or.inl rfl) (ob_Hist) rfl 2 (by decide) (hts _ q1_173) rfl rfl (by decide +kernel) rfl rfl (Nat.le_of_ble_eq_true rfl) (pu_Hist_kept) (Or.inl g8) rfl dX2_keep_15 (fun H locs hh => ?_)
    refine lv_goto (tgt := 33) hx hb dX2_keep_18 (by decide) ?_
    exact iv_vret E hh (by unfold m_X2_keep; rw [if_pos c2]) dX2_keep_33
end

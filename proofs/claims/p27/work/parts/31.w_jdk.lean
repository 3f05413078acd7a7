section
variable {D : va_G} {ad : Nat → Nat → Nat} {cI cJ cF : ClassId}
set_option maxHeartbeats 4000000 in
set_option maxRecDepth 100000 in
theorem ok_J9_floorDiv_7cf53 (l : Launch) (hinj : hInj ad) (S : hS) (x1 : Int) (x2 : Int) (h_x1 : hIn x1) (h_x2 : hIn x2) (hp : p_J9_floorDiv_7cf53 x1 x2) : hMi D ad cI cJ cF l yJ9_floorDiv_7cf53 cJ9_floorDiv_7cf53 3 (some .int) ({ frames := 0, cells := 0, slots := 0, locals := 0 } : Room) [.int (hI x1), .int (hI x2)] S (v_J9_floorDiv_7cf53 x1 x2) S := by
  refine hOfF (S := S) l hinj (by decide +kernel) (Nat.le_of_ble_eq_true rfl) (fun p e s m args below meth c E => ?_)
  obtain ⟨hx, hb, hml, hown, hts, hK, hN, -, hr, hlk, hz⟩ := id E
  have hown : s.vm.findClass RJ9 = some m.cls := hown
  intro H locs ls hh hl
  have hl : lv_has ls 3 [(0, .int (hI x1)), (1, .int (hI x2))] := hl
  have h := hp
  unfold p_J9_floorDiv_7cf53 at h
  refine lv_iload_n hx hb dJ9_floorDiv_7cf53_0 rfl (lv_at hl 0 rfl) ?_
  refine lv_iload_n hx hb dJ9_floorDiv_7cf53_1 rfl (lv_at hl 1 rfl) ?_
  obtain ⟨g1, h⟩ := h
  refine iv_idivT hx hb h_x1 h_x2 g1 dJ9_floorDiv_7cf53_2 ?_
  refine lv_istore_n (lv' := [(2, .int (hI (Int.tdiv x1 x2))), (0, .int (hI x1)), (1, .int (hI x2))]) hx hb dJ9_floorDiv_7cf53_3 rfl hl (by decide) rfl (fun ls hl => ?_)
  refine lv_iload_n hx hb dJ9_floorDiv_7cf53_4 rfl (lv_at hl 1 rfl) ?_
  refine lv_iload_n hx hb dJ9_floorDiv_7cf53_5 rfl (lv_at hl 2 rfl) ?_
  refine iv_ixor hx hb dJ9_floorDiv_7cf53_6 ?_
  refine iv_if_ge (tgt := 21) hx hb (hIn_toInt _) dJ9_floorDiv_7cf53_7 (by decide) (fun c2 => ?_) (fun c2 => ?_)
  · have h := h.2 c2
    refine lv_iload_n hx hb dJ9_floorDiv_7cf53_21 rfl (lv_at hl 0 rfl) ?_
    obtain ⟨g3, h⟩ := h
    exact iv_iret E hh (by unfold v_J9_floorDiv_7cf53; rw [if_neg c2]) (by rw [← show (Int.tdiv x1 x2) = v_J9_floorDiv_7cf53 x1 x2 from (by unfold v_J9_floorDiv_7cf53; rw [if_neg c2])]; exact g3) rfl dJ9_floorDiv_7cf53_22
  · have h := h.1 c2
    refine lv_iload_n hx hb dJ9_floorDiv_7cf53_10 rfl (lv_at hl 0 rfl) ?_
    refine lv_iload_n hx hb dJ9_floorDiv_7cf53_11 rfl (lv_at hl 2 rfl) ?_
    refine iv_imul hx hb dJ9_floorDiv_7cf53_12 ?_
    refine lv_iload_n hx hb dJ9_floorDiv_7cf53_13 rfl (lv_at hl 1 rfl) ?_
    obtain ⟨g4, h⟩ := h
    refine iv_icmp_eq (tgt := 21) hx hb g4 h_x1 dJ9_floorDiv_7cf53_14 (by decide) (fun c5 => ?_) (fun c5 => ?_)
    · have h := h.1 c5
      refine lv_iload_n hx hb dJ9_floorDiv_7cf53_21 rfl (lv_at hl 0 rfl) ?_
      obtain ⟨g6, h⟩ := h
      exact iv_iret E hh (by unfold v_J9_floorDiv_7cf53; rw [if_pos c2, if_pos c5]) (by rw [← show (Int.tdiv x1 x2) = v_J9_floorDiv_7cf53 x1 x2 from (by unfold v_J9_floorDiv_7cf53; rw [if_pos c2, if_pos c5])]; exact g6) rfl dJ9_floorDiv_7cf53_22
    · have h := h.2 c5
      refine lv_iload_n hx hb dJ9_floorDiv_7cf53_17 rfl (lv_at hl 0 rfl) ?_
      refine iv_iconst hx hb dJ9_floorDiv_7cf53_18 ?_
      refine iv_isub hx hb dJ9_floorDiv_7cf53_19 ?_
      obtain ⟨g7, h⟩ := h
      exact iv_iret E hh (by unfold v_J9_floorDiv_7cf53; rw [if_pos c2, if_neg c5]) (by rw [← show ((Int.tdiv x1 x2) - 1) = v_J9_floorDiv_7cf53 x1 x2 from (by unfold v_J9_floorDiv_7cf53; rw [if_pos c2, if_neg c5])]; exact g7) rfl dJ9_floorDiv_7cf53_20
set_option maxHeartbeats 4000000 in
set_option maxRecDepth 100000 in
theorem ok_J9_floorMod_7cf53 (l : Launch) (hinj : hInj ad) (S : hS) (x1 : Int) (x2 : Int) (h_x1 : hIn x1) (h_x2 : hIn x2) (hp : p_J9_floorMod_7cf53 x1 x2) : hMi D ad cI cJ cF l yJ9_floorMod_7cf53 cJ9_floorMod_7cf53 3 (some .int) ({ frames := 0, cells := 0, slots := 0, locals := 0 } : Room) [.int (hI x1), .int (hI x2)] S (v_J9_floorMod_7cf53 x1 x2) S := by
  refine hOfF (S := S) l hinj (by decide +kernel) (Nat.le_of_ble_eq_true rfl) (fun p e s m args below meth c E => ?_)
  obtain ⟨hx, hb, hml, hown, hts, hK, hN, -, hr, hlk, hz⟩ := id E
  have hown : s.vm.findClass RJ9 = some m.cls := hown
  intro H locs ls hh hl
  have hl : lv_has ls 3 [(0, .int (hI x1)), (1, .int (hI x2))] := hl
  have h := hp
  unfold p_J9_floorMod_7cf53 at h
  refine lv_iload_n hx hb dJ9_floorMod_7cf53_0 rfl (lv_at hl 0 rfl) ?_
  refine lv_iload_n hx hb dJ9_floorMod_7cf53_1 rfl (lv_at hl 1 rfl) ?_
  obtain ⟨g1, h⟩ := h
  refine iv_iremT hx hb h_x1 h_x2 g1 dJ9_floorMod_7cf53_2 ?_
  refine lv_istore_n (lv' := [(2, .int (hI (Int.tmod x1 x2))), (0, .int (hI x1)), (1, .int (hI x2))]) hx hb dJ9_floorMod_7cf53_3 rfl hl (by decide) rfl (fun ls hl => ?_)
  refine lv_iload_n hx hb dJ9_floorMod_7cf53_4 rfl (lv_at hl 1 rfl) ?_
  refine lv_iload_n hx hb dJ9_floorMod_7cf53_5 rfl (lv_at hl 2 rfl) ?_
  refine iv_ixor hx hb dJ9_floorMod_7cf53_6 ?_
  refine iv_if_ge (tgt := 18) hx hb (hIn_toInt _) dJ9_floorMod_7cf53_7 (by decide) (fun c2 => ?_) (fun c2 => ?_)
  · have h := h.2 c2
    refine lv_iload_n hx hb dJ9_floorMod_7cf53_18 rfl (lv_at hl 0 rfl) ?_
    obtain ⟨g3, h⟩ := h
    exact iv_iret E hh (by unfold v_J9_floorMod_7cf53; rw [if_neg c2]) (by rw [← show (Int.tmod x1 x2) = v_J9_floorMod_7cf53 x1 x2 from (by unfold v_J9_floorMod_7cf53; rw [if_neg c2])]; exact g3) rfl dJ9_floorMod_7cf53_19
  · have h := h.1 c2
    refine lv_iload_n hx hb dJ9_floorMod_7cf53_10 rfl (lv_at hl 0 rfl) ?_
    obtain ⟨g4, h⟩ := h
    refine iv_if_eq (tgt := 18) hx hb g4 dJ9_floorMod_7cf53_11 (by decide) (fun c5 => ?_) (fun c5 => ?_)
    · have h := h.1 c5
      refine lv_iload_n hx hb dJ9_floorMod_7cf53_18 rfl (lv_at hl 0 rfl) ?_
      exact iv_iret E hh (by unfold v_J9_floorMod_7cf53; rw [if_pos c2, if_pos c5]) (by rw [← show (Int.tmod x1 x2) = v_J9_floorMod_7cf53 x1 x2 from (by unfold v_J9_floorMod_7cf53; rw [if_pos c2, if_pos c5])]; exact g4) rfl dJ9_floorMod_7cf53_19
    · have h := h.2 c5
      refine lv_iload_n hx hb dJ9_floorMod_7cf53_14 rfl (lv_at hl 0 rfl) ?_
      refine lv_iload_n hx hb dJ9_floorMod_7cf53_15 rfl (lv_at hl 2 rfl) ?_
      refine iv_iadd hx hb dJ9_floorMod_7cf53_16 ?_
      obtain ⟨g6, h⟩ := h
      exact iv_iret E hh (by unfold v_J9_floorMod_7cf53; rw [if_pos c2, if_neg c5]) (by rw [← show ((Int.tmod x1 x2) + x2) = v_J9_floorMod_7cf53 x1 x2 from (by unfold v_J9_floorMod_7cf53; rw [if_pos c2, if_neg c5])]; exact g6) rfl dJ9_floorMod_7cf53_17
set_option maxHeartbeats 4000000 in
set_option maxRecDepth 100000 in
theorem ok_J9_abs_0f7a4 (l : Launch) (hinj : hInj ad) (S : hS) (x1 : Int) (h_x1 : hIn x1) (hp : p_J9_abs_0f7a4 x1) : hMi D ad cI cJ cF l yJ9_abs_0f7a4 cJ9_abs_0f7a4 1 (some .int) ({ frames := 0, cells := 0, slots := 0, locals := 0 } : Room) [.int (hI x1)] S (v_J9_abs_0f7a4 x1) S := by
  refine hOfF (S := S) l hinj (by decide +kernel) (Nat.le_of_ble_eq_true rfl) (fun p e s m args below meth c E => ?_)
  obtain ⟨hx, hb, hml, hown, hts, hK, hN, -, hr, hlk, hz⟩ := id E
  have hown : s.vm.findClass RJ9 = some m.cls := hown
  intro H locs ls hh hl
  have hl : lv_has ls 1 [(0, .int (hI x1))] := hl
  have h := hp
  unfold p_J9_abs_0f7a4 at h
  refine lv_iload_n hx hb dJ9_abs_0f7a4_0 rfl (lv_at hl 0 rfl) ?_
  refine iv_if_ge (tgt := 9) hx hb h_x1 dJ9_abs_0f7a4_1 (by decide) (fun c1 => ?_) (fun c1 => ?_)
  · have h := h.2 c1
    refine lv_iload_n hx hb dJ9_abs_0f7a4_9 rfl (lv_at hl 0 rfl) ?_
    exact iv_iret E hh (by unfold v_J9_abs_0f7a4; rw [if_neg c1]) (by rw [← show x1 = v_J9_abs_0f7a4 x1 from (by unfold v_J9_abs_0f7a4; rw [if_neg c1])]; exact h_x1) rfl dJ9_abs_0f7a4_10
  · have h := h.1 c1
    refine lv_iload_n hx hb dJ9_abs_0f7a4_4 rfl (lv_at hl 0 rfl) ?_
    refine iv_ineg hx hb dJ9_abs_0f7a4_5 ?_
    refine lv_goto (tgt := 10) hx hb dJ9_abs_0f7a4_6 (by decide) ?_
    obtain ⟨g2, h⟩ := h
    exact iv_iret E hh (by unfold v_J9_abs_0f7a4; rw [if_pos c1]) (by rw [← show (-x1) = v_J9_abs_0f7a4 x1 from (by unfold v_J9_abs_0f7a4; rw [if_pos c1])]; exact g2) rfl dJ9_abs_0f7a4_10
set_option maxHeartbeats 4000000 in
set_option maxRecDepth 100000 in
theorem ok_J9_max_7cf53 (l : Launch) (hinj : hInj ad) (S : hS) (x1 : Int) (x2 : Int) (h_x1 : hIn x1) (h_x2 : hIn x2) : hMi D ad cI cJ cF l yJ9_max_7cf53 cJ9_max_7cf53 2 (some .int) ({ frames := 0, cells := 0, slots := 0, locals := 0 } : Room) [.int (hI x1), .int (hI x2)] S (v_J9_max_7cf53 x1 x2) S := by
  refine hOfF (S := S) l hinj (by decide +kernel) (Nat.le_of_ble_eq_true rfl) (fun p e s m args below meth c E => ?_)
  obtain ⟨hx, hb, hml, hown, hts, hK, hN, -, hr, hlk, hz⟩ := id E
  have hown : s.vm.findClass RJ9 = some m.cls := hown
  intro H locs ls hh hl
  have hl : lv_has ls 2 [(0, .int (hI x1)), (1, .int (hI x2))] := hl
  refine lv_iload_n hx hb dJ9_max_7cf53_0 rfl (lv_at hl 0 rfl) ?_
  refine lv_iload_n hx hb dJ9_max_7cf53_1 rfl (lv_at hl 1 rfl) ?_
  refine iv_icmp_lt (tgt := 9) hx hb h_x1 h_x2 dJ9_max_7cf53_2 (by decide) (fun c1 => ?_) (fun c1 => ?_)
  · refine lv_iload_n hx hb dJ9_max_7cf53_9 rfl (lv_at hl 1 rfl) ?_
    exact iv_iret E hh (by unfold v_J9_max_7cf53; rw [if_pos c1]) (by rw [← show x2 = v_J9_max_7cf53 x1 x2 from (by unfold v_J9_max_7cf53; rw [if_pos c1])]; exact h_x2) rfl dJ9_max_7cf53_10
  · refine lv_iload_n hx hb dJ9_max_7cf53_5 rfl (lv_at hl 0 rfl) ?_
    refine lv_goto (tgt := 10) hx hb dJ9_max_7cf53_6 (by decide) ?_
    exact iv_iret E hh (by unfold v_J9_max_7cf53; rw [if_neg c1]) (by rw [← show x1 = v_J9_max_7cf53 x1 x2 from (by unfold v_J9_max_7cf53; rw [if_neg c1])]; exact h_x1) rfl dJ9_max_7cf53_10
set_option maxHeartbeats 4000000 in
set_option maxRecDepth 100000 in
theorem ok_J9_min_7cf53 (l : Launch) (hinj : hInj ad) (S : hS) (x1 : Int) (x2 : Int) (h_x1 : hIn x1) (h_x2 : hIn x2) : hMi D ad cI cJ cF l yJ9_min_7cf53 cJ9_min_7cf53 2 (some .int) ({ frames := 0, cells := 0, slots := 0, locals := 0 } : Room) [.int (hI x1), .int (hI x2)] S (v_J9_min_7cf53 x1 x2) S := by
  refine hOfF (S := S) l hinj (by decide +kernel) (Nat.le_of_ble_eq_true rfl) (fun p e s m args below meth c E => ?_)
  obtain ⟨hx, hb, hml, hown, hts, hK, hN, -, hr, hlk, hz⟩ := id E
  have hown : s.vm.findClass RJ9 = some m.cls := hown
  intro H locs ls hh hl
  have hl : lv_has ls 2 [(0, .int (hI x1)), (1, .int (hI x2))] := hl
  refine lv_iload_n hx hb dJ9_min_7cf53_0 rfl (lv_at hl 0 rfl) ?_
  refine lv_iload_n hx hb dJ9_min_7cf53_1 rfl (lv_at hl 1 rfl) ?_
  refine iv_icmp_gt (tgt := 9) hx hb h_x1 h_x2 dJ9_min_7cf53_2 (by decide) (fun c1 => ?_) (fun c1 => ?_)
  · refine lv_iload_n hx hb dJ9_min_7cf53_9 rfl (lv_at hl 1 rfl) ?_
    exact iv_iret E hh (by unfold v_J9_min_7cf53; rw [if_neg c1]) (by rw [← show x2 = v_J9_min_7cf53 x1 x2 from (by unfold v_J9_min_7cf53; rw [if_neg c1])]; exact h_x2) rfl dJ9_min_7cf53_10
  · refine lv_iload_n hx hb dJ9_min_7cf53_5 rfl (lv_at hl 0 rfl) ?_
    refine lv_goto (tgt := 10) hx hb dJ9_min_7cf53_6 (by decide) ?_
    exact iv_iret E hh (by unfold v_J9_min_7cf53; rw [if_pos c1]) (by rw [← show x1 = v_J9_min_7cf53 x1 x2 from (by unfold v_J9_min_7cf53; rw [if_pos c1])]; exact h_x1) rfl dJ9_min_7cf53_10
set_option maxHeartbeats 4000000 in
set_option maxRecDepth 100000 in
theorem ok_J13_bitCount_95d88 (l : Launch) (hinj : hInj ad) (S : hS) (x1 : Int) : hMi D ad cI cJ cF l yJ13_bitCount_95d88 cJ13_bitCount_95d88 2 (some .int) ({ frames := 0, cells := 0, slots := 0, locals := 0 } : Room) [.long (hJ x1)] S (v_J13_bitCount_95d88 x1) S := by
  refine hOfF (S := S) l hinj (by decide +kernel) (Nat.le_of_ble_eq_true rfl) (fun p e s m args below meth c E => ?_)
  obtain ⟨hx, hb, hml, hown, hts, hK, hN, -, hr, hlk, hz⟩ := id E
  have hown : s.vm.findClass RJ13 = some m.cls := hown
  intro H locs ls hh hl
  have hl : lv_has ls 2 [(0, .long (hJ x1))] := hl
  refine lv_lload_n hx hb dJ13_bitCount_95d88_0 rfl (lv_at hl 0 rfl) ?_
  refine lv_lload_n hx hb dJ13_bitCount_95d88_1 rfl (lv_at hl 0 rfl) ?_
  refine iv_iconst hx hb dJ13_bitCount_95d88_2 ?_
  refine iv_lushr hx hb dJ13_bitCount_95d88_3 ?_
  refine lv_ldc2 (v := hJ 6148914691236517205) hx hb hown (show _ from (by rw [show hJ 6148914691236517205 = (6148914691236517205 : Int64) from by decide +kernel]; exact hts _ q3_63)) dJ13_bitCount_95d88_4 ?_
  refine iv_land hx hb dJ13_bitCount_95d88_7 ?_
  refine iv_lsub hx hb dJ13_bitCount_95d88_8 ?_
  refine lv_lstore_n (lv' := [(0, .long (hJ (x1 - (jAnd (jUshr x1 1) 6148914691236517205))))]) hx hb dJ13_bitCount_95d88_9 rfl hl (by decide) rfl (fun ls hl => ?_)
  refine lv_lload_n hx hb dJ13_bitCount_95d88_10 rfl (lv_at hl 0 rfl) ?_
  refine lv_ldc2 (v := hJ 3689348814741910323) hx hb hown (show _ from (by rw [show hJ 3689348814741910323 = (3689348814741910323 : Int64) from by decide +kernel]; exact hts _ q3_64)) dJ13_bitCount_95d88_11 ?_
  refine iv_land hx hb dJ13_bitCount_95d88_14 ?_
  refine lv_lload_n hx hb dJ13_bitCount_95d88_15 rfl (lv_at hl 0 rfl) ?_
  refine iv_iconst hx hb dJ13_bitCount_95d88_16 ?_
  refine iv_lushr hx hb dJ13_bitCount_95d88_17 ?_
  refine lv_ldc2 (v := hJ 3689348814741910323) hx hb hown (show _ from (by rw [show hJ 3689348814741910323 = (3689348814741910323 : Int64) from by decide +kernel]; exact hts _ q3_64)) dJ13_bitCount_95d88_18 ?_
  refine iv_land hx hb dJ13_bitCount_95d88_21 ?_
  refine iv_ladd hx hb dJ13_bitCount_95d88_22 ?_
  refine lv_lstore_n (lv' := [(0, .long (hJ ((jAnd (x1 - (jAnd (jUshr x1 1) 6148914691236517205)) 3689348814741910323) + (jAnd (jUshr (x1 - (jAnd (jUshr x1 1) 6148914691236517205)) 2) 3689348814741910323))))]) hx hb dJ13_bitCount_95d88_23 rfl hl (by decide) rfl (fun ls hl => ?_)
  refine lv_lload_n hx hb dJ13_bitCount_95d88_24 rfl (lv_at hl 0 rfl) ?_
  refine lv_lload_n hx hb dJ13_bitCount_95d88_25 rfl (lv_at hl 0 rfl) ?_
  refine iv_iconst hx hb dJ13_bitCount_95d88_26 ?_
  refine iv_lushr hx hb dJ13_bitCount_95d88_27 ?_
  refine iv_ladd hx hb dJ13_bitCount_95d88_28 ?_
  refine lv_ldc2 (v := hJ 1085102592571150095) hx hb hown (show _ from (by rw [show hJ 1085102592571150095 = (1085102592571150095 : Int64) from by decide +kernel]; exact hts _ q3_65)) dJ13_bitCount_95d88_29 ?_
  refine iv_land hx hb dJ13_bitCount_95d88_32 ?_
  refine lv_lstore_n (lv' := [(0, .long (hJ (jAnd (((jAnd (x1 - (jAnd (jUshr x1 1) 6148914691236517205)) 3689348814741910323) + (jAnd (jUshr (x1 - (jAnd (jUshr x1 1) 6148914691236517205)) 2) 3689348814741910323)) + (jUshr ((jAnd (x1 - (jAnd (jUshr x1 1) 6148914691236517205)) 3689348814741910323) + (jAnd (jUshr (x1 - (jAnd (jUshr x1 1) 6148914691236517205)) 2) 3689348814741910323)) 4)) 1085102592571150095)))]) hx hb dJ13_bitCount_95d88_33 rfl hl (by decide) rfl (fun ls hl => ?_)
  refine lv_lload_n hx hb dJ13_bitCount_95d88_34 rfl (lv_at hl 0 rfl) ?_
  refine lv_lload_n hx hb dJ13_bitCount_95d88_35 rfl (lv_at hl 0 rfl) ?_
  refine lv_bipush (v := hI 8) hx hb dJ13_bitCount_95d88_36 (by decide) ?_
  refine iv_lushr hx hb dJ13_bitCount_95d88_38 ?_
  refine iv_ladd hx hb dJ13_bitCount_95d88_39 ?_
  refine lv_lstore_n (lv' := [(0, .long (hJ ((jAnd (((jAnd (x1 - (jAnd (jUshr x1 1) 6148914691236517205)) 3689348814741910323) + (jAnd (jUshr (x1 - (jAnd (jUshr x1 1) 6148914691236517205)) 2) 3689348814741910323)) + (jUshr ((jAnd (x1 - (jAnd (jUshr x1 1) 6148914691236517205)) 3689348814741910323) + (jAnd (jUshr (x1 - (jAnd (jUshr x1 1) 6148914691236517205)) 2) 3689348814741910323)) 4)) 1085102592571150095) + (jUshr (jAnd (((jAnd (x1 - (jAnd (jUshr x1 1) 6148914691236517205)) 3689348814741910323) + (jAnd (jUshr (x1 - (jAnd (jUshr x1 1) 6148914691236517205)) 2) 3689348814741910323)) + (jUshr ((jAnd (x1 - (jAnd (jUshr x1 1) 6148914691236517205)) 3689348814741910323) + (jAnd (jUshr (x1 - (jAnd (jUshr x1 1) 6148914691236517205)) 2) 3689348814741910323)) 4)) 1085102592571150095) 8))))]) hx hb dJ13_bitCount_95d88_40 rfl hl (by decide) rfl (fun ls hl => ?_)
  refine lv_lload_n hx hb dJ13_bitCount_95d88_41 rfl (lv_at hl 0 rfl) ?_
  refine lv_lload_n hx hb dJ13_bitCount_95d88_42 rfl (lv_at hl 0 rfl) ?_
  refine lv_bipush (v := hI 16) hx hb dJ13_bitCount_95d88_43 (by decide) ?_
  refine iv_lushr hx hb dJ13_bitCount_95d88_45 ?_
  refine iv_ladd hx hb dJ13_bitCount_95d88_46 ?_
  refine lv_lstore_n (lv' := [(0, .long (hJ (((jAnd (((jAnd (x1 - (jAnd (jUshr x1 1) 6148914691236517205)) 3689348814741910323) + (jAnd (jUshr (x1 - (jAnd (jUshr x1 1) 6148914691236517205)) 2) 3689348814741910323)) + (jUshr ((jAnd (x1 - (jAnd (jUshr x1 1) 6148914691236517205)) 3689348814741910323) + (jAnd (jUshr (x1 - (jAnd (jUshr x1 1) 6148914691236517205)) 2) 3689348814741910323)) 4)) 1085102592571150095) + (jUshr (jAnd (((jAnd (x1 - (jAnd (jUshr x1 1) 6148914691236517205)) 3689348814741910323) + (jAnd (jUshr (x1 - (jAnd (jUshr x1 1) 6148914691236517205)) 2) 3689348814741910323)) + (jUshr ((jAnd (x1 - (jAnd (jUshr x1 1) 6148914691236517205)) 3689348814741910323) + (jAnd (jUshr (x1 - (jAnd (jUshr x1 1) 6148914691236517205)) 2) 3689348814741910323)) 4)) 1085102592571150095) 8)) + (jUshr ((jAnd (((jAnd (x1 - (jAnd (jUshr x1 1) 6148914691236517205)) 3689348814741910323) + (jAnd (jUshr (x1 - (jAnd (jUshr x1 1) 6148914691236517205)) 2) 3689348814741910323)) + (jUshr ((jAnd (x1 - (jAnd (jUshr x1 1) 6148914691236517205)) 3689348814741910323) + (jAnd (jUshr (x1 - (jAnd (jUshr x1 1) 6148914691236517205)) 2) 3689348814741910323)) 4)) 1085102592571150095) + (jUshr (jAnd (((jAnd (x1 - (jAnd (jUshr x1 1) 6148914691236517205)) 3689348814741910323) + (jAnd (jUshr (x1 - (jAnd (jUshr x1 1) 6148914691236517205)) 2) 3689348814741910323)) + (jUshr ((jAnd (x1 - (jAnd (jUshr x1 1) 6148914691236517205)) 3689348814741910323) + (jAnd (jUshr (x1 - (jAnd (jUshr x1 1) 6148914691236517205)) 2) 3689348814741910323)) 4)) 1085102592571150095) 8)) 16))))]) hx hb dJ13_bitCount_95d88_47 rfl hl (by decide) rfl (fun ls hl => ?_)
  refine lv_lload_n hx hb dJ13_bitCount_95d88_48 rfl (lv_at hl 0 rfl) ?_
  refine lv_lload_n hx hb dJ13_bitCount_95d88_49 rfl (lv_at hl 0 rfl) ?_
  refine lv_bipush (v := hI 32) hx hb dJ13_bitCount_95d88_50 (by decide) ?_
  refine iv_lushr hx hb dJ13_bitCount_95d88_52 ?_
  refine iv_ladd hx hb dJ13_bitCount_95d88_53 ?_
  refine lv_lstore_n (lv' := [(0, .long (hJ ((((jAnd (((jAnd (x1 - (jAnd (jUshr x1 1) 6148914691236517205)) 3689348814741910323) + (jAnd (jUshr (x1 - (jAnd (jUshr x1 1) 6148914691236517205)) 2) 3689348814741910323)) + (jUshr ((jAnd (x1 - (jAnd (jUshr x1 1) 6148914691236517205)) 3689348814741910323) + (jAnd (jUshr (x1 - (jAnd (jUshr x1 1) 6148914691236517205)) 2) 3689348814741910323)) 4)) 1085102592571150095) + (jUshr (jAnd (((jAnd (x1 - (jAnd (jUshr x1 1) 6148914691236517205)) 3689348814741910323) + (jAnd (jUshr (x1 - (jAnd (jUshr x1 1) 6148914691236517205)) 2) 3689348814741910323)) + (jUshr ((jAnd (x1 - (jAnd (jUshr x1 1) 6148914691236517205)) 3689348814741910323) + (jAnd (jUshr (x1 - (jAnd (jUshr x1 1) 6148914691236517205)) 2) 3689348814741910323)) 4)) 1085102592571150095) 8)) + (jUshr ((jAnd (((jAnd (x1 - (jAnd (jUshr x1 1) 6148914691236517205)) 3689348814741910323) + (jAnd (jUshr (x1 - (jAnd (jUshr x1 1) 6148914691236517205)) 2) 3689348814741910323)) + (jUshr ((jAnd (x1 - (jAnd (jUshr x1 1) 6148914691236517205)) 3689348814741910323) + (jAnd (jUshr (x1 - (jAnd (jUshr x1 1) 6148914691236517205)) 2) 3689348814741910323)) 4)) 1085102592571150095) + (jUshr (jAnd (((jAnd (x1 - (jAnd (jUshr x1 1) 6148914691236517205)) 3689348814741910323) + (jAnd (jUshr (x1 - (jAnd (jUshr x1 1) 6148914691236517205)) 2) 3689348814741910323)) + (jUshr ((jAnd (x1 - (jAnd (jUshr x1 1) 6148914691236517205)) 3689348814741910323) + (jAnd (jUshr (x1 - (jAnd (jUshr x1 1) 6148914691236517205)) 2) 3689348814741910323)) 4)) 1085102592571150095) 8)) 16)) + (jUshr (((jAnd (((jAnd (x1 - (jAnd (jUshr x1 1) 6148914691236517205)) 3689348814741910323) + (jAnd (jUshr (x1 - (jAnd (jUshr x1 1) 6148914691236517205)) 2) 3689348814741910323)) + (jUshr ((jAnd (x1 - (jAnd (jUshr x1 1) 6148914691236517205)) 3689348814741910323) + (jAnd (jUshr (x1 - (jAnd (jUshr x1 1) 6148914691236517205)) 2) 3689348814741910323)) 4)) 1085102592571150095) + (jUshr (jAnd (((jAnd (x1 - (jAnd (jUshr x1 1) 6148914691236517205)) 3689348814741910323) + (jAnd (jUshr (x1 - (jAnd (jUshr x1 1) 6148914691236517205)) 2) 3689348814741910323)) + (jUshr ((jAnd (x1 - (jAnd (jUshr x1 1) 6148914691236517205)) 3689348814741910323) + (jAnd (jUshr (x1 - (jAnd (jUshr x1 1) 6148914691236517205)) 2) 3689348814741910323)) 4)) 1085102592571150095) 8)) + (jUshr ((jAnd (((jAnd (x1 - (jAnd (jUshr x1 1) 6148914691236517205)) 3689348814741910323) + (jAnd (jUshr (x1 - (jAnd (jUshr x1 1) 6148914691236517205)) 2) 3689348814741910323)) + (jUshr ((jAnd (x1 - (jAnd (jUshr x1 1) 6148914691236517205)) 3689348814741910323) + (jAnd (jUshr (x1 - (jAnd (jUshr x1 1) 6148914691236517205)) 2) 3689348814741910323)) 4)) 1085102592571150095) + (jUshr (jAnd (((jAnd (x1 - (jAnd (jUshr x1 1) 6148914691236517205)) 3689348814741910323) + (jAnd (jUshr (x1 - (jAnd (jUshr x1 1) 6148914691236517205)) 2) 3689348814741910323)) + (jUshr ((jAnd (x1 - (jAnd (jUshr x1 1) 6148914691236517205)) 3689348814741910323) + (jAnd (jUshr (x1 - (jAnd (jUshr x1 1) 6148914691236517205)) 2) 3689348814741910323)) 4)) 1085102592571150095) 8)) 16)) 32))))]) hx hb dJ13_bitCount_95d88_54 rfl hl (by decide) rfl (fun ls hl => ?_)
  refine lv_lload_n hx hb dJ13_bitCount_95d88_55 rfl (lv_at hl 0 rfl) ?_
  refine iv_l2i hx hb dJ13_bitCount_95d88_56 ?_
  refine lv_bipush (v := hI 127) hx hb dJ13_bitCount_95d88_57 (by decide) ?_
  refine iv_iand hx hb dJ13_bitCount_95d88_59 ?_
  exact iv_iret E hh rfl (by rw [← show (iAnd (jToI ((((jAnd (((jAnd (x1 - (jAnd (jUshr x1 1) 6148914691236517205)) 3689348814741910323) + (jAnd (jUshr (x1 - (jAnd (jUshr x1 1) 6148914691236517205)) 2) 3689348814741910323)) + (jUshr ((jAnd (x1 - (jAnd (jUshr x1 1) 6148914691236517205)) 3689348814741910323) + (jAnd (jUshr (x1 - (jAnd (jUshr x1 1) 6148914691236517205)) 2) 3689348814741910323)) 4)) 1085102592571150095) + (jUshr (jAnd (((jAnd (x1 - (jAnd (jUshr x1 1) 6148914691236517205)) 3689348814741910323) + (jAnd (jUshr (x1 - (jAnd (jUshr x1 1) 6148914691236517205)) 2) 3689348814741910323)) + (jUshr ((jAnd (x1 - (jAnd (jUshr x1 1) 6148914691236517205)) 3689348814741910323) + (jAnd (jUshr (x1 - (jAnd (jUshr x1 1) 6148914691236517205)) 2) 3689348814741910323)) 4)) 1085102592571150095) 8)) + (jUshr ((jAnd (((jAnd (x1 - (jAnd (jUshr x1 1) 6148914691236517205)) 3689348814741910323) + (jAnd (jUshr (x1 - (jAnd (jUshr x1 1) 6148914691236517205)) 2) 3689348814741910323)) + (jUshr ((jAnd (x1 - (jAnd (jUshr x1 1) 6148914691236517205)) 3689348814741910323) + (jAnd (jUshr (x1 - (jAnd (jUshr x1 1) 6148914691236517205)) 2) 3689348814741910323)) 4)) 1085102592571150095) + (jUshr (jAnd (((jAnd (x1 - (jAnd (jUshr x1 1) 6148914691236517205)) 3689348814741910323) + (jAnd (jUshr (x1 - (jAnd (jUshr x1 1) 6148914691236517205)) 2) 3689348814741910323)) + (jUshr ((jAnd (x1 - (jAnd (jUshr x1 1) 6148914691236517205)) 3689348814741910323) + (jAnd (jUshr (x1 - (jAnd (jUshr x1 1) 6148914691236517205)) 2) 3689348814741910323)) 4)) 1085102592571150095) 8)) 16)) + (jUshr (((jAnd (((jAnd (x1 - (jAnd (jUshr x1 1) 6148914691236517205)) 3689348814741910323) + (jAnd (jUshr (x1 - (jAnd (jUshr x1 1) 6148914691236517205)) 2) 3689348814741910323)) + (jUshr ((jAnd (x1 - (jAnd (jUshr x1 1) 6148914691236517205)) 3689348814741910323) + (jAnd (jUshr (x1 - (jAnd (jUshr x1 1) 6148914691236517205)) 2) 3689348814741910323)) 4)) 1085102592571150095) + (jUshr (jAnd (((jAnd (x1 - (jAnd (jUshr x1 1) 6148914691236517205)) 3689348814741910323) + (jAnd (jUshr (x1 - (jAnd (jUshr x1 1) 6148914691236517205)) 2) 3689348814741910323)) + (jUshr ((jAnd (x1 - (jAnd (jUshr x1 1) 6148914691236517205)) 3689348814741910323) + (jAnd (jUshr (x1 - (jAnd (jUshr x1 1) 6148914691236517205)) 2) 3689348814741910323)) 4)) 1085102592571150095) 8)) + (jUshr ((jAnd (((jAnd (x1 - (jAnd (jUshr x1 1) 6148914691236517205)) 3689348814741910323) + (jAnd (jUshr (x1 - (jAnd (jUshr x1 1) 6148914691236517205)) 2) 3689348814741910323)) + (jUshr ((jAnd (x1 - (jAnd (jUshr x1 1) 6148914691236517205)) 3689348814741910323) + (jAnd (jUshr (x1 - (jAnd (jUshr x1 1) 6148914691236517205)) 2) 3689348814741910323)) 4)) 1085102592571150095) + (jUshr (jAnd (((jAnd (x1 - (jAnd (jUshr x1 1) 6148914691236517205)) 3689348814741910323) + (jAnd (jUshr (x1 - (jAnd (jUshr x1 1) 6148914691236517205)) 2) 3689348814741910323)) + (jUshr ((jAnd (x1 - (jAnd (jUshr x1 1) 6148914691236517205)) 3689348814741910323) + (jAnd (jUshr (x1 - (jAnd (jUshr x1 1) 6148914691236517205)) 2) 3689348814741910323)) 4)) 1085102592571150095) 8)) 16)) 32))) 127) = v_J13_bitCount_95d88 x1 from rfl]; exact (hIn_toInt _)) rfl dJ13_bitCount_95d88_60
end

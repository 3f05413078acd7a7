section
variable {D : va_G} {ad : Nat → Nat → Nat} {cI cJ cF : ClassId}
set_option maxHeartbeats 4000000 in
set_option maxRecDepth 100000 in
theorem ok_L_low (l : Launch) (hinj : hInj ad) (S : hS) (v1 : Int) (n1 : Int) (h_v1 : hIn v1) (h_n1 : hIn n1) (hp : p_L_low v1 n1) : hMi D ad cI cJ cF l yL_low cL_low 2 (some .int) ({ frames := 0, cells := 0, slots := 0, locals := 0 } : Room) [.int (hI v1), .int (hI n1)] S (v_L_low v1 n1) S := by
  refine hOf (S := S) l hinj (by decide +kernel) (Nat.le_of_ble_eq_true rfl) (fun p e s m args below meth c E => ?_)
  obtain ⟨hx, hb, hml, hown, hts, hK, hN, -, hr, hlk, hz⟩ := id E
  have hown : s.vm.findClass RL = some m.cls := hown
  intro H locs ls hh hl
  have hl : lv_has ls 2 [(0, .int (hI v1)), (1, .int (hI n1))] := hl
  have h := hp
  unfold p_L_low at h
  refine lv_iload_n hx hb dL_low_0 rfl (lv_at hl 0 rfl) ?_
  refine iv_ldc (n := 2147483647) hx hb (by decide) hown (hts _ q2_79) dL_low_1 ?_
  refine iv_iand hx hb dL_low_3 ?_
  refine lv_iload_n hx hb dL_low_4 rfl (lv_at hl 1 rfl) ?_
  obtain ⟨g1, h⟩ := h
  obtain ⟨g2, h⟩ := h
  refine iv_irem hx hb (hIn_toInt _) g1 h_n1 g2 dL_low_5 ?_
  obtain ⟨g3, h⟩ := h
  exact iv_iret E hh rfl (by rw [← show ((iAnd v1 2147483647) % n1) = v_L_low v1 n1 from rfl]; exact g3) rfl dL_low_6
set_option maxHeartbeats 4000000 in
set_option maxRecDepth 100000 in
theorem ok_L_inPixels (l : Launch) (hinj : hInj ad) (S : hS) (v1 : Int) (size : Int) (h_v1 : hIn v1) (h_size : hIn size) (hp : p_L_inPixels v1 size) : hMi D ad cI cJ cF l yL_inPixels cL_inPixels 2 (some .int) ({ frames := 0, cells := 0, slots := 0, locals := 0 } : Room) [.int (hI v1), .int (hI size)] S (v_L_inPixels v1 size) S := by
  refine hOf (S := S) l hinj (by decide +kernel) (Nat.le_of_ble_eq_true rfl) (fun p e s m args below meth c E => ?_)
  obtain ⟨hx, hb, hml, hown, hts, hK, hN, -, hr, hlk, hz⟩ := id E
  have hown : s.vm.findClass RL = some m.cls := hown
  intro H locs ls hh hl
  have hl : lv_has ls 2 [(0, .int (hI v1)), (1, .int (hI size))] := hl
  have h := hp
  unfold p_L_inPixels at h
  refine lv_iload_n hx hb dL_inPixels_0 rfl (lv_at hl 0 rfl) ?_
  refine lv_iload_n hx hb dL_inPixels_1 rfl (lv_at hl 1 rfl) ?_
  refine iv_imul hx hb dL_inPixels_2 ?_
  refine lv_sipush (v := hI 500) hx hb dL_inPixels_3 (by decide) ?_
  refine iv_iadd hx hb dL_inPixels_6 ?_
  refine lv_sipush (v := hI 1000) hx hb dL_inPixels_7 (by decide) ?_
  obtain ⟨g1, h⟩ := h
  obtain ⟨g2, h⟩ := h
  refine iv_idiv hx hb g1 g2 ⟨by decide, by decide⟩ (by decide) dL_inPixels_10 ?_
  obtain ⟨g3, h⟩ := h
  exact iv_iret E hh rfl (by rw [← show (((v1 * size) + 500) / 1000) = v_L_inPixels v1 size from rfl]; exact g3) rfl dL_inPixels_11
set_option maxHeartbeats 4000000 in
set_option maxRecDepth 100000 in
theorem ok_L_gap (l : Launch) (hinj : hInj ad) (S : hS) (v1 : Int) (other : Int) (h_v1 : hIn v1) (h_other : hIn other) (hp : p_L_gap v1 other) : hMi D ad cI cJ cF l yL_gap cL_gap 2 (some .int) ({ frames := 0, cells := 0, slots := 0, locals := 0 } : Room) [.int (hI v1), .int (hI other)] S (v_L_gap v1 other) S := by
  refine hOf (S := S) l hinj (by decide +kernel) (Nat.le_of_ble_eq_true rfl) (fun p e s m args below meth c E => ?_)
  obtain ⟨hx, hb, hml, hown, hts, hK, hN, -, hr, hlk, hz⟩ := id E
  have hown : s.vm.findClass RL = some m.cls := hown
  intro H locs ls hh hl
  have hl : lv_has ls 2 [(0, .int (hI v1)), (1, .int (hI other))] := hl
  have h := hp
  unfold p_L_gap at h
  refine lv_iload_n hx hb dL_gap_0 rfl (lv_at hl 0 rfl) ?_
  refine lv_iload_n hx hb dL_gap_1 rfl (lv_at hl 1 rfl) ?_
  refine iv_icmp_le (tgt := 11) hx hb h_v1 h_other dL_gap_2 (by decide) (fun c1 => ?_) (fun c1 => ?_)
  · have h := h.1 c1
    refine lv_iload_n hx hb dL_gap_11 rfl (lv_at hl 1 rfl) ?_
    refine lv_iload_n hx hb dL_gap_12 rfl (lv_at hl 0 rfl) ?_
    refine iv_isub hx hb dL_gap_13 ?_
    obtain ⟨g2, h⟩ := h
    exact iv_iret E hh (by unfold v_L_gap; rw [if_pos c1]) (by rw [← show (other - v1) = v_L_gap v1 other from (by unfold v_L_gap; rw [if_pos c1])]; exact g2) rfl dL_gap_14
  · have h := h.2 c1
    refine lv_iload_n hx hb dL_gap_5 rfl (lv_at hl 0 rfl) ?_
    refine lv_iload_n hx hb dL_gap_6 rfl (lv_at hl 1 rfl) ?_
    refine iv_isub hx hb dL_gap_7 ?_
    refine lv_goto (tgt := 14) hx hb dL_gap_8 (by decide) ?_
    obtain ⟨g3, h⟩ := h
    exact iv_iret E hh (by unfold v_L_gap; rw [if_neg c1]) (by rw [← show (v1 - other) = v_L_gap v1 other from (by unfold v_L_gap; rw [if_neg c1])]; exact g3) rfl dL_gap_14
set_option maxHeartbeats 4000000 in
set_option maxRecDepth 100000 in
theorem ok_L_snap (l : Launch) (hinj : hInj ad) (S : hS) (A : hGM) (P : hGM) (hP : S 10 = P) (width : Int) (h_width : hIn width) (hp : p_L_snap A P width) : hMi D ad cI cJ cF l yL_snap cL_snap 7 (some .int) ({ frames := 1, cells := 0, slots := 0, locals := 21 } : Room) [.ref (ad 10 1), .ref (ad 10 7), .int (hI width)] S (v_L_snap A P width) S := by
  refine hOf (S := S) l hinj (by decide +kernel) (Nat.le_of_ble_eq_true rfl) (fun p e s m args below meth c E => ?_)
  obtain ⟨hx, hb, hml, hown, hts, hK, hN, -, hr, hlk, hz⟩ := id E
  have hown : s.vm.findClass RL = some m.cls := hown
  have r5 : ∀ (y3 : Int) (y4 : Int), hIn y3 → hIn y4 → (((y4 < 3 → ((0 ≤ y4 ∧ y4 < 3) ∧ (p_L_gap (P 7 y4) width ∧ ((y3 = 0 → (hAt D ad cI cJ cF p l e ({ frames := 1, cells := 0, slots := 0, locals := 21 } : Room) s m args below meth c (MQ below (hQi D ad cI cJ cF (v_L_snap A P width) S) args s 0 0 (hAd ad)) 7 60 [(0, .ref (ad 10 1)), (1, .ref (ad 10 7)), (2, .int (hI width)), (3, .int (hI y3)), (4, .int (hI y4)), (5, .int (hI (v_L_gap (P 7 y4) width))), (6, .int (hI 1))] S)) ∧ (¬ y3 = 0 → (p_L_gap y3 width ∧ (((v_L_gap (P 7 y4) width) < (v_L_gap y3 width) → (hAt D ad cI cJ cF p l e ({ frames := 1, cells := 0, slots := 0, locals := 21 } : Room) s m args below meth c (MQ below (hQi D ad cI cJ cF (v_L_snap A P width) S) args s 0 0 (hAd ad)) 7 60 [(0, .ref (ad 10 1)), (1, .ref (ad 10 7)), (2, .int (hI width)), (3, .int (hI y3)), (4, .int (hI y4)), (5, .int (hI (v_L_gap (P 7 y4) width))), (6, .int (hI 1))] S)) ∧ (¬ (v_L_gap (P 7 y4) width) < (v_L_gap y3 width) → (((v_L_gap (P 7 y4) width) = (v_L_gap y3 width) → (((P 7 y4) < y3 → (hAt D ad cI cJ cF p l e ({ frames := 1, cells := 0, slots := 0, locals := 21 } : Room) s m args below meth c (MQ below (hQi D ad cI cJ cF (v_L_snap A P width) S) args s 0 0 (hAd ad)) 7 60 [(0, .ref (ad 10 1)), (1, .ref (ad 10 7)), (2, .int (hI width)), (3, .int (hI y3)), (4, .int (hI y4)), (5, .int (hI (v_L_gap (P 7 y4) width))), (6, .int (hI 1))] S)) ∧ (¬ (P 7 y4) < y3 → (hAt D ad cI cJ cF p l e ({ frames := 1, cells := 0, slots := 0, locals := 21 } : Room) s m args below meth c (MQ below (hQi D ad cI cJ cF (v_L_snap A P width) S) args s 0 0 (hAd ad)) 7 60 [(0, .ref (ad 10 1)), (1, .ref (ad 10 7)), (2, .int (hI width)), (3, .int (hI y3)), (4, .int (hI y4)), (5, .int (hI (v_L_gap (P 7 y4) width))), (6, .int (hI 0))] S)))) ∧ (¬ (v_L_gap (P 7 y4) width) = (v_L_gap y3 width) → (hAt D ad cI cJ cF p l e ({ frames := 1, cells := 0, slots := 0, locals := 21 } : Room) s m args below meth c (MQ below (hQi D ad cI cJ cF (v_L_snap A P width) S) args s 0 0 (hAd ad)) 7 60 [(0, .ref (ad 10 1)), (1, .ref (ad 10 7)), (2, .int (hI width)), (3, .int (hI y3)), (4, .int (hI y4)), (5, .int (hI (v_L_gap (P 7 y4) width))), (6, .int (hI 0))] S))))))))))) ∧ (¬ y4 < 3 → (y3 = v_L_snap A P width)))) → (hAt D ad cI cJ cF p l e ({ frames := 1, cells := 0, slots := 0, locals := 21 } : Room) s m args below meth c (MQ below (hQi D ad cI cJ cF (v_L_snap A P width) S) args s 0 0 (hAd ad)) 7 5 [(0, .ref (ad 10 1)), (1, .ref (ad 10 7)), (2, .int (hI width)), (3, .int (hI y3)), (4, .int (hI y4))] S) := by
    intro y3 y4 h_y3 h_y4 h H locs ls hh hl
    refine lv_iload hx hb dL_snap_5 (lv_at hl 4 rfl) ?_
    refine iv_iconst hx hb dL_snap_7 ?_
    refine iv_icmp_ge (tgt := 95) hx hb h_y4 ⟨by decide, by decide⟩ dL_snap_8 (by decide) (fun c1 => ?_) (fun c1 => ?_)
    · have h := h.2 c1
      refine lv_iload_n hx hb dL_snap_95 rfl (lv_at hl 3 rfl) ?_
      exact iv_iret E hh h (by rw [← h]; exact h_y3) rfl dL_snap_96
    · have h := h.1 c1
      refine lv_aload_n hx hb dL_snap_11 rfl (lv_at hl 1 rfl) ?_
      refine lv_iload hx hb dL_snap_12 (lv_at hl 4 rfl) ?_
      obtain ⟨g2, h⟩ := h
      refine iv_iald hx hb hK hh.1 ia_10_7 g2 (v := (P 7 y4)) (congrArg (fun z => z 7 y4) hP) dL_snap_14 ?_
      have hm3 : hIn (P 7 y4) := hIn_rd hh.2.1 hP (by decide)
      refine lv_iload_n hx hb dL_snap_15 rfl (lv_at hl 2 rfl) ?_
      obtain ⟨g4, h⟩ := h
      refine iv_ki (iv_rS (As := [.int (hI (P 7 y4)), .int (hI width)]) (rest := []) E hh (ok_L_gap l hinj S (P 7 y4) width hm3 h_width g4) cb_L_gap q2_197 rfl rfl ⟨Nat.le_of_ble_eq_true rfl, Nat.le_of_ble_eq_true rfl⟩ rfl hl.1 rfl (Nat.le_of_ble_eq_true rfl) dL_snap_16 ⟨Nat.zero_le _, Nat.zero_le _⟩) hh (fun hc5 H locs hh => ?_)
      refine lv_istore (lv' := [(5, .int (hI (v_L_gap (P 7 y4) width))), (0, .ref (ad 10 1)), (1, .ref (ad 10 7)), (2, .int (hI width)), (3, .int (hI y3)), (4, .int (hI y4))]) hx hb dL_snap_19 hl (by decide) rfl (fun ls hl => ?_)
      refine lv_iload_n hx hb dL_snap_21 rfl (lv_at hl 4 rfl) ?_
      refine iv_if_eq (tgt := 53) hx hb h_y3 dL_snap_22 (by decide) (fun c6 => ?_) (fun c6 => ?_)
      · have h := h.1 c6
        refine iv_iconst hx hb dL_snap_53 ?_
        refine lv_goto (tgt := 58) hx hb dL_snap_54 (by decide) ?_
        refine lv_istore (lv' := [(6, .int (hI 1)), (5, .int (hI (v_L_gap (P 7 y4) width))), (0, .ref (ad 10 1)), (1, .ref (ad 10 7)), (2, .int (hI width)), (3, .int (hI y3)), (4, .int (hI y4))]) hx hb dL_snap_58 hl (by decide) rfl (fun ls hl => ?_)
        exact h H _ ls hh (lv_sub hl [2, 3, 4, 5, 6, 1, 0] rfl)
      · have h := h.2 c6
        refine lv_iload hx hb dL_snap_25 (lv_at hl 0 rfl) ?_
        refine lv_iload_n hx hb dL_snap_27 rfl (lv_at hl 4 rfl) ?_
        refine lv_iload_n hx hb dL_snap_28 rfl (lv_at hl 3 rfl) ?_
        obtain ⟨g7, h⟩ := h
        refine iv_ki (iv_rS (As := [.int (hI y3), .int (hI width)]) (rest := [.int (hI (v_L_gap (P 7 y4) width))]) E hh (ok_L_gap l hinj S y3 width h_y3 h_width g7) cb_L_gap q2_197 rfl rfl ⟨Nat.le_of_ble_eq_true rfl, Nat.le_of_ble_eq_true rfl⟩ rfl hl.1 rfl (Nat.le_of_ble_eq_true rfl) dL_snap_29 ⟨Nat.zero_le _, Nat.zero_le _⟩) hh (fun hc8 H locs hh => ?_)
        refine iv_icmp_lt (tgt := 53) hx hb hc5 hc8 dL_snap_32 (by decide) (fun c9 => ?_) (fun c9 => ?_)
        · have h := h.1 c9
          refine iv_iconst hx hb dL_snap_53 ?_
          refine lv_goto (tgt := 58) hx hb dL_snap_54 (by decide) ?_
          refine lv_istore (lv' := [(6, .int (hI 1)), (5, .int (hI (v_L_gap (P 7 y4) width))), (0, .ref (ad 10 1)), (1, .ref (ad 10 7)), (2, .int (hI width)), (3, .int (hI y3)), (4, .int (hI y4))]) hx hb dL_snap_58 hl (by decide) rfl (fun ls hl => ?_)
          exact h H _ ls hh (lv_sub hl [2, 3, 4, 5, 6, 1, 0] rfl)
        · have h := h.2 c9
          refine lv_iload hx hb dL_snap_35 (lv_at hl 0 rfl) ?_
          refine lv_iload_n hx hb dL_snap_37 rfl (lv_at hl 4 rfl) ?_
          refine lv_iload_n hx hb dL_snap_38 rfl (lv_at hl 3 rfl) ?_
          refine iv_ki (iv_rS (As := [.int (hI y3), .int (hI width)]) (rest := [.int (hI (v_L_gap (P 7 y4) width))]) E hh (ok_L_gap l hinj S y3 width h_y3 h_width g7) cb_L_gap q2_197 rfl rfl ⟨Nat.le_of_ble_eq_true rfl, Nat.le_of_ble_eq_true rfl⟩ rfl hl.1 rfl (Nat.le_of_ble_eq_true rfl) dL_snap_39 ⟨Nat.zero_le _, Nat.zero_le _⟩) hh (fun hc10 H locs hh => ?_)
          refine iv_icmp_ne (tgt := 57) hx hb hc5 hc10 dL_snap_42 (by decide) (fun c11 => ?_) (fun c11 => ?_)
          · have h := h.2 c11
            refine iv_iconst hx hb dL_snap_57 ?_
            refine lv_istore (lv' := [(6, .int (hI 0)), (5, .int (hI (v_L_gap (P 7 y4) width))), (0, .ref (ad 10 1)), (1, .ref (ad 10 7)), (2, .int (hI width)), (3, .int (hI y3)), (4, .int (hI y4))]) hx hb dL_snap_58 hl (by decide) rfl (fun ls hl => ?_)
            exact h H _ ls hh (lv_sub hl [2, 3, 4, 5, 6, 1, 0] rfl)
          · have h := h.1 c11
            refine lv_aload_n hx hb dL_snap_45 rfl (lv_at hl 2 rfl) ?_
            refine lv_iload hx hb dL_snap_46 (lv_at hl 5 rfl) ?_
            refine iv_iald hx hb hK hh.1 ia_10_7 g2 (v := (P 7 y4)) (congrArg (fun z => z 7 y4) hP) dL_snap_48 ?_
            have hm12 : hIn (P 7 y4) := hIn_rd hh.2.1 hP (by decide)
            refine lv_iload_n hx hb dL_snap_49 rfl (lv_at hl 4 rfl) ?_
            refine iv_icmp_ge (tgt := 57) hx hb hm12 h_y3 dL_snap_50 (by decide) (fun c13 => ?_) (fun c13 => ?_)
            · have h := h.2 c13
              refine iv_iconst hx hb dL_snap_57 ?_
              refine lv_istore (lv' := [(6, .int (hI 0)), (5, .int (hI (v_L_gap (P 7 y4) width))), (0, .ref (ad 10 1)), (1, .ref (ad 10 7)), (2, .int (hI width)), (3, .int (hI y3)), (4, .int (hI y4))]) hx hb dL_snap_58 hl (by decide) rfl (fun ls hl => ?_)
              exact h H _ ls hh (lv_sub hl [2, 3, 4, 5, 6, 1, 0] rfl)
            · have h := h.1 c13
              refine iv_iconst hx hb dL_snap_53 ?_
              refine lv_goto (tgt := 58) hx hb dL_snap_54 (by decide) ?_
              refine lv_istore (lv' := [(6, .int (hI 1)), (5, .int (hI (v_L_gap (P 7 y4) width))), (0, .ref (ad 10 1)), (1, .ref (ad 10 7)), (2, .int (hI width)), (3, .int (hI y3)), (4, .int (hI y4))]) hx hb dL_snap_58 hl (by decide) rfl (fun ls hl => ?_)
              exact h H _ ls hh (lv_sub hl [2, 3, 4, 5, 6, 1, 0] rfl)
  have r60 : ∀ (y3 : Int) (y4 : Int) (y5 : Int) (y6 : Int), hIn y3 → hIn y4 → hIn y5 → hIn y6 → (((0 ≤ y4 ∧ y4 < 3) ∧ (((P 7 y4) ≤ 0 → (hAt D ad cI cJ cF p l e ({ frames := 1, cells := 0, slots := 0, locals := 21 } : Room) s m args below meth c (MQ below (hQi D ad cI cJ cF (v_L_snap A P width) S) args s 0 0 (hAd ad)) 7 5 [(0, .ref (ad 10 1)), (1, .ref (ad 10 7)), (2, .int (hI width)), (3, .int (hI y3)), (4, .int (hI (y4 + 1)))] S)) ∧ (¬ (P 7 y4) ≤ 0 → ((y5 ≤ (P 1 1) → ((y6 = 0 → (hAt D ad cI cJ cF p l e ({ frames := 1, cells := 0, slots := 0, locals := 21 } : Room) s m args below meth c (MQ below (hQi D ad cI cJ cF (v_L_snap A P width) S) args s 0 0 (hAd ad)) 7 5 [(0, .ref (ad 10 1)), (1, .ref (ad 10 7)), (2, .int (hI width)), (3, .int (hI y3)), (4, .int (hI (y4 + 1)))] S)) ∧ (¬ y6 = 0 → (hAt D ad cI cJ cF p l e ({ frames := 1, cells := 0, slots := 0, locals := 21 } : Room) s m args below meth c (MQ below (hQi D ad cI cJ cF (v_L_snap A P width) S) args s 0 0 (hAd ad)) 7 5 [(0, .ref (ad 10 1)), (1, .ref (ad 10 7)), (2, .int (hI width)), (3, .int (hI (P 7 y4))), (4, .int (hI (y4 + 1)))] S)))) ∧ (¬ y5 ≤ (P 1 1) → (hAt D ad cI cJ cF p l e ({ frames := 1, cells := 0, slots := 0, locals := 21 } : Room) s m args below meth c (MQ below (hQi D ad cI cJ cF (v_L_snap A P width) S) args s 0 0 (hAd ad)) 7 5 [(0, .ref (ad 10 1)), (1, .ref (ad 10 7)), (2, .int (hI width)), (3, .int (hI y3)), (4, .int (hI (y4 + 1)))] S))))))) → (hAt D ad cI cJ cF p l e ({ frames := 1, cells := 0, slots := 0, locals := 21 } : Room) s m args below meth c (MQ below (hQi D ad cI cJ cF (v_L_snap A P width) S) args s 0 0 (hAd ad)) 7 60 [(0, .ref (ad 10 1)), (1, .ref (ad 10 7)), (2, .int (hI width)), (3, .int (hI y3)), (4, .int (hI y4)), (5, .int (hI y5)), (6, .int (hI y6))] S) := by
    intro y3 y4 y5 y6 h_y3 h_y4 h_y5 h_y6 h H locs ls hh hl
    refine lv_aload_n hx hb dL_snap_60 rfl (lv_at hl 1 rfl) ?_
    refine lv_iload hx hb dL_snap_61 (lv_at hl 4 rfl) ?_
    obtain ⟨g14, h⟩ := h
    refine iv_iald hx hb hK hh.1 ia_10_7 g14 (v := (P 7 y4)) (congrArg (fun z => z 7 y4) hP) dL_snap_63 ?_
    have hm15 : hIn (P 7 y4) := hIn_rd hh.2.1 hP (by decide)
    refine iv_if_le (tgt := 87) hx hb hm15 dL_snap_64 (by decide) (fun c16 => ?_) (fun c16 => ?_)
    · have h := h.1 c16
      refine lv_iload_n hx hb dL_snap_87 rfl (lv_at hl 3 rfl) ?_
      refine lv_istore_n (lv' := [(3, .int (hI y3)), (0, .ref (ad 10 1)), (1, .ref (ad 10 7)), (2, .int (hI width)), (4, .int (hI y4)), (5, .int (hI y5)), (6, .int (hI y6))]) hx hb dL_snap_88 rfl hl (by decide) rfl (fun ls hl => ?_)
      refine iv_iinc (lv' := [(4, .int (hI (y4 + 1))), (3, .int (hI y3)), (0, .ref (ad 10 1)), (1, .ref (ad 10 7)), (2, .int (hI width)), (5, .int (hI y5)), (6, .int (hI y6))]) hx hb dL_snap_89 hl (k := 4) rfl (v := (y4 + 1)) rfl (by decide) rfl (fun ls hl => ?_)
      refine lv_goto (tgt := 5) hx hb dL_snap_92 (by decide) ?_
      exact h H _ ls hh (lv_sub hl [2, 3, 4, 1, 0] rfl)
    · have h := h.2 c16
      refine lv_iload hx hb dL_snap_67 (lv_at hl 5 rfl) ?_
      refine lv_aload_n hx hb dL_snap_69 rfl (lv_at hl 0 rfl) ?_
      refine iv_iconst hx hb dL_snap_70 ?_
      refine iv_iald hx hb hK hh.1 ia_10_1 ⟨by decide, by decide⟩ (v := (P 1 1)) (congrArg (fun z => z 1 1) hP) dL_snap_71 ?_
      have hm17 : hIn (P 1 1) := hIn_rd hh.2.1 hP (by decide)
      refine iv_icmp_gt (tgt := 87) hx hb h_y5 hm17 dL_snap_72 (by decide) (fun c18 => ?_) (fun c18 => ?_)
      · have h := h.2 c18
        refine lv_iload_n hx hb dL_snap_87 rfl (lv_at hl 3 rfl) ?_
        refine lv_istore_n (lv' := [(3, .int (hI y3)), (0, .ref (ad 10 1)), (1, .ref (ad 10 7)), (2, .int (hI width)), (4, .int (hI y4)), (5, .int (hI y5)), (6, .int (hI y6))]) hx hb dL_snap_88 rfl hl (by decide) rfl (fun ls hl => ?_)
        refine iv_iinc (lv' := [(4, .int (hI (y4 + 1))), (3, .int (hI y3)), (0, .ref (ad 10 1)), (1, .ref (ad 10 7)), (2, .int (hI width)), (5, .int (hI y5)), (6, .int (hI y6))]) hx hb dL_snap_89 hl (k := 4) rfl (v := (y4 + 1)) rfl (by decide) rfl (fun ls hl => ?_)
        refine lv_goto (tgt := 5) hx hb dL_snap_92 (by decide) ?_
        exact h H _ ls hh (lv_sub hl [2, 3, 4, 1, 0] rfl)
      · have h := h.1 c18
        refine lv_iload hx hb dL_snap_75 (lv_at hl 6 rfl) ?_
        refine iv_if_eq (tgt := 87) hx hb h_y6 dL_snap_77 (by decide) (fun c19 => ?_) (fun c19 => ?_)
        · have h := h.1 c19
          refine lv_iload_n hx hb dL_snap_87 rfl (lv_at hl 3 rfl) ?_
          refine lv_istore_n (lv' := [(3, .int (hI y3)), (0, .ref (ad 10 1)), (1, .ref (ad 10 7)), (2, .int (hI width)), (4, .int (hI y4)), (5, .int (hI y5)), (6, .int (hI y6))]) hx hb dL_snap_88 rfl hl (by decide) rfl (fun ls hl => ?_)
          refine iv_iinc (lv' := [(4, .int (hI (y4 + 1))), (3, .int (hI y3)), (0, .ref (ad 10 1)), (1, .ref (ad 10 7)), (2, .int (hI width)), (5, .int (hI y5)), (6, .int (hI y6))]) hx hb dL_snap_89 hl (k := 4) rfl (v := (y4 + 1)) rfl (by decide) rfl (fun ls hl => ?_)
          refine lv_goto (tgt := 5) hx hb dL_snap_92 (by decide) ?_
          exact h H _ ls hh (lv_sub hl [2, 3, 4, 1, 0] rfl)
        · have h := h.2 c19
          refine lv_aload_n hx hb dL_snap_80 rfl (lv_at hl 1 rfl) ?_
          refine lv_iload hx hb dL_snap_81 (lv_at hl 4 rfl) ?_
          refine iv_iald hx hb hK hh.1 ia_10_7 g14 (v := (P 7 y4)) (congrArg (fun z => z 7 y4) hP) dL_snap_83 ?_
          have hm20 : hIn (P 7 y4) := hIn_rd hh.2.1 hP (by decide)
          refine lv_goto (tgt := 88) hx hb dL_snap_84 (by decide) ?_
          refine lv_istore_n (lv' := [(3, .int (hI (P 7 y4))), (0, .ref (ad 10 1)), (1, .ref (ad 10 7)), (2, .int (hI width)), (4, .int (hI y4)), (5, .int (hI y5)), (6, .int (hI y6))]) hx hb dL_snap_88 rfl hl (by decide) rfl (fun ls hl => ?_)
          refine iv_iinc (lv' := [(4, .int (hI (y4 + 1))), (3, .int (hI (P 7 y4))), (0, .ref (ad 10 1)), (1, .ref (ad 10 7)), (2, .int (hI width)), (5, .int (hI y5)), (6, .int (hI y6))]) hx hb dL_snap_89 hl (k := 4) rfl (v := (y4 + 1)) rfl (by decide) rfl (fun ls hl => ?_)
          refine lv_goto (tgt := 5) hx hb dL_snap_92 (by decide) ?_
          exact h H _ ls hh (lv_sub hl [2, 3, 4, 1, 0] rfl)
  intro H locs ls hh hl
  have hl : lv_has ls 7 [(0, .ref (ad 10 1)), (1, .ref (ad 10 7)), (2, .int (hI width))] := hl
  have h := x_L_snap A P width h_width (fun i k hi => hIn_rd hh.2.1 hP hi) hp (fun y3 y4 => (hAt D ad cI cJ cF p l e ({ frames := 1, cells := 0, slots := 0, locals := 21 } : Room) s m args below meth c (MQ below (hQi D ad cI cJ cF (v_L_snap A P width) S) args s 0 0 (hAd ad)) 7 5 [(0, .ref (ad 10 1)), (1, .ref (ad 10 7)), (2, .int (hI width)), (3, .int (hI y3)), (4, .int (hI y4))] S)) (fun y3 y4 y5 y6 => (hAt D ad cI cJ cF p l e ({ frames := 1, cells := 0, slots := 0, locals := 21 } : Room) s m args below meth c (MQ below (hQi D ad cI cJ cF (v_L_snap A P width) S) args s 0 0 (hAd ad)) 7 60 [(0, .ref (ad 10 1)), (1, .ref (ad 10 7)), (2, .int (hI width)), (3, .int (hI y3)), (4, .int (hI y4)), (5, .int (hI y5)), (6, .int (hI y6))] S)) (fun r => (r = v_L_snap A P width)) r5 r60 rfl
  refine iv_iconst hx hb dL_snap_0 ?_
  refine lv_istore_n (lv' := [(3, .int (hI 0)), (0, .ref (ad 10 1)), (1, .ref (ad 10 7)), (2, .int (hI width))]) hx hb dL_snap_1 rfl hl (by decide) rfl (fun ls hl => ?_)
  refine iv_iconst hx hb dL_snap_2 ?_
  refine lv_istore (lv' := [(4, .int (hI 0)), (3, .int (hI 0)), (0, .ref (ad 10 1)), (1, .ref (ad 10 7)), (2, .int (hI width))]) hx hb dL_snap_3 hl (by decide) rfl (fun ls hl => ?_)
  exact h H _ ls hh (lv_sub hl [2, 3, 4, 1, 0] rfl)
set_option maxHeartbeats 4000000 in
set_option maxRecDepth 100000 in
theorem ok_L_hinted (l : Launch) (hinj : hInj ad) (S : hS) (A : hGM) (P : hGM) (hP : S 10 = P) (k1 : Int) (h_k1 : hIn k1) (hp : p_L_hinted A P k1) : hMi D ad cI cJ cF l yL_hinted cL_hinted 5 (some .int) ({ frames := 2, cells := 0, slots := 0, locals := 47 } : Room) [.ref (ad 10 1), .ref (ad 10 5), .ref (ad 10 7), .int (hI k1)] S (v_L_hinted A P k1) S := by
  refine hOf (S := S) l hinj (by decide +kernel) (Nat.le_of_ble_eq_true rfl) (fun p e s m args below meth c E => ?_)
  obtain ⟨hx, hb, hml, hown, hts, hK, hN, -, hr, hlk, hz⟩ := id E
  have hown : s.vm.findClass RL = some m.cls := hown
  intro H locs ls hh hl
  have hl : lv_has ls 5 [(0, .ref (ad 10 1)), (1, .ref (ad 10 5)), (2, .ref (ad 10 7)), (3, .int (hI k1))] := hl
  have h := hp
  unfold p_L_hinted at h
  refine lv_aload_n hx hb dL_hinted_0 rfl (lv_at hl 0 rfl) ?_
  refine lv_aload_n hx hb dL_hinted_1 rfl (lv_at hl 2 rfl) ?_
  refine lv_aload_n hx hb dL_hinted_2 rfl (lv_at hl 1 rfl) ?_
  refine lv_iload_n hx hb dL_hinted_3 rfl (lv_at hl 3 rfl) ?_
  obtain ⟨g1, h⟩ := h
  refine iv_iald hx hb hK hh.1 ia_10_5 g1 (v := (P 5 k1)) (congrArg (fun z => z 5 k1) hP) dL_hinted_4 ?_
  have hm2 : hIn (P 5 k1) := hIn_rd hh.2.1 hP (by decide)
  obtain ⟨g3, h⟩ := h
  refine iv_ki (iv_rS (As := [.ref (ad 10 1), .ref (ad 10 7), .int (hI (P 5 k1))]) (rest := []) E hh (ok_L_snap l hinj S A P hP (P 5 k1) hm2 g3) cb_L_snap q2_194 rfl rfl ⟨Nat.le_of_ble_eq_true rfl, Nat.le_of_ble_eq_true rfl⟩ rfl hl.1 rfl (Nat.le_of_ble_eq_true rfl) dL_hinted_5 ⟨Nat.zero_le _, Nat.zero_le _⟩) hh (fun hc4 H locs hh => ?_)
  refine lv_istore (lv' := [(4, .int (hI (v_L_snap A P (P 5 k1)))), (0, .ref (ad 10 1)), (1, .ref (ad 10 5)), (2, .ref (ad 10 7)), (3, .int (hI k1))]) hx hb dL_hinted_8 hl (by decide) rfl (fun ls hl => ?_)
  refine lv_iload hx hb dL_hinted_10 (lv_at hl 0 rfl) ?_
  refine iv_if_ne (tgt := 21) hx hb hc4 dL_hinted_12 (by decide) (fun c5 => ?_) (fun c5 => ?_)
  · have h := h.2 c5
    refine lv_iload hx hb dL_hinted_21 (lv_at hl 0 rfl) ?_
    exact iv_iret E hh (by unfold v_L_hinted; rw [if_neg c5]) (by rw [← show (v_L_snap A P (P 5 k1)) = v_L_hinted A P k1 from (by unfold v_L_hinted; rw [if_neg c5])]; exact hc4) rfl dL_hinted_23
  · have h := h.1 c5
    refine lv_aload_n hx hb dL_hinted_15 rfl (lv_at hl 2 rfl) ?_
    refine lv_iload_n hx hb dL_hinted_16 rfl (lv_at hl 4 rfl) ?_
    refine iv_iald hx hb hK hh.1 ia_10_5 g1 (v := (P 5 k1)) (congrArg (fun z => z 5 k1) hP) dL_hinted_17 ?_
    have hm6 : hIn (P 5 k1) := hIn_rd hh.2.1 hP (by decide)
    refine lv_goto (tgt := 23) hx hb dL_hinted_18 (by decide) ?_
    exact iv_iret E hh (by unfold v_L_hinted; rw [if_pos c5]) (by rw [← show (P 5 k1) = v_L_hinted A P k1 from (by unfold v_L_hinted; rw [if_pos c5])]; exact hm6) rfl dL_hinted_23
set_option maxHeartbeats 4000000 in
set_option maxRecDepth 100000 in
theorem ok_L_wide (l : Launch) (hinj : hInj ad) (S : hS) (A : hGM) (P : hGM) (hP : S 10 = P) (k1 : Int) (size : Int) (h_k1 : hIn k1) (h_size : hIn size) (hp : p_L_wide A P k1 size) : hMi D ad cI cJ cF l yL_wide cL_wide 6 (some .int) ({ frames := 3, cells := 0, slots := 0, locals := 71 } : Room) [.ref (ad 10 1), .ref (ad 10 5), .ref (ad 10 7), .int (hI k1), .int (hI size)] S (v_L_wide A P k1 size) S := by
  refine hOf (S := S) l hinj (by decide +kernel) (Nat.le_of_ble_eq_true rfl) (fun p e s m args below meth c E => ?_)
  obtain ⟨hx, hb, hml, hown, hts, hK, hN, -, hr, hlk, hz⟩ := id E
  have hown : s.vm.findClass RL = some m.cls := hown
  intro H locs ls hh hl
  have hl : lv_has ls 6 [(0, .ref (ad 10 1)), (1, .ref (ad 10 5)), (2, .ref (ad 10 7)), (3, .int (hI k1)), (4, .int (hI size))] := hl
  have h := hp
  unfold p_L_wide at h
  refine lv_aload_n hx hb dL_wide_0 rfl (lv_at hl 0 rfl) ?_
  refine lv_aload_n hx hb dL_wide_1 rfl (lv_at hl 1 rfl) ?_
  refine lv_aload_n hx hb dL_wide_2 rfl (lv_at hl 2 rfl) ?_
  refine lv_iload_n hx hb dL_wide_3 rfl (lv_at hl 3 rfl) ?_
  obtain ⟨g1, h⟩ := h
  refine iv_ki (iv_rS (As := [.ref (ad 10 1), .ref (ad 10 5), .ref (ad 10 7), .int (hI k1)]) (rest := []) E hh (ok_L_hinted l hinj S A P hP k1 h_k1 g1) cb_L_hinted q2_226 rfl rfl ⟨Nat.le_of_ble_eq_true rfl, Nat.le_of_ble_eq_true rfl⟩ rfl hl.1 rfl (Nat.le_of_ble_eq_true rfl) dL_wide_4 ⟨Nat.zero_le _, Nat.zero_le _⟩) hh (fun hc2 H locs hh => ?_)
  refine lv_iload hx hb dL_wide_7 (lv_at hl 4 rfl) ?_
  obtain ⟨g3, h⟩ := h
  refine iv_ki (iv_rS (As := [.int (hI (v_L_hinted A P k1)), .int (hI size)]) (rest := []) E hh (ok_L_inPixels l hinj S (v_L_hinted A P k1) size hc2 h_size g3) cb_L_inPixels q2_214 rfl rfl ⟨Nat.le_of_ble_eq_true rfl, Nat.le_of_ble_eq_true rfl⟩ rfl hl.1 rfl (Nat.le_of_ble_eq_true rfl) dL_wide_9 ⟨Nat.zero_le _, Nat.zero_le _⟩) hh (fun hc4 H locs hh => ?_)
  refine lv_istore (lv' := [(5, .int (hI (v_L_inPixels (v_L_hinted A P k1) size))), (0, .ref (ad 10 1)), (1, .ref (ad 10 5)), (2, .ref (ad 10 7)), (3, .int (hI k1)), (4, .int (hI size))]) hx hb dL_wide_12 hl (by decide) rfl (fun ls hl => ?_)
  refine lv_iload hx hb dL_wide_14 (lv_at hl 0 rfl) ?_
  refine iv_if_ne (tgt := 23) hx hb hc4 dL_wide_16 (by decide) (fun c5 => ?_) (fun c5 => ?_)
  · have h := h.2 c5
    refine lv_iload hx hb dL_wide_23 (lv_at hl 0 rfl) ?_
    exact iv_iret E hh (by unfold v_L_wide; rw [if_neg c5]) (by rw [← show (v_L_inPixels (v_L_hinted A P k1) size) = v_L_wide A P k1 size from (by unfold v_L_wide; rw [if_neg c5])]; exact hc4) rfl dL_wide_25
  · have h := h.1 c5
    refine iv_iconst hx hb dL_wide_19 ?_
    refine lv_goto (tgt := 25) hx hb dL_wide_20 (by decide) ?_
    exact iv_iret E hh (by unfold v_L_wide; rw [if_pos c5]) (by rw [← show 1 = v_L_wide A P k1 size from (by unfold v_L_wide; rw [if_pos c5])]; exact ⟨by decide, by decide⟩) rfl dL_wide_25
set_option maxHeartbeats 4000000 in
set_option maxRecDepth 100000 in
theorem ok_L_columns (l : Launch) (hinj : hInj ad) (S : hS) (A : hGM) (P : hGM) (hP : S 10 = P) (glyph : Int) (size : Int) (h_glyph : hIn glyph) (h_size : hIn size) (hp : p_L_columns A P glyph size) : hMi D ad cI cJ cF l yL_columns cL_columns 4 (some .int) ({ frames := 1, cells := 0, slots := 0, locals := 21 } : Room) [.ref (ad 10 2), .int (hI glyph), .int (hI size)] S (v_L_columns A P glyph size) S := by
  refine hOf (S := S) l hinj (by decide +kernel) (Nat.le_of_ble_eq_true rfl) (fun p e s m args below meth c E => ?_)
  obtain ⟨hx, hb, hml, hown, hts, hK, hN, -, hr, hlk, hz⟩ := id E
  have hown : s.vm.findClass RL = some m.cls := hown
  intro H locs ls hh hl
  have hl : lv_has ls 4 [(0, .ref (ad 10 2)), (1, .int (hI glyph)), (2, .int (hI size))] := hl
  have h := hp
  unfold p_L_columns at h
  refine lv_aload_n hx hb dL_columns_0 rfl (lv_at hl 0 rfl) ?_
  refine lv_iload_n hx hb dL_columns_1 rfl (lv_at hl 1 rfl) ?_
  obtain ⟨g1, h⟩ := h
  refine iv_iald hx hb hK hh.1 ia_10_2 g1 (v := (P 2 glyph)) (congrArg (fun z => z 2 glyph) hP) dL_columns_2 ?_
  have hm2 : hIn (P 2 glyph) := hIn_rd hh.2.1 hP (by decide)
  refine lv_iload_n hx hb dL_columns_3 rfl (lv_at hl 2 rfl) ?_
  obtain ⟨g3, h⟩ := h
  refine iv_ki (iv_rS (As := [.int (hI (P 2 glyph)), .int (hI size)]) (rest := []) E hh (ok_L_inPixels l hinj S (P 2 glyph) size hm2 h_size g3) cb_L_inPixels q2_214 rfl rfl ⟨Nat.le_of_ble_eq_true rfl, Nat.le_of_ble_eq_true rfl⟩ rfl hl.1 rfl (Nat.le_of_ble_eq_true rfl) dL_columns_4 ⟨Nat.zero_le _, Nat.zero_le _⟩) hh (fun hc4 H locs hh => ?_)
  refine lv_istore_n (lv' := [(3, .int (hI (v_L_inPixels (P 2 glyph) size))), (0, .ref (ad 10 2)), (1, .int (hI glyph)), (2, .int (hI size))]) hx hb dL_columns_7 rfl hl (by decide) rfl (fun ls hl => ?_)
  refine lv_iload_n hx hb dL_columns_8 rfl (lv_at hl 0 rfl) ?_
  refine iv_if_ne (tgt := 16) hx hb hc4 dL_columns_9 (by decide) (fun c5 => ?_) (fun c5 => ?_)
  · have h := h.2 c5
    refine lv_iload_n hx hb dL_columns_16 rfl (lv_at hl 0 rfl) ?_
    refine lv_bipush (v := hI 64) hx hb dL_columns_17 (by decide) ?_
    refine iv_icmp_le (tgt := 27) hx hb hc4 ⟨by decide, by decide⟩ dL_columns_19 (by decide) (fun c6 => ?_) (fun c6 => ?_)
    · have h := h.1 c6
      refine lv_iload_n hx hb dL_columns_27 rfl (lv_at hl 0 rfl) ?_
      exact iv_iret E hh (by unfold v_L_columns; rw [if_neg c5, if_pos c6]) (by rw [← show (v_L_inPixels (P 2 glyph) size) = v_L_columns A P glyph size from (by unfold v_L_columns; rw [if_neg c5, if_pos c6])]; exact hc4) rfl dL_columns_28
    · have h := h.2 c6
      refine lv_bipush (v := hI 64) hx hb dL_columns_22 (by decide) ?_
      refine lv_goto (tgt := 28) hx hb dL_columns_24 (by decide) ?_
      exact iv_iret E hh (by unfold v_L_columns; rw [if_neg c5, if_neg c6]) (by rw [← show 64 = v_L_columns A P glyph size from (by unfold v_L_columns; rw [if_neg c5, if_neg c6])]; exact ⟨by decide, by decide⟩) rfl dL_columns_28
  · have h := h.1 c5
    refine iv_iconst hx hb dL_columns_12 ?_
    refine lv_goto (tgt := 28) hx hb dL_columns_13 (by decide) ?_
    exact iv_iret E hh (by unfold v_L_columns; rw [if_pos c5]) (by rw [← show 1 = v_L_columns A P glyph size from (by unfold v_L_columns; rw [if_pos c5])]; exact ⟨by decide, by decide⟩) rfl dL_columns_28
set_option maxHeartbeats 4000000 in
set_option maxRecDepth 100000 in
theorem ok_L_find (l : Launch) (hinj : hInj ad) (S : hS) (P : hGM) (hP : S 10 = P) (v1 : Int) (h_v1 : hIn v1) (hp : p_L_find P v1) : hMi D ad cI cJ cF l yL_find cL_find 4 (some .int) ({ frames := 0, cells := 0, slots := 0, locals := 0 } : Room) [.ref (ad 10 7), .int (hI v1)] S (v_L_find P v1) S := by
  refine hOf (S := S) l hinj (by decide +kernel) (Nat.le_of_ble_eq_true rfl) (fun p e s m args below meth c E => ?_)
  obtain ⟨hx, hb, hml, hown, hts, hK, hN, -, hr, hlk, hz⟩ := id E
  have hown : s.vm.findClass RL = some m.cls := hown
  have r4 : ∀ (y2 : Int) (y3 : Int), hIn y2 → hIn y3 → (((y3 < 3 → ((0 ≤ y3 ∧ y3 < 3) ∧ (((P 7 y3) = v1 → (hAt D ad cI cJ cF p l e ({ frames := 0, cells := 0, slots := 0, locals := 0 } : Room) s m args below meth c (MQ below (hQi D ad cI cJ cF (v_L_find P v1) S) args s 0 0 (hAd ad)) 4 4 [(0, .ref (ad 10 7)), (1, .int (hI v1)), (2, .int (hI y3)), (3, .int (hI (y3 + 1)))] S)) ∧ (¬ (P 7 y3) = v1 → (hAt D ad cI cJ cF p l e ({ frames := 0, cells := 0, slots := 0, locals := 0 } : Room) s m args below meth c (MQ below (hQi D ad cI cJ cF (v_L_find P v1) S) args s 0 0 (hAd ad)) 4 4 [(0, .ref (ad 10 7)), (1, .int (hI v1)), (2, .int (hI y2)), (3, .int (hI (y3 + 1)))] S))))) ∧ (¬ y3 < 3 → (y2 = v_L_find P v1)))) → (hAt D ad cI cJ cF p l e ({ frames := 0, cells := 0, slots := 0, locals := 0 } : Room) s m args below meth c (MQ below (hQi D ad cI cJ cF (v_L_find P v1) S) args s 0 0 (hAd ad)) 4 4 [(0, .ref (ad 10 7)), (1, .int (hI v1)), (2, .int (hI y2)), (3, .int (hI y3))] S) := by
    intro y2 y3 h_y2 h_y3 h H locs ls hh hl
    refine lv_iload_n hx hb dL_find_4 rfl (lv_at hl 3 rfl) ?_
    refine lv_aload_n hx hb dL_find_5 rfl (lv_at hl 0 rfl) ?_
    refine iv_alen hx hb hK hh.1 ia_10_7 dL_find_6 ?_
    refine iv_icmp_ge (tgt := 29) hx hb h_y3 ⟨by decide, by decide⟩ dL_find_7 (by decide) (fun c1 => ?_) (fun c1 => ?_)
    · have h := h.2 c1
      refine lv_iload_n hx hb dL_find_29 rfl (lv_at hl 2 rfl) ?_
      exact iv_iret E hh h (by rw [← h]; exact h_y2) rfl dL_find_30
    · have h := h.1 c1
      refine lv_aload_n hx hb dL_find_10 rfl (lv_at hl 0 rfl) ?_
      refine lv_iload_n hx hb dL_find_11 rfl (lv_at hl 3 rfl) ?_
      obtain ⟨g2, h⟩ := h
      refine iv_iald hx hb hK hh.1 ia_10_7 g2 (v := (P 7 y3)) (congrArg (fun z => z 7 y3) hP) dL_find_12 ?_
      have hm3 : hIn (P 7 y3) := hIn_rd hh.2.1 hP (by decide)
      refine lv_iload_n hx hb dL_find_13 rfl (lv_at hl 1 rfl) ?_
      refine iv_icmp_ne (tgt := 21) hx hb hm3 h_v1 dL_find_14 (by decide) (fun c4 => ?_) (fun c4 => ?_)
      · have h := h.2 c4
        refine lv_iload_n hx hb dL_find_21 rfl (lv_at hl 2 rfl) ?_
        refine lv_istore_n (lv' := [(2, .int (hI y2)), (0, .ref (ad 10 7)), (1, .int (hI v1)), (3, .int (hI y3))]) hx hb dL_find_22 rfl hl (by decide) rfl (fun ls hl => ?_)
        refine iv_iinc (lv' := [(3, .int (hI (y3 + 1))), (2, .int (hI y2)), (0, .ref (ad 10 7)), (1, .int (hI v1))]) hx hb dL_find_23 hl (k := 3) rfl (v := (y3 + 1)) rfl (by decide) rfl (fun ls hl => ?_)
        refine lv_goto (tgt := 4) hx hb dL_find_26 (by decide) ?_
        exact h H _ ls hh (lv_sub hl [2, 3, 1, 0] rfl)
      · have h := h.1 c4
        refine lv_iload_n hx hb dL_find_17 rfl (lv_at hl 3 rfl) ?_
        refine lv_goto (tgt := 22) hx hb dL_find_18 (by decide) ?_
        refine lv_istore_n (lv' := [(2, .int (hI y3)), (0, .ref (ad 10 7)), (1, .int (hI v1)), (3, .int (hI y3))]) hx hb dL_find_22 rfl hl (by decide) rfl (fun ls hl => ?_)
        refine iv_iinc (lv' := [(3, .int (hI (y3 + 1))), (2, .int (hI y3)), (0, .ref (ad 10 7)), (1, .int (hI v1))]) hx hb dL_find_23 hl (k := 3) rfl (v := (y3 + 1)) rfl (by decide) rfl (fun ls hl => ?_)
        refine lv_goto (tgt := 4) hx hb dL_find_26 (by decide) ?_
        exact h H _ ls hh (lv_sub hl [2, 3, 1, 0] rfl)
  intro H locs ls hh hl
  have hl : lv_has ls 4 [(0, .ref (ad 10 7)), (1, .int (hI v1))] := hl
  have h := x_L_find P v1 h_v1 (fun i k hi => hIn_rd hh.2.1 hP hi) hp (fun y2 y3 => (hAt D ad cI cJ cF p l e ({ frames := 0, cells := 0, slots := 0, locals := 0 } : Room) s m args below meth c (MQ below (hQi D ad cI cJ cF (v_L_find P v1) S) args s 0 0 (hAd ad)) 4 4 [(0, .ref (ad 10 7)), (1, .int (hI v1)), (2, .int (hI y2)), (3, .int (hI y3))] S)) (fun r => (r = v_L_find P v1)) r4 rfl
  refine iv_iconst hx hb dL_find_0 ?_
  refine lv_istore_n (lv' := [(2, .int (hI (-1))), (0, .ref (ad 10 7)), (1, .int (hI v1))]) hx hb dL_find_1 rfl hl (by decide) rfl (fun ls hl => ?_)
  refine iv_iconst hx hb dL_find_2 ?_
  refine lv_istore_n (lv' := [(3, .int (hI 0)), (2, .int (hI (-1))), (0, .ref (ad 10 7)), (1, .int (hI v1))]) hx hb dL_find_3 rfl hl (by decide) rfl (fun ls hl => ?_)
  exact h H _ ls hh (lv_sub hl [2, 3, 1, 0] rfl)
set_option maxHeartbeats 4000000 in
set_option maxRecDepth 100000 in
theorem ok_L_many (l : Launch) (hinj : hInj ad) (S : hS) (set1 : Int) (hp : p_L_many set1) : hMi D ad cI cJ cF l yL_many cL_many 5 (some .int) ({ frames := 0, cells := 0, slots := 0, locals := 0 } : Room) [.long (hJ set1)] S (v_L_many set1) S := by
  refine hOf (S := S) l hinj (by decide +kernel) (Nat.le_of_ble_eq_true rfl) (fun p e s m args below meth c E => ?_)
  obtain ⟨hx, hb, hml, hown, hts, hK, hN, -, hr, hlk, hz⟩ := id E
  have hown : s.vm.findClass RL = some m.cls := hown
  have r4 : ∀ (y2 : Int) (y3 : Int), hIn y2 → ((((jCmp y3 0) = 0 → (y2 = v_L_many set1)) ∧ (¬ (jCmp y3 0) = 0 → (hAt D ad cI cJ cF p l e ({ frames := 0, cells := 0, slots := 0, locals := 0 } : Room) s m args below meth c (MQ below (hQi D ad cI cJ cF (v_L_many set1) S) args s 0 0 (hAd ad)) 5 4 [(2, .int (hI (y2 + 1))), (3, .long (hJ (jAnd y3 (y3 - 1))))] S)))) → (hAt D ad cI cJ cF p l e ({ frames := 0, cells := 0, slots := 0, locals := 0 } : Room) s m args below meth c (MQ below (hQi D ad cI cJ cF (v_L_many set1) S) args s 0 0 (hAd ad)) 5 4 [(2, .int (hI y2)), (3, .long (hJ y3))] S) := by
    intro y2 y3 h_y2 h H locs ls hh hl
    refine lv_lload_n hx hb dL_many_4 rfl (lv_at hl 1 rfl) ?_
    refine lv_lconst (v := hJ 0) hx hb dL_many_5 (by decide) ?_
    refine iv_lcmp hx hb dL_many_6 ?_
    refine iv_if_eq (tgt := 22) hx hb (hIn_toInt _) dL_many_7 (by decide) (fun c1 => ?_) (fun c1 => ?_)
    · have h := h.1 c1
      refine lv_iload_n hx hb dL_many_22 rfl (lv_at hl 0 rfl) ?_
      exact iv_iret E hh h (by rw [← h]; exact h_y2) rfl dL_many_23
    · have h := h.2 c1
      refine iv_iinc (lv' := [(2, .int (hI (y2 + 1))), (3, .long (hJ y3))]) hx hb dL_many_10 hl (k := 0) rfl (v := (y2 + 1)) rfl (by decide) rfl (fun ls hl => ?_)
      refine lv_lload_n hx hb dL_many_13 rfl (lv_at hl 1 rfl) ?_
      refine lv_lload_n hx hb dL_many_14 rfl (lv_at hl 1 rfl) ?_
      refine lv_lconst (v := hJ 1) hx hb dL_many_15 (by decide) ?_
      refine iv_lsub hx hb dL_many_16 ?_
      refine iv_land hx hb dL_many_17 ?_
      refine lv_lstore_n (lv' := [(3, .long (hJ (jAnd y3 (y3 - 1)))), (2, .int (hI (y2 + 1)))]) hx hb dL_many_18 rfl hl (by decide) rfl (fun ls hl => ?_)
      refine lv_goto (tgt := 4) hx hb dL_many_19 (by decide) ?_
      exact h H _ ls hh (lv_sub hl [1, 0] rfl)
  intro H locs ls hh hl
  have hl : lv_has ls 5 [(0, .long (hJ set1))] := hl
  have h := x_L_many set1 hp (fun y2 y3 => (hAt D ad cI cJ cF p l e ({ frames := 0, cells := 0, slots := 0, locals := 0 } : Room) s m args below meth c (MQ below (hQi D ad cI cJ cF (v_L_many set1) S) args s 0 0 (hAd ad)) 5 4 [(2, .int (hI y2)), (3, .long (hJ y3))] S)) (fun r => (r = v_L_many set1)) r4 rfl
  refine iv_iconst hx hb dL_many_0 ?_
  refine lv_istore_n (lv' := [(2, .int (hI 0)), (0, .long (hJ set1))]) hx hb dL_many_1 rfl hl (by decide) rfl (fun ls hl => ?_)
  refine lv_lload_n hx hb dL_many_2 rfl (lv_at hl 1 rfl) ?_
  refine lv_lstore_n (lv' := [(3, .long (hJ set1)), (2, .int (hI 0)), (0, .long (hJ set1))]) hx hb dL_many_3 rfl hl (by decide) rfl (fun ls hl => ?_)
  exact h H _ ls hh (lv_sub hl [1, 0] rfl)
end

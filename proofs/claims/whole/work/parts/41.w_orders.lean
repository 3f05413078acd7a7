section
variable {D : va_G} {ad : Nat → Nat → Nat} {cI cJ cF : ClassId}
set_option maxHeartbeats 4000000 in
set_option maxRecDepth 100000 in
theorem ok_X3_append (l : Launch) (hinj : hInj ad) (S : hS) (O : hGM) (hO : S 8 = O) (sign : Int) (h_sign : hIn sign) (hp : p_X3_append O sign) : hMi D ad cI cJ cF l yX3_append cX3_append 2 (some .boolean) ({ frames := 1, cells := 0, slots := 0, locals := 22 } : Room) [.ref (ad 8 0), .int (hI sign)] S (v_X3_append O sign) (gset S 8 (m_X3_append O sign)) := by
  refine hOf (S := S) l hinj (by decide +kernel) (Nat.le_of_ble_eq_true rfl) (fun p e s m args below meth c E => ?_)
  obtain ⟨hx, hb, hml, hown, hts, hK, hN, -, hr, hlk⟩ := id E
  have hown : s.vm.findClass RX3 = some m.cls := hown
  intro H locs ls hh hl
  have hl : lv_has ls 2 [(0, .ref (ad 8 0)), (1, .int (hI sign))] := hl
  replace hh : hH D ad cI cJ cF (gset S 8 O) s H locs := by rw [← can1 hO]; exact hh
  have h := hp
  unfold p_X3_append at h
  refine lv_aload_n hx hb dX3_append_0 rfl (lv_at hl 0 rfl) ?_
  refine iv_get (v' := .int (hI (O 0 1))) hx hb hts inX3 hown hK hh.1 (ob_Orders) rfl 1 (by decide) (hts _ q1_152) rfl rfl (congrArg (fun z => Value.int (hI (z 0 1))) (gset_at _ _ _)) dX3_append_1 ?_
  have hm1 : hIn (O 0 1) := hIn_rd hh.2.1 (gset_at _ _ _) (by decide)
  refine lv_bipush (v := hI 60) hx hb dX3_append_4 (by decide) ?_
  refine iv_icmp_lt (tgt := 11) hx hb hm1 ⟨by decide, by decide⟩ dX3_append_6 (by decide) (fun c2 => ?_) (fun c2 => ?_)
  · have h := h.1 c2
    refine lv_aload_n hx hb dX3_append_11 rfl (lv_at hl 0 rfl) ?_
    refine iv_get (v' := .ref (ad 8 1)) hx hb hts inX3 hown hK hh.1 (ob_Orders) rfl 0 (by decide) (hts _ q1_151) rfl rfl rfl dX3_append_12 ?_
    refine lv_aload_n hx hb dX3_append_15 rfl (lv_at hl 0 rfl) ?_
    refine iv_get (v' := .int (hI (O 0 1))) hx hb hts inX3 hown hK hh.1 (ob_Orders) rfl 1 (by decide) (hts _ q1_152) rfl rfl (congrArg (fun z => Value.int (hI (z 0 1))) (gset_at _ _ _)) dX3_append_16 ?_
    have hm3 : hIn (O 0 1) := hIn_rd hh.2.1 (gset_at _ _ _) (by decide)
    refine lv_iload_n hx hb dX3_append_19 rfl (lv_at hl 1 rfl) ?_
    refine iv_kv (iv_rN (As := [.ref (ad 8 1), .int (hI (O 0 1)), .int (hI sign)]) (rest := []) E hh (ok_X5_put l hinj (gset S 8 O) (ia_8_1) O (gset_at _ _ _) (O 0 1) sign hm3 h_sign) cb_X5_put q3_106 rfl rfl ⟨Nat.le_of_ble_eq_true rfl, Nat.le_of_ble_eq_true rfl⟩ rfl hl.1 rfl (Nat.le_of_ble_eq_true rfl) dX3_append_20 ⟨Nat.zero_le _, Nat.zero_le _⟩) hh (fun H locs hh => ?_)
    replace hh : hH D ad cI cJ cF (gset S 8 (m_X5_put O 1 60 (O 0 1) sign)) s H locs := by rw [← show _ = (gset S 8 (m_X5_put O 1 60 (O 0 1) sign)) from (gset_gset _ _ _ _)]; exact hh
    refine lv_aload_n hx hb dX3_append_23 rfl (lv_at hl 0 rfl) ?_
    refine lv_dup hx hb dX3_append_24 rfl ?_
    refine iv_get (v' := .int (hI ((m_X5_put O 1 60 (O 0 1) sign) 0 1))) hx hb hts inX3 hown hK hh.1 (ob_Orders) rfl 1 (by decide) (hts _ q1_152) rfl rfl (congrArg (fun z => Value.int (hI (z 0 1))) (gset_at _ _ _)) dX3_append_25 ?_
    have hm4 : hIn ((m_X5_put O 1 60 (O 0 1) sign) 0 1) := hIn_rd hh.2.1 (gset_at _ _ _) (by decide)
    refine iv_iconst hx hb dX3_append_28 ?_
    refine iv_iadd hx hb dX3_append_29 ?_
    obtain ⟨g5, h⟩ := h
    refine iv_put (S' := (gset S 8 (aset (m_X5_put O 1 60 (O 0 1) sign) 0 1 (((m_X5_put O 1 60 (O 0 1) sign) 0 1) + 1)))) (ty := .int) hx hb hts inX3 tyX3 tyX3_ok nmX3 hown hK hinj hh (by decide) un_Orders (Or.inl rfl) (ob_Orders) rfl 1 (by decide) (hts _ q1_152) rfl rfl (by decide +kernel) rfl rfl (Nat.le_of_ble_eq_true rfl) (pu_Orders_length) (Or.inl g5) (by rw [show (gset S 8 (m_X5_put O 1 60 (O 0 1) sign)) 8 = (m_X5_put O 1 60 (O 0 1) sign) from (gset_at _ _ _)]; exact (gset_gset _ _ _ _)) dX3_append_30 (fun H locs hh => ?_)
    refine iv_iconst hx hb dX3_append_33 ?_
    exact iv_bret E hh (by unfold v_X3_append; rw [if_pos c2]) (by rw [← show 1 = v_X3_append O sign from (by unfold v_X3_append; rw [if_pos c2])]; exact (Or.inr rfl)) (by unfold m_X3_append; rw [if_pos c2]) dX3_append_34
  · have h := h.2 c2
    refine iv_iconst hx hb dX3_append_9 ?_
    exact iv_bret E hh (by unfold v_X3_append; rw [if_neg c2]) (by rw [← show 0 = v_X3_append O sign from (by unfold v_X3_append; rw [if_neg c2])]; exact (Or.inl rfl)) (by unfold m_X3_append; rw [if_neg c2]) dX3_append_10
set_option maxHeartbeats 4000000 in
set_option maxRecDepth 100000 in
theorem ok_X3_signAt (l : Launch) (hinj : hInj ad) (S : hS) (O : hGM) (hO : S 8 = O) (at1 : Int) (h_at1 : hIn at1) : hMi D ad cI cJ cF l yX3_signAt cX3_signAt 2 (some .int) ({ frames := 1, cells := 0, slots := 0, locals := 21 } : Room) [.ref (ad 8 0), .int (hI at1)] S (v_X3_signAt O at1) S := by
  refine hOf (S := S) l hinj (by decide +kernel) (Nat.le_of_ble_eq_true rfl) (fun p e s m args below meth c E => ?_)
  obtain ⟨hx, hb, hml, hown, hts, hK, hN, -, hr, hlk⟩ := id E
  have hown : s.vm.findClass RX3 = some m.cls := hown
  intro H locs ls hh hl
  have hl : lv_has ls 2 [(0, .ref (ad 8 0)), (1, .int (hI at1))] := hl
  refine lv_iload_n hx hb dX3_signAt_0 rfl (lv_at hl 1 rfl) ?_
  refine lv_aload_n hx hb dX3_signAt_1 rfl (lv_at hl 0 rfl) ?_
  refine iv_get (v' := .int (hI (O 0 1))) hx hb hts inX3 hown hK hh.1 (ob_Orders) rfl 1 (by decide) (hts _ q1_152) rfl rfl (congrArg (fun z => Value.int (hI (z 0 1))) hO) dX3_signAt_2 ?_
  have hm1 : hIn (O 0 1) := hIn_rd hh.2.1 hO (by decide)
  refine iv_icmp_ge (tgt := 19) hx hb h_at1 hm1 dX3_signAt_5 (by decide) (fun c2 => ?_) (fun c2 => ?_)
  · refine iv_iconst hx hb dX3_signAt_19 ?_
    exact iv_iret E hh (by unfold v_X3_signAt; rw [if_neg c2]) (by rw [← show 0 = v_X3_signAt O at1 from (by unfold v_X3_signAt; rw [if_neg c2])]; exact ⟨by decide, by decide⟩) rfl dX3_signAt_20
  · refine lv_aload_n hx hb dX3_signAt_8 rfl (lv_at hl 0 rfl) ?_
    refine iv_get (v' := .ref (ad 8 1)) hx hb hts inX3 hown hK hh.1 (ob_Orders) rfl 0 (by decide) (hts _ q1_151) rfl rfl rfl dX3_signAt_9 ?_
    refine lv_iload_n hx hb dX3_signAt_12 rfl (lv_at hl 1 rfl) ?_
    refine iv_ki (iv_rN (As := [.ref (ad 8 1), .int (hI at1)]) (rest := []) E hh (ok_X5_cell l hinj S (ia_8_1) O hO at1 h_at1) cb_X5_cell q3_128 rfl rfl ⟨Nat.le_of_ble_eq_true rfl, Nat.le_of_ble_eq_true rfl⟩ rfl hl.1 rfl (Nat.le_of_ble_eq_true rfl) dX3_signAt_13 ⟨Nat.zero_le _, Nat.zero_le _⟩) hh (fun hc3 H locs hh => ?_)
    refine lv_goto (tgt := 20) hx hb dX3_signAt_16 (by decide) ?_
    exact iv_iret E hh (by unfold v_X3_signAt; rw [if_pos c2]) (by rw [← show (v_X5_cell O 1 60 at1) = v_X3_signAt O at1 from (by unfold v_X3_signAt; rw [if_pos c2])]; exact hc3) rfl dX3_signAt_20
set_option maxHeartbeats 4000000 in
set_option maxRecDepth 100000 in
theorem ok_X3_numbersOf (l : Launch) (hinj : hInj ad) (S : hS) (letter : Int) (h_letter : hIn letter) : hMi D ad cI cJ cF l yX3_numbersOf cX3_numbersOf 1 (some .int) ({ frames := 0, cells := 0, slots := 0, locals := 0 } : Room) [.int (hI letter)] S (v_X3_numbersOf letter) S := by
  refine hOf (S := S) l hinj (by decide +kernel) (Nat.le_of_ble_eq_true rfl) (fun p e s m args below meth c E => ?_)
  obtain ⟨hx, hb, hml, hown, hts, hK, hN, -, hr, hlk⟩ := id E
  have hown : s.vm.findClass RX3 = some m.cls := hown
  intro H locs ls hh hl
  have hl : lv_has ls 1 [(0, .int (hI letter))] := hl
  refine lv_iload_n hx hb dX3_numbersOf_0 rfl (lv_at hl 0 rfl) ?_
  by_cases c1 : letter = 103
  · refine lv_lookup (off := 51) (tgt := 52) hx hb dX3_numbersOf_1 (by decide) (by rw [hI_toInt h_letter, c1]; rfl) (by decide) ?_
    refine iv_iconst hx hb dX3_numbersOf_52 ?_
    exact iv_iret E hh (by unfold v_X3_numbersOf; rw [if_pos c1]) (by rw [← show 1 = v_X3_numbersOf letter from (by unfold v_X3_numbersOf; rw [if_pos c1])]; exact ⟨by decide, by decide⟩) rfl dX3_numbersOf_53
  · by_cases c2 : letter = 104
    · refine lv_lookup (off := 53) (tgt := 54) hx hb dX3_numbersOf_1 (by decide) (by rw [hI_toInt h_letter, c2]; rfl) (by decide) ?_
      refine iv_iconst hx hb dX3_numbersOf_54 ?_
      exact iv_iret E hh (by unfold v_X3_numbersOf; rw [if_neg c1, if_pos c2]) (by rw [← show 3 = v_X3_numbersOf letter from (by unfold v_X3_numbersOf; rw [if_neg c1, if_pos c2])]; exact ⟨by decide, by decide⟩) rfl dX3_numbersOf_55
    · by_cases c3 : letter = 109
      · refine lv_lookup (off := 51) (tgt := 52) hx hb dX3_numbersOf_1 (by decide) (by rw [hI_toInt h_letter, c3]; rfl) (by decide) ?_
        refine iv_iconst hx hb dX3_numbersOf_52 ?_
        exact iv_iret E hh (by unfold v_X3_numbersOf; rw [if_neg c1, if_neg c2, if_pos c3]) (by rw [← show 1 = v_X3_numbersOf letter from (by unfold v_X3_numbersOf; rw [if_neg c1, if_neg c2, if_pos c3])]; exact ⟨by decide, by decide⟩) rfl dX3_numbersOf_53
      · by_cases c4 : letter = 115
        · refine lv_lookup (off := 53) (tgt := 54) hx hb dX3_numbersOf_1 (by decide) (by rw [hI_toInt h_letter, c4]; rfl) (by decide) ?_
          refine iv_iconst hx hb dX3_numbersOf_54 ?_
          exact iv_iret E hh (by unfold v_X3_numbersOf; rw [if_neg c1, if_neg c2, if_neg c3, if_pos c4]) (by rw [← show 3 = v_X3_numbersOf letter from (by unfold v_X3_numbersOf; rw [if_neg c1, if_neg c2, if_neg c3, if_pos c4])]; exact ⟨by decide, by decide⟩) rfl dX3_numbersOf_55
        · by_cases c5 : letter = 119
          · refine lv_lookup (off := 51) (tgt := 52) hx hb dX3_numbersOf_1 (by decide) (by rw [hI_toInt h_letter, c5]; rfl) (by decide) ?_
            refine iv_iconst hx hb dX3_numbersOf_52 ?_
            exact iv_iret E hh (by unfold v_X3_numbersOf; rw [if_neg c1, if_neg c2, if_neg c3, if_neg c4, if_pos c5]) (by rw [← show 1 = v_X3_numbersOf letter from (by unfold v_X3_numbersOf; rw [if_neg c1, if_neg c2, if_neg c3, if_neg c4, if_pos c5])]; exact ⟨by decide, by decide⟩) rfl dX3_numbersOf_53
          · refine lv_lookup (off := 55) (tgt := 56) hx hb dX3_numbersOf_1 (by decide) (by rw [hI_toInt h_letter]; simp only [Op.lookupswitch.offset, if_neg (Ne.symm c1), if_neg (Ne.symm c2), if_neg (Ne.symm c3), if_neg (Ne.symm c4), if_neg (Ne.symm c5)]) (by decide) ?_
            refine iv_iconst hx hb dX3_numbersOf_56 ?_
            exact iv_iret E hh (by unfold v_X3_numbersOf; rw [if_neg c1, if_neg c2, if_neg c3, if_neg c4, if_neg c5]) (by rw [← show 0 = v_X3_numbersOf letter from (by unfold v_X3_numbersOf; rw [if_neg c1, if_neg c2, if_neg c3, if_neg c4, if_neg c5])]; exact ⟨by decide, by decide⟩) rfl dX3_numbersOf_57
set_option maxHeartbeats 4000000 in
set_option maxRecDepth 100000 in
theorem ok_X3_isNumber (l : Launch) (hinj : hInj ad) (S : hS) (O : hGM) (hO : S 8 = O) (which : Int) (h_which : hIn which) (hp : p_X3_isNumber O which) : hMi D ad cI cJ cF l yX3_isNumber cX3_isNumber 4 (some .boolean) ({ frames := 2, cells := 0, slots := 0, locals := 42 } : Room) [.ref (ad 8 0), .int (hI which)] S (v_X3_isNumber O which) (gset S 8 (m_X3_isNumber O which)) := by
  refine hOf (S := S) l hinj (by decide +kernel) (Nat.le_of_ble_eq_true rfl) (fun p e s m args below meth c E => ?_)
  obtain ⟨hx, hb, hml, hown, hts, hK, hN, -, hr, hlk⟩ := id E
  have hown : s.vm.findClass RX3 = some m.cls := hown
  have r4 : ∀ (y2 : Int) (y3 : Int) (O1 : hGM), hIn y2 → hIn y3 → ((∀ (i : Nat) (k : Int), i < 100 → hIn (O1 i k)) → ((y3 < 4 → (((v_X5_within (v_X3_signAt O1 (O1 0 3)) 48 57) = 0 → ((y3 ≤ 0 → (0 = v_X3_isNumber O which ∧ (m_X5_put O1 2 3 which y2) = m_X3_isNumber O which)) ∧ (¬ y3 ≤ 0 → (1 = v_X3_isNumber O which ∧ (m_X5_put O1 2 3 which y2) = m_X3_isNumber O which)))) ∧ (¬ (v_X5_within (v_X3_signAt O1 (O1 0 3)) 48 57) = 0 → (hIn ((O1 0 3) + 1) ∧ (hAt D ad cI cJ cF p l e ({ frames := 2, cells := 0, slots := 0, locals := 42 } : Room) s m args below meth c (MQ below (hQi D ad cI cJ cF (v_X3_isNumber O which) (gset S 8 (m_X3_isNumber O which))) args s 0 0 (hAd ad)) 4 4 [(0, .ref (ad 8 0)), (1, .int (hI which)), (2, .int (hI (((y2 * 10) + (v_X3_signAt O1 (O1 0 3))) - 48))), (3, .int (hI (y3 + 1)))] (gset S 8 (aset O1 0 3 ((O1 0 3) + 1)))))))) ∧ (¬ y3 < 4 → ((y3 ≤ 0 → (0 = v_X3_isNumber O which ∧ (m_X5_put O1 2 3 which y2) = m_X3_isNumber O which)) ∧ (¬ y3 ≤ 0 → (1 = v_X3_isNumber O which ∧ (m_X5_put O1 2 3 which y2) = m_X3_isNumber O which)))))) → (hAt D ad cI cJ cF p l e ({ frames := 2, cells := 0, slots := 0, locals := 42 } : Room) s m args below meth c (MQ below (hQi D ad cI cJ cF (v_X3_isNumber O which) (gset S 8 (m_X3_isNumber O which))) args s 0 0 (hAd ad)) 4 4 [(0, .ref (ad 8 0)), (1, .int (hI which)), (2, .int (hI y2)), (3, .int (hI y3))] (gset S 8 O1)) := by
    intro y2 y3 O1 h_y2 h_y3 h H locs ls hh hl
    have h := h (fun i k hi => hIn_rd hh.2.1 (gset_at _ _ _) hi)
    refine lv_iload_n hx hb dX3_isNumber_4 rfl (lv_at hl 3 rfl) ?_
    refine iv_iconst hx hb dX3_isNumber_5 ?_
    refine iv_icmp_ge (tgt := 60) hx hb h_y3 ⟨by decide, by decide⟩ dX3_isNumber_6 (by decide) (fun c1 => ?_) (fun c1 => ?_)
    · have h := h.2 c1
      refine lv_aload_n hx hb dX3_isNumber_60 rfl (lv_at hl 0 rfl) ?_
      refine iv_get (v' := .ref (ad 8 2)) hx hb hts inX3 hown hK hh.1 (ob_Orders) rfl 2 (by decide) (hts _ q1_154) rfl rfl rfl dX3_isNumber_61 ?_
      refine lv_iload_n hx hb dX3_isNumber_64 rfl (lv_at hl 1 rfl) ?_
      refine lv_iload_n hx hb dX3_isNumber_65 rfl (lv_at hl 2 rfl) ?_
      refine iv_kv (iv_rN (As := [.ref (ad 8 2), .int (hI which), .int (hI y2)]) (rest := []) E hh (ok_X5_put l hinj (gset S 8 O1) (ia_8_2) O1 (gset_at _ _ _) which y2 h_which h_y2) cb_X5_put q3_106 rfl rfl ⟨Nat.le_of_ble_eq_true rfl, Nat.le_of_ble_eq_true rfl⟩ rfl hl.1 rfl (Nat.le_of_ble_eq_true rfl) dX3_isNumber_66 ⟨Nat.zero_le _, Nat.zero_le _⟩) hh (fun H locs hh => ?_)
      replace hh : hH D ad cI cJ cF (gset S 8 (m_X5_put O1 2 3 which y2)) s H locs := by rw [← show _ = (gset S 8 (m_X5_put O1 2 3 which y2)) from (gset_gset _ _ _ _)]; exact hh
      refine lv_iload_n hx hb dX3_isNumber_69 rfl (lv_at hl 3 rfl) ?_
      refine iv_if_le (tgt := 77) hx hb h_y3 dX3_isNumber_70 (by decide) (fun c2 => ?_) (fun c2 => ?_)
      · have h := h.1 c2
        refine iv_iconst hx hb dX3_isNumber_77 ?_
        exact iv_bret E hh h.1 (by rw [← h.1]; exact (Or.inl rfl)) (by rw [← h.2]) dX3_isNumber_78
      · have h := h.2 c2
        refine iv_iconst hx hb dX3_isNumber_73 ?_
        refine lv_goto (tgt := 78) hx hb dX3_isNumber_74 (by decide) ?_
        exact iv_bret E hh h.1 (by rw [← h.1]; exact (Or.inr rfl)) (by rw [← h.2]) dX3_isNumber_78
    · have h := h.1 c1
      refine lv_aload_n hx hb dX3_isNumber_9 rfl (lv_at hl 0 rfl) ?_
      refine lv_aload_n hx hb dX3_isNumber_10 rfl (lv_at hl 0 rfl) ?_
      refine iv_get (v' := .int (hI (O1 0 3))) hx hb hts inX3 hown hK hh.1 (ob_Orders) rfl 3 (by decide) (hts _ q1_155) rfl rfl (congrArg (fun z => Value.int (hI (z 0 3))) (gset_at _ _ _)) dX3_isNumber_11 ?_
      have hm3 : hIn (O1 0 3) := hIn_rd hh.2.1 (gset_at _ _ _) (by decide)
      refine iv_ki (iv_rV (As := [.int (hI (O1 0 3))]) (rest := []) E hh (ok_X3_signAt l hinj (gset S 8 O1) O1 (gset_at _ _ _) (O1 0 3) hm3) cb_X3_signAt q3_124 rfl rfl ⟨Nat.le_of_ble_eq_true rfl, Nat.le_of_ble_eq_true rfl⟩ (ob_Orders) rfl rfl rfl hl.1 rfl (Nat.le_of_ble_eq_true rfl) dX3_isNumber_14 ⟨Nat.zero_le _, Nat.zero_le _⟩) hh (fun hc4 H locs hh => ?_)
      refine lv_bipush (v := hI 48) hx hb dX3_isNumber_17 (by decide) ?_
      refine lv_bipush (v := hI 57) hx hb dX3_isNumber_19 (by decide) ?_
      refine iv_ki (iv_rN (As := [.int (hI (v_X3_signAt O1 (O1 0 3))), .int (hI 48), .int (hI 57)]) (rest := []) E hh (ok_X5_within l hinj (gset S 8 O1) (v_X3_signAt O1 (O1 0 3)) 48 57 hc4 ⟨by decide, by decide⟩ ⟨by decide, by decide⟩) cb_X5_within q3_136 rfl rfl ⟨Nat.le_of_ble_eq_true rfl, Nat.le_of_ble_eq_true rfl⟩ rfl hl.1 rfl (Nat.le_of_ble_eq_true rfl) dX3_isNumber_21 ⟨Nat.zero_le _, Nat.zero_le _⟩) hh (fun hc5 H locs hh => ?_)
      refine iv_if_eq (tgt := 60) hx hb hc5 dX3_isNumber_24 (by decide) (fun c6 => ?_) (fun c6 => ?_)
      · have h := h.1 c6
        refine lv_aload_n hx hb dX3_isNumber_60 rfl (lv_at hl 0 rfl) ?_
        refine iv_get (v' := .ref (ad 8 2)) hx hb hts inX3 hown hK hh.1 (ob_Orders) rfl 2 (by decide) (hts _ q1_154) rfl rfl rfl dX3_isNumber_61 ?_
        refine lv_iload_n hx hb dX3_isNumber_64 rfl (lv_at hl 1 rfl) ?_
        refine lv_iload_n hx hb dX3_isNumber_65 rfl (lv_at hl 2 rfl) ?_
        refine iv_kv (iv_rN (As := [.ref (ad 8 2), .int (hI which), .int (hI y2)]) (rest := []) E hh (ok_X5_put l hinj (gset S 8 O1) (ia_8_2) O1 (gset_at _ _ _) which y2 h_which h_y2) cb_X5_put q3_106 rfl rfl ⟨Nat.le_of_ble_eq_true rfl, Nat.le_of_ble_eq_true rfl⟩ rfl hl.1 rfl (Nat.le_of_ble_eq_true rfl) dX3_isNumber_66 ⟨Nat.zero_le _, Nat.zero_le _⟩) hh (fun H locs hh => ?_)
        replace hh : hH D ad cI cJ cF (gset S 8 (m_X5_put O1 2 3 which y2)) s H locs := by rw [← show _ = (gset S 8 (m_X5_put O1 2 3 which y2)) from (gset_gset _ _ _ _)]; exact hh
        refine lv_iload_n hx hb dX3_isNumber_69 rfl (lv_at hl 3 rfl) ?_
        refine iv_if_le (tgt := 77) hx hb h_y3 dX3_isNumber_70 (by decide) (fun c7 => ?_) (fun c7 => ?_)
        · have h := h.1 c7
          refine iv_iconst hx hb dX3_isNumber_77 ?_
          exact iv_bret E hh h.1 (by rw [← h.1]; exact (Or.inl rfl)) (by rw [← h.2]) dX3_isNumber_78
        · have h := h.2 c7
          refine iv_iconst hx hb dX3_isNumber_73 ?_
          refine lv_goto (tgt := 78) hx hb dX3_isNumber_74 (by decide) ?_
          exact iv_bret E hh h.1 (by rw [← h.1]; exact (Or.inr rfl)) (by rw [← h.2]) dX3_isNumber_78
      · have h := h.2 c6
        refine lv_iload_n hx hb dX3_isNumber_27 rfl (lv_at hl 2 rfl) ?_
        refine lv_bipush (v := hI 10) hx hb dX3_isNumber_28 (by decide) ?_
        refine iv_imul hx hb dX3_isNumber_30 ?_
        refine lv_aload_n hx hb dX3_isNumber_31 rfl (lv_at hl 0 rfl) ?_
        refine lv_aload_n hx hb dX3_isNumber_32 rfl (lv_at hl 0 rfl) ?_
        refine iv_get (v' := .int (hI (O1 0 3))) hx hb hts inX3 hown hK hh.1 (ob_Orders) rfl 3 (by decide) (hts _ q1_155) rfl rfl (congrArg (fun z => Value.int (hI (z 0 3))) (gset_at _ _ _)) dX3_isNumber_33 ?_
        have hm8 : hIn (O1 0 3) := hIn_rd hh.2.1 (gset_at _ _ _) (by decide)
        refine iv_ki (iv_rV (As := [.int (hI (O1 0 3))]) (rest := [.int (hI (y2 * 10))]) E hh (ok_X3_signAt l hinj (gset S 8 O1) O1 (gset_at _ _ _) (O1 0 3) hm8) cb_X3_signAt q3_124 rfl rfl ⟨Nat.le_of_ble_eq_true rfl, Nat.le_of_ble_eq_true rfl⟩ (ob_Orders) rfl rfl rfl hl.1 rfl (Nat.le_of_ble_eq_true rfl) dX3_isNumber_36 ⟨Nat.zero_le _, Nat.zero_le _⟩) hh (fun hc9 H locs hh => ?_)
        refine iv_iadd hx hb dX3_isNumber_39 ?_
        refine lv_bipush (v := hI 48) hx hb dX3_isNumber_40 (by decide) ?_
        refine iv_isub hx hb dX3_isNumber_42 ?_
        refine lv_istore_n (lv' := [(2, .int (hI (((y2 * 10) + (v_X3_signAt O1 (O1 0 3))) - 48))), (0, .ref (ad 8 0)), (1, .int (hI which)), (3, .int (hI y3))]) hx hb dX3_isNumber_43 rfl hl (by decide) rfl (fun ls hl => ?_)
        refine iv_iinc (lv' := [(3, .int (hI (y3 + 1))), (2, .int (hI (((y2 * 10) + (v_X3_signAt O1 (O1 0 3))) - 48))), (0, .ref (ad 8 0)), (1, .int (hI which))]) hx hb dX3_isNumber_44 hl (k := 3) rfl (v := (y3 + 1)) rfl (by decide) rfl (fun ls hl => ?_)
        refine lv_aload_n hx hb dX3_isNumber_47 rfl (lv_at hl 2 rfl) ?_
        refine lv_dup hx hb dX3_isNumber_48 rfl ?_
        refine iv_get (v' := .int (hI (O1 0 3))) hx hb hts inX3 hown hK hh.1 (ob_Orders) rfl 3 (by decide) (hts _ q1_155) rfl rfl (congrArg (fun z => Value.int (hI (z 0 3))) (gset_at _ _ _)) dX3_isNumber_49 ?_
        have hm10 : hIn (O1 0 3) := hIn_rd hh.2.1 (gset_at _ _ _) (by decide)
        refine iv_iconst hx hb dX3_isNumber_52 ?_
        refine iv_iadd hx hb dX3_isNumber_53 ?_
        obtain ⟨g11, h⟩ := h
        refine iv_put (S' := (gset S 8 (aset O1 0 3 ((O1 0 3) + 1)))) (ty := .int) hx hb hts inX3 tyX3 tyX3_ok nmX3 hown hK hinj hh (by decide) un_Orders (Or.inl rfl) (ob_Orders) rfl 3 (by decide) (hts _ q1_155) rfl rfl (by decide +kernel) rfl rfl (Nat.le_of_ble_eq_true rfl) (pu_Orders_reached) (Or.inl g11) (by rw [show (gset S 8 O1) 8 = O1 from (gset_at _ _ _)]; exact (gset_gset _ _ _ _)) dX3_isNumber_54 (fun H locs hh => ?_)
        refine lv_goto (tgt := 4) hx hb dX3_isNumber_57 (by decide) ?_
        exact h H _ ls hh (lv_sub hl [2, 3, 1, 0] rfl)
  intro H locs ls hh hl
  have hl : lv_has ls 4 [(0, .ref (ad 8 0)), (1, .int (hI which))] := hl
  replace hh : hH D ad cI cJ cF (gset S 8 O) s H locs := by rw [← can1 hO]; exact hh
  have h := x_X3_isNumber O which h_which (fun i k hi => hIn_rd hh.2.1 (gset_at _ _ _) hi) hp (fun y2 y3 O1 => (hAt D ad cI cJ cF p l e ({ frames := 2, cells := 0, slots := 0, locals := 42 } : Room) s m args below meth c (MQ below (hQi D ad cI cJ cF (v_X3_isNumber O which) (gset S 8 (m_X3_isNumber O which))) args s 0 0 (hAd ad)) 4 4 [(0, .ref (ad 8 0)), (1, .int (hI which)), (2, .int (hI y2)), (3, .int (hI y3))] (gset S 8 O1))) (fun r O1 => (r = v_X3_isNumber O which ∧ O1 = m_X3_isNumber O which)) r4 ⟨rfl, rfl⟩
  refine iv_iconst hx hb dX3_isNumber_0 ?_
  refine lv_istore_n (lv' := [(2, .int (hI 0)), (0, .ref (ad 8 0)), (1, .int (hI which))]) hx hb dX3_isNumber_1 rfl hl (by decide) rfl (fun ls hl => ?_)
  refine iv_iconst hx hb dX3_isNumber_2 ?_
  refine lv_istore_n (lv' := [(3, .int (hI 0)), (2, .int (hI 0)), (0, .ref (ad 8 0)), (1, .int (hI which))]) hx hb dX3_isNumber_3 rfl hl (by decide) rfl (fun ls hl => ?_)
  exact h H _ ls hh (lv_sub hl [2, 3, 1, 0] rfl)
set_option maxHeartbeats 4000000 in
set_option maxRecDepth 100000 in
theorem ok_X3_isOrder (l : Launch) (hinj : hInj ad) (S : hS) (O : hGM) (hO : S 8 = O) (start : Int) (h_start : hIn start) (hp : p_X3_isOrder O start) : hMi D ad cI cJ cF l yX3_isOrder cX3_isOrder 4 (some .boolean) ({ frames := 3, cells := 0, slots := 0, locals := 65 } : Room) [.ref (ad 8 0), .int (hI start)] S (v_X3_isOrder O start) (gset S 8 (m_X3_isOrder O start)) := by
  refine hOf (S := S) l hinj (by decide +kernel) (Nat.le_of_ble_eq_true rfl) (fun p e s m args below meth c E => ?_)
  obtain ⟨hx, hb, hml, hown, hts, hK, hN, -, hr, hlk⟩ := id E
  have hown : s.vm.findClass RX3 = some m.cls := hown
  have r32 : ∀ (y2 : Int) (y3 : Int) (O1 : hGM), hIn y2 → hIn y3 → ((∀ (i : Nat) (k : Int), i < 100 → hIn (O1 i k)) → ((y3 < y2 → (p_X3_isNumber O1 y3 ∧ (((v_X3_isNumber O1 y3) = 0 → (0 = v_X3_isOrder O start ∧ (m_X3_isNumber O1 y3) = m_X3_isOrder O start)) ∧ (¬ (v_X3_isNumber O1 y3) = 0 → (hIn (y3 + 1) ∧ (((y3 + 1) < y2 → (((v_X3_signAt (m_X3_isNumber O1 y3) ((m_X3_isNumber O1 y3) 0 3)) = 44 → (hIn (((m_X3_isNumber O1 y3) 0 3) + 1) ∧ (hAt D ad cI cJ cF p l e ({ frames := 3, cells := 0, slots := 0, locals := 65 } : Room) s m args below meth c (MQ below (hQi D ad cI cJ cF (v_X3_isOrder O start) (gset S 8 (m_X3_isOrder O start))) args s 0 0 (hAd ad)) 4 32 [(0, .ref (ad 8 0)), (2, .int (hI y2)), (3, .int (hI (y3 + 1)))] (gset S 8 (aset (m_X3_isNumber O1 y3) 0 3 (((m_X3_isNumber O1 y3) 0 3) + 1)))))) ∧ (¬ (v_X3_signAt (m_X3_isNumber O1 y3) ((m_X3_isNumber O1 y3) 0 3)) = 44 → (0 = v_X3_isOrder O start ∧ (m_X3_isNumber O1 y3) = m_X3_isOrder O start)))) ∧ (¬ (y3 + 1) < y2 → (((v_X3_signAt (m_X3_isNumber O1 y3) ((m_X3_isNumber O1 y3) 0 3)) = 59 → (hIn (((m_X3_isNumber O1 y3) 0 3) + 1) ∧ (hAt D ad cI cJ cF p l e ({ frames := 3, cells := 0, slots := 0, locals := 65 } : Room) s m args below meth c (MQ below (hQi D ad cI cJ cF (v_X3_isOrder O start) (gset S 8 (m_X3_isOrder O start))) args s 0 0 (hAd ad)) 4 32 [(0, .ref (ad 8 0)), (2, .int (hI y2)), (3, .int (hI (y3 + 1)))] (gset S 8 (aset (m_X3_isNumber O1 y3) 0 3 (((m_X3_isNumber O1 y3) 0 3) + 1)))))) ∧ (¬ (v_X3_signAt (m_X3_isNumber O1 y3) ((m_X3_isNumber O1 y3) 0 3)) = 59 → (0 = v_X3_isOrder O start ∧ (m_X3_isNumber O1 y3) = m_X3_isOrder O start)))))))))) ∧ (¬ y3 < y2 → (1 = v_X3_isOrder O start ∧ O1 = m_X3_isOrder O start)))) → (hAt D ad cI cJ cF p l e ({ frames := 3, cells := 0, slots := 0, locals := 65 } : Room) s m args below meth c (MQ below (hQi D ad cI cJ cF (v_X3_isOrder O start) (gset S 8 (m_X3_isOrder O start))) args s 0 0 (hAd ad)) 4 32 [(0, .ref (ad 8 0)), (2, .int (hI y2)), (3, .int (hI y3))] (gset S 8 O1)) := by
    intro y2 y3 O1 h_y2 h_y3 h H locs ls hh hl
    have h := h (fun i k hi => hIn_rd hh.2.1 (gset_at _ _ _) hi)
    refine lv_iload_n hx hb dX3_isOrder_32 rfl (lv_at hl 2 rfl) ?_
    refine lv_iload_n hx hb dX3_isOrder_33 rfl (lv_at hl 1 rfl) ?_
    refine iv_icmp_ge (tgt := 88) hx hb h_y3 h_y2 dX3_isOrder_34 (by decide) (fun c1 => ?_) (fun c1 => ?_)
    · have h := h.2 c1
      refine iv_iconst hx hb dX3_isOrder_88 ?_
      exact iv_bret E hh h.1 (by rw [← h.1]; exact (Or.inr rfl)) (by rw [← h.2]) dX3_isOrder_89
    · have h := h.1 c1
      refine lv_aload_n hx hb dX3_isOrder_37 rfl (lv_at hl 0 rfl) ?_
      refine lv_iload_n hx hb dX3_isOrder_38 rfl (lv_at hl 2 rfl) ?_
      obtain ⟨g2, h⟩ := h
      refine iv_ki (iv_rV (As := [.int (hI y3)]) (rest := []) E hh (ok_X3_isNumber l hinj (gset S 8 O1) O1 (gset_at _ _ _) y3 h_y3 g2) cb_X3_isNumber q3_132 rfl rfl ⟨Nat.le_of_ble_eq_true rfl, Nat.le_of_ble_eq_true rfl⟩ (ob_Orders) rfl rfl rfl hl.1 rfl (Nat.le_of_ble_eq_true rfl) dX3_isOrder_39 ⟨Nat.zero_le _, Nat.zero_le _⟩) hh (fun hc3 H locs hh => ?_)
      replace hh : hH D ad cI cJ cF (gset S 8 (m_X3_isNumber O1 y3)) s H locs := by rw [← show _ = (gset S 8 (m_X3_isNumber O1 y3)) from (gset_gset _ _ _ _)]; exact hh
      refine iv_if_eq (tgt := 70) hx hb hc3 dX3_isOrder_42 (by decide) (fun c4 => ?_) (fun c4 => ?_)
      · have h := h.1 c4
        refine iv_iconst hx hb dX3_isOrder_70 ?_
        exact iv_bret E hh h.1 (by rw [← h.1]; exact (Or.inl rfl)) (by rw [← h.2]) dX3_isOrder_71
      · have h := h.2 c4
        refine lv_aload_n hx hb dX3_isOrder_45 rfl (lv_at hl 0 rfl) ?_
        refine lv_aload_n hx hb dX3_isOrder_46 rfl (lv_at hl 0 rfl) ?_
        refine iv_get (v' := .int (hI ((m_X3_isNumber O1 y3) 0 3))) hx hb hts inX3 hown hK hh.1 (ob_Orders) rfl 3 (by decide) (hts _ q1_155) rfl rfl (congrArg (fun z => Value.int (hI (z 0 3))) (gset_at _ _ _)) dX3_isOrder_47 ?_
        have hm5 : hIn ((m_X3_isNumber O1 y3) 0 3) := hIn_rd hh.2.1 (gset_at _ _ _) (by decide)
        refine iv_ki (iv_rV (As := [.int (hI ((m_X3_isNumber O1 y3) 0 3))]) (rest := []) E hh (ok_X3_signAt l hinj (gset S 8 (m_X3_isNumber O1 y3)) (m_X3_isNumber O1 y3) (gset_at _ _ _) ((m_X3_isNumber O1 y3) 0 3) hm5) cb_X3_signAt q3_124 rfl rfl ⟨Nat.le_of_ble_eq_true rfl, Nat.le_of_ble_eq_true rfl⟩ (ob_Orders) rfl rfl rfl hl.1 rfl (Nat.le_of_ble_eq_true rfl) dX3_isOrder_50 ⟨Nat.zero_le _, Nat.zero_le _⟩) hh (fun hc6 H locs hh => ?_)
        refine lv_iload_n hx hb dX3_isOrder_53 rfl (lv_at hl 2 rfl) ?_
        refine iv_iconst hx hb dX3_isOrder_54 ?_
        refine iv_iadd hx hb dX3_isOrder_55 ?_
        refine lv_iload_n hx hb dX3_isOrder_56 rfl (lv_at hl 1 rfl) ?_
        obtain ⟨g7, h⟩ := h
        refine iv_icmp_ge (tgt := 65) hx hb g7 h_y2 dX3_isOrder_57 (by decide) (fun c8 => ?_) (fun c8 => ?_)
        · have h := h.2 c8
          refine lv_bipush (v := hI 59) hx hb dX3_isOrder_65 (by decide) ?_
          refine iv_icmp_eq (tgt := 72) hx hb hc6 ⟨by decide, by decide⟩ dX3_isOrder_67 (by decide) (fun c9 => ?_) (fun c9 => ?_)
          · have h := h.1 c9
            refine lv_aload_n hx hb dX3_isOrder_72 rfl (lv_at hl 0 rfl) ?_
            refine lv_dup hx hb dX3_isOrder_73 rfl ?_
            refine iv_get (v' := .int (hI ((m_X3_isNumber O1 y3) 0 3))) hx hb hts inX3 hown hK hh.1 (ob_Orders) rfl 3 (by decide) (hts _ q1_155) rfl rfl (congrArg (fun z => Value.int (hI (z 0 3))) (gset_at _ _ _)) dX3_isOrder_74 ?_
            have hm10 : hIn ((m_X3_isNumber O1 y3) 0 3) := hIn_rd hh.2.1 (gset_at _ _ _) (by decide)
            refine iv_iconst hx hb dX3_isOrder_77 ?_
            refine iv_iadd hx hb dX3_isOrder_78 ?_
            obtain ⟨g11, h⟩ := h
            refine iv_put (S' := (gset S 8 (aset (m_X3_isNumber O1 y3) 0 3 (((m_X3_isNumber O1 y3) 0 3) + 1)))) (ty := .int) hx hb hts inX3 tyX3 tyX3_ok nmX3 hown hK hinj hh (by decide) un_Orders (Or.inl rfl) (ob_Orders) rfl 3 (by decide) (hts _ q1_155) rfl rfl (by decide +kernel) rfl rfl (Nat.le_of_ble_eq_true rfl) (pu_Orders_reached) (Or.inl g11) (by rw [show (gset S 8 (m_X3_isNumber O1 y3)) 8 = (m_X3_isNumber O1 y3) from (gset_at _ _ _)]; exact (gset_gset _ _ _ _)) dX3_isOrder_79 (fun H locs hh => ?_)
            refine iv_iinc (lv' := [(3, .int (hI (y3 + 1))), (0, .ref (ad 8 0)), (2, .int (hI y2))]) hx hb dX3_isOrder_82 hl (k := 2) rfl (v := (y3 + 1)) rfl (by decide) rfl (fun ls hl => ?_)
            refine lv_goto (tgt := 32) hx hb dX3_isOrder_85 (by decide) ?_
            exact h H _ ls hh (lv_sub hl [1, 2, 0] rfl)
          · have h := h.2 c9
            refine iv_iconst hx hb dX3_isOrder_70 ?_
            exact iv_bret E hh h.1 (by rw [← h.1]; exact (Or.inl rfl)) (by rw [← h.2]) dX3_isOrder_71
        · have h := h.1 c8
          refine lv_bipush (v := hI 44) hx hb dX3_isOrder_60 (by decide) ?_
          refine lv_goto (tgt := 67) hx hb dX3_isOrder_62 (by decide) ?_
          refine iv_icmp_eq (tgt := 72) hx hb hc6 ⟨by decide, by decide⟩ dX3_isOrder_67 (by decide) (fun c12 => ?_) (fun c12 => ?_)
          · have h := h.1 c12
            refine lv_aload_n hx hb dX3_isOrder_72 rfl (lv_at hl 0 rfl) ?_
            refine lv_dup hx hb dX3_isOrder_73 rfl ?_
            refine iv_get (v' := .int (hI ((m_X3_isNumber O1 y3) 0 3))) hx hb hts inX3 hown hK hh.1 (ob_Orders) rfl 3 (by decide) (hts _ q1_155) rfl rfl (congrArg (fun z => Value.int (hI (z 0 3))) (gset_at _ _ _)) dX3_isOrder_74 ?_
            have hm13 : hIn ((m_X3_isNumber O1 y3) 0 3) := hIn_rd hh.2.1 (gset_at _ _ _) (by decide)
            refine iv_iconst hx hb dX3_isOrder_77 ?_
            refine iv_iadd hx hb dX3_isOrder_78 ?_
            obtain ⟨g14, h⟩ := h
            refine iv_put (S' := (gset S 8 (aset (m_X3_isNumber O1 y3) 0 3 (((m_X3_isNumber O1 y3) 0 3) + 1)))) (ty := .int) hx hb hts inX3 tyX3 tyX3_ok nmX3 hown hK hinj hh (by decide) un_Orders (Or.inl rfl) (ob_Orders) rfl 3 (by decide) (hts _ q1_155) rfl rfl (by decide +kernel) rfl rfl (Nat.le_of_ble_eq_true rfl) (pu_Orders_reached) (Or.inl g14) (by rw [show (gset S 8 (m_X3_isNumber O1 y3)) 8 = (m_X3_isNumber O1 y3) from (gset_at _ _ _)]; exact (gset_gset _ _ _ _)) dX3_isOrder_79 (fun H locs hh => ?_)
            refine iv_iinc (lv' := [(3, .int (hI (y3 + 1))), (0, .ref (ad 8 0)), (2, .int (hI y2))]) hx hb dX3_isOrder_82 hl (k := 2) rfl (v := (y3 + 1)) rfl (by decide) rfl (fun ls hl => ?_)
            refine lv_goto (tgt := 32) hx hb dX3_isOrder_85 (by decide) ?_
            exact h H _ ls hh (lv_sub hl [1, 2, 0] rfl)
          · have h := h.2 c12
            refine iv_iconst hx hb dX3_isOrder_70 ?_
            exact iv_bret E hh h.1 (by rw [← h.1]; exact (Or.inl rfl)) (by rw [← h.2]) dX3_isOrder_71
  intro H locs ls hh hl
  have hl : lv_has ls 4 [(0, .ref (ad 8 0)), (1, .int (hI start))] := hl
  replace hh : hH D ad cI cJ cF (gset S 8 O) s H locs := by rw [← can1 hO]; exact hh
  have h := x_X3_isOrder O start h_start (fun i k hi => hIn_rd hh.2.1 (gset_at _ _ _) hi) hp (fun y2 y3 O1 => (hAt D ad cI cJ cF p l e ({ frames := 3, cells := 0, slots := 0, locals := 65 } : Room) s m args below meth c (MQ below (hQi D ad cI cJ cF (v_X3_isOrder O start) (gset S 8 (m_X3_isOrder O start))) args s 0 0 (hAd ad)) 4 32 [(0, .ref (ad 8 0)), (2, .int (hI y2)), (3, .int (hI y3))] (gset S 8 O1))) (fun r O1 => (r = v_X3_isOrder O start ∧ O1 = m_X3_isOrder O start)) r32 ⟨rfl, rfl⟩
  refine lv_aload_n hx hb dX3_isOrder_0 rfl (lv_at hl 0 rfl) ?_
  refine lv_iload_n hx hb dX3_isOrder_1 rfl (lv_at hl 1 rfl) ?_
  refine iv_put (S' := (gset S 8 (aset O 0 3 start))) (ty := .int) hx hb hts inX3 tyX3 tyX3_ok nmX3 hown hK hinj hh (by decide) un_Orders (Or.inl rfl) (ob_Orders) rfl 3 (by decide) (hts _ q1_155) rfl rfl (by decide +kernel) rfl rfl (Nat.le_of_ble_eq_true rfl) (pu_Orders_reached) (Or.inl h_start) (by rw [show (gset S 8 O) 8 = O from (gset_at _ _ _)]; exact (gset_gset _ _ _ _)) dX3_isOrder_2 (fun H locs hh => ?_)
  refine lv_aload_n hx hb dX3_isOrder_5 rfl (lv_at hl 0 rfl) ?_
  refine lv_iload_n hx hb dX3_isOrder_6 rfl (lv_at hl 1 rfl) ?_
  refine iv_ki (iv_rV (As := [.int (hI start)]) (rest := []) E hh (ok_X3_signAt l hinj (gset S 8 (aset O 0 3 start)) (aset O 0 3 start) (gset_at _ _ _) start h_start) cb_X3_signAt q3_124 rfl rfl ⟨Nat.le_of_ble_eq_true rfl, Nat.le_of_ble_eq_true rfl⟩ (ob_Orders) rfl rfl rfl hl.1 rfl (Nat.le_of_ble_eq_true rfl) dX3_isOrder_7 ⟨Nat.zero_le _, Nat.zero_le _⟩) hh (fun hc15 H locs hh => ?_)
  refine iv_ki (iv_rS (As := [.int (hI (v_X3_signAt (aset O 0 3 start) start))]) (rest := []) E hh (ok_X3_numbersOf l hinj (gset S 8 (aset O 0 3 start)) (v_X3_signAt (aset O 0 3 start) start) hc15) cb_X3_numbersOf q3_129 rfl rfl ⟨Nat.le_of_ble_eq_true rfl, Nat.le_of_ble_eq_true rfl⟩ rfl hl.1 rfl (Nat.le_of_ble_eq_true rfl) dX3_isOrder_10 ⟨Nat.zero_le _, Nat.zero_le _⟩) hh (fun hc16 H locs hh => ?_)
  refine lv_istore_n (lv' := [(2, .int (hI (v_X3_numbersOf (v_X3_signAt (aset O 0 3 start) start)))), (0, .ref (ad 8 0)), (1, .int (hI start))]) hx hb dX3_isOrder_13 rfl hl (by decide) rfl (fun ls hl => ?_)
  refine lv_iload_n hx hb dX3_isOrder_14 rfl (lv_at hl 0 rfl) ?_
  refine iv_if_ne (tgt := 20) hx hb hc16 dX3_isOrder_15 (by decide) (fun c17 => ?_) (fun c17 => ?_)
  · have h := h.2 c17
    refine lv_aload_n hx hb dX3_isOrder_20 rfl (lv_at hl 1 rfl) ?_
    refine lv_dup hx hb dX3_isOrder_21 rfl ?_
    refine iv_get (v' := .int (hI ((aset O 0 3 start) 0 3))) hx hb hts inX3 hown hK hh.1 (ob_Orders) rfl 3 (by decide) (hts _ q1_155) rfl rfl (congrArg (fun z => Value.int (hI (z 0 3))) (gset_at _ _ _)) dX3_isOrder_22 ?_
    have hm18 : hIn ((aset O 0 3 start) 0 3) := hIn_rd hh.2.1 (gset_at _ _ _) (by decide)
    refine iv_iconst hx hb dX3_isOrder_25 ?_
    refine iv_iadd hx hb dX3_isOrder_26 ?_
    obtain ⟨g19, h⟩ := h
    refine iv_put (S' := (gset S 8 (aset (aset O 0 3 start) 0 3 (((aset O 0 3 start) 0 3) + 1)))) (ty := .int) hx hb hts inX3 tyX3 tyX3_ok nmX3 hown hK hinj hh (by decide) un_Orders (Or.inl rfl) (ob_Orders) rfl 3 (by decide) (hts _ q1_155) rfl rfl (by decide +kernel) rfl rfl (Nat.le_of_ble_eq_true rfl) (pu_Orders_reached) (Or.inl g19) (by rw [show (gset S 8 (aset O 0 3 start)) 8 = (aset O 0 3 start) from (gset_at _ _ _)]; exact (gset_gset _ _ _ _)) dX3_isOrder_27 (fun H locs hh => ?_)
    refine iv_iconst hx hb dX3_isOrder_30 ?_
    refine lv_istore_n (lv' := [(3, .int (hI 0)), (2, .int (hI (v_X3_numbersOf (v_X3_signAt (aset O 0 3 start) start)))), (0, .ref (ad 8 0)), (1, .int (hI start))]) hx hb dX3_isOrder_31 rfl hl (by decide) rfl (fun ls hl => ?_)
    exact h H _ ls hh (lv_sub hl [2, 1, 0] rfl)
  · have h := h.1 c17
    refine iv_iconst hx hb dX3_isOrder_18 ?_
    exact iv_bret E hh h.1 (by rw [← h.1]; exact (Or.inl rfl)) (by rw [← h.2]) dX3_isOrder_19
set_option maxHeartbeats 4000000 in
set_option maxRecDepth 100000 in
theorem ok_X3_tell (l : Launch) (hinj : hInj ad) (S : hS) (O : hGM) (hO : S 8 = O) (at1 : Int) (why : Int) (because : Int) (h_at1 : hIn at1) (h_why : hIn why) (h_because : hIn because) : hMv D ad cI cJ cF l yX3_tell cX3_tell 4 ({ frames := 0, cells := 0, slots := 0, locals := 0 } : Room) [.ref (ad 8 0), .int (hI at1), .int (hI why), .int (hI because)] S (gset S 8 (m_X3_tell O at1 why because)) := by
  refine hOf (S := S) l hinj (by decide +kernel) (Nat.le_of_ble_eq_true rfl) (fun p e s m args below meth c E => ?_)
  obtain ⟨hx, hb, hml, hown, hts, hK, hN, -, hr, hlk⟩ := id E
  have hown : s.vm.findClass RX3 = some m.cls := hown
  intro H locs ls hh hl
  have hl : lv_has ls 4 [(0, .ref (ad 8 0)), (1, .int (hI at1)), (2, .int (hI why)), (3, .int (hI because))] := hl
  replace hh : hH D ad cI cJ cF (gset S 8 O) s H locs := by rw [← can1 hO]; exact hh
  refine lv_aload_n hx hb dX3_tell_0 rfl (lv_at hl 0 rfl) ?_
  refine lv_iload_n hx hb dX3_tell_1 rfl (lv_at hl 1 rfl) ?_
  refine iv_put (S' := (gset S 8 (aset O 0 5 at1))) (ty := .int) hx hb hts inX3 tyX3 tyX3_ok nmX3 hown hK hinj hh (by decide) un_Orders (Or.inl rfl) (ob_Orders) rfl 5 (by decide) (hts _ q1_158) rfl rfl (by decide +kernel) rfl rfl (Nat.le_of_ble_eq_true rfl) (pu_Orders_position) (Or.inl h_at1) (by rw [show (gset S 8 O) 8 = O from (gset_at _ _ _)]; exact (gset_gset _ _ _ _)) dX3_tell_2 (fun H locs hh => ?_)
  refine lv_aload_n hx hb dX3_tell_5 rfl (lv_at hl 0 rfl) ?_
  refine lv_iload_n hx hb dX3_tell_6 rfl (lv_at hl 2 rfl) ?_
  refine iv_put (S' := (gset S 8 (aset (aset O 0 5 at1) 0 6 why))) (ty := .int) hx hb hts inX3 tyX3 tyX3_ok nmX3 hown hK hinj hh (by decide) un_Orders (Or.inl rfl) (ob_Orders) rfl 6 (by decide) (hts _ q1_160) rfl rfl (by decide +kernel) rfl rfl (Nat.le_of_ble_eq_true rfl) (pu_Orders_reason) (Or.inl h_why) (by rw [show (gset S 8 (aset O 0 5 at1)) 8 = (aset O 0 5 at1) from (gset_at _ _ _)]; exact (gset_gset _ _ _ _)) dX3_tell_7 (fun H locs hh => ?_)
  refine lv_aload_n hx hb dX3_tell_10 rfl (lv_at hl 0 rfl) ?_
  refine lv_iload_n hx hb dX3_tell_11 rfl (lv_at hl 3 rfl) ?_
  refine iv_put (S' := (gset S 8 (aset (aset (aset O 0 5 at1) 0 6 why) 0 7 because))) (ty := .int) hx hb hts inX3 tyX3 tyX3_ok nmX3 hown hK hinj hh (by decide) un_Orders (Or.inl rfl) (ob_Orders) rfl 7 (by decide) (hts _ q1_162) rfl rfl (by decide +kernel) rfl rfl (Nat.le_of_ble_eq_true rfl) (pu_Orders_cause) (Or.inl h_because) (by rw [show (gset S 8 (aset (aset O 0 5 at1) 0 6 why)) 8 = (aset (aset O 0 5 at1) 0 6 why) from (gset_at _ _ _)]; exact (gset_gset _ _ _ _)) dX3_tell_12 (fun H locs hh => ?_)
  exact iv_vret E hh rfl dX3_tell_15
set_option maxHeartbeats 4000000 in
set_option maxRecDepth 100000 in
theorem ok_X3_carryOut (l : Launch) (hinj : hInj ad) (S : hS) {j : Nat} (hj : j < 7) (A : hGM) (hA : S j = A) (T : hGM) (hT : S 7 = T) (O : hGM) (hO : S 8 = O) (letter : Int) (h_letter : hIn letter) (hp : p_X3_carryOut A T O letter) : hMi D ad cI cJ cF l yX3_carryOut cX3_carryOut 5 (some .int) ({ frames := 5, cells := 0, slots := 0, locals := 125 } : Room) [.ref (ad 8 0), .int (hI letter), .ref (ad j 0), .ref (ad 7 0)] S (v_X3_carryOut A T O letter) (gset (gset S j (mA_X3_carryOut A T O letter)) 7 (mT_X3_carryOut A T O letter)) := by
  refine hOf (S := S) l hinj (by decide +kernel) (Nat.le_of_ble_eq_true rfl) (fun p e s m args below meth c E => ?_)
  obtain ⟨hx, hb, hml, hown, hts, hK, hN, -, hr, hlk⟩ := id E
  have hown : s.vm.findClass RX3 = some m.cls := hown
  intro H locs ls hh hl
  have hl : lv_has ls 5 [(0, .ref (ad 8 0)), (1, .int (hI letter)), (2, .ref (ad j 0)), (3, .ref (ad 7 0))] := hl
  replace hh : hH D ad cI cJ cF (gset (gset S j A) 7 T) s H locs := by rw [← can2 (Nat.ne_of_gt (Nat.lt_of_lt_of_le hj (by decide))) hA hT]; exact hh
  have h := hp
  unfold p_X3_carryOut at h
  refine lv_aload_n hx hb dX3_carryOut_0 rfl (lv_at hl 0 rfl) ?_
  refine iv_get (v' := .ref (ad 8 2)) hx hb hts inX3 hown hK hh.1 (ob_Orders) rfl 2 (by decide) (hts _ q1_154) rfl rfl rfl dX3_carryOut_1 ?_
  refine iv_iconst hx hb dX3_carryOut_4 ?_
  refine iv_ki (iv_rN (As := [.ref (ad 8 2), .int (hI 0)]) (rest := []) E hh (ok_X5_cell l hinj (gset (gset S j A) 7 T) (ia_8_2) O ((gset_ne (by decide)).trans ((gset_ne (Nat.ne_of_gt (Nat.lt_of_lt_of_le hj (by decide)))).trans hO)) 0 ⟨by decide, by decide⟩) cb_X5_cell q3_128 rfl rfl ⟨Nat.le_of_ble_eq_true rfl, Nat.le_of_ble_eq_true rfl⟩ rfl hl.1 rfl (Nat.le_of_ble_eq_true rfl) dX3_carryOut_5 ⟨Nat.zero_le _, Nat.zero_le _⟩) hh (fun hc1 H locs hh => ?_)
  refine lv_istore (lv' := [(4, .int (hI (v_X5_cell O 2 3 0))), (0, .ref (ad 8 0)), (1, .int (hI letter)), (2, .ref (ad j 0)), (3, .ref (ad 7 0))]) hx hb dX3_carryOut_8 hl (by decide) rfl (fun ls hl => ?_)
  refine lv_iload_n hx hb dX3_carryOut_10 rfl (lv_at hl 2 rfl) ?_
  by_cases c2 : letter = 103
  · have h := h.1 c2
    refine lv_lookup (off := 41) (tgt := 52) hx hb dX3_carryOut_11 (by decide) (by rw [hI_toInt h_letter, c2]; rfl) (by decide) ?_
    refine lv_aload_n hx hb dX3_carryOut_52 rfl (lv_at hl 3 rfl) ?_
    refine lv_iload hx hb dX3_carryOut_53 (lv_at hl 0 rfl) ?_
    obtain ⟨g3, h⟩ := h
    refine iv_ki (iv_rV (As := [.int (hI (v_X5_cell O 2 3 0))]) (rest := []) E hh (ok_X1_addGlyph l hinj (gset (gset S j A) 7 T) hj A ((gset_ne (Nat.ne_of_lt (Nat.lt_of_lt_of_le hj (by decide)))).trans (gset_at _ _ _)) (v_X5_cell O 2 3 0) hc1 g3) cb_X1_addGlyph q3_145 rfl rfl ⟨Nat.le_of_ble_eq_true rfl, Nat.le_of_ble_eq_true rfl⟩ (ob_Font hj) rfl rfl rfl hl.1 rfl (Nat.le_of_ble_eq_true rfl) dX3_carryOut_55 ⟨Nat.zero_le _, Nat.zero_le _⟩) hh (fun hc4 H locs hh => ?_)
    replace hh : hH D ad cI cJ cF (gset (gset S j (m_X1_addGlyph A (v_X5_cell O 2 3 0))) 7 T) s H locs := by rw [← show _ = (gset (gset S j (m_X1_addGlyph A (v_X5_cell O 2 3 0))) 7 T) from ((gset_comm (Nat.ne_of_lt (Nat.lt_of_lt_of_le hj (by decide)))).trans (congrArg (fun z => gset z 7 T) (gset_gset _ _ _ _)))]; exact hh
    exact iv_iret E hh (by unfold v_X3_carryOut; rw [if_pos c2]) (by rw [← show (v_X1_addGlyph A (v_X5_cell O 2 3 0)) = v_X3_carryOut A T O letter from (by unfold v_X3_carryOut; rw [if_pos c2])]; exact hc4) (by unfold mA_X3_carryOut; unfold mT_X3_carryOut; simp only [if_pos c2]) dX3_carryOut_58
  · have h := h.2 c2
    by_cases c5 : letter = 104
    · have h := h.1 c5
      refine lv_lookup (off := 71) (tgt := 82) hx hb dX3_carryOut_11 (by decide) (by rw [hI_toInt h_letter, c5]; rfl) (by decide) ?_
      refine lv_aload_n hx hb dX3_carryOut_82 rfl (lv_at hl 3 rfl) ?_
      refine lv_iload hx hb dX3_carryOut_83 (lv_at hl 0 rfl) ?_
      refine lv_aload_n hx hb dX3_carryOut_85 rfl (lv_at hl 1 rfl) ?_
      refine iv_get (v' := .ref (ad 8 2)) hx hb hts inX3 hown hK hh.1 (ob_Orders) rfl 2 (by decide) (hts _ q1_154) rfl rfl rfl dX3_carryOut_86 ?_
      refine iv_iconst hx hb dX3_carryOut_89 ?_
      refine iv_ki (iv_rN (As := [.ref (ad 8 2), .int (hI 1)]) (rest := [.int (hI (v_X5_cell O 2 3 0)), .ref (ad j 0)]) E hh (ok_X5_cell l hinj (gset (gset S j A) 7 T) (ia_8_2) O ((gset_ne (by decide)).trans ((gset_ne (Nat.ne_of_gt (Nat.lt_of_lt_of_le hj (by decide)))).trans hO)) 1 ⟨by decide, by decide⟩) cb_X5_cell q3_128 rfl rfl ⟨Nat.le_of_ble_eq_true rfl, Nat.le_of_ble_eq_true rfl⟩ rfl hl.1 rfl (Nat.le_of_ble_eq_true rfl) dX3_carryOut_90 ⟨Nat.zero_le _, Nat.zero_le _⟩) hh (fun hc6 H locs hh => ?_)
      refine lv_aload_n hx hb dX3_carryOut_93 rfl (lv_at hl 1 rfl) ?_
      refine iv_get (v' := .ref (ad 8 2)) hx hb hts inX3 hown hK hh.1 (ob_Orders) rfl 2 (by decide) (hts _ q1_154) rfl rfl rfl dX3_carryOut_94 ?_
      refine iv_iconst hx hb dX3_carryOut_97 ?_
      refine iv_ki (iv_rN (As := [.ref (ad 8 2), .int (hI 2)]) (rest := [.int (hI (v_X5_cell O 2 3 1)), .int (hI (v_X5_cell O 2 3 0)), .ref (ad j 0)]) E hh (ok_X5_cell l hinj (gset (gset S j A) 7 T) (ia_8_2) O ((gset_ne (by decide)).trans ((gset_ne (Nat.ne_of_gt (Nat.lt_of_lt_of_le hj (by decide)))).trans hO)) 2 ⟨by decide, by decide⟩) cb_X5_cell q3_128 rfl rfl ⟨Nat.le_of_ble_eq_true rfl, Nat.le_of_ble_eq_true rfl⟩ rfl hl.1 rfl (Nat.le_of_ble_eq_true rfl) dX3_carryOut_98 ⟨Nat.zero_le _, Nat.zero_le _⟩) hh (fun hc7 H locs hh => ?_)
      obtain ⟨g8, h⟩ := h
      refine iv_ki (iv_rV (As := [.int (hI (v_X5_cell O 2 3 0)), .int (hI (v_X5_cell O 2 3 1)), .int (hI (v_X5_cell O 2 3 2))]) (rest := []) E hh (ok_X1_hintStem l hinj (gset (gset S j A) 7 T) hj A ((gset_ne (Nat.ne_of_lt (Nat.lt_of_lt_of_le hj (by decide)))).trans (gset_at _ _ _)) (v_X5_cell O 2 3 0) (v_X5_cell O 2 3 1) (v_X5_cell O 2 3 2) hc1 hc6 hc7 g8) cb_X1_hintStem q3_147 rfl rfl ⟨Nat.le_of_ble_eq_true rfl, Nat.le_of_ble_eq_true rfl⟩ (ob_Font hj) rfl rfl rfl hl.1 rfl (Nat.le_of_ble_eq_true rfl) dX3_carryOut_101 ⟨Nat.zero_le _, Nat.zero_le _⟩) hh (fun hc9 H locs hh => ?_)
      replace hh : hH D ad cI cJ cF (gset (gset S j (m_X1_hintStem A (v_X5_cell O 2 3 0) (v_X5_cell O 2 3 1) (v_X5_cell O 2 3 2))) 7 T) s H locs := by rw [← show _ = (gset (gset S j (m_X1_hintStem A (v_X5_cell O 2 3 0) (v_X5_cell O 2 3 1) (v_X5_cell O 2 3 2))) 7 T) from ((gset_comm (Nat.ne_of_lt (Nat.lt_of_lt_of_le hj (by decide)))).trans (congrArg (fun z => gset z 7 T) (gset_gset _ _ _ _)))]; exact hh
      exact iv_iret E hh (by unfold v_X3_carryOut; rw [if_neg c2, if_pos c5]) (by rw [← show (v_X1_hintStem A (v_X5_cell O 2 3 0) (v_X5_cell O 2 3 1) (v_X5_cell O 2 3 2)) = v_X3_carryOut A T O letter from (by unfold v_X3_carryOut; rw [if_neg c2, if_pos c5])]; exact hc9) (by unfold mA_X3_carryOut; unfold mT_X3_carryOut; simp only [if_neg c2, if_pos c5]) dX3_carryOut_104
    · have h := h.2 c5
      by_cases c10 : letter = 115
      · have h := h.1 c10
        refine lv_lookup (off := 48) (tgt := 59) hx hb dX3_carryOut_11 (by decide) (by rw [hI_toInt h_letter, c10]; rfl) (by decide) ?_
        refine lv_aload_n hx hb dX3_carryOut_59 rfl (lv_at hl 3 rfl) ?_
        refine lv_iload hx hb dX3_carryOut_60 (lv_at hl 0 rfl) ?_
        refine lv_aload_n hx hb dX3_carryOut_62 rfl (lv_at hl 1 rfl) ?_
        refine iv_get (v' := .ref (ad 8 2)) hx hb hts inX3 hown hK hh.1 (ob_Orders) rfl 2 (by decide) (hts _ q1_154) rfl rfl rfl dX3_carryOut_63 ?_
        refine iv_iconst hx hb dX3_carryOut_66 ?_
        refine iv_ki (iv_rN (As := [.ref (ad 8 2), .int (hI 1)]) (rest := [.int (hI (v_X5_cell O 2 3 0)), .ref (ad j 0)]) E hh (ok_X5_cell l hinj (gset (gset S j A) 7 T) (ia_8_2) O ((gset_ne (by decide)).trans ((gset_ne (Nat.ne_of_gt (Nat.lt_of_lt_of_le hj (by decide)))).trans hO)) 1 ⟨by decide, by decide⟩) cb_X5_cell q3_128 rfl rfl ⟨Nat.le_of_ble_eq_true rfl, Nat.le_of_ble_eq_true rfl⟩ rfl hl.1 rfl (Nat.le_of_ble_eq_true rfl) dX3_carryOut_67 ⟨Nat.zero_le _, Nat.zero_le _⟩) hh (fun hc11 H locs hh => ?_)
        refine lv_aload_n hx hb dX3_carryOut_70 rfl (lv_at hl 1 rfl) ?_
        refine iv_get (v' := .ref (ad 8 2)) hx hb hts inX3 hown hK hh.1 (ob_Orders) rfl 2 (by decide) (hts _ q1_154) rfl rfl rfl dX3_carryOut_71 ?_
        refine iv_iconst hx hb dX3_carryOut_74 ?_
        refine iv_ki (iv_rN (As := [.ref (ad 8 2), .int (hI 2)]) (rest := [.int (hI (v_X5_cell O 2 3 1)), .int (hI (v_X5_cell O 2 3 0)), .ref (ad j 0)]) E hh (ok_X5_cell l hinj (gset (gset S j A) 7 T) (ia_8_2) O ((gset_ne (by decide)).trans ((gset_ne (Nat.ne_of_gt (Nat.lt_of_lt_of_le hj (by decide)))).trans hO)) 2 ⟨by decide, by decide⟩) cb_X5_cell q3_128 rfl rfl ⟨Nat.le_of_ble_eq_true rfl, Nat.le_of_ble_eq_true rfl⟩ rfl hl.1 rfl (Nat.le_of_ble_eq_true rfl) dX3_carryOut_75 ⟨Nat.zero_le _, Nat.zero_le _⟩) hh (fun hc12 H locs hh => ?_)
        obtain ⟨g13, h⟩ := h
        refine iv_ki (iv_rV (As := [.int (hI (v_X5_cell O 2 3 0)), .int (hI (v_X5_cell O 2 3 1)), .int (hI (v_X5_cell O 2 3 2))]) (rest := []) E hh (ok_X1_addStem l hinj (gset (gset S j A) 7 T) hj A ((gset_ne (Nat.ne_of_lt (Nat.lt_of_lt_of_le hj (by decide)))).trans (gset_at _ _ _)) (v_X5_cell O 2 3 0) (v_X5_cell O 2 3 1) (v_X5_cell O 2 3 2) hc1 hc11 hc12 g13) cb_X1_addStem q3_146 rfl rfl ⟨Nat.le_of_ble_eq_true rfl, Nat.le_of_ble_eq_true rfl⟩ (ob_Font hj) rfl rfl rfl hl.1 rfl (Nat.le_of_ble_eq_true rfl) dX3_carryOut_78 ⟨Nat.zero_le _, Nat.zero_le _⟩) hh (fun hc14 H locs hh => ?_)
        replace hh : hH D ad cI cJ cF (gset (gset S j (m_X1_addStem A (v_X5_cell O 2 3 0) (v_X5_cell O 2 3 1) (v_X5_cell O 2 3 2))) 7 T) s H locs := by rw [← show _ = (gset (gset S j (m_X1_addStem A (v_X5_cell O 2 3 0) (v_X5_cell O 2 3 1) (v_X5_cell O 2 3 2))) 7 T) from ((gset_comm (Nat.ne_of_lt (Nat.lt_of_lt_of_le hj (by decide)))).trans (congrArg (fun z => gset z 7 T) (gset_gset _ _ _ _)))]; exact hh
        exact iv_iret E hh (by unfold v_X3_carryOut; rw [if_neg c2, if_neg c5, if_pos c10]) (by rw [← show (v_X1_addStem A (v_X5_cell O 2 3 0) (v_X5_cell O 2 3 1) (v_X5_cell O 2 3 2)) = v_X3_carryOut A T O letter from (by unfold v_X3_carryOut; rw [if_neg c2, if_neg c5, if_pos c10])]; exact hc14) (by unfold mA_X3_carryOut; unfold mT_X3_carryOut; simp only [if_neg c2, if_neg c5, if_pos c10]) dX3_carryOut_81
      · have h := h.2 c10
        by_cases c15 : letter = 119
        · have h := h.1 c15
          refine lv_lookup (off := 94) (tgt := 105) hx hb dX3_carryOut_11 (by decide) (by rw [hI_toInt h_letter, c15]; rfl) (by decide) ?_
          refine lv_aload_n hx hb dX3_carryOut_105 rfl (lv_at hl 3 rfl) ?_
          refine lv_iload hx hb dX3_carryOut_106 (lv_at hl 0 rfl) ?_
          obtain ⟨g16, h⟩ := h
          refine iv_ki (iv_rV (As := [.int (hI (v_X5_cell O 2 3 0))]) (rest := []) E hh (ok_X1_addStandard l hinj (gset (gset S j A) 7 T) hj A ((gset_ne (Nat.ne_of_lt (Nat.lt_of_lt_of_le hj (by decide)))).trans (gset_at _ _ _)) (v_X5_cell O 2 3 0) hc1 g16) cb_X1_addStandard q3_148 rfl rfl ⟨Nat.le_of_ble_eq_true rfl, Nat.le_of_ble_eq_true rfl⟩ (ob_Font hj) rfl rfl rfl hl.1 rfl (Nat.le_of_ble_eq_true rfl) dX3_carryOut_108 ⟨Nat.zero_le _, Nat.zero_le _⟩) hh (fun hc17 H locs hh => ?_)
          replace hh : hH D ad cI cJ cF (gset (gset S j (m_X1_addStandard A (v_X5_cell O 2 3 0))) 7 T) s H locs := by rw [← show _ = (gset (gset S j (m_X1_addStandard A (v_X5_cell O 2 3 0))) 7 T) from ((gset_comm (Nat.ne_of_lt (Nat.lt_of_lt_of_le hj (by decide)))).trans (congrArg (fun z => gset z 7 T) (gset_gset _ _ _ _)))]; exact hh
          exact iv_iret E hh (by unfold v_X3_carryOut; rw [if_neg c2, if_neg c5, if_neg c10, if_pos c15]) (by rw [← show (v_X1_addStandard A (v_X5_cell O 2 3 0)) = v_X3_carryOut A T O letter from (by unfold v_X3_carryOut; rw [if_neg c2, if_neg c5, if_neg c10, if_pos c15])]; exact hc17) (by unfold mA_X3_carryOut; unfold mT_X3_carryOut; simp only [if_neg c2, if_neg c5, if_neg c10, if_pos c15]) dX3_carryOut_111
        · have h := h.2 c15
          refine lv_lookup (off := 101) (tgt := 112) hx hb dX3_carryOut_11 (by decide) (by rw [hI_toInt h_letter]; simp only [Op.lookupswitch.offset, if_neg (Ne.symm c2), if_neg (Ne.symm c5), if_neg (Ne.symm c10), if_neg (Ne.symm c15)]) (by decide) ?_
          refine lv_aload_n hx hb dX3_carryOut_112 rfl (lv_at hl 3 rfl) ?_
          refine lv_iload hx hb dX3_carryOut_113 (lv_at hl 0 rfl) ?_
          refine lv_aload_n hx hb dX3_carryOut_115 rfl (lv_at hl 4 rfl) ?_
          obtain ⟨g18, h⟩ := h
          refine iv_ki (iv_rV (As := [.int (hI (v_X5_cell O 2 3 0)), .ref (ad 7 0)]) (rest := []) E hh (ok_X1_makeSheet l hinj (gset (gset S j A) 7 T) hj A ((gset_ne (Nat.ne_of_lt (Nat.lt_of_lt_of_le hj (by decide)))).trans (gset_at _ _ _)) T (gset_at _ _ _) (v_X5_cell O 2 3 0) hc1 g18) cb_X1_makeSheet q3_149 rfl rfl ⟨Nat.le_of_ble_eq_true rfl, Nat.le_of_ble_eq_true rfl⟩ (ob_Font hj) rfl rfl rfl hl.1 rfl (Nat.le_of_ble_eq_true rfl) dX3_carryOut_116 ⟨Nat.zero_le _, Nat.zero_le _⟩) hh (fun hc19 H locs hh => ?_)
          replace hh : hH D ad cI cJ cF (gset (gset S j (mA_X1_makeSheet A T (v_X5_cell O 2 3 0))) 7 (mT_X1_makeSheet A T (v_X5_cell O 2 3 0))) s H locs := by rw [← show _ = (gset (gset S j (mA_X1_makeSheet A T (v_X5_cell O 2 3 0))) 7 (mT_X1_makeSheet A T (v_X5_cell O 2 3 0))) from ((congrArg (fun z => gset z 7 (mT_X1_makeSheet A T (v_X5_cell O 2 3 0))) ((gset_comm (Nat.ne_of_lt (Nat.lt_of_lt_of_le hj (by decide)))).trans (congrArg (fun z => gset z 7 T) (gset_gset _ _ _ _)))).trans (gset_gset _ _ _ _))]; exact hh
          exact iv_iret E hh (by unfold v_X3_carryOut; rw [if_neg c2, if_neg c5, if_neg c10, if_neg c15]) (by rw [← show (v_X1_makeSheet A T (v_X5_cell O 2 3 0)) = v_X3_carryOut A T O letter from (by unfold v_X3_carryOut; rw [if_neg c2, if_neg c5, if_neg c10, if_neg c15])]; exact hc19) (by unfold mA_X3_carryOut; unfold mT_X3_carryOut; simp only [if_neg c2, if_neg c5, if_neg c10, if_neg c15]) dX3_carryOut_119
set_option maxHeartbeats 4000000 in
set_option maxRecDepth 100000 in
theorem ok_X3_run (l : Launch) (hinj : hInj ad) (S : hS) {j : Nat} (hj : j < 7) (A : hGM) (hA : S j = A) (T : hGM) (hT : S 7 = T) (O : hGM) (hO : S 8 = O) (hp : p_X3_run A T O) : hMv D ad cI cJ cF l yX3_run cX3_run 6 ({ frames := 6, cells := 0, slots := 0, locals := 149 } : Room) [.ref (ad 8 0), .ref (ad j 0), .ref (ad 7 0)] S (gset (gset (gset S j (mA_X3_run A T O)) 7 (mT_X3_run A T O)) 8 (mO_X3_run A T O)) := by
  refine hOf (S := S) l hinj (by decide +kernel) (Nat.le_of_ble_eq_true rfl) (fun p e s m args below meth c E => ?_)
  obtain ⟨hx, hb, hml, hown, hts, hK, hN, -, hr, hlk⟩ := id E
  have hown : s.vm.findClass RX3 = some m.cls := hown
  have r15 : ∀ (y3 : Int) (y4 : Int) (A1 : hGM) (T1 : hGM) (O1 : hGM), hIn y3 → hIn y4 → ((∀ (i : Nat) (k : Int), i < 100 → hIn (A1 i k)) → (∀ (i : Nat) (k : Int), i < 100 → hIn (T1 i k)) → (∀ (i : Nat) (k : Int), i < 100 → hIn (O1 i k)) → ((y4 < 60 → ((y3 < (O1 0 1) → (p_X3_isOrder O1 y3 ∧ (((v_X3_isOrder O1 y3) = 0 → (hIn (((m_X3_isOrder O1 y3) 0 3) - y3) ∧ (A1 = mA_X3_run A T O ∧ T1 = mT_X3_run A T O ∧ (m_X3_tell (m_X3_isOrder O1 y3) y3 1 (((m_X3_isOrder O1 y3) 0 3) - y3)) = mO_X3_run A T O))) ∧ (¬ (v_X3_isOrder O1 y3) = 0 → (p_X3_carryOut A1 T1 (m_X3_isOrder O1 y3) (v_X3_signAt (m_X3_isOrder O1 y3) y3) ∧ (((v_X3_carryOut A1 T1 (m_X3_isOrder O1 y3) (v_X3_signAt (m_X3_isOrder O1 y3) y3)) < 0 → ((mA_X3_carryOut A1 T1 (m_X3_isOrder O1 y3) (v_X3_signAt (m_X3_isOrder O1 y3) y3)) = mA_X3_run A T O ∧ (mT_X3_carryOut A1 T1 (m_X3_isOrder O1 y3) (v_X3_signAt (m_X3_isOrder O1 y3) y3)) = mT_X3_run A T O ∧ (m_X3_tell (m_X3_isOrder O1 y3) y3 2 (v_X3_carryOut A1 T1 (m_X3_isOrder O1 y3) (v_X3_signAt (m_X3_isOrder O1 y3) y3))) = mO_X3_run A T O)) ∧ (¬ (v_X3_carryOut A1 T1 (m_X3_isOrder O1 y3) (v_X3_signAt (m_X3_isOrder O1 y3) y3)) < 0 → (hIn (((m_X3_isOrder O1 y3) 0 4) + 1) ∧ (hAt D ad cI cJ cF p l e ({ frames := 6, cells := 0, slots := 0, locals := 149 } : Room) s m args below meth c (MQ below (hQv D ad cI cJ cF (gset (gset (gset S j (mA_X3_run A T O)) 7 (mT_X3_run A T O)) 8 (mO_X3_run A T O))) args s 0 0 (hAd ad)) 6 15 [(0, .ref (ad 8 0)), (1, .ref (ad j 0)), (2, .ref (ad 7 0)), (3, .int (hI ((aset (m_X3_isOrder O1 y3) 0 4 (((m_X3_isOrder O1 y3) 0 4) + 1)) 0 3))), (4, .int (hI (y4 + 1)))] (gset (gset (gset S j (mA_X3_carryOut A1 T1 (m_X3_isOrder O1 y3) (v_X3_signAt (m_X3_isOrder O1 y3) y3))) 7 (mT_X3_carryOut A1 T1 (m_X3_isOrder O1 y3) (v_X3_signAt (m_X3_isOrder O1 y3) y3))) 8 (aset (m_X3_isOrder O1 y3) 0 4 (((m_X3_isOrder O1 y3) 0 4) + 1)))))))))))) ∧ (¬ y3 < (O1 0 1) → (A1 = mA_X3_run A T O ∧ T1 = mT_X3_run A T O ∧ O1 = mO_X3_run A T O)))) ∧ (¬ y4 < 60 → (A1 = mA_X3_run A T O ∧ T1 = mT_X3_run A T O ∧ O1 = mO_X3_run A T O)))) → (hAt D ad cI cJ cF p l e ({ frames := 6, cells := 0, slots := 0, locals := 149 } : Room) s m args below meth c (MQ below (hQv D ad cI cJ cF (gset (gset (gset S j (mA_X3_run A T O)) 7 (mT_X3_run A T O)) 8 (mO_X3_run A T O))) args s 0 0 (hAd ad)) 6 15 [(0, .ref (ad 8 0)), (1, .ref (ad j 0)), (2, .ref (ad 7 0)), (3, .int (hI y3)), (4, .int (hI y4))] (gset (gset (gset S j A1) 7 T1) 8 O1)) := by
    intro y3 y4 A1 T1 O1 h_y3 h_y4 h H locs ls hh hl
    have h := h (fun i k hi => hIn_rd hh.2.1 ((gset_ne (Nat.ne_of_lt (Nat.lt_of_lt_of_le hj (by decide)))).trans ((gset_ne (Nat.ne_of_lt (Nat.lt_of_lt_of_le hj (by decide)))).trans (gset_at _ _ _))) hi) (fun i k hi => hIn_rd hh.2.1 ((gset_ne (by decide)).trans (gset_at _ _ _)) hi) (fun i k hi => hIn_rd hh.2.1 (gset_at _ _ _) hi)
    refine lv_iload hx hb dX3_run_15 (lv_at hl 4 rfl) ?_
    refine lv_bipush (v := hI 60) hx hb dX3_run_17 (by decide) ?_
    refine iv_icmp_ge (tgt := 99) hx hb h_y4 ⟨by decide, by decide⟩ dX3_run_19 (by decide) (fun c1 => ?_) (fun c1 => ?_)
    · have h := h.2 c1
      exact iv_vret E hh (by rw [← h.1, ← h.2.1, ← h.2.2]) dX3_run_99
    · have h := h.1 c1
      refine lv_iload_n hx hb dX3_run_22 rfl (lv_at hl 3 rfl) ?_
      refine lv_aload_n hx hb dX3_run_23 rfl (lv_at hl 0 rfl) ?_
      refine iv_get (v' := .int (hI (O1 0 1))) hx hb hts inX3 hown hK hh.1 (ob_Orders) rfl 1 (by decide) (hts _ q1_152) rfl rfl (congrArg (fun z => Value.int (hI (z 0 1))) (gset_at _ _ _)) dX3_run_24 ?_
      have hm2 : hIn (O1 0 1) := hIn_rd hh.2.1 (gset_at _ _ _) (by decide)
      refine iv_icmp_ge (tgt := 99) hx hb h_y3 hm2 dX3_run_27 (by decide) (fun c3 => ?_) (fun c3 => ?_)
      · have h := h.2 c3
        exact iv_vret E hh (by rw [← h.1, ← h.2.1, ← h.2.2]) dX3_run_99
      · have h := h.1 c3
        refine lv_aload_n hx hb dX3_run_30 rfl (lv_at hl 0 rfl) ?_
        refine lv_iload_n hx hb dX3_run_31 rfl (lv_at hl 3 rfl) ?_
        obtain ⟨g4, h⟩ := h
        refine iv_ki (iv_rV (As := [.int (hI y3)]) (rest := []) E hh (ok_X3_isOrder l hinj (gset (gset (gset S j A1) 7 T1) 8 O1) O1 (gset_at _ _ _) y3 h_y3 g4) cb_X3_isOrder q3_120 rfl rfl ⟨Nat.le_of_ble_eq_true rfl, Nat.le_of_ble_eq_true rfl⟩ (ob_Orders) rfl rfl rfl hl.1 rfl (Nat.le_of_ble_eq_true rfl) dX3_run_32 ⟨Nat.zero_le _, Nat.zero_le _⟩) hh (fun hc5 H locs hh => ?_)
        replace hh : hH D ad cI cJ cF (gset (gset (gset S j A1) 7 T1) 8 (m_X3_isOrder O1 y3)) s H locs := by rw [← show _ = (gset (gset (gset S j A1) 7 T1) 8 (m_X3_isOrder O1 y3)) from (gset_gset _ _ _ _)]; exact hh
        refine iv_if_ne (tgt := 51) hx hb hc5 dX3_run_35 (by decide) (fun c6 => ?_) (fun c6 => ?_)
        · have h := h.2 c6
          refine lv_aload_n hx hb dX3_run_51 rfl (lv_at hl 0 rfl) ?_
          refine lv_aload_n hx hb dX3_run_52 rfl (lv_at hl 0 rfl) ?_
          refine lv_iload_n hx hb dX3_run_53 rfl (lv_at hl 3 rfl) ?_
          refine iv_ki (iv_rV (As := [.int (hI y3)]) (rest := [.ref (ad 8 0)]) E hh (ok_X3_signAt l hinj (gset (gset (gset S j A1) 7 T1) 8 (m_X3_isOrder O1 y3)) (m_X3_isOrder O1 y3) (gset_at _ _ _) y3 h_y3) cb_X3_signAt q3_124 rfl rfl ⟨Nat.le_of_ble_eq_true rfl, Nat.le_of_ble_eq_true rfl⟩ (ob_Orders) rfl rfl rfl hl.1 rfl (Nat.le_of_ble_eq_true rfl) dX3_run_54 ⟨Nat.zero_le _, Nat.zero_le _⟩) hh (fun hc7 H locs hh => ?_)
          refine lv_aload_n hx hb dX3_run_57 rfl (lv_at hl 1 rfl) ?_
          refine lv_aload_n hx hb dX3_run_58 rfl (lv_at hl 2 rfl) ?_
          obtain ⟨g8, h⟩ := h
          refine iv_ki (iv_rV (As := [.int (hI (v_X3_signAt (m_X3_isOrder O1 y3) y3)), .ref (ad j 0), .ref (ad 7 0)]) (rest := []) E hh (ok_X3_carryOut l hinj (gset (gset (gset S j A1) 7 T1) 8 (m_X3_isOrder O1 y3)) hj A1 ((gset_ne (Nat.ne_of_lt (Nat.lt_of_lt_of_le hj (by decide)))).trans ((gset_ne (Nat.ne_of_lt (Nat.lt_of_lt_of_le hj (by decide)))).trans (gset_at _ _ _))) T1 ((gset_ne (by decide)).trans (gset_at _ _ _)) (m_X3_isOrder O1 y3) (gset_at _ _ _) (v_X3_signAt (m_X3_isOrder O1 y3) y3) hc7 g8) cb_X3_carryOut q3_141 rfl rfl ⟨Nat.le_of_ble_eq_true rfl, Nat.le_of_ble_eq_true rfl⟩ (ob_Orders) rfl rfl rfl hl.1 rfl (Nat.le_of_ble_eq_true rfl) dX3_run_59 ⟨Nat.zero_le _, Nat.zero_le _⟩) hh (fun hc9 H locs hh => ?_)
          replace hh : hH D ad cI cJ cF (gset (gset (gset S j (mA_X3_carryOut A1 T1 (m_X3_isOrder O1 y3) (v_X3_signAt (m_X3_isOrder O1 y3) y3))) 7 (mT_X3_carryOut A1 T1 (m_X3_isOrder O1 y3) (v_X3_signAt (m_X3_isOrder O1 y3) y3))) 8 (m_X3_isOrder O1 y3)) s H locs := by rw [← show _ = (gset (gset (gset S j (mA_X3_carryOut A1 T1 (m_X3_isOrder O1 y3) (v_X3_signAt (m_X3_isOrder O1 y3) y3))) 7 (mT_X3_carryOut A1 T1 (m_X3_isOrder O1 y3) (v_X3_signAt (m_X3_isOrder O1 y3) y3))) 8 (m_X3_isOrder O1 y3)) from ((congrArg (fun z => gset z 7 (mT_X3_carryOut A1 T1 (m_X3_isOrder O1 y3) (v_X3_signAt (m_X3_isOrder O1 y3) y3))) ((gset_comm (Nat.ne_of_lt (Nat.lt_of_lt_of_le hj (by decide)))).trans (congrArg (fun z => gset z 8 (m_X3_isOrder O1 y3)) ((gset_comm (Nat.ne_of_lt (Nat.lt_of_lt_of_le hj (by decide)))).trans (congrArg (fun z => gset z 7 T1) (gset_gset _ _ _ _)))))).trans ((gset_comm (by decide)).trans (congrArg (fun z => gset z 8 (m_X3_isOrder O1 y3)) (gset_gset _ _ _ _))))]; exact hh
          refine lv_istore (lv' := [(5, .int (hI (v_X3_carryOut A1 T1 (m_X3_isOrder O1 y3) (v_X3_signAt (m_X3_isOrder O1 y3) y3)))), (0, .ref (ad 8 0)), (1, .ref (ad j 0)), (2, .ref (ad 7 0)), (3, .int (hI y3)), (4, .int (hI y4))]) hx hb dX3_run_62 hl (by decide) rfl (fun ls hl => ?_)
          refine lv_iload hx hb dX3_run_64 (lv_at hl 0 rfl) ?_
          refine iv_if_ge (tgt := 78) hx hb hc9 dX3_run_66 (by decide) (fun c10 => ?_) (fun c10 => ?_)
          · have h := h.2 c10
            refine lv_aload_n hx hb dX3_run_78 rfl (lv_at hl 1 rfl) ?_
            refine lv_dup hx hb dX3_run_79 rfl ?_
            refine iv_get (v' := .int (hI ((m_X3_isOrder O1 y3) 0 4))) hx hb hts inX3 hown hK hh.1 (ob_Orders) rfl 4 (by decide) (hts _ q1_156) rfl rfl (congrArg (fun z => Value.int (hI (z 0 4))) (gset_at _ _ _)) dX3_run_80 ?_
            have hm11 : hIn ((m_X3_isOrder O1 y3) 0 4) := hIn_rd hh.2.1 (gset_at _ _ _) (by decide)
            refine iv_iconst hx hb dX3_run_83 ?_
            refine iv_iadd hx hb dX3_run_84 ?_
            obtain ⟨g12, h⟩ := h
            refine iv_put (S' := (gset (gset (gset S j (mA_X3_carryOut A1 T1 (m_X3_isOrder O1 y3) (v_X3_signAt (m_X3_isOrder O1 y3) y3))) 7 (mT_X3_carryOut A1 T1 (m_X3_isOrder O1 y3) (v_X3_signAt (m_X3_isOrder O1 y3) y3))) 8 (aset (m_X3_isOrder O1 y3) 0 4 (((m_X3_isOrder O1 y3) 0 4) + 1)))) (ty := .int) hx hb hts inX3 tyX3 tyX3_ok nmX3 hown hK hinj hh (by decide) un_Orders (Or.inl rfl) (ob_Orders) rfl 4 (by decide) (hts _ q1_156) rfl rfl (by decide +kernel) rfl rfl (Nat.le_of_ble_eq_true rfl) (pu_Orders_done) (Or.inl g12) (by rw [show (gset (gset (gset S j (mA_X3_carryOut A1 T1 (m_X3_isOrder O1 y3) (v_X3_signAt (m_X3_isOrder O1 y3) y3))) 7 (mT_X3_carryOut A1 T1 (m_X3_isOrder O1 y3) (v_X3_signAt (m_X3_isOrder O1 y3) y3))) 8 (m_X3_isOrder O1 y3)) 8 = (m_X3_isOrder O1 y3) from (gset_at _ _ _)]; exact (gset_gset _ _ _ _)) dX3_run_85 (fun H locs hh => ?_)
            refine lv_aload_n hx hb dX3_run_88 rfl (lv_at hl 1 rfl) ?_
            refine iv_get (v' := .int (hI ((aset (m_X3_isOrder O1 y3) 0 4 (((m_X3_isOrder O1 y3) 0 4) + 1)) 0 3))) hx hb hts inX3 hown hK hh.1 (ob_Orders) rfl 3 (by decide) (hts _ q1_155) rfl rfl (congrArg (fun z => Value.int (hI (z 0 3))) (gset_at _ _ _)) dX3_run_89 ?_
            have hm13 : hIn ((aset (m_X3_isOrder O1 y3) 0 4 (((m_X3_isOrder O1 y3) 0 4) + 1)) 0 3) := hIn_rd hh.2.1 (gset_at _ _ _) (by decide)
            refine lv_istore_n (lv' := [(3, .int (hI ((aset (m_X3_isOrder O1 y3) 0 4 (((m_X3_isOrder O1 y3) 0 4) + 1)) 0 3))), (5, .int (hI (v_X3_carryOut A1 T1 (m_X3_isOrder O1 y3) (v_X3_signAt (m_X3_isOrder O1 y3) y3)))), (0, .ref (ad 8 0)), (1, .ref (ad j 0)), (2, .ref (ad 7 0)), (4, .int (hI y4))]) hx hb dX3_run_92 rfl hl (by decide) rfl (fun ls hl => ?_)
            refine iv_iinc (lv' := [(4, .int (hI (y4 + 1))), (3, .int (hI ((aset (m_X3_isOrder O1 y3) 0 4 (((m_X3_isOrder O1 y3) 0 4) + 1)) 0 3))), (5, .int (hI (v_X3_carryOut A1 T1 (m_X3_isOrder O1 y3) (v_X3_signAt (m_X3_isOrder O1 y3) y3)))), (0, .ref (ad 8 0)), (1, .ref (ad j 0)), (2, .ref (ad 7 0))]) hx hb dX3_run_93 hl (k := 5) rfl (v := (y4 + 1)) rfl (by decide) rfl (fun ls hl => ?_)
            refine lv_goto (tgt := 15) hx hb dX3_run_96 (by decide) ?_
            exact h H _ ls hh (lv_sub hl [3, 4, 5, 1, 0] rfl)
          · have h := h.1 c10
            refine lv_aload_n hx hb dX3_run_69 rfl (lv_at hl 1 rfl) ?_
            refine lv_iload_n hx hb dX3_run_70 rfl (lv_at hl 4 rfl) ?_
            refine iv_iconst hx hb dX3_run_71 ?_
            refine lv_iload hx hb dX3_run_72 (lv_at hl 0 rfl) ?_
            refine iv_kv (iv_rV (As := [.int (hI y3), .int (hI 2), .int (hI (v_X3_carryOut A1 T1 (m_X3_isOrder O1 y3) (v_X3_signAt (m_X3_isOrder O1 y3) y3)))]) (rest := []) E hh (ok_X3_tell l hinj (gset (gset (gset S j (mA_X3_carryOut A1 T1 (m_X3_isOrder O1 y3) (v_X3_signAt (m_X3_isOrder O1 y3) y3))) 7 (mT_X3_carryOut A1 T1 (m_X3_isOrder O1 y3) (v_X3_signAt (m_X3_isOrder O1 y3) y3))) 8 (m_X3_isOrder O1 y3)) (m_X3_isOrder O1 y3) (gset_at _ _ _) y3 2 (v_X3_carryOut A1 T1 (m_X3_isOrder O1 y3) (v_X3_signAt (m_X3_isOrder O1 y3) y3)) h_y3 ⟨by decide, by decide⟩ hc9) cb_X3_tell q3_137 rfl rfl ⟨Nat.le_of_ble_eq_true rfl, Nat.le_of_ble_eq_true rfl⟩ (ob_Orders) rfl rfl rfl hl.1 rfl (Nat.le_of_ble_eq_true rfl) dX3_run_74 ⟨Nat.zero_le _, Nat.zero_le _⟩) hh (fun H locs hh => ?_)
            replace hh : hH D ad cI cJ cF (gset (gset (gset S j (mA_X3_carryOut A1 T1 (m_X3_isOrder O1 y3) (v_X3_signAt (m_X3_isOrder O1 y3) y3))) 7 (mT_X3_carryOut A1 T1 (m_X3_isOrder O1 y3) (v_X3_signAt (m_X3_isOrder O1 y3) y3))) 8 (m_X3_tell (m_X3_isOrder O1 y3) y3 2 (v_X3_carryOut A1 T1 (m_X3_isOrder O1 y3) (v_X3_signAt (m_X3_isOrder O1 y3) y3)))) s H locs := by rw [← show _ = (gset (gset (gset S j (mA_X3_carryOut A1 T1 (m_X3_isOrder O1 y3) (v_X3_signAt (m_X3_isOrder O1 y3) y3))) 7 (mT_X3_carryOut A1 T1 (m_X3_isOrder O1 y3) (v_X3_signAt (m_X3_isOrder O1 y3) y3))) 8 (m_X3_tell (m_X3_isOrder O1 y3) y3 2 (v_X3_carryOut A1 T1 (m_X3_isOrder O1 y3) (v_X3_signAt (m_X3_isOrder O1 y3) y3)))) from (gset_gset _ _ _ _)]; exact hh
            exact iv_vret E hh (by rw [← h.1, ← h.2.1, ← h.2.2]) dX3_run_77
        · have h := h.1 c6
          refine lv_aload_n hx hb dX3_run_38 rfl (lv_at hl 0 rfl) ?_
          refine lv_iload_n hx hb dX3_run_39 rfl (lv_at hl 3 rfl) ?_
          refine iv_iconst hx hb dX3_run_40 ?_
          refine lv_aload_n hx hb dX3_run_41 rfl (lv_at hl 0 rfl) ?_
          refine iv_get (v' := .int (hI ((m_X3_isOrder O1 y3) 0 3))) hx hb hts inX3 hown hK hh.1 (ob_Orders) rfl 3 (by decide) (hts _ q1_155) rfl rfl (congrArg (fun z => Value.int (hI (z 0 3))) (gset_at _ _ _)) dX3_run_42 ?_
          have hm14 : hIn ((m_X3_isOrder O1 y3) 0 3) := hIn_rd hh.2.1 (gset_at _ _ _) (by decide)
          refine lv_iload_n hx hb dX3_run_45 rfl (lv_at hl 3 rfl) ?_
          refine iv_isub hx hb dX3_run_46 ?_
          obtain ⟨g15, h⟩ := h
          refine iv_kv (iv_rV (As := [.int (hI y3), .int (hI 1), .int (hI (((m_X3_isOrder O1 y3) 0 3) - y3))]) (rest := []) E hh (ok_X3_tell l hinj (gset (gset (gset S j A1) 7 T1) 8 (m_X3_isOrder O1 y3)) (m_X3_isOrder O1 y3) (gset_at _ _ _) y3 1 (((m_X3_isOrder O1 y3) 0 3) - y3) h_y3 ⟨by decide, by decide⟩ g15) cb_X3_tell q3_137 rfl rfl ⟨Nat.le_of_ble_eq_true rfl, Nat.le_of_ble_eq_true rfl⟩ (ob_Orders) rfl rfl rfl hl.1 rfl (Nat.le_of_ble_eq_true rfl) dX3_run_47 ⟨Nat.zero_le _, Nat.zero_le _⟩) hh (fun H locs hh => ?_)
          replace hh : hH D ad cI cJ cF (gset (gset (gset S j A1) 7 T1) 8 (m_X3_tell (m_X3_isOrder O1 y3) y3 1 (((m_X3_isOrder O1 y3) 0 3) - y3))) s H locs := by rw [← show _ = (gset (gset (gset S j A1) 7 T1) 8 (m_X3_tell (m_X3_isOrder O1 y3) y3 1 (((m_X3_isOrder O1 y3) 0 3) - y3))) from (gset_gset _ _ _ _)]; exact hh
          exact iv_vret E hh (by rw [← h.1, ← h.2.1, ← h.2.2]) dX3_run_50
  intro H locs ls hh hl
  have hl : lv_has ls 6 [(0, .ref (ad 8 0)), (1, .ref (ad j 0)), (2, .ref (ad 7 0))] := hl
  replace hh : hH D ad cI cJ cF (gset (gset (gset S j A) 7 T) 8 O) s H locs := by rw [← can3 (Nat.ne_of_gt (Nat.lt_of_lt_of_le hj (by decide))) (Nat.ne_of_gt (Nat.lt_of_lt_of_le hj (by decide))) (by decide) hA hT hO]; exact hh
  have h := x_X3_run A T O (fun i k hi => hIn_rd hh.2.1 ((gset_ne (Nat.ne_of_lt (Nat.lt_of_lt_of_le hj (by decide)))).trans ((gset_ne (Nat.ne_of_lt (Nat.lt_of_lt_of_le hj (by decide)))).trans (gset_at _ _ _))) hi) (fun i k hi => hIn_rd hh.2.1 ((gset_ne (by decide)).trans (gset_at _ _ _)) hi) (fun i k hi => hIn_rd hh.2.1 (gset_at _ _ _) hi) hp (fun y3 y4 A1 T1 O1 => (hAt D ad cI cJ cF p l e ({ frames := 6, cells := 0, slots := 0, locals := 149 } : Room) s m args below meth c (MQ below (hQv D ad cI cJ cF (gset (gset (gset S j (mA_X3_run A T O)) 7 (mT_X3_run A T O)) 8 (mO_X3_run A T O))) args s 0 0 (hAd ad)) 6 15 [(0, .ref (ad 8 0)), (1, .ref (ad j 0)), (2, .ref (ad 7 0)), (3, .int (hI y3)), (4, .int (hI y4))] (gset (gset (gset S j A1) 7 T1) 8 O1))) (fun A1 T1 O1 => (A1 = mA_X3_run A T O ∧ T1 = mT_X3_run A T O ∧ O1 = mO_X3_run A T O)) r15 ⟨rfl, rfl, rfl⟩
  refine lv_aload_n hx hb dX3_run_0 rfl (lv_at hl 0 rfl) ?_
  refine iv_iconst hx hb dX3_run_1 ?_
  refine iv_put (S' := (gset (gset (gset S j A) 7 T) 8 (aset O 0 4 0))) (ty := .int) hx hb hts inX3 tyX3 tyX3_ok nmX3 hown hK hinj hh (by decide) un_Orders (Or.inl rfl) (ob_Orders) rfl 4 (by decide) (hts _ q1_156) rfl rfl (by decide +kernel) rfl rfl (Nat.le_of_ble_eq_true rfl) (pu_Orders_done) (Or.inl ⟨by decide, by decide⟩) (by rw [show (gset (gset (gset S j A) 7 T) 8 O) 8 = O from (gset_at _ _ _)]; exact (gset_gset _ _ _ _)) dX3_run_2 (fun H locs hh => ?_)
  refine lv_aload_n hx hb dX3_run_5 rfl (lv_at hl 0 rfl) ?_
  refine iv_iconst hx hb dX3_run_6 ?_
  refine iv_put (S' := (gset (gset (gset S j A) 7 T) 8 (aset (aset O 0 4 0) 0 6 0))) (ty := .int) hx hb hts inX3 tyX3 tyX3_ok nmX3 hown hK hinj hh (by decide) un_Orders (Or.inl rfl) (ob_Orders) rfl 6 (by decide) (hts _ q1_160) rfl rfl (by decide +kernel) rfl rfl (Nat.le_of_ble_eq_true rfl) (pu_Orders_reason) (Or.inl ⟨by decide, by decide⟩) (by rw [show (gset (gset (gset S j A) 7 T) 8 (aset O 0 4 0)) 8 = (aset O 0 4 0) from (gset_at _ _ _)]; exact (gset_gset _ _ _ _)) dX3_run_7 (fun H locs hh => ?_)
  refine iv_iconst hx hb dX3_run_10 ?_
  refine lv_istore_n (lv' := [(3, .int (hI 0)), (0, .ref (ad 8 0)), (1, .ref (ad j 0)), (2, .ref (ad 7 0))]) hx hb dX3_run_11 rfl hl (by decide) rfl (fun ls hl => ?_)
  refine iv_iconst hx hb dX3_run_12 ?_
  refine lv_istore (lv' := [(4, .int (hI 0)), (3, .int (hI 0)), (0, .ref (ad 8 0)), (1, .ref (ad j 0)), (2, .ref (ad 7 0))]) hx hb dX3_run_13 hl (by decide) rfl (fun ls hl => ?_)
  exact h H _ ls hh (lv_sub hl [2, 3, 4, 1, 0] rfl)
end

section
variable {D : va_G} {ad : Nat → Nat → Nat} {cI cJ cF : ClassId}
set_option maxHeartbeats 4000000 in
set_option maxRecDepth 100000 in
theorem ok_X0_columnsOf (l : Launch) (hinj : hInj ad) (S : hS) (advance : Int) (size : Int) (h_advance : hIn advance) (h_size : hIn size) (hp : p_X0_columnsOf advance size) : hMi D ad cI cJ cF l yX0_columnsOf cX0_columnsOf 2 (some .int) ({ frames := 2, cells := 0, slots := 0, locals := 43 } : Room) [.int (hI advance), .int (hI size)] S (v_X0_columnsOf advance size) S := by
  refine hOf (S := S) l hinj (by decide +kernel) (Nat.le_of_ble_eq_true rfl) (fun p e s m args below meth c E => ?_)
  obtain ⟨hx, hb, hml, hown, hts, hK, hN, -, hr, hlk, hz⟩ := id E
  have hown : s.vm.findClass RX0 = some m.cls := hown
  intro H locs ls hh hl
  have hl : lv_has ls 2 [(0, .int (hI advance)), (1, .int (hI size))] := hl
  have h := hp
  unfold p_X0_columnsOf at h
  refine iv_iconst hx hb dX0_columnsOf_0 ?_
  refine lv_bipush (v := hI 64) hx hb dX0_columnsOf_1 (by decide) ?_
  refine lv_iload_n hx hb dX0_columnsOf_3 rfl (lv_at hl 0 rfl) ?_
  refine lv_iload_n hx hb dX0_columnsOf_4 rfl (lv_at hl 1 rfl) ?_
  obtain ⟨g1, h⟩ := h
  refine iv_ki (iv_rN (As := [.int (hI advance), .int (hI size)]) (rest := [.int (hI 64), .int (hI 1)]) E hh (ok_X5_inPixels l hinj S advance size h_advance h_size g1) cb_X5_inPixels q2_19 rfl rfl ⟨Nat.le_of_ble_eq_true rfl, Nat.le_of_ble_eq_true rfl⟩ rfl hl.1 rfl (Nat.le_of_ble_eq_true rfl) dX0_columnsOf_5 ⟨Nat.zero_le _, Nat.zero_le _⟩) hh (fun hc2 H locs hh => ?_)
  refine iv_ki (iv_rS (As := [.int (hI 64), .int (hI (v_X5_inPixels advance size))]) (rest := [.int (hI 1)]) E hh (ok_J9_min_7cf53 l hinj S 64 (v_X5_inPixels advance size) ⟨by decide, by decide⟩ hc2) cb_J9_min_7cf53 q2_25 rfl rfl ⟨Nat.le_of_ble_eq_true rfl, Nat.le_of_ble_eq_true rfl⟩ rfl hl.1 rfl (Nat.le_of_ble_eq_true rfl) dX0_columnsOf_8 ⟨Nat.zero_le _, Nat.zero_le _⟩) hh (fun hc3 H locs hh => ?_)
  refine iv_ki (iv_rS (As := [.int (hI 1), .int (hI (v_J9_min_7cf53 64 (v_X5_inPixels advance size)))]) (rest := []) E hh (ok_J9_max_7cf53 l hinj S 1 (v_J9_min_7cf53 64 (v_X5_inPixels advance size)) ⟨by decide, by decide⟩ hc3) cb_J9_max_7cf53 q2_28 rfl rfl ⟨Nat.le_of_ble_eq_true rfl, Nat.le_of_ble_eq_true rfl⟩ rfl hl.1 rfl (Nat.le_of_ble_eq_true rfl) dX0_columnsOf_11 ⟨Nat.zero_le _, Nat.zero_le _⟩) hh (fun hc4 H locs hh => ?_)
  exact iv_iret E hh rfl (by rw [← show (v_J9_max_7cf53 1 (v_J9_min_7cf53 64 (v_X5_inPixels advance size))) = v_X0_columnsOf advance size from rfl]; exact hc4) rfl dX0_columnsOf_14
set_option maxHeartbeats 4000000 in
set_option maxRecDepth 100000 in
theorem ok_X0_rounded (l : Launch) (hinj : hInj ad) (S : hS) {j : Nat} (hj : j < 7) (A : hGM) (hA : S j = A) (at1 : Int) (size : Int) (wide : Int) (h_at1 : hIn at1) (h_size : hIn size) (h_wide : hIn wide) (hp : p_X0_rounded A at1 size wide) : hMi D ad cI cJ cF l yX0_rounded cX0_rounded 6 (some .int) ({ frames := 2, cells := 0, slots := 0, locals := 43 } : Room) [.ref (ad j 0), .int (hI at1), .int (hI size), .int (hI wide)] S (v_X0_rounded A at1 size wide) S := by
  refine hOf (S := S) l hinj (by decide +kernel) (Nat.le_of_ble_eq_true rfl) (fun p e s m args below meth c E => ?_)
  obtain ⟨hx, hb, hml, hown, hts, hK, hN, -, hr, hlk, hz⟩ := id E
  have hown : s.vm.findClass RX0 = some m.cls := hown
  intro H locs ls hh hl
  have hl : lv_has ls 6 [(0, .ref (ad j 0)), (1, .int (hI at1)), (2, .int (hI size)), (3, .int (hI wide))] := hl
  have h := hp
  unfold p_X0_rounded at h
  refine lv_aload_n hx hb dX0_rounded_0 rfl (lv_at hl 0 rfl) ?_
  refine iv_getN (v' := .ref (ad j 3)) hx hb hts inX1 hown hK hh.1 (ob_Font hj) rfl 6 (by decide) (hN _ q1_71) rfl rfl rfl dX0_rounded_1 ?_
  refine lv_iload_n hx hb dX0_rounded_4 rfl (lv_at hl 1 rfl) ?_
  refine iv_ki (iv_rN (As := [.ref (ad j 3), .int (hI at1)]) (rest := []) E hh (ok_X5_cell l hinj S (ia_F_3 hj) A hA at1 h_at1) cb_X5_cell q2_15 rfl rfl ⟨Nat.le_of_ble_eq_true rfl, Nat.le_of_ble_eq_true rfl⟩ rfl hl.1 rfl (Nat.le_of_ble_eq_true rfl) dX0_rounded_5 ⟨Nat.zero_le _, Nat.zero_le _⟩) hh (fun hc1 H locs hh => ?_)
  refine lv_istore (lv' := [(4, .int (hI (v_X5_cell A 3 48 at1))), (0, .ref (ad j 0)), (1, .int (hI at1)), (2, .int (hI size)), (3, .int (hI wide))]) hx hb dX0_rounded_8 hl (by decide) rfl (fun ls hl => ?_)
  refine lv_aload_n hx hb dX0_rounded_10 rfl (lv_at hl 1 rfl) ?_
  refine iv_getN (v' := .ref (ad j 4)) hx hb hts inX1 hown hK hh.1 (ob_Font hj) rfl 7 (by decide) (hN _ q1_74) rfl rfl rfl dX0_rounded_11 ?_
  refine lv_iload_n hx hb dX0_rounded_14 rfl (lv_at hl 2 rfl) ?_
  refine iv_ki (iv_rN (As := [.ref (ad j 4), .int (hI at1)]) (rest := []) E hh (ok_X5_cell l hinj S (ia_F_4 hj) A hA at1 h_at1) cb_X5_cell q2_15 rfl rfl ⟨Nat.le_of_ble_eq_true rfl, Nat.le_of_ble_eq_true rfl⟩ rfl hl.1 rfl (Nat.le_of_ble_eq_true rfl) dX0_rounded_15 ⟨Nat.zero_le _, Nat.zero_le _⟩) hh (fun hc2 H locs hh => ?_)
  refine lv_istore (lv' := [(5, .int (hI (v_X5_cell A 4 48 at1))), (4, .int (hI (v_X5_cell A 3 48 at1))), (0, .ref (ad j 0)), (1, .int (hI at1)), (2, .int (hI size)), (3, .int (hI wide))]) hx hb dX0_rounded_18 hl (by decide) rfl (fun ls hl => ?_)
  refine lv_aload_n hx hb dX0_rounded_20 rfl (lv_at hl 2 rfl) ?_
  refine iv_getN (v' := .ref (ad j 5)) hx hb hts inX1 hown hK hh.1 (ob_Font hj) rfl 8 (by decide) (hN _ q1_77) rfl rfl rfl dX0_rounded_21 ?_
  refine lv_iload_n hx hb dX0_rounded_24 rfl (lv_at hl 3 rfl) ?_
  refine iv_ki (iv_rN (As := [.ref (ad j 5), .int (hI at1)]) (rest := []) E hh (ok_X5_cell l hinj S (ia_F_5 hj) A hA at1 h_at1) cb_X5_cell q2_15 rfl rfl ⟨Nat.le_of_ble_eq_true rfl, Nat.le_of_ble_eq_true rfl⟩ rfl hl.1 rfl (Nat.le_of_ble_eq_true rfl) dX0_rounded_25 ⟨Nat.zero_le _, Nat.zero_le _⟩) hh (fun hc3 H locs hh => ?_)
  by_cases c4 : (v_X5_cell A 5 48 at1) = 1
  · have h := h.1 c4
    refine lv_lookup (off := 28) (tgt := 56) hx hb dX0_rounded_28 (by decide) (by rw [hI_toInt hc3, c4]; rfl) (by decide) ?_
    refine iv_iconst hx hb dX0_rounded_56 ?_
    refine lv_iload hx hb dX0_rounded_57 (lv_at hl 1 rfl) ?_
    refine iv_imul hx hb dX0_rounded_59 ?_
    refine lv_iload hx hb dX0_rounded_60 (lv_at hl 0 rfl) ?_
    refine iv_iadd hx hb dX0_rounded_62 ?_
    refine lv_iload_n hx hb dX0_rounded_63 rfl (lv_at hl 4 rfl) ?_
    obtain ⟨g5, h⟩ := h
    obtain ⟨g6, h⟩ := h
    refine iv_ki (iv_rN (As := [.int (hI ((2 * (v_X5_cell A 3 48 at1)) + (v_X5_cell A 4 48 at1))), .int (hI size)]) (rest := []) E hh (ok_X5_inPixels l hinj S ((2 * (v_X5_cell A 3 48 at1)) + (v_X5_cell A 4 48 at1)) size g5 h_size g6) cb_X5_inPixels q2_19 rfl rfl ⟨Nat.le_of_ble_eq_true rfl, Nat.le_of_ble_eq_true rfl⟩ rfl hl.1 rfl (Nat.le_of_ble_eq_true rfl) dX0_rounded_64 ⟨Nat.zero_le _, Nat.zero_le _⟩) hh (fun hc7 H locs hh => ?_)
    refine lv_iload_n hx hb dX0_rounded_67 rfl (lv_at hl 5 rfl) ?_
    refine iv_isub hx hb dX0_rounded_68 ?_
    refine iv_iconst hx hb dX0_rounded_69 ?_
    obtain ⟨g8, h⟩ := h
    obtain ⟨g9, h⟩ := h
    refine iv_ki (iv_rS (As := [.int (hI ((v_X5_inPixels ((2 * (v_X5_cell A 3 48 at1)) + (v_X5_cell A 4 48 at1)) size) - wide)), .int (hI 2)]) (rest := []) E hh (ok_J9_floorDiv_7cf53 l hinj S ((v_X5_inPixels ((2 * (v_X5_cell A 3 48 at1)) + (v_X5_cell A 4 48 at1)) size) - wide) 2 g8 ⟨by decide, by decide⟩ g9) cb_J9_floorDiv_7cf53 q2_47 rfl rfl ⟨Nat.le_of_ble_eq_true rfl, Nat.le_of_ble_eq_true rfl⟩ rfl hl.1 rfl (Nat.le_of_ble_eq_true rfl) dX0_rounded_70 ⟨Nat.zero_le _, Nat.zero_le _⟩) hh (fun hc10 H locs hh => ?_)
    exact iv_iret E hh (by unfold v_X0_rounded; rw [if_pos c4]) (by rw [← show (v_J9_floorDiv_7cf53 ((v_X5_inPixels ((2 * (v_X5_cell A 3 48 at1)) + (v_X5_cell A 4 48 at1)) size) - wide) 2) = v_X0_rounded A at1 size wide from (by unfold v_X0_rounded; rw [if_pos c4])]; exact hc10) rfl dX0_rounded_73
  · have h := h.2 c4
    by_cases c11 : (v_X5_cell A 5 48 at1) = 2
    · have h := h.1 c11
      refine lv_lookup (off := 46) (tgt := 74) hx hb dX0_rounded_28 (by decide) (by rw [hI_toInt hc3, c11]; rfl) (by decide) ?_
      refine lv_iload hx hb dX0_rounded_74 (lv_at hl 1 rfl) ?_
      refine lv_iload hx hb dX0_rounded_76 (lv_at hl 0 rfl) ?_
      refine iv_iadd hx hb dX0_rounded_78 ?_
      refine lv_iload_n hx hb dX0_rounded_79 rfl (lv_at hl 4 rfl) ?_
      obtain ⟨g12, h⟩ := h
      obtain ⟨g13, h⟩ := h
      refine iv_ki (iv_rN (As := [.int (hI ((v_X5_cell A 3 48 at1) + (v_X5_cell A 4 48 at1))), .int (hI size)]) (rest := []) E hh (ok_X5_inPixels l hinj S ((v_X5_cell A 3 48 at1) + (v_X5_cell A 4 48 at1)) size g12 h_size g13) cb_X5_inPixels q2_19 rfl rfl ⟨Nat.le_of_ble_eq_true rfl, Nat.le_of_ble_eq_true rfl⟩ rfl hl.1 rfl (Nat.le_of_ble_eq_true rfl) dX0_rounded_80 ⟨Nat.zero_le _, Nat.zero_le _⟩) hh (fun hc14 H locs hh => ?_)
      refine lv_iload_n hx hb dX0_rounded_83 rfl (lv_at hl 5 rfl) ?_
      refine iv_isub hx hb dX0_rounded_84 ?_
      obtain ⟨g15, h⟩ := h
      exact iv_iret E hh (by unfold v_X0_rounded; rw [if_neg c4, if_pos c11]) (by rw [← show ((v_X5_inPixels ((v_X5_cell A 3 48 at1) + (v_X5_cell A 4 48 at1)) size) - wide) = v_X0_rounded A at1 size wide from (by unfold v_X0_rounded; rw [if_neg c4, if_pos c11])]; exact g15) rfl dX0_rounded_85
    · have h := h.2 c11
      refine lv_lookup (off := 58) (tgt := 86) hx hb dX0_rounded_28 (by decide) (by rw [hI_toInt hc3]; simp only [Op.lookupswitch.offset, if_neg (Ne.symm c4), if_neg (Ne.symm c11)]) (by decide) ?_
      refine lv_iload hx hb dX0_rounded_86 (lv_at hl 1 rfl) ?_
      refine lv_iload_n hx hb dX0_rounded_88 rfl (lv_at hl 4 rfl) ?_
      obtain ⟨g16, h⟩ := h
      refine iv_ki (iv_rN (As := [.int (hI (v_X5_cell A 3 48 at1)), .int (hI size)]) (rest := []) E hh (ok_X5_inPixels l hinj S (v_X5_cell A 3 48 at1) size hc1 h_size g16) cb_X5_inPixels q2_19 rfl rfl ⟨Nat.le_of_ble_eq_true rfl, Nat.le_of_ble_eq_true rfl⟩ rfl hl.1 rfl (Nat.le_of_ble_eq_true rfl) dX0_rounded_89 ⟨Nat.zero_le _, Nat.zero_le _⟩) hh (fun hc17 H locs hh => ?_)
      exact iv_iret E hh (by unfold v_X0_rounded; rw [if_neg c4, if_neg c11]) (by rw [← show (v_X5_inPixels (v_X5_cell A 3 48 at1) size) = v_X0_rounded A at1 size wide from (by unfold v_X0_rounded; rw [if_neg c4, if_neg c11])]; exact hc17) rfl dX0_rounded_92
set_option maxHeartbeats 4000000 in
set_option maxRecDepth 100000 in
theorem ok_X0_light (l : Launch) (hinj : hInj ad) (S : hS) (T : hGM) (hT : S 7 = T) (stem : Int) (left : Int) (wide : Int) (h_stem : hIn stem) (h_left : hIn left) (h_wide : hIn wide) (hp : p_X0_light T stem left wide) : hMv D ad cI cJ cF l yX0_light cX0_light 6 ({ frames := 1, cells := 0, slots := 0, locals := 22 } : Room) [.ref (ad 7 0), .int (hI stem), .int (hI left), .int (hI wide)] S (gset S 7 (m_X0_light T stem left wide)) := by
  refine hOf (S := S) l hinj (by decide +kernel) (Nat.le_of_ble_eq_true rfl) (fun p e s m args below meth c E => ?_)
  obtain ⟨hx, hb, hml, hown, hts, hK, hN, -, hr, hlk, hz⟩ := id E
  have hown : s.vm.findClass RX0 = some m.cls := hown
  have r63 : ∀ (y4 : Int) (y5 : Int) (T1 : hGM), hIn y4 → hIn y5 → ((∀ (i : Nat) (k : Int), i < 100 → hIn (T1 i k)) → ((y5 < y4 → (hAt D ad cI cJ cF p l e ({ frames := 1, cells := 0, slots := 0, locals := 22 } : Room) s m args below meth c (MQ below (hQv D ad cI cJ cF (gset S 7 (m_X0_light T stem left wide))) args s 0 0 (hAd ad)) 6 63 [(0, .ref (ad 7 0)), (4, .int (hI y4)), (5, .int (hI (y5 + 1)))] (gset S 7 (aset T1 100 0 (jOr (T1 100 0) (jShl 1 y5)))))) ∧ (¬ y5 < y4 → (T1 = m_X0_light T stem left wide)))) → (hAt D ad cI cJ cF p l e ({ frames := 1, cells := 0, slots := 0, locals := 22 } : Room) s m args below meth c (MQ below (hQv D ad cI cJ cF (gset S 7 (m_X0_light T stem left wide))) args s 0 0 (hAd ad)) 6 63 [(0, .ref (ad 7 0)), (4, .int (hI y4)), (5, .int (hI y5))] (gset S 7 T1)) := by
    intro y4 y5 T1 h_y4 h_y5 h H locs ls hh hl
    have h := h (fun i k hi => hIn_rd hh.2.1 (gset_at _ _ _) hi)
    refine lv_iload hx hb dX0_light_63 (lv_at hl 2 rfl) ?_
    refine lv_iload hx hb dX0_light_65 (lv_at hl 1 rfl) ?_
    refine iv_icmp_ge (tgt := 89) hx hb h_y5 h_y4 dX0_light_67 (by decide) (fun c1 => ?_) (fun c1 => ?_)
    · have h := h.2 c1
      exact iv_vret E hh (by rw [← h]) dX0_light_89
    · have h := h.1 c1
      refine lv_aload_n hx hb dX0_light_70 rfl (lv_at hl 0 rfl) ?_
      refine lv_dup hx hb dX0_light_71 rfl ?_
      refine iv_get (v' := .long (hJ (T1 100 0))) hx hb hts inX0 hown hK hh.1 (ob_Fit) rfl 3 (by decide) (hts _ q1_116) rfl rfl (congrArg (fun z => Value.long (hJ (z 100 0))) (gset_at _ _ _)) dX0_light_72 ?_
      refine lv_lconst (v := hJ 1) hx hb dX0_light_75 (by decide) ?_
      refine lv_iload hx hb dX0_light_76 (lv_at hl 2 rfl) ?_
      refine iv_lshl hx hb dX0_light_78 ?_
      refine iv_lor hx hb dX0_light_79 ?_
      refine iv_put (S' := (gset S 7 (aset T1 100 0 (jOr (T1 100 0) (jShl 1 y5))))) (ty := .long) hx hb hts inX0 tyX0 tyX0_ok nmX0 hown hK hinj hh (h112 (by decide)) un_Fit (Or.inr rfl) (ob_Fit) rfl 3 (by decide) (hts _ q1_116) rfl rfl (by decide +kernel) rfl rfl (Nat.le_of_ble_eq_true rfl) (pu_Fit_lit) (Or.inr (by decide)) (by rw [show (gset S 7 T1) 7 = T1 from (gset_at _ _ _)]; exact (gset_gset _ _ _ _)) dX0_light_80 (fun H locs hh => ?_)
      refine iv_iinc (lv' := [(5, .int (hI (y5 + 1))), (0, .ref (ad 7 0)), (4, .int (hI y4))]) hx hb dX0_light_83 hl (k := 2) rfl (v := (y5 + 1)) rfl (by decide) rfl (fun ls hl => ?_)
      refine lv_goto (tgt := 63) hx hb dX0_light_86 (by decide) ?_
      exact h H _ ls hh (lv_sub hl [1, 2, 0] rfl)
  intro H locs ls hh hl
  have hl : lv_has ls 6 [(0, .ref (ad 7 0)), (1, .int (hI stem)), (2, .int (hI left)), (3, .int (hI wide))] := hl
  replace hh : hH D ad cI cJ cF (gset S 7 T) s H locs := by rw [← can1 hT]; exact hh
  have h := x_X0_light T stem left wide h_stem h_left h_wide (fun i k hi => hIn_rd hh.2.1 (gset_at _ _ _) hi) hp (fun y4 y5 T1 => (hAt D ad cI cJ cF p l e ({ frames := 1, cells := 0, slots := 0, locals := 22 } : Room) s m args below meth c (MQ below (hQv D ad cI cJ cF (gset S 7 (m_X0_light T stem left wide))) args s 0 0 (hAd ad)) 6 63 [(0, .ref (ad 7 0)), (4, .int (hI y4)), (5, .int (hI y5))] (gset S 7 T1))) (fun T1 => (T1 = m_X0_light T stem left wide)) r63 rfl
  refine lv_aload_n hx hb dX0_light_0 rfl (lv_at hl 0 rfl) ?_
  refine iv_get (v' := .ref (ad 7 1)) hx hb hts inX0 hown hK hh.1 (ob_Fit) rfl 4 (by decide) (hts _ q1_118) rfl rfl rfl dX0_light_1 ?_
  refine lv_iload_n hx hb dX0_light_4 rfl (lv_at hl 1 rfl) ?_
  refine lv_iload_n hx hb dX0_light_5 rfl (lv_at hl 2 rfl) ?_
  refine iv_kv (iv_rN (As := [.ref (ad 7 1), .int (hI stem), .int (hI left)]) (rest := []) E hh (ok_X5_put l hinj (gset S 7 T) (ia_7_1) T (gset_at _ _ _) stem left h_stem h_left) cb_X5_put q2_52 rfl rfl ⟨Nat.le_of_ble_eq_true rfl, Nat.le_of_ble_eq_true rfl⟩ rfl hl.1 rfl (Nat.le_of_ble_eq_true rfl) dX0_light_6 ⟨Nat.zero_le _, Nat.zero_le _⟩) hh (fun H locs hh => ?_)
  replace hh : hH D ad cI cJ cF (gset S 7 (m_X5_put T 1 6 stem left)) s H locs := by rw [← show _ = (gset S 7 (m_X5_put T 1 6 stem left)) from (gset_gset _ _ _ _)]; exact hh
  refine lv_aload_n hx hb dX0_light_9 rfl (lv_at hl 0 rfl) ?_
  refine iv_get (v' := .ref (ad 7 2)) hx hb hts inX0 hown hK hh.1 (ob_Fit) rfl 5 (by decide) (hts _ q1_119) rfl rfl rfl dX0_light_10 ?_
  refine lv_iload_n hx hb dX0_light_13 rfl (lv_at hl 1 rfl) ?_
  refine lv_iload_n hx hb dX0_light_14 rfl (lv_at hl 3 rfl) ?_
  refine iv_kv (iv_rN (As := [.ref (ad 7 2), .int (hI stem), .int (hI wide)]) (rest := []) E hh (ok_X5_put l hinj (gset S 7 (m_X5_put T 1 6 stem left)) (ia_7_2) (m_X5_put T 1 6 stem left) (gset_at _ _ _) stem wide h_stem h_wide) cb_X5_put q2_52 rfl rfl ⟨Nat.le_of_ble_eq_true rfl, Nat.le_of_ble_eq_true rfl⟩ rfl hl.1 rfl (Nat.le_of_ble_eq_true rfl) dX0_light_15 ⟨Nat.zero_le _, Nat.zero_le _⟩) hh (fun H locs hh => ?_)
  replace hh : hH D ad cI cJ cF (gset S 7 (m_X5_put (m_X5_put T 1 6 stem left) 2 6 stem wide)) s H locs := by rw [← show _ = (gset S 7 (m_X5_put (m_X5_put T 1 6 stem left) 2 6 stem wide)) from (gset_gset _ _ _ _)]; exact hh
  refine lv_iload_n hx hb dX0_light_18 rfl (lv_at hl 2 rfl) ?_
  refine iv_if_lt (tgt := 32) hx hb h_left dX0_light_19 (by decide) (fun c2 => ?_) (fun c2 => ?_)
  · have h := h.1 c2
    refine lv_aload_n hx hb dX0_light_32 rfl (lv_at hl 0 rfl) ?_
    refine lv_dup hx hb dX0_light_33 rfl ?_
    refine iv_get (v' := .int (hI ((m_X5_put (m_X5_put T 1 6 stem left) 2 6 stem wide) 0 2))) hx hb hts inX0 hown hK hh.1 (ob_Fit) rfl 2 (by decide) (hts _ q1_115) rfl rfl (congrArg (fun z => Value.int (hI (z 0 2))) (gset_at _ _ _)) dX0_light_34 ?_
    have hm3 : hIn ((m_X5_put (m_X5_put T 1 6 stem left) 2 6 stem wide) 0 2) := hIn_rd hh.2.1 (gset_at _ _ _) (by decide)
    refine iv_iconst hx hb dX0_light_37 ?_
    refine lv_iload_n hx hb dX0_light_38 rfl (lv_at hl 1 rfl) ?_
    refine iv_ishl hx hb dX0_light_39 ?_
    refine iv_ior hx hb dX0_light_40 ?_
    refine iv_put (S' := (gset S 7 (aset (m_X5_put (m_X5_put T 1 6 stem left) 2 6 stem wide) 0 2 (iOr ((m_X5_put (m_X5_put T 1 6 stem left) 2 6 stem wide) 0 2) (iShl 1 stem))))) (ty := .int) hx hb hts inX0 tyX0 tyX0_ok nmX0 hown hK hinj hh (h112 (by decide)) un_Fit (Or.inl rfl) (ob_Fit) rfl 2 (by decide) (hts _ q1_115) rfl rfl (by decide +kernel) rfl rfl (Nat.le_of_ble_eq_true rfl) (pu_Fit_clipped) (Or.inl (hIn_toInt _)) (by rw [show (gset S 7 (m_X5_put (m_X5_put T 1 6 stem left) 2 6 stem wide)) 7 = (m_X5_put (m_X5_put T 1 6 stem left) 2 6 stem wide) from (gset_at _ _ _)]; exact (gset_gset _ _ _ _)) dX0_light_41 (fun H locs hh => ?_)
    refine lv_iload_n hx hb dX0_light_44 rfl (lv_at hl 2 rfl) ?_
    refine lv_iload_n hx hb dX0_light_45 rfl (lv_at hl 3 rfl) ?_
    refine iv_iadd hx hb dX0_light_46 ?_
    refine lv_aload_n hx hb dX0_light_47 rfl (lv_at hl 0 rfl) ?_
    refine iv_get (v' := .int (hI ((aset (m_X5_put (m_X5_put T 1 6 stem left) 2 6 stem wide) 0 2 (iOr ((m_X5_put (m_X5_put T 1 6 stem left) 2 6 stem wide) 0 2) (iShl 1 stem))) 0 0))) hx hb hts inX0 hown hK hh.1 (ob_Fit) rfl 0 (by decide) (hts _ q1_112) rfl rfl (congrArg (fun z => Value.int (hI (z 0 0))) (gset_at _ _ _)) dX0_light_48 ?_
    have hm4 : hIn ((aset (m_X5_put (m_X5_put T 1 6 stem left) 2 6 stem wide) 0 2 (iOr ((m_X5_put (m_X5_put T 1 6 stem left) 2 6 stem wide) 0 2) (iShl 1 stem))) 0 0) := hIn_rd hh.2.1 (gset_at _ _ _) (by decide)
    obtain ⟨g5, h⟩ := h
    refine iv_ki (iv_rS (As := [.int (hI (left + wide)), .int (hI ((aset (m_X5_put (m_X5_put T 1 6 stem left) 2 6 stem wide) 0 2 (iOr ((m_X5_put (m_X5_put T 1 6 stem left) 2 6 stem wide) 0 2) (iShl 1 stem))) 0 0))]) (rest := []) E hh (ok_J9_min_7cf53 l hinj (gset S 7 (aset (m_X5_put (m_X5_put T 1 6 stem left) 2 6 stem wide) 0 2 (iOr ((m_X5_put (m_X5_put T 1 6 stem left) 2 6 stem wide) 0 2) (iShl 1 stem)))) (left + wide) ((aset (m_X5_put (m_X5_put T 1 6 stem left) 2 6 stem wide) 0 2 (iOr ((m_X5_put (m_X5_put T 1 6 stem left) 2 6 stem wide) 0 2) (iShl 1 stem))) 0 0) g5 hm4) cb_J9_min_7cf53 q2_25 rfl rfl ⟨Nat.le_of_ble_eq_true rfl, Nat.le_of_ble_eq_true rfl⟩ rfl hl.1 rfl (Nat.le_of_ble_eq_true rfl) dX0_light_51 ⟨Nat.zero_le _, Nat.zero_le _⟩) hh (fun hc6 H locs hh => ?_)
    refine lv_istore (lv' := [(4, .int (hI (v_J9_min_7cf53 (left + wide) ((aset (m_X5_put (m_X5_put T 1 6 stem left) 2 6 stem wide) 0 2 (iOr ((m_X5_put (m_X5_put T 1 6 stem left) 2 6 stem wide) 0 2) (iShl 1 stem))) 0 0)))), (0, .ref (ad 7 0)), (1, .int (hI stem)), (2, .int (hI left)), (3, .int (hI wide))]) hx hb dX0_light_54 hl (by decide) rfl (fun ls hl => ?_)
    refine lv_iload_n hx hb dX0_light_56 rfl (lv_at hl 3 rfl) ?_
    refine iv_iconst hx hb dX0_light_57 ?_
    refine iv_ki (iv_rS (As := [.int (hI left), .int (hI 0)]) (rest := []) E hh (ok_J9_max_7cf53 l hinj (gset S 7 (aset (m_X5_put (m_X5_put T 1 6 stem left) 2 6 stem wide) 0 2 (iOr ((m_X5_put (m_X5_put T 1 6 stem left) 2 6 stem wide) 0 2) (iShl 1 stem)))) left 0 h_left ⟨by decide, by decide⟩) cb_J9_max_7cf53 q2_28 rfl rfl ⟨Nat.le_of_ble_eq_true rfl, Nat.le_of_ble_eq_true rfl⟩ rfl hl.1 rfl (Nat.le_of_ble_eq_true rfl) dX0_light_58 ⟨Nat.zero_le _, Nat.zero_le _⟩) hh (fun hc7 H locs hh => ?_)
    refine lv_istore (lv' := [(5, .int (hI (v_J9_max_7cf53 left 0))), (4, .int (hI (v_J9_min_7cf53 (left + wide) ((aset (m_X5_put (m_X5_put T 1 6 stem left) 2 6 stem wide) 0 2 (iOr ((m_X5_put (m_X5_put T 1 6 stem left) 2 6 stem wide) 0 2) (iShl 1 stem))) 0 0)))), (0, .ref (ad 7 0)), (1, .int (hI stem)), (2, .int (hI left)), (3, .int (hI wide))]) hx hb dX0_light_61 hl (by decide) rfl (fun ls hl => ?_)
    exact h H _ ls hh (lv_sub hl [2, 1, 0] rfl)
  · have h := h.2 c2
    refine lv_iload_n hx hb dX0_light_22 rfl (lv_at hl 2 rfl) ?_
    refine lv_iload_n hx hb dX0_light_23 rfl (lv_at hl 3 rfl) ?_
    refine iv_iadd hx hb dX0_light_24 ?_
    refine lv_aload_n hx hb dX0_light_25 rfl (lv_at hl 0 rfl) ?_
    refine iv_get (v' := .int (hI ((m_X5_put (m_X5_put T 1 6 stem left) 2 6 stem wide) 0 0))) hx hb hts inX0 hown hK hh.1 (ob_Fit) rfl 0 (by decide) (hts _ q1_112) rfl rfl (congrArg (fun z => Value.int (hI (z 0 0))) (gset_at _ _ _)) dX0_light_26 ?_
    have hm8 : hIn ((m_X5_put (m_X5_put T 1 6 stem left) 2 6 stem wide) 0 0) := hIn_rd hh.2.1 (gset_at _ _ _) (by decide)
    obtain ⟨g9, h⟩ := h
    refine iv_icmp_le (tgt := 44) hx hb g9 hm8 dX0_light_29 (by decide) (fun c10 => ?_) (fun c10 => ?_)
    · have h := h.1 c10
      refine lv_iload_n hx hb dX0_light_44 rfl (lv_at hl 2 rfl) ?_
      refine lv_iload_n hx hb dX0_light_45 rfl (lv_at hl 3 rfl) ?_
      refine iv_iadd hx hb dX0_light_46 ?_
      refine lv_aload_n hx hb dX0_light_47 rfl (lv_at hl 0 rfl) ?_
      refine iv_get (v' := .int (hI ((m_X5_put (m_X5_put T 1 6 stem left) 2 6 stem wide) 0 0))) hx hb hts inX0 hown hK hh.1 (ob_Fit) rfl 0 (by decide) (hts _ q1_112) rfl rfl (congrArg (fun z => Value.int (hI (z 0 0))) (gset_at _ _ _)) dX0_light_48 ?_
      have hm11 : hIn ((m_X5_put (m_X5_put T 1 6 stem left) 2 6 stem wide) 0 0) := hIn_rd hh.2.1 (gset_at _ _ _) (by decide)
      refine iv_ki (iv_rS (As := [.int (hI (left + wide)), .int (hI ((m_X5_put (m_X5_put T 1 6 stem left) 2 6 stem wide) 0 0))]) (rest := []) E hh (ok_J9_min_7cf53 l hinj (gset S 7 (m_X5_put (m_X5_put T 1 6 stem left) 2 6 stem wide)) (left + wide) ((m_X5_put (m_X5_put T 1 6 stem left) 2 6 stem wide) 0 0) g9 hm11) cb_J9_min_7cf53 q2_25 rfl rfl ⟨Nat.le_of_ble_eq_true rfl, Nat.le_of_ble_eq_true rfl⟩ rfl hl.1 rfl (Nat.le_of_ble_eq_true rfl) dX0_light_51 ⟨Nat.zero_le _, Nat.zero_le _⟩) hh (fun hc12 H locs hh => ?_)
      refine lv_istore (lv' := [(4, .int (hI (v_J9_min_7cf53 (left + wide) ((m_X5_put (m_X5_put T 1 6 stem left) 2 6 stem wide) 0 0)))), (0, .ref (ad 7 0)), (1, .int (hI stem)), (2, .int (hI left)), (3, .int (hI wide))]) hx hb dX0_light_54 hl (by decide) rfl (fun ls hl => ?_)
      refine lv_iload_n hx hb dX0_light_56 rfl (lv_at hl 3 rfl) ?_
      refine iv_iconst hx hb dX0_light_57 ?_
      refine iv_ki (iv_rS (As := [.int (hI left), .int (hI 0)]) (rest := []) E hh (ok_J9_max_7cf53 l hinj (gset S 7 (m_X5_put (m_X5_put T 1 6 stem left) 2 6 stem wide)) left 0 h_left ⟨by decide, by decide⟩) cb_J9_max_7cf53 q2_28 rfl rfl ⟨Nat.le_of_ble_eq_true rfl, Nat.le_of_ble_eq_true rfl⟩ rfl hl.1 rfl (Nat.le_of_ble_eq_true rfl) dX0_light_58 ⟨Nat.zero_le _, Nat.zero_le _⟩) hh (fun hc13 H locs hh => ?_)
      refine lv_istore (lv' := [(5, .int (hI (v_J9_max_7cf53 left 0))), (4, .int (hI (v_J9_min_7cf53 (left + wide) ((m_X5_put (m_X5_put T 1 6 stem left) 2 6 stem wide) 0 0)))), (0, .ref (ad 7 0)), (1, .int (hI stem)), (2, .int (hI left)), (3, .int (hI wide))]) hx hb dX0_light_61 hl (by decide) rfl (fun ls hl => ?_)
      exact h H _ ls hh (lv_sub hl [2, 1, 0] rfl)
    · have h := h.2 c10
      refine lv_aload_n hx hb dX0_light_32 rfl (lv_at hl 0 rfl) ?_
      refine lv_dup hx hb dX0_light_33 rfl ?_
      refine iv_get (v' := .int (hI ((m_X5_put (m_X5_put T 1 6 stem left) 2 6 stem wide) 0 2))) hx hb hts inX0 hown hK hh.1 (ob_Fit) rfl 2 (by decide) (hts _ q1_115) rfl rfl (congrArg (fun z => Value.int (hI (z 0 2))) (gset_at _ _ _)) dX0_light_34 ?_
      have hm14 : hIn ((m_X5_put (m_X5_put T 1 6 stem left) 2 6 stem wide) 0 2) := hIn_rd hh.2.1 (gset_at _ _ _) (by decide)
      refine iv_iconst hx hb dX0_light_37 ?_
      refine lv_iload_n hx hb dX0_light_38 rfl (lv_at hl 1 rfl) ?_
      refine iv_ishl hx hb dX0_light_39 ?_
      refine iv_ior hx hb dX0_light_40 ?_
      refine iv_put (S' := (gset S 7 (aset (m_X5_put (m_X5_put T 1 6 stem left) 2 6 stem wide) 0 2 (iOr ((m_X5_put (m_X5_put T 1 6 stem left) 2 6 stem wide) 0 2) (iShl 1 stem))))) (ty := .int) hx hb hts inX0 tyX0 tyX0_ok nmX0 hown hK hinj hh (h112 (by decide)) un_Fit (Or.inl rfl) (ob_Fit) rfl 2 (by decide) (hts _ q1_115) rfl rfl (by decide +kernel) rfl rfl (Nat.le_of_ble_eq_true rfl) (pu_Fit_clipped) (Or.inl (hIn_toInt _)) (by rw [show (gset S 7 (m_X5_put (m_X5_put T 1 6 stem left) 2 6 stem wide)) 7 = (m_X5_put (m_X5_put T 1 6 stem left) 2 6 stem wide) from (gset_at _ _ _)]; exact (gset_gset _ _ _ _)) dX0_light_41 (fun H locs hh => ?_)
      refine lv_iload_n hx hb dX0_light_44 rfl (lv_at hl 2 rfl) ?_
      refine lv_iload_n hx hb dX0_light_45 rfl (lv_at hl 3 rfl) ?_
      refine iv_iadd hx hb dX0_light_46 ?_
      refine lv_aload_n hx hb dX0_light_47 rfl (lv_at hl 0 rfl) ?_
      refine iv_get (v' := .int (hI ((aset (m_X5_put (m_X5_put T 1 6 stem left) 2 6 stem wide) 0 2 (iOr ((m_X5_put (m_X5_put T 1 6 stem left) 2 6 stem wide) 0 2) (iShl 1 stem))) 0 0))) hx hb hts inX0 hown hK hh.1 (ob_Fit) rfl 0 (by decide) (hts _ q1_112) rfl rfl (congrArg (fun z => Value.int (hI (z 0 0))) (gset_at _ _ _)) dX0_light_48 ?_
      have hm15 : hIn ((aset (m_X5_put (m_X5_put T 1 6 stem left) 2 6 stem wide) 0 2 (iOr ((m_X5_put (m_X5_put T 1 6 stem left) 2 6 stem wide) 0 2) (iShl 1 stem))) 0 0) := hIn_rd hh.2.1 (gset_at _ _ _) (by decide)
      refine iv_ki (iv_rS (As := [.int (hI (left + wide)), .int (hI ((aset (m_X5_put (m_X5_put T 1 6 stem left) 2 6 stem wide) 0 2 (iOr ((m_X5_put (m_X5_put T 1 6 stem left) 2 6 stem wide) 0 2) (iShl 1 stem))) 0 0))]) (rest := []) E hh (ok_J9_min_7cf53 l hinj (gset S 7 (aset (m_X5_put (m_X5_put T 1 6 stem left) 2 6 stem wide) 0 2 (iOr ((m_X5_put (m_X5_put T 1 6 stem left) 2 6 stem wide) 0 2) (iShl 1 stem)))) (left + wide) ((aset (m_X5_put (m_X5_put T 1 6 stem left) 2 6 stem wide) 0 2 (iOr ((m_X5_put (m_X5_put T 1 6 stem left) 2 6 stem wide) 0 2) (iShl 1 stem))) 0 0) g9 hm15) cb_J9_min_7cf53 q2_25 rfl rfl ⟨Nat.le_of_ble_eq_true rfl, Nat.le_of_ble_eq_true rfl⟩ rfl hl.1 rfl (Nat.le_of_ble_eq_true rfl) dX0_light_51 ⟨Nat.zero_le _, Nat.zero_le _⟩) hh (fun hc16 H locs hh => ?_)
      refine lv_istore (lv' := [(4, .int (hI (v_J9_min_7cf53 (left + wide) ((aset (m_X5_put (m_X5_put T 1 6 stem left) 2 6 stem wide) 0 2 (iOr ((m_X5_put (m_X5_put T 1 6 stem left) 2 6 stem wide) 0 2) (iShl 1 stem))) 0 0)))), (0, .ref (ad 7 0)), (1, .int (hI stem)), (2, .int (hI left)), (3, .int (hI wide))]) hx hb dX0_light_54 hl (by decide) rfl (fun ls hl => ?_)
      refine lv_iload_n hx hb dX0_light_56 rfl (lv_at hl 3 rfl) ?_
      refine iv_iconst hx hb dX0_light_57 ?_
      refine iv_ki (iv_rS (As := [.int (hI left), .int (hI 0)]) (rest := []) E hh (ok_J9_max_7cf53 l hinj (gset S 7 (aset (m_X5_put (m_X5_put T 1 6 stem left) 2 6 stem wide) 0 2 (iOr ((m_X5_put (m_X5_put T 1 6 stem left) 2 6 stem wide) 0 2) (iShl 1 stem)))) left 0 h_left ⟨by decide, by decide⟩) cb_J9_max_7cf53 q2_28 rfl rfl ⟨Nat.le_of_ble_eq_true rfl, Nat.le_of_ble_eq_true rfl⟩ rfl hl.1 rfl (Nat.le_of_ble_eq_true rfl) dX0_light_58 ⟨Nat.zero_le _, Nat.zero_le _⟩) hh (fun hc17 H locs hh => ?_)
      refine lv_istore (lv' := [(5, .int (hI (v_J9_max_7cf53 left 0))), (4, .int (hI (v_J9_min_7cf53 (left + wide) ((aset (m_X5_put (m_X5_put T 1 6 stem left) 2 6 stem wide) 0 2 (iOr ((m_X5_put (m_X5_put T 1 6 stem left) 2 6 stem wide) 0 2) (iShl 1 stem))) 0 0)))), (0, .ref (ad 7 0)), (1, .int (hI stem)), (2, .int (hI left)), (3, .int (hI wide))]) hx hb dX0_light_61 hl (by decide) rfl (fun ls hl => ?_)
      exact h H _ ls hh (lv_sub hl [2, 1, 0] rfl)
set_option maxHeartbeats 4000000 in
set_option maxRecDepth 100000 in
theorem ok_X0_lay (l : Launch) (hinj : hInj ad) (S : hS) {j : Nat} (hj : j < 7) (A : hGM) (hA : S j = A) (T : hGM) (hT : S 7 = T) (glyph : Int) (size : Int) (h_glyph : hIn glyph) (h_size : hIn size) (hp : p_X0_lay A T glyph size) : hMv D ad cI cJ cF l yX0_lay cX0_lay 13 ({ frames := 3, cells := 0, slots := 0, locals := 69 } : Room) [.ref (ad 7 0), .ref (ad j 0), .int (hI glyph), .int (hI size)] S (gset S 7 (m_X0_lay A T glyph size)) := by
  refine hOf (S := S) l hinj (by decide +kernel) (Nat.le_of_ble_eq_true rfl) (fun p e s m args below meth c E => ?_)
  obtain ⟨hx, hb, hml, hown, hts, hK, hN, -, hr, hlk, hz⟩ := id E
  have hown : s.vm.findClass RX0 = some m.cls := hown
  have r50 : ∀ (y4 : Int) (y5 : Int) (y6 : Int) (y7 : Int) (T1 : hGM), hIn y4 → hIn y5 → hIn y6 → hIn y7 → ((∀ (i : Nat) (k : Int), i < 100 → hIn (T1 i k)) → ((y7 < y4 → (hIn ((glyph * 6) + y7) ∧ (p_X1_wideOf A (v_X5_cell A 4 48 ((glyph * 6) + y7)) size ∧ ((y7 ≤ 0 → (p_X0_rounded A ((glyph * 6) + y7) size (v_X1_wideOf A (v_X5_cell A 4 48 ((glyph * 6) + y7)) size) ∧ (hAt D ad cI cJ cF p l e ({ frames := 3, cells := 0, slots := 0, locals := 69 } : Room) s m args below meth c (MQ below (hQv D ad cI cJ cF (gset S 7 (m_X0_lay A T glyph size))) args s 0 0 (hAd ad)) 13 146 [(0, .ref (ad 7 0)), (1, .ref (ad j 0)), (2, .int (hI glyph)), (3, .int (hI size)), (4, .int (hI y4)), (5, .int (hI y5)), (7, .int (hI y7)), (8, .int (hI ((glyph * 6) + y7))), (9, .int (hI ((v_X5_cell A 3 48 ((glyph * 6) + y7)) - y6))), (10, .int (hI (v_X1_wideOf A (v_X5_cell A 4 48 ((glyph * 6) + y7)) size))), (11, .int (hI (v_X0_rounded A ((glyph * 6) + y7) size (v_X1_wideOf A (v_X5_cell A 4 48 ((glyph * 6) + y7)) size))))] (gset S 7 T1)))) ∧ (¬ y7 ≤ 0 → (((v_X5_cell A 5 48 ((glyph * 6) + y7)) = 3 → (hIn ((v_X5_cell A 3 48 ((glyph * 6) + y7)) - y6) ∧ (p_X5_inPixels ((v_X5_cell A 3 48 ((glyph * 6) + y7)) - y6) size ∧ (hAt D ad cI cJ cF p l e ({ frames := 3, cells := 0, slots := 0, locals := 69 } : Room) s m args below meth c (MQ below (hQv D ad cI cJ cF (gset S 7 (m_X0_lay A T glyph size))) args s 0 0 (hAd ad)) 13 146 [(0, .ref (ad 7 0)), (1, .ref (ad j 0)), (2, .int (hI glyph)), (3, .int (hI size)), (4, .int (hI y4)), (5, .int (hI y5)), (7, .int (hI y7)), (8, .int (hI ((glyph * 6) + y7))), (9, .int (hI ((v_X5_cell A 3 48 ((glyph * 6) + y7)) - y6))), (10, .int (hI (v_X1_wideOf A (v_X5_cell A 4 48 ((glyph * 6) + y7)) size))), (11, .int (hI (y5 + (v_J9_max_7cf53 (v_X5_inPixels ((v_X5_cell A 3 48 ((glyph * 6) + y7)) - y6) size) (A 0 3)))))] (gset S 7 T1))))) ∧ (¬ (v_X5_cell A 5 48 ((glyph * 6) + y7)) = 3 → (p_X0_rounded A ((glyph * 6) + y7) size (v_X1_wideOf A (v_X5_cell A 4 48 ((glyph * 6) + y7)) size) ∧ (hAt D ad cI cJ cF p l e ({ frames := 3, cells := 0, slots := 0, locals := 69 } : Room) s m args below meth c (MQ below (hQv D ad cI cJ cF (gset S 7 (m_X0_lay A T glyph size))) args s 0 0 (hAd ad)) 13 146 [(0, .ref (ad 7 0)), (1, .ref (ad j 0)), (2, .int (hI glyph)), (3, .int (hI size)), (4, .int (hI y4)), (5, .int (hI y5)), (7, .int (hI y7)), (8, .int (hI ((glyph * 6) + y7))), (9, .int (hI ((v_X5_cell A 3 48 ((glyph * 6) + y7)) - y6))), (10, .int (hI (v_X1_wideOf A (v_X5_cell A 4 48 ((glyph * 6) + y7)) size))), (11, .int (hI (v_X0_rounded A ((glyph * 6) + y7) size (v_X1_wideOf A (v_X5_cell A 4 48 ((glyph * 6) + y7)) size))))] (gset S 7 T1)))))))))) ∧ (¬ y7 < y4 → (T1 = m_X0_lay A T glyph size)))) → (hAt D ad cI cJ cF p l e ({ frames := 3, cells := 0, slots := 0, locals := 69 } : Room) s m args below meth c (MQ below (hQv D ad cI cJ cF (gset S 7 (m_X0_lay A T glyph size))) args s 0 0 (hAd ad)) 13 50 [(0, .ref (ad 7 0)), (1, .ref (ad j 0)), (2, .int (hI glyph)), (3, .int (hI size)), (4, .int (hI y4)), (5, .int (hI y5)), (6, .int (hI y6)), (7, .int (hI y7))] (gset S 7 T1)) := by
    intro y4 y5 y6 y7 T1 h_y4 h_y5 h_y6 h_y7 h H locs ls hh hl
    have h := h (fun i k hi => hIn_rd hh.2.1 (gset_at _ _ _) hi)
    refine lv_iload hx hb dX0_lay_50 (lv_at hl 7 rfl) ?_
    refine lv_iload hx hb dX0_lay_52 (lv_at hl 4 rfl) ?_
    refine iv_icmp_ge (tgt := 221) hx hb h_y7 h_y4 dX0_lay_54 (by decide) (fun c1 => ?_) (fun c1 => ?_)
    · have h := h.2 c1
      exact iv_vret E hh (by rw [← h]) dX0_lay_221
    · have h := h.1 c1
      refine lv_iload_n hx hb dX0_lay_57 rfl (lv_at hl 2 rfl) ?_
      refine lv_bipush (v := hI 6) hx hb dX0_lay_58 (by decide) ?_
      refine iv_imul hx hb dX0_lay_60 ?_
      refine lv_iload hx hb dX0_lay_61 (lv_at hl 7 rfl) ?_
      refine iv_iadd hx hb dX0_lay_63 ?_
      refine lv_istore (lv' := [(8, .int (hI ((glyph * 6) + y7))), (0, .ref (ad 7 0)), (1, .ref (ad j 0)), (2, .int (hI glyph)), (3, .int (hI size)), (4, .int (hI y4)), (5, .int (hI y5)), (6, .int (hI y6)), (7, .int (hI y7))]) hx hb dX0_lay_64 hl (by decide) rfl (fun ls hl => ?_)
      refine lv_aload_n hx hb dX0_lay_66 rfl (lv_at hl 2 rfl) ?_
      refine iv_getN (v' := .ref (ad j 3)) hx hb hts inX1 hown hK hh.1 (ob_Font hj) rfl 6 (by decide) (hN _ q1_71) rfl rfl rfl dX0_lay_67 ?_
      refine lv_iload hx hb dX0_lay_70 (lv_at hl 0 rfl) ?_
      obtain ⟨g2, h⟩ := h
      refine iv_ki (iv_rN (As := [.ref (ad j 3), .int (hI ((glyph * 6) + y7))]) (rest := []) E hh (ok_X5_cell l hinj (gset S 7 T1) (ia_F_3 hj) A ((gset_ne (Nat.ne_of_lt (Nat.lt_of_lt_of_le hj (by decide)))).trans hA) ((glyph * 6) + y7) g2) cb_X5_cell q2_15 rfl rfl ⟨Nat.le_of_ble_eq_true rfl, Nat.le_of_ble_eq_true rfl⟩ rfl hl.1 rfl (Nat.le_of_ble_eq_true rfl) dX0_lay_72 ⟨Nat.zero_le _, Nat.zero_le _⟩) hh (fun hc3 H locs hh => ?_)
      refine lv_iload hx hb dX0_lay_75 (lv_at hl 7 rfl) ?_
      refine iv_isub hx hb dX0_lay_77 ?_
      refine lv_istore (lv' := [(9, .int (hI ((v_X5_cell A 3 48 ((glyph * 6) + y7)) - y6))), (8, .int (hI ((glyph * 6) + y7))), (0, .ref (ad 7 0)), (1, .ref (ad j 0)), (2, .int (hI glyph)), (3, .int (hI size)), (4, .int (hI y4)), (5, .int (hI y5)), (6, .int (hI y6)), (7, .int (hI y7))]) hx hb dX0_lay_78 hl (by decide) rfl (fun ls hl => ?_)
      refine lv_aload_n hx hb dX0_lay_80 rfl (lv_at hl 3 rfl) ?_
      refine lv_aload_n hx hb dX0_lay_81 rfl (lv_at hl 3 rfl) ?_
      refine iv_getN (v' := .ref (ad j 4)) hx hb hts inX1 hown hK hh.1 (ob_Font hj) rfl 7 (by decide) (hN _ q1_74) rfl rfl rfl dX0_lay_82 ?_
      refine lv_iload hx hb dX0_lay_85 (lv_at hl 1 rfl) ?_
      refine iv_ki (iv_rN (As := [.ref (ad j 4), .int (hI ((glyph * 6) + y7))]) (rest := [.ref (ad j 0)]) E hh (ok_X5_cell l hinj (gset S 7 T1) (ia_F_4 hj) A ((gset_ne (Nat.ne_of_lt (Nat.lt_of_lt_of_le hj (by decide)))).trans hA) ((glyph * 6) + y7) g2) cb_X5_cell q2_15 rfl rfl ⟨Nat.le_of_ble_eq_true rfl, Nat.le_of_ble_eq_true rfl⟩ rfl hl.1 rfl (Nat.le_of_ble_eq_true rfl) dX0_lay_87 ⟨Nat.zero_le _, Nat.zero_le _⟩) hh (fun hc4 H locs hh => ?_)
      refine lv_iload_n hx hb dX0_lay_90 rfl (lv_at hl 5 rfl) ?_
      obtain ⟨g5, h⟩ := h
      refine iv_ki (iv_rV (As := [.int (hI (v_X5_cell A 4 48 ((glyph * 6) + y7))), .int (hI size)]) (rest := []) E hh (ok_X1_wideOf l hinj (gset S 7 T1) hj A ((gset_ne (Nat.ne_of_lt (Nat.lt_of_lt_of_le hj (by decide)))).trans hA) (v_X5_cell A 4 48 ((glyph * 6) + y7)) size hc4 h_size g5) cb_X1_wideOf q2_31 rfl rfl ⟨Nat.le_of_ble_eq_true rfl, Nat.le_of_ble_eq_true rfl⟩ (ob_Font hj) rfl rfl rfl hl.1 rfl (Nat.le_of_ble_eq_true rfl) dX0_lay_91 ⟨Nat.zero_le _, Nat.zero_le _⟩) hh (fun hc6 H locs hh => ?_)
      refine lv_istore (lv' := [(10, .int (hI (v_X1_wideOf A (v_X5_cell A 4 48 ((glyph * 6) + y7)) size))), (9, .int (hI ((v_X5_cell A 3 48 ((glyph * 6) + y7)) - y6))), (8, .int (hI ((glyph * 6) + y7))), (0, .ref (ad 7 0)), (1, .ref (ad j 0)), (2, .int (hI glyph)), (3, .int (hI size)), (4, .int (hI y4)), (5, .int (hI y5)), (6, .int (hI y6)), (7, .int (hI y7))]) hx hb dX0_lay_94 hl (by decide) rfl (fun ls hl => ?_)
      refine lv_iload hx hb dX0_lay_96 (lv_at hl 10 rfl) ?_
      refine iv_if_le (tgt := 135) hx hb h_y7 dX0_lay_98 (by decide) (fun c7 => ?_) (fun c7 => ?_)
      · have h := h.1 c7
        refine lv_aload_n hx hb dX0_lay_135 rfl (lv_at hl 4 rfl) ?_
        refine lv_iload hx hb dX0_lay_136 (lv_at hl 2 rfl) ?_
        refine lv_iload_n hx hb dX0_lay_138 rfl (lv_at hl 6 rfl) ?_
        refine lv_iload hx hb dX0_lay_139 (lv_at hl 0 rfl) ?_
        obtain ⟨g8, h⟩ := h
        refine iv_ki (iv_rS (As := [.ref (ad j 0), .int (hI ((glyph * 6) + y7)), .int (hI size), .int (hI (v_X1_wideOf A (v_X5_cell A 4 48 ((glyph * 6) + y7)) size))]) (rest := []) E hh (ok_X0_rounded l hinj (gset S 7 T1) hj A ((gset_ne (Nat.ne_of_lt (Nat.lt_of_lt_of_le hj (by decide)))).trans hA) ((glyph * 6) + y7) size (v_X1_wideOf A (v_X5_cell A 4 48 ((glyph * 6) + y7)) size) g2 h_size hc6 g8) cb_X0_rounded q2_44 rfl rfl ⟨Nat.le_of_ble_eq_true rfl, Nat.le_of_ble_eq_true rfl⟩ rfl hl.1 rfl (Nat.le_of_ble_eq_true rfl) dX0_lay_141 ⟨Nat.zero_le _, Nat.zero_le _⟩) hh (fun hc9 H locs hh => ?_)
        refine lv_istore (lv' := [(11, .int (hI (v_X0_rounded A ((glyph * 6) + y7) size (v_X1_wideOf A (v_X5_cell A 4 48 ((glyph * 6) + y7)) size)))), (10, .int (hI (v_X1_wideOf A (v_X5_cell A 4 48 ((glyph * 6) + y7)) size))), (9, .int (hI ((v_X5_cell A 3 48 ((glyph * 6) + y7)) - y6))), (8, .int (hI ((glyph * 6) + y7))), (0, .ref (ad 7 0)), (1, .ref (ad j 0)), (2, .int (hI glyph)), (3, .int (hI size)), (4, .int (hI y4)), (5, .int (hI y5)), (6, .int (hI y6)), (7, .int (hI y7))]) hx hb dX0_lay_144 hl (by decide) rfl (fun ls hl => ?_)
        exact h H _ ls hh (lv_sub hl [4, 5, 6, 7, 8, 9, 11, 3, 2, 1, 0] rfl)
      · have h := h.2 c7
        refine lv_aload_n hx hb dX0_lay_101 rfl (lv_at hl 4 rfl) ?_
        refine iv_getN (v' := .ref (ad j 5)) hx hb hts inX1 hown hK hh.1 (ob_Font hj) rfl 8 (by decide) (hN _ q1_77) rfl rfl rfl dX0_lay_102 ?_
        refine lv_iload hx hb dX0_lay_105 (lv_at hl 2 rfl) ?_
        refine iv_ki (iv_rN (As := [.ref (ad j 5), .int (hI ((glyph * 6) + y7))]) (rest := []) E hh (ok_X5_cell l hinj (gset S 7 T1) (ia_F_5 hj) A ((gset_ne (Nat.ne_of_lt (Nat.lt_of_lt_of_le hj (by decide)))).trans hA) ((glyph * 6) + y7) g2) cb_X5_cell q2_15 rfl rfl ⟨Nat.le_of_ble_eq_true rfl, Nat.le_of_ble_eq_true rfl⟩ rfl hl.1 rfl (Nat.le_of_ble_eq_true rfl) dX0_lay_107 ⟨Nat.zero_le _, Nat.zero_le _⟩) hh (fun hc10 H locs hh => ?_)
        refine iv_iconst hx hb dX0_lay_110 ?_
        refine iv_icmp_ne (tgt := 135) hx hb hc10 ⟨by decide, by decide⟩ dX0_lay_111 (by decide) (fun c11 => ?_) (fun c11 => ?_)
        · have h := h.2 c11
          refine lv_aload_n hx hb dX0_lay_135 rfl (lv_at hl 4 rfl) ?_
          refine lv_iload hx hb dX0_lay_136 (lv_at hl 2 rfl) ?_
          refine lv_iload_n hx hb dX0_lay_138 rfl (lv_at hl 6 rfl) ?_
          refine lv_iload hx hb dX0_lay_139 (lv_at hl 0 rfl) ?_
          obtain ⟨g12, h⟩ := h
          refine iv_ki (iv_rS (As := [.ref (ad j 0), .int (hI ((glyph * 6) + y7)), .int (hI size), .int (hI (v_X1_wideOf A (v_X5_cell A 4 48 ((glyph * 6) + y7)) size))]) (rest := []) E hh (ok_X0_rounded l hinj (gset S 7 T1) hj A ((gset_ne (Nat.ne_of_lt (Nat.lt_of_lt_of_le hj (by decide)))).trans hA) ((glyph * 6) + y7) size (v_X1_wideOf A (v_X5_cell A 4 48 ((glyph * 6) + y7)) size) g2 h_size hc6 g12) cb_X0_rounded q2_44 rfl rfl ⟨Nat.le_of_ble_eq_true rfl, Nat.le_of_ble_eq_true rfl⟩ rfl hl.1 rfl (Nat.le_of_ble_eq_true rfl) dX0_lay_141 ⟨Nat.zero_le _, Nat.zero_le _⟩) hh (fun hc13 H locs hh => ?_)
          refine lv_istore (lv' := [(11, .int (hI (v_X0_rounded A ((glyph * 6) + y7) size (v_X1_wideOf A (v_X5_cell A 4 48 ((glyph * 6) + y7)) size)))), (10, .int (hI (v_X1_wideOf A (v_X5_cell A 4 48 ((glyph * 6) + y7)) size))), (9, .int (hI ((v_X5_cell A 3 48 ((glyph * 6) + y7)) - y6))), (8, .int (hI ((glyph * 6) + y7))), (0, .ref (ad 7 0)), (1, .ref (ad j 0)), (2, .int (hI glyph)), (3, .int (hI size)), (4, .int (hI y4)), (5, .int (hI y5)), (6, .int (hI y6)), (7, .int (hI y7))]) hx hb dX0_lay_144 hl (by decide) rfl (fun ls hl => ?_)
          exact h H _ ls hh (lv_sub hl [4, 5, 6, 7, 8, 9, 11, 3, 2, 1, 0] rfl)
        · have h := h.1 c11
          refine lv_iload hx hb dX0_lay_114 (lv_at hl 8 rfl) ?_
          refine lv_iload hx hb dX0_lay_116 (lv_at hl 1 rfl) ?_
          refine lv_iload_n hx hb dX0_lay_118 rfl (lv_at hl 6 rfl) ?_
          obtain ⟨g14, h⟩ := h
          obtain ⟨g15, h⟩ := h
          refine iv_ki (iv_rN (As := [.int (hI ((v_X5_cell A 3 48 ((glyph * 6) + y7)) - y6)), .int (hI size)]) (rest := [.int (hI y5)]) E hh (ok_X5_inPixels l hinj (gset S 7 T1) ((v_X5_cell A 3 48 ((glyph * 6) + y7)) - y6) size g14 h_size g15) cb_X5_inPixels q2_19 rfl rfl ⟨Nat.le_of_ble_eq_true rfl, Nat.le_of_ble_eq_true rfl⟩ rfl hl.1 rfl (Nat.le_of_ble_eq_true rfl) dX0_lay_119 ⟨Nat.zero_le _, Nat.zero_le _⟩) hh (fun hc16 H locs hh => ?_)
          refine lv_aload_n hx hb dX0_lay_122 rfl (lv_at hl 4 rfl) ?_
          refine iv_getN (v' := .int (hI (A 0 3))) hx hb hts inX1 hown hK hh.1 (ob_Font hj) rfl 3 (by decide) (hN _ q1_64) rfl rfl (congrArg (fun z => Value.int (hI (z 0 3))) ((gset_ne (Nat.ne_of_lt (Nat.lt_of_lt_of_le hj (by decide)))).trans hA)) dX0_lay_123 ?_
          have hm17 : hIn (A 0 3) := hIn_rd hh.2.1 ((gset_ne (Nat.ne_of_lt (Nat.lt_of_lt_of_le hj (by decide)))).trans hA) (by decide)
          refine iv_ki (iv_rS (As := [.int (hI (v_X5_inPixels ((v_X5_cell A 3 48 ((glyph * 6) + y7)) - y6) size)), .int (hI (A 0 3))]) (rest := [.int (hI y5)]) E hh (ok_J9_max_7cf53 l hinj (gset S 7 T1) (v_X5_inPixels ((v_X5_cell A 3 48 ((glyph * 6) + y7)) - y6) size) (A 0 3) hc16 hm17) cb_J9_max_7cf53 q2_28 rfl rfl ⟨Nat.le_of_ble_eq_true rfl, Nat.le_of_ble_eq_true rfl⟩ rfl hl.1 rfl (Nat.le_of_ble_eq_true rfl) dX0_lay_126 ⟨Nat.zero_le _, Nat.zero_le _⟩) hh (fun hc18 H locs hh => ?_)
          refine iv_iadd hx hb dX0_lay_129 ?_
          refine lv_istore (lv' := [(11, .int (hI (y5 + (v_J9_max_7cf53 (v_X5_inPixels ((v_X5_cell A 3 48 ((glyph * 6) + y7)) - y6) size) (A 0 3))))), (10, .int (hI (v_X1_wideOf A (v_X5_cell A 4 48 ((glyph * 6) + y7)) size))), (9, .int (hI ((v_X5_cell A 3 48 ((glyph * 6) + y7)) - y6))), (8, .int (hI ((glyph * 6) + y7))), (0, .ref (ad 7 0)), (1, .ref (ad j 0)), (2, .int (hI glyph)), (3, .int (hI size)), (4, .int (hI y4)), (5, .int (hI y5)), (6, .int (hI y6)), (7, .int (hI y7))]) hx hb dX0_lay_130 hl (by decide) rfl (fun ls hl => ?_)
          refine lv_goto (tgt := 146) hx hb dX0_lay_132 (by decide) ?_
          exact h H _ ls hh (lv_sub hl [4, 5, 6, 7, 8, 9, 11, 3, 2, 1, 0] rfl)
  have r146 : ∀ (y4 : Int) (y5 : Int) (y7 : Int) (y8 : Int) (y9 : Int) (y10 : Int) (y11 : Int) (T1 : hGM), hIn y4 → hIn y5 → hIn y7 → hIn y8 → hIn y9 → hIn y10 → hIn y11 → ((∀ (i : Nat) (k : Int), i < 100 → hIn (T1 i k)) → ((y9 ≤ 0 → ((y7 ≤ 0 → (hAt D ad cI cJ cF p l e ({ frames := 3, cells := 0, slots := 0, locals := 69 } : Room) s m args below meth c (MQ below (hQv D ad cI cJ cF (gset S 7 (m_X0_lay A T glyph size))) args s 0 0 (hAd ad)) 13 190 [(0, .ref (ad 7 0)), (1, .ref (ad j 0)), (2, .int (hI glyph)), (3, .int (hI size)), (4, .int (hI y4)), (7, .int (hI y7)), (8, .int (hI y8)), (10, .int (hI y10)), (11, .int (hI y11))] (gset S 7 T1))) ∧ (¬ y7 ≤ 0 → (hIn (y5 + 0) ∧ ((y11 < (y5 + 0) → (hAt D ad cI cJ cF p l e ({ frames := 3, cells := 0, slots := 0, locals := 69 } : Room) s m args below meth c (MQ below (hQv D ad cI cJ cF (gset S 7 (m_X0_lay A T glyph size))) args s 0 0 (hAd ad)) 13 190 [(0, .ref (ad 7 0)), (1, .ref (ad j 0)), (2, .int (hI glyph)), (3, .int (hI size)), (4, .int (hI y4)), (7, .int (hI y7)), (8, .int (hI y8)), (10, .int (hI y10)), (11, .int (hI (y5 + 0)))] (gset S 7 (aset T1 0 1 (iOr (T1 0 1) (iShl 1 y7)))))) ∧ (¬ y11 < (y5 + 0) → (hAt D ad cI cJ cF p l e ({ frames := 3, cells := 0, slots := 0, locals := 69 } : Room) s m args below meth c (MQ below (hQv D ad cI cJ cF (gset S 7 (m_X0_lay A T glyph size))) args s 0 0 (hAd ad)) 13 190 [(0, .ref (ad 7 0)), (1, .ref (ad j 0)), (2, .int (hI glyph)), (3, .int (hI size)), (4, .int (hI y4)), (7, .int (hI y7)), (8, .int (hI y8)), (10, .int (hI y10)), (11, .int (hI y11))] (gset S 7 T1)))))))) ∧ (¬ y9 ≤ 0 → ((y7 ≤ 0 → (hAt D ad cI cJ cF p l e ({ frames := 3, cells := 0, slots := 0, locals := 69 } : Room) s m args below meth c (MQ below (hQv D ad cI cJ cF (gset S 7 (m_X0_lay A T glyph size))) args s 0 0 (hAd ad)) 13 190 [(0, .ref (ad 7 0)), (1, .ref (ad j 0)), (2, .int (hI glyph)), (3, .int (hI size)), (4, .int (hI y4)), (7, .int (hI y7)), (8, .int (hI y8)), (10, .int (hI y10)), (11, .int (hI y11))] (gset S 7 T1))) ∧ (¬ y7 ≤ 0 → (hIn (y5 + 1) ∧ ((y11 < (y5 + 1) → (hAt D ad cI cJ cF p l e ({ frames := 3, cells := 0, slots := 0, locals := 69 } : Room) s m args below meth c (MQ below (hQv D ad cI cJ cF (gset S 7 (m_X0_lay A T glyph size))) args s 0 0 (hAd ad)) 13 190 [(0, .ref (ad 7 0)), (1, .ref (ad j 0)), (2, .int (hI glyph)), (3, .int (hI size)), (4, .int (hI y4)), (7, .int (hI y7)), (8, .int (hI y8)), (10, .int (hI y10)), (11, .int (hI (y5 + 1)))] (gset S 7 (aset T1 0 1 (iOr (T1 0 1) (iShl 1 y7)))))) ∧ (¬ y11 < (y5 + 1) → (hAt D ad cI cJ cF p l e ({ frames := 3, cells := 0, slots := 0, locals := 69 } : Room) s m args below meth c (MQ below (hQv D ad cI cJ cF (gset S 7 (m_X0_lay A T glyph size))) args s 0 0 (hAd ad)) 13 190 [(0, .ref (ad 7 0)), (1, .ref (ad j 0)), (2, .int (hI glyph)), (3, .int (hI size)), (4, .int (hI y4)), (7, .int (hI y7)), (8, .int (hI y8)), (10, .int (hI y10)), (11, .int (hI y11))] (gset S 7 T1)))))))))) → (hAt D ad cI cJ cF p l e ({ frames := 3, cells := 0, slots := 0, locals := 69 } : Room) s m args below meth c (MQ below (hQv D ad cI cJ cF (gset S 7 (m_X0_lay A T glyph size))) args s 0 0 (hAd ad)) 13 146 [(0, .ref (ad 7 0)), (1, .ref (ad j 0)), (2, .int (hI glyph)), (3, .int (hI size)), (4, .int (hI y4)), (5, .int (hI y5)), (7, .int (hI y7)), (8, .int (hI y8)), (9, .int (hI y9)), (10, .int (hI y10)), (11, .int (hI y11))] (gset S 7 T1)) := by
    intro y4 y5 y7 y8 y9 y10 y11 T1 h_y4 h_y5 h_y7 h_y8 h_y9 h_y10 h_y11 h H locs ls hh hl
    have h := h (fun i k hi => hIn_rd hh.2.1 (gset_at _ _ _) hi)
    refine lv_iload hx hb dX0_lay_146 (lv_at hl 5 rfl) ?_
    refine lv_iload hx hb dX0_lay_148 (lv_at hl 8 rfl) ?_
    refine iv_if_le (tgt := 157) hx hb h_y9 dX0_lay_150 (by decide) (fun c19 => ?_) (fun c19 => ?_)
    · have h := h.1 c19
      refine iv_iconst hx hb dX0_lay_157 ?_
      refine iv_iadd hx hb dX0_lay_158 ?_
      refine lv_istore (lv' := [(12, .int (hI (y5 + 0))), (0, .ref (ad 7 0)), (1, .ref (ad j 0)), (2, .int (hI glyph)), (3, .int (hI size)), (4, .int (hI y4)), (5, .int (hI y5)), (7, .int (hI y7)), (8, .int (hI y8)), (9, .int (hI y9)), (10, .int (hI y10)), (11, .int (hI y11))]) hx hb dX0_lay_159 hl (by decide) rfl (fun ls hl => ?_)
      refine lv_iload hx hb dX0_lay_161 (lv_at hl 7 rfl) ?_
      refine iv_if_le (tgt := 190) hx hb h_y7 dX0_lay_163 (by decide) (fun c20 => ?_) (fun c20 => ?_)
      · have h := h.1 c20
        exact h H _ ls hh (lv_sub hl [1, 2, 3, 4, 5, 7, 8, 10, 11] rfl)
      · have h := h.2 c20
        refine lv_iload hx hb dX0_lay_166 (lv_at hl 11 rfl) ?_
        refine lv_iload hx hb dX0_lay_168 (lv_at hl 0 rfl) ?_
        obtain ⟨g21, h⟩ := h
        refine iv_icmp_ge (tgt := 190) hx hb h_y11 g21 dX0_lay_170 (by decide) (fun c22 => ?_) (fun c22 => ?_)
        · have h := h.2 c22
          exact h H _ ls hh (lv_sub hl [1, 2, 3, 4, 5, 7, 8, 10, 11] rfl)
        · have h := h.1 c22
          refine lv_iload hx hb dX0_lay_173 (lv_at hl 0 rfl) ?_
          refine lv_istore (lv' := [(11, .int (hI (y5 + 0))), (12, .int (hI (y5 + 0))), (0, .ref (ad 7 0)), (1, .ref (ad j 0)), (2, .int (hI glyph)), (3, .int (hI size)), (4, .int (hI y4)), (5, .int (hI y5)), (7, .int (hI y7)), (8, .int (hI y8)), (9, .int (hI y9)), (10, .int (hI y10))]) hx hb dX0_lay_175 hl (by decide) rfl (fun ls hl => ?_)
          refine lv_aload_n hx hb dX0_lay_177 rfl (lv_at hl 2 rfl) ?_
          refine lv_dup hx hb dX0_lay_178 rfl ?_
          refine iv_get (v' := .int (hI (T1 0 1))) hx hb hts inX0 hown hK hh.1 (ob_Fit) rfl 1 (by decide) (hts _ q1_114) rfl rfl (congrArg (fun z => Value.int (hI (z 0 1))) (gset_at _ _ _)) dX0_lay_179 ?_
          have hm23 : hIn (T1 0 1) := hIn_rd hh.2.1 (gset_at _ _ _) (by decide)
          refine iv_iconst hx hb dX0_lay_182 ?_
          refine lv_iload hx hb dX0_lay_183 (lv_at hl 8 rfl) ?_
          refine iv_ishl hx hb dX0_lay_185 ?_
          refine iv_ior hx hb dX0_lay_186 ?_
          refine iv_put (S' := (gset S 7 (aset T1 0 1 (iOr (T1 0 1) (iShl 1 y7))))) (ty := .int) hx hb hts inX0 tyX0 tyX0_ok nmX0 hown hK hinj hh (h112 (by decide)) un_Fit (Or.inl rfl) (ob_Fit) rfl 1 (by decide) (hts _ q1_114) rfl rfl (by decide +kernel) rfl rfl (Nat.le_of_ble_eq_true rfl) (pu_Fit_pushed) (Or.inl (hIn_toInt _)) (by rw [show (gset S 7 T1) 7 = T1 from (gset_at _ _ _)]; exact (gset_gset _ _ _ _)) dX0_lay_187 (fun H locs hh => ?_)
          exact h H _ ls hh (lv_sub hl [2, 3, 4, 5, 6, 8, 9, 11, 0] rfl)
    · have h := h.2 c19
      refine iv_iconst hx hb dX0_lay_153 ?_
      refine lv_goto (tgt := 158) hx hb dX0_lay_154 (by decide) ?_
      refine iv_iadd hx hb dX0_lay_158 ?_
      refine lv_istore (lv' := [(12, .int (hI (y5 + 1))), (0, .ref (ad 7 0)), (1, .ref (ad j 0)), (2, .int (hI glyph)), (3, .int (hI size)), (4, .int (hI y4)), (5, .int (hI y5)), (7, .int (hI y7)), (8, .int (hI y8)), (9, .int (hI y9)), (10, .int (hI y10)), (11, .int (hI y11))]) hx hb dX0_lay_159 hl (by decide) rfl (fun ls hl => ?_)
      refine lv_iload hx hb dX0_lay_161 (lv_at hl 7 rfl) ?_
      refine iv_if_le (tgt := 190) hx hb h_y7 dX0_lay_163 (by decide) (fun c24 => ?_) (fun c24 => ?_)
      · have h := h.1 c24
        exact h H _ ls hh (lv_sub hl [1, 2, 3, 4, 5, 7, 8, 10, 11] rfl)
      · have h := h.2 c24
        refine lv_iload hx hb dX0_lay_166 (lv_at hl 11 rfl) ?_
        refine lv_iload hx hb dX0_lay_168 (lv_at hl 0 rfl) ?_
        obtain ⟨g25, h⟩ := h
        refine iv_icmp_ge (tgt := 190) hx hb h_y11 g25 dX0_lay_170 (by decide) (fun c26 => ?_) (fun c26 => ?_)
        · have h := h.2 c26
          exact h H _ ls hh (lv_sub hl [1, 2, 3, 4, 5, 7, 8, 10, 11] rfl)
        · have h := h.1 c26
          refine lv_iload hx hb dX0_lay_173 (lv_at hl 0 rfl) ?_
          refine lv_istore (lv' := [(11, .int (hI (y5 + 1))), (12, .int (hI (y5 + 1))), (0, .ref (ad 7 0)), (1, .ref (ad j 0)), (2, .int (hI glyph)), (3, .int (hI size)), (4, .int (hI y4)), (5, .int (hI y5)), (7, .int (hI y7)), (8, .int (hI y8)), (9, .int (hI y9)), (10, .int (hI y10))]) hx hb dX0_lay_175 hl (by decide) rfl (fun ls hl => ?_)
          refine lv_aload_n hx hb dX0_lay_177 rfl (lv_at hl 2 rfl) ?_
          refine lv_dup hx hb dX0_lay_178 rfl ?_
          refine iv_get (v' := .int (hI (T1 0 1))) hx hb hts inX0 hown hK hh.1 (ob_Fit) rfl 1 (by decide) (hts _ q1_114) rfl rfl (congrArg (fun z => Value.int (hI (z 0 1))) (gset_at _ _ _)) dX0_lay_179 ?_
          have hm27 : hIn (T1 0 1) := hIn_rd hh.2.1 (gset_at _ _ _) (by decide)
          refine iv_iconst hx hb dX0_lay_182 ?_
          refine lv_iload hx hb dX0_lay_183 (lv_at hl 8 rfl) ?_
          refine iv_ishl hx hb dX0_lay_185 ?_
          refine iv_ior hx hb dX0_lay_186 ?_
          refine iv_put (S' := (gset S 7 (aset T1 0 1 (iOr (T1 0 1) (iShl 1 y7))))) (ty := .int) hx hb hts inX0 tyX0 tyX0_ok nmX0 hown hK hinj hh (h112 (by decide)) un_Fit (Or.inl rfl) (ob_Fit) rfl 1 (by decide) (hts _ q1_114) rfl rfl (by decide +kernel) rfl rfl (Nat.le_of_ble_eq_true rfl) (pu_Fit_pushed) (Or.inl (hIn_toInt _)) (by rw [show (gset S 7 T1) 7 = T1 from (gset_at _ _ _)]; exact (gset_gset _ _ _ _)) dX0_lay_187 (fun H locs hh => ?_)
          exact h H _ ls hh (lv_sub hl [2, 3, 4, 5, 6, 8, 9, 11, 0] rfl)
  have r190 : ∀ (y4 : Int) (y7 : Int) (y8 : Int) (y10 : Int) (y11 : Int) (T1 : hGM), hIn y4 → hIn y7 → hIn y8 → hIn y10 → hIn y11 → ((∀ (i : Nat) (k : Int), i < 100 → hIn (T1 i k)) → (p_X0_light T1 y7 y11 y10 ∧ (p_X1_endOf A y8 ∧ (hAt D ad cI cJ cF p l e ({ frames := 3, cells := 0, slots := 0, locals := 69 } : Room) s m args below meth c (MQ below (hQv D ad cI cJ cF (gset S 7 (m_X0_lay A T glyph size))) args s 0 0 (hAd ad)) 13 50 [(0, .ref (ad 7 0)), (1, .ref (ad j 0)), (2, .int (hI glyph)), (3, .int (hI size)), (4, .int (hI y4)), (5, .int (hI (y11 + y10))), (6, .int (hI (v_X1_endOf A y8))), (7, .int (hI (y7 + 1)))] (gset S 7 (m_X0_light T1 y7 y11 y10)))))) → (hAt D ad cI cJ cF p l e ({ frames := 3, cells := 0, slots := 0, locals := 69 } : Room) s m args below meth c (MQ below (hQv D ad cI cJ cF (gset S 7 (m_X0_lay A T glyph size))) args s 0 0 (hAd ad)) 13 190 [(0, .ref (ad 7 0)), (1, .ref (ad j 0)), (2, .int (hI glyph)), (3, .int (hI size)), (4, .int (hI y4)), (7, .int (hI y7)), (8, .int (hI y8)), (10, .int (hI y10)), (11, .int (hI y11))] (gset S 7 T1)) := by
    intro y4 y7 y8 y10 y11 T1 h_y4 h_y7 h_y8 h_y10 h_y11 h H locs ls hh hl
    have h := h (fun i k hi => hIn_rd hh.2.1 (gset_at _ _ _) hi)
    refine lv_aload_n hx hb dX0_lay_190 rfl (lv_at hl 0 rfl) ?_
    refine lv_iload hx hb dX0_lay_191 (lv_at hl 5 rfl) ?_
    refine lv_iload hx hb dX0_lay_193 (lv_at hl 8 rfl) ?_
    refine lv_iload hx hb dX0_lay_195 (lv_at hl 7 rfl) ?_
    obtain ⟨g28, h⟩ := h
    refine iv_kv (iv_rV (As := [.int (hI y7), .int (hI y11), .int (hI y10)]) (rest := []) E hh (ok_X0_light l hinj (gset S 7 T1) T1 (gset_at _ _ _) y7 y11 y10 h_y7 h_y11 h_y10 g28) cb_X0_light q2_48 rfl rfl ⟨Nat.le_of_ble_eq_true rfl, Nat.le_of_ble_eq_true rfl⟩ (ob_Fit) rfl rfl rfl hl.1 rfl (Nat.le_of_ble_eq_true rfl) dX0_lay_197 ⟨Nat.zero_le _, Nat.zero_le _⟩) hh (fun H locs hh => ?_)
    replace hh : hH D ad cI cJ cF (gset S 7 (m_X0_light T1 y7 y11 y10)) s H locs := by rw [← show _ = (gset S 7 (m_X0_light T1 y7 y11 y10)) from (gset_gset _ _ _ _)]; exact hh
    refine lv_iload hx hb dX0_lay_200 (lv_at hl 8 rfl) ?_
    refine lv_iload hx hb dX0_lay_202 (lv_at hl 7 rfl) ?_
    refine iv_iadd hx hb dX0_lay_204 ?_
    refine lv_istore (lv' := [(5, .int (hI (y11 + y10))), (0, .ref (ad 7 0)), (1, .ref (ad j 0)), (2, .int (hI glyph)), (3, .int (hI size)), (4, .int (hI y4)), (7, .int (hI y7)), (8, .int (hI y8)), (10, .int (hI y10)), (11, .int (hI y11))]) hx hb dX0_lay_205 hl (by decide) rfl (fun ls hl => ?_)
    refine lv_aload_n hx hb dX0_lay_207 rfl (lv_at hl 2 rfl) ?_
    refine lv_iload hx hb dX0_lay_208 (lv_at hl 7 rfl) ?_
    obtain ⟨g29, h⟩ := h
    refine iv_ki (iv_rV (As := [.int (hI y8)]) (rest := []) E hh (ok_X1_endOf l hinj (gset S 7 (m_X0_light T1 y7 y11 y10)) hj A ((gset_ne (Nat.ne_of_lt (Nat.lt_of_lt_of_le hj (by decide)))).trans hA) y8 h_y8 g29) cb_X1_endOf q2_55 rfl rfl ⟨Nat.le_of_ble_eq_true rfl, Nat.le_of_ble_eq_true rfl⟩ (ob_Font hj) rfl rfl rfl hl.1 rfl (Nat.le_of_ble_eq_true rfl) dX0_lay_210 ⟨Nat.zero_le _, Nat.zero_le _⟩) hh (fun hc30 H locs hh => ?_)
    refine lv_istore (lv' := [(6, .int (hI (v_X1_endOf A y8))), (5, .int (hI (y11 + y10))), (0, .ref (ad 7 0)), (1, .ref (ad j 0)), (2, .int (hI glyph)), (3, .int (hI size)), (4, .int (hI y4)), (7, .int (hI y7)), (8, .int (hI y8)), (10, .int (hI y10)), (11, .int (hI y11))]) hx hb dX0_lay_213 hl (by decide) rfl (fun ls hl => ?_)
    refine iv_iinc (lv' := [(7, .int (hI (y7 + 1))), (6, .int (hI (v_X1_endOf A y8))), (5, .int (hI (y11 + y10))), (0, .ref (ad 7 0)), (1, .ref (ad j 0)), (2, .int (hI glyph)), (3, .int (hI size)), (4, .int (hI y4)), (8, .int (hI y8)), (10, .int (hI y10)), (11, .int (hI y11))]) hx hb dX0_lay_215 hl (k := 7) rfl (v := (y7 + 1)) rfl (by decide) rfl (fun ls hl => ?_)
    refine lv_goto (tgt := 50) hx hb dX0_lay_218 (by decide) ?_
    exact h H _ ls hh (lv_sub hl [3, 4, 5, 6, 7, 2, 1, 0] rfl)
  intro H locs ls hh hl
  have hl : lv_has ls 13 [(0, .ref (ad 7 0)), (1, .ref (ad j 0)), (2, .int (hI glyph)), (3, .int (hI size))] := hl
  replace hh : hH D ad cI cJ cF (gset S 7 T) s H locs := by rw [← can1 hT]; exact hh
  have h := x_X0_lay A T glyph size h_glyph h_size (fun i k hi => hIn_rd hh.2.1 ((gset_ne (Nat.ne_of_lt (Nat.lt_of_lt_of_le hj (by decide)))).trans hA) hi) (fun i k hi => hIn_rd hh.2.1 (gset_at _ _ _) hi) hp (fun y4 y5 y6 y7 T1 => (hAt D ad cI cJ cF p l e ({ frames := 3, cells := 0, slots := 0, locals := 69 } : Room) s m args below meth c (MQ below (hQv D ad cI cJ cF (gset S 7 (m_X0_lay A T glyph size))) args s 0 0 (hAd ad)) 13 50 [(0, .ref (ad 7 0)), (1, .ref (ad j 0)), (2, .int (hI glyph)), (3, .int (hI size)), (4, .int (hI y4)), (5, .int (hI y5)), (6, .int (hI y6)), (7, .int (hI y7))] (gset S 7 T1))) (fun y4 y5 y7 y8 y9 y10 y11 T1 => (hAt D ad cI cJ cF p l e ({ frames := 3, cells := 0, slots := 0, locals := 69 } : Room) s m args below meth c (MQ below (hQv D ad cI cJ cF (gset S 7 (m_X0_lay A T glyph size))) args s 0 0 (hAd ad)) 13 146 [(0, .ref (ad 7 0)), (1, .ref (ad j 0)), (2, .int (hI glyph)), (3, .int (hI size)), (4, .int (hI y4)), (5, .int (hI y5)), (7, .int (hI y7)), (8, .int (hI y8)), (9, .int (hI y9)), (10, .int (hI y10)), (11, .int (hI y11))] (gset S 7 T1))) (fun y4 y7 y8 y10 y11 T1 => (hAt D ad cI cJ cF p l e ({ frames := 3, cells := 0, slots := 0, locals := 69 } : Room) s m args below meth c (MQ below (hQv D ad cI cJ cF (gset S 7 (m_X0_lay A T glyph size))) args s 0 0 (hAd ad)) 13 190 [(0, .ref (ad 7 0)), (1, .ref (ad j 0)), (2, .int (hI glyph)), (3, .int (hI size)), (4, .int (hI y4)), (7, .int (hI y7)), (8, .int (hI y8)), (10, .int (hI y10)), (11, .int (hI y11))] (gset S 7 T1))) (fun T1 => (T1 = m_X0_lay A T glyph size)) r50 r146 r190 rfl
  refine lv_aload_n hx hb dX0_lay_0 rfl (lv_at hl 1 rfl) ?_
  refine iv_getN (v' := .ref (ad j 2)) hx hb hts inX1 hown hK hh.1 (ob_Font hj) rfl 5 (by decide) (hN _ q1_69) rfl rfl rfl dX0_lay_1 ?_
  refine lv_iload_n hx hb dX0_lay_4 rfl (lv_at hl 2 rfl) ?_
  refine iv_ki (iv_rN (As := [.ref (ad j 2), .int (hI glyph)]) (rest := []) E hh (ok_X5_cell l hinj (gset S 7 T) (ia_F_2 hj) A ((gset_ne (Nat.ne_of_lt (Nat.lt_of_lt_of_le hj (by decide)))).trans hA) glyph h_glyph) cb_X5_cell q2_15 rfl rfl ⟨Nat.le_of_ble_eq_true rfl, Nat.le_of_ble_eq_true rfl⟩ rfl hl.1 rfl (Nat.le_of_ble_eq_true rfl) dX0_lay_5 ⟨Nat.zero_le _, Nat.zero_le _⟩) hh (fun hc31 H locs hh => ?_)
  refine lv_istore (lv' := [(4, .int (hI (v_X5_cell A 2 8 glyph))), (0, .ref (ad 7 0)), (1, .ref (ad j 0)), (2, .int (hI glyph)), (3, .int (hI size))]) hx hb dX0_lay_8 hl (by decide) rfl (fun ls hl => ?_)
  refine lv_aload_n hx hb dX0_lay_10 rfl (lv_at hl 1 rfl) ?_
  refine lv_aload_n hx hb dX0_lay_11 rfl (lv_at hl 2 rfl) ?_
  refine iv_getN (v' := .ref (ad j 1)) hx hb hts inX1 hown hK hh.1 (ob_Font hj) rfl 4 (by decide) (hN _ q1_67) rfl rfl rfl dX0_lay_12 ?_
  refine lv_iload_n hx hb dX0_lay_15 rfl (lv_at hl 3 rfl) ?_
  refine iv_ki (iv_rN (As := [.ref (ad j 1), .int (hI glyph)]) (rest := [.ref (ad 7 0)]) E hh (ok_X5_cell l hinj (gset S 7 T) (ia_F_1 hj) A ((gset_ne (Nat.ne_of_lt (Nat.lt_of_lt_of_le hj (by decide)))).trans hA) glyph h_glyph) cb_X5_cell q2_15 rfl rfl ⟨Nat.le_of_ble_eq_true rfl, Nat.le_of_ble_eq_true rfl⟩ rfl hl.1 rfl (Nat.le_of_ble_eq_true rfl) dX0_lay_16 ⟨Nat.zero_le _, Nat.zero_le _⟩) hh (fun hc32 H locs hh => ?_)
  refine lv_iload_n hx hb dX0_lay_19 rfl (lv_at hl 4 rfl) ?_
  obtain ⟨g33, h⟩ := h
  refine iv_ki (iv_rS (As := [.int (hI (v_X5_cell A 1 8 glyph)), .int (hI size)]) (rest := [.ref (ad 7 0)]) E hh (ok_X0_columnsOf l hinj (gset S 7 T) (v_X5_cell A 1 8 glyph) size hc32 h_size g33) cb_X0_columnsOf q2_16 rfl rfl ⟨Nat.le_of_ble_eq_true rfl, Nat.le_of_ble_eq_true rfl⟩ rfl hl.1 rfl (Nat.le_of_ble_eq_true rfl) dX0_lay_20 ⟨Nat.zero_le _, Nat.zero_le _⟩) hh (fun hc34 H locs hh => ?_)
  refine iv_put (S' := (gset S 7 (aset T 0 0 (v_X0_columnsOf (v_X5_cell A 1 8 glyph) size)))) (ty := .int) hx hb hts inX0 tyX0 tyX0_ok nmX0 hown hK hinj hh (h112 (by decide)) un_Fit (Or.inl rfl) (ob_Fit) rfl 0 (by decide) (hts _ q1_112) rfl rfl (by decide +kernel) rfl rfl (Nat.le_of_ble_eq_true rfl) (pu_Fit_columns) (Or.inl hc34) (by rw [show (gset S 7 T) 7 = T from (gset_at _ _ _)]; exact (gset_gset _ _ _ _)) dX0_lay_23 (fun H locs hh => ?_)
  refine lv_aload_n hx hb dX0_lay_26 rfl (lv_at hl 1 rfl) ?_
  refine iv_iconst hx hb dX0_lay_27 ?_
  refine iv_put (S' := (gset S 7 (aset (aset T 0 0 (v_X0_columnsOf (v_X5_cell A 1 8 glyph) size)) 0 1 0))) (ty := .int) hx hb hts inX0 tyX0 tyX0_ok nmX0 hown hK hinj hh (h112 (by decide)) un_Fit (Or.inl rfl) (ob_Fit) rfl 1 (by decide) (hts _ q1_114) rfl rfl (by decide +kernel) rfl rfl (Nat.le_of_ble_eq_true rfl) (pu_Fit_pushed) (Or.inl ⟨by decide, by decide⟩) (by rw [show (gset S 7 (aset T 0 0 (v_X0_columnsOf (v_X5_cell A 1 8 glyph) size))) 7 = (aset T 0 0 (v_X0_columnsOf (v_X5_cell A 1 8 glyph) size)) from (gset_at _ _ _)]; exact (gset_gset _ _ _ _)) dX0_lay_28 (fun H locs hh => ?_)
  refine lv_aload_n hx hb dX0_lay_31 rfl (lv_at hl 1 rfl) ?_
  refine iv_iconst hx hb dX0_lay_32 ?_
  refine iv_put (S' := (gset S 7 (aset (aset (aset T 0 0 (v_X0_columnsOf (v_X5_cell A 1 8 glyph) size)) 0 1 0) 0 2 0))) (ty := .int) hx hb hts inX0 tyX0 tyX0_ok nmX0 hown hK hinj hh (h112 (by decide)) un_Fit (Or.inl rfl) (ob_Fit) rfl 2 (by decide) (hts _ q1_115) rfl rfl (by decide +kernel) rfl rfl (Nat.le_of_ble_eq_true rfl) (pu_Fit_clipped) (Or.inl ⟨by decide, by decide⟩) (by rw [show (gset S 7 (aset (aset T 0 0 (v_X0_columnsOf (v_X5_cell A 1 8 glyph) size)) 0 1 0)) 7 = (aset (aset T 0 0 (v_X0_columnsOf (v_X5_cell A 1 8 glyph) size)) 0 1 0) from (gset_at _ _ _)]; exact (gset_gset _ _ _ _)) dX0_lay_33 (fun H locs hh => ?_)
  refine lv_aload_n hx hb dX0_lay_36 rfl (lv_at hl 1 rfl) ?_
  refine lv_lconst (v := hJ 0) hx hb dX0_lay_37 (by decide) ?_
  refine iv_put (S' := (gset S 7 (aset (aset (aset (aset T 0 0 (v_X0_columnsOf (v_X5_cell A 1 8 glyph) size)) 0 1 0) 0 2 0) 100 0 0))) (ty := .long) hx hb hts inX0 tyX0 tyX0_ok nmX0 hown hK hinj hh (h112 (by decide)) un_Fit (Or.inr rfl) (ob_Fit) rfl 3 (by decide) (hts _ q1_116) rfl rfl (by decide +kernel) rfl rfl (Nat.le_of_ble_eq_true rfl) (pu_Fit_lit) (Or.inr (by decide)) (by rw [show (gset S 7 (aset (aset (aset T 0 0 (v_X0_columnsOf (v_X5_cell A 1 8 glyph) size)) 0 1 0) 0 2 0)) 7 = (aset (aset (aset T 0 0 (v_X0_columnsOf (v_X5_cell A 1 8 glyph) size)) 0 1 0) 0 2 0) from (gset_at _ _ _)]; exact (gset_gset _ _ _ _)) dX0_lay_38 (fun H locs hh => ?_)
  refine iv_iconst hx hb dX0_lay_41 ?_
  refine lv_istore (lv' := [(5, .int (hI 0)), (4, .int (hI (v_X5_cell A 2 8 glyph))), (0, .ref (ad 7 0)), (1, .ref (ad j 0)), (2, .int (hI glyph)), (3, .int (hI size))]) hx hb dX0_lay_42 hl (by decide) rfl (fun ls hl => ?_)
  refine iv_iconst hx hb dX0_lay_44 ?_
  refine lv_istore (lv' := [(6, .int (hI 0)), (5, .int (hI 0)), (4, .int (hI (v_X5_cell A 2 8 glyph))), (0, .ref (ad 7 0)), (1, .ref (ad j 0)), (2, .int (hI glyph)), (3, .int (hI size))]) hx hb dX0_lay_45 hl (by decide) rfl (fun ls hl => ?_)
  refine iv_iconst hx hb dX0_lay_47 ?_
  refine lv_istore (lv' := [(7, .int (hI 0)), (6, .int (hI 0)), (5, .int (hI 0)), (4, .int (hI (v_X5_cell A 2 8 glyph))), (0, .ref (ad 7 0)), (1, .ref (ad j 0)), (2, .int (hI glyph)), (3, .int (hI size))]) hx hb dX0_lay_48 hl (by decide) rfl (fun ls hl => ?_)
  exact h H _ ls hh (lv_sub hl [4, 5, 6, 7, 3, 2, 1, 0] rfl)
set_option maxHeartbeats 4000000 in
set_option maxRecDepth 100000 in
theorem ok_X1_makeSheet (l : Launch) (hinj : hInj ad) (S : hS) {j : Nat} (hj : j < 7) (A : hGM) (hA : S j = A) (T : hGM) (hT : S 7 = T) (size : Int) (h_size : hIn size) (hp : p_X1_makeSheet A T size) : hMi D ad cI cJ cF l yX1_makeSheet cX1_makeSheet 5 (some .int) ({ frames := 4, cells := 0, slots := 0, locals := 101 } : Room) [.ref (ad j 0), .int (hI size), .ref (ad 7 0)] S (v_X1_makeSheet A T size) (gset (gset S j (mA_X1_makeSheet A T size)) 7 (mT_X1_makeSheet A T size)) := by
  refine hOf (S := S) l hinj (by decide +kernel) (Nat.le_of_ble_eq_true rfl) (fun p e s m args below meth c E => ?_)
  obtain ⟨hx, hb, hml, hown, hts, hK, hN, -, hr, hlk, hz⟩ := id E
  have hown : s.vm.findClass RX1 = some m.cls := hown
  have r35 : ∀ (y3 : Int) (y4 : Int) (A1 : hGM) (T1 : hGM), hIn y3 → hIn y4 → ((∀ (i : Nat) (k : Int), i < 100 → hIn (A1 i k)) → (∀ (i : Nat) (k : Int), i < 100 → hIn (T1 i k)) → ((y4 < (A1 0 0) → (p_X0_lay A1 T1 y4 size ∧ (hIn ((y3 * 8) + y4) ∧ (hAt D ad cI cJ cF p l e ({ frames := 4, cells := 0, slots := 0, locals := 101 } : Room) s m args below meth c (MQ below (hQi D ad cI cJ cF (v_X1_makeSheet A T size) (gset (gset S j (mA_X1_makeSheet A T size)) 7 (mT_X1_makeSheet A T size))) args s 0 0 (hAd ad)) 5 35 [(0, .ref (ad j 0)), (1, .int (hI size)), (2, .ref (ad 7 0)), (3, .int (hI y3)), (4, .int (hI (y4 + 1)))] (gset (gset S j (m_X4_keep A1 ((y3 * 8) + y4) ((m_X0_lay A1 T1 y4 size) 0 0) ((m_X0_lay A1 T1 y4 size) 100 0))) 7 (m_X0_lay A1 T1 y4 size)))))) ∧ (¬ y4 < (A1 0 0) → (p_X4_held A1 ∧ ((v_X4_held A1) = v_X1_makeSheet A T size ∧ A1 = mA_X1_makeSheet A T size ∧ T1 = mT_X1_makeSheet A T size))))) → (hAt D ad cI cJ cF p l e ({ frames := 4, cells := 0, slots := 0, locals := 101 } : Room) s m args below meth c (MQ below (hQi D ad cI cJ cF (v_X1_makeSheet A T size) (gset (gset S j (mA_X1_makeSheet A T size)) 7 (mT_X1_makeSheet A T size))) args s 0 0 (hAd ad)) 5 35 [(0, .ref (ad j 0)), (1, .int (hI size)), (2, .ref (ad 7 0)), (3, .int (hI y3)), (4, .int (hI y4))] (gset (gset S j A1) 7 T1)) := by
    intro y3 y4 A1 T1 h_y3 h_y4 h H locs ls hh hl
    have h := h (fun i k hi => hIn_rd hh.2.1 ((gset_ne (Nat.ne_of_lt (Nat.lt_of_lt_of_le hj (by decide)))).trans (gset_at _ _ _)) hi) (fun i k hi => hIn_rd hh.2.1 (gset_at _ _ _) hi)
    refine lv_iload hx hb dX1_makeSheet_35 (lv_at hl 4 rfl) ?_
    refine lv_aload_n hx hb dX1_makeSheet_37 rfl (lv_at hl 0 rfl) ?_
    refine iv_get (v' := .int (hI (A1 0 0))) hx hb hts inX1 hown hK hh.1 (ob_Font hj) rfl 0 (by decide) (hts _ q1_57) rfl rfl (congrArg (fun z => Value.int (hI (z 0 0))) ((gset_ne (Nat.ne_of_lt (Nat.lt_of_lt_of_le hj (by decide)))).trans (gset_at _ _ _))) dX1_makeSheet_38 ?_
    have hm1 : hIn (A1 0 0) := hIn_rd hh.2.1 ((gset_ne (Nat.ne_of_lt (Nat.lt_of_lt_of_le hj (by decide)))).trans (gset_at _ _ _)) (by decide)
    refine iv_icmp_ge (tgt := 80) hx hb h_y4 hm1 dX1_makeSheet_41 (by decide) (fun c2 => ?_) (fun c2 => ?_)
    · have h := h.2 c2
      refine lv_aload_n hx hb dX1_makeSheet_80 rfl (lv_at hl 0 rfl) ?_
      refine iv_get (v' := .ref (ad j 7)) hx hb hts inX1 hown hK hh.1 (ob_Font hj) rfl 10 (by decide) (hts _ q1_81) rfl rfl rfl dX1_makeSheet_81 ?_
      obtain ⟨g3, h⟩ := h
      refine iv_ki (iv_rV (As := []) (rest := []) E hh (ok_X4_held l hinj (gset (gset S j A1) 7 T1) hj A1 ((gset_ne (Nat.ne_of_lt (Nat.lt_of_lt_of_le hj (by decide)))).trans (gset_at _ _ _)) g3) cb_X4_held q3_12 rfl rfl ⟨Nat.le_of_ble_eq_true rfl, Nat.le_of_ble_eq_true rfl⟩ (ob_Sheets hj) rfl rfl rfl hl.1 rfl (Nat.le_of_ble_eq_true rfl) dX1_makeSheet_84 ⟨Nat.zero_le _, Nat.zero_le _⟩) hh (fun hc4 H locs hh => ?_)
      exact iv_iret E hh h.1 (by rw [← h.1]; exact hc4) (by rw [← h.2.1, ← h.2.2]) dX1_makeSheet_87
    · have h := h.1 c2
      refine lv_aload_n hx hb dX1_makeSheet_44 rfl (lv_at hl 2 rfl) ?_
      refine lv_aload_n hx hb dX1_makeSheet_45 rfl (lv_at hl 0 rfl) ?_
      refine lv_iload hx hb dX1_makeSheet_46 (lv_at hl 4 rfl) ?_
      refine lv_iload_n hx hb dX1_makeSheet_48 rfl (lv_at hl 1 rfl) ?_
      obtain ⟨g5, h⟩ := h
      refine iv_kv (iv_rV (As := [.ref (ad j 0), .int (hI y4), .int (hI size)]) (rest := []) E hh (ok_X0_lay l hinj (gset (gset S j A1) 7 T1) hj A1 ((gset_ne (Nat.ne_of_lt (Nat.lt_of_lt_of_le hj (by decide)))).trans (gset_at _ _ _)) T1 (gset_at _ _ _) y4 size h_y4 h_size g5) cb_X0_lay q2_11 rfl rfl ⟨Nat.le_of_ble_eq_true rfl, Nat.le_of_ble_eq_true rfl⟩ (ob_Fit) rfl rfl rfl hl.1 rfl (Nat.le_of_ble_eq_true rfl) dX1_makeSheet_49 ⟨Nat.zero_le _, Nat.zero_le _⟩) hh (fun H locs hh => ?_)
      replace hh : hH D ad cI cJ cF (gset (gset S j A1) 7 (m_X0_lay A1 T1 y4 size)) s H locs := by rw [← show _ = (gset (gset S j A1) 7 (m_X0_lay A1 T1 y4 size)) from (gset_gset _ _ _ _)]; exact hh
      refine lv_aload_n hx hb dX1_makeSheet_52 rfl (lv_at hl 0 rfl) ?_
      refine iv_get (v' := .ref (ad j 7)) hx hb hts inX1 hown hK hh.1 (ob_Font hj) rfl 10 (by decide) (hts _ q1_81) rfl rfl rfl dX1_makeSheet_53 ?_
      refine lv_iload_n hx hb dX1_makeSheet_56 rfl (lv_at hl 3 rfl) ?_
      refine lv_bipush (v := hI 8) hx hb dX1_makeSheet_57 (by decide) ?_
      refine iv_imul hx hb dX1_makeSheet_59 ?_
      refine lv_iload hx hb dX1_makeSheet_60 (lv_at hl 4 rfl) ?_
      refine iv_iadd hx hb dX1_makeSheet_62 ?_
      refine lv_aload_n hx hb dX1_makeSheet_63 rfl (lv_at hl 2 rfl) ?_
      refine iv_getN (v' := .int (hI ((m_X0_lay A1 T1 y4 size) 0 0))) hx hb hts inX0 hown hK hh.1 (ob_Fit) rfl 0 (by decide) (hN _ q1_113) rfl rfl (congrArg (fun z => Value.int (hI (z 0 0))) (gset_at _ _ _)) dX1_makeSheet_64 ?_
      have hm6 : hIn ((m_X0_lay A1 T1 y4 size) 0 0) := hIn_rd hh.2.1 (gset_at _ _ _) (by decide)
      refine lv_aload_n hx hb dX1_makeSheet_67 rfl (lv_at hl 2 rfl) ?_
      refine iv_getN (v' := .long (hJ ((m_X0_lay A1 T1 y4 size) 100 0))) hx hb hts inX0 hown hK hh.1 (ob_Fit) rfl 3 (by decide) (hN _ q1_117) rfl rfl (congrArg (fun z => Value.long (hJ (z 100 0))) (gset_at _ _ _)) dX1_makeSheet_68 ?_
      obtain ⟨g7, h⟩ := h
      refine iv_kv (iv_rV (As := [.int (hI ((y3 * 8) + y4)), .int (hI ((m_X0_lay A1 T1 y4 size) 0 0)), .long (hJ ((m_X0_lay A1 T1 y4 size) 100 0))]) (rest := []) E hh (ok_X4_keep l hinj (gset (gset S j A1) 7 (m_X0_lay A1 T1 y4 size)) hj A1 ((gset_ne (Nat.ne_of_lt (Nat.lt_of_lt_of_le hj (by decide)))).trans (gset_at _ _ _)) ((y3 * 8) + y4) ((m_X0_lay A1 T1 y4 size) 0 0) ((m_X0_lay A1 T1 y4 size) 100 0) g7 hm6) cb_X4_keep q3_8 rfl rfl ⟨Nat.le_of_ble_eq_true rfl, Nat.le_of_ble_eq_true rfl⟩ (ob_Sheets hj) rfl rfl rfl hl.1 rfl (Nat.le_of_ble_eq_true rfl) dX1_makeSheet_71 ⟨Nat.zero_le _, Nat.zero_le _⟩) hh (fun H locs hh => ?_)
      replace hh : hH D ad cI cJ cF (gset (gset S j (m_X4_keep A1 ((y3 * 8) + y4) ((m_X0_lay A1 T1 y4 size) 0 0) ((m_X0_lay A1 T1 y4 size) 100 0))) 7 (m_X0_lay A1 T1 y4 size)) s H locs := by rw [← show _ = (gset (gset S j (m_X4_keep A1 ((y3 * 8) + y4) ((m_X0_lay A1 T1 y4 size) 0 0) ((m_X0_lay A1 T1 y4 size) 100 0))) 7 (m_X0_lay A1 T1 y4 size)) from ((gset_comm (Nat.ne_of_lt (Nat.lt_of_lt_of_le hj (by decide)))).trans (congrArg (fun z => gset z 7 (m_X0_lay A1 T1 y4 size)) (gset_gset _ _ _ _)))]; exact hh
      refine iv_iinc (lv' := [(4, .int (hI (y4 + 1))), (0, .ref (ad j 0)), (1, .int (hI size)), (2, .ref (ad 7 0)), (3, .int (hI y3))]) hx hb dX1_makeSheet_74 hl (k := 4) rfl (v := (y4 + 1)) rfl (by decide) rfl (fun ls hl => ?_)
      refine lv_goto (tgt := 35) hx hb dX1_makeSheet_77 (by decide) ?_
      exact h H _ ls hh (lv_sub hl [1, 2, 3, 4, 0] rfl)
  intro H locs ls hh hl
  have hl : lv_has ls 5 [(0, .ref (ad j 0)), (1, .int (hI size)), (2, .ref (ad 7 0))] := hl
  replace hh : hH D ad cI cJ cF (gset (gset S j A) 7 T) s H locs := by rw [← can2 (Nat.ne_of_gt (Nat.lt_of_lt_of_le hj (by decide))) hA hT]; exact hh
  have h := x_X1_makeSheet A T size h_size (fun i k hi => hIn_rd hh.2.1 ((gset_ne (Nat.ne_of_lt (Nat.lt_of_lt_of_le hj (by decide)))).trans (gset_at _ _ _)) hi) (fun i k hi => hIn_rd hh.2.1 (gset_at _ _ _) hi) hp (fun y3 y4 A1 T1 => (hAt D ad cI cJ cF p l e ({ frames := 4, cells := 0, slots := 0, locals := 101 } : Room) s m args below meth c (MQ below (hQi D ad cI cJ cF (v_X1_makeSheet A T size) (gset (gset S j (mA_X1_makeSheet A T size)) 7 (mT_X1_makeSheet A T size))) args s 0 0 (hAd ad)) 5 35 [(0, .ref (ad j 0)), (1, .int (hI size)), (2, .ref (ad 7 0)), (3, .int (hI y3)), (4, .int (hI y4))] (gset (gset S j A1) 7 T1))) (fun r A1 T1 => (r = v_X1_makeSheet A T size ∧ A1 = mA_X1_makeSheet A T size ∧ T1 = mT_X1_makeSheet A T size)) r35 ⟨rfl, rfl, rfl⟩
  refine lv_iload_n hx hb dX1_makeSheet_0 rfl (lv_at hl 1 rfl) ?_
  refine iv_ki (iv_rN (As := [.int (hI size)]) (rest := []) E hh (ok_X5_isSize l hinj (gset (gset S j A) 7 T) size h_size) cb_X5_isSize q2_237 rfl rfl ⟨Nat.le_of_ble_eq_true rfl, Nat.le_of_ble_eq_true rfl⟩ rfl hl.1 rfl (Nat.le_of_ble_eq_true rfl) dX1_makeSheet_1 ⟨Nat.zero_le _, Nat.zero_le _⟩) hh (fun hc8 H locs hh => ?_)
  refine iv_if_ne (tgt := 10) hx hb hc8 dX1_makeSheet_4 (by decide) (fun c9 => ?_) (fun c9 => ?_)
  · have h := h.2 c9
    refine lv_aload_n hx hb dX1_makeSheet_10 rfl (lv_at hl 0 rfl) ?_
    refine iv_get (v' := .ref (ad j 7)) hx hb hts inX1 hown hK hh.1 (ob_Font hj) rfl 10 (by decide) (hts _ q1_81) rfl rfl rfl dX1_makeSheet_11 ?_
    refine lv_iload_n hx hb dX1_makeSheet_14 rfl (lv_at hl 1 rfl) ?_
    obtain ⟨g10, h⟩ := h
    refine iv_ki (iv_rV (As := [.int (hI size)]) (rest := []) E hh (ok_X4_slotToMake l hinj (gset (gset S j A) 7 T) hj A ((gset_ne (Nat.ne_of_lt (Nat.lt_of_lt_of_le hj (by decide)))).trans (gset_at _ _ _)) size h_size g10) cb_X4_slotToMake q2_238 rfl rfl ⟨Nat.le_of_ble_eq_true rfl, Nat.le_of_ble_eq_true rfl⟩ (ob_Sheets hj) rfl rfl rfl hl.1 rfl (Nat.le_of_ble_eq_true rfl) dX1_makeSheet_15 ⟨Nat.zero_le _, Nat.zero_le _⟩) hh (fun hc11 H locs hh => ?_)
    refine lv_istore_n (lv' := [(3, .int (hI (v_X4_slotToMake A size))), (0, .ref (ad j 0)), (1, .int (hI size)), (2, .ref (ad 7 0))]) hx hb dX1_makeSheet_18 rfl hl (by decide) rfl (fun ls hl => ?_)
    refine lv_aload_n hx hb dX1_makeSheet_19 rfl (lv_at hl 1 rfl) ?_
    refine iv_get (v' := .ref (ad j 7)) hx hb hts inX1 hown hK hh.1 (ob_Font hj) rfl 10 (by decide) (hts _ q1_81) rfl rfl rfl dX1_makeSheet_20 ?_
    refine lv_iload_n hx hb dX1_makeSheet_23 rfl (lv_at hl 0 rfl) ?_
    refine lv_iload_n hx hb dX1_makeSheet_24 rfl (lv_at hl 2 rfl) ?_
    refine lv_aload_n hx hb dX1_makeSheet_25 rfl (lv_at hl 1 rfl) ?_
    refine iv_get (v' := .int (hI (A 0 0))) hx hb hts inX1 hown hK hh.1 (ob_Font hj) rfl 0 (by decide) (hts _ q1_57) rfl rfl (congrArg (fun z => Value.int (hI (z 0 0))) ((gset_ne (Nat.ne_of_lt (Nat.lt_of_lt_of_le hj (by decide)))).trans (gset_at _ _ _))) dX1_makeSheet_26 ?_
    have hm12 : hIn (A 0 0) := hIn_rd hh.2.1 ((gset_ne (Nat.ne_of_lt (Nat.lt_of_lt_of_le hj (by decide)))).trans (gset_at _ _ _)) (by decide)
    obtain ⟨g13, h⟩ := h
    refine iv_kv (iv_rV (As := [.int (hI (v_X4_slotToMake A size)), .int (hI size), .int (hI (A 0 0))]) (rest := []) E hh (ok_X4_begin l hinj (gset (gset S j A) 7 T) hj A ((gset_ne (Nat.ne_of_lt (Nat.lt_of_lt_of_le hj (by decide)))).trans (gset_at _ _ _)) (v_X4_slotToMake A size) size (A 0 0) hc11 h_size hm12 g13) cb_X4_begin q3_3 rfl rfl ⟨Nat.le_of_ble_eq_true rfl, Nat.le_of_ble_eq_true rfl⟩ (ob_Sheets hj) rfl rfl rfl hl.1 rfl (Nat.le_of_ble_eq_true rfl) dX1_makeSheet_29 ⟨Nat.zero_le _, Nat.zero_le _⟩) hh (fun H locs hh => ?_)
    replace hh : hH D ad cI cJ cF (gset (gset S j (m_X4_begin A (v_X4_slotToMake A size) size (A 0 0))) 7 T) s H locs := by rw [← show _ = (gset (gset S j (m_X4_begin A (v_X4_slotToMake A size) size (A 0 0))) 7 T) from ((gset_comm (Nat.ne_of_lt (Nat.lt_of_lt_of_le hj (by decide)))).trans (congrArg (fun z => gset z 7 T) (gset_gset _ _ _ _)))]; exact hh
    refine iv_iconst hx hb dX1_makeSheet_32 ?_
    refine lv_istore (lv' := [(4, .int (hI 0)), (3, .int (hI (v_X4_slotToMake A size))), (0, .ref (ad j 0)), (1, .int (hI size)), (2, .ref (ad 7 0))]) hx hb dX1_makeSheet_33 hl (by decide) rfl (fun ls hl => ?_)
    exact h H _ ls hh (lv_sub hl [2, 3, 4, 1, 0] rfl)
  · have h := h.1 c9
    refine iv_ldc (n := (-1000001)) hx hb (by decide) hown (hts _ q2_116) dX1_makeSheet_7 ?_
    exact iv_iret E hh h.1 (by rw [← h.1]; exact ⟨by decide, by decide⟩) (by rw [← h.2.1, ← h.2.2]) dX1_makeSheet_9
set_option maxHeartbeats 4000000 in
set_option maxRecDepth 100000 in
theorem ok_X1_isStale (l : Launch) (hinj : hInj ad) (S : hS) {j : Nat} (hj : j < 7) (A : hGM) (hA : S j = A) (T : hGM) (hT : S 7 = T) (slot : Int) (h_slot : hIn slot) (hp : p_X1_isStale A T slot) : hMi D ad cI cJ cF l yX1_isStale cX1_isStale 6 (some .boolean) ({ frames := 4, cells := 0, slots := 0, locals := 101 } : Room) [.ref (ad j 0), .int (hI slot), .ref (ad 7 0)] S (v_X1_isStale A T slot) (gset S 7 (m_X1_isStale A T slot)) := by
  refine hOf (S := S) l hinj (by decide +kernel) (Nat.le_of_ble_eq_true rfl) (fun p e s m args below meth c E => ?_)
  obtain ⟨hx, hb, hml, hown, hts, hK, hN, -, hr, hlk, hz⟩ := id E
  have hown : s.vm.findClass RX1 = some m.cls := hown
  have r25 : ∀ (y3 : Int) (y4 : Int) (T1 : hGM), hIn y3 → hIn y4 → ((∀ (i : Nat) (k : Int), i < 100 → hIn (T1 i k)) → ((y4 < y3 → (p_X0_lay A T1 y4 (v_X5_cell A 9 4 slot) ∧ (hIn ((slot * 8) + y4) ∧ ((((m_X0_lay A T1 y4 (v_X5_cell A 9 4 slot)) 0 0) = (v_X5_cell A 11 32 ((slot * 8) + y4)) → (((jCmp ((m_X0_lay A T1 y4 (v_X5_cell A 9 4 slot)) 100 0) (v_X4_litAt A ((slot * 8) + y4))) = 0 → (hAt D ad cI cJ cF p l e ({ frames := 4, cells := 0, slots := 0, locals := 101 } : Room) s m args below meth c (MQ below (hQi D ad cI cJ cF (v_X1_isStale A T slot) (gset S 7 (m_X1_isStale A T slot))) args s 0 0 (hAd ad)) 6 25 [(0, .ref (ad j 0)), (1, .int (hI slot)), (2, .ref (ad 7 0)), (3, .int (hI y3)), (4, .int (hI (y4 + 1)))] (gset S 7 (m_X0_lay A T1 y4 (v_X5_cell A 9 4 slot))))) ∧ (¬ (jCmp ((m_X0_lay A T1 y4 (v_X5_cell A 9 4 slot)) 100 0) (v_X4_litAt A ((slot * 8) + y4))) = 0 → (1 = v_X1_isStale A T slot ∧ (m_X0_lay A T1 y4 (v_X5_cell A 9 4 slot)) = m_X1_isStale A T slot)))) ∧ (¬ ((m_X0_lay A T1 y4 (v_X5_cell A 9 4 slot)) 0 0) = (v_X5_cell A 11 32 ((slot * 8) + y4)) → (1 = v_X1_isStale A T slot ∧ (m_X0_lay A T1 y4 (v_X5_cell A 9 4 slot)) = m_X1_isStale A T slot)))))) ∧ (¬ y4 < y3 → (0 = v_X1_isStale A T slot ∧ T1 = m_X1_isStale A T slot)))) → (hAt D ad cI cJ cF p l e ({ frames := 4, cells := 0, slots := 0, locals := 101 } : Room) s m args below meth c (MQ below (hQi D ad cI cJ cF (v_X1_isStale A T slot) (gset S 7 (m_X1_isStale A T slot))) args s 0 0 (hAd ad)) 6 25 [(0, .ref (ad j 0)), (1, .int (hI slot)), (2, .ref (ad 7 0)), (3, .int (hI y3)), (4, .int (hI y4))] (gset S 7 T1)) := by
    intro y3 y4 T1 h_y3 h_y4 h H locs ls hh hl
    have h := h (fun i k hi => hIn_rd hh.2.1 (gset_at _ _ _) hi)
    refine lv_iload hx hb dX1_isStale_25 (lv_at hl 4 rfl) ?_
    refine lv_iload_n hx hb dX1_isStale_27 rfl (lv_at hl 3 rfl) ?_
    refine iv_icmp_ge (tgt := 102) hx hb h_y4 h_y3 dX1_isStale_28 (by decide) (fun c1 => ?_) (fun c1 => ?_)
    · have h := h.2 c1
      refine iv_iconst hx hb dX1_isStale_102 ?_
      exact iv_bret E hh h.1 (by rw [← h.1]; exact (Or.inl rfl)) (by rw [← h.2]) dX1_isStale_103
    · have h := h.1 c1
      refine lv_aload_n hx hb dX1_isStale_31 rfl (lv_at hl 2 rfl) ?_
      refine lv_aload_n hx hb dX1_isStale_32 rfl (lv_at hl 0 rfl) ?_
      refine lv_iload hx hb dX1_isStale_33 (lv_at hl 4 rfl) ?_
      refine lv_aload_n hx hb dX1_isStale_35 rfl (lv_at hl 0 rfl) ?_
      refine iv_get (v' := .ref (ad j 7)) hx hb hts inX1 hown hK hh.1 (ob_Font hj) rfl 10 (by decide) (hts _ q1_81) rfl rfl rfl dX1_isStale_36 ?_
      refine iv_getN (v' := .ref (ad j 9)) hx hb hts inX4 hown hK hh.1 (ob_Sheets hj) rfl 2 (by decide) (hN _ q1_34) rfl rfl rfl dX1_isStale_39 ?_
      refine lv_iload_n hx hb dX1_isStale_42 rfl (lv_at hl 1 rfl) ?_
      refine iv_ki (iv_rN (As := [.ref (ad j 9), .int (hI slot)]) (rest := [.int (hI y4), .ref (ad j 0), .ref (ad 7 0)]) E hh (ok_X5_cell l hinj (gset S 7 T1) (ia_F_9 hj) A ((gset_ne (Nat.ne_of_lt (Nat.lt_of_lt_of_le hj (by decide)))).trans hA) slot h_slot) cb_X5_cell q2_10 rfl rfl ⟨Nat.le_of_ble_eq_true rfl, Nat.le_of_ble_eq_true rfl⟩ rfl hl.1 rfl (Nat.le_of_ble_eq_true rfl) dX1_isStale_43 ⟨Nat.zero_le _, Nat.zero_le _⟩) hh (fun hc2 H locs hh => ?_)
      obtain ⟨g3, h⟩ := h
      refine iv_kv (iv_rV (As := [.ref (ad j 0), .int (hI y4), .int (hI (v_X5_cell A 9 4 slot))]) (rest := []) E hh (ok_X0_lay l hinj (gset S 7 T1) hj A ((gset_ne (Nat.ne_of_lt (Nat.lt_of_lt_of_le hj (by decide)))).trans hA) T1 (gset_at _ _ _) y4 (v_X5_cell A 9 4 slot) h_y4 hc2 g3) cb_X0_lay q2_11 rfl rfl ⟨Nat.le_of_ble_eq_true rfl, Nat.le_of_ble_eq_true rfl⟩ (ob_Fit) rfl rfl rfl hl.1 rfl (Nat.le_of_ble_eq_true rfl) dX1_isStale_46 ⟨Nat.zero_le _, Nat.zero_le _⟩) hh (fun H locs hh => ?_)
      replace hh : hH D ad cI cJ cF (gset S 7 (m_X0_lay A T1 y4 (v_X5_cell A 9 4 slot))) s H locs := by rw [← show _ = (gset S 7 (m_X0_lay A T1 y4 (v_X5_cell A 9 4 slot))) from (gset_gset _ _ _ _)]; exact hh
      refine lv_iload_n hx hb dX1_isStale_49 rfl (lv_at hl 1 rfl) ?_
      refine lv_bipush (v := hI 8) hx hb dX1_isStale_50 (by decide) ?_
      refine iv_imul hx hb dX1_isStale_52 ?_
      refine lv_iload hx hb dX1_isStale_53 (lv_at hl 4 rfl) ?_
      refine iv_iadd hx hb dX1_isStale_55 ?_
      refine lv_istore (lv' := [(5, .int (hI ((slot * 8) + y4))), (0, .ref (ad j 0)), (1, .int (hI slot)), (2, .ref (ad 7 0)), (3, .int (hI y3)), (4, .int (hI y4))]) hx hb dX1_isStale_56 hl (by decide) rfl (fun ls hl => ?_)
      refine lv_aload_n hx hb dX1_isStale_58 rfl (lv_at hl 3 rfl) ?_
      refine iv_getN (v' := .int (hI ((m_X0_lay A T1 y4 (v_X5_cell A 9 4 slot)) 0 0))) hx hb hts inX0 hown hK hh.1 (ob_Fit) rfl 0 (by decide) (hN _ q1_113) rfl rfl (congrArg (fun z => Value.int (hI (z 0 0))) (gset_at _ _ _)) dX1_isStale_59 ?_
      have hm4 : hIn ((m_X0_lay A T1 y4 (v_X5_cell A 9 4 slot)) 0 0) := hIn_rd hh.2.1 (gset_at _ _ _) (by decide)
      refine lv_aload_n hx hb dX1_isStale_62 rfl (lv_at hl 1 rfl) ?_
      refine iv_get (v' := .ref (ad j 7)) hx hb hts inX1 hown hK hh.1 (ob_Font hj) rfl 10 (by decide) (hts _ q1_81) rfl rfl rfl dX1_isStale_63 ?_
      refine iv_getN (v' := .ref (ad j 11)) hx hb hts inX4 hown hK hh.1 (ob_Sheets hj) rfl 4 (by decide) (hN _ q1_40) rfl rfl rfl dX1_isStale_66 ?_
      refine lv_iload hx hb dX1_isStale_69 (lv_at hl 0 rfl) ?_
      obtain ⟨g5, h⟩ := h
      refine iv_ki (iv_rN (As := [.ref (ad j 11), .int (hI ((slot * 8) + y4))]) (rest := [.int (hI ((m_X0_lay A T1 y4 (v_X5_cell A 9 4 slot)) 0 0))]) E hh (ok_X5_cell l hinj (gset S 7 (m_X0_lay A T1 y4 (v_X5_cell A 9 4 slot))) (ia_F_11 hj) A ((gset_ne (Nat.ne_of_lt (Nat.lt_of_lt_of_le hj (by decide)))).trans hA) ((slot * 8) + y4) g5) cb_X5_cell q2_10 rfl rfl ⟨Nat.le_of_ble_eq_true rfl, Nat.le_of_ble_eq_true rfl⟩ rfl hl.1 rfl (Nat.le_of_ble_eq_true rfl) dX1_isStale_71 ⟨Nat.zero_le _, Nat.zero_le _⟩) hh (fun hc6 H locs hh => ?_)
      refine iv_icmp_ne (tgt := 94) hx hb hm4 hc6 dX1_isStale_74 (by decide) (fun c7 => ?_) (fun c7 => ?_)
      · have h := h.2 c7
        refine iv_iconst hx hb dX1_isStale_94 ?_
        exact iv_bret E hh h.1 (by rw [← h.1]; exact (Or.inr rfl)) (by rw [← h.2]) dX1_isStale_95
      · have h := h.1 c7
        refine lv_aload_n hx hb dX1_isStale_77 rfl (lv_at hl 3 rfl) ?_
        refine iv_getN (v' := .long (hJ ((m_X0_lay A T1 y4 (v_X5_cell A 9 4 slot)) 100 0))) hx hb hts inX0 hown hK hh.1 (ob_Fit) rfl 3 (by decide) (hN _ q1_117) rfl rfl (congrArg (fun z => Value.long (hJ (z 100 0))) (gset_at _ _ _)) dX1_isStale_78 ?_
        refine lv_aload_n hx hb dX1_isStale_81 rfl (lv_at hl 1 rfl) ?_
        refine iv_get (v' := .ref (ad j 7)) hx hb hts inX1 hown hK hh.1 (ob_Font hj) rfl 10 (by decide) (hts _ q1_81) rfl rfl rfl dX1_isStale_82 ?_
        refine lv_iload hx hb dX1_isStale_85 (lv_at hl 0 rfl) ?_
        refine iv_kl (iv_rV (As := [.int (hI ((slot * 8) + y4))]) (rest := [.long (hJ ((m_X0_lay A T1 y4 (v_X5_cell A 9 4 slot)) 100 0))]) E hh (ok_X4_litAt l hinj (gset S 7 (m_X0_lay A T1 y4 (v_X5_cell A 9 4 slot))) hj A ((gset_ne (Nat.ne_of_lt (Nat.lt_of_lt_of_le hj (by decide)))).trans hA) ((slot * 8) + y4) g5) cb_X4_litAt q2_59 rfl rfl ⟨Nat.le_of_ble_eq_true rfl, Nat.le_of_ble_eq_true rfl⟩ (ob_Sheets hj) rfl rfl rfl hl.1 rfl (Nat.le_of_ble_eq_true rfl) dX1_isStale_87 ⟨Nat.zero_le _, Nat.zero_le _⟩) hh (fun H locs hh => ?_)
        refine iv_lcmp hx hb dX1_isStale_90 ?_
        refine iv_if_eq (tgt := 96) hx hb (hIn_toInt _) dX1_isStale_91 (by decide) (fun c8 => ?_) (fun c8 => ?_)
        · have h := h.1 c8
          refine iv_iinc (lv' := [(4, .int (hI (y4 + 1))), (5, .int (hI ((slot * 8) + y4))), (0, .ref (ad j 0)), (1, .int (hI slot)), (2, .ref (ad 7 0)), (3, .int (hI y3))]) hx hb dX1_isStale_96 hl (k := 5) rfl (v := (y4 + 1)) rfl (by decide) rfl (fun ls hl => ?_)
          refine lv_goto (tgt := 25) hx hb dX1_isStale_99 (by decide) ?_
          exact h H _ ls hh (lv_sub hl [2, 3, 4, 5, 0] rfl)
        · have h := h.2 c8
          refine iv_iconst hx hb dX1_isStale_94 ?_
          exact iv_bret E hh h.1 (by rw [← h.1]; exact (Or.inr rfl)) (by rw [← h.2]) dX1_isStale_95
  intro H locs ls hh hl
  have hl : lv_has ls 6 [(0, .ref (ad j 0)), (1, .int (hI slot)), (2, .ref (ad 7 0))] := hl
  replace hh : hH D ad cI cJ cF (gset S 7 T) s H locs := by rw [← can1 hT]; exact hh
  have h := x_X1_isStale A T slot h_slot (fun i k hi => hIn_rd hh.2.1 ((gset_ne (Nat.ne_of_lt (Nat.lt_of_lt_of_le hj (by decide)))).trans hA) hi) (fun i k hi => hIn_rd hh.2.1 (gset_at _ _ _) hi) hp (fun y3 y4 T1 => (hAt D ad cI cJ cF p l e ({ frames := 4, cells := 0, slots := 0, locals := 101 } : Room) s m args below meth c (MQ below (hQi D ad cI cJ cF (v_X1_isStale A T slot) (gset S 7 (m_X1_isStale A T slot))) args s 0 0 (hAd ad)) 6 25 [(0, .ref (ad j 0)), (1, .int (hI slot)), (2, .ref (ad 7 0)), (3, .int (hI y3)), (4, .int (hI y4))] (gset S 7 T1))) (fun r T1 => (r = v_X1_isStale A T slot ∧ T1 = m_X1_isStale A T slot)) r25 ⟨rfl, rfl⟩
  refine lv_aload_n hx hb dX1_isStale_0 rfl (lv_at hl 0 rfl) ?_
  refine iv_get (v' := .ref (ad j 7)) hx hb hts inX1 hown hK hh.1 (ob_Font hj) rfl 10 (by decide) (hts _ q1_81) rfl rfl rfl dX1_isStale_1 ?_
  refine iv_getN (v' := .ref (ad j 10)) hx hb hts inX4 hown hK hh.1 (ob_Sheets hj) rfl 3 (by decide) (hN _ q1_37) rfl rfl rfl dX1_isStale_4 ?_
  refine lv_iload_n hx hb dX1_isStale_7 rfl (lv_at hl 1 rfl) ?_
  refine iv_ki (iv_rN (As := [.ref (ad j 10), .int (hI slot)]) (rest := []) E hh (ok_X5_cell l hinj (gset S 7 T) (ia_F_10 hj) A ((gset_ne (Nat.ne_of_lt (Nat.lt_of_lt_of_le hj (by decide)))).trans hA) slot h_slot) cb_X5_cell q2_10 rfl rfl ⟨Nat.le_of_ble_eq_true rfl, Nat.le_of_ble_eq_true rfl⟩ rfl hl.1 rfl (Nat.le_of_ble_eq_true rfl) dX1_isStale_8 ⟨Nat.zero_le _, Nat.zero_le _⟩) hh (fun hc9 H locs hh => ?_)
  refine lv_istore_n (lv' := [(3, .int (hI (v_X5_cell A 10 4 slot))), (0, .ref (ad j 0)), (1, .int (hI slot)), (2, .ref (ad 7 0))]) hx hb dX1_isStale_11 rfl hl (by decide) rfl (fun ls hl => ?_)
  refine lv_iload_n hx hb dX1_isStale_12 rfl (lv_at hl 0 rfl) ?_
  refine lv_aload_n hx hb dX1_isStale_13 rfl (lv_at hl 1 rfl) ?_
  refine iv_get (v' := .int (hI (A 0 0))) hx hb hts inX1 hown hK hh.1 (ob_Font hj) rfl 0 (by decide) (hts _ q1_57) rfl rfl (congrArg (fun z => Value.int (hI (z 0 0))) ((gset_ne (Nat.ne_of_lt (Nat.lt_of_lt_of_le hj (by decide)))).trans hA)) dX1_isStale_14 ?_
  have hm10 : hIn (A 0 0) := hIn_rd hh.2.1 ((gset_ne (Nat.ne_of_lt (Nat.lt_of_lt_of_le hj (by decide)))).trans hA) (by decide)
  refine iv_icmp_eq (tgt := 22) hx hb hc9 hm10 dX1_isStale_17 (by decide) (fun c11 => ?_) (fun c11 => ?_)
  · have h := h.1 c11
    refine iv_iconst hx hb dX1_isStale_22 ?_
    refine lv_istore (lv' := [(4, .int (hI 0)), (3, .int (hI (v_X5_cell A 10 4 slot))), (0, .ref (ad j 0)), (1, .int (hI slot)), (2, .ref (ad 7 0))]) hx hb dX1_isStale_23 hl (by decide) rfl (fun ls hl => ?_)
    exact h H _ ls hh (lv_sub hl [2, 3, 4, 1, 0] rfl)
  · have h := h.2 c11
    refine iv_iconst hx hb dX1_isStale_20 ?_
    exact iv_bret E hh h.1 (by rw [← h.1]; exact (Or.inr rfl)) (by rw [← h.2]) dX1_isStale_21
end

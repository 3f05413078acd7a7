section
variable {D : va_G} {ad : Nat → Nat → Nat} {cI cJ cF : ClassId}
set_option maxHeartbeats 4000000 in
set_option maxRecDepth 100000 in
theorem ok_X1_copy (l : Launch) (hinj : hInj ad) (S : hS) {j : Nat} (hj : j < 7) {j2 : Nat} (hj2 : j2 < 7) (hne : j ≠ j2) (A : hGM) (hA : S j = A) (B : hGM) (hB : S j2 = B) (hp : p_X1_copy A B) : hMv D ad cI cJ cF l yX1_copy cX1_copy 2 ({ frames := 2, cells := 0, slots := 0, locals := 44 } : Room) [.ref (ad j 0), .ref (ad j2 0)] S (gset S j (m_X1_copy A B)) := by
  refine hOf (S := S) l hinj (by decide +kernel) (Nat.le_of_ble_eq_true rfl) (fun p e s m args below meth c E => ?_)
  obtain ⟨hx, hb, hml, hown, hts, hK, hN, -, hr, hlk, hz⟩ := id E
  have hown : s.vm.findClass RX1 = some m.cls := hown
  intro H locs ls hh hl
  have hl : lv_has ls 2 [(0, .ref (ad j 0)), (1, .ref (ad j2 0))] := hl
  replace hh : hH D ad cI cJ cF (gset S j A) s H locs := by rw [← can1 hA]; exact hh
  have h := hp
  unfold p_X1_copy at h
  refine lv_aload_n hx hb dX1_copy_0 rfl (lv_at hl 0 rfl) ?_
  refine lv_aload_n hx hb dX1_copy_1 rfl (lv_at hl 1 rfl) ?_
  refine iv_get (v' := .int (hI (B 0 0))) hx hb hts inX1 hown hK hh.1 (ob_Font hj2) rfl 0 (by decide) (hts _ q1_57) rfl rfl (congrArg (fun z => Value.int (hI (z 0 0))) ((gset_ne (Ne.symm hne)).trans hB)) dX1_copy_2 ?_
  have hm1 : hIn (B 0 0) := hIn_rd hh.2.1 ((gset_ne (Ne.symm hne)).trans hB) (by decide)
  refine iv_put (S' := (gset S j (aset A 0 0 (B 0 0)))) (ty := .int) hx hb hts inX1 tyX1 tyX1_ok nmX1 hown hK hinj hh (h112 (by omega)) (un_Font hj) (Or.inl rfl) (ob_Font hj) rfl 0 (by decide) (hts _ q1_57) rfl rfl (by decide +kernel) rfl rfl (Nat.le_of_ble_eq_true rfl) (pu_Font_glyphs hj) (Or.inl hm1) (by rw [show (gset S j A) j = A from (gset_at _ _ _)]; exact (gset_gset _ _ _ _)) dX1_copy_5 (fun H locs hh => ?_)
  refine lv_aload_n hx hb dX1_copy_8 rfl (lv_at hl 0 rfl) ?_
  refine lv_aload_n hx hb dX1_copy_9 rfl (lv_at hl 1 rfl) ?_
  refine iv_get (v' := .int (hI (B 0 1))) hx hb hts inX1 hown hK hh.1 (ob_Font hj2) rfl 1 (by decide) (hts _ q1_59) rfl rfl (congrArg (fun z => Value.int (hI (z 0 1))) ((gset_ne (Ne.symm hne)).trans hB)) dX1_copy_10 ?_
  have hm2 : hIn (B 0 1) := hIn_rd hh.2.1 ((gset_ne (Ne.symm hne)).trans hB) (by decide)
  refine iv_put (S' := (gset S j (aset (aset A 0 0 (B 0 0)) 0 1 (B 0 1)))) (ty := .int) hx hb hts inX1 tyX1 tyX1_ok nmX1 hown hK hinj hh (h112 (by omega)) (un_Font hj) (Or.inl rfl) (ob_Font hj) rfl 1 (by decide) (hts _ q1_59) rfl rfl (by decide +kernel) rfl rfl (Nat.le_of_ble_eq_true rfl) (pu_Font_standards hj) (Or.inl hm2) (by rw [show (gset S j (aset A 0 0 (B 0 0))) j = (aset A 0 0 (B 0 0)) from (gset_at _ _ _)]; exact (gset_gset _ _ _ _)) dX1_copy_13 (fun H locs hh => ?_)
  refine lv_aload_n hx hb dX1_copy_16 rfl (lv_at hl 0 rfl) ?_
  refine lv_aload_n hx hb dX1_copy_17 rfl (lv_at hl 1 rfl) ?_
  refine iv_get (v' := .int (hI (B 0 2))) hx hb hts inX1 hown hK hh.1 (ob_Font hj2) rfl 2 (by decide) (hts _ q1_61) rfl rfl (congrArg (fun z => Value.int (hI (z 0 2))) ((gset_ne (Ne.symm hne)).trans hB)) dX1_copy_18 ?_
  have hm3 : hIn (B 0 2) := hIn_rd hh.2.1 ((gset_ne (Ne.symm hne)).trans hB) (by decide)
  refine iv_put (S' := (gset S j (aset (aset (aset A 0 0 (B 0 0)) 0 1 (B 0 1)) 0 2 (B 0 2)))) (ty := .int) hx hb hts inX1 tyX1 tyX1_ok nmX1 hown hK hinj hh (h112 (by omega)) (un_Font hj) (Or.inl rfl) (ob_Font hj) rfl 2 (by decide) (hts _ q1_61) rfl rfl (by decide +kernel) rfl rfl (Nat.le_of_ble_eq_true rfl) (pu_Font_cutoff hj) (Or.inl hm3) (by rw [show (gset S j (aset (aset A 0 0 (B 0 0)) 0 1 (B 0 1))) j = (aset (aset A 0 0 (B 0 0)) 0 1 (B 0 1)) from (gset_at _ _ _)]; exact (gset_gset _ _ _ _)) dX1_copy_21 (fun H locs hh => ?_)
  refine lv_aload_n hx hb dX1_copy_24 rfl (lv_at hl 0 rfl) ?_
  refine lv_aload_n hx hb dX1_copy_25 rfl (lv_at hl 1 rfl) ?_
  refine iv_get (v' := .int (hI (B 0 3))) hx hb hts inX1 hown hK hh.1 (ob_Font hj2) rfl 3 (by decide) (hts _ q1_63) rfl rfl (congrArg (fun z => Value.int (hI (z 0 3))) ((gset_ne (Ne.symm hne)).trans hB)) dX1_copy_26 ?_
  have hm4 : hIn (B 0 3) := hIn_rd hh.2.1 ((gset_ne (Ne.symm hne)).trans hB) (by decide)
  refine iv_put (S' := (gset S j (aset (aset (aset (aset A 0 0 (B 0 0)) 0 1 (B 0 1)) 0 2 (B 0 2)) 0 3 (B 0 3)))) (ty := .int) hx hb hts inX1 tyX1 tyX1_ok nmX1 hown hK hinj hh (h112 (by omega)) (un_Font hj) (Or.inl rfl) (ob_Font hj) rfl 3 (by decide) (hts _ q1_63) rfl rfl (by decide +kernel) rfl rfl (Nat.le_of_ble_eq_true rfl) (pu_Font_leastGap hj) (Or.inl hm4) (by rw [show (gset S j (aset (aset (aset A 0 0 (B 0 0)) 0 1 (B 0 1)) 0 2 (B 0 2))) j = (aset (aset (aset A 0 0 (B 0 0)) 0 1 (B 0 1)) 0 2 (B 0 2)) from (gset_at _ _ _)]; exact (gset_gset _ _ _ _)) dX1_copy_29 (fun H locs hh => ?_)
  refine lv_aload_n hx hb dX1_copy_32 rfl (lv_at hl 1 rfl) ?_
  refine iv_get (v' := .ref (ad j2 1)) hx hb hts inX1 hown hK hh.1 (ob_Font hj2) rfl 4 (by decide) (hts _ q1_66) rfl rfl rfl dX1_copy_33 ?_
  refine lv_aload_n hx hb dX1_copy_36 rfl (lv_at hl 0 rfl) ?_
  refine iv_get (v' := .ref (ad j 1)) hx hb hts inX1 hown hK hh.1 (ob_Font hj) rfl 4 (by decide) (hts _ q1_66) rfl rfl rfl dX1_copy_37 ?_
  obtain ⟨g5, h⟩ := h
  refine iv_kv (iv_rN (As := [.ref (ad j2 1), .ref (ad j 1)]) (rest := []) E hh (ok_X5_copyRow l hinj (gset S j (aset (aset (aset (aset A 0 0 (B 0 0)) 0 1 (B 0 1)) 0 2 (B 0 2)) 0 3 (B 0 3))) (ia_F_1 hj2) (ia_F_1 hj) hne (aset (aset (aset (aset A 0 0 (B 0 0)) 0 1 (B 0 1)) 0 2 (B 0 2)) 0 3 (B 0 3)) (gset_at _ _ _) B ((gset_ne (Ne.symm hne)).trans hB) g5) cb_X5_copyRow q2_103 rfl rfl ⟨Nat.le_of_ble_eq_true rfl, Nat.le_of_ble_eq_true rfl⟩ rfl hl.1 rfl (Nat.le_of_ble_eq_true rfl) dX1_copy_40 ⟨Nat.zero_le _, Nat.zero_le _⟩) hh (fun H locs hh => ?_)
  replace hh : hH D ad cI cJ cF (gset S j (m_X5_copyRow (aset (aset (aset (aset A 0 0 (B 0 0)) 0 1 (B 0 1)) 0 2 (B 0 2)) 0 3 (B 0 3)) B 1 8 1 8)) s H locs := by rw [← show _ = (gset S j (m_X5_copyRow (aset (aset (aset (aset A 0 0 (B 0 0)) 0 1 (B 0 1)) 0 2 (B 0 2)) 0 3 (B 0 3)) B 1 8 1 8)) from (gset_gset _ _ _ _)]; exact hh
  refine lv_aload_n hx hb dX1_copy_43 rfl (lv_at hl 1 rfl) ?_
  refine iv_get (v' := .ref (ad j2 2)) hx hb hts inX1 hown hK hh.1 (ob_Font hj2) rfl 5 (by decide) (hts _ q1_68) rfl rfl rfl dX1_copy_44 ?_
  refine lv_aload_n hx hb dX1_copy_47 rfl (lv_at hl 0 rfl) ?_
  refine iv_get (v' := .ref (ad j 2)) hx hb hts inX1 hown hK hh.1 (ob_Font hj) rfl 5 (by decide) (hts _ q1_68) rfl rfl rfl dX1_copy_48 ?_
  obtain ⟨g6, h⟩ := h
  refine iv_kv (iv_rN (As := [.ref (ad j2 2), .ref (ad j 2)]) (rest := []) E hh (ok_X5_copyRow l hinj (gset S j (m_X5_copyRow (aset (aset (aset (aset A 0 0 (B 0 0)) 0 1 (B 0 1)) 0 2 (B 0 2)) 0 3 (B 0 3)) B 1 8 1 8)) (ia_F_2 hj2) (ia_F_2 hj) hne (m_X5_copyRow (aset (aset (aset (aset A 0 0 (B 0 0)) 0 1 (B 0 1)) 0 2 (B 0 2)) 0 3 (B 0 3)) B 1 8 1 8) (gset_at _ _ _) B ((gset_ne (Ne.symm hne)).trans hB) g6) cb_X5_copyRow q2_103 rfl rfl ⟨Nat.le_of_ble_eq_true rfl, Nat.le_of_ble_eq_true rfl⟩ rfl hl.1 rfl (Nat.le_of_ble_eq_true rfl) dX1_copy_51 ⟨Nat.zero_le _, Nat.zero_le _⟩) hh (fun H locs hh => ?_)
  replace hh : hH D ad cI cJ cF (gset S j (m_X5_copyRow (m_X5_copyRow (aset (aset (aset (aset A 0 0 (B 0 0)) 0 1 (B 0 1)) 0 2 (B 0 2)) 0 3 (B 0 3)) B 1 8 1 8) B 2 8 2 8)) s H locs := by rw [← show _ = (gset S j (m_X5_copyRow (m_X5_copyRow (aset (aset (aset (aset A 0 0 (B 0 0)) 0 1 (B 0 1)) 0 2 (B 0 2)) 0 3 (B 0 3)) B 1 8 1 8) B 2 8 2 8)) from (gset_gset _ _ _ _)]; exact hh
  refine lv_aload_n hx hb dX1_copy_54 rfl (lv_at hl 1 rfl) ?_
  refine iv_get (v' := .ref (ad j2 3)) hx hb hts inX1 hown hK hh.1 (ob_Font hj2) rfl 6 (by decide) (hts _ q1_70) rfl rfl rfl dX1_copy_55 ?_
  refine lv_aload_n hx hb dX1_copy_58 rfl (lv_at hl 0 rfl) ?_
  refine iv_get (v' := .ref (ad j 3)) hx hb hts inX1 hown hK hh.1 (ob_Font hj) rfl 6 (by decide) (hts _ q1_70) rfl rfl rfl dX1_copy_59 ?_
  obtain ⟨g7, h⟩ := h
  refine iv_kv (iv_rN (As := [.ref (ad j2 3), .ref (ad j 3)]) (rest := []) E hh (ok_X5_copyRow l hinj (gset S j (m_X5_copyRow (m_X5_copyRow (aset (aset (aset (aset A 0 0 (B 0 0)) 0 1 (B 0 1)) 0 2 (B 0 2)) 0 3 (B 0 3)) B 1 8 1 8) B 2 8 2 8)) (ia_F_3 hj2) (ia_F_3 hj) hne (m_X5_copyRow (m_X5_copyRow (aset (aset (aset (aset A 0 0 (B 0 0)) 0 1 (B 0 1)) 0 2 (B 0 2)) 0 3 (B 0 3)) B 1 8 1 8) B 2 8 2 8) (gset_at _ _ _) B ((gset_ne (Ne.symm hne)).trans hB) g7) cb_X5_copyRow q2_103 rfl rfl ⟨Nat.le_of_ble_eq_true rfl, Nat.le_of_ble_eq_true rfl⟩ rfl hl.1 rfl (Nat.le_of_ble_eq_true rfl) dX1_copy_62 ⟨Nat.zero_le _, Nat.zero_le _⟩) hh (fun H locs hh => ?_)
  replace hh : hH D ad cI cJ cF (gset S j (m_X5_copyRow (m_X5_copyRow (m_X5_copyRow (aset (aset (aset (aset A 0 0 (B 0 0)) 0 1 (B 0 1)) 0 2 (B 0 2)) 0 3 (B 0 3)) B 1 8 1 8) B 2 8 2 8) B 3 48 3 48)) s H locs := by rw [← show _ = (gset S j (m_X5_copyRow (m_X5_copyRow (m_X5_copyRow (aset (aset (aset (aset A 0 0 (B 0 0)) 0 1 (B 0 1)) 0 2 (B 0 2)) 0 3 (B 0 3)) B 1 8 1 8) B 2 8 2 8) B 3 48 3 48)) from (gset_gset _ _ _ _)]; exact hh
  refine lv_aload_n hx hb dX1_copy_65 rfl (lv_at hl 1 rfl) ?_
  refine iv_get (v' := .ref (ad j2 4)) hx hb hts inX1 hown hK hh.1 (ob_Font hj2) rfl 7 (by decide) (hts _ q1_73) rfl rfl rfl dX1_copy_66 ?_
  refine lv_aload_n hx hb dX1_copy_69 rfl (lv_at hl 0 rfl) ?_
  refine iv_get (v' := .ref (ad j 4)) hx hb hts inX1 hown hK hh.1 (ob_Font hj) rfl 7 (by decide) (hts _ q1_73) rfl rfl rfl dX1_copy_70 ?_
  obtain ⟨g8, h⟩ := h
  refine iv_kv (iv_rN (As := [.ref (ad j2 4), .ref (ad j 4)]) (rest := []) E hh (ok_X5_copyRow l hinj (gset S j (m_X5_copyRow (m_X5_copyRow (m_X5_copyRow (aset (aset (aset (aset A 0 0 (B 0 0)) 0 1 (B 0 1)) 0 2 (B 0 2)) 0 3 (B 0 3)) B 1 8 1 8) B 2 8 2 8) B 3 48 3 48)) (ia_F_4 hj2) (ia_F_4 hj) hne (m_X5_copyRow (m_X5_copyRow (m_X5_copyRow (aset (aset (aset (aset A 0 0 (B 0 0)) 0 1 (B 0 1)) 0 2 (B 0 2)) 0 3 (B 0 3)) B 1 8 1 8) B 2 8 2 8) B 3 48 3 48) (gset_at _ _ _) B ((gset_ne (Ne.symm hne)).trans hB) g8) cb_X5_copyRow q2_103 rfl rfl ⟨Nat.le_of_ble_eq_true rfl, Nat.le_of_ble_eq_true rfl⟩ rfl hl.1 rfl (Nat.le_of_ble_eq_true rfl) dX1_copy_73 ⟨Nat.zero_le _, Nat.zero_le _⟩) hh (fun H locs hh => ?_)
  replace hh : hH D ad cI cJ cF (gset S j (m_X5_copyRow (m_X5_copyRow (m_X5_copyRow (m_X5_copyRow (aset (aset (aset (aset A 0 0 (B 0 0)) 0 1 (B 0 1)) 0 2 (B 0 2)) 0 3 (B 0 3)) B 1 8 1 8) B 2 8 2 8) B 3 48 3 48) B 4 48 4 48)) s H locs := by rw [← show _ = (gset S j (m_X5_copyRow (m_X5_copyRow (m_X5_copyRow (m_X5_copyRow (aset (aset (aset (aset A 0 0 (B 0 0)) 0 1 (B 0 1)) 0 2 (B 0 2)) 0 3 (B 0 3)) B 1 8 1 8) B 2 8 2 8) B 3 48 3 48) B 4 48 4 48)) from (gset_gset _ _ _ _)]; exact hh
  refine lv_aload_n hx hb dX1_copy_76 rfl (lv_at hl 1 rfl) ?_
  refine iv_get (v' := .ref (ad j2 5)) hx hb hts inX1 hown hK hh.1 (ob_Font hj2) rfl 8 (by decide) (hts _ q1_76) rfl rfl rfl dX1_copy_77 ?_
  refine lv_aload_n hx hb dX1_copy_80 rfl (lv_at hl 0 rfl) ?_
  refine iv_get (v' := .ref (ad j 5)) hx hb hts inX1 hown hK hh.1 (ob_Font hj) rfl 8 (by decide) (hts _ q1_76) rfl rfl rfl dX1_copy_81 ?_
  obtain ⟨g9, h⟩ := h
  refine iv_kv (iv_rN (As := [.ref (ad j2 5), .ref (ad j 5)]) (rest := []) E hh (ok_X5_copyRow l hinj (gset S j (m_X5_copyRow (m_X5_copyRow (m_X5_copyRow (m_X5_copyRow (aset (aset (aset (aset A 0 0 (B 0 0)) 0 1 (B 0 1)) 0 2 (B 0 2)) 0 3 (B 0 3)) B 1 8 1 8) B 2 8 2 8) B 3 48 3 48) B 4 48 4 48)) (ia_F_5 hj2) (ia_F_5 hj) hne (m_X5_copyRow (m_X5_copyRow (m_X5_copyRow (m_X5_copyRow (aset (aset (aset (aset A 0 0 (B 0 0)) 0 1 (B 0 1)) 0 2 (B 0 2)) 0 3 (B 0 3)) B 1 8 1 8) B 2 8 2 8) B 3 48 3 48) B 4 48 4 48) (gset_at _ _ _) B ((gset_ne (Ne.symm hne)).trans hB) g9) cb_X5_copyRow q2_103 rfl rfl ⟨Nat.le_of_ble_eq_true rfl, Nat.le_of_ble_eq_true rfl⟩ rfl hl.1 rfl (Nat.le_of_ble_eq_true rfl) dX1_copy_84 ⟨Nat.zero_le _, Nat.zero_le _⟩) hh (fun H locs hh => ?_)
  replace hh : hH D ad cI cJ cF (gset S j (m_X5_copyRow (m_X5_copyRow (m_X5_copyRow (m_X5_copyRow (m_X5_copyRow (aset (aset (aset (aset A 0 0 (B 0 0)) 0 1 (B 0 1)) 0 2 (B 0 2)) 0 3 (B 0 3)) B 1 8 1 8) B 2 8 2 8) B 3 48 3 48) B 4 48 4 48) B 5 48 5 48)) s H locs := by rw [← show _ = (gset S j (m_X5_copyRow (m_X5_copyRow (m_X5_copyRow (m_X5_copyRow (m_X5_copyRow (aset (aset (aset (aset A 0 0 (B 0 0)) 0 1 (B 0 1)) 0 2 (B 0 2)) 0 3 (B 0 3)) B 1 8 1 8) B 2 8 2 8) B 3 48 3 48) B 4 48 4 48) B 5 48 5 48)) from (gset_gset _ _ _ _)]; exact hh
  refine lv_aload_n hx hb dX1_copy_87 rfl (lv_at hl 1 rfl) ?_
  refine iv_get (v' := .ref (ad j2 6)) hx hb hts inX1 hown hK hh.1 (ob_Font hj2) rfl 9 (by decide) (hts _ q1_79) rfl rfl rfl dX1_copy_88 ?_
  refine lv_aload_n hx hb dX1_copy_91 rfl (lv_at hl 0 rfl) ?_
  refine iv_get (v' := .ref (ad j 6)) hx hb hts inX1 hown hK hh.1 (ob_Font hj) rfl 9 (by decide) (hts _ q1_79) rfl rfl rfl dX1_copy_92 ?_
  obtain ⟨g10, h⟩ := h
  refine iv_kv (iv_rN (As := [.ref (ad j2 6), .ref (ad j 6)]) (rest := []) E hh (ok_X5_copyRow l hinj (gset S j (m_X5_copyRow (m_X5_copyRow (m_X5_copyRow (m_X5_copyRow (m_X5_copyRow (aset (aset (aset (aset A 0 0 (B 0 0)) 0 1 (B 0 1)) 0 2 (B 0 2)) 0 3 (B 0 3)) B 1 8 1 8) B 2 8 2 8) B 3 48 3 48) B 4 48 4 48) B 5 48 5 48)) (ia_F_6 hj2) (ia_F_6 hj) hne (m_X5_copyRow (m_X5_copyRow (m_X5_copyRow (m_X5_copyRow (m_X5_copyRow (aset (aset (aset (aset A 0 0 (B 0 0)) 0 1 (B 0 1)) 0 2 (B 0 2)) 0 3 (B 0 3)) B 1 8 1 8) B 2 8 2 8) B 3 48 3 48) B 4 48 4 48) B 5 48 5 48) (gset_at _ _ _) B ((gset_ne (Ne.symm hne)).trans hB) g10) cb_X5_copyRow q2_103 rfl rfl ⟨Nat.le_of_ble_eq_true rfl, Nat.le_of_ble_eq_true rfl⟩ rfl hl.1 rfl (Nat.le_of_ble_eq_true rfl) dX1_copy_95 ⟨Nat.zero_le _, Nat.zero_le _⟩) hh (fun H locs hh => ?_)
  replace hh : hH D ad cI cJ cF (gset S j (m_X5_copyRow (m_X5_copyRow (m_X5_copyRow (m_X5_copyRow (m_X5_copyRow (m_X5_copyRow (aset (aset (aset (aset A 0 0 (B 0 0)) 0 1 (B 0 1)) 0 2 (B 0 2)) 0 3 (B 0 3)) B 1 8 1 8) B 2 8 2 8) B 3 48 3 48) B 4 48 4 48) B 5 48 5 48) B 6 3 6 3)) s H locs := by rw [← show _ = (gset S j (m_X5_copyRow (m_X5_copyRow (m_X5_copyRow (m_X5_copyRow (m_X5_copyRow (m_X5_copyRow (aset (aset (aset (aset A 0 0 (B 0 0)) 0 1 (B 0 1)) 0 2 (B 0 2)) 0 3 (B 0 3)) B 1 8 1 8) B 2 8 2 8) B 3 48 3 48) B 4 48 4 48) B 5 48 5 48) B 6 3 6 3)) from (gset_gset _ _ _ _)]; exact hh
  refine lv_aload_n hx hb dX1_copy_98 rfl (lv_at hl 0 rfl) ?_
  refine iv_get (v' := .ref (ad j 7)) hx hb hts inX1 hown hK hh.1 (ob_Font hj) rfl 10 (by decide) (hts _ q1_81) rfl rfl rfl dX1_copy_99 ?_
  refine lv_aload_n hx hb dX1_copy_102 rfl (lv_at hl 1 rfl) ?_
  refine iv_get (v' := .ref (ad j2 7)) hx hb hts inX1 hown hK hh.1 (ob_Font hj2) rfl 10 (by decide) (hts _ q1_81) rfl rfl rfl dX1_copy_103 ?_
  obtain ⟨g11, h⟩ := h
  refine iv_kv (iv_rV (As := [.ref (ad j2 7)]) (rest := []) E hh (ok_X4_copy l hinj (gset S j (m_X5_copyRow (m_X5_copyRow (m_X5_copyRow (m_X5_copyRow (m_X5_copyRow (m_X5_copyRow (aset (aset (aset (aset A 0 0 (B 0 0)) 0 1 (B 0 1)) 0 2 (B 0 2)) 0 3 (B 0 3)) B 1 8 1 8) B 2 8 2 8) B 3 48 3 48) B 4 48 4 48) B 5 48 5 48) B 6 3 6 3)) hj hj2 hne (m_X5_copyRow (m_X5_copyRow (m_X5_copyRow (m_X5_copyRow (m_X5_copyRow (m_X5_copyRow (aset (aset (aset (aset A 0 0 (B 0 0)) 0 1 (B 0 1)) 0 2 (B 0 2)) 0 3 (B 0 3)) B 1 8 1 8) B 2 8 2 8) B 3 48 3 48) B 4 48 4 48) B 5 48 5 48) B 6 3 6 3) (gset_at _ _ _) B ((gset_ne (Ne.symm hne)).trans hB) g11) cb_X4_copy q2_106 rfl rfl ⟨Nat.le_of_ble_eq_true rfl, Nat.le_of_ble_eq_true rfl⟩ (ob_Sheets hj) rfl rfl rfl hl.1 rfl (Nat.le_of_ble_eq_true rfl) dX1_copy_106 ⟨Nat.zero_le _, Nat.zero_le _⟩) hh (fun H locs hh => ?_)
  replace hh : hH D ad cI cJ cF (gset S j (m_X4_copy (m_X5_copyRow (m_X5_copyRow (m_X5_copyRow (m_X5_copyRow (m_X5_copyRow (m_X5_copyRow (aset (aset (aset (aset A 0 0 (B 0 0)) 0 1 (B 0 1)) 0 2 (B 0 2)) 0 3 (B 0 3)) B 1 8 1 8) B 2 8 2 8) B 3 48 3 48) B 4 48 4 48) B 5 48 5 48) B 6 3 6 3) B)) s H locs := by rw [← show _ = (gset S j (m_X4_copy (m_X5_copyRow (m_X5_copyRow (m_X5_copyRow (m_X5_copyRow (m_X5_copyRow (m_X5_copyRow (aset (aset (aset (aset A 0 0 (B 0 0)) 0 1 (B 0 1)) 0 2 (B 0 2)) 0 3 (B 0 3)) B 1 8 1 8) B 2 8 2 8) B 3 48 3 48) B 4 48 4 48) B 5 48 5 48) B 6 3 6 3) B)) from (gset_gset _ _ _ _)]; exact hh
  exact iv_vret E hh rfl dX1_copy_109
set_option maxHeartbeats 4000000 in
set_option maxRecDepth 100000 in
theorem ok_X1_hasGlyph (l : Launch) (hinj : hInj ad) (S : hS) {j : Nat} (hj : j < 7) (A : hGM) (hA : S j = A) (glyph : Int) (h_glyph : hIn glyph) (hp : p_X1_hasGlyph A glyph) : hMi D ad cI cJ cF l yX1_hasGlyph cX1_hasGlyph 2 (some .boolean) ({ frames := 1, cells := 0, slots := 0, locals := 22 } : Room) [.ref (ad j 0), .int (hI glyph)] S (v_X1_hasGlyph A glyph) S := by
  refine hOf (S := S) l hinj (by decide +kernel) (Nat.le_of_ble_eq_true rfl) (fun p e s m args below meth c E => ?_)
  obtain ⟨hx, hb, hml, hown, hts, hK, hN, -, hr, hlk, hz⟩ := id E
  have hown : s.vm.findClass RX1 = some m.cls := hown
  intro H locs ls hh hl
  have hl : lv_has ls 2 [(0, .ref (ad j 0)), (1, .int (hI glyph))] := hl
  have h := hp
  unfold p_X1_hasGlyph at h
  refine lv_iload_n hx hb dX1_hasGlyph_0 rfl (lv_at hl 1 rfl) ?_
  refine iv_iconst hx hb dX1_hasGlyph_1 ?_
  refine lv_aload_n hx hb dX1_hasGlyph_2 rfl (lv_at hl 0 rfl) ?_
  refine iv_get (v' := .int (hI (A 0 0))) hx hb hts inX1 hown hK hh.1 (ob_Font hj) rfl 0 (by decide) (hts _ q1_57) rfl rfl (congrArg (fun z => Value.int (hI (z 0 0))) hA) dX1_hasGlyph_3 ?_
  have hm1 : hIn (A 0 0) := hIn_rd hh.2.1 hA (by decide)
  refine iv_iconst hx hb dX1_hasGlyph_6 ?_
  refine iv_isub hx hb dX1_hasGlyph_7 ?_
  obtain ⟨g2, h⟩ := h
  refine iv_ki (iv_rN (As := [.int (hI glyph), .int (hI 0), .int (hI ((A 0 0) - 1))]) (rest := []) E hh (ok_X5_within l hinj S glyph 0 ((A 0 0) - 1) h_glyph ⟨by decide, by decide⟩ g2) cb_X5_within q2_115 rfl rfl ⟨Nat.le_of_ble_eq_true rfl, Nat.le_of_ble_eq_true rfl⟩ rfl hl.1 rfl (Nat.le_of_ble_eq_true rfl) dX1_hasGlyph_8 ⟨Nat.zero_le _, Nat.zero_le _⟩) hh (fun hc3 H locs hh => ?_)
  exact iv_bret E hh rfl (by rw [← show (v_X5_within glyph 0 ((A 0 0) - 1)) = v_X1_hasGlyph A glyph from rfl]; exact (z_X5_within glyph 0 ((A 0 0) - 1))) rfl dX1_hasGlyph_11
set_option maxHeartbeats 4000000 in
set_option maxRecDepth 100000 in
theorem ok_X1_hasStem (l : Launch) (hinj : hInj ad) (S : hS) {j : Nat} (hj : j < 7) (A : hGM) (hA : S j = A) (glyph : Int) (stem : Int) (h_glyph : hIn glyph) (h_stem : hIn stem) (hp : p_X1_hasStem A glyph stem) : hMi D ad cI cJ cF l yX1_hasStem cX1_hasStem 3 (some .boolean) ({ frames := 2, cells := 0, slots := 0, locals := 43 } : Room) [.ref (ad j 0), .int (hI glyph), .int (hI stem)] S (v_X1_hasStem A glyph stem) S := by
  refine hOf (S := S) l hinj (by decide +kernel) (Nat.le_of_ble_eq_true rfl) (fun p e s m args below meth c E => ?_)
  obtain ⟨hx, hb, hml, hown, hts, hK, hN, -, hr, hlk, hz⟩ := id E
  have hown : s.vm.findClass RX1 = some m.cls := hown
  intro H locs ls hh hl
  have hl : lv_has ls 3 [(0, .ref (ad j 0)), (1, .int (hI glyph)), (2, .int (hI stem))] := hl
  have h := hp
  unfold p_X1_hasStem at h
  refine lv_aload_n hx hb dX1_hasStem_0 rfl (lv_at hl 0 rfl) ?_
  refine lv_iload_n hx hb dX1_hasStem_1 rfl (lv_at hl 1 rfl) ?_
  obtain ⟨g1, h⟩ := h
  refine iv_ki (iv_rV (As := [.int (hI glyph)]) (rest := []) E hh (ok_X1_hasGlyph l hinj S hj A hA glyph h_glyph g1) cb_X1_hasGlyph q2_139 rfl rfl ⟨Nat.le_of_ble_eq_true rfl, Nat.le_of_ble_eq_true rfl⟩ (ob_Font hj) rfl rfl rfl hl.1 rfl (Nat.le_of_ble_eq_true rfl) dX1_hasStem_2 ⟨Nat.zero_le _, Nat.zero_le _⟩) hh (fun hc2 H locs hh => ?_)
  refine iv_if_eq (tgt := 30) hx hb hc2 dX1_hasStem_5 (by decide) (fun c3 => ?_) (fun c3 => ?_)
  · have h := h.1 c3
    refine iv_iconst hx hb dX1_hasStem_30 ?_
    exact iv_bret E hh (by unfold v_X1_hasStem; rw [if_pos c3]) (by rw [← show 0 = v_X1_hasStem A glyph stem from (by unfold v_X1_hasStem; rw [if_pos c3])]; exact (Or.inl rfl)) rfl dX1_hasStem_31
  · have h := h.2 c3
    refine lv_iload_n hx hb dX1_hasStem_8 rfl (lv_at hl 2 rfl) ?_
    refine iv_iconst hx hb dX1_hasStem_9 ?_
    refine lv_aload_n hx hb dX1_hasStem_10 rfl (lv_at hl 0 rfl) ?_
    refine iv_get (v' := .ref (ad j 2)) hx hb hts inX1 hown hK hh.1 (ob_Font hj) rfl 5 (by decide) (hts _ q1_68) rfl rfl rfl dX1_hasStem_11 ?_
    refine lv_iload_n hx hb dX1_hasStem_14 rfl (lv_at hl 1 rfl) ?_
    refine iv_ki (iv_rN (As := [.ref (ad j 2), .int (hI glyph)]) (rest := [.int (hI 0), .int (hI stem)]) E hh (ok_X5_cell l hinj S (ia_F_2 hj) A hA glyph h_glyph) cb_X5_cell q2_10 rfl rfl ⟨Nat.le_of_ble_eq_true rfl, Nat.le_of_ble_eq_true rfl⟩ rfl hl.1 rfl (Nat.le_of_ble_eq_true rfl) dX1_hasStem_15 ⟨Nat.zero_le _, Nat.zero_le _⟩) hh (fun hc4 H locs hh => ?_)
    refine iv_iconst hx hb dX1_hasStem_18 ?_
    refine iv_isub hx hb dX1_hasStem_19 ?_
    obtain ⟨g5, h⟩ := h
    refine iv_ki (iv_rN (As := [.int (hI stem), .int (hI 0), .int (hI ((v_X5_cell A 2 8 glyph) - 1))]) (rest := []) E hh (ok_X5_within l hinj S stem 0 ((v_X5_cell A 2 8 glyph) - 1) h_stem ⟨by decide, by decide⟩ g5) cb_X5_within q2_115 rfl rfl ⟨Nat.le_of_ble_eq_true rfl, Nat.le_of_ble_eq_true rfl⟩ rfl hl.1 rfl (Nat.le_of_ble_eq_true rfl) dX1_hasStem_20 ⟨Nat.zero_le _, Nat.zero_le _⟩) hh (fun hc6 H locs hh => ?_)
    refine iv_if_eq (tgt := 30) hx hb hc6 dX1_hasStem_23 (by decide) (fun c7 => ?_) (fun c7 => ?_)
    · have h := h.1 c7
      refine iv_iconst hx hb dX1_hasStem_30 ?_
      exact iv_bret E hh (by unfold v_X1_hasStem; rw [if_neg c3, if_pos c7]) (by rw [← show 0 = v_X1_hasStem A glyph stem from (by unfold v_X1_hasStem; rw [if_neg c3, if_pos c7])]; exact (Or.inl rfl)) rfl dX1_hasStem_31
    · have h := h.2 c7
      refine iv_iconst hx hb dX1_hasStem_26 ?_
      refine lv_goto (tgt := 31) hx hb dX1_hasStem_27 (by decide) ?_
      exact iv_bret E hh (by unfold v_X1_hasStem; rw [if_neg c3, if_neg c7]) (by rw [← show 1 = v_X1_hasStem A glyph stem from (by unfold v_X1_hasStem; rw [if_neg c3, if_neg c7])]; exact (Or.inr rfl)) rfl dX1_hasStem_31
set_option maxHeartbeats 4000000 in
set_option maxRecDepth 100000 in
theorem ok_X1_endOf (l : Launch) (hinj : hInj ad) (S : hS) {j : Nat} (hj : j < 7) (A : hGM) (hA : S j = A) (at1 : Int) (h_at1 : hIn at1) (hp : p_X1_endOf A at1) : hMi D ad cI cJ cF l yX1_endOf cX1_endOf 2 (some .int) ({ frames := 1, cells := 0, slots := 0, locals := 21 } : Room) [.ref (ad j 0), .int (hI at1)] S (v_X1_endOf A at1) S := by
  refine hOf (S := S) l hinj (by decide +kernel) (Nat.le_of_ble_eq_true rfl) (fun p e s m args below meth c E => ?_)
  obtain ⟨hx, hb, hml, hown, hts, hK, hN, -, hr, hlk, hz⟩ := id E
  have hown : s.vm.findClass RX1 = some m.cls := hown
  intro H locs ls hh hl
  have hl : lv_has ls 2 [(0, .ref (ad j 0)), (1, .int (hI at1))] := hl
  have h := hp
  unfold p_X1_endOf at h
  refine lv_aload_n hx hb dX1_endOf_0 rfl (lv_at hl 0 rfl) ?_
  refine iv_get (v' := .ref (ad j 3)) hx hb hts inX1 hown hK hh.1 (ob_Font hj) rfl 6 (by decide) (hts _ q1_70) rfl rfl rfl dX1_endOf_1 ?_
  refine lv_iload_n hx hb dX1_endOf_4 rfl (lv_at hl 1 rfl) ?_
  refine iv_ki (iv_rN (As := [.ref (ad j 3), .int (hI at1)]) (rest := []) E hh (ok_X5_cell l hinj S (ia_F_3 hj) A hA at1 h_at1) cb_X5_cell q2_10 rfl rfl ⟨Nat.le_of_ble_eq_true rfl, Nat.le_of_ble_eq_true rfl⟩ rfl hl.1 rfl (Nat.le_of_ble_eq_true rfl) dX1_endOf_5 ⟨Nat.zero_le _, Nat.zero_le _⟩) hh (fun hc1 H locs hh => ?_)
  refine lv_aload_n hx hb dX1_endOf_8 rfl (lv_at hl 0 rfl) ?_
  refine iv_get (v' := .ref (ad j 4)) hx hb hts inX1 hown hK hh.1 (ob_Font hj) rfl 7 (by decide) (hts _ q1_73) rfl rfl rfl dX1_endOf_9 ?_
  refine lv_iload_n hx hb dX1_endOf_12 rfl (lv_at hl 1 rfl) ?_
  refine iv_ki (iv_rN (As := [.ref (ad j 4), .int (hI at1)]) (rest := [.int (hI (v_X5_cell A 3 48 at1))]) E hh (ok_X5_cell l hinj S (ia_F_4 hj) A hA at1 h_at1) cb_X5_cell q2_10 rfl rfl ⟨Nat.le_of_ble_eq_true rfl, Nat.le_of_ble_eq_true rfl⟩ rfl hl.1 rfl (Nat.le_of_ble_eq_true rfl) dX1_endOf_13 ⟨Nat.zero_le _, Nat.zero_le _⟩) hh (fun hc2 H locs hh => ?_)
  refine iv_iadd hx hb dX1_endOf_16 ?_
  obtain ⟨g3, h⟩ := h
  exact iv_iret E hh rfl (by rw [← show ((v_X5_cell A 3 48 at1) + (v_X5_cell A 4 48 at1)) = v_X1_endOf A at1 from rfl]; exact g3) rfl dX1_endOf_17
set_option maxHeartbeats 4000000 in
set_option maxRecDepth 100000 in
theorem ok_X1_addGlyph (l : Launch) (hinj : hInj ad) (S : hS) {j : Nat} (hj : j < 7) (A : hGM) (hA : S j = A) (advance : Int) (h_advance : hIn advance) (hp : p_X1_addGlyph A advance) : hMi D ad cI cJ cF l yX1_addGlyph cX1_addGlyph 3 (some .int) ({ frames := 1, cells := 0, slots := 0, locals := 22 } : Room) [.ref (ad j 0), .int (hI advance)] S (v_X1_addGlyph A advance) (gset S j (m_X1_addGlyph A advance)) := by
  refine hOf (S := S) l hinj (by decide +kernel) (Nat.le_of_ble_eq_true rfl) (fun p e s m args below meth c E => ?_)
  obtain ⟨hx, hb, hml, hown, hts, hK, hN, -, hr, hlk, hz⟩ := id E
  have hown : s.vm.findClass RX1 = some m.cls := hown
  intro H locs ls hh hl
  have hl : lv_has ls 3 [(0, .ref (ad j 0)), (1, .int (hI advance))] := hl
  replace hh : hH D ad cI cJ cF (gset S j A) s H locs := by rw [← can1 hA]; exact hh
  have h := hp
  unfold p_X1_addGlyph at h
  refine lv_iload_n hx hb dX1_addGlyph_0 rfl (lv_at hl 1 rfl) ?_
  refine lv_bipush (v := hI 100) hx hb dX1_addGlyph_1 (by decide) ?_
  refine lv_sipush (v := hI 1500) hx hb dX1_addGlyph_3 (by decide) ?_
  refine iv_ki (iv_rN (As := [.int (hI advance), .int (hI 100), .int (hI 1500)]) (rest := []) E hh (ok_X5_within l hinj (gset S j A) advance 100 1500 h_advance ⟨by decide, by decide⟩ ⟨by decide, by decide⟩) cb_X5_within q2_115 rfl rfl ⟨Nat.le_of_ble_eq_true rfl, Nat.le_of_ble_eq_true rfl⟩ rfl hl.1 rfl (Nat.le_of_ble_eq_true rfl) dX1_addGlyph_6 ⟨Nat.zero_le _, Nat.zero_le _⟩) hh (fun hc1 H locs hh => ?_)
  refine iv_if_ne (tgt := 15) hx hb hc1 dX1_addGlyph_9 (by decide) (fun c2 => ?_) (fun c2 => ?_)
  · have h := h.2 c2
    refine lv_aload_n hx hb dX1_addGlyph_15 rfl (lv_at hl 0 rfl) ?_
    refine iv_get (v' := .int (hI (A 0 0))) hx hb hts inX1 hown hK hh.1 (ob_Font hj) rfl 0 (by decide) (hts _ q1_57) rfl rfl (congrArg (fun z => Value.int (hI (z 0 0))) (gset_at _ _ _)) dX1_addGlyph_16 ?_
    have hm3 : hIn (A 0 0) := hIn_rd hh.2.1 (gset_at _ _ _) (by decide)
    refine lv_bipush (v := hI 8) hx hb dX1_addGlyph_19 (by decide) ?_
    refine iv_icmp_lt (tgt := 27) hx hb hm3 ⟨by decide, by decide⟩ dX1_addGlyph_21 (by decide) (fun c4 => ?_) (fun c4 => ?_)
    · have h := h.1 c4
      refine lv_aload_n hx hb dX1_addGlyph_27 rfl (lv_at hl 0 rfl) ?_
      refine iv_get (v' := .int (hI (A 0 0))) hx hb hts inX1 hown hK hh.1 (ob_Font hj) rfl 0 (by decide) (hts _ q1_57) rfl rfl (congrArg (fun z => Value.int (hI (z 0 0))) (gset_at _ _ _)) dX1_addGlyph_28 ?_
      have hm5 : hIn (A 0 0) := hIn_rd hh.2.1 (gset_at _ _ _) (by decide)
      refine lv_istore_n (lv' := [(2, .int (hI (A 0 0))), (0, .ref (ad j 0)), (1, .int (hI advance))]) hx hb dX1_addGlyph_31 rfl hl (by decide) rfl (fun ls hl => ?_)
      refine lv_aload_n hx hb dX1_addGlyph_32 rfl (lv_at hl 1 rfl) ?_
      refine iv_get (v' := .ref (ad j 1)) hx hb hts inX1 hown hK hh.1 (ob_Font hj) rfl 4 (by decide) (hts _ q1_66) rfl rfl rfl dX1_addGlyph_33 ?_
      refine lv_iload_n hx hb dX1_addGlyph_36 rfl (lv_at hl 0 rfl) ?_
      refine lv_iload_n hx hb dX1_addGlyph_37 rfl (lv_at hl 2 rfl) ?_
      refine iv_kv (iv_rN (As := [.ref (ad j 1), .int (hI (A 0 0)), .int (hI advance)]) (rest := []) E hh (ok_X5_put l hinj (gset S j A) (ia_F_1 hj) A (gset_at _ _ _) (A 0 0) advance hm5 h_advance) cb_X5_put q2_118 rfl rfl ⟨Nat.le_of_ble_eq_true rfl, Nat.le_of_ble_eq_true rfl⟩ rfl hl.1 rfl (Nat.le_of_ble_eq_true rfl) dX1_addGlyph_38 ⟨Nat.zero_le _, Nat.zero_le _⟩) hh (fun H locs hh => ?_)
      replace hh : hH D ad cI cJ cF (gset S j (m_X5_put A 1 8 (A 0 0) advance)) s H locs := by rw [← show _ = (gset S j (m_X5_put A 1 8 (A 0 0) advance)) from (gset_gset _ _ _ _)]; exact hh
      refine lv_aload_n hx hb dX1_addGlyph_41 rfl (lv_at hl 1 rfl) ?_
      refine lv_dup hx hb dX1_addGlyph_42 rfl ?_
      refine iv_get (v' := .int (hI ((m_X5_put A 1 8 (A 0 0) advance) 0 0))) hx hb hts inX1 hown hK hh.1 (ob_Font hj) rfl 0 (by decide) (hts _ q1_57) rfl rfl (congrArg (fun z => Value.int (hI (z 0 0))) (gset_at _ _ _)) dX1_addGlyph_43 ?_
      have hm6 : hIn ((m_X5_put A 1 8 (A 0 0) advance) 0 0) := hIn_rd hh.2.1 (gset_at _ _ _) (by decide)
      refine iv_iconst hx hb dX1_addGlyph_46 ?_
      refine iv_iadd hx hb dX1_addGlyph_47 ?_
      obtain ⟨g7, h⟩ := h
      refine iv_put (S' := (gset S j (aset (m_X5_put A 1 8 (A 0 0) advance) 0 0 (((m_X5_put A 1 8 (A 0 0) advance) 0 0) + 1)))) (ty := .int) hx hb hts inX1 tyX1 tyX1_ok nmX1 hown hK hinj hh (h112 (by omega)) (un_Font hj) (Or.inl rfl) (ob_Font hj) rfl 0 (by decide) (hts _ q1_57) rfl rfl (by decide +kernel) rfl rfl (Nat.le_of_ble_eq_true rfl) (pu_Font_glyphs hj) (Or.inl g7) (by rw [show (gset S j (m_X5_put A 1 8 (A 0 0) advance)) j = (m_X5_put A 1 8 (A 0 0) advance) from (gset_at _ _ _)]; exact (gset_gset _ _ _ _)) dX1_addGlyph_48 (fun H locs hh => ?_)
      refine lv_iload_n hx hb dX1_addGlyph_51 rfl (lv_at hl 0 rfl) ?_
      exact iv_iret E hh (by unfold v_X1_addGlyph; rw [if_neg c2, if_pos c4]) (by rw [← show (A 0 0) = v_X1_addGlyph A advance from (by unfold v_X1_addGlyph; rw [if_neg c2, if_pos c4])]; exact hm5) (by unfold m_X1_addGlyph; rw [if_neg c2, if_pos c4]) dX1_addGlyph_52
    · have h := h.2 c4
      refine iv_ldc (n := (-1000003)) hx hb (by decide) hown (hts _ q2_117) dX1_addGlyph_24 ?_
      exact iv_iret E hh (by unfold v_X1_addGlyph; rw [if_neg c2, if_neg c4]) (by rw [← show (-1000003) = v_X1_addGlyph A advance from (by unfold v_X1_addGlyph; rw [if_neg c2, if_neg c4])]; exact ⟨by decide, by decide⟩) (by unfold m_X1_addGlyph; rw [if_neg c2, if_neg c4]) dX1_addGlyph_26
  · have h := h.1 c2
    refine iv_ldc (n := (-1000001)) hx hb (by decide) hown (hts _ q2_116) dX1_addGlyph_12 ?_
    exact iv_iret E hh (by unfold v_X1_addGlyph; rw [if_pos c2]) (by rw [← show (-1000001) = v_X1_addGlyph A advance from (by unfold v_X1_addGlyph; rw [if_pos c2])]; exact ⟨by decide, by decide⟩) (by unfold m_X1_addGlyph; rw [if_pos c2]) dX1_addGlyph_14
set_option maxHeartbeats 4000000 in
set_option maxRecDepth 100000 in
theorem ok_X1_putStem (l : Launch) (hinj : hInj ad) (S : hS) {j : Nat} (hj : j < 7) (A : hGM) (hA : S j = A) (at1 : Int) (place : Int) (width : Int) (hint : Int) (h_at1 : hIn at1) (h_place : hIn place) (h_width : hIn width) (h_hint : hIn hint) : hMv D ad cI cJ cF l yX1_putStem cX1_putStem 5 ({ frames := 1, cells := 0, slots := 0, locals := 22 } : Room) [.ref (ad j 0), .int (hI at1), .int (hI place), .int (hI width), .int (hI hint)] S (gset S j (m_X1_putStem A at1 place width hint)) := by
  refine hOf (S := S) l hinj (by decide +kernel) (Nat.le_of_ble_eq_true rfl) (fun p e s m args below meth c E => ?_)
  obtain ⟨hx, hb, hml, hown, hts, hK, hN, -, hr, hlk, hz⟩ := id E
  have hown : s.vm.findClass RX1 = some m.cls := hown
  intro H locs ls hh hl
  have hl : lv_has ls 5 [(0, .ref (ad j 0)), (1, .int (hI at1)), (2, .int (hI place)), (3, .int (hI width)), (4, .int (hI hint))] := hl
  replace hh : hH D ad cI cJ cF (gset S j A) s H locs := by rw [← can1 hA]; exact hh
  refine lv_aload_n hx hb dX1_putStem_0 rfl (lv_at hl 0 rfl) ?_
  refine iv_get (v' := .ref (ad j 3)) hx hb hts inX1 hown hK hh.1 (ob_Font hj) rfl 6 (by decide) (hts _ q1_70) rfl rfl rfl dX1_putStem_1 ?_
  refine lv_iload_n hx hb dX1_putStem_4 rfl (lv_at hl 1 rfl) ?_
  refine lv_iload_n hx hb dX1_putStem_5 rfl (lv_at hl 2 rfl) ?_
  refine iv_kv (iv_rN (As := [.ref (ad j 3), .int (hI at1), .int (hI place)]) (rest := []) E hh (ok_X5_put l hinj (gset S j A) (ia_F_3 hj) A (gset_at _ _ _) at1 place h_at1 h_place) cb_X5_put q2_118 rfl rfl ⟨Nat.le_of_ble_eq_true rfl, Nat.le_of_ble_eq_true rfl⟩ rfl hl.1 rfl (Nat.le_of_ble_eq_true rfl) dX1_putStem_6 ⟨Nat.zero_le _, Nat.zero_le _⟩) hh (fun H locs hh => ?_)
  replace hh : hH D ad cI cJ cF (gset S j (m_X5_put A 3 48 at1 place)) s H locs := by rw [← show _ = (gset S j (m_X5_put A 3 48 at1 place)) from (gset_gset _ _ _ _)]; exact hh
  refine lv_aload_n hx hb dX1_putStem_9 rfl (lv_at hl 0 rfl) ?_
  refine iv_get (v' := .ref (ad j 4)) hx hb hts inX1 hown hK hh.1 (ob_Font hj) rfl 7 (by decide) (hts _ q1_73) rfl rfl rfl dX1_putStem_10 ?_
  refine lv_iload_n hx hb dX1_putStem_13 rfl (lv_at hl 1 rfl) ?_
  refine lv_iload_n hx hb dX1_putStem_14 rfl (lv_at hl 3 rfl) ?_
  refine iv_kv (iv_rN (As := [.ref (ad j 4), .int (hI at1), .int (hI width)]) (rest := []) E hh (ok_X5_put l hinj (gset S j (m_X5_put A 3 48 at1 place)) (ia_F_4 hj) (m_X5_put A 3 48 at1 place) (gset_at _ _ _) at1 width h_at1 h_width) cb_X5_put q2_118 rfl rfl ⟨Nat.le_of_ble_eq_true rfl, Nat.le_of_ble_eq_true rfl⟩ rfl hl.1 rfl (Nat.le_of_ble_eq_true rfl) dX1_putStem_15 ⟨Nat.zero_le _, Nat.zero_le _⟩) hh (fun H locs hh => ?_)
  replace hh : hH D ad cI cJ cF (gset S j (m_X5_put (m_X5_put A 3 48 at1 place) 4 48 at1 width)) s H locs := by rw [← show _ = (gset S j (m_X5_put (m_X5_put A 3 48 at1 place) 4 48 at1 width)) from (gset_gset _ _ _ _)]; exact hh
  refine lv_aload_n hx hb dX1_putStem_18 rfl (lv_at hl 0 rfl) ?_
  refine iv_get (v' := .ref (ad j 5)) hx hb hts inX1 hown hK hh.1 (ob_Font hj) rfl 8 (by decide) (hts _ q1_76) rfl rfl rfl dX1_putStem_19 ?_
  refine lv_iload_n hx hb dX1_putStem_22 rfl (lv_at hl 1 rfl) ?_
  refine lv_iload hx hb dX1_putStem_23 (lv_at hl 4 rfl) ?_
  refine iv_kv (iv_rN (As := [.ref (ad j 5), .int (hI at1), .int (hI hint)]) (rest := []) E hh (ok_X5_put l hinj (gset S j (m_X5_put (m_X5_put A 3 48 at1 place) 4 48 at1 width)) (ia_F_5 hj) (m_X5_put (m_X5_put A 3 48 at1 place) 4 48 at1 width) (gset_at _ _ _) at1 hint h_at1 h_hint) cb_X5_put q2_118 rfl rfl ⟨Nat.le_of_ble_eq_true rfl, Nat.le_of_ble_eq_true rfl⟩ rfl hl.1 rfl (Nat.le_of_ble_eq_true rfl) dX1_putStem_25 ⟨Nat.zero_le _, Nat.zero_le _⟩) hh (fun H locs hh => ?_)
  replace hh : hH D ad cI cJ cF (gset S j (m_X5_put (m_X5_put (m_X5_put A 3 48 at1 place) 4 48 at1 width) 5 48 at1 hint)) s H locs := by rw [← show _ = (gset S j (m_X5_put (m_X5_put (m_X5_put A 3 48 at1 place) 4 48 at1 width) 5 48 at1 hint)) from (gset_gset _ _ _ _)]; exact hh
  exact iv_vret E hh rfl dX1_putStem_28
set_option maxHeartbeats 4000000 in
set_option maxRecDepth 100000 in
theorem ok_X1_moveStem (l : Launch) (hinj : hInj ad) (S : hS) {j : Nat} (hj : j < 7) (A : hGM) (hA : S j = A) (from1 : Int) (to1 : Int) (h_from1 : hIn from1) (h_to1 : hIn to1) : hMv D ad cI cJ cF l yX1_moveStem cX1_moveStem 3 ({ frames := 2, cells := 0, slots := 0, locals := 46 } : Room) [.ref (ad j 0), .int (hI from1), .int (hI to1)] S (gset S j (m_X1_moveStem A from1 to1)) := by
  refine hOf (S := S) l hinj (by decide +kernel) (Nat.le_of_ble_eq_true rfl) (fun p e s m args below meth c E => ?_)
  obtain ⟨hx, hb, hml, hown, hts, hK, hN, -, hr, hlk, hz⟩ := id E
  have hown : s.vm.findClass RX1 = some m.cls := hown
  intro H locs ls hh hl
  have hl : lv_has ls 3 [(0, .ref (ad j 0)), (1, .int (hI from1)), (2, .int (hI to1))] := hl
  replace hh : hH D ad cI cJ cF (gset S j A) s H locs := by rw [← can1 hA]; exact hh
  refine lv_aload_n hx hb dX1_moveStem_0 rfl (lv_at hl 0 rfl) ?_
  refine lv_iload_n hx hb dX1_moveStem_1 rfl (lv_at hl 2 rfl) ?_
  refine lv_aload_n hx hb dX1_moveStem_2 rfl (lv_at hl 0 rfl) ?_
  refine iv_get (v' := .ref (ad j 3)) hx hb hts inX1 hown hK hh.1 (ob_Font hj) rfl 6 (by decide) (hts _ q1_70) rfl rfl rfl dX1_moveStem_3 ?_
  refine lv_iload_n hx hb dX1_moveStem_6 rfl (lv_at hl 1 rfl) ?_
  refine iv_ki (iv_rN (As := [.ref (ad j 3), .int (hI from1)]) (rest := [.int (hI to1), .ref (ad j 0)]) E hh (ok_X5_cell l hinj (gset S j A) (ia_F_3 hj) A (gset_at _ _ _) from1 h_from1) cb_X5_cell q2_10 rfl rfl ⟨Nat.le_of_ble_eq_true rfl, Nat.le_of_ble_eq_true rfl⟩ rfl hl.1 rfl (Nat.le_of_ble_eq_true rfl) dX1_moveStem_7 ⟨Nat.zero_le _, Nat.zero_le _⟩) hh (fun hc1 H locs hh => ?_)
  refine lv_aload_n hx hb dX1_moveStem_10 rfl (lv_at hl 0 rfl) ?_
  refine iv_get (v' := .ref (ad j 4)) hx hb hts inX1 hown hK hh.1 (ob_Font hj) rfl 7 (by decide) (hts _ q1_73) rfl rfl rfl dX1_moveStem_11 ?_
  refine lv_iload_n hx hb dX1_moveStem_14 rfl (lv_at hl 1 rfl) ?_
  refine iv_ki (iv_rN (As := [.ref (ad j 4), .int (hI from1)]) (rest := [.int (hI (v_X5_cell A 3 48 from1)), .int (hI to1), .ref (ad j 0)]) E hh (ok_X5_cell l hinj (gset S j A) (ia_F_4 hj) A (gset_at _ _ _) from1 h_from1) cb_X5_cell q2_10 rfl rfl ⟨Nat.le_of_ble_eq_true rfl, Nat.le_of_ble_eq_true rfl⟩ rfl hl.1 rfl (Nat.le_of_ble_eq_true rfl) dX1_moveStem_15 ⟨Nat.zero_le _, Nat.zero_le _⟩) hh (fun hc2 H locs hh => ?_)
  refine lv_aload_n hx hb dX1_moveStem_18 rfl (lv_at hl 0 rfl) ?_
  refine iv_get (v' := .ref (ad j 5)) hx hb hts inX1 hown hK hh.1 (ob_Font hj) rfl 8 (by decide) (hts _ q1_76) rfl rfl rfl dX1_moveStem_19 ?_
  refine lv_iload_n hx hb dX1_moveStem_22 rfl (lv_at hl 1 rfl) ?_
  refine iv_ki (iv_rN (As := [.ref (ad j 5), .int (hI from1)]) (rest := [.int (hI (v_X5_cell A 4 48 from1)), .int (hI (v_X5_cell A 3 48 from1)), .int (hI to1), .ref (ad j 0)]) E hh (ok_X5_cell l hinj (gset S j A) (ia_F_5 hj) A (gset_at _ _ _) from1 h_from1) cb_X5_cell q2_10 rfl rfl ⟨Nat.le_of_ble_eq_true rfl, Nat.le_of_ble_eq_true rfl⟩ rfl hl.1 rfl (Nat.le_of_ble_eq_true rfl) dX1_moveStem_23 ⟨Nat.zero_le _, Nat.zero_le _⟩) hh (fun hc3 H locs hh => ?_)
  refine iv_kv (iv_rV (As := [.int (hI to1), .int (hI (v_X5_cell A 3 48 from1)), .int (hI (v_X5_cell A 4 48 from1)), .int (hI (v_X5_cell A 5 48 from1))]) (rest := []) E hh (ok_X1_putStem l hinj (gset S j A) hj A (gset_at _ _ _) to1 (v_X5_cell A 3 48 from1) (v_X5_cell A 4 48 from1) (v_X5_cell A 5 48 from1) h_to1 hc1 hc2 hc3) cb_X1_putStem q2_149 rfl rfl ⟨Nat.le_of_ble_eq_true rfl, Nat.le_of_ble_eq_true rfl⟩ (ob_Font hj) rfl rfl rfl hl.1 rfl (Nat.le_of_ble_eq_true rfl) dX1_moveStem_26 ⟨Nat.zero_le _, Nat.zero_le _⟩) hh (fun H locs hh => ?_)
  replace hh : hH D ad cI cJ cF (gset S j (m_X1_putStem A to1 (v_X5_cell A 3 48 from1) (v_X5_cell A 4 48 from1) (v_X5_cell A 5 48 from1))) s H locs := by rw [← show _ = (gset S j (m_X1_putStem A to1 (v_X5_cell A 3 48 from1) (v_X5_cell A 4 48 from1) (v_X5_cell A 5 48 from1))) from (gset_gset _ _ _ _)]; exact hh
  exact iv_vret E hh rfl dX1_moveStem_29
set_option maxHeartbeats 4000000 in
set_option maxRecDepth 100000 in
theorem ok_X1_addStem (l : Launch) (hinj : hInj ad) (S : hS) {j : Nat} (hj : j < 7) (A : hGM) (hA : S j = A) (glyph : Int) (place : Int) (width : Int) (h_glyph : hIn glyph) (h_place : hIn place) (h_width : hIn width) (hp : p_X1_addStem A glyph place width) : hMi D ad cI cJ cF l yX1_addStem cX1_addStem 9 (some .int) ({ frames := 3, cells := 0, slots := 0, locals := 68 } : Room) [.ref (ad j 0), .int (hI glyph), .int (hI place), .int (hI width)] S (v_X1_addStem A glyph place width) (gset S j (m_X1_addStem A glyph place width)) := by
  refine hOf (S := S) l hinj (by decide +kernel) (Nat.le_of_ble_eq_true rfl) (fun p e s m args below meth c E => ?_)
  obtain ⟨hx, hb, hml, hown, hts, hK, hN, -, hr, hlk, hz⟩ := id E
  have hown : s.vm.findClass RX1 = some m.cls := hown
  have r55 : ∀ (y4 : Int) (y5 : Int) (y6 : Int) (y7 : Int) (A1 : hGM), hIn y4 → hIn y5 → hIn y6 → hIn y7 → ((∀ (i : Nat) (k : Int), i < 100 → hIn (A1 i k)) → ((y7 < y5 → (hIn (y4 + y7) ∧ (p_X1_endOf A1 (y4 + y7) ∧ ((place < (v_X1_endOf A1 (y4 + y7)) → (hIn (place + width) ∧ (((v_X5_cell A1 3 48 (y4 + y7)) < (place + width) → ((-1000002) = v_X1_addStem A glyph place width ∧ A1 = m_X1_addStem A glyph place width)) ∧ (¬ (v_X5_cell A1 3 48 (y4 + y7)) < (place + width) → (((v_X5_cell A1 3 48 (y4 + y7)) < place → (hAt D ad cI cJ cF p l e ({ frames := 3, cells := 0, slots := 0, locals := 68 } : Room) s m args below meth c (MQ below (hQi D ad cI cJ cF (v_X1_addStem A glyph place width) (gset S j (m_X1_addStem A glyph place width))) args s 0 0 (hAd ad)) 9 55 [(0, .ref (ad j 0)), (1, .int (hI glyph)), (2, .int (hI place)), (3, .int (hI width)), (4, .int (hI y4)), (5, .int (hI y5)), (6, .int (hI (y6 + 1))), (7, .int (hI (y7 + 1)))] (gset S j A1))) ∧ (¬ (v_X5_cell A1 3 48 (y4 + y7)) < place → (hAt D ad cI cJ cF p l e ({ frames := 3, cells := 0, slots := 0, locals := 68 } : Room) s m args below meth c (MQ below (hQi D ad cI cJ cF (v_X1_addStem A glyph place width) (gset S j (m_X1_addStem A glyph place width))) args s 0 0 (hAd ad)) 9 55 [(0, .ref (ad j 0)), (1, .int (hI glyph)), (2, .int (hI place)), (3, .int (hI width)), (4, .int (hI y4)), (5, .int (hI y5)), (6, .int (hI y6)), (7, .int (hI (y7 + 1)))] (gset S j A1)))))))) ∧ (¬ place < (v_X1_endOf A1 (y4 + y7)) → (((v_X5_cell A1 3 48 (y4 + y7)) < place → (hAt D ad cI cJ cF p l e ({ frames := 3, cells := 0, slots := 0, locals := 68 } : Room) s m args below meth c (MQ below (hQi D ad cI cJ cF (v_X1_addStem A glyph place width) (gset S j (m_X1_addStem A glyph place width))) args s 0 0 (hAd ad)) 9 55 [(0, .ref (ad j 0)), (1, .int (hI glyph)), (2, .int (hI place)), (3, .int (hI width)), (4, .int (hI y4)), (5, .int (hI y5)), (6, .int (hI (y6 + 1))), (7, .int (hI (y7 + 1)))] (gset S j A1))) ∧ (¬ (v_X5_cell A1 3 48 (y4 + y7)) < place → (hAt D ad cI cJ cF p l e ({ frames := 3, cells := 0, slots := 0, locals := 68 } : Room) s m args below meth c (MQ below (hQi D ad cI cJ cF (v_X1_addStem A glyph place width) (gset S j (m_X1_addStem A glyph place width))) args s 0 0 (hAd ad)) 9 55 [(0, .ref (ad j 0)), (1, .int (hI glyph)), (2, .int (hI place)), (3, .int (hI width)), (4, .int (hI y4)), (5, .int (hI y5)), (6, .int (hI y6)), (7, .int (hI (y7 + 1)))] (gset S j A1))))))))) ∧ (¬ y7 < y5 → ((y5 < 6 → (hAt D ad cI cJ cF p l e ({ frames := 3, cells := 0, slots := 0, locals := 68 } : Room) s m args below meth c (MQ below (hQi D ad cI cJ cF (v_X1_addStem A glyph place width) (gset S j (m_X1_addStem A glyph place width))) args s 0 0 (hAd ad)) 9 129 [(0, .ref (ad j 0)), (1, .int (hI glyph)), (2, .int (hI place)), (3, .int (hI width)), (4, .int (hI y4)), (5, .int (hI y5)), (6, .int (hI y6)), (7, .int (hI y5))] (gset S j A1))) ∧ (¬ y5 < 6 → ((-1000003) = v_X1_addStem A glyph place width ∧ A1 = m_X1_addStem A glyph place width)))))) → (hAt D ad cI cJ cF p l e ({ frames := 3, cells := 0, slots := 0, locals := 68 } : Room) s m args below meth c (MQ below (hQi D ad cI cJ cF (v_X1_addStem A glyph place width) (gset S j (m_X1_addStem A glyph place width))) args s 0 0 (hAd ad)) 9 55 [(0, .ref (ad j 0)), (1, .int (hI glyph)), (2, .int (hI place)), (3, .int (hI width)), (4, .int (hI y4)), (5, .int (hI y5)), (6, .int (hI y6)), (7, .int (hI y7))] (gset S j A1)) := by
    intro y4 y5 y6 y7 A1 h_y4 h_y5 h_y6 h_y7 h H locs ls hh hl
    have h := h (fun i k hi => hIn_rd hh.2.1 (gset_at _ _ _) hi)
    refine lv_iload hx hb dX1_addStem_55 (lv_at hl 7 rfl) ?_
    refine lv_iload hx hb dX1_addStem_57 (lv_at hl 5 rfl) ?_
    refine iv_icmp_ge (tgt := 115) hx hb h_y7 h_y5 dX1_addStem_59 (by decide) (fun c1 => ?_) (fun c1 => ?_)
    · have h := h.2 c1
      refine lv_iload hx hb dX1_addStem_115 (lv_at hl 5 rfl) ?_
      refine lv_bipush (v := hI 6) hx hb dX1_addStem_117 (by decide) ?_
      refine iv_icmp_lt (tgt := 125) hx hb h_y5 ⟨by decide, by decide⟩ dX1_addStem_119 (by decide) (fun c2 => ?_) (fun c2 => ?_)
      · have h := h.1 c2
        refine lv_iload hx hb dX1_addStem_125 (lv_at hl 5 rfl) ?_
        refine lv_istore (lv' := [(7, .int (hI y5)), (0, .ref (ad j 0)), (1, .int (hI glyph)), (2, .int (hI place)), (3, .int (hI width)), (4, .int (hI y4)), (5, .int (hI y5)), (6, .int (hI y6))]) hx hb dX1_addStem_127 hl (by decide) rfl (fun ls hl => ?_)
        exact h H _ ls hh (lv_sub hl [1, 2, 3, 4, 5, 6, 7, 0] rfl)
      · have h := h.2 c2
        refine iv_ldc (n := (-1000003)) hx hb (by decide) hown (hts _ q2_117) dX1_addStem_122 ?_
        exact iv_iret E hh h.1 (by rw [← h.1]; exact ⟨by decide, by decide⟩) (by rw [← h.2]) dX1_addStem_124
    · have h := h.1 c1
      refine lv_aload_n hx hb dX1_addStem_62 rfl (lv_at hl 0 rfl) ?_
      refine iv_get (v' := .ref (ad j 3)) hx hb hts inX1 hown hK hh.1 (ob_Font hj) rfl 6 (by decide) (hts _ q1_70) rfl rfl rfl dX1_addStem_63 ?_
      refine lv_iload hx hb dX1_addStem_66 (lv_at hl 4 rfl) ?_
      refine lv_iload hx hb dX1_addStem_68 (lv_at hl 7 rfl) ?_
      refine iv_iadd hx hb dX1_addStem_70 ?_
      obtain ⟨g3, h⟩ := h
      refine iv_ki (iv_rN (As := [.ref (ad j 3), .int (hI (y4 + y7))]) (rest := []) E hh (ok_X5_cell l hinj (gset S j A1) (ia_F_3 hj) A1 (gset_at _ _ _) (y4 + y7) g3) cb_X5_cell q2_10 rfl rfl ⟨Nat.le_of_ble_eq_true rfl, Nat.le_of_ble_eq_true rfl⟩ rfl hl.1 rfl (Nat.le_of_ble_eq_true rfl) dX1_addStem_71 ⟨Nat.zero_le _, Nat.zero_le _⟩) hh (fun hc4 H locs hh => ?_)
      refine lv_istore (lv' := [(8, .int (hI (v_X5_cell A1 3 48 (y4 + y7)))), (0, .ref (ad j 0)), (1, .int (hI glyph)), (2, .int (hI place)), (3, .int (hI width)), (4, .int (hI y4)), (5, .int (hI y5)), (6, .int (hI y6)), (7, .int (hI y7))]) hx hb dX1_addStem_74 hl (by decide) rfl (fun ls hl => ?_)
      refine lv_iload_n hx hb dX1_addStem_76 rfl (lv_at hl 3 rfl) ?_
      refine lv_aload_n hx hb dX1_addStem_77 rfl (lv_at hl 1 rfl) ?_
      refine lv_iload hx hb dX1_addStem_78 (lv_at hl 5 rfl) ?_
      refine lv_iload hx hb dX1_addStem_80 (lv_at hl 8 rfl) ?_
      refine iv_iadd hx hb dX1_addStem_82 ?_
      obtain ⟨g5, h⟩ := h
      refine iv_ki (iv_rV (As := [.int (hI (y4 + y7))]) (rest := [.int (hI place)]) E hh (ok_X1_endOf l hinj (gset S j A1) hj A1 (gset_at _ _ _) (y4 + y7) g3 g5) cb_X1_endOf q2_143 rfl rfl ⟨Nat.le_of_ble_eq_true rfl, Nat.le_of_ble_eq_true rfl⟩ (ob_Font hj) rfl rfl rfl hl.1 rfl (Nat.le_of_ble_eq_true rfl) dX1_addStem_83 ⟨Nat.zero_le _, Nat.zero_le _⟩) hh (fun hc6 H locs hh => ?_)
      refine iv_icmp_ge (tgt := 100) hx hb h_place hc6 dX1_addStem_86 (by decide) (fun c7 => ?_) (fun c7 => ?_)
      · have h := h.2 c7
        refine lv_iload hx hb dX1_addStem_100 (lv_at hl 0 rfl) ?_
        refine lv_iload_n hx hb dX1_addStem_102 rfl (lv_at hl 3 rfl) ?_
        refine iv_icmp_ge (tgt := 109) hx hb hc4 h_place dX1_addStem_103 (by decide) (fun c8 => ?_) (fun c8 => ?_)
        · have h := h.2 c8
          refine iv_iinc (lv' := [(7, .int (hI (y7 + 1))), (8, .int (hI (v_X5_cell A1 3 48 (y4 + y7)))), (0, .ref (ad j 0)), (1, .int (hI glyph)), (2, .int (hI place)), (3, .int (hI width)), (4, .int (hI y4)), (5, .int (hI y5)), (6, .int (hI y6))]) hx hb dX1_addStem_109 hl (k := 8) rfl (v := (y7 + 1)) rfl (by decide) rfl (fun ls hl => ?_)
          refine lv_goto (tgt := 55) hx hb dX1_addStem_112 (by decide) ?_
          exact h H _ ls hh (lv_sub hl [2, 3, 4, 5, 6, 7, 8, 0] rfl)
        · have h := h.1 c8
          refine iv_iinc (lv' := [(6, .int (hI (y6 + 1))), (8, .int (hI (v_X5_cell A1 3 48 (y4 + y7)))), (0, .ref (ad j 0)), (1, .int (hI glyph)), (2, .int (hI place)), (3, .int (hI width)), (4, .int (hI y4)), (5, .int (hI y5)), (7, .int (hI y7))]) hx hb dX1_addStem_106 hl (k := 7) rfl (v := (y6 + 1)) rfl (by decide) rfl (fun ls hl => ?_)
          refine iv_iinc (lv' := [(7, .int (hI (y7 + 1))), (6, .int (hI (y6 + 1))), (8, .int (hI (v_X5_cell A1 3 48 (y4 + y7)))), (0, .ref (ad j 0)), (1, .int (hI glyph)), (2, .int (hI place)), (3, .int (hI width)), (4, .int (hI y4)), (5, .int (hI y5))]) hx hb dX1_addStem_109 hl (k := 8) rfl (v := (y7 + 1)) rfl (by decide) rfl (fun ls hl => ?_)
          refine lv_goto (tgt := 55) hx hb dX1_addStem_112 (by decide) ?_
          exact h H _ ls hh (lv_sub hl [3, 4, 5, 6, 7, 8, 1, 0] rfl)
      · have h := h.1 c7
        refine lv_iload hx hb dX1_addStem_89 (lv_at hl 0 rfl) ?_
        refine lv_iload_n hx hb dX1_addStem_91 rfl (lv_at hl 3 rfl) ?_
        refine lv_iload_n hx hb dX1_addStem_92 rfl (lv_at hl 4 rfl) ?_
        refine iv_iadd hx hb dX1_addStem_93 ?_
        obtain ⟨g9, h⟩ := h
        refine iv_icmp_ge (tgt := 100) hx hb hc4 g9 dX1_addStem_94 (by decide) (fun c10 => ?_) (fun c10 => ?_)
        · have h := h.2 c10
          refine lv_iload hx hb dX1_addStem_100 (lv_at hl 0 rfl) ?_
          refine lv_iload_n hx hb dX1_addStem_102 rfl (lv_at hl 3 rfl) ?_
          refine iv_icmp_ge (tgt := 109) hx hb hc4 h_place dX1_addStem_103 (by decide) (fun c11 => ?_) (fun c11 => ?_)
          · have h := h.2 c11
            refine iv_iinc (lv' := [(7, .int (hI (y7 + 1))), (8, .int (hI (v_X5_cell A1 3 48 (y4 + y7)))), (0, .ref (ad j 0)), (1, .int (hI glyph)), (2, .int (hI place)), (3, .int (hI width)), (4, .int (hI y4)), (5, .int (hI y5)), (6, .int (hI y6))]) hx hb dX1_addStem_109 hl (k := 8) rfl (v := (y7 + 1)) rfl (by decide) rfl (fun ls hl => ?_)
            refine lv_goto (tgt := 55) hx hb dX1_addStem_112 (by decide) ?_
            exact h H _ ls hh (lv_sub hl [2, 3, 4, 5, 6, 7, 8, 0] rfl)
          · have h := h.1 c11
            refine iv_iinc (lv' := [(6, .int (hI (y6 + 1))), (8, .int (hI (v_X5_cell A1 3 48 (y4 + y7)))), (0, .ref (ad j 0)), (1, .int (hI glyph)), (2, .int (hI place)), (3, .int (hI width)), (4, .int (hI y4)), (5, .int (hI y5)), (7, .int (hI y7))]) hx hb dX1_addStem_106 hl (k := 7) rfl (v := (y6 + 1)) rfl (by decide) rfl (fun ls hl => ?_)
            refine iv_iinc (lv' := [(7, .int (hI (y7 + 1))), (6, .int (hI (y6 + 1))), (8, .int (hI (v_X5_cell A1 3 48 (y4 + y7)))), (0, .ref (ad j 0)), (1, .int (hI glyph)), (2, .int (hI place)), (3, .int (hI width)), (4, .int (hI y4)), (5, .int (hI y5))]) hx hb dX1_addStem_109 hl (k := 8) rfl (v := (y7 + 1)) rfl (by decide) rfl (fun ls hl => ?_)
            refine lv_goto (tgt := 55) hx hb dX1_addStem_112 (by decide) ?_
            exact h H _ ls hh (lv_sub hl [3, 4, 5, 6, 7, 8, 1, 0] rfl)
        · have h := h.1 c10
          refine iv_ldc (n := (-1000002)) hx hb (by decide) hown (hts _ q2_144) dX1_addStem_97 ?_
          exact iv_iret E hh h.1 (by rw [← h.1]; exact ⟨by decide, by decide⟩) (by rw [← h.2]) dX1_addStem_99
  have r129 : ∀ (y4 : Int) (y5 : Int) (y6 : Int) (y7 : Int) (A1 : hGM), hIn y4 → hIn y5 → hIn y6 → hIn y7 → ((∀ (i : Nat) (k : Int), i < 100 → hIn (A1 i k)) → ((y7 ≤ y6 → (hIn (y4 + y6) ∧ (hIn (y5 + 1) ∧ (y6 = v_X1_addStem A glyph place width ∧ (m_X5_put (m_X1_putStem A1 (y4 + y6) place width 0) 2 8 glyph (y5 + 1)) = m_X1_addStem A glyph place width)))) ∧ (¬ y7 ≤ y6 → (hIn ((y4 + y7) - 1) ∧ (hIn (y4 + y7) ∧ (hAt D ad cI cJ cF p l e ({ frames := 3, cells := 0, slots := 0, locals := 68 } : Room) s m args below meth c (MQ below (hQi D ad cI cJ cF (v_X1_addStem A glyph place width) (gset S j (m_X1_addStem A glyph place width))) args s 0 0 (hAd ad)) 9 129 [(0, .ref (ad j 0)), (1, .int (hI glyph)), (2, .int (hI place)), (3, .int (hI width)), (4, .int (hI y4)), (5, .int (hI y5)), (6, .int (hI y6)), (7, .int (hI (y7 + (-1))))] (gset S j (m_X1_moveStem A1 ((y4 + y7) - 1) (y4 + y7))))))))) → (hAt D ad cI cJ cF p l e ({ frames := 3, cells := 0, slots := 0, locals := 68 } : Room) s m args below meth c (MQ below (hQi D ad cI cJ cF (v_X1_addStem A glyph place width) (gset S j (m_X1_addStem A glyph place width))) args s 0 0 (hAd ad)) 9 129 [(0, .ref (ad j 0)), (1, .int (hI glyph)), (2, .int (hI place)), (3, .int (hI width)), (4, .int (hI y4)), (5, .int (hI y5)), (6, .int (hI y6)), (7, .int (hI y7))] (gset S j A1)) := by
    intro y4 y5 y6 y7 A1 h_y4 h_y5 h_y6 h_y7 h H locs ls hh hl
    have h := h (fun i k hi => hIn_rd hh.2.1 (gset_at _ _ _) hi)
    refine lv_iload hx hb dX1_addStem_129 (lv_at hl 7 rfl) ?_
    refine lv_iload hx hb dX1_addStem_131 (lv_at hl 6 rfl) ?_
    refine iv_icmp_le (tgt := 158) hx hb h_y7 h_y6 dX1_addStem_133 (by decide) (fun c12 => ?_) (fun c12 => ?_)
    · have h := h.1 c12
      refine lv_aload_n hx hb dX1_addStem_158 rfl (lv_at hl 0 rfl) ?_
      refine lv_iload hx hb dX1_addStem_159 (lv_at hl 4 rfl) ?_
      refine lv_iload hx hb dX1_addStem_161 (lv_at hl 6 rfl) ?_
      refine iv_iadd hx hb dX1_addStem_163 ?_
      refine lv_iload_n hx hb dX1_addStem_164 rfl (lv_at hl 2 rfl) ?_
      refine lv_iload_n hx hb dX1_addStem_165 rfl (lv_at hl 3 rfl) ?_
      refine iv_iconst hx hb dX1_addStem_166 ?_
      obtain ⟨g13, h⟩ := h
      refine iv_kv (iv_rV (As := [.int (hI (y4 + y6)), .int (hI place), .int (hI width), .int (hI 0)]) (rest := []) E hh (ok_X1_putStem l hinj (gset S j A1) hj A1 (gset_at _ _ _) (y4 + y6) place width 0 g13 h_place h_width ⟨by decide, by decide⟩) cb_X1_putStem q2_149 rfl rfl ⟨Nat.le_of_ble_eq_true rfl, Nat.le_of_ble_eq_true rfl⟩ (ob_Font hj) rfl rfl rfl hl.1 rfl (Nat.le_of_ble_eq_true rfl) dX1_addStem_167 ⟨Nat.zero_le _, Nat.zero_le _⟩) hh (fun H locs hh => ?_)
      replace hh : hH D ad cI cJ cF (gset S j (m_X1_putStem A1 (y4 + y6) place width 0)) s H locs := by rw [← show _ = (gset S j (m_X1_putStem A1 (y4 + y6) place width 0)) from (gset_gset _ _ _ _)]; exact hh
      refine lv_aload_n hx hb dX1_addStem_170 rfl (lv_at hl 0 rfl) ?_
      refine iv_get (v' := .ref (ad j 2)) hx hb hts inX1 hown hK hh.1 (ob_Font hj) rfl 5 (by decide) (hts _ q1_68) rfl rfl rfl dX1_addStem_171 ?_
      refine lv_iload_n hx hb dX1_addStem_174 rfl (lv_at hl 1 rfl) ?_
      refine lv_iload hx hb dX1_addStem_175 (lv_at hl 5 rfl) ?_
      refine iv_iconst hx hb dX1_addStem_177 ?_
      refine iv_iadd hx hb dX1_addStem_178 ?_
      obtain ⟨g14, h⟩ := h
      refine iv_kv (iv_rN (As := [.ref (ad j 2), .int (hI glyph), .int (hI (y5 + 1))]) (rest := []) E hh (ok_X5_put l hinj (gset S j (m_X1_putStem A1 (y4 + y6) place width 0)) (ia_F_2 hj) (m_X1_putStem A1 (y4 + y6) place width 0) (gset_at _ _ _) glyph (y5 + 1) h_glyph g14) cb_X5_put q2_118 rfl rfl ⟨Nat.le_of_ble_eq_true rfl, Nat.le_of_ble_eq_true rfl⟩ rfl hl.1 rfl (Nat.le_of_ble_eq_true rfl) dX1_addStem_179 ⟨Nat.zero_le _, Nat.zero_le _⟩) hh (fun H locs hh => ?_)
      replace hh : hH D ad cI cJ cF (gset S j (m_X5_put (m_X1_putStem A1 (y4 + y6) place width 0) 2 8 glyph (y5 + 1))) s H locs := by rw [← show _ = (gset S j (m_X5_put (m_X1_putStem A1 (y4 + y6) place width 0) 2 8 glyph (y5 + 1))) from (gset_gset _ _ _ _)]; exact hh
      refine lv_iload hx hb dX1_addStem_182 (lv_at hl 6 rfl) ?_
      exact iv_iret E hh h.1 (by rw [← h.1]; exact h_y6) (by rw [← h.2]) dX1_addStem_184
    · have h := h.2 c12
      refine lv_aload_n hx hb dX1_addStem_136 rfl (lv_at hl 0 rfl) ?_
      refine lv_iload hx hb dX1_addStem_137 (lv_at hl 4 rfl) ?_
      refine lv_iload hx hb dX1_addStem_139 (lv_at hl 7 rfl) ?_
      refine iv_iadd hx hb dX1_addStem_141 ?_
      refine iv_iconst hx hb dX1_addStem_142 ?_
      refine iv_isub hx hb dX1_addStem_143 ?_
      refine lv_iload hx hb dX1_addStem_144 (lv_at hl 4 rfl) ?_
      refine lv_iload hx hb dX1_addStem_146 (lv_at hl 7 rfl) ?_
      refine iv_iadd hx hb dX1_addStem_148 ?_
      obtain ⟨g15, h⟩ := h
      obtain ⟨g16, h⟩ := h
      refine iv_kv (iv_rV (As := [.int (hI ((y4 + y7) - 1)), .int (hI (y4 + y7))]) (rest := []) E hh (ok_X1_moveStem l hinj (gset S j A1) hj A1 (gset_at _ _ _) ((y4 + y7) - 1) (y4 + y7) g15 g16) cb_X1_moveStem q2_145 rfl rfl ⟨Nat.le_of_ble_eq_true rfl, Nat.le_of_ble_eq_true rfl⟩ (ob_Font hj) rfl rfl rfl hl.1 rfl (Nat.le_of_ble_eq_true rfl) dX1_addStem_149 ⟨Nat.zero_le _, Nat.zero_le _⟩) hh (fun H locs hh => ?_)
      replace hh : hH D ad cI cJ cF (gset S j (m_X1_moveStem A1 ((y4 + y7) - 1) (y4 + y7))) s H locs := by rw [← show _ = (gset S j (m_X1_moveStem A1 ((y4 + y7) - 1) (y4 + y7))) from (gset_gset _ _ _ _)]; exact hh
      refine iv_iinc (lv' := [(7, .int (hI (y7 + (-1)))), (0, .ref (ad j 0)), (1, .int (hI glyph)), (2, .int (hI place)), (3, .int (hI width)), (4, .int (hI y4)), (5, .int (hI y5)), (6, .int (hI y6))]) hx hb dX1_addStem_152 hl (k := 7) rfl (v := (y7 + (-1))) rfl (by decide) rfl (fun ls hl => ?_)
      refine lv_goto (tgt := 129) hx hb dX1_addStem_155 (by decide) ?_
      exact h H _ ls hh (lv_sub hl [1, 2, 3, 4, 5, 6, 7, 0] rfl)
  intro H locs ls hh hl
  have hl : lv_has ls 9 [(0, .ref (ad j 0)), (1, .int (hI glyph)), (2, .int (hI place)), (3, .int (hI width))] := hl
  replace hh : hH D ad cI cJ cF (gset S j A) s H locs := by rw [← can1 hA]; exact hh
  have h := x_X1_addStem A glyph place width h_glyph h_place h_width (fun i k hi => hIn_rd hh.2.1 (gset_at _ _ _) hi) hp (fun y4 y5 y6 y7 A1 => (hAt D ad cI cJ cF p l e ({ frames := 3, cells := 0, slots := 0, locals := 68 } : Room) s m args below meth c (MQ below (hQi D ad cI cJ cF (v_X1_addStem A glyph place width) (gset S j (m_X1_addStem A glyph place width))) args s 0 0 (hAd ad)) 9 55 [(0, .ref (ad j 0)), (1, .int (hI glyph)), (2, .int (hI place)), (3, .int (hI width)), (4, .int (hI y4)), (5, .int (hI y5)), (6, .int (hI y6)), (7, .int (hI y7))] (gset S j A1))) (fun y4 y5 y6 y7 A1 => (hAt D ad cI cJ cF p l e ({ frames := 3, cells := 0, slots := 0, locals := 68 } : Room) s m args below meth c (MQ below (hQi D ad cI cJ cF (v_X1_addStem A glyph place width) (gset S j (m_X1_addStem A glyph place width))) args s 0 0 (hAd ad)) 9 129 [(0, .ref (ad j 0)), (1, .int (hI glyph)), (2, .int (hI place)), (3, .int (hI width)), (4, .int (hI y4)), (5, .int (hI y5)), (6, .int (hI y6)), (7, .int (hI y7))] (gset S j A1))) (fun r A1 => (r = v_X1_addStem A glyph place width ∧ A1 = m_X1_addStem A glyph place width)) r55 r129 ⟨rfl, rfl⟩
  refine lv_aload_n hx hb dX1_addStem_0 rfl (lv_at hl 0 rfl) ?_
  refine lv_iload_n hx hb dX1_addStem_1 rfl (lv_at hl 1 rfl) ?_
  obtain ⟨g17, h⟩ := h
  refine iv_ki (iv_rV (As := [.int (hI glyph)]) (rest := []) E hh (ok_X1_hasGlyph l hinj (gset S j A) hj A (gset_at _ _ _) glyph h_glyph g17) cb_X1_hasGlyph q2_139 rfl rfl ⟨Nat.le_of_ble_eq_true rfl, Nat.le_of_ble_eq_true rfl⟩ (ob_Font hj) rfl rfl rfl hl.1 rfl (Nat.le_of_ble_eq_true rfl) dX1_addStem_2 ⟨Nat.zero_le _, Nat.zero_le _⟩) hh (fun hc18 H locs hh => ?_)
  refine iv_if_eq (tgt := 30) hx hb hc18 dX1_addStem_5 (by decide) (fun c19 => ?_) (fun c19 => ?_)
  · have h := h.1 c19
    refine iv_ldc (n := (-1000001)) hx hb (by decide) hown (hts _ q2_116) dX1_addStem_30 ?_
    exact iv_iret E hh h.1 (by rw [← h.1]; exact ⟨by decide, by decide⟩) (by rw [← h.2]) dX1_addStem_32
  · have h := h.2 c19
    refine lv_iload_n hx hb dX1_addStem_8 rfl (lv_at hl 2 rfl) ?_
    refine iv_iconst hx hb dX1_addStem_9 ?_
    refine lv_sipush (v := hI 999) hx hb dX1_addStem_10 (by decide) ?_
    refine iv_ki (iv_rN (As := [.int (hI place), .int (hI 0), .int (hI 999)]) (rest := []) E hh (ok_X5_within l hinj (gset S j A) place 0 999 h_place ⟨by decide, by decide⟩ ⟨by decide, by decide⟩) cb_X5_within q2_115 rfl rfl ⟨Nat.le_of_ble_eq_true rfl, Nat.le_of_ble_eq_true rfl⟩ rfl hl.1 rfl (Nat.le_of_ble_eq_true rfl) dX1_addStem_13 ⟨Nat.zero_le _, Nat.zero_le _⟩) hh (fun hc20 H locs hh => ?_)
    refine iv_if_eq (tgt := 30) hx hb hc20 dX1_addStem_16 (by decide) (fun c21 => ?_) (fun c21 => ?_)
    · have h := h.1 c21
      refine iv_ldc (n := (-1000001)) hx hb (by decide) hown (hts _ q2_116) dX1_addStem_30 ?_
      exact iv_iret E hh h.1 (by rw [← h.1]; exact ⟨by decide, by decide⟩) (by rw [← h.2]) dX1_addStem_32
    · have h := h.2 c21
      refine lv_iload_n hx hb dX1_addStem_19 rfl (lv_at hl 3 rfl) ?_
      refine iv_iconst hx hb dX1_addStem_20 ?_
      refine lv_sipush (v := hI 300) hx hb dX1_addStem_21 (by decide) ?_
      refine iv_ki (iv_rN (As := [.int (hI width), .int (hI 1), .int (hI 300)]) (rest := []) E hh (ok_X5_within l hinj (gset S j A) width 1 300 h_width ⟨by decide, by decide⟩ ⟨by decide, by decide⟩) cb_X5_within q2_115 rfl rfl ⟨Nat.le_of_ble_eq_true rfl, Nat.le_of_ble_eq_true rfl⟩ rfl hl.1 rfl (Nat.le_of_ble_eq_true rfl) dX1_addStem_24 ⟨Nat.zero_le _, Nat.zero_le _⟩) hh (fun hc22 H locs hh => ?_)
      refine iv_if_ne (tgt := 33) hx hb hc22 dX1_addStem_27 (by decide) (fun c23 => ?_) (fun c23 => ?_)
      · have h := h.2 c23
        refine lv_iload_n hx hb dX1_addStem_33 rfl (lv_at hl 1 rfl) ?_
        refine lv_bipush (v := hI 6) hx hb dX1_addStem_34 (by decide) ?_
        refine iv_imul hx hb dX1_addStem_36 ?_
        refine lv_istore (lv' := [(4, .int (hI (glyph * 6))), (0, .ref (ad j 0)), (1, .int (hI glyph)), (2, .int (hI place)), (3, .int (hI width))]) hx hb dX1_addStem_37 hl (by decide) rfl (fun ls hl => ?_)
        refine lv_aload_n hx hb dX1_addStem_39 rfl (lv_at hl 1 rfl) ?_
        refine iv_get (v' := .ref (ad j 2)) hx hb hts inX1 hown hK hh.1 (ob_Font hj) rfl 5 (by decide) (hts _ q1_68) rfl rfl rfl dX1_addStem_40 ?_
        refine lv_iload_n hx hb dX1_addStem_43 rfl (lv_at hl 2 rfl) ?_
        refine iv_ki (iv_rN (As := [.ref (ad j 2), .int (hI glyph)]) (rest := []) E hh (ok_X5_cell l hinj (gset S j A) (ia_F_2 hj) A (gset_at _ _ _) glyph h_glyph) cb_X5_cell q2_10 rfl rfl ⟨Nat.le_of_ble_eq_true rfl, Nat.le_of_ble_eq_true rfl⟩ rfl hl.1 rfl (Nat.le_of_ble_eq_true rfl) dX1_addStem_44 ⟨Nat.zero_le _, Nat.zero_le _⟩) hh (fun hc24 H locs hh => ?_)
        refine lv_istore (lv' := [(5, .int (hI (v_X5_cell A 2 8 glyph))), (4, .int (hI (glyph * 6))), (0, .ref (ad j 0)), (1, .int (hI glyph)), (2, .int (hI place)), (3, .int (hI width))]) hx hb dX1_addStem_47 hl (by decide) rfl (fun ls hl => ?_)
        refine iv_iconst hx hb dX1_addStem_49 ?_
        refine lv_istore (lv' := [(6, .int (hI 0)), (5, .int (hI (v_X5_cell A 2 8 glyph))), (4, .int (hI (glyph * 6))), (0, .ref (ad j 0)), (1, .int (hI glyph)), (2, .int (hI place)), (3, .int (hI width))]) hx hb dX1_addStem_50 hl (by decide) rfl (fun ls hl => ?_)
        refine iv_iconst hx hb dX1_addStem_52 ?_
        refine lv_istore (lv' := [(7, .int (hI 0)), (6, .int (hI 0)), (5, .int (hI (v_X5_cell A 2 8 glyph))), (4, .int (hI (glyph * 6))), (0, .ref (ad j 0)), (1, .int (hI glyph)), (2, .int (hI place)), (3, .int (hI width))]) hx hb dX1_addStem_53 hl (by decide) rfl (fun ls hl => ?_)
        exact h H _ ls hh (lv_sub hl [4, 5, 6, 7, 3, 2, 1, 0] rfl)
      · have h := h.1 c23
        refine iv_ldc (n := (-1000001)) hx hb (by decide) hown (hts _ q2_116) dX1_addStem_30 ?_
        exact iv_iret E hh h.1 (by rw [← h.1]; exact ⟨by decide, by decide⟩) (by rw [← h.2]) dX1_addStem_32
set_option maxHeartbeats 4000000 in
set_option maxRecDepth 100000 in
theorem ok_X1_cutStem (l : Launch) (hinj : hInj ad) (S : hS) {j : Nat} (hj : j < 7) (A : hGM) (hA : S j = A) (glyph : Int) (stem : Int) (h_glyph : hIn glyph) (h_stem : hIn stem) (hp : p_X1_cutStem A glyph stem) : hMi D ad cI cJ cF l yX1_cutStem cX1_cutStem 6 (some .int) ({ frames := 3, cells := 0, slots := 0, locals := 68 } : Room) [.ref (ad j 0), .int (hI glyph), .int (hI stem)] S (v_X1_cutStem A glyph stem) (gset S j (m_X1_cutStem A glyph stem)) := by
  refine hOf (S := S) l hinj (by decide +kernel) (Nat.le_of_ble_eq_true rfl) (fun p e s m args below meth c E => ?_)
  obtain ⟨hx, hb, hml, hown, hts, hK, hN, -, hr, hlk, hz⟩ := id E
  have hown : s.vm.findClass RX1 = some m.cls := hown
  have r32 : ∀ (y3 : Int) (y4 : Int) (y5 : Int) (A1 : hGM), hIn y3 → hIn y4 → hIn y5 → ((∀ (i : Nat) (k : Int), i < 100 → hIn (A1 i k)) → ((y5 < y4 → (hIn ((y3 + y5) + 1) ∧ (hIn (y3 + y5) ∧ (hAt D ad cI cJ cF p l e ({ frames := 3, cells := 0, slots := 0, locals := 68 } : Room) s m args below meth c (MQ below (hQi D ad cI cJ cF (v_X1_cutStem A glyph stem) (gset S j (m_X1_cutStem A glyph stem))) args s 0 0 (hAd ad)) 6 32 [(0, .ref (ad j 0)), (1, .int (hI glyph)), (3, .int (hI y3)), (4, .int (hI y4)), (5, .int (hI (y5 + 1)))] (gset S j (m_X1_moveStem A1 ((y3 + y5) + 1) (y3 + y5))))))) ∧ (¬ y5 < y4 → (hIn (y3 + y4) ∧ (y4 = v_X1_cutStem A glyph stem ∧ (m_X5_put (m_X1_putStem A1 (y3 + y4) 0 0 0) 2 8 glyph y4) = m_X1_cutStem A glyph stem))))) → (hAt D ad cI cJ cF p l e ({ frames := 3, cells := 0, slots := 0, locals := 68 } : Room) s m args below meth c (MQ below (hQi D ad cI cJ cF (v_X1_cutStem A glyph stem) (gset S j (m_X1_cutStem A glyph stem))) args s 0 0 (hAd ad)) 6 32 [(0, .ref (ad j 0)), (1, .int (hI glyph)), (3, .int (hI y3)), (4, .int (hI y4)), (5, .int (hI y5))] (gset S j A1)) := by
    intro y3 y4 y5 A1 h_y3 h_y4 h_y5 h H locs ls hh hl
    have h := h (fun i k hi => hIn_rd hh.2.1 (gset_at _ _ _) hi)
    refine lv_iload hx hb dX1_cutStem_32 (lv_at hl 4 rfl) ?_
    refine lv_iload hx hb dX1_cutStem_34 (lv_at hl 3 rfl) ?_
    refine iv_icmp_ge (tgt := 59) hx hb h_y5 h_y4 dX1_cutStem_36 (by decide) (fun c1 => ?_) (fun c1 => ?_)
    · have h := h.2 c1
      refine lv_aload_n hx hb dX1_cutStem_59 rfl (lv_at hl 0 rfl) ?_
      refine lv_iload_n hx hb dX1_cutStem_60 rfl (lv_at hl 2 rfl) ?_
      refine lv_iload hx hb dX1_cutStem_61 (lv_at hl 3 rfl) ?_
      refine iv_iadd hx hb dX1_cutStem_63 ?_
      refine iv_iconst hx hb dX1_cutStem_64 ?_
      refine iv_iconst hx hb dX1_cutStem_65 ?_
      refine iv_iconst hx hb dX1_cutStem_66 ?_
      obtain ⟨g2, h⟩ := h
      refine iv_kv (iv_rV (As := [.int (hI (y3 + y4)), .int (hI 0), .int (hI 0), .int (hI 0)]) (rest := []) E hh (ok_X1_putStem l hinj (gset S j A1) hj A1 (gset_at _ _ _) (y3 + y4) 0 0 0 g2 ⟨by decide, by decide⟩ ⟨by decide, by decide⟩ ⟨by decide, by decide⟩) cb_X1_putStem q2_149 rfl rfl ⟨Nat.le_of_ble_eq_true rfl, Nat.le_of_ble_eq_true rfl⟩ (ob_Font hj) rfl rfl rfl hl.1 rfl (Nat.le_of_ble_eq_true rfl) dX1_cutStem_67 ⟨Nat.zero_le _, Nat.zero_le _⟩) hh (fun H locs hh => ?_)
      replace hh : hH D ad cI cJ cF (gset S j (m_X1_putStem A1 (y3 + y4) 0 0 0)) s H locs := by rw [← show _ = (gset S j (m_X1_putStem A1 (y3 + y4) 0 0 0)) from (gset_gset _ _ _ _)]; exact hh
      refine lv_aload_n hx hb dX1_cutStem_70 rfl (lv_at hl 0 rfl) ?_
      refine iv_get (v' := .ref (ad j 2)) hx hb hts inX1 hown hK hh.1 (ob_Font hj) rfl 5 (by decide) (hts _ q1_68) rfl rfl rfl dX1_cutStem_71 ?_
      refine lv_iload_n hx hb dX1_cutStem_74 rfl (lv_at hl 1 rfl) ?_
      refine lv_iload hx hb dX1_cutStem_75 (lv_at hl 3 rfl) ?_
      refine iv_kv (iv_rN (As := [.ref (ad j 2), .int (hI glyph), .int (hI y4)]) (rest := []) E hh (ok_X5_put l hinj (gset S j (m_X1_putStem A1 (y3 + y4) 0 0 0)) (ia_F_2 hj) (m_X1_putStem A1 (y3 + y4) 0 0 0) (gset_at _ _ _) glyph y4 h_glyph h_y4) cb_X5_put q2_118 rfl rfl ⟨Nat.le_of_ble_eq_true rfl, Nat.le_of_ble_eq_true rfl⟩ rfl hl.1 rfl (Nat.le_of_ble_eq_true rfl) dX1_cutStem_77 ⟨Nat.zero_le _, Nat.zero_le _⟩) hh (fun H locs hh => ?_)
      replace hh : hH D ad cI cJ cF (gset S j (m_X5_put (m_X1_putStem A1 (y3 + y4) 0 0 0) 2 8 glyph y4)) s H locs := by rw [← show _ = (gset S j (m_X5_put (m_X1_putStem A1 (y3 + y4) 0 0 0) 2 8 glyph y4)) from (gset_gset _ _ _ _)]; exact hh
      refine lv_iload hx hb dX1_cutStem_80 (lv_at hl 3 rfl) ?_
      exact iv_iret E hh h.1 (by rw [← h.1]; exact h_y4) (by rw [← h.2]) dX1_cutStem_82
    · have h := h.1 c1
      refine lv_aload_n hx hb dX1_cutStem_39 rfl (lv_at hl 0 rfl) ?_
      refine lv_iload_n hx hb dX1_cutStem_40 rfl (lv_at hl 2 rfl) ?_
      refine lv_iload hx hb dX1_cutStem_41 (lv_at hl 4 rfl) ?_
      refine iv_iadd hx hb dX1_cutStem_43 ?_
      refine iv_iconst hx hb dX1_cutStem_44 ?_
      refine iv_iadd hx hb dX1_cutStem_45 ?_
      refine lv_iload_n hx hb dX1_cutStem_46 rfl (lv_at hl 2 rfl) ?_
      refine lv_iload hx hb dX1_cutStem_47 (lv_at hl 4 rfl) ?_
      refine iv_iadd hx hb dX1_cutStem_49 ?_
      obtain ⟨g3, h⟩ := h
      obtain ⟨g4, h⟩ := h
      refine iv_kv (iv_rV (As := [.int (hI ((y3 + y5) + 1)), .int (hI (y3 + y5))]) (rest := []) E hh (ok_X1_moveStem l hinj (gset S j A1) hj A1 (gset_at _ _ _) ((y3 + y5) + 1) (y3 + y5) g3 g4) cb_X1_moveStem q2_145 rfl rfl ⟨Nat.le_of_ble_eq_true rfl, Nat.le_of_ble_eq_true rfl⟩ (ob_Font hj) rfl rfl rfl hl.1 rfl (Nat.le_of_ble_eq_true rfl) dX1_cutStem_50 ⟨Nat.zero_le _, Nat.zero_le _⟩) hh (fun H locs hh => ?_)
      replace hh : hH D ad cI cJ cF (gset S j (m_X1_moveStem A1 ((y3 + y5) + 1) (y3 + y5))) s H locs := by rw [← show _ = (gset S j (m_X1_moveStem A1 ((y3 + y5) + 1) (y3 + y5))) from (gset_gset _ _ _ _)]; exact hh
      refine iv_iinc (lv' := [(5, .int (hI (y5 + 1))), (0, .ref (ad j 0)), (1, .int (hI glyph)), (3, .int (hI y3)), (4, .int (hI y4))]) hx hb dX1_cutStem_53 hl (k := 4) rfl (v := (y5 + 1)) rfl (by decide) rfl (fun ls hl => ?_)
      refine lv_goto (tgt := 32) hx hb dX1_cutStem_56 (by decide) ?_
      exact h H _ ls hh (lv_sub hl [1, 2, 3, 4, 0] rfl)
  intro H locs ls hh hl
  have hl : lv_has ls 6 [(0, .ref (ad j 0)), (1, .int (hI glyph)), (2, .int (hI stem))] := hl
  replace hh : hH D ad cI cJ cF (gset S j A) s H locs := by rw [← can1 hA]; exact hh
  have h := x_X1_cutStem A glyph stem h_glyph h_stem (fun i k hi => hIn_rd hh.2.1 (gset_at _ _ _) hi) hp (fun y3 y4 y5 A1 => (hAt D ad cI cJ cF p l e ({ frames := 3, cells := 0, slots := 0, locals := 68 } : Room) s m args below meth c (MQ below (hQi D ad cI cJ cF (v_X1_cutStem A glyph stem) (gset S j (m_X1_cutStem A glyph stem))) args s 0 0 (hAd ad)) 6 32 [(0, .ref (ad j 0)), (1, .int (hI glyph)), (3, .int (hI y3)), (4, .int (hI y4)), (5, .int (hI y5))] (gset S j A1))) (fun r A1 => (r = v_X1_cutStem A glyph stem ∧ A1 = m_X1_cutStem A glyph stem)) r32 ⟨rfl, rfl⟩
  refine lv_aload_n hx hb dX1_cutStem_0 rfl (lv_at hl 0 rfl) ?_
  refine lv_iload_n hx hb dX1_cutStem_1 rfl (lv_at hl 1 rfl) ?_
  refine lv_iload_n hx hb dX1_cutStem_2 rfl (lv_at hl 2 rfl) ?_
  obtain ⟨g5, h⟩ := h
  refine iv_ki (iv_rV (As := [.int (hI glyph), .int (hI stem)]) (rest := []) E hh (ok_X1_hasStem l hinj (gset S j A) hj A (gset_at _ _ _) glyph stem h_glyph h_stem g5) cb_X1_hasStem q2_162 rfl rfl ⟨Nat.le_of_ble_eq_true rfl, Nat.le_of_ble_eq_true rfl⟩ (ob_Font hj) rfl rfl rfl hl.1 rfl (Nat.le_of_ble_eq_true rfl) dX1_cutStem_3 ⟨Nat.zero_le _, Nat.zero_le _⟩) hh (fun hc6 H locs hh => ?_)
  refine iv_if_ne (tgt := 12) hx hb hc6 dX1_cutStem_6 (by decide) (fun c7 => ?_) (fun c7 => ?_)
  · have h := h.2 c7
    refine lv_iload_n hx hb dX1_cutStem_12 rfl (lv_at hl 1 rfl) ?_
    refine lv_bipush (v := hI 6) hx hb dX1_cutStem_13 (by decide) ?_
    refine iv_imul hx hb dX1_cutStem_15 ?_
    refine lv_istore_n (lv' := [(3, .int (hI (glyph * 6))), (0, .ref (ad j 0)), (1, .int (hI glyph)), (2, .int (hI stem))]) hx hb dX1_cutStem_16 rfl hl (by decide) rfl (fun ls hl => ?_)
    refine lv_aload_n hx hb dX1_cutStem_17 rfl (lv_at hl 1 rfl) ?_
    refine iv_get (v' := .ref (ad j 2)) hx hb hts inX1 hown hK hh.1 (ob_Font hj) rfl 5 (by decide) (hts _ q1_68) rfl rfl rfl dX1_cutStem_18 ?_
    refine lv_iload_n hx hb dX1_cutStem_21 rfl (lv_at hl 2 rfl) ?_
    refine iv_ki (iv_rN (As := [.ref (ad j 2), .int (hI glyph)]) (rest := []) E hh (ok_X5_cell l hinj (gset S j A) (ia_F_2 hj) A (gset_at _ _ _) glyph h_glyph) cb_X5_cell q2_10 rfl rfl ⟨Nat.le_of_ble_eq_true rfl, Nat.le_of_ble_eq_true rfl⟩ rfl hl.1 rfl (Nat.le_of_ble_eq_true rfl) dX1_cutStem_22 ⟨Nat.zero_le _, Nat.zero_le _⟩) hh (fun hc8 H locs hh => ?_)
    refine iv_iconst hx hb dX1_cutStem_25 ?_
    refine iv_isub hx hb dX1_cutStem_26 ?_
    refine lv_istore (lv' := [(4, .int (hI ((v_X5_cell A 2 8 glyph) - 1))), (3, .int (hI (glyph * 6))), (0, .ref (ad j 0)), (1, .int (hI glyph)), (2, .int (hI stem))]) hx hb dX1_cutStem_27 hl (by decide) rfl (fun ls hl => ?_)
    refine lv_iload_n hx hb dX1_cutStem_29 rfl (lv_at hl 4 rfl) ?_
    refine lv_istore (lv' := [(5, .int (hI stem)), (4, .int (hI ((v_X5_cell A 2 8 glyph) - 1))), (3, .int (hI (glyph * 6))), (0, .ref (ad j 0)), (1, .int (hI glyph)), (2, .int (hI stem))]) hx hb dX1_cutStem_30 hl (by decide) rfl (fun ls hl => ?_)
    exact h H _ ls hh (lv_sub hl [3, 4, 2, 1, 0] rfl)
  · have h := h.1 c7
    refine iv_ldc (n := (-1000001)) hx hb (by decide) hown (hts _ q2_116) dX1_cutStem_9 ?_
    exact iv_iret E hh h.1 (by rw [← h.1]; exact ⟨by decide, by decide⟩) (by rw [← h.2]) dX1_cutStem_11
set_option maxHeartbeats 4000000 in
set_option maxRecDepth 100000 in
theorem ok_X1_hintStem (l : Launch) (hinj : hInj ad) (S : hS) {j : Nat} (hj : j < 7) (A : hGM) (hA : S j = A) (glyph : Int) (stem : Int) (hint : Int) (h_glyph : hIn glyph) (h_stem : hIn stem) (h_hint : hIn hint) (hp : p_X1_hintStem A glyph stem hint) : hMi D ad cI cJ cF l yX1_hintStem cX1_hintStem 6 (some .int) ({ frames := 3, cells := 0, slots := 0, locals := 65 } : Room) [.ref (ad j 0), .int (hI glyph), .int (hI stem), .int (hI hint)] S (v_X1_hintStem A glyph stem hint) (gset S j (m_X1_hintStem A glyph stem hint)) := by
  refine hOf (S := S) l hinj (by decide +kernel) (Nat.le_of_ble_eq_true rfl) (fun p e s m args below meth c E => ?_)
  obtain ⟨hx, hb, hml, hown, hts, hK, hN, -, hr, hlk, hz⟩ := id E
  have hown : s.vm.findClass RX1 = some m.cls := hown
  intro H locs ls hh hl
  have hl : lv_has ls 6 [(0, .ref (ad j 0)), (1, .int (hI glyph)), (2, .int (hI stem)), (3, .int (hI hint))] := hl
  replace hh : hH D ad cI cJ cF (gset S j A) s H locs := by rw [← can1 hA]; exact hh
  have h := hp
  unfold p_X1_hintStem at h
  refine lv_aload_n hx hb dX1_hintStem_0 rfl (lv_at hl 0 rfl) ?_
  refine lv_iload_n hx hb dX1_hintStem_1 rfl (lv_at hl 1 rfl) ?_
  refine lv_iload_n hx hb dX1_hintStem_2 rfl (lv_at hl 2 rfl) ?_
  obtain ⟨g1, h⟩ := h
  refine iv_ki (iv_rV (As := [.int (hI glyph), .int (hI stem)]) (rest := []) E hh (ok_X1_hasStem l hinj (gset S j A) hj A (gset_at _ _ _) glyph stem h_glyph h_stem g1) cb_X1_hasStem q2_162 rfl rfl ⟨Nat.le_of_ble_eq_true rfl, Nat.le_of_ble_eq_true rfl⟩ (ob_Font hj) rfl rfl rfl hl.1 rfl (Nat.le_of_ble_eq_true rfl) dX1_hintStem_3 ⟨Nat.zero_le _, Nat.zero_le _⟩) hh (fun hc2 H locs hh => ?_)
  refine iv_if_eq (tgt := 18) hx hb hc2 dX1_hintStem_6 (by decide) (fun c3 => ?_) (fun c3 => ?_)
  · have h := h.1 c3
    refine iv_ldc (n := (-1000001)) hx hb (by decide) hown (hts _ q2_116) dX1_hintStem_18 ?_
    exact iv_iret E hh (by unfold v_X1_hintStem; rw [if_pos c3]) (by rw [← show (-1000001) = v_X1_hintStem A glyph stem hint from (by unfold v_X1_hintStem; rw [if_pos c3])]; exact ⟨by decide, by decide⟩) (by unfold m_X1_hintStem; rw [if_pos c3]) dX1_hintStem_20
  · have h := h.2 c3
    refine lv_iload_n hx hb dX1_hintStem_9 rfl (lv_at hl 3 rfl) ?_
    refine iv_iconst hx hb dX1_hintStem_10 ?_
    refine iv_iconst hx hb dX1_hintStem_11 ?_
    refine iv_ki (iv_rN (As := [.int (hI hint), .int (hI 0), .int (hI 3)]) (rest := []) E hh (ok_X5_within l hinj (gset S j A) hint 0 3 h_hint ⟨by decide, by decide⟩ ⟨by decide, by decide⟩) cb_X5_within q2_115 rfl rfl ⟨Nat.le_of_ble_eq_true rfl, Nat.le_of_ble_eq_true rfl⟩ rfl hl.1 rfl (Nat.le_of_ble_eq_true rfl) dX1_hintStem_12 ⟨Nat.zero_le _, Nat.zero_le _⟩) hh (fun hc4 H locs hh => ?_)
    refine iv_if_ne (tgt := 21) hx hb hc4 dX1_hintStem_15 (by decide) (fun c5 => ?_) (fun c5 => ?_)
    · have h := h.2 c5
      refine lv_iload_n hx hb dX1_hintStem_21 rfl (lv_at hl 1 rfl) ?_
      refine lv_bipush (v := hI 6) hx hb dX1_hintStem_22 (by decide) ?_
      refine iv_imul hx hb dX1_hintStem_24 ?_
      refine lv_iload_n hx hb dX1_hintStem_25 rfl (lv_at hl 2 rfl) ?_
      refine iv_iadd hx hb dX1_hintStem_26 ?_
      refine lv_istore (lv' := [(4, .int (hI ((glyph * 6) + stem))), (0, .ref (ad j 0)), (1, .int (hI glyph)), (2, .int (hI stem)), (3, .int (hI hint))]) hx hb dX1_hintStem_27 hl (by decide) rfl (fun ls hl => ?_)
      refine lv_aload_n hx hb dX1_hintStem_29 rfl (lv_at hl 1 rfl) ?_
      refine iv_get (v' := .ref (ad j 5)) hx hb hts inX1 hown hK hh.1 (ob_Font hj) rfl 8 (by decide) (hts _ q1_76) rfl rfl rfl dX1_hintStem_30 ?_
      refine lv_iload hx hb dX1_hintStem_33 (lv_at hl 0 rfl) ?_
      obtain ⟨g6, h⟩ := h
      refine iv_ki (iv_rN (As := [.ref (ad j 5), .int (hI ((glyph * 6) + stem))]) (rest := []) E hh (ok_X5_cell l hinj (gset S j A) (ia_F_5 hj) A (gset_at _ _ _) ((glyph * 6) + stem) g6) cb_X5_cell q2_10 rfl rfl ⟨Nat.le_of_ble_eq_true rfl, Nat.le_of_ble_eq_true rfl⟩ rfl hl.1 rfl (Nat.le_of_ble_eq_true rfl) dX1_hintStem_35 ⟨Nat.zero_le _, Nat.zero_le _⟩) hh (fun hc7 H locs hh => ?_)
      refine lv_istore (lv' := [(5, .int (hI (v_X5_cell A 5 48 ((glyph * 6) + stem)))), (4, .int (hI ((glyph * 6) + stem))), (0, .ref (ad j 0)), (1, .int (hI glyph)), (2, .int (hI stem)), (3, .int (hI hint))]) hx hb dX1_hintStem_38 hl (by decide) rfl (fun ls hl => ?_)
      refine lv_aload_n hx hb dX1_hintStem_40 rfl (lv_at hl 2 rfl) ?_
      refine iv_get (v' := .ref (ad j 5)) hx hb hts inX1 hown hK hh.1 (ob_Font hj) rfl 8 (by decide) (hts _ q1_76) rfl rfl rfl dX1_hintStem_41 ?_
      refine lv_iload hx hb dX1_hintStem_44 (lv_at hl 1 rfl) ?_
      refine lv_iload_n hx hb dX1_hintStem_46 rfl (lv_at hl 5 rfl) ?_
      refine iv_kv (iv_rN (As := [.ref (ad j 5), .int (hI ((glyph * 6) + stem)), .int (hI hint)]) (rest := []) E hh (ok_X5_put l hinj (gset S j A) (ia_F_5 hj) A (gset_at _ _ _) ((glyph * 6) + stem) hint g6 h_hint) cb_X5_put q2_118 rfl rfl ⟨Nat.le_of_ble_eq_true rfl, Nat.le_of_ble_eq_true rfl⟩ rfl hl.1 rfl (Nat.le_of_ble_eq_true rfl) dX1_hintStem_47 ⟨Nat.zero_le _, Nat.zero_le _⟩) hh (fun H locs hh => ?_)
      replace hh : hH D ad cI cJ cF (gset S j (m_X5_put A 5 48 ((glyph * 6) + stem) hint)) s H locs := by rw [← show _ = (gset S j (m_X5_put A 5 48 ((glyph * 6) + stem) hint)) from (gset_gset _ _ _ _)]; exact hh
      refine lv_iload hx hb dX1_hintStem_50 (lv_at hl 0 rfl) ?_
      exact iv_iret E hh (by unfold v_X1_hintStem; rw [if_neg c3, if_neg c5]) (by rw [← show (v_X5_cell A 5 48 ((glyph * 6) + stem)) = v_X1_hintStem A glyph stem hint from (by unfold v_X1_hintStem; rw [if_neg c3, if_neg c5])]; exact hc7) (by unfold m_X1_hintStem; rw [if_neg c3, if_neg c5]) dX1_hintStem_52
    · have h := h.1 c5
      refine iv_ldc (n := (-1000001)) hx hb (by decide) hown (hts _ q2_116) dX1_hintStem_18 ?_
      exact iv_iret E hh (by unfold v_X1_hintStem; rw [if_neg c3, if_pos c5]) (by rw [← show (-1000001) = v_X1_hintStem A glyph stem hint from (by unfold v_X1_hintStem; rw [if_neg c3, if_pos c5])]; exact ⟨by decide, by decide⟩) (by unfold m_X1_hintStem; rw [if_neg c3, if_pos c5]) dX1_hintStem_20
set_option maxHeartbeats 4000000 in
set_option maxRecDepth 100000 in
theorem ok_X1_standardAt (l : Launch) (hinj : hInj ad) (S : hS) {j : Nat} (hj : j < 7) (A : hGM) (hA : S j = A) (width : Int) (h_width : hIn width) (hp : p_X1_standardAt A width) : hMi D ad cI cJ cF l yX1_standardAt cX1_standardAt 3 (some .int) ({ frames := 1, cells := 0, slots := 0, locals := 21 } : Room) [.ref (ad j 0), .int (hI width)] S (v_X1_standardAt A width) S := by
  refine hOf (S := S) l hinj (by decide +kernel) (Nat.le_of_ble_eq_true rfl) (fun p e s m args below meth c E => ?_)
  obtain ⟨hx, hb, hml, hown, hts, hK, hN, -, hr, hlk, hz⟩ := id E
  have hown : s.vm.findClass RX1 = some m.cls := hown
  have r2 : ∀ (y2 : Int), hIn y2 → (((y2 < (A 0 1) → (((v_X5_cell A 6 3 y2) = width → (y2 = v_X1_standardAt A width)) ∧ (¬ (v_X5_cell A 6 3 y2) = width → (hAt D ad cI cJ cF p l e ({ frames := 1, cells := 0, slots := 0, locals := 21 } : Room) s m args below meth c (MQ below (hQi D ad cI cJ cF (v_X1_standardAt A width) S) args s 0 0 (hAd ad)) 3 2 [(0, .ref (ad j 0)), (1, .int (hI width)), (2, .int (hI (y2 + 1)))] S)))) ∧ (¬ y2 < (A 0 1) → ((-1) = v_X1_standardAt A width)))) → (hAt D ad cI cJ cF p l e ({ frames := 1, cells := 0, slots := 0, locals := 21 } : Room) s m args below meth c (MQ below (hQi D ad cI cJ cF (v_X1_standardAt A width) S) args s 0 0 (hAd ad)) 3 2 [(0, .ref (ad j 0)), (1, .int (hI width)), (2, .int (hI y2))] S) := by
    intro y2 h_y2 h H locs ls hh hl
    refine lv_iload_n hx hb dX1_standardAt_2 rfl (lv_at hl 2 rfl) ?_
    refine lv_aload_n hx hb dX1_standardAt_3 rfl (lv_at hl 0 rfl) ?_
    refine iv_get (v' := .int (hI (A 0 1))) hx hb hts inX1 hown hK hh.1 (ob_Font hj) rfl 1 (by decide) (hts _ q1_59) rfl rfl (congrArg (fun z => Value.int (hI (z 0 1))) hA) dX1_standardAt_4 ?_
    have hm1 : hIn (A 0 1) := hIn_rd hh.2.1 hA (by decide)
    refine iv_icmp_ge (tgt := 30) hx hb h_y2 hm1 dX1_standardAt_7 (by decide) (fun c2 => ?_) (fun c2 => ?_)
    · have h := h.2 c2
      refine iv_iconst hx hb dX1_standardAt_30 ?_
      exact iv_iret E hh h (by rw [← h]; exact ⟨by decide, by decide⟩) rfl dX1_standardAt_31
    · have h := h.1 c2
      refine lv_aload_n hx hb dX1_standardAt_10 rfl (lv_at hl 0 rfl) ?_
      refine iv_get (v' := .ref (ad j 6)) hx hb hts inX1 hown hK hh.1 (ob_Font hj) rfl 9 (by decide) (hts _ q1_79) rfl rfl rfl dX1_standardAt_11 ?_
      refine lv_iload_n hx hb dX1_standardAt_14 rfl (lv_at hl 2 rfl) ?_
      refine iv_ki (iv_rN (As := [.ref (ad j 6), .int (hI y2)]) (rest := []) E hh (ok_X5_cell l hinj S (ia_F_6 hj) A hA y2 h_y2) cb_X5_cell q2_10 rfl rfl ⟨Nat.le_of_ble_eq_true rfl, Nat.le_of_ble_eq_true rfl⟩ rfl hl.1 rfl (Nat.le_of_ble_eq_true rfl) dX1_standardAt_15 ⟨Nat.zero_le _, Nat.zero_le _⟩) hh (fun hc3 H locs hh => ?_)
      refine lv_iload_n hx hb dX1_standardAt_18 rfl (lv_at hl 1 rfl) ?_
      refine iv_icmp_ne (tgt := 24) hx hb hc3 h_width dX1_standardAt_19 (by decide) (fun c4 => ?_) (fun c4 => ?_)
      · have h := h.2 c4
        refine iv_iinc (lv' := [(2, .int (hI (y2 + 1))), (0, .ref (ad j 0)), (1, .int (hI width))]) hx hb dX1_standardAt_24 hl (k := 2) rfl (v := (y2 + 1)) rfl (by decide) rfl (fun ls hl => ?_)
        refine lv_goto (tgt := 2) hx hb dX1_standardAt_27 (by decide) ?_
        exact h H _ ls hh (lv_sub hl [1, 2, 0] rfl)
      · have h := h.1 c4
        refine lv_iload_n hx hb dX1_standardAt_22 rfl (lv_at hl 2 rfl) ?_
        exact iv_iret E hh h (by rw [← h]; exact h_y2) rfl dX1_standardAt_23
  intro H locs ls hh hl
  have hl : lv_has ls 3 [(0, .ref (ad j 0)), (1, .int (hI width))] := hl
  have h := x_X1_standardAt A width h_width (fun i k hi => hIn_rd hh.2.1 hA hi) hp (fun y2 => (hAt D ad cI cJ cF p l e ({ frames := 1, cells := 0, slots := 0, locals := 21 } : Room) s m args below meth c (MQ below (hQi D ad cI cJ cF (v_X1_standardAt A width) S) args s 0 0 (hAd ad)) 3 2 [(0, .ref (ad j 0)), (1, .int (hI width)), (2, .int (hI y2))] S)) (fun r => (r = v_X1_standardAt A width)) r2 rfl
  refine iv_iconst hx hb dX1_standardAt_0 ?_
  refine lv_istore_n (lv' := [(2, .int (hI 0)), (0, .ref (ad j 0)), (1, .int (hI width))]) hx hb dX1_standardAt_1 rfl hl (by decide) rfl (fun ls hl => ?_)
  exact h H _ ls hh (lv_sub hl [1, 2, 0] rfl)
set_option maxHeartbeats 4000000 in
set_option maxRecDepth 100000 in
theorem ok_X1_snapOf (l : Launch) (hinj : hInj ad) (S : hS) {j : Nat} (hj : j < 7) (A : hGM) (hA : S j = A) (width : Int) (h_width : hIn width) (hp : p_X1_snapOf A width) : hMi D ad cI cJ cF l yX1_snapOf cX1_snapOf 6 (some .int) ({ frames := 1, cells := 0, slots := 0, locals := 21 } : Room) [.ref (ad j 0), .int (hI width)] S (v_X1_snapOf A width) S := by
  refine hOf (S := S) l hinj (by decide +kernel) (Nat.le_of_ble_eq_true rfl) (fun p e s m args below meth c E => ?_)
  obtain ⟨hx, hb, hml, hown, hts, hK, hN, -, hr, hlk, hz⟩ := id E
  have hown : s.vm.findClass RX1 = some m.cls := hown
  have r12 : ∀ (y2 : Int) (y3 : Int) (y4 : Int), hIn y2 → hIn y3 → hIn y4 → (((y4 < (A 0 1) → (hIn ((v_X5_cell A 6 3 y4) - width) ∧ (p_J9_abs_0f7a4 ((v_X5_cell A 6 3 y4) - width) ∧ (((v_J9_abs_0f7a4 ((v_X5_cell A 6 3 y4) - width)) < y3 → (hAt D ad cI cJ cF p l e ({ frames := 1, cells := 0, slots := 0, locals := 21 } : Room) s m args below meth c (MQ below (hQi D ad cI cJ cF (v_X1_snapOf A width) S) args s 0 0 (hAd ad)) 6 12 [(0, .ref (ad j 0)), (1, .int (hI width)), (2, .int (hI (v_X5_cell A 6 3 y4))), (3, .int (hI (v_J9_abs_0f7a4 ((v_X5_cell A 6 3 y4) - width)))), (4, .int (hI (y4 + 1)))] S)) ∧ (¬ (v_J9_abs_0f7a4 ((v_X5_cell A 6 3 y4) - width)) < y3 → (hAt D ad cI cJ cF p l e ({ frames := 1, cells := 0, slots := 0, locals := 21 } : Room) s m args below meth c (MQ below (hQi D ad cI cJ cF (v_X1_snapOf A width) S) args s 0 0 (hAd ad)) 6 12 [(0, .ref (ad j 0)), (1, .int (hI width)), (2, .int (hI y2)), (3, .int (hI y3)), (4, .int (hI (y4 + 1)))] S)))))) ∧ (¬ y4 < (A 0 1) → (y2 = v_X1_snapOf A width)))) → (hAt D ad cI cJ cF p l e ({ frames := 1, cells := 0, slots := 0, locals := 21 } : Room) s m args below meth c (MQ below (hQi D ad cI cJ cF (v_X1_snapOf A width) S) args s 0 0 (hAd ad)) 6 12 [(0, .ref (ad j 0)), (1, .int (hI width)), (2, .int (hI y2)), (3, .int (hI y3)), (4, .int (hI y4))] S) := by
    intro y2 y3 y4 h_y2 h_y3 h_y4 h H locs ls hh hl
    refine lv_iload hx hb dX1_snapOf_12 (lv_at hl 4 rfl) ?_
    refine lv_aload_n hx hb dX1_snapOf_14 rfl (lv_at hl 0 rfl) ?_
    refine iv_get (v' := .int (hI (A 0 1))) hx hb hts inX1 hown hK hh.1 (ob_Font hj) rfl 1 (by decide) (hts _ q1_59) rfl rfl (congrArg (fun z => Value.int (hI (z 0 1))) hA) dX1_snapOf_15 ?_
    have hm1 : hIn (A 0 1) := hIn_rd hh.2.1 hA (by decide)
    refine iv_icmp_ge (tgt := 62) hx hb h_y4 hm1 dX1_snapOf_18 (by decide) (fun c2 => ?_) (fun c2 => ?_)
    · have h := h.2 c2
      refine lv_iload_n hx hb dX1_snapOf_62 rfl (lv_at hl 2 rfl) ?_
      exact iv_iret E hh h (by rw [← h]; exact h_y2) rfl dX1_snapOf_63
    · have h := h.1 c2
      refine lv_aload_n hx hb dX1_snapOf_21 rfl (lv_at hl 0 rfl) ?_
      refine iv_get (v' := .ref (ad j 6)) hx hb hts inX1 hown hK hh.1 (ob_Font hj) rfl 9 (by decide) (hts _ q1_79) rfl rfl rfl dX1_snapOf_22 ?_
      refine lv_iload hx hb dX1_snapOf_25 (lv_at hl 4 rfl) ?_
      refine iv_ki (iv_rN (As := [.ref (ad j 6), .int (hI y4)]) (rest := []) E hh (ok_X5_cell l hinj S (ia_F_6 hj) A hA y4 h_y4) cb_X5_cell q2_10 rfl rfl ⟨Nat.le_of_ble_eq_true rfl, Nat.le_of_ble_eq_true rfl⟩ rfl hl.1 rfl (Nat.le_of_ble_eq_true rfl) dX1_snapOf_27 ⟨Nat.zero_le _, Nat.zero_le _⟩) hh (fun hc3 H locs hh => ?_)
      refine lv_iload_n hx hb dX1_snapOf_30 rfl (lv_at hl 1 rfl) ?_
      refine iv_isub hx hb dX1_snapOf_31 ?_
      obtain ⟨g4, h⟩ := h
      obtain ⟨g5, h⟩ := h
      refine iv_ki (iv_rS (As := [.int (hI ((v_X5_cell A 6 3 y4) - width))]) (rest := []) E hh (ok_J9_abs_0f7a4 l hinj S ((v_X5_cell A 6 3 y4) - width) g4 g5) cb_J9_abs_0f7a4 q2_39 rfl rfl ⟨Nat.le_of_ble_eq_true rfl, Nat.le_of_ble_eq_true rfl⟩ rfl hl.1 rfl (Nat.le_of_ble_eq_true rfl) dX1_snapOf_32 ⟨Nat.zero_le _, Nat.zero_le _⟩) hh (fun hc6 H locs hh => ?_)
      refine lv_istore (lv' := [(5, .int (hI (v_J9_abs_0f7a4 ((v_X5_cell A 6 3 y4) - width)))), (0, .ref (ad j 0)), (1, .int (hI width)), (2, .int (hI y2)), (3, .int (hI y3)), (4, .int (hI y4))]) hx hb dX1_snapOf_35 hl (by decide) rfl (fun ls hl => ?_)
      refine lv_iload hx hb dX1_snapOf_37 (lv_at hl 0 rfl) ?_
      refine lv_iload_n hx hb dX1_snapOf_39 rfl (lv_at hl 4 rfl) ?_
      refine iv_icmp_ge (tgt := 56) hx hb hc6 h_y3 dX1_snapOf_40 (by decide) (fun c7 => ?_) (fun c7 => ?_)
      · have h := h.2 c7
        refine iv_iinc (lv' := [(4, .int (hI (y4 + 1))), (5, .int (hI (v_J9_abs_0f7a4 ((v_X5_cell A 6 3 y4) - width)))), (0, .ref (ad j 0)), (1, .int (hI width)), (2, .int (hI y2)), (3, .int (hI y3))]) hx hb dX1_snapOf_56 hl (k := 5) rfl (v := (y4 + 1)) rfl (by decide) rfl (fun ls hl => ?_)
        refine lv_goto (tgt := 12) hx hb dX1_snapOf_59 (by decide) ?_
        exact h H _ ls hh (lv_sub hl [2, 3, 4, 5, 0] rfl)
      · have h := h.1 c7
        refine lv_iload hx hb dX1_snapOf_43 (lv_at hl 0 rfl) ?_
        refine lv_istore_n (lv' := [(3, .int (hI (v_J9_abs_0f7a4 ((v_X5_cell A 6 3 y4) - width)))), (5, .int (hI (v_J9_abs_0f7a4 ((v_X5_cell A 6 3 y4) - width)))), (0, .ref (ad j 0)), (1, .int (hI width)), (2, .int (hI y2)), (4, .int (hI y4))]) hx hb dX1_snapOf_45 rfl hl (by decide) rfl (fun ls hl => ?_)
        refine lv_aload_n hx hb dX1_snapOf_46 rfl (lv_at hl 2 rfl) ?_
        refine iv_get (v' := .ref (ad j 6)) hx hb hts inX1 hown hK hh.1 (ob_Font hj) rfl 9 (by decide) (hts _ q1_79) rfl rfl rfl dX1_snapOf_47 ?_
        refine lv_iload hx hb dX1_snapOf_50 (lv_at hl 5 rfl) ?_
        refine iv_ki (iv_rN (As := [.ref (ad j 6), .int (hI y4)]) (rest := []) E hh (ok_X5_cell l hinj S (ia_F_6 hj) A hA y4 h_y4) cb_X5_cell q2_10 rfl rfl ⟨Nat.le_of_ble_eq_true rfl, Nat.le_of_ble_eq_true rfl⟩ rfl hl.1 rfl (Nat.le_of_ble_eq_true rfl) dX1_snapOf_52 ⟨Nat.zero_le _, Nat.zero_le _⟩) hh (fun hc8 H locs hh => ?_)
        refine lv_istore_n (lv' := [(2, .int (hI (v_X5_cell A 6 3 y4))), (3, .int (hI (v_J9_abs_0f7a4 ((v_X5_cell A 6 3 y4) - width)))), (5, .int (hI (v_J9_abs_0f7a4 ((v_X5_cell A 6 3 y4) - width)))), (0, .ref (ad j 0)), (1, .int (hI width)), (4, .int (hI y4))]) hx hb dX1_snapOf_55 rfl hl (by decide) rfl (fun ls hl => ?_)
        refine iv_iinc (lv' := [(4, .int (hI (y4 + 1))), (2, .int (hI (v_X5_cell A 6 3 y4))), (3, .int (hI (v_J9_abs_0f7a4 ((v_X5_cell A 6 3 y4) - width)))), (5, .int (hI (v_J9_abs_0f7a4 ((v_X5_cell A 6 3 y4) - width)))), (0, .ref (ad j 0)), (1, .int (hI width))]) hx hb dX1_snapOf_56 hl (k := 5) rfl (v := (y4 + 1)) rfl (by decide) rfl (fun ls hl => ?_)
        refine lv_goto (tgt := 12) hx hb dX1_snapOf_59 (by decide) ?_
        exact h H _ ls hh (lv_sub hl [4, 5, 1, 2, 0] rfl)
  intro H locs ls hh hl
  have hl : lv_has ls 6 [(0, .ref (ad j 0)), (1, .int (hI width))] := hl
  have h := x_X1_snapOf A width h_width (fun i k hi => hIn_rd hh.2.1 hA hi) hp (fun y2 y3 y4 => (hAt D ad cI cJ cF p l e ({ frames := 1, cells := 0, slots := 0, locals := 21 } : Room) s m args below meth c (MQ below (hQi D ad cI cJ cF (v_X1_snapOf A width) S) args s 0 0 (hAd ad)) 6 12 [(0, .ref (ad j 0)), (1, .int (hI width)), (2, .int (hI y2)), (3, .int (hI y3)), (4, .int (hI y4))] S)) (fun r => (r = v_X1_snapOf A width)) r12 rfl
  refine iv_iconst hx hb dX1_snapOf_0 ?_
  refine lv_istore_n (lv' := [(2, .int (hI 0)), (0, .ref (ad j 0)), (1, .int (hI width))]) hx hb dX1_snapOf_1 rfl hl (by decide) rfl (fun ls hl => ?_)
  refine lv_aload_n hx hb dX1_snapOf_2 rfl (lv_at hl 1 rfl) ?_
  refine iv_get (v' := .int (hI (A 0 2))) hx hb hts inX1 hown hK hh.1 (ob_Font hj) rfl 2 (by decide) (hts _ q1_61) rfl rfl (congrArg (fun z => Value.int (hI (z 0 2))) hA) dX1_snapOf_3 ?_
  have hm9 : hIn (A 0 2) := hIn_rd hh.2.1 hA (by decide)
  refine iv_iconst hx hb dX1_snapOf_6 ?_
  refine iv_iadd hx hb dX1_snapOf_7 ?_
  refine lv_istore_n (lv' := [(3, .int (hI ((A 0 2) + 1))), (2, .int (hI 0)), (0, .ref (ad j 0)), (1, .int (hI width))]) hx hb dX1_snapOf_8 rfl hl (by decide) rfl (fun ls hl => ?_)
  refine iv_iconst hx hb dX1_snapOf_9 ?_
  refine lv_istore (lv' := [(4, .int (hI 0)), (3, .int (hI ((A 0 2) + 1))), (2, .int (hI 0)), (0, .ref (ad j 0)), (1, .int (hI width))]) hx hb dX1_snapOf_10 hl (by decide) rfl (fun ls hl => ?_)
  exact h H _ ls hh (lv_sub hl [3, 4, 2, 1, 0] rfl)
set_option maxHeartbeats 4000000 in
set_option maxRecDepth 100000 in
theorem ok_X1_snappingTo (l : Launch) (hinj : hInj ad) (S : hS) {j : Nat} (hj : j < 7) (A : hGM) (hA : S j = A) (standardWidth : Int) (h_standardWidth : hIn standardWidth) (hp : p_X1_snappingTo A standardWidth) : hMi D ad cI cJ cF l yX1_snappingTo cX1_snappingTo 4 (some .int) ({ frames := 2, cells := 0, slots := 0, locals := 46 } : Room) [.ref (ad j 0), .int (hI standardWidth)] S (v_X1_snappingTo A standardWidth) S := by
  refine hOf (S := S) l hinj (by decide +kernel) (Nat.le_of_ble_eq_true rfl) (fun p e s m args below meth c E => ?_)
  obtain ⟨hx, hb, hml, hown, hts, hK, hN, -, hr, hlk, hz⟩ := id E
  have hown : s.vm.findClass RX1 = some m.cls := hown
  have r4 : ∀ (y2 : Int) (y3 : Int), hIn y2 → hIn y3 → (((y3 < 48 → ((0 ≤ y3 ∧ y3 < 48) ∧ (((A 4 y3) ≤ 0 → (hAt D ad cI cJ cF p l e ({ frames := 2, cells := 0, slots := 0, locals := 46 } : Room) s m args below meth c (MQ below (hQi D ad cI cJ cF (v_X1_snappingTo A standardWidth) S) args s 0 0 (hAd ad)) 4 4 [(0, .ref (ad j 0)), (1, .int (hI standardWidth)), (2, .int (hI y2)), (3, .int (hI (y3 + 1)))] S)) ∧ (¬ (A 4 y3) ≤ 0 → (p_X1_snapOf A (A 4 y3) ∧ (((v_X1_snapOf A (A 4 y3)) = standardWidth → (hAt D ad cI cJ cF p l e ({ frames := 2, cells := 0, slots := 0, locals := 46 } : Room) s m args below meth c (MQ below (hQi D ad cI cJ cF (v_X1_snappingTo A standardWidth) S) args s 0 0 (hAd ad)) 4 4 [(0, .ref (ad j 0)), (1, .int (hI standardWidth)), (2, .int (hI (y2 + 1))), (3, .int (hI (y3 + 1)))] S)) ∧ (¬ (v_X1_snapOf A (A 4 y3)) = standardWidth → (hAt D ad cI cJ cF p l e ({ frames := 2, cells := 0, slots := 0, locals := 46 } : Room) s m args below meth c (MQ below (hQi D ad cI cJ cF (v_X1_snappingTo A standardWidth) S) args s 0 0 (hAd ad)) 4 4 [(0, .ref (ad j 0)), (1, .int (hI standardWidth)), (2, .int (hI y2)), (3, .int (hI (y3 + 1)))] S)))))))) ∧ (¬ y3 < 48 → (y2 = v_X1_snappingTo A standardWidth)))) → (hAt D ad cI cJ cF p l e ({ frames := 2, cells := 0, slots := 0, locals := 46 } : Room) s m args below meth c (MQ below (hQi D ad cI cJ cF (v_X1_snappingTo A standardWidth) S) args s 0 0 (hAd ad)) 4 4 [(0, .ref (ad j 0)), (1, .int (hI standardWidth)), (2, .int (hI y2)), (3, .int (hI y3))] S) := by
    intro y2 y3 h_y2 h_y3 h H locs ls hh hl
    refine lv_iload_n hx hb dX1_snappingTo_4 rfl (lv_at hl 3 rfl) ?_
    refine lv_aload_n hx hb dX1_snappingTo_5 rfl (lv_at hl 0 rfl) ?_
    refine iv_get (v' := .ref (ad j 4)) hx hb hts inX1 hown hK hh.1 (ob_Font hj) rfl 7 (by decide) (hts _ q1_73) rfl rfl rfl dX1_snappingTo_6 ?_
    refine iv_alen hx hb hK hh.1 (ia_F_4 hj) dX1_snappingTo_9 ?_
    refine iv_icmp_ge (tgt := 45) hx hb h_y3 ⟨by decide, by decide⟩ dX1_snappingTo_10 (by decide) (fun c1 => ?_) (fun c1 => ?_)
    · have h := h.2 c1
      refine lv_iload_n hx hb dX1_snappingTo_45 rfl (lv_at hl 2 rfl) ?_
      exact iv_iret E hh h (by rw [← h]; exact h_y2) rfl dX1_snappingTo_46
    · have h := h.1 c1
      refine lv_aload_n hx hb dX1_snappingTo_13 rfl (lv_at hl 0 rfl) ?_
      refine iv_get (v' := .ref (ad j 4)) hx hb hts inX1 hown hK hh.1 (ob_Font hj) rfl 7 (by decide) (hts _ q1_73) rfl rfl rfl dX1_snappingTo_14 ?_
      refine lv_iload_n hx hb dX1_snappingTo_17 rfl (lv_at hl 3 rfl) ?_
      obtain ⟨g2, h⟩ := h
      refine iv_iald hx hb hK hh.1 (ia_F_4 hj) g2 (v := (A 4 y3)) (congrArg (fun z => z 4 y3) hA) dX1_snappingTo_18 ?_
      have hm3 : hIn (A 4 y3) := hIn_rd hh.2.1 hA (by decide)
      refine iv_if_le (tgt := 39) hx hb hm3 dX1_snappingTo_19 (by decide) (fun c4 => ?_) (fun c4 => ?_)
      · have h := h.1 c4
        refine iv_iinc (lv' := [(3, .int (hI (y3 + 1))), (0, .ref (ad j 0)), (1, .int (hI standardWidth)), (2, .int (hI y2))]) hx hb dX1_snappingTo_39 hl (k := 3) rfl (v := (y3 + 1)) rfl (by decide) rfl (fun ls hl => ?_)
        refine lv_goto (tgt := 4) hx hb dX1_snappingTo_42 (by decide) ?_
        exact h H _ ls hh (lv_sub hl [1, 2, 3, 0] rfl)
      · have h := h.2 c4
        refine lv_aload_n hx hb dX1_snappingTo_22 rfl (lv_at hl 0 rfl) ?_
        refine lv_aload_n hx hb dX1_snappingTo_23 rfl (lv_at hl 0 rfl) ?_
        refine iv_get (v' := .ref (ad j 4)) hx hb hts inX1 hown hK hh.1 (ob_Font hj) rfl 7 (by decide) (hts _ q1_73) rfl rfl rfl dX1_snappingTo_24 ?_
        refine lv_iload_n hx hb dX1_snappingTo_27 rfl (lv_at hl 3 rfl) ?_
        refine iv_iald hx hb hK hh.1 (ia_F_4 hj) g2 (v := (A 4 y3)) (congrArg (fun z => z 4 y3) hA) dX1_snappingTo_28 ?_
        have hm5 : hIn (A 4 y3) := hIn_rd hh.2.1 hA (by decide)
        obtain ⟨g6, h⟩ := h
        refine iv_ki (iv_rV (As := [.int (hI (A 4 y3))]) (rest := []) E hh (ok_X1_snapOf l hinj S hj A hA (A 4 y3) hm5 g6) cb_X1_snapOf q2_35 rfl rfl ⟨Nat.le_of_ble_eq_true rfl, Nat.le_of_ble_eq_true rfl⟩ (ob_Font hj) rfl rfl rfl hl.1 rfl (Nat.le_of_ble_eq_true rfl) dX1_snappingTo_29 ⟨Nat.zero_le _, Nat.zero_le _⟩) hh (fun hc7 H locs hh => ?_)
        refine lv_iload_n hx hb dX1_snappingTo_32 rfl (lv_at hl 1 rfl) ?_
        refine iv_icmp_ne (tgt := 39) hx hb hc7 h_standardWidth dX1_snappingTo_33 (by decide) (fun c8 => ?_) (fun c8 => ?_)
        · have h := h.2 c8
          refine iv_iinc (lv' := [(3, .int (hI (y3 + 1))), (0, .ref (ad j 0)), (1, .int (hI standardWidth)), (2, .int (hI y2))]) hx hb dX1_snappingTo_39 hl (k := 3) rfl (v := (y3 + 1)) rfl (by decide) rfl (fun ls hl => ?_)
          refine lv_goto (tgt := 4) hx hb dX1_snappingTo_42 (by decide) ?_
          exact h H _ ls hh (lv_sub hl [1, 2, 3, 0] rfl)
        · have h := h.1 c8
          refine iv_iinc (lv' := [(2, .int (hI (y2 + 1))), (0, .ref (ad j 0)), (1, .int (hI standardWidth)), (3, .int (hI y3))]) hx hb dX1_snappingTo_36 hl (k := 2) rfl (v := (y2 + 1)) rfl (by decide) rfl (fun ls hl => ?_)
          refine iv_iinc (lv' := [(3, .int (hI (y3 + 1))), (2, .int (hI (y2 + 1))), (0, .ref (ad j 0)), (1, .int (hI standardWidth))]) hx hb dX1_snappingTo_39 hl (k := 3) rfl (v := (y3 + 1)) rfl (by decide) rfl (fun ls hl => ?_)
          refine lv_goto (tgt := 4) hx hb dX1_snappingTo_42 (by decide) ?_
          exact h H _ ls hh (lv_sub hl [2, 3, 1, 0] rfl)
  intro H locs ls hh hl
  have hl : lv_has ls 4 [(0, .ref (ad j 0)), (1, .int (hI standardWidth))] := hl
  have h := x_X1_snappingTo A standardWidth h_standardWidth (fun i k hi => hIn_rd hh.2.1 hA hi) hp (fun y2 y3 => (hAt D ad cI cJ cF p l e ({ frames := 2, cells := 0, slots := 0, locals := 46 } : Room) s m args below meth c (MQ below (hQi D ad cI cJ cF (v_X1_snappingTo A standardWidth) S) args s 0 0 (hAd ad)) 4 4 [(0, .ref (ad j 0)), (1, .int (hI standardWidth)), (2, .int (hI y2)), (3, .int (hI y3))] S)) (fun r => (r = v_X1_snappingTo A standardWidth)) r4 rfl
  refine iv_iconst hx hb dX1_snappingTo_0 ?_
  refine lv_istore_n (lv' := [(2, .int (hI 0)), (0, .ref (ad j 0)), (1, .int (hI standardWidth))]) hx hb dX1_snappingTo_1 rfl hl (by decide) rfl (fun ls hl => ?_)
  refine iv_iconst hx hb dX1_snappingTo_2 ?_
  refine lv_istore_n (lv' := [(3, .int (hI 0)), (2, .int (hI 0)), (0, .ref (ad j 0)), (1, .int (hI standardWidth))]) hx hb dX1_snappingTo_3 rfl hl (by decide) rfl (fun ls hl => ?_)
  exact h H _ ls hh (lv_sub hl [2, 3, 1, 0] rfl)
set_option maxHeartbeats 4000000 in
set_option maxRecDepth 100000 in
theorem ok_X1_addStandard (l : Launch) (hinj : hInj ad) (S : hS) {j : Nat} (hj : j < 7) (A : hGM) (hA : S j = A) (width : Int) (h_width : hIn width) (hp : p_X1_addStandard A width) : hMi D ad cI cJ cF l yX1_addStandard cX1_addStandard 3 (some .int) ({ frames := 3, cells := 0, slots := 0, locals := 69 } : Room) [.ref (ad j 0), .int (hI width)] S (v_X1_addStandard A width) (gset S j (m_X1_addStandard A width)) := by
  refine hOf (S := S) l hinj (by decide +kernel) (Nat.le_of_ble_eq_true rfl) (fun p e s m args below meth c E => ?_)
  obtain ⟨hx, hb, hml, hown, hts, hK, hN, -, hr, hlk, hz⟩ := id E
  have hown : s.vm.findClass RX1 = some m.cls := hown
  have r41 : ∀ (y2 : Int) (A1 : hGM), hIn y2 → ((∀ (i : Nat) (k : Int), i < 100 → hIn (A1 i k)) → ((y2 ≤ 0 → (hIn (((m_X5_put A1 6 3 y2 width) 0 1) + 1) ∧ (p_X1_snappingTo (aset (m_X5_put A1 6 3 y2 width) 0 1 (((m_X5_put A1 6 3 y2 width) 0 1) + 1)) width ∧ ((v_X1_snappingTo (aset (m_X5_put A1 6 3 y2 width) 0 1 (((m_X5_put A1 6 3 y2 width) 0 1) + 1)) width) = v_X1_addStandard A width ∧ (aset (m_X5_put A1 6 3 y2 width) 0 1 (((m_X5_put A1 6 3 y2 width) 0 1) + 1)) = m_X1_addStandard A width)))) ∧ (¬ y2 ≤ 0 → (hIn (y2 - 1) ∧ (((v_X5_cell A1 6 3 (y2 - 1)) ≤ width → (hIn (((m_X5_put A1 6 3 y2 width) 0 1) + 1) ∧ (p_X1_snappingTo (aset (m_X5_put A1 6 3 y2 width) 0 1 (((m_X5_put A1 6 3 y2 width) 0 1) + 1)) width ∧ ((v_X1_snappingTo (aset (m_X5_put A1 6 3 y2 width) 0 1 (((m_X5_put A1 6 3 y2 width) 0 1) + 1)) width) = v_X1_addStandard A width ∧ (aset (m_X5_put A1 6 3 y2 width) 0 1 (((m_X5_put A1 6 3 y2 width) 0 1) + 1)) = m_X1_addStandard A width)))) ∧ (¬ (v_X5_cell A1 6 3 (y2 - 1)) ≤ width → (hAt D ad cI cJ cF p l e ({ frames := 3, cells := 0, slots := 0, locals := 69 } : Room) s m args below meth c (MQ below (hQi D ad cI cJ cF (v_X1_addStandard A width) (gset S j (m_X1_addStandard A width))) args s 0 0 (hAd ad)) 3 41 [(0, .ref (ad j 0)), (1, .int (hI width)), (2, .int (hI (y2 + (-1))))] (gset S j (m_X5_put A1 6 3 y2 (v_X5_cell A1 6 3 (y2 - 1))))))))))) → (hAt D ad cI cJ cF p l e ({ frames := 3, cells := 0, slots := 0, locals := 69 } : Room) s m args below meth c (MQ below (hQi D ad cI cJ cF (v_X1_addStandard A width) (gset S j (m_X1_addStandard A width))) args s 0 0 (hAd ad)) 3 41 [(0, .ref (ad j 0)), (1, .int (hI width)), (2, .int (hI y2))] (gset S j A1)) := by
    intro y2 A1 h_y2 h H locs ls hh hl
    have h := h (fun i k hi => hIn_rd hh.2.1 (gset_at _ _ _) hi)
    refine lv_iload_n hx hb dX1_addStandard_41 rfl (lv_at hl 2 rfl) ?_
    refine iv_if_le (tgt := 83) hx hb h_y2 dX1_addStandard_42 (by decide) (fun c1 => ?_) (fun c1 => ?_)
    · have h := h.1 c1
      refine lv_aload_n hx hb dX1_addStandard_83 rfl (lv_at hl 0 rfl) ?_
      refine iv_get (v' := .ref (ad j 6)) hx hb hts inX1 hown hK hh.1 (ob_Font hj) rfl 9 (by decide) (hts _ q1_79) rfl rfl rfl dX1_addStandard_84 ?_
      refine lv_iload_n hx hb dX1_addStandard_87 rfl (lv_at hl 2 rfl) ?_
      refine lv_iload_n hx hb dX1_addStandard_88 rfl (lv_at hl 1 rfl) ?_
      refine iv_kv (iv_rN (As := [.ref (ad j 6), .int (hI y2), .int (hI width)]) (rest := []) E hh (ok_X5_put l hinj (gset S j A1) (ia_F_6 hj) A1 (gset_at _ _ _) y2 width h_y2 h_width) cb_X5_put q2_118 rfl rfl ⟨Nat.le_of_ble_eq_true rfl, Nat.le_of_ble_eq_true rfl⟩ rfl hl.1 rfl (Nat.le_of_ble_eq_true rfl) dX1_addStandard_89 ⟨Nat.zero_le _, Nat.zero_le _⟩) hh (fun H locs hh => ?_)
      replace hh : hH D ad cI cJ cF (gset S j (m_X5_put A1 6 3 y2 width)) s H locs := by rw [← show _ = (gset S j (m_X5_put A1 6 3 y2 width)) from (gset_gset _ _ _ _)]; exact hh
      refine lv_aload_n hx hb dX1_addStandard_92 rfl (lv_at hl 0 rfl) ?_
      refine lv_dup hx hb dX1_addStandard_93 rfl ?_
      refine iv_get (v' := .int (hI ((m_X5_put A1 6 3 y2 width) 0 1))) hx hb hts inX1 hown hK hh.1 (ob_Font hj) rfl 1 (by decide) (hts _ q1_59) rfl rfl (congrArg (fun z => Value.int (hI (z 0 1))) (gset_at _ _ _)) dX1_addStandard_94 ?_
      have hm2 : hIn ((m_X5_put A1 6 3 y2 width) 0 1) := hIn_rd hh.2.1 (gset_at _ _ _) (by decide)
      refine iv_iconst hx hb dX1_addStandard_97 ?_
      refine iv_iadd hx hb dX1_addStandard_98 ?_
      obtain ⟨g3, h⟩ := h
      refine iv_put (S' := (gset S j (aset (m_X5_put A1 6 3 y2 width) 0 1 (((m_X5_put A1 6 3 y2 width) 0 1) + 1)))) (ty := .int) hx hb hts inX1 tyX1 tyX1_ok nmX1 hown hK hinj hh (h112 (by omega)) (un_Font hj) (Or.inl rfl) (ob_Font hj) rfl 1 (by decide) (hts _ q1_59) rfl rfl (by decide +kernel) rfl rfl (Nat.le_of_ble_eq_true rfl) (pu_Font_standards hj) (Or.inl g3) (by rw [show (gset S j (m_X5_put A1 6 3 y2 width)) j = (m_X5_put A1 6 3 y2 width) from (gset_at _ _ _)]; exact (gset_gset _ _ _ _)) dX1_addStandard_99 (fun H locs hh => ?_)
      refine lv_aload_n hx hb dX1_addStandard_102 rfl (lv_at hl 0 rfl) ?_
      refine lv_iload_n hx hb dX1_addStandard_103 rfl (lv_at hl 1 rfl) ?_
      obtain ⟨g4, h⟩ := h
      refine iv_ki (iv_rV (As := [.int (hI width)]) (rest := []) E hh (ok_X1_snappingTo l hinj (gset S j (aset (m_X5_put A1 6 3 y2 width) 0 1 (((m_X5_put A1 6 3 y2 width) 0 1) + 1))) hj (aset (m_X5_put A1 6 3 y2 width) 0 1 (((m_X5_put A1 6 3 y2 width) 0 1) + 1)) (gset_at _ _ _) width h_width g4) cb_X1_snappingTo q2_190 rfl rfl ⟨Nat.le_of_ble_eq_true rfl, Nat.le_of_ble_eq_true rfl⟩ (ob_Font hj) rfl rfl rfl hl.1 rfl (Nat.le_of_ble_eq_true rfl) dX1_addStandard_104 ⟨Nat.zero_le _, Nat.zero_le _⟩) hh (fun hc5 H locs hh => ?_)
      exact iv_iret E hh h.1 (by rw [← h.1]; exact hc5) (by rw [← h.2]) dX1_addStandard_107
    · have h := h.2 c1
      refine lv_aload_n hx hb dX1_addStandard_45 rfl (lv_at hl 0 rfl) ?_
      refine iv_get (v' := .ref (ad j 6)) hx hb hts inX1 hown hK hh.1 (ob_Font hj) rfl 9 (by decide) (hts _ q1_79) rfl rfl rfl dX1_addStandard_46 ?_
      refine lv_iload_n hx hb dX1_addStandard_49 rfl (lv_at hl 2 rfl) ?_
      refine iv_iconst hx hb dX1_addStandard_50 ?_
      refine iv_isub hx hb dX1_addStandard_51 ?_
      obtain ⟨g6, h⟩ := h
      refine iv_ki (iv_rN (As := [.ref (ad j 6), .int (hI (y2 - 1))]) (rest := []) E hh (ok_X5_cell l hinj (gset S j A1) (ia_F_6 hj) A1 (gset_at _ _ _) (y2 - 1) g6) cb_X5_cell q2_10 rfl rfl ⟨Nat.le_of_ble_eq_true rfl, Nat.le_of_ble_eq_true rfl⟩ rfl hl.1 rfl (Nat.le_of_ble_eq_true rfl) dX1_addStandard_52 ⟨Nat.zero_le _, Nat.zero_le _⟩) hh (fun hc7 H locs hh => ?_)
      refine lv_iload_n hx hb dX1_addStandard_55 rfl (lv_at hl 1 rfl) ?_
      refine iv_icmp_le (tgt := 83) hx hb hc7 h_width dX1_addStandard_56 (by decide) (fun c8 => ?_) (fun c8 => ?_)
      · have h := h.1 c8
        refine lv_aload_n hx hb dX1_addStandard_83 rfl (lv_at hl 0 rfl) ?_
        refine iv_get (v' := .ref (ad j 6)) hx hb hts inX1 hown hK hh.1 (ob_Font hj) rfl 9 (by decide) (hts _ q1_79) rfl rfl rfl dX1_addStandard_84 ?_
        refine lv_iload_n hx hb dX1_addStandard_87 rfl (lv_at hl 2 rfl) ?_
        refine lv_iload_n hx hb dX1_addStandard_88 rfl (lv_at hl 1 rfl) ?_
        refine iv_kv (iv_rN (As := [.ref (ad j 6), .int (hI y2), .int (hI width)]) (rest := []) E hh (ok_X5_put l hinj (gset S j A1) (ia_F_6 hj) A1 (gset_at _ _ _) y2 width h_y2 h_width) cb_X5_put q2_118 rfl rfl ⟨Nat.le_of_ble_eq_true rfl, Nat.le_of_ble_eq_true rfl⟩ rfl hl.1 rfl (Nat.le_of_ble_eq_true rfl) dX1_addStandard_89 ⟨Nat.zero_le _, Nat.zero_le _⟩) hh (fun H locs hh => ?_)
        replace hh : hH D ad cI cJ cF (gset S j (m_X5_put A1 6 3 y2 width)) s H locs := by rw [← show _ = (gset S j (m_X5_put A1 6 3 y2 width)) from (gset_gset _ _ _ _)]; exact hh
        refine lv_aload_n hx hb dX1_addStandard_92 rfl (lv_at hl 0 rfl) ?_
        refine lv_dup hx hb dX1_addStandard_93 rfl ?_
        refine iv_get (v' := .int (hI ((m_X5_put A1 6 3 y2 width) 0 1))) hx hb hts inX1 hown hK hh.1 (ob_Font hj) rfl 1 (by decide) (hts _ q1_59) rfl rfl (congrArg (fun z => Value.int (hI (z 0 1))) (gset_at _ _ _)) dX1_addStandard_94 ?_
        have hm9 : hIn ((m_X5_put A1 6 3 y2 width) 0 1) := hIn_rd hh.2.1 (gset_at _ _ _) (by decide)
        refine iv_iconst hx hb dX1_addStandard_97 ?_
        refine iv_iadd hx hb dX1_addStandard_98 ?_
        obtain ⟨g10, h⟩ := h
        refine iv_put (S' := (gset S j (aset (m_X5_put A1 6 3 y2 width) 0 1 (((m_X5_put A1 6 3 y2 width) 0 1) + 1)))) (ty := .int) hx hb hts inX1 tyX1 tyX1_ok nmX1 hown hK hinj hh (h112 (by omega)) (un_Font hj) (Or.inl rfl) (ob_Font hj) rfl 1 (by decide) (hts _ q1_59) rfl rfl (by decide +kernel) rfl rfl (Nat.le_of_ble_eq_true rfl) (pu_Font_standards hj) (Or.inl g10) (by rw [show (gset S j (m_X5_put A1 6 3 y2 width)) j = (m_X5_put A1 6 3 y2 width) from (gset_at _ _ _)]; exact (gset_gset _ _ _ _)) dX1_addStandard_99 (fun H locs hh => ?_)
        refine lv_aload_n hx hb dX1_addStandard_102 rfl (lv_at hl 0 rfl) ?_
        refine lv_iload_n hx hb dX1_addStandard_103 rfl (lv_at hl 1 rfl) ?_
        obtain ⟨g11, h⟩ := h
        refine iv_ki (iv_rV (As := [.int (hI width)]) (rest := []) E hh (ok_X1_snappingTo l hinj (gset S j (aset (m_X5_put A1 6 3 y2 width) 0 1 (((m_X5_put A1 6 3 y2 width) 0 1) + 1))) hj (aset (m_X5_put A1 6 3 y2 width) 0 1 (((m_X5_put A1 6 3 y2 width) 0 1) + 1)) (gset_at _ _ _) width h_width g11) cb_X1_snappingTo q2_190 rfl rfl ⟨Nat.le_of_ble_eq_true rfl, Nat.le_of_ble_eq_true rfl⟩ (ob_Font hj) rfl rfl rfl hl.1 rfl (Nat.le_of_ble_eq_true rfl) dX1_addStandard_104 ⟨Nat.zero_le _, Nat.zero_le _⟩) hh (fun hc12 H locs hh => ?_)
        exact iv_iret E hh h.1 (by rw [← h.1]; exact hc12) (by rw [← h.2]) dX1_addStandard_107
      · have h := h.2 c8
        refine lv_aload_n hx hb dX1_addStandard_59 rfl (lv_at hl 0 rfl) ?_
        refine iv_get (v' := .ref (ad j 6)) hx hb hts inX1 hown hK hh.1 (ob_Font hj) rfl 9 (by decide) (hts _ q1_79) rfl rfl rfl dX1_addStandard_60 ?_
        refine lv_iload_n hx hb dX1_addStandard_63 rfl (lv_at hl 2 rfl) ?_
        refine lv_aload_n hx hb dX1_addStandard_64 rfl (lv_at hl 0 rfl) ?_
        refine iv_get (v' := .ref (ad j 6)) hx hb hts inX1 hown hK hh.1 (ob_Font hj) rfl 9 (by decide) (hts _ q1_79) rfl rfl rfl dX1_addStandard_65 ?_
        refine lv_iload_n hx hb dX1_addStandard_68 rfl (lv_at hl 2 rfl) ?_
        refine iv_iconst hx hb dX1_addStandard_69 ?_
        refine iv_isub hx hb dX1_addStandard_70 ?_
        refine iv_ki (iv_rN (As := [.ref (ad j 6), .int (hI (y2 - 1))]) (rest := [.int (hI y2), .ref (ad j 6)]) E hh (ok_X5_cell l hinj (gset S j A1) (ia_F_6 hj) A1 (gset_at _ _ _) (y2 - 1) g6) cb_X5_cell q2_10 rfl rfl ⟨Nat.le_of_ble_eq_true rfl, Nat.le_of_ble_eq_true rfl⟩ rfl hl.1 rfl (Nat.le_of_ble_eq_true rfl) dX1_addStandard_71 ⟨Nat.zero_le _, Nat.zero_le _⟩) hh (fun hc13 H locs hh => ?_)
        refine iv_kv (iv_rN (As := [.ref (ad j 6), .int (hI y2), .int (hI (v_X5_cell A1 6 3 (y2 - 1)))]) (rest := []) E hh (ok_X5_put l hinj (gset S j A1) (ia_F_6 hj) A1 (gset_at _ _ _) y2 (v_X5_cell A1 6 3 (y2 - 1)) h_y2 hc13) cb_X5_put q2_118 rfl rfl ⟨Nat.le_of_ble_eq_true rfl, Nat.le_of_ble_eq_true rfl⟩ rfl hl.1 rfl (Nat.le_of_ble_eq_true rfl) dX1_addStandard_74 ⟨Nat.zero_le _, Nat.zero_le _⟩) hh (fun H locs hh => ?_)
        replace hh : hH D ad cI cJ cF (gset S j (m_X5_put A1 6 3 y2 (v_X5_cell A1 6 3 (y2 - 1)))) s H locs := by rw [← show _ = (gset S j (m_X5_put A1 6 3 y2 (v_X5_cell A1 6 3 (y2 - 1)))) from (gset_gset _ _ _ _)]; exact hh
        refine iv_iinc (lv' := [(2, .int (hI (y2 + (-1)))), (0, .ref (ad j 0)), (1, .int (hI width))]) hx hb dX1_addStandard_77 hl (k := 2) rfl (v := (y2 + (-1))) rfl (by decide) rfl (fun ls hl => ?_)
        refine lv_goto (tgt := 41) hx hb dX1_addStandard_80 (by decide) ?_
        exact h H _ ls hh (lv_sub hl [1, 2, 0] rfl)
  intro H locs ls hh hl
  have hl : lv_has ls 3 [(0, .ref (ad j 0)), (1, .int (hI width))] := hl
  replace hh : hH D ad cI cJ cF (gset S j A) s H locs := by rw [← can1 hA]; exact hh
  have h := x_X1_addStandard A width h_width (fun i k hi => hIn_rd hh.2.1 (gset_at _ _ _) hi) hp (fun y2 A1 => (hAt D ad cI cJ cF p l e ({ frames := 3, cells := 0, slots := 0, locals := 69 } : Room) s m args below meth c (MQ below (hQi D ad cI cJ cF (v_X1_addStandard A width) (gset S j (m_X1_addStandard A width))) args s 0 0 (hAd ad)) 3 41 [(0, .ref (ad j 0)), (1, .int (hI width)), (2, .int (hI y2))] (gset S j A1))) (fun r A1 => (r = v_X1_addStandard A width ∧ A1 = m_X1_addStandard A width)) r41 ⟨rfl, rfl⟩
  refine lv_iload_n hx hb dX1_addStandard_0 rfl (lv_at hl 1 rfl) ?_
  refine iv_iconst hx hb dX1_addStandard_1 ?_
  refine lv_sipush (v := hI 300) hx hb dX1_addStandard_2 (by decide) ?_
  refine iv_ki (iv_rN (As := [.int (hI width), .int (hI 1), .int (hI 300)]) (rest := []) E hh (ok_X5_within l hinj (gset S j A) width 1 300 h_width ⟨by decide, by decide⟩ ⟨by decide, by decide⟩) cb_X5_within q2_115 rfl rfl ⟨Nat.le_of_ble_eq_true rfl, Nat.le_of_ble_eq_true rfl⟩ rfl hl.1 rfl (Nat.le_of_ble_eq_true rfl) dX1_addStandard_5 ⟨Nat.zero_le _, Nat.zero_le _⟩) hh (fun hc14 H locs hh => ?_)
  refine iv_if_ne (tgt := 14) hx hb hc14 dX1_addStandard_8 (by decide) (fun c15 => ?_) (fun c15 => ?_)
  · have h := h.2 c15
    refine lv_aload_n hx hb dX1_addStandard_14 rfl (lv_at hl 0 rfl) ?_
    refine lv_iload_n hx hb dX1_addStandard_15 rfl (lv_at hl 1 rfl) ?_
    obtain ⟨g16, h⟩ := h
    refine iv_ki (iv_rV (As := [.int (hI width)]) (rest := []) E hh (ok_X1_standardAt l hinj (gset S j A) hj A (gset_at _ _ _) width h_width g16) cb_X1_standardAt q2_186 rfl rfl ⟨Nat.le_of_ble_eq_true rfl, Nat.le_of_ble_eq_true rfl⟩ (ob_Font hj) rfl rfl rfl hl.1 rfl (Nat.le_of_ble_eq_true rfl) dX1_addStandard_16 ⟨Nat.zero_le _, Nat.zero_le _⟩) hh (fun hc17 H locs hh => ?_)
    refine iv_if_lt (tgt := 25) hx hb hc17 dX1_addStandard_19 (by decide) (fun c18 => ?_) (fun c18 => ?_)
    · have h := h.1 c18
      refine lv_aload_n hx hb dX1_addStandard_25 rfl (lv_at hl 0 rfl) ?_
      refine iv_get (v' := .int (hI (A 0 1))) hx hb hts inX1 hown hK hh.1 (ob_Font hj) rfl 1 (by decide) (hts _ q1_59) rfl rfl (congrArg (fun z => Value.int (hI (z 0 1))) (gset_at _ _ _)) dX1_addStandard_26 ?_
      have hm19 : hIn (A 0 1) := hIn_rd hh.2.1 (gset_at _ _ _) (by decide)
      refine iv_iconst hx hb dX1_addStandard_29 ?_
      refine iv_icmp_lt (tgt := 36) hx hb hm19 ⟨by decide, by decide⟩ dX1_addStandard_30 (by decide) (fun c20 => ?_) (fun c20 => ?_)
      · have h := h.1 c20
        refine lv_aload_n hx hb dX1_addStandard_36 rfl (lv_at hl 0 rfl) ?_
        refine iv_get (v' := .int (hI (A 0 1))) hx hb hts inX1 hown hK hh.1 (ob_Font hj) rfl 1 (by decide) (hts _ q1_59) rfl rfl (congrArg (fun z => Value.int (hI (z 0 1))) (gset_at _ _ _)) dX1_addStandard_37 ?_
        have hm21 : hIn (A 0 1) := hIn_rd hh.2.1 (gset_at _ _ _) (by decide)
        refine lv_istore_n (lv' := [(2, .int (hI (A 0 1))), (0, .ref (ad j 0)), (1, .int (hI width))]) hx hb dX1_addStandard_40 rfl hl (by decide) rfl (fun ls hl => ?_)
        exact h H _ ls hh (lv_sub hl [1, 2, 0] rfl)
      · have h := h.2 c20
        refine iv_ldc (n := (-1000003)) hx hb (by decide) hown (hts _ q2_117) dX1_addStandard_33 ?_
        exact iv_iret E hh h.1 (by rw [← h.1]; exact ⟨by decide, by decide⟩) (by rw [← h.2]) dX1_addStandard_35
    · have h := h.2 c18
      refine iv_ldc (n := (-1000002)) hx hb (by decide) hown (hts _ q2_144) dX1_addStandard_22 ?_
      exact iv_iret E hh h.1 (by rw [← h.1]; exact ⟨by decide, by decide⟩) (by rw [← h.2]) dX1_addStandard_24
  · have h := h.1 c15
    refine iv_ldc (n := (-1000001)) hx hb (by decide) hown (hts _ q2_116) dX1_addStandard_11 ?_
    exact iv_iret E hh h.1 (by rw [← h.1]; exact ⟨by decide, by decide⟩) (by rw [← h.2]) dX1_addStandard_13
set_option maxHeartbeats 4000000 in
set_option maxRecDepth 100000 in
theorem ok_X1_dropStandard (l : Launch) (hinj : hInj ad) (S : hS) {j : Nat} (hj : j < 7) (A : hGM) (hA : S j = A) (width : Int) (h_width : hIn width) (hp : p_X1_dropStandard A width) : hMi D ad cI cJ cF l yX1_dropStandard cX1_dropStandard 4 (some .int) ({ frames := 2, cells := 0, slots := 0, locals := 43 } : Room) [.ref (ad j 0), .int (hI width)] S (v_X1_dropStandard A width) (gset S j (m_X1_dropStandard A width)) := by
  refine hOf (S := S) l hinj (by decide +kernel) (Nat.le_of_ble_eq_true rfl) (fun p e s m args below meth c E => ?_)
  obtain ⟨hx, hb, hml, hown, hts, hK, hN, -, hr, hlk, hz⟩ := id E
  have hown : s.vm.findClass RX1 = some m.cls := hown
  have r39 : ∀ (y3 : Int) (A1 : hGM), hIn y3 → ((∀ (i : Nat) (k : Int), i < 100 → hIn (A1 i k)) → ((y3 < (A1 0 1) → (hIn (y3 + 1) ∧ (hAt D ad cI cJ cF p l e ({ frames := 2, cells := 0, slots := 0, locals := 43 } : Room) s m args below meth c (MQ below (hQi D ad cI cJ cF (v_X1_dropStandard A width) (gset S j (m_X1_dropStandard A width))) args s 0 0 (hAd ad)) 4 39 [(0, .ref (ad j 0)), (3, .int (hI (y3 + 1)))] (gset S j (m_X5_put A1 6 3 y3 (v_X5_cell A1 6 3 (y3 + 1))))))) ∧ (¬ y3 < (A1 0 1) → (((m_X5_put A1 6 3 (A1 0 1) 0) 0 1) = v_X1_dropStandard A width ∧ (m_X5_put A1 6 3 (A1 0 1) 0) = m_X1_dropStandard A width)))) → (hAt D ad cI cJ cF p l e ({ frames := 2, cells := 0, slots := 0, locals := 43 } : Room) s m args below meth c (MQ below (hQi D ad cI cJ cF (v_X1_dropStandard A width) (gset S j (m_X1_dropStandard A width))) args s 0 0 (hAd ad)) 4 39 [(0, .ref (ad j 0)), (3, .int (hI y3))] (gset S j A1)) := by
    intro y3 A1 h_y3 h H locs ls hh hl
    have h := h (fun i k hi => hIn_rd hh.2.1 (gset_at _ _ _) hi)
    refine lv_iload_n hx hb dX1_dropStandard_39 rfl (lv_at hl 1 rfl) ?_
    refine lv_aload_n hx hb dX1_dropStandard_40 rfl (lv_at hl 0 rfl) ?_
    refine iv_get (v' := .int (hI (A1 0 1))) hx hb hts inX1 hown hK hh.1 (ob_Font hj) rfl 1 (by decide) (hts _ q1_59) rfl rfl (congrArg (fun z => Value.int (hI (z 0 1))) (gset_at _ _ _)) dX1_dropStandard_41 ?_
    have hm1 : hIn (A1 0 1) := hIn_rd hh.2.1 (gset_at _ _ _) (by decide)
    refine iv_icmp_ge (tgt := 71) hx hb h_y3 hm1 dX1_dropStandard_44 (by decide) (fun c2 => ?_) (fun c2 => ?_)
    · have h := h.2 c2
      refine lv_aload_n hx hb dX1_dropStandard_71 rfl (lv_at hl 0 rfl) ?_
      refine iv_get (v' := .ref (ad j 6)) hx hb hts inX1 hown hK hh.1 (ob_Font hj) rfl 9 (by decide) (hts _ q1_79) rfl rfl rfl dX1_dropStandard_72 ?_
      refine lv_aload_n hx hb dX1_dropStandard_75 rfl (lv_at hl 0 rfl) ?_
      refine iv_get (v' := .int (hI (A1 0 1))) hx hb hts inX1 hown hK hh.1 (ob_Font hj) rfl 1 (by decide) (hts _ q1_59) rfl rfl (congrArg (fun z => Value.int (hI (z 0 1))) (gset_at _ _ _)) dX1_dropStandard_76 ?_
      have hm3 : hIn (A1 0 1) := hIn_rd hh.2.1 (gset_at _ _ _) (by decide)
      refine iv_iconst hx hb dX1_dropStandard_79 ?_
      refine iv_kv (iv_rN (As := [.ref (ad j 6), .int (hI (A1 0 1)), .int (hI 0)]) (rest := []) E hh (ok_X5_put l hinj (gset S j A1) (ia_F_6 hj) A1 (gset_at _ _ _) (A1 0 1) 0 hm3 ⟨by decide, by decide⟩) cb_X5_put q2_118 rfl rfl ⟨Nat.le_of_ble_eq_true rfl, Nat.le_of_ble_eq_true rfl⟩ rfl hl.1 rfl (Nat.le_of_ble_eq_true rfl) dX1_dropStandard_80 ⟨Nat.zero_le _, Nat.zero_le _⟩) hh (fun H locs hh => ?_)
      replace hh : hH D ad cI cJ cF (gset S j (m_X5_put A1 6 3 (A1 0 1) 0)) s H locs := by rw [← show _ = (gset S j (m_X5_put A1 6 3 (A1 0 1) 0)) from (gset_gset _ _ _ _)]; exact hh
      refine lv_aload_n hx hb dX1_dropStandard_83 rfl (lv_at hl 0 rfl) ?_
      refine iv_get (v' := .int (hI ((m_X5_put A1 6 3 (A1 0 1) 0) 0 1))) hx hb hts inX1 hown hK hh.1 (ob_Font hj) rfl 1 (by decide) (hts _ q1_59) rfl rfl (congrArg (fun z => Value.int (hI (z 0 1))) (gset_at _ _ _)) dX1_dropStandard_84 ?_
      have hm4 : hIn ((m_X5_put A1 6 3 (A1 0 1) 0) 0 1) := hIn_rd hh.2.1 (gset_at _ _ _) (by decide)
      exact iv_iret E hh h.1 (by rw [← h.1]; exact hm4) (by rw [← h.2]) dX1_dropStandard_87
    · have h := h.1 c2
      refine lv_aload_n hx hb dX1_dropStandard_47 rfl (lv_at hl 0 rfl) ?_
      refine iv_get (v' := .ref (ad j 6)) hx hb hts inX1 hown hK hh.1 (ob_Font hj) rfl 9 (by decide) (hts _ q1_79) rfl rfl rfl dX1_dropStandard_48 ?_
      refine lv_iload_n hx hb dX1_dropStandard_51 rfl (lv_at hl 1 rfl) ?_
      refine lv_aload_n hx hb dX1_dropStandard_52 rfl (lv_at hl 0 rfl) ?_
      refine iv_get (v' := .ref (ad j 6)) hx hb hts inX1 hown hK hh.1 (ob_Font hj) rfl 9 (by decide) (hts _ q1_79) rfl rfl rfl dX1_dropStandard_53 ?_
      refine lv_iload_n hx hb dX1_dropStandard_56 rfl (lv_at hl 1 rfl) ?_
      refine iv_iconst hx hb dX1_dropStandard_57 ?_
      refine iv_iadd hx hb dX1_dropStandard_58 ?_
      obtain ⟨g5, h⟩ := h
      refine iv_ki (iv_rN (As := [.ref (ad j 6), .int (hI (y3 + 1))]) (rest := [.int (hI y3), .ref (ad j 6)]) E hh (ok_X5_cell l hinj (gset S j A1) (ia_F_6 hj) A1 (gset_at _ _ _) (y3 + 1) g5) cb_X5_cell q2_10 rfl rfl ⟨Nat.le_of_ble_eq_true rfl, Nat.le_of_ble_eq_true rfl⟩ rfl hl.1 rfl (Nat.le_of_ble_eq_true rfl) dX1_dropStandard_59 ⟨Nat.zero_le _, Nat.zero_le _⟩) hh (fun hc6 H locs hh => ?_)
      refine iv_kv (iv_rN (As := [.ref (ad j 6), .int (hI y3), .int (hI (v_X5_cell A1 6 3 (y3 + 1)))]) (rest := []) E hh (ok_X5_put l hinj (gset S j A1) (ia_F_6 hj) A1 (gset_at _ _ _) y3 (v_X5_cell A1 6 3 (y3 + 1)) h_y3 hc6) cb_X5_put q2_118 rfl rfl ⟨Nat.le_of_ble_eq_true rfl, Nat.le_of_ble_eq_true rfl⟩ rfl hl.1 rfl (Nat.le_of_ble_eq_true rfl) dX1_dropStandard_62 ⟨Nat.zero_le _, Nat.zero_le _⟩) hh (fun H locs hh => ?_)
      replace hh : hH D ad cI cJ cF (gset S j (m_X5_put A1 6 3 y3 (v_X5_cell A1 6 3 (y3 + 1)))) s H locs := by rw [← show _ = (gset S j (m_X5_put A1 6 3 y3 (v_X5_cell A1 6 3 (y3 + 1)))) from (gset_gset _ _ _ _)]; exact hh
      refine iv_iinc (lv' := [(3, .int (hI (y3 + 1))), (0, .ref (ad j 0))]) hx hb dX1_dropStandard_65 hl (k := 1) rfl (v := (y3 + 1)) rfl (by decide) rfl (fun ls hl => ?_)
      refine lv_goto (tgt := 39) hx hb dX1_dropStandard_68 (by decide) ?_
      exact h H _ ls hh (lv_sub hl [1, 0] rfl)
  intro H locs ls hh hl
  have hl : lv_has ls 4 [(0, .ref (ad j 0)), (1, .int (hI width))] := hl
  replace hh : hH D ad cI cJ cF (gset S j A) s H locs := by rw [← can1 hA]; exact hh
  have h := x_X1_dropStandard A width h_width (fun i k hi => hIn_rd hh.2.1 (gset_at _ _ _) hi) hp (fun y3 A1 => (hAt D ad cI cJ cF p l e ({ frames := 2, cells := 0, slots := 0, locals := 43 } : Room) s m args below meth c (MQ below (hQi D ad cI cJ cF (v_X1_dropStandard A width) (gset S j (m_X1_dropStandard A width))) args s 0 0 (hAd ad)) 4 39 [(0, .ref (ad j 0)), (3, .int (hI y3))] (gset S j A1))) (fun r A1 => (r = v_X1_dropStandard A width ∧ A1 = m_X1_dropStandard A width)) r39 ⟨rfl, rfl⟩
  refine lv_iload_n hx hb dX1_dropStandard_0 rfl (lv_at hl 1 rfl) ?_
  refine iv_iconst hx hb dX1_dropStandard_1 ?_
  refine lv_sipush (v := hI 300) hx hb dX1_dropStandard_2 (by decide) ?_
  refine iv_ki (iv_rN (As := [.int (hI width), .int (hI 1), .int (hI 300)]) (rest := []) E hh (ok_X5_within l hinj (gset S j A) width 1 300 h_width ⟨by decide, by decide⟩ ⟨by decide, by decide⟩) cb_X5_within q2_115 rfl rfl ⟨Nat.le_of_ble_eq_true rfl, Nat.le_of_ble_eq_true rfl⟩ rfl hl.1 rfl (Nat.le_of_ble_eq_true rfl) dX1_dropStandard_5 ⟨Nat.zero_le _, Nat.zero_le _⟩) hh (fun hc7 H locs hh => ?_)
  refine iv_if_ne (tgt := 14) hx hb hc7 dX1_dropStandard_8 (by decide) (fun c8 => ?_) (fun c8 => ?_)
  · have h := h.2 c8
    refine lv_aload_n hx hb dX1_dropStandard_14 rfl (lv_at hl 0 rfl) ?_
    refine lv_iload_n hx hb dX1_dropStandard_15 rfl (lv_at hl 1 rfl) ?_
    obtain ⟨g9, h⟩ := h
    refine iv_ki (iv_rV (As := [.int (hI width)]) (rest := []) E hh (ok_X1_standardAt l hinj (gset S j A) hj A (gset_at _ _ _) width h_width g9) cb_X1_standardAt q2_186 rfl rfl ⟨Nat.le_of_ble_eq_true rfl, Nat.le_of_ble_eq_true rfl⟩ (ob_Font hj) rfl rfl rfl hl.1 rfl (Nat.le_of_ble_eq_true rfl) dX1_dropStandard_16 ⟨Nat.zero_le _, Nat.zero_le _⟩) hh (fun hc10 H locs hh => ?_)
    refine lv_istore_n (lv' := [(2, .int (hI (v_X1_standardAt A width))), (0, .ref (ad j 0)), (1, .int (hI width))]) hx hb dX1_dropStandard_19 rfl hl (by decide) rfl (fun ls hl => ?_)
    refine lv_iload_n hx hb dX1_dropStandard_20 rfl (lv_at hl 0 rfl) ?_
    refine iv_if_ge (tgt := 27) hx hb hc10 dX1_dropStandard_21 (by decide) (fun c11 => ?_) (fun c11 => ?_)
    · have h := h.2 c11
      refine lv_aload_n hx hb dX1_dropStandard_27 rfl (lv_at hl 1 rfl) ?_
      refine lv_dup hx hb dX1_dropStandard_28 rfl ?_
      refine iv_get (v' := .int (hI (A 0 1))) hx hb hts inX1 hown hK hh.1 (ob_Font hj) rfl 1 (by decide) (hts _ q1_59) rfl rfl (congrArg (fun z => Value.int (hI (z 0 1))) (gset_at _ _ _)) dX1_dropStandard_29 ?_
      have hm12 : hIn (A 0 1) := hIn_rd hh.2.1 (gset_at _ _ _) (by decide)
      refine iv_iconst hx hb dX1_dropStandard_32 ?_
      refine iv_isub hx hb dX1_dropStandard_33 ?_
      obtain ⟨g13, h⟩ := h
      refine iv_put (S' := (gset S j (aset A 0 1 ((A 0 1) - 1)))) (ty := .int) hx hb hts inX1 tyX1 tyX1_ok nmX1 hown hK hinj hh (h112 (by omega)) (un_Font hj) (Or.inl rfl) (ob_Font hj) rfl 1 (by decide) (hts _ q1_59) rfl rfl (by decide +kernel) rfl rfl (Nat.le_of_ble_eq_true rfl) (pu_Font_standards hj) (Or.inl g13) (by rw [show (gset S j A) j = A from (gset_at _ _ _)]; exact (gset_gset _ _ _ _)) dX1_dropStandard_34 (fun H locs hh => ?_)
      refine lv_iload_n hx hb dX1_dropStandard_37 rfl (lv_at hl 0 rfl) ?_
      refine lv_istore_n (lv' := [(3, .int (hI (v_X1_standardAt A width))), (2, .int (hI (v_X1_standardAt A width))), (0, .ref (ad j 0)), (1, .int (hI width))]) hx hb dX1_dropStandard_38 rfl hl (by decide) rfl (fun ls hl => ?_)
      exact h H _ ls hh (lv_sub hl [2, 0] rfl)
    · have h := h.1 c11
      refine iv_ldc (n := (-1000002)) hx hb (by decide) hown (hts _ q2_144) dX1_dropStandard_24 ?_
      exact iv_iret E hh h.1 (by rw [← h.1]; exact ⟨by decide, by decide⟩) (by rw [← h.2]) dX1_dropStandard_26
  · have h := h.1 c8
    refine iv_ldc (n := (-1000001)) hx hb (by decide) hown (hts _ q2_116) dX1_dropStandard_11 ?_
    exact iv_iret E hh h.1 (by rw [← h.1]; exact ⟨by decide, by decide⟩) (by rw [← h.2]) dX1_dropStandard_13
set_option maxHeartbeats 4000000 in
set_option maxRecDepth 100000 in
theorem ok_X1_changeSetting (l : Launch) (hinj : hInj ad) (S : hS) {j : Nat} (hj : j < 7) (A : hGM) (hA : S j = A) (what : Int) (value : Int) (h_what : hIn what) (h_value : hIn value) : hMi D ad cI cJ cF l yX1_changeSetting cX1_changeSetting 4 (some .int) ({ frames := 1, cells := 0, slots := 0, locals := 22 } : Room) [.ref (ad j 0), .int (hI what), .int (hI value)] S (v_X1_changeSetting A what value) (gset S j (m_X1_changeSetting A what value)) := by
  refine hOf (S := S) l hinj (by decide +kernel) (Nat.le_of_ble_eq_true rfl) (fun p e s m args below meth c E => ?_)
  obtain ⟨hx, hb, hml, hown, hts, hK, hN, -, hr, hlk, hz⟩ := id E
  have hown : s.vm.findClass RX1 = some m.cls := hown
  intro H locs ls hh hl
  have hl : lv_has ls 4 [(0, .ref (ad j 0)), (1, .int (hI what)), (2, .int (hI value))] := hl
  replace hh : hH D ad cI cJ cF (gset S j A) s H locs := by rw [← can1 hA]; exact hh
  refine lv_iload_n hx hb dX1_changeSetting_0 rfl (lv_at hl 1 rfl) ?_
  refine iv_if_ne (tgt := 26) hx hb h_what dX1_changeSetting_1 (by decide) (fun c1 => ?_) (fun c1 => ?_)
  · refine lv_iload_n hx hb dX1_changeSetting_26 rfl (lv_at hl 1 rfl) ?_
    refine iv_iconst hx hb dX1_changeSetting_27 ?_
    refine iv_icmp_ne (tgt := 52) hx hb h_what ⟨by decide, by decide⟩ dX1_changeSetting_28 (by decide) (fun c2 => ?_) (fun c2 => ?_)
    · refine iv_ldc (n := (-1000001)) hx hb (by decide) hown (hts _ q2_116) dX1_changeSetting_52 ?_
      exact iv_iret E hh (by unfold v_X1_changeSetting; rw [if_neg c1, if_neg c2]) (by rw [← show (-1000001) = v_X1_changeSetting A what value from (by unfold v_X1_changeSetting; rw [if_neg c1, if_neg c2])]; exact ⟨by decide, by decide⟩) (by unfold m_X1_changeSetting; rw [if_neg c1, if_neg c2]) dX1_changeSetting_54
    · refine lv_iload_n hx hb dX1_changeSetting_31 rfl (lv_at hl 2 rfl) ?_
      refine iv_iconst hx hb dX1_changeSetting_32 ?_
      refine iv_iconst hx hb dX1_changeSetting_33 ?_
      refine iv_ki (iv_rN (As := [.int (hI value), .int (hI 0), .int (hI 3)]) (rest := []) E hh (ok_X5_within l hinj (gset S j A) value 0 3 h_value ⟨by decide, by decide⟩ ⟨by decide, by decide⟩) cb_X5_within q2_115 rfl rfl ⟨Nat.le_of_ble_eq_true rfl, Nat.le_of_ble_eq_true rfl⟩ rfl hl.1 rfl (Nat.le_of_ble_eq_true rfl) dX1_changeSetting_34 ⟨Nat.zero_le _, Nat.zero_le _⟩) hh (fun hc3 H locs hh => ?_)
      refine iv_if_eq (tgt := 52) hx hb hc3 dX1_changeSetting_37 (by decide) (fun c4 => ?_) (fun c4 => ?_)
      · refine iv_ldc (n := (-1000001)) hx hb (by decide) hown (hts _ q2_116) dX1_changeSetting_52 ?_
        exact iv_iret E hh (by unfold v_X1_changeSetting; rw [if_neg c1, if_pos c2, if_pos c4]) (by rw [← show (-1000001) = v_X1_changeSetting A what value from (by unfold v_X1_changeSetting; rw [if_neg c1, if_pos c2, if_pos c4])]; exact ⟨by decide, by decide⟩) (by unfold m_X1_changeSetting; rw [if_neg c1, if_pos c2, if_pos c4]) dX1_changeSetting_54
      · refine lv_aload_n hx hb dX1_changeSetting_40 rfl (lv_at hl 0 rfl) ?_
        refine iv_get (v' := .int (hI (A 0 3))) hx hb hts inX1 hown hK hh.1 (ob_Font hj) rfl 3 (by decide) (hts _ q1_63) rfl rfl (congrArg (fun z => Value.int (hI (z 0 3))) (gset_at _ _ _)) dX1_changeSetting_41 ?_
        have hm5 : hIn (A 0 3) := hIn_rd hh.2.1 (gset_at _ _ _) (by decide)
        refine lv_istore_n (lv' := [(3, .int (hI (A 0 3))), (0, .ref (ad j 0)), (1, .int (hI what)), (2, .int (hI value))]) hx hb dX1_changeSetting_44 rfl hl (by decide) rfl (fun ls hl => ?_)
        refine lv_aload_n hx hb dX1_changeSetting_45 rfl (lv_at hl 1 rfl) ?_
        refine lv_iload_n hx hb dX1_changeSetting_46 rfl (lv_at hl 3 rfl) ?_
        refine iv_put (S' := (gset S j (aset A 0 3 value))) (ty := .int) hx hb hts inX1 tyX1 tyX1_ok nmX1 hown hK hinj hh (h112 (by omega)) (un_Font hj) (Or.inl rfl) (ob_Font hj) rfl 3 (by decide) (hts _ q1_63) rfl rfl (by decide +kernel) rfl rfl (Nat.le_of_ble_eq_true rfl) (pu_Font_leastGap hj) (Or.inl h_value) (by rw [show (gset S j A) j = A from (gset_at _ _ _)]; exact (gset_gset _ _ _ _)) dX1_changeSetting_47 (fun H locs hh => ?_)
        refine lv_iload_n hx hb dX1_changeSetting_50 rfl (lv_at hl 0 rfl) ?_
        exact iv_iret E hh (by unfold v_X1_changeSetting; rw [if_neg c1, if_pos c2, if_neg c4]) (by rw [← show (A 0 3) = v_X1_changeSetting A what value from (by unfold v_X1_changeSetting; rw [if_neg c1, if_pos c2, if_neg c4])]; exact hm5) (by unfold m_X1_changeSetting; rw [if_neg c1, if_pos c2, if_neg c4]) dX1_changeSetting_51
  · refine lv_iload_n hx hb dX1_changeSetting_4 rfl (lv_at hl 2 rfl) ?_
    refine iv_iconst hx hb dX1_changeSetting_5 ?_
    refine lv_bipush (v := hI 100) hx hb dX1_changeSetting_6 (by decide) ?_
    refine iv_ki (iv_rN (As := [.int (hI value), .int (hI 0), .int (hI 100)]) (rest := []) E hh (ok_X5_within l hinj (gset S j A) value 0 100 h_value ⟨by decide, by decide⟩ ⟨by decide, by decide⟩) cb_X5_within q2_115 rfl rfl ⟨Nat.le_of_ble_eq_true rfl, Nat.le_of_ble_eq_true rfl⟩ rfl hl.1 rfl (Nat.le_of_ble_eq_true rfl) dX1_changeSetting_8 ⟨Nat.zero_le _, Nat.zero_le _⟩) hh (fun hc6 H locs hh => ?_)
    refine iv_if_eq (tgt := 26) hx hb hc6 dX1_changeSetting_11 (by decide) (fun c7 => ?_) (fun c7 => ?_)
    · refine lv_iload_n hx hb dX1_changeSetting_26 rfl (lv_at hl 1 rfl) ?_
      refine iv_iconst hx hb dX1_changeSetting_27 ?_
      refine iv_icmp_ne (tgt := 52) hx hb h_what ⟨by decide, by decide⟩ dX1_changeSetting_28 (by decide) (fun c8 => ?_) (fun c8 => ?_)
      · refine iv_ldc (n := (-1000001)) hx hb (by decide) hown (hts _ q2_116) dX1_changeSetting_52 ?_
        exact iv_iret E hh (by unfold v_X1_changeSetting; rw [if_pos c1, if_pos c7, if_neg c8]) (by rw [← show (-1000001) = v_X1_changeSetting A what value from (by unfold v_X1_changeSetting; rw [if_pos c1, if_pos c7, if_neg c8])]; exact ⟨by decide, by decide⟩) (by unfold m_X1_changeSetting; rw [if_pos c1, if_pos c7, if_neg c8]) dX1_changeSetting_54
      · refine lv_iload_n hx hb dX1_changeSetting_31 rfl (lv_at hl 2 rfl) ?_
        refine iv_iconst hx hb dX1_changeSetting_32 ?_
        refine iv_iconst hx hb dX1_changeSetting_33 ?_
        refine iv_ki (iv_rN (As := [.int (hI value), .int (hI 0), .int (hI 3)]) (rest := []) E hh (ok_X5_within l hinj (gset S j A) value 0 3 h_value ⟨by decide, by decide⟩ ⟨by decide, by decide⟩) cb_X5_within q2_115 rfl rfl ⟨Nat.le_of_ble_eq_true rfl, Nat.le_of_ble_eq_true rfl⟩ rfl hl.1 rfl (Nat.le_of_ble_eq_true rfl) dX1_changeSetting_34 ⟨Nat.zero_le _, Nat.zero_le _⟩) hh (fun hc9 H locs hh => ?_)
        refine iv_if_eq (tgt := 52) hx hb hc9 dX1_changeSetting_37 (by decide) (fun c10 => ?_) (fun c10 => ?_)
        · refine iv_ldc (n := (-1000001)) hx hb (by decide) hown (hts _ q2_116) dX1_changeSetting_52 ?_
          exact iv_iret E hh (by unfold v_X1_changeSetting; rw [if_pos c1, if_pos c7, if_pos c8, if_pos c10]) (by rw [← show (-1000001) = v_X1_changeSetting A what value from (by unfold v_X1_changeSetting; rw [if_pos c1, if_pos c7, if_pos c8, if_pos c10])]; exact ⟨by decide, by decide⟩) (by unfold m_X1_changeSetting; rw [if_pos c1, if_pos c7, if_pos c8, if_pos c10]) dX1_changeSetting_54
        · refine lv_aload_n hx hb dX1_changeSetting_40 rfl (lv_at hl 0 rfl) ?_
          refine iv_get (v' := .int (hI (A 0 3))) hx hb hts inX1 hown hK hh.1 (ob_Font hj) rfl 3 (by decide) (hts _ q1_63) rfl rfl (congrArg (fun z => Value.int (hI (z 0 3))) (gset_at _ _ _)) dX1_changeSetting_41 ?_
          have hm11 : hIn (A 0 3) := hIn_rd hh.2.1 (gset_at _ _ _) (by decide)
          refine lv_istore_n (lv' := [(3, .int (hI (A 0 3))), (0, .ref (ad j 0)), (1, .int (hI what)), (2, .int (hI value))]) hx hb dX1_changeSetting_44 rfl hl (by decide) rfl (fun ls hl => ?_)
          refine lv_aload_n hx hb dX1_changeSetting_45 rfl (lv_at hl 1 rfl) ?_
          refine lv_iload_n hx hb dX1_changeSetting_46 rfl (lv_at hl 3 rfl) ?_
          refine iv_put (S' := (gset S j (aset A 0 3 value))) (ty := .int) hx hb hts inX1 tyX1 tyX1_ok nmX1 hown hK hinj hh (h112 (by omega)) (un_Font hj) (Or.inl rfl) (ob_Font hj) rfl 3 (by decide) (hts _ q1_63) rfl rfl (by decide +kernel) rfl rfl (Nat.le_of_ble_eq_true rfl) (pu_Font_leastGap hj) (Or.inl h_value) (by rw [show (gset S j A) j = A from (gset_at _ _ _)]; exact (gset_gset _ _ _ _)) dX1_changeSetting_47 (fun H locs hh => ?_)
          refine lv_iload_n hx hb dX1_changeSetting_50 rfl (lv_at hl 0 rfl) ?_
          exact iv_iret E hh (by unfold v_X1_changeSetting; rw [if_pos c1, if_pos c7, if_pos c8, if_neg c10]) (by rw [← show (A 0 3) = v_X1_changeSetting A what value from (by unfold v_X1_changeSetting; rw [if_pos c1, if_pos c7, if_pos c8, if_neg c10])]; exact hm11) (by unfold m_X1_changeSetting; rw [if_pos c1, if_pos c7, if_pos c8, if_neg c10]) dX1_changeSetting_51
    · refine lv_aload_n hx hb dX1_changeSetting_14 rfl (lv_at hl 0 rfl) ?_
      refine iv_get (v' := .int (hI (A 0 2))) hx hb hts inX1 hown hK hh.1 (ob_Font hj) rfl 2 (by decide) (hts _ q1_61) rfl rfl (congrArg (fun z => Value.int (hI (z 0 2))) (gset_at _ _ _)) dX1_changeSetting_15 ?_
      have hm12 : hIn (A 0 2) := hIn_rd hh.2.1 (gset_at _ _ _) (by decide)
      refine lv_istore_n (lv' := [(3, .int (hI (A 0 2))), (0, .ref (ad j 0)), (1, .int (hI what)), (2, .int (hI value))]) hx hb dX1_changeSetting_18 rfl hl (by decide) rfl (fun ls hl => ?_)
      refine lv_aload_n hx hb dX1_changeSetting_19 rfl (lv_at hl 1 rfl) ?_
      refine lv_iload_n hx hb dX1_changeSetting_20 rfl (lv_at hl 3 rfl) ?_
      refine iv_put (S' := (gset S j (aset A 0 2 value))) (ty := .int) hx hb hts inX1 tyX1 tyX1_ok nmX1 hown hK hinj hh (h112 (by omega)) (un_Font hj) (Or.inl rfl) (ob_Font hj) rfl 2 (by decide) (hts _ q1_61) rfl rfl (by decide +kernel) rfl rfl (Nat.le_of_ble_eq_true rfl) (pu_Font_cutoff hj) (Or.inl h_value) (by rw [show (gset S j A) j = A from (gset_at _ _ _)]; exact (gset_gset _ _ _ _)) dX1_changeSetting_21 (fun H locs hh => ?_)
      refine lv_iload_n hx hb dX1_changeSetting_24 rfl (lv_at hl 0 rfl) ?_
      exact iv_iret E hh (by unfold v_X1_changeSetting; rw [if_pos c1, if_neg c7]) (by rw [← show (A 0 2) = v_X1_changeSetting A what value from (by unfold v_X1_changeSetting; rw [if_pos c1, if_neg c7])]; exact hm12) (by unfold m_X1_changeSetting; rw [if_pos c1, if_neg c7]) dX1_changeSetting_25
set_option maxHeartbeats 4000000 in
set_option maxRecDepth 100000 in
theorem ok_X1_hintedWidth (l : Launch) (hinj : hInj ad) (S : hS) {j : Nat} (hj : j < 7) (A : hGM) (hA : S j = A) (width : Int) (h_width : hIn width) (hp : p_X1_hintedWidth A width) : hMi D ad cI cJ cF l yX1_hintedWidth cX1_hintedWidth 3 (some .int) ({ frames := 2, cells := 0, slots := 0, locals := 46 } : Room) [.ref (ad j 0), .int (hI width)] S (v_X1_hintedWidth A width) S := by
  refine hOf (S := S) l hinj (by decide +kernel) (Nat.le_of_ble_eq_true rfl) (fun p e s m args below meth c E => ?_)
  obtain ⟨hx, hb, hml, hown, hts, hK, hN, -, hr, hlk, hz⟩ := id E
  have hown : s.vm.findClass RX1 = some m.cls := hown
  intro H locs ls hh hl
  have hl : lv_has ls 3 [(0, .ref (ad j 0)), (1, .int (hI width))] := hl
  have h := hp
  unfold p_X1_hintedWidth at h
  refine lv_aload_n hx hb dX1_hintedWidth_0 rfl (lv_at hl 0 rfl) ?_
  refine lv_iload_n hx hb dX1_hintedWidth_1 rfl (lv_at hl 1 rfl) ?_
  obtain ⟨g1, h⟩ := h
  refine iv_ki (iv_rV (As := [.int (hI width)]) (rest := []) E hh (ok_X1_snapOf l hinj S hj A hA width h_width g1) cb_X1_snapOf q2_35 rfl rfl ⟨Nat.le_of_ble_eq_true rfl, Nat.le_of_ble_eq_true rfl⟩ (ob_Font hj) rfl rfl rfl hl.1 rfl (Nat.le_of_ble_eq_true rfl) dX1_hintedWidth_2 ⟨Nat.zero_le _, Nat.zero_le _⟩) hh (fun hc2 H locs hh => ?_)
  refine lv_istore_n (lv' := [(2, .int (hI (v_X1_snapOf A width))), (0, .ref (ad j 0)), (1, .int (hI width))]) hx hb dX1_hintedWidth_5 rfl hl (by decide) rfl (fun ls hl => ?_)
  refine lv_iload_n hx hb dX1_hintedWidth_6 rfl (lv_at hl 0 rfl) ?_
  refine iv_if_ne (tgt := 14) hx hb hc2 dX1_hintedWidth_7 (by decide) (fun c3 => ?_) (fun c3 => ?_)
  · have h := h.2 c3
    refine lv_iload_n hx hb dX1_hintedWidth_14 rfl (lv_at hl 0 rfl) ?_
    exact iv_iret E hh (by unfold v_X1_hintedWidth; rw [if_neg c3]) (by rw [← show (v_X1_snapOf A width) = v_X1_hintedWidth A width from (by unfold v_X1_hintedWidth; rw [if_neg c3])]; exact hc2) rfl dX1_hintedWidth_15
  · have h := h.1 c3
    refine lv_iload_n hx hb dX1_hintedWidth_10 rfl (lv_at hl 2 rfl) ?_
    refine lv_goto (tgt := 15) hx hb dX1_hintedWidth_11 (by decide) ?_
    exact iv_iret E hh (by unfold v_X1_hintedWidth; rw [if_pos c3]) (by rw [← show width = v_X1_hintedWidth A width from (by unfold v_X1_hintedWidth; rw [if_pos c3])]; exact h_width) rfl dX1_hintedWidth_15
set_option maxHeartbeats 4000000 in
set_option maxRecDepth 100000 in
theorem ok_X1_wideOf (l : Launch) (hinj : hInj ad) (S : hS) {j : Nat} (hj : j < 7) (A : hGM) (hA : S j = A) (width : Int) (size : Int) (h_width : hIn width) (h_size : hIn size) (hp : p_X1_wideOf A width size) : hMi D ad cI cJ cF l yX1_wideOf cX1_wideOf 4 (some .int) ({ frames := 2, cells := 0, slots := 0, locals := 46 } : Room) [.ref (ad j 0), .int (hI width), .int (hI size)] S (v_X1_wideOf A width size) S := by
  refine hOf (S := S) l hinj (by decide +kernel) (Nat.le_of_ble_eq_true rfl) (fun p e s m args below meth c E => ?_)
  obtain ⟨hx, hb, hml, hown, hts, hK, hN, -, hr, hlk, hz⟩ := id E
  have hown : s.vm.findClass RX1 = some m.cls := hown
  intro H locs ls hh hl
  have hl : lv_has ls 4 [(0, .ref (ad j 0)), (1, .int (hI width)), (2, .int (hI size))] := hl
  have h := hp
  unfold p_X1_wideOf at h
  refine lv_aload_n hx hb dX1_wideOf_0 rfl (lv_at hl 0 rfl) ?_
  refine lv_iload_n hx hb dX1_wideOf_1 rfl (lv_at hl 1 rfl) ?_
  obtain ⟨g1, h⟩ := h
  refine iv_ki (iv_rV (As := [.int (hI width)]) (rest := []) E hh (ok_X1_snapOf l hinj S hj A hA width h_width g1) cb_X1_snapOf q2_35 rfl rfl ⟨Nat.le_of_ble_eq_true rfl, Nat.le_of_ble_eq_true rfl⟩ (ob_Font hj) rfl rfl rfl hl.1 rfl (Nat.le_of_ble_eq_true rfl) dX1_wideOf_2 ⟨Nat.zero_le _, Nat.zero_le _⟩) hh (fun hc2 H locs hh => ?_)
  refine lv_istore_n (lv' := [(3, .int (hI (v_X1_snapOf A width))), (0, .ref (ad j 0)), (1, .int (hI width)), (2, .int (hI size))]) hx hb dX1_wideOf_5 rfl hl (by decide) rfl (fun ls hl => ?_)
  refine iv_iconst hx hb dX1_wideOf_6 ?_
  refine lv_iload_n hx hb dX1_wideOf_7 rfl (lv_at hl 0 rfl) ?_
  refine iv_if_ne (tgt := 15) hx hb hc2 dX1_wideOf_8 (by decide) (fun c3 => ?_) (fun c3 => ?_)
  · have h := h.2 c3
    refine lv_iload_n hx hb dX1_wideOf_15 rfl (lv_at hl 0 rfl) ?_
    refine lv_iload_n hx hb dX1_wideOf_16 rfl (lv_at hl 3 rfl) ?_
    obtain ⟨g4, h⟩ := h
    refine iv_ki (iv_rN (As := [.int (hI (v_X1_snapOf A width)), .int (hI size)]) (rest := [.int (hI 1)]) E hh (ok_X5_inPixels l hinj S (v_X1_snapOf A width) size hc2 h_size g4) cb_X5_inPixels q2_42 rfl rfl ⟨Nat.le_of_ble_eq_true rfl, Nat.le_of_ble_eq_true rfl⟩ rfl hl.1 rfl (Nat.le_of_ble_eq_true rfl) dX1_wideOf_17 ⟨Nat.zero_le _, Nat.zero_le _⟩) hh (fun hc5 H locs hh => ?_)
    refine iv_ki (iv_rS (As := [.int (hI 1), .int (hI (v_X5_inPixels (v_X1_snapOf A width) size))]) (rest := []) E hh (ok_J9_max_7cf53 l hinj S 1 (v_X5_inPixels (v_X1_snapOf A width) size) ⟨by decide, by decide⟩ hc5) cb_J9_max_7cf53 q2_43 rfl rfl ⟨Nat.le_of_ble_eq_true rfl, Nat.le_of_ble_eq_true rfl⟩ rfl hl.1 rfl (Nat.le_of_ble_eq_true rfl) dX1_wideOf_20 ⟨Nat.zero_le _, Nat.zero_le _⟩) hh (fun hc6 H locs hh => ?_)
    exact iv_iret E hh (by unfold v_X1_wideOf; rw [if_neg c3]) (by rw [← show (v_J9_max_7cf53 1 (v_X5_inPixels (v_X1_snapOf A width) size)) = v_X1_wideOf A width size from (by unfold v_X1_wideOf; rw [if_neg c3])]; exact hc6) rfl dX1_wideOf_23
  · have h := h.1 c3
    refine lv_iload_n hx hb dX1_wideOf_11 rfl (lv_at hl 2 rfl) ?_
    refine lv_goto (tgt := 16) hx hb dX1_wideOf_12 (by decide) ?_
    refine lv_iload_n hx hb dX1_wideOf_16 rfl (lv_at hl 3 rfl) ?_
    obtain ⟨g7, h⟩ := h
    refine iv_ki (iv_rN (As := [.int (hI width), .int (hI size)]) (rest := [.int (hI 1)]) E hh (ok_X5_inPixels l hinj S width size h_width h_size g7) cb_X5_inPixels q2_42 rfl rfl ⟨Nat.le_of_ble_eq_true rfl, Nat.le_of_ble_eq_true rfl⟩ rfl hl.1 rfl (Nat.le_of_ble_eq_true rfl) dX1_wideOf_17 ⟨Nat.zero_le _, Nat.zero_le _⟩) hh (fun hc8 H locs hh => ?_)
    refine iv_ki (iv_rS (As := [.int (hI 1), .int (hI (v_X5_inPixels width size))]) (rest := []) E hh (ok_J9_max_7cf53 l hinj S 1 (v_X5_inPixels width size) ⟨by decide, by decide⟩ hc8) cb_J9_max_7cf53 q2_43 rfl rfl ⟨Nat.le_of_ble_eq_true rfl, Nat.le_of_ble_eq_true rfl⟩ rfl hl.1 rfl (Nat.le_of_ble_eq_true rfl) dX1_wideOf_20 ⟨Nat.zero_le _, Nat.zero_le _⟩) hh (fun hc9 H locs hh => ?_)
    exact iv_iret E hh (by unfold v_X1_wideOf; rw [if_pos c3]) (by rw [← show (v_J9_max_7cf53 1 (v_X5_inPixels width size)) = v_X1_wideOf A width size from (by unfold v_X1_wideOf; rw [if_pos c3])]; exact hc9) rfl dX1_wideOf_23
set_option maxHeartbeats 4000000 in
set_option maxRecDepth 100000 in
theorem ok_X1_alikeWith (l : Launch) (hinj : hInj ad) (S : hS) {j : Nat} (hj : j < 7) (A : hGM) (hA : S j = A) (width : Int) (h_width : hIn width) (hp : p_X1_alikeWith A width) : hMi D ad cI cJ cF l yX1_alikeWith cX1_alikeWith 5 (some .int) ({ frames := 3, cells := 0, slots := 0, locals := 68 } : Room) [.ref (ad j 0), .int (hI width)] S (v_X1_alikeWith A width) S := by
  refine hOf (S := S) l hinj (by decide +kernel) (Nat.le_of_ble_eq_true rfl) (fun p e s m args below meth c E => ?_)
  obtain ⟨hx, hb, hml, hown, hts, hK, hN, -, hr, hlk, hz⟩ := id E
  have hown : s.vm.findClass RX1 = some m.cls := hown
  have r11 : ∀ (y2 : Int) (y3 : Int) (y4 : Int), hIn y2 → hIn y3 → hIn y4 → (((y4 < 48 → ((0 ≤ y4 ∧ y4 < 48) ∧ (((A 4 y4) ≤ 0 → (hAt D ad cI cJ cF p l e ({ frames := 3, cells := 0, slots := 0, locals := 68 } : Room) s m args below meth c (MQ below (hQi D ad cI cJ cF (v_X1_alikeWith A width) S) args s 0 0 (hAd ad)) 5 11 [(0, .ref (ad j 0)), (2, .int (hI y2)), (3, .int (hI y3)), (4, .int (hI (y4 + 1)))] S)) ∧ (¬ (A 4 y4) ≤ 0 → (p_X1_hintedWidth A (A 4 y4) ∧ (((v_X1_hintedWidth A (A 4 y4)) = y2 → (hAt D ad cI cJ cF p l e ({ frames := 3, cells := 0, slots := 0, locals := 68 } : Room) s m args below meth c (MQ below (hQi D ad cI cJ cF (v_X1_alikeWith A width) S) args s 0 0 (hAd ad)) 5 11 [(0, .ref (ad j 0)), (2, .int (hI y2)), (3, .int (hI (y3 + 1))), (4, .int (hI (y4 + 1)))] S)) ∧ (¬ (v_X1_hintedWidth A (A 4 y4)) = y2 → (hAt D ad cI cJ cF p l e ({ frames := 3, cells := 0, slots := 0, locals := 68 } : Room) s m args below meth c (MQ below (hQi D ad cI cJ cF (v_X1_alikeWith A width) S) args s 0 0 (hAd ad)) 5 11 [(0, .ref (ad j 0)), (2, .int (hI y2)), (3, .int (hI y3)), (4, .int (hI (y4 + 1)))] S)))))))) ∧ (¬ y4 < 48 → (y3 = v_X1_alikeWith A width)))) → (hAt D ad cI cJ cF p l e ({ frames := 3, cells := 0, slots := 0, locals := 68 } : Room) s m args below meth c (MQ below (hQi D ad cI cJ cF (v_X1_alikeWith A width) S) args s 0 0 (hAd ad)) 5 11 [(0, .ref (ad j 0)), (2, .int (hI y2)), (3, .int (hI y3)), (4, .int (hI y4))] S) := by
    intro y2 y3 y4 h_y2 h_y3 h_y4 h H locs ls hh hl
    refine lv_iload hx hb dX1_alikeWith_11 (lv_at hl 3 rfl) ?_
    refine lv_aload_n hx hb dX1_alikeWith_13 rfl (lv_at hl 0 rfl) ?_
    refine iv_get (v' := .ref (ad j 4)) hx hb hts inX1 hown hK hh.1 (ob_Font hj) rfl 7 (by decide) (hts _ q1_73) rfl rfl rfl dX1_alikeWith_14 ?_
    refine iv_alen hx hb hK hh.1 (ia_F_4 hj) dX1_alikeWith_17 ?_
    refine iv_icmp_ge (tgt := 55) hx hb h_y4 ⟨by decide, by decide⟩ dX1_alikeWith_18 (by decide) (fun c1 => ?_) (fun c1 => ?_)
    · have h := h.2 c1
      refine lv_iload_n hx hb dX1_alikeWith_55 rfl (lv_at hl 2 rfl) ?_
      exact iv_iret E hh h (by rw [← h]; exact h_y3) rfl dX1_alikeWith_56
    · have h := h.1 c1
      refine lv_aload_n hx hb dX1_alikeWith_21 rfl (lv_at hl 0 rfl) ?_
      refine iv_get (v' := .ref (ad j 4)) hx hb hts inX1 hown hK hh.1 (ob_Font hj) rfl 7 (by decide) (hts _ q1_73) rfl rfl rfl dX1_alikeWith_22 ?_
      refine lv_iload hx hb dX1_alikeWith_25 (lv_at hl 3 rfl) ?_
      obtain ⟨g2, h⟩ := h
      refine iv_iald hx hb hK hh.1 (ia_F_4 hj) g2 (v := (A 4 y4)) (congrArg (fun z => z 4 y4) hA) dX1_alikeWith_27 ?_
      have hm3 : hIn (A 4 y4) := hIn_rd hh.2.1 hA (by decide)
      refine iv_if_le (tgt := 49) hx hb hm3 dX1_alikeWith_28 (by decide) (fun c4 => ?_) (fun c4 => ?_)
      · have h := h.1 c4
        refine iv_iinc (lv' := [(4, .int (hI (y4 + 1))), (0, .ref (ad j 0)), (2, .int (hI y2)), (3, .int (hI y3))]) hx hb dX1_alikeWith_49 hl (k := 3) rfl (v := (y4 + 1)) rfl (by decide) rfl (fun ls hl => ?_)
        refine lv_goto (tgt := 11) hx hb dX1_alikeWith_52 (by decide) ?_
        exact h H _ ls hh (lv_sub hl [1, 2, 3, 0] rfl)
      · have h := h.2 c4
        refine lv_aload_n hx hb dX1_alikeWith_31 rfl (lv_at hl 0 rfl) ?_
        refine lv_aload_n hx hb dX1_alikeWith_32 rfl (lv_at hl 0 rfl) ?_
        refine iv_get (v' := .ref (ad j 4)) hx hb hts inX1 hown hK hh.1 (ob_Font hj) rfl 7 (by decide) (hts _ q1_73) rfl rfl rfl dX1_alikeWith_33 ?_
        refine lv_iload hx hb dX1_alikeWith_36 (lv_at hl 3 rfl) ?_
        refine iv_iald hx hb hK hh.1 (ia_F_4 hj) g2 (v := (A 4 y4)) (congrArg (fun z => z 4 y4) hA) dX1_alikeWith_38 ?_
        have hm5 : hIn (A 4 y4) := hIn_rd hh.2.1 hA (by decide)
        obtain ⟨g6, h⟩ := h
        refine iv_ki (iv_rV (As := [.int (hI (A 4 y4))]) (rest := []) E hh (ok_X1_hintedWidth l hinj S hj A hA (A 4 y4) hm5 g6) cb_X1_hintedWidth q2_68 rfl rfl ⟨Nat.le_of_ble_eq_true rfl, Nat.le_of_ble_eq_true rfl⟩ (ob_Font hj) rfl rfl rfl hl.1 rfl (Nat.le_of_ble_eq_true rfl) dX1_alikeWith_39 ⟨Nat.zero_le _, Nat.zero_le _⟩) hh (fun hc7 H locs hh => ?_)
        refine lv_iload_n hx hb dX1_alikeWith_42 rfl (lv_at hl 1 rfl) ?_
        refine iv_icmp_ne (tgt := 49) hx hb hc7 h_y2 dX1_alikeWith_43 (by decide) (fun c8 => ?_) (fun c8 => ?_)
        · have h := h.2 c8
          refine iv_iinc (lv' := [(4, .int (hI (y4 + 1))), (0, .ref (ad j 0)), (2, .int (hI y2)), (3, .int (hI y3))]) hx hb dX1_alikeWith_49 hl (k := 3) rfl (v := (y4 + 1)) rfl (by decide) rfl (fun ls hl => ?_)
          refine lv_goto (tgt := 11) hx hb dX1_alikeWith_52 (by decide) ?_
          exact h H _ ls hh (lv_sub hl [1, 2, 3, 0] rfl)
        · have h := h.1 c8
          refine iv_iinc (lv' := [(3, .int (hI (y3 + 1))), (0, .ref (ad j 0)), (2, .int (hI y2)), (4, .int (hI y4))]) hx hb dX1_alikeWith_46 hl (k := 2) rfl (v := (y3 + 1)) rfl (by decide) rfl (fun ls hl => ?_)
          refine iv_iinc (lv' := [(4, .int (hI (y4 + 1))), (3, .int (hI (y3 + 1))), (0, .ref (ad j 0)), (2, .int (hI y2))]) hx hb dX1_alikeWith_49 hl (k := 3) rfl (v := (y4 + 1)) rfl (by decide) rfl (fun ls hl => ?_)
          refine lv_goto (tgt := 11) hx hb dX1_alikeWith_52 (by decide) ?_
          exact h H _ ls hh (lv_sub hl [2, 3, 1, 0] rfl)
  intro H locs ls hh hl
  have hl : lv_has ls 5 [(0, .ref (ad j 0)), (1, .int (hI width))] := hl
  have h := x_X1_alikeWith A width h_width (fun i k hi => hIn_rd hh.2.1 hA hi) hp (fun y2 y3 y4 => (hAt D ad cI cJ cF p l e ({ frames := 3, cells := 0, slots := 0, locals := 68 } : Room) s m args below meth c (MQ below (hQi D ad cI cJ cF (v_X1_alikeWith A width) S) args s 0 0 (hAd ad)) 5 11 [(0, .ref (ad j 0)), (2, .int (hI y2)), (3, .int (hI y3)), (4, .int (hI y4))] S)) (fun r => (r = v_X1_alikeWith A width)) r11 rfl
  refine lv_aload_n hx hb dX1_alikeWith_0 rfl (lv_at hl 0 rfl) ?_
  refine lv_iload_n hx hb dX1_alikeWith_1 rfl (lv_at hl 1 rfl) ?_
  obtain ⟨g9, h⟩ := h
  refine iv_ki (iv_rV (As := [.int (hI width)]) (rest := []) E hh (ok_X1_hintedWidth l hinj S hj A hA width h_width g9) cb_X1_hintedWidth q2_68 rfl rfl ⟨Nat.le_of_ble_eq_true rfl, Nat.le_of_ble_eq_true rfl⟩ (ob_Font hj) rfl rfl rfl hl.1 rfl (Nat.le_of_ble_eq_true rfl) dX1_alikeWith_2 ⟨Nat.zero_le _, Nat.zero_le _⟩) hh (fun hc10 H locs hh => ?_)
  refine lv_istore_n (lv' := [(2, .int (hI (v_X1_hintedWidth A width))), (0, .ref (ad j 0)), (1, .int (hI width))]) hx hb dX1_alikeWith_5 rfl hl (by decide) rfl (fun ls hl => ?_)
  refine iv_iconst hx hb dX1_alikeWith_6 ?_
  refine lv_istore_n (lv' := [(3, .int (hI 0)), (2, .int (hI (v_X1_hintedWidth A width))), (0, .ref (ad j 0)), (1, .int (hI width))]) hx hb dX1_alikeWith_7 rfl hl (by decide) rfl (fun ls hl => ?_)
  refine iv_iconst hx hb dX1_alikeWith_8 ?_
  refine lv_istore (lv' := [(4, .int (hI 0)), (3, .int (hI 0)), (2, .int (hI (v_X1_hintedWidth A width))), (0, .ref (ad j 0)), (1, .int (hI width))]) hx hb dX1_alikeWith_9 hl (by decide) rfl (fun ls hl => ?_)
  exact h H _ ls hh (lv_sub hl [3, 2, 1, 0] rfl)
set_option maxHeartbeats 4000000 in
set_option maxRecDepth 100000 in
theorem ok_X1_isAlikeAhead (l : Launch) (hinj : hInj ad) (S : hS) {j : Nat} (hj : j < 7) (A : hGM) (hA : S j = A) (at1 : Int) (h_at1 : hIn at1) (hp : p_X1_isAlikeAhead A at1) : hMi D ad cI cJ cF l yX1_isAlikeAhead cX1_isAlikeAhead 4 (some .boolean) ({ frames := 3, cells := 0, slots := 0, locals := 68 } : Room) [.ref (ad j 0), .int (hI at1)] S (v_X1_isAlikeAhead A at1) S := by
  refine hOf (S := S) l hinj (by decide +kernel) (Nat.le_of_ble_eq_true rfl) (fun p e s m args below meth c E => ?_)
  obtain ⟨hx, hb, hml, hown, hts, hK, hN, -, hr, hlk, hz⟩ := id E
  have hown : s.vm.findClass RX1 = some m.cls := hown
  have r15 : ∀ (y2 : Int) (y3 : Int), hIn y2 → hIn y3 → (((y3 < at1 → ((y3 < 48 → ((0 ≤ y3 ∧ y3 < 48) ∧ (((A 4 y3) ≤ 0 → (hAt D ad cI cJ cF p l e ({ frames := 3, cells := 0, slots := 0, locals := 68 } : Room) s m args below meth c (MQ below (hQi D ad cI cJ cF (v_X1_isAlikeAhead A at1) S) args s 0 0 (hAd ad)) 4 15 [(0, .ref (ad j 0)), (1, .int (hI at1)), (2, .int (hI y2)), (3, .int (hI (y3 + 1)))] S)) ∧ (¬ (A 4 y3) ≤ 0 → (p_X1_hintedWidth A (A 4 y3) ∧ (((v_X1_hintedWidth A (A 4 y3)) = y2 → (1 = v_X1_isAlikeAhead A at1)) ∧ (¬ (v_X1_hintedWidth A (A 4 y3)) = y2 → (hAt D ad cI cJ cF p l e ({ frames := 3, cells := 0, slots := 0, locals := 68 } : Room) s m args below meth c (MQ below (hQi D ad cI cJ cF (v_X1_isAlikeAhead A at1) S) args s 0 0 (hAd ad)) 4 15 [(0, .ref (ad j 0)), (1, .int (hI at1)), (2, .int (hI y2)), (3, .int (hI (y3 + 1)))] S)))))))) ∧ (¬ y3 < 48 → (0 = v_X1_isAlikeAhead A at1)))) ∧ (¬ y3 < at1 → (0 = v_X1_isAlikeAhead A at1)))) → (hAt D ad cI cJ cF p l e ({ frames := 3, cells := 0, slots := 0, locals := 68 } : Room) s m args below meth c (MQ below (hQi D ad cI cJ cF (v_X1_isAlikeAhead A at1) S) args s 0 0 (hAd ad)) 4 15 [(0, .ref (ad j 0)), (1, .int (hI at1)), (2, .int (hI y2)), (3, .int (hI y3))] S) := by
    intro y2 y3 h_y2 h_y3 h H locs ls hh hl
    refine lv_iload_n hx hb dX1_isAlikeAhead_15 rfl (lv_at hl 3 rfl) ?_
    refine lv_iload_n hx hb dX1_isAlikeAhead_16 rfl (lv_at hl 1 rfl) ?_
    refine iv_icmp_ge (tgt := 60) hx hb h_y3 h_at1 dX1_isAlikeAhead_17 (by decide) (fun c1 => ?_) (fun c1 => ?_)
    · have h := h.2 c1
      refine iv_iconst hx hb dX1_isAlikeAhead_60 ?_
      exact iv_bret E hh h (by rw [← h]; exact (Or.inl rfl)) rfl dX1_isAlikeAhead_61
    · have h := h.1 c1
      refine lv_iload_n hx hb dX1_isAlikeAhead_20 rfl (lv_at hl 3 rfl) ?_
      refine lv_aload_n hx hb dX1_isAlikeAhead_21 rfl (lv_at hl 0 rfl) ?_
      refine iv_get (v' := .ref (ad j 4)) hx hb hts inX1 hown hK hh.1 (ob_Font hj) rfl 7 (by decide) (hts _ q1_73) rfl rfl rfl dX1_isAlikeAhead_22 ?_
      refine iv_alen hx hb hK hh.1 (ia_F_4 hj) dX1_isAlikeAhead_25 ?_
      refine iv_icmp_ge (tgt := 60) hx hb h_y3 ⟨by decide, by decide⟩ dX1_isAlikeAhead_26 (by decide) (fun c2 => ?_) (fun c2 => ?_)
      · have h := h.2 c2
        refine iv_iconst hx hb dX1_isAlikeAhead_60 ?_
        exact iv_bret E hh h (by rw [← h]; exact (Or.inl rfl)) rfl dX1_isAlikeAhead_61
      · have h := h.1 c2
        refine lv_aload_n hx hb dX1_isAlikeAhead_29 rfl (lv_at hl 0 rfl) ?_
        refine iv_get (v' := .ref (ad j 4)) hx hb hts inX1 hown hK hh.1 (ob_Font hj) rfl 7 (by decide) (hts _ q1_73) rfl rfl rfl dX1_isAlikeAhead_30 ?_
        refine lv_iload_n hx hb dX1_isAlikeAhead_33 rfl (lv_at hl 3 rfl) ?_
        obtain ⟨g3, h⟩ := h
        refine iv_iald hx hb hK hh.1 (ia_F_4 hj) g3 (v := (A 4 y3)) (congrArg (fun z => z 4 y3) hA) dX1_isAlikeAhead_34 ?_
        have hm4 : hIn (A 4 y3) := hIn_rd hh.2.1 hA (by decide)
        refine iv_if_le (tgt := 54) hx hb hm4 dX1_isAlikeAhead_35 (by decide) (fun c5 => ?_) (fun c5 => ?_)
        · have h := h.1 c5
          refine iv_iinc (lv' := [(3, .int (hI (y3 + 1))), (0, .ref (ad j 0)), (1, .int (hI at1)), (2, .int (hI y2))]) hx hb dX1_isAlikeAhead_54 hl (k := 3) rfl (v := (y3 + 1)) rfl (by decide) rfl (fun ls hl => ?_)
          refine lv_goto (tgt := 15) hx hb dX1_isAlikeAhead_57 (by decide) ?_
          exact h H _ ls hh (lv_sub hl [1, 2, 3, 0] rfl)
        · have h := h.2 c5
          refine lv_aload_n hx hb dX1_isAlikeAhead_38 rfl (lv_at hl 0 rfl) ?_
          refine lv_aload_n hx hb dX1_isAlikeAhead_39 rfl (lv_at hl 0 rfl) ?_
          refine iv_get (v' := .ref (ad j 4)) hx hb hts inX1 hown hK hh.1 (ob_Font hj) rfl 7 (by decide) (hts _ q1_73) rfl rfl rfl dX1_isAlikeAhead_40 ?_
          refine lv_iload_n hx hb dX1_isAlikeAhead_43 rfl (lv_at hl 3 rfl) ?_
          refine iv_iald hx hb hK hh.1 (ia_F_4 hj) g3 (v := (A 4 y3)) (congrArg (fun z => z 4 y3) hA) dX1_isAlikeAhead_44 ?_
          have hm6 : hIn (A 4 y3) := hIn_rd hh.2.1 hA (by decide)
          obtain ⟨g7, h⟩ := h
          refine iv_ki (iv_rV (As := [.int (hI (A 4 y3))]) (rest := []) E hh (ok_X1_hintedWidth l hinj S hj A hA (A 4 y3) hm6 g7) cb_X1_hintedWidth q2_68 rfl rfl ⟨Nat.le_of_ble_eq_true rfl, Nat.le_of_ble_eq_true rfl⟩ (ob_Font hj) rfl rfl rfl hl.1 rfl (Nat.le_of_ble_eq_true rfl) dX1_isAlikeAhead_45 ⟨Nat.zero_le _, Nat.zero_le _⟩) hh (fun hc8 H locs hh => ?_)
          refine lv_iload_n hx hb dX1_isAlikeAhead_48 rfl (lv_at hl 2 rfl) ?_
          refine iv_icmp_ne (tgt := 54) hx hb hc8 h_y2 dX1_isAlikeAhead_49 (by decide) (fun c9 => ?_) (fun c9 => ?_)
          · have h := h.2 c9
            refine iv_iinc (lv' := [(3, .int (hI (y3 + 1))), (0, .ref (ad j 0)), (1, .int (hI at1)), (2, .int (hI y2))]) hx hb dX1_isAlikeAhead_54 hl (k := 3) rfl (v := (y3 + 1)) rfl (by decide) rfl (fun ls hl => ?_)
            refine lv_goto (tgt := 15) hx hb dX1_isAlikeAhead_57 (by decide) ?_
            exact h H _ ls hh (lv_sub hl [1, 2, 3, 0] rfl)
          · have h := h.1 c9
            refine iv_iconst hx hb dX1_isAlikeAhead_52 ?_
            exact iv_bret E hh h (by rw [← h]; exact (Or.inr rfl)) rfl dX1_isAlikeAhead_53
  intro H locs ls hh hl
  have hl : lv_has ls 4 [(0, .ref (ad j 0)), (1, .int (hI at1))] := hl
  have h := x_X1_isAlikeAhead A at1 h_at1 (fun i k hi => hIn_rd hh.2.1 hA hi) hp (fun y2 y3 => (hAt D ad cI cJ cF p l e ({ frames := 3, cells := 0, slots := 0, locals := 68 } : Room) s m args below meth c (MQ below (hQi D ad cI cJ cF (v_X1_isAlikeAhead A at1) S) args s 0 0 (hAd ad)) 4 15 [(0, .ref (ad j 0)), (1, .int (hI at1)), (2, .int (hI y2)), (3, .int (hI y3))] S)) (fun r => (r = v_X1_isAlikeAhead A at1)) r15 rfl
  refine lv_aload_n hx hb dX1_isAlikeAhead_0 rfl (lv_at hl 0 rfl) ?_
  refine lv_aload_n hx hb dX1_isAlikeAhead_1 rfl (lv_at hl 0 rfl) ?_
  refine iv_get (v' := .ref (ad j 4)) hx hb hts inX1 hown hK hh.1 (ob_Font hj) rfl 7 (by decide) (hts _ q1_73) rfl rfl rfl dX1_isAlikeAhead_2 ?_
  refine lv_iload_n hx hb dX1_isAlikeAhead_5 rfl (lv_at hl 1 rfl) ?_
  refine iv_ki (iv_rN (As := [.ref (ad j 4), .int (hI at1)]) (rest := [.ref (ad j 0)]) E hh (ok_X5_cell l hinj S (ia_F_4 hj) A hA at1 h_at1) cb_X5_cell q2_10 rfl rfl ⟨Nat.le_of_ble_eq_true rfl, Nat.le_of_ble_eq_true rfl⟩ rfl hl.1 rfl (Nat.le_of_ble_eq_true rfl) dX1_isAlikeAhead_6 ⟨Nat.zero_le _, Nat.zero_le _⟩) hh (fun hc10 H locs hh => ?_)
  obtain ⟨g11, h⟩ := h
  refine iv_ki (iv_rV (As := [.int (hI (v_X5_cell A 4 48 at1))]) (rest := []) E hh (ok_X1_hintedWidth l hinj S hj A hA (v_X5_cell A 4 48 at1) hc10 g11) cb_X1_hintedWidth q2_68 rfl rfl ⟨Nat.le_of_ble_eq_true rfl, Nat.le_of_ble_eq_true rfl⟩ (ob_Font hj) rfl rfl rfl hl.1 rfl (Nat.le_of_ble_eq_true rfl) dX1_isAlikeAhead_9 ⟨Nat.zero_le _, Nat.zero_le _⟩) hh (fun hc12 H locs hh => ?_)
  refine lv_istore_n (lv' := [(2, .int (hI (v_X1_hintedWidth A (v_X5_cell A 4 48 at1)))), (0, .ref (ad j 0)), (1, .int (hI at1))]) hx hb dX1_isAlikeAhead_12 rfl hl (by decide) rfl (fun ls hl => ?_)
  refine iv_iconst hx hb dX1_isAlikeAhead_13 ?_
  refine lv_istore_n (lv' := [(3, .int (hI 0)), (2, .int (hI (v_X1_hintedWidth A (v_X5_cell A 4 48 at1)))), (0, .ref (ad j 0)), (1, .int (hI at1))]) hx hb dX1_isAlikeAhead_14 rfl hl (by decide) rfl (fun ls hl => ?_)
  exact h H _ ls hh (lv_sub hl [2, 3, 1, 0] rfl)
set_option maxHeartbeats 4000000 in
set_option maxRecDepth 100000 in
theorem ok_X1_unlikeWidths (l : Launch) (hinj : hInj ad) (S : hS) {j : Nat} (hj : j < 7) (A : hGM) (hA : S j = A) (hp : p_X1_unlikeWidths A) : hMi D ad cI cJ cF l yX1_unlikeWidths cX1_unlikeWidths 3 (some .int) ({ frames := 4, cells := 0, slots := 0, locals := 91 } : Room) [.ref (ad j 0)] S (v_X1_unlikeWidths A) S := by
  refine hOf (S := S) l hinj (by decide +kernel) (Nat.le_of_ble_eq_true rfl) (fun p e s m args below meth c E => ?_)
  obtain ⟨hx, hb, hml, hown, hts, hK, hN, -, hr, hlk, hz⟩ := id E
  have hown : s.vm.findClass RX1 = some m.cls := hown
  have r4 : ∀ (y1 : Int) (y2 : Int), hIn y1 → hIn y2 → (((y2 < 48 → ((0 ≤ y2 ∧ y2 < 48) ∧ (((A 4 y2) ≤ 0 → (hAt D ad cI cJ cF p l e ({ frames := 4, cells := 0, slots := 0, locals := 91 } : Room) s m args below meth c (MQ below (hQi D ad cI cJ cF (v_X1_unlikeWidths A) S) args s 0 0 (hAd ad)) 3 4 [(0, .ref (ad j 0)), (1, .int (hI y1)), (2, .int (hI (y2 + 1)))] S)) ∧ (¬ (A 4 y2) ≤ 0 → (p_X1_isAlikeAhead A y2 ∧ (((v_X1_isAlikeAhead A y2) = 0 → (hAt D ad cI cJ cF p l e ({ frames := 4, cells := 0, slots := 0, locals := 91 } : Room) s m args below meth c (MQ below (hQi D ad cI cJ cF (v_X1_unlikeWidths A) S) args s 0 0 (hAd ad)) 3 4 [(0, .ref (ad j 0)), (1, .int (hI (y1 + 1))), (2, .int (hI (y2 + 1)))] S)) ∧ (¬ (v_X1_isAlikeAhead A y2) = 0 → (hAt D ad cI cJ cF p l e ({ frames := 4, cells := 0, slots := 0, locals := 91 } : Room) s m args below meth c (MQ below (hQi D ad cI cJ cF (v_X1_unlikeWidths A) S) args s 0 0 (hAd ad)) 3 4 [(0, .ref (ad j 0)), (1, .int (hI y1)), (2, .int (hI (y2 + 1)))] S)))))))) ∧ (¬ y2 < 48 → (y1 = v_X1_unlikeWidths A)))) → (hAt D ad cI cJ cF p l e ({ frames := 4, cells := 0, slots := 0, locals := 91 } : Room) s m args below meth c (MQ below (hQi D ad cI cJ cF (v_X1_unlikeWidths A) S) args s 0 0 (hAd ad)) 3 4 [(0, .ref (ad j 0)), (1, .int (hI y1)), (2, .int (hI y2))] S) := by
    intro y1 y2 h_y1 h_y2 h H locs ls hh hl
    refine lv_iload_n hx hb dX1_unlikeWidths_4 rfl (lv_at hl 2 rfl) ?_
    refine lv_aload_n hx hb dX1_unlikeWidths_5 rfl (lv_at hl 0 rfl) ?_
    refine iv_get (v' := .ref (ad j 4)) hx hb hts inX1 hown hK hh.1 (ob_Font hj) rfl 7 (by decide) (hts _ q1_73) rfl rfl rfl dX1_unlikeWidths_6 ?_
    refine iv_alen hx hb hK hh.1 (ia_F_4 hj) dX1_unlikeWidths_9 ?_
    refine iv_icmp_ge (tgt := 39) hx hb h_y2 ⟨by decide, by decide⟩ dX1_unlikeWidths_10 (by decide) (fun c1 => ?_) (fun c1 => ?_)
    · have h := h.2 c1
      refine lv_iload_n hx hb dX1_unlikeWidths_39 rfl (lv_at hl 1 rfl) ?_
      exact iv_iret E hh h (by rw [← h]; exact h_y1) rfl dX1_unlikeWidths_40
    · have h := h.1 c1
      refine lv_aload_n hx hb dX1_unlikeWidths_13 rfl (lv_at hl 0 rfl) ?_
      refine iv_get (v' := .ref (ad j 4)) hx hb hts inX1 hown hK hh.1 (ob_Font hj) rfl 7 (by decide) (hts _ q1_73) rfl rfl rfl dX1_unlikeWidths_14 ?_
      refine lv_iload_n hx hb dX1_unlikeWidths_17 rfl (lv_at hl 2 rfl) ?_
      obtain ⟨g2, h⟩ := h
      refine iv_iald hx hb hK hh.1 (ia_F_4 hj) g2 (v := (A 4 y2)) (congrArg (fun z => z 4 y2) hA) dX1_unlikeWidths_18 ?_
      have hm3 : hIn (A 4 y2) := hIn_rd hh.2.1 hA (by decide)
      refine iv_if_le (tgt := 33) hx hb hm3 dX1_unlikeWidths_19 (by decide) (fun c4 => ?_) (fun c4 => ?_)
      · have h := h.1 c4
        refine iv_iinc (lv' := [(2, .int (hI (y2 + 1))), (0, .ref (ad j 0)), (1, .int (hI y1))]) hx hb dX1_unlikeWidths_33 hl (k := 2) rfl (v := (y2 + 1)) rfl (by decide) rfl (fun ls hl => ?_)
        refine lv_goto (tgt := 4) hx hb dX1_unlikeWidths_36 (by decide) ?_
        exact h H _ ls hh (lv_sub hl [1, 2, 0] rfl)
      · have h := h.2 c4
        refine lv_aload_n hx hb dX1_unlikeWidths_22 rfl (lv_at hl 0 rfl) ?_
        refine lv_iload_n hx hb dX1_unlikeWidths_23 rfl (lv_at hl 2 rfl) ?_
        obtain ⟨g5, h⟩ := h
        refine iv_ki (iv_rV (As := [.int (hI y2)]) (rest := []) E hh (ok_X1_isAlikeAhead l hinj S hj A hA y2 h_y2 g5) cb_X1_isAlikeAhead q2_64 rfl rfl ⟨Nat.le_of_ble_eq_true rfl, Nat.le_of_ble_eq_true rfl⟩ (ob_Font hj) rfl rfl rfl hl.1 rfl (Nat.le_of_ble_eq_true rfl) dX1_unlikeWidths_24 ⟨Nat.zero_le _, Nat.zero_le _⟩) hh (fun hc6 H locs hh => ?_)
        refine iv_if_ne (tgt := 33) hx hb hc6 dX1_unlikeWidths_27 (by decide) (fun c7 => ?_) (fun c7 => ?_)
        · have h := h.2 c7
          refine iv_iinc (lv' := [(2, .int (hI (y2 + 1))), (0, .ref (ad j 0)), (1, .int (hI y1))]) hx hb dX1_unlikeWidths_33 hl (k := 2) rfl (v := (y2 + 1)) rfl (by decide) rfl (fun ls hl => ?_)
          refine lv_goto (tgt := 4) hx hb dX1_unlikeWidths_36 (by decide) ?_
          exact h H _ ls hh (lv_sub hl [1, 2, 0] rfl)
        · have h := h.1 c7
          refine iv_iinc (lv' := [(1, .int (hI (y1 + 1))), (0, .ref (ad j 0)), (2, .int (hI y2))]) hx hb dX1_unlikeWidths_30 hl (k := 1) rfl (v := (y1 + 1)) rfl (by decide) rfl (fun ls hl => ?_)
          refine iv_iinc (lv' := [(2, .int (hI (y2 + 1))), (1, .int (hI (y1 + 1))), (0, .ref (ad j 0))]) hx hb dX1_unlikeWidths_33 hl (k := 2) rfl (v := (y2 + 1)) rfl (by decide) rfl (fun ls hl => ?_)
          refine lv_goto (tgt := 4) hx hb dX1_unlikeWidths_36 (by decide) ?_
          exact h H _ ls hh (lv_sub hl [2, 1, 0] rfl)
  intro H locs ls hh hl
  have hl : lv_has ls 3 [(0, .ref (ad j 0))] := hl
  have h := x_X1_unlikeWidths A (fun i k hi => hIn_rd hh.2.1 hA hi) hp (fun y1 y2 => (hAt D ad cI cJ cF p l e ({ frames := 4, cells := 0, slots := 0, locals := 91 } : Room) s m args below meth c (MQ below (hQi D ad cI cJ cF (v_X1_unlikeWidths A) S) args s 0 0 (hAd ad)) 3 4 [(0, .ref (ad j 0)), (1, .int (hI y1)), (2, .int (hI y2))] S)) (fun r => (r = v_X1_unlikeWidths A)) r4 rfl
  refine iv_iconst hx hb dX1_unlikeWidths_0 ?_
  refine lv_istore_n (lv' := [(1, .int (hI 0)), (0, .ref (ad j 0))]) hx hb dX1_unlikeWidths_1 rfl hl (by decide) rfl (fun ls hl => ?_)
  refine iv_iconst hx hb dX1_unlikeWidths_2 ?_
  refine lv_istore_n (lv' := [(2, .int (hI 0)), (1, .int (hI 0)), (0, .ref (ad j 0))]) hx hb dX1_unlikeWidths_3 rfl hl (by decide) rfl (fun ls hl => ?_)
  exact h H _ ls hh (lv_sub hl [2, 1, 0] rfl)
set_option maxHeartbeats 4000000 in
set_option maxRecDepth 100000 in
theorem ok_X1_stemsTogether (l : Launch) (hinj : hInj ad) (S : hS) {j : Nat} (hj : j < 7) (A : hGM) (hA : S j = A) (hp : p_X1_stemsTogether A) : hMi D ad cI cJ cF l yX1_stemsTogether cX1_stemsTogether 3 (some .int) ({ frames := 0, cells := 0, slots := 0, locals := 0 } : Room) [.ref (ad j 0)] S (v_X1_stemsTogether A) S := by
  refine hOf (S := S) l hinj (by decide +kernel) (Nat.le_of_ble_eq_true rfl) (fun p e s m args below meth c E => ?_)
  obtain ⟨hx, hb, hml, hown, hts, hK, hN, -, hr, hlk, hz⟩ := id E
  have hown : s.vm.findClass RX1 = some m.cls := hown
  have r4 : ∀ (y1 : Int) (y2 : Int), hIn y1 → hIn y2 → (((y2 < 8 → ((0 ≤ y2 ∧ y2 < 8) ∧ (hAt D ad cI cJ cF p l e ({ frames := 0, cells := 0, slots := 0, locals := 0 } : Room) s m args below meth c (MQ below (hQi D ad cI cJ cF (v_X1_stemsTogether A) S) args s 0 0 (hAd ad)) 3 4 [(0, .ref (ad j 0)), (1, .int (hI (y1 + (A 2 y2)))), (2, .int (hI (y2 + 1)))] S))) ∧ (¬ y2 < 8 → (y1 = v_X1_stemsTogether A)))) → (hAt D ad cI cJ cF p l e ({ frames := 0, cells := 0, slots := 0, locals := 0 } : Room) s m args below meth c (MQ below (hQi D ad cI cJ cF (v_X1_stemsTogether A) S) args s 0 0 (hAd ad)) 3 4 [(0, .ref (ad j 0)), (1, .int (hI y1)), (2, .int (hI y2))] S) := by
    intro y1 y2 h_y1 h_y2 h H locs ls hh hl
    refine lv_iload_n hx hb dX1_stemsTogether_4 rfl (lv_at hl 2 rfl) ?_
    refine lv_aload_n hx hb dX1_stemsTogether_5 rfl (lv_at hl 0 rfl) ?_
    refine iv_get (v' := .ref (ad j 2)) hx hb hts inX1 hown hK hh.1 (ob_Font hj) rfl 5 (by decide) (hts _ q1_68) rfl rfl rfl dX1_stemsTogether_6 ?_
    refine iv_alen hx hb hK hh.1 (ia_F_2 hj) dX1_stemsTogether_9 ?_
    refine iv_icmp_ge (tgt := 28) hx hb h_y2 ⟨by decide, by decide⟩ dX1_stemsTogether_10 (by decide) (fun c1 => ?_) (fun c1 => ?_)
    · have h := h.2 c1
      refine lv_iload_n hx hb dX1_stemsTogether_28 rfl (lv_at hl 1 rfl) ?_
      exact iv_iret E hh h (by rw [← h]; exact h_y1) rfl dX1_stemsTogether_29
    · have h := h.1 c1
      refine lv_iload_n hx hb dX1_stemsTogether_13 rfl (lv_at hl 1 rfl) ?_
      refine lv_aload_n hx hb dX1_stemsTogether_14 rfl (lv_at hl 0 rfl) ?_
      refine iv_get (v' := .ref (ad j 2)) hx hb hts inX1 hown hK hh.1 (ob_Font hj) rfl 5 (by decide) (hts _ q1_68) rfl rfl rfl dX1_stemsTogether_15 ?_
      refine lv_iload_n hx hb dX1_stemsTogether_18 rfl (lv_at hl 2 rfl) ?_
      obtain ⟨g2, h⟩ := h
      refine iv_iald hx hb hK hh.1 (ia_F_2 hj) g2 (v := (A 2 y2)) (congrArg (fun z => z 2 y2) hA) dX1_stemsTogether_19 ?_
      have hm3 : hIn (A 2 y2) := hIn_rd hh.2.1 hA (by decide)
      refine iv_iadd hx hb dX1_stemsTogether_20 ?_
      refine lv_istore_n (lv' := [(1, .int (hI (y1 + (A 2 y2)))), (0, .ref (ad j 0)), (2, .int (hI y2))]) hx hb dX1_stemsTogether_21 rfl hl (by decide) rfl (fun ls hl => ?_)
      refine iv_iinc (lv' := [(2, .int (hI (y2 + 1))), (1, .int (hI (y1 + (A 2 y2)))), (0, .ref (ad j 0))]) hx hb dX1_stemsTogether_22 hl (k := 2) rfl (v := (y2 + 1)) rfl (by decide) rfl (fun ls hl => ?_)
      refine lv_goto (tgt := 4) hx hb dX1_stemsTogether_25 (by decide) ?_
      exact h H _ ls hh (lv_sub hl [2, 1, 0] rfl)
  intro H locs ls hh hl
  have hl : lv_has ls 3 [(0, .ref (ad j 0))] := hl
  have h := x_X1_stemsTogether A (fun i k hi => hIn_rd hh.2.1 hA hi) hp (fun y1 y2 => (hAt D ad cI cJ cF p l e ({ frames := 0, cells := 0, slots := 0, locals := 0 } : Room) s m args below meth c (MQ below (hQi D ad cI cJ cF (v_X1_stemsTogether A) S) args s 0 0 (hAd ad)) 3 4 [(0, .ref (ad j 0)), (1, .int (hI y1)), (2, .int (hI y2))] S)) (fun r => (r = v_X1_stemsTogether A)) r4 rfl
  refine iv_iconst hx hb dX1_stemsTogether_0 ?_
  refine lv_istore_n (lv' := [(1, .int (hI 0)), (0, .ref (ad j 0))]) hx hb dX1_stemsTogether_1 rfl hl (by decide) rfl (fun ls hl => ?_)
  refine iv_iconst hx hb dX1_stemsTogether_2 ?_
  refine lv_istore_n (lv' := [(2, .int (hI 0)), (1, .int (hI 0)), (0, .ref (ad j 0))]) hx hb dX1_stemsTogether_3 rfl hl (by decide) rfl (fun ls hl => ?_)
  exact h H _ ls hh (lv_sub hl [2, 1, 0] rfl)
end

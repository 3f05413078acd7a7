section
variable {D : va_G} {ad : Nat → Nat → Nat} {cI cJ cF : ClassId}
set_option maxHeartbeats 4000000 in
set_option maxRecDepth 100000 in
theorem ok_X4_copy (l : Launch) (hinj : hInj ad) (S : hS) {j : Nat} (hj : j < 7) {j2 : Nat} (hj2 : j2 < 7) (hne : j ≠ j2) (A : hGM) (hA : S j = A) (B : hGM) (hB : S j2 = B) (hp : p_X4_copy A B) : hMv D ad cI cJ cF l yX4_copy cX4_copy 3 ({ frames := 1, cells := 0, slots := 0, locals := 22 } : Room) [.ref (ad j 7), .ref (ad j2 7)] S (gset S j (m_X4_copy A B)) := by
  refine hOf (S := S) l hinj (by decide +kernel) (Nat.le_of_ble_eq_true rfl) (fun p e s m args below meth c E => ?_)
  obtain ⟨hx, hb, hml, hown, hts, hK, hN, -, hr, hlk, hz⟩ := id E
  have hown : s.vm.findClass RX4 = some m.cls := hown
  have r54 : ∀ (y2 : Int) (A1 : hGM), hIn y2 → ((∀ (i : Nat) (k : Int), i < 100 → hIn (A1 i k)) → ((y2 < 32 → ((0 ≤ y2 ∧ y2 < 32) ∧ (hAt D ad cI cJ cF p l e ({ frames := 1, cells := 0, slots := 0, locals := 22 } : Room) s m args below meth c (MQ below (hQv D ad cI cJ cF (gset S j (m_X4_copy A B))) args s 0 0 (hAd ad)) 3 54 [(0, .ref (ad j 7)), (1, .ref (ad j2 7)), (2, .int (hI (y2 + 1)))] (gset S j (aset A1 112 y2 (B 112 y2)))))) ∧ (¬ y2 < 32 → (A1 = m_X4_copy A B)))) → (hAt D ad cI cJ cF p l e ({ frames := 1, cells := 0, slots := 0, locals := 22 } : Room) s m args below meth c (MQ below (hQv D ad cI cJ cF (gset S j (m_X4_copy A B))) args s 0 0 (hAd ad)) 3 54 [(0, .ref (ad j 7)), (1, .ref (ad j2 7)), (2, .int (hI y2))] (gset S j A1)) := by
    intro y2 A1 h_y2 h H locs ls hh hl
    have h := h (fun i k hi => hIn_rd hh.2.1 (gset_at _ _ _) hi)
    refine lv_iload_n hx hb dX4_copy_54 rfl (lv_at hl 2 rfl) ?_
    refine lv_aload_n hx hb dX4_copy_55 rfl (lv_at hl 0 rfl) ?_
    refine iv_get (v' := .ref (ad j 12)) hx hb hts inX4 hown hK hh.1 (ob_Sheets hj) rfl 5 (by decide) (hts _ q1_41) rfl rfl rfl dX4_copy_56 ?_
    refine va_alen (v := hI 32) hx hb hK hh.1 (13 * j + 12) 1 (hJA hj) rfl rfl dX4_copy_59 ?_
    refine iv_icmp_ge (tgt := 90) hx hb h_y2 ⟨by decide, by decide⟩ dX4_copy_60 (by decide) (fun c1 => ?_) (fun c1 => ?_)
    · have h := h.2 c1
      exact iv_vret E hh (by rw [← h]) dX4_copy_90
    · have h := h.1 c1
      refine lv_iload_n hx hb dX4_copy_63 rfl (lv_at hl 2 rfl) ?_
      refine lv_aload_n hx hb dX4_copy_64 rfl (lv_at hl 1 rfl) ?_
      refine iv_get (v' := .ref (ad j2 12)) hx hb hts inX4 hown hK hh.1 (ob_Sheets hj2) rfl 5 (by decide) (hts _ q1_41) rfl rfl rfl dX4_copy_65 ?_
      refine va_alen (v := hI 32) hx hb hK hh.1 (13 * j2 + 12) 1 (hJA hj2) rfl rfl dX4_copy_68 ?_
      refine iv_icmp_ge (tgt := 90) hx hb h_y2 ⟨by decide, by decide⟩ dX4_copy_69 (by decide) (fun c2 => ?_) (fun c2 => ?_)
      · exact absurd c1 c2
      · refine lv_aload_n hx hb dX4_copy_72 rfl (lv_at hl 0 rfl) ?_
        refine iv_get (v' := .ref (ad j 12)) hx hb hts inX4 hown hK hh.1 (ob_Sheets hj) rfl 5 (by decide) (hts _ q1_41) rfl rfl rfl dX4_copy_73 ?_
        refine lv_iload_n hx hb dX4_copy_76 rfl (lv_at hl 2 rfl) ?_
        refine lv_aload_n hx hb dX4_copy_77 rfl (lv_at hl 1 rfl) ?_
        refine iv_get (v' := .ref (ad j2 12)) hx hb hts inX4 hown hK hh.1 (ob_Sheets hj2) rfl 5 (by decide) (hts _ q1_41) rfl rfl rfl dX4_copy_78 ?_
        refine lv_iload_n hx hb dX4_copy_81 rfl (lv_at hl 2 rfl) ?_
        obtain ⟨g3, h⟩ := h
        refine iv_lald hx hb hK hh.1 hj2 g3 (v := (B 112 y2)) (congrArg (fun z => z 112 y2) ((gset_ne (Ne.symm hne)).trans hB)) dX4_copy_82 ?_
        refine iv_last (S' := (gset S j (aset A1 112 y2 (B 112 y2)))) hx hb hK hinj hh hj g3 (by rw [show (gset S j A1) j = A1 from (gset_at _ _ _)]; exact (gset_gset _ _ _ _)) dX4_copy_83 (fun H locs hh => ?_)
        refine iv_iinc (lv' := [(2, .int (hI (y2 + 1))), (0, .ref (ad j 7)), (1, .ref (ad j2 7))]) hx hb dX4_copy_84 hl (k := 2) rfl (v := (y2 + 1)) rfl (by decide) rfl (fun ls hl => ?_)
        refine lv_goto (tgt := 54) hx hb dX4_copy_87 (by decide) ?_
        exact h H _ ls hh (lv_sub hl [1, 2, 0] rfl)
  intro H locs ls hh hl
  have hl : lv_has ls 3 [(0, .ref (ad j 7)), (1, .ref (ad j2 7))] := hl
  replace hh : hH D ad cI cJ cF (gset S j A) s H locs := by rw [← can1 hA]; exact hh
  have h := x_X4_copy A B (fun i k hi => hIn_rd hh.2.1 (gset_at _ _ _) hi) (fun i k hi => hIn_rd hh.2.1 ((gset_ne (Ne.symm hne)).trans hB) hi) hp (fun y2 A1 => (hAt D ad cI cJ cF p l e ({ frames := 1, cells := 0, slots := 0, locals := 22 } : Room) s m args below meth c (MQ below (hQv D ad cI cJ cF (gset S j (m_X4_copy A B))) args s 0 0 (hAd ad)) 3 54 [(0, .ref (ad j 7)), (1, .ref (ad j2 7)), (2, .int (hI y2))] (gset S j A1))) (fun A1 => (A1 = m_X4_copy A B)) r54 rfl
  refine lv_aload_n hx hb dX4_copy_0 rfl (lv_at hl 0 rfl) ?_
  refine lv_aload_n hx hb dX4_copy_1 rfl (lv_at hl 1 rfl) ?_
  refine iv_get (v' := .int (hI (B 7 0))) hx hb hts inX4 hown hK hh.1 (ob_Sheets hj2) rfl 0 (by decide) (hts _ q1_29) rfl rfl (congrArg (fun z => Value.int (hI (z 7 0))) ((gset_ne (Ne.symm hne)).trans hB)) dX4_copy_2 ?_
  have hm4 : hIn (B 7 0) := hIn_rd hh.2.1 ((gset_ne (Ne.symm hne)).trans hB) (by decide)
  refine iv_put (S' := (gset S j (aset A 7 0 (B 7 0)))) (ty := .int) hx hb hts inX4 tyX4 tyX4_ok nmX4 hown hK hinj hh (h112 (by omega)) (un_Sheets hj) (Or.inl rfl) (ob_Sheets hj) rfl 0 (by decide) (hts _ q1_29) rfl rfl (by decide +kernel) rfl rfl (Nat.le_of_ble_eq_true rfl) (pu_Sheets_made hj) (Or.inl hm4) (by rw [show (gset S j A) j = A from (gset_at _ _ _)]; exact (gset_gset _ _ _ _)) dX4_copy_5 (fun H locs hh => ?_)
  refine lv_aload_n hx hb dX4_copy_8 rfl (lv_at hl 1 rfl) ?_
  refine iv_get (v' := .ref (ad j2 8)) hx hb hts inX4 hown hK hh.1 (ob_Sheets hj2) rfl 1 (by decide) (hts _ q1_31) rfl rfl rfl dX4_copy_9 ?_
  refine lv_aload_n hx hb dX4_copy_12 rfl (lv_at hl 0 rfl) ?_
  refine iv_get (v' := .ref (ad j 8)) hx hb hts inX4 hown hK hh.1 (ob_Sheets hj) rfl 1 (by decide) (hts _ q1_31) rfl rfl rfl dX4_copy_13 ?_
  obtain ⟨g5, h⟩ := h
  refine iv_kv (iv_rN (As := [.ref (ad j2 8), .ref (ad j 8)]) (rest := []) E hh (ok_X5_copyRow l hinj (gset S j (aset A 7 0 (B 7 0))) (ia_F_8 hj2) (ia_F_8 hj) hne (aset A 7 0 (B 7 0)) (gset_at _ _ _) B ((gset_ne (Ne.symm hne)).trans hB) g5) cb_X5_copyRow q2_110 rfl rfl ⟨Nat.le_of_ble_eq_true rfl, Nat.le_of_ble_eq_true rfl⟩ rfl hl.1 rfl (Nat.le_of_ble_eq_true rfl) dX4_copy_16 ⟨Nat.zero_le _, Nat.zero_le _⟩) hh (fun H locs hh => ?_)
  replace hh : hH D ad cI cJ cF (gset S j (m_X5_copyRow (aset A 7 0 (B 7 0)) B 8 4 8 4)) s H locs := by rw [← show _ = (gset S j (m_X5_copyRow (aset A 7 0 (B 7 0)) B 8 4 8 4)) from (gset_gset _ _ _ _)]; exact hh
  refine lv_aload_n hx hb dX4_copy_19 rfl (lv_at hl 1 rfl) ?_
  refine iv_get (v' := .ref (ad j2 9)) hx hb hts inX4 hown hK hh.1 (ob_Sheets hj2) rfl 2 (by decide) (hts _ q1_32) rfl rfl rfl dX4_copy_20 ?_
  refine lv_aload_n hx hb dX4_copy_23 rfl (lv_at hl 0 rfl) ?_
  refine iv_get (v' := .ref (ad j 9)) hx hb hts inX4 hown hK hh.1 (ob_Sheets hj) rfl 2 (by decide) (hts _ q1_32) rfl rfl rfl dX4_copy_24 ?_
  obtain ⟨g6, h⟩ := h
  refine iv_kv (iv_rN (As := [.ref (ad j2 9), .ref (ad j 9)]) (rest := []) E hh (ok_X5_copyRow l hinj (gset S j (m_X5_copyRow (aset A 7 0 (B 7 0)) B 8 4 8 4)) (ia_F_9 hj2) (ia_F_9 hj) hne (m_X5_copyRow (aset A 7 0 (B 7 0)) B 8 4 8 4) (gset_at _ _ _) B ((gset_ne (Ne.symm hne)).trans hB) g6) cb_X5_copyRow q2_110 rfl rfl ⟨Nat.le_of_ble_eq_true rfl, Nat.le_of_ble_eq_true rfl⟩ rfl hl.1 rfl (Nat.le_of_ble_eq_true rfl) dX4_copy_27 ⟨Nat.zero_le _, Nat.zero_le _⟩) hh (fun H locs hh => ?_)
  replace hh : hH D ad cI cJ cF (gset S j (m_X5_copyRow (m_X5_copyRow (aset A 7 0 (B 7 0)) B 8 4 8 4) B 9 4 9 4)) s H locs := by rw [← show _ = (gset S j (m_X5_copyRow (m_X5_copyRow (aset A 7 0 (B 7 0)) B 8 4 8 4) B 9 4 9 4)) from (gset_gset _ _ _ _)]; exact hh
  refine lv_aload_n hx hb dX4_copy_30 rfl (lv_at hl 1 rfl) ?_
  refine iv_get (v' := .ref (ad j2 10)) hx hb hts inX4 hown hK hh.1 (ob_Sheets hj2) rfl 3 (by decide) (hts _ q1_35) rfl rfl rfl dX4_copy_31 ?_
  refine lv_aload_n hx hb dX4_copy_34 rfl (lv_at hl 0 rfl) ?_
  refine iv_get (v' := .ref (ad j 10)) hx hb hts inX4 hown hK hh.1 (ob_Sheets hj) rfl 3 (by decide) (hts _ q1_35) rfl rfl rfl dX4_copy_35 ?_
  obtain ⟨g7, h⟩ := h
  refine iv_kv (iv_rN (As := [.ref (ad j2 10), .ref (ad j 10)]) (rest := []) E hh (ok_X5_copyRow l hinj (gset S j (m_X5_copyRow (m_X5_copyRow (aset A 7 0 (B 7 0)) B 8 4 8 4) B 9 4 9 4)) (ia_F_10 hj2) (ia_F_10 hj) hne (m_X5_copyRow (m_X5_copyRow (aset A 7 0 (B 7 0)) B 8 4 8 4) B 9 4 9 4) (gset_at _ _ _) B ((gset_ne (Ne.symm hne)).trans hB) g7) cb_X5_copyRow q2_110 rfl rfl ⟨Nat.le_of_ble_eq_true rfl, Nat.le_of_ble_eq_true rfl⟩ rfl hl.1 rfl (Nat.le_of_ble_eq_true rfl) dX4_copy_38 ⟨Nat.zero_le _, Nat.zero_le _⟩) hh (fun H locs hh => ?_)
  replace hh : hH D ad cI cJ cF (gset S j (m_X5_copyRow (m_X5_copyRow (m_X5_copyRow (aset A 7 0 (B 7 0)) B 8 4 8 4) B 9 4 9 4) B 10 4 10 4)) s H locs := by rw [← show _ = (gset S j (m_X5_copyRow (m_X5_copyRow (m_X5_copyRow (aset A 7 0 (B 7 0)) B 8 4 8 4) B 9 4 9 4) B 10 4 10 4)) from (gset_gset _ _ _ _)]; exact hh
  refine lv_aload_n hx hb dX4_copy_41 rfl (lv_at hl 1 rfl) ?_
  refine iv_get (v' := .ref (ad j2 11)) hx hb hts inX4 hown hK hh.1 (ob_Sheets hj2) rfl 4 (by decide) (hts _ q1_38) rfl rfl rfl dX4_copy_42 ?_
  refine lv_aload_n hx hb dX4_copy_45 rfl (lv_at hl 0 rfl) ?_
  refine iv_get (v' := .ref (ad j 11)) hx hb hts inX4 hown hK hh.1 (ob_Sheets hj) rfl 4 (by decide) (hts _ q1_38) rfl rfl rfl dX4_copy_46 ?_
  obtain ⟨g8, h⟩ := h
  refine iv_kv (iv_rN (As := [.ref (ad j2 11), .ref (ad j 11)]) (rest := []) E hh (ok_X5_copyRow l hinj (gset S j (m_X5_copyRow (m_X5_copyRow (m_X5_copyRow (aset A 7 0 (B 7 0)) B 8 4 8 4) B 9 4 9 4) B 10 4 10 4)) (ia_F_11 hj2) (ia_F_11 hj) hne (m_X5_copyRow (m_X5_copyRow (m_X5_copyRow (aset A 7 0 (B 7 0)) B 8 4 8 4) B 9 4 9 4) B 10 4 10 4) (gset_at _ _ _) B ((gset_ne (Ne.symm hne)).trans hB) g8) cb_X5_copyRow q2_110 rfl rfl ⟨Nat.le_of_ble_eq_true rfl, Nat.le_of_ble_eq_true rfl⟩ rfl hl.1 rfl (Nat.le_of_ble_eq_true rfl) dX4_copy_49 ⟨Nat.zero_le _, Nat.zero_le _⟩) hh (fun H locs hh => ?_)
  replace hh : hH D ad cI cJ cF (gset S j (m_X5_copyRow (m_X5_copyRow (m_X5_copyRow (m_X5_copyRow (aset A 7 0 (B 7 0)) B 8 4 8 4) B 9 4 9 4) B 10 4 10 4) B 11 32 11 32)) s H locs := by rw [← show _ = (gset S j (m_X5_copyRow (m_X5_copyRow (m_X5_copyRow (m_X5_copyRow (aset A 7 0 (B 7 0)) B 8 4 8 4) B 9 4 9 4) B 10 4 10 4) B 11 32 11 32)) from (gset_gset _ _ _ _)]; exact hh
  refine iv_iconst hx hb dX4_copy_52 ?_
  refine lv_istore_n (lv' := [(2, .int (hI 0)), (0, .ref (ad j 7)), (1, .ref (ad j2 7))]) hx hb dX4_copy_53 rfl hl (by decide) rfl (fun ls hl => ?_)
  exact h H _ ls hh (lv_sub hl [1, 2, 0] rfl)
set_option maxHeartbeats 4000000 in
set_option maxRecDepth 100000 in
theorem ok_X4_isMade (l : Launch) (hinj : hInj ad) (S : hS) {j : Nat} (hj : j < 7) (A : hGM) (hA : S j = A) (slot : Int) (h_slot : hIn slot) : hMi D ad cI cJ cF l yX4_isMade cX4_isMade 2 (some .boolean) ({ frames := 1, cells := 0, slots := 0, locals := 21 } : Room) [.ref (ad j 7), .int (hI slot)] S (v_X4_isMade A slot) S := by
  refine hOf (S := S) l hinj (by decide +kernel) (Nat.le_of_ble_eq_true rfl) (fun p e s m args below meth c E => ?_)
  obtain ⟨hx, hb, hml, hown, hts, hK, hN, -, hr, hlk, hz⟩ := id E
  have hown : s.vm.findClass RX4 = some m.cls := hown
  intro H locs ls hh hl
  have hl : lv_has ls 2 [(0, .ref (ad j 7)), (1, .int (hI slot))] := hl
  refine lv_aload_n hx hb dX4_isMade_0 rfl (lv_at hl 0 rfl) ?_
  refine iv_get (v' := .ref (ad j 8)) hx hb hts inX4 hown hK hh.1 (ob_Sheets hj) rfl 1 (by decide) (hts _ q1_31) rfl rfl rfl dX4_isMade_1 ?_
  refine lv_iload_n hx hb dX4_isMade_4 rfl (lv_at hl 1 rfl) ?_
  refine iv_ki (iv_rN (As := [.ref (ad j 8), .int (hI slot)]) (rest := []) E hh (ok_X5_cell l hinj S (ia_F_8 hj) A hA slot h_slot) cb_X5_cell q1_217 rfl rfl ⟨Nat.le_of_ble_eq_true rfl, Nat.le_of_ble_eq_true rfl⟩ rfl hl.1 rfl (Nat.le_of_ble_eq_true rfl) dX4_isMade_5 ⟨Nat.zero_le _, Nat.zero_le _⟩) hh (fun hc1 H locs hh => ?_)
  refine iv_if_le (tgt := 15) hx hb hc1 dX4_isMade_8 (by decide) (fun c2 => ?_) (fun c2 => ?_)
  · refine iv_iconst hx hb dX4_isMade_15 ?_
    exact iv_bret E hh (by unfold v_X4_isMade; rw [if_pos c2]) (by rw [← show 0 = v_X4_isMade A slot from (by unfold v_X4_isMade; rw [if_pos c2])]; exact (Or.inl rfl)) rfl dX4_isMade_16
  · refine iv_iconst hx hb dX4_isMade_11 ?_
    refine lv_goto (tgt := 16) hx hb dX4_isMade_12 (by decide) ?_
    exact iv_bret E hh (by unfold v_X4_isMade; rw [if_neg c2]) (by rw [← show 1 = v_X4_isMade A slot from (by unfold v_X4_isMade; rw [if_neg c2])]; exact (Or.inr rfl)) rfl dX4_isMade_16
set_option maxHeartbeats 4000000 in
set_option maxRecDepth 100000 in
theorem ok_X4_held (l : Launch) (hinj : hInj ad) (S : hS) {j : Nat} (hj : j < 7) (A : hGM) (hA : S j = A) (hp : p_X4_held A) : hMi D ad cI cJ cF l yX4_held cX4_held 3 (some .int) ({ frames := 2, cells := 0, slots := 0, locals := 42 } : Room) [.ref (ad j 7)] S (v_X4_held A) S := by
  refine hOf (S := S) l hinj (by decide +kernel) (Nat.le_of_ble_eq_true rfl) (fun p e s m args below meth c E => ?_)
  obtain ⟨hx, hb, hml, hown, hts, hK, hN, -, hr, hlk, hz⟩ := id E
  have hown : s.vm.findClass RX4 = some m.cls := hown
  have r4 : ∀ (y1 : Int) (y2 : Int), hIn y1 → hIn y2 → (((y2 < 4 → (((v_X4_isMade A y2) = 0 → (hAt D ad cI cJ cF p l e ({ frames := 2, cells := 0, slots := 0, locals := 42 } : Room) s m args below meth c (MQ below (hQi D ad cI cJ cF (v_X4_held A) S) args s 0 0 (hAd ad)) 3 4 [(0, .ref (ad j 7)), (1, .int (hI y1)), (2, .int (hI (y2 + 1)))] S)) ∧ (¬ (v_X4_isMade A y2) = 0 → (hAt D ad cI cJ cF p l e ({ frames := 2, cells := 0, slots := 0, locals := 42 } : Room) s m args below meth c (MQ below (hQi D ad cI cJ cF (v_X4_held A) S) args s 0 0 (hAd ad)) 3 4 [(0, .ref (ad j 7)), (1, .int (hI (y1 + 1))), (2, .int (hI (y2 + 1)))] S)))) ∧ (¬ y2 < 4 → (y1 = v_X4_held A)))) → (hAt D ad cI cJ cF p l e ({ frames := 2, cells := 0, slots := 0, locals := 42 } : Room) s m args below meth c (MQ below (hQi D ad cI cJ cF (v_X4_held A) S) args s 0 0 (hAd ad)) 3 4 [(0, .ref (ad j 7)), (1, .int (hI y1)), (2, .int (hI y2))] S) := by
    intro y1 y2 h_y1 h_y2 h H locs ls hh hl
    refine lv_iload_n hx hb dX4_held_4 rfl (lv_at hl 2 rfl) ?_
    refine iv_iconst hx hb dX4_held_5 ?_
    refine iv_icmp_ge (tgt := 26) hx hb h_y2 ⟨by decide, by decide⟩ dX4_held_6 (by decide) (fun c1 => ?_) (fun c1 => ?_)
    · have h := h.2 c1
      refine lv_iload_n hx hb dX4_held_26 rfl (lv_at hl 1 rfl) ?_
      exact iv_iret E hh h (by rw [← h]; exact h_y1) rfl dX4_held_27
    · have h := h.1 c1
      refine lv_aload_n hx hb dX4_held_9 rfl (lv_at hl 0 rfl) ?_
      refine lv_iload_n hx hb dX4_held_10 rfl (lv_at hl 2 rfl) ?_
      refine iv_ki (iv_rV (As := [.int (hI y2)]) (rest := []) E hh (ok_X4_isMade l hinj S hj A hA y2 h_y2) cb_X4_isMade q1_213 rfl rfl ⟨Nat.le_of_ble_eq_true rfl, Nat.le_of_ble_eq_true rfl⟩ (ob_Sheets hj) rfl rfl rfl hl.1 rfl (Nat.le_of_ble_eq_true rfl) dX4_held_11 ⟨Nat.zero_le _, Nat.zero_le _⟩) hh (fun hc2 H locs hh => ?_)
      refine iv_if_eq (tgt := 20) hx hb hc2 dX4_held_14 (by decide) (fun c3 => ?_) (fun c3 => ?_)
      · have h := h.1 c3
        refine iv_iinc (lv' := [(2, .int (hI (y2 + 1))), (0, .ref (ad j 7)), (1, .int (hI y1))]) hx hb dX4_held_20 hl (k := 2) rfl (v := (y2 + 1)) rfl (by decide) rfl (fun ls hl => ?_)
        refine lv_goto (tgt := 4) hx hb dX4_held_23 (by decide) ?_
        exact h H _ ls hh (lv_sub hl [1, 2, 0] rfl)
      · have h := h.2 c3
        refine iv_iinc (lv' := [(1, .int (hI (y1 + 1))), (0, .ref (ad j 7)), (2, .int (hI y2))]) hx hb dX4_held_17 hl (k := 1) rfl (v := (y1 + 1)) rfl (by decide) rfl (fun ls hl => ?_)
        refine iv_iinc (lv' := [(2, .int (hI (y2 + 1))), (1, .int (hI (y1 + 1))), (0, .ref (ad j 7))]) hx hb dX4_held_20 hl (k := 2) rfl (v := (y2 + 1)) rfl (by decide) rfl (fun ls hl => ?_)
        refine lv_goto (tgt := 4) hx hb dX4_held_23 (by decide) ?_
        exact h H _ ls hh (lv_sub hl [2, 1, 0] rfl)
  intro H locs ls hh hl
  have hl : lv_has ls 3 [(0, .ref (ad j 7))] := hl
  have h := x_X4_held A (fun i k hi => hIn_rd hh.2.1 hA hi) hp (fun y1 y2 => (hAt D ad cI cJ cF p l e ({ frames := 2, cells := 0, slots := 0, locals := 42 } : Room) s m args below meth c (MQ below (hQi D ad cI cJ cF (v_X4_held A) S) args s 0 0 (hAd ad)) 3 4 [(0, .ref (ad j 7)), (1, .int (hI y1)), (2, .int (hI y2))] S)) (fun r => (r = v_X4_held A)) r4 rfl
  refine iv_iconst hx hb dX4_held_0 ?_
  refine lv_istore_n (lv' := [(1, .int (hI 0)), (0, .ref (ad j 7))]) hx hb dX4_held_1 rfl hl (by decide) rfl (fun ls hl => ?_)
  refine iv_iconst hx hb dX4_held_2 ?_
  refine lv_istore_n (lv' := [(2, .int (hI 0)), (1, .int (hI 0)), (0, .ref (ad j 7))]) hx hb dX4_held_3 rfl hl (by decide) rfl (fun ls hl => ?_)
  exact h H _ ls hh (lv_sub hl [2, 1, 0] rfl)
set_option maxHeartbeats 4000000 in
set_option maxRecDepth 100000 in
theorem ok_X4_slotOf (l : Launch) (hinj : hInj ad) (S : hS) {j : Nat} (hj : j < 7) (A : hGM) (hA : S j = A) (size : Int) (h_size : hIn size) (hp : p_X4_slotOf A size) : hMi D ad cI cJ cF l yX4_slotOf cX4_slotOf 3 (some .int) ({ frames := 2, cells := 0, slots := 0, locals := 42 } : Room) [.ref (ad j 7), .int (hI size)] S (v_X4_slotOf A size) S := by
  refine hOf (S := S) l hinj (by decide +kernel) (Nat.le_of_ble_eq_true rfl) (fun p e s m args below meth c E => ?_)
  obtain ⟨hx, hb, hml, hown, hts, hK, hN, -, hr, hlk, hz⟩ := id E
  have hown : s.vm.findClass RX4 = some m.cls := hown
  have r2 : ∀ (y2 : Int), hIn y2 → (((y2 < 4 → (((v_X4_isMade A y2) = 0 → (hAt D ad cI cJ cF p l e ({ frames := 2, cells := 0, slots := 0, locals := 42 } : Room) s m args below meth c (MQ below (hQi D ad cI cJ cF (v_X4_slotOf A size) S) args s 0 0 (hAd ad)) 3 2 [(0, .ref (ad j 7)), (1, .int (hI size)), (2, .int (hI (y2 + 1)))] S)) ∧ (¬ (v_X4_isMade A y2) = 0 → (((v_X5_cell A 9 4 y2) = size → (y2 = v_X4_slotOf A size)) ∧ (¬ (v_X5_cell A 9 4 y2) = size → (hAt D ad cI cJ cF p l e ({ frames := 2, cells := 0, slots := 0, locals := 42 } : Room) s m args below meth c (MQ below (hQi D ad cI cJ cF (v_X4_slotOf A size) S) args s 0 0 (hAd ad)) 3 2 [(0, .ref (ad j 7)), (1, .int (hI size)), (2, .int (hI (y2 + 1)))] S)))))) ∧ (¬ y2 < 4 → ((-1) = v_X4_slotOf A size)))) → (hAt D ad cI cJ cF p l e ({ frames := 2, cells := 0, slots := 0, locals := 42 } : Room) s m args below meth c (MQ below (hQi D ad cI cJ cF (v_X4_slotOf A size) S) args s 0 0 (hAd ad)) 3 2 [(0, .ref (ad j 7)), (1, .int (hI size)), (2, .int (hI y2))] S) := by
    intro y2 h_y2 h H locs ls hh hl
    refine lv_iload_n hx hb dX4_slotOf_2 rfl (lv_at hl 2 rfl) ?_
    refine iv_iconst hx hb dX4_slotOf_3 ?_
    refine iv_icmp_ge (tgt := 35) hx hb h_y2 ⟨by decide, by decide⟩ dX4_slotOf_4 (by decide) (fun c1 => ?_) (fun c1 => ?_)
    · have h := h.2 c1
      refine iv_iconst hx hb dX4_slotOf_35 ?_
      exact iv_iret E hh h (by rw [← h]; exact ⟨by decide, by decide⟩) rfl dX4_slotOf_36
    · have h := h.1 c1
      refine lv_aload_n hx hb dX4_slotOf_7 rfl (lv_at hl 0 rfl) ?_
      refine lv_iload_n hx hb dX4_slotOf_8 rfl (lv_at hl 2 rfl) ?_
      refine iv_ki (iv_rV (As := [.int (hI y2)]) (rest := []) E hh (ok_X4_isMade l hinj S hj A hA y2 h_y2) cb_X4_isMade q1_213 rfl rfl ⟨Nat.le_of_ble_eq_true rfl, Nat.le_of_ble_eq_true rfl⟩ (ob_Sheets hj) rfl rfl rfl hl.1 rfl (Nat.le_of_ble_eq_true rfl) dX4_slotOf_9 ⟨Nat.zero_le _, Nat.zero_le _⟩) hh (fun hc2 H locs hh => ?_)
      refine iv_if_eq (tgt := 29) hx hb hc2 dX4_slotOf_12 (by decide) (fun c3 => ?_) (fun c3 => ?_)
      · have h := h.1 c3
        refine iv_iinc (lv' := [(2, .int (hI (y2 + 1))), (0, .ref (ad j 7)), (1, .int (hI size))]) hx hb dX4_slotOf_29 hl (k := 2) rfl (v := (y2 + 1)) rfl (by decide) rfl (fun ls hl => ?_)
        refine lv_goto (tgt := 2) hx hb dX4_slotOf_32 (by decide) ?_
        exact h H _ ls hh (lv_sub hl [1, 2, 0] rfl)
      · have h := h.2 c3
        refine lv_aload_n hx hb dX4_slotOf_15 rfl (lv_at hl 0 rfl) ?_
        refine iv_get (v' := .ref (ad j 9)) hx hb hts inX4 hown hK hh.1 (ob_Sheets hj) rfl 2 (by decide) (hts _ q1_32) rfl rfl rfl dX4_slotOf_16 ?_
        refine lv_iload_n hx hb dX4_slotOf_19 rfl (lv_at hl 2 rfl) ?_
        refine iv_ki (iv_rN (As := [.ref (ad j 9), .int (hI y2)]) (rest := []) E hh (ok_X5_cell l hinj S (ia_F_9 hj) A hA y2 h_y2) cb_X5_cell q1_217 rfl rfl ⟨Nat.le_of_ble_eq_true rfl, Nat.le_of_ble_eq_true rfl⟩ rfl hl.1 rfl (Nat.le_of_ble_eq_true rfl) dX4_slotOf_20 ⟨Nat.zero_le _, Nat.zero_le _⟩) hh (fun hc4 H locs hh => ?_)
        refine lv_iload_n hx hb dX4_slotOf_23 rfl (lv_at hl 1 rfl) ?_
        refine iv_icmp_ne (tgt := 29) hx hb hc4 h_size dX4_slotOf_24 (by decide) (fun c5 => ?_) (fun c5 => ?_)
        · have h := h.2 c5
          refine iv_iinc (lv' := [(2, .int (hI (y2 + 1))), (0, .ref (ad j 7)), (1, .int (hI size))]) hx hb dX4_slotOf_29 hl (k := 2) rfl (v := (y2 + 1)) rfl (by decide) rfl (fun ls hl => ?_)
          refine lv_goto (tgt := 2) hx hb dX4_slotOf_32 (by decide) ?_
          exact h H _ ls hh (lv_sub hl [1, 2, 0] rfl)
        · have h := h.1 c5
          refine lv_iload_n hx hb dX4_slotOf_27 rfl (lv_at hl 2 rfl) ?_
          exact iv_iret E hh h (by rw [← h]; exact h_y2) rfl dX4_slotOf_28
  intro H locs ls hh hl
  have hl : lv_has ls 3 [(0, .ref (ad j 7)), (1, .int (hI size))] := hl
  have h := x_X4_slotOf A size h_size (fun i k hi => hIn_rd hh.2.1 hA hi) hp (fun y2 => (hAt D ad cI cJ cF p l e ({ frames := 2, cells := 0, slots := 0, locals := 42 } : Room) s m args below meth c (MQ below (hQi D ad cI cJ cF (v_X4_slotOf A size) S) args s 0 0 (hAd ad)) 3 2 [(0, .ref (ad j 7)), (1, .int (hI size)), (2, .int (hI y2))] S)) (fun r => (r = v_X4_slotOf A size)) r2 rfl
  refine iv_iconst hx hb dX4_slotOf_0 ?_
  refine lv_istore_n (lv' := [(2, .int (hI 0)), (0, .ref (ad j 7)), (1, .int (hI size))]) hx hb dX4_slotOf_1 rfl hl (by decide) rfl (fun ls hl => ?_)
  exact h H _ ls hh (lv_sub hl [1, 2, 0] rfl)
set_option maxHeartbeats 4000000 in
set_option maxRecDepth 100000 in
theorem ok_X4_olderThan (l : Launch) (hinj : hInj ad) (S : hS) {j : Nat} (hj : j < 7) (A : hGM) (hA : S j = A) (slot : Int) (h_slot : hIn slot) (hp : p_X4_olderThan A slot) : hMi D ad cI cJ cF l yX4_olderThan cX4_olderThan 4 (some .int) ({ frames := 2, cells := 0, slots := 0, locals := 42 } : Room) [.ref (ad j 7), .int (hI slot)] S (v_X4_olderThan A slot) S := by
  refine hOf (S := S) l hinj (by decide +kernel) (Nat.le_of_ble_eq_true rfl) (fun p e s m args below meth c E => ?_)
  obtain ⟨hx, hb, hml, hown, hts, hK, hN, -, hr, hlk, hz⟩ := id E
  have hown : s.vm.findClass RX4 = some m.cls := hown
  have r4 : ∀ (y2 : Int) (y3 : Int), hIn y2 → hIn y3 → (((y3 < 4 → (((v_X4_isMade A y3) = 0 → (hAt D ad cI cJ cF p l e ({ frames := 2, cells := 0, slots := 0, locals := 42 } : Room) s m args below meth c (MQ below (hQi D ad cI cJ cF (v_X4_olderThan A slot) S) args s 0 0 (hAd ad)) 4 4 [(0, .ref (ad j 7)), (1, .int (hI slot)), (2, .int (hI y2)), (3, .int (hI (y3 + 1)))] S)) ∧ (¬ (v_X4_isMade A y3) = 0 → (((v_X5_cell A 8 4 y3) < (v_X5_cell A 8 4 slot) → (hAt D ad cI cJ cF p l e ({ frames := 2, cells := 0, slots := 0, locals := 42 } : Room) s m args below meth c (MQ below (hQi D ad cI cJ cF (v_X4_olderThan A slot) S) args s 0 0 (hAd ad)) 4 4 [(0, .ref (ad j 7)), (1, .int (hI slot)), (2, .int (hI (y2 + 1))), (3, .int (hI (y3 + 1)))] S)) ∧ (¬ (v_X5_cell A 8 4 y3) < (v_X5_cell A 8 4 slot) → (hAt D ad cI cJ cF p l e ({ frames := 2, cells := 0, slots := 0, locals := 42 } : Room) s m args below meth c (MQ below (hQi D ad cI cJ cF (v_X4_olderThan A slot) S) args s 0 0 (hAd ad)) 4 4 [(0, .ref (ad j 7)), (1, .int (hI slot)), (2, .int (hI y2)), (3, .int (hI (y3 + 1)))] S)))))) ∧ (¬ y3 < 4 → (y2 = v_X4_olderThan A slot)))) → (hAt D ad cI cJ cF p l e ({ frames := 2, cells := 0, slots := 0, locals := 42 } : Room) s m args below meth c (MQ below (hQi D ad cI cJ cF (v_X4_olderThan A slot) S) args s 0 0 (hAd ad)) 4 4 [(0, .ref (ad j 7)), (1, .int (hI slot)), (2, .int (hI y2)), (3, .int (hI y3))] S) := by
    intro y2 y3 h_y2 h_y3 h H locs ls hh hl
    refine lv_iload_n hx hb dX4_olderThan_4 rfl (lv_at hl 3 rfl) ?_
    refine iv_iconst hx hb dX4_olderThan_5 ?_
    refine iv_icmp_ge (tgt := 45) hx hb h_y3 ⟨by decide, by decide⟩ dX4_olderThan_6 (by decide) (fun c1 => ?_) (fun c1 => ?_)
    · have h := h.2 c1
      refine lv_iload_n hx hb dX4_olderThan_45 rfl (lv_at hl 2 rfl) ?_
      exact iv_iret E hh h (by rw [← h]; exact h_y2) rfl dX4_olderThan_46
    · have h := h.1 c1
      refine lv_aload_n hx hb dX4_olderThan_9 rfl (lv_at hl 0 rfl) ?_
      refine lv_iload_n hx hb dX4_olderThan_10 rfl (lv_at hl 3 rfl) ?_
      refine iv_ki (iv_rV (As := [.int (hI y3)]) (rest := []) E hh (ok_X4_isMade l hinj S hj A hA y3 h_y3) cb_X4_isMade q1_213 rfl rfl ⟨Nat.le_of_ble_eq_true rfl, Nat.le_of_ble_eq_true rfl⟩ (ob_Sheets hj) rfl rfl rfl hl.1 rfl (Nat.le_of_ble_eq_true rfl) dX4_olderThan_11 ⟨Nat.zero_le _, Nat.zero_le _⟩) hh (fun hc2 H locs hh => ?_)
      refine iv_if_eq (tgt := 39) hx hb hc2 dX4_olderThan_14 (by decide) (fun c3 => ?_) (fun c3 => ?_)
      · have h := h.1 c3
        refine iv_iinc (lv' := [(3, .int (hI (y3 + 1))), (0, .ref (ad j 7)), (1, .int (hI slot)), (2, .int (hI y2))]) hx hb dX4_olderThan_39 hl (k := 3) rfl (v := (y3 + 1)) rfl (by decide) rfl (fun ls hl => ?_)
        refine lv_goto (tgt := 4) hx hb dX4_olderThan_42 (by decide) ?_
        exact h H _ ls hh (lv_sub hl [1, 2, 3, 0] rfl)
      · have h := h.2 c3
        refine lv_aload_n hx hb dX4_olderThan_17 rfl (lv_at hl 0 rfl) ?_
        refine iv_get (v' := .ref (ad j 8)) hx hb hts inX4 hown hK hh.1 (ob_Sheets hj) rfl 1 (by decide) (hts _ q1_31) rfl rfl rfl dX4_olderThan_18 ?_
        refine lv_iload_n hx hb dX4_olderThan_21 rfl (lv_at hl 3 rfl) ?_
        refine iv_ki (iv_rN (As := [.ref (ad j 8), .int (hI y3)]) (rest := []) E hh (ok_X5_cell l hinj S (ia_F_8 hj) A hA y3 h_y3) cb_X5_cell q1_217 rfl rfl ⟨Nat.le_of_ble_eq_true rfl, Nat.le_of_ble_eq_true rfl⟩ rfl hl.1 rfl (Nat.le_of_ble_eq_true rfl) dX4_olderThan_22 ⟨Nat.zero_le _, Nat.zero_le _⟩) hh (fun hc4 H locs hh => ?_)
        refine lv_aload_n hx hb dX4_olderThan_25 rfl (lv_at hl 0 rfl) ?_
        refine iv_get (v' := .ref (ad j 8)) hx hb hts inX4 hown hK hh.1 (ob_Sheets hj) rfl 1 (by decide) (hts _ q1_31) rfl rfl rfl dX4_olderThan_26 ?_
        refine lv_iload_n hx hb dX4_olderThan_29 rfl (lv_at hl 1 rfl) ?_
        refine iv_ki (iv_rN (As := [.ref (ad j 8), .int (hI slot)]) (rest := [.int (hI (v_X5_cell A 8 4 y3))]) E hh (ok_X5_cell l hinj S (ia_F_8 hj) A hA slot h_slot) cb_X5_cell q1_217 rfl rfl ⟨Nat.le_of_ble_eq_true rfl, Nat.le_of_ble_eq_true rfl⟩ rfl hl.1 rfl (Nat.le_of_ble_eq_true rfl) dX4_olderThan_30 ⟨Nat.zero_le _, Nat.zero_le _⟩) hh (fun hc5 H locs hh => ?_)
        refine iv_icmp_ge (tgt := 39) hx hb hc4 hc5 dX4_olderThan_33 (by decide) (fun c6 => ?_) (fun c6 => ?_)
        · have h := h.2 c6
          refine iv_iinc (lv' := [(3, .int (hI (y3 + 1))), (0, .ref (ad j 7)), (1, .int (hI slot)), (2, .int (hI y2))]) hx hb dX4_olderThan_39 hl (k := 3) rfl (v := (y3 + 1)) rfl (by decide) rfl (fun ls hl => ?_)
          refine lv_goto (tgt := 4) hx hb dX4_olderThan_42 (by decide) ?_
          exact h H _ ls hh (lv_sub hl [1, 2, 3, 0] rfl)
        · have h := h.1 c6
          refine iv_iinc (lv' := [(2, .int (hI (y2 + 1))), (0, .ref (ad j 7)), (1, .int (hI slot)), (3, .int (hI y3))]) hx hb dX4_olderThan_36 hl (k := 2) rfl (v := (y2 + 1)) rfl (by decide) rfl (fun ls hl => ?_)
          refine iv_iinc (lv' := [(3, .int (hI (y3 + 1))), (2, .int (hI (y2 + 1))), (0, .ref (ad j 7)), (1, .int (hI slot))]) hx hb dX4_olderThan_39 hl (k := 3) rfl (v := (y3 + 1)) rfl (by decide) rfl (fun ls hl => ?_)
          refine lv_goto (tgt := 4) hx hb dX4_olderThan_42 (by decide) ?_
          exact h H _ ls hh (lv_sub hl [2, 3, 1, 0] rfl)
  intro H locs ls hh hl
  have hl : lv_has ls 4 [(0, .ref (ad j 7)), (1, .int (hI slot))] := hl
  have h := x_X4_olderThan A slot h_slot (fun i k hi => hIn_rd hh.2.1 hA hi) hp (fun y2 y3 => (hAt D ad cI cJ cF p l e ({ frames := 2, cells := 0, slots := 0, locals := 42 } : Room) s m args below meth c (MQ below (hQi D ad cI cJ cF (v_X4_olderThan A slot) S) args s 0 0 (hAd ad)) 4 4 [(0, .ref (ad j 7)), (1, .int (hI slot)), (2, .int (hI y2)), (3, .int (hI y3))] S)) (fun r => (r = v_X4_olderThan A slot)) r4 rfl
  refine iv_iconst hx hb dX4_olderThan_0 ?_
  refine lv_istore_n (lv' := [(2, .int (hI 0)), (0, .ref (ad j 7)), (1, .int (hI slot))]) hx hb dX4_olderThan_1 rfl hl (by decide) rfl (fun ls hl => ?_)
  refine iv_iconst hx hb dX4_olderThan_2 ?_
  refine lv_istore_n (lv' := [(3, .int (hI 0)), (2, .int (hI 0)), (0, .ref (ad j 7)), (1, .int (hI slot))]) hx hb dX4_olderThan_3 rfl hl (by decide) rfl (fun ls hl => ?_)
  exact h H _ ls hh (lv_sub hl [2, 3, 1, 0] rfl)
set_option maxHeartbeats 4000000 in
set_option maxRecDepth 100000 in
theorem ok_X4_slotAt (l : Launch) (hinj : hInj ad) (S : hS) {j : Nat} (hj : j < 7) (A : hGM) (hA : S j = A) (index : Int) (h_index : hIn index) (hp : p_X4_slotAt A index) : hMi D ad cI cJ cF l yX4_slotAt cX4_slotAt 3 (some .int) ({ frames := 3, cells := 0, slots := 0, locals := 65 } : Room) [.ref (ad j 7), .int (hI index)] S (v_X4_slotAt A index) S := by
  refine hOf (S := S) l hinj (by decide +kernel) (Nat.le_of_ble_eq_true rfl) (fun p e s m args below meth c E => ?_)
  obtain ⟨hx, hb, hml, hown, hts, hK, hN, -, hr, hlk, hz⟩ := id E
  have hown : s.vm.findClass RX4 = some m.cls := hown
  have r2 : ∀ (y2 : Int), hIn y2 → (((y2 < 4 → (((v_X4_isMade A y2) = 0 → (hAt D ad cI cJ cF p l e ({ frames := 3, cells := 0, slots := 0, locals := 65 } : Room) s m args below meth c (MQ below (hQi D ad cI cJ cF (v_X4_slotAt A index) S) args s 0 0 (hAd ad)) 3 2 [(0, .ref (ad j 7)), (1, .int (hI index)), (2, .int (hI (y2 + 1)))] S)) ∧ (¬ (v_X4_isMade A y2) = 0 → (p_X4_olderThan A y2 ∧ (((v_X4_olderThan A y2) = index → (y2 = v_X4_slotAt A index)) ∧ (¬ (v_X4_olderThan A y2) = index → (hAt D ad cI cJ cF p l e ({ frames := 3, cells := 0, slots := 0, locals := 65 } : Room) s m args below meth c (MQ below (hQi D ad cI cJ cF (v_X4_slotAt A index) S) args s 0 0 (hAd ad)) 3 2 [(0, .ref (ad j 7)), (1, .int (hI index)), (2, .int (hI (y2 + 1)))] S))))))) ∧ (¬ y2 < 4 → ((-1) = v_X4_slotAt A index)))) → (hAt D ad cI cJ cF p l e ({ frames := 3, cells := 0, slots := 0, locals := 65 } : Room) s m args below meth c (MQ below (hQi D ad cI cJ cF (v_X4_slotAt A index) S) args s 0 0 (hAd ad)) 3 2 [(0, .ref (ad j 7)), (1, .int (hI index)), (2, .int (hI y2))] S) := by
    intro y2 h_y2 h H locs ls hh hl
    refine lv_iload_n hx hb dX4_slotAt_2 rfl (lv_at hl 2 rfl) ?_
    refine iv_iconst hx hb dX4_slotAt_3 ?_
    refine iv_icmp_ge (tgt := 32) hx hb h_y2 ⟨by decide, by decide⟩ dX4_slotAt_4 (by decide) (fun c1 => ?_) (fun c1 => ?_)
    · have h := h.2 c1
      refine iv_iconst hx hb dX4_slotAt_32 ?_
      exact iv_iret E hh h (by rw [← h]; exact ⟨by decide, by decide⟩) rfl dX4_slotAt_33
    · have h := h.1 c1
      refine lv_aload_n hx hb dX4_slotAt_7 rfl (lv_at hl 0 rfl) ?_
      refine lv_iload_n hx hb dX4_slotAt_8 rfl (lv_at hl 2 rfl) ?_
      refine iv_ki (iv_rV (As := [.int (hI y2)]) (rest := []) E hh (ok_X4_isMade l hinj S hj A hA y2 h_y2) cb_X4_isMade q1_213 rfl rfl ⟨Nat.le_of_ble_eq_true rfl, Nat.le_of_ble_eq_true rfl⟩ (ob_Sheets hj) rfl rfl rfl hl.1 rfl (Nat.le_of_ble_eq_true rfl) dX4_slotAt_9 ⟨Nat.zero_le _, Nat.zero_le _⟩) hh (fun hc2 H locs hh => ?_)
      refine iv_if_eq (tgt := 26) hx hb hc2 dX4_slotAt_12 (by decide) (fun c3 => ?_) (fun c3 => ?_)
      · have h := h.1 c3
        refine iv_iinc (lv' := [(2, .int (hI (y2 + 1))), (0, .ref (ad j 7)), (1, .int (hI index))]) hx hb dX4_slotAt_26 hl (k := 2) rfl (v := (y2 + 1)) rfl (by decide) rfl (fun ls hl => ?_)
        refine lv_goto (tgt := 2) hx hb dX4_slotAt_29 (by decide) ?_
        exact h H _ ls hh (lv_sub hl [1, 2, 0] rfl)
      · have h := h.2 c3
        refine lv_aload_n hx hb dX4_slotAt_15 rfl (lv_at hl 0 rfl) ?_
        refine lv_iload_n hx hb dX4_slotAt_16 rfl (lv_at hl 2 rfl) ?_
        obtain ⟨g4, h⟩ := h
        refine iv_ki (iv_rV (As := [.int (hI y2)]) (rest := []) E hh (ok_X4_olderThan l hinj S hj A hA y2 h_y2 g4) cb_X4_olderThan q3_51 rfl rfl ⟨Nat.le_of_ble_eq_true rfl, Nat.le_of_ble_eq_true rfl⟩ (ob_Sheets hj) rfl rfl rfl hl.1 rfl (Nat.le_of_ble_eq_true rfl) dX4_slotAt_17 ⟨Nat.zero_le _, Nat.zero_le _⟩) hh (fun hc5 H locs hh => ?_)
        refine lv_iload_n hx hb dX4_slotAt_20 rfl (lv_at hl 1 rfl) ?_
        refine iv_icmp_ne (tgt := 26) hx hb hc5 h_index dX4_slotAt_21 (by decide) (fun c6 => ?_) (fun c6 => ?_)
        · have h := h.2 c6
          refine iv_iinc (lv' := [(2, .int (hI (y2 + 1))), (0, .ref (ad j 7)), (1, .int (hI index))]) hx hb dX4_slotAt_26 hl (k := 2) rfl (v := (y2 + 1)) rfl (by decide) rfl (fun ls hl => ?_)
          refine lv_goto (tgt := 2) hx hb dX4_slotAt_29 (by decide) ?_
          exact h H _ ls hh (lv_sub hl [1, 2, 0] rfl)
        · have h := h.1 c6
          refine lv_iload_n hx hb dX4_slotAt_24 rfl (lv_at hl 2 rfl) ?_
          exact iv_iret E hh h (by rw [← h]; exact h_y2) rfl dX4_slotAt_25
  intro H locs ls hh hl
  have hl : lv_has ls 3 [(0, .ref (ad j 7)), (1, .int (hI index))] := hl
  have h := x_X4_slotAt A index h_index (fun i k hi => hIn_rd hh.2.1 hA hi) hp (fun y2 => (hAt D ad cI cJ cF p l e ({ frames := 3, cells := 0, slots := 0, locals := 65 } : Room) s m args below meth c (MQ below (hQi D ad cI cJ cF (v_X4_slotAt A index) S) args s 0 0 (hAd ad)) 3 2 [(0, .ref (ad j 7)), (1, .int (hI index)), (2, .int (hI y2))] S)) (fun r => (r = v_X4_slotAt A index)) r2 rfl
  refine iv_iconst hx hb dX4_slotAt_0 ?_
  refine lv_istore_n (lv' := [(2, .int (hI 0)), (0, .ref (ad j 7)), (1, .int (hI index))]) hx hb dX4_slotAt_1 rfl hl (by decide) rfl (fun ls hl => ?_)
  exact h H _ ls hh (lv_sub hl [1, 2, 0] rfl)
set_option maxHeartbeats 4000000 in
set_option maxRecDepth 100000 in
theorem ok_X4_slotToMake (l : Launch) (hinj : hInj ad) (S : hS) {j : Nat} (hj : j < 7) (A : hGM) (hA : S j = A) (size : Int) (h_size : hIn size) (hp : p_X4_slotToMake A size) : hMi D ad cI cJ cF l yX4_slotToMake cX4_slotToMake 5 (some .int) ({ frames := 3, cells := 0, slots := 0, locals := 64 } : Room) [.ref (ad j 7), .int (hI size)] S (v_X4_slotToMake A size) S := by
  refine hOf (S := S) l hinj (by decide +kernel) (Nat.le_of_ble_eq_true rfl) (fun p e s m args below meth c E => ?_)
  obtain ⟨hx, hb, hml, hown, hts, hK, hN, -, hr, hlk, hz⟩ := id E
  have hown : s.vm.findClass RX4 = some m.cls := hown
  have r17 : ∀ (y3 : Int) (y4 : Int), hIn y3 → hIn y4 → (((y4 < 4 → (((v_X5_cell A 8 4 y4) < (v_X5_cell A 8 4 y3) → (hAt D ad cI cJ cF p l e ({ frames := 3, cells := 0, slots := 0, locals := 64 } : Room) s m args below meth c (MQ below (hQi D ad cI cJ cF (v_X4_slotToMake A size) S) args s 0 0 (hAd ad)) 5 17 [(0, .ref (ad j 7)), (3, .int (hI y4)), (4, .int (hI (y4 + 1)))] S)) ∧ (¬ (v_X5_cell A 8 4 y4) < (v_X5_cell A 8 4 y3) → (hAt D ad cI cJ cF p l e ({ frames := 3, cells := 0, slots := 0, locals := 64 } : Room) s m args below meth c (MQ below (hQi D ad cI cJ cF (v_X4_slotToMake A size) S) args s 0 0 (hAd ad)) 5 17 [(0, .ref (ad j 7)), (3, .int (hI y3)), (4, .int (hI (y4 + 1)))] S)))) ∧ (¬ y4 < 4 → (y3 = v_X4_slotToMake A size)))) → (hAt D ad cI cJ cF p l e ({ frames := 3, cells := 0, slots := 0, locals := 64 } : Room) s m args below meth c (MQ below (hQi D ad cI cJ cF (v_X4_slotToMake A size) S) args s 0 0 (hAd ad)) 5 17 [(0, .ref (ad j 7)), (3, .int (hI y3)), (4, .int (hI y4))] S) := by
    intro y3 y4 h_y3 h_y4 h H locs ls hh hl
    refine lv_iload hx hb dX4_slotToMake_17 (lv_at hl 2 rfl) ?_
    refine iv_iconst hx hb dX4_slotToMake_19 ?_
    refine iv_icmp_ge (tgt := 52) hx hb h_y4 ⟨by decide, by decide⟩ dX4_slotToMake_20 (by decide) (fun c1 => ?_) (fun c1 => ?_)
    · have h := h.2 c1
      refine lv_iload_n hx hb dX4_slotToMake_52 rfl (lv_at hl 1 rfl) ?_
      exact iv_iret E hh h (by rw [← h]; exact h_y3) rfl dX4_slotToMake_53
    · have h := h.1 c1
      refine lv_aload_n hx hb dX4_slotToMake_23 rfl (lv_at hl 0 rfl) ?_
      refine iv_get (v' := .ref (ad j 8)) hx hb hts inX4 hown hK hh.1 (ob_Sheets hj) rfl 1 (by decide) (hts _ q1_31) rfl rfl rfl dX4_slotToMake_24 ?_
      refine lv_iload hx hb dX4_slotToMake_27 (lv_at hl 2 rfl) ?_
      refine iv_ki (iv_rN (As := [.ref (ad j 8), .int (hI y4)]) (rest := []) E hh (ok_X5_cell l hinj S (ia_F_8 hj) A hA y4 h_y4) cb_X5_cell q1_217 rfl rfl ⟨Nat.le_of_ble_eq_true rfl, Nat.le_of_ble_eq_true rfl⟩ rfl hl.1 rfl (Nat.le_of_ble_eq_true rfl) dX4_slotToMake_29 ⟨Nat.zero_le _, Nat.zero_le _⟩) hh (fun hc2 H locs hh => ?_)
      refine lv_aload_n hx hb dX4_slotToMake_32 rfl (lv_at hl 0 rfl) ?_
      refine iv_get (v' := .ref (ad j 8)) hx hb hts inX4 hown hK hh.1 (ob_Sheets hj) rfl 1 (by decide) (hts _ q1_31) rfl rfl rfl dX4_slotToMake_33 ?_
      refine lv_iload_n hx hb dX4_slotToMake_36 rfl (lv_at hl 1 rfl) ?_
      refine iv_ki (iv_rN (As := [.ref (ad j 8), .int (hI y3)]) (rest := [.int (hI (v_X5_cell A 8 4 y4))]) E hh (ok_X5_cell l hinj S (ia_F_8 hj) A hA y3 h_y3) cb_X5_cell q1_217 rfl rfl ⟨Nat.le_of_ble_eq_true rfl, Nat.le_of_ble_eq_true rfl⟩ rfl hl.1 rfl (Nat.le_of_ble_eq_true rfl) dX4_slotToMake_37 ⟨Nat.zero_le _, Nat.zero_le _⟩) hh (fun hc3 H locs hh => ?_)
      refine iv_icmp_ge (tgt := 46) hx hb hc2 hc3 dX4_slotToMake_40 (by decide) (fun c4 => ?_) (fun c4 => ?_)
      · have h := h.2 c4
        refine iv_iinc (lv' := [(4, .int (hI (y4 + 1))), (0, .ref (ad j 7)), (3, .int (hI y3))]) hx hb dX4_slotToMake_46 hl (k := 2) rfl (v := (y4 + 1)) rfl (by decide) rfl (fun ls hl => ?_)
        refine lv_goto (tgt := 17) hx hb dX4_slotToMake_49 (by decide) ?_
        exact h H _ ls hh (lv_sub hl [1, 2, 0] rfl)
      · have h := h.1 c4
        refine lv_iload hx hb dX4_slotToMake_43 (lv_at hl 2 rfl) ?_
        refine lv_istore_n (lv' := [(3, .int (hI y4)), (0, .ref (ad j 7)), (4, .int (hI y4))]) hx hb dX4_slotToMake_45 rfl hl (by decide) rfl (fun ls hl => ?_)
        refine iv_iinc (lv' := [(4, .int (hI (y4 + 1))), (3, .int (hI y4)), (0, .ref (ad j 7))]) hx hb dX4_slotToMake_46 hl (k := 2) rfl (v := (y4 + 1)) rfl (by decide) rfl (fun ls hl => ?_)
        refine lv_goto (tgt := 17) hx hb dX4_slotToMake_49 (by decide) ?_
        exact h H _ ls hh (lv_sub hl [2, 1, 0] rfl)
  intro H locs ls hh hl
  have hl : lv_has ls 5 [(0, .ref (ad j 7)), (1, .int (hI size))] := hl
  have h := x_X4_slotToMake A size h_size (fun i k hi => hIn_rd hh.2.1 hA hi) hp (fun y3 y4 => (hAt D ad cI cJ cF p l e ({ frames := 3, cells := 0, slots := 0, locals := 64 } : Room) s m args below meth c (MQ below (hQi D ad cI cJ cF (v_X4_slotToMake A size) S) args s 0 0 (hAd ad)) 5 17 [(0, .ref (ad j 7)), (3, .int (hI y3)), (4, .int (hI y4))] S)) (fun r => (r = v_X4_slotToMake A size)) r17 rfl
  refine lv_aload_n hx hb dX4_slotToMake_0 rfl (lv_at hl 0 rfl) ?_
  refine lv_iload_n hx hb dX4_slotToMake_1 rfl (lv_at hl 1 rfl) ?_
  obtain ⟨g5, h⟩ := h
  refine iv_ki (iv_rV (As := [.int (hI size)]) (rest := []) E hh (ok_X4_slotOf l hinj S hj A hA size h_size g5) cb_X4_slotOf q3_2 rfl rfl ⟨Nat.le_of_ble_eq_true rfl, Nat.le_of_ble_eq_true rfl⟩ (ob_Sheets hj) rfl rfl rfl hl.1 rfl (Nat.le_of_ble_eq_true rfl) dX4_slotToMake_2 ⟨Nat.zero_le _, Nat.zero_le _⟩) hh (fun hc6 H locs hh => ?_)
  refine lv_istore_n (lv' := [(2, .int (hI (v_X4_slotOf A size))), (0, .ref (ad j 7)), (1, .int (hI size))]) hx hb dX4_slotToMake_5 rfl hl (by decide) rfl (fun ls hl => ?_)
  refine lv_iload_n hx hb dX4_slotToMake_6 rfl (lv_at hl 0 rfl) ?_
  refine iv_if_lt (tgt := 12) hx hb hc6 dX4_slotToMake_7 (by decide) (fun c7 => ?_) (fun c7 => ?_)
  · have h := h.1 c7
    refine iv_iconst hx hb dX4_slotToMake_12 ?_
    refine lv_istore_n (lv' := [(3, .int (hI 0)), (2, .int (hI (v_X4_slotOf A size))), (0, .ref (ad j 7)), (1, .int (hI size))]) hx hb dX4_slotToMake_13 rfl hl (by decide) rfl (fun ls hl => ?_)
    refine iv_iconst hx hb dX4_slotToMake_14 ?_
    refine lv_istore (lv' := [(4, .int (hI 1)), (3, .int (hI 0)), (2, .int (hI (v_X4_slotOf A size))), (0, .ref (ad j 7)), (1, .int (hI size))]) hx hb dX4_slotToMake_15 hl (by decide) rfl (fun ls hl => ?_)
    exact h H _ ls hh (lv_sub hl [3, 1, 0] rfl)
  · have h := h.2 c7
    refine lv_iload_n hx hb dX4_slotToMake_10 rfl (lv_at hl 0 rfl) ?_
    exact iv_iret E hh h (by rw [← h]; exact hc6) rfl dX4_slotToMake_11
set_option maxHeartbeats 4000000 in
set_option maxRecDepth 100000 in
theorem ok_X4_begin (l : Launch) (hinj : hInj ad) (S : hS) {j : Nat} (hj : j < 7) (A : hGM) (hA : S j = A) (slot : Int) (size : Int) (glyphCount : Int) (h_slot : hIn slot) (h_size : hIn size) (h_glyphCount : hIn glyphCount) (hp : p_X4_begin A slot size glyphCount) : hMv D ad cI cJ cF l yX4_begin cX4_begin 4 ({ frames := 1, cells := 0, slots := 0, locals := 22 } : Room) [.ref (ad j 7), .int (hI slot), .int (hI size), .int (hI glyphCount)] S (gset S j (m_X4_begin A slot size glyphCount)) := by
  refine hOf (S := S) l hinj (by decide +kernel) (Nat.le_of_ble_eq_true rfl) (fun p e s m args below meth c E => ?_)
  obtain ⟨hx, hb, hml, hown, hts, hK, hN, -, hr, hlk, hz⟩ := id E
  have hown : s.vm.findClass RX4 = some m.cls := hown
  intro H locs ls hh hl
  have hl : lv_has ls 4 [(0, .ref (ad j 7)), (1, .int (hI slot)), (2, .int (hI size)), (3, .int (hI glyphCount))] := hl
  replace hh : hH D ad cI cJ cF (gset S j A) s H locs := by rw [← can1 hA]; exact hh
  have h := hp
  unfold p_X4_begin at h
  refine lv_aload_n hx hb dX4_begin_0 rfl (lv_at hl 0 rfl) ?_
  refine lv_dup hx hb dX4_begin_1 rfl ?_
  refine iv_get (v' := .int (hI (A 7 0))) hx hb hts inX4 hown hK hh.1 (ob_Sheets hj) rfl 0 (by decide) (hts _ q1_29) rfl rfl (congrArg (fun z => Value.int (hI (z 7 0))) (gset_at _ _ _)) dX4_begin_2 ?_
  have hm1 : hIn (A 7 0) := hIn_rd hh.2.1 (gset_at _ _ _) (by decide)
  refine iv_iconst hx hb dX4_begin_5 ?_
  refine iv_iadd hx hb dX4_begin_6 ?_
  obtain ⟨g2, h⟩ := h
  refine iv_put (S' := (gset S j (aset A 7 0 ((A 7 0) + 1)))) (ty := .int) hx hb hts inX4 tyX4 tyX4_ok nmX4 hown hK hinj hh (h112 (by omega)) (un_Sheets hj) (Or.inl rfl) (ob_Sheets hj) rfl 0 (by decide) (hts _ q1_29) rfl rfl (by decide +kernel) rfl rfl (Nat.le_of_ble_eq_true rfl) (pu_Sheets_made hj) (Or.inl g2) (by rw [show (gset S j A) j = A from (gset_at _ _ _)]; exact (gset_gset _ _ _ _)) dX4_begin_7 (fun H locs hh => ?_)
  refine lv_aload_n hx hb dX4_begin_10 rfl (lv_at hl 0 rfl) ?_
  refine iv_get (v' := .ref (ad j 8)) hx hb hts inX4 hown hK hh.1 (ob_Sheets hj) rfl 1 (by decide) (hts _ q1_31) rfl rfl rfl dX4_begin_11 ?_
  refine lv_iload_n hx hb dX4_begin_14 rfl (lv_at hl 1 rfl) ?_
  refine lv_aload_n hx hb dX4_begin_15 rfl (lv_at hl 0 rfl) ?_
  refine iv_get (v' := .int (hI ((aset A 7 0 ((A 7 0) + 1)) 7 0))) hx hb hts inX4 hown hK hh.1 (ob_Sheets hj) rfl 0 (by decide) (hts _ q1_29) rfl rfl (congrArg (fun z => Value.int (hI (z 7 0))) (gset_at _ _ _)) dX4_begin_16 ?_
  have hm3 : hIn ((aset A 7 0 ((A 7 0) + 1)) 7 0) := hIn_rd hh.2.1 (gset_at _ _ _) (by decide)
  refine iv_kv (iv_rN (As := [.ref (ad j 8), .int (hI slot), .int (hI ((aset A 7 0 ((A 7 0) + 1)) 7 0))]) (rest := []) E hh (ok_X5_put l hinj (gset S j (aset A 7 0 ((A 7 0) + 1))) (ia_F_8 hj) (aset A 7 0 ((A 7 0) + 1)) (gset_at _ _ _) slot ((aset A 7 0 ((A 7 0) + 1)) 7 0) h_slot hm3) cb_X5_put q3_7 rfl rfl ⟨Nat.le_of_ble_eq_true rfl, Nat.le_of_ble_eq_true rfl⟩ rfl hl.1 rfl (Nat.le_of_ble_eq_true rfl) dX4_begin_19 ⟨Nat.zero_le _, Nat.zero_le _⟩) hh (fun H locs hh => ?_)
  replace hh : hH D ad cI cJ cF (gset S j (m_X5_put (aset A 7 0 ((A 7 0) + 1)) 8 4 slot ((aset A 7 0 ((A 7 0) + 1)) 7 0))) s H locs := by rw [← show _ = (gset S j (m_X5_put (aset A 7 0 ((A 7 0) + 1)) 8 4 slot ((aset A 7 0 ((A 7 0) + 1)) 7 0))) from (gset_gset _ _ _ _)]; exact hh
  refine lv_aload_n hx hb dX4_begin_22 rfl (lv_at hl 0 rfl) ?_
  refine iv_get (v' := .ref (ad j 9)) hx hb hts inX4 hown hK hh.1 (ob_Sheets hj) rfl 2 (by decide) (hts _ q1_32) rfl rfl rfl dX4_begin_23 ?_
  refine lv_iload_n hx hb dX4_begin_26 rfl (lv_at hl 1 rfl) ?_
  refine lv_iload_n hx hb dX4_begin_27 rfl (lv_at hl 2 rfl) ?_
  refine iv_kv (iv_rN (As := [.ref (ad j 9), .int (hI slot), .int (hI size)]) (rest := []) E hh (ok_X5_put l hinj (gset S j (m_X5_put (aset A 7 0 ((A 7 0) + 1)) 8 4 slot ((aset A 7 0 ((A 7 0) + 1)) 7 0))) (ia_F_9 hj) (m_X5_put (aset A 7 0 ((A 7 0) + 1)) 8 4 slot ((aset A 7 0 ((A 7 0) + 1)) 7 0)) (gset_at _ _ _) slot size h_slot h_size) cb_X5_put q3_7 rfl rfl ⟨Nat.le_of_ble_eq_true rfl, Nat.le_of_ble_eq_true rfl⟩ rfl hl.1 rfl (Nat.le_of_ble_eq_true rfl) dX4_begin_28 ⟨Nat.zero_le _, Nat.zero_le _⟩) hh (fun H locs hh => ?_)
  replace hh : hH D ad cI cJ cF (gset S j (m_X5_put (m_X5_put (aset A 7 0 ((A 7 0) + 1)) 8 4 slot ((aset A 7 0 ((A 7 0) + 1)) 7 0)) 9 4 slot size)) s H locs := by rw [← show _ = (gset S j (m_X5_put (m_X5_put (aset A 7 0 ((A 7 0) + 1)) 8 4 slot ((aset A 7 0 ((A 7 0) + 1)) 7 0)) 9 4 slot size)) from (gset_gset _ _ _ _)]; exact hh
  refine lv_aload_n hx hb dX4_begin_31 rfl (lv_at hl 0 rfl) ?_
  refine iv_get (v' := .ref (ad j 10)) hx hb hts inX4 hown hK hh.1 (ob_Sheets hj) rfl 3 (by decide) (hts _ q1_35) rfl rfl rfl dX4_begin_32 ?_
  refine lv_iload_n hx hb dX4_begin_35 rfl (lv_at hl 1 rfl) ?_
  refine lv_iload_n hx hb dX4_begin_36 rfl (lv_at hl 3 rfl) ?_
  refine iv_kv (iv_rN (As := [.ref (ad j 10), .int (hI slot), .int (hI glyphCount)]) (rest := []) E hh (ok_X5_put l hinj (gset S j (m_X5_put (m_X5_put (aset A 7 0 ((A 7 0) + 1)) 8 4 slot ((aset A 7 0 ((A 7 0) + 1)) 7 0)) 9 4 slot size)) (ia_F_10 hj) (m_X5_put (m_X5_put (aset A 7 0 ((A 7 0) + 1)) 8 4 slot ((aset A 7 0 ((A 7 0) + 1)) 7 0)) 9 4 slot size) (gset_at _ _ _) slot glyphCount h_slot h_glyphCount) cb_X5_put q3_7 rfl rfl ⟨Nat.le_of_ble_eq_true rfl, Nat.le_of_ble_eq_true rfl⟩ rfl hl.1 rfl (Nat.le_of_ble_eq_true rfl) dX4_begin_37 ⟨Nat.zero_le _, Nat.zero_le _⟩) hh (fun H locs hh => ?_)
  replace hh : hH D ad cI cJ cF (gset S j (m_X5_put (m_X5_put (m_X5_put (aset A 7 0 ((A 7 0) + 1)) 8 4 slot ((aset A 7 0 ((A 7 0) + 1)) 7 0)) 9 4 slot size) 10 4 slot glyphCount)) s H locs := by rw [← show _ = (gset S j (m_X5_put (m_X5_put (m_X5_put (aset A 7 0 ((A 7 0) + 1)) 8 4 slot ((aset A 7 0 ((A 7 0) + 1)) 7 0)) 9 4 slot size) 10 4 slot glyphCount)) from (gset_gset _ _ _ _)]; exact hh
  exact iv_vret E hh rfl dX4_begin_40
set_option maxHeartbeats 4000000 in
set_option maxRecDepth 100000 in
theorem ok_X4_keep (l : Launch) (hinj : hInj ad) (S : hS) {j : Nat} (hj : j < 7) (A : hGM) (hA : S j = A) (at1 : Int) (columnCount : Int) (litColumns : Int) (h_at1 : hIn at1) (h_columnCount : hIn columnCount) : hMv D ad cI cJ cF l yX4_keep cX4_keep 5 ({ frames := 1, cells := 0, slots := 0, locals := 22 } : Room) [.ref (ad j 7), .int (hI at1), .int (hI columnCount), .long (hJ litColumns)] S (gset S j (m_X4_keep A at1 columnCount litColumns)) := by
  refine hOf (S := S) l hinj (by decide +kernel) (Nat.le_of_ble_eq_true rfl) (fun p e s m args below meth c E => ?_)
  obtain ⟨hx, hb, hml, hown, hts, hK, hN, -, hr, hlk, hz⟩ := id E
  have hown : s.vm.findClass RX4 = some m.cls := hown
  intro H locs ls hh hl
  have hl : lv_has ls 5 [(0, .ref (ad j 7)), (1, .int (hI at1)), (2, .int (hI columnCount)), (3, .long (hJ litColumns))] := hl
  replace hh : hH D ad cI cJ cF (gset S j A) s H locs := by rw [← can1 hA]; exact hh
  refine lv_aload_n hx hb dX4_keep_0 rfl (lv_at hl 0 rfl) ?_
  refine iv_get (v' := .ref (ad j 11)) hx hb hts inX4 hown hK hh.1 (ob_Sheets hj) rfl 4 (by decide) (hts _ q1_38) rfl rfl rfl dX4_keep_1 ?_
  refine lv_iload_n hx hb dX4_keep_4 rfl (lv_at hl 1 rfl) ?_
  refine lv_iload_n hx hb dX4_keep_5 rfl (lv_at hl 2 rfl) ?_
  refine iv_kv (iv_rN (As := [.ref (ad j 11), .int (hI at1), .int (hI columnCount)]) (rest := []) E hh (ok_X5_put l hinj (gset S j A) (ia_F_11 hj) A (gset_at _ _ _) at1 columnCount h_at1 h_columnCount) cb_X5_put q3_7 rfl rfl ⟨Nat.le_of_ble_eq_true rfl, Nat.le_of_ble_eq_true rfl⟩ rfl hl.1 rfl (Nat.le_of_ble_eq_true rfl) dX4_keep_6 ⟨Nat.zero_le _, Nat.zero_le _⟩) hh (fun H locs hh => ?_)
  replace hh : hH D ad cI cJ cF (gset S j (m_X5_put A 11 32 at1 columnCount)) s H locs := by rw [← show _ = (gset S j (m_X5_put A 11 32 at1 columnCount)) from (gset_gset _ _ _ _)]; exact hh
  refine lv_iload_n hx hb dX4_keep_9 rfl (lv_at hl 1 rfl) ?_
  refine iv_if_lt (tgt := 29) hx hb h_at1 dX4_keep_10 (by decide) (fun c1 => ?_) (fun c1 => ?_)
  · exact iv_vret E hh (by unfold m_X4_keep; rw [if_pos c1]) dX4_keep_29
  · refine lv_iload_n hx hb dX4_keep_13 rfl (lv_at hl 1 rfl) ?_
    refine lv_aload_n hx hb dX4_keep_14 rfl (lv_at hl 0 rfl) ?_
    refine iv_get (v' := .ref (ad j 12)) hx hb hts inX4 hown hK hh.1 (ob_Sheets hj) rfl 5 (by decide) (hts _ q1_41) rfl rfl rfl dX4_keep_15 ?_
    refine va_alen (v := hI 32) hx hb hK hh.1 (13 * j + 12) 1 (hJA hj) rfl rfl dX4_keep_18 ?_
    refine iv_icmp_ge (tgt := 29) hx hb h_at1 ⟨by decide, by decide⟩ dX4_keep_19 (by decide) (fun c2 => ?_) (fun c2 => ?_)
    · exact iv_vret E hh (by unfold m_X4_keep; rw [if_neg c1, if_neg c2]) dX4_keep_29
    · refine lv_aload_n hx hb dX4_keep_22 rfl (lv_at hl 0 rfl) ?_
      refine iv_get (v' := .ref (ad j 12)) hx hb hts inX4 hown hK hh.1 (ob_Sheets hj) rfl 5 (by decide) (hts _ q1_41) rfl rfl rfl dX4_keep_23 ?_
      refine lv_iload_n hx hb dX4_keep_26 rfl (lv_at hl 1 rfl) ?_
      refine lv_lload_n hx hb dX4_keep_27 rfl (lv_at hl 3 rfl) ?_
      refine iv_last (S' := (gset S j (aset (m_X5_put A 11 32 at1 columnCount) 112 at1 litColumns))) hx hb hK hinj hh hj ⟨Int.not_lt.mp c1, c2⟩ (by rw [show (gset S j (m_X5_put A 11 32 at1 columnCount)) j = (m_X5_put A 11 32 at1 columnCount) from (gset_at _ _ _)]; exact (gset_gset _ _ _ _)) dX4_keep_28 (fun H locs hh => ?_)
      exact iv_vret E hh (by unfold m_X4_keep; rw [if_neg c1, if_pos c2]) dX4_keep_29
set_option maxHeartbeats 4000000 in
set_option maxRecDepth 100000 in
theorem ok_X4_litAt (l : Launch) (hinj : hInj ad) (S : hS) {j : Nat} (hj : j < 7) (A : hGM) (hA : S j = A) (at1 : Int) (h_at1 : hIn at1) : hMl D ad cI cJ cF l yX4_litAt cX4_litAt 2 ({ frames := 0, cells := 0, slots := 0, locals := 0 } : Room) [.ref (ad j 7), .int (hI at1)] S (v_X4_litAt A at1) S := by
  refine hOf (S := S) l hinj (by decide +kernel) (Nat.le_of_ble_eq_true rfl) (fun p e s m args below meth c E => ?_)
  obtain ⟨hx, hb, hml, hown, hts, hK, hN, -, hr, hlk, hz⟩ := id E
  have hown : s.vm.findClass RX4 = some m.cls := hown
  intro H locs ls hh hl
  have hl : lv_has ls 2 [(0, .ref (ad j 7)), (1, .int (hI at1))] := hl
  refine lv_iload_n hx hb dX4_litAt_0 rfl (lv_at hl 1 rfl) ?_
  refine iv_if_lt (tgt := 22) hx hb h_at1 dX4_litAt_1 (by decide) (fun c1 => ?_) (fun c1 => ?_)
  · refine lv_lconst (v := hJ 0) hx hb dX4_litAt_22 (by decide) ?_
    exact iv_lret E hh (by unfold v_X4_litAt; rw [if_pos c1]) rfl dX4_litAt_23
  · refine lv_iload_n hx hb dX4_litAt_4 rfl (lv_at hl 1 rfl) ?_
    refine lv_aload_n hx hb dX4_litAt_5 rfl (lv_at hl 0 rfl) ?_
    refine iv_get (v' := .ref (ad j 12)) hx hb hts inX4 hown hK hh.1 (ob_Sheets hj) rfl 5 (by decide) (hts _ q1_41) rfl rfl rfl dX4_litAt_6 ?_
    refine va_alen (v := hI 32) hx hb hK hh.1 (13 * j + 12) 1 (hJA hj) rfl rfl dX4_litAt_9 ?_
    refine iv_icmp_ge (tgt := 22) hx hb h_at1 ⟨by decide, by decide⟩ dX4_litAt_10 (by decide) (fun c2 => ?_) (fun c2 => ?_)
    · refine lv_lconst (v := hJ 0) hx hb dX4_litAt_22 (by decide) ?_
      exact iv_lret E hh (by unfold v_X4_litAt; rw [if_neg c1, if_neg c2]) rfl dX4_litAt_23
    · refine lv_aload_n hx hb dX4_litAt_13 rfl (lv_at hl 0 rfl) ?_
      refine iv_get (v' := .ref (ad j 12)) hx hb hts inX4 hown hK hh.1 (ob_Sheets hj) rfl 5 (by decide) (hts _ q1_41) rfl rfl rfl dX4_litAt_14 ?_
      refine lv_iload_n hx hb dX4_litAt_17 rfl (lv_at hl 1 rfl) ?_
      refine iv_lald hx hb hK hh.1 hj ⟨Int.not_lt.mp c1, c2⟩ (v := (A 112 at1)) (congrArg (fun z => z 112 at1) hA) dX4_litAt_18 ?_
      refine lv_goto (tgt := 23) hx hb dX4_litAt_19 (by decide) ?_
      exact iv_lret E hh (by unfold v_X4_litAt; rw [if_neg c1, if_pos c2]) rfl dX4_litAt_23
set_option maxHeartbeats 4000000 in
set_option maxRecDepth 100000 in
theorem ok_X4_litTogether (l : Launch) (hinj : hInj ad) (S : hS) {j : Nat} (hj : j < 7) (A : hGM) (hA : S j = A) (slot : Int) (h_slot : hIn slot) (hp : p_X4_litTogether A slot) : hMi D ad cI cJ cF l yX4_litTogether cX4_litTogether 4 (some .int) ({ frames := 1, cells := 0, slots := 0, locals := 21 } : Room) [.ref (ad j 7), .int (hI slot)] S (v_X4_litTogether A slot) S := by
  refine hOf (S := S) l hinj (by decide +kernel) (Nat.le_of_ble_eq_true rfl) (fun p e s m args below meth c E => ?_)
  obtain ⟨hx, hb, hml, hown, hts, hK, hN, -, hr, hlk, hz⟩ := id E
  have hown : s.vm.findClass RX4 = some m.cls := hown
  have r4 : ∀ (y2 : Int) (y3 : Int), hIn y2 → hIn y3 → (((y3 < (v_X5_cell A 10 4 slot) → (hIn ((slot * 8) + y3) ∧ (hAt D ad cI cJ cF p l e ({ frames := 1, cells := 0, slots := 0, locals := 21 } : Room) s m args below meth c (MQ below (hQi D ad cI cJ cF (v_X4_litTogether A slot) S) args s 0 0 (hAd ad)) 4 4 [(0, .ref (ad j 7)), (1, .int (hI slot)), (2, .int (hI (y2 + (v_J13_bitCount_95d88 (v_X4_litAt A ((slot * 8) + y3)))))), (3, .int (hI (y3 + 1)))] S))) ∧ (¬ y3 < (v_X5_cell A 10 4 slot) → (y2 = v_X4_litTogether A slot)))) → (hAt D ad cI cJ cF p l e ({ frames := 1, cells := 0, slots := 0, locals := 21 } : Room) s m args below meth c (MQ below (hQi D ad cI cJ cF (v_X4_litTogether A slot) S) args s 0 0 (hAd ad)) 4 4 [(0, .ref (ad j 7)), (1, .int (hI slot)), (2, .int (hI y2)), (3, .int (hI y3))] S) := by
    intro y2 y3 h_y2 h_y3 h H locs ls hh hl
    refine lv_iload_n hx hb dX4_litTogether_4 rfl (lv_at hl 3 rfl) ?_
    refine lv_aload_n hx hb dX4_litTogether_5 rfl (lv_at hl 0 rfl) ?_
    refine iv_get (v' := .ref (ad j 10)) hx hb hts inX4 hown hK hh.1 (ob_Sheets hj) rfl 3 (by decide) (hts _ q1_35) rfl rfl rfl dX4_litTogether_6 ?_
    refine lv_iload_n hx hb dX4_litTogether_9 rfl (lv_at hl 1 rfl) ?_
    refine iv_ki (iv_rN (As := [.ref (ad j 10), .int (hI slot)]) (rest := [.int (hI y3)]) E hh (ok_X5_cell l hinj S (ia_F_10 hj) A hA slot h_slot) cb_X5_cell q1_217 rfl rfl ⟨Nat.le_of_ble_eq_true rfl, Nat.le_of_ble_eq_true rfl⟩ rfl hl.1 rfl (Nat.le_of_ble_eq_true rfl) dX4_litTogether_10 ⟨Nat.zero_le _, Nat.zero_le _⟩) hh (fun hc1 H locs hh => ?_)
    refine iv_icmp_ge (tgt := 38) hx hb h_y3 hc1 dX4_litTogether_13 (by decide) (fun c2 => ?_) (fun c2 => ?_)
    · have h := h.2 c2
      refine lv_iload_n hx hb dX4_litTogether_38 rfl (lv_at hl 2 rfl) ?_
      exact iv_iret E hh h (by rw [← h]; exact h_y2) rfl dX4_litTogether_39
    · have h := h.1 c2
      refine lv_iload_n hx hb dX4_litTogether_16 rfl (lv_at hl 2 rfl) ?_
      refine lv_aload_n hx hb dX4_litTogether_17 rfl (lv_at hl 0 rfl) ?_
      refine lv_iload_n hx hb dX4_litTogether_18 rfl (lv_at hl 1 rfl) ?_
      refine lv_bipush (v := hI 8) hx hb dX4_litTogether_19 (by decide) ?_
      refine iv_imul hx hb dX4_litTogether_21 ?_
      refine lv_iload_n hx hb dX4_litTogether_22 rfl (lv_at hl 3 rfl) ?_
      refine iv_iadd hx hb dX4_litTogether_23 ?_
      obtain ⟨g3, h⟩ := h
      refine iv_kl (iv_rV (As := [.int (hI ((slot * 8) + y3))]) (rest := [.int (hI y2)]) E hh (ok_X4_litAt l hinj S hj A hA ((slot * 8) + y3) g3) cb_X4_litAt q3_59 rfl rfl ⟨Nat.le_of_ble_eq_true rfl, Nat.le_of_ble_eq_true rfl⟩ (ob_Sheets hj) rfl rfl rfl hl.1 rfl (Nat.le_of_ble_eq_true rfl) dX4_litTogether_24 ⟨Nat.zero_le _, Nat.zero_le _⟩) hh (fun H locs hh => ?_)
      refine iv_ki (iv_rS (As := [.long (hJ (v_X4_litAt A ((slot * 8) + y3)))]) (rest := [.int (hI y2)]) E hh (ok_J13_bitCount_95d88 l hinj S (v_X4_litAt A ((slot * 8) + y3))) cb_J13_bitCount_95d88 q3_60 rfl rfl ⟨Nat.le_of_ble_eq_true rfl, Nat.le_of_ble_eq_true rfl⟩ rfl hl.1 rfl (Nat.le_of_ble_eq_true rfl) dX4_litTogether_27 ⟨Nat.zero_le _, Nat.zero_le _⟩) hh (fun hc4 H locs hh => ?_)
      refine iv_iadd hx hb dX4_litTogether_30 ?_
      refine lv_istore_n (lv' := [(2, .int (hI (y2 + (v_J13_bitCount_95d88 (v_X4_litAt A ((slot * 8) + y3)))))), (0, .ref (ad j 7)), (1, .int (hI slot)), (3, .int (hI y3))]) hx hb dX4_litTogether_31 rfl hl (by decide) rfl (fun ls hl => ?_)
      refine iv_iinc (lv' := [(3, .int (hI (y3 + 1))), (2, .int (hI (y2 + (v_J13_bitCount_95d88 (v_X4_litAt A ((slot * 8) + y3)))))), (0, .ref (ad j 7)), (1, .int (hI slot))]) hx hb dX4_litTogether_32 hl (k := 3) rfl (v := (y3 + 1)) rfl (by decide) rfl (fun ls hl => ?_)
      refine lv_goto (tgt := 4) hx hb dX4_litTogether_35 (by decide) ?_
      exact h H _ ls hh (lv_sub hl [2, 3, 1, 0] rfl)
  intro H locs ls hh hl
  have hl : lv_has ls 4 [(0, .ref (ad j 7)), (1, .int (hI slot))] := hl
  have h := x_X4_litTogether A slot h_slot (fun i k hi => hIn_rd hh.2.1 hA hi) hp (fun y2 y3 => (hAt D ad cI cJ cF p l e ({ frames := 1, cells := 0, slots := 0, locals := 21 } : Room) s m args below meth c (MQ below (hQi D ad cI cJ cF (v_X4_litTogether A slot) S) args s 0 0 (hAd ad)) 4 4 [(0, .ref (ad j 7)), (1, .int (hI slot)), (2, .int (hI y2)), (3, .int (hI y3))] S)) (fun r => (r = v_X4_litTogether A slot)) r4 rfl
  refine iv_iconst hx hb dX4_litTogether_0 ?_
  refine lv_istore_n (lv' := [(2, .int (hI 0)), (0, .ref (ad j 7)), (1, .int (hI slot))]) hx hb dX4_litTogether_1 rfl hl (by decide) rfl (fun ls hl => ?_)
  refine iv_iconst hx hb dX4_litTogether_2 ?_
  refine lv_istore_n (lv' := [(3, .int (hI 0)), (2, .int (hI 0)), (0, .ref (ad j 7)), (1, .int (hI slot))]) hx hb dX4_litTogether_3 rfl hl (by decide) rfl (fun ls hl => ?_)
  exact h H _ ls hh (lv_sub hl [2, 3, 1, 0] rfl)
end

section
variable {D : va_G} {ad : Nat → Nat → Nat} {cI cJ cF : ClassId}
set_option maxHeartbeats 4000000 in
set_option maxRecDepth 100000 in
theorem ok_X5_within (l : Launch) (hinj : hInj ad) (S : hS) (value : Int) (least : Int) (greatest : Int) (h_value : hIn value) (h_least : hIn least) (h_greatest : hIn greatest) : hMi D ad cI cJ cF l yX5_within cX5_within 3 (some .boolean) ({ frames := 0, cells := 0, slots := 0, locals := 0 } : Room) [.int (hI value), .int (hI least), .int (hI greatest)] S (v_X5_within value least greatest) S := by
  refine hOf (S := S) l hinj (by decide +kernel) (Nat.le_of_ble_eq_true rfl) (fun p e s m args below meth c E => ?_)
  obtain ⟨hx, hb, hml, hown, hts, hK, hN, -, hr, hlk, hz⟩ := id E
  have hown : s.vm.findClass RX5 = some m.cls := hown
  intro H locs ls hh hl
  have hl : lv_has ls 3 [(0, .int (hI value)), (1, .int (hI least)), (2, .int (hI greatest))] := hl
  refine lv_iload_n hx hb dX5_within_0 rfl (lv_at hl 0 rfl) ?_
  refine lv_iload_n hx hb dX5_within_1 rfl (lv_at hl 1 rfl) ?_
  refine iv_icmp_lt (tgt := 14) hx hb h_value h_least dX5_within_2 (by decide) (fun c1 => ?_) (fun c1 => ?_)
  · refine iv_iconst hx hb dX5_within_14 ?_
    exact iv_bret E hh (by unfold v_X5_within; rw [if_pos c1]) (by rw [← show 0 = v_X5_within value least greatest from (by unfold v_X5_within; rw [if_pos c1])]; exact (Or.inl rfl)) rfl dX5_within_15
  · refine lv_iload_n hx hb dX5_within_5 rfl (lv_at hl 0 rfl) ?_
    refine lv_iload_n hx hb dX5_within_6 rfl (lv_at hl 2 rfl) ?_
    refine iv_icmp_gt (tgt := 14) hx hb h_value h_greatest dX5_within_7 (by decide) (fun c2 => ?_) (fun c2 => ?_)
    · refine iv_iconst hx hb dX5_within_14 ?_
      exact iv_bret E hh (by unfold v_X5_within; rw [if_neg c1, if_neg c2]) (by rw [← show 0 = v_X5_within value least greatest from (by unfold v_X5_within; rw [if_neg c1, if_neg c2])]; exact (Or.inl rfl)) rfl dX5_within_15
    · refine iv_iconst hx hb dX5_within_10 ?_
      refine lv_goto (tgt := 15) hx hb dX5_within_11 (by decide) ?_
      exact iv_bret E hh (by unfold v_X5_within; rw [if_neg c1, if_pos c2]) (by rw [← show 1 = v_X5_within value least greatest from (by unfold v_X5_within; rw [if_neg c1, if_pos c2])]; exact (Or.inr rfl)) rfl dX5_within_15
set_option maxHeartbeats 4000000 in
set_option maxRecDepth 100000 in
theorem ok_X5_isSize (l : Launch) (hinj : hInj ad) (S : hS) (size : Int) (h_size : hIn size) : hMi D ad cI cJ cF l yX5_isSize cX5_isSize 1 (some .boolean) ({ frames := 1, cells := 0, slots := 0, locals := 22 } : Room) [.int (hI size)] S (v_X5_isSize size) S := by
  refine hOf (S := S) l hinj (by decide +kernel) (Nat.le_of_ble_eq_true rfl) (fun p e s m args below meth c E => ?_)
  obtain ⟨hx, hb, hml, hown, hts, hK, hN, -, hr, hlk, hz⟩ := id E
  have hown : s.vm.findClass RX5 = some m.cls := hown
  intro H locs ls hh hl
  have hl : lv_has ls 1 [(0, .int (hI size))] := hl
  refine lv_iload_n hx hb dX5_isSize_0 rfl (lv_at hl 0 rfl) ?_
  refine lv_bipush (v := hI 6) hx hb dX5_isSize_1 (by decide) ?_
  refine lv_bipush (v := hI 48) hx hb dX5_isSize_3 (by decide) ?_
  refine iv_ki (iv_rS (As := [.int (hI size), .int (hI 6), .int (hI 48)]) (rest := []) E hh (ok_X5_within l hinj S size 6 48 h_size ⟨by decide, by decide⟩ ⟨by decide, by decide⟩) cb_X5_within q1_205 rfl rfl ⟨Nat.le_of_ble_eq_true rfl, Nat.le_of_ble_eq_true rfl⟩ rfl hl.1 rfl (Nat.le_of_ble_eq_true rfl) dX5_isSize_5 ⟨Nat.zero_le _, Nat.zero_le _⟩) hh (fun hc1 H locs hh => ?_)
  exact iv_bret E hh rfl (by rw [← show (v_X5_within size 6 48) = v_X5_isSize size from rfl]; exact (z_X5_within size 6 48)) rfl dX5_isSize_8
set_option maxHeartbeats 4000000 in
set_option maxRecDepth 100000 in
theorem ok_X5_inPixels (l : Launch) (hinj : hInj ad) (S : hS) (units : Int) (size : Int) (h_units : hIn units) (h_size : hIn size) (hp : p_X5_inPixels units size) : hMi D ad cI cJ cF l yX5_inPixels cX5_inPixels 2 (some .int) ({ frames := 1, cells := 0, slots := 0, locals := 22 } : Room) [.int (hI units), .int (hI size)] S (v_X5_inPixels units size) S := by
  refine hOf (S := S) l hinj (by decide +kernel) (Nat.le_of_ble_eq_true rfl) (fun p e s m args below meth c E => ?_)
  obtain ⟨hx, hb, hml, hown, hts, hK, hN, -, hr, hlk, hz⟩ := id E
  have hown : s.vm.findClass RX5 = some m.cls := hown
  intro H locs ls hh hl
  have hl : lv_has ls 2 [(0, .int (hI units)), (1, .int (hI size))] := hl
  have h := hp
  unfold p_X5_inPixels at h
  refine lv_iload_n hx hb dX5_inPixels_0 rfl (lv_at hl 0 rfl) ?_
  refine lv_iload_n hx hb dX5_inPixels_1 rfl (lv_at hl 1 rfl) ?_
  refine iv_imul hx hb dX5_inPixels_2 ?_
  refine lv_sipush (v := hI 500) hx hb dX5_inPixels_3 (by decide) ?_
  refine iv_iadd hx hb dX5_inPixels_6 ?_
  refine lv_sipush (v := hI 1000) hx hb dX5_inPixels_7 (by decide) ?_
  obtain ⟨g1, h⟩ := h
  obtain ⟨g2, h⟩ := h
  refine iv_ki (iv_rS (As := [.int (hI ((units * size) + 500)), .int (hI 1000)]) (rest := []) E hh (ok_J9_floorDiv_7cf53 l hinj S ((units * size) + 500) 1000 g1 ⟨by decide, by decide⟩ g2) cb_J9_floorDiv_7cf53 q2_22 rfl rfl ⟨Nat.le_of_ble_eq_true rfl, Nat.le_of_ble_eq_true rfl⟩ rfl hl.1 rfl (Nat.le_of_ble_eq_true rfl) dX5_inPixels_10 ⟨Nat.zero_le _, Nat.zero_le _⟩) hh (fun hc3 H locs hh => ?_)
  exact iv_iret E hh rfl (by rw [← show (v_J9_floorDiv_7cf53 ((units * size) + 500) 1000) = v_X5_inPixels units size from rfl]; exact hc3) rfl dX5_inPixels_13
set_option maxHeartbeats 4000000 in
set_option maxRecDepth 100000 in
theorem ok_X5_cell (l : Launch) (hinj : hInj ad) (S : hS) {g i n q : Nat} (hia : hIA ad cI cJ cF g i n q) (A : hGM) (hA : S g = A) (index : Int) (h_index : hIn index) : hMi D ad cI cJ cF l yX5_cell cX5_cell 2 (some .int) ({ frames := 0, cells := 0, slots := 0, locals := 0 } : Room) [.ref (ad g i), .int (hI index)] S (v_X5_cell A i n index) S := by
  refine hOf (S := S) l hinj (by decide +kernel) (Nat.le_of_ble_eq_true rfl) (fun p e s m args below meth c E => ?_)
  obtain ⟨hx, hb, hml, hown, hts, hK, hN, -, hr, hlk, hz⟩ := id E
  have hown : s.vm.findClass RX5 = some m.cls := hown
  intro H locs ls hh hl
  have hl : lv_has ls 2 [(0, .ref (ad g i)), (1, .int (hI index))] := hl
  refine lv_iload_n hx hb dX5_cell_0 rfl (lv_at hl 1 rfl) ?_
  refine iv_if_lt (tgt := 16) hx hb h_index dX5_cell_1 (by decide) (fun c1 => ?_) (fun c1 => ?_)
  · refine iv_iconst hx hb dX5_cell_16 ?_
    exact iv_iret E hh (by unfold v_X5_cell; rw [if_pos c1]) (by rw [← show 0 = v_X5_cell A i n index from (by unfold v_X5_cell; rw [if_pos c1])]; exact ⟨by decide, by decide⟩) rfl dX5_cell_17
  · refine lv_iload_n hx hb dX5_cell_4 rfl (lv_at hl 1 rfl) ?_
    refine lv_aload_n hx hb dX5_cell_5 rfl (lv_at hl 0 rfl) ?_
    refine iv_alen hx hb hK hh.1 hia dX5_cell_6 ?_
    refine iv_icmp_ge (tgt := 16) hx hb h_index (hIA_n hia) dX5_cell_7 (by decide) (fun c2 => ?_) (fun c2 => ?_)
    · refine iv_iconst hx hb dX5_cell_16 ?_
      exact iv_iret E hh (by unfold v_X5_cell; rw [if_neg c1, if_neg c2]) (by rw [← show 0 = v_X5_cell A i n index from (by unfold v_X5_cell; rw [if_neg c1, if_neg c2])]; exact ⟨by decide, by decide⟩) rfl dX5_cell_17
    · refine lv_aload_n hx hb dX5_cell_10 rfl (lv_at hl 0 rfl) ?_
      refine lv_iload_n hx hb dX5_cell_11 rfl (lv_at hl 1 rfl) ?_
      refine iv_iald hx hb hK hh.1 hia ⟨Int.not_lt.mp c1, c2⟩ (v := (A i index)) (congrArg (fun z => z i index) hA) dX5_cell_12 ?_
      have hm3 : hIn (A i index) := hIn_rd hh.2.1 hA (hIA_i hia)
      refine lv_goto (tgt := 17) hx hb dX5_cell_13 (by decide) ?_
      exact iv_iret E hh (by unfold v_X5_cell; rw [if_neg c1, if_pos c2]) (by rw [← show (A i index) = v_X5_cell A i n index from (by unfold v_X5_cell; rw [if_neg c1, if_pos c2])]; exact hm3) rfl dX5_cell_17
set_option maxHeartbeats 4000000 in
set_option maxRecDepth 100000 in
theorem ok_X5_put (l : Launch) (hinj : hInj ad) (S : hS) {g i n q : Nat} (hia : hIA ad cI cJ cF g i n q) (A : hGM) (hA : S g = A) (index : Int) (value : Int) (h_index : hIn index) (h_value : hIn value) : hMv D ad cI cJ cF l yX5_put cX5_put 3 ({ frames := 0, cells := 0, slots := 0, locals := 0 } : Room) [.ref (ad g i), .int (hI index), .int (hI value)] S (gset S g (m_X5_put A i n index value)) := by
  refine hOf (S := S) l hinj (by decide +kernel) (Nat.le_of_ble_eq_true rfl) (fun p e s m args below meth c E => ?_)
  obtain ⟨hx, hb, hml, hown, hts, hK, hN, -, hr, hlk, hz⟩ := id E
  have hown : s.vm.findClass RX5 = some m.cls := hown
  intro H locs ls hh hl
  have hl : lv_has ls 3 [(0, .ref (ad g i)), (1, .int (hI index)), (2, .int (hI value))] := hl
  replace hh : hH D ad cI cJ cF (gset S g A) s H locs := by rw [← can1 hA]; exact hh
  refine lv_iload_n hx hb dX5_put_0 rfl (lv_at hl 1 rfl) ?_
  refine iv_if_lt (tgt := 14) hx hb h_index dX5_put_1 (by decide) (fun c1 => ?_) (fun c1 => ?_)
  · exact iv_vret E hh (by unfold m_X5_put; rw [if_pos c1]) dX5_put_14
  · refine lv_iload_n hx hb dX5_put_4 rfl (lv_at hl 1 rfl) ?_
    refine lv_aload_n hx hb dX5_put_5 rfl (lv_at hl 0 rfl) ?_
    refine iv_alen hx hb hK hh.1 hia dX5_put_6 ?_
    refine iv_icmp_ge (tgt := 14) hx hb h_index (hIA_n hia) dX5_put_7 (by decide) (fun c2 => ?_) (fun c2 => ?_)
    · exact iv_vret E hh (by unfold m_X5_put; rw [if_neg c1, if_neg c2]) dX5_put_14
    · refine lv_aload_n hx hb dX5_put_10 rfl (lv_at hl 0 rfl) ?_
      refine lv_iload_n hx hb dX5_put_11 rfl (lv_at hl 1 rfl) ?_
      refine lv_iload_n hx hb dX5_put_12 rfl (lv_at hl 2 rfl) ?_
      refine iv_iast (S' := (gset S g (aset A i index value))) hx hb hK hinj hh hia ⟨Int.not_lt.mp c1, c2⟩ h_value (by rw [show (gset S g A) g = A from (gset_at _ _ _)]; exact (gset_gset _ _ _ _)) dX5_put_13 (fun H locs hh => ?_)
      exact iv_vret E hh (by unfold m_X5_put; rw [if_neg c1, if_pos c2]) dX5_put_14
set_option maxHeartbeats 4000000 in
set_option maxRecDepth 100000 in
theorem ok_X5_copyRow (l : Launch) (hinj : hInj ad) (S : hS) {g1 i1 n1 q1 : Nat} (hia1 : hIA ad cI cJ cF g1 i1 n1 q1) {g2 i2 n2 q2 : Nat} (hia2 : hIA ad cI cJ cF g2 i2 n2 q2) (hne : g2 ≠ g1) (A : hGM) (hA : S g2 = A) (B : hGM) (hB : S g1 = B) (hp : p_X5_copyRow A B i1 n1 i2 n2) : hMv D ad cI cJ cF l yX5_copyRow cX5_copyRow 3 ({ frames := 0, cells := 0, slots := 0, locals := 0 } : Room) [.ref (ad g1 i1), .ref (ad g2 i2)] S (gset S g2 (m_X5_copyRow A B i1 n1 i2 n2)) := by
  refine hOf (S := S) l hinj (by decide +kernel) (Nat.le_of_ble_eq_true rfl) (fun p e s m args below meth c E => ?_)
  obtain ⟨hx, hb, hml, hown, hts, hK, hN, -, hr, hlk, hz⟩ := id E
  have hown : s.vm.findClass RX5 = some m.cls := hown
  have r2 : ∀ (y2 : Int) (A1 : hGM), hIn y2 → ((∀ (i : Nat) (k : Int), i < 100 → hIn (A1 i k)) → ((y2 < (n2 : Int) → ((y2 < (n1 : Int) → ((0 ≤ y2 ∧ y2 < (n1 : Int)) ∧ ((0 ≤ y2 ∧ y2 < (n2 : Int)) ∧ (hAt D ad cI cJ cF p l e ({ frames := 0, cells := 0, slots := 0, locals := 0 } : Room) s m args below meth c (MQ below (hQv D ad cI cJ cF (gset S g2 (m_X5_copyRow A B i1 n1 i2 n2))) args s 0 0 (hAd ad)) 3 2 [(0, .ref (ad g1 i1)), (1, .ref (ad g2 i2)), (2, .int (hI (y2 + 1)))] (gset S g2 (aset A1 i2 y2 (B i1 y2))))))) ∧ (¬ y2 < (n1 : Int) → (A1 = m_X5_copyRow A B i1 n1 i2 n2)))) ∧ (¬ y2 < (n2 : Int) → (A1 = m_X5_copyRow A B i1 n1 i2 n2)))) → (hAt D ad cI cJ cF p l e ({ frames := 0, cells := 0, slots := 0, locals := 0 } : Room) s m args below meth c (MQ below (hQv D ad cI cJ cF (gset S g2 (m_X5_copyRow A B i1 n1 i2 n2))) args s 0 0 (hAd ad)) 3 2 [(0, .ref (ad g1 i1)), (1, .ref (ad g2 i2)), (2, .int (hI y2))] (gset S g2 A1)) := by
    intro y2 A1 h_y2 h H locs ls hh hl
    have h := h (fun i k hi => hIn_rd hh.2.1 (gset_at _ _ _) hi)
    refine lv_iload_n hx hb dX5_copyRow_2 rfl (lv_at hl 2 rfl) ?_
    refine lv_aload_n hx hb dX5_copyRow_3 rfl (lv_at hl 1 rfl) ?_
    refine iv_alen hx hb hK hh.1 hia2 dX5_copyRow_4 ?_
    refine iv_icmp_ge (tgt := 26) hx hb h_y2 (hIA_n hia2) dX5_copyRow_5 (by decide) (fun c1 => ?_) (fun c1 => ?_)
    · have h := h.2 c1
      exact iv_vret E hh (by rw [← h]) dX5_copyRow_26
    · have h := h.1 c1
      refine lv_iload_n hx hb dX5_copyRow_8 rfl (lv_at hl 2 rfl) ?_
      refine lv_aload_n hx hb dX5_copyRow_9 rfl (lv_at hl 0 rfl) ?_
      refine iv_alen hx hb hK hh.1 hia1 dX5_copyRow_10 ?_
      refine iv_icmp_ge (tgt := 26) hx hb h_y2 (hIA_n hia1) dX5_copyRow_11 (by decide) (fun c2 => ?_) (fun c2 => ?_)
      · have h := h.2 c2
        exact iv_vret E hh (by rw [← h]) dX5_copyRow_26
      · have h := h.1 c2
        refine lv_aload_n hx hb dX5_copyRow_14 rfl (lv_at hl 1 rfl) ?_
        refine lv_iload_n hx hb dX5_copyRow_15 rfl (lv_at hl 2 rfl) ?_
        refine lv_aload_n hx hb dX5_copyRow_16 rfl (lv_at hl 0 rfl) ?_
        refine lv_iload_n hx hb dX5_copyRow_17 rfl (lv_at hl 2 rfl) ?_
        obtain ⟨g3, h⟩ := h
        refine iv_iald hx hb hK hh.1 hia1 g3 (v := (B i1 y2)) (congrArg (fun z => z i1 y2) ((gset_ne (Ne.symm hne)).trans hB)) dX5_copyRow_18 ?_
        have hm4 : hIn (B i1 y2) := hIn_rd hh.2.1 ((gset_ne (Ne.symm hne)).trans hB) (hIA_i hia1)
        obtain ⟨g5, h⟩ := h
        refine iv_iast (S' := (gset S g2 (aset A1 i2 y2 (B i1 y2)))) hx hb hK hinj hh hia2 g5 hm4 (by rw [show (gset S g2 A1) g2 = A1 from (gset_at _ _ _)]; exact (gset_gset _ _ _ _)) dX5_copyRow_19 (fun H locs hh => ?_)
        refine iv_iinc (lv' := [(2, .int (hI (y2 + 1))), (0, .ref (ad g1 i1)), (1, .ref (ad g2 i2))]) hx hb dX5_copyRow_20 hl (k := 2) rfl (v := (y2 + 1)) rfl (by decide) rfl (fun ls hl => ?_)
        refine lv_goto (tgt := 2) hx hb dX5_copyRow_23 (by decide) ?_
        exact h H _ ls hh (lv_sub hl [1, 2, 0] rfl)
  intro H locs ls hh hl
  have hl : lv_has ls 3 [(0, .ref (ad g1 i1)), (1, .ref (ad g2 i2))] := hl
  replace hh : hH D ad cI cJ cF (gset S g2 A) s H locs := by rw [← can1 hA]; exact hh
  have h := x_X5_copyRow A B i1 n1 i2 n2 (hIA_lt hia1) (hIA_lt hia2) (fun i k hi => hIn_rd hh.2.1 (gset_at _ _ _) hi) (fun i k hi => hIn_rd hh.2.1 ((gset_ne (Ne.symm hne)).trans hB) hi) hp (fun y2 A1 => (hAt D ad cI cJ cF p l e ({ frames := 0, cells := 0, slots := 0, locals := 0 } : Room) s m args below meth c (MQ below (hQv D ad cI cJ cF (gset S g2 (m_X5_copyRow A B i1 n1 i2 n2))) args s 0 0 (hAd ad)) 3 2 [(0, .ref (ad g1 i1)), (1, .ref (ad g2 i2)), (2, .int (hI y2))] (gset S g2 A1))) (fun A1 => (A1 = m_X5_copyRow A B i1 n1 i2 n2)) r2 rfl
  refine iv_iconst hx hb dX5_copyRow_0 ?_
  refine lv_istore_n (lv' := [(2, .int (hI 0)), (0, .ref (ad g1 i1)), (1, .ref (ad g2 i2))]) hx hb dX5_copyRow_1 rfl hl (by decide) rfl (fun ls hl => ?_)
  exact h H _ ls hh (lv_sub hl [1, 2, 0] rfl)
set_option maxHeartbeats 4000000 in
set_option maxRecDepth 100000 in
theorem ok_X5_bitOf (l : Launch) (hinj : hInj ad) (S : hS) (bits : Int) (index : Int) (h_index : hIn index) : hMi D ad cI cJ cF l yX5_bitOf cX5_bitOf 3 (some .int) ({ frames := 0, cells := 0, slots := 0, locals := 0 } : Room) [.long (hJ bits), .int (hI index)] S (v_X5_bitOf bits index) S := by
  refine hOf (S := S) l hinj (by decide +kernel) (Nat.le_of_ble_eq_true rfl) (fun p e s m args below meth c E => ?_)
  obtain ⟨hx, hb, hml, hown, hts, hK, hN, -, hr, hlk, hz⟩ := id E
  have hown : s.vm.findClass RX5 = some m.cls := hown
  intro H locs ls hh hl
  have hl : lv_has ls 3 [(0, .long (hJ bits)), (2, .int (hI index))] := hl
  refine lv_lload_n hx hb dX5_bitOf_0 rfl (lv_at hl 0 rfl) ?_
  refine lv_iload_n hx hb dX5_bitOf_1 rfl (lv_at hl 1 rfl) ?_
  refine iv_lushr hx hb dX5_bitOf_2 ?_
  refine lv_lconst (v := hJ 1) hx hb dX5_bitOf_3 (by decide) ?_
  refine iv_land hx hb dX5_bitOf_4 ?_
  refine iv_l2i hx hb dX5_bitOf_5 ?_
  exact iv_iret E hh rfl (by rw [← show (jToI (jAnd (jUshr bits index) 1)) = v_X5_bitOf bits index from rfl]; exact (hIn_toInt _)) rfl dX5_bitOf_6
end

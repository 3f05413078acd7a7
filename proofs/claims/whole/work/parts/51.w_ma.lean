section
variable {D : va_G} {ad : Nat → Nat → Nat} {cI cJ cF : ClassId}
set_option maxHeartbeats 4000000 in
set_option maxRecDepth 100000 in
theorem ok_X6_in (l : Launch) (hinj : hInj ad) (S : hS) (v1 : Int) (least : Int) (most : Int) (h_v1 : hIn v1) (h_least : hIn least) (h_most : hIn most) : hMi D ad cI cJ cF l yX6_in cX6_in 3 (some .boolean) ({ frames := 0, cells := 0, slots := 0, locals := 0 } : Room) [.int (hI v1), .int (hI least), .int (hI most)] S (v_X6_in v1 least most) S := by
  refine hOf (S := S) l hinj (by decide +kernel) (Nat.le_of_ble_eq_true rfl) (fun p e s m args below meth c E => ?_)
  obtain ⟨hx, hb, hml, hown, hts, hK, hN, -, hr, hlk⟩ := id E
  have hown : s.vm.findClass RX6 = some m.cls := hown
  intro H locs ls hh hl
  have hl : lv_has ls 3 [(0, .int (hI v1)), (1, .int (hI least)), (2, .int (hI most))] := hl
  refine lv_iload_n hx hb dX6_in_0 rfl (lv_at hl 0 rfl) ?_
  refine lv_iload_n hx hb dX6_in_1 rfl (lv_at hl 1 rfl) ?_
  refine iv_icmp_lt (tgt := 14) hx hb h_v1 h_least dX6_in_2 (by decide) (fun c1 => ?_) (fun c1 => ?_)
  · refine iv_iconst hx hb dX6_in_14 ?_
    exact iv_bret E hh (by unfold v_X6_in; rw [if_pos c1]) (by rw [← show 0 = v_X6_in v1 least most from (by unfold v_X6_in; rw [if_pos c1])]; exact (Or.inl rfl)) rfl dX6_in_15
  · refine lv_iload_n hx hb dX6_in_5 rfl (lv_at hl 0 rfl) ?_
    refine lv_iload_n hx hb dX6_in_6 rfl (lv_at hl 2 rfl) ?_
    refine iv_icmp_gt (tgt := 14) hx hb h_v1 h_most dX6_in_7 (by decide) (fun c2 => ?_) (fun c2 => ?_)
    · refine iv_iconst hx hb dX6_in_14 ?_
      exact iv_bret E hh (by unfold v_X6_in; rw [if_neg c1, if_neg c2]) (by rw [← show 0 = v_X6_in v1 least most from (by unfold v_X6_in; rw [if_neg c1, if_neg c2])]; exact (Or.inl rfl)) rfl dX6_in_15
    · refine iv_iconst hx hb dX6_in_10 ?_
      refine lv_goto (tgt := 15) hx hb dX6_in_11 (by decide) ?_
      exact iv_bret E hh (by unfold v_X6_in; rw [if_neg c1, if_pos c2]) (by rw [← show 1 = v_X6_in v1 least most from (by unfold v_X6_in; rw [if_neg c1, if_pos c2])]; exact (Or.inr rfl)) rfl dX6_in_15
set_option maxHeartbeats 4000000 in
set_option maxRecDepth 100000 in
theorem ok_X6_floor (l : Launch) (hinj : hInj ad) (S : hS) (v1 : Int) (by1 : Int) (h_v1 : hIn v1) (h_by1 : hIn by1) (hp : p_X6_floor v1 by1) : hMi D ad cI cJ cF l yX6_floor cX6_floor 2 (some .int) ({ frames := 0, cells := 0, slots := 0, locals := 0 } : Room) [.int (hI v1), .int (hI by1)] S (v_X6_floor v1 by1) S := by
  refine hOf (S := S) l hinj (by decide +kernel) (Nat.le_of_ble_eq_true rfl) (fun p e s m args below meth c E => ?_)
  obtain ⟨hx, hb, hml, hown, hts, hK, hN, -, hr, hlk⟩ := id E
  have hown : s.vm.findClass RX6 = some m.cls := hown
  intro H locs ls hh hl
  have hl : lv_has ls 2 [(0, .int (hI v1)), (1, .int (hI by1))] := hl
  have h := hp
  unfold p_X6_floor at h
  refine lv_iload_n hx hb dX6_floor_0 rfl (lv_at hl 0 rfl) ?_
  refine iv_if_lt (tgt := 10) hx hb h_v1 dX6_floor_1 (by decide) (fun c1 => ?_) (fun c1 => ?_)
  · have h := h.1 c1
    refine lv_iload_n hx hb dX6_floor_10 rfl (lv_at hl 1 rfl) ?_
    refine iv_iconst hx hb dX6_floor_11 ?_
    refine iv_isub hx hb dX6_floor_12 ?_
    refine lv_iload_n hx hb dX6_floor_13 rfl (lv_at hl 0 rfl) ?_
    refine iv_isub hx hb dX6_floor_14 ?_
    refine lv_iload_n hx hb dX6_floor_15 rfl (lv_at hl 1 rfl) ?_
    obtain ⟨g2, h⟩ := h
    obtain ⟨g3, h⟩ := h
    obtain ⟨g4, h⟩ := h
    refine iv_idiv hx hb g2 g3 h_by1 g4 dX6_floor_16 ?_
    refine iv_ineg hx hb dX6_floor_17 ?_
    obtain ⟨g5, h⟩ := h
    exact iv_iret E hh (by unfold v_X6_floor; rw [if_pos c1]) (by rw [← show (-(((by1 - 1) - v1) / by1)) = v_X6_floor v1 by1 from (by unfold v_X6_floor; rw [if_pos c1])]; exact g5) rfl dX6_floor_18
  · have h := h.2 c1
    refine lv_iload_n hx hb dX6_floor_4 rfl (lv_at hl 0 rfl) ?_
    refine lv_iload_n hx hb dX6_floor_5 rfl (lv_at hl 1 rfl) ?_
    obtain ⟨g6, h⟩ := h
    obtain ⟨g7, h⟩ := h
    refine iv_idiv hx hb h_v1 g6 h_by1 g7 dX6_floor_6 ?_
    refine lv_goto (tgt := 18) hx hb dX6_floor_7 (by decide) ?_
    obtain ⟨g8, h⟩ := h
    exact iv_iret E hh (by unfold v_X6_floor; rw [if_neg c1]) (by rw [← show (v1 / by1) = v_X6_floor v1 by1 from (by unfold v_X6_floor; rw [if_neg c1])]; exact g8) rfl dX6_floor_18
set_option maxHeartbeats 4000000 in
set_option maxRecDepth 100000 in
theorem ok_X6_copies (l : Launch) (hinj : hInj ad) (S : hS) {g i1 n1 q1 : Nat} (hia1 : hIA ad cI cJ cF g i1 n1 q1) {i2 n2 q2 : Nat} (hia2 : hIA ad cI cJ cF g i2 n2 q2) (hni : i1 ≠ i2) (A : hGM) (hA : S g = A) (hp : p_X6_copies A i1 n1 i2 n2) : hMv D ad cI cJ cF l yX6_copies cX6_copies 3 ({ frames := 0, cells := 0, slots := 0, locals := 0 } : Room) [.ref (ad g i1), .ref (ad g i2)] S (gset S g (m_X6_copies A i1 n1 i2 n2)) := by
  refine hOf (S := S) l hinj (by decide +kernel) (Nat.le_of_ble_eq_true rfl) (fun p e s m args below meth c E => ?_)
  obtain ⟨hx, hb, hml, hown, hts, hK, hN, -, hr, hlk⟩ := id E
  have hown : s.vm.findClass RX6 = some m.cls := hown
  have r2 : ∀ (y2 : Int) (A1 : hGM), hIn y2 → ((∀ (i : Nat) (k : Int), i < 100 → hIn (A1 i k)) → ((y2 < 273 → ((0 ≤ y2 ∧ y2 < (n1 : Int)) ∧ ((0 ≤ y2 ∧ y2 < (n2 : Int)) ∧ (hAt D ad cI cJ cF p l e ({ frames := 0, cells := 0, slots := 0, locals := 0 } : Room) s m args below meth c (MQ below (hQv D ad cI cJ cF (gset S g (m_X6_copies A i1 n1 i2 n2))) args s 0 0 (hAd ad)) 3 2 [(0, .ref (ad g i1)), (1, .ref (ad g i2)), (2, .int (hI (y2 + 1)))] (gset S g (aset A1 i2 y2 (A1 i1 y2))))))) ∧ (¬ y2 < 273 → (A1 = m_X6_copies A i1 n1 i2 n2)))) → (hAt D ad cI cJ cF p l e ({ frames := 0, cells := 0, slots := 0, locals := 0 } : Room) s m args below meth c (MQ below (hQv D ad cI cJ cF (gset S g (m_X6_copies A i1 n1 i2 n2))) args s 0 0 (hAd ad)) 3 2 [(0, .ref (ad g i1)), (1, .ref (ad g i2)), (2, .int (hI y2))] (gset S g A1)) := by
    intro y2 A1 h_y2 h H locs ls hh hl
    have h := h (fun i k hi => hIn_rd hh.2.1 (gset_at _ _ _) hi)
    refine lv_iload_n hx hb dX6_copies_2 rfl (lv_at hl 2 rfl) ?_
    refine lv_sipush (v := hI 273) hx hb dX6_copies_3 (by decide) ?_
    refine iv_icmp_ge (tgt := 21) hx hb h_y2 ⟨by decide, by decide⟩ dX6_copies_6 (by decide) (fun c1 => ?_) (fun c1 => ?_)
    · have h := h.2 c1
      exact iv_vret E hh (by rw [← h]) dX6_copies_21
    · have h := h.1 c1
      refine lv_aload_n hx hb dX6_copies_9 rfl (lv_at hl 1 rfl) ?_
      refine lv_iload_n hx hb dX6_copies_10 rfl (lv_at hl 2 rfl) ?_
      refine lv_aload_n hx hb dX6_copies_11 rfl (lv_at hl 0 rfl) ?_
      refine lv_iload_n hx hb dX6_copies_12 rfl (lv_at hl 2 rfl) ?_
      obtain ⟨g2, h⟩ := h
      refine iv_iald hx hb hK hh.1 hia1 g2 (v := (A1 i1 y2)) (congrArg (fun z => z i1 y2) (gset_at _ _ _)) dX6_copies_13 ?_
      have hm3 : hIn (A1 i1 y2) := hIn_rd hh.2.1 (gset_at _ _ _) (hIA_i hia1)
      obtain ⟨g4, h⟩ := h
      refine iv_iast (S' := (gset S g (aset A1 i2 y2 (A1 i1 y2)))) hx hb hK hinj hh hia2 g4 hm3 (by rw [show (gset S g A1) g = A1 from (gset_at _ _ _)]; exact (gset_gset _ _ _ _)) dX6_copies_14 (fun H locs hh => ?_)
      refine iv_iinc (lv' := [(2, .int (hI (y2 + 1))), (0, .ref (ad g i1)), (1, .ref (ad g i2))]) hx hb dX6_copies_15 hl (k := 2) rfl (v := (y2 + 1)) rfl (by decide) rfl (fun ls hl => ?_)
      refine lv_goto (tgt := 2) hx hb dX6_copies_18 (by decide) ?_
      exact h H _ ls hh (lv_sub hl [1, 2, 0] rfl)
  intro H locs ls hh hl
  have hl : lv_has ls 3 [(0, .ref (ad g i1)), (1, .ref (ad g i2))] := hl
  replace hh : hH D ad cI cJ cF (gset S g A) s H locs := by rw [← can1 hA]; exact hh
  have h := x_X6_copies A i1 n1 i2 n2 (hIA_lt hia1) (hIA_lt hia2) (fun i k hi => hIn_rd hh.2.1 (gset_at _ _ _) hi) hp (fun y2 A1 => (hAt D ad cI cJ cF p l e ({ frames := 0, cells := 0, slots := 0, locals := 0 } : Room) s m args below meth c (MQ below (hQv D ad cI cJ cF (gset S g (m_X6_copies A i1 n1 i2 n2))) args s 0 0 (hAd ad)) 3 2 [(0, .ref (ad g i1)), (1, .ref (ad g i2)), (2, .int (hI y2))] (gset S g A1))) (fun A1 => (A1 = m_X6_copies A i1 n1 i2 n2)) r2 rfl
  refine iv_iconst hx hb dX6_copies_0 ?_
  refine lv_istore_n (lv' := [(2, .int (hI 0)), (0, .ref (ad g i1)), (1, .ref (ad g i2))]) hx hb dX6_copies_1 rfl hl (by decide) rfl (fun ls hl => ?_)
  exact h H _ ls hh (lv_sub hl [1, 2, 0] rfl)
set_option maxHeartbeats 4000000 in
set_option maxRecDepth 100000 in
theorem ok_X6_changes (l : Launch) (hinj : hInj ad) (S : hS) (P : hGM) (hP : S 10 = P) (hp : p_X6_changes P) : hMv D ad cI cJ cF l yX6_changes cX6_changes 2 ({ frames := 0, cells := 0, slots := 0, locals := 0 } : Room) [.ref (ad 10 0)] S (gset S 10 (m_X6_changes P)) := by
  refine hOf (S := S) l hinj (by decide +kernel) (Nat.le_of_ble_eq_true rfl) (fun p e s m args below meth c E => ?_)
  obtain ⟨hx, hb, hml, hown, hts, hK, hN, -, hr, hlk⟩ := id E
  have hown : s.vm.findClass RX6 = some m.cls := hown
  have r18 : ∀ (y1 : Int) (P1 : hGM), hIn y1 → ((∀ (i : Nat) (k : Int), i < 100 → hIn (P1 i k)) → ((y1 < 819 → ((0 ≤ (y1 + 273) ∧ (y1 + 273) < 1092) ∧ ((0 ≤ y1 ∧ y1 < 1092) ∧ (hAt D ad cI cJ cF p l e ({ frames := 0, cells := 0, slots := 0, locals := 0 } : Room) s m args below meth c (MQ below (hQv D ad cI cJ cF (gset S 10 (m_X6_changes P))) args s 0 0 (hAd ad)) 2 18 [(0, .ref (ad 10 0)), (1, .int (hI (y1 + 1)))] (gset S 10 (aset P1 2 y1 (P1 2 (y1 + 273)))))))) ∧ (¬ y1 < 819 → (hIn ((P1 0 3) - 1) ∧ (hAt D ad cI cJ cF p l e ({ frames := 0, cells := 0, slots := 0, locals := 0 } : Room) s m args below meth c (MQ below (hQv D ad cI cJ cF (gset S 10 (m_X6_changes P))) args s 0 0 (hAd ad)) 2 59 [(0, .ref (ad 10 0)), (1, .int (hI 0))] (gset S 10 (aset P1 0 3 ((P1 0 3) - 1)))))))) → (hAt D ad cI cJ cF p l e ({ frames := 0, cells := 0, slots := 0, locals := 0 } : Room) s m args below meth c (MQ below (hQv D ad cI cJ cF (gset S 10 (m_X6_changes P))) args s 0 0 (hAd ad)) 2 18 [(0, .ref (ad 10 0)), (1, .int (hI y1))] (gset S 10 P1)) := by
    intro y1 P1 h_y1 h H locs ls hh hl
    have h := h (fun i k hi => hIn_rd hh.2.1 (gset_at _ _ _) hi)
    refine lv_iload_n hx hb dX6_changes_18 rfl (lv_at hl 1 rfl) ?_
    refine lv_sipush (v := hI 819) hx hb dX6_changes_19 (by decide) ?_
    refine iv_icmp_ge (tgt := 47) hx hb h_y1 ⟨by decide, by decide⟩ dX6_changes_22 (by decide) (fun c1 => ?_) (fun c1 => ?_)
    · have h := h.2 c1
      refine lv_aload_n hx hb dX6_changes_47 rfl (lv_at hl 0 rfl) ?_
      refine lv_dup hx hb dX6_changes_48 rfl ?_
      refine iv_get (v' := .int (hI (P1 0 3))) hx hb hts inX6 hown hK hh.1 (ob_Model) rfl 3 (by decide) (hts _ q3_163) rfl rfl (congrArg (fun z => Value.int (hI (z 0 3))) (gset_at _ _ _)) dX6_changes_49 ?_
      have hm2 : hIn (P1 0 3) := hIn_rd hh.2.1 (gset_at _ _ _) (by decide)
      refine iv_iconst hx hb dX6_changes_52 ?_
      refine iv_isub hx hb dX6_changes_53 ?_
      obtain ⟨g3, h⟩ := h
      refine iv_put (S' := (gset S 10 (aset P1 0 3 ((P1 0 3) - 1)))) (ty := .int) hx hb hts inX6 tyX6 tyX6_ok nmX6 hown hK hinj hh (by decide) un_Model (Or.inl rfl) (ob_Model) rfl 3 (by decide) (hts _ q3_163) rfl rfl (by decide +kernel) rfl rfl (Nat.le_of_ble_eq_true rfl) (pu_Model_pasts) (Or.inl g3) (by rw [show (gset S 10 P1) 10 = P1 from (gset_at _ _ _)]; exact (gset_gset _ _ _ _)) dX6_changes_54 (fun H locs hh => ?_)
      refine iv_iconst hx hb dX6_changes_57 ?_
      refine lv_istore_n (lv' := [(1, .int (hI 0)), (0, .ref (ad 10 0))]) hx hb dX6_changes_58 rfl hl (by decide) rfl (fun ls hl => ?_)
      exact h H _ ls hh (lv_sub hl [1, 0] rfl)
    · have h := h.1 c1
      refine lv_aload_n hx hb dX6_changes_25 rfl (lv_at hl 0 rfl) ?_
      refine iv_get (v' := .ref (ad 10 2)) hx hb hts inX6 hown hK hh.1 (ob_Model) rfl 1 (by decide) (hts _ q3_161) rfl rfl rfl dX6_changes_26 ?_
      refine lv_iload_n hx hb dX6_changes_29 rfl (lv_at hl 1 rfl) ?_
      refine lv_aload_n hx hb dX6_changes_30 rfl (lv_at hl 0 rfl) ?_
      refine iv_get (v' := .ref (ad 10 2)) hx hb hts inX6 hown hK hh.1 (ob_Model) rfl 1 (by decide) (hts _ q3_161) rfl rfl rfl dX6_changes_31 ?_
      refine lv_iload_n hx hb dX6_changes_34 rfl (lv_at hl 1 rfl) ?_
      refine lv_sipush (v := hI 273) hx hb dX6_changes_35 (by decide) ?_
      refine iv_iadd hx hb dX6_changes_38 ?_
      obtain ⟨g4, h⟩ := h
      refine iv_iald hx hb hK hh.1 (ia_10_2) g4 (v := (P1 2 (y1 + 273))) (congrArg (fun z => z 2 (y1 + 273)) (gset_at _ _ _)) dX6_changes_39 ?_
      have hm5 : hIn (P1 2 (y1 + 273)) := hIn_rd hh.2.1 (gset_at _ _ _) (by decide)
      obtain ⟨g6, h⟩ := h
      refine iv_iast (S' := (gset S 10 (aset P1 2 y1 (P1 2 (y1 + 273))))) hx hb hK hinj hh (ia_10_2) g6 hm5 (by rw [show (gset S 10 P1) 10 = P1 from (gset_at _ _ _)]; exact (gset_gset _ _ _ _)) dX6_changes_40 (fun H locs hh => ?_)
      refine iv_iinc (lv' := [(1, .int (hI (y1 + 1))), (0, .ref (ad 10 0))]) hx hb dX6_changes_41 hl (k := 1) rfl (v := (y1 + 1)) rfl (by decide) rfl (fun ls hl => ?_)
      refine lv_goto (tgt := 18) hx hb dX6_changes_44 (by decide) ?_
      exact h H _ ls hh (lv_sub hl [1, 0] rfl)
  have r59 : ∀ (y1 : Int) (P1 : hGM), hIn y1 → ((∀ (i : Nat) (k : Int), i < 100 → hIn (P1 i k)) → ((y1 < 273 → ((0 ≤ y1 ∧ y1 < 273) ∧ ((0 ≤ ((273 * (P1 0 3)) + y1) ∧ ((273 * (P1 0 3)) + y1) < 1092) ∧ (hAt D ad cI cJ cF p l e ({ frames := 0, cells := 0, slots := 0, locals := 0 } : Room) s m args below meth c (MQ below (hQv D ad cI cJ cF (gset S 10 (m_X6_changes P))) args s 0 0 (hAd ad)) 2 59 [(0, .ref (ad 10 0)), (1, .int (hI (y1 + 1)))] (gset S 10 (aset P1 2 ((273 * (P1 0 3)) + y1) (P1 1 y1))))))) ∧ (¬ y1 < 273 → (hIn ((P1 0 3) + 1) ∧ ((aset P1 0 3 ((P1 0 3) + 1)) = m_X6_changes P))))) → (hAt D ad cI cJ cF p l e ({ frames := 0, cells := 0, slots := 0, locals := 0 } : Room) s m args below meth c (MQ below (hQv D ad cI cJ cF (gset S 10 (m_X6_changes P))) args s 0 0 (hAd ad)) 2 59 [(0, .ref (ad 10 0)), (1, .int (hI y1))] (gset S 10 P1)) := by
    intro y1 P1 h_y1 h H locs ls hh hl
    have h := h (fun i k hi => hIn_rd hh.2.1 (gset_at _ _ _) hi)
    refine lv_iload_n hx hb dX6_changes_59 rfl (lv_at hl 1 rfl) ?_
    refine lv_sipush (v := hI 273) hx hb dX6_changes_60 (by decide) ?_
    refine iv_icmp_ge (tgt := 93) hx hb h_y1 ⟨by decide, by decide⟩ dX6_changes_63 (by decide) (fun c7 => ?_) (fun c7 => ?_)
    · have h := h.2 c7
      refine lv_aload_n hx hb dX6_changes_93 rfl (lv_at hl 0 rfl) ?_
      refine lv_dup hx hb dX6_changes_94 rfl ?_
      refine iv_get (v' := .int (hI (P1 0 3))) hx hb hts inX6 hown hK hh.1 (ob_Model) rfl 3 (by decide) (hts _ q3_163) rfl rfl (congrArg (fun z => Value.int (hI (z 0 3))) (gset_at _ _ _)) dX6_changes_95 ?_
      have hm8 : hIn (P1 0 3) := hIn_rd hh.2.1 (gset_at _ _ _) (by decide)
      refine iv_iconst hx hb dX6_changes_98 ?_
      refine iv_iadd hx hb dX6_changes_99 ?_
      obtain ⟨g9, h⟩ := h
      refine iv_put (S' := (gset S 10 (aset P1 0 3 ((P1 0 3) + 1)))) (ty := .int) hx hb hts inX6 tyX6 tyX6_ok nmX6 hown hK hinj hh (by decide) un_Model (Or.inl rfl) (ob_Model) rfl 3 (by decide) (hts _ q3_163) rfl rfl (by decide +kernel) rfl rfl (Nat.le_of_ble_eq_true rfl) (pu_Model_pasts) (Or.inl g9) (by rw [show (gset S 10 P1) 10 = P1 from (gset_at _ _ _)]; exact (gset_gset _ _ _ _)) dX6_changes_100 (fun H locs hh => ?_)
      exact iv_vret E hh (by rw [← h]) dX6_changes_103
    · have h := h.1 c7
      refine lv_aload_n hx hb dX6_changes_66 rfl (lv_at hl 0 rfl) ?_
      refine iv_get (v' := .ref (ad 10 2)) hx hb hts inX6 hown hK hh.1 (ob_Model) rfl 1 (by decide) (hts _ q3_161) rfl rfl rfl dX6_changes_67 ?_
      refine lv_sipush (v := hI 273) hx hb dX6_changes_70 (by decide) ?_
      refine lv_aload_n hx hb dX6_changes_73 rfl (lv_at hl 0 rfl) ?_
      refine iv_get (v' := .int (hI (P1 0 3))) hx hb hts inX6 hown hK hh.1 (ob_Model) rfl 3 (by decide) (hts _ q3_163) rfl rfl (congrArg (fun z => Value.int (hI (z 0 3))) (gset_at _ _ _)) dX6_changes_74 ?_
      have hm10 : hIn (P1 0 3) := hIn_rd hh.2.1 (gset_at _ _ _) (by decide)
      refine iv_imul hx hb dX6_changes_77 ?_
      refine lv_iload_n hx hb dX6_changes_78 rfl (lv_at hl 1 rfl) ?_
      refine iv_iadd hx hb dX6_changes_79 ?_
      refine lv_aload_n hx hb dX6_changes_80 rfl (lv_at hl 0 rfl) ?_
      refine iv_get (v' := .ref (ad 10 1)) hx hb hts inX6 hown hK hh.1 (ob_Model) rfl 0 (by decide) (hts _ q3_160) rfl rfl rfl dX6_changes_81 ?_
      refine lv_iload_n hx hb dX6_changes_84 rfl (lv_at hl 1 rfl) ?_
      obtain ⟨g11, h⟩ := h
      refine iv_iald hx hb hK hh.1 (ia_10_1) g11 (v := (P1 1 y1)) (congrArg (fun z => z 1 y1) (gset_at _ _ _)) dX6_changes_85 ?_
      have hm12 : hIn (P1 1 y1) := hIn_rd hh.2.1 (gset_at _ _ _) (by decide)
      obtain ⟨g13, h⟩ := h
      refine iv_iast (S' := (gset S 10 (aset P1 2 ((273 * (P1 0 3)) + y1) (P1 1 y1)))) hx hb hK hinj hh (ia_10_2) g13 hm12 (by rw [show (gset S 10 P1) 10 = P1 from (gset_at _ _ _)]; exact (gset_gset _ _ _ _)) dX6_changes_86 (fun H locs hh => ?_)
      refine iv_iinc (lv' := [(1, .int (hI (y1 + 1))), (0, .ref (ad 10 0))]) hx hb dX6_changes_87 hl (k := 1) rfl (v := (y1 + 1)) rfl (by decide) rfl (fun ls hl => ?_)
      refine lv_goto (tgt := 59) hx hb dX6_changes_90 (by decide) ?_
      exact h H _ ls hh (lv_sub hl [1, 0] rfl)
  intro H locs ls hh hl
  have hl : lv_has ls 2 [(0, .ref (ad 10 0))] := hl
  replace hh : hH D ad cI cJ cF (gset S 10 P) s H locs := by rw [← can1 hP]; exact hh
  have h := x_X6_changes P (fun i k hi => hIn_rd hh.2.1 (gset_at _ _ _) hi) hp (fun y1 P1 => (hAt D ad cI cJ cF p l e ({ frames := 0, cells := 0, slots := 0, locals := 0 } : Room) s m args below meth c (MQ below (hQv D ad cI cJ cF (gset S 10 (m_X6_changes P))) args s 0 0 (hAd ad)) 2 18 [(0, .ref (ad 10 0)), (1, .int (hI y1))] (gset S 10 P1))) (fun y1 P1 => (hAt D ad cI cJ cF p l e ({ frames := 0, cells := 0, slots := 0, locals := 0 } : Room) s m args below meth c (MQ below (hQv D ad cI cJ cF (gset S 10 (m_X6_changes P))) args s 0 0 (hAd ad)) 2 59 [(0, .ref (ad 10 0)), (1, .int (hI y1))] (gset S 10 P1))) (fun P1 => (P1 = m_X6_changes P)) r18 r59 rfl
  refine lv_aload_n hx hb dX6_changes_0 rfl (lv_at hl 0 rfl) ?_
  refine iv_get (v' := .int (hI (P 0 4))) hx hb hts inX6 hown hK hh.1 (ob_Model) rfl 4 (by decide) (hts _ q3_164) rfl rfl (congrArg (fun z => Value.int (hI (z 0 4))) (gset_at _ _ _)) dX6_changes_1 ?_
  have hm14 : hIn (P 0 4) := hIn_rd hh.2.1 (gset_at _ _ _) (by decide)
  refine iv_if_eq (tgt := 8) hx hb hm14 dX6_changes_4 (by decide) (fun c15 => ?_) (fun c15 => ?_)
  · have h := h.1 c15
    refine lv_aload_n hx hb dX6_changes_8 rfl (lv_at hl 0 rfl) ?_
    refine iv_get (v' := .int (hI (P 0 3))) hx hb hts inX6 hown hK hh.1 (ob_Model) rfl 3 (by decide) (hts _ q3_163) rfl rfl (congrArg (fun z => Value.int (hI (z 0 3))) (gset_at _ _ _)) dX6_changes_9 ?_
    have hm16 : hIn (P 0 3) := hIn_rd hh.2.1 (gset_at _ _ _) (by decide)
    refine iv_iconst hx hb dX6_changes_12 ?_
    refine iv_icmp_ne (tgt := 57) hx hb hm16 ⟨by decide, by decide⟩ dX6_changes_13 (by decide) (fun c17 => ?_) (fun c17 => ?_)
    · have h := h.2 c17
      refine iv_iconst hx hb dX6_changes_57 ?_
      refine lv_istore_n (lv' := [(1, .int (hI 0)), (0, .ref (ad 10 0))]) hx hb dX6_changes_58 rfl hl (by decide) rfl (fun ls hl => ?_)
      exact h H _ ls hh (lv_sub hl [1, 0] rfl)
    · have h := h.1 c17
      refine iv_iconst hx hb dX6_changes_16 ?_
      refine lv_istore_n (lv' := [(1, .int (hI 0)), (0, .ref (ad 10 0))]) hx hb dX6_changes_17 rfl hl (by decide) rfl (fun ls hl => ?_)
      exact h H _ ls hh (lv_sub hl [1, 0] rfl)
  · have h := h.2 c15
    exact iv_vret E hh (by rw [← h]) dX6_changes_7
set_option maxHeartbeats 4000000 in
set_option maxRecDepth 100000 in
theorem ok_X6_isSize (l : Launch) (hinj : hInj ad) (S : hS) (size : Int) (h_size : hIn size) : hMi D ad cI cJ cF l yX6_isSize cX6_isSize 1 (some .boolean) ({ frames := 1, cells := 0, slots := 0, locals := 22 } : Room) [.int (hI size)] S (v_X6_isSize size) S := by
  refine hOf (S := S) l hinj (by decide +kernel) (Nat.le_of_ble_eq_true rfl) (fun p e s m args below meth c E => ?_)
  obtain ⟨hx, hb, hml, hown, hts, hK, hN, -, hr, hlk⟩ := id E
  have hown : s.vm.findClass RX6 = some m.cls := hown
  intro H locs ls hh hl
  have hl : lv_has ls 1 [(0, .int (hI size))] := hl
  refine lv_iload_n hx hb dX6_isSize_0 rfl (lv_at hl 0 rfl) ?_
  refine lv_bipush (v := hI 6) hx hb dX6_isSize_1 (by decide) ?_
  refine lv_bipush (v := hI 48) hx hb dX6_isSize_3 (by decide) ?_
  refine iv_ki (iv_rS (As := [.int (hI size), .int (hI 6), .int (hI 48)]) (rest := []) E hh (ok_X6_in l hinj S size 6 48 h_size ⟨by decide, by decide⟩ ⟨by decide, by decide⟩) cb_X6_in q3_216 rfl rfl ⟨Nat.le_of_ble_eq_true rfl, Nat.le_of_ble_eq_true rfl⟩ rfl hl.1 rfl (Nat.le_of_ble_eq_true rfl) dX6_isSize_5 ⟨Nat.zero_le _, Nat.zero_le _⟩) hh (fun hc1 H locs hh => ?_)
  exact iv_bret E hh rfl (by rw [← show (v_X6_in size 6 48) = v_X6_isSize size from rfl]; exact (z_X6_in size 6 48)) rfl dX6_isSize_8
set_option maxHeartbeats 4000000 in
set_option maxRecDepth 100000 in
theorem ok_X6_isGlyph (l : Launch) (hinj : hInj ad) (S : hS) (P : hGM) (hP : S 10 = P) (g1 : Int) (h_g1 : hIn g1) : hMi D ad cI cJ cF l yX6_isGlyph cX6_isGlyph 2 (some .boolean) ({ frames := 0, cells := 0, slots := 0, locals := 0 } : Room) [.ref (ad 10 0), .int (hI g1)] S (v_X6_isGlyph P g1) S := by
  refine hOf (S := S) l hinj (by decide +kernel) (Nat.le_of_ble_eq_true rfl) (fun p e s m args below meth c E => ?_)
  obtain ⟨hx, hb, hml, hown, hts, hK, hN, -, hr, hlk⟩ := id E
  have hown : s.vm.findClass RX6 = some m.cls := hown
  intro H locs ls hh hl
  have hl : lv_has ls 2 [(0, .ref (ad 10 0)), (1, .int (hI g1))] := hl
  refine lv_iload_n hx hb dX6_isGlyph_0 rfl (lv_at hl 1 rfl) ?_
  refine iv_if_lt (tgt := 18) hx hb h_g1 dX6_isGlyph_1 (by decide) (fun c1 => ?_) (fun c1 => ?_)
  · refine iv_iconst hx hb dX6_isGlyph_18 ?_
    exact iv_bret E hh (by unfold v_X6_isGlyph; rw [if_pos c1]) (by rw [← show 0 = v_X6_isGlyph P g1 from (by unfold v_X6_isGlyph; rw [if_pos c1])]; exact (Or.inl rfl)) rfl dX6_isGlyph_19
  · refine lv_iload_n hx hb dX6_isGlyph_4 rfl (lv_at hl 1 rfl) ?_
    refine lv_aload_n hx hb dX6_isGlyph_5 rfl (lv_at hl 0 rfl) ?_
    refine iv_get (v' := .ref (ad 10 1)) hx hb hts inX6 hown hK hh.1 (ob_Model) rfl 0 (by decide) (hts _ q3_160) rfl rfl rfl dX6_isGlyph_6 ?_
    refine iv_iconst hx hb dX6_isGlyph_9 ?_
    refine iv_iald hx hb hK hh.1 (ia_10_1) ⟨by decide, by decide⟩ (v := (P 1 0)) (congrArg (fun z => z 1 0) hP) dX6_isGlyph_10 ?_
    have hm2 : hIn (P 1 0) := hIn_rd hh.2.1 hP (by decide)
    refine iv_icmp_ge (tgt := 18) hx hb h_g1 hm2 dX6_isGlyph_11 (by decide) (fun c3 => ?_) (fun c3 => ?_)
    · refine iv_iconst hx hb dX6_isGlyph_18 ?_
      exact iv_bret E hh (by unfold v_X6_isGlyph; rw [if_neg c1, if_neg c3]) (by rw [← show 0 = v_X6_isGlyph P g1 from (by unfold v_X6_isGlyph; rw [if_neg c1, if_neg c3])]; exact (Or.inl rfl)) rfl dX6_isGlyph_19
    · refine iv_iconst hx hb dX6_isGlyph_14 ?_
      refine lv_goto (tgt := 19) hx hb dX6_isGlyph_15 (by decide) ?_
      exact iv_bret E hh (by unfold v_X6_isGlyph; rw [if_neg c1, if_pos c3]) (by rw [← show 1 = v_X6_isGlyph P g1 from (by unfold v_X6_isGlyph; rw [if_neg c1, if_pos c3])]; exact (Or.inr rfl)) rfl dX6_isGlyph_19
set_option maxHeartbeats 4000000 in
set_option maxRecDepth 100000 in
theorem ok_X6_of (l : Launch) (hinj : hInj ad) (S : hS) (P : hGM) (hP : S 10 = P) (glyph : Int) (what : Int) (h_glyph : hIn glyph) (h_what : hIn what) (hp : p_X6_of P glyph what) : hMi D ad cI cJ cF l yX6_of cX6_of 3 (some .int) ({ frames := 0, cells := 0, slots := 0, locals := 0 } : Room) [.ref (ad 10 0), .int (hI glyph), .int (hI what)] S (v_X6_of P glyph what) S := by
  refine hOf (S := S) l hinj (by decide +kernel) (Nat.le_of_ble_eq_true rfl) (fun p e s m args below meth c E => ?_)
  obtain ⟨hx, hb, hml, hown, hts, hK, hN, -, hr, hlk⟩ := id E
  have hown : s.vm.findClass RX6 = some m.cls := hown
  intro H locs ls hh hl
  have hl : lv_has ls 3 [(0, .ref (ad 10 0)), (1, .int (hI glyph)), (2, .int (hI what))] := hl
  have h := hp
  unfold p_X6_of at h
  refine lv_aload_n hx hb dX6_of_0 rfl (lv_at hl 0 rfl) ?_
  refine iv_get (v' := .ref (ad 10 1)) hx hb hts inX6 hown hK hh.1 (ob_Model) rfl 0 (by decide) (hts _ q3_160) rfl rfl rfl dX6_of_1 ?_
  refine lv_bipush (v := hI 9) hx hb dX6_of_4 (by decide) ?_
  refine lv_bipush (v := hI 20) hx hb dX6_of_6 (by decide) ?_
  refine lv_iload_n hx hb dX6_of_8 rfl (lv_at hl 1 rfl) ?_
  refine iv_imul hx hb dX6_of_9 ?_
  refine iv_iadd hx hb dX6_of_10 ?_
  refine lv_iload_n hx hb dX6_of_11 rfl (lv_at hl 2 rfl) ?_
  refine iv_iadd hx hb dX6_of_12 ?_
  obtain ⟨g1, h⟩ := h
  refine iv_iald hx hb hK hh.1 (ia_10_1) g1 (v := (P 1 ((9 + (20 * glyph)) + what))) (congrArg (fun z => z 1 ((9 + (20 * glyph)) + what)) hP) dX6_of_13 ?_
  have hm2 : hIn (P 1 ((9 + (20 * glyph)) + what)) := hIn_rd hh.2.1 hP (by decide)
  exact iv_iret E hh rfl (by rw [← show (P 1 ((9 + (20 * glyph)) + what)) = v_X6_of P glyph what from rfl]; exact hm2) rfl dX6_of_14
set_option maxHeartbeats 4000000 in
set_option maxRecDepth 100000 in
theorem ok_X6_isStem (l : Launch) (hinj : hInj ad) (S : hS) (P : hGM) (hP : S 10 = P) (glyph : Int) (stem : Int) (h_glyph : hIn glyph) (h_stem : hIn stem) (hp : p_X6_isStem P glyph stem) : hMi D ad cI cJ cF l yX6_isStem cX6_isStem 3 (some .boolean) ({ frames := 1, cells := 0, slots := 0, locals := 22 } : Room) [.ref (ad 10 0), .int (hI glyph), .int (hI stem)] S (v_X6_isStem P glyph stem) S := by
  refine hOf (S := S) l hinj (by decide +kernel) (Nat.le_of_ble_eq_true rfl) (fun p e s m args below meth c E => ?_)
  obtain ⟨hx, hb, hml, hown, hts, hK, hN, -, hr, hlk⟩ := id E
  have hown : s.vm.findClass RX6 = some m.cls := hown
  intro H locs ls hh hl
  have hl : lv_has ls 3 [(0, .ref (ad 10 0)), (1, .int (hI glyph)), (2, .int (hI stem))] := hl
  have h := hp
  unfold p_X6_isStem at h
  refine lv_aload_n hx hb dX6_isStem_0 rfl (lv_at hl 0 rfl) ?_
  refine lv_iload_n hx hb dX6_isStem_1 rfl (lv_at hl 1 rfl) ?_
  refine iv_ki (iv_rV (As := [.int (hI glyph)]) (rest := []) E hh (ok_X6_isGlyph l hinj S P hP glyph h_glyph) cb_X6_isGlyph q3_229 rfl rfl ⟨Nat.le_of_ble_eq_true rfl, Nat.le_of_ble_eq_true rfl⟩ (ob_Model) rfl rfl rfl hl.1 rfl (Nat.le_of_ble_eq_true rfl) dX6_isStem_2 ⟨Nat.zero_le _, Nat.zero_le _⟩) hh (fun hc1 H locs hh => ?_)
  refine iv_if_eq (tgt := 26) hx hb hc1 dX6_isStem_5 (by decide) (fun c2 => ?_) (fun c2 => ?_)
  · have h := h.1 c2
    refine iv_iconst hx hb dX6_isStem_26 ?_
    exact iv_bret E hh (by unfold v_X6_isStem; rw [if_pos c2]) (by rw [← show 0 = v_X6_isStem P glyph stem from (by unfold v_X6_isStem; rw [if_pos c2])]; exact (Or.inl rfl)) rfl dX6_isStem_27
  · have h := h.2 c2
    refine lv_iload_n hx hb dX6_isStem_8 rfl (lv_at hl 2 rfl) ?_
    refine iv_if_lt (tgt := 26) hx hb h_stem dX6_isStem_9 (by decide) (fun c3 => ?_) (fun c3 => ?_)
    · have h := h.1 c3
      refine iv_iconst hx hb dX6_isStem_26 ?_
      exact iv_bret E hh (by unfold v_X6_isStem; rw [if_neg c2, if_pos c3]) (by rw [← show 0 = v_X6_isStem P glyph stem from (by unfold v_X6_isStem; rw [if_neg c2, if_pos c3])]; exact (Or.inl rfl)) rfl dX6_isStem_27
    · have h := h.2 c3
      refine lv_iload_n hx hb dX6_isStem_12 rfl (lv_at hl 2 rfl) ?_
      refine lv_aload_n hx hb dX6_isStem_13 rfl (lv_at hl 0 rfl) ?_
      refine lv_iload_n hx hb dX6_isStem_14 rfl (lv_at hl 1 rfl) ?_
      refine iv_iconst hx hb dX6_isStem_15 ?_
      obtain ⟨g4, h⟩ := h
      refine iv_ki (iv_rV (As := [.int (hI glyph), .int (hI 1)]) (rest := [.int (hI stem)]) E hh (ok_X6_of l hinj S P hP glyph 1 h_glyph ⟨by decide, by decide⟩ g4) cb_X6_of q3_237 rfl rfl ⟨Nat.le_of_ble_eq_true rfl, Nat.le_of_ble_eq_true rfl⟩ (ob_Model) rfl rfl rfl hl.1 rfl (Nat.le_of_ble_eq_true rfl) dX6_isStem_16 ⟨Nat.zero_le _, Nat.zero_le _⟩) hh (fun hc5 H locs hh => ?_)
      refine iv_icmp_ge (tgt := 26) hx hb h_stem hc5 dX6_isStem_19 (by decide) (fun c6 => ?_) (fun c6 => ?_)
      · have h := h.2 c6
        refine iv_iconst hx hb dX6_isStem_26 ?_
        exact iv_bret E hh (by unfold v_X6_isStem; rw [if_neg c2, if_neg c3, if_neg c6]) (by rw [← show 0 = v_X6_isStem P glyph stem from (by unfold v_X6_isStem; rw [if_neg c2, if_neg c3, if_neg c6])]; exact (Or.inl rfl)) rfl dX6_isStem_27
      · have h := h.1 c6
        refine iv_iconst hx hb dX6_isStem_22 ?_
        refine lv_goto (tgt := 27) hx hb dX6_isStem_23 (by decide) ?_
        exact iv_bret E hh (by unfold v_X6_isStem; rw [if_neg c2, if_neg c3, if_pos c6]) (by rw [← show 1 = v_X6_isStem P glyph stem from (by unfold v_X6_isStem; rw [if_neg c2, if_neg c3, if_pos c6])]; exact (Or.inr rfl)) rfl dX6_isStem_27
set_option maxHeartbeats 4000000 in
set_option maxRecDepth 100000 in
theorem ok_X6_at (l : Launch) (hinj : hInj ad) (S : hS) (glyph : Int) (stem : Int) (what : Int) (h_glyph : hIn glyph) (h_stem : hIn stem) (h_what : hIn what) (hp : p_X6_at glyph stem what) : hMi D ad cI cJ cF l yX6_at cX6_at 3 (some .int) ({ frames := 0, cells := 0, slots := 0, locals := 0 } : Room) [.int (hI glyph), .int (hI stem), .int (hI what)] S (v_X6_at glyph stem what) S := by
  refine hOf (S := S) l hinj (by decide +kernel) (Nat.le_of_ble_eq_true rfl) (fun p e s m args below meth c E => ?_)
  obtain ⟨hx, hb, hml, hown, hts, hK, hN, -, hr, hlk⟩ := id E
  have hown : s.vm.findClass RX6 = some m.cls := hown
  intro H locs ls hh hl
  have hl : lv_has ls 3 [(0, .int (hI glyph)), (1, .int (hI stem)), (2, .int (hI what))] := hl
  have h := hp
  unfold p_X6_at at h
  refine lv_bipush (v := hI 9) hx hb dX6_at_0 (by decide) ?_
  refine lv_bipush (v := hI 20) hx hb dX6_at_2 (by decide) ?_
  refine lv_iload_n hx hb dX6_at_4 rfl (lv_at hl 0 rfl) ?_
  refine iv_imul hx hb dX6_at_5 ?_
  refine iv_iadd hx hb dX6_at_6 ?_
  refine iv_iconst hx hb dX6_at_7 ?_
  refine iv_iadd hx hb dX6_at_8 ?_
  refine iv_iconst hx hb dX6_at_9 ?_
  refine lv_iload_n hx hb dX6_at_10 rfl (lv_at hl 1 rfl) ?_
  refine iv_imul hx hb dX6_at_11 ?_
  refine iv_iadd hx hb dX6_at_12 ?_
  refine lv_iload_n hx hb dX6_at_13 rfl (lv_at hl 2 rfl) ?_
  refine iv_iadd hx hb dX6_at_14 ?_
  obtain ⟨g1, h⟩ := h
  exact iv_iret E hh rfl (by rw [← show ((((9 + (20 * glyph)) + 2) + (3 * stem)) + what) = v_X6_at glyph stem what from rfl]; exact g1) rfl dX6_at_15
set_option maxHeartbeats 4000000 in
set_option maxRecDepth 100000 in
theorem ok_X6_ofStem (l : Launch) (hinj : hInj ad) (S : hS) (P : hGM) (hP : S 10 = P) (glyph : Int) (stem : Int) (what : Int) (h_glyph : hIn glyph) (h_stem : hIn stem) (h_what : hIn what) (hp : p_X6_ofStem P glyph stem what) : hMi D ad cI cJ cF l yX6_ofStem cX6_ofStem 4 (some .int) ({ frames := 1, cells := 0, slots := 0, locals := 22 } : Room) [.ref (ad 10 0), .int (hI glyph), .int (hI stem), .int (hI what)] S (v_X6_ofStem P glyph stem what) S := by
  refine hOf (S := S) l hinj (by decide +kernel) (Nat.le_of_ble_eq_true rfl) (fun p e s m args below meth c E => ?_)
  obtain ⟨hx, hb, hml, hown, hts, hK, hN, -, hr, hlk⟩ := id E
  have hown : s.vm.findClass RX6 = some m.cls := hown
  intro H locs ls hh hl
  have hl : lv_has ls 4 [(0, .ref (ad 10 0)), (1, .int (hI glyph)), (2, .int (hI stem)), (3, .int (hI what))] := hl
  have h := hp
  unfold p_X6_ofStem at h
  refine lv_aload_n hx hb dX6_ofStem_0 rfl (lv_at hl 0 rfl) ?_
  refine iv_get (v' := .ref (ad 10 1)) hx hb hts inX6 hown hK hh.1 (ob_Model) rfl 0 (by decide) (hts _ q3_160) rfl rfl rfl dX6_ofStem_1 ?_
  refine lv_iload_n hx hb dX6_ofStem_4 rfl (lv_at hl 1 rfl) ?_
  refine lv_iload_n hx hb dX6_ofStem_5 rfl (lv_at hl 2 rfl) ?_
  refine lv_iload_n hx hb dX6_ofStem_6 rfl (lv_at hl 3 rfl) ?_
  obtain ⟨g1, h⟩ := h
  refine iv_ki (iv_rS (As := [.int (hI glyph), .int (hI stem), .int (hI what)]) (rest := [.ref (ad 10 1)]) E hh (ok_X6_at l hinj S glyph stem what h_glyph h_stem h_what g1) cb_X6_at q4_5 rfl rfl ⟨Nat.le_of_ble_eq_true rfl, Nat.le_of_ble_eq_true rfl⟩ rfl hl.1 rfl (Nat.le_of_ble_eq_true rfl) dX6_ofStem_7 ⟨Nat.zero_le _, Nat.zero_le _⟩) hh (fun hc2 H locs hh => ?_)
  obtain ⟨g3, h⟩ := h
  refine iv_iald hx hb hK hh.1 (ia_10_1) g3 (v := (P 1 (v_X6_at glyph stem what))) (congrArg (fun z => z 1 (v_X6_at glyph stem what)) hP) dX6_ofStem_10 ?_
  have hm4 : hIn (P 1 (v_X6_at glyph stem what)) := hIn_rd hh.2.1 hP (by decide)
  exact iv_iret E hh rfl (by rw [← show (P 1 (v_X6_at glyph stem what)) = v_X6_ofStem P glyph stem what from rfl]; exact hm4) rfl dX6_ofStem_11
set_option maxHeartbeats 4000000 in
set_option maxRecDepth 100000 in
theorem ok_X6_endOf (l : Launch) (hinj : hInj ad) (S : hS) (P : hGM) (hP : S 10 = P) (glyph : Int) (stem : Int) (h_glyph : hIn glyph) (h_stem : hIn stem) (hp : p_X6_endOf P glyph stem) : hMi D ad cI cJ cF l yX6_endOf cX6_endOf 3 (some .int) ({ frames := 2, cells := 0, slots := 0, locals := 45 } : Room) [.ref (ad 10 0), .int (hI glyph), .int (hI stem)] S (v_X6_endOf P glyph stem) S := by
  refine hOf (S := S) l hinj (by decide +kernel) (Nat.le_of_ble_eq_true rfl) (fun p e s m args below meth c E => ?_)
  obtain ⟨hx, hb, hml, hown, hts, hK, hN, -, hr, hlk⟩ := id E
  have hown : s.vm.findClass RX6 = some m.cls := hown
  intro H locs ls hh hl
  have hl : lv_has ls 3 [(0, .ref (ad 10 0)), (1, .int (hI glyph)), (2, .int (hI stem))] := hl
  have h := hp
  unfold p_X6_endOf at h
  refine lv_aload_n hx hb dX6_endOf_0 rfl (lv_at hl 0 rfl) ?_
  refine lv_iload_n hx hb dX6_endOf_1 rfl (lv_at hl 1 rfl) ?_
  refine lv_iload_n hx hb dX6_endOf_2 rfl (lv_at hl 2 rfl) ?_
  refine iv_iconst hx hb dX6_endOf_3 ?_
  obtain ⟨g1, h⟩ := h
  refine iv_ki (iv_rV (As := [.int (hI glyph), .int (hI stem), .int (hI 0)]) (rest := []) E hh (ok_X6_ofStem l hinj S P hP glyph stem 0 h_glyph h_stem ⟨by decide, by decide⟩ g1) cb_X6_ofStem q4_1 rfl rfl ⟨Nat.le_of_ble_eq_true rfl, Nat.le_of_ble_eq_true rfl⟩ (ob_Model) rfl rfl rfl hl.1 rfl (Nat.le_of_ble_eq_true rfl) dX6_endOf_4 ⟨Nat.zero_le _, Nat.zero_le _⟩) hh (fun hc2 H locs hh => ?_)
  refine lv_aload_n hx hb dX6_endOf_7 rfl (lv_at hl 0 rfl) ?_
  refine lv_iload_n hx hb dX6_endOf_8 rfl (lv_at hl 1 rfl) ?_
  refine lv_iload_n hx hb dX6_endOf_9 rfl (lv_at hl 2 rfl) ?_
  refine iv_iconst hx hb dX6_endOf_10 ?_
  obtain ⟨g3, h⟩ := h
  refine iv_ki (iv_rV (As := [.int (hI glyph), .int (hI stem), .int (hI 1)]) (rest := [.int (hI (v_X6_ofStem P glyph stem 0))]) E hh (ok_X6_ofStem l hinj S P hP glyph stem 1 h_glyph h_stem ⟨by decide, by decide⟩ g3) cb_X6_ofStem q4_1 rfl rfl ⟨Nat.le_of_ble_eq_true rfl, Nat.le_of_ble_eq_true rfl⟩ (ob_Model) rfl rfl rfl hl.1 rfl (Nat.le_of_ble_eq_true rfl) dX6_endOf_11 ⟨Nat.zero_le _, Nat.zero_le _⟩) hh (fun hc4 H locs hh => ?_)
  refine iv_iadd hx hb dX6_endOf_14 ?_
  obtain ⟨g5, h⟩ := h
  exact iv_iret E hh rfl (by rw [← show ((v_X6_ofStem P glyph stem 0) + (v_X6_ofStem P glyph stem 1)) = v_X6_endOf P glyph stem from rfl]; exact g5) rfl dX6_endOf_15
set_option maxHeartbeats 4000000 in
set_option maxRecDepth 100000 in
theorem ok_X6_glyph (l : Launch) (hinj : hInj ad) (S : hS) (P : hGM) (hP : S 10 = P) (advance : Int) (h_advance : hIn advance) (hp : p_X6_glyph P advance) : hMi D ad cI cJ cF l yX6_glyph cX6_glyph 3 (some .int) ({ frames := 1, cells := 0, slots := 0, locals := 22 } : Room) [.ref (ad 10 0), .int (hI advance)] S (v_X6_glyph P advance) (gset S 10 (m_X6_glyph P advance)) := by
  refine hOf (S := S) l hinj (by decide +kernel) (Nat.le_of_ble_eq_true rfl) (fun p e s m args below meth c E => ?_)
  obtain ⟨hx, hb, hml, hown, hts, hK, hN, -, hr, hlk⟩ := id E
  have hown : s.vm.findClass RX6 = some m.cls := hown
  intro H locs ls hh hl
  have hl : lv_has ls 3 [(0, .ref (ad 10 0)), (1, .int (hI advance))] := hl
  replace hh : hH D ad cI cJ cF (gset S 10 P) s H locs := by rw [← can1 hP]; exact hh
  have h := hp
  unfold p_X6_glyph at h
  refine lv_iload_n hx hb dX6_glyph_0 rfl (lv_at hl 1 rfl) ?_
  refine lv_bipush (v := hI 100) hx hb dX6_glyph_1 (by decide) ?_
  refine lv_sipush (v := hI 1500) hx hb dX6_glyph_3 (by decide) ?_
  refine iv_ki (iv_rS (As := [.int (hI advance), .int (hI 100), .int (hI 1500)]) (rest := []) E hh (ok_X6_in l hinj (gset S 10 P) advance 100 1500 h_advance ⟨by decide, by decide⟩ ⟨by decide, by decide⟩) cb_X6_in q3_216 rfl rfl ⟨Nat.le_of_ble_eq_true rfl, Nat.le_of_ble_eq_true rfl⟩ rfl hl.1 rfl (Nat.le_of_ble_eq_true rfl) dX6_glyph_6 ⟨Nat.zero_le _, Nat.zero_le _⟩) hh (fun hc1 H locs hh => ?_)
  refine iv_if_ne (tgt := 15) hx hb hc1 dX6_glyph_9 (by decide) (fun c2 => ?_) (fun c2 => ?_)
  · have h := h.2 c2
    refine lv_aload_n hx hb dX6_glyph_15 rfl (lv_at hl 0 rfl) ?_
    refine iv_get (v' := .ref (ad 10 1)) hx hb hts inX6 hown hK hh.1 (ob_Model) rfl 0 (by decide) (hts _ q3_160) rfl rfl rfl dX6_glyph_16 ?_
    refine iv_iconst hx hb dX6_glyph_19 ?_
    refine iv_iald hx hb hK hh.1 (ia_10_1) ⟨by decide, by decide⟩ (v := (P 1 0)) (congrArg (fun z => z 1 0) (gset_at _ _ _)) dX6_glyph_20 ?_
    have hm3 : hIn (P 1 0) := hIn_rd hh.2.1 (gset_at _ _ _) (by decide)
    refine lv_istore_n (lv' := [(2, .int (hI (P 1 0))), (0, .ref (ad 10 0)), (1, .int (hI advance))]) hx hb dX6_glyph_21 rfl hl (by decide) rfl (fun ls hl => ?_)
    refine lv_iload_n hx hb dX6_glyph_22 rfl (lv_at hl 0 rfl) ?_
    refine lv_bipush (v := hI 8) hx hb dX6_glyph_23 (by decide) ?_
    refine iv_icmp_ne (tgt := 31) hx hb hm3 ⟨by decide, by decide⟩ dX6_glyph_25 (by decide) (fun c4 => ?_) (fun c4 => ?_)
    · have h := h.2 c4
      refine lv_aload_n hx hb dX6_glyph_31 rfl (lv_at hl 1 rfl) ?_
      obtain ⟨g5, h⟩ := h
      refine iv_kv (iv_rV (As := []) (rest := []) E hh (ok_X6_changes l hinj (gset S 10 P) P (gset_at _ _ _) g5) cb_X6_changes q3_221 rfl rfl ⟨Nat.le_of_ble_eq_true rfl, Nat.le_of_ble_eq_true rfl⟩ (ob_Model) rfl rfl rfl hl.1 rfl (Nat.le_of_ble_eq_true rfl) dX6_glyph_32 ⟨Nat.zero_le _, Nat.zero_le _⟩) hh (fun H locs hh => ?_)
      replace hh : hH D ad cI cJ cF (gset S 10 (m_X6_changes P)) s H locs := by rw [← show _ = (gset S 10 (m_X6_changes P)) from (gset_gset _ _ _ _)]; exact hh
      refine lv_aload_n hx hb dX6_glyph_35 rfl (lv_at hl 1 rfl) ?_
      refine iv_get (v' := .ref (ad 10 1)) hx hb hts inX6 hown hK hh.1 (ob_Model) rfl 0 (by decide) (hts _ q3_160) rfl rfl rfl dX6_glyph_36 ?_
      refine lv_bipush (v := hI 9) hx hb dX6_glyph_39 (by decide) ?_
      refine lv_bipush (v := hI 20) hx hb dX6_glyph_41 (by decide) ?_
      refine lv_iload_n hx hb dX6_glyph_43 rfl (lv_at hl 0 rfl) ?_
      refine iv_imul hx hb dX6_glyph_44 ?_
      refine iv_iadd hx hb dX6_glyph_45 ?_
      refine iv_iconst hx hb dX6_glyph_46 ?_
      refine iv_iadd hx hb dX6_glyph_47 ?_
      refine lv_iload_n hx hb dX6_glyph_48 rfl (lv_at hl 2 rfl) ?_
      obtain ⟨g6, h⟩ := h
      refine iv_iast (S' := (gset S 10 (aset (m_X6_changes P) 1 ((9 + (20 * (P 1 0))) + 0) advance))) hx hb hK hinj hh (ia_10_1) g6 h_advance (by rw [show (gset S 10 (m_X6_changes P)) 10 = (m_X6_changes P) from (gset_at _ _ _)]; exact (gset_gset _ _ _ _)) dX6_glyph_49 (fun H locs hh => ?_)
      refine lv_aload_n hx hb dX6_glyph_50 rfl (lv_at hl 1 rfl) ?_
      refine iv_get (v' := .ref (ad 10 1)) hx hb hts inX6 hown hK hh.1 (ob_Model) rfl 0 (by decide) (hts _ q3_160) rfl rfl rfl dX6_glyph_51 ?_
      refine lv_bipush (v := hI 9) hx hb dX6_glyph_54 (by decide) ?_
      refine lv_bipush (v := hI 20) hx hb dX6_glyph_56 (by decide) ?_
      refine lv_iload_n hx hb dX6_glyph_58 rfl (lv_at hl 0 rfl) ?_
      refine iv_imul hx hb dX6_glyph_59 ?_
      refine iv_iadd hx hb dX6_glyph_60 ?_
      refine iv_iconst hx hb dX6_glyph_61 ?_
      refine iv_iadd hx hb dX6_glyph_62 ?_
      refine iv_iconst hx hb dX6_glyph_63 ?_
      obtain ⟨g7, h⟩ := h
      refine iv_iast (S' := (gset S 10 (aset (aset (m_X6_changes P) 1 ((9 + (20 * (P 1 0))) + 0) advance) 1 ((9 + (20 * (P 1 0))) + 1) 0))) hx hb hK hinj hh (ia_10_1) g7 ⟨by decide, by decide⟩ (by rw [show (gset S 10 (aset (m_X6_changes P) 1 ((9 + (20 * (P 1 0))) + 0) advance)) 10 = (aset (m_X6_changes P) 1 ((9 + (20 * (P 1 0))) + 0) advance) from (gset_at _ _ _)]; exact (gset_gset _ _ _ _)) dX6_glyph_64 (fun H locs hh => ?_)
      refine lv_aload_n hx hb dX6_glyph_65 rfl (lv_at hl 1 rfl) ?_
      refine iv_get (v' := .ref (ad 10 1)) hx hb hts inX6 hown hK hh.1 (ob_Model) rfl 0 (by decide) (hts _ q3_160) rfl rfl rfl dX6_glyph_66 ?_
      refine iv_iconst hx hb dX6_glyph_69 ?_
      refine lv_dup2_11 hx hb dX6_glyph_70 rfl rfl ?_
      refine iv_iald hx hb hK hh.1 (ia_10_1) ⟨by decide, by decide⟩ (v := ((aset (aset (m_X6_changes P) 1 ((9 + (20 * (P 1 0))) + 0) advance) 1 ((9 + (20 * (P 1 0))) + 1) 0) 1 0)) (congrArg (fun z => z 1 0) (gset_at _ _ _)) dX6_glyph_71 ?_
      have hm8 : hIn ((aset (aset (m_X6_changes P) 1 ((9 + (20 * (P 1 0))) + 0) advance) 1 ((9 + (20 * (P 1 0))) + 1) 0) 1 0) := hIn_rd hh.2.1 (gset_at _ _ _) (by decide)
      refine iv_iconst hx hb dX6_glyph_72 ?_
      refine iv_iadd hx hb dX6_glyph_73 ?_
      obtain ⟨g9, h⟩ := h
      refine iv_iast (S' := (gset S 10 (aset (aset (aset (m_X6_changes P) 1 ((9 + (20 * (P 1 0))) + 0) advance) 1 ((9 + (20 * (P 1 0))) + 1) 0) 1 0 (((aset (aset (m_X6_changes P) 1 ((9 + (20 * (P 1 0))) + 0) advance) 1 ((9 + (20 * (P 1 0))) + 1) 0) 1 0) + 1)))) hx hb hK hinj hh (ia_10_1) ⟨by decide, by decide⟩ g9 (by rw [show (gset S 10 (aset (aset (m_X6_changes P) 1 ((9 + (20 * (P 1 0))) + 0) advance) 1 ((9 + (20 * (P 1 0))) + 1) 0)) 10 = (aset (aset (m_X6_changes P) 1 ((9 + (20 * (P 1 0))) + 0) advance) 1 ((9 + (20 * (P 1 0))) + 1) 0) from (gset_at _ _ _)]; exact (gset_gset _ _ _ _)) dX6_glyph_74 (fun H locs hh => ?_)
      refine lv_iload_n hx hb dX6_glyph_75 rfl (lv_at hl 0 rfl) ?_
      exact iv_iret E hh (by unfold v_X6_glyph; rw [if_neg c2, if_neg c4]) (by rw [← show (P 1 0) = v_X6_glyph P advance from (by unfold v_X6_glyph; rw [if_neg c2, if_neg c4])]; exact hm3) (by unfold m_X6_glyph; rw [if_neg c2, if_neg c4]) dX6_glyph_76
    · have h := h.1 c4
      refine iv_ldc (n := (-1000003)) hx hb (by decide) hown (hts _ q3_220) dX6_glyph_28 ?_
      exact iv_iret E hh (by unfold v_X6_glyph; rw [if_neg c2, if_pos c4]) (by rw [← show (-1000003) = v_X6_glyph P advance from (by unfold v_X6_glyph; rw [if_neg c2, if_pos c4])]; exact ⟨by decide, by decide⟩) (by unfold m_X6_glyph; rw [if_neg c2, if_pos c4]) dX6_glyph_30
  · have h := h.1 c2
    refine iv_ldc (n := (-1000001)) hx hb (by decide) hown (hts _ q3_219) dX6_glyph_12 ?_
    exact iv_iret E hh (by unfold v_X6_glyph; rw [if_pos c2]) (by rw [← show (-1000001) = v_X6_glyph P advance from (by unfold v_X6_glyph; rw [if_pos c2])]; exact ⟨by decide, by decide⟩) (by unfold m_X6_glyph; rw [if_pos c2]) dX6_glyph_14
set_option maxHeartbeats 4000000 in
set_option maxRecDepth 100000 in
theorem ok_X6_ahead (l : Launch) (hinj : hInj ad) (S : hS) (P : hGM) (hP : S 10 = P) (glyph : Int) (place : Int) (h_glyph : hIn glyph) (h_place : hIn place) (hp : p_X6_ahead P glyph place) : hMi D ad cI cJ cF l yX6_ahead cX6_ahead 4 (some .int) ({ frames := 2, cells := 0, slots := 0, locals := 45 } : Room) [.ref (ad 10 0), .int (hI glyph), .int (hI place)] S (v_X6_ahead P glyph place) S := by
  refine hOf (S := S) l hinj (by decide +kernel) (Nat.le_of_ble_eq_true rfl) (fun p e s m args below meth c E => ?_)
  obtain ⟨hx, hb, hml, hown, hts, hK, hN, -, hr, hlk⟩ := id E
  have hown : s.vm.findClass RX6 = some m.cls := hown
  have r2 : ∀ (y3 : Int), hIn y3 → ((p_X6_of P glyph 1 ∧ ((y3 < (v_X6_of P glyph 1) → (p_X6_ofStem P glyph y3 0 ∧ (((v_X6_ofStem P glyph y3 0) < place → (hAt D ad cI cJ cF p l e ({ frames := 2, cells := 0, slots := 0, locals := 45 } : Room) s m args below meth c (MQ below (hQi D ad cI cJ cF (v_X6_ahead P glyph place) S) args s 0 0 (hAd ad)) 4 2 [(0, .ref (ad 10 0)), (1, .int (hI glyph)), (2, .int (hI place)), (3, .int (hI (y3 + 1)))] S)) ∧ (¬ (v_X6_ofStem P glyph y3 0) < place → (y3 = v_X6_ahead P glyph place))))) ∧ (¬ y3 < (v_X6_of P glyph 1) → (y3 = v_X6_ahead P glyph place))))) → (hAt D ad cI cJ cF p l e ({ frames := 2, cells := 0, slots := 0, locals := 45 } : Room) s m args below meth c (MQ below (hQi D ad cI cJ cF (v_X6_ahead P glyph place) S) args s 0 0 (hAd ad)) 4 2 [(0, .ref (ad 10 0)), (1, .int (hI glyph)), (2, .int (hI place)), (3, .int (hI y3))] S) := by
    intro y3 h_y3 h H locs ls hh hl
    refine lv_iload_n hx hb dX6_ahead_2 rfl (lv_at hl 3 rfl) ?_
    refine lv_aload_n hx hb dX6_ahead_3 rfl (lv_at hl 0 rfl) ?_
    refine lv_iload_n hx hb dX6_ahead_4 rfl (lv_at hl 1 rfl) ?_
    refine iv_iconst hx hb dX6_ahead_5 ?_
    obtain ⟨g1, h⟩ := h
    refine iv_ki (iv_rV (As := [.int (hI glyph), .int (hI 1)]) (rest := [.int (hI y3)]) E hh (ok_X6_of l hinj S P hP glyph 1 h_glyph ⟨by decide, by decide⟩ g1) cb_X6_of q3_237 rfl rfl ⟨Nat.le_of_ble_eq_true rfl, Nat.le_of_ble_eq_true rfl⟩ (ob_Model) rfl rfl rfl hl.1 rfl (Nat.le_of_ble_eq_true rfl) dX6_ahead_6 ⟨Nat.zero_le _, Nat.zero_le _⟩) hh (fun hc2 H locs hh => ?_)
    refine iv_icmp_ge (tgt := 29) hx hb h_y3 hc2 dX6_ahead_9 (by decide) (fun c3 => ?_) (fun c3 => ?_)
    · have h := h.2 c3
      refine lv_iload_n hx hb dX6_ahead_29 rfl (lv_at hl 3 rfl) ?_
      exact iv_iret E hh h (by rw [← h]; exact h_y3) rfl dX6_ahead_30
    · have h := h.1 c3
      refine lv_aload_n hx hb dX6_ahead_12 rfl (lv_at hl 0 rfl) ?_
      refine lv_iload_n hx hb dX6_ahead_13 rfl (lv_at hl 1 rfl) ?_
      refine lv_iload_n hx hb dX6_ahead_14 rfl (lv_at hl 3 rfl) ?_
      refine iv_iconst hx hb dX6_ahead_15 ?_
      obtain ⟨g4, h⟩ := h
      refine iv_ki (iv_rV (As := [.int (hI glyph), .int (hI y3), .int (hI 0)]) (rest := []) E hh (ok_X6_ofStem l hinj S P hP glyph y3 0 h_glyph h_y3 ⟨by decide, by decide⟩ g4) cb_X6_ofStem q4_1 rfl rfl ⟨Nat.le_of_ble_eq_true rfl, Nat.le_of_ble_eq_true rfl⟩ (ob_Model) rfl rfl rfl hl.1 rfl (Nat.le_of_ble_eq_true rfl) dX6_ahead_16 ⟨Nat.zero_le _, Nat.zero_le _⟩) hh (fun hc5 H locs hh => ?_)
      refine lv_iload_n hx hb dX6_ahead_19 rfl (lv_at hl 2 rfl) ?_
      refine iv_icmp_ge (tgt := 29) hx hb hc5 h_place dX6_ahead_20 (by decide) (fun c6 => ?_) (fun c6 => ?_)
      · have h := h.2 c6
        refine lv_iload_n hx hb dX6_ahead_29 rfl (lv_at hl 3 rfl) ?_
        exact iv_iret E hh h (by rw [← h]; exact h_y3) rfl dX6_ahead_30
      · have h := h.1 c6
        refine iv_iinc (lv' := [(3, .int (hI (y3 + 1))), (0, .ref (ad 10 0)), (1, .int (hI glyph)), (2, .int (hI place))]) hx hb dX6_ahead_23 hl (k := 3) rfl (v := (y3 + 1)) rfl (by decide) rfl (fun ls hl => ?_)
        refine lv_goto (tgt := 2) hx hb dX6_ahead_26 (by decide) ?_
        exact h H _ ls hh (lv_sub hl [1, 2, 3, 0] rfl)
  intro H locs ls hh hl
  have hl : lv_has ls 4 [(0, .ref (ad 10 0)), (1, .int (hI glyph)), (2, .int (hI place))] := hl
  have h := x_X6_ahead P glyph place h_glyph h_place (fun i k hi => hIn_rd hh.2.1 hP hi) hp (fun y3 => (hAt D ad cI cJ cF p l e ({ frames := 2, cells := 0, slots := 0, locals := 45 } : Room) s m args below meth c (MQ below (hQi D ad cI cJ cF (v_X6_ahead P glyph place) S) args s 0 0 (hAd ad)) 4 2 [(0, .ref (ad 10 0)), (1, .int (hI glyph)), (2, .int (hI place)), (3, .int (hI y3))] S)) (fun r => (r = v_X6_ahead P glyph place)) r2 rfl
  refine iv_iconst hx hb dX6_ahead_0 ?_
  refine lv_istore_n (lv' := [(3, .int (hI 0)), (0, .ref (ad 10 0)), (1, .int (hI glyph)), (2, .int (hI place))]) hx hb dX6_ahead_1 rfl hl (by decide) rfl (fun ls hl => ?_)
  exact h H _ ls hh (lv_sub hl [1, 2, 3, 0] rfl)
set_option maxHeartbeats 4000000 in
set_option maxRecDepth 100000 in
theorem ok_X6_stem (l : Launch) (hinj : hInj ad) (S : hS) (P : hGM) (hP : S 10 = P) (glyph : Int) (place : Int) (width : Int) (h_glyph : hIn glyph) (h_place : hIn place) (h_width : hIn width) (hp : p_X6_stem P glyph place width) : hMi D ad cI cJ cF l yX6_stem cX6_stem 8 (some .int) ({ frames := 3, cells := 0, slots := 0, locals := 68 } : Room) [.ref (ad 10 0), .int (hI glyph), .int (hI place), .int (hI width)] S (v_X6_stem P glyph place width) (gset S 10 (m_X6_stem P glyph place width)) := by
  refine hOf (S := S) l hinj (by decide +kernel) (Nat.le_of_ble_eq_true rfl) (fun p e s m args below meth c E => ?_)
  obtain ⟨hx, hb, hml, hown, hts, hK, hN, -, hr, hlk⟩ := id E
  have hown : s.vm.findClass RX6 = some m.cls := hown
  have r144 : ∀ (y4 : Int) (y7 : Int) (P1 : hGM), hIn y4 → hIn y7 → ((∀ (i : Nat) (k : Int), i < 100 → hIn (P1 i k)) → (p_X6_at glyph y4 0 ∧ ((y7 < (v_X6_at glyph y4 0) → ((0 ≤ (v_X6_at glyph y4 0) ∧ (v_X6_at glyph y4 0) < 273) ∧ (p_X6_at glyph y4 1 ∧ ((0 ≤ (v_X6_at glyph y4 1) ∧ (v_X6_at glyph y4 1) < 273) ∧ (p_X6_at glyph y4 2 ∧ ((0 ≤ (v_X6_at glyph y4 2) ∧ (v_X6_at glyph y4 2) < 273) ∧ ((0 ≤ ((9 + (20 * glyph)) + 1) ∧ ((9 + (20 * glyph)) + 1) < 273) ∧ (hIn (((aset (aset (aset P1 1 (v_X6_at glyph y4 0) place) 1 (v_X6_at glyph y4 1) width) 1 (v_X6_at glyph y4 2) 0) 1 ((9 + (20 * glyph)) + 1)) + 1) ∧ (y4 = v_X6_stem P glyph place width ∧ (aset (aset (aset (aset P1 1 (v_X6_at glyph y4 0) place) 1 (v_X6_at glyph y4 1) width) 1 (v_X6_at glyph y4 2) 0) 1 ((9 + (20 * glyph)) + 1) (((aset (aset (aset P1 1 (v_X6_at glyph y4 0) place) 1 (v_X6_at glyph y4 1) width) 1 (v_X6_at glyph y4 2) 0) 1 ((9 + (20 * glyph)) + 1)) + 1)) = m_X6_stem P glyph place width))))))))) ∧ (¬ y7 < (v_X6_at glyph y4 0) → ((0 ≤ y7 ∧ y7 < 273) ∧ ((0 ≤ (y7 + 3) ∧ (y7 + 3) < 273) ∧ (hAt D ad cI cJ cF p l e ({ frames := 3, cells := 0, slots := 0, locals := 68 } : Room) s m args below meth c (MQ below (hQi D ad cI cJ cF (v_X6_stem P glyph place width) (gset S 10 (m_X6_stem P glyph place width))) args s 0 0 (hAd ad)) 8 144 [(0, .ref (ad 10 0)), (1, .int (hI glyph)), (2, .int (hI place)), (3, .int (hI width)), (4, .int (hI y4)), (7, .int (hI (y7 + (-1))))] (gset S 10 (aset P1 1 (y7 + 3) (P1 1 y7)))))))))) → (hAt D ad cI cJ cF p l e ({ frames := 3, cells := 0, slots := 0, locals := 68 } : Room) s m args below meth c (MQ below (hQi D ad cI cJ cF (v_X6_stem P glyph place width) (gset S 10 (m_X6_stem P glyph place width))) args s 0 0 (hAd ad)) 8 144 [(0, .ref (ad 10 0)), (1, .int (hI glyph)), (2, .int (hI place)), (3, .int (hI width)), (4, .int (hI y4)), (7, .int (hI y7))] (gset S 10 P1)) := by
    intro y4 y7 P1 h_y4 h_y7 h H locs ls hh hl
    have h := h (fun i k hi => hIn_rd hh.2.1 (gset_at _ _ _) hi)
    refine lv_iload hx hb dX6_stem_144 (lv_at hl 5 rfl) ?_
    refine lv_iload_n hx hb dX6_stem_146 rfl (lv_at hl 1 rfl) ?_
    refine lv_iload hx hb dX6_stem_147 (lv_at hl 4 rfl) ?_
    refine iv_iconst hx hb dX6_stem_149 ?_
    obtain ⟨g1, h⟩ := h
    refine iv_ki (iv_rS (As := [.int (hI glyph), .int (hI y4), .int (hI 0)]) (rest := [.int (hI y7)]) E hh (ok_X6_at l hinj (gset S 10 P1) glyph y4 0 h_glyph h_y4 ⟨by decide, by decide⟩ g1) cb_X6_at q4_5 rfl rfl ⟨Nat.le_of_ble_eq_true rfl, Nat.le_of_ble_eq_true rfl⟩ rfl hl.1 rfl (Nat.le_of_ble_eq_true rfl) dX6_stem_150 ⟨Nat.zero_le _, Nat.zero_le _⟩) hh (fun hc2 H locs hh => ?_)
    refine iv_icmp_lt (tgt := 178) hx hb h_y7 hc2 dX6_stem_153 (by decide) (fun c3 => ?_) (fun c3 => ?_)
    · have h := h.1 c3
      refine lv_aload_n hx hb dX6_stem_178 rfl (lv_at hl 0 rfl) ?_
      refine iv_get (v' := .ref (ad 10 1)) hx hb hts inX6 hown hK hh.1 (ob_Model) rfl 0 (by decide) (hts _ q3_160) rfl rfl rfl dX6_stem_179 ?_
      refine lv_iload_n hx hb dX6_stem_182 rfl (lv_at hl 1 rfl) ?_
      refine lv_iload hx hb dX6_stem_183 (lv_at hl 4 rfl) ?_
      refine iv_iconst hx hb dX6_stem_185 ?_
      refine iv_ki (iv_rS (As := [.int (hI glyph), .int (hI y4), .int (hI 0)]) (rest := [.ref (ad 10 1)]) E hh (ok_X6_at l hinj (gset S 10 P1) glyph y4 0 h_glyph h_y4 ⟨by decide, by decide⟩ g1) cb_X6_at q4_5 rfl rfl ⟨Nat.le_of_ble_eq_true rfl, Nat.le_of_ble_eq_true rfl⟩ rfl hl.1 rfl (Nat.le_of_ble_eq_true rfl) dX6_stem_186 ⟨Nat.zero_le _, Nat.zero_le _⟩) hh (fun hc4 H locs hh => ?_)
      refine lv_iload_n hx hb dX6_stem_189 rfl (lv_at hl 2 rfl) ?_
      obtain ⟨g5, h⟩ := h
      refine iv_iast (S' := (gset S 10 (aset P1 1 (v_X6_at glyph y4 0) place))) hx hb hK hinj hh (ia_10_1) g5 h_place (by rw [show (gset S 10 P1) 10 = P1 from (gset_at _ _ _)]; exact (gset_gset _ _ _ _)) dX6_stem_190 (fun H locs hh => ?_)
      refine lv_aload_n hx hb dX6_stem_191 rfl (lv_at hl 0 rfl) ?_
      refine iv_get (v' := .ref (ad 10 1)) hx hb hts inX6 hown hK hh.1 (ob_Model) rfl 0 (by decide) (hts _ q3_160) rfl rfl rfl dX6_stem_192 ?_
      refine lv_iload_n hx hb dX6_stem_195 rfl (lv_at hl 1 rfl) ?_
      refine lv_iload hx hb dX6_stem_196 (lv_at hl 4 rfl) ?_
      refine iv_iconst hx hb dX6_stem_198 ?_
      obtain ⟨g6, h⟩ := h
      refine iv_ki (iv_rS (As := [.int (hI glyph), .int (hI y4), .int (hI 1)]) (rest := [.ref (ad 10 1)]) E hh (ok_X6_at l hinj (gset S 10 (aset P1 1 (v_X6_at glyph y4 0) place)) glyph y4 1 h_glyph h_y4 ⟨by decide, by decide⟩ g6) cb_X6_at q4_5 rfl rfl ⟨Nat.le_of_ble_eq_true rfl, Nat.le_of_ble_eq_true rfl⟩ rfl hl.1 rfl (Nat.le_of_ble_eq_true rfl) dX6_stem_199 ⟨Nat.zero_le _, Nat.zero_le _⟩) hh (fun hc7 H locs hh => ?_)
      refine lv_iload_n hx hb dX6_stem_202 rfl (lv_at hl 3 rfl) ?_
      obtain ⟨g8, h⟩ := h
      refine iv_iast (S' := (gset S 10 (aset (aset P1 1 (v_X6_at glyph y4 0) place) 1 (v_X6_at glyph y4 1) width))) hx hb hK hinj hh (ia_10_1) g8 h_width (by rw [show (gset S 10 (aset P1 1 (v_X6_at glyph y4 0) place)) 10 = (aset P1 1 (v_X6_at glyph y4 0) place) from (gset_at _ _ _)]; exact (gset_gset _ _ _ _)) dX6_stem_203 (fun H locs hh => ?_)
      refine lv_aload_n hx hb dX6_stem_204 rfl (lv_at hl 0 rfl) ?_
      refine iv_get (v' := .ref (ad 10 1)) hx hb hts inX6 hown hK hh.1 (ob_Model) rfl 0 (by decide) (hts _ q3_160) rfl rfl rfl dX6_stem_205 ?_
      refine lv_iload_n hx hb dX6_stem_208 rfl (lv_at hl 1 rfl) ?_
      refine lv_iload hx hb dX6_stem_209 (lv_at hl 4 rfl) ?_
      refine iv_iconst hx hb dX6_stem_211 ?_
      obtain ⟨g9, h⟩ := h
      refine iv_ki (iv_rS (As := [.int (hI glyph), .int (hI y4), .int (hI 2)]) (rest := [.ref (ad 10 1)]) E hh (ok_X6_at l hinj (gset S 10 (aset (aset P1 1 (v_X6_at glyph y4 0) place) 1 (v_X6_at glyph y4 1) width)) glyph y4 2 h_glyph h_y4 ⟨by decide, by decide⟩ g9) cb_X6_at q4_5 rfl rfl ⟨Nat.le_of_ble_eq_true rfl, Nat.le_of_ble_eq_true rfl⟩ rfl hl.1 rfl (Nat.le_of_ble_eq_true rfl) dX6_stem_212 ⟨Nat.zero_le _, Nat.zero_le _⟩) hh (fun hc10 H locs hh => ?_)
      refine iv_iconst hx hb dX6_stem_215 ?_
      obtain ⟨g11, h⟩ := h
      refine iv_iast (S' := (gset S 10 (aset (aset (aset P1 1 (v_X6_at glyph y4 0) place) 1 (v_X6_at glyph y4 1) width) 1 (v_X6_at glyph y4 2) 0))) hx hb hK hinj hh (ia_10_1) g11 ⟨by decide, by decide⟩ (by rw [show (gset S 10 (aset (aset P1 1 (v_X6_at glyph y4 0) place) 1 (v_X6_at glyph y4 1) width)) 10 = (aset (aset P1 1 (v_X6_at glyph y4 0) place) 1 (v_X6_at glyph y4 1) width) from (gset_at _ _ _)]; exact (gset_gset _ _ _ _)) dX6_stem_216 (fun H locs hh => ?_)
      refine lv_aload_n hx hb dX6_stem_217 rfl (lv_at hl 0 rfl) ?_
      refine iv_get (v' := .ref (ad 10 1)) hx hb hts inX6 hown hK hh.1 (ob_Model) rfl 0 (by decide) (hts _ q3_160) rfl rfl rfl dX6_stem_218 ?_
      refine lv_bipush (v := hI 9) hx hb dX6_stem_221 (by decide) ?_
      refine lv_bipush (v := hI 20) hx hb dX6_stem_223 (by decide) ?_
      refine lv_iload_n hx hb dX6_stem_225 rfl (lv_at hl 1 rfl) ?_
      refine iv_imul hx hb dX6_stem_226 ?_
      refine iv_iadd hx hb dX6_stem_227 ?_
      refine iv_iconst hx hb dX6_stem_228 ?_
      refine iv_iadd hx hb dX6_stem_229 ?_
      refine lv_dup2_11 hx hb dX6_stem_230 rfl rfl ?_
      obtain ⟨g12, h⟩ := h
      refine iv_iald hx hb hK hh.1 (ia_10_1) g12 (v := ((aset (aset (aset P1 1 (v_X6_at glyph y4 0) place) 1 (v_X6_at glyph y4 1) width) 1 (v_X6_at glyph y4 2) 0) 1 ((9 + (20 * glyph)) + 1))) (congrArg (fun z => z 1 ((9 + (20 * glyph)) + 1)) (gset_at _ _ _)) dX6_stem_231 ?_
      have hm13 : hIn ((aset (aset (aset P1 1 (v_X6_at glyph y4 0) place) 1 (v_X6_at glyph y4 1) width) 1 (v_X6_at glyph y4 2) 0) 1 ((9 + (20 * glyph)) + 1)) := hIn_rd hh.2.1 (gset_at _ _ _) (by decide)
      refine iv_iconst hx hb dX6_stem_232 ?_
      refine iv_iadd hx hb dX6_stem_233 ?_
      obtain ⟨g14, h⟩ := h
      refine iv_iast (S' := (gset S 10 (aset (aset (aset (aset P1 1 (v_X6_at glyph y4 0) place) 1 (v_X6_at glyph y4 1) width) 1 (v_X6_at glyph y4 2) 0) 1 ((9 + (20 * glyph)) + 1) (((aset (aset (aset P1 1 (v_X6_at glyph y4 0) place) 1 (v_X6_at glyph y4 1) width) 1 (v_X6_at glyph y4 2) 0) 1 ((9 + (20 * glyph)) + 1)) + 1)))) hx hb hK hinj hh (ia_10_1) g12 g14 (by rw [show (gset S 10 (aset (aset (aset P1 1 (v_X6_at glyph y4 0) place) 1 (v_X6_at glyph y4 1) width) 1 (v_X6_at glyph y4 2) 0)) 10 = (aset (aset (aset P1 1 (v_X6_at glyph y4 0) place) 1 (v_X6_at glyph y4 1) width) 1 (v_X6_at glyph y4 2) 0) from (gset_at _ _ _)]; exact (gset_gset _ _ _ _)) dX6_stem_234 (fun H locs hh => ?_)
      refine lv_iload hx hb dX6_stem_235 (lv_at hl 4 rfl) ?_
      exact iv_iret E hh h.1 (by rw [← h.1]; exact h_y4) (by rw [← h.2]) dX6_stem_237
    · have h := h.2 c3
      refine lv_aload_n hx hb dX6_stem_156 rfl (lv_at hl 0 rfl) ?_
      refine iv_get (v' := .ref (ad 10 1)) hx hb hts inX6 hown hK hh.1 (ob_Model) rfl 0 (by decide) (hts _ q3_160) rfl rfl rfl dX6_stem_157 ?_
      refine lv_iload hx hb dX6_stem_160 (lv_at hl 5 rfl) ?_
      refine iv_iconst hx hb dX6_stem_162 ?_
      refine iv_iadd hx hb dX6_stem_163 ?_
      refine lv_aload_n hx hb dX6_stem_164 rfl (lv_at hl 0 rfl) ?_
      refine iv_get (v' := .ref (ad 10 1)) hx hb hts inX6 hown hK hh.1 (ob_Model) rfl 0 (by decide) (hts _ q3_160) rfl rfl rfl dX6_stem_165 ?_
      refine lv_iload hx hb dX6_stem_168 (lv_at hl 5 rfl) ?_
      obtain ⟨g15, h⟩ := h
      refine iv_iald hx hb hK hh.1 (ia_10_1) g15 (v := (P1 1 y7)) (congrArg (fun z => z 1 y7) (gset_at _ _ _)) dX6_stem_170 ?_
      have hm16 : hIn (P1 1 y7) := hIn_rd hh.2.1 (gset_at _ _ _) (by decide)
      obtain ⟨g17, h⟩ := h
      refine iv_iast (S' := (gset S 10 (aset P1 1 (y7 + 3) (P1 1 y7)))) hx hb hK hinj hh (ia_10_1) g17 hm16 (by rw [show (gset S 10 P1) 10 = P1 from (gset_at _ _ _)]; exact (gset_gset _ _ _ _)) dX6_stem_171 (fun H locs hh => ?_)
      refine iv_iinc (lv' := [(7, .int (hI (y7 + (-1)))), (0, .ref (ad 10 0)), (1, .int (hI glyph)), (2, .int (hI place)), (3, .int (hI width)), (4, .int (hI y4))]) hx hb dX6_stem_172 hl (k := 5) rfl (v := (y7 + (-1))) rfl (by decide) rfl (fun ls hl => ?_)
      refine lv_goto (tgt := 144) hx hb dX6_stem_175 (by decide) ?_
      exact h H _ ls hh (lv_sub hl [1, 2, 3, 4, 5, 0] rfl)
  intro H locs ls hh hl
  have hl : lv_has ls 8 [(0, .ref (ad 10 0)), (1, .int (hI glyph)), (2, .int (hI place)), (3, .int (hI width))] := hl
  replace hh : hH D ad cI cJ cF (gset S 10 P) s H locs := by rw [← can1 hP]; exact hh
  have h := x_X6_stem P glyph place width h_glyph h_place h_width (fun i k hi => hIn_rd hh.2.1 (gset_at _ _ _) hi) hp (fun y4 y7 P1 => (hAt D ad cI cJ cF p l e ({ frames := 3, cells := 0, slots := 0, locals := 68 } : Room) s m args below meth c (MQ below (hQi D ad cI cJ cF (v_X6_stem P glyph place width) (gset S 10 (m_X6_stem P glyph place width))) args s 0 0 (hAd ad)) 8 144 [(0, .ref (ad 10 0)), (1, .int (hI glyph)), (2, .int (hI place)), (3, .int (hI width)), (4, .int (hI y4)), (7, .int (hI y7))] (gset S 10 P1))) (fun r P1 => (r = v_X6_stem P glyph place width ∧ P1 = m_X6_stem P glyph place width)) r144 ⟨rfl, rfl⟩
  refine lv_aload_n hx hb dX6_stem_0 rfl (lv_at hl 0 rfl) ?_
  refine lv_iload_n hx hb dX6_stem_1 rfl (lv_at hl 1 rfl) ?_
  refine iv_ki (iv_rV (As := [.int (hI glyph)]) (rest := []) E hh (ok_X6_isGlyph l hinj (gset S 10 P) P (gset_at _ _ _) glyph h_glyph) cb_X6_isGlyph q3_229 rfl rfl ⟨Nat.le_of_ble_eq_true rfl, Nat.le_of_ble_eq_true rfl⟩ (ob_Model) rfl rfl rfl hl.1 rfl (Nat.le_of_ble_eq_true rfl) dX6_stem_2 ⟨Nat.zero_le _, Nat.zero_le _⟩) hh (fun hc18 H locs hh => ?_)
  refine iv_if_eq (tgt := 30) hx hb hc18 dX6_stem_5 (by decide) (fun c19 => ?_) (fun c19 => ?_)
  · have h := h.1 c19
    refine iv_ldc (n := (-1000001)) hx hb (by decide) hown (hts _ q3_219) dX6_stem_30 ?_
    exact iv_iret E hh h.1 (by rw [← h.1]; exact ⟨by decide, by decide⟩) (by rw [← h.2]) dX6_stem_32
  · have h := h.2 c19
    refine lv_iload_n hx hb dX6_stem_8 rfl (lv_at hl 2 rfl) ?_
    refine iv_iconst hx hb dX6_stem_9 ?_
    refine lv_sipush (v := hI 999) hx hb dX6_stem_10 (by decide) ?_
    refine iv_ki (iv_rS (As := [.int (hI place), .int (hI 0), .int (hI 999)]) (rest := []) E hh (ok_X6_in l hinj (gset S 10 P) place 0 999 h_place ⟨by decide, by decide⟩ ⟨by decide, by decide⟩) cb_X6_in q3_216 rfl rfl ⟨Nat.le_of_ble_eq_true rfl, Nat.le_of_ble_eq_true rfl⟩ rfl hl.1 rfl (Nat.le_of_ble_eq_true rfl) dX6_stem_13 ⟨Nat.zero_le _, Nat.zero_le _⟩) hh (fun hc20 H locs hh => ?_)
    refine iv_if_eq (tgt := 30) hx hb hc20 dX6_stem_16 (by decide) (fun c21 => ?_) (fun c21 => ?_)
    · have h := h.1 c21
      refine iv_ldc (n := (-1000001)) hx hb (by decide) hown (hts _ q3_219) dX6_stem_30 ?_
      exact iv_iret E hh h.1 (by rw [← h.1]; exact ⟨by decide, by decide⟩) (by rw [← h.2]) dX6_stem_32
    · have h := h.2 c21
      refine lv_iload_n hx hb dX6_stem_19 rfl (lv_at hl 3 rfl) ?_
      refine iv_iconst hx hb dX6_stem_20 ?_
      refine lv_sipush (v := hI 300) hx hb dX6_stem_21 (by decide) ?_
      refine iv_ki (iv_rS (As := [.int (hI width), .int (hI 1), .int (hI 300)]) (rest := []) E hh (ok_X6_in l hinj (gset S 10 P) width 1 300 h_width ⟨by decide, by decide⟩ ⟨by decide, by decide⟩) cb_X6_in q3_216 rfl rfl ⟨Nat.le_of_ble_eq_true rfl, Nat.le_of_ble_eq_true rfl⟩ rfl hl.1 rfl (Nat.le_of_ble_eq_true rfl) dX6_stem_24 ⟨Nat.zero_le _, Nat.zero_le _⟩) hh (fun hc22 H locs hh => ?_)
      refine iv_if_ne (tgt := 33) hx hb hc22 dX6_stem_27 (by decide) (fun c23 => ?_) (fun c23 => ?_)
      · have h := h.2 c23
        refine lv_aload_n hx hb dX6_stem_33 rfl (lv_at hl 0 rfl) ?_
        refine lv_iload_n hx hb dX6_stem_34 rfl (lv_at hl 1 rfl) ?_
        refine lv_iload_n hx hb dX6_stem_35 rfl (lv_at hl 2 rfl) ?_
        obtain ⟨g24, h⟩ := h
        refine iv_ki (iv_rV (As := [.int (hI glyph), .int (hI place)]) (rest := []) E hh (ok_X6_ahead l hinj (gset S 10 P) P (gset_at _ _ _) glyph place h_glyph h_place g24) cb_X6_ahead q3_233 rfl rfl ⟨Nat.le_of_ble_eq_true rfl, Nat.le_of_ble_eq_true rfl⟩ (ob_Model) rfl rfl rfl hl.1 rfl (Nat.le_of_ble_eq_true rfl) dX6_stem_36 ⟨Nat.zero_le _, Nat.zero_le _⟩) hh (fun hc25 H locs hh => ?_)
        refine lv_istore (lv' := [(4, .int (hI (v_X6_ahead P glyph place))), (0, .ref (ad 10 0)), (1, .int (hI glyph)), (2, .int (hI place)), (3, .int (hI width))]) hx hb dX6_stem_39 hl (by decide) rfl (fun ls hl => ?_)
        refine lv_iload hx hb dX6_stem_41 (lv_at hl 0 rfl) ?_
        refine iv_if_eq (tgt := 59) hx hb hc25 dX6_stem_43 (by decide) (fun c26 => ?_) (fun c26 => ?_)
        · have h := h.1 c26
          refine iv_iconst hx hb dX6_stem_59 ?_
          refine lv_goto (tgt := 64) hx hb dX6_stem_60 (by decide) ?_
          refine lv_istore (lv' := [(5, .int (hI 1)), (4, .int (hI (v_X6_ahead P glyph place))), (0, .ref (ad 10 0)), (1, .int (hI glyph)), (2, .int (hI place)), (3, .int (hI width))]) hx hb dX6_stem_64 hl (by decide) rfl (fun ls hl => ?_)
          refine lv_iload hx hb dX6_stem_66 (lv_at hl 1 rfl) ?_
          refine lv_aload_n hx hb dX6_stem_68 rfl (lv_at hl 2 rfl) ?_
          refine lv_iload_n hx hb dX6_stem_69 rfl (lv_at hl 3 rfl) ?_
          refine iv_iconst hx hb dX6_stem_70 ?_
          obtain ⟨g27, h⟩ := h
          refine iv_ki (iv_rV (As := [.int (hI glyph), .int (hI 1)]) (rest := [.int (hI (v_X6_ahead P glyph place))]) E hh (ok_X6_of l hinj (gset S 10 P) P (gset_at _ _ _) glyph 1 h_glyph ⟨by decide, by decide⟩ g27) cb_X6_of q3_237 rfl rfl ⟨Nat.le_of_ble_eq_true rfl, Nat.le_of_ble_eq_true rfl⟩ (ob_Model) rfl rfl rfl hl.1 rfl (Nat.le_of_ble_eq_true rfl) dX6_stem_71 ⟨Nat.zero_le _, Nat.zero_le _⟩) hh (fun hc28 H locs hh => ?_)
          refine iv_icmp_eq (tgt := 91) hx hb hc25 hc28 dX6_stem_74 (by decide) (fun c29 => ?_) (fun c29 => ?_)
          · have h := h.1 c29
            refine iv_iconst hx hb dX6_stem_91 ?_
            refine lv_goto (tgt := 96) hx hb dX6_stem_92 (by decide) ?_
            refine lv_istore (lv' := [(6, .int (hI 1)), (5, .int (hI 1)), (4, .int (hI (v_X6_ahead P glyph place))), (0, .ref (ad 10 0)), (1, .int (hI glyph)), (2, .int (hI place)), (3, .int (hI width))]) hx hb dX6_stem_96 hl (by decide) rfl (fun ls hl => ?_)
            refine lv_iload hx hb dX6_stem_98 (lv_at hl 1 rfl) ?_
            refine iv_if_eq (tgt := 108) hx hb ⟨by decide, by decide⟩ dX6_stem_100 (by decide) (fun c30 => ?_) (fun c30 => ?_)
            · exact absurd c30 (by decide)
            · refine lv_iload hx hb dX6_stem_103 (lv_at hl 0 rfl) ?_
              refine iv_if_ne (tgt := 111) hx hb ⟨by decide, by decide⟩ dX6_stem_105 (by decide) (fun c31 => ?_) (fun c31 => ?_)
              · refine lv_aload_n hx hb dX6_stem_111 rfl (lv_at hl 3 rfl) ?_
                refine lv_iload_n hx hb dX6_stem_112 rfl (lv_at hl 4 rfl) ?_
                refine iv_iconst hx hb dX6_stem_113 ?_
                refine iv_ki (iv_rV (As := [.int (hI glyph), .int (hI 1)]) (rest := []) E hh (ok_X6_of l hinj (gset S 10 P) P (gset_at _ _ _) glyph 1 h_glyph ⟨by decide, by decide⟩ g27) cb_X6_of q3_237 rfl rfl ⟨Nat.le_of_ble_eq_true rfl, Nat.le_of_ble_eq_true rfl⟩ (ob_Model) rfl rfl rfl hl.1 rfl (Nat.le_of_ble_eq_true rfl) dX6_stem_114 ⟨Nat.zero_le _, Nat.zero_le _⟩) hh (fun hc32 H locs hh => ?_)
                refine lv_bipush (v := hI 6) hx hb dX6_stem_117 (by decide) ?_
                refine iv_icmp_ne (tgt := 125) hx hb hc32 ⟨by decide, by decide⟩ dX6_stem_119 (by decide) (fun c33 => ?_) (fun c33 => ?_)
                · have h := h.2 c33
                  refine lv_aload_n hx hb dX6_stem_125 rfl (lv_at hl 3 rfl) ?_
                  obtain ⟨g34, h⟩ := h
                  refine iv_kv (iv_rV (As := []) (rest := []) E hh (ok_X6_changes l hinj (gset S 10 P) P (gset_at _ _ _) g34) cb_X6_changes q3_221 rfl rfl ⟨Nat.le_of_ble_eq_true rfl, Nat.le_of_ble_eq_true rfl⟩ (ob_Model) rfl rfl rfl hl.1 rfl (Nat.le_of_ble_eq_true rfl) dX6_stem_126 ⟨Nat.zero_le _, Nat.zero_le _⟩) hh (fun H locs hh => ?_)
                  replace hh : hH D ad cI cJ cF (gset S 10 (m_X6_changes P)) s H locs := by rw [← show _ = (gset S 10 (m_X6_changes P)) from (gset_gset _ _ _ _)]; exact hh
                  refine lv_iload_n hx hb dX6_stem_129 rfl (lv_at hl 4 rfl) ?_
                  refine lv_aload_n hx hb dX6_stem_130 rfl (lv_at hl 3 rfl) ?_
                  refine lv_iload_n hx hb dX6_stem_131 rfl (lv_at hl 4 rfl) ?_
                  refine iv_iconst hx hb dX6_stem_132 ?_
                  obtain ⟨g35, h⟩ := h
                  refine iv_ki (iv_rV (As := [.int (hI glyph), .int (hI 1)]) (rest := [.int (hI glyph)]) E hh (ok_X6_of l hinj (gset S 10 (m_X6_changes P)) (m_X6_changes P) (gset_at _ _ _) glyph 1 h_glyph ⟨by decide, by decide⟩ g35) cb_X6_of q3_237 rfl rfl ⟨Nat.le_of_ble_eq_true rfl, Nat.le_of_ble_eq_true rfl⟩ (ob_Model) rfl rfl rfl hl.1 rfl (Nat.le_of_ble_eq_true rfl) dX6_stem_133 ⟨Nat.zero_le _, Nat.zero_le _⟩) hh (fun hc36 H locs hh => ?_)
                  refine iv_iconst hx hb dX6_stem_136 ?_
                  obtain ⟨g37, h⟩ := h
                  refine iv_ki (iv_rS (As := [.int (hI glyph), .int (hI (v_X6_of (m_X6_changes P) glyph 1)), .int (hI 0)]) (rest := []) E hh (ok_X6_at l hinj (gset S 10 (m_X6_changes P)) glyph (v_X6_of (m_X6_changes P) glyph 1) 0 h_glyph hc36 ⟨by decide, by decide⟩ g37) cb_X6_at q4_5 rfl rfl ⟨Nat.le_of_ble_eq_true rfl, Nat.le_of_ble_eq_true rfl⟩ rfl hl.1 rfl (Nat.le_of_ble_eq_true rfl) dX6_stem_137 ⟨Nat.zero_le _, Nat.zero_le _⟩) hh (fun hc38 H locs hh => ?_)
                  refine iv_iconst hx hb dX6_stem_140 ?_
                  refine iv_isub hx hb dX6_stem_141 ?_
                  refine lv_istore (lv' := [(7, .int (hI ((v_X6_at glyph (v_X6_of (m_X6_changes P) glyph 1) 0) - 1))), (6, .int (hI 1)), (5, .int (hI 1)), (4, .int (hI (v_X6_ahead P glyph place))), (0, .ref (ad 10 0)), (1, .int (hI glyph)), (2, .int (hI place)), (3, .int (hI width))]) hx hb dX6_stem_142 hl (by decide) rfl (fun ls hl => ?_)
                  exact h H _ ls hh (lv_sub hl [4, 5, 6, 7, 3, 0] rfl)
                · have h := h.1 c33
                  refine iv_ldc (n := (-1000003)) hx hb (by decide) hown (hts _ q3_220) dX6_stem_122 ?_
                  exact iv_iret E hh h.1 (by rw [← h.1]; exact ⟨by decide, by decide⟩) (by rw [← h.2]) dX6_stem_124
              · exact absurd c31 (by decide)
          · have h := h.2 c29
            refine lv_iload_n hx hb dX6_stem_77 rfl (lv_at hl 4 rfl) ?_
            refine lv_iload_n hx hb dX6_stem_78 rfl (lv_at hl 5 rfl) ?_
            refine iv_iadd hx hb dX6_stem_79 ?_
            refine lv_aload_n hx hb dX6_stem_80 rfl (lv_at hl 2 rfl) ?_
            refine lv_iload_n hx hb dX6_stem_81 rfl (lv_at hl 3 rfl) ?_
            refine lv_iload hx hb dX6_stem_82 (lv_at hl 1 rfl) ?_
            refine iv_iconst hx hb dX6_stem_84 ?_
            obtain ⟨g39, h⟩ := h
            refine iv_ki (iv_rV (As := [.int (hI glyph), .int (hI (v_X6_ahead P glyph place)), .int (hI 0)]) (rest := [.int (hI (place + width))]) E hh (ok_X6_ofStem l hinj (gset S 10 P) P (gset_at _ _ _) glyph (v_X6_ahead P glyph place) 0 h_glyph hc25 ⟨by decide, by decide⟩ g39) cb_X6_ofStem q4_1 rfl rfl ⟨Nat.le_of_ble_eq_true rfl, Nat.le_of_ble_eq_true rfl⟩ (ob_Model) rfl rfl rfl hl.1 rfl (Nat.le_of_ble_eq_true rfl) dX6_stem_85 ⟨Nat.zero_le _, Nat.zero_le _⟩) hh (fun hc40 H locs hh => ?_)
            obtain ⟨g41, h⟩ := h
            refine iv_icmp_gt (tgt := 95) hx hb g41 hc40 dX6_stem_88 (by decide) (fun c42 => ?_) (fun c42 => ?_)
            · have h := h.2 c42
              refine iv_iconst hx hb dX6_stem_95 ?_
              refine lv_istore (lv' := [(6, .int (hI 0)), (5, .int (hI 1)), (4, .int (hI (v_X6_ahead P glyph place))), (0, .ref (ad 10 0)), (1, .int (hI glyph)), (2, .int (hI place)), (3, .int (hI width))]) hx hb dX6_stem_96 hl (by decide) rfl (fun ls hl => ?_)
              refine lv_iload hx hb dX6_stem_98 (lv_at hl 1 rfl) ?_
              refine iv_if_eq (tgt := 108) hx hb ⟨by decide, by decide⟩ dX6_stem_100 (by decide) (fun c43 => ?_) (fun c43 => ?_)
              · exact absurd c43 (by decide)
              · refine lv_iload hx hb dX6_stem_103 (lv_at hl 0 rfl) ?_
                refine iv_if_ne (tgt := 111) hx hb ⟨by decide, by decide⟩ dX6_stem_105 (by decide) (fun c44 => ?_) (fun c44 => ?_)
                · exact absurd c44 (by decide)
                · refine iv_ldc (n := (-1000002)) hx hb (by decide) hown (hts _ q4_12) dX6_stem_108 ?_
                  exact iv_iret E hh h.1 (by rw [← h.1]; exact ⟨by decide, by decide⟩) (by rw [← h.2]) dX6_stem_110
            · have h := h.1 c42
              refine iv_iconst hx hb dX6_stem_91 ?_
              refine lv_goto (tgt := 96) hx hb dX6_stem_92 (by decide) ?_
              refine lv_istore (lv' := [(6, .int (hI 1)), (5, .int (hI 1)), (4, .int (hI (v_X6_ahead P glyph place))), (0, .ref (ad 10 0)), (1, .int (hI glyph)), (2, .int (hI place)), (3, .int (hI width))]) hx hb dX6_stem_96 hl (by decide) rfl (fun ls hl => ?_)
              refine lv_iload hx hb dX6_stem_98 (lv_at hl 1 rfl) ?_
              refine iv_if_eq (tgt := 108) hx hb ⟨by decide, by decide⟩ dX6_stem_100 (by decide) (fun c45 => ?_) (fun c45 => ?_)
              · exact absurd c45 (by decide)
              · refine lv_iload hx hb dX6_stem_103 (lv_at hl 0 rfl) ?_
                refine iv_if_ne (tgt := 111) hx hb ⟨by decide, by decide⟩ dX6_stem_105 (by decide) (fun c46 => ?_) (fun c46 => ?_)
                · refine lv_aload_n hx hb dX6_stem_111 rfl (lv_at hl 3 rfl) ?_
                  refine lv_iload_n hx hb dX6_stem_112 rfl (lv_at hl 4 rfl) ?_
                  refine iv_iconst hx hb dX6_stem_113 ?_
                  refine iv_ki (iv_rV (As := [.int (hI glyph), .int (hI 1)]) (rest := []) E hh (ok_X6_of l hinj (gset S 10 P) P (gset_at _ _ _) glyph 1 h_glyph ⟨by decide, by decide⟩ g27) cb_X6_of q3_237 rfl rfl ⟨Nat.le_of_ble_eq_true rfl, Nat.le_of_ble_eq_true rfl⟩ (ob_Model) rfl rfl rfl hl.1 rfl (Nat.le_of_ble_eq_true rfl) dX6_stem_114 ⟨Nat.zero_le _, Nat.zero_le _⟩) hh (fun hc47 H locs hh => ?_)
                  refine lv_bipush (v := hI 6) hx hb dX6_stem_117 (by decide) ?_
                  refine iv_icmp_ne (tgt := 125) hx hb hc47 ⟨by decide, by decide⟩ dX6_stem_119 (by decide) (fun c48 => ?_) (fun c48 => ?_)
                  · have h := h.2 c48
                    refine lv_aload_n hx hb dX6_stem_125 rfl (lv_at hl 3 rfl) ?_
                    obtain ⟨g49, h⟩ := h
                    refine iv_kv (iv_rV (As := []) (rest := []) E hh (ok_X6_changes l hinj (gset S 10 P) P (gset_at _ _ _) g49) cb_X6_changes q3_221 rfl rfl ⟨Nat.le_of_ble_eq_true rfl, Nat.le_of_ble_eq_true rfl⟩ (ob_Model) rfl rfl rfl hl.1 rfl (Nat.le_of_ble_eq_true rfl) dX6_stem_126 ⟨Nat.zero_le _, Nat.zero_le _⟩) hh (fun H locs hh => ?_)
                    replace hh : hH D ad cI cJ cF (gset S 10 (m_X6_changes P)) s H locs := by rw [← show _ = (gset S 10 (m_X6_changes P)) from (gset_gset _ _ _ _)]; exact hh
                    refine lv_iload_n hx hb dX6_stem_129 rfl (lv_at hl 4 rfl) ?_
                    refine lv_aload_n hx hb dX6_stem_130 rfl (lv_at hl 3 rfl) ?_
                    refine lv_iload_n hx hb dX6_stem_131 rfl (lv_at hl 4 rfl) ?_
                    refine iv_iconst hx hb dX6_stem_132 ?_
                    obtain ⟨g50, h⟩ := h
                    refine iv_ki (iv_rV (As := [.int (hI glyph), .int (hI 1)]) (rest := [.int (hI glyph)]) E hh (ok_X6_of l hinj (gset S 10 (m_X6_changes P)) (m_X6_changes P) (gset_at _ _ _) glyph 1 h_glyph ⟨by decide, by decide⟩ g50) cb_X6_of q3_237 rfl rfl ⟨Nat.le_of_ble_eq_true rfl, Nat.le_of_ble_eq_true rfl⟩ (ob_Model) rfl rfl rfl hl.1 rfl (Nat.le_of_ble_eq_true rfl) dX6_stem_133 ⟨Nat.zero_le _, Nat.zero_le _⟩) hh (fun hc51 H locs hh => ?_)
                    refine iv_iconst hx hb dX6_stem_136 ?_
                    obtain ⟨g52, h⟩ := h
                    refine iv_ki (iv_rS (As := [.int (hI glyph), .int (hI (v_X6_of (m_X6_changes P) glyph 1)), .int (hI 0)]) (rest := []) E hh (ok_X6_at l hinj (gset S 10 (m_X6_changes P)) glyph (v_X6_of (m_X6_changes P) glyph 1) 0 h_glyph hc51 ⟨by decide, by decide⟩ g52) cb_X6_at q4_5 rfl rfl ⟨Nat.le_of_ble_eq_true rfl, Nat.le_of_ble_eq_true rfl⟩ rfl hl.1 rfl (Nat.le_of_ble_eq_true rfl) dX6_stem_137 ⟨Nat.zero_le _, Nat.zero_le _⟩) hh (fun hc53 H locs hh => ?_)
                    refine iv_iconst hx hb dX6_stem_140 ?_
                    refine iv_isub hx hb dX6_stem_141 ?_
                    refine lv_istore (lv' := [(7, .int (hI ((v_X6_at glyph (v_X6_of (m_X6_changes P) glyph 1) 0) - 1))), (6, .int (hI 1)), (5, .int (hI 1)), (4, .int (hI (v_X6_ahead P glyph place))), (0, .ref (ad 10 0)), (1, .int (hI glyph)), (2, .int (hI place)), (3, .int (hI width))]) hx hb dX6_stem_142 hl (by decide) rfl (fun ls hl => ?_)
                    exact h H _ ls hh (lv_sub hl [4, 5, 6, 7, 3, 0] rfl)
                  · have h := h.1 c48
                    refine iv_ldc (n := (-1000003)) hx hb (by decide) hown (hts _ q3_220) dX6_stem_122 ?_
                    exact iv_iret E hh h.1 (by rw [← h.1]; exact ⟨by decide, by decide⟩) (by rw [← h.2]) dX6_stem_124
                · exact absurd c46 (by decide)
        · have h := h.2 c26
          refine lv_aload_n hx hb dX6_stem_46 rfl (lv_at hl 1 rfl) ?_
          refine lv_iload_n hx hb dX6_stem_47 rfl (lv_at hl 2 rfl) ?_
          refine lv_iload hx hb dX6_stem_48 (lv_at hl 0 rfl) ?_
          refine iv_iconst hx hb dX6_stem_50 ?_
          refine iv_isub hx hb dX6_stem_51 ?_
          obtain ⟨g54, h⟩ := h
          obtain ⟨g55, h⟩ := h
          refine iv_ki (iv_rV (As := [.int (hI glyph), .int (hI ((v_X6_ahead P glyph place) - 1))]) (rest := []) E hh (ok_X6_endOf l hinj (gset S 10 P) P (gset_at _ _ _) glyph ((v_X6_ahead P glyph place) - 1) h_glyph g54 g55) cb_X6_endOf q4_8 rfl rfl ⟨Nat.le_of_ble_eq_true rfl, Nat.le_of_ble_eq_true rfl⟩ (ob_Model) rfl rfl rfl hl.1 rfl (Nat.le_of_ble_eq_true rfl) dX6_stem_52 ⟨Nat.zero_le _, Nat.zero_le _⟩) hh (fun hc56 H locs hh => ?_)
          refine lv_iload_n hx hb dX6_stem_55 rfl (lv_at hl 3 rfl) ?_
          refine iv_icmp_gt (tgt := 63) hx hb hc56 h_place dX6_stem_56 (by decide) (fun c57 => ?_) (fun c57 => ?_)
          · have h := h.2 c57
            refine iv_iconst hx hb dX6_stem_63 ?_
            refine lv_istore (lv' := [(5, .int (hI 0)), (4, .int (hI (v_X6_ahead P glyph place))), (0, .ref (ad 10 0)), (1, .int (hI glyph)), (2, .int (hI place)), (3, .int (hI width))]) hx hb dX6_stem_64 hl (by decide) rfl (fun ls hl => ?_)
            refine lv_iload hx hb dX6_stem_66 (lv_at hl 1 rfl) ?_
            refine lv_aload_n hx hb dX6_stem_68 rfl (lv_at hl 2 rfl) ?_
            refine lv_iload_n hx hb dX6_stem_69 rfl (lv_at hl 3 rfl) ?_
            refine iv_iconst hx hb dX6_stem_70 ?_
            obtain ⟨g58, h⟩ := h
            refine iv_ki (iv_rV (As := [.int (hI glyph), .int (hI 1)]) (rest := [.int (hI (v_X6_ahead P glyph place))]) E hh (ok_X6_of l hinj (gset S 10 P) P (gset_at _ _ _) glyph 1 h_glyph ⟨by decide, by decide⟩ g58) cb_X6_of q3_237 rfl rfl ⟨Nat.le_of_ble_eq_true rfl, Nat.le_of_ble_eq_true rfl⟩ (ob_Model) rfl rfl rfl hl.1 rfl (Nat.le_of_ble_eq_true rfl) dX6_stem_71 ⟨Nat.zero_le _, Nat.zero_le _⟩) hh (fun hc59 H locs hh => ?_)
            refine iv_icmp_eq (tgt := 91) hx hb hc25 hc59 dX6_stem_74 (by decide) (fun c60 => ?_) (fun c60 => ?_)
            · have h := h.1 c60
              refine iv_iconst hx hb dX6_stem_91 ?_
              refine lv_goto (tgt := 96) hx hb dX6_stem_92 (by decide) ?_
              refine lv_istore (lv' := [(6, .int (hI 1)), (5, .int (hI 0)), (4, .int (hI (v_X6_ahead P glyph place))), (0, .ref (ad 10 0)), (1, .int (hI glyph)), (2, .int (hI place)), (3, .int (hI width))]) hx hb dX6_stem_96 hl (by decide) rfl (fun ls hl => ?_)
              refine lv_iload hx hb dX6_stem_98 (lv_at hl 1 rfl) ?_
              refine iv_if_eq (tgt := 108) hx hb ⟨by decide, by decide⟩ dX6_stem_100 (by decide) (fun c61 => ?_) (fun c61 => ?_)
              · refine iv_ldc (n := (-1000002)) hx hb (by decide) hown (hts _ q4_12) dX6_stem_108 ?_
                exact iv_iret E hh h.1 (by rw [← h.1]; exact ⟨by decide, by decide⟩) (by rw [← h.2]) dX6_stem_110
              · exact absurd c61 (by decide)
            · have h := h.2 c60
              refine lv_iload_n hx hb dX6_stem_77 rfl (lv_at hl 4 rfl) ?_
              refine lv_iload_n hx hb dX6_stem_78 rfl (lv_at hl 5 rfl) ?_
              refine iv_iadd hx hb dX6_stem_79 ?_
              refine lv_aload_n hx hb dX6_stem_80 rfl (lv_at hl 2 rfl) ?_
              refine lv_iload_n hx hb dX6_stem_81 rfl (lv_at hl 3 rfl) ?_
              refine lv_iload hx hb dX6_stem_82 (lv_at hl 1 rfl) ?_
              refine iv_iconst hx hb dX6_stem_84 ?_
              obtain ⟨g62, h⟩ := h
              refine iv_ki (iv_rV (As := [.int (hI glyph), .int (hI (v_X6_ahead P glyph place)), .int (hI 0)]) (rest := [.int (hI (place + width))]) E hh (ok_X6_ofStem l hinj (gset S 10 P) P (gset_at _ _ _) glyph (v_X6_ahead P glyph place) 0 h_glyph hc25 ⟨by decide, by decide⟩ g62) cb_X6_ofStem q4_1 rfl rfl ⟨Nat.le_of_ble_eq_true rfl, Nat.le_of_ble_eq_true rfl⟩ (ob_Model) rfl rfl rfl hl.1 rfl (Nat.le_of_ble_eq_true rfl) dX6_stem_85 ⟨Nat.zero_le _, Nat.zero_le _⟩) hh (fun hc63 H locs hh => ?_)
              obtain ⟨g64, h⟩ := h
              refine iv_icmp_gt (tgt := 95) hx hb g64 hc63 dX6_stem_88 (by decide) (fun c65 => ?_) (fun c65 => ?_)
              · have h := h.2 c65
                refine iv_iconst hx hb dX6_stem_95 ?_
                refine lv_istore (lv' := [(6, .int (hI 0)), (5, .int (hI 0)), (4, .int (hI (v_X6_ahead P glyph place))), (0, .ref (ad 10 0)), (1, .int (hI glyph)), (2, .int (hI place)), (3, .int (hI width))]) hx hb dX6_stem_96 hl (by decide) rfl (fun ls hl => ?_)
                refine lv_iload hx hb dX6_stem_98 (lv_at hl 1 rfl) ?_
                refine iv_if_eq (tgt := 108) hx hb ⟨by decide, by decide⟩ dX6_stem_100 (by decide) (fun c66 => ?_) (fun c66 => ?_)
                · refine iv_ldc (n := (-1000002)) hx hb (by decide) hown (hts _ q4_12) dX6_stem_108 ?_
                  exact iv_iret E hh h.1 (by rw [← h.1]; exact ⟨by decide, by decide⟩) (by rw [← h.2]) dX6_stem_110
                · exact absurd c66 (by decide)
              · have h := h.1 c65
                refine iv_iconst hx hb dX6_stem_91 ?_
                refine lv_goto (tgt := 96) hx hb dX6_stem_92 (by decide) ?_
                refine lv_istore (lv' := [(6, .int (hI 1)), (5, .int (hI 0)), (4, .int (hI (v_X6_ahead P glyph place))), (0, .ref (ad 10 0)), (1, .int (hI glyph)), (2, .int (hI place)), (3, .int (hI width))]) hx hb dX6_stem_96 hl (by decide) rfl (fun ls hl => ?_)
                refine lv_iload hx hb dX6_stem_98 (lv_at hl 1 rfl) ?_
                refine iv_if_eq (tgt := 108) hx hb ⟨by decide, by decide⟩ dX6_stem_100 (by decide) (fun c67 => ?_) (fun c67 => ?_)
                · refine iv_ldc (n := (-1000002)) hx hb (by decide) hown (hts _ q4_12) dX6_stem_108 ?_
                  exact iv_iret E hh h.1 (by rw [← h.1]; exact ⟨by decide, by decide⟩) (by rw [← h.2]) dX6_stem_110
                · exact absurd c67 (by decide)
          · have h := h.1 c57
            refine iv_iconst hx hb dX6_stem_59 ?_
            refine lv_goto (tgt := 64) hx hb dX6_stem_60 (by decide) ?_
            refine lv_istore (lv' := [(5, .int (hI 1)), (4, .int (hI (v_X6_ahead P glyph place))), (0, .ref (ad 10 0)), (1, .int (hI glyph)), (2, .int (hI place)), (3, .int (hI width))]) hx hb dX6_stem_64 hl (by decide) rfl (fun ls hl => ?_)
            refine lv_iload hx hb dX6_stem_66 (lv_at hl 1 rfl) ?_
            refine lv_aload_n hx hb dX6_stem_68 rfl (lv_at hl 2 rfl) ?_
            refine lv_iload_n hx hb dX6_stem_69 rfl (lv_at hl 3 rfl) ?_
            refine iv_iconst hx hb dX6_stem_70 ?_
            obtain ⟨g68, h⟩ := h
            refine iv_ki (iv_rV (As := [.int (hI glyph), .int (hI 1)]) (rest := [.int (hI (v_X6_ahead P glyph place))]) E hh (ok_X6_of l hinj (gset S 10 P) P (gset_at _ _ _) glyph 1 h_glyph ⟨by decide, by decide⟩ g68) cb_X6_of q3_237 rfl rfl ⟨Nat.le_of_ble_eq_true rfl, Nat.le_of_ble_eq_true rfl⟩ (ob_Model) rfl rfl rfl hl.1 rfl (Nat.le_of_ble_eq_true rfl) dX6_stem_71 ⟨Nat.zero_le _, Nat.zero_le _⟩) hh (fun hc69 H locs hh => ?_)
            refine iv_icmp_eq (tgt := 91) hx hb hc25 hc69 dX6_stem_74 (by decide) (fun c70 => ?_) (fun c70 => ?_)
            · have h := h.1 c70
              refine iv_iconst hx hb dX6_stem_91 ?_
              refine lv_goto (tgt := 96) hx hb dX6_stem_92 (by decide) ?_
              refine lv_istore (lv' := [(6, .int (hI 1)), (5, .int (hI 1)), (4, .int (hI (v_X6_ahead P glyph place))), (0, .ref (ad 10 0)), (1, .int (hI glyph)), (2, .int (hI place)), (3, .int (hI width))]) hx hb dX6_stem_96 hl (by decide) rfl (fun ls hl => ?_)
              refine lv_iload hx hb dX6_stem_98 (lv_at hl 1 rfl) ?_
              refine iv_if_eq (tgt := 108) hx hb ⟨by decide, by decide⟩ dX6_stem_100 (by decide) (fun c71 => ?_) (fun c71 => ?_)
              · exact absurd c71 (by decide)
              · refine lv_iload hx hb dX6_stem_103 (lv_at hl 0 rfl) ?_
                refine iv_if_ne (tgt := 111) hx hb ⟨by decide, by decide⟩ dX6_stem_105 (by decide) (fun c72 => ?_) (fun c72 => ?_)
                · refine lv_aload_n hx hb dX6_stem_111 rfl (lv_at hl 3 rfl) ?_
                  refine lv_iload_n hx hb dX6_stem_112 rfl (lv_at hl 4 rfl) ?_
                  refine iv_iconst hx hb dX6_stem_113 ?_
                  refine iv_ki (iv_rV (As := [.int (hI glyph), .int (hI 1)]) (rest := []) E hh (ok_X6_of l hinj (gset S 10 P) P (gset_at _ _ _) glyph 1 h_glyph ⟨by decide, by decide⟩ g68) cb_X6_of q3_237 rfl rfl ⟨Nat.le_of_ble_eq_true rfl, Nat.le_of_ble_eq_true rfl⟩ (ob_Model) rfl rfl rfl hl.1 rfl (Nat.le_of_ble_eq_true rfl) dX6_stem_114 ⟨Nat.zero_le _, Nat.zero_le _⟩) hh (fun hc73 H locs hh => ?_)
                  refine lv_bipush (v := hI 6) hx hb dX6_stem_117 (by decide) ?_
                  refine iv_icmp_ne (tgt := 125) hx hb hc73 ⟨by decide, by decide⟩ dX6_stem_119 (by decide) (fun c74 => ?_) (fun c74 => ?_)
                  · have h := h.2 c74
                    refine lv_aload_n hx hb dX6_stem_125 rfl (lv_at hl 3 rfl) ?_
                    obtain ⟨g75, h⟩ := h
                    refine iv_kv (iv_rV (As := []) (rest := []) E hh (ok_X6_changes l hinj (gset S 10 P) P (gset_at _ _ _) g75) cb_X6_changes q3_221 rfl rfl ⟨Nat.le_of_ble_eq_true rfl, Nat.le_of_ble_eq_true rfl⟩ (ob_Model) rfl rfl rfl hl.1 rfl (Nat.le_of_ble_eq_true rfl) dX6_stem_126 ⟨Nat.zero_le _, Nat.zero_le _⟩) hh (fun H locs hh => ?_)
                    replace hh : hH D ad cI cJ cF (gset S 10 (m_X6_changes P)) s H locs := by rw [← show _ = (gset S 10 (m_X6_changes P)) from (gset_gset _ _ _ _)]; exact hh
                    refine lv_iload_n hx hb dX6_stem_129 rfl (lv_at hl 4 rfl) ?_
                    refine lv_aload_n hx hb dX6_stem_130 rfl (lv_at hl 3 rfl) ?_
                    refine lv_iload_n hx hb dX6_stem_131 rfl (lv_at hl 4 rfl) ?_
                    refine iv_iconst hx hb dX6_stem_132 ?_
                    obtain ⟨g76, h⟩ := h
                    refine iv_ki (iv_rV (As := [.int (hI glyph), .int (hI 1)]) (rest := [.int (hI glyph)]) E hh (ok_X6_of l hinj (gset S 10 (m_X6_changes P)) (m_X6_changes P) (gset_at _ _ _) glyph 1 h_glyph ⟨by decide, by decide⟩ g76) cb_X6_of q3_237 rfl rfl ⟨Nat.le_of_ble_eq_true rfl, Nat.le_of_ble_eq_true rfl⟩ (ob_Model) rfl rfl rfl hl.1 rfl (Nat.le_of_ble_eq_true rfl) dX6_stem_133 ⟨Nat.zero_le _, Nat.zero_le _⟩) hh (fun hc77 H locs hh => ?_)
                    refine iv_iconst hx hb dX6_stem_136 ?_
                    obtain ⟨g78, h⟩ := h
                    refine iv_ki (iv_rS (As := [.int (hI glyph), .int (hI (v_X6_of (m_X6_changes P) glyph 1)), .int (hI 0)]) (rest := []) E hh (ok_X6_at l hinj (gset S 10 (m_X6_changes P)) glyph (v_X6_of (m_X6_changes P) glyph 1) 0 h_glyph hc77 ⟨by decide, by decide⟩ g78) cb_X6_at q4_5 rfl rfl ⟨Nat.le_of_ble_eq_true rfl, Nat.le_of_ble_eq_true rfl⟩ rfl hl.1 rfl (Nat.le_of_ble_eq_true rfl) dX6_stem_137 ⟨Nat.zero_le _, Nat.zero_le _⟩) hh (fun hc79 H locs hh => ?_)
                    refine iv_iconst hx hb dX6_stem_140 ?_
                    refine iv_isub hx hb dX6_stem_141 ?_
                    refine lv_istore (lv' := [(7, .int (hI ((v_X6_at glyph (v_X6_of (m_X6_changes P) glyph 1) 0) - 1))), (6, .int (hI 1)), (5, .int (hI 1)), (4, .int (hI (v_X6_ahead P glyph place))), (0, .ref (ad 10 0)), (1, .int (hI glyph)), (2, .int (hI place)), (3, .int (hI width))]) hx hb dX6_stem_142 hl (by decide) rfl (fun ls hl => ?_)
                    exact h H _ ls hh (lv_sub hl [4, 5, 6, 7, 3, 0] rfl)
                  · have h := h.1 c74
                    refine iv_ldc (n := (-1000003)) hx hb (by decide) hown (hts _ q3_220) dX6_stem_122 ?_
                    exact iv_iret E hh h.1 (by rw [← h.1]; exact ⟨by decide, by decide⟩) (by rw [← h.2]) dX6_stem_124
                · exact absurd c72 (by decide)
            · have h := h.2 c70
              refine lv_iload_n hx hb dX6_stem_77 rfl (lv_at hl 4 rfl) ?_
              refine lv_iload_n hx hb dX6_stem_78 rfl (lv_at hl 5 rfl) ?_
              refine iv_iadd hx hb dX6_stem_79 ?_
              refine lv_aload_n hx hb dX6_stem_80 rfl (lv_at hl 2 rfl) ?_
              refine lv_iload_n hx hb dX6_stem_81 rfl (lv_at hl 3 rfl) ?_
              refine lv_iload hx hb dX6_stem_82 (lv_at hl 1 rfl) ?_
              refine iv_iconst hx hb dX6_stem_84 ?_
              obtain ⟨g80, h⟩ := h
              refine iv_ki (iv_rV (As := [.int (hI glyph), .int (hI (v_X6_ahead P glyph place)), .int (hI 0)]) (rest := [.int (hI (place + width))]) E hh (ok_X6_ofStem l hinj (gset S 10 P) P (gset_at _ _ _) glyph (v_X6_ahead P glyph place) 0 h_glyph hc25 ⟨by decide, by decide⟩ g80) cb_X6_ofStem q4_1 rfl rfl ⟨Nat.le_of_ble_eq_true rfl, Nat.le_of_ble_eq_true rfl⟩ (ob_Model) rfl rfl rfl hl.1 rfl (Nat.le_of_ble_eq_true rfl) dX6_stem_85 ⟨Nat.zero_le _, Nat.zero_le _⟩) hh (fun hc81 H locs hh => ?_)
              obtain ⟨g82, h⟩ := h
              refine iv_icmp_gt (tgt := 95) hx hb g82 hc81 dX6_stem_88 (by decide) (fun c83 => ?_) (fun c83 => ?_)
              · have h := h.2 c83
                refine iv_iconst hx hb dX6_stem_95 ?_
                refine lv_istore (lv' := [(6, .int (hI 0)), (5, .int (hI 1)), (4, .int (hI (v_X6_ahead P glyph place))), (0, .ref (ad 10 0)), (1, .int (hI glyph)), (2, .int (hI place)), (3, .int (hI width))]) hx hb dX6_stem_96 hl (by decide) rfl (fun ls hl => ?_)
                refine lv_iload hx hb dX6_stem_98 (lv_at hl 1 rfl) ?_
                refine iv_if_eq (tgt := 108) hx hb ⟨by decide, by decide⟩ dX6_stem_100 (by decide) (fun c84 => ?_) (fun c84 => ?_)
                · exact absurd c84 (by decide)
                · refine lv_iload hx hb dX6_stem_103 (lv_at hl 0 rfl) ?_
                  refine iv_if_ne (tgt := 111) hx hb ⟨by decide, by decide⟩ dX6_stem_105 (by decide) (fun c85 => ?_) (fun c85 => ?_)
                  · exact absurd c85 (by decide)
                  · refine iv_ldc (n := (-1000002)) hx hb (by decide) hown (hts _ q4_12) dX6_stem_108 ?_
                    exact iv_iret E hh h.1 (by rw [← h.1]; exact ⟨by decide, by decide⟩) (by rw [← h.2]) dX6_stem_110
              · have h := h.1 c83
                refine iv_iconst hx hb dX6_stem_91 ?_
                refine lv_goto (tgt := 96) hx hb dX6_stem_92 (by decide) ?_
                refine lv_istore (lv' := [(6, .int (hI 1)), (5, .int (hI 1)), (4, .int (hI (v_X6_ahead P glyph place))), (0, .ref (ad 10 0)), (1, .int (hI glyph)), (2, .int (hI place)), (3, .int (hI width))]) hx hb dX6_stem_96 hl (by decide) rfl (fun ls hl => ?_)
                refine lv_iload hx hb dX6_stem_98 (lv_at hl 1 rfl) ?_
                refine iv_if_eq (tgt := 108) hx hb ⟨by decide, by decide⟩ dX6_stem_100 (by decide) (fun c86 => ?_) (fun c86 => ?_)
                · exact absurd c86 (by decide)
                · refine lv_iload hx hb dX6_stem_103 (lv_at hl 0 rfl) ?_
                  refine iv_if_ne (tgt := 111) hx hb ⟨by decide, by decide⟩ dX6_stem_105 (by decide) (fun c87 => ?_) (fun c87 => ?_)
                  · refine lv_aload_n hx hb dX6_stem_111 rfl (lv_at hl 3 rfl) ?_
                    refine lv_iload_n hx hb dX6_stem_112 rfl (lv_at hl 4 rfl) ?_
                    refine iv_iconst hx hb dX6_stem_113 ?_
                    refine iv_ki (iv_rV (As := [.int (hI glyph), .int (hI 1)]) (rest := []) E hh (ok_X6_of l hinj (gset S 10 P) P (gset_at _ _ _) glyph 1 h_glyph ⟨by decide, by decide⟩ g68) cb_X6_of q3_237 rfl rfl ⟨Nat.le_of_ble_eq_true rfl, Nat.le_of_ble_eq_true rfl⟩ (ob_Model) rfl rfl rfl hl.1 rfl (Nat.le_of_ble_eq_true rfl) dX6_stem_114 ⟨Nat.zero_le _, Nat.zero_le _⟩) hh (fun hc88 H locs hh => ?_)
                    refine lv_bipush (v := hI 6) hx hb dX6_stem_117 (by decide) ?_
                    refine iv_icmp_ne (tgt := 125) hx hb hc88 ⟨by decide, by decide⟩ dX6_stem_119 (by decide) (fun c89 => ?_) (fun c89 => ?_)
                    · have h := h.2 c89
                      refine lv_aload_n hx hb dX6_stem_125 rfl (lv_at hl 3 rfl) ?_
                      obtain ⟨g90, h⟩ := h
                      refine iv_kv (iv_rV (As := []) (rest := []) E hh (ok_X6_changes l hinj (gset S 10 P) P (gset_at _ _ _) g90) cb_X6_changes q3_221 rfl rfl ⟨Nat.le_of_ble_eq_true rfl, Nat.le_of_ble_eq_true rfl⟩ (ob_Model) rfl rfl rfl hl.1 rfl (Nat.le_of_ble_eq_true rfl) dX6_stem_126 ⟨Nat.zero_le _, Nat.zero_le _⟩) hh (fun H locs hh => ?_)
                      replace hh : hH D ad cI cJ cF (gset S 10 (m_X6_changes P)) s H locs := by rw [← show _ = (gset S 10 (m_X6_changes P)) from (gset_gset _ _ _ _)]; exact hh
                      refine lv_iload_n hx hb dX6_stem_129 rfl (lv_at hl 4 rfl) ?_
                      refine lv_aload_n hx hb dX6_stem_130 rfl (lv_at hl 3 rfl) ?_
                      refine lv_iload_n hx hb dX6_stem_131 rfl (lv_at hl 4 rfl) ?_
                      refine iv_iconst hx hb dX6_stem_132 ?_
                      obtain ⟨g91, h⟩ := h
                      refine iv_ki (iv_rV (As := [.int (hI glyph), .int (hI 1)]) (rest := [.int (hI glyph)]) E hh (ok_X6_of l hinj (gset S 10 (m_X6_changes P)) (m_X6_changes P) (gset_at _ _ _) glyph 1 h_glyph ⟨by decide, by decide⟩ g91) cb_X6_of q3_237 rfl rfl ⟨Nat.le_of_ble_eq_true rfl, Nat.le_of_ble_eq_true rfl⟩ (ob_Model) rfl rfl rfl hl.1 rfl (Nat.le_of_ble_eq_true rfl) dX6_stem_133 ⟨Nat.zero_le _, Nat.zero_le _⟩) hh (fun hc92 H locs hh => ?_)
                      refine iv_iconst hx hb dX6_stem_136 ?_
                      obtain ⟨g93, h⟩ := h
                      refine iv_ki (iv_rS (As := [.int (hI glyph), .int (hI (v_X6_of (m_X6_changes P) glyph 1)), .int (hI 0)]) (rest := []) E hh (ok_X6_at l hinj (gset S 10 (m_X6_changes P)) glyph (v_X6_of (m_X6_changes P) glyph 1) 0 h_glyph hc92 ⟨by decide, by decide⟩ g93) cb_X6_at q4_5 rfl rfl ⟨Nat.le_of_ble_eq_true rfl, Nat.le_of_ble_eq_true rfl⟩ rfl hl.1 rfl (Nat.le_of_ble_eq_true rfl) dX6_stem_137 ⟨Nat.zero_le _, Nat.zero_le _⟩) hh (fun hc94 H locs hh => ?_)
                      refine iv_iconst hx hb dX6_stem_140 ?_
                      refine iv_isub hx hb dX6_stem_141 ?_
                      refine lv_istore (lv' := [(7, .int (hI ((v_X6_at glyph (v_X6_of (m_X6_changes P) glyph 1) 0) - 1))), (6, .int (hI 1)), (5, .int (hI 1)), (4, .int (hI (v_X6_ahead P glyph place))), (0, .ref (ad 10 0)), (1, .int (hI glyph)), (2, .int (hI place)), (3, .int (hI width))]) hx hb dX6_stem_142 hl (by decide) rfl (fun ls hl => ?_)
                      exact h H _ ls hh (lv_sub hl [4, 5, 6, 7, 3, 0] rfl)
                    · have h := h.1 c89
                      refine iv_ldc (n := (-1000003)) hx hb (by decide) hown (hts _ q3_220) dX6_stem_122 ?_
                      exact iv_iret E hh h.1 (by rw [← h.1]; exact ⟨by decide, by decide⟩) (by rw [← h.2]) dX6_stem_124
                  · exact absurd c87 (by decide)
      · have h := h.1 c23
        refine iv_ldc (n := (-1000001)) hx hb (by decide) hown (hts _ q3_219) dX6_stem_30 ?_
        exact iv_iret E hh h.1 (by rw [← h.1]; exact ⟨by decide, by decide⟩) (by rw [← h.2]) dX6_stem_32
set_option maxHeartbeats 4000000 in
set_option maxRecDepth 100000 in
theorem ok_X6_cut (l : Launch) (hinj : hInj ad) (S : hS) (P : hGM) (hP : S 10 = P) (glyph : Int) (stem : Int) (h_glyph : hIn glyph) (h_stem : hIn stem) (hp : p_X6_cut P glyph stem) : hMi D ad cI cJ cF l yX6_cut cX6_cut 4 (some .int) ({ frames := 2, cells := 0, slots := 0, locals := 44 } : Room) [.ref (ad 10 0), .int (hI glyph), .int (hI stem)] S (v_X6_cut P glyph stem) (gset S 10 (m_X6_cut P glyph stem)) := by
  refine hOf (S := S) l hinj (by decide +kernel) (Nat.le_of_ble_eq_true rfl) (fun p e s m args below meth c E => ?_)
  obtain ⟨hx, hb, hml, hown, hts, hK, hN, -, hr, hlk⟩ := id E
  have hown : s.vm.findClass RX6 = some m.cls := hown
  have r41 : ∀ (y3 : Int) (P1 : hGM), hIn y3 → ((∀ (i : Nat) (k : Int), i < 100 → hIn (P1 i k)) → (p_X6_of P1 glyph 1 ∧ (p_X6_at glyph (v_X6_of P1 glyph 1) 0 ∧ ((y3 < (v_X6_at glyph (v_X6_of P1 glyph 1) 0) → ((0 ≤ (y3 + 3) ∧ (y3 + 3) < 273) ∧ ((0 ≤ y3 ∧ y3 < 273) ∧ (hAt D ad cI cJ cF p l e ({ frames := 2, cells := 0, slots := 0, locals := 44 } : Room) s m args below meth c (MQ below (hQi D ad cI cJ cF (v_X6_cut P glyph stem) (gset S 10 (m_X6_cut P glyph stem))) args s 0 0 (hAd ad)) 4 41 [(0, .ref (ad 10 0)), (1, .int (hI glyph)), (3, .int (hI (y3 + 1)))] (gset S 10 (aset P1 1 y3 (P1 1 (y3 + 3)))))))) ∧ (¬ y3 < (v_X6_at glyph (v_X6_of P1 glyph 1) 0) → ((v_X6_of P1 glyph 1) = v_X6_cut P glyph stem ∧ P1 = m_X6_cut P glyph stem)))))) → (hAt D ad cI cJ cF p l e ({ frames := 2, cells := 0, slots := 0, locals := 44 } : Room) s m args below meth c (MQ below (hQi D ad cI cJ cF (v_X6_cut P glyph stem) (gset S 10 (m_X6_cut P glyph stem))) args s 0 0 (hAd ad)) 4 41 [(0, .ref (ad 10 0)), (1, .int (hI glyph)), (3, .int (hI y3))] (gset S 10 P1)) := by
    intro y3 P1 h_y3 h H locs ls hh hl
    have h := h (fun i k hi => hIn_rd hh.2.1 (gset_at _ _ _) hi)
    refine lv_iload_n hx hb dX6_cut_41 rfl (lv_at hl 2 rfl) ?_
    refine lv_iload_n hx hb dX6_cut_42 rfl (lv_at hl 1 rfl) ?_
    refine lv_aload_n hx hb dX6_cut_43 rfl (lv_at hl 0 rfl) ?_
    refine lv_iload_n hx hb dX6_cut_44 rfl (lv_at hl 1 rfl) ?_
    refine iv_iconst hx hb dX6_cut_45 ?_
    obtain ⟨g1, h⟩ := h
    refine iv_ki (iv_rV (As := [.int (hI glyph), .int (hI 1)]) (rest := [.int (hI glyph), .int (hI y3)]) E hh (ok_X6_of l hinj (gset S 10 P1) P1 (gset_at _ _ _) glyph 1 h_glyph ⟨by decide, by decide⟩ g1) cb_X6_of q3_237 rfl rfl ⟨Nat.le_of_ble_eq_true rfl, Nat.le_of_ble_eq_true rfl⟩ (ob_Model) rfl rfl rfl hl.1 rfl (Nat.le_of_ble_eq_true rfl) dX6_cut_46 ⟨Nat.zero_le _, Nat.zero_le _⟩) hh (fun hc2 H locs hh => ?_)
    refine iv_iconst hx hb dX6_cut_49 ?_
    obtain ⟨g3, h⟩ := h
    refine iv_ki (iv_rS (As := [.int (hI glyph), .int (hI (v_X6_of P1 glyph 1)), .int (hI 0)]) (rest := [.int (hI y3)]) E hh (ok_X6_at l hinj (gset S 10 P1) glyph (v_X6_of P1 glyph 1) 0 h_glyph hc2 ⟨by decide, by decide⟩ g3) cb_X6_at q4_5 rfl rfl ⟨Nat.le_of_ble_eq_true rfl, Nat.le_of_ble_eq_true rfl⟩ rfl hl.1 rfl (Nat.le_of_ble_eq_true rfl) dX6_cut_50 ⟨Nat.zero_le _, Nat.zero_le _⟩) hh (fun hc4 H locs hh => ?_)
    refine iv_icmp_ge (tgt := 76) hx hb h_y3 hc4 dX6_cut_53 (by decide) (fun c5 => ?_) (fun c5 => ?_)
    · have h := h.2 c5
      refine lv_aload_n hx hb dX6_cut_76 rfl (lv_at hl 0 rfl) ?_
      refine lv_iload_n hx hb dX6_cut_77 rfl (lv_at hl 1 rfl) ?_
      refine iv_iconst hx hb dX6_cut_78 ?_
      refine iv_ki (iv_rV (As := [.int (hI glyph), .int (hI 1)]) (rest := []) E hh (ok_X6_of l hinj (gset S 10 P1) P1 (gset_at _ _ _) glyph 1 h_glyph ⟨by decide, by decide⟩ g1) cb_X6_of q3_237 rfl rfl ⟨Nat.le_of_ble_eq_true rfl, Nat.le_of_ble_eq_true rfl⟩ (ob_Model) rfl rfl rfl hl.1 rfl (Nat.le_of_ble_eq_true rfl) dX6_cut_79 ⟨Nat.zero_le _, Nat.zero_le _⟩) hh (fun hc6 H locs hh => ?_)
      exact iv_iret E hh h.1 (by rw [← h.1]; exact hc6) (by rw [← h.2]) dX6_cut_82
    · have h := h.1 c5
      refine lv_aload_n hx hb dX6_cut_56 rfl (lv_at hl 0 rfl) ?_
      refine iv_get (v' := .ref (ad 10 1)) hx hb hts inX6 hown hK hh.1 (ob_Model) rfl 0 (by decide) (hts _ q3_160) rfl rfl rfl dX6_cut_57 ?_
      refine lv_iload_n hx hb dX6_cut_60 rfl (lv_at hl 2 rfl) ?_
      refine lv_aload_n hx hb dX6_cut_61 rfl (lv_at hl 0 rfl) ?_
      refine iv_get (v' := .ref (ad 10 1)) hx hb hts inX6 hown hK hh.1 (ob_Model) rfl 0 (by decide) (hts _ q3_160) rfl rfl rfl dX6_cut_62 ?_
      refine lv_iload_n hx hb dX6_cut_65 rfl (lv_at hl 2 rfl) ?_
      refine iv_iconst hx hb dX6_cut_66 ?_
      refine iv_iadd hx hb dX6_cut_67 ?_
      obtain ⟨g7, h⟩ := h
      refine iv_iald hx hb hK hh.1 (ia_10_1) g7 (v := (P1 1 (y3 + 3))) (congrArg (fun z => z 1 (y3 + 3)) (gset_at _ _ _)) dX6_cut_68 ?_
      have hm8 : hIn (P1 1 (y3 + 3)) := hIn_rd hh.2.1 (gset_at _ _ _) (by decide)
      obtain ⟨g9, h⟩ := h
      refine iv_iast (S' := (gset S 10 (aset P1 1 y3 (P1 1 (y3 + 3))))) hx hb hK hinj hh (ia_10_1) g9 hm8 (by rw [show (gset S 10 P1) 10 = P1 from (gset_at _ _ _)]; exact (gset_gset _ _ _ _)) dX6_cut_69 (fun H locs hh => ?_)
      refine iv_iinc (lv' := [(3, .int (hI (y3 + 1))), (0, .ref (ad 10 0)), (1, .int (hI glyph))]) hx hb dX6_cut_70 hl (k := 2) rfl (v := (y3 + 1)) rfl (by decide) rfl (fun ls hl => ?_)
      refine lv_goto (tgt := 41) hx hb dX6_cut_73 (by decide) ?_
      exact h H _ ls hh (lv_sub hl [1, 2, 0] rfl)
  intro H locs ls hh hl
  have hl : lv_has ls 4 [(0, .ref (ad 10 0)), (1, .int (hI glyph)), (2, .int (hI stem))] := hl
  replace hh : hH D ad cI cJ cF (gset S 10 P) s H locs := by rw [← can1 hP]; exact hh
  have h := x_X6_cut P glyph stem h_glyph h_stem (fun i k hi => hIn_rd hh.2.1 (gset_at _ _ _) hi) hp (fun y3 P1 => (hAt D ad cI cJ cF p l e ({ frames := 2, cells := 0, slots := 0, locals := 44 } : Room) s m args below meth c (MQ below (hQi D ad cI cJ cF (v_X6_cut P glyph stem) (gset S 10 (m_X6_cut P glyph stem))) args s 0 0 (hAd ad)) 4 41 [(0, .ref (ad 10 0)), (1, .int (hI glyph)), (3, .int (hI y3))] (gset S 10 P1))) (fun r P1 => (r = v_X6_cut P glyph stem ∧ P1 = m_X6_cut P glyph stem)) r41 ⟨rfl, rfl⟩
  refine lv_aload_n hx hb dX6_cut_0 rfl (lv_at hl 0 rfl) ?_
  refine lv_iload_n hx hb dX6_cut_1 rfl (lv_at hl 1 rfl) ?_
  refine lv_iload_n hx hb dX6_cut_2 rfl (lv_at hl 2 rfl) ?_
  obtain ⟨g10, h⟩ := h
  refine iv_ki (iv_rV (As := [.int (hI glyph), .int (hI stem)]) (rest := []) E hh (ok_X6_isStem l hinj (gset S 10 P) P (gset_at _ _ _) glyph stem h_glyph h_stem g10) cb_X6_isStem q4_17 rfl rfl ⟨Nat.le_of_ble_eq_true rfl, Nat.le_of_ble_eq_true rfl⟩ (ob_Model) rfl rfl rfl hl.1 rfl (Nat.le_of_ble_eq_true rfl) dX6_cut_3 ⟨Nat.zero_le _, Nat.zero_le _⟩) hh (fun hc11 H locs hh => ?_)
  refine iv_if_ne (tgt := 12) hx hb hc11 dX6_cut_6 (by decide) (fun c12 => ?_) (fun c12 => ?_)
  · have h := h.2 c12
    refine lv_aload_n hx hb dX6_cut_12 rfl (lv_at hl 0 rfl) ?_
    obtain ⟨g13, h⟩ := h
    refine iv_kv (iv_rV (As := []) (rest := []) E hh (ok_X6_changes l hinj (gset S 10 P) P (gset_at _ _ _) g13) cb_X6_changes q3_221 rfl rfl ⟨Nat.le_of_ble_eq_true rfl, Nat.le_of_ble_eq_true rfl⟩ (ob_Model) rfl rfl rfl hl.1 rfl (Nat.le_of_ble_eq_true rfl) dX6_cut_13 ⟨Nat.zero_le _, Nat.zero_le _⟩) hh (fun H locs hh => ?_)
    replace hh : hH D ad cI cJ cF (gset S 10 (m_X6_changes P)) s H locs := by rw [← show _ = (gset S 10 (m_X6_changes P)) from (gset_gset _ _ _ _)]; exact hh
    refine lv_aload_n hx hb dX6_cut_16 rfl (lv_at hl 0 rfl) ?_
    refine iv_get (v' := .ref (ad 10 1)) hx hb hts inX6 hown hK hh.1 (ob_Model) rfl 0 (by decide) (hts _ q3_160) rfl rfl rfl dX6_cut_17 ?_
    refine lv_bipush (v := hI 9) hx hb dX6_cut_20 (by decide) ?_
    refine lv_bipush (v := hI 20) hx hb dX6_cut_22 (by decide) ?_
    refine lv_iload_n hx hb dX6_cut_24 rfl (lv_at hl 1 rfl) ?_
    refine iv_imul hx hb dX6_cut_25 ?_
    refine iv_iadd hx hb dX6_cut_26 ?_
    refine iv_iconst hx hb dX6_cut_27 ?_
    refine iv_iadd hx hb dX6_cut_28 ?_
    refine lv_dup2_11 hx hb dX6_cut_29 rfl rfl ?_
    obtain ⟨g14, h⟩ := h
    refine iv_iald hx hb hK hh.1 (ia_10_1) g14 (v := ((m_X6_changes P) 1 ((9 + (20 * glyph)) + 1))) (congrArg (fun z => z 1 ((9 + (20 * glyph)) + 1)) (gset_at _ _ _)) dX6_cut_30 ?_
    have hm15 : hIn ((m_X6_changes P) 1 ((9 + (20 * glyph)) + 1)) := hIn_rd hh.2.1 (gset_at _ _ _) (by decide)
    refine iv_iconst hx hb dX6_cut_31 ?_
    refine iv_isub hx hb dX6_cut_32 ?_
    obtain ⟨g16, h⟩ := h
    refine iv_iast (S' := (gset S 10 (aset (m_X6_changes P) 1 ((9 + (20 * glyph)) + 1) (((m_X6_changes P) 1 ((9 + (20 * glyph)) + 1)) - 1)))) hx hb hK hinj hh (ia_10_1) g14 g16 (by rw [show (gset S 10 (m_X6_changes P)) 10 = (m_X6_changes P) from (gset_at _ _ _)]; exact (gset_gset _ _ _ _)) dX6_cut_33 (fun H locs hh => ?_)
    refine lv_iload_n hx hb dX6_cut_34 rfl (lv_at hl 1 rfl) ?_
    refine lv_iload_n hx hb dX6_cut_35 rfl (lv_at hl 2 rfl) ?_
    refine iv_iconst hx hb dX6_cut_36 ?_
    obtain ⟨g17, h⟩ := h
    refine iv_ki (iv_rS (As := [.int (hI glyph), .int (hI stem), .int (hI 0)]) (rest := []) E hh (ok_X6_at l hinj (gset S 10 (aset (m_X6_changes P) 1 ((9 + (20 * glyph)) + 1) (((m_X6_changes P) 1 ((9 + (20 * glyph)) + 1)) - 1))) glyph stem 0 h_glyph h_stem ⟨by decide, by decide⟩ g17) cb_X6_at q4_5 rfl rfl ⟨Nat.le_of_ble_eq_true rfl, Nat.le_of_ble_eq_true rfl⟩ rfl hl.1 rfl (Nat.le_of_ble_eq_true rfl) dX6_cut_37 ⟨Nat.zero_le _, Nat.zero_le _⟩) hh (fun hc18 H locs hh => ?_)
    refine lv_istore_n (lv' := [(3, .int (hI (v_X6_at glyph stem 0))), (0, .ref (ad 10 0)), (1, .int (hI glyph)), (2, .int (hI stem))]) hx hb dX6_cut_40 rfl hl (by decide) rfl (fun ls hl => ?_)
    exact h H _ ls hh (lv_sub hl [1, 2, 0] rfl)
  · have h := h.1 c12
    refine iv_ldc (n := (-1000001)) hx hb (by decide) hown (hts _ q3_219) dX6_cut_9 ?_
    exact iv_iret E hh h.1 (by rw [← h.1]; exact ⟨by decide, by decide⟩) (by rw [← h.2]) dX6_cut_11
set_option maxHeartbeats 4000000 in
set_option maxRecDepth 100000 in
theorem ok_X6_hint (l : Launch) (hinj : hInj ad) (S : hS) (P : hGM) (hP : S 10 = P) (glyph : Int) (stem : Int) (hint : Int) (h_glyph : hIn glyph) (h_stem : hIn stem) (h_hint : hIn hint) (hp : p_X6_hint P glyph stem hint) : hMi D ad cI cJ cF l yX6_hint cX6_hint 5 (some .int) ({ frames := 2, cells := 0, slots := 0, locals := 45 } : Room) [.ref (ad 10 0), .int (hI glyph), .int (hI stem), .int (hI hint)] S (v_X6_hint P glyph stem hint) (gset S 10 (m_X6_hint P glyph stem hint)) := by
  refine hOf (S := S) l hinj (by decide +kernel) (Nat.le_of_ble_eq_true rfl) (fun p e s m args below meth c E => ?_)
  obtain ⟨hx, hb, hml, hown, hts, hK, hN, -, hr, hlk⟩ := id E
  have hown : s.vm.findClass RX6 = some m.cls := hown
  intro H locs ls hh hl
  have hl : lv_has ls 5 [(0, .ref (ad 10 0)), (1, .int (hI glyph)), (2, .int (hI stem)), (3, .int (hI hint))] := hl
  replace hh : hH D ad cI cJ cF (gset S 10 P) s H locs := by rw [← can1 hP]; exact hh
  have h := hp
  unfold p_X6_hint at h
  refine lv_aload_n hx hb dX6_hint_0 rfl (lv_at hl 0 rfl) ?_
  refine lv_iload_n hx hb dX6_hint_1 rfl (lv_at hl 1 rfl) ?_
  refine lv_iload_n hx hb dX6_hint_2 rfl (lv_at hl 2 rfl) ?_
  obtain ⟨g1, h⟩ := h
  refine iv_ki (iv_rV (As := [.int (hI glyph), .int (hI stem)]) (rest := []) E hh (ok_X6_isStem l hinj (gset S 10 P) P (gset_at _ _ _) glyph stem h_glyph h_stem g1) cb_X6_isStem q4_17 rfl rfl ⟨Nat.le_of_ble_eq_true rfl, Nat.le_of_ble_eq_true rfl⟩ (ob_Model) rfl rfl rfl hl.1 rfl (Nat.le_of_ble_eq_true rfl) dX6_hint_3 ⟨Nat.zero_le _, Nat.zero_le _⟩) hh (fun hc2 H locs hh => ?_)
  refine iv_if_eq (tgt := 18) hx hb hc2 dX6_hint_6 (by decide) (fun c3 => ?_) (fun c3 => ?_)
  · have h := h.1 c3
    refine iv_ldc (n := (-1000001)) hx hb (by decide) hown (hts _ q3_219) dX6_hint_18 ?_
    exact iv_iret E hh (by unfold v_X6_hint; rw [if_pos c3]) (by rw [← show (-1000001) = v_X6_hint P glyph stem hint from (by unfold v_X6_hint; rw [if_pos c3])]; exact ⟨by decide, by decide⟩) (by unfold m_X6_hint; rw [if_pos c3]) dX6_hint_20
  · have h := h.2 c3
    refine lv_iload_n hx hb dX6_hint_9 rfl (lv_at hl 3 rfl) ?_
    refine iv_iconst hx hb dX6_hint_10 ?_
    refine iv_iconst hx hb dX6_hint_11 ?_
    refine iv_ki (iv_rS (As := [.int (hI hint), .int (hI 0), .int (hI 3)]) (rest := []) E hh (ok_X6_in l hinj (gset S 10 P) hint 0 3 h_hint ⟨by decide, by decide⟩ ⟨by decide, by decide⟩) cb_X6_in q3_216 rfl rfl ⟨Nat.le_of_ble_eq_true rfl, Nat.le_of_ble_eq_true rfl⟩ rfl hl.1 rfl (Nat.le_of_ble_eq_true rfl) dX6_hint_12 ⟨Nat.zero_le _, Nat.zero_le _⟩) hh (fun hc4 H locs hh => ?_)
    refine iv_if_ne (tgt := 21) hx hb hc4 dX6_hint_15 (by decide) (fun c5 => ?_) (fun c5 => ?_)
    · have h := h.2 c5
      refine lv_aload_n hx hb dX6_hint_21 rfl (lv_at hl 0 rfl) ?_
      obtain ⟨g6, h⟩ := h
      refine iv_kv (iv_rV (As := []) (rest := []) E hh (ok_X6_changes l hinj (gset S 10 P) P (gset_at _ _ _) g6) cb_X6_changes q3_221 rfl rfl ⟨Nat.le_of_ble_eq_true rfl, Nat.le_of_ble_eq_true rfl⟩ (ob_Model) rfl rfl rfl hl.1 rfl (Nat.le_of_ble_eq_true rfl) dX6_hint_22 ⟨Nat.zero_le _, Nat.zero_le _⟩) hh (fun H locs hh => ?_)
      replace hh : hH D ad cI cJ cF (gset S 10 (m_X6_changes P)) s H locs := by rw [← show _ = (gset S 10 (m_X6_changes P)) from (gset_gset _ _ _ _)]; exact hh
      refine lv_aload_n hx hb dX6_hint_25 rfl (lv_at hl 0 rfl) ?_
      refine lv_iload_n hx hb dX6_hint_26 rfl (lv_at hl 1 rfl) ?_
      refine lv_iload_n hx hb dX6_hint_27 rfl (lv_at hl 2 rfl) ?_
      refine iv_iconst hx hb dX6_hint_28 ?_
      obtain ⟨g7, h⟩ := h
      refine iv_ki (iv_rV (As := [.int (hI glyph), .int (hI stem), .int (hI 2)]) (rest := []) E hh (ok_X6_ofStem l hinj (gset S 10 (m_X6_changes P)) (m_X6_changes P) (gset_at _ _ _) glyph stem 2 h_glyph h_stem ⟨by decide, by decide⟩ g7) cb_X6_ofStem q4_1 rfl rfl ⟨Nat.le_of_ble_eq_true rfl, Nat.le_of_ble_eq_true rfl⟩ (ob_Model) rfl rfl rfl hl.1 rfl (Nat.le_of_ble_eq_true rfl) dX6_hint_29 ⟨Nat.zero_le _, Nat.zero_le _⟩) hh (fun hc8 H locs hh => ?_)
      refine lv_istore (lv' := [(4, .int (hI (v_X6_ofStem (m_X6_changes P) glyph stem 2))), (0, .ref (ad 10 0)), (1, .int (hI glyph)), (2, .int (hI stem)), (3, .int (hI hint))]) hx hb dX6_hint_32 hl (by decide) rfl (fun ls hl => ?_)
      refine lv_aload_n hx hb dX6_hint_34 rfl (lv_at hl 1 rfl) ?_
      refine iv_get (v' := .ref (ad 10 1)) hx hb hts inX6 hown hK hh.1 (ob_Model) rfl 0 (by decide) (hts _ q3_160) rfl rfl rfl dX6_hint_35 ?_
      refine lv_iload_n hx hb dX6_hint_38 rfl (lv_at hl 2 rfl) ?_
      refine lv_iload_n hx hb dX6_hint_39 rfl (lv_at hl 3 rfl) ?_
      refine iv_iconst hx hb dX6_hint_40 ?_
      obtain ⟨g9, h⟩ := h
      refine iv_ki (iv_rS (As := [.int (hI glyph), .int (hI stem), .int (hI 2)]) (rest := [.ref (ad 10 1)]) E hh (ok_X6_at l hinj (gset S 10 (m_X6_changes P)) glyph stem 2 h_glyph h_stem ⟨by decide, by decide⟩ g9) cb_X6_at q4_5 rfl rfl ⟨Nat.le_of_ble_eq_true rfl, Nat.le_of_ble_eq_true rfl⟩ rfl hl.1 rfl (Nat.le_of_ble_eq_true rfl) dX6_hint_41 ⟨Nat.zero_le _, Nat.zero_le _⟩) hh (fun hc10 H locs hh => ?_)
      refine lv_iload_n hx hb dX6_hint_44 rfl (lv_at hl 4 rfl) ?_
      obtain ⟨g11, h⟩ := h
      refine iv_iast (S' := (gset S 10 (aset (m_X6_changes P) 1 (v_X6_at glyph stem 2) hint))) hx hb hK hinj hh (ia_10_1) g11 h_hint (by rw [show (gset S 10 (m_X6_changes P)) 10 = (m_X6_changes P) from (gset_at _ _ _)]; exact (gset_gset _ _ _ _)) dX6_hint_45 (fun H locs hh => ?_)
      refine lv_iload hx hb dX6_hint_46 (lv_at hl 0 rfl) ?_
      exact iv_iret E hh (by unfold v_X6_hint; rw [if_neg c3, if_neg c5]) (by rw [← show (v_X6_ofStem (m_X6_changes P) glyph stem 2) = v_X6_hint P glyph stem hint from (by unfold v_X6_hint; rw [if_neg c3, if_neg c5])]; exact hc8) (by unfold m_X6_hint; rw [if_neg c3, if_neg c5]) dX6_hint_48
    · have h := h.1 c5
      refine iv_ldc (n := (-1000001)) hx hb (by decide) hown (hts _ q3_219) dX6_hint_18 ?_
      exact iv_iret E hh (by unfold v_X6_hint; rw [if_neg c3, if_pos c5]) (by rw [← show (-1000001) = v_X6_hint P glyph stem hint from (by unfold v_X6_hint; rw [if_neg c3, if_pos c5])]; exact ⟨by decide, by decide⟩) (by unfold m_X6_hint; rw [if_neg c3, if_pos c5]) dX6_hint_20
set_option maxHeartbeats 4000000 in
set_option maxRecDepth 100000 in
theorem ok_X6_wideAt (l : Launch) (hinj : hInj ad) (S : hS) (P : hGM) (hP : S 10 = P) (width : Int) (h_width : hIn width) (hp : p_X6_wideAt P width) : hMi D ad cI cJ cF l yX6_wideAt cX6_wideAt 3 (some .int) ({ frames := 0, cells := 0, slots := 0, locals := 0 } : Room) [.ref (ad 10 0), .int (hI width)] S (v_X6_wideAt P width) S := by
  refine hOf (S := S) l hinj (by decide +kernel) (Nat.le_of_ble_eq_true rfl) (fun p e s m args below meth c E => ?_)
  obtain ⟨hx, hb, hml, hown, hts, hK, hN, -, hr, hlk⟩ := id E
  have hown : s.vm.findClass RX6 = some m.cls := hown
  have r2 : ∀ (y2 : Int), hIn y2 → (((y2 < (P 1 1) → ((0 ≤ (2 + y2) ∧ (2 + y2) < 273) ∧ (((P 1 (2 + y2)) = width → (y2 = v_X6_wideAt P width)) ∧ (¬ (P 1 (2 + y2)) = width → (hAt D ad cI cJ cF p l e ({ frames := 0, cells := 0, slots := 0, locals := 0 } : Room) s m args below meth c (MQ below (hQi D ad cI cJ cF (v_X6_wideAt P width) S) args s 0 0 (hAd ad)) 3 2 [(0, .ref (ad 10 0)), (1, .int (hI width)), (2, .int (hI (y2 + 1)))] S))))) ∧ (¬ y2 < (P 1 1) → ((-1000004) = v_X6_wideAt P width)))) → (hAt D ad cI cJ cF p l e ({ frames := 0, cells := 0, slots := 0, locals := 0 } : Room) s m args below meth c (MQ below (hQi D ad cI cJ cF (v_X6_wideAt P width) S) args s 0 0 (hAd ad)) 3 2 [(0, .ref (ad 10 0)), (1, .int (hI width)), (2, .int (hI y2))] S) := by
    intro y2 h_y2 h H locs ls hh hl
    refine lv_iload_n hx hb dX6_wideAt_2 rfl (lv_at hl 2 rfl) ?_
    refine lv_aload_n hx hb dX6_wideAt_3 rfl (lv_at hl 0 rfl) ?_
    refine iv_get (v' := .ref (ad 10 1)) hx hb hts inX6 hown hK hh.1 (ob_Model) rfl 0 (by decide) (hts _ q3_160) rfl rfl rfl dX6_wideAt_4 ?_
    refine iv_iconst hx hb dX6_wideAt_7 ?_
    refine iv_iald hx hb hK hh.1 (ia_10_1) ⟨by decide, by decide⟩ (v := (P 1 1)) (congrArg (fun z => z 1 1) hP) dX6_wideAt_8 ?_
    have hm1 : hIn (P 1 1) := hIn_rd hh.2.1 hP (by decide)
    refine iv_icmp_ge (tgt := 32) hx hb h_y2 hm1 dX6_wideAt_9 (by decide) (fun c2 => ?_) (fun c2 => ?_)
    · have h := h.2 c2
      refine iv_ldc (n := (-1000004)) hx hb (by decide) hown (hts _ q4_33) dX6_wideAt_32 ?_
      exact iv_iret E hh h (by rw [← h]; exact ⟨by decide, by decide⟩) rfl dX6_wideAt_34
    · have h := h.1 c2
      refine lv_aload_n hx hb dX6_wideAt_12 rfl (lv_at hl 0 rfl) ?_
      refine iv_get (v' := .ref (ad 10 1)) hx hb hts inX6 hown hK hh.1 (ob_Model) rfl 0 (by decide) (hts _ q3_160) rfl rfl rfl dX6_wideAt_13 ?_
      refine iv_iconst hx hb dX6_wideAt_16 ?_
      refine lv_iload_n hx hb dX6_wideAt_17 rfl (lv_at hl 2 rfl) ?_
      refine iv_iadd hx hb dX6_wideAt_18 ?_
      obtain ⟨g3, h⟩ := h
      refine iv_iald hx hb hK hh.1 (ia_10_1) g3 (v := (P 1 (2 + y2))) (congrArg (fun z => z 1 (2 + y2)) hP) dX6_wideAt_19 ?_
      have hm4 : hIn (P 1 (2 + y2)) := hIn_rd hh.2.1 hP (by decide)
      refine lv_iload_n hx hb dX6_wideAt_20 rfl (lv_at hl 1 rfl) ?_
      refine iv_icmp_ne (tgt := 26) hx hb hm4 h_width dX6_wideAt_21 (by decide) (fun c5 => ?_) (fun c5 => ?_)
      · have h := h.2 c5
        refine iv_iinc (lv' := [(2, .int (hI (y2 + 1))), (0, .ref (ad 10 0)), (1, .int (hI width))]) hx hb dX6_wideAt_26 hl (k := 2) rfl (v := (y2 + 1)) rfl (by decide) rfl (fun ls hl => ?_)
        refine lv_goto (tgt := 2) hx hb dX6_wideAt_29 (by decide) ?_
        exact h H _ ls hh (lv_sub hl [1, 2, 0] rfl)
      · have h := h.1 c5
        refine lv_iload_n hx hb dX6_wideAt_24 rfl (lv_at hl 2 rfl) ?_
        exact iv_iret E hh h (by rw [← h]; exact h_y2) rfl dX6_wideAt_25
  intro H locs ls hh hl
  have hl : lv_has ls 3 [(0, .ref (ad 10 0)), (1, .int (hI width))] := hl
  have h := x_X6_wideAt P width h_width (fun i k hi => hIn_rd hh.2.1 hP hi) hp (fun y2 => (hAt D ad cI cJ cF p l e ({ frames := 0, cells := 0, slots := 0, locals := 0 } : Room) s m args below meth c (MQ below (hQi D ad cI cJ cF (v_X6_wideAt P width) S) args s 0 0 (hAd ad)) 3 2 [(0, .ref (ad 10 0)), (1, .int (hI width)), (2, .int (hI y2))] S)) (fun r => (r = v_X6_wideAt P width)) r2 rfl
  refine iv_iconst hx hb dX6_wideAt_0 ?_
  refine lv_istore_n (lv' := [(2, .int (hI 0)), (0, .ref (ad 10 0)), (1, .int (hI width))]) hx hb dX6_wideAt_1 rfl hl (by decide) rfl (fun ls hl => ?_)
  exact h H _ ls hh (lv_sub hl [1, 2, 0] rfl)
set_option maxHeartbeats 4000000 in
set_option maxRecDepth 100000 in
theorem ok_X6_size (l : Launch) (hinj : hInj ad) (S : hS) (v1 : Int) (h_v1 : hIn v1) (hp : p_X6_size v1) : hMi D ad cI cJ cF l yX6_size cX6_size 1 (some .int) ({ frames := 0, cells := 0, slots := 0, locals := 0 } : Room) [.int (hI v1)] S (v_X6_size v1) S := by
  refine hOf (S := S) l hinj (by decide +kernel) (Nat.le_of_ble_eq_true rfl) (fun p e s m args below meth c E => ?_)
  obtain ⟨hx, hb, hml, hown, hts, hK, hN, -, hr, hlk⟩ := id E
  have hown : s.vm.findClass RX6 = some m.cls := hown
  intro H locs ls hh hl
  have hl : lv_has ls 1 [(0, .int (hI v1))] := hl
  have h := hp
  unfold p_X6_size at h
  refine lv_iload_n hx hb dX6_size_0 rfl (lv_at hl 0 rfl) ?_
  refine iv_if_ge (tgt := 9) hx hb h_v1 dX6_size_1 (by decide) (fun c1 => ?_) (fun c1 => ?_)
  · have h := h.2 c1
    refine lv_iload_n hx hb dX6_size_9 rfl (lv_at hl 0 rfl) ?_
    exact iv_iret E hh (by unfold v_X6_size; rw [if_neg c1]) (by rw [← show v1 = v_X6_size v1 from (by unfold v_X6_size; rw [if_neg c1])]; exact h_v1) rfl dX6_size_10
  · have h := h.1 c1
    refine lv_iload_n hx hb dX6_size_4 rfl (lv_at hl 0 rfl) ?_
    refine iv_ineg hx hb dX6_size_5 ?_
    refine lv_goto (tgt := 10) hx hb dX6_size_6 (by decide) ?_
    obtain ⟨g2, h⟩ := h
    exact iv_iret E hh (by unfold v_X6_size; rw [if_pos c1]) (by rw [← show (-v1) = v_X6_size v1 from (by unfold v_X6_size; rw [if_pos c1])]; exact g2) rfl dX6_size_10
set_option maxHeartbeats 4000000 in
set_option maxRecDepth 100000 in
theorem ok_X6_snaps (l : Launch) (hinj : hInj ad) (S : hS) (P : hGM) (hP : S 10 = P) (width : Int) (h_width : hIn width) (hp : p_X6_snaps P width) : hMi D ad cI cJ cF l yX6_snaps cX6_snaps 7 (some .int) ({ frames := 1, cells := 0, slots := 0, locals := 20 } : Room) [.ref (ad 10 0), .int (hI width)] S (v_X6_snaps P width) S := by
  refine hOf (S := S) l hinj (by decide +kernel) (Nat.le_of_ble_eq_true rfl) (fun p e s m args below meth c E => ?_)
  obtain ⟨hx, hb, hml, hown, hts, hK, hN, -, hr, hlk⟩ := id E
  have hown : s.vm.findClass RX6 = some m.cls := hown
  have r13 : ∀ (y2 : Int) (y3 : Int) (y4 : Int), hIn y2 → hIn y3 → hIn y4 → (((y4 < (P 1 1) → ((0 ≤ (2 + y4) ∧ (2 + y4) < 273) ∧ (hIn ((P 1 (2 + y4)) - width) ∧ (p_X6_size ((P 1 (2 + y4)) - width) ∧ ((y2 < 0 → (((v_X6_size ((P 1 (2 + y4)) - width)) ≤ y3 → (hAt D ad cI cJ cF p l e ({ frames := 1, cells := 0, slots := 0, locals := 20 } : Room) s m args below meth c (MQ below (hQi D ad cI cJ cF (v_X6_snaps P width) S) args s 0 0 (hAd ad)) 7 13 [(0, .ref (ad 10 0)), (1, .int (hI width)), (2, .int (hI (P 1 (2 + y4)))), (3, .int (hI (v_X6_size ((P 1 (2 + y4)) - width)))), (4, .int (hI (y4 + 1)))] S)) ∧ (¬ (v_X6_size ((P 1 (2 + y4)) - width)) ≤ y3 → (hAt D ad cI cJ cF p l e ({ frames := 1, cells := 0, slots := 0, locals := 20 } : Room) s m args below meth c (MQ below (hQi D ad cI cJ cF (v_X6_snaps P width) S) args s 0 0 (hAd ad)) 7 13 [(0, .ref (ad 10 0)), (1, .int (hI width)), (2, .int (hI y2)), (3, .int (hI y3)), (4, .int (hI (y4 + 1)))] S)))) ∧ (¬ y2 < 0 → (((v_X6_size ((P 1 (2 + y4)) - width)) < y3 → (hAt D ad cI cJ cF p l e ({ frames := 1, cells := 0, slots := 0, locals := 20 } : Room) s m args below meth c (MQ below (hQi D ad cI cJ cF (v_X6_snaps P width) S) args s 0 0 (hAd ad)) 7 13 [(0, .ref (ad 10 0)), (1, .int (hI width)), (2, .int (hI (P 1 (2 + y4)))), (3, .int (hI (v_X6_size ((P 1 (2 + y4)) - width)))), (4, .int (hI (y4 + 1)))] S)) ∧ (¬ (v_X6_size ((P 1 (2 + y4)) - width)) < y3 → (hAt D ad cI cJ cF p l e ({ frames := 1, cells := 0, slots := 0, locals := 20 } : Room) s m args below meth c (MQ below (hQi D ad cI cJ cF (v_X6_snaps P width) S) args s 0 0 (hAd ad)) 7 13 [(0, .ref (ad 10 0)), (1, .int (hI width)), (2, .int (hI y2)), (3, .int (hI y3)), (4, .int (hI (y4 + 1)))] S))))))))) ∧ (¬ y4 < (P 1 1) → (y2 = v_X6_snaps P width)))) → (hAt D ad cI cJ cF p l e ({ frames := 1, cells := 0, slots := 0, locals := 20 } : Room) s m args below meth c (MQ below (hQi D ad cI cJ cF (v_X6_snaps P width) S) args s 0 0 (hAd ad)) 7 13 [(0, .ref (ad 10 0)), (1, .int (hI width)), (2, .int (hI y2)), (3, .int (hI y3)), (4, .int (hI y4))] S) := by
    intro y2 y3 y4 h_y2 h_y3 h_y4 h H locs ls hh hl
    refine lv_iload hx hb dX6_snaps_13 (lv_at hl 4 rfl) ?_
    refine lv_aload_n hx hb dX6_snaps_15 rfl (lv_at hl 0 rfl) ?_
    refine iv_get (v' := .ref (ad 10 1)) hx hb hts inX6 hown hK hh.1 (ob_Model) rfl 0 (by decide) (hts _ q3_160) rfl rfl rfl dX6_snaps_16 ?_
    refine iv_iconst hx hb dX6_snaps_19 ?_
    refine iv_iald hx hb hK hh.1 (ia_10_1) ⟨by decide, by decide⟩ (v := (P 1 1)) (congrArg (fun z => z 1 1) hP) dX6_snaps_20 ?_
    have hm1 : hIn (P 1 1) := hIn_rd hh.2.1 hP (by decide)
    refine iv_icmp_ge (tgt := 108) hx hb h_y4 hm1 dX6_snaps_21 (by decide) (fun c2 => ?_) (fun c2 => ?_)
    · have h := h.2 c2
      refine lv_iload_n hx hb dX6_snaps_108 rfl (lv_at hl 2 rfl) ?_
      exact iv_iret E hh h (by rw [← h]; exact h_y2) rfl dX6_snaps_109
    · have h := h.1 c2
      refine lv_aload_n hx hb dX6_snaps_24 rfl (lv_at hl 0 rfl) ?_
      refine iv_get (v' := .ref (ad 10 1)) hx hb hts inX6 hown hK hh.1 (ob_Model) rfl 0 (by decide) (hts _ q3_160) rfl rfl rfl dX6_snaps_25 ?_
      refine iv_iconst hx hb dX6_snaps_28 ?_
      refine lv_iload hx hb dX6_snaps_29 (lv_at hl 4 rfl) ?_
      refine iv_iadd hx hb dX6_snaps_31 ?_
      obtain ⟨g3, h⟩ := h
      refine iv_iald hx hb hK hh.1 (ia_10_1) g3 (v := (P 1 (2 + y4))) (congrArg (fun z => z 1 (2 + y4)) hP) dX6_snaps_32 ?_
      have hm4 : hIn (P 1 (2 + y4)) := hIn_rd hh.2.1 hP (by decide)
      refine lv_iload_n hx hb dX6_snaps_33 rfl (lv_at hl 1 rfl) ?_
      refine iv_isub hx hb dX6_snaps_34 ?_
      obtain ⟨g5, h⟩ := h
      obtain ⟨g6, h⟩ := h
      refine iv_ki (iv_rS (As := [.int (hI ((P 1 (2 + y4)) - width))]) (rest := []) E hh (ok_X6_size l hinj S ((P 1 (2 + y4)) - width) g5 g6) cb_X6_size q4_38 rfl rfl ⟨Nat.le_of_ble_eq_true rfl, Nat.le_of_ble_eq_true rfl⟩ rfl hl.1 rfl (Nat.le_of_ble_eq_true rfl) dX6_snaps_35 ⟨Nat.zero_le _, Nat.zero_le _⟩) hh (fun hc7 H locs hh => ?_)
      refine lv_istore (lv' := [(5, .int (hI (v_X6_size ((P 1 (2 + y4)) - width)))), (0, .ref (ad 10 0)), (1, .int (hI width)), (2, .int (hI y2)), (3, .int (hI y3)), (4, .int (hI y4))]) hx hb dX6_snaps_38 hl (by decide) rfl (fun ls hl => ?_)
      refine lv_iload_n hx hb dX6_snaps_40 rfl (lv_at hl 3 rfl) ?_
      refine iv_if_ge (tgt := 58) hx hb h_y2 dX6_snaps_41 (by decide) (fun c8 => ?_) (fun c8 => ?_)
      · have h := h.2 c8
        refine lv_iload hx hb dX6_snaps_58 (lv_at hl 0 rfl) ?_
        refine lv_iload_n hx hb dX6_snaps_60 rfl (lv_at hl 4 rfl) ?_
        refine iv_icmp_ge (tgt := 68) hx hb hc7 h_y3 dX6_snaps_61 (by decide) (fun c9 => ?_) (fun c9 => ?_)
        · have h := h.2 c9
          refine iv_iconst hx hb dX6_snaps_68 ?_
          refine lv_istore (lv' := [(6, .int (hI 0)), (5, .int (hI (v_X6_size ((P 1 (2 + y4)) - width)))), (0, .ref (ad 10 0)), (1, .int (hI width)), (2, .int (hI y2)), (3, .int (hI y3)), (4, .int (hI y4))]) hx hb dX6_snaps_69 hl (by decide) rfl (fun ls hl => ?_)
          refine lv_iload hx hb dX6_snaps_71 (lv_at hl 0 rfl) ?_
          refine iv_if_eq (tgt := 88) hx hb ⟨by decide, by decide⟩ dX6_snaps_73 (by decide) (fun c10 => ?_) (fun c10 => ?_)
          · refine lv_iload_n hx hb dX6_snaps_88 rfl (lv_at hl 4 rfl) ?_
            refine lv_istore_n (lv' := [(2, .int (hI y2)), (6, .int (hI 0)), (5, .int (hI (v_X6_size ((P 1 (2 + y4)) - width)))), (0, .ref (ad 10 0)), (1, .int (hI width)), (3, .int (hI y3)), (4, .int (hI y4))]) hx hb dX6_snaps_89 rfl hl (by decide) rfl (fun ls hl => ?_)
            refine lv_iload hx hb dX6_snaps_90 (lv_at hl 1 rfl) ?_
            refine iv_if_eq (tgt := 100) hx hb ⟨by decide, by decide⟩ dX6_snaps_92 (by decide) (fun c11 => ?_) (fun c11 => ?_)
            · refine lv_iload_n hx hb dX6_snaps_100 rfl (lv_at hl 5 rfl) ?_
              refine lv_istore_n (lv' := [(3, .int (hI y3)), (2, .int (hI y2)), (6, .int (hI 0)), (5, .int (hI (v_X6_size ((P 1 (2 + y4)) - width)))), (0, .ref (ad 10 0)), (1, .int (hI width)), (4, .int (hI y4))]) hx hb dX6_snaps_101 rfl hl (by decide) rfl (fun ls hl => ?_)
              refine iv_iinc (lv' := [(4, .int (hI (y4 + 1))), (3, .int (hI y3)), (2, .int (hI y2)), (6, .int (hI 0)), (5, .int (hI (v_X6_size ((P 1 (2 + y4)) - width)))), (0, .ref (ad 10 0)), (1, .int (hI width))]) hx hb dX6_snaps_102 hl (k := 6) rfl (v := (y4 + 1)) rfl (by decide) rfl (fun ls hl => ?_)
              refine lv_goto (tgt := 13) hx hb dX6_snaps_105 (by decide) ?_
              exact h H _ ls hh (lv_sub hl [5, 6, 2, 1, 0] rfl)
            · exact absurd c11 (by decide)
          · exact absurd c10 (by decide)
        · have h := h.1 c9
          refine iv_iconst hx hb dX6_snaps_64 ?_
          refine lv_goto (tgt := 69) hx hb dX6_snaps_65 (by decide) ?_
          refine lv_istore (lv' := [(6, .int (hI 1)), (5, .int (hI (v_X6_size ((P 1 (2 + y4)) - width)))), (0, .ref (ad 10 0)), (1, .int (hI width)), (2, .int (hI y2)), (3, .int (hI y3)), (4, .int (hI y4))]) hx hb dX6_snaps_69 hl (by decide) rfl (fun ls hl => ?_)
          refine lv_iload hx hb dX6_snaps_71 (lv_at hl 0 rfl) ?_
          refine iv_if_eq (tgt := 88) hx hb ⟨by decide, by decide⟩ dX6_snaps_73 (by decide) (fun c12 => ?_) (fun c12 => ?_)
          · exact absurd c12 (by decide)
          · refine lv_aload_n hx hb dX6_snaps_76 rfl (lv_at hl 2 rfl) ?_
            refine iv_get (v' := .ref (ad 10 1)) hx hb hts inX6 hown hK hh.1 (ob_Model) rfl 0 (by decide) (hts _ q3_160) rfl rfl rfl dX6_snaps_77 ?_
            refine iv_iconst hx hb dX6_snaps_80 ?_
            refine lv_iload hx hb dX6_snaps_81 (lv_at hl 6 rfl) ?_
            refine iv_iadd hx hb dX6_snaps_83 ?_
            refine iv_iald hx hb hK hh.1 (ia_10_1) g3 (v := (P 1 (2 + y4))) (congrArg (fun z => z 1 (2 + y4)) hP) dX6_snaps_84 ?_
            have hm13 : hIn (P 1 (2 + y4)) := hIn_rd hh.2.1 hP (by decide)
            refine lv_goto (tgt := 89) hx hb dX6_snaps_85 (by decide) ?_
            refine lv_istore_n (lv' := [(2, .int (hI (P 1 (2 + y4)))), (6, .int (hI 1)), (5, .int (hI (v_X6_size ((P 1 (2 + y4)) - width)))), (0, .ref (ad 10 0)), (1, .int (hI width)), (3, .int (hI y3)), (4, .int (hI y4))]) hx hb dX6_snaps_89 rfl hl (by decide) rfl (fun ls hl => ?_)
            refine lv_iload hx hb dX6_snaps_90 (lv_at hl 1 rfl) ?_
            refine iv_if_eq (tgt := 100) hx hb ⟨by decide, by decide⟩ dX6_snaps_92 (by decide) (fun c14 => ?_) (fun c14 => ?_)
            · exact absurd c14 (by decide)
            · refine lv_iload hx hb dX6_snaps_95 (lv_at hl 2 rfl) ?_
              refine lv_goto (tgt := 101) hx hb dX6_snaps_97 (by decide) ?_
              refine lv_istore_n (lv' := [(3, .int (hI (v_X6_size ((P 1 (2 + y4)) - width)))), (2, .int (hI (P 1 (2 + y4)))), (6, .int (hI 1)), (5, .int (hI (v_X6_size ((P 1 (2 + y4)) - width)))), (0, .ref (ad 10 0)), (1, .int (hI width)), (4, .int (hI y4))]) hx hb dX6_snaps_101 rfl hl (by decide) rfl (fun ls hl => ?_)
              refine iv_iinc (lv' := [(4, .int (hI (y4 + 1))), (3, .int (hI (v_X6_size ((P 1 (2 + y4)) - width)))), (2, .int (hI (P 1 (2 + y4)))), (6, .int (hI 1)), (5, .int (hI (v_X6_size ((P 1 (2 + y4)) - width)))), (0, .ref (ad 10 0)), (1, .int (hI width))]) hx hb dX6_snaps_102 hl (k := 6) rfl (v := (y4 + 1)) rfl (by decide) rfl (fun ls hl => ?_)
              refine lv_goto (tgt := 13) hx hb dX6_snaps_105 (by decide) ?_
              exact h H _ ls hh (lv_sub hl [5, 6, 2, 1, 0] rfl)
      · have h := h.1 c8
        refine lv_iload hx hb dX6_snaps_44 (lv_at hl 0 rfl) ?_
        refine lv_iload_n hx hb dX6_snaps_46 rfl (lv_at hl 4 rfl) ?_
        refine iv_icmp_gt (tgt := 54) hx hb hc7 h_y3 dX6_snaps_47 (by decide) (fun c15 => ?_) (fun c15 => ?_)
        · have h := h.2 c15
          refine iv_iconst hx hb dX6_snaps_54 ?_
          refine lv_goto (tgt := 69) hx hb dX6_snaps_55 (by decide) ?_
          refine lv_istore (lv' := [(6, .int (hI 0)), (5, .int (hI (v_X6_size ((P 1 (2 + y4)) - width)))), (0, .ref (ad 10 0)), (1, .int (hI width)), (2, .int (hI y2)), (3, .int (hI y3)), (4, .int (hI y4))]) hx hb dX6_snaps_69 hl (by decide) rfl (fun ls hl => ?_)
          refine lv_iload hx hb dX6_snaps_71 (lv_at hl 0 rfl) ?_
          refine iv_if_eq (tgt := 88) hx hb ⟨by decide, by decide⟩ dX6_snaps_73 (by decide) (fun c16 => ?_) (fun c16 => ?_)
          · refine lv_iload_n hx hb dX6_snaps_88 rfl (lv_at hl 4 rfl) ?_
            refine lv_istore_n (lv' := [(2, .int (hI y2)), (6, .int (hI 0)), (5, .int (hI (v_X6_size ((P 1 (2 + y4)) - width)))), (0, .ref (ad 10 0)), (1, .int (hI width)), (3, .int (hI y3)), (4, .int (hI y4))]) hx hb dX6_snaps_89 rfl hl (by decide) rfl (fun ls hl => ?_)
            refine lv_iload hx hb dX6_snaps_90 (lv_at hl 1 rfl) ?_
            refine iv_if_eq (tgt := 100) hx hb ⟨by decide, by decide⟩ dX6_snaps_92 (by decide) (fun c17 => ?_) (fun c17 => ?_)
            · refine lv_iload_n hx hb dX6_snaps_100 rfl (lv_at hl 5 rfl) ?_
              refine lv_istore_n (lv' := [(3, .int (hI y3)), (2, .int (hI y2)), (6, .int (hI 0)), (5, .int (hI (v_X6_size ((P 1 (2 + y4)) - width)))), (0, .ref (ad 10 0)), (1, .int (hI width)), (4, .int (hI y4))]) hx hb dX6_snaps_101 rfl hl (by decide) rfl (fun ls hl => ?_)
              refine iv_iinc (lv' := [(4, .int (hI (y4 + 1))), (3, .int (hI y3)), (2, .int (hI y2)), (6, .int (hI 0)), (5, .int (hI (v_X6_size ((P 1 (2 + y4)) - width)))), (0, .ref (ad 10 0)), (1, .int (hI width))]) hx hb dX6_snaps_102 hl (k := 6) rfl (v := (y4 + 1)) rfl (by decide) rfl (fun ls hl => ?_)
              refine lv_goto (tgt := 13) hx hb dX6_snaps_105 (by decide) ?_
              exact h H _ ls hh (lv_sub hl [5, 6, 2, 1, 0] rfl)
            · exact absurd c17 (by decide)
          · exact absurd c16 (by decide)
        · have h := h.1 c15
          refine iv_iconst hx hb dX6_snaps_50 ?_
          refine lv_goto (tgt := 69) hx hb dX6_snaps_51 (by decide) ?_
          refine lv_istore (lv' := [(6, .int (hI 1)), (5, .int (hI (v_X6_size ((P 1 (2 + y4)) - width)))), (0, .ref (ad 10 0)), (1, .int (hI width)), (2, .int (hI y2)), (3, .int (hI y3)), (4, .int (hI y4))]) hx hb dX6_snaps_69 hl (by decide) rfl (fun ls hl => ?_)
          refine lv_iload hx hb dX6_snaps_71 (lv_at hl 0 rfl) ?_
          refine iv_if_eq (tgt := 88) hx hb ⟨by decide, by decide⟩ dX6_snaps_73 (by decide) (fun c18 => ?_) (fun c18 => ?_)
          · exact absurd c18 (by decide)
          · refine lv_aload_n hx hb dX6_snaps_76 rfl (lv_at hl 2 rfl) ?_
            refine iv_get (v' := .ref (ad 10 1)) hx hb hts inX6 hown hK hh.1 (ob_Model) rfl 0 (by decide) (hts _ q3_160) rfl rfl rfl dX6_snaps_77 ?_
            refine iv_iconst hx hb dX6_snaps_80 ?_
            refine lv_iload hx hb dX6_snaps_81 (lv_at hl 6 rfl) ?_
            refine iv_iadd hx hb dX6_snaps_83 ?_
            refine iv_iald hx hb hK hh.1 (ia_10_1) g3 (v := (P 1 (2 + y4))) (congrArg (fun z => z 1 (2 + y4)) hP) dX6_snaps_84 ?_
            have hm19 : hIn (P 1 (2 + y4)) := hIn_rd hh.2.1 hP (by decide)
            refine lv_goto (tgt := 89) hx hb dX6_snaps_85 (by decide) ?_
            refine lv_istore_n (lv' := [(2, .int (hI (P 1 (2 + y4)))), (6, .int (hI 1)), (5, .int (hI (v_X6_size ((P 1 (2 + y4)) - width)))), (0, .ref (ad 10 0)), (1, .int (hI width)), (3, .int (hI y3)), (4, .int (hI y4))]) hx hb dX6_snaps_89 rfl hl (by decide) rfl (fun ls hl => ?_)
            refine lv_iload hx hb dX6_snaps_90 (lv_at hl 1 rfl) ?_
            refine iv_if_eq (tgt := 100) hx hb ⟨by decide, by decide⟩ dX6_snaps_92 (by decide) (fun c20 => ?_) (fun c20 => ?_)
            · exact absurd c20 (by decide)
            · refine lv_iload hx hb dX6_snaps_95 (lv_at hl 2 rfl) ?_
              refine lv_goto (tgt := 101) hx hb dX6_snaps_97 (by decide) ?_
              refine lv_istore_n (lv' := [(3, .int (hI (v_X6_size ((P 1 (2 + y4)) - width)))), (2, .int (hI (P 1 (2 + y4)))), (6, .int (hI 1)), (5, .int (hI (v_X6_size ((P 1 (2 + y4)) - width)))), (0, .ref (ad 10 0)), (1, .int (hI width)), (4, .int (hI y4))]) hx hb dX6_snaps_101 rfl hl (by decide) rfl (fun ls hl => ?_)
              refine iv_iinc (lv' := [(4, .int (hI (y4 + 1))), (3, .int (hI (v_X6_size ((P 1 (2 + y4)) - width)))), (2, .int (hI (P 1 (2 + y4)))), (6, .int (hI 1)), (5, .int (hI (v_X6_size ((P 1 (2 + y4)) - width)))), (0, .ref (ad 10 0)), (1, .int (hI width))]) hx hb dX6_snaps_102 hl (k := 6) rfl (v := (y4 + 1)) rfl (by decide) rfl (fun ls hl => ?_)
              refine lv_goto (tgt := 13) hx hb dX6_snaps_105 (by decide) ?_
              exact h H _ ls hh (lv_sub hl [5, 6, 2, 1, 0] rfl)
  intro H locs ls hh hl
  have hl : lv_has ls 7 [(0, .ref (ad 10 0)), (1, .int (hI width))] := hl
  have h := x_X6_snaps P width h_width (fun i k hi => hIn_rd hh.2.1 hP hi) hp (fun y2 y3 y4 => (hAt D ad cI cJ cF p l e ({ frames := 1, cells := 0, slots := 0, locals := 20 } : Room) s m args below meth c (MQ below (hQi D ad cI cJ cF (v_X6_snaps P width) S) args s 0 0 (hAd ad)) 7 13 [(0, .ref (ad 10 0)), (1, .int (hI width)), (2, .int (hI y2)), (3, .int (hI y3)), (4, .int (hI y4))] S)) (fun r => (r = v_X6_snaps P width)) r13 rfl
  refine iv_ldc (n := (-1000004)) hx hb (by decide) hown (hts _ q4_33) dX6_snaps_0 ?_
  refine lv_istore_n (lv' := [(2, .int (hI (-1000004))), (0, .ref (ad 10 0)), (1, .int (hI width))]) hx hb dX6_snaps_2 rfl hl (by decide) rfl (fun ls hl => ?_)
  refine lv_aload_n hx hb dX6_snaps_3 rfl (lv_at hl 1 rfl) ?_
  refine iv_get (v' := .ref (ad 10 1)) hx hb hts inX6 hown hK hh.1 (ob_Model) rfl 0 (by decide) (hts _ q3_160) rfl rfl rfl dX6_snaps_4 ?_
  refine iv_iconst hx hb dX6_snaps_7 ?_
  refine iv_iald hx hb hK hh.1 (ia_10_1) ⟨by decide, by decide⟩ (v := (P 1 5)) (congrArg (fun z => z 1 5) hP) dX6_snaps_8 ?_
  have hm21 : hIn (P 1 5) := hIn_rd hh.2.1 hP (by decide)
  refine lv_istore_n (lv' := [(3, .int (hI (P 1 5))), (2, .int (hI (-1000004))), (0, .ref (ad 10 0)), (1, .int (hI width))]) hx hb dX6_snaps_9 rfl hl (by decide) rfl (fun ls hl => ?_)
  refine iv_iconst hx hb dX6_snaps_10 ?_
  refine lv_istore (lv' := [(4, .int (hI 0)), (3, .int (hI (P 1 5))), (2, .int (hI (-1000004))), (0, .ref (ad 10 0)), (1, .int (hI width))]) hx hb dX6_snaps_11 hl (by decide) rfl (fun ls hl => ?_)
  exact h H _ ls hh (lv_sub hl [3, 4, 2, 1, 0] rfl)
set_option maxHeartbeats 4000000 in
set_option maxRecDepth 100000 in
theorem ok_X6_hinted (l : Launch) (hinj : hInj ad) (S : hS) (P : hGM) (hP : S 10 = P) (glyph : Int) (stem : Int) (h_glyph : hIn glyph) (h_stem : hIn stem) (hp : p_X6_hinted P glyph stem) : hMi D ad cI cJ cF l yX6_hinted cX6_hinted 4 (some .int) ({ frames := 2, cells := 0, slots := 0, locals := 46 } : Room) [.ref (ad 10 0), .int (hI glyph), .int (hI stem)] S (v_X6_hinted P glyph stem) S := by
  refine hOf (S := S) l hinj (by decide +kernel) (Nat.le_of_ble_eq_true rfl) (fun p e s m args below meth c E => ?_)
  obtain ⟨hx, hb, hml, hown, hts, hK, hN, -, hr, hlk⟩ := id E
  have hown : s.vm.findClass RX6 = some m.cls := hown
  intro H locs ls hh hl
  have hl : lv_has ls 4 [(0, .ref (ad 10 0)), (1, .int (hI glyph)), (2, .int (hI stem))] := hl
  have h := hp
  unfold p_X6_hinted at h
  refine lv_aload_n hx hb dX6_hinted_0 rfl (lv_at hl 0 rfl) ?_
  refine lv_iload_n hx hb dX6_hinted_1 rfl (lv_at hl 1 rfl) ?_
  refine lv_iload_n hx hb dX6_hinted_2 rfl (lv_at hl 2 rfl) ?_
  refine iv_iconst hx hb dX6_hinted_3 ?_
  obtain ⟨g1, h⟩ := h
  refine iv_ki (iv_rV (As := [.int (hI glyph), .int (hI stem), .int (hI 1)]) (rest := []) E hh (ok_X6_ofStem l hinj S P hP glyph stem 1 h_glyph h_stem ⟨by decide, by decide⟩ g1) cb_X6_ofStem q4_1 rfl rfl ⟨Nat.le_of_ble_eq_true rfl, Nat.le_of_ble_eq_true rfl⟩ (ob_Model) rfl rfl rfl hl.1 rfl (Nat.le_of_ble_eq_true rfl) dX6_hinted_4 ⟨Nat.zero_le _, Nat.zero_le _⟩) hh (fun hc2 H locs hh => ?_)
  refine lv_istore_n (lv' := [(3, .int (hI (v_X6_ofStem P glyph stem 1))), (0, .ref (ad 10 0)), (1, .int (hI glyph)), (2, .int (hI stem))]) hx hb dX6_hinted_7 rfl hl (by decide) rfl (fun ls hl => ?_)
  refine lv_aload_n hx hb dX6_hinted_8 rfl (lv_at hl 1 rfl) ?_
  refine lv_iload_n hx hb dX6_hinted_9 rfl (lv_at hl 0 rfl) ?_
  obtain ⟨g3, h⟩ := h
  refine iv_ki (iv_rV (As := [.int (hI (v_X6_ofStem P glyph stem 1))]) (rest := []) E hh (ok_X6_snaps l hinj S P hP (v_X6_ofStem P glyph stem 1) hc2 g3) cb_X6_snaps q4_34 rfl rfl ⟨Nat.le_of_ble_eq_true rfl, Nat.le_of_ble_eq_true rfl⟩ (ob_Model) rfl rfl rfl hl.1 rfl (Nat.le_of_ble_eq_true rfl) dX6_hinted_10 ⟨Nat.zero_le _, Nat.zero_le _⟩) hh (fun hc4 H locs hh => ?_)
  refine iv_if_ge (tgt := 20) hx hb hc4 dX6_hinted_13 (by decide) (fun c5 => ?_) (fun c5 => ?_)
  · have h := h.2 c5
    refine lv_aload_n hx hb dX6_hinted_20 rfl (lv_at hl 1 rfl) ?_
    refine lv_iload_n hx hb dX6_hinted_21 rfl (lv_at hl 0 rfl) ?_
    refine iv_ki (iv_rV (As := [.int (hI (v_X6_ofStem P glyph stem 1))]) (rest := []) E hh (ok_X6_snaps l hinj S P hP (v_X6_ofStem P glyph stem 1) hc2 g3) cb_X6_snaps q4_34 rfl rfl ⟨Nat.le_of_ble_eq_true rfl, Nat.le_of_ble_eq_true rfl⟩ (ob_Model) rfl rfl rfl hl.1 rfl (Nat.le_of_ble_eq_true rfl) dX6_hinted_22 ⟨Nat.zero_le _, Nat.zero_le _⟩) hh (fun hc6 H locs hh => ?_)
    exact iv_iret E hh (by unfold v_X6_hinted; rw [if_neg c5]) (by rw [← show (v_X6_snaps P (v_X6_ofStem P glyph stem 1)) = v_X6_hinted P glyph stem from (by unfold v_X6_hinted; rw [if_neg c5])]; exact hc6) rfl dX6_hinted_25
  · have h := h.1 c5
    refine lv_iload_n hx hb dX6_hinted_16 rfl (lv_at hl 0 rfl) ?_
    refine lv_goto (tgt := 25) hx hb dX6_hinted_17 (by decide) ?_
    exact iv_iret E hh (by unfold v_X6_hinted; rw [if_pos c5]) (by rw [← show (v_X6_ofStem P glyph stem 1) = v_X6_hinted P glyph stem from (by unfold v_X6_hinted; rw [if_pos c5])]; exact hc2) rfl dX6_hinted_25
set_option maxHeartbeats 4000000 in
set_option maxRecDepth 100000 in
theorem ok_X6_standard (l : Launch) (hinj : hInj ad) (S : hS) (P : hGM) (hP : S 10 = P) (width : Int) (h_width : hIn width) (hp : p_X6_standard P width) : hMi D ad cI cJ cF l yX6_standard cX6_standard 6 (some .int) ({ frames := 2, cells := 0, slots := 0, locals := 46 } : Room) [.ref (ad 10 0), .int (hI width)] S (v_X6_standard P width) (gset S 10 (m_X6_standard P width)) := by
  refine hOf (S := S) l hinj (by decide +kernel) (Nat.le_of_ble_eq_true rfl) (fun p e s m args below meth c E => ?_)
  obtain ⟨hx, hb, hml, hown, hts, hK, hN, -, hr, hlk⟩ := id E
  have hown : s.vm.findClass RX6 = some m.cls := hown
  have r49 : ∀ (y2 : Int) (P1 : hGM), hIn y2 → ((∀ (i : Nat) (k : Int), i < 100 → hIn (P1 i k)) → ((y2 ≤ 0 → ((0 ≤ (2 + y2) ∧ (2 + y2) < 273) ∧ (hIn (((aset P1 1 (2 + y2) width) 1 1) + 1) ∧ (hAt D ad cI cJ cF p l e ({ frames := 2, cells := 0, slots := 0, locals := 46 } : Room) s m args below meth c (MQ below (hQi D ad cI cJ cF (v_X6_standard P width) (gset S 10 (m_X6_standard P width))) args s 0 0 (hAd ad)) 6 115 [(0, .ref (ad 10 0)), (1, .int (hI width)), (3, .int (hI 0)), (4, .int (hI 0))] (gset S 10 (aset (aset P1 1 (2 + y2) width) 1 1 (((aset P1 1 (2 + y2) width) 1 1) + 1))))))) ∧ (¬ y2 ≤ 0 → ((0 ≤ ((2 + y2) - 1) ∧ ((2 + y2) - 1) < 273) ∧ (((P1 1 ((2 + y2) - 1)) ≤ width → ((0 ≤ (2 + y2) ∧ (2 + y2) < 273) ∧ (hIn (((aset P1 1 (2 + y2) width) 1 1) + 1) ∧ (hAt D ad cI cJ cF p l e ({ frames := 2, cells := 0, slots := 0, locals := 46 } : Room) s m args below meth c (MQ below (hQi D ad cI cJ cF (v_X6_standard P width) (gset S 10 (m_X6_standard P width))) args s 0 0 (hAd ad)) 6 115 [(0, .ref (ad 10 0)), (1, .int (hI width)), (3, .int (hI 0)), (4, .int (hI 0))] (gset S 10 (aset (aset P1 1 (2 + y2) width) 1 1 (((aset P1 1 (2 + y2) width) 1 1) + 1))))))) ∧ (¬ (P1 1 ((2 + y2) - 1)) ≤ width → ((0 ≤ (2 + y2) ∧ (2 + y2) < 273) ∧ (hAt D ad cI cJ cF p l e ({ frames := 2, cells := 0, slots := 0, locals := 46 } : Room) s m args below meth c (MQ below (hQi D ad cI cJ cF (v_X6_standard P width) (gset S 10 (m_X6_standard P width))) args s 0 0 (hAd ad)) 6 49 [(0, .ref (ad 10 0)), (1, .int (hI width)), (2, .int (hI (y2 + (-1))))] (gset S 10 (aset P1 1 (2 + y2) (P1 1 ((2 + y2) - 1)))))))))))) → (hAt D ad cI cJ cF p l e ({ frames := 2, cells := 0, slots := 0, locals := 46 } : Room) s m args below meth c (MQ below (hQi D ad cI cJ cF (v_X6_standard P width) (gset S 10 (m_X6_standard P width))) args s 0 0 (hAd ad)) 6 49 [(0, .ref (ad 10 0)), (1, .int (hI width)), (2, .int (hI y2))] (gset S 10 P1)) := by
    intro y2 P1 h_y2 h H locs ls hh hl
    have h := h (fun i k hi => hIn_rd hh.2.1 (gset_at _ _ _) hi)
    refine lv_iload_n hx hb dX6_standard_49 rfl (lv_at hl 2 rfl) ?_
    refine iv_if_le (tgt := 91) hx hb h_y2 dX6_standard_50 (by decide) (fun c1 => ?_) (fun c1 => ?_)
    · have h := h.1 c1
      refine lv_aload_n hx hb dX6_standard_91 rfl (lv_at hl 0 rfl) ?_
      refine iv_get (v' := .ref (ad 10 1)) hx hb hts inX6 hown hK hh.1 (ob_Model) rfl 0 (by decide) (hts _ q3_160) rfl rfl rfl dX6_standard_92 ?_
      refine iv_iconst hx hb dX6_standard_95 ?_
      refine lv_iload_n hx hb dX6_standard_96 rfl (lv_at hl 2 rfl) ?_
      refine iv_iadd hx hb dX6_standard_97 ?_
      refine lv_iload_n hx hb dX6_standard_98 rfl (lv_at hl 1 rfl) ?_
      obtain ⟨g2, h⟩ := h
      refine iv_iast (S' := (gset S 10 (aset P1 1 (2 + y2) width))) hx hb hK hinj hh (ia_10_1) g2 h_width (by rw [show (gset S 10 P1) 10 = P1 from (gset_at _ _ _)]; exact (gset_gset _ _ _ _)) dX6_standard_99 (fun H locs hh => ?_)
      refine lv_aload_n hx hb dX6_standard_100 rfl (lv_at hl 0 rfl) ?_
      refine iv_get (v' := .ref (ad 10 1)) hx hb hts inX6 hown hK hh.1 (ob_Model) rfl 0 (by decide) (hts _ q3_160) rfl rfl rfl dX6_standard_101 ?_
      refine iv_iconst hx hb dX6_standard_104 ?_
      refine lv_dup2_11 hx hb dX6_standard_105 rfl rfl ?_
      refine iv_iald hx hb hK hh.1 (ia_10_1) ⟨by decide, by decide⟩ (v := ((aset P1 1 (2 + y2) width) 1 1)) (congrArg (fun z => z 1 1) (gset_at _ _ _)) dX6_standard_106 ?_
      have hm3 : hIn ((aset P1 1 (2 + y2) width) 1 1) := hIn_rd hh.2.1 (gset_at _ _ _) (by decide)
      refine iv_iconst hx hb dX6_standard_107 ?_
      refine iv_iadd hx hb dX6_standard_108 ?_
      obtain ⟨g4, h⟩ := h
      refine iv_iast (S' := (gset S 10 (aset (aset P1 1 (2 + y2) width) 1 1 (((aset P1 1 (2 + y2) width) 1 1) + 1)))) hx hb hK hinj hh (ia_10_1) ⟨by decide, by decide⟩ g4 (by rw [show (gset S 10 (aset P1 1 (2 + y2) width)) 10 = (aset P1 1 (2 + y2) width) from (gset_at _ _ _)]; exact (gset_gset _ _ _ _)) dX6_standard_109 (fun H locs hh => ?_)
      refine iv_iconst hx hb dX6_standard_110 ?_
      refine lv_istore_n (lv' := [(3, .int (hI 0)), (0, .ref (ad 10 0)), (1, .int (hI width)), (2, .int (hI y2))]) hx hb dX6_standard_111 rfl hl (by decide) rfl (fun ls hl => ?_)
      refine iv_iconst hx hb dX6_standard_112 ?_
      refine lv_istore (lv' := [(4, .int (hI 0)), (3, .int (hI 0)), (0, .ref (ad 10 0)), (1, .int (hI width)), (2, .int (hI y2))]) hx hb dX6_standard_113 hl (by decide) rfl (fun ls hl => ?_)
      exact h H _ ls hh (lv_sub hl [2, 3, 1, 0] rfl)
    · have h := h.2 c1
      refine lv_aload_n hx hb dX6_standard_53 rfl (lv_at hl 0 rfl) ?_
      refine iv_get (v' := .ref (ad 10 1)) hx hb hts inX6 hown hK hh.1 (ob_Model) rfl 0 (by decide) (hts _ q3_160) rfl rfl rfl dX6_standard_54 ?_
      refine iv_iconst hx hb dX6_standard_57 ?_
      refine lv_iload_n hx hb dX6_standard_58 rfl (lv_at hl 2 rfl) ?_
      refine iv_iadd hx hb dX6_standard_59 ?_
      refine iv_iconst hx hb dX6_standard_60 ?_
      refine iv_isub hx hb dX6_standard_61 ?_
      obtain ⟨g5, h⟩ := h
      refine iv_iald hx hb hK hh.1 (ia_10_1) g5 (v := (P1 1 ((2 + y2) - 1))) (congrArg (fun z => z 1 ((2 + y2) - 1)) (gset_at _ _ _)) dX6_standard_62 ?_
      have hm6 : hIn (P1 1 ((2 + y2) - 1)) := hIn_rd hh.2.1 (gset_at _ _ _) (by decide)
      refine lv_iload_n hx hb dX6_standard_63 rfl (lv_at hl 1 rfl) ?_
      refine iv_icmp_le (tgt := 91) hx hb hm6 h_width dX6_standard_64 (by decide) (fun c7 => ?_) (fun c7 => ?_)
      · have h := h.1 c7
        refine lv_aload_n hx hb dX6_standard_91 rfl (lv_at hl 0 rfl) ?_
        refine iv_get (v' := .ref (ad 10 1)) hx hb hts inX6 hown hK hh.1 (ob_Model) rfl 0 (by decide) (hts _ q3_160) rfl rfl rfl dX6_standard_92 ?_
        refine iv_iconst hx hb dX6_standard_95 ?_
        refine lv_iload_n hx hb dX6_standard_96 rfl (lv_at hl 2 rfl) ?_
        refine iv_iadd hx hb dX6_standard_97 ?_
        refine lv_iload_n hx hb dX6_standard_98 rfl (lv_at hl 1 rfl) ?_
        obtain ⟨g8, h⟩ := h
        refine iv_iast (S' := (gset S 10 (aset P1 1 (2 + y2) width))) hx hb hK hinj hh (ia_10_1) g8 h_width (by rw [show (gset S 10 P1) 10 = P1 from (gset_at _ _ _)]; exact (gset_gset _ _ _ _)) dX6_standard_99 (fun H locs hh => ?_)
        refine lv_aload_n hx hb dX6_standard_100 rfl (lv_at hl 0 rfl) ?_
        refine iv_get (v' := .ref (ad 10 1)) hx hb hts inX6 hown hK hh.1 (ob_Model) rfl 0 (by decide) (hts _ q3_160) rfl rfl rfl dX6_standard_101 ?_
        refine iv_iconst hx hb dX6_standard_104 ?_
        refine lv_dup2_11 hx hb dX6_standard_105 rfl rfl ?_
        refine iv_iald hx hb hK hh.1 (ia_10_1) ⟨by decide, by decide⟩ (v := ((aset P1 1 (2 + y2) width) 1 1)) (congrArg (fun z => z 1 1) (gset_at _ _ _)) dX6_standard_106 ?_
        have hm9 : hIn ((aset P1 1 (2 + y2) width) 1 1) := hIn_rd hh.2.1 (gset_at _ _ _) (by decide)
        refine iv_iconst hx hb dX6_standard_107 ?_
        refine iv_iadd hx hb dX6_standard_108 ?_
        obtain ⟨g10, h⟩ := h
        refine iv_iast (S' := (gset S 10 (aset (aset P1 1 (2 + y2) width) 1 1 (((aset P1 1 (2 + y2) width) 1 1) + 1)))) hx hb hK hinj hh (ia_10_1) ⟨by decide, by decide⟩ g10 (by rw [show (gset S 10 (aset P1 1 (2 + y2) width)) 10 = (aset P1 1 (2 + y2) width) from (gset_at _ _ _)]; exact (gset_gset _ _ _ _)) dX6_standard_109 (fun H locs hh => ?_)
        refine iv_iconst hx hb dX6_standard_110 ?_
        refine lv_istore_n (lv' := [(3, .int (hI 0)), (0, .ref (ad 10 0)), (1, .int (hI width)), (2, .int (hI y2))]) hx hb dX6_standard_111 rfl hl (by decide) rfl (fun ls hl => ?_)
        refine iv_iconst hx hb dX6_standard_112 ?_
        refine lv_istore (lv' := [(4, .int (hI 0)), (3, .int (hI 0)), (0, .ref (ad 10 0)), (1, .int (hI width)), (2, .int (hI y2))]) hx hb dX6_standard_113 hl (by decide) rfl (fun ls hl => ?_)
        exact h H _ ls hh (lv_sub hl [2, 3, 1, 0] rfl)
      · have h := h.2 c7
        refine lv_aload_n hx hb dX6_standard_67 rfl (lv_at hl 0 rfl) ?_
        refine iv_get (v' := .ref (ad 10 1)) hx hb hts inX6 hown hK hh.1 (ob_Model) rfl 0 (by decide) (hts _ q3_160) rfl rfl rfl dX6_standard_68 ?_
        refine iv_iconst hx hb dX6_standard_71 ?_
        refine lv_iload_n hx hb dX6_standard_72 rfl (lv_at hl 2 rfl) ?_
        refine iv_iadd hx hb dX6_standard_73 ?_
        refine lv_aload_n hx hb dX6_standard_74 rfl (lv_at hl 0 rfl) ?_
        refine iv_get (v' := .ref (ad 10 1)) hx hb hts inX6 hown hK hh.1 (ob_Model) rfl 0 (by decide) (hts _ q3_160) rfl rfl rfl dX6_standard_75 ?_
        refine iv_iconst hx hb dX6_standard_78 ?_
        refine lv_iload_n hx hb dX6_standard_79 rfl (lv_at hl 2 rfl) ?_
        refine iv_iadd hx hb dX6_standard_80 ?_
        refine iv_iconst hx hb dX6_standard_81 ?_
        refine iv_isub hx hb dX6_standard_82 ?_
        refine iv_iald hx hb hK hh.1 (ia_10_1) g5 (v := (P1 1 ((2 + y2) - 1))) (congrArg (fun z => z 1 ((2 + y2) - 1)) (gset_at _ _ _)) dX6_standard_83 ?_
        have hm11 : hIn (P1 1 ((2 + y2) - 1)) := hIn_rd hh.2.1 (gset_at _ _ _) (by decide)
        obtain ⟨g12, h⟩ := h
        refine iv_iast (S' := (gset S 10 (aset P1 1 (2 + y2) (P1 1 ((2 + y2) - 1))))) hx hb hK hinj hh (ia_10_1) g12 hm11 (by rw [show (gset S 10 P1) 10 = P1 from (gset_at _ _ _)]; exact (gset_gset _ _ _ _)) dX6_standard_84 (fun H locs hh => ?_)
        refine iv_iinc (lv' := [(2, .int (hI (y2 + (-1)))), (0, .ref (ad 10 0)), (1, .int (hI width))]) hx hb dX6_standard_85 hl (k := 2) rfl (v := (y2 + (-1))) rfl (by decide) rfl (fun ls hl => ?_)
        refine lv_goto (tgt := 49) hx hb dX6_standard_88 (by decide) ?_
        exact h H _ ls hh (lv_sub hl [1, 2, 0] rfl)
  have r115 : ∀ (y3 : Int) (y4 : Int) (P1 : hGM), hIn y3 → hIn y4 → ((∀ (i : Nat) (k : Int), i < 100 → hIn (P1 i k)) → ((y4 < (P1 1 0) → (hAt D ad cI cJ cF p l e ({ frames := 2, cells := 0, slots := 0, locals := 46 } : Room) s m args below meth c (MQ below (hQi D ad cI cJ cF (v_X6_standard P width) (gset S 10 (m_X6_standard P width))) args s 0 0 (hAd ad)) 6 129 [(0, .ref (ad 10 0)), (1, .int (hI width)), (3, .int (hI y3)), (4, .int (hI y4)), (5, .int (hI 0))] (gset S 10 P1))) ∧ (¬ y4 < (P1 1 0) → (y3 = v_X6_standard P width ∧ P1 = m_X6_standard P width)))) → (hAt D ad cI cJ cF p l e ({ frames := 2, cells := 0, slots := 0, locals := 46 } : Room) s m args below meth c (MQ below (hQi D ad cI cJ cF (v_X6_standard P width) (gset S 10 (m_X6_standard P width))) args s 0 0 (hAd ad)) 6 115 [(0, .ref (ad 10 0)), (1, .int (hI width)), (3, .int (hI y3)), (4, .int (hI y4))] (gset S 10 P1)) := by
    intro y3 y4 P1 h_y3 h_y4 h H locs ls hh hl
    have h := h (fun i k hi => hIn_rd hh.2.1 (gset_at _ _ _) hi)
    refine lv_iload hx hb dX6_standard_115 (lv_at hl 3 rfl) ?_
    refine lv_aload_n hx hb dX6_standard_117 rfl (lv_at hl 0 rfl) ?_
    refine iv_get (v' := .ref (ad 10 1)) hx hb hts inX6 hown hK hh.1 (ob_Model) rfl 0 (by decide) (hts _ q3_160) rfl rfl rfl dX6_standard_118 ?_
    refine iv_iconst hx hb dX6_standard_121 ?_
    refine iv_iald hx hb hK hh.1 (ia_10_1) ⟨by decide, by decide⟩ (v := (P1 1 0)) (congrArg (fun z => z 1 0) (gset_at _ _ _)) dX6_standard_122 ?_
    have hm13 : hIn (P1 1 0) := hIn_rd hh.2.1 (gset_at _ _ _) (by decide)
    refine iv_icmp_ge (tgt := 178) hx hb h_y4 hm13 dX6_standard_123 (by decide) (fun c14 => ?_) (fun c14 => ?_)
    · have h := h.2 c14
      refine lv_iload_n hx hb dX6_standard_178 rfl (lv_at hl 2 rfl) ?_
      exact iv_iret E hh h.1 (by rw [← h.1]; exact h_y3) (by rw [← h.2]) dX6_standard_179
    · have h := h.1 c14
      refine iv_iconst hx hb dX6_standard_126 ?_
      refine lv_istore (lv' := [(5, .int (hI 0)), (0, .ref (ad 10 0)), (1, .int (hI width)), (3, .int (hI y3)), (4, .int (hI y4))]) hx hb dX6_standard_127 hl (by decide) rfl (fun ls hl => ?_)
      exact h H _ ls hh (lv_sub hl [1, 2, 3, 4, 0] rfl)
  have r129 : ∀ (y3 : Int) (y4 : Int) (y5 : Int) (P1 : hGM), hIn y3 → hIn y4 → hIn y5 → ((∀ (i : Nat) (k : Int), i < 100 → hIn (P1 i k)) → (p_X6_of P1 y4 1 ∧ ((y5 < (v_X6_of P1 y4 1) → (p_X6_ofStem P1 y4 y5 1 ∧ (p_X6_snaps P1 (v_X6_ofStem P1 y4 y5 1) ∧ (((v_X6_snaps P1 (v_X6_ofStem P1 y4 y5 1)) = width → (hAt D ad cI cJ cF p l e ({ frames := 2, cells := 0, slots := 0, locals := 46 } : Room) s m args below meth c (MQ below (hQi D ad cI cJ cF (v_X6_standard P width) (gset S 10 (m_X6_standard P width))) args s 0 0 (hAd ad)) 6 129 [(0, .ref (ad 10 0)), (1, .int (hI width)), (3, .int (hI (y3 + 1))), (4, .int (hI y4)), (5, .int (hI (y5 + 1)))] (gset S 10 P1))) ∧ (¬ (v_X6_snaps P1 (v_X6_ofStem P1 y4 y5 1)) = width → (hAt D ad cI cJ cF p l e ({ frames := 2, cells := 0, slots := 0, locals := 46 } : Room) s m args below meth c (MQ below (hQi D ad cI cJ cF (v_X6_standard P width) (gset S 10 (m_X6_standard P width))) args s 0 0 (hAd ad)) 6 129 [(0, .ref (ad 10 0)), (1, .int (hI width)), (3, .int (hI (y3 + 0))), (4, .int (hI y4)), (5, .int (hI (y5 + 1)))] (gset S 10 P1))))))) ∧ (¬ y5 < (v_X6_of P1 y4 1) → (hAt D ad cI cJ cF p l e ({ frames := 2, cells := 0, slots := 0, locals := 46 } : Room) s m args below meth c (MQ below (hQi D ad cI cJ cF (v_X6_standard P width) (gset S 10 (m_X6_standard P width))) args s 0 0 (hAd ad)) 6 115 [(0, .ref (ad 10 0)), (1, .int (hI width)), (3, .int (hI y3)), (4, .int (hI (y4 + 1)))] (gset S 10 P1)))))) → (hAt D ad cI cJ cF p l e ({ frames := 2, cells := 0, slots := 0, locals := 46 } : Room) s m args below meth c (MQ below (hQi D ad cI cJ cF (v_X6_standard P width) (gset S 10 (m_X6_standard P width))) args s 0 0 (hAd ad)) 6 129 [(0, .ref (ad 10 0)), (1, .int (hI width)), (3, .int (hI y3)), (4, .int (hI y4)), (5, .int (hI y5))] (gset S 10 P1)) := by
    intro y3 y4 y5 P1 h_y3 h_y4 h_y5 h H locs ls hh hl
    have h := h (fun i k hi => hIn_rd hh.2.1 (gset_at _ _ _) hi)
    refine lv_iload hx hb dX6_standard_129 (lv_at hl 4 rfl) ?_
    refine lv_aload_n hx hb dX6_standard_131 rfl (lv_at hl 0 rfl) ?_
    refine lv_iload hx hb dX6_standard_132 (lv_at hl 3 rfl) ?_
    refine iv_iconst hx hb dX6_standard_134 ?_
    obtain ⟨g15, h⟩ := h
    refine iv_ki (iv_rV (As := [.int (hI y4), .int (hI 1)]) (rest := [.int (hI y5)]) E hh (ok_X6_of l hinj (gset S 10 P1) P1 (gset_at _ _ _) y4 1 h_y4 ⟨by decide, by decide⟩ g15) cb_X6_of q3_237 rfl rfl ⟨Nat.le_of_ble_eq_true rfl, Nat.le_of_ble_eq_true rfl⟩ (ob_Model) rfl rfl rfl hl.1 rfl (Nat.le_of_ble_eq_true rfl) dX6_standard_135 ⟨Nat.zero_le _, Nat.zero_le _⟩) hh (fun hc16 H locs hh => ?_)
    refine iv_icmp_ge (tgt := 172) hx hb h_y5 hc16 dX6_standard_138 (by decide) (fun c17 => ?_) (fun c17 => ?_)
    · have h := h.2 c17
      refine iv_iinc (lv' := [(4, .int (hI (y4 + 1))), (0, .ref (ad 10 0)), (1, .int (hI width)), (3, .int (hI y3)), (5, .int (hI y5))]) hx hb dX6_standard_172 hl (k := 3) rfl (v := (y4 + 1)) rfl (by decide) rfl (fun ls hl => ?_)
      refine lv_goto (tgt := 115) hx hb dX6_standard_175 (by decide) ?_
      exact h H _ ls hh (lv_sub hl [1, 2, 3, 0] rfl)
    · have h := h.1 c17
      refine lv_iload_n hx hb dX6_standard_141 rfl (lv_at hl 2 rfl) ?_
      refine lv_aload_n hx hb dX6_standard_142 rfl (lv_at hl 0 rfl) ?_
      refine lv_aload_n hx hb dX6_standard_143 rfl (lv_at hl 0 rfl) ?_
      refine lv_iload hx hb dX6_standard_144 (lv_at hl 3 rfl) ?_
      refine lv_iload hx hb dX6_standard_146 (lv_at hl 4 rfl) ?_
      refine iv_iconst hx hb dX6_standard_148 ?_
      obtain ⟨g18, h⟩ := h
      refine iv_ki (iv_rV (As := [.int (hI y4), .int (hI y5), .int (hI 1)]) (rest := [.ref (ad 10 0), .int (hI y3)]) E hh (ok_X6_ofStem l hinj (gset S 10 P1) P1 (gset_at _ _ _) y4 y5 1 h_y4 h_y5 ⟨by decide, by decide⟩ g18) cb_X6_ofStem q4_1 rfl rfl ⟨Nat.le_of_ble_eq_true rfl, Nat.le_of_ble_eq_true rfl⟩ (ob_Model) rfl rfl rfl hl.1 rfl (Nat.le_of_ble_eq_true rfl) dX6_standard_149 ⟨Nat.zero_le _, Nat.zero_le _⟩) hh (fun hc19 H locs hh => ?_)
      obtain ⟨g20, h⟩ := h
      refine iv_ki (iv_rV (As := [.int (hI (v_X6_ofStem P1 y4 y5 1))]) (rest := [.int (hI y3)]) E hh (ok_X6_snaps l hinj (gset S 10 P1) P1 (gset_at _ _ _) (v_X6_ofStem P1 y4 y5 1) hc19 g20) cb_X6_snaps q4_34 rfl rfl ⟨Nat.le_of_ble_eq_true rfl, Nat.le_of_ble_eq_true rfl⟩ (ob_Model) rfl rfl rfl hl.1 rfl (Nat.le_of_ble_eq_true rfl) dX6_standard_152 ⟨Nat.zero_le _, Nat.zero_le _⟩) hh (fun hc21 H locs hh => ?_)
      refine lv_iload_n hx hb dX6_standard_155 rfl (lv_at hl 1 rfl) ?_
      refine iv_icmp_ne (tgt := 163) hx hb hc21 h_width dX6_standard_156 (by decide) (fun c22 => ?_) (fun c22 => ?_)
      · have h := h.2 c22
        refine iv_iconst hx hb dX6_standard_163 ?_
        refine iv_iadd hx hb dX6_standard_164 ?_
        refine lv_istore_n (lv' := [(3, .int (hI (y3 + 0))), (0, .ref (ad 10 0)), (1, .int (hI width)), (4, .int (hI y4)), (5, .int (hI y5))]) hx hb dX6_standard_165 rfl hl (by decide) rfl (fun ls hl => ?_)
        refine iv_iinc (lv' := [(5, .int (hI (y5 + 1))), (3, .int (hI (y3 + 0))), (0, .ref (ad 10 0)), (1, .int (hI width)), (4, .int (hI y4))]) hx hb dX6_standard_166 hl (k := 4) rfl (v := (y5 + 1)) rfl (by decide) rfl (fun ls hl => ?_)
        refine lv_goto (tgt := 129) hx hb dX6_standard_169 (by decide) ?_
        exact h H _ ls hh (lv_sub hl [2, 3, 1, 4, 0] rfl)
      · have h := h.1 c22
        refine iv_iconst hx hb dX6_standard_159 ?_
        refine lv_goto (tgt := 164) hx hb dX6_standard_160 (by decide) ?_
        refine iv_iadd hx hb dX6_standard_164 ?_
        refine lv_istore_n (lv' := [(3, .int (hI (y3 + 1))), (0, .ref (ad 10 0)), (1, .int (hI width)), (4, .int (hI y4)), (5, .int (hI y5))]) hx hb dX6_standard_165 rfl hl (by decide) rfl (fun ls hl => ?_)
        refine iv_iinc (lv' := [(5, .int (hI (y5 + 1))), (3, .int (hI (y3 + 1))), (0, .ref (ad 10 0)), (1, .int (hI width)), (4, .int (hI y4))]) hx hb dX6_standard_166 hl (k := 4) rfl (v := (y5 + 1)) rfl (by decide) rfl (fun ls hl => ?_)
        refine lv_goto (tgt := 129) hx hb dX6_standard_169 (by decide) ?_
        exact h H _ ls hh (lv_sub hl [2, 3, 1, 4, 0] rfl)
  intro H locs ls hh hl
  have hl : lv_has ls 6 [(0, .ref (ad 10 0)), (1, .int (hI width))] := hl
  replace hh : hH D ad cI cJ cF (gset S 10 P) s H locs := by rw [← can1 hP]; exact hh
  have h := x_X6_standard P width h_width (fun i k hi => hIn_rd hh.2.1 (gset_at _ _ _) hi) hp (fun y2 P1 => (hAt D ad cI cJ cF p l e ({ frames := 2, cells := 0, slots := 0, locals := 46 } : Room) s m args below meth c (MQ below (hQi D ad cI cJ cF (v_X6_standard P width) (gset S 10 (m_X6_standard P width))) args s 0 0 (hAd ad)) 6 49 [(0, .ref (ad 10 0)), (1, .int (hI width)), (2, .int (hI y2))] (gset S 10 P1))) (fun y3 y4 P1 => (hAt D ad cI cJ cF p l e ({ frames := 2, cells := 0, slots := 0, locals := 46 } : Room) s m args below meth c (MQ below (hQi D ad cI cJ cF (v_X6_standard P width) (gset S 10 (m_X6_standard P width))) args s 0 0 (hAd ad)) 6 115 [(0, .ref (ad 10 0)), (1, .int (hI width)), (3, .int (hI y3)), (4, .int (hI y4))] (gset S 10 P1))) (fun y3 y4 y5 P1 => (hAt D ad cI cJ cF p l e ({ frames := 2, cells := 0, slots := 0, locals := 46 } : Room) s m args below meth c (MQ below (hQi D ad cI cJ cF (v_X6_standard P width) (gset S 10 (m_X6_standard P width))) args s 0 0 (hAd ad)) 6 129 [(0, .ref (ad 10 0)), (1, .int (hI width)), (3, .int (hI y3)), (4, .int (hI y4)), (5, .int (hI y5))] (gset S 10 P1))) (fun r P1 => (r = v_X6_standard P width ∧ P1 = m_X6_standard P width)) r49 r115 r129 ⟨rfl, rfl⟩
  refine lv_iload_n hx hb dX6_standard_0 rfl (lv_at hl 1 rfl) ?_
  refine iv_iconst hx hb dX6_standard_1 ?_
  refine lv_sipush (v := hI 300) hx hb dX6_standard_2 (by decide) ?_
  refine iv_ki (iv_rS (As := [.int (hI width), .int (hI 1), .int (hI 300)]) (rest := []) E hh (ok_X6_in l hinj (gset S 10 P) width 1 300 h_width ⟨by decide, by decide⟩ ⟨by decide, by decide⟩) cb_X6_in q3_216 rfl rfl ⟨Nat.le_of_ble_eq_true rfl, Nat.le_of_ble_eq_true rfl⟩ rfl hl.1 rfl (Nat.le_of_ble_eq_true rfl) dX6_standard_5 ⟨Nat.zero_le _, Nat.zero_le _⟩) hh (fun hc23 H locs hh => ?_)
  refine iv_if_ne (tgt := 14) hx hb hc23 dX6_standard_8 (by decide) (fun c24 => ?_) (fun c24 => ?_)
  · have h := h.2 c24
    refine lv_aload_n hx hb dX6_standard_14 rfl (lv_at hl 0 rfl) ?_
    refine lv_iload_n hx hb dX6_standard_15 rfl (lv_at hl 1 rfl) ?_
    obtain ⟨g25, h⟩ := h
    refine iv_ki (iv_rV (As := [.int (hI width)]) (rest := []) E hh (ok_X6_wideAt l hinj (gset S 10 P) P (gset_at _ _ _) width h_width g25) cb_X6_wideAt q4_29 rfl rfl ⟨Nat.le_of_ble_eq_true rfl, Nat.le_of_ble_eq_true rfl⟩ (ob_Model) rfl rfl rfl hl.1 rfl (Nat.le_of_ble_eq_true rfl) dX6_standard_16 ⟨Nat.zero_le _, Nat.zero_le _⟩) hh (fun hc26 H locs hh => ?_)
    refine iv_if_lt (tgt := 25) hx hb hc26 dX6_standard_19 (by decide) (fun c27 => ?_) (fun c27 => ?_)
    · have h := h.1 c27
      refine lv_aload_n hx hb dX6_standard_25 rfl (lv_at hl 0 rfl) ?_
      refine iv_get (v' := .ref (ad 10 1)) hx hb hts inX6 hown hK hh.1 (ob_Model) rfl 0 (by decide) (hts _ q3_160) rfl rfl rfl dX6_standard_26 ?_
      refine iv_iconst hx hb dX6_standard_29 ?_
      refine iv_iald hx hb hK hh.1 (ia_10_1) ⟨by decide, by decide⟩ (v := (P 1 1)) (congrArg (fun z => z 1 1) (gset_at _ _ _)) dX6_standard_30 ?_
      have hm28 : hIn (P 1 1) := hIn_rd hh.2.1 (gset_at _ _ _) (by decide)
      refine iv_iconst hx hb dX6_standard_31 ?_
      refine iv_icmp_ne (tgt := 38) hx hb hm28 ⟨by decide, by decide⟩ dX6_standard_32 (by decide) (fun c29 => ?_) (fun c29 => ?_)
      · have h := h.2 c29
        refine lv_aload_n hx hb dX6_standard_38 rfl (lv_at hl 0 rfl) ?_
        obtain ⟨g30, h⟩ := h
        refine iv_kv (iv_rV (As := []) (rest := []) E hh (ok_X6_changes l hinj (gset S 10 P) P (gset_at _ _ _) g30) cb_X6_changes q3_221 rfl rfl ⟨Nat.le_of_ble_eq_true rfl, Nat.le_of_ble_eq_true rfl⟩ (ob_Model) rfl rfl rfl hl.1 rfl (Nat.le_of_ble_eq_true rfl) dX6_standard_39 ⟨Nat.zero_le _, Nat.zero_le _⟩) hh (fun H locs hh => ?_)
        replace hh : hH D ad cI cJ cF (gset S 10 (m_X6_changes P)) s H locs := by rw [← show _ = (gset S 10 (m_X6_changes P)) from (gset_gset _ _ _ _)]; exact hh
        refine lv_aload_n hx hb dX6_standard_42 rfl (lv_at hl 0 rfl) ?_
        refine iv_get (v' := .ref (ad 10 1)) hx hb hts inX6 hown hK hh.1 (ob_Model) rfl 0 (by decide) (hts _ q3_160) rfl rfl rfl dX6_standard_43 ?_
        refine iv_iconst hx hb dX6_standard_46 ?_
        refine iv_iald hx hb hK hh.1 (ia_10_1) ⟨by decide, by decide⟩ (v := ((m_X6_changes P) 1 1)) (congrArg (fun z => z 1 1) (gset_at _ _ _)) dX6_standard_47 ?_
        have hm31 : hIn ((m_X6_changes P) 1 1) := hIn_rd hh.2.1 (gset_at _ _ _) (by decide)
        refine lv_istore_n (lv' := [(2, .int (hI ((m_X6_changes P) 1 1))), (0, .ref (ad 10 0)), (1, .int (hI width))]) hx hb dX6_standard_48 rfl hl (by decide) rfl (fun ls hl => ?_)
        exact h H _ ls hh (lv_sub hl [1, 2, 0] rfl)
      · have h := h.1 c29
        refine iv_ldc (n := (-1000003)) hx hb (by decide) hown (hts _ q3_220) dX6_standard_35 ?_
        exact iv_iret E hh h.1 (by rw [← h.1]; exact ⟨by decide, by decide⟩) (by rw [← h.2]) dX6_standard_37
    · have h := h.2 c27
      refine iv_ldc (n := (-1000002)) hx hb (by decide) hown (hts _ q4_12) dX6_standard_22 ?_
      exact iv_iret E hh h.1 (by rw [← h.1]; exact ⟨by decide, by decide⟩) (by rw [← h.2]) dX6_standard_24
  · have h := h.1 c24
    refine iv_ldc (n := (-1000001)) hx hb (by decide) hown (hts _ q3_219) dX6_standard_11 ?_
    exact iv_iret E hh h.1 (by rw [← h.1]; exact ⟨by decide, by decide⟩) (by rw [← h.2]) dX6_standard_13
set_option maxHeartbeats 4000000 in
set_option maxRecDepth 100000 in
theorem ok_X6_drop (l : Launch) (hinj : hInj ad) (S : hS) (P : hGM) (hP : S 10 = P) (width : Int) (h_width : hIn width) (hp : p_X6_drop P width) : hMi D ad cI cJ cF l yX6_drop cX6_drop 4 (some .int) ({ frames := 1, cells := 0, slots := 0, locals := 22 } : Room) [.ref (ad 10 0), .int (hI width)] S (v_X6_drop P width) (gset S 10 (m_X6_drop P width)) := by
  refine hOf (S := S) l hinj (by decide +kernel) (Nat.le_of_ble_eq_true rfl) (fun p e s m args below meth c E => ?_)
  obtain ⟨hx, hb, hml, hown, hts, hK, hN, -, hr, hlk⟩ := id E
  have hown : s.vm.findClass RX6 = some m.cls := hown
  have r43 : ∀ (y3 : Int) (P1 : hGM), hIn y3 → ((∀ (i : Nat) (k : Int), i < 100 → hIn (P1 i k)) → ((y3 < (P1 1 1) → ((0 ≤ ((2 + y3) + 1) ∧ ((2 + y3) + 1) < 273) ∧ ((0 ≤ (2 + y3) ∧ (2 + y3) < 273) ∧ (hAt D ad cI cJ cF p l e ({ frames := 1, cells := 0, slots := 0, locals := 22 } : Room) s m args below meth c (MQ below (hQi D ad cI cJ cF (v_X6_drop P width) (gset S 10 (m_X6_drop P width))) args s 0 0 (hAd ad)) 4 43 [(0, .ref (ad 10 0)), (3, .int (hI (y3 + 1)))] (gset S 10 (aset P1 1 (2 + y3) (P1 1 ((2 + y3) + 1)))))))) ∧ (¬ y3 < (P1 1 1) → ((P1 1 1) = v_X6_drop P width ∧ P1 = m_X6_drop P width)))) → (hAt D ad cI cJ cF p l e ({ frames := 1, cells := 0, slots := 0, locals := 22 } : Room) s m args below meth c (MQ below (hQi D ad cI cJ cF (v_X6_drop P width) (gset S 10 (m_X6_drop P width))) args s 0 0 (hAd ad)) 4 43 [(0, .ref (ad 10 0)), (3, .int (hI y3))] (gset S 10 P1)) := by
    intro y3 P1 h_y3 h H locs ls hh hl
    have h := h (fun i k hi => hIn_rd hh.2.1 (gset_at _ _ _) hi)
    refine lv_iload_n hx hb dX6_drop_43 rfl (lv_at hl 1 rfl) ?_
    refine lv_aload_n hx hb dX6_drop_44 rfl (lv_at hl 0 rfl) ?_
    refine iv_get (v' := .ref (ad 10 1)) hx hb hts inX6 hown hK hh.1 (ob_Model) rfl 0 (by decide) (hts _ q3_160) rfl rfl rfl dX6_drop_45 ?_
    refine iv_iconst hx hb dX6_drop_48 ?_
    refine iv_iald hx hb hK hh.1 (ia_10_1) ⟨by decide, by decide⟩ (v := (P1 1 1)) (congrArg (fun z => z 1 1) (gset_at _ _ _)) dX6_drop_49 ?_
    have hm1 : hIn (P1 1 1) := hIn_rd hh.2.1 (gset_at _ _ _) (by decide)
    refine iv_icmp_ge (tgt := 77) hx hb h_y3 hm1 dX6_drop_50 (by decide) (fun c2 => ?_) (fun c2 => ?_)
    · have h := h.2 c2
      refine lv_aload_n hx hb dX6_drop_77 rfl (lv_at hl 0 rfl) ?_
      refine iv_get (v' := .ref (ad 10 1)) hx hb hts inX6 hown hK hh.1 (ob_Model) rfl 0 (by decide) (hts _ q3_160) rfl rfl rfl dX6_drop_78 ?_
      refine iv_iconst hx hb dX6_drop_81 ?_
      refine iv_iald hx hb hK hh.1 (ia_10_1) ⟨by decide, by decide⟩ (v := (P1 1 1)) (congrArg (fun z => z 1 1) (gset_at _ _ _)) dX6_drop_82 ?_
      have hm3 : hIn (P1 1 1) := hIn_rd hh.2.1 (gset_at _ _ _) (by decide)
      exact iv_iret E hh h.1 (by rw [← h.1]; exact hm3) (by rw [← h.2]) dX6_drop_83
    · have h := h.1 c2
      refine lv_aload_n hx hb dX6_drop_53 rfl (lv_at hl 0 rfl) ?_
      refine iv_get (v' := .ref (ad 10 1)) hx hb hts inX6 hown hK hh.1 (ob_Model) rfl 0 (by decide) (hts _ q3_160) rfl rfl rfl dX6_drop_54 ?_
      refine iv_iconst hx hb dX6_drop_57 ?_
      refine lv_iload_n hx hb dX6_drop_58 rfl (lv_at hl 1 rfl) ?_
      refine iv_iadd hx hb dX6_drop_59 ?_
      refine lv_aload_n hx hb dX6_drop_60 rfl (lv_at hl 0 rfl) ?_
      refine iv_get (v' := .ref (ad 10 1)) hx hb hts inX6 hown hK hh.1 (ob_Model) rfl 0 (by decide) (hts _ q3_160) rfl rfl rfl dX6_drop_61 ?_
      refine iv_iconst hx hb dX6_drop_64 ?_
      refine lv_iload_n hx hb dX6_drop_65 rfl (lv_at hl 1 rfl) ?_
      refine iv_iadd hx hb dX6_drop_66 ?_
      refine iv_iconst hx hb dX6_drop_67 ?_
      refine iv_iadd hx hb dX6_drop_68 ?_
      obtain ⟨g4, h⟩ := h
      refine iv_iald hx hb hK hh.1 (ia_10_1) g4 (v := (P1 1 ((2 + y3) + 1))) (congrArg (fun z => z 1 ((2 + y3) + 1)) (gset_at _ _ _)) dX6_drop_69 ?_
      have hm5 : hIn (P1 1 ((2 + y3) + 1)) := hIn_rd hh.2.1 (gset_at _ _ _) (by decide)
      obtain ⟨g6, h⟩ := h
      refine iv_iast (S' := (gset S 10 (aset P1 1 (2 + y3) (P1 1 ((2 + y3) + 1))))) hx hb hK hinj hh (ia_10_1) g6 hm5 (by rw [show (gset S 10 P1) 10 = P1 from (gset_at _ _ _)]; exact (gset_gset _ _ _ _)) dX6_drop_70 (fun H locs hh => ?_)
      refine iv_iinc (lv' := [(3, .int (hI (y3 + 1))), (0, .ref (ad 10 0))]) hx hb dX6_drop_71 hl (k := 1) rfl (v := (y3 + 1)) rfl (by decide) rfl (fun ls hl => ?_)
      refine lv_goto (tgt := 43) hx hb dX6_drop_74 (by decide) ?_
      exact h H _ ls hh (lv_sub hl [1, 0] rfl)
  intro H locs ls hh hl
  have hl : lv_has ls 4 [(0, .ref (ad 10 0)), (1, .int (hI width))] := hl
  replace hh : hH D ad cI cJ cF (gset S 10 P) s H locs := by rw [← can1 hP]; exact hh
  have h := x_X6_drop P width h_width (fun i k hi => hIn_rd hh.2.1 (gset_at _ _ _) hi) hp (fun y3 P1 => (hAt D ad cI cJ cF p l e ({ frames := 1, cells := 0, slots := 0, locals := 22 } : Room) s m args below meth c (MQ below (hQi D ad cI cJ cF (v_X6_drop P width) (gset S 10 (m_X6_drop P width))) args s 0 0 (hAd ad)) 4 43 [(0, .ref (ad 10 0)), (3, .int (hI y3))] (gset S 10 P1))) (fun r P1 => (r = v_X6_drop P width ∧ P1 = m_X6_drop P width)) r43 ⟨rfl, rfl⟩
  refine lv_iload_n hx hb dX6_drop_0 rfl (lv_at hl 1 rfl) ?_
  refine iv_iconst hx hb dX6_drop_1 ?_
  refine lv_sipush (v := hI 300) hx hb dX6_drop_2 (by decide) ?_
  refine iv_ki (iv_rS (As := [.int (hI width), .int (hI 1), .int (hI 300)]) (rest := []) E hh (ok_X6_in l hinj (gset S 10 P) width 1 300 h_width ⟨by decide, by decide⟩ ⟨by decide, by decide⟩) cb_X6_in q3_216 rfl rfl ⟨Nat.le_of_ble_eq_true rfl, Nat.le_of_ble_eq_true rfl⟩ rfl hl.1 rfl (Nat.le_of_ble_eq_true rfl) dX6_drop_5 ⟨Nat.zero_le _, Nat.zero_le _⟩) hh (fun hc7 H locs hh => ?_)
  refine iv_if_ne (tgt := 14) hx hb hc7 dX6_drop_8 (by decide) (fun c8 => ?_) (fun c8 => ?_)
  · have h := h.2 c8
    refine lv_aload_n hx hb dX6_drop_14 rfl (lv_at hl 0 rfl) ?_
    refine lv_iload_n hx hb dX6_drop_15 rfl (lv_at hl 1 rfl) ?_
    obtain ⟨g9, h⟩ := h
    refine iv_ki (iv_rV (As := [.int (hI width)]) (rest := []) E hh (ok_X6_wideAt l hinj (gset S 10 P) P (gset_at _ _ _) width h_width g9) cb_X6_wideAt q4_29 rfl rfl ⟨Nat.le_of_ble_eq_true rfl, Nat.le_of_ble_eq_true rfl⟩ (ob_Model) rfl rfl rfl hl.1 rfl (Nat.le_of_ble_eq_true rfl) dX6_drop_16 ⟨Nat.zero_le _, Nat.zero_le _⟩) hh (fun hc10 H locs hh => ?_)
    refine lv_istore_n (lv' := [(2, .int (hI (v_X6_wideAt P width))), (0, .ref (ad 10 0)), (1, .int (hI width))]) hx hb dX6_drop_19 rfl hl (by decide) rfl (fun ls hl => ?_)
    refine lv_iload_n hx hb dX6_drop_20 rfl (lv_at hl 0 rfl) ?_
    refine iv_if_ge (tgt := 27) hx hb hc10 dX6_drop_21 (by decide) (fun c11 => ?_) (fun c11 => ?_)
    · have h := h.2 c11
      refine lv_aload_n hx hb dX6_drop_27 rfl (lv_at hl 1 rfl) ?_
      obtain ⟨g12, h⟩ := h
      refine iv_kv (iv_rV (As := []) (rest := []) E hh (ok_X6_changes l hinj (gset S 10 P) P (gset_at _ _ _) g12) cb_X6_changes q3_221 rfl rfl ⟨Nat.le_of_ble_eq_true rfl, Nat.le_of_ble_eq_true rfl⟩ (ob_Model) rfl rfl rfl hl.1 rfl (Nat.le_of_ble_eq_true rfl) dX6_drop_28 ⟨Nat.zero_le _, Nat.zero_le _⟩) hh (fun H locs hh => ?_)
      replace hh : hH D ad cI cJ cF (gset S 10 (m_X6_changes P)) s H locs := by rw [← show _ = (gset S 10 (m_X6_changes P)) from (gset_gset _ _ _ _)]; exact hh
      refine lv_aload_n hx hb dX6_drop_31 rfl (lv_at hl 1 rfl) ?_
      refine iv_get (v' := .ref (ad 10 1)) hx hb hts inX6 hown hK hh.1 (ob_Model) rfl 0 (by decide) (hts _ q3_160) rfl rfl rfl dX6_drop_32 ?_
      refine iv_iconst hx hb dX6_drop_35 ?_
      refine lv_dup2_11 hx hb dX6_drop_36 rfl rfl ?_
      refine iv_iald hx hb hK hh.1 (ia_10_1) ⟨by decide, by decide⟩ (v := ((m_X6_changes P) 1 1)) (congrArg (fun z => z 1 1) (gset_at _ _ _)) dX6_drop_37 ?_
      have hm13 : hIn ((m_X6_changes P) 1 1) := hIn_rd hh.2.1 (gset_at _ _ _) (by decide)
      refine iv_iconst hx hb dX6_drop_38 ?_
      refine iv_isub hx hb dX6_drop_39 ?_
      obtain ⟨g14, h⟩ := h
      refine iv_iast (S' := (gset S 10 (aset (m_X6_changes P) 1 1 (((m_X6_changes P) 1 1) - 1)))) hx hb hK hinj hh (ia_10_1) ⟨by decide, by decide⟩ g14 (by rw [show (gset S 10 (m_X6_changes P)) 10 = (m_X6_changes P) from (gset_at _ _ _)]; exact (gset_gset _ _ _ _)) dX6_drop_40 (fun H locs hh => ?_)
      refine lv_iload_n hx hb dX6_drop_41 rfl (lv_at hl 0 rfl) ?_
      refine lv_istore_n (lv' := [(3, .int (hI (v_X6_wideAt P width))), (2, .int (hI (v_X6_wideAt P width))), (0, .ref (ad 10 0)), (1, .int (hI width))]) hx hb dX6_drop_42 rfl hl (by decide) rfl (fun ls hl => ?_)
      exact h H _ ls hh (lv_sub hl [2, 0] rfl)
    · have h := h.1 c11
      refine iv_ldc (n := (-1000002)) hx hb (by decide) hown (hts _ q4_12) dX6_drop_24 ?_
      exact iv_iret E hh h.1 (by rw [← h.1]; exact ⟨by decide, by decide⟩) (by rw [← h.2]) dX6_drop_26
  · have h := h.1 c8
    refine iv_ldc (n := (-1000001)) hx hb (by decide) hown (hts _ q3_219) dX6_drop_11 ?_
    exact iv_iret E hh h.1 (by rw [← h.1]; exact ⟨by decide, by decide⟩) (by rw [← h.2]) dX6_drop_13
end

section
variable {D : va_G} {ad : Nat → Nat → Nat} {cI cJ cF : ClassId}
set_option maxHeartbeats 4000000 in
set_option maxRecDepth 100000 in
theorem ok_L_acts (l : Launch) (hinj : hInj ad) (S : hS) (hf : ad 99 1 = 0) (ss : Int) (h_ss : hIn ss) (hp : p_L_acts S ss) : hMx D ad cI cJ cF l yL_acts cL_acts 20 ({ frames := 7, cells := 8, slots := 64, locals := 201 } : Room) [.ref (ad 11 0), .ref (ad 10 1), .ref (ad 10 2), .ref (ad 10 3), .ref (ad 10 4), .ref (ad 10 5), .ref (ad 10 6), .ref (ad 10 7), .ref (ad 10 8), .ref (ad 10 9), .ref (ad 10 10), .ref (ad 10 11), .int (hI ss)] S (q_L_acts S ss) 8 := by
  refine hOf (S := S) l hinj (by decide +kernel) (Nat.le_of_ble_eq_true rfl) (fun p e s m args below meth c E => ?_)
  obtain ⟨hx, hb, hml, hown, hts, hK, hN, -, hr, hlk, hz⟩ := id E
  have hown : s.vm.findClass RL = some m.cls := hown
  have r20 : ∀ (y13 : Int) (y14 : Int) (S1 : hS), hIn y13 → hIn y14 → ((∀ (g i : Nat) (k : Int), i < 100 → hIn (S1 g i k)) → ((y14 < 3 → (0 ≤ y13 ∧ (hAtC D ad cI cJ cF p l e ({ frames := 7, cells := 8, slots := 64, locals := 201 } : Room) s m args below meth c (MQ below (hQx D ad cI cJ cF (q_L_acts S ss)) args s 8 (8 * 8) (hAd ad)) 20 37 [(0, .ref (ad 11 0)), (1, .ref (ad 10 1)), (2, .ref (ad 10 2)), (3, .ref (ad 10 3)), (15, .int (hI (100 + (y13 % 1401))))] S1 0))) ∧ (¬ y14 < 3 → (hAtC D ad cI cJ cF p l e ({ frames := 7, cells := 8, slots := 64, locals := 201 } : Room) s m args below meth c (MQ below (hQx D ad cI cJ cF (q_L_acts S ss)) args s 8 (8 * 8) (hAd ad)) 20 102 [(0, .ref (ad 11 0)), (1, .ref (ad 10 1)), (2, .ref (ad 10 2)), (3, .ref (ad 10 3)), (4, .ref (ad 10 4)), (5, .ref (ad 10 5)), (6, .ref (ad 10 6)), (7, .ref (ad 10 7)), (8, .ref (ad 10 8)), (9, .ref (ad 10 9)), (10, .ref (ad 10 10)), (11, .ref (ad 10 11)), (13, .int (hI y13)), (14, .int (hI y14))] S1 0)))) → (hAtC D ad cI cJ cF p l e ({ frames := 7, cells := 8, slots := 64, locals := 201 } : Room) s m args below meth c (MQ below (hQx D ad cI cJ cF (q_L_acts S ss)) args s 8 (8 * 8) (hAd ad)) 20 20 [(0, .ref (ad 11 0)), (1, .ref (ad 10 1)), (2, .ref (ad 10 2)), (3, .ref (ad 10 3)), (4, .ref (ad 10 4)), (5, .ref (ad 10 5)), (6, .ref (ad 10 6)), (7, .ref (ad 10 7)), (8, .ref (ad 10 8)), (9, .ref (ad 10 9)), (10, .ref (ad 10 10)), (11, .ref (ad 10 11)), (13, .int (hI y13)), (14, .int (hI y14))] S1 0) := by
    intro y13 y14 S1 h_y13 h_y14 h H locs ls hh hl
    have h := h (fun g i k hi => hh.2.1 g i k hi)
    refine lv_iload hx hb dL_acts_20 (lv_at hl 13 rfl) ?_
    refine iv_iconst hx hb dL_acts_22 ?_
    refine iv_icmp_ge (tgt := 102) hx hb h_y14 ⟨by decide, by decide⟩ dL_acts_23 (by decide) (fun c1 => ?_) (fun c1 => ?_)
    · have h := h.2 c1
      exact h H _ ls hh (lv_sub hl [0, 1, 2, 3, 4, 5, 6, 7, 8, 9, 10, 11, 12, 13] rfl)
    · have h := h.1 c1
      refine lv_bipush (v := hI 100) hx hb dL_acts_26 (by decide) ?_
      refine lv_iload hx hb dL_acts_28 (lv_at hl 12 rfl) ?_
      refine lv_sipush (v := hI 1401) hx hb dL_acts_30 (by decide) ?_
      obtain ⟨g2, h⟩ := h
      refine iv_irem hx hb h_y13 g2 ⟨by decide, by decide⟩ (by decide) dL_acts_33 ?_
      refine iv_iadd hx hb dL_acts_34 ?_
      refine lv_istore (lv' := [(15, .int (hI (100 + (y13 % 1401)))), (0, .ref (ad 11 0)), (1, .ref (ad 10 1)), (2, .ref (ad 10 2)), (3, .ref (ad 10 3)), (4, .ref (ad 10 4)), (5, .ref (ad 10 5)), (6, .ref (ad 10 6)), (7, .ref (ad 10 7)), (8, .ref (ad 10 8)), (9, .ref (ad 10 9)), (10, .ref (ad 10 10)), (11, .ref (ad 10 11)), (13, .int (hI y13)), (14, .int (hI y14))]) hx hb dL_acts_35 hl (by decide) rfl (fun ls hl => ?_)
      exact h H _ ls hh (lv_sub hl [1, 2, 3, 4, 0] rfl)
  have r37 : ∀ (y15 : Int) (S1 : hS), hIn y15 → ((∀ (g i : Nat) (k : Int), i < 100 → hIn (S1 g i k)) → ((((S1 10) 1 0) = 8 → (p_X5_glyph S1 y15 ∧ (((v_X5_glyph S1 y15) = (-1000003) → ((1 : Int) = 1 ∧ q_L_acts S ss (m_X5_glyph S1 y15))) ∧ (¬ (v_X5_glyph S1 y15) = (-1000003) → ((0 : Int) = 1 ∧ q_L_acts S ss (m_X5_glyph S1 y15)))))) ∧ (¬ ((S1 10) 1 0) = 8 → ((0 ≤ ((S1 10) 1 0) ∧ ((S1 10) 1 0) < 8) ∧ ((0 ≤ ((aset (S1 10) 2 ((S1 10) 1 0) y15) 1 0) ∧ ((aset (S1 10) 2 ((S1 10) 1 0) y15) 1 0) < 8) ∧ (hIn (((aset (aset (S1 10) 2 ((S1 10) 1 0) y15) 3 ((aset (S1 10) 2 ((S1 10) 1 0) y15) 1 0) 0) 1 0) + 1) ∧ (p_X5_glyph (gset S1 10 (aset (aset (aset (S1 10) 2 ((S1 10) 1 0) y15) 3 ((aset (S1 10) 2 ((S1 10) 1 0) y15) 1 0) 0) 1 0 (((aset (aset (S1 10) 2 ((S1 10) 1 0) y15) 3 ((aset (S1 10) 2 ((S1 10) 1 0) y15) 1 0) 0) 1 0) + 1))) y15 ∧ (hIn ((((m_X5_glyph (gset S1 10 (aset (aset (aset (S1 10) 2 ((S1 10) 1 0) y15) 3 ((aset (S1 10) 2 ((S1 10) 1 0) y15) 1 0) 0) 1 0 (((aset (aset (S1 10) 2 ((S1 10) 1 0) y15) 3 ((aset (S1 10) 2 ((S1 10) 1 0) y15) 1 0) 0) 1 0) + 1))) y15) 10) 1 0) - 1) ∧ (((v_X5_glyph (gset S1 10 (aset (aset (aset (S1 10) 2 ((S1 10) 1 0) y15) 3 ((aset (S1 10) 2 ((S1 10) 1 0) y15) 1 0) 0) 1 0 (((aset (aset (S1 10) 2 ((S1 10) 1 0) y15) 3 ((aset (S1 10) 2 ((S1 10) 1 0) y15) 1 0) 0) 1 0) + 1))) y15) = ((((m_X5_glyph (gset S1 10 (aset (aset (aset (S1 10) 2 ((S1 10) 1 0) y15) 3 ((aset (S1 10) 2 ((S1 10) 1 0) y15) 1 0) 0) 1 0 (((aset (aset (S1 10) 2 ((S1 10) 1 0) y15) 3 ((aset (S1 10) 2 ((S1 10) 1 0) y15) 1 0) 0) 1 0) + 1))) y15) 10) 1 0) - 1) → ((1 : Int) = 1 ∧ q_L_acts S ss (m_X5_glyph (gset S1 10 (aset (aset (aset (S1 10) 2 ((S1 10) 1 0) y15) 3 ((aset (S1 10) 2 ((S1 10) 1 0) y15) 1 0) 0) 1 0 (((aset (aset (S1 10) 2 ((S1 10) 1 0) y15) 3 ((aset (S1 10) 2 ((S1 10) 1 0) y15) 1 0) 0) 1 0) + 1))) y15))) ∧ (¬ (v_X5_glyph (gset S1 10 (aset (aset (aset (S1 10) 2 ((S1 10) 1 0) y15) 3 ((aset (S1 10) 2 ((S1 10) 1 0) y15) 1 0) 0) 1 0 (((aset (aset (S1 10) 2 ((S1 10) 1 0) y15) 3 ((aset (S1 10) 2 ((S1 10) 1 0) y15) 1 0) 0) 1 0) + 1))) y15) = ((((m_X5_glyph (gset S1 10 (aset (aset (aset (S1 10) 2 ((S1 10) 1 0) y15) 3 ((aset (S1 10) 2 ((S1 10) 1 0) y15) 1 0) 0) 1 0 (((aset (aset (S1 10) 2 ((S1 10) 1 0) y15) 3 ((aset (S1 10) 2 ((S1 10) 1 0) y15) 1 0) 0) 1 0) + 1))) y15) 10) 1 0) - 1) → ((0 : Int) = 1 ∧ q_L_acts S ss (m_X5_glyph (gset S1 10 (aset (aset (aset (S1 10) 2 ((S1 10) 1 0) y15) 3 ((aset (S1 10) 2 ((S1 10) 1 0) y15) 1 0) 0) 1 0 (((aset (aset (S1 10) 2 ((S1 10) 1 0) y15) 3 ((aset (S1 10) 2 ((S1 10) 1 0) y15) 1 0) 0) 1 0) + 1))) y15)))))))))))) → (hAtC D ad cI cJ cF p l e ({ frames := 7, cells := 8, slots := 64, locals := 201 } : Room) s m args below meth c (MQ below (hQx D ad cI cJ cF (q_L_acts S ss)) args s 8 (8 * 8) (hAd ad)) 20 37 [(0, .ref (ad 11 0)), (1, .ref (ad 10 1)), (2, .ref (ad 10 2)), (3, .ref (ad 10 3)), (15, .int (hI y15))] S1 0) := by
    intro y15 S1 h_y15 h H locs ls hh hl
    have h := h (fun g i k hi => hh.2.1 g i k hi)
    refine lv_aload_n hx hb dL_acts_37 rfl (lv_at hl 1 rfl) ?_
    refine iv_iconst hx hb dL_acts_38 ?_
    refine iv_iald hx hb hK hh.1 ia_10_1 ⟨by decide, by decide⟩ (v := ((S1 10) 1 0)) rfl dL_acts_39 ?_
    have hm3 : hIn ((S1 10) 1 0) := hIn_rd hh.2.1 rfl (by decide)
    refine lv_bipush (v := hI 8) hx hb dL_acts_40 (by decide) ?_
    refine iv_icmp_ne (tgt := 62) hx hb hm3 ⟨by decide, by decide⟩ dL_acts_42 (by decide) (fun c4 => ?_) (fun c4 => ?_)
    · have h := h.2 c4
      refine lv_aload_n hx hb dL_acts_62 rfl (lv_at hl 2 rfl) ?_
      refine lv_aload_n hx hb dL_acts_63 rfl (lv_at hl 1 rfl) ?_
      refine iv_iconst hx hb dL_acts_64 ?_
      refine iv_iald hx hb hK hh.1 ia_10_1 ⟨by decide, by decide⟩ (v := ((S1 10) 1 0)) rfl dL_acts_65 ?_
      have hm5 : hIn ((S1 10) 1 0) := hIn_rd hh.2.1 rfl (by decide)
      refine lv_iload hx hb dL_acts_66 (lv_at hl 4 rfl) ?_
      obtain ⟨g6, h⟩ := h
      refine iv_iast (S' := (gset S1 10 (aset (S1 10) 2 ((S1 10) 1 0) y15))) hx hb hK hinj hh ia_10_2 g6 h_y15 rfl dL_acts_68 (fun H locs hh => ?_)
      refine lv_aload_n hx hb dL_acts_69 rfl (lv_at hl 3 rfl) ?_
      refine lv_aload_n hx hb dL_acts_70 rfl (lv_at hl 1 rfl) ?_
      refine iv_iconst hx hb dL_acts_71 ?_
      refine iv_iald hx hb hK hh.1 ia_10_1 ⟨by decide, by decide⟩ (v := ((aset (S1 10) 2 ((S1 10) 1 0) y15) 1 0)) (congrArg (fun z => z 1 0) (gset_at _ _ _)) dL_acts_72 ?_
      have hm7 : hIn ((aset (S1 10) 2 ((S1 10) 1 0) y15) 1 0) := hIn_rd hh.2.1 (gset_at _ _ _) (by decide)
      refine iv_iconst hx hb dL_acts_73 ?_
      obtain ⟨g8, h⟩ := h
      refine iv_iast (S' := (gset S1 10 (aset (aset (S1 10) 2 ((S1 10) 1 0) y15) 3 ((aset (S1 10) 2 ((S1 10) 1 0) y15) 1 0) 0))) hx hb hK hinj hh ia_10_3 g8 ⟨by decide, by decide⟩ (by rw [show (gset S1 10 (aset (S1 10) 2 ((S1 10) 1 0) y15)) 10 = (aset (S1 10) 2 ((S1 10) 1 0) y15) from (gset_at _ _ _)]; exact (gset_gset _ _ _ _)) dL_acts_74 (fun H locs hh => ?_)
      refine lv_aload_n hx hb dL_acts_75 rfl (lv_at hl 1 rfl) ?_
      refine iv_iconst hx hb dL_acts_76 ?_
      refine lv_dup2_11 hx hb dL_acts_77 rfl rfl ?_
      refine iv_iald hx hb hK hh.1 ia_10_1 ⟨by decide, by decide⟩ (v := ((aset (aset (S1 10) 2 ((S1 10) 1 0) y15) 3 ((aset (S1 10) 2 ((S1 10) 1 0) y15) 1 0) 0) 1 0)) (congrArg (fun z => z 1 0) (gset_at _ _ _)) dL_acts_78 ?_
      have hm9 : hIn ((aset (aset (S1 10) 2 ((S1 10) 1 0) y15) 3 ((aset (S1 10) 2 ((S1 10) 1 0) y15) 1 0) 0) 1 0) := hIn_rd hh.2.1 (gset_at _ _ _) (by decide)
      refine iv_iconst hx hb dL_acts_79 ?_
      refine iv_iadd hx hb dL_acts_80 ?_
      obtain ⟨g10, h⟩ := h
      refine iv_iast (S' := (gset S1 10 (aset (aset (aset (S1 10) 2 ((S1 10) 1 0) y15) 3 ((aset (S1 10) 2 ((S1 10) 1 0) y15) 1 0) 0) 1 0 (((aset (aset (S1 10) 2 ((S1 10) 1 0) y15) 3 ((aset (S1 10) 2 ((S1 10) 1 0) y15) 1 0) 0) 1 0) + 1)))) hx hb hK hinj hh ia_10_1 ⟨by decide, by decide⟩ g10 (by rw [show (gset S1 10 (aset (aset (S1 10) 2 ((S1 10) 1 0) y15) 3 ((aset (S1 10) 2 ((S1 10) 1 0) y15) 1 0) 0)) 10 = (aset (aset (S1 10) 2 ((S1 10) 1 0) y15) 3 ((aset (S1 10) 2 ((S1 10) 1 0) y15) 1 0) 0) from (gset_at _ _ _)]; exact (gset_gset _ _ _ _)) dL_acts_81 (fun H locs hh => ?_)
      refine lv_aload_n hx hb dL_acts_82 rfl (lv_at hl 0 rfl) ?_
      refine lv_iload hx hb dL_acts_83 (lv_at hl 4 rfl) ?_
      obtain ⟨g11, h⟩ := h
      refine iv_ki (iv_rV (As := [.int (hI y15)]) (rest := []) E hh (ok_X5_glyph l hinj (gset S1 10 (aset (aset (aset (S1 10) 2 ((S1 10) 1 0) y15) 3 ((aset (S1 10) 2 ((S1 10) 1 0) y15) 1 0) 0) 1 0 (((aset (aset (S1 10) 2 ((S1 10) 1 0) y15) 3 ((aset (S1 10) 2 ((S1 10) 1 0) y15) 1 0) 0) 1 0) + 1))) y15 h_y15 g11) cb_X5_glyph q2_84 rfl rfl ⟨Nat.le_of_ble_eq_true rfl, Nat.le_of_ble_eq_true rfl⟩ (ob_X) rfl rfl rfl hl.1 rfl (Nat.le_of_ble_eq_true rfl) dL_acts_85 ⟨Nat.zero_le _, Nat.zero_le _⟩) hh (fun hc12 H locs hh => ?_)
      refine lv_aload_n hx hb dL_acts_88 rfl (lv_at hl 1 rfl) ?_
      refine iv_iconst hx hb dL_acts_89 ?_
      refine iv_iald hx hb hK hh.1 ia_10_1 ⟨by decide, by decide⟩ (v := (((m_X5_glyph (gset S1 10 (aset (aset (aset (S1 10) 2 ((S1 10) 1 0) y15) 3 ((aset (S1 10) 2 ((S1 10) 1 0) y15) 1 0) 0) 1 0 (((aset (aset (S1 10) 2 ((S1 10) 1 0) y15) 3 ((aset (S1 10) 2 ((S1 10) 1 0) y15) 1 0) 0) 1 0) + 1))) y15) 10) 1 0)) rfl dL_acts_90 ?_
      have hm13 : hIn (((m_X5_glyph (gset S1 10 (aset (aset (aset (S1 10) 2 ((S1 10) 1 0) y15) 3 ((aset (S1 10) 2 ((S1 10) 1 0) y15) 1 0) 0) 1 0 (((aset (aset (S1 10) 2 ((S1 10) 1 0) y15) 3 ((aset (S1 10) 2 ((S1 10) 1 0) y15) 1 0) 0) 1 0) + 1))) y15) 10) 1 0) := hIn_rd hh.2.1 rfl (by decide)
      refine iv_iconst hx hb dL_acts_91 ?_
      refine iv_isub hx hb dL_acts_92 ?_
      obtain ⟨g14, h⟩ := h
      refine iv_icmp_ne (tgt := 100) hx hb hc12 g14 dL_acts_93 (by decide) (fun c15 => ?_) (fun c15 => ?_)
      · have h := h.2 c15
        refine iv_iconst hx hb dL_acts_100 ?_
        refine W.widen (k := 8) (n := 8 * 8) (Nat.le_of_ble_eq_true rfl) (Nat.mul_le_mul_left 8 (Nat.le_of_ble_eq_true rfl)) ?_
        exact iv_xret E hh h.1 h.2 dL_acts_101
      · have h := h.1 c15
        refine iv_iconst hx hb dL_acts_96 ?_
        refine lv_goto (tgt := 101) hx hb dL_acts_97 (by decide) ?_
        refine W.widen (k := 8) (n := 8 * 8) (Nat.le_of_ble_eq_true rfl) (Nat.mul_le_mul_left 8 (Nat.le_of_ble_eq_true rfl)) ?_
        exact iv_xret E hh h.1 h.2 dL_acts_101
    · have h := h.1 c4
      refine lv_aload_n hx hb dL_acts_45 rfl (lv_at hl 0 rfl) ?_
      refine lv_iload hx hb dL_acts_46 (lv_at hl 4 rfl) ?_
      obtain ⟨g16, h⟩ := h
      refine iv_ki (iv_rV (As := [.int (hI y15)]) (rest := []) E hh (ok_X5_glyph l hinj S1 y15 h_y15 g16) cb_X5_glyph q2_84 rfl rfl ⟨Nat.le_of_ble_eq_true rfl, Nat.le_of_ble_eq_true rfl⟩ (ob_X) rfl rfl rfl hl.1 rfl (Nat.le_of_ble_eq_true rfl) dL_acts_48 ⟨Nat.zero_le _, Nat.zero_le _⟩) hh (fun hc17 H locs hh => ?_)
      refine iv_ldc (n := (-1000003)) hx hb (by decide) hown (hts _ q2_127) dL_acts_51 ?_
      refine iv_icmp_ne (tgt := 60) hx hb hc17 ⟨by decide, by decide⟩ dL_acts_53 (by decide) (fun c18 => ?_) (fun c18 => ?_)
      · have h := h.2 c18
        refine iv_iconst hx hb dL_acts_60 ?_
        refine W.widen (k := 8) (n := 8 * 8) (Nat.le_of_ble_eq_true rfl) (Nat.mul_le_mul_left 8 (Nat.le_of_ble_eq_true rfl)) ?_
        exact iv_xret E hh h.1 h.2 dL_acts_61
      · have h := h.1 c18
        refine iv_iconst hx hb dL_acts_56 ?_
        refine lv_goto (tgt := 61) hx hb dL_acts_57 (by decide) ?_
        refine W.widen (k := 8) (n := 8 * 8) (Nat.le_of_ble_eq_true rfl) (Nat.mul_le_mul_left 8 (Nat.le_of_ble_eq_true rfl)) ?_
        exact iv_xret E hh h.1 h.2 dL_acts_61
  have r102 : ∀ (y13 : Int) (y14 : Int) (S1 : hS), hIn y13 → hIn y14 → ((∀ (g i : Nat) (k : Int), i < 100 → hIn (S1 g i k)) → ((y14 < 22 → ((y14 < 13 → (p_L_stems S1 0 y13 ∧ (∀ (Z29 : hS), (∀ (g i : Nat) (k : Int), i < 100 → hIn (Z29 g i k)) → q_L_stems S1 0 y13 Z29 → ((1 : Int) = 1 ∧ q_L_acts S ss Z29)))) ∧ (¬ y14 < 13 → ((y14 < 20 → (p_L_stems S1 1 y13 ∧ (∀ (Z26 : hS), (∀ (g i : Nat) (k : Int), i < 100 → hIn (Z26 g i k)) → q_L_stems S1 1 y13 Z26 → ((1 : Int) = 1 ∧ q_L_acts S ss Z26)))) ∧ (¬ y14 < 20 → (p_L_stems S1 2 y13 ∧ (∀ (Z23 : hS), (∀ (g i : Nat) (k : Int), i < 100 → hIn (Z23 g i k)) → q_L_stems S1 2 y13 Z23 → ((1 : Int) = 1 ∧ q_L_acts S ss Z23)))))))) ∧ (¬ y14 < 22 → (hAtC D ad cI cJ cF p l e ({ frames := 7, cells := 8, slots := 64, locals := 201 } : Room) s m args below meth c (MQ below (hQx D ad cI cJ cF (q_L_acts S ss)) args s 8 (8 * 8) (hAd ad)) 20 147 [(0, .ref (ad 11 0)), (1, .ref (ad 10 1)), (2, .ref (ad 10 2)), (3, .ref (ad 10 3)), (4, .ref (ad 10 4)), (5, .ref (ad 10 5)), (6, .ref (ad 10 6)), (7, .ref (ad 10 7)), (8, .ref (ad 10 8)), (9, .ref (ad 10 9)), (10, .ref (ad 10 10)), (11, .ref (ad 10 11)), (13, .int (hI y13)), (14, .int (hI y14))] S1 0)))) → (hAtC D ad cI cJ cF p l e ({ frames := 7, cells := 8, slots := 64, locals := 201 } : Room) s m args below meth c (MQ below (hQx D ad cI cJ cF (q_L_acts S ss)) args s 8 (8 * 8) (hAd ad)) 20 102 [(0, .ref (ad 11 0)), (1, .ref (ad 10 1)), (2, .ref (ad 10 2)), (3, .ref (ad 10 3)), (4, .ref (ad 10 4)), (5, .ref (ad 10 5)), (6, .ref (ad 10 6)), (7, .ref (ad 10 7)), (8, .ref (ad 10 8)), (9, .ref (ad 10 9)), (10, .ref (ad 10 10)), (11, .ref (ad 10 11)), (13, .int (hI y13)), (14, .int (hI y14))] S1 0) := by
    intro y13 y14 S1 h_y13 h_y14 h H locs ls hh hl
    have h := h (fun g i k hi => hh.2.1 g i k hi)
    refine lv_iload hx hb dL_acts_102 (lv_at hl 13 rfl) ?_
    refine lv_bipush (v := hI 22) hx hb dL_acts_104 (by decide) ?_
    refine iv_icmp_ge (tgt := 147) hx hb h_y14 ⟨by decide, by decide⟩ dL_acts_106 (by decide) (fun c19 => ?_) (fun c19 => ?_)
    · have h := h.2 c19
      exact h H _ ls hh (lv_sub hl [0, 1, 2, 3, 4, 5, 6, 7, 8, 9, 10, 11, 12, 13] rfl)
    · have h := h.1 c19
      refine lv_aload_n hx hb dL_acts_109 rfl (lv_at hl 0 rfl) ?_
      refine lv_aload_n hx hb dL_acts_110 rfl (lv_at hl 1 rfl) ?_
      refine lv_aload_n hx hb dL_acts_111 rfl (lv_at hl 3 rfl) ?_
      refine lv_aload hx hb dL_acts_112 (lv_at hl 4 rfl) ?_
      refine lv_aload hx hb dL_acts_114 (lv_at hl 5 rfl) ?_
      refine lv_aload hx hb dL_acts_116 (lv_at hl 6 rfl) ?_
      refine lv_iload hx hb dL_acts_118 (lv_at hl 13 rfl) ?_
      refine lv_bipush (v := hI 13) hx hb dL_acts_120 (by decide) ?_
      refine iv_icmp_ge (tgt := 129) hx hb h_y14 ⟨by decide, by decide⟩ dL_acts_122 (by decide) (fun c20 => ?_) (fun c20 => ?_)
      · have h := h.2 c20
        refine lv_iload hx hb dL_acts_129 (lv_at hl 13 rfl) ?_
        refine lv_bipush (v := hI 20) hx hb dL_acts_131 (by decide) ?_
        refine iv_icmp_ge (tgt := 140) hx hb h_y14 ⟨by decide, by decide⟩ dL_acts_133 (by decide) (fun c21 => ?_) (fun c21 => ?_)
        · have h := h.2 c21
          refine iv_iconst hx hb dL_acts_140 ?_
          refine lv_iload hx hb dL_acts_141 (lv_at hl 12 rfl) ?_
          obtain ⟨g22, h⟩ := h
          refine iv_kx (iv_rS (As := [.ref (ad 11 0), .ref (ad 10 1), .ref (ad 10 3), .ref (ad 10 4), .ref (ad 10 5), .ref (ad 10 6), .int (hI 2), .int (hI y13)]) (rest := []) E hh (ok_L_stems l hinj S1 2 y13 ⟨by decide, by decide⟩ h_y13 g22) cb_L_stems q2_128 rfl rfl ⟨Nat.le_of_ble_eq_true rfl, Nat.le_of_ble_eq_true rfl⟩ rfl hl.1 rfl (Nat.le_of_ble_eq_true rfl) dL_acts_143 ⟨Nat.zero_le _, Nat.zero_le _⟩) hh (fun Z23 hq24 H locs hh => ?_)
          have h := h Z23 (fun g i k hi => hh.2.1 g i k hi) hq24
          refine W.widen (k := 8) (n := 8 * 8) (Nat.le_of_ble_eq_true rfl) (Nat.mul_le_mul_left 8 (Nat.le_of_ble_eq_true rfl)) ?_
          exact iv_xret E hh h.1 h.2 dL_acts_146
        · have h := h.1 c21
          refine iv_iconst hx hb dL_acts_136 ?_
          refine lv_goto (tgt := 141) hx hb dL_acts_137 (by decide) ?_
          refine lv_iload hx hb dL_acts_141 (lv_at hl 12 rfl) ?_
          obtain ⟨g25, h⟩ := h
          refine iv_kx (iv_rS (As := [.ref (ad 11 0), .ref (ad 10 1), .ref (ad 10 3), .ref (ad 10 4), .ref (ad 10 5), .ref (ad 10 6), .int (hI 1), .int (hI y13)]) (rest := []) E hh (ok_L_stems l hinj S1 1 y13 ⟨by decide, by decide⟩ h_y13 g25) cb_L_stems q2_128 rfl rfl ⟨Nat.le_of_ble_eq_true rfl, Nat.le_of_ble_eq_true rfl⟩ rfl hl.1 rfl (Nat.le_of_ble_eq_true rfl) dL_acts_143 ⟨Nat.zero_le _, Nat.zero_le _⟩) hh (fun Z26 hq27 H locs hh => ?_)
          have h := h Z26 (fun g i k hi => hh.2.1 g i k hi) hq27
          refine W.widen (k := 8) (n := 8 * 8) (Nat.le_of_ble_eq_true rfl) (Nat.mul_le_mul_left 8 (Nat.le_of_ble_eq_true rfl)) ?_
          exact iv_xret E hh h.1 h.2 dL_acts_146
      · have h := h.1 c20
        refine iv_iconst hx hb dL_acts_125 ?_
        refine lv_goto (tgt := 141) hx hb dL_acts_126 (by decide) ?_
        refine lv_iload hx hb dL_acts_141 (lv_at hl 12 rfl) ?_
        obtain ⟨g28, h⟩ := h
        refine iv_kx (iv_rS (As := [.ref (ad 11 0), .ref (ad 10 1), .ref (ad 10 3), .ref (ad 10 4), .ref (ad 10 5), .ref (ad 10 6), .int (hI 0), .int (hI y13)]) (rest := []) E hh (ok_L_stems l hinj S1 0 y13 ⟨by decide, by decide⟩ h_y13 g28) cb_L_stems q2_128 rfl rfl ⟨Nat.le_of_ble_eq_true rfl, Nat.le_of_ble_eq_true rfl⟩ rfl hl.1 rfl (Nat.le_of_ble_eq_true rfl) dL_acts_143 ⟨Nat.zero_le _, Nat.zero_le _⟩) hh (fun Z29 hq30 H locs hh => ?_)
        have h := h Z29 (fun g i k hi => hh.2.1 g i k hi) hq30
        refine W.widen (k := 8) (n := 8 * 8) (Nat.le_of_ble_eq_true rfl) (Nat.mul_le_mul_left 8 (Nat.le_of_ble_eq_true rfl)) ?_
        exact iv_xret E hh h.1 h.2 dL_acts_146
  have r147 : ∀ (y13 : Int) (y14 : Int) (S1 : hS), hIn y13 → hIn y14 → ((∀ (g i : Nat) (k : Int), i < 100 → hIn (S1 g i k)) → ((y14 < 27 → ((y14 < 24 → (0 ≤ y13 ∧ (hIn (y13 % 3) ∧ (((y13 % 3) = 0 → (hAtC D ad cI cJ cF p l e ({ frames := 7, cells := 8, slots := 64, locals := 201 } : Room) s m args below meth c (MQ below (hQx D ad cI cJ cF (q_L_acts S ss)) args s 8 (8 * 8) (hAd ad)) 20 193 [(0, .ref (ad 11 0)), (1, .ref (ad 10 1)), (3, .ref (ad 10 3)), (5, .ref (ad 10 5)), (7, .ref (ad 10 7)), (14, .int (hI y14)), (15, .int (hI (1 + (y13 % 300))))] S1 0)) ∧ (¬ (y13 % 3) = 0 → (hAtC D ad cI cJ cF p l e ({ frames := 7, cells := 8, slots := 64, locals := 201 } : Room) s m args below meth c (MQ below (hQx D ad cI cJ cF (q_L_acts S ss)) args s 8 (8 * 8) (hAd ad)) 20 193 [(0, .ref (ad 11 0)), (1, .ref (ad 10 1)), (3, .ref (ad 10 3)), (5, .ref (ad 10 5)), (7, .ref (ad 10 7)), (14, .int (hI y14)), (15, .int (hI (1 + (y13 % 90))))] S1 0)))))) ∧ (¬ y14 < 24 → (0 ≤ y13 ∧ ((0 ≤ (y13 % 3) ∧ (y13 % 3) < 3) ∧ (hAtC D ad cI cJ cF p l e ({ frames := 7, cells := 8, slots := 64, locals := 201 } : Room) s m args below meth c (MQ below (hQx D ad cI cJ cF (q_L_acts S ss)) args s 8 (8 * 8) (hAd ad)) 20 193 [(0, .ref (ad 11 0)), (1, .ref (ad 10 1)), (3, .ref (ad 10 3)), (5, .ref (ad 10 5)), (7, .ref (ad 10 7)), (14, .int (hI y14)), (15, .int (hI ((S1 10) 7 (y13 % 3))))] S1 0)))))) ∧ (¬ y14 < 27 → (hAtC D ad cI cJ cF p l e ({ frames := 7, cells := 8, slots := 64, locals := 201 } : Room) s m args below meth c (MQ below (hQx D ad cI cJ cF (q_L_acts S ss)) args s 8 (8 * 8) (hAd ad)) 20 467 [(0, .ref (ad 11 0)), (1, .ref (ad 10 1)), (2, .ref (ad 10 2)), (3, .ref (ad 10 3)), (4, .ref (ad 10 4)), (5, .ref (ad 10 5)), (6, .ref (ad 10 6)), (7, .ref (ad 10 7)), (8, .ref (ad 10 8)), (9, .ref (ad 10 9)), (10, .ref (ad 10 10)), (11, .ref (ad 10 11)), (13, .int (hI y13)), (14, .int (hI y14))] S1 0)))) → (hAtC D ad cI cJ cF p l e ({ frames := 7, cells := 8, slots := 64, locals := 201 } : Room) s m args below meth c (MQ below (hQx D ad cI cJ cF (q_L_acts S ss)) args s 8 (8 * 8) (hAd ad)) 20 147 [(0, .ref (ad 11 0)), (1, .ref (ad 10 1)), (2, .ref (ad 10 2)), (3, .ref (ad 10 3)), (4, .ref (ad 10 4)), (5, .ref (ad 10 5)), (6, .ref (ad 10 6)), (7, .ref (ad 10 7)), (8, .ref (ad 10 8)), (9, .ref (ad 10 9)), (10, .ref (ad 10 10)), (11, .ref (ad 10 11)), (13, .int (hI y13)), (14, .int (hI y14))] S1 0) := by
    intro y13 y14 S1 h_y13 h_y14 h H locs ls hh hl
    have h := h (fun g i k hi => hh.2.1 g i k hi)
    refine lv_iload hx hb dL_acts_147 (lv_at hl 13 rfl) ?_
    refine lv_bipush (v := hI 27) hx hb dL_acts_149 (by decide) ?_
    refine iv_icmp_ge (tgt := 467) hx hb h_y14 ⟨by decide, by decide⟩ dL_acts_151 (by decide) (fun c31 => ?_) (fun c31 => ?_)
    · have h := h.2 c31
      exact h H _ ls hh (lv_sub hl [0, 1, 2, 3, 4, 5, 6, 7, 8, 9, 10, 11, 12, 13] rfl)
    · have h := h.1 c31
      refine lv_iload hx hb dL_acts_154 (lv_at hl 13 rfl) ?_
      refine lv_bipush (v := hI 24) hx hb dL_acts_156 (by decide) ?_
      refine iv_icmp_ge (tgt := 184) hx hb h_y14 ⟨by decide, by decide⟩ dL_acts_158 (by decide) (fun c32 => ?_) (fun c32 => ?_)
      · have h := h.2 c32
        refine lv_aload hx hb dL_acts_184 (lv_at hl 7 rfl) ?_
        refine lv_iload hx hb dL_acts_186 (lv_at hl 12 rfl) ?_
        refine iv_iconst hx hb dL_acts_188 ?_
        obtain ⟨g33, h⟩ := h
        refine iv_irem hx hb h_y13 g33 ⟨by decide, by decide⟩ (by decide) dL_acts_189 ?_
        obtain ⟨g34, h⟩ := h
        refine iv_iald hx hb hK hh.1 ia_10_7 g34 (v := ((S1 10) 7 (y13 % 3))) rfl dL_acts_190 ?_
        have hm35 : hIn ((S1 10) 7 (y13 % 3)) := hIn_rd hh.2.1 rfl (by decide)
        refine lv_istore (lv' := [(15, .int (hI ((S1 10) 7 (y13 % 3)))), (0, .ref (ad 11 0)), (1, .ref (ad 10 1)), (2, .ref (ad 10 2)), (3, .ref (ad 10 3)), (4, .ref (ad 10 4)), (5, .ref (ad 10 5)), (6, .ref (ad 10 6)), (7, .ref (ad 10 7)), (8, .ref (ad 10 8)), (9, .ref (ad 10 9)), (10, .ref (ad 10 10)), (11, .ref (ad 10 11)), (13, .int (hI y13)), (14, .int (hI y14))]) hx hb dL_acts_191 hl (by decide) rfl (fun ls hl => ?_)
        exact h H _ ls hh (lv_sub hl [1, 2, 4, 6, 8, 14, 0] rfl)
      · have h := h.1 c32
        refine iv_iconst hx hb dL_acts_161 ?_
        refine lv_iload hx hb dL_acts_162 (lv_at hl 12 rfl) ?_
        refine lv_iload hx hb dL_acts_164 (lv_at hl 12 rfl) ?_
        refine iv_iconst hx hb dL_acts_166 ?_
        obtain ⟨g36, h⟩ := h
        refine iv_irem hx hb h_y13 g36 ⟨by decide, by decide⟩ (by decide) dL_acts_167 ?_
        obtain ⟨g37, h⟩ := h
        refine iv_if_ne (tgt := 177) hx hb g37 dL_acts_168 (by decide) (fun c38 => ?_) (fun c38 => ?_)
        · have h := h.2 c38
          refine lv_bipush (v := hI 90) hx hb dL_acts_177 (by decide) ?_
          refine iv_irem hx hb h_y13 g36 ⟨by decide, by decide⟩ (by decide) dL_acts_179 ?_
          refine iv_iadd hx hb dL_acts_180 ?_
          refine lv_goto (tgt := 191) hx hb dL_acts_181 (by decide) ?_
          refine lv_istore (lv' := [(15, .int (hI (1 + (y13 % 90)))), (0, .ref (ad 11 0)), (1, .ref (ad 10 1)), (2, .ref (ad 10 2)), (3, .ref (ad 10 3)), (4, .ref (ad 10 4)), (5, .ref (ad 10 5)), (6, .ref (ad 10 6)), (7, .ref (ad 10 7)), (8, .ref (ad 10 8)), (9, .ref (ad 10 9)), (10, .ref (ad 10 10)), (11, .ref (ad 10 11)), (13, .int (hI y13)), (14, .int (hI y14))]) hx hb dL_acts_191 hl (by decide) rfl (fun ls hl => ?_)
          exact h H _ ls hh (lv_sub hl [1, 2, 4, 6, 8, 14, 0] rfl)
        · have h := h.1 c38
          refine lv_sipush (v := hI 300) hx hb dL_acts_171 (by decide) ?_
          refine lv_goto (tgt := 179) hx hb dL_acts_174 (by decide) ?_
          refine iv_irem hx hb h_y13 g36 ⟨by decide, by decide⟩ (by decide) dL_acts_179 ?_
          refine iv_iadd hx hb dL_acts_180 ?_
          refine lv_goto (tgt := 191) hx hb dL_acts_181 (by decide) ?_
          refine lv_istore (lv' := [(15, .int (hI (1 + (y13 % 300)))), (0, .ref (ad 11 0)), (1, .ref (ad 10 1)), (2, .ref (ad 10 2)), (3, .ref (ad 10 3)), (4, .ref (ad 10 4)), (5, .ref (ad 10 5)), (6, .ref (ad 10 6)), (7, .ref (ad 10 7)), (8, .ref (ad 10 8)), (9, .ref (ad 10 9)), (10, .ref (ad 10 10)), (11, .ref (ad 10 11)), (13, .int (hI y13)), (14, .int (hI y14))]) hx hb dL_acts_191 hl (by decide) rfl (fun ls hl => ?_)
          exact h H _ ls hh (lv_sub hl [1, 2, 4, 6, 8, 14, 0] rfl)
  have r193 : ∀ (y14 : Int) (y15 : Int) (S1 : hS), hIn y14 → hIn y15 → ((∀ (g i : Nat) (k : Int), i < 100 → hIn (S1 g i k)) → (p_L_find (S1 10) y15 ∧ (p_L_find (S1 10) 0 ∧ ((y14 < 25 → ((y15 = 0 → (p_X5_standard S1 y15 ∧ (((v_X5_standard S1 y15) = (-1000001) → ((1 : Int) = 1 ∧ q_L_acts S ss (m_X5_standard S1 y15))) ∧ (¬ (v_X5_standard S1 y15) = (-1000001) → ((0 : Int) = 1 ∧ q_L_acts S ss (m_X5_standard S1 y15)))))) ∧ (¬ y15 = 0 → (((v_L_find (S1 10) y15) < 0 → (((v_L_find (S1 10) 0) < 0 → (p_X5_standard S1 y15 ∧ (((v_X5_standard S1 y15) = (-1000003) → ((1 : Int) = 1 ∧ q_L_acts S ss (m_X5_standard S1 y15))) ∧ (¬ (v_X5_standard S1 y15) = (-1000003) → ((0 : Int) = 1 ∧ q_L_acts S ss (m_X5_standard S1 y15)))))) ∧ (¬ (v_L_find (S1 10) 0) < 0 → ((0 ≤ (v_L_find (S1 10) 0) ∧ (v_L_find (S1 10) 0) < 3) ∧ (hAtC D ad cI cJ cF p l e ({ frames := 7, cells := 8, slots := 64, locals := 201 } : Room) s m args below meth c (MQ below (hQx D ad cI cJ cF (q_L_acts S ss)) args s 8 (8 * 8) (hAd ad)) 20 282 [(0, .ref (ad 11 0)), (1, .ref (ad 10 1)), (3, .ref (ad 10 3)), (5, .ref (ad 10 5)), (7, .ref (ad 10 7)), (15, .int (hI y15)), (18, .int (hI 0)), (19, .int (hI 0))] (gset S1 10 (aset (S1 10) 7 (v_L_find (S1 10) 0) y15)) 0))))) ∧ (¬ (v_L_find (S1 10) y15) < 0 → (p_X5_standard S1 y15 ∧ (((v_X5_standard S1 y15) = (-1000002) → ((1 : Int) = 1 ∧ q_L_acts S ss (m_X5_standard S1 y15))) ∧ (¬ (v_X5_standard S1 y15) = (-1000002) → ((0 : Int) = 1 ∧ q_L_acts S ss (m_X5_standard S1 y15)))))))))) ∧ (¬ y14 < 25 → ((y15 = 0 → (p_X5_drop S1 0 ∧ (((v_X5_drop S1 0) = (-1000001) → (p_L_find ((m_X5_drop S1 0) 10) 1 ∧ (((v_L_find ((m_X5_drop S1 0) 10) 1) < 0 → (p_X5_drop (m_X5_drop S1 0) 1 ∧ (((v_X5_drop (m_X5_drop S1 0) 1) = (-1000002) → ((1 : Int) = 1 ∧ q_L_acts S ss (m_X5_drop (m_X5_drop S1 0) 1))) ∧ (¬ (v_X5_drop (m_X5_drop S1 0) 1) = (-1000002) → ((0 : Int) = 1 ∧ q_L_acts S ss (m_X5_drop (m_X5_drop S1 0) 1)))))) ∧ (¬ (v_L_find ((m_X5_drop S1 0) 10) 1) < 0 → ((1 : Int) = 1 ∧ q_L_acts S ss (m_X5_drop S1 0)))))) ∧ (¬ (v_X5_drop S1 0) = (-1000001) → ((0 : Int) = 1 ∧ q_L_acts S ss (m_X5_drop S1 0)))))) ∧ (¬ y15 = 0 → ((0 ≤ (v_L_find (S1 10) y15) ∧ (v_L_find (S1 10) y15) < 3) ∧ ((((aset (S1 10) 7 (v_L_find (S1 10) y15) 0) 7 0) ≤ 0 → ((((aset (S1 10) 7 (v_L_find (S1 10) y15) 0) 7 1) ≤ 0 → ((((aset (S1 10) 7 (v_L_find (S1 10) y15) 0) 7 2) ≤ 0 → (hAtC D ad cI cJ cF p l e ({ frames := 7, cells := 8, slots := 64, locals := 201 } : Room) s m args below meth c (MQ below (hQx D ad cI cJ cF (q_L_acts S ss)) args s 8 (8 * 8) (hAd ad)) 20 450 [(0, .ref (ad 11 0)), (15, .int (hI y15)), (18, .int (hI ((0 + 0) + 0)))] (gset S1 10 (aset (S1 10) 7 (v_L_find (S1 10) y15) 0)) 0)) ∧ (¬ ((aset (S1 10) 7 (v_L_find (S1 10) y15) 0) 7 2) ≤ 0 → (hAtC D ad cI cJ cF p l e ({ frames := 7, cells := 8, slots := 64, locals := 201 } : Room) s m args below meth c (MQ below (hQx D ad cI cJ cF (q_L_acts S ss)) args s 8 (8 * 8) (hAd ad)) 20 450 [(0, .ref (ad 11 0)), (15, .int (hI y15)), (18, .int (hI ((0 + 0) + 1)))] (gset S1 10 (aset (S1 10) 7 (v_L_find (S1 10) y15) 0)) 0)))) ∧ (¬ ((aset (S1 10) 7 (v_L_find (S1 10) y15) 0) 7 1) ≤ 0 → ((((aset (S1 10) 7 (v_L_find (S1 10) y15) 0) 7 2) ≤ 0 → (hAtC D ad cI cJ cF p l e ({ frames := 7, cells := 8, slots := 64, locals := 201 } : Room) s m args below meth c (MQ below (hQx D ad cI cJ cF (q_L_acts S ss)) args s 8 (8 * 8) (hAd ad)) 20 450 [(0, .ref (ad 11 0)), (15, .int (hI y15)), (18, .int (hI ((0 + 1) + 0)))] (gset S1 10 (aset (S1 10) 7 (v_L_find (S1 10) y15) 0)) 0)) ∧ (¬ ((aset (S1 10) 7 (v_L_find (S1 10) y15) 0) 7 2) ≤ 0 → (hAtC D ad cI cJ cF p l e ({ frames := 7, cells := 8, slots := 64, locals := 201 } : Room) s m args below meth c (MQ below (hQx D ad cI cJ cF (q_L_acts S ss)) args s 8 (8 * 8) (hAd ad)) 20 450 [(0, .ref (ad 11 0)), (15, .int (hI y15)), (18, .int (hI ((0 + 1) + 1)))] (gset S1 10 (aset (S1 10) 7 (v_L_find (S1 10) y15) 0)) 0)))))) ∧ (¬ ((aset (S1 10) 7 (v_L_find (S1 10) y15) 0) 7 0) ≤ 0 → ((((aset (S1 10) 7 (v_L_find (S1 10) y15) 0) 7 1) ≤ 0 → ((((aset (S1 10) 7 (v_L_find (S1 10) y15) 0) 7 2) ≤ 0 → (hAtC D ad cI cJ cF p l e ({ frames := 7, cells := 8, slots := 64, locals := 201 } : Room) s m args below meth c (MQ below (hQx D ad cI cJ cF (q_L_acts S ss)) args s 8 (8 * 8) (hAd ad)) 20 450 [(0, .ref (ad 11 0)), (15, .int (hI y15)), (18, .int (hI ((1 + 0) + 0)))] (gset S1 10 (aset (S1 10) 7 (v_L_find (S1 10) y15) 0)) 0)) ∧ (¬ ((aset (S1 10) 7 (v_L_find (S1 10) y15) 0) 7 2) ≤ 0 → (hAtC D ad cI cJ cF p l e ({ frames := 7, cells := 8, slots := 64, locals := 201 } : Room) s m args below meth c (MQ below (hQx D ad cI cJ cF (q_L_acts S ss)) args s 8 (8 * 8) (hAd ad)) 20 450 [(0, .ref (ad 11 0)), (15, .int (hI y15)), (18, .int (hI ((1 + 0) + 1)))] (gset S1 10 (aset (S1 10) 7 (v_L_find (S1 10) y15) 0)) 0)))) ∧ (¬ ((aset (S1 10) 7 (v_L_find (S1 10) y15) 0) 7 1) ≤ 0 → ((((aset (S1 10) 7 (v_L_find (S1 10) y15) 0) 7 2) ≤ 0 → (hAtC D ad cI cJ cF p l e ({ frames := 7, cells := 8, slots := 64, locals := 201 } : Room) s m args below meth c (MQ below (hQx D ad cI cJ cF (q_L_acts S ss)) args s 8 (8 * 8) (hAd ad)) 20 450 [(0, .ref (ad 11 0)), (15, .int (hI y15)), (18, .int (hI ((1 + 1) + 0)))] (gset S1 10 (aset (S1 10) 7 (v_L_find (S1 10) y15) 0)) 0)) ∧ (¬ ((aset (S1 10) 7 (v_L_find (S1 10) y15) 0) 7 2) ≤ 0 → (hAtC D ad cI cJ cF p l e ({ frames := 7, cells := 8, slots := 64, locals := 201 } : Room) s m args below meth c (MQ below (hQx D ad cI cJ cF (q_L_acts S ss)) args s 8 (8 * 8) (hAd ad)) 20 450 [(0, .ref (ad 11 0)), (15, .int (hI y15)), (18, .int (hI ((1 + 1) + 1)))] (gset S1 10 (aset (S1 10) 7 (v_L_find (S1 10) y15) 0)) 0))))))))))))))) → (hAtC D ad cI cJ cF p l e ({ frames := 7, cells := 8, slots := 64, locals := 201 } : Room) s m args below meth c (MQ below (hQx D ad cI cJ cF (q_L_acts S ss)) args s 8 (8 * 8) (hAd ad)) 20 193 [(0, .ref (ad 11 0)), (1, .ref (ad 10 1)), (3, .ref (ad 10 3)), (5, .ref (ad 10 5)), (7, .ref (ad 10 7)), (14, .int (hI y14)), (15, .int (hI y15))] S1 0) := by
    intro y14 y15 S1 h_y14 h_y15 h H locs ls hh hl
    have h := h (fun g i k hi => hh.2.1 g i k hi)
    refine lv_aload hx hb dL_acts_193 (lv_at hl 4 rfl) ?_
    refine lv_iload hx hb dL_acts_195 (lv_at hl 6 rfl) ?_
    obtain ⟨g39, h⟩ := h
    refine iv_ki (iv_rS (As := [.ref (ad 10 7), .int (hI y15)]) (rest := []) E hh (ok_L_find l hinj S1 (S1 10) rfl y15 h_y15 g39) cb_L_find q2_175 rfl rfl ⟨Nat.le_of_ble_eq_true rfl, Nat.le_of_ble_eq_true rfl⟩ rfl hl.1 rfl (Nat.le_of_ble_eq_true rfl) dL_acts_197 ⟨Nat.zero_le _, Nat.zero_le _⟩) hh (fun hc40 H locs hh => ?_)
    refine lv_istore (lv' := [(16, .int (hI (v_L_find (S1 10) y15))), (0, .ref (ad 11 0)), (1, .ref (ad 10 1)), (3, .ref (ad 10 3)), (5, .ref (ad 10 5)), (7, .ref (ad 10 7)), (14, .int (hI y14)), (15, .int (hI y15))]) hx hb dL_acts_200 hl (by decide) rfl (fun ls hl => ?_)
    refine lv_aload hx hb dL_acts_202 (lv_at hl 5 rfl) ?_
    refine iv_iconst hx hb dL_acts_204 ?_
    obtain ⟨g41, h⟩ := h
    refine iv_ki (iv_rS (As := [.ref (ad 10 7), .int (hI 0)]) (rest := []) E hh (ok_L_find l hinj S1 (S1 10) rfl 0 ⟨by decide, by decide⟩ g41) cb_L_find q2_175 rfl rfl ⟨Nat.le_of_ble_eq_true rfl, Nat.le_of_ble_eq_true rfl⟩ rfl hl.1 rfl (Nat.le_of_ble_eq_true rfl) dL_acts_205 ⟨Nat.zero_le _, Nat.zero_le _⟩) hh (fun hc42 H locs hh => ?_)
    refine lv_istore (lv' := [(17, .int (hI (v_L_find (S1 10) 0))), (16, .int (hI (v_L_find (S1 10) y15))), (0, .ref (ad 11 0)), (1, .ref (ad 10 1)), (3, .ref (ad 10 3)), (5, .ref (ad 10 5)), (7, .ref (ad 10 7)), (14, .int (hI y14)), (15, .int (hI y15))]) hx hb dL_acts_208 hl (by decide) rfl (fun ls hl => ?_)
    refine lv_iload hx hb dL_acts_210 (lv_at hl 7 rfl) ?_
    refine lv_bipush (v := hI 25) hx hb dL_acts_212 (by decide) ?_
    refine iv_icmp_ge (tgt := 364) hx hb h_y14 ⟨by decide, by decide⟩ dL_acts_214 (by decide) (fun c43 => ?_) (fun c43 => ?_)
    · have h := h.2 c43
      refine lv_iload hx hb dL_acts_364 (lv_at hl 8 rfl) ?_
      refine iv_if_ne (tgt := 404) hx hb h_y15 dL_acts_366 (by decide) (fun c44 => ?_) (fun c44 => ?_)
      · have h := h.2 c44
        refine lv_aload hx hb dL_acts_404 (lv_at hl 6 rfl) ?_
        refine lv_iload hx hb dL_acts_406 (lv_at hl 1 rfl) ?_
        refine iv_iconst hx hb dL_acts_408 ?_
        obtain ⟨g45, h⟩ := h
        refine iv_iast (S' := (gset S1 10 (aset (S1 10) 7 (v_L_find (S1 10) y15) 0))) hx hb hK hinj hh ia_10_7 g45 ⟨by decide, by decide⟩ rfl dL_acts_409 (fun H locs hh => ?_)
        refine lv_aload hx hb dL_acts_410 (lv_at hl 6 rfl) ?_
        refine iv_iconst hx hb dL_acts_412 ?_
        refine iv_iald hx hb hK hh.1 ia_10_7 ⟨by decide, by decide⟩ (v := ((aset (S1 10) 7 (v_L_find (S1 10) y15) 0) 7 0)) (congrArg (fun z => z 7 0) (gset_at _ _ _)) dL_acts_413 ?_
        have hm46 : hIn ((aset (S1 10) 7 (v_L_find (S1 10) y15) 0) 7 0) := hIn_rd hh.2.1 (gset_at _ _ _) (by decide)
        refine iv_if_le (tgt := 421) hx hb hm46 dL_acts_414 (by decide) (fun c47 => ?_) (fun c47 => ?_)
        · have h := h.1 c47
          refine iv_iconst hx hb dL_acts_421 ?_
          refine lv_aload hx hb dL_acts_422 (lv_at hl 6 rfl) ?_
          refine iv_iconst hx hb dL_acts_424 ?_
          refine iv_iald hx hb hK hh.1 ia_10_7 ⟨by decide, by decide⟩ (v := ((aset (S1 10) 7 (v_L_find (S1 10) y15) 0) 7 1)) (congrArg (fun z => z 7 1) (gset_at _ _ _)) dL_acts_425 ?_
          have hm48 : hIn ((aset (S1 10) 7 (v_L_find (S1 10) y15) 0) 7 1) := hIn_rd hh.2.1 (gset_at _ _ _) (by decide)
          refine iv_if_le (tgt := 433) hx hb hm48 dL_acts_426 (by decide) (fun c49 => ?_) (fun c49 => ?_)
          · have h := h.1 c49
            refine iv_iconst hx hb dL_acts_433 ?_
            refine iv_iadd hx hb dL_acts_434 ?_
            refine lv_aload hx hb dL_acts_435 (lv_at hl 6 rfl) ?_
            refine iv_iconst hx hb dL_acts_437 ?_
            refine iv_iald hx hb hK hh.1 ia_10_7 ⟨by decide, by decide⟩ (v := ((aset (S1 10) 7 (v_L_find (S1 10) y15) 0) 7 2)) (congrArg (fun z => z 7 2) (gset_at _ _ _)) dL_acts_438 ?_
            have hm50 : hIn ((aset (S1 10) 7 (v_L_find (S1 10) y15) 0) 7 2) := hIn_rd hh.2.1 (gset_at _ _ _) (by decide)
            refine iv_if_le (tgt := 446) hx hb hm50 dL_acts_439 (by decide) (fun c51 => ?_) (fun c51 => ?_)
            · have h := h.1 c51
              refine iv_iconst hx hb dL_acts_446 ?_
              refine iv_iadd hx hb dL_acts_447 ?_
              refine lv_istore (lv' := [(18, .int (hI ((0 + 0) + 0))), (17, .int (hI (v_L_find (S1 10) 0))), (16, .int (hI (v_L_find (S1 10) y15))), (0, .ref (ad 11 0)), (1, .ref (ad 10 1)), (3, .ref (ad 10 3)), (5, .ref (ad 10 5)), (7, .ref (ad 10 7)), (14, .int (hI y14)), (15, .int (hI y15))]) hx hb dL_acts_448 hl (by decide) rfl (fun ls hl => ?_)
              exact h H _ ls hh (lv_sub hl [3, 9, 0] rfl)
            · have h := h.2 c51
              refine iv_iconst hx hb dL_acts_442 ?_
              refine lv_goto (tgt := 447) hx hb dL_acts_443 (by decide) ?_
              refine iv_iadd hx hb dL_acts_447 ?_
              refine lv_istore (lv' := [(18, .int (hI ((0 + 0) + 1))), (17, .int (hI (v_L_find (S1 10) 0))), (16, .int (hI (v_L_find (S1 10) y15))), (0, .ref (ad 11 0)), (1, .ref (ad 10 1)), (3, .ref (ad 10 3)), (5, .ref (ad 10 5)), (7, .ref (ad 10 7)), (14, .int (hI y14)), (15, .int (hI y15))]) hx hb dL_acts_448 hl (by decide) rfl (fun ls hl => ?_)
              exact h H _ ls hh (lv_sub hl [3, 9, 0] rfl)
          · have h := h.2 c49
            refine iv_iconst hx hb dL_acts_429 ?_
            refine lv_goto (tgt := 434) hx hb dL_acts_430 (by decide) ?_
            refine iv_iadd hx hb dL_acts_434 ?_
            refine lv_aload hx hb dL_acts_435 (lv_at hl 6 rfl) ?_
            refine iv_iconst hx hb dL_acts_437 ?_
            refine iv_iald hx hb hK hh.1 ia_10_7 ⟨by decide, by decide⟩ (v := ((aset (S1 10) 7 (v_L_find (S1 10) y15) 0) 7 2)) (congrArg (fun z => z 7 2) (gset_at _ _ _)) dL_acts_438 ?_
            have hm52 : hIn ((aset (S1 10) 7 (v_L_find (S1 10) y15) 0) 7 2) := hIn_rd hh.2.1 (gset_at _ _ _) (by decide)
            refine iv_if_le (tgt := 446) hx hb hm52 dL_acts_439 (by decide) (fun c53 => ?_) (fun c53 => ?_)
            · have h := h.1 c53
              refine iv_iconst hx hb dL_acts_446 ?_
              refine iv_iadd hx hb dL_acts_447 ?_
              refine lv_istore (lv' := [(18, .int (hI ((0 + 1) + 0))), (17, .int (hI (v_L_find (S1 10) 0))), (16, .int (hI (v_L_find (S1 10) y15))), (0, .ref (ad 11 0)), (1, .ref (ad 10 1)), (3, .ref (ad 10 3)), (5, .ref (ad 10 5)), (7, .ref (ad 10 7)), (14, .int (hI y14)), (15, .int (hI y15))]) hx hb dL_acts_448 hl (by decide) rfl (fun ls hl => ?_)
              exact h H _ ls hh (lv_sub hl [3, 9, 0] rfl)
            · have h := h.2 c53
              refine iv_iconst hx hb dL_acts_442 ?_
              refine lv_goto (tgt := 447) hx hb dL_acts_443 (by decide) ?_
              refine iv_iadd hx hb dL_acts_447 ?_
              refine lv_istore (lv' := [(18, .int (hI ((0 + 1) + 1))), (17, .int (hI (v_L_find (S1 10) 0))), (16, .int (hI (v_L_find (S1 10) y15))), (0, .ref (ad 11 0)), (1, .ref (ad 10 1)), (3, .ref (ad 10 3)), (5, .ref (ad 10 5)), (7, .ref (ad 10 7)), (14, .int (hI y14)), (15, .int (hI y15))]) hx hb dL_acts_448 hl (by decide) rfl (fun ls hl => ?_)
              exact h H _ ls hh (lv_sub hl [3, 9, 0] rfl)
        · have h := h.2 c47
          refine iv_iconst hx hb dL_acts_417 ?_
          refine lv_goto (tgt := 422) hx hb dL_acts_418 (by decide) ?_
          refine lv_aload hx hb dL_acts_422 (lv_at hl 6 rfl) ?_
          refine iv_iconst hx hb dL_acts_424 ?_
          refine iv_iald hx hb hK hh.1 ia_10_7 ⟨by decide, by decide⟩ (v := ((aset (S1 10) 7 (v_L_find (S1 10) y15) 0) 7 1)) (congrArg (fun z => z 7 1) (gset_at _ _ _)) dL_acts_425 ?_
          have hm54 : hIn ((aset (S1 10) 7 (v_L_find (S1 10) y15) 0) 7 1) := hIn_rd hh.2.1 (gset_at _ _ _) (by decide)
          refine iv_if_le (tgt := 433) hx hb hm54 dL_acts_426 (by decide) (fun c55 => ?_) (fun c55 => ?_)
          · have h := h.1 c55
            refine iv_iconst hx hb dL_acts_433 ?_
            refine iv_iadd hx hb dL_acts_434 ?_
            refine lv_aload hx hb dL_acts_435 (lv_at hl 6 rfl) ?_
            refine iv_iconst hx hb dL_acts_437 ?_
            refine iv_iald hx hb hK hh.1 ia_10_7 ⟨by decide, by decide⟩ (v := ((aset (S1 10) 7 (v_L_find (S1 10) y15) 0) 7 2)) (congrArg (fun z => z 7 2) (gset_at _ _ _)) dL_acts_438 ?_
            have hm56 : hIn ((aset (S1 10) 7 (v_L_find (S1 10) y15) 0) 7 2) := hIn_rd hh.2.1 (gset_at _ _ _) (by decide)
            refine iv_if_le (tgt := 446) hx hb hm56 dL_acts_439 (by decide) (fun c57 => ?_) (fun c57 => ?_)
            · have h := h.1 c57
              refine iv_iconst hx hb dL_acts_446 ?_
              refine iv_iadd hx hb dL_acts_447 ?_
              refine lv_istore (lv' := [(18, .int (hI ((1 + 0) + 0))), (17, .int (hI (v_L_find (S1 10) 0))), (16, .int (hI (v_L_find (S1 10) y15))), (0, .ref (ad 11 0)), (1, .ref (ad 10 1)), (3, .ref (ad 10 3)), (5, .ref (ad 10 5)), (7, .ref (ad 10 7)), (14, .int (hI y14)), (15, .int (hI y15))]) hx hb dL_acts_448 hl (by decide) rfl (fun ls hl => ?_)
              exact h H _ ls hh (lv_sub hl [3, 9, 0] rfl)
            · have h := h.2 c57
              refine iv_iconst hx hb dL_acts_442 ?_
              refine lv_goto (tgt := 447) hx hb dL_acts_443 (by decide) ?_
              refine iv_iadd hx hb dL_acts_447 ?_
              refine lv_istore (lv' := [(18, .int (hI ((1 + 0) + 1))), (17, .int (hI (v_L_find (S1 10) 0))), (16, .int (hI (v_L_find (S1 10) y15))), (0, .ref (ad 11 0)), (1, .ref (ad 10 1)), (3, .ref (ad 10 3)), (5, .ref (ad 10 5)), (7, .ref (ad 10 7)), (14, .int (hI y14)), (15, .int (hI y15))]) hx hb dL_acts_448 hl (by decide) rfl (fun ls hl => ?_)
              exact h H _ ls hh (lv_sub hl [3, 9, 0] rfl)
          · have h := h.2 c55
            refine iv_iconst hx hb dL_acts_429 ?_
            refine lv_goto (tgt := 434) hx hb dL_acts_430 (by decide) ?_
            refine iv_iadd hx hb dL_acts_434 ?_
            refine lv_aload hx hb dL_acts_435 (lv_at hl 6 rfl) ?_
            refine iv_iconst hx hb dL_acts_437 ?_
            refine iv_iald hx hb hK hh.1 ia_10_7 ⟨by decide, by decide⟩ (v := ((aset (S1 10) 7 (v_L_find (S1 10) y15) 0) 7 2)) (congrArg (fun z => z 7 2) (gset_at _ _ _)) dL_acts_438 ?_
            have hm58 : hIn ((aset (S1 10) 7 (v_L_find (S1 10) y15) 0) 7 2) := hIn_rd hh.2.1 (gset_at _ _ _) (by decide)
            refine iv_if_le (tgt := 446) hx hb hm58 dL_acts_439 (by decide) (fun c59 => ?_) (fun c59 => ?_)
            · have h := h.1 c59
              refine iv_iconst hx hb dL_acts_446 ?_
              refine iv_iadd hx hb dL_acts_447 ?_
              refine lv_istore (lv' := [(18, .int (hI ((1 + 1) + 0))), (17, .int (hI (v_L_find (S1 10) 0))), (16, .int (hI (v_L_find (S1 10) y15))), (0, .ref (ad 11 0)), (1, .ref (ad 10 1)), (3, .ref (ad 10 3)), (5, .ref (ad 10 5)), (7, .ref (ad 10 7)), (14, .int (hI y14)), (15, .int (hI y15))]) hx hb dL_acts_448 hl (by decide) rfl (fun ls hl => ?_)
              exact h H _ ls hh (lv_sub hl [3, 9, 0] rfl)
            · have h := h.2 c59
              refine iv_iconst hx hb dL_acts_442 ?_
              refine lv_goto (tgt := 447) hx hb dL_acts_443 (by decide) ?_
              refine iv_iadd hx hb dL_acts_447 ?_
              refine lv_istore (lv' := [(18, .int (hI ((1 + 1) + 1))), (17, .int (hI (v_L_find (S1 10) 0))), (16, .int (hI (v_L_find (S1 10) y15))), (0, .ref (ad 11 0)), (1, .ref (ad 10 1)), (3, .ref (ad 10 3)), (5, .ref (ad 10 5)), (7, .ref (ad 10 7)), (14, .int (hI y14)), (15, .int (hI y15))]) hx hb dL_acts_448 hl (by decide) rfl (fun ls hl => ?_)
              exact h H _ ls hh (lv_sub hl [3, 9, 0] rfl)
      · have h := h.1 c44
        refine lv_aload_n hx hb dL_acts_369 rfl (lv_at hl 2 rfl) ?_
        refine iv_iconst hx hb dL_acts_370 ?_
        obtain ⟨g60, h⟩ := h
        refine iv_ki (iv_rV (As := [.int (hI 0)]) (rest := []) E hh (ok_X5_drop l hinj S1 0 ⟨by decide, by decide⟩ g60) cb_X5_drop q2_200 rfl rfl ⟨Nat.le_of_ble_eq_true rfl, Nat.le_of_ble_eq_true rfl⟩ (ob_X) rfl rfl rfl hl.1 rfl (Nat.le_of_ble_eq_true rfl) dL_acts_371 ⟨Nat.zero_le _, Nat.zero_le _⟩) hh (fun hc61 H locs hh => ?_)
        refine iv_ldc (n := (-1000001)) hx hb (by decide) hown (hts _ q2_153) dL_acts_374 ?_
        refine iv_icmp_ne (tgt := 402) hx hb hc61 ⟨by decide, by decide⟩ dL_acts_376 (by decide) (fun c62 => ?_) (fun c62 => ?_)
        · have h := h.2 c62
          refine iv_iconst hx hb dL_acts_402 ?_
          refine W.widen (k := 8) (n := 8 * 8) (Nat.le_of_ble_eq_true rfl) (Nat.mul_le_mul_left 8 (Nat.le_of_ble_eq_true rfl)) ?_
          exact iv_xret E hh h.1 h.2 dL_acts_403
        · have h := h.1 c62
          refine lv_aload hx hb dL_acts_379 (lv_at hl 6 rfl) ?_
          refine iv_iconst hx hb dL_acts_381 ?_
          obtain ⟨g63, h⟩ := h
          refine iv_ki (iv_rS (As := [.ref (ad 10 7), .int (hI 1)]) (rest := []) E hh (ok_L_find l hinj (m_X5_drop S1 0) ((m_X5_drop S1 0) 10) rfl 1 ⟨by decide, by decide⟩ g63) cb_L_find q2_175 rfl rfl ⟨Nat.le_of_ble_eq_true rfl, Nat.le_of_ble_eq_true rfl⟩ rfl hl.1 rfl (Nat.le_of_ble_eq_true rfl) dL_acts_382 ⟨Nat.zero_le _, Nat.zero_le _⟩) hh (fun hc64 H locs hh => ?_)
          refine iv_if_ge (tgt := 398) hx hb hc64 dL_acts_385 (by decide) (fun c65 => ?_) (fun c65 => ?_)
          · have h := h.2 c65
            refine iv_iconst hx hb dL_acts_398 ?_
            refine lv_goto (tgt := 403) hx hb dL_acts_399 (by decide) ?_
            refine W.widen (k := 8) (n := 8 * 8) (Nat.le_of_ble_eq_true rfl) (Nat.mul_le_mul_left 8 (Nat.le_of_ble_eq_true rfl)) ?_
            exact iv_xret E hh h.1 h.2 dL_acts_403
          · have h := h.1 c65
            refine lv_aload_n hx hb dL_acts_388 rfl (lv_at hl 2 rfl) ?_
            refine iv_iconst hx hb dL_acts_389 ?_
            obtain ⟨g66, h⟩ := h
            refine iv_ki (iv_rV (As := [.int (hI 1)]) (rest := []) E hh (ok_X5_drop l hinj (m_X5_drop S1 0) 1 ⟨by decide, by decide⟩ g66) cb_X5_drop q2_200 rfl rfl ⟨Nat.le_of_ble_eq_true rfl, Nat.le_of_ble_eq_true rfl⟩ (ob_X) rfl rfl rfl hl.1 rfl (Nat.le_of_ble_eq_true rfl) dL_acts_390 ⟨Nat.zero_le _, Nat.zero_le _⟩) hh (fun hc67 H locs hh => ?_)
            refine iv_ldc (n := (-1000002)) hx hb (by decide) hown (hts _ q2_174) dL_acts_393 ?_
            refine iv_icmp_ne (tgt := 402) hx hb hc67 ⟨by decide, by decide⟩ dL_acts_395 (by decide) (fun c68 => ?_) (fun c68 => ?_)
            · have h := h.2 c68
              refine iv_iconst hx hb dL_acts_402 ?_
              refine W.widen (k := 8) (n := 8 * 8) (Nat.le_of_ble_eq_true rfl) (Nat.mul_le_mul_left 8 (Nat.le_of_ble_eq_true rfl)) ?_
              exact iv_xret E hh h.1 h.2 dL_acts_403
            · have h := h.1 c68
              refine iv_iconst hx hb dL_acts_398 ?_
              refine lv_goto (tgt := 403) hx hb dL_acts_399 (by decide) ?_
              refine W.widen (k := 8) (n := 8 * 8) (Nat.le_of_ble_eq_true rfl) (Nat.mul_le_mul_left 8 (Nat.le_of_ble_eq_true rfl)) ?_
              exact iv_xret E hh h.1 h.2 dL_acts_403
    · have h := h.1 c43
      refine lv_iload hx hb dL_acts_217 (lv_at hl 8 rfl) ?_
      refine iv_if_eq (tgt := 232) hx hb h_y15 dL_acts_219 (by decide) (fun c69 => ?_) (fun c69 => ?_)
      · have h := h.1 c69
        refine lv_aload_n hx hb dL_acts_232 rfl (lv_at hl 2 rfl) ?_
        refine lv_iload hx hb dL_acts_233 (lv_at hl 8 rfl) ?_
        obtain ⟨g70, h⟩ := h
        refine iv_ki (iv_rV (As := [.int (hI y15)]) (rest := []) E hh (ok_X5_standard l hinj S1 y15 h_y15 g70) cb_X5_standard q2_178 rfl rfl ⟨Nat.le_of_ble_eq_true rfl, Nat.le_of_ble_eq_true rfl⟩ (ob_X) rfl rfl rfl hl.1 rfl (Nat.le_of_ble_eq_true rfl) dL_acts_235 ⟨Nat.zero_le _, Nat.zero_le _⟩) hh (fun hc71 H locs hh => ?_)
        refine lv_iload hx hb dL_acts_238 (lv_at hl 8 rfl) ?_
        refine iv_if_ne (tgt := 248) hx hb h_y15 dL_acts_240 (by decide) (fun c72 => ?_) (fun c72 => ?_)
        · exact absurd c69 c72
        · refine iv_ldc (n := (-1000001)) hx hb (by decide) hown (hts _ q2_153) dL_acts_243 ?_
          refine lv_goto (tgt := 260) hx hb dL_acts_245 (by decide) ?_
          refine iv_icmp_ne (tgt := 267) hx hb hc71 ⟨by decide, by decide⟩ dL_acts_260 (by decide) (fun c73 => ?_) (fun c73 => ?_)
          · have h := h.2 c73
            refine iv_iconst hx hb dL_acts_267 ?_
            refine W.widen (k := 8) (n := 8 * 8) (Nat.le_of_ble_eq_true rfl) (Nat.mul_le_mul_left 8 (Nat.le_of_ble_eq_true rfl)) ?_
            exact iv_xret E hh h.1 h.2 dL_acts_268
          · have h := h.1 c73
            refine iv_iconst hx hb dL_acts_263 ?_
            refine lv_goto (tgt := 268) hx hb dL_acts_264 (by decide) ?_
            refine W.widen (k := 8) (n := 8 * 8) (Nat.le_of_ble_eq_true rfl) (Nat.mul_le_mul_left 8 (Nat.le_of_ble_eq_true rfl)) ?_
            exact iv_xret E hh h.1 h.2 dL_acts_268
      · have h := h.2 c69
        refine lv_iload hx hb dL_acts_222 (lv_at hl 1 rfl) ?_
        refine iv_if_ge (tgt := 232) hx hb hc40 dL_acts_224 (by decide) (fun c74 => ?_) (fun c74 => ?_)
        · have h := h.2 c74
          refine lv_aload_n hx hb dL_acts_232 rfl (lv_at hl 2 rfl) ?_
          refine lv_iload hx hb dL_acts_233 (lv_at hl 8 rfl) ?_
          obtain ⟨g75, h⟩ := h
          refine iv_ki (iv_rV (As := [.int (hI y15)]) (rest := []) E hh (ok_X5_standard l hinj S1 y15 h_y15 g75) cb_X5_standard q2_178 rfl rfl ⟨Nat.le_of_ble_eq_true rfl, Nat.le_of_ble_eq_true rfl⟩ (ob_X) rfl rfl rfl hl.1 rfl (Nat.le_of_ble_eq_true rfl) dL_acts_235 ⟨Nat.zero_le _, Nat.zero_le _⟩) hh (fun hc76 H locs hh => ?_)
          refine lv_iload hx hb dL_acts_238 (lv_at hl 8 rfl) ?_
          refine iv_if_ne (tgt := 248) hx hb h_y15 dL_acts_240 (by decide) (fun c77 => ?_) (fun c77 => ?_)
          · refine lv_iload hx hb dL_acts_248 (lv_at hl 1 rfl) ?_
            refine iv_if_lt (tgt := 258) hx hb hc40 dL_acts_250 (by decide) (fun c78 => ?_) (fun c78 => ?_)
            · exact absurd c78 c74
            · refine iv_ldc (n := (-1000002)) hx hb (by decide) hown (hts _ q2_174) dL_acts_253 ?_
              refine lv_goto (tgt := 260) hx hb dL_acts_255 (by decide) ?_
              refine iv_icmp_ne (tgt := 267) hx hb hc76 ⟨by decide, by decide⟩ dL_acts_260 (by decide) (fun c79 => ?_) (fun c79 => ?_)
              · have h := h.2 c79
                refine iv_iconst hx hb dL_acts_267 ?_
                refine W.widen (k := 8) (n := 8 * 8) (Nat.le_of_ble_eq_true rfl) (Nat.mul_le_mul_left 8 (Nat.le_of_ble_eq_true rfl)) ?_
                exact iv_xret E hh h.1 h.2 dL_acts_268
              · have h := h.1 c79
                refine iv_iconst hx hb dL_acts_263 ?_
                refine lv_goto (tgt := 268) hx hb dL_acts_264 (by decide) ?_
                refine W.widen (k := 8) (n := 8 * 8) (Nat.le_of_ble_eq_true rfl) (Nat.mul_le_mul_left 8 (Nat.le_of_ble_eq_true rfl)) ?_
                exact iv_xret E hh h.1 h.2 dL_acts_268
          · exact absurd c77 c69
        · have h := h.1 c74
          refine lv_iload hx hb dL_acts_227 (lv_at hl 0 rfl) ?_
          refine iv_if_ge (tgt := 269) hx hb hc42 dL_acts_229 (by decide) (fun c80 => ?_) (fun c80 => ?_)
          · have h := h.2 c80
            refine lv_aload hx hb dL_acts_269 (lv_at hl 6 rfl) ?_
            refine lv_iload hx hb dL_acts_271 (lv_at hl 0 rfl) ?_
            refine lv_iload hx hb dL_acts_273 (lv_at hl 8 rfl) ?_
            obtain ⟨g81, h⟩ := h
            refine iv_iast (S' := (gset S1 10 (aset (S1 10) 7 (v_L_find (S1 10) 0) y15))) hx hb hK hinj hh ia_10_7 g81 h_y15 rfl dL_acts_275 (fun H locs hh => ?_)
            refine iv_iconst hx hb dL_acts_276 ?_
            refine lv_istore (lv' := [(18, .int (hI 0)), (17, .int (hI (v_L_find (S1 10) 0))), (16, .int (hI (v_L_find (S1 10) y15))), (0, .ref (ad 11 0)), (1, .ref (ad 10 1)), (3, .ref (ad 10 3)), (5, .ref (ad 10 5)), (7, .ref (ad 10 7)), (14, .int (hI y14)), (15, .int (hI y15))]) hx hb dL_acts_277 hl (by decide) rfl (fun ls hl => ?_)
            refine iv_iconst hx hb dL_acts_279 ?_
            refine lv_istore (lv' := [(19, .int (hI 0)), (18, .int (hI 0)), (17, .int (hI (v_L_find (S1 10) 0))), (16, .int (hI (v_L_find (S1 10) y15))), (0, .ref (ad 11 0)), (1, .ref (ad 10 1)), (3, .ref (ad 10 3)), (5, .ref (ad 10 5)), (7, .ref (ad 10 7)), (14, .int (hI y14)), (15, .int (hI y15))]) hx hb dL_acts_280 hl (by decide) rfl (fun ls hl => ?_)
            exact h H _ ls hh (lv_sub hl [4, 5, 6, 7, 8, 10, 1, 0] rfl)
          · have h := h.1 c80
            refine lv_aload_n hx hb dL_acts_232 rfl (lv_at hl 2 rfl) ?_
            refine lv_iload hx hb dL_acts_233 (lv_at hl 8 rfl) ?_
            obtain ⟨g82, h⟩ := h
            refine iv_ki (iv_rV (As := [.int (hI y15)]) (rest := []) E hh (ok_X5_standard l hinj S1 y15 h_y15 g82) cb_X5_standard q2_178 rfl rfl ⟨Nat.le_of_ble_eq_true rfl, Nat.le_of_ble_eq_true rfl⟩ (ob_X) rfl rfl rfl hl.1 rfl (Nat.le_of_ble_eq_true rfl) dL_acts_235 ⟨Nat.zero_le _, Nat.zero_le _⟩) hh (fun hc83 H locs hh => ?_)
            refine lv_iload hx hb dL_acts_238 (lv_at hl 8 rfl) ?_
            refine iv_if_ne (tgt := 248) hx hb h_y15 dL_acts_240 (by decide) (fun c84 => ?_) (fun c84 => ?_)
            · refine lv_iload hx hb dL_acts_248 (lv_at hl 1 rfl) ?_
              refine iv_if_lt (tgt := 258) hx hb hc40 dL_acts_250 (by decide) (fun c85 => ?_) (fun c85 => ?_)
              · refine iv_ldc (n := (-1000003)) hx hb (by decide) hown (hts _ q2_127) dL_acts_258 ?_
                refine iv_icmp_ne (tgt := 267) hx hb hc83 ⟨by decide, by decide⟩ dL_acts_260 (by decide) (fun c86 => ?_) (fun c86 => ?_)
                · have h := h.2 c86
                  refine iv_iconst hx hb dL_acts_267 ?_
                  refine W.widen (k := 8) (n := 8 * 8) (Nat.le_of_ble_eq_true rfl) (Nat.mul_le_mul_left 8 (Nat.le_of_ble_eq_true rfl)) ?_
                  exact iv_xret E hh h.1 h.2 dL_acts_268
                · have h := h.1 c86
                  refine iv_iconst hx hb dL_acts_263 ?_
                  refine lv_goto (tgt := 268) hx hb dL_acts_264 (by decide) ?_
                  refine W.widen (k := 8) (n := 8 * 8) (Nat.le_of_ble_eq_true rfl) (Nat.mul_le_mul_left 8 (Nat.le_of_ble_eq_true rfl)) ?_
                  exact iv_xret E hh h.1 h.2 dL_acts_268
              · exact absurd c74 c85
            · exact absurd c84 c69
  have r282 : ∀ (y15 : Int) (y18 : Int) (y19 : Int) (S1 : hS), hIn y15 → hIn y18 → hIn y19 → ((∀ (g i : Nat) (k : Int), i < 100 → hIn (S1 g i k)) → ((y19 < 48 → (0 ≤ y19 ∧ (hIn (y19 / 6) ∧ (((y19 / 6) < ((S1 10) 1 0) → ((0 ≤ (y19 / 6) ∧ (y19 / 6) < 8) ∧ (hIn (y19 % 6) ∧ (((y19 % 6) < ((S1 10) 3 (y19 / 6)) → ((0 ≤ y19 ∧ y19 < 49) ∧ (p_L_snap (stIns (S1 0) y15) (S1 10) ((S1 10) 5 y19) ∧ (((v_L_snap (stIns (S1 0) y15) (S1 10) ((S1 10) 5 y19)) = y15 → (hAtC D ad cI cJ cF p l e ({ frames := 7, cells := 8, slots := 64, locals := 201 } : Room) s m args below meth c (MQ below (hQx D ad cI cJ cF (q_L_acts S ss)) args s 8 (8 * 8) (hAd ad)) 20 282 [(0, .ref (ad 11 0)), (1, .ref (ad 10 1)), (3, .ref (ad 10 3)), (5, .ref (ad 10 5)), (7, .ref (ad 10 7)), (15, .int (hI y15)), (18, .int (hI (y18 + 1))), (19, .int (hI (y19 + 1)))] S1 0)) ∧ (¬ (v_L_snap (stIns (S1 0) y15) (S1 10) ((S1 10) 5 y19)) = y15 → (hAtC D ad cI cJ cF p l e ({ frames := 7, cells := 8, slots := 64, locals := 201 } : Room) s m args below meth c (MQ below (hQx D ad cI cJ cF (q_L_acts S ss)) args s 8 (8 * 8) (hAd ad)) 20 282 [(0, .ref (ad 11 0)), (1, .ref (ad 10 1)), (3, .ref (ad 10 3)), (5, .ref (ad 10 5)), (7, .ref (ad 10 7)), (15, .int (hI y15)), (18, .int (hI (y18 + 0))), (19, .int (hI (y19 + 1)))] S1 0)))))) ∧ (¬ (y19 % 6) < ((S1 10) 3 (y19 / 6)) → (hAtC D ad cI cJ cF p l e ({ frames := 7, cells := 8, slots := 64, locals := 201 } : Room) s m args below meth c (MQ below (hQx D ad cI cJ cF (q_L_acts S ss)) args s 8 (8 * 8) (hAd ad)) 20 282 [(0, .ref (ad 11 0)), (1, .ref (ad 10 1)), (3, .ref (ad 10 3)), (5, .ref (ad 10 5)), (7, .ref (ad 10 7)), (15, .int (hI y15)), (18, .int (hI (y18 + 0))), (19, .int (hI (y19 + 1)))] S1 0)))))) ∧ (¬ (y19 / 6) < ((S1 10) 1 0) → (hAtC D ad cI cJ cF p l e ({ frames := 7, cells := 8, slots := 64, locals := 201 } : Room) s m args below meth c (MQ below (hQx D ad cI cJ cF (q_L_acts S ss)) args s 8 (8 * 8) (hAd ad)) 20 282 [(0, .ref (ad 11 0)), (1, .ref (ad 10 1)), (3, .ref (ad 10 3)), (5, .ref (ad 10 5)), (7, .ref (ad 10 7)), (15, .int (hI y15)), (18, .int (hI (y18 + 0))), (19, .int (hI (y19 + 1)))] S1 0)))))) ∧ (¬ y19 < 48 → (p_X5_standard S1 y15 ∧ (((v_X5_standard S1 y15) = y18 → ((1 : Int) = 1 ∧ q_L_acts S ss (m_X5_standard S1 y15))) ∧ (¬ (v_X5_standard S1 y15) = y18 → ((0 : Int) = 1 ∧ q_L_acts S ss (m_X5_standard S1 y15)))))))) → (hAtC D ad cI cJ cF p l e ({ frames := 7, cells := 8, slots := 64, locals := 201 } : Room) s m args below meth c (MQ below (hQx D ad cI cJ cF (q_L_acts S ss)) args s 8 (8 * 8) (hAd ad)) 20 282 [(0, .ref (ad 11 0)), (1, .ref (ad 10 1)), (3, .ref (ad 10 3)), (5, .ref (ad 10 5)), (7, .ref (ad 10 7)), (15, .int (hI y15)), (18, .int (hI y18)), (19, .int (hI y19))] S1 0) := by
    intro y15 y18 y19 S1 h_y15 h_y18 h_y19 h H locs ls hh hl
    have h := h (fun g i k hi => hh.2.1 g i k hi)
    refine lv_iload hx hb dL_acts_282 (lv_at hl 7 rfl) ?_
    refine lv_bipush (v := hI 48) hx hb dL_acts_284 (by decide) ?_
    refine iv_icmp_ge (tgt := 347) hx hb h_y19 ⟨by decide, by decide⟩ dL_acts_286 (by decide) (fun c87 => ?_) (fun c87 => ?_)
    · have h := h.2 c87
      refine lv_aload_n hx hb dL_acts_347 rfl (lv_at hl 0 rfl) ?_
      refine lv_iload hx hb dL_acts_348 (lv_at hl 5 rfl) ?_
      obtain ⟨g88, h⟩ := h
      refine iv_ki (iv_rV (As := [.int (hI y15)]) (rest := []) E hh (ok_X5_standard l hinj S1 y15 h_y15 g88) cb_X5_standard q2_178 rfl rfl ⟨Nat.le_of_ble_eq_true rfl, Nat.le_of_ble_eq_true rfl⟩ (ob_X) rfl rfl rfl hl.1 rfl (Nat.le_of_ble_eq_true rfl) dL_acts_350 ⟨Nat.zero_le _, Nat.zero_le _⟩) hh (fun hc89 H locs hh => ?_)
      refine lv_iload hx hb dL_acts_353 (lv_at hl 6 rfl) ?_
      refine iv_icmp_ne (tgt := 362) hx hb hc89 h_y18 dL_acts_355 (by decide) (fun c90 => ?_) (fun c90 => ?_)
      · have h := h.2 c90
        refine iv_iconst hx hb dL_acts_362 ?_
        refine W.widen (k := 8) (n := 8 * 8) (Nat.le_of_ble_eq_true rfl) (Nat.mul_le_mul_left 8 (Nat.le_of_ble_eq_true rfl)) ?_
        exact iv_xret E hh h.1 h.2 dL_acts_363
      · have h := h.1 c90
        refine iv_iconst hx hb dL_acts_358 ?_
        refine lv_goto (tgt := 363) hx hb dL_acts_359 (by decide) ?_
        refine W.widen (k := 8) (n := 8 * 8) (Nat.le_of_ble_eq_true rfl) (Nat.mul_le_mul_left 8 (Nat.le_of_ble_eq_true rfl)) ?_
        exact iv_xret E hh h.1 h.2 dL_acts_363
    · have h := h.1 c87
      refine lv_iload hx hb dL_acts_289 (lv_at hl 6 rfl) ?_
      refine lv_iload hx hb dL_acts_291 (lv_at hl 7 rfl) ?_
      refine lv_bipush (v := hI 6) hx hb dL_acts_293 (by decide) ?_
      obtain ⟨g91, h⟩ := h
      refine iv_idiv hx hb h_y19 g91 ⟨by decide, by decide⟩ (by decide) dL_acts_295 ?_
      refine lv_aload_n hx hb dL_acts_296 rfl (lv_at hl 1 rfl) ?_
      refine iv_iconst hx hb dL_acts_297 ?_
      refine iv_iald hx hb hK hh.1 ia_10_1 ⟨by decide, by decide⟩ (v := ((S1 10) 1 0)) rfl dL_acts_298 ?_
      have hm92 : hIn ((S1 10) 1 0) := hIn_rd hh.2.1 rfl (by decide)
      obtain ⟨g93, h⟩ := h
      refine iv_icmp_ge (tgt := 337) hx hb g93 hm92 dL_acts_299 (by decide) (fun c94 => ?_) (fun c94 => ?_)
      · have h := h.2 c94
        refine iv_iconst hx hb dL_acts_337 ?_
        refine iv_iadd hx hb dL_acts_338 ?_
        refine lv_istore (lv' := [(18, .int (hI (y18 + 0))), (0, .ref (ad 11 0)), (1, .ref (ad 10 1)), (3, .ref (ad 10 3)), (5, .ref (ad 10 5)), (7, .ref (ad 10 7)), (15, .int (hI y15)), (19, .int (hI y19))]) hx hb dL_acts_339 hl (by decide) rfl (fun ls hl => ?_)
        refine iv_iinc (lv' := [(19, .int (hI (y19 + 1))), (18, .int (hI (y18 + 0))), (0, .ref (ad 11 0)), (1, .ref (ad 10 1)), (3, .ref (ad 10 3)), (5, .ref (ad 10 5)), (7, .ref (ad 10 7)), (15, .int (hI y15))]) hx hb dL_acts_341 hl (k := 7) rfl (v := (y19 + 1)) rfl (by decide) rfl (fun ls hl => ?_)
        refine lv_goto (tgt := 282) hx hb dL_acts_344 (by decide) ?_
        exact h H _ ls hh (lv_sub hl [2, 3, 4, 5, 6, 7, 1, 0] rfl)
      · have h := h.1 c94
        refine lv_iload hx hb dL_acts_302 (lv_at hl 7 rfl) ?_
        refine lv_bipush (v := hI 6) hx hb dL_acts_304 (by decide) ?_
        refine iv_irem hx hb h_y19 g91 ⟨by decide, by decide⟩ (by decide) dL_acts_306 ?_
        refine lv_aload_n hx hb dL_acts_307 rfl (lv_at hl 2 rfl) ?_
        refine lv_iload hx hb dL_acts_308 (lv_at hl 7 rfl) ?_
        refine lv_bipush (v := hI 6) hx hb dL_acts_310 (by decide) ?_
        refine iv_idiv hx hb h_y19 g91 ⟨by decide, by decide⟩ (by decide) dL_acts_312 ?_
        obtain ⟨g95, h⟩ := h
        refine iv_iald hx hb hK hh.1 ia_10_3 g95 (v := ((S1 10) 3 (y19 / 6))) rfl dL_acts_313 ?_
        have hm96 : hIn ((S1 10) 3 (y19 / 6)) := hIn_rd hh.2.1 rfl (by decide)
        obtain ⟨g97, h⟩ := h
        refine iv_icmp_ge (tgt := 337) hx hb g97 hm96 dL_acts_314 (by decide) (fun c98 => ?_) (fun c98 => ?_)
        · have h := h.2 c98
          refine iv_iconst hx hb dL_acts_337 ?_
          refine iv_iadd hx hb dL_acts_338 ?_
          refine lv_istore (lv' := [(18, .int (hI (y18 + 0))), (0, .ref (ad 11 0)), (1, .ref (ad 10 1)), (3, .ref (ad 10 3)), (5, .ref (ad 10 5)), (7, .ref (ad 10 7)), (15, .int (hI y15)), (19, .int (hI y19))]) hx hb dL_acts_339 hl (by decide) rfl (fun ls hl => ?_)
          refine iv_iinc (lv' := [(19, .int (hI (y19 + 1))), (18, .int (hI (y18 + 0))), (0, .ref (ad 11 0)), (1, .ref (ad 10 1)), (3, .ref (ad 10 3)), (5, .ref (ad 10 5)), (7, .ref (ad 10 7)), (15, .int (hI y15))]) hx hb dL_acts_341 hl (k := 7) rfl (v := (y19 + 1)) rfl (by decide) rfl (fun ls hl => ?_)
          refine lv_goto (tgt := 282) hx hb dL_acts_344 (by decide) ?_
          exact h H _ ls hh (lv_sub hl [2, 3, 4, 5, 6, 7, 1, 0] rfl)
        · have h := h.1 c98
          refine lv_aload_n hx hb dL_acts_317 rfl (lv_at hl 1 rfl) ?_
          refine lv_aload hx hb dL_acts_318 (lv_at hl 4 rfl) ?_
          refine lv_aload hx hb dL_acts_320 (lv_at hl 3 rfl) ?_
          refine lv_iload hx hb dL_acts_322 (lv_at hl 7 rfl) ?_
          obtain ⟨g99, h⟩ := h
          refine iv_iald hx hb hK hh.1 ia_10_5 g99 (v := ((S1 10) 5 y19)) rfl dL_acts_324 ?_
          have hm100 : hIn ((S1 10) 5 y19) := hIn_rd hh.2.1 rfl (by decide)
          obtain ⟨g101, h⟩ := h
          refine iv_ki (iv_rS (As := [.ref (ad 10 1), .ref (ad 10 7), .int (hI ((S1 10) 5 y19))]) (rest := [.int (hI y18)]) E hh (ok_L_snap l hinj S1 (stIns (S1 0) y15) (S1 10) rfl ((S1 10) 5 y19) hm100 g101) cb_L_snap q2_194 rfl rfl ⟨Nat.le_of_ble_eq_true rfl, Nat.le_of_ble_eq_true rfl⟩ rfl hl.1 rfl (Nat.le_of_ble_eq_true rfl) dL_acts_325 ⟨Nat.zero_le _, Nat.zero_le _⟩) hh (fun hc102 H locs hh => ?_)
          refine lv_iload hx hb dL_acts_328 (lv_at hl 5 rfl) ?_
          refine iv_icmp_ne (tgt := 337) hx hb hc102 h_y15 dL_acts_330 (by decide) (fun c103 => ?_) (fun c103 => ?_)
          · have h := h.2 c103
            refine iv_iconst hx hb dL_acts_337 ?_
            refine iv_iadd hx hb dL_acts_338 ?_
            refine lv_istore (lv' := [(18, .int (hI (y18 + 0))), (0, .ref (ad 11 0)), (1, .ref (ad 10 1)), (3, .ref (ad 10 3)), (5, .ref (ad 10 5)), (7, .ref (ad 10 7)), (15, .int (hI y15)), (19, .int (hI y19))]) hx hb dL_acts_339 hl (by decide) rfl (fun ls hl => ?_)
            refine iv_iinc (lv' := [(19, .int (hI (y19 + 1))), (18, .int (hI (y18 + 0))), (0, .ref (ad 11 0)), (1, .ref (ad 10 1)), (3, .ref (ad 10 3)), (5, .ref (ad 10 5)), (7, .ref (ad 10 7)), (15, .int (hI y15))]) hx hb dL_acts_341 hl (k := 7) rfl (v := (y19 + 1)) rfl (by decide) rfl (fun ls hl => ?_)
            refine lv_goto (tgt := 282) hx hb dL_acts_344 (by decide) ?_
            exact h H _ ls hh (lv_sub hl [2, 3, 4, 5, 6, 7, 1, 0] rfl)
          · have h := h.1 c103
            refine iv_iconst hx hb dL_acts_333 ?_
            refine lv_goto (tgt := 338) hx hb dL_acts_334 (by decide) ?_
            refine iv_iadd hx hb dL_acts_338 ?_
            refine lv_istore (lv' := [(18, .int (hI (y18 + 1))), (0, .ref (ad 11 0)), (1, .ref (ad 10 1)), (3, .ref (ad 10 3)), (5, .ref (ad 10 5)), (7, .ref (ad 10 7)), (15, .int (hI y15)), (19, .int (hI y19))]) hx hb dL_acts_339 hl (by decide) rfl (fun ls hl => ?_)
            refine iv_iinc (lv' := [(19, .int (hI (y19 + 1))), (18, .int (hI (y18 + 1))), (0, .ref (ad 11 0)), (1, .ref (ad 10 1)), (3, .ref (ad 10 3)), (5, .ref (ad 10 5)), (7, .ref (ad 10 7)), (15, .int (hI y15))]) hx hb dL_acts_341 hl (k := 7) rfl (v := (y19 + 1)) rfl (by decide) rfl (fun ls hl => ?_)
            refine lv_goto (tgt := 282) hx hb dL_acts_344 (by decide) ?_
            exact h H _ ls hh (lv_sub hl [2, 3, 4, 5, 6, 7, 1, 0] rfl)
  have r450 : ∀ (y15 : Int) (y18 : Int) (S1 : hS), hIn y15 → hIn y18 → ((∀ (g i : Nat) (k : Int), i < 100 → hIn (S1 g i k)) → (p_X5_drop S1 y15 ∧ (((v_X5_drop S1 y15) = y18 → ((1 : Int) = 1 ∧ q_L_acts S ss (m_X5_drop S1 y15))) ∧ (¬ (v_X5_drop S1 y15) = y18 → ((0 : Int) = 1 ∧ q_L_acts S ss (m_X5_drop S1 y15)))))) → (hAtC D ad cI cJ cF p l e ({ frames := 7, cells := 8, slots := 64, locals := 201 } : Room) s m args below meth c (MQ below (hQx D ad cI cJ cF (q_L_acts S ss)) args s 8 (8 * 8) (hAd ad)) 20 450 [(0, .ref (ad 11 0)), (15, .int (hI y15)), (18, .int (hI y18))] S1 0) := by
    intro y15 y18 S1 h_y15 h_y18 h H locs ls hh hl
    have h := h (fun g i k hi => hh.2.1 g i k hi)
    refine lv_aload_n hx hb dL_acts_450 rfl (lv_at hl 0 rfl) ?_
    refine lv_iload hx hb dL_acts_451 (lv_at hl 1 rfl) ?_
    obtain ⟨g104, h⟩ := h
    refine iv_ki (iv_rV (As := [.int (hI y15)]) (rest := []) E hh (ok_X5_drop l hinj S1 y15 h_y15 g104) cb_X5_drop q2_200 rfl rfl ⟨Nat.le_of_ble_eq_true rfl, Nat.le_of_ble_eq_true rfl⟩ (ob_X) rfl rfl rfl hl.1 rfl (Nat.le_of_ble_eq_true rfl) dL_acts_453 ⟨Nat.zero_le _, Nat.zero_le _⟩) hh (fun hc105 H locs hh => ?_)
    refine lv_iload hx hb dL_acts_456 (lv_at hl 2 rfl) ?_
    refine iv_icmp_ne (tgt := 465) hx hb hc105 h_y18 dL_acts_458 (by decide) (fun c106 => ?_) (fun c106 => ?_)
    · have h := h.2 c106
      refine iv_iconst hx hb dL_acts_465 ?_
      refine W.widen (k := 8) (n := 8 * 8) (Nat.le_of_ble_eq_true rfl) (Nat.mul_le_mul_left 8 (Nat.le_of_ble_eq_true rfl)) ?_
      exact iv_xret E hh h.1 h.2 dL_acts_466
    · have h := h.1 c106
      refine iv_iconst hx hb dL_acts_461 ?_
      refine lv_goto (tgt := 466) hx hb dL_acts_462 (by decide) ?_
      refine W.widen (k := 8) (n := 8 * 8) (Nat.le_of_ble_eq_true rfl) (Nat.mul_le_mul_left 8 (Nat.le_of_ble_eq_true rfl)) ?_
      exact iv_xret E hh h.1 h.2 dL_acts_466
  have r467 : ∀ (y13 : Int) (y14 : Int) (S1 : hS), hIn y13 → hIn y14 → ((∀ (g i : Nat) (k : Int), i < 100 → hIn (S1 g i k)) → ((y14 < 31 → (0 ≤ y13 ∧ (hIn (y13 % 4) ∧ (((y13 % 4) = 0 → (hAtC D ad cI cJ cF p l e ({ frames := 7, cells := 8, slots := 64, locals := 201 } : Room) s m args below meth c (MQ below (hQx D ad cI cJ cF (q_L_acts S ss)) args s 8 (8 * 8) (hAd ad)) 20 509 [(0, .ref (ad 11 0)), (1, .ref (ad 10 1)), (2, .ref (ad 10 2)), (3, .ref (ad 10 3)), (4, .ref (ad 10 4)), (5, .ref (ad 10 5)), (6, .ref (ad 10 6)), (7, .ref (ad 10 7)), (8, .ref (ad 10 8)), (9, .ref (ad 10 9)), (10, .ref (ad 10 10)), (11, .ref (ad 10 11)), (15, .int (hI (6 + ((y13 % 43) * 1))))] S1 0)) ∧ (¬ (y13 % 4) = 0 → (hAtC D ad cI cJ cF p l e ({ frames := 7, cells := 8, slots := 64, locals := 201 } : Room) s m args below meth c (MQ below (hQx D ad cI cJ cF (q_L_acts S ss)) args s 8 (8 * 8) (hAd ad)) 20 509 [(0, .ref (ad 11 0)), (1, .ref (ad 10 1)), (2, .ref (ad 10 2)), (3, .ref (ad 10 3)), (4, .ref (ad 10 4)), (5, .ref (ad 10 5)), (6, .ref (ad 10 6)), (7, .ref (ad 10 7)), (8, .ref (ad 10 8)), (9, .ref (ad 10 9)), (10, .ref (ad 10 10)), (11, .ref (ad 10 11)), (15, .int (hI (6 + ((y13 % 5) * 9))))] S1 0)))))) ∧ (¬ y14 < 31 → (hAtC D ad cI cJ cF p l e ({ frames := 7, cells := 8, slots := 64, locals := 201 } : Room) s m args below meth c (MQ below (hQx D ad cI cJ cF (q_L_acts S ss)) args s 8 (8 * 8) (hAd ad)) 20 552 [(0, .ref (ad 11 0)), (1, .ref (ad 10 1)), (13, .int (hI y13))] S1 0)))) → (hAtC D ad cI cJ cF p l e ({ frames := 7, cells := 8, slots := 64, locals := 201 } : Room) s m args below meth c (MQ below (hQx D ad cI cJ cF (q_L_acts S ss)) args s 8 (8 * 8) (hAd ad)) 20 467 [(0, .ref (ad 11 0)), (1, .ref (ad 10 1)), (2, .ref (ad 10 2)), (3, .ref (ad 10 3)), (4, .ref (ad 10 4)), (5, .ref (ad 10 5)), (6, .ref (ad 10 6)), (7, .ref (ad 10 7)), (8, .ref (ad 10 8)), (9, .ref (ad 10 9)), (10, .ref (ad 10 10)), (11, .ref (ad 10 11)), (13, .int (hI y13)), (14, .int (hI y14))] S1 0) := by
    intro y13 y14 S1 h_y13 h_y14 h H locs ls hh hl
    have h := h (fun g i k hi => hh.2.1 g i k hi)
    refine lv_iload hx hb dL_acts_467 (lv_at hl 13 rfl) ?_
    refine lv_bipush (v := hI 31) hx hb dL_acts_469 (by decide) ?_
    refine iv_icmp_ge (tgt := 552) hx hb h_y14 ⟨by decide, by decide⟩ dL_acts_471 (by decide) (fun c107 => ?_) (fun c107 => ?_)
    · have h := h.2 c107
      exact h H _ ls hh (lv_sub hl [0, 1, 12] rfl)
    · have h := h.1 c107
      refine lv_bipush (v := hI 6) hx hb dL_acts_474 (by decide) ?_
      refine lv_iload hx hb dL_acts_476 (lv_at hl 12 rfl) ?_
      refine lv_iload hx hb dL_acts_478 (lv_at hl 12 rfl) ?_
      refine iv_iconst hx hb dL_acts_480 ?_
      obtain ⟨g108, h⟩ := h
      refine iv_irem hx hb h_y13 g108 ⟨by decide, by decide⟩ (by decide) dL_acts_481 ?_
      obtain ⟨g109, h⟩ := h
      refine iv_if_ne (tgt := 490) hx hb g109 dL_acts_482 (by decide) (fun c110 => ?_) (fun c110 => ?_)
      · have h := h.2 c110
        refine iv_iconst hx hb dL_acts_490 ?_
        refine iv_irem hx hb h_y13 g108 ⟨by decide, by decide⟩ (by decide) dL_acts_491 ?_
        refine lv_iload hx hb dL_acts_492 (lv_at hl 12 rfl) ?_
        refine iv_iconst hx hb dL_acts_494 ?_
        refine iv_irem hx hb h_y13 g108 ⟨by decide, by decide⟩ (by decide) dL_acts_495 ?_
        refine iv_if_ne (tgt := 503) hx hb g109 dL_acts_496 (by decide) (fun c111 => ?_) (fun c111 => ?_)
        · refine lv_bipush (v := hI 9) hx hb dL_acts_503 (by decide) ?_
          refine iv_imul hx hb dL_acts_505 ?_
          refine iv_iadd hx hb dL_acts_506 ?_
          refine lv_istore (lv' := [(15, .int (hI (6 + ((y13 % 5) * 9)))), (0, .ref (ad 11 0)), (1, .ref (ad 10 1)), (2, .ref (ad 10 2)), (3, .ref (ad 10 3)), (4, .ref (ad 10 4)), (5, .ref (ad 10 5)), (6, .ref (ad 10 6)), (7, .ref (ad 10 7)), (8, .ref (ad 10 8)), (9, .ref (ad 10 9)), (10, .ref (ad 10 10)), (11, .ref (ad 10 11)), (13, .int (hI y13)), (14, .int (hI y14))]) hx hb dL_acts_507 hl (by decide) rfl (fun ls hl => ?_)
          exact h H _ ls hh (lv_sub hl [1, 2, 3, 4, 5, 6, 7, 8, 9, 10, 11, 12, 0] rfl)
        · exact absurd c111 c110
      · have h := h.1 c110
        refine lv_bipush (v := hI 43) hx hb dL_acts_485 (by decide) ?_
        refine lv_goto (tgt := 491) hx hb dL_acts_487 (by decide) ?_
        refine iv_irem hx hb h_y13 g108 ⟨by decide, by decide⟩ (by decide) dL_acts_491 ?_
        refine lv_iload hx hb dL_acts_492 (lv_at hl 12 rfl) ?_
        refine iv_iconst hx hb dL_acts_494 ?_
        refine iv_irem hx hb h_y13 g108 ⟨by decide, by decide⟩ (by decide) dL_acts_495 ?_
        refine iv_if_ne (tgt := 503) hx hb g109 dL_acts_496 (by decide) (fun c112 => ?_) (fun c112 => ?_)
        · exact absurd c110 c112
        · refine iv_iconst hx hb dL_acts_499 ?_
          refine lv_goto (tgt := 505) hx hb dL_acts_500 (by decide) ?_
          refine iv_imul hx hb dL_acts_505 ?_
          refine iv_iadd hx hb dL_acts_506 ?_
          refine lv_istore (lv' := [(15, .int (hI (6 + ((y13 % 43) * 1)))), (0, .ref (ad 11 0)), (1, .ref (ad 10 1)), (2, .ref (ad 10 2)), (3, .ref (ad 10 3)), (4, .ref (ad 10 4)), (5, .ref (ad 10 5)), (6, .ref (ad 10 6)), (7, .ref (ad 10 7)), (8, .ref (ad 10 8)), (9, .ref (ad 10 9)), (10, .ref (ad 10 10)), (11, .ref (ad 10 11)), (13, .int (hI y13)), (14, .int (hI y14))]) hx hb dL_acts_507 hl (by decide) rfl (fun ls hl => ?_)
          exact h H _ ls hh (lv_sub hl [1, 2, 3, 4, 5, 6, 7, 8, 9, 10, 11, 12, 0] rfl)
  have r509 : ∀ (y15 : Int) (S1 : hS), hIn y15 → ((∀ (g i : Nat) (k : Int), i < 100 → hIn (S1 g i k)) → (p_L_make (S1 0) (S1 10) y15 ∧ (p_X5_make (gset S1 10 (m_L_make (S1 0) (S1 10) y15)) y15 ∧ (((v_X5_make (gset S1 10 (m_L_make (S1 0) (S1 10) y15)) y15) = (v_L_make (S1 0) (S1 10) y15) → ((1 : Int) = 1 ∧ q_L_acts S ss (m_X5_make (gset S1 10 (m_L_make (S1 0) (S1 10) y15)) y15))) ∧ (¬ (v_X5_make (gset S1 10 (m_L_make (S1 0) (S1 10) y15)) y15) = (v_L_make (S1 0) (S1 10) y15) → ((0 : Int) = 1 ∧ q_L_acts S ss (m_X5_make (gset S1 10 (m_L_make (S1 0) (S1 10) y15)) y15))))))) → (hAtC D ad cI cJ cF p l e ({ frames := 7, cells := 8, slots := 64, locals := 201 } : Room) s m args below meth c (MQ below (hQx D ad cI cJ cF (q_L_acts S ss)) args s 8 (8 * 8) (hAd ad)) 20 509 [(0, .ref (ad 11 0)), (1, .ref (ad 10 1)), (2, .ref (ad 10 2)), (3, .ref (ad 10 3)), (4, .ref (ad 10 4)), (5, .ref (ad 10 5)), (6, .ref (ad 10 6)), (7, .ref (ad 10 7)), (8, .ref (ad 10 8)), (9, .ref (ad 10 9)), (10, .ref (ad 10 10)), (11, .ref (ad 10 11)), (15, .int (hI y15))] S1 0) := by
    intro y15 S1 h_y15 h H locs ls hh hl
    have h := h (fun g i k hi => hh.2.1 g i k hi)
    refine lv_aload_n hx hb dL_acts_509 rfl (lv_at hl 1 rfl) ?_
    refine lv_aload_n hx hb dL_acts_510 rfl (lv_at hl 2 rfl) ?_
    refine lv_aload_n hx hb dL_acts_511 rfl (lv_at hl 3 rfl) ?_
    refine lv_aload hx hb dL_acts_512 (lv_at hl 4 rfl) ?_
    refine lv_aload hx hb dL_acts_514 (lv_at hl 5 rfl) ?_
    refine lv_aload hx hb dL_acts_516 (lv_at hl 6 rfl) ?_
    refine lv_aload hx hb dL_acts_518 (lv_at hl 7 rfl) ?_
    refine lv_aload hx hb dL_acts_520 (lv_at hl 8 rfl) ?_
    refine lv_aload hx hb dL_acts_522 (lv_at hl 9 rfl) ?_
    refine lv_aload hx hb dL_acts_524 (lv_at hl 10 rfl) ?_
    refine lv_aload hx hb dL_acts_526 (lv_at hl 11 rfl) ?_
    refine lv_iload hx hb dL_acts_528 (lv_at hl 12 rfl) ?_
    obtain ⟨g113, h⟩ := h
    refine iv_kiC (iv_rSC (mc := 8) (As := [.ref (ad 10 1), .ref (ad 10 2), .ref (ad 10 3), .ref (ad 10 4), .ref (ad 10 5), .ref (ad 10 6), .ref (ad 10 7), .ref (ad 10 8), .ref (ad 10 9), .ref (ad 10 10), .ref (ad 10 11), .int (hI y15)]) (rest := []) E hh (ok_L_make l hinj S1 hf (S1 0) (S1 10) rfl y15 h_y15 g113) cb_L_make q2_208 rfl rfl ⟨Nat.le_of_ble_eq_true rfl, Nat.le_of_ble_eq_true rfl⟩ rfl hl.1 rfl (Nat.le_of_ble_eq_true rfl) dL_acts_530 (rm8 (k := 0) (mc := 8) (K := 8) (Nat.le_of_ble_eq_true rfl))) hh (fun hc114 H locs hh => ?_)
    refine lv_istore (lv' := [(16, .int (hI (v_L_make (S1 0) (S1 10) y15))), (0, .ref (ad 11 0)), (1, .ref (ad 10 1)), (2, .ref (ad 10 2)), (3, .ref (ad 10 3)), (4, .ref (ad 10 4)), (5, .ref (ad 10 5)), (6, .ref (ad 10 6)), (7, .ref (ad 10 7)), (8, .ref (ad 10 8)), (9, .ref (ad 10 9)), (10, .ref (ad 10 10)), (11, .ref (ad 10 11)), (15, .int (hI y15))]) hx hb dL_acts_533 hl (by decide) rfl (fun ls hl => ?_)
    refine lv_aload_n hx hb dL_acts_535 rfl (lv_at hl 1 rfl) ?_
    refine lv_iload hx hb dL_acts_536 (lv_at hl 13 rfl) ?_
    obtain ⟨g115, h⟩ := h
    refine iv_ki (iv_rV (As := [.int (hI y15)]) (rest := []) E hh (ok_X5_make l hinj (gset S1 10 (m_L_make (S1 0) (S1 10) y15)) y15 h_y15 g115) cb_X5_make q2_229 rfl rfl ⟨Nat.le_of_ble_eq_true rfl, Nat.le_of_ble_eq_true rfl⟩ (ob_X) rfl rfl rfl hl.1 rfl (Nat.le_of_ble_eq_true rfl) dL_acts_538 (rk0 (k := 8) (K := 8) (Nat.le_of_ble_eq_true rfl))) hh (fun hc116 H locs hh => ?_)
    refine lv_iload hx hb dL_acts_541 (lv_at hl 0 rfl) ?_
    refine iv_icmp_ne (tgt := 550) hx hb hc116 hc114 dL_acts_543 (by decide) (fun c117 => ?_) (fun c117 => ?_)
    · have h := h.2 c117
      refine iv_iconst hx hb dL_acts_550 ?_
      exact iv_xret E hh h.1 h.2 dL_acts_551
    · have h := h.1 c117
      refine iv_iconst hx hb dL_acts_546 ?_
      refine lv_goto (tgt := 551) hx hb dL_acts_547 (by decide) ?_
      exact iv_xret E hh h.1 h.2 dL_acts_551
  have r552 : ∀ (y13 : Int) (S1 : hS), hIn y13 → ((∀ (g i : Nat) (k : Int), i < 100 → hIn (S1 g i k)) → (0 ≤ y13 ∧ ((0 ≤ (1 + (y13 % 2)) ∧ (1 + (y13 % 2)) < 4) ∧ (hIn (y13 % 2) ∧ (((y13 % 2) = 0 → (hIn (y13 / 2) ∧ (0 ≤ (y13 / 2) ∧ (hIn ((y13 / 2) % 101) ∧ (hAtC D ad cI cJ cF p l e ({ frames := 7, cells := 8, slots := 64, locals := 201 } : Room) s m args below meth c (MQ below (hQx D ad cI cJ cF (q_L_acts S ss)) args s 8 (8 * 8) (hAd ad)) 20 588 [(0, .ref (ad 11 0)), (1, .ref (ad 10 1)), (15, .int (hI (y13 % 2))), (16, .int (hI ((S1 10) 1 (1 + (y13 % 2)))))] (gset S1 10 (aset (S1 10) 1 (1 + (y13 % 2)) ((y13 / 2) % 101))) 0))))) ∧ (¬ (y13 % 2) = 0 → (hIn (y13 / 2) ∧ (0 ≤ (y13 / 2) ∧ (hIn ((y13 / 2) % 4) ∧ (hAtC D ad cI cJ cF p l e ({ frames := 7, cells := 8, slots := 64, locals := 201 } : Room) s m args below meth c (MQ below (hQx D ad cI cJ cF (q_L_acts S ss)) args s 8 (8 * 8) (hAd ad)) 20 588 [(0, .ref (ad 11 0)), (1, .ref (ad 10 1)), (15, .int (hI (y13 % 2))), (16, .int (hI ((S1 10) 1 (1 + (y13 % 2)))))] (gset S1 10 (aset (S1 10) 1 (1 + (y13 % 2)) ((y13 / 2) % 4))) 0)))))))))) → (hAtC D ad cI cJ cF p l e ({ frames := 7, cells := 8, slots := 64, locals := 201 } : Room) s m args below meth c (MQ below (hQx D ad cI cJ cF (q_L_acts S ss)) args s 8 (8 * 8) (hAd ad)) 20 552 [(0, .ref (ad 11 0)), (1, .ref (ad 10 1)), (13, .int (hI y13))] S1 0) := by
    intro y13 S1 h_y13 h H locs ls hh hl
    have h := h (fun g i k hi => hh.2.1 g i k hi)
    refine lv_iload hx hb dL_acts_552 (lv_at hl 2 rfl) ?_
    refine iv_iconst hx hb dL_acts_554 ?_
    obtain ⟨g118, h⟩ := h
    refine iv_irem hx hb h_y13 g118 ⟨by decide, by decide⟩ (by decide) dL_acts_555 ?_
    refine lv_istore (lv' := [(15, .int (hI (y13 % 2))), (0, .ref (ad 11 0)), (1, .ref (ad 10 1)), (13, .int (hI y13))]) hx hb dL_acts_556 hl (by decide) rfl (fun ls hl => ?_)
    refine lv_aload_n hx hb dL_acts_558 rfl (lv_at hl 2 rfl) ?_
    refine iv_iconst hx hb dL_acts_559 ?_
    refine lv_iload hx hb dL_acts_560 (lv_at hl 0 rfl) ?_
    refine iv_iadd hx hb dL_acts_562 ?_
    obtain ⟨g119, h⟩ := h
    refine iv_iald hx hb hK hh.1 ia_10_1 g119 (v := ((S1 10) 1 (1 + (y13 % 2)))) rfl dL_acts_563 ?_
    have hm120 : hIn ((S1 10) 1 (1 + (y13 % 2))) := hIn_rd hh.2.1 rfl (by decide)
    refine lv_istore (lv' := [(16, .int (hI ((S1 10) 1 (1 + (y13 % 2))))), (15, .int (hI (y13 % 2))), (0, .ref (ad 11 0)), (1, .ref (ad 10 1)), (13, .int (hI y13))]) hx hb dL_acts_564 hl (by decide) rfl (fun ls hl => ?_)
    refine lv_aload_n hx hb dL_acts_566 rfl (lv_at hl 3 rfl) ?_
    refine iv_iconst hx hb dL_acts_567 ?_
    refine lv_iload hx hb dL_acts_568 (lv_at hl 1 rfl) ?_
    refine iv_iadd hx hb dL_acts_570 ?_
    refine lv_iload hx hb dL_acts_571 (lv_at hl 4 rfl) ?_
    refine iv_iconst hx hb dL_acts_573 ?_
    refine iv_idiv hx hb h_y13 g118 ⟨by decide, by decide⟩ (by decide) dL_acts_574 ?_
    refine lv_iload hx hb dL_acts_575 (lv_at hl 1 rfl) ?_
    obtain ⟨g121, h⟩ := h
    refine iv_if_ne (tgt := 585) hx hb g121 dL_acts_577 (by decide) (fun c122 => ?_) (fun c122 => ?_)
    · have h := h.2 c122
      refine iv_iconst hx hb dL_acts_585 ?_
      obtain ⟨g123, h⟩ := h
      obtain ⟨g124, h⟩ := h
      refine iv_irem hx hb g123 g124 ⟨by decide, by decide⟩ (by decide) dL_acts_586 ?_
      obtain ⟨g125, h⟩ := h
      refine iv_iast (S' := (gset S1 10 (aset (S1 10) 1 (1 + (y13 % 2)) ((y13 / 2) % 4)))) hx hb hK hinj hh ia_10_1 g119 g125 rfl dL_acts_587 (fun H locs hh => ?_)
      exact h H _ ls hh (lv_sub hl [2, 3, 1, 0] rfl)
    · have h := h.1 c122
      refine lv_bipush (v := hI 101) hx hb dL_acts_580 (by decide) ?_
      refine lv_goto (tgt := 586) hx hb dL_acts_582 (by decide) ?_
      obtain ⟨g126, h⟩ := h
      obtain ⟨g127, h⟩ := h
      refine iv_irem hx hb g126 g127 ⟨by decide, by decide⟩ (by decide) dL_acts_586 ?_
      obtain ⟨g128, h⟩ := h
      refine iv_iast (S' := (gset S1 10 (aset (S1 10) 1 (1 + (y13 % 2)) ((y13 / 2) % 101)))) hx hb hK hinj hh ia_10_1 g119 g128 rfl dL_acts_587 (fun H locs hh => ?_)
      exact h H _ ls hh (lv_sub hl [2, 3, 1, 0] rfl)
  have r588 : ∀ (y15 : Int) (y16 : Int) (S1 : hS), hIn y15 → hIn y16 → ((∀ (g i : Nat) (k : Int), i < 100 → hIn (S1 g i k)) → ((0 ≤ (1 + y15) ∧ (1 + y15) < 4) ∧ (p_X5_set S1 y15 ((S1 10) 1 (1 + y15)) ∧ (((v_X5_set S1 y15 ((S1 10) 1 (1 + y15))) = y16 → ((1 : Int) = 1 ∧ q_L_acts S ss (m_X5_set S1 y15 ((S1 10) 1 (1 + y15))))) ∧ (¬ (v_X5_set S1 y15 ((S1 10) 1 (1 + y15))) = y16 → ((0 : Int) = 1 ∧ q_L_acts S ss (m_X5_set S1 y15 ((S1 10) 1 (1 + y15))))))))) → (hAtC D ad cI cJ cF p l e ({ frames := 7, cells := 8, slots := 64, locals := 201 } : Room) s m args below meth c (MQ below (hQx D ad cI cJ cF (q_L_acts S ss)) args s 8 (8 * 8) (hAd ad)) 20 588 [(0, .ref (ad 11 0)), (1, .ref (ad 10 1)), (15, .int (hI y15)), (16, .int (hI y16))] S1 0) := by
    intro y15 y16 S1 h_y15 h_y16 h H locs ls hh hl
    have h := h (fun g i k hi => hh.2.1 g i k hi)
    refine lv_aload_n hx hb dL_acts_588 rfl (lv_at hl 0 rfl) ?_
    refine lv_iload hx hb dL_acts_589 (lv_at hl 2 rfl) ?_
    refine lv_aload_n hx hb dL_acts_591 rfl (lv_at hl 1 rfl) ?_
    refine iv_iconst hx hb dL_acts_592 ?_
    refine lv_iload hx hb dL_acts_593 (lv_at hl 2 rfl) ?_
    refine iv_iadd hx hb dL_acts_595 ?_
    obtain ⟨g129, h⟩ := h
    refine iv_iald hx hb hK hh.1 ia_10_1 g129 (v := ((S1 10) 1 (1 + y15))) rfl dL_acts_596 ?_
    have hm130 : hIn ((S1 10) 1 (1 + y15)) := hIn_rd hh.2.1 rfl (by decide)
    obtain ⟨g131, h⟩ := h
    refine iv_ki (iv_rV (As := [.int (hI y15), .int (hI ((S1 10) 1 (1 + y15)))]) (rest := []) E hh (ok_X5_set l hinj S1 y15 ((S1 10) 1 (1 + y15)) h_y15 hm130 g131) cb_X5_set q3_13 rfl rfl ⟨Nat.le_of_ble_eq_true rfl, Nat.le_of_ble_eq_true rfl⟩ (ob_X) rfl rfl rfl hl.1 rfl (Nat.le_of_ble_eq_true rfl) dL_acts_597 ⟨Nat.zero_le _, Nat.zero_le _⟩) hh (fun hc132 H locs hh => ?_)
    refine lv_iload hx hb dL_acts_600 (lv_at hl 3 rfl) ?_
    refine iv_icmp_ne (tgt := 609) hx hb hc132 h_y16 dL_acts_602 (by decide) (fun c133 => ?_) (fun c133 => ?_)
    · have h := h.2 c133
      refine iv_iconst hx hb dL_acts_609 ?_
      refine W.widen (k := 8) (n := 8 * 8) (Nat.le_of_ble_eq_true rfl) (Nat.mul_le_mul_left 8 (Nat.le_of_ble_eq_true rfl)) ?_
      exact iv_xret E hh h.1 h.2 dL_acts_610
    · have h := h.1 c133
      refine iv_iconst hx hb dL_acts_605 ?_
      refine lv_goto (tgt := 610) hx hb dL_acts_606 (by decide) ?_
      refine W.widen (k := 8) (n := 8 * 8) (Nat.le_of_ble_eq_true rfl) (Nat.mul_le_mul_left 8 (Nat.le_of_ble_eq_true rfl)) ?_
      exact iv_xret E hh h.1 h.2 dL_acts_610
  intro H locs ls hh hl
  have hl : lv_has ls 20 [(0, .ref (ad 11 0)), (1, .ref (ad 10 1)), (2, .ref (ad 10 2)), (3, .ref (ad 10 3)), (4, .ref (ad 10 4)), (5, .ref (ad 10 5)), (6, .ref (ad 10 6)), (7, .ref (ad 10 7)), (8, .ref (ad 10 8)), (9, .ref (ad 10 9)), (10, .ref (ad 10 10)), (11, .ref (ad 10 11)), (12, .int (hI ss))] := hl
  have h := x_L_acts S ss h_ss (fun g i k hi => hh.2.1 g i k hi) hp (fun y13 y14 S1 => (hAtC D ad cI cJ cF p l e ({ frames := 7, cells := 8, slots := 64, locals := 201 } : Room) s m args below meth c (MQ below (hQx D ad cI cJ cF (q_L_acts S ss)) args s 8 (8 * 8) (hAd ad)) 20 20 [(0, .ref (ad 11 0)), (1, .ref (ad 10 1)), (2, .ref (ad 10 2)), (3, .ref (ad 10 3)), (4, .ref (ad 10 4)), (5, .ref (ad 10 5)), (6, .ref (ad 10 6)), (7, .ref (ad 10 7)), (8, .ref (ad 10 8)), (9, .ref (ad 10 9)), (10, .ref (ad 10 10)), (11, .ref (ad 10 11)), (13, .int (hI y13)), (14, .int (hI y14))] S1 0)) (fun y15 S1 => (hAtC D ad cI cJ cF p l e ({ frames := 7, cells := 8, slots := 64, locals := 201 } : Room) s m args below meth c (MQ below (hQx D ad cI cJ cF (q_L_acts S ss)) args s 8 (8 * 8) (hAd ad)) 20 37 [(0, .ref (ad 11 0)), (1, .ref (ad 10 1)), (2, .ref (ad 10 2)), (3, .ref (ad 10 3)), (15, .int (hI y15))] S1 0)) (fun y13 y14 S1 => (hAtC D ad cI cJ cF p l e ({ frames := 7, cells := 8, slots := 64, locals := 201 } : Room) s m args below meth c (MQ below (hQx D ad cI cJ cF (q_L_acts S ss)) args s 8 (8 * 8) (hAd ad)) 20 102 [(0, .ref (ad 11 0)), (1, .ref (ad 10 1)), (2, .ref (ad 10 2)), (3, .ref (ad 10 3)), (4, .ref (ad 10 4)), (5, .ref (ad 10 5)), (6, .ref (ad 10 6)), (7, .ref (ad 10 7)), (8, .ref (ad 10 8)), (9, .ref (ad 10 9)), (10, .ref (ad 10 10)), (11, .ref (ad 10 11)), (13, .int (hI y13)), (14, .int (hI y14))] S1 0)) (fun y13 y14 S1 => (hAtC D ad cI cJ cF p l e ({ frames := 7, cells := 8, slots := 64, locals := 201 } : Room) s m args below meth c (MQ below (hQx D ad cI cJ cF (q_L_acts S ss)) args s 8 (8 * 8) (hAd ad)) 20 147 [(0, .ref (ad 11 0)), (1, .ref (ad 10 1)), (2, .ref (ad 10 2)), (3, .ref (ad 10 3)), (4, .ref (ad 10 4)), (5, .ref (ad 10 5)), (6, .ref (ad 10 6)), (7, .ref (ad 10 7)), (8, .ref (ad 10 8)), (9, .ref (ad 10 9)), (10, .ref (ad 10 10)), (11, .ref (ad 10 11)), (13, .int (hI y13)), (14, .int (hI y14))] S1 0)) (fun y14 y15 S1 => (hAtC D ad cI cJ cF p l e ({ frames := 7, cells := 8, slots := 64, locals := 201 } : Room) s m args below meth c (MQ below (hQx D ad cI cJ cF (q_L_acts S ss)) args s 8 (8 * 8) (hAd ad)) 20 193 [(0, .ref (ad 11 0)), (1, .ref (ad 10 1)), (3, .ref (ad 10 3)), (5, .ref (ad 10 5)), (7, .ref (ad 10 7)), (14, .int (hI y14)), (15, .int (hI y15))] S1 0)) (fun y15 y18 y19 S1 => (hAtC D ad cI cJ cF p l e ({ frames := 7, cells := 8, slots := 64, locals := 201 } : Room) s m args below meth c (MQ below (hQx D ad cI cJ cF (q_L_acts S ss)) args s 8 (8 * 8) (hAd ad)) 20 282 [(0, .ref (ad 11 0)), (1, .ref (ad 10 1)), (3, .ref (ad 10 3)), (5, .ref (ad 10 5)), (7, .ref (ad 10 7)), (15, .int (hI y15)), (18, .int (hI y18)), (19, .int (hI y19))] S1 0)) (fun y15 y18 S1 => (hAtC D ad cI cJ cF p l e ({ frames := 7, cells := 8, slots := 64, locals := 201 } : Room) s m args below meth c (MQ below (hQx D ad cI cJ cF (q_L_acts S ss)) args s 8 (8 * 8) (hAd ad)) 20 450 [(0, .ref (ad 11 0)), (15, .int (hI y15)), (18, .int (hI y18))] S1 0)) (fun y13 y14 S1 => (hAtC D ad cI cJ cF p l e ({ frames := 7, cells := 8, slots := 64, locals := 201 } : Room) s m args below meth c (MQ below (hQx D ad cI cJ cF (q_L_acts S ss)) args s 8 (8 * 8) (hAd ad)) 20 467 [(0, .ref (ad 11 0)), (1, .ref (ad 10 1)), (2, .ref (ad 10 2)), (3, .ref (ad 10 3)), (4, .ref (ad 10 4)), (5, .ref (ad 10 5)), (6, .ref (ad 10 6)), (7, .ref (ad 10 7)), (8, .ref (ad 10 8)), (9, .ref (ad 10 9)), (10, .ref (ad 10 10)), (11, .ref (ad 10 11)), (13, .int (hI y13)), (14, .int (hI y14))] S1 0)) (fun y15 S1 => (hAtC D ad cI cJ cF p l e ({ frames := 7, cells := 8, slots := 64, locals := 201 } : Room) s m args below meth c (MQ below (hQx D ad cI cJ cF (q_L_acts S ss)) args s 8 (8 * 8) (hAd ad)) 20 509 [(0, .ref (ad 11 0)), (1, .ref (ad 10 1)), (2, .ref (ad 10 2)), (3, .ref (ad 10 3)), (4, .ref (ad 10 4)), (5, .ref (ad 10 5)), (6, .ref (ad 10 6)), (7, .ref (ad 10 7)), (8, .ref (ad 10 8)), (9, .ref (ad 10 9)), (10, .ref (ad 10 10)), (11, .ref (ad 10 11)), (15, .int (hI y15))] S1 0)) (fun y13 S1 => (hAtC D ad cI cJ cF p l e ({ frames := 7, cells := 8, slots := 64, locals := 201 } : Room) s m args below meth c (MQ below (hQx D ad cI cJ cF (q_L_acts S ss)) args s 8 (8 * 8) (hAd ad)) 20 552 [(0, .ref (ad 11 0)), (1, .ref (ad 10 1)), (13, .int (hI y13))] S1 0)) (fun y15 y16 S1 => (hAtC D ad cI cJ cF p l e ({ frames := 7, cells := 8, slots := 64, locals := 201 } : Room) s m args below meth c (MQ below (hQx D ad cI cJ cF (q_L_acts S ss)) args s 8 (8 * 8) (hAd ad)) 20 588 [(0, .ref (ad 11 0)), (1, .ref (ad 10 1)), (15, .int (hI y15)), (16, .int (hI y16))] S1 0)) (fun r S1 => ((r : Int) = 1 ∧ q_L_acts S ss S1)) r20 r37 r102 r147 r193 r282 r450 r467 r509 r552 r588 (fun S2 hq => ⟨rfl, hq⟩)
  refine lv_iload hx hb dL_acts_0 (lv_at hl 12 rfl) ?_
  refine iv_iconst hx hb dL_acts_2 ?_
  refine iv_ishr hx hb dL_acts_3 ?_
  refine iv_ldc (n := 10000000) hx hb (by decide) hown (hts _ q2_83) dL_acts_4 ?_
  obtain ⟨g134, h⟩ := h
  refine iv_ki (iv_rS (As := [.int (hI (iShr ss 5)), .int (hI 10000000)]) (rest := []) E hh (ok_L_low l hinj S (iShr ss 5) 10000000 (hIn_toInt _) ⟨by decide, by decide⟩ g134) cb_L_low q2_76 rfl rfl ⟨Nat.le_of_ble_eq_true rfl, Nat.le_of_ble_eq_true rfl⟩ rfl hl.1 rfl (Nat.le_of_ble_eq_true rfl) dL_acts_6 ⟨Nat.zero_le _, Nat.zero_le _⟩) hh (fun hc135 H locs hh => ?_)
  refine lv_istore (lv' := [(13, .int (hI (v_L_low (iShr ss 5) 10000000))), (0, .ref (ad 11 0)), (1, .ref (ad 10 1)), (2, .ref (ad 10 2)), (3, .ref (ad 10 3)), (4, .ref (ad 10 4)), (5, .ref (ad 10 5)), (6, .ref (ad 10 6)), (7, .ref (ad 10 7)), (8, .ref (ad 10 8)), (9, .ref (ad 10 9)), (10, .ref (ad 10 10)), (11, .ref (ad 10 11)), (12, .int (hI ss))]) hx hb dL_acts_9 hl (by decide) rfl (fun ls hl => ?_)
  refine lv_iload hx hb dL_acts_11 (lv_at hl 13 rfl) ?_
  refine lv_bipush (v := hI 32) hx hb dL_acts_13 (by decide) ?_
  obtain ⟨g136, h⟩ := h
  refine iv_ki (iv_rS (As := [.int (hI ss), .int (hI 32)]) (rest := []) E hh (ok_L_low l hinj S ss 32 h_ss ⟨by decide, by decide⟩ g136) cb_L_low q2_76 rfl rfl ⟨Nat.le_of_ble_eq_true rfl, Nat.le_of_ble_eq_true rfl⟩ rfl hl.1 rfl (Nat.le_of_ble_eq_true rfl) dL_acts_15 ⟨Nat.zero_le _, Nat.zero_le _⟩) hh (fun hc137 H locs hh => ?_)
  refine lv_istore (lv' := [(14, .int (hI (v_L_low ss 32))), (13, .int (hI (v_L_low (iShr ss 5) 10000000))), (0, .ref (ad 11 0)), (1, .ref (ad 10 1)), (2, .ref (ad 10 2)), (3, .ref (ad 10 3)), (4, .ref (ad 10 4)), (5, .ref (ad 10 5)), (6, .ref (ad 10 6)), (7, .ref (ad 10 7)), (8, .ref (ad 10 8)), (9, .ref (ad 10 9)), (10, .ref (ad 10 10)), (11, .ref (ad 10 11)), (12, .int (hI ss))]) hx hb dL_acts_18 hl (by decide) rfl (fun ls hl => ?_)
  exact h H _ ls hh (lv_sub hl [2, 3, 4, 5, 6, 7, 8, 9, 10, 11, 12, 13, 1, 0] rfl)
end

section
variable {D : va_G} {ad : Nat → Nat → Nat} {cI cJ cF : ClassId}
set_option maxHeartbeats 4000000 in
set_option maxRecDepth 100000 in
theorem ok_L_lay (l : Launch) (hinj : hInj ad) (S : hS) (hf : ad 99 1 = 1) (A : hGM) (P : hGM) (hP : S 10 = P) (glyph : Int) (size : Int) (h_glyph : hIn glyph) (h_size : hIn size) (hp : p_L_lay A P glyph size) : hMv D ad cI cJ cF l yL_lay cL_lay 18 ({ frames := 4, cells := 0, slots := 0, locals := 96 } : Room) [.ref (ad 10 1), .ref (ad 10 2), .ref (ad 10 3), .ref (ad 10 4), .ref (ad 10 5), .ref (ad 10 6), .ref (ad 10 7), .int (hI glyph), .int (hI size), .ref (ad 10 12)] S (gset S 10 (m_L_lay A P glyph size)) := by
  refine hOf (S := S) l hinj (by decide +kernel) (Nat.le_of_ble_eq_true rfl) (fun p e s m args below meth c E => ?_)
  obtain ⟨hx, hb, hml, hown, hts, hK, hN, -, hr, hlk, hz⟩ := id E
  have hown : s.vm.findClass RL = some m.cls := hown
  have r18 : ∀ (y10 : Int) (y11 : Int) (P1 : hGM), hIn y10 → hIn y11 → ((∀ (i : Nat) (k : Int), i < 100 → hIn (P1 i k)) → ((0 ≤ glyph ∧ glyph < 8) ∧ ((y11 < (P1 3 glyph) → (hIn ((6 * glyph) + y11) ∧ (p_L_wide A P1 ((6 * glyph) + y11) size ∧ ((y11 = 0 → (hAt D ad cI cJ cF p l e ({ frames := 4, cells := 0, slots := 0, locals := 96 } : Room) s m args below meth c (MQ below (hQv D ad cI cJ cF (gset S 10 (m_L_lay A P glyph size))) args s 0 0 (hAd ad)) 18 81 [(0, .ref (ad 10 1)), (1, .ref (ad 10 2)), (2, .ref (ad 10 3)), (3, .ref (ad 10 4)), (4, .ref (ad 10 5)), (5, .ref (ad 10 6)), (6, .ref (ad 10 7)), (7, .int (hI glyph)), (8, .int (hI size)), (9, .ref (ad 10 12)), (10, .int (hI y10)), (11, .int (hI y11)), (12, .int (hI ((6 * glyph) + y11))), (13, .int (hI (v_L_wide A P1 ((6 * glyph) + y11) size))), (14, .int (hI 0))] (gset S 10 P1))) ∧ (¬ y11 = 0 → ((0 ≤ ((6 * glyph) + y11) ∧ ((6 * glyph) + y11) < 49) ∧ ((0 ≤ (((6 * glyph) + y11) - 1) ∧ (((6 * glyph) + y11) - 1) < 49) ∧ (hAt D ad cI cJ cF p l e ({ frames := 4, cells := 0, slots := 0, locals := 96 } : Room) s m args below meth c (MQ below (hQv D ad cI cJ cF (gset S 10 (m_L_lay A P glyph size))) args s 0 0 (hAd ad)) 18 81 [(0, .ref (ad 10 1)), (1, .ref (ad 10 2)), (2, .ref (ad 10 3)), (3, .ref (ad 10 4)), (4, .ref (ad 10 5)), (5, .ref (ad 10 6)), (6, .ref (ad 10 7)), (7, .int (hI glyph)), (8, .int (hI size)), (9, .ref (ad 10 12)), (10, .int (hI y10)), (11, .int (hI y11)), (12, .int (hI ((6 * glyph) + y11))), (13, .int (hI (v_L_wide A P1 ((6 * glyph) + y11) size))), (14, .int (hI (((P1 4 ((6 * glyph) + y11)) - (P1 4 (((6 * glyph) + y11) - 1))) - (P1 5 (((6 * glyph) + y11) - 1)))))] (gset S 10 P1))))))))) ∧ (¬ y11 < (P1 3 glyph) → (P1 = m_L_lay A P glyph size))))) → (hAt D ad cI cJ cF p l e ({ frames := 4, cells := 0, slots := 0, locals := 96 } : Room) s m args below meth c (MQ below (hQv D ad cI cJ cF (gset S 10 (m_L_lay A P glyph size))) args s 0 0 (hAd ad)) 18 18 [(0, .ref (ad 10 1)), (1, .ref (ad 10 2)), (2, .ref (ad 10 3)), (3, .ref (ad 10 4)), (4, .ref (ad 10 5)), (5, .ref (ad 10 6)), (6, .ref (ad 10 7)), (7, .int (hI glyph)), (8, .int (hI size)), (9, .ref (ad 10 12)), (10, .int (hI y10)), (11, .int (hI y11))] (gset S 10 P1)) := by
    intro y10 y11 P1 h_y10 h_y11 h H locs ls hh hl
    have h := h (fun i k hi => hIn_rd hh.2.1 (gset_at _ _ _) hi)
    refine lv_iload hx hb dL_lay_18 (lv_at hl 11 rfl) ?_
    refine lv_aload_n hx hb dL_lay_20 rfl (lv_at hl 2 rfl) ?_
    refine lv_iload hx hb dL_lay_21 (lv_at hl 7 rfl) ?_
    obtain ⟨g1, h⟩ := h
    refine iv_iald hx hb hK hh.1 ia_10_3 g1 (v := (P1 3 glyph)) (congrArg (fun z => z 3 glyph) (gset_at _ _ _)) dL_lay_23 ?_
    have hm2 : hIn (P1 3 glyph) := hIn_rd hh.2.1 (gset_at _ _ _) (by decide)
    refine iv_icmp_ge (tgt := 331) hx hb h_y11 hm2 dL_lay_24 (by decide) (fun c3 => ?_) (fun c3 => ?_)
    · have h := h.2 c3
      exact iv_vret E hh (by rw [← h]) dL_lay_331
    · have h := h.1 c3
      refine lv_bipush (v := hI 6) hx hb dL_lay_27 (by decide) ?_
      refine lv_iload hx hb dL_lay_29 (lv_at hl 7 rfl) ?_
      refine iv_imul hx hb dL_lay_31 ?_
      refine lv_iload hx hb dL_lay_32 (lv_at hl 11 rfl) ?_
      refine iv_iadd hx hb dL_lay_34 ?_
      refine lv_istore (lv' := [(12, .int (hI ((6 * glyph) + y11))), (0, .ref (ad 10 1)), (1, .ref (ad 10 2)), (2, .ref (ad 10 3)), (3, .ref (ad 10 4)), (4, .ref (ad 10 5)), (5, .ref (ad 10 6)), (6, .ref (ad 10 7)), (7, .int (hI glyph)), (8, .int (hI size)), (9, .ref (ad 10 12)), (10, .int (hI y10)), (11, .int (hI y11))]) hx hb dL_lay_35 hl (by decide) rfl (fun ls hl => ?_)
      refine lv_aload_n hx hb dL_lay_37 rfl (lv_at hl 1 rfl) ?_
      refine lv_aload hx hb dL_lay_38 (lv_at hl 5 rfl) ?_
      refine lv_aload hx hb dL_lay_40 (lv_at hl 7 rfl) ?_
      refine lv_iload hx hb dL_lay_42 (lv_at hl 0 rfl) ?_
      refine lv_iload hx hb dL_lay_44 (lv_at hl 9 rfl) ?_
      obtain ⟨g4, h⟩ := h
      obtain ⟨g5, h⟩ := h
      refine iv_ki (iv_rS (As := [.ref (ad 10 1), .ref (ad 10 5), .ref (ad 10 7), .int (hI ((6 * glyph) + y11)), .int (hI size)]) (rest := []) E hh (ok_L_wide l hinj (gset S 10 P1) A P1 (gset_at _ _ _) ((6 * glyph) + y11) size g4 h_size g5) cb_L_wide q2_223 rfl rfl ⟨Nat.le_of_ble_eq_true rfl, Nat.le_of_ble_eq_true rfl⟩ rfl hl.1 rfl (Nat.le_of_ble_eq_true rfl) dL_lay_46 ⟨Nat.zero_le _, Nat.zero_le _⟩) hh (fun hc6 H locs hh => ?_)
      refine lv_istore (lv' := [(13, .int (hI (v_L_wide A P1 ((6 * glyph) + y11) size))), (12, .int (hI ((6 * glyph) + y11))), (0, .ref (ad 10 1)), (1, .ref (ad 10 2)), (2, .ref (ad 10 3)), (3, .ref (ad 10 4)), (4, .ref (ad 10 5)), (5, .ref (ad 10 6)), (6, .ref (ad 10 7)), (7, .int (hI glyph)), (8, .int (hI size)), (9, .ref (ad 10 12)), (10, .int (hI y10)), (11, .int (hI y11))]) hx hb dL_lay_49 hl (by decide) rfl (fun ls hl => ?_)
      refine lv_iload hx hb dL_lay_51 (lv_at hl 13 rfl) ?_
      refine iv_if_ne (tgt := 60) hx hb h_y11 dL_lay_53 (by decide) (fun c7 => ?_) (fun c7 => ?_)
      · have h := h.2 c7
        refine lv_aload_n hx hb dL_lay_60 rfl (lv_at hl 5 rfl) ?_
        refine lv_iload hx hb dL_lay_61 (lv_at hl 1 rfl) ?_
        obtain ⟨g8, h⟩ := h
        refine iv_iald hx hb hK hh.1 ia_10_4 g8 (v := (P1 4 ((6 * glyph) + y11))) (congrArg (fun z => z 4 ((6 * glyph) + y11)) (gset_at _ _ _)) dL_lay_63 ?_
        have hm9 : hIn (P1 4 ((6 * glyph) + y11)) := hIn_rd hh.2.1 (gset_at _ _ _) (by decide)
        refine lv_aload_n hx hb dL_lay_64 rfl (lv_at hl 5 rfl) ?_
        refine lv_iload hx hb dL_lay_65 (lv_at hl 1 rfl) ?_
        refine iv_iconst hx hb dL_lay_67 ?_
        refine iv_isub hx hb dL_lay_68 ?_
        obtain ⟨g10, h⟩ := h
        refine iv_iald hx hb hK hh.1 ia_10_4 g10 (v := (P1 4 (((6 * glyph) + y11) - 1))) (congrArg (fun z => z 4 (((6 * glyph) + y11) - 1)) (gset_at _ _ _)) dL_lay_69 ?_
        have hm11 : hIn (P1 4 (((6 * glyph) + y11) - 1)) := hIn_rd hh.2.1 (gset_at _ _ _) (by decide)
        refine iv_isub hx hb dL_lay_70 ?_
        refine lv_aload hx hb dL_lay_71 (lv_at hl 6 rfl) ?_
        refine lv_iload hx hb dL_lay_73 (lv_at hl 1 rfl) ?_
        refine iv_iconst hx hb dL_lay_75 ?_
        refine iv_isub hx hb dL_lay_76 ?_
        refine iv_iald hx hb hK hh.1 ia_10_5 g10 (v := (P1 5 (((6 * glyph) + y11) - 1))) (congrArg (fun z => z 5 (((6 * glyph) + y11) - 1)) (gset_at _ _ _)) dL_lay_77 ?_
        have hm12 : hIn (P1 5 (((6 * glyph) + y11) - 1)) := hIn_rd hh.2.1 (gset_at _ _ _) (by decide)
        refine iv_isub hx hb dL_lay_78 ?_
        refine lv_istore (lv' := [(14, .int (hI (((P1 4 ((6 * glyph) + y11)) - (P1 4 (((6 * glyph) + y11) - 1))) - (P1 5 (((6 * glyph) + y11) - 1))))), (13, .int (hI (v_L_wide A P1 ((6 * glyph) + y11) size))), (12, .int (hI ((6 * glyph) + y11))), (0, .ref (ad 10 1)), (1, .ref (ad 10 2)), (2, .ref (ad 10 3)), (3, .ref (ad 10 4)), (4, .ref (ad 10 5)), (5, .ref (ad 10 6)), (6, .ref (ad 10 7)), (7, .int (hI glyph)), (8, .int (hI size)), (9, .ref (ad 10 12)), (10, .int (hI y10)), (11, .int (hI y11))]) hx hb dL_lay_79 hl (by decide) rfl (fun ls hl => ?_)
        exact h H _ ls hh (lv_sub hl [3, 4, 5, 6, 7, 8, 9, 10, 11, 12, 13, 14, 2, 1, 0] rfl)
      · have h := h.1 c7
        refine iv_iconst hx hb dL_lay_56 ?_
        refine lv_goto (tgt := 79) hx hb dL_lay_57 (by decide) ?_
        refine lv_istore (lv' := [(14, .int (hI 0)), (13, .int (hI (v_L_wide A P1 ((6 * glyph) + y11) size))), (12, .int (hI ((6 * glyph) + y11))), (0, .ref (ad 10 1)), (1, .ref (ad 10 2)), (2, .ref (ad 10 3)), (3, .ref (ad 10 4)), (4, .ref (ad 10 5)), (5, .ref (ad 10 6)), (6, .ref (ad 10 7)), (7, .int (hI glyph)), (8, .int (hI size)), (9, .ref (ad 10 12)), (10, .int (hI y10)), (11, .int (hI y11))]) hx hb dL_lay_79 hl (by decide) rfl (fun ls hl => ?_)
        exact h H _ ls hh (lv_sub hl [3, 4, 5, 6, 7, 8, 9, 10, 11, 12, 13, 14, 2, 1, 0] rfl)
  have r81 : ∀ (y10 : Int) (y11 : Int) (y12 : Int) (y13 : Int) (y14 : Int) (P1 : hGM), hIn y10 → hIn y11 → hIn y12 → hIn y13 → hIn y14 → ((∀ (i : Nat) (k : Int), i < 100 → hIn (P1 i k)) → ((0 ≤ y12 ∧ y12 < 49) ∧ (p_L_inPixels (P1 4 y12) size ∧ (((P1 6 y12) = 1 → (hIn ((2 * (P1 4 y12)) + (P1 5 y12)) ∧ (p_L_inPixels ((2 * (P1 4 y12)) + (P1 5 y12)) size ∧ (hAt D ad cI cJ cF p l e ({ frames := 4, cells := 0, slots := 0, locals := 96 } : Room) s m args below meth c (MQ below (hQv D ad cI cJ cF (gset S 10 (m_L_lay A P glyph size))) args s 0 0 (hAd ad)) 18 208 [(0, .ref (ad 10 1)), (1, .ref (ad 10 2)), (2, .ref (ad 10 3)), (3, .ref (ad 10 4)), (4, .ref (ad 10 5)), (5, .ref (ad 10 6)), (6, .ref (ad 10 7)), (7, .int (hI glyph)), (8, .int (hI size)), (9, .ref (ad 10 12)), (10, .int (hI y10)), (11, .int (hI y11)), (13, .int (hI y13)), (14, .int (hI y14)), (15, .int (hI (iShr ((v_L_inPixels ((2 * (P1 4 y12)) + (P1 5 y12)) size) - y13) 1)))] (gset S 10 P1))))) ∧ (¬ (P1 6 y12) = 1 → (((P1 6 y12) = 2 → (hIn ((P1 4 y12) + (P1 5 y12)) ∧ (p_L_inPixels ((P1 4 y12) + (P1 5 y12)) size ∧ (hAt D ad cI cJ cF p l e ({ frames := 4, cells := 0, slots := 0, locals := 96 } : Room) s m args below meth c (MQ below (hQv D ad cI cJ cF (gset S 10 (m_L_lay A P glyph size))) args s 0 0 (hAd ad)) 18 208 [(0, .ref (ad 10 1)), (1, .ref (ad 10 2)), (2, .ref (ad 10 3)), (3, .ref (ad 10 4)), (4, .ref (ad 10 5)), (5, .ref (ad 10 6)), (6, .ref (ad 10 7)), (7, .int (hI glyph)), (8, .int (hI size)), (9, .ref (ad 10 12)), (10, .int (hI y10)), (11, .int (hI y11)), (13, .int (hI y13)), (14, .int (hI y14)), (15, .int (hI ((v_L_inPixels ((P1 4 y12) + (P1 5 y12)) size) - y13)))] (gset S 10 P1))))) ∧ (¬ (P1 6 y12) = 2 → (((P1 6 y12) = 3 → ((y11 ≤ 0 → (hAt D ad cI cJ cF p l e ({ frames := 4, cells := 0, slots := 0, locals := 96 } : Room) s m args below meth c (MQ below (hQv D ad cI cJ cF (gset S 10 (m_L_lay A P glyph size))) args s 0 0 (hAd ad)) 18 208 [(0, .ref (ad 10 1)), (1, .ref (ad 10 2)), (2, .ref (ad 10 3)), (3, .ref (ad 10 4)), (4, .ref (ad 10 5)), (5, .ref (ad 10 6)), (6, .ref (ad 10 7)), (7, .int (hI glyph)), (8, .int (hI size)), (9, .ref (ad 10 12)), (10, .int (hI y10)), (11, .int (hI y11)), (13, .int (hI y13)), (14, .int (hI y14)), (15, .int (hI (v_L_inPixels (P1 4 y12) size)))] (gset S 10 P1))) ∧ (¬ y11 ≤ 0 → (p_L_inPixels y14 size ∧ (((v_L_inPixels y14 size) ≤ (P1 1 2) → (hAt D ad cI cJ cF p l e ({ frames := 4, cells := 0, slots := 0, locals := 96 } : Room) s m args below meth c (MQ below (hQv D ad cI cJ cF (gset S 10 (m_L_lay A P glyph size))) args s 0 0 (hAd ad)) 18 208 [(0, .ref (ad 10 1)), (1, .ref (ad 10 2)), (2, .ref (ad 10 3)), (3, .ref (ad 10 4)), (4, .ref (ad 10 5)), (5, .ref (ad 10 6)), (6, .ref (ad 10 7)), (7, .int (hI glyph)), (8, .int (hI size)), (9, .ref (ad 10 12)), (10, .int (hI y10)), (11, .int (hI y11)), (13, .int (hI y13)), (14, .int (hI y14)), (15, .int (hI (y10 + (P1 1 2))))] (gset S 10 P1))) ∧ (¬ (v_L_inPixels y14 size) ≤ (P1 1 2) → (hAt D ad cI cJ cF p l e ({ frames := 4, cells := 0, slots := 0, locals := 96 } : Room) s m args below meth c (MQ below (hQv D ad cI cJ cF (gset S 10 (m_L_lay A P glyph size))) args s 0 0 (hAd ad)) 18 208 [(0, .ref (ad 10 1)), (1, .ref (ad 10 2)), (2, .ref (ad 10 3)), (3, .ref (ad 10 4)), (4, .ref (ad 10 5)), (5, .ref (ad 10 6)), (6, .ref (ad 10 7)), (7, .int (hI glyph)), (8, .int (hI size)), (9, .ref (ad 10 12)), (10, .int (hI y10)), (11, .int (hI y11)), (13, .int (hI y13)), (14, .int (hI y14)), (15, .int (hI (y10 + (v_L_inPixels y14 size))))] (gset S 10 P1)))))))) ∧ (¬ (P1 6 y12) = 3 → (hAt D ad cI cJ cF p l e ({ frames := 4, cells := 0, slots := 0, locals := 96 } : Room) s m args below meth c (MQ below (hQv D ad cI cJ cF (gset S 10 (m_L_lay A P glyph size))) args s 0 0 (hAd ad)) 18 208 [(0, .ref (ad 10 1)), (1, .ref (ad 10 2)), (2, .ref (ad 10 3)), (3, .ref (ad 10 4)), (4, .ref (ad 10 5)), (5, .ref (ad 10 6)), (6, .ref (ad 10 7)), (7, .int (hI glyph)), (8, .int (hI size)), (9, .ref (ad 10 12)), (10, .int (hI y10)), (11, .int (hI y11)), (13, .int (hI y13)), (14, .int (hI y14)), (15, .int (hI (v_L_inPixels (P1 4 y12) size)))] (gset S 10 P1))))))))))) → (hAt D ad cI cJ cF p l e ({ frames := 4, cells := 0, slots := 0, locals := 96 } : Room) s m args below meth c (MQ below (hQv D ad cI cJ cF (gset S 10 (m_L_lay A P glyph size))) args s 0 0 (hAd ad)) 18 81 [(0, .ref (ad 10 1)), (1, .ref (ad 10 2)), (2, .ref (ad 10 3)), (3, .ref (ad 10 4)), (4, .ref (ad 10 5)), (5, .ref (ad 10 6)), (6, .ref (ad 10 7)), (7, .int (hI glyph)), (8, .int (hI size)), (9, .ref (ad 10 12)), (10, .int (hI y10)), (11, .int (hI y11)), (12, .int (hI y12)), (13, .int (hI y13)), (14, .int (hI y14))] (gset S 10 P1)) := by
    intro y10 y11 y12 y13 y14 P1 h_y10 h_y11 h_y12 h_y13 h_y14 h H locs ls hh hl
    have h := h (fun i k hi => hIn_rd hh.2.1 (gset_at _ _ _) hi)
    refine lv_aload_n hx hb dL_lay_81 rfl (lv_at hl 3 rfl) ?_
    refine lv_iload hx hb dL_lay_82 (lv_at hl 12 rfl) ?_
    obtain ⟨g13, h⟩ := h
    refine iv_iald hx hb hK hh.1 ia_10_4 g13 (v := (P1 4 y12)) (congrArg (fun z => z 4 y12) (gset_at _ _ _)) dL_lay_84 ?_
    have hm14 : hIn (P1 4 y12) := hIn_rd hh.2.1 (gset_at _ _ _) (by decide)
    refine lv_iload hx hb dL_lay_85 (lv_at hl 8 rfl) ?_
    obtain ⟨g15, h⟩ := h
    refine iv_ki (iv_rS (As := [.int (hI (P1 4 y12)), .int (hI size)]) (rest := []) E hh (ok_L_inPixels l hinj (gset S 10 P1) (P1 4 y12) size hm14 h_size g15) cb_L_inPixels q2_214 rfl rfl ⟨Nat.le_of_ble_eq_true rfl, Nat.le_of_ble_eq_true rfl⟩ rfl hl.1 rfl (Nat.le_of_ble_eq_true rfl) dL_lay_87 ⟨Nat.zero_le _, Nat.zero_le _⟩) hh (fun hc16 H locs hh => ?_)
    refine lv_istore (lv' := [(15, .int (hI (v_L_inPixels (P1 4 y12) size))), (0, .ref (ad 10 1)), (1, .ref (ad 10 2)), (2, .ref (ad 10 3)), (3, .ref (ad 10 4)), (4, .ref (ad 10 5)), (5, .ref (ad 10 6)), (6, .ref (ad 10 7)), (7, .int (hI glyph)), (8, .int (hI size)), (9, .ref (ad 10 12)), (10, .int (hI y10)), (11, .int (hI y11)), (12, .int (hI y12)), (13, .int (hI y13)), (14, .int (hI y14))]) hx hb dL_lay_90 hl (by decide) rfl (fun ls hl => ?_)
    refine lv_aload hx hb dL_lay_92 (lv_at hl 6 rfl) ?_
    refine lv_iload hx hb dL_lay_94 (lv_at hl 13 rfl) ?_
    refine iv_iald hx hb hK hh.1 ia_10_6 g13 (v := (P1 6 y12)) (congrArg (fun z => z 6 y12) (gset_at _ _ _)) dL_lay_96 ?_
    have hm17 : hIn (P1 6 y12) := hIn_rd hh.2.1 (gset_at _ _ _) (by decide)
    refine iv_iconst hx hb dL_lay_97 ?_
    refine iv_icmp_ne (tgt := 132) hx hb hm17 ⟨by decide, by decide⟩ dL_lay_98 (by decide) (fun c18 => ?_) (fun c18 => ?_)
    · have h := h.2 c18
      refine lv_aload hx hb dL_lay_132 (lv_at hl 6 rfl) ?_
      refine lv_iload hx hb dL_lay_134 (lv_at hl 13 rfl) ?_
      refine iv_iald hx hb hK hh.1 ia_10_6 g13 (v := (P1 6 y12)) (congrArg (fun z => z 6 y12) (gset_at _ _ _)) dL_lay_136 ?_
      have hm19 : hIn (P1 6 y12) := hIn_rd hh.2.1 (gset_at _ _ _) (by decide)
      refine iv_iconst hx hb dL_lay_137 ?_
      refine iv_icmp_ne (tgt := 164) hx hb hm19 ⟨by decide, by decide⟩ dL_lay_138 (by decide) (fun c20 => ?_) (fun c20 => ?_)
      · have h := h.2 c20
        refine lv_aload hx hb dL_lay_164 (lv_at hl 6 rfl) ?_
        refine lv_iload hx hb dL_lay_166 (lv_at hl 13 rfl) ?_
        refine iv_iald hx hb hK hh.1 ia_10_6 g13 (v := (P1 6 y12)) (congrArg (fun z => z 6 y12) (gset_at _ _ _)) dL_lay_168 ?_
        have hm21 : hIn (P1 6 y12) := hIn_rd hh.2.1 (gset_at _ _ _) (by decide)
        refine iv_iconst hx hb dL_lay_169 ?_
        refine iv_icmp_ne (tgt := 208) hx hb hm21 ⟨by decide, by decide⟩ dL_lay_170 (by decide) (fun c22 => ?_) (fun c22 => ?_)
        · have h := h.2 c22
          exact h H _ ls hh (lv_sub hl [1, 2, 3, 4, 5, 6, 7, 8, 9, 10, 11, 12, 14, 15, 0] rfl)
        · have h := h.1 c22
          refine lv_iload hx hb dL_lay_173 (lv_at hl 12 rfl) ?_
          refine iv_if_le (tgt := 208) hx hb h_y11 dL_lay_175 (by decide) (fun c23 => ?_) (fun c23 => ?_)
          · have h := h.1 c23
            exact h H _ ls hh (lv_sub hl [1, 2, 3, 4, 5, 6, 7, 8, 9, 10, 11, 12, 14, 15, 0] rfl)
          · have h := h.2 c23
            refine lv_iload hx hb dL_lay_178 (lv_at hl 15 rfl) ?_
            refine lv_iload hx hb dL_lay_180 (lv_at hl 9 rfl) ?_
            obtain ⟨g24, h⟩ := h
            refine iv_ki (iv_rS (As := [.int (hI y14), .int (hI size)]) (rest := []) E hh (ok_L_inPixels l hinj (gset S 10 P1) y14 size h_y14 h_size g24) cb_L_inPixels q2_214 rfl rfl ⟨Nat.le_of_ble_eq_true rfl, Nat.le_of_ble_eq_true rfl⟩ rfl hl.1 rfl (Nat.le_of_ble_eq_true rfl) dL_lay_182 ⟨Nat.zero_le _, Nat.zero_le _⟩) hh (fun hc25 H locs hh => ?_)
            refine lv_istore (lv' := [(16, .int (hI (v_L_inPixels y14 size))), (15, .int (hI (v_L_inPixels (P1 4 y12) size))), (0, .ref (ad 10 1)), (1, .ref (ad 10 2)), (2, .ref (ad 10 3)), (3, .ref (ad 10 4)), (4, .ref (ad 10 5)), (5, .ref (ad 10 6)), (6, .ref (ad 10 7)), (7, .int (hI glyph)), (8, .int (hI size)), (9, .ref (ad 10 12)), (10, .int (hI y10)), (11, .int (hI y11)), (12, .int (hI y12)), (13, .int (hI y13)), (14, .int (hI y14))]) hx hb dL_lay_185 hl (by decide) rfl (fun ls hl => ?_)
            refine lv_iload hx hb dL_lay_187 (lv_at hl 12 rfl) ?_
            refine lv_iload hx hb dL_lay_189 (lv_at hl 0 rfl) ?_
            refine lv_aload_n hx hb dL_lay_191 rfl (lv_at hl 2 rfl) ?_
            refine iv_iconst hx hb dL_lay_192 ?_
            refine iv_iald hx hb hK hh.1 ia_10_1 ⟨by decide, by decide⟩ (v := (P1 1 2)) (congrArg (fun z => z 1 2) (gset_at _ _ _)) dL_lay_193 ?_
            have hm26 : hIn (P1 1 2) := hIn_rd hh.2.1 (gset_at _ _ _) (by decide)
            refine iv_icmp_le (tgt := 202) hx hb hc25 hm26 dL_lay_194 (by decide) (fun c27 => ?_) (fun c27 => ?_)
            · have h := h.1 c27
              refine lv_aload_n hx hb dL_lay_202 rfl (lv_at hl 2 rfl) ?_
              refine iv_iconst hx hb dL_lay_203 ?_
              refine iv_iald hx hb hK hh.1 ia_10_1 ⟨by decide, by decide⟩ (v := (P1 1 2)) (congrArg (fun z => z 1 2) (gset_at _ _ _)) dL_lay_204 ?_
              have hm28 : hIn (P1 1 2) := hIn_rd hh.2.1 (gset_at _ _ _) (by decide)
              refine iv_iadd hx hb dL_lay_205 ?_
              refine lv_istore (lv' := [(15, .int (hI (y10 + (P1 1 2)))), (16, .int (hI (v_L_inPixels y14 size))), (0, .ref (ad 10 1)), (1, .ref (ad 10 2)), (2, .ref (ad 10 3)), (3, .ref (ad 10 4)), (4, .ref (ad 10 5)), (5, .ref (ad 10 6)), (6, .ref (ad 10 7)), (7, .int (hI glyph)), (8, .int (hI size)), (9, .ref (ad 10 12)), (10, .int (hI y10)), (11, .int (hI y11)), (12, .int (hI y12)), (13, .int (hI y13)), (14, .int (hI y14))]) hx hb dL_lay_206 hl (by decide) rfl (fun ls hl => ?_)
              exact h H _ ls hh (lv_sub hl [2, 3, 4, 5, 6, 7, 8, 9, 10, 11, 12, 13, 15, 16, 0] rfl)
            · have h := h.2 c27
              refine lv_iload hx hb dL_lay_197 (lv_at hl 0 rfl) ?_
              refine lv_goto (tgt := 205) hx hb dL_lay_199 (by decide) ?_
              refine iv_iadd hx hb dL_lay_205 ?_
              refine lv_istore (lv' := [(15, .int (hI (y10 + (v_L_inPixels y14 size)))), (16, .int (hI (v_L_inPixels y14 size))), (0, .ref (ad 10 1)), (1, .ref (ad 10 2)), (2, .ref (ad 10 3)), (3, .ref (ad 10 4)), (4, .ref (ad 10 5)), (5, .ref (ad 10 6)), (6, .ref (ad 10 7)), (7, .int (hI glyph)), (8, .int (hI size)), (9, .ref (ad 10 12)), (10, .int (hI y10)), (11, .int (hI y11)), (12, .int (hI y12)), (13, .int (hI y13)), (14, .int (hI y14))]) hx hb dL_lay_206 hl (by decide) rfl (fun ls hl => ?_)
              exact h H _ ls hh (lv_sub hl [2, 3, 4, 5, 6, 7, 8, 9, 10, 11, 12, 13, 15, 16, 0] rfl)
      · have h := h.1 c20
        refine lv_aload_n hx hb dL_lay_141 rfl (lv_at hl 4 rfl) ?_
        refine lv_iload hx hb dL_lay_142 (lv_at hl 13 rfl) ?_
        refine iv_iald hx hb hK hh.1 ia_10_4 g13 (v := (P1 4 y12)) (congrArg (fun z => z 4 y12) (gset_at _ _ _)) dL_lay_144 ?_
        have hm29 : hIn (P1 4 y12) := hIn_rd hh.2.1 (gset_at _ _ _) (by decide)
        refine lv_aload hx hb dL_lay_145 (lv_at hl 5 rfl) ?_
        refine lv_iload hx hb dL_lay_147 (lv_at hl 13 rfl) ?_
        refine iv_iald hx hb hK hh.1 ia_10_5 g13 (v := (P1 5 y12)) (congrArg (fun z => z 5 y12) (gset_at _ _ _)) dL_lay_149 ?_
        have hm30 : hIn (P1 5 y12) := hIn_rd hh.2.1 (gset_at _ _ _) (by decide)
        refine iv_iadd hx hb dL_lay_150 ?_
        refine lv_iload hx hb dL_lay_151 (lv_at hl 9 rfl) ?_
        obtain ⟨g31, h⟩ := h
        obtain ⟨g32, h⟩ := h
        refine iv_ki (iv_rS (As := [.int (hI ((P1 4 y12) + (P1 5 y12))), .int (hI size)]) (rest := []) E hh (ok_L_inPixels l hinj (gset S 10 P1) ((P1 4 y12) + (P1 5 y12)) size g31 h_size g32) cb_L_inPixels q2_214 rfl rfl ⟨Nat.le_of_ble_eq_true rfl, Nat.le_of_ble_eq_true rfl⟩ rfl hl.1 rfl (Nat.le_of_ble_eq_true rfl) dL_lay_153 ⟨Nat.zero_le _, Nat.zero_le _⟩) hh (fun hc33 H locs hh => ?_)
        refine lv_iload hx hb dL_lay_156 (lv_at hl 14 rfl) ?_
        refine iv_isub hx hb dL_lay_158 ?_
        refine lv_istore (lv' := [(15, .int (hI ((v_L_inPixels ((P1 4 y12) + (P1 5 y12)) size) - y13))), (0, .ref (ad 10 1)), (1, .ref (ad 10 2)), (2, .ref (ad 10 3)), (3, .ref (ad 10 4)), (4, .ref (ad 10 5)), (5, .ref (ad 10 6)), (6, .ref (ad 10 7)), (7, .int (hI glyph)), (8, .int (hI size)), (9, .ref (ad 10 12)), (10, .int (hI y10)), (11, .int (hI y11)), (12, .int (hI y12)), (13, .int (hI y13)), (14, .int (hI y14))]) hx hb dL_lay_159 hl (by decide) rfl (fun ls hl => ?_)
        refine lv_goto (tgt := 208) hx hb dL_lay_161 (by decide) ?_
        exact h H _ ls hh (lv_sub hl [1, 2, 3, 4, 5, 6, 7, 8, 9, 10, 11, 12, 14, 15, 0] rfl)
    · have h := h.1 c18
      refine iv_iconst hx hb dL_lay_101 ?_
      refine lv_aload_n hx hb dL_lay_102 rfl (lv_at hl 4 rfl) ?_
      refine lv_iload hx hb dL_lay_103 (lv_at hl 13 rfl) ?_
      refine iv_iald hx hb hK hh.1 ia_10_4 g13 (v := (P1 4 y12)) (congrArg (fun z => z 4 y12) (gset_at _ _ _)) dL_lay_105 ?_
      have hm34 : hIn (P1 4 y12) := hIn_rd hh.2.1 (gset_at _ _ _) (by decide)
      refine iv_imul hx hb dL_lay_106 ?_
      refine lv_aload hx hb dL_lay_107 (lv_at hl 5 rfl) ?_
      refine lv_iload hx hb dL_lay_109 (lv_at hl 13 rfl) ?_
      refine iv_iald hx hb hK hh.1 ia_10_5 g13 (v := (P1 5 y12)) (congrArg (fun z => z 5 y12) (gset_at _ _ _)) dL_lay_111 ?_
      have hm35 : hIn (P1 5 y12) := hIn_rd hh.2.1 (gset_at _ _ _) (by decide)
      refine iv_iadd hx hb dL_lay_112 ?_
      refine lv_iload hx hb dL_lay_113 (lv_at hl 9 rfl) ?_
      obtain ⟨g36, h⟩ := h
      obtain ⟨g37, h⟩ := h
      refine iv_ki (iv_rS (As := [.int (hI ((2 * (P1 4 y12)) + (P1 5 y12))), .int (hI size)]) (rest := []) E hh (ok_L_inPixels l hinj (gset S 10 P1) ((2 * (P1 4 y12)) + (P1 5 y12)) size g36 h_size g37) cb_L_inPixels q2_214 rfl rfl ⟨Nat.le_of_ble_eq_true rfl, Nat.le_of_ble_eq_true rfl⟩ rfl hl.1 rfl (Nat.le_of_ble_eq_true rfl) dL_lay_115 ⟨Nat.zero_le _, Nat.zero_le _⟩) hh (fun hc38 H locs hh => ?_)
      refine lv_iload hx hb dL_lay_118 (lv_at hl 14 rfl) ?_
      refine iv_isub hx hb dL_lay_120 ?_
      refine lv_istore (lv' := [(16, .int (hI ((v_L_inPixels ((2 * (P1 4 y12)) + (P1 5 y12)) size) - y13))), (15, .int (hI (v_L_inPixels (P1 4 y12) size))), (0, .ref (ad 10 1)), (1, .ref (ad 10 2)), (2, .ref (ad 10 3)), (3, .ref (ad 10 4)), (4, .ref (ad 10 5)), (5, .ref (ad 10 6)), (6, .ref (ad 10 7)), (7, .int (hI glyph)), (8, .int (hI size)), (9, .ref (ad 10 12)), (10, .int (hI y10)), (11, .int (hI y11)), (12, .int (hI y12)), (13, .int (hI y13)), (14, .int (hI y14))]) hx hb dL_lay_121 hl (by decide) rfl (fun ls hl => ?_)
      refine lv_iload hx hb dL_lay_123 (lv_at hl 0 rfl) ?_
      refine iv_iconst hx hb dL_lay_125 ?_
      refine iv_ishr hx hb dL_lay_126 ?_
      refine lv_istore (lv' := [(15, .int (hI (iShr ((v_L_inPixels ((2 * (P1 4 y12)) + (P1 5 y12)) size) - y13) 1))), (16, .int (hI ((v_L_inPixels ((2 * (P1 4 y12)) + (P1 5 y12)) size) - y13))), (0, .ref (ad 10 1)), (1, .ref (ad 10 2)), (2, .ref (ad 10 3)), (3, .ref (ad 10 4)), (4, .ref (ad 10 5)), (5, .ref (ad 10 6)), (6, .ref (ad 10 7)), (7, .int (hI glyph)), (8, .int (hI size)), (9, .ref (ad 10 12)), (10, .int (hI y10)), (11, .int (hI y11)), (12, .int (hI y12)), (13, .int (hI y13)), (14, .int (hI y14))]) hx hb dL_lay_127 hl (by decide) rfl (fun ls hl => ?_)
      refine lv_goto (tgt := 208) hx hb dL_lay_129 (by decide) ?_
      exact h H _ ls hh (lv_sub hl [2, 3, 4, 5, 6, 7, 8, 9, 10, 11, 12, 13, 15, 16, 0] rfl)
  have r208 : ∀ (y10 : Int) (y11 : Int) (y13 : Int) (y14 : Int) (y15 : Int) (P1 : hGM), hIn y10 → hIn y11 → hIn y13 → hIn y14 → hIn y15 → ((∀ (i : Nat) (k : Int), i < 100 → hIn (P1 i k)) → ((y14 ≤ 0 → (hAt D ad cI cJ cF p l e ({ frames := 4, cells := 0, slots := 0, locals := 96 } : Room) s m args below meth c (MQ below (hQv D ad cI cJ cF (gset S 10 (m_L_lay A P glyph size))) args s 0 0 (hAd ad)) 18 223 [(0, .ref (ad 10 1)), (1, .ref (ad 10 2)), (2, .ref (ad 10 3)), (3, .ref (ad 10 4)), (4, .ref (ad 10 5)), (5, .ref (ad 10 6)), (6, .ref (ad 10 7)), (7, .int (hI glyph)), (8, .int (hI size)), (9, .ref (ad 10 12)), (11, .int (hI y11)), (13, .int (hI y13)), (15, .int (hI y15)), (16, .int (hI (y10 + 0)))] (gset S 10 P1))) ∧ (¬ y14 ≤ 0 → (hAt D ad cI cJ cF p l e ({ frames := 4, cells := 0, slots := 0, locals := 96 } : Room) s m args below meth c (MQ below (hQv D ad cI cJ cF (gset S 10 (m_L_lay A P glyph size))) args s 0 0 (hAd ad)) 18 223 [(0, .ref (ad 10 1)), (1, .ref (ad 10 2)), (2, .ref (ad 10 3)), (3, .ref (ad 10 4)), (4, .ref (ad 10 5)), (5, .ref (ad 10 6)), (6, .ref (ad 10 7)), (7, .int (hI glyph)), (8, .int (hI size)), (9, .ref (ad 10 12)), (11, .int (hI y11)), (13, .int (hI y13)), (15, .int (hI y15)), (16, .int (hI (y10 + 1)))] (gset S 10 P1))))) → (hAt D ad cI cJ cF p l e ({ frames := 4, cells := 0, slots := 0, locals := 96 } : Room) s m args below meth c (MQ below (hQv D ad cI cJ cF (gset S 10 (m_L_lay A P glyph size))) args s 0 0 (hAd ad)) 18 208 [(0, .ref (ad 10 1)), (1, .ref (ad 10 2)), (2, .ref (ad 10 3)), (3, .ref (ad 10 4)), (4, .ref (ad 10 5)), (5, .ref (ad 10 6)), (6, .ref (ad 10 7)), (7, .int (hI glyph)), (8, .int (hI size)), (9, .ref (ad 10 12)), (10, .int (hI y10)), (11, .int (hI y11)), (13, .int (hI y13)), (14, .int (hI y14)), (15, .int (hI y15))] (gset S 10 P1)) := by
    intro y10 y11 y13 y14 y15 P1 h_y10 h_y11 h_y13 h_y14 h_y15 h H locs ls hh hl
    have h := h (fun i k hi => hIn_rd hh.2.1 (gset_at _ _ _) hi)
    refine lv_iload hx hb dL_lay_208 (lv_at hl 10 rfl) ?_
    refine lv_iload hx hb dL_lay_210 (lv_at hl 13 rfl) ?_
    refine iv_if_le (tgt := 219) hx hb h_y14 dL_lay_212 (by decide) (fun c39 => ?_) (fun c39 => ?_)
    · have h := h.1 c39
      refine iv_iconst hx hb dL_lay_219 ?_
      refine iv_iadd hx hb dL_lay_220 ?_
      refine lv_istore (lv' := [(16, .int (hI (y10 + 0))), (0, .ref (ad 10 1)), (1, .ref (ad 10 2)), (2, .ref (ad 10 3)), (3, .ref (ad 10 4)), (4, .ref (ad 10 5)), (5, .ref (ad 10 6)), (6, .ref (ad 10 7)), (7, .int (hI glyph)), (8, .int (hI size)), (9, .ref (ad 10 12)), (10, .int (hI y10)), (11, .int (hI y11)), (13, .int (hI y13)), (14, .int (hI y14)), (15, .int (hI y15))]) hx hb dL_lay_221 hl (by decide) rfl (fun ls hl => ?_)
      exact h H _ ls hh (lv_sub hl [1, 2, 3, 4, 5, 6, 7, 8, 9, 10, 12, 13, 15, 0] rfl)
    · have h := h.2 c39
      refine iv_iconst hx hb dL_lay_215 ?_
      refine lv_goto (tgt := 220) hx hb dL_lay_216 (by decide) ?_
      refine iv_iadd hx hb dL_lay_220 ?_
      refine lv_istore (lv' := [(16, .int (hI (y10 + 1))), (0, .ref (ad 10 1)), (1, .ref (ad 10 2)), (2, .ref (ad 10 3)), (3, .ref (ad 10 4)), (4, .ref (ad 10 5)), (5, .ref (ad 10 6)), (6, .ref (ad 10 7)), (7, .int (hI glyph)), (8, .int (hI size)), (9, .ref (ad 10 12)), (10, .int (hI y10)), (11, .int (hI y11)), (13, .int (hI y13)), (14, .int (hI y14)), (15, .int (hI y15))]) hx hb dL_lay_221 hl (by decide) rfl (fun ls hl => ?_)
      exact h H _ ls hh (lv_sub hl [1, 2, 3, 4, 5, 6, 7, 8, 9, 10, 12, 13, 15, 0] rfl)
  have r223 : ∀ (y11 : Int) (y13 : Int) (y15 : Int) (y16 : Int) (P1 : hGM), hIn y11 → hIn y13 → hIn y15 → hIn y16 → ((∀ (i : Nat) (k : Int), i < 100 → hIn (P1 i k)) → ((y11 ≤ 0 → (hAt D ad cI cJ cF p l e ({ frames := 4, cells := 0, slots := 0, locals := 96 } : Room) s m args below meth c (MQ below (hQv D ad cI cJ cF (gset S 10 (m_L_lay A P glyph size))) args s 0 0 (hAd ad)) 18 242 [(0, .ref (ad 10 1)), (1, .ref (ad 10 2)), (2, .ref (ad 10 3)), (3, .ref (ad 10 4)), (4, .ref (ad 10 5)), (5, .ref (ad 10 6)), (6, .ref (ad 10 7)), (7, .int (hI glyph)), (8, .int (hI size)), (9, .ref (ad 10 12)), (11, .int (hI y11)), (13, .int (hI y13)), (15, .int (hI y15)), (16, .int (hI y16)), (17, .int (hI 0))] (gset S 10 P1))) ∧ (¬ y11 ≤ 0 → ((y15 < y16 → (hAt D ad cI cJ cF p l e ({ frames := 4, cells := 0, slots := 0, locals := 96 } : Room) s m args below meth c (MQ below (hQv D ad cI cJ cF (gset S 10 (m_L_lay A P glyph size))) args s 0 0 (hAd ad)) 18 242 [(0, .ref (ad 10 1)), (1, .ref (ad 10 2)), (2, .ref (ad 10 3)), (3, .ref (ad 10 4)), (4, .ref (ad 10 5)), (5, .ref (ad 10 6)), (6, .ref (ad 10 7)), (7, .int (hI glyph)), (8, .int (hI size)), (9, .ref (ad 10 12)), (11, .int (hI y11)), (13, .int (hI y13)), (15, .int (hI y15)), (16, .int (hI y16)), (17, .int (hI 1))] (gset S 10 P1))) ∧ (¬ y15 < y16 → (hAt D ad cI cJ cF p l e ({ frames := 4, cells := 0, slots := 0, locals := 96 } : Room) s m args below meth c (MQ below (hQv D ad cI cJ cF (gset S 10 (m_L_lay A P glyph size))) args s 0 0 (hAd ad)) 18 242 [(0, .ref (ad 10 1)), (1, .ref (ad 10 2)), (2, .ref (ad 10 3)), (3, .ref (ad 10 4)), (4, .ref (ad 10 5)), (5, .ref (ad 10 6)), (6, .ref (ad 10 7)), (7, .int (hI glyph)), (8, .int (hI size)), (9, .ref (ad 10 12)), (11, .int (hI y11)), (13, .int (hI y13)), (15, .int (hI y15)), (16, .int (hI y16)), (17, .int (hI 0))] (gset S 10 P1))))))) → (hAt D ad cI cJ cF p l e ({ frames := 4, cells := 0, slots := 0, locals := 96 } : Room) s m args below meth c (MQ below (hQv D ad cI cJ cF (gset S 10 (m_L_lay A P glyph size))) args s 0 0 (hAd ad)) 18 223 [(0, .ref (ad 10 1)), (1, .ref (ad 10 2)), (2, .ref (ad 10 3)), (3, .ref (ad 10 4)), (4, .ref (ad 10 5)), (5, .ref (ad 10 6)), (6, .ref (ad 10 7)), (7, .int (hI glyph)), (8, .int (hI size)), (9, .ref (ad 10 12)), (11, .int (hI y11)), (13, .int (hI y13)), (15, .int (hI y15)), (16, .int (hI y16))] (gset S 10 P1)) := by
    intro y11 y13 y15 y16 P1 h_y11 h_y13 h_y15 h_y16 h H locs ls hh hl
    have h := h (fun i k hi => hIn_rd hh.2.1 (gset_at _ _ _) hi)
    refine lv_iload hx hb dL_lay_223 (lv_at hl 10 rfl) ?_
    refine iv_if_le (tgt := 239) hx hb h_y11 dL_lay_225 (by decide) (fun c40 => ?_) (fun c40 => ?_)
    · have h := h.1 c40
      refine iv_iconst hx hb dL_lay_239 ?_
      refine lv_istore (lv' := [(17, .int (hI 0)), (0, .ref (ad 10 1)), (1, .ref (ad 10 2)), (2, .ref (ad 10 3)), (3, .ref (ad 10 4)), (4, .ref (ad 10 5)), (5, .ref (ad 10 6)), (6, .ref (ad 10 7)), (7, .int (hI glyph)), (8, .int (hI size)), (9, .ref (ad 10 12)), (11, .int (hI y11)), (13, .int (hI y13)), (15, .int (hI y15)), (16, .int (hI y16))]) hx hb dL_lay_240 hl (by decide) rfl (fun ls hl => ?_)
      exact h H _ ls hh (lv_sub hl [1, 2, 3, 4, 5, 6, 7, 8, 9, 10, 11, 12, 13, 14, 0] rfl)
    · have h := h.2 c40
      refine lv_iload hx hb dL_lay_228 (lv_at hl 12 rfl) ?_
      refine lv_iload hx hb dL_lay_230 (lv_at hl 13 rfl) ?_
      refine iv_icmp_ge (tgt := 239) hx hb h_y15 h_y16 dL_lay_232 (by decide) (fun c41 => ?_) (fun c41 => ?_)
      · have h := h.2 c41
        refine iv_iconst hx hb dL_lay_239 ?_
        refine lv_istore (lv' := [(17, .int (hI 0)), (0, .ref (ad 10 1)), (1, .ref (ad 10 2)), (2, .ref (ad 10 3)), (3, .ref (ad 10 4)), (4, .ref (ad 10 5)), (5, .ref (ad 10 6)), (6, .ref (ad 10 7)), (7, .int (hI glyph)), (8, .int (hI size)), (9, .ref (ad 10 12)), (11, .int (hI y11)), (13, .int (hI y13)), (15, .int (hI y15)), (16, .int (hI y16))]) hx hb dL_lay_240 hl (by decide) rfl (fun ls hl => ?_)
        exact h H _ ls hh (lv_sub hl [1, 2, 3, 4, 5, 6, 7, 8, 9, 10, 11, 12, 13, 14, 0] rfl)
      · have h := h.1 c41
        refine iv_iconst hx hb dL_lay_235 ?_
        refine lv_goto (tgt := 240) hx hb dL_lay_236 (by decide) ?_
        refine lv_istore (lv' := [(17, .int (hI 1)), (0, .ref (ad 10 1)), (1, .ref (ad 10 2)), (2, .ref (ad 10 3)), (3, .ref (ad 10 4)), (4, .ref (ad 10 5)), (5, .ref (ad 10 6)), (6, .ref (ad 10 7)), (7, .int (hI glyph)), (8, .int (hI size)), (9, .ref (ad 10 12)), (11, .int (hI y11)), (13, .int (hI y13)), (15, .int (hI y15)), (16, .int (hI y16))]) hx hb dL_lay_240 hl (by decide) rfl (fun ls hl => ?_)
        exact h H _ ls hh (lv_sub hl [1, 2, 3, 4, 5, 6, 7, 8, 9, 10, 11, 12, 13, 14, 0] rfl)
  have r242 : ∀ (y11 : Int) (y13 : Int) (y15 : Int) (y16 : Int) (y17 : Int) (P1 : hGM), hIn y11 → hIn y13 → hIn y15 → hIn y16 → hIn y17 → ((∀ (i : Nat) (k : Int), i < 100 → hIn (P1 i k)) → ((y17 = 0 → (hAt D ad cI cJ cF p l e ({ frames := 4, cells := 0, slots := 0, locals := 96 } : Room) s m args below meth c (MQ below (hQv D ad cI cJ cF (gset S 10 (m_L_lay A P glyph size))) args s 0 0 (hAd ad)) 18 277 [(0, .ref (ad 10 1)), (1, .ref (ad 10 2)), (2, .ref (ad 10 3)), (3, .ref (ad 10 4)), (4, .ref (ad 10 5)), (5, .ref (ad 10 6)), (6, .ref (ad 10 7)), (7, .int (hI glyph)), (8, .int (hI size)), (9, .ref (ad 10 12)), (11, .int (hI y11)), (13, .int (hI y13)), (15, .int (hI y15))] (gset S 10 (aset P1 12 6 (iOr (P1 12 6) 0))))) ∧ (¬ y17 = 0 → (hAt D ad cI cJ cF p l e ({ frames := 4, cells := 0, slots := 0, locals := 96 } : Room) s m args below meth c (MQ below (hQv D ad cI cJ cF (gset S 10 (m_L_lay A P glyph size))) args s 0 0 (hAd ad)) 18 277 [(0, .ref (ad 10 1)), (1, .ref (ad 10 2)), (2, .ref (ad 10 3)), (3, .ref (ad 10 4)), (4, .ref (ad 10 5)), (5, .ref (ad 10 6)), (6, .ref (ad 10 7)), (7, .int (hI glyph)), (8, .int (hI size)), (9, .ref (ad 10 12)), (11, .int (hI y11)), (13, .int (hI y13)), (15, .int (hI y16))] (gset S 10 (aset P1 12 6 (iOr (P1 12 6) (iShl 1 y11)))))))) → (hAt D ad cI cJ cF p l e ({ frames := 4, cells := 0, slots := 0, locals := 96 } : Room) s m args below meth c (MQ below (hQv D ad cI cJ cF (gset S 10 (m_L_lay A P glyph size))) args s 0 0 (hAd ad)) 18 242 [(0, .ref (ad 10 1)), (1, .ref (ad 10 2)), (2, .ref (ad 10 3)), (3, .ref (ad 10 4)), (4, .ref (ad 10 5)), (5, .ref (ad 10 6)), (6, .ref (ad 10 7)), (7, .int (hI glyph)), (8, .int (hI size)), (9, .ref (ad 10 12)), (11, .int (hI y11)), (13, .int (hI y13)), (15, .int (hI y15)), (16, .int (hI y16)), (17, .int (hI y17))] (gset S 10 P1)) := by
    intro y11 y13 y15 y16 y17 P1 h_y11 h_y13 h_y15 h_y16 h_y17 h H locs ls hh hl
    have h := h (fun i k hi => hIn_rd hh.2.1 (gset_at _ _ _) hi)
    refine lv_aload hx hb dL_lay_242 (lv_at hl 9 rfl) ?_
    refine lv_bipush (v := hI 6) hx hb dL_lay_244 (by decide) ?_
    refine lv_dup2_11 hx hb dL_lay_246 rfl rfl ?_
    refine iv_iald hx hb hK hh.1 (ia_10_12 hf) ⟨by decide, by decide⟩ (v := (P1 12 6)) (congrArg (fun z => z 12 6) (gset_at _ _ _)) dL_lay_247 ?_
    have hm42 : hIn (P1 12 6) := hIn_rd hh.2.1 (gset_at _ _ _) (by decide)
    refine lv_iload hx hb dL_lay_248 (lv_at hl 14 rfl) ?_
    refine iv_if_eq (tgt := 260) hx hb h_y17 dL_lay_250 (by decide) (fun c43 => ?_) (fun c43 => ?_)
    · have h := h.1 c43
      refine iv_iconst hx hb dL_lay_260 ?_
      refine iv_ior hx hb dL_lay_261 ?_
      refine iv_iast (S' := (gset S 10 (aset P1 12 6 (iOr (P1 12 6) 0)))) hx hb hK hinj hh (ia_10_12 hf) ⟨by decide, by decide⟩ (hIn_toInt _) (by rw [show (gset S 10 P1) 10 = P1 from (gset_at _ _ _)]; exact (gset_gset _ _ _ _)) dL_lay_262 (fun H locs hh => ?_)
      refine lv_iload hx hb dL_lay_263 (lv_at hl 14 rfl) ?_
      refine iv_if_eq (tgt := 273) hx hb h_y17 dL_lay_265 (by decide) (fun c44 => ?_) (fun c44 => ?_)
      · refine lv_iload hx hb dL_lay_273 (lv_at hl 12 rfl) ?_
        refine lv_istore (lv' := [(15, .int (hI y15)), (0, .ref (ad 10 1)), (1, .ref (ad 10 2)), (2, .ref (ad 10 3)), (3, .ref (ad 10 4)), (4, .ref (ad 10 5)), (5, .ref (ad 10 6)), (6, .ref (ad 10 7)), (7, .int (hI glyph)), (8, .int (hI size)), (9, .ref (ad 10 12)), (11, .int (hI y11)), (13, .int (hI y13)), (16, .int (hI y16)), (17, .int (hI y17))]) hx hb dL_lay_275 hl (by decide) rfl (fun ls hl => ?_)
        exact h H _ ls hh (lv_sub hl [1, 2, 3, 4, 5, 6, 7, 8, 9, 10, 11, 12, 0] rfl)
      · exact absurd c43 c44
    · have h := h.2 c43
      refine iv_iconst hx hb dL_lay_253 ?_
      refine lv_iload hx hb dL_lay_254 (lv_at hl 10 rfl) ?_
      refine iv_ishl hx hb dL_lay_256 ?_
      refine lv_goto (tgt := 261) hx hb dL_lay_257 (by decide) ?_
      refine iv_ior hx hb dL_lay_261 ?_
      refine iv_iast (S' := (gset S 10 (aset P1 12 6 (iOr (P1 12 6) (iShl 1 y11))))) hx hb hK hinj hh (ia_10_12 hf) ⟨by decide, by decide⟩ (hIn_toInt _) (by rw [show (gset S 10 P1) 10 = P1 from (gset_at _ _ _)]; exact (gset_gset _ _ _ _)) dL_lay_262 (fun H locs hh => ?_)
      refine lv_iload hx hb dL_lay_263 (lv_at hl 14 rfl) ?_
      refine iv_if_eq (tgt := 273) hx hb h_y17 dL_lay_265 (by decide) (fun c45 => ?_) (fun c45 => ?_)
      · exact absurd c45 c43
      · refine lv_iload hx hb dL_lay_268 (lv_at hl 13 rfl) ?_
        refine lv_goto (tgt := 275) hx hb dL_lay_270 (by decide) ?_
        refine lv_istore (lv' := [(15, .int (hI y16)), (0, .ref (ad 10 1)), (1, .ref (ad 10 2)), (2, .ref (ad 10 3)), (3, .ref (ad 10 4)), (4, .ref (ad 10 5)), (5, .ref (ad 10 6)), (6, .ref (ad 10 7)), (7, .int (hI glyph)), (8, .int (hI size)), (9, .ref (ad 10 12)), (11, .int (hI y11)), (13, .int (hI y13)), (16, .int (hI y16)), (17, .int (hI y17))]) hx hb dL_lay_275 hl (by decide) rfl (fun ls hl => ?_)
        exact h H _ ls hh (lv_sub hl [1, 2, 3, 4, 5, 6, 7, 8, 9, 10, 11, 12, 0] rfl)
  have r277 : ∀ (y11 : Int) (y13 : Int) (y15 : Int) (P1 : hGM), hIn y11 → hIn y13 → hIn y15 → ((∀ (i : Nat) (k : Int), i < 100 → hIn (P1 i k)) → ((0 ≤ y11 ∧ y11 < 8) ∧ ((y15 < 0 → (hAt D ad cI cJ cF p l e ({ frames := 4, cells := 0, slots := 0, locals := 96 } : Room) s m args below meth c (MQ below (hQv D ad cI cJ cF (gset S 10 (m_L_lay A P glyph size))) args s 0 0 (hAd ad)) 18 18 [(0, .ref (ad 10 1)), (1, .ref (ad 10 2)), (2, .ref (ad 10 3)), (3, .ref (ad 10 4)), (4, .ref (ad 10 5)), (5, .ref (ad 10 6)), (6, .ref (ad 10 7)), (7, .int (hI glyph)), (8, .int (hI size)), (9, .ref (ad 10 12)), (10, .int (hI (y15 + y13))), (11, .int (hI (y11 + 1)))] (gset S 10 (aset (aset P1 12 y11 y15) 12 7 (iOr ((aset P1 12 y11 y15) 12 7) (iShl 1 y11)))))) ∧ (¬ y15 < 0 → (p_L_columns A (aset P1 12 y11 y15) glyph size ∧ (hIn (y15 + y13) ∧ (((y15 + y13) ≤ (v_L_columns A (aset P1 12 y11 y15) glyph size) → (hAt D ad cI cJ cF p l e ({ frames := 4, cells := 0, slots := 0, locals := 96 } : Room) s m args below meth c (MQ below (hQv D ad cI cJ cF (gset S 10 (m_L_lay A P glyph size))) args s 0 0 (hAd ad)) 18 18 [(0, .ref (ad 10 1)), (1, .ref (ad 10 2)), (2, .ref (ad 10 3)), (3, .ref (ad 10 4)), (4, .ref (ad 10 5)), (5, .ref (ad 10 6)), (6, .ref (ad 10 7)), (7, .int (hI glyph)), (8, .int (hI size)), (9, .ref (ad 10 12)), (10, .int (hI (y15 + y13))), (11, .int (hI (y11 + 1)))] (gset S 10 (aset (aset P1 12 y11 y15) 12 7 (iOr ((aset P1 12 y11 y15) 12 7) 0))))) ∧ (¬ (y15 + y13) ≤ (v_L_columns A (aset P1 12 y11 y15) glyph size) → (hAt D ad cI cJ cF p l e ({ frames := 4, cells := 0, slots := 0, locals := 96 } : Room) s m args below meth c (MQ below (hQv D ad cI cJ cF (gset S 10 (m_L_lay A P glyph size))) args s 0 0 (hAd ad)) 18 18 [(0, .ref (ad 10 1)), (1, .ref (ad 10 2)), (2, .ref (ad 10 3)), (3, .ref (ad 10 4)), (4, .ref (ad 10 5)), (5, .ref (ad 10 6)), (6, .ref (ad 10 7)), (7, .int (hI glyph)), (8, .int (hI size)), (9, .ref (ad 10 12)), (10, .int (hI (y15 + y13))), (11, .int (hI (y11 + 1)))] (gset S 10 (aset (aset P1 12 y11 y15) 12 7 (iOr ((aset P1 12 y11 y15) 12 7) (iShl 1 y11))))))))))))) → (hAt D ad cI cJ cF p l e ({ frames := 4, cells := 0, slots := 0, locals := 96 } : Room) s m args below meth c (MQ below (hQv D ad cI cJ cF (gset S 10 (m_L_lay A P glyph size))) args s 0 0 (hAd ad)) 18 277 [(0, .ref (ad 10 1)), (1, .ref (ad 10 2)), (2, .ref (ad 10 3)), (3, .ref (ad 10 4)), (4, .ref (ad 10 5)), (5, .ref (ad 10 6)), (6, .ref (ad 10 7)), (7, .int (hI glyph)), (8, .int (hI size)), (9, .ref (ad 10 12)), (11, .int (hI y11)), (13, .int (hI y13)), (15, .int (hI y15))] (gset S 10 P1)) := by
    intro y11 y13 y15 P1 h_y11 h_y13 h_y15 h H locs ls hh hl
    have h := h (fun i k hi => hIn_rd hh.2.1 (gset_at _ _ _) hi)
    refine lv_aload hx hb dL_lay_277 (lv_at hl 9 rfl) ?_
    refine lv_iload hx hb dL_lay_279 (lv_at hl 10 rfl) ?_
    refine lv_iload hx hb dL_lay_281 (lv_at hl 12 rfl) ?_
    obtain ⟨g46, h⟩ := h
    refine iv_iast (S' := (gset S 10 (aset P1 12 y11 y15))) hx hb hK hinj hh (ia_10_12 hf) g46 h_y15 (by rw [show (gset S 10 P1) 10 = P1 from (gset_at _ _ _)]; exact (gset_gset _ _ _ _)) dL_lay_283 (fun H locs hh => ?_)
    refine lv_iload hx hb dL_lay_284 (lv_at hl 12 rfl) ?_
    refine lv_iload hx hb dL_lay_286 (lv_at hl 11 rfl) ?_
    refine iv_iadd hx hb dL_lay_288 ?_
    refine lv_istore (lv' := [(10, .int (hI (y15 + y13))), (0, .ref (ad 10 1)), (1, .ref (ad 10 2)), (2, .ref (ad 10 3)), (3, .ref (ad 10 4)), (4, .ref (ad 10 5)), (5, .ref (ad 10 6)), (6, .ref (ad 10 7)), (7, .int (hI glyph)), (8, .int (hI size)), (9, .ref (ad 10 12)), (11, .int (hI y11)), (13, .int (hI y13)), (15, .int (hI y15))]) hx hb dL_lay_289 hl (by decide) rfl (fun ls hl => ?_)
    refine lv_aload hx hb dL_lay_291 (lv_at hl 10 rfl) ?_
    refine lv_bipush (v := hI 7) hx hb dL_lay_293 (by decide) ?_
    refine lv_dup2_11 hx hb dL_lay_295 rfl rfl ?_
    refine iv_iald hx hb hK hh.1 (ia_10_12 hf) ⟨by decide, by decide⟩ (v := ((aset P1 12 y11 y15) 12 7)) (congrArg (fun z => z 12 7) (gset_at _ _ _)) dL_lay_296 ?_
    have hm47 : hIn ((aset P1 12 y11 y15) 12 7) := hIn_rd hh.2.1 (gset_at _ _ _) (by decide)
    refine lv_iload hx hb dL_lay_297 (lv_at hl 13 rfl) ?_
    refine iv_if_lt (tgt := 315) hx hb h_y15 dL_lay_299 (by decide) (fun c48 => ?_) (fun c48 => ?_)
    · have h := h.1 c48
      refine iv_iconst hx hb dL_lay_315 ?_
      refine lv_iload hx hb dL_lay_316 (lv_at hl 11 rfl) ?_
      refine iv_ishl hx hb dL_lay_318 ?_
      refine lv_goto (tgt := 323) hx hb dL_lay_319 (by decide) ?_
      refine iv_ior hx hb dL_lay_323 ?_
      refine iv_iast (S' := (gset S 10 (aset (aset P1 12 y11 y15) 12 7 (iOr ((aset P1 12 y11 y15) 12 7) (iShl 1 y11))))) hx hb hK hinj hh (ia_10_12 hf) ⟨by decide, by decide⟩ (hIn_toInt _) (by rw [show (gset S 10 (aset P1 12 y11 y15)) 10 = (aset P1 12 y11 y15) from (gset_at _ _ _)]; exact (gset_gset _ _ _ _)) dL_lay_324 (fun H locs hh => ?_)
      refine iv_iinc (lv' := [(11, .int (hI (y11 + 1))), (10, .int (hI (y15 + y13))), (0, .ref (ad 10 1)), (1, .ref (ad 10 2)), (2, .ref (ad 10 3)), (3, .ref (ad 10 4)), (4, .ref (ad 10 5)), (5, .ref (ad 10 6)), (6, .ref (ad 10 7)), (7, .int (hI glyph)), (8, .int (hI size)), (9, .ref (ad 10 12)), (13, .int (hI y13)), (15, .int (hI y15))]) hx hb dL_lay_325 hl (k := 11) rfl (v := (y11 + 1)) rfl (by decide) rfl (fun ls hl => ?_)
      refine lv_goto (tgt := 18) hx hb dL_lay_328 (by decide) ?_
      exact h H _ ls hh (lv_sub hl [2, 3, 4, 5, 6, 7, 8, 9, 10, 11, 1, 0] rfl)
    · have h := h.2 c48
      refine lv_iload hx hb dL_lay_302 (lv_at hl 0 rfl) ?_
      refine lv_aload_n hx hb dL_lay_304 rfl (lv_at hl 2 rfl) ?_
      refine lv_iload hx hb dL_lay_305 (lv_at hl 8 rfl) ?_
      refine lv_iload hx hb dL_lay_307 (lv_at hl 9 rfl) ?_
      obtain ⟨g49, h⟩ := h
      refine iv_ki (iv_rS (As := [.ref (ad 10 2), .int (hI glyph), .int (hI size)]) (rest := [.int (hI (y15 + y13)), .int (hI ((aset P1 12 y11 y15) 12 7)), .int (hI 7), .ref (ad 10 12)]) E hh (ok_L_columns l hinj (gset S 10 (aset P1 12 y11 y15)) A (aset P1 12 y11 y15) (gset_at _ _ _) glyph size h_glyph h_size g49) cb_L_columns q2_211 rfl rfl ⟨Nat.le_of_ble_eq_true rfl, Nat.le_of_ble_eq_true rfl⟩ rfl hl.1 rfl (Nat.le_of_ble_eq_true rfl) dL_lay_309 ⟨Nat.zero_le _, Nat.zero_le _⟩) hh (fun hc50 H locs hh => ?_)
      obtain ⟨g51, h⟩ := h
      refine iv_icmp_le (tgt := 322) hx hb g51 hc50 dL_lay_312 (by decide) (fun c52 => ?_) (fun c52 => ?_)
      · have h := h.1 c52
        refine iv_iconst hx hb dL_lay_322 ?_
        refine iv_ior hx hb dL_lay_323 ?_
        refine iv_iast (S' := (gset S 10 (aset (aset P1 12 y11 y15) 12 7 (iOr ((aset P1 12 y11 y15) 12 7) 0)))) hx hb hK hinj hh (ia_10_12 hf) ⟨by decide, by decide⟩ (hIn_toInt _) (by rw [show (gset S 10 (aset P1 12 y11 y15)) 10 = (aset P1 12 y11 y15) from (gset_at _ _ _)]; exact (gset_gset _ _ _ _)) dL_lay_324 (fun H locs hh => ?_)
        refine iv_iinc (lv' := [(11, .int (hI (y11 + 1))), (10, .int (hI (y15 + y13))), (0, .ref (ad 10 1)), (1, .ref (ad 10 2)), (2, .ref (ad 10 3)), (3, .ref (ad 10 4)), (4, .ref (ad 10 5)), (5, .ref (ad 10 6)), (6, .ref (ad 10 7)), (7, .int (hI glyph)), (8, .int (hI size)), (9, .ref (ad 10 12)), (13, .int (hI y13)), (15, .int (hI y15))]) hx hb dL_lay_325 hl (k := 11) rfl (v := (y11 + 1)) rfl (by decide) rfl (fun ls hl => ?_)
        refine lv_goto (tgt := 18) hx hb dL_lay_328 (by decide) ?_
        exact h H _ ls hh (lv_sub hl [2, 3, 4, 5, 6, 7, 8, 9, 10, 11, 1, 0] rfl)
      · have h := h.2 c52
        refine iv_iconst hx hb dL_lay_315 ?_
        refine lv_iload hx hb dL_lay_316 (lv_at hl 11 rfl) ?_
        refine iv_ishl hx hb dL_lay_318 ?_
        refine lv_goto (tgt := 323) hx hb dL_lay_319 (by decide) ?_
        refine iv_ior hx hb dL_lay_323 ?_
        refine iv_iast (S' := (gset S 10 (aset (aset P1 12 y11 y15) 12 7 (iOr ((aset P1 12 y11 y15) 12 7) (iShl 1 y11))))) hx hb hK hinj hh (ia_10_12 hf) ⟨by decide, by decide⟩ (hIn_toInt _) (by rw [show (gset S 10 (aset P1 12 y11 y15)) 10 = (aset P1 12 y11 y15) from (gset_at _ _ _)]; exact (gset_gset _ _ _ _)) dL_lay_324 (fun H locs hh => ?_)
        refine iv_iinc (lv' := [(11, .int (hI (y11 + 1))), (10, .int (hI (y15 + y13))), (0, .ref (ad 10 1)), (1, .ref (ad 10 2)), (2, .ref (ad 10 3)), (3, .ref (ad 10 4)), (4, .ref (ad 10 5)), (5, .ref (ad 10 6)), (6, .ref (ad 10 7)), (7, .int (hI glyph)), (8, .int (hI size)), (9, .ref (ad 10 12)), (13, .int (hI y13)), (15, .int (hI y15))]) hx hb dL_lay_325 hl (k := 11) rfl (v := (y11 + 1)) rfl (by decide) rfl (fun ls hl => ?_)
        refine lv_goto (tgt := 18) hx hb dL_lay_328 (by decide) ?_
        exact h H _ ls hh (lv_sub hl [2, 3, 4, 5, 6, 7, 8, 9, 10, 11, 1, 0] rfl)
  intro H locs ls hh hl
  have hl : lv_has ls 18 [(0, .ref (ad 10 1)), (1, .ref (ad 10 2)), (2, .ref (ad 10 3)), (3, .ref (ad 10 4)), (4, .ref (ad 10 5)), (5, .ref (ad 10 6)), (6, .ref (ad 10 7)), (7, .int (hI glyph)), (8, .int (hI size)), (9, .ref (ad 10 12))] := hl
  replace hh : hH D ad cI cJ cF (gset S 10 P) s H locs := by rw [← can1 hP]; exact hh
  have h := x_L_lay A P glyph size h_glyph h_size (fun i k hi => hIn_rd hh.2.1 (gset_at _ _ _) hi) hp (fun y10 y11 P1 => (hAt D ad cI cJ cF p l e ({ frames := 4, cells := 0, slots := 0, locals := 96 } : Room) s m args below meth c (MQ below (hQv D ad cI cJ cF (gset S 10 (m_L_lay A P glyph size))) args s 0 0 (hAd ad)) 18 18 [(0, .ref (ad 10 1)), (1, .ref (ad 10 2)), (2, .ref (ad 10 3)), (3, .ref (ad 10 4)), (4, .ref (ad 10 5)), (5, .ref (ad 10 6)), (6, .ref (ad 10 7)), (7, .int (hI glyph)), (8, .int (hI size)), (9, .ref (ad 10 12)), (10, .int (hI y10)), (11, .int (hI y11))] (gset S 10 P1))) (fun y10 y11 y12 y13 y14 P1 => (hAt D ad cI cJ cF p l e ({ frames := 4, cells := 0, slots := 0, locals := 96 } : Room) s m args below meth c (MQ below (hQv D ad cI cJ cF (gset S 10 (m_L_lay A P glyph size))) args s 0 0 (hAd ad)) 18 81 [(0, .ref (ad 10 1)), (1, .ref (ad 10 2)), (2, .ref (ad 10 3)), (3, .ref (ad 10 4)), (4, .ref (ad 10 5)), (5, .ref (ad 10 6)), (6, .ref (ad 10 7)), (7, .int (hI glyph)), (8, .int (hI size)), (9, .ref (ad 10 12)), (10, .int (hI y10)), (11, .int (hI y11)), (12, .int (hI y12)), (13, .int (hI y13)), (14, .int (hI y14))] (gset S 10 P1))) (fun y10 y11 y13 y14 y15 P1 => (hAt D ad cI cJ cF p l e ({ frames := 4, cells := 0, slots := 0, locals := 96 } : Room) s m args below meth c (MQ below (hQv D ad cI cJ cF (gset S 10 (m_L_lay A P glyph size))) args s 0 0 (hAd ad)) 18 208 [(0, .ref (ad 10 1)), (1, .ref (ad 10 2)), (2, .ref (ad 10 3)), (3, .ref (ad 10 4)), (4, .ref (ad 10 5)), (5, .ref (ad 10 6)), (6, .ref (ad 10 7)), (7, .int (hI glyph)), (8, .int (hI size)), (9, .ref (ad 10 12)), (10, .int (hI y10)), (11, .int (hI y11)), (13, .int (hI y13)), (14, .int (hI y14)), (15, .int (hI y15))] (gset S 10 P1))) (fun y11 y13 y15 y16 P1 => (hAt D ad cI cJ cF p l e ({ frames := 4, cells := 0, slots := 0, locals := 96 } : Room) s m args below meth c (MQ below (hQv D ad cI cJ cF (gset S 10 (m_L_lay A P glyph size))) args s 0 0 (hAd ad)) 18 223 [(0, .ref (ad 10 1)), (1, .ref (ad 10 2)), (2, .ref (ad 10 3)), (3, .ref (ad 10 4)), (4, .ref (ad 10 5)), (5, .ref (ad 10 6)), (6, .ref (ad 10 7)), (7, .int (hI glyph)), (8, .int (hI size)), (9, .ref (ad 10 12)), (11, .int (hI y11)), (13, .int (hI y13)), (15, .int (hI y15)), (16, .int (hI y16))] (gset S 10 P1))) (fun y11 y13 y15 y16 y17 P1 => (hAt D ad cI cJ cF p l e ({ frames := 4, cells := 0, slots := 0, locals := 96 } : Room) s m args below meth c (MQ below (hQv D ad cI cJ cF (gset S 10 (m_L_lay A P glyph size))) args s 0 0 (hAd ad)) 18 242 [(0, .ref (ad 10 1)), (1, .ref (ad 10 2)), (2, .ref (ad 10 3)), (3, .ref (ad 10 4)), (4, .ref (ad 10 5)), (5, .ref (ad 10 6)), (6, .ref (ad 10 7)), (7, .int (hI glyph)), (8, .int (hI size)), (9, .ref (ad 10 12)), (11, .int (hI y11)), (13, .int (hI y13)), (15, .int (hI y15)), (16, .int (hI y16)), (17, .int (hI y17))] (gset S 10 P1))) (fun y11 y13 y15 P1 => (hAt D ad cI cJ cF p l e ({ frames := 4, cells := 0, slots := 0, locals := 96 } : Room) s m args below meth c (MQ below (hQv D ad cI cJ cF (gset S 10 (m_L_lay A P glyph size))) args s 0 0 (hAd ad)) 18 277 [(0, .ref (ad 10 1)), (1, .ref (ad 10 2)), (2, .ref (ad 10 3)), (3, .ref (ad 10 4)), (4, .ref (ad 10 5)), (5, .ref (ad 10 6)), (6, .ref (ad 10 7)), (7, .int (hI glyph)), (8, .int (hI size)), (9, .ref (ad 10 12)), (11, .int (hI y11)), (13, .int (hI y13)), (15, .int (hI y15))] (gset S 10 P1))) (fun P1 => (P1 = m_L_lay A P glyph size)) r18 r81 r208 r223 r242 r277 rfl
  refine lv_aload hx hb dL_lay_0 (lv_at hl 9 rfl) ?_
  refine lv_bipush (v := hI 6) hx hb dL_lay_2 (by decide) ?_
  refine iv_iconst hx hb dL_lay_4 ?_
  refine iv_iast (S' := (gset S 10 (aset P 12 6 0))) hx hb hK hinj hh (ia_10_12 hf) ⟨by decide, by decide⟩ ⟨by decide, by decide⟩ (by rw [show (gset S 10 P) 10 = P from (gset_at _ _ _)]; exact (gset_gset _ _ _ _)) dL_lay_5 (fun H locs hh => ?_)
  refine lv_aload hx hb dL_lay_6 (lv_at hl 9 rfl) ?_
  refine lv_bipush (v := hI 7) hx hb dL_lay_8 (by decide) ?_
  refine iv_iconst hx hb dL_lay_10 ?_
  refine iv_iast (S' := (gset S 10 (aset (aset P 12 6 0) 12 7 0))) hx hb hK hinj hh (ia_10_12 hf) ⟨by decide, by decide⟩ ⟨by decide, by decide⟩ (by rw [show (gset S 10 (aset P 12 6 0)) 10 = (aset P 12 6 0) from (gset_at _ _ _)]; exact (gset_gset _ _ _ _)) dL_lay_11 (fun H locs hh => ?_)
  refine iv_iconst hx hb dL_lay_12 ?_
  refine lv_istore (lv' := [(10, .int (hI 0)), (0, .ref (ad 10 1)), (1, .ref (ad 10 2)), (2, .ref (ad 10 3)), (3, .ref (ad 10 4)), (4, .ref (ad 10 5)), (5, .ref (ad 10 6)), (6, .ref (ad 10 7)), (7, .int (hI glyph)), (8, .int (hI size)), (9, .ref (ad 10 12))]) hx hb dL_lay_13 hl (by decide) rfl (fun ls hl => ?_)
  refine iv_iconst hx hb dL_lay_15 ?_
  refine lv_istore (lv' := [(11, .int (hI 0)), (10, .int (hI 0)), (0, .ref (ad 10 1)), (1, .ref (ad 10 2)), (2, .ref (ad 10 3)), (3, .ref (ad 10 4)), (4, .ref (ad 10 5)), (5, .ref (ad 10 6)), (6, .ref (ad 10 7)), (7, .int (hI glyph)), (8, .int (hI size)), (9, .ref (ad 10 12))]) hx hb dL_lay_16 hl (by decide) rfl (fun ls hl => ?_)
  exact h H _ ls hh (lv_sub hl [2, 3, 4, 5, 6, 7, 8, 9, 10, 11, 1, 0] rfl)
set_option maxHeartbeats 4000000 in
set_option maxRecDepth 100000 in
theorem at_L_lit (l : Launch) (hinj : hInj ad) (S : hS) (hf : ad 99 1 = 1) (A : hGM) (P : hGM) (hP : S 10 = P) (glyph : Int) (size : Int) (h_glyph : hIn glyph) (h_size : hIn size) (hp : p_L_lit A P glyph size) {p : Program} {e : Env} {s : State} {m : MethodId} {args : Array Value} {below : List Frame} {meth : Method} {c : Code} (E : hE D ad cI cJ cF p s m args meth c RL cL_lit 14 (some .long)) : hAtC D ad cI cJ cF p l e ({ frames := 5, cells := 1, slots := 8, locals := 133 } : Room) s m args below meth c (MQ below (hQl D ad cI cJ cF (v_L_lit A P glyph size) (gset S 10 (m_L_lit A P glyph size))) args s 1 (8 * 1) (hAd ad)) 14 6 [(0, .ref (ad 10 1)), (1, .ref (ad 10 2)), (2, .ref (ad 10 3)), (3, .ref (ad 10 4)), (4, .ref (ad 10 5)), (5, .ref (ad 10 6)), (6, .ref (ad 10 7)), (7, .int (hI glyph)), (8, .int (hI size)), (9, .ref (ad 10 12))] S 1 := by
  obtain ⟨hx, hb, hml, hown, hts, hK, hN, -, hr, hlk, hz⟩ := id E
  have hown : s.vm.findClass RL = some m.cls := hown
  have r31 : ∀ (y10 : Int) (y12 : Int) (P1 : hGM), hIn y12 → ((∀ (i : Nat) (k : Int), i < 100 → hIn (P1 i k)) → (p_L_columns A P1 glyph size ∧ ((y12 < (v_L_columns A P1 glyph size) → (hAtC D ad cI cJ cF p l e ({ frames := 5, cells := 1, slots := 8, locals := 133 } : Room) s m args below meth c (MQ below (hQl D ad cI cJ cF (v_L_lit A P glyph size) (gset S 10 (m_L_lit A P glyph size))) args s 1 (8 * 1) (hAd ad)) 14 47 [(0, .ref (ad 10 1)), (1, .ref (ad 10 2)), (2, .ref (ad 10 3)), (4, .ref (ad 10 5)), (6, .ref (ad 10 7)), (7, .int (hI glyph)), (8, .int (hI size)), (9, .ref (ad 10 12)), (10, .long (hJ y10)), (12, .int (hI y12)), (13, .int (hI 0))] (gset S 10 P1) (1))) ∧ (¬ y12 < (v_L_columns A P1 glyph size) → (y10 = v_L_lit A P glyph size ∧ P1 = m_L_lit A P glyph size))))) → (hAtC D ad cI cJ cF p l e ({ frames := 5, cells := 1, slots := 8, locals := 133 } : Room) s m args below meth c (MQ below (hQl D ad cI cJ cF (v_L_lit A P glyph size) (gset S 10 (m_L_lit A P glyph size))) args s 1 (8 * 1) (hAd ad)) 14 31 [(0, .ref (ad 10 1)), (1, .ref (ad 10 2)), (2, .ref (ad 10 3)), (4, .ref (ad 10 5)), (6, .ref (ad 10 7)), (7, .int (hI glyph)), (8, .int (hI size)), (9, .ref (ad 10 12)), (10, .long (hJ y10)), (12, .int (hI y12))] (gset S 10 P1) (1)) := by
    intro y10 y12 P1 h_y12 h H locs ls hh hl
    have h := h (fun i k hi => hIn_rd hh.2.1 (gset_at _ _ _) hi)
    refine lv_iload hx hb dL_lit_31 (lv_at hl 9 rfl) ?_
    refine lv_aload_n hx hb dL_lit_33 rfl (lv_at hl 1 rfl) ?_
    refine lv_iload hx hb dL_lit_34 (lv_at hl 5 rfl) ?_
    refine lv_iload hx hb dL_lit_36 (lv_at hl 6 rfl) ?_
    obtain ⟨g1, h⟩ := h
    refine iv_ki (iv_rS (As := [.ref (ad 10 2), .int (hI glyph), .int (hI size)]) (rest := [.int (hI y12)]) E hh (ok_L_columns l hinj (gset S 10 P1) A P1 (gset_at _ _ _) glyph size h_glyph h_size g1) cb_L_columns q2_211 rfl rfl ⟨Nat.le_of_ble_eq_true rfl, Nat.le_of_ble_eq_true rfl⟩ rfl hl.1 rfl (Nat.le_of_ble_eq_true rfl) dL_lit_38 (rk0 (k := 1) (K := 1) (Nat.le_of_ble_eq_true rfl))) hh (fun hc2 H locs hh => ?_)
    refine iv_icmp_ge (tgt := 120) hx hb h_y12 hc2 dL_lit_41 (by decide) (fun c3 => ?_) (fun c3 => ?_)
    · have h := h.2 c3
      refine lv_lload hx hb dL_lit_120 (lv_at hl 8 rfl) ?_
      exact iv_lretC E hh h.1 (by rw [← h.2]) dL_lit_122
    · have h := h.1 c3
      refine iv_iconst hx hb dL_lit_44 ?_
      refine lv_istore (lv' := [(13, .int (hI 0)), (0, .ref (ad 10 1)), (1, .ref (ad 10 2)), (2, .ref (ad 10 3)), (4, .ref (ad 10 5)), (6, .ref (ad 10 7)), (7, .int (hI glyph)), (8, .int (hI size)), (9, .ref (ad 10 12)), (10, .long (hJ y10)), (12, .int (hI y12))]) hx hb dL_lit_45 hl (by decide) rfl (fun ls hl => ?_)
      exact h H _ ls hh (lv_sub hl [1, 2, 3, 4, 5, 6, 7, 8, 9, 10, 0] rfl)
  have r47 : ∀ (y10 : Int) (y12 : Int) (y13 : Int) (P1 : hGM), hIn y12 → hIn y13 → ((∀ (i : Nat) (k : Int), i < 100 → hIn (P1 i k)) → ((0 ≤ glyph ∧ glyph < 8) ∧ ((y13 < (P1 3 glyph) → ((0 ≤ y13 ∧ y13 < 8) ∧ ((y12 < (P1 12 y13) → (hAtC D ad cI cJ cF p l e ({ frames := 5, cells := 1, slots := 8, locals := 133 } : Room) s m args below meth c (MQ below (hQl D ad cI cJ cF (v_L_lit A P glyph size) (gset S 10 (m_L_lit A P glyph size))) args s 1 (8 * 1) (hAd ad)) 14 47 [(0, .ref (ad 10 1)), (1, .ref (ad 10 2)), (2, .ref (ad 10 3)), (4, .ref (ad 10 5)), (6, .ref (ad 10 7)), (7, .int (hI glyph)), (8, .int (hI size)), (9, .ref (ad 10 12)), (10, .long (hJ (jOr y10 0))), (12, .int (hI y12)), (13, .int (hI (y13 + 1)))] (gset S 10 P1) (1))) ∧ (¬ y12 < (P1 12 y13) → (hIn ((6 * glyph) + y13) ∧ (p_L_wide A P1 ((6 * glyph) + y13) size ∧ (hIn ((P1 12 y13) + (v_L_wide A P1 ((6 * glyph) + y13) size)) ∧ ((y12 < ((P1 12 y13) + (v_L_wide A P1 ((6 * glyph) + y13) size)) → (hAtC D ad cI cJ cF p l e ({ frames := 5, cells := 1, slots := 8, locals := 133 } : Room) s m args below meth c (MQ below (hQl D ad cI cJ cF (v_L_lit A P glyph size) (gset S 10 (m_L_lit A P glyph size))) args s 1 (8 * 1) (hAd ad)) 14 47 [(0, .ref (ad 10 1)), (1, .ref (ad 10 2)), (2, .ref (ad 10 3)), (4, .ref (ad 10 5)), (6, .ref (ad 10 7)), (7, .int (hI glyph)), (8, .int (hI size)), (9, .ref (ad 10 12)), (10, .long (hJ (jOr y10 (jShl 1 y12)))), (12, .int (hI y12)), (13, .int (hI (y13 + 1)))] (gset S 10 P1) (1))) ∧ (¬ y12 < ((P1 12 y13) + (v_L_wide A P1 ((6 * glyph) + y13) size)) → (hAtC D ad cI cJ cF p l e ({ frames := 5, cells := 1, slots := 8, locals := 133 } : Room) s m args below meth c (MQ below (hQl D ad cI cJ cF (v_L_lit A P glyph size) (gset S 10 (m_L_lit A P glyph size))) args s 1 (8 * 1) (hAd ad)) 14 47 [(0, .ref (ad 10 1)), (1, .ref (ad 10 2)), (2, .ref (ad 10 3)), (4, .ref (ad 10 5)), (6, .ref (ad 10 7)), (7, .int (hI glyph)), (8, .int (hI size)), (9, .ref (ad 10 12)), (10, .long (hJ (jOr y10 0))), (12, .int (hI y12)), (13, .int (hI (y13 + 1)))] (gset S 10 P1) (1))))))))))) ∧ (¬ y13 < (P1 3 glyph) → (hAtC D ad cI cJ cF p l e ({ frames := 5, cells := 1, slots := 8, locals := 133 } : Room) s m args below meth c (MQ below (hQl D ad cI cJ cF (v_L_lit A P glyph size) (gset S 10 (m_L_lit A P glyph size))) args s 1 (8 * 1) (hAd ad)) 14 31 [(0, .ref (ad 10 1)), (1, .ref (ad 10 2)), (2, .ref (ad 10 3)), (4, .ref (ad 10 5)), (6, .ref (ad 10 7)), (7, .int (hI glyph)), (8, .int (hI size)), (9, .ref (ad 10 12)), (10, .long (hJ y10)), (12, .int (hI (y12 + 1)))] (gset S 10 P1) (1)))))) → (hAtC D ad cI cJ cF p l e ({ frames := 5, cells := 1, slots := 8, locals := 133 } : Room) s m args below meth c (MQ below (hQl D ad cI cJ cF (v_L_lit A P glyph size) (gset S 10 (m_L_lit A P glyph size))) args s 1 (8 * 1) (hAd ad)) 14 47 [(0, .ref (ad 10 1)), (1, .ref (ad 10 2)), (2, .ref (ad 10 3)), (4, .ref (ad 10 5)), (6, .ref (ad 10 7)), (7, .int (hI glyph)), (8, .int (hI size)), (9, .ref (ad 10 12)), (10, .long (hJ y10)), (12, .int (hI y12)), (13, .int (hI y13))] (gset S 10 P1) (1)) := by
    intro y10 y12 y13 P1 h_y12 h_y13 h H locs ls hh hl
    have h := h (fun i k hi => hIn_rd hh.2.1 (gset_at _ _ _) hi)
    refine lv_iload hx hb dL_lit_47 (lv_at hl 10 rfl) ?_
    refine lv_aload_n hx hb dL_lit_49 rfl (lv_at hl 2 rfl) ?_
    refine lv_iload hx hb dL_lit_50 (lv_at hl 5 rfl) ?_
    obtain ⟨g4, h⟩ := h
    refine iv_iald hx hb hK hh.1 ia_10_3 g4 (v := (P1 3 glyph)) (congrArg (fun z => z 3 glyph) (gset_at _ _ _)) dL_lit_52 ?_
    have hm5 : hIn (P1 3 glyph) := hIn_rd hh.2.1 (gset_at _ _ _) (by decide)
    refine iv_icmp_ge (tgt := 114) hx hb h_y13 hm5 dL_lit_53 (by decide) (fun c6 => ?_) (fun c6 => ?_)
    · have h := h.2 c6
      refine iv_iinc (lv' := [(12, .int (hI (y12 + 1))), (0, .ref (ad 10 1)), (1, .ref (ad 10 2)), (2, .ref (ad 10 3)), (4, .ref (ad 10 5)), (6, .ref (ad 10 7)), (7, .int (hI glyph)), (8, .int (hI size)), (9, .ref (ad 10 12)), (10, .long (hJ y10)), (13, .int (hI y13))]) hx hb dL_lit_114 hl (k := 9) rfl (v := (y12 + 1)) rfl (by decide) rfl (fun ls hl => ?_)
      refine lv_goto (tgt := 31) hx hb dL_lit_117 (by decide) ?_
      exact h H _ ls hh (lv_sub hl [1, 2, 3, 4, 5, 6, 7, 8, 9, 0] rfl)
    · have h := h.1 c6
      refine lv_lload hx hb dL_lit_56 (lv_at hl 8 rfl) ?_
      refine lv_iload hx hb dL_lit_58 (lv_at hl 9 rfl) ?_
      refine lv_aload hx hb dL_lit_60 (lv_at hl 7 rfl) ?_
      refine lv_iload hx hb dL_lit_62 (lv_at hl 10 rfl) ?_
      obtain ⟨g7, h⟩ := h
      refine iv_iald hx hb hK hh.1 (ia_10_12 hf) g7 (v := (P1 12 y13)) (congrArg (fun z => z 12 y13) (gset_at _ _ _)) dL_lit_64 ?_
      have hm8 : hIn (P1 12 y13) := hIn_rd hh.2.1 (gset_at _ _ _) (by decide)
      refine iv_icmp_lt (tgt := 104) hx hb h_y12 hm8 dL_lit_65 (by decide) (fun c9 => ?_) (fun c9 => ?_)
      · have h := h.1 c9
        refine lv_lconst (v := hJ 0) hx hb dL_lit_104 (by decide) ?_
        refine iv_lor hx hb dL_lit_105 ?_
        refine lv_lstore (lv' := [(10, .long (hJ (jOr y10 0))), (0, .ref (ad 10 1)), (1, .ref (ad 10 2)), (2, .ref (ad 10 3)), (4, .ref (ad 10 5)), (6, .ref (ad 10 7)), (7, .int (hI glyph)), (8, .int (hI size)), (9, .ref (ad 10 12)), (12, .int (hI y12)), (13, .int (hI y13))]) hx hb dL_lit_106 hl (by decide) rfl (fun ls hl => ?_)
        refine iv_iinc (lv' := [(13, .int (hI (y13 + 1))), (10, .long (hJ (jOr y10 0))), (0, .ref (ad 10 1)), (1, .ref (ad 10 2)), (2, .ref (ad 10 3)), (4, .ref (ad 10 5)), (6, .ref (ad 10 7)), (7, .int (hI glyph)), (8, .int (hI size)), (9, .ref (ad 10 12)), (12, .int (hI y12))]) hx hb dL_lit_108 hl (k := 10) rfl (v := (y13 + 1)) rfl (by decide) rfl (fun ls hl => ?_)
        refine lv_goto (tgt := 47) hx hb dL_lit_111 (by decide) ?_
        exact h H _ ls hh (lv_sub hl [2, 3, 4, 5, 6, 7, 8, 9, 1, 10, 0] rfl)
      · have h := h.2 c9
        refine lv_iload hx hb dL_lit_68 (lv_at hl 9 rfl) ?_
        refine lv_aload hx hb dL_lit_70 (lv_at hl 7 rfl) ?_
        refine lv_iload hx hb dL_lit_72 (lv_at hl 10 rfl) ?_
        refine iv_iald hx hb hK hh.1 (ia_10_12 hf) g7 (v := (P1 12 y13)) (congrArg (fun z => z 12 y13) (gset_at _ _ _)) dL_lit_74 ?_
        have hm10 : hIn (P1 12 y13) := hIn_rd hh.2.1 (gset_at _ _ _) (by decide)
        refine lv_aload_n hx hb dL_lit_75 rfl (lv_at hl 0 rfl) ?_
        refine lv_aload hx hb dL_lit_76 (lv_at hl 3 rfl) ?_
        refine lv_aload hx hb dL_lit_78 (lv_at hl 4 rfl) ?_
        refine lv_bipush (v := hI 6) hx hb dL_lit_80 (by decide) ?_
        refine lv_iload hx hb dL_lit_82 (lv_at hl 5 rfl) ?_
        refine iv_imul hx hb dL_lit_84 ?_
        refine lv_iload hx hb dL_lit_85 (lv_at hl 10 rfl) ?_
        refine iv_iadd hx hb dL_lit_87 ?_
        refine lv_iload hx hb dL_lit_88 (lv_at hl 6 rfl) ?_
        obtain ⟨g11, h⟩ := h
        obtain ⟨g12, h⟩ := h
        refine iv_ki (iv_rS (As := [.ref (ad 10 1), .ref (ad 10 5), .ref (ad 10 7), .int (hI ((6 * glyph) + y13)), .int (hI size)]) (rest := [.int (hI (P1 12 y13)), .int (hI y12), .long (hJ y10)]) E hh (ok_L_wide l hinj (gset S 10 P1) A P1 (gset_at _ _ _) ((6 * glyph) + y13) size g11 h_size g12) cb_L_wide q2_223 rfl rfl ⟨Nat.le_of_ble_eq_true rfl, Nat.le_of_ble_eq_true rfl⟩ rfl hl.1 rfl (Nat.le_of_ble_eq_true rfl) dL_lit_90 (rk0 (k := 1) (K := 1) (Nat.le_of_ble_eq_true rfl))) hh (fun hc13 H locs hh => ?_)
        refine iv_iadd hx hb dL_lit_93 ?_
        obtain ⟨g14, h⟩ := h
        refine iv_icmp_ge (tgt := 104) hx hb h_y12 g14 dL_lit_94 (by decide) (fun c15 => ?_) (fun c15 => ?_)
        · have h := h.2 c15
          refine lv_lconst (v := hJ 0) hx hb dL_lit_104 (by decide) ?_
          refine iv_lor hx hb dL_lit_105 ?_
          refine lv_lstore (lv' := [(10, .long (hJ (jOr y10 0))), (0, .ref (ad 10 1)), (1, .ref (ad 10 2)), (2, .ref (ad 10 3)), (4, .ref (ad 10 5)), (6, .ref (ad 10 7)), (7, .int (hI glyph)), (8, .int (hI size)), (9, .ref (ad 10 12)), (12, .int (hI y12)), (13, .int (hI y13))]) hx hb dL_lit_106 hl (by decide) rfl (fun ls hl => ?_)
          refine iv_iinc (lv' := [(13, .int (hI (y13 + 1))), (10, .long (hJ (jOr y10 0))), (0, .ref (ad 10 1)), (1, .ref (ad 10 2)), (2, .ref (ad 10 3)), (4, .ref (ad 10 5)), (6, .ref (ad 10 7)), (7, .int (hI glyph)), (8, .int (hI size)), (9, .ref (ad 10 12)), (12, .int (hI y12))]) hx hb dL_lit_108 hl (k := 10) rfl (v := (y13 + 1)) rfl (by decide) rfl (fun ls hl => ?_)
          refine lv_goto (tgt := 47) hx hb dL_lit_111 (by decide) ?_
          exact h H _ ls hh (lv_sub hl [2, 3, 4, 5, 6, 7, 8, 9, 1, 10, 0] rfl)
        · have h := h.1 c15
          refine lv_lconst (v := hJ 1) hx hb dL_lit_97 (by decide) ?_
          refine lv_iload hx hb dL_lit_98 (lv_at hl 9 rfl) ?_
          refine iv_lshl hx hb dL_lit_100 ?_
          refine lv_goto (tgt := 105) hx hb dL_lit_101 (by decide) ?_
          refine iv_lor hx hb dL_lit_105 ?_
          refine lv_lstore (lv' := [(10, .long (hJ (jOr y10 (jShl 1 y12)))), (0, .ref (ad 10 1)), (1, .ref (ad 10 2)), (2, .ref (ad 10 3)), (4, .ref (ad 10 5)), (6, .ref (ad 10 7)), (7, .int (hI glyph)), (8, .int (hI size)), (9, .ref (ad 10 12)), (12, .int (hI y12)), (13, .int (hI y13))]) hx hb dL_lit_106 hl (by decide) rfl (fun ls hl => ?_)
          refine iv_iinc (lv' := [(13, .int (hI (y13 + 1))), (10, .long (hJ (jOr y10 (jShl 1 y12)))), (0, .ref (ad 10 1)), (1, .ref (ad 10 2)), (2, .ref (ad 10 3)), (4, .ref (ad 10 5)), (6, .ref (ad 10 7)), (7, .int (hI glyph)), (8, .int (hI size)), (9, .ref (ad 10 12)), (12, .int (hI y12))]) hx hb dL_lit_108 hl (k := 10) rfl (v := (y13 + 1)) rfl (by decide) rfl (fun ls hl => ?_)
          refine lv_goto (tgt := 47) hx hb dL_lit_111 (by decide) ?_
          exact h H _ ls hh (lv_sub hl [2, 3, 4, 5, 6, 7, 8, 9, 1, 10, 0] rfl)
  intro H locs ls hh hl
  have hl : lv_has ls 14 [(0, .ref (ad 10 1)), (1, .ref (ad 10 2)), (2, .ref (ad 10 3)), (3, .ref (ad 10 4)), (4, .ref (ad 10 5)), (5, .ref (ad 10 6)), (6, .ref (ad 10 7)), (7, .int (hI glyph)), (8, .int (hI size)), (9, .ref (ad 10 12))] := hl
  replace hh : hH D ad cI cJ cF (gset S 10 P) s H locs := by rw [← can1 hP]; exact hh
  have h := x_L_lit A P glyph size h_glyph h_size (fun i k hi => hIn_rd hh.2.1 (gset_at _ _ _) hi) hp (fun y10 y12 P1 => (hAtC D ad cI cJ cF p l e ({ frames := 5, cells := 1, slots := 8, locals := 133 } : Room) s m args below meth c (MQ below (hQl D ad cI cJ cF (v_L_lit A P glyph size) (gset S 10 (m_L_lit A P glyph size))) args s 1 (8 * 1) (hAd ad)) 14 31 [(0, .ref (ad 10 1)), (1, .ref (ad 10 2)), (2, .ref (ad 10 3)), (4, .ref (ad 10 5)), (6, .ref (ad 10 7)), (7, .int (hI glyph)), (8, .int (hI size)), (9, .ref (ad 10 12)), (10, .long (hJ y10)), (12, .int (hI y12))] (gset S 10 P1) (1))) (fun y10 y12 y13 P1 => (hAtC D ad cI cJ cF p l e ({ frames := 5, cells := 1, slots := 8, locals := 133 } : Room) s m args below meth c (MQ below (hQl D ad cI cJ cF (v_L_lit A P glyph size) (gset S 10 (m_L_lit A P glyph size))) args s 1 (8 * 1) (hAd ad)) 14 47 [(0, .ref (ad 10 1)), (1, .ref (ad 10 2)), (2, .ref (ad 10 3)), (4, .ref (ad 10 5)), (6, .ref (ad 10 7)), (7, .int (hI glyph)), (8, .int (hI size)), (9, .ref (ad 10 12)), (10, .long (hJ y10)), (12, .int (hI y12)), (13, .int (hI y13))] (gset S 10 P1) (1))) (fun r P1 => (r = v_L_lit A P glyph size ∧ P1 = m_L_lit A P glyph size)) r31 r47 ⟨rfl, rfl⟩
  refine lv_aload_n hx hb dL_lit_6 rfl (lv_at hl 0 rfl) ?_
  refine lv_aload_n hx hb dL_lit_7 rfl (lv_at hl 1 rfl) ?_
  refine lv_aload_n hx hb dL_lit_8 rfl (lv_at hl 2 rfl) ?_
  refine lv_aload_n hx hb dL_lit_9 rfl (lv_at hl 3 rfl) ?_
  refine lv_aload hx hb dL_lit_10 (lv_at hl 4 rfl) ?_
  refine lv_aload hx hb dL_lit_12 (lv_at hl 5 rfl) ?_
  refine lv_aload hx hb dL_lit_14 (lv_at hl 6 rfl) ?_
  refine lv_iload hx hb dL_lit_16 (lv_at hl 7 rfl) ?_
  refine lv_iload hx hb dL_lit_18 (lv_at hl 8 rfl) ?_
  refine lv_aload hx hb dL_lit_20 (lv_at hl 9 rfl) ?_
  obtain ⟨g16, h⟩ := h
  refine iv_kv (iv_rS (As := [.ref (ad 10 1), .ref (ad 10 2), .ref (ad 10 3), .ref (ad 10 4), .ref (ad 10 5), .ref (ad 10 6), .ref (ad 10 7), .int (hI glyph), .int (hI size), .ref (ad 10 12)]) (rest := []) E hh (ok_L_lay l hinj (gset S 10 P) hf A P (gset_at _ _ _) glyph size h_glyph h_size g16) cb_L_lay q2_220 rfl rfl ⟨Nat.le_of_ble_eq_true rfl, Nat.le_of_ble_eq_true rfl⟩ rfl hl.1 rfl (Nat.le_of_ble_eq_true rfl) dL_lit_22 (rk0 (k := 1) (K := 1) (Nat.le_of_ble_eq_true rfl))) hh (fun H locs hh => ?_)
  replace hh : hH D ad cI cJ cF (gset S 10 (m_L_lay A P glyph size)) s H locs := by rw [← show _ = (gset S 10 (m_L_lay A P glyph size)) from (gset_gset _ _ _ _)]; exact hh
  refine lv_lconst (v := hJ 0) hx hb dL_lit_25 (by decide) ?_
  refine lv_lstore (lv' := [(10, .long (hJ 0)), (0, .ref (ad 10 1)), (1, .ref (ad 10 2)), (2, .ref (ad 10 3)), (3, .ref (ad 10 4)), (4, .ref (ad 10 5)), (5, .ref (ad 10 6)), (6, .ref (ad 10 7)), (7, .int (hI glyph)), (8, .int (hI size)), (9, .ref (ad 10 12))]) hx hb dL_lit_26 hl (by decide) rfl (fun ls hl => ?_)
  refine iv_iconst hx hb dL_lit_28 ?_
  refine lv_istore (lv' := [(12, .int (hI 0)), (10, .long (hJ 0)), (0, .ref (ad 10 1)), (1, .ref (ad 10 2)), (2, .ref (ad 10 3)), (3, .ref (ad 10 4)), (4, .ref (ad 10 5)), (5, .ref (ad 10 6)), (6, .ref (ad 10 7)), (7, .int (hI glyph)), (8, .int (hI size)), (9, .ref (ad 10 12))]) hx hb dL_lit_29 hl (by decide) rfl (fun ls hl => ?_)
  exact h H _ ls hh (lv_sub hl [2, 3, 4, 6, 8, 9, 10, 11, 1, 0] rfl)
end

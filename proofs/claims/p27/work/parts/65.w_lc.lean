section
variable {D : va_G} {ad : Nat → Nat → Nat} {cI cJ cF : ClassId}
set_option maxHeartbeats 4000000 in
set_option maxRecDepth 100000 in
theorem ok_L_make (l : Launch) (hinj : hInj ad) (S : hS) (hf : ad 99 1 = 0) (A : hGM) (P : hGM) (hP : S 10 = P) (size : Int) (h_size : hIn size) (hp : p_L_make A P size) : hMiC D ad cI cJ cF l yL_make cL_make 16 (some .int) ({ frames := 6, cells := 8, slots := 64, locals := 166 } : Room) [.ref (ad 10 1), .ref (ad 10 2), .ref (ad 10 3), .ref (ad 10 4), .ref (ad 10 5), .ref (ad 10 6), .ref (ad 10 7), .ref (ad 10 8), .ref (ad 10 9), .ref (ad 10 10), .ref (ad 10 11), .int (hI size)] S (v_L_make A P size) (gset S 10 (m_L_make A P size)) 8 := by
  refine hOf (S := S) l hinj (by decide +kernel) (Nat.le_of_ble_eq_true rfl) (fun p e s m args below meth c E => ?_)
  obtain ⟨hx, hb, hml, hown, hts, hK, hN, -, hr, hlk, hz⟩ := id E
  have hown : s.vm.findClass RL = some m.cls := hown
  have r20 : ∀ (y12 : Int) (y13 : Int) (y14 : Int) (P1 : hGM), hIn y12 → hIn y13 → hIn y14 → ((∀ (i : Nat) (k : Int), i < 100 → hIn (P1 i k)) → ((y14 < 4 → ((0 ≤ y14 ∧ y14 < 4) ∧ (((P1 8 y14) = size → (((P1 8 y14) ≤ 0 → (hAtC D ad cI cJ cF p l e ({ frames := 6, cells := 8, slots := 64, locals := 166 } : Room) s m args below meth c (MQ below (hQi D ad cI cJ cF (v_L_make A P size) (gset S 10 (m_L_make A P size))) args s 8 (8 * 8) (hAd ad)) 16 20 [(0, .ref (ad 10 1)), (1, .ref (ad 10 2)), (2, .ref (ad 10 3)), (3, .ref (ad 10 4)), (4, .ref (ad 10 5)), (5, .ref (ad 10 6)), (6, .ref (ad 10 7)), (7, .ref (ad 10 8)), (8, .ref (ad 10 9)), (9, .ref (ad 10 10)), (10, .ref (ad 10 11)), (11, .int (hI size)), (12, .int (hI y14)), (13, .int (hI (y13 + 0))), (14, .int (hI (y14 + 1)))] (gset S 10 P1) 0)) ∧ (¬ (P1 8 y14) ≤ 0 → (hAtC D ad cI cJ cF p l e ({ frames := 6, cells := 8, slots := 64, locals := 166 } : Room) s m args below meth c (MQ below (hQi D ad cI cJ cF (v_L_make A P size) (gset S 10 (m_L_make A P size))) args s 8 (8 * 8) (hAd ad)) 16 20 [(0, .ref (ad 10 1)), (1, .ref (ad 10 2)), (2, .ref (ad 10 3)), (3, .ref (ad 10 4)), (4, .ref (ad 10 5)), (5, .ref (ad 10 6)), (6, .ref (ad 10 7)), (7, .ref (ad 10 8)), (8, .ref (ad 10 9)), (9, .ref (ad 10 10)), (10, .ref (ad 10 11)), (11, .int (hI size)), (12, .int (hI y14)), (13, .int (hI (y13 + 1))), (14, .int (hI (y14 + 1)))] (gset S 10 P1) 0)))) ∧ (¬ (P1 8 y14) = size → (((P1 8 y14) ≤ 0 → (hAtC D ad cI cJ cF p l e ({ frames := 6, cells := 8, slots := 64, locals := 166 } : Room) s m args below meth c (MQ below (hQi D ad cI cJ cF (v_L_make A P size) (gset S 10 (m_L_make A P size))) args s 8 (8 * 8) (hAd ad)) 16 20 [(0, .ref (ad 10 1)), (1, .ref (ad 10 2)), (2, .ref (ad 10 3)), (3, .ref (ad 10 4)), (4, .ref (ad 10 5)), (5, .ref (ad 10 6)), (6, .ref (ad 10 7)), (7, .ref (ad 10 8)), (8, .ref (ad 10 9)), (9, .ref (ad 10 10)), (10, .ref (ad 10 11)), (11, .int (hI size)), (12, .int (hI y12)), (13, .int (hI (y13 + 0))), (14, .int (hI (y14 + 1)))] (gset S 10 P1) 0)) ∧ (¬ (P1 8 y14) ≤ 0 → (hAtC D ad cI cJ cF p l e ({ frames := 6, cells := 8, slots := 64, locals := 166 } : Room) s m args below meth c (MQ below (hQi D ad cI cJ cF (v_L_make A P size) (gset S 10 (m_L_make A P size))) args s 8 (8 * 8) (hAd ad)) 16 20 [(0, .ref (ad 10 1)), (1, .ref (ad 10 2)), (2, .ref (ad 10 3)), (3, .ref (ad 10 4)), (4, .ref (ad 10 5)), (5, .ref (ad 10 6)), (6, .ref (ad 10 7)), (7, .ref (ad 10 8)), (8, .ref (ad 10 9)), (9, .ref (ad 10 10)), (10, .ref (ad 10 11)), (11, .int (hI size)), (12, .int (hI y12)), (13, .int (hI (y13 + 1))), (14, .int (hI (y14 + 1)))] (gset S 10 P1) 0))))))) ∧ (¬ y14 < 4 → (hAtC D ad cI cJ cF p l e ({ frames := 6, cells := 8, slots := 64, locals := 166 } : Room) s m args below meth c (MQ below (hQi D ad cI cJ cF (v_L_make A P size) (gset S 10 (m_L_make A P size))) args s 8 (8 * 8) (hAd ad)) 16 73 [(0, .ref (ad 10 1)), (1, .ref (ad 10 2)), (2, .ref (ad 10 3)), (3, .ref (ad 10 4)), (4, .ref (ad 10 5)), (5, .ref (ad 10 6)), (6, .ref (ad 10 7)), (7, .ref (ad 10 8)), (8, .ref (ad 10 9)), (9, .ref (ad 10 10)), (10, .ref (ad 10 11)), (11, .int (hI size)), (12, .int (hI y12)), (13, .int (hI y13)), (14, .int (hI y12))] (gset S 10 P1) 0)))) → (hAtC D ad cI cJ cF p l e ({ frames := 6, cells := 8, slots := 64, locals := 166 } : Room) s m args below meth c (MQ below (hQi D ad cI cJ cF (v_L_make A P size) (gset S 10 (m_L_make A P size))) args s 8 (8 * 8) (hAd ad)) 16 20 [(0, .ref (ad 10 1)), (1, .ref (ad 10 2)), (2, .ref (ad 10 3)), (3, .ref (ad 10 4)), (4, .ref (ad 10 5)), (5, .ref (ad 10 6)), (6, .ref (ad 10 7)), (7, .ref (ad 10 8)), (8, .ref (ad 10 9)), (9, .ref (ad 10 10)), (10, .ref (ad 10 11)), (11, .int (hI size)), (12, .int (hI y12)), (13, .int (hI y13)), (14, .int (hI y14))] (gset S 10 P1) 0) := by
    intro y12 y13 y14 P1 h_y12 h_y13 h_y14 h H locs ls hh hl
    have h := h (fun i k hi => hIn_rd hh.2.1 (gset_at _ _ _) hi)
    refine lv_iload hx hb dL_make_20 (lv_at hl 14 rfl) ?_
    refine iv_iconst hx hb dL_make_22 ?_
    refine iv_icmp_ge (tgt := 69) hx hb h_y14 ⟨by decide, by decide⟩ dL_make_23 (by decide) (fun c1 => ?_) (fun c1 => ?_)
    · have h := h.2 c1
      refine lv_iload hx hb dL_make_69 (lv_at hl 12 rfl) ?_
      refine lv_istore (lv' := [(14, .int (hI y12)), (0, .ref (ad 10 1)), (1, .ref (ad 10 2)), (2, .ref (ad 10 3)), (3, .ref (ad 10 4)), (4, .ref (ad 10 5)), (5, .ref (ad 10 6)), (6, .ref (ad 10 7)), (7, .ref (ad 10 8)), (8, .ref (ad 10 9)), (9, .ref (ad 10 10)), (10, .ref (ad 10 11)), (11, .int (hI size)), (12, .int (hI y12)), (13, .int (hI y13))]) hx hb dL_make_71 hl (by decide) rfl (fun ls hl => ?_)
      exact h H _ ls hh (lv_sub hl [1, 2, 3, 4, 5, 6, 7, 8, 9, 10, 11, 12, 13, 14, 0] rfl)
    · have h := h.1 c1
      refine lv_aload hx hb dL_make_26 (lv_at hl 7 rfl) ?_
      refine lv_iload hx hb dL_make_28 (lv_at hl 14 rfl) ?_
      obtain ⟨g2, h⟩ := h
      refine iv_iald hx hb hK hh.1 ia_10_8 g2 (v := (P1 8 y14)) (congrArg (fun z => z 8 y14) (gset_at _ _ _)) dL_make_30 ?_
      have hm3 : hIn (P1 8 y14) := hIn_rd hh.2.1 (gset_at _ _ _) (by decide)
      refine lv_iload hx hb dL_make_31 (lv_at hl 11 rfl) ?_
      refine iv_icmp_ne (tgt := 41) hx hb hm3 h_size dL_make_33 (by decide) (fun c4 => ?_) (fun c4 => ?_)
      · have h := h.2 c4
        refine lv_iload hx hb dL_make_41 (lv_at hl 12 rfl) ?_
        refine lv_istore (lv' := [(12, .int (hI y12)), (0, .ref (ad 10 1)), (1, .ref (ad 10 2)), (2, .ref (ad 10 3)), (3, .ref (ad 10 4)), (4, .ref (ad 10 5)), (5, .ref (ad 10 6)), (6, .ref (ad 10 7)), (7, .ref (ad 10 8)), (8, .ref (ad 10 9)), (9, .ref (ad 10 10)), (10, .ref (ad 10 11)), (11, .int (hI size)), (13, .int (hI y13)), (14, .int (hI y14))]) hx hb dL_make_43 hl (by decide) rfl (fun ls hl => ?_)
        refine lv_iload hx hb dL_make_45 (lv_at hl 13 rfl) ?_
        refine lv_aload hx hb dL_make_47 (lv_at hl 8 rfl) ?_
        refine lv_iload hx hb dL_make_49 (lv_at hl 14 rfl) ?_
        refine iv_iald hx hb hK hh.1 ia_10_8 g2 (v := (P1 8 y14)) (congrArg (fun z => z 8 y14) (gset_at _ _ _)) dL_make_51 ?_
        have hm5 : hIn (P1 8 y14) := hIn_rd hh.2.1 (gset_at _ _ _) (by decide)
        refine iv_if_le (tgt := 59) hx hb hm5 dL_make_52 (by decide) (fun c6 => ?_) (fun c6 => ?_)
        · have h := h.1 c6
          refine iv_iconst hx hb dL_make_59 ?_
          refine iv_iadd hx hb dL_make_60 ?_
          refine lv_istore (lv' := [(13, .int (hI (y13 + 0))), (12, .int (hI y12)), (0, .ref (ad 10 1)), (1, .ref (ad 10 2)), (2, .ref (ad 10 3)), (3, .ref (ad 10 4)), (4, .ref (ad 10 5)), (5, .ref (ad 10 6)), (6, .ref (ad 10 7)), (7, .ref (ad 10 8)), (8, .ref (ad 10 9)), (9, .ref (ad 10 10)), (10, .ref (ad 10 11)), (11, .int (hI size)), (14, .int (hI y14))]) hx hb dL_make_61 hl (by decide) rfl (fun ls hl => ?_)
          refine iv_iinc (lv' := [(14, .int (hI (y14 + 1))), (13, .int (hI (y13 + 0))), (12, .int (hI y12)), (0, .ref (ad 10 1)), (1, .ref (ad 10 2)), (2, .ref (ad 10 3)), (3, .ref (ad 10 4)), (4, .ref (ad 10 5)), (5, .ref (ad 10 6)), (6, .ref (ad 10 7)), (7, .ref (ad 10 8)), (8, .ref (ad 10 9)), (9, .ref (ad 10 10)), (10, .ref (ad 10 11)), (11, .int (hI size))]) hx hb dL_make_63 hl (k := 14) rfl (v := (y14 + 1)) rfl (by decide) rfl (fun ls hl => ?_)
          refine lv_goto (tgt := 20) hx hb dL_make_66 (by decide) ?_
          exact h H _ ls hh (lv_sub hl [3, 4, 5, 6, 7, 8, 9, 10, 11, 12, 13, 14, 2, 1, 0] rfl)
        · have h := h.2 c6
          refine iv_iconst hx hb dL_make_55 ?_
          refine lv_goto (tgt := 60) hx hb dL_make_56 (by decide) ?_
          refine iv_iadd hx hb dL_make_60 ?_
          refine lv_istore (lv' := [(13, .int (hI (y13 + 1))), (12, .int (hI y12)), (0, .ref (ad 10 1)), (1, .ref (ad 10 2)), (2, .ref (ad 10 3)), (3, .ref (ad 10 4)), (4, .ref (ad 10 5)), (5, .ref (ad 10 6)), (6, .ref (ad 10 7)), (7, .ref (ad 10 8)), (8, .ref (ad 10 9)), (9, .ref (ad 10 10)), (10, .ref (ad 10 11)), (11, .int (hI size)), (14, .int (hI y14))]) hx hb dL_make_61 hl (by decide) rfl (fun ls hl => ?_)
          refine iv_iinc (lv' := [(14, .int (hI (y14 + 1))), (13, .int (hI (y13 + 1))), (12, .int (hI y12)), (0, .ref (ad 10 1)), (1, .ref (ad 10 2)), (2, .ref (ad 10 3)), (3, .ref (ad 10 4)), (4, .ref (ad 10 5)), (5, .ref (ad 10 6)), (6, .ref (ad 10 7)), (7, .ref (ad 10 8)), (8, .ref (ad 10 9)), (9, .ref (ad 10 10)), (10, .ref (ad 10 11)), (11, .int (hI size))]) hx hb dL_make_63 hl (k := 14) rfl (v := (y14 + 1)) rfl (by decide) rfl (fun ls hl => ?_)
          refine lv_goto (tgt := 20) hx hb dL_make_66 (by decide) ?_
          exact h H _ ls hh (lv_sub hl [3, 4, 5, 6, 7, 8, 9, 10, 11, 12, 13, 14, 2, 1, 0] rfl)
      · have h := h.1 c4
        refine lv_iload hx hb dL_make_36 (lv_at hl 14 rfl) ?_
        refine lv_goto (tgt := 43) hx hb dL_make_38 (by decide) ?_
        refine lv_istore (lv' := [(12, .int (hI y14)), (0, .ref (ad 10 1)), (1, .ref (ad 10 2)), (2, .ref (ad 10 3)), (3, .ref (ad 10 4)), (4, .ref (ad 10 5)), (5, .ref (ad 10 6)), (6, .ref (ad 10 7)), (7, .ref (ad 10 8)), (8, .ref (ad 10 9)), (9, .ref (ad 10 10)), (10, .ref (ad 10 11)), (11, .int (hI size)), (13, .int (hI y13)), (14, .int (hI y14))]) hx hb dL_make_43 hl (by decide) rfl (fun ls hl => ?_)
        refine lv_iload hx hb dL_make_45 (lv_at hl 13 rfl) ?_
        refine lv_aload hx hb dL_make_47 (lv_at hl 8 rfl) ?_
        refine lv_iload hx hb dL_make_49 (lv_at hl 14 rfl) ?_
        refine iv_iald hx hb hK hh.1 ia_10_8 g2 (v := (P1 8 y14)) (congrArg (fun z => z 8 y14) (gset_at _ _ _)) dL_make_51 ?_
        have hm7 : hIn (P1 8 y14) := hIn_rd hh.2.1 (gset_at _ _ _) (by decide)
        refine iv_if_le (tgt := 59) hx hb hm7 dL_make_52 (by decide) (fun c8 => ?_) (fun c8 => ?_)
        · have h := h.1 c8
          refine iv_iconst hx hb dL_make_59 ?_
          refine iv_iadd hx hb dL_make_60 ?_
          refine lv_istore (lv' := [(13, .int (hI (y13 + 0))), (12, .int (hI y14)), (0, .ref (ad 10 1)), (1, .ref (ad 10 2)), (2, .ref (ad 10 3)), (3, .ref (ad 10 4)), (4, .ref (ad 10 5)), (5, .ref (ad 10 6)), (6, .ref (ad 10 7)), (7, .ref (ad 10 8)), (8, .ref (ad 10 9)), (9, .ref (ad 10 10)), (10, .ref (ad 10 11)), (11, .int (hI size)), (14, .int (hI y14))]) hx hb dL_make_61 hl (by decide) rfl (fun ls hl => ?_)
          refine iv_iinc (lv' := [(14, .int (hI (y14 + 1))), (13, .int (hI (y13 + 0))), (12, .int (hI y14)), (0, .ref (ad 10 1)), (1, .ref (ad 10 2)), (2, .ref (ad 10 3)), (3, .ref (ad 10 4)), (4, .ref (ad 10 5)), (5, .ref (ad 10 6)), (6, .ref (ad 10 7)), (7, .ref (ad 10 8)), (8, .ref (ad 10 9)), (9, .ref (ad 10 10)), (10, .ref (ad 10 11)), (11, .int (hI size))]) hx hb dL_make_63 hl (k := 14) rfl (v := (y14 + 1)) rfl (by decide) rfl (fun ls hl => ?_)
          refine lv_goto (tgt := 20) hx hb dL_make_66 (by decide) ?_
          exact h H _ ls hh (lv_sub hl [3, 4, 5, 6, 7, 8, 9, 10, 11, 12, 13, 14, 2, 1, 0] rfl)
        · have h := h.2 c8
          refine iv_iconst hx hb dL_make_55 ?_
          refine lv_goto (tgt := 60) hx hb dL_make_56 (by decide) ?_
          refine iv_iadd hx hb dL_make_60 ?_
          refine lv_istore (lv' := [(13, .int (hI (y13 + 1))), (12, .int (hI y14)), (0, .ref (ad 10 1)), (1, .ref (ad 10 2)), (2, .ref (ad 10 3)), (3, .ref (ad 10 4)), (4, .ref (ad 10 5)), (5, .ref (ad 10 6)), (6, .ref (ad 10 7)), (7, .ref (ad 10 8)), (8, .ref (ad 10 9)), (9, .ref (ad 10 10)), (10, .ref (ad 10 11)), (11, .int (hI size)), (14, .int (hI y14))]) hx hb dL_make_61 hl (by decide) rfl (fun ls hl => ?_)
          refine iv_iinc (lv' := [(14, .int (hI (y14 + 1))), (13, .int (hI (y13 + 1))), (12, .int (hI y14)), (0, .ref (ad 10 1)), (1, .ref (ad 10 2)), (2, .ref (ad 10 3)), (3, .ref (ad 10 4)), (4, .ref (ad 10 5)), (5, .ref (ad 10 6)), (6, .ref (ad 10 7)), (7, .ref (ad 10 8)), (8, .ref (ad 10 9)), (9, .ref (ad 10 10)), (10, .ref (ad 10 11)), (11, .int (hI size))]) hx hb dL_make_63 hl (k := 14) rfl (v := (y14 + 1)) rfl (by decide) rfl (fun ls hl => ?_)
          refine lv_goto (tgt := 20) hx hb dL_make_66 (by decide) ?_
          exact h H _ ls hh (lv_sub hl [3, 4, 5, 6, 7, 8, 9, 10, 11, 12, 13, 14, 2, 1, 0] rfl)
  have r73 : ∀ (y12 : Int) (y13 : Int) (y14 : Int) (P1 : hGM), hIn y12 → hIn y13 → hIn y14 → ((∀ (i : Nat) (k : Int), i < 100 → hIn (P1 i k)) → ((y14 < 3 → ((0 ≤ (y14 + 1) ∧ (y14 + 1) < 4) ∧ ((0 ≤ y14 ∧ y14 < 4) ∧ (hAtC D ad cI cJ cF p l e ({ frames := 6, cells := 8, slots := 64, locals := 166 } : Room) s m args below meth c (MQ below (hQi D ad cI cJ cF (v_L_make A P size) (gset S 10 (m_L_make A P size))) args s 8 (8 * 8) (hAd ad)) 16 106 [(0, .ref (ad 10 1)), (1, .ref (ad 10 2)), (2, .ref (ad 10 3)), (3, .ref (ad 10 4)), (4, .ref (ad 10 5)), (5, .ref (ad 10 6)), (6, .ref (ad 10 7)), (7, .ref (ad 10 8)), (8, .ref (ad 10 9)), (9, .ref (ad 10 10)), (10, .ref (ad 10 11)), (11, .int (hI size)), (12, .int (hI y12)), (13, .int (hI y13)), (14, .int (hI y14)), (15, .int (hI 0))] (gset S 10 (aset (aset P1 8 y14 (P1 8 (y14 + 1))) 9 y14 ((aset P1 8 y14 (P1 8 (y14 + 1))) 9 (y14 + 1)))) 0)))) ∧ (¬ y14 < 3 → ((y12 < 4 → (hAtC D ad cI cJ cF p l e ({ frames := 6, cells := 8, slots := 64, locals := 166 } : Room) s m args below meth c (MQ below (hQi D ad cI cJ cF (v_L_make A P size) (gset S 10 (m_L_make A P size))) args s 8 (8 * 8) (hAd ad)) 16 192 [(0, .ref (ad 10 1)), (1, .ref (ad 10 2)), (2, .ref (ad 10 3)), (3, .ref (ad 10 4)), (4, .ref (ad 10 5)), (5, .ref (ad 10 6)), (6, .ref (ad 10 7)), (7, .ref (ad 10 8)), (8, .ref (ad 10 9)), (9, .ref (ad 10 10)), (10, .ref (ad 10 11)), (11, .int (hI size)), (14, .int (hI (y13 - 1)))] (gset S 10 P1) 0)) ∧ (¬ y12 < 4 → (hAtC D ad cI cJ cF p l e ({ frames := 6, cells := 8, slots := 64, locals := 166 } : Room) s m args below meth c (MQ below (hQi D ad cI cJ cF (v_L_make A P size) (gset S 10 (m_L_make A P size))) args s 8 (8 * 8) (hAd ad)) 16 192 [(0, .ref (ad 10 1)), (1, .ref (ad 10 2)), (2, .ref (ad 10 3)), (3, .ref (ad 10 4)), (4, .ref (ad 10 5)), (5, .ref (ad 10 6)), (6, .ref (ad 10 7)), (7, .ref (ad 10 8)), (8, .ref (ad 10 9)), (9, .ref (ad 10 10)), (10, .ref (ad 10 11)), (11, .int (hI size)), (14, .int (hI y13))] (gset S 10 P1) 0)))))) → (hAtC D ad cI cJ cF p l e ({ frames := 6, cells := 8, slots := 64, locals := 166 } : Room) s m args below meth c (MQ below (hQi D ad cI cJ cF (v_L_make A P size) (gset S 10 (m_L_make A P size))) args s 8 (8 * 8) (hAd ad)) 16 73 [(0, .ref (ad 10 1)), (1, .ref (ad 10 2)), (2, .ref (ad 10 3)), (3, .ref (ad 10 4)), (4, .ref (ad 10 5)), (5, .ref (ad 10 6)), (6, .ref (ad 10 7)), (7, .ref (ad 10 8)), (8, .ref (ad 10 9)), (9, .ref (ad 10 10)), (10, .ref (ad 10 11)), (11, .int (hI size)), (12, .int (hI y12)), (13, .int (hI y13)), (14, .int (hI y14))] (gset S 10 P1) 0) := by
    intro y12 y13 y14 P1 h_y12 h_y13 h_y14 h H locs ls hh hl
    have h := h (fun i k hi => hIn_rd hh.2.1 (gset_at _ _ _) hi)
    refine lv_iload hx hb dL_make_73 (lv_at hl 14 rfl) ?_
    refine iv_iconst hx hb dL_make_75 ?_
    refine iv_icmp_ge (tgt := 175) hx hb h_y14 ⟨by decide, by decide⟩ dL_make_76 (by decide) (fun c9 => ?_) (fun c9 => ?_)
    · have h := h.2 c9
      refine lv_iload hx hb dL_make_175 (lv_at hl 12 rfl) ?_
      refine iv_iconst hx hb dL_make_177 ?_
      refine iv_icmp_ge (tgt := 188) hx hb h_y12 ⟨by decide, by decide⟩ dL_make_178 (by decide) (fun c10 => ?_) (fun c10 => ?_)
      · have h := h.2 c10
        refine lv_iload hx hb dL_make_188 (lv_at hl 13 rfl) ?_
        refine lv_istore (lv' := [(14, .int (hI y13)), (0, .ref (ad 10 1)), (1, .ref (ad 10 2)), (2, .ref (ad 10 3)), (3, .ref (ad 10 4)), (4, .ref (ad 10 5)), (5, .ref (ad 10 6)), (6, .ref (ad 10 7)), (7, .ref (ad 10 8)), (8, .ref (ad 10 9)), (9, .ref (ad 10 10)), (10, .ref (ad 10 11)), (11, .int (hI size)), (12, .int (hI y12)), (13, .int (hI y13))]) hx hb dL_make_190 hl (by decide) rfl (fun ls hl => ?_)
        exact h H _ ls hh (lv_sub hl [1, 2, 3, 4, 5, 6, 7, 8, 9, 10, 11, 12, 0] rfl)
      · have h := h.1 c10
        refine lv_iload hx hb dL_make_181 (lv_at hl 13 rfl) ?_
        refine iv_iconst hx hb dL_make_183 ?_
        refine iv_isub hx hb dL_make_184 ?_
        refine lv_goto (tgt := 190) hx hb dL_make_185 (by decide) ?_
        refine lv_istore (lv' := [(14, .int (hI (y13 - 1))), (0, .ref (ad 10 1)), (1, .ref (ad 10 2)), (2, .ref (ad 10 3)), (3, .ref (ad 10 4)), (4, .ref (ad 10 5)), (5, .ref (ad 10 6)), (6, .ref (ad 10 7)), (7, .ref (ad 10 8)), (8, .ref (ad 10 9)), (9, .ref (ad 10 10)), (10, .ref (ad 10 11)), (11, .int (hI size)), (12, .int (hI y12)), (13, .int (hI y13))]) hx hb dL_make_190 hl (by decide) rfl (fun ls hl => ?_)
        exact h H _ ls hh (lv_sub hl [1, 2, 3, 4, 5, 6, 7, 8, 9, 10, 11, 12, 0] rfl)
    · have h := h.1 c9
      refine lv_aload hx hb dL_make_79 (lv_at hl 7 rfl) ?_
      refine lv_iload hx hb dL_make_81 (lv_at hl 14 rfl) ?_
      refine lv_aload hx hb dL_make_83 (lv_at hl 7 rfl) ?_
      refine lv_iload hx hb dL_make_85 (lv_at hl 14 rfl) ?_
      refine iv_iconst hx hb dL_make_87 ?_
      refine iv_iadd hx hb dL_make_88 ?_
      obtain ⟨g11, h⟩ := h
      refine iv_iald hx hb hK hh.1 ia_10_8 g11 (v := (P1 8 (y14 + 1))) (congrArg (fun z => z 8 (y14 + 1)) (gset_at _ _ _)) dL_make_89 ?_
      have hm12 : hIn (P1 8 (y14 + 1)) := hIn_rd hh.2.1 (gset_at _ _ _) (by decide)
      obtain ⟨g13, h⟩ := h
      refine iv_iast (S' := (gset S 10 (aset P1 8 y14 (P1 8 (y14 + 1))))) hx hb hK hinj hh ia_10_8 g13 hm12 (by rw [show (gset S 10 P1) 10 = P1 from (gset_at _ _ _)]; exact (gset_gset _ _ _ _)) dL_make_90 (fun H locs hh => ?_)
      refine lv_aload hx hb dL_make_91 (lv_at hl 8 rfl) ?_
      refine lv_iload hx hb dL_make_93 (lv_at hl 14 rfl) ?_
      refine lv_aload hx hb dL_make_95 (lv_at hl 8 rfl) ?_
      refine lv_iload hx hb dL_make_97 (lv_at hl 14 rfl) ?_
      refine iv_iconst hx hb dL_make_99 ?_
      refine iv_iadd hx hb dL_make_100 ?_
      refine iv_iald hx hb hK hh.1 ia_10_9 g11 (v := ((aset P1 8 y14 (P1 8 (y14 + 1))) 9 (y14 + 1))) (congrArg (fun z => z 9 (y14 + 1)) (gset_at _ _ _)) dL_make_101 ?_
      have hm14 : hIn ((aset P1 8 y14 (P1 8 (y14 + 1))) 9 (y14 + 1)) := hIn_rd hh.2.1 (gset_at _ _ _) (by decide)
      refine iv_iast (S' := (gset S 10 (aset (aset P1 8 y14 (P1 8 (y14 + 1))) 9 y14 ((aset P1 8 y14 (P1 8 (y14 + 1))) 9 (y14 + 1))))) hx hb hK hinj hh ia_10_9 g13 hm14 (by rw [show (gset S 10 (aset P1 8 y14 (P1 8 (y14 + 1)))) 10 = (aset P1 8 y14 (P1 8 (y14 + 1))) from (gset_at _ _ _)]; exact (gset_gset _ _ _ _)) dL_make_102 (fun H locs hh => ?_)
      refine iv_iconst hx hb dL_make_103 ?_
      refine lv_istore (lv' := [(15, .int (hI 0)), (0, .ref (ad 10 1)), (1, .ref (ad 10 2)), (2, .ref (ad 10 3)), (3, .ref (ad 10 4)), (4, .ref (ad 10 5)), (5, .ref (ad 10 6)), (6, .ref (ad 10 7)), (7, .ref (ad 10 8)), (8, .ref (ad 10 9)), (9, .ref (ad 10 10)), (10, .ref (ad 10 11)), (11, .int (hI size)), (12, .int (hI y12)), (13, .int (hI y13)), (14, .int (hI y14))]) hx hb dL_make_104 hl (by decide) rfl (fun ls hl => ?_)
      exact h H _ ls hh (lv_sub hl [1, 2, 3, 4, 5, 6, 7, 8, 9, 10, 11, 12, 13, 14, 15, 0] rfl)
  have r106 : ∀ (y12 : Int) (y13 : Int) (y14 : Int) (y15 : Int) (P1 : hGM), hIn y12 → hIn y13 → hIn y14 → hIn y15 → ((∀ (i : Nat) (k : Int), i < 100 → hIn (P1 i k)) → ((y15 < 8 → ((0 ≤ (((8 * y14) + 8) + y15) ∧ (((8 * y14) + 8) + y15) < 32) ∧ ((0 ≤ ((8 * y14) + y15) ∧ ((8 * y14) + y15) < 32) ∧ (hAtC D ad cI cJ cF p l e ({ frames := 6, cells := 8, slots := 64, locals := 166 } : Room) s m args below meth c (MQ below (hQi D ad cI cJ cF (v_L_make A P size) (gset S 10 (m_L_make A P size))) args s 8 (8 * 8) (hAd ad)) 16 106 [(0, .ref (ad 10 1)), (1, .ref (ad 10 2)), (2, .ref (ad 10 3)), (3, .ref (ad 10 4)), (4, .ref (ad 10 5)), (5, .ref (ad 10 6)), (6, .ref (ad 10 7)), (7, .ref (ad 10 8)), (8, .ref (ad 10 9)), (9, .ref (ad 10 10)), (10, .ref (ad 10 11)), (11, .int (hI size)), (12, .int (hI y12)), (13, .int (hI y13)), (14, .int (hI y14)), (15, .int (hI (y15 + 1)))] (gset S 10 (aset (aset P1 10 ((8 * y14) + y15) (P1 10 (((8 * y14) + 8) + y15))) 111 ((8 * y14) + y15) ((aset P1 10 ((8 * y14) + y15) (P1 10 (((8 * y14) + 8) + y15))) 111 (((8 * y14) + 8) + y15)))) 0)))) ∧ (¬ y15 < 8 → (hAtC D ad cI cJ cF p l e ({ frames := 6, cells := 8, slots := 64, locals := 166 } : Room) s m args below meth c (MQ below (hQi D ad cI cJ cF (v_L_make A P size) (gset S 10 (m_L_make A P size))) args s 8 (8 * 8) (hAd ad)) 16 73 [(0, .ref (ad 10 1)), (1, .ref (ad 10 2)), (2, .ref (ad 10 3)), (3, .ref (ad 10 4)), (4, .ref (ad 10 5)), (5, .ref (ad 10 6)), (6, .ref (ad 10 7)), (7, .ref (ad 10 8)), (8, .ref (ad 10 9)), (9, .ref (ad 10 10)), (10, .ref (ad 10 11)), (11, .int (hI size)), (12, .int (hI y12)), (13, .int (hI y13)), (14, .int (hI (y14 + 1)))] (gset S 10 P1) 0)))) → (hAtC D ad cI cJ cF p l e ({ frames := 6, cells := 8, slots := 64, locals := 166 } : Room) s m args below meth c (MQ below (hQi D ad cI cJ cF (v_L_make A P size) (gset S 10 (m_L_make A P size))) args s 8 (8 * 8) (hAd ad)) 16 106 [(0, .ref (ad 10 1)), (1, .ref (ad 10 2)), (2, .ref (ad 10 3)), (3, .ref (ad 10 4)), (4, .ref (ad 10 5)), (5, .ref (ad 10 6)), (6, .ref (ad 10 7)), (7, .ref (ad 10 8)), (8, .ref (ad 10 9)), (9, .ref (ad 10 10)), (10, .ref (ad 10 11)), (11, .int (hI size)), (12, .int (hI y12)), (13, .int (hI y13)), (14, .int (hI y14)), (15, .int (hI y15))] (gset S 10 P1) 0) := by
    intro y12 y13 y14 y15 P1 h_y12 h_y13 h_y14 h_y15 h H locs ls hh hl
    have h := h (fun i k hi => hIn_rd hh.2.1 (gset_at _ _ _) hi)
    refine lv_iload hx hb dL_make_106 (lv_at hl 15 rfl) ?_
    refine lv_bipush (v := hI 8) hx hb dL_make_108 (by decide) ?_
    refine iv_icmp_ge (tgt := 169) hx hb h_y15 ⟨by decide, by decide⟩ dL_make_110 (by decide) (fun c15 => ?_) (fun c15 => ?_)
    · have h := h.2 c15
      refine iv_iinc (lv' := [(14, .int (hI (y14 + 1))), (0, .ref (ad 10 1)), (1, .ref (ad 10 2)), (2, .ref (ad 10 3)), (3, .ref (ad 10 4)), (4, .ref (ad 10 5)), (5, .ref (ad 10 6)), (6, .ref (ad 10 7)), (7, .ref (ad 10 8)), (8, .ref (ad 10 9)), (9, .ref (ad 10 10)), (10, .ref (ad 10 11)), (11, .int (hI size)), (12, .int (hI y12)), (13, .int (hI y13)), (15, .int (hI y15))]) hx hb dL_make_169 hl (k := 14) rfl (v := (y14 + 1)) rfl (by decide) rfl (fun ls hl => ?_)
      refine lv_goto (tgt := 73) hx hb dL_make_172 (by decide) ?_
      exact h H _ ls hh (lv_sub hl [1, 2, 3, 4, 5, 6, 7, 8, 9, 10, 11, 12, 13, 14, 0] rfl)
    · have h := h.1 c15
      refine lv_aload hx hb dL_make_113 (lv_at hl 9 rfl) ?_
      refine lv_bipush (v := hI 8) hx hb dL_make_115 (by decide) ?_
      refine lv_iload hx hb dL_make_117 (lv_at hl 14 rfl) ?_
      refine iv_imul hx hb dL_make_119 ?_
      refine lv_iload hx hb dL_make_120 (lv_at hl 15 rfl) ?_
      refine iv_iadd hx hb dL_make_122 ?_
      refine lv_aload hx hb dL_make_123 (lv_at hl 9 rfl) ?_
      refine lv_bipush (v := hI 8) hx hb dL_make_125 (by decide) ?_
      refine lv_iload hx hb dL_make_127 (lv_at hl 14 rfl) ?_
      refine iv_imul hx hb dL_make_129 ?_
      refine lv_bipush (v := hI 8) hx hb dL_make_130 (by decide) ?_
      refine iv_iadd hx hb dL_make_132 ?_
      refine lv_iload hx hb dL_make_133 (lv_at hl 15 rfl) ?_
      refine iv_iadd hx hb dL_make_135 ?_
      obtain ⟨g16, h⟩ := h
      refine iv_iald hx hb hK hh.1 ia_10_10 g16 (v := (P1 10 (((8 * y14) + 8) + y15))) (congrArg (fun z => z 10 (((8 * y14) + 8) + y15)) (gset_at _ _ _)) dL_make_136 ?_
      have hm17 : hIn (P1 10 (((8 * y14) + 8) + y15)) := hIn_rd hh.2.1 (gset_at _ _ _) (by decide)
      obtain ⟨g18, h⟩ := h
      refine iv_iast (S' := (gset S 10 (aset P1 10 ((8 * y14) + y15) (P1 10 (((8 * y14) + 8) + y15))))) hx hb hK hinj hh ia_10_10 g18 hm17 (by rw [show (gset S 10 P1) 10 = P1 from (gset_at _ _ _)]; exact (gset_gset _ _ _ _)) dL_make_137 (fun H locs hh => ?_)
      refine lv_aload hx hb dL_make_138 (lv_at hl 10 rfl) ?_
      refine lv_bipush (v := hI 8) hx hb dL_make_140 (by decide) ?_
      refine lv_iload hx hb dL_make_142 (lv_at hl 14 rfl) ?_
      refine iv_imul hx hb dL_make_144 ?_
      refine lv_iload hx hb dL_make_145 (lv_at hl 15 rfl) ?_
      refine iv_iadd hx hb dL_make_147 ?_
      refine lv_aload hx hb dL_make_148 (lv_at hl 10 rfl) ?_
      refine lv_bipush (v := hI 8) hx hb dL_make_150 (by decide) ?_
      refine lv_iload hx hb dL_make_152 (lv_at hl 14 rfl) ?_
      refine iv_imul hx hb dL_make_154 ?_
      refine lv_bipush (v := hI 8) hx hb dL_make_155 (by decide) ?_
      refine iv_iadd hx hb dL_make_157 ?_
      refine lv_iload hx hb dL_make_158 (lv_at hl 15 rfl) ?_
      refine iv_iadd hx hb dL_make_160 ?_
      refine iv_laldL hx hb hK hh.1  g16 (v := ((aset P1 10 ((8 * y14) + y15) (P1 10 (((8 * y14) + 8) + y15))) 111 (((8 * y14) + 8) + y15))) (congrArg (fun z => z 111 (((8 * y14) + 8) + y15)) (gset_at _ _ _)) dL_make_161 ?_
      refine iv_lastL (S' := (gset S 10 (aset (aset P1 10 ((8 * y14) + y15) (P1 10 (((8 * y14) + 8) + y15))) 111 ((8 * y14) + y15) ((aset P1 10 ((8 * y14) + y15) (P1 10 (((8 * y14) + 8) + y15))) 111 (((8 * y14) + 8) + y15))))) hx hb hK hinj hh  g18 (by rw [show (gset S 10 (aset P1 10 ((8 * y14) + y15) (P1 10 (((8 * y14) + 8) + y15)))) 10 = (aset P1 10 ((8 * y14) + y15) (P1 10 (((8 * y14) + 8) + y15))) from (gset_at _ _ _)]; exact (gset_gset _ _ _ _)) dL_make_162 (fun H locs hh => ?_)
      refine iv_iinc (lv' := [(15, .int (hI (y15 + 1))), (0, .ref (ad 10 1)), (1, .ref (ad 10 2)), (2, .ref (ad 10 3)), (3, .ref (ad 10 4)), (4, .ref (ad 10 5)), (5, .ref (ad 10 6)), (6, .ref (ad 10 7)), (7, .ref (ad 10 8)), (8, .ref (ad 10 9)), (9, .ref (ad 10 10)), (10, .ref (ad 10 11)), (11, .int (hI size)), (12, .int (hI y12)), (13, .int (hI y13)), (14, .int (hI y14))]) hx hb dL_make_163 hl (k := 15) rfl (v := (y15 + 1)) rfl (by decide) rfl (fun ls hl => ?_)
      refine lv_goto (tgt := 106) hx hb dL_make_166 (by decide) ?_
      exact h H _ ls hh (lv_sub hl [1, 2, 3, 4, 5, 6, 7, 8, 9, 10, 11, 12, 13, 14, 15, 0] rfl)
  have r192 : ∀ (y14 : Int) (P1 : hGM), hIn y14 → ((∀ (i : Nat) (k : Int), i < 100 → hIn (P1 i k)) → ((0 ≤ y14 ∧ y14 < 4) ∧ (0 ≤ ((0 : Int).toNat) ∧ (hAtC D ad cI cJ cF p l e ({ frames := 6, cells := 8, slots := 64, locals := 166 } : Room) s m args below meth c (MQ below (hQi D ad cI cJ cF (v_L_make A P size) (gset S 10 (m_L_make A P size))) args s 8 (8 * 8) (hAd ad)) 16 210 [(0, .ref (ad 10 1)), (1, .ref (ad 10 2)), (2, .ref (ad 10 3)), (3, .ref (ad 10 4)), (4, .ref (ad 10 5)), (5, .ref (ad 10 6)), (6, .ref (ad 10 7)), (9, .ref (ad 10 10)), (10, .ref (ad 10 11)), (11, .int (hI size)), (14, .int (hI y14)), (15, .int (hI 0))] (gset S 10 (aset (aset P1 8 y14 size) 9 y14 ((aset P1 8 y14 size) 1 0))) ((0 : Int).toNat))))) → (hAtC D ad cI cJ cF p l e ({ frames := 6, cells := 8, slots := 64, locals := 166 } : Room) s m args below meth c (MQ below (hQi D ad cI cJ cF (v_L_make A P size) (gset S 10 (m_L_make A P size))) args s 8 (8 * 8) (hAd ad)) 16 192 [(0, .ref (ad 10 1)), (1, .ref (ad 10 2)), (2, .ref (ad 10 3)), (3, .ref (ad 10 4)), (4, .ref (ad 10 5)), (5, .ref (ad 10 6)), (6, .ref (ad 10 7)), (7, .ref (ad 10 8)), (8, .ref (ad 10 9)), (9, .ref (ad 10 10)), (10, .ref (ad 10 11)), (11, .int (hI size)), (14, .int (hI y14))] (gset S 10 P1) 0) := by
    intro y14 P1 h_y14 h H locs ls hh hl
    have h := h (fun i k hi => hIn_rd hh.2.1 (gset_at _ _ _) hi)
    refine lv_aload hx hb dL_make_192 (lv_at hl 7 rfl) ?_
    refine lv_iload hx hb dL_make_194 (lv_at hl 12 rfl) ?_
    refine lv_iload hx hb dL_make_196 (lv_at hl 11 rfl) ?_
    obtain ⟨g19, h⟩ := h
    refine iv_iast (S' := (gset S 10 (aset P1 8 y14 size))) hx hb hK hinj hh ia_10_8 g19 h_size (by rw [show (gset S 10 P1) 10 = P1 from (gset_at _ _ _)]; exact (gset_gset _ _ _ _)) dL_make_198 (fun H locs hh => ?_)
    refine lv_aload hx hb dL_make_199 (lv_at hl 8 rfl) ?_
    refine lv_iload hx hb dL_make_201 (lv_at hl 12 rfl) ?_
    refine lv_aload_n hx hb dL_make_203 rfl (lv_at hl 0 rfl) ?_
    refine iv_iconst hx hb dL_make_204 ?_
    refine iv_iald hx hb hK hh.1 ia_10_1 ⟨by decide, by decide⟩ (v := ((aset P1 8 y14 size) 1 0)) (congrArg (fun z => z 1 0) (gset_at _ _ _)) dL_make_205 ?_
    have hm20 : hIn ((aset P1 8 y14 size) 1 0) := hIn_rd hh.2.1 (gset_at _ _ _) (by decide)
    refine iv_iast (S' := (gset S 10 (aset (aset P1 8 y14 size) 9 y14 ((aset P1 8 y14 size) 1 0)))) hx hb hK hinj hh ia_10_9 g19 hm20 (by rw [show (gset S 10 (aset P1 8 y14 size)) 10 = (aset P1 8 y14 size) from (gset_at _ _ _)]; exact (gset_gset _ _ _ _)) dL_make_206 (fun H locs hh => ?_)
    refine iv_iconst hx hb dL_make_207 ?_
    refine lv_istore (lv' := [(15, .int (hI 0)), (0, .ref (ad 10 1)), (1, .ref (ad 10 2)), (2, .ref (ad 10 3)), (3, .ref (ad 10 4)), (4, .ref (ad 10 5)), (5, .ref (ad 10 6)), (6, .ref (ad 10 7)), (7, .ref (ad 10 8)), (8, .ref (ad 10 9)), (9, .ref (ad 10 10)), (10, .ref (ad 10 11)), (11, .int (hI size)), (14, .int (hI y14))]) hx hb dL_make_208 hl (by decide) rfl (fun ls hl => ?_)
    obtain ⟨g21, h⟩ := h
    refine W.widen g21 (Nat.mul_le_mul_left 8 g21) ?_
    exact h H _ ls hh (lv_sub hl [1, 2, 3, 4, 5, 6, 7, 10, 11, 12, 13, 0] rfl)
  have r210 : ∀ (y14 : Int) (y15 : Int) (P1 : hGM), hIn y14 → hIn y15 → ((∀ (i : Nat) (k : Int), i < 100 → hIn (P1 i k)) → ((y15 < 8 → ((y15 < (P1 1 0) → (p_L_columns A P1 y15 size ∧ (((y15 : Int).toNat) ≤ 8 ∧ ((0 ≤ ((8 * y14) + y15) ∧ ((8 * y14) + y15) < 32) ∧ ((y15 < ((aset P1 10 ((8 * y14) + y15) (v_L_columns A P1 y15 size)) 1 0) → (p_L_lit A (aset P1 10 ((8 * y14) + y15) (v_L_columns A P1 y15 size)) y15 size ∧ ((((y15 : Int).toNat) + 1) ≤ 8 ∧ ((((y15 : Int).toNat) + 1) ≤ (((y15 + 1) : Int).toNat) ∧ (hAtC D ad cI cJ cF p l e ({ frames := 6, cells := 8, slots := 64, locals := 166 } : Room) s m args below meth c (MQ below (hQi D ad cI cJ cF (v_L_make A P size) (gset S 10 (m_L_make A P size))) args s 8 (8 * 8) (hAd ad)) 16 210 [(0, .ref (ad 10 1)), (1, .ref (ad 10 2)), (2, .ref (ad 10 3)), (3, .ref (ad 10 4)), (4, .ref (ad 10 5)), (5, .ref (ad 10 6)), (6, .ref (ad 10 7)), (9, .ref (ad 10 10)), (10, .ref (ad 10 11)), (11, .int (hI size)), (14, .int (hI y14)), (15, .int (hI (y15 + 1)))] (gset S 10 (aset (aset P1 10 ((8 * y14) + y15) (v_L_columns A P1 y15 size)) 111 ((8 * y14) + y15) (v_L_lit A (aset P1 10 ((8 * y14) + y15) (v_L_columns A P1 y15 size)) y15 size))) (((y15 + 1) : Int).toNat)))))) ∧ (¬ y15 < ((aset P1 10 ((8 * y14) + y15) (v_L_columns A P1 y15 size)) 1 0) → (((y15 : Int).toNat) ≤ (((y15 + 1) : Int).toNat) ∧ (hAtC D ad cI cJ cF p l e ({ frames := 6, cells := 8, slots := 64, locals := 166 } : Room) s m args below meth c (MQ below (hQi D ad cI cJ cF (v_L_make A P size) (gset S 10 (m_L_make A P size))) args s 8 (8 * 8) (hAd ad)) 16 210 [(0, .ref (ad 10 1)), (1, .ref (ad 10 2)), (2, .ref (ad 10 3)), (3, .ref (ad 10 4)), (4, .ref (ad 10 5)), (5, .ref (ad 10 6)), (6, .ref (ad 10 7)), (9, .ref (ad 10 10)), (10, .ref (ad 10 11)), (11, .int (hI size)), (14, .int (hI y14)), (15, .int (hI (y15 + 1)))] (gset S 10 (aset (aset P1 10 ((8 * y14) + y15) (v_L_columns A P1 y15 size)) 111 ((8 * y14) + y15) 0)) (((y15 + 1) : Int).toNat))))))))) ∧ (¬ y15 < (P1 1 0) → ((0 ≤ ((8 * y14) + y15) ∧ ((8 * y14) + y15) < 32) ∧ ((y15 < ((aset P1 10 ((8 * y14) + y15) 0) 1 0) → (p_L_lit A (aset P1 10 ((8 * y14) + y15) 0) y15 size ∧ ((((y15 : Int).toNat) + 1) ≤ 8 ∧ ((((y15 : Int).toNat) + 1) ≤ (((y15 + 1) : Int).toNat) ∧ (hAtC D ad cI cJ cF p l e ({ frames := 6, cells := 8, slots := 64, locals := 166 } : Room) s m args below meth c (MQ below (hQi D ad cI cJ cF (v_L_make A P size) (gset S 10 (m_L_make A P size))) args s 8 (8 * 8) (hAd ad)) 16 210 [(0, .ref (ad 10 1)), (1, .ref (ad 10 2)), (2, .ref (ad 10 3)), (3, .ref (ad 10 4)), (4, .ref (ad 10 5)), (5, .ref (ad 10 6)), (6, .ref (ad 10 7)), (9, .ref (ad 10 10)), (10, .ref (ad 10 11)), (11, .int (hI size)), (14, .int (hI y14)), (15, .int (hI (y15 + 1)))] (gset S 10 (aset (aset P1 10 ((8 * y14) + y15) 0) 111 ((8 * y14) + y15) (v_L_lit A (aset P1 10 ((8 * y14) + y15) 0) y15 size))) (((y15 + 1) : Int).toNat)))))) ∧ (¬ y15 < ((aset P1 10 ((8 * y14) + y15) 0) 1 0) → (((y15 : Int).toNat) ≤ (((y15 + 1) : Int).toNat) ∧ (hAtC D ad cI cJ cF p l e ({ frames := 6, cells := 8, slots := 64, locals := 166 } : Room) s m args below meth c (MQ below (hQi D ad cI cJ cF (v_L_make A P size) (gset S 10 (m_L_make A P size))) args s 8 (8 * 8) (hAd ad)) 16 210 [(0, .ref (ad 10 1)), (1, .ref (ad 10 2)), (2, .ref (ad 10 3)), (3, .ref (ad 10 4)), (4, .ref (ad 10 5)), (5, .ref (ad 10 6)), (6, .ref (ad 10 7)), (9, .ref (ad 10 10)), (10, .ref (ad 10 11)), (11, .int (hI size)), (14, .int (hI y14)), (15, .int (hI (y15 + 1)))] (gset S 10 (aset (aset P1 10 ((8 * y14) + y15) 0) 111 ((8 * y14) + y15) 0)) (((y15 + 1) : Int).toNat))))))))) ∧ (¬ y15 < 8 → (hIn ((P1 1 3) + 1) ∧ (((y15 : Int).toNat) ≤ 8 ∧ (hIn (y14 + 1) ∧ ((y14 + 1) = v_L_make A P size ∧ (aset P1 1 3 ((P1 1 3) + 1)) = m_L_make A P size))))))) → (hAtC D ad cI cJ cF p l e ({ frames := 6, cells := 8, slots := 64, locals := 166 } : Room) s m args below meth c (MQ below (hQi D ad cI cJ cF (v_L_make A P size) (gset S 10 (m_L_make A P size))) args s 8 (8 * 8) (hAd ad)) 16 210 [(0, .ref (ad 10 1)), (1, .ref (ad 10 2)), (2, .ref (ad 10 3)), (3, .ref (ad 10 4)), (4, .ref (ad 10 5)), (5, .ref (ad 10 6)), (6, .ref (ad 10 7)), (9, .ref (ad 10 10)), (10, .ref (ad 10 11)), (11, .int (hI size)), (14, .int (hI y14)), (15, .int (hI y15))] (gset S 10 P1) ((y15 : Int).toNat)) := by
    intro y14 y15 P1 h_y14 h_y15 h H locs ls hh hl
    have h := h (fun i k hi => hIn_rd hh.2.1 (gset_at _ _ _) hi)
    refine lv_iload hx hb dL_make_210 (lv_at hl 11 rfl) ?_
    refine lv_bipush (v := hI 8) hx hb dL_make_212 (by decide) ?_
    refine iv_icmp_ge (tgt := 294) hx hb h_y15 ⟨by decide, by decide⟩ dL_make_214 (by decide) (fun c22 => ?_) (fun c22 => ?_)
    · have h := h.2 c22
      refine lv_aload_n hx hb dL_make_294 rfl (lv_at hl 0 rfl) ?_
      refine iv_iconst hx hb dL_make_295 ?_
      refine lv_dup2_11 hx hb dL_make_296 rfl rfl ?_
      refine iv_iald hx hb hK hh.1 ia_10_1 ⟨by decide, by decide⟩ (v := (P1 1 3)) (congrArg (fun z => z 1 3) (gset_at _ _ _)) dL_make_297 ?_
      have hm23 : hIn (P1 1 3) := hIn_rd hh.2.1 (gset_at _ _ _) (by decide)
      refine iv_iconst hx hb dL_make_298 ?_
      refine iv_iadd hx hb dL_make_299 ?_
      obtain ⟨g24, h⟩ := h
      refine iv_iast (S' := (gset S 10 (aset P1 1 3 ((P1 1 3) + 1)))) hx hb hK hinj hh ia_10_1 ⟨by decide, by decide⟩ g24 (by rw [show (gset S 10 P1) 10 = P1 from (gset_at _ _ _)]; exact (gset_gset _ _ _ _)) dL_make_300 (fun H locs hh => ?_)
      refine lv_iload hx hb dL_make_301 (lv_at hl 10 rfl) ?_
      refine iv_iconst hx hb dL_make_303 ?_
      refine iv_iadd hx hb dL_make_304 ?_
      obtain ⟨g25, h⟩ := h
      refine W.widen (k := 8) (n := 8 * 8) g25 (Nat.mul_le_mul_left 8 g25) ?_
      obtain ⟨g26, h⟩ := h
      exact iv_iretC E hh h.1 (by rw [← h.1]; exact g26) (by rw [← h.2]) dL_make_305
    · have h := h.1 c22
      refine lv_aload hx hb dL_make_217 (lv_at hl 7 rfl) ?_
      refine lv_bipush (v := hI 8) hx hb dL_make_219 (by decide) ?_
      refine lv_iload hx hb dL_make_221 (lv_at hl 10 rfl) ?_
      refine iv_imul hx hb dL_make_223 ?_
      refine lv_iload hx hb dL_make_224 (lv_at hl 11 rfl) ?_
      refine iv_iadd hx hb dL_make_226 ?_
      refine lv_iload hx hb dL_make_227 (lv_at hl 11 rfl) ?_
      refine lv_aload_n hx hb dL_make_229 rfl (lv_at hl 0 rfl) ?_
      refine iv_iconst hx hb dL_make_230 ?_
      refine iv_iald hx hb hK hh.1 ia_10_1 ⟨by decide, by decide⟩ (v := (P1 1 0)) (congrArg (fun z => z 1 0) (gset_at _ _ _)) dL_make_231 ?_
      have hm27 : hIn (P1 1 0) := hIn_rd hh.2.1 (gset_at _ _ _) (by decide)
      refine iv_icmp_ge (tgt := 246) hx hb h_y15 hm27 dL_make_232 (by decide) (fun c28 => ?_) (fun c28 => ?_)
      · have h := h.2 c28
        refine iv_iconst hx hb dL_make_246 ?_
        obtain ⟨g29, h⟩ := h
        refine iv_iast (S' := (gset S 10 (aset P1 10 ((8 * y14) + y15) 0))) hx hb hK hinj hh ia_10_10 g29 ⟨by decide, by decide⟩ (by rw [show (gset S 10 P1) 10 = P1 from (gset_at _ _ _)]; exact (gset_gset _ _ _ _)) dL_make_247 (fun H locs hh => ?_)
        refine lv_aload hx hb dL_make_248 (lv_at hl 8 rfl) ?_
        refine lv_bipush (v := hI 8) hx hb dL_make_250 (by decide) ?_
        refine lv_iload hx hb dL_make_252 (lv_at hl 10 rfl) ?_
        refine iv_imul hx hb dL_make_254 ?_
        refine lv_iload hx hb dL_make_255 (lv_at hl 11 rfl) ?_
        refine iv_iadd hx hb dL_make_257 ?_
        refine lv_iload hx hb dL_make_258 (lv_at hl 11 rfl) ?_
        refine lv_aload_n hx hb dL_make_260 rfl (lv_at hl 0 rfl) ?_
        refine iv_iconst hx hb dL_make_261 ?_
        refine iv_iald hx hb hK hh.1 ia_10_1 ⟨by decide, by decide⟩ (v := ((aset P1 10 ((8 * y14) + y15) 0) 1 0)) (congrArg (fun z => z 1 0) (gset_at _ _ _)) dL_make_262 ?_
        have hm30 : hIn ((aset P1 10 ((8 * y14) + y15) 0) 1 0) := hIn_rd hh.2.1 (gset_at _ _ _) (by decide)
        refine iv_icmp_ge (tgt := 286) hx hb h_y15 hm30 dL_make_263 (by decide) (fun c31 => ?_) (fun c31 => ?_)
        · have h := h.2 c31
          refine lv_lconst (v := hJ 0) hx hb dL_make_286 (by decide) ?_
          refine iv_lastL (S' := (gset S 10 (aset (aset P1 10 ((8 * y14) + y15) 0) 111 ((8 * y14) + y15) 0))) hx hb hK hinj hh  g29 (by rw [show (gset S 10 (aset P1 10 ((8 * y14) + y15) 0)) 10 = (aset P1 10 ((8 * y14) + y15) 0) from (gset_at _ _ _)]; exact (gset_gset _ _ _ _)) dL_make_287 (fun H locs hh => ?_)
          refine iv_iinc (lv' := [(15, .int (hI (y15 + 1))), (0, .ref (ad 10 1)), (1, .ref (ad 10 2)), (2, .ref (ad 10 3)), (3, .ref (ad 10 4)), (4, .ref (ad 10 5)), (5, .ref (ad 10 6)), (6, .ref (ad 10 7)), (9, .ref (ad 10 10)), (10, .ref (ad 10 11)), (11, .int (hI size)), (14, .int (hI y14))]) hx hb dL_make_288 hl (k := 11) rfl (v := (y15 + 1)) rfl (by decide) rfl (fun ls hl => ?_)
          refine lv_goto (tgt := 210) hx hb dL_make_291 (by decide) ?_
          obtain ⟨g32, h⟩ := h
          refine W.widen g32 (Nat.mul_le_mul_left 8 g32) ?_
          exact h H _ ls hh (lv_sub hl [1, 2, 3, 4, 5, 6, 7, 8, 9, 10, 11, 0] rfl)
        · have h := h.1 c31
          refine lv_aload_n hx hb dL_make_266 rfl (lv_at hl 0 rfl) ?_
          refine lv_aload_n hx hb dL_make_267 rfl (lv_at hl 1 rfl) ?_
          refine lv_aload_n hx hb dL_make_268 rfl (lv_at hl 2 rfl) ?_
          refine lv_aload_n hx hb dL_make_269 rfl (lv_at hl 3 rfl) ?_
          refine lv_aload hx hb dL_make_270 (lv_at hl 4 rfl) ?_
          refine lv_aload hx hb dL_make_272 (lv_at hl 5 rfl) ?_
          refine lv_aload hx hb dL_make_274 (lv_at hl 6 rfl) ?_
          refine lv_iload hx hb dL_make_276 (lv_at hl 11 rfl) ?_
          refine lv_iload hx hb dL_make_278 (lv_at hl 9 rfl) ?_
          obtain ⟨g33, h⟩ := h
          obtain ⟨g34, h⟩ := h
          refine iv_klC (iv_rSC (mc := 1) (As := [.ref (ad 10 1), .ref (ad 10 2), .ref (ad 10 3), .ref (ad 10 4), .ref (ad 10 5), .ref (ad 10 6), .ref (ad 10 7), .int (hI y15), .int (hI size)]) (rest := [.int (hI ((8 * y14) + y15)), .ref (ad 10 11)]) E hh (ok_L_lit l hinj (gset S 10 (aset P1 10 ((8 * y14) + y15) 0)) hf A (aset P1 10 ((8 * y14) + y15) 0) (gset_at _ _ _) y15 size h_y15 h_size g33) cb_L_lit q2_217 rfl rfl ⟨Nat.le_of_ble_eq_true rfl, Nat.le_of_ble_eq_true rfl⟩ rfl hl.1 rfl (Nat.le_of_ble_eq_true rfl) dL_make_280 (rm8 (k := ((y15 : Int).toNat)) (mc := 1) (K := 8) g34)) hh (fun H locs hh => ?_)
          refine lv_goto (tgt := 287) hx hb dL_make_283 (by decide) ?_
          refine iv_lastL (S' := (gset S 10 (aset (aset P1 10 ((8 * y14) + y15) 0) 111 ((8 * y14) + y15) (v_L_lit A (aset P1 10 ((8 * y14) + y15) 0) y15 size)))) hx hb hK hinj hh  g29 (by rw [show (gset S 10 (aset P1 10 ((8 * y14) + y15) 0)) 10 = (aset P1 10 ((8 * y14) + y15) 0) from (gset_at _ _ _)]; exact (gset_gset _ _ _ _)) dL_make_287 (fun H locs hh => ?_)
          refine iv_iinc (lv' := [(15, .int (hI (y15 + 1))), (0, .ref (ad 10 1)), (1, .ref (ad 10 2)), (2, .ref (ad 10 3)), (3, .ref (ad 10 4)), (4, .ref (ad 10 5)), (5, .ref (ad 10 6)), (6, .ref (ad 10 7)), (9, .ref (ad 10 10)), (10, .ref (ad 10 11)), (11, .int (hI size)), (14, .int (hI y14))]) hx hb dL_make_288 hl (k := 11) rfl (v := (y15 + 1)) rfl (by decide) rfl (fun ls hl => ?_)
          refine lv_goto (tgt := 210) hx hb dL_make_291 (by decide) ?_
          obtain ⟨g35, h⟩ := h
          refine W.widen g35 (Nat.mul_le_mul_left 8 g35) ?_
          exact h H _ ls hh (lv_sub hl [1, 2, 3, 4, 5, 6, 7, 8, 9, 10, 11, 0] rfl)
      · have h := h.1 c28
        refine lv_aload_n hx hb dL_make_235 rfl (lv_at hl 1 rfl) ?_
        refine lv_iload hx hb dL_make_236 (lv_at hl 11 rfl) ?_
        refine lv_iload hx hb dL_make_238 (lv_at hl 9 rfl) ?_
        obtain ⟨g36, h⟩ := h
        obtain ⟨g37, h⟩ := h
        refine iv_ki (iv_rS (As := [.ref (ad 10 2), .int (hI y15), .int (hI size)]) (rest := [.int (hI ((8 * y14) + y15)), .ref (ad 10 10)]) E hh (ok_L_columns l hinj (gset S 10 P1) A P1 (gset_at _ _ _) y15 size h_y15 h_size g36) cb_L_columns q2_211 rfl rfl ⟨Nat.le_of_ble_eq_true rfl, Nat.le_of_ble_eq_true rfl⟩ rfl hl.1 rfl (Nat.le_of_ble_eq_true rfl) dL_make_240 (rk0 (k := ((y15 : Int).toNat)) (K := 8) g37)) hh (fun hc38 H locs hh => ?_)
        refine lv_goto (tgt := 247) hx hb dL_make_243 (by decide) ?_
        obtain ⟨g39, h⟩ := h
        refine iv_iast (S' := (gset S 10 (aset P1 10 ((8 * y14) + y15) (v_L_columns A P1 y15 size)))) hx hb hK hinj hh ia_10_10 g39 hc38 (by rw [show (gset S 10 P1) 10 = P1 from (gset_at _ _ _)]; exact (gset_gset _ _ _ _)) dL_make_247 (fun H locs hh => ?_)
        refine lv_aload hx hb dL_make_248 (lv_at hl 8 rfl) ?_
        refine lv_bipush (v := hI 8) hx hb dL_make_250 (by decide) ?_
        refine lv_iload hx hb dL_make_252 (lv_at hl 10 rfl) ?_
        refine iv_imul hx hb dL_make_254 ?_
        refine lv_iload hx hb dL_make_255 (lv_at hl 11 rfl) ?_
        refine iv_iadd hx hb dL_make_257 ?_
        refine lv_iload hx hb dL_make_258 (lv_at hl 11 rfl) ?_
        refine lv_aload_n hx hb dL_make_260 rfl (lv_at hl 0 rfl) ?_
        refine iv_iconst hx hb dL_make_261 ?_
        refine iv_iald hx hb hK hh.1 ia_10_1 ⟨by decide, by decide⟩ (v := ((aset P1 10 ((8 * y14) + y15) (v_L_columns A P1 y15 size)) 1 0)) (congrArg (fun z => z 1 0) (gset_at _ _ _)) dL_make_262 ?_
        have hm40 : hIn ((aset P1 10 ((8 * y14) + y15) (v_L_columns A P1 y15 size)) 1 0) := hIn_rd hh.2.1 (gset_at _ _ _) (by decide)
        refine iv_icmp_ge (tgt := 286) hx hb h_y15 hm40 dL_make_263 (by decide) (fun c41 => ?_) (fun c41 => ?_)
        · have h := h.2 c41
          refine lv_lconst (v := hJ 0) hx hb dL_make_286 (by decide) ?_
          refine iv_lastL (S' := (gset S 10 (aset (aset P1 10 ((8 * y14) + y15) (v_L_columns A P1 y15 size)) 111 ((8 * y14) + y15) 0))) hx hb hK hinj hh  g39 (by rw [show (gset S 10 (aset P1 10 ((8 * y14) + y15) (v_L_columns A P1 y15 size))) 10 = (aset P1 10 ((8 * y14) + y15) (v_L_columns A P1 y15 size)) from (gset_at _ _ _)]; exact (gset_gset _ _ _ _)) dL_make_287 (fun H locs hh => ?_)
          refine iv_iinc (lv' := [(15, .int (hI (y15 + 1))), (0, .ref (ad 10 1)), (1, .ref (ad 10 2)), (2, .ref (ad 10 3)), (3, .ref (ad 10 4)), (4, .ref (ad 10 5)), (5, .ref (ad 10 6)), (6, .ref (ad 10 7)), (9, .ref (ad 10 10)), (10, .ref (ad 10 11)), (11, .int (hI size)), (14, .int (hI y14))]) hx hb dL_make_288 hl (k := 11) rfl (v := (y15 + 1)) rfl (by decide) rfl (fun ls hl => ?_)
          refine lv_goto (tgt := 210) hx hb dL_make_291 (by decide) ?_
          obtain ⟨g42, h⟩ := h
          refine W.widen g42 (Nat.mul_le_mul_left 8 g42) ?_
          exact h H _ ls hh (lv_sub hl [1, 2, 3, 4, 5, 6, 7, 8, 9, 10, 11, 0] rfl)
        · have h := h.1 c41
          refine lv_aload_n hx hb dL_make_266 rfl (lv_at hl 0 rfl) ?_
          refine lv_aload_n hx hb dL_make_267 rfl (lv_at hl 1 rfl) ?_
          refine lv_aload_n hx hb dL_make_268 rfl (lv_at hl 2 rfl) ?_
          refine lv_aload_n hx hb dL_make_269 rfl (lv_at hl 3 rfl) ?_
          refine lv_aload hx hb dL_make_270 (lv_at hl 4 rfl) ?_
          refine lv_aload hx hb dL_make_272 (lv_at hl 5 rfl) ?_
          refine lv_aload hx hb dL_make_274 (lv_at hl 6 rfl) ?_
          refine lv_iload hx hb dL_make_276 (lv_at hl 11 rfl) ?_
          refine lv_iload hx hb dL_make_278 (lv_at hl 9 rfl) ?_
          obtain ⟨g43, h⟩ := h
          obtain ⟨g44, h⟩ := h
          refine iv_klC (iv_rSC (mc := 1) (As := [.ref (ad 10 1), .ref (ad 10 2), .ref (ad 10 3), .ref (ad 10 4), .ref (ad 10 5), .ref (ad 10 6), .ref (ad 10 7), .int (hI y15), .int (hI size)]) (rest := [.int (hI ((8 * y14) + y15)), .ref (ad 10 11)]) E hh (ok_L_lit l hinj (gset S 10 (aset P1 10 ((8 * y14) + y15) (v_L_columns A P1 y15 size))) hf A (aset P1 10 ((8 * y14) + y15) (v_L_columns A P1 y15 size)) (gset_at _ _ _) y15 size h_y15 h_size g43) cb_L_lit q2_217 rfl rfl ⟨Nat.le_of_ble_eq_true rfl, Nat.le_of_ble_eq_true rfl⟩ rfl hl.1 rfl (Nat.le_of_ble_eq_true rfl) dL_make_280 (rm8 (k := ((y15 : Int).toNat)) (mc := 1) (K := 8) g44)) hh (fun H locs hh => ?_)
          refine lv_goto (tgt := 287) hx hb dL_make_283 (by decide) ?_
          refine iv_lastL (S' := (gset S 10 (aset (aset P1 10 ((8 * y14) + y15) (v_L_columns A P1 y15 size)) 111 ((8 * y14) + y15) (v_L_lit A (aset P1 10 ((8 * y14) + y15) (v_L_columns A P1 y15 size)) y15 size)))) hx hb hK hinj hh  g39 (by rw [show (gset S 10 (aset P1 10 ((8 * y14) + y15) (v_L_columns A P1 y15 size))) 10 = (aset P1 10 ((8 * y14) + y15) (v_L_columns A P1 y15 size)) from (gset_at _ _ _)]; exact (gset_gset _ _ _ _)) dL_make_287 (fun H locs hh => ?_)
          refine iv_iinc (lv' := [(15, .int (hI (y15 + 1))), (0, .ref (ad 10 1)), (1, .ref (ad 10 2)), (2, .ref (ad 10 3)), (3, .ref (ad 10 4)), (4, .ref (ad 10 5)), (5, .ref (ad 10 6)), (6, .ref (ad 10 7)), (9, .ref (ad 10 10)), (10, .ref (ad 10 11)), (11, .int (hI size)), (14, .int (hI y14))]) hx hb dL_make_288 hl (k := 11) rfl (v := (y15 + 1)) rfl (by decide) rfl (fun ls hl => ?_)
          refine lv_goto (tgt := 210) hx hb dL_make_291 (by decide) ?_
          obtain ⟨g45, h⟩ := h
          refine W.widen g45 (Nat.mul_le_mul_left 8 g45) ?_
          exact h H _ ls hh (lv_sub hl [1, 2, 3, 4, 5, 6, 7, 8, 9, 10, 11, 0] rfl)
  intro H locs ls hh hl
  have hl : lv_has ls 16 [(0, .ref (ad 10 1)), (1, .ref (ad 10 2)), (2, .ref (ad 10 3)), (3, .ref (ad 10 4)), (4, .ref (ad 10 5)), (5, .ref (ad 10 6)), (6, .ref (ad 10 7)), (7, .ref (ad 10 8)), (8, .ref (ad 10 9)), (9, .ref (ad 10 10)), (10, .ref (ad 10 11)), (11, .int (hI size))] := hl
  replace hh : hH D ad cI cJ cF (gset S 10 P) s H locs := by rw [← can1 hP]; exact hh
  have h := x_L_make A P size h_size (fun i k hi => hIn_rd hh.2.1 (gset_at _ _ _) hi) hp (fun y12 y13 y14 P1 => (hAtC D ad cI cJ cF p l e ({ frames := 6, cells := 8, slots := 64, locals := 166 } : Room) s m args below meth c (MQ below (hQi D ad cI cJ cF (v_L_make A P size) (gset S 10 (m_L_make A P size))) args s 8 (8 * 8) (hAd ad)) 16 20 [(0, .ref (ad 10 1)), (1, .ref (ad 10 2)), (2, .ref (ad 10 3)), (3, .ref (ad 10 4)), (4, .ref (ad 10 5)), (5, .ref (ad 10 6)), (6, .ref (ad 10 7)), (7, .ref (ad 10 8)), (8, .ref (ad 10 9)), (9, .ref (ad 10 10)), (10, .ref (ad 10 11)), (11, .int (hI size)), (12, .int (hI y12)), (13, .int (hI y13)), (14, .int (hI y14))] (gset S 10 P1) 0)) (fun y12 y13 y14 P1 => (hAtC D ad cI cJ cF p l e ({ frames := 6, cells := 8, slots := 64, locals := 166 } : Room) s m args below meth c (MQ below (hQi D ad cI cJ cF (v_L_make A P size) (gset S 10 (m_L_make A P size))) args s 8 (8 * 8) (hAd ad)) 16 73 [(0, .ref (ad 10 1)), (1, .ref (ad 10 2)), (2, .ref (ad 10 3)), (3, .ref (ad 10 4)), (4, .ref (ad 10 5)), (5, .ref (ad 10 6)), (6, .ref (ad 10 7)), (7, .ref (ad 10 8)), (8, .ref (ad 10 9)), (9, .ref (ad 10 10)), (10, .ref (ad 10 11)), (11, .int (hI size)), (12, .int (hI y12)), (13, .int (hI y13)), (14, .int (hI y14))] (gset S 10 P1) 0)) (fun y12 y13 y14 y15 P1 => (hAtC D ad cI cJ cF p l e ({ frames := 6, cells := 8, slots := 64, locals := 166 } : Room) s m args below meth c (MQ below (hQi D ad cI cJ cF (v_L_make A P size) (gset S 10 (m_L_make A P size))) args s 8 (8 * 8) (hAd ad)) 16 106 [(0, .ref (ad 10 1)), (1, .ref (ad 10 2)), (2, .ref (ad 10 3)), (3, .ref (ad 10 4)), (4, .ref (ad 10 5)), (5, .ref (ad 10 6)), (6, .ref (ad 10 7)), (7, .ref (ad 10 8)), (8, .ref (ad 10 9)), (9, .ref (ad 10 10)), (10, .ref (ad 10 11)), (11, .int (hI size)), (12, .int (hI y12)), (13, .int (hI y13)), (14, .int (hI y14)), (15, .int (hI y15))] (gset S 10 P1) 0)) (fun y14 P1 => (hAtC D ad cI cJ cF p l e ({ frames := 6, cells := 8, slots := 64, locals := 166 } : Room) s m args below meth c (MQ below (hQi D ad cI cJ cF (v_L_make A P size) (gset S 10 (m_L_make A P size))) args s 8 (8 * 8) (hAd ad)) 16 192 [(0, .ref (ad 10 1)), (1, .ref (ad 10 2)), (2, .ref (ad 10 3)), (3, .ref (ad 10 4)), (4, .ref (ad 10 5)), (5, .ref (ad 10 6)), (6, .ref (ad 10 7)), (7, .ref (ad 10 8)), (8, .ref (ad 10 9)), (9, .ref (ad 10 10)), (10, .ref (ad 10 11)), (11, .int (hI size)), (14, .int (hI y14))] (gset S 10 P1) 0)) (fun y14 y15 P1 => (hAtC D ad cI cJ cF p l e ({ frames := 6, cells := 8, slots := 64, locals := 166 } : Room) s m args below meth c (MQ below (hQi D ad cI cJ cF (v_L_make A P size) (gset S 10 (m_L_make A P size))) args s 8 (8 * 8) (hAd ad)) 16 210 [(0, .ref (ad 10 1)), (1, .ref (ad 10 2)), (2, .ref (ad 10 3)), (3, .ref (ad 10 4)), (4, .ref (ad 10 5)), (5, .ref (ad 10 6)), (6, .ref (ad 10 7)), (9, .ref (ad 10 10)), (10, .ref (ad 10 11)), (11, .int (hI size)), (14, .int (hI y14)), (15, .int (hI y15))] (gset S 10 P1) ((y15 : Int).toNat))) (fun r P1 => (r = v_L_make A P size ∧ P1 = m_L_make A P size)) r20 r73 r106 r192 r210 ⟨rfl, rfl⟩
  refine lv_aload hx hb dL_make_0 (lv_at hl 7 rfl) ?_
  refine iv_iconst hx hb dL_make_2 ?_
  refine iv_iald hx hb hK hh.1 ia_10_8 ⟨by decide, by decide⟩ (v := (P 8 3)) (congrArg (fun z => z 8 3) (gset_at _ _ _)) dL_make_3 ?_
  have hm46 : hIn (P 8 3) := hIn_rd hh.2.1 (gset_at _ _ _) (by decide)
  refine iv_if_le (tgt := 11) hx hb hm46 dL_make_4 (by decide) (fun c47 => ?_) (fun c47 => ?_)
  · have h := h.1 c47
    refine iv_iconst hx hb dL_make_11 ?_
    refine lv_istore (lv' := [(12, .int (hI 4)), (0, .ref (ad 10 1)), (1, .ref (ad 10 2)), (2, .ref (ad 10 3)), (3, .ref (ad 10 4)), (4, .ref (ad 10 5)), (5, .ref (ad 10 6)), (6, .ref (ad 10 7)), (7, .ref (ad 10 8)), (8, .ref (ad 10 9)), (9, .ref (ad 10 10)), (10, .ref (ad 10 11)), (11, .int (hI size))]) hx hb dL_make_12 hl (by decide) rfl (fun ls hl => ?_)
    refine iv_iconst hx hb dL_make_14 ?_
    refine lv_istore (lv' := [(13, .int (hI 0)), (12, .int (hI 4)), (0, .ref (ad 10 1)), (1, .ref (ad 10 2)), (2, .ref (ad 10 3)), (3, .ref (ad 10 4)), (4, .ref (ad 10 5)), (5, .ref (ad 10 6)), (6, .ref (ad 10 7)), (7, .ref (ad 10 8)), (8, .ref (ad 10 9)), (9, .ref (ad 10 10)), (10, .ref (ad 10 11)), (11, .int (hI size))]) hx hb dL_make_15 hl (by decide) rfl (fun ls hl => ?_)
    refine iv_iconst hx hb dL_make_17 ?_
    refine lv_istore (lv' := [(14, .int (hI 0)), (13, .int (hI 0)), (12, .int (hI 4)), (0, .ref (ad 10 1)), (1, .ref (ad 10 2)), (2, .ref (ad 10 3)), (3, .ref (ad 10 4)), (4, .ref (ad 10 5)), (5, .ref (ad 10 6)), (6, .ref (ad 10 7)), (7, .ref (ad 10 8)), (8, .ref (ad 10 9)), (9, .ref (ad 10 10)), (10, .ref (ad 10 11)), (11, .int (hI size))]) hx hb dL_make_18 hl (by decide) rfl (fun ls hl => ?_)
    exact h H _ ls hh (lv_sub hl [3, 4, 5, 6, 7, 8, 9, 10, 11, 12, 13, 14, 2, 1, 0] rfl)
  · have h := h.2 c47
    refine iv_iconst hx hb dL_make_7 ?_
    refine lv_goto (tgt := 12) hx hb dL_make_8 (by decide) ?_
    refine lv_istore (lv' := [(12, .int (hI 0)), (0, .ref (ad 10 1)), (1, .ref (ad 10 2)), (2, .ref (ad 10 3)), (3, .ref (ad 10 4)), (4, .ref (ad 10 5)), (5, .ref (ad 10 6)), (6, .ref (ad 10 7)), (7, .ref (ad 10 8)), (8, .ref (ad 10 9)), (9, .ref (ad 10 10)), (10, .ref (ad 10 11)), (11, .int (hI size))]) hx hb dL_make_12 hl (by decide) rfl (fun ls hl => ?_)
    refine iv_iconst hx hb dL_make_14 ?_
    refine lv_istore (lv' := [(13, .int (hI 0)), (12, .int (hI 0)), (0, .ref (ad 10 1)), (1, .ref (ad 10 2)), (2, .ref (ad 10 3)), (3, .ref (ad 10 4)), (4, .ref (ad 10 5)), (5, .ref (ad 10 6)), (6, .ref (ad 10 7)), (7, .ref (ad 10 8)), (8, .ref (ad 10 9)), (9, .ref (ad 10 10)), (10, .ref (ad 10 11)), (11, .int (hI size))]) hx hb dL_make_15 hl (by decide) rfl (fun ls hl => ?_)
    refine iv_iconst hx hb dL_make_17 ?_
    refine lv_istore (lv' := [(14, .int (hI 0)), (13, .int (hI 0)), (12, .int (hI 0)), (0, .ref (ad 10 1)), (1, .ref (ad 10 2)), (2, .ref (ad 10 3)), (3, .ref (ad 10 4)), (4, .ref (ad 10 5)), (5, .ref (ad 10 6)), (6, .ref (ad 10 7)), (7, .ref (ad 10 8)), (8, .ref (ad 10 9)), (9, .ref (ad 10 10)), (10, .ref (ad 10 11)), (11, .int (hI size))]) hx hb dL_make_18 hl (by decide) rfl (fun ls hl => ?_)
    exact h H _ ls hh (lv_sub hl [3, 4, 5, 6, 7, 8, 9, 10, 11, 12, 13, 14, 2, 1, 0] rfl)
end

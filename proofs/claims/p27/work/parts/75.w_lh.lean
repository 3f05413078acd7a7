section
variable {D : va_G} {ad : Nat → Nat → Nat} {cI cJ cF : ClassId}
set_option maxHeartbeats 4000000 in
set_option maxRecDepth 100000 in
theorem ok_L_areWidths (l : Launch) (hinj : hInj ad) (S : hS) (hp : p_L_areWidths S) : hMx D ad cI cJ cF l yL_areWidths cL_areWidths 7 ({ frames := 7, cells := 0, slots := 0, locals := 169 } : Room) [.ref (ad 11 0), .ref (ad 10 7)] S (q_L_areWidths S) 0 := by
  refine hOf (S := S) l hinj (by decide +kernel) (Nat.le_of_ble_eq_true rfl) (fun p e s m args below meth c E => ?_)
  obtain ⟨hx, hb, hml, hown, hts, hK, hN, -, hr, hlk, hz⟩ := id E
  have hown : s.vm.findClass RL = some m.cls := hown
  have r7 : ∀ (y2 : Int) (y3 : Int) (y4 : Int) (S1 : hS), hIn y2 → hIn y3 → hIn y4 → ((∀ (g i : Nat) (k : Int), i < 100 → hIn (S1 g i k)) → ((y4 < 3 → (hAt D ad cI cJ cF p l e ({ frames := 7, cells := 0, slots := 0, locals := 169 } : Room) s m args below meth c (MQ below (hQx D ad cI cJ cF (q_L_areWidths S)) args s 0 0 (hAd ad)) 7 19 [(0, .ref (ad 11 0)), (1, .ref (ad 10 7)), (2, .int (hI y2)), (3, .int (hI y3)), (4, .int (hI y4)), (5, .int (hI 0)), (6, .int (hI 0))] S1)) ∧ (¬ y4 < 3 → (hAt D ad cI cJ cF p l e ({ frames := 7, cells := 0, slots := 0, locals := 169 } : Room) s m args below meth c (MQ below (hQx D ad cI cJ cF (q_L_areWidths S)) args s 0 0 (hAd ad)) 7 113 [(0, .ref (ad 11 0)), (2, .int (hI y2)), (3, .int (hI y3))] S1)))) → (hAt D ad cI cJ cF p l e ({ frames := 7, cells := 0, slots := 0, locals := 169 } : Room) s m args below meth c (MQ below (hQx D ad cI cJ cF (q_L_areWidths S)) args s 0 0 (hAd ad)) 7 7 [(0, .ref (ad 11 0)), (1, .ref (ad 10 7)), (2, .int (hI y2)), (3, .int (hI y3)), (4, .int (hI y4))] S1) := by
    intro y2 y3 y4 S1 h_y2 h_y3 h_y4 h H locs ls hh hl
    have h := h (fun g i k hi => hh.2.1 g i k hi)
    refine lv_iload hx hb dL_areWidths_7 (lv_at hl 4 rfl) ?_
    refine iv_iconst hx hb dL_areWidths_9 ?_
    refine iv_icmp_ge (tgt := 113) hx hb h_y4 ⟨by decide, by decide⟩ dL_areWidths_10 (by decide) (fun c1 => ?_) (fun c1 => ?_)
    · have h := h.2 c1
      exact h H _ ls hh (lv_sub hl [0, 2, 3] rfl)
    · have h := h.1 c1
      refine iv_iconst hx hb dL_areWidths_13 ?_
      refine lv_istore (lv' := [(5, .int (hI 0)), (0, .ref (ad 11 0)), (1, .ref (ad 10 7)), (2, .int (hI y2)), (3, .int (hI y3)), (4, .int (hI y4))]) hx hb dL_areWidths_14 hl (by decide) rfl (fun ls hl => ?_)
      refine iv_iconst hx hb dL_areWidths_16 ?_
      refine lv_istore (lv' := [(6, .int (hI 0)), (5, .int (hI 0)), (0, .ref (ad 11 0)), (1, .ref (ad 10 7)), (2, .int (hI y2)), (3, .int (hI y3)), (4, .int (hI y4))]) hx hb dL_areWidths_17 hl (by decide) rfl (fun ls hl => ?_)
      exact h H _ ls hh (lv_sub hl [2, 3, 4, 5, 6, 1, 0] rfl)
  have r19 : ∀ (y2 : Int) (y3 : Int) (y4 : Int) (y5 : Int) (y6 : Int) (S1 : hS), hIn y2 → hIn y3 → hIn y4 → hIn y5 → hIn y6 → ((∀ (g i : Nat) (k : Int), i < 100 → hIn (S1 g i k)) → ((y6 < 3 → ((0 ≤ y6 ∧ y6 < 3) ∧ ((((S1 10) 7 y6) ≤ 0 → (hAt D ad cI cJ cF p l e ({ frames := 7, cells := 0, slots := 0, locals := 169 } : Room) s m args below meth c (MQ below (hQx D ad cI cJ cF (q_L_areWidths S)) args s 0 0 (hAd ad)) 7 19 [(0, .ref (ad 11 0)), (1, .ref (ad 10 7)), (2, .int (hI y2)), (3, .int (hI y3)), (4, .int (hI y4)), (5, .int (hI (y5 + 0))), (6, .int (hI (y6 + 1)))] S1)) ∧ (¬ ((S1 10) 7 y6) ≤ 0 → ((0 ≤ y4 ∧ y4 < 3) ∧ ((((S1 10) 7 y6) < ((S1 10) 7 y4) → (hAt D ad cI cJ cF p l e ({ frames := 7, cells := 0, slots := 0, locals := 169 } : Room) s m args below meth c (MQ below (hQx D ad cI cJ cF (q_L_areWidths S)) args s 0 0 (hAd ad)) 7 19 [(0, .ref (ad 11 0)), (1, .ref (ad 10 7)), (2, .int (hI y2)), (3, .int (hI y3)), (4, .int (hI y4)), (5, .int (hI (y5 + 1))), (6, .int (hI (y6 + 1)))] S1)) ∧ (¬ ((S1 10) 7 y6) < ((S1 10) 7 y4) → (hAt D ad cI cJ cF p l e ({ frames := 7, cells := 0, slots := 0, locals := 169 } : Room) s m args below meth c (MQ below (hQx D ad cI cJ cF (q_L_areWidths S)) args s 0 0 (hAd ad)) 7 19 [(0, .ref (ad 11 0)), (1, .ref (ad 10 7)), (2, .int (hI y2)), (3, .int (hI y3)), (4, .int (hI y4)), (5, .int (hI (y5 + 0))), (6, .int (hI (y6 + 1)))] S1)))))))) ∧ (¬ y6 < 3 → (hAt D ad cI cJ cF p l e ({ frames := 7, cells := 0, slots := 0, locals := 169 } : Room) s m args below meth c (MQ below (hQx D ad cI cJ cF (q_L_areWidths S)) args s 0 0 (hAd ad)) 7 59 [(0, .ref (ad 11 0)), (1, .ref (ad 10 7)), (2, .int (hI y2)), (3, .int (hI y3)), (4, .int (hI y4)), (5, .int (hI y5))] S1)))) → (hAt D ad cI cJ cF p l e ({ frames := 7, cells := 0, slots := 0, locals := 169 } : Room) s m args below meth c (MQ below (hQx D ad cI cJ cF (q_L_areWidths S)) args s 0 0 (hAd ad)) 7 19 [(0, .ref (ad 11 0)), (1, .ref (ad 10 7)), (2, .int (hI y2)), (3, .int (hI y3)), (4, .int (hI y4)), (5, .int (hI y5)), (6, .int (hI y6))] S1) := by
    intro y2 y3 y4 y5 y6 S1 h_y2 h_y3 h_y4 h_y5 h_y6 h H locs ls hh hl
    have h := h (fun g i k hi => hh.2.1 g i k hi)
    refine lv_iload hx hb dL_areWidths_19 (lv_at hl 6 rfl) ?_
    refine iv_iconst hx hb dL_areWidths_21 ?_
    refine iv_icmp_ge (tgt := 59) hx hb h_y6 ⟨by decide, by decide⟩ dL_areWidths_22 (by decide) (fun c2 => ?_) (fun c2 => ?_)
    · have h := h.2 c2
      exact h H _ ls hh (lv_sub hl [0, 1, 2, 3, 4, 5] rfl)
    · have h := h.1 c2
      refine lv_iload hx hb dL_areWidths_25 (lv_at hl 5 rfl) ?_
      refine lv_aload_n hx hb dL_areWidths_27 rfl (lv_at hl 1 rfl) ?_
      refine lv_iload hx hb dL_areWidths_28 (lv_at hl 6 rfl) ?_
      obtain ⟨g3, h⟩ := h
      refine iv_iald hx hb hK hh.1 ia_10_7 g3 (v := ((S1 10) 7 y6)) rfl dL_areWidths_30 ?_
      have hm4 : hIn ((S1 10) 7 y6) := hIn_rd hh.2.1 rfl (by decide)
      refine iv_if_le (tgt := 49) hx hb hm4 dL_areWidths_31 (by decide) (fun c5 => ?_) (fun c5 => ?_)
      · have h := h.1 c5
        refine iv_iconst hx hb dL_areWidths_49 ?_
        refine iv_iadd hx hb dL_areWidths_50 ?_
        refine lv_istore (lv' := [(5, .int (hI (y5 + 0))), (0, .ref (ad 11 0)), (1, .ref (ad 10 7)), (2, .int (hI y2)), (3, .int (hI y3)), (4, .int (hI y4)), (6, .int (hI y6))]) hx hb dL_areWidths_51 hl (by decide) rfl (fun ls hl => ?_)
        refine iv_iinc (lv' := [(6, .int (hI (y6 + 1))), (5, .int (hI (y5 + 0))), (0, .ref (ad 11 0)), (1, .ref (ad 10 7)), (2, .int (hI y2)), (3, .int (hI y3)), (4, .int (hI y4))]) hx hb dL_areWidths_53 hl (k := 6) rfl (v := (y6 + 1)) rfl (by decide) rfl (fun ls hl => ?_)
        refine lv_goto (tgt := 19) hx hb dL_areWidths_56 (by decide) ?_
        exact h H _ ls hh (lv_sub hl [2, 3, 4, 5, 6, 1, 0] rfl)
      · have h := h.2 c5
        refine lv_aload_n hx hb dL_areWidths_34 rfl (lv_at hl 1 rfl) ?_
        refine lv_iload hx hb dL_areWidths_35 (lv_at hl 6 rfl) ?_
        refine iv_iald hx hb hK hh.1 ia_10_7 g3 (v := ((S1 10) 7 y6)) rfl dL_areWidths_37 ?_
        have hm6 : hIn ((S1 10) 7 y6) := hIn_rd hh.2.1 rfl (by decide)
        refine lv_aload_n hx hb dL_areWidths_38 rfl (lv_at hl 1 rfl) ?_
        refine lv_iload hx hb dL_areWidths_39 (lv_at hl 4 rfl) ?_
        obtain ⟨g7, h⟩ := h
        refine iv_iald hx hb hK hh.1 ia_10_7 g7 (v := ((S1 10) 7 y4)) rfl dL_areWidths_41 ?_
        have hm8 : hIn ((S1 10) 7 y4) := hIn_rd hh.2.1 rfl (by decide)
        refine iv_icmp_ge (tgt := 49) hx hb hm6 hm8 dL_areWidths_42 (by decide) (fun c9 => ?_) (fun c9 => ?_)
        · have h := h.2 c9
          refine iv_iconst hx hb dL_areWidths_49 ?_
          refine iv_iadd hx hb dL_areWidths_50 ?_
          refine lv_istore (lv' := [(5, .int (hI (y5 + 0))), (0, .ref (ad 11 0)), (1, .ref (ad 10 7)), (2, .int (hI y2)), (3, .int (hI y3)), (4, .int (hI y4)), (6, .int (hI y6))]) hx hb dL_areWidths_51 hl (by decide) rfl (fun ls hl => ?_)
          refine iv_iinc (lv' := [(6, .int (hI (y6 + 1))), (5, .int (hI (y5 + 0))), (0, .ref (ad 11 0)), (1, .ref (ad 10 7)), (2, .int (hI y2)), (3, .int (hI y3)), (4, .int (hI y4))]) hx hb dL_areWidths_53 hl (k := 6) rfl (v := (y6 + 1)) rfl (by decide) rfl (fun ls hl => ?_)
          refine lv_goto (tgt := 19) hx hb dL_areWidths_56 (by decide) ?_
          exact h H _ ls hh (lv_sub hl [2, 3, 4, 5, 6, 1, 0] rfl)
        · have h := h.1 c9
          refine iv_iconst hx hb dL_areWidths_45 ?_
          refine lv_goto (tgt := 50) hx hb dL_areWidths_46 (by decide) ?_
          refine iv_iadd hx hb dL_areWidths_50 ?_
          refine lv_istore (lv' := [(5, .int (hI (y5 + 1))), (0, .ref (ad 11 0)), (1, .ref (ad 10 7)), (2, .int (hI y2)), (3, .int (hI y3)), (4, .int (hI y4)), (6, .int (hI y6))]) hx hb dL_areWidths_51 hl (by decide) rfl (fun ls hl => ?_)
          refine iv_iinc (lv' := [(6, .int (hI (y6 + 1))), (5, .int (hI (y5 + 1))), (0, .ref (ad 11 0)), (1, .ref (ad 10 7)), (2, .int (hI y2)), (3, .int (hI y3)), (4, .int (hI y4))]) hx hb dL_areWidths_53 hl (k := 6) rfl (v := (y6 + 1)) rfl (by decide) rfl (fun ls hl => ?_)
          refine lv_goto (tgt := 19) hx hb dL_areWidths_56 (by decide) ?_
          exact h H _ ls hh (lv_sub hl [2, 3, 4, 5, 6, 1, 0] rfl)
  have r59 : ∀ (y2 : Int) (y3 : Int) (y4 : Int) (y5 : Int) (S1 : hS), hIn y2 → hIn y3 → hIn y4 → hIn y5 → ((∀ (g i : Nat) (k : Int), i < 100 → hIn (S1 g i k)) → ((0 ≤ y4 ∧ y4 < 3) ∧ ((((S1 10) 7 y4) ≤ 0 → (hAt D ad cI cJ cF p l e ({ frames := 7, cells := 0, slots := 0, locals := 169 } : Room) s m args below meth c (MQ below (hQx D ad cI cJ cF (q_L_areWidths S)) args s 0 0 (hAd ad)) 7 74 [(0, .ref (ad 11 0)), (1, .ref (ad 10 7)), (2, .int (hI (y2 + 0))), (3, .int (hI y3)), (4, .int (hI y4)), (5, .int (hI y5))] S1)) ∧ (¬ ((S1 10) 7 y4) ≤ 0 → (hAt D ad cI cJ cF p l e ({ frames := 7, cells := 0, slots := 0, locals := 169 } : Room) s m args below meth c (MQ below (hQx D ad cI cJ cF (q_L_areWidths S)) args s 0 0 (hAd ad)) 7 74 [(0, .ref (ad 11 0)), (1, .ref (ad 10 7)), (2, .int (hI (y2 + 1))), (3, .int (hI y3)), (4, .int (hI y4)), (5, .int (hI y5))] S1))))) → (hAt D ad cI cJ cF p l e ({ frames := 7, cells := 0, slots := 0, locals := 169 } : Room) s m args below meth c (MQ below (hQx D ad cI cJ cF (q_L_areWidths S)) args s 0 0 (hAd ad)) 7 59 [(0, .ref (ad 11 0)), (1, .ref (ad 10 7)), (2, .int (hI y2)), (3, .int (hI y3)), (4, .int (hI y4)), (5, .int (hI y5))] S1) := by
    intro y2 y3 y4 y5 S1 h_y2 h_y3 h_y4 h_y5 h H locs ls hh hl
    have h := h (fun g i k hi => hh.2.1 g i k hi)
    refine lv_iload_n hx hb dL_areWidths_59 rfl (lv_at hl 2 rfl) ?_
    refine lv_aload_n hx hb dL_areWidths_60 rfl (lv_at hl 1 rfl) ?_
    refine lv_iload hx hb dL_areWidths_61 (lv_at hl 4 rfl) ?_
    obtain ⟨g10, h⟩ := h
    refine iv_iald hx hb hK hh.1 ia_10_7 g10 (v := ((S1 10) 7 y4)) rfl dL_areWidths_63 ?_
    have hm11 : hIn ((S1 10) 7 y4) := hIn_rd hh.2.1 rfl (by decide)
    refine iv_if_le (tgt := 71) hx hb hm11 dL_areWidths_64 (by decide) (fun c12 => ?_) (fun c12 => ?_)
    · have h := h.1 c12
      refine iv_iconst hx hb dL_areWidths_71 ?_
      refine iv_iadd hx hb dL_areWidths_72 ?_
      refine lv_istore_n (lv' := [(2, .int (hI (y2 + 0))), (0, .ref (ad 11 0)), (1, .ref (ad 10 7)), (3, .int (hI y3)), (4, .int (hI y4)), (5, .int (hI y5))]) hx hb dL_areWidths_73 rfl hl (by decide) rfl (fun ls hl => ?_)
      exact h H _ ls hh (lv_sub hl [1, 2, 0, 3, 4, 5] rfl)
    · have h := h.2 c12
      refine iv_iconst hx hb dL_areWidths_67 ?_
      refine lv_goto (tgt := 72) hx hb dL_areWidths_68 (by decide) ?_
      refine iv_iadd hx hb dL_areWidths_72 ?_
      refine lv_istore_n (lv' := [(2, .int (hI (y2 + 1))), (0, .ref (ad 11 0)), (1, .ref (ad 10 7)), (3, .int (hI y3)), (4, .int (hI y4)), (5, .int (hI y5))]) hx hb dL_areWidths_73 rfl hl (by decide) rfl (fun ls hl => ?_)
      exact h H _ ls hh (lv_sub hl [1, 2, 0, 3, 4, 5] rfl)
  have r74 : ∀ (y2 : Int) (y3 : Int) (y4 : Int) (y5 : Int) (S1 : hS), hIn y2 → hIn y3 → hIn y4 → hIn y5 → ((∀ (g i : Nat) (k : Int), i < 100 → hIn (S1 g i k)) → ((y3 = 0 → (hAt D ad cI cJ cF p l e ({ frames := 7, cells := 0, slots := 0, locals := 169 } : Room) s m args below meth c (MQ below (hQx D ad cI cJ cF (q_L_areWidths S)) args s 0 0 (hAd ad)) 7 107 [(0, .ref (ad 11 0)), (1, .ref (ad 10 7)), (2, .int (hI y2)), (3, .int (hI 0)), (4, .int (hI y4))] S1)) ∧ (¬ y3 = 0 → ((0 ≤ y4 ∧ y4 < 3) ∧ ((((S1 10) 7 y4) = 0 → (hAt D ad cI cJ cF p l e ({ frames := 7, cells := 0, slots := 0, locals := 169 } : Room) s m args below meth c (MQ below (hQx D ad cI cJ cF (q_L_areWidths S)) args s 0 0 (hAd ad)) 7 107 [(0, .ref (ad 11 0)), (1, .ref (ad 10 7)), (2, .int (hI y2)), (3, .int (hI 1)), (4, .int (hI y4))] S1)) ∧ (¬ ((S1 10) 7 y4) = 0 → (hIn (10 + y5) ∧ (p_X5_count S1 (10 + y5) ∧ (((v_X5_count S1 (10 + y5)) = (((m_X5_count S1 (10 + y5)) 10) 7 y4) → (hAt D ad cI cJ cF p l e ({ frames := 7, cells := 0, slots := 0, locals := 169 } : Room) s m args below meth c (MQ below (hQx D ad cI cJ cF (q_L_areWidths S)) args s 0 0 (hAd ad)) 7 107 [(0, .ref (ad 11 0)), (1, .ref (ad 10 7)), (2, .int (hI y2)), (3, .int (hI 1)), (4, .int (hI y4))] (m_X5_count S1 (10 + y5)))) ∧ (¬ (v_X5_count S1 (10 + y5)) = (((m_X5_count S1 (10 + y5)) 10) 7 y4) → (hAt D ad cI cJ cF p l e ({ frames := 7, cells := 0, slots := 0, locals := 169 } : Room) s m args below meth c (MQ below (hQx D ad cI cJ cF (q_L_areWidths S)) args s 0 0 (hAd ad)) 7 107 [(0, .ref (ad 11 0)), (1, .ref (ad 10 7)), (2, .int (hI y2)), (3, .int (hI 0)), (4, .int (hI y4))] (m_X5_count S1 (10 + y5))))))))))))) → (hAt D ad cI cJ cF p l e ({ frames := 7, cells := 0, slots := 0, locals := 169 } : Room) s m args below meth c (MQ below (hQx D ad cI cJ cF (q_L_areWidths S)) args s 0 0 (hAd ad)) 7 74 [(0, .ref (ad 11 0)), (1, .ref (ad 10 7)), (2, .int (hI y2)), (3, .int (hI y3)), (4, .int (hI y4)), (5, .int (hI y5))] S1) := by
    intro y2 y3 y4 y5 S1 h_y2 h_y3 h_y4 h_y5 h H locs ls hh hl
    have h := h (fun g i k hi => hh.2.1 g i k hi)
    refine lv_iload_n hx hb dL_areWidths_74 rfl (lv_at hl 3 rfl) ?_
    refine iv_if_eq (tgt := 105) hx hb h_y3 dL_areWidths_75 (by decide) (fun c13 => ?_) (fun c13 => ?_)
    · have h := h.1 c13
      refine iv_iconst hx hb dL_areWidths_105 ?_
      refine lv_istore_n (lv' := [(3, .int (hI 0)), (0, .ref (ad 11 0)), (1, .ref (ad 10 7)), (2, .int (hI y2)), (4, .int (hI y4)), (5, .int (hI y5))]) hx hb dL_areWidths_106 rfl hl (by decide) rfl (fun ls hl => ?_)
      exact h H _ ls hh (lv_sub hl [1, 2, 3, 0, 4] rfl)
    · have h := h.2 c13
      refine lv_aload_n hx hb dL_areWidths_78 rfl (lv_at hl 1 rfl) ?_
      refine lv_iload hx hb dL_areWidths_79 (lv_at hl 4 rfl) ?_
      obtain ⟨g14, h⟩ := h
      refine iv_iald hx hb hK hh.1 ia_10_7 g14 (v := ((S1 10) 7 y4)) rfl dL_areWidths_81 ?_
      have hm15 : hIn ((S1 10) 7 y4) := hIn_rd hh.2.1 rfl (by decide)
      refine iv_if_eq (tgt := 101) hx hb hm15 dL_areWidths_82 (by decide) (fun c16 => ?_) (fun c16 => ?_)
      · have h := h.1 c16
        refine iv_iconst hx hb dL_areWidths_101 ?_
        refine lv_goto (tgt := 106) hx hb dL_areWidths_102 (by decide) ?_
        refine lv_istore_n (lv' := [(3, .int (hI 1)), (0, .ref (ad 11 0)), (1, .ref (ad 10 7)), (2, .int (hI y2)), (4, .int (hI y4)), (5, .int (hI y5))]) hx hb dL_areWidths_106 rfl hl (by decide) rfl (fun ls hl => ?_)
        exact h H _ ls hh (lv_sub hl [1, 2, 3, 0, 4] rfl)
      · have h := h.2 c16
        refine lv_aload_n hx hb dL_areWidths_85 rfl (lv_at hl 0 rfl) ?_
        refine lv_bipush (v := hI 10) hx hb dL_areWidths_86 (by decide) ?_
        refine lv_iload hx hb dL_areWidths_88 (lv_at hl 5 rfl) ?_
        refine iv_iadd hx hb dL_areWidths_90 ?_
        obtain ⟨g17, h⟩ := h
        obtain ⟨g18, h⟩ := h
        refine iv_ki (iv_rV (As := [.int (hI (10 + y5))]) (rest := []) E hh (ok_X5_count l hinj S1 (10 + y5) g17 g18) cb_X5_count q1_229 rfl rfl ⟨Nat.le_of_ble_eq_true rfl, Nat.le_of_ble_eq_true rfl⟩ (ob_X) rfl rfl rfl hl.1 rfl (Nat.le_of_ble_eq_true rfl) dL_areWidths_91 ⟨Nat.zero_le _, Nat.zero_le _⟩) hh (fun hc19 H locs hh => ?_)
        refine lv_aload_n hx hb dL_areWidths_94 rfl (lv_at hl 1 rfl) ?_
        refine lv_iload hx hb dL_areWidths_95 (lv_at hl 4 rfl) ?_
        refine iv_iald hx hb hK hh.1 ia_10_7 g14 (v := (((m_X5_count S1 (10 + y5)) 10) 7 y4)) rfl dL_areWidths_97 ?_
        have hm20 : hIn (((m_X5_count S1 (10 + y5)) 10) 7 y4) := hIn_rd hh.2.1 rfl (by decide)
        refine iv_icmp_ne (tgt := 105) hx hb hc19 hm20 dL_areWidths_98 (by decide) (fun c21 => ?_) (fun c21 => ?_)
        · have h := h.2 c21
          refine iv_iconst hx hb dL_areWidths_105 ?_
          refine lv_istore_n (lv' := [(3, .int (hI 0)), (0, .ref (ad 11 0)), (1, .ref (ad 10 7)), (2, .int (hI y2)), (4, .int (hI y4)), (5, .int (hI y5))]) hx hb dL_areWidths_106 rfl hl (by decide) rfl (fun ls hl => ?_)
          exact h H _ ls hh (lv_sub hl [1, 2, 3, 0, 4] rfl)
        · have h := h.1 c21
          refine iv_iconst hx hb dL_areWidths_101 ?_
          refine lv_goto (tgt := 106) hx hb dL_areWidths_102 (by decide) ?_
          refine lv_istore_n (lv' := [(3, .int (hI 1)), (0, .ref (ad 11 0)), (1, .ref (ad 10 7)), (2, .int (hI y2)), (4, .int (hI y4)), (5, .int (hI y5))]) hx hb dL_areWidths_106 rfl hl (by decide) rfl (fun ls hl => ?_)
          exact h H _ ls hh (lv_sub hl [1, 2, 3, 0, 4] rfl)
  have r107 : ∀ (y2 : Int) (y3 : Int) (y4 : Int) (S1 : hS), hIn y2 → hIn y3 → hIn y4 → ((∀ (g i : Nat) (k : Int), i < 100 → hIn (S1 g i k)) → (hAt D ad cI cJ cF p l e ({ frames := 7, cells := 0, slots := 0, locals := 169 } : Room) s m args below meth c (MQ below (hQx D ad cI cJ cF (q_L_areWidths S)) args s 0 0 (hAd ad)) 7 7 [(0, .ref (ad 11 0)), (1, .ref (ad 10 7)), (2, .int (hI y2)), (3, .int (hI y3)), (4, .int (hI (y4 + 1)))] S1)) → (hAt D ad cI cJ cF p l e ({ frames := 7, cells := 0, slots := 0, locals := 169 } : Room) s m args below meth c (MQ below (hQx D ad cI cJ cF (q_L_areWidths S)) args s 0 0 (hAd ad)) 7 107 [(0, .ref (ad 11 0)), (1, .ref (ad 10 7)), (2, .int (hI y2)), (3, .int (hI y3)), (4, .int (hI y4))] S1) := by
    intro y2 y3 y4 S1 h_y2 h_y3 h_y4 h H locs ls hh hl
    have h := h (fun g i k hi => hh.2.1 g i k hi)
    refine iv_iinc (lv' := [(4, .int (hI (y4 + 1))), (0, .ref (ad 11 0)), (1, .ref (ad 10 7)), (2, .int (hI y2)), (3, .int (hI y3))]) hx hb dL_areWidths_107 hl (k := 4) rfl (v := (y4 + 1)) rfl (by decide) rfl (fun ls hl => ?_)
    refine lv_goto (tgt := 7) hx hb dL_areWidths_110 (by decide) ?_
    exact h H _ ls hh (lv_sub hl [1, 2, 3, 4, 0] rfl)
  have r113 : ∀ (y2 : Int) (y3 : Int) (S1 : hS), hIn y2 → hIn y3 → ((∀ (g i : Nat) (k : Int), i < 100 → hIn (S1 g i k)) → ((y3 = 0 → ((0 : Int) = 1 ∧ q_L_areWidths S S1)) ∧ (¬ y3 = 0 → (p_X5_count S1 2 ∧ (((v_X5_count S1 2) = y2 → ((y2 = 3 → (p_X5_count (m_X5_count S1 2) 9 ∧ (((v_X5_count (m_X5_count S1 2) 9) = (-1000001) → (p_X5_count (m_X5_count (m_X5_count S1 2) 9) 13 ∧ (((v_X5_count (m_X5_count (m_X5_count S1 2) 9) 13) = (-1000001) → ((1 : Int) = 1 ∧ q_L_areWidths S (m_X5_count (m_X5_count (m_X5_count S1 2) 9) 13))) ∧ (¬ (v_X5_count (m_X5_count (m_X5_count S1 2) 9) 13) = (-1000001) → ((0 : Int) = 1 ∧ q_L_areWidths S (m_X5_count (m_X5_count (m_X5_count S1 2) 9) 13)))))) ∧ (¬ (v_X5_count (m_X5_count S1 2) 9) = (-1000001) → ((0 : Int) = 1 ∧ q_L_areWidths S (m_X5_count (m_X5_count S1 2) 9)))))) ∧ (¬ y2 = 3 → (hIn (10 + y2) ∧ (p_X5_count (m_X5_count S1 2) (10 + y2) ∧ (((v_X5_count (m_X5_count S1 2) (10 + y2)) = (-1000004) → (p_X5_count (m_X5_count (m_X5_count S1 2) (10 + y2)) 9 ∧ (((v_X5_count (m_X5_count (m_X5_count S1 2) (10 + y2)) 9) = (-1000001) → (p_X5_count (m_X5_count (m_X5_count (m_X5_count S1 2) (10 + y2)) 9) 13 ∧ (((v_X5_count (m_X5_count (m_X5_count (m_X5_count S1 2) (10 + y2)) 9) 13) = (-1000001) → ((1 : Int) = 1 ∧ q_L_areWidths S (m_X5_count (m_X5_count (m_X5_count (m_X5_count S1 2) (10 + y2)) 9) 13))) ∧ (¬ (v_X5_count (m_X5_count (m_X5_count (m_X5_count S1 2) (10 + y2)) 9) 13) = (-1000001) → ((0 : Int) = 1 ∧ q_L_areWidths S (m_X5_count (m_X5_count (m_X5_count (m_X5_count S1 2) (10 + y2)) 9) 13)))))) ∧ (¬ (v_X5_count (m_X5_count (m_X5_count S1 2) (10 + y2)) 9) = (-1000001) → ((0 : Int) = 1 ∧ q_L_areWidths S (m_X5_count (m_X5_count (m_X5_count S1 2) (10 + y2)) 9)))))) ∧ (¬ (v_X5_count (m_X5_count S1 2) (10 + y2)) = (-1000004) → ((0 : Int) = 1 ∧ q_L_areWidths S (m_X5_count (m_X5_count S1 2) (10 + y2)))))))))) ∧ (¬ (v_X5_count S1 2) = y2 → ((0 : Int) = 1 ∧ q_L_areWidths S (m_X5_count S1 2)))))))) → (hAt D ad cI cJ cF p l e ({ frames := 7, cells := 0, slots := 0, locals := 169 } : Room) s m args below meth c (MQ below (hQx D ad cI cJ cF (q_L_areWidths S)) args s 0 0 (hAd ad)) 7 113 [(0, .ref (ad 11 0)), (2, .int (hI y2)), (3, .int (hI y3))] S1) := by
    intro y2 y3 S1 h_y2 h_y3 h H locs ls hh hl
    have h := h (fun g i k hi => hh.2.1 g i k hi)
    refine lv_iload_n hx hb dL_areWidths_113 rfl (lv_at hl 2 rfl) ?_
    refine iv_if_eq (tgt := 170) hx hb h_y3 dL_areWidths_114 (by decide) (fun c22 => ?_) (fun c22 => ?_)
    · have h := h.1 c22
      refine iv_iconst hx hb dL_areWidths_170 ?_
      exact iv_xret E hh h.1 h.2 dL_areWidths_171
    · have h := h.2 c22
      refine lv_aload_n hx hb dL_areWidths_117 rfl (lv_at hl 0 rfl) ?_
      refine iv_iconst hx hb dL_areWidths_118 ?_
      obtain ⟨g23, h⟩ := h
      refine iv_ki (iv_rV (As := [.int (hI 2)]) (rest := []) E hh (ok_X5_count l hinj S1 2 ⟨by decide, by decide⟩ g23) cb_X5_count q1_229 rfl rfl ⟨Nat.le_of_ble_eq_true rfl, Nat.le_of_ble_eq_true rfl⟩ (ob_X) rfl rfl rfl hl.1 rfl (Nat.le_of_ble_eq_true rfl) dL_areWidths_119 ⟨Nat.zero_le _, Nat.zero_le _⟩) hh (fun hc24 H locs hh => ?_)
      refine lv_iload_n hx hb dL_areWidths_122 rfl (lv_at hl 1 rfl) ?_
      refine iv_icmp_ne (tgt := 170) hx hb hc24 h_y2 dL_areWidths_123 (by decide) (fun c25 => ?_) (fun c25 => ?_)
      · have h := h.2 c25
        refine iv_iconst hx hb dL_areWidths_170 ?_
        exact iv_xret E hh h.1 h.2 dL_areWidths_171
      · have h := h.1 c25
        refine lv_iload_n hx hb dL_areWidths_126 rfl (lv_at hl 1 rfl) ?_
        refine iv_iconst hx hb dL_areWidths_127 ?_
        refine iv_icmp_eq (tgt := 144) hx hb h_y2 ⟨by decide, by decide⟩ dL_areWidths_128 (by decide) (fun c26 => ?_) (fun c26 => ?_)
        · have h := h.1 c26
          refine lv_aload_n hx hb dL_areWidths_144 rfl (lv_at hl 0 rfl) ?_
          refine lv_bipush (v := hI 9) hx hb dL_areWidths_145 (by decide) ?_
          obtain ⟨g27, h⟩ := h
          refine iv_ki (iv_rV (As := [.int (hI 9)]) (rest := []) E hh (ok_X5_count l hinj (m_X5_count S1 2) 9 ⟨by decide, by decide⟩ g27) cb_X5_count q1_229 rfl rfl ⟨Nat.le_of_ble_eq_true rfl, Nat.le_of_ble_eq_true rfl⟩ (ob_X) rfl rfl rfl hl.1 rfl (Nat.le_of_ble_eq_true rfl) dL_areWidths_147 ⟨Nat.zero_le _, Nat.zero_le _⟩) hh (fun hc28 H locs hh => ?_)
          refine iv_ldc (n := (-1000001)) hx hb (by decide) hown (hts _ q2_153) dL_areWidths_150 ?_
          refine iv_icmp_ne (tgt := 170) hx hb hc28 ⟨by decide, by decide⟩ dL_areWidths_152 (by decide) (fun c29 => ?_) (fun c29 => ?_)
          · have h := h.2 c29
            refine iv_iconst hx hb dL_areWidths_170 ?_
            exact iv_xret E hh h.1 h.2 dL_areWidths_171
          · have h := h.1 c29
            refine lv_aload_n hx hb dL_areWidths_155 rfl (lv_at hl 0 rfl) ?_
            refine lv_bipush (v := hI 13) hx hb dL_areWidths_156 (by decide) ?_
            obtain ⟨g30, h⟩ := h
            refine iv_ki (iv_rV (As := [.int (hI 13)]) (rest := []) E hh (ok_X5_count l hinj (m_X5_count (m_X5_count S1 2) 9) 13 ⟨by decide, by decide⟩ g30) cb_X5_count q1_229 rfl rfl ⟨Nat.le_of_ble_eq_true rfl, Nat.le_of_ble_eq_true rfl⟩ (ob_X) rfl rfl rfl hl.1 rfl (Nat.le_of_ble_eq_true rfl) dL_areWidths_158 ⟨Nat.zero_le _, Nat.zero_le _⟩) hh (fun hc31 H locs hh => ?_)
            refine iv_ldc (n := (-1000001)) hx hb (by decide) hown (hts _ q2_153) dL_areWidths_161 ?_
            refine iv_icmp_ne (tgt := 170) hx hb hc31 ⟨by decide, by decide⟩ dL_areWidths_163 (by decide) (fun c32 => ?_) (fun c32 => ?_)
            · have h := h.2 c32
              refine iv_iconst hx hb dL_areWidths_170 ?_
              exact iv_xret E hh h.1 h.2 dL_areWidths_171
            · have h := h.1 c32
              refine iv_iconst hx hb dL_areWidths_166 ?_
              refine lv_goto (tgt := 171) hx hb dL_areWidths_167 (by decide) ?_
              exact iv_xret E hh h.1 h.2 dL_areWidths_171
        · have h := h.2 c26
          refine lv_aload_n hx hb dL_areWidths_131 rfl (lv_at hl 0 rfl) ?_
          refine lv_bipush (v := hI 10) hx hb dL_areWidths_132 (by decide) ?_
          refine lv_iload_n hx hb dL_areWidths_134 rfl (lv_at hl 1 rfl) ?_
          refine iv_iadd hx hb dL_areWidths_135 ?_
          obtain ⟨g33, h⟩ := h
          obtain ⟨g34, h⟩ := h
          refine iv_ki (iv_rV (As := [.int (hI (10 + y2))]) (rest := []) E hh (ok_X5_count l hinj (m_X5_count S1 2) (10 + y2) g33 g34) cb_X5_count q1_229 rfl rfl ⟨Nat.le_of_ble_eq_true rfl, Nat.le_of_ble_eq_true rfl⟩ (ob_X) rfl rfl rfl hl.1 rfl (Nat.le_of_ble_eq_true rfl) dL_areWidths_136 ⟨Nat.zero_le _, Nat.zero_le _⟩) hh (fun hc35 H locs hh => ?_)
          refine iv_ldc (n := (-1000004)) hx hb (by decide) hown (hts _ q3_39) dL_areWidths_139 ?_
          refine iv_icmp_ne (tgt := 170) hx hb hc35 ⟨by decide, by decide⟩ dL_areWidths_141 (by decide) (fun c36 => ?_) (fun c36 => ?_)
          · have h := h.2 c36
            refine iv_iconst hx hb dL_areWidths_170 ?_
            exact iv_xret E hh h.1 h.2 dL_areWidths_171
          · have h := h.1 c36
            refine lv_aload_n hx hb dL_areWidths_144 rfl (lv_at hl 0 rfl) ?_
            refine lv_bipush (v := hI 9) hx hb dL_areWidths_145 (by decide) ?_
            obtain ⟨g37, h⟩ := h
            refine iv_ki (iv_rV (As := [.int (hI 9)]) (rest := []) E hh (ok_X5_count l hinj (m_X5_count (m_X5_count S1 2) (10 + y2)) 9 ⟨by decide, by decide⟩ g37) cb_X5_count q1_229 rfl rfl ⟨Nat.le_of_ble_eq_true rfl, Nat.le_of_ble_eq_true rfl⟩ (ob_X) rfl rfl rfl hl.1 rfl (Nat.le_of_ble_eq_true rfl) dL_areWidths_147 ⟨Nat.zero_le _, Nat.zero_le _⟩) hh (fun hc38 H locs hh => ?_)
            refine iv_ldc (n := (-1000001)) hx hb (by decide) hown (hts _ q2_153) dL_areWidths_150 ?_
            refine iv_icmp_ne (tgt := 170) hx hb hc38 ⟨by decide, by decide⟩ dL_areWidths_152 (by decide) (fun c39 => ?_) (fun c39 => ?_)
            · have h := h.2 c39
              refine iv_iconst hx hb dL_areWidths_170 ?_
              exact iv_xret E hh h.1 h.2 dL_areWidths_171
            · have h := h.1 c39
              refine lv_aload_n hx hb dL_areWidths_155 rfl (lv_at hl 0 rfl) ?_
              refine lv_bipush (v := hI 13) hx hb dL_areWidths_156 (by decide) ?_
              obtain ⟨g40, h⟩ := h
              refine iv_ki (iv_rV (As := [.int (hI 13)]) (rest := []) E hh (ok_X5_count l hinj (m_X5_count (m_X5_count (m_X5_count S1 2) (10 + y2)) 9) 13 ⟨by decide, by decide⟩ g40) cb_X5_count q1_229 rfl rfl ⟨Nat.le_of_ble_eq_true rfl, Nat.le_of_ble_eq_true rfl⟩ (ob_X) rfl rfl rfl hl.1 rfl (Nat.le_of_ble_eq_true rfl) dL_areWidths_158 ⟨Nat.zero_le _, Nat.zero_le _⟩) hh (fun hc41 H locs hh => ?_)
              refine iv_ldc (n := (-1000001)) hx hb (by decide) hown (hts _ q2_153) dL_areWidths_161 ?_
              refine iv_icmp_ne (tgt := 170) hx hb hc41 ⟨by decide, by decide⟩ dL_areWidths_163 (by decide) (fun c42 => ?_) (fun c42 => ?_)
              · have h := h.2 c42
                refine iv_iconst hx hb dL_areWidths_170 ?_
                exact iv_xret E hh h.1 h.2 dL_areWidths_171
              · have h := h.1 c42
                refine iv_iconst hx hb dL_areWidths_166 ?_
                refine lv_goto (tgt := 171) hx hb dL_areWidths_167 (by decide) ?_
                exact iv_xret E hh h.1 h.2 dL_areWidths_171
  intro H locs ls hh hl
  have hl : lv_has ls 7 [(0, .ref (ad 11 0)), (1, .ref (ad 10 7))] := hl
  have h := x_L_areWidths S (fun g i k hi => hh.2.1 g i k hi) hp (fun y2 y3 y4 S1 => (hAt D ad cI cJ cF p l e ({ frames := 7, cells := 0, slots := 0, locals := 169 } : Room) s m args below meth c (MQ below (hQx D ad cI cJ cF (q_L_areWidths S)) args s 0 0 (hAd ad)) 7 7 [(0, .ref (ad 11 0)), (1, .ref (ad 10 7)), (2, .int (hI y2)), (3, .int (hI y3)), (4, .int (hI y4))] S1)) (fun y2 y3 y4 y5 y6 S1 => (hAt D ad cI cJ cF p l e ({ frames := 7, cells := 0, slots := 0, locals := 169 } : Room) s m args below meth c (MQ below (hQx D ad cI cJ cF (q_L_areWidths S)) args s 0 0 (hAd ad)) 7 19 [(0, .ref (ad 11 0)), (1, .ref (ad 10 7)), (2, .int (hI y2)), (3, .int (hI y3)), (4, .int (hI y4)), (5, .int (hI y5)), (6, .int (hI y6))] S1)) (fun y2 y3 y4 y5 S1 => (hAt D ad cI cJ cF p l e ({ frames := 7, cells := 0, slots := 0, locals := 169 } : Room) s m args below meth c (MQ below (hQx D ad cI cJ cF (q_L_areWidths S)) args s 0 0 (hAd ad)) 7 59 [(0, .ref (ad 11 0)), (1, .ref (ad 10 7)), (2, .int (hI y2)), (3, .int (hI y3)), (4, .int (hI y4)), (5, .int (hI y5))] S1)) (fun y2 y3 y4 y5 S1 => (hAt D ad cI cJ cF p l e ({ frames := 7, cells := 0, slots := 0, locals := 169 } : Room) s m args below meth c (MQ below (hQx D ad cI cJ cF (q_L_areWidths S)) args s 0 0 (hAd ad)) 7 74 [(0, .ref (ad 11 0)), (1, .ref (ad 10 7)), (2, .int (hI y2)), (3, .int (hI y3)), (4, .int (hI y4)), (5, .int (hI y5))] S1)) (fun y2 y3 y4 S1 => (hAt D ad cI cJ cF p l e ({ frames := 7, cells := 0, slots := 0, locals := 169 } : Room) s m args below meth c (MQ below (hQx D ad cI cJ cF (q_L_areWidths S)) args s 0 0 (hAd ad)) 7 107 [(0, .ref (ad 11 0)), (1, .ref (ad 10 7)), (2, .int (hI y2)), (3, .int (hI y3)), (4, .int (hI y4))] S1)) (fun y2 y3 S1 => (hAt D ad cI cJ cF p l e ({ frames := 7, cells := 0, slots := 0, locals := 169 } : Room) s m args below meth c (MQ below (hQx D ad cI cJ cF (q_L_areWidths S)) args s 0 0 (hAd ad)) 7 113 [(0, .ref (ad 11 0)), (2, .int (hI y2)), (3, .int (hI y3))] S1)) (fun r S1 => ((r : Int) = 1 ∧ q_L_areWidths S S1)) r7 r19 r59 r74 r107 r113 (fun S2 hq => ⟨rfl, hq⟩)
  refine iv_iconst hx hb dL_areWidths_0 ?_
  refine lv_istore_n (lv' := [(2, .int (hI 0)), (0, .ref (ad 11 0)), (1, .ref (ad 10 7))]) hx hb dL_areWidths_1 rfl hl (by decide) rfl (fun ls hl => ?_)
  refine iv_iconst hx hb dL_areWidths_2 ?_
  refine lv_istore_n (lv' := [(3, .int (hI 1)), (2, .int (hI 0)), (0, .ref (ad 11 0)), (1, .ref (ad 10 7))]) hx hb dL_areWidths_3 rfl hl (by decide) rfl (fun ls hl => ?_)
  refine iv_iconst hx hb dL_areWidths_4 ?_
  refine lv_istore (lv' := [(4, .int (hI 0)), (3, .int (hI 1)), (2, .int (hI 0)), (0, .ref (ad 11 0)), (1, .ref (ad 10 7))]) hx hb dL_areWidths_5 hl (by decide) rfl (fun ls hl => ?_)
  exact h H _ ls hh (lv_sub hl [3, 4, 2, 1, 0] rfl)
set_option maxHeartbeats 4000000 in
set_option maxRecDepth 100000 in
theorem ok_L_isSo (l : Launch) (hinj : hInj ad) (S : hS) (hf : ad 99 1 = 0) (vv : Int) (h_vv : hIn vv) (hp : p_L_isSo S vv) : hMx D ad cI cJ cF l yL_isSo cL_isSo 13 ({ frames := 8, cells := 32, slots := 256, locals := 209 } : Room) [.ref (ad 11 0), .ref (ad 10 1), .ref (ad 10 2), .ref (ad 10 3), .ref (ad 10 4), .ref (ad 10 5), .ref (ad 10 6), .ref (ad 10 7), .ref (ad 10 8), .ref (ad 10 9), .ref (ad 10 10), .ref (ad 10 11), .int (hI vv)] S (q_L_isSo S vv) 32 := by
  refine hOf (S := S) l hinj (by decide +kernel) (Nat.le_of_ble_eq_true rfl) (fun p e s m args below meth c E => ?_)
  obtain ⟨hx, hb, hml, hown, hts, hK, hN, -, hr, hlk, hz⟩ := id E
  have hown : s.vm.findClass RL = some m.cls := hown
  intro H locs ls hh hl
  have hl : lv_has ls 13 [(0, .ref (ad 11 0)), (1, .ref (ad 10 1)), (2, .ref (ad 10 2)), (3, .ref (ad 10 3)), (4, .ref (ad 10 4)), (5, .ref (ad 10 5)), (6, .ref (ad 10 6)), (7, .ref (ad 10 7)), (8, .ref (ad 10 8)), (9, .ref (ad 10 9)), (10, .ref (ad 10 10)), (11, .ref (ad 10 11)), (12, .int (hI vv))] := hl
  have h := x_L_isSo S vv h_vv (fun g i k hi => hh.2.1 g i k hi) hp (fun r S1 => ((r : Int) = 1 ∧ q_L_isSo S vv S1))  (fun S2 hq => ⟨rfl, hq⟩)
  refine lv_aload_n hx hb dL_isSo_0 rfl (lv_at hl 0 rfl) ?_
  refine lv_aload_n hx hb dL_isSo_1 rfl (lv_at hl 1 rfl) ?_
  refine lv_aload_n hx hb dL_isSo_2 rfl (lv_at hl 3 rfl) ?_
  refine lv_aload hx hb dL_isSo_3 (lv_at hl 4 rfl) ?_
  refine lv_aload hx hb dL_isSo_5 (lv_at hl 5 rfl) ?_
  refine lv_aload hx hb dL_isSo_7 (lv_at hl 6 rfl) ?_
  refine lv_aload hx hb dL_isSo_9 (lv_at hl 7 rfl) ?_
  obtain ⟨g1, h⟩ := h
  refine iv_kx (iv_rS (As := [.ref (ad 11 0), .ref (ad 10 1), .ref (ad 10 3), .ref (ad 10 4), .ref (ad 10 5), .ref (ad 10 6), .ref (ad 10 7)]) (rest := []) E hh (ok_L_areStems l hinj S g1) cb_L_areStems q3_24 rfl rfl ⟨Nat.le_of_ble_eq_true rfl, Nat.le_of_ble_eq_true rfl⟩ rfl hl.1 rfl (Nat.le_of_ble_eq_true rfl) dL_isSo_11 ⟨Nat.zero_le _, Nat.zero_le _⟩) hh (fun Z2 hq3 H locs hh => ?_)
  have h := h Z2 (fun g i k hi => hh.2.1 g i k hi) hq3
  refine iv_if_eq (tgt := 102) hx hb ⟨by decide, by decide⟩ dL_isSo_14 (by decide) (fun c4 => ?_) (fun c4 => ?_)
  · exact absurd c4 (by decide)
  · refine lv_aload_n hx hb dL_isSo_17 rfl (lv_at hl 0 rfl) ?_
    refine lv_aload_n hx hb dL_isSo_18 rfl (lv_at hl 1 rfl) ?_
    refine lv_aload_n hx hb dL_isSo_19 rfl (lv_at hl 2 rfl) ?_
    refine lv_aload_n hx hb dL_isSo_20 rfl (lv_at hl 3 rfl) ?_
    refine lv_aload hx hb dL_isSo_21 (lv_at hl 4 rfl) ?_
    refine lv_aload hx hb dL_isSo_23 (lv_at hl 5 rfl) ?_
    refine lv_aload hx hb dL_isSo_25 (lv_at hl 6 rfl) ?_
    refine lv_aload hx hb dL_isSo_27 (lv_at hl 7 rfl) ?_
    refine lv_aload hx hb dL_isSo_29 (lv_at hl 8 rfl) ?_
    refine lv_aload hx hb dL_isSo_31 (lv_at hl 9 rfl) ?_
    refine lv_aload hx hb dL_isSo_33 (lv_at hl 10 rfl) ?_
    refine lv_aload hx hb dL_isSo_35 (lv_at hl 11 rfl) ?_
    refine lv_iload hx hb dL_isSo_37 (lv_at hl 12 rfl) ?_
    obtain ⟨g5, h⟩ := h
    refine iv_kxC (iv_rSC (mc := 32) (As := [.ref (ad 11 0), .ref (ad 10 1), .ref (ad 10 2), .ref (ad 10 3), .ref (ad 10 4), .ref (ad 10 5), .ref (ad 10 6), .ref (ad 10 7), .ref (ad 10 8), .ref (ad 10 9), .ref (ad 10 10), .ref (ad 10 11), .int (hI vv)]) (rest := []) E hh (ok_L_areSheets l hinj Z2 hf vv h_vv g5) cb_L_areSheets q3_40 rfl rfl ⟨Nat.le_of_ble_eq_true rfl, Nat.le_of_ble_eq_true rfl⟩ rfl hl.1 rfl (Nat.le_of_ble_eq_true rfl) dL_isSo_39 (rm8 (k := 0) (mc := 32) (K := 32) (Nat.le_of_ble_eq_true rfl))) hh (fun Z6 hq7 H locs hh => ?_)
    have h := h Z6 (fun g i k hi => hh.2.1 g i k hi) hq7
    refine iv_if_eq (tgt := 102) hx hb ⟨by decide, by decide⟩ dL_isSo_42 (by decide) (fun c8 => ?_) (fun c8 => ?_)
    · exact absurd c8 (by decide)
    · refine lv_aload_n hx hb dL_isSo_45 rfl (lv_at hl 0 rfl) ?_
      refine lv_aload hx hb dL_isSo_46 (lv_at hl 7 rfl) ?_
      obtain ⟨g9, h⟩ := h
      refine iv_kx (iv_rS (As := [.ref (ad 11 0), .ref (ad 10 7)]) (rest := []) E hh (ok_L_areWidths l hinj Z6 g9) cb_L_areWidths q3_69 rfl rfl ⟨Nat.le_of_ble_eq_true rfl, Nat.le_of_ble_eq_true rfl⟩ rfl hl.1 rfl (Nat.le_of_ble_eq_true rfl) dL_isSo_48 (rk0 (k := 32) (K := 32) (Nat.le_of_ble_eq_true rfl))) hh (fun Z10 hq11 H locs hh => ?_)
      have h := h Z10 (fun g i k hi => hh.2.1 g i k hi) hq11
      refine iv_if_eq (tgt := 102) hx hb ⟨by decide, by decide⟩ dL_isSo_51 (by decide) (fun c12 => ?_) (fun c12 => ?_)
      · exact absurd c12 (by decide)
      · refine lv_aload_n hx hb dL_isSo_54 rfl (lv_at hl 0 rfl) ?_
        refine iv_iconst hx hb dL_isSo_55 ?_
        obtain ⟨g13, h⟩ := h
        refine iv_ki (iv_rV (As := [.int (hI 0)]) (rest := []) E hh (ok_X5_count l hinj Z10 0 ⟨by decide, by decide⟩ g13) cb_X5_count q1_229 rfl rfl ⟨Nat.le_of_ble_eq_true rfl, Nat.le_of_ble_eq_true rfl⟩ (ob_X) rfl rfl rfl hl.1 rfl (Nat.le_of_ble_eq_true rfl) dL_isSo_56 (rk0 (k := 32) (K := 32) (Nat.le_of_ble_eq_true rfl))) hh (fun hc14 H locs hh => ?_)
        refine lv_aload_n hx hb dL_isSo_59 rfl (lv_at hl 1 rfl) ?_
        refine iv_iconst hx hb dL_isSo_60 ?_
        refine iv_iald hx hb hK hh.1 ia_10_1 ⟨by decide, by decide⟩ (v := (((m_X5_count Z10 0) 10) 1 0)) rfl dL_isSo_61 ?_
        have hm15 : hIn (((m_X5_count Z10 0) 10) 1 0) := hIn_rd hh.2.1 rfl (by decide)
        refine iv_icmp_ne (tgt := 102) hx hb hc14 hm15 dL_isSo_62 (by decide) (fun c16 => ?_) (fun c16 => ?_)
        · have h := h.2 c16
          refine iv_iconst hx hb dL_isSo_102 ?_
          exact iv_xret E hh h.1 h.2 dL_isSo_103
        · have h := h.1 c16
          refine lv_aload_n hx hb dL_isSo_65 rfl (lv_at hl 0 rfl) ?_
          refine lv_bipush (v := hI 8) hx hb dL_isSo_66 (by decide) ?_
          obtain ⟨g17, h⟩ := h
          refine iv_ki (iv_rV (As := [.int (hI 8)]) (rest := []) E hh (ok_X5_count l hinj (m_X5_count Z10 0) 8 ⟨by decide, by decide⟩ g17) cb_X5_count q1_229 rfl rfl ⟨Nat.le_of_ble_eq_true rfl, Nat.le_of_ble_eq_true rfl⟩ (ob_X) rfl rfl rfl hl.1 rfl (Nat.le_of_ble_eq_true rfl) dL_isSo_68 (rk0 (k := 32) (K := 32) (Nat.le_of_ble_eq_true rfl))) hh (fun hc18 H locs hh => ?_)
          refine iv_if_ne (tgt := 102) hx hb hc18 dL_isSo_71 (by decide) (fun c19 => ?_) (fun c19 => ?_)
          · have h := h.2 c19
            refine iv_iconst hx hb dL_isSo_102 ?_
            exact iv_xret E hh h.1 h.2 dL_isSo_103
          · have h := h.1 c19
            refine lv_aload_n hx hb dL_isSo_74 rfl (lv_at hl 0 rfl) ?_
            refine lv_bipush (v := hI 20) hx hb dL_isSo_75 (by decide) ?_
            obtain ⟨g20, h⟩ := h
            refine iv_ki (iv_rV (As := [.int (hI 20)]) (rest := []) E hh (ok_X5_count l hinj (m_X5_count (m_X5_count Z10 0) 8) 20 ⟨by decide, by decide⟩ g20) cb_X5_count q1_229 rfl rfl ⟨Nat.le_of_ble_eq_true rfl, Nat.le_of_ble_eq_true rfl⟩ (ob_X) rfl rfl rfl hl.1 rfl (Nat.le_of_ble_eq_true rfl) dL_isSo_77 (rk0 (k := 32) (K := 32) (Nat.le_of_ble_eq_true rfl))) hh (fun hc21 H locs hh => ?_)
            refine lv_aload_n hx hb dL_isSo_80 rfl (lv_at hl 1 rfl) ?_
            refine iv_iconst hx hb dL_isSo_81 ?_
            refine iv_iald hx hb hK hh.1 ia_10_1 ⟨by decide, by decide⟩ (v := (((m_X5_count (m_X5_count (m_X5_count Z10 0) 8) 20) 10) 1 1)) rfl dL_isSo_82 ?_
            have hm22 : hIn (((m_X5_count (m_X5_count (m_X5_count Z10 0) 8) 20) 10) 1 1) := hIn_rd hh.2.1 rfl (by decide)
            refine iv_icmp_ne (tgt := 102) hx hb hc21 hm22 dL_isSo_83 (by decide) (fun c23 => ?_) (fun c23 => ?_)
            · have h := h.2 c23
              refine iv_iconst hx hb dL_isSo_102 ?_
              exact iv_xret E hh h.1 h.2 dL_isSo_103
            · have h := h.1 c23
              refine lv_aload_n hx hb dL_isSo_86 rfl (lv_at hl 0 rfl) ?_
              refine lv_bipush (v := hI 21) hx hb dL_isSo_87 (by decide) ?_
              obtain ⟨g24, h⟩ := h
              refine iv_ki (iv_rV (As := [.int (hI 21)]) (rest := []) E hh (ok_X5_count l hinj (m_X5_count (m_X5_count (m_X5_count Z10 0) 8) 20) 21 ⟨by decide, by decide⟩ g24) cb_X5_count q1_229 rfl rfl ⟨Nat.le_of_ble_eq_true rfl, Nat.le_of_ble_eq_true rfl⟩ (ob_X) rfl rfl rfl hl.1 rfl (Nat.le_of_ble_eq_true rfl) dL_isSo_89 (rk0 (k := 32) (K := 32) (Nat.le_of_ble_eq_true rfl))) hh (fun hc25 H locs hh => ?_)
              refine lv_aload_n hx hb dL_isSo_92 rfl (lv_at hl 1 rfl) ?_
              refine iv_iconst hx hb dL_isSo_93 ?_
              refine iv_iald hx hb hK hh.1 ia_10_1 ⟨by decide, by decide⟩ (v := (((m_X5_count (m_X5_count (m_X5_count (m_X5_count Z10 0) 8) 20) 21) 10) 1 2)) rfl dL_isSo_94 ?_
              have hm26 : hIn (((m_X5_count (m_X5_count (m_X5_count (m_X5_count Z10 0) 8) 20) 21) 10) 1 2) := hIn_rd hh.2.1 rfl (by decide)
              refine iv_icmp_ne (tgt := 102) hx hb hc25 hm26 dL_isSo_95 (by decide) (fun c27 => ?_) (fun c27 => ?_)
              · have h := h.2 c27
                refine iv_iconst hx hb dL_isSo_102 ?_
                exact iv_xret E hh h.1 h.2 dL_isSo_103
              · have h := h.1 c27
                refine iv_iconst hx hb dL_isSo_98 ?_
                refine lv_goto (tgt := 103) hx hb dL_isSo_99 (by decide) ?_
                exact iv_xret E hh h.1 h.2 dL_isSo_103
end

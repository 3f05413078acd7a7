section
variable {D : va_G} {ad : Nat → Nat → Nat} {cI cJ cF : ClassId}
set_option maxHeartbeats 4000000 in
set_option maxRecDepth 100000 in
theorem ok_L_stems (l : Launch) (hinj : hInj ad) (S : hS) (way : Int) (yy : Int) (h_way : hIn way) (h_yy : hIn yy) (hp : p_L_stems S way yy) : hMx D ad cI cJ cF l yL_stems cL_stems 15 ({ frames := 5, cells := 0, slots := 0, locals := 119 } : Room) [.ref (ad 11 0), .ref (ad 10 1), .ref (ad 10 3), .ref (ad 10 4), .ref (ad 10 5), .ref (ad 10 6), .int (hI way), .int (hI yy)] S (q_L_stems S way yy) 0 := by
  refine hOf (S := S) l hinj (by decide +kernel) (Nat.le_of_ble_eq_true rfl) (fun p e s m args below meth c E => ?_)
  obtain ⟨hx, hb, hml, hown, hts, hK, hN, -, hr, hlk, hz⟩ := id E
  have hown : s.vm.findClass RL = some m.cls := hown
  have r62 : ∀ (y8 : Int) (y9 : Int) (S1 : hS), hIn y8 → hIn y9 → ((∀ (g i : Nat) (k : Int), i < 100 → hIn (S1 g i k)) → ((way = 0 → (0 ≤ yy ∧ (hIn (yy % 3) ∧ (((yy % 3) = 0 → (hIn (yy / 8) ∧ (0 ≤ (yy / 8) ∧ (hAt D ad cI cJ cF p l e ({ frames := 5, cells := 0, slots := 0, locals := 119 } : Room) s m args below meth c (MQ below (hQx D ad cI cJ cF (q_L_stems S way yy)) args s 0 0 (hAd ad)) 15 91 [(0, .ref (ad 11 0)), (2, .ref (ad 10 3)), (3, .ref (ad 10 4)), (4, .ref (ad 10 5)), (5, .ref (ad 10 6)), (7, .int (hI yy)), (8, .int (hI y8)), (9, .int (hI y9)), (10, .int (hI ((yy / 8) % 1000)))] S1)))) ∧ (¬ (yy % 3) = 0 → (hIn (yy / 8) ∧ (0 ≤ (yy / 8) ∧ (hAt D ad cI cJ cF p l e ({ frames := 5, cells := 0, slots := 0, locals := 119 } : Room) s m args below meth c (MQ below (hQx D ad cI cJ cF (q_L_stems S way yy)) args s 0 0 (hAd ad)) 15 91 [(0, .ref (ad 11 0)), (2, .ref (ad 10 3)), (3, .ref (ad 10 4)), (4, .ref (ad 10 5)), (5, .ref (ad 10 6)), (7, .int (hI yy)), (8, .int (hI y8)), (9, .int (hI y9)), (10, .int (hI ((yy / 8) % 700)))] S1)))))))) ∧ (¬ way = 0 → (hAt D ad cI cJ cF p l e ({ frames := 5, cells := 0, slots := 0, locals := 119 } : Room) s m args below meth c (MQ below (hQx D ad cI cJ cF (q_L_stems S way yy)) args s 0 0 (hAd ad)) 15 363 [(0, .ref (ad 11 0)), (2, .ref (ad 10 3)), (3, .ref (ad 10 4)), (4, .ref (ad 10 5)), (5, .ref (ad 10 6)), (6, .int (hI way)), (7, .int (hI yy)), (8, .int (hI y8)), (9, .int (hI y9))] S1)))) → (hAt D ad cI cJ cF p l e ({ frames := 5, cells := 0, slots := 0, locals := 119 } : Room) s m args below meth c (MQ below (hQx D ad cI cJ cF (q_L_stems S way yy)) args s 0 0 (hAd ad)) 15 62 [(0, .ref (ad 11 0)), (2, .ref (ad 10 3)), (3, .ref (ad 10 4)), (4, .ref (ad 10 5)), (5, .ref (ad 10 6)), (6, .int (hI way)), (7, .int (hI yy)), (8, .int (hI y8)), (9, .int (hI y9))] S1) := by
    intro y8 y9 S1 h_y8 h_y9 h H locs ls hh hl
    have h := h (fun g i k hi => hh.2.1 g i k hi)
    refine lv_iload hx hb dL_stems_62 (lv_at hl 5 rfl) ?_
    refine iv_if_ne (tgt := 363) hx hb h_way dL_stems_64 (by decide) (fun c1 => ?_) (fun c1 => ?_)
    · have h := h.2 c1
      exact h H _ ls hh (lv_sub hl [0, 1, 2, 3, 4, 5, 6, 7, 8] rfl)
    · have h := h.1 c1
      refine lv_iload hx hb dL_stems_67 (lv_at hl 6 rfl) ?_
      refine lv_bipush (v := hI 8) hx hb dL_stems_69 (by decide) ?_
      obtain ⟨g2, h⟩ := h
      refine iv_idiv hx hb h_yy g2 ⟨by decide, by decide⟩ (by decide) dL_stems_71 ?_
      refine lv_iload hx hb dL_stems_72 (lv_at hl 6 rfl) ?_
      refine iv_iconst hx hb dL_stems_74 ?_
      refine iv_irem hx hb h_yy g2 ⟨by decide, by decide⟩ (by decide) dL_stems_75 ?_
      obtain ⟨g3, h⟩ := h
      refine iv_if_ne (tgt := 85) hx hb g3 dL_stems_76 (by decide) (fun c4 => ?_) (fun c4 => ?_)
      · have h := h.2 c4
        refine lv_sipush (v := hI 700) hx hb dL_stems_85 (by decide) ?_
        obtain ⟨g5, h⟩ := h
        obtain ⟨g6, h⟩ := h
        refine iv_irem hx hb g5 g6 ⟨by decide, by decide⟩ (by decide) dL_stems_88 ?_
        refine lv_istore (lv' := [(10, .int (hI ((yy / 8) % 700))), (0, .ref (ad 11 0)), (2, .ref (ad 10 3)), (3, .ref (ad 10 4)), (4, .ref (ad 10 5)), (5, .ref (ad 10 6)), (6, .int (hI way)), (7, .int (hI yy)), (8, .int (hI y8)), (9, .int (hI y9))]) hx hb dL_stems_89 hl (by decide) rfl (fun ls hl => ?_)
        exact h H _ ls hh (lv_sub hl [1, 2, 3, 4, 5, 7, 8, 9, 0] rfl)
      · have h := h.1 c4
        refine lv_sipush (v := hI 1000) hx hb dL_stems_79 (by decide) ?_
        refine lv_goto (tgt := 88) hx hb dL_stems_82 (by decide) ?_
        obtain ⟨g7, h⟩ := h
        obtain ⟨g8, h⟩ := h
        refine iv_irem hx hb g7 g8 ⟨by decide, by decide⟩ (by decide) dL_stems_88 ?_
        refine lv_istore (lv' := [(10, .int (hI ((yy / 8) % 1000))), (0, .ref (ad 11 0)), (2, .ref (ad 10 3)), (3, .ref (ad 10 4)), (4, .ref (ad 10 5)), (5, .ref (ad 10 6)), (6, .int (hI way)), (7, .int (hI yy)), (8, .int (hI y8)), (9, .int (hI y9))]) hx hb dL_stems_89 hl (by decide) rfl (fun ls hl => ?_)
        exact h H _ ls hh (lv_sub hl [1, 2, 3, 4, 5, 7, 8, 9, 0] rfl)
  have r91 : ∀ (y8 : Int) (y9 : Int) (y10 : Int) (S1 : hS), hIn y8 → hIn y9 → hIn y10 → ((∀ (g i : Nat) (k : Int), i < 100 → hIn (S1 g i k)) → (0 ≤ yy ∧ (hIn (yy % 5) ∧ (((yy % 5) = 0 → (hIn (yy / 7) ∧ (0 ≤ (yy / 7) ∧ (hAt D ad cI cJ cF p l e ({ frames := 5, cells := 0, slots := 0, locals := 119 } : Room) s m args below meth c (MQ below (hQx D ad cI cJ cF (q_L_stems S way yy)) args s 0 0 (hAd ad)) 15 116 [(0, .ref (ad 11 0)), (2, .ref (ad 10 3)), (3, .ref (ad 10 4)), (4, .ref (ad 10 5)), (5, .ref (ad 10 6)), (8, .int (hI y8)), (9, .int (hI y9)), (10, .int (hI y10)), (11, .int (hI (1 + ((yy / 7) % 300))))] S1)))) ∧ (¬ (yy % 5) = 0 → (hIn (yy / 7) ∧ (0 ≤ (yy / 7) ∧ (hAt D ad cI cJ cF p l e ({ frames := 5, cells := 0, slots := 0, locals := 119 } : Room) s m args below meth c (MQ below (hQx D ad cI cJ cF (q_L_stems S way yy)) args s 0 0 (hAd ad)) 15 116 [(0, .ref (ad 11 0)), (2, .ref (ad 10 3)), (3, .ref (ad 10 4)), (4, .ref (ad 10 5)), (5, .ref (ad 10 6)), (8, .int (hI y8)), (9, .int (hI y9)), (10, .int (hI y10)), (11, .int (hI (1 + ((yy / 7) % 90))))] S1)))))))) → (hAt D ad cI cJ cF p l e ({ frames := 5, cells := 0, slots := 0, locals := 119 } : Room) s m args below meth c (MQ below (hQx D ad cI cJ cF (q_L_stems S way yy)) args s 0 0 (hAd ad)) 15 91 [(0, .ref (ad 11 0)), (2, .ref (ad 10 3)), (3, .ref (ad 10 4)), (4, .ref (ad 10 5)), (5, .ref (ad 10 6)), (7, .int (hI yy)), (8, .int (hI y8)), (9, .int (hI y9)), (10, .int (hI y10))] S1) := by
    intro y8 y9 y10 S1 h_y8 h_y9 h_y10 h H locs ls hh hl
    have h := h (fun g i k hi => hh.2.1 g i k hi)
    refine iv_iconst hx hb dL_stems_91 ?_
    refine lv_iload hx hb dL_stems_92 (lv_at hl 5 rfl) ?_
    refine lv_bipush (v := hI 7) hx hb dL_stems_94 (by decide) ?_
    obtain ⟨g9, h⟩ := h
    refine iv_idiv hx hb h_yy g9 ⟨by decide, by decide⟩ (by decide) dL_stems_96 ?_
    refine lv_iload hx hb dL_stems_97 (lv_at hl 5 rfl) ?_
    refine iv_iconst hx hb dL_stems_99 ?_
    refine iv_irem hx hb h_yy g9 ⟨by decide, by decide⟩ (by decide) dL_stems_100 ?_
    obtain ⟨g10, h⟩ := h
    refine iv_if_ne (tgt := 110) hx hb g10 dL_stems_101 (by decide) (fun c11 => ?_) (fun c11 => ?_)
    · have h := h.2 c11
      refine lv_bipush (v := hI 90) hx hb dL_stems_110 (by decide) ?_
      obtain ⟨g12, h⟩ := h
      obtain ⟨g13, h⟩ := h
      refine iv_irem hx hb g12 g13 ⟨by decide, by decide⟩ (by decide) dL_stems_112 ?_
      refine iv_iadd hx hb dL_stems_113 ?_
      refine lv_istore (lv' := [(11, .int (hI (1 + ((yy / 7) % 90)))), (0, .ref (ad 11 0)), (2, .ref (ad 10 3)), (3, .ref (ad 10 4)), (4, .ref (ad 10 5)), (5, .ref (ad 10 6)), (7, .int (hI yy)), (8, .int (hI y8)), (9, .int (hI y9)), (10, .int (hI y10))]) hx hb dL_stems_114 hl (by decide) rfl (fun ls hl => ?_)
      exact h H _ ls hh (lv_sub hl [1, 2, 3, 4, 5, 7, 8, 9, 0] rfl)
    · have h := h.1 c11
      refine lv_sipush (v := hI 300) hx hb dL_stems_104 (by decide) ?_
      refine lv_goto (tgt := 112) hx hb dL_stems_107 (by decide) ?_
      obtain ⟨g14, h⟩ := h
      obtain ⟨g15, h⟩ := h
      refine iv_irem hx hb g14 g15 ⟨by decide, by decide⟩ (by decide) dL_stems_112 ?_
      refine iv_iadd hx hb dL_stems_113 ?_
      refine lv_istore (lv' := [(11, .int (hI (1 + ((yy / 7) % 300)))), (0, .ref (ad 11 0)), (2, .ref (ad 10 3)), (3, .ref (ad 10 4)), (4, .ref (ad 10 5)), (5, .ref (ad 10 6)), (7, .int (hI yy)), (8, .int (hI y8)), (9, .int (hI y9)), (10, .int (hI y10))]) hx hb dL_stems_114 hl (by decide) rfl (fun ls hl => ?_)
      exact h H _ ls hh (lv_sub hl [1, 2, 3, 4, 5, 7, 8, 9, 0] rfl)
  have r116 : ∀ (y8 : Int) (y9 : Int) (y10 : Int) (y11 : Int) (S1 : hS), hIn y8 → hIn y9 → hIn y10 → hIn y11 → ((∀ (g i : Nat) (k : Int), i < 100 → hIn (S1 g i k)) → (hAt D ad cI cJ cF p l e ({ frames := 5, cells := 0, slots := 0, locals := 119 } : Room) s m args below meth c (MQ below (hQx D ad cI cJ cF (q_L_stems S way yy)) args s 0 0 (hAd ad)) 15 126 [(0, .ref (ad 11 0)), (2, .ref (ad 10 3)), (3, .ref (ad 10 4)), (4, .ref (ad 10 5)), (5, .ref (ad 10 6)), (8, .int (hI y8)), (9, .int (hI y9)), (10, .int (hI y10)), (11, .int (hI y11)), (12, .int (hI 0)), (13, .int (hI 0)), (14, .int (hI y9))] S1)) → (hAt D ad cI cJ cF p l e ({ frames := 5, cells := 0, slots := 0, locals := 119 } : Room) s m args below meth c (MQ below (hQx D ad cI cJ cF (q_L_stems S way yy)) args s 0 0 (hAd ad)) 15 116 [(0, .ref (ad 11 0)), (2, .ref (ad 10 3)), (3, .ref (ad 10 4)), (4, .ref (ad 10 5)), (5, .ref (ad 10 6)), (8, .int (hI y8)), (9, .int (hI y9)), (10, .int (hI y10)), (11, .int (hI y11))] S1) := by
    intro y8 y9 y10 y11 S1 h_y8 h_y9 h_y10 h_y11 h H locs ls hh hl
    have h := h (fun g i k hi => hh.2.1 g i k hi)
    refine iv_iconst hx hb dL_stems_116 ?_
    refine lv_istore (lv' := [(12, .int (hI 0)), (0, .ref (ad 11 0)), (2, .ref (ad 10 3)), (3, .ref (ad 10 4)), (4, .ref (ad 10 5)), (5, .ref (ad 10 6)), (8, .int (hI y8)), (9, .int (hI y9)), (10, .int (hI y10)), (11, .int (hI y11))]) hx hb dL_stems_117 hl (by decide) rfl (fun ls hl => ?_)
    refine iv_iconst hx hb dL_stems_119 ?_
    refine lv_istore (lv' := [(13, .int (hI 0)), (12, .int (hI 0)), (0, .ref (ad 11 0)), (2, .ref (ad 10 3)), (3, .ref (ad 10 4)), (4, .ref (ad 10 5)), (5, .ref (ad 10 6)), (8, .int (hI y8)), (9, .int (hI y9)), (10, .int (hI y10)), (11, .int (hI y11))]) hx hb dL_stems_120 hl (by decide) rfl (fun ls hl => ?_)
    refine lv_iload hx hb dL_stems_122 (lv_at hl 8 rfl) ?_
    refine lv_istore (lv' := [(14, .int (hI y9)), (13, .int (hI 0)), (12, .int (hI 0)), (0, .ref (ad 11 0)), (2, .ref (ad 10 3)), (3, .ref (ad 10 4)), (4, .ref (ad 10 5)), (5, .ref (ad 10 6)), (8, .int (hI y8)), (9, .int (hI y9)), (10, .int (hI y10)), (11, .int (hI y11))]) hx hb dL_stems_124 hl (by decide) rfl (fun ls hl => ?_)
    exact h H _ ls hh (lv_sub hl [3, 4, 5, 6, 7, 8, 9, 10, 11, 2, 1, 0] rfl)
  have r126 : ∀ (y8 : Int) (y9 : Int) (y10 : Int) (y11 : Int) (y12 : Int) (y13 : Int) (y14 : Int) (S1 : hS), hIn y8 → hIn y9 → hIn y10 → hIn y11 → hIn y12 → hIn y13 → hIn y14 → ((∀ (g i : Nat) (k : Int), i < 100 → hIn (S1 g i k)) → ((0 ≤ y8 ∧ y8 < 8) ∧ (hIn (y9 + ((S1 10) 3 y8)) ∧ ((y14 < (y9 + ((S1 10) 3 y8)) → ((0 ≤ y14 ∧ y14 < 49) ∧ ((((S1 10) 4 y14) < y10 → (hAt D ad cI cJ cF p l e ({ frames := 5, cells := 0, slots := 0, locals := 119 } : Room) s m args below meth c (MQ below (hQx D ad cI cJ cF (q_L_stems S way yy)) args s 0 0 (hAd ad)) 15 157 [(0, .ref (ad 11 0)), (2, .ref (ad 10 3)), (3, .ref (ad 10 4)), (4, .ref (ad 10 5)), (5, .ref (ad 10 6)), (8, .int (hI y8)), (9, .int (hI y9)), (10, .int (hI y10)), (11, .int (hI y11)), (12, .int (hI (y12 + 1))), (13, .int (hI y13)), (14, .int (hI y14))] S1)) ∧ (¬ ((S1 10) 4 y14) < y10 → (hAt D ad cI cJ cF p l e ({ frames := 5, cells := 0, slots := 0, locals := 119 } : Room) s m args below meth c (MQ below (hQx D ad cI cJ cF (q_L_stems S way yy)) args s 0 0 (hAd ad)) 15 157 [(0, .ref (ad 11 0)), (2, .ref (ad 10 3)), (3, .ref (ad 10 4)), (4, .ref (ad 10 5)), (5, .ref (ad 10 6)), (8, .int (hI y8)), (9, .int (hI y9)), (10, .int (hI y10)), (11, .int (hI y11)), (12, .int (hI (y12 + 0))), (13, .int (hI y13)), (14, .int (hI y14))] S1))))) ∧ (¬ y14 < (y9 + ((S1 10) 3 y8)) → ((y13 = 0 → ((((S1 10) 3 y8) = 6 → (p_X5_stem S1 y8 y10 y11 ∧ (((v_X5_stem S1 y8 y10 y11) = (-1000003) → ((1 : Int) = 1 ∧ q_L_stems S way yy (m_X5_stem S1 y8 y10 y11))) ∧ (¬ (v_X5_stem S1 y8 y10 y11) = (-1000003) → ((0 : Int) = 1 ∧ q_L_stems S way yy (m_X5_stem S1 y8 y10 y11)))))) ∧ (¬ ((S1 10) 3 y8) = 6 → (hAt D ad cI cJ cF p l e ({ frames := 5, cells := 0, slots := 0, locals := 119 } : Room) s m args below meth c (MQ below (hQx D ad cI cJ cF (q_L_stems S way yy)) args s 0 0 (hAd ad)) 15 256 [(0, .ref (ad 11 0)), (2, .ref (ad 10 3)), (3, .ref (ad 10 4)), (4, .ref (ad 10 5)), (5, .ref (ad 10 6)), (8, .int (hI y8)), (9, .int (hI y9)), (10, .int (hI y10)), (11, .int (hI y11)), (12, .int (hI y12)), (14, .int (hI (y9 + ((S1 10) 3 y8))))] S1)))) ∧ (¬ y13 = 0 → (p_X5_stem S1 y8 y10 y11 ∧ (((v_X5_stem S1 y8 y10 y11) = (-1000002) → ((1 : Int) = 1 ∧ q_L_stems S way yy (m_X5_stem S1 y8 y10 y11))) ∧ (¬ (v_X5_stem S1 y8 y10 y11) = (-1000002) → ((0 : Int) = 1 ∧ q_L_stems S way yy (m_X5_stem S1 y8 y10 y11)))))))))))) → (hAt D ad cI cJ cF p l e ({ frames := 5, cells := 0, slots := 0, locals := 119 } : Room) s m args below meth c (MQ below (hQx D ad cI cJ cF (q_L_stems S way yy)) args s 0 0 (hAd ad)) 15 126 [(0, .ref (ad 11 0)), (2, .ref (ad 10 3)), (3, .ref (ad 10 4)), (4, .ref (ad 10 5)), (5, .ref (ad 10 6)), (8, .int (hI y8)), (9, .int (hI y9)), (10, .int (hI y10)), (11, .int (hI y11)), (12, .int (hI y12)), (13, .int (hI y13)), (14, .int (hI y14))] S1) := by
    intro y8 y9 y10 y11 y12 y13 y14 S1 h_y8 h_y9 h_y10 h_y11 h_y12 h_y13 h_y14 h H locs ls hh hl
    have h := h (fun g i k hi => hh.2.1 g i k hi)
    refine lv_iload hx hb dL_stems_126 (lv_at hl 11 rfl) ?_
    refine lv_iload hx hb dL_stems_128 (lv_at hl 6 rfl) ?_
    refine lv_aload_n hx hb dL_stems_130 rfl (lv_at hl 1 rfl) ?_
    refine lv_iload hx hb dL_stems_131 (lv_at hl 5 rfl) ?_
    obtain ⟨g16, h⟩ := h
    refine iv_iald hx hb hK hh.1 ia_10_3 g16 (v := ((S1 10) 3 y8)) rfl dL_stems_133 ?_
    have hm17 : hIn ((S1 10) 3 y8) := hIn_rd hh.2.1 rfl (by decide)
    refine iv_iadd hx hb dL_stems_134 ?_
    obtain ⟨g18, h⟩ := h
    refine iv_icmp_ge (tgt := 202) hx hb h_y14 g18 dL_stems_135 (by decide) (fun c19 => ?_) (fun c19 => ?_)
    · have h := h.2 c19
      refine lv_iload hx hb dL_stems_202 (lv_at hl 10 rfl) ?_
      refine iv_if_ne (tgt := 216) hx hb h_y13 dL_stems_204 (by decide) (fun c20 => ?_) (fun c20 => ?_)
      · have h := h.2 c20
        refine lv_aload_n hx hb dL_stems_216 rfl (lv_at hl 0 rfl) ?_
        refine lv_iload hx hb dL_stems_217 (lv_at hl 5 rfl) ?_
        refine lv_iload hx hb dL_stems_219 (lv_at hl 7 rfl) ?_
        refine lv_iload hx hb dL_stems_221 (lv_at hl 8 rfl) ?_
        obtain ⟨g21, h⟩ := h
        refine iv_ki (iv_rV (As := [.int (hI y8), .int (hI y10), .int (hI y11)]) (rest := []) E hh (ok_X5_stem l hinj S1 y8 y10 y11 h_y8 h_y10 h_y11 g21) cb_X5_stem q2_131 rfl rfl ⟨Nat.le_of_ble_eq_true rfl, Nat.le_of_ble_eq_true rfl⟩ (ob_X) rfl rfl rfl hl.1 rfl (Nat.le_of_ble_eq_true rfl) dL_stems_223 ⟨Nat.zero_le _, Nat.zero_le _⟩) hh (fun hc22 H locs hh => ?_)
        refine lv_iload hx hb dL_stems_226 (lv_at hl 10 rfl) ?_
        refine iv_if_eq (tgt := 236) hx hb h_y13 dL_stems_228 (by decide) (fun c23 => ?_) (fun c23 => ?_)
        · exact absurd c23 c20
        · refine iv_ldc (n := (-1000002)) hx hb (by decide) hown (hts _ q2_174) dL_stems_231 ?_
          refine lv_goto (tgt := 238) hx hb dL_stems_233 (by decide) ?_
          refine iv_icmp_ne (tgt := 245) hx hb hc22 ⟨by decide, by decide⟩ dL_stems_238 (by decide) (fun c24 => ?_) (fun c24 => ?_)
          · have h := h.2 c24
            refine iv_iconst hx hb dL_stems_245 ?_
            exact iv_xret E hh h.1 h.2 dL_stems_246
          · have h := h.1 c24
            refine iv_iconst hx hb dL_stems_241 ?_
            refine lv_goto (tgt := 246) hx hb dL_stems_242 (by decide) ?_
            exact iv_xret E hh h.1 h.2 dL_stems_246
      · have h := h.1 c20
        refine lv_aload_n hx hb dL_stems_207 rfl (lv_at hl 1 rfl) ?_
        refine lv_iload hx hb dL_stems_208 (lv_at hl 5 rfl) ?_
        refine iv_iald hx hb hK hh.1 ia_10_3 g16 (v := ((S1 10) 3 y8)) rfl dL_stems_210 ?_
        have hm25 : hIn ((S1 10) 3 y8) := hIn_rd hh.2.1 rfl (by decide)
        refine lv_bipush (v := hI 6) hx hb dL_stems_211 (by decide) ?_
        refine iv_icmp_ne (tgt := 247) hx hb hm25 ⟨by decide, by decide⟩ dL_stems_213 (by decide) (fun c26 => ?_) (fun c26 => ?_)
        · have h := h.2 c26
          refine lv_iload hx hb dL_stems_247 (lv_at hl 6 rfl) ?_
          refine lv_aload_n hx hb dL_stems_249 rfl (lv_at hl 1 rfl) ?_
          refine lv_iload hx hb dL_stems_250 (lv_at hl 5 rfl) ?_
          refine iv_iald hx hb hK hh.1 ia_10_3 g16 (v := ((S1 10) 3 y8)) rfl dL_stems_252 ?_
          have hm27 : hIn ((S1 10) 3 y8) := hIn_rd hh.2.1 rfl (by decide)
          refine iv_iadd hx hb dL_stems_253 ?_
          refine lv_istore (lv' := [(14, .int (hI (y9 + ((S1 10) 3 y8)))), (0, .ref (ad 11 0)), (2, .ref (ad 10 3)), (3, .ref (ad 10 4)), (4, .ref (ad 10 5)), (5, .ref (ad 10 6)), (8, .int (hI y8)), (9, .int (hI y9)), (10, .int (hI y10)), (11, .int (hI y11)), (12, .int (hI y12)), (13, .int (hI y13))]) hx hb dL_stems_254 hl (by decide) rfl (fun ls hl => ?_)
          exact h H _ ls hh (lv_sub hl [1, 2, 3, 4, 5, 6, 7, 8, 9, 10, 0] rfl)
        · have h := h.1 c26
          refine lv_aload_n hx hb dL_stems_216 rfl (lv_at hl 0 rfl) ?_
          refine lv_iload hx hb dL_stems_217 (lv_at hl 5 rfl) ?_
          refine lv_iload hx hb dL_stems_219 (lv_at hl 7 rfl) ?_
          refine lv_iload hx hb dL_stems_221 (lv_at hl 8 rfl) ?_
          obtain ⟨g28, h⟩ := h
          refine iv_ki (iv_rV (As := [.int (hI y8), .int (hI y10), .int (hI y11)]) (rest := []) E hh (ok_X5_stem l hinj S1 y8 y10 y11 h_y8 h_y10 h_y11 g28) cb_X5_stem q2_131 rfl rfl ⟨Nat.le_of_ble_eq_true rfl, Nat.le_of_ble_eq_true rfl⟩ (ob_X) rfl rfl rfl hl.1 rfl (Nat.le_of_ble_eq_true rfl) dL_stems_223 ⟨Nat.zero_le _, Nat.zero_le _⟩) hh (fun hc29 H locs hh => ?_)
          refine lv_iload hx hb dL_stems_226 (lv_at hl 10 rfl) ?_
          refine iv_if_eq (tgt := 236) hx hb h_y13 dL_stems_228 (by decide) (fun c30 => ?_) (fun c30 => ?_)
          · refine iv_ldc (n := (-1000003)) hx hb (by decide) hown (hts _ q2_127) dL_stems_236 ?_
            refine iv_icmp_ne (tgt := 245) hx hb hc29 ⟨by decide, by decide⟩ dL_stems_238 (by decide) (fun c31 => ?_) (fun c31 => ?_)
            · have h := h.2 c31
              refine iv_iconst hx hb dL_stems_245 ?_
              exact iv_xret E hh h.1 h.2 dL_stems_246
            · have h := h.1 c31
              refine iv_iconst hx hb dL_stems_241 ?_
              refine lv_goto (tgt := 246) hx hb dL_stems_242 (by decide) ?_
              exact iv_xret E hh h.1 h.2 dL_stems_246
          · exact absurd c20 c30
    · have h := h.1 c19
      refine lv_iload hx hb dL_stems_138 (lv_at hl 9 rfl) ?_
      refine lv_aload_n hx hb dL_stems_140 rfl (lv_at hl 2 rfl) ?_
      refine lv_iload hx hb dL_stems_141 (lv_at hl 11 rfl) ?_
      obtain ⟨g32, h⟩ := h
      refine iv_iald hx hb hK hh.1 ia_10_4 g32 (v := ((S1 10) 4 y14)) rfl dL_stems_143 ?_
      have hm33 : hIn ((S1 10) 4 y14) := hIn_rd hh.2.1 rfl (by decide)
      refine lv_iload hx hb dL_stems_144 (lv_at hl 7 rfl) ?_
      refine iv_icmp_ge (tgt := 153) hx hb hm33 h_y10 dL_stems_146 (by decide) (fun c34 => ?_) (fun c34 => ?_)
      · have h := h.2 c34
        refine iv_iconst hx hb dL_stems_153 ?_
        refine iv_iadd hx hb dL_stems_154 ?_
        refine lv_istore (lv' := [(12, .int (hI (y12 + 0))), (0, .ref (ad 11 0)), (2, .ref (ad 10 3)), (3, .ref (ad 10 4)), (4, .ref (ad 10 5)), (5, .ref (ad 10 6)), (8, .int (hI y8)), (9, .int (hI y9)), (10, .int (hI y10)), (11, .int (hI y11)), (13, .int (hI y13)), (14, .int (hI y14))]) hx hb dL_stems_155 hl (by decide) rfl (fun ls hl => ?_)
        exact h H _ ls hh (lv_sub hl [1, 2, 3, 4, 5, 6, 7, 8, 9, 0, 10, 11] rfl)
      · have h := h.1 c34
        refine iv_iconst hx hb dL_stems_149 ?_
        refine lv_goto (tgt := 154) hx hb dL_stems_150 (by decide) ?_
        refine iv_iadd hx hb dL_stems_154 ?_
        refine lv_istore (lv' := [(12, .int (hI (y12 + 1))), (0, .ref (ad 11 0)), (2, .ref (ad 10 3)), (3, .ref (ad 10 4)), (4, .ref (ad 10 5)), (5, .ref (ad 10 6)), (8, .int (hI y8)), (9, .int (hI y9)), (10, .int (hI y10)), (11, .int (hI y11)), (13, .int (hI y13)), (14, .int (hI y14))]) hx hb dL_stems_155 hl (by decide) rfl (fun ls hl => ?_)
        exact h H _ ls hh (lv_sub hl [1, 2, 3, 4, 5, 6, 7, 8, 9, 0, 10, 11] rfl)
  have r157 : ∀ (y8 : Int) (y9 : Int) (y10 : Int) (y11 : Int) (y12 : Int) (y13 : Int) (y14 : Int) (S1 : hS), hIn y8 → hIn y9 → hIn y10 → hIn y11 → hIn y12 → hIn y13 → hIn y14 → ((∀ (g i : Nat) (k : Int), i < 100 → hIn (S1 g i k)) → ((y13 = 0 → ((0 ≤ y14 ∧ y14 < 49) ∧ (hIn (((S1 10) 4 y14) + ((S1 10) 5 y14)) ∧ ((y10 < (((S1 10) 4 y14) + ((S1 10) 5 y14)) → (hIn (y10 + y11) ∧ ((((S1 10) 4 y14) < (y10 + y11) → (hAt D ad cI cJ cF p l e ({ frames := 5, cells := 0, slots := 0, locals := 119 } : Room) s m args below meth c (MQ below (hQx D ad cI cJ cF (q_L_stems S way yy)) args s 0 0 (hAd ad)) 15 126 [(0, .ref (ad 11 0)), (2, .ref (ad 10 3)), (3, .ref (ad 10 4)), (4, .ref (ad 10 5)), (5, .ref (ad 10 6)), (8, .int (hI y8)), (9, .int (hI y9)), (10, .int (hI y10)), (11, .int (hI y11)), (12, .int (hI y12)), (13, .int (hI 1)), (14, .int (hI (y14 + 1)))] S1)) ∧ (¬ ((S1 10) 4 y14) < (y10 + y11) → (hAt D ad cI cJ cF p l e ({ frames := 5, cells := 0, slots := 0, locals := 119 } : Room) s m args below meth c (MQ below (hQx D ad cI cJ cF (q_L_stems S way yy)) args s 0 0 (hAd ad)) 15 126 [(0, .ref (ad 11 0)), (2, .ref (ad 10 3)), (3, .ref (ad 10 4)), (4, .ref (ad 10 5)), (5, .ref (ad 10 6)), (8, .int (hI y8)), (9, .int (hI y9)), (10, .int (hI y10)), (11, .int (hI y11)), (12, .int (hI y12)), (13, .int (hI 0)), (14, .int (hI (y14 + 1)))] S1))))) ∧ (¬ y10 < (((S1 10) 4 y14) + ((S1 10) 5 y14)) → (hAt D ad cI cJ cF p l e ({ frames := 5, cells := 0, slots := 0, locals := 119 } : Room) s m args below meth c (MQ below (hQx D ad cI cJ cF (q_L_stems S way yy)) args s 0 0 (hAd ad)) 15 126 [(0, .ref (ad 11 0)), (2, .ref (ad 10 3)), (3, .ref (ad 10 4)), (4, .ref (ad 10 5)), (5, .ref (ad 10 6)), (8, .int (hI y8)), (9, .int (hI y9)), (10, .int (hI y10)), (11, .int (hI y11)), (12, .int (hI y12)), (13, .int (hI 0)), (14, .int (hI (y14 + 1)))] S1)))))) ∧ (¬ y13 = 0 → (hAt D ad cI cJ cF p l e ({ frames := 5, cells := 0, slots := 0, locals := 119 } : Room) s m args below meth c (MQ below (hQx D ad cI cJ cF (q_L_stems S way yy)) args s 0 0 (hAd ad)) 15 126 [(0, .ref (ad 11 0)), (2, .ref (ad 10 3)), (3, .ref (ad 10 4)), (4, .ref (ad 10 5)), (5, .ref (ad 10 6)), (8, .int (hI y8)), (9, .int (hI y9)), (10, .int (hI y10)), (11, .int (hI y11)), (12, .int (hI y12)), (13, .int (hI 1)), (14, .int (hI (y14 + 1)))] S1)))) → (hAt D ad cI cJ cF p l e ({ frames := 5, cells := 0, slots := 0, locals := 119 } : Room) s m args below meth c (MQ below (hQx D ad cI cJ cF (q_L_stems S way yy)) args s 0 0 (hAd ad)) 15 157 [(0, .ref (ad 11 0)), (2, .ref (ad 10 3)), (3, .ref (ad 10 4)), (4, .ref (ad 10 5)), (5, .ref (ad 10 6)), (8, .int (hI y8)), (9, .int (hI y9)), (10, .int (hI y10)), (11, .int (hI y11)), (12, .int (hI y12)), (13, .int (hI y13)), (14, .int (hI y14))] S1) := by
    intro y8 y9 y10 y11 y12 y13 y14 S1 h_y8 h_y9 h_y10 h_y11 h_y12 h_y13 h_y14 h H locs ls hh hl
    have h := h (fun g i k hi => hh.2.1 g i k hi)
    refine lv_iload hx hb dL_stems_157 (lv_at hl 10 rfl) ?_
    refine iv_if_ne (tgt := 189) hx hb h_y13 dL_stems_159 (by decide) (fun c35 => ?_) (fun c35 => ?_)
    · have h := h.2 c35
      refine iv_iconst hx hb dL_stems_189 ?_
      refine lv_goto (tgt := 194) hx hb dL_stems_190 (by decide) ?_
      refine lv_istore (lv' := [(13, .int (hI 1)), (0, .ref (ad 11 0)), (2, .ref (ad 10 3)), (3, .ref (ad 10 4)), (4, .ref (ad 10 5)), (5, .ref (ad 10 6)), (8, .int (hI y8)), (9, .int (hI y9)), (10, .int (hI y10)), (11, .int (hI y11)), (12, .int (hI y12)), (14, .int (hI y14))]) hx hb dL_stems_194 hl (by decide) rfl (fun ls hl => ?_)
      refine iv_iinc (lv' := [(14, .int (hI (y14 + 1))), (13, .int (hI 1)), (0, .ref (ad 11 0)), (2, .ref (ad 10 3)), (3, .ref (ad 10 4)), (4, .ref (ad 10 5)), (5, .ref (ad 10 6)), (8, .int (hI y8)), (9, .int (hI y9)), (10, .int (hI y10)), (11, .int (hI y11)), (12, .int (hI y12))]) hx hb dL_stems_196 hl (k := 11) rfl (v := (y14 + 1)) rfl (by decide) rfl (fun ls hl => ?_)
      refine lv_goto (tgt := 126) hx hb dL_stems_199 (by decide) ?_
      exact h H _ ls hh (lv_sub hl [2, 3, 4, 5, 6, 7, 8, 9, 10, 11, 1, 0] rfl)
    · have h := h.1 c35
      refine lv_iload hx hb dL_stems_162 (lv_at hl 7 rfl) ?_
      refine lv_aload_n hx hb dL_stems_164 rfl (lv_at hl 2 rfl) ?_
      refine lv_iload hx hb dL_stems_165 (lv_at hl 11 rfl) ?_
      obtain ⟨g36, h⟩ := h
      refine iv_iald hx hb hK hh.1 ia_10_4 g36 (v := ((S1 10) 4 y14)) rfl dL_stems_167 ?_
      have hm37 : hIn ((S1 10) 4 y14) := hIn_rd hh.2.1 rfl (by decide)
      refine lv_aload hx hb dL_stems_168 (lv_at hl 3 rfl) ?_
      refine lv_iload hx hb dL_stems_170 (lv_at hl 11 rfl) ?_
      refine iv_iald hx hb hK hh.1 ia_10_5 g36 (v := ((S1 10) 5 y14)) rfl dL_stems_172 ?_
      have hm38 : hIn ((S1 10) 5 y14) := hIn_rd hh.2.1 rfl (by decide)
      refine iv_iadd hx hb dL_stems_173 ?_
      obtain ⟨g39, h⟩ := h
      refine iv_icmp_ge (tgt := 193) hx hb h_y10 g39 dL_stems_174 (by decide) (fun c40 => ?_) (fun c40 => ?_)
      · have h := h.2 c40
        refine iv_iconst hx hb dL_stems_193 ?_
        refine lv_istore (lv' := [(13, .int (hI 0)), (0, .ref (ad 11 0)), (2, .ref (ad 10 3)), (3, .ref (ad 10 4)), (4, .ref (ad 10 5)), (5, .ref (ad 10 6)), (8, .int (hI y8)), (9, .int (hI y9)), (10, .int (hI y10)), (11, .int (hI y11)), (12, .int (hI y12)), (14, .int (hI y14))]) hx hb dL_stems_194 hl (by decide) rfl (fun ls hl => ?_)
        refine iv_iinc (lv' := [(14, .int (hI (y14 + 1))), (13, .int (hI 0)), (0, .ref (ad 11 0)), (2, .ref (ad 10 3)), (3, .ref (ad 10 4)), (4, .ref (ad 10 5)), (5, .ref (ad 10 6)), (8, .int (hI y8)), (9, .int (hI y9)), (10, .int (hI y10)), (11, .int (hI y11)), (12, .int (hI y12))]) hx hb dL_stems_196 hl (k := 11) rfl (v := (y14 + 1)) rfl (by decide) rfl (fun ls hl => ?_)
        refine lv_goto (tgt := 126) hx hb dL_stems_199 (by decide) ?_
        exact h H _ ls hh (lv_sub hl [2, 3, 4, 5, 6, 7, 8, 9, 10, 11, 1, 0] rfl)
      · have h := h.1 c40
        refine lv_aload_n hx hb dL_stems_177 rfl (lv_at hl 2 rfl) ?_
        refine lv_iload hx hb dL_stems_178 (lv_at hl 11 rfl) ?_
        refine iv_iald hx hb hK hh.1 ia_10_4 g36 (v := ((S1 10) 4 y14)) rfl dL_stems_180 ?_
        have hm41 : hIn ((S1 10) 4 y14) := hIn_rd hh.2.1 rfl (by decide)
        refine lv_iload hx hb dL_stems_181 (lv_at hl 7 rfl) ?_
        refine lv_iload hx hb dL_stems_183 (lv_at hl 8 rfl) ?_
        refine iv_iadd hx hb dL_stems_185 ?_
        obtain ⟨g42, h⟩ := h
        refine iv_icmp_ge (tgt := 193) hx hb hm41 g42 dL_stems_186 (by decide) (fun c43 => ?_) (fun c43 => ?_)
        · have h := h.2 c43
          refine iv_iconst hx hb dL_stems_193 ?_
          refine lv_istore (lv' := [(13, .int (hI 0)), (0, .ref (ad 11 0)), (2, .ref (ad 10 3)), (3, .ref (ad 10 4)), (4, .ref (ad 10 5)), (5, .ref (ad 10 6)), (8, .int (hI y8)), (9, .int (hI y9)), (10, .int (hI y10)), (11, .int (hI y11)), (12, .int (hI y12)), (14, .int (hI y14))]) hx hb dL_stems_194 hl (by decide) rfl (fun ls hl => ?_)
          refine iv_iinc (lv' := [(14, .int (hI (y14 + 1))), (13, .int (hI 0)), (0, .ref (ad 11 0)), (2, .ref (ad 10 3)), (3, .ref (ad 10 4)), (4, .ref (ad 10 5)), (5, .ref (ad 10 6)), (8, .int (hI y8)), (9, .int (hI y9)), (10, .int (hI y10)), (11, .int (hI y11)), (12, .int (hI y12))]) hx hb dL_stems_196 hl (k := 11) rfl (v := (y14 + 1)) rfl (by decide) rfl (fun ls hl => ?_)
          refine lv_goto (tgt := 126) hx hb dL_stems_199 (by decide) ?_
          exact h H _ ls hh (lv_sub hl [2, 3, 4, 5, 6, 7, 8, 9, 10, 11, 1, 0] rfl)
        · have h := h.1 c43
          refine iv_iconst hx hb dL_stems_189 ?_
          refine lv_goto (tgt := 194) hx hb dL_stems_190 (by decide) ?_
          refine lv_istore (lv' := [(13, .int (hI 1)), (0, .ref (ad 11 0)), (2, .ref (ad 10 3)), (3, .ref (ad 10 4)), (4, .ref (ad 10 5)), (5, .ref (ad 10 6)), (8, .int (hI y8)), (9, .int (hI y9)), (10, .int (hI y10)), (11, .int (hI y11)), (12, .int (hI y12)), (14, .int (hI y14))]) hx hb dL_stems_194 hl (by decide) rfl (fun ls hl => ?_)
          refine iv_iinc (lv' := [(14, .int (hI (y14 + 1))), (13, .int (hI 1)), (0, .ref (ad 11 0)), (2, .ref (ad 10 3)), (3, .ref (ad 10 4)), (4, .ref (ad 10 5)), (5, .ref (ad 10 6)), (8, .int (hI y8)), (9, .int (hI y9)), (10, .int (hI y10)), (11, .int (hI y11)), (12, .int (hI y12))]) hx hb dL_stems_196 hl (k := 11) rfl (v := (y14 + 1)) rfl (by decide) rfl (fun ls hl => ?_)
          refine lv_goto (tgt := 126) hx hb dL_stems_199 (by decide) ?_
          exact h H _ ls hh (lv_sub hl [2, 3, 4, 5, 6, 7, 8, 9, 10, 11, 1, 0] rfl)
  have r256 : ∀ (y8 : Int) (y9 : Int) (y10 : Int) (y11 : Int) (y12 : Int) (y14 : Int) (S1 : hS), hIn y8 → hIn y9 → hIn y10 → hIn y11 → hIn y12 → hIn y14 → ((∀ (g i : Nat) (k : Int), i < 100 → hIn (S1 g i k)) → (hIn (y9 + y12) ∧ ((y14 ≤ (y9 + y12) → ((0 ≤ (y9 + y12) ∧ (y9 + y12) < 49) ∧ ((0 ≤ y8 ∧ y8 < 8) ∧ (hIn (((aset (aset (aset (S1 10) 4 (y9 + y12) y10) 5 (y9 + y12) y11) 6 (y9 + y12) 0) 3 y8) + 1) ∧ (p_X5_stem (gset S1 10 (aset (aset (aset (aset (S1 10) 4 (y9 + y12) y10) 5 (y9 + y12) y11) 6 (y9 + y12) 0) 3 y8 (((aset (aset (aset (S1 10) 4 (y9 + y12) y10) 5 (y9 + y12) y11) 6 (y9 + y12) 0) 3 y8) + 1))) y8 y10 y11 ∧ (((v_X5_stem (gset S1 10 (aset (aset (aset (aset (S1 10) 4 (y9 + y12) y10) 5 (y9 + y12) y11) 6 (y9 + y12) 0) 3 y8 (((aset (aset (aset (S1 10) 4 (y9 + y12) y10) 5 (y9 + y12) y11) 6 (y9 + y12) 0) 3 y8) + 1))) y8 y10 y11) = y12 → ((1 : Int) = 1 ∧ q_L_stems S way yy (m_X5_stem (gset S1 10 (aset (aset (aset (aset (S1 10) 4 (y9 + y12) y10) 5 (y9 + y12) y11) 6 (y9 + y12) 0) 3 y8 (((aset (aset (aset (S1 10) 4 (y9 + y12) y10) 5 (y9 + y12) y11) 6 (y9 + y12) 0) 3 y8) + 1))) y8 y10 y11))) ∧ (¬ (v_X5_stem (gset S1 10 (aset (aset (aset (aset (S1 10) 4 (y9 + y12) y10) 5 (y9 + y12) y11) 6 (y9 + y12) 0) 3 y8 (((aset (aset (aset (S1 10) 4 (y9 + y12) y10) 5 (y9 + y12) y11) 6 (y9 + y12) 0) 3 y8) + 1))) y8 y10 y11) = y12 → ((0 : Int) = 1 ∧ q_L_stems S way yy (m_X5_stem (gset S1 10 (aset (aset (aset (aset (S1 10) 4 (y9 + y12) y10) 5 (y9 + y12) y11) 6 (y9 + y12) 0) 3 y8 (((aset (aset (aset (S1 10) 4 (y9 + y12) y10) 5 (y9 + y12) y11) 6 (y9 + y12) 0) 3 y8) + 1))) y8 y10 y11))))))))) ∧ (¬ y14 ≤ (y9 + y12) → ((0 ≤ (y14 - 1) ∧ (y14 - 1) < 49) ∧ ((0 ≤ y14 ∧ y14 < 49) ∧ (hAt D ad cI cJ cF p l e ({ frames := 5, cells := 0, slots := 0, locals := 119 } : Room) s m args below meth c (MQ below (hQx D ad cI cJ cF (q_L_stems S way yy)) args s 0 0 (hAd ad)) 15 256 [(0, .ref (ad 11 0)), (2, .ref (ad 10 3)), (3, .ref (ad 10 4)), (4, .ref (ad 10 5)), (5, .ref (ad 10 6)), (8, .int (hI y8)), (9, .int (hI y9)), (10, .int (hI y10)), (11, .int (hI y11)), (12, .int (hI y12)), (14, .int (hI (y14 + (-1))))] (gset S1 10 (aset (aset (aset (S1 10) 4 y14 ((S1 10) 4 (y14 - 1))) 5 y14 ((aset (S1 10) 4 y14 ((S1 10) 4 (y14 - 1))) 5 (y14 - 1))) 6 y14 ((aset (aset (S1 10) 4 y14 ((S1 10) 4 (y14 - 1))) 5 y14 ((aset (S1 10) 4 y14 ((S1 10) 4 (y14 - 1))) 5 (y14 - 1))) 6 (y14 - 1))))))))))) → (hAt D ad cI cJ cF p l e ({ frames := 5, cells := 0, slots := 0, locals := 119 } : Room) s m args below meth c (MQ below (hQx D ad cI cJ cF (q_L_stems S way yy)) args s 0 0 (hAd ad)) 15 256 [(0, .ref (ad 11 0)), (2, .ref (ad 10 3)), (3, .ref (ad 10 4)), (4, .ref (ad 10 5)), (5, .ref (ad 10 6)), (8, .int (hI y8)), (9, .int (hI y9)), (10, .int (hI y10)), (11, .int (hI y11)), (12, .int (hI y12)), (14, .int (hI y14))] S1) := by
    intro y8 y9 y10 y11 y12 y14 S1 h_y8 h_y9 h_y10 h_y11 h_y12 h_y14 h H locs ls hh hl
    have h := h (fun g i k hi => hh.2.1 g i k hi)
    refine lv_iload hx hb dL_stems_256 (lv_at hl 10 rfl) ?_
    refine lv_iload hx hb dL_stems_258 (lv_at hl 6 rfl) ?_
    refine lv_iload hx hb dL_stems_260 (lv_at hl 9 rfl) ?_
    refine iv_iadd hx hb dL_stems_262 ?_
    obtain ⟨g44, h⟩ := h
    refine iv_icmp_le (tgt := 306) hx hb h_y14 g44 dL_stems_263 (by decide) (fun c45 => ?_) (fun c45 => ?_)
    · have h := h.1 c45
      refine lv_aload_n hx hb dL_stems_306 rfl (lv_at hl 2 rfl) ?_
      refine lv_iload hx hb dL_stems_307 (lv_at hl 6 rfl) ?_
      refine lv_iload hx hb dL_stems_309 (lv_at hl 9 rfl) ?_
      refine iv_iadd hx hb dL_stems_311 ?_
      refine lv_iload hx hb dL_stems_312 (lv_at hl 7 rfl) ?_
      obtain ⟨g46, h⟩ := h
      refine iv_iast (S' := (gset S1 10 (aset (S1 10) 4 (y9 + y12) y10))) hx hb hK hinj hh ia_10_4 g46 h_y10 rfl dL_stems_314 (fun H locs hh => ?_)
      refine lv_aload hx hb dL_stems_315 (lv_at hl 3 rfl) ?_
      refine lv_iload hx hb dL_stems_317 (lv_at hl 6 rfl) ?_
      refine lv_iload hx hb dL_stems_319 (lv_at hl 9 rfl) ?_
      refine iv_iadd hx hb dL_stems_321 ?_
      refine lv_iload hx hb dL_stems_322 (lv_at hl 8 rfl) ?_
      refine iv_iast (S' := (gset S1 10 (aset (aset (S1 10) 4 (y9 + y12) y10) 5 (y9 + y12) y11))) hx hb hK hinj hh ia_10_5 g46 h_y11 (by rw [show (gset S1 10 (aset (S1 10) 4 (y9 + y12) y10)) 10 = (aset (S1 10) 4 (y9 + y12) y10) from (gset_at _ _ _)]; exact (gset_gset _ _ _ _)) dL_stems_324 (fun H locs hh => ?_)
      refine lv_aload hx hb dL_stems_325 (lv_at hl 4 rfl) ?_
      refine lv_iload hx hb dL_stems_327 (lv_at hl 6 rfl) ?_
      refine lv_iload hx hb dL_stems_329 (lv_at hl 9 rfl) ?_
      refine iv_iadd hx hb dL_stems_331 ?_
      refine iv_iconst hx hb dL_stems_332 ?_
      refine iv_iast (S' := (gset S1 10 (aset (aset (aset (S1 10) 4 (y9 + y12) y10) 5 (y9 + y12) y11) 6 (y9 + y12) 0))) hx hb hK hinj hh ia_10_6 g46 ⟨by decide, by decide⟩ (by rw [show (gset S1 10 (aset (aset (S1 10) 4 (y9 + y12) y10) 5 (y9 + y12) y11)) 10 = (aset (aset (S1 10) 4 (y9 + y12) y10) 5 (y9 + y12) y11) from (gset_at _ _ _)]; exact (gset_gset _ _ _ _)) dL_stems_333 (fun H locs hh => ?_)
      refine lv_aload_n hx hb dL_stems_334 rfl (lv_at hl 1 rfl) ?_
      refine lv_iload hx hb dL_stems_335 (lv_at hl 5 rfl) ?_
      refine lv_dup2_11 hx hb dL_stems_337 rfl rfl ?_
      obtain ⟨g47, h⟩ := h
      refine iv_iald hx hb hK hh.1 ia_10_3 g47 (v := ((aset (aset (aset (S1 10) 4 (y9 + y12) y10) 5 (y9 + y12) y11) 6 (y9 + y12) 0) 3 y8)) (congrArg (fun z => z 3 y8) (gset_at _ _ _)) dL_stems_338 ?_
      have hm48 : hIn ((aset (aset (aset (S1 10) 4 (y9 + y12) y10) 5 (y9 + y12) y11) 6 (y9 + y12) 0) 3 y8) := hIn_rd hh.2.1 (gset_at _ _ _) (by decide)
      refine iv_iconst hx hb dL_stems_339 ?_
      refine iv_iadd hx hb dL_stems_340 ?_
      obtain ⟨g49, h⟩ := h
      refine iv_iast (S' := (gset S1 10 (aset (aset (aset (aset (S1 10) 4 (y9 + y12) y10) 5 (y9 + y12) y11) 6 (y9 + y12) 0) 3 y8 (((aset (aset (aset (S1 10) 4 (y9 + y12) y10) 5 (y9 + y12) y11) 6 (y9 + y12) 0) 3 y8) + 1)))) hx hb hK hinj hh ia_10_3 g47 g49 (by rw [show (gset S1 10 (aset (aset (aset (S1 10) 4 (y9 + y12) y10) 5 (y9 + y12) y11) 6 (y9 + y12) 0)) 10 = (aset (aset (aset (S1 10) 4 (y9 + y12) y10) 5 (y9 + y12) y11) 6 (y9 + y12) 0) from (gset_at _ _ _)]; exact (gset_gset _ _ _ _)) dL_stems_341 (fun H locs hh => ?_)
      refine lv_aload_n hx hb dL_stems_342 rfl (lv_at hl 0 rfl) ?_
      refine lv_iload hx hb dL_stems_343 (lv_at hl 5 rfl) ?_
      refine lv_iload hx hb dL_stems_345 (lv_at hl 7 rfl) ?_
      refine lv_iload hx hb dL_stems_347 (lv_at hl 8 rfl) ?_
      obtain ⟨g50, h⟩ := h
      refine iv_ki (iv_rV (As := [.int (hI y8), .int (hI y10), .int (hI y11)]) (rest := []) E hh (ok_X5_stem l hinj (gset S1 10 (aset (aset (aset (aset (S1 10) 4 (y9 + y12) y10) 5 (y9 + y12) y11) 6 (y9 + y12) 0) 3 y8 (((aset (aset (aset (S1 10) 4 (y9 + y12) y10) 5 (y9 + y12) y11) 6 (y9 + y12) 0) 3 y8) + 1))) y8 y10 y11 h_y8 h_y10 h_y11 g50) cb_X5_stem q2_131 rfl rfl ⟨Nat.le_of_ble_eq_true rfl, Nat.le_of_ble_eq_true rfl⟩ (ob_X) rfl rfl rfl hl.1 rfl (Nat.le_of_ble_eq_true rfl) dL_stems_349 ⟨Nat.zero_le _, Nat.zero_le _⟩) hh (fun hc51 H locs hh => ?_)
      refine lv_iload hx hb dL_stems_352 (lv_at hl 9 rfl) ?_
      refine iv_icmp_ne (tgt := 361) hx hb hc51 h_y12 dL_stems_354 (by decide) (fun c52 => ?_) (fun c52 => ?_)
      · have h := h.2 c52
        refine iv_iconst hx hb dL_stems_361 ?_
        exact iv_xret E hh h.1 h.2 dL_stems_362
      · have h := h.1 c52
        refine iv_iconst hx hb dL_stems_357 ?_
        refine lv_goto (tgt := 362) hx hb dL_stems_358 (by decide) ?_
        exact iv_xret E hh h.1 h.2 dL_stems_362
    · have h := h.2 c45
      refine lv_aload_n hx hb dL_stems_266 rfl (lv_at hl 2 rfl) ?_
      refine lv_iload hx hb dL_stems_267 (lv_at hl 10 rfl) ?_
      refine lv_aload_n hx hb dL_stems_269 rfl (lv_at hl 2 rfl) ?_
      refine lv_iload hx hb dL_stems_270 (lv_at hl 10 rfl) ?_
      refine iv_iconst hx hb dL_stems_272 ?_
      refine iv_isub hx hb dL_stems_273 ?_
      obtain ⟨g53, h⟩ := h
      refine iv_iald hx hb hK hh.1 ia_10_4 g53 (v := ((S1 10) 4 (y14 - 1))) rfl dL_stems_274 ?_
      have hm54 : hIn ((S1 10) 4 (y14 - 1)) := hIn_rd hh.2.1 rfl (by decide)
      obtain ⟨g55, h⟩ := h
      refine iv_iast (S' := (gset S1 10 (aset (S1 10) 4 y14 ((S1 10) 4 (y14 - 1))))) hx hb hK hinj hh ia_10_4 g55 hm54 rfl dL_stems_275 (fun H locs hh => ?_)
      refine lv_aload hx hb dL_stems_276 (lv_at hl 3 rfl) ?_
      refine lv_iload hx hb dL_stems_278 (lv_at hl 10 rfl) ?_
      refine lv_aload hx hb dL_stems_280 (lv_at hl 3 rfl) ?_
      refine lv_iload hx hb dL_stems_282 (lv_at hl 10 rfl) ?_
      refine iv_iconst hx hb dL_stems_284 ?_
      refine iv_isub hx hb dL_stems_285 ?_
      refine iv_iald hx hb hK hh.1 ia_10_5 g53 (v := ((aset (S1 10) 4 y14 ((S1 10) 4 (y14 - 1))) 5 (y14 - 1))) (congrArg (fun z => z 5 (y14 - 1)) (gset_at _ _ _)) dL_stems_286 ?_
      have hm56 : hIn ((aset (S1 10) 4 y14 ((S1 10) 4 (y14 - 1))) 5 (y14 - 1)) := hIn_rd hh.2.1 (gset_at _ _ _) (by decide)
      refine iv_iast (S' := (gset S1 10 (aset (aset (S1 10) 4 y14 ((S1 10) 4 (y14 - 1))) 5 y14 ((aset (S1 10) 4 y14 ((S1 10) 4 (y14 - 1))) 5 (y14 - 1))))) hx hb hK hinj hh ia_10_5 g55 hm56 (by rw [show (gset S1 10 (aset (S1 10) 4 y14 ((S1 10) 4 (y14 - 1)))) 10 = (aset (S1 10) 4 y14 ((S1 10) 4 (y14 - 1))) from (gset_at _ _ _)]; exact (gset_gset _ _ _ _)) dL_stems_287 (fun H locs hh => ?_)
      refine lv_aload hx hb dL_stems_288 (lv_at hl 4 rfl) ?_
      refine lv_iload hx hb dL_stems_290 (lv_at hl 10 rfl) ?_
      refine lv_aload hx hb dL_stems_292 (lv_at hl 4 rfl) ?_
      refine lv_iload hx hb dL_stems_294 (lv_at hl 10 rfl) ?_
      refine iv_iconst hx hb dL_stems_296 ?_
      refine iv_isub hx hb dL_stems_297 ?_
      refine iv_iald hx hb hK hh.1 ia_10_6 g53 (v := ((aset (aset (S1 10) 4 y14 ((S1 10) 4 (y14 - 1))) 5 y14 ((aset (S1 10) 4 y14 ((S1 10) 4 (y14 - 1))) 5 (y14 - 1))) 6 (y14 - 1))) (congrArg (fun z => z 6 (y14 - 1)) (gset_at _ _ _)) dL_stems_298 ?_
      have hm57 : hIn ((aset (aset (S1 10) 4 y14 ((S1 10) 4 (y14 - 1))) 5 y14 ((aset (S1 10) 4 y14 ((S1 10) 4 (y14 - 1))) 5 (y14 - 1))) 6 (y14 - 1)) := hIn_rd hh.2.1 (gset_at _ _ _) (by decide)
      refine iv_iast (S' := (gset S1 10 (aset (aset (aset (S1 10) 4 y14 ((S1 10) 4 (y14 - 1))) 5 y14 ((aset (S1 10) 4 y14 ((S1 10) 4 (y14 - 1))) 5 (y14 - 1))) 6 y14 ((aset (aset (S1 10) 4 y14 ((S1 10) 4 (y14 - 1))) 5 y14 ((aset (S1 10) 4 y14 ((S1 10) 4 (y14 - 1))) 5 (y14 - 1))) 6 (y14 - 1))))) hx hb hK hinj hh ia_10_6 g55 hm57 (by rw [show (gset S1 10 (aset (aset (S1 10) 4 y14 ((S1 10) 4 (y14 - 1))) 5 y14 ((aset (S1 10) 4 y14 ((S1 10) 4 (y14 - 1))) 5 (y14 - 1)))) 10 = (aset (aset (S1 10) 4 y14 ((S1 10) 4 (y14 - 1))) 5 y14 ((aset (S1 10) 4 y14 ((S1 10) 4 (y14 - 1))) 5 (y14 - 1))) from (gset_at _ _ _)]; exact (gset_gset _ _ _ _)) dL_stems_299 (fun H locs hh => ?_)
      refine iv_iinc (lv' := [(14, .int (hI (y14 + (-1)))), (0, .ref (ad 11 0)), (2, .ref (ad 10 3)), (3, .ref (ad 10 4)), (4, .ref (ad 10 5)), (5, .ref (ad 10 6)), (8, .int (hI y8)), (9, .int (hI y9)), (10, .int (hI y10)), (11, .int (hI y11)), (12, .int (hI y12))]) hx hb dL_stems_300 hl (k := 10) rfl (v := (y14 + (-1))) rfl (by decide) rfl (fun ls hl => ?_)
      refine lv_goto (tgt := 256) hx hb dL_stems_303 (by decide) ?_
      exact h H _ ls hh (lv_sub hl [1, 2, 3, 4, 5, 6, 7, 8, 9, 10, 0] rfl)
  have r363 : ∀ (y8 : Int) (y9 : Int) (S1 : hS), hIn y8 → hIn y9 → ((∀ (g i : Nat) (k : Int), i < 100 → hIn (S1 g i k)) → ((0 ≤ y8 ∧ y8 < 8) ∧ ((((S1 10) 3 y8) = 0 → (p_X5_cut S1 y8 0 ∧ (((v_X5_cut S1 y8 0) = (-1000001) → (p_X5_hint (m_X5_cut S1 y8 0) y8 0 1 ∧ (((v_X5_hint (m_X5_cut S1 y8 0) y8 0 1) = (-1000001) → ((1 : Int) = 1 ∧ q_L_stems S way yy (m_X5_hint (m_X5_cut S1 y8 0) y8 0 1))) ∧ (¬ (v_X5_hint (m_X5_cut S1 y8 0) y8 0 1) = (-1000001) → ((0 : Int) = 1 ∧ q_L_stems S way yy (m_X5_hint (m_X5_cut S1 y8 0) y8 0 1)))))) ∧ (¬ (v_X5_cut S1 y8 0) = (-1000001) → ((0 : Int) = 1 ∧ q_L_stems S way yy (m_X5_cut S1 y8 0)))))) ∧ (¬ ((S1 10) 3 y8) = 0 → (0 ≤ yy ∧ (hIn (yy / 8) ∧ (0 ≤ (yy / 8) ∧ (0 < ((S1 10) 3 y8) ∧ (hAt D ad cI cJ cF p l e ({ frames := 5, cells := 0, slots := 0, locals := 119 } : Room) s m args below meth c (MQ below (hQx D ad cI cJ cF (q_L_stems S way yy)) args s 0 0 (hAd ad)) 15 413 [(0, .ref (ad 11 0)), (2, .ref (ad 10 3)), (3, .ref (ad 10 4)), (4, .ref (ad 10 5)), (5, .ref (ad 10 6)), (6, .int (hI way)), (7, .int (hI yy)), (8, .int (hI y8)), (9, .int (hI y9)), (10, .int (hI ((yy / 8) % ((S1 10) 3 y8))))] S1))))))))) → (hAt D ad cI cJ cF p l e ({ frames := 5, cells := 0, slots := 0, locals := 119 } : Room) s m args below meth c (MQ below (hQx D ad cI cJ cF (q_L_stems S way yy)) args s 0 0 (hAd ad)) 15 363 [(0, .ref (ad 11 0)), (2, .ref (ad 10 3)), (3, .ref (ad 10 4)), (4, .ref (ad 10 5)), (5, .ref (ad 10 6)), (6, .int (hI way)), (7, .int (hI yy)), (8, .int (hI y8)), (9, .int (hI y9))] S1) := by
    intro y8 y9 S1 h_y8 h_y9 h H locs ls hh hl
    have h := h (fun g i k hi => hh.2.1 g i k hi)
    refine lv_aload_n hx hb dL_stems_363 rfl (lv_at hl 1 rfl) ?_
    refine lv_iload hx hb dL_stems_364 (lv_at hl 7 rfl) ?_
    obtain ⟨g58, h⟩ := h
    refine iv_iald hx hb hK hh.1 ia_10_3 g58 (v := ((S1 10) 3 y8)) rfl dL_stems_366 ?_
    have hm59 : hIn ((S1 10) 3 y8) := hIn_rd hh.2.1 rfl (by decide)
    refine iv_if_ne (tgt := 401) hx hb hm59 dL_stems_367 (by decide) (fun c60 => ?_) (fun c60 => ?_)
    · have h := h.2 c60
      refine lv_iload hx hb dL_stems_401 (lv_at hl 6 rfl) ?_
      refine lv_bipush (v := hI 8) hx hb dL_stems_403 (by decide) ?_
      obtain ⟨g61, h⟩ := h
      refine iv_idiv hx hb h_yy g61 ⟨by decide, by decide⟩ (by decide) dL_stems_405 ?_
      refine lv_aload_n hx hb dL_stems_406 rfl (lv_at hl 1 rfl) ?_
      refine lv_iload hx hb dL_stems_407 (lv_at hl 7 rfl) ?_
      refine iv_iald hx hb hK hh.1 ia_10_3 g58 (v := ((S1 10) 3 y8)) rfl dL_stems_409 ?_
      have hm62 : hIn ((S1 10) 3 y8) := hIn_rd hh.2.1 rfl (by decide)
      obtain ⟨g63, h⟩ := h
      obtain ⟨g64, h⟩ := h
      obtain ⟨g65, h⟩ := h
      refine iv_irem hx hb g63 g64 hm62 g65 dL_stems_410 ?_
      refine lv_istore (lv' := [(10, .int (hI ((yy / 8) % ((S1 10) 3 y8)))), (0, .ref (ad 11 0)), (2, .ref (ad 10 3)), (3, .ref (ad 10 4)), (4, .ref (ad 10 5)), (5, .ref (ad 10 6)), (6, .int (hI way)), (7, .int (hI yy)), (8, .int (hI y8)), (9, .int (hI y9))]) hx hb dL_stems_411 hl (by decide) rfl (fun ls hl => ?_)
      exact h H _ ls hh (lv_sub hl [1, 2, 3, 4, 5, 6, 7, 8, 9, 0] rfl)
    · have h := h.1 c60
      refine lv_aload_n hx hb dL_stems_370 rfl (lv_at hl 0 rfl) ?_
      refine lv_iload hx hb dL_stems_371 (lv_at hl 7 rfl) ?_
      refine iv_iconst hx hb dL_stems_373 ?_
      obtain ⟨g66, h⟩ := h
      refine iv_ki (iv_rV (As := [.int (hI y8), .int (hI 0)]) (rest := []) E hh (ok_X5_cut l hinj S1 y8 0 h_y8 ⟨by decide, by decide⟩ g66) cb_X5_cut q2_154 rfl rfl ⟨Nat.le_of_ble_eq_true rfl, Nat.le_of_ble_eq_true rfl⟩ (ob_X) rfl rfl rfl hl.1 rfl (Nat.le_of_ble_eq_true rfl) dL_stems_374 ⟨Nat.zero_le _, Nat.zero_le _⟩) hh (fun hc67 H locs hh => ?_)
      refine iv_ldc (n := (-1000001)) hx hb (by decide) hown (hts _ q2_153) dL_stems_377 ?_
      refine iv_icmp_ne (tgt := 399) hx hb hc67 ⟨by decide, by decide⟩ dL_stems_379 (by decide) (fun c68 => ?_) (fun c68 => ?_)
      · have h := h.2 c68
        refine iv_iconst hx hb dL_stems_399 ?_
        exact iv_xret E hh h.1 h.2 dL_stems_400
      · have h := h.1 c68
        refine lv_aload_n hx hb dL_stems_382 rfl (lv_at hl 0 rfl) ?_
        refine lv_iload hx hb dL_stems_383 (lv_at hl 7 rfl) ?_
        refine iv_iconst hx hb dL_stems_385 ?_
        refine iv_iconst hx hb dL_stems_386 ?_
        obtain ⟨g69, h⟩ := h
        refine iv_ki (iv_rV (As := [.int (hI y8), .int (hI 0), .int (hI 1)]) (rest := []) E hh (ok_X5_hint l hinj (m_X5_cut S1 y8 0) y8 0 1 h_y8 ⟨by decide, by decide⟩ ⟨by decide, by decide⟩ g69) cb_X5_hint q2_166 rfl rfl ⟨Nat.le_of_ble_eq_true rfl, Nat.le_of_ble_eq_true rfl⟩ (ob_X) rfl rfl rfl hl.1 rfl (Nat.le_of_ble_eq_true rfl) dL_stems_387 ⟨Nat.zero_le _, Nat.zero_le _⟩) hh (fun hc70 H locs hh => ?_)
        refine iv_ldc (n := (-1000001)) hx hb (by decide) hown (hts _ q2_153) dL_stems_390 ?_
        refine iv_icmp_ne (tgt := 399) hx hb hc70 ⟨by decide, by decide⟩ dL_stems_392 (by decide) (fun c71 => ?_) (fun c71 => ?_)
        · have h := h.2 c71
          refine iv_iconst hx hb dL_stems_399 ?_
          exact iv_xret E hh h.1 h.2 dL_stems_400
        · have h := h.1 c71
          refine iv_iconst hx hb dL_stems_395 ?_
          refine lv_goto (tgt := 400) hx hb dL_stems_396 (by decide) ?_
          exact iv_xret E hh h.1 h.2 dL_stems_400
  have r413 : ∀ (y8 : Int) (y9 : Int) (y10 : Int) (S1 : hS), hIn y8 → hIn y9 → hIn y10 → ((∀ (g i : Nat) (k : Int), i < 100 → hIn (S1 g i k)) → ((way = 1 → ((0 ≤ (y9 + y10) ∧ (y9 + y10) < 49) ∧ (0 ≤ yy ∧ (hIn (yy / 48) ∧ (0 ≤ (yy / 48) ∧ (hIn ((yy / 48) % 4) ∧ (p_X5_hint (gset S1 10 (aset (S1 10) 6 (y9 + y10) ((yy / 48) % 4))) y8 y10 ((aset (S1 10) 6 (y9 + y10) ((yy / 48) % 4)) 6 (y9 + y10)) ∧ (((v_X5_hint (gset S1 10 (aset (S1 10) 6 (y9 + y10) ((yy / 48) % 4))) y8 y10 ((aset (S1 10) 6 (y9 + y10) ((yy / 48) % 4)) 6 (y9 + y10))) = ((S1 10) 6 (y9 + y10)) → ((1 : Int) = 1 ∧ q_L_stems S way yy (m_X5_hint (gset S1 10 (aset (S1 10) 6 (y9 + y10) ((yy / 48) % 4))) y8 y10 ((aset (S1 10) 6 (y9 + y10) ((yy / 48) % 4)) 6 (y9 + y10))))) ∧ (¬ (v_X5_hint (gset S1 10 (aset (S1 10) 6 (y9 + y10) ((yy / 48) % 4))) y8 y10 ((aset (S1 10) 6 (y9 + y10) ((yy / 48) % 4)) 6 (y9 + y10))) = ((S1 10) 6 (y9 + y10)) → ((0 : Int) = 1 ∧ q_L_stems S way yy (m_X5_hint (gset S1 10 (aset (S1 10) 6 (y9 + y10) ((yy / 48) % 4))) y8 y10 ((aset (S1 10) 6 (y9 + y10) ((yy / 48) % 4)) 6 (y9 + y10))))))))))))) ∧ (¬ way = 1 → (hAt D ad cI cJ cF p l e ({ frames := 5, cells := 0, slots := 0, locals := 119 } : Room) s m args below meth c (MQ below (hQx D ad cI cJ cF (q_L_stems S way yy)) args s 0 0 (hAd ad)) 15 471 [(0, .ref (ad 11 0)), (2, .ref (ad 10 3)), (3, .ref (ad 10 4)), (4, .ref (ad 10 5)), (5, .ref (ad 10 6)), (8, .int (hI y8)), (9, .int (hI y9)), (10, .int (hI y10))] S1)))) → (hAt D ad cI cJ cF p l e ({ frames := 5, cells := 0, slots := 0, locals := 119 } : Room) s m args below meth c (MQ below (hQx D ad cI cJ cF (q_L_stems S way yy)) args s 0 0 (hAd ad)) 15 413 [(0, .ref (ad 11 0)), (2, .ref (ad 10 3)), (3, .ref (ad 10 4)), (4, .ref (ad 10 5)), (5, .ref (ad 10 6)), (6, .int (hI way)), (7, .int (hI yy)), (8, .int (hI y8)), (9, .int (hI y9)), (10, .int (hI y10))] S1) := by
    intro y8 y9 y10 S1 h_y8 h_y9 h_y10 h H locs ls hh hl
    have h := h (fun g i k hi => hh.2.1 g i k hi)
    refine lv_iload hx hb dL_stems_413 (lv_at hl 5 rfl) ?_
    refine iv_iconst hx hb dL_stems_415 ?_
    refine iv_icmp_ne (tgt := 471) hx hb h_way ⟨by decide, by decide⟩ dL_stems_416 (by decide) (fun c72 => ?_) (fun c72 => ?_)
    · have h := h.2 c72
      exact h H _ ls hh (lv_sub hl [0, 1, 2, 3, 4, 7, 8, 9] rfl)
    · have h := h.1 c72
      refine lv_aload hx hb dL_stems_419 (lv_at hl 4 rfl) ?_
      refine lv_iload hx hb dL_stems_421 (lv_at hl 8 rfl) ?_
      refine lv_iload hx hb dL_stems_423 (lv_at hl 9 rfl) ?_
      refine iv_iadd hx hb dL_stems_425 ?_
      obtain ⟨g73, h⟩ := h
      refine iv_iald hx hb hK hh.1 ia_10_6 g73 (v := ((S1 10) 6 (y9 + y10))) rfl dL_stems_426 ?_
      have hm74 : hIn ((S1 10) 6 (y9 + y10)) := hIn_rd hh.2.1 rfl (by decide)
      refine lv_istore (lv' := [(11, .int (hI ((S1 10) 6 (y9 + y10)))), (0, .ref (ad 11 0)), (2, .ref (ad 10 3)), (3, .ref (ad 10 4)), (4, .ref (ad 10 5)), (5, .ref (ad 10 6)), (6, .int (hI way)), (7, .int (hI yy)), (8, .int (hI y8)), (9, .int (hI y9)), (10, .int (hI y10))]) hx hb dL_stems_427 hl (by decide) rfl (fun ls hl => ?_)
      refine lv_aload hx hb dL_stems_429 (lv_at hl 5 rfl) ?_
      refine lv_iload hx hb dL_stems_431 (lv_at hl 9 rfl) ?_
      refine lv_iload hx hb dL_stems_433 (lv_at hl 10 rfl) ?_
      refine iv_iadd hx hb dL_stems_435 ?_
      refine lv_iload hx hb dL_stems_436 (lv_at hl 7 rfl) ?_
      refine lv_bipush (v := hI 48) hx hb dL_stems_438 (by decide) ?_
      obtain ⟨g75, h⟩ := h
      refine iv_idiv hx hb h_yy g75 ⟨by decide, by decide⟩ (by decide) dL_stems_440 ?_
      refine iv_iconst hx hb dL_stems_441 ?_
      obtain ⟨g76, h⟩ := h
      obtain ⟨g77, h⟩ := h
      refine iv_irem hx hb g76 g77 ⟨by decide, by decide⟩ (by decide) dL_stems_442 ?_
      obtain ⟨g78, h⟩ := h
      refine iv_iast (S' := (gset S1 10 (aset (S1 10) 6 (y9 + y10) ((yy / 48) % 4)))) hx hb hK hinj hh ia_10_6 g73 g78 rfl dL_stems_443 (fun H locs hh => ?_)
      refine lv_aload_n hx hb dL_stems_444 rfl (lv_at hl 1 rfl) ?_
      refine lv_iload hx hb dL_stems_445 (lv_at hl 8 rfl) ?_
      refine lv_iload hx hb dL_stems_447 (lv_at hl 10 rfl) ?_
      refine lv_aload hx hb dL_stems_449 (lv_at hl 5 rfl) ?_
      refine lv_iload hx hb dL_stems_451 (lv_at hl 9 rfl) ?_
      refine lv_iload hx hb dL_stems_453 (lv_at hl 10 rfl) ?_
      refine iv_iadd hx hb dL_stems_455 ?_
      refine iv_iald hx hb hK hh.1 ia_10_6 g73 (v := ((aset (S1 10) 6 (y9 + y10) ((yy / 48) % 4)) 6 (y9 + y10))) (congrArg (fun z => z 6 (y9 + y10)) (gset_at _ _ _)) dL_stems_456 ?_
      have hm79 : hIn ((aset (S1 10) 6 (y9 + y10) ((yy / 48) % 4)) 6 (y9 + y10)) := hIn_rd hh.2.1 (gset_at _ _ _) (by decide)
      obtain ⟨g80, h⟩ := h
      refine iv_ki (iv_rV (As := [.int (hI y8), .int (hI y10), .int (hI ((aset (S1 10) 6 (y9 + y10) ((yy / 48) % 4)) 6 (y9 + y10)))]) (rest := []) E hh (ok_X5_hint l hinj (gset S1 10 (aset (S1 10) 6 (y9 + y10) ((yy / 48) % 4))) y8 y10 ((aset (S1 10) 6 (y9 + y10) ((yy / 48) % 4)) 6 (y9 + y10)) h_y8 h_y10 hm79 g80) cb_X5_hint q2_166 rfl rfl ⟨Nat.le_of_ble_eq_true rfl, Nat.le_of_ble_eq_true rfl⟩ (ob_X) rfl rfl rfl hl.1 rfl (Nat.le_of_ble_eq_true rfl) dL_stems_457 ⟨Nat.zero_le _, Nat.zero_le _⟩) hh (fun hc81 H locs hh => ?_)
      refine lv_iload hx hb dL_stems_460 (lv_at hl 0 rfl) ?_
      refine iv_icmp_ne (tgt := 469) hx hb hc81 hm74 dL_stems_462 (by decide) (fun c82 => ?_) (fun c82 => ?_)
      · have h := h.2 c82
        refine iv_iconst hx hb dL_stems_469 ?_
        exact iv_xret E hh h.1 h.2 dL_stems_470
      · have h := h.1 c82
        refine iv_iconst hx hb dL_stems_465 ?_
        refine lv_goto (tgt := 470) hx hb dL_stems_466 (by decide) ?_
        exact iv_xret E hh h.1 h.2 dL_stems_470
  have r471 : ∀ (y8 : Int) (y9 : Int) (y10 : Int) (S1 : hS), hIn y8 → hIn y9 → hIn y10 → ((∀ (g i : Nat) (k : Int), i < 100 → hIn (S1 g i k)) → ((0 ≤ y8 ∧ y8 < 8) ∧ (hIn (((S1 10) 3 y8) - 1) ∧ (hAt D ad cI cJ cF p l e ({ frames := 5, cells := 0, slots := 0, locals := 119 } : Room) s m args below meth c (MQ below (hQx D ad cI cJ cF (q_L_stems S way yy)) args s 0 0 (hAd ad)) 15 486 [(0, .ref (ad 11 0)), (2, .ref (ad 10 3)), (3, .ref (ad 10 4)), (4, .ref (ad 10 5)), (5, .ref (ad 10 6)), (8, .int (hI y8)), (9, .int (hI y9)), (10, .int (hI y10)), (11, .int (hI (y9 + y10)))] (gset S1 10 (aset (S1 10) 3 y8 (((S1 10) 3 y8) - 1))))))) → (hAt D ad cI cJ cF p l e ({ frames := 5, cells := 0, slots := 0, locals := 119 } : Room) s m args below meth c (MQ below (hQx D ad cI cJ cF (q_L_stems S way yy)) args s 0 0 (hAd ad)) 15 471 [(0, .ref (ad 11 0)), (2, .ref (ad 10 3)), (3, .ref (ad 10 4)), (4, .ref (ad 10 5)), (5, .ref (ad 10 6)), (8, .int (hI y8)), (9, .int (hI y9)), (10, .int (hI y10))] S1) := by
    intro y8 y9 y10 S1 h_y8 h_y9 h_y10 h H locs ls hh hl
    have h := h (fun g i k hi => hh.2.1 g i k hi)
    refine lv_aload_n hx hb dL_stems_471 rfl (lv_at hl 1 rfl) ?_
    refine lv_iload hx hb dL_stems_472 (lv_at hl 5 rfl) ?_
    refine lv_dup2_11 hx hb dL_stems_474 rfl rfl ?_
    obtain ⟨g83, h⟩ := h
    refine iv_iald hx hb hK hh.1 ia_10_3 g83 (v := ((S1 10) 3 y8)) rfl dL_stems_475 ?_
    have hm84 : hIn ((S1 10) 3 y8) := hIn_rd hh.2.1 rfl (by decide)
    refine iv_iconst hx hb dL_stems_476 ?_
    refine iv_isub hx hb dL_stems_477 ?_
    obtain ⟨g85, h⟩ := h
    refine iv_iast (S' := (gset S1 10 (aset (S1 10) 3 y8 (((S1 10) 3 y8) - 1)))) hx hb hK hinj hh ia_10_3 g83 g85 rfl dL_stems_478 (fun H locs hh => ?_)
    refine lv_iload hx hb dL_stems_479 (lv_at hl 6 rfl) ?_
    refine lv_iload hx hb dL_stems_481 (lv_at hl 7 rfl) ?_
    refine iv_iadd hx hb dL_stems_483 ?_
    refine lv_istore (lv' := [(11, .int (hI (y9 + y10))), (0, .ref (ad 11 0)), (2, .ref (ad 10 3)), (3, .ref (ad 10 4)), (4, .ref (ad 10 5)), (5, .ref (ad 10 6)), (8, .int (hI y8)), (9, .int (hI y9)), (10, .int (hI y10))]) hx hb dL_stems_484 hl (by decide) rfl (fun ls hl => ?_)
    exact h H _ ls hh (lv_sub hl [1, 2, 3, 4, 5, 6, 7, 8, 0] rfl)
  have r486 : ∀ (y8 : Int) (y9 : Int) (y10 : Int) (y11 : Int) (S1 : hS), hIn y8 → hIn y9 → hIn y10 → hIn y11 → ((∀ (g i : Nat) (k : Int), i < 100 → hIn (S1 g i k)) → ((0 ≤ y8 ∧ y8 < 8) ∧ (hIn (y9 + ((S1 10) 3 y8)) ∧ ((y11 < (y9 + ((S1 10) 3 y8)) → ((0 ≤ (y11 + 1) ∧ (y11 + 1) < 49) ∧ ((0 ≤ y11 ∧ y11 < 49) ∧ (hAt D ad cI cJ cF p l e ({ frames := 5, cells := 0, slots := 0, locals := 119 } : Room) s m args below meth c (MQ below (hQx D ad cI cJ cF (q_L_stems S way yy)) args s 0 0 (hAd ad)) 15 486 [(0, .ref (ad 11 0)), (2, .ref (ad 10 3)), (3, .ref (ad 10 4)), (4, .ref (ad 10 5)), (5, .ref (ad 10 6)), (8, .int (hI y8)), (9, .int (hI y9)), (10, .int (hI y10)), (11, .int (hI (y11 + 1)))] (gset S1 10 (aset (aset (aset (S1 10) 4 y11 ((S1 10) 4 (y11 + 1))) 5 y11 ((aset (S1 10) 4 y11 ((S1 10) 4 (y11 + 1))) 5 (y11 + 1))) 6 y11 ((aset (aset (S1 10) 4 y11 ((S1 10) 4 (y11 + 1))) 5 y11 ((aset (S1 10) 4 y11 ((S1 10) 4 (y11 + 1))) 5 (y11 + 1))) 6 (y11 + 1)))))))) ∧ (¬ y11 < (y9 + ((S1 10) 3 y8)) → (p_X5_cut S1 y8 y10 ∧ (((v_X5_cut S1 y8 y10) = (((m_X5_cut S1 y8 y10) 10) 3 y8) → ((1 : Int) = 1 ∧ q_L_stems S way yy (m_X5_cut S1 y8 y10))) ∧ (¬ (v_X5_cut S1 y8 y10) = (((m_X5_cut S1 y8 y10) 10) 3 y8) → ((0 : Int) = 1 ∧ q_L_stems S way yy (m_X5_cut S1 y8 y10)))))))))) → (hAt D ad cI cJ cF p l e ({ frames := 5, cells := 0, slots := 0, locals := 119 } : Room) s m args below meth c (MQ below (hQx D ad cI cJ cF (q_L_stems S way yy)) args s 0 0 (hAd ad)) 15 486 [(0, .ref (ad 11 0)), (2, .ref (ad 10 3)), (3, .ref (ad 10 4)), (4, .ref (ad 10 5)), (5, .ref (ad 10 6)), (8, .int (hI y8)), (9, .int (hI y9)), (10, .int (hI y10)), (11, .int (hI y11))] S1) := by
    intro y8 y9 y10 y11 S1 h_y8 h_y9 h_y10 h_y11 h H locs ls hh hl
    have h := h (fun g i k hi => hh.2.1 g i k hi)
    refine lv_iload hx hb dL_stems_486 (lv_at hl 8 rfl) ?_
    refine lv_iload hx hb dL_stems_488 (lv_at hl 6 rfl) ?_
    refine lv_aload_n hx hb dL_stems_490 rfl (lv_at hl 1 rfl) ?_
    refine lv_iload hx hb dL_stems_491 (lv_at hl 5 rfl) ?_
    obtain ⟨g86, h⟩ := h
    refine iv_iald hx hb hK hh.1 ia_10_3 g86 (v := ((S1 10) 3 y8)) rfl dL_stems_493 ?_
    have hm87 : hIn ((S1 10) 3 y8) := hIn_rd hh.2.1 rfl (by decide)
    refine iv_iadd hx hb dL_stems_494 ?_
    obtain ⟨g88, h⟩ := h
    refine iv_icmp_ge (tgt := 538) hx hb h_y11 g88 dL_stems_495 (by decide) (fun c89 => ?_) (fun c89 => ?_)
    · have h := h.2 c89
      refine lv_aload_n hx hb dL_stems_538 rfl (lv_at hl 0 rfl) ?_
      refine lv_iload hx hb dL_stems_539 (lv_at hl 5 rfl) ?_
      refine lv_iload hx hb dL_stems_541 (lv_at hl 7 rfl) ?_
      obtain ⟨g90, h⟩ := h
      refine iv_ki (iv_rV (As := [.int (hI y8), .int (hI y10)]) (rest := []) E hh (ok_X5_cut l hinj S1 y8 y10 h_y8 h_y10 g90) cb_X5_cut q2_154 rfl rfl ⟨Nat.le_of_ble_eq_true rfl, Nat.le_of_ble_eq_true rfl⟩ (ob_X) rfl rfl rfl hl.1 rfl (Nat.le_of_ble_eq_true rfl) dL_stems_543 ⟨Nat.zero_le _, Nat.zero_le _⟩) hh (fun hc91 H locs hh => ?_)
      refine lv_aload_n hx hb dL_stems_546 rfl (lv_at hl 1 rfl) ?_
      refine lv_iload hx hb dL_stems_547 (lv_at hl 5 rfl) ?_
      refine iv_iald hx hb hK hh.1 ia_10_3 g86 (v := (((m_X5_cut S1 y8 y10) 10) 3 y8)) rfl dL_stems_549 ?_
      have hm92 : hIn (((m_X5_cut S1 y8 y10) 10) 3 y8) := hIn_rd hh.2.1 rfl (by decide)
      refine iv_icmp_ne (tgt := 557) hx hb hc91 hm92 dL_stems_550 (by decide) (fun c93 => ?_) (fun c93 => ?_)
      · have h := h.2 c93
        refine iv_iconst hx hb dL_stems_557 ?_
        exact iv_xret E hh h.1 h.2 dL_stems_558
      · have h := h.1 c93
        refine iv_iconst hx hb dL_stems_553 ?_
        refine lv_goto (tgt := 558) hx hb dL_stems_554 (by decide) ?_
        exact iv_xret E hh h.1 h.2 dL_stems_558
    · have h := h.1 c89
      refine lv_aload_n hx hb dL_stems_498 rfl (lv_at hl 2 rfl) ?_
      refine lv_iload hx hb dL_stems_499 (lv_at hl 8 rfl) ?_
      refine lv_aload_n hx hb dL_stems_501 rfl (lv_at hl 2 rfl) ?_
      refine lv_iload hx hb dL_stems_502 (lv_at hl 8 rfl) ?_
      refine iv_iconst hx hb dL_stems_504 ?_
      refine iv_iadd hx hb dL_stems_505 ?_
      obtain ⟨g94, h⟩ := h
      refine iv_iald hx hb hK hh.1 ia_10_4 g94 (v := ((S1 10) 4 (y11 + 1))) rfl dL_stems_506 ?_
      have hm95 : hIn ((S1 10) 4 (y11 + 1)) := hIn_rd hh.2.1 rfl (by decide)
      obtain ⟨g96, h⟩ := h
      refine iv_iast (S' := (gset S1 10 (aset (S1 10) 4 y11 ((S1 10) 4 (y11 + 1))))) hx hb hK hinj hh ia_10_4 g96 hm95 rfl dL_stems_507 (fun H locs hh => ?_)
      refine lv_aload hx hb dL_stems_508 (lv_at hl 3 rfl) ?_
      refine lv_iload hx hb dL_stems_510 (lv_at hl 8 rfl) ?_
      refine lv_aload hx hb dL_stems_512 (lv_at hl 3 rfl) ?_
      refine lv_iload hx hb dL_stems_514 (lv_at hl 8 rfl) ?_
      refine iv_iconst hx hb dL_stems_516 ?_
      refine iv_iadd hx hb dL_stems_517 ?_
      refine iv_iald hx hb hK hh.1 ia_10_5 g94 (v := ((aset (S1 10) 4 y11 ((S1 10) 4 (y11 + 1))) 5 (y11 + 1))) (congrArg (fun z => z 5 (y11 + 1)) (gset_at _ _ _)) dL_stems_518 ?_
      have hm97 : hIn ((aset (S1 10) 4 y11 ((S1 10) 4 (y11 + 1))) 5 (y11 + 1)) := hIn_rd hh.2.1 (gset_at _ _ _) (by decide)
      refine iv_iast (S' := (gset S1 10 (aset (aset (S1 10) 4 y11 ((S1 10) 4 (y11 + 1))) 5 y11 ((aset (S1 10) 4 y11 ((S1 10) 4 (y11 + 1))) 5 (y11 + 1))))) hx hb hK hinj hh ia_10_5 g96 hm97 (by rw [show (gset S1 10 (aset (S1 10) 4 y11 ((S1 10) 4 (y11 + 1)))) 10 = (aset (S1 10) 4 y11 ((S1 10) 4 (y11 + 1))) from (gset_at _ _ _)]; exact (gset_gset _ _ _ _)) dL_stems_519 (fun H locs hh => ?_)
      refine lv_aload hx hb dL_stems_520 (lv_at hl 4 rfl) ?_
      refine lv_iload hx hb dL_stems_522 (lv_at hl 8 rfl) ?_
      refine lv_aload hx hb dL_stems_524 (lv_at hl 4 rfl) ?_
      refine lv_iload hx hb dL_stems_526 (lv_at hl 8 rfl) ?_
      refine iv_iconst hx hb dL_stems_528 ?_
      refine iv_iadd hx hb dL_stems_529 ?_
      refine iv_iald hx hb hK hh.1 ia_10_6 g94 (v := ((aset (aset (S1 10) 4 y11 ((S1 10) 4 (y11 + 1))) 5 y11 ((aset (S1 10) 4 y11 ((S1 10) 4 (y11 + 1))) 5 (y11 + 1))) 6 (y11 + 1))) (congrArg (fun z => z 6 (y11 + 1)) (gset_at _ _ _)) dL_stems_530 ?_
      have hm98 : hIn ((aset (aset (S1 10) 4 y11 ((S1 10) 4 (y11 + 1))) 5 y11 ((aset (S1 10) 4 y11 ((S1 10) 4 (y11 + 1))) 5 (y11 + 1))) 6 (y11 + 1)) := hIn_rd hh.2.1 (gset_at _ _ _) (by decide)
      refine iv_iast (S' := (gset S1 10 (aset (aset (aset (S1 10) 4 y11 ((S1 10) 4 (y11 + 1))) 5 y11 ((aset (S1 10) 4 y11 ((S1 10) 4 (y11 + 1))) 5 (y11 + 1))) 6 y11 ((aset (aset (S1 10) 4 y11 ((S1 10) 4 (y11 + 1))) 5 y11 ((aset (S1 10) 4 y11 ((S1 10) 4 (y11 + 1))) 5 (y11 + 1))) 6 (y11 + 1))))) hx hb hK hinj hh ia_10_6 g96 hm98 (by rw [show (gset S1 10 (aset (aset (S1 10) 4 y11 ((S1 10) 4 (y11 + 1))) 5 y11 ((aset (S1 10) 4 y11 ((S1 10) 4 (y11 + 1))) 5 (y11 + 1)))) 10 = (aset (aset (S1 10) 4 y11 ((S1 10) 4 (y11 + 1))) 5 y11 ((aset (S1 10) 4 y11 ((S1 10) 4 (y11 + 1))) 5 (y11 + 1))) from (gset_at _ _ _)]; exact (gset_gset _ _ _ _)) dL_stems_531 (fun H locs hh => ?_)
      refine iv_iinc (lv' := [(11, .int (hI (y11 + 1))), (0, .ref (ad 11 0)), (2, .ref (ad 10 3)), (3, .ref (ad 10 4)), (4, .ref (ad 10 5)), (5, .ref (ad 10 6)), (8, .int (hI y8)), (9, .int (hI y9)), (10, .int (hI y10))]) hx hb dL_stems_532 hl (k := 8) rfl (v := (y11 + 1)) rfl (by decide) rfl (fun ls hl => ?_)
      refine lv_goto (tgt := 486) hx hb dL_stems_535 (by decide) ?_
      exact h H _ ls hh (lv_sub hl [1, 2, 3, 4, 5, 6, 7, 8, 0] rfl)
  intro H locs ls hh hl
  have hl : lv_has ls 15 [(0, .ref (ad 11 0)), (1, .ref (ad 10 1)), (2, .ref (ad 10 3)), (3, .ref (ad 10 4)), (4, .ref (ad 10 5)), (5, .ref (ad 10 6)), (6, .int (hI way)), (7, .int (hI yy))] := hl
  have h := x_L_stems S way yy h_way h_yy (fun g i k hi => hh.2.1 g i k hi) hp (fun y8 y9 S1 => (hAt D ad cI cJ cF p l e ({ frames := 5, cells := 0, slots := 0, locals := 119 } : Room) s m args below meth c (MQ below (hQx D ad cI cJ cF (q_L_stems S way yy)) args s 0 0 (hAd ad)) 15 62 [(0, .ref (ad 11 0)), (2, .ref (ad 10 3)), (3, .ref (ad 10 4)), (4, .ref (ad 10 5)), (5, .ref (ad 10 6)), (6, .int (hI way)), (7, .int (hI yy)), (8, .int (hI y8)), (9, .int (hI y9))] S1)) (fun y8 y9 y10 S1 => (hAt D ad cI cJ cF p l e ({ frames := 5, cells := 0, slots := 0, locals := 119 } : Room) s m args below meth c (MQ below (hQx D ad cI cJ cF (q_L_stems S way yy)) args s 0 0 (hAd ad)) 15 91 [(0, .ref (ad 11 0)), (2, .ref (ad 10 3)), (3, .ref (ad 10 4)), (4, .ref (ad 10 5)), (5, .ref (ad 10 6)), (7, .int (hI yy)), (8, .int (hI y8)), (9, .int (hI y9)), (10, .int (hI y10))] S1)) (fun y8 y9 y10 y11 S1 => (hAt D ad cI cJ cF p l e ({ frames := 5, cells := 0, slots := 0, locals := 119 } : Room) s m args below meth c (MQ below (hQx D ad cI cJ cF (q_L_stems S way yy)) args s 0 0 (hAd ad)) 15 116 [(0, .ref (ad 11 0)), (2, .ref (ad 10 3)), (3, .ref (ad 10 4)), (4, .ref (ad 10 5)), (5, .ref (ad 10 6)), (8, .int (hI y8)), (9, .int (hI y9)), (10, .int (hI y10)), (11, .int (hI y11))] S1)) (fun y8 y9 y10 y11 y12 y13 y14 S1 => (hAt D ad cI cJ cF p l e ({ frames := 5, cells := 0, slots := 0, locals := 119 } : Room) s m args below meth c (MQ below (hQx D ad cI cJ cF (q_L_stems S way yy)) args s 0 0 (hAd ad)) 15 126 [(0, .ref (ad 11 0)), (2, .ref (ad 10 3)), (3, .ref (ad 10 4)), (4, .ref (ad 10 5)), (5, .ref (ad 10 6)), (8, .int (hI y8)), (9, .int (hI y9)), (10, .int (hI y10)), (11, .int (hI y11)), (12, .int (hI y12)), (13, .int (hI y13)), (14, .int (hI y14))] S1)) (fun y8 y9 y10 y11 y12 y13 y14 S1 => (hAt D ad cI cJ cF p l e ({ frames := 5, cells := 0, slots := 0, locals := 119 } : Room) s m args below meth c (MQ below (hQx D ad cI cJ cF (q_L_stems S way yy)) args s 0 0 (hAd ad)) 15 157 [(0, .ref (ad 11 0)), (2, .ref (ad 10 3)), (3, .ref (ad 10 4)), (4, .ref (ad 10 5)), (5, .ref (ad 10 6)), (8, .int (hI y8)), (9, .int (hI y9)), (10, .int (hI y10)), (11, .int (hI y11)), (12, .int (hI y12)), (13, .int (hI y13)), (14, .int (hI y14))] S1)) (fun y8 y9 y10 y11 y12 y14 S1 => (hAt D ad cI cJ cF p l e ({ frames := 5, cells := 0, slots := 0, locals := 119 } : Room) s m args below meth c (MQ below (hQx D ad cI cJ cF (q_L_stems S way yy)) args s 0 0 (hAd ad)) 15 256 [(0, .ref (ad 11 0)), (2, .ref (ad 10 3)), (3, .ref (ad 10 4)), (4, .ref (ad 10 5)), (5, .ref (ad 10 6)), (8, .int (hI y8)), (9, .int (hI y9)), (10, .int (hI y10)), (11, .int (hI y11)), (12, .int (hI y12)), (14, .int (hI y14))] S1)) (fun y8 y9 S1 => (hAt D ad cI cJ cF p l e ({ frames := 5, cells := 0, slots := 0, locals := 119 } : Room) s m args below meth c (MQ below (hQx D ad cI cJ cF (q_L_stems S way yy)) args s 0 0 (hAd ad)) 15 363 [(0, .ref (ad 11 0)), (2, .ref (ad 10 3)), (3, .ref (ad 10 4)), (4, .ref (ad 10 5)), (5, .ref (ad 10 6)), (6, .int (hI way)), (7, .int (hI yy)), (8, .int (hI y8)), (9, .int (hI y9))] S1)) (fun y8 y9 y10 S1 => (hAt D ad cI cJ cF p l e ({ frames := 5, cells := 0, slots := 0, locals := 119 } : Room) s m args below meth c (MQ below (hQx D ad cI cJ cF (q_L_stems S way yy)) args s 0 0 (hAd ad)) 15 413 [(0, .ref (ad 11 0)), (2, .ref (ad 10 3)), (3, .ref (ad 10 4)), (4, .ref (ad 10 5)), (5, .ref (ad 10 6)), (6, .int (hI way)), (7, .int (hI yy)), (8, .int (hI y8)), (9, .int (hI y9)), (10, .int (hI y10))] S1)) (fun y8 y9 y10 S1 => (hAt D ad cI cJ cF p l e ({ frames := 5, cells := 0, slots := 0, locals := 119 } : Room) s m args below meth c (MQ below (hQx D ad cI cJ cF (q_L_stems S way yy)) args s 0 0 (hAd ad)) 15 471 [(0, .ref (ad 11 0)), (2, .ref (ad 10 3)), (3, .ref (ad 10 4)), (4, .ref (ad 10 5)), (5, .ref (ad 10 6)), (8, .int (hI y8)), (9, .int (hI y9)), (10, .int (hI y10))] S1)) (fun y8 y9 y10 y11 S1 => (hAt D ad cI cJ cF p l e ({ frames := 5, cells := 0, slots := 0, locals := 119 } : Room) s m args below meth c (MQ below (hQx D ad cI cJ cF (q_L_stems S way yy)) args s 0 0 (hAd ad)) 15 486 [(0, .ref (ad 11 0)), (2, .ref (ad 10 3)), (3, .ref (ad 10 4)), (4, .ref (ad 10 5)), (5, .ref (ad 10 6)), (8, .int (hI y8)), (9, .int (hI y9)), (10, .int (hI y10)), (11, .int (hI y11))] S1)) (fun r S1 => ((r : Int) = 1 ∧ q_L_stems S way yy S1)) r62 r91 r116 r126 r157 r256 r363 r413 r471 r486 (fun S2 hq => ⟨rfl, hq⟩)
  refine lv_aload_n hx hb dL_stems_0 rfl (lv_at hl 1 rfl) ?_
  refine iv_iconst hx hb dL_stems_1 ?_
  refine iv_iald hx hb hK hh.1 ia_10_1 ⟨by decide, by decide⟩ (v := ((S 10) 1 0)) rfl dL_stems_2 ?_
  have hm99 : hIn ((S 10) 1 0) := hIn_rd hh.2.1 rfl (by decide)
  refine iv_if_ne (tgt := 47) hx hb hm99 dL_stems_3 (by decide) (fun c100 => ?_) (fun c100 => ?_)
  · have h := h.2 c100
    refine lv_iload hx hb dL_stems_47 (lv_at hl 7 rfl) ?_
    refine lv_aload_n hx hb dL_stems_49 rfl (lv_at hl 1 rfl) ?_
    refine iv_iconst hx hb dL_stems_50 ?_
    refine iv_iald hx hb hK hh.1 ia_10_1 ⟨by decide, by decide⟩ (v := ((S 10) 1 0)) rfl dL_stems_51 ?_
    have hm101 : hIn ((S 10) 1 0) := hIn_rd hh.2.1 rfl (by decide)
    obtain ⟨g102, h⟩ := h
    obtain ⟨g103, h⟩ := h
    refine iv_irem hx hb h_yy g102 hm101 g103 dL_stems_52 ?_
    refine lv_istore (lv' := [(8, .int (hI (yy % ((S 10) 1 0)))), (0, .ref (ad 11 0)), (1, .ref (ad 10 1)), (2, .ref (ad 10 3)), (3, .ref (ad 10 4)), (4, .ref (ad 10 5)), (5, .ref (ad 10 6)), (6, .int (hI way)), (7, .int (hI yy))]) hx hb dL_stems_53 hl (by decide) rfl (fun ls hl => ?_)
    refine lv_bipush (v := hI 6) hx hb dL_stems_55 (by decide) ?_
    refine lv_iload hx hb dL_stems_57 (lv_at hl 0 rfl) ?_
    refine iv_imul hx hb dL_stems_59 ?_
    refine lv_istore (lv' := [(9, .int (hI (6 * (yy % ((S 10) 1 0))))), (8, .int (hI (yy % ((S 10) 1 0)))), (0, .ref (ad 11 0)), (1, .ref (ad 10 1)), (2, .ref (ad 10 3)), (3, .ref (ad 10 4)), (4, .ref (ad 10 5)), (5, .ref (ad 10 6)), (6, .int (hI way)), (7, .int (hI yy))]) hx hb dL_stems_60 hl (by decide) rfl (fun ls hl => ?_)
    exact h H _ ls hh (lv_sub hl [2, 4, 5, 6, 7, 8, 9, 1, 0] rfl)
  · have h := h.1 c100
    refine lv_aload_n hx hb dL_stems_6 rfl (lv_at hl 0 rfl) ?_
    refine iv_iconst hx hb dL_stems_7 ?_
    refine iv_iconst hx hb dL_stems_8 ?_
    refine iv_iconst hx hb dL_stems_9 ?_
    obtain ⟨g104, h⟩ := h
    refine iv_ki (iv_rV (As := [.int (hI 0), .int (hI 0), .int (hI 1)]) (rest := []) E hh (ok_X5_stem l hinj S 0 0 1 ⟨by decide, by decide⟩ ⟨by decide, by decide⟩ ⟨by decide, by decide⟩ g104) cb_X5_stem q2_131 rfl rfl ⟨Nat.le_of_ble_eq_true rfl, Nat.le_of_ble_eq_true rfl⟩ (ob_X) rfl rfl rfl hl.1 rfl (Nat.le_of_ble_eq_true rfl) dL_stems_10 ⟨Nat.zero_le _, Nat.zero_le _⟩) hh (fun hc105 H locs hh => ?_)
    refine iv_ldc (n := (-1000001)) hx hb (by decide) hown (hts _ q2_153) dL_stems_13 ?_
    refine iv_icmp_ne (tgt := 45) hx hb hc105 ⟨by decide, by decide⟩ dL_stems_15 (by decide) (fun c106 => ?_) (fun c106 => ?_)
    · have h := h.2 c106
      refine iv_iconst hx hb dL_stems_45 ?_
      exact iv_xret E hh h.1 h.2 dL_stems_46
    · have h := h.1 c106
      refine lv_aload_n hx hb dL_stems_18 rfl (lv_at hl 0 rfl) ?_
      refine iv_iconst hx hb dL_stems_19 ?_
      refine iv_iconst hx hb dL_stems_20 ?_
      obtain ⟨g107, h⟩ := h
      refine iv_ki (iv_rV (As := [.int (hI 0), .int (hI 0)]) (rest := []) E hh (ok_X5_cut l hinj (m_X5_stem S 0 0 1) 0 0 ⟨by decide, by decide⟩ ⟨by decide, by decide⟩ g107) cb_X5_cut q2_154 rfl rfl ⟨Nat.le_of_ble_eq_true rfl, Nat.le_of_ble_eq_true rfl⟩ (ob_X) rfl rfl rfl hl.1 rfl (Nat.le_of_ble_eq_true rfl) dL_stems_21 ⟨Nat.zero_le _, Nat.zero_le _⟩) hh (fun hc108 H locs hh => ?_)
      refine iv_ldc (n := (-1000001)) hx hb (by decide) hown (hts _ q2_153) dL_stems_24 ?_
      refine iv_icmp_ne (tgt := 45) hx hb hc108 ⟨by decide, by decide⟩ dL_stems_26 (by decide) (fun c109 => ?_) (fun c109 => ?_)
      · have h := h.2 c109
        refine iv_iconst hx hb dL_stems_45 ?_
        exact iv_xret E hh h.1 h.2 dL_stems_46
      · have h := h.1 c109
        refine lv_aload_n hx hb dL_stems_29 rfl (lv_at hl 0 rfl) ?_
        refine iv_iconst hx hb dL_stems_30 ?_
        refine iv_iconst hx hb dL_stems_31 ?_
        refine iv_iconst hx hb dL_stems_32 ?_
        obtain ⟨g110, h⟩ := h
        refine iv_ki (iv_rV (As := [.int (hI 0), .int (hI 0), .int (hI 0)]) (rest := []) E hh (ok_X5_hint l hinj (m_X5_cut (m_X5_stem S 0 0 1) 0 0) 0 0 0 ⟨by decide, by decide⟩ ⟨by decide, by decide⟩ ⟨by decide, by decide⟩ g110) cb_X5_hint q2_166 rfl rfl ⟨Nat.le_of_ble_eq_true rfl, Nat.le_of_ble_eq_true rfl⟩ (ob_X) rfl rfl rfl hl.1 rfl (Nat.le_of_ble_eq_true rfl) dL_stems_33 ⟨Nat.zero_le _, Nat.zero_le _⟩) hh (fun hc111 H locs hh => ?_)
        refine iv_ldc (n := (-1000001)) hx hb (by decide) hown (hts _ q2_153) dL_stems_36 ?_
        refine iv_icmp_ne (tgt := 45) hx hb hc111 ⟨by decide, by decide⟩ dL_stems_38 (by decide) (fun c112 => ?_) (fun c112 => ?_)
        · have h := h.2 c112
          refine iv_iconst hx hb dL_stems_45 ?_
          exact iv_xret E hh h.1 h.2 dL_stems_46
        · have h := h.1 c112
          refine iv_iconst hx hb dL_stems_41 ?_
          refine lv_goto (tgt := 46) hx hb dL_stems_42 (by decide) ?_
          exact iv_xret E hh h.1 h.2 dL_stems_46
end

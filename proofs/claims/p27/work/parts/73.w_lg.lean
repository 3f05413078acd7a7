section
variable {D : va_G} {ad : Nat → Nat → Nat} {cI cJ cF : ClassId}
set_option maxHeartbeats 4000000 in
set_option maxRecDepth 100000 in
theorem ok_L_areSheets (l : Launch) (hinj : hInj ad) (S : hS) (hf : ad 99 1 = 0) (vv : Int) (h_vv : hIn vv) (hp : p_L_areSheets S vv) : hMx D ad cI cJ cF l yL_areSheets cL_areSheets 21 ({ frames := 7, cells := 32, slots := 256, locals := 169 } : Room) [.ref (ad 11 0), .ref (ad 10 1), .ref (ad 10 2), .ref (ad 10 3), .ref (ad 10 4), .ref (ad 10 5), .ref (ad 10 6), .ref (ad 10 7), .ref (ad 10 8), .ref (ad 10 9), .ref (ad 10 10), .ref (ad 10 11), .int (hI vv)] S (q_L_areSheets S vv) 32 := by
  refine hOf (S := S) l hinj (by decide +kernel) (Nat.le_of_ble_eq_true rfl) (fun p e s m args below meth c E => ?_)
  obtain ⟨hx, hb, hml, hown, hts, hK, hN, -, hr, hlk, hz⟩ := id E
  have hown : s.vm.findClass RL = some m.cls := hown
  have r35 : ∀ (y13 : Int) (y14 : Int) (y15 : Int) (S1 : hS), hIn y13 → hIn y14 → hIn y15 → ((∀ (g i : Nat) (k : Int), i < 100 → hIn (S1 g i k)) → (0 ≤ (8 * (0 : Int).toNat) ∧ (hAtC D ad cI cJ cF p l e ({ frames := 7, cells := 32, slots := 256, locals := 169 } : Room) s m args below meth c (MQ below (hQx D ad cI cJ cF (q_L_areSheets S vv)) args s 32 (8 * 32) (hAd ad)) 21 38 [(0, .ref (ad 11 0)), (1, .ref (ad 10 1)), (2, .ref (ad 10 2)), (3, .ref (ad 10 3)), (4, .ref (ad 10 4)), (5, .ref (ad 10 5)), (6, .ref (ad 10 6)), (7, .ref (ad 10 7)), (8, .ref (ad 10 8)), (9, .ref (ad 10 9)), (10, .ref (ad 10 10)), (11, .ref (ad 10 11)), (12, .int (hI vv)), (13, .int (hI y13)), (14, .int (hI y14)), (15, .int (hI y15)), (16, .int (hI 0))] S1 (8 * (0 : Int).toNat)))) → (hAtC D ad cI cJ cF p l e ({ frames := 7, cells := 32, slots := 256, locals := 169 } : Room) s m args below meth c (MQ below (hQx D ad cI cJ cF (q_L_areSheets S vv)) args s 32 (8 * 32) (hAd ad)) 21 35 [(0, .ref (ad 11 0)), (1, .ref (ad 10 1)), (2, .ref (ad 10 2)), (3, .ref (ad 10 3)), (4, .ref (ad 10 4)), (5, .ref (ad 10 5)), (6, .ref (ad 10 6)), (7, .ref (ad 10 7)), (8, .ref (ad 10 8)), (9, .ref (ad 10 9)), (10, .ref (ad 10 10)), (11, .ref (ad 10 11)), (12, .int (hI vv)), (13, .int (hI y13)), (14, .int (hI y14)), (15, .int (hI y15))] S1 0) := by
    intro y13 y14 y15 S1 h_y13 h_y14 h_y15 h H locs ls hh hl
    have h := h (fun g i k hi => hh.2.1 g i k hi)
    refine iv_iconst hx hb dL_areSheets_35 ?_
    refine lv_istore (lv' := [(16, .int (hI 0)), (0, .ref (ad 11 0)), (1, .ref (ad 10 1)), (2, .ref (ad 10 2)), (3, .ref (ad 10 3)), (4, .ref (ad 10 4)), (5, .ref (ad 10 5)), (6, .ref (ad 10 6)), (7, .ref (ad 10 7)), (8, .ref (ad 10 8)), (9, .ref (ad 10 9)), (10, .ref (ad 10 10)), (11, .ref (ad 10 11)), (12, .int (hI vv)), (13, .int (hI y13)), (14, .int (hI y14)), (15, .int (hI y15))]) hx hb dL_areSheets_36 hl (by decide) rfl (fun ls hl => ?_)
    obtain ⟨g1, h⟩ := h
    refine W.widen g1 (Nat.mul_le_mul_left 8 g1) ?_
    exact h H _ ls hh (lv_sub hl [1, 2, 3, 4, 5, 6, 7, 8, 9, 10, 11, 12, 13, 14, 15, 16, 0] rfl)
  have r38 : ∀ (y13 : Int) (y14 : Int) (y15 : Int) (y16 : Int) (S1 : hS), hIn y13 → hIn y14 → hIn y15 → hIn y16 → ((∀ (g i : Nat) (k : Int), i < 100 → hIn (S1 g i k)) → ((y16 < 4 → ((y15 = 0 → ((8 * (y16 : Int).toNat) ≤ 32 ∧ (hAtC D ad cI cJ cF p l e ({ frames := 7, cells := 32, slots := 256, locals := 169 } : Room) s m args below meth c (MQ below (hQx D ad cI cJ cF (q_L_areSheets S vv)) args s 32 (8 * 32) (hAd ad)) 21 434 [(0, .ref (ad 11 0)), (1, .ref (ad 10 1)), (13, .int (hI y13)), (14, .int (hI y14)), (15, .int (hI y15))] S1 (32)))) ∧ (¬ y15 = 0 → ((0 ≤ y16 ∧ y16 < 4) ∧ ((((S1 10) 8 y16) ≤ 0 → (hAtC D ad cI cJ cF p l e ({ frames := 7, cells := 32, slots := 256, locals := 169 } : Room) s m args below meth c (MQ below (hQx D ad cI cJ cF (q_L_areSheets S vv)) args s 32 (8 * 32) (hAd ad)) 21 75 [(0, .ref (ad 11 0)), (1, .ref (ad 10 1)), (2, .ref (ad 10 2)), (3, .ref (ad 10 3)), (4, .ref (ad 10 4)), (5, .ref (ad 10 5)), (6, .ref (ad 10 6)), (7, .ref (ad 10 7)), (8, .ref (ad 10 8)), (9, .ref (ad 10 9)), (10, .ref (ad 10 10)), (11, .ref (ad 10 11)), (12, .int (hI vv)), (13, .int (hI y13)), (14, .int (hI y14)), (16, .int (hI y16)), (17, .int (hI 0))] S1 (8 * (y16 : Int).toNat))) ∧ (¬ ((S1 10) 8 y16) ≤ 0 → ((((S1 10) 9 y16) = ((S1 10) 1 0) → (hAtC D ad cI cJ cF p l e ({ frames := 7, cells := 32, slots := 256, locals := 169 } : Room) s m args below meth c (MQ below (hQx D ad cI cJ cF (q_L_areSheets S vv)) args s 32 (8 * 32) (hAd ad)) 21 75 [(0, .ref (ad 11 0)), (1, .ref (ad 10 1)), (2, .ref (ad 10 2)), (3, .ref (ad 10 3)), (4, .ref (ad 10 4)), (5, .ref (ad 10 5)), (6, .ref (ad 10 6)), (7, .ref (ad 10 7)), (8, .ref (ad 10 8)), (9, .ref (ad 10 9)), (10, .ref (ad 10 10)), (11, .ref (ad 10 11)), (12, .int (hI vv)), (13, .int (hI y13)), (14, .int (hI y14)), (16, .int (hI y16)), (17, .int (hI 0))] S1 (8 * (y16 : Int).toNat))) ∧ (¬ ((S1 10) 9 y16) = ((S1 10) 1 0) → (hAtC D ad cI cJ cF p l e ({ frames := 7, cells := 32, slots := 256, locals := 169 } : Room) s m args below meth c (MQ below (hQx D ad cI cJ cF (q_L_areSheets S vv)) args s 32 (8 * 32) (hAd ad)) 21 75 [(0, .ref (ad 11 0)), (1, .ref (ad 10 1)), (2, .ref (ad 10 2)), (3, .ref (ad 10 3)), (4, .ref (ad 10 4)), (5, .ref (ad 10 5)), (6, .ref (ad 10 6)), (7, .ref (ad 10 7)), (8, .ref (ad 10 8)), (9, .ref (ad 10 9)), (10, .ref (ad 10 10)), (11, .ref (ad 10 11)), (12, .int (hI vv)), (13, .int (hI y13)), (14, .int (hI y14)), (16, .int (hI y16)), (17, .int (hI 1))] S1 (8 * (y16 : Int).toNat)))))))))) ∧ (¬ y16 < 4 → ((8 * (y16 : Int).toNat) ≤ 32 ∧ (hAtC D ad cI cJ cF p l e ({ frames := 7, cells := 32, slots := 256, locals := 169 } : Room) s m args below meth c (MQ below (hQx D ad cI cJ cF (q_L_areSheets S vv)) args s 32 (8 * 32) (hAd ad)) 21 434 [(0, .ref (ad 11 0)), (1, .ref (ad 10 1)), (13, .int (hI y13)), (14, .int (hI y14)), (15, .int (hI y15))] S1 (32)))))) → (hAtC D ad cI cJ cF p l e ({ frames := 7, cells := 32, slots := 256, locals := 169 } : Room) s m args below meth c (MQ below (hQx D ad cI cJ cF (q_L_areSheets S vv)) args s 32 (8 * 32) (hAd ad)) 21 38 [(0, .ref (ad 11 0)), (1, .ref (ad 10 1)), (2, .ref (ad 10 2)), (3, .ref (ad 10 3)), (4, .ref (ad 10 4)), (5, .ref (ad 10 5)), (6, .ref (ad 10 6)), (7, .ref (ad 10 7)), (8, .ref (ad 10 8)), (9, .ref (ad 10 9)), (10, .ref (ad 10 10)), (11, .ref (ad 10 11)), (12, .int (hI vv)), (13, .int (hI y13)), (14, .int (hI y14)), (15, .int (hI y15)), (16, .int (hI y16))] S1 (8 * (y16 : Int).toNat)) := by
    intro y13 y14 y15 y16 S1 h_y13 h_y14 h_y15 h_y16 h H locs ls hh hl
    have h := h (fun g i k hi => hh.2.1 g i k hi)
    refine lv_iload hx hb dL_areSheets_38 (lv_at hl 16 rfl) ?_
    refine iv_iconst hx hb dL_areSheets_40 ?_
    refine iv_icmp_ge (tgt := 434) hx hb h_y16 ⟨by decide, by decide⟩ dL_areSheets_41 (by decide) (fun c2 => ?_) (fun c2 => ?_)
    · have h := h.2 c2
      obtain ⟨g3, h⟩ := h
      refine W.widen g3 (Nat.mul_le_mul_left 8 g3) ?_
      exact h H _ ls hh (lv_sub hl [0, 1, 13, 14, 15] rfl)
    · have h := h.1 c2
      refine lv_iload hx hb dL_areSheets_44 (lv_at hl 15 rfl) ?_
      refine iv_if_eq (tgt := 434) hx hb h_y15 dL_areSheets_46 (by decide) (fun c4 => ?_) (fun c4 => ?_)
      · have h := h.1 c4
        obtain ⟨g5, h⟩ := h
        refine W.widen g5 (Nat.mul_le_mul_left 8 g5) ?_
        exact h H _ ls hh (lv_sub hl [0, 1, 13, 14, 15] rfl)
      · have h := h.2 c4
        refine lv_aload hx hb dL_areSheets_49 (lv_at hl 8 rfl) ?_
        refine lv_iload hx hb dL_areSheets_51 (lv_at hl 16 rfl) ?_
        obtain ⟨g6, h⟩ := h
        refine iv_iald hx hb hK hh.1 ia_10_8 g6 (v := ((S1 10) 8 y16)) rfl dL_areSheets_53 ?_
        have hm7 : hIn ((S1 10) 8 y16) := hIn_rd hh.2.1 rfl (by decide)
        refine iv_if_le (tgt := 72) hx hb hm7 dL_areSheets_54 (by decide) (fun c8 => ?_) (fun c8 => ?_)
        · have h := h.1 c8
          refine iv_iconst hx hb dL_areSheets_72 ?_
          refine lv_istore (lv' := [(17, .int (hI 0)), (0, .ref (ad 11 0)), (1, .ref (ad 10 1)), (2, .ref (ad 10 2)), (3, .ref (ad 10 3)), (4, .ref (ad 10 4)), (5, .ref (ad 10 5)), (6, .ref (ad 10 6)), (7, .ref (ad 10 7)), (8, .ref (ad 10 8)), (9, .ref (ad 10 9)), (10, .ref (ad 10 10)), (11, .ref (ad 10 11)), (12, .int (hI vv)), (13, .int (hI y13)), (14, .int (hI y14)), (15, .int (hI y15)), (16, .int (hI y16))]) hx hb dL_areSheets_73 hl (by decide) rfl (fun ls hl => ?_)
          exact h H _ ls hh (lv_sub hl [1, 2, 3, 4, 5, 6, 7, 8, 9, 10, 11, 12, 13, 14, 15, 17, 0] rfl)
        · have h := h.2 c8
          refine lv_aload hx hb dL_areSheets_57 (lv_at hl 9 rfl) ?_
          refine lv_iload hx hb dL_areSheets_59 (lv_at hl 16 rfl) ?_
          refine iv_iald hx hb hK hh.1 ia_10_9 g6 (v := ((S1 10) 9 y16)) rfl dL_areSheets_61 ?_
          have hm9 : hIn ((S1 10) 9 y16) := hIn_rd hh.2.1 rfl (by decide)
          refine lv_aload_n hx hb dL_areSheets_62 rfl (lv_at hl 1 rfl) ?_
          refine iv_iconst hx hb dL_areSheets_63 ?_
          refine iv_iald hx hb hK hh.1 ia_10_1 ⟨by decide, by decide⟩ (v := ((S1 10) 1 0)) rfl dL_areSheets_64 ?_
          have hm10 : hIn ((S1 10) 1 0) := hIn_rd hh.2.1 rfl (by decide)
          refine iv_icmp_eq (tgt := 72) hx hb hm9 hm10 dL_areSheets_65 (by decide) (fun c11 => ?_) (fun c11 => ?_)
          · have h := h.1 c11
            refine iv_iconst hx hb dL_areSheets_72 ?_
            refine lv_istore (lv' := [(17, .int (hI 0)), (0, .ref (ad 11 0)), (1, .ref (ad 10 1)), (2, .ref (ad 10 2)), (3, .ref (ad 10 3)), (4, .ref (ad 10 4)), (5, .ref (ad 10 5)), (6, .ref (ad 10 6)), (7, .ref (ad 10 7)), (8, .ref (ad 10 8)), (9, .ref (ad 10 9)), (10, .ref (ad 10 10)), (11, .ref (ad 10 11)), (12, .int (hI vv)), (13, .int (hI y13)), (14, .int (hI y14)), (15, .int (hI y15)), (16, .int (hI y16))]) hx hb dL_areSheets_73 hl (by decide) rfl (fun ls hl => ?_)
            exact h H _ ls hh (lv_sub hl [1, 2, 3, 4, 5, 6, 7, 8, 9, 10, 11, 12, 13, 14, 15, 17, 0] rfl)
          · have h := h.2 c11
            refine iv_iconst hx hb dL_areSheets_68 ?_
            refine lv_goto (tgt := 73) hx hb dL_areSheets_69 (by decide) ?_
            refine lv_istore (lv' := [(17, .int (hI 1)), (0, .ref (ad 11 0)), (1, .ref (ad 10 1)), (2, .ref (ad 10 2)), (3, .ref (ad 10 3)), (4, .ref (ad 10 4)), (5, .ref (ad 10 5)), (6, .ref (ad 10 6)), (7, .ref (ad 10 7)), (8, .ref (ad 10 8)), (9, .ref (ad 10 9)), (10, .ref (ad 10 10)), (11, .ref (ad 10 11)), (12, .int (hI vv)), (13, .int (hI y13)), (14, .int (hI y14)), (15, .int (hI y15)), (16, .int (hI y16))]) hx hb dL_areSheets_73 hl (by decide) rfl (fun ls hl => ?_)
            exact h H _ ls hh (lv_sub hl [1, 2, 3, 4, 5, 6, 7, 8, 9, 10, 11, 12, 13, 14, 15, 17, 0] rfl)
  have r75 : ∀ (y13 : Int) (y14 : Int) (y16 : Int) (y17 : Int) (S1 : hS), hIn y13 → hIn y14 → hIn y16 → hIn y17 → ((∀ (g i : Nat) (k : Int), i < 100 → hIn (S1 g i k)) → ((8 * (y16 : Int).toNat) ≤ (8 * (y16 : Int).toNat + (0 : Int).toNat) ∧ (hAtC D ad cI cJ cF p l e ({ frames := 7, cells := 32, slots := 256, locals := 169 } : Room) s m args below meth c (MQ below (hQx D ad cI cJ cF (q_L_areSheets S vv)) args s 32 (8 * 32) (hAd ad)) 21 81 [(0, .ref (ad 11 0)), (1, .ref (ad 10 1)), (2, .ref (ad 10 2)), (3, .ref (ad 10 3)), (4, .ref (ad 10 4)), (5, .ref (ad 10 5)), (6, .ref (ad 10 6)), (7, .ref (ad 10 7)), (8, .ref (ad 10 8)), (9, .ref (ad 10 9)), (10, .ref (ad 10 10)), (11, .ref (ad 10 11)), (12, .int (hI vv)), (13, .int (hI y13)), (14, .int (hI y14)), (16, .int (hI y16)), (17, .int (hI y17)), (18, .int (hI 0)), (19, .int (hI 0))] S1 (8 * (y16 : Int).toNat + (0 : Int).toNat)))) → (hAtC D ad cI cJ cF p l e ({ frames := 7, cells := 32, slots := 256, locals := 169 } : Room) s m args below meth c (MQ below (hQx D ad cI cJ cF (q_L_areSheets S vv)) args s 32 (8 * 32) (hAd ad)) 21 75 [(0, .ref (ad 11 0)), (1, .ref (ad 10 1)), (2, .ref (ad 10 2)), (3, .ref (ad 10 3)), (4, .ref (ad 10 4)), (5, .ref (ad 10 5)), (6, .ref (ad 10 6)), (7, .ref (ad 10 7)), (8, .ref (ad 10 8)), (9, .ref (ad 10 9)), (10, .ref (ad 10 10)), (11, .ref (ad 10 11)), (12, .int (hI vv)), (13, .int (hI y13)), (14, .int (hI y14)), (16, .int (hI y16)), (17, .int (hI y17))] S1 (8 * (y16 : Int).toNat)) := by
    intro y13 y14 y16 y17 S1 h_y13 h_y14 h_y16 h_y17 h H locs ls hh hl
    have h := h (fun g i k hi => hh.2.1 g i k hi)
    refine iv_iconst hx hb dL_areSheets_75 ?_
    refine lv_istore (lv' := [(18, .int (hI 0)), (0, .ref (ad 11 0)), (1, .ref (ad 10 1)), (2, .ref (ad 10 2)), (3, .ref (ad 10 3)), (4, .ref (ad 10 4)), (5, .ref (ad 10 5)), (6, .ref (ad 10 6)), (7, .ref (ad 10 7)), (8, .ref (ad 10 8)), (9, .ref (ad 10 9)), (10, .ref (ad 10 10)), (11, .ref (ad 10 11)), (12, .int (hI vv)), (13, .int (hI y13)), (14, .int (hI y14)), (16, .int (hI y16)), (17, .int (hI y17))]) hx hb dL_areSheets_76 hl (by decide) rfl (fun ls hl => ?_)
    refine iv_iconst hx hb dL_areSheets_78 ?_
    refine lv_istore (lv' := [(19, .int (hI 0)), (18, .int (hI 0)), (0, .ref (ad 11 0)), (1, .ref (ad 10 1)), (2, .ref (ad 10 2)), (3, .ref (ad 10 3)), (4, .ref (ad 10 4)), (5, .ref (ad 10 5)), (6, .ref (ad 10 6)), (7, .ref (ad 10 7)), (8, .ref (ad 10 8)), (9, .ref (ad 10 9)), (10, .ref (ad 10 10)), (11, .ref (ad 10 11)), (12, .int (hI vv)), (13, .int (hI y13)), (14, .int (hI y14)), (16, .int (hI y16)), (17, .int (hI y17))]) hx hb dL_areSheets_79 hl (by decide) rfl (fun ls hl => ?_)
    obtain ⟨g12, h⟩ := h
    refine W.widen g12 (Nat.mul_le_mul_left 8 g12) ?_
    exact h H _ ls hh (lv_sub hl [2, 3, 4, 5, 6, 7, 8, 9, 10, 11, 12, 13, 14, 15, 16, 17, 18, 1, 0] rfl)
  have r81 : ∀ (y13 : Int) (y14 : Int) (y16 : Int) (y17 : Int) (y18 : Int) (y19 : Int) (S1 : hS), hIn y13 → hIn y14 → hIn y16 → hIn y17 → hIn y18 → hIn y19 → ((∀ (g i : Nat) (k : Int), i < 100 → hIn (S1 g i k)) → ((0 ≤ y16 ∧ y16 < 4) ∧ ((y19 < ((S1 10) 9 y16) → ((((S1 10) 8 y16) ≤ 0 → ((8 * (y16 : Int).toNat + (y19 : Int).toNat) ≤ (8 * (y16 : Int).toNat + 8) ∧ (hAtC D ad cI cJ cF p l e ({ frames := 7, cells := 32, slots := 256, locals := 169 } : Room) s m args below meth c (MQ below (hQx D ad cI cJ cF (q_L_areSheets S vv)) args s 32 (8 * 32) (hAd ad)) 21 197 [(0, .ref (ad 11 0)), (1, .ref (ad 10 1)), (2, .ref (ad 10 2)), (3, .ref (ad 10 3)), (4, .ref (ad 10 4)), (5, .ref (ad 10 5)), (6, .ref (ad 10 6)), (7, .ref (ad 10 7)), (8, .ref (ad 10 8)), (9, .ref (ad 10 9)), (10, .ref (ad 10 10)), (11, .ref (ad 10 11)), (12, .int (hI vv)), (13, .int (hI y13)), (14, .int (hI y14)), (16, .int (hI y16)), (17, .int (hI y17)), (18, .int (hI y18))] S1 (8 * (y16 : Int).toNat + 8)))) ∧ (¬ ((S1 10) 8 y16) ≤ 0 → ((0 ≤ ((8 * y16) + y19) ∧ ((8 * y16) + y19) < 32) ∧ (p_L_many ((S1 10) 111 ((8 * y16) + y19)) ∧ ((8 * (y16 : Int).toNat + (y19 : Int).toNat) ≤ 32 ∧ (hAtC D ad cI cJ cF p l e ({ frames := 7, cells := 32, slots := 256, locals := 169 } : Room) s m args below meth c (MQ below (hQx D ad cI cJ cF (q_L_areSheets S vv)) args s 32 (8 * 32) (hAd ad)) 21 118 [(0, .ref (ad 11 0)), (1, .ref (ad 10 1)), (2, .ref (ad 10 2)), (3, .ref (ad 10 3)), (4, .ref (ad 10 4)), (5, .ref (ad 10 5)), (6, .ref (ad 10 6)), (7, .ref (ad 10 7)), (8, .ref (ad 10 8)), (9, .ref (ad 10 9)), (10, .ref (ad 10 10)), (11, .ref (ad 10 11)), (12, .int (hI vv)), (13, .int (hI y13)), (14, .int (hI y14)), (16, .int (hI y16)), (17, .int (hI y17)), (18, .int (hI (y18 + (v_L_many ((S1 10) 111 ((8 * y16) + y19)))))), (19, .int (hI y19))] S1 (8 * (y16 : Int).toNat + (y19 : Int).toNat)))))))) ∧ (¬ y19 < ((S1 10) 9 y16) → ((8 * (y16 : Int).toNat + (y19 : Int).toNat) ≤ (8 * (y16 : Int).toNat + 8) ∧ (hAtC D ad cI cJ cF p l e ({ frames := 7, cells := 32, slots := 256, locals := 169 } : Room) s m args below meth c (MQ below (hQx D ad cI cJ cF (q_L_areSheets S vv)) args s 32 (8 * 32) (hAd ad)) 21 197 [(0, .ref (ad 11 0)), (1, .ref (ad 10 1)), (2, .ref (ad 10 2)), (3, .ref (ad 10 3)), (4, .ref (ad 10 4)), (5, .ref (ad 10 5)), (6, .ref (ad 10 6)), (7, .ref (ad 10 7)), (8, .ref (ad 10 8)), (9, .ref (ad 10 9)), (10, .ref (ad 10 10)), (11, .ref (ad 10 11)), (12, .int (hI vv)), (13, .int (hI y13)), (14, .int (hI y14)), (16, .int (hI y16)), (17, .int (hI y17)), (18, .int (hI y18))] S1 (8 * (y16 : Int).toNat + 8))))))) → (hAtC D ad cI cJ cF p l e ({ frames := 7, cells := 32, slots := 256, locals := 169 } : Room) s m args below meth c (MQ below (hQx D ad cI cJ cF (q_L_areSheets S vv)) args s 32 (8 * 32) (hAd ad)) 21 81 [(0, .ref (ad 11 0)), (1, .ref (ad 10 1)), (2, .ref (ad 10 2)), (3, .ref (ad 10 3)), (4, .ref (ad 10 4)), (5, .ref (ad 10 5)), (6, .ref (ad 10 6)), (7, .ref (ad 10 7)), (8, .ref (ad 10 8)), (9, .ref (ad 10 9)), (10, .ref (ad 10 10)), (11, .ref (ad 10 11)), (12, .int (hI vv)), (13, .int (hI y13)), (14, .int (hI y14)), (16, .int (hI y16)), (17, .int (hI y17)), (18, .int (hI y18)), (19, .int (hI y19))] S1 (8 * (y16 : Int).toNat + (y19 : Int).toNat)) := by
    intro y13 y14 y16 y17 y18 y19 S1 h_y13 h_y14 h_y16 h_y17 h_y18 h_y19 h H locs ls hh hl
    have h := h (fun g i k hi => hh.2.1 g i k hi)
    refine lv_iload hx hb dL_areSheets_81 (lv_at hl 18 rfl) ?_
    refine lv_aload hx hb dL_areSheets_83 (lv_at hl 9 rfl) ?_
    refine lv_iload hx hb dL_areSheets_85 (lv_at hl 15 rfl) ?_
    obtain ⟨g13, h⟩ := h
    refine iv_iald hx hb hK hh.1 ia_10_9 g13 (v := ((S1 10) 9 y16)) rfl dL_areSheets_87 ?_
    have hm14 : hIn ((S1 10) 9 y16) := hIn_rd hh.2.1 rfl (by decide)
    refine iv_icmp_ge (tgt := 197) hx hb h_y19 hm14 dL_areSheets_88 (by decide) (fun c15 => ?_) (fun c15 => ?_)
    · have h := h.2 c15
      obtain ⟨g16, h⟩ := h
      refine W.widen g16 (Nat.mul_le_mul_left 8 g16) ?_
      exact h H _ ls hh (lv_sub hl [0, 1, 2, 3, 4, 5, 6, 7, 8, 9, 10, 11, 12, 13, 14, 15, 16, 17] rfl)
    · have h := h.1 c15
      refine lv_aload hx hb dL_areSheets_91 (lv_at hl 8 rfl) ?_
      refine lv_iload hx hb dL_areSheets_93 (lv_at hl 15 rfl) ?_
      refine iv_iald hx hb hK hh.1 ia_10_8 g13 (v := ((S1 10) 8 y16)) rfl dL_areSheets_95 ?_
      have hm17 : hIn ((S1 10) 8 y16) := hIn_rd hh.2.1 rfl (by decide)
      refine iv_if_le (tgt := 197) hx hb hm17 dL_areSheets_96 (by decide) (fun c18 => ?_) (fun c18 => ?_)
      · have h := h.1 c18
        obtain ⟨g19, h⟩ := h
        refine W.widen g19 (Nat.mul_le_mul_left 8 g19) ?_
        exact h H _ ls hh (lv_sub hl [0, 1, 2, 3, 4, 5, 6, 7, 8, 9, 10, 11, 12, 13, 14, 15, 16, 17] rfl)
      · have h := h.2 c18
        refine lv_iload hx hb dL_areSheets_99 (lv_at hl 17 rfl) ?_
        refine lv_aload hx hb dL_areSheets_101 (lv_at hl 11 rfl) ?_
        refine lv_bipush (v := hI 8) hx hb dL_areSheets_103 (by decide) ?_
        refine lv_iload hx hb dL_areSheets_105 (lv_at hl 15 rfl) ?_
        refine iv_imul hx hb dL_areSheets_107 ?_
        refine lv_iload hx hb dL_areSheets_108 (lv_at hl 18 rfl) ?_
        refine iv_iadd hx hb dL_areSheets_110 ?_
        obtain ⟨g20, h⟩ := h
        refine iv_laldL hx hb hK hh.1  g20 (v := ((S1 10) 111 ((8 * y16) + y19))) rfl dL_areSheets_111 ?_
        obtain ⟨g21, h⟩ := h
        obtain ⟨g22, h⟩ := h
        refine iv_ki (iv_rS (As := [.long (hJ ((S1 10) 111 ((8 * y16) + y19)))]) (rest := [.int (hI y18)]) E hh (ok_L_many l hinj S1 ((S1 10) 111 ((8 * y16) + y19)) g21) cb_L_many q3_66 rfl rfl ⟨Nat.le_of_ble_eq_true rfl, Nat.le_of_ble_eq_true rfl⟩ rfl hl.1 rfl (Nat.le_of_ble_eq_true rfl) dL_areSheets_112 (rk0 (k := (8 * (y16 : Int).toNat + (y19 : Int).toNat)) (K := 32) g22)) hh (fun hc23 H locs hh => ?_)
        refine iv_iadd hx hb dL_areSheets_115 ?_
        refine lv_istore (lv' := [(18, .int (hI (y18 + (v_L_many ((S1 10) 111 ((8 * y16) + y19)))))), (0, .ref (ad 11 0)), (1, .ref (ad 10 1)), (2, .ref (ad 10 2)), (3, .ref (ad 10 3)), (4, .ref (ad 10 4)), (5, .ref (ad 10 5)), (6, .ref (ad 10 6)), (7, .ref (ad 10 7)), (8, .ref (ad 10 8)), (9, .ref (ad 10 9)), (10, .ref (ad 10 10)), (11, .ref (ad 10 11)), (12, .int (hI vv)), (13, .int (hI y13)), (14, .int (hI y14)), (16, .int (hI y16)), (17, .int (hI y17)), (19, .int (hI y19))]) hx hb dL_areSheets_116 hl (by decide) rfl (fun ls hl => ?_)
        exact h H _ ls hh (lv_sub hl [1, 2, 3, 4, 5, 6, 7, 8, 9, 10, 11, 12, 13, 14, 15, 16, 17, 0, 18] rfl)
  have r118 : ∀ (y13 : Int) (y14 : Int) (y16 : Int) (y17 : Int) (y18 : Int) (y19 : Int) (S1 : hS), hIn y13 → hIn y14 → hIn y16 → hIn y17 → hIn y18 → hIn y19 → ((∀ (g i : Nat) (k : Int), i < 100 → hIn (S1 g i k)) → ((y17 = 0 → ((0 ≤ ((8 * y16) + y19) ∧ ((8 * y16) + y19) < 32) ∧ ((0 ≤ y16 ∧ y16 < 4) ∧ (p_L_columns (S1 0) (S1 10) y19 ((S1 10) 8 y16) ∧ ((8 * (y16 : Int).toNat + (y19 : Int).toNat) ≤ 32 ∧ ((((S1 10) 10 ((8 * y16) + y19)) = (v_L_columns (S1 0) (S1 10) y19 ((S1 10) 8 y16)) → (p_L_lit (S1 0) (S1 10) y19 ((S1 10) 8 y16) ∧ (((8 * (y16 : Int).toNat + (y19 : Int).toNat) + 1) ≤ 32 ∧ (((jCmp ((S1 10) 111 ((8 * y16) + y19)) (v_L_lit (S1 0) (S1 10) y19 ((S1 10) 8 y16))) = 0 → (((8 * (y16 : Int).toNat + (y19 : Int).toNat) + 1) ≤ (8 * (y16 : Int).toNat + (y19 : Int).toNat + 1) ∧ (hAtC D ad cI cJ cF p l e ({ frames := 7, cells := 32, slots := 256, locals := 169 } : Room) s m args below meth c (MQ below (hQx D ad cI cJ cF (q_L_areSheets S vv)) args s 32 (8 * 32) (hAd ad)) 21 191 [(0, .ref (ad 11 0)), (1, .ref (ad 10 1)), (2, .ref (ad 10 2)), (3, .ref (ad 10 3)), (4, .ref (ad 10 4)), (5, .ref (ad 10 5)), (6, .ref (ad 10 6)), (7, .ref (ad 10 7)), (8, .ref (ad 10 8)), (9, .ref (ad 10 9)), (10, .ref (ad 10 10)), (11, .ref (ad 10 11)), (12, .int (hI vv)), (13, .int (hI y13)), (14, .int (hI y14)), (16, .int (hI y16)), (17, .int (hI 0)), (18, .int (hI y18)), (19, .int (hI y19))] S1 (8 * (y16 : Int).toNat + (y19 : Int).toNat + 1)))) ∧ (¬ (jCmp ((S1 10) 111 ((8 * y16) + y19)) (v_L_lit (S1 0) (S1 10) y19 ((S1 10) 8 y16))) = 0 → (((8 * (y16 : Int).toNat + (y19 : Int).toNat) + 1) ≤ (8 * (y16 : Int).toNat + (y19 : Int).toNat + 1) ∧ (hAtC D ad cI cJ cF p l e ({ frames := 7, cells := 32, slots := 256, locals := 169 } : Room) s m args below meth c (MQ below (hQx D ad cI cJ cF (q_L_areSheets S vv)) args s 32 (8 * 32) (hAd ad)) 21 191 [(0, .ref (ad 11 0)), (1, .ref (ad 10 1)), (2, .ref (ad 10 2)), (3, .ref (ad 10 3)), (4, .ref (ad 10 4)), (5, .ref (ad 10 5)), (6, .ref (ad 10 6)), (7, .ref (ad 10 7)), (8, .ref (ad 10 8)), (9, .ref (ad 10 9)), (10, .ref (ad 10 10)), (11, .ref (ad 10 11)), (12, .int (hI vv)), (13, .int (hI y13)), (14, .int (hI y14)), (16, .int (hI y16)), (17, .int (hI 1)), (18, .int (hI y18)), (19, .int (hI y19))] S1 (8 * (y16 : Int).toNat + (y19 : Int).toNat + 1)))))))) ∧ (¬ ((S1 10) 10 ((8 * y16) + y19)) = (v_L_columns (S1 0) (S1 10) y19 ((S1 10) 8 y16)) → ((8 * (y16 : Int).toNat + (y19 : Int).toNat) ≤ (8 * (y16 : Int).toNat + (y19 : Int).toNat + 1) ∧ (hAtC D ad cI cJ cF p l e ({ frames := 7, cells := 32, slots := 256, locals := 169 } : Room) s m args below meth c (MQ below (hQx D ad cI cJ cF (q_L_areSheets S vv)) args s 32 (8 * 32) (hAd ad)) 21 191 [(0, .ref (ad 11 0)), (1, .ref (ad 10 1)), (2, .ref (ad 10 2)), (3, .ref (ad 10 3)), (4, .ref (ad 10 4)), (5, .ref (ad 10 5)), (6, .ref (ad 10 6)), (7, .ref (ad 10 7)), (8, .ref (ad 10 8)), (9, .ref (ad 10 9)), (10, .ref (ad 10 10)), (11, .ref (ad 10 11)), (12, .int (hI vv)), (13, .int (hI y13)), (14, .int (hI y14)), (16, .int (hI y16)), (17, .int (hI 1)), (18, .int (hI y18)), (19, .int (hI y19))] S1 (8 * (y16 : Int).toNat + (y19 : Int).toNat + 1)))))))))) ∧ (¬ y17 = 0 → ((8 * (y16 : Int).toNat + (y19 : Int).toNat) ≤ (8 * (y16 : Int).toNat + (y19 : Int).toNat + 1) ∧ (hAtC D ad cI cJ cF p l e ({ frames := 7, cells := 32, slots := 256, locals := 169 } : Room) s m args below meth c (MQ below (hQx D ad cI cJ cF (q_L_areSheets S vv)) args s 32 (8 * 32) (hAd ad)) 21 191 [(0, .ref (ad 11 0)), (1, .ref (ad 10 1)), (2, .ref (ad 10 2)), (3, .ref (ad 10 3)), (4, .ref (ad 10 4)), (5, .ref (ad 10 5)), (6, .ref (ad 10 6)), (7, .ref (ad 10 7)), (8, .ref (ad 10 8)), (9, .ref (ad 10 9)), (10, .ref (ad 10 10)), (11, .ref (ad 10 11)), (12, .int (hI vv)), (13, .int (hI y13)), (14, .int (hI y14)), (16, .int (hI y16)), (17, .int (hI 1)), (18, .int (hI y18)), (19, .int (hI y19))] S1 (8 * (y16 : Int).toNat + (y19 : Int).toNat + 1)))))) → (hAtC D ad cI cJ cF p l e ({ frames := 7, cells := 32, slots := 256, locals := 169 } : Room) s m args below meth c (MQ below (hQx D ad cI cJ cF (q_L_areSheets S vv)) args s 32 (8 * 32) (hAd ad)) 21 118 [(0, .ref (ad 11 0)), (1, .ref (ad 10 1)), (2, .ref (ad 10 2)), (3, .ref (ad 10 3)), (4, .ref (ad 10 4)), (5, .ref (ad 10 5)), (6, .ref (ad 10 6)), (7, .ref (ad 10 7)), (8, .ref (ad 10 8)), (9, .ref (ad 10 9)), (10, .ref (ad 10 10)), (11, .ref (ad 10 11)), (12, .int (hI vv)), (13, .int (hI y13)), (14, .int (hI y14)), (16, .int (hI y16)), (17, .int (hI y17)), (18, .int (hI y18)), (19, .int (hI y19))] S1 (8 * (y16 : Int).toNat + (y19 : Int).toNat)) := by
    intro y13 y14 y16 y17 y18 y19 S1 h_y13 h_y14 h_y16 h_y17 h_y18 h_y19 h H locs ls hh hl
    have h := h (fun g i k hi => hh.2.1 g i k hi)
    refine lv_iload hx hb dL_areSheets_118 (lv_at hl 16 rfl) ?_
    refine iv_if_ne (tgt := 184) hx hb h_y17 dL_areSheets_120 (by decide) (fun c24 => ?_) (fun c24 => ?_)
    · have h := h.2 c24
      refine iv_iconst hx hb dL_areSheets_184 ?_
      refine lv_goto (tgt := 189) hx hb dL_areSheets_185 (by decide) ?_
      refine lv_istore (lv' := [(17, .int (hI 1)), (0, .ref (ad 11 0)), (1, .ref (ad 10 1)), (2, .ref (ad 10 2)), (3, .ref (ad 10 3)), (4, .ref (ad 10 4)), (5, .ref (ad 10 5)), (6, .ref (ad 10 6)), (7, .ref (ad 10 7)), (8, .ref (ad 10 8)), (9, .ref (ad 10 9)), (10, .ref (ad 10 10)), (11, .ref (ad 10 11)), (12, .int (hI vv)), (13, .int (hI y13)), (14, .int (hI y14)), (16, .int (hI y16)), (18, .int (hI y18)), (19, .int (hI y19))]) hx hb dL_areSheets_189 hl (by decide) rfl (fun ls hl => ?_)
      obtain ⟨g25, h⟩ := h
      refine W.widen g25 (Nat.mul_le_mul_left 8 g25) ?_
      exact h H _ ls hh (lv_sub hl [1, 2, 3, 4, 5, 6, 7, 8, 9, 10, 11, 12, 13, 14, 15, 16, 0, 17, 18] rfl)
    · have h := h.1 c24
      refine lv_aload hx hb dL_areSheets_123 (lv_at hl 10 rfl) ?_
      refine lv_bipush (v := hI 8) hx hb dL_areSheets_125 (by decide) ?_
      refine lv_iload hx hb dL_areSheets_127 (lv_at hl 15 rfl) ?_
      refine iv_imul hx hb dL_areSheets_129 ?_
      refine lv_iload hx hb dL_areSheets_130 (lv_at hl 18 rfl) ?_
      refine iv_iadd hx hb dL_areSheets_132 ?_
      obtain ⟨g26, h⟩ := h
      refine iv_iald hx hb hK hh.1 ia_10_10 g26 (v := ((S1 10) 10 ((8 * y16) + y19))) rfl dL_areSheets_133 ?_
      have hm27 : hIn ((S1 10) 10 ((8 * y16) + y19)) := hIn_rd hh.2.1 rfl (by decide)
      refine lv_aload_n hx hb dL_areSheets_134 rfl (lv_at hl 2 rfl) ?_
      refine lv_iload hx hb dL_areSheets_135 (lv_at hl 18 rfl) ?_
      refine lv_aload hx hb dL_areSheets_137 (lv_at hl 8 rfl) ?_
      refine lv_iload hx hb dL_areSheets_139 (lv_at hl 15 rfl) ?_
      obtain ⟨g28, h⟩ := h
      refine iv_iald hx hb hK hh.1 ia_10_8 g28 (v := ((S1 10) 8 y16)) rfl dL_areSheets_141 ?_
      have hm29 : hIn ((S1 10) 8 y16) := hIn_rd hh.2.1 rfl (by decide)
      obtain ⟨g30, h⟩ := h
      obtain ⟨g31, h⟩ := h
      refine iv_ki (iv_rS (As := [.ref (ad 10 2), .int (hI y19), .int (hI ((S1 10) 8 y16))]) (rest := [.int (hI ((S1 10) 10 ((8 * y16) + y19)))]) E hh (ok_L_columns l hinj S1 (S1 0) (S1 10) rfl y19 ((S1 10) 8 y16) h_y19 hm29 g30) cb_L_columns q2_211 rfl rfl ⟨Nat.le_of_ble_eq_true rfl, Nat.le_of_ble_eq_true rfl⟩ rfl hl.1 rfl (Nat.le_of_ble_eq_true rfl) dL_areSheets_142 (rk0 (k := (8 * (y16 : Int).toNat + (y19 : Int).toNat)) (K := 32) g31)) hh (fun hc32 H locs hh => ?_)
      refine iv_icmp_ne (tgt := 184) hx hb hm27 hc32 dL_areSheets_145 (by decide) (fun c33 => ?_) (fun c33 => ?_)
      · have h := h.2 c33
        refine iv_iconst hx hb dL_areSheets_184 ?_
        refine lv_goto (tgt := 189) hx hb dL_areSheets_185 (by decide) ?_
        refine lv_istore (lv' := [(17, .int (hI 1)), (0, .ref (ad 11 0)), (1, .ref (ad 10 1)), (2, .ref (ad 10 2)), (3, .ref (ad 10 3)), (4, .ref (ad 10 4)), (5, .ref (ad 10 5)), (6, .ref (ad 10 6)), (7, .ref (ad 10 7)), (8, .ref (ad 10 8)), (9, .ref (ad 10 9)), (10, .ref (ad 10 10)), (11, .ref (ad 10 11)), (12, .int (hI vv)), (13, .int (hI y13)), (14, .int (hI y14)), (16, .int (hI y16)), (18, .int (hI y18)), (19, .int (hI y19))]) hx hb dL_areSheets_189 hl (by decide) rfl (fun ls hl => ?_)
        obtain ⟨g34, h⟩ := h
        refine W.widen g34 (Nat.mul_le_mul_left 8 g34) ?_
        exact h H _ ls hh (lv_sub hl [1, 2, 3, 4, 5, 6, 7, 8, 9, 10, 11, 12, 13, 14, 15, 16, 0, 17, 18] rfl)
      · have h := h.1 c33
        refine lv_aload hx hb dL_areSheets_148 (lv_at hl 11 rfl) ?_
        refine lv_bipush (v := hI 8) hx hb dL_areSheets_150 (by decide) ?_
        refine lv_iload hx hb dL_areSheets_152 (lv_at hl 15 rfl) ?_
        refine iv_imul hx hb dL_areSheets_154 ?_
        refine lv_iload hx hb dL_areSheets_155 (lv_at hl 18 rfl) ?_
        refine iv_iadd hx hb dL_areSheets_157 ?_
        refine iv_laldL hx hb hK hh.1  g26 (v := ((S1 10) 111 ((8 * y16) + y19))) rfl dL_areSheets_158 ?_
        refine lv_aload_n hx hb dL_areSheets_159 rfl (lv_at hl 1 rfl) ?_
        refine lv_aload_n hx hb dL_areSheets_160 rfl (lv_at hl 2 rfl) ?_
        refine lv_aload_n hx hb dL_areSheets_161 rfl (lv_at hl 3 rfl) ?_
        refine lv_aload hx hb dL_areSheets_162 (lv_at hl 4 rfl) ?_
        refine lv_aload hx hb dL_areSheets_164 (lv_at hl 5 rfl) ?_
        refine lv_aload hx hb dL_areSheets_166 (lv_at hl 6 rfl) ?_
        refine lv_aload hx hb dL_areSheets_168 (lv_at hl 7 rfl) ?_
        refine lv_iload hx hb dL_areSheets_170 (lv_at hl 18 rfl) ?_
        refine lv_aload hx hb dL_areSheets_172 (lv_at hl 8 rfl) ?_
        refine lv_iload hx hb dL_areSheets_174 (lv_at hl 15 rfl) ?_
        refine iv_iald hx hb hK hh.1 ia_10_8 g28 (v := ((S1 10) 8 y16)) rfl dL_areSheets_176 ?_
        have hm35 : hIn ((S1 10) 8 y16) := hIn_rd hh.2.1 rfl (by decide)
        obtain ⟨g36, h⟩ := h
        obtain ⟨g37, h⟩ := h
        refine iv_klC (iv_rSC (mc := 1) (As := [.ref (ad 10 1), .ref (ad 10 2), .ref (ad 10 3), .ref (ad 10 4), .ref (ad 10 5), .ref (ad 10 6), .ref (ad 10 7), .int (hI y19), .int (hI ((S1 10) 8 y16))]) (rest := [.long (hJ ((S1 10) 111 ((8 * y16) + y19)))]) E hh (ok_L_lit l hinj S1 hf (S1 0) (S1 10) rfl y19 ((S1 10) 8 y16) h_y19 hm35 g36) cb_L_lit q2_217 rfl rfl ⟨Nat.le_of_ble_eq_true rfl, Nat.le_of_ble_eq_true rfl⟩ rfl hl.1 rfl (Nat.le_of_ble_eq_true rfl) dL_areSheets_177 (rm8 (k := (8 * (y16 : Int).toNat + (y19 : Int).toNat)) (mc := 1) (K := 32) g37)) hh (fun H locs hh => ?_)
        refine iv_lcmp hx hb dL_areSheets_180 ?_
        refine iv_if_eq (tgt := 188) hx hb (hIn_toInt _) dL_areSheets_181 (by decide) (fun c38 => ?_) (fun c38 => ?_)
        · have h := h.1 c38
          refine iv_iconst hx hb dL_areSheets_188 ?_
          refine lv_istore (lv' := [(17, .int (hI 0)), (0, .ref (ad 11 0)), (1, .ref (ad 10 1)), (2, .ref (ad 10 2)), (3, .ref (ad 10 3)), (4, .ref (ad 10 4)), (5, .ref (ad 10 5)), (6, .ref (ad 10 6)), (7, .ref (ad 10 7)), (8, .ref (ad 10 8)), (9, .ref (ad 10 9)), (10, .ref (ad 10 10)), (11, .ref (ad 10 11)), (12, .int (hI vv)), (13, .int (hI y13)), (14, .int (hI y14)), (16, .int (hI y16)), (18, .int (hI y18)), (19, .int (hI y19))]) hx hb dL_areSheets_189 hl (by decide) rfl (fun ls hl => ?_)
          obtain ⟨g39, h⟩ := h
          refine W.widen g39 (Nat.mul_le_mul_left 8 g39) ?_
          exact h H _ ls hh (lv_sub hl [1, 2, 3, 4, 5, 6, 7, 8, 9, 10, 11, 12, 13, 14, 15, 16, 0, 17, 18] rfl)
        · have h := h.2 c38
          refine iv_iconst hx hb dL_areSheets_184 ?_
          refine lv_goto (tgt := 189) hx hb dL_areSheets_185 (by decide) ?_
          refine lv_istore (lv' := [(17, .int (hI 1)), (0, .ref (ad 11 0)), (1, .ref (ad 10 1)), (2, .ref (ad 10 2)), (3, .ref (ad 10 3)), (4, .ref (ad 10 4)), (5, .ref (ad 10 5)), (6, .ref (ad 10 6)), (7, .ref (ad 10 7)), (8, .ref (ad 10 8)), (9, .ref (ad 10 9)), (10, .ref (ad 10 10)), (11, .ref (ad 10 11)), (12, .int (hI vv)), (13, .int (hI y13)), (14, .int (hI y14)), (16, .int (hI y16)), (18, .int (hI y18)), (19, .int (hI y19))]) hx hb dL_areSheets_189 hl (by decide) rfl (fun ls hl => ?_)
          obtain ⟨g40, h⟩ := h
          refine W.widen g40 (Nat.mul_le_mul_left 8 g40) ?_
          exact h H _ ls hh (lv_sub hl [1, 2, 3, 4, 5, 6, 7, 8, 9, 10, 11, 12, 13, 14, 15, 16, 0, 17, 18] rfl)
  have r191 : ∀ (y13 : Int) (y14 : Int) (y16 : Int) (y17 : Int) (y18 : Int) (y19 : Int) (S1 : hS), hIn y13 → hIn y14 → hIn y16 → hIn y17 → hIn y18 → hIn y19 → ((∀ (g i : Nat) (k : Int), i < 100 → hIn (S1 g i k)) → ((8 * (y16 : Int).toNat + (y19 : Int).toNat + 1) ≤ (8 * (y16 : Int).toNat + ((y19 + 1) : Int).toNat) ∧ (hAtC D ad cI cJ cF p l e ({ frames := 7, cells := 32, slots := 256, locals := 169 } : Room) s m args below meth c (MQ below (hQx D ad cI cJ cF (q_L_areSheets S vv)) args s 32 (8 * 32) (hAd ad)) 21 81 [(0, .ref (ad 11 0)), (1, .ref (ad 10 1)), (2, .ref (ad 10 2)), (3, .ref (ad 10 3)), (4, .ref (ad 10 4)), (5, .ref (ad 10 5)), (6, .ref (ad 10 6)), (7, .ref (ad 10 7)), (8, .ref (ad 10 8)), (9, .ref (ad 10 9)), (10, .ref (ad 10 10)), (11, .ref (ad 10 11)), (12, .int (hI vv)), (13, .int (hI y13)), (14, .int (hI y14)), (16, .int (hI y16)), (17, .int (hI y17)), (18, .int (hI y18)), (19, .int (hI (y19 + 1)))] S1 (8 * (y16 : Int).toNat + ((y19 + 1) : Int).toNat)))) → (hAtC D ad cI cJ cF p l e ({ frames := 7, cells := 32, slots := 256, locals := 169 } : Room) s m args below meth c (MQ below (hQx D ad cI cJ cF (q_L_areSheets S vv)) args s 32 (8 * 32) (hAd ad)) 21 191 [(0, .ref (ad 11 0)), (1, .ref (ad 10 1)), (2, .ref (ad 10 2)), (3, .ref (ad 10 3)), (4, .ref (ad 10 4)), (5, .ref (ad 10 5)), (6, .ref (ad 10 6)), (7, .ref (ad 10 7)), (8, .ref (ad 10 8)), (9, .ref (ad 10 9)), (10, .ref (ad 10 10)), (11, .ref (ad 10 11)), (12, .int (hI vv)), (13, .int (hI y13)), (14, .int (hI y14)), (16, .int (hI y16)), (17, .int (hI y17)), (18, .int (hI y18)), (19, .int (hI y19))] S1 (8 * (y16 : Int).toNat + (y19 : Int).toNat + 1)) := by
    intro y13 y14 y16 y17 y18 y19 S1 h_y13 h_y14 h_y16 h_y17 h_y18 h_y19 h H locs ls hh hl
    have h := h (fun g i k hi => hh.2.1 g i k hi)
    refine iv_iinc (lv' := [(19, .int (hI (y19 + 1))), (0, .ref (ad 11 0)), (1, .ref (ad 10 1)), (2, .ref (ad 10 2)), (3, .ref (ad 10 3)), (4, .ref (ad 10 4)), (5, .ref (ad 10 5)), (6, .ref (ad 10 6)), (7, .ref (ad 10 7)), (8, .ref (ad 10 8)), (9, .ref (ad 10 9)), (10, .ref (ad 10 10)), (11, .ref (ad 10 11)), (12, .int (hI vv)), (13, .int (hI y13)), (14, .int (hI y14)), (16, .int (hI y16)), (17, .int (hI y17)), (18, .int (hI y18))]) hx hb dL_areSheets_191 hl (k := 18) rfl (v := (y19 + 1)) rfl (by decide) rfl (fun ls hl => ?_)
    refine lv_goto (tgt := 81) hx hb dL_areSheets_194 (by decide) ?_
    obtain ⟨g41, h⟩ := h
    refine W.widen g41 (Nat.mul_le_mul_left 8 g41) ?_
    exact h H _ ls hh (lv_sub hl [1, 2, 3, 4, 5, 6, 7, 8, 9, 10, 11, 12, 13, 14, 15, 16, 17, 18, 0] rfl)
  have r197 : ∀ (y13 : Int) (y14 : Int) (y16 : Int) (y17 : Int) (y18 : Int) (S1 : hS), hIn y13 → hIn y14 → hIn y16 → hIn y17 → hIn y18 → ((∀ (g i : Nat) (k : Int), i < 100 → hIn (S1 g i k)) → ((0 ≤ y16 ∧ y16 < 4) ∧ ((((S1 10) 8 y16) ≤ 0 → (hAtC D ad cI cJ cF p l e ({ frames := 7, cells := 32, slots := 256, locals := 169 } : Room) s m args below meth c (MQ below (hQx D ad cI cJ cF (q_L_areSheets S vv)) args s 32 (8 * 32) (hAd ad)) 21 215 [(0, .ref (ad 11 0)), (1, .ref (ad 10 1)), (2, .ref (ad 10 2)), (3, .ref (ad 10 3)), (4, .ref (ad 10 4)), (5, .ref (ad 10 5)), (6, .ref (ad 10 6)), (7, .ref (ad 10 7)), (8, .ref (ad 10 8)), (9, .ref (ad 10 9)), (10, .ref (ad 10 10)), (11, .ref (ad 10 11)), (12, .int (hI vv)), (13, .int (hI (y13 + 0))), (14, .int (hI y14)), (16, .int (hI y16)), (17, .int (hI y17)), (18, .int (hI y18))] S1 (8 * (y16 : Int).toNat + 8))) ∧ (¬ ((S1 10) 8 y16) ≤ 0 → (hAtC D ad cI cJ cF p l e ({ frames := 7, cells := 32, slots := 256, locals := 169 } : Room) s m args below meth c (MQ below (hQx D ad cI cJ cF (q_L_areSheets S vv)) args s 32 (8 * 32) (hAd ad)) 21 215 [(0, .ref (ad 11 0)), (1, .ref (ad 10 1)), (2, .ref (ad 10 2)), (3, .ref (ad 10 3)), (4, .ref (ad 10 4)), (5, .ref (ad 10 5)), (6, .ref (ad 10 6)), (7, .ref (ad 10 7)), (8, .ref (ad 10 8)), (9, .ref (ad 10 9)), (10, .ref (ad 10 10)), (11, .ref (ad 10 11)), (12, .int (hI vv)), (13, .int (hI (y13 + 1))), (14, .int (hI y14)), (16, .int (hI y16)), (17, .int (hI y17)), (18, .int (hI y18))] S1 (8 * (y16 : Int).toNat + 8)))))) → (hAtC D ad cI cJ cF p l e ({ frames := 7, cells := 32, slots := 256, locals := 169 } : Room) s m args below meth c (MQ below (hQx D ad cI cJ cF (q_L_areSheets S vv)) args s 32 (8 * 32) (hAd ad)) 21 197 [(0, .ref (ad 11 0)), (1, .ref (ad 10 1)), (2, .ref (ad 10 2)), (3, .ref (ad 10 3)), (4, .ref (ad 10 4)), (5, .ref (ad 10 5)), (6, .ref (ad 10 6)), (7, .ref (ad 10 7)), (8, .ref (ad 10 8)), (9, .ref (ad 10 9)), (10, .ref (ad 10 10)), (11, .ref (ad 10 11)), (12, .int (hI vv)), (13, .int (hI y13)), (14, .int (hI y14)), (16, .int (hI y16)), (17, .int (hI y17)), (18, .int (hI y18))] S1 (8 * (y16 : Int).toNat + 8)) := by
    intro y13 y14 y16 y17 y18 S1 h_y13 h_y14 h_y16 h_y17 h_y18 h H locs ls hh hl
    have h := h (fun g i k hi => hh.2.1 g i k hi)
    refine lv_iload hx hb dL_areSheets_197 (lv_at hl 13 rfl) ?_
    refine lv_aload hx hb dL_areSheets_199 (lv_at hl 8 rfl) ?_
    refine lv_iload hx hb dL_areSheets_201 (lv_at hl 15 rfl) ?_
    obtain ⟨g42, h⟩ := h
    refine iv_iald hx hb hK hh.1 ia_10_8 g42 (v := ((S1 10) 8 y16)) rfl dL_areSheets_203 ?_
    have hm43 : hIn ((S1 10) 8 y16) := hIn_rd hh.2.1 rfl (by decide)
    refine iv_if_le (tgt := 211) hx hb hm43 dL_areSheets_204 (by decide) (fun c44 => ?_) (fun c44 => ?_)
    · have h := h.1 c44
      refine iv_iconst hx hb dL_areSheets_211 ?_
      refine iv_iadd hx hb dL_areSheets_212 ?_
      refine lv_istore (lv' := [(13, .int (hI (y13 + 0))), (0, .ref (ad 11 0)), (1, .ref (ad 10 1)), (2, .ref (ad 10 2)), (3, .ref (ad 10 3)), (4, .ref (ad 10 4)), (5, .ref (ad 10 5)), (6, .ref (ad 10 6)), (7, .ref (ad 10 7)), (8, .ref (ad 10 8)), (9, .ref (ad 10 9)), (10, .ref (ad 10 10)), (11, .ref (ad 10 11)), (12, .int (hI vv)), (14, .int (hI y14)), (16, .int (hI y16)), (17, .int (hI y17)), (18, .int (hI y18))]) hx hb dL_areSheets_213 hl (by decide) rfl (fun ls hl => ?_)
      exact h H _ ls hh (lv_sub hl [1, 2, 3, 4, 5, 6, 7, 8, 9, 10, 11, 12, 13, 0, 14, 15, 16, 17] rfl)
    · have h := h.2 c44
      refine iv_iconst hx hb dL_areSheets_207 ?_
      refine lv_goto (tgt := 212) hx hb dL_areSheets_208 (by decide) ?_
      refine iv_iadd hx hb dL_areSheets_212 ?_
      refine lv_istore (lv' := [(13, .int (hI (y13 + 1))), (0, .ref (ad 11 0)), (1, .ref (ad 10 1)), (2, .ref (ad 10 2)), (3, .ref (ad 10 3)), (4, .ref (ad 10 4)), (5, .ref (ad 10 5)), (6, .ref (ad 10 6)), (7, .ref (ad 10 7)), (8, .ref (ad 10 8)), (9, .ref (ad 10 9)), (10, .ref (ad 10 10)), (11, .ref (ad 10 11)), (12, .int (hI vv)), (14, .int (hI y14)), (16, .int (hI y16)), (17, .int (hI y17)), (18, .int (hI y18))]) hx hb dL_areSheets_213 hl (by decide) rfl (fun ls hl => ?_)
      exact h H _ ls hh (lv_sub hl [1, 2, 3, 4, 5, 6, 7, 8, 9, 10, 11, 12, 13, 0, 14, 15, 16, 17] rfl)
  have r215 : ∀ (y13 : Int) (y14 : Int) (y16 : Int) (y17 : Int) (y18 : Int) (S1 : hS), hIn y13 → hIn y14 → hIn y16 → hIn y17 → hIn y18 → ((∀ (g i : Nat) (k : Int), i < 100 → hIn (S1 g i k)) → ((y17 = 0 → (hAtC D ad cI cJ cF p l e ({ frames := 7, cells := 32, slots := 256, locals := 169 } : Room) s m args below meth c (MQ below (hQx D ad cI cJ cF (q_L_areSheets S vv)) args s 32 (8 * 32) (hAd ad)) 21 230 [(0, .ref (ad 11 0)), (1, .ref (ad 10 1)), (2, .ref (ad 10 2)), (3, .ref (ad 10 3)), (4, .ref (ad 10 4)), (5, .ref (ad 10 5)), (6, .ref (ad 10 6)), (7, .ref (ad 10 7)), (8, .ref (ad 10 8)), (9, .ref (ad 10 9)), (10, .ref (ad 10 10)), (11, .ref (ad 10 11)), (12, .int (hI vv)), (13, .int (hI y13)), (14, .int (hI (y14 + 0))), (16, .int (hI y16)), (17, .int (hI y17)), (18, .int (hI y18))] S1 (8 * (y16 : Int).toNat + 8))) ∧ (¬ y17 = 0 → (hAtC D ad cI cJ cF p l e ({ frames := 7, cells := 32, slots := 256, locals := 169 } : Room) s m args below meth c (MQ below (hQx D ad cI cJ cF (q_L_areSheets S vv)) args s 32 (8 * 32) (hAd ad)) 21 230 [(0, .ref (ad 11 0)), (1, .ref (ad 10 1)), (2, .ref (ad 10 2)), (3, .ref (ad 10 3)), (4, .ref (ad 10 4)), (5, .ref (ad 10 5)), (6, .ref (ad 10 6)), (7, .ref (ad 10 7)), (8, .ref (ad 10 8)), (9, .ref (ad 10 9)), (10, .ref (ad 10 10)), (11, .ref (ad 10 11)), (12, .int (hI vv)), (13, .int (hI y13)), (14, .int (hI (y14 + 1))), (16, .int (hI y16)), (17, .int (hI y17)), (18, .int (hI y18))] S1 (8 * (y16 : Int).toNat + 8))))) → (hAtC D ad cI cJ cF p l e ({ frames := 7, cells := 32, slots := 256, locals := 169 } : Room) s m args below meth c (MQ below (hQx D ad cI cJ cF (q_L_areSheets S vv)) args s 32 (8 * 32) (hAd ad)) 21 215 [(0, .ref (ad 11 0)), (1, .ref (ad 10 1)), (2, .ref (ad 10 2)), (3, .ref (ad 10 3)), (4, .ref (ad 10 4)), (5, .ref (ad 10 5)), (6, .ref (ad 10 6)), (7, .ref (ad 10 7)), (8, .ref (ad 10 8)), (9, .ref (ad 10 9)), (10, .ref (ad 10 10)), (11, .ref (ad 10 11)), (12, .int (hI vv)), (13, .int (hI y13)), (14, .int (hI y14)), (16, .int (hI y16)), (17, .int (hI y17)), (18, .int (hI y18))] S1 (8 * (y16 : Int).toNat + 8)) := by
    intro y13 y14 y16 y17 y18 S1 h_y13 h_y14 h_y16 h_y17 h_y18 h H locs ls hh hl
    have h := h (fun g i k hi => hh.2.1 g i k hi)
    refine lv_iload hx hb dL_areSheets_215 (lv_at hl 14 rfl) ?_
    refine lv_iload hx hb dL_areSheets_217 (lv_at hl 16 rfl) ?_
    refine iv_if_eq (tgt := 226) hx hb h_y17 dL_areSheets_219 (by decide) (fun c45 => ?_) (fun c45 => ?_)
    · have h := h.1 c45
      refine iv_iconst hx hb dL_areSheets_226 ?_
      refine iv_iadd hx hb dL_areSheets_227 ?_
      refine lv_istore (lv' := [(14, .int (hI (y14 + 0))), (0, .ref (ad 11 0)), (1, .ref (ad 10 1)), (2, .ref (ad 10 2)), (3, .ref (ad 10 3)), (4, .ref (ad 10 4)), (5, .ref (ad 10 5)), (6, .ref (ad 10 6)), (7, .ref (ad 10 7)), (8, .ref (ad 10 8)), (9, .ref (ad 10 9)), (10, .ref (ad 10 10)), (11, .ref (ad 10 11)), (12, .int (hI vv)), (13, .int (hI y13)), (16, .int (hI y16)), (17, .int (hI y17)), (18, .int (hI y18))]) hx hb dL_areSheets_228 hl (by decide) rfl (fun ls hl => ?_)
      exact h H _ ls hh (lv_sub hl [1, 2, 3, 4, 5, 6, 7, 8, 9, 10, 11, 12, 13, 14, 0, 15, 16, 17] rfl)
    · have h := h.2 c45
      refine iv_iconst hx hb dL_areSheets_222 ?_
      refine lv_goto (tgt := 227) hx hb dL_areSheets_223 (by decide) ?_
      refine iv_iadd hx hb dL_areSheets_227 ?_
      refine lv_istore (lv' := [(14, .int (hI (y14 + 1))), (0, .ref (ad 11 0)), (1, .ref (ad 10 1)), (2, .ref (ad 10 2)), (3, .ref (ad 10 3)), (4, .ref (ad 10 4)), (5, .ref (ad 10 5)), (6, .ref (ad 10 6)), (7, .ref (ad 10 7)), (8, .ref (ad 10 8)), (9, .ref (ad 10 9)), (10, .ref (ad 10 10)), (11, .ref (ad 10 11)), (12, .int (hI vv)), (13, .int (hI y13)), (16, .int (hI y16)), (17, .int (hI y17)), (18, .int (hI y18))]) hx hb dL_areSheets_228 hl (by decide) rfl (fun ls hl => ?_)
      exact h H _ ls hh (lv_sub hl [1, 2, 3, 4, 5, 6, 7, 8, 9, 10, 11, 12, 13, 14, 0, 15, 16, 17] rfl)
  have r230 : ∀ (y13 : Int) (y14 : Int) (y16 : Int) (y17 : Int) (y18 : Int) (S1 : hS), hIn y13 → hIn y14 → hIn y16 → hIn y17 → hIn y18 → ((∀ (g i : Nat) (k : Int), i < 100 → hIn (S1 g i k)) → ((0 ≤ y16 ∧ y16 < 4) ∧ ((((S1 10) 8 y16) = 0 → (p_X5_sheetOf S1 y16 0 ∧ ((8 * (y16 : Int).toNat + 8) ≤ 32 ∧ (((v_X5_sheetOf S1 y16 0) = (-1000004) → (hAtC D ad cI cJ cF p l e ({ frames := 7, cells := 32, slots := 256, locals := 169 } : Room) s m args below meth c (MQ below (hQx D ad cI cJ cF (q_L_areSheets S vv)) args s 32 (8 * 32) (hAd ad)) 21 327 [(0, .ref (ad 11 0)), (1, .ref (ad 10 1)), (2, .ref (ad 10 2)), (3, .ref (ad 10 3)), (4, .ref (ad 10 4)), (5, .ref (ad 10 5)), (6, .ref (ad 10 6)), (7, .ref (ad 10 7)), (8, .ref (ad 10 8)), (9, .ref (ad 10 9)), (10, .ref (ad 10 10)), (11, .ref (ad 10 11)), (12, .int (hI vv)), (13, .int (hI y13)), (14, .int (hI y14)), (15, .int (hI 1)), (16, .int (hI y16))] (m_X5_sheetOf S1 y16 0) (8 * (y16 : Int).toNat + 8))) ∧ (¬ (v_X5_sheetOf S1 y16 0) = (-1000004) → (hAtC D ad cI cJ cF p l e ({ frames := 7, cells := 32, slots := 256, locals := 169 } : Room) s m args below meth c (MQ below (hQx D ad cI cJ cF (q_L_areSheets S vv)) args s 32 (8 * 32) (hAd ad)) 21 327 [(0, .ref (ad 11 0)), (1, .ref (ad 10 1)), (2, .ref (ad 10 2)), (3, .ref (ad 10 3)), (4, .ref (ad 10 4)), (5, .ref (ad 10 5)), (6, .ref (ad 10 6)), (7, .ref (ad 10 7)), (8, .ref (ad 10 8)), (9, .ref (ad 10 9)), (10, .ref (ad 10 10)), (11, .ref (ad 10 11)), (12, .int (hI vv)), (13, .int (hI y13)), (14, .int (hI y14)), (15, .int (hI 0)), (16, .int (hI y16))] (m_X5_sheetOf S1 y16 0) (8 * (y16 : Int).toNat + 8))))))) ∧ (¬ ((S1 10) 8 y16) = 0 → (p_X5_sheetOf S1 y16 0 ∧ ((8 * (y16 : Int).toNat + 8) ≤ 32 ∧ (((v_X5_sheetOf S1 y16 0) = (((m_X5_sheetOf S1 y16 0) 10) 8 y16) → (p_X5_sheetOf (m_X5_sheetOf S1 y16 0) y16 1 ∧ (((v_X5_sheetOf (m_X5_sheetOf S1 y16 0) y16 1) = (((m_X5_sheetOf (m_X5_sheetOf S1 y16 0) y16 1) 10) 9 y16) → (p_X5_sheetOf (m_X5_sheetOf (m_X5_sheetOf S1 y16 0) y16 1) y16 2 ∧ ((y17 = 0 → (((v_X5_sheetOf (m_X5_sheetOf (m_X5_sheetOf S1 y16 0) y16 1) y16 2) = 0 → (p_X5_sheetOf (m_X5_sheetOf (m_X5_sheetOf (m_X5_sheetOf S1 y16 0) y16 1) y16 2) y16 3 ∧ (((v_X5_sheetOf (m_X5_sheetOf (m_X5_sheetOf (m_X5_sheetOf S1 y16 0) y16 1) y16 2) y16 3) = y18 → (hAtC D ad cI cJ cF p l e ({ frames := 7, cells := 32, slots := 256, locals := 169 } : Room) s m args below meth c (MQ below (hQx D ad cI cJ cF (q_L_areSheets S vv)) args s 32 (8 * 32) (hAd ad)) 21 327 [(0, .ref (ad 11 0)), (1, .ref (ad 10 1)), (2, .ref (ad 10 2)), (3, .ref (ad 10 3)), (4, .ref (ad 10 4)), (5, .ref (ad 10 5)), (6, .ref (ad 10 6)), (7, .ref (ad 10 7)), (8, .ref (ad 10 8)), (9, .ref (ad 10 9)), (10, .ref (ad 10 10)), (11, .ref (ad 10 11)), (12, .int (hI vv)), (13, .int (hI y13)), (14, .int (hI y14)), (15, .int (hI 1)), (16, .int (hI y16))] (m_X5_sheetOf (m_X5_sheetOf (m_X5_sheetOf (m_X5_sheetOf S1 y16 0) y16 1) y16 2) y16 3) (8 * (y16 : Int).toNat + 8))) ∧ (¬ (v_X5_sheetOf (m_X5_sheetOf (m_X5_sheetOf (m_X5_sheetOf S1 y16 0) y16 1) y16 2) y16 3) = y18 → (hAtC D ad cI cJ cF p l e ({ frames := 7, cells := 32, slots := 256, locals := 169 } : Room) s m args below meth c (MQ below (hQx D ad cI cJ cF (q_L_areSheets S vv)) args s 32 (8 * 32) (hAd ad)) 21 327 [(0, .ref (ad 11 0)), (1, .ref (ad 10 1)), (2, .ref (ad 10 2)), (3, .ref (ad 10 3)), (4, .ref (ad 10 4)), (5, .ref (ad 10 5)), (6, .ref (ad 10 6)), (7, .ref (ad 10 7)), (8, .ref (ad 10 8)), (9, .ref (ad 10 9)), (10, .ref (ad 10 10)), (11, .ref (ad 10 11)), (12, .int (hI vv)), (13, .int (hI y13)), (14, .int (hI y14)), (15, .int (hI 0)), (16, .int (hI y16))] (m_X5_sheetOf (m_X5_sheetOf (m_X5_sheetOf (m_X5_sheetOf S1 y16 0) y16 1) y16 2) y16 3) (8 * (y16 : Int).toNat + 8)))))) ∧ (¬ (v_X5_sheetOf (m_X5_sheetOf (m_X5_sheetOf S1 y16 0) y16 1) y16 2) = 0 → (hAtC D ad cI cJ cF p l e ({ frames := 7, cells := 32, slots := 256, locals := 169 } : Room) s m args below meth c (MQ below (hQx D ad cI cJ cF (q_L_areSheets S vv)) args s 32 (8 * 32) (hAd ad)) 21 327 [(0, .ref (ad 11 0)), (1, .ref (ad 10 1)), (2, .ref (ad 10 2)), (3, .ref (ad 10 3)), (4, .ref (ad 10 4)), (5, .ref (ad 10 5)), (6, .ref (ad 10 6)), (7, .ref (ad 10 7)), (8, .ref (ad 10 8)), (9, .ref (ad 10 9)), (10, .ref (ad 10 10)), (11, .ref (ad 10 11)), (12, .int (hI vv)), (13, .int (hI y13)), (14, .int (hI y14)), (15, .int (hI 0)), (16, .int (hI y16))] (m_X5_sheetOf (m_X5_sheetOf (m_X5_sheetOf S1 y16 0) y16 1) y16 2) (8 * (y16 : Int).toNat + 8))))) ∧ (¬ y17 = 0 → (((v_X5_sheetOf (m_X5_sheetOf (m_X5_sheetOf S1 y16 0) y16 1) y16 2) = 1 → (p_X5_sheetOf (m_X5_sheetOf (m_X5_sheetOf (m_X5_sheetOf S1 y16 0) y16 1) y16 2) y16 3 ∧ (((v_X5_sheetOf (m_X5_sheetOf (m_X5_sheetOf (m_X5_sheetOf S1 y16 0) y16 1) y16 2) y16 3) = y18 → (hAtC D ad cI cJ cF p l e ({ frames := 7, cells := 32, slots := 256, locals := 169 } : Room) s m args below meth c (MQ below (hQx D ad cI cJ cF (q_L_areSheets S vv)) args s 32 (8 * 32) (hAd ad)) 21 327 [(0, .ref (ad 11 0)), (1, .ref (ad 10 1)), (2, .ref (ad 10 2)), (3, .ref (ad 10 3)), (4, .ref (ad 10 4)), (5, .ref (ad 10 5)), (6, .ref (ad 10 6)), (7, .ref (ad 10 7)), (8, .ref (ad 10 8)), (9, .ref (ad 10 9)), (10, .ref (ad 10 10)), (11, .ref (ad 10 11)), (12, .int (hI vv)), (13, .int (hI y13)), (14, .int (hI y14)), (15, .int (hI 1)), (16, .int (hI y16))] (m_X5_sheetOf (m_X5_sheetOf (m_X5_sheetOf (m_X5_sheetOf S1 y16 0) y16 1) y16 2) y16 3) (8 * (y16 : Int).toNat + 8))) ∧ (¬ (v_X5_sheetOf (m_X5_sheetOf (m_X5_sheetOf (m_X5_sheetOf S1 y16 0) y16 1) y16 2) y16 3) = y18 → (hAtC D ad cI cJ cF p l e ({ frames := 7, cells := 32, slots := 256, locals := 169 } : Room) s m args below meth c (MQ below (hQx D ad cI cJ cF (q_L_areSheets S vv)) args s 32 (8 * 32) (hAd ad)) 21 327 [(0, .ref (ad 11 0)), (1, .ref (ad 10 1)), (2, .ref (ad 10 2)), (3, .ref (ad 10 3)), (4, .ref (ad 10 4)), (5, .ref (ad 10 5)), (6, .ref (ad 10 6)), (7, .ref (ad 10 7)), (8, .ref (ad 10 8)), (9, .ref (ad 10 9)), (10, .ref (ad 10 10)), (11, .ref (ad 10 11)), (12, .int (hI vv)), (13, .int (hI y13)), (14, .int (hI y14)), (15, .int (hI 0)), (16, .int (hI y16))] (m_X5_sheetOf (m_X5_sheetOf (m_X5_sheetOf (m_X5_sheetOf S1 y16 0) y16 1) y16 2) y16 3) (8 * (y16 : Int).toNat + 8)))))) ∧ (¬ (v_X5_sheetOf (m_X5_sheetOf (m_X5_sheetOf S1 y16 0) y16 1) y16 2) = 1 → (hAtC D ad cI cJ cF p l e ({ frames := 7, cells := 32, slots := 256, locals := 169 } : Room) s m args below meth c (MQ below (hQx D ad cI cJ cF (q_L_areSheets S vv)) args s 32 (8 * 32) (hAd ad)) 21 327 [(0, .ref (ad 11 0)), (1, .ref (ad 10 1)), (2, .ref (ad 10 2)), (3, .ref (ad 10 3)), (4, .ref (ad 10 4)), (5, .ref (ad 10 5)), (6, .ref (ad 10 6)), (7, .ref (ad 10 7)), (8, .ref (ad 10 8)), (9, .ref (ad 10 9)), (10, .ref (ad 10 10)), (11, .ref (ad 10 11)), (12, .int (hI vv)), (13, .int (hI y13)), (14, .int (hI y14)), (15, .int (hI 0)), (16, .int (hI y16))] (m_X5_sheetOf (m_X5_sheetOf (m_X5_sheetOf S1 y16 0) y16 1) y16 2) (8 * (y16 : Int).toNat + 8)))))))) ∧ (¬ (v_X5_sheetOf (m_X5_sheetOf S1 y16 0) y16 1) = (((m_X5_sheetOf (m_X5_sheetOf S1 y16 0) y16 1) 10) 9 y16) → (hAtC D ad cI cJ cF p l e ({ frames := 7, cells := 32, slots := 256, locals := 169 } : Room) s m args below meth c (MQ below (hQx D ad cI cJ cF (q_L_areSheets S vv)) args s 32 (8 * 32) (hAd ad)) 21 327 [(0, .ref (ad 11 0)), (1, .ref (ad 10 1)), (2, .ref (ad 10 2)), (3, .ref (ad 10 3)), (4, .ref (ad 10 4)), (5, .ref (ad 10 5)), (6, .ref (ad 10 6)), (7, .ref (ad 10 7)), (8, .ref (ad 10 8)), (9, .ref (ad 10 9)), (10, .ref (ad 10 10)), (11, .ref (ad 10 11)), (12, .int (hI vv)), (13, .int (hI y13)), (14, .int (hI y14)), (15, .int (hI 0)), (16, .int (hI y16))] (m_X5_sheetOf (m_X5_sheetOf S1 y16 0) y16 1) (8 * (y16 : Int).toNat + 8)))))) ∧ (¬ (v_X5_sheetOf S1 y16 0) = (((m_X5_sheetOf S1 y16 0) 10) 8 y16) → (hAtC D ad cI cJ cF p l e ({ frames := 7, cells := 32, slots := 256, locals := 169 } : Room) s m args below meth c (MQ below (hQx D ad cI cJ cF (q_L_areSheets S vv)) args s 32 (8 * 32) (hAd ad)) 21 327 [(0, .ref (ad 11 0)), (1, .ref (ad 10 1)), (2, .ref (ad 10 2)), (3, .ref (ad 10 3)), (4, .ref (ad 10 4)), (5, .ref (ad 10 5)), (6, .ref (ad 10 6)), (7, .ref (ad 10 7)), (8, .ref (ad 10 8)), (9, .ref (ad 10 9)), (10, .ref (ad 10 10)), (11, .ref (ad 10 11)), (12, .int (hI vv)), (13, .int (hI y13)), (14, .int (hI y14)), (15, .int (hI 0)), (16, .int (hI y16))] (m_X5_sheetOf S1 y16 0) (8 * (y16 : Int).toNat + 8)))))))))) → (hAtC D ad cI cJ cF p l e ({ frames := 7, cells := 32, slots := 256, locals := 169 } : Room) s m args below meth c (MQ below (hQx D ad cI cJ cF (q_L_areSheets S vv)) args s 32 (8 * 32) (hAd ad)) 21 230 [(0, .ref (ad 11 0)), (1, .ref (ad 10 1)), (2, .ref (ad 10 2)), (3, .ref (ad 10 3)), (4, .ref (ad 10 4)), (5, .ref (ad 10 5)), (6, .ref (ad 10 6)), (7, .ref (ad 10 7)), (8, .ref (ad 10 8)), (9, .ref (ad 10 9)), (10, .ref (ad 10 10)), (11, .ref (ad 10 11)), (12, .int (hI vv)), (13, .int (hI y13)), (14, .int (hI y14)), (16, .int (hI y16)), (17, .int (hI y17)), (18, .int (hI y18))] S1 (8 * (y16 : Int).toNat + 8)) := by
    intro y13 y14 y16 y17 y18 S1 h_y13 h_y14 h_y16 h_y17 h_y18 h H locs ls hh hl
    have h := h (fun g i k hi => hh.2.1 g i k hi)
    refine lv_aload hx hb dL_areSheets_230 (lv_at hl 8 rfl) ?_
    refine lv_iload hx hb dL_areSheets_232 (lv_at hl 15 rfl) ?_
    obtain ⟨g46, h⟩ := h
    refine iv_iald hx hb hK hh.1 ia_10_8 g46 (v := ((S1 10) 8 y16)) rfl dL_areSheets_234 ?_
    have hm47 : hIn ((S1 10) 8 y16) := hIn_rd hh.2.1 rfl (by decide)
    refine iv_if_ne (tgt := 258) hx hb hm47 dL_areSheets_235 (by decide) (fun c48 => ?_) (fun c48 => ?_)
    · have h := h.2 c48
      refine lv_aload_n hx hb dL_areSheets_258 rfl (lv_at hl 0 rfl) ?_
      refine lv_iload hx hb dL_areSheets_259 (lv_at hl 15 rfl) ?_
      refine iv_iconst hx hb dL_areSheets_261 ?_
      obtain ⟨g49, h⟩ := h
      obtain ⟨g50, h⟩ := h
      refine iv_ki (iv_rV (As := [.int (hI y16), .int (hI 0)]) (rest := []) E hh (ok_X5_sheetOf l hinj S1 y16 0 h_y16 ⟨by decide, by decide⟩ g49) cb_X5_sheetOf q3_43 rfl rfl ⟨Nat.le_of_ble_eq_true rfl, Nat.le_of_ble_eq_true rfl⟩ (ob_X) rfl rfl rfl hl.1 rfl (Nat.le_of_ble_eq_true rfl) dL_areSheets_262 (rk0 (k := (8 * (y16 : Int).toNat + 8)) (K := 32) g50)) hh (fun hc51 H locs hh => ?_)
      refine lv_aload hx hb dL_areSheets_265 (lv_at hl 8 rfl) ?_
      refine lv_iload hx hb dL_areSheets_267 (lv_at hl 15 rfl) ?_
      refine iv_iald hx hb hK hh.1 ia_10_8 g46 (v := (((m_X5_sheetOf S1 y16 0) 10) 8 y16)) rfl dL_areSheets_269 ?_
      have hm52 : hIn (((m_X5_sheetOf S1 y16 0) 10) 8 y16) := hIn_rd hh.2.1 rfl (by decide)
      refine iv_icmp_ne (tgt := 324) hx hb hc51 hm52 dL_areSheets_270 (by decide) (fun c53 => ?_) (fun c53 => ?_)
      · have h := h.2 c53
        refine iv_iconst hx hb dL_areSheets_324 ?_
        refine lv_istore (lv' := [(15, .int (hI 0)), (0, .ref (ad 11 0)), (1, .ref (ad 10 1)), (2, .ref (ad 10 2)), (3, .ref (ad 10 3)), (4, .ref (ad 10 4)), (5, .ref (ad 10 5)), (6, .ref (ad 10 6)), (7, .ref (ad 10 7)), (8, .ref (ad 10 8)), (9, .ref (ad 10 9)), (10, .ref (ad 10 10)), (11, .ref (ad 10 11)), (12, .int (hI vv)), (13, .int (hI y13)), (14, .int (hI y14)), (16, .int (hI y16)), (17, .int (hI y17)), (18, .int (hI y18))]) hx hb dL_areSheets_325 hl (by decide) rfl (fun ls hl => ?_)
        exact h H _ ls hh (lv_sub hl [1, 2, 3, 4, 5, 6, 7, 8, 9, 10, 11, 12, 13, 14, 15, 0, 16] rfl)
      · have h := h.1 c53
        refine lv_aload_n hx hb dL_areSheets_273 rfl (lv_at hl 0 rfl) ?_
        refine lv_iload hx hb dL_areSheets_274 (lv_at hl 15 rfl) ?_
        refine iv_iconst hx hb dL_areSheets_276 ?_
        obtain ⟨g54, h⟩ := h
        refine iv_ki (iv_rV (As := [.int (hI y16), .int (hI 1)]) (rest := []) E hh (ok_X5_sheetOf l hinj (m_X5_sheetOf S1 y16 0) y16 1 h_y16 ⟨by decide, by decide⟩ g54) cb_X5_sheetOf q3_43 rfl rfl ⟨Nat.le_of_ble_eq_true rfl, Nat.le_of_ble_eq_true rfl⟩ (ob_X) rfl rfl rfl hl.1 rfl (Nat.le_of_ble_eq_true rfl) dL_areSheets_277 (rk0 (k := (8 * (y16 : Int).toNat + 8)) (K := 32) g50)) hh (fun hc55 H locs hh => ?_)
        refine lv_aload hx hb dL_areSheets_280 (lv_at hl 9 rfl) ?_
        refine lv_iload hx hb dL_areSheets_282 (lv_at hl 15 rfl) ?_
        refine iv_iald hx hb hK hh.1 ia_10_9 g46 (v := (((m_X5_sheetOf (m_X5_sheetOf S1 y16 0) y16 1) 10) 9 y16)) rfl dL_areSheets_284 ?_
        have hm56 : hIn (((m_X5_sheetOf (m_X5_sheetOf S1 y16 0) y16 1) 10) 9 y16) := hIn_rd hh.2.1 rfl (by decide)
        refine iv_icmp_ne (tgt := 324) hx hb hc55 hm56 dL_areSheets_285 (by decide) (fun c57 => ?_) (fun c57 => ?_)
        · have h := h.2 c57
          refine iv_iconst hx hb dL_areSheets_324 ?_
          refine lv_istore (lv' := [(15, .int (hI 0)), (0, .ref (ad 11 0)), (1, .ref (ad 10 1)), (2, .ref (ad 10 2)), (3, .ref (ad 10 3)), (4, .ref (ad 10 4)), (5, .ref (ad 10 5)), (6, .ref (ad 10 6)), (7, .ref (ad 10 7)), (8, .ref (ad 10 8)), (9, .ref (ad 10 9)), (10, .ref (ad 10 10)), (11, .ref (ad 10 11)), (12, .int (hI vv)), (13, .int (hI y13)), (14, .int (hI y14)), (16, .int (hI y16)), (17, .int (hI y17)), (18, .int (hI y18))]) hx hb dL_areSheets_325 hl (by decide) rfl (fun ls hl => ?_)
          exact h H _ ls hh (lv_sub hl [1, 2, 3, 4, 5, 6, 7, 8, 9, 10, 11, 12, 13, 14, 15, 0, 16] rfl)
        · have h := h.1 c57
          refine lv_aload_n hx hb dL_areSheets_288 rfl (lv_at hl 0 rfl) ?_
          refine lv_iload hx hb dL_areSheets_289 (lv_at hl 15 rfl) ?_
          refine iv_iconst hx hb dL_areSheets_291 ?_
          obtain ⟨g58, h⟩ := h
          refine iv_ki (iv_rV (As := [.int (hI y16), .int (hI 2)]) (rest := []) E hh (ok_X5_sheetOf l hinj (m_X5_sheetOf (m_X5_sheetOf S1 y16 0) y16 1) y16 2 h_y16 ⟨by decide, by decide⟩ g58) cb_X5_sheetOf q3_43 rfl rfl ⟨Nat.le_of_ble_eq_true rfl, Nat.le_of_ble_eq_true rfl⟩ (ob_X) rfl rfl rfl hl.1 rfl (Nat.le_of_ble_eq_true rfl) dL_areSheets_292 (rk0 (k := (8 * (y16 : Int).toNat + 8)) (K := 32) g50)) hh (fun hc59 H locs hh => ?_)
          refine lv_iload hx hb dL_areSheets_295 (lv_at hl 16 rfl) ?_
          refine iv_if_eq (tgt := 304) hx hb h_y17 dL_areSheets_297 (by decide) (fun c60 => ?_) (fun c60 => ?_)
          · have h := h.1 c60
            refine iv_iconst hx hb dL_areSheets_304 ?_
            refine iv_icmp_ne (tgt := 324) hx hb hc59 ⟨by decide, by decide⟩ dL_areSheets_305 (by decide) (fun c61 => ?_) (fun c61 => ?_)
            · have h := h.2 c61
              refine iv_iconst hx hb dL_areSheets_324 ?_
              refine lv_istore (lv' := [(15, .int (hI 0)), (0, .ref (ad 11 0)), (1, .ref (ad 10 1)), (2, .ref (ad 10 2)), (3, .ref (ad 10 3)), (4, .ref (ad 10 4)), (5, .ref (ad 10 5)), (6, .ref (ad 10 6)), (7, .ref (ad 10 7)), (8, .ref (ad 10 8)), (9, .ref (ad 10 9)), (10, .ref (ad 10 10)), (11, .ref (ad 10 11)), (12, .int (hI vv)), (13, .int (hI y13)), (14, .int (hI y14)), (16, .int (hI y16)), (17, .int (hI y17)), (18, .int (hI y18))]) hx hb dL_areSheets_325 hl (by decide) rfl (fun ls hl => ?_)
              exact h H _ ls hh (lv_sub hl [1, 2, 3, 4, 5, 6, 7, 8, 9, 10, 11, 12, 13, 14, 15, 0, 16] rfl)
            · have h := h.1 c61
              refine lv_aload_n hx hb dL_areSheets_308 rfl (lv_at hl 0 rfl) ?_
              refine lv_iload hx hb dL_areSheets_309 (lv_at hl 15 rfl) ?_
              refine iv_iconst hx hb dL_areSheets_311 ?_
              obtain ⟨g62, h⟩ := h
              refine iv_ki (iv_rV (As := [.int (hI y16), .int (hI 3)]) (rest := []) E hh (ok_X5_sheetOf l hinj (m_X5_sheetOf (m_X5_sheetOf (m_X5_sheetOf S1 y16 0) y16 1) y16 2) y16 3 h_y16 ⟨by decide, by decide⟩ g62) cb_X5_sheetOf q3_43 rfl rfl ⟨Nat.le_of_ble_eq_true rfl, Nat.le_of_ble_eq_true rfl⟩ (ob_X) rfl rfl rfl hl.1 rfl (Nat.le_of_ble_eq_true rfl) dL_areSheets_312 (rk0 (k := (8 * (y16 : Int).toNat + 8)) (K := 32) g50)) hh (fun hc63 H locs hh => ?_)
              refine lv_iload hx hb dL_areSheets_315 (lv_at hl 17 rfl) ?_
              refine iv_icmp_ne (tgt := 324) hx hb hc63 h_y18 dL_areSheets_317 (by decide) (fun c64 => ?_) (fun c64 => ?_)
              · have h := h.2 c64
                refine iv_iconst hx hb dL_areSheets_324 ?_
                refine lv_istore (lv' := [(15, .int (hI 0)), (0, .ref (ad 11 0)), (1, .ref (ad 10 1)), (2, .ref (ad 10 2)), (3, .ref (ad 10 3)), (4, .ref (ad 10 4)), (5, .ref (ad 10 5)), (6, .ref (ad 10 6)), (7, .ref (ad 10 7)), (8, .ref (ad 10 8)), (9, .ref (ad 10 9)), (10, .ref (ad 10 10)), (11, .ref (ad 10 11)), (12, .int (hI vv)), (13, .int (hI y13)), (14, .int (hI y14)), (16, .int (hI y16)), (17, .int (hI y17)), (18, .int (hI y18))]) hx hb dL_areSheets_325 hl (by decide) rfl (fun ls hl => ?_)
                exact h H _ ls hh (lv_sub hl [1, 2, 3, 4, 5, 6, 7, 8, 9, 10, 11, 12, 13, 14, 15, 0, 16] rfl)
              · have h := h.1 c64
                refine iv_iconst hx hb dL_areSheets_320 ?_
                refine lv_goto (tgt := 325) hx hb dL_areSheets_321 (by decide) ?_
                refine lv_istore (lv' := [(15, .int (hI 1)), (0, .ref (ad 11 0)), (1, .ref (ad 10 1)), (2, .ref (ad 10 2)), (3, .ref (ad 10 3)), (4, .ref (ad 10 4)), (5, .ref (ad 10 5)), (6, .ref (ad 10 6)), (7, .ref (ad 10 7)), (8, .ref (ad 10 8)), (9, .ref (ad 10 9)), (10, .ref (ad 10 10)), (11, .ref (ad 10 11)), (12, .int (hI vv)), (13, .int (hI y13)), (14, .int (hI y14)), (16, .int (hI y16)), (17, .int (hI y17)), (18, .int (hI y18))]) hx hb dL_areSheets_325 hl (by decide) rfl (fun ls hl => ?_)
                exact h H _ ls hh (lv_sub hl [1, 2, 3, 4, 5, 6, 7, 8, 9, 10, 11, 12, 13, 14, 15, 0, 16] rfl)
          · have h := h.2 c60
            refine iv_iconst hx hb dL_areSheets_300 ?_
            refine lv_goto (tgt := 305) hx hb dL_areSheets_301 (by decide) ?_
            refine iv_icmp_ne (tgt := 324) hx hb hc59 ⟨by decide, by decide⟩ dL_areSheets_305 (by decide) (fun c65 => ?_) (fun c65 => ?_)
            · have h := h.2 c65
              refine iv_iconst hx hb dL_areSheets_324 ?_
              refine lv_istore (lv' := [(15, .int (hI 0)), (0, .ref (ad 11 0)), (1, .ref (ad 10 1)), (2, .ref (ad 10 2)), (3, .ref (ad 10 3)), (4, .ref (ad 10 4)), (5, .ref (ad 10 5)), (6, .ref (ad 10 6)), (7, .ref (ad 10 7)), (8, .ref (ad 10 8)), (9, .ref (ad 10 9)), (10, .ref (ad 10 10)), (11, .ref (ad 10 11)), (12, .int (hI vv)), (13, .int (hI y13)), (14, .int (hI y14)), (16, .int (hI y16)), (17, .int (hI y17)), (18, .int (hI y18))]) hx hb dL_areSheets_325 hl (by decide) rfl (fun ls hl => ?_)
              exact h H _ ls hh (lv_sub hl [1, 2, 3, 4, 5, 6, 7, 8, 9, 10, 11, 12, 13, 14, 15, 0, 16] rfl)
            · have h := h.1 c65
              refine lv_aload_n hx hb dL_areSheets_308 rfl (lv_at hl 0 rfl) ?_
              refine lv_iload hx hb dL_areSheets_309 (lv_at hl 15 rfl) ?_
              refine iv_iconst hx hb dL_areSheets_311 ?_
              obtain ⟨g66, h⟩ := h
              refine iv_ki (iv_rV (As := [.int (hI y16), .int (hI 3)]) (rest := []) E hh (ok_X5_sheetOf l hinj (m_X5_sheetOf (m_X5_sheetOf (m_X5_sheetOf S1 y16 0) y16 1) y16 2) y16 3 h_y16 ⟨by decide, by decide⟩ g66) cb_X5_sheetOf q3_43 rfl rfl ⟨Nat.le_of_ble_eq_true rfl, Nat.le_of_ble_eq_true rfl⟩ (ob_X) rfl rfl rfl hl.1 rfl (Nat.le_of_ble_eq_true rfl) dL_areSheets_312 (rk0 (k := (8 * (y16 : Int).toNat + 8)) (K := 32) g50)) hh (fun hc67 H locs hh => ?_)
              refine lv_iload hx hb dL_areSheets_315 (lv_at hl 17 rfl) ?_
              refine iv_icmp_ne (tgt := 324) hx hb hc67 h_y18 dL_areSheets_317 (by decide) (fun c68 => ?_) (fun c68 => ?_)
              · have h := h.2 c68
                refine iv_iconst hx hb dL_areSheets_324 ?_
                refine lv_istore (lv' := [(15, .int (hI 0)), (0, .ref (ad 11 0)), (1, .ref (ad 10 1)), (2, .ref (ad 10 2)), (3, .ref (ad 10 3)), (4, .ref (ad 10 4)), (5, .ref (ad 10 5)), (6, .ref (ad 10 6)), (7, .ref (ad 10 7)), (8, .ref (ad 10 8)), (9, .ref (ad 10 9)), (10, .ref (ad 10 10)), (11, .ref (ad 10 11)), (12, .int (hI vv)), (13, .int (hI y13)), (14, .int (hI y14)), (16, .int (hI y16)), (17, .int (hI y17)), (18, .int (hI y18))]) hx hb dL_areSheets_325 hl (by decide) rfl (fun ls hl => ?_)
                exact h H _ ls hh (lv_sub hl [1, 2, 3, 4, 5, 6, 7, 8, 9, 10, 11, 12, 13, 14, 15, 0, 16] rfl)
              · have h := h.1 c68
                refine iv_iconst hx hb dL_areSheets_320 ?_
                refine lv_goto (tgt := 325) hx hb dL_areSheets_321 (by decide) ?_
                refine lv_istore (lv' := [(15, .int (hI 1)), (0, .ref (ad 11 0)), (1, .ref (ad 10 1)), (2, .ref (ad 10 2)), (3, .ref (ad 10 3)), (4, .ref (ad 10 4)), (5, .ref (ad 10 5)), (6, .ref (ad 10 6)), (7, .ref (ad 10 7)), (8, .ref (ad 10 8)), (9, .ref (ad 10 9)), (10, .ref (ad 10 10)), (11, .ref (ad 10 11)), (12, .int (hI vv)), (13, .int (hI y13)), (14, .int (hI y14)), (16, .int (hI y16)), (17, .int (hI y17)), (18, .int (hI y18))]) hx hb dL_areSheets_325 hl (by decide) rfl (fun ls hl => ?_)
                exact h H _ ls hh (lv_sub hl [1, 2, 3, 4, 5, 6, 7, 8, 9, 10, 11, 12, 13, 14, 15, 0, 16] rfl)
    · have h := h.1 c48
      refine lv_aload_n hx hb dL_areSheets_238 rfl (lv_at hl 0 rfl) ?_
      refine lv_iload hx hb dL_areSheets_239 (lv_at hl 15 rfl) ?_
      refine iv_iconst hx hb dL_areSheets_241 ?_
      obtain ⟨g69, h⟩ := h
      obtain ⟨g70, h⟩ := h
      refine iv_ki (iv_rV (As := [.int (hI y16), .int (hI 0)]) (rest := []) E hh (ok_X5_sheetOf l hinj S1 y16 0 h_y16 ⟨by decide, by decide⟩ g69) cb_X5_sheetOf q3_43 rfl rfl ⟨Nat.le_of_ble_eq_true rfl, Nat.le_of_ble_eq_true rfl⟩ (ob_X) rfl rfl rfl hl.1 rfl (Nat.le_of_ble_eq_true rfl) dL_areSheets_242 (rk0 (k := (8 * (y16 : Int).toNat + 8)) (K := 32) g70)) hh (fun hc71 H locs hh => ?_)
      refine iv_ldc (n := (-1000004)) hx hb (by decide) hown (hts _ q3_39) dL_areSheets_245 ?_
      refine iv_icmp_ne (tgt := 254) hx hb hc71 ⟨by decide, by decide⟩ dL_areSheets_247 (by decide) (fun c72 => ?_) (fun c72 => ?_)
      · have h := h.2 c72
        refine iv_iconst hx hb dL_areSheets_254 ?_
        refine lv_goto (tgt := 325) hx hb dL_areSheets_255 (by decide) ?_
        refine lv_istore (lv' := [(15, .int (hI 0)), (0, .ref (ad 11 0)), (1, .ref (ad 10 1)), (2, .ref (ad 10 2)), (3, .ref (ad 10 3)), (4, .ref (ad 10 4)), (5, .ref (ad 10 5)), (6, .ref (ad 10 6)), (7, .ref (ad 10 7)), (8, .ref (ad 10 8)), (9, .ref (ad 10 9)), (10, .ref (ad 10 10)), (11, .ref (ad 10 11)), (12, .int (hI vv)), (13, .int (hI y13)), (14, .int (hI y14)), (16, .int (hI y16)), (17, .int (hI y17)), (18, .int (hI y18))]) hx hb dL_areSheets_325 hl (by decide) rfl (fun ls hl => ?_)
        exact h H _ ls hh (lv_sub hl [1, 2, 3, 4, 5, 6, 7, 8, 9, 10, 11, 12, 13, 14, 15, 0, 16] rfl)
      · have h := h.1 c72
        refine iv_iconst hx hb dL_areSheets_250 ?_
        refine lv_goto (tgt := 325) hx hb dL_areSheets_251 (by decide) ?_
        refine lv_istore (lv' := [(15, .int (hI 1)), (0, .ref (ad 11 0)), (1, .ref (ad 10 1)), (2, .ref (ad 10 2)), (3, .ref (ad 10 3)), (4, .ref (ad 10 4)), (5, .ref (ad 10 5)), (6, .ref (ad 10 6)), (7, .ref (ad 10 7)), (8, .ref (ad 10 8)), (9, .ref (ad 10 9)), (10, .ref (ad 10 10)), (11, .ref (ad 10 11)), (12, .int (hI vv)), (13, .int (hI y13)), (14, .int (hI y14)), (16, .int (hI y16)), (17, .int (hI y17)), (18, .int (hI y18))]) hx hb dL_areSheets_325 hl (by decide) rfl (fun ls hl => ?_)
        exact h H _ ls hh (lv_sub hl [1, 2, 3, 4, 5, 6, 7, 8, 9, 10, 11, 12, 13, 14, 15, 0, 16] rfl)
  have r327 : ∀ (y13 : Int) (y14 : Int) (y15 : Int) (y16 : Int) (S1 : hS), hIn y13 → hIn y14 → hIn y15 → hIn y16 → ((∀ (g i : Nat) (k : Int), i < 100 → hIn (S1 g i k)) → (0 ≤ vv ∧ (hIn (vv / 8) ∧ (0 ≤ (vv / 8) ∧ (hAtC D ad cI cJ cF p l e ({ frames := 7, cells := 32, slots := 256, locals := 169 } : Room) s m args below meth c (MQ below (hQx D ad cI cJ cF (q_L_areSheets S vv)) args s 32 (8 * 32) (hAd ad)) 21 344 [(0, .ref (ad 11 0)), (1, .ref (ad 10 1)), (2, .ref (ad 10 2)), (3, .ref (ad 10 3)), (4, .ref (ad 10 4)), (5, .ref (ad 10 5)), (6, .ref (ad 10 6)), (7, .ref (ad 10 7)), (8, .ref (ad 10 8)), (9, .ref (ad 10 9)), (10, .ref (ad 10 10)), (11, .ref (ad 10 11)), (12, .int (hI vv)), (13, .int (hI y13)), (14, .int (hI y14)), (15, .int (hI y15)), (16, .int (hI y16)), (19, .int (hI (vv % 8))), (20, .int (hI ((vv / 8) % 64)))] S1 (8 * (y16 : Int).toNat + 8)))))) → (hAtC D ad cI cJ cF p l e ({ frames := 7, cells := 32, slots := 256, locals := 169 } : Room) s m args below meth c (MQ below (hQx D ad cI cJ cF (q_L_areSheets S vv)) args s 32 (8 * 32) (hAd ad)) 21 327 [(0, .ref (ad 11 0)), (1, .ref (ad 10 1)), (2, .ref (ad 10 2)), (3, .ref (ad 10 3)), (4, .ref (ad 10 4)), (5, .ref (ad 10 5)), (6, .ref (ad 10 6)), (7, .ref (ad 10 7)), (8, .ref (ad 10 8)), (9, .ref (ad 10 9)), (10, .ref (ad 10 10)), (11, .ref (ad 10 11)), (12, .int (hI vv)), (13, .int (hI y13)), (14, .int (hI y14)), (15, .int (hI y15)), (16, .int (hI y16))] S1 (8 * (y16 : Int).toNat + 8)) := by
    intro y13 y14 y15 y16 S1 h_y13 h_y14 h_y15 h_y16 h H locs ls hh hl
    have h := h (fun g i k hi => hh.2.1 g i k hi)
    refine lv_iload hx hb dL_areSheets_327 (lv_at hl 12 rfl) ?_
    refine lv_bipush (v := hI 8) hx hb dL_areSheets_329 (by decide) ?_
    obtain ⟨g73, h⟩ := h
    refine iv_irem hx hb h_vv g73 ⟨by decide, by decide⟩ (by decide) dL_areSheets_331 ?_
    refine lv_istore (lv' := [(19, .int (hI (vv % 8))), (0, .ref (ad 11 0)), (1, .ref (ad 10 1)), (2, .ref (ad 10 2)), (3, .ref (ad 10 3)), (4, .ref (ad 10 4)), (5, .ref (ad 10 5)), (6, .ref (ad 10 6)), (7, .ref (ad 10 7)), (8, .ref (ad 10 8)), (9, .ref (ad 10 9)), (10, .ref (ad 10 10)), (11, .ref (ad 10 11)), (12, .int (hI vv)), (13, .int (hI y13)), (14, .int (hI y14)), (15, .int (hI y15)), (16, .int (hI y16))]) hx hb dL_areSheets_332 hl (by decide) rfl (fun ls hl => ?_)
    refine lv_iload hx hb dL_areSheets_334 (lv_at hl 13 rfl) ?_
    refine lv_bipush (v := hI 8) hx hb dL_areSheets_336 (by decide) ?_
    refine iv_idiv hx hb h_vv g73 ⟨by decide, by decide⟩ (by decide) dL_areSheets_338 ?_
    refine lv_bipush (v := hI 64) hx hb dL_areSheets_339 (by decide) ?_
    obtain ⟨g74, h⟩ := h
    obtain ⟨g75, h⟩ := h
    refine iv_irem hx hb g74 g75 ⟨by decide, by decide⟩ (by decide) dL_areSheets_341 ?_
    refine lv_istore (lv' := [(20, .int (hI ((vv / 8) % 64))), (19, .int (hI (vv % 8))), (0, .ref (ad 11 0)), (1, .ref (ad 10 1)), (2, .ref (ad 10 2)), (3, .ref (ad 10 3)), (4, .ref (ad 10 4)), (5, .ref (ad 10 5)), (6, .ref (ad 10 6)), (7, .ref (ad 10 7)), (8, .ref (ad 10 8)), (9, .ref (ad 10 9)), (10, .ref (ad 10 10)), (11, .ref (ad 10 11)), (12, .int (hI vv)), (13, .int (hI y13)), (14, .int (hI y14)), (15, .int (hI y15)), (16, .int (hI y16))]) hx hb dL_areSheets_342 hl (by decide) rfl (fun ls hl => ?_)
    exact h H _ ls hh (lv_sub hl [2, 3, 4, 5, 6, 7, 8, 9, 10, 11, 12, 13, 14, 15, 16, 17, 18, 1, 0] rfl)
  have r344 : ∀ (y13 : Int) (y14 : Int) (y15 : Int) (y16 : Int) (y19 : Int) (y20 : Int) (S1 : hS), hIn y13 → hIn y14 → hIn y15 → hIn y16 → hIn y19 → hIn y20 → ((∀ (g i : Nat) (k : Int), i < 100 → hIn (S1 g i k)) → ((y15 = 0 → (hAtC D ad cI cJ cF p l e ({ frames := 7, cells := 32, slots := 256, locals := 169 } : Room) s m args below meth c (MQ below (hQx D ad cI cJ cF (q_L_areSheets S vv)) args s 32 (8 * 32) (hAd ad)) 21 428 [(0, .ref (ad 11 0)), (1, .ref (ad 10 1)), (2, .ref (ad 10 2)), (3, .ref (ad 10 3)), (4, .ref (ad 10 4)), (5, .ref (ad 10 5)), (6, .ref (ad 10 6)), (7, .ref (ad 10 7)), (8, .ref (ad 10 8)), (9, .ref (ad 10 9)), (10, .ref (ad 10 10)), (11, .ref (ad 10 11)), (12, .int (hI vv)), (13, .int (hI y13)), (14, .int (hI y14)), (15, .int (hI 0)), (16, .int (hI y16))] S1 (8 * (y16 : Int).toNat + 8))) ∧ (¬ y15 = 0 → ((0 ≤ y16 ∧ y16 < 4) ∧ ((((S1 10) 8 y16) = 0 → (hAtC D ad cI cJ cF p l e ({ frames := 7, cells := 32, slots := 256, locals := 169 } : Room) s m args below meth c (MQ below (hQx D ad cI cJ cF (q_L_areSheets S vv)) args s 32 (8 * 32) (hAd ad)) 21 428 [(0, .ref (ad 11 0)), (1, .ref (ad 10 1)), (2, .ref (ad 10 2)), (3, .ref (ad 10 3)), (4, .ref (ad 10 4)), (5, .ref (ad 10 5)), (6, .ref (ad 10 6)), (7, .ref (ad 10 7)), (8, .ref (ad 10 8)), (9, .ref (ad 10 9)), (10, .ref (ad 10 10)), (11, .ref (ad 10 11)), (12, .int (hI vv)), (13, .int (hI y13)), (14, .int (hI y14)), (15, .int (hI 1)), (16, .int (hI y16))] S1 (8 * (y16 : Int).toNat + 8))) ∧ (¬ ((S1 10) 8 y16) = 0 → (p_X5_inSheet S1 ((S1 10) 8 y16) y19 y20 ∧ ((8 * (y16 : Int).toNat + 8) ≤ 32 ∧ ((y19 < ((S1 10) 9 y16) → ((0 ≤ ((8 * y16) + y19) ∧ ((8 * y16) + y19) < 32) ∧ ((y20 < ((S1 10) 10 ((8 * y16) + y19)) → (((v_X5_inSheet S1 ((S1 10) 8 y16) y19 y20) = (jToI (jAnd (jShr ((S1 10) 111 ((8 * y16) + y19)) y20) 1)) → (hAtC D ad cI cJ cF p l e ({ frames := 7, cells := 32, slots := 256, locals := 169 } : Room) s m args below meth c (MQ below (hQx D ad cI cJ cF (q_L_areSheets S vv)) args s 32 (8 * 32) (hAd ad)) 21 428 [(0, .ref (ad 11 0)), (1, .ref (ad 10 1)), (2, .ref (ad 10 2)), (3, .ref (ad 10 3)), (4, .ref (ad 10 4)), (5, .ref (ad 10 5)), (6, .ref (ad 10 6)), (7, .ref (ad 10 7)), (8, .ref (ad 10 8)), (9, .ref (ad 10 9)), (10, .ref (ad 10 10)), (11, .ref (ad 10 11)), (12, .int (hI vv)), (13, .int (hI y13)), (14, .int (hI y14)), (15, .int (hI 1)), (16, .int (hI y16))] S1 (8 * (y16 : Int).toNat + 8))) ∧ (¬ (v_X5_inSheet S1 ((S1 10) 8 y16) y19 y20) = (jToI (jAnd (jShr ((S1 10) 111 ((8 * y16) + y19)) y20) 1)) → (hAtC D ad cI cJ cF p l e ({ frames := 7, cells := 32, slots := 256, locals := 169 } : Room) s m args below meth c (MQ below (hQx D ad cI cJ cF (q_L_areSheets S vv)) args s 32 (8 * 32) (hAd ad)) 21 428 [(0, .ref (ad 11 0)), (1, .ref (ad 10 1)), (2, .ref (ad 10 2)), (3, .ref (ad 10 3)), (4, .ref (ad 10 4)), (5, .ref (ad 10 5)), (6, .ref (ad 10 6)), (7, .ref (ad 10 7)), (8, .ref (ad 10 8)), (9, .ref (ad 10 9)), (10, .ref (ad 10 10)), (11, .ref (ad 10 11)), (12, .int (hI vv)), (13, .int (hI y13)), (14, .int (hI y14)), (15, .int (hI 0)), (16, .int (hI y16))] S1 (8 * (y16 : Int).toNat + 8))))) ∧ (¬ y20 < ((S1 10) 10 ((8 * y16) + y19)) → (((v_X5_inSheet S1 ((S1 10) 8 y16) y19 y20) = (-1000004) → (hAtC D ad cI cJ cF p l e ({ frames := 7, cells := 32, slots := 256, locals := 169 } : Room) s m args below meth c (MQ below (hQx D ad cI cJ cF (q_L_areSheets S vv)) args s 32 (8 * 32) (hAd ad)) 21 428 [(0, .ref (ad 11 0)), (1, .ref (ad 10 1)), (2, .ref (ad 10 2)), (3, .ref (ad 10 3)), (4, .ref (ad 10 4)), (5, .ref (ad 10 5)), (6, .ref (ad 10 6)), (7, .ref (ad 10 7)), (8, .ref (ad 10 8)), (9, .ref (ad 10 9)), (10, .ref (ad 10 10)), (11, .ref (ad 10 11)), (12, .int (hI vv)), (13, .int (hI y13)), (14, .int (hI y14)), (15, .int (hI 1)), (16, .int (hI y16))] S1 (8 * (y16 : Int).toNat + 8))) ∧ (¬ (v_X5_inSheet S1 ((S1 10) 8 y16) y19 y20) = (-1000004) → (hAtC D ad cI cJ cF p l e ({ frames := 7, cells := 32, slots := 256, locals := 169 } : Room) s m args below meth c (MQ below (hQx D ad cI cJ cF (q_L_areSheets S vv)) args s 32 (8 * 32) (hAd ad)) 21 428 [(0, .ref (ad 11 0)), (1, .ref (ad 10 1)), (2, .ref (ad 10 2)), (3, .ref (ad 10 3)), (4, .ref (ad 10 4)), (5, .ref (ad 10 5)), (6, .ref (ad 10 6)), (7, .ref (ad 10 7)), (8, .ref (ad 10 8)), (9, .ref (ad 10 9)), (10, .ref (ad 10 10)), (11, .ref (ad 10 11)), (12, .int (hI vv)), (13, .int (hI y13)), (14, .int (hI y14)), (15, .int (hI 0)), (16, .int (hI y16))] S1 (8 * (y16 : Int).toNat + 8)))))))) ∧ (¬ y19 < ((S1 10) 9 y16) → (((v_X5_inSheet S1 ((S1 10) 8 y16) y19 y20) = (-1000004) → (hAtC D ad cI cJ cF p l e ({ frames := 7, cells := 32, slots := 256, locals := 169 } : Room) s m args below meth c (MQ below (hQx D ad cI cJ cF (q_L_areSheets S vv)) args s 32 (8 * 32) (hAd ad)) 21 428 [(0, .ref (ad 11 0)), (1, .ref (ad 10 1)), (2, .ref (ad 10 2)), (3, .ref (ad 10 3)), (4, .ref (ad 10 4)), (5, .ref (ad 10 5)), (6, .ref (ad 10 6)), (7, .ref (ad 10 7)), (8, .ref (ad 10 8)), (9, .ref (ad 10 9)), (10, .ref (ad 10 10)), (11, .ref (ad 10 11)), (12, .int (hI vv)), (13, .int (hI y13)), (14, .int (hI y14)), (15, .int (hI 1)), (16, .int (hI y16))] S1 (8 * (y16 : Int).toNat + 8))) ∧ (¬ (v_X5_inSheet S1 ((S1 10) 8 y16) y19 y20) = (-1000004) → (hAtC D ad cI cJ cF p l e ({ frames := 7, cells := 32, slots := 256, locals := 169 } : Room) s m args below meth c (MQ below (hQx D ad cI cJ cF (q_L_areSheets S vv)) args s 32 (8 * 32) (hAd ad)) 21 428 [(0, .ref (ad 11 0)), (1, .ref (ad 10 1)), (2, .ref (ad 10 2)), (3, .ref (ad 10 3)), (4, .ref (ad 10 4)), (5, .ref (ad 10 5)), (6, .ref (ad 10 6)), (7, .ref (ad 10 7)), (8, .ref (ad 10 8)), (9, .ref (ad 10 9)), (10, .ref (ad 10 10)), (11, .ref (ad 10 11)), (12, .int (hI vv)), (13, .int (hI y13)), (14, .int (hI y14)), (15, .int (hI 0)), (16, .int (hI y16))] S1 (8 * (y16 : Int).toNat + 8)))))))))))))) → (hAtC D ad cI cJ cF p l e ({ frames := 7, cells := 32, slots := 256, locals := 169 } : Room) s m args below meth c (MQ below (hQx D ad cI cJ cF (q_L_areSheets S vv)) args s 32 (8 * 32) (hAd ad)) 21 344 [(0, .ref (ad 11 0)), (1, .ref (ad 10 1)), (2, .ref (ad 10 2)), (3, .ref (ad 10 3)), (4, .ref (ad 10 4)), (5, .ref (ad 10 5)), (6, .ref (ad 10 6)), (7, .ref (ad 10 7)), (8, .ref (ad 10 8)), (9, .ref (ad 10 9)), (10, .ref (ad 10 10)), (11, .ref (ad 10 11)), (12, .int (hI vv)), (13, .int (hI y13)), (14, .int (hI y14)), (15, .int (hI y15)), (16, .int (hI y16)), (19, .int (hI y19)), (20, .int (hI y20))] S1 (8 * (y16 : Int).toNat + 8)) := by
    intro y13 y14 y15 y16 y19 y20 S1 h_y13 h_y14 h_y15 h_y16 h_y19 h_y20 h H locs ls hh hl
    have h := h (fun g i k hi => hh.2.1 g i k hi)
    refine lv_iload hx hb dL_areSheets_344 (lv_at hl 15 rfl) ?_
    refine iv_if_eq (tgt := 425) hx hb h_y15 dL_areSheets_346 (by decide) (fun c76 => ?_) (fun c76 => ?_)
    · have h := h.1 c76
      refine iv_iconst hx hb dL_areSheets_425 ?_
      refine lv_istore (lv' := [(15, .int (hI 0)), (0, .ref (ad 11 0)), (1, .ref (ad 10 1)), (2, .ref (ad 10 2)), (3, .ref (ad 10 3)), (4, .ref (ad 10 4)), (5, .ref (ad 10 5)), (6, .ref (ad 10 6)), (7, .ref (ad 10 7)), (8, .ref (ad 10 8)), (9, .ref (ad 10 9)), (10, .ref (ad 10 10)), (11, .ref (ad 10 11)), (12, .int (hI vv)), (13, .int (hI y13)), (14, .int (hI y14)), (16, .int (hI y16)), (19, .int (hI y19)), (20, .int (hI y20))]) hx hb dL_areSheets_426 hl (by decide) rfl (fun ls hl => ?_)
      exact h H _ ls hh (lv_sub hl [1, 2, 3, 4, 5, 6, 7, 8, 9, 10, 11, 12, 13, 14, 15, 0, 16] rfl)
    · have h := h.2 c76
      refine lv_aload hx hb dL_areSheets_349 (lv_at hl 8 rfl) ?_
      refine lv_iload hx hb dL_areSheets_351 (lv_at hl 16 rfl) ?_
      obtain ⟨g77, h⟩ := h
      refine iv_iald hx hb hK hh.1 ia_10_8 g77 (v := ((S1 10) 8 y16)) rfl dL_areSheets_353 ?_
      have hm78 : hIn ((S1 10) 8 y16) := hIn_rd hh.2.1 rfl (by decide)
      refine iv_if_eq (tgt := 421) hx hb hm78 dL_areSheets_354 (by decide) (fun c79 => ?_) (fun c79 => ?_)
      · have h := h.1 c79
        refine iv_iconst hx hb dL_areSheets_421 ?_
        refine lv_goto (tgt := 426) hx hb dL_areSheets_422 (by decide) ?_
        refine lv_istore (lv' := [(15, .int (hI 1)), (0, .ref (ad 11 0)), (1, .ref (ad 10 1)), (2, .ref (ad 10 2)), (3, .ref (ad 10 3)), (4, .ref (ad 10 4)), (5, .ref (ad 10 5)), (6, .ref (ad 10 6)), (7, .ref (ad 10 7)), (8, .ref (ad 10 8)), (9, .ref (ad 10 9)), (10, .ref (ad 10 10)), (11, .ref (ad 10 11)), (12, .int (hI vv)), (13, .int (hI y13)), (14, .int (hI y14)), (16, .int (hI y16)), (19, .int (hI y19)), (20, .int (hI y20))]) hx hb dL_areSheets_426 hl (by decide) rfl (fun ls hl => ?_)
        exact h H _ ls hh (lv_sub hl [1, 2, 3, 4, 5, 6, 7, 8, 9, 10, 11, 12, 13, 14, 15, 0, 16] rfl)
      · have h := h.2 c79
        refine lv_aload_n hx hb dL_areSheets_357 rfl (lv_at hl 0 rfl) ?_
        refine lv_aload hx hb dL_areSheets_358 (lv_at hl 8 rfl) ?_
        refine lv_iload hx hb dL_areSheets_360 (lv_at hl 16 rfl) ?_
        refine iv_iald hx hb hK hh.1 ia_10_8 g77 (v := ((S1 10) 8 y16)) rfl dL_areSheets_362 ?_
        have hm80 : hIn ((S1 10) 8 y16) := hIn_rd hh.2.1 rfl (by decide)
        refine lv_iload hx hb dL_areSheets_363 (lv_at hl 17 rfl) ?_
        refine lv_iload hx hb dL_areSheets_365 (lv_at hl 18 rfl) ?_
        obtain ⟨g81, h⟩ := h
        obtain ⟨g82, h⟩ := h
        refine iv_ki (iv_rV (As := [.int (hI ((S1 10) 8 y16)), .int (hI y19), .int (hI y20)]) (rest := []) E hh (ok_X5_inSheet l hinj S1 ((S1 10) 8 y16) y19 y20 hm80 h_y19 h_y20 g81) cb_X5_inSheet q1_198 rfl rfl ⟨Nat.le_of_ble_eq_true rfl, Nat.le_of_ble_eq_true rfl⟩ (ob_X) rfl rfl rfl hl.1 rfl (Nat.le_of_ble_eq_true rfl) dL_areSheets_367 (rk0 (k := (8 * (y16 : Int).toNat + 8)) (K := 32) g82)) hh (fun hc83 H locs hh => ?_)
        refine lv_iload hx hb dL_areSheets_370 (lv_at hl 17 rfl) ?_
        refine lv_aload hx hb dL_areSheets_372 (lv_at hl 9 rfl) ?_
        refine lv_iload hx hb dL_areSheets_374 (lv_at hl 16 rfl) ?_
        refine iv_iald hx hb hK hh.1 ia_10_9 g77 (v := ((S1 10) 9 y16)) rfl dL_areSheets_376 ?_
        have hm84 : hIn ((S1 10) 9 y16) := hIn_rd hh.2.1 rfl (by decide)
        refine iv_icmp_ge (tgt := 396) hx hb h_y19 hm84 dL_areSheets_377 (by decide) (fun c85 => ?_) (fun c85 => ?_)
        · have h := h.2 c85
          refine iv_ldc (n := (-1000004)) hx hb (by decide) hown (hts _ q3_39) dL_areSheets_396 ?_
          refine lv_goto (tgt := 418) hx hb dL_areSheets_398 (by decide) ?_
          refine iv_icmp_ne (tgt := 425) hx hb hc83 ⟨by decide, by decide⟩ dL_areSheets_418 (by decide) (fun c86 => ?_) (fun c86 => ?_)
          · have h := h.2 c86
            refine iv_iconst hx hb dL_areSheets_425 ?_
            refine lv_istore (lv' := [(15, .int (hI 0)), (0, .ref (ad 11 0)), (1, .ref (ad 10 1)), (2, .ref (ad 10 2)), (3, .ref (ad 10 3)), (4, .ref (ad 10 4)), (5, .ref (ad 10 5)), (6, .ref (ad 10 6)), (7, .ref (ad 10 7)), (8, .ref (ad 10 8)), (9, .ref (ad 10 9)), (10, .ref (ad 10 10)), (11, .ref (ad 10 11)), (12, .int (hI vv)), (13, .int (hI y13)), (14, .int (hI y14)), (16, .int (hI y16)), (19, .int (hI y19)), (20, .int (hI y20))]) hx hb dL_areSheets_426 hl (by decide) rfl (fun ls hl => ?_)
            exact h H _ ls hh (lv_sub hl [1, 2, 3, 4, 5, 6, 7, 8, 9, 10, 11, 12, 13, 14, 15, 0, 16] rfl)
          · have h := h.1 c86
            refine iv_iconst hx hb dL_areSheets_421 ?_
            refine lv_goto (tgt := 426) hx hb dL_areSheets_422 (by decide) ?_
            refine lv_istore (lv' := [(15, .int (hI 1)), (0, .ref (ad 11 0)), (1, .ref (ad 10 1)), (2, .ref (ad 10 2)), (3, .ref (ad 10 3)), (4, .ref (ad 10 4)), (5, .ref (ad 10 5)), (6, .ref (ad 10 6)), (7, .ref (ad 10 7)), (8, .ref (ad 10 8)), (9, .ref (ad 10 9)), (10, .ref (ad 10 10)), (11, .ref (ad 10 11)), (12, .int (hI vv)), (13, .int (hI y13)), (14, .int (hI y14)), (16, .int (hI y16)), (19, .int (hI y19)), (20, .int (hI y20))]) hx hb dL_areSheets_426 hl (by decide) rfl (fun ls hl => ?_)
            exact h H _ ls hh (lv_sub hl [1, 2, 3, 4, 5, 6, 7, 8, 9, 10, 11, 12, 13, 14, 15, 0, 16] rfl)
        · have h := h.1 c85
          refine lv_iload hx hb dL_areSheets_380 (lv_at hl 18 rfl) ?_
          refine lv_aload hx hb dL_areSheets_382 (lv_at hl 10 rfl) ?_
          refine lv_bipush (v := hI 8) hx hb dL_areSheets_384 (by decide) ?_
          refine lv_iload hx hb dL_areSheets_386 (lv_at hl 16 rfl) ?_
          refine iv_imul hx hb dL_areSheets_388 ?_
          refine lv_iload hx hb dL_areSheets_389 (lv_at hl 17 rfl) ?_
          refine iv_iadd hx hb dL_areSheets_391 ?_
          obtain ⟨g87, h⟩ := h
          refine iv_iald hx hb hK hh.1 ia_10_10 g87 (v := ((S1 10) 10 ((8 * y16) + y19))) rfl dL_areSheets_392 ?_
          have hm88 : hIn ((S1 10) 10 ((8 * y16) + y19)) := hIn_rd hh.2.1 rfl (by decide)
          refine iv_icmp_lt (tgt := 401) hx hb h_y20 hm88 dL_areSheets_393 (by decide) (fun c89 => ?_) (fun c89 => ?_)
          · have h := h.1 c89
            refine lv_aload hx hb dL_areSheets_401 (lv_at hl 11 rfl) ?_
            refine lv_bipush (v := hI 8) hx hb dL_areSheets_403 (by decide) ?_
            refine lv_iload hx hb dL_areSheets_405 (lv_at hl 16 rfl) ?_
            refine iv_imul hx hb dL_areSheets_407 ?_
            refine lv_iload hx hb dL_areSheets_408 (lv_at hl 17 rfl) ?_
            refine iv_iadd hx hb dL_areSheets_410 ?_
            refine iv_laldL hx hb hK hh.1  g87 (v := ((S1 10) 111 ((8 * y16) + y19))) rfl dL_areSheets_411 ?_
            refine lv_iload hx hb dL_areSheets_412 (lv_at hl 18 rfl) ?_
            refine iv_lshr hx hb dL_areSheets_414 ?_
            refine lv_lconst (v := hJ 1) hx hb dL_areSheets_415 (by decide) ?_
            refine iv_land hx hb dL_areSheets_416 ?_
            refine iv_l2i hx hb dL_areSheets_417 ?_
            refine iv_icmp_ne (tgt := 425) hx hb hc83 (hIn_toInt _) dL_areSheets_418 (by decide) (fun c90 => ?_) (fun c90 => ?_)
            · have h := h.2 c90
              refine iv_iconst hx hb dL_areSheets_425 ?_
              refine lv_istore (lv' := [(15, .int (hI 0)), (0, .ref (ad 11 0)), (1, .ref (ad 10 1)), (2, .ref (ad 10 2)), (3, .ref (ad 10 3)), (4, .ref (ad 10 4)), (5, .ref (ad 10 5)), (6, .ref (ad 10 6)), (7, .ref (ad 10 7)), (8, .ref (ad 10 8)), (9, .ref (ad 10 9)), (10, .ref (ad 10 10)), (11, .ref (ad 10 11)), (12, .int (hI vv)), (13, .int (hI y13)), (14, .int (hI y14)), (16, .int (hI y16)), (19, .int (hI y19)), (20, .int (hI y20))]) hx hb dL_areSheets_426 hl (by decide) rfl (fun ls hl => ?_)
              exact h H _ ls hh (lv_sub hl [1, 2, 3, 4, 5, 6, 7, 8, 9, 10, 11, 12, 13, 14, 15, 0, 16] rfl)
            · have h := h.1 c90
              refine iv_iconst hx hb dL_areSheets_421 ?_
              refine lv_goto (tgt := 426) hx hb dL_areSheets_422 (by decide) ?_
              refine lv_istore (lv' := [(15, .int (hI 1)), (0, .ref (ad 11 0)), (1, .ref (ad 10 1)), (2, .ref (ad 10 2)), (3, .ref (ad 10 3)), (4, .ref (ad 10 4)), (5, .ref (ad 10 5)), (6, .ref (ad 10 6)), (7, .ref (ad 10 7)), (8, .ref (ad 10 8)), (9, .ref (ad 10 9)), (10, .ref (ad 10 10)), (11, .ref (ad 10 11)), (12, .int (hI vv)), (13, .int (hI y13)), (14, .int (hI y14)), (16, .int (hI y16)), (19, .int (hI y19)), (20, .int (hI y20))]) hx hb dL_areSheets_426 hl (by decide) rfl (fun ls hl => ?_)
              exact h H _ ls hh (lv_sub hl [1, 2, 3, 4, 5, 6, 7, 8, 9, 10, 11, 12, 13, 14, 15, 0, 16] rfl)
          · have h := h.2 c89
            refine iv_ldc (n := (-1000004)) hx hb (by decide) hown (hts _ q3_39) dL_areSheets_396 ?_
            refine lv_goto (tgt := 418) hx hb dL_areSheets_398 (by decide) ?_
            refine iv_icmp_ne (tgt := 425) hx hb hc83 ⟨by decide, by decide⟩ dL_areSheets_418 (by decide) (fun c91 => ?_) (fun c91 => ?_)
            · have h := h.2 c91
              refine iv_iconst hx hb dL_areSheets_425 ?_
              refine lv_istore (lv' := [(15, .int (hI 0)), (0, .ref (ad 11 0)), (1, .ref (ad 10 1)), (2, .ref (ad 10 2)), (3, .ref (ad 10 3)), (4, .ref (ad 10 4)), (5, .ref (ad 10 5)), (6, .ref (ad 10 6)), (7, .ref (ad 10 7)), (8, .ref (ad 10 8)), (9, .ref (ad 10 9)), (10, .ref (ad 10 10)), (11, .ref (ad 10 11)), (12, .int (hI vv)), (13, .int (hI y13)), (14, .int (hI y14)), (16, .int (hI y16)), (19, .int (hI y19)), (20, .int (hI y20))]) hx hb dL_areSheets_426 hl (by decide) rfl (fun ls hl => ?_)
              exact h H _ ls hh (lv_sub hl [1, 2, 3, 4, 5, 6, 7, 8, 9, 10, 11, 12, 13, 14, 15, 0, 16] rfl)
            · have h := h.1 c91
              refine iv_iconst hx hb dL_areSheets_421 ?_
              refine lv_goto (tgt := 426) hx hb dL_areSheets_422 (by decide) ?_
              refine lv_istore (lv' := [(15, .int (hI 1)), (0, .ref (ad 11 0)), (1, .ref (ad 10 1)), (2, .ref (ad 10 2)), (3, .ref (ad 10 3)), (4, .ref (ad 10 4)), (5, .ref (ad 10 5)), (6, .ref (ad 10 6)), (7, .ref (ad 10 7)), (8, .ref (ad 10 8)), (9, .ref (ad 10 9)), (10, .ref (ad 10 10)), (11, .ref (ad 10 11)), (12, .int (hI vv)), (13, .int (hI y13)), (14, .int (hI y14)), (16, .int (hI y16)), (19, .int (hI y19)), (20, .int (hI y20))]) hx hb dL_areSheets_426 hl (by decide) rfl (fun ls hl => ?_)
              exact h H _ ls hh (lv_sub hl [1, 2, 3, 4, 5, 6, 7, 8, 9, 10, 11, 12, 13, 14, 15, 0, 16] rfl)
  have r428 : ∀ (y13 : Int) (y14 : Int) (y15 : Int) (y16 : Int) (S1 : hS), hIn y13 → hIn y14 → hIn y15 → hIn y16 → ((∀ (g i : Nat) (k : Int), i < 100 → hIn (S1 g i k)) → ((8 * (y16 : Int).toNat + 8) ≤ (8 * ((y16 + 1) : Int).toNat) ∧ (hAtC D ad cI cJ cF p l e ({ frames := 7, cells := 32, slots := 256, locals := 169 } : Room) s m args below meth c (MQ below (hQx D ad cI cJ cF (q_L_areSheets S vv)) args s 32 (8 * 32) (hAd ad)) 21 38 [(0, .ref (ad 11 0)), (1, .ref (ad 10 1)), (2, .ref (ad 10 2)), (3, .ref (ad 10 3)), (4, .ref (ad 10 4)), (5, .ref (ad 10 5)), (6, .ref (ad 10 6)), (7, .ref (ad 10 7)), (8, .ref (ad 10 8)), (9, .ref (ad 10 9)), (10, .ref (ad 10 10)), (11, .ref (ad 10 11)), (12, .int (hI vv)), (13, .int (hI y13)), (14, .int (hI y14)), (15, .int (hI y15)), (16, .int (hI (y16 + 1)))] S1 (8 * ((y16 + 1) : Int).toNat)))) → (hAtC D ad cI cJ cF p l e ({ frames := 7, cells := 32, slots := 256, locals := 169 } : Room) s m args below meth c (MQ below (hQx D ad cI cJ cF (q_L_areSheets S vv)) args s 32 (8 * 32) (hAd ad)) 21 428 [(0, .ref (ad 11 0)), (1, .ref (ad 10 1)), (2, .ref (ad 10 2)), (3, .ref (ad 10 3)), (4, .ref (ad 10 4)), (5, .ref (ad 10 5)), (6, .ref (ad 10 6)), (7, .ref (ad 10 7)), (8, .ref (ad 10 8)), (9, .ref (ad 10 9)), (10, .ref (ad 10 10)), (11, .ref (ad 10 11)), (12, .int (hI vv)), (13, .int (hI y13)), (14, .int (hI y14)), (15, .int (hI y15)), (16, .int (hI y16))] S1 (8 * (y16 : Int).toNat + 8)) := by
    intro y13 y14 y15 y16 S1 h_y13 h_y14 h_y15 h_y16 h H locs ls hh hl
    have h := h (fun g i k hi => hh.2.1 g i k hi)
    refine iv_iinc (lv' := [(16, .int (hI (y16 + 1))), (0, .ref (ad 11 0)), (1, .ref (ad 10 1)), (2, .ref (ad 10 2)), (3, .ref (ad 10 3)), (4, .ref (ad 10 4)), (5, .ref (ad 10 5)), (6, .ref (ad 10 6)), (7, .ref (ad 10 7)), (8, .ref (ad 10 8)), (9, .ref (ad 10 9)), (10, .ref (ad 10 10)), (11, .ref (ad 10 11)), (12, .int (hI vv)), (13, .int (hI y13)), (14, .int (hI y14)), (15, .int (hI y15))]) hx hb dL_areSheets_428 hl (k := 16) rfl (v := (y16 + 1)) rfl (by decide) rfl (fun ls hl => ?_)
    refine lv_goto (tgt := 38) hx hb dL_areSheets_431 (by decide) ?_
    obtain ⟨g92, h⟩ := h
    refine W.widen g92 (Nat.mul_le_mul_left 8 g92) ?_
    exact h H _ ls hh (lv_sub hl [1, 2, 3, 4, 5, 6, 7, 8, 9, 10, 11, 12, 13, 14, 15, 16, 0] rfl)
  have r434 : ∀ (y13 : Int) (y14 : Int) (y15 : Int) (S1 : hS), hIn y13 → hIn y14 → hIn y15 → ((∀ (g i : Nat) (k : Int), i < 100 → hIn (S1 g i k)) → ((y15 = 0 → ((0 : Int) = 1 ∧ q_L_areSheets S vv S1)) ∧ (¬ y15 = 0 → (p_X5_count S1 3 ∧ (((v_X5_count S1 3) = y13 → (p_X5_count (m_X5_count S1 3) 4 ∧ (((v_X5_count (m_X5_count S1 3) 4) = y14 → (p_X5_count (m_X5_count (m_X5_count S1 3) 4) 6 ∧ (((v_X5_count (m_X5_count (m_X5_count S1 3) 4) 6) = (((m_X5_count (m_X5_count (m_X5_count S1 3) 4) 6) 10) 1 3) → ((1 : Int) = 1 ∧ q_L_areSheets S vv (m_X5_count (m_X5_count (m_X5_count S1 3) 4) 6))) ∧ (¬ (v_X5_count (m_X5_count (m_X5_count S1 3) 4) 6) = (((m_X5_count (m_X5_count (m_X5_count S1 3) 4) 6) 10) 1 3) → ((0 : Int) = 1 ∧ q_L_areSheets S vv (m_X5_count (m_X5_count (m_X5_count S1 3) 4) 6)))))) ∧ (¬ (v_X5_count (m_X5_count S1 3) 4) = y14 → ((0 : Int) = 1 ∧ q_L_areSheets S vv (m_X5_count (m_X5_count S1 3) 4)))))) ∧ (¬ (v_X5_count S1 3) = y13 → ((0 : Int) = 1 ∧ q_L_areSheets S vv (m_X5_count S1 3)))))))) → (hAtC D ad cI cJ cF p l e ({ frames := 7, cells := 32, slots := 256, locals := 169 } : Room) s m args below meth c (MQ below (hQx D ad cI cJ cF (q_L_areSheets S vv)) args s 32 (8 * 32) (hAd ad)) 21 434 [(0, .ref (ad 11 0)), (1, .ref (ad 10 1)), (13, .int (hI y13)), (14, .int (hI y14)), (15, .int (hI y15))] S1 (32)) := by
    intro y13 y14 y15 S1 h_y13 h_y14 h_y15 h H locs ls hh hl
    have h := h (fun g i k hi => hh.2.1 g i k hi)
    refine lv_iload hx hb dL_areSheets_434 (lv_at hl 4 rfl) ?_
    refine iv_if_eq (tgt := 475) hx hb h_y15 dL_areSheets_436 (by decide) (fun c93 => ?_) (fun c93 => ?_)
    · have h := h.1 c93
      refine iv_iconst hx hb dL_areSheets_475 ?_
      exact iv_xret E hh h.1 h.2 dL_areSheets_476
    · have h := h.2 c93
      refine lv_aload_n hx hb dL_areSheets_439 rfl (lv_at hl 0 rfl) ?_
      refine iv_iconst hx hb dL_areSheets_440 ?_
      obtain ⟨g94, h⟩ := h
      refine iv_ki (iv_rV (As := [.int (hI 3)]) (rest := []) E hh (ok_X5_count l hinj S1 3 ⟨by decide, by decide⟩ g94) cb_X5_count q1_229 rfl rfl ⟨Nat.le_of_ble_eq_true rfl, Nat.le_of_ble_eq_true rfl⟩ (ob_X) rfl rfl rfl hl.1 rfl (Nat.le_of_ble_eq_true rfl) dL_areSheets_441 (rk0 (k := 32) (K := 32) (Nat.le_of_ble_eq_true rfl))) hh (fun hc95 H locs hh => ?_)
      refine lv_iload hx hb dL_areSheets_444 (lv_at hl 2 rfl) ?_
      refine iv_icmp_ne (tgt := 475) hx hb hc95 h_y13 dL_areSheets_446 (by decide) (fun c96 => ?_) (fun c96 => ?_)
      · have h := h.2 c96
        refine iv_iconst hx hb dL_areSheets_475 ?_
        exact iv_xret E hh h.1 h.2 dL_areSheets_476
      · have h := h.1 c96
        refine lv_aload_n hx hb dL_areSheets_449 rfl (lv_at hl 0 rfl) ?_
        refine iv_iconst hx hb dL_areSheets_450 ?_
        obtain ⟨g97, h⟩ := h
        refine iv_ki (iv_rV (As := [.int (hI 4)]) (rest := []) E hh (ok_X5_count l hinj (m_X5_count S1 3) 4 ⟨by decide, by decide⟩ g97) cb_X5_count q1_229 rfl rfl ⟨Nat.le_of_ble_eq_true rfl, Nat.le_of_ble_eq_true rfl⟩ (ob_X) rfl rfl rfl hl.1 rfl (Nat.le_of_ble_eq_true rfl) dL_areSheets_451 (rk0 (k := 32) (K := 32) (Nat.le_of_ble_eq_true rfl))) hh (fun hc98 H locs hh => ?_)
        refine lv_iload hx hb dL_areSheets_454 (lv_at hl 3 rfl) ?_
        refine iv_icmp_ne (tgt := 475) hx hb hc98 h_y14 dL_areSheets_456 (by decide) (fun c99 => ?_) (fun c99 => ?_)
        · have h := h.2 c99
          refine iv_iconst hx hb dL_areSheets_475 ?_
          exact iv_xret E hh h.1 h.2 dL_areSheets_476
        · have h := h.1 c99
          refine lv_aload_n hx hb dL_areSheets_459 rfl (lv_at hl 0 rfl) ?_
          refine lv_bipush (v := hI 6) hx hb dL_areSheets_460 (by decide) ?_
          obtain ⟨g100, h⟩ := h
          refine iv_ki (iv_rV (As := [.int (hI 6)]) (rest := []) E hh (ok_X5_count l hinj (m_X5_count (m_X5_count S1 3) 4) 6 ⟨by decide, by decide⟩ g100) cb_X5_count q1_229 rfl rfl ⟨Nat.le_of_ble_eq_true rfl, Nat.le_of_ble_eq_true rfl⟩ (ob_X) rfl rfl rfl hl.1 rfl (Nat.le_of_ble_eq_true rfl) dL_areSheets_462 (rk0 (k := 32) (K := 32) (Nat.le_of_ble_eq_true rfl))) hh (fun hc101 H locs hh => ?_)
          refine lv_aload_n hx hb dL_areSheets_465 rfl (lv_at hl 1 rfl) ?_
          refine iv_iconst hx hb dL_areSheets_466 ?_
          refine iv_iald hx hb hK hh.1 ia_10_1 ⟨by decide, by decide⟩ (v := (((m_X5_count (m_X5_count (m_X5_count S1 3) 4) 6) 10) 1 3)) rfl dL_areSheets_467 ?_
          have hm102 : hIn (((m_X5_count (m_X5_count (m_X5_count S1 3) 4) 6) 10) 1 3) := hIn_rd hh.2.1 rfl (by decide)
          refine iv_icmp_ne (tgt := 475) hx hb hc101 hm102 dL_areSheets_468 (by decide) (fun c103 => ?_) (fun c103 => ?_)
          · have h := h.2 c103
            refine iv_iconst hx hb dL_areSheets_475 ?_
            exact iv_xret E hh h.1 h.2 dL_areSheets_476
          · have h := h.1 c103
            refine iv_iconst hx hb dL_areSheets_471 ?_
            refine lv_goto (tgt := 476) hx hb dL_areSheets_472 (by decide) ?_
            exact iv_xret E hh h.1 h.2 dL_areSheets_476
  intro H locs ls hh hl
  have hl : lv_has ls 21 [(0, .ref (ad 11 0)), (1, .ref (ad 10 1)), (2, .ref (ad 10 2)), (3, .ref (ad 10 3)), (4, .ref (ad 10 4)), (5, .ref (ad 10 5)), (6, .ref (ad 10 6)), (7, .ref (ad 10 7)), (8, .ref (ad 10 8)), (9, .ref (ad 10 9)), (10, .ref (ad 10 10)), (11, .ref (ad 10 11)), (12, .int (hI vv))] := hl
  have h := x_L_areSheets S vv h_vv (fun g i k hi => hh.2.1 g i k hi) hp (fun y13 y14 y15 S1 => (hAtC D ad cI cJ cF p l e ({ frames := 7, cells := 32, slots := 256, locals := 169 } : Room) s m args below meth c (MQ below (hQx D ad cI cJ cF (q_L_areSheets S vv)) args s 32 (8 * 32) (hAd ad)) 21 35 [(0, .ref (ad 11 0)), (1, .ref (ad 10 1)), (2, .ref (ad 10 2)), (3, .ref (ad 10 3)), (4, .ref (ad 10 4)), (5, .ref (ad 10 5)), (6, .ref (ad 10 6)), (7, .ref (ad 10 7)), (8, .ref (ad 10 8)), (9, .ref (ad 10 9)), (10, .ref (ad 10 10)), (11, .ref (ad 10 11)), (12, .int (hI vv)), (13, .int (hI y13)), (14, .int (hI y14)), (15, .int (hI y15))] S1 0)) (fun y13 y14 y15 y16 S1 => (hAtC D ad cI cJ cF p l e ({ frames := 7, cells := 32, slots := 256, locals := 169 } : Room) s m args below meth c (MQ below (hQx D ad cI cJ cF (q_L_areSheets S vv)) args s 32 (8 * 32) (hAd ad)) 21 38 [(0, .ref (ad 11 0)), (1, .ref (ad 10 1)), (2, .ref (ad 10 2)), (3, .ref (ad 10 3)), (4, .ref (ad 10 4)), (5, .ref (ad 10 5)), (6, .ref (ad 10 6)), (7, .ref (ad 10 7)), (8, .ref (ad 10 8)), (9, .ref (ad 10 9)), (10, .ref (ad 10 10)), (11, .ref (ad 10 11)), (12, .int (hI vv)), (13, .int (hI y13)), (14, .int (hI y14)), (15, .int (hI y15)), (16, .int (hI y16))] S1 (8 * (y16 : Int).toNat))) (fun y13 y14 y16 y17 S1 => (hAtC D ad cI cJ cF p l e ({ frames := 7, cells := 32, slots := 256, locals := 169 } : Room) s m args below meth c (MQ below (hQx D ad cI cJ cF (q_L_areSheets S vv)) args s 32 (8 * 32) (hAd ad)) 21 75 [(0, .ref (ad 11 0)), (1, .ref (ad 10 1)), (2, .ref (ad 10 2)), (3, .ref (ad 10 3)), (4, .ref (ad 10 4)), (5, .ref (ad 10 5)), (6, .ref (ad 10 6)), (7, .ref (ad 10 7)), (8, .ref (ad 10 8)), (9, .ref (ad 10 9)), (10, .ref (ad 10 10)), (11, .ref (ad 10 11)), (12, .int (hI vv)), (13, .int (hI y13)), (14, .int (hI y14)), (16, .int (hI y16)), (17, .int (hI y17))] S1 (8 * (y16 : Int).toNat))) (fun y13 y14 y16 y17 y18 y19 S1 => (hAtC D ad cI cJ cF p l e ({ frames := 7, cells := 32, slots := 256, locals := 169 } : Room) s m args below meth c (MQ below (hQx D ad cI cJ cF (q_L_areSheets S vv)) args s 32 (8 * 32) (hAd ad)) 21 81 [(0, .ref (ad 11 0)), (1, .ref (ad 10 1)), (2, .ref (ad 10 2)), (3, .ref (ad 10 3)), (4, .ref (ad 10 4)), (5, .ref (ad 10 5)), (6, .ref (ad 10 6)), (7, .ref (ad 10 7)), (8, .ref (ad 10 8)), (9, .ref (ad 10 9)), (10, .ref (ad 10 10)), (11, .ref (ad 10 11)), (12, .int (hI vv)), (13, .int (hI y13)), (14, .int (hI y14)), (16, .int (hI y16)), (17, .int (hI y17)), (18, .int (hI y18)), (19, .int (hI y19))] S1 (8 * (y16 : Int).toNat + (y19 : Int).toNat))) (fun y13 y14 y16 y17 y18 y19 S1 => (hAtC D ad cI cJ cF p l e ({ frames := 7, cells := 32, slots := 256, locals := 169 } : Room) s m args below meth c (MQ below (hQx D ad cI cJ cF (q_L_areSheets S vv)) args s 32 (8 * 32) (hAd ad)) 21 118 [(0, .ref (ad 11 0)), (1, .ref (ad 10 1)), (2, .ref (ad 10 2)), (3, .ref (ad 10 3)), (4, .ref (ad 10 4)), (5, .ref (ad 10 5)), (6, .ref (ad 10 6)), (7, .ref (ad 10 7)), (8, .ref (ad 10 8)), (9, .ref (ad 10 9)), (10, .ref (ad 10 10)), (11, .ref (ad 10 11)), (12, .int (hI vv)), (13, .int (hI y13)), (14, .int (hI y14)), (16, .int (hI y16)), (17, .int (hI y17)), (18, .int (hI y18)), (19, .int (hI y19))] S1 (8 * (y16 : Int).toNat + (y19 : Int).toNat))) (fun y13 y14 y16 y17 y18 y19 S1 => (hAtC D ad cI cJ cF p l e ({ frames := 7, cells := 32, slots := 256, locals := 169 } : Room) s m args below meth c (MQ below (hQx D ad cI cJ cF (q_L_areSheets S vv)) args s 32 (8 * 32) (hAd ad)) 21 191 [(0, .ref (ad 11 0)), (1, .ref (ad 10 1)), (2, .ref (ad 10 2)), (3, .ref (ad 10 3)), (4, .ref (ad 10 4)), (5, .ref (ad 10 5)), (6, .ref (ad 10 6)), (7, .ref (ad 10 7)), (8, .ref (ad 10 8)), (9, .ref (ad 10 9)), (10, .ref (ad 10 10)), (11, .ref (ad 10 11)), (12, .int (hI vv)), (13, .int (hI y13)), (14, .int (hI y14)), (16, .int (hI y16)), (17, .int (hI y17)), (18, .int (hI y18)), (19, .int (hI y19))] S1 (8 * (y16 : Int).toNat + (y19 : Int).toNat + 1))) (fun y13 y14 y16 y17 y18 S1 => (hAtC D ad cI cJ cF p l e ({ frames := 7, cells := 32, slots := 256, locals := 169 } : Room) s m args below meth c (MQ below (hQx D ad cI cJ cF (q_L_areSheets S vv)) args s 32 (8 * 32) (hAd ad)) 21 197 [(0, .ref (ad 11 0)), (1, .ref (ad 10 1)), (2, .ref (ad 10 2)), (3, .ref (ad 10 3)), (4, .ref (ad 10 4)), (5, .ref (ad 10 5)), (6, .ref (ad 10 6)), (7, .ref (ad 10 7)), (8, .ref (ad 10 8)), (9, .ref (ad 10 9)), (10, .ref (ad 10 10)), (11, .ref (ad 10 11)), (12, .int (hI vv)), (13, .int (hI y13)), (14, .int (hI y14)), (16, .int (hI y16)), (17, .int (hI y17)), (18, .int (hI y18))] S1 (8 * (y16 : Int).toNat + 8))) (fun y13 y14 y16 y17 y18 S1 => (hAtC D ad cI cJ cF p l e ({ frames := 7, cells := 32, slots := 256, locals := 169 } : Room) s m args below meth c (MQ below (hQx D ad cI cJ cF (q_L_areSheets S vv)) args s 32 (8 * 32) (hAd ad)) 21 215 [(0, .ref (ad 11 0)), (1, .ref (ad 10 1)), (2, .ref (ad 10 2)), (3, .ref (ad 10 3)), (4, .ref (ad 10 4)), (5, .ref (ad 10 5)), (6, .ref (ad 10 6)), (7, .ref (ad 10 7)), (8, .ref (ad 10 8)), (9, .ref (ad 10 9)), (10, .ref (ad 10 10)), (11, .ref (ad 10 11)), (12, .int (hI vv)), (13, .int (hI y13)), (14, .int (hI y14)), (16, .int (hI y16)), (17, .int (hI y17)), (18, .int (hI y18))] S1 (8 * (y16 : Int).toNat + 8))) (fun y13 y14 y16 y17 y18 S1 => (hAtC D ad cI cJ cF p l e ({ frames := 7, cells := 32, slots := 256, locals := 169 } : Room) s m args below meth c (MQ below (hQx D ad cI cJ cF (q_L_areSheets S vv)) args s 32 (8 * 32) (hAd ad)) 21 230 [(0, .ref (ad 11 0)), (1, .ref (ad 10 1)), (2, .ref (ad 10 2)), (3, .ref (ad 10 3)), (4, .ref (ad 10 4)), (5, .ref (ad 10 5)), (6, .ref (ad 10 6)), (7, .ref (ad 10 7)), (8, .ref (ad 10 8)), (9, .ref (ad 10 9)), (10, .ref (ad 10 10)), (11, .ref (ad 10 11)), (12, .int (hI vv)), (13, .int (hI y13)), (14, .int (hI y14)), (16, .int (hI y16)), (17, .int (hI y17)), (18, .int (hI y18))] S1 (8 * (y16 : Int).toNat + 8))) (fun y13 y14 y15 y16 S1 => (hAtC D ad cI cJ cF p l e ({ frames := 7, cells := 32, slots := 256, locals := 169 } : Room) s m args below meth c (MQ below (hQx D ad cI cJ cF (q_L_areSheets S vv)) args s 32 (8 * 32) (hAd ad)) 21 327 [(0, .ref (ad 11 0)), (1, .ref (ad 10 1)), (2, .ref (ad 10 2)), (3, .ref (ad 10 3)), (4, .ref (ad 10 4)), (5, .ref (ad 10 5)), (6, .ref (ad 10 6)), (7, .ref (ad 10 7)), (8, .ref (ad 10 8)), (9, .ref (ad 10 9)), (10, .ref (ad 10 10)), (11, .ref (ad 10 11)), (12, .int (hI vv)), (13, .int (hI y13)), (14, .int (hI y14)), (15, .int (hI y15)), (16, .int (hI y16))] S1 (8 * (y16 : Int).toNat + 8))) (fun y13 y14 y15 y16 y19 y20 S1 => (hAtC D ad cI cJ cF p l e ({ frames := 7, cells := 32, slots := 256, locals := 169 } : Room) s m args below meth c (MQ below (hQx D ad cI cJ cF (q_L_areSheets S vv)) args s 32 (8 * 32) (hAd ad)) 21 344 [(0, .ref (ad 11 0)), (1, .ref (ad 10 1)), (2, .ref (ad 10 2)), (3, .ref (ad 10 3)), (4, .ref (ad 10 4)), (5, .ref (ad 10 5)), (6, .ref (ad 10 6)), (7, .ref (ad 10 7)), (8, .ref (ad 10 8)), (9, .ref (ad 10 9)), (10, .ref (ad 10 10)), (11, .ref (ad 10 11)), (12, .int (hI vv)), (13, .int (hI y13)), (14, .int (hI y14)), (15, .int (hI y15)), (16, .int (hI y16)), (19, .int (hI y19)), (20, .int (hI y20))] S1 (8 * (y16 : Int).toNat + 8))) (fun y13 y14 y15 y16 S1 => (hAtC D ad cI cJ cF p l e ({ frames := 7, cells := 32, slots := 256, locals := 169 } : Room) s m args below meth c (MQ below (hQx D ad cI cJ cF (q_L_areSheets S vv)) args s 32 (8 * 32) (hAd ad)) 21 428 [(0, .ref (ad 11 0)), (1, .ref (ad 10 1)), (2, .ref (ad 10 2)), (3, .ref (ad 10 3)), (4, .ref (ad 10 4)), (5, .ref (ad 10 5)), (6, .ref (ad 10 6)), (7, .ref (ad 10 7)), (8, .ref (ad 10 8)), (9, .ref (ad 10 9)), (10, .ref (ad 10 10)), (11, .ref (ad 10 11)), (12, .int (hI vv)), (13, .int (hI y13)), (14, .int (hI y14)), (15, .int (hI y15)), (16, .int (hI y16))] S1 (8 * (y16 : Int).toNat + 8))) (fun y13 y14 y15 S1 => (hAtC D ad cI cJ cF p l e ({ frames := 7, cells := 32, slots := 256, locals := 169 } : Room) s m args below meth c (MQ below (hQx D ad cI cJ cF (q_L_areSheets S vv)) args s 32 (8 * 32) (hAd ad)) 21 434 [(0, .ref (ad 11 0)), (1, .ref (ad 10 1)), (13, .int (hI y13)), (14, .int (hI y14)), (15, .int (hI y15))] S1 (32))) (fun r S1 => ((r : Int) = 1 ∧ q_L_areSheets S vv S1)) r35 r38 r75 r81 r118 r191 r197 r215 r230 r327 r344 r428 r434 (fun S2 hq => ⟨rfl, hq⟩)
  refine iv_iconst hx hb dL_areSheets_0 ?_
  refine lv_istore (lv' := [(13, .int (hI 0)), (0, .ref (ad 11 0)), (1, .ref (ad 10 1)), (2, .ref (ad 10 2)), (3, .ref (ad 10 3)), (4, .ref (ad 10 4)), (5, .ref (ad 10 5)), (6, .ref (ad 10 6)), (7, .ref (ad 10 7)), (8, .ref (ad 10 8)), (9, .ref (ad 10 9)), (10, .ref (ad 10 10)), (11, .ref (ad 10 11)), (12, .int (hI vv))]) hx hb dL_areSheets_1 hl (by decide) rfl (fun ls hl => ?_)
  refine iv_iconst hx hb dL_areSheets_3 ?_
  refine lv_istore (lv' := [(14, .int (hI 0)), (13, .int (hI 0)), (0, .ref (ad 11 0)), (1, .ref (ad 10 1)), (2, .ref (ad 10 2)), (3, .ref (ad 10 3)), (4, .ref (ad 10 4)), (5, .ref (ad 10 5)), (6, .ref (ad 10 6)), (7, .ref (ad 10 7)), (8, .ref (ad 10 8)), (9, .ref (ad 10 9)), (10, .ref (ad 10 10)), (11, .ref (ad 10 11)), (12, .int (hI vv))]) hx hb dL_areSheets_4 hl (by decide) rfl (fun ls hl => ?_)
  refine lv_aload_n hx hb dL_areSheets_6 rfl (lv_at hl 2 rfl) ?_
  refine iv_iconst hx hb dL_areSheets_7 ?_
  refine iv_iconst hx hb dL_areSheets_8 ?_
  obtain ⟨g104, h⟩ := h
  refine iv_ki (iv_rV (As := [.int (hI (-1)), .int (hI 0)]) (rest := []) E hh (ok_X5_sheetOf l hinj S (-1) 0 ⟨by decide, by decide⟩ ⟨by decide, by decide⟩ g104) cb_X5_sheetOf q3_43 rfl rfl ⟨Nat.le_of_ble_eq_true rfl, Nat.le_of_ble_eq_true rfl⟩ (ob_X) rfl rfl rfl hl.1 rfl (Nat.le_of_ble_eq_true rfl) dL_areSheets_9 ⟨Nat.zero_le _, Nat.zero_le _⟩) hh (fun hc105 H locs hh => ?_)
  refine iv_ldc (n := (-1000001)) hx hb (by decide) hown (hts _ q2_153) dL_areSheets_12 ?_
  refine iv_icmp_ne (tgt := 32) hx hb hc105 ⟨by decide, by decide⟩ dL_areSheets_14 (by decide) (fun c106 => ?_) (fun c106 => ?_)
  · have h := h.2 c106
    refine iv_iconst hx hb dL_areSheets_32 ?_
    refine lv_istore (lv' := [(15, .int (hI 0)), (14, .int (hI 0)), (13, .int (hI 0)), (0, .ref (ad 11 0)), (1, .ref (ad 10 1)), (2, .ref (ad 10 2)), (3, .ref (ad 10 3)), (4, .ref (ad 10 4)), (5, .ref (ad 10 5)), (6, .ref (ad 10 6)), (7, .ref (ad 10 7)), (8, .ref (ad 10 8)), (9, .ref (ad 10 9)), (10, .ref (ad 10 10)), (11, .ref (ad 10 11)), (12, .int (hI vv))]) hx hb dL_areSheets_33 hl (by decide) rfl (fun ls hl => ?_)
    exact h H _ ls hh (lv_sub hl [3, 4, 5, 6, 7, 8, 9, 10, 11, 12, 13, 14, 15, 2, 1, 0] rfl)
  · have h := h.1 c106
    refine lv_aload_n hx hb dL_areSheets_17 rfl (lv_at hl 2 rfl) ?_
    refine iv_iconst hx hb dL_areSheets_18 ?_
    refine iv_iconst hx hb dL_areSheets_19 ?_
    obtain ⟨g107, h⟩ := h
    refine iv_ki (iv_rV (As := [.int (hI 0), .int (hI 4)]) (rest := []) E hh (ok_X5_sheetOf l hinj (m_X5_sheetOf S (-1) 0) 0 4 ⟨by decide, by decide⟩ ⟨by decide, by decide⟩ g107) cb_X5_sheetOf q3_43 rfl rfl ⟨Nat.le_of_ble_eq_true rfl, Nat.le_of_ble_eq_true rfl⟩ (ob_X) rfl rfl rfl hl.1 rfl (Nat.le_of_ble_eq_true rfl) dL_areSheets_20 ⟨Nat.zero_le _, Nat.zero_le _⟩) hh (fun hc108 H locs hh => ?_)
    refine iv_ldc (n := (-1000001)) hx hb (by decide) hown (hts _ q2_153) dL_areSheets_23 ?_
    refine iv_icmp_ne (tgt := 32) hx hb hc108 ⟨by decide, by decide⟩ dL_areSheets_25 (by decide) (fun c109 => ?_) (fun c109 => ?_)
    · have h := h.2 c109
      refine iv_iconst hx hb dL_areSheets_32 ?_
      refine lv_istore (lv' := [(15, .int (hI 0)), (14, .int (hI 0)), (13, .int (hI 0)), (0, .ref (ad 11 0)), (1, .ref (ad 10 1)), (2, .ref (ad 10 2)), (3, .ref (ad 10 3)), (4, .ref (ad 10 4)), (5, .ref (ad 10 5)), (6, .ref (ad 10 6)), (7, .ref (ad 10 7)), (8, .ref (ad 10 8)), (9, .ref (ad 10 9)), (10, .ref (ad 10 10)), (11, .ref (ad 10 11)), (12, .int (hI vv))]) hx hb dL_areSheets_33 hl (by decide) rfl (fun ls hl => ?_)
      exact h H _ ls hh (lv_sub hl [3, 4, 5, 6, 7, 8, 9, 10, 11, 12, 13, 14, 15, 2, 1, 0] rfl)
    · have h := h.1 c109
      refine iv_iconst hx hb dL_areSheets_28 ?_
      refine lv_goto (tgt := 33) hx hb dL_areSheets_29 (by decide) ?_
      refine lv_istore (lv' := [(15, .int (hI 1)), (14, .int (hI 0)), (13, .int (hI 0)), (0, .ref (ad 11 0)), (1, .ref (ad 10 1)), (2, .ref (ad 10 2)), (3, .ref (ad 10 3)), (4, .ref (ad 10 4)), (5, .ref (ad 10 5)), (6, .ref (ad 10 6)), (7, .ref (ad 10 7)), (8, .ref (ad 10 8)), (9, .ref (ad 10 9)), (10, .ref (ad 10 10)), (11, .ref (ad 10 11)), (12, .int (hI vv))]) hx hb dL_areSheets_33 hl (by decide) rfl (fun ls hl => ?_)
      exact h H _ ls hh (lv_sub hl [3, 4, 5, 6, 7, 8, 9, 10, 11, 12, 13, 14, 15, 2, 1, 0] rfl)
end

section
variable {D : va_G} {ad : Nat → Nat → Nat} {cI cJ cF : ClassId}
set_option maxHeartbeats 4000000 in
set_option maxRecDepth 100000 in
theorem ok_L_areStems (l : Launch) (hinj : hInj ad) (S : hS) (hp : p_L_areStems S) : hMx D ad cI cJ cF l yL_areStems cL_areStems 15 ({ frames := 7, cells := 0, slots := 0, locals := 169 } : Room) [.ref (ad 11 0), .ref (ad 10 1), .ref (ad 10 3), .ref (ad 10 4), .ref (ad 10 5), .ref (ad 10 6), .ref (ad 10 7)] S (q_L_areStems S) 0 := by
  refine hOf (S := S) l hinj (by decide +kernel) (Nat.le_of_ble_eq_true rfl) (fun p e s m args below meth c E => ?_)
  obtain ⟨hx, hb, hml, hown, hts, hK, hN, -, hr, hlk, hz⟩ := id E
  have hown : s.vm.findClass RL = some m.cls := hown
  have r33 : ∀ (y7 : Int) (S1 : hS), hIn y7 → ((∀ (g i : Nat) (k : Int), i < 100 → hIn (S1 g i k)) → (hAt D ad cI cJ cF p l e ({ frames := 7, cells := 0, slots := 0, locals := 169 } : Room) s m args below meth c (MQ below (hQx D ad cI cJ cF (q_L_areStems S)) args s 0 0 (hAd ad)) 15 42 [(0, .ref (ad 11 0)), (1, .ref (ad 10 1)), (2, .ref (ad 10 3)), (3, .ref (ad 10 4)), (4, .ref (ad 10 5)), (5, .ref (ad 10 6)), (6, .ref (ad 10 7)), (7, .int (hI y7)), (8, .int (hI 0)), (9, .int (hI 0)), (10, .int (hI 0))] S1)) → (hAt D ad cI cJ cF p l e ({ frames := 7, cells := 0, slots := 0, locals := 169 } : Room) s m args below meth c (MQ below (hQx D ad cI cJ cF (q_L_areStems S)) args s 0 0 (hAd ad)) 15 33 [(0, .ref (ad 11 0)), (1, .ref (ad 10 1)), (2, .ref (ad 10 3)), (3, .ref (ad 10 4)), (4, .ref (ad 10 5)), (5, .ref (ad 10 6)), (6, .ref (ad 10 7)), (7, .int (hI y7))] S1) := by
    intro y7 S1 h_y7 h H locs ls hh hl
    have h := h (fun g i k hi => hh.2.1 g i k hi)
    refine iv_iconst hx hb dL_areStems_33 ?_
    refine lv_istore (lv' := [(8, .int (hI 0)), (0, .ref (ad 11 0)), (1, .ref (ad 10 1)), (2, .ref (ad 10 3)), (3, .ref (ad 10 4)), (4, .ref (ad 10 5)), (5, .ref (ad 10 6)), (6, .ref (ad 10 7)), (7, .int (hI y7))]) hx hb dL_areStems_34 hl (by decide) rfl (fun ls hl => ?_)
    refine iv_iconst hx hb dL_areStems_36 ?_
    refine lv_istore (lv' := [(9, .int (hI 0)), (8, .int (hI 0)), (0, .ref (ad 11 0)), (1, .ref (ad 10 1)), (2, .ref (ad 10 3)), (3, .ref (ad 10 4)), (4, .ref (ad 10 5)), (5, .ref (ad 10 6)), (6, .ref (ad 10 7)), (7, .int (hI y7))]) hx hb dL_areStems_37 hl (by decide) rfl (fun ls hl => ?_)
    refine iv_iconst hx hb dL_areStems_39 ?_
    refine lv_istore (lv' := [(10, .int (hI 0)), (9, .int (hI 0)), (8, .int (hI 0)), (0, .ref (ad 11 0)), (1, .ref (ad 10 1)), (2, .ref (ad 10 3)), (3, .ref (ad 10 4)), (4, .ref (ad 10 5)), (5, .ref (ad 10 6)), (6, .ref (ad 10 7)), (7, .int (hI y7))]) hx hb dL_areStems_40 hl (by decide) rfl (fun ls hl => ?_)
    exact h H _ ls hh (lv_sub hl [3, 4, 5, 6, 7, 8, 9, 10, 2, 1, 0] rfl)
  have r42 : ∀ (y7 : Int) (y8 : Int) (y9 : Int) (y10 : Int) (S1 : hS), hIn y7 → hIn y8 → hIn y9 → hIn y10 → ((∀ (g i : Nat) (k : Int), i < 100 → hIn (S1 g i k)) → ((y10 < 48 → ((y7 = 0 → ((0 : Int) = 1 ∧ q_L_areStems S S1)) ∧ (¬ y7 = 0 → (0 ≤ y10 ∧ (hIn (y10 / 6) ∧ (((y10 / 6) < ((S1 10) 1 0) → ((0 ≤ (y10 / 6) ∧ (y10 / 6) < 8) ∧ (hIn (y10 % 6) ∧ (((y10 % 6) < ((S1 10) 3 (y10 / 6)) → (hAt D ad cI cJ cF p l e ({ frames := 7, cells := 0, slots := 0, locals := 169 } : Room) s m args below meth c (MQ below (hQx D ad cI cJ cF (q_L_areStems S)) args s 0 0 (hAd ad)) 15 110 [(0, .ref (ad 11 0)), (1, .ref (ad 10 1)), (2, .ref (ad 10 3)), (3, .ref (ad 10 4)), (4, .ref (ad 10 5)), (5, .ref (ad 10 6)), (6, .ref (ad 10 7)), (8, .int (hI y8)), (9, .int (hI y9)), (10, .int (hI y10))] S1)) ∧ (¬ (y10 % 6) < ((S1 10) 3 (y10 / 6)) → (p_X5_stemOf S1 (y10 / 6) (y10 % 6) 0 ∧ (((v_X5_stemOf S1 (y10 / 6) (y10 % 6) 0) = (-1000001) → (hAt D ad cI cJ cF p l e ({ frames := 7, cells := 0, slots := 0, locals := 169 } : Room) s m args below meth c (MQ below (hQx D ad cI cJ cF (q_L_areStems S)) args s 0 0 (hAd ad)) 15 481 [(0, .ref (ad 11 0)), (1, .ref (ad 10 1)), (2, .ref (ad 10 3)), (3, .ref (ad 10 4)), (4, .ref (ad 10 5)), (5, .ref (ad 10 6)), (6, .ref (ad 10 7)), (7, .int (hI 1)), (8, .int (hI y8)), (9, .int (hI y9)), (10, .int (hI y10))] S1)) ∧ (¬ (v_X5_stemOf S1 (y10 / 6) (y10 % 6) 0) = (-1000001) → (hAt D ad cI cJ cF p l e ({ frames := 7, cells := 0, slots := 0, locals := 169 } : Room) s m args below meth c (MQ below (hQx D ad cI cJ cF (q_L_areStems S)) args s 0 0 (hAd ad)) 15 481 [(0, .ref (ad 11 0)), (1, .ref (ad 10 1)), (2, .ref (ad 10 3)), (3, .ref (ad 10 4)), (4, .ref (ad 10 5)), (5, .ref (ad 10 6)), (6, .ref (ad 10 7)), (7, .int (hI 0)), (8, .int (hI y8)), (9, .int (hI y9)), (10, .int (hI y10))] S1))))))))) ∧ (¬ (y10 / 6) < ((S1 10) 1 0) → (hIn (y10 % 6) ∧ (p_X5_stemOf S1 (y10 / 6) (y10 % 6) 0 ∧ (((v_X5_stemOf S1 (y10 / 6) (y10 % 6) 0) = (-1000001) → (hAt D ad cI cJ cF p l e ({ frames := 7, cells := 0, slots := 0, locals := 169 } : Room) s m args below meth c (MQ below (hQx D ad cI cJ cF (q_L_areStems S)) args s 0 0 (hAd ad)) 15 481 [(0, .ref (ad 11 0)), (1, .ref (ad 10 1)), (2, .ref (ad 10 3)), (3, .ref (ad 10 4)), (4, .ref (ad 10 5)), (5, .ref (ad 10 6)), (6, .ref (ad 10 7)), (7, .int (hI 1)), (8, .int (hI y8)), (9, .int (hI y9)), (10, .int (hI y10))] S1)) ∧ (¬ (v_X5_stemOf S1 (y10 / 6) (y10 % 6) 0) = (-1000001) → (hAt D ad cI cJ cF p l e ({ frames := 7, cells := 0, slots := 0, locals := 169 } : Room) s m args below meth c (MQ below (hQx D ad cI cJ cF (q_L_areStems S)) args s 0 0 (hAd ad)) 15 481 [(0, .ref (ad 11 0)), (1, .ref (ad 10 1)), (2, .ref (ad 10 3)), (3, .ref (ad 10 4)), (4, .ref (ad 10 5)), (5, .ref (ad 10 6)), (6, .ref (ad 10 7)), (7, .int (hI 0)), (8, .int (hI y8)), (9, .int (hI y9)), (10, .int (hI y10))] S1)))))))))))) ∧ (¬ y10 < 48 → ((y7 = 0 → ((0 : Int) = 1 ∧ q_L_areStems S S1)) ∧ (¬ y7 = 0 → (p_X5_count S1 1 ∧ (((v_X5_count S1 1) = y8 → (p_X5_count (m_X5_count S1 1) 5 ∧ (((v_X5_count (m_X5_count S1 1) 5) = y9 → ((1 : Int) = 1 ∧ q_L_areStems S (m_X5_count (m_X5_count S1 1) 5))) ∧ (¬ (v_X5_count (m_X5_count S1 1) 5) = y9 → ((0 : Int) = 1 ∧ q_L_areStems S (m_X5_count (m_X5_count S1 1) 5)))))) ∧ (¬ (v_X5_count S1 1) = y8 → ((0 : Int) = 1 ∧ q_L_areStems S (m_X5_count S1 1)))))))))) → (hAt D ad cI cJ cF p l e ({ frames := 7, cells := 0, slots := 0, locals := 169 } : Room) s m args below meth c (MQ below (hQx D ad cI cJ cF (q_L_areStems S)) args s 0 0 (hAd ad)) 15 42 [(0, .ref (ad 11 0)), (1, .ref (ad 10 1)), (2, .ref (ad 10 3)), (3, .ref (ad 10 4)), (4, .ref (ad 10 5)), (5, .ref (ad 10 6)), (6, .ref (ad 10 7)), (7, .int (hI y7)), (8, .int (hI y8)), (9, .int (hI y9)), (10, .int (hI y10))] S1) := by
    intro y7 y8 y9 y10 S1 h_y7 h_y8 h_y9 h_y10 h H locs ls hh hl
    have h := h (fun g i k hi => hh.2.1 g i k hi)
    refine lv_iload hx hb dL_areStems_42 (lv_at hl 10 rfl) ?_
    refine lv_bipush (v := hI 48) hx hb dL_areStems_44 (by decide) ?_
    refine iv_icmp_ge (tgt := 487) hx hb h_y10 ⟨by decide, by decide⟩ dL_areStems_46 (by decide) (fun c1 => ?_) (fun c1 => ?_)
    · have h := h.2 c1
      refine lv_iload hx hb dL_areStems_487 (lv_at hl 7 rfl) ?_
      refine iv_if_eq (tgt := 516) hx hb h_y7 dL_areStems_489 (by decide) (fun c2 => ?_) (fun c2 => ?_)
      · have h := h.1 c2
        refine iv_iconst hx hb dL_areStems_516 ?_
        exact iv_xret E hh h.1 h.2 dL_areStems_517
      · have h := h.2 c2
        refine lv_aload_n hx hb dL_areStems_492 rfl (lv_at hl 0 rfl) ?_
        refine iv_iconst hx hb dL_areStems_493 ?_
        obtain ⟨g3, h⟩ := h
        refine iv_ki (iv_rV (As := [.int (hI 1)]) (rest := []) E hh (ok_X5_count l hinj S1 1 ⟨by decide, by decide⟩ g3) cb_X5_count q1_229 rfl rfl ⟨Nat.le_of_ble_eq_true rfl, Nat.le_of_ble_eq_true rfl⟩ (ob_X) rfl rfl rfl hl.1 rfl (Nat.le_of_ble_eq_true rfl) dL_areStems_494 ⟨Nat.zero_le _, Nat.zero_le _⟩) hh (fun hc4 H locs hh => ?_)
        refine lv_iload hx hb dL_areStems_497 (lv_at hl 8 rfl) ?_
        refine iv_icmp_ne (tgt := 516) hx hb hc4 h_y8 dL_areStems_499 (by decide) (fun c5 => ?_) (fun c5 => ?_)
        · have h := h.2 c5
          refine iv_iconst hx hb dL_areStems_516 ?_
          exact iv_xret E hh h.1 h.2 dL_areStems_517
        · have h := h.1 c5
          refine lv_aload_n hx hb dL_areStems_502 rfl (lv_at hl 0 rfl) ?_
          refine iv_iconst hx hb dL_areStems_503 ?_
          obtain ⟨g6, h⟩ := h
          refine iv_ki (iv_rV (As := [.int (hI 5)]) (rest := []) E hh (ok_X5_count l hinj (m_X5_count S1 1) 5 ⟨by decide, by decide⟩ g6) cb_X5_count q1_229 rfl rfl ⟨Nat.le_of_ble_eq_true rfl, Nat.le_of_ble_eq_true rfl⟩ (ob_X) rfl rfl rfl hl.1 rfl (Nat.le_of_ble_eq_true rfl) dL_areStems_504 ⟨Nat.zero_le _, Nat.zero_le _⟩) hh (fun hc7 H locs hh => ?_)
          refine lv_iload hx hb dL_areStems_507 (lv_at hl 9 rfl) ?_
          refine iv_icmp_ne (tgt := 516) hx hb hc7 h_y9 dL_areStems_509 (by decide) (fun c8 => ?_) (fun c8 => ?_)
          · have h := h.2 c8
            refine iv_iconst hx hb dL_areStems_516 ?_
            exact iv_xret E hh h.1 h.2 dL_areStems_517
          · have h := h.1 c8
            refine iv_iconst hx hb dL_areStems_512 ?_
            refine lv_goto (tgt := 517) hx hb dL_areStems_513 (by decide) ?_
            exact iv_xret E hh h.1 h.2 dL_areStems_517
    · have h := h.1 c1
      refine lv_iload hx hb dL_areStems_49 (lv_at hl 7 rfl) ?_
      refine iv_if_eq (tgt := 487) hx hb h_y7 dL_areStems_51 (by decide) (fun c9 => ?_) (fun c9 => ?_)
      · have h := h.1 c9
        refine lv_iload hx hb dL_areStems_487 (lv_at hl 7 rfl) ?_
        refine iv_if_eq (tgt := 516) hx hb h_y7 dL_areStems_489 (by decide) (fun c10 => ?_) (fun c10 => ?_)
        · refine iv_iconst hx hb dL_areStems_516 ?_
          exact iv_xret E hh h.1 h.2 dL_areStems_517
        · exact absurd c9 c10
      · have h := h.2 c9
        refine lv_iload hx hb dL_areStems_54 (lv_at hl 10 rfl) ?_
        refine lv_bipush (v := hI 6) hx hb dL_areStems_56 (by decide) ?_
        obtain ⟨g11, h⟩ := h
        refine iv_idiv hx hb h_y10 g11 ⟨by decide, by decide⟩ (by decide) dL_areStems_58 ?_
        refine lv_aload_n hx hb dL_areStems_59 rfl (lv_at hl 1 rfl) ?_
        refine iv_iconst hx hb dL_areStems_60 ?_
        refine iv_iald hx hb hK hh.1 ia_10_1 ⟨by decide, by decide⟩ (v := ((S1 10) 1 0)) rfl dL_areStems_61 ?_
        have hm12 : hIn ((S1 10) 1 0) := hIn_rd hh.2.1 rfl (by decide)
        obtain ⟨g13, h⟩ := h
        refine iv_icmp_ge (tgt := 80) hx hb g13 hm12 dL_areStems_62 (by decide) (fun c14 => ?_) (fun c14 => ?_)
        · have h := h.2 c14
          refine lv_aload_n hx hb dL_areStems_80 rfl (lv_at hl 0 rfl) ?_
          refine lv_iload hx hb dL_areStems_81 (lv_at hl 10 rfl) ?_
          refine lv_bipush (v := hI 6) hx hb dL_areStems_83 (by decide) ?_
          refine iv_idiv hx hb h_y10 g11 ⟨by decide, by decide⟩ (by decide) dL_areStems_85 ?_
          refine lv_iload hx hb dL_areStems_86 (lv_at hl 10 rfl) ?_
          refine lv_bipush (v := hI 6) hx hb dL_areStems_88 (by decide) ?_
          refine iv_irem hx hb h_y10 g11 ⟨by decide, by decide⟩ (by decide) dL_areStems_90 ?_
          refine iv_iconst hx hb dL_areStems_91 ?_
          obtain ⟨g15, h⟩ := h
          obtain ⟨g16, h⟩ := h
          refine iv_ki (iv_rV (As := [.int (hI (y10 / 6)), .int (hI (y10 % 6)), .int (hI 0)]) (rest := []) E hh (ok_X5_stemOf l hinj S1 (y10 / 6) (y10 % 6) 0 g13 g15 ⟨by decide, by decide⟩ g16) cb_X5_stemOf q3_27 rfl rfl ⟨Nat.le_of_ble_eq_true rfl, Nat.le_of_ble_eq_true rfl⟩ (ob_X) rfl rfl rfl hl.1 rfl (Nat.le_of_ble_eq_true rfl) dL_areStems_92 ⟨Nat.zero_le _, Nat.zero_le _⟩) hh (fun hc17 H locs hh => ?_)
          refine iv_ldc (n := (-1000001)) hx hb (by decide) hown (hts _ q2_153) dL_areStems_95 ?_
          refine iv_icmp_ne (tgt := 104) hx hb hc17 ⟨by decide, by decide⟩ dL_areStems_97 (by decide) (fun c18 => ?_) (fun c18 => ?_)
          · have h := h.2 c18
            refine iv_iconst hx hb dL_areStems_104 ?_
            refine lv_istore (lv' := [(7, .int (hI 0)), (0, .ref (ad 11 0)), (1, .ref (ad 10 1)), (2, .ref (ad 10 3)), (3, .ref (ad 10 4)), (4, .ref (ad 10 5)), (5, .ref (ad 10 6)), (6, .ref (ad 10 7)), (8, .int (hI y8)), (9, .int (hI y9)), (10, .int (hI y10))]) hx hb dL_areStems_105 hl (by decide) rfl (fun ls hl => ?_)
            refine lv_goto (tgt := 481) hx hb dL_areStems_107 (by decide) ?_
            exact h H _ ls hh (lv_sub hl [1, 2, 3, 4, 5, 6, 7, 0, 8, 9, 10] rfl)
          · have h := h.1 c18
            refine iv_iconst hx hb dL_areStems_100 ?_
            refine lv_goto (tgt := 105) hx hb dL_areStems_101 (by decide) ?_
            refine lv_istore (lv' := [(7, .int (hI 1)), (0, .ref (ad 11 0)), (1, .ref (ad 10 1)), (2, .ref (ad 10 3)), (3, .ref (ad 10 4)), (4, .ref (ad 10 5)), (5, .ref (ad 10 6)), (6, .ref (ad 10 7)), (8, .int (hI y8)), (9, .int (hI y9)), (10, .int (hI y10))]) hx hb dL_areStems_105 hl (by decide) rfl (fun ls hl => ?_)
            refine lv_goto (tgt := 481) hx hb dL_areStems_107 (by decide) ?_
            exact h H _ ls hh (lv_sub hl [1, 2, 3, 4, 5, 6, 7, 0, 8, 9, 10] rfl)
        · have h := h.1 c14
          refine lv_iload hx hb dL_areStems_65 (lv_at hl 10 rfl) ?_
          refine lv_bipush (v := hI 6) hx hb dL_areStems_67 (by decide) ?_
          refine iv_irem hx hb h_y10 g11 ⟨by decide, by decide⟩ (by decide) dL_areStems_69 ?_
          refine lv_aload_n hx hb dL_areStems_70 rfl (lv_at hl 2 rfl) ?_
          refine lv_iload hx hb dL_areStems_71 (lv_at hl 10 rfl) ?_
          refine lv_bipush (v := hI 6) hx hb dL_areStems_73 (by decide) ?_
          refine iv_idiv hx hb h_y10 g11 ⟨by decide, by decide⟩ (by decide) dL_areStems_75 ?_
          obtain ⟨g19, h⟩ := h
          refine iv_iald hx hb hK hh.1 ia_10_3 g19 (v := ((S1 10) 3 (y10 / 6))) rfl dL_areStems_76 ?_
          have hm20 : hIn ((S1 10) 3 (y10 / 6)) := hIn_rd hh.2.1 rfl (by decide)
          obtain ⟨g21, h⟩ := h
          refine iv_icmp_lt (tgt := 110) hx hb g21 hm20 dL_areStems_77 (by decide) (fun c22 => ?_) (fun c22 => ?_)
          · have h := h.1 c22
            exact h H _ ls hh (lv_sub hl [0, 1, 2, 3, 4, 5, 6, 8, 9, 10] rfl)
          · have h := h.2 c22
            refine lv_aload_n hx hb dL_areStems_80 rfl (lv_at hl 0 rfl) ?_
            refine lv_iload hx hb dL_areStems_81 (lv_at hl 10 rfl) ?_
            refine lv_bipush (v := hI 6) hx hb dL_areStems_83 (by decide) ?_
            refine iv_idiv hx hb h_y10 g11 ⟨by decide, by decide⟩ (by decide) dL_areStems_85 ?_
            refine lv_iload hx hb dL_areStems_86 (lv_at hl 10 rfl) ?_
            refine lv_bipush (v := hI 6) hx hb dL_areStems_88 (by decide) ?_
            refine iv_irem hx hb h_y10 g11 ⟨by decide, by decide⟩ (by decide) dL_areStems_90 ?_
            refine iv_iconst hx hb dL_areStems_91 ?_
            obtain ⟨g23, h⟩ := h
            refine iv_ki (iv_rV (As := [.int (hI (y10 / 6)), .int (hI (y10 % 6)), .int (hI 0)]) (rest := []) E hh (ok_X5_stemOf l hinj S1 (y10 / 6) (y10 % 6) 0 g13 g21 ⟨by decide, by decide⟩ g23) cb_X5_stemOf q3_27 rfl rfl ⟨Nat.le_of_ble_eq_true rfl, Nat.le_of_ble_eq_true rfl⟩ (ob_X) rfl rfl rfl hl.1 rfl (Nat.le_of_ble_eq_true rfl) dL_areStems_92 ⟨Nat.zero_le _, Nat.zero_le _⟩) hh (fun hc24 H locs hh => ?_)
            refine iv_ldc (n := (-1000001)) hx hb (by decide) hown (hts _ q2_153) dL_areStems_95 ?_
            refine iv_icmp_ne (tgt := 104) hx hb hc24 ⟨by decide, by decide⟩ dL_areStems_97 (by decide) (fun c25 => ?_) (fun c25 => ?_)
            · have h := h.2 c25
              refine iv_iconst hx hb dL_areStems_104 ?_
              refine lv_istore (lv' := [(7, .int (hI 0)), (0, .ref (ad 11 0)), (1, .ref (ad 10 1)), (2, .ref (ad 10 3)), (3, .ref (ad 10 4)), (4, .ref (ad 10 5)), (5, .ref (ad 10 6)), (6, .ref (ad 10 7)), (8, .int (hI y8)), (9, .int (hI y9)), (10, .int (hI y10))]) hx hb dL_areStems_105 hl (by decide) rfl (fun ls hl => ?_)
              refine lv_goto (tgt := 481) hx hb dL_areStems_107 (by decide) ?_
              exact h H _ ls hh (lv_sub hl [1, 2, 3, 4, 5, 6, 7, 0, 8, 9, 10] rfl)
            · have h := h.1 c25
              refine iv_iconst hx hb dL_areStems_100 ?_
              refine lv_goto (tgt := 105) hx hb dL_areStems_101 (by decide) ?_
              refine lv_istore (lv' := [(7, .int (hI 1)), (0, .ref (ad 11 0)), (1, .ref (ad 10 1)), (2, .ref (ad 10 3)), (3, .ref (ad 10 4)), (4, .ref (ad 10 5)), (5, .ref (ad 10 6)), (6, .ref (ad 10 7)), (8, .int (hI y8)), (9, .int (hI y9)), (10, .int (hI y10))]) hx hb dL_areStems_105 hl (by decide) rfl (fun ls hl => ?_)
              refine lv_goto (tgt := 481) hx hb dL_areStems_107 (by decide) ?_
              exact h H _ ls hh (lv_sub hl [1, 2, 3, 4, 5, 6, 7, 0, 8, 9, 10] rfl)
  have r110 : ∀ (y8 : Int) (y9 : Int) (y10 : Int) (S1 : hS), hIn y8 → hIn y9 → hIn y10 → ((∀ (g i : Nat) (k : Int), i < 100 → hIn (S1 g i k)) → (hAt D ad cI cJ cF p l e ({ frames := 7, cells := 0, slots := 0, locals := 169 } : Room) s m args below meth c (MQ below (hQx D ad cI cJ cF (q_L_areStems S)) args s 0 0 (hAd ad)) 15 119 [(0, .ref (ad 11 0)), (1, .ref (ad 10 1)), (2, .ref (ad 10 3)), (3, .ref (ad 10 4)), (4, .ref (ad 10 5)), (5, .ref (ad 10 6)), (6, .ref (ad 10 7)), (8, .int (hI y8)), (9, .int (hI y9)), (10, .int (hI y10)), (11, .int (hI 0)), (12, .int (hI 0)), (13, .int (hI 0))] S1)) → (hAt D ad cI cJ cF p l e ({ frames := 7, cells := 0, slots := 0, locals := 169 } : Room) s m args below meth c (MQ below (hQx D ad cI cJ cF (q_L_areStems S)) args s 0 0 (hAd ad)) 15 110 [(0, .ref (ad 11 0)), (1, .ref (ad 10 1)), (2, .ref (ad 10 3)), (3, .ref (ad 10 4)), (4, .ref (ad 10 5)), (5, .ref (ad 10 6)), (6, .ref (ad 10 7)), (8, .int (hI y8)), (9, .int (hI y9)), (10, .int (hI y10))] S1) := by
    intro y8 y9 y10 S1 h_y8 h_y9 h_y10 h H locs ls hh hl
    have h := h (fun g i k hi => hh.2.1 g i k hi)
    refine iv_iconst hx hb dL_areStems_110 ?_
    refine lv_istore (lv' := [(11, .int (hI 0)), (0, .ref (ad 11 0)), (1, .ref (ad 10 1)), (2, .ref (ad 10 3)), (3, .ref (ad 10 4)), (4, .ref (ad 10 5)), (5, .ref (ad 10 6)), (6, .ref (ad 10 7)), (8, .int (hI y8)), (9, .int (hI y9)), (10, .int (hI y10))]) hx hb dL_areStems_111 hl (by decide) rfl (fun ls hl => ?_)
    refine iv_iconst hx hb dL_areStems_113 ?_
    refine lv_istore (lv' := [(12, .int (hI 0)), (11, .int (hI 0)), (0, .ref (ad 11 0)), (1, .ref (ad 10 1)), (2, .ref (ad 10 3)), (3, .ref (ad 10 4)), (4, .ref (ad 10 5)), (5, .ref (ad 10 6)), (6, .ref (ad 10 7)), (8, .int (hI y8)), (9, .int (hI y9)), (10, .int (hI y10))]) hx hb dL_areStems_114 hl (by decide) rfl (fun ls hl => ?_)
    refine iv_iconst hx hb dL_areStems_116 ?_
    refine lv_istore (lv' := [(13, .int (hI 0)), (12, .int (hI 0)), (11, .int (hI 0)), (0, .ref (ad 11 0)), (1, .ref (ad 10 1)), (2, .ref (ad 10 3)), (3, .ref (ad 10 4)), (4, .ref (ad 10 5)), (5, .ref (ad 10 6)), (6, .ref (ad 10 7)), (8, .int (hI y8)), (9, .int (hI y9)), (10, .int (hI y10))]) hx hb dL_areStems_117 hl (by decide) rfl (fun ls hl => ?_)
    exact h H _ ls hh (lv_sub hl [3, 4, 5, 6, 7, 8, 9, 10, 11, 12, 2, 1, 0] rfl)
  have r119 : ∀ (y8 : Int) (y9 : Int) (y10 : Int) (y11 : Int) (y12 : Int) (y13 : Int) (S1 : hS), hIn y8 → hIn y9 → hIn y10 → hIn y11 → hIn y12 → hIn y13 → ((∀ (g i : Nat) (k : Int), i < 100 → hIn (S1 g i k)) → ((y13 < 48 → (0 ≤ y13 ∧ (hIn (y13 / 6) ∧ (((y13 / 6) < ((S1 10) 1 0) → ((0 ≤ (y13 / 6) ∧ (y13 / 6) < 8) ∧ (hIn (y13 % 6) ∧ (((y13 % 6) < ((S1 10) 3 (y13 / 6)) → (p_L_hinted (S1 0) (S1 10) y13 ∧ (p_L_hinted (S1 0) (S1 10) y10 ∧ (((v_L_hinted (S1 0) (S1 10) y13) = (v_L_hinted (S1 0) (S1 10) y10) → (hAt D ad cI cJ cF p l e ({ frames := 7, cells := 0, slots := 0, locals := 169 } : Room) s m args below meth c (MQ below (hQx D ad cI cJ cF (q_L_areStems S)) args s 0 0 (hAd ad)) 15 182 [(0, .ref (ad 11 0)), (1, .ref (ad 10 1)), (2, .ref (ad 10 3)), (3, .ref (ad 10 4)), (4, .ref (ad 10 5)), (5, .ref (ad 10 6)), (6, .ref (ad 10 7)), (8, .int (hI y8)), (9, .int (hI y9)), (10, .int (hI y10)), (11, .int (hI y11)), (12, .int (hI y12)), (13, .int (hI y13)), (14, .int (hI 1))] S1)) ∧ (¬ (v_L_hinted (S1 0) (S1 10) y13) = (v_L_hinted (S1 0) (S1 10) y10) → (hAt D ad cI cJ cF p l e ({ frames := 7, cells := 0, slots := 0, locals := 169 } : Room) s m args below meth c (MQ below (hQx D ad cI cJ cF (q_L_areStems S)) args s 0 0 (hAd ad)) 15 182 [(0, .ref (ad 11 0)), (1, .ref (ad 10 1)), (2, .ref (ad 10 3)), (3, .ref (ad 10 4)), (4, .ref (ad 10 5)), (5, .ref (ad 10 6)), (6, .ref (ad 10 7)), (8, .int (hI y8)), (9, .int (hI y9)), (10, .int (hI y10)), (11, .int (hI y11)), (12, .int (hI y12)), (13, .int (hI y13)), (14, .int (hI 0))] S1)))))) ∧ (¬ (y13 % 6) < ((S1 10) 3 (y13 / 6)) → (hAt D ad cI cJ cF p l e ({ frames := 7, cells := 0, slots := 0, locals := 169 } : Room) s m args below meth c (MQ below (hQx D ad cI cJ cF (q_L_areStems S)) args s 0 0 (hAd ad)) 15 182 [(0, .ref (ad 11 0)), (1, .ref (ad 10 1)), (2, .ref (ad 10 3)), (3, .ref (ad 10 4)), (4, .ref (ad 10 5)), (5, .ref (ad 10 6)), (6, .ref (ad 10 7)), (8, .int (hI y8)), (9, .int (hI y9)), (10, .int (hI y10)), (11, .int (hI y11)), (12, .int (hI y12)), (13, .int (hI y13)), (14, .int (hI 0))] S1)))))) ∧ (¬ (y13 / 6) < ((S1 10) 1 0) → (hAt D ad cI cJ cF p l e ({ frames := 7, cells := 0, slots := 0, locals := 169 } : Room) s m args below meth c (MQ below (hQx D ad cI cJ cF (q_L_areStems S)) args s 0 0 (hAd ad)) 15 182 [(0, .ref (ad 11 0)), (1, .ref (ad 10 1)), (2, .ref (ad 10 3)), (3, .ref (ad 10 4)), (4, .ref (ad 10 5)), (5, .ref (ad 10 6)), (6, .ref (ad 10 7)), (8, .int (hI y8)), (9, .int (hI y9)), (10, .int (hI y10)), (11, .int (hI y11)), (12, .int (hI y12)), (13, .int (hI y13)), (14, .int (hI 0))] S1)))))) ∧ (¬ y13 < 48 → (hAt D ad cI cJ cF p l e ({ frames := 7, cells := 0, slots := 0, locals := 169 } : Room) s m args below meth c (MQ below (hQx D ad cI cJ cF (q_L_areStems S)) args s 0 0 (hAd ad)) 15 225 [(0, .ref (ad 11 0)), (1, .ref (ad 10 1)), (2, .ref (ad 10 3)), (3, .ref (ad 10 4)), (4, .ref (ad 10 5)), (5, .ref (ad 10 6)), (6, .ref (ad 10 7)), (8, .int (hI y8)), (9, .int (hI y9)), (10, .int (hI y10)), (11, .int (hI y11)), (12, .int (hI y12))] S1)))) → (hAt D ad cI cJ cF p l e ({ frames := 7, cells := 0, slots := 0, locals := 169 } : Room) s m args below meth c (MQ below (hQx D ad cI cJ cF (q_L_areStems S)) args s 0 0 (hAd ad)) 15 119 [(0, .ref (ad 11 0)), (1, .ref (ad 10 1)), (2, .ref (ad 10 3)), (3, .ref (ad 10 4)), (4, .ref (ad 10 5)), (5, .ref (ad 10 6)), (6, .ref (ad 10 7)), (8, .int (hI y8)), (9, .int (hI y9)), (10, .int (hI y10)), (11, .int (hI y11)), (12, .int (hI y12)), (13, .int (hI y13))] S1) := by
    intro y8 y9 y10 y11 y12 y13 S1 h_y8 h_y9 h_y10 h_y11 h_y12 h_y13 h H locs ls hh hl
    have h := h (fun g i k hi => hh.2.1 g i k hi)
    refine lv_iload hx hb dL_areStems_119 (lv_at hl 12 rfl) ?_
    refine lv_bipush (v := hI 48) hx hb dL_areStems_121 (by decide) ?_
    refine iv_icmp_ge (tgt := 225) hx hb h_y13 ⟨by decide, by decide⟩ dL_areStems_123 (by decide) (fun c26 => ?_) (fun c26 => ?_)
    · have h := h.2 c26
      exact h H _ ls hh (lv_sub hl [0, 1, 2, 3, 4, 5, 6, 7, 8, 9, 10, 11] rfl)
    · have h := h.1 c26
      refine lv_iload hx hb dL_areStems_126 (lv_at hl 12 rfl) ?_
      refine lv_bipush (v := hI 6) hx hb dL_areStems_128 (by decide) ?_
      obtain ⟨g27, h⟩ := h
      refine iv_idiv hx hb h_y13 g27 ⟨by decide, by decide⟩ (by decide) dL_areStems_130 ?_
      refine lv_aload_n hx hb dL_areStems_131 rfl (lv_at hl 1 rfl) ?_
      refine iv_iconst hx hb dL_areStems_132 ?_
      refine iv_iald hx hb hK hh.1 ia_10_1 ⟨by decide, by decide⟩ (v := ((S1 10) 1 0)) rfl dL_areStems_133 ?_
      have hm28 : hIn ((S1 10) 1 0) := hIn_rd hh.2.1 rfl (by decide)
      obtain ⟨g29, h⟩ := h
      refine iv_icmp_ge (tgt := 179) hx hb g29 hm28 dL_areStems_134 (by decide) (fun c30 => ?_) (fun c30 => ?_)
      · have h := h.2 c30
        refine iv_iconst hx hb dL_areStems_179 ?_
        refine lv_istore (lv' := [(14, .int (hI 0)), (0, .ref (ad 11 0)), (1, .ref (ad 10 1)), (2, .ref (ad 10 3)), (3, .ref (ad 10 4)), (4, .ref (ad 10 5)), (5, .ref (ad 10 6)), (6, .ref (ad 10 7)), (8, .int (hI y8)), (9, .int (hI y9)), (10, .int (hI y10)), (11, .int (hI y11)), (12, .int (hI y12)), (13, .int (hI y13))]) hx hb dL_areStems_180 hl (by decide) rfl (fun ls hl => ?_)
        exact h H _ ls hh (lv_sub hl [1, 2, 3, 4, 5, 6, 7, 8, 9, 10, 11, 12, 13, 0] rfl)
      · have h := h.1 c30
        refine lv_iload hx hb dL_areStems_137 (lv_at hl 12 rfl) ?_
        refine lv_bipush (v := hI 6) hx hb dL_areStems_139 (by decide) ?_
        refine iv_irem hx hb h_y13 g27 ⟨by decide, by decide⟩ (by decide) dL_areStems_141 ?_
        refine lv_aload_n hx hb dL_areStems_142 rfl (lv_at hl 2 rfl) ?_
        refine lv_iload hx hb dL_areStems_143 (lv_at hl 12 rfl) ?_
        refine lv_bipush (v := hI 6) hx hb dL_areStems_145 (by decide) ?_
        refine iv_idiv hx hb h_y13 g27 ⟨by decide, by decide⟩ (by decide) dL_areStems_147 ?_
        obtain ⟨g31, h⟩ := h
        refine iv_iald hx hb hK hh.1 ia_10_3 g31 (v := ((S1 10) 3 (y13 / 6))) rfl dL_areStems_148 ?_
        have hm32 : hIn ((S1 10) 3 (y13 / 6)) := hIn_rd hh.2.1 rfl (by decide)
        obtain ⟨g33, h⟩ := h
        refine iv_icmp_ge (tgt := 179) hx hb g33 hm32 dL_areStems_149 (by decide) (fun c34 => ?_) (fun c34 => ?_)
        · have h := h.2 c34
          refine iv_iconst hx hb dL_areStems_179 ?_
          refine lv_istore (lv' := [(14, .int (hI 0)), (0, .ref (ad 11 0)), (1, .ref (ad 10 1)), (2, .ref (ad 10 3)), (3, .ref (ad 10 4)), (4, .ref (ad 10 5)), (5, .ref (ad 10 6)), (6, .ref (ad 10 7)), (8, .int (hI y8)), (9, .int (hI y9)), (10, .int (hI y10)), (11, .int (hI y11)), (12, .int (hI y12)), (13, .int (hI y13))]) hx hb dL_areStems_180 hl (by decide) rfl (fun ls hl => ?_)
          exact h H _ ls hh (lv_sub hl [1, 2, 3, 4, 5, 6, 7, 8, 9, 10, 11, 12, 13, 0] rfl)
        · have h := h.1 c34
          refine lv_aload_n hx hb dL_areStems_152 rfl (lv_at hl 1 rfl) ?_
          refine lv_aload hx hb dL_areStems_153 (lv_at hl 4 rfl) ?_
          refine lv_aload hx hb dL_areStems_155 (lv_at hl 6 rfl) ?_
          refine lv_iload hx hb dL_areStems_157 (lv_at hl 12 rfl) ?_
          obtain ⟨g35, h⟩ := h
          refine iv_ki (iv_rS (As := [.ref (ad 10 1), .ref (ad 10 5), .ref (ad 10 7), .int (hI y13)]) (rest := []) E hh (ok_L_hinted l hinj S1 (S1 0) (S1 10) rfl y13 h_y13 g35) cb_L_hinted q2_226 rfl rfl ⟨Nat.le_of_ble_eq_true rfl, Nat.le_of_ble_eq_true rfl⟩ rfl hl.1 rfl (Nat.le_of_ble_eq_true rfl) dL_areStems_159 ⟨Nat.zero_le _, Nat.zero_le _⟩) hh (fun hc36 H locs hh => ?_)
          refine lv_aload_n hx hb dL_areStems_162 rfl (lv_at hl 1 rfl) ?_
          refine lv_aload hx hb dL_areStems_163 (lv_at hl 4 rfl) ?_
          refine lv_aload hx hb dL_areStems_165 (lv_at hl 6 rfl) ?_
          refine lv_iload hx hb dL_areStems_167 (lv_at hl 9 rfl) ?_
          obtain ⟨g37, h⟩ := h
          refine iv_ki (iv_rS (As := [.ref (ad 10 1), .ref (ad 10 5), .ref (ad 10 7), .int (hI y10)]) (rest := [.int (hI (v_L_hinted (S1 0) (S1 10) y13))]) E hh (ok_L_hinted l hinj S1 (S1 0) (S1 10) rfl y10 h_y10 g37) cb_L_hinted q2_226 rfl rfl ⟨Nat.le_of_ble_eq_true rfl, Nat.le_of_ble_eq_true rfl⟩ rfl hl.1 rfl (Nat.le_of_ble_eq_true rfl) dL_areStems_169 ⟨Nat.zero_le _, Nat.zero_le _⟩) hh (fun hc38 H locs hh => ?_)
          refine iv_icmp_ne (tgt := 179) hx hb hc36 hc38 dL_areStems_172 (by decide) (fun c39 => ?_) (fun c39 => ?_)
          · have h := h.2 c39
            refine iv_iconst hx hb dL_areStems_179 ?_
            refine lv_istore (lv' := [(14, .int (hI 0)), (0, .ref (ad 11 0)), (1, .ref (ad 10 1)), (2, .ref (ad 10 3)), (3, .ref (ad 10 4)), (4, .ref (ad 10 5)), (5, .ref (ad 10 6)), (6, .ref (ad 10 7)), (8, .int (hI y8)), (9, .int (hI y9)), (10, .int (hI y10)), (11, .int (hI y11)), (12, .int (hI y12)), (13, .int (hI y13))]) hx hb dL_areStems_180 hl (by decide) rfl (fun ls hl => ?_)
            exact h H _ ls hh (lv_sub hl [1, 2, 3, 4, 5, 6, 7, 8, 9, 10, 11, 12, 13, 0] rfl)
          · have h := h.1 c39
            refine iv_iconst hx hb dL_areStems_175 ?_
            refine lv_goto (tgt := 180) hx hb dL_areStems_176 (by decide) ?_
            refine lv_istore (lv' := [(14, .int (hI 1)), (0, .ref (ad 11 0)), (1, .ref (ad 10 1)), (2, .ref (ad 10 3)), (3, .ref (ad 10 4)), (4, .ref (ad 10 5)), (5, .ref (ad 10 6)), (6, .ref (ad 10 7)), (8, .int (hI y8)), (9, .int (hI y9)), (10, .int (hI y10)), (11, .int (hI y11)), (12, .int (hI y12)), (13, .int (hI y13))]) hx hb dL_areStems_180 hl (by decide) rfl (fun ls hl => ?_)
            exact h H _ ls hh (lv_sub hl [1, 2, 3, 4, 5, 6, 7, 8, 9, 10, 11, 12, 13, 0] rfl)
  have r182 : ∀ (y8 : Int) (y9 : Int) (y10 : Int) (y11 : Int) (y12 : Int) (y13 : Int) (y14 : Int) (S1 : hS), hIn y8 → hIn y9 → hIn y10 → hIn y11 → hIn y12 → hIn y13 → hIn y14 → ((∀ (g i : Nat) (k : Int), i < 100 → hIn (S1 g i k)) → ((y14 = 0 → (hAt D ad cI cJ cF p l e ({ frames := 7, cells := 0, slots := 0, locals := 169 } : Room) s m args below meth c (MQ below (hQx D ad cI cJ cF (q_L_areStems S)) args s 0 0 (hAd ad)) 15 197 [(0, .ref (ad 11 0)), (1, .ref (ad 10 1)), (2, .ref (ad 10 3)), (3, .ref (ad 10 4)), (4, .ref (ad 10 5)), (5, .ref (ad 10 6)), (6, .ref (ad 10 7)), (8, .int (hI y8)), (9, .int (hI y9)), (10, .int (hI y10)), (11, .int (hI (y11 + 0))), (12, .int (hI y12)), (13, .int (hI y13)), (14, .int (hI y14))] S1)) ∧ (¬ y14 = 0 → (hAt D ad cI cJ cF p l e ({ frames := 7, cells := 0, slots := 0, locals := 169 } : Room) s m args below meth c (MQ below (hQx D ad cI cJ cF (q_L_areStems S)) args s 0 0 (hAd ad)) 15 197 [(0, .ref (ad 11 0)), (1, .ref (ad 10 1)), (2, .ref (ad 10 3)), (3, .ref (ad 10 4)), (4, .ref (ad 10 5)), (5, .ref (ad 10 6)), (6, .ref (ad 10 7)), (8, .int (hI y8)), (9, .int (hI y9)), (10, .int (hI y10)), (11, .int (hI (y11 + 1))), (12, .int (hI y12)), (13, .int (hI y13)), (14, .int (hI y14))] S1)))) → (hAt D ad cI cJ cF p l e ({ frames := 7, cells := 0, slots := 0, locals := 169 } : Room) s m args below meth c (MQ below (hQx D ad cI cJ cF (q_L_areStems S)) args s 0 0 (hAd ad)) 15 182 [(0, .ref (ad 11 0)), (1, .ref (ad 10 1)), (2, .ref (ad 10 3)), (3, .ref (ad 10 4)), (4, .ref (ad 10 5)), (5, .ref (ad 10 6)), (6, .ref (ad 10 7)), (8, .int (hI y8)), (9, .int (hI y9)), (10, .int (hI y10)), (11, .int (hI y11)), (12, .int (hI y12)), (13, .int (hI y13)), (14, .int (hI y14))] S1) := by
    intro y8 y9 y10 y11 y12 y13 y14 S1 h_y8 h_y9 h_y10 h_y11 h_y12 h_y13 h_y14 h H locs ls hh hl
    have h := h (fun g i k hi => hh.2.1 g i k hi)
    refine lv_iload hx hb dL_areStems_182 (lv_at hl 10 rfl) ?_
    refine lv_iload hx hb dL_areStems_184 (lv_at hl 13 rfl) ?_
    refine iv_if_eq (tgt := 193) hx hb h_y14 dL_areStems_186 (by decide) (fun c40 => ?_) (fun c40 => ?_)
    · have h := h.1 c40
      refine iv_iconst hx hb dL_areStems_193 ?_
      refine iv_iadd hx hb dL_areStems_194 ?_
      refine lv_istore (lv' := [(11, .int (hI (y11 + 0))), (0, .ref (ad 11 0)), (1, .ref (ad 10 1)), (2, .ref (ad 10 3)), (3, .ref (ad 10 4)), (4, .ref (ad 10 5)), (5, .ref (ad 10 6)), (6, .ref (ad 10 7)), (8, .int (hI y8)), (9, .int (hI y9)), (10, .int (hI y10)), (12, .int (hI y12)), (13, .int (hI y13)), (14, .int (hI y14))]) hx hb dL_areStems_195 hl (by decide) rfl (fun ls hl => ?_)
      exact h H _ ls hh (lv_sub hl [1, 2, 3, 4, 5, 6, 7, 8, 9, 10, 0, 11, 12, 13] rfl)
    · have h := h.2 c40
      refine iv_iconst hx hb dL_areStems_189 ?_
      refine lv_goto (tgt := 194) hx hb dL_areStems_190 (by decide) ?_
      refine iv_iadd hx hb dL_areStems_194 ?_
      refine lv_istore (lv' := [(11, .int (hI (y11 + 1))), (0, .ref (ad 11 0)), (1, .ref (ad 10 1)), (2, .ref (ad 10 3)), (3, .ref (ad 10 4)), (4, .ref (ad 10 5)), (5, .ref (ad 10 6)), (6, .ref (ad 10 7)), (8, .int (hI y8)), (9, .int (hI y9)), (10, .int (hI y10)), (12, .int (hI y12)), (13, .int (hI y13)), (14, .int (hI y14))]) hx hb dL_areStems_195 hl (by decide) rfl (fun ls hl => ?_)
      exact h H _ ls hh (lv_sub hl [1, 2, 3, 4, 5, 6, 7, 8, 9, 10, 0, 11, 12, 13] rfl)
  have r197 : ∀ (y8 : Int) (y9 : Int) (y10 : Int) (y11 : Int) (y12 : Int) (y13 : Int) (y14 : Int) (S1 : hS), hIn y8 → hIn y9 → hIn y10 → hIn y11 → hIn y12 → hIn y13 → hIn y14 → ((∀ (g i : Nat) (k : Int), i < 100 → hIn (S1 g i k)) → ((y14 = 0 → (hAt D ad cI cJ cF p l e ({ frames := 7, cells := 0, slots := 0, locals := 169 } : Room) s m args below meth c (MQ below (hQx D ad cI cJ cF (q_L_areStems S)) args s 0 0 (hAd ad)) 15 119 [(0, .ref (ad 11 0)), (1, .ref (ad 10 1)), (2, .ref (ad 10 3)), (3, .ref (ad 10 4)), (4, .ref (ad 10 5)), (5, .ref (ad 10 6)), (6, .ref (ad 10 7)), (8, .int (hI y8)), (9, .int (hI y9)), (10, .int (hI y10)), (11, .int (hI y11)), (12, .int (hI (y12 + 0))), (13, .int (hI (y13 + 1)))] S1)) ∧ (¬ y14 = 0 → ((y13 < y10 → (hAt D ad cI cJ cF p l e ({ frames := 7, cells := 0, slots := 0, locals := 169 } : Room) s m args below meth c (MQ below (hQx D ad cI cJ cF (q_L_areStems S)) args s 0 0 (hAd ad)) 15 119 [(0, .ref (ad 11 0)), (1, .ref (ad 10 1)), (2, .ref (ad 10 3)), (3, .ref (ad 10 4)), (4, .ref (ad 10 5)), (5, .ref (ad 10 6)), (6, .ref (ad 10 7)), (8, .int (hI y8)), (9, .int (hI y9)), (10, .int (hI y10)), (11, .int (hI y11)), (12, .int (hI (y12 + 1))), (13, .int (hI (y13 + 1)))] S1)) ∧ (¬ y13 < y10 → (hAt D ad cI cJ cF p l e ({ frames := 7, cells := 0, slots := 0, locals := 169 } : Room) s m args below meth c (MQ below (hQx D ad cI cJ cF (q_L_areStems S)) args s 0 0 (hAd ad)) 15 119 [(0, .ref (ad 11 0)), (1, .ref (ad 10 1)), (2, .ref (ad 10 3)), (3, .ref (ad 10 4)), (4, .ref (ad 10 5)), (5, .ref (ad 10 6)), (6, .ref (ad 10 7)), (8, .int (hI y8)), (9, .int (hI y9)), (10, .int (hI y10)), (11, .int (hI y11)), (12, .int (hI (y12 + 0))), (13, .int (hI (y13 + 1)))] S1)))))) → (hAt D ad cI cJ cF p l e ({ frames := 7, cells := 0, slots := 0, locals := 169 } : Room) s m args below meth c (MQ below (hQx D ad cI cJ cF (q_L_areStems S)) args s 0 0 (hAd ad)) 15 197 [(0, .ref (ad 11 0)), (1, .ref (ad 10 1)), (2, .ref (ad 10 3)), (3, .ref (ad 10 4)), (4, .ref (ad 10 5)), (5, .ref (ad 10 6)), (6, .ref (ad 10 7)), (8, .int (hI y8)), (9, .int (hI y9)), (10, .int (hI y10)), (11, .int (hI y11)), (12, .int (hI y12)), (13, .int (hI y13)), (14, .int (hI y14))] S1) := by
    intro y8 y9 y10 y11 y12 y13 y14 S1 h_y8 h_y9 h_y10 h_y11 h_y12 h_y13 h_y14 h H locs ls hh hl
    have h := h (fun g i k hi => hh.2.1 g i k hi)
    refine lv_iload hx hb dL_areStems_197 (lv_at hl 11 rfl) ?_
    refine lv_iload hx hb dL_areStems_199 (lv_at hl 13 rfl) ?_
    refine iv_if_eq (tgt := 215) hx hb h_y14 dL_areStems_201 (by decide) (fun c41 => ?_) (fun c41 => ?_)
    · have h := h.1 c41
      refine iv_iconst hx hb dL_areStems_215 ?_
      refine iv_iadd hx hb dL_areStems_216 ?_
      refine lv_istore (lv' := [(12, .int (hI (y12 + 0))), (0, .ref (ad 11 0)), (1, .ref (ad 10 1)), (2, .ref (ad 10 3)), (3, .ref (ad 10 4)), (4, .ref (ad 10 5)), (5, .ref (ad 10 6)), (6, .ref (ad 10 7)), (8, .int (hI y8)), (9, .int (hI y9)), (10, .int (hI y10)), (11, .int (hI y11)), (13, .int (hI y13)), (14, .int (hI y14))]) hx hb dL_areStems_217 hl (by decide) rfl (fun ls hl => ?_)
      refine iv_iinc (lv' := [(13, .int (hI (y13 + 1))), (12, .int (hI (y12 + 0))), (0, .ref (ad 11 0)), (1, .ref (ad 10 1)), (2, .ref (ad 10 3)), (3, .ref (ad 10 4)), (4, .ref (ad 10 5)), (5, .ref (ad 10 6)), (6, .ref (ad 10 7)), (8, .int (hI y8)), (9, .int (hI y9)), (10, .int (hI y10)), (11, .int (hI y11)), (14, .int (hI y14))]) hx hb dL_areStems_219 hl (k := 12) rfl (v := (y13 + 1)) rfl (by decide) rfl (fun ls hl => ?_)
      refine lv_goto (tgt := 119) hx hb dL_areStems_222 (by decide) ?_
      exact h H _ ls hh (lv_sub hl [2, 3, 4, 5, 6, 7, 8, 9, 10, 11, 12, 1, 0] rfl)
    · have h := h.2 c41
      refine lv_iload hx hb dL_areStems_204 (lv_at hl 12 rfl) ?_
      refine lv_iload hx hb dL_areStems_206 (lv_at hl 9 rfl) ?_
      refine iv_icmp_ge (tgt := 215) hx hb h_y13 h_y10 dL_areStems_208 (by decide) (fun c42 => ?_) (fun c42 => ?_)
      · have h := h.2 c42
        refine iv_iconst hx hb dL_areStems_215 ?_
        refine iv_iadd hx hb dL_areStems_216 ?_
        refine lv_istore (lv' := [(12, .int (hI (y12 + 0))), (0, .ref (ad 11 0)), (1, .ref (ad 10 1)), (2, .ref (ad 10 3)), (3, .ref (ad 10 4)), (4, .ref (ad 10 5)), (5, .ref (ad 10 6)), (6, .ref (ad 10 7)), (8, .int (hI y8)), (9, .int (hI y9)), (10, .int (hI y10)), (11, .int (hI y11)), (13, .int (hI y13)), (14, .int (hI y14))]) hx hb dL_areStems_217 hl (by decide) rfl (fun ls hl => ?_)
        refine iv_iinc (lv' := [(13, .int (hI (y13 + 1))), (12, .int (hI (y12 + 0))), (0, .ref (ad 11 0)), (1, .ref (ad 10 1)), (2, .ref (ad 10 3)), (3, .ref (ad 10 4)), (4, .ref (ad 10 5)), (5, .ref (ad 10 6)), (6, .ref (ad 10 7)), (8, .int (hI y8)), (9, .int (hI y9)), (10, .int (hI y10)), (11, .int (hI y11)), (14, .int (hI y14))]) hx hb dL_areStems_219 hl (k := 12) rfl (v := (y13 + 1)) rfl (by decide) rfl (fun ls hl => ?_)
        refine lv_goto (tgt := 119) hx hb dL_areStems_222 (by decide) ?_
        exact h H _ ls hh (lv_sub hl [2, 3, 4, 5, 6, 7, 8, 9, 10, 11, 12, 1, 0] rfl)
      · have h := h.1 c42
        refine iv_iconst hx hb dL_areStems_211 ?_
        refine lv_goto (tgt := 216) hx hb dL_areStems_212 (by decide) ?_
        refine iv_iadd hx hb dL_areStems_216 ?_
        refine lv_istore (lv' := [(12, .int (hI (y12 + 1))), (0, .ref (ad 11 0)), (1, .ref (ad 10 1)), (2, .ref (ad 10 3)), (3, .ref (ad 10 4)), (4, .ref (ad 10 5)), (5, .ref (ad 10 6)), (6, .ref (ad 10 7)), (8, .int (hI y8)), (9, .int (hI y9)), (10, .int (hI y10)), (11, .int (hI y11)), (13, .int (hI y13)), (14, .int (hI y14))]) hx hb dL_areStems_217 hl (by decide) rfl (fun ls hl => ?_)
        refine iv_iinc (lv' := [(13, .int (hI (y13 + 1))), (12, .int (hI (y12 + 1))), (0, .ref (ad 11 0)), (1, .ref (ad 10 1)), (2, .ref (ad 10 3)), (3, .ref (ad 10 4)), (4, .ref (ad 10 5)), (5, .ref (ad 10 6)), (6, .ref (ad 10 7)), (8, .int (hI y8)), (9, .int (hI y9)), (10, .int (hI y10)), (11, .int (hI y11)), (14, .int (hI y14))]) hx hb dL_areStems_219 hl (k := 12) rfl (v := (y13 + 1)) rfl (by decide) rfl (fun ls hl => ?_)
        refine lv_goto (tgt := 119) hx hb dL_areStems_222 (by decide) ?_
        exact h H _ ls hh (lv_sub hl [2, 3, 4, 5, 6, 7, 8, 9, 10, 11, 12, 1, 0] rfl)
  have r225 : ∀ (y8 : Int) (y9 : Int) (y10 : Int) (y11 : Int) (y12 : Int) (S1 : hS), hIn y8 → hIn y9 → hIn y10 → hIn y11 → hIn y12 → ((∀ (g i : Nat) (k : Int), i < 100 → hIn (S1 g i k)) → ((y12 = 0 → ((0 ≤ y10 ∧ y10 < 49) ∧ (p_L_snap (S1 0) (S1 10) ((S1 10) 5 y10) ∧ (hAt D ad cI cJ cF p l e ({ frames := 7, cells := 0, slots := 0, locals := 169 } : Room) s m args below meth c (MQ below (hQx D ad cI cJ cF (q_L_areStems S)) args s 0 0 (hAd ad)) 15 256 [(0, .ref (ad 11 0)), (1, .ref (ad 10 1)), (2, .ref (ad 10 3)), (3, .ref (ad 10 4)), (4, .ref (ad 10 5)), (5, .ref (ad 10 6)), (6, .ref (ad 10 7)), (8, .int (hI (y8 + 1))), (9, .int (hI (y9 + 1))), (10, .int (hI y10)), (11, .int (hI y11)), (13, .int (hI (v_L_snap (S1 0) (S1 10) ((S1 10) 5 y10))))] S1)))) ∧ (¬ y12 = 0 → ((0 ≤ y10 ∧ y10 < 49) ∧ (p_L_snap (S1 0) (S1 10) ((S1 10) 5 y10) ∧ (hAt D ad cI cJ cF p l e ({ frames := 7, cells := 0, slots := 0, locals := 169 } : Room) s m args below meth c (MQ below (hQx D ad cI cJ cF (q_L_areStems S)) args s 0 0 (hAd ad)) 15 256 [(0, .ref (ad 11 0)), (1, .ref (ad 10 1)), (2, .ref (ad 10 3)), (3, .ref (ad 10 4)), (4, .ref (ad 10 5)), (5, .ref (ad 10 6)), (6, .ref (ad 10 7)), (8, .int (hI (y8 + 1))), (9, .int (hI (y9 + 0))), (10, .int (hI y10)), (11, .int (hI y11)), (13, .int (hI (v_L_snap (S1 0) (S1 10) ((S1 10) 5 y10))))] S1)))))) → (hAt D ad cI cJ cF p l e ({ frames := 7, cells := 0, slots := 0, locals := 169 } : Room) s m args below meth c (MQ below (hQx D ad cI cJ cF (q_L_areStems S)) args s 0 0 (hAd ad)) 15 225 [(0, .ref (ad 11 0)), (1, .ref (ad 10 1)), (2, .ref (ad 10 3)), (3, .ref (ad 10 4)), (4, .ref (ad 10 5)), (5, .ref (ad 10 6)), (6, .ref (ad 10 7)), (8, .int (hI y8)), (9, .int (hI y9)), (10, .int (hI y10)), (11, .int (hI y11)), (12, .int (hI y12))] S1) := by
    intro y8 y9 y10 y11 y12 S1 h_y8 h_y9 h_y10 h_y11 h_y12 h H locs ls hh hl
    have h := h (fun g i k hi => hh.2.1 g i k hi)
    refine iv_iinc (lv' := [(8, .int (hI (y8 + 1))), (0, .ref (ad 11 0)), (1, .ref (ad 10 1)), (2, .ref (ad 10 3)), (3, .ref (ad 10 4)), (4, .ref (ad 10 5)), (5, .ref (ad 10 6)), (6, .ref (ad 10 7)), (9, .int (hI y9)), (10, .int (hI y10)), (11, .int (hI y11)), (12, .int (hI y12))]) hx hb dL_areStems_225 hl (k := 7) rfl (v := (y8 + 1)) rfl (by decide) rfl (fun ls hl => ?_)
    refine lv_iload hx hb dL_areStems_228 (lv_at hl 8 rfl) ?_
    refine lv_iload hx hb dL_areStems_230 (lv_at hl 11 rfl) ?_
    refine iv_if_ne (tgt := 239) hx hb h_y12 dL_areStems_232 (by decide) (fun c43 => ?_) (fun c43 => ?_)
    · have h := h.2 c43
      refine iv_iconst hx hb dL_areStems_239 ?_
      refine iv_iadd hx hb dL_areStems_240 ?_
      refine lv_istore (lv' := [(9, .int (hI (y9 + 0))), (8, .int (hI (y8 + 1))), (0, .ref (ad 11 0)), (1, .ref (ad 10 1)), (2, .ref (ad 10 3)), (3, .ref (ad 10 4)), (4, .ref (ad 10 5)), (5, .ref (ad 10 6)), (6, .ref (ad 10 7)), (10, .int (hI y10)), (11, .int (hI y11)), (12, .int (hI y12))]) hx hb dL_areStems_241 hl (by decide) rfl (fun ls hl => ?_)
      refine lv_aload_n hx hb dL_areStems_243 rfl (lv_at hl 3 rfl) ?_
      refine lv_aload hx hb dL_areStems_244 (lv_at hl 8 rfl) ?_
      refine lv_aload hx hb dL_areStems_246 (lv_at hl 6 rfl) ?_
      refine lv_iload hx hb dL_areStems_248 (lv_at hl 9 rfl) ?_
      obtain ⟨g44, h⟩ := h
      refine iv_iald hx hb hK hh.1 ia_10_5 g44 (v := ((S1 10) 5 y10)) rfl dL_areStems_250 ?_
      have hm45 : hIn ((S1 10) 5 y10) := hIn_rd hh.2.1 rfl (by decide)
      obtain ⟨g46, h⟩ := h
      refine iv_ki (iv_rS (As := [.ref (ad 10 1), .ref (ad 10 7), .int (hI ((S1 10) 5 y10))]) (rest := []) E hh (ok_L_snap l hinj S1 (S1 0) (S1 10) rfl ((S1 10) 5 y10) hm45 g46) cb_L_snap q2_194 rfl rfl ⟨Nat.le_of_ble_eq_true rfl, Nat.le_of_ble_eq_true rfl⟩ rfl hl.1 rfl (Nat.le_of_ble_eq_true rfl) dL_areStems_251 ⟨Nat.zero_le _, Nat.zero_le _⟩) hh (fun hc47 H locs hh => ?_)
      refine lv_istore (lv' := [(13, .int (hI (v_L_snap (S1 0) (S1 10) ((S1 10) 5 y10)))), (9, .int (hI (y9 + 0))), (8, .int (hI (y8 + 1))), (0, .ref (ad 11 0)), (1, .ref (ad 10 1)), (2, .ref (ad 10 3)), (3, .ref (ad 10 4)), (4, .ref (ad 10 5)), (5, .ref (ad 10 6)), (6, .ref (ad 10 7)), (10, .int (hI y10)), (11, .int (hI y11)), (12, .int (hI y12))]) hx hb dL_areStems_254 hl (by decide) rfl (fun ls hl => ?_)
      exact h H _ ls hh (lv_sub hl [3, 4, 5, 6, 7, 8, 9, 2, 1, 10, 11, 0] rfl)
    · have h := h.1 c43
      refine iv_iconst hx hb dL_areStems_235 ?_
      refine lv_goto (tgt := 240) hx hb dL_areStems_236 (by decide) ?_
      refine iv_iadd hx hb dL_areStems_240 ?_
      refine lv_istore (lv' := [(9, .int (hI (y9 + 1))), (8, .int (hI (y8 + 1))), (0, .ref (ad 11 0)), (1, .ref (ad 10 1)), (2, .ref (ad 10 3)), (3, .ref (ad 10 4)), (4, .ref (ad 10 5)), (5, .ref (ad 10 6)), (6, .ref (ad 10 7)), (10, .int (hI y10)), (11, .int (hI y11)), (12, .int (hI y12))]) hx hb dL_areStems_241 hl (by decide) rfl (fun ls hl => ?_)
      refine lv_aload_n hx hb dL_areStems_243 rfl (lv_at hl 3 rfl) ?_
      refine lv_aload hx hb dL_areStems_244 (lv_at hl 8 rfl) ?_
      refine lv_aload hx hb dL_areStems_246 (lv_at hl 6 rfl) ?_
      refine lv_iload hx hb dL_areStems_248 (lv_at hl 9 rfl) ?_
      obtain ⟨g48, h⟩ := h
      refine iv_iald hx hb hK hh.1 ia_10_5 g48 (v := ((S1 10) 5 y10)) rfl dL_areStems_250 ?_
      have hm49 : hIn ((S1 10) 5 y10) := hIn_rd hh.2.1 rfl (by decide)
      obtain ⟨g50, h⟩ := h
      refine iv_ki (iv_rS (As := [.ref (ad 10 1), .ref (ad 10 7), .int (hI ((S1 10) 5 y10))]) (rest := []) E hh (ok_L_snap l hinj S1 (S1 0) (S1 10) rfl ((S1 10) 5 y10) hm49 g50) cb_L_snap q2_194 rfl rfl ⟨Nat.le_of_ble_eq_true rfl, Nat.le_of_ble_eq_true rfl⟩ rfl hl.1 rfl (Nat.le_of_ble_eq_true rfl) dL_areStems_251 ⟨Nat.zero_le _, Nat.zero_le _⟩) hh (fun hc51 H locs hh => ?_)
      refine lv_istore (lv' := [(13, .int (hI (v_L_snap (S1 0) (S1 10) ((S1 10) 5 y10)))), (9, .int (hI (y9 + 1))), (8, .int (hI (y8 + 1))), (0, .ref (ad 11 0)), (1, .ref (ad 10 1)), (2, .ref (ad 10 3)), (3, .ref (ad 10 4)), (4, .ref (ad 10 5)), (5, .ref (ad 10 6)), (6, .ref (ad 10 7)), (10, .int (hI y10)), (11, .int (hI y11)), (12, .int (hI y12))]) hx hb dL_areStems_254 hl (by decide) rfl (fun ls hl => ?_)
      exact h H _ ls hh (lv_sub hl [3, 4, 5, 6, 7, 8, 9, 2, 1, 10, 11, 0] rfl)
  have r256 : ∀ (y8 : Int) (y9 : Int) (y10 : Int) (y11 : Int) (y13 : Int) (S1 : hS), hIn y8 → hIn y9 → hIn y10 → hIn y11 → hIn y13 → ((∀ (g i : Nat) (k : Int), i < 100 → hIn (S1 g i k)) → (0 ≤ y10 ∧ (hIn (y10 / 6) ∧ (hIn (y10 % 6) ∧ (p_X5_stemOf S1 (y10 / 6) (y10 % 6) 0 ∧ ((0 ≤ y10 ∧ y10 < 49) ∧ (((v_X5_stemOf S1 (y10 / 6) (y10 % 6) 0) = ((S1 10) 4 y10) → (p_X5_stemOf S1 (y10 / 6) (y10 % 6) 1 ∧ (((v_X5_stemOf S1 (y10 / 6) (y10 % 6) 1) = ((S1 10) 5 y10) → (p_X5_stemOf S1 (y10 / 6) (y10 % 6) 2 ∧ (((v_X5_stemOf S1 (y10 / 6) (y10 % 6) 2) = ((S1 10) 6 y10) → (p_X5_stemOf S1 (y10 / 6) (y10 % 6) 3 ∧ (p_L_hinted (S1 0) (S1 10) y10 ∧ (((v_X5_stemOf S1 (y10 / 6) (y10 % 6) 3) = (v_L_hinted (S1 0) (S1 10) y10) → (p_X5_stemOf S1 (y10 / 6) (y10 % 6) 4 ∧ ((y13 = 0 → (((v_X5_stemOf S1 (y10 / 6) (y10 % 6) 4) = (-1000004) → (p_X5_stemOf S1 (y10 / 6) (y10 % 6) 5 ∧ (((v_X5_stemOf S1 (y10 / 6) (y10 % 6) 5) = y11 → (p_X5_stemOf S1 (y10 / 6) (y10 % 6) 6 ∧ (((y10 % 6) = 0 → (((v_X5_stemOf S1 (y10 / 6) (y10 % 6) 6) = (-1000004) → (p_X5_stemOf S1 (y10 / 6) (y10 % 6) 7 ∧ (((v_X5_stemOf S1 (y10 / 6) (y10 % 6) 7) = (-1000001) → (hAt D ad cI cJ cF p l e ({ frames := 7, cells := 0, slots := 0, locals := 169 } : Room) s m args below meth c (MQ below (hQx D ad cI cJ cF (q_L_areStems S)) args s 0 0 (hAd ad)) 15 481 [(0, .ref (ad 11 0)), (1, .ref (ad 10 1)), (2, .ref (ad 10 3)), (3, .ref (ad 10 4)), (4, .ref (ad 10 5)), (5, .ref (ad 10 6)), (6, .ref (ad 10 7)), (7, .int (hI 1)), (8, .int (hI y8)), (9, .int (hI y9)), (10, .int (hI y10))] S1)) ∧ (¬ (v_X5_stemOf S1 (y10 / 6) (y10 % 6) 7) = (-1000001) → (hAt D ad cI cJ cF p l e ({ frames := 7, cells := 0, slots := 0, locals := 169 } : Room) s m args below meth c (MQ below (hQx D ad cI cJ cF (q_L_areStems S)) args s 0 0 (hAd ad)) 15 481 [(0, .ref (ad 11 0)), (1, .ref (ad 10 1)), (2, .ref (ad 10 3)), (3, .ref (ad 10 4)), (4, .ref (ad 10 5)), (5, .ref (ad 10 6)), (6, .ref (ad 10 7)), (7, .int (hI 0)), (8, .int (hI y8)), (9, .int (hI y9)), (10, .int (hI y10))] S1))))) ∧ (¬ (v_X5_stemOf S1 (y10 / 6) (y10 % 6) 6) = (-1000004) → (hAt D ad cI cJ cF p l e ({ frames := 7, cells := 0, slots := 0, locals := 169 } : Room) s m args below meth c (MQ below (hQx D ad cI cJ cF (q_L_areStems S)) args s 0 0 (hAd ad)) 15 481 [(0, .ref (ad 11 0)), (1, .ref (ad 10 1)), (2, .ref (ad 10 3)), (3, .ref (ad 10 4)), (4, .ref (ad 10 5)), (5, .ref (ad 10 6)), (6, .ref (ad 10 7)), (7, .int (hI 0)), (8, .int (hI y8)), (9, .int (hI y9)), (10, .int (hI y10))] S1)))) ∧ (¬ (y10 % 6) = 0 → ((0 ≤ (y10 - 1) ∧ (y10 - 1) < 49) ∧ (hIn ((((S1 10) 4 y10) - ((S1 10) 4 (y10 - 1))) - ((S1 10) 5 (y10 - 1))) ∧ (((v_X5_stemOf S1 (y10 / 6) (y10 % 6) 6) = ((((S1 10) 4 y10) - ((S1 10) 4 (y10 - 1))) - ((S1 10) 5 (y10 - 1))) → (p_X5_stemOf S1 (y10 / 6) (y10 % 6) 7 ∧ (((v_X5_stemOf S1 (y10 / 6) (y10 % 6) 7) = (-1000001) → (hAt D ad cI cJ cF p l e ({ frames := 7, cells := 0, slots := 0, locals := 169 } : Room) s m args below meth c (MQ below (hQx D ad cI cJ cF (q_L_areStems S)) args s 0 0 (hAd ad)) 15 481 [(0, .ref (ad 11 0)), (1, .ref (ad 10 1)), (2, .ref (ad 10 3)), (3, .ref (ad 10 4)), (4, .ref (ad 10 5)), (5, .ref (ad 10 6)), (6, .ref (ad 10 7)), (7, .int (hI 1)), (8, .int (hI y8)), (9, .int (hI y9)), (10, .int (hI y10))] S1)) ∧ (¬ (v_X5_stemOf S1 (y10 / 6) (y10 % 6) 7) = (-1000001) → (hAt D ad cI cJ cF p l e ({ frames := 7, cells := 0, slots := 0, locals := 169 } : Room) s m args below meth c (MQ below (hQx D ad cI cJ cF (q_L_areStems S)) args s 0 0 (hAd ad)) 15 481 [(0, .ref (ad 11 0)), (1, .ref (ad 10 1)), (2, .ref (ad 10 3)), (3, .ref (ad 10 4)), (4, .ref (ad 10 5)), (5, .ref (ad 10 6)), (6, .ref (ad 10 7)), (7, .int (hI 0)), (8, .int (hI y8)), (9, .int (hI y9)), (10, .int (hI y10))] S1))))) ∧ (¬ (v_X5_stemOf S1 (y10 / 6) (y10 % 6) 6) = ((((S1 10) 4 y10) - ((S1 10) 4 (y10 - 1))) - ((S1 10) 5 (y10 - 1))) → (hAt D ad cI cJ cF p l e ({ frames := 7, cells := 0, slots := 0, locals := 169 } : Room) s m args below meth c (MQ below (hQx D ad cI cJ cF (q_L_areStems S)) args s 0 0 (hAd ad)) 15 481 [(0, .ref (ad 11 0)), (1, .ref (ad 10 1)), (2, .ref (ad 10 3)), (3, .ref (ad 10 4)), (4, .ref (ad 10 5)), (5, .ref (ad 10 6)), (6, .ref (ad 10 7)), (7, .int (hI 0)), (8, .int (hI y8)), (9, .int (hI y9)), (10, .int (hI y10))] S1))))))))) ∧ (¬ (v_X5_stemOf S1 (y10 / 6) (y10 % 6) 5) = y11 → (hAt D ad cI cJ cF p l e ({ frames := 7, cells := 0, slots := 0, locals := 169 } : Room) s m args below meth c (MQ below (hQx D ad cI cJ cF (q_L_areStems S)) args s 0 0 (hAd ad)) 15 481 [(0, .ref (ad 11 0)), (1, .ref (ad 10 1)), (2, .ref (ad 10 3)), (3, .ref (ad 10 4)), (4, .ref (ad 10 5)), (5, .ref (ad 10 6)), (6, .ref (ad 10 7)), (7, .int (hI 0)), (8, .int (hI y8)), (9, .int (hI y9)), (10, .int (hI y10))] S1))))) ∧ (¬ (v_X5_stemOf S1 (y10 / 6) (y10 % 6) 4) = (-1000004) → (hAt D ad cI cJ cF p l e ({ frames := 7, cells := 0, slots := 0, locals := 169 } : Room) s m args below meth c (MQ below (hQx D ad cI cJ cF (q_L_areStems S)) args s 0 0 (hAd ad)) 15 481 [(0, .ref (ad 11 0)), (1, .ref (ad 10 1)), (2, .ref (ad 10 3)), (3, .ref (ad 10 4)), (4, .ref (ad 10 5)), (5, .ref (ad 10 6)), (6, .ref (ad 10 7)), (7, .int (hI 0)), (8, .int (hI y8)), (9, .int (hI y9)), (10, .int (hI y10))] S1)))) ∧ (¬ y13 = 0 → (((v_X5_stemOf S1 (y10 / 6) (y10 % 6) 4) = y13 → (p_X5_stemOf S1 (y10 / 6) (y10 % 6) 5 ∧ (((v_X5_stemOf S1 (y10 / 6) (y10 % 6) 5) = y11 → (p_X5_stemOf S1 (y10 / 6) (y10 % 6) 6 ∧ (((y10 % 6) = 0 → (((v_X5_stemOf S1 (y10 / 6) (y10 % 6) 6) = (-1000004) → (p_X5_stemOf S1 (y10 / 6) (y10 % 6) 7 ∧ (((v_X5_stemOf S1 (y10 / 6) (y10 % 6) 7) = (-1000001) → (hAt D ad cI cJ cF p l e ({ frames := 7, cells := 0, slots := 0, locals := 169 } : Room) s m args below meth c (MQ below (hQx D ad cI cJ cF (q_L_areStems S)) args s 0 0 (hAd ad)) 15 481 [(0, .ref (ad 11 0)), (1, .ref (ad 10 1)), (2, .ref (ad 10 3)), (3, .ref (ad 10 4)), (4, .ref (ad 10 5)), (5, .ref (ad 10 6)), (6, .ref (ad 10 7)), (7, .int (hI 1)), (8, .int (hI y8)), (9, .int (hI y9)), (10, .int (hI y10))] S1)) ∧ (¬ (v_X5_stemOf S1 (y10 / 6) (y10 % 6) 7) = (-1000001) → (hAt D ad cI cJ cF p l e ({ frames := 7, cells := 0, slots := 0, locals := 169 } : Room) s m args below meth c (MQ below (hQx D ad cI cJ cF (q_L_areStems S)) args s 0 0 (hAd ad)) 15 481 [(0, .ref (ad 11 0)), (1, .ref (ad 10 1)), (2, .ref (ad 10 3)), (3, .ref (ad 10 4)), (4, .ref (ad 10 5)), (5, .ref (ad 10 6)), (6, .ref (ad 10 7)), (7, .int (hI 0)), (8, .int (hI y8)), (9, .int (hI y9)), (10, .int (hI y10))] S1))))) ∧ (¬ (v_X5_stemOf S1 (y10 / 6) (y10 % 6) 6) = (-1000004) → (hAt D ad cI cJ cF p l e ({ frames := 7, cells := 0, slots := 0, locals := 169 } : Room) s m args below meth c (MQ below (hQx D ad cI cJ cF (q_L_areStems S)) args s 0 0 (hAd ad)) 15 481 [(0, .ref (ad 11 0)), (1, .ref (ad 10 1)), (2, .ref (ad 10 3)), (3, .ref (ad 10 4)), (4, .ref (ad 10 5)), (5, .ref (ad 10 6)), (6, .ref (ad 10 7)), (7, .int (hI 0)), (8, .int (hI y8)), (9, .int (hI y9)), (10, .int (hI y10))] S1)))) ∧ (¬ (y10 % 6) = 0 → ((0 ≤ (y10 - 1) ∧ (y10 - 1) < 49) ∧ (hIn ((((S1 10) 4 y10) - ((S1 10) 4 (y10 - 1))) - ((S1 10) 5 (y10 - 1))) ∧ (((v_X5_stemOf S1 (y10 / 6) (y10 % 6) 6) = ((((S1 10) 4 y10) - ((S1 10) 4 (y10 - 1))) - ((S1 10) 5 (y10 - 1))) → (p_X5_stemOf S1 (y10 / 6) (y10 % 6) 7 ∧ (((v_X5_stemOf S1 (y10 / 6) (y10 % 6) 7) = (-1000001) → (hAt D ad cI cJ cF p l e ({ frames := 7, cells := 0, slots := 0, locals := 169 } : Room) s m args below meth c (MQ below (hQx D ad cI cJ cF (q_L_areStems S)) args s 0 0 (hAd ad)) 15 481 [(0, .ref (ad 11 0)), (1, .ref (ad 10 1)), (2, .ref (ad 10 3)), (3, .ref (ad 10 4)), (4, .ref (ad 10 5)), (5, .ref (ad 10 6)), (6, .ref (ad 10 7)), (7, .int (hI 1)), (8, .int (hI y8)), (9, .int (hI y9)), (10, .int (hI y10))] S1)) ∧ (¬ (v_X5_stemOf S1 (y10 / 6) (y10 % 6) 7) = (-1000001) → (hAt D ad cI cJ cF p l e ({ frames := 7, cells := 0, slots := 0, locals := 169 } : Room) s m args below meth c (MQ below (hQx D ad cI cJ cF (q_L_areStems S)) args s 0 0 (hAd ad)) 15 481 [(0, .ref (ad 11 0)), (1, .ref (ad 10 1)), (2, .ref (ad 10 3)), (3, .ref (ad 10 4)), (4, .ref (ad 10 5)), (5, .ref (ad 10 6)), (6, .ref (ad 10 7)), (7, .int (hI 0)), (8, .int (hI y8)), (9, .int (hI y9)), (10, .int (hI y10))] S1))))) ∧ (¬ (v_X5_stemOf S1 (y10 / 6) (y10 % 6) 6) = ((((S1 10) 4 y10) - ((S1 10) 4 (y10 - 1))) - ((S1 10) 5 (y10 - 1))) → (hAt D ad cI cJ cF p l e ({ frames := 7, cells := 0, slots := 0, locals := 169 } : Room) s m args below meth c (MQ below (hQx D ad cI cJ cF (q_L_areStems S)) args s 0 0 (hAd ad)) 15 481 [(0, .ref (ad 11 0)), (1, .ref (ad 10 1)), (2, .ref (ad 10 3)), (3, .ref (ad 10 4)), (4, .ref (ad 10 5)), (5, .ref (ad 10 6)), (6, .ref (ad 10 7)), (7, .int (hI 0)), (8, .int (hI y8)), (9, .int (hI y9)), (10, .int (hI y10))] S1))))))))) ∧ (¬ (v_X5_stemOf S1 (y10 / 6) (y10 % 6) 5) = y11 → (hAt D ad cI cJ cF p l e ({ frames := 7, cells := 0, slots := 0, locals := 169 } : Room) s m args below meth c (MQ below (hQx D ad cI cJ cF (q_L_areStems S)) args s 0 0 (hAd ad)) 15 481 [(0, .ref (ad 11 0)), (1, .ref (ad 10 1)), (2, .ref (ad 10 3)), (3, .ref (ad 10 4)), (4, .ref (ad 10 5)), (5, .ref (ad 10 6)), (6, .ref (ad 10 7)), (7, .int (hI 0)), (8, .int (hI y8)), (9, .int (hI y9)), (10, .int (hI y10))] S1))))) ∧ (¬ (v_X5_stemOf S1 (y10 / 6) (y10 % 6) 4) = y13 → (hAt D ad cI cJ cF p l e ({ frames := 7, cells := 0, slots := 0, locals := 169 } : Room) s m args below meth c (MQ below (hQx D ad cI cJ cF (q_L_areStems S)) args s 0 0 (hAd ad)) 15 481 [(0, .ref (ad 11 0)), (1, .ref (ad 10 1)), (2, .ref (ad 10 3)), (3, .ref (ad 10 4)), (4, .ref (ad 10 5)), (5, .ref (ad 10 6)), (6, .ref (ad 10 7)), (7, .int (hI 0)), (8, .int (hI y8)), (9, .int (hI y9)), (10, .int (hI y10))] S1))))))) ∧ (¬ (v_X5_stemOf S1 (y10 / 6) (y10 % 6) 3) = (v_L_hinted (S1 0) (S1 10) y10) → (hAt D ad cI cJ cF p l e ({ frames := 7, cells := 0, slots := 0, locals := 169 } : Room) s m args below meth c (MQ below (hQx D ad cI cJ cF (q_L_areStems S)) args s 0 0 (hAd ad)) 15 481 [(0, .ref (ad 11 0)), (1, .ref (ad 10 1)), (2, .ref (ad 10 3)), (3, .ref (ad 10 4)), (4, .ref (ad 10 5)), (5, .ref (ad 10 6)), (6, .ref (ad 10 7)), (7, .int (hI 0)), (8, .int (hI y8)), (9, .int (hI y9)), (10, .int (hI y10))] S1)))))) ∧ (¬ (v_X5_stemOf S1 (y10 / 6) (y10 % 6) 2) = ((S1 10) 6 y10) → (hAt D ad cI cJ cF p l e ({ frames := 7, cells := 0, slots := 0, locals := 169 } : Room) s m args below meth c (MQ below (hQx D ad cI cJ cF (q_L_areStems S)) args s 0 0 (hAd ad)) 15 481 [(0, .ref (ad 11 0)), (1, .ref (ad 10 1)), (2, .ref (ad 10 3)), (3, .ref (ad 10 4)), (4, .ref (ad 10 5)), (5, .ref (ad 10 6)), (6, .ref (ad 10 7)), (7, .int (hI 0)), (8, .int (hI y8)), (9, .int (hI y9)), (10, .int (hI y10))] S1))))) ∧ (¬ (v_X5_stemOf S1 (y10 / 6) (y10 % 6) 1) = ((S1 10) 5 y10) → (hAt D ad cI cJ cF p l e ({ frames := 7, cells := 0, slots := 0, locals := 169 } : Room) s m args below meth c (MQ below (hQx D ad cI cJ cF (q_L_areStems S)) args s 0 0 (hAd ad)) 15 481 [(0, .ref (ad 11 0)), (1, .ref (ad 10 1)), (2, .ref (ad 10 3)), (3, .ref (ad 10 4)), (4, .ref (ad 10 5)), (5, .ref (ad 10 6)), (6, .ref (ad 10 7)), (7, .int (hI 0)), (8, .int (hI y8)), (9, .int (hI y9)), (10, .int (hI y10))] S1))))) ∧ (¬ (v_X5_stemOf S1 (y10 / 6) (y10 % 6) 0) = ((S1 10) 4 y10) → (hAt D ad cI cJ cF p l e ({ frames := 7, cells := 0, slots := 0, locals := 169 } : Room) s m args below meth c (MQ below (hQx D ad cI cJ cF (q_L_areStems S)) args s 0 0 (hAd ad)) 15 481 [(0, .ref (ad 11 0)), (1, .ref (ad 10 1)), (2, .ref (ad 10 3)), (3, .ref (ad 10 4)), (4, .ref (ad 10 5)), (5, .ref (ad 10 6)), (6, .ref (ad 10 7)), (7, .int (hI 0)), (8, .int (hI y8)), (9, .int (hI y9)), (10, .int (hI y10))] S1))))))))) → (hAt D ad cI cJ cF p l e ({ frames := 7, cells := 0, slots := 0, locals := 169 } : Room) s m args below meth c (MQ below (hQx D ad cI cJ cF (q_L_areStems S)) args s 0 0 (hAd ad)) 15 256 [(0, .ref (ad 11 0)), (1, .ref (ad 10 1)), (2, .ref (ad 10 3)), (3, .ref (ad 10 4)), (4, .ref (ad 10 5)), (5, .ref (ad 10 6)), (6, .ref (ad 10 7)), (8, .int (hI y8)), (9, .int (hI y9)), (10, .int (hI y10)), (11, .int (hI y11)), (13, .int (hI y13))] S1) := by
    intro y8 y9 y10 y11 y13 S1 h_y8 h_y9 h_y10 h_y11 h_y13 h H locs ls hh hl
    have h := h (fun g i k hi => hh.2.1 g i k hi)
    refine lv_aload_n hx hb dL_areStems_256 rfl (lv_at hl 0 rfl) ?_
    refine lv_iload hx hb dL_areStems_257 (lv_at hl 9 rfl) ?_
    refine lv_bipush (v := hI 6) hx hb dL_areStems_259 (by decide) ?_
    obtain ⟨g52, h⟩ := h
    refine iv_idiv hx hb h_y10 g52 ⟨by decide, by decide⟩ (by decide) dL_areStems_261 ?_
    refine lv_iload hx hb dL_areStems_262 (lv_at hl 9 rfl) ?_
    refine lv_bipush (v := hI 6) hx hb dL_areStems_264 (by decide) ?_
    refine iv_irem hx hb h_y10 g52 ⟨by decide, by decide⟩ (by decide) dL_areStems_266 ?_
    refine iv_iconst hx hb dL_areStems_267 ?_
    obtain ⟨g53, h⟩ := h
    obtain ⟨g54, h⟩ := h
    obtain ⟨g55, h⟩ := h
    refine iv_ki (iv_rV (As := [.int (hI (y10 / 6)), .int (hI (y10 % 6)), .int (hI 0)]) (rest := []) E hh (ok_X5_stemOf l hinj S1 (y10 / 6) (y10 % 6) 0 g53 g54 ⟨by decide, by decide⟩ g55) cb_X5_stemOf q3_27 rfl rfl ⟨Nat.le_of_ble_eq_true rfl, Nat.le_of_ble_eq_true rfl⟩ (ob_X) rfl rfl rfl hl.1 rfl (Nat.le_of_ble_eq_true rfl) dL_areStems_268 ⟨Nat.zero_le _, Nat.zero_le _⟩) hh (fun hc56 H locs hh => ?_)
    refine lv_aload_n hx hb dL_areStems_271 rfl (lv_at hl 3 rfl) ?_
    refine lv_iload hx hb dL_areStems_272 (lv_at hl 9 rfl) ?_
    obtain ⟨g57, h⟩ := h
    refine iv_iald hx hb hK hh.1 ia_10_4 g57 (v := ((S1 10) 4 y10)) rfl dL_areStems_274 ?_
    have hm58 : hIn ((S1 10) 4 y10) := hIn_rd hh.2.1 rfl (by decide)
    refine iv_icmp_ne (tgt := 478) hx hb hc56 hm58 dL_areStems_275 (by decide) (fun c59 => ?_) (fun c59 => ?_)
    · have h := h.2 c59
      refine iv_iconst hx hb dL_areStems_478 ?_
      refine lv_istore (lv' := [(7, .int (hI 0)), (0, .ref (ad 11 0)), (1, .ref (ad 10 1)), (2, .ref (ad 10 3)), (3, .ref (ad 10 4)), (4, .ref (ad 10 5)), (5, .ref (ad 10 6)), (6, .ref (ad 10 7)), (8, .int (hI y8)), (9, .int (hI y9)), (10, .int (hI y10)), (11, .int (hI y11)), (13, .int (hI y13))]) hx hb dL_areStems_479 hl (by decide) rfl (fun ls hl => ?_)
      exact h H _ ls hh (lv_sub hl [1, 2, 3, 4, 5, 6, 7, 0, 8, 9, 10] rfl)
    · have h := h.1 c59
      refine lv_aload_n hx hb dL_areStems_278 rfl (lv_at hl 0 rfl) ?_
      refine lv_iload hx hb dL_areStems_279 (lv_at hl 9 rfl) ?_
      refine lv_bipush (v := hI 6) hx hb dL_areStems_281 (by decide) ?_
      refine iv_idiv hx hb h_y10 g52 ⟨by decide, by decide⟩ (by decide) dL_areStems_283 ?_
      refine lv_iload hx hb dL_areStems_284 (lv_at hl 9 rfl) ?_
      refine lv_bipush (v := hI 6) hx hb dL_areStems_286 (by decide) ?_
      refine iv_irem hx hb h_y10 g52 ⟨by decide, by decide⟩ (by decide) dL_areStems_288 ?_
      refine iv_iconst hx hb dL_areStems_289 ?_
      obtain ⟨g60, h⟩ := h
      refine iv_ki (iv_rV (As := [.int (hI (y10 / 6)), .int (hI (y10 % 6)), .int (hI 1)]) (rest := []) E hh (ok_X5_stemOf l hinj S1 (y10 / 6) (y10 % 6) 1 g53 g54 ⟨by decide, by decide⟩ g60) cb_X5_stemOf q3_27 rfl rfl ⟨Nat.le_of_ble_eq_true rfl, Nat.le_of_ble_eq_true rfl⟩ (ob_X) rfl rfl rfl hl.1 rfl (Nat.le_of_ble_eq_true rfl) dL_areStems_290 ⟨Nat.zero_le _, Nat.zero_le _⟩) hh (fun hc61 H locs hh => ?_)
      refine lv_aload hx hb dL_areStems_293 (lv_at hl 4 rfl) ?_
      refine lv_iload hx hb dL_areStems_295 (lv_at hl 9 rfl) ?_
      refine iv_iald hx hb hK hh.1 ia_10_5 g57 (v := ((S1 10) 5 y10)) rfl dL_areStems_297 ?_
      have hm62 : hIn ((S1 10) 5 y10) := hIn_rd hh.2.1 rfl (by decide)
      refine iv_icmp_ne (tgt := 478) hx hb hc61 hm62 dL_areStems_298 (by decide) (fun c63 => ?_) (fun c63 => ?_)
      · have h := h.2 c63
        refine iv_iconst hx hb dL_areStems_478 ?_
        refine lv_istore (lv' := [(7, .int (hI 0)), (0, .ref (ad 11 0)), (1, .ref (ad 10 1)), (2, .ref (ad 10 3)), (3, .ref (ad 10 4)), (4, .ref (ad 10 5)), (5, .ref (ad 10 6)), (6, .ref (ad 10 7)), (8, .int (hI y8)), (9, .int (hI y9)), (10, .int (hI y10)), (11, .int (hI y11)), (13, .int (hI y13))]) hx hb dL_areStems_479 hl (by decide) rfl (fun ls hl => ?_)
        exact h H _ ls hh (lv_sub hl [1, 2, 3, 4, 5, 6, 7, 0, 8, 9, 10] rfl)
      · have h := h.1 c63
        refine lv_aload_n hx hb dL_areStems_301 rfl (lv_at hl 0 rfl) ?_
        refine lv_iload hx hb dL_areStems_302 (lv_at hl 9 rfl) ?_
        refine lv_bipush (v := hI 6) hx hb dL_areStems_304 (by decide) ?_
        refine iv_idiv hx hb h_y10 g52 ⟨by decide, by decide⟩ (by decide) dL_areStems_306 ?_
        refine lv_iload hx hb dL_areStems_307 (lv_at hl 9 rfl) ?_
        refine lv_bipush (v := hI 6) hx hb dL_areStems_309 (by decide) ?_
        refine iv_irem hx hb h_y10 g52 ⟨by decide, by decide⟩ (by decide) dL_areStems_311 ?_
        refine iv_iconst hx hb dL_areStems_312 ?_
        obtain ⟨g64, h⟩ := h
        refine iv_ki (iv_rV (As := [.int (hI (y10 / 6)), .int (hI (y10 % 6)), .int (hI 2)]) (rest := []) E hh (ok_X5_stemOf l hinj S1 (y10 / 6) (y10 % 6) 2 g53 g54 ⟨by decide, by decide⟩ g64) cb_X5_stemOf q3_27 rfl rfl ⟨Nat.le_of_ble_eq_true rfl, Nat.le_of_ble_eq_true rfl⟩ (ob_X) rfl rfl rfl hl.1 rfl (Nat.le_of_ble_eq_true rfl) dL_areStems_313 ⟨Nat.zero_le _, Nat.zero_le _⟩) hh (fun hc65 H locs hh => ?_)
        refine lv_aload hx hb dL_areStems_316 (lv_at hl 5 rfl) ?_
        refine lv_iload hx hb dL_areStems_318 (lv_at hl 9 rfl) ?_
        refine iv_iald hx hb hK hh.1 ia_10_6 g57 (v := ((S1 10) 6 y10)) rfl dL_areStems_320 ?_
        have hm66 : hIn ((S1 10) 6 y10) := hIn_rd hh.2.1 rfl (by decide)
        refine iv_icmp_ne (tgt := 478) hx hb hc65 hm66 dL_areStems_321 (by decide) (fun c67 => ?_) (fun c67 => ?_)
        · have h := h.2 c67
          refine iv_iconst hx hb dL_areStems_478 ?_
          refine lv_istore (lv' := [(7, .int (hI 0)), (0, .ref (ad 11 0)), (1, .ref (ad 10 1)), (2, .ref (ad 10 3)), (3, .ref (ad 10 4)), (4, .ref (ad 10 5)), (5, .ref (ad 10 6)), (6, .ref (ad 10 7)), (8, .int (hI y8)), (9, .int (hI y9)), (10, .int (hI y10)), (11, .int (hI y11)), (13, .int (hI y13))]) hx hb dL_areStems_479 hl (by decide) rfl (fun ls hl => ?_)
          exact h H _ ls hh (lv_sub hl [1, 2, 3, 4, 5, 6, 7, 0, 8, 9, 10] rfl)
        · have h := h.1 c67
          refine lv_aload_n hx hb dL_areStems_324 rfl (lv_at hl 0 rfl) ?_
          refine lv_iload hx hb dL_areStems_325 (lv_at hl 9 rfl) ?_
          refine lv_bipush (v := hI 6) hx hb dL_areStems_327 (by decide) ?_
          refine iv_idiv hx hb h_y10 g52 ⟨by decide, by decide⟩ (by decide) dL_areStems_329 ?_
          refine lv_iload hx hb dL_areStems_330 (lv_at hl 9 rfl) ?_
          refine lv_bipush (v := hI 6) hx hb dL_areStems_332 (by decide) ?_
          refine iv_irem hx hb h_y10 g52 ⟨by decide, by decide⟩ (by decide) dL_areStems_334 ?_
          refine iv_iconst hx hb dL_areStems_335 ?_
          obtain ⟨g68, h⟩ := h
          refine iv_ki (iv_rV (As := [.int (hI (y10 / 6)), .int (hI (y10 % 6)), .int (hI 3)]) (rest := []) E hh (ok_X5_stemOf l hinj S1 (y10 / 6) (y10 % 6) 3 g53 g54 ⟨by decide, by decide⟩ g68) cb_X5_stemOf q3_27 rfl rfl ⟨Nat.le_of_ble_eq_true rfl, Nat.le_of_ble_eq_true rfl⟩ (ob_X) rfl rfl rfl hl.1 rfl (Nat.le_of_ble_eq_true rfl) dL_areStems_336 ⟨Nat.zero_le _, Nat.zero_le _⟩) hh (fun hc69 H locs hh => ?_)
          refine lv_aload_n hx hb dL_areStems_339 rfl (lv_at hl 1 rfl) ?_
          refine lv_aload hx hb dL_areStems_340 (lv_at hl 4 rfl) ?_
          refine lv_aload hx hb dL_areStems_342 (lv_at hl 6 rfl) ?_
          refine lv_iload hx hb dL_areStems_344 (lv_at hl 9 rfl) ?_
          obtain ⟨g70, h⟩ := h
          refine iv_ki (iv_rS (As := [.ref (ad 10 1), .ref (ad 10 5), .ref (ad 10 7), .int (hI y10)]) (rest := [.int (hI (v_X5_stemOf S1 (y10 / 6) (y10 % 6) 3))]) E hh (ok_L_hinted l hinj S1 (S1 0) (S1 10) rfl y10 h_y10 g70) cb_L_hinted q2_226 rfl rfl ⟨Nat.le_of_ble_eq_true rfl, Nat.le_of_ble_eq_true rfl⟩ rfl hl.1 rfl (Nat.le_of_ble_eq_true rfl) dL_areStems_346 ⟨Nat.zero_le _, Nat.zero_le _⟩) hh (fun hc71 H locs hh => ?_)
          refine iv_icmp_ne (tgt := 478) hx hb hc69 hc71 dL_areStems_349 (by decide) (fun c72 => ?_) (fun c72 => ?_)
          · have h := h.2 c72
            refine iv_iconst hx hb dL_areStems_478 ?_
            refine lv_istore (lv' := [(7, .int (hI 0)), (0, .ref (ad 11 0)), (1, .ref (ad 10 1)), (2, .ref (ad 10 3)), (3, .ref (ad 10 4)), (4, .ref (ad 10 5)), (5, .ref (ad 10 6)), (6, .ref (ad 10 7)), (8, .int (hI y8)), (9, .int (hI y9)), (10, .int (hI y10)), (11, .int (hI y11)), (13, .int (hI y13))]) hx hb dL_areStems_479 hl (by decide) rfl (fun ls hl => ?_)
            exact h H _ ls hh (lv_sub hl [1, 2, 3, 4, 5, 6, 7, 0, 8, 9, 10] rfl)
          · have h := h.1 c72
            refine lv_aload_n hx hb dL_areStems_352 rfl (lv_at hl 0 rfl) ?_
            refine lv_iload hx hb dL_areStems_353 (lv_at hl 9 rfl) ?_
            refine lv_bipush (v := hI 6) hx hb dL_areStems_355 (by decide) ?_
            refine iv_idiv hx hb h_y10 g52 ⟨by decide, by decide⟩ (by decide) dL_areStems_357 ?_
            refine lv_iload hx hb dL_areStems_358 (lv_at hl 9 rfl) ?_
            refine lv_bipush (v := hI 6) hx hb dL_areStems_360 (by decide) ?_
            refine iv_irem hx hb h_y10 g52 ⟨by decide, by decide⟩ (by decide) dL_areStems_362 ?_
            refine iv_iconst hx hb dL_areStems_363 ?_
            obtain ⟨g73, h⟩ := h
            refine iv_ki (iv_rV (As := [.int (hI (y10 / 6)), .int (hI (y10 % 6)), .int (hI 4)]) (rest := []) E hh (ok_X5_stemOf l hinj S1 (y10 / 6) (y10 % 6) 4 g53 g54 ⟨by decide, by decide⟩ g73) cb_X5_stemOf q3_27 rfl rfl ⟨Nat.le_of_ble_eq_true rfl, Nat.le_of_ble_eq_true rfl⟩ (ob_X) rfl rfl rfl hl.1 rfl (Nat.le_of_ble_eq_true rfl) dL_areStems_364 ⟨Nat.zero_le _, Nat.zero_le _⟩) hh (fun hc74 H locs hh => ?_)
            refine lv_iload hx hb dL_areStems_367 (lv_at hl 11 rfl) ?_
            refine iv_if_ne (tgt := 377) hx hb h_y13 dL_areStems_369 (by decide) (fun c75 => ?_) (fun c75 => ?_)
            · have h := h.2 c75
              refine lv_iload hx hb dL_areStems_377 (lv_at hl 11 rfl) ?_
              refine iv_icmp_ne (tgt := 478) hx hb hc74 h_y13 dL_areStems_379 (by decide) (fun c76 => ?_) (fun c76 => ?_)
              · have h := h.2 c76
                refine iv_iconst hx hb dL_areStems_478 ?_
                refine lv_istore (lv' := [(7, .int (hI 0)), (0, .ref (ad 11 0)), (1, .ref (ad 10 1)), (2, .ref (ad 10 3)), (3, .ref (ad 10 4)), (4, .ref (ad 10 5)), (5, .ref (ad 10 6)), (6, .ref (ad 10 7)), (8, .int (hI y8)), (9, .int (hI y9)), (10, .int (hI y10)), (11, .int (hI y11)), (13, .int (hI y13))]) hx hb dL_areStems_479 hl (by decide) rfl (fun ls hl => ?_)
                exact h H _ ls hh (lv_sub hl [1, 2, 3, 4, 5, 6, 7, 0, 8, 9, 10] rfl)
              · have h := h.1 c76
                refine lv_aload_n hx hb dL_areStems_382 rfl (lv_at hl 0 rfl) ?_
                refine lv_iload hx hb dL_areStems_383 (lv_at hl 9 rfl) ?_
                refine lv_bipush (v := hI 6) hx hb dL_areStems_385 (by decide) ?_
                refine iv_idiv hx hb h_y10 g52 ⟨by decide, by decide⟩ (by decide) dL_areStems_387 ?_
                refine lv_iload hx hb dL_areStems_388 (lv_at hl 9 rfl) ?_
                refine lv_bipush (v := hI 6) hx hb dL_areStems_390 (by decide) ?_
                refine iv_irem hx hb h_y10 g52 ⟨by decide, by decide⟩ (by decide) dL_areStems_392 ?_
                refine iv_iconst hx hb dL_areStems_393 ?_
                obtain ⟨g77, h⟩ := h
                refine iv_ki (iv_rV (As := [.int (hI (y10 / 6)), .int (hI (y10 % 6)), .int (hI 5)]) (rest := []) E hh (ok_X5_stemOf l hinj S1 (y10 / 6) (y10 % 6) 5 g53 g54 ⟨by decide, by decide⟩ g77) cb_X5_stemOf q3_27 rfl rfl ⟨Nat.le_of_ble_eq_true rfl, Nat.le_of_ble_eq_true rfl⟩ (ob_X) rfl rfl rfl hl.1 rfl (Nat.le_of_ble_eq_true rfl) dL_areStems_394 ⟨Nat.zero_le _, Nat.zero_le _⟩) hh (fun hc78 H locs hh => ?_)
                refine lv_iload hx hb dL_areStems_397 (lv_at hl 10 rfl) ?_
                refine iv_icmp_ne (tgt := 478) hx hb hc78 h_y11 dL_areStems_399 (by decide) (fun c79 => ?_) (fun c79 => ?_)
                · have h := h.2 c79
                  refine iv_iconst hx hb dL_areStems_478 ?_
                  refine lv_istore (lv' := [(7, .int (hI 0)), (0, .ref (ad 11 0)), (1, .ref (ad 10 1)), (2, .ref (ad 10 3)), (3, .ref (ad 10 4)), (4, .ref (ad 10 5)), (5, .ref (ad 10 6)), (6, .ref (ad 10 7)), (8, .int (hI y8)), (9, .int (hI y9)), (10, .int (hI y10)), (11, .int (hI y11)), (13, .int (hI y13))]) hx hb dL_areStems_479 hl (by decide) rfl (fun ls hl => ?_)
                  exact h H _ ls hh (lv_sub hl [1, 2, 3, 4, 5, 6, 7, 0, 8, 9, 10] rfl)
                · have h := h.1 c79
                  refine lv_aload_n hx hb dL_areStems_402 rfl (lv_at hl 0 rfl) ?_
                  refine lv_iload hx hb dL_areStems_403 (lv_at hl 9 rfl) ?_
                  refine lv_bipush (v := hI 6) hx hb dL_areStems_405 (by decide) ?_
                  refine iv_idiv hx hb h_y10 g52 ⟨by decide, by decide⟩ (by decide) dL_areStems_407 ?_
                  refine lv_iload hx hb dL_areStems_408 (lv_at hl 9 rfl) ?_
                  refine lv_bipush (v := hI 6) hx hb dL_areStems_410 (by decide) ?_
                  refine iv_irem hx hb h_y10 g52 ⟨by decide, by decide⟩ (by decide) dL_areStems_412 ?_
                  refine lv_bipush (v := hI 6) hx hb dL_areStems_413 (by decide) ?_
                  obtain ⟨g80, h⟩ := h
                  refine iv_ki (iv_rV (As := [.int (hI (y10 / 6)), .int (hI (y10 % 6)), .int (hI 6)]) (rest := []) E hh (ok_X5_stemOf l hinj S1 (y10 / 6) (y10 % 6) 6 g53 g54 ⟨by decide, by decide⟩ g80) cb_X5_stemOf q3_27 rfl rfl ⟨Nat.le_of_ble_eq_true rfl, Nat.le_of_ble_eq_true rfl⟩ (ob_X) rfl rfl rfl hl.1 rfl (Nat.le_of_ble_eq_true rfl) dL_areStems_415 ⟨Nat.zero_le _, Nat.zero_le _⟩) hh (fun hc81 H locs hh => ?_)
                  refine lv_iload hx hb dL_areStems_418 (lv_at hl 9 rfl) ?_
                  refine lv_bipush (v := hI 6) hx hb dL_areStems_420 (by decide) ?_
                  refine iv_irem hx hb h_y10 g52 ⟨by decide, by decide⟩ (by decide) dL_areStems_422 ?_
                  refine iv_if_ne (tgt := 431) hx hb g54 dL_areStems_423 (by decide) (fun c82 => ?_) (fun c82 => ?_)
                  · have h := h.2 c82
                    refine lv_aload_n hx hb dL_areStems_431 rfl (lv_at hl 3 rfl) ?_
                    refine lv_iload hx hb dL_areStems_432 (lv_at hl 9 rfl) ?_
                    refine iv_iald hx hb hK hh.1 ia_10_4 g57 (v := ((S1 10) 4 y10)) rfl dL_areStems_434 ?_
                    have hm83 : hIn ((S1 10) 4 y10) := hIn_rd hh.2.1 rfl (by decide)
                    refine lv_aload_n hx hb dL_areStems_435 rfl (lv_at hl 3 rfl) ?_
                    refine lv_iload hx hb dL_areStems_436 (lv_at hl 9 rfl) ?_
                    refine iv_iconst hx hb dL_areStems_438 ?_
                    refine iv_isub hx hb dL_areStems_439 ?_
                    obtain ⟨g84, h⟩ := h
                    refine iv_iald hx hb hK hh.1 ia_10_4 g84 (v := ((S1 10) 4 (y10 - 1))) rfl dL_areStems_440 ?_
                    have hm85 : hIn ((S1 10) 4 (y10 - 1)) := hIn_rd hh.2.1 rfl (by decide)
                    refine iv_isub hx hb dL_areStems_441 ?_
                    refine lv_aload hx hb dL_areStems_442 (lv_at hl 4 rfl) ?_
                    refine lv_iload hx hb dL_areStems_444 (lv_at hl 9 rfl) ?_
                    refine iv_iconst hx hb dL_areStems_446 ?_
                    refine iv_isub hx hb dL_areStems_447 ?_
                    refine iv_iald hx hb hK hh.1 ia_10_5 g84 (v := ((S1 10) 5 (y10 - 1))) rfl dL_areStems_448 ?_
                    have hm86 : hIn ((S1 10) 5 (y10 - 1)) := hIn_rd hh.2.1 rfl (by decide)
                    refine iv_isub hx hb dL_areStems_449 ?_
                    obtain ⟨g87, h⟩ := h
                    refine iv_icmp_ne (tgt := 478) hx hb hc81 g87 dL_areStems_450 (by decide) (fun c88 => ?_) (fun c88 => ?_)
                    · have h := h.2 c88
                      refine iv_iconst hx hb dL_areStems_478 ?_
                      refine lv_istore (lv' := [(7, .int (hI 0)), (0, .ref (ad 11 0)), (1, .ref (ad 10 1)), (2, .ref (ad 10 3)), (3, .ref (ad 10 4)), (4, .ref (ad 10 5)), (5, .ref (ad 10 6)), (6, .ref (ad 10 7)), (8, .int (hI y8)), (9, .int (hI y9)), (10, .int (hI y10)), (11, .int (hI y11)), (13, .int (hI y13))]) hx hb dL_areStems_479 hl (by decide) rfl (fun ls hl => ?_)
                      exact h H _ ls hh (lv_sub hl [1, 2, 3, 4, 5, 6, 7, 0, 8, 9, 10] rfl)
                    · have h := h.1 c88
                      refine lv_aload_n hx hb dL_areStems_453 rfl (lv_at hl 0 rfl) ?_
                      refine lv_iload hx hb dL_areStems_454 (lv_at hl 9 rfl) ?_
                      refine lv_bipush (v := hI 6) hx hb dL_areStems_456 (by decide) ?_
                      refine iv_idiv hx hb h_y10 g52 ⟨by decide, by decide⟩ (by decide) dL_areStems_458 ?_
                      refine lv_iload hx hb dL_areStems_459 (lv_at hl 9 rfl) ?_
                      refine lv_bipush (v := hI 6) hx hb dL_areStems_461 (by decide) ?_
                      refine iv_irem hx hb h_y10 g52 ⟨by decide, by decide⟩ (by decide) dL_areStems_463 ?_
                      refine lv_bipush (v := hI 7) hx hb dL_areStems_464 (by decide) ?_
                      obtain ⟨g89, h⟩ := h
                      refine iv_ki (iv_rV (As := [.int (hI (y10 / 6)), .int (hI (y10 % 6)), .int (hI 7)]) (rest := []) E hh (ok_X5_stemOf l hinj S1 (y10 / 6) (y10 % 6) 7 g53 g54 ⟨by decide, by decide⟩ g89) cb_X5_stemOf q3_27 rfl rfl ⟨Nat.le_of_ble_eq_true rfl, Nat.le_of_ble_eq_true rfl⟩ (ob_X) rfl rfl rfl hl.1 rfl (Nat.le_of_ble_eq_true rfl) dL_areStems_466 ⟨Nat.zero_le _, Nat.zero_le _⟩) hh (fun hc90 H locs hh => ?_)
                      refine iv_ldc (n := (-1000001)) hx hb (by decide) hown (hts _ q2_153) dL_areStems_469 ?_
                      refine iv_icmp_ne (tgt := 478) hx hb hc90 ⟨by decide, by decide⟩ dL_areStems_471 (by decide) (fun c91 => ?_) (fun c91 => ?_)
                      · have h := h.2 c91
                        refine iv_iconst hx hb dL_areStems_478 ?_
                        refine lv_istore (lv' := [(7, .int (hI 0)), (0, .ref (ad 11 0)), (1, .ref (ad 10 1)), (2, .ref (ad 10 3)), (3, .ref (ad 10 4)), (4, .ref (ad 10 5)), (5, .ref (ad 10 6)), (6, .ref (ad 10 7)), (8, .int (hI y8)), (9, .int (hI y9)), (10, .int (hI y10)), (11, .int (hI y11)), (13, .int (hI y13))]) hx hb dL_areStems_479 hl (by decide) rfl (fun ls hl => ?_)
                        exact h H _ ls hh (lv_sub hl [1, 2, 3, 4, 5, 6, 7, 0, 8, 9, 10] rfl)
                      · have h := h.1 c91
                        refine iv_iconst hx hb dL_areStems_474 ?_
                        refine lv_goto (tgt := 479) hx hb dL_areStems_475 (by decide) ?_
                        refine lv_istore (lv' := [(7, .int (hI 1)), (0, .ref (ad 11 0)), (1, .ref (ad 10 1)), (2, .ref (ad 10 3)), (3, .ref (ad 10 4)), (4, .ref (ad 10 5)), (5, .ref (ad 10 6)), (6, .ref (ad 10 7)), (8, .int (hI y8)), (9, .int (hI y9)), (10, .int (hI y10)), (11, .int (hI y11)), (13, .int (hI y13))]) hx hb dL_areStems_479 hl (by decide) rfl (fun ls hl => ?_)
                        exact h H _ ls hh (lv_sub hl [1, 2, 3, 4, 5, 6, 7, 0, 8, 9, 10] rfl)
                  · have h := h.1 c82
                    refine iv_ldc (n := (-1000004)) hx hb (by decide) hown (hts _ q3_39) dL_areStems_426 ?_
                    refine lv_goto (tgt := 450) hx hb dL_areStems_428 (by decide) ?_
                    refine iv_icmp_ne (tgt := 478) hx hb hc81 ⟨by decide, by decide⟩ dL_areStems_450 (by decide) (fun c92 => ?_) (fun c92 => ?_)
                    · have h := h.2 c92
                      refine iv_iconst hx hb dL_areStems_478 ?_
                      refine lv_istore (lv' := [(7, .int (hI 0)), (0, .ref (ad 11 0)), (1, .ref (ad 10 1)), (2, .ref (ad 10 3)), (3, .ref (ad 10 4)), (4, .ref (ad 10 5)), (5, .ref (ad 10 6)), (6, .ref (ad 10 7)), (8, .int (hI y8)), (9, .int (hI y9)), (10, .int (hI y10)), (11, .int (hI y11)), (13, .int (hI y13))]) hx hb dL_areStems_479 hl (by decide) rfl (fun ls hl => ?_)
                      exact h H _ ls hh (lv_sub hl [1, 2, 3, 4, 5, 6, 7, 0, 8, 9, 10] rfl)
                    · have h := h.1 c92
                      refine lv_aload_n hx hb dL_areStems_453 rfl (lv_at hl 0 rfl) ?_
                      refine lv_iload hx hb dL_areStems_454 (lv_at hl 9 rfl) ?_
                      refine lv_bipush (v := hI 6) hx hb dL_areStems_456 (by decide) ?_
                      refine iv_idiv hx hb h_y10 g52 ⟨by decide, by decide⟩ (by decide) dL_areStems_458 ?_
                      refine lv_iload hx hb dL_areStems_459 (lv_at hl 9 rfl) ?_
                      refine lv_bipush (v := hI 6) hx hb dL_areStems_461 (by decide) ?_
                      refine iv_irem hx hb h_y10 g52 ⟨by decide, by decide⟩ (by decide) dL_areStems_463 ?_
                      refine lv_bipush (v := hI 7) hx hb dL_areStems_464 (by decide) ?_
                      obtain ⟨g93, h⟩ := h
                      refine iv_ki (iv_rV (As := [.int (hI (y10 / 6)), .int (hI (y10 % 6)), .int (hI 7)]) (rest := []) E hh (ok_X5_stemOf l hinj S1 (y10 / 6) (y10 % 6) 7 g53 g54 ⟨by decide, by decide⟩ g93) cb_X5_stemOf q3_27 rfl rfl ⟨Nat.le_of_ble_eq_true rfl, Nat.le_of_ble_eq_true rfl⟩ (ob_X) rfl rfl rfl hl.1 rfl (Nat.le_of_ble_eq_true rfl) dL_areStems_466 ⟨Nat.zero_le _, Nat.zero_le _⟩) hh (fun hc94 H locs hh => ?_)
                      refine iv_ldc (n := (-1000001)) hx hb (by decide) hown (hts _ q2_153) dL_areStems_469 ?_
                      refine iv_icmp_ne (tgt := 478) hx hb hc94 ⟨by decide, by decide⟩ dL_areStems_471 (by decide) (fun c95 => ?_) (fun c95 => ?_)
                      · have h := h.2 c95
                        refine iv_iconst hx hb dL_areStems_478 ?_
                        refine lv_istore (lv' := [(7, .int (hI 0)), (0, .ref (ad 11 0)), (1, .ref (ad 10 1)), (2, .ref (ad 10 3)), (3, .ref (ad 10 4)), (4, .ref (ad 10 5)), (5, .ref (ad 10 6)), (6, .ref (ad 10 7)), (8, .int (hI y8)), (9, .int (hI y9)), (10, .int (hI y10)), (11, .int (hI y11)), (13, .int (hI y13))]) hx hb dL_areStems_479 hl (by decide) rfl (fun ls hl => ?_)
                        exact h H _ ls hh (lv_sub hl [1, 2, 3, 4, 5, 6, 7, 0, 8, 9, 10] rfl)
                      · have h := h.1 c95
                        refine iv_iconst hx hb dL_areStems_474 ?_
                        refine lv_goto (tgt := 479) hx hb dL_areStems_475 (by decide) ?_
                        refine lv_istore (lv' := [(7, .int (hI 1)), (0, .ref (ad 11 0)), (1, .ref (ad 10 1)), (2, .ref (ad 10 3)), (3, .ref (ad 10 4)), (4, .ref (ad 10 5)), (5, .ref (ad 10 6)), (6, .ref (ad 10 7)), (8, .int (hI y8)), (9, .int (hI y9)), (10, .int (hI y10)), (11, .int (hI y11)), (13, .int (hI y13))]) hx hb dL_areStems_479 hl (by decide) rfl (fun ls hl => ?_)
                        exact h H _ ls hh (lv_sub hl [1, 2, 3, 4, 5, 6, 7, 0, 8, 9, 10] rfl)
            · have h := h.1 c75
              refine iv_ldc (n := (-1000004)) hx hb (by decide) hown (hts _ q3_39) dL_areStems_372 ?_
              refine lv_goto (tgt := 379) hx hb dL_areStems_374 (by decide) ?_
              refine iv_icmp_ne (tgt := 478) hx hb hc74 ⟨by decide, by decide⟩ dL_areStems_379 (by decide) (fun c96 => ?_) (fun c96 => ?_)
              · have h := h.2 c96
                refine iv_iconst hx hb dL_areStems_478 ?_
                refine lv_istore (lv' := [(7, .int (hI 0)), (0, .ref (ad 11 0)), (1, .ref (ad 10 1)), (2, .ref (ad 10 3)), (3, .ref (ad 10 4)), (4, .ref (ad 10 5)), (5, .ref (ad 10 6)), (6, .ref (ad 10 7)), (8, .int (hI y8)), (9, .int (hI y9)), (10, .int (hI y10)), (11, .int (hI y11)), (13, .int (hI y13))]) hx hb dL_areStems_479 hl (by decide) rfl (fun ls hl => ?_)
                exact h H _ ls hh (lv_sub hl [1, 2, 3, 4, 5, 6, 7, 0, 8, 9, 10] rfl)
              · have h := h.1 c96
                refine lv_aload_n hx hb dL_areStems_382 rfl (lv_at hl 0 rfl) ?_
                refine lv_iload hx hb dL_areStems_383 (lv_at hl 9 rfl) ?_
                refine lv_bipush (v := hI 6) hx hb dL_areStems_385 (by decide) ?_
                refine iv_idiv hx hb h_y10 g52 ⟨by decide, by decide⟩ (by decide) dL_areStems_387 ?_
                refine lv_iload hx hb dL_areStems_388 (lv_at hl 9 rfl) ?_
                refine lv_bipush (v := hI 6) hx hb dL_areStems_390 (by decide) ?_
                refine iv_irem hx hb h_y10 g52 ⟨by decide, by decide⟩ (by decide) dL_areStems_392 ?_
                refine iv_iconst hx hb dL_areStems_393 ?_
                obtain ⟨g97, h⟩ := h
                refine iv_ki (iv_rV (As := [.int (hI (y10 / 6)), .int (hI (y10 % 6)), .int (hI 5)]) (rest := []) E hh (ok_X5_stemOf l hinj S1 (y10 / 6) (y10 % 6) 5 g53 g54 ⟨by decide, by decide⟩ g97) cb_X5_stemOf q3_27 rfl rfl ⟨Nat.le_of_ble_eq_true rfl, Nat.le_of_ble_eq_true rfl⟩ (ob_X) rfl rfl rfl hl.1 rfl (Nat.le_of_ble_eq_true rfl) dL_areStems_394 ⟨Nat.zero_le _, Nat.zero_le _⟩) hh (fun hc98 H locs hh => ?_)
                refine lv_iload hx hb dL_areStems_397 (lv_at hl 10 rfl) ?_
                refine iv_icmp_ne (tgt := 478) hx hb hc98 h_y11 dL_areStems_399 (by decide) (fun c99 => ?_) (fun c99 => ?_)
                · have h := h.2 c99
                  refine iv_iconst hx hb dL_areStems_478 ?_
                  refine lv_istore (lv' := [(7, .int (hI 0)), (0, .ref (ad 11 0)), (1, .ref (ad 10 1)), (2, .ref (ad 10 3)), (3, .ref (ad 10 4)), (4, .ref (ad 10 5)), (5, .ref (ad 10 6)), (6, .ref (ad 10 7)), (8, .int (hI y8)), (9, .int (hI y9)), (10, .int (hI y10)), (11, .int (hI y11)), (13, .int (hI y13))]) hx hb dL_areStems_479 hl (by decide) rfl (fun ls hl => ?_)
                  exact h H _ ls hh (lv_sub hl [1, 2, 3, 4, 5, 6, 7, 0, 8, 9, 10] rfl)
                · have h := h.1 c99
                  refine lv_aload_n hx hb dL_areStems_402 rfl (lv_at hl 0 rfl) ?_
                  refine lv_iload hx hb dL_areStems_403 (lv_at hl 9 rfl) ?_
                  refine lv_bipush (v := hI 6) hx hb dL_areStems_405 (by decide) ?_
                  refine iv_idiv hx hb h_y10 g52 ⟨by decide, by decide⟩ (by decide) dL_areStems_407 ?_
                  refine lv_iload hx hb dL_areStems_408 (lv_at hl 9 rfl) ?_
                  refine lv_bipush (v := hI 6) hx hb dL_areStems_410 (by decide) ?_
                  refine iv_irem hx hb h_y10 g52 ⟨by decide, by decide⟩ (by decide) dL_areStems_412 ?_
                  refine lv_bipush (v := hI 6) hx hb dL_areStems_413 (by decide) ?_
                  obtain ⟨g100, h⟩ := h
                  refine iv_ki (iv_rV (As := [.int (hI (y10 / 6)), .int (hI (y10 % 6)), .int (hI 6)]) (rest := []) E hh (ok_X5_stemOf l hinj S1 (y10 / 6) (y10 % 6) 6 g53 g54 ⟨by decide, by decide⟩ g100) cb_X5_stemOf q3_27 rfl rfl ⟨Nat.le_of_ble_eq_true rfl, Nat.le_of_ble_eq_true rfl⟩ (ob_X) rfl rfl rfl hl.1 rfl (Nat.le_of_ble_eq_true rfl) dL_areStems_415 ⟨Nat.zero_le _, Nat.zero_le _⟩) hh (fun hc101 H locs hh => ?_)
                  refine lv_iload hx hb dL_areStems_418 (lv_at hl 9 rfl) ?_
                  refine lv_bipush (v := hI 6) hx hb dL_areStems_420 (by decide) ?_
                  refine iv_irem hx hb h_y10 g52 ⟨by decide, by decide⟩ (by decide) dL_areStems_422 ?_
                  refine iv_if_ne (tgt := 431) hx hb g54 dL_areStems_423 (by decide) (fun c102 => ?_) (fun c102 => ?_)
                  · have h := h.2 c102
                    refine lv_aload_n hx hb dL_areStems_431 rfl (lv_at hl 3 rfl) ?_
                    refine lv_iload hx hb dL_areStems_432 (lv_at hl 9 rfl) ?_
                    refine iv_iald hx hb hK hh.1 ia_10_4 g57 (v := ((S1 10) 4 y10)) rfl dL_areStems_434 ?_
                    have hm103 : hIn ((S1 10) 4 y10) := hIn_rd hh.2.1 rfl (by decide)
                    refine lv_aload_n hx hb dL_areStems_435 rfl (lv_at hl 3 rfl) ?_
                    refine lv_iload hx hb dL_areStems_436 (lv_at hl 9 rfl) ?_
                    refine iv_iconst hx hb dL_areStems_438 ?_
                    refine iv_isub hx hb dL_areStems_439 ?_
                    obtain ⟨g104, h⟩ := h
                    refine iv_iald hx hb hK hh.1 ia_10_4 g104 (v := ((S1 10) 4 (y10 - 1))) rfl dL_areStems_440 ?_
                    have hm105 : hIn ((S1 10) 4 (y10 - 1)) := hIn_rd hh.2.1 rfl (by decide)
                    refine iv_isub hx hb dL_areStems_441 ?_
                    refine lv_aload hx hb dL_areStems_442 (lv_at hl 4 rfl) ?_
                    refine lv_iload hx hb dL_areStems_444 (lv_at hl 9 rfl) ?_
                    refine iv_iconst hx hb dL_areStems_446 ?_
                    refine iv_isub hx hb dL_areStems_447 ?_
                    refine iv_iald hx hb hK hh.1 ia_10_5 g104 (v := ((S1 10) 5 (y10 - 1))) rfl dL_areStems_448 ?_
                    have hm106 : hIn ((S1 10) 5 (y10 - 1)) := hIn_rd hh.2.1 rfl (by decide)
                    refine iv_isub hx hb dL_areStems_449 ?_
                    obtain ⟨g107, h⟩ := h
                    refine iv_icmp_ne (tgt := 478) hx hb hc101 g107 dL_areStems_450 (by decide) (fun c108 => ?_) (fun c108 => ?_)
                    · have h := h.2 c108
                      refine iv_iconst hx hb dL_areStems_478 ?_
                      refine lv_istore (lv' := [(7, .int (hI 0)), (0, .ref (ad 11 0)), (1, .ref (ad 10 1)), (2, .ref (ad 10 3)), (3, .ref (ad 10 4)), (4, .ref (ad 10 5)), (5, .ref (ad 10 6)), (6, .ref (ad 10 7)), (8, .int (hI y8)), (9, .int (hI y9)), (10, .int (hI y10)), (11, .int (hI y11)), (13, .int (hI y13))]) hx hb dL_areStems_479 hl (by decide) rfl (fun ls hl => ?_)
                      exact h H _ ls hh (lv_sub hl [1, 2, 3, 4, 5, 6, 7, 0, 8, 9, 10] rfl)
                    · have h := h.1 c108
                      refine lv_aload_n hx hb dL_areStems_453 rfl (lv_at hl 0 rfl) ?_
                      refine lv_iload hx hb dL_areStems_454 (lv_at hl 9 rfl) ?_
                      refine lv_bipush (v := hI 6) hx hb dL_areStems_456 (by decide) ?_
                      refine iv_idiv hx hb h_y10 g52 ⟨by decide, by decide⟩ (by decide) dL_areStems_458 ?_
                      refine lv_iload hx hb dL_areStems_459 (lv_at hl 9 rfl) ?_
                      refine lv_bipush (v := hI 6) hx hb dL_areStems_461 (by decide) ?_
                      refine iv_irem hx hb h_y10 g52 ⟨by decide, by decide⟩ (by decide) dL_areStems_463 ?_
                      refine lv_bipush (v := hI 7) hx hb dL_areStems_464 (by decide) ?_
                      obtain ⟨g109, h⟩ := h
                      refine iv_ki (iv_rV (As := [.int (hI (y10 / 6)), .int (hI (y10 % 6)), .int (hI 7)]) (rest := []) E hh (ok_X5_stemOf l hinj S1 (y10 / 6) (y10 % 6) 7 g53 g54 ⟨by decide, by decide⟩ g109) cb_X5_stemOf q3_27 rfl rfl ⟨Nat.le_of_ble_eq_true rfl, Nat.le_of_ble_eq_true rfl⟩ (ob_X) rfl rfl rfl hl.1 rfl (Nat.le_of_ble_eq_true rfl) dL_areStems_466 ⟨Nat.zero_le _, Nat.zero_le _⟩) hh (fun hc110 H locs hh => ?_)
                      refine iv_ldc (n := (-1000001)) hx hb (by decide) hown (hts _ q2_153) dL_areStems_469 ?_
                      refine iv_icmp_ne (tgt := 478) hx hb hc110 ⟨by decide, by decide⟩ dL_areStems_471 (by decide) (fun c111 => ?_) (fun c111 => ?_)
                      · have h := h.2 c111
                        refine iv_iconst hx hb dL_areStems_478 ?_
                        refine lv_istore (lv' := [(7, .int (hI 0)), (0, .ref (ad 11 0)), (1, .ref (ad 10 1)), (2, .ref (ad 10 3)), (3, .ref (ad 10 4)), (4, .ref (ad 10 5)), (5, .ref (ad 10 6)), (6, .ref (ad 10 7)), (8, .int (hI y8)), (9, .int (hI y9)), (10, .int (hI y10)), (11, .int (hI y11)), (13, .int (hI y13))]) hx hb dL_areStems_479 hl (by decide) rfl (fun ls hl => ?_)
                        exact h H _ ls hh (lv_sub hl [1, 2, 3, 4, 5, 6, 7, 0, 8, 9, 10] rfl)
                      · have h := h.1 c111
                        refine iv_iconst hx hb dL_areStems_474 ?_
                        refine lv_goto (tgt := 479) hx hb dL_areStems_475 (by decide) ?_
                        refine lv_istore (lv' := [(7, .int (hI 1)), (0, .ref (ad 11 0)), (1, .ref (ad 10 1)), (2, .ref (ad 10 3)), (3, .ref (ad 10 4)), (4, .ref (ad 10 5)), (5, .ref (ad 10 6)), (6, .ref (ad 10 7)), (8, .int (hI y8)), (9, .int (hI y9)), (10, .int (hI y10)), (11, .int (hI y11)), (13, .int (hI y13))]) hx hb dL_areStems_479 hl (by decide) rfl (fun ls hl => ?_)
                        exact h H _ ls hh (lv_sub hl [1, 2, 3, 4, 5, 6, 7, 0, 8, 9, 10] rfl)
                  · have h := h.1 c102
                    refine iv_ldc (n := (-1000004)) hx hb (by decide) hown (hts _ q3_39) dL_areStems_426 ?_
                    refine lv_goto (tgt := 450) hx hb dL_areStems_428 (by decide) ?_
                    refine iv_icmp_ne (tgt := 478) hx hb hc101 ⟨by decide, by decide⟩ dL_areStems_450 (by decide) (fun c112 => ?_) (fun c112 => ?_)
                    · have h := h.2 c112
                      refine iv_iconst hx hb dL_areStems_478 ?_
                      refine lv_istore (lv' := [(7, .int (hI 0)), (0, .ref (ad 11 0)), (1, .ref (ad 10 1)), (2, .ref (ad 10 3)), (3, .ref (ad 10 4)), (4, .ref (ad 10 5)), (5, .ref (ad 10 6)), (6, .ref (ad 10 7)), (8, .int (hI y8)), (9, .int (hI y9)), (10, .int (hI y10)), (11, .int (hI y11)), (13, .int (hI y13))]) hx hb dL_areStems_479 hl (by decide) rfl (fun ls hl => ?_)
                      exact h H _ ls hh (lv_sub hl [1, 2, 3, 4, 5, 6, 7, 0, 8, 9, 10] rfl)
                    · have h := h.1 c112
                      refine lv_aload_n hx hb dL_areStems_453 rfl (lv_at hl 0 rfl) ?_
                      refine lv_iload hx hb dL_areStems_454 (lv_at hl 9 rfl) ?_
                      refine lv_bipush (v := hI 6) hx hb dL_areStems_456 (by decide) ?_
                      refine iv_idiv hx hb h_y10 g52 ⟨by decide, by decide⟩ (by decide) dL_areStems_458 ?_
                      refine lv_iload hx hb dL_areStems_459 (lv_at hl 9 rfl) ?_
                      refine lv_bipush (v := hI 6) hx hb dL_areStems_461 (by decide) ?_
                      refine iv_irem hx hb h_y10 g52 ⟨by decide, by decide⟩ (by decide) dL_areStems_463 ?_
                      refine lv_bipush (v := hI 7) hx hb dL_areStems_464 (by decide) ?_
                      obtain ⟨g113, h⟩ := h
                      refine iv_ki (iv_rV (As := [.int (hI (y10 / 6)), .int (hI (y10 % 6)), .int (hI 7)]) (rest := []) E hh (ok_X5_stemOf l hinj S1 (y10 / 6) (y10 % 6) 7 g53 g54 ⟨by decide, by decide⟩ g113) cb_X5_stemOf q3_27 rfl rfl ⟨Nat.le_of_ble_eq_true rfl, Nat.le_of_ble_eq_true rfl⟩ (ob_X) rfl rfl rfl hl.1 rfl (Nat.le_of_ble_eq_true rfl) dL_areStems_466 ⟨Nat.zero_le _, Nat.zero_le _⟩) hh (fun hc114 H locs hh => ?_)
                      refine iv_ldc (n := (-1000001)) hx hb (by decide) hown (hts _ q2_153) dL_areStems_469 ?_
                      refine iv_icmp_ne (tgt := 478) hx hb hc114 ⟨by decide, by decide⟩ dL_areStems_471 (by decide) (fun c115 => ?_) (fun c115 => ?_)
                      · have h := h.2 c115
                        refine iv_iconst hx hb dL_areStems_478 ?_
                        refine lv_istore (lv' := [(7, .int (hI 0)), (0, .ref (ad 11 0)), (1, .ref (ad 10 1)), (2, .ref (ad 10 3)), (3, .ref (ad 10 4)), (4, .ref (ad 10 5)), (5, .ref (ad 10 6)), (6, .ref (ad 10 7)), (8, .int (hI y8)), (9, .int (hI y9)), (10, .int (hI y10)), (11, .int (hI y11)), (13, .int (hI y13))]) hx hb dL_areStems_479 hl (by decide) rfl (fun ls hl => ?_)
                        exact h H _ ls hh (lv_sub hl [1, 2, 3, 4, 5, 6, 7, 0, 8, 9, 10] rfl)
                      · have h := h.1 c115
                        refine iv_iconst hx hb dL_areStems_474 ?_
                        refine lv_goto (tgt := 479) hx hb dL_areStems_475 (by decide) ?_
                        refine lv_istore (lv' := [(7, .int (hI 1)), (0, .ref (ad 11 0)), (1, .ref (ad 10 1)), (2, .ref (ad 10 3)), (3, .ref (ad 10 4)), (4, .ref (ad 10 5)), (5, .ref (ad 10 6)), (6, .ref (ad 10 7)), (8, .int (hI y8)), (9, .int (hI y9)), (10, .int (hI y10)), (11, .int (hI y11)), (13, .int (hI y13))]) hx hb dL_areStems_479 hl (by decide) rfl (fun ls hl => ?_)
                        exact h H _ ls hh (lv_sub hl [1, 2, 3, 4, 5, 6, 7, 0, 8, 9, 10] rfl)
  have r481 : ∀ (y7 : Int) (y8 : Int) (y9 : Int) (y10 : Int) (S1 : hS), hIn y7 → hIn y8 → hIn y9 → hIn y10 → ((∀ (g i : Nat) (k : Int), i < 100 → hIn (S1 g i k)) → (hAt D ad cI cJ cF p l e ({ frames := 7, cells := 0, slots := 0, locals := 169 } : Room) s m args below meth c (MQ below (hQx D ad cI cJ cF (q_L_areStems S)) args s 0 0 (hAd ad)) 15 42 [(0, .ref (ad 11 0)), (1, .ref (ad 10 1)), (2, .ref (ad 10 3)), (3, .ref (ad 10 4)), (4, .ref (ad 10 5)), (5, .ref (ad 10 6)), (6, .ref (ad 10 7)), (7, .int (hI y7)), (8, .int (hI y8)), (9, .int (hI y9)), (10, .int (hI (y10 + 1)))] S1)) → (hAt D ad cI cJ cF p l e ({ frames := 7, cells := 0, slots := 0, locals := 169 } : Room) s m args below meth c (MQ below (hQx D ad cI cJ cF (q_L_areStems S)) args s 0 0 (hAd ad)) 15 481 [(0, .ref (ad 11 0)), (1, .ref (ad 10 1)), (2, .ref (ad 10 3)), (3, .ref (ad 10 4)), (4, .ref (ad 10 5)), (5, .ref (ad 10 6)), (6, .ref (ad 10 7)), (7, .int (hI y7)), (8, .int (hI y8)), (9, .int (hI y9)), (10, .int (hI y10))] S1) := by
    intro y7 y8 y9 y10 S1 h_y7 h_y8 h_y9 h_y10 h H locs ls hh hl
    have h := h (fun g i k hi => hh.2.1 g i k hi)
    refine iv_iinc (lv' := [(10, .int (hI (y10 + 1))), (0, .ref (ad 11 0)), (1, .ref (ad 10 1)), (2, .ref (ad 10 3)), (3, .ref (ad 10 4)), (4, .ref (ad 10 5)), (5, .ref (ad 10 6)), (6, .ref (ad 10 7)), (7, .int (hI y7)), (8, .int (hI y8)), (9, .int (hI y9))]) hx hb dL_areStems_481 hl (k := 10) rfl (v := (y10 + 1)) rfl (by decide) rfl (fun ls hl => ?_)
    refine lv_goto (tgt := 42) hx hb dL_areStems_484 (by decide) ?_
    exact h H _ ls hh (lv_sub hl [1, 2, 3, 4, 5, 6, 7, 8, 9, 10, 0] rfl)
  intro H locs ls hh hl
  have hl : lv_has ls 15 [(0, .ref (ad 11 0)), (1, .ref (ad 10 1)), (2, .ref (ad 10 3)), (3, .ref (ad 10 4)), (4, .ref (ad 10 5)), (5, .ref (ad 10 6)), (6, .ref (ad 10 7))] := hl
  have h := x_L_areStems S (fun g i k hi => hh.2.1 g i k hi) hp (fun y7 S1 => (hAt D ad cI cJ cF p l e ({ frames := 7, cells := 0, slots := 0, locals := 169 } : Room) s m args below meth c (MQ below (hQx D ad cI cJ cF (q_L_areStems S)) args s 0 0 (hAd ad)) 15 33 [(0, .ref (ad 11 0)), (1, .ref (ad 10 1)), (2, .ref (ad 10 3)), (3, .ref (ad 10 4)), (4, .ref (ad 10 5)), (5, .ref (ad 10 6)), (6, .ref (ad 10 7)), (7, .int (hI y7))] S1)) (fun y7 y8 y9 y10 S1 => (hAt D ad cI cJ cF p l e ({ frames := 7, cells := 0, slots := 0, locals := 169 } : Room) s m args below meth c (MQ below (hQx D ad cI cJ cF (q_L_areStems S)) args s 0 0 (hAd ad)) 15 42 [(0, .ref (ad 11 0)), (1, .ref (ad 10 1)), (2, .ref (ad 10 3)), (3, .ref (ad 10 4)), (4, .ref (ad 10 5)), (5, .ref (ad 10 6)), (6, .ref (ad 10 7)), (7, .int (hI y7)), (8, .int (hI y8)), (9, .int (hI y9)), (10, .int (hI y10))] S1)) (fun y8 y9 y10 S1 => (hAt D ad cI cJ cF p l e ({ frames := 7, cells := 0, slots := 0, locals := 169 } : Room) s m args below meth c (MQ below (hQx D ad cI cJ cF (q_L_areStems S)) args s 0 0 (hAd ad)) 15 110 [(0, .ref (ad 11 0)), (1, .ref (ad 10 1)), (2, .ref (ad 10 3)), (3, .ref (ad 10 4)), (4, .ref (ad 10 5)), (5, .ref (ad 10 6)), (6, .ref (ad 10 7)), (8, .int (hI y8)), (9, .int (hI y9)), (10, .int (hI y10))] S1)) (fun y8 y9 y10 y11 y12 y13 S1 => (hAt D ad cI cJ cF p l e ({ frames := 7, cells := 0, slots := 0, locals := 169 } : Room) s m args below meth c (MQ below (hQx D ad cI cJ cF (q_L_areStems S)) args s 0 0 (hAd ad)) 15 119 [(0, .ref (ad 11 0)), (1, .ref (ad 10 1)), (2, .ref (ad 10 3)), (3, .ref (ad 10 4)), (4, .ref (ad 10 5)), (5, .ref (ad 10 6)), (6, .ref (ad 10 7)), (8, .int (hI y8)), (9, .int (hI y9)), (10, .int (hI y10)), (11, .int (hI y11)), (12, .int (hI y12)), (13, .int (hI y13))] S1)) (fun y8 y9 y10 y11 y12 y13 y14 S1 => (hAt D ad cI cJ cF p l e ({ frames := 7, cells := 0, slots := 0, locals := 169 } : Room) s m args below meth c (MQ below (hQx D ad cI cJ cF (q_L_areStems S)) args s 0 0 (hAd ad)) 15 182 [(0, .ref (ad 11 0)), (1, .ref (ad 10 1)), (2, .ref (ad 10 3)), (3, .ref (ad 10 4)), (4, .ref (ad 10 5)), (5, .ref (ad 10 6)), (6, .ref (ad 10 7)), (8, .int (hI y8)), (9, .int (hI y9)), (10, .int (hI y10)), (11, .int (hI y11)), (12, .int (hI y12)), (13, .int (hI y13)), (14, .int (hI y14))] S1)) (fun y8 y9 y10 y11 y12 y13 y14 S1 => (hAt D ad cI cJ cF p l e ({ frames := 7, cells := 0, slots := 0, locals := 169 } : Room) s m args below meth c (MQ below (hQx D ad cI cJ cF (q_L_areStems S)) args s 0 0 (hAd ad)) 15 197 [(0, .ref (ad 11 0)), (1, .ref (ad 10 1)), (2, .ref (ad 10 3)), (3, .ref (ad 10 4)), (4, .ref (ad 10 5)), (5, .ref (ad 10 6)), (6, .ref (ad 10 7)), (8, .int (hI y8)), (9, .int (hI y9)), (10, .int (hI y10)), (11, .int (hI y11)), (12, .int (hI y12)), (13, .int (hI y13)), (14, .int (hI y14))] S1)) (fun y8 y9 y10 y11 y12 S1 => (hAt D ad cI cJ cF p l e ({ frames := 7, cells := 0, slots := 0, locals := 169 } : Room) s m args below meth c (MQ below (hQx D ad cI cJ cF (q_L_areStems S)) args s 0 0 (hAd ad)) 15 225 [(0, .ref (ad 11 0)), (1, .ref (ad 10 1)), (2, .ref (ad 10 3)), (3, .ref (ad 10 4)), (4, .ref (ad 10 5)), (5, .ref (ad 10 6)), (6, .ref (ad 10 7)), (8, .int (hI y8)), (9, .int (hI y9)), (10, .int (hI y10)), (11, .int (hI y11)), (12, .int (hI y12))] S1)) (fun y8 y9 y10 y11 y13 S1 => (hAt D ad cI cJ cF p l e ({ frames := 7, cells := 0, slots := 0, locals := 169 } : Room) s m args below meth c (MQ below (hQx D ad cI cJ cF (q_L_areStems S)) args s 0 0 (hAd ad)) 15 256 [(0, .ref (ad 11 0)), (1, .ref (ad 10 1)), (2, .ref (ad 10 3)), (3, .ref (ad 10 4)), (4, .ref (ad 10 5)), (5, .ref (ad 10 6)), (6, .ref (ad 10 7)), (8, .int (hI y8)), (9, .int (hI y9)), (10, .int (hI y10)), (11, .int (hI y11)), (13, .int (hI y13))] S1)) (fun y7 y8 y9 y10 S1 => (hAt D ad cI cJ cF p l e ({ frames := 7, cells := 0, slots := 0, locals := 169 } : Room) s m args below meth c (MQ below (hQx D ad cI cJ cF (q_L_areStems S)) args s 0 0 (hAd ad)) 15 481 [(0, .ref (ad 11 0)), (1, .ref (ad 10 1)), (2, .ref (ad 10 3)), (3, .ref (ad 10 4)), (4, .ref (ad 10 5)), (5, .ref (ad 10 6)), (6, .ref (ad 10 7)), (7, .int (hI y7)), (8, .int (hI y8)), (9, .int (hI y9)), (10, .int (hI y10))] S1)) (fun r S1 => ((r : Int) = 1 ∧ q_L_areStems S S1)) r33 r42 r110 r119 r182 r197 r225 r256 r481 (fun S2 hq => ⟨rfl, hq⟩)
  refine lv_aload_n hx hb dL_areStems_0 rfl (lv_at hl 0 rfl) ?_
  refine lv_aload_n hx hb dL_areStems_1 rfl (lv_at hl 1 rfl) ?_
  refine iv_iconst hx hb dL_areStems_2 ?_
  refine iv_iald hx hb hK hh.1 ia_10_1 ⟨by decide, by decide⟩ (v := ((S 10) 1 0)) rfl dL_areStems_3 ?_
  have hm116 : hIn ((S 10) 1 0) := hIn_rd hh.2.1 rfl (by decide)
  refine iv_iconst hx hb dL_areStems_4 ?_
  refine iv_iconst hx hb dL_areStems_5 ?_
  obtain ⟨g117, h⟩ := h
  refine iv_ki (iv_rV (As := [.int (hI ((S 10) 1 0)), .int (hI 0), .int (hI 0)]) (rest := []) E hh (ok_X5_stemOf l hinj S ((S 10) 1 0) 0 0 hm116 ⟨by decide, by decide⟩ ⟨by decide, by decide⟩ g117) cb_X5_stemOf q3_27 rfl rfl ⟨Nat.le_of_ble_eq_true rfl, Nat.le_of_ble_eq_true rfl⟩ (ob_X) rfl rfl rfl hl.1 rfl (Nat.le_of_ble_eq_true rfl) dL_areStems_6 ⟨Nat.zero_le _, Nat.zero_le _⟩) hh (fun hc118 H locs hh => ?_)
  refine iv_ldc (n := (-1000001)) hx hb (by decide) hown (hts _ q2_153) dL_areStems_9 ?_
  refine iv_icmp_ne (tgt := 30) hx hb hc118 ⟨by decide, by decide⟩ dL_areStems_11 (by decide) (fun c119 => ?_) (fun c119 => ?_)
  · have h := h.2 c119
    refine iv_iconst hx hb dL_areStems_30 ?_
    refine lv_istore (lv' := [(7, .int (hI 0)), (0, .ref (ad 11 0)), (1, .ref (ad 10 1)), (2, .ref (ad 10 3)), (3, .ref (ad 10 4)), (4, .ref (ad 10 5)), (5, .ref (ad 10 6)), (6, .ref (ad 10 7))]) hx hb dL_areStems_31 hl (by decide) rfl (fun ls hl => ?_)
    exact h H _ ls hh (lv_sub hl [1, 2, 3, 4, 5, 6, 7, 0] rfl)
  · have h := h.1 c119
    refine lv_aload_n hx hb dL_areStems_14 rfl (lv_at hl 0 rfl) ?_
    refine iv_iconst hx hb dL_areStems_15 ?_
    refine iv_iconst hx hb dL_areStems_16 ?_
    refine iv_iconst hx hb dL_areStems_17 ?_
    obtain ⟨g120, h⟩ := h
    refine iv_ki (iv_rV (As := [.int (hI (-1)), .int (hI 0), .int (hI 0)]) (rest := []) E hh (ok_X5_stemOf l hinj S (-1) 0 0 ⟨by decide, by decide⟩ ⟨by decide, by decide⟩ ⟨by decide, by decide⟩ g120) cb_X5_stemOf q3_27 rfl rfl ⟨Nat.le_of_ble_eq_true rfl, Nat.le_of_ble_eq_true rfl⟩ (ob_X) rfl rfl rfl hl.1 rfl (Nat.le_of_ble_eq_true rfl) dL_areStems_18 ⟨Nat.zero_le _, Nat.zero_le _⟩) hh (fun hc121 H locs hh => ?_)
    refine iv_ldc (n := (-1000001)) hx hb (by decide) hown (hts _ q2_153) dL_areStems_21 ?_
    refine iv_icmp_ne (tgt := 30) hx hb hc121 ⟨by decide, by decide⟩ dL_areStems_23 (by decide) (fun c122 => ?_) (fun c122 => ?_)
    · have h := h.2 c122
      refine iv_iconst hx hb dL_areStems_30 ?_
      refine lv_istore (lv' := [(7, .int (hI 0)), (0, .ref (ad 11 0)), (1, .ref (ad 10 1)), (2, .ref (ad 10 3)), (3, .ref (ad 10 4)), (4, .ref (ad 10 5)), (5, .ref (ad 10 6)), (6, .ref (ad 10 7))]) hx hb dL_areStems_31 hl (by decide) rfl (fun ls hl => ?_)
      exact h H _ ls hh (lv_sub hl [1, 2, 3, 4, 5, 6, 7, 0] rfl)
    · have h := h.1 c122
      refine iv_iconst hx hb dL_areStems_26 ?_
      refine lv_goto (tgt := 31) hx hb dL_areStems_27 (by decide) ?_
      refine lv_istore (lv' := [(7, .int (hI 1)), (0, .ref (ad 11 0)), (1, .ref (ad 10 1)), (2, .ref (ad 10 3)), (3, .ref (ad 10 4)), (4, .ref (ad 10 5)), (5, .ref (ad 10 6)), (6, .ref (ad 10 7))]) hx hb dL_areStems_31 hl (by decide) rfl (fun ls hl => ?_)
      exact h H _ ls hh (lv_sub hl [1, 2, 3, 4, 5, 6, 7, 0] rfl)
end

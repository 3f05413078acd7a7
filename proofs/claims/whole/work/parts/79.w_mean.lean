/-! the mean width -/
def meanB (s n : Int) : Int := ((FP.fdiv (FP.i2f (hI s)) (FP.i2f (hI n))).toNat : Nat)
theorem meanB_at {s n : Int} (n0 : 1 ≤ n) (ns : n ≤ s) (s1 : s < 4194304) : ∃ e t : Nat, (127 ≤ e ∧ e ≤ 160) ∧ t < 8388608 ∧ FP.fdiv (FP.i2f (hI s)) (FP.i2f (hI n)) = fE e t ∧ meanB s n = ((e * 8388608 + t : Nat) : Int) := by
  obtain ⟨e, t, h1, h2, h3⟩ := mean_fE (s := s.toNat) (n := n.toNat) (by omega) (by omega) (by omega)
  rw [Int.toNat_of_nonneg (by omega), Int.toNat_of_nonneg (by omega)] at h3
  refine ⟨e, t, h1, h2, h3, ?_⟩
  unfold meanB
  rw [h3, fE_nat (by omega) h2]
def p_X5_mean (S : hS) : Prop := fNum (S 0) ∧ (0 < v_X1_stemsTogether (S 0) → v_X1_stemsTogether (S 0) ≤ v_X1_widthsTogether (S 0) ∧ v_X1_widthsTogether (S 0) < 4194304)
def v_X5_mean (S : hS) : Int := if v_X1_stemsTogether (S 0) ≤ 0 then -1000004 else meanB (v_X1_widthsTogether (S 0)) (v_X1_stemsTogether (S 0))
def widM (P : hGM) : Int := dbl (fun g k => v_X6_ofStem P g k 1) (fun g => (v_X6_of P g 1).toNat) (P 1 0).toNat
def p_X6_mean (P : hGM) : Prop := mNum (P 1) ∧ (¬ v_X6_stems P = 0 → 1 ≤ v_X6_stems P ∧ v_X6_stems P ≤ widM P ∧ widM P < 4194304) ∧ (v_X6_stems P = 0 → widM P = 0)
def v_X6_mean (P : hGM) : Int := if v_X6_stems P = 0 then -1000004 else meanB (widM P) (v_X6_stems P)
section
variable {D : va_G} {ad : Nat → Nat → Nat} {cI cJ cF : ClassId}
set_option maxHeartbeats 4000000 in
set_option maxRecDepth 100000 in
theorem ok_X5_mean (l : Launch) (hinj : hInj ad) (S : hS) (hp : p_X5_mean S) : hMi D ad cI cJ cF l yX5_mean cX5_mean 2 (some .int) ({ frames := 1, cells := 0, slots := 0, locals := 22 } : Room) [.ref (ad 11 0)] S (v_X5_mean S) S := by
  refine hOf (S := S) l hinj (by decide +kernel) (Nat.le_of_ble_eq_true rfl) (fun p e s m args below meth c E => ?_)
  obtain ⟨hx, hb, hml, hown, hts, hK, hN, -, hr, hlk⟩ := id E
  have hown : s.vm.findClass RX5 = some m.cls := hown
  intro H locs ls hh hl
  have hl : lv_has ls 2 [(0, .ref (ad 11 0))] := hl
  obtain ⟨hf, hq⟩ := hp
  refine lv_aload_n hx hb dX5_mean_0 rfl (lv_at hl 0 rfl) ?_
  refine iv_get (v' := .ref (ad 0 0)) hx hb hts inX5 hown hK hh.1 (ob_X) rfl 0 (by decide) (hts _ q1_201) rfl rfl rfl dX5_mean_1 ?_
  refine iv_ki (iv_rV (As := []) (rest := []) E hh (ok_X1_stemsTogether l hinj S (by decide) (S 0) rfl hf) cb_X1_stemsTogether q3_59 rfl rfl ⟨Nat.le_of_ble_eq_true rfl, Nat.le_of_ble_eq_true rfl⟩ (ob_Font (by decide)) rfl rfl rfl hl.1 rfl (Nat.le_of_ble_eq_true rfl) dX5_mean_4 ⟨Nat.zero_le _, Nat.zero_le _⟩) hh (fun hc5 H locs hh => ?_)
  refine lv_istore_n (lv' := [(1, .int (hI (v_X1_stemsTogether (S 0)))), (0, .ref (ad 11 0))]) hx hb dX5_mean_7 rfl hl (by decide) rfl (fun ls hl => ?_)
  refine lv_iload_n hx hb dX5_mean_8 rfl (lv_at hl 0 rfl) ?_
  refine iv_if_gt (tgt := 15) hx hb hc5 dX5_mean_9 (by decide) (fun c1 => ?_) (fun c1 => ?_)
  · obtain ⟨q1, q2⟩ := hq (by omega)
    obtain ⟨e0, t0, m1, m2, m3, m4⟩ := meanB_at (by omega) q1 q2
    refine lv_aload_n hx hb dX5_mean_15 rfl (lv_at hl 1 rfl) ?_
    refine iv_get (v' := .ref (ad 0 0)) hx hb hts inX5 hown hK hh.1 (ob_X) rfl 0 (by decide) (hts _ q1_201) rfl rfl rfl dX5_mean_16 ?_
    refine iv_ki (iv_rV (As := []) (rest := []) E hh (ok_X1_widthsTogether l hinj S (by decide) (S 0) rfl hf) cb_X1_widthsTogether q3_63 rfl rfl ⟨Nat.le_of_ble_eq_true rfl, Nat.le_of_ble_eq_true rfl⟩ (ob_Font (by decide)) rfl rfl rfl hl.1 rfl (Nat.le_of_ble_eq_true rfl) dX5_mean_19 ⟨Nat.zero_le _, Nat.zero_le _⟩) hh (fun hc6 H locs hh => ?_)
    refine lv_i2f hx hb dX5_mean_22 ?_
    refine lv_iload_n hx hb dX5_mean_23 rfl (lv_at hl 0 rfl) ?_
    refine lv_i2f hx hb dX5_mean_24 ?_
    refine lv_fdiv hx hb dX5_mean_25 (by rw [m3]; exact n32_fE (by omega) m2) ?_
    rw [m3]
    refine iv_ki (iv_rS (As := [.float (fE e0 t0)]) (rest := []) E hh (ok_X5_bitsOf l hinj S e0 t0 m1.1 (by omega) m2) cb_X5_bitsOf q3_67 rfl rfl ⟨Nat.le_of_ble_eq_true rfl, Nat.le_of_ble_eq_true rfl⟩ rfl hl.1 rfl (Nat.le_of_ble_eq_true rfl) dX5_mean_26 ⟨Nat.zero_le _, Nat.zero_le _⟩) hh (fun hc7 H locs hh => ?_)
    have ev : ((e0 * 8388608 + t0 : Nat) : Int) = v_X5_mean S := by unfold v_X5_mean; rw [if_neg c1, m4]
    exact iv_iret E hh ev (by rw [← ev]; exact hc7) rfl dX5_mean_29
  · refine iv_ldc (n := (-1000004)) hx hb (by decide) hown (hts _ q2_197) dX5_mean_12 ?_
    have ev : (-1000004 : Int) = v_X5_mean S := by unfold v_X5_mean; rw [if_pos c1]
    exact iv_iret E hh ev (by rw [← ev]; exact ⟨by decide, by decide⟩) rfl dX5_mean_14
theorem n32_01 : vf_n32 (FP.fdiv (FP.i2f (hI 0)) (FP.i2f (hI 1))) := by
  unfold vf_n32
  decide +kernel
set_option maxHeartbeats 4000000 in
set_option maxRecDepth 100000 in
theorem ok_X6_mean (l : Launch) (hinj : hInj ad) (S : hS) (P : hGM) (hP : S 10 = P) (hp : p_X6_mean P) : hMi D ad cI cJ cF l yX6_mean cX6_mean 4 (some .int) ({ frames := 2, cells := 0, slots := 0, locals := 45 } : Room) [.ref (ad 10 0)] S (v_X6_mean P) S := by
  refine hOf (S := S) l hinj (by decide +kernel) (Nat.le_of_ble_eq_true rfl) (fun p e s m args below meth c E => ?_)
  obtain ⟨hx, hb, hml, hown, hts, hK, hN, -, hr, hlk⟩ := id E
  have hown : s.vm.findClass RX6 = some m.cls := hown
  obtain ⟨hm, hq, hq0⟩ := hp
  have n0 := hm.1
  have e0 : (((P 1 0).toNat : Nat) : Int) = P 1 0 := Int.toNat_of_nonneg n0.1
  have em : ∀ g : Int, 0 ≤ g → g < 8 → (((v_X6_of P g 1).toNat : Nat) : Int) = v_X6_of P g 1 := fun g g0 g1 => Int.toNat_of_nonneg (of_bd hm g0 g1).1
  -- behind both loops
  have fin : hAt D ad cI cJ cF p l e ({ frames := 2, cells := 0, slots := 0, locals := 45 } : Room) s m args below meth c (MQ below (hQi D ad cI cJ cF (v_X6_mean P) S) args s 0 0 (hAd ad)) 4 48 [(0, .ref (ad 10 0)), (1, .int (hI (widM P)))] S := by
    intro H locs ls hh hl
    refine lv_iload_n hx hb dX6_mean_48 rfl (lv_at hl 1 rfl) ?_
    refine lv_i2f hx hb dX6_mean_49 ?_
    refine lv_aload_n hx hb dX6_mean_50 rfl (lv_at hl 0 rfl) ?_
    refine iv_ki (iv_rV (As := []) (rest := [.float (FP.i2f (hI (widM P)))]) E hh (ok_X6_stems l hinj S P hP hm) cb_X6_stems q4_177 rfl rfl ⟨Nat.le_of_ble_eq_true rfl, Nat.le_of_ble_eq_true rfl⟩ (ob_Model) rfl rfl rfl hl.1 rfl (Nat.le_of_ble_eq_true rfl) dX6_mean_51 ⟨Nat.zero_le _, Nat.zero_le _⟩) hh (fun hc5 H locs hh => ?_)
    refine iv_if_ne (tgt := 61) hx hb hc5 dX6_mean_54 (by decide) (fun c1 => ?_) (fun c1 => ?_)
    · obtain ⟨q1, q2, q3⟩ := hq c1
      obtain ⟨ee, tt, m1, m2, m3, m4⟩ := meanB_at q1 q2 q3
      refine lv_aload_n hx hb dX6_mean_61 rfl (lv_at hl 0 rfl) ?_
      refine iv_ki (iv_rV (As := []) (rest := [.float (FP.i2f (hI (widM P)))]) E hh (ok_X6_stems l hinj S P hP hm) cb_X6_stems q4_177 rfl rfl ⟨Nat.le_of_ble_eq_true rfl, Nat.le_of_ble_eq_true rfl⟩ (ob_Model) rfl rfl rfl hl.1 rfl (Nat.le_of_ble_eq_true rfl) dX6_mean_62 ⟨Nat.zero_le _, Nat.zero_le _⟩) hh (fun hc6 H locs hh => ?_)
      refine lv_i2f hx hb dX6_mean_65 ?_
      refine lv_fdiv hx hb dX6_mean_66 (by rw [m3]; exact n32_fE (by omega) m2) ?_
      rw [m3]
      refine lv_fstore_n (lv' := [(2, .float (fE ee tt)), (0, .ref (ad 10 0)), (1, .int (hI (widM P)))]) hx hb dX6_mean_67 rfl hl (by decide) rfl (fun ls hl => ?_)
      refine lv_aload_n hx hb dX6_mean_68 rfl (lv_at hl 1 rfl) ?_
      refine iv_ki (iv_rV (As := []) (rest := []) E hh (ok_X6_stems l hinj S P hP hm) cb_X6_stems q4_177 rfl rfl ⟨Nat.le_of_ble_eq_true rfl, Nat.le_of_ble_eq_true rfl⟩ (ob_Model) rfl rfl rfl hl.1 rfl (Nat.le_of_ble_eq_true rfl) dX6_mean_69 ⟨Nat.zero_le _, Nat.zero_le _⟩) hh (fun hc7 H locs hh => ?_)
      refine iv_if_ne (tgt := 80) hx hb hc7 dX6_mean_72 (by decide) (fun _ => ?_) (fun z => absurd z c1)
      refine lv_fload_n hx hb dX6_mean_80 rfl (lv_at hl 0 rfl) ?_
      refine iv_ki (iv_rS (As := [.float (fE ee tt)]) (rest := []) E hh (ok_Jxf58ca_floatToIntBits_5c35a l hinj S ee tt (by omega) (by omega) m2) cb_Jxf58ca_floatToIntBits_5c35a q4_181 rfl rfl ⟨Nat.le_of_ble_eq_true rfl, Nat.le_of_ble_eq_true rfl⟩ rfl hl.1 rfl (Nat.le_of_ble_eq_true rfl) dX6_mean_81 ⟨Nat.zero_le _, Nat.zero_le _⟩) hh (fun hc8 H locs hh => ?_)
      have ev : ((ee * 8388608 + tt : Nat) : Int) = v_X6_mean P := by unfold v_X6_mean; rw [if_neg c1, m4]
      exact iv_iret E hh ev (by rw [← ev]; exact hc8) rfl dX6_mean_84
    · refine iv_iconst hx hb dX6_mean_57 ?_
      refine lv_goto (tgt := 65) hx hb dX6_mean_58 (by decide) ?_
      refine lv_i2f hx hb dX6_mean_65 ?_
      rw [hq0 c1] at hl ⊢
      refine lv_fdiv hx hb dX6_mean_66 n32_01 ?_
      refine lv_fstore_n (lv' := [(2, .float (FP.fdiv (FP.i2f (hI 0)) (FP.i2f (hI 1)))), (0, .ref (ad 10 0)), (1, .int (hI 0))]) hx hb dX6_mean_67 rfl hl (by decide) rfl (fun ls hl => ?_)
      refine lv_aload_n hx hb dX6_mean_68 rfl (lv_at hl 1 rfl) ?_
      refine iv_ki (iv_rV (As := []) (rest := []) E hh (ok_X6_stems l hinj S P hP hm) cb_X6_stems q4_177 rfl rfl ⟨Nat.le_of_ble_eq_true rfl, Nat.le_of_ble_eq_true rfl⟩ (ob_Model) rfl rfl rfl hl.1 rfl (Nat.le_of_ble_eq_true rfl) dX6_mean_69 ⟨Nat.zero_le _, Nat.zero_le _⟩) hh (fun hc7 H locs hh => ?_)
      refine iv_if_ne (tgt := 80) hx hb hc7 dX6_mean_72 (by decide) (fun z => absurd c1 z) (fun _ => ?_)
      refine iv_ldc (n := (-1000004)) hx hb (by decide) hown (hts _ q4_33) dX6_mean_75 ?_
      refine lv_goto (tgt := 84) hx hb dX6_mean_77 (by decide) ?_
      have ev : (-1000004 : Int) = v_X6_mean P := by unfold v_X6_mean; rw [if_pos c1]
      exact iv_iret E hh ev (by rw [← ev]; exact ⟨by decide, by decide⟩) rfl dX6_mean_84
  have r4 : ∀ (y1 : Int) (y2 : Int), hIn y1 → hIn y2 → (((y2 < (P 1 0) → (hAt D ad cI cJ cF p l e ({ frames := 2, cells := 0, slots := 0, locals := 45 } : Room) s m args below meth c (MQ below (hQi D ad cI cJ cF (v_X6_mean P) S) args s 0 0 (hAd ad)) 4 16 [(0, .ref (ad 10 0)), (1, .int (hI y1)), (2, .int (hI y2)), (3, .int (hI 0))] S)) ∧ (¬ y2 < (P 1 0) → y1 = widM P))) → (hAt D ad cI cJ cF p l e ({ frames := 2, cells := 0, slots := 0, locals := 45 } : Room) s m args below meth c (MQ below (hQi D ad cI cJ cF (v_X6_mean P) S) args s 0 0 (hAd ad)) 4 4 [(0, .ref (ad 10 0)), (1, .int (hI y1)), (2, .int (hI y2))] S) := by
    intro y1 y2 h_y1 h_y2 h H locs ls hh hl
    refine lv_iload_n hx hb dX6_mean_4 rfl (lv_at hl 2 rfl) ?_
    refine lv_aload_n hx hb dX6_mean_5 rfl (lv_at hl 0 rfl) ?_
    refine iv_get (v' := .ref (ad 10 1)) hx hb hts inX6 hown hK hh.1 (ob_Model) rfl 0 (by decide) (hts _ q3_160) rfl rfl rfl dX6_mean_6 ?_
    refine iv_iconst hx hb dX6_mean_9 ?_
    refine iv_iald hx hb hK hh.1 (ia_10_1) ⟨by decide, by decide⟩ (v := (P 1 0)) (congrArg (fun z => z 1 0) hP) dX6_mean_10 ?_
    have hm1 : hIn (P 1 0) := hIn_rd hh.2.1 hP (by decide)
    refine iv_icmp_ge (tgt := 48) hx hb h_y2 hm1 dX6_mean_11 (by decide) (fun c2 => ?_) (fun c2 => ?_)
    · have h := h.2 c2
      rw [h] at hl
      exact fin H _ ls hh (lv_sub hl [0, 1] rfl)
    · have h := h.1 c2
      refine iv_iconst hx hb dX6_mean_14 ?_
      refine lv_istore_n (lv' := [(3, .int (hI 0)), (0, .ref (ad 10 0)), (1, .int (hI y1)), (2, .int (hI y2))]) hx hb dX6_mean_15 rfl hl (by decide) rfl (fun ls hl => ?_)
      exact h H _ ls hh (lv_sub hl [1, 2, 3, 0] rfl)
  have r16 : ∀ (y1 : Int) (y2 : Int) (y3 : Int), hIn y1 → hIn y2 → hIn y3 → ((p_X6_of P y2 1 ∧ ((y3 < (v_X6_of P y2 1) → (p_X6_ofStem P y2 y3 1 ∧ (hAt D ad cI cJ cF p l e ({ frames := 2, cells := 0, slots := 0, locals := 45 } : Room) s m args below meth c (MQ below (hQi D ad cI cJ cF (v_X6_mean P) S) args s 0 0 (hAd ad)) 4 16 [(0, .ref (ad 10 0)), (1, .int (hI (y1 + v_X6_ofStem P y2 y3 1))), (2, .int (hI y2)), (3, .int (hI (y3 + 1)))] S))) ∧ (¬ y3 < (v_X6_of P y2 1) → (hAt D ad cI cJ cF p l e ({ frames := 2, cells := 0, slots := 0, locals := 45 } : Room) s m args below meth c (MQ below (hQi D ad cI cJ cF (v_X6_mean P) S) args s 0 0 (hAd ad)) 4 4 [(0, .ref (ad 10 0)), (1, .int (hI y1)), (2, .int (hI (y2 + 1)))] S))))) → (hAt D ad cI cJ cF p l e ({ frames := 2, cells := 0, slots := 0, locals := 45 } : Room) s m args below meth c (MQ below (hQi D ad cI cJ cF (v_X6_mean P) S) args s 0 0 (hAd ad)) 4 16 [(0, .ref (ad 10 0)), (1, .int (hI y1)), (2, .int (hI y2)), (3, .int (hI y3))] S) := by
    intro y1 y2 y3 h_y1 h_y2 h_y3 h H locs ls hh hl
    refine lv_iload_n hx hb dX6_mean_16 rfl (lv_at hl 3 rfl) ?_
    refine lv_aload_n hx hb dX6_mean_17 rfl (lv_at hl 0 rfl) ?_
    refine lv_iload_n hx hb dX6_mean_18 rfl (lv_at hl 2 rfl) ?_
    refine iv_iconst hx hb dX6_mean_19 ?_
    obtain ⟨g3, h⟩ := h
    refine iv_ki (iv_rV (As := [.int (hI y2), .int (hI 1)]) (rest := [.int (hI y3)]) E hh (ok_X6_of l hinj S P hP y2 1 h_y2 ⟨by decide, by decide⟩ g3) cb_X6_of q3_237 rfl rfl ⟨Nat.le_of_ble_eq_true rfl, Nat.le_of_ble_eq_true rfl⟩ (ob_Model) rfl rfl rfl hl.1 rfl (Nat.le_of_ble_eq_true rfl) dX6_mean_20 ⟨Nat.zero_le _, Nat.zero_le _⟩) hh (fun hc4 H locs hh => ?_)
    refine iv_icmp_ge (tgt := 42) hx hb h_y3 hc4 dX6_mean_23 (by decide) (fun c5 => ?_) (fun c5 => ?_)
    · have h := h.2 c5
      refine iv_iinc (lv' := [(2, .int (hI (y2 + 1))), (0, .ref (ad 10 0)), (1, .int (hI y1)), (3, .int (hI y3))]) hx hb dX6_mean_42 hl (k := 2) rfl (v := (y2 + 1)) rfl (by decide) rfl (fun ls hl => ?_)
      refine lv_goto (tgt := 4) hx hb dX6_mean_45 (by decide) ?_
      exact h H _ ls hh (lv_sub hl [1, 2, 0] rfl)
    · obtain ⟨g5, h⟩ := h.1 c5
      refine lv_iload_n hx hb dX6_mean_26 rfl (lv_at hl 1 rfl) ?_
      refine lv_aload_n hx hb dX6_mean_27 rfl (lv_at hl 0 rfl) ?_
      refine lv_iload_n hx hb dX6_mean_28 rfl (lv_at hl 2 rfl) ?_
      refine lv_iload_n hx hb dX6_mean_29 rfl (lv_at hl 3 rfl) ?_
      refine iv_iconst hx hb dX6_mean_30 ?_
      refine iv_ki (iv_rV (As := [.int (hI y2), .int (hI y3), .int (hI 1)]) (rest := [.int (hI y1)]) E hh (ok_X6_ofStem l hinj S P hP y2 y3 1 h_y2 h_y3 ⟨by decide, by decide⟩ g5) cb_X6_ofStem q4_1 rfl rfl ⟨Nat.le_of_ble_eq_true rfl, Nat.le_of_ble_eq_true rfl⟩ (ob_Model) rfl rfl rfl hl.1 rfl (Nat.le_of_ble_eq_true rfl) dX6_mean_31 ⟨Nat.zero_le _, Nat.zero_le _⟩) hh (fun hc7 H locs hh => ?_)
      refine iv_iadd hx hb dX6_mean_34 ?_
      refine lv_istore_n (lv' := [(1, .int (hI (y1 + v_X6_ofStem P y2 y3 1))), (0, .ref (ad 10 0)), (2, .int (hI y2)), (3, .int (hI y3))]) hx hb dX6_mean_35 rfl hl (by decide) rfl (fun ls hl => ?_)
      refine iv_iinc (lv' := [(3, .int (hI (y3 + 1))), (1, .int (hI (y1 + v_X6_ofStem P y2 y3 1))), (0, .ref (ad 10 0)), (2, .int (hI y2))]) hx hb dX6_mean_36 hl (k := 3) rfl (v := (y3 + 1)) rfl (by decide) rfl (fun ls hl => ?_)
      refine lv_goto (tgt := 16) hx hb dX6_mean_39 (by decide) ?_
      exact h H _ ls hh (lv_sub hl [2, 1, 3, 0] rfl)
  intro H locs ls hh hl
  have hl : lv_has ls 4 [(0, .ref (ad 10 0))] := hl
  have key := dblLoop (B1 := fun y g => hAt D ad cI cJ cF p l e ({ frames := 2, cells := 0, slots := 0, locals := 45 } : Room) s m args below meth c (MQ below (hQi D ad cI cJ cF (v_X6_mean P) S) args s 0 0 (hAd ad)) 4 4 [(0, .ref (ad 10 0)), (1, .int (hI y)), (2, .int (hI g))] S) (B2 := fun y g k => hAt D ad cI cJ cF p l e ({ frames := 2, cells := 0, slots := 0, locals := 45 } : Room) s m args below meth c (MQ below (hQi D ad cI cJ cF (v_X6_mean P) S) args s 0 0 (hAd ad)) 4 16 [(0, .ref (ad 10 0)), (1, .int (hI y)), (2, .int (hI g)), (3, .int (hI k))] S) (fun g k => v_X6_ofStem P g k 1) (fun g => (v_X6_of P g 1).toNat) (P 1 0).toNat (c := 300) (fun g g0 g1 => by
      have := of_bd hm g0 (show g < 8 by omega)
      show (v_X6_of P g 1).toNat ≤ 6
      omega) (by omega) (by decide) (fun g k g0 g1 k0 k1 => by
      have e2 := em g g0 (by omega)
      have b2 := of_bd hm g0 (show g < 8 by omega)
      have k1 : k < (((v_X6_of P g 1).toNat : Nat) : Int) := k1
      exact (ofStem_bd hm g0 (by omega) k0 (by omega)).2.1) (fun g y g0 g1 hy h => r4 _ _ ⟨by omega, by omega⟩ ⟨by omega, by omega⟩ ⟨fun _ => h, fun z => by omega⟩) (fun y hy ey => r4 _ _ ⟨by omega, by omega⟩ ⟨by omega, by omega⟩ ⟨fun z => by omega, fun _ => ey⟩) (fun g k y g0 g1 k0 k1 hy h => by
      have e2 := em g g0 (by omega)
      have b2 := of_bd hm g0 (show g < 8 by omega)
      have k1 : k < (((v_X6_of P g 1).toNat : Nat) : Int) := k1
      have ob := (ofStem_bd hm g0 (by omega) k0 (by omega : k < 6)).2.1
      exact r16 _ _ _ ⟨by omega, by omega⟩ ⟨by omega, by omega⟩ ⟨by omega, by omega⟩ ⟨of_p g0 (by omega) (by decide) (by decide), fun _ => ⟨ofStem_p g0 (by omega) k0 (by omega) (by decide) (by decide), h⟩, fun z => by omega⟩) (fun g y g0 g1 hy h => by
      have e2 := em g g0 (by omega)
      have b2 := of_bd hm g0 (show g < 8 by omega)
      show hAt D ad cI cJ cF p l e ({ frames := 2, cells := 0, slots := 0, locals := 45 } : Room) s m args below meth c (MQ below (hQi D ad cI cJ cF (v_X6_mean P) S) args s 0 0 (hAd ad)) 4 16 [(0, .ref (ad 10 0)), (1, .int (hI y)), (2, .int (hI g)), (3, .int (hI (((v_X6_of P g 1).toNat : Nat) : Int)))] S
      rw [e2]
      exact r16 _ _ _ ⟨by omega, by omega⟩ ⟨by omega, by omega⟩ ⟨by omega, by omega⟩ ⟨of_p g0 (by omega) (by decide) (by decide), fun z => by omega, fun _ => h⟩)
  refine iv_iconst hx hb dX6_mean_0 ?_
  refine lv_istore_n (lv' := [(1, .int (hI 0)), (0, .ref (ad 10 0))]) hx hb dX6_mean_1 rfl hl (by decide) rfl (fun ls hl => ?_)
  refine iv_iconst hx hb dX6_mean_2 ?_
  refine lv_istore_n (lv' := [(2, .int (hI 0)), (1, .int (hI 0)), (0, .ref (ad 10 0))]) hx hb dX6_mean_3 rfl hl (by decide) rfl (fun ls hl => ?_)
  exact key H _ ls hh (lv_sub hl [2, 1, 0] rfl)
end
theorem sumN_ge {f g : Int → Int} (n : Nat) (h : ∀ k : Int, 0 ≤ k → k < n → f k ≤ g k) : sumN f n ≤ sumN g n := by
  induction n with
  | zero => exact Int.le_refl _
  | succ n ih => rw [sumN_s, sumN_s]; have := ih (fun k a b => h k a (by omega)); have := h n (by omega) (by omega); omega
theorem bt_mean {S : hS} {c : Int} (h : Inv S c) : Both S c (p_X5_mean S) (v_X5_mean S) S (p_X6_mean (S 10)) (v_X6_mean (S 10)) (S 10) := by
  have f := h.1.1.1
  have hm := h.1.1.2.1
  have n := rel_g h.1.1
  have es := stems_rel h.1.1
  have ew : v_X1_widthsTogether (S 0) = widM (S 10) := widths_rel h.1.1
  have wb := sumN_bd (f := S 0 4) (c := 300) 48 (fun k a b => (f.2.2.2.2.2.1 k a (by omega)).2.1)
  have ww : v_X1_widthsTogether (S 0) = sumN (S 0 4) 48 := rfl
  have sb := sumN_bd (f := S 0 2) (c := 6) 8 (fun k a b => (f.2.2.2.2.2.2 k a (by omega)).2)
  have ss : v_X1_stemsTogether (S 0) = sumN (S 0 2) 8 := rfl
  have le : v_X1_stemsTogether (S 0) ≤ v_X1_widthsTogether (S 0) := by
    rw [ss, ww, show (48 : Nat) = 6 * 8 from rfl, sumN_6]
    refine sumN_ge 8 (fun g g0 g1 => ?_)
    have m := rel_many h.1.1 g0 (by omega : g < 8)
    have a : sumN (fun k => if k < S 0 2 g then 1 else 0) 6 = S 0 2 g := by
      rw [sumN_cut (m := (S 0 2 g).toNat) (n := 6) (by omega) (fun k a b => if_neg (by omega)), sumN_1 _ (fun k a b => if_pos (by omega))]
      omega
    rw [← a]
    refine sumN_ge 6 (fun k k0 k1 => ?_)
    show (if k < S 0 2 g then (1 : Int) else 0) ≤ S 0 4 (g * 6 + k)
    split
    · next d => exact (rel_stem h.1.1 g0 (by omega : g < 8) k0 d).2.2.1.1
    · exact (f.2.2.2.2.2.1 (g * 6 + k) (by omega) (by omega)).2.1.1
  refine ⟨⟨f, fun _ => ⟨le, by omega⟩⟩, ?_, rfl, ⟨hm, fun z => ⟨by omega, by omega, by omega⟩, fun z => ?_⟩, inv_s0 h⟩
  · unfold v_X5_mean v_X6_mean
    rw [← es, ← ew]
    by_cases d : v_X1_stemsTogether (S 0) ≤ 0
    · rw [if_pos d, if_pos (by omega)]
    · rw [if_neg d, if_neg (by omega)]
  · rw [← es] at z
    rw [← ew, ww]
    refine sumN_0 48 (fun k k0 k1 => ?_)
    have kb := (f.2.2.2.2.2.1 k k0 (by omega)).2.1
    refine Decidable.byContradiction (fun y => ?_)
    obtain ⟨g, j, e, g0, j0⟩ := made_idx h.1.1 k0 (by omega) (by omega : 0 < S 0 4 k)
    have m := rel_many h.1.1 g0.1 (by omega : g < 8)
    have : sumN (fun i => if i = g then 1 else 0) 8 ≤ sumN (S 0 2) 8 := sumN_ge 8 (fun i i0 i1 => by
      show (if i = g then (1 : Int) else 0) ≤ S 0 2 i
      have mi := rel_many h.1.1 i0 (by omega : i < 8)
      split
      · next d => rw [d]; omega
      · omega)
    have pos := (cnt_some (p := fun i => i = g) 8).mpr ⟨g, g0.1, by omega, rfl⟩
    omega
